theorem updL_at (f : Nat → Int64) (x : Int64) : vp_updL f 0 x 0 = x := by unfold vp_updL; rw [if_pos rfl]
set_option maxRecDepth 20000 in
theorem mw_L_throwShells_0 : (.classLink RL 13 "java/lang/IllegalArgumentException" : Cond) ∈ wsL_throwShells := by decide +kernel
set_option maxRecDepth 20000 in
theorem mw_L_throwShells_1 : (.classLink RL 15 "java/lang/IllegalStateException" : Cond) ∈ wsL_throwShells := by decide +kernel
theorem f_L_throwShells : yL_throwShells.cls ≠ "java/lang/invoke/MethodHandle" ∧ yL_throwShells.cls ≠ "java/lang/invoke/VarHandle" ∧ (parseMethodDescriptor yL_throwShells.desc).map (fun d => d.parameters.length) = some 3 := by decide +kernel
set_option maxHeartbeats 4000000 in
set_option maxRecDepth 100000 in
theorem c_L_throwShells (l : Launch) (hst : l.stackTraces = false) (D : va_G) (cI cL : ClassId) (tw : Nat) (y0 : Nat) (y2 : Nat) (b : Nat) (pq : Nat) (cq : Nat) (tu : Int) (ph : Int) (mo : Int) (gc : Int) (P : Int → Int) (C : Int → Int) (o : Nat) (fo : Nat → Int64) (v1 : Int) (hB : ∀ i, 0 ≤ P i ∧ P i ≤ 72) (htu : 0 ≤ tu ∧ tu ≤ 3) (hgc : 0 ≤ gc ∧ gc ≤ 2) (hph : 0 ≤ ph ∧ ph ≤ 2) (hmo : 0 ≤ mo ∧ mo ≤ 6) (h_v1 : -2147483648 ≤ v1 ∧ v1 < 2147483648) : XWi l yL_throwShells wsL_throwShells { frames := 8, cells := 3, slots := 18, locals := 142 } D cI cL tw [.ref y0, .int (iI (v1)), .ref o] [(y0, .inr (1, [.ref b, .ref y2, .int (iI (tu)), .int (iI (gc)), .int (iI (ph)), .int (iI (mo))])), (y2, .inl (cI, 4, .inl (aI C))), (b, .inr (0, [.ref pq, .ref cq])), (pq, .inl (cI, 16, .inl (aI P))), (cq, .inl (cI, 136, .inl (aI (cnt P)))), (o, .inl (cL, 1, .inr (.inl fo)))] (fun (z : Int) (u : Int × Int × Int × Int × Int × (Nat → Int64)) => (z = 0 ∧ u.2.2.2.2.2 0 = (iI u.1).toInt64 ∧ 0 ≤ v1 ∧ v1 ≤ 6 ∧ ph = 0 ∧ tsR P tu gc mo v1 u.1 u.2.1 u.2.2.1 u.2.2.2.1 u.2.2.2.2.1) ∨ (z = 1 ∧ (¬ (0 ≤ v1 ∧ v1 ≤ 6)) ∧ u.2.1 = tu ∧ u.2.2.1 = gc ∧ u.2.2.2.1 = ph ∧ u.2.2.2.2.1 = mo) ∨ (z = 2 ∧ (0 ≤ v1 ∧ v1 ≤ 6 ∧ ph ≠ 0) ∧ u.2.1 = tu ∧ u.2.2.1 = gc ∧ u.2.2.2.1 = ph ∧ u.2.2.2.2.1 = mo)) (fun u : Int × Int × Int × Int × Int × (Nat → Int64) => [(y0, .inr (1, [.ref b, .ref y2, .int (iI (u.2.1)), .int (iI (u.2.2.1)), .int (iI (u.2.2.2.1)), .int (iI (u.2.2.2.2.1))])), (y2, .inl (cI, 4, .inl (aI C))), (b, .inr (0, [.ref pq, .ref cq])), (pq, .inl (cI, 16, .inl (aI P))), (cq, .inl (cI, 136, .inl (aI (cnt P)))), (o, .inl (cL, 1, .inr (.inl (u.2.2.2.2.2))))]) (fun _ => False) 3 18 := by
  refine lwi_of (cc := cL_throwShells) (maxL := 4) (own := RL) (by decide) rfl rfl (Nat.le_of_ble_eq_true rfl) ?_
  intro p e R s mt args below meth c H0 Q ls A S hR hRc hE hP hD hA hN hl htb hret
  have hS := hN.mono hA
  obtain ⟨hx, hb, hml, hown, hts⟩ := id S
  have hl : lv_has ls 4 [(0, .ref y0), (1, .int (iI (v1))), (2, .ref o)] := hl
  refine lv_aload_n hx hb dL_throwShells_0 rfl (lv_at hl 2 rfl) ?_
  refine r_iconst hx hb dL_throwShells_1 ?_
  refine lv_aload_n hx hb dL_throwShells_2 rfl (lv_at hl 0 rfl) ?_
  refine lv_iload_n hx hb dL_throwShells_3 rfl (lv_at hl 1 rfl) ?_
  refine r_xcW (As := [.int (iI (v1))]) (rest := [.int (iI (0)), .ref o]) (wr := [(o, .inl (cL, 1, .inr (.inl fo)))]) S (c_X1_throwShells l hst D cI cL tw (y0) (y2) (b) (pq) (cq) (tu) (ph) (mo) (gc) (P) (C) (v1) (hB) (by omega) (by omega) (by omega) (by omega) (by omega)) gL_throwShells_X1_throwShells rfl rfl rfl ⟨rfl, f_X1_throwShells⟩ hR (Nat.le_of_ble_eq_true rfl) (Nat.le_of_ble_eq_true rfl) (hE.kept hS.2.1) hP hD hS hA [0, 1, 2, 3, 4] [5] rfl rfl (by decide) rfl (by decide) (by decide) 0 rfl rfl rfl hl.1 rfl (Nat.le_of_ble_eq_true rfl) dL_throwShells_4 ⟨Nat.le_trans (Nat.le_of_ble_eq_true rfl) hRc.1, Nat.le_trans (Nat.le_of_ble_eq_true rfl) hRc.2⟩ (fun E9 ce9 q9 H locs hx9 h91 h92 h93 hP hS => ?_) (fun z4 u4 H locs hz4 hP hD hS => ?_)
  · have htb9 := htb
    rcases hx9 with ⟨rfl, hc9⟩ | ⟨rfl, hc9⟩
    · refine vx_catch (own := RL) hown [] ⟨0, 9, 12, 13⟩ [⟨0, 9, 15, 15⟩] (htb.trans rfl) (fun z hz => nomatch hz) (by decide) (by decide) (hts _ mw_L_throwShells_0) (nest_use (by decide +kernel) (hE.2.1 (.castable "java/lang/IllegalArgumentException" "java/lang/IllegalArgumentException") (by decide +kernel))) h91 h92 h93 ?_
      refine lv_astore_n (lv' := [(3, .ref q9), (0, .ref y0), (1, .int (iI (v1))), (2, .ref o)]) hx hb dL_throwShells_12 rfl hl (by decide) rfl (fun ls hl => ?_)
      refine r_iconst hx hb dL_throwShells_13 ?_
      exact hret (1) (0, tu, gc, ph, mo, fo) _ _ _ _ _ _ dL_throwShells_14 (by (try dsimp only); exact Or.inr (Or.inl ⟨rfl, hc9, rfl, rfl, rfl, rfl⟩)) hP hD hS (Nat.le_of_ble_eq_true rfl) (Nat.le_of_ble_eq_true rfl)
    · refine vx_catch (own := RL) hown [⟨0, 9, 12, 13⟩] ⟨0, 9, 15, 15⟩ [] (htb.trans rfl) (fun z hz => by rw [List.mem_singleton.mp hz]; exact Or.inr ⟨by decide, _, hts _ mw_L_throwShells_0, hE.2.2.2.2.2.2 ("java/lang/IllegalStateException", "java/lang/IllegalArgumentException") (by decide +kernel)⟩) (by decide) (by decide) (hts _ mw_L_throwShells_1) (nest_use (by decide +kernel) (hE.2.1 (.castable "java/lang/IllegalStateException" "java/lang/IllegalStateException") (by decide +kernel))) h91 h92 h93 ?_
      refine lv_astore_n (lv' := [(3, .ref q9), (0, .ref y0), (1, .int (iI (v1))), (2, .ref o)]) hx hb dL_throwShells_15 rfl hl (by decide) rfl (fun ls hl => ?_)
      refine r_iconst hx hb dL_throwShells_16 ?_
      exact hret (2) (0, tu, gc, ph, mo, fo) _ _ _ _ _ _ dL_throwShells_17 (by (try dsimp only); exact Or.inr (Or.inr ⟨rfl, hc9, rfl, rfl, rfl, rfl⟩)) hP hD hS (Nat.le_of_ble_eq_true rfl) (Nat.le_of_ble_eq_true rfl)
  · obtain ⟨u4a, u4b, u4c, u4d⟩ := u4
    dsimp only at hz4
    have hP : va_P D vwCl [(y0, .inr (1, [.ref b, .ref y2, .int (iI (u4a)), .int (iI (u4b)), .int (iI (u4c)), .int (iI (u4d))])), (y2, .inl (cI, 4, .inl (aI C))), (b, .inr (0, [.ref pq, .ref cq])), (pq, .inl (cI, 16, .inl (aI P))), (cq, .inl (cI, 136, .inl (aI (cnt P)))), (o, .inl (cL, 1, .inr (.inl fo)))] H := hP.sub [1, 2, 3, 4, 5, 0] rfl
    have hD : va_D A [(y0, .inr (1, [.ref b, .ref y2, .int (iI (u4a)), .int (iI (u4b)), .int (iI (u4c)), .int (iI (u4d))])), (y2, .inl (cI, 4, .inl (aI C))), (b, .inr (0, [.ref pq, .ref cq])), (pq, .inl (cI, 16, .inl (aI P))), (cq, .inl (cI, 136, .inl (aI (cnt P)))), (o, .inl (cL, 1, .inr (.inl fo)))] := hD.sub [1, 2, 3, 4, 5, 0] (by decide) rfl
    refine lv_i2l (v := (iI (z4)).toInt64) hx hb dL_throwShells_7 rfl ?_
    refine r_last0 hx hb hE.1 hP hD hS 5 rfl (ws1 := [(y0, .inr (1, [.ref b, .ref y2, .int (iI (u4a)), .int (iI (u4b)), .int (iI (u4c)), .int (iI (u4d))])), (y2, .inl (cI, 4, .inl (aI C))), (b, .inr (0, [.ref pq, .ref cq])), (pq, .inl (cI, 16, .inl (aI P))), (cq, .inl (cI, 136, .inl (aI (cnt P)))), (o, .inl (cL, 1, .inr (.inl (vp_updL fo 0 ((iI (z4)).toInt64)))))]) rfl dL_throwShells_8 (fun H locs hP hD hS => ?_)
    refine lv_goto (tgt := 18) hx hb dL_throwShells_9 (by decide) ?_
    refine r_iconst hx hb dL_throwShells_18 ?_
    exact hret (0) (z4, u4a, u4b, u4c, u4d, (vp_updL fo 0 ((iI (z4)).toInt64))) _ _ _ _ _ _ dL_throwShells_19 (by (try dsimp only); exact Or.inl ⟨rfl, updL_at _ _, hz4⟩) hP hD hS (Nat.le_of_ble_eq_true rfl) (Nat.le_of_ble_eq_true rfl)

set_option maxRecDepth 20000 in
theorem mw_L_move_0 : (.classLink RL 20 "java/lang/IndexOutOfBoundsException" : Cond) ∈ wsL_move := by decide +kernel
set_option maxRecDepth 20000 in
theorem mw_L_move_1 : (.classLink RL 15 "java/lang/IllegalStateException" : Cond) ∈ wsL_move := by decide +kernel
theorem f_L_move : yL_move.cls ≠ "java/lang/invoke/MethodHandle" ∧ yL_move.cls ≠ "java/lang/invoke/VarHandle" ∧ (parseMethodDescriptor yL_move.desc).map (fun d => d.parameters.length) = some 3 := by decide +kernel
set_option maxHeartbeats 4000000 in
set_option maxRecDepth 100000 in
theorem c_L_move (l : Launch) (hst : l.stackTraces = false) (D : va_G) (cI cL : ClassId) (tw : Nat) (y0 : Nat) (y2 : Nat) (b : Nat) (pq : Nat) (cq : Nat) (tu : Int) (ph : Int) (mo : Int) (gc : Int) (P : Int → Int) (C : Int → Int) (o : Nat) (fo : Nat → Int64) (v1 : Int) (hB : ∀ i, 0 ≤ P i ∧ P i ≤ 72) (htu : 0 ≤ tu ∧ tu ≤ 3) (hgc : 0 ≤ gc ∧ gc ≤ 2) (hph : 0 ≤ ph ∧ ph ≤ 2) (hmo : 0 ≤ mo ∧ mo ≤ 6) (h_v1 : -2147483648 ≤ v1 ∧ v1 < 2147483648) : XWi l yL_move wsL_move { frames := 8, cells := 3, slots := 18, locals := 144 } D cI cL tw [.ref y0, .int (iI (v1)), .ref o] [(y0, .inr (1, [.ref b, .ref y2, .int (iI (tu)), .int (iI (gc)), .int (iI (ph)), .int (iI (mo))])), (y2, .inl (cI, 4, .inl (aI C))), (b, .inr (0, [.ref pq, .ref cq])), (pq, .inl (cI, 16, .inl (aI P))), (cq, .inl (cI, 136, .inl (aI (cnt P)))), (o, .inl (cL, 1, .inr (.inl fo)))] (fun (z : Int) (u : Int × Int × Int × Int × (Int → Int) × (Int → Int) × (Nat → Int64)) => (z = 0 ∧ u.2.2.2.2.2.2 0 = (iI u.1).toInt64 ∧ 0 ≤ v1 ∧ v1 ≤ 3 ∧ ph = 1 ∧ mvR P C tu gc mo v1 u.1 u.2.1 u.2.2.1 u.2.2.2.1 u.2.2.2.2.1 u.2.2.2.2.2.1) ∨ (z = 1 ∧ (¬ (0 ≤ v1 ∧ v1 ≤ 3)) ∧ u.2.1 = tu ∧ u.2.2.1 = gc ∧ u.2.2.2.1 = ph ∧ u.2.2.2.2.1 = P ∧ u.2.2.2.2.2.1 = C) ∨ (z = 2 ∧ (0 ≤ v1 ∧ v1 ≤ 3 ∧ (ph ≠ 1 ∨ can P (4 * mv P tu + v1) mo = 0)) ∧ u.2.1 = tu ∧ u.2.2.1 = gc ∧ u.2.2.2.1 = ph ∧ u.2.2.2.2.1 = P ∧ u.2.2.2.2.2.1 = C)) (fun u : Int × Int × Int × Int × (Int → Int) × (Int → Int) × (Nat → Int64) => [(y0, .inr (1, [.ref b, .ref y2, .int (iI (u.2.1)), .int (iI (u.2.2.1)), .int (iI (u.2.2.2.1)), .int (iI (mo))])), (y2, .inl (cI, 4, .inl (aI (u.2.2.2.2.2.1)))), (b, .inr (0, [.ref pq, .ref cq])), (pq, .inl (cI, 16, .inl (aI (u.2.2.2.2.1)))), (cq, .inl (cI, 136, .inl (aI (cnt (u.2.2.2.2.1))))), (o, .inl (cL, 1, .inr (.inl (u.2.2.2.2.2.2))))]) (fun _ => False) 3 18 := by
  refine lwi_of (cc := cL_move) (maxL := 4) (own := RL) (by decide) rfl rfl (Nat.le_of_ble_eq_true rfl) ?_
  intro p e R s mt args below meth c H0 Q ls A S hR hRc hE hP hD hA hN hl htb hret
  have hS := hN.mono hA
  obtain ⟨hx, hb, hml, hown, hts⟩ := id S
  have hl : lv_has ls 4 [(0, .ref y0), (1, .int (iI (v1))), (2, .ref o)] := hl
  refine lv_aload_n hx hb dL_move_0 rfl (lv_at hl 2 rfl) ?_
  refine r_iconst hx hb dL_move_1 ?_
  refine lv_aload_n hx hb dL_move_2 rfl (lv_at hl 0 rfl) ?_
  refine lv_iload_n hx hb dL_move_3 rfl (lv_at hl 1 rfl) ?_
  refine r_xcW (As := [.int (iI (v1))]) (rest := [.int (iI (0)), .ref o]) (wr := [(o, .inl (cL, 1, .inr (.inl fo)))]) S (c_X1_move l hst D cI cL tw (y0) (y2) (b) (pq) (cq) (tu) (ph) (mo) (gc) (P) (C) (v1) (hB) (by omega) (by omega) (by omega) (by omega) (by omega)) gL_move_X1_move rfl rfl rfl ⟨rfl, f_X1_move⟩ hR (Nat.le_of_ble_eq_true rfl) (Nat.le_of_ble_eq_true rfl) (hE.kept hS.2.1) hP hD hS hA [0, 1, 2, 3, 4] [5] rfl rfl (by decide) rfl (by decide) (by decide) 0 rfl rfl rfl hl.1 rfl (Nat.le_of_ble_eq_true rfl) dL_move_4 ⟨Nat.le_trans (Nat.le_of_ble_eq_true rfl) hRc.1, Nat.le_trans (Nat.le_of_ble_eq_true rfl) hRc.2⟩ (fun E9 ce9 q9 H locs hx9 h91 h92 h93 hP hS => ?_) (fun z4 u4 H locs hz4 hP hD hS => ?_)
  · have htb9 := htb
    rcases hx9 with ⟨rfl, hc9⟩ | ⟨rfl, hc9⟩
    · refine vx_catch (own := RL) hown [] ⟨0, 9, 12, 20⟩ [⟨0, 9, 15, 15⟩] (htb.trans rfl) (fun z hz => nomatch hz) (by decide) (by decide) (hts _ mw_L_move_0) (nest_use (by decide +kernel) (hE.2.1 (.castable "java/lang/IndexOutOfBoundsException" "java/lang/IndexOutOfBoundsException") (by decide +kernel))) h91 h92 h93 ?_
      refine lv_astore_n (lv' := [(3, .ref q9), (0, .ref y0), (1, .int (iI (v1))), (2, .ref o)]) hx hb dL_move_12 rfl hl (by decide) rfl (fun ls hl => ?_)
      refine r_iconst hx hb dL_move_13 ?_
      exact hret (1) (0, tu, gc, ph, P, C, fo) _ _ _ _ _ _ dL_move_14 (by (try dsimp only); exact Or.inr (Or.inl ⟨rfl, hc9, rfl, rfl, rfl, rfl, rfl⟩)) hP hD hS (Nat.le_of_ble_eq_true rfl) (Nat.le_of_ble_eq_true rfl)
    · refine vx_catch (own := RL) hown [⟨0, 9, 12, 20⟩] ⟨0, 9, 15, 15⟩ [] (htb.trans rfl) (fun z hz => by rw [List.mem_singleton.mp hz]; exact Or.inr ⟨by decide, _, hts _ mw_L_move_0, hE.2.2.2.2.2.2 ("java/lang/IllegalStateException", "java/lang/IndexOutOfBoundsException") (by decide +kernel)⟩) (by decide) (by decide) (hts _ mw_L_move_1) (nest_use (by decide +kernel) (hE.2.1 (.castable "java/lang/IllegalStateException" "java/lang/IllegalStateException") (by decide +kernel))) h91 h92 h93 ?_
      refine lv_astore_n (lv' := [(3, .ref q9), (0, .ref y0), (1, .int (iI (v1))), (2, .ref o)]) hx hb dL_move_15 rfl hl (by decide) rfl (fun ls hl => ?_)
      refine r_iconst hx hb dL_move_16 ?_
      exact hret (2) (0, tu, gc, ph, P, C, fo) _ _ _ _ _ _ dL_move_17 (by (try dsimp only); exact Or.inr (Or.inr ⟨rfl, hc9, rfl, rfl, rfl, rfl, rfl⟩)) hP hD hS (Nat.le_of_ble_eq_true rfl) (Nat.le_of_ble_eq_true rfl)
  · obtain ⟨u4a, u4b, u4c, u4d, u4e⟩ := u4
    dsimp only at hz4
    have hP : va_P D vwCl [(y0, .inr (1, [.ref b, .ref y2, .int (iI (u4a)), .int (iI (u4b)), .int (iI (u4c)), .int (iI (mo))])), (y2, .inl (cI, 4, .inl (aI u4e))), (b, .inr (0, [.ref pq, .ref cq])), (pq, .inl (cI, 16, .inl (aI u4d))), (cq, .inl (cI, 136, .inl (aI (cnt u4d)))), (o, .inl (cL, 1, .inr (.inl fo)))] H := hP.sub [1, 2, 3, 4, 5, 0] rfl
    have hD : va_D A [(y0, .inr (1, [.ref b, .ref y2, .int (iI (u4a)), .int (iI (u4b)), .int (iI (u4c)), .int (iI (mo))])), (y2, .inl (cI, 4, .inl (aI u4e))), (b, .inr (0, [.ref pq, .ref cq])), (pq, .inl (cI, 16, .inl (aI u4d))), (cq, .inl (cI, 136, .inl (aI (cnt u4d)))), (o, .inl (cL, 1, .inr (.inl fo)))] := hD.sub [1, 2, 3, 4, 5, 0] (by decide) rfl
    refine lv_i2l (v := (iI (z4)).toInt64) hx hb dL_move_7 rfl ?_
    refine r_last0 hx hb hE.1 hP hD hS 5 rfl (ws1 := [(y0, .inr (1, [.ref b, .ref y2, .int (iI (u4a)), .int (iI (u4b)), .int (iI (u4c)), .int (iI (mo))])), (y2, .inl (cI, 4, .inl (aI u4e))), (b, .inr (0, [.ref pq, .ref cq])), (pq, .inl (cI, 16, .inl (aI u4d))), (cq, .inl (cI, 136, .inl (aI (cnt u4d)))), (o, .inl (cL, 1, .inr (.inl (vp_updL fo 0 ((iI (z4)).toInt64)))))]) rfl dL_move_8 (fun H locs hP hD hS => ?_)
    refine lv_goto (tgt := 18) hx hb dL_move_9 (by decide) ?_
    refine r_iconst hx hb dL_move_18 ?_
    exact hret (0) (z4, u4a, u4b, u4c, u4d, u4e, (vp_updL fo 0 ((iI (z4)).toInt64))) _ _ _ _ _ _ dL_move_19 (by (try dsimp only); exact Or.inl ⟨rfl, updL_at _ _, hz4⟩) hP hD hS (Nat.le_of_ble_eq_true rfl) (Nat.le_of_ble_eq_true rfl)

set_option maxRecDepth 20000 in
theorem mw_L_movable_0 : (.classLink RL 15 "java/lang/IllegalStateException" : Cond) ∈ wsL_movable := by decide +kernel
theorem f_L_movable : yL_movable.cls ≠ "java/lang/invoke/MethodHandle" ∧ yL_movable.cls ≠ "java/lang/invoke/VarHandle" ∧ (parseMethodDescriptor yL_movable.desc).map (fun d => d.parameters.length) = some 2 := by decide +kernel
set_option maxHeartbeats 4000000 in
set_option maxRecDepth 100000 in
theorem c_L_movable (l : Launch) (hst : l.stackTraces = false) (D : va_G) (cI cL : ClassId) (tw : Nat) (y0 : Nat) (y2 : Nat) (b : Nat) (pq : Nat) (cq : Nat) (tu : Int) (ph : Int) (mo : Int) (gc : Int) (P : Int → Int) (C : Int → Int) (o : Nat) (fo : Nat → Int64) (hB : ∀ i, 0 ≤ P i ∧ P i ≤ 72) (htu : 0 ≤ tu ∧ tu ≤ 3) (hgc : 0 ≤ gc ∧ gc ≤ 2) (hph : 0 ≤ ph ∧ ph ≤ 2) (hmo : 0 ≤ mo ∧ mo ≤ 6) : XWi l yL_movable wsL_movable { frames := 8, cells := 3, slots := 18, locals := 140 } D cI cL tw [.ref y0, .ref o] [(y0, .inr (1, [.ref b, .ref y2, .int (iI (tu)), .int (iI (gc)), .int (iI (ph)), .int (iI (mo))])), (y2, .inl (cI, 4, .inl (aI C))), (b, .inr (0, [.ref pq, .ref cq])), (pq, .inl (cI, 16, .inl (aI P))), (cq, .inl (cI, 136, .inl (aI (cnt P)))), (o, .inl (cL, 1, .inr (.inl fo)))] (fun (z : Int) (u : Int × (Nat → Int64)) => (z = 0 ∧ u.2 0 = (iI u.1).toInt64 ∧ ph = 1 ∧ u.1 = ms P (mv P tu) mo) ∨ (z = 1 ∧ (ph ≠ 1))) (fun u : Int × (Nat → Int64) => [(y0, .inr (1, [.ref b, .ref y2, .int (iI (tu)), .int (iI (gc)), .int (iI (ph)), .int (iI (mo))])), (y2, .inl (cI, 4, .inl (aI C))), (b, .inr (0, [.ref pq, .ref cq])), (pq, .inl (cI, 16, .inl (aI P))), (cq, .inl (cI, 136, .inl (aI (cnt P)))), (o, .inl (cL, 1, .inr (.inl (u.2))))]) (fun _ => False) 3 18 := by
  refine lwi_of (cc := cL_movable) (maxL := 3) (own := RL) (by decide) rfl rfl (Nat.le_of_ble_eq_true rfl) ?_
  intro p e R s mt args below meth c H0 Q ls A S hR hRc hE hP hD hA hN hl htb hret
  have hS := hN.mono hA
  obtain ⟨hx, hb, hml, hown, hts⟩ := id S
  have hl : lv_has ls 3 [(0, .ref y0), (1, .ref o)] := hl
  refine lv_aload_n hx hb dL_movable_0 rfl (lv_at hl 1 rfl) ?_
  refine r_iconst hx hb dL_movable_1 ?_
  refine lv_aload_n hx hb dL_movable_2 rfl (lv_at hl 0 rfl) ?_
  refine r_xcVi (As := []) (rest := [.int (iI (0)), .ref o]) S (c_X1_movable l hst D cI cL tw (y0) (y2) (b) (pq) (cq) (tu) (ph) (mo) (gc) (P) (C) (hB) (by omega) (by omega) (by omega) (by omega)) gL_movable_X1_movable rfl rfl rfl ⟨rfl, f_X1_movable⟩ hR (Nat.le_of_ble_eq_true rfl) (Nat.le_of_ble_eq_true rfl) (hE.kept hS.2.1) hP hN [0, 1, 2, 3, 4] rfl 0 rfl rfl rfl hl.1 rfl (Nat.le_of_ble_eq_true rfl) dL_movable_3 ⟨Nat.le_trans (Nat.le_of_ble_eq_true rfl) hRc.1, Nat.le_trans (Nat.le_of_ble_eq_true rfl) hRc.2⟩ (fun E9 ce9 q9 H locs hx9 h91 h92 h93 hP hN => ?_) (fun z3 H locs hz3 hP hN => ?_)
  · have htb9 := htb
    have hS := hN.mono hA
    rcases hx9 with ⟨rfl, hc9⟩
    refine vx_catch (own := RL) hown [] ⟨0, 8, 11, 15⟩ [] (htb.trans rfl) (fun z hz => nomatch hz) (by decide) (by decide) (hts _ mw_L_movable_0) (nest_use (by decide +kernel) (hE.2.1 (.castable "java/lang/IllegalStateException" "java/lang/IllegalStateException") (by decide +kernel))) h91 h92 h93 ?_
    refine lv_astore_n (lv' := [(2, .ref q9), (0, .ref y0), (1, .ref o)]) hx hb dL_movable_11 rfl hl (by decide) rfl (fun ls hl => ?_)
    refine r_iconst hx hb dL_movable_12 ?_
    exact hret (1) (0, fo) _ _ _ _ _ _ dL_movable_13 (by (try dsimp only); exact Or.inr ⟨rfl, hc9⟩) hP hD hS (Nat.le_of_ble_eq_true rfl) (Nat.le_of_ble_eq_true rfl)
  · have hS := hN.mono hA
    refine lv_i2l (v := (iI (z3)).toInt64) hx hb dL_movable_6 rfl ?_
    refine r_last0 hx hb hE.1 hP hD hS 5 rfl (ws1 := [(y0, .inr (1, [.ref b, .ref y2, .int (iI (tu)), .int (iI (gc)), .int (iI (ph)), .int (iI (mo))])), (y2, .inl (cI, 4, .inl (aI C))), (b, .inr (0, [.ref pq, .ref cq])), (pq, .inl (cI, 16, .inl (aI P))), (cq, .inl (cI, 136, .inl (aI (cnt P)))), (o, .inl (cL, 1, .inr (.inl (vp_updL fo 0 ((iI (z3)).toInt64)))))]) rfl dL_movable_7 (fun H locs hP hD hS => ?_)
    refine lv_goto (tgt := 14) hx hb dL_movable_8 (by decide) ?_
    refine r_iconst hx hb dL_movable_14 ?_
    exact hret (0) (z3, (vp_updL fo 0 ((iI (z3)).toInt64))) _ _ _ _ _ _ dL_movable_15 (by (try dsimp only); exact Or.inl ⟨rfl, updL_at _ _, hz3⟩) hP hD hS (Nat.le_of_ble_eq_true rfl) (Nat.le_of_ble_eq_true rfl)

set_option maxRecDepth 20000 in
theorem mw_L_position_0 : (.classLink RL 20 "java/lang/IndexOutOfBoundsException" : Cond) ∈ wsL_position := by decide +kernel
theorem f_L_position : yL_position.cls ≠ "java/lang/invoke/MethodHandle" ∧ yL_position.cls ≠ "java/lang/invoke/VarHandle" ∧ (parseMethodDescriptor yL_position.desc).map (fun d => d.parameters.length) = some 4 := by decide +kernel
set_option maxHeartbeats 4000000 in
set_option maxRecDepth 100000 in
theorem c_L_position (l : Launch) (hst : l.stackTraces = false) (D : va_G) (cI cL : ClassId) (tw : Nat) (y0 : Nat) (y2 : Nat) (b : Nat) (pq : Nat) (cq : Nat) (tu : Int) (ph : Int) (mo : Int) (gc : Int) (P : Int → Int) (C : Int → Int) (o : Nat) (fo : Nat → Int64) (v1 : Int) (v2 : Int) (hB : ∀ i, 0 ≤ P i ∧ P i ≤ 72) (htu : 0 ≤ tu ∧ tu ≤ 3) (hgc : 0 ≤ gc ∧ gc ≤ 2) (hph : 0 ≤ ph ∧ ph ≤ 2) (hmo : 0 ≤ mo ∧ mo ≤ 6) (h_v1 : -2147483648 ≤ v1 ∧ v1 < 2147483648) (h_v2 : -2147483648 ≤ v2 ∧ v2 < 2147483648) : XWi l yL_position wsL_position { frames := 8, cells := 3, slots := 18, locals := 142 } D cI cL tw [.ref y0, .int (iI (v1)), .int (iI (v2)), .ref o] [(y0, .inr (1, [.ref b, .ref y2, .int (iI (tu)), .int (iI (gc)), .int (iI (ph)), .int (iI (mo))])), (y2, .inl (cI, 4, .inl (aI C))), (b, .inr (0, [.ref pq, .ref cq])), (pq, .inl (cI, 16, .inl (aI P))), (cq, .inl (cI, 136, .inl (aI (cnt P)))), (o, .inl (cL, 1, .inr (.inl fo)))] (fun (z : Int) (u : Int × (Nat → Int64)) => (z = 0 ∧ u.2 0 = (iI u.1).toInt64 ∧ 0 ≤ v1 ∧ v1 ≤ 3 ∧ 0 ≤ v2 ∧ v2 ≤ 3 ∧ u.1 = P (4 * v1 + v2)) ∨ (z = 1 ∧ (¬ (0 ≤ v1 ∧ v1 ≤ 3 ∧ 0 ≤ v2 ∧ v2 ≤ 3)))) (fun u : Int × (Nat → Int64) => [(y0, .inr (1, [.ref b, .ref y2, .int (iI (tu)), .int (iI (gc)), .int (iI (ph)), .int (iI (mo))])), (y2, .inl (cI, 4, .inl (aI C))), (b, .inr (0, [.ref pq, .ref cq])), (pq, .inl (cI, 16, .inl (aI P))), (cq, .inl (cI, 136, .inl (aI (cnt P)))), (o, .inl (cL, 1, .inr (.inl (u.2))))]) (fun _ => False) 3 18 := by
  refine lwi_of (cc := cL_position) (maxL := 5) (own := RL) (by decide) rfl rfl (Nat.le_of_ble_eq_true rfl) ?_
  intro p e R s mt args below meth c H0 Q ls A S hR hRc hE hP hD hA hN hl htb hret
  have hS := hN.mono hA
  obtain ⟨hx, hb, hml, hown, hts⟩ := id S
  have hl : lv_has ls 5 [(0, .ref y0), (1, .int (iI (v1))), (2, .int (iI (v2))), (3, .ref o)] := hl
  refine lv_aload_n hx hb dL_position_0 rfl (lv_at hl 3 rfl) ?_
  refine r_iconst hx hb dL_position_1 ?_
  refine lv_aload_n hx hb dL_position_2 rfl (lv_at hl 0 rfl) ?_
  refine lv_iload_n hx hb dL_position_3 rfl (lv_at hl 1 rfl) ?_
  refine lv_iload_n hx hb dL_position_4 rfl (lv_at hl 2 rfl) ?_
  refine r_xcVi (As := [.int (iI (v1)), .int (iI (v2))]) (rest := [.int (iI (0)), .ref o]) S (c_X1_position l hst D cI cL tw (y0) (y2) (b) (pq) (cq) (tu) (ph) (mo) (gc) (P) (C) (v1) (v2) (hB) (by omega) (by omega) (by omega) (by omega) (by omega) (by omega)) gL_position_X1_position rfl rfl rfl ⟨rfl, f_X1_position⟩ hR (Nat.le_of_ble_eq_true rfl) (Nat.le_of_ble_eq_true rfl) (hE.kept hS.2.1) hP hN [0, 1, 2, 3, 4] rfl 0 rfl rfl rfl hl.1 rfl (Nat.le_of_ble_eq_true rfl) dL_position_5 ⟨Nat.le_trans (Nat.le_of_ble_eq_true rfl) hRc.1, Nat.le_trans (Nat.le_of_ble_eq_true rfl) hRc.2⟩ (fun E9 ce9 q9 H locs hx9 h91 h92 h93 hP hN => ?_) (fun z5 H locs hz5 hP hN => ?_)
  · have htb9 := htb
    have hS := hN.mono hA
    rcases hx9 with ⟨rfl, hc9⟩
    refine vx_catch (own := RL) hown [] ⟨0, 10, 13, 20⟩ [] (htb.trans rfl) (fun z hz => nomatch hz) (by decide) (by decide) (hts _ mw_L_position_0) (nest_use (by decide +kernel) (hE.2.1 (.castable "java/lang/IndexOutOfBoundsException" "java/lang/IndexOutOfBoundsException") (by decide +kernel))) h91 h92 h93 ?_
    refine lv_astore (lv' := [(4, .ref q9), (0, .ref y0), (1, .int (iI (v1))), (2, .int (iI (v2))), (3, .ref o)]) hx hb dL_position_13 hl (by decide) rfl (fun ls hl => ?_)
    refine r_iconst hx hb dL_position_15 ?_
    exact hret (1) (0, fo) _ _ _ _ _ _ dL_position_16 (by (try dsimp only); exact Or.inr ⟨rfl, hc9⟩) hP hD hS (Nat.le_of_ble_eq_true rfl) (Nat.le_of_ble_eq_true rfl)
  · have hS := hN.mono hA
    refine lv_i2l (v := (iI (z5)).toInt64) hx hb dL_position_8 rfl ?_
    refine r_last0 hx hb hE.1 hP hD hS 5 rfl (ws1 := [(y0, .inr (1, [.ref b, .ref y2, .int (iI (tu)), .int (iI (gc)), .int (iI (ph)), .int (iI (mo))])), (y2, .inl (cI, 4, .inl (aI C))), (b, .inr (0, [.ref pq, .ref cq])), (pq, .inl (cI, 16, .inl (aI P))), (cq, .inl (cI, 136, .inl (aI (cnt P)))), (o, .inl (cL, 1, .inr (.inl (vp_updL fo 0 ((iI (z5)).toInt64)))))]) rfl dL_position_9 (fun H locs hP hD hS => ?_)
    refine lv_goto (tgt := 17) hx hb dL_position_10 (by decide) ?_
    refine r_iconst hx hb dL_position_17 ?_
    exact hret (0) (z5, (vp_updL fo 0 ((iI (z5)).toInt64))) _ _ _ _ _ _ dL_position_18 (by (try dsimp only); exact Or.inl ⟨rfl, updL_at _ _, hz5⟩) hP hD hS (Nat.le_of_ble_eq_true rfl) (Nat.le_of_ble_eq_true rfl)

set_option maxRecDepth 20000 in
theorem mw_L_square_0 : (.classLink RL 20 "java/lang/IndexOutOfBoundsException" : Cond) ∈ wsL_square := by decide +kernel
theorem f_L_square : yL_square.cls ≠ "java/lang/invoke/MethodHandle" ∧ yL_square.cls ≠ "java/lang/invoke/VarHandle" ∧ (parseMethodDescriptor yL_square.desc).map (fun d => d.parameters.length) = some 4 := by decide +kernel
set_option maxHeartbeats 4000000 in
set_option maxRecDepth 100000 in
theorem c_L_square (l : Launch) (hst : l.stackTraces = false) (D : va_G) (cI cL : ClassId) (tw : Nat) (y0 : Nat) (y2 : Nat) (b : Nat) (pq : Nat) (cq : Nat) (tu : Int) (ph : Int) (mo : Int) (gc : Int) (P : Int → Int) (C : Int → Int) (o : Nat) (fo : Nat → Int64) (v1 : Int) (v2 : Int) (hB : ∀ i, 0 ≤ P i ∧ P i ≤ 72) (htu : 0 ≤ tu ∧ tu ≤ 3) (hgc : 0 ≤ gc ∧ gc ≤ 2) (hph : 0 ≤ ph ∧ ph ≤ 2) (hmo : 0 ≤ mo ∧ mo ≤ 6) (h_v1 : -2147483648 ≤ v1 ∧ v1 < 2147483648) (h_v2 : -2147483648 ≤ v2 ∧ v2 < 2147483648) : XWi l yL_square wsL_square { frames := 8, cells := 3, slots := 18, locals := 142 } D cI cL tw [.ref y0, .int (iI (v1)), .int (iI (v2)), .ref o] [(y0, .inr (1, [.ref b, .ref y2, .int (iI (tu)), .int (iI (gc)), .int (iI (ph)), .int (iI (mo))])), (y2, .inl (cI, 4, .inl (aI C))), (b, .inr (0, [.ref pq, .ref cq])), (pq, .inl (cI, 16, .inl (aI P))), (cq, .inl (cI, 136, .inl (aI (cnt P)))), (o, .inl (cL, 1, .inr (.inl fo)))] (fun (z : Int) (u : Int × (Nat → Int64)) => (z = 0 ∧ u.2 0 = (iI u.1).toInt64 ∧ 0 ≤ v1 ∧ v1 ≤ 3 ∧ 0 ≤ v2 ∧ v2 ≤ 3 ∧ u.1 = sA v1 (P (4 * v1 + v2))) ∨ (z = 1 ∧ (¬ (0 ≤ v1 ∧ v1 ≤ 3 ∧ 0 ≤ v2 ∧ v2 ≤ 3)))) (fun u : Int × (Nat → Int64) => [(y0, .inr (1, [.ref b, .ref y2, .int (iI (tu)), .int (iI (gc)), .int (iI (ph)), .int (iI (mo))])), (y2, .inl (cI, 4, .inl (aI C))), (b, .inr (0, [.ref pq, .ref cq])), (pq, .inl (cI, 16, .inl (aI P))), (cq, .inl (cI, 136, .inl (aI (cnt P)))), (o, .inl (cL, 1, .inr (.inl (u.2))))]) (fun _ => False) 3 18 := by
  refine lwi_of (cc := cL_square) (maxL := 5) (own := RL) (by decide) rfl rfl (Nat.le_of_ble_eq_true rfl) ?_
  intro p e R s mt args below meth c H0 Q ls A S hR hRc hE hP hD hA hN hl htb hret
  have hS := hN.mono hA
  obtain ⟨hx, hb, hml, hown, hts⟩ := id S
  have hl : lv_has ls 5 [(0, .ref y0), (1, .int (iI (v1))), (2, .int (iI (v2))), (3, .ref o)] := hl
  refine lv_aload_n hx hb dL_square_0 rfl (lv_at hl 3 rfl) ?_
  refine r_iconst hx hb dL_square_1 ?_
  refine lv_aload_n hx hb dL_square_2 rfl (lv_at hl 0 rfl) ?_
  refine lv_iload_n hx hb dL_square_3 rfl (lv_at hl 1 rfl) ?_
  refine lv_iload_n hx hb dL_square_4 rfl (lv_at hl 2 rfl) ?_
  refine r_xcVi (As := [.int (iI (v1)), .int (iI (v2))]) (rest := [.int (iI (0)), .ref o]) S (c_X1_square l hst D cI cL tw (y0) (y2) (b) (pq) (cq) (tu) (ph) (mo) (gc) (P) (C) (v1) (v2) (hB) (by omega) (by omega) (by omega) (by omega) (by omega) (by omega)) gL_square_X1_square rfl rfl rfl ⟨rfl, f_X1_square⟩ hR (Nat.le_of_ble_eq_true rfl) (Nat.le_of_ble_eq_true rfl) (hE.kept hS.2.1) hP hN [0, 1, 2, 3, 4] rfl 0 rfl rfl rfl hl.1 rfl (Nat.le_of_ble_eq_true rfl) dL_square_5 ⟨Nat.le_trans (Nat.le_of_ble_eq_true rfl) hRc.1, Nat.le_trans (Nat.le_of_ble_eq_true rfl) hRc.2⟩ (fun E9 ce9 q9 H locs hx9 h91 h92 h93 hP hN => ?_) (fun z5 H locs hz5 hP hN => ?_)
  · have htb9 := htb
    have hS := hN.mono hA
    rcases hx9 with ⟨rfl, hc9⟩
    refine vx_catch (own := RL) hown [] ⟨0, 10, 13, 20⟩ [] (htb.trans rfl) (fun z hz => nomatch hz) (by decide) (by decide) (hts _ mw_L_square_0) (nest_use (by decide +kernel) (hE.2.1 (.castable "java/lang/IndexOutOfBoundsException" "java/lang/IndexOutOfBoundsException") (by decide +kernel))) h91 h92 h93 ?_
    refine lv_astore (lv' := [(4, .ref q9), (0, .ref y0), (1, .int (iI (v1))), (2, .int (iI (v2))), (3, .ref o)]) hx hb dL_square_13 hl (by decide) rfl (fun ls hl => ?_)
    refine r_iconst hx hb dL_square_15 ?_
    exact hret (1) (0, fo) _ _ _ _ _ _ dL_square_16 (by (try dsimp only); exact Or.inr ⟨rfl, hc9⟩) hP hD hS (Nat.le_of_ble_eq_true rfl) (Nat.le_of_ble_eq_true rfl)
  · have hS := hN.mono hA
    refine lv_i2l (v := (iI (z5)).toInt64) hx hb dL_square_8 rfl ?_
    refine r_last0 hx hb hE.1 hP hD hS 5 rfl (ws1 := [(y0, .inr (1, [.ref b, .ref y2, .int (iI (tu)), .int (iI (gc)), .int (iI (ph)), .int (iI (mo))])), (y2, .inl (cI, 4, .inl (aI C))), (b, .inr (0, [.ref pq, .ref cq])), (pq, .inl (cI, 16, .inl (aI P))), (cq, .inl (cI, 136, .inl (aI (cnt P)))), (o, .inl (cL, 1, .inr (.inl (vp_updL fo 0 ((iI (z5)).toInt64)))))]) rfl dL_square_9 (fun H locs hP hD hS => ?_)
    refine lv_goto (tgt := 17) hx hb dL_square_10 (by decide) ?_
    refine r_iconst hx hb dL_square_17 ?_
    exact hret (0) (z5, (vp_updL fo 0 ((iI (z5)).toInt64))) _ _ _ _ _ _ dL_square_18 (by (try dsimp only); exact Or.inl ⟨rfl, updL_at _ _, hz5⟩) hP hD hS (Nat.le_of_ble_eq_true rfl) (Nat.le_of_ble_eq_true rfl)

set_option maxRecDepth 20000 in
theorem mw_L_standing_0 : (.classLink RL 20 "java/lang/IndexOutOfBoundsException" : Cond) ∈ wsL_standing := by decide +kernel
set_option maxRecDepth 20000 in
theorem mw_L_standing_1 : (.classLink RL 13 "java/lang/IllegalArgumentException" : Cond) ∈ wsL_standing := by decide +kernel
theorem f_L_standing : yL_standing.cls ≠ "java/lang/invoke/MethodHandle" ∧ yL_standing.cls ≠ "java/lang/invoke/VarHandle" ∧ (parseMethodDescriptor yL_standing.desc).map (fun d => d.parameters.length) = some 4 := by decide +kernel
set_option maxHeartbeats 4000000 in
set_option maxRecDepth 100000 in
theorem c_L_standing (l : Launch) (hst : l.stackTraces = false) (D : va_G) (cI cL : ClassId) (tw : Nat) (y0 : Nat) (y2 : Nat) (b : Nat) (pq : Nat) (cq : Nat) (tu : Int) (ph : Int) (mo : Int) (gc : Int) (P : Int → Int) (C : Int → Int) (o : Nat) (fo : Nat → Int64) (v1 : Int) (v2 : Int) (hB : ∀ i, 0 ≤ P i ∧ P i ≤ 72) (htu : 0 ≤ tu ∧ tu ≤ 3) (hgc : 0 ≤ gc ∧ gc ≤ 2) (hph : 0 ≤ ph ∧ ph ≤ 2) (hmo : 0 ≤ mo ∧ mo ≤ 6) (h_v1 : -2147483648 ≤ v1 ∧ v1 < 2147483648) (h_v2 : -2147483648 ≤ v2 ∧ v2 < 2147483648) : XWi l yL_standing wsL_standing { frames := 8, cells := 3, slots := 18, locals := 142 } D cI cL tw [.ref y0, .int (iI (v1)), .int (iI (v2)), .ref o] [(y0, .inr (1, [.ref b, .ref y2, .int (iI (tu)), .int (iI (gc)), .int (iI (ph)), .int (iI (mo))])), (y2, .inl (cI, 4, .inl (aI C))), (b, .inr (0, [.ref pq, .ref cq])), (pq, .inl (cI, 16, .inl (aI P))), (cq, .inl (cI, 136, .inl (aI (cnt P)))), (o, .inl (cL, 1, .inr (.inl fo)))] (fun (z : Int) (u : Int × (Nat → Int64)) => (z = 0 ∧ u.2 0 = (iI u.1).toInt64 ∧ 0 ≤ v1 ∧ v1 ≤ 67 ∧ 0 ≤ v2 ∧ v2 ≤ 1 ∧ u.1 = stand P v1 v2) ∨ (z = 1 ∧ (¬ (0 ≤ v1 ∧ v1 ≤ 67))) ∨ (z = 2 ∧ (0 ≤ v1 ∧ v1 ≤ 67 ∧ ¬ (0 ≤ v2 ∧ v2 ≤ 1)))) (fun u : Int × (Nat → Int64) => [(y0, .inr (1, [.ref b, .ref y2, .int (iI (tu)), .int (iI (gc)), .int (iI (ph)), .int (iI (mo))])), (y2, .inl (cI, 4, .inl (aI C))), (b, .inr (0, [.ref pq, .ref cq])), (pq, .inl (cI, 16, .inl (aI P))), (cq, .inl (cI, 136, .inl (aI (cnt P)))), (o, .inl (cL, 1, .inr (.inl (u.2))))]) (fun _ => False) 3 18 := by
  refine lwi_of (cc := cL_standing) (maxL := 5) (own := RL) (by decide) rfl rfl (Nat.le_of_ble_eq_true rfl) ?_
  intro p e R s mt args below meth c H0 Q ls A S hR hRc hE hP hD hA hN hl htb hret
  have hS := hN.mono hA
  obtain ⟨hx, hb, hml, hown, hts⟩ := id S
  have hl : lv_has ls 5 [(0, .ref y0), (1, .int (iI (v1))), (2, .int (iI (v2))), (3, .ref o)] := hl
  refine lv_aload_n hx hb dL_standing_0 rfl (lv_at hl 3 rfl) ?_
  refine r_iconst hx hb dL_standing_1 ?_
  refine lv_aload_n hx hb dL_standing_2 rfl (lv_at hl 0 rfl) ?_
  refine lv_iload_n hx hb dL_standing_3 rfl (lv_at hl 1 rfl) ?_
  refine lv_iload_n hx hb dL_standing_4 rfl (lv_at hl 2 rfl) ?_
  refine r_xcVi (As := [.int (iI (v1)), .int (iI (v2))]) (rest := [.int (iI (0)), .ref o]) S (c_X1_standing l hst D cI cL tw (y0) (y2) (b) (pq) (cq) (tu) (ph) (mo) (gc) (P) (C) (v1) (v2) (hB) (by omega) (by omega) (by omega) (by omega) (by omega) (by omega)) gL_standing_X1_standing rfl rfl rfl ⟨rfl, f_X1_standing⟩ hR (Nat.le_of_ble_eq_true rfl) (Nat.le_of_ble_eq_true rfl) (hE.kept hS.2.1) hP hN [0, 1, 2, 3, 4] rfl 0 rfl rfl rfl hl.1 rfl (Nat.le_of_ble_eq_true rfl) dL_standing_5 ⟨Nat.le_trans (Nat.le_of_ble_eq_true rfl) hRc.1, Nat.le_trans (Nat.le_of_ble_eq_true rfl) hRc.2⟩ (fun E9 ce9 q9 H locs hx9 h91 h92 h93 hP hN => ?_) (fun z5 H locs hz5 hP hN => ?_)
  · have htb9 := htb
    have hS := hN.mono hA
    rcases hx9 with ⟨rfl, hc9⟩ | ⟨rfl, hc9⟩
    · refine vx_catch (own := RL) hown [] ⟨0, 10, 13, 20⟩ [⟨0, 10, 17, 13⟩] (htb.trans rfl) (fun z hz => nomatch hz) (by decide) (by decide) (hts _ mw_L_standing_0) (nest_use (by decide +kernel) (hE.2.1 (.castable "java/lang/IndexOutOfBoundsException" "java/lang/IndexOutOfBoundsException") (by decide +kernel))) h91 h92 h93 ?_
      refine lv_astore (lv' := [(4, .ref q9), (0, .ref y0), (1, .int (iI (v1))), (2, .int (iI (v2))), (3, .ref o)]) hx hb dL_standing_13 hl (by decide) rfl (fun ls hl => ?_)
      refine r_iconst hx hb dL_standing_15 ?_
      exact hret (1) (0, fo) _ _ _ _ _ _ dL_standing_16 (by (try dsimp only); exact Or.inr (Or.inl ⟨rfl, hc9⟩)) hP hD hS (Nat.le_of_ble_eq_true rfl) (Nat.le_of_ble_eq_true rfl)
    · refine vx_catch (own := RL) hown [⟨0, 10, 13, 20⟩] ⟨0, 10, 17, 13⟩ [] (htb.trans rfl) (fun z hz => by rw [List.mem_singleton.mp hz]; exact Or.inr ⟨by decide, _, hts _ mw_L_standing_0, hE.2.2.2.2.2.2 ("java/lang/IllegalArgumentException", "java/lang/IndexOutOfBoundsException") (by decide +kernel)⟩) (by decide) (by decide) (hts _ mw_L_standing_1) (nest_use (by decide +kernel) (hE.2.1 (.castable "java/lang/IllegalArgumentException" "java/lang/IllegalArgumentException") (by decide +kernel))) h91 h92 h93 ?_
      refine lv_astore (lv' := [(4, .ref q9), (0, .ref y0), (1, .int (iI (v1))), (2, .int (iI (v2))), (3, .ref o)]) hx hb dL_standing_17 hl (by decide) rfl (fun ls hl => ?_)
      refine r_iconst hx hb dL_standing_19 ?_
      exact hret (2) (0, fo) _ _ _ _ _ _ dL_standing_20 (by (try dsimp only); exact Or.inr (Or.inr ⟨rfl, hc9⟩)) hP hD hS (Nat.le_of_ble_eq_true rfl) (Nat.le_of_ble_eq_true rfl)
  · have hS := hN.mono hA
    refine lv_i2l (v := (iI (z5)).toInt64) hx hb dL_standing_8 rfl ?_
    refine r_last0 hx hb hE.1 hP hD hS 5 rfl (ws1 := [(y0, .inr (1, [.ref b, .ref y2, .int (iI (tu)), .int (iI (gc)), .int (iI (ph)), .int (iI (mo))])), (y2, .inl (cI, 4, .inl (aI C))), (b, .inr (0, [.ref pq, .ref cq])), (pq, .inl (cI, 16, .inl (aI P))), (cq, .inl (cI, 136, .inl (aI (cnt P)))), (o, .inl (cL, 1, .inr (.inl (vp_updL fo 0 ((iI (z5)).toInt64)))))]) rfl dL_standing_9 (fun H locs hP hD hS => ?_)
    refine lv_goto (tgt := 21) hx hb dL_standing_10 (by decide) ?_
    refine r_iconst hx hb dL_standing_21 ?_
    exact hret (0) (z5, (vp_updL fo 0 ((iI (z5)).toInt64))) _ _ _ _ _ _ dL_standing_22 (by (try dsimp only); exact Or.inl ⟨rfl, updL_at _ _, hz5⟩) hP hD hS (Nat.le_of_ble_eq_true rfl) (Nat.le_of_ble_eq_true rfl)

set_option maxRecDepth 20000 in
theorem mw_L_isSafe_0 : (.classLink RL 20 "java/lang/IndexOutOfBoundsException" : Cond) ∈ wsL_isSafe := by decide +kernel
theorem f_L_isSafe : yL_isSafe.cls ≠ "java/lang/invoke/MethodHandle" ∧ yL_isSafe.cls ≠ "java/lang/invoke/VarHandle" ∧ (parseMethodDescriptor yL_isSafe.desc).map (fun d => d.parameters.length) = some 3 := by decide +kernel
set_option maxHeartbeats 4000000 in
set_option maxRecDepth 100000 in
theorem c_L_isSafe (l : Launch) (hst : l.stackTraces = false) (D : va_G) (cI cL : ClassId) (tw : Nat) (y0 : Nat) (y2 : Nat) (b : Nat) (pq : Nat) (cq : Nat) (tu : Int) (ph : Int) (mo : Int) (gc : Int) (P : Int → Int) (C : Int → Int) (o : Nat) (fo : Nat → Int64) (v1 : Int) (hB : ∀ i, 0 ≤ P i ∧ P i ≤ 72) (htu : 0 ≤ tu ∧ tu ≤ 3) (hgc : 0 ≤ gc ∧ gc ≤ 2) (hph : 0 ≤ ph ∧ ph ≤ 2) (hmo : 0 ≤ mo ∧ mo ≤ 6) (h_v1 : -2147483648 ≤ v1 ∧ v1 < 2147483648) : XWi l yL_isSafe wsL_isSafe { frames := 8, cells := 3, slots := 18, locals := 141 } D cI cL tw [.ref y0, .int (iI (v1)), .ref o] [(y0, .inr (1, [.ref b, .ref y2, .int (iI (tu)), .int (iI (gc)), .int (iI (ph)), .int (iI (mo))])), (y2, .inl (cI, 4, .inl (aI C))), (b, .inr (0, [.ref pq, .ref cq])), (pq, .inl (cI, 16, .inl (aI P))), (cq, .inl (cI, 136, .inl (aI (cnt P)))), (o, .inl (cL, 1, .inr (.inl fo)))] (fun (z : Int) (u : Int × (Nat → Int64)) => (z = 0 ∧ u.2 0 = (iI u.1).toInt64 ∧ 0 ≤ v1 ∧ v1 ≤ 67 ∧ tz (v1 % 17 = 4 ∨ v1 % 17 = 11) u.1) ∨ (z = 1 ∧ (¬ (0 ≤ v1 ∧ v1 ≤ 67)))) (fun u : Int × (Nat → Int64) => [(y0, .inr (1, [.ref b, .ref y2, .int (iI (tu)), .int (iI (gc)), .int (iI (ph)), .int (iI (mo))])), (y2, .inl (cI, 4, .inl (aI C))), (b, .inr (0, [.ref pq, .ref cq])), (pq, .inl (cI, 16, .inl (aI P))), (cq, .inl (cI, 136, .inl (aI (cnt P)))), (o, .inl (cL, 1, .inr (.inl (u.2))))]) (fun _ => False) 3 18 := by
  refine lwi_of (cc := cL_isSafe) (maxL := 4) (own := RL) (by decide) rfl rfl (Nat.le_of_ble_eq_true rfl) ?_
  intro p e R s mt args below meth c H0 Q ls A S hR hRc hE hP hD hA hN hl htb hret
  have hS := hN.mono hA
  obtain ⟨hx, hb, hml, hown, hts⟩ := id S
  have hl : lv_has ls 4 [(0, .ref y0), (1, .int (iI (v1))), (2, .ref o)] := hl
  refine lv_aload_n hx hb dL_isSafe_0 rfl (lv_at hl 2 rfl) ?_
  refine r_iconst hx hb dL_isSafe_1 ?_
  refine lv_aload_n hx hb dL_isSafe_2 rfl (lv_at hl 0 rfl) ?_
  refine lv_iload_n hx hb dL_isSafe_3 rfl (lv_at hl 1 rfl) ?_
  refine r_xcVi (As := [.int (iI (v1))]) (rest := [.int (iI (0)), .ref o]) S (c_X1_isSafe l hst D cI cL tw (y0) (y2) (b) (pq) (cq) (tu) (ph) (mo) (gc) (P) (C) (v1) (hB) (by omega) (by omega) (by omega) (by omega) (by omega)) gL_isSafe_X1_isSafe rfl rfl rfl ⟨rfl, f_X1_isSafe⟩ hR (Nat.le_of_ble_eq_true rfl) (Nat.le_of_ble_eq_true rfl) (hE.kept hS.2.1) hP hN [0, 1, 2, 3, 4] rfl 0 rfl rfl rfl hl.1 rfl (Nat.le_of_ble_eq_true rfl) dL_isSafe_4 ⟨Nat.le_trans (Nat.le_of_ble_eq_true rfl) hRc.1, Nat.le_trans (Nat.le_of_ble_eq_true rfl) hRc.2⟩ (fun E9 ce9 q9 H locs hx9 h91 h92 h93 hP hN => ?_) (fun z4 H locs hz4 hP hN => ?_)
  · have htb9 := htb
    have hS := hN.mono hA
    rcases hx9 with ⟨rfl, hc9⟩
    refine vx_catch (own := RL) hown [] ⟨0, 16, 19, 20⟩ [] (htb.trans rfl) (fun z hz => nomatch hz) (by decide) (by decide) (hts _ mw_L_isSafe_0) (nest_use (by decide +kernel) (hE.2.1 (.castable "java/lang/IndexOutOfBoundsException" "java/lang/IndexOutOfBoundsException") (by decide +kernel))) h91 h92 h93 ?_
    refine lv_astore_n (lv' := [(3, .ref q9), (0, .ref y0), (1, .int (iI (v1))), (2, .ref o)]) hx hb dL_isSafe_19 rfl hl (by decide) rfl (fun ls hl => ?_)
    refine r_iconst hx hb dL_isSafe_20 ?_
    exact hret (1) (0, fo) _ _ _ _ _ _ dL_isSafe_21 (by (try dsimp only); exact Or.inr ⟨rfl, hc9⟩) hP hD hS (Nat.le_of_ble_eq_true rfl) (Nat.le_of_ble_eq_true rfl)
  · have hS := hN.mono hA
    rcases hz4 with ⟨t1, t2, ⟨rfl, t3⟩ | ⟨rfl, t3⟩⟩
    · refine r_if_eq (tgt := 14) hx hb dL_isSafe_7 (by decide) (by unfold rI; decide) (fun h9 => absurd h9 (by omega)) (fun h7 => ?_)
      refine lv_lconst (v := (iI (1)).toInt64) hx hb dL_isSafe_10 (by decide) ?_
      refine lv_goto (tgt := 15) hx hb dL_isSafe_11 (by decide) ?_
      refine r_last0 hx hb hE.1 hP hD hS 5 rfl (ws1 := [(y0, .inr (1, [.ref b, .ref y2, .int (iI (tu)), .int (iI (gc)), .int (iI (ph)), .int (iI (mo))])), (y2, .inl (cI, 4, .inl (aI C))), (b, .inr (0, [.ref pq, .ref cq])), (pq, .inl (cI, 16, .inl (aI P))), (cq, .inl (cI, 136, .inl (aI (cnt P)))), (o, .inl (cL, 1, .inr (.inl (vp_updL fo 0 ((iI (1)).toInt64)))))]) rfl dL_isSafe_15 (fun H locs hP hD hS => ?_)
      refine lv_goto (tgt := 22) hx hb dL_isSafe_16 (by decide) ?_
      refine r_iconst hx hb dL_isSafe_22 ?_
      exact hret (0) (1, (vp_updL fo 0 ((iI (1)).toInt64))) _ _ _ _ _ _ dL_isSafe_23 (by (try dsimp only); exact Or.inl ⟨rfl, updL_at _ _, t1, t2, Or.inl ⟨rfl, t3⟩⟩) hP hD hS (Nat.le_of_ble_eq_true rfl) (Nat.le_of_ble_eq_true rfl)
    · refine r_if_eq (tgt := 14) hx hb dL_isSafe_7 (by decide) (by unfold rI; decide) (fun h7 => ?_) (fun h9 => absurd h9 (by omega))
      refine lv_lconst (v := (iI (0)).toInt64) hx hb dL_isSafe_14 (by decide) ?_
      refine r_last0 hx hb hE.1 hP hD hS 5 rfl (ws1 := [(y0, .inr (1, [.ref b, .ref y2, .int (iI (tu)), .int (iI (gc)), .int (iI (ph)), .int (iI (mo))])), (y2, .inl (cI, 4, .inl (aI C))), (b, .inr (0, [.ref pq, .ref cq])), (pq, .inl (cI, 16, .inl (aI P))), (cq, .inl (cI, 136, .inl (aI (cnt P)))), (o, .inl (cL, 1, .inr (.inl (vp_updL fo 0 ((iI (0)).toInt64)))))]) rfl dL_isSafe_15 (fun H locs hP hD hS => ?_)
      refine lv_goto (tgt := 22) hx hb dL_isSafe_16 (by decide) ?_
      refine r_iconst hx hb dL_isSafe_22 ?_
      exact hret (0) (0, (vp_updL fo 0 ((iI (0)).toInt64))) _ _ _ _ _ _ dL_isSafe_23 (by (try dsimp only); exact Or.inl ⟨rfl, updL_at _ _, t1, t2, Or.inr ⟨rfl, t3⟩⟩) hP hD hS (Nat.le_of_ble_eq_true rfl) (Nat.le_of_ble_eq_true rfl)

set_option maxRecDepth 20000 in
theorem mw_L_home_0 : (.classLink RL 20 "java/lang/IndexOutOfBoundsException" : Cond) ∈ wsL_home := by decide +kernel
theorem f_L_home : yL_home.cls ≠ "java/lang/invoke/MethodHandle" ∧ yL_home.cls ≠ "java/lang/invoke/VarHandle" ∧ (parseMethodDescriptor yL_home.desc).map (fun d => d.parameters.length) = some 3 := by decide +kernel
set_option maxHeartbeats 4000000 in
set_option maxRecDepth 100000 in
theorem c_L_home (l : Launch) (hst : l.stackTraces = false) (D : va_G) (cI cL : ClassId) (tw : Nat) (y0 : Nat) (y2 : Nat) (b : Nat) (pq : Nat) (cq : Nat) (tu : Int) (ph : Int) (mo : Int) (gc : Int) (P : Int → Int) (C : Int → Int) (o : Nat) (fo : Nat → Int64) (v1 : Int) (hB : ∀ i, 0 ≤ P i ∧ P i ≤ 72) (htu : 0 ≤ tu ∧ tu ≤ 3) (hgc : 0 ≤ gc ∧ gc ≤ 2) (hph : 0 ≤ ph ∧ ph ≤ 2) (hmo : 0 ≤ mo ∧ mo ≤ 6) (h_v1 : -2147483648 ≤ v1 ∧ v1 < 2147483648) : XWi l yL_home wsL_home { frames := 8, cells := 3, slots := 18, locals := 141 } D cI cL tw [.ref y0, .int (iI (v1)), .ref o] [(y0, .inr (1, [.ref b, .ref y2, .int (iI (tu)), .int (iI (gc)), .int (iI (ph)), .int (iI (mo))])), (y2, .inl (cI, 4, .inl (aI C))), (b, .inr (0, [.ref pq, .ref cq])), (pq, .inl (cI, 16, .inl (aI P))), (cq, .inl (cI, 136, .inl (aI (cnt P)))), (o, .inl (cL, 1, .inr (.inl fo)))] (fun (z : Int) (u : Int × (Nat → Int64)) => (z = 0 ∧ u.2 0 = (iI u.1).toInt64 ∧ 0 ≤ v1 ∧ v1 ≤ 3 ∧ u.1 = hm P v1) ∨ (z = 1 ∧ (¬ (0 ≤ v1 ∧ v1 ≤ 3)))) (fun u : Int × (Nat → Int64) => [(y0, .inr (1, [.ref b, .ref y2, .int (iI (tu)), .int (iI (gc)), .int (iI (ph)), .int (iI (mo))])), (y2, .inl (cI, 4, .inl (aI C))), (b, .inr (0, [.ref pq, .ref cq])), (pq, .inl (cI, 16, .inl (aI P))), (cq, .inl (cI, 136, .inl (aI (cnt P)))), (o, .inl (cL, 1, .inr (.inl (u.2))))]) (fun _ => False) 3 18 := by
  refine lwi_of (cc := cL_home) (maxL := 4) (own := RL) (by decide) rfl rfl (Nat.le_of_ble_eq_true rfl) ?_
  intro p e R s mt args below meth c H0 Q ls A S hR hRc hE hP hD hA hN hl htb hret
  have hS := hN.mono hA
  obtain ⟨hx, hb, hml, hown, hts⟩ := id S
  have hl : lv_has ls 4 [(0, .ref y0), (1, .int (iI (v1))), (2, .ref o)] := hl
  refine lv_aload_n hx hb dL_home_0 rfl (lv_at hl 2 rfl) ?_
  refine r_iconst hx hb dL_home_1 ?_
  refine lv_aload_n hx hb dL_home_2 rfl (lv_at hl 0 rfl) ?_
  refine lv_iload_n hx hb dL_home_3 rfl (lv_at hl 1 rfl) ?_
  refine r_xcVi (As := [.int (iI (v1))]) (rest := [.int (iI (0)), .ref o]) S (c_X1_home l hst D cI cL tw (y0) (y2) (b) (pq) (cq) (tu) (ph) (mo) (gc) (P) (C) (v1) (hB) (by omega) (by omega) (by omega) (by omega) (by omega)) gL_home_X1_home rfl rfl rfl ⟨rfl, f_X1_home⟩ hR (Nat.le_of_ble_eq_true rfl) (Nat.le_of_ble_eq_true rfl) (hE.kept hS.2.1) hP hN [0, 1, 2, 3, 4] rfl 0 rfl rfl rfl hl.1 rfl (Nat.le_of_ble_eq_true rfl) dL_home_4 ⟨Nat.le_trans (Nat.le_of_ble_eq_true rfl) hRc.1, Nat.le_trans (Nat.le_of_ble_eq_true rfl) hRc.2⟩ (fun E9 ce9 q9 H locs hx9 h91 h92 h93 hP hN => ?_) (fun z4 H locs hz4 hP hN => ?_)
  · have htb9 := htb
    have hS := hN.mono hA
    rcases hx9 with ⟨rfl, hc9⟩
    refine vx_catch (own := RL) hown [] ⟨0, 9, 12, 20⟩ [] (htb.trans rfl) (fun z hz => nomatch hz) (by decide) (by decide) (hts _ mw_L_home_0) (nest_use (by decide +kernel) (hE.2.1 (.castable "java/lang/IndexOutOfBoundsException" "java/lang/IndexOutOfBoundsException") (by decide +kernel))) h91 h92 h93 ?_
    refine lv_astore_n (lv' := [(3, .ref q9), (0, .ref y0), (1, .int (iI (v1))), (2, .ref o)]) hx hb dL_home_12 rfl hl (by decide) rfl (fun ls hl => ?_)
    refine r_iconst hx hb dL_home_13 ?_
    exact hret (1) (0, fo) _ _ _ _ _ _ dL_home_14 (by (try dsimp only); exact Or.inr ⟨rfl, hc9⟩) hP hD hS (Nat.le_of_ble_eq_true rfl) (Nat.le_of_ble_eq_true rfl)
  · have hS := hN.mono hA
    refine lv_i2l (v := (iI (z4)).toInt64) hx hb dL_home_7 rfl ?_
    refine r_last0 hx hb hE.1 hP hD hS 5 rfl (ws1 := [(y0, .inr (1, [.ref b, .ref y2, .int (iI (tu)), .int (iI (gc)), .int (iI (ph)), .int (iI (mo))])), (y2, .inl (cI, 4, .inl (aI C))), (b, .inr (0, [.ref pq, .ref cq])), (pq, .inl (cI, 16, .inl (aI P))), (cq, .inl (cI, 136, .inl (aI (cnt P)))), (o, .inl (cL, 1, .inr (.inl (vp_updL fo 0 ((iI (z4)).toInt64)))))]) rfl dL_home_8 (fun H locs hP hD hS => ?_)
    refine lv_goto (tgt := 15) hx hb dL_home_9 (by decide) ?_
    refine r_iconst hx hb dL_home_15 ?_
    exact hret (0) (z4, (vp_updL fo 0 ((iI (z4)).toInt64))) _ _ _ _ _ _ dL_home_16 (by (try dsimp only); exact Or.inl ⟨rfl, updL_at _ _, hz4⟩) hP hD hS (Nat.le_of_ble_eq_true rfl) (Nat.le_of_ble_eq_true rfl)

set_option maxRecDepth 20000 in
theorem mw_L_captures_0 : (.classLink RL 20 "java/lang/IndexOutOfBoundsException" : Cond) ∈ wsL_captures := by decide +kernel
theorem f_L_captures : yL_captures.cls ≠ "java/lang/invoke/MethodHandle" ∧ yL_captures.cls ≠ "java/lang/invoke/VarHandle" ∧ (parseMethodDescriptor yL_captures.desc).map (fun d => d.parameters.length) = some 3 := by decide +kernel
set_option maxHeartbeats 4000000 in
set_option maxRecDepth 100000 in
theorem c_L_captures (l : Launch) (hst : l.stackTraces = false) (D : va_G) (cI cL : ClassId) (tw : Nat) (y0 : Nat) (y2 : Nat) (b : Nat) (pq : Nat) (cq : Nat) (tu : Int) (ph : Int) (mo : Int) (gc : Int) (P : Int → Int) (C : Int → Int) (o : Nat) (fo : Nat → Int64) (v1 : Int) (hB : ∀ i, 0 ≤ P i ∧ P i ≤ 72) (htu : 0 ≤ tu ∧ tu ≤ 3) (hgc : 0 ≤ gc ∧ gc ≤ 2) (hph : 0 ≤ ph ∧ ph ≤ 2) (hmo : 0 ≤ mo ∧ mo ≤ 6) (h_v1 : -2147483648 ≤ v1 ∧ v1 < 2147483648) : XWi l yL_captures wsL_captures { frames := 8, cells := 3, slots := 18, locals := 141 } D cI cL tw [.ref y0, .int (iI (v1)), .ref o] [(y0, .inr (1, [.ref b, .ref y2, .int (iI (tu)), .int (iI (gc)), .int (iI (ph)), .int (iI (mo))])), (y2, .inl (cI, 4, .inl (aI C))), (b, .inr (0, [.ref pq, .ref cq])), (pq, .inl (cI, 16, .inl (aI P))), (cq, .inl (cI, 136, .inl (aI (cnt P)))), (o, .inl (cL, 1, .inr (.inl fo)))] (fun (z : Int) (u : Int × (Nat → Int64)) => (z = 0 ∧ u.2 0 = (iI u.1).toInt64 ∧ 0 ≤ v1 ∧ v1 ≤ 3 ∧ u.1 = C v1) ∨ (z = 1 ∧ (¬ (0 ≤ v1 ∧ v1 ≤ 3)))) (fun u : Int × (Nat → Int64) => [(y0, .inr (1, [.ref b, .ref y2, .int (iI (tu)), .int (iI (gc)), .int (iI (ph)), .int (iI (mo))])), (y2, .inl (cI, 4, .inl (aI C))), (b, .inr (0, [.ref pq, .ref cq])), (pq, .inl (cI, 16, .inl (aI P))), (cq, .inl (cI, 136, .inl (aI (cnt P)))), (o, .inl (cL, 1, .inr (.inl (u.2))))]) (fun _ => False) 3 18 := by
  refine lwi_of (cc := cL_captures) (maxL := 4) (own := RL) (by decide) rfl rfl (Nat.le_of_ble_eq_true rfl) ?_
  intro p e R s mt args below meth c H0 Q ls A S hR hRc hE hP hD hA hN hl htb hret
  have hS := hN.mono hA
  obtain ⟨hx, hb, hml, hown, hts⟩ := id S
  have hl : lv_has ls 4 [(0, .ref y0), (1, .int (iI (v1))), (2, .ref o)] := hl
  refine lv_aload_n hx hb dL_captures_0 rfl (lv_at hl 2 rfl) ?_
  refine r_iconst hx hb dL_captures_1 ?_
  refine lv_aload_n hx hb dL_captures_2 rfl (lv_at hl 0 rfl) ?_
  refine lv_iload_n hx hb dL_captures_3 rfl (lv_at hl 1 rfl) ?_
  refine r_xcVi (As := [.int (iI (v1))]) (rest := [.int (iI (0)), .ref o]) S (c_X1_captures l hst D cI cL tw (y0) (y2) (b) (pq) (cq) (tu) (ph) (mo) (gc) (P) (C) (v1) (hB) (by omega) (by omega) (by omega) (by omega) (by omega)) gL_captures_X1_captures rfl rfl rfl ⟨rfl, f_X1_captures⟩ hR (Nat.le_of_ble_eq_true rfl) (Nat.le_of_ble_eq_true rfl) (hE.kept hS.2.1) hP hN [0, 1, 2, 3, 4] rfl 0 rfl rfl rfl hl.1 rfl (Nat.le_of_ble_eq_true rfl) dL_captures_4 ⟨Nat.le_trans (Nat.le_of_ble_eq_true rfl) hRc.1, Nat.le_trans (Nat.le_of_ble_eq_true rfl) hRc.2⟩ (fun E9 ce9 q9 H locs hx9 h91 h92 h93 hP hN => ?_) (fun z4 H locs hz4 hP hN => ?_)
  · have htb9 := htb
    have hS := hN.mono hA
    rcases hx9 with ⟨rfl, hc9⟩
    refine vx_catch (own := RL) hown [] ⟨0, 9, 12, 20⟩ [] (htb.trans rfl) (fun z hz => nomatch hz) (by decide) (by decide) (hts _ mw_L_captures_0) (nest_use (by decide +kernel) (hE.2.1 (.castable "java/lang/IndexOutOfBoundsException" "java/lang/IndexOutOfBoundsException") (by decide +kernel))) h91 h92 h93 ?_
    refine lv_astore_n (lv' := [(3, .ref q9), (0, .ref y0), (1, .int (iI (v1))), (2, .ref o)]) hx hb dL_captures_12 rfl hl (by decide) rfl (fun ls hl => ?_)
    refine r_iconst hx hb dL_captures_13 ?_
    exact hret (1) (0, fo) _ _ _ _ _ _ dL_captures_14 (by (try dsimp only); exact Or.inr ⟨rfl, hc9⟩) hP hD hS (Nat.le_of_ble_eq_true rfl) (Nat.le_of_ble_eq_true rfl)
  · have hS := hN.mono hA
    refine lv_i2l (v := (iI (z4)).toInt64) hx hb dL_captures_7 rfl ?_
    refine r_last0 hx hb hE.1 hP hD hS 5 rfl (ws1 := [(y0, .inr (1, [.ref b, .ref y2, .int (iI (tu)), .int (iI (gc)), .int (iI (ph)), .int (iI (mo))])), (y2, .inl (cI, 4, .inl (aI C))), (b, .inr (0, [.ref pq, .ref cq])), (pq, .inl (cI, 16, .inl (aI P))), (cq, .inl (cI, 136, .inl (aI (cnt P)))), (o, .inl (cL, 1, .inr (.inl (vp_updL fo 0 ((iI (z4)).toInt64)))))]) rfl dL_captures_8 (fun H locs hP hD hS => ?_)
    refine lv_goto (tgt := 15) hx hb dL_captures_9 (by decide) ?_
    refine r_iconst hx hb dL_captures_15 ?_
    exact hret (0) (z4, (vp_updL fo 0 ((iI (z4)).toInt64))) _ _ _ _ _ _ dL_captures_16 (by (try dsimp only); exact Or.inl ⟨rfl, updL_at _ _, hz4⟩) hP hD hS (Nat.le_of_ble_eq_true rfl) (Nat.le_of_ble_eq_true rfl)

set_option maxRecDepth 20000 in
theorem mw_L_distance_0 : (.classLink RL 13 "java/lang/IllegalArgumentException" : Cond) ∈ wsL_distance := by decide +kernel
theorem f_L_distance : yL_distance.cls ≠ "java/lang/invoke/MethodHandle" ∧ yL_distance.cls ≠ "java/lang/invoke/VarHandle" ∧ (parseMethodDescriptor yL_distance.desc).map (fun d => d.parameters.length) = some 3 := by decide +kernel
set_option maxHeartbeats 4000000 in
set_option maxRecDepth 100000 in
theorem c_L_distance (l : Launch) (hst : l.stackTraces = false) (D : va_G) (cI cL : ClassId) (tw : Nat) (y0 : Nat) (y2 : Nat) (b : Nat) (pq : Nat) (cq : Nat) (tu : Int) (ph : Int) (mo : Int) (gc : Int) (P : Int → Int) (C : Int → Int) (o : Nat) (fo : Nat → Int64) (v1 : Int) (hB : ∀ i, 0 ≤ P i ∧ P i ≤ 72) (htu : 0 ≤ tu ∧ tu ≤ 3) (hgc : 0 ≤ gc ∧ gc ≤ 2) (hph : 0 ≤ ph ∧ ph ≤ 2) (hmo : 0 ≤ mo ∧ mo ≤ 6) (h_v1 : -2147483648 ≤ v1 ∧ v1 < 2147483648) : XWi l yL_distance wsL_distance { frames := 8, cells := 3, slots := 18, locals := 141 } D cI cL tw [.ref y0, .int (iI (v1)), .ref o] [(y0, .inr (1, [.ref b, .ref y2, .int (iI (tu)), .int (iI (gc)), .int (iI (ph)), .int (iI (mo))])), (y2, .inl (cI, 4, .inl (aI C))), (b, .inr (0, [.ref pq, .ref cq])), (pq, .inl (cI, 16, .inl (aI P))), (cq, .inl (cI, 136, .inl (aI (cnt P)))), (o, .inl (cL, 1, .inr (.inl fo)))] (fun (z : Int) (u : Int × (Nat → Int64)) => (z = 0 ∧ u.2 0 = (iI u.1).toInt64 ∧ 0 ≤ v1 ∧ v1 ≤ 1 ∧ u.1 = dst P v1) ∨ (z = 1 ∧ (¬ (0 ≤ v1 ∧ v1 ≤ 1)))) (fun u : Int × (Nat → Int64) => [(y0, .inr (1, [.ref b, .ref y2, .int (iI (tu)), .int (iI (gc)), .int (iI (ph)), .int (iI (mo))])), (y2, .inl (cI, 4, .inl (aI C))), (b, .inr (0, [.ref pq, .ref cq])), (pq, .inl (cI, 16, .inl (aI P))), (cq, .inl (cI, 136, .inl (aI (cnt P)))), (o, .inl (cL, 1, .inr (.inl (u.2))))]) (fun _ => False) 3 18 := by
  refine lwi_of (cc := cL_distance) (maxL := 4) (own := RL) (by decide) rfl rfl (Nat.le_of_ble_eq_true rfl) ?_
  intro p e R s mt args below meth c H0 Q ls A S hR hRc hE hP hD hA hN hl htb hret
  have hS := hN.mono hA
  obtain ⟨hx, hb, hml, hown, hts⟩ := id S
  have hl : lv_has ls 4 [(0, .ref y0), (1, .int (iI (v1))), (2, .ref o)] := hl
  refine lv_aload_n hx hb dL_distance_0 rfl (lv_at hl 2 rfl) ?_
  refine r_iconst hx hb dL_distance_1 ?_
  refine lv_aload_n hx hb dL_distance_2 rfl (lv_at hl 0 rfl) ?_
  refine lv_iload_n hx hb dL_distance_3 rfl (lv_at hl 1 rfl) ?_
  refine r_xcVi (As := [.int (iI (v1))]) (rest := [.int (iI (0)), .ref o]) S (c_X1_distance l hst D cI cL tw (y0) (y2) (b) (pq) (cq) (tu) (ph) (mo) (gc) (P) (C) (v1) (hB) (by omega) (by omega) (by omega) (by omega) (by omega)) gL_distance_X1_distance rfl rfl rfl ⟨rfl, f_X1_distance⟩ hR (Nat.le_of_ble_eq_true rfl) (Nat.le_of_ble_eq_true rfl) (hE.kept hS.2.1) hP hN [0, 1, 2, 3, 4] rfl 0 rfl rfl rfl hl.1 rfl (Nat.le_of_ble_eq_true rfl) dL_distance_4 ⟨Nat.le_trans (Nat.le_of_ble_eq_true rfl) hRc.1, Nat.le_trans (Nat.le_of_ble_eq_true rfl) hRc.2⟩ (fun E9 ce9 q9 H locs hx9 h91 h92 h93 hP hN => ?_) (fun z4 H locs hz4 hP hN => ?_)
  · have htb9 := htb
    have hS := hN.mono hA
    rcases hx9 with ⟨rfl, hc9⟩
    refine vx_catch (own := RL) hown [] ⟨0, 9, 12, 13⟩ [] (htb.trans rfl) (fun z hz => nomatch hz) (by decide) (by decide) (hts _ mw_L_distance_0) (nest_use (by decide +kernel) (hE.2.1 (.castable "java/lang/IllegalArgumentException" "java/lang/IllegalArgumentException") (by decide +kernel))) h91 h92 h93 ?_
    refine lv_astore_n (lv' := [(3, .ref q9), (0, .ref y0), (1, .int (iI (v1))), (2, .ref o)]) hx hb dL_distance_12 rfl hl (by decide) rfl (fun ls hl => ?_)
    refine r_iconst hx hb dL_distance_13 ?_
    exact hret (1) (0, fo) _ _ _ _ _ _ dL_distance_14 (by (try dsimp only); exact Or.inr ⟨rfl, hc9⟩) hP hD hS (Nat.le_of_ble_eq_true rfl) (Nat.le_of_ble_eq_true rfl)
  · have hS := hN.mono hA
    refine lv_i2l (v := (iI (z4)).toInt64) hx hb dL_distance_7 rfl ?_
    refine r_last0 hx hb hE.1 hP hD hS 5 rfl (ws1 := [(y0, .inr (1, [.ref b, .ref y2, .int (iI (tu)), .int (iI (gc)), .int (iI (ph)), .int (iI (mo))])), (y2, .inl (cI, 4, .inl (aI C))), (b, .inr (0, [.ref pq, .ref cq])), (pq, .inl (cI, 16, .inl (aI P))), (cq, .inl (cI, 136, .inl (aI (cnt P)))), (o, .inl (cL, 1, .inr (.inl (vp_updL fo 0 ((iI (z4)).toInt64)))))]) rfl dL_distance_8 (fun H locs hP hD hS => ?_)
    refine lv_goto (tgt := 15) hx hb dL_distance_9 (by decide) ?_
    refine r_iconst hx hb dL_distance_15 ?_
    exact hret (0) (z4, (vp_updL fo 0 ((iI (z4)).toInt64))) _ _ _ _ _ _ dL_distance_16 (by (try dsimp only); exact Or.inl ⟨rfl, updL_at _ _, hz4⟩) hP hD hS (Nat.le_of_ble_eq_true rfl) (Nat.le_of_ble_eq_true rfl)

set_option maxRecDepth 20000 in
theorem mw_L_ways_0 : (.classLink RL 13 "java/lang/IllegalArgumentException" : Cond) ∈ wsL_ways := by decide +kernel
set_option maxRecDepth 20000 in
theorem mw_L_ways_1 : (.classLink RL 15 "java/lang/IllegalStateException" : Cond) ∈ wsL_ways := by decide +kernel
theorem f_L_ways : yL_ways.cls ≠ "java/lang/invoke/MethodHandle" ∧ yL_ways.cls ≠ "java/lang/invoke/VarHandle" ∧ (parseMethodDescriptor yL_ways.desc).map (fun d => d.parameters.length) = some 3 := by decide +kernel
set_option maxHeartbeats 4000000 in
set_option maxRecDepth 100000 in
theorem c_L_ways (l : Launch) (hst : l.stackTraces = false) (D : va_G) (cI cL : ClassId) (tw : Nat) (y0 : Nat) (y2 : Nat) (b : Nat) (pq : Nat) (cq : Nat) (tu : Int) (ph : Int) (mo : Int) (gc : Int) (P : Int → Int) (C : Int → Int) (o : Nat) (fo : Nat → Int64) (v1 : Int) (hB : ∀ i, 0 ≤ P i ∧ P i ≤ 72) (htu : 0 ≤ tu ∧ tu ≤ 3) (hgc : 0 ≤ gc ∧ gc ≤ 2) (hph : 0 ≤ ph ∧ ph ≤ 2) (hmo : 0 ≤ mo ∧ mo ≤ 6) (h_v1 : -2147483648 ≤ v1 ∧ v1 < 2147483648) : XWi l yL_ways wsL_ways { frames := 8, cells := 3, slots := 18, locals := 144 } D cI cL tw [.ref y0, .int (iI (v1)), .ref o] [(y0, .inr (1, [.ref b, .ref y2, .int (iI (tu)), .int (iI (gc)), .int (iI (ph)), .int (iI (mo))])), (y2, .inl (cI, 4, .inl (aI C))), (b, .inr (0, [.ref pq, .ref cq])), (pq, .inl (cI, 16, .inl (aI P))), (cq, .inl (cI, 136, .inl (aI (cnt P)))), (o, .inl (cL, 1, .inr (.inl fo)))] (fun (z : Int) (u : Int × (Nat → Int64)) => (z = 0 ∧ u.2 0 = (iI u.1).toInt64 ∧ 0 ≤ v1 ∧ v1 ≤ 3 ∧ ph = 0 ∧ u.1 = wy P tu gc v1) ∨ (z = 1 ∧ (¬ (0 ≤ v1 ∧ v1 ≤ 3))) ∨ (z = 2 ∧ (0 ≤ v1 ∧ v1 ≤ 3 ∧ ph ≠ 0))) (fun u : Int × (Nat → Int64) => [(y0, .inr (1, [.ref b, .ref y2, .int (iI (tu)), .int (iI (gc)), .int (iI (ph)), .int (iI (mo))])), (y2, .inl (cI, 4, .inl (aI C))), (b, .inr (0, [.ref pq, .ref cq])), (pq, .inl (cI, 16, .inl (aI P))), (cq, .inl (cI, 136, .inl (aI (cnt P)))), (o, .inl (cL, 1, .inr (.inl (u.2))))]) (fun _ => False) 3 18 := by
  refine lwi_of (cc := cL_ways) (maxL := 4) (own := RL) (by decide) rfl rfl (Nat.le_of_ble_eq_true rfl) ?_
  intro p e R s mt args below meth c H0 Q ls A S hR hRc hE hP hD hA hN hl htb hret
  have hS := hN.mono hA
  obtain ⟨hx, hb, hml, hown, hts⟩ := id S
  have hl : lv_has ls 4 [(0, .ref y0), (1, .int (iI (v1))), (2, .ref o)] := hl
  refine lv_aload_n hx hb dL_ways_0 rfl (lv_at hl 2 rfl) ?_
  refine r_iconst hx hb dL_ways_1 ?_
  refine lv_aload_n hx hb dL_ways_2 rfl (lv_at hl 0 rfl) ?_
  refine lv_iload_n hx hb dL_ways_3 rfl (lv_at hl 1 rfl) ?_
  refine r_xcVi (As := [.int (iI (v1))]) (rest := [.int (iI (0)), .ref o]) S (c_X1_ways l hst D cI cL tw (y0) (y2) (b) (pq) (cq) (tu) (ph) (mo) (gc) (P) (C) (v1) (hB) (by omega) (by omega) (by omega) (by omega) (by omega)) gL_ways_X1_ways rfl rfl rfl ⟨rfl, f_X1_ways⟩ hR (Nat.le_of_ble_eq_true rfl) (Nat.le_of_ble_eq_true rfl) (hE.kept hS.2.1) hP hN [0, 1, 2, 3, 4] rfl 0 rfl rfl rfl hl.1 rfl (Nat.le_of_ble_eq_true rfl) dL_ways_4 ⟨Nat.le_trans (Nat.le_of_ble_eq_true rfl) hRc.1, Nat.le_trans (Nat.le_of_ble_eq_true rfl) hRc.2⟩ (fun E9 ce9 q9 H locs hx9 h91 h92 h93 hP hN => ?_) (fun z4 H locs hz4 hP hN => ?_)
  · have htb9 := htb
    have hS := hN.mono hA
    rcases hx9 with ⟨rfl, hc9⟩ | ⟨rfl, hc9⟩
    · refine vx_catch (own := RL) hown [] ⟨0, 9, 12, 13⟩ [⟨0, 9, 15, 15⟩] (htb.trans rfl) (fun z hz => nomatch hz) (by decide) (by decide) (hts _ mw_L_ways_0) (nest_use (by decide +kernel) (hE.2.1 (.castable "java/lang/IllegalArgumentException" "java/lang/IllegalArgumentException") (by decide +kernel))) h91 h92 h93 ?_
      refine lv_astore_n (lv' := [(3, .ref q9), (0, .ref y0), (1, .int (iI (v1))), (2, .ref o)]) hx hb dL_ways_12 rfl hl (by decide) rfl (fun ls hl => ?_)
      refine r_iconst hx hb dL_ways_13 ?_
      exact hret (1) (0, fo) _ _ _ _ _ _ dL_ways_14 (by (try dsimp only); exact Or.inr (Or.inl ⟨rfl, hc9⟩)) hP hD hS (Nat.le_of_ble_eq_true rfl) (Nat.le_of_ble_eq_true rfl)
    · refine vx_catch (own := RL) hown [⟨0, 9, 12, 13⟩] ⟨0, 9, 15, 15⟩ [] (htb.trans rfl) (fun z hz => by rw [List.mem_singleton.mp hz]; exact Or.inr ⟨by decide, _, hts _ mw_L_ways_0, hE.2.2.2.2.2.2 ("java/lang/IllegalStateException", "java/lang/IllegalArgumentException") (by decide +kernel)⟩) (by decide) (by decide) (hts _ mw_L_ways_1) (nest_use (by decide +kernel) (hE.2.1 (.castable "java/lang/IllegalStateException" "java/lang/IllegalStateException") (by decide +kernel))) h91 h92 h93 ?_
      refine lv_astore_n (lv' := [(3, .ref q9), (0, .ref y0), (1, .int (iI (v1))), (2, .ref o)]) hx hb dL_ways_15 rfl hl (by decide) rfl (fun ls hl => ?_)
      refine r_iconst hx hb dL_ways_16 ?_
      exact hret (2) (0, fo) _ _ _ _ _ _ dL_ways_17 (by (try dsimp only); exact Or.inr (Or.inr ⟨rfl, hc9⟩)) hP hD hS (Nat.le_of_ble_eq_true rfl) (Nat.le_of_ble_eq_true rfl)
  · have hS := hN.mono hA
    refine lv_i2l (v := (iI (z4)).toInt64) hx hb dL_ways_7 rfl ?_
    refine r_last0 hx hb hE.1 hP hD hS 5 rfl (ws1 := [(y0, .inr (1, [.ref b, .ref y2, .int (iI (tu)), .int (iI (gc)), .int (iI (ph)), .int (iI (mo))])), (y2, .inl (cI, 4, .inl (aI C))), (b, .inr (0, [.ref pq, .ref cq])), (pq, .inl (cI, 16, .inl (aI P))), (cq, .inl (cI, 136, .inl (aI (cnt P)))), (o, .inl (cL, 1, .inr (.inl (vp_updL fo 0 ((iI (z4)).toInt64)))))]) rfl dL_ways_8 (fun H locs hP hD hS => ?_)
    refine lv_goto (tgt := 18) hx hb dL_ways_9 (by decide) ?_
    refine r_iconst hx hb dL_ways_18 ?_
    exact hret (0) (z4, (vp_updL fo 0 ((iI (z4)).toInt64))) _ _ _ _ _ _ dL_ways_19 (by (try dsimp only); exact Or.inl ⟨rfl, updL_at _ _, hz4⟩) hP hD hS (Nat.le_of_ble_eq_true rfl) (Nat.le_of_ble_eq_true rfl)

set_option maxRecDepth 20000 in
theorem mw_L_threat_0 : (.classLink RL 20 "java/lang/IndexOutOfBoundsException" : Cond) ∈ wsL_threat := by decide +kernel
set_option maxRecDepth 20000 in
theorem mw_L_threat_1 : (.classLink RL 13 "java/lang/IllegalArgumentException" : Cond) ∈ wsL_threat := by decide +kernel
theorem f_L_threat : yL_threat.cls ≠ "java/lang/invoke/MethodHandle" ∧ yL_threat.cls ≠ "java/lang/invoke/VarHandle" ∧ (parseMethodDescriptor yL_threat.desc).map (fun d => d.parameters.length) = some 5 := by decide +kernel
set_option maxHeartbeats 4000000 in
set_option maxRecDepth 100000 in
theorem c_L_threat (l : Launch) (hst : l.stackTraces = false) (D : va_G) (cI cL : ClassId) (tw : Nat) (y0 : Nat) (y2 : Nat) (b : Nat) (pq : Nat) (cq : Nat) (tu : Int) (ph : Int) (mo : Int) (gc : Int) (P : Int → Int) (C : Int → Int) (o : Nat) (fo : Nat → Int64) (v1 : Int) (v2 : Int) (v3 : Int) (hB : ∀ i, 0 ≤ P i ∧ P i ≤ 72) (htu : 0 ≤ tu ∧ tu ≤ 3) (hgc : 0 ≤ gc ∧ gc ≤ 2) (hph : 0 ≤ ph ∧ ph ≤ 2) (hmo : 0 ≤ mo ∧ mo ≤ 6) (h_v1 : -2147483648 ≤ v1 ∧ v1 < 2147483648) (h_v2 : -2147483648 ≤ v2 ∧ v2 < 2147483648) (h_v3 : -2147483648 ≤ v3 ∧ v3 < 2147483648) : XWi l yL_threat wsL_threat { frames := 8, cells := 3, slots := 18, locals := 147 } D cI cL tw [.ref y0, .int (iI (v1)), .int (iI (v2)), .int (iI (v3)), .ref o] [(y0, .inr (1, [.ref b, .ref y2, .int (iI (tu)), .int (iI (gc)), .int (iI (ph)), .int (iI (mo))])), (y2, .inl (cI, 4, .inl (aI C))), (b, .inr (0, [.ref pq, .ref cq])), (pq, .inl (cI, 16, .inl (aI P))), (cq, .inl (cI, 136, .inl (aI (cnt P)))), (o, .inl (cL, 1, .inr (.inl fo)))] (fun (z : Int) (u : Int × (Nat → Int64)) => (z = 0 ∧ u.2 0 = (iI u.1).toInt64 ∧ 0 ≤ v1 ∧ v1 ≤ 3 ∧ 0 ≤ v2 ∧ v2 ≤ 3 ∧ 0 ≤ v3 ∧ v3 ≤ 3 ∧ v3 % 2 ≠ v1 % 2 ∧ u.1 = thr P (4 * v1 + v2) v3) ∨ (z = 1 ∧ (¬ (0 ≤ v1 ∧ v1 ≤ 3 ∧ 0 ≤ v2 ∧ v2 ≤ 3))) ∨ (z = 2 ∧ (0 ≤ v1 ∧ v1 ≤ 3 ∧ 0 ≤ v2 ∧ v2 ≤ 3 ∧ ¬ (0 ≤ v3 ∧ v3 ≤ 3 ∧ v3 % 2 ≠ v1 % 2)))) (fun u : Int × (Nat → Int64) => [(y0, .inr (1, [.ref b, .ref y2, .int (iI (tu)), .int (iI (gc)), .int (iI (ph)), .int (iI (mo))])), (y2, .inl (cI, 4, .inl (aI C))), (b, .inr (0, [.ref pq, .ref cq])), (pq, .inl (cI, 16, .inl (aI P))), (cq, .inl (cI, 136, .inl (aI (cnt P)))), (o, .inl (cL, 1, .inr (.inl (u.2))))]) (fun _ => False) 3 18 := by
  refine lwi_of (cc := cL_threat) (maxL := 6) (own := RL) (by decide) rfl rfl (Nat.le_of_ble_eq_true rfl) ?_
  intro p e R s mt args below meth c H0 Q ls A S hR hRc hE hP hD hA hN hl htb hret
  have hS := hN.mono hA
  obtain ⟨hx, hb, hml, hown, hts⟩ := id S
  have hl : lv_has ls 6 [(0, .ref y0), (1, .int (iI (v1))), (2, .int (iI (v2))), (3, .int (iI (v3))), (4, .ref o)] := hl
  refine lv_aload hx hb dL_threat_0 (lv_at hl 4 rfl) ?_
  refine r_iconst hx hb dL_threat_2 ?_
  refine lv_aload_n hx hb dL_threat_3 rfl (lv_at hl 0 rfl) ?_
  refine lv_iload_n hx hb dL_threat_4 rfl (lv_at hl 1 rfl) ?_
  refine lv_iload_n hx hb dL_threat_5 rfl (lv_at hl 2 rfl) ?_
  refine lv_iload_n hx hb dL_threat_6 rfl (lv_at hl 3 rfl) ?_
  refine r_xcVi (As := [.int (iI (v1)), .int (iI (v2)), .int (iI (v3))]) (rest := [.int (iI (0)), .ref o]) S (c_X1_threat l hst D cI cL tw (y0) (y2) (b) (pq) (cq) (tu) (ph) (mo) (gc) (P) (C) (v1) (v2) (v3) (hB) (by omega) (by omega) (by omega) (by omega) (by omega) (by omega) (by omega)) gL_threat_X1_threat rfl rfl rfl ⟨rfl, f_X1_threat⟩ hR (Nat.le_of_ble_eq_true rfl) (Nat.le_of_ble_eq_true rfl) (hE.kept hS.2.1) hP hN [0, 1, 2, 3, 4] rfl 0 rfl rfl rfl hl.1 rfl (Nat.le_of_ble_eq_true rfl) dL_threat_7 ⟨Nat.le_trans (Nat.le_of_ble_eq_true rfl) hRc.1, Nat.le_trans (Nat.le_of_ble_eq_true rfl) hRc.2⟩ (fun E9 ce9 q9 H locs hx9 h91 h92 h93 hP hN => ?_) (fun z7 H locs hz7 hP hN => ?_)
  · have htb9 := htb
    have hS := hN.mono hA
    rcases hx9 with ⟨rfl, hc9⟩ | ⟨rfl, hc9⟩
    · refine vx_catch (own := RL) hown [] ⟨0, 12, 15, 20⟩ [⟨0, 12, 19, 13⟩] (htb.trans rfl) (fun z hz => nomatch hz) (by decide) (by decide) (hts _ mw_L_threat_0) (nest_use (by decide +kernel) (hE.2.1 (.castable "java/lang/IndexOutOfBoundsException" "java/lang/IndexOutOfBoundsException") (by decide +kernel))) h91 h92 h93 ?_
      refine lv_astore (lv' := [(5, .ref q9), (0, .ref y0), (1, .int (iI (v1))), (2, .int (iI (v2))), (3, .int (iI (v3))), (4, .ref o)]) hx hb dL_threat_15 hl (by decide) rfl (fun ls hl => ?_)
      refine r_iconst hx hb dL_threat_17 ?_
      exact hret (1) (0, fo) _ _ _ _ _ _ dL_threat_18 (by (try dsimp only); exact Or.inr (Or.inl ⟨rfl, hc9⟩)) hP hD hS (Nat.le_of_ble_eq_true rfl) (Nat.le_of_ble_eq_true rfl)
    · refine vx_catch (own := RL) hown [⟨0, 12, 15, 20⟩] ⟨0, 12, 19, 13⟩ [] (htb.trans rfl) (fun z hz => by rw [List.mem_singleton.mp hz]; exact Or.inr ⟨by decide, _, hts _ mw_L_threat_0, hE.2.2.2.2.2.2 ("java/lang/IllegalArgumentException", "java/lang/IndexOutOfBoundsException") (by decide +kernel)⟩) (by decide) (by decide) (hts _ mw_L_threat_1) (nest_use (by decide +kernel) (hE.2.1 (.castable "java/lang/IllegalArgumentException" "java/lang/IllegalArgumentException") (by decide +kernel))) h91 h92 h93 ?_
      refine lv_astore (lv' := [(5, .ref q9), (0, .ref y0), (1, .int (iI (v1))), (2, .int (iI (v2))), (3, .int (iI (v3))), (4, .ref o)]) hx hb dL_threat_19 hl (by decide) rfl (fun ls hl => ?_)
      refine r_iconst hx hb dL_threat_21 ?_
      exact hret (2) (0, fo) _ _ _ _ _ _ dL_threat_22 (by (try dsimp only); exact Or.inr (Or.inr ⟨rfl, hc9⟩)) hP hD hS (Nat.le_of_ble_eq_true rfl) (Nat.le_of_ble_eq_true rfl)
  · have hS := hN.mono hA
    refine lv_i2l (v := (iI (z7)).toInt64) hx hb dL_threat_10 rfl ?_
    refine r_last0 hx hb hE.1 hP hD hS 5 rfl (ws1 := [(y0, .inr (1, [.ref b, .ref y2, .int (iI (tu)), .int (iI (gc)), .int (iI (ph)), .int (iI (mo))])), (y2, .inl (cI, 4, .inl (aI C))), (b, .inr (0, [.ref pq, .ref cq])), (pq, .inl (cI, 16, .inl (aI P))), (cq, .inl (cI, 136, .inl (aI (cnt P)))), (o, .inl (cL, 1, .inr (.inl (vp_updL fo 0 ((iI (z7)).toInt64)))))]) rfl dL_threat_11 (fun H locs hP hD hS => ?_)
    refine lv_goto (tgt := 23) hx hb dL_threat_12 (by decide) ?_
    refine r_iconst hx hb dL_threat_23 ?_
    exact hret (0) (z7, (vp_updL fo 0 ((iI (z7)).toInt64))) _ _ _ _ _ _ dL_threat_24 (by (try dsimp only); exact Or.inl ⟨rfl, updL_at _ _, hz7⟩) hP hD hS (Nat.le_of_ble_eq_true rfl) (Nat.le_of_ble_eq_true rfl)

set_option maxRecDepth 20000 in
theorem mw_L_captureChance_0 : (.classLink RL 13 "java/lang/IllegalArgumentException" : Cond) ∈ wsL_captureChance := by decide +kernel
set_option maxRecDepth 20000 in
theorem mw_L_captureChance_1 : (.classLink RL 15 "java/lang/IllegalStateException" : Cond) ∈ wsL_captureChance := by decide +kernel
theorem f_L_captureChance : yL_captureChance.cls ≠ "java/lang/invoke/MethodHandle" ∧ yL_captureChance.cls ≠ "java/lang/invoke/VarHandle" ∧ (parseMethodDescriptor yL_captureChance.desc).map (fun d => d.parameters.length) = some 3 := by decide +kernel
set_option maxHeartbeats 4000000 in
set_option maxRecDepth 100000 in
theorem c_L_captureChance (l : Launch) (hst : l.stackTraces = false) (D : va_G) (cI cL : ClassId) (tw : Nat) (y0 : Nat) (y2 : Nat) (b : Nat) (pq : Nat) (cq : Nat) (tu : Int) (ph : Int) (mo : Int) (gc : Int) (P : Int → Int) (C : Int → Int) (o : Nat) (fo : Nat → Int64) (v1 : Int) (hB : ∀ i, 0 ≤ P i ∧ P i ≤ 72) (htu : 0 ≤ tu ∧ tu ≤ 3) (hgc : 0 ≤ gc ∧ gc ≤ 2) (hph : 0 ≤ ph ∧ ph ≤ 2) (hmo : 0 ≤ mo ∧ mo ≤ 6) (h_v1 : -2147483648 ≤ v1 ∧ v1 < 2147483648) : XWi l yL_captureChance wsL_captureChance { frames := 13, cells := 3, slots := 18, locals := 324 } D cI cL tw [.ref y0, .int (iI (v1)), .ref o] [(y0, .inr (1, [.ref b, .ref y2, .int (iI (tu)), .int (iI (gc)), .int (iI (ph)), .int (iI (mo))])), (y2, .inl (cI, 4, .inl (aI C))), (b, .inr (0, [.ref pq, .ref cq])), (pq, .inl (cI, 16, .inl (aI P))), (cq, .inl (cI, 136, .inl (aI (cnt P)))), (o, .inl (cL, 1, .inr (.inl fo)))] (fun (z : Int) (u : Int × (Nat → Int64)) => (z = 0 ∧ u.2 0 = (iI u.1).toInt64 ∧ ph = 0 ∧ (v1 = 1 ∧ u.1 = ch tu 1 gc P ∨ v1 = 2 ∧ u.1 = ch tu 2 gc P ∨ v1 = 3 ∧ u.1 = ch tu 3 gc P)) ∨ (z = 1 ∧ (¬ (1 ≤ v1 ∧ v1 ≤ 3))) ∨ (z = 2 ∧ (1 ≤ v1 ∧ v1 ≤ 3 ∧ ph ≠ 0))) (fun u : Int × (Nat → Int64) => [(y0, .inr (1, [.ref b, .ref y2, .int (iI (tu)), .int (iI (gc)), .int (iI (ph)), .int (iI (mo))])), (y2, .inl (cI, 4, .inl (aI C))), (b, .inr (0, [.ref pq, .ref cq])), (pq, .inl (cI, 16, .inl (aI P))), (cq, .inl (cI, 136, .inl (aI (cnt P)))), (o, .inl (cL, 1, .inr (.inl (u.2))))]) (fun _ => False) 3 18 := by
  refine lwi_of (cc := cL_captureChance) (maxL := 4) (own := RL) (by decide) rfl rfl (Nat.le_of_ble_eq_true rfl) ?_
  intro p e R s mt args below meth c H0 Q ls A S hR hRc hE hP hD hA hN hl htb hret
  have hS := hN.mono hA
  obtain ⟨hx, hb, hml, hown, hts⟩ := id S
  have hl : lv_has ls 4 [(0, .ref y0), (1, .int (iI (v1))), (2, .ref o)] := hl
  refine lv_aload_n hx hb dL_captureChance_0 rfl (lv_at hl 2 rfl) ?_
  refine r_iconst hx hb dL_captureChance_1 ?_
  refine lv_aload_n hx hb dL_captureChance_2 rfl (lv_at hl 0 rfl) ?_
  refine lv_iload_n hx hb dL_captureChance_3 rfl (lv_at hl 1 rfl) ?_
  refine r_xcW (As := [.int (iI (v1))]) (rest := [.int (iI (0)), .ref o]) (wr := [(o, .inl (cL, 1, .inr (.inl fo)))]) S (c_X1_captureChance l hst D cI cL tw (y0) (y2) (b) (pq) (cq) (tu) (ph) (mo) (gc) (P) (C) (v1) (hB) (by omega) (by omega) (by omega) (by omega) (by omega)) gL_captureChance_X1_captureChance rfl rfl rfl ⟨rfl, f_X1_captureChance⟩ hR (Nat.le_of_ble_eq_true rfl) (Nat.le_of_ble_eq_true rfl) (hE.kept hS.2.1) hP hD hS hA [0, 1, 2, 3, 4] [5] rfl rfl (by decide) rfl (by decide) (by decide) 0 rfl rfl rfl hl.1 rfl (Nat.le_of_ble_eq_true rfl) dL_captureChance_4 ⟨Nat.le_trans (Nat.le_of_ble_eq_true rfl) hRc.1, Nat.le_trans (Nat.le_of_ble_eq_true rfl) hRc.2⟩ (fun E9 ce9 q9 H locs hx9 h91 h92 h93 hP hS => ?_) (fun z4 u4 H locs hz4 hP hD hS => ?_)
  · have htb9 := htb
    rcases hx9 with ⟨rfl, hc9⟩ | ⟨rfl, hc9⟩
    · refine vx_catch (own := RL) hown [] ⟨0, 9, 12, 13⟩ [⟨0, 9, 15, 15⟩] (htb.trans rfl) (fun z hz => nomatch hz) (by decide) (by decide) (hts _ mw_L_captureChance_0) (nest_use (by decide +kernel) (hE.2.1 (.castable "java/lang/IllegalArgumentException" "java/lang/IllegalArgumentException") (by decide +kernel))) h91 h92 h93 ?_
      refine lv_astore_n (lv' := [(3, .ref q9), (0, .ref y0), (1, .int (iI (v1))), (2, .ref o)]) hx hb dL_captureChance_12 rfl hl (by decide) rfl (fun ls hl => ?_)
      refine r_iconst hx hb dL_captureChance_13 ?_
      exact hret (1) (0, fo) _ _ _ _ _ _ dL_captureChance_14 (by (try dsimp only); exact Or.inr (Or.inl ⟨rfl, hc9⟩)) hP hD hS (Nat.le_of_ble_eq_true rfl) (Nat.le_of_ble_eq_true rfl)
    · refine vx_catch (own := RL) hown [⟨0, 9, 12, 13⟩] ⟨0, 9, 15, 15⟩ [] (htb.trans rfl) (fun z hz => by rw [List.mem_singleton.mp hz]; exact Or.inr ⟨by decide, _, hts _ mw_L_captureChance_0, hE.2.2.2.2.2.2 ("java/lang/IllegalStateException", "java/lang/IllegalArgumentException") (by decide +kernel)⟩) (by decide) (by decide) (hts _ mw_L_captureChance_1) (nest_use (by decide +kernel) (hE.2.1 (.castable "java/lang/IllegalStateException" "java/lang/IllegalStateException") (by decide +kernel))) h91 h92 h93 ?_
      refine lv_astore_n (lv' := [(3, .ref q9), (0, .ref y0), (1, .int (iI (v1))), (2, .ref o)]) hx hb dL_captureChance_15 rfl hl (by decide) rfl (fun ls hl => ?_)
      refine r_iconst hx hb dL_captureChance_16 ?_
      exact hret (2) (0, fo) _ _ _ _ _ _ dL_captureChance_17 (by (try dsimp only); exact Or.inr (Or.inr ⟨rfl, hc9⟩)) hP hD hS (Nat.le_of_ble_eq_true rfl) (Nat.le_of_ble_eq_true rfl)
  · have hP : va_P D vwCl [(y0, .inr (1, [.ref b, .ref y2, .int (iI (tu)), .int (iI (gc)), .int (iI (ph)), .int (iI (mo))])), (y2, .inl (cI, 4, .inl (aI C))), (b, .inr (0, [.ref pq, .ref cq])), (pq, .inl (cI, 16, .inl (aI P))), (cq, .inl (cI, 136, .inl (aI (cnt P)))), (o, .inl (cL, 1, .inr (.inl fo)))] H := hP.sub [1, 2, 3, 4, 5, 0] rfl
    have hD : va_D A [(y0, .inr (1, [.ref b, .ref y2, .int (iI (tu)), .int (iI (gc)), .int (iI (ph)), .int (iI (mo))])), (y2, .inl (cI, 4, .inl (aI C))), (b, .inr (0, [.ref pq, .ref cq])), (pq, .inl (cI, 16, .inl (aI P))), (cq, .inl (cI, 136, .inl (aI (cnt P)))), (o, .inl (cL, 1, .inr (.inl fo)))] := hD.sub [1, 2, 3, 4, 5, 0] (by decide) rfl
    refine lv_i2l (v := (iI (z4)).toInt64) hx hb dL_captureChance_7 rfl ?_
    refine r_last0 hx hb hE.1 hP hD hS 5 rfl (ws1 := [(y0, .inr (1, [.ref b, .ref y2, .int (iI (tu)), .int (iI (gc)), .int (iI (ph)), .int (iI (mo))])), (y2, .inl (cI, 4, .inl (aI C))), (b, .inr (0, [.ref pq, .ref cq])), (pq, .inl (cI, 16, .inl (aI P))), (cq, .inl (cI, 136, .inl (aI (cnt P)))), (o, .inl (cL, 1, .inr (.inl (vp_updL fo 0 ((iI (z4)).toInt64)))))]) rfl dL_captureChance_8 (fun H locs hP hD hS => ?_)
    refine lv_goto (tgt := 18) hx hb dL_captureChance_9 (by decide) ?_
    refine r_iconst hx hb dL_captureChance_18 ?_
    exact hret (0) (z4, (vp_updL fo 0 ((iI (z4)).toInt64))) _ _ _ _ _ _ dL_captureChance_19 (by (try dsimp only); exact Or.inl ⟨rfl, updL_at _ _, hz4⟩) hP hD hS (Nat.le_of_ble_eq_true rfl) (Nat.le_of_ble_eq_true rfl)
