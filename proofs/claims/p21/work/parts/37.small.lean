theorem f_L_goes : yL_goes.cls ≠ "java/lang/invoke/MethodHandle" ∧ yL_goes.cls ≠ "java/lang/invoke/VarHandle" ∧ (parseMethodDescriptor yL_goes.desc).map (fun d => d.parameters.length) = some 5 := by decide +kernel
set_option maxHeartbeats 4000000 in
set_option maxRecDepth 100000 in
theorem c_L_goes (l : Launch) (hst : l.stackTraces = false) (D : va_G) (cI cL : ClassId) (tw : Nat) (y0 : Nat) (y2 : Nat) (b : Nat) (pq : Nat) (cq : Nat) (tu : Int) (mo : Int) (gc : Int) (P : Int → Int) (C : Int → Int) (m : Int) (mb : Int) (j : Int) (pz : Int) (tu2 : Int) (gc2 : Int) (ph2 : Int) (P2 : Int → Int) (C2 : Int → Int) (hmo : 0 ≤ mo ∧ mo ≤ 6) (h_mb : -2147483648 ≤ mb ∧ mb < 2147483648) (h_pz : -2147483648 ≤ pz ∧ pz < 2147483648) (hg : goesH P C tu gc m mb j pz tu2 gc2 ph2 P2 C2) : RWm l yL_goes wsL_goes { frames := 8, cells := 5, slots := 30, locals := 144 } D cI cL tw [.ref y0, .int (iI (m)), .int (iI (mb)), .int (iI (j)), .int (iI (pz))] [(y0, .inr (1, [.ref b, .ref y2, .int (iI (tu)), .int (iI (gc)), .int (iI (0)), .int (iI (mo))])), (y2, .inl (cI, 4, .inl (aI C))), (b, .inr (0, [.ref pq, .ref cq])), (pq, .inl (cI, 16, .inl (aI P))), (cq, .inl (cI, 136, .inl (aI (cnt P))))] (fun (z : Int) (u : Unit) => z = 1) (fun _ : Unit => [(y0, .inr (1, [.ref b, .ref y2, .int (iI (tu2)), .int (iI (gc2)), .int (iI (ph2)), .int (iI (m))])), (y2, .inl (cI, 4, .inl (aI C2))), (b, .inr (0, [.ref pq, .ref cq])), (pq, .inl (cI, 16, .inl (aI P2))), (cq, .inl (cI, 136, .inl (aI (cnt P2))))]) 5 30 := by
  refine rwm_of (cc := cL_goes) (maxL := 6) (rt := .boolean) (own := RL) (by decide) rfl rfl ⟨rfl, fun z u h => Or.inr h⟩ (Nat.le_of_ble_eq_true rfl) ?_
  intro p e R s mt args below meth c H0 Q ls A S hR hRc hE hP hD hS hA hl hret
  obtain ⟨hx, hb, hml, hown, hts⟩ := id S
  have hl : lv_has ls 6 [(0, .ref y0), (1, .int (iI (m))), (2, .int (iI (mb))), (3, .int (iI (j))), (4, .int (iI (pz)))] := hl
  obtain ⟨hgc, hng, hms, hmb, hB, htu, hgc1, hm, hj, hmv⟩ := hg
  have hcan := hmv.1
  refine lv_iload_n hx hb dL_goes_0 rfl (lv_at hl 1 rfl) ?_
  refine r_if_ne (tgt := 9) hx hb dL_goes_1 (by decide) (by unfold rI; omega) (fun h1 => ?_) (fun h1 => ?_)
  · refine lv_iload_n hx hb dL_goes_9 rfl (lv_at hl 1 rfl) ?_
    refine r_iconst hx hb dL_goes_10 ?_
    refine r_icmp_ne (tgt := 19) hx hb dL_goes_11 (by decide) (by unfold rI; omega) (by unfold rI; decide) (fun h11 => ?_) (fun h11 => ?_)
    · refine lv_iload_n hx hb dL_goes_19 rfl (lv_at hl 1 rfl) ?_
      refine lv_istore (lv' := [(5, .int (iI (m))), (0, .ref y0), (1, .int (iI (m))), (2, .int (iI (mb))), (3, .int (iI (j))), (4, .int (iI (pz)))]) hx hb dL_goes_20 hl (by decide) rfl (fun ls hl => ?_)
      refine lv_aload_n hx hb dL_goes_22 rfl (lv_at hl 1 rfl) ?_
      refine lv_iload_n hx hb dL_goes_23 rfl (lv_at hl 2 rfl) ?_
      refine q_XW (As := [.int (iI (m))]) (rest := []) (wr := []) S (c_X1_throwShells l hst D cI cL tw (y0) (y2) (b) (pq) (cq) (tu) (0) (mo) (gc) (P) (C) (m) (by omega) (by omega) (by omega) (by omega) (by omega) (by omega)) (m) ((tu, gq gc m, 1, m)) (fun z u h => qts (tsR_yes hng hms hmb (by unfold wo; (repeat' split) <;> omega)) h) (fun E h => by (try dsimp only at h); first | (rcases h with ⟨_, h⟩ | ⟨_, h⟩ <;> omega) | (obtain ⟨_, h⟩ := h; omega)) gL_goes_X1_throwShells rfl rfl rfl ⟨rfl, f_X1_throwShells⟩ hR (Nat.le_of_ble_eq_true rfl) (Nat.le_of_ble_eq_true rfl) (hE.kept hS.2.1) hP hD hS hA [0, 1, 2, 3, 4] [] rfl rfl (by decide) rfl (by decide) (by decide) 0 rfl rfl rfl hl.1 rfl (Nat.le_of_ble_eq_true rfl) dL_goes_24 ⟨Nat.le_trans (Nat.le_of_ble_eq_true rfl) hRc.1, Nat.le_trans (Nat.le_of_ble_eq_true rfl) hRc.2⟩ (fun H locs hP hD hS => ?_)
      have hP : va_P D vwCl [(y0, .inr (1, [.ref b, .ref y2, .int (iI (tu)), .int (iI (gq gc m)), .int (iI (1)), .int (iI (m))])), (y2, .inl (cI, 4, .inl (aI C))), (b, .inr (0, [.ref pq, .ref cq])), (pq, .inl (cI, 16, .inl (aI P))), (cq, .inl (cI, 136, .inl (aI (cnt P))))] H := hP
      have hD : va_D A [(y0, .inr (1, [.ref b, .ref y2, .int (iI (tu)), .int (iI (gq gc m)), .int (iI (1)), .int (iI (m))])), (y2, .inl (cI, 4, .inl (aI C))), (b, .inr (0, [.ref pq, .ref cq])), (pq, .inl (cI, 16, .inl (aI P))), (cq, .inl (cI, 136, .inl (aI (cnt P))))] := hD
      refine lv_iload hx hb dL_goes_27 (lv_at hl 0 rfl) ?_
      refine r_icmp_ne (tgt := 62) hx hb dL_goes_29 (by decide) (by unfold rI; omega) (by unfold rI; omega) (fun h9 => absurd h9 (by omega)) (fun h29 => ?_)
      refine lv_aload_n hx hb dL_goes_32 rfl (lv_at hl 1 rfl) ?_
      refine q_RO (As := []) (rest := []) S (c_X1_phase l D cI cL tw (y0) (y2) (b) (pq) (cq) (tu) (1) (m) (gq gc m) (P) (C) (by omega) (by omega) (by omega) (by omega) (by omega)) (1) (fun z h => h) gL_goes_X1_phase rfl rfl rfl ⟨rfl, f_X1_phase⟩ hR (Nat.le_of_ble_eq_true rfl) (Nat.le_of_ble_eq_true rfl) (hE.kept hS.2.1) hP [0, 1, 2, 3, 4] rfl 0 rfl rfl rfl hl.1 rfl (Nat.le_of_ble_eq_true rfl) dL_goes_33 ⟨Nat.le_trans (Nat.le_of_ble_eq_true rfl) hRc.1, Nat.le_trans (Nat.le_of_ble_eq_true rfl) hRc.2⟩ ?_
      refine r_iconst hx hb dL_goes_36 ?_
      refine r_icmp_ne (tgt := 62) hx hb dL_goes_37 (by decide) (by unfold rI; decide) (by unfold rI; decide) (fun h9 => absurd h9 (by omega)) (fun h37 => ?_)
      refine lv_aload_n hx hb dL_goes_40 rfl (lv_at hl 1 rfl) ?_
      refine q_Xi (As := []) (rest := []) S (c_X1_movable l hst D cI cL tw (y0) (y2) (b) (pq) (cq) (tu) (1) (m) (gq gc m) (P) (C) (by omega) (by omega) (by omega) (by omega) (by omega)) (mb) (fun z h => h.2.trans hms) (fun E h => by (try dsimp only at h); first | (rcases h with ⟨_, h⟩ | ⟨_, h⟩ <;> omega) | (obtain ⟨_, h⟩ := h; omega)) gL_goes_X1_movable rfl rfl rfl ⟨rfl, f_X1_movable⟩ hR (Nat.le_of_ble_eq_true rfl) (Nat.le_of_ble_eq_true rfl) (hE.kept hS.2.1) hP hS hA [0, 1, 2, 3, 4] rfl 0 rfl rfl rfl hl.1 rfl (Nat.le_of_ble_eq_true rfl) dL_goes_41 ⟨Nat.le_trans (Nat.le_of_ble_eq_true rfl) hRc.1, Nat.le_trans (Nat.le_of_ble_eq_true rfl) hRc.2⟩ (fun H locs hP hS => ?_)
      refine lv_iload_n hx hb dL_goes_44 rfl (lv_at hl 3 rfl) ?_
      refine r_icmp_ne (tgt := 62) hx hb dL_goes_45 (by decide) (by unfold rI; omega) (by unfold rI; omega) (fun h9 => absurd h9 (by omega)) (fun h45 => ?_)
      refine lv_aload_n hx hb dL_goes_48 rfl (lv_at hl 1 rfl) ?_
      refine lv_iload_n hx hb dL_goes_49 rfl (lv_at hl 4 rfl) ?_
      refine q_XW (As := [.int (iI (j))]) (rest := []) (wr := []) S (c_X1_move l hst D cI cL tw (y0) (y2) (b) (pq) (cq) (tu) (1) (m) (gq gc m) (P) (C) (j) (by omega) (by omega) (by omega) (by omega) (by omega) (by omega)) (pz) ((tu2, gc2, ph2, P2, C2)) (fun z u h => qmv hmv h) (fun E h => by (try dsimp only at h); first | (rcases h with ⟨_, h⟩ | ⟨_, h⟩ <;> omega) | (obtain ⟨_, h⟩ := h; omega)) gL_goes_X1_move rfl rfl rfl ⟨rfl, f_X1_move⟩ hR (Nat.le_of_ble_eq_true rfl) (Nat.le_of_ble_eq_true rfl) (hE.kept hS.2.1) hP hD hS hA [0, 1, 2, 3, 4] [] rfl rfl (by decide) rfl (by decide) (by decide) 0 rfl rfl rfl hl.1 rfl (Nat.le_of_ble_eq_true rfl) dL_goes_50 ⟨Nat.le_trans (Nat.le_of_ble_eq_true rfl) hRc.1, Nat.le_trans (Nat.le_of_ble_eq_true rfl) hRc.2⟩ (fun H locs hP hD hS => ?_)
      have hP : va_P D vwCl [(y0, .inr (1, [.ref b, .ref y2, .int (iI (tu2)), .int (iI (gc2)), .int (iI (ph2)), .int (iI (m))])), (y2, .inl (cI, 4, .inl (aI C2))), (b, .inr (0, [.ref pq, .ref cq])), (pq, .inl (cI, 16, .inl (aI P2))), (cq, .inl (cI, 136, .inl (aI (cnt P2))))] H := hP
      have hD : va_D A [(y0, .inr (1, [.ref b, .ref y2, .int (iI (tu2)), .int (iI (gc2)), .int (iI (ph2)), .int (iI (m))])), (y2, .inl (cI, 4, .inl (aI C2))), (b, .inr (0, [.ref pq, .ref cq])), (pq, .inl (cI, 16, .inl (aI P2))), (cq, .inl (cI, 136, .inl (aI (cnt P2))))] := hD
      refine lv_iload hx hb dL_goes_53 (lv_at hl 5 rfl) ?_
      refine r_icmp_ne (tgt := 62) hx hb dL_goes_55 (by decide) (by unfold rI; omega) (by unfold rI; omega) (fun h9 => absurd h9 (by omega)) (fun h55 => ?_)
      refine r_iconst hx hb dL_goes_58 ?_
      refine lv_goto (tgt := 63) hx hb dL_goes_59 (by decide) ?_
      exact hret (1) () _ _ _ _ _ _ dL_goes_63 (rfl) hP hD hS (Nat.le_of_ble_eq_true rfl) (Nat.le_of_ble_eq_true rfl)
    · refine r_bipush hx hb dL_goes_14 (by decide) ?_
      refine lv_goto (tgt := 20) hx hb dL_goes_16 (by decide) ?_
      refine lv_istore (lv' := [(5, .int (iI (10))), (0, .ref y0), (1, .int (iI (m))), (2, .int (iI (mb))), (3, .int (iI (j))), (4, .int (iI (pz)))]) hx hb dL_goes_20 hl (by decide) rfl (fun ls hl => ?_)
      refine lv_aload_n hx hb dL_goes_22 rfl (lv_at hl 1 rfl) ?_
      refine lv_iload_n hx hb dL_goes_23 rfl (lv_at hl 2 rfl) ?_
      refine q_XW (As := [.int (iI (m))]) (rest := []) (wr := []) S (c_X1_throwShells l hst D cI cL tw (y0) (y2) (b) (pq) (cq) (tu) (0) (mo) (gc) (P) (C) (m) (by omega) (by omega) (by omega) (by omega) (by omega) (by omega)) (10) ((tu, gq gc m, 1, m)) (fun z u h => qts (tsR_yes hng hms hmb (by unfold wo; (repeat' split) <;> omega)) h) (fun E h => by (try dsimp only at h); first | (rcases h with ⟨_, h⟩ | ⟨_, h⟩ <;> omega) | (obtain ⟨_, h⟩ := h; omega)) gL_goes_X1_throwShells rfl rfl rfl ⟨rfl, f_X1_throwShells⟩ hR (Nat.le_of_ble_eq_true rfl) (Nat.le_of_ble_eq_true rfl) (hE.kept hS.2.1) hP hD hS hA [0, 1, 2, 3, 4] [] rfl rfl (by decide) rfl (by decide) (by decide) 0 rfl rfl rfl hl.1 rfl (Nat.le_of_ble_eq_true rfl) dL_goes_24 ⟨Nat.le_trans (Nat.le_of_ble_eq_true rfl) hRc.1, Nat.le_trans (Nat.le_of_ble_eq_true rfl) hRc.2⟩ (fun H locs hP hD hS => ?_)
      have hP : va_P D vwCl [(y0, .inr (1, [.ref b, .ref y2, .int (iI (tu)), .int (iI (gq gc m)), .int (iI (1)), .int (iI (m))])), (y2, .inl (cI, 4, .inl (aI C))), (b, .inr (0, [.ref pq, .ref cq])), (pq, .inl (cI, 16, .inl (aI P))), (cq, .inl (cI, 136, .inl (aI (cnt P))))] H := hP
      have hD : va_D A [(y0, .inr (1, [.ref b, .ref y2, .int (iI (tu)), .int (iI (gq gc m)), .int (iI (1)), .int (iI (m))])), (y2, .inl (cI, 4, .inl (aI C))), (b, .inr (0, [.ref pq, .ref cq])), (pq, .inl (cI, 16, .inl (aI P))), (cq, .inl (cI, 136, .inl (aI (cnt P))))] := hD
      refine lv_iload hx hb dL_goes_27 (lv_at hl 0 rfl) ?_
      refine r_icmp_ne (tgt := 62) hx hb dL_goes_29 (by decide) (by unfold rI; decide) (by unfold rI; decide) (fun h9 => absurd h9 (by omega)) (fun h29 => ?_)
      refine lv_aload_n hx hb dL_goes_32 rfl (lv_at hl 1 rfl) ?_
      refine q_RO (As := []) (rest := []) S (c_X1_phase l D cI cL tw (y0) (y2) (b) (pq) (cq) (tu) (1) (m) (gq gc m) (P) (C) (by omega) (by omega) (by omega) (by omega) (by omega)) (1) (fun z h => h) gL_goes_X1_phase rfl rfl rfl ⟨rfl, f_X1_phase⟩ hR (Nat.le_of_ble_eq_true rfl) (Nat.le_of_ble_eq_true rfl) (hE.kept hS.2.1) hP [0, 1, 2, 3, 4] rfl 0 rfl rfl rfl hl.1 rfl (Nat.le_of_ble_eq_true rfl) dL_goes_33 ⟨Nat.le_trans (Nat.le_of_ble_eq_true rfl) hRc.1, Nat.le_trans (Nat.le_of_ble_eq_true rfl) hRc.2⟩ ?_
      refine r_iconst hx hb dL_goes_36 ?_
      refine r_icmp_ne (tgt := 62) hx hb dL_goes_37 (by decide) (by unfold rI; decide) (by unfold rI; decide) (fun h9 => absurd h9 (by omega)) (fun h37 => ?_)
      refine lv_aload_n hx hb dL_goes_40 rfl (lv_at hl 1 rfl) ?_
      refine q_Xi (As := []) (rest := []) S (c_X1_movable l hst D cI cL tw (y0) (y2) (b) (pq) (cq) (tu) (1) (m) (gq gc m) (P) (C) (by omega) (by omega) (by omega) (by omega) (by omega)) (mb) (fun z h => h.2.trans hms) (fun E h => by (try dsimp only at h); first | (rcases h with ⟨_, h⟩ | ⟨_, h⟩ <;> omega) | (obtain ⟨_, h⟩ := h; omega)) gL_goes_X1_movable rfl rfl rfl ⟨rfl, f_X1_movable⟩ hR (Nat.le_of_ble_eq_true rfl) (Nat.le_of_ble_eq_true rfl) (hE.kept hS.2.1) hP hS hA [0, 1, 2, 3, 4] rfl 0 rfl rfl rfl hl.1 rfl (Nat.le_of_ble_eq_true rfl) dL_goes_41 ⟨Nat.le_trans (Nat.le_of_ble_eq_true rfl) hRc.1, Nat.le_trans (Nat.le_of_ble_eq_true rfl) hRc.2⟩ (fun H locs hP hS => ?_)
      refine lv_iload_n hx hb dL_goes_44 rfl (lv_at hl 3 rfl) ?_
      refine r_icmp_ne (tgt := 62) hx hb dL_goes_45 (by decide) (by unfold rI; omega) (by unfold rI; omega) (fun h9 => absurd h9 (by omega)) (fun h45 => ?_)
      refine lv_aload_n hx hb dL_goes_48 rfl (lv_at hl 1 rfl) ?_
      refine lv_iload_n hx hb dL_goes_49 rfl (lv_at hl 4 rfl) ?_
      refine q_XW (As := [.int (iI (j))]) (rest := []) (wr := []) S (c_X1_move l hst D cI cL tw (y0) (y2) (b) (pq) (cq) (tu) (1) (m) (gq gc m) (P) (C) (j) (by omega) (by omega) (by omega) (by omega) (by omega) (by omega)) (pz) ((tu2, gc2, ph2, P2, C2)) (fun z u h => qmv hmv h) (fun E h => by (try dsimp only at h); first | (rcases h with ⟨_, h⟩ | ⟨_, h⟩ <;> omega) | (obtain ⟨_, h⟩ := h; omega)) gL_goes_X1_move rfl rfl rfl ⟨rfl, f_X1_move⟩ hR (Nat.le_of_ble_eq_true rfl) (Nat.le_of_ble_eq_true rfl) (hE.kept hS.2.1) hP hD hS hA [0, 1, 2, 3, 4] [] rfl rfl (by decide) rfl (by decide) (by decide) 0 rfl rfl rfl hl.1 rfl (Nat.le_of_ble_eq_true rfl) dL_goes_50 ⟨Nat.le_trans (Nat.le_of_ble_eq_true rfl) hRc.1, Nat.le_trans (Nat.le_of_ble_eq_true rfl) hRc.2⟩ (fun H locs hP hD hS => ?_)
      have hP : va_P D vwCl [(y0, .inr (1, [.ref b, .ref y2, .int (iI (tu2)), .int (iI (gc2)), .int (iI (ph2)), .int (iI (m))])), (y2, .inl (cI, 4, .inl (aI C2))), (b, .inr (0, [.ref pq, .ref cq])), (pq, .inl (cI, 16, .inl (aI P2))), (cq, .inl (cI, 136, .inl (aI (cnt P2))))] H := hP
      have hD : va_D A [(y0, .inr (1, [.ref b, .ref y2, .int (iI (tu2)), .int (iI (gc2)), .int (iI (ph2)), .int (iI (m))])), (y2, .inl (cI, 4, .inl (aI C2))), (b, .inr (0, [.ref pq, .ref cq])), (pq, .inl (cI, 16, .inl (aI P2))), (cq, .inl (cI, 136, .inl (aI (cnt P2))))] := hD
      refine lv_iload hx hb dL_goes_53 (lv_at hl 5 rfl) ?_
      refine r_icmp_ne (tgt := 62) hx hb dL_goes_55 (by decide) (by unfold rI; omega) (by unfold rI; omega) (fun h9 => absurd h9 (by omega)) (fun h55 => ?_)
      refine r_iconst hx hb dL_goes_58 ?_
      refine lv_goto (tgt := 63) hx hb dL_goes_59 (by decide) ?_
      exact hret (1) () _ _ _ _ _ _ dL_goes_63 (rfl) hP hD hS (Nat.le_of_ble_eq_true rfl) (Nat.le_of_ble_eq_true rfl)
  · refine r_bipush hx hb dL_goes_4 (by decide) ?_
    refine lv_goto (tgt := 20) hx hb dL_goes_6 (by decide) ?_
    refine lv_istore (lv' := [(5, .int (iI (25))), (0, .ref y0), (1, .int (iI (m))), (2, .int (iI (mb))), (3, .int (iI (j))), (4, .int (iI (pz)))]) hx hb dL_goes_20 hl (by decide) rfl (fun ls hl => ?_)
    refine lv_aload_n hx hb dL_goes_22 rfl (lv_at hl 1 rfl) ?_
    refine lv_iload_n hx hb dL_goes_23 rfl (lv_at hl 2 rfl) ?_
    refine q_XW (As := [.int (iI (m))]) (rest := []) (wr := []) S (c_X1_throwShells l hst D cI cL tw (y0) (y2) (b) (pq) (cq) (tu) (0) (mo) (gc) (P) (C) (m) (by omega) (by omega) (by omega) (by omega) (by omega) (by omega)) (25) ((tu, gq gc m, 1, m)) (fun z u h => qts (tsR_yes hng hms hmb (by unfold wo; (repeat' split) <;> omega)) h) (fun E h => by (try dsimp only at h); first | (rcases h with ⟨_, h⟩ | ⟨_, h⟩ <;> omega) | (obtain ⟨_, h⟩ := h; omega)) gL_goes_X1_throwShells rfl rfl rfl ⟨rfl, f_X1_throwShells⟩ hR (Nat.le_of_ble_eq_true rfl) (Nat.le_of_ble_eq_true rfl) (hE.kept hS.2.1) hP hD hS hA [0, 1, 2, 3, 4] [] rfl rfl (by decide) rfl (by decide) (by decide) 0 rfl rfl rfl hl.1 rfl (Nat.le_of_ble_eq_true rfl) dL_goes_24 ⟨Nat.le_trans (Nat.le_of_ble_eq_true rfl) hRc.1, Nat.le_trans (Nat.le_of_ble_eq_true rfl) hRc.2⟩ (fun H locs hP hD hS => ?_)
    have hP : va_P D vwCl [(y0, .inr (1, [.ref b, .ref y2, .int (iI (tu)), .int (iI (gq gc m)), .int (iI (1)), .int (iI (m))])), (y2, .inl (cI, 4, .inl (aI C))), (b, .inr (0, [.ref pq, .ref cq])), (pq, .inl (cI, 16, .inl (aI P))), (cq, .inl (cI, 136, .inl (aI (cnt P))))] H := hP
    have hD : va_D A [(y0, .inr (1, [.ref b, .ref y2, .int (iI (tu)), .int (iI (gq gc m)), .int (iI (1)), .int (iI (m))])), (y2, .inl (cI, 4, .inl (aI C))), (b, .inr (0, [.ref pq, .ref cq])), (pq, .inl (cI, 16, .inl (aI P))), (cq, .inl (cI, 136, .inl (aI (cnt P))))] := hD
    refine lv_iload hx hb dL_goes_27 (lv_at hl 0 rfl) ?_
    refine r_icmp_ne (tgt := 62) hx hb dL_goes_29 (by decide) (by unfold rI; decide) (by unfold rI; decide) (fun h9 => absurd h9 (by omega)) (fun h29 => ?_)
    refine lv_aload_n hx hb dL_goes_32 rfl (lv_at hl 1 rfl) ?_
    refine q_RO (As := []) (rest := []) S (c_X1_phase l D cI cL tw (y0) (y2) (b) (pq) (cq) (tu) (1) (m) (gq gc m) (P) (C) (by omega) (by omega) (by omega) (by omega) (by omega)) (1) (fun z h => h) gL_goes_X1_phase rfl rfl rfl ⟨rfl, f_X1_phase⟩ hR (Nat.le_of_ble_eq_true rfl) (Nat.le_of_ble_eq_true rfl) (hE.kept hS.2.1) hP [0, 1, 2, 3, 4] rfl 0 rfl rfl rfl hl.1 rfl (Nat.le_of_ble_eq_true rfl) dL_goes_33 ⟨Nat.le_trans (Nat.le_of_ble_eq_true rfl) hRc.1, Nat.le_trans (Nat.le_of_ble_eq_true rfl) hRc.2⟩ ?_
    refine r_iconst hx hb dL_goes_36 ?_
    refine r_icmp_ne (tgt := 62) hx hb dL_goes_37 (by decide) (by unfold rI; decide) (by unfold rI; decide) (fun h9 => absurd h9 (by omega)) (fun h37 => ?_)
    refine lv_aload_n hx hb dL_goes_40 rfl (lv_at hl 1 rfl) ?_
    refine q_Xi (As := []) (rest := []) S (c_X1_movable l hst D cI cL tw (y0) (y2) (b) (pq) (cq) (tu) (1) (m) (gq gc m) (P) (C) (by omega) (by omega) (by omega) (by omega) (by omega)) (mb) (fun z h => h.2.trans hms) (fun E h => by (try dsimp only at h); first | (rcases h with ⟨_, h⟩ | ⟨_, h⟩ <;> omega) | (obtain ⟨_, h⟩ := h; omega)) gL_goes_X1_movable rfl rfl rfl ⟨rfl, f_X1_movable⟩ hR (Nat.le_of_ble_eq_true rfl) (Nat.le_of_ble_eq_true rfl) (hE.kept hS.2.1) hP hS hA [0, 1, 2, 3, 4] rfl 0 rfl rfl rfl hl.1 rfl (Nat.le_of_ble_eq_true rfl) dL_goes_41 ⟨Nat.le_trans (Nat.le_of_ble_eq_true rfl) hRc.1, Nat.le_trans (Nat.le_of_ble_eq_true rfl) hRc.2⟩ (fun H locs hP hS => ?_)
    refine lv_iload_n hx hb dL_goes_44 rfl (lv_at hl 3 rfl) ?_
    refine r_icmp_ne (tgt := 62) hx hb dL_goes_45 (by decide) (by unfold rI; omega) (by unfold rI; omega) (fun h9 => absurd h9 (by omega)) (fun h45 => ?_)
    refine lv_aload_n hx hb dL_goes_48 rfl (lv_at hl 1 rfl) ?_
    refine lv_iload_n hx hb dL_goes_49 rfl (lv_at hl 4 rfl) ?_
    refine q_XW (As := [.int (iI (j))]) (rest := []) (wr := []) S (c_X1_move l hst D cI cL tw (y0) (y2) (b) (pq) (cq) (tu) (1) (m) (gq gc m) (P) (C) (j) (by omega) (by omega) (by omega) (by omega) (by omega) (by omega)) (pz) ((tu2, gc2, ph2, P2, C2)) (fun z u h => qmv hmv h) (fun E h => by (try dsimp only at h); first | (rcases h with ⟨_, h⟩ | ⟨_, h⟩ <;> omega) | (obtain ⟨_, h⟩ := h; omega)) gL_goes_X1_move rfl rfl rfl ⟨rfl, f_X1_move⟩ hR (Nat.le_of_ble_eq_true rfl) (Nat.le_of_ble_eq_true rfl) (hE.kept hS.2.1) hP hD hS hA [0, 1, 2, 3, 4] [] rfl rfl (by decide) rfl (by decide) (by decide) 0 rfl rfl rfl hl.1 rfl (Nat.le_of_ble_eq_true rfl) dL_goes_50 ⟨Nat.le_trans (Nat.le_of_ble_eq_true rfl) hRc.1, Nat.le_trans (Nat.le_of_ble_eq_true rfl) hRc.2⟩ (fun H locs hP hD hS => ?_)
    have hP : va_P D vwCl [(y0, .inr (1, [.ref b, .ref y2, .int (iI (tu2)), .int (iI (gc2)), .int (iI (ph2)), .int (iI (m))])), (y2, .inl (cI, 4, .inl (aI C2))), (b, .inr (0, [.ref pq, .ref cq])), (pq, .inl (cI, 16, .inl (aI P2))), (cq, .inl (cI, 136, .inl (aI (cnt P2))))] H := hP
    have hD : va_D A [(y0, .inr (1, [.ref b, .ref y2, .int (iI (tu2)), .int (iI (gc2)), .int (iI (ph2)), .int (iI (m))])), (y2, .inl (cI, 4, .inl (aI C2))), (b, .inr (0, [.ref pq, .ref cq])), (pq, .inl (cI, 16, .inl (aI P2))), (cq, .inl (cI, 136, .inl (aI (cnt P2))))] := hD
    refine lv_iload hx hb dL_goes_53 (lv_at hl 5 rfl) ?_
    refine r_icmp_ne (tgt := 62) hx hb dL_goes_55 (by decide) (by unfold rI; omega) (by unfold rI; omega) (fun h9 => absurd h9 (by omega)) (fun h55 => ?_)
    refine r_iconst hx hb dL_goes_58 ?_
    refine lv_goto (tgt := 63) hx hb dL_goes_59 (by decide) ?_
    exact hret (1) () _ _ _ _ _ _ dL_goes_63 (rfl) hP hD hS (Nat.le_of_ble_eq_true rfl) (Nat.le_of_ble_eq_true rfl)

theorem f_L_loses : yL_loses.cls ≠ "java/lang/invoke/MethodHandle" ∧ yL_loses.cls ≠ "java/lang/invoke/VarHandle" ∧ (parseMethodDescriptor yL_loses.desc).map (fun d => d.parameters.length) = some 2 := by decide +kernel
set_option maxHeartbeats 4000000 in
set_option maxRecDepth 100000 in
theorem c_L_loses (l : Launch) (hst : l.stackTraces = false) (D : va_G) (cI cL : ClassId) (tw : Nat) (y0 : Nat) (y2 : Nat) (b : Nat) (pq : Nat) (cq : Nat) (tu : Int) (mo : Int) (gc : Int) (P : Int → Int) (C : Int → Int) (tu2 : Int) (hB : ∀ i, 0 ≤ P i ∧ P i ≤ 72) (htu : 0 ≤ tu ∧ tu ≤ 3) (hgc : 0 ≤ gc ∧ gc ≤ 2) (hmo : 0 ≤ mo ∧ mo ≤ 6) (hms : ms P (mv P tu) 2 = 0) (htu2 : tu2 = (tu + 1) % 4) : RWm l yL_loses wsL_loses { frames := 8, cells := 1, slots := 6, locals := 142 } D cI cL tw [.ref y0, .int (iI (tu))] [(y0, .inr (1, [.ref b, .ref y2, .int (iI (tu)), .int (iI (gc)), .int (iI (0)), .int (iI (mo))])), (y2, .inl (cI, 4, .inl (aI C))), (b, .inr (0, [.ref pq, .ref cq])), (pq, .inl (cI, 16, .inl (aI P))), (cq, .inl (cI, 136, .inl (aI (cnt P))))] (fun (z : Int) (u : Unit) => z = 1) (fun _ : Unit => [(y0, .inr (1, [.ref b, .ref y2, .int (iI (tu2)), .int (iI (0)), .int (iI (0)), .int (iI (mo))])), (y2, .inl (cI, 4, .inl (aI C))), (b, .inr (0, [.ref pq, .ref cq])), (pq, .inl (cI, 16, .inl (aI P))), (cq, .inl (cI, 136, .inl (aI (cnt P))))]) 1 6 := by
  refine rwm_of (cc := cL_loses) (maxL := 2) (rt := .boolean) (own := RL) (by decide) rfl rfl ⟨rfl, fun z u h => Or.inr h⟩ (Nat.le_of_ble_eq_true rfl) ?_
  intro p e R s mt args below meth c H0 Q ls A S hR hRc hE hP hD hS hA hl hret
  obtain ⟨hx, hb, hml, hown, hts⟩ := id S
  have hl : lv_has ls 2 [(0, .ref y0), (1, .int (iI (tu)))] := hl
  refine lv_aload_n hx hb dL_loses_0 rfl (lv_at hl 0 rfl) ?_
  refine q_RO (As := []) (rest := []) S (c_X1_onTurn l D cI cL tw (y0) (y2) (b) (pq) (cq) (tu) (0) (mo) (gc) (P) (C) (by omega) (by omega) (by omega) (by omega) (by omega)) (tu) (fun z h => h) gL_loses_X1_onTurn rfl rfl rfl ⟨rfl, f_X1_onTurn⟩ hR (Nat.le_of_ble_eq_true rfl) (Nat.le_of_ble_eq_true rfl) (hE.kept hS.2.1) hP [0, 1, 2, 3, 4] rfl 0 rfl rfl rfl hl.1 rfl (Nat.le_of_ble_eq_true rfl) dL_loses_1 ⟨Nat.le_trans (Nat.le_of_ble_eq_true rfl) hRc.1, Nat.le_trans (Nat.le_of_ble_eq_true rfl) hRc.2⟩ ?_
  refine lv_iload_n hx hb dL_loses_4 rfl (lv_at hl 1 rfl) ?_
  refine r_icmp_ne (tgt := 34) hx hb dL_loses_5 (by decide) (by unfold rI; omega) (by unfold rI; omega) (fun h9 => absurd h9 (by omega)) (fun h5 => ?_)
  refine lv_aload_n hx hb dL_loses_8 rfl (lv_at hl 0 rfl) ?_
  refine r_iconst hx hb dL_loses_9 ?_
  refine q_XW (As := [.int (iI (2))]) (rest := []) (wr := []) S (c_X1_throwShells l hst D cI cL tw (y0) (y2) (b) (pq) (cq) (tu) (0) (mo) (gc) (P) (C) (2) (by omega) (by omega) (by omega) (by omega) (by omega) (by omega)) (-2) ((tu2, 0, 0, mo)) (fun z u h => qts (tsR_no2 hms htu2) h) (fun E h => by (try dsimp only at h); first | (rcases h with ⟨_, h⟩ | ⟨_, h⟩ <;> omega) | (obtain ⟨_, h⟩ := h; omega)) gL_loses_X1_throwShells rfl rfl rfl ⟨rfl, f_X1_throwShells⟩ hR (Nat.le_of_ble_eq_true rfl) (Nat.le_of_ble_eq_true rfl) (hE.kept hS.2.1) hP hD hS hA [0, 1, 2, 3, 4] [] rfl rfl (by decide) rfl (by decide) (by decide) 0 rfl rfl rfl hl.1 rfl (Nat.le_of_ble_eq_true rfl) dL_loses_10 ⟨Nat.le_trans (Nat.le_of_ble_eq_true rfl) hRc.1, Nat.le_trans (Nat.le_of_ble_eq_true rfl) hRc.2⟩ (fun H locs hP hD hS => ?_)
  have hP : va_P D vwCl [(y0, .inr (1, [.ref b, .ref y2, .int (iI (tu2)), .int (iI (0)), .int (iI (0)), .int (iI (mo))])), (y2, .inl (cI, 4, .inl (aI C))), (b, .inr (0, [.ref pq, .ref cq])), (pq, .inl (cI, 16, .inl (aI P))), (cq, .inl (cI, 136, .inl (aI (cnt P))))] H := hP
  have hD : va_D A [(y0, .inr (1, [.ref b, .ref y2, .int (iI (tu2)), .int (iI (0)), .int (iI (0)), .int (iI (mo))])), (y2, .inl (cI, 4, .inl (aI C))), (b, .inr (0, [.ref pq, .ref cq])), (pq, .inl (cI, 16, .inl (aI P))), (cq, .inl (cI, 136, .inl (aI (cnt P))))] := hD
  refine r_bipush hx hb dL_loses_13 (by decide) ?_
  refine r_icmp_ne (tgt := 34) hx hb dL_loses_15 (by decide) (by unfold rI; decide) (by unfold rI; decide) (fun h9 => absurd h9 (by omega)) (fun h15 => ?_)
  refine lv_aload_n hx hb dL_loses_18 rfl (lv_at hl 0 rfl) ?_
  refine q_RO (As := []) (rest := []) S (c_X1_onTurn l D cI cL tw (y0) (y2) (b) (pq) (cq) (tu2) (0) (mo) (0) (P) (C) (by omega) (by omega) (by omega) (by omega) (by omega)) (tu2) (fun z h => h) gL_loses_X1_onTurn rfl rfl rfl ⟨rfl, f_X1_onTurn⟩ hR (Nat.le_of_ble_eq_true rfl) (Nat.le_of_ble_eq_true rfl) (hE.kept hS.2.1) hP [0, 1, 2, 3, 4] rfl 0 rfl rfl rfl hl.1 rfl (Nat.le_of_ble_eq_true rfl) dL_loses_19 ⟨Nat.le_trans (Nat.le_of_ble_eq_true rfl) hRc.1, Nat.le_trans (Nat.le_of_ble_eq_true rfl) hRc.2⟩ ?_
  refine lv_iload_n hx hb dL_loses_22 rfl (lv_at hl 1 rfl) ?_
  refine r_iconst hx hb dL_loses_23 ?_
  refine r_iadd hx hb dL_loses_24 ?_
  refine r_iconst hx hb dL_loses_25 ?_
  refine r_irem hx hb dL_loses_26 (by omega) (by omega) ?_
  refine r_icmp_ne (tgt := 34) hx hb dL_loses_27 (by decide) (by unfold rI; omega) (by unfold rI; omega) (fun h9 => absurd h9 (by omega)) (fun h27 => ?_)
  refine r_iconst hx hb dL_loses_30 ?_
  refine lv_goto (tgt := 35) hx hb dL_loses_31 (by decide) ?_
  exact hret (1) () _ _ _ _ _ _ dL_loses_35 (rfl) hP hD hS (Nat.le_of_ble_eq_true rfl) (Nat.le_of_ble_eq_true rfl)

set_option maxRecDepth 20000 in
theorem mw_L_refuses_0 : (.constant RL 65 (2147483647) : Cond) ∈ wsL_refuses := by decide +kernel
theorem f_L_refuses : yL_refuses.cls ≠ "java/lang/invoke/MethodHandle" ∧ yL_refuses.cls ≠ "java/lang/invoke/VarHandle" ∧ (parseMethodDescriptor yL_refuses.desc).map (fun d => d.parameters.length) = some 1 := by decide +kernel
set_option maxHeartbeats 4000000 in
set_option maxRecDepth 100000 in
theorem sg_L_refuses_5 {p : Program} {l : Launch} {e : Env} {R : Room} {s : State} {mt : MethodId} {args : Array Value} {below : List Frame} {meth : Method} {c : Code} {H0 : Heap} {Q : State → Prop} {A : Nat → Prop} {D : va_G} {cI cL : ClassId} {tw : Nat} (S : CallFix p mt c cL_refuses 9 s args wsL_refuses RL) (hst : l.stackTraces = false) (hR : 14 ≤ R.frames ∧ 349 ≤ R.locals) (hRc : 155 ≤ R.cells ∧ 930 ≤ R.slots) (hE : EV D cI cL tw A s H0) (hA : ∀ q : Nat, H0.size ≤ q → A q) (y0 : Nat) (y2 : Nat) (b : Nat) (pq : Nat) (cq : Nat) (tu : Int) (ph : Int) (mo : Int) (gc : Int) (P : Int → Int) (C : Int → Int) (hB : ∀ i, 0 ≤ P i ∧ P i ≤ 72) (htu : 0 ≤ tu ∧ tu ≤ 3) (hgc : 0 ≤ gc ∧ gc ≤ 2) (hph : 0 ≤ ph ∧ ph ≤ 2) (hmo : 0 ≤ mo ∧ mo ≤ 6) (hret : ∀ (z : Int) (u : Unit) (pc : Nat) (ls : Array Slot) (H : Heap) (locs : List Loc) (cells slots : Nat), decode cL_refuses pc = .ok (.ireturn, 1) → (z = 1) → va_P D vwCl [(y0, .inr (1, [.ref b, .ref y2, .int (iI (tu)), .int (iI (gc)), .int (iI (ph)), .int (iI (mo))])), (y2, .inl (cI, 4, .inl (aI C))), (b, .inr (0, [.ref pq, .ref cq])), (pq, .inl (cI, 16, .inl (aI P))), (cq, .inl (cI, 136, .inl (aI (cnt P))))] H → va_D A [(y0, .inr (1, [.ref b, .ref y2, .int (iI (tu)), .int (iI (gc)), .int (iI (ph)), .int (iI (mo))])), (y2, .inl (cI, 4, .inl (aI C))), (b, .inr (0, [.ref pq, .ref cq])), (pq, .inl (cI, 16, .inl (aI P))), (cq, .inl (cI, 136, .inl (aI (cnt P))))] → va_S A H0 H locs → cells ≤ 155 → slots ≤ 930 → W p l e R s mt args below meth c H locs cells slots Q (F0 mt pc ls [.int (iI z)])) {H : Heap} {locs : List Loc} {ls : Array Slot} (hP : va_P D vwCl [(y0, .inr (1, [.ref b, .ref y2, .int (iI (tu)), .int (iI (gc)), .int (iI (ph)), .int (iI (mo))])), (y2, .inl (cI, 4, .inl (aI C))), (b, .inr (0, [.ref pq, .ref cq])), (pq, .inl (cI, 16, .inl (aI P))), (cq, .inl (cI, 136, .inl (aI (cnt P))))] H) (hD : va_D A [(y0, .inr (1, [.ref b, .ref y2, .int (iI (tu)), .int (iI (gc)), .int (iI (ph)), .int (iI (mo))])), (y2, .inl (cI, 4, .inl (aI C))), (b, .inr (0, [.ref pq, .ref cq])), (pq, .inl (cI, 16, .inl (aI P))), (cq, .inl (cI, 136, .inl (aI (cnt P))))]) (hS : va_S A H0 H locs) (hl : lv_has ls 9 [(4, .int (iI (4))), (8, .int (iI (1))), (7, .int (iI (-2147483648))), (6, .int (iI (-2147483648))), (5, .int (iI (-2147483648))), (3, .int (iI (2147483647))), (2, .int (iI (tu))), (1, .int (iI (ph))), (0, .ref y0)]) : W p l e R s mt args below meth c H locs 148 888 Q (F0 mt 16 ls []) := by
  obtain ⟨hx, hb, hml, hown, hts⟩ := id S
  refine lv_iload hx hb dL_refuses_16 (lv_at hl 0 rfl) ?_
  refine r_iconst hx hb dL_refuses_18 ?_
  refine r_icmp_ge (tgt := 449) hx hb dL_refuses_19 (by decide) (by unfold rI; decide) (by unfold rI; decide) (fun h19 => ?_) (fun h9 => absurd h9 (by omega))
  refine lv_iload_n hx hb dL_refuses_449 rfl (lv_at hl 7 rfl) ?_
  refine r_iconst hx hb dL_refuses_450 ?_
  refine r_icmp_eq (tgt := 482) hx hb dL_refuses_451 (by decide) (by unfold rI; omega) (by unfold rI; decide) (fun h451 => ?_) (fun h451 => ?_)
  · refine lv_iload_n hx hb dL_refuses_482 rfl (lv_at hl 7 rfl) ?_
    refine r_if_eq (tgt := 530) hx hb dL_refuses_483 (by decide) (by unfold rI; omega) (fun h483 => ?_) (fun h483 => ?_)
    · refine r_iconst hx hb dL_refuses_530 ?_
      refine lv_goto (tgt := 535) hx hb dL_refuses_531 (by decide) ?_
      refine lv_istore (lv' := [(4, .int (iI (1))), (8, .int (iI (1))), (7, .int (iI (-2147483648))), (6, .int (iI (-2147483648))), (5, .int (iI (-2147483648))), (3, .int (iI (2147483647))), (2, .int (iI (tu))), (1, .int (iI (ph))), (0, .ref y0)]) hx hb dL_refuses_535 hl (by decide) rfl (fun ls hl => ?_)
      refine lv_iload hx hb dL_refuses_537 (lv_at hl 0 rfl) ?_
      refine r_if_eq (tgt := 562) hx hb dL_refuses_539 (by decide) (by unfold rI; decide) (fun h9 => absurd h9 (by omega)) (fun h539 => ?_)
      refine lv_aload_n hx hb dL_refuses_542 rfl (lv_at hl 8 rfl) ?_
      refine q_RO (As := []) (rest := []) S (c_X1_phase l D cI cL tw (y0) (y2) (b) (pq) (cq) (tu) (ph) (mo) (gc) (P) (C) (by omega) (by omega) (by omega) (by omega) (by omega)) (ph) (fun z h => h) gL_refuses_X1_phase rfl rfl rfl ⟨rfl, f_X1_phase⟩ hR (Nat.le_of_ble_eq_true rfl) (Nat.le_of_ble_eq_true rfl) (hE.kept hS.2.1) hP [0, 1, 2, 3, 4] rfl 0 rfl rfl rfl hl.1 rfl (Nat.le_of_ble_eq_true rfl) dL_refuses_543 ⟨Nat.le_trans (Nat.le_of_ble_eq_true rfl) hRc.1, Nat.le_trans (Nat.le_of_ble_eq_true rfl) hRc.2⟩ ?_
      refine lv_iload_n hx hb dL_refuses_546 rfl (lv_at hl 7 rfl) ?_
      refine r_icmp_ne (tgt := 562) hx hb dL_refuses_547 (by decide) (by unfold rI; omega) (by unfold rI; omega) (fun h9 => absurd h9 (by omega)) (fun h547 => ?_)
      refine lv_aload_n hx hb dL_refuses_550 rfl (lv_at hl 8 rfl) ?_
      refine q_RO (As := []) (rest := []) S (c_X1_onTurn l D cI cL tw (y0) (y2) (b) (pq) (cq) (tu) (ph) (mo) (gc) (P) (C) (by omega) (by omega) (by omega) (by omega) (by omega)) (tu) (fun z h => h) gL_refuses_X1_onTurn rfl rfl rfl ⟨rfl, f_X1_onTurn⟩ hR (Nat.le_of_ble_eq_true rfl) (Nat.le_of_ble_eq_true rfl) (hE.kept hS.2.1) hP [0, 1, 2, 3, 4] rfl 0 rfl rfl rfl hl.1 rfl (Nat.le_of_ble_eq_true rfl) dL_refuses_551 ⟨Nat.le_trans (Nat.le_of_ble_eq_true rfl) hRc.1, Nat.le_trans (Nat.le_of_ble_eq_true rfl) hRc.2⟩ ?_
      refine lv_iload_n hx hb dL_refuses_554 rfl (lv_at hl 6 rfl) ?_
      refine r_icmp_ne (tgt := 562) hx hb dL_refuses_555 (by decide) (by unfold rI; omega) (by unfold rI; omega) (fun h9 => absurd h9 (by omega)) (fun h555 => ?_)
      refine r_iconst hx hb dL_refuses_558 ?_
      refine lv_goto (tgt := 563) hx hb dL_refuses_559 (by decide) ?_
      exact hret (1) () _ _ _ _ _ _ dL_refuses_563 (rfl) hP hD hS (Nat.le_of_ble_eq_true rfl) (Nat.le_of_ble_eq_true rfl)
    · refine lv_aload_n hx hb dL_refuses_486 rfl (lv_at hl 8 rfl) ?_
      refine r_iconst hx hb dL_refuses_487 ?_
      refine r_iconst hx hb dL_refuses_488 ?_
      refine r_iconst hx hb dL_refuses_489 ?_
      refine r_iconst hx hb dL_refuses_490 ?_
      refine q_LS (As := [.ref y0, .int (iI (0)), .int (iI (3)), .int (iI (0)), .int (iI (0))]) (rest := []) (wr := []) S (c_L_act_0r l hst D cI cL tw (y0) (y2) (b) (pq) (cq) (tu) (ph) (mo) (gc) (P) (C) (3) (0) (0) (by omega) (by omega) (by omega) (by omega) (by omega) (by omega) (by omega) (by omega) (by omega)) (-903) (()) (fun z u h => ⟨by (try dsimp only at h); omega, rfl⟩) gL_refuses_L_act rfl rfl rfl f_L_act hR (Nat.le_of_ble_eq_true rfl) (Nat.le_of_ble_eq_true rfl) (hE.kept hS.2.1) hP hD hS hA [0, 1, 2, 3, 4] [] rfl rfl (by decide) rfl (by decide) (by decide) rfl hl.1 rfl (Nat.le_of_ble_eq_true rfl) dL_refuses_491 ⟨Nat.le_trans (Nat.le_of_ble_eq_true rfl) hRc.1, Nat.le_trans (Nat.le_of_ble_eq_true rfl) hRc.2⟩ (fun H locs hP hD hS => ?_)
      have hP : va_P D vwCl [(y0, .inr (1, [.ref b, .ref y2, .int (iI (tu)), .int (iI (gc)), .int (iI (ph)), .int (iI (mo))])), (y2, .inl (cI, 4, .inl (aI C))), (b, .inr (0, [.ref pq, .ref cq])), (pq, .inl (cI, 16, .inl (aI P))), (cq, .inl (cI, 136, .inl (aI (cnt P))))] H := hP
      have hD : va_D A [(y0, .inr (1, [.ref b, .ref y2, .int (iI (tu)), .int (iI (gc)), .int (iI (ph)), .int (iI (mo))])), (y2, .inl (cI, 4, .inl (aI C))), (b, .inr (0, [.ref pq, .ref cq])), (pq, .inl (cI, 16, .inl (aI P))), (cq, .inl (cI, 136, .inl (aI (cnt P))))] := hD
      refine r_sipush hx hb dL_refuses_494 (by decide) ?_
      refine r_icmp_ne (tgt := 534) hx hb dL_refuses_497 (by decide) (by unfold rI; decide) (by unfold rI; decide) (fun h9 => absurd h9 (by omega)) (fun h497 => ?_)
      refine lv_aload_n hx hb dL_refuses_500 rfl (lv_at hl 8 rfl) ?_
      refine r_bipush hx hb dL_refuses_501 (by decide) ?_
      refine r_iconst hx hb dL_refuses_503 ?_
      refine r_iconst hx hb dL_refuses_504 ?_
      refine r_iconst hx hb dL_refuses_505 ?_
      refine q_LS (As := [.ref y0, .int (iI (10)), .int (iI (0)), .int (iI (0)), .int (iI (0))]) (rest := []) (wr := []) S (c_L_act_10r l hst D cI cL tw (y0) (y2) (b) (pq) (cq) (tu) (ph) (mo) (gc) (P) (C) (0) (0) (0) (by omega) (by omega) (by omega) (by omega) (by omega) (by omega) (by omega) (by omega) (by omega)) (-903) (()) (fun z u h => ⟨by (try dsimp only at h); omega, rfl⟩) gL_refuses_L_act rfl rfl rfl f_L_act hR (Nat.le_of_ble_eq_true rfl) (Nat.le_of_ble_eq_true rfl) (hE.kept hS.2.1) hP hD hS hA [0, 1, 2, 3, 4] [] rfl rfl (by decide) rfl (by decide) (by decide) rfl hl.1 rfl (Nat.le_of_ble_eq_true rfl) dL_refuses_506 ⟨Nat.le_trans (Nat.le_of_ble_eq_true rfl) hRc.1, Nat.le_trans (Nat.le_of_ble_eq_true rfl) hRc.2⟩ (fun H locs hP hD hS => ?_)
      have hP : va_P D vwCl [(y0, .inr (1, [.ref b, .ref y2, .int (iI (tu)), .int (iI (gc)), .int (iI (ph)), .int (iI (mo))])), (y2, .inl (cI, 4, .inl (aI C))), (b, .inr (0, [.ref pq, .ref cq])), (pq, .inl (cI, 16, .inl (aI P))), (cq, .inl (cI, 136, .inl (aI (cnt P))))] H := hP
      have hD : va_D A [(y0, .inr (1, [.ref b, .ref y2, .int (iI (tu)), .int (iI (gc)), .int (iI (ph)), .int (iI (mo))])), (y2, .inl (cI, 4, .inl (aI C))), (b, .inr (0, [.ref pq, .ref cq])), (pq, .inl (cI, 16, .inl (aI P))), (cq, .inl (cI, 136, .inl (aI (cnt P))))] := hD
      refine r_sipush hx hb dL_refuses_509 (by decide) ?_
      refine r_icmp_ne (tgt := 534) hx hb dL_refuses_512 (by decide) (by unfold rI; decide) (by unfold rI; decide) (fun h9 => absurd h9 (by omega)) (fun h512 => ?_)
      refine lv_aload_n hx hb dL_refuses_515 rfl (lv_at hl 8 rfl) ?_
      refine r_bipush hx hb dL_refuses_516 (by decide) ?_
      refine r_iconst hx hb dL_refuses_518 ?_
      refine r_iconst hx hb dL_refuses_519 ?_
      refine r_iconst hx hb dL_refuses_520 ?_
      refine q_LS (As := [.ref y0, .int (iI (12)), .int (iI (3)), .int (iI (0)), .int (iI (0))]) (rest := []) (wr := []) S (c_L_act_12r l hst D cI cL tw (y0) (y2) (b) (pq) (cq) (tu) (ph) (mo) (gc) (P) (C) (3) (0) (0) (by omega) (by omega) (by omega) (by omega) (by omega) (by omega) (by omega) (by omega) (by omega)) (-903) (()) (fun z u h => ⟨by (try dsimp only at h); omega, rfl⟩) gL_refuses_L_act rfl rfl rfl f_L_act hR (Nat.le_of_ble_eq_true rfl) (Nat.le_of_ble_eq_true rfl) (hE.kept hS.2.1) hP hD hS hA [0, 1, 2, 3, 4] [] rfl rfl (by decide) rfl (by decide) (by decide) rfl hl.1 rfl (Nat.le_of_ble_eq_true rfl) dL_refuses_521 ⟨Nat.le_trans (Nat.le_of_ble_eq_true rfl) hRc.1, Nat.le_trans (Nat.le_of_ble_eq_true rfl) hRc.2⟩ (fun H locs hP hD hS => ?_)
      have hP : va_P D vwCl [(y0, .inr (1, [.ref b, .ref y2, .int (iI (tu)), .int (iI (gc)), .int (iI (ph)), .int (iI (mo))])), (y2, .inl (cI, 4, .inl (aI C))), (b, .inr (0, [.ref pq, .ref cq])), (pq, .inl (cI, 16, .inl (aI P))), (cq, .inl (cI, 136, .inl (aI (cnt P))))] H := hP
      have hD : va_D A [(y0, .inr (1, [.ref b, .ref y2, .int (iI (tu)), .int (iI (gc)), .int (iI (ph)), .int (iI (mo))])), (y2, .inl (cI, 4, .inl (aI C))), (b, .inr (0, [.ref pq, .ref cq])), (pq, .inl (cI, 16, .inl (aI P))), (cq, .inl (cI, 136, .inl (aI (cnt P))))] := hD
      refine r_sipush hx hb dL_refuses_524 (by decide) ?_
      refine r_icmp_ne (tgt := 534) hx hb dL_refuses_527 (by decide) (by unfold rI; decide) (by unfold rI; decide) (fun h9 => absurd h9 (by omega)) (fun h527 => ?_)
      refine r_iconst hx hb dL_refuses_530 ?_
      refine lv_goto (tgt := 535) hx hb dL_refuses_531 (by decide) ?_
      refine lv_istore (lv' := [(4, .int (iI (1))), (8, .int (iI (1))), (7, .int (iI (-2147483648))), (6, .int (iI (-2147483648))), (5, .int (iI (-2147483648))), (3, .int (iI (2147483647))), (2, .int (iI (tu))), (1, .int (iI (ph))), (0, .ref y0)]) hx hb dL_refuses_535 hl (by decide) rfl (fun ls hl => ?_)
      refine lv_iload hx hb dL_refuses_537 (lv_at hl 0 rfl) ?_
      refine r_if_eq (tgt := 562) hx hb dL_refuses_539 (by decide) (by unfold rI; decide) (fun h9 => absurd h9 (by omega)) (fun h539 => ?_)
      refine lv_aload_n hx hb dL_refuses_542 rfl (lv_at hl 8 rfl) ?_
      refine q_RO (As := []) (rest := []) S (c_X1_phase l D cI cL tw (y0) (y2) (b) (pq) (cq) (tu) (ph) (mo) (gc) (P) (C) (by omega) (by omega) (by omega) (by omega) (by omega)) (ph) (fun z h => h) gL_refuses_X1_phase rfl rfl rfl ⟨rfl, f_X1_phase⟩ hR (Nat.le_of_ble_eq_true rfl) (Nat.le_of_ble_eq_true rfl) (hE.kept hS.2.1) hP [0, 1, 2, 3, 4] rfl 0 rfl rfl rfl hl.1 rfl (Nat.le_of_ble_eq_true rfl) dL_refuses_543 ⟨Nat.le_trans (Nat.le_of_ble_eq_true rfl) hRc.1, Nat.le_trans (Nat.le_of_ble_eq_true rfl) hRc.2⟩ ?_
      refine lv_iload_n hx hb dL_refuses_546 rfl (lv_at hl 7 rfl) ?_
      refine r_icmp_ne (tgt := 562) hx hb dL_refuses_547 (by decide) (by unfold rI; omega) (by unfold rI; omega) (fun h9 => absurd h9 (by omega)) (fun h547 => ?_)
      refine lv_aload_n hx hb dL_refuses_550 rfl (lv_at hl 8 rfl) ?_
      refine q_RO (As := []) (rest := []) S (c_X1_onTurn l D cI cL tw (y0) (y2) (b) (pq) (cq) (tu) (ph) (mo) (gc) (P) (C) (by omega) (by omega) (by omega) (by omega) (by omega)) (tu) (fun z h => h) gL_refuses_X1_onTurn rfl rfl rfl ⟨rfl, f_X1_onTurn⟩ hR (Nat.le_of_ble_eq_true rfl) (Nat.le_of_ble_eq_true rfl) (hE.kept hS.2.1) hP [0, 1, 2, 3, 4] rfl 0 rfl rfl rfl hl.1 rfl (Nat.le_of_ble_eq_true rfl) dL_refuses_551 ⟨Nat.le_trans (Nat.le_of_ble_eq_true rfl) hRc.1, Nat.le_trans (Nat.le_of_ble_eq_true rfl) hRc.2⟩ ?_
      refine lv_iload_n hx hb dL_refuses_554 rfl (lv_at hl 6 rfl) ?_
      refine r_icmp_ne (tgt := 562) hx hb dL_refuses_555 (by decide) (by unfold rI; omega) (by unfold rI; omega) (fun h9 => absurd h9 (by omega)) (fun h555 => ?_)
      refine r_iconst hx hb dL_refuses_558 ?_
      refine lv_goto (tgt := 563) hx hb dL_refuses_559 (by decide) ?_
      exact hret (1) () _ _ _ _ _ _ dL_refuses_563 (rfl) hP hD hS (Nat.le_of_ble_eq_true rfl) (Nat.le_of_ble_eq_true rfl)
  · refine lv_aload_n hx hb dL_refuses_454 rfl (lv_at hl 8 rfl) ?_
    refine r_iconst hx hb dL_refuses_455 ?_
    refine r_iconst hx hb dL_refuses_456 ?_
    refine r_iconst hx hb dL_refuses_457 ?_
    refine r_iconst hx hb dL_refuses_458 ?_
    refine q_LS (As := [.ref y0, .int (iI (1)), .int (iI (0)), .int (iI (0)), .int (iI (0))]) (rest := []) (wr := []) S (c_L_act_1r l hst D cI cL tw (y0) (y2) (b) (pq) (cq) (tu) (ph) (mo) (gc) (P) (C) (0) (0) (0) (by omega) (by omega) (by omega) (by omega) (by omega) (by omega) (by omega) (by omega) (by omega)) (-903) (()) (fun z u h => ⟨by (try dsimp only at h); omega, rfl⟩) gL_refuses_L_act rfl rfl rfl f_L_act hR (Nat.le_of_ble_eq_true rfl) (Nat.le_of_ble_eq_true rfl) (hE.kept hS.2.1) hP hD hS hA [0, 1, 2, 3, 4] [] rfl rfl (by decide) rfl (by decide) (by decide) rfl hl.1 rfl (Nat.le_of_ble_eq_true rfl) dL_refuses_459 ⟨Nat.le_trans (Nat.le_of_ble_eq_true rfl) hRc.1, Nat.le_trans (Nat.le_of_ble_eq_true rfl) hRc.2⟩ (fun H locs hP hD hS => ?_)
    have hP : va_P D vwCl [(y0, .inr (1, [.ref b, .ref y2, .int (iI (tu)), .int (iI (gc)), .int (iI (ph)), .int (iI (mo))])), (y2, .inl (cI, 4, .inl (aI C))), (b, .inr (0, [.ref pq, .ref cq])), (pq, .inl (cI, 16, .inl (aI P))), (cq, .inl (cI, 136, .inl (aI (cnt P))))] H := hP
    have hD : va_D A [(y0, .inr (1, [.ref b, .ref y2, .int (iI (tu)), .int (iI (gc)), .int (iI (ph)), .int (iI (mo))])), (y2, .inl (cI, 4, .inl (aI C))), (b, .inr (0, [.ref pq, .ref cq])), (pq, .inl (cI, 16, .inl (aI P))), (cq, .inl (cI, 136, .inl (aI (cnt P))))] := hD
    refine r_sipush hx hb dL_refuses_462 (by decide) ?_
    refine r_icmp_ne (tgt := 534) hx hb dL_refuses_465 (by decide) (by unfold rI; decide) (by unfold rI; decide) (fun h9 => absurd h9 (by omega)) (fun h465 => ?_)
    refine lv_aload_n hx hb dL_refuses_468 rfl (lv_at hl 8 rfl) ?_
    refine r_iconst hx hb dL_refuses_469 ?_
    refine r_iconst hx hb dL_refuses_470 ?_
    refine r_iconst hx hb dL_refuses_471 ?_
    refine r_iconst hx hb dL_refuses_472 ?_
    refine q_LS (As := [.ref y0, .int (iI (2)), .int (iI (0)), .int (iI (0)), .int (iI (0))]) (rest := []) (wr := []) S (c_L_act_2r l hst D cI cL tw (y0) (y2) (b) (pq) (cq) (tu) (ph) (mo) (gc) (P) (C) (0) (0) (0) (by omega) (by omega) (by omega) (by omega) (by omega) (by omega) (by omega) (by omega) (by omega)) (-903) (()) (fun z u h => ⟨by (try dsimp only at h); omega, rfl⟩) gL_refuses_L_act rfl rfl rfl f_L_act hR (Nat.le_of_ble_eq_true rfl) (Nat.le_of_ble_eq_true rfl) (hE.kept hS.2.1) hP hD hS hA [0, 1, 2, 3, 4] [] rfl rfl (by decide) rfl (by decide) (by decide) rfl hl.1 rfl (Nat.le_of_ble_eq_true rfl) dL_refuses_473 ⟨Nat.le_trans (Nat.le_of_ble_eq_true rfl) hRc.1, Nat.le_trans (Nat.le_of_ble_eq_true rfl) hRc.2⟩ (fun H locs hP hD hS => ?_)
    have hP : va_P D vwCl [(y0, .inr (1, [.ref b, .ref y2, .int (iI (tu)), .int (iI (gc)), .int (iI (ph)), .int (iI (mo))])), (y2, .inl (cI, 4, .inl (aI C))), (b, .inr (0, [.ref pq, .ref cq])), (pq, .inl (cI, 16, .inl (aI P))), (cq, .inl (cI, 136, .inl (aI (cnt P))))] H := hP
    have hD : va_D A [(y0, .inr (1, [.ref b, .ref y2, .int (iI (tu)), .int (iI (gc)), .int (iI (ph)), .int (iI (mo))])), (y2, .inl (cI, 4, .inl (aI C))), (b, .inr (0, [.ref pq, .ref cq])), (pq, .inl (cI, 16, .inl (aI P))), (cq, .inl (cI, 136, .inl (aI (cnt P))))] := hD
    refine r_sipush hx hb dL_refuses_476 (by decide) ?_
    refine r_icmp_ne (tgt := 534) hx hb dL_refuses_479 (by decide) (by unfold rI; decide) (by unfold rI; decide) (fun h9 => absurd h9 (by omega)) (fun h479 => ?_)
    refine lv_iload_n hx hb dL_refuses_482 rfl (lv_at hl 7 rfl) ?_
    refine r_if_eq (tgt := 530) hx hb dL_refuses_483 (by decide) (by unfold rI; omega) (fun h483 => ?_) (fun h483 => ?_)
    · refine r_iconst hx hb dL_refuses_530 ?_
      refine lv_goto (tgt := 535) hx hb dL_refuses_531 (by decide) ?_
      refine lv_istore (lv' := [(4, .int (iI (1))), (8, .int (iI (1))), (7, .int (iI (-2147483648))), (6, .int (iI (-2147483648))), (5, .int (iI (-2147483648))), (3, .int (iI (2147483647))), (2, .int (iI (tu))), (1, .int (iI (ph))), (0, .ref y0)]) hx hb dL_refuses_535 hl (by decide) rfl (fun ls hl => ?_)
      refine lv_iload hx hb dL_refuses_537 (lv_at hl 0 rfl) ?_
      refine r_if_eq (tgt := 562) hx hb dL_refuses_539 (by decide) (by unfold rI; decide) (fun h9 => absurd h9 (by omega)) (fun h539 => ?_)
      refine lv_aload_n hx hb dL_refuses_542 rfl (lv_at hl 8 rfl) ?_
      refine q_RO (As := []) (rest := []) S (c_X1_phase l D cI cL tw (y0) (y2) (b) (pq) (cq) (tu) (ph) (mo) (gc) (P) (C) (by omega) (by omega) (by omega) (by omega) (by omega)) (ph) (fun z h => h) gL_refuses_X1_phase rfl rfl rfl ⟨rfl, f_X1_phase⟩ hR (Nat.le_of_ble_eq_true rfl) (Nat.le_of_ble_eq_true rfl) (hE.kept hS.2.1) hP [0, 1, 2, 3, 4] rfl 0 rfl rfl rfl hl.1 rfl (Nat.le_of_ble_eq_true rfl) dL_refuses_543 ⟨Nat.le_trans (Nat.le_of_ble_eq_true rfl) hRc.1, Nat.le_trans (Nat.le_of_ble_eq_true rfl) hRc.2⟩ ?_
      refine lv_iload_n hx hb dL_refuses_546 rfl (lv_at hl 7 rfl) ?_
      refine r_icmp_ne (tgt := 562) hx hb dL_refuses_547 (by decide) (by unfold rI; omega) (by unfold rI; omega) (fun h9 => absurd h9 (by omega)) (fun h547 => ?_)
      refine lv_aload_n hx hb dL_refuses_550 rfl (lv_at hl 8 rfl) ?_
      refine q_RO (As := []) (rest := []) S (c_X1_onTurn l D cI cL tw (y0) (y2) (b) (pq) (cq) (tu) (ph) (mo) (gc) (P) (C) (by omega) (by omega) (by omega) (by omega) (by omega)) (tu) (fun z h => h) gL_refuses_X1_onTurn rfl rfl rfl ⟨rfl, f_X1_onTurn⟩ hR (Nat.le_of_ble_eq_true rfl) (Nat.le_of_ble_eq_true rfl) (hE.kept hS.2.1) hP [0, 1, 2, 3, 4] rfl 0 rfl rfl rfl hl.1 rfl (Nat.le_of_ble_eq_true rfl) dL_refuses_551 ⟨Nat.le_trans (Nat.le_of_ble_eq_true rfl) hRc.1, Nat.le_trans (Nat.le_of_ble_eq_true rfl) hRc.2⟩ ?_
      refine lv_iload_n hx hb dL_refuses_554 rfl (lv_at hl 6 rfl) ?_
      refine r_icmp_ne (tgt := 562) hx hb dL_refuses_555 (by decide) (by unfold rI; omega) (by unfold rI; omega) (fun h9 => absurd h9 (by omega)) (fun h555 => ?_)
      refine r_iconst hx hb dL_refuses_558 ?_
      refine lv_goto (tgt := 563) hx hb dL_refuses_559 (by decide) ?_
      exact hret (1) () _ _ _ _ _ _ dL_refuses_563 (rfl) hP hD hS (Nat.le_of_ble_eq_true rfl) (Nat.le_of_ble_eq_true rfl)
    · refine lv_aload_n hx hb dL_refuses_486 rfl (lv_at hl 8 rfl) ?_
      refine r_iconst hx hb dL_refuses_487 ?_
      refine r_iconst hx hb dL_refuses_488 ?_
      refine r_iconst hx hb dL_refuses_489 ?_
      refine r_iconst hx hb dL_refuses_490 ?_
      refine q_LS (As := [.ref y0, .int (iI (0)), .int (iI (3)), .int (iI (0)), .int (iI (0))]) (rest := []) (wr := []) S (c_L_act_0r l hst D cI cL tw (y0) (y2) (b) (pq) (cq) (tu) (ph) (mo) (gc) (P) (C) (3) (0) (0) (by omega) (by omega) (by omega) (by omega) (by omega) (by omega) (by omega) (by omega) (by omega)) (-903) (()) (fun z u h => ⟨by (try dsimp only at h); omega, rfl⟩) gL_refuses_L_act rfl rfl rfl f_L_act hR (Nat.le_of_ble_eq_true rfl) (Nat.le_of_ble_eq_true rfl) (hE.kept hS.2.1) hP hD hS hA [0, 1, 2, 3, 4] [] rfl rfl (by decide) rfl (by decide) (by decide) rfl hl.1 rfl (Nat.le_of_ble_eq_true rfl) dL_refuses_491 ⟨Nat.le_trans (Nat.le_of_ble_eq_true rfl) hRc.1, Nat.le_trans (Nat.le_of_ble_eq_true rfl) hRc.2⟩ (fun H locs hP hD hS => ?_)
      have hP : va_P D vwCl [(y0, .inr (1, [.ref b, .ref y2, .int (iI (tu)), .int (iI (gc)), .int (iI (ph)), .int (iI (mo))])), (y2, .inl (cI, 4, .inl (aI C))), (b, .inr (0, [.ref pq, .ref cq])), (pq, .inl (cI, 16, .inl (aI P))), (cq, .inl (cI, 136, .inl (aI (cnt P))))] H := hP
      have hD : va_D A [(y0, .inr (1, [.ref b, .ref y2, .int (iI (tu)), .int (iI (gc)), .int (iI (ph)), .int (iI (mo))])), (y2, .inl (cI, 4, .inl (aI C))), (b, .inr (0, [.ref pq, .ref cq])), (pq, .inl (cI, 16, .inl (aI P))), (cq, .inl (cI, 136, .inl (aI (cnt P))))] := hD
      refine r_sipush hx hb dL_refuses_494 (by decide) ?_
      refine r_icmp_ne (tgt := 534) hx hb dL_refuses_497 (by decide) (by unfold rI; decide) (by unfold rI; decide) (fun h9 => absurd h9 (by omega)) (fun h497 => ?_)
      refine lv_aload_n hx hb dL_refuses_500 rfl (lv_at hl 8 rfl) ?_
      refine r_bipush hx hb dL_refuses_501 (by decide) ?_
      refine r_iconst hx hb dL_refuses_503 ?_
      refine r_iconst hx hb dL_refuses_504 ?_
      refine r_iconst hx hb dL_refuses_505 ?_
      refine q_LS (As := [.ref y0, .int (iI (10)), .int (iI (0)), .int (iI (0)), .int (iI (0))]) (rest := []) (wr := []) S (c_L_act_10r l hst D cI cL tw (y0) (y2) (b) (pq) (cq) (tu) (ph) (mo) (gc) (P) (C) (0) (0) (0) (by omega) (by omega) (by omega) (by omega) (by omega) (by omega) (by omega) (by omega) (by omega)) (-903) (()) (fun z u h => ⟨by (try dsimp only at h); omega, rfl⟩) gL_refuses_L_act rfl rfl rfl f_L_act hR (Nat.le_of_ble_eq_true rfl) (Nat.le_of_ble_eq_true rfl) (hE.kept hS.2.1) hP hD hS hA [0, 1, 2, 3, 4] [] rfl rfl (by decide) rfl (by decide) (by decide) rfl hl.1 rfl (Nat.le_of_ble_eq_true rfl) dL_refuses_506 ⟨Nat.le_trans (Nat.le_of_ble_eq_true rfl) hRc.1, Nat.le_trans (Nat.le_of_ble_eq_true rfl) hRc.2⟩ (fun H locs hP hD hS => ?_)
      have hP : va_P D vwCl [(y0, .inr (1, [.ref b, .ref y2, .int (iI (tu)), .int (iI (gc)), .int (iI (ph)), .int (iI (mo))])), (y2, .inl (cI, 4, .inl (aI C))), (b, .inr (0, [.ref pq, .ref cq])), (pq, .inl (cI, 16, .inl (aI P))), (cq, .inl (cI, 136, .inl (aI (cnt P))))] H := hP
      have hD : va_D A [(y0, .inr (1, [.ref b, .ref y2, .int (iI (tu)), .int (iI (gc)), .int (iI (ph)), .int (iI (mo))])), (y2, .inl (cI, 4, .inl (aI C))), (b, .inr (0, [.ref pq, .ref cq])), (pq, .inl (cI, 16, .inl (aI P))), (cq, .inl (cI, 136, .inl (aI (cnt P))))] := hD
      refine r_sipush hx hb dL_refuses_509 (by decide) ?_
      refine r_icmp_ne (tgt := 534) hx hb dL_refuses_512 (by decide) (by unfold rI; decide) (by unfold rI; decide) (fun h9 => absurd h9 (by omega)) (fun h512 => ?_)
      refine lv_aload_n hx hb dL_refuses_515 rfl (lv_at hl 8 rfl) ?_
      refine r_bipush hx hb dL_refuses_516 (by decide) ?_
      refine r_iconst hx hb dL_refuses_518 ?_
      refine r_iconst hx hb dL_refuses_519 ?_
      refine r_iconst hx hb dL_refuses_520 ?_
      refine q_LS (As := [.ref y0, .int (iI (12)), .int (iI (3)), .int (iI (0)), .int (iI (0))]) (rest := []) (wr := []) S (c_L_act_12r l hst D cI cL tw (y0) (y2) (b) (pq) (cq) (tu) (ph) (mo) (gc) (P) (C) (3) (0) (0) (by omega) (by omega) (by omega) (by omega) (by omega) (by omega) (by omega) (by omega) (by omega)) (-903) (()) (fun z u h => ⟨by (try dsimp only at h); omega, rfl⟩) gL_refuses_L_act rfl rfl rfl f_L_act hR (Nat.le_of_ble_eq_true rfl) (Nat.le_of_ble_eq_true rfl) (hE.kept hS.2.1) hP hD hS hA [0, 1, 2, 3, 4] [] rfl rfl (by decide) rfl (by decide) (by decide) rfl hl.1 rfl (Nat.le_of_ble_eq_true rfl) dL_refuses_521 ⟨Nat.le_trans (Nat.le_of_ble_eq_true rfl) hRc.1, Nat.le_trans (Nat.le_of_ble_eq_true rfl) hRc.2⟩ (fun H locs hP hD hS => ?_)
      have hP : va_P D vwCl [(y0, .inr (1, [.ref b, .ref y2, .int (iI (tu)), .int (iI (gc)), .int (iI (ph)), .int (iI (mo))])), (y2, .inl (cI, 4, .inl (aI C))), (b, .inr (0, [.ref pq, .ref cq])), (pq, .inl (cI, 16, .inl (aI P))), (cq, .inl (cI, 136, .inl (aI (cnt P))))] H := hP
      have hD : va_D A [(y0, .inr (1, [.ref b, .ref y2, .int (iI (tu)), .int (iI (gc)), .int (iI (ph)), .int (iI (mo))])), (y2, .inl (cI, 4, .inl (aI C))), (b, .inr (0, [.ref pq, .ref cq])), (pq, .inl (cI, 16, .inl (aI P))), (cq, .inl (cI, 136, .inl (aI (cnt P))))] := hD
      refine r_sipush hx hb dL_refuses_524 (by decide) ?_
      refine r_icmp_ne (tgt := 534) hx hb dL_refuses_527 (by decide) (by unfold rI; decide) (by unfold rI; decide) (fun h9 => absurd h9 (by omega)) (fun h527 => ?_)
      refine r_iconst hx hb dL_refuses_530 ?_
      refine lv_goto (tgt := 535) hx hb dL_refuses_531 (by decide) ?_
      refine lv_istore (lv' := [(4, .int (iI (1))), (8, .int (iI (1))), (7, .int (iI (-2147483648))), (6, .int (iI (-2147483648))), (5, .int (iI (-2147483648))), (3, .int (iI (2147483647))), (2, .int (iI (tu))), (1, .int (iI (ph))), (0, .ref y0)]) hx hb dL_refuses_535 hl (by decide) rfl (fun ls hl => ?_)
      refine lv_iload hx hb dL_refuses_537 (lv_at hl 0 rfl) ?_
      refine r_if_eq (tgt := 562) hx hb dL_refuses_539 (by decide) (by unfold rI; decide) (fun h9 => absurd h9 (by omega)) (fun h539 => ?_)
      refine lv_aload_n hx hb dL_refuses_542 rfl (lv_at hl 8 rfl) ?_
      refine q_RO (As := []) (rest := []) S (c_X1_phase l D cI cL tw (y0) (y2) (b) (pq) (cq) (tu) (ph) (mo) (gc) (P) (C) (by omega) (by omega) (by omega) (by omega) (by omega)) (ph) (fun z h => h) gL_refuses_X1_phase rfl rfl rfl ⟨rfl, f_X1_phase⟩ hR (Nat.le_of_ble_eq_true rfl) (Nat.le_of_ble_eq_true rfl) (hE.kept hS.2.1) hP [0, 1, 2, 3, 4] rfl 0 rfl rfl rfl hl.1 rfl (Nat.le_of_ble_eq_true rfl) dL_refuses_543 ⟨Nat.le_trans (Nat.le_of_ble_eq_true rfl) hRc.1, Nat.le_trans (Nat.le_of_ble_eq_true rfl) hRc.2⟩ ?_
      refine lv_iload_n hx hb dL_refuses_546 rfl (lv_at hl 7 rfl) ?_
      refine r_icmp_ne (tgt := 562) hx hb dL_refuses_547 (by decide) (by unfold rI; omega) (by unfold rI; omega) (fun h9 => absurd h9 (by omega)) (fun h547 => ?_)
      refine lv_aload_n hx hb dL_refuses_550 rfl (lv_at hl 8 rfl) ?_
      refine q_RO (As := []) (rest := []) S (c_X1_onTurn l D cI cL tw (y0) (y2) (b) (pq) (cq) (tu) (ph) (mo) (gc) (P) (C) (by omega) (by omega) (by omega) (by omega) (by omega)) (tu) (fun z h => h) gL_refuses_X1_onTurn rfl rfl rfl ⟨rfl, f_X1_onTurn⟩ hR (Nat.le_of_ble_eq_true rfl) (Nat.le_of_ble_eq_true rfl) (hE.kept hS.2.1) hP [0, 1, 2, 3, 4] rfl 0 rfl rfl rfl hl.1 rfl (Nat.le_of_ble_eq_true rfl) dL_refuses_551 ⟨Nat.le_trans (Nat.le_of_ble_eq_true rfl) hRc.1, Nat.le_trans (Nat.le_of_ble_eq_true rfl) hRc.2⟩ ?_
      refine lv_iload_n hx hb dL_refuses_554 rfl (lv_at hl 6 rfl) ?_
      refine r_icmp_ne (tgt := 562) hx hb dL_refuses_555 (by decide) (by unfold rI; omega) (by unfold rI; omega) (fun h9 => absurd h9 (by omega)) (fun h555 => ?_)
      refine r_iconst hx hb dL_refuses_558 ?_
      refine lv_goto (tgt := 563) hx hb dL_refuses_559 (by decide) ?_
      exact hret (1) () _ _ _ _ _ _ dL_refuses_563 (rfl) hP hD hS (Nat.le_of_ble_eq_true rfl) (Nat.le_of_ble_eq_true rfl)
set_option maxHeartbeats 4000000 in
set_option maxRecDepth 100000 in
theorem sg_L_refuses_4 {p : Program} {l : Launch} {e : Env} {R : Room} {s : State} {mt : MethodId} {args : Array Value} {below : List Frame} {meth : Method} {c : Code} {H0 : Heap} {Q : State → Prop} {A : Nat → Prop} {D : va_G} {cI cL : ClassId} {tw : Nat} (S : CallFix p mt c cL_refuses 9 s args wsL_refuses RL) (hst : l.stackTraces = false) (hR : 14 ≤ R.frames ∧ 349 ≤ R.locals) (hRc : 155 ≤ R.cells ∧ 930 ≤ R.slots) (hE : EV D cI cL tw A s H0) (hA : ∀ q : Nat, H0.size ≤ q → A q) (y0 : Nat) (y2 : Nat) (b : Nat) (pq : Nat) (cq : Nat) (tu : Int) (ph : Int) (mo : Int) (gc : Int) (P : Int → Int) (C : Int → Int) (hB : ∀ i, 0 ≤ P i ∧ P i ≤ 72) (htu : 0 ≤ tu ∧ tu ≤ 3) (hgc : 0 ≤ gc ∧ gc ≤ 2) (hph : 0 ≤ ph ∧ ph ≤ 2) (hmo : 0 ≤ mo ∧ mo ≤ 6) (hret : ∀ (z : Int) (u : Unit) (pc : Nat) (ls : Array Slot) (H : Heap) (locs : List Loc) (cells slots : Nat), decode cL_refuses pc = .ok (.ireturn, 1) → (z = 1) → va_P D vwCl [(y0, .inr (1, [.ref b, .ref y2, .int (iI (tu)), .int (iI (gc)), .int (iI (ph)), .int (iI (mo))])), (y2, .inl (cI, 4, .inl (aI C))), (b, .inr (0, [.ref pq, .ref cq])), (pq, .inl (cI, 16, .inl (aI P))), (cq, .inl (cI, 136, .inl (aI (cnt P))))] H → va_D A [(y0, .inr (1, [.ref b, .ref y2, .int (iI (tu)), .int (iI (gc)), .int (iI (ph)), .int (iI (mo))])), (y2, .inl (cI, 4, .inl (aI C))), (b, .inr (0, [.ref pq, .ref cq])), (pq, .inl (cI, 16, .inl (aI P))), (cq, .inl (cI, 136, .inl (aI (cnt P))))] → va_S A H0 H locs → cells ≤ 155 → slots ≤ 930 → W p l e R s mt args below meth c H locs cells slots Q (F0 mt pc ls [.int (iI z)])) {H : Heap} {locs : List Loc} {ls : Array Slot} (hP : va_P D vwCl [(y0, .inr (1, [.ref b, .ref y2, .int (iI (tu)), .int (iI (gc)), .int (iI (ph)), .int (iI (mo))])), (y2, .inl (cI, 4, .inl (aI C))), (b, .inr (0, [.ref pq, .ref cq])), (pq, .inl (cI, 16, .inl (aI P))), (cq, .inl (cI, 136, .inl (aI (cnt P))))] H) (hD : va_D A [(y0, .inr (1, [.ref b, .ref y2, .int (iI (tu)), .int (iI (gc)), .int (iI (ph)), .int (iI (mo))])), (y2, .inl (cI, 4, .inl (aI C))), (b, .inr (0, [.ref pq, .ref cq])), (pq, .inl (cI, 16, .inl (aI P))), (cq, .inl (cI, 136, .inl (aI (cnt P))))]) (hS : va_S A H0 H locs) (hl : lv_has ls 9 [(4, .int (iI (3))), (8, .int (iI (1))), (7, .int (iI (2147483647))), (6, .int (iI (2147483647))), (5, .int (iI (2147483647))), (3, .int (iI (2147483647))), (2, .int (iI (tu))), (1, .int (iI (ph))), (0, .ref y0)]) : W p l e R s mt args below meth c H locs 111 666 Q (F0 mt 16 ls []) := by
  obtain ⟨hx, hb, hml, hown, hts⟩ := id S
  refine lv_iload hx hb dL_refuses_16 (lv_at hl 0 rfl) ?_
  refine r_iconst hx hb dL_refuses_18 ?_
  refine r_icmp_ge (tgt := 449) hx hb dL_refuses_19 (by decide) (by unfold rI; decide) (by unfold rI; decide) (fun h9 => absurd h9 (by omega)) (fun h19 => ?_)
  refine lv_iload hx hb dL_refuses_22 (lv_at hl 0 rfl) ?_
  refine r_if_ne (tgt := 31) hx hb dL_refuses_24 (by decide) (by unfold rI; decide) (fun h24 => ?_) (fun h9 => absurd h9 (by omega))
  refine lv_iload hx hb dL_refuses_31 (lv_at hl 0 rfl) ?_
  refine r_iconst hx hb dL_refuses_33 ?_
  refine r_icmp_ne (tgt := 41) hx hb dL_refuses_34 (by decide) (by unfold rI; decide) (by unfold rI; decide) (fun h34 => ?_) (fun h9 => absurd h9 (by omega))
  refine lv_iload_n hx hb dL_refuses_41 rfl (lv_at hl 5 rfl) ?_
  refine r_ineg hx hb dL_refuses_42 ?_
  refine r_top (-2147483647) (by decide) ?_
  refine r_iconst hx hb dL_refuses_43 ?_
  refine r_isub hx hb dL_refuses_44 ?_
  refine r_top (-2147483648) (by decide) ?_
  refine lv_istore (lv' := [(5, .int (iI (-2147483648))), (4, .int (iI (3))), (8, .int (iI (1))), (7, .int (iI (2147483647))), (6, .int (iI (2147483647))), (3, .int (iI (2147483647))), (2, .int (iI (tu))), (1, .int (iI (ph))), (0, .ref y0)]) hx hb dL_refuses_45 hl (by decide) rfl (fun ls hl => ?_)
  refine lv_iload hx hb dL_refuses_47 (lv_at hl 1 rfl) ?_
  refine r_iconst hx hb dL_refuses_49 ?_
  refine r_icmp_ne (tgt := 57) hx hb dL_refuses_50 (by decide) (by unfold rI; decide) (by unfold rI; decide) (fun h50 => ?_) (fun h9 => absurd h9 (by omega))
  refine lv_iload hx hb dL_refuses_57 (lv_at hl 0 rfl) ?_
  refine lv_istore (lv' := [(6, .int (iI (-2147483648))), (5, .int (iI (-2147483648))), (4, .int (iI (3))), (8, .int (iI (1))), (7, .int (iI (2147483647))), (3, .int (iI (2147483647))), (2, .int (iI (tu))), (1, .int (iI (ph))), (0, .ref y0)]) hx hb dL_refuses_59 hl (by decide) rfl (fun ls hl => ?_)
  refine lv_iload hx hb dL_refuses_61 (lv_at hl 2 rfl) ?_
  refine r_if_ne (tgt := 70) hx hb dL_refuses_63 (by decide) (by unfold rI; decide) (fun h63 => ?_) (fun h9 => absurd h9 (by omega))
  refine lv_iload hx hb dL_refuses_70 (lv_at hl 0 rfl) ?_
  refine lv_istore (lv' := [(7, .int (iI (-2147483648))), (6, .int (iI (-2147483648))), (5, .int (iI (-2147483648))), (4, .int (iI (3))), (8, .int (iI (1))), (3, .int (iI (2147483647))), (2, .int (iI (tu))), (1, .int (iI (ph))), (0, .ref y0)]) hx hb dL_refuses_72 hl (by decide) rfl (fun ls hl => ?_)
  refine lv_aload_n hx hb dL_refuses_74 rfl (lv_at hl 8 rfl) ?_
  refine r_iconst hx hb dL_refuses_75 ?_
  refine lv_iload hx hb dL_refuses_76 (lv_at hl 3 rfl) ?_
  refine r_iconst hx hb dL_refuses_78 ?_
  refine r_icmp_ne (tgt := 87) hx hb dL_refuses_79 (by decide) (by unfold rI; decide) (by unfold rI; decide) (fun h79 => ?_) (fun h9 => absurd h9 (by omega))
  refine lv_iload hx hb dL_refuses_87 (lv_at hl 2 rfl) ?_
  refine r_iconst hx hb dL_refuses_89 ?_
  refine r_iconst hx hb dL_refuses_90 ?_
  refine q_LS (As := [.ref y0, .int (iI (0)), .int (iI (-2147483648)), .int (iI (0)), .int (iI (0))]) (rest := []) (wr := []) S (c_L_act_0r l hst D cI cL tw (y0) (y2) (b) (pq) (cq) (tu) (ph) (mo) (gc) (P) (C) (-2147483648) (0) (0) (by omega) (by omega) (by omega) (by omega) (by omega) (by omega) (by omega) (by omega) (by omega)) (-902) (()) (fun z u h => ⟨by (try dsimp only at h); omega, rfl⟩) gL_refuses_L_act rfl rfl rfl f_L_act hR (Nat.le_of_ble_eq_true rfl) (Nat.le_of_ble_eq_true rfl) (hE.kept hS.2.1) hP hD hS hA [0, 1, 2, 3, 4] [] rfl rfl (by decide) rfl (by decide) (by decide) rfl hl.1 rfl (Nat.le_of_ble_eq_true rfl) dL_refuses_91 ⟨Nat.le_trans (Nat.le_of_ble_eq_true rfl) hRc.1, Nat.le_trans (Nat.le_of_ble_eq_true rfl) hRc.2⟩ (fun H locs hP hD hS => ?_)
  have hP : va_P D vwCl [(y0, .inr (1, [.ref b, .ref y2, .int (iI (tu)), .int (iI (gc)), .int (iI (ph)), .int (iI (mo))])), (y2, .inl (cI, 4, .inl (aI C))), (b, .inr (0, [.ref pq, .ref cq])), (pq, .inl (cI, 16, .inl (aI P))), (cq, .inl (cI, 136, .inl (aI (cnt P))))] H := hP
  have hD : va_D A [(y0, .inr (1, [.ref b, .ref y2, .int (iI (tu)), .int (iI (gc)), .int (iI (ph)), .int (iI (mo))])), (y2, .inl (cI, 4, .inl (aI C))), (b, .inr (0, [.ref pq, .ref cq])), (pq, .inl (cI, 16, .inl (aI P))), (cq, .inl (cI, 136, .inl (aI (cnt P))))] := hD
  refine r_sipush hx hb dL_refuses_94 (by decide) ?_
  refine r_icmp_ne (tgt := 433) hx hb dL_refuses_97 (by decide) (by unfold rI; decide) (by unfold rI; decide) (fun h9 => absurd h9 (by omega)) (fun h97 => ?_)
  refine lv_aload_n hx hb dL_refuses_100 rfl (lv_at hl 8 rfl) ?_
  refine r_iconst hx hb dL_refuses_101 ?_
  refine lv_iload hx hb dL_refuses_102 (lv_at hl 1 rfl) ?_
  refine r_iconst hx hb dL_refuses_104 ?_
  refine r_iconst hx hb dL_refuses_105 ?_
  refine q_LS (As := [.ref y0, .int (iI (1)), .int (iI (-2147483648)), .int (iI (0)), .int (iI (0))]) (rest := []) (wr := []) S (c_L_act_1r l hst D cI cL tw (y0) (y2) (b) (pq) (cq) (tu) (ph) (mo) (gc) (P) (C) (-2147483648) (0) (0) (by omega) (by omega) (by omega) (by omega) (by omega) (by omega) (by omega) (by omega) (by omega)) (-901) (()) (fun z u h => ⟨by (try dsimp only at h); omega, rfl⟩) gL_refuses_L_act rfl rfl rfl f_L_act hR (Nat.le_of_ble_eq_true rfl) (Nat.le_of_ble_eq_true rfl) (hE.kept hS.2.1) hP hD hS hA [0, 1, 2, 3, 4] [] rfl rfl (by decide) rfl (by decide) (by decide) rfl hl.1 rfl (Nat.le_of_ble_eq_true rfl) dL_refuses_106 ⟨Nat.le_trans (Nat.le_of_ble_eq_true rfl) hRc.1, Nat.le_trans (Nat.le_of_ble_eq_true rfl) hRc.2⟩ (fun H locs hP hD hS => ?_)
  have hP : va_P D vwCl [(y0, .inr (1, [.ref b, .ref y2, .int (iI (tu)), .int (iI (gc)), .int (iI (ph)), .int (iI (mo))])), (y2, .inl (cI, 4, .inl (aI C))), (b, .inr (0, [.ref pq, .ref cq])), (pq, .inl (cI, 16, .inl (aI P))), (cq, .inl (cI, 136, .inl (aI (cnt P))))] H := hP
  have hD : va_D A [(y0, .inr (1, [.ref b, .ref y2, .int (iI (tu)), .int (iI (gc)), .int (iI (ph)), .int (iI (mo))])), (y2, .inl (cI, 4, .inl (aI C))), (b, .inr (0, [.ref pq, .ref cq])), (pq, .inl (cI, 16, .inl (aI P))), (cq, .inl (cI, 136, .inl (aI (cnt P))))] := hD
  refine r_sipush hx hb dL_refuses_109 (by decide) ?_
  refine r_icmp_ne (tgt := 433) hx hb dL_refuses_112 (by decide) (by unfold rI; decide) (by unfold rI; decide) (fun h9 => absurd h9 (by omega)) (fun h112 => ?_)
  refine lv_aload_n hx hb dL_refuses_115 rfl (lv_at hl 8 rfl) ?_
  refine r_iconst hx hb dL_refuses_116 ?_
  refine lv_iload hx hb dL_refuses_117 (lv_at hl 1 rfl) ?_
  refine r_iconst hx hb dL_refuses_119 ?_
  refine r_iconst hx hb dL_refuses_120 ?_
  refine q_LS (As := [.ref y0, .int (iI (3)), .int (iI (-2147483648)), .int (iI (0)), .int (iI (0))]) (rest := []) (wr := []) S (c_L_act_3r l hst D cI cL tw (y0) (y2) (b) (pq) (cq) (tu) (ph) (mo) (gc) (P) (C) (-2147483648) (0) (0) (by omega) (by omega) (by omega) (by omega) (by omega) (by omega) (by omega) (by omega) (by omega)) (-901) (()) (fun z u h => ⟨by (try dsimp only at h); omega, rfl⟩) gL_refuses_L_act rfl rfl rfl f_L_act hR (Nat.le_of_ble_eq_true rfl) (Nat.le_of_ble_eq_true rfl) (hE.kept hS.2.1) hP hD hS hA [0, 1, 2, 3, 4] [] rfl rfl (by decide) rfl (by decide) (by decide) rfl hl.1 rfl (Nat.le_of_ble_eq_true rfl) dL_refuses_121 ⟨Nat.le_trans (Nat.le_of_ble_eq_true rfl) hRc.1, Nat.le_trans (Nat.le_of_ble_eq_true rfl) hRc.2⟩ (fun H locs hP hD hS => ?_)
  have hP : va_P D vwCl [(y0, .inr (1, [.ref b, .ref y2, .int (iI (tu)), .int (iI (gc)), .int (iI (ph)), .int (iI (mo))])), (y2, .inl (cI, 4, .inl (aI C))), (b, .inr (0, [.ref pq, .ref cq])), (pq, .inl (cI, 16, .inl (aI P))), (cq, .inl (cI, 136, .inl (aI (cnt P))))] H := hP
  have hD : va_D A [(y0, .inr (1, [.ref b, .ref y2, .int (iI (tu)), .int (iI (gc)), .int (iI (ph)), .int (iI (mo))])), (y2, .inl (cI, 4, .inl (aI C))), (b, .inr (0, [.ref pq, .ref cq])), (pq, .inl (cI, 16, .inl (aI P))), (cq, .inl (cI, 136, .inl (aI (cnt P))))] := hD
  refine r_sipush hx hb dL_refuses_124 (by decide) ?_
  refine r_icmp_ne (tgt := 433) hx hb dL_refuses_127 (by decide) (by unfold rI; decide) (by unfold rI; decide) (fun h9 => absurd h9 (by omega)) (fun h127 => ?_)
  refine lv_aload_n hx hb dL_refuses_130 rfl (lv_at hl 8 rfl) ?_
  refine r_iconst hx hb dL_refuses_131 ?_
  refine r_iconst hx hb dL_refuses_132 ?_
  refine lv_iload hx hb dL_refuses_133 (lv_at hl 1 rfl) ?_
  refine r_iconst hx hb dL_refuses_135 ?_
  refine q_LS (As := [.ref y0, .int (iI (3)), .int (iI (0)), .int (iI (-2147483648)), .int (iI (0))]) (rest := []) (wr := []) S (c_L_act_3r l hst D cI cL tw (y0) (y2) (b) (pq) (cq) (tu) (ph) (mo) (gc) (P) (C) (0) (-2147483648) (0) (by omega) (by omega) (by omega) (by omega) (by omega) (by omega) (by omega) (by omega) (by omega)) (-901) (()) (fun z u h => ⟨by (try dsimp only at h); omega, rfl⟩) gL_refuses_L_act rfl rfl rfl f_L_act hR (Nat.le_of_ble_eq_true rfl) (Nat.le_of_ble_eq_true rfl) (hE.kept hS.2.1) hP hD hS hA [0, 1, 2, 3, 4] [] rfl rfl (by decide) rfl (by decide) (by decide) rfl hl.1 rfl (Nat.le_of_ble_eq_true rfl) dL_refuses_136 ⟨Nat.le_trans (Nat.le_of_ble_eq_true rfl) hRc.1, Nat.le_trans (Nat.le_of_ble_eq_true rfl) hRc.2⟩ (fun H locs hP hD hS => ?_)
  have hP : va_P D vwCl [(y0, .inr (1, [.ref b, .ref y2, .int (iI (tu)), .int (iI (gc)), .int (iI (ph)), .int (iI (mo))])), (y2, .inl (cI, 4, .inl (aI C))), (b, .inr (0, [.ref pq, .ref cq])), (pq, .inl (cI, 16, .inl (aI P))), (cq, .inl (cI, 136, .inl (aI (cnt P))))] H := hP
  have hD : va_D A [(y0, .inr (1, [.ref b, .ref y2, .int (iI (tu)), .int (iI (gc)), .int (iI (ph)), .int (iI (mo))])), (y2, .inl (cI, 4, .inl (aI C))), (b, .inr (0, [.ref pq, .ref cq])), (pq, .inl (cI, 16, .inl (aI P))), (cq, .inl (cI, 136, .inl (aI (cnt P))))] := hD
  refine r_sipush hx hb dL_refuses_139 (by decide) ?_
  refine r_icmp_ne (tgt := 433) hx hb dL_refuses_142 (by decide) (by unfold rI; decide) (by unfold rI; decide) (fun h9 => absurd h9 (by omega)) (fun h142 => ?_)
  refine lv_aload_n hx hb dL_refuses_145 rfl (lv_at hl 8 rfl) ?_
  refine r_iconst hx hb dL_refuses_146 ?_
  refine lv_iload hx hb dL_refuses_147 (lv_at hl 1 rfl) ?_
  refine r_iconst hx hb dL_refuses_149 ?_
  refine r_iconst hx hb dL_refuses_150 ?_
  refine q_LS (As := [.ref y0, .int (iI (4)), .int (iI (-2147483648)), .int (iI (0)), .int (iI (0))]) (rest := []) (wr := []) S (c_L_act_4r l hst D cI cL tw (y0) (y2) (b) (pq) (cq) (tu) (ph) (mo) (gc) (P) (C) (-2147483648) (0) (0) (by omega) (by omega) (by omega) (by omega) (by omega) (by omega) (by omega) (by omega) (by omega)) (-901) (()) (fun z u h => ⟨by (try dsimp only at h); omega, rfl⟩) gL_refuses_L_act rfl rfl rfl f_L_act hR (Nat.le_of_ble_eq_true rfl) (Nat.le_of_ble_eq_true rfl) (hE.kept hS.2.1) hP hD hS hA [0, 1, 2, 3, 4] [] rfl rfl (by decide) rfl (by decide) (by decide) rfl hl.1 rfl (Nat.le_of_ble_eq_true rfl) dL_refuses_151 ⟨Nat.le_trans (Nat.le_of_ble_eq_true rfl) hRc.1, Nat.le_trans (Nat.le_of_ble_eq_true rfl) hRc.2⟩ (fun H locs hP hD hS => ?_)
  have hP : va_P D vwCl [(y0, .inr (1, [.ref b, .ref y2, .int (iI (tu)), .int (iI (gc)), .int (iI (ph)), .int (iI (mo))])), (y2, .inl (cI, 4, .inl (aI C))), (b, .inr (0, [.ref pq, .ref cq])), (pq, .inl (cI, 16, .inl (aI P))), (cq, .inl (cI, 136, .inl (aI (cnt P))))] H := hP
  have hD : va_D A [(y0, .inr (1, [.ref b, .ref y2, .int (iI (tu)), .int (iI (gc)), .int (iI (ph)), .int (iI (mo))])), (y2, .inl (cI, 4, .inl (aI C))), (b, .inr (0, [.ref pq, .ref cq])), (pq, .inl (cI, 16, .inl (aI P))), (cq, .inl (cI, 136, .inl (aI (cnt P))))] := hD
  refine r_sipush hx hb dL_refuses_154 (by decide) ?_
  refine r_icmp_ne (tgt := 433) hx hb dL_refuses_157 (by decide) (by unfold rI; decide) (by unfold rI; decide) (fun h9 => absurd h9 (by omega)) (fun h157 => ?_)
  refine lv_aload_n hx hb dL_refuses_160 rfl (lv_at hl 8 rfl) ?_
  refine r_iconst hx hb dL_refuses_161 ?_
  refine r_iconst hx hb dL_refuses_162 ?_
  refine lv_iload hx hb dL_refuses_163 (lv_at hl 1 rfl) ?_
  refine r_iconst hx hb dL_refuses_165 ?_
  refine q_LS (As := [.ref y0, .int (iI (4)), .int (iI (0)), .int (iI (-2147483648)), .int (iI (0))]) (rest := []) (wr := []) S (c_L_act_4r l hst D cI cL tw (y0) (y2) (b) (pq) (cq) (tu) (ph) (mo) (gc) (P) (C) (0) (-2147483648) (0) (by omega) (by omega) (by omega) (by omega) (by omega) (by omega) (by omega) (by omega) (by omega)) (-901) (()) (fun z u h => ⟨by (try dsimp only at h); omega, rfl⟩) gL_refuses_L_act rfl rfl rfl f_L_act hR (Nat.le_of_ble_eq_true rfl) (Nat.le_of_ble_eq_true rfl) (hE.kept hS.2.1) hP hD hS hA [0, 1, 2, 3, 4] [] rfl rfl (by decide) rfl (by decide) (by decide) rfl hl.1 rfl (Nat.le_of_ble_eq_true rfl) dL_refuses_166 ⟨Nat.le_trans (Nat.le_of_ble_eq_true rfl) hRc.1, Nat.le_trans (Nat.le_of_ble_eq_true rfl) hRc.2⟩ (fun H locs hP hD hS => ?_)
  have hP : va_P D vwCl [(y0, .inr (1, [.ref b, .ref y2, .int (iI (tu)), .int (iI (gc)), .int (iI (ph)), .int (iI (mo))])), (y2, .inl (cI, 4, .inl (aI C))), (b, .inr (0, [.ref pq, .ref cq])), (pq, .inl (cI, 16, .inl (aI P))), (cq, .inl (cI, 136, .inl (aI (cnt P))))] H := hP
  have hD : va_D A [(y0, .inr (1, [.ref b, .ref y2, .int (iI (tu)), .int (iI (gc)), .int (iI (ph)), .int (iI (mo))])), (y2, .inl (cI, 4, .inl (aI C))), (b, .inr (0, [.ref pq, .ref cq])), (pq, .inl (cI, 16, .inl (aI P))), (cq, .inl (cI, 136, .inl (aI (cnt P))))] := hD
  refine r_sipush hx hb dL_refuses_169 (by decide) ?_
  refine r_icmp_ne (tgt := 433) hx hb dL_refuses_172 (by decide) (by unfold rI; decide) (by unfold rI; decide) (fun h9 => absurd h9 (by omega)) (fun h172 => ?_)
  refine lv_aload_n hx hb dL_refuses_175 rfl (lv_at hl 8 rfl) ?_
  refine r_iconst hx hb dL_refuses_176 ?_
  refine lv_iload hx hb dL_refuses_177 (lv_at hl 3 rfl) ?_
  refine r_iconst hx hb dL_refuses_179 ?_
  refine r_icmp_ne (tgt := 188) hx hb dL_refuses_180 (by decide) (by unfold rI; decide) (by unfold rI; decide) (fun h180 => ?_) (fun h9 => absurd h9 (by omega))
  refine lv_iload hx hb dL_refuses_188 (lv_at hl 2 rfl) ?_
  refine r_iconst hx hb dL_refuses_190 ?_
  refine r_iconst hx hb dL_refuses_191 ?_
  refine q_LS (As := [.ref y0, .int (iI (5)), .int (iI (-2147483648)), .int (iI (2)), .int (iI (0))]) (rest := []) (wr := []) S (c_L_act_5r l hst D cI cL tw (y0) (y2) (b) (pq) (cq) (tu) (ph) (mo) (gc) (P) (C) (-2147483648) (2) (0) (by omega) (by omega) (by omega) (by omega) (by omega) (by omega) (by omega) (by omega) (by omega)) (-901) (()) (fun z u h => ⟨by (try dsimp only at h); omega, rfl⟩) gL_refuses_L_act rfl rfl rfl f_L_act hR (Nat.le_of_ble_eq_true rfl) (Nat.le_of_ble_eq_true rfl) (hE.kept hS.2.1) hP hD hS hA [0, 1, 2, 3, 4] [] rfl rfl (by decide) rfl (by decide) (by decide) rfl hl.1 rfl (Nat.le_of_ble_eq_true rfl) dL_refuses_192 ⟨Nat.le_trans (Nat.le_of_ble_eq_true rfl) hRc.1, Nat.le_trans (Nat.le_of_ble_eq_true rfl) hRc.2⟩ (fun H locs hP hD hS => ?_)
  have hP : va_P D vwCl [(y0, .inr (1, [.ref b, .ref y2, .int (iI (tu)), .int (iI (gc)), .int (iI (ph)), .int (iI (mo))])), (y2, .inl (cI, 4, .inl (aI C))), (b, .inr (0, [.ref pq, .ref cq])), (pq, .inl (cI, 16, .inl (aI P))), (cq, .inl (cI, 136, .inl (aI (cnt P))))] H := hP
  have hD : va_D A [(y0, .inr (1, [.ref b, .ref y2, .int (iI (tu)), .int (iI (gc)), .int (iI (ph)), .int (iI (mo))])), (y2, .inl (cI, 4, .inl (aI C))), (b, .inr (0, [.ref pq, .ref cq])), (pq, .inl (cI, 16, .inl (aI P))), (cq, .inl (cI, 136, .inl (aI (cnt P))))] := hD
  refine r_sipush hx hb dL_refuses_195 (by decide) ?_
  refine r_icmp_ne (tgt := 433) hx hb dL_refuses_198 (by decide) (by unfold rI; decide) (by unfold rI; decide) (fun h9 => absurd h9 (by omega)) (fun h198 => ?_)
  refine lv_aload_n hx hb dL_refuses_201 rfl (lv_at hl 8 rfl) ?_
  refine r_iconst hx hb dL_refuses_202 ?_
  refine r_iconst hx hb dL_refuses_203 ?_
  refine lv_iload hx hb dL_refuses_204 (lv_at hl 3 rfl) ?_
  refine r_iconst hx hb dL_refuses_206 ?_
  refine r_icmp_ne (tgt := 214) hx hb dL_refuses_207 (by decide) (by unfold rI; decide) (by unfold rI; decide) (fun h207 => ?_) (fun h9 => absurd h9 (by omega))
  refine lv_iload hx hb dL_refuses_214 (lv_at hl 2 rfl) ?_
  refine r_iconst hx hb dL_refuses_216 ?_
  refine q_LS (As := [.ref y0, .int (iI (5)), .int (iI (0)), .int (iI (-2147483648)), .int (iI (0))]) (rest := []) (wr := []) S (c_L_act_5r l hst D cI cL tw (y0) (y2) (b) (pq) (cq) (tu) (ph) (mo) (gc) (P) (C) (0) (-2147483648) (0) (by omega) (by omega) (by omega) (by omega) (by omega) (by omega) (by omega) (by omega) (by omega)) (-902) (()) (fun z u h => ⟨by (try dsimp only at h); omega, rfl⟩) gL_refuses_L_act rfl rfl rfl f_L_act hR (Nat.le_of_ble_eq_true rfl) (Nat.le_of_ble_eq_true rfl) (hE.kept hS.2.1) hP hD hS hA [0, 1, 2, 3, 4] [] rfl rfl (by decide) rfl (by decide) (by decide) rfl hl.1 rfl (Nat.le_of_ble_eq_true rfl) dL_refuses_217 ⟨Nat.le_trans (Nat.le_of_ble_eq_true rfl) hRc.1, Nat.le_trans (Nat.le_of_ble_eq_true rfl) hRc.2⟩ (fun H locs hP hD hS => ?_)
  have hP : va_P D vwCl [(y0, .inr (1, [.ref b, .ref y2, .int (iI (tu)), .int (iI (gc)), .int (iI (ph)), .int (iI (mo))])), (y2, .inl (cI, 4, .inl (aI C))), (b, .inr (0, [.ref pq, .ref cq])), (pq, .inl (cI, 16, .inl (aI P))), (cq, .inl (cI, 136, .inl (aI (cnt P))))] H := hP
  have hD : va_D A [(y0, .inr (1, [.ref b, .ref y2, .int (iI (tu)), .int (iI (gc)), .int (iI (ph)), .int (iI (mo))])), (y2, .inl (cI, 4, .inl (aI C))), (b, .inr (0, [.ref pq, .ref cq])), (pq, .inl (cI, 16, .inl (aI P))), (cq, .inl (cI, 136, .inl (aI (cnt P))))] := hD
  refine r_sipush hx hb dL_refuses_220 (by decide) ?_
  refine r_icmp_ne (tgt := 433) hx hb dL_refuses_223 (by decide) (by unfold rI; decide) (by unfold rI; decide) (fun h9 => absurd h9 (by omega)) (fun h223 => ?_)
  refine lv_aload_n hx hb dL_refuses_226 rfl (lv_at hl 8 rfl) ?_
  refine r_bipush hx hb dL_refuses_227 (by decide) ?_
  refine lv_iload hx hb dL_refuses_229 (lv_at hl 3 rfl) ?_
  refine r_iconst hx hb dL_refuses_231 ?_
  refine r_icmp_ne (tgt := 240) hx hb dL_refuses_232 (by decide) (by unfold rI; decide) (by unfold rI; decide) (fun h232 => ?_) (fun h9 => absurd h9 (by omega))
  refine lv_iload hx hb dL_refuses_240 (lv_at hl 2 rfl) ?_
  refine r_iconst hx hb dL_refuses_242 ?_
  refine r_iconst hx hb dL_refuses_243 ?_
  refine q_LS (As := [.ref y0, .int (iI (6)), .int (iI (-2147483648)), .int (iI (0)), .int (iI (0))]) (rest := []) (wr := []) S (c_L_act_6r l hst D cI cL tw (y0) (y2) (b) (pq) (cq) (tu) (ph) (mo) (gc) (P) (C) (-2147483648) (0) (0) (by omega) (by omega) (by omega) (by omega) (by omega) (by omega) (by omega) (by omega) (by omega)) (-901) (()) (fun z u h => ⟨by (try dsimp only at h); omega, rfl⟩) gL_refuses_L_act rfl rfl rfl f_L_act hR (Nat.le_of_ble_eq_true rfl) (Nat.le_of_ble_eq_true rfl) (hE.kept hS.2.1) hP hD hS hA [0, 1, 2, 3, 4] [] rfl rfl (by decide) rfl (by decide) (by decide) rfl hl.1 rfl (Nat.le_of_ble_eq_true rfl) dL_refuses_244 ⟨Nat.le_trans (Nat.le_of_ble_eq_true rfl) hRc.1, Nat.le_trans (Nat.le_of_ble_eq_true rfl) hRc.2⟩ (fun H locs hP hD hS => ?_)
  have hP : va_P D vwCl [(y0, .inr (1, [.ref b, .ref y2, .int (iI (tu)), .int (iI (gc)), .int (iI (ph)), .int (iI (mo))])), (y2, .inl (cI, 4, .inl (aI C))), (b, .inr (0, [.ref pq, .ref cq])), (pq, .inl (cI, 16, .inl (aI P))), (cq, .inl (cI, 136, .inl (aI (cnt P))))] H := hP
  have hD : va_D A [(y0, .inr (1, [.ref b, .ref y2, .int (iI (tu)), .int (iI (gc)), .int (iI (ph)), .int (iI (mo))])), (y2, .inl (cI, 4, .inl (aI C))), (b, .inr (0, [.ref pq, .ref cq])), (pq, .inl (cI, 16, .inl (aI P))), (cq, .inl (cI, 136, .inl (aI (cnt P))))] := hD
  refine r_sipush hx hb dL_refuses_247 (by decide) ?_
  refine r_icmp_ne (tgt := 433) hx hb dL_refuses_250 (by decide) (by unfold rI; decide) (by unfold rI; decide) (fun h9 => absurd h9 (by omega)) (fun h250 => ?_)
  refine lv_aload_n hx hb dL_refuses_253 rfl (lv_at hl 8 rfl) ?_
  refine r_bipush hx hb dL_refuses_254 (by decide) ?_
  refine lv_iload hx hb dL_refuses_256 (lv_at hl 1 rfl) ?_
  refine r_iconst hx hb dL_refuses_258 ?_
  refine r_iconst hx hb dL_refuses_259 ?_
  refine q_LS (As := [.ref y0, .int (iI (7)), .int (iI (-2147483648)), .int (iI (0)), .int (iI (0))]) (rest := []) (wr := []) S (c_L_act_7r l hst D cI cL tw (y0) (y2) (b) (pq) (cq) (tu) (ph) (mo) (gc) (P) (C) (-2147483648) (0) (0) (by omega) (by omega) (by omega) (by omega) (by omega) (by omega) (by omega) (by omega) (by omega)) (-901) (()) (fun z u h => ⟨by (try dsimp only at h); omega, rfl⟩) gL_refuses_L_act rfl rfl rfl f_L_act hR (Nat.le_of_ble_eq_true rfl) (Nat.le_of_ble_eq_true rfl) (hE.kept hS.2.1) hP hD hS hA [0, 1, 2, 3, 4] [] rfl rfl (by decide) rfl (by decide) (by decide) rfl hl.1 rfl (Nat.le_of_ble_eq_true rfl) dL_refuses_260 ⟨Nat.le_trans (Nat.le_of_ble_eq_true rfl) hRc.1, Nat.le_trans (Nat.le_of_ble_eq_true rfl) hRc.2⟩ (fun H locs hP hD hS => ?_)
  have hP : va_P D vwCl [(y0, .inr (1, [.ref b, .ref y2, .int (iI (tu)), .int (iI (gc)), .int (iI (ph)), .int (iI (mo))])), (y2, .inl (cI, 4, .inl (aI C))), (b, .inr (0, [.ref pq, .ref cq])), (pq, .inl (cI, 16, .inl (aI P))), (cq, .inl (cI, 136, .inl (aI (cnt P))))] H := hP
  have hD : va_D A [(y0, .inr (1, [.ref b, .ref y2, .int (iI (tu)), .int (iI (gc)), .int (iI (ph)), .int (iI (mo))])), (y2, .inl (cI, 4, .inl (aI C))), (b, .inr (0, [.ref pq, .ref cq])), (pq, .inl (cI, 16, .inl (aI P))), (cq, .inl (cI, 136, .inl (aI (cnt P))))] := hD
  refine r_sipush hx hb dL_refuses_263 (by decide) ?_
  refine r_icmp_ne (tgt := 433) hx hb dL_refuses_266 (by decide) (by unfold rI; decide) (by unfold rI; decide) (fun h9 => absurd h9 (by omega)) (fun h266 => ?_)
  refine lv_aload_n hx hb dL_refuses_269 rfl (lv_at hl 8 rfl) ?_
  refine r_bipush hx hb dL_refuses_270 (by decide) ?_
  refine lv_iload hx hb dL_refuses_272 (lv_at hl 1 rfl) ?_
  refine r_iconst hx hb dL_refuses_274 ?_
  refine r_iconst hx hb dL_refuses_275 ?_
  refine q_LS (As := [.ref y0, .int (iI (8)), .int (iI (-2147483648)), .int (iI (0)), .int (iI (0))]) (rest := []) (wr := []) S (c_L_act_8r l hst D cI cL tw (y0) (y2) (b) (pq) (cq) (tu) (ph) (mo) (gc) (P) (C) (-2147483648) (0) (0) (by omega) (by omega) (by omega) (by omega) (by omega) (by omega) (by omega) (by omega) (by omega)) (-901) (()) (fun z u h => ⟨by (try dsimp only at h); omega, rfl⟩) gL_refuses_L_act rfl rfl rfl f_L_act hR (Nat.le_of_ble_eq_true rfl) (Nat.le_of_ble_eq_true rfl) (hE.kept hS.2.1) hP hD hS hA [0, 1, 2, 3, 4] [] rfl rfl (by decide) rfl (by decide) (by decide) rfl hl.1 rfl (Nat.le_of_ble_eq_true rfl) dL_refuses_276 ⟨Nat.le_trans (Nat.le_of_ble_eq_true rfl) hRc.1, Nat.le_trans (Nat.le_of_ble_eq_true rfl) hRc.2⟩ (fun H locs hP hD hS => ?_)
  have hP : va_P D vwCl [(y0, .inr (1, [.ref b, .ref y2, .int (iI (tu)), .int (iI (gc)), .int (iI (ph)), .int (iI (mo))])), (y2, .inl (cI, 4, .inl (aI C))), (b, .inr (0, [.ref pq, .ref cq])), (pq, .inl (cI, 16, .inl (aI P))), (cq, .inl (cI, 136, .inl (aI (cnt P))))] H := hP
  have hD : va_D A [(y0, .inr (1, [.ref b, .ref y2, .int (iI (tu)), .int (iI (gc)), .int (iI (ph)), .int (iI (mo))])), (y2, .inl (cI, 4, .inl (aI C))), (b, .inr (0, [.ref pq, .ref cq])), (pq, .inl (cI, 16, .inl (aI P))), (cq, .inl (cI, 136, .inl (aI (cnt P))))] := hD
  refine r_sipush hx hb dL_refuses_279 (by decide) ?_
  refine r_icmp_ne (tgt := 433) hx hb dL_refuses_282 (by decide) (by unfold rI; decide) (by unfold rI; decide) (fun h9 => absurd h9 (by omega)) (fun h282 => ?_)
  refine lv_aload_n hx hb dL_refuses_285 rfl (lv_at hl 8 rfl) ?_
  refine r_bipush hx hb dL_refuses_286 (by decide) ?_
  refine lv_iload hx hb dL_refuses_288 (lv_at hl 3 rfl) ?_
  refine r_iconst hx hb dL_refuses_290 ?_
  refine r_icmp_ne (tgt := 298) hx hb dL_refuses_291 (by decide) (by unfold rI; decide) (by unfold rI; decide) (fun h291 => ?_) (fun h9 => absurd h9 (by omega))
  refine lv_iload hx hb dL_refuses_298 (lv_at hl 2 rfl) ?_
  refine r_iconst hx hb dL_refuses_300 ?_
  refine r_iconst hx hb dL_refuses_301 ?_
  refine q_LS (As := [.ref y0, .int (iI (9)), .int (iI (-2147483648)), .int (iI (0)), .int (iI (0))]) (rest := []) (wr := []) S (c_L_act_9r l hst D cI cL tw (y0) (y2) (b) (pq) (cq) (tu) (ph) (mo) (gc) (P) (C) (-2147483648) (0) (0) (by omega) (by omega) (by omega) (by omega) (by omega) (by omega) (by omega) (by omega) (by omega)) (-902) (()) (fun z u h => ⟨by (try dsimp only at h); omega, rfl⟩) gL_refuses_L_act rfl rfl rfl f_L_act hR (Nat.le_of_ble_eq_true rfl) (Nat.le_of_ble_eq_true rfl) (hE.kept hS.2.1) hP hD hS hA [0, 1, 2, 3, 4] [] rfl rfl (by decide) rfl (by decide) (by decide) rfl hl.1 rfl (Nat.le_of_ble_eq_true rfl) dL_refuses_302 ⟨Nat.le_trans (Nat.le_of_ble_eq_true rfl) hRc.1, Nat.le_trans (Nat.le_of_ble_eq_true rfl) hRc.2⟩ (fun H locs hP hD hS => ?_)
  have hP : va_P D vwCl [(y0, .inr (1, [.ref b, .ref y2, .int (iI (tu)), .int (iI (gc)), .int (iI (ph)), .int (iI (mo))])), (y2, .inl (cI, 4, .inl (aI C))), (b, .inr (0, [.ref pq, .ref cq])), (pq, .inl (cI, 16, .inl (aI P))), (cq, .inl (cI, 136, .inl (aI (cnt P))))] H := hP
  have hD : va_D A [(y0, .inr (1, [.ref b, .ref y2, .int (iI (tu)), .int (iI (gc)), .int (iI (ph)), .int (iI (mo))])), (y2, .inl (cI, 4, .inl (aI C))), (b, .inr (0, [.ref pq, .ref cq])), (pq, .inl (cI, 16, .inl (aI P))), (cq, .inl (cI, 136, .inl (aI (cnt P))))] := hD
  refine r_sipush hx hb dL_refuses_305 (by decide) ?_
  refine r_icmp_ne (tgt := 433) hx hb dL_refuses_308 (by decide) (by unfold rI; decide) (by unfold rI; decide) (fun h9 => absurd h9 (by omega)) (fun h308 => ?_)
  refine lv_aload_n hx hb dL_refuses_311 rfl (lv_at hl 8 rfl) ?_
  refine r_bipush hx hb dL_refuses_312 (by decide) ?_
  refine lv_iload hx hb dL_refuses_314 (lv_at hl 1 rfl) ?_
  refine r_iconst hx hb dL_refuses_316 ?_
  refine r_iconst hx hb dL_refuses_317 ?_
  refine q_LS (As := [.ref y0, .int (iI (10)), .int (iI (-2147483648)), .int (iI (0)), .int (iI (0))]) (rest := []) (wr := []) S (c_L_act_10r l hst D cI cL tw (y0) (y2) (b) (pq) (cq) (tu) (ph) (mo) (gc) (P) (C) (-2147483648) (0) (0) (by omega) (by omega) (by omega) (by omega) (by omega) (by omega) (by omega) (by omega) (by omega)) (-902) (()) (fun z u h => ⟨by (try dsimp only at h); omega, rfl⟩) gL_refuses_L_act rfl rfl rfl f_L_act hR (Nat.le_of_ble_eq_true rfl) (Nat.le_of_ble_eq_true rfl) (hE.kept hS.2.1) hP hD hS hA [0, 1, 2, 3, 4] [] rfl rfl (by decide) rfl (by decide) (by decide) rfl hl.1 rfl (Nat.le_of_ble_eq_true rfl) dL_refuses_318 ⟨Nat.le_trans (Nat.le_of_ble_eq_true rfl) hRc.1, Nat.le_trans (Nat.le_of_ble_eq_true rfl) hRc.2⟩ (fun H locs hP hD hS => ?_)
  have hP : va_P D vwCl [(y0, .inr (1, [.ref b, .ref y2, .int (iI (tu)), .int (iI (gc)), .int (iI (ph)), .int (iI (mo))])), (y2, .inl (cI, 4, .inl (aI C))), (b, .inr (0, [.ref pq, .ref cq])), (pq, .inl (cI, 16, .inl (aI P))), (cq, .inl (cI, 136, .inl (aI (cnt P))))] H := hP
  have hD : va_D A [(y0, .inr (1, [.ref b, .ref y2, .int (iI (tu)), .int (iI (gc)), .int (iI (ph)), .int (iI (mo))])), (y2, .inl (cI, 4, .inl (aI C))), (b, .inr (0, [.ref pq, .ref cq])), (pq, .inl (cI, 16, .inl (aI P))), (cq, .inl (cI, 136, .inl (aI (cnt P))))] := hD
  refine r_sipush hx hb dL_refuses_321 (by decide) ?_
  refine r_icmp_ne (tgt := 433) hx hb dL_refuses_324 (by decide) (by unfold rI; decide) (by unfold rI; decide) (fun h9 => absurd h9 (by omega)) (fun h324 => ?_)
  refine lv_aload_n hx hb dL_refuses_327 rfl (lv_at hl 8 rfl) ?_
  refine r_bipush hx hb dL_refuses_328 (by decide) ?_
  refine lv_iload hx hb dL_refuses_330 (lv_at hl 1 rfl) ?_
  refine r_iconst hx hb dL_refuses_332 ?_
  refine r_iconst hx hb dL_refuses_333 ?_
  refine q_LS (As := [.ref y0, .int (iI (11)), .int (iI (-2147483648)), .int (iI (0)), .int (iI (1))]) (rest := []) (wr := []) S (c_L_act_11r l hst D cI cL tw (y0) (y2) (b) (pq) (cq) (tu) (ph) (mo) (gc) (P) (C) (-2147483648) (0) (1) (by omega) (by omega) (by omega) (by omega) (by omega) (by omega) (by omega) (by omega) (by omega)) (-901) (()) (fun z u h => ⟨by (try dsimp only at h); omega, rfl⟩) gL_refuses_L_act rfl rfl rfl f_L_act hR (Nat.le_of_ble_eq_true rfl) (Nat.le_of_ble_eq_true rfl) (hE.kept hS.2.1) hP hD hS hA [0, 1, 2, 3, 4] [] rfl rfl (by decide) rfl (by decide) (by decide) rfl hl.1 rfl (Nat.le_of_ble_eq_true rfl) dL_refuses_334 ⟨Nat.le_trans (Nat.le_of_ble_eq_true rfl) hRc.1, Nat.le_trans (Nat.le_of_ble_eq_true rfl) hRc.2⟩ (fun H locs hP hD hS => ?_)
  have hP : va_P D vwCl [(y0, .inr (1, [.ref b, .ref y2, .int (iI (tu)), .int (iI (gc)), .int (iI (ph)), .int (iI (mo))])), (y2, .inl (cI, 4, .inl (aI C))), (b, .inr (0, [.ref pq, .ref cq])), (pq, .inl (cI, 16, .inl (aI P))), (cq, .inl (cI, 136, .inl (aI (cnt P))))] H := hP
  have hD : va_D A [(y0, .inr (1, [.ref b, .ref y2, .int (iI (tu)), .int (iI (gc)), .int (iI (ph)), .int (iI (mo))])), (y2, .inl (cI, 4, .inl (aI C))), (b, .inr (0, [.ref pq, .ref cq])), (pq, .inl (cI, 16, .inl (aI P))), (cq, .inl (cI, 136, .inl (aI (cnt P))))] := hD
  refine r_sipush hx hb dL_refuses_337 (by decide) ?_
  refine r_icmp_ne (tgt := 433) hx hb dL_refuses_340 (by decide) (by unfold rI; decide) (by unfold rI; decide) (fun h9 => absurd h9 (by omega)) (fun h340 => ?_)
  refine lv_aload_n hx hb dL_refuses_343 rfl (lv_at hl 8 rfl) ?_
  refine r_bipush hx hb dL_refuses_344 (by decide) ?_
  refine r_iconst hx hb dL_refuses_346 ?_
  refine lv_iload hx hb dL_refuses_347 (lv_at hl 1 rfl) ?_
  refine r_iconst hx hb dL_refuses_349 ?_
  refine q_LS (As := [.ref y0, .int (iI (11)), .int (iI (0)), .int (iI (-2147483648)), .int (iI (0))]) (rest := []) (wr := []) S (c_L_act_11r l hst D cI cL tw (y0) (y2) (b) (pq) (cq) (tu) (ph) (mo) (gc) (P) (C) (0) (-2147483648) (0) (by omega) (by omega) (by omega) (by omega) (by omega) (by omega) (by omega) (by omega) (by omega)) (-901) (()) (fun z u h => ⟨by (try dsimp only at h); omega, rfl⟩) gL_refuses_L_act rfl rfl rfl f_L_act hR (Nat.le_of_ble_eq_true rfl) (Nat.le_of_ble_eq_true rfl) (hE.kept hS.2.1) hP hD hS hA [0, 1, 2, 3, 4] [] rfl rfl (by decide) rfl (by decide) (by decide) rfl hl.1 rfl (Nat.le_of_ble_eq_true rfl) dL_refuses_350 ⟨Nat.le_trans (Nat.le_of_ble_eq_true rfl) hRc.1, Nat.le_trans (Nat.le_of_ble_eq_true rfl) hRc.2⟩ (fun H locs hP hD hS => ?_)
  have hP : va_P D vwCl [(y0, .inr (1, [.ref b, .ref y2, .int (iI (tu)), .int (iI (gc)), .int (iI (ph)), .int (iI (mo))])), (y2, .inl (cI, 4, .inl (aI C))), (b, .inr (0, [.ref pq, .ref cq])), (pq, .inl (cI, 16, .inl (aI P))), (cq, .inl (cI, 136, .inl (aI (cnt P))))] H := hP
  have hD : va_D A [(y0, .inr (1, [.ref b, .ref y2, .int (iI (tu)), .int (iI (gc)), .int (iI (ph)), .int (iI (mo))])), (y2, .inl (cI, 4, .inl (aI C))), (b, .inr (0, [.ref pq, .ref cq])), (pq, .inl (cI, 16, .inl (aI P))), (cq, .inl (cI, 136, .inl (aI (cnt P))))] := hD
  refine r_sipush hx hb dL_refuses_353 (by decide) ?_
  refine r_icmp_ne (tgt := 433) hx hb dL_refuses_356 (by decide) (by unfold rI; decide) (by unfold rI; decide) (fun h9 => absurd h9 (by omega)) (fun h356 => ?_)
  refine lv_aload_n hx hb dL_refuses_359 rfl (lv_at hl 8 rfl) ?_
  refine r_bipush hx hb dL_refuses_360 (by decide) ?_
  refine r_iconst hx hb dL_refuses_362 ?_
  refine r_iconst hx hb dL_refuses_363 ?_
  refine lv_iload hx hb dL_refuses_364 (lv_at hl 1 rfl) ?_
  refine q_LS (As := [.ref y0, .int (iI (11)), .int (iI (0)), .int (iI (0)), .int (iI (-2147483648))]) (rest := []) (wr := []) S (c_L_act_11r l hst D cI cL tw (y0) (y2) (b) (pq) (cq) (tu) (ph) (mo) (gc) (P) (C) (0) (0) (-2147483648) (by omega) (by omega) (by omega) (by omega) (by omega) (by omega) (by omega) (by omega) (by omega)) (-902) (()) (fun z u h => ⟨by (try dsimp only at h); omega, rfl⟩) gL_refuses_L_act rfl rfl rfl f_L_act hR (Nat.le_of_ble_eq_true rfl) (Nat.le_of_ble_eq_true rfl) (hE.kept hS.2.1) hP hD hS hA [0, 1, 2, 3, 4] [] rfl rfl (by decide) rfl (by decide) (by decide) rfl hl.1 rfl (Nat.le_of_ble_eq_true rfl) dL_refuses_366 ⟨Nat.le_trans (Nat.le_of_ble_eq_true rfl) hRc.1, Nat.le_trans (Nat.le_of_ble_eq_true rfl) hRc.2⟩ (fun H locs hP hD hS => ?_)
  have hP : va_P D vwCl [(y0, .inr (1, [.ref b, .ref y2, .int (iI (tu)), .int (iI (gc)), .int (iI (ph)), .int (iI (mo))])), (y2, .inl (cI, 4, .inl (aI C))), (b, .inr (0, [.ref pq, .ref cq])), (pq, .inl (cI, 16, .inl (aI P))), (cq, .inl (cI, 136, .inl (aI (cnt P))))] H := hP
  have hD : va_D A [(y0, .inr (1, [.ref b, .ref y2, .int (iI (tu)), .int (iI (gc)), .int (iI (ph)), .int (iI (mo))])), (y2, .inl (cI, 4, .inl (aI C))), (b, .inr (0, [.ref pq, .ref cq])), (pq, .inl (cI, 16, .inl (aI P))), (cq, .inl (cI, 136, .inl (aI (cnt P))))] := hD
  refine r_sipush hx hb dL_refuses_369 (by decide) ?_
  refine r_icmp_ne (tgt := 433) hx hb dL_refuses_372 (by decide) (by unfold rI; decide) (by unfold rI; decide) (fun h9 => absurd h9 (by omega)) (fun h372 => ?_)
  refine lv_aload_n hx hb dL_refuses_375 rfl (lv_at hl 8 rfl) ?_
  refine r_bipush hx hb dL_refuses_376 (by decide) ?_
  refine lv_iload hx hb dL_refuses_378 (lv_at hl 3 rfl) ?_
  refine r_iconst hx hb dL_refuses_380 ?_
  refine lv_iload hx hb dL_refuses_381 (lv_at hl 3 rfl) ?_
  refine r_iconst hx hb dL_refuses_383 ?_
  refine r_iadd hx hb dL_refuses_384 ?_
  refine r_top (5) (by decide) ?_
  refine r_iconst hx hb dL_refuses_385 ?_
  refine r_irem hx hb dL_refuses_386 (by omega) (by omega) ?_
  refine r_top (1) (by decide) ?_
  refine q_LS (As := [.ref y0, .int (iI (11)), .int (iI (3)), .int (iI (0)), .int (iI (1))]) (rest := []) (wr := []) S (c_L_act_11r l hst D cI cL tw (y0) (y2) (b) (pq) (cq) (tu) (ph) (mo) (gc) (P) (C) (3) (0) (1) (by omega) (by omega) (by omega) (by omega) (by omega) (by omega) (by omega) (by omega) (by omega)) (-902) (()) (fun z u h => ⟨by (try dsimp only at h); omega, rfl⟩) gL_refuses_L_act rfl rfl rfl f_L_act hR (Nat.le_of_ble_eq_true rfl) (Nat.le_of_ble_eq_true rfl) (hE.kept hS.2.1) hP hD hS hA [0, 1, 2, 3, 4] [] rfl rfl (by decide) rfl (by decide) (by decide) rfl hl.1 rfl (Nat.le_of_ble_eq_true rfl) dL_refuses_387 ⟨Nat.le_trans (Nat.le_of_ble_eq_true rfl) hRc.1, Nat.le_trans (Nat.le_of_ble_eq_true rfl) hRc.2⟩ (fun H locs hP hD hS => ?_)
  have hP : va_P D vwCl [(y0, .inr (1, [.ref b, .ref y2, .int (iI (tu)), .int (iI (gc)), .int (iI (ph)), .int (iI (mo))])), (y2, .inl (cI, 4, .inl (aI C))), (b, .inr (0, [.ref pq, .ref cq])), (pq, .inl (cI, 16, .inl (aI P))), (cq, .inl (cI, 136, .inl (aI (cnt P))))] H := hP
  have hD : va_D A [(y0, .inr (1, [.ref b, .ref y2, .int (iI (tu)), .int (iI (gc)), .int (iI (ph)), .int (iI (mo))])), (y2, .inl (cI, 4, .inl (aI C))), (b, .inr (0, [.ref pq, .ref cq])), (pq, .inl (cI, 16, .inl (aI P))), (cq, .inl (cI, 136, .inl (aI (cnt P))))] := hD
  refine r_sipush hx hb dL_refuses_390 (by decide) ?_
  refine r_icmp_ne (tgt := 433) hx hb dL_refuses_393 (by decide) (by unfold rI; decide) (by unfold rI; decide) (fun h9 => absurd h9 (by omega)) (fun h393 => ?_)
  refine lv_aload_n hx hb dL_refuses_396 rfl (lv_at hl 8 rfl) ?_
  refine r_bipush hx hb dL_refuses_397 (by decide) ?_
  refine lv_iload hx hb dL_refuses_399 (lv_at hl 3 rfl) ?_
  refine r_iconst hx hb dL_refuses_401 ?_
  refine lv_iload hx hb dL_refuses_402 (lv_at hl 3 rfl) ?_
  refine q_LS (As := [.ref y0, .int (iI (11)), .int (iI (3)), .int (iI (0)), .int (iI (3))]) (rest := []) (wr := []) S (c_L_act_11r l hst D cI cL tw (y0) (y2) (b) (pq) (cq) (tu) (ph) (mo) (gc) (P) (C) (3) (0) (3) (by omega) (by omega) (by omega) (by omega) (by omega) (by omega) (by omega) (by omega) (by omega)) (-902) (()) (fun z u h => ⟨by (try dsimp only at h); omega, rfl⟩) gL_refuses_L_act rfl rfl rfl f_L_act hR (Nat.le_of_ble_eq_true rfl) (Nat.le_of_ble_eq_true rfl) (hE.kept hS.2.1) hP hD hS hA [0, 1, 2, 3, 4] [] rfl rfl (by decide) rfl (by decide) (by decide) rfl hl.1 rfl (Nat.le_of_ble_eq_true rfl) dL_refuses_404 ⟨Nat.le_trans (Nat.le_of_ble_eq_true rfl) hRc.1, Nat.le_trans (Nat.le_of_ble_eq_true rfl) hRc.2⟩ (fun H locs hP hD hS => ?_)
  have hP : va_P D vwCl [(y0, .inr (1, [.ref b, .ref y2, .int (iI (tu)), .int (iI (gc)), .int (iI (ph)), .int (iI (mo))])), (y2, .inl (cI, 4, .inl (aI C))), (b, .inr (0, [.ref pq, .ref cq])), (pq, .inl (cI, 16, .inl (aI P))), (cq, .inl (cI, 136, .inl (aI (cnt P))))] H := hP
  have hD : va_D A [(y0, .inr (1, [.ref b, .ref y2, .int (iI (tu)), .int (iI (gc)), .int (iI (ph)), .int (iI (mo))])), (y2, .inl (cI, 4, .inl (aI C))), (b, .inr (0, [.ref pq, .ref cq])), (pq, .inl (cI, 16, .inl (aI P))), (cq, .inl (cI, 136, .inl (aI (cnt P))))] := hD
  refine r_sipush hx hb dL_refuses_407 (by decide) ?_
  refine r_icmp_ne (tgt := 433) hx hb dL_refuses_410 (by decide) (by unfold rI; decide) (by unfold rI; decide) (fun h9 => absurd h9 (by omega)) (fun h410 => ?_)
  refine lv_aload_n hx hb dL_refuses_413 rfl (lv_at hl 8 rfl) ?_
  refine r_bipush hx hb dL_refuses_414 (by decide) ?_
  refine lv_iload hx hb dL_refuses_416 (lv_at hl 0 rfl) ?_
  refine r_iconst hx hb dL_refuses_418 ?_
  refine r_iconst hx hb dL_refuses_419 ?_
  refine q_LS (As := [.ref y0, .int (iI (12)), .int (iI (-2147483648)), .int (iI (0)), .int (iI (0))]) (rest := []) (wr := []) S (c_L_act_12r l hst D cI cL tw (y0) (y2) (b) (pq) (cq) (tu) (ph) (mo) (gc) (P) (C) (-2147483648) (0) (0) (by omega) (by omega) (by omega) (by omega) (by omega) (by omega) (by omega) (by omega) (by omega)) (-902) (()) (fun z u h => ⟨by (try dsimp only at h); omega, rfl⟩) gL_refuses_L_act rfl rfl rfl f_L_act hR (Nat.le_of_ble_eq_true rfl) (Nat.le_of_ble_eq_true rfl) (hE.kept hS.2.1) hP hD hS hA [0, 1, 2, 3, 4] [] rfl rfl (by decide) rfl (by decide) (by decide) rfl hl.1 rfl (Nat.le_of_ble_eq_true rfl) dL_refuses_420 ⟨Nat.le_trans (Nat.le_of_ble_eq_true rfl) hRc.1, Nat.le_trans (Nat.le_of_ble_eq_true rfl) hRc.2⟩ (fun H locs hP hD hS => ?_)
  have hP : va_P D vwCl [(y0, .inr (1, [.ref b, .ref y2, .int (iI (tu)), .int (iI (gc)), .int (iI (ph)), .int (iI (mo))])), (y2, .inl (cI, 4, .inl (aI C))), (b, .inr (0, [.ref pq, .ref cq])), (pq, .inl (cI, 16, .inl (aI P))), (cq, .inl (cI, 136, .inl (aI (cnt P))))] H := hP
  have hD : va_D A [(y0, .inr (1, [.ref b, .ref y2, .int (iI (tu)), .int (iI (gc)), .int (iI (ph)), .int (iI (mo))])), (y2, .inl (cI, 4, .inl (aI C))), (b, .inr (0, [.ref pq, .ref cq])), (pq, .inl (cI, 16, .inl (aI P))), (cq, .inl (cI, 136, .inl (aI (cnt P))))] := hD
  refine r_sipush hx hb dL_refuses_423 (by decide) ?_
  refine r_icmp_ne (tgt := 433) hx hb dL_refuses_426 (by decide) (by unfold rI; decide) (by unfold rI; decide) (fun h9 => absurd h9 (by omega)) (fun h426 => ?_)
  refine r_iconst hx hb dL_refuses_429 ?_
  refine lv_goto (tgt := 434) hx hb dL_refuses_430 (by decide) ?_
  refine lv_istore (lv' := [(8, .int (iI (1))), (7, .int (iI (-2147483648))), (6, .int (iI (-2147483648))), (5, .int (iI (-2147483648))), (4, .int (iI (3))), (3, .int (iI (2147483647))), (2, .int (iI (tu))), (1, .int (iI (ph))), (0, .ref y0)]) hx hb dL_refuses_434 hl (by decide) rfl (fun ls hl => ?_)
  refine lv_iload hx hb dL_refuses_436 (lv_at hl 0 rfl) ?_
  refine r_if_ne (tgt := 443) hx hb dL_refuses_438 (by decide) (by unfold rI; decide) (fun h438 => ?_) (fun h9 => absurd h9 (by omega))
  refine lv_iinc (v := iI (4)) (lv' := [(4, .int (iI (4))), (8, .int (iI (1))), (7, .int (iI (-2147483648))), (6, .int (iI (-2147483648))), (5, .int (iI (-2147483648))), (3, .int (iI (2147483647))), (2, .int (iI (tu))), (1, .int (iI (ph))), (0, .ref y0)]) hx hb dL_refuses_443 hl (k := 4) rfl (by decide) (by decide) rfl (fun ls hl => ?_)
  refine lv_goto (tgt := 16) hx hb dL_refuses_446 (by decide) ?_
  exact sg_L_refuses_5 S hst hR hRc hE hA (y0) (y2) (b) (pq) (cq) (tu) (ph) (mo) (gc) (P) (C) hB htu hgc hph hmo hret hP hD hS hl
set_option maxHeartbeats 4000000 in
set_option maxRecDepth 100000 in
theorem sg_L_refuses_3 {p : Program} {l : Launch} {e : Env} {R : Room} {s : State} {mt : MethodId} {args : Array Value} {below : List Frame} {meth : Method} {c : Code} {H0 : Heap} {Q : State → Prop} {A : Nat → Prop} {D : va_G} {cI cL : ClassId} {tw : Nat} (S : CallFix p mt c cL_refuses 9 s args wsL_refuses RL) (hst : l.stackTraces = false) (hR : 14 ≤ R.frames ∧ 349 ≤ R.locals) (hRc : 155 ≤ R.cells ∧ 930 ≤ R.slots) (hE : EV D cI cL tw A s H0) (hA : ∀ q : Nat, H0.size ≤ q → A q) (y0 : Nat) (y2 : Nat) (b : Nat) (pq : Nat) (cq : Nat) (tu : Int) (ph : Int) (mo : Int) (gc : Int) (P : Int → Int) (C : Int → Int) (hB : ∀ i, 0 ≤ P i ∧ P i ≤ 72) (htu : 0 ≤ tu ∧ tu ≤ 3) (hgc : 0 ≤ gc ∧ gc ≤ 2) (hph : 0 ≤ ph ∧ ph ≤ 2) (hmo : 0 ≤ mo ∧ mo ≤ 6) (hret : ∀ (z : Int) (u : Unit) (pc : Nat) (ls : Array Slot) (H : Heap) (locs : List Loc) (cells slots : Nat), decode cL_refuses pc = .ok (.ireturn, 1) → (z = 1) → va_P D vwCl [(y0, .inr (1, [.ref b, .ref y2, .int (iI (tu)), .int (iI (gc)), .int (iI (ph)), .int (iI (mo))])), (y2, .inl (cI, 4, .inl (aI C))), (b, .inr (0, [.ref pq, .ref cq])), (pq, .inl (cI, 16, .inl (aI P))), (cq, .inl (cI, 136, .inl (aI (cnt P))))] H → va_D A [(y0, .inr (1, [.ref b, .ref y2, .int (iI (tu)), .int (iI (gc)), .int (iI (ph)), .int (iI (mo))])), (y2, .inl (cI, 4, .inl (aI C))), (b, .inr (0, [.ref pq, .ref cq])), (pq, .inl (cI, 16, .inl (aI P))), (cq, .inl (cI, 136, .inl (aI (cnt P))))] → va_S A H0 H locs → cells ≤ 155 → slots ≤ 930 → W p l e R s mt args below meth c H locs cells slots Q (F0 mt pc ls [.int (iI z)])) {H : Heap} {locs : List Loc} {ls : Array Slot} (hP : va_P D vwCl [(y0, .inr (1, [.ref b, .ref y2, .int (iI (tu)), .int (iI (gc)), .int (iI (ph)), .int (iI (mo))])), (y2, .inl (cI, 4, .inl (aI C))), (b, .inr (0, [.ref pq, .ref cq])), (pq, .inl (cI, 16, .inl (aI P))), (cq, .inl (cI, 136, .inl (aI (cnt P))))] H) (hD : va_D A [(y0, .inr (1, [.ref b, .ref y2, .int (iI (tu)), .int (iI (gc)), .int (iI (ph)), .int (iI (mo))])), (y2, .inl (cI, 4, .inl (aI C))), (b, .inr (0, [.ref pq, .ref cq])), (pq, .inl (cI, 16, .inl (aI P))), (cq, .inl (cI, 136, .inl (aI (cnt P))))]) (hS : va_S A H0 H locs) (hl : lv_has ls 9 [(4, .int (iI (2))), (8, .int (iI (1))), (7, .int (iI (4))), (6, .int (iI (4))), (5, .int (iI (-2147483648))), (3, .int (iI (2147483647))), (2, .int (iI (tu))), (1, .int (iI (ph))), (0, .ref y0)]) : W p l e R s mt args below meth c H locs 74 444 Q (F0 mt 16 ls []) := by
  obtain ⟨hx, hb, hml, hown, hts⟩ := id S
  refine lv_iload hx hb dL_refuses_16 (lv_at hl 0 rfl) ?_
  refine r_iconst hx hb dL_refuses_18 ?_
  refine r_icmp_ge (tgt := 449) hx hb dL_refuses_19 (by decide) (by unfold rI; decide) (by unfold rI; decide) (fun h9 => absurd h9 (by omega)) (fun h19 => ?_)
  refine lv_iload hx hb dL_refuses_22 (lv_at hl 0 rfl) ?_
  refine r_if_ne (tgt := 31) hx hb dL_refuses_24 (by decide) (by unfold rI; decide) (fun h24 => ?_) (fun h9 => absurd h9 (by omega))
  refine lv_iload hx hb dL_refuses_31 (lv_at hl 0 rfl) ?_
  refine r_iconst hx hb dL_refuses_33 ?_
  refine r_icmp_ne (tgt := 41) hx hb dL_refuses_34 (by decide) (by unfold rI; decide) (by unfold rI; decide) (fun h9 => absurd h9 (by omega)) (fun h34 => ?_)
  refine lv_iload_n hx hb dL_refuses_37 rfl (lv_at hl 5 rfl) ?_
  refine lv_goto (tgt := 45) hx hb dL_refuses_38 (by decide) ?_
  refine lv_istore (lv' := [(5, .int (iI (2147483647))), (4, .int (iI (2))), (8, .int (iI (1))), (7, .int (iI (4))), (6, .int (iI (4))), (3, .int (iI (2147483647))), (2, .int (iI (tu))), (1, .int (iI (ph))), (0, .ref y0)]) hx hb dL_refuses_45 hl (by decide) rfl (fun ls hl => ?_)
  refine lv_iload hx hb dL_refuses_47 (lv_at hl 1 rfl) ?_
  refine r_iconst hx hb dL_refuses_49 ?_
  refine r_icmp_ne (tgt := 57) hx hb dL_refuses_50 (by decide) (by unfold rI; decide) (by unfold rI; decide) (fun h50 => ?_) (fun h9 => absurd h9 (by omega))
  refine lv_iload hx hb dL_refuses_57 (lv_at hl 0 rfl) ?_
  refine lv_istore (lv' := [(6, .int (iI (2147483647))), (5, .int (iI (2147483647))), (4, .int (iI (2))), (8, .int (iI (1))), (7, .int (iI (4))), (3, .int (iI (2147483647))), (2, .int (iI (tu))), (1, .int (iI (ph))), (0, .ref y0)]) hx hb dL_refuses_59 hl (by decide) rfl (fun ls hl => ?_)
  refine lv_iload hx hb dL_refuses_61 (lv_at hl 2 rfl) ?_
  refine r_if_ne (tgt := 70) hx hb dL_refuses_63 (by decide) (by unfold rI; decide) (fun h63 => ?_) (fun h9 => absurd h9 (by omega))
  refine lv_iload hx hb dL_refuses_70 (lv_at hl 0 rfl) ?_
  refine lv_istore (lv' := [(7, .int (iI (2147483647))), (6, .int (iI (2147483647))), (5, .int (iI (2147483647))), (4, .int (iI (2))), (8, .int (iI (1))), (3, .int (iI (2147483647))), (2, .int (iI (tu))), (1, .int (iI (ph))), (0, .ref y0)]) hx hb dL_refuses_72 hl (by decide) rfl (fun ls hl => ?_)
  refine lv_aload_n hx hb dL_refuses_74 rfl (lv_at hl 8 rfl) ?_
  refine r_iconst hx hb dL_refuses_75 ?_
  refine lv_iload hx hb dL_refuses_76 (lv_at hl 3 rfl) ?_
  refine r_iconst hx hb dL_refuses_78 ?_
  refine r_icmp_ne (tgt := 87) hx hb dL_refuses_79 (by decide) (by unfold rI; decide) (by unfold rI; decide) (fun h79 => ?_) (fun h9 => absurd h9 (by omega))
  refine lv_iload hx hb dL_refuses_87 (lv_at hl 2 rfl) ?_
  refine r_iconst hx hb dL_refuses_89 ?_
  refine r_iconst hx hb dL_refuses_90 ?_
  refine q_LS (As := [.ref y0, .int (iI (0)), .int (iI (2147483647)), .int (iI (0)), .int (iI (0))]) (rest := []) (wr := []) S (c_L_act_0r l hst D cI cL tw (y0) (y2) (b) (pq) (cq) (tu) (ph) (mo) (gc) (P) (C) (2147483647) (0) (0) (by omega) (by omega) (by omega) (by omega) (by omega) (by omega) (by omega) (by omega) (by omega)) (-902) (()) (fun z u h => ⟨by (try dsimp only at h); omega, rfl⟩) gL_refuses_L_act rfl rfl rfl f_L_act hR (Nat.le_of_ble_eq_true rfl) (Nat.le_of_ble_eq_true rfl) (hE.kept hS.2.1) hP hD hS hA [0, 1, 2, 3, 4] [] rfl rfl (by decide) rfl (by decide) (by decide) rfl hl.1 rfl (Nat.le_of_ble_eq_true rfl) dL_refuses_91 ⟨Nat.le_trans (Nat.le_of_ble_eq_true rfl) hRc.1, Nat.le_trans (Nat.le_of_ble_eq_true rfl) hRc.2⟩ (fun H locs hP hD hS => ?_)
  have hP : va_P D vwCl [(y0, .inr (1, [.ref b, .ref y2, .int (iI (tu)), .int (iI (gc)), .int (iI (ph)), .int (iI (mo))])), (y2, .inl (cI, 4, .inl (aI C))), (b, .inr (0, [.ref pq, .ref cq])), (pq, .inl (cI, 16, .inl (aI P))), (cq, .inl (cI, 136, .inl (aI (cnt P))))] H := hP
  have hD : va_D A [(y0, .inr (1, [.ref b, .ref y2, .int (iI (tu)), .int (iI (gc)), .int (iI (ph)), .int (iI (mo))])), (y2, .inl (cI, 4, .inl (aI C))), (b, .inr (0, [.ref pq, .ref cq])), (pq, .inl (cI, 16, .inl (aI P))), (cq, .inl (cI, 136, .inl (aI (cnt P))))] := hD
  refine r_sipush hx hb dL_refuses_94 (by decide) ?_
  refine r_icmp_ne (tgt := 433) hx hb dL_refuses_97 (by decide) (by unfold rI; decide) (by unfold rI; decide) (fun h9 => absurd h9 (by omega)) (fun h97 => ?_)
  refine lv_aload_n hx hb dL_refuses_100 rfl (lv_at hl 8 rfl) ?_
  refine r_iconst hx hb dL_refuses_101 ?_
  refine lv_iload hx hb dL_refuses_102 (lv_at hl 1 rfl) ?_
  refine r_iconst hx hb dL_refuses_104 ?_
  refine r_iconst hx hb dL_refuses_105 ?_
  refine q_LS (As := [.ref y0, .int (iI (1)), .int (iI (2147483647)), .int (iI (0)), .int (iI (0))]) (rest := []) (wr := []) S (c_L_act_1r l hst D cI cL tw (y0) (y2) (b) (pq) (cq) (tu) (ph) (mo) (gc) (P) (C) (2147483647) (0) (0) (by omega) (by omega) (by omega) (by omega) (by omega) (by omega) (by omega) (by omega) (by omega)) (-901) (()) (fun z u h => ⟨by (try dsimp only at h); omega, rfl⟩) gL_refuses_L_act rfl rfl rfl f_L_act hR (Nat.le_of_ble_eq_true rfl) (Nat.le_of_ble_eq_true rfl) (hE.kept hS.2.1) hP hD hS hA [0, 1, 2, 3, 4] [] rfl rfl (by decide) rfl (by decide) (by decide) rfl hl.1 rfl (Nat.le_of_ble_eq_true rfl) dL_refuses_106 ⟨Nat.le_trans (Nat.le_of_ble_eq_true rfl) hRc.1, Nat.le_trans (Nat.le_of_ble_eq_true rfl) hRc.2⟩ (fun H locs hP hD hS => ?_)
  have hP : va_P D vwCl [(y0, .inr (1, [.ref b, .ref y2, .int (iI (tu)), .int (iI (gc)), .int (iI (ph)), .int (iI (mo))])), (y2, .inl (cI, 4, .inl (aI C))), (b, .inr (0, [.ref pq, .ref cq])), (pq, .inl (cI, 16, .inl (aI P))), (cq, .inl (cI, 136, .inl (aI (cnt P))))] H := hP
  have hD : va_D A [(y0, .inr (1, [.ref b, .ref y2, .int (iI (tu)), .int (iI (gc)), .int (iI (ph)), .int (iI (mo))])), (y2, .inl (cI, 4, .inl (aI C))), (b, .inr (0, [.ref pq, .ref cq])), (pq, .inl (cI, 16, .inl (aI P))), (cq, .inl (cI, 136, .inl (aI (cnt P))))] := hD
  refine r_sipush hx hb dL_refuses_109 (by decide) ?_
  refine r_icmp_ne (tgt := 433) hx hb dL_refuses_112 (by decide) (by unfold rI; decide) (by unfold rI; decide) (fun h9 => absurd h9 (by omega)) (fun h112 => ?_)
  refine lv_aload_n hx hb dL_refuses_115 rfl (lv_at hl 8 rfl) ?_
  refine r_iconst hx hb dL_refuses_116 ?_
  refine lv_iload hx hb dL_refuses_117 (lv_at hl 1 rfl) ?_
  refine r_iconst hx hb dL_refuses_119 ?_
  refine r_iconst hx hb dL_refuses_120 ?_
  refine q_LS (As := [.ref y0, .int (iI (3)), .int (iI (2147483647)), .int (iI (0)), .int (iI (0))]) (rest := []) (wr := []) S (c_L_act_3r l hst D cI cL tw (y0) (y2) (b) (pq) (cq) (tu) (ph) (mo) (gc) (P) (C) (2147483647) (0) (0) (by omega) (by omega) (by omega) (by omega) (by omega) (by omega) (by omega) (by omega) (by omega)) (-901) (()) (fun z u h => ⟨by (try dsimp only at h); omega, rfl⟩) gL_refuses_L_act rfl rfl rfl f_L_act hR (Nat.le_of_ble_eq_true rfl) (Nat.le_of_ble_eq_true rfl) (hE.kept hS.2.1) hP hD hS hA [0, 1, 2, 3, 4] [] rfl rfl (by decide) rfl (by decide) (by decide) rfl hl.1 rfl (Nat.le_of_ble_eq_true rfl) dL_refuses_121 ⟨Nat.le_trans (Nat.le_of_ble_eq_true rfl) hRc.1, Nat.le_trans (Nat.le_of_ble_eq_true rfl) hRc.2⟩ (fun H locs hP hD hS => ?_)
  have hP : va_P D vwCl [(y0, .inr (1, [.ref b, .ref y2, .int (iI (tu)), .int (iI (gc)), .int (iI (ph)), .int (iI (mo))])), (y2, .inl (cI, 4, .inl (aI C))), (b, .inr (0, [.ref pq, .ref cq])), (pq, .inl (cI, 16, .inl (aI P))), (cq, .inl (cI, 136, .inl (aI (cnt P))))] H := hP
  have hD : va_D A [(y0, .inr (1, [.ref b, .ref y2, .int (iI (tu)), .int (iI (gc)), .int (iI (ph)), .int (iI (mo))])), (y2, .inl (cI, 4, .inl (aI C))), (b, .inr (0, [.ref pq, .ref cq])), (pq, .inl (cI, 16, .inl (aI P))), (cq, .inl (cI, 136, .inl (aI (cnt P))))] := hD
  refine r_sipush hx hb dL_refuses_124 (by decide) ?_
  refine r_icmp_ne (tgt := 433) hx hb dL_refuses_127 (by decide) (by unfold rI; decide) (by unfold rI; decide) (fun h9 => absurd h9 (by omega)) (fun h127 => ?_)
  refine lv_aload_n hx hb dL_refuses_130 rfl (lv_at hl 8 rfl) ?_
  refine r_iconst hx hb dL_refuses_131 ?_
  refine r_iconst hx hb dL_refuses_132 ?_
  refine lv_iload hx hb dL_refuses_133 (lv_at hl 1 rfl) ?_
  refine r_iconst hx hb dL_refuses_135 ?_
  refine q_LS (As := [.ref y0, .int (iI (3)), .int (iI (0)), .int (iI (2147483647)), .int (iI (0))]) (rest := []) (wr := []) S (c_L_act_3r l hst D cI cL tw (y0) (y2) (b) (pq) (cq) (tu) (ph) (mo) (gc) (P) (C) (0) (2147483647) (0) (by omega) (by omega) (by omega) (by omega) (by omega) (by omega) (by omega) (by omega) (by omega)) (-901) (()) (fun z u h => ⟨by (try dsimp only at h); omega, rfl⟩) gL_refuses_L_act rfl rfl rfl f_L_act hR (Nat.le_of_ble_eq_true rfl) (Nat.le_of_ble_eq_true rfl) (hE.kept hS.2.1) hP hD hS hA [0, 1, 2, 3, 4] [] rfl rfl (by decide) rfl (by decide) (by decide) rfl hl.1 rfl (Nat.le_of_ble_eq_true rfl) dL_refuses_136 ⟨Nat.le_trans (Nat.le_of_ble_eq_true rfl) hRc.1, Nat.le_trans (Nat.le_of_ble_eq_true rfl) hRc.2⟩ (fun H locs hP hD hS => ?_)
  have hP : va_P D vwCl [(y0, .inr (1, [.ref b, .ref y2, .int (iI (tu)), .int (iI (gc)), .int (iI (ph)), .int (iI (mo))])), (y2, .inl (cI, 4, .inl (aI C))), (b, .inr (0, [.ref pq, .ref cq])), (pq, .inl (cI, 16, .inl (aI P))), (cq, .inl (cI, 136, .inl (aI (cnt P))))] H := hP
  have hD : va_D A [(y0, .inr (1, [.ref b, .ref y2, .int (iI (tu)), .int (iI (gc)), .int (iI (ph)), .int (iI (mo))])), (y2, .inl (cI, 4, .inl (aI C))), (b, .inr (0, [.ref pq, .ref cq])), (pq, .inl (cI, 16, .inl (aI P))), (cq, .inl (cI, 136, .inl (aI (cnt P))))] := hD
  refine r_sipush hx hb dL_refuses_139 (by decide) ?_
  refine r_icmp_ne (tgt := 433) hx hb dL_refuses_142 (by decide) (by unfold rI; decide) (by unfold rI; decide) (fun h9 => absurd h9 (by omega)) (fun h142 => ?_)
  refine lv_aload_n hx hb dL_refuses_145 rfl (lv_at hl 8 rfl) ?_
  refine r_iconst hx hb dL_refuses_146 ?_
  refine lv_iload hx hb dL_refuses_147 (lv_at hl 1 rfl) ?_
  refine r_iconst hx hb dL_refuses_149 ?_
  refine r_iconst hx hb dL_refuses_150 ?_
  refine q_LS (As := [.ref y0, .int (iI (4)), .int (iI (2147483647)), .int (iI (0)), .int (iI (0))]) (rest := []) (wr := []) S (c_L_act_4r l hst D cI cL tw (y0) (y2) (b) (pq) (cq) (tu) (ph) (mo) (gc) (P) (C) (2147483647) (0) (0) (by omega) (by omega) (by omega) (by omega) (by omega) (by omega) (by omega) (by omega) (by omega)) (-901) (()) (fun z u h => ⟨by (try dsimp only at h); omega, rfl⟩) gL_refuses_L_act rfl rfl rfl f_L_act hR (Nat.le_of_ble_eq_true rfl) (Nat.le_of_ble_eq_true rfl) (hE.kept hS.2.1) hP hD hS hA [0, 1, 2, 3, 4] [] rfl rfl (by decide) rfl (by decide) (by decide) rfl hl.1 rfl (Nat.le_of_ble_eq_true rfl) dL_refuses_151 ⟨Nat.le_trans (Nat.le_of_ble_eq_true rfl) hRc.1, Nat.le_trans (Nat.le_of_ble_eq_true rfl) hRc.2⟩ (fun H locs hP hD hS => ?_)
  have hP : va_P D vwCl [(y0, .inr (1, [.ref b, .ref y2, .int (iI (tu)), .int (iI (gc)), .int (iI (ph)), .int (iI (mo))])), (y2, .inl (cI, 4, .inl (aI C))), (b, .inr (0, [.ref pq, .ref cq])), (pq, .inl (cI, 16, .inl (aI P))), (cq, .inl (cI, 136, .inl (aI (cnt P))))] H := hP
  have hD : va_D A [(y0, .inr (1, [.ref b, .ref y2, .int (iI (tu)), .int (iI (gc)), .int (iI (ph)), .int (iI (mo))])), (y2, .inl (cI, 4, .inl (aI C))), (b, .inr (0, [.ref pq, .ref cq])), (pq, .inl (cI, 16, .inl (aI P))), (cq, .inl (cI, 136, .inl (aI (cnt P))))] := hD
  refine r_sipush hx hb dL_refuses_154 (by decide) ?_
  refine r_icmp_ne (tgt := 433) hx hb dL_refuses_157 (by decide) (by unfold rI; decide) (by unfold rI; decide) (fun h9 => absurd h9 (by omega)) (fun h157 => ?_)
  refine lv_aload_n hx hb dL_refuses_160 rfl (lv_at hl 8 rfl) ?_
  refine r_iconst hx hb dL_refuses_161 ?_
  refine r_iconst hx hb dL_refuses_162 ?_
  refine lv_iload hx hb dL_refuses_163 (lv_at hl 1 rfl) ?_
  refine r_iconst hx hb dL_refuses_165 ?_
  refine q_LS (As := [.ref y0, .int (iI (4)), .int (iI (0)), .int (iI (2147483647)), .int (iI (0))]) (rest := []) (wr := []) S (c_L_act_4r l hst D cI cL tw (y0) (y2) (b) (pq) (cq) (tu) (ph) (mo) (gc) (P) (C) (0) (2147483647) (0) (by omega) (by omega) (by omega) (by omega) (by omega) (by omega) (by omega) (by omega) (by omega)) (-901) (()) (fun z u h => ⟨by (try dsimp only at h); omega, rfl⟩) gL_refuses_L_act rfl rfl rfl f_L_act hR (Nat.le_of_ble_eq_true rfl) (Nat.le_of_ble_eq_true rfl) (hE.kept hS.2.1) hP hD hS hA [0, 1, 2, 3, 4] [] rfl rfl (by decide) rfl (by decide) (by decide) rfl hl.1 rfl (Nat.le_of_ble_eq_true rfl) dL_refuses_166 ⟨Nat.le_trans (Nat.le_of_ble_eq_true rfl) hRc.1, Nat.le_trans (Nat.le_of_ble_eq_true rfl) hRc.2⟩ (fun H locs hP hD hS => ?_)
  have hP : va_P D vwCl [(y0, .inr (1, [.ref b, .ref y2, .int (iI (tu)), .int (iI (gc)), .int (iI (ph)), .int (iI (mo))])), (y2, .inl (cI, 4, .inl (aI C))), (b, .inr (0, [.ref pq, .ref cq])), (pq, .inl (cI, 16, .inl (aI P))), (cq, .inl (cI, 136, .inl (aI (cnt P))))] H := hP
  have hD : va_D A [(y0, .inr (1, [.ref b, .ref y2, .int (iI (tu)), .int (iI (gc)), .int (iI (ph)), .int (iI (mo))])), (y2, .inl (cI, 4, .inl (aI C))), (b, .inr (0, [.ref pq, .ref cq])), (pq, .inl (cI, 16, .inl (aI P))), (cq, .inl (cI, 136, .inl (aI (cnt P))))] := hD
  refine r_sipush hx hb dL_refuses_169 (by decide) ?_
  refine r_icmp_ne (tgt := 433) hx hb dL_refuses_172 (by decide) (by unfold rI; decide) (by unfold rI; decide) (fun h9 => absurd h9 (by omega)) (fun h172 => ?_)
  refine lv_aload_n hx hb dL_refuses_175 rfl (lv_at hl 8 rfl) ?_
  refine r_iconst hx hb dL_refuses_176 ?_
  refine lv_iload hx hb dL_refuses_177 (lv_at hl 3 rfl) ?_
  refine r_iconst hx hb dL_refuses_179 ?_
  refine r_icmp_ne (tgt := 188) hx hb dL_refuses_180 (by decide) (by unfold rI; decide) (by unfold rI; decide) (fun h180 => ?_) (fun h9 => absurd h9 (by omega))
  refine lv_iload hx hb dL_refuses_188 (lv_at hl 2 rfl) ?_
  refine r_iconst hx hb dL_refuses_190 ?_
  refine r_iconst hx hb dL_refuses_191 ?_
  refine q_LS (As := [.ref y0, .int (iI (5)), .int (iI (2147483647)), .int (iI (2)), .int (iI (0))]) (rest := []) (wr := []) S (c_L_act_5r l hst D cI cL tw (y0) (y2) (b) (pq) (cq) (tu) (ph) (mo) (gc) (P) (C) (2147483647) (2) (0) (by omega) (by omega) (by omega) (by omega) (by omega) (by omega) (by omega) (by omega) (by omega)) (-901) (()) (fun z u h => ⟨by (try dsimp only at h); omega, rfl⟩) gL_refuses_L_act rfl rfl rfl f_L_act hR (Nat.le_of_ble_eq_true rfl) (Nat.le_of_ble_eq_true rfl) (hE.kept hS.2.1) hP hD hS hA [0, 1, 2, 3, 4] [] rfl rfl (by decide) rfl (by decide) (by decide) rfl hl.1 rfl (Nat.le_of_ble_eq_true rfl) dL_refuses_192 ⟨Nat.le_trans (Nat.le_of_ble_eq_true rfl) hRc.1, Nat.le_trans (Nat.le_of_ble_eq_true rfl) hRc.2⟩ (fun H locs hP hD hS => ?_)
  have hP : va_P D vwCl [(y0, .inr (1, [.ref b, .ref y2, .int (iI (tu)), .int (iI (gc)), .int (iI (ph)), .int (iI (mo))])), (y2, .inl (cI, 4, .inl (aI C))), (b, .inr (0, [.ref pq, .ref cq])), (pq, .inl (cI, 16, .inl (aI P))), (cq, .inl (cI, 136, .inl (aI (cnt P))))] H := hP
  have hD : va_D A [(y0, .inr (1, [.ref b, .ref y2, .int (iI (tu)), .int (iI (gc)), .int (iI (ph)), .int (iI (mo))])), (y2, .inl (cI, 4, .inl (aI C))), (b, .inr (0, [.ref pq, .ref cq])), (pq, .inl (cI, 16, .inl (aI P))), (cq, .inl (cI, 136, .inl (aI (cnt P))))] := hD
  refine r_sipush hx hb dL_refuses_195 (by decide) ?_
  refine r_icmp_ne (tgt := 433) hx hb dL_refuses_198 (by decide) (by unfold rI; decide) (by unfold rI; decide) (fun h9 => absurd h9 (by omega)) (fun h198 => ?_)
  refine lv_aload_n hx hb dL_refuses_201 rfl (lv_at hl 8 rfl) ?_
  refine r_iconst hx hb dL_refuses_202 ?_
  refine r_iconst hx hb dL_refuses_203 ?_
  refine lv_iload hx hb dL_refuses_204 (lv_at hl 3 rfl) ?_
  refine r_iconst hx hb dL_refuses_206 ?_
  refine r_icmp_ne (tgt := 214) hx hb dL_refuses_207 (by decide) (by unfold rI; decide) (by unfold rI; decide) (fun h207 => ?_) (fun h9 => absurd h9 (by omega))
  refine lv_iload hx hb dL_refuses_214 (lv_at hl 2 rfl) ?_
  refine r_iconst hx hb dL_refuses_216 ?_
  refine q_LS (As := [.ref y0, .int (iI (5)), .int (iI (0)), .int (iI (2147483647)), .int (iI (0))]) (rest := []) (wr := []) S (c_L_act_5r l hst D cI cL tw (y0) (y2) (b) (pq) (cq) (tu) (ph) (mo) (gc) (P) (C) (0) (2147483647) (0) (by omega) (by omega) (by omega) (by omega) (by omega) (by omega) (by omega) (by omega) (by omega)) (-902) (()) (fun z u h => ⟨by (try dsimp only at h); omega, rfl⟩) gL_refuses_L_act rfl rfl rfl f_L_act hR (Nat.le_of_ble_eq_true rfl) (Nat.le_of_ble_eq_true rfl) (hE.kept hS.2.1) hP hD hS hA [0, 1, 2, 3, 4] [] rfl rfl (by decide) rfl (by decide) (by decide) rfl hl.1 rfl (Nat.le_of_ble_eq_true rfl) dL_refuses_217 ⟨Nat.le_trans (Nat.le_of_ble_eq_true rfl) hRc.1, Nat.le_trans (Nat.le_of_ble_eq_true rfl) hRc.2⟩ (fun H locs hP hD hS => ?_)
  have hP : va_P D vwCl [(y0, .inr (1, [.ref b, .ref y2, .int (iI (tu)), .int (iI (gc)), .int (iI (ph)), .int (iI (mo))])), (y2, .inl (cI, 4, .inl (aI C))), (b, .inr (0, [.ref pq, .ref cq])), (pq, .inl (cI, 16, .inl (aI P))), (cq, .inl (cI, 136, .inl (aI (cnt P))))] H := hP
  have hD : va_D A [(y0, .inr (1, [.ref b, .ref y2, .int (iI (tu)), .int (iI (gc)), .int (iI (ph)), .int (iI (mo))])), (y2, .inl (cI, 4, .inl (aI C))), (b, .inr (0, [.ref pq, .ref cq])), (pq, .inl (cI, 16, .inl (aI P))), (cq, .inl (cI, 136, .inl (aI (cnt P))))] := hD
  refine r_sipush hx hb dL_refuses_220 (by decide) ?_
  refine r_icmp_ne (tgt := 433) hx hb dL_refuses_223 (by decide) (by unfold rI; decide) (by unfold rI; decide) (fun h9 => absurd h9 (by omega)) (fun h223 => ?_)
  refine lv_aload_n hx hb dL_refuses_226 rfl (lv_at hl 8 rfl) ?_
  refine r_bipush hx hb dL_refuses_227 (by decide) ?_
  refine lv_iload hx hb dL_refuses_229 (lv_at hl 3 rfl) ?_
  refine r_iconst hx hb dL_refuses_231 ?_
  refine r_icmp_ne (tgt := 240) hx hb dL_refuses_232 (by decide) (by unfold rI; decide) (by unfold rI; decide) (fun h232 => ?_) (fun h9 => absurd h9 (by omega))
  refine lv_iload hx hb dL_refuses_240 (lv_at hl 2 rfl) ?_
  refine r_iconst hx hb dL_refuses_242 ?_
  refine r_iconst hx hb dL_refuses_243 ?_
  refine q_LS (As := [.ref y0, .int (iI (6)), .int (iI (2147483647)), .int (iI (0)), .int (iI (0))]) (rest := []) (wr := []) S (c_L_act_6r l hst D cI cL tw (y0) (y2) (b) (pq) (cq) (tu) (ph) (mo) (gc) (P) (C) (2147483647) (0) (0) (by omega) (by omega) (by omega) (by omega) (by omega) (by omega) (by omega) (by omega) (by omega)) (-901) (()) (fun z u h => ⟨by (try dsimp only at h); omega, rfl⟩) gL_refuses_L_act rfl rfl rfl f_L_act hR (Nat.le_of_ble_eq_true rfl) (Nat.le_of_ble_eq_true rfl) (hE.kept hS.2.1) hP hD hS hA [0, 1, 2, 3, 4] [] rfl rfl (by decide) rfl (by decide) (by decide) rfl hl.1 rfl (Nat.le_of_ble_eq_true rfl) dL_refuses_244 ⟨Nat.le_trans (Nat.le_of_ble_eq_true rfl) hRc.1, Nat.le_trans (Nat.le_of_ble_eq_true rfl) hRc.2⟩ (fun H locs hP hD hS => ?_)
  have hP : va_P D vwCl [(y0, .inr (1, [.ref b, .ref y2, .int (iI (tu)), .int (iI (gc)), .int (iI (ph)), .int (iI (mo))])), (y2, .inl (cI, 4, .inl (aI C))), (b, .inr (0, [.ref pq, .ref cq])), (pq, .inl (cI, 16, .inl (aI P))), (cq, .inl (cI, 136, .inl (aI (cnt P))))] H := hP
  have hD : va_D A [(y0, .inr (1, [.ref b, .ref y2, .int (iI (tu)), .int (iI (gc)), .int (iI (ph)), .int (iI (mo))])), (y2, .inl (cI, 4, .inl (aI C))), (b, .inr (0, [.ref pq, .ref cq])), (pq, .inl (cI, 16, .inl (aI P))), (cq, .inl (cI, 136, .inl (aI (cnt P))))] := hD
  refine r_sipush hx hb dL_refuses_247 (by decide) ?_
  refine r_icmp_ne (tgt := 433) hx hb dL_refuses_250 (by decide) (by unfold rI; decide) (by unfold rI; decide) (fun h9 => absurd h9 (by omega)) (fun h250 => ?_)
  refine lv_aload_n hx hb dL_refuses_253 rfl (lv_at hl 8 rfl) ?_
  refine r_bipush hx hb dL_refuses_254 (by decide) ?_
  refine lv_iload hx hb dL_refuses_256 (lv_at hl 1 rfl) ?_
  refine r_iconst hx hb dL_refuses_258 ?_
  refine r_iconst hx hb dL_refuses_259 ?_
  refine q_LS (As := [.ref y0, .int (iI (7)), .int (iI (2147483647)), .int (iI (0)), .int (iI (0))]) (rest := []) (wr := []) S (c_L_act_7r l hst D cI cL tw (y0) (y2) (b) (pq) (cq) (tu) (ph) (mo) (gc) (P) (C) (2147483647) (0) (0) (by omega) (by omega) (by omega) (by omega) (by omega) (by omega) (by omega) (by omega) (by omega)) (-901) (()) (fun z u h => ⟨by (try dsimp only at h); omega, rfl⟩) gL_refuses_L_act rfl rfl rfl f_L_act hR (Nat.le_of_ble_eq_true rfl) (Nat.le_of_ble_eq_true rfl) (hE.kept hS.2.1) hP hD hS hA [0, 1, 2, 3, 4] [] rfl rfl (by decide) rfl (by decide) (by decide) rfl hl.1 rfl (Nat.le_of_ble_eq_true rfl) dL_refuses_260 ⟨Nat.le_trans (Nat.le_of_ble_eq_true rfl) hRc.1, Nat.le_trans (Nat.le_of_ble_eq_true rfl) hRc.2⟩ (fun H locs hP hD hS => ?_)
  have hP : va_P D vwCl [(y0, .inr (1, [.ref b, .ref y2, .int (iI (tu)), .int (iI (gc)), .int (iI (ph)), .int (iI (mo))])), (y2, .inl (cI, 4, .inl (aI C))), (b, .inr (0, [.ref pq, .ref cq])), (pq, .inl (cI, 16, .inl (aI P))), (cq, .inl (cI, 136, .inl (aI (cnt P))))] H := hP
  have hD : va_D A [(y0, .inr (1, [.ref b, .ref y2, .int (iI (tu)), .int (iI (gc)), .int (iI (ph)), .int (iI (mo))])), (y2, .inl (cI, 4, .inl (aI C))), (b, .inr (0, [.ref pq, .ref cq])), (pq, .inl (cI, 16, .inl (aI P))), (cq, .inl (cI, 136, .inl (aI (cnt P))))] := hD
  refine r_sipush hx hb dL_refuses_263 (by decide) ?_
  refine r_icmp_ne (tgt := 433) hx hb dL_refuses_266 (by decide) (by unfold rI; decide) (by unfold rI; decide) (fun h9 => absurd h9 (by omega)) (fun h266 => ?_)
  refine lv_aload_n hx hb dL_refuses_269 rfl (lv_at hl 8 rfl) ?_
  refine r_bipush hx hb dL_refuses_270 (by decide) ?_
  refine lv_iload hx hb dL_refuses_272 (lv_at hl 1 rfl) ?_
  refine r_iconst hx hb dL_refuses_274 ?_
  refine r_iconst hx hb dL_refuses_275 ?_
  refine q_LS (As := [.ref y0, .int (iI (8)), .int (iI (2147483647)), .int (iI (0)), .int (iI (0))]) (rest := []) (wr := []) S (c_L_act_8r l hst D cI cL tw (y0) (y2) (b) (pq) (cq) (tu) (ph) (mo) (gc) (P) (C) (2147483647) (0) (0) (by omega) (by omega) (by omega) (by omega) (by omega) (by omega) (by omega) (by omega) (by omega)) (-901) (()) (fun z u h => ⟨by (try dsimp only at h); omega, rfl⟩) gL_refuses_L_act rfl rfl rfl f_L_act hR (Nat.le_of_ble_eq_true rfl) (Nat.le_of_ble_eq_true rfl) (hE.kept hS.2.1) hP hD hS hA [0, 1, 2, 3, 4] [] rfl rfl (by decide) rfl (by decide) (by decide) rfl hl.1 rfl (Nat.le_of_ble_eq_true rfl) dL_refuses_276 ⟨Nat.le_trans (Nat.le_of_ble_eq_true rfl) hRc.1, Nat.le_trans (Nat.le_of_ble_eq_true rfl) hRc.2⟩ (fun H locs hP hD hS => ?_)
  have hP : va_P D vwCl [(y0, .inr (1, [.ref b, .ref y2, .int (iI (tu)), .int (iI (gc)), .int (iI (ph)), .int (iI (mo))])), (y2, .inl (cI, 4, .inl (aI C))), (b, .inr (0, [.ref pq, .ref cq])), (pq, .inl (cI, 16, .inl (aI P))), (cq, .inl (cI, 136, .inl (aI (cnt P))))] H := hP
  have hD : va_D A [(y0, .inr (1, [.ref b, .ref y2, .int (iI (tu)), .int (iI (gc)), .int (iI (ph)), .int (iI (mo))])), (y2, .inl (cI, 4, .inl (aI C))), (b, .inr (0, [.ref pq, .ref cq])), (pq, .inl (cI, 16, .inl (aI P))), (cq, .inl (cI, 136, .inl (aI (cnt P))))] := hD
  refine r_sipush hx hb dL_refuses_279 (by decide) ?_
  refine r_icmp_ne (tgt := 433) hx hb dL_refuses_282 (by decide) (by unfold rI; decide) (by unfold rI; decide) (fun h9 => absurd h9 (by omega)) (fun h282 => ?_)
  refine lv_aload_n hx hb dL_refuses_285 rfl (lv_at hl 8 rfl) ?_
  refine r_bipush hx hb dL_refuses_286 (by decide) ?_
  refine lv_iload hx hb dL_refuses_288 (lv_at hl 3 rfl) ?_
  refine r_iconst hx hb dL_refuses_290 ?_
  refine r_icmp_ne (tgt := 298) hx hb dL_refuses_291 (by decide) (by unfold rI; decide) (by unfold rI; decide) (fun h291 => ?_) (fun h9 => absurd h9 (by omega))
  refine lv_iload hx hb dL_refuses_298 (lv_at hl 2 rfl) ?_
  refine r_iconst hx hb dL_refuses_300 ?_
  refine r_iconst hx hb dL_refuses_301 ?_
  refine q_LS (As := [.ref y0, .int (iI (9)), .int (iI (2147483647)), .int (iI (0)), .int (iI (0))]) (rest := []) (wr := []) S (c_L_act_9r l hst D cI cL tw (y0) (y2) (b) (pq) (cq) (tu) (ph) (mo) (gc) (P) (C) (2147483647) (0) (0) (by omega) (by omega) (by omega) (by omega) (by omega) (by omega) (by omega) (by omega) (by omega)) (-902) (()) (fun z u h => ⟨by (try dsimp only at h); omega, rfl⟩) gL_refuses_L_act rfl rfl rfl f_L_act hR (Nat.le_of_ble_eq_true rfl) (Nat.le_of_ble_eq_true rfl) (hE.kept hS.2.1) hP hD hS hA [0, 1, 2, 3, 4] [] rfl rfl (by decide) rfl (by decide) (by decide) rfl hl.1 rfl (Nat.le_of_ble_eq_true rfl) dL_refuses_302 ⟨Nat.le_trans (Nat.le_of_ble_eq_true rfl) hRc.1, Nat.le_trans (Nat.le_of_ble_eq_true rfl) hRc.2⟩ (fun H locs hP hD hS => ?_)
  have hP : va_P D vwCl [(y0, .inr (1, [.ref b, .ref y2, .int (iI (tu)), .int (iI (gc)), .int (iI (ph)), .int (iI (mo))])), (y2, .inl (cI, 4, .inl (aI C))), (b, .inr (0, [.ref pq, .ref cq])), (pq, .inl (cI, 16, .inl (aI P))), (cq, .inl (cI, 136, .inl (aI (cnt P))))] H := hP
  have hD : va_D A [(y0, .inr (1, [.ref b, .ref y2, .int (iI (tu)), .int (iI (gc)), .int (iI (ph)), .int (iI (mo))])), (y2, .inl (cI, 4, .inl (aI C))), (b, .inr (0, [.ref pq, .ref cq])), (pq, .inl (cI, 16, .inl (aI P))), (cq, .inl (cI, 136, .inl (aI (cnt P))))] := hD
  refine r_sipush hx hb dL_refuses_305 (by decide) ?_
  refine r_icmp_ne (tgt := 433) hx hb dL_refuses_308 (by decide) (by unfold rI; decide) (by unfold rI; decide) (fun h9 => absurd h9 (by omega)) (fun h308 => ?_)
  refine lv_aload_n hx hb dL_refuses_311 rfl (lv_at hl 8 rfl) ?_
  refine r_bipush hx hb dL_refuses_312 (by decide) ?_
  refine lv_iload hx hb dL_refuses_314 (lv_at hl 1 rfl) ?_
  refine r_iconst hx hb dL_refuses_316 ?_
  refine r_iconst hx hb dL_refuses_317 ?_
  refine q_LS (As := [.ref y0, .int (iI (10)), .int (iI (2147483647)), .int (iI (0)), .int (iI (0))]) (rest := []) (wr := []) S (c_L_act_10r l hst D cI cL tw (y0) (y2) (b) (pq) (cq) (tu) (ph) (mo) (gc) (P) (C) (2147483647) (0) (0) (by omega) (by omega) (by omega) (by omega) (by omega) (by omega) (by omega) (by omega) (by omega)) (-902) (()) (fun z u h => ⟨by (try dsimp only at h); omega, rfl⟩) gL_refuses_L_act rfl rfl rfl f_L_act hR (Nat.le_of_ble_eq_true rfl) (Nat.le_of_ble_eq_true rfl) (hE.kept hS.2.1) hP hD hS hA [0, 1, 2, 3, 4] [] rfl rfl (by decide) rfl (by decide) (by decide) rfl hl.1 rfl (Nat.le_of_ble_eq_true rfl) dL_refuses_318 ⟨Nat.le_trans (Nat.le_of_ble_eq_true rfl) hRc.1, Nat.le_trans (Nat.le_of_ble_eq_true rfl) hRc.2⟩ (fun H locs hP hD hS => ?_)
  have hP : va_P D vwCl [(y0, .inr (1, [.ref b, .ref y2, .int (iI (tu)), .int (iI (gc)), .int (iI (ph)), .int (iI (mo))])), (y2, .inl (cI, 4, .inl (aI C))), (b, .inr (0, [.ref pq, .ref cq])), (pq, .inl (cI, 16, .inl (aI P))), (cq, .inl (cI, 136, .inl (aI (cnt P))))] H := hP
  have hD : va_D A [(y0, .inr (1, [.ref b, .ref y2, .int (iI (tu)), .int (iI (gc)), .int (iI (ph)), .int (iI (mo))])), (y2, .inl (cI, 4, .inl (aI C))), (b, .inr (0, [.ref pq, .ref cq])), (pq, .inl (cI, 16, .inl (aI P))), (cq, .inl (cI, 136, .inl (aI (cnt P))))] := hD
  refine r_sipush hx hb dL_refuses_321 (by decide) ?_
  refine r_icmp_ne (tgt := 433) hx hb dL_refuses_324 (by decide) (by unfold rI; decide) (by unfold rI; decide) (fun h9 => absurd h9 (by omega)) (fun h324 => ?_)
  refine lv_aload_n hx hb dL_refuses_327 rfl (lv_at hl 8 rfl) ?_
  refine r_bipush hx hb dL_refuses_328 (by decide) ?_
  refine lv_iload hx hb dL_refuses_330 (lv_at hl 1 rfl) ?_
  refine r_iconst hx hb dL_refuses_332 ?_
  refine r_iconst hx hb dL_refuses_333 ?_
  refine q_LS (As := [.ref y0, .int (iI (11)), .int (iI (2147483647)), .int (iI (0)), .int (iI (1))]) (rest := []) (wr := []) S (c_L_act_11r l hst D cI cL tw (y0) (y2) (b) (pq) (cq) (tu) (ph) (mo) (gc) (P) (C) (2147483647) (0) (1) (by omega) (by omega) (by omega) (by omega) (by omega) (by omega) (by omega) (by omega) (by omega)) (-901) (()) (fun z u h => ⟨by (try dsimp only at h); omega, rfl⟩) gL_refuses_L_act rfl rfl rfl f_L_act hR (Nat.le_of_ble_eq_true rfl) (Nat.le_of_ble_eq_true rfl) (hE.kept hS.2.1) hP hD hS hA [0, 1, 2, 3, 4] [] rfl rfl (by decide) rfl (by decide) (by decide) rfl hl.1 rfl (Nat.le_of_ble_eq_true rfl) dL_refuses_334 ⟨Nat.le_trans (Nat.le_of_ble_eq_true rfl) hRc.1, Nat.le_trans (Nat.le_of_ble_eq_true rfl) hRc.2⟩ (fun H locs hP hD hS => ?_)
  have hP : va_P D vwCl [(y0, .inr (1, [.ref b, .ref y2, .int (iI (tu)), .int (iI (gc)), .int (iI (ph)), .int (iI (mo))])), (y2, .inl (cI, 4, .inl (aI C))), (b, .inr (0, [.ref pq, .ref cq])), (pq, .inl (cI, 16, .inl (aI P))), (cq, .inl (cI, 136, .inl (aI (cnt P))))] H := hP
  have hD : va_D A [(y0, .inr (1, [.ref b, .ref y2, .int (iI (tu)), .int (iI (gc)), .int (iI (ph)), .int (iI (mo))])), (y2, .inl (cI, 4, .inl (aI C))), (b, .inr (0, [.ref pq, .ref cq])), (pq, .inl (cI, 16, .inl (aI P))), (cq, .inl (cI, 136, .inl (aI (cnt P))))] := hD
  refine r_sipush hx hb dL_refuses_337 (by decide) ?_
  refine r_icmp_ne (tgt := 433) hx hb dL_refuses_340 (by decide) (by unfold rI; decide) (by unfold rI; decide) (fun h9 => absurd h9 (by omega)) (fun h340 => ?_)
  refine lv_aload_n hx hb dL_refuses_343 rfl (lv_at hl 8 rfl) ?_
  refine r_bipush hx hb dL_refuses_344 (by decide) ?_
  refine r_iconst hx hb dL_refuses_346 ?_
  refine lv_iload hx hb dL_refuses_347 (lv_at hl 1 rfl) ?_
  refine r_iconst hx hb dL_refuses_349 ?_
  refine q_LS (As := [.ref y0, .int (iI (11)), .int (iI (0)), .int (iI (2147483647)), .int (iI (0))]) (rest := []) (wr := []) S (c_L_act_11r l hst D cI cL tw (y0) (y2) (b) (pq) (cq) (tu) (ph) (mo) (gc) (P) (C) (0) (2147483647) (0) (by omega) (by omega) (by omega) (by omega) (by omega) (by omega) (by omega) (by omega) (by omega)) (-901) (()) (fun z u h => ⟨by (try dsimp only at h); omega, rfl⟩) gL_refuses_L_act rfl rfl rfl f_L_act hR (Nat.le_of_ble_eq_true rfl) (Nat.le_of_ble_eq_true rfl) (hE.kept hS.2.1) hP hD hS hA [0, 1, 2, 3, 4] [] rfl rfl (by decide) rfl (by decide) (by decide) rfl hl.1 rfl (Nat.le_of_ble_eq_true rfl) dL_refuses_350 ⟨Nat.le_trans (Nat.le_of_ble_eq_true rfl) hRc.1, Nat.le_trans (Nat.le_of_ble_eq_true rfl) hRc.2⟩ (fun H locs hP hD hS => ?_)
  have hP : va_P D vwCl [(y0, .inr (1, [.ref b, .ref y2, .int (iI (tu)), .int (iI (gc)), .int (iI (ph)), .int (iI (mo))])), (y2, .inl (cI, 4, .inl (aI C))), (b, .inr (0, [.ref pq, .ref cq])), (pq, .inl (cI, 16, .inl (aI P))), (cq, .inl (cI, 136, .inl (aI (cnt P))))] H := hP
  have hD : va_D A [(y0, .inr (1, [.ref b, .ref y2, .int (iI (tu)), .int (iI (gc)), .int (iI (ph)), .int (iI (mo))])), (y2, .inl (cI, 4, .inl (aI C))), (b, .inr (0, [.ref pq, .ref cq])), (pq, .inl (cI, 16, .inl (aI P))), (cq, .inl (cI, 136, .inl (aI (cnt P))))] := hD
  refine r_sipush hx hb dL_refuses_353 (by decide) ?_
  refine r_icmp_ne (tgt := 433) hx hb dL_refuses_356 (by decide) (by unfold rI; decide) (by unfold rI; decide) (fun h9 => absurd h9 (by omega)) (fun h356 => ?_)
  refine lv_aload_n hx hb dL_refuses_359 rfl (lv_at hl 8 rfl) ?_
  refine r_bipush hx hb dL_refuses_360 (by decide) ?_
  refine r_iconst hx hb dL_refuses_362 ?_
  refine r_iconst hx hb dL_refuses_363 ?_
  refine lv_iload hx hb dL_refuses_364 (lv_at hl 1 rfl) ?_
  refine q_LS (As := [.ref y0, .int (iI (11)), .int (iI (0)), .int (iI (0)), .int (iI (2147483647))]) (rest := []) (wr := []) S (c_L_act_11r l hst D cI cL tw (y0) (y2) (b) (pq) (cq) (tu) (ph) (mo) (gc) (P) (C) (0) (0) (2147483647) (by omega) (by omega) (by omega) (by omega) (by omega) (by omega) (by omega) (by omega) (by omega)) (-902) (()) (fun z u h => ⟨by (try dsimp only at h); omega, rfl⟩) gL_refuses_L_act rfl rfl rfl f_L_act hR (Nat.le_of_ble_eq_true rfl) (Nat.le_of_ble_eq_true rfl) (hE.kept hS.2.1) hP hD hS hA [0, 1, 2, 3, 4] [] rfl rfl (by decide) rfl (by decide) (by decide) rfl hl.1 rfl (Nat.le_of_ble_eq_true rfl) dL_refuses_366 ⟨Nat.le_trans (Nat.le_of_ble_eq_true rfl) hRc.1, Nat.le_trans (Nat.le_of_ble_eq_true rfl) hRc.2⟩ (fun H locs hP hD hS => ?_)
  have hP : va_P D vwCl [(y0, .inr (1, [.ref b, .ref y2, .int (iI (tu)), .int (iI (gc)), .int (iI (ph)), .int (iI (mo))])), (y2, .inl (cI, 4, .inl (aI C))), (b, .inr (0, [.ref pq, .ref cq])), (pq, .inl (cI, 16, .inl (aI P))), (cq, .inl (cI, 136, .inl (aI (cnt P))))] H := hP
  have hD : va_D A [(y0, .inr (1, [.ref b, .ref y2, .int (iI (tu)), .int (iI (gc)), .int (iI (ph)), .int (iI (mo))])), (y2, .inl (cI, 4, .inl (aI C))), (b, .inr (0, [.ref pq, .ref cq])), (pq, .inl (cI, 16, .inl (aI P))), (cq, .inl (cI, 136, .inl (aI (cnt P))))] := hD
  refine r_sipush hx hb dL_refuses_369 (by decide) ?_
  refine r_icmp_ne (tgt := 433) hx hb dL_refuses_372 (by decide) (by unfold rI; decide) (by unfold rI; decide) (fun h9 => absurd h9 (by omega)) (fun h372 => ?_)
  refine lv_aload_n hx hb dL_refuses_375 rfl (lv_at hl 8 rfl) ?_
  refine r_bipush hx hb dL_refuses_376 (by decide) ?_
  refine lv_iload hx hb dL_refuses_378 (lv_at hl 3 rfl) ?_
  refine r_iconst hx hb dL_refuses_380 ?_
  refine lv_iload hx hb dL_refuses_381 (lv_at hl 3 rfl) ?_
  refine r_iconst hx hb dL_refuses_383 ?_
  refine r_iadd hx hb dL_refuses_384 ?_
  refine r_top (4) (by decide) ?_
  refine r_iconst hx hb dL_refuses_385 ?_
  refine r_irem hx hb dL_refuses_386 (by omega) (by omega) ?_
  refine r_top (0) (by decide) ?_
  refine q_LS (As := [.ref y0, .int (iI (11)), .int (iI (2)), .int (iI (0)), .int (iI (0))]) (rest := []) (wr := []) S (c_L_act_11r l hst D cI cL tw (y0) (y2) (b) (pq) (cq) (tu) (ph) (mo) (gc) (P) (C) (2) (0) (0) (by omega) (by omega) (by omega) (by omega) (by omega) (by omega) (by omega) (by omega) (by omega)) (-902) (()) (fun z u h => ⟨by (try dsimp only at h); omega, rfl⟩) gL_refuses_L_act rfl rfl rfl f_L_act hR (Nat.le_of_ble_eq_true rfl) (Nat.le_of_ble_eq_true rfl) (hE.kept hS.2.1) hP hD hS hA [0, 1, 2, 3, 4] [] rfl rfl (by decide) rfl (by decide) (by decide) rfl hl.1 rfl (Nat.le_of_ble_eq_true rfl) dL_refuses_387 ⟨Nat.le_trans (Nat.le_of_ble_eq_true rfl) hRc.1, Nat.le_trans (Nat.le_of_ble_eq_true rfl) hRc.2⟩ (fun H locs hP hD hS => ?_)
  have hP : va_P D vwCl [(y0, .inr (1, [.ref b, .ref y2, .int (iI (tu)), .int (iI (gc)), .int (iI (ph)), .int (iI (mo))])), (y2, .inl (cI, 4, .inl (aI C))), (b, .inr (0, [.ref pq, .ref cq])), (pq, .inl (cI, 16, .inl (aI P))), (cq, .inl (cI, 136, .inl (aI (cnt P))))] H := hP
  have hD : va_D A [(y0, .inr (1, [.ref b, .ref y2, .int (iI (tu)), .int (iI (gc)), .int (iI (ph)), .int (iI (mo))])), (y2, .inl (cI, 4, .inl (aI C))), (b, .inr (0, [.ref pq, .ref cq])), (pq, .inl (cI, 16, .inl (aI P))), (cq, .inl (cI, 136, .inl (aI (cnt P))))] := hD
  refine r_sipush hx hb dL_refuses_390 (by decide) ?_
  refine r_icmp_ne (tgt := 433) hx hb dL_refuses_393 (by decide) (by unfold rI; decide) (by unfold rI; decide) (fun h9 => absurd h9 (by omega)) (fun h393 => ?_)
  refine lv_aload_n hx hb dL_refuses_396 rfl (lv_at hl 8 rfl) ?_
  refine r_bipush hx hb dL_refuses_397 (by decide) ?_
  refine lv_iload hx hb dL_refuses_399 (lv_at hl 3 rfl) ?_
  refine r_iconst hx hb dL_refuses_401 ?_
  refine lv_iload hx hb dL_refuses_402 (lv_at hl 3 rfl) ?_
  refine q_LS (As := [.ref y0, .int (iI (11)), .int (iI (2)), .int (iI (0)), .int (iI (2))]) (rest := []) (wr := []) S (c_L_act_11r l hst D cI cL tw (y0) (y2) (b) (pq) (cq) (tu) (ph) (mo) (gc) (P) (C) (2) (0) (2) (by omega) (by omega) (by omega) (by omega) (by omega) (by omega) (by omega) (by omega) (by omega)) (-902) (()) (fun z u h => ⟨by (try dsimp only at h); omega, rfl⟩) gL_refuses_L_act rfl rfl rfl f_L_act hR (Nat.le_of_ble_eq_true rfl) (Nat.le_of_ble_eq_true rfl) (hE.kept hS.2.1) hP hD hS hA [0, 1, 2, 3, 4] [] rfl rfl (by decide) rfl (by decide) (by decide) rfl hl.1 rfl (Nat.le_of_ble_eq_true rfl) dL_refuses_404 ⟨Nat.le_trans (Nat.le_of_ble_eq_true rfl) hRc.1, Nat.le_trans (Nat.le_of_ble_eq_true rfl) hRc.2⟩ (fun H locs hP hD hS => ?_)
  have hP : va_P D vwCl [(y0, .inr (1, [.ref b, .ref y2, .int (iI (tu)), .int (iI (gc)), .int (iI (ph)), .int (iI (mo))])), (y2, .inl (cI, 4, .inl (aI C))), (b, .inr (0, [.ref pq, .ref cq])), (pq, .inl (cI, 16, .inl (aI P))), (cq, .inl (cI, 136, .inl (aI (cnt P))))] H := hP
  have hD : va_D A [(y0, .inr (1, [.ref b, .ref y2, .int (iI (tu)), .int (iI (gc)), .int (iI (ph)), .int (iI (mo))])), (y2, .inl (cI, 4, .inl (aI C))), (b, .inr (0, [.ref pq, .ref cq])), (pq, .inl (cI, 16, .inl (aI P))), (cq, .inl (cI, 136, .inl (aI (cnt P))))] := hD
  refine r_sipush hx hb dL_refuses_407 (by decide) ?_
  refine r_icmp_ne (tgt := 433) hx hb dL_refuses_410 (by decide) (by unfold rI; decide) (by unfold rI; decide) (fun h9 => absurd h9 (by omega)) (fun h410 => ?_)
  refine lv_aload_n hx hb dL_refuses_413 rfl (lv_at hl 8 rfl) ?_
  refine r_bipush hx hb dL_refuses_414 (by decide) ?_
  refine lv_iload hx hb dL_refuses_416 (lv_at hl 0 rfl) ?_
  refine r_iconst hx hb dL_refuses_418 ?_
  refine r_iconst hx hb dL_refuses_419 ?_
  refine q_LS (As := [.ref y0, .int (iI (12)), .int (iI (2147483647)), .int (iI (0)), .int (iI (0))]) (rest := []) (wr := []) S (c_L_act_12r l hst D cI cL tw (y0) (y2) (b) (pq) (cq) (tu) (ph) (mo) (gc) (P) (C) (2147483647) (0) (0) (by omega) (by omega) (by omega) (by omega) (by omega) (by omega) (by omega) (by omega) (by omega)) (-902) (()) (fun z u h => ⟨by (try dsimp only at h); omega, rfl⟩) gL_refuses_L_act rfl rfl rfl f_L_act hR (Nat.le_of_ble_eq_true rfl) (Nat.le_of_ble_eq_true rfl) (hE.kept hS.2.1) hP hD hS hA [0, 1, 2, 3, 4] [] rfl rfl (by decide) rfl (by decide) (by decide) rfl hl.1 rfl (Nat.le_of_ble_eq_true rfl) dL_refuses_420 ⟨Nat.le_trans (Nat.le_of_ble_eq_true rfl) hRc.1, Nat.le_trans (Nat.le_of_ble_eq_true rfl) hRc.2⟩ (fun H locs hP hD hS => ?_)
  have hP : va_P D vwCl [(y0, .inr (1, [.ref b, .ref y2, .int (iI (tu)), .int (iI (gc)), .int (iI (ph)), .int (iI (mo))])), (y2, .inl (cI, 4, .inl (aI C))), (b, .inr (0, [.ref pq, .ref cq])), (pq, .inl (cI, 16, .inl (aI P))), (cq, .inl (cI, 136, .inl (aI (cnt P))))] H := hP
  have hD : va_D A [(y0, .inr (1, [.ref b, .ref y2, .int (iI (tu)), .int (iI (gc)), .int (iI (ph)), .int (iI (mo))])), (y2, .inl (cI, 4, .inl (aI C))), (b, .inr (0, [.ref pq, .ref cq])), (pq, .inl (cI, 16, .inl (aI P))), (cq, .inl (cI, 136, .inl (aI (cnt P))))] := hD
  refine r_sipush hx hb dL_refuses_423 (by decide) ?_
  refine r_icmp_ne (tgt := 433) hx hb dL_refuses_426 (by decide) (by unfold rI; decide) (by unfold rI; decide) (fun h9 => absurd h9 (by omega)) (fun h426 => ?_)
  refine r_iconst hx hb dL_refuses_429 ?_
  refine lv_goto (tgt := 434) hx hb dL_refuses_430 (by decide) ?_
  refine lv_istore (lv' := [(8, .int (iI (1))), (7, .int (iI (2147483647))), (6, .int (iI (2147483647))), (5, .int (iI (2147483647))), (4, .int (iI (2))), (3, .int (iI (2147483647))), (2, .int (iI (tu))), (1, .int (iI (ph))), (0, .ref y0)]) hx hb dL_refuses_434 hl (by decide) rfl (fun ls hl => ?_)
  refine lv_iload hx hb dL_refuses_436 (lv_at hl 0 rfl) ?_
  refine r_if_ne (tgt := 443) hx hb dL_refuses_438 (by decide) (by unfold rI; decide) (fun h438 => ?_) (fun h9 => absurd h9 (by omega))
  refine lv_iinc (v := iI (3)) (lv' := [(4, .int (iI (3))), (8, .int (iI (1))), (7, .int (iI (2147483647))), (6, .int (iI (2147483647))), (5, .int (iI (2147483647))), (3, .int (iI (2147483647))), (2, .int (iI (tu))), (1, .int (iI (ph))), (0, .ref y0)]) hx hb dL_refuses_443 hl (k := 4) rfl (by decide) (by decide) rfl (fun ls hl => ?_)
  refine lv_goto (tgt := 16) hx hb dL_refuses_446 (by decide) ?_
  exact sg_L_refuses_4 S hst hR hRc hE hA (y0) (y2) (b) (pq) (cq) (tu) (ph) (mo) (gc) (P) (C) hB htu hgc hph hmo hret hP hD hS hl
set_option maxHeartbeats 4000000 in
set_option maxRecDepth 100000 in
theorem sg_L_refuses_2 {p : Program} {l : Launch} {e : Env} {R : Room} {s : State} {mt : MethodId} {args : Array Value} {below : List Frame} {meth : Method} {c : Code} {H0 : Heap} {Q : State → Prop} {A : Nat → Prop} {D : va_G} {cI cL : ClassId} {tw : Nat} (S : CallFix p mt c cL_refuses 9 s args wsL_refuses RL) (hst : l.stackTraces = false) (hR : 14 ≤ R.frames ∧ 349 ≤ R.locals) (hRc : 155 ≤ R.cells ∧ 930 ≤ R.slots) (hE : EV D cI cL tw A s H0) (hA : ∀ q : Nat, H0.size ≤ q → A q) (y0 : Nat) (y2 : Nat) (b : Nat) (pq : Nat) (cq : Nat) (tu : Int) (ph : Int) (mo : Int) (gc : Int) (P : Int → Int) (C : Int → Int) (hB : ∀ i, 0 ≤ P i ∧ P i ≤ 72) (htu : 0 ≤ tu ∧ tu ≤ 3) (hgc : 0 ≤ gc ∧ gc ≤ 2) (hph : 0 ≤ ph ∧ ph ≤ 2) (hmo : 0 ≤ mo ∧ mo ≤ 6) (hret : ∀ (z : Int) (u : Unit) (pc : Nat) (ls : Array Slot) (H : Heap) (locs : List Loc) (cells slots : Nat), decode cL_refuses pc = .ok (.ireturn, 1) → (z = 1) → va_P D vwCl [(y0, .inr (1, [.ref b, .ref y2, .int (iI (tu)), .int (iI (gc)), .int (iI (ph)), .int (iI (mo))])), (y2, .inl (cI, 4, .inl (aI C))), (b, .inr (0, [.ref pq, .ref cq])), (pq, .inl (cI, 16, .inl (aI P))), (cq, .inl (cI, 136, .inl (aI (cnt P))))] H → va_D A [(y0, .inr (1, [.ref b, .ref y2, .int (iI (tu)), .int (iI (gc)), .int (iI (ph)), .int (iI (mo))])), (y2, .inl (cI, 4, .inl (aI C))), (b, .inr (0, [.ref pq, .ref cq])), (pq, .inl (cI, 16, .inl (aI P))), (cq, .inl (cI, 136, .inl (aI (cnt P))))] → va_S A H0 H locs → cells ≤ 155 → slots ≤ 930 → W p l e R s mt args below meth c H locs cells slots Q (F0 mt pc ls [.int (iI z)])) {H : Heap} {locs : List Loc} {ls : Array Slot} (hP : va_P D vwCl [(y0, .inr (1, [.ref b, .ref y2, .int (iI (tu)), .int (iI (gc)), .int (iI (ph)), .int (iI (mo))])), (y2, .inl (cI, 4, .inl (aI C))), (b, .inr (0, [.ref pq, .ref cq])), (pq, .inl (cI, 16, .inl (aI P))), (cq, .inl (cI, 136, .inl (aI (cnt P))))] H) (hD : va_D A [(y0, .inr (1, [.ref b, .ref y2, .int (iI (tu)), .int (iI (gc)), .int (iI (ph)), .int (iI (mo))])), (y2, .inl (cI, 4, .inl (aI C))), (b, .inr (0, [.ref pq, .ref cq])), (pq, .inl (cI, 16, .inl (aI P))), (cq, .inl (cI, 136, .inl (aI (cnt P))))]) (hS : va_S A H0 H locs) (hl : lv_has ls 9 [(4, .int (iI (1))), (8, .int (iI (1))), (7, .int (iI (0))), (6, .int (iI (-1))), (5, .int (iI (-1))), (3, .int (iI (2147483647))), (2, .int (iI (tu))), (1, .int (iI (ph))), (0, .ref y0)]) : W p l e R s mt args below meth c H locs 37 222 Q (F0 mt 16 ls []) := by
  obtain ⟨hx, hb, hml, hown, hts⟩ := id S
  refine lv_iload hx hb dL_refuses_16 (lv_at hl 0 rfl) ?_
  refine r_iconst hx hb dL_refuses_18 ?_
  refine r_icmp_ge (tgt := 449) hx hb dL_refuses_19 (by decide) (by unfold rI; decide) (by unfold rI; decide) (fun h9 => absurd h9 (by omega)) (fun h19 => ?_)
  refine lv_iload hx hb dL_refuses_22 (lv_at hl 0 rfl) ?_
  refine r_if_ne (tgt := 31) hx hb dL_refuses_24 (by decide) (by unfold rI; decide) (fun h24 => ?_) (fun h9 => absurd h9 (by omega))
  refine lv_iload hx hb dL_refuses_31 (lv_at hl 0 rfl) ?_
  refine r_iconst hx hb dL_refuses_33 ?_
  refine r_icmp_ne (tgt := 41) hx hb dL_refuses_34 (by decide) (by unfold rI; decide) (by unfold rI; decide) (fun h34 => ?_) (fun h9 => absurd h9 (by omega))
  refine lv_iload_n hx hb dL_refuses_41 rfl (lv_at hl 5 rfl) ?_
  refine r_ineg hx hb dL_refuses_42 ?_
  refine r_top (-2147483647) (by decide) ?_
  refine r_iconst hx hb dL_refuses_43 ?_
  refine r_isub hx hb dL_refuses_44 ?_
  refine r_top (-2147483648) (by decide) ?_
  refine lv_istore (lv' := [(5, .int (iI (-2147483648))), (4, .int (iI (1))), (8, .int (iI (1))), (7, .int (iI (0))), (6, .int (iI (-1))), (3, .int (iI (2147483647))), (2, .int (iI (tu))), (1, .int (iI (ph))), (0, .ref y0)]) hx hb dL_refuses_45 hl (by decide) rfl (fun ls hl => ?_)
  refine lv_iload hx hb dL_refuses_47 (lv_at hl 1 rfl) ?_
  refine r_iconst hx hb dL_refuses_49 ?_
  refine r_icmp_ne (tgt := 57) hx hb dL_refuses_50 (by decide) (by unfold rI; decide) (by unfold rI; decide) (fun h9 => absurd h9 (by omega)) (fun h50 => ?_)
  refine r_iconst hx hb dL_refuses_53 ?_
  refine lv_goto (tgt := 59) hx hb dL_refuses_54 (by decide) ?_
  refine lv_istore (lv' := [(6, .int (iI (4))), (5, .int (iI (-2147483648))), (4, .int (iI (1))), (8, .int (iI (1))), (7, .int (iI (0))), (3, .int (iI (2147483647))), (2, .int (iI (tu))), (1, .int (iI (ph))), (0, .ref y0)]) hx hb dL_refuses_59 hl (by decide) rfl (fun ls hl => ?_)
  refine lv_iload hx hb dL_refuses_61 (lv_at hl 2 rfl) ?_
  refine r_if_ne (tgt := 70) hx hb dL_refuses_63 (by decide) (by unfold rI; decide) (fun h63 => ?_) (fun h9 => absurd h9 (by omega))
  refine lv_iload hx hb dL_refuses_70 (lv_at hl 0 rfl) ?_
  refine lv_istore (lv' := [(7, .int (iI (4))), (6, .int (iI (4))), (5, .int (iI (-2147483648))), (4, .int (iI (1))), (8, .int (iI (1))), (3, .int (iI (2147483647))), (2, .int (iI (tu))), (1, .int (iI (ph))), (0, .ref y0)]) hx hb dL_refuses_72 hl (by decide) rfl (fun ls hl => ?_)
  refine lv_aload_n hx hb dL_refuses_74 rfl (lv_at hl 8 rfl) ?_
  refine r_iconst hx hb dL_refuses_75 ?_
  refine lv_iload hx hb dL_refuses_76 (lv_at hl 3 rfl) ?_
  refine r_iconst hx hb dL_refuses_78 ?_
  refine r_icmp_ne (tgt := 87) hx hb dL_refuses_79 (by decide) (by unfold rI; decide) (by unfold rI; decide) (fun h9 => absurd h9 (by omega)) (fun h79 => ?_)
  refine r_bipush hx hb dL_refuses_82 (by decide) ?_
  refine lv_goto (tgt := 89) hx hb dL_refuses_84 (by decide) ?_
  refine r_iconst hx hb dL_refuses_89 ?_
  refine r_iconst hx hb dL_refuses_90 ?_
  refine q_LS (As := [.ref y0, .int (iI (0)), .int (iI (7)), .int (iI (0)), .int (iI (0))]) (rest := []) (wr := []) S (c_L_act_0r l hst D cI cL tw (y0) (y2) (b) (pq) (cq) (tu) (ph) (mo) (gc) (P) (C) (7) (0) (0) (by omega) (by omega) (by omega) (by omega) (by omega) (by omega) (by omega) (by omega) (by omega)) (-902) (()) (fun z u h => ⟨by (try dsimp only at h); omega, rfl⟩) gL_refuses_L_act rfl rfl rfl f_L_act hR (Nat.le_of_ble_eq_true rfl) (Nat.le_of_ble_eq_true rfl) (hE.kept hS.2.1) hP hD hS hA [0, 1, 2, 3, 4] [] rfl rfl (by decide) rfl (by decide) (by decide) rfl hl.1 rfl (Nat.le_of_ble_eq_true rfl) dL_refuses_91 ⟨Nat.le_trans (Nat.le_of_ble_eq_true rfl) hRc.1, Nat.le_trans (Nat.le_of_ble_eq_true rfl) hRc.2⟩ (fun H locs hP hD hS => ?_)
  have hP : va_P D vwCl [(y0, .inr (1, [.ref b, .ref y2, .int (iI (tu)), .int (iI (gc)), .int (iI (ph)), .int (iI (mo))])), (y2, .inl (cI, 4, .inl (aI C))), (b, .inr (0, [.ref pq, .ref cq])), (pq, .inl (cI, 16, .inl (aI P))), (cq, .inl (cI, 136, .inl (aI (cnt P))))] H := hP
  have hD : va_D A [(y0, .inr (1, [.ref b, .ref y2, .int (iI (tu)), .int (iI (gc)), .int (iI (ph)), .int (iI (mo))])), (y2, .inl (cI, 4, .inl (aI C))), (b, .inr (0, [.ref pq, .ref cq])), (pq, .inl (cI, 16, .inl (aI P))), (cq, .inl (cI, 136, .inl (aI (cnt P))))] := hD
  refine r_sipush hx hb dL_refuses_94 (by decide) ?_
  refine r_icmp_ne (tgt := 433) hx hb dL_refuses_97 (by decide) (by unfold rI; decide) (by unfold rI; decide) (fun h9 => absurd h9 (by omega)) (fun h97 => ?_)
  refine lv_aload_n hx hb dL_refuses_100 rfl (lv_at hl 8 rfl) ?_
  refine r_iconst hx hb dL_refuses_101 ?_
  refine lv_iload hx hb dL_refuses_102 (lv_at hl 1 rfl) ?_
  refine r_iconst hx hb dL_refuses_104 ?_
  refine r_iconst hx hb dL_refuses_105 ?_
  refine q_LS (As := [.ref y0, .int (iI (1)), .int (iI (4)), .int (iI (0)), .int (iI (0))]) (rest := []) (wr := []) S (c_L_act_1r l hst D cI cL tw (y0) (y2) (b) (pq) (cq) (tu) (ph) (mo) (gc) (P) (C) (4) (0) (0) (by omega) (by omega) (by omega) (by omega) (by omega) (by omega) (by omega) (by omega) (by omega)) (-901) (()) (fun z u h => ⟨by (try dsimp only at h); omega, rfl⟩) gL_refuses_L_act rfl rfl rfl f_L_act hR (Nat.le_of_ble_eq_true rfl) (Nat.le_of_ble_eq_true rfl) (hE.kept hS.2.1) hP hD hS hA [0, 1, 2, 3, 4] [] rfl rfl (by decide) rfl (by decide) (by decide) rfl hl.1 rfl (Nat.le_of_ble_eq_true rfl) dL_refuses_106 ⟨Nat.le_trans (Nat.le_of_ble_eq_true rfl) hRc.1, Nat.le_trans (Nat.le_of_ble_eq_true rfl) hRc.2⟩ (fun H locs hP hD hS => ?_)
  have hP : va_P D vwCl [(y0, .inr (1, [.ref b, .ref y2, .int (iI (tu)), .int (iI (gc)), .int (iI (ph)), .int (iI (mo))])), (y2, .inl (cI, 4, .inl (aI C))), (b, .inr (0, [.ref pq, .ref cq])), (pq, .inl (cI, 16, .inl (aI P))), (cq, .inl (cI, 136, .inl (aI (cnt P))))] H := hP
  have hD : va_D A [(y0, .inr (1, [.ref b, .ref y2, .int (iI (tu)), .int (iI (gc)), .int (iI (ph)), .int (iI (mo))])), (y2, .inl (cI, 4, .inl (aI C))), (b, .inr (0, [.ref pq, .ref cq])), (pq, .inl (cI, 16, .inl (aI P))), (cq, .inl (cI, 136, .inl (aI (cnt P))))] := hD
  refine r_sipush hx hb dL_refuses_109 (by decide) ?_
  refine r_icmp_ne (tgt := 433) hx hb dL_refuses_112 (by decide) (by unfold rI; decide) (by unfold rI; decide) (fun h9 => absurd h9 (by omega)) (fun h112 => ?_)
  refine lv_aload_n hx hb dL_refuses_115 rfl (lv_at hl 8 rfl) ?_
  refine r_iconst hx hb dL_refuses_116 ?_
  refine lv_iload hx hb dL_refuses_117 (lv_at hl 1 rfl) ?_
  refine r_iconst hx hb dL_refuses_119 ?_
  refine r_iconst hx hb dL_refuses_120 ?_
  refine q_LS (As := [.ref y0, .int (iI (3)), .int (iI (4)), .int (iI (0)), .int (iI (0))]) (rest := []) (wr := []) S (c_L_act_3r l hst D cI cL tw (y0) (y2) (b) (pq) (cq) (tu) (ph) (mo) (gc) (P) (C) (4) (0) (0) (by omega) (by omega) (by omega) (by omega) (by omega) (by omega) (by omega) (by omega) (by omega)) (-901) (()) (fun z u h => ⟨by (try dsimp only at h); omega, rfl⟩) gL_refuses_L_act rfl rfl rfl f_L_act hR (Nat.le_of_ble_eq_true rfl) (Nat.le_of_ble_eq_true rfl) (hE.kept hS.2.1) hP hD hS hA [0, 1, 2, 3, 4] [] rfl rfl (by decide) rfl (by decide) (by decide) rfl hl.1 rfl (Nat.le_of_ble_eq_true rfl) dL_refuses_121 ⟨Nat.le_trans (Nat.le_of_ble_eq_true rfl) hRc.1, Nat.le_trans (Nat.le_of_ble_eq_true rfl) hRc.2⟩ (fun H locs hP hD hS => ?_)
  have hP : va_P D vwCl [(y0, .inr (1, [.ref b, .ref y2, .int (iI (tu)), .int (iI (gc)), .int (iI (ph)), .int (iI (mo))])), (y2, .inl (cI, 4, .inl (aI C))), (b, .inr (0, [.ref pq, .ref cq])), (pq, .inl (cI, 16, .inl (aI P))), (cq, .inl (cI, 136, .inl (aI (cnt P))))] H := hP
  have hD : va_D A [(y0, .inr (1, [.ref b, .ref y2, .int (iI (tu)), .int (iI (gc)), .int (iI (ph)), .int (iI (mo))])), (y2, .inl (cI, 4, .inl (aI C))), (b, .inr (0, [.ref pq, .ref cq])), (pq, .inl (cI, 16, .inl (aI P))), (cq, .inl (cI, 136, .inl (aI (cnt P))))] := hD
  refine r_sipush hx hb dL_refuses_124 (by decide) ?_
  refine r_icmp_ne (tgt := 433) hx hb dL_refuses_127 (by decide) (by unfold rI; decide) (by unfold rI; decide) (fun h9 => absurd h9 (by omega)) (fun h127 => ?_)
  refine lv_aload_n hx hb dL_refuses_130 rfl (lv_at hl 8 rfl) ?_
  refine r_iconst hx hb dL_refuses_131 ?_
  refine r_iconst hx hb dL_refuses_132 ?_
  refine lv_iload hx hb dL_refuses_133 (lv_at hl 1 rfl) ?_
  refine r_iconst hx hb dL_refuses_135 ?_
  refine q_LS (As := [.ref y0, .int (iI (3)), .int (iI (0)), .int (iI (4)), .int (iI (0))]) (rest := []) (wr := []) S (c_L_act_3r l hst D cI cL tw (y0) (y2) (b) (pq) (cq) (tu) (ph) (mo) (gc) (P) (C) (0) (4) (0) (by omega) (by omega) (by omega) (by omega) (by omega) (by omega) (by omega) (by omega) (by omega)) (-901) (()) (fun z u h => ⟨by (try dsimp only at h); omega, rfl⟩) gL_refuses_L_act rfl rfl rfl f_L_act hR (Nat.le_of_ble_eq_true rfl) (Nat.le_of_ble_eq_true rfl) (hE.kept hS.2.1) hP hD hS hA [0, 1, 2, 3, 4] [] rfl rfl (by decide) rfl (by decide) (by decide) rfl hl.1 rfl (Nat.le_of_ble_eq_true rfl) dL_refuses_136 ⟨Nat.le_trans (Nat.le_of_ble_eq_true rfl) hRc.1, Nat.le_trans (Nat.le_of_ble_eq_true rfl) hRc.2⟩ (fun H locs hP hD hS => ?_)
  have hP : va_P D vwCl [(y0, .inr (1, [.ref b, .ref y2, .int (iI (tu)), .int (iI (gc)), .int (iI (ph)), .int (iI (mo))])), (y2, .inl (cI, 4, .inl (aI C))), (b, .inr (0, [.ref pq, .ref cq])), (pq, .inl (cI, 16, .inl (aI P))), (cq, .inl (cI, 136, .inl (aI (cnt P))))] H := hP
  have hD : va_D A [(y0, .inr (1, [.ref b, .ref y2, .int (iI (tu)), .int (iI (gc)), .int (iI (ph)), .int (iI (mo))])), (y2, .inl (cI, 4, .inl (aI C))), (b, .inr (0, [.ref pq, .ref cq])), (pq, .inl (cI, 16, .inl (aI P))), (cq, .inl (cI, 136, .inl (aI (cnt P))))] := hD
  refine r_sipush hx hb dL_refuses_139 (by decide) ?_
  refine r_icmp_ne (tgt := 433) hx hb dL_refuses_142 (by decide) (by unfold rI; decide) (by unfold rI; decide) (fun h9 => absurd h9 (by omega)) (fun h142 => ?_)
  refine lv_aload_n hx hb dL_refuses_145 rfl (lv_at hl 8 rfl) ?_
  refine r_iconst hx hb dL_refuses_146 ?_
  refine lv_iload hx hb dL_refuses_147 (lv_at hl 1 rfl) ?_
  refine r_iconst hx hb dL_refuses_149 ?_
  refine r_iconst hx hb dL_refuses_150 ?_
  refine q_LS (As := [.ref y0, .int (iI (4)), .int (iI (4)), .int (iI (0)), .int (iI (0))]) (rest := []) (wr := []) S (c_L_act_4r l hst D cI cL tw (y0) (y2) (b) (pq) (cq) (tu) (ph) (mo) (gc) (P) (C) (4) (0) (0) (by omega) (by omega) (by omega) (by omega) (by omega) (by omega) (by omega) (by omega) (by omega)) (-901) (()) (fun z u h => ⟨by (try dsimp only at h); omega, rfl⟩) gL_refuses_L_act rfl rfl rfl f_L_act hR (Nat.le_of_ble_eq_true rfl) (Nat.le_of_ble_eq_true rfl) (hE.kept hS.2.1) hP hD hS hA [0, 1, 2, 3, 4] [] rfl rfl (by decide) rfl (by decide) (by decide) rfl hl.1 rfl (Nat.le_of_ble_eq_true rfl) dL_refuses_151 ⟨Nat.le_trans (Nat.le_of_ble_eq_true rfl) hRc.1, Nat.le_trans (Nat.le_of_ble_eq_true rfl) hRc.2⟩ (fun H locs hP hD hS => ?_)
  have hP : va_P D vwCl [(y0, .inr (1, [.ref b, .ref y2, .int (iI (tu)), .int (iI (gc)), .int (iI (ph)), .int (iI (mo))])), (y2, .inl (cI, 4, .inl (aI C))), (b, .inr (0, [.ref pq, .ref cq])), (pq, .inl (cI, 16, .inl (aI P))), (cq, .inl (cI, 136, .inl (aI (cnt P))))] H := hP
  have hD : va_D A [(y0, .inr (1, [.ref b, .ref y2, .int (iI (tu)), .int (iI (gc)), .int (iI (ph)), .int (iI (mo))])), (y2, .inl (cI, 4, .inl (aI C))), (b, .inr (0, [.ref pq, .ref cq])), (pq, .inl (cI, 16, .inl (aI P))), (cq, .inl (cI, 136, .inl (aI (cnt P))))] := hD
  refine r_sipush hx hb dL_refuses_154 (by decide) ?_
  refine r_icmp_ne (tgt := 433) hx hb dL_refuses_157 (by decide) (by unfold rI; decide) (by unfold rI; decide) (fun h9 => absurd h9 (by omega)) (fun h157 => ?_)
  refine lv_aload_n hx hb dL_refuses_160 rfl (lv_at hl 8 rfl) ?_
  refine r_iconst hx hb dL_refuses_161 ?_
  refine r_iconst hx hb dL_refuses_162 ?_
  refine lv_iload hx hb dL_refuses_163 (lv_at hl 1 rfl) ?_
  refine r_iconst hx hb dL_refuses_165 ?_
  refine q_LS (As := [.ref y0, .int (iI (4)), .int (iI (0)), .int (iI (4)), .int (iI (0))]) (rest := []) (wr := []) S (c_L_act_4r l hst D cI cL tw (y0) (y2) (b) (pq) (cq) (tu) (ph) (mo) (gc) (P) (C) (0) (4) (0) (by omega) (by omega) (by omega) (by omega) (by omega) (by omega) (by omega) (by omega) (by omega)) (-901) (()) (fun z u h => ⟨by (try dsimp only at h); omega, rfl⟩) gL_refuses_L_act rfl rfl rfl f_L_act hR (Nat.le_of_ble_eq_true rfl) (Nat.le_of_ble_eq_true rfl) (hE.kept hS.2.1) hP hD hS hA [0, 1, 2, 3, 4] [] rfl rfl (by decide) rfl (by decide) (by decide) rfl hl.1 rfl (Nat.le_of_ble_eq_true rfl) dL_refuses_166 ⟨Nat.le_trans (Nat.le_of_ble_eq_true rfl) hRc.1, Nat.le_trans (Nat.le_of_ble_eq_true rfl) hRc.2⟩ (fun H locs hP hD hS => ?_)
  have hP : va_P D vwCl [(y0, .inr (1, [.ref b, .ref y2, .int (iI (tu)), .int (iI (gc)), .int (iI (ph)), .int (iI (mo))])), (y2, .inl (cI, 4, .inl (aI C))), (b, .inr (0, [.ref pq, .ref cq])), (pq, .inl (cI, 16, .inl (aI P))), (cq, .inl (cI, 136, .inl (aI (cnt P))))] H := hP
  have hD : va_D A [(y0, .inr (1, [.ref b, .ref y2, .int (iI (tu)), .int (iI (gc)), .int (iI (ph)), .int (iI (mo))])), (y2, .inl (cI, 4, .inl (aI C))), (b, .inr (0, [.ref pq, .ref cq])), (pq, .inl (cI, 16, .inl (aI P))), (cq, .inl (cI, 136, .inl (aI (cnt P))))] := hD
  refine r_sipush hx hb dL_refuses_169 (by decide) ?_
  refine r_icmp_ne (tgt := 433) hx hb dL_refuses_172 (by decide) (by unfold rI; decide) (by unfold rI; decide) (fun h9 => absurd h9 (by omega)) (fun h172 => ?_)
  refine lv_aload_n hx hb dL_refuses_175 rfl (lv_at hl 8 rfl) ?_
  refine r_iconst hx hb dL_refuses_176 ?_
  refine lv_iload hx hb dL_refuses_177 (lv_at hl 3 rfl) ?_
  refine r_iconst hx hb dL_refuses_179 ?_
  refine r_icmp_ne (tgt := 188) hx hb dL_refuses_180 (by decide) (by unfold rI; decide) (by unfold rI; decide) (fun h9 => absurd h9 (by omega)) (fun h180 => ?_)
  refine r_bipush hx hb dL_refuses_183 (by decide) ?_
  refine lv_goto (tgt := 190) hx hb dL_refuses_185 (by decide) ?_
  refine r_iconst hx hb dL_refuses_190 ?_
  refine r_iconst hx hb dL_refuses_191 ?_
  refine q_LS (As := [.ref y0, .int (iI (5)), .int (iI (68)), .int (iI (2)), .int (iI (0))]) (rest := []) (wr := []) S (c_L_act_5r l hst D cI cL tw (y0) (y2) (b) (pq) (cq) (tu) (ph) (mo) (gc) (P) (C) (68) (2) (0) (by omega) (by omega) (by omega) (by omega) (by omega) (by omega) (by omega) (by omega) (by omega)) (-901) (()) (fun z u h => ⟨by (try dsimp only at h); omega, rfl⟩) gL_refuses_L_act rfl rfl rfl f_L_act hR (Nat.le_of_ble_eq_true rfl) (Nat.le_of_ble_eq_true rfl) (hE.kept hS.2.1) hP hD hS hA [0, 1, 2, 3, 4] [] rfl rfl (by decide) rfl (by decide) (by decide) rfl hl.1 rfl (Nat.le_of_ble_eq_true rfl) dL_refuses_192 ⟨Nat.le_trans (Nat.le_of_ble_eq_true rfl) hRc.1, Nat.le_trans (Nat.le_of_ble_eq_true rfl) hRc.2⟩ (fun H locs hP hD hS => ?_)
  have hP : va_P D vwCl [(y0, .inr (1, [.ref b, .ref y2, .int (iI (tu)), .int (iI (gc)), .int (iI (ph)), .int (iI (mo))])), (y2, .inl (cI, 4, .inl (aI C))), (b, .inr (0, [.ref pq, .ref cq])), (pq, .inl (cI, 16, .inl (aI P))), (cq, .inl (cI, 136, .inl (aI (cnt P))))] H := hP
  have hD : va_D A [(y0, .inr (1, [.ref b, .ref y2, .int (iI (tu)), .int (iI (gc)), .int (iI (ph)), .int (iI (mo))])), (y2, .inl (cI, 4, .inl (aI C))), (b, .inr (0, [.ref pq, .ref cq])), (pq, .inl (cI, 16, .inl (aI P))), (cq, .inl (cI, 136, .inl (aI (cnt P))))] := hD
  refine r_sipush hx hb dL_refuses_195 (by decide) ?_
  refine r_icmp_ne (tgt := 433) hx hb dL_refuses_198 (by decide) (by unfold rI; decide) (by unfold rI; decide) (fun h9 => absurd h9 (by omega)) (fun h198 => ?_)
  refine lv_aload_n hx hb dL_refuses_201 rfl (lv_at hl 8 rfl) ?_
  refine r_iconst hx hb dL_refuses_202 ?_
  refine r_iconst hx hb dL_refuses_203 ?_
  refine lv_iload hx hb dL_refuses_204 (lv_at hl 3 rfl) ?_
  refine r_iconst hx hb dL_refuses_206 ?_
  refine r_icmp_ne (tgt := 214) hx hb dL_refuses_207 (by decide) (by unfold rI; decide) (by unfold rI; decide) (fun h9 => absurd h9 (by omega)) (fun h207 => ?_)
  refine r_iconst hx hb dL_refuses_210 ?_
  refine lv_goto (tgt := 216) hx hb dL_refuses_211 (by decide) ?_
  refine r_iconst hx hb dL_refuses_216 ?_
  refine q_LS (As := [.ref y0, .int (iI (5)), .int (iI (0)), .int (iI (2)), .int (iI (0))]) (rest := []) (wr := []) S (c_L_act_5r l hst D cI cL tw (y0) (y2) (b) (pq) (cq) (tu) (ph) (mo) (gc) (P) (C) (0) (2) (0) (by omega) (by omega) (by omega) (by omega) (by omega) (by omega) (by omega) (by omega) (by omega)) (-902) (()) (fun z u h => ⟨by (try dsimp only at h); omega, rfl⟩) gL_refuses_L_act rfl rfl rfl f_L_act hR (Nat.le_of_ble_eq_true rfl) (Nat.le_of_ble_eq_true rfl) (hE.kept hS.2.1) hP hD hS hA [0, 1, 2, 3, 4] [] rfl rfl (by decide) rfl (by decide) (by decide) rfl hl.1 rfl (Nat.le_of_ble_eq_true rfl) dL_refuses_217 ⟨Nat.le_trans (Nat.le_of_ble_eq_true rfl) hRc.1, Nat.le_trans (Nat.le_of_ble_eq_true rfl) hRc.2⟩ (fun H locs hP hD hS => ?_)
  have hP : va_P D vwCl [(y0, .inr (1, [.ref b, .ref y2, .int (iI (tu)), .int (iI (gc)), .int (iI (ph)), .int (iI (mo))])), (y2, .inl (cI, 4, .inl (aI C))), (b, .inr (0, [.ref pq, .ref cq])), (pq, .inl (cI, 16, .inl (aI P))), (cq, .inl (cI, 136, .inl (aI (cnt P))))] H := hP
  have hD : va_D A [(y0, .inr (1, [.ref b, .ref y2, .int (iI (tu)), .int (iI (gc)), .int (iI (ph)), .int (iI (mo))])), (y2, .inl (cI, 4, .inl (aI C))), (b, .inr (0, [.ref pq, .ref cq])), (pq, .inl (cI, 16, .inl (aI P))), (cq, .inl (cI, 136, .inl (aI (cnt P))))] := hD
  refine r_sipush hx hb dL_refuses_220 (by decide) ?_
  refine r_icmp_ne (tgt := 433) hx hb dL_refuses_223 (by decide) (by unfold rI; decide) (by unfold rI; decide) (fun h9 => absurd h9 (by omega)) (fun h223 => ?_)
  refine lv_aload_n hx hb dL_refuses_226 rfl (lv_at hl 8 rfl) ?_
  refine r_bipush hx hb dL_refuses_227 (by decide) ?_
  refine lv_iload hx hb dL_refuses_229 (lv_at hl 3 rfl) ?_
  refine r_iconst hx hb dL_refuses_231 ?_
  refine r_icmp_ne (tgt := 240) hx hb dL_refuses_232 (by decide) (by unfold rI; decide) (by unfold rI; decide) (fun h9 => absurd h9 (by omega)) (fun h232 => ?_)
  refine r_bipush hx hb dL_refuses_235 (by decide) ?_
  refine lv_goto (tgt := 242) hx hb dL_refuses_237 (by decide) ?_
  refine r_iconst hx hb dL_refuses_242 ?_
  refine r_iconst hx hb dL_refuses_243 ?_
  refine q_LS (As := [.ref y0, .int (iI (6)), .int (iI (68)), .int (iI (0)), .int (iI (0))]) (rest := []) (wr := []) S (c_L_act_6r l hst D cI cL tw (y0) (y2) (b) (pq) (cq) (tu) (ph) (mo) (gc) (P) (C) (68) (0) (0) (by omega) (by omega) (by omega) (by omega) (by omega) (by omega) (by omega) (by omega) (by omega)) (-901) (()) (fun z u h => ⟨by (try dsimp only at h); omega, rfl⟩) gL_refuses_L_act rfl rfl rfl f_L_act hR (Nat.le_of_ble_eq_true rfl) (Nat.le_of_ble_eq_true rfl) (hE.kept hS.2.1) hP hD hS hA [0, 1, 2, 3, 4] [] rfl rfl (by decide) rfl (by decide) (by decide) rfl hl.1 rfl (Nat.le_of_ble_eq_true rfl) dL_refuses_244 ⟨Nat.le_trans (Nat.le_of_ble_eq_true rfl) hRc.1, Nat.le_trans (Nat.le_of_ble_eq_true rfl) hRc.2⟩ (fun H locs hP hD hS => ?_)
  have hP : va_P D vwCl [(y0, .inr (1, [.ref b, .ref y2, .int (iI (tu)), .int (iI (gc)), .int (iI (ph)), .int (iI (mo))])), (y2, .inl (cI, 4, .inl (aI C))), (b, .inr (0, [.ref pq, .ref cq])), (pq, .inl (cI, 16, .inl (aI P))), (cq, .inl (cI, 136, .inl (aI (cnt P))))] H := hP
  have hD : va_D A [(y0, .inr (1, [.ref b, .ref y2, .int (iI (tu)), .int (iI (gc)), .int (iI (ph)), .int (iI (mo))])), (y2, .inl (cI, 4, .inl (aI C))), (b, .inr (0, [.ref pq, .ref cq])), (pq, .inl (cI, 16, .inl (aI P))), (cq, .inl (cI, 136, .inl (aI (cnt P))))] := hD
  refine r_sipush hx hb dL_refuses_247 (by decide) ?_
  refine r_icmp_ne (tgt := 433) hx hb dL_refuses_250 (by decide) (by unfold rI; decide) (by unfold rI; decide) (fun h9 => absurd h9 (by omega)) (fun h250 => ?_)
  refine lv_aload_n hx hb dL_refuses_253 rfl (lv_at hl 8 rfl) ?_
  refine r_bipush hx hb dL_refuses_254 (by decide) ?_
  refine lv_iload hx hb dL_refuses_256 (lv_at hl 1 rfl) ?_
  refine r_iconst hx hb dL_refuses_258 ?_
  refine r_iconst hx hb dL_refuses_259 ?_
  refine q_LS (As := [.ref y0, .int (iI (7)), .int (iI (4)), .int (iI (0)), .int (iI (0))]) (rest := []) (wr := []) S (c_L_act_7r l hst D cI cL tw (y0) (y2) (b) (pq) (cq) (tu) (ph) (mo) (gc) (P) (C) (4) (0) (0) (by omega) (by omega) (by omega) (by omega) (by omega) (by omega) (by omega) (by omega) (by omega)) (-901) (()) (fun z u h => ⟨by (try dsimp only at h); omega, rfl⟩) gL_refuses_L_act rfl rfl rfl f_L_act hR (Nat.le_of_ble_eq_true rfl) (Nat.le_of_ble_eq_true rfl) (hE.kept hS.2.1) hP hD hS hA [0, 1, 2, 3, 4] [] rfl rfl (by decide) rfl (by decide) (by decide) rfl hl.1 rfl (Nat.le_of_ble_eq_true rfl) dL_refuses_260 ⟨Nat.le_trans (Nat.le_of_ble_eq_true rfl) hRc.1, Nat.le_trans (Nat.le_of_ble_eq_true rfl) hRc.2⟩ (fun H locs hP hD hS => ?_)
  have hP : va_P D vwCl [(y0, .inr (1, [.ref b, .ref y2, .int (iI (tu)), .int (iI (gc)), .int (iI (ph)), .int (iI (mo))])), (y2, .inl (cI, 4, .inl (aI C))), (b, .inr (0, [.ref pq, .ref cq])), (pq, .inl (cI, 16, .inl (aI P))), (cq, .inl (cI, 136, .inl (aI (cnt P))))] H := hP
  have hD : va_D A [(y0, .inr (1, [.ref b, .ref y2, .int (iI (tu)), .int (iI (gc)), .int (iI (ph)), .int (iI (mo))])), (y2, .inl (cI, 4, .inl (aI C))), (b, .inr (0, [.ref pq, .ref cq])), (pq, .inl (cI, 16, .inl (aI P))), (cq, .inl (cI, 136, .inl (aI (cnt P))))] := hD
  refine r_sipush hx hb dL_refuses_263 (by decide) ?_
  refine r_icmp_ne (tgt := 433) hx hb dL_refuses_266 (by decide) (by unfold rI; decide) (by unfold rI; decide) (fun h9 => absurd h9 (by omega)) (fun h266 => ?_)
  refine lv_aload_n hx hb dL_refuses_269 rfl (lv_at hl 8 rfl) ?_
  refine r_bipush hx hb dL_refuses_270 (by decide) ?_
  refine lv_iload hx hb dL_refuses_272 (lv_at hl 1 rfl) ?_
  refine r_iconst hx hb dL_refuses_274 ?_
  refine r_iconst hx hb dL_refuses_275 ?_
  refine q_LS (As := [.ref y0, .int (iI (8)), .int (iI (4)), .int (iI (0)), .int (iI (0))]) (rest := []) (wr := []) S (c_L_act_8r l hst D cI cL tw (y0) (y2) (b) (pq) (cq) (tu) (ph) (mo) (gc) (P) (C) (4) (0) (0) (by omega) (by omega) (by omega) (by omega) (by omega) (by omega) (by omega) (by omega) (by omega)) (-901) (()) (fun z u h => ⟨by (try dsimp only at h); omega, rfl⟩) gL_refuses_L_act rfl rfl rfl f_L_act hR (Nat.le_of_ble_eq_true rfl) (Nat.le_of_ble_eq_true rfl) (hE.kept hS.2.1) hP hD hS hA [0, 1, 2, 3, 4] [] rfl rfl (by decide) rfl (by decide) (by decide) rfl hl.1 rfl (Nat.le_of_ble_eq_true rfl) dL_refuses_276 ⟨Nat.le_trans (Nat.le_of_ble_eq_true rfl) hRc.1, Nat.le_trans (Nat.le_of_ble_eq_true rfl) hRc.2⟩ (fun H locs hP hD hS => ?_)
  have hP : va_P D vwCl [(y0, .inr (1, [.ref b, .ref y2, .int (iI (tu)), .int (iI (gc)), .int (iI (ph)), .int (iI (mo))])), (y2, .inl (cI, 4, .inl (aI C))), (b, .inr (0, [.ref pq, .ref cq])), (pq, .inl (cI, 16, .inl (aI P))), (cq, .inl (cI, 136, .inl (aI (cnt P))))] H := hP
  have hD : va_D A [(y0, .inr (1, [.ref b, .ref y2, .int (iI (tu)), .int (iI (gc)), .int (iI (ph)), .int (iI (mo))])), (y2, .inl (cI, 4, .inl (aI C))), (b, .inr (0, [.ref pq, .ref cq])), (pq, .inl (cI, 16, .inl (aI P))), (cq, .inl (cI, 136, .inl (aI (cnt P))))] := hD
  refine r_sipush hx hb dL_refuses_279 (by decide) ?_
  refine r_icmp_ne (tgt := 433) hx hb dL_refuses_282 (by decide) (by unfold rI; decide) (by unfold rI; decide) (fun h9 => absurd h9 (by omega)) (fun h282 => ?_)
  refine lv_aload_n hx hb dL_refuses_285 rfl (lv_at hl 8 rfl) ?_
  refine r_bipush hx hb dL_refuses_286 (by decide) ?_
  refine lv_iload hx hb dL_refuses_288 (lv_at hl 3 rfl) ?_
  refine r_iconst hx hb dL_refuses_290 ?_
  refine r_icmp_ne (tgt := 298) hx hb dL_refuses_291 (by decide) (by unfold rI; decide) (by unfold rI; decide) (fun h9 => absurd h9 (by omega)) (fun h291 => ?_)
  refine r_iconst hx hb dL_refuses_294 ?_
  refine lv_goto (tgt := 300) hx hb dL_refuses_295 (by decide) ?_
  refine r_iconst hx hb dL_refuses_300 ?_
  refine r_iconst hx hb dL_refuses_301 ?_
  refine q_LS (As := [.ref y0, .int (iI (9)), .int (iI (2)), .int (iI (0)), .int (iI (0))]) (rest := []) (wr := []) S (c_L_act_9r l hst D cI cL tw (y0) (y2) (b) (pq) (cq) (tu) (ph) (mo) (gc) (P) (C) (2) (0) (0) (by omega) (by omega) (by omega) (by omega) (by omega) (by omega) (by omega) (by omega) (by omega)) (-902) (()) (fun z u h => ⟨by (try dsimp only at h); omega, rfl⟩) gL_refuses_L_act rfl rfl rfl f_L_act hR (Nat.le_of_ble_eq_true rfl) (Nat.le_of_ble_eq_true rfl) (hE.kept hS.2.1) hP hD hS hA [0, 1, 2, 3, 4] [] rfl rfl (by decide) rfl (by decide) (by decide) rfl hl.1 rfl (Nat.le_of_ble_eq_true rfl) dL_refuses_302 ⟨Nat.le_trans (Nat.le_of_ble_eq_true rfl) hRc.1, Nat.le_trans (Nat.le_of_ble_eq_true rfl) hRc.2⟩ (fun H locs hP hD hS => ?_)
  have hP : va_P D vwCl [(y0, .inr (1, [.ref b, .ref y2, .int (iI (tu)), .int (iI (gc)), .int (iI (ph)), .int (iI (mo))])), (y2, .inl (cI, 4, .inl (aI C))), (b, .inr (0, [.ref pq, .ref cq])), (pq, .inl (cI, 16, .inl (aI P))), (cq, .inl (cI, 136, .inl (aI (cnt P))))] H := hP
  have hD : va_D A [(y0, .inr (1, [.ref b, .ref y2, .int (iI (tu)), .int (iI (gc)), .int (iI (ph)), .int (iI (mo))])), (y2, .inl (cI, 4, .inl (aI C))), (b, .inr (0, [.ref pq, .ref cq])), (pq, .inl (cI, 16, .inl (aI P))), (cq, .inl (cI, 136, .inl (aI (cnt P))))] := hD
  refine r_sipush hx hb dL_refuses_305 (by decide) ?_
  refine r_icmp_ne (tgt := 433) hx hb dL_refuses_308 (by decide) (by unfold rI; decide) (by unfold rI; decide) (fun h9 => absurd h9 (by omega)) (fun h308 => ?_)
  refine lv_aload_n hx hb dL_refuses_311 rfl (lv_at hl 8 rfl) ?_
  refine r_bipush hx hb dL_refuses_312 (by decide) ?_
  refine lv_iload hx hb dL_refuses_314 (lv_at hl 1 rfl) ?_
  refine r_iconst hx hb dL_refuses_316 ?_
  refine r_iconst hx hb dL_refuses_317 ?_
  refine q_LS (As := [.ref y0, .int (iI (10)), .int (iI (4)), .int (iI (0)), .int (iI (0))]) (rest := []) (wr := []) S (c_L_act_10r l hst D cI cL tw (y0) (y2) (b) (pq) (cq) (tu) (ph) (mo) (gc) (P) (C) (4) (0) (0) (by omega) (by omega) (by omega) (by omega) (by omega) (by omega) (by omega) (by omega) (by omega)) (-902) (()) (fun z u h => ⟨by (try dsimp only at h); omega, rfl⟩) gL_refuses_L_act rfl rfl rfl f_L_act hR (Nat.le_of_ble_eq_true rfl) (Nat.le_of_ble_eq_true rfl) (hE.kept hS.2.1) hP hD hS hA [0, 1, 2, 3, 4] [] rfl rfl (by decide) rfl (by decide) (by decide) rfl hl.1 rfl (Nat.le_of_ble_eq_true rfl) dL_refuses_318 ⟨Nat.le_trans (Nat.le_of_ble_eq_true rfl) hRc.1, Nat.le_trans (Nat.le_of_ble_eq_true rfl) hRc.2⟩ (fun H locs hP hD hS => ?_)
  have hP : va_P D vwCl [(y0, .inr (1, [.ref b, .ref y2, .int (iI (tu)), .int (iI (gc)), .int (iI (ph)), .int (iI (mo))])), (y2, .inl (cI, 4, .inl (aI C))), (b, .inr (0, [.ref pq, .ref cq])), (pq, .inl (cI, 16, .inl (aI P))), (cq, .inl (cI, 136, .inl (aI (cnt P))))] H := hP
  have hD : va_D A [(y0, .inr (1, [.ref b, .ref y2, .int (iI (tu)), .int (iI (gc)), .int (iI (ph)), .int (iI (mo))])), (y2, .inl (cI, 4, .inl (aI C))), (b, .inr (0, [.ref pq, .ref cq])), (pq, .inl (cI, 16, .inl (aI P))), (cq, .inl (cI, 136, .inl (aI (cnt P))))] := hD
  refine r_sipush hx hb dL_refuses_321 (by decide) ?_
  refine r_icmp_ne (tgt := 433) hx hb dL_refuses_324 (by decide) (by unfold rI; decide) (by unfold rI; decide) (fun h9 => absurd h9 (by omega)) (fun h324 => ?_)
  refine lv_aload_n hx hb dL_refuses_327 rfl (lv_at hl 8 rfl) ?_
  refine r_bipush hx hb dL_refuses_328 (by decide) ?_
  refine lv_iload hx hb dL_refuses_330 (lv_at hl 1 rfl) ?_
  refine r_iconst hx hb dL_refuses_332 ?_
  refine r_iconst hx hb dL_refuses_333 ?_
  refine q_LS (As := [.ref y0, .int (iI (11)), .int (iI (4)), .int (iI (0)), .int (iI (1))]) (rest := []) (wr := []) S (c_L_act_11r l hst D cI cL tw (y0) (y2) (b) (pq) (cq) (tu) (ph) (mo) (gc) (P) (C) (4) (0) (1) (by omega) (by omega) (by omega) (by omega) (by omega) (by omega) (by omega) (by omega) (by omega)) (-901) (()) (fun z u h => ⟨by (try dsimp only at h); omega, rfl⟩) gL_refuses_L_act rfl rfl rfl f_L_act hR (Nat.le_of_ble_eq_true rfl) (Nat.le_of_ble_eq_true rfl) (hE.kept hS.2.1) hP hD hS hA [0, 1, 2, 3, 4] [] rfl rfl (by decide) rfl (by decide) (by decide) rfl hl.1 rfl (Nat.le_of_ble_eq_true rfl) dL_refuses_334 ⟨Nat.le_trans (Nat.le_of_ble_eq_true rfl) hRc.1, Nat.le_trans (Nat.le_of_ble_eq_true rfl) hRc.2⟩ (fun H locs hP hD hS => ?_)
  have hP : va_P D vwCl [(y0, .inr (1, [.ref b, .ref y2, .int (iI (tu)), .int (iI (gc)), .int (iI (ph)), .int (iI (mo))])), (y2, .inl (cI, 4, .inl (aI C))), (b, .inr (0, [.ref pq, .ref cq])), (pq, .inl (cI, 16, .inl (aI P))), (cq, .inl (cI, 136, .inl (aI (cnt P))))] H := hP
  have hD : va_D A [(y0, .inr (1, [.ref b, .ref y2, .int (iI (tu)), .int (iI (gc)), .int (iI (ph)), .int (iI (mo))])), (y2, .inl (cI, 4, .inl (aI C))), (b, .inr (0, [.ref pq, .ref cq])), (pq, .inl (cI, 16, .inl (aI P))), (cq, .inl (cI, 136, .inl (aI (cnt P))))] := hD
  refine r_sipush hx hb dL_refuses_337 (by decide) ?_
  refine r_icmp_ne (tgt := 433) hx hb dL_refuses_340 (by decide) (by unfold rI; decide) (by unfold rI; decide) (fun h9 => absurd h9 (by omega)) (fun h340 => ?_)
  refine lv_aload_n hx hb dL_refuses_343 rfl (lv_at hl 8 rfl) ?_
  refine r_bipush hx hb dL_refuses_344 (by decide) ?_
  refine r_iconst hx hb dL_refuses_346 ?_
  refine lv_iload hx hb dL_refuses_347 (lv_at hl 1 rfl) ?_
  refine r_iconst hx hb dL_refuses_349 ?_
  refine q_LS (As := [.ref y0, .int (iI (11)), .int (iI (0)), .int (iI (4)), .int (iI (0))]) (rest := []) (wr := []) S (c_L_act_11r l hst D cI cL tw (y0) (y2) (b) (pq) (cq) (tu) (ph) (mo) (gc) (P) (C) (0) (4) (0) (by omega) (by omega) (by omega) (by omega) (by omega) (by omega) (by omega) (by omega) (by omega)) (-901) (()) (fun z u h => ⟨by (try dsimp only at h); omega, rfl⟩) gL_refuses_L_act rfl rfl rfl f_L_act hR (Nat.le_of_ble_eq_true rfl) (Nat.le_of_ble_eq_true rfl) (hE.kept hS.2.1) hP hD hS hA [0, 1, 2, 3, 4] [] rfl rfl (by decide) rfl (by decide) (by decide) rfl hl.1 rfl (Nat.le_of_ble_eq_true rfl) dL_refuses_350 ⟨Nat.le_trans (Nat.le_of_ble_eq_true rfl) hRc.1, Nat.le_trans (Nat.le_of_ble_eq_true rfl) hRc.2⟩ (fun H locs hP hD hS => ?_)
  have hP : va_P D vwCl [(y0, .inr (1, [.ref b, .ref y2, .int (iI (tu)), .int (iI (gc)), .int (iI (ph)), .int (iI (mo))])), (y2, .inl (cI, 4, .inl (aI C))), (b, .inr (0, [.ref pq, .ref cq])), (pq, .inl (cI, 16, .inl (aI P))), (cq, .inl (cI, 136, .inl (aI (cnt P))))] H := hP
  have hD : va_D A [(y0, .inr (1, [.ref b, .ref y2, .int (iI (tu)), .int (iI (gc)), .int (iI (ph)), .int (iI (mo))])), (y2, .inl (cI, 4, .inl (aI C))), (b, .inr (0, [.ref pq, .ref cq])), (pq, .inl (cI, 16, .inl (aI P))), (cq, .inl (cI, 136, .inl (aI (cnt P))))] := hD
  refine r_sipush hx hb dL_refuses_353 (by decide) ?_
  refine r_icmp_ne (tgt := 433) hx hb dL_refuses_356 (by decide) (by unfold rI; decide) (by unfold rI; decide) (fun h9 => absurd h9 (by omega)) (fun h356 => ?_)
  refine lv_aload_n hx hb dL_refuses_359 rfl (lv_at hl 8 rfl) ?_
  refine r_bipush hx hb dL_refuses_360 (by decide) ?_
  refine r_iconst hx hb dL_refuses_362 ?_
  refine r_iconst hx hb dL_refuses_363 ?_
  refine lv_iload hx hb dL_refuses_364 (lv_at hl 1 rfl) ?_
  refine q_LS (As := [.ref y0, .int (iI (11)), .int (iI (0)), .int (iI (0)), .int (iI (4))]) (rest := []) (wr := []) S (c_L_act_11r l hst D cI cL tw (y0) (y2) (b) (pq) (cq) (tu) (ph) (mo) (gc) (P) (C) (0) (0) (4) (by omega) (by omega) (by omega) (by omega) (by omega) (by omega) (by omega) (by omega) (by omega)) (-902) (()) (fun z u h => ⟨by (try dsimp only at h); omega, rfl⟩) gL_refuses_L_act rfl rfl rfl f_L_act hR (Nat.le_of_ble_eq_true rfl) (Nat.le_of_ble_eq_true rfl) (hE.kept hS.2.1) hP hD hS hA [0, 1, 2, 3, 4] [] rfl rfl (by decide) rfl (by decide) (by decide) rfl hl.1 rfl (Nat.le_of_ble_eq_true rfl) dL_refuses_366 ⟨Nat.le_trans (Nat.le_of_ble_eq_true rfl) hRc.1, Nat.le_trans (Nat.le_of_ble_eq_true rfl) hRc.2⟩ (fun H locs hP hD hS => ?_)
  have hP : va_P D vwCl [(y0, .inr (1, [.ref b, .ref y2, .int (iI (tu)), .int (iI (gc)), .int (iI (ph)), .int (iI (mo))])), (y2, .inl (cI, 4, .inl (aI C))), (b, .inr (0, [.ref pq, .ref cq])), (pq, .inl (cI, 16, .inl (aI P))), (cq, .inl (cI, 136, .inl (aI (cnt P))))] H := hP
  have hD : va_D A [(y0, .inr (1, [.ref b, .ref y2, .int (iI (tu)), .int (iI (gc)), .int (iI (ph)), .int (iI (mo))])), (y2, .inl (cI, 4, .inl (aI C))), (b, .inr (0, [.ref pq, .ref cq])), (pq, .inl (cI, 16, .inl (aI P))), (cq, .inl (cI, 136, .inl (aI (cnt P))))] := hD
  refine r_sipush hx hb dL_refuses_369 (by decide) ?_
  refine r_icmp_ne (tgt := 433) hx hb dL_refuses_372 (by decide) (by unfold rI; decide) (by unfold rI; decide) (fun h9 => absurd h9 (by omega)) (fun h372 => ?_)
  refine lv_aload_n hx hb dL_refuses_375 rfl (lv_at hl 8 rfl) ?_
  refine r_bipush hx hb dL_refuses_376 (by decide) ?_
  refine lv_iload hx hb dL_refuses_378 (lv_at hl 3 rfl) ?_
  refine r_iconst hx hb dL_refuses_380 ?_
  refine lv_iload hx hb dL_refuses_381 (lv_at hl 3 rfl) ?_
  refine r_iconst hx hb dL_refuses_383 ?_
  refine r_iadd hx hb dL_refuses_384 ?_
  refine r_top (3) (by decide) ?_
  refine r_iconst hx hb dL_refuses_385 ?_
  refine r_irem hx hb dL_refuses_386 (by omega) (by omega) ?_
  refine r_top (3) (by decide) ?_
  refine q_LS (As := [.ref y0, .int (iI (11)), .int (iI (1)), .int (iI (0)), .int (iI (3))]) (rest := []) (wr := []) S (c_L_act_11r l hst D cI cL tw (y0) (y2) (b) (pq) (cq) (tu) (ph) (mo) (gc) (P) (C) (1) (0) (3) (by omega) (by omega) (by omega) (by omega) (by omega) (by omega) (by omega) (by omega) (by omega)) (-902) (()) (fun z u h => ⟨by (try dsimp only at h); omega, rfl⟩) gL_refuses_L_act rfl rfl rfl f_L_act hR (Nat.le_of_ble_eq_true rfl) (Nat.le_of_ble_eq_true rfl) (hE.kept hS.2.1) hP hD hS hA [0, 1, 2, 3, 4] [] rfl rfl (by decide) rfl (by decide) (by decide) rfl hl.1 rfl (Nat.le_of_ble_eq_true rfl) dL_refuses_387 ⟨Nat.le_trans (Nat.le_of_ble_eq_true rfl) hRc.1, Nat.le_trans (Nat.le_of_ble_eq_true rfl) hRc.2⟩ (fun H locs hP hD hS => ?_)
  have hP : va_P D vwCl [(y0, .inr (1, [.ref b, .ref y2, .int (iI (tu)), .int (iI (gc)), .int (iI (ph)), .int (iI (mo))])), (y2, .inl (cI, 4, .inl (aI C))), (b, .inr (0, [.ref pq, .ref cq])), (pq, .inl (cI, 16, .inl (aI P))), (cq, .inl (cI, 136, .inl (aI (cnt P))))] H := hP
  have hD : va_D A [(y0, .inr (1, [.ref b, .ref y2, .int (iI (tu)), .int (iI (gc)), .int (iI (ph)), .int (iI (mo))])), (y2, .inl (cI, 4, .inl (aI C))), (b, .inr (0, [.ref pq, .ref cq])), (pq, .inl (cI, 16, .inl (aI P))), (cq, .inl (cI, 136, .inl (aI (cnt P))))] := hD
  refine r_sipush hx hb dL_refuses_390 (by decide) ?_
  refine r_icmp_ne (tgt := 433) hx hb dL_refuses_393 (by decide) (by unfold rI; decide) (by unfold rI; decide) (fun h9 => absurd h9 (by omega)) (fun h393 => ?_)
  refine lv_aload_n hx hb dL_refuses_396 rfl (lv_at hl 8 rfl) ?_
  refine r_bipush hx hb dL_refuses_397 (by decide) ?_
  refine lv_iload hx hb dL_refuses_399 (lv_at hl 3 rfl) ?_
  refine r_iconst hx hb dL_refuses_401 ?_
  refine lv_iload hx hb dL_refuses_402 (lv_at hl 3 rfl) ?_
  refine q_LS (As := [.ref y0, .int (iI (11)), .int (iI (1)), .int (iI (0)), .int (iI (1))]) (rest := []) (wr := []) S (c_L_act_11r l hst D cI cL tw (y0) (y2) (b) (pq) (cq) (tu) (ph) (mo) (gc) (P) (C) (1) (0) (1) (by omega) (by omega) (by omega) (by omega) (by omega) (by omega) (by omega) (by omega) (by omega)) (-902) (()) (fun z u h => ⟨by (try dsimp only at h); omega, rfl⟩) gL_refuses_L_act rfl rfl rfl f_L_act hR (Nat.le_of_ble_eq_true rfl) (Nat.le_of_ble_eq_true rfl) (hE.kept hS.2.1) hP hD hS hA [0, 1, 2, 3, 4] [] rfl rfl (by decide) rfl (by decide) (by decide) rfl hl.1 rfl (Nat.le_of_ble_eq_true rfl) dL_refuses_404 ⟨Nat.le_trans (Nat.le_of_ble_eq_true rfl) hRc.1, Nat.le_trans (Nat.le_of_ble_eq_true rfl) hRc.2⟩ (fun H locs hP hD hS => ?_)
  have hP : va_P D vwCl [(y0, .inr (1, [.ref b, .ref y2, .int (iI (tu)), .int (iI (gc)), .int (iI (ph)), .int (iI (mo))])), (y2, .inl (cI, 4, .inl (aI C))), (b, .inr (0, [.ref pq, .ref cq])), (pq, .inl (cI, 16, .inl (aI P))), (cq, .inl (cI, 136, .inl (aI (cnt P))))] H := hP
  have hD : va_D A [(y0, .inr (1, [.ref b, .ref y2, .int (iI (tu)), .int (iI (gc)), .int (iI (ph)), .int (iI (mo))])), (y2, .inl (cI, 4, .inl (aI C))), (b, .inr (0, [.ref pq, .ref cq])), (pq, .inl (cI, 16, .inl (aI P))), (cq, .inl (cI, 136, .inl (aI (cnt P))))] := hD
  refine r_sipush hx hb dL_refuses_407 (by decide) ?_
  refine r_icmp_ne (tgt := 433) hx hb dL_refuses_410 (by decide) (by unfold rI; decide) (by unfold rI; decide) (fun h9 => absurd h9 (by omega)) (fun h410 => ?_)
  refine lv_aload_n hx hb dL_refuses_413 rfl (lv_at hl 8 rfl) ?_
  refine r_bipush hx hb dL_refuses_414 (by decide) ?_
  refine lv_iload hx hb dL_refuses_416 (lv_at hl 0 rfl) ?_
  refine r_iconst hx hb dL_refuses_418 ?_
  refine r_iconst hx hb dL_refuses_419 ?_
  refine q_LS (As := [.ref y0, .int (iI (12)), .int (iI (4)), .int (iI (0)), .int (iI (0))]) (rest := []) (wr := []) S (c_L_act_12r l hst D cI cL tw (y0) (y2) (b) (pq) (cq) (tu) (ph) (mo) (gc) (P) (C) (4) (0) (0) (by omega) (by omega) (by omega) (by omega) (by omega) (by omega) (by omega) (by omega) (by omega)) (-902) (()) (fun z u h => ⟨by (try dsimp only at h); omega, rfl⟩) gL_refuses_L_act rfl rfl rfl f_L_act hR (Nat.le_of_ble_eq_true rfl) (Nat.le_of_ble_eq_true rfl) (hE.kept hS.2.1) hP hD hS hA [0, 1, 2, 3, 4] [] rfl rfl (by decide) rfl (by decide) (by decide) rfl hl.1 rfl (Nat.le_of_ble_eq_true rfl) dL_refuses_420 ⟨Nat.le_trans (Nat.le_of_ble_eq_true rfl) hRc.1, Nat.le_trans (Nat.le_of_ble_eq_true rfl) hRc.2⟩ (fun H locs hP hD hS => ?_)
  have hP : va_P D vwCl [(y0, .inr (1, [.ref b, .ref y2, .int (iI (tu)), .int (iI (gc)), .int (iI (ph)), .int (iI (mo))])), (y2, .inl (cI, 4, .inl (aI C))), (b, .inr (0, [.ref pq, .ref cq])), (pq, .inl (cI, 16, .inl (aI P))), (cq, .inl (cI, 136, .inl (aI (cnt P))))] H := hP
  have hD : va_D A [(y0, .inr (1, [.ref b, .ref y2, .int (iI (tu)), .int (iI (gc)), .int (iI (ph)), .int (iI (mo))])), (y2, .inl (cI, 4, .inl (aI C))), (b, .inr (0, [.ref pq, .ref cq])), (pq, .inl (cI, 16, .inl (aI P))), (cq, .inl (cI, 136, .inl (aI (cnt P))))] := hD
  refine r_sipush hx hb dL_refuses_423 (by decide) ?_
  refine r_icmp_ne (tgt := 433) hx hb dL_refuses_426 (by decide) (by unfold rI; decide) (by unfold rI; decide) (fun h9 => absurd h9 (by omega)) (fun h426 => ?_)
  refine r_iconst hx hb dL_refuses_429 ?_
  refine lv_goto (tgt := 434) hx hb dL_refuses_430 (by decide) ?_
  refine lv_istore (lv' := [(8, .int (iI (1))), (7, .int (iI (4))), (6, .int (iI (4))), (5, .int (iI (-2147483648))), (4, .int (iI (1))), (3, .int (iI (2147483647))), (2, .int (iI (tu))), (1, .int (iI (ph))), (0, .ref y0)]) hx hb dL_refuses_434 hl (by decide) rfl (fun ls hl => ?_)
  refine lv_iload hx hb dL_refuses_436 (lv_at hl 0 rfl) ?_
  refine r_if_ne (tgt := 443) hx hb dL_refuses_438 (by decide) (by unfold rI; decide) (fun h438 => ?_) (fun h9 => absurd h9 (by omega))
  refine lv_iinc (v := iI (2)) (lv' := [(4, .int (iI (2))), (8, .int (iI (1))), (7, .int (iI (4))), (6, .int (iI (4))), (5, .int (iI (-2147483648))), (3, .int (iI (2147483647))), (2, .int (iI (tu))), (1, .int (iI (ph))), (0, .ref y0)]) hx hb dL_refuses_443 hl (k := 4) rfl (by decide) (by decide) rfl (fun ls hl => ?_)
  refine lv_goto (tgt := 16) hx hb dL_refuses_446 (by decide) ?_
  exact sg_L_refuses_3 S hst hR hRc hE hA (y0) (y2) (b) (pq) (cq) (tu) (ph) (mo) (gc) (P) (C) hB htu hgc hph hmo hret hP hD hS hl
set_option maxHeartbeats 4000000 in
set_option maxRecDepth 100000 in
theorem sg_L_refuses_1 {p : Program} {l : Launch} {e : Env} {R : Room} {s : State} {mt : MethodId} {args : Array Value} {below : List Frame} {meth : Method} {c : Code} {H0 : Heap} {Q : State → Prop} {A : Nat → Prop} {D : va_G} {cI cL : ClassId} {tw : Nat} (S : CallFix p mt c cL_refuses 9 s args wsL_refuses RL) (hst : l.stackTraces = false) (hR : 14 ≤ R.frames ∧ 349 ≤ R.locals) (hRc : 155 ≤ R.cells ∧ 930 ≤ R.slots) (hE : EV D cI cL tw A s H0) (hA : ∀ q : Nat, H0.size ≤ q → A q) (y0 : Nat) (y2 : Nat) (b : Nat) (pq : Nat) (cq : Nat) (tu : Int) (ph : Int) (mo : Int) (gc : Int) (P : Int → Int) (C : Int → Int) (hB : ∀ i, 0 ≤ P i ∧ P i ≤ 72) (htu : 0 ≤ tu ∧ tu ≤ 3) (hgc : 0 ≤ gc ∧ gc ≤ 2) (hph : 0 ≤ ph ∧ ph ≤ 2) (hmo : 0 ≤ mo ∧ mo ≤ 6) (hret : ∀ (z : Int) (u : Unit) (pc : Nat) (ls : Array Slot) (H : Heap) (locs : List Loc) (cells slots : Nat), decode cL_refuses pc = .ok (.ireturn, 1) → (z = 1) → va_P D vwCl [(y0, .inr (1, [.ref b, .ref y2, .int (iI (tu)), .int (iI (gc)), .int (iI (ph)), .int (iI (mo))])), (y2, .inl (cI, 4, .inl (aI C))), (b, .inr (0, [.ref pq, .ref cq])), (pq, .inl (cI, 16, .inl (aI P))), (cq, .inl (cI, 136, .inl (aI (cnt P))))] H → va_D A [(y0, .inr (1, [.ref b, .ref y2, .int (iI (tu)), .int (iI (gc)), .int (iI (ph)), .int (iI (mo))])), (y2, .inl (cI, 4, .inl (aI C))), (b, .inr (0, [.ref pq, .ref cq])), (pq, .inl (cI, 16, .inl (aI P))), (cq, .inl (cI, 136, .inl (aI (cnt P))))] → va_S A H0 H locs → cells ≤ 155 → slots ≤ 930 → W p l e R s mt args below meth c H locs cells slots Q (F0 mt pc ls [.int (iI z)])) {H : Heap} {locs : List Loc} {ls : Array Slot} (hP : va_P D vwCl [(y0, .inr (1, [.ref b, .ref y2, .int (iI (tu)), .int (iI (gc)), .int (iI (ph)), .int (iI (mo))])), (y2, .inl (cI, 4, .inl (aI C))), (b, .inr (0, [.ref pq, .ref cq])), (pq, .inl (cI, 16, .inl (aI P))), (cq, .inl (cI, 136, .inl (aI (cnt P))))] H) (hD : va_D A [(y0, .inr (1, [.ref b, .ref y2, .int (iI (tu)), .int (iI (gc)), .int (iI (ph)), .int (iI (mo))])), (y2, .inl (cI, 4, .inl (aI C))), (b, .inr (0, [.ref pq, .ref cq])), (pq, .inl (cI, 16, .inl (aI P))), (cq, .inl (cI, 136, .inl (aI (cnt P))))]) (hS : va_S A H0 H locs) (hl : lv_has ls 9 [(4, .int (iI (0))), (3, .int (iI (2147483647))), (2, .int (iI (tu))), (1, .int (iI (ph))), (0, .ref y0)]) : W p l e R s mt args below meth c H locs 0 0 Q (F0 mt 16 ls []) := by
  obtain ⟨hx, hb, hml, hown, hts⟩ := id S
  refine lv_iload hx hb dL_refuses_16 (lv_at hl 0 rfl) ?_
  refine r_iconst hx hb dL_refuses_18 ?_
  refine r_icmp_ge (tgt := 449) hx hb dL_refuses_19 (by decide) (by unfold rI; decide) (by unfold rI; decide) (fun h9 => absurd h9 (by omega)) (fun h19 => ?_)
  refine lv_iload hx hb dL_refuses_22 (lv_at hl 0 rfl) ?_
  refine r_if_ne (tgt := 31) hx hb dL_refuses_24 (by decide) (by unfold rI; decide) (fun h9 => absurd h9 (by omega)) (fun h24 => ?_)
  refine r_iconst hx hb dL_refuses_27 ?_
  refine lv_goto (tgt := 45) hx hb dL_refuses_28 (by decide) ?_
  refine lv_istore (lv' := [(5, .int (iI (-1))), (4, .int (iI (0))), (3, .int (iI (2147483647))), (2, .int (iI (tu))), (1, .int (iI (ph))), (0, .ref y0)]) hx hb dL_refuses_45 hl (by decide) rfl (fun ls hl => ?_)
  refine lv_iload hx hb dL_refuses_47 (lv_at hl 1 rfl) ?_
  refine r_iconst hx hb dL_refuses_49 ?_
  refine r_icmp_ne (tgt := 57) hx hb dL_refuses_50 (by decide) (by unfold rI; decide) (by unfold rI; decide) (fun h50 => ?_) (fun h9 => absurd h9 (by omega))
  refine lv_iload hx hb dL_refuses_57 (lv_at hl 0 rfl) ?_
  refine lv_istore (lv' := [(6, .int (iI (-1))), (5, .int (iI (-1))), (4, .int (iI (0))), (3, .int (iI (2147483647))), (2, .int (iI (tu))), (1, .int (iI (ph))), (0, .ref y0)]) hx hb dL_refuses_59 hl (by decide) rfl (fun ls hl => ?_)
  refine lv_iload hx hb dL_refuses_61 (lv_at hl 2 rfl) ?_
  refine r_if_ne (tgt := 70) hx hb dL_refuses_63 (by decide) (by unfold rI; decide) (fun h9 => absurd h9 (by omega)) (fun h63 => ?_)
  refine r_iconst hx hb dL_refuses_66 ?_
  refine lv_goto (tgt := 72) hx hb dL_refuses_67 (by decide) ?_
  refine lv_istore (lv' := [(7, .int (iI (0))), (6, .int (iI (-1))), (5, .int (iI (-1))), (4, .int (iI (0))), (3, .int (iI (2147483647))), (2, .int (iI (tu))), (1, .int (iI (ph))), (0, .ref y0)]) hx hb dL_refuses_72 hl (by decide) rfl (fun ls hl => ?_)
  refine lv_aload_n hx hb dL_refuses_74 rfl (lv_at hl 7 rfl) ?_
  refine r_iconst hx hb dL_refuses_75 ?_
  refine lv_iload hx hb dL_refuses_76 (lv_at hl 3 rfl) ?_
  refine r_iconst hx hb dL_refuses_78 ?_
  refine r_icmp_ne (tgt := 87) hx hb dL_refuses_79 (by decide) (by unfold rI; decide) (by unfold rI; decide) (fun h79 => ?_) (fun h9 => absurd h9 (by omega))
  refine lv_iload hx hb dL_refuses_87 (lv_at hl 2 rfl) ?_
  refine r_iconst hx hb dL_refuses_89 ?_
  refine r_iconst hx hb dL_refuses_90 ?_
  refine q_LS (As := [.ref y0, .int (iI (0)), .int (iI (-1)), .int (iI (0)), .int (iI (0))]) (rest := []) (wr := []) S (c_L_act_0r l hst D cI cL tw (y0) (y2) (b) (pq) (cq) (tu) (ph) (mo) (gc) (P) (C) (-1) (0) (0) (by omega) (by omega) (by omega) (by omega) (by omega) (by omega) (by omega) (by omega) (by omega)) (-902) (()) (fun z u h => ⟨by (try dsimp only at h); omega, rfl⟩) gL_refuses_L_act rfl rfl rfl f_L_act hR (Nat.le_of_ble_eq_true rfl) (Nat.le_of_ble_eq_true rfl) (hE.kept hS.2.1) hP hD hS hA [0, 1, 2, 3, 4] [] rfl rfl (by decide) rfl (by decide) (by decide) rfl hl.1 rfl (Nat.le_of_ble_eq_true rfl) dL_refuses_91 ⟨Nat.le_trans (Nat.le_of_ble_eq_true rfl) hRc.1, Nat.le_trans (Nat.le_of_ble_eq_true rfl) hRc.2⟩ (fun H locs hP hD hS => ?_)
  have hP : va_P D vwCl [(y0, .inr (1, [.ref b, .ref y2, .int (iI (tu)), .int (iI (gc)), .int (iI (ph)), .int (iI (mo))])), (y2, .inl (cI, 4, .inl (aI C))), (b, .inr (0, [.ref pq, .ref cq])), (pq, .inl (cI, 16, .inl (aI P))), (cq, .inl (cI, 136, .inl (aI (cnt P))))] H := hP
  have hD : va_D A [(y0, .inr (1, [.ref b, .ref y2, .int (iI (tu)), .int (iI (gc)), .int (iI (ph)), .int (iI (mo))])), (y2, .inl (cI, 4, .inl (aI C))), (b, .inr (0, [.ref pq, .ref cq])), (pq, .inl (cI, 16, .inl (aI P))), (cq, .inl (cI, 136, .inl (aI (cnt P))))] := hD
  refine r_sipush hx hb dL_refuses_94 (by decide) ?_
  refine r_icmp_ne (tgt := 433) hx hb dL_refuses_97 (by decide) (by unfold rI; decide) (by unfold rI; decide) (fun h9 => absurd h9 (by omega)) (fun h97 => ?_)
  refine lv_aload_n hx hb dL_refuses_100 rfl (lv_at hl 7 rfl) ?_
  refine r_iconst hx hb dL_refuses_101 ?_
  refine lv_iload hx hb dL_refuses_102 (lv_at hl 1 rfl) ?_
  refine r_iconst hx hb dL_refuses_104 ?_
  refine r_iconst hx hb dL_refuses_105 ?_
  refine q_LS (As := [.ref y0, .int (iI (1)), .int (iI (-1)), .int (iI (0)), .int (iI (0))]) (rest := []) (wr := []) S (c_L_act_1r l hst D cI cL tw (y0) (y2) (b) (pq) (cq) (tu) (ph) (mo) (gc) (P) (C) (-1) (0) (0) (by omega) (by omega) (by omega) (by omega) (by omega) (by omega) (by omega) (by omega) (by omega)) (-901) (()) (fun z u h => ⟨by (try dsimp only at h); omega, rfl⟩) gL_refuses_L_act rfl rfl rfl f_L_act hR (Nat.le_of_ble_eq_true rfl) (Nat.le_of_ble_eq_true rfl) (hE.kept hS.2.1) hP hD hS hA [0, 1, 2, 3, 4] [] rfl rfl (by decide) rfl (by decide) (by decide) rfl hl.1 rfl (Nat.le_of_ble_eq_true rfl) dL_refuses_106 ⟨Nat.le_trans (Nat.le_of_ble_eq_true rfl) hRc.1, Nat.le_trans (Nat.le_of_ble_eq_true rfl) hRc.2⟩ (fun H locs hP hD hS => ?_)
  have hP : va_P D vwCl [(y0, .inr (1, [.ref b, .ref y2, .int (iI (tu)), .int (iI (gc)), .int (iI (ph)), .int (iI (mo))])), (y2, .inl (cI, 4, .inl (aI C))), (b, .inr (0, [.ref pq, .ref cq])), (pq, .inl (cI, 16, .inl (aI P))), (cq, .inl (cI, 136, .inl (aI (cnt P))))] H := hP
  have hD : va_D A [(y0, .inr (1, [.ref b, .ref y2, .int (iI (tu)), .int (iI (gc)), .int (iI (ph)), .int (iI (mo))])), (y2, .inl (cI, 4, .inl (aI C))), (b, .inr (0, [.ref pq, .ref cq])), (pq, .inl (cI, 16, .inl (aI P))), (cq, .inl (cI, 136, .inl (aI (cnt P))))] := hD
  refine r_sipush hx hb dL_refuses_109 (by decide) ?_
  refine r_icmp_ne (tgt := 433) hx hb dL_refuses_112 (by decide) (by unfold rI; decide) (by unfold rI; decide) (fun h9 => absurd h9 (by omega)) (fun h112 => ?_)
  refine lv_aload_n hx hb dL_refuses_115 rfl (lv_at hl 7 rfl) ?_
  refine r_iconst hx hb dL_refuses_116 ?_
  refine lv_iload hx hb dL_refuses_117 (lv_at hl 1 rfl) ?_
  refine r_iconst hx hb dL_refuses_119 ?_
  refine r_iconst hx hb dL_refuses_120 ?_
  refine q_LS (As := [.ref y0, .int (iI (3)), .int (iI (-1)), .int (iI (0)), .int (iI (0))]) (rest := []) (wr := []) S (c_L_act_3r l hst D cI cL tw (y0) (y2) (b) (pq) (cq) (tu) (ph) (mo) (gc) (P) (C) (-1) (0) (0) (by omega) (by omega) (by omega) (by omega) (by omega) (by omega) (by omega) (by omega) (by omega)) (-901) (()) (fun z u h => ⟨by (try dsimp only at h); omega, rfl⟩) gL_refuses_L_act rfl rfl rfl f_L_act hR (Nat.le_of_ble_eq_true rfl) (Nat.le_of_ble_eq_true rfl) (hE.kept hS.2.1) hP hD hS hA [0, 1, 2, 3, 4] [] rfl rfl (by decide) rfl (by decide) (by decide) rfl hl.1 rfl (Nat.le_of_ble_eq_true rfl) dL_refuses_121 ⟨Nat.le_trans (Nat.le_of_ble_eq_true rfl) hRc.1, Nat.le_trans (Nat.le_of_ble_eq_true rfl) hRc.2⟩ (fun H locs hP hD hS => ?_)
  have hP : va_P D vwCl [(y0, .inr (1, [.ref b, .ref y2, .int (iI (tu)), .int (iI (gc)), .int (iI (ph)), .int (iI (mo))])), (y2, .inl (cI, 4, .inl (aI C))), (b, .inr (0, [.ref pq, .ref cq])), (pq, .inl (cI, 16, .inl (aI P))), (cq, .inl (cI, 136, .inl (aI (cnt P))))] H := hP
  have hD : va_D A [(y0, .inr (1, [.ref b, .ref y2, .int (iI (tu)), .int (iI (gc)), .int (iI (ph)), .int (iI (mo))])), (y2, .inl (cI, 4, .inl (aI C))), (b, .inr (0, [.ref pq, .ref cq])), (pq, .inl (cI, 16, .inl (aI P))), (cq, .inl (cI, 136, .inl (aI (cnt P))))] := hD
  refine r_sipush hx hb dL_refuses_124 (by decide) ?_
  refine r_icmp_ne (tgt := 433) hx hb dL_refuses_127 (by decide) (by unfold rI; decide) (by unfold rI; decide) (fun h9 => absurd h9 (by omega)) (fun h127 => ?_)
  refine lv_aload_n hx hb dL_refuses_130 rfl (lv_at hl 7 rfl) ?_
  refine r_iconst hx hb dL_refuses_131 ?_
  refine r_iconst hx hb dL_refuses_132 ?_
  refine lv_iload hx hb dL_refuses_133 (lv_at hl 1 rfl) ?_
  refine r_iconst hx hb dL_refuses_135 ?_
  refine q_LS (As := [.ref y0, .int (iI (3)), .int (iI (0)), .int (iI (-1)), .int (iI (0))]) (rest := []) (wr := []) S (c_L_act_3r l hst D cI cL tw (y0) (y2) (b) (pq) (cq) (tu) (ph) (mo) (gc) (P) (C) (0) (-1) (0) (by omega) (by omega) (by omega) (by omega) (by omega) (by omega) (by omega) (by omega) (by omega)) (-901) (()) (fun z u h => ⟨by (try dsimp only at h); omega, rfl⟩) gL_refuses_L_act rfl rfl rfl f_L_act hR (Nat.le_of_ble_eq_true rfl) (Nat.le_of_ble_eq_true rfl) (hE.kept hS.2.1) hP hD hS hA [0, 1, 2, 3, 4] [] rfl rfl (by decide) rfl (by decide) (by decide) rfl hl.1 rfl (Nat.le_of_ble_eq_true rfl) dL_refuses_136 ⟨Nat.le_trans (Nat.le_of_ble_eq_true rfl) hRc.1, Nat.le_trans (Nat.le_of_ble_eq_true rfl) hRc.2⟩ (fun H locs hP hD hS => ?_)
  have hP : va_P D vwCl [(y0, .inr (1, [.ref b, .ref y2, .int (iI (tu)), .int (iI (gc)), .int (iI (ph)), .int (iI (mo))])), (y2, .inl (cI, 4, .inl (aI C))), (b, .inr (0, [.ref pq, .ref cq])), (pq, .inl (cI, 16, .inl (aI P))), (cq, .inl (cI, 136, .inl (aI (cnt P))))] H := hP
  have hD : va_D A [(y0, .inr (1, [.ref b, .ref y2, .int (iI (tu)), .int (iI (gc)), .int (iI (ph)), .int (iI (mo))])), (y2, .inl (cI, 4, .inl (aI C))), (b, .inr (0, [.ref pq, .ref cq])), (pq, .inl (cI, 16, .inl (aI P))), (cq, .inl (cI, 136, .inl (aI (cnt P))))] := hD
  refine r_sipush hx hb dL_refuses_139 (by decide) ?_
  refine r_icmp_ne (tgt := 433) hx hb dL_refuses_142 (by decide) (by unfold rI; decide) (by unfold rI; decide) (fun h9 => absurd h9 (by omega)) (fun h142 => ?_)
  refine lv_aload_n hx hb dL_refuses_145 rfl (lv_at hl 7 rfl) ?_
  refine r_iconst hx hb dL_refuses_146 ?_
  refine lv_iload hx hb dL_refuses_147 (lv_at hl 1 rfl) ?_
  refine r_iconst hx hb dL_refuses_149 ?_
  refine r_iconst hx hb dL_refuses_150 ?_
  refine q_LS (As := [.ref y0, .int (iI (4)), .int (iI (-1)), .int (iI (0)), .int (iI (0))]) (rest := []) (wr := []) S (c_L_act_4r l hst D cI cL tw (y0) (y2) (b) (pq) (cq) (tu) (ph) (mo) (gc) (P) (C) (-1) (0) (0) (by omega) (by omega) (by omega) (by omega) (by omega) (by omega) (by omega) (by omega) (by omega)) (-901) (()) (fun z u h => ⟨by (try dsimp only at h); omega, rfl⟩) gL_refuses_L_act rfl rfl rfl f_L_act hR (Nat.le_of_ble_eq_true rfl) (Nat.le_of_ble_eq_true rfl) (hE.kept hS.2.1) hP hD hS hA [0, 1, 2, 3, 4] [] rfl rfl (by decide) rfl (by decide) (by decide) rfl hl.1 rfl (Nat.le_of_ble_eq_true rfl) dL_refuses_151 ⟨Nat.le_trans (Nat.le_of_ble_eq_true rfl) hRc.1, Nat.le_trans (Nat.le_of_ble_eq_true rfl) hRc.2⟩ (fun H locs hP hD hS => ?_)
  have hP : va_P D vwCl [(y0, .inr (1, [.ref b, .ref y2, .int (iI (tu)), .int (iI (gc)), .int (iI (ph)), .int (iI (mo))])), (y2, .inl (cI, 4, .inl (aI C))), (b, .inr (0, [.ref pq, .ref cq])), (pq, .inl (cI, 16, .inl (aI P))), (cq, .inl (cI, 136, .inl (aI (cnt P))))] H := hP
  have hD : va_D A [(y0, .inr (1, [.ref b, .ref y2, .int (iI (tu)), .int (iI (gc)), .int (iI (ph)), .int (iI (mo))])), (y2, .inl (cI, 4, .inl (aI C))), (b, .inr (0, [.ref pq, .ref cq])), (pq, .inl (cI, 16, .inl (aI P))), (cq, .inl (cI, 136, .inl (aI (cnt P))))] := hD
  refine r_sipush hx hb dL_refuses_154 (by decide) ?_
  refine r_icmp_ne (tgt := 433) hx hb dL_refuses_157 (by decide) (by unfold rI; decide) (by unfold rI; decide) (fun h9 => absurd h9 (by omega)) (fun h157 => ?_)
  refine lv_aload_n hx hb dL_refuses_160 rfl (lv_at hl 7 rfl) ?_
  refine r_iconst hx hb dL_refuses_161 ?_
  refine r_iconst hx hb dL_refuses_162 ?_
  refine lv_iload hx hb dL_refuses_163 (lv_at hl 1 rfl) ?_
  refine r_iconst hx hb dL_refuses_165 ?_
  refine q_LS (As := [.ref y0, .int (iI (4)), .int (iI (0)), .int (iI (-1)), .int (iI (0))]) (rest := []) (wr := []) S (c_L_act_4r l hst D cI cL tw (y0) (y2) (b) (pq) (cq) (tu) (ph) (mo) (gc) (P) (C) (0) (-1) (0) (by omega) (by omega) (by omega) (by omega) (by omega) (by omega) (by omega) (by omega) (by omega)) (-901) (()) (fun z u h => ⟨by (try dsimp only at h); omega, rfl⟩) gL_refuses_L_act rfl rfl rfl f_L_act hR (Nat.le_of_ble_eq_true rfl) (Nat.le_of_ble_eq_true rfl) (hE.kept hS.2.1) hP hD hS hA [0, 1, 2, 3, 4] [] rfl rfl (by decide) rfl (by decide) (by decide) rfl hl.1 rfl (Nat.le_of_ble_eq_true rfl) dL_refuses_166 ⟨Nat.le_trans (Nat.le_of_ble_eq_true rfl) hRc.1, Nat.le_trans (Nat.le_of_ble_eq_true rfl) hRc.2⟩ (fun H locs hP hD hS => ?_)
  have hP : va_P D vwCl [(y0, .inr (1, [.ref b, .ref y2, .int (iI (tu)), .int (iI (gc)), .int (iI (ph)), .int (iI (mo))])), (y2, .inl (cI, 4, .inl (aI C))), (b, .inr (0, [.ref pq, .ref cq])), (pq, .inl (cI, 16, .inl (aI P))), (cq, .inl (cI, 136, .inl (aI (cnt P))))] H := hP
  have hD : va_D A [(y0, .inr (1, [.ref b, .ref y2, .int (iI (tu)), .int (iI (gc)), .int (iI (ph)), .int (iI (mo))])), (y2, .inl (cI, 4, .inl (aI C))), (b, .inr (0, [.ref pq, .ref cq])), (pq, .inl (cI, 16, .inl (aI P))), (cq, .inl (cI, 136, .inl (aI (cnt P))))] := hD
  refine r_sipush hx hb dL_refuses_169 (by decide) ?_
  refine r_icmp_ne (tgt := 433) hx hb dL_refuses_172 (by decide) (by unfold rI; decide) (by unfold rI; decide) (fun h9 => absurd h9 (by omega)) (fun h172 => ?_)
  refine lv_aload_n hx hb dL_refuses_175 rfl (lv_at hl 7 rfl) ?_
  refine r_iconst hx hb dL_refuses_176 ?_
  refine lv_iload hx hb dL_refuses_177 (lv_at hl 3 rfl) ?_
  refine r_iconst hx hb dL_refuses_179 ?_
  refine r_icmp_ne (tgt := 188) hx hb dL_refuses_180 (by decide) (by unfold rI; decide) (by unfold rI; decide) (fun h180 => ?_) (fun h9 => absurd h9 (by omega))
  refine lv_iload hx hb dL_refuses_188 (lv_at hl 2 rfl) ?_
  refine r_iconst hx hb dL_refuses_190 ?_
  refine r_iconst hx hb dL_refuses_191 ?_
  refine q_LS (As := [.ref y0, .int (iI (5)), .int (iI (-1)), .int (iI (2)), .int (iI (0))]) (rest := []) (wr := []) S (c_L_act_5r l hst D cI cL tw (y0) (y2) (b) (pq) (cq) (tu) (ph) (mo) (gc) (P) (C) (-1) (2) (0) (by omega) (by omega) (by omega) (by omega) (by omega) (by omega) (by omega) (by omega) (by omega)) (-901) (()) (fun z u h => ⟨by (try dsimp only at h); omega, rfl⟩) gL_refuses_L_act rfl rfl rfl f_L_act hR (Nat.le_of_ble_eq_true rfl) (Nat.le_of_ble_eq_true rfl) (hE.kept hS.2.1) hP hD hS hA [0, 1, 2, 3, 4] [] rfl rfl (by decide) rfl (by decide) (by decide) rfl hl.1 rfl (Nat.le_of_ble_eq_true rfl) dL_refuses_192 ⟨Nat.le_trans (Nat.le_of_ble_eq_true rfl) hRc.1, Nat.le_trans (Nat.le_of_ble_eq_true rfl) hRc.2⟩ (fun H locs hP hD hS => ?_)
  have hP : va_P D vwCl [(y0, .inr (1, [.ref b, .ref y2, .int (iI (tu)), .int (iI (gc)), .int (iI (ph)), .int (iI (mo))])), (y2, .inl (cI, 4, .inl (aI C))), (b, .inr (0, [.ref pq, .ref cq])), (pq, .inl (cI, 16, .inl (aI P))), (cq, .inl (cI, 136, .inl (aI (cnt P))))] H := hP
  have hD : va_D A [(y0, .inr (1, [.ref b, .ref y2, .int (iI (tu)), .int (iI (gc)), .int (iI (ph)), .int (iI (mo))])), (y2, .inl (cI, 4, .inl (aI C))), (b, .inr (0, [.ref pq, .ref cq])), (pq, .inl (cI, 16, .inl (aI P))), (cq, .inl (cI, 136, .inl (aI (cnt P))))] := hD
  refine r_sipush hx hb dL_refuses_195 (by decide) ?_
  refine r_icmp_ne (tgt := 433) hx hb dL_refuses_198 (by decide) (by unfold rI; decide) (by unfold rI; decide) (fun h9 => absurd h9 (by omega)) (fun h198 => ?_)
  refine lv_aload_n hx hb dL_refuses_201 rfl (lv_at hl 7 rfl) ?_
  refine r_iconst hx hb dL_refuses_202 ?_
  refine r_iconst hx hb dL_refuses_203 ?_
  refine lv_iload hx hb dL_refuses_204 (lv_at hl 3 rfl) ?_
  refine r_iconst hx hb dL_refuses_206 ?_
  refine r_icmp_ne (tgt := 214) hx hb dL_refuses_207 (by decide) (by unfold rI; decide) (by unfold rI; decide) (fun h207 => ?_) (fun h9 => absurd h9 (by omega))
  refine lv_iload hx hb dL_refuses_214 (lv_at hl 2 rfl) ?_
  refine r_iconst hx hb dL_refuses_216 ?_
  refine q_LS (As := [.ref y0, .int (iI (5)), .int (iI (0)), .int (iI (-1)), .int (iI (0))]) (rest := []) (wr := []) S (c_L_act_5r l hst D cI cL tw (y0) (y2) (b) (pq) (cq) (tu) (ph) (mo) (gc) (P) (C) (0) (-1) (0) (by omega) (by omega) (by omega) (by omega) (by omega) (by omega) (by omega) (by omega) (by omega)) (-902) (()) (fun z u h => ⟨by (try dsimp only at h); omega, rfl⟩) gL_refuses_L_act rfl rfl rfl f_L_act hR (Nat.le_of_ble_eq_true rfl) (Nat.le_of_ble_eq_true rfl) (hE.kept hS.2.1) hP hD hS hA [0, 1, 2, 3, 4] [] rfl rfl (by decide) rfl (by decide) (by decide) rfl hl.1 rfl (Nat.le_of_ble_eq_true rfl) dL_refuses_217 ⟨Nat.le_trans (Nat.le_of_ble_eq_true rfl) hRc.1, Nat.le_trans (Nat.le_of_ble_eq_true rfl) hRc.2⟩ (fun H locs hP hD hS => ?_)
  have hP : va_P D vwCl [(y0, .inr (1, [.ref b, .ref y2, .int (iI (tu)), .int (iI (gc)), .int (iI (ph)), .int (iI (mo))])), (y2, .inl (cI, 4, .inl (aI C))), (b, .inr (0, [.ref pq, .ref cq])), (pq, .inl (cI, 16, .inl (aI P))), (cq, .inl (cI, 136, .inl (aI (cnt P))))] H := hP
  have hD : va_D A [(y0, .inr (1, [.ref b, .ref y2, .int (iI (tu)), .int (iI (gc)), .int (iI (ph)), .int (iI (mo))])), (y2, .inl (cI, 4, .inl (aI C))), (b, .inr (0, [.ref pq, .ref cq])), (pq, .inl (cI, 16, .inl (aI P))), (cq, .inl (cI, 136, .inl (aI (cnt P))))] := hD
  refine r_sipush hx hb dL_refuses_220 (by decide) ?_
  refine r_icmp_ne (tgt := 433) hx hb dL_refuses_223 (by decide) (by unfold rI; decide) (by unfold rI; decide) (fun h9 => absurd h9 (by omega)) (fun h223 => ?_)
  refine lv_aload_n hx hb dL_refuses_226 rfl (lv_at hl 7 rfl) ?_
  refine r_bipush hx hb dL_refuses_227 (by decide) ?_
  refine lv_iload hx hb dL_refuses_229 (lv_at hl 3 rfl) ?_
  refine r_iconst hx hb dL_refuses_231 ?_
  refine r_icmp_ne (tgt := 240) hx hb dL_refuses_232 (by decide) (by unfold rI; decide) (by unfold rI; decide) (fun h232 => ?_) (fun h9 => absurd h9 (by omega))
  refine lv_iload hx hb dL_refuses_240 (lv_at hl 2 rfl) ?_
  refine r_iconst hx hb dL_refuses_242 ?_
  refine r_iconst hx hb dL_refuses_243 ?_
  refine q_LS (As := [.ref y0, .int (iI (6)), .int (iI (-1)), .int (iI (0)), .int (iI (0))]) (rest := []) (wr := []) S (c_L_act_6r l hst D cI cL tw (y0) (y2) (b) (pq) (cq) (tu) (ph) (mo) (gc) (P) (C) (-1) (0) (0) (by omega) (by omega) (by omega) (by omega) (by omega) (by omega) (by omega) (by omega) (by omega)) (-901) (()) (fun z u h => ⟨by (try dsimp only at h); omega, rfl⟩) gL_refuses_L_act rfl rfl rfl f_L_act hR (Nat.le_of_ble_eq_true rfl) (Nat.le_of_ble_eq_true rfl) (hE.kept hS.2.1) hP hD hS hA [0, 1, 2, 3, 4] [] rfl rfl (by decide) rfl (by decide) (by decide) rfl hl.1 rfl (Nat.le_of_ble_eq_true rfl) dL_refuses_244 ⟨Nat.le_trans (Nat.le_of_ble_eq_true rfl) hRc.1, Nat.le_trans (Nat.le_of_ble_eq_true rfl) hRc.2⟩ (fun H locs hP hD hS => ?_)
  have hP : va_P D vwCl [(y0, .inr (1, [.ref b, .ref y2, .int (iI (tu)), .int (iI (gc)), .int (iI (ph)), .int (iI (mo))])), (y2, .inl (cI, 4, .inl (aI C))), (b, .inr (0, [.ref pq, .ref cq])), (pq, .inl (cI, 16, .inl (aI P))), (cq, .inl (cI, 136, .inl (aI (cnt P))))] H := hP
  have hD : va_D A [(y0, .inr (1, [.ref b, .ref y2, .int (iI (tu)), .int (iI (gc)), .int (iI (ph)), .int (iI (mo))])), (y2, .inl (cI, 4, .inl (aI C))), (b, .inr (0, [.ref pq, .ref cq])), (pq, .inl (cI, 16, .inl (aI P))), (cq, .inl (cI, 136, .inl (aI (cnt P))))] := hD
  refine r_sipush hx hb dL_refuses_247 (by decide) ?_
  refine r_icmp_ne (tgt := 433) hx hb dL_refuses_250 (by decide) (by unfold rI; decide) (by unfold rI; decide) (fun h9 => absurd h9 (by omega)) (fun h250 => ?_)
  refine lv_aload_n hx hb dL_refuses_253 rfl (lv_at hl 7 rfl) ?_
  refine r_bipush hx hb dL_refuses_254 (by decide) ?_
  refine lv_iload hx hb dL_refuses_256 (lv_at hl 1 rfl) ?_
  refine r_iconst hx hb dL_refuses_258 ?_
  refine r_iconst hx hb dL_refuses_259 ?_
  refine q_LS (As := [.ref y0, .int (iI (7)), .int (iI (-1)), .int (iI (0)), .int (iI (0))]) (rest := []) (wr := []) S (c_L_act_7r l hst D cI cL tw (y0) (y2) (b) (pq) (cq) (tu) (ph) (mo) (gc) (P) (C) (-1) (0) (0) (by omega) (by omega) (by omega) (by omega) (by omega) (by omega) (by omega) (by omega) (by omega)) (-901) (()) (fun z u h => ⟨by (try dsimp only at h); omega, rfl⟩) gL_refuses_L_act rfl rfl rfl f_L_act hR (Nat.le_of_ble_eq_true rfl) (Nat.le_of_ble_eq_true rfl) (hE.kept hS.2.1) hP hD hS hA [0, 1, 2, 3, 4] [] rfl rfl (by decide) rfl (by decide) (by decide) rfl hl.1 rfl (Nat.le_of_ble_eq_true rfl) dL_refuses_260 ⟨Nat.le_trans (Nat.le_of_ble_eq_true rfl) hRc.1, Nat.le_trans (Nat.le_of_ble_eq_true rfl) hRc.2⟩ (fun H locs hP hD hS => ?_)
  have hP : va_P D vwCl [(y0, .inr (1, [.ref b, .ref y2, .int (iI (tu)), .int (iI (gc)), .int (iI (ph)), .int (iI (mo))])), (y2, .inl (cI, 4, .inl (aI C))), (b, .inr (0, [.ref pq, .ref cq])), (pq, .inl (cI, 16, .inl (aI P))), (cq, .inl (cI, 136, .inl (aI (cnt P))))] H := hP
  have hD : va_D A [(y0, .inr (1, [.ref b, .ref y2, .int (iI (tu)), .int (iI (gc)), .int (iI (ph)), .int (iI (mo))])), (y2, .inl (cI, 4, .inl (aI C))), (b, .inr (0, [.ref pq, .ref cq])), (pq, .inl (cI, 16, .inl (aI P))), (cq, .inl (cI, 136, .inl (aI (cnt P))))] := hD
  refine r_sipush hx hb dL_refuses_263 (by decide) ?_
  refine r_icmp_ne (tgt := 433) hx hb dL_refuses_266 (by decide) (by unfold rI; decide) (by unfold rI; decide) (fun h9 => absurd h9 (by omega)) (fun h266 => ?_)
  refine lv_aload_n hx hb dL_refuses_269 rfl (lv_at hl 7 rfl) ?_
  refine r_bipush hx hb dL_refuses_270 (by decide) ?_
  refine lv_iload hx hb dL_refuses_272 (lv_at hl 1 rfl) ?_
  refine r_iconst hx hb dL_refuses_274 ?_
  refine r_iconst hx hb dL_refuses_275 ?_
  refine q_LS (As := [.ref y0, .int (iI (8)), .int (iI (-1)), .int (iI (0)), .int (iI (0))]) (rest := []) (wr := []) S (c_L_act_8r l hst D cI cL tw (y0) (y2) (b) (pq) (cq) (tu) (ph) (mo) (gc) (P) (C) (-1) (0) (0) (by omega) (by omega) (by omega) (by omega) (by omega) (by omega) (by omega) (by omega) (by omega)) (-901) (()) (fun z u h => ⟨by (try dsimp only at h); omega, rfl⟩) gL_refuses_L_act rfl rfl rfl f_L_act hR (Nat.le_of_ble_eq_true rfl) (Nat.le_of_ble_eq_true rfl) (hE.kept hS.2.1) hP hD hS hA [0, 1, 2, 3, 4] [] rfl rfl (by decide) rfl (by decide) (by decide) rfl hl.1 rfl (Nat.le_of_ble_eq_true rfl) dL_refuses_276 ⟨Nat.le_trans (Nat.le_of_ble_eq_true rfl) hRc.1, Nat.le_trans (Nat.le_of_ble_eq_true rfl) hRc.2⟩ (fun H locs hP hD hS => ?_)
  have hP : va_P D vwCl [(y0, .inr (1, [.ref b, .ref y2, .int (iI (tu)), .int (iI (gc)), .int (iI (ph)), .int (iI (mo))])), (y2, .inl (cI, 4, .inl (aI C))), (b, .inr (0, [.ref pq, .ref cq])), (pq, .inl (cI, 16, .inl (aI P))), (cq, .inl (cI, 136, .inl (aI (cnt P))))] H := hP
  have hD : va_D A [(y0, .inr (1, [.ref b, .ref y2, .int (iI (tu)), .int (iI (gc)), .int (iI (ph)), .int (iI (mo))])), (y2, .inl (cI, 4, .inl (aI C))), (b, .inr (0, [.ref pq, .ref cq])), (pq, .inl (cI, 16, .inl (aI P))), (cq, .inl (cI, 136, .inl (aI (cnt P))))] := hD
  refine r_sipush hx hb dL_refuses_279 (by decide) ?_
  refine r_icmp_ne (tgt := 433) hx hb dL_refuses_282 (by decide) (by unfold rI; decide) (by unfold rI; decide) (fun h9 => absurd h9 (by omega)) (fun h282 => ?_)
  refine lv_aload_n hx hb dL_refuses_285 rfl (lv_at hl 7 rfl) ?_
  refine r_bipush hx hb dL_refuses_286 (by decide) ?_
  refine lv_iload hx hb dL_refuses_288 (lv_at hl 3 rfl) ?_
  refine r_iconst hx hb dL_refuses_290 ?_
  refine r_icmp_ne (tgt := 298) hx hb dL_refuses_291 (by decide) (by unfold rI; decide) (by unfold rI; decide) (fun h291 => ?_) (fun h9 => absurd h9 (by omega))
  refine lv_iload hx hb dL_refuses_298 (lv_at hl 2 rfl) ?_
  refine r_iconst hx hb dL_refuses_300 ?_
  refine r_iconst hx hb dL_refuses_301 ?_
  refine q_LS (As := [.ref y0, .int (iI (9)), .int (iI (-1)), .int (iI (0)), .int (iI (0))]) (rest := []) (wr := []) S (c_L_act_9r l hst D cI cL tw (y0) (y2) (b) (pq) (cq) (tu) (ph) (mo) (gc) (P) (C) (-1) (0) (0) (by omega) (by omega) (by omega) (by omega) (by omega) (by omega) (by omega) (by omega) (by omega)) (-902) (()) (fun z u h => ⟨by (try dsimp only at h); omega, rfl⟩) gL_refuses_L_act rfl rfl rfl f_L_act hR (Nat.le_of_ble_eq_true rfl) (Nat.le_of_ble_eq_true rfl) (hE.kept hS.2.1) hP hD hS hA [0, 1, 2, 3, 4] [] rfl rfl (by decide) rfl (by decide) (by decide) rfl hl.1 rfl (Nat.le_of_ble_eq_true rfl) dL_refuses_302 ⟨Nat.le_trans (Nat.le_of_ble_eq_true rfl) hRc.1, Nat.le_trans (Nat.le_of_ble_eq_true rfl) hRc.2⟩ (fun H locs hP hD hS => ?_)
  have hP : va_P D vwCl [(y0, .inr (1, [.ref b, .ref y2, .int (iI (tu)), .int (iI (gc)), .int (iI (ph)), .int (iI (mo))])), (y2, .inl (cI, 4, .inl (aI C))), (b, .inr (0, [.ref pq, .ref cq])), (pq, .inl (cI, 16, .inl (aI P))), (cq, .inl (cI, 136, .inl (aI (cnt P))))] H := hP
  have hD : va_D A [(y0, .inr (1, [.ref b, .ref y2, .int (iI (tu)), .int (iI (gc)), .int (iI (ph)), .int (iI (mo))])), (y2, .inl (cI, 4, .inl (aI C))), (b, .inr (0, [.ref pq, .ref cq])), (pq, .inl (cI, 16, .inl (aI P))), (cq, .inl (cI, 136, .inl (aI (cnt P))))] := hD
  refine r_sipush hx hb dL_refuses_305 (by decide) ?_
  refine r_icmp_ne (tgt := 433) hx hb dL_refuses_308 (by decide) (by unfold rI; decide) (by unfold rI; decide) (fun h9 => absurd h9 (by omega)) (fun h308 => ?_)
  refine lv_aload_n hx hb dL_refuses_311 rfl (lv_at hl 7 rfl) ?_
  refine r_bipush hx hb dL_refuses_312 (by decide) ?_
  refine lv_iload hx hb dL_refuses_314 (lv_at hl 1 rfl) ?_
  refine r_iconst hx hb dL_refuses_316 ?_
  refine r_iconst hx hb dL_refuses_317 ?_
  refine q_LS (As := [.ref y0, .int (iI (10)), .int (iI (-1)), .int (iI (0)), .int (iI (0))]) (rest := []) (wr := []) S (c_L_act_10r l hst D cI cL tw (y0) (y2) (b) (pq) (cq) (tu) (ph) (mo) (gc) (P) (C) (-1) (0) (0) (by omega) (by omega) (by omega) (by omega) (by omega) (by omega) (by omega) (by omega) (by omega)) (-902) (()) (fun z u h => ⟨by (try dsimp only at h); omega, rfl⟩) gL_refuses_L_act rfl rfl rfl f_L_act hR (Nat.le_of_ble_eq_true rfl) (Nat.le_of_ble_eq_true rfl) (hE.kept hS.2.1) hP hD hS hA [0, 1, 2, 3, 4] [] rfl rfl (by decide) rfl (by decide) (by decide) rfl hl.1 rfl (Nat.le_of_ble_eq_true rfl) dL_refuses_318 ⟨Nat.le_trans (Nat.le_of_ble_eq_true rfl) hRc.1, Nat.le_trans (Nat.le_of_ble_eq_true rfl) hRc.2⟩ (fun H locs hP hD hS => ?_)
  have hP : va_P D vwCl [(y0, .inr (1, [.ref b, .ref y2, .int (iI (tu)), .int (iI (gc)), .int (iI (ph)), .int (iI (mo))])), (y2, .inl (cI, 4, .inl (aI C))), (b, .inr (0, [.ref pq, .ref cq])), (pq, .inl (cI, 16, .inl (aI P))), (cq, .inl (cI, 136, .inl (aI (cnt P))))] H := hP
  have hD : va_D A [(y0, .inr (1, [.ref b, .ref y2, .int (iI (tu)), .int (iI (gc)), .int (iI (ph)), .int (iI (mo))])), (y2, .inl (cI, 4, .inl (aI C))), (b, .inr (0, [.ref pq, .ref cq])), (pq, .inl (cI, 16, .inl (aI P))), (cq, .inl (cI, 136, .inl (aI (cnt P))))] := hD
  refine r_sipush hx hb dL_refuses_321 (by decide) ?_
  refine r_icmp_ne (tgt := 433) hx hb dL_refuses_324 (by decide) (by unfold rI; decide) (by unfold rI; decide) (fun h9 => absurd h9 (by omega)) (fun h324 => ?_)
  refine lv_aload_n hx hb dL_refuses_327 rfl (lv_at hl 7 rfl) ?_
  refine r_bipush hx hb dL_refuses_328 (by decide) ?_
  refine lv_iload hx hb dL_refuses_330 (lv_at hl 1 rfl) ?_
  refine r_iconst hx hb dL_refuses_332 ?_
  refine r_iconst hx hb dL_refuses_333 ?_
  refine q_LS (As := [.ref y0, .int (iI (11)), .int (iI (-1)), .int (iI (0)), .int (iI (1))]) (rest := []) (wr := []) S (c_L_act_11r l hst D cI cL tw (y0) (y2) (b) (pq) (cq) (tu) (ph) (mo) (gc) (P) (C) (-1) (0) (1) (by omega) (by omega) (by omega) (by omega) (by omega) (by omega) (by omega) (by omega) (by omega)) (-901) (()) (fun z u h => ⟨by (try dsimp only at h); omega, rfl⟩) gL_refuses_L_act rfl rfl rfl f_L_act hR (Nat.le_of_ble_eq_true rfl) (Nat.le_of_ble_eq_true rfl) (hE.kept hS.2.1) hP hD hS hA [0, 1, 2, 3, 4] [] rfl rfl (by decide) rfl (by decide) (by decide) rfl hl.1 rfl (Nat.le_of_ble_eq_true rfl) dL_refuses_334 ⟨Nat.le_trans (Nat.le_of_ble_eq_true rfl) hRc.1, Nat.le_trans (Nat.le_of_ble_eq_true rfl) hRc.2⟩ (fun H locs hP hD hS => ?_)
  have hP : va_P D vwCl [(y0, .inr (1, [.ref b, .ref y2, .int (iI (tu)), .int (iI (gc)), .int (iI (ph)), .int (iI (mo))])), (y2, .inl (cI, 4, .inl (aI C))), (b, .inr (0, [.ref pq, .ref cq])), (pq, .inl (cI, 16, .inl (aI P))), (cq, .inl (cI, 136, .inl (aI (cnt P))))] H := hP
  have hD : va_D A [(y0, .inr (1, [.ref b, .ref y2, .int (iI (tu)), .int (iI (gc)), .int (iI (ph)), .int (iI (mo))])), (y2, .inl (cI, 4, .inl (aI C))), (b, .inr (0, [.ref pq, .ref cq])), (pq, .inl (cI, 16, .inl (aI P))), (cq, .inl (cI, 136, .inl (aI (cnt P))))] := hD
  refine r_sipush hx hb dL_refuses_337 (by decide) ?_
  refine r_icmp_ne (tgt := 433) hx hb dL_refuses_340 (by decide) (by unfold rI; decide) (by unfold rI; decide) (fun h9 => absurd h9 (by omega)) (fun h340 => ?_)
  refine lv_aload_n hx hb dL_refuses_343 rfl (lv_at hl 7 rfl) ?_
  refine r_bipush hx hb dL_refuses_344 (by decide) ?_
  refine r_iconst hx hb dL_refuses_346 ?_
  refine lv_iload hx hb dL_refuses_347 (lv_at hl 1 rfl) ?_
  refine r_iconst hx hb dL_refuses_349 ?_
  refine q_LS (As := [.ref y0, .int (iI (11)), .int (iI (0)), .int (iI (-1)), .int (iI (0))]) (rest := []) (wr := []) S (c_L_act_11r l hst D cI cL tw (y0) (y2) (b) (pq) (cq) (tu) (ph) (mo) (gc) (P) (C) (0) (-1) (0) (by omega) (by omega) (by omega) (by omega) (by omega) (by omega) (by omega) (by omega) (by omega)) (-901) (()) (fun z u h => ⟨by (try dsimp only at h); omega, rfl⟩) gL_refuses_L_act rfl rfl rfl f_L_act hR (Nat.le_of_ble_eq_true rfl) (Nat.le_of_ble_eq_true rfl) (hE.kept hS.2.1) hP hD hS hA [0, 1, 2, 3, 4] [] rfl rfl (by decide) rfl (by decide) (by decide) rfl hl.1 rfl (Nat.le_of_ble_eq_true rfl) dL_refuses_350 ⟨Nat.le_trans (Nat.le_of_ble_eq_true rfl) hRc.1, Nat.le_trans (Nat.le_of_ble_eq_true rfl) hRc.2⟩ (fun H locs hP hD hS => ?_)
  have hP : va_P D vwCl [(y0, .inr (1, [.ref b, .ref y2, .int (iI (tu)), .int (iI (gc)), .int (iI (ph)), .int (iI (mo))])), (y2, .inl (cI, 4, .inl (aI C))), (b, .inr (0, [.ref pq, .ref cq])), (pq, .inl (cI, 16, .inl (aI P))), (cq, .inl (cI, 136, .inl (aI (cnt P))))] H := hP
  have hD : va_D A [(y0, .inr (1, [.ref b, .ref y2, .int (iI (tu)), .int (iI (gc)), .int (iI (ph)), .int (iI (mo))])), (y2, .inl (cI, 4, .inl (aI C))), (b, .inr (0, [.ref pq, .ref cq])), (pq, .inl (cI, 16, .inl (aI P))), (cq, .inl (cI, 136, .inl (aI (cnt P))))] := hD
  refine r_sipush hx hb dL_refuses_353 (by decide) ?_
  refine r_icmp_ne (tgt := 433) hx hb dL_refuses_356 (by decide) (by unfold rI; decide) (by unfold rI; decide) (fun h9 => absurd h9 (by omega)) (fun h356 => ?_)
  refine lv_aload_n hx hb dL_refuses_359 rfl (lv_at hl 7 rfl) ?_
  refine r_bipush hx hb dL_refuses_360 (by decide) ?_
  refine r_iconst hx hb dL_refuses_362 ?_
  refine r_iconst hx hb dL_refuses_363 ?_
  refine lv_iload hx hb dL_refuses_364 (lv_at hl 1 rfl) ?_
  refine q_LS (As := [.ref y0, .int (iI (11)), .int (iI (0)), .int (iI (0)), .int (iI (-1))]) (rest := []) (wr := []) S (c_L_act_11r l hst D cI cL tw (y0) (y2) (b) (pq) (cq) (tu) (ph) (mo) (gc) (P) (C) (0) (0) (-1) (by omega) (by omega) (by omega) (by omega) (by omega) (by omega) (by omega) (by omega) (by omega)) (-902) (()) (fun z u h => ⟨by (try dsimp only at h); omega, rfl⟩) gL_refuses_L_act rfl rfl rfl f_L_act hR (Nat.le_of_ble_eq_true rfl) (Nat.le_of_ble_eq_true rfl) (hE.kept hS.2.1) hP hD hS hA [0, 1, 2, 3, 4] [] rfl rfl (by decide) rfl (by decide) (by decide) rfl hl.1 rfl (Nat.le_of_ble_eq_true rfl) dL_refuses_366 ⟨Nat.le_trans (Nat.le_of_ble_eq_true rfl) hRc.1, Nat.le_trans (Nat.le_of_ble_eq_true rfl) hRc.2⟩ (fun H locs hP hD hS => ?_)
  have hP : va_P D vwCl [(y0, .inr (1, [.ref b, .ref y2, .int (iI (tu)), .int (iI (gc)), .int (iI (ph)), .int (iI (mo))])), (y2, .inl (cI, 4, .inl (aI C))), (b, .inr (0, [.ref pq, .ref cq])), (pq, .inl (cI, 16, .inl (aI P))), (cq, .inl (cI, 136, .inl (aI (cnt P))))] H := hP
  have hD : va_D A [(y0, .inr (1, [.ref b, .ref y2, .int (iI (tu)), .int (iI (gc)), .int (iI (ph)), .int (iI (mo))])), (y2, .inl (cI, 4, .inl (aI C))), (b, .inr (0, [.ref pq, .ref cq])), (pq, .inl (cI, 16, .inl (aI P))), (cq, .inl (cI, 136, .inl (aI (cnt P))))] := hD
  refine r_sipush hx hb dL_refuses_369 (by decide) ?_
  refine r_icmp_ne (tgt := 433) hx hb dL_refuses_372 (by decide) (by unfold rI; decide) (by unfold rI; decide) (fun h9 => absurd h9 (by omega)) (fun h372 => ?_)
  refine lv_aload_n hx hb dL_refuses_375 rfl (lv_at hl 7 rfl) ?_
  refine r_bipush hx hb dL_refuses_376 (by decide) ?_
  refine lv_iload hx hb dL_refuses_378 (lv_at hl 3 rfl) ?_
  refine r_iconst hx hb dL_refuses_380 ?_
  refine lv_iload hx hb dL_refuses_381 (lv_at hl 3 rfl) ?_
  refine r_iconst hx hb dL_refuses_383 ?_
  refine r_iadd hx hb dL_refuses_384 ?_
  refine r_top (2) (by decide) ?_
  refine r_iconst hx hb dL_refuses_385 ?_
  refine r_irem hx hb dL_refuses_386 (by omega) (by omega) ?_
  refine r_top (2) (by decide) ?_
  refine q_LS (As := [.ref y0, .int (iI (11)), .int (iI (0)), .int (iI (0)), .int (iI (2))]) (rest := []) (wr := []) S (c_L_act_11r l hst D cI cL tw (y0) (y2) (b) (pq) (cq) (tu) (ph) (mo) (gc) (P) (C) (0) (0) (2) (by omega) (by omega) (by omega) (by omega) (by omega) (by omega) (by omega) (by omega) (by omega)) (-902) (()) (fun z u h => ⟨by (try dsimp only at h); omega, rfl⟩) gL_refuses_L_act rfl rfl rfl f_L_act hR (Nat.le_of_ble_eq_true rfl) (Nat.le_of_ble_eq_true rfl) (hE.kept hS.2.1) hP hD hS hA [0, 1, 2, 3, 4] [] rfl rfl (by decide) rfl (by decide) (by decide) rfl hl.1 rfl (Nat.le_of_ble_eq_true rfl) dL_refuses_387 ⟨Nat.le_trans (Nat.le_of_ble_eq_true rfl) hRc.1, Nat.le_trans (Nat.le_of_ble_eq_true rfl) hRc.2⟩ (fun H locs hP hD hS => ?_)
  have hP : va_P D vwCl [(y0, .inr (1, [.ref b, .ref y2, .int (iI (tu)), .int (iI (gc)), .int (iI (ph)), .int (iI (mo))])), (y2, .inl (cI, 4, .inl (aI C))), (b, .inr (0, [.ref pq, .ref cq])), (pq, .inl (cI, 16, .inl (aI P))), (cq, .inl (cI, 136, .inl (aI (cnt P))))] H := hP
  have hD : va_D A [(y0, .inr (1, [.ref b, .ref y2, .int (iI (tu)), .int (iI (gc)), .int (iI (ph)), .int (iI (mo))])), (y2, .inl (cI, 4, .inl (aI C))), (b, .inr (0, [.ref pq, .ref cq])), (pq, .inl (cI, 16, .inl (aI P))), (cq, .inl (cI, 136, .inl (aI (cnt P))))] := hD
  refine r_sipush hx hb dL_refuses_390 (by decide) ?_
  refine r_icmp_ne (tgt := 433) hx hb dL_refuses_393 (by decide) (by unfold rI; decide) (by unfold rI; decide) (fun h9 => absurd h9 (by omega)) (fun h393 => ?_)
  refine lv_aload_n hx hb dL_refuses_396 rfl (lv_at hl 7 rfl) ?_
  refine r_bipush hx hb dL_refuses_397 (by decide) ?_
  refine lv_iload hx hb dL_refuses_399 (lv_at hl 3 rfl) ?_
  refine r_iconst hx hb dL_refuses_401 ?_
  refine lv_iload hx hb dL_refuses_402 (lv_at hl 3 rfl) ?_
  refine q_LS (As := [.ref y0, .int (iI (11)), .int (iI (0)), .int (iI (0)), .int (iI (0))]) (rest := []) (wr := []) S (c_L_act_11r l hst D cI cL tw (y0) (y2) (b) (pq) (cq) (tu) (ph) (mo) (gc) (P) (C) (0) (0) (0) (by omega) (by omega) (by omega) (by omega) (by omega) (by omega) (by omega) (by omega) (by omega)) (-902) (()) (fun z u h => ⟨by (try dsimp only at h); omega, rfl⟩) gL_refuses_L_act rfl rfl rfl f_L_act hR (Nat.le_of_ble_eq_true rfl) (Nat.le_of_ble_eq_true rfl) (hE.kept hS.2.1) hP hD hS hA [0, 1, 2, 3, 4] [] rfl rfl (by decide) rfl (by decide) (by decide) rfl hl.1 rfl (Nat.le_of_ble_eq_true rfl) dL_refuses_404 ⟨Nat.le_trans (Nat.le_of_ble_eq_true rfl) hRc.1, Nat.le_trans (Nat.le_of_ble_eq_true rfl) hRc.2⟩ (fun H locs hP hD hS => ?_)
  have hP : va_P D vwCl [(y0, .inr (1, [.ref b, .ref y2, .int (iI (tu)), .int (iI (gc)), .int (iI (ph)), .int (iI (mo))])), (y2, .inl (cI, 4, .inl (aI C))), (b, .inr (0, [.ref pq, .ref cq])), (pq, .inl (cI, 16, .inl (aI P))), (cq, .inl (cI, 136, .inl (aI (cnt P))))] H := hP
  have hD : va_D A [(y0, .inr (1, [.ref b, .ref y2, .int (iI (tu)), .int (iI (gc)), .int (iI (ph)), .int (iI (mo))])), (y2, .inl (cI, 4, .inl (aI C))), (b, .inr (0, [.ref pq, .ref cq])), (pq, .inl (cI, 16, .inl (aI P))), (cq, .inl (cI, 136, .inl (aI (cnt P))))] := hD
  refine r_sipush hx hb dL_refuses_407 (by decide) ?_
  refine r_icmp_ne (tgt := 433) hx hb dL_refuses_410 (by decide) (by unfold rI; decide) (by unfold rI; decide) (fun h9 => absurd h9 (by omega)) (fun h410 => ?_)
  refine lv_aload_n hx hb dL_refuses_413 rfl (lv_at hl 7 rfl) ?_
  refine r_bipush hx hb dL_refuses_414 (by decide) ?_
  refine lv_iload hx hb dL_refuses_416 (lv_at hl 0 rfl) ?_
  refine r_iconst hx hb dL_refuses_418 ?_
  refine r_iconst hx hb dL_refuses_419 ?_
  refine q_LS (As := [.ref y0, .int (iI (12)), .int (iI (0)), .int (iI (0)), .int (iI (0))]) (rest := []) (wr := []) S (c_L_act_12r l hst D cI cL tw (y0) (y2) (b) (pq) (cq) (tu) (ph) (mo) (gc) (P) (C) (0) (0) (0) (by omega) (by omega) (by omega) (by omega) (by omega) (by omega) (by omega) (by omega) (by omega)) (-902) (()) (fun z u h => ⟨by (try dsimp only at h); omega, rfl⟩) gL_refuses_L_act rfl rfl rfl f_L_act hR (Nat.le_of_ble_eq_true rfl) (Nat.le_of_ble_eq_true rfl) (hE.kept hS.2.1) hP hD hS hA [0, 1, 2, 3, 4] [] rfl rfl (by decide) rfl (by decide) (by decide) rfl hl.1 rfl (Nat.le_of_ble_eq_true rfl) dL_refuses_420 ⟨Nat.le_trans (Nat.le_of_ble_eq_true rfl) hRc.1, Nat.le_trans (Nat.le_of_ble_eq_true rfl) hRc.2⟩ (fun H locs hP hD hS => ?_)
  have hP : va_P D vwCl [(y0, .inr (1, [.ref b, .ref y2, .int (iI (tu)), .int (iI (gc)), .int (iI (ph)), .int (iI (mo))])), (y2, .inl (cI, 4, .inl (aI C))), (b, .inr (0, [.ref pq, .ref cq])), (pq, .inl (cI, 16, .inl (aI P))), (cq, .inl (cI, 136, .inl (aI (cnt P))))] H := hP
  have hD : va_D A [(y0, .inr (1, [.ref b, .ref y2, .int (iI (tu)), .int (iI (gc)), .int (iI (ph)), .int (iI (mo))])), (y2, .inl (cI, 4, .inl (aI C))), (b, .inr (0, [.ref pq, .ref cq])), (pq, .inl (cI, 16, .inl (aI P))), (cq, .inl (cI, 136, .inl (aI (cnt P))))] := hD
  refine r_sipush hx hb dL_refuses_423 (by decide) ?_
  refine r_icmp_ne (tgt := 433) hx hb dL_refuses_426 (by decide) (by unfold rI; decide) (by unfold rI; decide) (fun h9 => absurd h9 (by omega)) (fun h426 => ?_)
  refine r_iconst hx hb dL_refuses_429 ?_
  refine lv_goto (tgt := 434) hx hb dL_refuses_430 (by decide) ?_
  refine lv_istore (lv' := [(8, .int (iI (1))), (7, .int (iI (0))), (6, .int (iI (-1))), (5, .int (iI (-1))), (4, .int (iI (0))), (3, .int (iI (2147483647))), (2, .int (iI (tu))), (1, .int (iI (ph))), (0, .ref y0)]) hx hb dL_refuses_434 hl (by decide) rfl (fun ls hl => ?_)
  refine lv_iload hx hb dL_refuses_436 (lv_at hl 0 rfl) ?_
  refine r_if_ne (tgt := 443) hx hb dL_refuses_438 (by decide) (by unfold rI; decide) (fun h438 => ?_) (fun h9 => absurd h9 (by omega))
  refine lv_iinc (v := iI (1)) (lv' := [(4, .int (iI (1))), (8, .int (iI (1))), (7, .int (iI (0))), (6, .int (iI (-1))), (5, .int (iI (-1))), (3, .int (iI (2147483647))), (2, .int (iI (tu))), (1, .int (iI (ph))), (0, .ref y0)]) hx hb dL_refuses_443 hl (k := 4) rfl (by decide) (by decide) rfl (fun ls hl => ?_)
  refine lv_goto (tgt := 16) hx hb dL_refuses_446 (by decide) ?_
  exact sg_L_refuses_2 S hst hR hRc hE hA (y0) (y2) (b) (pq) (cq) (tu) (ph) (mo) (gc) (P) (C) hB htu hgc hph hmo hret hP hD hS hl
set_option maxHeartbeats 4000000 in
set_option maxRecDepth 100000 in
theorem c_L_refuses (l : Launch) (hst : l.stackTraces = false) (D : va_G) (cI cL : ClassId) (tw : Nat) (y0 : Nat) (y2 : Nat) (b : Nat) (pq : Nat) (cq : Nat) (tu : Int) (ph : Int) (mo : Int) (gc : Int) (P : Int → Int) (C : Int → Int) (hB : ∀ i, 0 ≤ P i ∧ P i ≤ 72) (htu : 0 ≤ tu ∧ tu ≤ 3) (hgc : 0 ≤ gc ∧ gc ≤ 2) (hph : 0 ≤ ph ∧ ph ≤ 2) (hmo : 0 ≤ mo ∧ mo ≤ 6) : RWm l yL_refuses wsL_refuses { frames := 14, cells := 155, slots := 930, locals := 349 } D cI cL tw [.ref y0] [(y0, .inr (1, [.ref b, .ref y2, .int (iI (tu)), .int (iI (gc)), .int (iI (ph)), .int (iI (mo))])), (y2, .inl (cI, 4, .inl (aI C))), (b, .inr (0, [.ref pq, .ref cq])), (pq, .inl (cI, 16, .inl (aI P))), (cq, .inl (cI, 136, .inl (aI (cnt P))))] (fun (z : Int) (u : Unit) => z = 1) (fun _ : Unit => [(y0, .inr (1, [.ref b, .ref y2, .int (iI (tu)), .int (iI (gc)), .int (iI (ph)), .int (iI (mo))])), (y2, .inl (cI, 4, .inl (aI C))), (b, .inr (0, [.ref pq, .ref cq])), (pq, .inl (cI, 16, .inl (aI P))), (cq, .inl (cI, 136, .inl (aI (cnt P))))]) 155 930 := by
  refine rwm_of (cc := cL_refuses) (maxL := 9) (rt := .boolean) (own := RL) (by decide) rfl rfl ⟨rfl, fun z u h => Or.inr h⟩ (Nat.le_of_ble_eq_true rfl) ?_
  intro p e R s mt args below meth c H0 Q ls A S hR hRc hE hP hD hS hA hl hret
  obtain ⟨hx, hb, hml, hown, hts⟩ := id S
  have hl : lv_has ls 9 [(0, .ref y0)] := hl
  refine lv_aload_n hx hb dL_refuses_0 rfl (lv_at hl 0 rfl) ?_
  refine q_RO (As := []) (rest := []) S (c_X1_phase l D cI cL tw (y0) (y2) (b) (pq) (cq) (tu) (ph) (mo) (gc) (P) (C) (by omega) (by omega) (by omega) (by omega) (by omega)) (ph) (fun z h => h) gL_refuses_X1_phase rfl rfl rfl ⟨rfl, f_X1_phase⟩ hR (Nat.le_of_ble_eq_true rfl) (Nat.le_of_ble_eq_true rfl) (hE.kept hS.2.1) hP [0, 1, 2, 3, 4] rfl 0 rfl rfl rfl hl.1 rfl (Nat.le_of_ble_eq_true rfl) dL_refuses_1 ⟨Nat.le_trans (Nat.le_of_ble_eq_true rfl) hRc.1, Nat.le_trans (Nat.le_of_ble_eq_true rfl) hRc.2⟩ ?_
  refine lv_istore_n (lv' := [(1, .int (iI (ph))), (0, .ref y0)]) hx hb dL_refuses_4 rfl hl (by decide) rfl (fun ls hl => ?_)
  refine lv_aload_n hx hb dL_refuses_5 rfl (lv_at hl 1 rfl) ?_
  refine q_RO (As := []) (rest := []) S (c_X1_onTurn l D cI cL tw (y0) (y2) (b) (pq) (cq) (tu) (ph) (mo) (gc) (P) (C) (by omega) (by omega) (by omega) (by omega) (by omega)) (tu) (fun z h => h) gL_refuses_X1_onTurn rfl rfl rfl ⟨rfl, f_X1_onTurn⟩ hR (Nat.le_of_ble_eq_true rfl) (Nat.le_of_ble_eq_true rfl) (hE.kept hS.2.1) hP [0, 1, 2, 3, 4] rfl 0 rfl rfl rfl hl.1 rfl (Nat.le_of_ble_eq_true rfl) dL_refuses_6 ⟨Nat.le_trans (Nat.le_of_ble_eq_true rfl) hRc.1, Nat.le_trans (Nat.le_of_ble_eq_true rfl) hRc.2⟩ ?_
  refine lv_istore_n (lv' := [(2, .int (iI (tu))), (1, .int (iI (ph))), (0, .ref y0)]) hx hb dL_refuses_9 rfl hl (by decide) rfl (fun ls hl => ?_)
  refine lv_ldc (own := RL) (v := 2147483647) hx hb hown (hts _ mw_L_refuses_0) dL_refuses_10 ?_
  rw [show (2147483647 : Int32) = iI 2147483647 from by decide]
  refine lv_istore_n (lv' := [(3, .int (iI (2147483647))), (2, .int (iI (tu))), (1, .int (iI (ph))), (0, .ref y0)]) hx hb dL_refuses_12 rfl hl (by decide) rfl (fun ls hl => ?_)
  refine r_iconst hx hb dL_refuses_13 ?_
  refine lv_istore (lv' := [(4, .int (iI (0))), (3, .int (iI (2147483647))), (2, .int (iI (tu))), (1, .int (iI (ph))), (0, .ref y0)]) hx hb dL_refuses_14 hl (by decide) rfl (fun ls hl => ?_)
  exact sg_L_refuses_1 S hst hR hRc hE hA (y0) (y2) (b) (pq) (cq) (tu) (ph) (mo) (gc) (P) (C) hB htu hgc hph hmo hret hP hD hS hl
