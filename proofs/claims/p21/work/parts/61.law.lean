set_option maxHeartbeats 4000000 in
set_option maxRecDepth 100000 in
theorem law_in {p : Program} {l : Launch} {e : Env} {s : State} {mt : MethodId} {below : List Frame} {meth : Method} {c : Code} {sb : Nat} {D : va_G} {cI cL : ClassId} {tw : Nat} {A : Nat → Prop} {Q : State → Prop} (S : CallFix p mt c cL_law 8 s #[Value.ref sb] wsL_law RL) (hst : l.stackTraces = false) (hE : EV D cI cL tw A s s.heap) (hA : ∀ q : Nat, s.heap.size ≤ q → A q) (y0 y2 b pq cq : Nat) (k x : Int) (hx0 : 0 ≤ x ∧ x ≤ 8388607) (cb eb : Nat) (hcb : cb ≤ 20000) (heb : eb ≤ 200000) (K : ∀ (tu gc mo : Int) (P C : Int → Int) (H : Heap) (locs : List Loc) (ce sl : Nat) (ls : Array Slot), ce ≤ cb + 20 → sl ≤ eb + 120 → LH (k + 1) tu gc mo P → va_P D vwCl [(y0, .inr (1, [.ref b, .ref y2, .int (iI (tu)), .int (iI (gc)), .int (iI (0)), .int (iI (mo))])), (y2, .inl (cI, 4, .inl (aI C))), (b, .inr (0, [.ref pq, .ref cq])), (pq, .inl (cI, 16, .inl (aI P))), (cq, .inl (cI, 136, .inl (aI (cnt P))))] H → va_D A [(y0, .inr (1, [.ref b, .ref y2, .int (iI (tu)), .int (iI (gc)), .int (iI (0)), .int (iI (mo))])), (y2, .inl (cI, 4, .inl (aI C))), (b, .inr (0, [.ref pq, .ref cq])), (pq, .inl (cI, 16, .inl (aI P))), (cq, .inl (cI, 136, .inl (aI (cnt P))))] → va_S A s.heap H locs → lv_has ls 8 [(2, .int (iI (k))), (0, .ref sb), (1, .ref y0)] → W p l e room_1 s mt #[Value.ref sb] below meth c H locs ce sl Q (F0 mt 167 ls [])) : ∀ (d : Nat) (i : Int) (tu gc ph mo : Int) (P C : Int → Int) (H : Heap) (locs : List Loc) (ce sl : Nat) (ls : Array Slot), (d : Int) = 4 - i → 0 ≤ i ∧ i ≤ 4 → (ce : Int) ≤ cb + 5 * i → (sl : Int) ≤ eb + 30 * i → LT k x i tu gc ph mo P → 0 ≤ ph ∧ ph ≤ 1 → va_P D vwCl [(y0, .inr (1, [.ref b, .ref y2, .int (iI (tu)), .int (iI (gc)), .int (iI (ph)), .int (iI (mo))])), (y2, .inl (cI, 4, .inl (aI C))), (b, .inr (0, [.ref pq, .ref cq])), (pq, .inl (cI, 16, .inl (aI P))), (cq, .inl (cI, 136, .inl (aI (cnt P))))] H → va_D A [(y0, .inr (1, [.ref b, .ref y2, .int (iI (tu)), .int (iI (gc)), .int (iI (ph)), .int (iI (mo))])), (y2, .inl (cI, 4, .inl (aI C))), (b, .inr (0, [.ref pq, .ref cq])), (pq, .inl (cI, 16, .inl (aI P))), (cq, .inl (cI, 136, .inl (aI (cnt P))))] → va_S A s.heap H locs → lv_has ls 8 [(5, .int (iI (i))), (2, .int (iI (k))), (3, .int (iI (x))), (0, .ref sb), (1, .ref y0)] → W p l e room_1 s mt #[Value.ref sb] below meth c H locs ce sl Q (F0 mt 95 ls []) := by
  obtain ⟨hx, hb, hml, hown, hts⟩ := id S
  have hR : room_1.frames ≤ room_1.frames ∧ room_1.locals ≤ room_1.locals := ⟨Nat.le_refl _, Nat.le_refl _⟩
  intro d
  induction d using Nat.strongRecOn with
  | ind d ih =>
  intro i tu gc ph mo P C H locs ce sl ls hd hi hce hsl hLT hph hP hD hS hl
  obtain ⟨hk, htu, hgc, hmo, hB, -⟩ := id hLT
  have hmvr := mv_rng P htu
  refine lv_iload hx hb dL_law_95 (lv_at hl 0 rfl) ?_
  refine r_iconst hx hb dL_law_97 ?_
  refine r_icmp_ge (tgt := 167) hx hb dL_law_98 (by decide) (by unfold rI; omega) (by unfold rI; decide) (fun h98 => ?_) (fun h98 => ?_)
  · have e4 : i = 4 := by omega
    subst e4
    have hne := law_4 hLT
    have h0 : ph = 0 := (law_0 hLT hne).1
    subst h0
    exact K tu gc mo P C _ _ _ _ _ (by omega) (by omega) (law_0 hLT hne).2 hP hD hS (lv_sub hl [1, 3, 4] rfl)
  · refine lv_aload_n hx hb dL_law_101 rfl (lv_at hl 4 rfl) ?_
    refine q_RO (As := []) (rest := []) S (c_X1_phase l D cI cL tw (y0) (y2) (b) (pq) (cq) (tu) (ph) (mo) (gc) (P) (C) (hB) (by omega) (by omega) (by omega) (by omega)) (ph) (fun z h => h) gL_law_X1_phase rfl rfl rfl ⟨rfl, f_X1_phase⟩ hR (Nat.le_of_ble_eq_true rfl) (Nat.le_of_ble_eq_true rfl) (hE.kept hS.2.1) hP [0, 1, 2, 3, 4] rfl 0 rfl rfl rfl hl.1 rfl (Nat.le_of_ble_eq_true rfl) dL_law_102 ⟨by show ce ≤ 643173; omega, by show sl ≤ 7171948; omega⟩ ?_
    refine r_iconst hx hb dL_law_105 ?_
    refine r_icmp_ne (tgt := 167) hx hb dL_law_106 (by decide) (by unfold rI; omega) (by unfold rI; decide) (fun h106 => ?_) (fun h106 => ?_)
    · have hne := h106
      have h0 : ph = 0 := (law_0 hLT hne).1
      subst h0
      exact K tu gc mo P C _ _ _ _ _ (by omega) (by omega) (law_0 hLT hne).2 hP hD hS (lv_sub hl [1, 3, 4] rfl)
    · subst h106
      refine lv_iload hx hb dL_law_109 (lv_at hl 0 rfl) ?_
      refine lv_iload_n hx hb dL_law_111 rfl (lv_at hl 2 rfl) ?_
      refine r_iadd hx hb dL_law_112 ?_
      refine r_iconst hx hb dL_law_113 ?_
      refine r_irem hx hb dL_law_114 (by omega) (by omega) ?_
      refine lv_istore (lv' := [(6, .int (iI (((i) + (x)) % (4)))), (5, .int (iI (i))), (2, .int (iI (k))), (3, .int (iI (x))), (0, .ref sb), (1, .ref y0)]) hx hb dL_law_115 hl (by decide) rfl (fun ls hl => ?_)
      by_cases hc : can P (4 * mv P tu + (i + x) % 4) mo = 0
      · refine lv_aload_n hx hb dL_law_117 rfl (lv_at hl 5 rfl) ?_
        refine q_Xi (As := []) (rest := []) S (c_X1_movable l hst D cI cL tw (y0) (y2) (b) (pq) (cq) (tu) (1) (mo) (gc) (P) (C) (hB) (by omega) (by omega) (by omega) (by omega)) (ms P (mv P tu) mo) (fun z h => h.2) (fun E h => by (try dsimp only at h); first | (rcases h with ⟨_, h⟩ | ⟨_, h⟩ <;> omega) | (obtain ⟨_, h⟩ := h; omega)) gL_law_X1_movable rfl rfl rfl ⟨rfl, f_X1_movable⟩ hR (Nat.le_of_ble_eq_true rfl) (Nat.le_of_ble_eq_true rfl) (hE.kept hS.2.1) hP hS hA [0, 1, 2, 3, 4] rfl 0 rfl rfl rfl hl.1 rfl (Nat.le_of_ble_eq_true rfl) dL_law_118 ⟨by show ce + 1 ≤ 643173; omega, by show sl + 6 ≤ 7171948; omega⟩ (fun H locs hP hS => ?_)
        refine lv_iload hx hb dL_law_121 (lv_at hl 0 rfl) ?_
        refine lv_ishr hx hb dL_law_123 ?_
        refine r_iconst hx hb dL_law_124 ?_
        refine lv_iand hx hb dL_law_125 ?_
        rw [(law_bit (by omega)).2 hc]
        refine r_iconst hx hb dL_law_126 ?_
        refine r_icmp_ne (tgt := 134) hx hb dL_law_127 (by decide) (by unfold rI; decide) (by unfold rI; decide) (fun h127 => ?_) (fun h9 => absurd h9 (by omega))
        refine r_iconst hx hb dL_law_134 ?_
        refine lv_istore (lv' := [(7, .int (iI (0))), (6, .int (iI (((i) + (x)) % (4)))), (5, .int (iI (i))), (2, .int (iI (k))), (3, .int (iI (x))), (0, .ref sb), (1, .ref y0)]) hx hb dL_law_135 hl (by decide) rfl (fun ls hl => ?_)
        refine lv_aload_n hx hb dL_law_137 rfl (lv_at hl 6 rfl) ?_
        refine r_iconst hx hb dL_law_138 ?_
        refine lv_iload hx hb dL_law_139 (lv_at hl 1 rfl) ?_
        refine r_iconst hx hb dL_law_141 ?_
        refine r_iconst hx hb dL_law_142 ?_
        refine q_LS (As := [.ref y0, .int (iI (1)), .int (iI (((i) + (x)) % (4))), .int (iI (0)), .int (iI (0))]) (rest := []) (wr := []) S (c_L_act_1r l hst D cI cL tw (y0) (y2) (b) (pq) (cq) (tu) (1) (mo) (gc) (P) (C) (((i) + (x)) % (4)) (0) (0) (hB) (by omega) (by omega) (by omega) (by omega) (by omega) (by omega) (by omega) (Or.inr (Or.inr hc))) (-903) (()) (fun z u h => ⟨by (try dsimp only at h); omega, rfl⟩) gL_law_L_act rfl rfl rfl f_L_act hR (Nat.le_of_ble_eq_true rfl) (Nat.le_of_ble_eq_true rfl) (hE.kept hS.2.1) hP hD hS hA [0, 1, 2, 3, 4] [] rfl rfl (by decide) rfl (by decide) (by decide) rfl hl.1 rfl (Nat.le_of_ble_eq_true rfl) dL_law_143 ⟨by show (ce + 1) + 3 ≤ 643173; omega, by show (sl + 6) + 18 ≤ 7171948; omega⟩ (fun H locs hP hD hS => ?_)
        have hP : va_P D vwCl [(y0, .inr (1, [.ref b, .ref y2, .int (iI (tu)), .int (iI (gc)), .int (iI (1)), .int (iI (mo))])), (y2, .inl (cI, 4, .inl (aI C))), (b, .inr (0, [.ref pq, .ref cq])), (pq, .inl (cI, 16, .inl (aI P))), (cq, .inl (cI, 136, .inl (aI (cnt P))))] H := hP
        have hD : va_D A [(y0, .inr (1, [.ref b, .ref y2, .int (iI (tu)), .int (iI (gc)), .int (iI (1)), .int (iI (mo))])), (y2, .inl (cI, 4, .inl (aI C))), (b, .inr (0, [.ref pq, .ref cq])), (pq, .inl (cI, 16, .inl (aI P))), (cq, .inl (cI, 136, .inl (aI (cnt P))))] := hD
        refine r_if_le (tgt := 153) hx hb dL_law_146 (by decide) (by unfold rI; decide) (fun h146 => ?_) (fun h9 => absurd h9 (by omega))
        refine r_iconst hx hb dL_law_153 ?_
        refine lv_iload hx hb dL_law_154 (lv_at hl 0 rfl) ?_
        refine r_icmp_eq (tgt := 161) hx hb dL_law_156 (by decide) (by unfold rI; decide) (by unfold rI; decide) (fun h156 => ?_) (fun h9 => absurd h9 (by omega))
        refine lv_iinc (v := iI (i + 1)) (lv' := [(5, .int (iI (i + 1))), (7, .int (iI (0))), (6, .int (iI (((i) + (x)) % (4)))), (2, .int (iI (k))), (3, .int (iI (x))), (0, .ref sb), (1, .ref y0)]) hx hb dL_law_161 hl (k := 2) rfl (iI_add _ _) (by decide) rfl (fun ls hl => ?_)
        refine lv_goto (tgt := 95) hx hb dL_law_164 (by decide) ?_
        exact ih (4 - (i + 1)).toNat (nlt (by omega) hd (by omega)) (i + 1) tu gc 1 mo P C _ _ _ _ _ (Int.toNat_of_nonneg (by omega)) (by omega) (by omega) (by omega) (law_no hLT hc) (by omega) hP hD hS (lv_sub hl [0, 3, 4, 5, 6] rfl)
      · refine lv_aload_n hx hb dL_law_117 rfl (lv_at hl 5 rfl) ?_
        refine q_Xi (As := []) (rest := []) S (c_X1_movable l hst D cI cL tw (y0) (y2) (b) (pq) (cq) (tu) (1) (mo) (gc) (P) (C) (hB) (by omega) (by omega) (by omega) (by omega)) (ms P (mv P tu) mo) (fun z h => h.2) (fun E h => by (try dsimp only at h); first | (rcases h with ⟨_, h⟩ | ⟨_, h⟩ <;> omega) | (obtain ⟨_, h⟩ := h; omega)) gL_law_X1_movable rfl rfl rfl ⟨rfl, f_X1_movable⟩ hR (Nat.le_of_ble_eq_true rfl) (Nat.le_of_ble_eq_true rfl) (hE.kept hS.2.1) hP hS hA [0, 1, 2, 3, 4] rfl 0 rfl rfl rfl hl.1 rfl (Nat.le_of_ble_eq_true rfl) dL_law_118 ⟨by show ce + 1 ≤ 643173; omega, by show sl + 6 ≤ 7171948; omega⟩ (fun H locs hP hS => ?_)
        refine lv_iload hx hb dL_law_121 (lv_at hl 0 rfl) ?_
        refine lv_ishr hx hb dL_law_123 ?_
        refine r_iconst hx hb dL_law_124 ?_
        refine lv_iand hx hb dL_law_125 ?_
        rw [(law_bit (by omega)).1 hc]
        refine r_iconst hx hb dL_law_126 ?_
        refine r_icmp_ne (tgt := 134) hx hb dL_law_127 (by decide) (by unfold rI; decide) (by unfold rI; decide) (fun h9 => absurd h9 (by omega)) (fun h127 => ?_)
        refine r_iconst hx hb dL_law_130 ?_
        refine lv_goto (tgt := 135) hx hb dL_law_131 (by decide) ?_
        refine lv_istore (lv' := [(7, .int (iI (1))), (6, .int (iI (((i) + (x)) % (4)))), (5, .int (iI (i))), (2, .int (iI (k))), (3, .int (iI (x))), (0, .ref sb), (1, .ref y0)]) hx hb dL_law_135 hl (by decide) rfl (fun ls hl => ?_)
        refine lv_aload_n hx hb dL_law_137 rfl (lv_at hl 6 rfl) ?_
        refine r_iconst hx hb dL_law_138 ?_
        refine lv_iload hx hb dL_law_139 (lv_at hl 1 rfl) ?_
        refine r_iconst hx hb dL_law_141 ?_
        refine r_iconst hx hb dL_law_142 ?_
        refine r_lcS (As := [.ref y0, .int (iI (1)), .int (iI (((i) + (x)) % (4))), .int (iI (0)), .int (iI (0))]) (rest := []) (wr := []) S (c_L_act_1k l hst D cI cL tw (y0) (y2) (b) (pq) (cq) (tu) (1) (mo) (gc) (P) (C) (((i) + (x)) % (4)) (0) (0) (hB) (by omega) (by omega) (by omega) (by omega) (by omega) (by omega) (by omega) (by omega) (by omega) (hc)) gL_law_L_act rfl rfl rfl f_L_act hR (Nat.le_of_ble_eq_true rfl) (Nat.le_of_ble_eq_true rfl) (hE.kept hS.2.1) hP hD hS hA [0, 1, 2, 3, 4] [] rfl rfl (by decide) rfl (by decide) (by decide) rfl hl.1 rfl (Nat.le_of_ble_eq_true rfl) dL_law_143 ⟨by show (ce + 1) + 3 ≤ 643173; omega, by show (sl + 6) + 18 ≤ 7171948; omega⟩ (fun z143 u143 H locs hz143 hP hD hS => ?_)
        obtain ⟨u143a, u143b, u143c, u143d, u143e⟩ := u143
        dsimp only at hz143
        have hP : va_P D vwCl [(y0, .inr (1, [.ref b, .ref y2, .int (iI (u143a)), .int (iI (u143b)), .int (iI (u143c)), .int (iI (mo))])), (y2, .inl (cI, 4, .inl (aI u143e))), (b, .inr (0, [.ref pq, .ref cq])), (pq, .inl (cI, 16, .inl (aI u143d))), (cq, .inl (cI, 136, .inl (aI (cnt u143d))))] H := hP
        have hD : va_D A [(y0, .inr (1, [.ref b, .ref y2, .int (iI (u143a)), .int (iI (u143b)), .int (iI (u143c)), .int (iI (mo))])), (y2, .inl (cI, 4, .inl (aI u143e))), (b, .inr (0, [.ref pq, .ref cq])), (pq, .inl (cI, 16, .inl (aI u143d))), (cq, .inl (cI, 136, .inl (aI (cnt u143d))))] := hD
        obtain ⟨hLT2, hz1, hz2, hc0⟩ := law_mv (i2 := i + 1) hLT (by omega) hz143
        subst hc0
        have hP : va_P D vwCl [(y0, .inr (1, [.ref b, .ref y2, .int (iI (u143a)), .int (iI (u143b)), .int (iI (0)), .int (iI (mo))])), (y2, .inl (cI, 4, .inl (aI u143e))), (b, .inr (0, [.ref pq, .ref cq])), (pq, .inl (cI, 16, .inl (aI u143d))), (cq, .inl (cI, 136, .inl (aI (cnt u143d))))] H := hP
        have hD : va_D A [(y0, .inr (1, [.ref b, .ref y2, .int (iI (u143a)), .int (iI (u143b)), .int (iI (0)), .int (iI (mo))])), (y2, .inl (cI, 4, .inl (aI u143e))), (b, .inr (0, [.ref pq, .ref cq])), (pq, .inl (cI, 16, .inl (aI u143d))), (cq, .inl (cI, 136, .inl (aI (cnt u143d))))] := hD
        refine r_if_le (tgt := 153) hx hb dL_law_146 (by decide) (by unfold rI; omega) (fun h9 => absurd h9 (by omega)) (fun h146 => ?_)
        refine r_iconst hx hb dL_law_149 ?_
        refine lv_goto (tgt := 154) hx hb dL_law_150 (by decide) ?_
        refine lv_iload hx hb dL_law_154 (lv_at hl 0 rfl) ?_
        refine r_icmp_eq (tgt := 161) hx hb dL_law_156 (by decide) (by unfold rI; decide) (by unfold rI; decide) (fun h156 => ?_) (fun h9 => absurd h9 (by omega))
        refine lv_iinc (v := iI (i + 1)) (lv' := [(5, .int (iI (i + 1))), (7, .int (iI (1))), (6, .int (iI (((i) + (x)) % (4)))), (2, .int (iI (k))), (3, .int (iI (x))), (0, .ref sb), (1, .ref y0)]) hx hb dL_law_161 hl (k := 2) rfl (iI_add _ _) (by decide) rfl (fun ls hl => ?_)
        refine lv_goto (tgt := 95) hx hb dL_law_164 (by decide) ?_
        exact ih (4 - (i + 1)).toNat (nlt (by omega) hd (by omega)) (i + 1) u143a u143b 0 mo u143d u143e _ _ _ _ _ (Int.toNat_of_nonneg (by omega)) (by omega) (by omega) (by omega) hLT2 (by omega) hP hD hS (lv_sub hl [0, 3, 4, 5, 6] rfl)
set_option maxHeartbeats 4000000 in
set_option maxRecDepth 100000 in
theorem law_out {p : Program} {l : Launch} {e : Env} {s : State} {mt : MethodId} {below : List Frame} {meth : Method} {c : Code} {sb L : Nat} {xs : Nat → Int32} {D : va_G} {cI cL : ClassId} {tw : Nat} {A : Nat → Prop} (S : CallFix p mt c cL_law 8 s #[Value.ref sb] wsL_law RL) (hst : l.stackTraces = false) (hE : EV D cI cL tw A s s.heap) (hA : ∀ q : Nat, s.heap.size ≤ q → A q) (hX : va_X sb L xs s s.heap) (hbl : sb < s.heap.size) (hbA : ¬ A sb) (hL : L ≤ 260) (hr : meth.sig.returnType = ret) (hlocks : meth.locks = false) (hAd : ∀ q : Nat, A q → s.heap.size ≤ q) (y0 y2 b pq cq : Nat) : ∀ (d : Nat) (k : Int) (cells slots : Nat) (tu gc mo : Int) (P C : Int → Int) (H : Heap) (locs : List Loc) (ls : Array Slot), (d : Int) = 40 - k → (cells : Int) ≤ 3000 + 200 * k → (slots : Int) ≤ 20000 + 1200 * k → LH k tu gc mo P → va_P D vwCl [(y0, .inr (1, [.ref b, .ref y2, .int (iI (tu)), .int (iI (gc)), .int (iI (0)), .int (iI (mo))])), (y2, .inl (cI, 4, .inl (aI C))), (b, .inr (0, [.ref pq, .ref cq])), (pq, .inl (cI, 16, .inl (aI P))), (cq, .inl (cI, 136, .inl (aI (cnt P))))] H → va_D A [(y0, .inr (1, [.ref b, .ref y2, .int (iI (tu)), .int (iI (gc)), .int (iI (0)), .int (iI (mo))])), (y2, .inl (cI, 4, .inl (aI C))), (b, .inr (0, [.ref pq, .ref cq])), (pq, .inl (cI, 16, .inl (aI P))), (cq, .inl (cI, 136, .inl (aI (cnt P))))] → va_S A s.heap H locs → lv_has ls 8 [(2, .int (iI (k))), (0, .ref sb), (1, .ref y0)] → W p l e room_1 s mt #[Value.ref sb] below meth c H locs cells slots (lw_Z below #[Value.ref sb] s) (F0 mt 30 ls []) := by
  obtain ⟨hx, hb, hml, hown, hts⟩ := id S
  have hR : room_1.frames ≤ room_1.frames ∧ room_1.locals ≤ room_1.locals := ⟨Nat.le_refl _, Nat.le_refl _⟩
  intro d
  induction d using Nat.strongRecOn with
  | ind d ih =>
  intro k cells slots tu gc mo P C H locs ls hd hce hsl hLH hP hD hS hl
  obtain ⟨hk, htu, hgc, hmo, hB, -⟩ := id hLH
  refine lv_iload_n hx hb dL_law_30 rfl (lv_at hl 0 rfl) ?_
  refine r_bipush hx hb dL_law_31 (by decide) ?_
  refine r_icmp_ge (tgt := 173) hx hb dL_law_33 (by decide) (by unfold rI; omega) (by unfold rI; decide) (fun h33 => ?_) (fun h33 => ?_)
  · refine lv_iconst (v := 1) hx hb dL_law_173 (by decide) ?_
    refine va_forget (fun q hq => hAd _ (hS.2.2 q hq)) ?_
    refine W.widen (k := 643173) (n := 7171948) (by omega) (by omega) ?_
    exact lw_ret hx hb hr hlocks dL_law_174
  · have K : ∀ (tu gc mo : Int) (P C : Int → Int) (H : Heap) (locs : List Loc) (ce sl : Nat) (ls : Array Slot), ce ≤ (cells + 160) + 20 → sl ≤ (slots + 960) + 120 → LH (k + 1) tu gc mo P → va_P D vwCl [(y0, .inr (1, [.ref b, .ref y2, .int (iI (tu)), .int (iI (gc)), .int (iI (0)), .int (iI (mo))])), (y2, .inl (cI, 4, .inl (aI C))), (b, .inr (0, [.ref pq, .ref cq])), (pq, .inl (cI, 16, .inl (aI P))), (cq, .inl (cI, 136, .inl (aI (cnt P))))] H → va_D A [(y0, .inr (1, [.ref b, .ref y2, .int (iI (tu)), .int (iI (gc)), .int (iI (0)), .int (iI (mo))])), (y2, .inl (cI, 4, .inl (aI C))), (b, .inr (0, [.ref pq, .ref cq])), (pq, .inl (cI, 16, .inl (aI P))), (cq, .inl (cI, 136, .inl (aI (cnt P))))] → va_S A s.heap H locs → lv_has ls 8 [(2, .int (iI (k))), (0, .ref sb), (1, .ref y0)] → W p l e room_1 s mt #[Value.ref sb] below meth c H locs ce sl (lw_Z below #[Value.ref sb] s) (F0 mt 167 ls []) := by
      intro tu gc mo P C H locs ce sl ls h1 h2 h3 hP hD hS hl
      refine lv_iinc (v := iI (k + 1)) (lv' := [(2, .int (iI (k + 1))), (0, .ref sb), (1, .ref y0)]) hx hb dL_law_167 hl (k := 0) rfl (iI_add _ _) (by decide) rfl (fun ls hl => ?_)
      refine lv_goto (tgt := 30) hx hb dL_law_170 (by decide) ?_
      exact ih (40 - (k + 1)).toNat (nlt (by omega) hd (by omega)) (k + 1) ce sl tu gc mo P C H locs ls (Int.toNat_of_nonneg (by omega)) (by omega) (by omega) h3 hP hD hS hl
    have KX : ∀ (x : Int) (ls : Array Slot), 0 ≤ x ∧ x ≤ 8388607 → lv_has ls 8 [(3, .int (iI (x))), (2, .int (iI (k))), (0, .ref sb), (1, .ref y0)] → W p l e room_1 s mt #[Value.ref sb] below meth c H locs cells slots (lw_Z below #[Value.ref sb] s) (F0 mt 57 ls []) := by
      intro x ls hx0 hl
      refine lv_aload_n hx hb dL_law_57 rfl (lv_at hl 3 rfl) ?_
      refine r_iconst hx hb dL_law_58 ?_
      refine lv_iload_n hx hb dL_law_59 rfl (lv_at hl 0 rfl) ?_
      refine r_bipush hx hb dL_law_60 (by decide) ?_
      refine r_irem hx hb dL_law_62 (by omega) (by omega) ?_
      refine r_iconst hx hb dL_law_63 ?_
      refine r_iconst hx hb dL_law_64 ?_
      refine r_lcS (As := [.ref y0, .int (iI (0)), .int (iI ((x) % (7))), .int (iI (0)), .int (iI (0))]) (rest := []) (wr := []) S (c_L_act_0k l hst D cI cL tw (y0) (y2) (b) (pq) (cq) (tu) (0) (mo) (gc) (P) (C) ((x) % (7)) (0) (0) (hB) (by omega) (by omega) (by omega) (by omega) (by omega) (by omega) (by omega) (by omega) (by omega)) gL_law_L_act rfl rfl rfl f_L_act hR (Nat.le_of_ble_eq_true rfl) (Nat.le_of_ble_eq_true rfl) (hE.kept hS.2.1) hP hD hS hA [0, 1, 2, 3, 4] [] rfl rfl (by decide) rfl (by decide) (by decide) rfl hl.1 rfl (Nat.le_of_ble_eq_true rfl) dL_law_65 ⟨by show cells + 1 ≤ 643173; omega, by show slots + 6 ≤ 7171948; omega⟩ (fun z65 u65 H locs hz65 hP hD hS => ?_)
      obtain ⟨u65a, u65b, u65c, u65d⟩ := u65
      dsimp only at hz65
      have hP : va_P D vwCl [(y0, .inr (1, [.ref b, .ref y2, .int (iI (u65a)), .int (iI (u65b)), .int (iI (u65c)), .int (iI (u65d))])), (y2, .inl (cI, 4, .inl (aI C))), (b, .inr (0, [.ref pq, .ref cq])), (pq, .inl (cI, 16, .inl (aI P))), (cq, .inl (cI, 136, .inl (aI (cnt P))))] H := hP
      have hD : va_D A [(y0, .inr (1, [.ref b, .ref y2, .int (iI (u65a)), .int (iI (u65b)), .int (iI (u65c)), .int (iI (u65d))])), (y2, .inl (cI, 4, .inl (aI C))), (b, .inr (0, [.ref pq, .ref cq])), (pq, .inl (cI, 16, .inl (aI P))), (cq, .inl (cI, 136, .inl (aI (cnt P))))] := hD
      obtain ⟨hLT, hz0, hz1, hz2, hp0, hp1⟩ := law_ts (x := x) hLH (by omega) (by omega) hz65
      obtain ⟨g1, g2, g3, g4, g5, -⟩ := id hLT
      refine lv_istore (lv' := [(4, .int (iI (z65))), (3, .int (iI (x))), (2, .int (iI (k))), (0, .ref sb), (1, .ref y0)]) hx hb dL_law_68 hl (by decide) rfl (fun ls hl => ?_)
      refine lv_iload hx hb dL_law_70 (lv_at hl 0 rfl) ?_
      refine r_sipush hx hb dL_law_72 (by decide) ?_
      refine r_icmp_eq (tgt := 90) hx hb dL_law_75 (by decide) (by unfold rI; omega) (by unfold rI; decide) (fun h9 => absurd h9 (by omega)) (fun h75 => ?_)
      refine lv_iload hx hb dL_law_78 (lv_at hl 0 rfl) ?_
      refine r_if_eq (tgt := 90) hx hb dL_law_80 (by decide) (by unfold rI; omega) (fun h9 => absurd h9 (by omega)) (fun h80 => ?_)
      refine lv_aload_n hx hb dL_law_83 rfl (lv_at hl 4 rfl) ?_
      refine q_LM (As := [.ref y0]) (rest := []) (wr := []) S (c_L_refuses l hst D cI cL tw (y0) (y2) (b) (pq) (cq) (u65a) (u65c) (u65d) (u65b) (P) (C) (hB) (by omega) (by omega) (by omega) (by omega)) (1) (()) (fun z u h => ⟨h, rfl⟩) gL_law_L_refuses rfl rfl rfl f_L_refuses hR (Nat.le_of_ble_eq_true rfl) (Nat.le_of_ble_eq_true rfl) (hE.kept hS.2.1) hP hD hS hA [0, 1, 2, 3, 4] [] rfl rfl (by decide) rfl (by decide) (by decide) rfl hl.1 rfl (Nat.le_of_ble_eq_true rfl) dL_law_84 ⟨by show (cells + 1) + 155 ≤ 643173; omega, by show (slots + 6) + 930 ≤ 7171948; omega⟩ (fun H locs hP hD hS => ?_)
      have hP : va_P D vwCl [(y0, .inr (1, [.ref b, .ref y2, .int (iI (u65a)), .int (iI (u65b)), .int (iI (u65c)), .int (iI (u65d))])), (y2, .inl (cI, 4, .inl (aI C))), (b, .inr (0, [.ref pq, .ref cq])), (pq, .inl (cI, 16, .inl (aI P))), (cq, .inl (cI, 136, .inl (aI (cnt P))))] H := hP
      have hD : va_D A [(y0, .inr (1, [.ref b, .ref y2, .int (iI (u65a)), .int (iI (u65b)), .int (iI (u65c)), .int (iI (u65d))])), (y2, .inl (cI, 4, .inl (aI C))), (b, .inr (0, [.ref pq, .ref cq])), (pq, .inl (cI, 16, .inl (aI P))), (cq, .inl (cI, 136, .inl (aI (cnt P))))] := hD
      refine r_if_ne (tgt := 92) hx hb dL_law_87 (by decide) (by unfold rI; decide) (fun h87 => ?_) (fun h9 => absurd h9 (by omega))
      refine r_iconst hx hb dL_law_92 ?_
      refine lv_istore (lv' := [(5, .int (iI (0))), (4, .int (iI (z65))), (3, .int (iI (x))), (2, .int (iI (k))), (0, .ref sb), (1, .ref y0)]) hx hb dL_law_93 hl (by decide) rfl (fun ls hl => ?_)
      exact law_in S hst hE hA y0 y2 b pq cq k x hx0 (cells + 160) (slots + 960) (by omega) (by omega) K 4 0 u65a u65b u65c u65d P C _ _ _ _ _ (by decide) (by omega) (by omega) (by omega) hLT (by omega) hP hD hS (lv_sub hl [0, 3, 2, 4, 5] rfl)
    refine lv_aload_n hx hb dL_law_36 rfl (lv_at hl 1 rfl) ?_
    refine r_slen hx hb hX hbl hbA hS dL_law_37 ?_
    refine r_if_ne (tgt := 47) hx hb dL_law_38 (by decide) (by unfold rI; omega) (fun h38 => ?_) (fun h38 => ?_)
    · refine lv_aload_n hx hb dL_law_47 rfl (lv_at hl 1 rfl) ?_
      refine lv_iload_n hx hb dL_law_48 rfl (lv_at hl 0 rfl) ?_
      refine lv_aload_n hx hb dL_law_49 rfl (lv_at hl 1 rfl) ?_
      refine r_slen hx hb hX hbl hbA hS dL_law_50 ?_
      refine r_irem hx hb dL_law_51 (by omega) (by omega) ?_
      have e9 := Int.emod_nonneg k (show (L : Int) ≠ 0 by omega)
      have e8 := Int.emod_lt_of_pos k (show 0 < (L : Int) by omega)
      refine r_sld hx hb hX hbl hbA hS (i := (k) % ((L : Int))) (by omega) (by omega) (by omega) dL_law_52 ?_
      refine r_bipush hx hb dL_law_53 (by decide) ?_
      obtain ⟨v, hv0, hv1, hv⟩ := ushr9 (iI (sX xs ((k) % ((L : Int)))))
      refine lv_iushr hx hb dL_law_55 hv ?_
      refine lv_istore_n (lv' := [(3, .int (iI (v))), (2, .int (iI (k))), (0, .ref sb), (1, .ref y0)]) hx hb dL_law_56 rfl hl (by decide) rfl (fun ls hl => ?_)
      exact KX (v) ls (by omega) (lv_sub hl [0, 1, 2, 3] rfl)
    · refine r_iconst hx hb dL_law_41 ?_
      refine lv_iload_n hx hb dL_law_42 rfl (lv_at hl 0 rfl) ?_
      refine r_imul hx hb dL_law_43 ?_
      refine lv_goto (tgt := 56) hx hb dL_law_44 (by decide) ?_
      refine lv_istore_n (lv' := [(3, .int (iI ((5) * (k)))), (2, .int (iI (k))), (0, .ref sb), (1, .ref y0)]) hx hb dL_law_56 rfl hl (by decide) rfl (fun ls hl => ?_)
      exact KX ((5) * (k)) ls (by omega) (lv_sub hl [0, 1, 2, 3] rfl)
