set_option maxRecDepth 20000 in
theorem mw_L_act_0r_0 : (.classLink RL 53 "java/lang/IndexOutOfBoundsException" : Cond) ∈ wsL_act := by decide +kernel
set_option maxRecDepth 20000 in
theorem mw_L_act_0r_1 : (.classLink RL 55 "java/lang/IllegalArgumentException" : Cond) ∈ wsL_act := by decide +kernel
set_option maxRecDepth 20000 in
theorem mw_L_act_0r_2 : (.classLink RL 57 "java/lang/IllegalStateException" : Cond) ∈ wsL_act := by decide +kernel
theorem f_L_act : yL_act.cls ≠ "java/lang/invoke/MethodHandle" ∧ yL_act.cls ≠ "java/lang/invoke/VarHandle" ∧ (parseMethodDescriptor yL_act.desc).map (fun d => d.parameters.length) = some 5 := by decide +kernel
set_option maxHeartbeats 4000000 in
set_option maxRecDepth 100000 in
theorem c_L_act_0r (l : Launch) (hst : l.stackTraces = false) (D : va_G) (cI cL : ClassId) (tw : Nat) (y0 : Nat) (y2 : Nat) (b : Nat) (pq : Nat) (cq : Nat) (tu : Int) (ph : Int) (mo : Int) (gc : Int) (P : Int → Int) (C : Int → Int) (v1 : Int) (v2 : Int) (v3 : Int) (hB : ∀ i, 0 ≤ P i ∧ P i ≤ 72) (htu : 0 ≤ tu ∧ tu ≤ 3) (hgc : 0 ≤ gc ∧ gc ≤ 2) (hph : 0 ≤ ph ∧ ph ≤ 2) (hmo : 0 ≤ mo ∧ mo ≤ 6) (h_v1 : -2147483648 ≤ v1 ∧ v1 < 2147483648) (h_v2 : -2147483648 ≤ v2 ∧ v2 < 2147483648) (h_v3 : -2147483648 ≤ v3 ∧ v3 < 2147483648) (hno : ¬ (0 ≤ v1 ∧ v1 ≤ 6) ∨ ph ≠ 0) : XWi l yL_act wsL_act { frames := 8, cells := 1, slots := 6, locals := 142 } D cI cL tw [.ref y0, .int (iI (0)), .int (iI (v1)), .int (iI (v2)), .int (iI (v3))] [(y0, .inr (1, [.ref b, .ref y2, .int (iI (tu)), .int (iI (gc)), .int (iI (ph)), .int (iI (mo))])), (y2, .inl (cI, 4, .inl (aI C))), (b, .inr (0, [.ref pq, .ref cq])), (pq, .inl (cI, 16, .inl (aI P))), (cq, .inl (cI, 136, .inl (aI (cnt P))))] (fun (z : Int) (u : Unit) => (z = -902 ∧ ¬ (0 ≤ v1 ∧ v1 ≤ 6)) ∨ (z = -903 ∧ 0 ≤ v1 ∧ v1 ≤ 6)) (fun u : Unit => [(y0, .inr (1, [.ref b, .ref y2, .int (iI (tu)), .int (iI (gc)), .int (iI (ph)), .int (iI (mo))])), (y2, .inl (cI, 4, .inl (aI C))), (b, .inr (0, [.ref pq, .ref cq])), (pq, .inl (cI, 16, .inl (aI P))), (cq, .inl (cI, 136, .inl (aI (cnt P))))]) (fun _ => False) 1 6 := by
  refine lwi_of (cc := cL_act) (maxL := 6) (own := RL) (by decide) rfl rfl (Nat.le_of_ble_eq_true rfl) ?_
  intro p e R s mt args below meth c H0 Q ls A S hR hRc hE hP hD hA hN hl htb hret
  have hS := hN.mono hA
  obtain ⟨hx, hb, hml, hown, hts⟩ := id S
  have hl : lv_has ls 6 [(0, .ref y0), (1, .int (iI (0))), (2, .int (iI (v1))), (3, .int (iI (v2))), (4, .int (iI (v3)))] := hl
  refine lv_iload_n hx hb dL_act_0 rfl (lv_at hl 1 rfl) ?_
  refine r_if_ne (tgt := 12) hx hb dL_act_1 (by decide) (by unfold rI; decide) (fun h9 => absurd h9 (by omega)) (fun h1 => ?_)
  refine lv_aload_n hx hb dL_act_4 rfl (lv_at hl 0 rfl) ?_
  refine lv_iload_n hx hb dL_act_5 rfl (lv_at hl 2 rfl) ?_
  refine r_xcW (As := [.int (iI (v1))]) (rest := []) (wr := []) S (c_X1_throwShells l hst D cI cL tw (y0) (y2) (b) (pq) (cq) (tu) (ph) (mo) (gc) (P) (C) (v1) (hB) (by omega) (by omega) (by omega) (by omega) (by omega)) gL_act_X1_throwShells rfl rfl rfl ⟨rfl, f_X1_throwShells⟩ hR (Nat.le_of_ble_eq_true rfl) (Nat.le_of_ble_eq_true rfl) (hE.kept hS.2.1) hP hD hS hA [0, 1, 2, 3, 4] [] rfl rfl (by decide) rfl (by decide) (by decide) 0 rfl rfl rfl hl.1 rfl (Nat.le_of_ble_eq_true rfl) dL_act_6 ⟨Nat.le_trans (Nat.le_of_ble_eq_true rfl) hRc.1, Nat.le_trans (Nat.le_of_ble_eq_true rfl) hRc.2⟩ (fun E9 ce9 q9 H locs hx9 h91 h92 h93 hP hS => ?_) (fun z6 u6 H locs hz6 hP hD hS => ?_)
  · have htb9 := htb
    rcases hx9 with ⟨rfl, hc9⟩ | ⟨rfl, hc9⟩
    · refine vx_catch (own := RL) hown [⟨0, 179, 180, 53⟩] ⟨0, 179, 186, 55⟩ [⟨0, 179, 192, 57⟩] (htb.trans rfl) (fun z hz => by rw [List.mem_singleton.mp hz]; exact Or.inr ⟨by decide, _, hts _ mw_L_act_0r_0, hE.2.2.2.2.2.2 ("java/lang/IllegalArgumentException", "java/lang/IndexOutOfBoundsException") (by decide +kernel)⟩) (by decide) (by decide) (hts _ mw_L_act_0r_1) (nest_use (by decide +kernel) (hE.2.1 (.castable "java/lang/IllegalArgumentException" "java/lang/IllegalArgumentException") (by decide +kernel))) h91 h92 h93 ?_
      refine lv_astore (lv' := [(5, .ref q9), (0, .ref y0), (1, .int (iI (0))), (2, .int (iI (v1))), (3, .int (iI (v2))), (4, .int (iI (v3)))]) hx hb dL_act_186 hl (by decide) rfl (fun ls hl => ?_)
      refine r_sipush hx hb dL_act_188 (by decide) ?_
      exact hret (-902) () _ _ _ _ _ _ dL_act_191 (by first | rfl | omega | (dsimp only; omega)) hP hD hS (Nat.le_of_ble_eq_true rfl) (Nat.le_of_ble_eq_true rfl)
    · refine vx_catch (own := RL) hown [⟨0, 179, 180, 53⟩, ⟨0, 179, 186, 55⟩] ⟨0, 179, 192, 57⟩ [] (htb.trans rfl) (fun z hz => by simp only [List.mem_cons, List.not_mem_nil, or_false] at hz; rcases hz with rfl | rfl; (exact Or.inr ⟨by decide, _, hts _ mw_L_act_0r_0, hE.2.2.2.2.2.2 ("java/lang/IllegalStateException", "java/lang/IndexOutOfBoundsException") (by decide +kernel)⟩); exact Or.inr ⟨by decide, _, hts _ mw_L_act_0r_1, hE.2.2.2.2.2.2 ("java/lang/IllegalStateException", "java/lang/IllegalArgumentException") (by decide +kernel)⟩) (by decide) (by decide) (hts _ mw_L_act_0r_2) (nest_use (by decide +kernel) (hE.2.1 (.castable "java/lang/IllegalStateException" "java/lang/IllegalStateException") (by decide +kernel))) h91 h92 h93 ?_
      refine lv_astore (lv' := [(5, .ref q9), (0, .ref y0), (1, .int (iI (0))), (2, .int (iI (v1))), (3, .int (iI (v2))), (4, .int (iI (v3)))]) hx hb dL_act_192 hl (by decide) rfl (fun ls hl => ?_)
      refine r_sipush hx hb dL_act_194 (by decide) ?_
      exact hret (-903) () _ _ _ _ _ _ dL_act_197 (by first | rfl | omega | (dsimp only; omega)) hP hD hS (Nat.le_of_ble_eq_true rfl) (Nat.le_of_ble_eq_true rfl)
  · exact (by (have h9 := hz6); (try dsimp only at h9); omega : False).elim

set_option maxRecDepth 20000 in
theorem mw_L_act_1r_0 : (.classLink RL 53 "java/lang/IndexOutOfBoundsException" : Cond) ∈ wsL_act := by decide +kernel
set_option maxRecDepth 20000 in
theorem mw_L_act_1r_1 : (.classLink RL 55 "java/lang/IllegalArgumentException" : Cond) ∈ wsL_act := by decide +kernel
set_option maxRecDepth 20000 in
theorem mw_L_act_1r_2 : (.classLink RL 57 "java/lang/IllegalStateException" : Cond) ∈ wsL_act := by decide +kernel
set_option maxHeartbeats 4000000 in
set_option maxRecDepth 100000 in
theorem c_L_act_1r (l : Launch) (hst : l.stackTraces = false) (D : va_G) (cI cL : ClassId) (tw : Nat) (y0 : Nat) (y2 : Nat) (b : Nat) (pq : Nat) (cq : Nat) (tu : Int) (ph : Int) (mo : Int) (gc : Int) (P : Int → Int) (C : Int → Int) (v1 : Int) (v2 : Int) (v3 : Int) (hB : ∀ i, 0 ≤ P i ∧ P i ≤ 72) (htu : 0 ≤ tu ∧ tu ≤ 3) (hgc : 0 ≤ gc ∧ gc ≤ 2) (hph : 0 ≤ ph ∧ ph ≤ 2) (hmo : 0 ≤ mo ∧ mo ≤ 6) (h_v1 : -2147483648 ≤ v1 ∧ v1 < 2147483648) (h_v2 : -2147483648 ≤ v2 ∧ v2 < 2147483648) (h_v3 : -2147483648 ≤ v3 ∧ v3 < 2147483648) (hno : ¬ (0 ≤ v1 ∧ v1 ≤ 3) ∨ ph ≠ 1 ∨ can P (4 * mv P tu + v1) mo = 0) : XWi l yL_act wsL_act { frames := 8, cells := 3, slots := 18, locals := 144 } D cI cL tw [.ref y0, .int (iI (1)), .int (iI (v1)), .int (iI (v2)), .int (iI (v3))] [(y0, .inr (1, [.ref b, .ref y2, .int (iI (tu)), .int (iI (gc)), .int (iI (ph)), .int (iI (mo))])), (y2, .inl (cI, 4, .inl (aI C))), (b, .inr (0, [.ref pq, .ref cq])), (pq, .inl (cI, 16, .inl (aI P))), (cq, .inl (cI, 136, .inl (aI (cnt P))))] (fun (z : Int) (u : Unit) => (z = -901 ∧ ¬ (0 ≤ v1 ∧ v1 ≤ 3)) ∨ (z = -903 ∧ 0 ≤ v1 ∧ v1 ≤ 3)) (fun u : Unit => [(y0, .inr (1, [.ref b, .ref y2, .int (iI (tu)), .int (iI (gc)), .int (iI (ph)), .int (iI (mo))])), (y2, .inl (cI, 4, .inl (aI C))), (b, .inr (0, [.ref pq, .ref cq])), (pq, .inl (cI, 16, .inl (aI P))), (cq, .inl (cI, 136, .inl (aI (cnt P))))]) (fun _ => False) 3 18 := by
  refine lwi_of (cc := cL_act) (maxL := 6) (own := RL) (by decide) rfl rfl (Nat.le_of_ble_eq_true rfl) ?_
  intro p e R s mt args below meth c H0 Q ls A S hR hRc hE hP hD hA hN hl htb hret
  have hS := hN.mono hA
  obtain ⟨hx, hb, hml, hown, hts⟩ := id S
  have hl : lv_has ls 6 [(0, .ref y0), (1, .int (iI (1))), (2, .int (iI (v1))), (3, .int (iI (v2))), (4, .int (iI (v3)))] := hl
  refine lv_iload_n hx hb dL_act_0 rfl (lv_at hl 1 rfl) ?_
  refine r_if_ne (tgt := 12) hx hb dL_act_1 (by decide) (by unfold rI; decide) (fun h1 => ?_) (fun h9 => absurd h9 (by omega))
  refine lv_iload_n hx hb dL_act_12 rfl (lv_at hl 1 rfl) ?_
  refine r_iconst hx hb dL_act_13 ?_
  refine r_icmp_ne (tgt := 25) hx hb dL_act_14 (by decide) (by unfold rI; decide) (by unfold rI; decide) (fun h9 => absurd h9 (by omega)) (fun h14 => ?_)
  refine lv_aload_n hx hb dL_act_17 rfl (lv_at hl 0 rfl) ?_
  refine lv_iload_n hx hb dL_act_18 rfl (lv_at hl 2 rfl) ?_
  refine r_xcW (As := [.int (iI (v1))]) (rest := []) (wr := []) S (c_X1_move l hst D cI cL tw (y0) (y2) (b) (pq) (cq) (tu) (ph) (mo) (gc) (P) (C) (v1) (hB) (by omega) (by omega) (by omega) (by omega) (by omega)) gL_act_X1_move rfl rfl rfl ⟨rfl, f_X1_move⟩ hR (Nat.le_of_ble_eq_true rfl) (Nat.le_of_ble_eq_true rfl) (hE.kept hS.2.1) hP hD hS hA [0, 1, 2, 3, 4] [] rfl rfl (by decide) rfl (by decide) (by decide) 0 rfl rfl rfl hl.1 rfl (Nat.le_of_ble_eq_true rfl) dL_act_19 ⟨Nat.le_trans (Nat.le_of_ble_eq_true rfl) hRc.1, Nat.le_trans (Nat.le_of_ble_eq_true rfl) hRc.2⟩ (fun E9 ce9 q9 H locs hx9 h91 h92 h93 hP hS => ?_) (fun z19 u19 H locs hz19 hP hD hS => ?_)
  · have htb9 := htb
    rcases hx9 with ⟨rfl, hc9⟩ | ⟨rfl, hc9⟩
    · refine vx_catch (own := RL) hown [] ⟨0, 179, 180, 53⟩ [⟨0, 179, 186, 55⟩, ⟨0, 179, 192, 57⟩] (htb.trans rfl) (fun z hz => nomatch hz) (by decide) (by decide) (hts _ mw_L_act_1r_0) (nest_use (by decide +kernel) (hE.2.1 (.castable "java/lang/IndexOutOfBoundsException" "java/lang/IndexOutOfBoundsException") (by decide +kernel))) h91 h92 h93 ?_
      refine lv_astore (lv' := [(5, .ref q9), (0, .ref y0), (1, .int (iI (1))), (2, .int (iI (v1))), (3, .int (iI (v2))), (4, .int (iI (v3)))]) hx hb dL_act_180 hl (by decide) rfl (fun ls hl => ?_)
      refine r_sipush hx hb dL_act_182 (by decide) ?_
      exact hret (-901) () _ _ _ _ _ _ dL_act_185 (by first | rfl | omega | (dsimp only; omega)) hP hD hS (Nat.le_of_ble_eq_true rfl) (Nat.le_of_ble_eq_true rfl)
    · refine vx_catch (own := RL) hown [⟨0, 179, 180, 53⟩, ⟨0, 179, 186, 55⟩] ⟨0, 179, 192, 57⟩ [] (htb.trans rfl) (fun z hz => by simp only [List.mem_cons, List.not_mem_nil, or_false] at hz; rcases hz with rfl | rfl; (exact Or.inr ⟨by decide, _, hts _ mw_L_act_1r_0, hE.2.2.2.2.2.2 ("java/lang/IllegalStateException", "java/lang/IndexOutOfBoundsException") (by decide +kernel)⟩); exact Or.inr ⟨by decide, _, hts _ mw_L_act_1r_1, hE.2.2.2.2.2.2 ("java/lang/IllegalStateException", "java/lang/IllegalArgumentException") (by decide +kernel)⟩) (by decide) (by decide) (hts _ mw_L_act_1r_2) (nest_use (by decide +kernel) (hE.2.1 (.castable "java/lang/IllegalStateException" "java/lang/IllegalStateException") (by decide +kernel))) h91 h92 h93 ?_
      refine lv_astore (lv' := [(5, .ref q9), (0, .ref y0), (1, .int (iI (1))), (2, .int (iI (v1))), (3, .int (iI (v2))), (4, .int (iI (v3)))]) hx hb dL_act_192 hl (by decide) rfl (fun ls hl => ?_)
      refine r_sipush hx hb dL_act_194 (by decide) ?_
      exact hret (-903) () _ _ _ _ _ _ dL_act_197 (by first | rfl | omega | (dsimp only; omega)) hP hD hS (Nat.le_of_ble_eq_true rfl) (Nat.le_of_ble_eq_true rfl)
  · exact (by (have h9 := hz19); (try dsimp only at h9); have h8 : can P (4 * mv P tu + v1) mo ≠ 0 := h9.2.2.2.1; omega : False).elim

set_option maxRecDepth 20000 in
theorem mw_L_act_2r_0 : (.classLink RL 53 "java/lang/IndexOutOfBoundsException" : Cond) ∈ wsL_act := by decide +kernel
set_option maxRecDepth 20000 in
theorem mw_L_act_2r_1 : (.classLink RL 55 "java/lang/IllegalArgumentException" : Cond) ∈ wsL_act := by decide +kernel
set_option maxRecDepth 20000 in
theorem mw_L_act_2r_2 : (.classLink RL 57 "java/lang/IllegalStateException" : Cond) ∈ wsL_act := by decide +kernel
set_option maxHeartbeats 4000000 in
set_option maxRecDepth 100000 in
theorem c_L_act_2r (l : Launch) (hst : l.stackTraces = false) (D : va_G) (cI cL : ClassId) (tw : Nat) (y0 : Nat) (y2 : Nat) (b : Nat) (pq : Nat) (cq : Nat) (tu : Int) (ph : Int) (mo : Int) (gc : Int) (P : Int → Int) (C : Int → Int) (v1 : Int) (v2 : Int) (v3 : Int) (hB : ∀ i, 0 ≤ P i ∧ P i ≤ 72) (htu : 0 ≤ tu ∧ tu ≤ 3) (hgc : 0 ≤ gc ∧ gc ≤ 2) (hph : 0 ≤ ph ∧ ph ≤ 2) (hmo : 0 ≤ mo ∧ mo ≤ 6) (h_v1 : -2147483648 ≤ v1 ∧ v1 < 2147483648) (h_v2 : -2147483648 ≤ v2 ∧ v2 < 2147483648) (h_v3 : -2147483648 ≤ v3 ∧ v3 < 2147483648) (hno : ph ≠ 1) : XWi l yL_act wsL_act { frames := 8, cells := 1, slots := 6, locals := 140 } D cI cL tw [.ref y0, .int (iI (2)), .int (iI (v1)), .int (iI (v2)), .int (iI (v3))] [(y0, .inr (1, [.ref b, .ref y2, .int (iI (tu)), .int (iI (gc)), .int (iI (ph)), .int (iI (mo))])), (y2, .inl (cI, 4, .inl (aI C))), (b, .inr (0, [.ref pq, .ref cq])), (pq, .inl (cI, 16, .inl (aI P))), (cq, .inl (cI, 136, .inl (aI (cnt P))))] (fun (z : Int) (u : Unit) => z = -903) (fun u : Unit => [(y0, .inr (1, [.ref b, .ref y2, .int (iI (tu)), .int (iI (gc)), .int (iI (ph)), .int (iI (mo))])), (y2, .inl (cI, 4, .inl (aI C))), (b, .inr (0, [.ref pq, .ref cq])), (pq, .inl (cI, 16, .inl (aI P))), (cq, .inl (cI, 136, .inl (aI (cnt P))))]) (fun _ => False) 1 6 := by
  refine lwi_of (cc := cL_act) (maxL := 6) (own := RL) (by decide) rfl rfl (Nat.le_of_ble_eq_true rfl) ?_
  intro p e R s mt args below meth c H0 Q ls A S hR hRc hE hP hD hA hN hl htb hret
  have hS := hN.mono hA
  obtain ⟨hx, hb, hml, hown, hts⟩ := id S
  have hl : lv_has ls 6 [(0, .ref y0), (1, .int (iI (2))), (2, .int (iI (v1))), (3, .int (iI (v2))), (4, .int (iI (v3)))] := hl
  refine lv_iload_n hx hb dL_act_0 rfl (lv_at hl 1 rfl) ?_
  refine r_if_ne (tgt := 12) hx hb dL_act_1 (by decide) (by unfold rI; decide) (fun h1 => ?_) (fun h9 => absurd h9 (by omega))
  refine lv_iload_n hx hb dL_act_12 rfl (lv_at hl 1 rfl) ?_
  refine r_iconst hx hb dL_act_13 ?_
  refine r_icmp_ne (tgt := 25) hx hb dL_act_14 (by decide) (by unfold rI; decide) (by unfold rI; decide) (fun h14 => ?_) (fun h9 => absurd h9 (by omega))
  refine lv_iload_n hx hb dL_act_25 rfl (lv_at hl 1 rfl) ?_
  refine r_iconst hx hb dL_act_26 ?_
  refine r_icmp_ne (tgt := 37) hx hb dL_act_27 (by decide) (by unfold rI; decide) (by unfold rI; decide) (fun h9 => absurd h9 (by omega)) (fun h27 => ?_)
  refine lv_aload_n hx hb dL_act_30 rfl (lv_at hl 0 rfl) ?_
  refine r_xcVi (As := []) (rest := []) S (c_X1_movable l hst D cI cL tw (y0) (y2) (b) (pq) (cq) (tu) (ph) (mo) (gc) (P) (C) (hB) (by omega) (by omega) (by omega) (by omega)) gL_act_X1_movable rfl rfl rfl ⟨rfl, f_X1_movable⟩ hR (Nat.le_of_ble_eq_true rfl) (Nat.le_of_ble_eq_true rfl) (hE.kept hS.2.1) hP hN [0, 1, 2, 3, 4] rfl 0 rfl rfl rfl hl.1 rfl (Nat.le_of_ble_eq_true rfl) dL_act_31 ⟨Nat.le_trans (Nat.le_of_ble_eq_true rfl) hRc.1, Nat.le_trans (Nat.le_of_ble_eq_true rfl) hRc.2⟩ (fun E9 ce9 q9 H locs hx9 h91 h92 h93 hP hN => ?_) (fun z31 H locs hz31 hP hN => ?_)
  · have htb9 := htb
    have hS := hN.mono hA
    rcases hx9 with ⟨rfl, hc9⟩
    refine vx_catch (own := RL) hown [⟨0, 179, 180, 53⟩, ⟨0, 179, 186, 55⟩] ⟨0, 179, 192, 57⟩ [] (htb.trans rfl) (fun z hz => by simp only [List.mem_cons, List.not_mem_nil, or_false] at hz; rcases hz with rfl | rfl; (exact Or.inr ⟨by decide, _, hts _ mw_L_act_2r_0, hE.2.2.2.2.2.2 ("java/lang/IllegalStateException", "java/lang/IndexOutOfBoundsException") (by decide +kernel)⟩); exact Or.inr ⟨by decide, _, hts _ mw_L_act_2r_1, hE.2.2.2.2.2.2 ("java/lang/IllegalStateException", "java/lang/IllegalArgumentException") (by decide +kernel)⟩) (by decide) (by decide) (hts _ mw_L_act_2r_2) (nest_use (by decide +kernel) (hE.2.1 (.castable "java/lang/IllegalStateException" "java/lang/IllegalStateException") (by decide +kernel))) h91 h92 h93 ?_
    refine lv_astore (lv' := [(5, .ref q9), (0, .ref y0), (1, .int (iI (2))), (2, .int (iI (v1))), (3, .int (iI (v2))), (4, .int (iI (v3)))]) hx hb dL_act_192 hl (by decide) rfl (fun ls hl => ?_)
    refine r_sipush hx hb dL_act_194 (by decide) ?_
    exact hret (-903) () _ _ _ _ _ _ dL_act_197 (by first | rfl | omega | (dsimp only; omega)) hP hD hS (Nat.le_of_ble_eq_true rfl) (Nat.le_of_ble_eq_true rfl)
  · exact (by (have h9 := hz31); (try dsimp only at h9); omega : False).elim

set_option maxRecDepth 20000 in
theorem mw_L_act_3r_0 : (.classLink RL 53 "java/lang/IndexOutOfBoundsException" : Cond) ∈ wsL_act := by decide +kernel
set_option maxHeartbeats 4000000 in
set_option maxRecDepth 100000 in
theorem c_L_act_3r (l : Launch) (hst : l.stackTraces = false) (D : va_G) (cI cL : ClassId) (tw : Nat) (y0 : Nat) (y2 : Nat) (b : Nat) (pq : Nat) (cq : Nat) (tu : Int) (ph : Int) (mo : Int) (gc : Int) (P : Int → Int) (C : Int → Int) (v1 : Int) (v2 : Int) (v3 : Int) (hB : ∀ i, 0 ≤ P i ∧ P i ≤ 72) (htu : 0 ≤ tu ∧ tu ≤ 3) (hgc : 0 ≤ gc ∧ gc ≤ 2) (hph : 0 ≤ ph ∧ ph ≤ 2) (hmo : 0 ≤ mo ∧ mo ≤ 6) (h_v1 : -2147483648 ≤ v1 ∧ v1 < 2147483648) (h_v2 : -2147483648 ≤ v2 ∧ v2 < 2147483648) (h_v3 : -2147483648 ≤ v3 ∧ v3 < 2147483648) (hno : ¬ (0 ≤ v1 ∧ v1 ≤ 3 ∧ 0 ≤ v2 ∧ v2 ≤ 3)) : XWi l yL_act wsL_act { frames := 8, cells := 2, slots := 12, locals := 142 } D cI cL tw [.ref y0, .int (iI (3)), .int (iI (v1)), .int (iI (v2)), .int (iI (v3))] [(y0, .inr (1, [.ref b, .ref y2, .int (iI (tu)), .int (iI (gc)), .int (iI (ph)), .int (iI (mo))])), (y2, .inl (cI, 4, .inl (aI C))), (b, .inr (0, [.ref pq, .ref cq])), (pq, .inl (cI, 16, .inl (aI P))), (cq, .inl (cI, 136, .inl (aI (cnt P))))] (fun (z : Int) (u : Unit) => z = -901) (fun u : Unit => [(y0, .inr (1, [.ref b, .ref y2, .int (iI (tu)), .int (iI (gc)), .int (iI (ph)), .int (iI (mo))])), (y2, .inl (cI, 4, .inl (aI C))), (b, .inr (0, [.ref pq, .ref cq])), (pq, .inl (cI, 16, .inl (aI P))), (cq, .inl (cI, 136, .inl (aI (cnt P))))]) (fun _ => False) 2 12 := by
  refine lwi_of (cc := cL_act) (maxL := 6) (own := RL) (by decide) rfl rfl (Nat.le_of_ble_eq_true rfl) ?_
  intro p e R s mt args below meth c H0 Q ls A S hR hRc hE hP hD hA hN hl htb hret
  have hS := hN.mono hA
  obtain ⟨hx, hb, hml, hown, hts⟩ := id S
  have hl : lv_has ls 6 [(0, .ref y0), (1, .int (iI (3))), (2, .int (iI (v1))), (3, .int (iI (v2))), (4, .int (iI (v3)))] := hl
  refine lv_iload_n hx hb dL_act_0 rfl (lv_at hl 1 rfl) ?_
  refine r_if_ne (tgt := 12) hx hb dL_act_1 (by decide) (by unfold rI; decide) (fun h1 => ?_) (fun h9 => absurd h9 (by omega))
  refine lv_iload_n hx hb dL_act_12 rfl (lv_at hl 1 rfl) ?_
  refine r_iconst hx hb dL_act_13 ?_
  refine r_icmp_ne (tgt := 25) hx hb dL_act_14 (by decide) (by unfold rI; decide) (by unfold rI; decide) (fun h14 => ?_) (fun h9 => absurd h9 (by omega))
  refine lv_iload_n hx hb dL_act_25 rfl (lv_at hl 1 rfl) ?_
  refine r_iconst hx hb dL_act_26 ?_
  refine r_icmp_ne (tgt := 37) hx hb dL_act_27 (by decide) (by unfold rI; decide) (by unfold rI; decide) (fun h27 => ?_) (fun h9 => absurd h9 (by omega))
  refine lv_iload_n hx hb dL_act_37 rfl (lv_at hl 1 rfl) ?_
  refine r_iconst hx hb dL_act_38 ?_
  refine r_icmp_ne (tgt := 51) hx hb dL_act_39 (by decide) (by unfold rI; decide) (by unfold rI; decide) (fun h9 => absurd h9 (by omega)) (fun h39 => ?_)
  refine lv_aload_n hx hb dL_act_42 rfl (lv_at hl 0 rfl) ?_
  refine lv_iload_n hx hb dL_act_43 rfl (lv_at hl 2 rfl) ?_
  refine lv_iload_n hx hb dL_act_44 rfl (lv_at hl 3 rfl) ?_
  refine r_xcVi (As := [.int (iI (v1)), .int (iI (v2))]) (rest := []) S (c_X1_position l hst D cI cL tw (y0) (y2) (b) (pq) (cq) (tu) (ph) (mo) (gc) (P) (C) (v1) (v2) (hB) (by omega) (by omega) (by omega) (by omega) (by omega) (by omega)) gL_act_X1_position rfl rfl rfl ⟨rfl, f_X1_position⟩ hR (Nat.le_of_ble_eq_true rfl) (Nat.le_of_ble_eq_true rfl) (hE.kept hS.2.1) hP hN [0, 1, 2, 3, 4] rfl 0 rfl rfl rfl hl.1 rfl (Nat.le_of_ble_eq_true rfl) dL_act_45 ⟨Nat.le_trans (Nat.le_of_ble_eq_true rfl) hRc.1, Nat.le_trans (Nat.le_of_ble_eq_true rfl) hRc.2⟩ (fun E9 ce9 q9 H locs hx9 h91 h92 h93 hP hN => ?_) (fun z45 H locs hz45 hP hN => ?_)
  · have htb9 := htb
    have hS := hN.mono hA
    rcases hx9 with ⟨rfl, hc9⟩
    refine vx_catch (own := RL) hown [] ⟨0, 179, 180, 53⟩ [⟨0, 179, 186, 55⟩, ⟨0, 179, 192, 57⟩] (htb.trans rfl) (fun z hz => nomatch hz) (by decide) (by decide) (hts _ mw_L_act_3r_0) (nest_use (by decide +kernel) (hE.2.1 (.castable "java/lang/IndexOutOfBoundsException" "java/lang/IndexOutOfBoundsException") (by decide +kernel))) h91 h92 h93 ?_
    refine lv_astore (lv' := [(5, .ref q9), (0, .ref y0), (1, .int (iI (3))), (2, .int (iI (v1))), (3, .int (iI (v2))), (4, .int (iI (v3)))]) hx hb dL_act_180 hl (by decide) rfl (fun ls hl => ?_)
    refine r_sipush hx hb dL_act_182 (by decide) ?_
    exact hret (-901) () _ _ _ _ _ _ dL_act_185 (by first | rfl | omega | (dsimp only; omega)) hP hD hS (Nat.le_of_ble_eq_true rfl) (Nat.le_of_ble_eq_true rfl)
  · exact (by (have h9 := hz45); (try dsimp only at h9); omega : False).elim

set_option maxRecDepth 20000 in
theorem mw_L_act_4r_0 : (.classLink RL 53 "java/lang/IndexOutOfBoundsException" : Cond) ∈ wsL_act := by decide +kernel
set_option maxHeartbeats 4000000 in
set_option maxRecDepth 100000 in
theorem c_L_act_4r (l : Launch) (hst : l.stackTraces = false) (D : va_G) (cI cL : ClassId) (tw : Nat) (y0 : Nat) (y2 : Nat) (b : Nat) (pq : Nat) (cq : Nat) (tu : Int) (ph : Int) (mo : Int) (gc : Int) (P : Int → Int) (C : Int → Int) (v1 : Int) (v2 : Int) (v3 : Int) (hB : ∀ i, 0 ≤ P i ∧ P i ≤ 72) (htu : 0 ≤ tu ∧ tu ≤ 3) (hgc : 0 ≤ gc ∧ gc ≤ 2) (hph : 0 ≤ ph ∧ ph ≤ 2) (hmo : 0 ≤ mo ∧ mo ≤ 6) (h_v1 : -2147483648 ≤ v1 ∧ v1 < 2147483648) (h_v2 : -2147483648 ≤ v2 ∧ v2 < 2147483648) (h_v3 : -2147483648 ≤ v3 ∧ v3 < 2147483648) (hno : ¬ (0 ≤ v1 ∧ v1 ≤ 3 ∧ 0 ≤ v2 ∧ v2 ≤ 3)) : XWi l yL_act wsL_act { frames := 8, cells := 2, slots := 12, locals := 142 } D cI cL tw [.ref y0, .int (iI (4)), .int (iI (v1)), .int (iI (v2)), .int (iI (v3))] [(y0, .inr (1, [.ref b, .ref y2, .int (iI (tu)), .int (iI (gc)), .int (iI (ph)), .int (iI (mo))])), (y2, .inl (cI, 4, .inl (aI C))), (b, .inr (0, [.ref pq, .ref cq])), (pq, .inl (cI, 16, .inl (aI P))), (cq, .inl (cI, 136, .inl (aI (cnt P))))] (fun (z : Int) (u : Unit) => z = -901) (fun u : Unit => [(y0, .inr (1, [.ref b, .ref y2, .int (iI (tu)), .int (iI (gc)), .int (iI (ph)), .int (iI (mo))])), (y2, .inl (cI, 4, .inl (aI C))), (b, .inr (0, [.ref pq, .ref cq])), (pq, .inl (cI, 16, .inl (aI P))), (cq, .inl (cI, 136, .inl (aI (cnt P))))]) (fun _ => False) 2 12 := by
  refine lwi_of (cc := cL_act) (maxL := 6) (own := RL) (by decide) rfl rfl (Nat.le_of_ble_eq_true rfl) ?_
  intro p e R s mt args below meth c H0 Q ls A S hR hRc hE hP hD hA hN hl htb hret
  have hS := hN.mono hA
  obtain ⟨hx, hb, hml, hown, hts⟩ := id S
  have hl : lv_has ls 6 [(0, .ref y0), (1, .int (iI (4))), (2, .int (iI (v1))), (3, .int (iI (v2))), (4, .int (iI (v3)))] := hl
  refine lv_iload_n hx hb dL_act_0 rfl (lv_at hl 1 rfl) ?_
  refine r_if_ne (tgt := 12) hx hb dL_act_1 (by decide) (by unfold rI; decide) (fun h1 => ?_) (fun h9 => absurd h9 (by omega))
  refine lv_iload_n hx hb dL_act_12 rfl (lv_at hl 1 rfl) ?_
  refine r_iconst hx hb dL_act_13 ?_
  refine r_icmp_ne (tgt := 25) hx hb dL_act_14 (by decide) (by unfold rI; decide) (by unfold rI; decide) (fun h14 => ?_) (fun h9 => absurd h9 (by omega))
  refine lv_iload_n hx hb dL_act_25 rfl (lv_at hl 1 rfl) ?_
  refine r_iconst hx hb dL_act_26 ?_
  refine r_icmp_ne (tgt := 37) hx hb dL_act_27 (by decide) (by unfold rI; decide) (by unfold rI; decide) (fun h27 => ?_) (fun h9 => absurd h9 (by omega))
  refine lv_iload_n hx hb dL_act_37 rfl (lv_at hl 1 rfl) ?_
  refine r_iconst hx hb dL_act_38 ?_
  refine r_icmp_ne (tgt := 51) hx hb dL_act_39 (by decide) (by unfold rI; decide) (by unfold rI; decide) (fun h39 => ?_) (fun h9 => absurd h9 (by omega))
  refine lv_iload_n hx hb dL_act_51 rfl (lv_at hl 1 rfl) ?_
  refine r_iconst hx hb dL_act_52 ?_
  refine r_icmp_ne (tgt := 65) hx hb dL_act_53 (by decide) (by unfold rI; decide) (by unfold rI; decide) (fun h9 => absurd h9 (by omega)) (fun h53 => ?_)
  refine lv_aload_n hx hb dL_act_56 rfl (lv_at hl 0 rfl) ?_
  refine lv_iload_n hx hb dL_act_57 rfl (lv_at hl 2 rfl) ?_
  refine lv_iload_n hx hb dL_act_58 rfl (lv_at hl 3 rfl) ?_
  refine r_xcVi (As := [.int (iI (v1)), .int (iI (v2))]) (rest := []) S (c_X1_square l hst D cI cL tw (y0) (y2) (b) (pq) (cq) (tu) (ph) (mo) (gc) (P) (C) (v1) (v2) (hB) (by omega) (by omega) (by omega) (by omega) (by omega) (by omega)) gL_act_X1_square rfl rfl rfl ⟨rfl, f_X1_square⟩ hR (Nat.le_of_ble_eq_true rfl) (Nat.le_of_ble_eq_true rfl) (hE.kept hS.2.1) hP hN [0, 1, 2, 3, 4] rfl 0 rfl rfl rfl hl.1 rfl (Nat.le_of_ble_eq_true rfl) dL_act_59 ⟨Nat.le_trans (Nat.le_of_ble_eq_true rfl) hRc.1, Nat.le_trans (Nat.le_of_ble_eq_true rfl) hRc.2⟩ (fun E9 ce9 q9 H locs hx9 h91 h92 h93 hP hN => ?_) (fun z59 H locs hz59 hP hN => ?_)
  · have htb9 := htb
    have hS := hN.mono hA
    rcases hx9 with ⟨rfl, hc9⟩
    refine vx_catch (own := RL) hown [] ⟨0, 179, 180, 53⟩ [⟨0, 179, 186, 55⟩, ⟨0, 179, 192, 57⟩] (htb.trans rfl) (fun z hz => nomatch hz) (by decide) (by decide) (hts _ mw_L_act_4r_0) (nest_use (by decide +kernel) (hE.2.1 (.castable "java/lang/IndexOutOfBoundsException" "java/lang/IndexOutOfBoundsException") (by decide +kernel))) h91 h92 h93 ?_
    refine lv_astore (lv' := [(5, .ref q9), (0, .ref y0), (1, .int (iI (4))), (2, .int (iI (v1))), (3, .int (iI (v2))), (4, .int (iI (v3)))]) hx hb dL_act_180 hl (by decide) rfl (fun ls hl => ?_)
    refine r_sipush hx hb dL_act_182 (by decide) ?_
    exact hret (-901) () _ _ _ _ _ _ dL_act_185 (by first | rfl | omega | (dsimp only; omega)) hP hD hS (Nat.le_of_ble_eq_true rfl) (Nat.le_of_ble_eq_true rfl)
  · exact (by (have h9 := hz59); (try dsimp only at h9); omega : False).elim

set_option maxRecDepth 20000 in
theorem mw_L_act_5r_0 : (.classLink RL 53 "java/lang/IndexOutOfBoundsException" : Cond) ∈ wsL_act := by decide +kernel
set_option maxRecDepth 20000 in
theorem mw_L_act_5r_1 : (.classLink RL 55 "java/lang/IllegalArgumentException" : Cond) ∈ wsL_act := by decide +kernel
set_option maxHeartbeats 4000000 in
set_option maxRecDepth 100000 in
theorem c_L_act_5r (l : Launch) (hst : l.stackTraces = false) (D : va_G) (cI cL : ClassId) (tw : Nat) (y0 : Nat) (y2 : Nat) (b : Nat) (pq : Nat) (cq : Nat) (tu : Int) (ph : Int) (mo : Int) (gc : Int) (P : Int → Int) (C : Int → Int) (v1 : Int) (v2 : Int) (v3 : Int) (hB : ∀ i, 0 ≤ P i ∧ P i ≤ 72) (htu : 0 ≤ tu ∧ tu ≤ 3) (hgc : 0 ≤ gc ∧ gc ≤ 2) (hph : 0 ≤ ph ∧ ph ≤ 2) (hmo : 0 ≤ mo ∧ mo ≤ 6) (h_v1 : -2147483648 ≤ v1 ∧ v1 < 2147483648) (h_v2 : -2147483648 ≤ v2 ∧ v2 < 2147483648) (h_v3 : -2147483648 ≤ v3 ∧ v3 < 2147483648) (hno : ¬ (0 ≤ v1 ∧ v1 ≤ 67) ∨ ¬ (0 ≤ v2 ∧ v2 ≤ 1)) : XWi l yL_act wsL_act { frames := 8, cells := 2, slots := 12, locals := 142 } D cI cL tw [.ref y0, .int (iI (5)), .int (iI (v1)), .int (iI (v2)), .int (iI (v3))] [(y0, .inr (1, [.ref b, .ref y2, .int (iI (tu)), .int (iI (gc)), .int (iI (ph)), .int (iI (mo))])), (y2, .inl (cI, 4, .inl (aI C))), (b, .inr (0, [.ref pq, .ref cq])), (pq, .inl (cI, 16, .inl (aI P))), (cq, .inl (cI, 136, .inl (aI (cnt P))))] (fun (z : Int) (u : Unit) => (z = -901 ∧ ¬ (0 ≤ v1 ∧ v1 ≤ 67)) ∨ (z = -902 ∧ 0 ≤ v1 ∧ v1 ≤ 67)) (fun u : Unit => [(y0, .inr (1, [.ref b, .ref y2, .int (iI (tu)), .int (iI (gc)), .int (iI (ph)), .int (iI (mo))])), (y2, .inl (cI, 4, .inl (aI C))), (b, .inr (0, [.ref pq, .ref cq])), (pq, .inl (cI, 16, .inl (aI P))), (cq, .inl (cI, 136, .inl (aI (cnt P))))]) (fun _ => False) 2 12 := by
  refine lwi_of (cc := cL_act) (maxL := 6) (own := RL) (by decide) rfl rfl (Nat.le_of_ble_eq_true rfl) ?_
  intro p e R s mt args below meth c H0 Q ls A S hR hRc hE hP hD hA hN hl htb hret
  have hS := hN.mono hA
  obtain ⟨hx, hb, hml, hown, hts⟩ := id S
  have hl : lv_has ls 6 [(0, .ref y0), (1, .int (iI (5))), (2, .int (iI (v1))), (3, .int (iI (v2))), (4, .int (iI (v3)))] := hl
  refine lv_iload_n hx hb dL_act_0 rfl (lv_at hl 1 rfl) ?_
  refine r_if_ne (tgt := 12) hx hb dL_act_1 (by decide) (by unfold rI; decide) (fun h1 => ?_) (fun h9 => absurd h9 (by omega))
  refine lv_iload_n hx hb dL_act_12 rfl (lv_at hl 1 rfl) ?_
  refine r_iconst hx hb dL_act_13 ?_
  refine r_icmp_ne (tgt := 25) hx hb dL_act_14 (by decide) (by unfold rI; decide) (by unfold rI; decide) (fun h14 => ?_) (fun h9 => absurd h9 (by omega))
  refine lv_iload_n hx hb dL_act_25 rfl (lv_at hl 1 rfl) ?_
  refine r_iconst hx hb dL_act_26 ?_
  refine r_icmp_ne (tgt := 37) hx hb dL_act_27 (by decide) (by unfold rI; decide) (by unfold rI; decide) (fun h27 => ?_) (fun h9 => absurd h9 (by omega))
  refine lv_iload_n hx hb dL_act_37 rfl (lv_at hl 1 rfl) ?_
  refine r_iconst hx hb dL_act_38 ?_
  refine r_icmp_ne (tgt := 51) hx hb dL_act_39 (by decide) (by unfold rI; decide) (by unfold rI; decide) (fun h39 => ?_) (fun h9 => absurd h9 (by omega))
  refine lv_iload_n hx hb dL_act_51 rfl (lv_at hl 1 rfl) ?_
  refine r_iconst hx hb dL_act_52 ?_
  refine r_icmp_ne (tgt := 65) hx hb dL_act_53 (by decide) (by unfold rI; decide) (by unfold rI; decide) (fun h53 => ?_) (fun h9 => absurd h9 (by omega))
  refine lv_iload_n hx hb dL_act_65 rfl (lv_at hl 1 rfl) ?_
  refine r_iconst hx hb dL_act_66 ?_
  refine r_icmp_ne (tgt := 79) hx hb dL_act_67 (by decide) (by unfold rI; decide) (by unfold rI; decide) (fun h9 => absurd h9 (by omega)) (fun h67 => ?_)
  refine lv_aload_n hx hb dL_act_70 rfl (lv_at hl 0 rfl) ?_
  refine lv_iload_n hx hb dL_act_71 rfl (lv_at hl 2 rfl) ?_
  refine lv_iload_n hx hb dL_act_72 rfl (lv_at hl 3 rfl) ?_
  refine r_xcVi (As := [.int (iI (v1)), .int (iI (v2))]) (rest := []) S (c_X1_standing l hst D cI cL tw (y0) (y2) (b) (pq) (cq) (tu) (ph) (mo) (gc) (P) (C) (v1) (v2) (hB) (by omega) (by omega) (by omega) (by omega) (by omega) (by omega)) gL_act_X1_standing rfl rfl rfl ⟨rfl, f_X1_standing⟩ hR (Nat.le_of_ble_eq_true rfl) (Nat.le_of_ble_eq_true rfl) (hE.kept hS.2.1) hP hN [0, 1, 2, 3, 4] rfl 0 rfl rfl rfl hl.1 rfl (Nat.le_of_ble_eq_true rfl) dL_act_73 ⟨Nat.le_trans (Nat.le_of_ble_eq_true rfl) hRc.1, Nat.le_trans (Nat.le_of_ble_eq_true rfl) hRc.2⟩ (fun E9 ce9 q9 H locs hx9 h91 h92 h93 hP hN => ?_) (fun z73 H locs hz73 hP hN => ?_)
  · have htb9 := htb
    have hS := hN.mono hA
    rcases hx9 with ⟨rfl, hc9⟩ | ⟨rfl, hc9⟩
    · refine vx_catch (own := RL) hown [] ⟨0, 179, 180, 53⟩ [⟨0, 179, 186, 55⟩, ⟨0, 179, 192, 57⟩] (htb.trans rfl) (fun z hz => nomatch hz) (by decide) (by decide) (hts _ mw_L_act_5r_0) (nest_use (by decide +kernel) (hE.2.1 (.castable "java/lang/IndexOutOfBoundsException" "java/lang/IndexOutOfBoundsException") (by decide +kernel))) h91 h92 h93 ?_
      refine lv_astore (lv' := [(5, .ref q9), (0, .ref y0), (1, .int (iI (5))), (2, .int (iI (v1))), (3, .int (iI (v2))), (4, .int (iI (v3)))]) hx hb dL_act_180 hl (by decide) rfl (fun ls hl => ?_)
      refine r_sipush hx hb dL_act_182 (by decide) ?_
      exact hret (-901) () _ _ _ _ _ _ dL_act_185 (by first | rfl | omega | (dsimp only; omega)) hP hD hS (Nat.le_of_ble_eq_true rfl) (Nat.le_of_ble_eq_true rfl)
    · refine vx_catch (own := RL) hown [⟨0, 179, 180, 53⟩] ⟨0, 179, 186, 55⟩ [⟨0, 179, 192, 57⟩] (htb.trans rfl) (fun z hz => by rw [List.mem_singleton.mp hz]; exact Or.inr ⟨by decide, _, hts _ mw_L_act_5r_0, hE.2.2.2.2.2.2 ("java/lang/IllegalArgumentException", "java/lang/IndexOutOfBoundsException") (by decide +kernel)⟩) (by decide) (by decide) (hts _ mw_L_act_5r_1) (nest_use (by decide +kernel) (hE.2.1 (.castable "java/lang/IllegalArgumentException" "java/lang/IllegalArgumentException") (by decide +kernel))) h91 h92 h93 ?_
      refine lv_astore (lv' := [(5, .ref q9), (0, .ref y0), (1, .int (iI (5))), (2, .int (iI (v1))), (3, .int (iI (v2))), (4, .int (iI (v3)))]) hx hb dL_act_186 hl (by decide) rfl (fun ls hl => ?_)
      refine r_sipush hx hb dL_act_188 (by decide) ?_
      exact hret (-902) () _ _ _ _ _ _ dL_act_191 (by first | rfl | omega | (dsimp only; omega)) hP hD hS (Nat.le_of_ble_eq_true rfl) (Nat.le_of_ble_eq_true rfl)
  · exact (by (have h9 := hz73); (try dsimp only at h9); omega : False).elim

set_option maxRecDepth 20000 in
theorem mw_L_act_6r_0 : (.classLink RL 53 "java/lang/IndexOutOfBoundsException" : Cond) ∈ wsL_act := by decide +kernel
set_option maxHeartbeats 4000000 in
set_option maxRecDepth 100000 in
theorem c_L_act_6r (l : Launch) (hst : l.stackTraces = false) (D : va_G) (cI cL : ClassId) (tw : Nat) (y0 : Nat) (y2 : Nat) (b : Nat) (pq : Nat) (cq : Nat) (tu : Int) (ph : Int) (mo : Int) (gc : Int) (P : Int → Int) (C : Int → Int) (v1 : Int) (v2 : Int) (v3 : Int) (hB : ∀ i, 0 ≤ P i ∧ P i ≤ 72) (htu : 0 ≤ tu ∧ tu ≤ 3) (hgc : 0 ≤ gc ∧ gc ≤ 2) (hph : 0 ≤ ph ∧ ph ≤ 2) (hmo : 0 ≤ mo ∧ mo ≤ 6) (h_v1 : -2147483648 ≤ v1 ∧ v1 < 2147483648) (h_v2 : -2147483648 ≤ v2 ∧ v2 < 2147483648) (h_v3 : -2147483648 ≤ v3 ∧ v3 < 2147483648) (hno : ¬ (0 ≤ v1 ∧ v1 ≤ 67)) : XWi l yL_act wsL_act { frames := 8, cells := 1, slots := 6, locals := 141 } D cI cL tw [.ref y0, .int (iI (6)), .int (iI (v1)), .int (iI (v2)), .int (iI (v3))] [(y0, .inr (1, [.ref b, .ref y2, .int (iI (tu)), .int (iI (gc)), .int (iI (ph)), .int (iI (mo))])), (y2, .inl (cI, 4, .inl (aI C))), (b, .inr (0, [.ref pq, .ref cq])), (pq, .inl (cI, 16, .inl (aI P))), (cq, .inl (cI, 136, .inl (aI (cnt P))))] (fun (z : Int) (u : Unit) => z = -901) (fun u : Unit => [(y0, .inr (1, [.ref b, .ref y2, .int (iI (tu)), .int (iI (gc)), .int (iI (ph)), .int (iI (mo))])), (y2, .inl (cI, 4, .inl (aI C))), (b, .inr (0, [.ref pq, .ref cq])), (pq, .inl (cI, 16, .inl (aI P))), (cq, .inl (cI, 136, .inl (aI (cnt P))))]) (fun _ => False) 1 6 := by
  refine lwi_of (cc := cL_act) (maxL := 6) (own := RL) (by decide) rfl rfl (Nat.le_of_ble_eq_true rfl) ?_
  intro p e R s mt args below meth c H0 Q ls A S hR hRc hE hP hD hA hN hl htb hret
  have hS := hN.mono hA
  obtain ⟨hx, hb, hml, hown, hts⟩ := id S
  have hl : lv_has ls 6 [(0, .ref y0), (1, .int (iI (6))), (2, .int (iI (v1))), (3, .int (iI (v2))), (4, .int (iI (v3)))] := hl
  refine lv_iload_n hx hb dL_act_0 rfl (lv_at hl 1 rfl) ?_
  refine r_if_ne (tgt := 12) hx hb dL_act_1 (by decide) (by unfold rI; decide) (fun h1 => ?_) (fun h9 => absurd h9 (by omega))
  refine lv_iload_n hx hb dL_act_12 rfl (lv_at hl 1 rfl) ?_
  refine r_iconst hx hb dL_act_13 ?_
  refine r_icmp_ne (tgt := 25) hx hb dL_act_14 (by decide) (by unfold rI; decide) (by unfold rI; decide) (fun h14 => ?_) (fun h9 => absurd h9 (by omega))
  refine lv_iload_n hx hb dL_act_25 rfl (lv_at hl 1 rfl) ?_
  refine r_iconst hx hb dL_act_26 ?_
  refine r_icmp_ne (tgt := 37) hx hb dL_act_27 (by decide) (by unfold rI; decide) (by unfold rI; decide) (fun h27 => ?_) (fun h9 => absurd h9 (by omega))
  refine lv_iload_n hx hb dL_act_37 rfl (lv_at hl 1 rfl) ?_
  refine r_iconst hx hb dL_act_38 ?_
  refine r_icmp_ne (tgt := 51) hx hb dL_act_39 (by decide) (by unfold rI; decide) (by unfold rI; decide) (fun h39 => ?_) (fun h9 => absurd h9 (by omega))
  refine lv_iload_n hx hb dL_act_51 rfl (lv_at hl 1 rfl) ?_
  refine r_iconst hx hb dL_act_52 ?_
  refine r_icmp_ne (tgt := 65) hx hb dL_act_53 (by decide) (by unfold rI; decide) (by unfold rI; decide) (fun h53 => ?_) (fun h9 => absurd h9 (by omega))
  refine lv_iload_n hx hb dL_act_65 rfl (lv_at hl 1 rfl) ?_
  refine r_iconst hx hb dL_act_66 ?_
  refine r_icmp_ne (tgt := 79) hx hb dL_act_67 (by decide) (by unfold rI; decide) (by unfold rI; decide) (fun h67 => ?_) (fun h9 => absurd h9 (by omega))
  refine lv_iload_n hx hb dL_act_79 rfl (lv_at hl 1 rfl) ?_
  refine r_bipush hx hb dL_act_80 (by decide) ?_
  refine r_icmp_ne (tgt := 101) hx hb dL_act_82 (by decide) (by unfold rI; decide) (by unfold rI; decide) (fun h9 => absurd h9 (by omega)) (fun h82 => ?_)
  refine lv_aload_n hx hb dL_act_85 rfl (lv_at hl 0 rfl) ?_
  refine lv_iload_n hx hb dL_act_86 rfl (lv_at hl 2 rfl) ?_
  refine r_xcVi (As := [.int (iI (v1))]) (rest := []) S (c_X1_isSafe l hst D cI cL tw (y0) (y2) (b) (pq) (cq) (tu) (ph) (mo) (gc) (P) (C) (v1) (hB) (by omega) (by omega) (by omega) (by omega) (by omega)) gL_act_X1_isSafe rfl rfl rfl ⟨rfl, f_X1_isSafe⟩ hR (Nat.le_of_ble_eq_true rfl) (Nat.le_of_ble_eq_true rfl) (hE.kept hS.2.1) hP hN [0, 1, 2, 3, 4] rfl 0 rfl rfl rfl hl.1 rfl (Nat.le_of_ble_eq_true rfl) dL_act_87 ⟨Nat.le_trans (Nat.le_of_ble_eq_true rfl) hRc.1, Nat.le_trans (Nat.le_of_ble_eq_true rfl) hRc.2⟩ (fun E9 ce9 q9 H locs hx9 h91 h92 h93 hP hN => ?_) (fun z87 H locs hz87 hP hN => ?_)
  · have htb9 := htb
    have hS := hN.mono hA
    rcases hx9 with ⟨rfl, hc9⟩
    refine vx_catch (own := RL) hown [] ⟨0, 179, 180, 53⟩ [⟨0, 179, 186, 55⟩, ⟨0, 179, 192, 57⟩] (htb.trans rfl) (fun z hz => nomatch hz) (by decide) (by decide) (hts _ mw_L_act_6r_0) (nest_use (by decide +kernel) (hE.2.1 (.castable "java/lang/IndexOutOfBoundsException" "java/lang/IndexOutOfBoundsException") (by decide +kernel))) h91 h92 h93 ?_
    refine lv_astore (lv' := [(5, .ref q9), (0, .ref y0), (1, .int (iI (6))), (2, .int (iI (v1))), (3, .int (iI (v2))), (4, .int (iI (v3)))]) hx hb dL_act_180 hl (by decide) rfl (fun ls hl => ?_)
    refine r_sipush hx hb dL_act_182 (by decide) ?_
    exact hret (-901) () _ _ _ _ _ _ dL_act_185 (by first | rfl | omega | (dsimp only; omega)) hP hD hS (Nat.le_of_ble_eq_true rfl) (Nat.le_of_ble_eq_true rfl)
  · exact (by (have h9 := hz87); (try dsimp only at h9); omega : False).elim

set_option maxRecDepth 20000 in
theorem mw_L_act_7r_0 : (.classLink RL 53 "java/lang/IndexOutOfBoundsException" : Cond) ∈ wsL_act := by decide +kernel
set_option maxHeartbeats 4000000 in
set_option maxRecDepth 100000 in
theorem c_L_act_7r (l : Launch) (hst : l.stackTraces = false) (D : va_G) (cI cL : ClassId) (tw : Nat) (y0 : Nat) (y2 : Nat) (b : Nat) (pq : Nat) (cq : Nat) (tu : Int) (ph : Int) (mo : Int) (gc : Int) (P : Int → Int) (C : Int → Int) (v1 : Int) (v2 : Int) (v3 : Int) (hB : ∀ i, 0 ≤ P i ∧ P i ≤ 72) (htu : 0 ≤ tu ∧ tu ≤ 3) (hgc : 0 ≤ gc ∧ gc ≤ 2) (hph : 0 ≤ ph ∧ ph ≤ 2) (hmo : 0 ≤ mo ∧ mo ≤ 6) (h_v1 : -2147483648 ≤ v1 ∧ v1 < 2147483648) (h_v2 : -2147483648 ≤ v2 ∧ v2 < 2147483648) (h_v3 : -2147483648 ≤ v3 ∧ v3 < 2147483648) (hno : ¬ (0 ≤ v1 ∧ v1 ≤ 3)) : XWi l yL_act wsL_act { frames := 8, cells := 1, slots := 6, locals := 141 } D cI cL tw [.ref y0, .int (iI (7)), .int (iI (v1)), .int (iI (v2)), .int (iI (v3))] [(y0, .inr (1, [.ref b, .ref y2, .int (iI (tu)), .int (iI (gc)), .int (iI (ph)), .int (iI (mo))])), (y2, .inl (cI, 4, .inl (aI C))), (b, .inr (0, [.ref pq, .ref cq])), (pq, .inl (cI, 16, .inl (aI P))), (cq, .inl (cI, 136, .inl (aI (cnt P))))] (fun (z : Int) (u : Unit) => z = -901) (fun u : Unit => [(y0, .inr (1, [.ref b, .ref y2, .int (iI (tu)), .int (iI (gc)), .int (iI (ph)), .int (iI (mo))])), (y2, .inl (cI, 4, .inl (aI C))), (b, .inr (0, [.ref pq, .ref cq])), (pq, .inl (cI, 16, .inl (aI P))), (cq, .inl (cI, 136, .inl (aI (cnt P))))]) (fun _ => False) 1 6 := by
  refine lwi_of (cc := cL_act) (maxL := 6) (own := RL) (by decide) rfl rfl (Nat.le_of_ble_eq_true rfl) ?_
  intro p e R s mt args below meth c H0 Q ls A S hR hRc hE hP hD hA hN hl htb hret
  have hS := hN.mono hA
  obtain ⟨hx, hb, hml, hown, hts⟩ := id S
  have hl : lv_has ls 6 [(0, .ref y0), (1, .int (iI (7))), (2, .int (iI (v1))), (3, .int (iI (v2))), (4, .int (iI (v3)))] := hl
  refine lv_iload_n hx hb dL_act_0 rfl (lv_at hl 1 rfl) ?_
  refine r_if_ne (tgt := 12) hx hb dL_act_1 (by decide) (by unfold rI; decide) (fun h1 => ?_) (fun h9 => absurd h9 (by omega))
  refine lv_iload_n hx hb dL_act_12 rfl (lv_at hl 1 rfl) ?_
  refine r_iconst hx hb dL_act_13 ?_
  refine r_icmp_ne (tgt := 25) hx hb dL_act_14 (by decide) (by unfold rI; decide) (by unfold rI; decide) (fun h14 => ?_) (fun h9 => absurd h9 (by omega))
  refine lv_iload_n hx hb dL_act_25 rfl (lv_at hl 1 rfl) ?_
  refine r_iconst hx hb dL_act_26 ?_
  refine r_icmp_ne (tgt := 37) hx hb dL_act_27 (by decide) (by unfold rI; decide) (by unfold rI; decide) (fun h27 => ?_) (fun h9 => absurd h9 (by omega))
  refine lv_iload_n hx hb dL_act_37 rfl (lv_at hl 1 rfl) ?_
  refine r_iconst hx hb dL_act_38 ?_
  refine r_icmp_ne (tgt := 51) hx hb dL_act_39 (by decide) (by unfold rI; decide) (by unfold rI; decide) (fun h39 => ?_) (fun h9 => absurd h9 (by omega))
  refine lv_iload_n hx hb dL_act_51 rfl (lv_at hl 1 rfl) ?_
  refine r_iconst hx hb dL_act_52 ?_
  refine r_icmp_ne (tgt := 65) hx hb dL_act_53 (by decide) (by unfold rI; decide) (by unfold rI; decide) (fun h53 => ?_) (fun h9 => absurd h9 (by omega))
  refine lv_iload_n hx hb dL_act_65 rfl (lv_at hl 1 rfl) ?_
  refine r_iconst hx hb dL_act_66 ?_
  refine r_icmp_ne (tgt := 79) hx hb dL_act_67 (by decide) (by unfold rI; decide) (by unfold rI; decide) (fun h67 => ?_) (fun h9 => absurd h9 (by omega))
  refine lv_iload_n hx hb dL_act_79 rfl (lv_at hl 1 rfl) ?_
  refine r_bipush hx hb dL_act_80 (by decide) ?_
  refine r_icmp_ne (tgt := 101) hx hb dL_act_82 (by decide) (by unfold rI; decide) (by unfold rI; decide) (fun h82 => ?_) (fun h9 => absurd h9 (by omega))
  refine lv_iload_n hx hb dL_act_101 rfl (lv_at hl 1 rfl) ?_
  refine r_bipush hx hb dL_act_102 (by decide) ?_
  refine r_icmp_ne (tgt := 115) hx hb dL_act_104 (by decide) (by unfold rI; decide) (by unfold rI; decide) (fun h9 => absurd h9 (by omega)) (fun h104 => ?_)
  refine lv_aload_n hx hb dL_act_107 rfl (lv_at hl 0 rfl) ?_
  refine lv_iload_n hx hb dL_act_108 rfl (lv_at hl 2 rfl) ?_
  refine r_xcVi (As := [.int (iI (v1))]) (rest := []) S (c_X1_home l hst D cI cL tw (y0) (y2) (b) (pq) (cq) (tu) (ph) (mo) (gc) (P) (C) (v1) (hB) (by omega) (by omega) (by omega) (by omega) (by omega)) gL_act_X1_home rfl rfl rfl ⟨rfl, f_X1_home⟩ hR (Nat.le_of_ble_eq_true rfl) (Nat.le_of_ble_eq_true rfl) (hE.kept hS.2.1) hP hN [0, 1, 2, 3, 4] rfl 0 rfl rfl rfl hl.1 rfl (Nat.le_of_ble_eq_true rfl) dL_act_109 ⟨Nat.le_trans (Nat.le_of_ble_eq_true rfl) hRc.1, Nat.le_trans (Nat.le_of_ble_eq_true rfl) hRc.2⟩ (fun E9 ce9 q9 H locs hx9 h91 h92 h93 hP hN => ?_) (fun z109 H locs hz109 hP hN => ?_)
  · have htb9 := htb
    have hS := hN.mono hA
    rcases hx9 with ⟨rfl, hc9⟩
    refine vx_catch (own := RL) hown [] ⟨0, 179, 180, 53⟩ [⟨0, 179, 186, 55⟩, ⟨0, 179, 192, 57⟩] (htb.trans rfl) (fun z hz => nomatch hz) (by decide) (by decide) (hts _ mw_L_act_7r_0) (nest_use (by decide +kernel) (hE.2.1 (.castable "java/lang/IndexOutOfBoundsException" "java/lang/IndexOutOfBoundsException") (by decide +kernel))) h91 h92 h93 ?_
    refine lv_astore (lv' := [(5, .ref q9), (0, .ref y0), (1, .int (iI (7))), (2, .int (iI (v1))), (3, .int (iI (v2))), (4, .int (iI (v3)))]) hx hb dL_act_180 hl (by decide) rfl (fun ls hl => ?_)
    refine r_sipush hx hb dL_act_182 (by decide) ?_
    exact hret (-901) () _ _ _ _ _ _ dL_act_185 (by first | rfl | omega | (dsimp only; omega)) hP hD hS (Nat.le_of_ble_eq_true rfl) (Nat.le_of_ble_eq_true rfl)
  · exact (by (have h9 := hz109); (try dsimp only at h9); omega : False).elim

set_option maxRecDepth 20000 in
theorem mw_L_act_8r_0 : (.classLink RL 53 "java/lang/IndexOutOfBoundsException" : Cond) ∈ wsL_act := by decide +kernel
set_option maxHeartbeats 4000000 in
set_option maxRecDepth 100000 in
theorem c_L_act_8r (l : Launch) (hst : l.stackTraces = false) (D : va_G) (cI cL : ClassId) (tw : Nat) (y0 : Nat) (y2 : Nat) (b : Nat) (pq : Nat) (cq : Nat) (tu : Int) (ph : Int) (mo : Int) (gc : Int) (P : Int → Int) (C : Int → Int) (v1 : Int) (v2 : Int) (v3 : Int) (hB : ∀ i, 0 ≤ P i ∧ P i ≤ 72) (htu : 0 ≤ tu ∧ tu ≤ 3) (hgc : 0 ≤ gc ∧ gc ≤ 2) (hph : 0 ≤ ph ∧ ph ≤ 2) (hmo : 0 ≤ mo ∧ mo ≤ 6) (h_v1 : -2147483648 ≤ v1 ∧ v1 < 2147483648) (h_v2 : -2147483648 ≤ v2 ∧ v2 < 2147483648) (h_v3 : -2147483648 ≤ v3 ∧ v3 < 2147483648) (hno : ¬ (0 ≤ v1 ∧ v1 ≤ 3)) : XWi l yL_act wsL_act { frames := 8, cells := 1, slots := 6, locals := 141 } D cI cL tw [.ref y0, .int (iI (8)), .int (iI (v1)), .int (iI (v2)), .int (iI (v3))] [(y0, .inr (1, [.ref b, .ref y2, .int (iI (tu)), .int (iI (gc)), .int (iI (ph)), .int (iI (mo))])), (y2, .inl (cI, 4, .inl (aI C))), (b, .inr (0, [.ref pq, .ref cq])), (pq, .inl (cI, 16, .inl (aI P))), (cq, .inl (cI, 136, .inl (aI (cnt P))))] (fun (z : Int) (u : Unit) => z = -901) (fun u : Unit => [(y0, .inr (1, [.ref b, .ref y2, .int (iI (tu)), .int (iI (gc)), .int (iI (ph)), .int (iI (mo))])), (y2, .inl (cI, 4, .inl (aI C))), (b, .inr (0, [.ref pq, .ref cq])), (pq, .inl (cI, 16, .inl (aI P))), (cq, .inl (cI, 136, .inl (aI (cnt P))))]) (fun _ => False) 1 6 := by
  refine lwi_of (cc := cL_act) (maxL := 6) (own := RL) (by decide) rfl rfl (Nat.le_of_ble_eq_true rfl) ?_
  intro p e R s mt args below meth c H0 Q ls A S hR hRc hE hP hD hA hN hl htb hret
  have hS := hN.mono hA
  obtain ⟨hx, hb, hml, hown, hts⟩ := id S
  have hl : lv_has ls 6 [(0, .ref y0), (1, .int (iI (8))), (2, .int (iI (v1))), (3, .int (iI (v2))), (4, .int (iI (v3)))] := hl
  refine lv_iload_n hx hb dL_act_0 rfl (lv_at hl 1 rfl) ?_
  refine r_if_ne (tgt := 12) hx hb dL_act_1 (by decide) (by unfold rI; decide) (fun h1 => ?_) (fun h9 => absurd h9 (by omega))
  refine lv_iload_n hx hb dL_act_12 rfl (lv_at hl 1 rfl) ?_
  refine r_iconst hx hb dL_act_13 ?_
  refine r_icmp_ne (tgt := 25) hx hb dL_act_14 (by decide) (by unfold rI; decide) (by unfold rI; decide) (fun h14 => ?_) (fun h9 => absurd h9 (by omega))
  refine lv_iload_n hx hb dL_act_25 rfl (lv_at hl 1 rfl) ?_
  refine r_iconst hx hb dL_act_26 ?_
  refine r_icmp_ne (tgt := 37) hx hb dL_act_27 (by decide) (by unfold rI; decide) (by unfold rI; decide) (fun h27 => ?_) (fun h9 => absurd h9 (by omega))
  refine lv_iload_n hx hb dL_act_37 rfl (lv_at hl 1 rfl) ?_
  refine r_iconst hx hb dL_act_38 ?_
  refine r_icmp_ne (tgt := 51) hx hb dL_act_39 (by decide) (by unfold rI; decide) (by unfold rI; decide) (fun h39 => ?_) (fun h9 => absurd h9 (by omega))
  refine lv_iload_n hx hb dL_act_51 rfl (lv_at hl 1 rfl) ?_
  refine r_iconst hx hb dL_act_52 ?_
  refine r_icmp_ne (tgt := 65) hx hb dL_act_53 (by decide) (by unfold rI; decide) (by unfold rI; decide) (fun h53 => ?_) (fun h9 => absurd h9 (by omega))
  refine lv_iload_n hx hb dL_act_65 rfl (lv_at hl 1 rfl) ?_
  refine r_iconst hx hb dL_act_66 ?_
  refine r_icmp_ne (tgt := 79) hx hb dL_act_67 (by decide) (by unfold rI; decide) (by unfold rI; decide) (fun h67 => ?_) (fun h9 => absurd h9 (by omega))
  refine lv_iload_n hx hb dL_act_79 rfl (lv_at hl 1 rfl) ?_
  refine r_bipush hx hb dL_act_80 (by decide) ?_
  refine r_icmp_ne (tgt := 101) hx hb dL_act_82 (by decide) (by unfold rI; decide) (by unfold rI; decide) (fun h82 => ?_) (fun h9 => absurd h9 (by omega))
  refine lv_iload_n hx hb dL_act_101 rfl (lv_at hl 1 rfl) ?_
  refine r_bipush hx hb dL_act_102 (by decide) ?_
  refine r_icmp_ne (tgt := 115) hx hb dL_act_104 (by decide) (by unfold rI; decide) (by unfold rI; decide) (fun h104 => ?_) (fun h9 => absurd h9 (by omega))
  refine lv_iload_n hx hb dL_act_115 rfl (lv_at hl 1 rfl) ?_
  refine r_bipush hx hb dL_act_116 (by decide) ?_
  refine r_icmp_ne (tgt := 129) hx hb dL_act_118 (by decide) (by unfold rI; decide) (by unfold rI; decide) (fun h9 => absurd h9 (by omega)) (fun h118 => ?_)
  refine lv_aload_n hx hb dL_act_121 rfl (lv_at hl 0 rfl) ?_
  refine lv_iload_n hx hb dL_act_122 rfl (lv_at hl 2 rfl) ?_
  refine r_xcVi (As := [.int (iI (v1))]) (rest := []) S (c_X1_captures l hst D cI cL tw (y0) (y2) (b) (pq) (cq) (tu) (ph) (mo) (gc) (P) (C) (v1) (hB) (by omega) (by omega) (by omega) (by omega) (by omega)) gL_act_X1_captures rfl rfl rfl ⟨rfl, f_X1_captures⟩ hR (Nat.le_of_ble_eq_true rfl) (Nat.le_of_ble_eq_true rfl) (hE.kept hS.2.1) hP hN [0, 1, 2, 3, 4] rfl 0 rfl rfl rfl hl.1 rfl (Nat.le_of_ble_eq_true rfl) dL_act_123 ⟨Nat.le_trans (Nat.le_of_ble_eq_true rfl) hRc.1, Nat.le_trans (Nat.le_of_ble_eq_true rfl) hRc.2⟩ (fun E9 ce9 q9 H locs hx9 h91 h92 h93 hP hN => ?_) (fun z123 H locs hz123 hP hN => ?_)
  · have htb9 := htb
    have hS := hN.mono hA
    rcases hx9 with ⟨rfl, hc9⟩
    refine vx_catch (own := RL) hown [] ⟨0, 179, 180, 53⟩ [⟨0, 179, 186, 55⟩, ⟨0, 179, 192, 57⟩] (htb.trans rfl) (fun z hz => nomatch hz) (by decide) (by decide) (hts _ mw_L_act_8r_0) (nest_use (by decide +kernel) (hE.2.1 (.castable "java/lang/IndexOutOfBoundsException" "java/lang/IndexOutOfBoundsException") (by decide +kernel))) h91 h92 h93 ?_
    refine lv_astore (lv' := [(5, .ref q9), (0, .ref y0), (1, .int (iI (8))), (2, .int (iI (v1))), (3, .int (iI (v2))), (4, .int (iI (v3)))]) hx hb dL_act_180 hl (by decide) rfl (fun ls hl => ?_)
    refine r_sipush hx hb dL_act_182 (by decide) ?_
    exact hret (-901) () _ _ _ _ _ _ dL_act_185 (by first | rfl | omega | (dsimp only; omega)) hP hD hS (Nat.le_of_ble_eq_true rfl) (Nat.le_of_ble_eq_true rfl)
  · exact (by (have h9 := hz123); (try dsimp only at h9); omega : False).elim

set_option maxRecDepth 20000 in
theorem mw_L_act_9r_0 : (.classLink RL 53 "java/lang/IndexOutOfBoundsException" : Cond) ∈ wsL_act := by decide +kernel
set_option maxRecDepth 20000 in
theorem mw_L_act_9r_1 : (.classLink RL 55 "java/lang/IllegalArgumentException" : Cond) ∈ wsL_act := by decide +kernel
set_option maxHeartbeats 4000000 in
set_option maxRecDepth 100000 in
theorem c_L_act_9r (l : Launch) (hst : l.stackTraces = false) (D : va_G) (cI cL : ClassId) (tw : Nat) (y0 : Nat) (y2 : Nat) (b : Nat) (pq : Nat) (cq : Nat) (tu : Int) (ph : Int) (mo : Int) (gc : Int) (P : Int → Int) (C : Int → Int) (v1 : Int) (v2 : Int) (v3 : Int) (hB : ∀ i, 0 ≤ P i ∧ P i ≤ 72) (htu : 0 ≤ tu ∧ tu ≤ 3) (hgc : 0 ≤ gc ∧ gc ≤ 2) (hph : 0 ≤ ph ∧ ph ≤ 2) (hmo : 0 ≤ mo ∧ mo ≤ 6) (h_v1 : -2147483648 ≤ v1 ∧ v1 < 2147483648) (h_v2 : -2147483648 ≤ v2 ∧ v2 < 2147483648) (h_v3 : -2147483648 ≤ v3 ∧ v3 < 2147483648) (hno : ¬ (0 ≤ v1 ∧ v1 ≤ 1)) : XWi l yL_act wsL_act { frames := 8, cells := 1, slots := 6, locals := 141 } D cI cL tw [.ref y0, .int (iI (9)), .int (iI (v1)), .int (iI (v2)), .int (iI (v3))] [(y0, .inr (1, [.ref b, .ref y2, .int (iI (tu)), .int (iI (gc)), .int (iI (ph)), .int (iI (mo))])), (y2, .inl (cI, 4, .inl (aI C))), (b, .inr (0, [.ref pq, .ref cq])), (pq, .inl (cI, 16, .inl (aI P))), (cq, .inl (cI, 136, .inl (aI (cnt P))))] (fun (z : Int) (u : Unit) => z = -902) (fun u : Unit => [(y0, .inr (1, [.ref b, .ref y2, .int (iI (tu)), .int (iI (gc)), .int (iI (ph)), .int (iI (mo))])), (y2, .inl (cI, 4, .inl (aI C))), (b, .inr (0, [.ref pq, .ref cq])), (pq, .inl (cI, 16, .inl (aI P))), (cq, .inl (cI, 136, .inl (aI (cnt P))))]) (fun _ => False) 1 6 := by
  refine lwi_of (cc := cL_act) (maxL := 6) (own := RL) (by decide) rfl rfl (Nat.le_of_ble_eq_true rfl) ?_
  intro p e R s mt args below meth c H0 Q ls A S hR hRc hE hP hD hA hN hl htb hret
  have hS := hN.mono hA
  obtain ⟨hx, hb, hml, hown, hts⟩ := id S
  have hl : lv_has ls 6 [(0, .ref y0), (1, .int (iI (9))), (2, .int (iI (v1))), (3, .int (iI (v2))), (4, .int (iI (v3)))] := hl
  refine lv_iload_n hx hb dL_act_0 rfl (lv_at hl 1 rfl) ?_
  refine r_if_ne (tgt := 12) hx hb dL_act_1 (by decide) (by unfold rI; decide) (fun h1 => ?_) (fun h9 => absurd h9 (by omega))
  refine lv_iload_n hx hb dL_act_12 rfl (lv_at hl 1 rfl) ?_
  refine r_iconst hx hb dL_act_13 ?_
  refine r_icmp_ne (tgt := 25) hx hb dL_act_14 (by decide) (by unfold rI; decide) (by unfold rI; decide) (fun h14 => ?_) (fun h9 => absurd h9 (by omega))
  refine lv_iload_n hx hb dL_act_25 rfl (lv_at hl 1 rfl) ?_
  refine r_iconst hx hb dL_act_26 ?_
  refine r_icmp_ne (tgt := 37) hx hb dL_act_27 (by decide) (by unfold rI; decide) (by unfold rI; decide) (fun h27 => ?_) (fun h9 => absurd h9 (by omega))
  refine lv_iload_n hx hb dL_act_37 rfl (lv_at hl 1 rfl) ?_
  refine r_iconst hx hb dL_act_38 ?_
  refine r_icmp_ne (tgt := 51) hx hb dL_act_39 (by decide) (by unfold rI; decide) (by unfold rI; decide) (fun h39 => ?_) (fun h9 => absurd h9 (by omega))
  refine lv_iload_n hx hb dL_act_51 rfl (lv_at hl 1 rfl) ?_
  refine r_iconst hx hb dL_act_52 ?_
  refine r_icmp_ne (tgt := 65) hx hb dL_act_53 (by decide) (by unfold rI; decide) (by unfold rI; decide) (fun h53 => ?_) (fun h9 => absurd h9 (by omega))
  refine lv_iload_n hx hb dL_act_65 rfl (lv_at hl 1 rfl) ?_
  refine r_iconst hx hb dL_act_66 ?_
  refine r_icmp_ne (tgt := 79) hx hb dL_act_67 (by decide) (by unfold rI; decide) (by unfold rI; decide) (fun h67 => ?_) (fun h9 => absurd h9 (by omega))
  refine lv_iload_n hx hb dL_act_79 rfl (lv_at hl 1 rfl) ?_
  refine r_bipush hx hb dL_act_80 (by decide) ?_
  refine r_icmp_ne (tgt := 101) hx hb dL_act_82 (by decide) (by unfold rI; decide) (by unfold rI; decide) (fun h82 => ?_) (fun h9 => absurd h9 (by omega))
  refine lv_iload_n hx hb dL_act_101 rfl (lv_at hl 1 rfl) ?_
  refine r_bipush hx hb dL_act_102 (by decide) ?_
  refine r_icmp_ne (tgt := 115) hx hb dL_act_104 (by decide) (by unfold rI; decide) (by unfold rI; decide) (fun h104 => ?_) (fun h9 => absurd h9 (by omega))
  refine lv_iload_n hx hb dL_act_115 rfl (lv_at hl 1 rfl) ?_
  refine r_bipush hx hb dL_act_116 (by decide) ?_
  refine r_icmp_ne (tgt := 129) hx hb dL_act_118 (by decide) (by unfold rI; decide) (by unfold rI; decide) (fun h118 => ?_) (fun h9 => absurd h9 (by omega))
  refine lv_iload_n hx hb dL_act_129 rfl (lv_at hl 1 rfl) ?_
  refine r_bipush hx hb dL_act_130 (by decide) ?_
  refine r_icmp_ne (tgt := 143) hx hb dL_act_132 (by decide) (by unfold rI; decide) (by unfold rI; decide) (fun h9 => absurd h9 (by omega)) (fun h132 => ?_)
  refine lv_aload_n hx hb dL_act_135 rfl (lv_at hl 0 rfl) ?_
  refine lv_iload_n hx hb dL_act_136 rfl (lv_at hl 2 rfl) ?_
  refine r_xcVi (As := [.int (iI (v1))]) (rest := []) S (c_X1_distance l hst D cI cL tw (y0) (y2) (b) (pq) (cq) (tu) (ph) (mo) (gc) (P) (C) (v1) (hB) (by omega) (by omega) (by omega) (by omega) (by omega)) gL_act_X1_distance rfl rfl rfl ⟨rfl, f_X1_distance⟩ hR (Nat.le_of_ble_eq_true rfl) (Nat.le_of_ble_eq_true rfl) (hE.kept hS.2.1) hP hN [0, 1, 2, 3, 4] rfl 0 rfl rfl rfl hl.1 rfl (Nat.le_of_ble_eq_true rfl) dL_act_137 ⟨Nat.le_trans (Nat.le_of_ble_eq_true rfl) hRc.1, Nat.le_trans (Nat.le_of_ble_eq_true rfl) hRc.2⟩ (fun E9 ce9 q9 H locs hx9 h91 h92 h93 hP hN => ?_) (fun z137 H locs hz137 hP hN => ?_)
  · have htb9 := htb
    have hS := hN.mono hA
    rcases hx9 with ⟨rfl, hc9⟩
    refine vx_catch (own := RL) hown [⟨0, 179, 180, 53⟩] ⟨0, 179, 186, 55⟩ [⟨0, 179, 192, 57⟩] (htb.trans rfl) (fun z hz => by rw [List.mem_singleton.mp hz]; exact Or.inr ⟨by decide, _, hts _ mw_L_act_9r_0, hE.2.2.2.2.2.2 ("java/lang/IllegalArgumentException", "java/lang/IndexOutOfBoundsException") (by decide +kernel)⟩) (by decide) (by decide) (hts _ mw_L_act_9r_1) (nest_use (by decide +kernel) (hE.2.1 (.castable "java/lang/IllegalArgumentException" "java/lang/IllegalArgumentException") (by decide +kernel))) h91 h92 h93 ?_
    refine lv_astore (lv' := [(5, .ref q9), (0, .ref y0), (1, .int (iI (9))), (2, .int (iI (v1))), (3, .int (iI (v2))), (4, .int (iI (v3)))]) hx hb dL_act_186 hl (by decide) rfl (fun ls hl => ?_)
    refine r_sipush hx hb dL_act_188 (by decide) ?_
    exact hret (-902) () _ _ _ _ _ _ dL_act_191 (by first | rfl | omega | (dsimp only; omega)) hP hD hS (Nat.le_of_ble_eq_true rfl) (Nat.le_of_ble_eq_true rfl)
  · exact (by (have h9 := hz137); (try dsimp only at h9); omega : False).elim

set_option maxRecDepth 20000 in
theorem mw_L_act_10r_0 : (.classLink RL 53 "java/lang/IndexOutOfBoundsException" : Cond) ∈ wsL_act := by decide +kernel
set_option maxRecDepth 20000 in
theorem mw_L_act_10r_1 : (.classLink RL 55 "java/lang/IllegalArgumentException" : Cond) ∈ wsL_act := by decide +kernel
set_option maxRecDepth 20000 in
theorem mw_L_act_10r_2 : (.classLink RL 57 "java/lang/IllegalStateException" : Cond) ∈ wsL_act := by decide +kernel
set_option maxHeartbeats 4000000 in
set_option maxRecDepth 100000 in
theorem c_L_act_10r (l : Launch) (hst : l.stackTraces = false) (D : va_G) (cI cL : ClassId) (tw : Nat) (y0 : Nat) (y2 : Nat) (b : Nat) (pq : Nat) (cq : Nat) (tu : Int) (ph : Int) (mo : Int) (gc : Int) (P : Int → Int) (C : Int → Int) (v1 : Int) (v2 : Int) (v3 : Int) (hB : ∀ i, 0 ≤ P i ∧ P i ≤ 72) (htu : 0 ≤ tu ∧ tu ≤ 3) (hgc : 0 ≤ gc ∧ gc ≤ 2) (hph : 0 ≤ ph ∧ ph ≤ 2) (hmo : 0 ≤ mo ∧ mo ≤ 6) (h_v1 : -2147483648 ≤ v1 ∧ v1 < 2147483648) (h_v2 : -2147483648 ≤ v2 ∧ v2 < 2147483648) (h_v3 : -2147483648 ≤ v3 ∧ v3 < 2147483648) (hno : ¬ (0 ≤ v1 ∧ v1 ≤ 3) ∨ ph ≠ 0) : XWi l yL_act wsL_act { frames := 8, cells := 1, slots := 6, locals := 144 } D cI cL tw [.ref y0, .int (iI (10)), .int (iI (v1)), .int (iI (v2)), .int (iI (v3))] [(y0, .inr (1, [.ref b, .ref y2, .int (iI (tu)), .int (iI (gc)), .int (iI (ph)), .int (iI (mo))])), (y2, .inl (cI, 4, .inl (aI C))), (b, .inr (0, [.ref pq, .ref cq])), (pq, .inl (cI, 16, .inl (aI P))), (cq, .inl (cI, 136, .inl (aI (cnt P))))] (fun (z : Int) (u : Unit) => (z = -902 ∧ ¬ (0 ≤ v1 ∧ v1 ≤ 3)) ∨ (z = -903 ∧ 0 ≤ v1 ∧ v1 ≤ 3)) (fun u : Unit => [(y0, .inr (1, [.ref b, .ref y2, .int (iI (tu)), .int (iI (gc)), .int (iI (ph)), .int (iI (mo))])), (y2, .inl (cI, 4, .inl (aI C))), (b, .inr (0, [.ref pq, .ref cq])), (pq, .inl (cI, 16, .inl (aI P))), (cq, .inl (cI, 136, .inl (aI (cnt P))))]) (fun _ => False) 1 6 := by
  refine lwi_of (cc := cL_act) (maxL := 6) (own := RL) (by decide) rfl rfl (Nat.le_of_ble_eq_true rfl) ?_
  intro p e R s mt args below meth c H0 Q ls A S hR hRc hE hP hD hA hN hl htb hret
  have hS := hN.mono hA
  obtain ⟨hx, hb, hml, hown, hts⟩ := id S
  have hl : lv_has ls 6 [(0, .ref y0), (1, .int (iI (10))), (2, .int (iI (v1))), (3, .int (iI (v2))), (4, .int (iI (v3)))] := hl
  refine lv_iload_n hx hb dL_act_0 rfl (lv_at hl 1 rfl) ?_
  refine r_if_ne (tgt := 12) hx hb dL_act_1 (by decide) (by unfold rI; decide) (fun h1 => ?_) (fun h9 => absurd h9 (by omega))
  refine lv_iload_n hx hb dL_act_12 rfl (lv_at hl 1 rfl) ?_
  refine r_iconst hx hb dL_act_13 ?_
  refine r_icmp_ne (tgt := 25) hx hb dL_act_14 (by decide) (by unfold rI; decide) (by unfold rI; decide) (fun h14 => ?_) (fun h9 => absurd h9 (by omega))
  refine lv_iload_n hx hb dL_act_25 rfl (lv_at hl 1 rfl) ?_
  refine r_iconst hx hb dL_act_26 ?_
  refine r_icmp_ne (tgt := 37) hx hb dL_act_27 (by decide) (by unfold rI; decide) (by unfold rI; decide) (fun h27 => ?_) (fun h9 => absurd h9 (by omega))
  refine lv_iload_n hx hb dL_act_37 rfl (lv_at hl 1 rfl) ?_
  refine r_iconst hx hb dL_act_38 ?_
  refine r_icmp_ne (tgt := 51) hx hb dL_act_39 (by decide) (by unfold rI; decide) (by unfold rI; decide) (fun h39 => ?_) (fun h9 => absurd h9 (by omega))
  refine lv_iload_n hx hb dL_act_51 rfl (lv_at hl 1 rfl) ?_
  refine r_iconst hx hb dL_act_52 ?_
  refine r_icmp_ne (tgt := 65) hx hb dL_act_53 (by decide) (by unfold rI; decide) (by unfold rI; decide) (fun h53 => ?_) (fun h9 => absurd h9 (by omega))
  refine lv_iload_n hx hb dL_act_65 rfl (lv_at hl 1 rfl) ?_
  refine r_iconst hx hb dL_act_66 ?_
  refine r_icmp_ne (tgt := 79) hx hb dL_act_67 (by decide) (by unfold rI; decide) (by unfold rI; decide) (fun h67 => ?_) (fun h9 => absurd h9 (by omega))
  refine lv_iload_n hx hb dL_act_79 rfl (lv_at hl 1 rfl) ?_
  refine r_bipush hx hb dL_act_80 (by decide) ?_
  refine r_icmp_ne (tgt := 101) hx hb dL_act_82 (by decide) (by unfold rI; decide) (by unfold rI; decide) (fun h82 => ?_) (fun h9 => absurd h9 (by omega))
  refine lv_iload_n hx hb dL_act_101 rfl (lv_at hl 1 rfl) ?_
  refine r_bipush hx hb dL_act_102 (by decide) ?_
  refine r_icmp_ne (tgt := 115) hx hb dL_act_104 (by decide) (by unfold rI; decide) (by unfold rI; decide) (fun h104 => ?_) (fun h9 => absurd h9 (by omega))
  refine lv_iload_n hx hb dL_act_115 rfl (lv_at hl 1 rfl) ?_
  refine r_bipush hx hb dL_act_116 (by decide) ?_
  refine r_icmp_ne (tgt := 129) hx hb dL_act_118 (by decide) (by unfold rI; decide) (by unfold rI; decide) (fun h118 => ?_) (fun h9 => absurd h9 (by omega))
  refine lv_iload_n hx hb dL_act_129 rfl (lv_at hl 1 rfl) ?_
  refine r_bipush hx hb dL_act_130 (by decide) ?_
  refine r_icmp_ne (tgt := 143) hx hb dL_act_132 (by decide) (by unfold rI; decide) (by unfold rI; decide) (fun h132 => ?_) (fun h9 => absurd h9 (by omega))
  refine lv_iload_n hx hb dL_act_143 rfl (lv_at hl 1 rfl) ?_
  refine r_bipush hx hb dL_act_144 (by decide) ?_
  refine r_icmp_ne (tgt := 157) hx hb dL_act_146 (by decide) (by unfold rI; decide) (by unfold rI; decide) (fun h9 => absurd h9 (by omega)) (fun h146 => ?_)
  refine lv_aload_n hx hb dL_act_149 rfl (lv_at hl 0 rfl) ?_
  refine lv_iload_n hx hb dL_act_150 rfl (lv_at hl 2 rfl) ?_
  refine r_xcVi (As := [.int (iI (v1))]) (rest := []) S (c_X1_ways l hst D cI cL tw (y0) (y2) (b) (pq) (cq) (tu) (ph) (mo) (gc) (P) (C) (v1) (hB) (by omega) (by omega) (by omega) (by omega) (by omega)) gL_act_X1_ways rfl rfl rfl ⟨rfl, f_X1_ways⟩ hR (Nat.le_of_ble_eq_true rfl) (Nat.le_of_ble_eq_true rfl) (hE.kept hS.2.1) hP hN [0, 1, 2, 3, 4] rfl 0 rfl rfl rfl hl.1 rfl (Nat.le_of_ble_eq_true rfl) dL_act_151 ⟨Nat.le_trans (Nat.le_of_ble_eq_true rfl) hRc.1, Nat.le_trans (Nat.le_of_ble_eq_true rfl) hRc.2⟩ (fun E9 ce9 q9 H locs hx9 h91 h92 h93 hP hN => ?_) (fun z151 H locs hz151 hP hN => ?_)
  · have htb9 := htb
    have hS := hN.mono hA
    rcases hx9 with ⟨rfl, hc9⟩ | ⟨rfl, hc9⟩
    · refine vx_catch (own := RL) hown [⟨0, 179, 180, 53⟩] ⟨0, 179, 186, 55⟩ [⟨0, 179, 192, 57⟩] (htb.trans rfl) (fun z hz => by rw [List.mem_singleton.mp hz]; exact Or.inr ⟨by decide, _, hts _ mw_L_act_10r_0, hE.2.2.2.2.2.2 ("java/lang/IllegalArgumentException", "java/lang/IndexOutOfBoundsException") (by decide +kernel)⟩) (by decide) (by decide) (hts _ mw_L_act_10r_1) (nest_use (by decide +kernel) (hE.2.1 (.castable "java/lang/IllegalArgumentException" "java/lang/IllegalArgumentException") (by decide +kernel))) h91 h92 h93 ?_
      refine lv_astore (lv' := [(5, .ref q9), (0, .ref y0), (1, .int (iI (10))), (2, .int (iI (v1))), (3, .int (iI (v2))), (4, .int (iI (v3)))]) hx hb dL_act_186 hl (by decide) rfl (fun ls hl => ?_)
      refine r_sipush hx hb dL_act_188 (by decide) ?_
      exact hret (-902) () _ _ _ _ _ _ dL_act_191 (by first | rfl | omega | (dsimp only; omega)) hP hD hS (Nat.le_of_ble_eq_true rfl) (Nat.le_of_ble_eq_true rfl)
    · refine vx_catch (own := RL) hown [⟨0, 179, 180, 53⟩, ⟨0, 179, 186, 55⟩] ⟨0, 179, 192, 57⟩ [] (htb.trans rfl) (fun z hz => by simp only [List.mem_cons, List.not_mem_nil, or_false] at hz; rcases hz with rfl | rfl; (exact Or.inr ⟨by decide, _, hts _ mw_L_act_10r_0, hE.2.2.2.2.2.2 ("java/lang/IllegalStateException", "java/lang/IndexOutOfBoundsException") (by decide +kernel)⟩); exact Or.inr ⟨by decide, _, hts _ mw_L_act_10r_1, hE.2.2.2.2.2.2 ("java/lang/IllegalStateException", "java/lang/IllegalArgumentException") (by decide +kernel)⟩) (by decide) (by decide) (hts _ mw_L_act_10r_2) (nest_use (by decide +kernel) (hE.2.1 (.castable "java/lang/IllegalStateException" "java/lang/IllegalStateException") (by decide +kernel))) h91 h92 h93 ?_
      refine lv_astore (lv' := [(5, .ref q9), (0, .ref y0), (1, .int (iI (10))), (2, .int (iI (v1))), (3, .int (iI (v2))), (4, .int (iI (v3)))]) hx hb dL_act_192 hl (by decide) rfl (fun ls hl => ?_)
      refine r_sipush hx hb dL_act_194 (by decide) ?_
      exact hret (-903) () _ _ _ _ _ _ dL_act_197 (by first | rfl | omega | (dsimp only; omega)) hP hD hS (Nat.le_of_ble_eq_true rfl) (Nat.le_of_ble_eq_true rfl)
  · exact (by (have h9 := hz151); (try dsimp only at h9); omega : False).elim

set_option maxRecDepth 20000 in
theorem mw_L_act_11r_0 : (.classLink RL 53 "java/lang/IndexOutOfBoundsException" : Cond) ∈ wsL_act := by decide +kernel
set_option maxRecDepth 20000 in
theorem mw_L_act_11r_1 : (.classLink RL 55 "java/lang/IllegalArgumentException" : Cond) ∈ wsL_act := by decide +kernel
set_option maxHeartbeats 4000000 in
set_option maxRecDepth 100000 in
theorem c_L_act_11r (l : Launch) (hst : l.stackTraces = false) (D : va_G) (cI cL : ClassId) (tw : Nat) (y0 : Nat) (y2 : Nat) (b : Nat) (pq : Nat) (cq : Nat) (tu : Int) (ph : Int) (mo : Int) (gc : Int) (P : Int → Int) (C : Int → Int) (v1 : Int) (v2 : Int) (v3 : Int) (hB : ∀ i, 0 ≤ P i ∧ P i ≤ 72) (htu : 0 ≤ tu ∧ tu ≤ 3) (hgc : 0 ≤ gc ∧ gc ≤ 2) (hph : 0 ≤ ph ∧ ph ≤ 2) (hmo : 0 ≤ mo ∧ mo ≤ 6) (h_v1 : -2147483648 ≤ v1 ∧ v1 < 2147483648) (h_v2 : -2147483648 ≤ v2 ∧ v2 < 2147483648) (h_v3 : -2147483648 ≤ v3 ∧ v3 < 2147483648) (hno : ¬ (0 ≤ v1 ∧ v1 ≤ 3 ∧ 0 ≤ v2 ∧ v2 ≤ 3 ∧ 0 ≤ v3 ∧ v3 ≤ 3 ∧ v3 % 2 ≠ v1 % 2)) : XWi l yL_act wsL_act { frames := 8, cells := 3, slots := 18, locals := 147 } D cI cL tw [.ref y0, .int (iI (11)), .int (iI (v1)), .int (iI (v2)), .int (iI (v3))] [(y0, .inr (1, [.ref b, .ref y2, .int (iI (tu)), .int (iI (gc)), .int (iI (ph)), .int (iI (mo))])), (y2, .inl (cI, 4, .inl (aI C))), (b, .inr (0, [.ref pq, .ref cq])), (pq, .inl (cI, 16, .inl (aI P))), (cq, .inl (cI, 136, .inl (aI (cnt P))))] (fun (z : Int) (u : Unit) => (z = -901 ∧ ¬ (0 ≤ v1 ∧ v1 ≤ 3 ∧ 0 ≤ v2 ∧ v2 ≤ 3)) ∨ (z = -902 ∧ 0 ≤ v1 ∧ v1 ≤ 3 ∧ 0 ≤ v2 ∧ v2 ≤ 3)) (fun u : Unit => [(y0, .inr (1, [.ref b, .ref y2, .int (iI (tu)), .int (iI (gc)), .int (iI (ph)), .int (iI (mo))])), (y2, .inl (cI, 4, .inl (aI C))), (b, .inr (0, [.ref pq, .ref cq])), (pq, .inl (cI, 16, .inl (aI P))), (cq, .inl (cI, 136, .inl (aI (cnt P))))]) (fun _ => False) 3 18 := by
  refine lwi_of (cc := cL_act) (maxL := 6) (own := RL) (by decide) rfl rfl (Nat.le_of_ble_eq_true rfl) ?_
  intro p e R s mt args below meth c H0 Q ls A S hR hRc hE hP hD hA hN hl htb hret
  have hS := hN.mono hA
  obtain ⟨hx, hb, hml, hown, hts⟩ := id S
  have hl : lv_has ls 6 [(0, .ref y0), (1, .int (iI (11))), (2, .int (iI (v1))), (3, .int (iI (v2))), (4, .int (iI (v3)))] := hl
  refine lv_iload_n hx hb dL_act_0 rfl (lv_at hl 1 rfl) ?_
  refine r_if_ne (tgt := 12) hx hb dL_act_1 (by decide) (by unfold rI; decide) (fun h1 => ?_) (fun h9 => absurd h9 (by omega))
  refine lv_iload_n hx hb dL_act_12 rfl (lv_at hl 1 rfl) ?_
  refine r_iconst hx hb dL_act_13 ?_
  refine r_icmp_ne (tgt := 25) hx hb dL_act_14 (by decide) (by unfold rI; decide) (by unfold rI; decide) (fun h14 => ?_) (fun h9 => absurd h9 (by omega))
  refine lv_iload_n hx hb dL_act_25 rfl (lv_at hl 1 rfl) ?_
  refine r_iconst hx hb dL_act_26 ?_
  refine r_icmp_ne (tgt := 37) hx hb dL_act_27 (by decide) (by unfold rI; decide) (by unfold rI; decide) (fun h27 => ?_) (fun h9 => absurd h9 (by omega))
  refine lv_iload_n hx hb dL_act_37 rfl (lv_at hl 1 rfl) ?_
  refine r_iconst hx hb dL_act_38 ?_
  refine r_icmp_ne (tgt := 51) hx hb dL_act_39 (by decide) (by unfold rI; decide) (by unfold rI; decide) (fun h39 => ?_) (fun h9 => absurd h9 (by omega))
  refine lv_iload_n hx hb dL_act_51 rfl (lv_at hl 1 rfl) ?_
  refine r_iconst hx hb dL_act_52 ?_
  refine r_icmp_ne (tgt := 65) hx hb dL_act_53 (by decide) (by unfold rI; decide) (by unfold rI; decide) (fun h53 => ?_) (fun h9 => absurd h9 (by omega))
  refine lv_iload_n hx hb dL_act_65 rfl (lv_at hl 1 rfl) ?_
  refine r_iconst hx hb dL_act_66 ?_
  refine r_icmp_ne (tgt := 79) hx hb dL_act_67 (by decide) (by unfold rI; decide) (by unfold rI; decide) (fun h67 => ?_) (fun h9 => absurd h9 (by omega))
  refine lv_iload_n hx hb dL_act_79 rfl (lv_at hl 1 rfl) ?_
  refine r_bipush hx hb dL_act_80 (by decide) ?_
  refine r_icmp_ne (tgt := 101) hx hb dL_act_82 (by decide) (by unfold rI; decide) (by unfold rI; decide) (fun h82 => ?_) (fun h9 => absurd h9 (by omega))
  refine lv_iload_n hx hb dL_act_101 rfl (lv_at hl 1 rfl) ?_
  refine r_bipush hx hb dL_act_102 (by decide) ?_
  refine r_icmp_ne (tgt := 115) hx hb dL_act_104 (by decide) (by unfold rI; decide) (by unfold rI; decide) (fun h104 => ?_) (fun h9 => absurd h9 (by omega))
  refine lv_iload_n hx hb dL_act_115 rfl (lv_at hl 1 rfl) ?_
  refine r_bipush hx hb dL_act_116 (by decide) ?_
  refine r_icmp_ne (tgt := 129) hx hb dL_act_118 (by decide) (by unfold rI; decide) (by unfold rI; decide) (fun h118 => ?_) (fun h9 => absurd h9 (by omega))
  refine lv_iload_n hx hb dL_act_129 rfl (lv_at hl 1 rfl) ?_
  refine r_bipush hx hb dL_act_130 (by decide) ?_
  refine r_icmp_ne (tgt := 143) hx hb dL_act_132 (by decide) (by unfold rI; decide) (by unfold rI; decide) (fun h132 => ?_) (fun h9 => absurd h9 (by omega))
  refine lv_iload_n hx hb dL_act_143 rfl (lv_at hl 1 rfl) ?_
  refine r_bipush hx hb dL_act_144 (by decide) ?_
  refine r_icmp_ne (tgt := 157) hx hb dL_act_146 (by decide) (by unfold rI; decide) (by unfold rI; decide) (fun h146 => ?_) (fun h9 => absurd h9 (by omega))
  refine lv_iload_n hx hb dL_act_157 rfl (lv_at hl 1 rfl) ?_
  refine r_bipush hx hb dL_act_158 (by decide) ?_
  refine r_icmp_ne (tgt := 174) hx hb dL_act_160 (by decide) (by unfold rI; decide) (by unfold rI; decide) (fun h9 => absurd h9 (by omega)) (fun h160 => ?_)
  refine lv_aload_n hx hb dL_act_163 rfl (lv_at hl 0 rfl) ?_
  refine lv_iload_n hx hb dL_act_164 rfl (lv_at hl 2 rfl) ?_
  refine lv_iload_n hx hb dL_act_165 rfl (lv_at hl 3 rfl) ?_
  refine lv_iload hx hb dL_act_166 (lv_at hl 4 rfl) ?_
  refine r_xcVi (As := [.int (iI (v1)), .int (iI (v2)), .int (iI (v3))]) (rest := []) S (c_X1_threat l hst D cI cL tw (y0) (y2) (b) (pq) (cq) (tu) (ph) (mo) (gc) (P) (C) (v1) (v2) (v3) (hB) (by omega) (by omega) (by omega) (by omega) (by omega) (by omega) (by omega)) gL_act_X1_threat rfl rfl rfl ⟨rfl, f_X1_threat⟩ hR (Nat.le_of_ble_eq_true rfl) (Nat.le_of_ble_eq_true rfl) (hE.kept hS.2.1) hP hN [0, 1, 2, 3, 4] rfl 0 rfl rfl rfl hl.1 rfl (Nat.le_of_ble_eq_true rfl) dL_act_168 ⟨Nat.le_trans (Nat.le_of_ble_eq_true rfl) hRc.1, Nat.le_trans (Nat.le_of_ble_eq_true rfl) hRc.2⟩ (fun E9 ce9 q9 H locs hx9 h91 h92 h93 hP hN => ?_) (fun z168 H locs hz168 hP hN => ?_)
  · have htb9 := htb
    have hS := hN.mono hA
    rcases hx9 with ⟨rfl, hc9⟩ | ⟨rfl, hc9⟩
    · refine vx_catch (own := RL) hown [] ⟨0, 179, 180, 53⟩ [⟨0, 179, 186, 55⟩, ⟨0, 179, 192, 57⟩] (htb.trans rfl) (fun z hz => nomatch hz) (by decide) (by decide) (hts _ mw_L_act_11r_0) (nest_use (by decide +kernel) (hE.2.1 (.castable "java/lang/IndexOutOfBoundsException" "java/lang/IndexOutOfBoundsException") (by decide +kernel))) h91 h92 h93 ?_
      refine lv_astore (lv' := [(5, .ref q9), (0, .ref y0), (1, .int (iI (11))), (2, .int (iI (v1))), (3, .int (iI (v2))), (4, .int (iI (v3)))]) hx hb dL_act_180 hl (by decide) rfl (fun ls hl => ?_)
      refine r_sipush hx hb dL_act_182 (by decide) ?_
      exact hret (-901) () _ _ _ _ _ _ dL_act_185 (by first | rfl | omega | (dsimp only; omega)) hP hD hS (Nat.le_of_ble_eq_true rfl) (Nat.le_of_ble_eq_true rfl)
    · refine vx_catch (own := RL) hown [⟨0, 179, 180, 53⟩] ⟨0, 179, 186, 55⟩ [⟨0, 179, 192, 57⟩] (htb.trans rfl) (fun z hz => by rw [List.mem_singleton.mp hz]; exact Or.inr ⟨by decide, _, hts _ mw_L_act_11r_0, hE.2.2.2.2.2.2 ("java/lang/IllegalArgumentException", "java/lang/IndexOutOfBoundsException") (by decide +kernel)⟩) (by decide) (by decide) (hts _ mw_L_act_11r_1) (nest_use (by decide +kernel) (hE.2.1 (.castable "java/lang/IllegalArgumentException" "java/lang/IllegalArgumentException") (by decide +kernel))) h91 h92 h93 ?_
      refine lv_astore (lv' := [(5, .ref q9), (0, .ref y0), (1, .int (iI (11))), (2, .int (iI (v1))), (3, .int (iI (v2))), (4, .int (iI (v3)))]) hx hb dL_act_186 hl (by decide) rfl (fun ls hl => ?_)
      refine r_sipush hx hb dL_act_188 (by decide) ?_
      exact hret (-902) () _ _ _ _ _ _ dL_act_191 (by first | rfl | omega | (dsimp only; omega)) hP hD hS (Nat.le_of_ble_eq_true rfl) (Nat.le_of_ble_eq_true rfl)
  · exact (by (have h9 := hz168); (try dsimp only at h9); omega : False).elim

set_option maxRecDepth 20000 in
theorem mw_L_act_12r_0 : (.classLink RL 53 "java/lang/IndexOutOfBoundsException" : Cond) ∈ wsL_act := by decide +kernel
set_option maxRecDepth 20000 in
theorem mw_L_act_12r_1 : (.classLink RL 55 "java/lang/IllegalArgumentException" : Cond) ∈ wsL_act := by decide +kernel
set_option maxRecDepth 20000 in
theorem mw_L_act_12r_2 : (.classLink RL 57 "java/lang/IllegalStateException" : Cond) ∈ wsL_act := by decide +kernel
set_option maxHeartbeats 4000000 in
set_option maxRecDepth 100000 in
theorem c_L_act_12r (l : Launch) (hst : l.stackTraces = false) (D : va_G) (cI cL : ClassId) (tw : Nat) (y0 : Nat) (y2 : Nat) (b : Nat) (pq : Nat) (cq : Nat) (tu : Int) (ph : Int) (mo : Int) (gc : Int) (P : Int → Int) (C : Int → Int) (v1 : Int) (v2 : Int) (v3 : Int) (hB : ∀ i, 0 ≤ P i ∧ P i ≤ 72) (htu : 0 ≤ tu ∧ tu ≤ 3) (hgc : 0 ≤ gc ∧ gc ≤ 2) (hph : 0 ≤ ph ∧ ph ≤ 2) (hmo : 0 ≤ mo ∧ mo ≤ 6) (h_v1 : -2147483648 ≤ v1 ∧ v1 < 2147483648) (h_v2 : -2147483648 ≤ v2 ∧ v2 < 2147483648) (h_v3 : -2147483648 ≤ v3 ∧ v3 < 2147483648) (hno : ¬ (1 ≤ v1 ∧ v1 ≤ 3) ∨ ph ≠ 0) : XWi l yL_act wsL_act { frames := 13, cells := 1, slots := 6, locals := 324 } D cI cL tw [.ref y0, .int (iI (12)), .int (iI (v1)), .int (iI (v2)), .int (iI (v3))] [(y0, .inr (1, [.ref b, .ref y2, .int (iI (tu)), .int (iI (gc)), .int (iI (ph)), .int (iI (mo))])), (y2, .inl (cI, 4, .inl (aI C))), (b, .inr (0, [.ref pq, .ref cq])), (pq, .inl (cI, 16, .inl (aI P))), (cq, .inl (cI, 136, .inl (aI (cnt P))))] (fun (z : Int) (u : Unit) => (z = -902 ∧ ¬ (1 ≤ v1 ∧ v1 ≤ 3)) ∨ (z = -903 ∧ 1 ≤ v1 ∧ v1 ≤ 3)) (fun u : Unit => [(y0, .inr (1, [.ref b, .ref y2, .int (iI (tu)), .int (iI (gc)), .int (iI (ph)), .int (iI (mo))])), (y2, .inl (cI, 4, .inl (aI C))), (b, .inr (0, [.ref pq, .ref cq])), (pq, .inl (cI, 16, .inl (aI P))), (cq, .inl (cI, 136, .inl (aI (cnt P))))]) (fun _ => False) 1 6 := by
  refine lwi_of (cc := cL_act) (maxL := 6) (own := RL) (by decide) rfl rfl (Nat.le_of_ble_eq_true rfl) ?_
  intro p e R s mt args below meth c H0 Q ls A S hR hRc hE hP hD hA hN hl htb hret
  have hS := hN.mono hA
  obtain ⟨hx, hb, hml, hown, hts⟩ := id S
  have hl : lv_has ls 6 [(0, .ref y0), (1, .int (iI (12))), (2, .int (iI (v1))), (3, .int (iI (v2))), (4, .int (iI (v3)))] := hl
  refine lv_iload_n hx hb dL_act_0 rfl (lv_at hl 1 rfl) ?_
  refine r_if_ne (tgt := 12) hx hb dL_act_1 (by decide) (by unfold rI; decide) (fun h1 => ?_) (fun h9 => absurd h9 (by omega))
  refine lv_iload_n hx hb dL_act_12 rfl (lv_at hl 1 rfl) ?_
  refine r_iconst hx hb dL_act_13 ?_
  refine r_icmp_ne (tgt := 25) hx hb dL_act_14 (by decide) (by unfold rI; decide) (by unfold rI; decide) (fun h14 => ?_) (fun h9 => absurd h9 (by omega))
  refine lv_iload_n hx hb dL_act_25 rfl (lv_at hl 1 rfl) ?_
  refine r_iconst hx hb dL_act_26 ?_
  refine r_icmp_ne (tgt := 37) hx hb dL_act_27 (by decide) (by unfold rI; decide) (by unfold rI; decide) (fun h27 => ?_) (fun h9 => absurd h9 (by omega))
  refine lv_iload_n hx hb dL_act_37 rfl (lv_at hl 1 rfl) ?_
  refine r_iconst hx hb dL_act_38 ?_
  refine r_icmp_ne (tgt := 51) hx hb dL_act_39 (by decide) (by unfold rI; decide) (by unfold rI; decide) (fun h39 => ?_) (fun h9 => absurd h9 (by omega))
  refine lv_iload_n hx hb dL_act_51 rfl (lv_at hl 1 rfl) ?_
  refine r_iconst hx hb dL_act_52 ?_
  refine r_icmp_ne (tgt := 65) hx hb dL_act_53 (by decide) (by unfold rI; decide) (by unfold rI; decide) (fun h53 => ?_) (fun h9 => absurd h9 (by omega))
  refine lv_iload_n hx hb dL_act_65 rfl (lv_at hl 1 rfl) ?_
  refine r_iconst hx hb dL_act_66 ?_
  refine r_icmp_ne (tgt := 79) hx hb dL_act_67 (by decide) (by unfold rI; decide) (by unfold rI; decide) (fun h67 => ?_) (fun h9 => absurd h9 (by omega))
  refine lv_iload_n hx hb dL_act_79 rfl (lv_at hl 1 rfl) ?_
  refine r_bipush hx hb dL_act_80 (by decide) ?_
  refine r_icmp_ne (tgt := 101) hx hb dL_act_82 (by decide) (by unfold rI; decide) (by unfold rI; decide) (fun h82 => ?_) (fun h9 => absurd h9 (by omega))
  refine lv_iload_n hx hb dL_act_101 rfl (lv_at hl 1 rfl) ?_
  refine r_bipush hx hb dL_act_102 (by decide) ?_
  refine r_icmp_ne (tgt := 115) hx hb dL_act_104 (by decide) (by unfold rI; decide) (by unfold rI; decide) (fun h104 => ?_) (fun h9 => absurd h9 (by omega))
  refine lv_iload_n hx hb dL_act_115 rfl (lv_at hl 1 rfl) ?_
  refine r_bipush hx hb dL_act_116 (by decide) ?_
  refine r_icmp_ne (tgt := 129) hx hb dL_act_118 (by decide) (by unfold rI; decide) (by unfold rI; decide) (fun h118 => ?_) (fun h9 => absurd h9 (by omega))
  refine lv_iload_n hx hb dL_act_129 rfl (lv_at hl 1 rfl) ?_
  refine r_bipush hx hb dL_act_130 (by decide) ?_
  refine r_icmp_ne (tgt := 143) hx hb dL_act_132 (by decide) (by unfold rI; decide) (by unfold rI; decide) (fun h132 => ?_) (fun h9 => absurd h9 (by omega))
  refine lv_iload_n hx hb dL_act_143 rfl (lv_at hl 1 rfl) ?_
  refine r_bipush hx hb dL_act_144 (by decide) ?_
  refine r_icmp_ne (tgt := 157) hx hb dL_act_146 (by decide) (by unfold rI; decide) (by unfold rI; decide) (fun h146 => ?_) (fun h9 => absurd h9 (by omega))
  refine lv_iload_n hx hb dL_act_157 rfl (lv_at hl 1 rfl) ?_
  refine r_bipush hx hb dL_act_158 (by decide) ?_
  refine r_icmp_ne (tgt := 174) hx hb dL_act_160 (by decide) (by unfold rI; decide) (by unfold rI; decide) (fun h160 => ?_) (fun h9 => absurd h9 (by omega))
  refine lv_aload_n hx hb dL_act_174 rfl (lv_at hl 0 rfl) ?_
  refine lv_iload_n hx hb dL_act_175 rfl (lv_at hl 2 rfl) ?_
  refine r_xcW (As := [.int (iI (v1))]) (rest := []) (wr := []) S (c_X1_captureChance l hst D cI cL tw (y0) (y2) (b) (pq) (cq) (tu) (ph) (mo) (gc) (P) (C) (v1) (hB) (by omega) (by omega) (by omega) (by omega) (by omega)) gL_act_X1_captureChance rfl rfl rfl ⟨rfl, f_X1_captureChance⟩ hR (Nat.le_of_ble_eq_true rfl) (Nat.le_of_ble_eq_true rfl) (hE.kept hS.2.1) hP hD hS hA [0, 1, 2, 3, 4] [] rfl rfl (by decide) rfl (by decide) (by decide) 0 rfl rfl rfl hl.1 rfl (Nat.le_of_ble_eq_true rfl) dL_act_176 ⟨Nat.le_trans (Nat.le_of_ble_eq_true rfl) hRc.1, Nat.le_trans (Nat.le_of_ble_eq_true rfl) hRc.2⟩ (fun E9 ce9 q9 H locs hx9 h91 h92 h93 hP hS => ?_) (fun z176 u176 H locs hz176 hP hD hS => ?_)
  · have htb9 := htb
    rcases hx9 with ⟨rfl, hc9⟩ | ⟨rfl, hc9⟩
    · refine vx_catch (own := RL) hown [⟨0, 179, 180, 53⟩] ⟨0, 179, 186, 55⟩ [⟨0, 179, 192, 57⟩] (htb.trans rfl) (fun z hz => by rw [List.mem_singleton.mp hz]; exact Or.inr ⟨by decide, _, hts _ mw_L_act_12r_0, hE.2.2.2.2.2.2 ("java/lang/IllegalArgumentException", "java/lang/IndexOutOfBoundsException") (by decide +kernel)⟩) (by decide) (by decide) (hts _ mw_L_act_12r_1) (nest_use (by decide +kernel) (hE.2.1 (.castable "java/lang/IllegalArgumentException" "java/lang/IllegalArgumentException") (by decide +kernel))) h91 h92 h93 ?_
      refine lv_astore (lv' := [(5, .ref q9), (0, .ref y0), (1, .int (iI (12))), (2, .int (iI (v1))), (3, .int (iI (v2))), (4, .int (iI (v3)))]) hx hb dL_act_186 hl (by decide) rfl (fun ls hl => ?_)
      refine r_sipush hx hb dL_act_188 (by decide) ?_
      exact hret (-902) () _ _ _ _ _ _ dL_act_191 (by first | rfl | omega | (dsimp only; omega)) hP hD hS (Nat.le_of_ble_eq_true rfl) (Nat.le_of_ble_eq_true rfl)
    · refine vx_catch (own := RL) hown [⟨0, 179, 180, 53⟩, ⟨0, 179, 186, 55⟩] ⟨0, 179, 192, 57⟩ [] (htb.trans rfl) (fun z hz => by simp only [List.mem_cons, List.not_mem_nil, or_false] at hz; rcases hz with rfl | rfl; (exact Or.inr ⟨by decide, _, hts _ mw_L_act_12r_0, hE.2.2.2.2.2.2 ("java/lang/IllegalStateException", "java/lang/IndexOutOfBoundsException") (by decide +kernel)⟩); exact Or.inr ⟨by decide, _, hts _ mw_L_act_12r_1, hE.2.2.2.2.2.2 ("java/lang/IllegalStateException", "java/lang/IllegalArgumentException") (by decide +kernel)⟩) (by decide) (by decide) (hts _ mw_L_act_12r_2) (nest_use (by decide +kernel) (hE.2.1 (.castable "java/lang/IllegalStateException" "java/lang/IllegalStateException") (by decide +kernel))) h91 h92 h93 ?_
      refine lv_astore (lv' := [(5, .ref q9), (0, .ref y0), (1, .int (iI (12))), (2, .int (iI (v1))), (3, .int (iI (v2))), (4, .int (iI (v3)))]) hx hb dL_act_192 hl (by decide) rfl (fun ls hl => ?_)
      refine r_sipush hx hb dL_act_194 (by decide) ?_
      exact hret (-903) () _ _ _ _ _ _ dL_act_197 (by first | rfl | omega | (dsimp only; omega)) hP hD hS (Nat.le_of_ble_eq_true rfl) (Nat.le_of_ble_eq_true rfl)
  · exact (by (have h9 := hz176); (try dsimp only at h9); omega : False).elim

set_option maxRecDepth 20000 in
theorem mw_L_act_0k_0 : (.classLink RL 53 "java/lang/IndexOutOfBoundsException" : Cond) ∈ wsL_act := by decide +kernel
set_option maxRecDepth 20000 in
theorem mw_L_act_0k_1 : (.classLink RL 55 "java/lang/IllegalArgumentException" : Cond) ∈ wsL_act := by decide +kernel
set_option maxRecDepth 20000 in
theorem mw_L_act_0k_2 : (.classLink RL 57 "java/lang/IllegalStateException" : Cond) ∈ wsL_act := by decide +kernel
set_option maxHeartbeats 4000000 in
set_option maxRecDepth 100000 in
theorem c_L_act_0k (l : Launch) (hst : l.stackTraces = false) (D : va_G) (cI cL : ClassId) (tw : Nat) (y0 : Nat) (y2 : Nat) (b : Nat) (pq : Nat) (cq : Nat) (tu : Int) (ph : Int) (mo : Int) (gc : Int) (P : Int → Int) (C : Int → Int) (v1 : Int) (v2 : Int) (v3 : Int) (hB : ∀ i, 0 ≤ P i ∧ P i ≤ 72) (htu : 0 ≤ tu ∧ tu ≤ 3) (hgc : 0 ≤ gc ∧ gc ≤ 2) (hph : 0 ≤ ph ∧ ph ≤ 2) (hmo : 0 ≤ mo ∧ mo ≤ 6) (h_v1 : -2147483648 ≤ v1 ∧ v1 < 2147483648) (h_v2 : -2147483648 ≤ v2 ∧ v2 < 2147483648) (h_v3 : -2147483648 ≤ v3 ∧ v3 < 2147483648) (hk1 : 0 ≤ v1 ∧ v1 ≤ 6) (hk2 : ph = 0) : XWi l yL_act wsL_act { frames := 8, cells := 1, slots := 6, locals := 142 } D cI cL tw [.ref y0, .int (iI (0)), .int (iI (v1)), .int (iI (v2)), .int (iI (v3))] [(y0, .inr (1, [.ref b, .ref y2, .int (iI (tu)), .int (iI (gc)), .int (iI (ph)), .int (iI (mo))])), (y2, .inl (cI, 4, .inl (aI C))), (b, .inr (0, [.ref pq, .ref cq])), (pq, .inl (cI, 16, .inl (aI P))), (cq, .inl (cI, 136, .inl (aI (cnt P))))] (fun (z : Int) (u : Int × Int × Int × Int) => tsR P tu gc mo v1 z u.1 u.2.1 u.2.2.1 u.2.2.2) (fun u : Int × Int × Int × Int => [(y0, .inr (1, [.ref b, .ref y2, .int (iI (u.1)), .int (iI (u.2.1)), .int (iI (u.2.2.1)), .int (iI (u.2.2.2))])), (y2, .inl (cI, 4, .inl (aI C))), (b, .inr (0, [.ref pq, .ref cq])), (pq, .inl (cI, 16, .inl (aI P))), (cq, .inl (cI, 136, .inl (aI (cnt P))))]) (fun _ => False) 1 6 := by
  refine lwi_of (cc := cL_act) (maxL := 6) (own := RL) (by decide) rfl rfl (Nat.le_of_ble_eq_true rfl) ?_
  intro p e R s mt args below meth c H0 Q ls A S hR hRc hE hP hD hA hN hl htb hret
  have hS := hN.mono hA
  obtain ⟨hx, hb, hml, hown, hts⟩ := id S
  have hl : lv_has ls 6 [(0, .ref y0), (1, .int (iI (0))), (2, .int (iI (v1))), (3, .int (iI (v2))), (4, .int (iI (v3)))] := hl
  refine lv_iload_n hx hb dL_act_0 rfl (lv_at hl 1 rfl) ?_
  refine r_if_ne (tgt := 12) hx hb dL_act_1 (by decide) (by unfold rI; decide) (fun h9 => absurd h9 (by omega)) (fun h1 => ?_)
  refine lv_aload_n hx hb dL_act_4 rfl (lv_at hl 0 rfl) ?_
  refine lv_iload_n hx hb dL_act_5 rfl (lv_at hl 2 rfl) ?_
  refine r_xcW (As := [.int (iI (v1))]) (rest := []) (wr := []) S (c_X1_throwShells l hst D cI cL tw (y0) (y2) (b) (pq) (cq) (tu) (ph) (mo) (gc) (P) (C) (v1) (hB) (by omega) (by omega) (by omega) (by omega) (by omega)) gL_act_X1_throwShells rfl rfl rfl ⟨rfl, f_X1_throwShells⟩ hR (Nat.le_of_ble_eq_true rfl) (Nat.le_of_ble_eq_true rfl) (hE.kept hS.2.1) hP hD hS hA [0, 1, 2, 3, 4] [] rfl rfl (by decide) rfl (by decide) (by decide) 0 rfl rfl rfl hl.1 rfl (Nat.le_of_ble_eq_true rfl) dL_act_6 ⟨Nat.le_trans (Nat.le_of_ble_eq_true rfl) hRc.1, Nat.le_trans (Nat.le_of_ble_eq_true rfl) hRc.2⟩ (fun E9 ce9 q9 H locs hx9 h91 h92 h93 hP hS => ?_) (fun z6 u6 H locs hz6 hP hD hS => ?_)
  · have htb9 := htb
    rcases hx9 with ⟨rfl, hc9⟩ | ⟨rfl, hc9⟩
    · exact (by omega : False).elim
    · exact (by omega : False).elim
  · obtain ⟨u6a, u6b, u6c, u6d⟩ := u6
    dsimp only at hz6
    have hP : va_P D vwCl [(y0, .inr (1, [.ref b, .ref y2, .int (iI (u6a)), .int (iI (u6b)), .int (iI (u6c)), .int (iI (u6d))])), (y2, .inl (cI, 4, .inl (aI C))), (b, .inr (0, [.ref pq, .ref cq])), (pq, .inl (cI, 16, .inl (aI P))), (cq, .inl (cI, 136, .inl (aI (cnt P))))] H := hP.sub [0, 1, 2, 3, 4] rfl
    have hD : va_D A [(y0, .inr (1, [.ref b, .ref y2, .int (iI (u6a)), .int (iI (u6b)), .int (iI (u6c)), .int (iI (u6d))])), (y2, .inl (cI, 4, .inl (aI C))), (b, .inr (0, [.ref pq, .ref cq])), (pq, .inl (cI, 16, .inl (aI P))), (cq, .inl (cI, 136, .inl (aI (cnt P))))] := hD.sub [0, 1, 2, 3, 4] (by decide) rfl
    refine lv_goto (tgt := 179) hx hb dL_act_9 (by decide) ?_
    exact hret (z6) (u6a, u6b, u6c, u6d) _ _ _ _ _ _ dL_act_179 (by (try dsimp only); exact hz6.2.2.2) hP hD hS (Nat.le_of_ble_eq_true rfl) (Nat.le_of_ble_eq_true rfl)

set_option maxRecDepth 20000 in
theorem mw_L_act_1k_0 : (.classLink RL 53 "java/lang/IndexOutOfBoundsException" : Cond) ∈ wsL_act := by decide +kernel
set_option maxRecDepth 20000 in
theorem mw_L_act_1k_1 : (.classLink RL 55 "java/lang/IllegalArgumentException" : Cond) ∈ wsL_act := by decide +kernel
set_option maxRecDepth 20000 in
theorem mw_L_act_1k_2 : (.classLink RL 57 "java/lang/IllegalStateException" : Cond) ∈ wsL_act := by decide +kernel
set_option maxHeartbeats 4000000 in
set_option maxRecDepth 100000 in
theorem c_L_act_1k (l : Launch) (hst : l.stackTraces = false) (D : va_G) (cI cL : ClassId) (tw : Nat) (y0 : Nat) (y2 : Nat) (b : Nat) (pq : Nat) (cq : Nat) (tu : Int) (ph : Int) (mo : Int) (gc : Int) (P : Int → Int) (C : Int → Int) (v1 : Int) (v2 : Int) (v3 : Int) (hB : ∀ i, 0 ≤ P i ∧ P i ≤ 72) (htu : 0 ≤ tu ∧ tu ≤ 3) (hgc : 0 ≤ gc ∧ gc ≤ 2) (hph : 0 ≤ ph ∧ ph ≤ 2) (hmo : 0 ≤ mo ∧ mo ≤ 6) (h_v1 : -2147483648 ≤ v1 ∧ v1 < 2147483648) (h_v2 : -2147483648 ≤ v2 ∧ v2 < 2147483648) (h_v3 : -2147483648 ≤ v3 ∧ v3 < 2147483648) (hk1 : 0 ≤ v1 ∧ v1 ≤ 3) (hk2 : ph = 1) (hk3 : can P (4 * mv P tu + v1) mo ≠ 0) : XWi l yL_act wsL_act { frames := 8, cells := 3, slots := 18, locals := 144 } D cI cL tw [.ref y0, .int (iI (1)), .int (iI (v1)), .int (iI (v2)), .int (iI (v3))] [(y0, .inr (1, [.ref b, .ref y2, .int (iI (tu)), .int (iI (gc)), .int (iI (ph)), .int (iI (mo))])), (y2, .inl (cI, 4, .inl (aI C))), (b, .inr (0, [.ref pq, .ref cq])), (pq, .inl (cI, 16, .inl (aI P))), (cq, .inl (cI, 136, .inl (aI (cnt P))))] (fun (z : Int) (u : Int × Int × Int × (Int → Int) × (Int → Int)) => mvR P C tu gc mo v1 z u.1 u.2.1 u.2.2.1 u.2.2.2.1 u.2.2.2.2) (fun u : Int × Int × Int × (Int → Int) × (Int → Int) => [(y0, .inr (1, [.ref b, .ref y2, .int (iI (u.1)), .int (iI (u.2.1)), .int (iI (u.2.2.1)), .int (iI (mo))])), (y2, .inl (cI, 4, .inl (aI (u.2.2.2.2)))), (b, .inr (0, [.ref pq, .ref cq])), (pq, .inl (cI, 16, .inl (aI (u.2.2.2.1)))), (cq, .inl (cI, 136, .inl (aI (cnt (u.2.2.2.1)))))]) (fun _ => False) 3 18 := by
  refine lwi_of (cc := cL_act) (maxL := 6) (own := RL) (by decide) rfl rfl (Nat.le_of_ble_eq_true rfl) ?_
  intro p e R s mt args below meth c H0 Q ls A S hR hRc hE hP hD hA hN hl htb hret
  have hS := hN.mono hA
  obtain ⟨hx, hb, hml, hown, hts⟩ := id S
  have hl : lv_has ls 6 [(0, .ref y0), (1, .int (iI (1))), (2, .int (iI (v1))), (3, .int (iI (v2))), (4, .int (iI (v3)))] := hl
  refine lv_iload_n hx hb dL_act_0 rfl (lv_at hl 1 rfl) ?_
  refine r_if_ne (tgt := 12) hx hb dL_act_1 (by decide) (by unfold rI; decide) (fun h1 => ?_) (fun h9 => absurd h9 (by omega))
  refine lv_iload_n hx hb dL_act_12 rfl (lv_at hl 1 rfl) ?_
  refine r_iconst hx hb dL_act_13 ?_
  refine r_icmp_ne (tgt := 25) hx hb dL_act_14 (by decide) (by unfold rI; decide) (by unfold rI; decide) (fun h9 => absurd h9 (by omega)) (fun h14 => ?_)
  refine lv_aload_n hx hb dL_act_17 rfl (lv_at hl 0 rfl) ?_
  refine lv_iload_n hx hb dL_act_18 rfl (lv_at hl 2 rfl) ?_
  refine r_xcW (As := [.int (iI (v1))]) (rest := []) (wr := []) S (c_X1_move l hst D cI cL tw (y0) (y2) (b) (pq) (cq) (tu) (ph) (mo) (gc) (P) (C) (v1) (hB) (by omega) (by omega) (by omega) (by omega) (by omega)) gL_act_X1_move rfl rfl rfl ⟨rfl, f_X1_move⟩ hR (Nat.le_of_ble_eq_true rfl) (Nat.le_of_ble_eq_true rfl) (hE.kept hS.2.1) hP hD hS hA [0, 1, 2, 3, 4] [] rfl rfl (by decide) rfl (by decide) (by decide) 0 rfl rfl rfl hl.1 rfl (Nat.le_of_ble_eq_true rfl) dL_act_19 ⟨Nat.le_trans (Nat.le_of_ble_eq_true rfl) hRc.1, Nat.le_trans (Nat.le_of_ble_eq_true rfl) hRc.2⟩ (fun E9 ce9 q9 H locs hx9 h91 h92 h93 hP hS => ?_) (fun z19 u19 H locs hz19 hP hD hS => ?_)
  · have htb9 := htb
    rcases hx9 with ⟨rfl, hc9⟩ | ⟨rfl, hc9⟩
    · exact (by omega : False).elim
    · exact (by omega : False).elim
  · obtain ⟨u19a, u19b, u19c, u19d, u19e⟩ := u19
    dsimp only at hz19
    have hP : va_P D vwCl [(y0, .inr (1, [.ref b, .ref y2, .int (iI (u19a)), .int (iI (u19b)), .int (iI (u19c)), .int (iI (mo))])), (y2, .inl (cI, 4, .inl (aI u19e))), (b, .inr (0, [.ref pq, .ref cq])), (pq, .inl (cI, 16, .inl (aI u19d))), (cq, .inl (cI, 136, .inl (aI (cnt u19d))))] H := hP.sub [0, 1, 2, 3, 4] rfl
    have hD : va_D A [(y0, .inr (1, [.ref b, .ref y2, .int (iI (u19a)), .int (iI (u19b)), .int (iI (u19c)), .int (iI (mo))])), (y2, .inl (cI, 4, .inl (aI u19e))), (b, .inr (0, [.ref pq, .ref cq])), (pq, .inl (cI, 16, .inl (aI u19d))), (cq, .inl (cI, 136, .inl (aI (cnt u19d))))] := hD.sub [0, 1, 2, 3, 4] (by decide) rfl
    refine lv_goto (tgt := 179) hx hb dL_act_22 (by decide) ?_
    exact hret (z19) (u19a, u19b, u19c, u19d, u19e) _ _ _ _ _ _ dL_act_179 (by (try dsimp only); exact hz19.2.2.2) hP hD hS (Nat.le_of_ble_eq_true rfl) (Nat.le_of_ble_eq_true rfl)
