set_option maxHeartbeats 4000000 in
set_option maxRecDepth 100000 in
theorem law_loop {p : Program} {l : Launch} {e : Env} {s : State} {mt : MethodId} {below : List Frame} {meth : Method} {c : Code} {sb L : Nat} {xs : Nat → Int32} {D : va_G} {cI cL : ClassId} {tw : Nat} {A : Nat → Prop} (S : CallFix p mt c cL_law 7 s #[Value.ref sb] wsL_law RL) (hst : l.stackTraces = false) (hE : EV D cI cL tw A s s.heap) (hA : ∀ q : Nat, s.heap.size ≤ q → A q) (hX : va_X sb L xs s s.heap) (hbl : sb < s.heap.size) (hbA : ¬ A sb) (hL : L ≤ 2048) (hr : meth.sig.returnType = ret) (hlocks : meth.locks = false) (hAd : ∀ q : Nat, A q → s.heap.size ≤ q) (y0 y2 b pq cq g0 g1 g2 g3 o : Nat) : ∀ (d : Nat) (i : Int) (cells slots : Nat) (tu ph mo gc th : Int) (P C : Int → Int) (fo : Nat → Int64) (H : Heap) (locs : List Loc) (ls : Array Slot), (d : Int) = 4096 - i → 0 ≤ i ∧ i ≤ (L : Int) → (cells : Int) ≤ 100 + i → (slots : Int) ≤ 1000 + 5 * i → GI tu ph mo gc P → va_P D vwCl [(y0, .inr (1, [.ref b, .ref y2, .int (iI (tu)), .int (iI (gc)), .int (iI (ph)), .int (iI (mo))])), (y2, .inl (cI, 4, .inl (aI C))), (b, .inr (0, [.ref pq, .ref cq])), (pq, .inl (cI, 16, .inl (aI P))), (cq, .inl (cI, 136, .inl (aI (cnt P)))), (g0, .inr (2, [.ref g1, .int (iI (tu)), .int (iI (ph)), .int (iI (mo)), .int (iI (gc)), .ref g2, .ref g3, .int (iI (th))])), (g1, .inl (cI, 16, .inl (aI P))), (g2, .inl (cI, 4, .inl (aI C))), (g3, .inl (cI, 7, .inl (aI wyI))), (o, .inl (cL, 1, .inr (.inl fo)))] H → va_D A [(y0, .inr (1, [.ref b, .ref y2, .int (iI (tu)), .int (iI (gc)), .int (iI (ph)), .int (iI (mo))])), (y2, .inl (cI, 4, .inl (aI C))), (b, .inr (0, [.ref pq, .ref cq])), (pq, .inl (cI, 16, .inl (aI P))), (cq, .inl (cI, 136, .inl (aI (cnt P)))), (g0, .inr (2, [.ref g1, .int (iI (tu)), .int (iI (ph)), .int (iI (mo)), .int (iI (gc)), .ref g2, .ref g3, .int (iI (th))])), (g1, .inl (cI, 16, .inl (aI P))), (g2, .inl (cI, 4, .inl (aI C))), (g3, .inl (cI, 7, .inl (aI wyI))), (o, .inl (cL, 1, .inr (.inl fo)))] → va_S A s.heap H locs → lv_has ls 7 [(4, .int (iI (i))), (0, .ref sb), (1, .ref y0), (2, .ref g0), (3, .ref o)] → W p l e room_1 s mt #[Value.ref sb] below meth c H locs cells slots (lw_Z below #[Value.ref sb] s) (F0 mt 23 ls []) := by
  obtain ⟨hx, hb, hml, hown, hts⟩ := id S
  intro d
  induction d using Nat.strongRecOn with
  | ind d ih =>
  intro i cells slots tu ph mo gc th P C fo H locs ls hd hi hce hsl hG hP hD hS hl
  refine lv_iload hx hb dL_law_23 (lv_at hl 0 rfl) ?_
  refine lv_aload_n hx hb dL_law_25 rfl (lv_at hl 1 rfl) ?_
  refine r_slen hx hb hX hbl hbA hS dL_law_26 ?_
  refine r_iconst hx hb dL_law_27 ?_
  refine r_isub hx hb dL_law_28 ?_
  refine r_icmp_gt (tgt := 978) hx hb dL_law_29 (by decide) (by unfold rI; omega) (by unfold rI; omega) (fun h29 => ?_) (fun h29 => ?_)
  · refine lv_iconst (v := 1) hx hb dL_law_978 (by decide) ?_
    refine va_forget (fun q hq => hAd _ (hS.2.2 q hq)) ?_
    refine W.widen (k := 662015) (n := 7110060) (by omega) (by omega) ?_
    exact lw_ret hx hb hr hlocks dL_law_979
  · have K : ∀ (tu ph mo gc th : Int) (P C : Int → Int) (fo : Nat → Int64) (H : Heap) (locs : List Loc) (ce sl : Nat) (ls : Array Slot), ce ≤ cells + 3 → sl ≤ slots + 18 → GI tu ph mo gc P → va_P D vwCl [(y0, .inr (1, [.ref b, .ref y2, .int (iI (tu)), .int (iI (gc)), .int (iI (ph)), .int (iI (mo))])), (y2, .inl (cI, 4, .inl (aI C))), (b, .inr (0, [.ref pq, .ref cq])), (pq, .inl (cI, 16, .inl (aI P))), (cq, .inl (cI, 136, .inl (aI (cnt P)))), (g0, .inr (2, [.ref g1, .int (iI (tu)), .int (iI (ph)), .int (iI (mo)), .int (iI (gc)), .ref g2, .ref g3, .int (iI (th))])), (g1, .inl (cI, 16, .inl (aI P))), (g2, .inl (cI, 4, .inl (aI C))), (g3, .inl (cI, 7, .inl (aI wyI))), (o, .inl (cL, 1, .inr (.inl fo)))] H → va_D A [(y0, .inr (1, [.ref b, .ref y2, .int (iI (tu)), .int (iI (gc)), .int (iI (ph)), .int (iI (mo))])), (y2, .inl (cI, 4, .inl (aI C))), (b, .inr (0, [.ref pq, .ref cq])), (pq, .inl (cI, 16, .inl (aI P))), (cq, .inl (cI, 136, .inl (aI (cnt P)))), (g0, .inr (2, [.ref g1, .int (iI (tu)), .int (iI (ph)), .int (iI (mo)), .int (iI (gc)), .ref g2, .ref g3, .int (iI (th))])), (g1, .inl (cI, 16, .inl (aI P))), (g2, .inl (cI, 4, .inl (aI C))), (g3, .inl (cI, 7, .inl (aI wyI))), (o, .inl (cL, 1, .inr (.inl fo)))] → va_S A s.heap H locs → lv_has ls 7 [(4, .int (iI (i))), (0, .ref sb), (1, .ref y0), (2, .ref g0), (3, .ref o)] → W p l e room_1 s mt #[Value.ref sb] below meth c H locs ce sl (lw_Z below #[Value.ref sb] s) (F0 mt 972 ls []) := by
      intro tu ph mo gc th P C fo H locs ce sl ls h1 h2 hG hP hD hS hl
      refine lv_iinc (v := iI (i + 4)) (lv' := [(4, .int (iI (i + 4))), (0, .ref sb), (1, .ref y0), (2, .ref g0), (3, .ref o)]) hx hb dL_law_972 hl (k := 0) rfl (iI_add _ _) (by decide) rfl (fun ls hl => ?_)
      refine lv_goto (tgt := 23) hx hb dL_law_975 (by decide) ?_
      exact ih (4096 - (i + 4)).toNat (nlt (by omega) hd (by omega)) (i + 4) ce sl tu ph mo gc th P C fo H locs ls (Int.toNat_of_nonneg (by omega)) (by omega) (by omega) (by omega) hG hP hD hS hl
    refine lv_aload_n hx hb dL_law_32 rfl (lv_at hl 1 rfl) ?_
    refine lv_iload hx hb dL_law_33 (lv_at hl 0 rfl) ?_
    refine r_sld hx hb hX hbl hbA hS (i := i) (by omega) (by omega) (by omega) dL_law_35 ?_
    refine r_bipush hx hb dL_law_36 (by decide) ?_
    refine r_and31 hx hb dL_law_38 (fun w hw0 hw1 => ?_)
    rcases (show w = 0 ∨ w = 1 ∨ w = 2 ∨ w = 3 ∨ w = 4 ∨ w = 5 ∨ w = 6 ∨ w = 7 ∨ w = 8 ∨ w = 9 ∨ w = 10 ∨ w = 11 ∨ w = 12 ∨ w = 13 ∨ w = 14 ∨ w = 15 ∨ w = 16 ∨ w = 17 ∨ 18 ≤ w by omega) with rfl | rfl | rfl | rfl | rfl | rfl | rfl | rfl | rfl | rfl | rfl | rfl | rfl | rfl | rfl | rfl | rfl | rfl | hw2
    · refine r_tsIn (w := 0) hx hb dL_law_39 (by unfold rI; decide) (by decide) (by decide) rfl (tgt := 124) (by decide) ?_
      exact law_c0 S hst hE hA hX hbl hbA hL y0 y2 b pq cq g0 g1 g2 g3 o i (by omega) cells slots (by omega) K tu ph mo gc th P C fo H locs ls hG hP hD hS hl
    · refine r_tsIn (w := 1) hx hb dL_law_39 (by unfold rI; decide) (by decide) (by decide) rfl (tgt := 180) (by decide) ?_
      exact law_c1 S hst hE hA hX hbl hbA hL y0 y2 b pq cq g0 g1 g2 g3 o i (by omega) cells slots (by omega) K tu ph mo gc th P C fo H locs ls hG hP hD hS hl
    · refine r_tsIn (w := 2) hx hb dL_law_39 (by unfold rI; decide) (by decide) (by decide) rfl (tgt := 236) (by decide) ?_
      exact law_c2 S hst hE hA hX hbl hbA hL y0 y2 b pq cq g0 g1 g2 g3 o i (by omega) cells slots (by omega) K tu ph mo gc th P C fo H locs ls hG hP hD hS hl
    · refine r_tsIn (w := 3) hx hb dL_law_39 (by unfold rI; decide) (by decide) (by decide) rfl (tgt := 249) (by decide) ?_
      exact law_c3 S hst hE hA hX hbl hbA hL y0 y2 b pq cq g0 g1 g2 g3 o i (by omega) cells slots (by omega) K tu ph mo gc th P C fo H locs ls hG hP hD hS hl
    · refine r_tsIn (w := 4) hx hb dL_law_39 (by unfold rI; decide) (by decide) (by decide) rfl (tgt := 262) (by decide) ?_
      exact law_c4 S hst hE hA hX hbl hbA hL y0 y2 b pq cq g0 g1 g2 g3 o i (by omega) cells slots (by omega) K tu ph mo gc th P C fo H locs ls hG hP hD hS hl
    · refine r_tsIn (w := 5) hx hb dL_law_39 (by unfold rI; decide) (by decide) (by decide) rfl (tgt := 275) (by decide) ?_
      exact law_c5 S hst hE hA hX hbl hbA hL y0 y2 b pq cq g0 g1 g2 g3 o i (by omega) cells slots (by omega) K tu ph mo gc th P C fo H locs ls hG hP hD hS hl
    · refine r_tsIn (w := 6) hx hb dL_law_39 (by unfold rI; decide) (by decide) (by decide) rfl (tgt := 319) (by decide) ?_
      exact law_c6 S hst hE hA hX hbl hbA hL y0 y2 b pq cq g0 g1 g2 g3 o i (by omega) cells slots (by omega) K tu ph mo gc th P C fo H locs ls hG hP hD hS hl
    · refine r_tsIn (w := 7) hx hb dL_law_39 (by unfold rI; decide) (by decide) (by decide) rfl (tgt := 332) (by decide) ?_
      exact law_c7 S hst hE hA hX hbl hbA hL y0 y2 b pq cq g0 g1 g2 g3 o i (by omega) cells slots (by omega) K tu ph mo gc th P C fo H locs ls hG hP hD hS hl
    · refine r_tsIn (w := 8) hx hb dL_law_39 (by unfold rI; decide) (by decide) (by decide) rfl (tgt := 400) (by decide) ?_
      exact law_c8 S hst hE hA hX hbl hbA hL y0 y2 b pq cq g0 g1 g2 g3 o i (by omega) cells slots (by omega) K tu ph mo gc th P C fo H locs ls hG hP hD hS hl
    · refine r_tsIn (w := 9) hx hb dL_law_39 (by unfold rI; decide) (by decide) (by decide) rfl (tgt := 468) (by decide) ?_
      exact law_c9 S hst hE hA hX hbl hbA hL y0 y2 b pq cq g0 g1 g2 g3 o i (by omega) cells slots (by omega) K tu ph mo gc th P C fo H locs ls hG hP hD hS hl
    · refine r_tsIn (w := 10) hx hb dL_law_39 (by unfold rI; decide) (by decide) (by decide) rfl (tgt := 536) (by decide) ?_
      exact law_c10 S hst hE hA hX hbl hbA hL y0 y2 b pq cq g0 g1 g2 g3 o i (by omega) cells slots (by omega) K tu ph mo gc th P C fo H locs ls hG hP hD hS hl
    · refine r_tsIn (w := 11) hx hb dL_law_39 (by unfold rI; decide) (by decide) (by decide) rfl (tgt := 599) (by decide) ?_
      exact law_c11 S hst hE hA hX hbl hbA hL y0 y2 b pq cq g0 g1 g2 g3 o i (by omega) cells slots (by omega) K tu ph mo gc th P C fo H locs ls hG hP hD hS hl
    · refine r_tsIn (w := 12) hx hb dL_law_39 (by unfold rI; decide) (by decide) (by decide) rfl (tgt := 655) (by decide) ?_
      exact law_c12 S hst hE hA hX hbl hbA hL y0 y2 b pq cq g0 g1 g2 g3 o i (by omega) cells slots (by omega) K tu ph mo gc th P C fo H locs ls hG hP hD hS hl
    · refine r_tsIn (w := 13) hx hb dL_law_39 (by unfold rI; decide) (by decide) (by decide) rfl (tgt := 711) (by decide) ?_
      exact law_c13 S hst hE hA hX hbl hbA hL y0 y2 b pq cq g0 g1 g2 g3 o i (by omega) cells slots (by omega) K tu ph mo gc th P C fo H locs ls hG hP hD hS hl
    · refine r_tsIn (w := 14) hx hb dL_law_39 (by unfold rI; decide) (by decide) (by decide) rfl (tgt := 724) (by decide) ?_
      exact law_c14 S hst hE hA hX hbl hbA hL y0 y2 b pq cq g0 g1 g2 g3 o i (by omega) cells slots (by omega) K tu ph mo gc th P C fo H locs ls hG hP hD hS hl
    · refine r_tsIn (w := 15) hx hb dL_law_39 (by unfold rI; decide) (by decide) (by decide) rfl (tgt := 780) (by decide) ?_
      exact law_c15 S hst hE hA hX hbl hbA hL y0 y2 b pq cq g0 g1 g2 g3 o i (by omega) cells slots (by omega) K tu ph mo gc th P C fo H locs ls hG hP hD hS hl
    · refine r_tsIn (w := 16) hx hb dL_law_39 (by unfold rI; decide) (by decide) (by decide) rfl (tgt := 836) (by decide) ?_
      exact law_c16 S hst hE hA hX hbl hbA hL y0 y2 b pq cq g0 g1 g2 g3 o i (by omega) cells slots (by omega) K tu ph mo gc th P C fo H locs ls hG hP hD hS hl
    · refine r_tsIn (w := 17) hx hb dL_law_39 (by unfold rI; decide) (by decide) (by decide) rfl (tgt := 916) (by decide) ?_
      exact law_c17 S hst hE hA hX hbl hbA hL y0 y2 b pq cq g0 g1 g2 g3 o i (by omega) cells slots (by omega) K tu ph mo gc th P C fo H locs ls hG hP hD hS hl
    · refine r_tsOut (w := w) hx hb dL_law_39 (by unfold rI; omega) (by omega) (tgt := 972) (by decide) ?_
      exact K tu ph mo gc th P C fo H locs cells slots ls (by omega) (by omega) hG hP hD hS hl
