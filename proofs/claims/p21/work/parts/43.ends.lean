set_option maxRecDepth 20000 in
theorem mu_L_ends_X1 : ∀ w ∈ wsX10, w ∈ wsL_ends := by decide +kernel
set_option maxRecDepth 20000 in
theorem mw_L_ends_1 : (.classLink RL 8 RX1 : Cond) ∈ wsL_ends := by decide +kernel
set_option maxRecDepth 20000 in
theorem mw_L_ends_2 : (.instantiable RX1 6 : Cond) ∈ wsL_ends := by decide +kernel
set_option maxRecDepth 20000 in
theorem mw_L_ends_3 : (.initialized RX1 : Cond) ∈ wsL_ends := by decide +kernel
set_option maxRecDepth 20000 in
theorem mw_L_ends_4 : (.methodLink RL 72 yX1_init : Cond) ∈ wsL_ends := by decide +kernel
set_option maxRecDepth 20000 in
theorem mw_L_ends_5 : (.instanceMethod yX1_init : Cond) ∈ wsL_ends := by decide +kernel
theorem f_L_ends : yL_ends.cls ≠ "java/lang/invoke/MethodHandle" ∧ yL_ends.cls ≠ "java/lang/invoke/VarHandle" ∧ (parseMethodDescriptor yL_ends.desc).map (fun d => d.parameters.length) = some 0 := by decide +kernel
set_option maxHeartbeats 4000000 in
set_option maxRecDepth 100000 in
theorem sg_L_ends_26 {p : Program} {l : Launch} {e : Env} {R : Room} {s : State} {mt : MethodId} {args : Array Value} {below : List Frame} {meth : Method} {c : Code} {H0 : Heap} {Q : State → Prop} {A : Nat → Prop} {D : va_G} {cI cL : ClassId} {tw : Nat} (S : CallFix p mt c cL_ends 8 s args wsL_ends RL) (hst : l.stackTraces = false) (hR : 15 ≤ R.frames ∧ 377 ≤ R.locals) (hRc : 527 ≤ R.cells ∧ 3296 ≤ R.slots) (hE : EV D cI cL tw A s H0) (hA : ∀ q : Nat, H0.size ≤ q → A q) (y0 : Nat) (y2 : Nat) (b : Nat) (pq : Nat) (cq : Nat)  (hret : ∀ (z : Int) (u : Unit) (pc : Nat) (ls : Array Slot) (H : Heap) (locs : List Loc) (cells slots : Nat), decode cL_ends pc = .ok (.ireturn, 1) → (z = 1) → va_P D vwCl [] H → va_D A [] → va_S A H0 H locs → cells ≤ 527 → slots ≤ 3296 → W p l e R s mt args below meth c H locs cells slots Q (F0 mt pc ls [.int (iI z)])) {H : Heap} {locs : List Loc} {ls : Array Slot} (hP : va_P D vwCl [(y0, .inr (1, [.ref b, .ref y2, .int (iI (2)), .int (iI (0)), .int (iI (2)), .int (iI (4))])), (y2, .inl (cI, 4, .inl (aI sC_0))), (b, .inr (0, [.ref pq, .ref cq])), (pq, .inl (cI, 16, .inl (aI sP_88))), (cq, .inl (cI, 136, .inl (aI (cnt sP_88))))] H) (hD : va_D A [(y0, .inr (1, [.ref b, .ref y2, .int (iI (2)), .int (iI (0)), .int (iI (2)), .int (iI (4))])), (y2, .inl (cI, 4, .inl (aI sC_0))), (b, .inr (0, [.ref pq, .ref cq])), (pq, .inl (cI, 16, .inl (aI sP_88))), (cq, .inl (cI, 136, .inl (aI (cnt sP_88))))]) (hS : va_S A H0 H locs) (hl : lv_has ls 8 [(1, .int (iI (24))), (6, .int (iI (1))), (5, .int (iI (8))), (4, .int (iI (1))), (3, .int (iI (2))), (2, .int (iI (3))), (7, .int (iI (2))), (0, .ref y0)]) : W p l e R s mt args below meth c H locs 364 2318 Q (F0 mt 307 ls []) := by
  obtain ⟨hx, hb, hml, hown, hts⟩ := id S
  refine lv_aload_n hx hb dL_ends_307 rfl (lv_at hl 7 rfl) ?_
  refine q_RO (As := []) (rest := []) S (c_X1_phase l D cI cL tw (y0) (y2) (b) (pq) (cq) (2) (2) (4) (0) (sP_88) (sC_0) (hb_88) (by omega) (by omega) (by omega) (by omega)) (2) (fun z h => h) gL_ends_X1_phase rfl rfl rfl ⟨rfl, f_X1_phase⟩ hR (Nat.le_of_ble_eq_true rfl) (Nat.le_of_ble_eq_true rfl) (hE.kept hS.2.1) hP [0, 1, 2, 3, 4] rfl 0 rfl rfl rfl hl.1 rfl (Nat.le_of_ble_eq_true rfl) dL_ends_308 ⟨Nat.le_trans (Nat.le_of_ble_eq_true rfl) hRc.1, Nat.le_trans (Nat.le_of_ble_eq_true rfl) hRc.2⟩ ?_
  refine r_iconst hx hb dL_ends_311 ?_
  refine r_icmp_ne (tgt := 389) hx hb dL_ends_312 (by decide) (by unfold rI; decide) (by unfold rI; decide) (fun h9 => absurd h9 (by omega)) (fun h312 => ?_)
  refine lv_aload_n hx hb dL_ends_315 rfl (lv_at hl 7 rfl) ?_
  refine q_RO (As := []) (rest := []) S (c_X1_winner l D cI cL tw (y0) (y2) (b) (pq) (cq) (2) (2) (4) (0) (sP_88) (sC_0) (hb_88) (by omega) (by omega) (by omega) (by omega)) (0) (fun z h => by (try dsimp only at h); omega) gL_ends_X1_winner rfl rfl rfl ⟨rfl, f_X1_winner⟩ hR (Nat.le_of_ble_eq_true rfl) (Nat.le_of_ble_eq_true rfl) (hE.kept hS.2.1) hP [0, 1, 2, 3, 4] rfl 0 rfl rfl rfl hl.1 rfl (Nat.le_of_ble_eq_true rfl) dL_ends_316 ⟨Nat.le_trans (Nat.le_of_ble_eq_true rfl) hRc.1, Nat.le_trans (Nat.le_of_ble_eq_true rfl) hRc.2⟩ ?_
  refine r_if_ne (tgt := 389) hx hb dL_ends_319 (by decide) (by unfold rI; decide) (fun h9 => absurd h9 (by omega)) (fun h319 => ?_)
  refine lv_aload_n hx hb dL_ends_322 rfl (lv_at hl 7 rfl) ?_
  refine q_RO (As := []) (rest := []) S (c_X1_onTurn l D cI cL tw (y0) (y2) (b) (pq) (cq) (2) (2) (4) (0) (sP_88) (sC_0) (hb_88) (by omega) (by omega) (by omega) (by omega)) (2) (fun z h => h) gL_ends_X1_onTurn rfl rfl rfl ⟨rfl, f_X1_onTurn⟩ hR (Nat.le_of_ble_eq_true rfl) (Nat.le_of_ble_eq_true rfl) (hE.kept hS.2.1) hP [0, 1, 2, 3, 4] rfl 0 rfl rfl rfl hl.1 rfl (Nat.le_of_ble_eq_true rfl) dL_ends_323 ⟨Nat.le_trans (Nat.le_of_ble_eq_true rfl) hRc.1, Nat.le_trans (Nat.le_of_ble_eq_true rfl) hRc.2⟩ ?_
  refine r_iconst hx hb dL_ends_326 ?_
  refine r_icmp_ne (tgt := 389) hx hb dL_ends_327 (by decide) (by unfold rI; decide) (by unfold rI; decide) (fun h9 => absurd h9 (by omega)) (fun h327 => ?_)
  refine lv_aload_n hx hb dL_ends_330 rfl (lv_at hl 7 rfl) ?_
  refine r_iconst hx hb dL_ends_331 ?_
  refine q_Xi (As := [.int (iI (0))]) (rest := []) S (c_X1_distance l hst D cI cL tw (y0) (y2) (b) (pq) (cq) (2) (2) (4) (0) (sP_88) (sC_0) (0) (hb_88) (by omega) (by omega) (by omega) (by omega) (by omega)) (0) (fun z h => h.2.2.trans fq_344) (fun E h => by (try dsimp only at h); first | (rcases h with ⟨_, h⟩ | ⟨_, h⟩ <;> omega) | (obtain ⟨_, h⟩ := h; omega)) gL_ends_X1_distance rfl rfl rfl ⟨rfl, f_X1_distance⟩ hR (Nat.le_of_ble_eq_true rfl) (Nat.le_of_ble_eq_true rfl) (hE.kept hS.2.1) hP hS hA [0, 1, 2, 3, 4] rfl 0 rfl rfl rfl hl.1 rfl (Nat.le_of_ble_eq_true rfl) dL_ends_332 ⟨Nat.le_trans (Nat.le_of_ble_eq_true rfl) hRc.1, Nat.le_trans (Nat.le_of_ble_eq_true rfl) hRc.2⟩ (fun H locs hP hS => ?_)
  refine r_if_ne (tgt := 389) hx hb dL_ends_335 (by decide) (by unfold rI; decide) (fun h9 => absurd h9 (by omega)) (fun h335 => ?_)
  refine lv_aload_n hx hb dL_ends_338 rfl (lv_at hl 7 rfl) ?_
  refine r_iconst hx hb dL_ends_339 ?_
  refine q_Xi (As := [.int (iI (1))]) (rest := []) S (c_X1_distance l hst D cI cL tw (y0) (y2) (b) (pq) (cq) (2) (2) (4) (0) (sP_88) (sC_0) (1) (hb_88) (by omega) (by omega) (by omega) (by omega) (by omega)) (576) (fun z h => h.2.2.trans fq_345) (fun E h => by (try dsimp only at h); first | (rcases h with ⟨_, h⟩ | ⟨_, h⟩ <;> omega) | (obtain ⟨_, h⟩ := h; omega)) gL_ends_X1_distance rfl rfl rfl ⟨rfl, f_X1_distance⟩ hR (Nat.le_of_ble_eq_true rfl) (Nat.le_of_ble_eq_true rfl) (hE.kept hS.2.1) hP hS hA [0, 1, 2, 3, 4] rfl 0 rfl rfl rfl hl.1 rfl (Nat.le_of_ble_eq_true rfl) dL_ends_340 ⟨Nat.le_trans (Nat.le_of_ble_eq_true rfl) hRc.1, Nat.le_trans (Nat.le_of_ble_eq_true rfl) hRc.2⟩ (fun H locs hP hS => ?_)
  refine r_sipush hx hb dL_ends_343 (by decide) ?_
  refine r_icmp_ne (tgt := 389) hx hb dL_ends_346 (by decide) (by unfold rI; decide) (by unfold rI; decide) (fun h9 => absurd h9 (by omega)) (fun h346 => ?_)
  refine lv_aload_n hx hb dL_ends_349 rfl (lv_at hl 7 rfl) ?_
  refine r_iconst hx hb dL_ends_350 ?_
  refine q_Xi (As := [.int (iI (0))]) (rest := []) S (c_X1_home l hst D cI cL tw (y0) (y2) (b) (pq) (cq) (2) (2) (4) (0) (sP_88) (sC_0) (0) (hb_88) (by omega) (by omega) (by omega) (by omega) (by omega)) (4) (fun z h => h.2.2.trans fq_346) (fun E h => by (try dsimp only at h); first | (rcases h with ⟨_, h⟩ | ⟨_, h⟩ <;> omega) | (obtain ⟨_, h⟩ := h; omega)) gL_ends_X1_home rfl rfl rfl ⟨rfl, f_X1_home⟩ hR (Nat.le_of_ble_eq_true rfl) (Nat.le_of_ble_eq_true rfl) (hE.kept hS.2.1) hP hS hA [0, 1, 2, 3, 4] rfl 0 rfl rfl rfl hl.1 rfl (Nat.le_of_ble_eq_true rfl) dL_ends_351 ⟨Nat.le_trans (Nat.le_of_ble_eq_true rfl) hRc.1, Nat.le_trans (Nat.le_of_ble_eq_true rfl) hRc.2⟩ (fun H locs hP hS => ?_)
  refine r_iconst hx hb dL_ends_354 ?_
  refine r_icmp_ne (tgt := 389) hx hb dL_ends_355 (by decide) (by unfold rI; decide) (by unfold rI; decide) (fun h9 => absurd h9 (by omega)) (fun h355 => ?_)
  refine lv_aload_n hx hb dL_ends_358 rfl (lv_at hl 7 rfl) ?_
  refine r_iconst hx hb dL_ends_359 ?_
  refine r_iconst hx hb dL_ends_360 ?_
  refine q_Xi (As := [.int (iI (2)), .int (iI (3))]) (rest := []) S (c_X1_square l hst D cI cL tw (y0) (y2) (b) (pq) (cq) (2) (2) (4) (0) (sP_88) (sC_0) (2) (3) (hb_88) (by omega) (by omega) (by omega) (by omega) (by omega) (by omega)) (-1) (fun z h => h.2.2.2.2.trans fq_347) (fun E h => by (try dsimp only at h); first | (rcases h with ⟨_, h⟩ | ⟨_, h⟩ <;> omega) | (obtain ⟨_, h⟩ := h; omega)) gL_ends_X1_square rfl rfl rfl ⟨rfl, f_X1_square⟩ hR (Nat.le_of_ble_eq_true rfl) (Nat.le_of_ble_eq_true rfl) (hE.kept hS.2.1) hP hS hA [0, 1, 2, 3, 4] rfl 0 rfl rfl rfl hl.1 rfl (Nat.le_of_ble_eq_true rfl) dL_ends_361 ⟨Nat.le_trans (Nat.le_of_ble_eq_true rfl) hRc.1, Nat.le_trans (Nat.le_of_ble_eq_true rfl) hRc.2⟩ (fun H locs hP hS => ?_)
  refine r_iconst hx hb dL_ends_364 ?_
  refine r_icmp_ne (tgt := 389) hx hb dL_ends_365 (by decide) (by unfold rI; decide) (by unfold rI; decide) (fun h9 => absurd h9 (by omega)) (fun h365 => ?_)
  refine lv_aload_n hx hb dL_ends_368 rfl (lv_at hl 7 rfl) ?_
  refine r_iconst hx hb dL_ends_369 ?_
  refine r_iconst hx hb dL_ends_370 ?_
  refine r_iconst hx hb dL_ends_371 ?_
  refine q_Xi (As := [.int (iI (1)), .int (iI (0)), .int (iI (0))]) (rest := []) S (c_X1_threat l hst D cI cL tw (y0) (y2) (b) (pq) (cq) (2) (2) (4) (0) (sP_88) (sC_0) (1) (0) (0) (hb_88) (by omega) (by omega) (by omega) (by omega) (by omega) (by omega) (by omega)) (0) (fun z h => h.2.2.2.2.2.2.2.trans fq_348) (fun E h => by (try dsimp only at h); first | (rcases h with ⟨_, h⟩ | ⟨_, h⟩ <;> omega) | (obtain ⟨_, h⟩ := h; omega)) gL_ends_X1_threat rfl rfl rfl ⟨rfl, f_X1_threat⟩ hR (Nat.le_of_ble_eq_true rfl) (Nat.le_of_ble_eq_true rfl) (hE.kept hS.2.1) hP hS hA [0, 1, 2, 3, 4] rfl 0 rfl rfl rfl hl.1 rfl (Nat.le_of_ble_eq_true rfl) dL_ends_372 ⟨Nat.le_trans (Nat.le_of_ble_eq_true rfl) hRc.1, Nat.le_trans (Nat.le_of_ble_eq_true rfl) hRc.2⟩ (fun H locs hP hS => ?_)
  refine r_if_ne (tgt := 389) hx hb dL_ends_375 (by decide) (by unfold rI; decide) (fun h9 => absurd h9 (by omega)) (fun h375 => ?_)
  refine lv_aload_n hx hb dL_ends_378 rfl (lv_at hl 7 rfl) ?_
  refine q_LM (As := [.ref y0]) (rest := []) (wr := []) S (c_L_refuses l hst D cI cL tw (y0) (y2) (b) (pq) (cq) (2) (2) (4) (0) (sP_88) (sC_0) (hb_88) (by omega) (by omega) (by omega) (by omega)) (1) (()) (fun z u h => ⟨h, rfl⟩) gL_ends_L_refuses rfl rfl rfl f_L_refuses hR (Nat.le_of_ble_eq_true rfl) (Nat.le_of_ble_eq_true rfl) (hE.kept hS.2.1) hP hD hS hA [0, 1, 2, 3, 4] [] rfl rfl (by decide) rfl (by decide) (by decide) rfl hl.1 rfl (Nat.le_of_ble_eq_true rfl) dL_ends_379 ⟨Nat.le_trans (Nat.le_of_ble_eq_true rfl) hRc.1, Nat.le_trans (Nat.le_of_ble_eq_true rfl) hRc.2⟩ (fun H locs hP hD hS => ?_)
  have hP : va_P D vwCl [(y0, .inr (1, [.ref b, .ref y2, .int (iI (2)), .int (iI (0)), .int (iI (2)), .int (iI (4))])), (y2, .inl (cI, 4, .inl (aI sC_0))), (b, .inr (0, [.ref pq, .ref cq])), (pq, .inl (cI, 16, .inl (aI sP_88))), (cq, .inl (cI, 136, .inl (aI (cnt sP_88))))] H := hP
  have hD : va_D A [(y0, .inr (1, [.ref b, .ref y2, .int (iI (2)), .int (iI (0)), .int (iI (2)), .int (iI (4))])), (y2, .inl (cI, 4, .inl (aI sC_0))), (b, .inr (0, [.ref pq, .ref cq])), (pq, .inl (cI, 16, .inl (aI sP_88))), (cq, .inl (cI, 136, .inl (aI (cnt sP_88))))] := hD
  refine r_if_eq (tgt := 389) hx hb dL_ends_382 (by decide) (by unfold rI; decide) (fun h9 => absurd h9 (by omega)) (fun h382 => ?_)
  refine r_iconst hx hb dL_ends_385 ?_
  refine lv_goto (tgt := 390) hx hb dL_ends_386 (by decide) ?_
  exact hret (1) () _ _ _ _ _ _ dL_ends_390 (rfl) (fun k q h => by simp at h) ⟨fun i j p q h => by simp at h, fun k q h => by simp at h⟩ hS (Nat.le_of_ble_eq_true rfl) (Nat.le_of_ble_eq_true rfl)
set_option maxHeartbeats 4000000 in
set_option maxRecDepth 100000 in
theorem sg_L_ends_25 {p : Program} {l : Launch} {e : Env} {R : Room} {s : State} {mt : MethodId} {args : Array Value} {below : List Frame} {meth : Method} {c : Code} {H0 : Heap} {Q : State → Prop} {A : Nat → Prop} {D : va_G} {cI cL : ClassId} {tw : Nat} (S : CallFix p mt c cL_ends 8 s args wsL_ends RL) (hst : l.stackTraces = false) (hR : 15 ≤ R.frames ∧ 377 ≤ R.locals) (hRc : 527 ≤ R.cells ∧ 3296 ≤ R.slots) (hE : EV D cI cL tw A s H0) (hA : ∀ q : Nat, H0.size ≤ q → A q) (y0 : Nat) (y2 : Nat) (b : Nat) (pq : Nat) (cq : Nat)  (hret : ∀ (z : Int) (u : Unit) (pc : Nat) (ls : Array Slot) (H : Heap) (locs : List Loc) (cells slots : Nat), decode cL_ends pc = .ok (.ireturn, 1) → (z = 1) → va_P D vwCl [] H → va_D A [] → va_S A H0 H locs → cells ≤ 527 → slots ≤ 3296 → W p l e R s mt args below meth c H locs cells slots Q (F0 mt pc ls [.int (iI z)])) {H : Heap} {locs : List Loc} {ls : Array Slot} (hP : va_P D vwCl [(y0, .inr (1, [.ref b, .ref y2, .int (iI (2)), .int (iI (0)), .int (iI (2)), .int (iI (4))])), (y2, .inl (cI, 4, .inl (aI sC_0))), (b, .inr (0, [.ref pq, .ref cq])), (pq, .inl (cI, 16, .inl (aI sP_88))), (cq, .inl (cI, 136, .inl (aI (cnt sP_88))))] H) (hD : va_D A [(y0, .inr (1, [.ref b, .ref y2, .int (iI (2)), .int (iI (0)), .int (iI (2)), .int (iI (4))])), (y2, .inl (cI, 4, .inl (aI sC_0))), (b, .inr (0, [.ref pq, .ref cq])), (pq, .inl (cI, 16, .inl (aI sP_88))), (cq, .inl (cI, 136, .inl (aI (cnt sP_88))))]) (hS : va_S A H0 H locs) (hl : lv_has ls 8 [(1, .int (iI (24))), (6, .int (iI (1))), (5, .int (iI (8))), (4, .int (iI (1))), (3, .int (iI (2))), (2, .int (iI (3))), (7, .int (iI (2))), (0, .ref y0)]) : W p l e R s mt args below meth c H locs 364 2318 Q (F0 mt 10 ls []) := by
  obtain ⟨hx, hb, hml, hown, hts⟩ := id S
  refine lv_iload_n hx hb dL_ends_10 rfl (lv_at hl 0 rfl) ?_
  refine r_bipush hx hb dL_ends_11 (by decide) ?_
  refine r_icmp_ge (tgt := 307) hx hb dL_ends_13 (by decide) (by unfold rI; decide) (by unfold rI; decide) (fun h13 => ?_) (fun h9 => absurd h9 (by omega))
  exact sg_L_ends_26 S hst hR hRc hE hA y0 y2 b pq cq  hret hP hD hS hl
set_option maxHeartbeats 4000000 in
set_option maxRecDepth 100000 in
theorem sg_L_ends_24 {p : Program} {l : Launch} {e : Env} {R : Room} {s : State} {mt : MethodId} {args : Array Value} {below : List Frame} {meth : Method} {c : Code} {H0 : Heap} {Q : State → Prop} {A : Nat → Prop} {D : va_G} {cI cL : ClassId} {tw : Nat} (S : CallFix p mt c cL_ends 8 s args wsL_ends RL) (hst : l.stackTraces = false) (hR : 15 ≤ R.frames ∧ 377 ≤ R.locals) (hRc : 527 ≤ R.cells ∧ 3296 ≤ R.slots) (hE : EV D cI cL tw A s H0) (hA : ∀ q : Nat, H0.size ≤ q → A q) (y0 : Nat) (y2 : Nat) (b : Nat) (pq : Nat) (cq : Nat)  (hret : ∀ (z : Int) (u : Unit) (pc : Nat) (ls : Array Slot) (H : Heap) (locs : List Loc) (cells slots : Nat), decode cL_ends pc = .ok (.ireturn, 1) → (z = 1) → va_P D vwCl [] H → va_D A [] → va_S A H0 H locs → cells ≤ 527 → slots ≤ 3296 → W p l e R s mt args below meth c H locs cells slots Q (F0 mt pc ls [.int (iI z)])) {H : Heap} {locs : List Loc} {ls : Array Slot} (hP : va_P D vwCl [(y0, .inr (1, [.ref b, .ref y2, .int (iI (2)), .int (iI (0)), .int (iI (0)), .int (iI (4))])), (y2, .inl (cI, 4, .inl (aI sC_0))), (b, .inr (0, [.ref pq, .ref cq])), (pq, .inl (cI, 16, .inl (aI sP_87))), (cq, .inl (cI, 136, .inl (aI (cnt sP_87))))] H) (hD : va_D A [(y0, .inr (1, [.ref b, .ref y2, .int (iI (2)), .int (iI (0)), .int (iI (0)), .int (iI (4))])), (y2, .inl (cI, 4, .inl (aI sC_0))), (b, .inr (0, [.ref pq, .ref cq])), (pq, .inl (cI, 16, .inl (aI sP_87))), (cq, .inl (cI, 136, .inl (aI (cnt sP_87))))]) (hS : va_S A H0 H locs) (hl : lv_has ls 8 [(1, .int (iI (23))), (7, .int (iI (2))), (6, .int (iI (1))), (5, .int (iI (8))), (4, .int (iI (1))), (3, .int (iI (0))), (2, .int (iI (3))), (0, .ref y0)]) : W p l e R s mt args below meth c H locs 357 2276 Q (F0 mt 10 ls []) := by
  obtain ⟨hx, hb, hml, hown, hts⟩ := id S
  refine lv_iload_n hx hb dL_ends_10 rfl (lv_at hl 0 rfl) ?_
  refine r_bipush hx hb dL_ends_11 (by decide) ?_
  refine r_icmp_ge (tgt := 307) hx hb dL_ends_13 (by decide) (by unfold rI; decide) (by unfold rI; decide) (fun h9 => absurd h9 (by omega)) (fun h13 => ?_)
  refine lv_iload_n hx hb dL_ends_16 rfl (lv_at hl 0 rfl) ?_
  refine r_iconst hx hb dL_ends_17 ?_
  refine r_idiv hx hb dL_ends_18 (by omega) (by omega) ?_
  refine r_top (7) (by decide) ?_
  refine r_iconst hx hb dL_ends_19 ?_
  refine r_irem hx hb dL_ends_20 (by omega) (by omega) ?_
  refine r_top (3) (by decide) ?_
  refine lv_istore_n (lv' := [(2, .int (iI (3))), (1, .int (iI (23))), (7, .int (iI (2))), (6, .int (iI (1))), (5, .int (iI (8))), (4, .int (iI (1))), (3, .int (iI (0))), (0, .ref y0)]) hx hb dL_ends_21 rfl hl (by decide) rfl (fun ls hl => ?_)
  refine lv_iload_n hx hb dL_ends_22 rfl (lv_at hl 1 rfl) ?_
  refine r_bipush hx hb dL_ends_23 (by decide) ?_
  refine r_icmp_ge (tgt := 32) hx hb dL_ends_25 (by decide) (by unfold rI; decide) (by unfold rI; decide) (fun h25 => ?_) (fun h9 => absurd h9 (by omega))
  refine lv_iload_n hx hb dL_ends_32 rfl (lv_at hl 1 rfl) ?_
  refine r_iconst hx hb dL_ends_33 ?_
  refine r_irem hx hb dL_ends_34 (by omega) (by omega) ?_
  refine r_top (1) (by decide) ?_
  refine r_iconst hx hb dL_ends_35 ?_
  refine r_imul hx hb dL_ends_36 ?_
  refine r_top (2) (by decide) ?_
  refine lv_istore_n (lv' := [(3, .int (iI (2))), (2, .int (iI (3))), (1, .int (iI (23))), (7, .int (iI (2))), (6, .int (iI (1))), (5, .int (iI (8))), (4, .int (iI (1))), (0, .ref y0)]) hx hb dL_ends_37 rfl hl (by decide) rfl (fun ls hl => ?_)
  refine lv_aload_n hx hb dL_ends_38 rfl (lv_at hl 7 rfl) ?_
  refine q_RO (As := []) (rest := []) S (c_X1_onTurn l D cI cL tw (y0) (y2) (b) (pq) (cq) (2) (0) (4) (0) (sP_87) (sC_0) (hb_87) (by omega) (by omega) (by omega) (by omega)) (2) (fun z h => h) gL_ends_X1_onTurn rfl rfl rfl ⟨rfl, f_X1_onTurn⟩ hR (Nat.le_of_ble_eq_true rfl) (Nat.le_of_ble_eq_true rfl) (hE.kept hS.2.1) hP [0, 1, 2, 3, 4] rfl 0 rfl rfl rfl hl.1 rfl (Nat.le_of_ble_eq_true rfl) dL_ends_39 ⟨Nat.le_trans (Nat.le_of_ble_eq_true rfl) hRc.1, Nat.le_trans (Nat.le_of_ble_eq_true rfl) hRc.2⟩ ?_
  refine lv_iload_n hx hb dL_ends_42 rfl (lv_at hl 0 rfl) ?_
  refine r_icmp_ne (tgt := 87) hx hb dL_ends_43 (by decide) (by unfold rI; decide) (by unfold rI; decide) (fun h9 => absurd h9 (by omega)) (fun h43 => ?_)
  refine lv_aload_n hx hb dL_ends_46 rfl (lv_at hl 7 rfl) ?_
  refine q_RO (As := []) (rest := []) S (c_X1_mover l D cI cL tw (y0) (y2) (b) (pq) (cq) (2) (0) (4) (0) (sP_87) (sC_0) (hb_87) (by omega) (by omega) (by omega) (by omega)) (2) (fun z h => h.trans fq_339) gL_ends_X1_mover rfl rfl rfl ⟨rfl, f_X1_mover⟩ hR (Nat.le_of_ble_eq_true rfl) (Nat.le_of_ble_eq_true rfl) (hE.kept hS.2.1) hP [0, 1, 2, 3, 4] rfl 0 rfl rfl rfl hl.1 rfl (Nat.le_of_ble_eq_true rfl) dL_ends_47 ⟨Nat.le_trans (Nat.le_of_ble_eq_true rfl) hRc.1, Nat.le_trans (Nat.le_of_ble_eq_true rfl) hRc.2⟩ ?_
  refine lv_iload_n hx hb dL_ends_50 rfl (lv_at hl 2 rfl) ?_
  refine r_bipush hx hb dL_ends_51 (by decide) ?_
  refine r_icmp_ge (tgt := 60) hx hb dL_ends_53 (by decide) (by unfold rI; decide) (by unfold rI; decide) (fun h53 => ?_) (fun h9 => absurd h9 (by omega))
  refine r_iconst hx hb dL_ends_60 ?_
  refine r_icmp_ne (tgt := 87) hx hb dL_ends_61 (by decide) (by unfold rI; decide) (by unfold rI; decide) (fun h9 => absurd h9 (by omega)) (fun h61 => ?_)
  refine lv_aload_n hx hb dL_ends_64 rfl (lv_at hl 7 rfl) ?_
  refine lv_iload_n hx hb dL_ends_65 rfl (lv_at hl 2 rfl) ?_
  refine r_bipush hx hb dL_ends_66 (by decide) ?_
  refine r_icmp_ge (tgt := 75) hx hb dL_ends_68 (by decide) (by unfold rI; decide) (by unfold rI; decide) (fun h68 => ?_) (fun h9 => absurd h9 (by omega))
  refine r_iconst hx hb dL_ends_75 ?_
  refine q_Xi (As := [.int (iI (2))]) (rest := []) S (c_X1_home l hst D cI cL tw (y0) (y2) (b) (pq) (cq) (2) (0) (4) (0) (sP_87) (sC_0) (2) (hb_87) (by omega) (by omega) (by omega) (by omega) (by omega)) (3) (fun z h => h.2.2.trans fq_340) (fun E h => by (try dsimp only at h); first | (rcases h with ⟨_, h⟩ | ⟨_, h⟩ <;> omega) | (obtain ⟨_, h⟩ := h; omega)) gL_ends_X1_home rfl rfl rfl ⟨rfl, f_X1_home⟩ hR (Nat.le_of_ble_eq_true rfl) (Nat.le_of_ble_eq_true rfl) (hE.kept hS.2.1) hP hS hA [0, 1, 2, 3, 4] rfl 0 rfl rfl rfl hl.1 rfl (Nat.le_of_ble_eq_true rfl) dL_ends_76 ⟨Nat.le_trans (Nat.le_of_ble_eq_true rfl) hRc.1, Nat.le_trans (Nat.le_of_ble_eq_true rfl) hRc.2⟩ (fun H locs hP hS => ?_)
  refine lv_iload_n hx hb dL_ends_79 rfl (lv_at hl 1 rfl) ?_
  refine r_icmp_ne (tgt := 87) hx hb dL_ends_80 (by decide) (by unfold rI; decide) (by unfold rI; decide) (fun h9 => absurd h9 (by omega)) (fun h80 => ?_)
  refine r_iconst hx hb dL_ends_83 ?_
  refine lv_goto (tgt := 88) hx hb dL_ends_84 (by decide) ?_
  refine lv_istore (lv' := [(4, .int (iI (1))), (3, .int (iI (2))), (2, .int (iI (3))), (1, .int (iI (23))), (7, .int (iI (2))), (6, .int (iI (1))), (5, .int (iI (8))), (0, .ref y0)]) hx hb dL_ends_88 hl (by decide) rfl (fun ls hl => ?_)
  refine r_bipush hx hb dL_ends_90 (by decide) ?_
  refine r_iconst hx hb dL_ends_92 ?_
  refine lv_iload_n hx hb dL_ends_93 rfl (lv_at hl 2 rfl) ?_
  refine r_ishl hx hb (z := 8) dL_ends_94 (by decide) ?_
  refine r_isub hx hb dL_ends_95 ?_
  refine r_top (7) (by decide) ?_
  refine r_iconst hx hb dL_ends_96 ?_
  refine r_iadd hx hb dL_ends_97 ?_
  refine r_top (8) (by decide) ?_
  refine lv_istore (lv' := [(5, .int (iI (8))), (4, .int (iI (1))), (3, .int (iI (2))), (2, .int (iI (3))), (1, .int (iI (23))), (7, .int (iI (2))), (6, .int (iI (1))), (0, .ref y0)]) hx hb dL_ends_98 hl (by decide) rfl (fun ls hl => ?_)
  refine lv_iload_n hx hb dL_ends_100 rfl (lv_at hl 4 rfl) ?_
  refine r_iconst hx hb dL_ends_101 ?_
  refine r_irem hx hb dL_ends_102 (by omega) (by omega) ?_
  refine r_top (2) (by decide) ?_
  refine r_if_ne (tgt := 154) hx hb dL_ends_103 (by decide) (by unfold rI; decide) (fun h103 => ?_) (fun h9 => absurd h9 (by omega))
  refine lv_iload_n hx hb dL_ends_154 rfl (lv_at hl 4 rfl) ?_
  refine r_iconst hx hb dL_ends_155 ?_
  refine r_irem hx hb dL_ends_156 (by omega) (by omega) ?_
  refine r_top (2) (by decide) ?_
  refine r_iconst hx hb dL_ends_157 ?_
  refine r_icmp_ne (tgt := 209) hx hb dL_ends_158 (by decide) (by unfold rI; decide) (by unfold rI; decide) (fun h158 => ?_) (fun h9 => absurd h9 (by omega))
  refine lv_aload_n hx hb dL_ends_209 rfl (lv_at hl 7 rfl) ?_
  refine r_iconst hx hb dL_ends_210 ?_
  refine q_Xi (As := [.int (iI (2))]) (rest := []) S (c_X1_ways l hst D cI cL tw (y0) (y2) (b) (pq) (cq) (2) (0) (4) (0) (sP_87) (sC_0) (2) (hb_87) (by omega) (by omega) (by omega) (by omega) (by omega)) (15) (fun z h => h.2.2.2.trans fq_341) (fun E h => by (try dsimp only at h); first | (rcases h with ⟨_, h⟩ | ⟨_, h⟩ <;> omega) | (obtain ⟨_, h⟩ := h; omega)) gL_ends_X1_ways rfl rfl rfl ⟨rfl, f_X1_ways⟩ hR (Nat.le_of_ble_eq_true rfl) (Nat.le_of_ble_eq_true rfl) (hE.kept hS.2.1) hP hS hA [0, 1, 2, 3, 4] rfl 0 rfl rfl rfl hl.1 rfl (Nat.le_of_ble_eq_true rfl) dL_ends_211 ⟨Nat.le_trans (Nat.le_of_ble_eq_true rfl) hRc.1, Nat.le_trans (Nat.le_of_ble_eq_true rfl) hRc.2⟩ (fun H locs hP hS => ?_)
  refine r_bipush hx hb dL_ends_214 (by decide) ?_
  refine r_icmp_ne (tgt := 237) hx hb dL_ends_216 (by decide) (by unfold rI; decide) (by unfold rI; decide) (fun h9 => absurd h9 (by omega)) (fun h216 => ?_)
  refine lv_aload_n hx hb dL_ends_219 rfl (lv_at hl 7 rfl) ?_
  refine r_iconst hx hb dL_ends_220 ?_
  refine r_iconst hx hb dL_ends_221 ?_
  refine lv_iload_n hx hb dL_ends_222 rfl (lv_at hl 3 rfl) ?_
  refine r_ishl hx hb (z := 8) dL_ends_223 (by decide) ?_
  refine lv_iload_n hx hb dL_ends_224 rfl (lv_at hl 3 rfl) ?_
  refine r_bipush hx hb dL_ends_225 (by decide) ?_
  refine q_LM (As := [.ref y0, .int (iI (4)), .int (iI (8)), .int (iI (3)), .int (iI (72))]) (rest := []) (wr := []) S (c_L_goes l hst D cI cL tw (y0) (y2) (b) (pq) (cq) (2) (4) (0) (sP_87) (sC_0) (4) (8) (3) (72) (2) (0) (2) (sP_88) (sC_0) (by omega) (by omega) (by omega) (fq_343)) (1) (()) (fun z u h => ⟨h, rfl⟩) gL_ends_L_goes rfl rfl rfl f_L_goes hR (Nat.le_of_ble_eq_true rfl) (Nat.le_of_ble_eq_true rfl) (hE.kept hS.2.1) hP hD hS hA [0, 1, 2, 3, 4] [] rfl rfl (by decide) rfl (by decide) (by decide) rfl hl.1 rfl (Nat.le_of_ble_eq_true rfl) dL_ends_227 ⟨Nat.le_trans (Nat.le_of_ble_eq_true rfl) hRc.1, Nat.le_trans (Nat.le_of_ble_eq_true rfl) hRc.2⟩ (fun H locs hP hD hS => ?_)
  have hP : va_P D vwCl [(y0, .inr (1, [.ref b, .ref y2, .int (iI (2)), .int (iI (0)), .int (iI (2)), .int (iI (4))])), (y2, .inl (cI, 4, .inl (aI sC_0))), (b, .inr (0, [.ref pq, .ref cq])), (pq, .inl (cI, 16, .inl (aI sP_88))), (cq, .inl (cI, 136, .inl (aI (cnt sP_88))))] H := hP
  have hD : va_D A [(y0, .inr (1, [.ref b, .ref y2, .int (iI (2)), .int (iI (0)), .int (iI (2)), .int (iI (4))])), (y2, .inl (cI, 4, .inl (aI sC_0))), (b, .inr (0, [.ref pq, .ref cq])), (pq, .inl (cI, 16, .inl (aI sP_88))), (cq, .inl (cI, 136, .inl (aI (cnt sP_88))))] := hD
  refine r_if_eq (tgt := 237) hx hb dL_ends_230 (by decide) (by unfold rI; decide) (fun h9 => absurd h9 (by omega)) (fun h230 => ?_)
  refine r_iconst hx hb dL_ends_233 ?_
  refine lv_goto (tgt := 238) hx hb dL_ends_234 (by decide) ?_
  refine lv_istore (lv' := [(6, .int (iI (1))), (5, .int (iI (8))), (4, .int (iI (1))), (3, .int (iI (2))), (2, .int (iI (3))), (1, .int (iI (23))), (7, .int (iI (2))), (0, .ref y0)]) hx hb dL_ends_238 hl (by decide) rfl (fun ls hl => ?_)
  refine lv_iload hx hb dL_ends_240 (lv_at hl 2 rfl) ?_
  refine r_if_eq (tgt := 250) hx hb dL_ends_242 (by decide) (by unfold rI; decide) (fun h9 => absurd h9 (by omega)) (fun h242 => ?_)
  refine lv_iload hx hb dL_ends_245 (lv_at hl 0 rfl) ?_
  refine r_if_ne (tgt := 252) hx hb dL_ends_247 (by decide) (by unfold rI; decide) (fun h247 => ?_) (fun h9 => absurd h9 (by omega))
  refine lv_iload_n hx hb dL_ends_252 rfl (lv_at hl 5 rfl) ?_
  refine r_bipush hx hb dL_ends_253 (by decide) ?_
  refine r_icmp_ne (tgt := 261) hx hb dL_ends_255 (by decide) (by unfold rI; decide) (by unfold rI; decide) (fun h9 => absurd h9 (by omega)) (fun h255 => ?_)
  refine lv_goto (tgt := 301) hx hb dL_ends_258 (by decide) ?_
  refine lv_iinc (v := iI (24)) (lv' := [(1, .int (iI (24))), (6, .int (iI (1))), (5, .int (iI (8))), (4, .int (iI (1))), (3, .int (iI (2))), (2, .int (iI (3))), (7, .int (iI (2))), (0, .ref y0)]) hx hb dL_ends_301 hl (k := 5) rfl (by decide) (by decide) rfl (fun ls hl => ?_)
  refine lv_goto (tgt := 10) hx hb dL_ends_304 (by decide) ?_
  exact sg_L_ends_25 S hst hR hRc hE hA y0 y2 b pq cq  hret hP hD hS hl
set_option maxHeartbeats 4000000 in
set_option maxRecDepth 100000 in
theorem sg_L_ends_23 {p : Program} {l : Launch} {e : Env} {R : Room} {s : State} {mt : MethodId} {args : Array Value} {below : List Frame} {meth : Method} {c : Code} {H0 : Heap} {Q : State → Prop} {A : Nat → Prop} {D : va_G} {cI cL : ClassId} {tw : Nat} (S : CallFix p mt c cL_ends 8 s args wsL_ends RL) (hst : l.stackTraces = false) (hR : 15 ≤ R.frames ∧ 377 ≤ R.locals) (hRc : 527 ≤ R.cells ∧ 3296 ≤ R.slots) (hE : EV D cI cL tw A s H0) (hA : ∀ q : Nat, H0.size ≤ q → A q) (y0 : Nat) (y2 : Nat) (b : Nat) (pq : Nat) (cq : Nat)  (hret : ∀ (z : Int) (u : Unit) (pc : Nat) (ls : Array Slot) (H : Heap) (locs : List Loc) (cells slots : Nat), decode cL_ends pc = .ok (.ireturn, 1) → (z = 1) → va_P D vwCl [] H → va_D A [] → va_S A H0 H locs → cells ≤ 527 → slots ≤ 3296 → W p l e R s mt args below meth c H locs cells slots Q (F0 mt pc ls [.int (iI z)])) {H : Heap} {locs : List Loc} {ls : Array Slot} (hP : va_P D vwCl [(y0, .inr (1, [.ref b, .ref y2, .int (iI (0)), .int (iI (0)), .int (iI (0)), .int (iI (3))])), (y2, .inl (cI, 4, .inl (aI sC_0))), (b, .inr (0, [.ref pq, .ref cq])), (pq, .inl (cI, 16, .inl (aI sP_84))), (cq, .inl (cI, 136, .inl (aI (cnt sP_84))))] H) (hD : va_D A [(y0, .inr (1, [.ref b, .ref y2, .int (iI (0)), .int (iI (0)), .int (iI (0)), .int (iI (3))])), (y2, .inl (cI, 4, .inl (aI sC_0))), (b, .inr (0, [.ref pq, .ref cq])), (pq, .inl (cI, 16, .inl (aI sP_84))), (cq, .inl (cI, 136, .inl (aI (cnt sP_84))))]) (hS : va_S A H0 H locs) (hl : lv_has ls 8 [(1, .int (iI (22))), (7, .int (iI (2))), (6, .int (iI (1))), (5, .int (iI (8))), (4, .int (iI (1))), (3, .int (iI (2))), (2, .int (iI (3))), (0, .ref y0)]) : W p l e R s mt args below meth c H locs 340 2174 Q (F0 mt 10 ls []) := by
  obtain ⟨hx, hb, hml, hown, hts⟩ := id S
  refine lv_iload_n hx hb dL_ends_10 rfl (lv_at hl 0 rfl) ?_
  refine r_bipush hx hb dL_ends_11 (by decide) ?_
  refine r_icmp_ge (tgt := 307) hx hb dL_ends_13 (by decide) (by unfold rI; decide) (by unfold rI; decide) (fun h9 => absurd h9 (by omega)) (fun h13 => ?_)
  refine lv_iload_n hx hb dL_ends_16 rfl (lv_at hl 0 rfl) ?_
  refine r_iconst hx hb dL_ends_17 ?_
  refine r_idiv hx hb dL_ends_18 (by omega) (by omega) ?_
  refine r_top (7) (by decide) ?_
  refine r_iconst hx hb dL_ends_19 ?_
  refine r_irem hx hb dL_ends_20 (by omega) (by omega) ?_
  refine r_top (3) (by decide) ?_
  refine lv_istore_n (lv' := [(2, .int (iI (3))), (1, .int (iI (22))), (7, .int (iI (2))), (6, .int (iI (1))), (5, .int (iI (8))), (4, .int (iI (1))), (3, .int (iI (2))), (0, .ref y0)]) hx hb dL_ends_21 rfl hl (by decide) rfl (fun ls hl => ?_)
  refine lv_iload_n hx hb dL_ends_22 rfl (lv_at hl 1 rfl) ?_
  refine r_bipush hx hb dL_ends_23 (by decide) ?_
  refine r_icmp_ge (tgt := 32) hx hb dL_ends_25 (by decide) (by unfold rI; decide) (by unfold rI; decide) (fun h25 => ?_) (fun h9 => absurd h9 (by omega))
  refine lv_iload_n hx hb dL_ends_32 rfl (lv_at hl 1 rfl) ?_
  refine r_iconst hx hb dL_ends_33 ?_
  refine r_irem hx hb dL_ends_34 (by omega) (by omega) ?_
  refine r_top (0) (by decide) ?_
  refine r_iconst hx hb dL_ends_35 ?_
  refine r_imul hx hb dL_ends_36 ?_
  refine r_top (0) (by decide) ?_
  refine lv_istore_n (lv' := [(3, .int (iI (0))), (2, .int (iI (3))), (1, .int (iI (22))), (7, .int (iI (2))), (6, .int (iI (1))), (5, .int (iI (8))), (4, .int (iI (1))), (0, .ref y0)]) hx hb dL_ends_37 rfl hl (by decide) rfl (fun ls hl => ?_)
  refine lv_aload_n hx hb dL_ends_38 rfl (lv_at hl 7 rfl) ?_
  refine q_RO (As := []) (rest := []) S (c_X1_onTurn l D cI cL tw (y0) (y2) (b) (pq) (cq) (0) (0) (3) (0) (sP_84) (sC_0) (hb_84) (by omega) (by omega) (by omega) (by omega)) (0) (fun z h => h) gL_ends_X1_onTurn rfl rfl rfl ⟨rfl, f_X1_onTurn⟩ hR (Nat.le_of_ble_eq_true rfl) (Nat.le_of_ble_eq_true rfl) (hE.kept hS.2.1) hP [0, 1, 2, 3, 4] rfl 0 rfl rfl rfl hl.1 rfl (Nat.le_of_ble_eq_true rfl) dL_ends_39 ⟨Nat.le_trans (Nat.le_of_ble_eq_true rfl) hRc.1, Nat.le_trans (Nat.le_of_ble_eq_true rfl) hRc.2⟩ ?_
  refine lv_iload_n hx hb dL_ends_42 rfl (lv_at hl 0 rfl) ?_
  refine r_icmp_ne (tgt := 87) hx hb dL_ends_43 (by decide) (by unfold rI; decide) (by unfold rI; decide) (fun h9 => absurd h9 (by omega)) (fun h43 => ?_)
  refine lv_aload_n hx hb dL_ends_46 rfl (lv_at hl 7 rfl) ?_
  refine q_RO (As := []) (rest := []) S (c_X1_mover l D cI cL tw (y0) (y2) (b) (pq) (cq) (0) (0) (3) (0) (sP_84) (sC_0) (hb_84) (by omega) (by omega) (by omega) (by omega)) (2) (fun z h => h.trans fq_330) gL_ends_X1_mover rfl rfl rfl ⟨rfl, f_X1_mover⟩ hR (Nat.le_of_ble_eq_true rfl) (Nat.le_of_ble_eq_true rfl) (hE.kept hS.2.1) hP [0, 1, 2, 3, 4] rfl 0 rfl rfl rfl hl.1 rfl (Nat.le_of_ble_eq_true rfl) dL_ends_47 ⟨Nat.le_trans (Nat.le_of_ble_eq_true rfl) hRc.1, Nat.le_trans (Nat.le_of_ble_eq_true rfl) hRc.2⟩ ?_
  refine lv_iload_n hx hb dL_ends_50 rfl (lv_at hl 2 rfl) ?_
  refine r_bipush hx hb dL_ends_51 (by decide) ?_
  refine r_icmp_ge (tgt := 60) hx hb dL_ends_53 (by decide) (by unfold rI; decide) (by unfold rI; decide) (fun h53 => ?_) (fun h9 => absurd h9 (by omega))
  refine r_iconst hx hb dL_ends_60 ?_
  refine r_icmp_ne (tgt := 87) hx hb dL_ends_61 (by decide) (by unfold rI; decide) (by unfold rI; decide) (fun h9 => absurd h9 (by omega)) (fun h61 => ?_)
  refine lv_aload_n hx hb dL_ends_64 rfl (lv_at hl 7 rfl) ?_
  refine lv_iload_n hx hb dL_ends_65 rfl (lv_at hl 2 rfl) ?_
  refine r_bipush hx hb dL_ends_66 (by decide) ?_
  refine r_icmp_ge (tgt := 75) hx hb dL_ends_68 (by decide) (by unfold rI; decide) (by unfold rI; decide) (fun h68 => ?_) (fun h9 => absurd h9 (by omega))
  refine r_iconst hx hb dL_ends_75 ?_
  refine q_Xi (As := [.int (iI (2))]) (rest := []) S (c_X1_home l hst D cI cL tw (y0) (y2) (b) (pq) (cq) (0) (0) (3) (0) (sP_84) (sC_0) (2) (hb_84) (by omega) (by omega) (by omega) (by omega) (by omega)) (3) (fun z h => h.2.2.trans fq_331) (fun E h => by (try dsimp only at h); first | (rcases h with ⟨_, h⟩ | ⟨_, h⟩ <;> omega) | (obtain ⟨_, h⟩ := h; omega)) gL_ends_X1_home rfl rfl rfl ⟨rfl, f_X1_home⟩ hR (Nat.le_of_ble_eq_true rfl) (Nat.le_of_ble_eq_true rfl) (hE.kept hS.2.1) hP hS hA [0, 1, 2, 3, 4] rfl 0 rfl rfl rfl hl.1 rfl (Nat.le_of_ble_eq_true rfl) dL_ends_76 ⟨Nat.le_trans (Nat.le_of_ble_eq_true rfl) hRc.1, Nat.le_trans (Nat.le_of_ble_eq_true rfl) hRc.2⟩ (fun H locs hP hS => ?_)
  refine lv_iload_n hx hb dL_ends_79 rfl (lv_at hl 1 rfl) ?_
  refine r_icmp_ne (tgt := 87) hx hb dL_ends_80 (by decide) (by unfold rI; decide) (by unfold rI; decide) (fun h9 => absurd h9 (by omega)) (fun h80 => ?_)
  refine r_iconst hx hb dL_ends_83 ?_
  refine lv_goto (tgt := 88) hx hb dL_ends_84 (by decide) ?_
  refine lv_istore (lv' := [(4, .int (iI (1))), (3, .int (iI (0))), (2, .int (iI (3))), (1, .int (iI (22))), (7, .int (iI (2))), (6, .int (iI (1))), (5, .int (iI (8))), (0, .ref y0)]) hx hb dL_ends_88 hl (by decide) rfl (fun ls hl => ?_)
  refine r_bipush hx hb dL_ends_90 (by decide) ?_
  refine r_iconst hx hb dL_ends_92 ?_
  refine lv_iload_n hx hb dL_ends_93 rfl (lv_at hl 2 rfl) ?_
  refine r_ishl hx hb (z := 8) dL_ends_94 (by decide) ?_
  refine r_isub hx hb dL_ends_95 ?_
  refine r_top (7) (by decide) ?_
  refine r_iconst hx hb dL_ends_96 ?_
  refine r_iadd hx hb dL_ends_97 ?_
  refine r_top (8) (by decide) ?_
  refine lv_istore (lv' := [(5, .int (iI (8))), (4, .int (iI (1))), (3, .int (iI (0))), (2, .int (iI (3))), (1, .int (iI (22))), (7, .int (iI (2))), (6, .int (iI (1))), (0, .ref y0)]) hx hb dL_ends_98 hl (by decide) rfl (fun ls hl => ?_)
  refine lv_iload_n hx hb dL_ends_100 rfl (lv_at hl 4 rfl) ?_
  refine r_iconst hx hb dL_ends_101 ?_
  refine r_irem hx hb dL_ends_102 (by omega) (by omega) ?_
  refine r_top (1) (by decide) ?_
  refine r_if_ne (tgt := 154) hx hb dL_ends_103 (by decide) (by unfold rI; decide) (fun h103 => ?_) (fun h9 => absurd h9 (by omega))
  refine lv_iload_n hx hb dL_ends_154 rfl (lv_at hl 4 rfl) ?_
  refine r_iconst hx hb dL_ends_155 ?_
  refine r_irem hx hb dL_ends_156 (by omega) (by omega) ?_
  refine r_top (1) (by decide) ?_
  refine r_iconst hx hb dL_ends_157 ?_
  refine r_icmp_ne (tgt := 209) hx hb dL_ends_158 (by decide) (by unfold rI; decide) (by unfold rI; decide) (fun h9 => absurd h9 (by omega)) (fun h158 => ?_)
  refine lv_aload_n hx hb dL_ends_161 rfl (lv_at hl 7 rfl) ?_
  refine r_iconst hx hb dL_ends_162 ?_
  refine lv_iload hx hb dL_ends_163 (lv_at hl 0 rfl) ?_
  refine lv_iload_n hx hb dL_ends_165 rfl (lv_at hl 3 rfl) ?_
  refine r_bipush hx hb dL_ends_166 (by decide) ?_
  refine q_LM (As := [.ref y0, .int (iI (0)), .int (iI (8)), .int (iI (3)), .int (iI (54))]) (rest := []) (wr := []) S (c_L_goes l hst D cI cL tw (y0) (y2) (b) (pq) (cq) (0) (3) (0) (sP_84) (sC_0) (0) (8) (3) (54) (0) (1) (0) (sP_85) (sC_0) (by omega) (by omega) (by omega) (fq_333)) (1) (()) (fun z u h => ⟨h, rfl⟩) gL_ends_L_goes rfl rfl rfl f_L_goes hR (Nat.le_of_ble_eq_true rfl) (Nat.le_of_ble_eq_true rfl) (hE.kept hS.2.1) hP hD hS hA [0, 1, 2, 3, 4] [] rfl rfl (by decide) rfl (by decide) (by decide) rfl hl.1 rfl (Nat.le_of_ble_eq_true rfl) dL_ends_168 ⟨Nat.le_trans (Nat.le_of_ble_eq_true rfl) hRc.1, Nat.le_trans (Nat.le_of_ble_eq_true rfl) hRc.2⟩ (fun H locs hP hD hS => ?_)
  have hP : va_P D vwCl [(y0, .inr (1, [.ref b, .ref y2, .int (iI (0)), .int (iI (1)), .int (iI (0)), .int (iI (0))])), (y2, .inl (cI, 4, .inl (aI sC_0))), (b, .inr (0, [.ref pq, .ref cq])), (pq, .inl (cI, 16, .inl (aI sP_85))), (cq, .inl (cI, 136, .inl (aI (cnt sP_85))))] H := hP
  have hD : va_D A [(y0, .inr (1, [.ref b, .ref y2, .int (iI (0)), .int (iI (1)), .int (iI (0)), .int (iI (0))])), (y2, .inl (cI, 4, .inl (aI sC_0))), (b, .inr (0, [.ref pq, .ref cq])), (pq, .inl (cI, 16, .inl (aI sP_85))), (cq, .inl (cI, 136, .inl (aI (cnt sP_85))))] := hD
  refine r_if_eq (tgt := 205) hx hb dL_ends_171 (by decide) (by unfold rI; decide) (fun h9 => absurd h9 (by omega)) (fun h171 => ?_)
  refine lv_aload_n hx hb dL_ends_174 rfl (lv_at hl 7 rfl) ?_
  refine r_iconst hx hb dL_ends_175 ?_
  refine lv_iload hx hb dL_ends_176 (lv_at hl 0 rfl) ?_
  refine lv_iload_n hx hb dL_ends_178 rfl (lv_at hl 3 rfl) ?_
  refine r_bipush hx hb dL_ends_179 (by decide) ?_
  refine q_LM (As := [.ref y0, .int (iI (1)), .int (iI (8)), .int (iI (3)), .int (iI (64))]) (rest := []) (wr := []) S (c_L_goes l hst D cI cL tw (y0) (y2) (b) (pq) (cq) (0) (0) (1) (sP_85) (sC_0) (1) (8) (3) (64) (0) (2) (0) (sP_86) (sC_0) (by omega) (by omega) (by omega) (fq_335)) (1) (()) (fun z u h => ⟨h, rfl⟩) gL_ends_L_goes rfl rfl rfl f_L_goes hR (Nat.le_of_ble_eq_true rfl) (Nat.le_of_ble_eq_true rfl) (hE.kept hS.2.1) hP hD hS hA [0, 1, 2, 3, 4] [] rfl rfl (by decide) rfl (by decide) (by decide) rfl hl.1 rfl (Nat.le_of_ble_eq_true rfl) dL_ends_181 ⟨Nat.le_trans (Nat.le_of_ble_eq_true rfl) hRc.1, Nat.le_trans (Nat.le_of_ble_eq_true rfl) hRc.2⟩ (fun H locs hP hD hS => ?_)
  have hP : va_P D vwCl [(y0, .inr (1, [.ref b, .ref y2, .int (iI (0)), .int (iI (2)), .int (iI (0)), .int (iI (1))])), (y2, .inl (cI, 4, .inl (aI sC_0))), (b, .inr (0, [.ref pq, .ref cq])), (pq, .inl (cI, 16, .inl (aI sP_86))), (cq, .inl (cI, 136, .inl (aI (cnt sP_86))))] H := hP
  have hD : va_D A [(y0, .inr (1, [.ref b, .ref y2, .int (iI (0)), .int (iI (2)), .int (iI (0)), .int (iI (1))])), (y2, .inl (cI, 4, .inl (aI sC_0))), (b, .inr (0, [.ref pq, .ref cq])), (pq, .inl (cI, 16, .inl (aI sP_86))), (cq, .inl (cI, 136, .inl (aI (cnt sP_86))))] := hD
  refine r_if_eq (tgt := 205) hx hb dL_ends_184 (by decide) (by unfold rI; decide) (fun h9 => absurd h9 (by omega)) (fun h184 => ?_)
  refine lv_aload_n hx hb dL_ends_187 rfl (lv_at hl 7 rfl) ?_
  refine r_iconst hx hb dL_ends_188 ?_
  refine r_iconst hx hb dL_ends_189 ?_
  refine lv_iload_n hx hb dL_ends_190 rfl (lv_at hl 3 rfl) ?_
  refine r_ishl hx hb (z := 8) dL_ends_191 (by decide) ?_
  refine lv_iload_n hx hb dL_ends_192 rfl (lv_at hl 3 rfl) ?_
  refine r_bipush hx hb dL_ends_193 (by decide) ?_
  refine q_LM (As := [.ref y0, .int (iI (4)), .int (iI (8)), .int (iI (3)), .int (iI (68))]) (rest := []) (wr := []) S (c_L_goes l hst D cI cL tw (y0) (y2) (b) (pq) (cq) (0) (1) (2) (sP_86) (sC_0) (4) (8) (3) (68) (1) (0) (0) (sP_87) (sC_0) (by omega) (by omega) (by omega) (fq_337)) (1) (()) (fun z u h => ⟨h, rfl⟩) gL_ends_L_goes rfl rfl rfl f_L_goes hR (Nat.le_of_ble_eq_true rfl) (Nat.le_of_ble_eq_true rfl) (hE.kept hS.2.1) hP hD hS hA [0, 1, 2, 3, 4] [] rfl rfl (by decide) rfl (by decide) (by decide) rfl hl.1 rfl (Nat.le_of_ble_eq_true rfl) dL_ends_195 ⟨Nat.le_trans (Nat.le_of_ble_eq_true rfl) hRc.1, Nat.le_trans (Nat.le_of_ble_eq_true rfl) hRc.2⟩ (fun H locs hP hD hS => ?_)
  have hP : va_P D vwCl [(y0, .inr (1, [.ref b, .ref y2, .int (iI (1)), .int (iI (0)), .int (iI (0)), .int (iI (4))])), (y2, .inl (cI, 4, .inl (aI sC_0))), (b, .inr (0, [.ref pq, .ref cq])), (pq, .inl (cI, 16, .inl (aI sP_87))), (cq, .inl (cI, 136, .inl (aI (cnt sP_87))))] H := hP
  have hD : va_D A [(y0, .inr (1, [.ref b, .ref y2, .int (iI (1)), .int (iI (0)), .int (iI (0)), .int (iI (4))])), (y2, .inl (cI, 4, .inl (aI sC_0))), (b, .inr (0, [.ref pq, .ref cq])), (pq, .inl (cI, 16, .inl (aI sP_87))), (cq, .inl (cI, 136, .inl (aI (cnt sP_87))))] := hD
  refine r_if_eq (tgt := 205) hx hb dL_ends_198 (by decide) (by unfold rI; decide) (fun h9 => absurd h9 (by omega)) (fun h198 => ?_)
  refine r_iconst hx hb dL_ends_201 ?_
  refine lv_goto (tgt := 238) hx hb dL_ends_202 (by decide) ?_
  refine lv_istore (lv' := [(6, .int (iI (1))), (5, .int (iI (8))), (4, .int (iI (1))), (3, .int (iI (0))), (2, .int (iI (3))), (1, .int (iI (22))), (7, .int (iI (2))), (0, .ref y0)]) hx hb dL_ends_238 hl (by decide) rfl (fun ls hl => ?_)
  refine lv_iload hx hb dL_ends_240 (lv_at hl 2 rfl) ?_
  refine r_if_eq (tgt := 250) hx hb dL_ends_242 (by decide) (by unfold rI; decide) (fun h9 => absurd h9 (by omega)) (fun h242 => ?_)
  refine lv_iload hx hb dL_ends_245 (lv_at hl 0 rfl) ?_
  refine r_if_ne (tgt := 252) hx hb dL_ends_247 (by decide) (by unfold rI; decide) (fun h247 => ?_) (fun h9 => absurd h9 (by omega))
  refine lv_iload_n hx hb dL_ends_252 rfl (lv_at hl 5 rfl) ?_
  refine r_bipush hx hb dL_ends_253 (by decide) ?_
  refine r_icmp_ne (tgt := 261) hx hb dL_ends_255 (by decide) (by unfold rI; decide) (by unfold rI; decide) (fun h255 => ?_) (fun h9 => absurd h9 (by omega))
  refine r_iconst hx hb dL_ends_261 ?_
  refine lv_istore (lv' := [(7, .int (iI (1))), (6, .int (iI (1))), (5, .int (iI (8))), (4, .int (iI (1))), (3, .int (iI (0))), (2, .int (iI (3))), (1, .int (iI (22))), (0, .ref y0)]) hx hb dL_ends_262 hl (by decide) rfl (fun ls hl => ?_)
  refine lv_iload hx hb dL_ends_264 (lv_at hl 0 rfl) ?_
  refine lv_iload_n hx hb dL_ends_266 rfl (lv_at hl 6 rfl) ?_
  refine r_bipush hx hb dL_ends_267 (by decide) ?_
  refine r_icmp_ge (tgt := 276) hx hb dL_ends_269 (by decide) (by unfold rI; decide) (by unfold rI; decide) (fun h269 => ?_) (fun h9 => absurd h9 (by omega))
  refine r_iconst hx hb dL_ends_276 ?_
  refine r_icmp_ge (tgt := 301) hx hb dL_ends_277 (by decide) (by unfold rI; decide) (by unfold rI; decide) (fun h9 => absurd h9 (by omega)) (fun h277 => ?_)
  refine lv_aload_n hx hb dL_ends_280 rfl (lv_at hl 7 rfl) ?_
  refine lv_iload_n hx hb dL_ends_281 rfl (lv_at hl 4 rfl) ?_
  refine lv_iload hx hb dL_ends_282 (lv_at hl 0 rfl) ?_
  refine r_iadd hx hb dL_ends_284 ?_
  refine r_top (1) (by decide) ?_
  refine r_iconst hx hb dL_ends_285 ?_
  refine r_irem hx hb dL_ends_286 (by omega) (by omega) ?_
  refine r_top (1) (by decide) ?_
  refine q_LM (As := [.ref y0, .int (iI (1))]) (rest := []) (wr := []) S (c_L_loses l hst D cI cL tw (y0) (y2) (b) (pq) (cq) (1) (4) (0) (sP_87) (sC_0) (2) (hb_87) (by omega) (by omega) (by omega) (fq_338) (by omega)) (1) (()) (fun z u h => ⟨h, rfl⟩) gL_ends_L_loses rfl rfl rfl f_L_loses hR (Nat.le_of_ble_eq_true rfl) (Nat.le_of_ble_eq_true rfl) (hE.kept hS.2.1) hP hD hS hA [0, 1, 2, 3, 4] [] rfl rfl (by decide) rfl (by decide) (by decide) rfl hl.1 rfl (Nat.le_of_ble_eq_true rfl) dL_ends_287 ⟨Nat.le_trans (Nat.le_of_ble_eq_true rfl) hRc.1, Nat.le_trans (Nat.le_of_ble_eq_true rfl) hRc.2⟩ (fun H locs hP hD hS => ?_)
  have hP : va_P D vwCl [(y0, .inr (1, [.ref b, .ref y2, .int (iI (2)), .int (iI (0)), .int (iI (0)), .int (iI (4))])), (y2, .inl (cI, 4, .inl (aI sC_0))), (b, .inr (0, [.ref pq, .ref cq])), (pq, .inl (cI, 16, .inl (aI sP_87))), (cq, .inl (cI, 136, .inl (aI (cnt sP_87))))] H := hP
  have hD : va_D A [(y0, .inr (1, [.ref b, .ref y2, .int (iI (2)), .int (iI (0)), .int (iI (0)), .int (iI (4))])), (y2, .inl (cI, 4, .inl (aI sC_0))), (b, .inr (0, [.ref pq, .ref cq])), (pq, .inl (cI, 16, .inl (aI sP_87))), (cq, .inl (cI, 136, .inl (aI (cnt sP_87))))] := hD
  refine r_if_ne (tgt := 295) hx hb dL_ends_290 (by decide) (by unfold rI; decide) (fun h290 => ?_) (fun h9 => absurd h9 (by omega))
  refine lv_iinc (v := iI (2)) (lv' := [(7, .int (iI (2))), (6, .int (iI (1))), (5, .int (iI (8))), (4, .int (iI (1))), (3, .int (iI (0))), (2, .int (iI (3))), (1, .int (iI (22))), (0, .ref y0)]) hx hb dL_ends_295 hl (k := 0) rfl (by decide) (by decide) rfl (fun ls hl => ?_)
  refine lv_goto (tgt := 264) hx hb dL_ends_298 (by decide) ?_
  refine lv_iload hx hb dL_ends_264 (lv_at hl 0 rfl) ?_
  refine lv_iload_n hx hb dL_ends_266 rfl (lv_at hl 6 rfl) ?_
  refine r_bipush hx hb dL_ends_267 (by decide) ?_
  refine r_icmp_ge (tgt := 276) hx hb dL_ends_269 (by decide) (by unfold rI; decide) (by unfold rI; decide) (fun h269 => ?_) (fun h9 => absurd h9 (by omega))
  refine r_iconst hx hb dL_ends_276 ?_
  refine r_icmp_ge (tgt := 301) hx hb dL_ends_277 (by decide) (by unfold rI; decide) (by unfold rI; decide) (fun h277 => ?_) (fun h9 => absurd h9 (by omega))
  refine lv_iinc (v := iI (23)) (lv' := [(1, .int (iI (23))), (7, .int (iI (2))), (6, .int (iI (1))), (5, .int (iI (8))), (4, .int (iI (1))), (3, .int (iI (0))), (2, .int (iI (3))), (0, .ref y0)]) hx hb dL_ends_301 hl (k := 6) rfl (by decide) (by decide) rfl (fun ls hl => ?_)
  refine lv_goto (tgt := 10) hx hb dL_ends_304 (by decide) ?_
  exact sg_L_ends_24 S hst hR hRc hE hA y0 y2 b pq cq  hret hP hD hS hl
set_option maxHeartbeats 4000000 in
set_option maxRecDepth 100000 in
theorem sg_L_ends_22 {p : Program} {l : Launch} {e : Env} {R : Room} {s : State} {mt : MethodId} {args : Array Value} {below : List Frame} {meth : Method} {c : Code} {H0 : Heap} {Q : State → Prop} {A : Nat → Prop} {D : va_G} {cI cL : ClassId} {tw : Nat} (S : CallFix p mt c cL_ends 8 s args wsL_ends RL) (hst : l.stackTraces = false) (hR : 15 ≤ R.frames ∧ 377 ≤ R.locals) (hRc : 527 ≤ R.cells ∧ 3296 ≤ R.slots) (hE : EV D cI cL tw A s H0) (hA : ∀ q : Nat, H0.size ≤ q → A q) (y0 : Nat) (y2 : Nat) (b : Nat) (pq : Nat) (cq : Nat)  (hret : ∀ (z : Int) (u : Unit) (pc : Nat) (ls : Array Slot) (H : Heap) (locs : List Loc) (cells slots : Nat), decode cL_ends pc = .ok (.ireturn, 1) → (z = 1) → va_P D vwCl [] H → va_D A [] → va_S A H0 H locs → cells ≤ 527 → slots ≤ 3296 → W p l e R s mt args below meth c H locs cells slots Q (F0 mt pc ls [.int (iI z)])) {H : Heap} {locs : List Loc} {ls : Array Slot} (hP : va_P D vwCl [(y0, .inr (1, [.ref b, .ref y2, .int (iI (2)), .int (iI (0)), .int (iI (0)), .int (iI (4))])), (y2, .inl (cI, 4, .inl (aI sC_0))), (b, .inr (0, [.ref pq, .ref cq])), (pq, .inl (cI, 16, .inl (aI sP_81))), (cq, .inl (cI, 136, .inl (aI (cnt sP_81))))] H) (hD : va_D A [(y0, .inr (1, [.ref b, .ref y2, .int (iI (2)), .int (iI (0)), .int (iI (0)), .int (iI (4))])), (y2, .inl (cI, 4, .inl (aI sC_0))), (b, .inr (0, [.ref pq, .ref cq])), (pq, .inl (cI, 16, .inl (aI sP_81))), (cq, .inl (cI, 136, .inl (aI (cnt sP_81))))]) (hS : va_S A H0 H locs) (hl : lv_has ls 8 [(1, .int (iI (21))), (7, .int (iI (2))), (6, .int (iI (1))), (5, .int (iI (12))), (4, .int (iI (1))), (3, .int (iI (0))), (2, .int (iI (2))), (0, .ref y0)]) : W p l e R s mt args below meth c H locs 323 2072 Q (F0 mt 10 ls []) := by
  obtain ⟨hx, hb, hml, hown, hts⟩ := id S
  refine lv_iload_n hx hb dL_ends_10 rfl (lv_at hl 0 rfl) ?_
  refine r_bipush hx hb dL_ends_11 (by decide) ?_
  refine r_icmp_ge (tgt := 307) hx hb dL_ends_13 (by decide) (by unfold rI; decide) (by unfold rI; decide) (fun h9 => absurd h9 (by omega)) (fun h13 => ?_)
  refine lv_iload_n hx hb dL_ends_16 rfl (lv_at hl 0 rfl) ?_
  refine r_iconst hx hb dL_ends_17 ?_
  refine r_idiv hx hb dL_ends_18 (by omega) (by omega) ?_
  refine r_top (7) (by decide) ?_
  refine r_iconst hx hb dL_ends_19 ?_
  refine r_irem hx hb dL_ends_20 (by omega) (by omega) ?_
  refine r_top (3) (by decide) ?_
  refine lv_istore_n (lv' := [(2, .int (iI (3))), (1, .int (iI (21))), (7, .int (iI (2))), (6, .int (iI (1))), (5, .int (iI (12))), (4, .int (iI (1))), (3, .int (iI (0))), (0, .ref y0)]) hx hb dL_ends_21 rfl hl (by decide) rfl (fun ls hl => ?_)
  refine lv_iload_n hx hb dL_ends_22 rfl (lv_at hl 1 rfl) ?_
  refine r_bipush hx hb dL_ends_23 (by decide) ?_
  refine r_icmp_ge (tgt := 32) hx hb dL_ends_25 (by decide) (by unfold rI; decide) (by unfold rI; decide) (fun h25 => ?_) (fun h9 => absurd h9 (by omega))
  refine lv_iload_n hx hb dL_ends_32 rfl (lv_at hl 1 rfl) ?_
  refine r_iconst hx hb dL_ends_33 ?_
  refine r_irem hx hb dL_ends_34 (by omega) (by omega) ?_
  refine r_top (1) (by decide) ?_
  refine r_iconst hx hb dL_ends_35 ?_
  refine r_imul hx hb dL_ends_36 ?_
  refine r_top (2) (by decide) ?_
  refine lv_istore_n (lv' := [(3, .int (iI (2))), (2, .int (iI (3))), (1, .int (iI (21))), (7, .int (iI (2))), (6, .int (iI (1))), (5, .int (iI (12))), (4, .int (iI (1))), (0, .ref y0)]) hx hb dL_ends_37 rfl hl (by decide) rfl (fun ls hl => ?_)
  refine lv_aload_n hx hb dL_ends_38 rfl (lv_at hl 7 rfl) ?_
  refine q_RO (As := []) (rest := []) S (c_X1_onTurn l D cI cL tw (y0) (y2) (b) (pq) (cq) (2) (0) (4) (0) (sP_81) (sC_0) (hb_81) (by omega) (by omega) (by omega) (by omega)) (2) (fun z h => h) gL_ends_X1_onTurn rfl rfl rfl ⟨rfl, f_X1_onTurn⟩ hR (Nat.le_of_ble_eq_true rfl) (Nat.le_of_ble_eq_true rfl) (hE.kept hS.2.1) hP [0, 1, 2, 3, 4] rfl 0 rfl rfl rfl hl.1 rfl (Nat.le_of_ble_eq_true rfl) dL_ends_39 ⟨Nat.le_trans (Nat.le_of_ble_eq_true rfl) hRc.1, Nat.le_trans (Nat.le_of_ble_eq_true rfl) hRc.2⟩ ?_
  refine lv_iload_n hx hb dL_ends_42 rfl (lv_at hl 0 rfl) ?_
  refine r_icmp_ne (tgt := 87) hx hb dL_ends_43 (by decide) (by unfold rI; decide) (by unfold rI; decide) (fun h9 => absurd h9 (by omega)) (fun h43 => ?_)
  refine lv_aload_n hx hb dL_ends_46 rfl (lv_at hl 7 rfl) ?_
  refine q_RO (As := []) (rest := []) S (c_X1_mover l D cI cL tw (y0) (y2) (b) (pq) (cq) (2) (0) (4) (0) (sP_81) (sC_0) (hb_81) (by omega) (by omega) (by omega) (by omega)) (2) (fun z h => h.trans fq_321) gL_ends_X1_mover rfl rfl rfl ⟨rfl, f_X1_mover⟩ hR (Nat.le_of_ble_eq_true rfl) (Nat.le_of_ble_eq_true rfl) (hE.kept hS.2.1) hP [0, 1, 2, 3, 4] rfl 0 rfl rfl rfl hl.1 rfl (Nat.le_of_ble_eq_true rfl) dL_ends_47 ⟨Nat.le_trans (Nat.le_of_ble_eq_true rfl) hRc.1, Nat.le_trans (Nat.le_of_ble_eq_true rfl) hRc.2⟩ ?_
  refine lv_iload_n hx hb dL_ends_50 rfl (lv_at hl 2 rfl) ?_
  refine r_bipush hx hb dL_ends_51 (by decide) ?_
  refine r_icmp_ge (tgt := 60) hx hb dL_ends_53 (by decide) (by unfold rI; decide) (by unfold rI; decide) (fun h53 => ?_) (fun h9 => absurd h9 (by omega))
  refine r_iconst hx hb dL_ends_60 ?_
  refine r_icmp_ne (tgt := 87) hx hb dL_ends_61 (by decide) (by unfold rI; decide) (by unfold rI; decide) (fun h9 => absurd h9 (by omega)) (fun h61 => ?_)
  refine lv_aload_n hx hb dL_ends_64 rfl (lv_at hl 7 rfl) ?_
  refine lv_iload_n hx hb dL_ends_65 rfl (lv_at hl 2 rfl) ?_
  refine r_bipush hx hb dL_ends_66 (by decide) ?_
  refine r_icmp_ge (tgt := 75) hx hb dL_ends_68 (by decide) (by unfold rI; decide) (by unfold rI; decide) (fun h68 => ?_) (fun h9 => absurd h9 (by omega))
  refine r_iconst hx hb dL_ends_75 ?_
  refine q_Xi (As := [.int (iI (2))]) (rest := []) S (c_X1_home l hst D cI cL tw (y0) (y2) (b) (pq) (cq) (2) (0) (4) (0) (sP_81) (sC_0) (2) (hb_81) (by omega) (by omega) (by omega) (by omega) (by omega)) (3) (fun z h => h.2.2.trans fq_322) (fun E h => by (try dsimp only at h); first | (rcases h with ⟨_, h⟩ | ⟨_, h⟩ <;> omega) | (obtain ⟨_, h⟩ := h; omega)) gL_ends_X1_home rfl rfl rfl ⟨rfl, f_X1_home⟩ hR (Nat.le_of_ble_eq_true rfl) (Nat.le_of_ble_eq_true rfl) (hE.kept hS.2.1) hP hS hA [0, 1, 2, 3, 4] rfl 0 rfl rfl rfl hl.1 rfl (Nat.le_of_ble_eq_true rfl) dL_ends_76 ⟨Nat.le_trans (Nat.le_of_ble_eq_true rfl) hRc.1, Nat.le_trans (Nat.le_of_ble_eq_true rfl) hRc.2⟩ (fun H locs hP hS => ?_)
  refine lv_iload_n hx hb dL_ends_79 rfl (lv_at hl 1 rfl) ?_
  refine r_icmp_ne (tgt := 87) hx hb dL_ends_80 (by decide) (by unfold rI; decide) (by unfold rI; decide) (fun h9 => absurd h9 (by omega)) (fun h80 => ?_)
  refine r_iconst hx hb dL_ends_83 ?_
  refine lv_goto (tgt := 88) hx hb dL_ends_84 (by decide) ?_
  refine lv_istore (lv' := [(4, .int (iI (1))), (3, .int (iI (2))), (2, .int (iI (3))), (1, .int (iI (21))), (7, .int (iI (2))), (6, .int (iI (1))), (5, .int (iI (12))), (0, .ref y0)]) hx hb dL_ends_88 hl (by decide) rfl (fun ls hl => ?_)
  refine r_bipush hx hb dL_ends_90 (by decide) ?_
  refine r_iconst hx hb dL_ends_92 ?_
  refine lv_iload_n hx hb dL_ends_93 rfl (lv_at hl 2 rfl) ?_
  refine r_ishl hx hb (z := 8) dL_ends_94 (by decide) ?_
  refine r_isub hx hb dL_ends_95 ?_
  refine r_top (7) (by decide) ?_
  refine r_iconst hx hb dL_ends_96 ?_
  refine r_iadd hx hb dL_ends_97 ?_
  refine r_top (8) (by decide) ?_
  refine lv_istore (lv' := [(5, .int (iI (8))), (4, .int (iI (1))), (3, .int (iI (2))), (2, .int (iI (3))), (1, .int (iI (21))), (7, .int (iI (2))), (6, .int (iI (1))), (0, .ref y0)]) hx hb dL_ends_98 hl (by decide) rfl (fun ls hl => ?_)
  refine lv_iload_n hx hb dL_ends_100 rfl (lv_at hl 4 rfl) ?_
  refine r_iconst hx hb dL_ends_101 ?_
  refine r_irem hx hb dL_ends_102 (by omega) (by omega) ?_
  refine r_top (0) (by decide) ?_
  refine r_if_ne (tgt := 154) hx hb dL_ends_103 (by decide) (by unfold rI; decide) (fun h9 => absurd h9 (by omega)) (fun h103 => ?_)
  refine lv_aload_n hx hb dL_ends_106 rfl (lv_at hl 7 rfl) ?_
  refine r_bipush hx hb dL_ends_107 (by decide) ?_
  refine lv_iload hx hb dL_ends_109 (lv_at hl 0 rfl) ?_
  refine lv_iload_n hx hb dL_ends_111 rfl (lv_at hl 3 rfl) ?_
  refine r_iconst hx hb dL_ends_112 ?_
  refine q_LM (As := [.ref y0, .int (iI (6)), .int (iI (8)), .int (iI (3)), .int (iI (1))]) (rest := []) (wr := []) S (c_L_goes l hst D cI cL tw (y0) (y2) (b) (pq) (cq) (2) (4) (0) (sP_81) (sC_0) (6) (8) (3) (1) (2) (1) (0) (sP_82) (sC_0) (by omega) (by omega) (by omega) (fq_324)) (1) (()) (fun z u h => ⟨h, rfl⟩) gL_ends_L_goes rfl rfl rfl f_L_goes hR (Nat.le_of_ble_eq_true rfl) (Nat.le_of_ble_eq_true rfl) (hE.kept hS.2.1) hP hD hS hA [0, 1, 2, 3, 4] [] rfl rfl (by decide) rfl (by decide) (by decide) rfl hl.1 rfl (Nat.le_of_ble_eq_true rfl) dL_ends_113 ⟨Nat.le_trans (Nat.le_of_ble_eq_true rfl) hRc.1, Nat.le_trans (Nat.le_of_ble_eq_true rfl) hRc.2⟩ (fun H locs hP hD hS => ?_)
  have hP : va_P D vwCl [(y0, .inr (1, [.ref b, .ref y2, .int (iI (2)), .int (iI (1)), .int (iI (0)), .int (iI (6))])), (y2, .inl (cI, 4, .inl (aI sC_0))), (b, .inr (0, [.ref pq, .ref cq])), (pq, .inl (cI, 16, .inl (aI sP_82))), (cq, .inl (cI, 136, .inl (aI (cnt sP_82))))] H := hP
  have hD : va_D A [(y0, .inr (1, [.ref b, .ref y2, .int (iI (2)), .int (iI (1)), .int (iI (0)), .int (iI (6))])), (y2, .inl (cI, 4, .inl (aI sC_0))), (b, .inr (0, [.ref pq, .ref cq])), (pq, .inl (cI, 16, .inl (aI sP_82))), (cq, .inl (cI, 136, .inl (aI (cnt sP_82))))] := hD
  refine r_if_eq (tgt := 150) hx hb dL_ends_116 (by decide) (by unfold rI; decide) (fun h9 => absurd h9 (by omega)) (fun h116 => ?_)
  refine lv_aload_n hx hb dL_ends_119 rfl (lv_at hl 7 rfl) ?_
  refine r_iconst hx hb dL_ends_120 ?_
  refine lv_iload hx hb dL_ends_121 (lv_at hl 0 rfl) ?_
  refine lv_iload_n hx hb dL_ends_123 rfl (lv_at hl 3 rfl) ?_
  refine r_bipush hx hb dL_ends_124 (by decide) ?_
  refine q_LM (As := [.ref y0, .int (iI (0)), .int (iI (8)), .int (iI (3)), .int (iI (26))]) (rest := []) (wr := []) S (c_L_goes l hst D cI cL tw (y0) (y2) (b) (pq) (cq) (2) (6) (1) (sP_82) (sC_0) (0) (8) (3) (26) (2) (2) (0) (sP_83) (sC_0) (by omega) (by omega) (by omega) (fq_326)) (1) (()) (fun z u h => ⟨h, rfl⟩) gL_ends_L_goes rfl rfl rfl f_L_goes hR (Nat.le_of_ble_eq_true rfl) (Nat.le_of_ble_eq_true rfl) (hE.kept hS.2.1) hP hD hS hA [0, 1, 2, 3, 4] [] rfl rfl (by decide) rfl (by decide) (by decide) rfl hl.1 rfl (Nat.le_of_ble_eq_true rfl) dL_ends_126 ⟨Nat.le_trans (Nat.le_of_ble_eq_true rfl) hRc.1, Nat.le_trans (Nat.le_of_ble_eq_true rfl) hRc.2⟩ (fun H locs hP hD hS => ?_)
  have hP : va_P D vwCl [(y0, .inr (1, [.ref b, .ref y2, .int (iI (2)), .int (iI (2)), .int (iI (0)), .int (iI (0))])), (y2, .inl (cI, 4, .inl (aI sC_0))), (b, .inr (0, [.ref pq, .ref cq])), (pq, .inl (cI, 16, .inl (aI sP_83))), (cq, .inl (cI, 136, .inl (aI (cnt sP_83))))] H := hP
  have hD : va_D A [(y0, .inr (1, [.ref b, .ref y2, .int (iI (2)), .int (iI (2)), .int (iI (0)), .int (iI (0))])), (y2, .inl (cI, 4, .inl (aI sC_0))), (b, .inr (0, [.ref pq, .ref cq])), (pq, .inl (cI, 16, .inl (aI sP_83))), (cq, .inl (cI, 136, .inl (aI (cnt sP_83))))] := hD
  refine r_if_eq (tgt := 150) hx hb dL_ends_129 (by decide) (by unfold rI; decide) (fun h9 => absurd h9 (by omega)) (fun h129 => ?_)
  refine lv_aload_n hx hb dL_ends_132 rfl (lv_at hl 7 rfl) ?_
  refine r_iconst hx hb dL_ends_133 ?_
  refine r_iconst hx hb dL_ends_134 ?_
  refine lv_iload_n hx hb dL_ends_135 rfl (lv_at hl 3 rfl) ?_
  refine r_ishl hx hb (z := 8) dL_ends_136 (by decide) ?_
  refine lv_iload_n hx hb dL_ends_137 rfl (lv_at hl 3 rfl) ?_
  refine r_bipush hx hb dL_ends_138 (by decide) ?_
  refine q_LM (As := [.ref y0, .int (iI (3)), .int (iI (8)), .int (iI (3)), .int (iI (29))]) (rest := []) (wr := []) S (c_L_goes l hst D cI cL tw (y0) (y2) (b) (pq) (cq) (2) (0) (2) (sP_83) (sC_0) (3) (8) (3) (29) (3) (0) (0) (sP_84) (sC_0) (by omega) (by omega) (by omega) (fq_328)) (1) (()) (fun z u h => ⟨h, rfl⟩) gL_ends_L_goes rfl rfl rfl f_L_goes hR (Nat.le_of_ble_eq_true rfl) (Nat.le_of_ble_eq_true rfl) (hE.kept hS.2.1) hP hD hS hA [0, 1, 2, 3, 4] [] rfl rfl (by decide) rfl (by decide) (by decide) rfl hl.1 rfl (Nat.le_of_ble_eq_true rfl) dL_ends_140 ⟨Nat.le_trans (Nat.le_of_ble_eq_true rfl) hRc.1, Nat.le_trans (Nat.le_of_ble_eq_true rfl) hRc.2⟩ (fun H locs hP hD hS => ?_)
  have hP : va_P D vwCl [(y0, .inr (1, [.ref b, .ref y2, .int (iI (3)), .int (iI (0)), .int (iI (0)), .int (iI (3))])), (y2, .inl (cI, 4, .inl (aI sC_0))), (b, .inr (0, [.ref pq, .ref cq])), (pq, .inl (cI, 16, .inl (aI sP_84))), (cq, .inl (cI, 136, .inl (aI (cnt sP_84))))] H := hP
  have hD : va_D A [(y0, .inr (1, [.ref b, .ref y2, .int (iI (3)), .int (iI (0)), .int (iI (0)), .int (iI (3))])), (y2, .inl (cI, 4, .inl (aI sC_0))), (b, .inr (0, [.ref pq, .ref cq])), (pq, .inl (cI, 16, .inl (aI sP_84))), (cq, .inl (cI, 136, .inl (aI (cnt sP_84))))] := hD
  refine r_if_eq (tgt := 150) hx hb dL_ends_143 (by decide) (by unfold rI; decide) (fun h9 => absurd h9 (by omega)) (fun h143 => ?_)
  refine r_iconst hx hb dL_ends_146 ?_
  refine lv_goto (tgt := 238) hx hb dL_ends_147 (by decide) ?_
  refine lv_istore (lv' := [(6, .int (iI (1))), (5, .int (iI (8))), (4, .int (iI (1))), (3, .int (iI (2))), (2, .int (iI (3))), (1, .int (iI (21))), (7, .int (iI (2))), (0, .ref y0)]) hx hb dL_ends_238 hl (by decide) rfl (fun ls hl => ?_)
  refine lv_iload hx hb dL_ends_240 (lv_at hl 2 rfl) ?_
  refine r_if_eq (tgt := 250) hx hb dL_ends_242 (by decide) (by unfold rI; decide) (fun h9 => absurd h9 (by omega)) (fun h242 => ?_)
  refine lv_iload hx hb dL_ends_245 (lv_at hl 0 rfl) ?_
  refine r_if_ne (tgt := 252) hx hb dL_ends_247 (by decide) (by unfold rI; decide) (fun h247 => ?_) (fun h9 => absurd h9 (by omega))
  refine lv_iload_n hx hb dL_ends_252 rfl (lv_at hl 5 rfl) ?_
  refine r_bipush hx hb dL_ends_253 (by decide) ?_
  refine r_icmp_ne (tgt := 261) hx hb dL_ends_255 (by decide) (by unfold rI; decide) (by unfold rI; decide) (fun h255 => ?_) (fun h9 => absurd h9 (by omega))
  refine r_iconst hx hb dL_ends_261 ?_
  refine lv_istore (lv' := [(7, .int (iI (1))), (6, .int (iI (1))), (5, .int (iI (8))), (4, .int (iI (1))), (3, .int (iI (2))), (2, .int (iI (3))), (1, .int (iI (21))), (0, .ref y0)]) hx hb dL_ends_262 hl (by decide) rfl (fun ls hl => ?_)
  refine lv_iload hx hb dL_ends_264 (lv_at hl 0 rfl) ?_
  refine lv_iload_n hx hb dL_ends_266 rfl (lv_at hl 6 rfl) ?_
  refine r_bipush hx hb dL_ends_267 (by decide) ?_
  refine r_icmp_ge (tgt := 276) hx hb dL_ends_269 (by decide) (by unfold rI; decide) (by unfold rI; decide) (fun h269 => ?_) (fun h9 => absurd h9 (by omega))
  refine r_iconst hx hb dL_ends_276 ?_
  refine r_icmp_ge (tgt := 301) hx hb dL_ends_277 (by decide) (by unfold rI; decide) (by unfold rI; decide) (fun h9 => absurd h9 (by omega)) (fun h277 => ?_)
  refine lv_aload_n hx hb dL_ends_280 rfl (lv_at hl 7 rfl) ?_
  refine lv_iload_n hx hb dL_ends_281 rfl (lv_at hl 4 rfl) ?_
  refine lv_iload hx hb dL_ends_282 (lv_at hl 0 rfl) ?_
  refine r_iadd hx hb dL_ends_284 ?_
  refine r_top (3) (by decide) ?_
  refine r_iconst hx hb dL_ends_285 ?_
  refine r_irem hx hb dL_ends_286 (by omega) (by omega) ?_
  refine r_top (3) (by decide) ?_
  refine q_LM (As := [.ref y0, .int (iI (3))]) (rest := []) (wr := []) S (c_L_loses l hst D cI cL tw (y0) (y2) (b) (pq) (cq) (3) (3) (0) (sP_84) (sC_0) (0) (hb_84) (by omega) (by omega) (by omega) (fq_329) (by omega)) (1) (()) (fun z u h => ⟨h, rfl⟩) gL_ends_L_loses rfl rfl rfl f_L_loses hR (Nat.le_of_ble_eq_true rfl) (Nat.le_of_ble_eq_true rfl) (hE.kept hS.2.1) hP hD hS hA [0, 1, 2, 3, 4] [] rfl rfl (by decide) rfl (by decide) (by decide) rfl hl.1 rfl (Nat.le_of_ble_eq_true rfl) dL_ends_287 ⟨Nat.le_trans (Nat.le_of_ble_eq_true rfl) hRc.1, Nat.le_trans (Nat.le_of_ble_eq_true rfl) hRc.2⟩ (fun H locs hP hD hS => ?_)
  have hP : va_P D vwCl [(y0, .inr (1, [.ref b, .ref y2, .int (iI (0)), .int (iI (0)), .int (iI (0)), .int (iI (3))])), (y2, .inl (cI, 4, .inl (aI sC_0))), (b, .inr (0, [.ref pq, .ref cq])), (pq, .inl (cI, 16, .inl (aI sP_84))), (cq, .inl (cI, 136, .inl (aI (cnt sP_84))))] H := hP
  have hD : va_D A [(y0, .inr (1, [.ref b, .ref y2, .int (iI (0)), .int (iI (0)), .int (iI (0)), .int (iI (3))])), (y2, .inl (cI, 4, .inl (aI sC_0))), (b, .inr (0, [.ref pq, .ref cq])), (pq, .inl (cI, 16, .inl (aI sP_84))), (cq, .inl (cI, 136, .inl (aI (cnt sP_84))))] := hD
  refine r_if_ne (tgt := 295) hx hb dL_ends_290 (by decide) (by unfold rI; decide) (fun h290 => ?_) (fun h9 => absurd h9 (by omega))
  refine lv_iinc (v := iI (2)) (lv' := [(7, .int (iI (2))), (6, .int (iI (1))), (5, .int (iI (8))), (4, .int (iI (1))), (3, .int (iI (2))), (2, .int (iI (3))), (1, .int (iI (21))), (0, .ref y0)]) hx hb dL_ends_295 hl (k := 0) rfl (by decide) (by decide) rfl (fun ls hl => ?_)
  refine lv_goto (tgt := 264) hx hb dL_ends_298 (by decide) ?_
  refine lv_iload hx hb dL_ends_264 (lv_at hl 0 rfl) ?_
  refine lv_iload_n hx hb dL_ends_266 rfl (lv_at hl 6 rfl) ?_
  refine r_bipush hx hb dL_ends_267 (by decide) ?_
  refine r_icmp_ge (tgt := 276) hx hb dL_ends_269 (by decide) (by unfold rI; decide) (by unfold rI; decide) (fun h269 => ?_) (fun h9 => absurd h9 (by omega))
  refine r_iconst hx hb dL_ends_276 ?_
  refine r_icmp_ge (tgt := 301) hx hb dL_ends_277 (by decide) (by unfold rI; decide) (by unfold rI; decide) (fun h277 => ?_) (fun h9 => absurd h9 (by omega))
  refine lv_iinc (v := iI (22)) (lv' := [(1, .int (iI (22))), (7, .int (iI (2))), (6, .int (iI (1))), (5, .int (iI (8))), (4, .int (iI (1))), (3, .int (iI (2))), (2, .int (iI (3))), (0, .ref y0)]) hx hb dL_ends_301 hl (k := 6) rfl (by decide) (by decide) rfl (fun ls hl => ?_)
  refine lv_goto (tgt := 10) hx hb dL_ends_304 (by decide) ?_
  exact sg_L_ends_23 S hst hR hRc hE hA y0 y2 b pq cq  hret hP hD hS hl
set_option maxHeartbeats 4000000 in
set_option maxRecDepth 100000 in
theorem sg_L_ends_21 {p : Program} {l : Launch} {e : Env} {R : Room} {s : State} {mt : MethodId} {args : Array Value} {below : List Frame} {meth : Method} {c : Code} {H0 : Heap} {Q : State → Prop} {A : Nat → Prop} {D : va_G} {cI cL : ClassId} {tw : Nat} (S : CallFix p mt c cL_ends 8 s args wsL_ends RL) (hst : l.stackTraces = false) (hR : 15 ≤ R.frames ∧ 377 ≤ R.locals) (hRc : 527 ≤ R.cells ∧ 3296 ≤ R.slots) (hE : EV D cI cL tw A s H0) (hA : ∀ q : Nat, H0.size ≤ q → A q) (y0 : Nat) (y2 : Nat) (b : Nat) (pq : Nat) (cq : Nat)  (hret : ∀ (z : Int) (u : Unit) (pc : Nat) (ls : Array Slot) (H : Heap) (locs : List Loc) (cells slots : Nat), decode cL_ends pc = .ok (.ireturn, 1) → (z = 1) → va_P D vwCl [] H → va_D A [] → va_S A H0 H locs → cells ≤ 527 → slots ≤ 3296 → W p l e R s mt args below meth c H locs cells slots Q (F0 mt pc ls [.int (iI z)])) {H : Heap} {locs : List Loc} {ls : Array Slot} (hP : va_P D vwCl [(y0, .inr (1, [.ref b, .ref y2, .int (iI (0)), .int (iI (0)), .int (iI (0)), .int (iI (4))])), (y2, .inl (cI, 4, .inl (aI sC_0))), (b, .inr (0, [.ref pq, .ref cq])), (pq, .inl (cI, 16, .inl (aI sP_80))), (cq, .inl (cI, 136, .inl (aI (cnt sP_80))))] H) (hD : va_D A [(y0, .inr (1, [.ref b, .ref y2, .int (iI (0)), .int (iI (0)), .int (iI (0)), .int (iI (4))])), (y2, .inl (cI, 4, .inl (aI sC_0))), (b, .inr (0, [.ref pq, .ref cq])), (pq, .inl (cI, 16, .inl (aI sP_80))), (cq, .inl (cI, 136, .inl (aI (cnt sP_80))))]) (hS : va_S A H0 H locs) (hl : lv_has ls 8 [(1, .int (iI (20))), (7, .int (iI (2))), (6, .int (iI (1))), (5, .int (iI (12))), (4, .int (iI (1))), (3, .int (iI (2))), (2, .int (iI (2))), (0, .ref y0)]) : W p l e R s mt args below meth c H locs 315 2024 Q (F0 mt 10 ls []) := by
  obtain ⟨hx, hb, hml, hown, hts⟩ := id S
  refine lv_iload_n hx hb dL_ends_10 rfl (lv_at hl 0 rfl) ?_
  refine r_bipush hx hb dL_ends_11 (by decide) ?_
  refine r_icmp_ge (tgt := 307) hx hb dL_ends_13 (by decide) (by unfold rI; decide) (by unfold rI; decide) (fun h9 => absurd h9 (by omega)) (fun h13 => ?_)
  refine lv_iload_n hx hb dL_ends_16 rfl (lv_at hl 0 rfl) ?_
  refine r_iconst hx hb dL_ends_17 ?_
  refine r_idiv hx hb dL_ends_18 (by omega) (by omega) ?_
  refine r_top (6) (by decide) ?_
  refine r_iconst hx hb dL_ends_19 ?_
  refine r_irem hx hb dL_ends_20 (by omega) (by omega) ?_
  refine r_top (2) (by decide) ?_
  refine lv_istore_n (lv' := [(2, .int (iI (2))), (1, .int (iI (20))), (7, .int (iI (2))), (6, .int (iI (1))), (5, .int (iI (12))), (4, .int (iI (1))), (3, .int (iI (2))), (0, .ref y0)]) hx hb dL_ends_21 rfl hl (by decide) rfl (fun ls hl => ?_)
  refine lv_iload_n hx hb dL_ends_22 rfl (lv_at hl 1 rfl) ?_
  refine r_bipush hx hb dL_ends_23 (by decide) ?_
  refine r_icmp_ge (tgt := 32) hx hb dL_ends_25 (by decide) (by unfold rI; decide) (by unfold rI; decide) (fun h25 => ?_) (fun h9 => absurd h9 (by omega))
  refine lv_iload_n hx hb dL_ends_32 rfl (lv_at hl 1 rfl) ?_
  refine r_iconst hx hb dL_ends_33 ?_
  refine r_irem hx hb dL_ends_34 (by omega) (by omega) ?_
  refine r_top (0) (by decide) ?_
  refine r_iconst hx hb dL_ends_35 ?_
  refine r_imul hx hb dL_ends_36 ?_
  refine r_top (0) (by decide) ?_
  refine lv_istore_n (lv' := [(3, .int (iI (0))), (2, .int (iI (2))), (1, .int (iI (20))), (7, .int (iI (2))), (6, .int (iI (1))), (5, .int (iI (12))), (4, .int (iI (1))), (0, .ref y0)]) hx hb dL_ends_37 rfl hl (by decide) rfl (fun ls hl => ?_)
  refine lv_aload_n hx hb dL_ends_38 rfl (lv_at hl 7 rfl) ?_
  refine q_RO (As := []) (rest := []) S (c_X1_onTurn l D cI cL tw (y0) (y2) (b) (pq) (cq) (0) (0) (4) (0) (sP_80) (sC_0) (hb_80) (by omega) (by omega) (by omega) (by omega)) (0) (fun z h => h) gL_ends_X1_onTurn rfl rfl rfl ⟨rfl, f_X1_onTurn⟩ hR (Nat.le_of_ble_eq_true rfl) (Nat.le_of_ble_eq_true rfl) (hE.kept hS.2.1) hP [0, 1, 2, 3, 4] rfl 0 rfl rfl rfl hl.1 rfl (Nat.le_of_ble_eq_true rfl) dL_ends_39 ⟨Nat.le_trans (Nat.le_of_ble_eq_true rfl) hRc.1, Nat.le_trans (Nat.le_of_ble_eq_true rfl) hRc.2⟩ ?_
  refine lv_iload_n hx hb dL_ends_42 rfl (lv_at hl 0 rfl) ?_
  refine r_icmp_ne (tgt := 87) hx hb dL_ends_43 (by decide) (by unfold rI; decide) (by unfold rI; decide) (fun h9 => absurd h9 (by omega)) (fun h43 => ?_)
  refine lv_aload_n hx hb dL_ends_46 rfl (lv_at hl 7 rfl) ?_
  refine q_RO (As := []) (rest := []) S (c_X1_mover l D cI cL tw (y0) (y2) (b) (pq) (cq) (0) (0) (4) (0) (sP_80) (sC_0) (hb_80) (by omega) (by omega) (by omega) (by omega)) (2) (fun z h => h.trans fq_315) gL_ends_X1_mover rfl rfl rfl ⟨rfl, f_X1_mover⟩ hR (Nat.le_of_ble_eq_true rfl) (Nat.le_of_ble_eq_true rfl) (hE.kept hS.2.1) hP [0, 1, 2, 3, 4] rfl 0 rfl rfl rfl hl.1 rfl (Nat.le_of_ble_eq_true rfl) dL_ends_47 ⟨Nat.le_trans (Nat.le_of_ble_eq_true rfl) hRc.1, Nat.le_trans (Nat.le_of_ble_eq_true rfl) hRc.2⟩ ?_
  refine lv_iload_n hx hb dL_ends_50 rfl (lv_at hl 2 rfl) ?_
  refine r_bipush hx hb dL_ends_51 (by decide) ?_
  refine r_icmp_ge (tgt := 60) hx hb dL_ends_53 (by decide) (by unfold rI; decide) (by unfold rI; decide) (fun h53 => ?_) (fun h9 => absurd h9 (by omega))
  refine r_iconst hx hb dL_ends_60 ?_
  refine r_icmp_ne (tgt := 87) hx hb dL_ends_61 (by decide) (by unfold rI; decide) (by unfold rI; decide) (fun h9 => absurd h9 (by omega)) (fun h61 => ?_)
  refine lv_aload_n hx hb dL_ends_64 rfl (lv_at hl 7 rfl) ?_
  refine lv_iload_n hx hb dL_ends_65 rfl (lv_at hl 2 rfl) ?_
  refine r_bipush hx hb dL_ends_66 (by decide) ?_
  refine r_icmp_ge (tgt := 75) hx hb dL_ends_68 (by decide) (by unfold rI; decide) (by unfold rI; decide) (fun h68 => ?_) (fun h9 => absurd h9 (by omega))
  refine r_iconst hx hb dL_ends_75 ?_
  refine q_Xi (As := [.int (iI (2))]) (rest := []) S (c_X1_home l hst D cI cL tw (y0) (y2) (b) (pq) (cq) (0) (0) (4) (0) (sP_80) (sC_0) (2) (hb_80) (by omega) (by omega) (by omega) (by omega) (by omega)) (2) (fun z h => h.2.2.trans fq_316) (fun E h => by (try dsimp only at h); first | (rcases h with ⟨_, h⟩ | ⟨_, h⟩ <;> omega) | (obtain ⟨_, h⟩ := h; omega)) gL_ends_X1_home rfl rfl rfl ⟨rfl, f_X1_home⟩ hR (Nat.le_of_ble_eq_true rfl) (Nat.le_of_ble_eq_true rfl) (hE.kept hS.2.1) hP hS hA [0, 1, 2, 3, 4] rfl 0 rfl rfl rfl hl.1 rfl (Nat.le_of_ble_eq_true rfl) dL_ends_76 ⟨Nat.le_trans (Nat.le_of_ble_eq_true rfl) hRc.1, Nat.le_trans (Nat.le_of_ble_eq_true rfl) hRc.2⟩ (fun H locs hP hS => ?_)
  refine lv_iload_n hx hb dL_ends_79 rfl (lv_at hl 1 rfl) ?_
  refine r_icmp_ne (tgt := 87) hx hb dL_ends_80 (by decide) (by unfold rI; decide) (by unfold rI; decide) (fun h9 => absurd h9 (by omega)) (fun h80 => ?_)
  refine r_iconst hx hb dL_ends_83 ?_
  refine lv_goto (tgt := 88) hx hb dL_ends_84 (by decide) ?_
  refine lv_istore (lv' := [(4, .int (iI (1))), (3, .int (iI (0))), (2, .int (iI (2))), (1, .int (iI (20))), (7, .int (iI (2))), (6, .int (iI (1))), (5, .int (iI (12))), (0, .ref y0)]) hx hb dL_ends_88 hl (by decide) rfl (fun ls hl => ?_)
  refine r_bipush hx hb dL_ends_90 (by decide) ?_
  refine r_iconst hx hb dL_ends_92 ?_
  refine lv_iload_n hx hb dL_ends_93 rfl (lv_at hl 2 rfl) ?_
  refine r_ishl hx hb (z := 4) dL_ends_94 (by decide) ?_
  refine r_isub hx hb dL_ends_95 ?_
  refine r_top (11) (by decide) ?_
  refine r_iconst hx hb dL_ends_96 ?_
  refine r_iadd hx hb dL_ends_97 ?_
  refine r_top (12) (by decide) ?_
  refine lv_istore (lv' := [(5, .int (iI (12))), (4, .int (iI (1))), (3, .int (iI (0))), (2, .int (iI (2))), (1, .int (iI (20))), (7, .int (iI (2))), (6, .int (iI (1))), (0, .ref y0)]) hx hb dL_ends_98 hl (by decide) rfl (fun ls hl => ?_)
  refine lv_iload_n hx hb dL_ends_100 rfl (lv_at hl 4 rfl) ?_
  refine r_iconst hx hb dL_ends_101 ?_
  refine r_irem hx hb dL_ends_102 (by omega) (by omega) ?_
  refine r_top (2) (by decide) ?_
  refine r_if_ne (tgt := 154) hx hb dL_ends_103 (by decide) (by unfold rI; decide) (fun h103 => ?_) (fun h9 => absurd h9 (by omega))
  refine lv_iload_n hx hb dL_ends_154 rfl (lv_at hl 4 rfl) ?_
  refine r_iconst hx hb dL_ends_155 ?_
  refine r_irem hx hb dL_ends_156 (by omega) (by omega) ?_
  refine r_top (2) (by decide) ?_
  refine r_iconst hx hb dL_ends_157 ?_
  refine r_icmp_ne (tgt := 209) hx hb dL_ends_158 (by decide) (by unfold rI; decide) (by unfold rI; decide) (fun h158 => ?_) (fun h9 => absurd h9 (by omega))
  refine lv_aload_n hx hb dL_ends_209 rfl (lv_at hl 7 rfl) ?_
  refine r_iconst hx hb dL_ends_210 ?_
  refine q_Xi (As := [.int (iI (2))]) (rest := []) S (c_X1_ways l hst D cI cL tw (y0) (y2) (b) (pq) (cq) (0) (0) (4) (0) (sP_80) (sC_0) (2) (hb_80) (by omega) (by omega) (by omega) (by omega) (by omega)) (15) (fun z h => h.2.2.2.trans fq_317) (fun E h => by (try dsimp only at h); first | (rcases h with ⟨_, h⟩ | ⟨_, h⟩ <;> omega) | (obtain ⟨_, h⟩ := h; omega)) gL_ends_X1_ways rfl rfl rfl ⟨rfl, f_X1_ways⟩ hR (Nat.le_of_ble_eq_true rfl) (Nat.le_of_ble_eq_true rfl) (hE.kept hS.2.1) hP hS hA [0, 1, 2, 3, 4] rfl 0 rfl rfl rfl hl.1 rfl (Nat.le_of_ble_eq_true rfl) dL_ends_211 ⟨Nat.le_trans (Nat.le_of_ble_eq_true rfl) hRc.1, Nat.le_trans (Nat.le_of_ble_eq_true rfl) hRc.2⟩ (fun H locs hP hS => ?_)
  refine r_bipush hx hb dL_ends_214 (by decide) ?_
  refine r_icmp_ne (tgt := 237) hx hb dL_ends_216 (by decide) (by unfold rI; decide) (by unfold rI; decide) (fun h9 => absurd h9 (by omega)) (fun h216 => ?_)
  refine lv_aload_n hx hb dL_ends_219 rfl (lv_at hl 7 rfl) ?_
  refine r_iconst hx hb dL_ends_220 ?_
  refine r_iconst hx hb dL_ends_221 ?_
  refine lv_iload_n hx hb dL_ends_222 rfl (lv_at hl 3 rfl) ?_
  refine r_ishl hx hb (z := 4) dL_ends_223 (by decide) ?_
  refine lv_iload_n hx hb dL_ends_224 rfl (lv_at hl 3 rfl) ?_
  refine r_bipush hx hb dL_ends_225 (by decide) ?_
  refine q_LM (As := [.ref y0, .int (iI (4)), .int (iI (4)), .int (iI (2)), .int (iI (72))]) (rest := []) (wr := []) S (c_L_goes l hst D cI cL tw (y0) (y2) (b) (pq) (cq) (0) (4) (0) (sP_80) (sC_0) (4) (4) (2) (72) (1) (0) (0) (sP_81) (sC_0) (by omega) (by omega) (by omega) (fq_319)) (1) (()) (fun z u h => ⟨h, rfl⟩) gL_ends_L_goes rfl rfl rfl f_L_goes hR (Nat.le_of_ble_eq_true rfl) (Nat.le_of_ble_eq_true rfl) (hE.kept hS.2.1) hP hD hS hA [0, 1, 2, 3, 4] [] rfl rfl (by decide) rfl (by decide) (by decide) rfl hl.1 rfl (Nat.le_of_ble_eq_true rfl) dL_ends_227 ⟨Nat.le_trans (Nat.le_of_ble_eq_true rfl) hRc.1, Nat.le_trans (Nat.le_of_ble_eq_true rfl) hRc.2⟩ (fun H locs hP hD hS => ?_)
  have hP : va_P D vwCl [(y0, .inr (1, [.ref b, .ref y2, .int (iI (1)), .int (iI (0)), .int (iI (0)), .int (iI (4))])), (y2, .inl (cI, 4, .inl (aI sC_0))), (b, .inr (0, [.ref pq, .ref cq])), (pq, .inl (cI, 16, .inl (aI sP_81))), (cq, .inl (cI, 136, .inl (aI (cnt sP_81))))] H := hP
  have hD : va_D A [(y0, .inr (1, [.ref b, .ref y2, .int (iI (1)), .int (iI (0)), .int (iI (0)), .int (iI (4))])), (y2, .inl (cI, 4, .inl (aI sC_0))), (b, .inr (0, [.ref pq, .ref cq])), (pq, .inl (cI, 16, .inl (aI sP_81))), (cq, .inl (cI, 136, .inl (aI (cnt sP_81))))] := hD
  refine r_if_eq (tgt := 237) hx hb dL_ends_230 (by decide) (by unfold rI; decide) (fun h9 => absurd h9 (by omega)) (fun h230 => ?_)
  refine r_iconst hx hb dL_ends_233 ?_
  refine lv_goto (tgt := 238) hx hb dL_ends_234 (by decide) ?_
  refine lv_istore (lv' := [(6, .int (iI (1))), (5, .int (iI (12))), (4, .int (iI (1))), (3, .int (iI (0))), (2, .int (iI (2))), (1, .int (iI (20))), (7, .int (iI (2))), (0, .ref y0)]) hx hb dL_ends_238 hl (by decide) rfl (fun ls hl => ?_)
  refine lv_iload hx hb dL_ends_240 (lv_at hl 2 rfl) ?_
  refine r_if_eq (tgt := 250) hx hb dL_ends_242 (by decide) (by unfold rI; decide) (fun h9 => absurd h9 (by omega)) (fun h242 => ?_)
  refine lv_iload hx hb dL_ends_245 (lv_at hl 0 rfl) ?_
  refine r_if_ne (tgt := 252) hx hb dL_ends_247 (by decide) (by unfold rI; decide) (fun h247 => ?_) (fun h9 => absurd h9 (by omega))
  refine lv_iload_n hx hb dL_ends_252 rfl (lv_at hl 5 rfl) ?_
  refine r_bipush hx hb dL_ends_253 (by decide) ?_
  refine r_icmp_ne (tgt := 261) hx hb dL_ends_255 (by decide) (by unfold rI; decide) (by unfold rI; decide) (fun h255 => ?_) (fun h9 => absurd h9 (by omega))
  refine r_iconst hx hb dL_ends_261 ?_
  refine lv_istore (lv' := [(7, .int (iI (1))), (6, .int (iI (1))), (5, .int (iI (12))), (4, .int (iI (1))), (3, .int (iI (0))), (2, .int (iI (2))), (1, .int (iI (20))), (0, .ref y0)]) hx hb dL_ends_262 hl (by decide) rfl (fun ls hl => ?_)
  refine lv_iload hx hb dL_ends_264 (lv_at hl 0 rfl) ?_
  refine lv_iload_n hx hb dL_ends_266 rfl (lv_at hl 6 rfl) ?_
  refine r_bipush hx hb dL_ends_267 (by decide) ?_
  refine r_icmp_ge (tgt := 276) hx hb dL_ends_269 (by decide) (by unfold rI; decide) (by unfold rI; decide) (fun h269 => ?_) (fun h9 => absurd h9 (by omega))
  refine r_iconst hx hb dL_ends_276 ?_
  refine r_icmp_ge (tgt := 301) hx hb dL_ends_277 (by decide) (by unfold rI; decide) (by unfold rI; decide) (fun h9 => absurd h9 (by omega)) (fun h277 => ?_)
  refine lv_aload_n hx hb dL_ends_280 rfl (lv_at hl 7 rfl) ?_
  refine lv_iload_n hx hb dL_ends_281 rfl (lv_at hl 4 rfl) ?_
  refine lv_iload hx hb dL_ends_282 (lv_at hl 0 rfl) ?_
  refine r_iadd hx hb dL_ends_284 ?_
  refine r_top (1) (by decide) ?_
  refine r_iconst hx hb dL_ends_285 ?_
  refine r_irem hx hb dL_ends_286 (by omega) (by omega) ?_
  refine r_top (1) (by decide) ?_
  refine q_LM (As := [.ref y0, .int (iI (1))]) (rest := []) (wr := []) S (c_L_loses l hst D cI cL tw (y0) (y2) (b) (pq) (cq) (1) (4) (0) (sP_81) (sC_0) (2) (hb_81) (by omega) (by omega) (by omega) (fq_320) (by omega)) (1) (()) (fun z u h => ⟨h, rfl⟩) gL_ends_L_loses rfl rfl rfl f_L_loses hR (Nat.le_of_ble_eq_true rfl) (Nat.le_of_ble_eq_true rfl) (hE.kept hS.2.1) hP hD hS hA [0, 1, 2, 3, 4] [] rfl rfl (by decide) rfl (by decide) (by decide) rfl hl.1 rfl (Nat.le_of_ble_eq_true rfl) dL_ends_287 ⟨Nat.le_trans (Nat.le_of_ble_eq_true rfl) hRc.1, Nat.le_trans (Nat.le_of_ble_eq_true rfl) hRc.2⟩ (fun H locs hP hD hS => ?_)
  have hP : va_P D vwCl [(y0, .inr (1, [.ref b, .ref y2, .int (iI (2)), .int (iI (0)), .int (iI (0)), .int (iI (4))])), (y2, .inl (cI, 4, .inl (aI sC_0))), (b, .inr (0, [.ref pq, .ref cq])), (pq, .inl (cI, 16, .inl (aI sP_81))), (cq, .inl (cI, 136, .inl (aI (cnt sP_81))))] H := hP
  have hD : va_D A [(y0, .inr (1, [.ref b, .ref y2, .int (iI (2)), .int (iI (0)), .int (iI (0)), .int (iI (4))])), (y2, .inl (cI, 4, .inl (aI sC_0))), (b, .inr (0, [.ref pq, .ref cq])), (pq, .inl (cI, 16, .inl (aI sP_81))), (cq, .inl (cI, 136, .inl (aI (cnt sP_81))))] := hD
  refine r_if_ne (tgt := 295) hx hb dL_ends_290 (by decide) (by unfold rI; decide) (fun h290 => ?_) (fun h9 => absurd h9 (by omega))
  refine lv_iinc (v := iI (2)) (lv' := [(7, .int (iI (2))), (6, .int (iI (1))), (5, .int (iI (12))), (4, .int (iI (1))), (3, .int (iI (0))), (2, .int (iI (2))), (1, .int (iI (20))), (0, .ref y0)]) hx hb dL_ends_295 hl (k := 0) rfl (by decide) (by decide) rfl (fun ls hl => ?_)
  refine lv_goto (tgt := 264) hx hb dL_ends_298 (by decide) ?_
  refine lv_iload hx hb dL_ends_264 (lv_at hl 0 rfl) ?_
  refine lv_iload_n hx hb dL_ends_266 rfl (lv_at hl 6 rfl) ?_
  refine r_bipush hx hb dL_ends_267 (by decide) ?_
  refine r_icmp_ge (tgt := 276) hx hb dL_ends_269 (by decide) (by unfold rI; decide) (by unfold rI; decide) (fun h269 => ?_) (fun h9 => absurd h9 (by omega))
  refine r_iconst hx hb dL_ends_276 ?_
  refine r_icmp_ge (tgt := 301) hx hb dL_ends_277 (by decide) (by unfold rI; decide) (by unfold rI; decide) (fun h277 => ?_) (fun h9 => absurd h9 (by omega))
  refine lv_iinc (v := iI (21)) (lv' := [(1, .int (iI (21))), (7, .int (iI (2))), (6, .int (iI (1))), (5, .int (iI (12))), (4, .int (iI (1))), (3, .int (iI (0))), (2, .int (iI (2))), (0, .ref y0)]) hx hb dL_ends_301 hl (k := 6) rfl (by decide) (by decide) rfl (fun ls hl => ?_)
  refine lv_goto (tgt := 10) hx hb dL_ends_304 (by decide) ?_
  exact sg_L_ends_22 S hst hR hRc hE hA y0 y2 b pq cq  hret hP hD hS hl
set_option maxHeartbeats 4000000 in
set_option maxRecDepth 100000 in
theorem sg_L_ends_20 {p : Program} {l : Launch} {e : Env} {R : Room} {s : State} {mt : MethodId} {args : Array Value} {below : List Frame} {meth : Method} {c : Code} {H0 : Heap} {Q : State → Prop} {A : Nat → Prop} {D : va_G} {cI cL : ClassId} {tw : Nat} (S : CallFix p mt c cL_ends 8 s args wsL_ends RL) (hst : l.stackTraces = false) (hR : 15 ≤ R.frames ∧ 377 ≤ R.locals) (hRc : 527 ≤ R.cells ∧ 3296 ≤ R.slots) (hE : EV D cI cL tw A s H0) (hA : ∀ q : Nat, H0.size ≤ q → A q) (y0 : Nat) (y2 : Nat) (b : Nat) (pq : Nat) (cq : Nat)  (hret : ∀ (z : Int) (u : Unit) (pc : Nat) (ls : Array Slot) (H : Heap) (locs : List Loc) (cells slots : Nat), decode cL_ends pc = .ok (.ireturn, 1) → (z = 1) → va_P D vwCl [] H → va_D A [] → va_S A H0 H locs → cells ≤ 527 → slots ≤ 3296 → W p l e R s mt args below meth c H locs cells slots Q (F0 mt pc ls [.int (iI z)])) {H : Heap} {locs : List Loc} {ls : Array Slot} (hP : va_P D vwCl [(y0, .inr (1, [.ref b, .ref y2, .int (iI (2)), .int (iI (0)), .int (iI (0)), .int (iI (3))])), (y2, .inl (cI, 4, .inl (aI sC_0))), (b, .inr (0, [.ref pq, .ref cq])), (pq, .inl (cI, 16, .inl (aI sP_77))), (cq, .inl (cI, 136, .inl (aI (cnt sP_77))))] H) (hD : va_D A [(y0, .inr (1, [.ref b, .ref y2, .int (iI (2)), .int (iI (0)), .int (iI (0)), .int (iI (3))])), (y2, .inl (cI, 4, .inl (aI sC_0))), (b, .inr (0, [.ref pq, .ref cq])), (pq, .inl (cI, 16, .inl (aI sP_77))), (cq, .inl (cI, 136, .inl (aI (cnt sP_77))))]) (hS : va_S A H0 H locs) (hl : lv_has ls 8 [(1, .int (iI (19))), (7, .int (iI (2))), (6, .int (iI (1))), (5, .int (iI (12))), (4, .int (iI (1))), (3, .int (iI (0))), (2, .int (iI (2))), (0, .ref y0)]) : W p l e R s mt args below meth c H locs 298 1922 Q (F0 mt 10 ls []) := by
  obtain ⟨hx, hb, hml, hown, hts⟩ := id S
  refine lv_iload_n hx hb dL_ends_10 rfl (lv_at hl 0 rfl) ?_
  refine r_bipush hx hb dL_ends_11 (by decide) ?_
  refine r_icmp_ge (tgt := 307) hx hb dL_ends_13 (by decide) (by unfold rI; decide) (by unfold rI; decide) (fun h9 => absurd h9 (by omega)) (fun h13 => ?_)
  refine lv_iload_n hx hb dL_ends_16 rfl (lv_at hl 0 rfl) ?_
  refine r_iconst hx hb dL_ends_17 ?_
  refine r_idiv hx hb dL_ends_18 (by omega) (by omega) ?_
  refine r_top (6) (by decide) ?_
  refine r_iconst hx hb dL_ends_19 ?_
  refine r_irem hx hb dL_ends_20 (by omega) (by omega) ?_
  refine r_top (2) (by decide) ?_
  refine lv_istore_n (lv' := [(2, .int (iI (2))), (1, .int (iI (19))), (7, .int (iI (2))), (6, .int (iI (1))), (5, .int (iI (12))), (4, .int (iI (1))), (3, .int (iI (0))), (0, .ref y0)]) hx hb dL_ends_21 rfl hl (by decide) rfl (fun ls hl => ?_)
  refine lv_iload_n hx hb dL_ends_22 rfl (lv_at hl 1 rfl) ?_
  refine r_bipush hx hb dL_ends_23 (by decide) ?_
  refine r_icmp_ge (tgt := 32) hx hb dL_ends_25 (by decide) (by unfold rI; decide) (by unfold rI; decide) (fun h25 => ?_) (fun h9 => absurd h9 (by omega))
  refine lv_iload_n hx hb dL_ends_32 rfl (lv_at hl 1 rfl) ?_
  refine r_iconst hx hb dL_ends_33 ?_
  refine r_irem hx hb dL_ends_34 (by omega) (by omega) ?_
  refine r_top (1) (by decide) ?_
  refine r_iconst hx hb dL_ends_35 ?_
  refine r_imul hx hb dL_ends_36 ?_
  refine r_top (2) (by decide) ?_
  refine lv_istore_n (lv' := [(3, .int (iI (2))), (2, .int (iI (2))), (1, .int (iI (19))), (7, .int (iI (2))), (6, .int (iI (1))), (5, .int (iI (12))), (4, .int (iI (1))), (0, .ref y0)]) hx hb dL_ends_37 rfl hl (by decide) rfl (fun ls hl => ?_)
  refine lv_aload_n hx hb dL_ends_38 rfl (lv_at hl 7 rfl) ?_
  refine q_RO (As := []) (rest := []) S (c_X1_onTurn l D cI cL tw (y0) (y2) (b) (pq) (cq) (2) (0) (3) (0) (sP_77) (sC_0) (hb_77) (by omega) (by omega) (by omega) (by omega)) (2) (fun z h => h) gL_ends_X1_onTurn rfl rfl rfl ⟨rfl, f_X1_onTurn⟩ hR (Nat.le_of_ble_eq_true rfl) (Nat.le_of_ble_eq_true rfl) (hE.kept hS.2.1) hP [0, 1, 2, 3, 4] rfl 0 rfl rfl rfl hl.1 rfl (Nat.le_of_ble_eq_true rfl) dL_ends_39 ⟨Nat.le_trans (Nat.le_of_ble_eq_true rfl) hRc.1, Nat.le_trans (Nat.le_of_ble_eq_true rfl) hRc.2⟩ ?_
  refine lv_iload_n hx hb dL_ends_42 rfl (lv_at hl 0 rfl) ?_
  refine r_icmp_ne (tgt := 87) hx hb dL_ends_43 (by decide) (by unfold rI; decide) (by unfold rI; decide) (fun h9 => absurd h9 (by omega)) (fun h43 => ?_)
  refine lv_aload_n hx hb dL_ends_46 rfl (lv_at hl 7 rfl) ?_
  refine q_RO (As := []) (rest := []) S (c_X1_mover l D cI cL tw (y0) (y2) (b) (pq) (cq) (2) (0) (3) (0) (sP_77) (sC_0) (hb_77) (by omega) (by omega) (by omega) (by omega)) (2) (fun z h => h.trans fq_306) gL_ends_X1_mover rfl rfl rfl ⟨rfl, f_X1_mover⟩ hR (Nat.le_of_ble_eq_true rfl) (Nat.le_of_ble_eq_true rfl) (hE.kept hS.2.1) hP [0, 1, 2, 3, 4] rfl 0 rfl rfl rfl hl.1 rfl (Nat.le_of_ble_eq_true rfl) dL_ends_47 ⟨Nat.le_trans (Nat.le_of_ble_eq_true rfl) hRc.1, Nat.le_trans (Nat.le_of_ble_eq_true rfl) hRc.2⟩ ?_
  refine lv_iload_n hx hb dL_ends_50 rfl (lv_at hl 2 rfl) ?_
  refine r_bipush hx hb dL_ends_51 (by decide) ?_
  refine r_icmp_ge (tgt := 60) hx hb dL_ends_53 (by decide) (by unfold rI; decide) (by unfold rI; decide) (fun h53 => ?_) (fun h9 => absurd h9 (by omega))
  refine r_iconst hx hb dL_ends_60 ?_
  refine r_icmp_ne (tgt := 87) hx hb dL_ends_61 (by decide) (by unfold rI; decide) (by unfold rI; decide) (fun h9 => absurd h9 (by omega)) (fun h61 => ?_)
  refine lv_aload_n hx hb dL_ends_64 rfl (lv_at hl 7 rfl) ?_
  refine lv_iload_n hx hb dL_ends_65 rfl (lv_at hl 2 rfl) ?_
  refine r_bipush hx hb dL_ends_66 (by decide) ?_
  refine r_icmp_ge (tgt := 75) hx hb dL_ends_68 (by decide) (by unfold rI; decide) (by unfold rI; decide) (fun h68 => ?_) (fun h9 => absurd h9 (by omega))
  refine r_iconst hx hb dL_ends_75 ?_
  refine q_Xi (As := [.int (iI (2))]) (rest := []) S (c_X1_home l hst D cI cL tw (y0) (y2) (b) (pq) (cq) (2) (0) (3) (0) (sP_77) (sC_0) (2) (hb_77) (by omega) (by omega) (by omega) (by omega) (by omega)) (2) (fun z h => h.2.2.trans fq_307) (fun E h => by (try dsimp only at h); first | (rcases h with ⟨_, h⟩ | ⟨_, h⟩ <;> omega) | (obtain ⟨_, h⟩ := h; omega)) gL_ends_X1_home rfl rfl rfl ⟨rfl, f_X1_home⟩ hR (Nat.le_of_ble_eq_true rfl) (Nat.le_of_ble_eq_true rfl) (hE.kept hS.2.1) hP hS hA [0, 1, 2, 3, 4] rfl 0 rfl rfl rfl hl.1 rfl (Nat.le_of_ble_eq_true rfl) dL_ends_76 ⟨Nat.le_trans (Nat.le_of_ble_eq_true rfl) hRc.1, Nat.le_trans (Nat.le_of_ble_eq_true rfl) hRc.2⟩ (fun H locs hP hS => ?_)
  refine lv_iload_n hx hb dL_ends_79 rfl (lv_at hl 1 rfl) ?_
  refine r_icmp_ne (tgt := 87) hx hb dL_ends_80 (by decide) (by unfold rI; decide) (by unfold rI; decide) (fun h9 => absurd h9 (by omega)) (fun h80 => ?_)
  refine r_iconst hx hb dL_ends_83 ?_
  refine lv_goto (tgt := 88) hx hb dL_ends_84 (by decide) ?_
  refine lv_istore (lv' := [(4, .int (iI (1))), (3, .int (iI (2))), (2, .int (iI (2))), (1, .int (iI (19))), (7, .int (iI (2))), (6, .int (iI (1))), (5, .int (iI (12))), (0, .ref y0)]) hx hb dL_ends_88 hl (by decide) rfl (fun ls hl => ?_)
  refine r_bipush hx hb dL_ends_90 (by decide) ?_
  refine r_iconst hx hb dL_ends_92 ?_
  refine lv_iload_n hx hb dL_ends_93 rfl (lv_at hl 2 rfl) ?_
  refine r_ishl hx hb (z := 4) dL_ends_94 (by decide) ?_
  refine r_isub hx hb dL_ends_95 ?_
  refine r_top (11) (by decide) ?_
  refine r_iconst hx hb dL_ends_96 ?_
  refine r_iadd hx hb dL_ends_97 ?_
  refine r_top (12) (by decide) ?_
  refine lv_istore (lv' := [(5, .int (iI (12))), (4, .int (iI (1))), (3, .int (iI (2))), (2, .int (iI (2))), (1, .int (iI (19))), (7, .int (iI (2))), (6, .int (iI (1))), (0, .ref y0)]) hx hb dL_ends_98 hl (by decide) rfl (fun ls hl => ?_)
  refine lv_iload_n hx hb dL_ends_100 rfl (lv_at hl 4 rfl) ?_
  refine r_iconst hx hb dL_ends_101 ?_
  refine r_irem hx hb dL_ends_102 (by omega) (by omega) ?_
  refine r_top (1) (by decide) ?_
  refine r_if_ne (tgt := 154) hx hb dL_ends_103 (by decide) (by unfold rI; decide) (fun h103 => ?_) (fun h9 => absurd h9 (by omega))
  refine lv_iload_n hx hb dL_ends_154 rfl (lv_at hl 4 rfl) ?_
  refine r_iconst hx hb dL_ends_155 ?_
  refine r_irem hx hb dL_ends_156 (by omega) (by omega) ?_
  refine r_top (1) (by decide) ?_
  refine r_iconst hx hb dL_ends_157 ?_
  refine r_icmp_ne (tgt := 209) hx hb dL_ends_158 (by decide) (by unfold rI; decide) (by unfold rI; decide) (fun h9 => absurd h9 (by omega)) (fun h158 => ?_)
  refine lv_aload_n hx hb dL_ends_161 rfl (lv_at hl 7 rfl) ?_
  refine r_iconst hx hb dL_ends_162 ?_
  refine lv_iload hx hb dL_ends_163 (lv_at hl 0 rfl) ?_
  refine lv_iload_n hx hb dL_ends_165 rfl (lv_at hl 3 rfl) ?_
  refine r_bipush hx hb dL_ends_166 (by decide) ?_
  refine q_LM (As := [.ref y0, .int (iI (0)), .int (iI (12)), .int (iI (2)), .int (iI (54))]) (rest := []) (wr := []) S (c_L_goes l hst D cI cL tw (y0) (y2) (b) (pq) (cq) (2) (3) (0) (sP_77) (sC_0) (0) (12) (2) (54) (2) (1) (0) (sP_78) (sC_0) (by omega) (by omega) (by omega) (fq_309)) (1) (()) (fun z u h => ⟨h, rfl⟩) gL_ends_L_goes rfl rfl rfl f_L_goes hR (Nat.le_of_ble_eq_true rfl) (Nat.le_of_ble_eq_true rfl) (hE.kept hS.2.1) hP hD hS hA [0, 1, 2, 3, 4] [] rfl rfl (by decide) rfl (by decide) (by decide) rfl hl.1 rfl (Nat.le_of_ble_eq_true rfl) dL_ends_168 ⟨Nat.le_trans (Nat.le_of_ble_eq_true rfl) hRc.1, Nat.le_trans (Nat.le_of_ble_eq_true rfl) hRc.2⟩ (fun H locs hP hD hS => ?_)
  have hP : va_P D vwCl [(y0, .inr (1, [.ref b, .ref y2, .int (iI (2)), .int (iI (1)), .int (iI (0)), .int (iI (0))])), (y2, .inl (cI, 4, .inl (aI sC_0))), (b, .inr (0, [.ref pq, .ref cq])), (pq, .inl (cI, 16, .inl (aI sP_78))), (cq, .inl (cI, 136, .inl (aI (cnt sP_78))))] H := hP
  have hD : va_D A [(y0, .inr (1, [.ref b, .ref y2, .int (iI (2)), .int (iI (1)), .int (iI (0)), .int (iI (0))])), (y2, .inl (cI, 4, .inl (aI sC_0))), (b, .inr (0, [.ref pq, .ref cq])), (pq, .inl (cI, 16, .inl (aI sP_78))), (cq, .inl (cI, 136, .inl (aI (cnt sP_78))))] := hD
  refine r_if_eq (tgt := 205) hx hb dL_ends_171 (by decide) (by unfold rI; decide) (fun h9 => absurd h9 (by omega)) (fun h171 => ?_)
  refine lv_aload_n hx hb dL_ends_174 rfl (lv_at hl 7 rfl) ?_
  refine r_iconst hx hb dL_ends_175 ?_
  refine lv_iload hx hb dL_ends_176 (lv_at hl 0 rfl) ?_
  refine lv_iload_n hx hb dL_ends_178 rfl (lv_at hl 3 rfl) ?_
  refine r_bipush hx hb dL_ends_179 (by decide) ?_
  refine q_LM (As := [.ref y0, .int (iI (1)), .int (iI (12)), .int (iI (2)), .int (iI (64))]) (rest := []) (wr := []) S (c_L_goes l hst D cI cL tw (y0) (y2) (b) (pq) (cq) (2) (0) (1) (sP_78) (sC_0) (1) (12) (2) (64) (2) (2) (0) (sP_79) (sC_0) (by omega) (by omega) (by omega) (fq_311)) (1) (()) (fun z u h => ⟨h, rfl⟩) gL_ends_L_goes rfl rfl rfl f_L_goes hR (Nat.le_of_ble_eq_true rfl) (Nat.le_of_ble_eq_true rfl) (hE.kept hS.2.1) hP hD hS hA [0, 1, 2, 3, 4] [] rfl rfl (by decide) rfl (by decide) (by decide) rfl hl.1 rfl (Nat.le_of_ble_eq_true rfl) dL_ends_181 ⟨Nat.le_trans (Nat.le_of_ble_eq_true rfl) hRc.1, Nat.le_trans (Nat.le_of_ble_eq_true rfl) hRc.2⟩ (fun H locs hP hD hS => ?_)
  have hP : va_P D vwCl [(y0, .inr (1, [.ref b, .ref y2, .int (iI (2)), .int (iI (2)), .int (iI (0)), .int (iI (1))])), (y2, .inl (cI, 4, .inl (aI sC_0))), (b, .inr (0, [.ref pq, .ref cq])), (pq, .inl (cI, 16, .inl (aI sP_79))), (cq, .inl (cI, 136, .inl (aI (cnt sP_79))))] H := hP
  have hD : va_D A [(y0, .inr (1, [.ref b, .ref y2, .int (iI (2)), .int (iI (2)), .int (iI (0)), .int (iI (1))])), (y2, .inl (cI, 4, .inl (aI sC_0))), (b, .inr (0, [.ref pq, .ref cq])), (pq, .inl (cI, 16, .inl (aI sP_79))), (cq, .inl (cI, 136, .inl (aI (cnt sP_79))))] := hD
  refine r_if_eq (tgt := 205) hx hb dL_ends_184 (by decide) (by unfold rI; decide) (fun h9 => absurd h9 (by omega)) (fun h184 => ?_)
  refine lv_aload_n hx hb dL_ends_187 rfl (lv_at hl 7 rfl) ?_
  refine r_iconst hx hb dL_ends_188 ?_
  refine r_iconst hx hb dL_ends_189 ?_
  refine lv_iload_n hx hb dL_ends_190 rfl (lv_at hl 3 rfl) ?_
  refine r_ishl hx hb (z := 4) dL_ends_191 (by decide) ?_
  refine lv_iload_n hx hb dL_ends_192 rfl (lv_at hl 3 rfl) ?_
  refine r_bipush hx hb dL_ends_193 (by decide) ?_
  refine q_LM (As := [.ref y0, .int (iI (4)), .int (iI (4)), .int (iI (2)), .int (iI (68))]) (rest := []) (wr := []) S (c_L_goes l hst D cI cL tw (y0) (y2) (b) (pq) (cq) (2) (1) (2) (sP_79) (sC_0) (4) (4) (2) (68) (3) (0) (0) (sP_80) (sC_0) (by omega) (by omega) (by omega) (fq_313)) (1) (()) (fun z u h => ⟨h, rfl⟩) gL_ends_L_goes rfl rfl rfl f_L_goes hR (Nat.le_of_ble_eq_true rfl) (Nat.le_of_ble_eq_true rfl) (hE.kept hS.2.1) hP hD hS hA [0, 1, 2, 3, 4] [] rfl rfl (by decide) rfl (by decide) (by decide) rfl hl.1 rfl (Nat.le_of_ble_eq_true rfl) dL_ends_195 ⟨Nat.le_trans (Nat.le_of_ble_eq_true rfl) hRc.1, Nat.le_trans (Nat.le_of_ble_eq_true rfl) hRc.2⟩ (fun H locs hP hD hS => ?_)
  have hP : va_P D vwCl [(y0, .inr (1, [.ref b, .ref y2, .int (iI (3)), .int (iI (0)), .int (iI (0)), .int (iI (4))])), (y2, .inl (cI, 4, .inl (aI sC_0))), (b, .inr (0, [.ref pq, .ref cq])), (pq, .inl (cI, 16, .inl (aI sP_80))), (cq, .inl (cI, 136, .inl (aI (cnt sP_80))))] H := hP
  have hD : va_D A [(y0, .inr (1, [.ref b, .ref y2, .int (iI (3)), .int (iI (0)), .int (iI (0)), .int (iI (4))])), (y2, .inl (cI, 4, .inl (aI sC_0))), (b, .inr (0, [.ref pq, .ref cq])), (pq, .inl (cI, 16, .inl (aI sP_80))), (cq, .inl (cI, 136, .inl (aI (cnt sP_80))))] := hD
  refine r_if_eq (tgt := 205) hx hb dL_ends_198 (by decide) (by unfold rI; decide) (fun h9 => absurd h9 (by omega)) (fun h198 => ?_)
  refine r_iconst hx hb dL_ends_201 ?_
  refine lv_goto (tgt := 238) hx hb dL_ends_202 (by decide) ?_
  refine lv_istore (lv' := [(6, .int (iI (1))), (5, .int (iI (12))), (4, .int (iI (1))), (3, .int (iI (2))), (2, .int (iI (2))), (1, .int (iI (19))), (7, .int (iI (2))), (0, .ref y0)]) hx hb dL_ends_238 hl (by decide) rfl (fun ls hl => ?_)
  refine lv_iload hx hb dL_ends_240 (lv_at hl 2 rfl) ?_
  refine r_if_eq (tgt := 250) hx hb dL_ends_242 (by decide) (by unfold rI; decide) (fun h9 => absurd h9 (by omega)) (fun h242 => ?_)
  refine lv_iload hx hb dL_ends_245 (lv_at hl 0 rfl) ?_
  refine r_if_ne (tgt := 252) hx hb dL_ends_247 (by decide) (by unfold rI; decide) (fun h247 => ?_) (fun h9 => absurd h9 (by omega))
  refine lv_iload_n hx hb dL_ends_252 rfl (lv_at hl 5 rfl) ?_
  refine r_bipush hx hb dL_ends_253 (by decide) ?_
  refine r_icmp_ne (tgt := 261) hx hb dL_ends_255 (by decide) (by unfold rI; decide) (by unfold rI; decide) (fun h255 => ?_) (fun h9 => absurd h9 (by omega))
  refine r_iconst hx hb dL_ends_261 ?_
  refine lv_istore (lv' := [(7, .int (iI (1))), (6, .int (iI (1))), (5, .int (iI (12))), (4, .int (iI (1))), (3, .int (iI (2))), (2, .int (iI (2))), (1, .int (iI (19))), (0, .ref y0)]) hx hb dL_ends_262 hl (by decide) rfl (fun ls hl => ?_)
  refine lv_iload hx hb dL_ends_264 (lv_at hl 0 rfl) ?_
  refine lv_iload_n hx hb dL_ends_266 rfl (lv_at hl 6 rfl) ?_
  refine r_bipush hx hb dL_ends_267 (by decide) ?_
  refine r_icmp_ge (tgt := 276) hx hb dL_ends_269 (by decide) (by unfold rI; decide) (by unfold rI; decide) (fun h269 => ?_) (fun h9 => absurd h9 (by omega))
  refine r_iconst hx hb dL_ends_276 ?_
  refine r_icmp_ge (tgt := 301) hx hb dL_ends_277 (by decide) (by unfold rI; decide) (by unfold rI; decide) (fun h9 => absurd h9 (by omega)) (fun h277 => ?_)
  refine lv_aload_n hx hb dL_ends_280 rfl (lv_at hl 7 rfl) ?_
  refine lv_iload_n hx hb dL_ends_281 rfl (lv_at hl 4 rfl) ?_
  refine lv_iload hx hb dL_ends_282 (lv_at hl 0 rfl) ?_
  refine r_iadd hx hb dL_ends_284 ?_
  refine r_top (3) (by decide) ?_
  refine r_iconst hx hb dL_ends_285 ?_
  refine r_irem hx hb dL_ends_286 (by omega) (by omega) ?_
  refine r_top (3) (by decide) ?_
  refine q_LM (As := [.ref y0, .int (iI (3))]) (rest := []) (wr := []) S (c_L_loses l hst D cI cL tw (y0) (y2) (b) (pq) (cq) (3) (4) (0) (sP_80) (sC_0) (0) (hb_80) (by omega) (by omega) (by omega) (fq_314) (by omega)) (1) (()) (fun z u h => ⟨h, rfl⟩) gL_ends_L_loses rfl rfl rfl f_L_loses hR (Nat.le_of_ble_eq_true rfl) (Nat.le_of_ble_eq_true rfl) (hE.kept hS.2.1) hP hD hS hA [0, 1, 2, 3, 4] [] rfl rfl (by decide) rfl (by decide) (by decide) rfl hl.1 rfl (Nat.le_of_ble_eq_true rfl) dL_ends_287 ⟨Nat.le_trans (Nat.le_of_ble_eq_true rfl) hRc.1, Nat.le_trans (Nat.le_of_ble_eq_true rfl) hRc.2⟩ (fun H locs hP hD hS => ?_)
  have hP : va_P D vwCl [(y0, .inr (1, [.ref b, .ref y2, .int (iI (0)), .int (iI (0)), .int (iI (0)), .int (iI (4))])), (y2, .inl (cI, 4, .inl (aI sC_0))), (b, .inr (0, [.ref pq, .ref cq])), (pq, .inl (cI, 16, .inl (aI sP_80))), (cq, .inl (cI, 136, .inl (aI (cnt sP_80))))] H := hP
  have hD : va_D A [(y0, .inr (1, [.ref b, .ref y2, .int (iI (0)), .int (iI (0)), .int (iI (0)), .int (iI (4))])), (y2, .inl (cI, 4, .inl (aI sC_0))), (b, .inr (0, [.ref pq, .ref cq])), (pq, .inl (cI, 16, .inl (aI sP_80))), (cq, .inl (cI, 136, .inl (aI (cnt sP_80))))] := hD
  refine r_if_ne (tgt := 295) hx hb dL_ends_290 (by decide) (by unfold rI; decide) (fun h290 => ?_) (fun h9 => absurd h9 (by omega))
  refine lv_iinc (v := iI (2)) (lv' := [(7, .int (iI (2))), (6, .int (iI (1))), (5, .int (iI (12))), (4, .int (iI (1))), (3, .int (iI (2))), (2, .int (iI (2))), (1, .int (iI (19))), (0, .ref y0)]) hx hb dL_ends_295 hl (k := 0) rfl (by decide) (by decide) rfl (fun ls hl => ?_)
  refine lv_goto (tgt := 264) hx hb dL_ends_298 (by decide) ?_
  refine lv_iload hx hb dL_ends_264 (lv_at hl 0 rfl) ?_
  refine lv_iload_n hx hb dL_ends_266 rfl (lv_at hl 6 rfl) ?_
  refine r_bipush hx hb dL_ends_267 (by decide) ?_
  refine r_icmp_ge (tgt := 276) hx hb dL_ends_269 (by decide) (by unfold rI; decide) (by unfold rI; decide) (fun h269 => ?_) (fun h9 => absurd h9 (by omega))
  refine r_iconst hx hb dL_ends_276 ?_
  refine r_icmp_ge (tgt := 301) hx hb dL_ends_277 (by decide) (by unfold rI; decide) (by unfold rI; decide) (fun h277 => ?_) (fun h9 => absurd h9 (by omega))
  refine lv_iinc (v := iI (20)) (lv' := [(1, .int (iI (20))), (7, .int (iI (2))), (6, .int (iI (1))), (5, .int (iI (12))), (4, .int (iI (1))), (3, .int (iI (2))), (2, .int (iI (2))), (0, .ref y0)]) hx hb dL_ends_301 hl (k := 6) rfl (by decide) (by decide) rfl (fun ls hl => ?_)
  refine lv_goto (tgt := 10) hx hb dL_ends_304 (by decide) ?_
  exact sg_L_ends_21 S hst hR hRc hE hA y0 y2 b pq cq  hret hP hD hS hl
set_option maxHeartbeats 4000000 in
set_option maxRecDepth 100000 in
theorem sg_L_ends_19 {p : Program} {l : Launch} {e : Env} {R : Room} {s : State} {mt : MethodId} {args : Array Value} {below : List Frame} {meth : Method} {c : Code} {H0 : Heap} {Q : State → Prop} {A : Nat → Prop} {D : va_G} {cI cL : ClassId} {tw : Nat} (S : CallFix p mt c cL_ends 8 s args wsL_ends RL) (hst : l.stackTraces = false) (hR : 15 ≤ R.frames ∧ 377 ≤ R.locals) (hRc : 527 ≤ R.cells ∧ 3296 ≤ R.slots) (hE : EV D cI cL tw A s H0) (hA : ∀ q : Nat, H0.size ≤ q → A q) (y0 : Nat) (y2 : Nat) (b : Nat) (pq : Nat) (cq : Nat)  (hret : ∀ (z : Int) (u : Unit) (pc : Nat) (ls : Array Slot) (H : Heap) (locs : List Loc) (cells slots : Nat), decode cL_ends pc = .ok (.ireturn, 1) → (z = 1) → va_P D vwCl [] H → va_D A [] → va_S A H0 H locs → cells ≤ 527 → slots ≤ 3296 → W p l e R s mt args below meth c H locs cells slots Q (F0 mt pc ls [.int (iI z)])) {H : Heap} {locs : List Loc} {ls : Array Slot} (hP : va_P D vwCl [(y0, .inr (1, [.ref b, .ref y2, .int (iI (0)), .int (iI (0)), .int (iI (0)), .int (iI (4))])), (y2, .inl (cI, 4, .inl (aI sC_0))), (b, .inr (0, [.ref pq, .ref cq])), (pq, .inl (cI, 16, .inl (aI sP_74))), (cq, .inl (cI, 136, .inl (aI (cnt sP_74))))] H) (hD : va_D A [(y0, .inr (1, [.ref b, .ref y2, .int (iI (0)), .int (iI (0)), .int (iI (0)), .int (iI (4))])), (y2, .inl (cI, 4, .inl (aI sC_0))), (b, .inr (0, [.ref pq, .ref cq])), (pq, .inl (cI, 16, .inl (aI sP_74))), (cq, .inl (cI, 136, .inl (aI (cnt sP_74))))]) (hS : va_S A H0 H locs) (hl : lv_has ls 8 [(1, .int (iI (18))), (7, .int (iI (2))), (6, .int (iI (1))), (5, .int (iI (14))), (4, .int (iI (1))), (3, .int (iI (2))), (2, .int (iI (1))), (0, .ref y0)]) : W p l e R s mt args below meth c H locs 281 1820 Q (F0 mt 10 ls []) := by
  obtain ⟨hx, hb, hml, hown, hts⟩ := id S
  refine lv_iload_n hx hb dL_ends_10 rfl (lv_at hl 0 rfl) ?_
  refine r_bipush hx hb dL_ends_11 (by decide) ?_
  refine r_icmp_ge (tgt := 307) hx hb dL_ends_13 (by decide) (by unfold rI; decide) (by unfold rI; decide) (fun h9 => absurd h9 (by omega)) (fun h13 => ?_)
  refine lv_iload_n hx hb dL_ends_16 rfl (lv_at hl 0 rfl) ?_
  refine r_iconst hx hb dL_ends_17 ?_
  refine r_idiv hx hb dL_ends_18 (by omega) (by omega) ?_
  refine r_top (6) (by decide) ?_
  refine r_iconst hx hb dL_ends_19 ?_
  refine r_irem hx hb dL_ends_20 (by omega) (by omega) ?_
  refine r_top (2) (by decide) ?_
  refine lv_istore_n (lv' := [(2, .int (iI (2))), (1, .int (iI (18))), (7, .int (iI (2))), (6, .int (iI (1))), (5, .int (iI (14))), (4, .int (iI (1))), (3, .int (iI (2))), (0, .ref y0)]) hx hb dL_ends_21 rfl hl (by decide) rfl (fun ls hl => ?_)
  refine lv_iload_n hx hb dL_ends_22 rfl (lv_at hl 1 rfl) ?_
  refine r_bipush hx hb dL_ends_23 (by decide) ?_
  refine r_icmp_ge (tgt := 32) hx hb dL_ends_25 (by decide) (by unfold rI; decide) (by unfold rI; decide) (fun h25 => ?_) (fun h9 => absurd h9 (by omega))
  refine lv_iload_n hx hb dL_ends_32 rfl (lv_at hl 1 rfl) ?_
  refine r_iconst hx hb dL_ends_33 ?_
  refine r_irem hx hb dL_ends_34 (by omega) (by omega) ?_
  refine r_top (0) (by decide) ?_
  refine r_iconst hx hb dL_ends_35 ?_
  refine r_imul hx hb dL_ends_36 ?_
  refine r_top (0) (by decide) ?_
  refine lv_istore_n (lv' := [(3, .int (iI (0))), (2, .int (iI (2))), (1, .int (iI (18))), (7, .int (iI (2))), (6, .int (iI (1))), (5, .int (iI (14))), (4, .int (iI (1))), (0, .ref y0)]) hx hb dL_ends_37 rfl hl (by decide) rfl (fun ls hl => ?_)
  refine lv_aload_n hx hb dL_ends_38 rfl (lv_at hl 7 rfl) ?_
  refine q_RO (As := []) (rest := []) S (c_X1_onTurn l D cI cL tw (y0) (y2) (b) (pq) (cq) (0) (0) (4) (0) (sP_74) (sC_0) (hb_74) (by omega) (by omega) (by omega) (by omega)) (0) (fun z h => h) gL_ends_X1_onTurn rfl rfl rfl ⟨rfl, f_X1_onTurn⟩ hR (Nat.le_of_ble_eq_true rfl) (Nat.le_of_ble_eq_true rfl) (hE.kept hS.2.1) hP [0, 1, 2, 3, 4] rfl 0 rfl rfl rfl hl.1 rfl (Nat.le_of_ble_eq_true rfl) dL_ends_39 ⟨Nat.le_trans (Nat.le_of_ble_eq_true rfl) hRc.1, Nat.le_trans (Nat.le_of_ble_eq_true rfl) hRc.2⟩ ?_
  refine lv_iload_n hx hb dL_ends_42 rfl (lv_at hl 0 rfl) ?_
  refine r_icmp_ne (tgt := 87) hx hb dL_ends_43 (by decide) (by unfold rI; decide) (by unfold rI; decide) (fun h9 => absurd h9 (by omega)) (fun h43 => ?_)
  refine lv_aload_n hx hb dL_ends_46 rfl (lv_at hl 7 rfl) ?_
  refine q_RO (As := []) (rest := []) S (c_X1_mover l D cI cL tw (y0) (y2) (b) (pq) (cq) (0) (0) (4) (0) (sP_74) (sC_0) (hb_74) (by omega) (by omega) (by omega) (by omega)) (2) (fun z h => h.trans fq_297) gL_ends_X1_mover rfl rfl rfl ⟨rfl, f_X1_mover⟩ hR (Nat.le_of_ble_eq_true rfl) (Nat.le_of_ble_eq_true rfl) (hE.kept hS.2.1) hP [0, 1, 2, 3, 4] rfl 0 rfl rfl rfl hl.1 rfl (Nat.le_of_ble_eq_true rfl) dL_ends_47 ⟨Nat.le_trans (Nat.le_of_ble_eq_true rfl) hRc.1, Nat.le_trans (Nat.le_of_ble_eq_true rfl) hRc.2⟩ ?_
  refine lv_iload_n hx hb dL_ends_50 rfl (lv_at hl 2 rfl) ?_
  refine r_bipush hx hb dL_ends_51 (by decide) ?_
  refine r_icmp_ge (tgt := 60) hx hb dL_ends_53 (by decide) (by unfold rI; decide) (by unfold rI; decide) (fun h53 => ?_) (fun h9 => absurd h9 (by omega))
  refine r_iconst hx hb dL_ends_60 ?_
  refine r_icmp_ne (tgt := 87) hx hb dL_ends_61 (by decide) (by unfold rI; decide) (by unfold rI; decide) (fun h9 => absurd h9 (by omega)) (fun h61 => ?_)
  refine lv_aload_n hx hb dL_ends_64 rfl (lv_at hl 7 rfl) ?_
  refine lv_iload_n hx hb dL_ends_65 rfl (lv_at hl 2 rfl) ?_
  refine r_bipush hx hb dL_ends_66 (by decide) ?_
  refine r_icmp_ge (tgt := 75) hx hb dL_ends_68 (by decide) (by unfold rI; decide) (by unfold rI; decide) (fun h68 => ?_) (fun h9 => absurd h9 (by omega))
  refine r_iconst hx hb dL_ends_75 ?_
  refine q_Xi (As := [.int (iI (2))]) (rest := []) S (c_X1_home l hst D cI cL tw (y0) (y2) (b) (pq) (cq) (0) (0) (4) (0) (sP_74) (sC_0) (2) (hb_74) (by omega) (by omega) (by omega) (by omega) (by omega)) (2) (fun z h => h.2.2.trans fq_298) (fun E h => by (try dsimp only at h); first | (rcases h with ⟨_, h⟩ | ⟨_, h⟩ <;> omega) | (obtain ⟨_, h⟩ := h; omega)) gL_ends_X1_home rfl rfl rfl ⟨rfl, f_X1_home⟩ hR (Nat.le_of_ble_eq_true rfl) (Nat.le_of_ble_eq_true rfl) (hE.kept hS.2.1) hP hS hA [0, 1, 2, 3, 4] rfl 0 rfl rfl rfl hl.1 rfl (Nat.le_of_ble_eq_true rfl) dL_ends_76 ⟨Nat.le_trans (Nat.le_of_ble_eq_true rfl) hRc.1, Nat.le_trans (Nat.le_of_ble_eq_true rfl) hRc.2⟩ (fun H locs hP hS => ?_)
  refine lv_iload_n hx hb dL_ends_79 rfl (lv_at hl 1 rfl) ?_
  refine r_icmp_ne (tgt := 87) hx hb dL_ends_80 (by decide) (by unfold rI; decide) (by unfold rI; decide) (fun h9 => absurd h9 (by omega)) (fun h80 => ?_)
  refine r_iconst hx hb dL_ends_83 ?_
  refine lv_goto (tgt := 88) hx hb dL_ends_84 (by decide) ?_
  refine lv_istore (lv' := [(4, .int (iI (1))), (3, .int (iI (0))), (2, .int (iI (2))), (1, .int (iI (18))), (7, .int (iI (2))), (6, .int (iI (1))), (5, .int (iI (14))), (0, .ref y0)]) hx hb dL_ends_88 hl (by decide) rfl (fun ls hl => ?_)
  refine r_bipush hx hb dL_ends_90 (by decide) ?_
  refine r_iconst hx hb dL_ends_92 ?_
  refine lv_iload_n hx hb dL_ends_93 rfl (lv_at hl 2 rfl) ?_
  refine r_ishl hx hb (z := 4) dL_ends_94 (by decide) ?_
  refine r_isub hx hb dL_ends_95 ?_
  refine r_top (11) (by decide) ?_
  refine r_iconst hx hb dL_ends_96 ?_
  refine r_iadd hx hb dL_ends_97 ?_
  refine r_top (12) (by decide) ?_
  refine lv_istore (lv' := [(5, .int (iI (12))), (4, .int (iI (1))), (3, .int (iI (0))), (2, .int (iI (2))), (1, .int (iI (18))), (7, .int (iI (2))), (6, .int (iI (1))), (0, .ref y0)]) hx hb dL_ends_98 hl (by decide) rfl (fun ls hl => ?_)
  refine lv_iload_n hx hb dL_ends_100 rfl (lv_at hl 4 rfl) ?_
  refine r_iconst hx hb dL_ends_101 ?_
  refine r_irem hx hb dL_ends_102 (by omega) (by omega) ?_
  refine r_top (0) (by decide) ?_
  refine r_if_ne (tgt := 154) hx hb dL_ends_103 (by decide) (by unfold rI; decide) (fun h9 => absurd h9 (by omega)) (fun h103 => ?_)
  refine lv_aload_n hx hb dL_ends_106 rfl (lv_at hl 7 rfl) ?_
  refine r_bipush hx hb dL_ends_107 (by decide) ?_
  refine lv_iload hx hb dL_ends_109 (lv_at hl 0 rfl) ?_
  refine lv_iload_n hx hb dL_ends_111 rfl (lv_at hl 3 rfl) ?_
  refine r_iconst hx hb dL_ends_112 ?_
  refine q_LM (As := [.ref y0, .int (iI (6)), .int (iI (12)), .int (iI (2)), .int (iI (1))]) (rest := []) (wr := []) S (c_L_goes l hst D cI cL tw (y0) (y2) (b) (pq) (cq) (0) (4) (0) (sP_74) (sC_0) (6) (12) (2) (1) (0) (1) (0) (sP_75) (sC_0) (by omega) (by omega) (by omega) (fq_300)) (1) (()) (fun z u h => ⟨h, rfl⟩) gL_ends_L_goes rfl rfl rfl f_L_goes hR (Nat.le_of_ble_eq_true rfl) (Nat.le_of_ble_eq_true rfl) (hE.kept hS.2.1) hP hD hS hA [0, 1, 2, 3, 4] [] rfl rfl (by decide) rfl (by decide) (by decide) rfl hl.1 rfl (Nat.le_of_ble_eq_true rfl) dL_ends_113 ⟨Nat.le_trans (Nat.le_of_ble_eq_true rfl) hRc.1, Nat.le_trans (Nat.le_of_ble_eq_true rfl) hRc.2⟩ (fun H locs hP hD hS => ?_)
  have hP : va_P D vwCl [(y0, .inr (1, [.ref b, .ref y2, .int (iI (0)), .int (iI (1)), .int (iI (0)), .int (iI (6))])), (y2, .inl (cI, 4, .inl (aI sC_0))), (b, .inr (0, [.ref pq, .ref cq])), (pq, .inl (cI, 16, .inl (aI sP_75))), (cq, .inl (cI, 136, .inl (aI (cnt sP_75))))] H := hP
  have hD : va_D A [(y0, .inr (1, [.ref b, .ref y2, .int (iI (0)), .int (iI (1)), .int (iI (0)), .int (iI (6))])), (y2, .inl (cI, 4, .inl (aI sC_0))), (b, .inr (0, [.ref pq, .ref cq])), (pq, .inl (cI, 16, .inl (aI sP_75))), (cq, .inl (cI, 136, .inl (aI (cnt sP_75))))] := hD
  refine r_if_eq (tgt := 150) hx hb dL_ends_116 (by decide) (by unfold rI; decide) (fun h9 => absurd h9 (by omega)) (fun h116 => ?_)
  refine lv_aload_n hx hb dL_ends_119 rfl (lv_at hl 7 rfl) ?_
  refine r_iconst hx hb dL_ends_120 ?_
  refine lv_iload hx hb dL_ends_121 (lv_at hl 0 rfl) ?_
  refine lv_iload_n hx hb dL_ends_123 rfl (lv_at hl 3 rfl) ?_
  refine r_bipush hx hb dL_ends_124 (by decide) ?_
  refine q_LM (As := [.ref y0, .int (iI (0)), .int (iI (12)), .int (iI (2)), .int (iI (26))]) (rest := []) (wr := []) S (c_L_goes l hst D cI cL tw (y0) (y2) (b) (pq) (cq) (0) (6) (1) (sP_75) (sC_0) (0) (12) (2) (26) (0) (2) (0) (sP_76) (sC_0) (by omega) (by omega) (by omega) (fq_302)) (1) (()) (fun z u h => ⟨h, rfl⟩) gL_ends_L_goes rfl rfl rfl f_L_goes hR (Nat.le_of_ble_eq_true rfl) (Nat.le_of_ble_eq_true rfl) (hE.kept hS.2.1) hP hD hS hA [0, 1, 2, 3, 4] [] rfl rfl (by decide) rfl (by decide) (by decide) rfl hl.1 rfl (Nat.le_of_ble_eq_true rfl) dL_ends_126 ⟨Nat.le_trans (Nat.le_of_ble_eq_true rfl) hRc.1, Nat.le_trans (Nat.le_of_ble_eq_true rfl) hRc.2⟩ (fun H locs hP hD hS => ?_)
  have hP : va_P D vwCl [(y0, .inr (1, [.ref b, .ref y2, .int (iI (0)), .int (iI (2)), .int (iI (0)), .int (iI (0))])), (y2, .inl (cI, 4, .inl (aI sC_0))), (b, .inr (0, [.ref pq, .ref cq])), (pq, .inl (cI, 16, .inl (aI sP_76))), (cq, .inl (cI, 136, .inl (aI (cnt sP_76))))] H := hP
  have hD : va_D A [(y0, .inr (1, [.ref b, .ref y2, .int (iI (0)), .int (iI (2)), .int (iI (0)), .int (iI (0))])), (y2, .inl (cI, 4, .inl (aI sC_0))), (b, .inr (0, [.ref pq, .ref cq])), (pq, .inl (cI, 16, .inl (aI sP_76))), (cq, .inl (cI, 136, .inl (aI (cnt sP_76))))] := hD
  refine r_if_eq (tgt := 150) hx hb dL_ends_129 (by decide) (by unfold rI; decide) (fun h9 => absurd h9 (by omega)) (fun h129 => ?_)
  refine lv_aload_n hx hb dL_ends_132 rfl (lv_at hl 7 rfl) ?_
  refine r_iconst hx hb dL_ends_133 ?_
  refine r_iconst hx hb dL_ends_134 ?_
  refine lv_iload_n hx hb dL_ends_135 rfl (lv_at hl 3 rfl) ?_
  refine r_ishl hx hb (z := 4) dL_ends_136 (by decide) ?_
  refine lv_iload_n hx hb dL_ends_137 rfl (lv_at hl 3 rfl) ?_
  refine r_bipush hx hb dL_ends_138 (by decide) ?_
  refine q_LM (As := [.ref y0, .int (iI (3)), .int (iI (4)), .int (iI (2)), .int (iI (29))]) (rest := []) (wr := []) S (c_L_goes l hst D cI cL tw (y0) (y2) (b) (pq) (cq) (0) (0) (2) (sP_76) (sC_0) (3) (4) (2) (29) (1) (0) (0) (sP_77) (sC_0) (by omega) (by omega) (by omega) (fq_304)) (1) (()) (fun z u h => ⟨h, rfl⟩) gL_ends_L_goes rfl rfl rfl f_L_goes hR (Nat.le_of_ble_eq_true rfl) (Nat.le_of_ble_eq_true rfl) (hE.kept hS.2.1) hP hD hS hA [0, 1, 2, 3, 4] [] rfl rfl (by decide) rfl (by decide) (by decide) rfl hl.1 rfl (Nat.le_of_ble_eq_true rfl) dL_ends_140 ⟨Nat.le_trans (Nat.le_of_ble_eq_true rfl) hRc.1, Nat.le_trans (Nat.le_of_ble_eq_true rfl) hRc.2⟩ (fun H locs hP hD hS => ?_)
  have hP : va_P D vwCl [(y0, .inr (1, [.ref b, .ref y2, .int (iI (1)), .int (iI (0)), .int (iI (0)), .int (iI (3))])), (y2, .inl (cI, 4, .inl (aI sC_0))), (b, .inr (0, [.ref pq, .ref cq])), (pq, .inl (cI, 16, .inl (aI sP_77))), (cq, .inl (cI, 136, .inl (aI (cnt sP_77))))] H := hP
  have hD : va_D A [(y0, .inr (1, [.ref b, .ref y2, .int (iI (1)), .int (iI (0)), .int (iI (0)), .int (iI (3))])), (y2, .inl (cI, 4, .inl (aI sC_0))), (b, .inr (0, [.ref pq, .ref cq])), (pq, .inl (cI, 16, .inl (aI sP_77))), (cq, .inl (cI, 136, .inl (aI (cnt sP_77))))] := hD
  refine r_if_eq (tgt := 150) hx hb dL_ends_143 (by decide) (by unfold rI; decide) (fun h9 => absurd h9 (by omega)) (fun h143 => ?_)
  refine r_iconst hx hb dL_ends_146 ?_
  refine lv_goto (tgt := 238) hx hb dL_ends_147 (by decide) ?_
  refine lv_istore (lv' := [(6, .int (iI (1))), (5, .int (iI (12))), (4, .int (iI (1))), (3, .int (iI (0))), (2, .int (iI (2))), (1, .int (iI (18))), (7, .int (iI (2))), (0, .ref y0)]) hx hb dL_ends_238 hl (by decide) rfl (fun ls hl => ?_)
  refine lv_iload hx hb dL_ends_240 (lv_at hl 2 rfl) ?_
  refine r_if_eq (tgt := 250) hx hb dL_ends_242 (by decide) (by unfold rI; decide) (fun h9 => absurd h9 (by omega)) (fun h242 => ?_)
  refine lv_iload hx hb dL_ends_245 (lv_at hl 0 rfl) ?_
  refine r_if_ne (tgt := 252) hx hb dL_ends_247 (by decide) (by unfold rI; decide) (fun h247 => ?_) (fun h9 => absurd h9 (by omega))
  refine lv_iload_n hx hb dL_ends_252 rfl (lv_at hl 5 rfl) ?_
  refine r_bipush hx hb dL_ends_253 (by decide) ?_
  refine r_icmp_ne (tgt := 261) hx hb dL_ends_255 (by decide) (by unfold rI; decide) (by unfold rI; decide) (fun h255 => ?_) (fun h9 => absurd h9 (by omega))
  refine r_iconst hx hb dL_ends_261 ?_
  refine lv_istore (lv' := [(7, .int (iI (1))), (6, .int (iI (1))), (5, .int (iI (12))), (4, .int (iI (1))), (3, .int (iI (0))), (2, .int (iI (2))), (1, .int (iI (18))), (0, .ref y0)]) hx hb dL_ends_262 hl (by decide) rfl (fun ls hl => ?_)
  refine lv_iload hx hb dL_ends_264 (lv_at hl 0 rfl) ?_
  refine lv_iload_n hx hb dL_ends_266 rfl (lv_at hl 6 rfl) ?_
  refine r_bipush hx hb dL_ends_267 (by decide) ?_
  refine r_icmp_ge (tgt := 276) hx hb dL_ends_269 (by decide) (by unfold rI; decide) (by unfold rI; decide) (fun h269 => ?_) (fun h9 => absurd h9 (by omega))
  refine r_iconst hx hb dL_ends_276 ?_
  refine r_icmp_ge (tgt := 301) hx hb dL_ends_277 (by decide) (by unfold rI; decide) (by unfold rI; decide) (fun h9 => absurd h9 (by omega)) (fun h277 => ?_)
  refine lv_aload_n hx hb dL_ends_280 rfl (lv_at hl 7 rfl) ?_
  refine lv_iload_n hx hb dL_ends_281 rfl (lv_at hl 4 rfl) ?_
  refine lv_iload hx hb dL_ends_282 (lv_at hl 0 rfl) ?_
  refine r_iadd hx hb dL_ends_284 ?_
  refine r_top (1) (by decide) ?_
  refine r_iconst hx hb dL_ends_285 ?_
  refine r_irem hx hb dL_ends_286 (by omega) (by omega) ?_
  refine r_top (1) (by decide) ?_
  refine q_LM (As := [.ref y0, .int (iI (1))]) (rest := []) (wr := []) S (c_L_loses l hst D cI cL tw (y0) (y2) (b) (pq) (cq) (1) (3) (0) (sP_77) (sC_0) (2) (hb_77) (by omega) (by omega) (by omega) (fq_305) (by omega)) (1) (()) (fun z u h => ⟨h, rfl⟩) gL_ends_L_loses rfl rfl rfl f_L_loses hR (Nat.le_of_ble_eq_true rfl) (Nat.le_of_ble_eq_true rfl) (hE.kept hS.2.1) hP hD hS hA [0, 1, 2, 3, 4] [] rfl rfl (by decide) rfl (by decide) (by decide) rfl hl.1 rfl (Nat.le_of_ble_eq_true rfl) dL_ends_287 ⟨Nat.le_trans (Nat.le_of_ble_eq_true rfl) hRc.1, Nat.le_trans (Nat.le_of_ble_eq_true rfl) hRc.2⟩ (fun H locs hP hD hS => ?_)
  have hP : va_P D vwCl [(y0, .inr (1, [.ref b, .ref y2, .int (iI (2)), .int (iI (0)), .int (iI (0)), .int (iI (3))])), (y2, .inl (cI, 4, .inl (aI sC_0))), (b, .inr (0, [.ref pq, .ref cq])), (pq, .inl (cI, 16, .inl (aI sP_77))), (cq, .inl (cI, 136, .inl (aI (cnt sP_77))))] H := hP
  have hD : va_D A [(y0, .inr (1, [.ref b, .ref y2, .int (iI (2)), .int (iI (0)), .int (iI (0)), .int (iI (3))])), (y2, .inl (cI, 4, .inl (aI sC_0))), (b, .inr (0, [.ref pq, .ref cq])), (pq, .inl (cI, 16, .inl (aI sP_77))), (cq, .inl (cI, 136, .inl (aI (cnt sP_77))))] := hD
  refine r_if_ne (tgt := 295) hx hb dL_ends_290 (by decide) (by unfold rI; decide) (fun h290 => ?_) (fun h9 => absurd h9 (by omega))
  refine lv_iinc (v := iI (2)) (lv' := [(7, .int (iI (2))), (6, .int (iI (1))), (5, .int (iI (12))), (4, .int (iI (1))), (3, .int (iI (0))), (2, .int (iI (2))), (1, .int (iI (18))), (0, .ref y0)]) hx hb dL_ends_295 hl (k := 0) rfl (by decide) (by decide) rfl (fun ls hl => ?_)
  refine lv_goto (tgt := 264) hx hb dL_ends_298 (by decide) ?_
  refine lv_iload hx hb dL_ends_264 (lv_at hl 0 rfl) ?_
  refine lv_iload_n hx hb dL_ends_266 rfl (lv_at hl 6 rfl) ?_
  refine r_bipush hx hb dL_ends_267 (by decide) ?_
  refine r_icmp_ge (tgt := 276) hx hb dL_ends_269 (by decide) (by unfold rI; decide) (by unfold rI; decide) (fun h269 => ?_) (fun h9 => absurd h9 (by omega))
  refine r_iconst hx hb dL_ends_276 ?_
  refine r_icmp_ge (tgt := 301) hx hb dL_ends_277 (by decide) (by unfold rI; decide) (by unfold rI; decide) (fun h277 => ?_) (fun h9 => absurd h9 (by omega))
  refine lv_iinc (v := iI (19)) (lv' := [(1, .int (iI (19))), (7, .int (iI (2))), (6, .int (iI (1))), (5, .int (iI (12))), (4, .int (iI (1))), (3, .int (iI (0))), (2, .int (iI (2))), (0, .ref y0)]) hx hb dL_ends_301 hl (k := 6) rfl (by decide) (by decide) rfl (fun ls hl => ?_)
  refine lv_goto (tgt := 10) hx hb dL_ends_304 (by decide) ?_
  exact sg_L_ends_20 S hst hR hRc hE hA y0 y2 b pq cq  hret hP hD hS hl
set_option maxHeartbeats 4000000 in
set_option maxRecDepth 100000 in
theorem sg_L_ends_18 {p : Program} {l : Launch} {e : Env} {R : Room} {s : State} {mt : MethodId} {args : Array Value} {below : List Frame} {meth : Method} {c : Code} {H0 : Heap} {Q : State → Prop} {A : Nat → Prop} {D : va_G} {cI cL : ClassId} {tw : Nat} (S : CallFix p mt c cL_ends 8 s args wsL_ends RL) (hst : l.stackTraces = false) (hR : 15 ≤ R.frames ∧ 377 ≤ R.locals) (hRc : 527 ≤ R.cells ∧ 3296 ≤ R.slots) (hE : EV D cI cL tw A s H0) (hA : ∀ q : Nat, H0.size ≤ q → A q) (y0 : Nat) (y2 : Nat) (b : Nat) (pq : Nat) (cq : Nat)  (hret : ∀ (z : Int) (u : Unit) (pc : Nat) (ls : Array Slot) (H : Heap) (locs : List Loc) (cells slots : Nat), decode cL_ends pc = .ok (.ireturn, 1) → (z = 1) → va_P D vwCl [] H → va_D A [] → va_S A H0 H locs → cells ≤ 527 → slots ≤ 3296 → W p l e R s mt args below meth c H locs cells slots Q (F0 mt pc ls [.int (iI z)])) {H : Heap} {locs : List Loc} {ls : Array Slot} (hP : va_P D vwCl [(y0, .inr (1, [.ref b, .ref y2, .int (iI (2)), .int (iI (0)), .int (iI (0)), .int (iI (4))])), (y2, .inl (cI, 4, .inl (aI sC_0))), (b, .inr (0, [.ref pq, .ref cq])), (pq, .inl (cI, 16, .inl (aI sP_73))), (cq, .inl (cI, 136, .inl (aI (cnt sP_73))))] H) (hD : va_D A [(y0, .inr (1, [.ref b, .ref y2, .int (iI (2)), .int (iI (0)), .int (iI (0)), .int (iI (4))])), (y2, .inl (cI, 4, .inl (aI sC_0))), (b, .inr (0, [.ref pq, .ref cq])), (pq, .inl (cI, 16, .inl (aI sP_73))), (cq, .inl (cI, 136, .inl (aI (cnt sP_73))))]) (hS : va_S A H0 H locs) (hl : lv_has ls 8 [(1, .int (iI (17))), (7, .int (iI (2))), (6, .int (iI (1))), (5, .int (iI (14))), (4, .int (iI (1))), (3, .int (iI (0))), (2, .int (iI (1))), (0, .ref y0)]) : W p l e R s mt args below meth c H locs 273 1772 Q (F0 mt 10 ls []) := by
  obtain ⟨hx, hb, hml, hown, hts⟩ := id S
  refine lv_iload_n hx hb dL_ends_10 rfl (lv_at hl 0 rfl) ?_
  refine r_bipush hx hb dL_ends_11 (by decide) ?_
  refine r_icmp_ge (tgt := 307) hx hb dL_ends_13 (by decide) (by unfold rI; decide) (by unfold rI; decide) (fun h9 => absurd h9 (by omega)) (fun h13 => ?_)
  refine lv_iload_n hx hb dL_ends_16 rfl (lv_at hl 0 rfl) ?_
  refine r_iconst hx hb dL_ends_17 ?_
  refine r_idiv hx hb dL_ends_18 (by omega) (by omega) ?_
  refine r_top (5) (by decide) ?_
  refine r_iconst hx hb dL_ends_19 ?_
  refine r_irem hx hb dL_ends_20 (by omega) (by omega) ?_
  refine r_top (1) (by decide) ?_
  refine lv_istore_n (lv' := [(2, .int (iI (1))), (1, .int (iI (17))), (7, .int (iI (2))), (6, .int (iI (1))), (5, .int (iI (14))), (4, .int (iI (1))), (3, .int (iI (0))), (0, .ref y0)]) hx hb dL_ends_21 rfl hl (by decide) rfl (fun ls hl => ?_)
  refine lv_iload_n hx hb dL_ends_22 rfl (lv_at hl 1 rfl) ?_
  refine r_bipush hx hb dL_ends_23 (by decide) ?_
  refine r_icmp_ge (tgt := 32) hx hb dL_ends_25 (by decide) (by unfold rI; decide) (by unfold rI; decide) (fun h25 => ?_) (fun h9 => absurd h9 (by omega))
  refine lv_iload_n hx hb dL_ends_32 rfl (lv_at hl 1 rfl) ?_
  refine r_iconst hx hb dL_ends_33 ?_
  refine r_irem hx hb dL_ends_34 (by omega) (by omega) ?_
  refine r_top (1) (by decide) ?_
  refine r_iconst hx hb dL_ends_35 ?_
  refine r_imul hx hb dL_ends_36 ?_
  refine r_top (2) (by decide) ?_
  refine lv_istore_n (lv' := [(3, .int (iI (2))), (2, .int (iI (1))), (1, .int (iI (17))), (7, .int (iI (2))), (6, .int (iI (1))), (5, .int (iI (14))), (4, .int (iI (1))), (0, .ref y0)]) hx hb dL_ends_37 rfl hl (by decide) rfl (fun ls hl => ?_)
  refine lv_aload_n hx hb dL_ends_38 rfl (lv_at hl 7 rfl) ?_
  refine q_RO (As := []) (rest := []) S (c_X1_onTurn l D cI cL tw (y0) (y2) (b) (pq) (cq) (2) (0) (4) (0) (sP_73) (sC_0) (hb_73) (by omega) (by omega) (by omega) (by omega)) (2) (fun z h => h) gL_ends_X1_onTurn rfl rfl rfl ⟨rfl, f_X1_onTurn⟩ hR (Nat.le_of_ble_eq_true rfl) (Nat.le_of_ble_eq_true rfl) (hE.kept hS.2.1) hP [0, 1, 2, 3, 4] rfl 0 rfl rfl rfl hl.1 rfl (Nat.le_of_ble_eq_true rfl) dL_ends_39 ⟨Nat.le_trans (Nat.le_of_ble_eq_true rfl) hRc.1, Nat.le_trans (Nat.le_of_ble_eq_true rfl) hRc.2⟩ ?_
  refine lv_iload_n hx hb dL_ends_42 rfl (lv_at hl 0 rfl) ?_
  refine r_icmp_ne (tgt := 87) hx hb dL_ends_43 (by decide) (by unfold rI; decide) (by unfold rI; decide) (fun h9 => absurd h9 (by omega)) (fun h43 => ?_)
  refine lv_aload_n hx hb dL_ends_46 rfl (lv_at hl 7 rfl) ?_
  refine q_RO (As := []) (rest := []) S (c_X1_mover l D cI cL tw (y0) (y2) (b) (pq) (cq) (2) (0) (4) (0) (sP_73) (sC_0) (hb_73) (by omega) (by omega) (by omega) (by omega)) (2) (fun z h => h.trans fq_291) gL_ends_X1_mover rfl rfl rfl ⟨rfl, f_X1_mover⟩ hR (Nat.le_of_ble_eq_true rfl) (Nat.le_of_ble_eq_true rfl) (hE.kept hS.2.1) hP [0, 1, 2, 3, 4] rfl 0 rfl rfl rfl hl.1 rfl (Nat.le_of_ble_eq_true rfl) dL_ends_47 ⟨Nat.le_trans (Nat.le_of_ble_eq_true rfl) hRc.1, Nat.le_trans (Nat.le_of_ble_eq_true rfl) hRc.2⟩ ?_
  refine lv_iload_n hx hb dL_ends_50 rfl (lv_at hl 2 rfl) ?_
  refine r_bipush hx hb dL_ends_51 (by decide) ?_
  refine r_icmp_ge (tgt := 60) hx hb dL_ends_53 (by decide) (by unfold rI; decide) (by unfold rI; decide) (fun h53 => ?_) (fun h9 => absurd h9 (by omega))
  refine r_iconst hx hb dL_ends_60 ?_
  refine r_icmp_ne (tgt := 87) hx hb dL_ends_61 (by decide) (by unfold rI; decide) (by unfold rI; decide) (fun h9 => absurd h9 (by omega)) (fun h61 => ?_)
  refine lv_aload_n hx hb dL_ends_64 rfl (lv_at hl 7 rfl) ?_
  refine lv_iload_n hx hb dL_ends_65 rfl (lv_at hl 2 rfl) ?_
  refine r_bipush hx hb dL_ends_66 (by decide) ?_
  refine r_icmp_ge (tgt := 75) hx hb dL_ends_68 (by decide) (by unfold rI; decide) (by unfold rI; decide) (fun h68 => ?_) (fun h9 => absurd h9 (by omega))
  refine r_iconst hx hb dL_ends_75 ?_
  refine q_Xi (As := [.int (iI (2))]) (rest := []) S (c_X1_home l hst D cI cL tw (y0) (y2) (b) (pq) (cq) (2) (0) (4) (0) (sP_73) (sC_0) (2) (hb_73) (by omega) (by omega) (by omega) (by omega) (by omega)) (1) (fun z h => h.2.2.trans fq_292) (fun E h => by (try dsimp only at h); first | (rcases h with ⟨_, h⟩ | ⟨_, h⟩ <;> omega) | (obtain ⟨_, h⟩ := h; omega)) gL_ends_X1_home rfl rfl rfl ⟨rfl, f_X1_home⟩ hR (Nat.le_of_ble_eq_true rfl) (Nat.le_of_ble_eq_true rfl) (hE.kept hS.2.1) hP hS hA [0, 1, 2, 3, 4] rfl 0 rfl rfl rfl hl.1 rfl (Nat.le_of_ble_eq_true rfl) dL_ends_76 ⟨Nat.le_trans (Nat.le_of_ble_eq_true rfl) hRc.1, Nat.le_trans (Nat.le_of_ble_eq_true rfl) hRc.2⟩ (fun H locs hP hS => ?_)
  refine lv_iload_n hx hb dL_ends_79 rfl (lv_at hl 1 rfl) ?_
  refine r_icmp_ne (tgt := 87) hx hb dL_ends_80 (by decide) (by unfold rI; decide) (by unfold rI; decide) (fun h9 => absurd h9 (by omega)) (fun h80 => ?_)
  refine r_iconst hx hb dL_ends_83 ?_
  refine lv_goto (tgt := 88) hx hb dL_ends_84 (by decide) ?_
  refine lv_istore (lv' := [(4, .int (iI (1))), (3, .int (iI (2))), (2, .int (iI (1))), (1, .int (iI (17))), (7, .int (iI (2))), (6, .int (iI (1))), (5, .int (iI (14))), (0, .ref y0)]) hx hb dL_ends_88 hl (by decide) rfl (fun ls hl => ?_)
  refine r_bipush hx hb dL_ends_90 (by decide) ?_
  refine r_iconst hx hb dL_ends_92 ?_
  refine lv_iload_n hx hb dL_ends_93 rfl (lv_at hl 2 rfl) ?_
  refine r_ishl hx hb (z := 2) dL_ends_94 (by decide) ?_
  refine r_isub hx hb dL_ends_95 ?_
  refine r_top (13) (by decide) ?_
  refine r_iconst hx hb dL_ends_96 ?_
  refine r_iadd hx hb dL_ends_97 ?_
  refine r_top (14) (by decide) ?_
  refine lv_istore (lv' := [(5, .int (iI (14))), (4, .int (iI (1))), (3, .int (iI (2))), (2, .int (iI (1))), (1, .int (iI (17))), (7, .int (iI (2))), (6, .int (iI (1))), (0, .ref y0)]) hx hb dL_ends_98 hl (by decide) rfl (fun ls hl => ?_)
  refine lv_iload_n hx hb dL_ends_100 rfl (lv_at hl 4 rfl) ?_
  refine r_iconst hx hb dL_ends_101 ?_
  refine r_irem hx hb dL_ends_102 (by omega) (by omega) ?_
  refine r_top (2) (by decide) ?_
  refine r_if_ne (tgt := 154) hx hb dL_ends_103 (by decide) (by unfold rI; decide) (fun h103 => ?_) (fun h9 => absurd h9 (by omega))
  refine lv_iload_n hx hb dL_ends_154 rfl (lv_at hl 4 rfl) ?_
  refine r_iconst hx hb dL_ends_155 ?_
  refine r_irem hx hb dL_ends_156 (by omega) (by omega) ?_
  refine r_top (2) (by decide) ?_
  refine r_iconst hx hb dL_ends_157 ?_
  refine r_icmp_ne (tgt := 209) hx hb dL_ends_158 (by decide) (by unfold rI; decide) (by unfold rI; decide) (fun h158 => ?_) (fun h9 => absurd h9 (by omega))
  refine lv_aload_n hx hb dL_ends_209 rfl (lv_at hl 7 rfl) ?_
  refine r_iconst hx hb dL_ends_210 ?_
  refine q_Xi (As := [.int (iI (2))]) (rest := []) S (c_X1_ways l hst D cI cL tw (y0) (y2) (b) (pq) (cq) (2) (0) (4) (0) (sP_73) (sC_0) (2) (hb_73) (by omega) (by omega) (by omega) (by omega) (by omega)) (15) (fun z h => h.2.2.2.trans fq_293) (fun E h => by (try dsimp only at h); first | (rcases h with ⟨_, h⟩ | ⟨_, h⟩ <;> omega) | (obtain ⟨_, h⟩ := h; omega)) gL_ends_X1_ways rfl rfl rfl ⟨rfl, f_X1_ways⟩ hR (Nat.le_of_ble_eq_true rfl) (Nat.le_of_ble_eq_true rfl) (hE.kept hS.2.1) hP hS hA [0, 1, 2, 3, 4] rfl 0 rfl rfl rfl hl.1 rfl (Nat.le_of_ble_eq_true rfl) dL_ends_211 ⟨Nat.le_trans (Nat.le_of_ble_eq_true rfl) hRc.1, Nat.le_trans (Nat.le_of_ble_eq_true rfl) hRc.2⟩ (fun H locs hP hS => ?_)
  refine r_bipush hx hb dL_ends_214 (by decide) ?_
  refine r_icmp_ne (tgt := 237) hx hb dL_ends_216 (by decide) (by unfold rI; decide) (by unfold rI; decide) (fun h9 => absurd h9 (by omega)) (fun h216 => ?_)
  refine lv_aload_n hx hb dL_ends_219 rfl (lv_at hl 7 rfl) ?_
  refine r_iconst hx hb dL_ends_220 ?_
  refine r_iconst hx hb dL_ends_221 ?_
  refine lv_iload_n hx hb dL_ends_222 rfl (lv_at hl 3 rfl) ?_
  refine r_ishl hx hb (z := 2) dL_ends_223 (by decide) ?_
  refine lv_iload_n hx hb dL_ends_224 rfl (lv_at hl 3 rfl) ?_
  refine r_bipush hx hb dL_ends_225 (by decide) ?_
  refine q_LM (As := [.ref y0, .int (iI (4)), .int (iI (2)), .int (iI (1)), .int (iI (72))]) (rest := []) (wr := []) S (c_L_goes l hst D cI cL tw (y0) (y2) (b) (pq) (cq) (2) (4) (0) (sP_73) (sC_0) (4) (2) (1) (72) (3) (0) (0) (sP_74) (sC_0) (by omega) (by omega) (by omega) (fq_295)) (1) (()) (fun z u h => ⟨h, rfl⟩) gL_ends_L_goes rfl rfl rfl f_L_goes hR (Nat.le_of_ble_eq_true rfl) (Nat.le_of_ble_eq_true rfl) (hE.kept hS.2.1) hP hD hS hA [0, 1, 2, 3, 4] [] rfl rfl (by decide) rfl (by decide) (by decide) rfl hl.1 rfl (Nat.le_of_ble_eq_true rfl) dL_ends_227 ⟨Nat.le_trans (Nat.le_of_ble_eq_true rfl) hRc.1, Nat.le_trans (Nat.le_of_ble_eq_true rfl) hRc.2⟩ (fun H locs hP hD hS => ?_)
  have hP : va_P D vwCl [(y0, .inr (1, [.ref b, .ref y2, .int (iI (3)), .int (iI (0)), .int (iI (0)), .int (iI (4))])), (y2, .inl (cI, 4, .inl (aI sC_0))), (b, .inr (0, [.ref pq, .ref cq])), (pq, .inl (cI, 16, .inl (aI sP_74))), (cq, .inl (cI, 136, .inl (aI (cnt sP_74))))] H := hP
  have hD : va_D A [(y0, .inr (1, [.ref b, .ref y2, .int (iI (3)), .int (iI (0)), .int (iI (0)), .int (iI (4))])), (y2, .inl (cI, 4, .inl (aI sC_0))), (b, .inr (0, [.ref pq, .ref cq])), (pq, .inl (cI, 16, .inl (aI sP_74))), (cq, .inl (cI, 136, .inl (aI (cnt sP_74))))] := hD
  refine r_if_eq (tgt := 237) hx hb dL_ends_230 (by decide) (by unfold rI; decide) (fun h9 => absurd h9 (by omega)) (fun h230 => ?_)
  refine r_iconst hx hb dL_ends_233 ?_
  refine lv_goto (tgt := 238) hx hb dL_ends_234 (by decide) ?_
  refine lv_istore (lv' := [(6, .int (iI (1))), (5, .int (iI (14))), (4, .int (iI (1))), (3, .int (iI (2))), (2, .int (iI (1))), (1, .int (iI (17))), (7, .int (iI (2))), (0, .ref y0)]) hx hb dL_ends_238 hl (by decide) rfl (fun ls hl => ?_)
  refine lv_iload hx hb dL_ends_240 (lv_at hl 2 rfl) ?_
  refine r_if_eq (tgt := 250) hx hb dL_ends_242 (by decide) (by unfold rI; decide) (fun h9 => absurd h9 (by omega)) (fun h242 => ?_)
  refine lv_iload hx hb dL_ends_245 (lv_at hl 0 rfl) ?_
  refine r_if_ne (tgt := 252) hx hb dL_ends_247 (by decide) (by unfold rI; decide) (fun h247 => ?_) (fun h9 => absurd h9 (by omega))
  refine lv_iload_n hx hb dL_ends_252 rfl (lv_at hl 5 rfl) ?_
  refine r_bipush hx hb dL_ends_253 (by decide) ?_
  refine r_icmp_ne (tgt := 261) hx hb dL_ends_255 (by decide) (by unfold rI; decide) (by unfold rI; decide) (fun h255 => ?_) (fun h9 => absurd h9 (by omega))
  refine r_iconst hx hb dL_ends_261 ?_
  refine lv_istore (lv' := [(7, .int (iI (1))), (6, .int (iI (1))), (5, .int (iI (14))), (4, .int (iI (1))), (3, .int (iI (2))), (2, .int (iI (1))), (1, .int (iI (17))), (0, .ref y0)]) hx hb dL_ends_262 hl (by decide) rfl (fun ls hl => ?_)
  refine lv_iload hx hb dL_ends_264 (lv_at hl 0 rfl) ?_
  refine lv_iload_n hx hb dL_ends_266 rfl (lv_at hl 6 rfl) ?_
  refine r_bipush hx hb dL_ends_267 (by decide) ?_
  refine r_icmp_ge (tgt := 276) hx hb dL_ends_269 (by decide) (by unfold rI; decide) (by unfold rI; decide) (fun h269 => ?_) (fun h9 => absurd h9 (by omega))
  refine r_iconst hx hb dL_ends_276 ?_
  refine r_icmp_ge (tgt := 301) hx hb dL_ends_277 (by decide) (by unfold rI; decide) (by unfold rI; decide) (fun h9 => absurd h9 (by omega)) (fun h277 => ?_)
  refine lv_aload_n hx hb dL_ends_280 rfl (lv_at hl 7 rfl) ?_
  refine lv_iload_n hx hb dL_ends_281 rfl (lv_at hl 4 rfl) ?_
  refine lv_iload hx hb dL_ends_282 (lv_at hl 0 rfl) ?_
  refine r_iadd hx hb dL_ends_284 ?_
  refine r_top (3) (by decide) ?_
  refine r_iconst hx hb dL_ends_285 ?_
  refine r_irem hx hb dL_ends_286 (by omega) (by omega) ?_
  refine r_top (3) (by decide) ?_
  refine q_LM (As := [.ref y0, .int (iI (3))]) (rest := []) (wr := []) S (c_L_loses l hst D cI cL tw (y0) (y2) (b) (pq) (cq) (3) (4) (0) (sP_74) (sC_0) (0) (hb_74) (by omega) (by omega) (by omega) (fq_296) (by omega)) (1) (()) (fun z u h => ⟨h, rfl⟩) gL_ends_L_loses rfl rfl rfl f_L_loses hR (Nat.le_of_ble_eq_true rfl) (Nat.le_of_ble_eq_true rfl) (hE.kept hS.2.1) hP hD hS hA [0, 1, 2, 3, 4] [] rfl rfl (by decide) rfl (by decide) (by decide) rfl hl.1 rfl (Nat.le_of_ble_eq_true rfl) dL_ends_287 ⟨Nat.le_trans (Nat.le_of_ble_eq_true rfl) hRc.1, Nat.le_trans (Nat.le_of_ble_eq_true rfl) hRc.2⟩ (fun H locs hP hD hS => ?_)
  have hP : va_P D vwCl [(y0, .inr (1, [.ref b, .ref y2, .int (iI (0)), .int (iI (0)), .int (iI (0)), .int (iI (4))])), (y2, .inl (cI, 4, .inl (aI sC_0))), (b, .inr (0, [.ref pq, .ref cq])), (pq, .inl (cI, 16, .inl (aI sP_74))), (cq, .inl (cI, 136, .inl (aI (cnt sP_74))))] H := hP
  have hD : va_D A [(y0, .inr (1, [.ref b, .ref y2, .int (iI (0)), .int (iI (0)), .int (iI (0)), .int (iI (4))])), (y2, .inl (cI, 4, .inl (aI sC_0))), (b, .inr (0, [.ref pq, .ref cq])), (pq, .inl (cI, 16, .inl (aI sP_74))), (cq, .inl (cI, 136, .inl (aI (cnt sP_74))))] := hD
  refine r_if_ne (tgt := 295) hx hb dL_ends_290 (by decide) (by unfold rI; decide) (fun h290 => ?_) (fun h9 => absurd h9 (by omega))
  refine lv_iinc (v := iI (2)) (lv' := [(7, .int (iI (2))), (6, .int (iI (1))), (5, .int (iI (14))), (4, .int (iI (1))), (3, .int (iI (2))), (2, .int (iI (1))), (1, .int (iI (17))), (0, .ref y0)]) hx hb dL_ends_295 hl (k := 0) rfl (by decide) (by decide) rfl (fun ls hl => ?_)
  refine lv_goto (tgt := 264) hx hb dL_ends_298 (by decide) ?_
  refine lv_iload hx hb dL_ends_264 (lv_at hl 0 rfl) ?_
  refine lv_iload_n hx hb dL_ends_266 rfl (lv_at hl 6 rfl) ?_
  refine r_bipush hx hb dL_ends_267 (by decide) ?_
  refine r_icmp_ge (tgt := 276) hx hb dL_ends_269 (by decide) (by unfold rI; decide) (by unfold rI; decide) (fun h269 => ?_) (fun h9 => absurd h9 (by omega))
  refine r_iconst hx hb dL_ends_276 ?_
  refine r_icmp_ge (tgt := 301) hx hb dL_ends_277 (by decide) (by unfold rI; decide) (by unfold rI; decide) (fun h277 => ?_) (fun h9 => absurd h9 (by omega))
  refine lv_iinc (v := iI (18)) (lv' := [(1, .int (iI (18))), (7, .int (iI (2))), (6, .int (iI (1))), (5, .int (iI (14))), (4, .int (iI (1))), (3, .int (iI (2))), (2, .int (iI (1))), (0, .ref y0)]) hx hb dL_ends_301 hl (k := 6) rfl (by decide) (by decide) rfl (fun ls hl => ?_)
  refine lv_goto (tgt := 10) hx hb dL_ends_304 (by decide) ?_
  exact sg_L_ends_19 S hst hR hRc hE hA y0 y2 b pq cq  hret hP hD hS hl
set_option maxHeartbeats 4000000 in
set_option maxRecDepth 100000 in
theorem sg_L_ends_17 {p : Program} {l : Launch} {e : Env} {R : Room} {s : State} {mt : MethodId} {args : Array Value} {below : List Frame} {meth : Method} {c : Code} {H0 : Heap} {Q : State → Prop} {A : Nat → Prop} {D : va_G} {cI cL : ClassId} {tw : Nat} (S : CallFix p mt c cL_ends 8 s args wsL_ends RL) (hst : l.stackTraces = false) (hR : 15 ≤ R.frames ∧ 377 ≤ R.locals) (hRc : 527 ≤ R.cells ∧ 3296 ≤ R.slots) (hE : EV D cI cL tw A s H0) (hA : ∀ q : Nat, H0.size ≤ q → A q) (y0 : Nat) (y2 : Nat) (b : Nat) (pq : Nat) (cq : Nat)  (hret : ∀ (z : Int) (u : Unit) (pc : Nat) (ls : Array Slot) (H : Heap) (locs : List Loc) (cells slots : Nat), decode cL_ends pc = .ok (.ireturn, 1) → (z = 1) → va_P D vwCl [] H → va_D A [] → va_S A H0 H locs → cells ≤ 527 → slots ≤ 3296 → W p l e R s mt args below meth c H locs cells slots Q (F0 mt pc ls [.int (iI z)])) {H : Heap} {locs : List Loc} {ls : Array Slot} (hP : va_P D vwCl [(y0, .inr (1, [.ref b, .ref y2, .int (iI (0)), .int (iI (0)), .int (iI (0)), .int (iI (3))])), (y2, .inl (cI, 4, .inl (aI sC_0))), (b, .inr (0, [.ref pq, .ref cq])), (pq, .inl (cI, 16, .inl (aI sP_70))), (cq, .inl (cI, 136, .inl (aI (cnt sP_70))))] H) (hD : va_D A [(y0, .inr (1, [.ref b, .ref y2, .int (iI (0)), .int (iI (0)), .int (iI (0)), .int (iI (3))])), (y2, .inl (cI, 4, .inl (aI sC_0))), (b, .inr (0, [.ref pq, .ref cq])), (pq, .inl (cI, 16, .inl (aI sP_70))), (cq, .inl (cI, 136, .inl (aI (cnt sP_70))))]) (hS : va_S A H0 H locs) (hl : lv_has ls 8 [(1, .int (iI (16))), (7, .int (iI (2))), (6, .int (iI (1))), (5, .int (iI (14))), (4, .int (iI (1))), (3, .int (iI (2))), (2, .int (iI (1))), (0, .ref y0)]) : W p l e R s mt args below meth c H locs 256 1670 Q (F0 mt 10 ls []) := by
  obtain ⟨hx, hb, hml, hown, hts⟩ := id S
  refine lv_iload_n hx hb dL_ends_10 rfl (lv_at hl 0 rfl) ?_
  refine r_bipush hx hb dL_ends_11 (by decide) ?_
  refine r_icmp_ge (tgt := 307) hx hb dL_ends_13 (by decide) (by unfold rI; decide) (by unfold rI; decide) (fun h9 => absurd h9 (by omega)) (fun h13 => ?_)
  refine lv_iload_n hx hb dL_ends_16 rfl (lv_at hl 0 rfl) ?_
  refine r_iconst hx hb dL_ends_17 ?_
  refine r_idiv hx hb dL_ends_18 (by omega) (by omega) ?_
  refine r_top (5) (by decide) ?_
  refine r_iconst hx hb dL_ends_19 ?_
  refine r_irem hx hb dL_ends_20 (by omega) (by omega) ?_
  refine r_top (1) (by decide) ?_
  refine lv_istore_n (lv' := [(2, .int (iI (1))), (1, .int (iI (16))), (7, .int (iI (2))), (6, .int (iI (1))), (5, .int (iI (14))), (4, .int (iI (1))), (3, .int (iI (2))), (0, .ref y0)]) hx hb dL_ends_21 rfl hl (by decide) rfl (fun ls hl => ?_)
  refine lv_iload_n hx hb dL_ends_22 rfl (lv_at hl 1 rfl) ?_
  refine r_bipush hx hb dL_ends_23 (by decide) ?_
  refine r_icmp_ge (tgt := 32) hx hb dL_ends_25 (by decide) (by unfold rI; decide) (by unfold rI; decide) (fun h25 => ?_) (fun h9 => absurd h9 (by omega))
  refine lv_iload_n hx hb dL_ends_32 rfl (lv_at hl 1 rfl) ?_
  refine r_iconst hx hb dL_ends_33 ?_
  refine r_irem hx hb dL_ends_34 (by omega) (by omega) ?_
  refine r_top (0) (by decide) ?_
  refine r_iconst hx hb dL_ends_35 ?_
  refine r_imul hx hb dL_ends_36 ?_
  refine r_top (0) (by decide) ?_
  refine lv_istore_n (lv' := [(3, .int (iI (0))), (2, .int (iI (1))), (1, .int (iI (16))), (7, .int (iI (2))), (6, .int (iI (1))), (5, .int (iI (14))), (4, .int (iI (1))), (0, .ref y0)]) hx hb dL_ends_37 rfl hl (by decide) rfl (fun ls hl => ?_)
  refine lv_aload_n hx hb dL_ends_38 rfl (lv_at hl 7 rfl) ?_
  refine q_RO (As := []) (rest := []) S (c_X1_onTurn l D cI cL tw (y0) (y2) (b) (pq) (cq) (0) (0) (3) (0) (sP_70) (sC_0) (hb_70) (by omega) (by omega) (by omega) (by omega)) (0) (fun z h => h) gL_ends_X1_onTurn rfl rfl rfl ⟨rfl, f_X1_onTurn⟩ hR (Nat.le_of_ble_eq_true rfl) (Nat.le_of_ble_eq_true rfl) (hE.kept hS.2.1) hP [0, 1, 2, 3, 4] rfl 0 rfl rfl rfl hl.1 rfl (Nat.le_of_ble_eq_true rfl) dL_ends_39 ⟨Nat.le_trans (Nat.le_of_ble_eq_true rfl) hRc.1, Nat.le_trans (Nat.le_of_ble_eq_true rfl) hRc.2⟩ ?_
  refine lv_iload_n hx hb dL_ends_42 rfl (lv_at hl 0 rfl) ?_
  refine r_icmp_ne (tgt := 87) hx hb dL_ends_43 (by decide) (by unfold rI; decide) (by unfold rI; decide) (fun h9 => absurd h9 (by omega)) (fun h43 => ?_)
  refine lv_aload_n hx hb dL_ends_46 rfl (lv_at hl 7 rfl) ?_
  refine q_RO (As := []) (rest := []) S (c_X1_mover l D cI cL tw (y0) (y2) (b) (pq) (cq) (0) (0) (3) (0) (sP_70) (sC_0) (hb_70) (by omega) (by omega) (by omega) (by omega)) (2) (fun z h => h.trans fq_282) gL_ends_X1_mover rfl rfl rfl ⟨rfl, f_X1_mover⟩ hR (Nat.le_of_ble_eq_true rfl) (Nat.le_of_ble_eq_true rfl) (hE.kept hS.2.1) hP [0, 1, 2, 3, 4] rfl 0 rfl rfl rfl hl.1 rfl (Nat.le_of_ble_eq_true rfl) dL_ends_47 ⟨Nat.le_trans (Nat.le_of_ble_eq_true rfl) hRc.1, Nat.le_trans (Nat.le_of_ble_eq_true rfl) hRc.2⟩ ?_
  refine lv_iload_n hx hb dL_ends_50 rfl (lv_at hl 2 rfl) ?_
  refine r_bipush hx hb dL_ends_51 (by decide) ?_
  refine r_icmp_ge (tgt := 60) hx hb dL_ends_53 (by decide) (by unfold rI; decide) (by unfold rI; decide) (fun h53 => ?_) (fun h9 => absurd h9 (by omega))
  refine r_iconst hx hb dL_ends_60 ?_
  refine r_icmp_ne (tgt := 87) hx hb dL_ends_61 (by decide) (by unfold rI; decide) (by unfold rI; decide) (fun h9 => absurd h9 (by omega)) (fun h61 => ?_)
  refine lv_aload_n hx hb dL_ends_64 rfl (lv_at hl 7 rfl) ?_
  refine lv_iload_n hx hb dL_ends_65 rfl (lv_at hl 2 rfl) ?_
  refine r_bipush hx hb dL_ends_66 (by decide) ?_
  refine r_icmp_ge (tgt := 75) hx hb dL_ends_68 (by decide) (by unfold rI; decide) (by unfold rI; decide) (fun h68 => ?_) (fun h9 => absurd h9 (by omega))
  refine r_iconst hx hb dL_ends_75 ?_
  refine q_Xi (As := [.int (iI (2))]) (rest := []) S (c_X1_home l hst D cI cL tw (y0) (y2) (b) (pq) (cq) (0) (0) (3) (0) (sP_70) (sC_0) (2) (hb_70) (by omega) (by omega) (by omega) (by omega) (by omega)) (1) (fun z h => h.2.2.trans fq_283) (fun E h => by (try dsimp only at h); first | (rcases h with ⟨_, h⟩ | ⟨_, h⟩ <;> omega) | (obtain ⟨_, h⟩ := h; omega)) gL_ends_X1_home rfl rfl rfl ⟨rfl, f_X1_home⟩ hR (Nat.le_of_ble_eq_true rfl) (Nat.le_of_ble_eq_true rfl) (hE.kept hS.2.1) hP hS hA [0, 1, 2, 3, 4] rfl 0 rfl rfl rfl hl.1 rfl (Nat.le_of_ble_eq_true rfl) dL_ends_76 ⟨Nat.le_trans (Nat.le_of_ble_eq_true rfl) hRc.1, Nat.le_trans (Nat.le_of_ble_eq_true rfl) hRc.2⟩ (fun H locs hP hS => ?_)
  refine lv_iload_n hx hb dL_ends_79 rfl (lv_at hl 1 rfl) ?_
  refine r_icmp_ne (tgt := 87) hx hb dL_ends_80 (by decide) (by unfold rI; decide) (by unfold rI; decide) (fun h9 => absurd h9 (by omega)) (fun h80 => ?_)
  refine r_iconst hx hb dL_ends_83 ?_
  refine lv_goto (tgt := 88) hx hb dL_ends_84 (by decide) ?_
  refine lv_istore (lv' := [(4, .int (iI (1))), (3, .int (iI (0))), (2, .int (iI (1))), (1, .int (iI (16))), (7, .int (iI (2))), (6, .int (iI (1))), (5, .int (iI (14))), (0, .ref y0)]) hx hb dL_ends_88 hl (by decide) rfl (fun ls hl => ?_)
  refine r_bipush hx hb dL_ends_90 (by decide) ?_
  refine r_iconst hx hb dL_ends_92 ?_
  refine lv_iload_n hx hb dL_ends_93 rfl (lv_at hl 2 rfl) ?_
  refine r_ishl hx hb (z := 2) dL_ends_94 (by decide) ?_
  refine r_isub hx hb dL_ends_95 ?_
  refine r_top (13) (by decide) ?_
  refine r_iconst hx hb dL_ends_96 ?_
  refine r_iadd hx hb dL_ends_97 ?_
  refine r_top (14) (by decide) ?_
  refine lv_istore (lv' := [(5, .int (iI (14))), (4, .int (iI (1))), (3, .int (iI (0))), (2, .int (iI (1))), (1, .int (iI (16))), (7, .int (iI (2))), (6, .int (iI (1))), (0, .ref y0)]) hx hb dL_ends_98 hl (by decide) rfl (fun ls hl => ?_)
  refine lv_iload_n hx hb dL_ends_100 rfl (lv_at hl 4 rfl) ?_
  refine r_iconst hx hb dL_ends_101 ?_
  refine r_irem hx hb dL_ends_102 (by omega) (by omega) ?_
  refine r_top (1) (by decide) ?_
  refine r_if_ne (tgt := 154) hx hb dL_ends_103 (by decide) (by unfold rI; decide) (fun h103 => ?_) (fun h9 => absurd h9 (by omega))
  refine lv_iload_n hx hb dL_ends_154 rfl (lv_at hl 4 rfl) ?_
  refine r_iconst hx hb dL_ends_155 ?_
  refine r_irem hx hb dL_ends_156 (by omega) (by omega) ?_
  refine r_top (1) (by decide) ?_
  refine r_iconst hx hb dL_ends_157 ?_
  refine r_icmp_ne (tgt := 209) hx hb dL_ends_158 (by decide) (by unfold rI; decide) (by unfold rI; decide) (fun h9 => absurd h9 (by omega)) (fun h158 => ?_)
  refine lv_aload_n hx hb dL_ends_161 rfl (lv_at hl 7 rfl) ?_
  refine r_iconst hx hb dL_ends_162 ?_
  refine lv_iload hx hb dL_ends_163 (lv_at hl 0 rfl) ?_
  refine lv_iload_n hx hb dL_ends_165 rfl (lv_at hl 3 rfl) ?_
  refine r_bipush hx hb dL_ends_166 (by decide) ?_
  refine q_LM (As := [.ref y0, .int (iI (0)), .int (iI (14)), .int (iI (1)), .int (iI (54))]) (rest := []) (wr := []) S (c_L_goes l hst D cI cL tw (y0) (y2) (b) (pq) (cq) (0) (3) (0) (sP_70) (sC_0) (0) (14) (1) (54) (0) (1) (0) (sP_71) (sC_0) (by omega) (by omega) (by omega) (fq_285)) (1) (()) (fun z u h => ⟨h, rfl⟩) gL_ends_L_goes rfl rfl rfl f_L_goes hR (Nat.le_of_ble_eq_true rfl) (Nat.le_of_ble_eq_true rfl) (hE.kept hS.2.1) hP hD hS hA [0, 1, 2, 3, 4] [] rfl rfl (by decide) rfl (by decide) (by decide) rfl hl.1 rfl (Nat.le_of_ble_eq_true rfl) dL_ends_168 ⟨Nat.le_trans (Nat.le_of_ble_eq_true rfl) hRc.1, Nat.le_trans (Nat.le_of_ble_eq_true rfl) hRc.2⟩ (fun H locs hP hD hS => ?_)
  have hP : va_P D vwCl [(y0, .inr (1, [.ref b, .ref y2, .int (iI (0)), .int (iI (1)), .int (iI (0)), .int (iI (0))])), (y2, .inl (cI, 4, .inl (aI sC_0))), (b, .inr (0, [.ref pq, .ref cq])), (pq, .inl (cI, 16, .inl (aI sP_71))), (cq, .inl (cI, 136, .inl (aI (cnt sP_71))))] H := hP
  have hD : va_D A [(y0, .inr (1, [.ref b, .ref y2, .int (iI (0)), .int (iI (1)), .int (iI (0)), .int (iI (0))])), (y2, .inl (cI, 4, .inl (aI sC_0))), (b, .inr (0, [.ref pq, .ref cq])), (pq, .inl (cI, 16, .inl (aI sP_71))), (cq, .inl (cI, 136, .inl (aI (cnt sP_71))))] := hD
  refine r_if_eq (tgt := 205) hx hb dL_ends_171 (by decide) (by unfold rI; decide) (fun h9 => absurd h9 (by omega)) (fun h171 => ?_)
  refine lv_aload_n hx hb dL_ends_174 rfl (lv_at hl 7 rfl) ?_
  refine r_iconst hx hb dL_ends_175 ?_
  refine lv_iload hx hb dL_ends_176 (lv_at hl 0 rfl) ?_
  refine lv_iload_n hx hb dL_ends_178 rfl (lv_at hl 3 rfl) ?_
  refine r_bipush hx hb dL_ends_179 (by decide) ?_
  refine q_LM (As := [.ref y0, .int (iI (1)), .int (iI (14)), .int (iI (1)), .int (iI (64))]) (rest := []) (wr := []) S (c_L_goes l hst D cI cL tw (y0) (y2) (b) (pq) (cq) (0) (0) (1) (sP_71) (sC_0) (1) (14) (1) (64) (0) (2) (0) (sP_72) (sC_0) (by omega) (by omega) (by omega) (fq_287)) (1) (()) (fun z u h => ⟨h, rfl⟩) gL_ends_L_goes rfl rfl rfl f_L_goes hR (Nat.le_of_ble_eq_true rfl) (Nat.le_of_ble_eq_true rfl) (hE.kept hS.2.1) hP hD hS hA [0, 1, 2, 3, 4] [] rfl rfl (by decide) rfl (by decide) (by decide) rfl hl.1 rfl (Nat.le_of_ble_eq_true rfl) dL_ends_181 ⟨Nat.le_trans (Nat.le_of_ble_eq_true rfl) hRc.1, Nat.le_trans (Nat.le_of_ble_eq_true rfl) hRc.2⟩ (fun H locs hP hD hS => ?_)
  have hP : va_P D vwCl [(y0, .inr (1, [.ref b, .ref y2, .int (iI (0)), .int (iI (2)), .int (iI (0)), .int (iI (1))])), (y2, .inl (cI, 4, .inl (aI sC_0))), (b, .inr (0, [.ref pq, .ref cq])), (pq, .inl (cI, 16, .inl (aI sP_72))), (cq, .inl (cI, 136, .inl (aI (cnt sP_72))))] H := hP
  have hD : va_D A [(y0, .inr (1, [.ref b, .ref y2, .int (iI (0)), .int (iI (2)), .int (iI (0)), .int (iI (1))])), (y2, .inl (cI, 4, .inl (aI sC_0))), (b, .inr (0, [.ref pq, .ref cq])), (pq, .inl (cI, 16, .inl (aI sP_72))), (cq, .inl (cI, 136, .inl (aI (cnt sP_72))))] := hD
  refine r_if_eq (tgt := 205) hx hb dL_ends_184 (by decide) (by unfold rI; decide) (fun h9 => absurd h9 (by omega)) (fun h184 => ?_)
  refine lv_aload_n hx hb dL_ends_187 rfl (lv_at hl 7 rfl) ?_
  refine r_iconst hx hb dL_ends_188 ?_
  refine r_iconst hx hb dL_ends_189 ?_
  refine lv_iload_n hx hb dL_ends_190 rfl (lv_at hl 3 rfl) ?_
  refine r_ishl hx hb (z := 2) dL_ends_191 (by decide) ?_
  refine lv_iload_n hx hb dL_ends_192 rfl (lv_at hl 3 rfl) ?_
  refine r_bipush hx hb dL_ends_193 (by decide) ?_
  refine q_LM (As := [.ref y0, .int (iI (4)), .int (iI (2)), .int (iI (1)), .int (iI (68))]) (rest := []) (wr := []) S (c_L_goes l hst D cI cL tw (y0) (y2) (b) (pq) (cq) (0) (1) (2) (sP_72) (sC_0) (4) (2) (1) (68) (1) (0) (0) (sP_73) (sC_0) (by omega) (by omega) (by omega) (fq_289)) (1) (()) (fun z u h => ⟨h, rfl⟩) gL_ends_L_goes rfl rfl rfl f_L_goes hR (Nat.le_of_ble_eq_true rfl) (Nat.le_of_ble_eq_true rfl) (hE.kept hS.2.1) hP hD hS hA [0, 1, 2, 3, 4] [] rfl rfl (by decide) rfl (by decide) (by decide) rfl hl.1 rfl (Nat.le_of_ble_eq_true rfl) dL_ends_195 ⟨Nat.le_trans (Nat.le_of_ble_eq_true rfl) hRc.1, Nat.le_trans (Nat.le_of_ble_eq_true rfl) hRc.2⟩ (fun H locs hP hD hS => ?_)
  have hP : va_P D vwCl [(y0, .inr (1, [.ref b, .ref y2, .int (iI (1)), .int (iI (0)), .int (iI (0)), .int (iI (4))])), (y2, .inl (cI, 4, .inl (aI sC_0))), (b, .inr (0, [.ref pq, .ref cq])), (pq, .inl (cI, 16, .inl (aI sP_73))), (cq, .inl (cI, 136, .inl (aI (cnt sP_73))))] H := hP
  have hD : va_D A [(y0, .inr (1, [.ref b, .ref y2, .int (iI (1)), .int (iI (0)), .int (iI (0)), .int (iI (4))])), (y2, .inl (cI, 4, .inl (aI sC_0))), (b, .inr (0, [.ref pq, .ref cq])), (pq, .inl (cI, 16, .inl (aI sP_73))), (cq, .inl (cI, 136, .inl (aI (cnt sP_73))))] := hD
  refine r_if_eq (tgt := 205) hx hb dL_ends_198 (by decide) (by unfold rI; decide) (fun h9 => absurd h9 (by omega)) (fun h198 => ?_)
  refine r_iconst hx hb dL_ends_201 ?_
  refine lv_goto (tgt := 238) hx hb dL_ends_202 (by decide) ?_
  refine lv_istore (lv' := [(6, .int (iI (1))), (5, .int (iI (14))), (4, .int (iI (1))), (3, .int (iI (0))), (2, .int (iI (1))), (1, .int (iI (16))), (7, .int (iI (2))), (0, .ref y0)]) hx hb dL_ends_238 hl (by decide) rfl (fun ls hl => ?_)
  refine lv_iload hx hb dL_ends_240 (lv_at hl 2 rfl) ?_
  refine r_if_eq (tgt := 250) hx hb dL_ends_242 (by decide) (by unfold rI; decide) (fun h9 => absurd h9 (by omega)) (fun h242 => ?_)
  refine lv_iload hx hb dL_ends_245 (lv_at hl 0 rfl) ?_
  refine r_if_ne (tgt := 252) hx hb dL_ends_247 (by decide) (by unfold rI; decide) (fun h247 => ?_) (fun h9 => absurd h9 (by omega))
  refine lv_iload_n hx hb dL_ends_252 rfl (lv_at hl 5 rfl) ?_
  refine r_bipush hx hb dL_ends_253 (by decide) ?_
  refine r_icmp_ne (tgt := 261) hx hb dL_ends_255 (by decide) (by unfold rI; decide) (by unfold rI; decide) (fun h255 => ?_) (fun h9 => absurd h9 (by omega))
  refine r_iconst hx hb dL_ends_261 ?_
  refine lv_istore (lv' := [(7, .int (iI (1))), (6, .int (iI (1))), (5, .int (iI (14))), (4, .int (iI (1))), (3, .int (iI (0))), (2, .int (iI (1))), (1, .int (iI (16))), (0, .ref y0)]) hx hb dL_ends_262 hl (by decide) rfl (fun ls hl => ?_)
  refine lv_iload hx hb dL_ends_264 (lv_at hl 0 rfl) ?_
  refine lv_iload_n hx hb dL_ends_266 rfl (lv_at hl 6 rfl) ?_
  refine r_bipush hx hb dL_ends_267 (by decide) ?_
  refine r_icmp_ge (tgt := 276) hx hb dL_ends_269 (by decide) (by unfold rI; decide) (by unfold rI; decide) (fun h269 => ?_) (fun h9 => absurd h9 (by omega))
  refine r_iconst hx hb dL_ends_276 ?_
  refine r_icmp_ge (tgt := 301) hx hb dL_ends_277 (by decide) (by unfold rI; decide) (by unfold rI; decide) (fun h9 => absurd h9 (by omega)) (fun h277 => ?_)
  refine lv_aload_n hx hb dL_ends_280 rfl (lv_at hl 7 rfl) ?_
  refine lv_iload_n hx hb dL_ends_281 rfl (lv_at hl 4 rfl) ?_
  refine lv_iload hx hb dL_ends_282 (lv_at hl 0 rfl) ?_
  refine r_iadd hx hb dL_ends_284 ?_
  refine r_top (1) (by decide) ?_
  refine r_iconst hx hb dL_ends_285 ?_
  refine r_irem hx hb dL_ends_286 (by omega) (by omega) ?_
  refine r_top (1) (by decide) ?_
  refine q_LM (As := [.ref y0, .int (iI (1))]) (rest := []) (wr := []) S (c_L_loses l hst D cI cL tw (y0) (y2) (b) (pq) (cq) (1) (4) (0) (sP_73) (sC_0) (2) (hb_73) (by omega) (by omega) (by omega) (fq_290) (by omega)) (1) (()) (fun z u h => ⟨h, rfl⟩) gL_ends_L_loses rfl rfl rfl f_L_loses hR (Nat.le_of_ble_eq_true rfl) (Nat.le_of_ble_eq_true rfl) (hE.kept hS.2.1) hP hD hS hA [0, 1, 2, 3, 4] [] rfl rfl (by decide) rfl (by decide) (by decide) rfl hl.1 rfl (Nat.le_of_ble_eq_true rfl) dL_ends_287 ⟨Nat.le_trans (Nat.le_of_ble_eq_true rfl) hRc.1, Nat.le_trans (Nat.le_of_ble_eq_true rfl) hRc.2⟩ (fun H locs hP hD hS => ?_)
  have hP : va_P D vwCl [(y0, .inr (1, [.ref b, .ref y2, .int (iI (2)), .int (iI (0)), .int (iI (0)), .int (iI (4))])), (y2, .inl (cI, 4, .inl (aI sC_0))), (b, .inr (0, [.ref pq, .ref cq])), (pq, .inl (cI, 16, .inl (aI sP_73))), (cq, .inl (cI, 136, .inl (aI (cnt sP_73))))] H := hP
  have hD : va_D A [(y0, .inr (1, [.ref b, .ref y2, .int (iI (2)), .int (iI (0)), .int (iI (0)), .int (iI (4))])), (y2, .inl (cI, 4, .inl (aI sC_0))), (b, .inr (0, [.ref pq, .ref cq])), (pq, .inl (cI, 16, .inl (aI sP_73))), (cq, .inl (cI, 136, .inl (aI (cnt sP_73))))] := hD
  refine r_if_ne (tgt := 295) hx hb dL_ends_290 (by decide) (by unfold rI; decide) (fun h290 => ?_) (fun h9 => absurd h9 (by omega))
  refine lv_iinc (v := iI (2)) (lv' := [(7, .int (iI (2))), (6, .int (iI (1))), (5, .int (iI (14))), (4, .int (iI (1))), (3, .int (iI (0))), (2, .int (iI (1))), (1, .int (iI (16))), (0, .ref y0)]) hx hb dL_ends_295 hl (k := 0) rfl (by decide) (by decide) rfl (fun ls hl => ?_)
  refine lv_goto (tgt := 264) hx hb dL_ends_298 (by decide) ?_
  refine lv_iload hx hb dL_ends_264 (lv_at hl 0 rfl) ?_
  refine lv_iload_n hx hb dL_ends_266 rfl (lv_at hl 6 rfl) ?_
  refine r_bipush hx hb dL_ends_267 (by decide) ?_
  refine r_icmp_ge (tgt := 276) hx hb dL_ends_269 (by decide) (by unfold rI; decide) (by unfold rI; decide) (fun h269 => ?_) (fun h9 => absurd h9 (by omega))
  refine r_iconst hx hb dL_ends_276 ?_
  refine r_icmp_ge (tgt := 301) hx hb dL_ends_277 (by decide) (by unfold rI; decide) (by unfold rI; decide) (fun h277 => ?_) (fun h9 => absurd h9 (by omega))
  refine lv_iinc (v := iI (17)) (lv' := [(1, .int (iI (17))), (7, .int (iI (2))), (6, .int (iI (1))), (5, .int (iI (14))), (4, .int (iI (1))), (3, .int (iI (0))), (2, .int (iI (1))), (0, .ref y0)]) hx hb dL_ends_301 hl (k := 6) rfl (by decide) (by decide) rfl (fun ls hl => ?_)
  refine lv_goto (tgt := 10) hx hb dL_ends_304 (by decide) ?_
  exact sg_L_ends_18 S hst hR hRc hE hA y0 y2 b pq cq  hret hP hD hS hl
set_option maxHeartbeats 4000000 in
set_option maxRecDepth 100000 in
theorem sg_L_ends_16 {p : Program} {l : Launch} {e : Env} {R : Room} {s : State} {mt : MethodId} {args : Array Value} {below : List Frame} {meth : Method} {c : Code} {H0 : Heap} {Q : State → Prop} {A : Nat → Prop} {D : va_G} {cI cL : ClassId} {tw : Nat} (S : CallFix p mt c cL_ends 8 s args wsL_ends RL) (hst : l.stackTraces = false) (hR : 15 ≤ R.frames ∧ 377 ≤ R.locals) (hRc : 527 ≤ R.cells ∧ 3296 ≤ R.slots) (hE : EV D cI cL tw A s H0) (hA : ∀ q : Nat, H0.size ≤ q → A q) (y0 : Nat) (y2 : Nat) (b : Nat) (pq : Nat) (cq : Nat)  (hret : ∀ (z : Int) (u : Unit) (pc : Nat) (ls : Array Slot) (H : Heap) (locs : List Loc) (cells slots : Nat), decode cL_ends pc = .ok (.ireturn, 1) → (z = 1) → va_P D vwCl [] H → va_D A [] → va_S A H0 H locs → cells ≤ 527 → slots ≤ 3296 → W p l e R s mt args below meth c H locs cells slots Q (F0 mt pc ls [.int (iI z)])) {H : Heap} {locs : List Loc} {ls : Array Slot} (hP : va_P D vwCl [(y0, .inr (1, [.ref b, .ref y2, .int (iI (2)), .int (iI (0)), .int (iI (0)), .int (iI (4))])), (y2, .inl (cI, 4, .inl (aI sC_0))), (b, .inr (0, [.ref pq, .ref cq])), (pq, .inl (cI, 16, .inl (aI sP_67))), (cq, .inl (cI, 136, .inl (aI (cnt sP_67))))] H) (hD : va_D A [(y0, .inr (1, [.ref b, .ref y2, .int (iI (2)), .int (iI (0)), .int (iI (0)), .int (iI (4))])), (y2, .inl (cI, 4, .inl (aI sC_0))), (b, .inr (0, [.ref pq, .ref cq])), (pq, .inl (cI, 16, .inl (aI sP_67))), (cq, .inl (cI, 136, .inl (aI (cnt sP_67))))]) (hS : va_S A H0 H locs) (hl : lv_has ls 8 [(1, .int (iI (15))), (7, .int (iI (2))), (6, .int (iI (1))), (5, .int (iI (15))), (4, .int (iI (1))), (3, .int (iI (0))), (2, .int (iI (0))), (0, .ref y0)]) : W p l e R s mt args below meth c H locs 239 1568 Q (F0 mt 10 ls []) := by
  obtain ⟨hx, hb, hml, hown, hts⟩ := id S
  refine lv_iload_n hx hb dL_ends_10 rfl (lv_at hl 0 rfl) ?_
  refine r_bipush hx hb dL_ends_11 (by decide) ?_
  refine r_icmp_ge (tgt := 307) hx hb dL_ends_13 (by decide) (by unfold rI; decide) (by unfold rI; decide) (fun h9 => absurd h9 (by omega)) (fun h13 => ?_)
  refine lv_iload_n hx hb dL_ends_16 rfl (lv_at hl 0 rfl) ?_
  refine r_iconst hx hb dL_ends_17 ?_
  refine r_idiv hx hb dL_ends_18 (by omega) (by omega) ?_
  refine r_top (5) (by decide) ?_
  refine r_iconst hx hb dL_ends_19 ?_
  refine r_irem hx hb dL_ends_20 (by omega) (by omega) ?_
  refine r_top (1) (by decide) ?_
  refine lv_istore_n (lv' := [(2, .int (iI (1))), (1, .int (iI (15))), (7, .int (iI (2))), (6, .int (iI (1))), (5, .int (iI (15))), (4, .int (iI (1))), (3, .int (iI (0))), (0, .ref y0)]) hx hb dL_ends_21 rfl hl (by decide) rfl (fun ls hl => ?_)
  refine lv_iload_n hx hb dL_ends_22 rfl (lv_at hl 1 rfl) ?_
  refine r_bipush hx hb dL_ends_23 (by decide) ?_
  refine r_icmp_ge (tgt := 32) hx hb dL_ends_25 (by decide) (by unfold rI; decide) (by unfold rI; decide) (fun h25 => ?_) (fun h9 => absurd h9 (by omega))
  refine lv_iload_n hx hb dL_ends_32 rfl (lv_at hl 1 rfl) ?_
  refine r_iconst hx hb dL_ends_33 ?_
  refine r_irem hx hb dL_ends_34 (by omega) (by omega) ?_
  refine r_top (1) (by decide) ?_
  refine r_iconst hx hb dL_ends_35 ?_
  refine r_imul hx hb dL_ends_36 ?_
  refine r_top (2) (by decide) ?_
  refine lv_istore_n (lv' := [(3, .int (iI (2))), (2, .int (iI (1))), (1, .int (iI (15))), (7, .int (iI (2))), (6, .int (iI (1))), (5, .int (iI (15))), (4, .int (iI (1))), (0, .ref y0)]) hx hb dL_ends_37 rfl hl (by decide) rfl (fun ls hl => ?_)
  refine lv_aload_n hx hb dL_ends_38 rfl (lv_at hl 7 rfl) ?_
  refine q_RO (As := []) (rest := []) S (c_X1_onTurn l D cI cL tw (y0) (y2) (b) (pq) (cq) (2) (0) (4) (0) (sP_67) (sC_0) (hb_67) (by omega) (by omega) (by omega) (by omega)) (2) (fun z h => h) gL_ends_X1_onTurn rfl rfl rfl ⟨rfl, f_X1_onTurn⟩ hR (Nat.le_of_ble_eq_true rfl) (Nat.le_of_ble_eq_true rfl) (hE.kept hS.2.1) hP [0, 1, 2, 3, 4] rfl 0 rfl rfl rfl hl.1 rfl (Nat.le_of_ble_eq_true rfl) dL_ends_39 ⟨Nat.le_trans (Nat.le_of_ble_eq_true rfl) hRc.1, Nat.le_trans (Nat.le_of_ble_eq_true rfl) hRc.2⟩ ?_
  refine lv_iload_n hx hb dL_ends_42 rfl (lv_at hl 0 rfl) ?_
  refine r_icmp_ne (tgt := 87) hx hb dL_ends_43 (by decide) (by unfold rI; decide) (by unfold rI; decide) (fun h9 => absurd h9 (by omega)) (fun h43 => ?_)
  refine lv_aload_n hx hb dL_ends_46 rfl (lv_at hl 7 rfl) ?_
  refine q_RO (As := []) (rest := []) S (c_X1_mover l D cI cL tw (y0) (y2) (b) (pq) (cq) (2) (0) (4) (0) (sP_67) (sC_0) (hb_67) (by omega) (by omega) (by omega) (by omega)) (2) (fun z h => h.trans fq_273) gL_ends_X1_mover rfl rfl rfl ⟨rfl, f_X1_mover⟩ hR (Nat.le_of_ble_eq_true rfl) (Nat.le_of_ble_eq_true rfl) (hE.kept hS.2.1) hP [0, 1, 2, 3, 4] rfl 0 rfl rfl rfl hl.1 rfl (Nat.le_of_ble_eq_true rfl) dL_ends_47 ⟨Nat.le_trans (Nat.le_of_ble_eq_true rfl) hRc.1, Nat.le_trans (Nat.le_of_ble_eq_true rfl) hRc.2⟩ ?_
  refine lv_iload_n hx hb dL_ends_50 rfl (lv_at hl 2 rfl) ?_
  refine r_bipush hx hb dL_ends_51 (by decide) ?_
  refine r_icmp_ge (tgt := 60) hx hb dL_ends_53 (by decide) (by unfold rI; decide) (by unfold rI; decide) (fun h53 => ?_) (fun h9 => absurd h9 (by omega))
  refine r_iconst hx hb dL_ends_60 ?_
  refine r_icmp_ne (tgt := 87) hx hb dL_ends_61 (by decide) (by unfold rI; decide) (by unfold rI; decide) (fun h9 => absurd h9 (by omega)) (fun h61 => ?_)
  refine lv_aload_n hx hb dL_ends_64 rfl (lv_at hl 7 rfl) ?_
  refine lv_iload_n hx hb dL_ends_65 rfl (lv_at hl 2 rfl) ?_
  refine r_bipush hx hb dL_ends_66 (by decide) ?_
  refine r_icmp_ge (tgt := 75) hx hb dL_ends_68 (by decide) (by unfold rI; decide) (by unfold rI; decide) (fun h68 => ?_) (fun h9 => absurd h9 (by omega))
  refine r_iconst hx hb dL_ends_75 ?_
  refine q_Xi (As := [.int (iI (2))]) (rest := []) S (c_X1_home l hst D cI cL tw (y0) (y2) (b) (pq) (cq) (2) (0) (4) (0) (sP_67) (sC_0) (2) (hb_67) (by omega) (by omega) (by omega) (by omega) (by omega)) (1) (fun z h => h.2.2.trans fq_274) (fun E h => by (try dsimp only at h); first | (rcases h with ⟨_, h⟩ | ⟨_, h⟩ <;> omega) | (obtain ⟨_, h⟩ := h; omega)) gL_ends_X1_home rfl rfl rfl ⟨rfl, f_X1_home⟩ hR (Nat.le_of_ble_eq_true rfl) (Nat.le_of_ble_eq_true rfl) (hE.kept hS.2.1) hP hS hA [0, 1, 2, 3, 4] rfl 0 rfl rfl rfl hl.1 rfl (Nat.le_of_ble_eq_true rfl) dL_ends_76 ⟨Nat.le_trans (Nat.le_of_ble_eq_true rfl) hRc.1, Nat.le_trans (Nat.le_of_ble_eq_true rfl) hRc.2⟩ (fun H locs hP hS => ?_)
  refine lv_iload_n hx hb dL_ends_79 rfl (lv_at hl 1 rfl) ?_
  refine r_icmp_ne (tgt := 87) hx hb dL_ends_80 (by decide) (by unfold rI; decide) (by unfold rI; decide) (fun h9 => absurd h9 (by omega)) (fun h80 => ?_)
  refine r_iconst hx hb dL_ends_83 ?_
  refine lv_goto (tgt := 88) hx hb dL_ends_84 (by decide) ?_
  refine lv_istore (lv' := [(4, .int (iI (1))), (3, .int (iI (2))), (2, .int (iI (1))), (1, .int (iI (15))), (7, .int (iI (2))), (6, .int (iI (1))), (5, .int (iI (15))), (0, .ref y0)]) hx hb dL_ends_88 hl (by decide) rfl (fun ls hl => ?_)
  refine r_bipush hx hb dL_ends_90 (by decide) ?_
  refine r_iconst hx hb dL_ends_92 ?_
  refine lv_iload_n hx hb dL_ends_93 rfl (lv_at hl 2 rfl) ?_
  refine r_ishl hx hb (z := 2) dL_ends_94 (by decide) ?_
  refine r_isub hx hb dL_ends_95 ?_
  refine r_top (13) (by decide) ?_
  refine r_iconst hx hb dL_ends_96 ?_
  refine r_iadd hx hb dL_ends_97 ?_
  refine r_top (14) (by decide) ?_
  refine lv_istore (lv' := [(5, .int (iI (14))), (4, .int (iI (1))), (3, .int (iI (2))), (2, .int (iI (1))), (1, .int (iI (15))), (7, .int (iI (2))), (6, .int (iI (1))), (0, .ref y0)]) hx hb dL_ends_98 hl (by decide) rfl (fun ls hl => ?_)
  refine lv_iload_n hx hb dL_ends_100 rfl (lv_at hl 4 rfl) ?_
  refine r_iconst hx hb dL_ends_101 ?_
  refine r_irem hx hb dL_ends_102 (by omega) (by omega) ?_
  refine r_top (0) (by decide) ?_
  refine r_if_ne (tgt := 154) hx hb dL_ends_103 (by decide) (by unfold rI; decide) (fun h9 => absurd h9 (by omega)) (fun h103 => ?_)
  refine lv_aload_n hx hb dL_ends_106 rfl (lv_at hl 7 rfl) ?_
  refine r_bipush hx hb dL_ends_107 (by decide) ?_
  refine lv_iload hx hb dL_ends_109 (lv_at hl 0 rfl) ?_
  refine lv_iload_n hx hb dL_ends_111 rfl (lv_at hl 3 rfl) ?_
  refine r_iconst hx hb dL_ends_112 ?_
  refine q_LM (As := [.ref y0, .int (iI (6)), .int (iI (14)), .int (iI (1)), .int (iI (1))]) (rest := []) (wr := []) S (c_L_goes l hst D cI cL tw (y0) (y2) (b) (pq) (cq) (2) (4) (0) (sP_67) (sC_0) (6) (14) (1) (1) (2) (1) (0) (sP_68) (sC_0) (by omega) (by omega) (by omega) (fq_276)) (1) (()) (fun z u h => ⟨h, rfl⟩) gL_ends_L_goes rfl rfl rfl f_L_goes hR (Nat.le_of_ble_eq_true rfl) (Nat.le_of_ble_eq_true rfl) (hE.kept hS.2.1) hP hD hS hA [0, 1, 2, 3, 4] [] rfl rfl (by decide) rfl (by decide) (by decide) rfl hl.1 rfl (Nat.le_of_ble_eq_true rfl) dL_ends_113 ⟨Nat.le_trans (Nat.le_of_ble_eq_true rfl) hRc.1, Nat.le_trans (Nat.le_of_ble_eq_true rfl) hRc.2⟩ (fun H locs hP hD hS => ?_)
  have hP : va_P D vwCl [(y0, .inr (1, [.ref b, .ref y2, .int (iI (2)), .int (iI (1)), .int (iI (0)), .int (iI (6))])), (y2, .inl (cI, 4, .inl (aI sC_0))), (b, .inr (0, [.ref pq, .ref cq])), (pq, .inl (cI, 16, .inl (aI sP_68))), (cq, .inl (cI, 136, .inl (aI (cnt sP_68))))] H := hP
  have hD : va_D A [(y0, .inr (1, [.ref b, .ref y2, .int (iI (2)), .int (iI (1)), .int (iI (0)), .int (iI (6))])), (y2, .inl (cI, 4, .inl (aI sC_0))), (b, .inr (0, [.ref pq, .ref cq])), (pq, .inl (cI, 16, .inl (aI sP_68))), (cq, .inl (cI, 136, .inl (aI (cnt sP_68))))] := hD
  refine r_if_eq (tgt := 150) hx hb dL_ends_116 (by decide) (by unfold rI; decide) (fun h9 => absurd h9 (by omega)) (fun h116 => ?_)
  refine lv_aload_n hx hb dL_ends_119 rfl (lv_at hl 7 rfl) ?_
  refine r_iconst hx hb dL_ends_120 ?_
  refine lv_iload hx hb dL_ends_121 (lv_at hl 0 rfl) ?_
  refine lv_iload_n hx hb dL_ends_123 rfl (lv_at hl 3 rfl) ?_
  refine r_bipush hx hb dL_ends_124 (by decide) ?_
  refine q_LM (As := [.ref y0, .int (iI (0)), .int (iI (14)), .int (iI (1)), .int (iI (26))]) (rest := []) (wr := []) S (c_L_goes l hst D cI cL tw (y0) (y2) (b) (pq) (cq) (2) (6) (1) (sP_68) (sC_0) (0) (14) (1) (26) (2) (2) (0) (sP_69) (sC_0) (by omega) (by omega) (by omega) (fq_278)) (1) (()) (fun z u h => ⟨h, rfl⟩) gL_ends_L_goes rfl rfl rfl f_L_goes hR (Nat.le_of_ble_eq_true rfl) (Nat.le_of_ble_eq_true rfl) (hE.kept hS.2.1) hP hD hS hA [0, 1, 2, 3, 4] [] rfl rfl (by decide) rfl (by decide) (by decide) rfl hl.1 rfl (Nat.le_of_ble_eq_true rfl) dL_ends_126 ⟨Nat.le_trans (Nat.le_of_ble_eq_true rfl) hRc.1, Nat.le_trans (Nat.le_of_ble_eq_true rfl) hRc.2⟩ (fun H locs hP hD hS => ?_)
  have hP : va_P D vwCl [(y0, .inr (1, [.ref b, .ref y2, .int (iI (2)), .int (iI (2)), .int (iI (0)), .int (iI (0))])), (y2, .inl (cI, 4, .inl (aI sC_0))), (b, .inr (0, [.ref pq, .ref cq])), (pq, .inl (cI, 16, .inl (aI sP_69))), (cq, .inl (cI, 136, .inl (aI (cnt sP_69))))] H := hP
  have hD : va_D A [(y0, .inr (1, [.ref b, .ref y2, .int (iI (2)), .int (iI (2)), .int (iI (0)), .int (iI (0))])), (y2, .inl (cI, 4, .inl (aI sC_0))), (b, .inr (0, [.ref pq, .ref cq])), (pq, .inl (cI, 16, .inl (aI sP_69))), (cq, .inl (cI, 136, .inl (aI (cnt sP_69))))] := hD
  refine r_if_eq (tgt := 150) hx hb dL_ends_129 (by decide) (by unfold rI; decide) (fun h9 => absurd h9 (by omega)) (fun h129 => ?_)
  refine lv_aload_n hx hb dL_ends_132 rfl (lv_at hl 7 rfl) ?_
  refine r_iconst hx hb dL_ends_133 ?_
  refine r_iconst hx hb dL_ends_134 ?_
  refine lv_iload_n hx hb dL_ends_135 rfl (lv_at hl 3 rfl) ?_
  refine r_ishl hx hb (z := 2) dL_ends_136 (by decide) ?_
  refine lv_iload_n hx hb dL_ends_137 rfl (lv_at hl 3 rfl) ?_
  refine r_bipush hx hb dL_ends_138 (by decide) ?_
  refine q_LM (As := [.ref y0, .int (iI (3)), .int (iI (2)), .int (iI (1)), .int (iI (29))]) (rest := []) (wr := []) S (c_L_goes l hst D cI cL tw (y0) (y2) (b) (pq) (cq) (2) (0) (2) (sP_69) (sC_0) (3) (2) (1) (29) (3) (0) (0) (sP_70) (sC_0) (by omega) (by omega) (by omega) (fq_280)) (1) (()) (fun z u h => ⟨h, rfl⟩) gL_ends_L_goes rfl rfl rfl f_L_goes hR (Nat.le_of_ble_eq_true rfl) (Nat.le_of_ble_eq_true rfl) (hE.kept hS.2.1) hP hD hS hA [0, 1, 2, 3, 4] [] rfl rfl (by decide) rfl (by decide) (by decide) rfl hl.1 rfl (Nat.le_of_ble_eq_true rfl) dL_ends_140 ⟨Nat.le_trans (Nat.le_of_ble_eq_true rfl) hRc.1, Nat.le_trans (Nat.le_of_ble_eq_true rfl) hRc.2⟩ (fun H locs hP hD hS => ?_)
  have hP : va_P D vwCl [(y0, .inr (1, [.ref b, .ref y2, .int (iI (3)), .int (iI (0)), .int (iI (0)), .int (iI (3))])), (y2, .inl (cI, 4, .inl (aI sC_0))), (b, .inr (0, [.ref pq, .ref cq])), (pq, .inl (cI, 16, .inl (aI sP_70))), (cq, .inl (cI, 136, .inl (aI (cnt sP_70))))] H := hP
  have hD : va_D A [(y0, .inr (1, [.ref b, .ref y2, .int (iI (3)), .int (iI (0)), .int (iI (0)), .int (iI (3))])), (y2, .inl (cI, 4, .inl (aI sC_0))), (b, .inr (0, [.ref pq, .ref cq])), (pq, .inl (cI, 16, .inl (aI sP_70))), (cq, .inl (cI, 136, .inl (aI (cnt sP_70))))] := hD
  refine r_if_eq (tgt := 150) hx hb dL_ends_143 (by decide) (by unfold rI; decide) (fun h9 => absurd h9 (by omega)) (fun h143 => ?_)
  refine r_iconst hx hb dL_ends_146 ?_
  refine lv_goto (tgt := 238) hx hb dL_ends_147 (by decide) ?_
  refine lv_istore (lv' := [(6, .int (iI (1))), (5, .int (iI (14))), (4, .int (iI (1))), (3, .int (iI (2))), (2, .int (iI (1))), (1, .int (iI (15))), (7, .int (iI (2))), (0, .ref y0)]) hx hb dL_ends_238 hl (by decide) rfl (fun ls hl => ?_)
  refine lv_iload hx hb dL_ends_240 (lv_at hl 2 rfl) ?_
  refine r_if_eq (tgt := 250) hx hb dL_ends_242 (by decide) (by unfold rI; decide) (fun h9 => absurd h9 (by omega)) (fun h242 => ?_)
  refine lv_iload hx hb dL_ends_245 (lv_at hl 0 rfl) ?_
  refine r_if_ne (tgt := 252) hx hb dL_ends_247 (by decide) (by unfold rI; decide) (fun h247 => ?_) (fun h9 => absurd h9 (by omega))
  refine lv_iload_n hx hb dL_ends_252 rfl (lv_at hl 5 rfl) ?_
  refine r_bipush hx hb dL_ends_253 (by decide) ?_
  refine r_icmp_ne (tgt := 261) hx hb dL_ends_255 (by decide) (by unfold rI; decide) (by unfold rI; decide) (fun h255 => ?_) (fun h9 => absurd h9 (by omega))
  refine r_iconst hx hb dL_ends_261 ?_
  refine lv_istore (lv' := [(7, .int (iI (1))), (6, .int (iI (1))), (5, .int (iI (14))), (4, .int (iI (1))), (3, .int (iI (2))), (2, .int (iI (1))), (1, .int (iI (15))), (0, .ref y0)]) hx hb dL_ends_262 hl (by decide) rfl (fun ls hl => ?_)
  refine lv_iload hx hb dL_ends_264 (lv_at hl 0 rfl) ?_
  refine lv_iload_n hx hb dL_ends_266 rfl (lv_at hl 6 rfl) ?_
  refine r_bipush hx hb dL_ends_267 (by decide) ?_
  refine r_icmp_ge (tgt := 276) hx hb dL_ends_269 (by decide) (by unfold rI; decide) (by unfold rI; decide) (fun h269 => ?_) (fun h9 => absurd h9 (by omega))
  refine r_iconst hx hb dL_ends_276 ?_
  refine r_icmp_ge (tgt := 301) hx hb dL_ends_277 (by decide) (by unfold rI; decide) (by unfold rI; decide) (fun h9 => absurd h9 (by omega)) (fun h277 => ?_)
  refine lv_aload_n hx hb dL_ends_280 rfl (lv_at hl 7 rfl) ?_
  refine lv_iload_n hx hb dL_ends_281 rfl (lv_at hl 4 rfl) ?_
  refine lv_iload hx hb dL_ends_282 (lv_at hl 0 rfl) ?_
  refine r_iadd hx hb dL_ends_284 ?_
  refine r_top (3) (by decide) ?_
  refine r_iconst hx hb dL_ends_285 ?_
  refine r_irem hx hb dL_ends_286 (by omega) (by omega) ?_
  refine r_top (3) (by decide) ?_
  refine q_LM (As := [.ref y0, .int (iI (3))]) (rest := []) (wr := []) S (c_L_loses l hst D cI cL tw (y0) (y2) (b) (pq) (cq) (3) (3) (0) (sP_70) (sC_0) (0) (hb_70) (by omega) (by omega) (by omega) (fq_281) (by omega)) (1) (()) (fun z u h => ⟨h, rfl⟩) gL_ends_L_loses rfl rfl rfl f_L_loses hR (Nat.le_of_ble_eq_true rfl) (Nat.le_of_ble_eq_true rfl) (hE.kept hS.2.1) hP hD hS hA [0, 1, 2, 3, 4] [] rfl rfl (by decide) rfl (by decide) (by decide) rfl hl.1 rfl (Nat.le_of_ble_eq_true rfl) dL_ends_287 ⟨Nat.le_trans (Nat.le_of_ble_eq_true rfl) hRc.1, Nat.le_trans (Nat.le_of_ble_eq_true rfl) hRc.2⟩ (fun H locs hP hD hS => ?_)
  have hP : va_P D vwCl [(y0, .inr (1, [.ref b, .ref y2, .int (iI (0)), .int (iI (0)), .int (iI (0)), .int (iI (3))])), (y2, .inl (cI, 4, .inl (aI sC_0))), (b, .inr (0, [.ref pq, .ref cq])), (pq, .inl (cI, 16, .inl (aI sP_70))), (cq, .inl (cI, 136, .inl (aI (cnt sP_70))))] H := hP
  have hD : va_D A [(y0, .inr (1, [.ref b, .ref y2, .int (iI (0)), .int (iI (0)), .int (iI (0)), .int (iI (3))])), (y2, .inl (cI, 4, .inl (aI sC_0))), (b, .inr (0, [.ref pq, .ref cq])), (pq, .inl (cI, 16, .inl (aI sP_70))), (cq, .inl (cI, 136, .inl (aI (cnt sP_70))))] := hD
  refine r_if_ne (tgt := 295) hx hb dL_ends_290 (by decide) (by unfold rI; decide) (fun h290 => ?_) (fun h9 => absurd h9 (by omega))
  refine lv_iinc (v := iI (2)) (lv' := [(7, .int (iI (2))), (6, .int (iI (1))), (5, .int (iI (14))), (4, .int (iI (1))), (3, .int (iI (2))), (2, .int (iI (1))), (1, .int (iI (15))), (0, .ref y0)]) hx hb dL_ends_295 hl (k := 0) rfl (by decide) (by decide) rfl (fun ls hl => ?_)
  refine lv_goto (tgt := 264) hx hb dL_ends_298 (by decide) ?_
  refine lv_iload hx hb dL_ends_264 (lv_at hl 0 rfl) ?_
  refine lv_iload_n hx hb dL_ends_266 rfl (lv_at hl 6 rfl) ?_
  refine r_bipush hx hb dL_ends_267 (by decide) ?_
  refine r_icmp_ge (tgt := 276) hx hb dL_ends_269 (by decide) (by unfold rI; decide) (by unfold rI; decide) (fun h269 => ?_) (fun h9 => absurd h9 (by omega))
  refine r_iconst hx hb dL_ends_276 ?_
  refine r_icmp_ge (tgt := 301) hx hb dL_ends_277 (by decide) (by unfold rI; decide) (by unfold rI; decide) (fun h277 => ?_) (fun h9 => absurd h9 (by omega))
  refine lv_iinc (v := iI (16)) (lv' := [(1, .int (iI (16))), (7, .int (iI (2))), (6, .int (iI (1))), (5, .int (iI (14))), (4, .int (iI (1))), (3, .int (iI (2))), (2, .int (iI (1))), (0, .ref y0)]) hx hb dL_ends_301 hl (k := 6) rfl (by decide) (by decide) rfl (fun ls hl => ?_)
  refine lv_goto (tgt := 10) hx hb dL_ends_304 (by decide) ?_
  exact sg_L_ends_17 S hst hR hRc hE hA y0 y2 b pq cq  hret hP hD hS hl
set_option maxHeartbeats 4000000 in
set_option maxRecDepth 100000 in
theorem sg_L_ends_15 {p : Program} {l : Launch} {e : Env} {R : Room} {s : State} {mt : MethodId} {args : Array Value} {below : List Frame} {meth : Method} {c : Code} {H0 : Heap} {Q : State → Prop} {A : Nat → Prop} {D : va_G} {cI cL : ClassId} {tw : Nat} (S : CallFix p mt c cL_ends 8 s args wsL_ends RL) (hst : l.stackTraces = false) (hR : 15 ≤ R.frames ∧ 377 ≤ R.locals) (hRc : 527 ≤ R.cells ∧ 3296 ≤ R.slots) (hE : EV D cI cL tw A s H0) (hA : ∀ q : Nat, H0.size ≤ q → A q) (y0 : Nat) (y2 : Nat) (b : Nat) (pq : Nat) (cq : Nat)  (hret : ∀ (z : Int) (u : Unit) (pc : Nat) (ls : Array Slot) (H : Heap) (locs : List Loc) (cells slots : Nat), decode cL_ends pc = .ok (.ireturn, 1) → (z = 1) → va_P D vwCl [] H → va_D A [] → va_S A H0 H locs → cells ≤ 527 → slots ≤ 3296 → W p l e R s mt args below meth c H locs cells slots Q (F0 mt pc ls [.int (iI z)])) {H : Heap} {locs : List Loc} {ls : Array Slot} (hP : va_P D vwCl [(y0, .inr (1, [.ref b, .ref y2, .int (iI (0)), .int (iI (0)), .int (iI (0)), .int (iI (4))])), (y2, .inl (cI, 4, .inl (aI sC_0))), (b, .inr (0, [.ref pq, .ref cq])), (pq, .inl (cI, 16, .inl (aI sP_66))), (cq, .inl (cI, 136, .inl (aI (cnt sP_66))))] H) (hD : va_D A [(y0, .inr (1, [.ref b, .ref y2, .int (iI (0)), .int (iI (0)), .int (iI (0)), .int (iI (4))])), (y2, .inl (cI, 4, .inl (aI sC_0))), (b, .inr (0, [.ref pq, .ref cq])), (pq, .inl (cI, 16, .inl (aI sP_66))), (cq, .inl (cI, 136, .inl (aI (cnt sP_66))))]) (hS : va_S A H0 H locs) (hl : lv_has ls 8 [(1, .int (iI (14))), (7, .int (iI (2))), (6, .int (iI (1))), (5, .int (iI (15))), (4, .int (iI (1))), (3, .int (iI (2))), (2, .int (iI (0))), (0, .ref y0)]) : W p l e R s mt args below meth c H locs 231 1520 Q (F0 mt 10 ls []) := by
  obtain ⟨hx, hb, hml, hown, hts⟩ := id S
  refine lv_iload_n hx hb dL_ends_10 rfl (lv_at hl 0 rfl) ?_
  refine r_bipush hx hb dL_ends_11 (by decide) ?_
  refine r_icmp_ge (tgt := 307) hx hb dL_ends_13 (by decide) (by unfold rI; decide) (by unfold rI; decide) (fun h9 => absurd h9 (by omega)) (fun h13 => ?_)
  refine lv_iload_n hx hb dL_ends_16 rfl (lv_at hl 0 rfl) ?_
  refine r_iconst hx hb dL_ends_17 ?_
  refine r_idiv hx hb dL_ends_18 (by omega) (by omega) ?_
  refine r_top (4) (by decide) ?_
  refine r_iconst hx hb dL_ends_19 ?_
  refine r_irem hx hb dL_ends_20 (by omega) (by omega) ?_
  refine r_top (0) (by decide) ?_
  refine lv_istore_n (lv' := [(2, .int (iI (0))), (1, .int (iI (14))), (7, .int (iI (2))), (6, .int (iI (1))), (5, .int (iI (15))), (4, .int (iI (1))), (3, .int (iI (2))), (0, .ref y0)]) hx hb dL_ends_21 rfl hl (by decide) rfl (fun ls hl => ?_)
  refine lv_iload_n hx hb dL_ends_22 rfl (lv_at hl 1 rfl) ?_
  refine r_bipush hx hb dL_ends_23 (by decide) ?_
  refine r_icmp_ge (tgt := 32) hx hb dL_ends_25 (by decide) (by unfold rI; decide) (by unfold rI; decide) (fun h25 => ?_) (fun h9 => absurd h9 (by omega))
  refine lv_iload_n hx hb dL_ends_32 rfl (lv_at hl 1 rfl) ?_
  refine r_iconst hx hb dL_ends_33 ?_
  refine r_irem hx hb dL_ends_34 (by omega) (by omega) ?_
  refine r_top (0) (by decide) ?_
  refine r_iconst hx hb dL_ends_35 ?_
  refine r_imul hx hb dL_ends_36 ?_
  refine r_top (0) (by decide) ?_
  refine lv_istore_n (lv' := [(3, .int (iI (0))), (2, .int (iI (0))), (1, .int (iI (14))), (7, .int (iI (2))), (6, .int (iI (1))), (5, .int (iI (15))), (4, .int (iI (1))), (0, .ref y0)]) hx hb dL_ends_37 rfl hl (by decide) rfl (fun ls hl => ?_)
  refine lv_aload_n hx hb dL_ends_38 rfl (lv_at hl 7 rfl) ?_
  refine q_RO (As := []) (rest := []) S (c_X1_onTurn l D cI cL tw (y0) (y2) (b) (pq) (cq) (0) (0) (4) (0) (sP_66) (sC_0) (hb_66) (by omega) (by omega) (by omega) (by omega)) (0) (fun z h => h) gL_ends_X1_onTurn rfl rfl rfl ⟨rfl, f_X1_onTurn⟩ hR (Nat.le_of_ble_eq_true rfl) (Nat.le_of_ble_eq_true rfl) (hE.kept hS.2.1) hP [0, 1, 2, 3, 4] rfl 0 rfl rfl rfl hl.1 rfl (Nat.le_of_ble_eq_true rfl) dL_ends_39 ⟨Nat.le_trans (Nat.le_of_ble_eq_true rfl) hRc.1, Nat.le_trans (Nat.le_of_ble_eq_true rfl) hRc.2⟩ ?_
  refine lv_iload_n hx hb dL_ends_42 rfl (lv_at hl 0 rfl) ?_
  refine r_icmp_ne (tgt := 87) hx hb dL_ends_43 (by decide) (by unfold rI; decide) (by unfold rI; decide) (fun h9 => absurd h9 (by omega)) (fun h43 => ?_)
  refine lv_aload_n hx hb dL_ends_46 rfl (lv_at hl 7 rfl) ?_
  refine q_RO (As := []) (rest := []) S (c_X1_mover l D cI cL tw (y0) (y2) (b) (pq) (cq) (0) (0) (4) (0) (sP_66) (sC_0) (hb_66) (by omega) (by omega) (by omega) (by omega)) (2) (fun z h => h.trans fq_267) gL_ends_X1_mover rfl rfl rfl ⟨rfl, f_X1_mover⟩ hR (Nat.le_of_ble_eq_true rfl) (Nat.le_of_ble_eq_true rfl) (hE.kept hS.2.1) hP [0, 1, 2, 3, 4] rfl 0 rfl rfl rfl hl.1 rfl (Nat.le_of_ble_eq_true rfl) dL_ends_47 ⟨Nat.le_trans (Nat.le_of_ble_eq_true rfl) hRc.1, Nat.le_trans (Nat.le_of_ble_eq_true rfl) hRc.2⟩ ?_
  refine lv_iload_n hx hb dL_ends_50 rfl (lv_at hl 2 rfl) ?_
  refine r_bipush hx hb dL_ends_51 (by decide) ?_
  refine r_icmp_ge (tgt := 60) hx hb dL_ends_53 (by decide) (by unfold rI; decide) (by unfold rI; decide) (fun h53 => ?_) (fun h9 => absurd h9 (by omega))
  refine r_iconst hx hb dL_ends_60 ?_
  refine r_icmp_ne (tgt := 87) hx hb dL_ends_61 (by decide) (by unfold rI; decide) (by unfold rI; decide) (fun h9 => absurd h9 (by omega)) (fun h61 => ?_)
  refine lv_aload_n hx hb dL_ends_64 rfl (lv_at hl 7 rfl) ?_
  refine lv_iload_n hx hb dL_ends_65 rfl (lv_at hl 2 rfl) ?_
  refine r_bipush hx hb dL_ends_66 (by decide) ?_
  refine r_icmp_ge (tgt := 75) hx hb dL_ends_68 (by decide) (by unfold rI; decide) (by unfold rI; decide) (fun h68 => ?_) (fun h9 => absurd h9 (by omega))
  refine r_iconst hx hb dL_ends_75 ?_
  refine q_Xi (As := [.int (iI (2))]) (rest := []) S (c_X1_home l hst D cI cL tw (y0) (y2) (b) (pq) (cq) (0) (0) (4) (0) (sP_66) (sC_0) (2) (hb_66) (by omega) (by omega) (by omega) (by omega) (by omega)) (0) (fun z h => h.2.2.trans fq_268) (fun E h => by (try dsimp only at h); first | (rcases h with ⟨_, h⟩ | ⟨_, h⟩ <;> omega) | (obtain ⟨_, h⟩ := h; omega)) gL_ends_X1_home rfl rfl rfl ⟨rfl, f_X1_home⟩ hR (Nat.le_of_ble_eq_true rfl) (Nat.le_of_ble_eq_true rfl) (hE.kept hS.2.1) hP hS hA [0, 1, 2, 3, 4] rfl 0 rfl rfl rfl hl.1 rfl (Nat.le_of_ble_eq_true rfl) dL_ends_76 ⟨Nat.le_trans (Nat.le_of_ble_eq_true rfl) hRc.1, Nat.le_trans (Nat.le_of_ble_eq_true rfl) hRc.2⟩ (fun H locs hP hS => ?_)
  refine lv_iload_n hx hb dL_ends_79 rfl (lv_at hl 1 rfl) ?_
  refine r_icmp_ne (tgt := 87) hx hb dL_ends_80 (by decide) (by unfold rI; decide) (by unfold rI; decide) (fun h9 => absurd h9 (by omega)) (fun h80 => ?_)
  refine r_iconst hx hb dL_ends_83 ?_
  refine lv_goto (tgt := 88) hx hb dL_ends_84 (by decide) ?_
  refine lv_istore (lv' := [(4, .int (iI (1))), (3, .int (iI (0))), (2, .int (iI (0))), (1, .int (iI (14))), (7, .int (iI (2))), (6, .int (iI (1))), (5, .int (iI (15))), (0, .ref y0)]) hx hb dL_ends_88 hl (by decide) rfl (fun ls hl => ?_)
  refine r_bipush hx hb dL_ends_90 (by decide) ?_
  refine r_iconst hx hb dL_ends_92 ?_
  refine lv_iload_n hx hb dL_ends_93 rfl (lv_at hl 2 rfl) ?_
  refine r_ishl hx hb (z := 1) dL_ends_94 (by decide) ?_
  refine r_isub hx hb dL_ends_95 ?_
  refine r_top (14) (by decide) ?_
  refine r_iconst hx hb dL_ends_96 ?_
  refine r_iadd hx hb dL_ends_97 ?_
  refine r_top (15) (by decide) ?_
  refine lv_istore (lv' := [(5, .int (iI (15))), (4, .int (iI (1))), (3, .int (iI (0))), (2, .int (iI (0))), (1, .int (iI (14))), (7, .int (iI (2))), (6, .int (iI (1))), (0, .ref y0)]) hx hb dL_ends_98 hl (by decide) rfl (fun ls hl => ?_)
  refine lv_iload_n hx hb dL_ends_100 rfl (lv_at hl 4 rfl) ?_
  refine r_iconst hx hb dL_ends_101 ?_
  refine r_irem hx hb dL_ends_102 (by omega) (by omega) ?_
  refine r_top (2) (by decide) ?_
  refine r_if_ne (tgt := 154) hx hb dL_ends_103 (by decide) (by unfold rI; decide) (fun h103 => ?_) (fun h9 => absurd h9 (by omega))
  refine lv_iload_n hx hb dL_ends_154 rfl (lv_at hl 4 rfl) ?_
  refine r_iconst hx hb dL_ends_155 ?_
  refine r_irem hx hb dL_ends_156 (by omega) (by omega) ?_
  refine r_top (2) (by decide) ?_
  refine r_iconst hx hb dL_ends_157 ?_
  refine r_icmp_ne (tgt := 209) hx hb dL_ends_158 (by decide) (by unfold rI; decide) (by unfold rI; decide) (fun h158 => ?_) (fun h9 => absurd h9 (by omega))
  refine lv_aload_n hx hb dL_ends_209 rfl (lv_at hl 7 rfl) ?_
  refine r_iconst hx hb dL_ends_210 ?_
  refine q_Xi (As := [.int (iI (2))]) (rest := []) S (c_X1_ways l hst D cI cL tw (y0) (y2) (b) (pq) (cq) (0) (0) (4) (0) (sP_66) (sC_0) (2) (hb_66) (by omega) (by omega) (by omega) (by omega) (by omega)) (15) (fun z h => h.2.2.2.trans fq_269) (fun E h => by (try dsimp only at h); first | (rcases h with ⟨_, h⟩ | ⟨_, h⟩ <;> omega) | (obtain ⟨_, h⟩ := h; omega)) gL_ends_X1_ways rfl rfl rfl ⟨rfl, f_X1_ways⟩ hR (Nat.le_of_ble_eq_true rfl) (Nat.le_of_ble_eq_true rfl) (hE.kept hS.2.1) hP hS hA [0, 1, 2, 3, 4] rfl 0 rfl rfl rfl hl.1 rfl (Nat.le_of_ble_eq_true rfl) dL_ends_211 ⟨Nat.le_trans (Nat.le_of_ble_eq_true rfl) hRc.1, Nat.le_trans (Nat.le_of_ble_eq_true rfl) hRc.2⟩ (fun H locs hP hS => ?_)
  refine r_bipush hx hb dL_ends_214 (by decide) ?_
  refine r_icmp_ne (tgt := 237) hx hb dL_ends_216 (by decide) (by unfold rI; decide) (by unfold rI; decide) (fun h9 => absurd h9 (by omega)) (fun h216 => ?_)
  refine lv_aload_n hx hb dL_ends_219 rfl (lv_at hl 7 rfl) ?_
  refine r_iconst hx hb dL_ends_220 ?_
  refine r_iconst hx hb dL_ends_221 ?_
  refine lv_iload_n hx hb dL_ends_222 rfl (lv_at hl 3 rfl) ?_
  refine r_ishl hx hb (z := 1) dL_ends_223 (by decide) ?_
  refine lv_iload_n hx hb dL_ends_224 rfl (lv_at hl 3 rfl) ?_
  refine r_bipush hx hb dL_ends_225 (by decide) ?_
  refine q_LM (As := [.ref y0, .int (iI (4)), .int (iI (1)), .int (iI (0)), .int (iI (72))]) (rest := []) (wr := []) S (c_L_goes l hst D cI cL tw (y0) (y2) (b) (pq) (cq) (0) (4) (0) (sP_66) (sC_0) (4) (1) (0) (72) (1) (0) (0) (sP_67) (sC_0) (by omega) (by omega) (by omega) (fq_271)) (1) (()) (fun z u h => ⟨h, rfl⟩) gL_ends_L_goes rfl rfl rfl f_L_goes hR (Nat.le_of_ble_eq_true rfl) (Nat.le_of_ble_eq_true rfl) (hE.kept hS.2.1) hP hD hS hA [0, 1, 2, 3, 4] [] rfl rfl (by decide) rfl (by decide) (by decide) rfl hl.1 rfl (Nat.le_of_ble_eq_true rfl) dL_ends_227 ⟨Nat.le_trans (Nat.le_of_ble_eq_true rfl) hRc.1, Nat.le_trans (Nat.le_of_ble_eq_true rfl) hRc.2⟩ (fun H locs hP hD hS => ?_)
  have hP : va_P D vwCl [(y0, .inr (1, [.ref b, .ref y2, .int (iI (1)), .int (iI (0)), .int (iI (0)), .int (iI (4))])), (y2, .inl (cI, 4, .inl (aI sC_0))), (b, .inr (0, [.ref pq, .ref cq])), (pq, .inl (cI, 16, .inl (aI sP_67))), (cq, .inl (cI, 136, .inl (aI (cnt sP_67))))] H := hP
  have hD : va_D A [(y0, .inr (1, [.ref b, .ref y2, .int (iI (1)), .int (iI (0)), .int (iI (0)), .int (iI (4))])), (y2, .inl (cI, 4, .inl (aI sC_0))), (b, .inr (0, [.ref pq, .ref cq])), (pq, .inl (cI, 16, .inl (aI sP_67))), (cq, .inl (cI, 136, .inl (aI (cnt sP_67))))] := hD
  refine r_if_eq (tgt := 237) hx hb dL_ends_230 (by decide) (by unfold rI; decide) (fun h9 => absurd h9 (by omega)) (fun h230 => ?_)
  refine r_iconst hx hb dL_ends_233 ?_
  refine lv_goto (tgt := 238) hx hb dL_ends_234 (by decide) ?_
  refine lv_istore (lv' := [(6, .int (iI (1))), (5, .int (iI (15))), (4, .int (iI (1))), (3, .int (iI (0))), (2, .int (iI (0))), (1, .int (iI (14))), (7, .int (iI (2))), (0, .ref y0)]) hx hb dL_ends_238 hl (by decide) rfl (fun ls hl => ?_)
  refine lv_iload hx hb dL_ends_240 (lv_at hl 2 rfl) ?_
  refine r_if_eq (tgt := 250) hx hb dL_ends_242 (by decide) (by unfold rI; decide) (fun h9 => absurd h9 (by omega)) (fun h242 => ?_)
  refine lv_iload hx hb dL_ends_245 (lv_at hl 0 rfl) ?_
  refine r_if_ne (tgt := 252) hx hb dL_ends_247 (by decide) (by unfold rI; decide) (fun h247 => ?_) (fun h9 => absurd h9 (by omega))
  refine lv_iload_n hx hb dL_ends_252 rfl (lv_at hl 5 rfl) ?_
  refine r_bipush hx hb dL_ends_253 (by decide) ?_
  refine r_icmp_ne (tgt := 261) hx hb dL_ends_255 (by decide) (by unfold rI; decide) (by unfold rI; decide) (fun h255 => ?_) (fun h9 => absurd h9 (by omega))
  refine r_iconst hx hb dL_ends_261 ?_
  refine lv_istore (lv' := [(7, .int (iI (1))), (6, .int (iI (1))), (5, .int (iI (15))), (4, .int (iI (1))), (3, .int (iI (0))), (2, .int (iI (0))), (1, .int (iI (14))), (0, .ref y0)]) hx hb dL_ends_262 hl (by decide) rfl (fun ls hl => ?_)
  refine lv_iload hx hb dL_ends_264 (lv_at hl 0 rfl) ?_
  refine lv_iload_n hx hb dL_ends_266 rfl (lv_at hl 6 rfl) ?_
  refine r_bipush hx hb dL_ends_267 (by decide) ?_
  refine r_icmp_ge (tgt := 276) hx hb dL_ends_269 (by decide) (by unfold rI; decide) (by unfold rI; decide) (fun h269 => ?_) (fun h9 => absurd h9 (by omega))
  refine r_iconst hx hb dL_ends_276 ?_
  refine r_icmp_ge (tgt := 301) hx hb dL_ends_277 (by decide) (by unfold rI; decide) (by unfold rI; decide) (fun h9 => absurd h9 (by omega)) (fun h277 => ?_)
  refine lv_aload_n hx hb dL_ends_280 rfl (lv_at hl 7 rfl) ?_
  refine lv_iload_n hx hb dL_ends_281 rfl (lv_at hl 4 rfl) ?_
  refine lv_iload hx hb dL_ends_282 (lv_at hl 0 rfl) ?_
  refine r_iadd hx hb dL_ends_284 ?_
  refine r_top (1) (by decide) ?_
  refine r_iconst hx hb dL_ends_285 ?_
  refine r_irem hx hb dL_ends_286 (by omega) (by omega) ?_
  refine r_top (1) (by decide) ?_
  refine q_LM (As := [.ref y0, .int (iI (1))]) (rest := []) (wr := []) S (c_L_loses l hst D cI cL tw (y0) (y2) (b) (pq) (cq) (1) (4) (0) (sP_67) (sC_0) (2) (hb_67) (by omega) (by omega) (by omega) (fq_272) (by omega)) (1) (()) (fun z u h => ⟨h, rfl⟩) gL_ends_L_loses rfl rfl rfl f_L_loses hR (Nat.le_of_ble_eq_true rfl) (Nat.le_of_ble_eq_true rfl) (hE.kept hS.2.1) hP hD hS hA [0, 1, 2, 3, 4] [] rfl rfl (by decide) rfl (by decide) (by decide) rfl hl.1 rfl (Nat.le_of_ble_eq_true rfl) dL_ends_287 ⟨Nat.le_trans (Nat.le_of_ble_eq_true rfl) hRc.1, Nat.le_trans (Nat.le_of_ble_eq_true rfl) hRc.2⟩ (fun H locs hP hD hS => ?_)
  have hP : va_P D vwCl [(y0, .inr (1, [.ref b, .ref y2, .int (iI (2)), .int (iI (0)), .int (iI (0)), .int (iI (4))])), (y2, .inl (cI, 4, .inl (aI sC_0))), (b, .inr (0, [.ref pq, .ref cq])), (pq, .inl (cI, 16, .inl (aI sP_67))), (cq, .inl (cI, 136, .inl (aI (cnt sP_67))))] H := hP
  have hD : va_D A [(y0, .inr (1, [.ref b, .ref y2, .int (iI (2)), .int (iI (0)), .int (iI (0)), .int (iI (4))])), (y2, .inl (cI, 4, .inl (aI sC_0))), (b, .inr (0, [.ref pq, .ref cq])), (pq, .inl (cI, 16, .inl (aI sP_67))), (cq, .inl (cI, 136, .inl (aI (cnt sP_67))))] := hD
  refine r_if_ne (tgt := 295) hx hb dL_ends_290 (by decide) (by unfold rI; decide) (fun h290 => ?_) (fun h9 => absurd h9 (by omega))
  refine lv_iinc (v := iI (2)) (lv' := [(7, .int (iI (2))), (6, .int (iI (1))), (5, .int (iI (15))), (4, .int (iI (1))), (3, .int (iI (0))), (2, .int (iI (0))), (1, .int (iI (14))), (0, .ref y0)]) hx hb dL_ends_295 hl (k := 0) rfl (by decide) (by decide) rfl (fun ls hl => ?_)
  refine lv_goto (tgt := 264) hx hb dL_ends_298 (by decide) ?_
  refine lv_iload hx hb dL_ends_264 (lv_at hl 0 rfl) ?_
  refine lv_iload_n hx hb dL_ends_266 rfl (lv_at hl 6 rfl) ?_
  refine r_bipush hx hb dL_ends_267 (by decide) ?_
  refine r_icmp_ge (tgt := 276) hx hb dL_ends_269 (by decide) (by unfold rI; decide) (by unfold rI; decide) (fun h269 => ?_) (fun h9 => absurd h9 (by omega))
  refine r_iconst hx hb dL_ends_276 ?_
  refine r_icmp_ge (tgt := 301) hx hb dL_ends_277 (by decide) (by unfold rI; decide) (by unfold rI; decide) (fun h277 => ?_) (fun h9 => absurd h9 (by omega))
  refine lv_iinc (v := iI (15)) (lv' := [(1, .int (iI (15))), (7, .int (iI (2))), (6, .int (iI (1))), (5, .int (iI (15))), (4, .int (iI (1))), (3, .int (iI (0))), (2, .int (iI (0))), (0, .ref y0)]) hx hb dL_ends_301 hl (k := 6) rfl (by decide) (by decide) rfl (fun ls hl => ?_)
  refine lv_goto (tgt := 10) hx hb dL_ends_304 (by decide) ?_
  exact sg_L_ends_16 S hst hR hRc hE hA y0 y2 b pq cq  hret hP hD hS hl
set_option maxHeartbeats 4000000 in
set_option maxRecDepth 100000 in
theorem sg_L_ends_14 {p : Program} {l : Launch} {e : Env} {R : Room} {s : State} {mt : MethodId} {args : Array Value} {below : List Frame} {meth : Method} {c : Code} {H0 : Heap} {Q : State → Prop} {A : Nat → Prop} {D : va_G} {cI cL : ClassId} {tw : Nat} (S : CallFix p mt c cL_ends 8 s args wsL_ends RL) (hst : l.stackTraces = false) (hR : 15 ≤ R.frames ∧ 377 ≤ R.locals) (hRc : 527 ≤ R.cells ∧ 3296 ≤ R.slots) (hE : EV D cI cL tw A s H0) (hA : ∀ q : Nat, H0.size ≤ q → A q) (y0 : Nat) (y2 : Nat) (b : Nat) (pq : Nat) (cq : Nat)  (hret : ∀ (z : Int) (u : Unit) (pc : Nat) (ls : Array Slot) (H : Heap) (locs : List Loc) (cells slots : Nat), decode cL_ends pc = .ok (.ireturn, 1) → (z = 1) → va_P D vwCl [] H → va_D A [] → va_S A H0 H locs → cells ≤ 527 → slots ≤ 3296 → W p l e R s mt args below meth c H locs cells slots Q (F0 mt pc ls [.int (iI z)])) {H : Heap} {locs : List Loc} {ls : Array Slot} (hP : va_P D vwCl [(y0, .inr (1, [.ref b, .ref y2, .int (iI (2)), .int (iI (0)), .int (iI (0)), .int (iI (3))])), (y2, .inl (cI, 4, .inl (aI sC_0))), (b, .inr (0, [.ref pq, .ref cq])), (pq, .inl (cI, 16, .inl (aI sP_63))), (cq, .inl (cI, 136, .inl (aI (cnt sP_63))))] H) (hD : va_D A [(y0, .inr (1, [.ref b, .ref y2, .int (iI (2)), .int (iI (0)), .int (iI (0)), .int (iI (3))])), (y2, .inl (cI, 4, .inl (aI sC_0))), (b, .inr (0, [.ref pq, .ref cq])), (pq, .inl (cI, 16, .inl (aI sP_63))), (cq, .inl (cI, 136, .inl (aI (cnt sP_63))))]) (hS : va_S A H0 H locs) (hl : lv_has ls 8 [(1, .int (iI (13))), (7, .int (iI (2))), (6, .int (iI (1))), (5, .int (iI (15))), (4, .int (iI (1))), (3, .int (iI (0))), (2, .int (iI (0))), (0, .ref y0)]) : W p l e R s mt args below meth c H locs 214 1418 Q (F0 mt 10 ls []) := by
  obtain ⟨hx, hb, hml, hown, hts⟩ := id S
  refine lv_iload_n hx hb dL_ends_10 rfl (lv_at hl 0 rfl) ?_
  refine r_bipush hx hb dL_ends_11 (by decide) ?_
  refine r_icmp_ge (tgt := 307) hx hb dL_ends_13 (by decide) (by unfold rI; decide) (by unfold rI; decide) (fun h9 => absurd h9 (by omega)) (fun h13 => ?_)
  refine lv_iload_n hx hb dL_ends_16 rfl (lv_at hl 0 rfl) ?_
  refine r_iconst hx hb dL_ends_17 ?_
  refine r_idiv hx hb dL_ends_18 (by omega) (by omega) ?_
  refine r_top (4) (by decide) ?_
  refine r_iconst hx hb dL_ends_19 ?_
  refine r_irem hx hb dL_ends_20 (by omega) (by omega) ?_
  refine r_top (0) (by decide) ?_
  refine lv_istore_n (lv' := [(2, .int (iI (0))), (1, .int (iI (13))), (7, .int (iI (2))), (6, .int (iI (1))), (5, .int (iI (15))), (4, .int (iI (1))), (3, .int (iI (0))), (0, .ref y0)]) hx hb dL_ends_21 rfl hl (by decide) rfl (fun ls hl => ?_)
  refine lv_iload_n hx hb dL_ends_22 rfl (lv_at hl 1 rfl) ?_
  refine r_bipush hx hb dL_ends_23 (by decide) ?_
  refine r_icmp_ge (tgt := 32) hx hb dL_ends_25 (by decide) (by unfold rI; decide) (by unfold rI; decide) (fun h25 => ?_) (fun h9 => absurd h9 (by omega))
  refine lv_iload_n hx hb dL_ends_32 rfl (lv_at hl 1 rfl) ?_
  refine r_iconst hx hb dL_ends_33 ?_
  refine r_irem hx hb dL_ends_34 (by omega) (by omega) ?_
  refine r_top (1) (by decide) ?_
  refine r_iconst hx hb dL_ends_35 ?_
  refine r_imul hx hb dL_ends_36 ?_
  refine r_top (2) (by decide) ?_
  refine lv_istore_n (lv' := [(3, .int (iI (2))), (2, .int (iI (0))), (1, .int (iI (13))), (7, .int (iI (2))), (6, .int (iI (1))), (5, .int (iI (15))), (4, .int (iI (1))), (0, .ref y0)]) hx hb dL_ends_37 rfl hl (by decide) rfl (fun ls hl => ?_)
  refine lv_aload_n hx hb dL_ends_38 rfl (lv_at hl 7 rfl) ?_
  refine q_RO (As := []) (rest := []) S (c_X1_onTurn l D cI cL tw (y0) (y2) (b) (pq) (cq) (2) (0) (3) (0) (sP_63) (sC_0) (hb_63) (by omega) (by omega) (by omega) (by omega)) (2) (fun z h => h) gL_ends_X1_onTurn rfl rfl rfl ⟨rfl, f_X1_onTurn⟩ hR (Nat.le_of_ble_eq_true rfl) (Nat.le_of_ble_eq_true rfl) (hE.kept hS.2.1) hP [0, 1, 2, 3, 4] rfl 0 rfl rfl rfl hl.1 rfl (Nat.le_of_ble_eq_true rfl) dL_ends_39 ⟨Nat.le_trans (Nat.le_of_ble_eq_true rfl) hRc.1, Nat.le_trans (Nat.le_of_ble_eq_true rfl) hRc.2⟩ ?_
  refine lv_iload_n hx hb dL_ends_42 rfl (lv_at hl 0 rfl) ?_
  refine r_icmp_ne (tgt := 87) hx hb dL_ends_43 (by decide) (by unfold rI; decide) (by unfold rI; decide) (fun h9 => absurd h9 (by omega)) (fun h43 => ?_)
  refine lv_aload_n hx hb dL_ends_46 rfl (lv_at hl 7 rfl) ?_
  refine q_RO (As := []) (rest := []) S (c_X1_mover l D cI cL tw (y0) (y2) (b) (pq) (cq) (2) (0) (3) (0) (sP_63) (sC_0) (hb_63) (by omega) (by omega) (by omega) (by omega)) (2) (fun z h => h.trans fq_258) gL_ends_X1_mover rfl rfl rfl ⟨rfl, f_X1_mover⟩ hR (Nat.le_of_ble_eq_true rfl) (Nat.le_of_ble_eq_true rfl) (hE.kept hS.2.1) hP [0, 1, 2, 3, 4] rfl 0 rfl rfl rfl hl.1 rfl (Nat.le_of_ble_eq_true rfl) dL_ends_47 ⟨Nat.le_trans (Nat.le_of_ble_eq_true rfl) hRc.1, Nat.le_trans (Nat.le_of_ble_eq_true rfl) hRc.2⟩ ?_
  refine lv_iload_n hx hb dL_ends_50 rfl (lv_at hl 2 rfl) ?_
  refine r_bipush hx hb dL_ends_51 (by decide) ?_
  refine r_icmp_ge (tgt := 60) hx hb dL_ends_53 (by decide) (by unfold rI; decide) (by unfold rI; decide) (fun h53 => ?_) (fun h9 => absurd h9 (by omega))
  refine r_iconst hx hb dL_ends_60 ?_
  refine r_icmp_ne (tgt := 87) hx hb dL_ends_61 (by decide) (by unfold rI; decide) (by unfold rI; decide) (fun h9 => absurd h9 (by omega)) (fun h61 => ?_)
  refine lv_aload_n hx hb dL_ends_64 rfl (lv_at hl 7 rfl) ?_
  refine lv_iload_n hx hb dL_ends_65 rfl (lv_at hl 2 rfl) ?_
  refine r_bipush hx hb dL_ends_66 (by decide) ?_
  refine r_icmp_ge (tgt := 75) hx hb dL_ends_68 (by decide) (by unfold rI; decide) (by unfold rI; decide) (fun h68 => ?_) (fun h9 => absurd h9 (by omega))
  refine r_iconst hx hb dL_ends_75 ?_
  refine q_Xi (As := [.int (iI (2))]) (rest := []) S (c_X1_home l hst D cI cL tw (y0) (y2) (b) (pq) (cq) (2) (0) (3) (0) (sP_63) (sC_0) (2) (hb_63) (by omega) (by omega) (by omega) (by omega) (by omega)) (0) (fun z h => h.2.2.trans fq_259) (fun E h => by (try dsimp only at h); first | (rcases h with ⟨_, h⟩ | ⟨_, h⟩ <;> omega) | (obtain ⟨_, h⟩ := h; omega)) gL_ends_X1_home rfl rfl rfl ⟨rfl, f_X1_home⟩ hR (Nat.le_of_ble_eq_true rfl) (Nat.le_of_ble_eq_true rfl) (hE.kept hS.2.1) hP hS hA [0, 1, 2, 3, 4] rfl 0 rfl rfl rfl hl.1 rfl (Nat.le_of_ble_eq_true rfl) dL_ends_76 ⟨Nat.le_trans (Nat.le_of_ble_eq_true rfl) hRc.1, Nat.le_trans (Nat.le_of_ble_eq_true rfl) hRc.2⟩ (fun H locs hP hS => ?_)
  refine lv_iload_n hx hb dL_ends_79 rfl (lv_at hl 1 rfl) ?_
  refine r_icmp_ne (tgt := 87) hx hb dL_ends_80 (by decide) (by unfold rI; decide) (by unfold rI; decide) (fun h9 => absurd h9 (by omega)) (fun h80 => ?_)
  refine r_iconst hx hb dL_ends_83 ?_
  refine lv_goto (tgt := 88) hx hb dL_ends_84 (by decide) ?_
  refine lv_istore (lv' := [(4, .int (iI (1))), (3, .int (iI (2))), (2, .int (iI (0))), (1, .int (iI (13))), (7, .int (iI (2))), (6, .int (iI (1))), (5, .int (iI (15))), (0, .ref y0)]) hx hb dL_ends_88 hl (by decide) rfl (fun ls hl => ?_)
  refine r_bipush hx hb dL_ends_90 (by decide) ?_
  refine r_iconst hx hb dL_ends_92 ?_
  refine lv_iload_n hx hb dL_ends_93 rfl (lv_at hl 2 rfl) ?_
  refine r_ishl hx hb (z := 1) dL_ends_94 (by decide) ?_
  refine r_isub hx hb dL_ends_95 ?_
  refine r_top (14) (by decide) ?_
  refine r_iconst hx hb dL_ends_96 ?_
  refine r_iadd hx hb dL_ends_97 ?_
  refine r_top (15) (by decide) ?_
  refine lv_istore (lv' := [(5, .int (iI (15))), (4, .int (iI (1))), (3, .int (iI (2))), (2, .int (iI (0))), (1, .int (iI (13))), (7, .int (iI (2))), (6, .int (iI (1))), (0, .ref y0)]) hx hb dL_ends_98 hl (by decide) rfl (fun ls hl => ?_)
  refine lv_iload_n hx hb dL_ends_100 rfl (lv_at hl 4 rfl) ?_
  refine r_iconst hx hb dL_ends_101 ?_
  refine r_irem hx hb dL_ends_102 (by omega) (by omega) ?_
  refine r_top (1) (by decide) ?_
  refine r_if_ne (tgt := 154) hx hb dL_ends_103 (by decide) (by unfold rI; decide) (fun h103 => ?_) (fun h9 => absurd h9 (by omega))
  refine lv_iload_n hx hb dL_ends_154 rfl (lv_at hl 4 rfl) ?_
  refine r_iconst hx hb dL_ends_155 ?_
  refine r_irem hx hb dL_ends_156 (by omega) (by omega) ?_
  refine r_top (1) (by decide) ?_
  refine r_iconst hx hb dL_ends_157 ?_
  refine r_icmp_ne (tgt := 209) hx hb dL_ends_158 (by decide) (by unfold rI; decide) (by unfold rI; decide) (fun h9 => absurd h9 (by omega)) (fun h158 => ?_)
  refine lv_aload_n hx hb dL_ends_161 rfl (lv_at hl 7 rfl) ?_
  refine r_iconst hx hb dL_ends_162 ?_
  refine lv_iload hx hb dL_ends_163 (lv_at hl 0 rfl) ?_
  refine lv_iload_n hx hb dL_ends_165 rfl (lv_at hl 3 rfl) ?_
  refine r_bipush hx hb dL_ends_166 (by decide) ?_
  refine q_LM (As := [.ref y0, .int (iI (0)), .int (iI (15)), .int (iI (0)), .int (iI (54))]) (rest := []) (wr := []) S (c_L_goes l hst D cI cL tw (y0) (y2) (b) (pq) (cq) (2) (3) (0) (sP_63) (sC_0) (0) (15) (0) (54) (2) (1) (0) (sP_64) (sC_0) (by omega) (by omega) (by omega) (fq_261)) (1) (()) (fun z u h => ⟨h, rfl⟩) gL_ends_L_goes rfl rfl rfl f_L_goes hR (Nat.le_of_ble_eq_true rfl) (Nat.le_of_ble_eq_true rfl) (hE.kept hS.2.1) hP hD hS hA [0, 1, 2, 3, 4] [] rfl rfl (by decide) rfl (by decide) (by decide) rfl hl.1 rfl (Nat.le_of_ble_eq_true rfl) dL_ends_168 ⟨Nat.le_trans (Nat.le_of_ble_eq_true rfl) hRc.1, Nat.le_trans (Nat.le_of_ble_eq_true rfl) hRc.2⟩ (fun H locs hP hD hS => ?_)
  have hP : va_P D vwCl [(y0, .inr (1, [.ref b, .ref y2, .int (iI (2)), .int (iI (1)), .int (iI (0)), .int (iI (0))])), (y2, .inl (cI, 4, .inl (aI sC_0))), (b, .inr (0, [.ref pq, .ref cq])), (pq, .inl (cI, 16, .inl (aI sP_64))), (cq, .inl (cI, 136, .inl (aI (cnt sP_64))))] H := hP
  have hD : va_D A [(y0, .inr (1, [.ref b, .ref y2, .int (iI (2)), .int (iI (1)), .int (iI (0)), .int (iI (0))])), (y2, .inl (cI, 4, .inl (aI sC_0))), (b, .inr (0, [.ref pq, .ref cq])), (pq, .inl (cI, 16, .inl (aI sP_64))), (cq, .inl (cI, 136, .inl (aI (cnt sP_64))))] := hD
  refine r_if_eq (tgt := 205) hx hb dL_ends_171 (by decide) (by unfold rI; decide) (fun h9 => absurd h9 (by omega)) (fun h171 => ?_)
  refine lv_aload_n hx hb dL_ends_174 rfl (lv_at hl 7 rfl) ?_
  refine r_iconst hx hb dL_ends_175 ?_
  refine lv_iload hx hb dL_ends_176 (lv_at hl 0 rfl) ?_
  refine lv_iload_n hx hb dL_ends_178 rfl (lv_at hl 3 rfl) ?_
  refine r_bipush hx hb dL_ends_179 (by decide) ?_
  refine q_LM (As := [.ref y0, .int (iI (1)), .int (iI (15)), .int (iI (0)), .int (iI (64))]) (rest := []) (wr := []) S (c_L_goes l hst D cI cL tw (y0) (y2) (b) (pq) (cq) (2) (0) (1) (sP_64) (sC_0) (1) (15) (0) (64) (2) (2) (0) (sP_65) (sC_0) (by omega) (by omega) (by omega) (fq_263)) (1) (()) (fun z u h => ⟨h, rfl⟩) gL_ends_L_goes rfl rfl rfl f_L_goes hR (Nat.le_of_ble_eq_true rfl) (Nat.le_of_ble_eq_true rfl) (hE.kept hS.2.1) hP hD hS hA [0, 1, 2, 3, 4] [] rfl rfl (by decide) rfl (by decide) (by decide) rfl hl.1 rfl (Nat.le_of_ble_eq_true rfl) dL_ends_181 ⟨Nat.le_trans (Nat.le_of_ble_eq_true rfl) hRc.1, Nat.le_trans (Nat.le_of_ble_eq_true rfl) hRc.2⟩ (fun H locs hP hD hS => ?_)
  have hP : va_P D vwCl [(y0, .inr (1, [.ref b, .ref y2, .int (iI (2)), .int (iI (2)), .int (iI (0)), .int (iI (1))])), (y2, .inl (cI, 4, .inl (aI sC_0))), (b, .inr (0, [.ref pq, .ref cq])), (pq, .inl (cI, 16, .inl (aI sP_65))), (cq, .inl (cI, 136, .inl (aI (cnt sP_65))))] H := hP
  have hD : va_D A [(y0, .inr (1, [.ref b, .ref y2, .int (iI (2)), .int (iI (2)), .int (iI (0)), .int (iI (1))])), (y2, .inl (cI, 4, .inl (aI sC_0))), (b, .inr (0, [.ref pq, .ref cq])), (pq, .inl (cI, 16, .inl (aI sP_65))), (cq, .inl (cI, 136, .inl (aI (cnt sP_65))))] := hD
  refine r_if_eq (tgt := 205) hx hb dL_ends_184 (by decide) (by unfold rI; decide) (fun h9 => absurd h9 (by omega)) (fun h184 => ?_)
  refine lv_aload_n hx hb dL_ends_187 rfl (lv_at hl 7 rfl) ?_
  refine r_iconst hx hb dL_ends_188 ?_
  refine r_iconst hx hb dL_ends_189 ?_
  refine lv_iload_n hx hb dL_ends_190 rfl (lv_at hl 3 rfl) ?_
  refine r_ishl hx hb (z := 1) dL_ends_191 (by decide) ?_
  refine lv_iload_n hx hb dL_ends_192 rfl (lv_at hl 3 rfl) ?_
  refine r_bipush hx hb dL_ends_193 (by decide) ?_
  refine q_LM (As := [.ref y0, .int (iI (4)), .int (iI (1)), .int (iI (0)), .int (iI (68))]) (rest := []) (wr := []) S (c_L_goes l hst D cI cL tw (y0) (y2) (b) (pq) (cq) (2) (1) (2) (sP_65) (sC_0) (4) (1) (0) (68) (3) (0) (0) (sP_66) (sC_0) (by omega) (by omega) (by omega) (fq_265)) (1) (()) (fun z u h => ⟨h, rfl⟩) gL_ends_L_goes rfl rfl rfl f_L_goes hR (Nat.le_of_ble_eq_true rfl) (Nat.le_of_ble_eq_true rfl) (hE.kept hS.2.1) hP hD hS hA [0, 1, 2, 3, 4] [] rfl rfl (by decide) rfl (by decide) (by decide) rfl hl.1 rfl (Nat.le_of_ble_eq_true rfl) dL_ends_195 ⟨Nat.le_trans (Nat.le_of_ble_eq_true rfl) hRc.1, Nat.le_trans (Nat.le_of_ble_eq_true rfl) hRc.2⟩ (fun H locs hP hD hS => ?_)
  have hP : va_P D vwCl [(y0, .inr (1, [.ref b, .ref y2, .int (iI (3)), .int (iI (0)), .int (iI (0)), .int (iI (4))])), (y2, .inl (cI, 4, .inl (aI sC_0))), (b, .inr (0, [.ref pq, .ref cq])), (pq, .inl (cI, 16, .inl (aI sP_66))), (cq, .inl (cI, 136, .inl (aI (cnt sP_66))))] H := hP
  have hD : va_D A [(y0, .inr (1, [.ref b, .ref y2, .int (iI (3)), .int (iI (0)), .int (iI (0)), .int (iI (4))])), (y2, .inl (cI, 4, .inl (aI sC_0))), (b, .inr (0, [.ref pq, .ref cq])), (pq, .inl (cI, 16, .inl (aI sP_66))), (cq, .inl (cI, 136, .inl (aI (cnt sP_66))))] := hD
  refine r_if_eq (tgt := 205) hx hb dL_ends_198 (by decide) (by unfold rI; decide) (fun h9 => absurd h9 (by omega)) (fun h198 => ?_)
  refine r_iconst hx hb dL_ends_201 ?_
  refine lv_goto (tgt := 238) hx hb dL_ends_202 (by decide) ?_
  refine lv_istore (lv' := [(6, .int (iI (1))), (5, .int (iI (15))), (4, .int (iI (1))), (3, .int (iI (2))), (2, .int (iI (0))), (1, .int (iI (13))), (7, .int (iI (2))), (0, .ref y0)]) hx hb dL_ends_238 hl (by decide) rfl (fun ls hl => ?_)
  refine lv_iload hx hb dL_ends_240 (lv_at hl 2 rfl) ?_
  refine r_if_eq (tgt := 250) hx hb dL_ends_242 (by decide) (by unfold rI; decide) (fun h9 => absurd h9 (by omega)) (fun h242 => ?_)
  refine lv_iload hx hb dL_ends_245 (lv_at hl 0 rfl) ?_
  refine r_if_ne (tgt := 252) hx hb dL_ends_247 (by decide) (by unfold rI; decide) (fun h247 => ?_) (fun h9 => absurd h9 (by omega))
  refine lv_iload_n hx hb dL_ends_252 rfl (lv_at hl 5 rfl) ?_
  refine r_bipush hx hb dL_ends_253 (by decide) ?_
  refine r_icmp_ne (tgt := 261) hx hb dL_ends_255 (by decide) (by unfold rI; decide) (by unfold rI; decide) (fun h255 => ?_) (fun h9 => absurd h9 (by omega))
  refine r_iconst hx hb dL_ends_261 ?_
  refine lv_istore (lv' := [(7, .int (iI (1))), (6, .int (iI (1))), (5, .int (iI (15))), (4, .int (iI (1))), (3, .int (iI (2))), (2, .int (iI (0))), (1, .int (iI (13))), (0, .ref y0)]) hx hb dL_ends_262 hl (by decide) rfl (fun ls hl => ?_)
  refine lv_iload hx hb dL_ends_264 (lv_at hl 0 rfl) ?_
  refine lv_iload_n hx hb dL_ends_266 rfl (lv_at hl 6 rfl) ?_
  refine r_bipush hx hb dL_ends_267 (by decide) ?_
  refine r_icmp_ge (tgt := 276) hx hb dL_ends_269 (by decide) (by unfold rI; decide) (by unfold rI; decide) (fun h269 => ?_) (fun h9 => absurd h9 (by omega))
  refine r_iconst hx hb dL_ends_276 ?_
  refine r_icmp_ge (tgt := 301) hx hb dL_ends_277 (by decide) (by unfold rI; decide) (by unfold rI; decide) (fun h9 => absurd h9 (by omega)) (fun h277 => ?_)
  refine lv_aload_n hx hb dL_ends_280 rfl (lv_at hl 7 rfl) ?_
  refine lv_iload_n hx hb dL_ends_281 rfl (lv_at hl 4 rfl) ?_
  refine lv_iload hx hb dL_ends_282 (lv_at hl 0 rfl) ?_
  refine r_iadd hx hb dL_ends_284 ?_
  refine r_top (3) (by decide) ?_
  refine r_iconst hx hb dL_ends_285 ?_
  refine r_irem hx hb dL_ends_286 (by omega) (by omega) ?_
  refine r_top (3) (by decide) ?_
  refine q_LM (As := [.ref y0, .int (iI (3))]) (rest := []) (wr := []) S (c_L_loses l hst D cI cL tw (y0) (y2) (b) (pq) (cq) (3) (4) (0) (sP_66) (sC_0) (0) (hb_66) (by omega) (by omega) (by omega) (fq_266) (by omega)) (1) (()) (fun z u h => ⟨h, rfl⟩) gL_ends_L_loses rfl rfl rfl f_L_loses hR (Nat.le_of_ble_eq_true rfl) (Nat.le_of_ble_eq_true rfl) (hE.kept hS.2.1) hP hD hS hA [0, 1, 2, 3, 4] [] rfl rfl (by decide) rfl (by decide) (by decide) rfl hl.1 rfl (Nat.le_of_ble_eq_true rfl) dL_ends_287 ⟨Nat.le_trans (Nat.le_of_ble_eq_true rfl) hRc.1, Nat.le_trans (Nat.le_of_ble_eq_true rfl) hRc.2⟩ (fun H locs hP hD hS => ?_)
  have hP : va_P D vwCl [(y0, .inr (1, [.ref b, .ref y2, .int (iI (0)), .int (iI (0)), .int (iI (0)), .int (iI (4))])), (y2, .inl (cI, 4, .inl (aI sC_0))), (b, .inr (0, [.ref pq, .ref cq])), (pq, .inl (cI, 16, .inl (aI sP_66))), (cq, .inl (cI, 136, .inl (aI (cnt sP_66))))] H := hP
  have hD : va_D A [(y0, .inr (1, [.ref b, .ref y2, .int (iI (0)), .int (iI (0)), .int (iI (0)), .int (iI (4))])), (y2, .inl (cI, 4, .inl (aI sC_0))), (b, .inr (0, [.ref pq, .ref cq])), (pq, .inl (cI, 16, .inl (aI sP_66))), (cq, .inl (cI, 136, .inl (aI (cnt sP_66))))] := hD
  refine r_if_ne (tgt := 295) hx hb dL_ends_290 (by decide) (by unfold rI; decide) (fun h290 => ?_) (fun h9 => absurd h9 (by omega))
  refine lv_iinc (v := iI (2)) (lv' := [(7, .int (iI (2))), (6, .int (iI (1))), (5, .int (iI (15))), (4, .int (iI (1))), (3, .int (iI (2))), (2, .int (iI (0))), (1, .int (iI (13))), (0, .ref y0)]) hx hb dL_ends_295 hl (k := 0) rfl (by decide) (by decide) rfl (fun ls hl => ?_)
  refine lv_goto (tgt := 264) hx hb dL_ends_298 (by decide) ?_
  refine lv_iload hx hb dL_ends_264 (lv_at hl 0 rfl) ?_
  refine lv_iload_n hx hb dL_ends_266 rfl (lv_at hl 6 rfl) ?_
  refine r_bipush hx hb dL_ends_267 (by decide) ?_
  refine r_icmp_ge (tgt := 276) hx hb dL_ends_269 (by decide) (by unfold rI; decide) (by unfold rI; decide) (fun h269 => ?_) (fun h9 => absurd h9 (by omega))
  refine r_iconst hx hb dL_ends_276 ?_
  refine r_icmp_ge (tgt := 301) hx hb dL_ends_277 (by decide) (by unfold rI; decide) (by unfold rI; decide) (fun h277 => ?_) (fun h9 => absurd h9 (by omega))
  refine lv_iinc (v := iI (14)) (lv' := [(1, .int (iI (14))), (7, .int (iI (2))), (6, .int (iI (1))), (5, .int (iI (15))), (4, .int (iI (1))), (3, .int (iI (2))), (2, .int (iI (0))), (0, .ref y0)]) hx hb dL_ends_301 hl (k := 6) rfl (by decide) (by decide) rfl (fun ls hl => ?_)
  refine lv_goto (tgt := 10) hx hb dL_ends_304 (by decide) ?_
  exact sg_L_ends_15 S hst hR hRc hE hA y0 y2 b pq cq  hret hP hD hS hl
set_option maxHeartbeats 4000000 in
set_option maxRecDepth 100000 in
theorem sg_L_ends_13 {p : Program} {l : Launch} {e : Env} {R : Room} {s : State} {mt : MethodId} {args : Array Value} {below : List Frame} {meth : Method} {c : Code} {H0 : Heap} {Q : State → Prop} {A : Nat → Prop} {D : va_G} {cI cL : ClassId} {tw : Nat} (S : CallFix p mt c cL_ends 8 s args wsL_ends RL) (hst : l.stackTraces = false) (hR : 15 ≤ R.frames ∧ 377 ≤ R.locals) (hRc : 527 ≤ R.cells ∧ 3296 ≤ R.slots) (hE : EV D cI cL tw A s H0) (hA : ∀ q : Nat, H0.size ≤ q → A q) (y0 : Nat) (y2 : Nat) (b : Nat) (pq : Nat) (cq : Nat)  (hret : ∀ (z : Int) (u : Unit) (pc : Nat) (ls : Array Slot) (H : Heap) (locs : List Loc) (cells slots : Nat), decode cL_ends pc = .ok (.ireturn, 1) → (z = 1) → va_P D vwCl [] H → va_D A [] → va_S A H0 H locs → cells ≤ 527 → slots ≤ 3296 → W p l e R s mt args below meth c H locs cells slots Q (F0 mt pc ls [.int (iI z)])) {H : Heap} {locs : List Loc} {ls : Array Slot} (hP : va_P D vwCl [(y0, .inr (1, [.ref b, .ref y2, .int (iI (0)), .int (iI (0)), .int (iI (0)), .int (iI (4))])), (y2, .inl (cI, 4, .inl (aI sC_0))), (b, .inr (0, [.ref pq, .ref cq])), (pq, .inl (cI, 16, .inl (aI sP_60))), (cq, .inl (cI, 136, .inl (aI (cnt sP_60))))] H) (hD : va_D A [(y0, .inr (1, [.ref b, .ref y2, .int (iI (0)), .int (iI (0)), .int (iI (0)), .int (iI (4))])), (y2, .inl (cI, 4, .inl (aI sC_0))), (b, .inr (0, [.ref pq, .ref cq])), (pq, .inl (cI, 16, .inl (aI sP_60))), (cq, .inl (cI, 136, .inl (aI (cnt sP_60))))]) (hS : va_S A H0 H locs) (hl : lv_has ls 8 [(1, .int (iI (12))), (7, .int (iI (4))), (6, .int (iI (1))), (5, .int (iI (8))), (4, .int (iI (1))), (3, .int (iI (0))), (2, .int (iI (3))), (0, .ref y0)]) : W p l e R s mt args below meth c H locs 197 1316 Q (F0 mt 10 ls []) := by
  obtain ⟨hx, hb, hml, hown, hts⟩ := id S
  refine lv_iload_n hx hb dL_ends_10 rfl (lv_at hl 0 rfl) ?_
  refine r_bipush hx hb dL_ends_11 (by decide) ?_
  refine r_icmp_ge (tgt := 307) hx hb dL_ends_13 (by decide) (by unfold rI; decide) (by unfold rI; decide) (fun h9 => absurd h9 (by omega)) (fun h13 => ?_)
  refine lv_iload_n hx hb dL_ends_16 rfl (lv_at hl 0 rfl) ?_
  refine r_iconst hx hb dL_ends_17 ?_
  refine r_idiv hx hb dL_ends_18 (by omega) (by omega) ?_
  refine r_top (4) (by decide) ?_
  refine r_iconst hx hb dL_ends_19 ?_
  refine r_irem hx hb dL_ends_20 (by omega) (by omega) ?_
  refine r_top (0) (by decide) ?_
  refine lv_istore_n (lv' := [(2, .int (iI (0))), (1, .int (iI (12))), (7, .int (iI (4))), (6, .int (iI (1))), (5, .int (iI (8))), (4, .int (iI (1))), (3, .int (iI (0))), (0, .ref y0)]) hx hb dL_ends_21 rfl hl (by decide) rfl (fun ls hl => ?_)
  refine lv_iload_n hx hb dL_ends_22 rfl (lv_at hl 1 rfl) ?_
  refine r_bipush hx hb dL_ends_23 (by decide) ?_
  refine r_icmp_ge (tgt := 32) hx hb dL_ends_25 (by decide) (by unfold rI; decide) (by unfold rI; decide) (fun h25 => ?_) (fun h9 => absurd h9 (by omega))
  refine lv_iload_n hx hb dL_ends_32 rfl (lv_at hl 1 rfl) ?_
  refine r_iconst hx hb dL_ends_33 ?_
  refine r_irem hx hb dL_ends_34 (by omega) (by omega) ?_
  refine r_top (0) (by decide) ?_
  refine r_iconst hx hb dL_ends_35 ?_
  refine r_imul hx hb dL_ends_36 ?_
  refine r_top (0) (by decide) ?_
  refine lv_istore_n (lv' := [(3, .int (iI (0))), (2, .int (iI (0))), (1, .int (iI (12))), (7, .int (iI (4))), (6, .int (iI (1))), (5, .int (iI (8))), (4, .int (iI (1))), (0, .ref y0)]) hx hb dL_ends_37 rfl hl (by decide) rfl (fun ls hl => ?_)
  refine lv_aload_n hx hb dL_ends_38 rfl (lv_at hl 7 rfl) ?_
  refine q_RO (As := []) (rest := []) S (c_X1_onTurn l D cI cL tw (y0) (y2) (b) (pq) (cq) (0) (0) (4) (0) (sP_60) (sC_0) (hb_60) (by omega) (by omega) (by omega) (by omega)) (0) (fun z h => h) gL_ends_X1_onTurn rfl rfl rfl ⟨rfl, f_X1_onTurn⟩ hR (Nat.le_of_ble_eq_true rfl) (Nat.le_of_ble_eq_true rfl) (hE.kept hS.2.1) hP [0, 1, 2, 3, 4] rfl 0 rfl rfl rfl hl.1 rfl (Nat.le_of_ble_eq_true rfl) dL_ends_39 ⟨Nat.le_trans (Nat.le_of_ble_eq_true rfl) hRc.1, Nat.le_trans (Nat.le_of_ble_eq_true rfl) hRc.2⟩ ?_
  refine lv_iload_n hx hb dL_ends_42 rfl (lv_at hl 0 rfl) ?_
  refine r_icmp_ne (tgt := 87) hx hb dL_ends_43 (by decide) (by unfold rI; decide) (by unfold rI; decide) (fun h9 => absurd h9 (by omega)) (fun h43 => ?_)
  refine lv_aload_n hx hb dL_ends_46 rfl (lv_at hl 7 rfl) ?_
  refine q_RO (As := []) (rest := []) S (c_X1_mover l D cI cL tw (y0) (y2) (b) (pq) (cq) (0) (0) (4) (0) (sP_60) (sC_0) (hb_60) (by omega) (by omega) (by omega) (by omega)) (2) (fun z h => h.trans fq_249) gL_ends_X1_mover rfl rfl rfl ⟨rfl, f_X1_mover⟩ hR (Nat.le_of_ble_eq_true rfl) (Nat.le_of_ble_eq_true rfl) (hE.kept hS.2.1) hP [0, 1, 2, 3, 4] rfl 0 rfl rfl rfl hl.1 rfl (Nat.le_of_ble_eq_true rfl) dL_ends_47 ⟨Nat.le_trans (Nat.le_of_ble_eq_true rfl) hRc.1, Nat.le_trans (Nat.le_of_ble_eq_true rfl) hRc.2⟩ ?_
  refine lv_iload_n hx hb dL_ends_50 rfl (lv_at hl 2 rfl) ?_
  refine r_bipush hx hb dL_ends_51 (by decide) ?_
  refine r_icmp_ge (tgt := 60) hx hb dL_ends_53 (by decide) (by unfold rI; decide) (by unfold rI; decide) (fun h53 => ?_) (fun h9 => absurd h9 (by omega))
  refine r_iconst hx hb dL_ends_60 ?_
  refine r_icmp_ne (tgt := 87) hx hb dL_ends_61 (by decide) (by unfold rI; decide) (by unfold rI; decide) (fun h9 => absurd h9 (by omega)) (fun h61 => ?_)
  refine lv_aload_n hx hb dL_ends_64 rfl (lv_at hl 7 rfl) ?_
  refine lv_iload_n hx hb dL_ends_65 rfl (lv_at hl 2 rfl) ?_
  refine r_bipush hx hb dL_ends_66 (by decide) ?_
  refine r_icmp_ge (tgt := 75) hx hb dL_ends_68 (by decide) (by unfold rI; decide) (by unfold rI; decide) (fun h68 => ?_) (fun h9 => absurd h9 (by omega))
  refine r_iconst hx hb dL_ends_75 ?_
  refine q_Xi (As := [.int (iI (2))]) (rest := []) S (c_X1_home l hst D cI cL tw (y0) (y2) (b) (pq) (cq) (0) (0) (4) (0) (sP_60) (sC_0) (2) (hb_60) (by omega) (by omega) (by omega) (by omega) (by omega)) (0) (fun z h => h.2.2.trans fq_250) (fun E h => by (try dsimp only at h); first | (rcases h with ⟨_, h⟩ | ⟨_, h⟩ <;> omega) | (obtain ⟨_, h⟩ := h; omega)) gL_ends_X1_home rfl rfl rfl ⟨rfl, f_X1_home⟩ hR (Nat.le_of_ble_eq_true rfl) (Nat.le_of_ble_eq_true rfl) (hE.kept hS.2.1) hP hS hA [0, 1, 2, 3, 4] rfl 0 rfl rfl rfl hl.1 rfl (Nat.le_of_ble_eq_true rfl) dL_ends_76 ⟨Nat.le_trans (Nat.le_of_ble_eq_true rfl) hRc.1, Nat.le_trans (Nat.le_of_ble_eq_true rfl) hRc.2⟩ (fun H locs hP hS => ?_)
  refine lv_iload_n hx hb dL_ends_79 rfl (lv_at hl 1 rfl) ?_
  refine r_icmp_ne (tgt := 87) hx hb dL_ends_80 (by decide) (by unfold rI; decide) (by unfold rI; decide) (fun h9 => absurd h9 (by omega)) (fun h80 => ?_)
  refine r_iconst hx hb dL_ends_83 ?_
  refine lv_goto (tgt := 88) hx hb dL_ends_84 (by decide) ?_
  refine lv_istore (lv' := [(4, .int (iI (1))), (3, .int (iI (0))), (2, .int (iI (0))), (1, .int (iI (12))), (7, .int (iI (4))), (6, .int (iI (1))), (5, .int (iI (8))), (0, .ref y0)]) hx hb dL_ends_88 hl (by decide) rfl (fun ls hl => ?_)
  refine r_bipush hx hb dL_ends_90 (by decide) ?_
  refine r_iconst hx hb dL_ends_92 ?_
  refine lv_iload_n hx hb dL_ends_93 rfl (lv_at hl 2 rfl) ?_
  refine r_ishl hx hb (z := 1) dL_ends_94 (by decide) ?_
  refine r_isub hx hb dL_ends_95 ?_
  refine r_top (14) (by decide) ?_
  refine r_iconst hx hb dL_ends_96 ?_
  refine r_iadd hx hb dL_ends_97 ?_
  refine r_top (15) (by decide) ?_
  refine lv_istore (lv' := [(5, .int (iI (15))), (4, .int (iI (1))), (3, .int (iI (0))), (2, .int (iI (0))), (1, .int (iI (12))), (7, .int (iI (4))), (6, .int (iI (1))), (0, .ref y0)]) hx hb dL_ends_98 hl (by decide) rfl (fun ls hl => ?_)
  refine lv_iload_n hx hb dL_ends_100 rfl (lv_at hl 4 rfl) ?_
  refine r_iconst hx hb dL_ends_101 ?_
  refine r_irem hx hb dL_ends_102 (by omega) (by omega) ?_
  refine r_top (0) (by decide) ?_
  refine r_if_ne (tgt := 154) hx hb dL_ends_103 (by decide) (by unfold rI; decide) (fun h9 => absurd h9 (by omega)) (fun h103 => ?_)
  refine lv_aload_n hx hb dL_ends_106 rfl (lv_at hl 7 rfl) ?_
  refine r_bipush hx hb dL_ends_107 (by decide) ?_
  refine lv_iload hx hb dL_ends_109 (lv_at hl 0 rfl) ?_
  refine lv_iload_n hx hb dL_ends_111 rfl (lv_at hl 3 rfl) ?_
  refine r_iconst hx hb dL_ends_112 ?_
  refine q_LM (As := [.ref y0, .int (iI (6)), .int (iI (15)), .int (iI (0)), .int (iI (1))]) (rest := []) (wr := []) S (c_L_goes l hst D cI cL tw (y0) (y2) (b) (pq) (cq) (0) (4) (0) (sP_60) (sC_0) (6) (15) (0) (1) (0) (1) (0) (sP_61) (sC_0) (by omega) (by omega) (by omega) (fq_252)) (1) (()) (fun z u h => ⟨h, rfl⟩) gL_ends_L_goes rfl rfl rfl f_L_goes hR (Nat.le_of_ble_eq_true rfl) (Nat.le_of_ble_eq_true rfl) (hE.kept hS.2.1) hP hD hS hA [0, 1, 2, 3, 4] [] rfl rfl (by decide) rfl (by decide) (by decide) rfl hl.1 rfl (Nat.le_of_ble_eq_true rfl) dL_ends_113 ⟨Nat.le_trans (Nat.le_of_ble_eq_true rfl) hRc.1, Nat.le_trans (Nat.le_of_ble_eq_true rfl) hRc.2⟩ (fun H locs hP hD hS => ?_)
  have hP : va_P D vwCl [(y0, .inr (1, [.ref b, .ref y2, .int (iI (0)), .int (iI (1)), .int (iI (0)), .int (iI (6))])), (y2, .inl (cI, 4, .inl (aI sC_0))), (b, .inr (0, [.ref pq, .ref cq])), (pq, .inl (cI, 16, .inl (aI sP_61))), (cq, .inl (cI, 136, .inl (aI (cnt sP_61))))] H := hP
  have hD : va_D A [(y0, .inr (1, [.ref b, .ref y2, .int (iI (0)), .int (iI (1)), .int (iI (0)), .int (iI (6))])), (y2, .inl (cI, 4, .inl (aI sC_0))), (b, .inr (0, [.ref pq, .ref cq])), (pq, .inl (cI, 16, .inl (aI sP_61))), (cq, .inl (cI, 136, .inl (aI (cnt sP_61))))] := hD
  refine r_if_eq (tgt := 150) hx hb dL_ends_116 (by decide) (by unfold rI; decide) (fun h9 => absurd h9 (by omega)) (fun h116 => ?_)
  refine lv_aload_n hx hb dL_ends_119 rfl (lv_at hl 7 rfl) ?_
  refine r_iconst hx hb dL_ends_120 ?_
  refine lv_iload hx hb dL_ends_121 (lv_at hl 0 rfl) ?_
  refine lv_iload_n hx hb dL_ends_123 rfl (lv_at hl 3 rfl) ?_
  refine r_bipush hx hb dL_ends_124 (by decide) ?_
  refine q_LM (As := [.ref y0, .int (iI (0)), .int (iI (15)), .int (iI (0)), .int (iI (26))]) (rest := []) (wr := []) S (c_L_goes l hst D cI cL tw (y0) (y2) (b) (pq) (cq) (0) (6) (1) (sP_61) (sC_0) (0) (15) (0) (26) (0) (2) (0) (sP_62) (sC_0) (by omega) (by omega) (by omega) (fq_254)) (1) (()) (fun z u h => ⟨h, rfl⟩) gL_ends_L_goes rfl rfl rfl f_L_goes hR (Nat.le_of_ble_eq_true rfl) (Nat.le_of_ble_eq_true rfl) (hE.kept hS.2.1) hP hD hS hA [0, 1, 2, 3, 4] [] rfl rfl (by decide) rfl (by decide) (by decide) rfl hl.1 rfl (Nat.le_of_ble_eq_true rfl) dL_ends_126 ⟨Nat.le_trans (Nat.le_of_ble_eq_true rfl) hRc.1, Nat.le_trans (Nat.le_of_ble_eq_true rfl) hRc.2⟩ (fun H locs hP hD hS => ?_)
  have hP : va_P D vwCl [(y0, .inr (1, [.ref b, .ref y2, .int (iI (0)), .int (iI (2)), .int (iI (0)), .int (iI (0))])), (y2, .inl (cI, 4, .inl (aI sC_0))), (b, .inr (0, [.ref pq, .ref cq])), (pq, .inl (cI, 16, .inl (aI sP_62))), (cq, .inl (cI, 136, .inl (aI (cnt sP_62))))] H := hP
  have hD : va_D A [(y0, .inr (1, [.ref b, .ref y2, .int (iI (0)), .int (iI (2)), .int (iI (0)), .int (iI (0))])), (y2, .inl (cI, 4, .inl (aI sC_0))), (b, .inr (0, [.ref pq, .ref cq])), (pq, .inl (cI, 16, .inl (aI sP_62))), (cq, .inl (cI, 136, .inl (aI (cnt sP_62))))] := hD
  refine r_if_eq (tgt := 150) hx hb dL_ends_129 (by decide) (by unfold rI; decide) (fun h9 => absurd h9 (by omega)) (fun h129 => ?_)
  refine lv_aload_n hx hb dL_ends_132 rfl (lv_at hl 7 rfl) ?_
  refine r_iconst hx hb dL_ends_133 ?_
  refine r_iconst hx hb dL_ends_134 ?_
  refine lv_iload_n hx hb dL_ends_135 rfl (lv_at hl 3 rfl) ?_
  refine r_ishl hx hb (z := 1) dL_ends_136 (by decide) ?_
  refine lv_iload_n hx hb dL_ends_137 rfl (lv_at hl 3 rfl) ?_
  refine r_bipush hx hb dL_ends_138 (by decide) ?_
  refine q_LM (As := [.ref y0, .int (iI (3)), .int (iI (1)), .int (iI (0)), .int (iI (29))]) (rest := []) (wr := []) S (c_L_goes l hst D cI cL tw (y0) (y2) (b) (pq) (cq) (0) (0) (2) (sP_62) (sC_0) (3) (1) (0) (29) (1) (0) (0) (sP_63) (sC_0) (by omega) (by omega) (by omega) (fq_256)) (1) (()) (fun z u h => ⟨h, rfl⟩) gL_ends_L_goes rfl rfl rfl f_L_goes hR (Nat.le_of_ble_eq_true rfl) (Nat.le_of_ble_eq_true rfl) (hE.kept hS.2.1) hP hD hS hA [0, 1, 2, 3, 4] [] rfl rfl (by decide) rfl (by decide) (by decide) rfl hl.1 rfl (Nat.le_of_ble_eq_true rfl) dL_ends_140 ⟨Nat.le_trans (Nat.le_of_ble_eq_true rfl) hRc.1, Nat.le_trans (Nat.le_of_ble_eq_true rfl) hRc.2⟩ (fun H locs hP hD hS => ?_)
  have hP : va_P D vwCl [(y0, .inr (1, [.ref b, .ref y2, .int (iI (1)), .int (iI (0)), .int (iI (0)), .int (iI (3))])), (y2, .inl (cI, 4, .inl (aI sC_0))), (b, .inr (0, [.ref pq, .ref cq])), (pq, .inl (cI, 16, .inl (aI sP_63))), (cq, .inl (cI, 136, .inl (aI (cnt sP_63))))] H := hP
  have hD : va_D A [(y0, .inr (1, [.ref b, .ref y2, .int (iI (1)), .int (iI (0)), .int (iI (0)), .int (iI (3))])), (y2, .inl (cI, 4, .inl (aI sC_0))), (b, .inr (0, [.ref pq, .ref cq])), (pq, .inl (cI, 16, .inl (aI sP_63))), (cq, .inl (cI, 136, .inl (aI (cnt sP_63))))] := hD
  refine r_if_eq (tgt := 150) hx hb dL_ends_143 (by decide) (by unfold rI; decide) (fun h9 => absurd h9 (by omega)) (fun h143 => ?_)
  refine r_iconst hx hb dL_ends_146 ?_
  refine lv_goto (tgt := 238) hx hb dL_ends_147 (by decide) ?_
  refine lv_istore (lv' := [(6, .int (iI (1))), (5, .int (iI (15))), (4, .int (iI (1))), (3, .int (iI (0))), (2, .int (iI (0))), (1, .int (iI (12))), (7, .int (iI (4))), (0, .ref y0)]) hx hb dL_ends_238 hl (by decide) rfl (fun ls hl => ?_)
  refine lv_iload hx hb dL_ends_240 (lv_at hl 2 rfl) ?_
  refine r_if_eq (tgt := 250) hx hb dL_ends_242 (by decide) (by unfold rI; decide) (fun h9 => absurd h9 (by omega)) (fun h242 => ?_)
  refine lv_iload hx hb dL_ends_245 (lv_at hl 0 rfl) ?_
  refine r_if_ne (tgt := 252) hx hb dL_ends_247 (by decide) (by unfold rI; decide) (fun h247 => ?_) (fun h9 => absurd h9 (by omega))
  refine lv_iload_n hx hb dL_ends_252 rfl (lv_at hl 5 rfl) ?_
  refine r_bipush hx hb dL_ends_253 (by decide) ?_
  refine r_icmp_ne (tgt := 261) hx hb dL_ends_255 (by decide) (by unfold rI; decide) (by unfold rI; decide) (fun h255 => ?_) (fun h9 => absurd h9 (by omega))
  refine r_iconst hx hb dL_ends_261 ?_
  refine lv_istore (lv' := [(7, .int (iI (1))), (6, .int (iI (1))), (5, .int (iI (15))), (4, .int (iI (1))), (3, .int (iI (0))), (2, .int (iI (0))), (1, .int (iI (12))), (0, .ref y0)]) hx hb dL_ends_262 hl (by decide) rfl (fun ls hl => ?_)
  refine lv_iload hx hb dL_ends_264 (lv_at hl 0 rfl) ?_
  refine lv_iload_n hx hb dL_ends_266 rfl (lv_at hl 6 rfl) ?_
  refine r_bipush hx hb dL_ends_267 (by decide) ?_
  refine r_icmp_ge (tgt := 276) hx hb dL_ends_269 (by decide) (by unfold rI; decide) (by unfold rI; decide) (fun h269 => ?_) (fun h9 => absurd h9 (by omega))
  refine r_iconst hx hb dL_ends_276 ?_
  refine r_icmp_ge (tgt := 301) hx hb dL_ends_277 (by decide) (by unfold rI; decide) (by unfold rI; decide) (fun h9 => absurd h9 (by omega)) (fun h277 => ?_)
  refine lv_aload_n hx hb dL_ends_280 rfl (lv_at hl 7 rfl) ?_
  refine lv_iload_n hx hb dL_ends_281 rfl (lv_at hl 4 rfl) ?_
  refine lv_iload hx hb dL_ends_282 (lv_at hl 0 rfl) ?_
  refine r_iadd hx hb dL_ends_284 ?_
  refine r_top (1) (by decide) ?_
  refine r_iconst hx hb dL_ends_285 ?_
  refine r_irem hx hb dL_ends_286 (by omega) (by omega) ?_
  refine r_top (1) (by decide) ?_
  refine q_LM (As := [.ref y0, .int (iI (1))]) (rest := []) (wr := []) S (c_L_loses l hst D cI cL tw (y0) (y2) (b) (pq) (cq) (1) (3) (0) (sP_63) (sC_0) (2) (hb_63) (by omega) (by omega) (by omega) (fq_257) (by omega)) (1) (()) (fun z u h => ⟨h, rfl⟩) gL_ends_L_loses rfl rfl rfl f_L_loses hR (Nat.le_of_ble_eq_true rfl) (Nat.le_of_ble_eq_true rfl) (hE.kept hS.2.1) hP hD hS hA [0, 1, 2, 3, 4] [] rfl rfl (by decide) rfl (by decide) (by decide) rfl hl.1 rfl (Nat.le_of_ble_eq_true rfl) dL_ends_287 ⟨Nat.le_trans (Nat.le_of_ble_eq_true rfl) hRc.1, Nat.le_trans (Nat.le_of_ble_eq_true rfl) hRc.2⟩ (fun H locs hP hD hS => ?_)
  have hP : va_P D vwCl [(y0, .inr (1, [.ref b, .ref y2, .int (iI (2)), .int (iI (0)), .int (iI (0)), .int (iI (3))])), (y2, .inl (cI, 4, .inl (aI sC_0))), (b, .inr (0, [.ref pq, .ref cq])), (pq, .inl (cI, 16, .inl (aI sP_63))), (cq, .inl (cI, 136, .inl (aI (cnt sP_63))))] H := hP
  have hD : va_D A [(y0, .inr (1, [.ref b, .ref y2, .int (iI (2)), .int (iI (0)), .int (iI (0)), .int (iI (3))])), (y2, .inl (cI, 4, .inl (aI sC_0))), (b, .inr (0, [.ref pq, .ref cq])), (pq, .inl (cI, 16, .inl (aI sP_63))), (cq, .inl (cI, 136, .inl (aI (cnt sP_63))))] := hD
  refine r_if_ne (tgt := 295) hx hb dL_ends_290 (by decide) (by unfold rI; decide) (fun h290 => ?_) (fun h9 => absurd h9 (by omega))
  refine lv_iinc (v := iI (2)) (lv' := [(7, .int (iI (2))), (6, .int (iI (1))), (5, .int (iI (15))), (4, .int (iI (1))), (3, .int (iI (0))), (2, .int (iI (0))), (1, .int (iI (12))), (0, .ref y0)]) hx hb dL_ends_295 hl (k := 0) rfl (by decide) (by decide) rfl (fun ls hl => ?_)
  refine lv_goto (tgt := 264) hx hb dL_ends_298 (by decide) ?_
  refine lv_iload hx hb dL_ends_264 (lv_at hl 0 rfl) ?_
  refine lv_iload_n hx hb dL_ends_266 rfl (lv_at hl 6 rfl) ?_
  refine r_bipush hx hb dL_ends_267 (by decide) ?_
  refine r_icmp_ge (tgt := 276) hx hb dL_ends_269 (by decide) (by unfold rI; decide) (by unfold rI; decide) (fun h269 => ?_) (fun h9 => absurd h9 (by omega))
  refine r_iconst hx hb dL_ends_276 ?_
  refine r_icmp_ge (tgt := 301) hx hb dL_ends_277 (by decide) (by unfold rI; decide) (by unfold rI; decide) (fun h277 => ?_) (fun h9 => absurd h9 (by omega))
  refine lv_iinc (v := iI (13)) (lv' := [(1, .int (iI (13))), (7, .int (iI (2))), (6, .int (iI (1))), (5, .int (iI (15))), (4, .int (iI (1))), (3, .int (iI (0))), (2, .int (iI (0))), (0, .ref y0)]) hx hb dL_ends_301 hl (k := 6) rfl (by decide) (by decide) rfl (fun ls hl => ?_)
  refine lv_goto (tgt := 10) hx hb dL_ends_304 (by decide) ?_
  exact sg_L_ends_14 S hst hR hRc hE hA y0 y2 b pq cq  hret hP hD hS hl
set_option maxHeartbeats 4000000 in
set_option maxRecDepth 100000 in
theorem sg_L_ends_12 {p : Program} {l : Launch} {e : Env} {R : Room} {s : State} {mt : MethodId} {args : Array Value} {below : List Frame} {meth : Method} {c : Code} {H0 : Heap} {Q : State → Prop} {A : Nat → Prop} {D : va_G} {cI cL : ClassId} {tw : Nat} (S : CallFix p mt c cL_ends 8 s args wsL_ends RL) (hst : l.stackTraces = false) (hR : 15 ≤ R.frames ∧ 377 ≤ R.locals) (hRc : 527 ≤ R.cells ∧ 3296 ≤ R.slots) (hE : EV D cI cL tw A s H0) (hA : ∀ q : Nat, H0.size ≤ q → A q) (y0 : Nat) (y2 : Nat) (b : Nat) (pq : Nat) (cq : Nat)  (hret : ∀ (z : Int) (u : Unit) (pc : Nat) (ls : Array Slot) (H : Heap) (locs : List Loc) (cells slots : Nat), decode cL_ends pc = .ok (.ireturn, 1) → (z = 1) → va_P D vwCl [] H → va_D A [] → va_S A H0 H locs → cells ≤ 527 → slots ≤ 3296 → W p l e R s mt args below meth c H locs cells slots Q (F0 mt pc ls [.int (iI z)])) {H : Heap} {locs : List Loc} {ls : Array Slot} (hP : va_P D vwCl [(y0, .inr (1, [.ref b, .ref y2, .int (iI (0)), .int (iI (0)), .int (iI (0)), .int (iI (4))])), (y2, .inl (cI, 4, .inl (aI sC_0))), (b, .inr (0, [.ref pq, .ref cq])), (pq, .inl (cI, 16, .inl (aI sP_59))), (cq, .inl (cI, 136, .inl (aI (cnt sP_59))))] H) (hD : va_D A [(y0, .inr (1, [.ref b, .ref y2, .int (iI (0)), .int (iI (0)), .int (iI (0)), .int (iI (4))])), (y2, .inl (cI, 4, .inl (aI sC_0))), (b, .inr (0, [.ref pq, .ref cq])), (pq, .inl (cI, 16, .inl (aI sP_59))), (cq, .inl (cI, 136, .inl (aI (cnt sP_59))))]) (hS : va_S A H0 H locs) (hl : lv_has ls 8 [(1, .int (iI (11))), (7, .int (iI (4))), (6, .int (iI (1))), (5, .int (iI (8))), (4, .int (iI (1))), (3, .int (iI (0))), (2, .int (iI (3))), (0, .ref y0)]) : W p l e R s mt args below meth c H locs 187 1256 Q (F0 mt 10 ls []) := by
  obtain ⟨hx, hb, hml, hown, hts⟩ := id S
  refine lv_iload_n hx hb dL_ends_10 rfl (lv_at hl 0 rfl) ?_
  refine r_bipush hx hb dL_ends_11 (by decide) ?_
  refine r_icmp_ge (tgt := 307) hx hb dL_ends_13 (by decide) (by unfold rI; decide) (by unfold rI; decide) (fun h9 => absurd h9 (by omega)) (fun h13 => ?_)
  refine lv_iload_n hx hb dL_ends_16 rfl (lv_at hl 0 rfl) ?_
  refine r_iconst hx hb dL_ends_17 ?_
  refine r_idiv hx hb dL_ends_18 (by omega) (by omega) ?_
  refine r_top (3) (by decide) ?_
  refine r_iconst hx hb dL_ends_19 ?_
  refine r_irem hx hb dL_ends_20 (by omega) (by omega) ?_
  refine r_top (3) (by decide) ?_
  refine lv_istore_n (lv' := [(2, .int (iI (3))), (1, .int (iI (11))), (7, .int (iI (4))), (6, .int (iI (1))), (5, .int (iI (8))), (4, .int (iI (1))), (3, .int (iI (0))), (0, .ref y0)]) hx hb dL_ends_21 rfl hl (by decide) rfl (fun ls hl => ?_)
  refine lv_iload_n hx hb dL_ends_22 rfl (lv_at hl 1 rfl) ?_
  refine r_bipush hx hb dL_ends_23 (by decide) ?_
  refine r_icmp_ge (tgt := 32) hx hb dL_ends_25 (by decide) (by unfold rI; decide) (by unfold rI; decide) (fun h9 => absurd h9 (by omega)) (fun h25 => ?_)
  refine r_iconst hx hb dL_ends_28 ?_
  refine lv_goto (tgt := 37) hx hb dL_ends_29 (by decide) ?_
  refine lv_istore_n (lv' := [(3, .int (iI (0))), (2, .int (iI (3))), (1, .int (iI (11))), (7, .int (iI (4))), (6, .int (iI (1))), (5, .int (iI (8))), (4, .int (iI (1))), (0, .ref y0)]) hx hb dL_ends_37 rfl hl (by decide) rfl (fun ls hl => ?_)
  refine lv_aload_n hx hb dL_ends_38 rfl (lv_at hl 7 rfl) ?_
  refine q_RO (As := []) (rest := []) S (c_X1_onTurn l D cI cL tw (y0) (y2) (b) (pq) (cq) (0) (0) (4) (0) (sP_59) (sC_0) (hb_59) (by omega) (by omega) (by omega) (by omega)) (0) (fun z h => h) gL_ends_X1_onTurn rfl rfl rfl ⟨rfl, f_X1_onTurn⟩ hR (Nat.le_of_ble_eq_true rfl) (Nat.le_of_ble_eq_true rfl) (hE.kept hS.2.1) hP [0, 1, 2, 3, 4] rfl 0 rfl rfl rfl hl.1 rfl (Nat.le_of_ble_eq_true rfl) dL_ends_39 ⟨Nat.le_trans (Nat.le_of_ble_eq_true rfl) hRc.1, Nat.le_trans (Nat.le_of_ble_eq_true rfl) hRc.2⟩ ?_
  refine lv_iload_n hx hb dL_ends_42 rfl (lv_at hl 0 rfl) ?_
  refine r_icmp_ne (tgt := 87) hx hb dL_ends_43 (by decide) (by unfold rI; decide) (by unfold rI; decide) (fun h9 => absurd h9 (by omega)) (fun h43 => ?_)
  refine lv_aload_n hx hb dL_ends_46 rfl (lv_at hl 7 rfl) ?_
  refine q_RO (As := []) (rest := []) S (c_X1_mover l D cI cL tw (y0) (y2) (b) (pq) (cq) (0) (0) (4) (0) (sP_59) (sC_0) (hb_59) (by omega) (by omega) (by omega) (by omega)) (0) (fun z h => h.trans fq_241) gL_ends_X1_mover rfl rfl rfl ⟨rfl, f_X1_mover⟩ hR (Nat.le_of_ble_eq_true rfl) (Nat.le_of_ble_eq_true rfl) (hE.kept hS.2.1) hP [0, 1, 2, 3, 4] rfl 0 rfl rfl rfl hl.1 rfl (Nat.le_of_ble_eq_true rfl) dL_ends_47 ⟨Nat.le_trans (Nat.le_of_ble_eq_true rfl) hRc.1, Nat.le_trans (Nat.le_of_ble_eq_true rfl) hRc.2⟩ ?_
  refine lv_iload_n hx hb dL_ends_50 rfl (lv_at hl 2 rfl) ?_
  refine r_bipush hx hb dL_ends_51 (by decide) ?_
  refine r_icmp_ge (tgt := 60) hx hb dL_ends_53 (by decide) (by unfold rI; decide) (by unfold rI; decide) (fun h9 => absurd h9 (by omega)) (fun h53 => ?_)
  refine r_iconst hx hb dL_ends_56 ?_
  refine lv_goto (tgt := 61) hx hb dL_ends_57 (by decide) ?_
  refine r_icmp_ne (tgt := 87) hx hb dL_ends_61 (by decide) (by unfold rI; decide) (by unfold rI; decide) (fun h9 => absurd h9 (by omega)) (fun h61 => ?_)
  refine lv_aload_n hx hb dL_ends_64 rfl (lv_at hl 7 rfl) ?_
  refine lv_iload_n hx hb dL_ends_65 rfl (lv_at hl 2 rfl) ?_
  refine r_bipush hx hb dL_ends_66 (by decide) ?_
  refine r_icmp_ge (tgt := 75) hx hb dL_ends_68 (by decide) (by unfold rI; decide) (by unfold rI; decide) (fun h9 => absurd h9 (by omega)) (fun h68 => ?_)
  refine r_iconst hx hb dL_ends_71 ?_
  refine lv_goto (tgt := 76) hx hb dL_ends_72 (by decide) ?_
  refine q_Xi (As := [.int (iI (0))]) (rest := []) S (c_X1_home l hst D cI cL tw (y0) (y2) (b) (pq) (cq) (0) (0) (4) (0) (sP_59) (sC_0) (0) (hb_59) (by omega) (by omega) (by omega) (by omega) (by omega)) (3) (fun z h => h.2.2.trans fq_242) (fun E h => by (try dsimp only at h); first | (rcases h with ⟨_, h⟩ | ⟨_, h⟩ <;> omega) | (obtain ⟨_, h⟩ := h; omega)) gL_ends_X1_home rfl rfl rfl ⟨rfl, f_X1_home⟩ hR (Nat.le_of_ble_eq_true rfl) (Nat.le_of_ble_eq_true rfl) (hE.kept hS.2.1) hP hS hA [0, 1, 2, 3, 4] rfl 0 rfl rfl rfl hl.1 rfl (Nat.le_of_ble_eq_true rfl) dL_ends_76 ⟨Nat.le_trans (Nat.le_of_ble_eq_true rfl) hRc.1, Nat.le_trans (Nat.le_of_ble_eq_true rfl) hRc.2⟩ (fun H locs hP hS => ?_)
  refine lv_iload_n hx hb dL_ends_79 rfl (lv_at hl 1 rfl) ?_
  refine r_icmp_ne (tgt := 87) hx hb dL_ends_80 (by decide) (by unfold rI; decide) (by unfold rI; decide) (fun h9 => absurd h9 (by omega)) (fun h80 => ?_)
  refine r_iconst hx hb dL_ends_83 ?_
  refine lv_goto (tgt := 88) hx hb dL_ends_84 (by decide) ?_
  refine lv_istore (lv' := [(4, .int (iI (1))), (3, .int (iI (0))), (2, .int (iI (3))), (1, .int (iI (11))), (7, .int (iI (4))), (6, .int (iI (1))), (5, .int (iI (8))), (0, .ref y0)]) hx hb dL_ends_88 hl (by decide) rfl (fun ls hl => ?_)
  refine r_bipush hx hb dL_ends_90 (by decide) ?_
  refine r_iconst hx hb dL_ends_92 ?_
  refine lv_iload_n hx hb dL_ends_93 rfl (lv_at hl 2 rfl) ?_
  refine r_ishl hx hb (z := 8) dL_ends_94 (by decide) ?_
  refine r_isub hx hb dL_ends_95 ?_
  refine r_top (7) (by decide) ?_
  refine r_iconst hx hb dL_ends_96 ?_
  refine r_iadd hx hb dL_ends_97 ?_
  refine r_top (8) (by decide) ?_
  refine lv_istore (lv' := [(5, .int (iI (8))), (4, .int (iI (1))), (3, .int (iI (0))), (2, .int (iI (3))), (1, .int (iI (11))), (7, .int (iI (4))), (6, .int (iI (1))), (0, .ref y0)]) hx hb dL_ends_98 hl (by decide) rfl (fun ls hl => ?_)
  refine lv_iload_n hx hb dL_ends_100 rfl (lv_at hl 4 rfl) ?_
  refine r_iconst hx hb dL_ends_101 ?_
  refine r_irem hx hb dL_ends_102 (by omega) (by omega) ?_
  refine r_top (2) (by decide) ?_
  refine r_if_ne (tgt := 154) hx hb dL_ends_103 (by decide) (by unfold rI; decide) (fun h103 => ?_) (fun h9 => absurd h9 (by omega))
  refine lv_iload_n hx hb dL_ends_154 rfl (lv_at hl 4 rfl) ?_
  refine r_iconst hx hb dL_ends_155 ?_
  refine r_irem hx hb dL_ends_156 (by omega) (by omega) ?_
  refine r_top (2) (by decide) ?_
  refine r_iconst hx hb dL_ends_157 ?_
  refine r_icmp_ne (tgt := 209) hx hb dL_ends_158 (by decide) (by unfold rI; decide) (by unfold rI; decide) (fun h158 => ?_) (fun h9 => absurd h9 (by omega))
  refine lv_aload_n hx hb dL_ends_209 rfl (lv_at hl 7 rfl) ?_
  refine r_iconst hx hb dL_ends_210 ?_
  refine q_Xi (As := [.int (iI (2))]) (rest := []) S (c_X1_ways l hst D cI cL tw (y0) (y2) (b) (pq) (cq) (0) (0) (4) (0) (sP_59) (sC_0) (2) (hb_59) (by omega) (by omega) (by omega) (by omega) (by omega)) (15) (fun z h => h.2.2.2.trans fq_243) (fun E h => by (try dsimp only at h); first | (rcases h with ⟨_, h⟩ | ⟨_, h⟩ <;> omega) | (obtain ⟨_, h⟩ := h; omega)) gL_ends_X1_ways rfl rfl rfl ⟨rfl, f_X1_ways⟩ hR (Nat.le_of_ble_eq_true rfl) (Nat.le_of_ble_eq_true rfl) (hE.kept hS.2.1) hP hS hA [0, 1, 2, 3, 4] rfl 0 rfl rfl rfl hl.1 rfl (Nat.le_of_ble_eq_true rfl) dL_ends_211 ⟨Nat.le_trans (Nat.le_of_ble_eq_true rfl) hRc.1, Nat.le_trans (Nat.le_of_ble_eq_true rfl) hRc.2⟩ (fun H locs hP hS => ?_)
  refine r_bipush hx hb dL_ends_214 (by decide) ?_
  refine r_icmp_ne (tgt := 237) hx hb dL_ends_216 (by decide) (by unfold rI; decide) (by unfold rI; decide) (fun h9 => absurd h9 (by omega)) (fun h216 => ?_)
  refine lv_aload_n hx hb dL_ends_219 rfl (lv_at hl 7 rfl) ?_
  refine r_iconst hx hb dL_ends_220 ?_
  refine r_iconst hx hb dL_ends_221 ?_
  refine lv_iload_n hx hb dL_ends_222 rfl (lv_at hl 3 rfl) ?_
  refine r_ishl hx hb (z := 8) dL_ends_223 (by decide) ?_
  refine lv_iload_n hx hb dL_ends_224 rfl (lv_at hl 3 rfl) ?_
  refine r_bipush hx hb dL_ends_225 (by decide) ?_
  refine q_LM (As := [.ref y0, .int (iI (4)), .int (iI (8)), .int (iI (3)), .int (iI (72))]) (rest := []) (wr := []) S (c_L_goes l hst D cI cL tw (y0) (y2) (b) (pq) (cq) (0) (4) (0) (sP_59) (sC_0) (4) (8) (3) (72) (1) (0) (0) (sP_60) (sC_0) (by omega) (by omega) (by omega) (fq_245)) (1) (()) (fun z u h => ⟨h, rfl⟩) gL_ends_L_goes rfl rfl rfl f_L_goes hR (Nat.le_of_ble_eq_true rfl) (Nat.le_of_ble_eq_true rfl) (hE.kept hS.2.1) hP hD hS hA [0, 1, 2, 3, 4] [] rfl rfl (by decide) rfl (by decide) (by decide) rfl hl.1 rfl (Nat.le_of_ble_eq_true rfl) dL_ends_227 ⟨Nat.le_trans (Nat.le_of_ble_eq_true rfl) hRc.1, Nat.le_trans (Nat.le_of_ble_eq_true rfl) hRc.2⟩ (fun H locs hP hD hS => ?_)
  have hP : va_P D vwCl [(y0, .inr (1, [.ref b, .ref y2, .int (iI (1)), .int (iI (0)), .int (iI (0)), .int (iI (4))])), (y2, .inl (cI, 4, .inl (aI sC_0))), (b, .inr (0, [.ref pq, .ref cq])), (pq, .inl (cI, 16, .inl (aI sP_60))), (cq, .inl (cI, 136, .inl (aI (cnt sP_60))))] H := hP
  have hD : va_D A [(y0, .inr (1, [.ref b, .ref y2, .int (iI (1)), .int (iI (0)), .int (iI (0)), .int (iI (4))])), (y2, .inl (cI, 4, .inl (aI sC_0))), (b, .inr (0, [.ref pq, .ref cq])), (pq, .inl (cI, 16, .inl (aI sP_60))), (cq, .inl (cI, 136, .inl (aI (cnt sP_60))))] := hD
  refine r_if_eq (tgt := 237) hx hb dL_ends_230 (by decide) (by unfold rI; decide) (fun h9 => absurd h9 (by omega)) (fun h230 => ?_)
  refine r_iconst hx hb dL_ends_233 ?_
  refine lv_goto (tgt := 238) hx hb dL_ends_234 (by decide) ?_
  refine lv_istore (lv' := [(6, .int (iI (1))), (5, .int (iI (8))), (4, .int (iI (1))), (3, .int (iI (0))), (2, .int (iI (3))), (1, .int (iI (11))), (7, .int (iI (4))), (0, .ref y0)]) hx hb dL_ends_238 hl (by decide) rfl (fun ls hl => ?_)
  refine lv_iload hx hb dL_ends_240 (lv_at hl 2 rfl) ?_
  refine r_if_eq (tgt := 250) hx hb dL_ends_242 (by decide) (by unfold rI; decide) (fun h9 => absurd h9 (by omega)) (fun h242 => ?_)
  refine lv_iload hx hb dL_ends_245 (lv_at hl 0 rfl) ?_
  refine r_if_ne (tgt := 252) hx hb dL_ends_247 (by decide) (by unfold rI; decide) (fun h247 => ?_) (fun h9 => absurd h9 (by omega))
  refine lv_iload_n hx hb dL_ends_252 rfl (lv_at hl 5 rfl) ?_
  refine r_bipush hx hb dL_ends_253 (by decide) ?_
  refine r_icmp_ne (tgt := 261) hx hb dL_ends_255 (by decide) (by unfold rI; decide) (by unfold rI; decide) (fun h255 => ?_) (fun h9 => absurd h9 (by omega))
  refine r_iconst hx hb dL_ends_261 ?_
  refine lv_istore (lv' := [(7, .int (iI (1))), (6, .int (iI (1))), (5, .int (iI (8))), (4, .int (iI (1))), (3, .int (iI (0))), (2, .int (iI (3))), (1, .int (iI (11))), (0, .ref y0)]) hx hb dL_ends_262 hl (by decide) rfl (fun ls hl => ?_)
  refine lv_iload hx hb dL_ends_264 (lv_at hl 0 rfl) ?_
  refine lv_iload_n hx hb dL_ends_266 rfl (lv_at hl 6 rfl) ?_
  refine r_bipush hx hb dL_ends_267 (by decide) ?_
  refine r_icmp_ge (tgt := 276) hx hb dL_ends_269 (by decide) (by unfold rI; decide) (by unfold rI; decide) (fun h9 => absurd h9 (by omega)) (fun h269 => ?_)
  refine r_iconst hx hb dL_ends_272 ?_
  refine lv_goto (tgt := 277) hx hb dL_ends_273 (by decide) ?_
  refine r_icmp_ge (tgt := 301) hx hb dL_ends_277 (by decide) (by unfold rI; decide) (by unfold rI; decide) (fun h9 => absurd h9 (by omega)) (fun h277 => ?_)
  refine lv_aload_n hx hb dL_ends_280 rfl (lv_at hl 7 rfl) ?_
  refine lv_iload_n hx hb dL_ends_281 rfl (lv_at hl 4 rfl) ?_
  refine lv_iload hx hb dL_ends_282 (lv_at hl 0 rfl) ?_
  refine r_iadd hx hb dL_ends_284 ?_
  refine r_top (1) (by decide) ?_
  refine r_iconst hx hb dL_ends_285 ?_
  refine r_irem hx hb dL_ends_286 (by omega) (by omega) ?_
  refine r_top (1) (by decide) ?_
  refine q_LM (As := [.ref y0, .int (iI (1))]) (rest := []) (wr := []) S (c_L_loses l hst D cI cL tw (y0) (y2) (b) (pq) (cq) (1) (4) (0) (sP_60) (sC_0) (2) (hb_60) (by omega) (by omega) (by omega) (fq_246) (by omega)) (1) (()) (fun z u h => ⟨h, rfl⟩) gL_ends_L_loses rfl rfl rfl f_L_loses hR (Nat.le_of_ble_eq_true rfl) (Nat.le_of_ble_eq_true rfl) (hE.kept hS.2.1) hP hD hS hA [0, 1, 2, 3, 4] [] rfl rfl (by decide) rfl (by decide) (by decide) rfl hl.1 rfl (Nat.le_of_ble_eq_true rfl) dL_ends_287 ⟨Nat.le_trans (Nat.le_of_ble_eq_true rfl) hRc.1, Nat.le_trans (Nat.le_of_ble_eq_true rfl) hRc.2⟩ (fun H locs hP hD hS => ?_)
  have hP : va_P D vwCl [(y0, .inr (1, [.ref b, .ref y2, .int (iI (2)), .int (iI (0)), .int (iI (0)), .int (iI (4))])), (y2, .inl (cI, 4, .inl (aI sC_0))), (b, .inr (0, [.ref pq, .ref cq])), (pq, .inl (cI, 16, .inl (aI sP_60))), (cq, .inl (cI, 136, .inl (aI (cnt sP_60))))] H := hP
  have hD : va_D A [(y0, .inr (1, [.ref b, .ref y2, .int (iI (2)), .int (iI (0)), .int (iI (0)), .int (iI (4))])), (y2, .inl (cI, 4, .inl (aI sC_0))), (b, .inr (0, [.ref pq, .ref cq])), (pq, .inl (cI, 16, .inl (aI sP_60))), (cq, .inl (cI, 136, .inl (aI (cnt sP_60))))] := hD
  refine r_if_ne (tgt := 295) hx hb dL_ends_290 (by decide) (by unfold rI; decide) (fun h290 => ?_) (fun h9 => absurd h9 (by omega))
  refine lv_iinc (v := iI (2)) (lv' := [(7, .int (iI (2))), (6, .int (iI (1))), (5, .int (iI (8))), (4, .int (iI (1))), (3, .int (iI (0))), (2, .int (iI (3))), (1, .int (iI (11))), (0, .ref y0)]) hx hb dL_ends_295 hl (k := 0) rfl (by decide) (by decide) rfl (fun ls hl => ?_)
  refine lv_goto (tgt := 264) hx hb dL_ends_298 (by decide) ?_
  refine lv_iload hx hb dL_ends_264 (lv_at hl 0 rfl) ?_
  refine lv_iload_n hx hb dL_ends_266 rfl (lv_at hl 6 rfl) ?_
  refine r_bipush hx hb dL_ends_267 (by decide) ?_
  refine r_icmp_ge (tgt := 276) hx hb dL_ends_269 (by decide) (by unfold rI; decide) (by unfold rI; decide) (fun h9 => absurd h9 (by omega)) (fun h269 => ?_)
  refine r_iconst hx hb dL_ends_272 ?_
  refine lv_goto (tgt := 277) hx hb dL_ends_273 (by decide) ?_
  refine r_icmp_ge (tgt := 301) hx hb dL_ends_277 (by decide) (by unfold rI; decide) (by unfold rI; decide) (fun h9 => absurd h9 (by omega)) (fun h277 => ?_)
  refine lv_aload_n hx hb dL_ends_280 rfl (lv_at hl 7 rfl) ?_
  refine lv_iload_n hx hb dL_ends_281 rfl (lv_at hl 4 rfl) ?_
  refine lv_iload hx hb dL_ends_282 (lv_at hl 0 rfl) ?_
  refine r_iadd hx hb dL_ends_284 ?_
  refine r_top (2) (by decide) ?_
  refine r_iconst hx hb dL_ends_285 ?_
  refine r_irem hx hb dL_ends_286 (by omega) (by omega) ?_
  refine r_top (2) (by decide) ?_
  refine q_LM (As := [.ref y0, .int (iI (2))]) (rest := []) (wr := []) S (c_L_loses l hst D cI cL tw (y0) (y2) (b) (pq) (cq) (2) (4) (0) (sP_60) (sC_0) (3) (hb_60) (by omega) (by omega) (by omega) (fq_247) (by omega)) (1) (()) (fun z u h => ⟨h, rfl⟩) gL_ends_L_loses rfl rfl rfl f_L_loses hR (Nat.le_of_ble_eq_true rfl) (Nat.le_of_ble_eq_true rfl) (hE.kept hS.2.1) hP hD hS hA [0, 1, 2, 3, 4] [] rfl rfl (by decide) rfl (by decide) (by decide) rfl hl.1 rfl (Nat.le_of_ble_eq_true rfl) dL_ends_287 ⟨Nat.le_trans (Nat.le_of_ble_eq_true rfl) hRc.1, Nat.le_trans (Nat.le_of_ble_eq_true rfl) hRc.2⟩ (fun H locs hP hD hS => ?_)
  have hP : va_P D vwCl [(y0, .inr (1, [.ref b, .ref y2, .int (iI (3)), .int (iI (0)), .int (iI (0)), .int (iI (4))])), (y2, .inl (cI, 4, .inl (aI sC_0))), (b, .inr (0, [.ref pq, .ref cq])), (pq, .inl (cI, 16, .inl (aI sP_60))), (cq, .inl (cI, 136, .inl (aI (cnt sP_60))))] H := hP
  have hD : va_D A [(y0, .inr (1, [.ref b, .ref y2, .int (iI (3)), .int (iI (0)), .int (iI (0)), .int (iI (4))])), (y2, .inl (cI, 4, .inl (aI sC_0))), (b, .inr (0, [.ref pq, .ref cq])), (pq, .inl (cI, 16, .inl (aI sP_60))), (cq, .inl (cI, 136, .inl (aI (cnt sP_60))))] := hD
  refine r_if_ne (tgt := 295) hx hb dL_ends_290 (by decide) (by unfold rI; decide) (fun h290 => ?_) (fun h9 => absurd h9 (by omega))
  refine lv_iinc (v := iI (3)) (lv' := [(7, .int (iI (3))), (6, .int (iI (1))), (5, .int (iI (8))), (4, .int (iI (1))), (3, .int (iI (0))), (2, .int (iI (3))), (1, .int (iI (11))), (0, .ref y0)]) hx hb dL_ends_295 hl (k := 0) rfl (by decide) (by decide) rfl (fun ls hl => ?_)
  refine lv_goto (tgt := 264) hx hb dL_ends_298 (by decide) ?_
  refine lv_iload hx hb dL_ends_264 (lv_at hl 0 rfl) ?_
  refine lv_iload_n hx hb dL_ends_266 rfl (lv_at hl 6 rfl) ?_
  refine r_bipush hx hb dL_ends_267 (by decide) ?_
  refine r_icmp_ge (tgt := 276) hx hb dL_ends_269 (by decide) (by unfold rI; decide) (by unfold rI; decide) (fun h9 => absurd h9 (by omega)) (fun h269 => ?_)
  refine r_iconst hx hb dL_ends_272 ?_
  refine lv_goto (tgt := 277) hx hb dL_ends_273 (by decide) ?_
  refine r_icmp_ge (tgt := 301) hx hb dL_ends_277 (by decide) (by unfold rI; decide) (by unfold rI; decide) (fun h9 => absurd h9 (by omega)) (fun h277 => ?_)
  refine lv_aload_n hx hb dL_ends_280 rfl (lv_at hl 7 rfl) ?_
  refine lv_iload_n hx hb dL_ends_281 rfl (lv_at hl 4 rfl) ?_
  refine lv_iload hx hb dL_ends_282 (lv_at hl 0 rfl) ?_
  refine r_iadd hx hb dL_ends_284 ?_
  refine r_top (3) (by decide) ?_
  refine r_iconst hx hb dL_ends_285 ?_
  refine r_irem hx hb dL_ends_286 (by omega) (by omega) ?_
  refine r_top (3) (by decide) ?_
  refine q_LM (As := [.ref y0, .int (iI (3))]) (rest := []) (wr := []) S (c_L_loses l hst D cI cL tw (y0) (y2) (b) (pq) (cq) (3) (4) (0) (sP_60) (sC_0) (0) (hb_60) (by omega) (by omega) (by omega) (fq_248) (by omega)) (1) (()) (fun z u h => ⟨h, rfl⟩) gL_ends_L_loses rfl rfl rfl f_L_loses hR (Nat.le_of_ble_eq_true rfl) (Nat.le_of_ble_eq_true rfl) (hE.kept hS.2.1) hP hD hS hA [0, 1, 2, 3, 4] [] rfl rfl (by decide) rfl (by decide) (by decide) rfl hl.1 rfl (Nat.le_of_ble_eq_true rfl) dL_ends_287 ⟨Nat.le_trans (Nat.le_of_ble_eq_true rfl) hRc.1, Nat.le_trans (Nat.le_of_ble_eq_true rfl) hRc.2⟩ (fun H locs hP hD hS => ?_)
  have hP : va_P D vwCl [(y0, .inr (1, [.ref b, .ref y2, .int (iI (0)), .int (iI (0)), .int (iI (0)), .int (iI (4))])), (y2, .inl (cI, 4, .inl (aI sC_0))), (b, .inr (0, [.ref pq, .ref cq])), (pq, .inl (cI, 16, .inl (aI sP_60))), (cq, .inl (cI, 136, .inl (aI (cnt sP_60))))] H := hP
  have hD : va_D A [(y0, .inr (1, [.ref b, .ref y2, .int (iI (0)), .int (iI (0)), .int (iI (0)), .int (iI (4))])), (y2, .inl (cI, 4, .inl (aI sC_0))), (b, .inr (0, [.ref pq, .ref cq])), (pq, .inl (cI, 16, .inl (aI sP_60))), (cq, .inl (cI, 136, .inl (aI (cnt sP_60))))] := hD
  refine r_if_ne (tgt := 295) hx hb dL_ends_290 (by decide) (by unfold rI; decide) (fun h290 => ?_) (fun h9 => absurd h9 (by omega))
  refine lv_iinc (v := iI (4)) (lv' := [(7, .int (iI (4))), (6, .int (iI (1))), (5, .int (iI (8))), (4, .int (iI (1))), (3, .int (iI (0))), (2, .int (iI (3))), (1, .int (iI (11))), (0, .ref y0)]) hx hb dL_ends_295 hl (k := 0) rfl (by decide) (by decide) rfl (fun ls hl => ?_)
  refine lv_goto (tgt := 264) hx hb dL_ends_298 (by decide) ?_
  refine lv_iload hx hb dL_ends_264 (lv_at hl 0 rfl) ?_
  refine lv_iload_n hx hb dL_ends_266 rfl (lv_at hl 6 rfl) ?_
  refine r_bipush hx hb dL_ends_267 (by decide) ?_
  refine r_icmp_ge (tgt := 276) hx hb dL_ends_269 (by decide) (by unfold rI; decide) (by unfold rI; decide) (fun h9 => absurd h9 (by omega)) (fun h269 => ?_)
  refine r_iconst hx hb dL_ends_272 ?_
  refine lv_goto (tgt := 277) hx hb dL_ends_273 (by decide) ?_
  refine r_icmp_ge (tgt := 301) hx hb dL_ends_277 (by decide) (by unfold rI; decide) (by unfold rI; decide) (fun h277 => ?_) (fun h9 => absurd h9 (by omega))
  refine lv_iinc (v := iI (12)) (lv' := [(1, .int (iI (12))), (7, .int (iI (4))), (6, .int (iI (1))), (5, .int (iI (8))), (4, .int (iI (1))), (3, .int (iI (0))), (2, .int (iI (3))), (0, .ref y0)]) hx hb dL_ends_301 hl (k := 6) rfl (by decide) (by decide) rfl (fun ls hl => ?_)
  refine lv_goto (tgt := 10) hx hb dL_ends_304 (by decide) ?_
  exact sg_L_ends_13 S hst hR hRc hE hA y0 y2 b pq cq  hret hP hD hS hl
set_option maxHeartbeats 4000000 in
set_option maxRecDepth 100000 in
theorem sg_L_ends_11 {p : Program} {l : Launch} {e : Env} {R : Room} {s : State} {mt : MethodId} {args : Array Value} {below : List Frame} {meth : Method} {c : Code} {H0 : Heap} {Q : State → Prop} {A : Nat → Prop} {D : va_G} {cI cL : ClassId} {tw : Nat} (S : CallFix p mt c cL_ends 8 s args wsL_ends RL) (hst : l.stackTraces = false) (hR : 15 ≤ R.frames ∧ 377 ≤ R.locals) (hRc : 527 ≤ R.cells ∧ 3296 ≤ R.slots) (hE : EV D cI cL tw A s H0) (hA : ∀ q : Nat, H0.size ≤ q → A q) (y0 : Nat) (y2 : Nat) (b : Nat) (pq : Nat) (cq : Nat)  (hret : ∀ (z : Int) (u : Unit) (pc : Nat) (ls : Array Slot) (H : Heap) (locs : List Loc) (cells slots : Nat), decode cL_ends pc = .ok (.ireturn, 1) → (z = 1) → va_P D vwCl [] H → va_D A [] → va_S A H0 H locs → cells ≤ 527 → slots ≤ 3296 → W p l e R s mt args below meth c H locs cells slots Q (F0 mt pc ls [.int (iI z)])) {H : Heap} {locs : List Loc} {ls : Array Slot} (hP : va_P D vwCl [(y0, .inr (1, [.ref b, .ref y2, .int (iI (0)), .int (iI (0)), .int (iI (0)), .int (iI (3))])), (y2, .inl (cI, 4, .inl (aI sC_0))), (b, .inr (0, [.ref pq, .ref cq])), (pq, .inl (cI, 16, .inl (aI sP_56))), (cq, .inl (cI, 136, .inl (aI (cnt sP_56))))] H) (hD : va_D A [(y0, .inr (1, [.ref b, .ref y2, .int (iI (0)), .int (iI (0)), .int (iI (0)), .int (iI (3))])), (y2, .inl (cI, 4, .inl (aI sC_0))), (b, .inr (0, [.ref pq, .ref cq])), (pq, .inl (cI, 16, .inl (aI sP_56))), (cq, .inl (cI, 136, .inl (aI (cnt sP_56))))]) (hS : va_S A H0 H locs) (hl : lv_has ls 8 [(1, .int (iI (10))), (7, .int (iI (4))), (6, .int (iI (1))), (5, .int (iI (8))), (4, .int (iI (1))), (3, .int (iI (0))), (2, .int (iI (3))), (0, .ref y0)]) : W p l e R s mt args below meth c H locs 168 1142 Q (F0 mt 10 ls []) := by
  obtain ⟨hx, hb, hml, hown, hts⟩ := id S
  refine lv_iload_n hx hb dL_ends_10 rfl (lv_at hl 0 rfl) ?_
  refine r_bipush hx hb dL_ends_11 (by decide) ?_
  refine r_icmp_ge (tgt := 307) hx hb dL_ends_13 (by decide) (by unfold rI; decide) (by unfold rI; decide) (fun h9 => absurd h9 (by omega)) (fun h13 => ?_)
  refine lv_iload_n hx hb dL_ends_16 rfl (lv_at hl 0 rfl) ?_
  refine r_iconst hx hb dL_ends_17 ?_
  refine r_idiv hx hb dL_ends_18 (by omega) (by omega) ?_
  refine r_top (3) (by decide) ?_
  refine r_iconst hx hb dL_ends_19 ?_
  refine r_irem hx hb dL_ends_20 (by omega) (by omega) ?_
  refine r_top (3) (by decide) ?_
  refine lv_istore_n (lv' := [(2, .int (iI (3))), (1, .int (iI (10))), (7, .int (iI (4))), (6, .int (iI (1))), (5, .int (iI (8))), (4, .int (iI (1))), (3, .int (iI (0))), (0, .ref y0)]) hx hb dL_ends_21 rfl hl (by decide) rfl (fun ls hl => ?_)
  refine lv_iload_n hx hb dL_ends_22 rfl (lv_at hl 1 rfl) ?_
  refine r_bipush hx hb dL_ends_23 (by decide) ?_
  refine r_icmp_ge (tgt := 32) hx hb dL_ends_25 (by decide) (by unfold rI; decide) (by unfold rI; decide) (fun h9 => absurd h9 (by omega)) (fun h25 => ?_)
  refine r_iconst hx hb dL_ends_28 ?_
  refine lv_goto (tgt := 37) hx hb dL_ends_29 (by decide) ?_
  refine lv_istore_n (lv' := [(3, .int (iI (0))), (2, .int (iI (3))), (1, .int (iI (10))), (7, .int (iI (4))), (6, .int (iI (1))), (5, .int (iI (8))), (4, .int (iI (1))), (0, .ref y0)]) hx hb dL_ends_37 rfl hl (by decide) rfl (fun ls hl => ?_)
  refine lv_aload_n hx hb dL_ends_38 rfl (lv_at hl 7 rfl) ?_
  refine q_RO (As := []) (rest := []) S (c_X1_onTurn l D cI cL tw (y0) (y2) (b) (pq) (cq) (0) (0) (3) (0) (sP_56) (sC_0) (hb_56) (by omega) (by omega) (by omega) (by omega)) (0) (fun z h => h) gL_ends_X1_onTurn rfl rfl rfl ⟨rfl, f_X1_onTurn⟩ hR (Nat.le_of_ble_eq_true rfl) (Nat.le_of_ble_eq_true rfl) (hE.kept hS.2.1) hP [0, 1, 2, 3, 4] rfl 0 rfl rfl rfl hl.1 rfl (Nat.le_of_ble_eq_true rfl) dL_ends_39 ⟨Nat.le_trans (Nat.le_of_ble_eq_true rfl) hRc.1, Nat.le_trans (Nat.le_of_ble_eq_true rfl) hRc.2⟩ ?_
  refine lv_iload_n hx hb dL_ends_42 rfl (lv_at hl 0 rfl) ?_
  refine r_icmp_ne (tgt := 87) hx hb dL_ends_43 (by decide) (by unfold rI; decide) (by unfold rI; decide) (fun h9 => absurd h9 (by omega)) (fun h43 => ?_)
  refine lv_aload_n hx hb dL_ends_46 rfl (lv_at hl 7 rfl) ?_
  refine q_RO (As := []) (rest := []) S (c_X1_mover l D cI cL tw (y0) (y2) (b) (pq) (cq) (0) (0) (3) (0) (sP_56) (sC_0) (hb_56) (by omega) (by omega) (by omega) (by omega)) (0) (fun z h => h.trans fq_230) gL_ends_X1_mover rfl rfl rfl ⟨rfl, f_X1_mover⟩ hR (Nat.le_of_ble_eq_true rfl) (Nat.le_of_ble_eq_true rfl) (hE.kept hS.2.1) hP [0, 1, 2, 3, 4] rfl 0 rfl rfl rfl hl.1 rfl (Nat.le_of_ble_eq_true rfl) dL_ends_47 ⟨Nat.le_trans (Nat.le_of_ble_eq_true rfl) hRc.1, Nat.le_trans (Nat.le_of_ble_eq_true rfl) hRc.2⟩ ?_
  refine lv_iload_n hx hb dL_ends_50 rfl (lv_at hl 2 rfl) ?_
  refine r_bipush hx hb dL_ends_51 (by decide) ?_
  refine r_icmp_ge (tgt := 60) hx hb dL_ends_53 (by decide) (by unfold rI; decide) (by unfold rI; decide) (fun h9 => absurd h9 (by omega)) (fun h53 => ?_)
  refine r_iconst hx hb dL_ends_56 ?_
  refine lv_goto (tgt := 61) hx hb dL_ends_57 (by decide) ?_
  refine r_icmp_ne (tgt := 87) hx hb dL_ends_61 (by decide) (by unfold rI; decide) (by unfold rI; decide) (fun h9 => absurd h9 (by omega)) (fun h61 => ?_)
  refine lv_aload_n hx hb dL_ends_64 rfl (lv_at hl 7 rfl) ?_
  refine lv_iload_n hx hb dL_ends_65 rfl (lv_at hl 2 rfl) ?_
  refine r_bipush hx hb dL_ends_66 (by decide) ?_
  refine r_icmp_ge (tgt := 75) hx hb dL_ends_68 (by decide) (by unfold rI; decide) (by unfold rI; decide) (fun h9 => absurd h9 (by omega)) (fun h68 => ?_)
  refine r_iconst hx hb dL_ends_71 ?_
  refine lv_goto (tgt := 76) hx hb dL_ends_72 (by decide) ?_
  refine q_Xi (As := [.int (iI (0))]) (rest := []) S (c_X1_home l hst D cI cL tw (y0) (y2) (b) (pq) (cq) (0) (0) (3) (0) (sP_56) (sC_0) (0) (hb_56) (by omega) (by omega) (by omega) (by omega) (by omega)) (3) (fun z h => h.2.2.trans fq_231) (fun E h => by (try dsimp only at h); first | (rcases h with ⟨_, h⟩ | ⟨_, h⟩ <;> omega) | (obtain ⟨_, h⟩ := h; omega)) gL_ends_X1_home rfl rfl rfl ⟨rfl, f_X1_home⟩ hR (Nat.le_of_ble_eq_true rfl) (Nat.le_of_ble_eq_true rfl) (hE.kept hS.2.1) hP hS hA [0, 1, 2, 3, 4] rfl 0 rfl rfl rfl hl.1 rfl (Nat.le_of_ble_eq_true rfl) dL_ends_76 ⟨Nat.le_trans (Nat.le_of_ble_eq_true rfl) hRc.1, Nat.le_trans (Nat.le_of_ble_eq_true rfl) hRc.2⟩ (fun H locs hP hS => ?_)
  refine lv_iload_n hx hb dL_ends_79 rfl (lv_at hl 1 rfl) ?_
  refine r_icmp_ne (tgt := 87) hx hb dL_ends_80 (by decide) (by unfold rI; decide) (by unfold rI; decide) (fun h9 => absurd h9 (by omega)) (fun h80 => ?_)
  refine r_iconst hx hb dL_ends_83 ?_
  refine lv_goto (tgt := 88) hx hb dL_ends_84 (by decide) ?_
  refine lv_istore (lv' := [(4, .int (iI (1))), (3, .int (iI (0))), (2, .int (iI (3))), (1, .int (iI (10))), (7, .int (iI (4))), (6, .int (iI (1))), (5, .int (iI (8))), (0, .ref y0)]) hx hb dL_ends_88 hl (by decide) rfl (fun ls hl => ?_)
  refine r_bipush hx hb dL_ends_90 (by decide) ?_
  refine r_iconst hx hb dL_ends_92 ?_
  refine lv_iload_n hx hb dL_ends_93 rfl (lv_at hl 2 rfl) ?_
  refine r_ishl hx hb (z := 8) dL_ends_94 (by decide) ?_
  refine r_isub hx hb dL_ends_95 ?_
  refine r_top (7) (by decide) ?_
  refine r_iconst hx hb dL_ends_96 ?_
  refine r_iadd hx hb dL_ends_97 ?_
  refine r_top (8) (by decide) ?_
  refine lv_istore (lv' := [(5, .int (iI (8))), (4, .int (iI (1))), (3, .int (iI (0))), (2, .int (iI (3))), (1, .int (iI (10))), (7, .int (iI (4))), (6, .int (iI (1))), (0, .ref y0)]) hx hb dL_ends_98 hl (by decide) rfl (fun ls hl => ?_)
  refine lv_iload_n hx hb dL_ends_100 rfl (lv_at hl 4 rfl) ?_
  refine r_iconst hx hb dL_ends_101 ?_
  refine r_irem hx hb dL_ends_102 (by omega) (by omega) ?_
  refine r_top (1) (by decide) ?_
  refine r_if_ne (tgt := 154) hx hb dL_ends_103 (by decide) (by unfold rI; decide) (fun h103 => ?_) (fun h9 => absurd h9 (by omega))
  refine lv_iload_n hx hb dL_ends_154 rfl (lv_at hl 4 rfl) ?_
  refine r_iconst hx hb dL_ends_155 ?_
  refine r_irem hx hb dL_ends_156 (by omega) (by omega) ?_
  refine r_top (1) (by decide) ?_
  refine r_iconst hx hb dL_ends_157 ?_
  refine r_icmp_ne (tgt := 209) hx hb dL_ends_158 (by decide) (by unfold rI; decide) (by unfold rI; decide) (fun h9 => absurd h9 (by omega)) (fun h158 => ?_)
  refine lv_aload_n hx hb dL_ends_161 rfl (lv_at hl 7 rfl) ?_
  refine r_iconst hx hb dL_ends_162 ?_
  refine lv_iload hx hb dL_ends_163 (lv_at hl 0 rfl) ?_
  refine lv_iload_n hx hb dL_ends_165 rfl (lv_at hl 3 rfl) ?_
  refine r_bipush hx hb dL_ends_166 (by decide) ?_
  refine q_LM (As := [.ref y0, .int (iI (0)), .int (iI (8)), .int (iI (3)), .int (iI (54))]) (rest := []) (wr := []) S (c_L_goes l hst D cI cL tw (y0) (y2) (b) (pq) (cq) (0) (3) (0) (sP_56) (sC_0) (0) (8) (3) (54) (0) (1) (0) (sP_57) (sC_0) (by omega) (by omega) (by omega) (fq_233)) (1) (()) (fun z u h => ⟨h, rfl⟩) gL_ends_L_goes rfl rfl rfl f_L_goes hR (Nat.le_of_ble_eq_true rfl) (Nat.le_of_ble_eq_true rfl) (hE.kept hS.2.1) hP hD hS hA [0, 1, 2, 3, 4] [] rfl rfl (by decide) rfl (by decide) (by decide) rfl hl.1 rfl (Nat.le_of_ble_eq_true rfl) dL_ends_168 ⟨Nat.le_trans (Nat.le_of_ble_eq_true rfl) hRc.1, Nat.le_trans (Nat.le_of_ble_eq_true rfl) hRc.2⟩ (fun H locs hP hD hS => ?_)
  have hP : va_P D vwCl [(y0, .inr (1, [.ref b, .ref y2, .int (iI (0)), .int (iI (1)), .int (iI (0)), .int (iI (0))])), (y2, .inl (cI, 4, .inl (aI sC_0))), (b, .inr (0, [.ref pq, .ref cq])), (pq, .inl (cI, 16, .inl (aI sP_57))), (cq, .inl (cI, 136, .inl (aI (cnt sP_57))))] H := hP
  have hD : va_D A [(y0, .inr (1, [.ref b, .ref y2, .int (iI (0)), .int (iI (1)), .int (iI (0)), .int (iI (0))])), (y2, .inl (cI, 4, .inl (aI sC_0))), (b, .inr (0, [.ref pq, .ref cq])), (pq, .inl (cI, 16, .inl (aI sP_57))), (cq, .inl (cI, 136, .inl (aI (cnt sP_57))))] := hD
  refine r_if_eq (tgt := 205) hx hb dL_ends_171 (by decide) (by unfold rI; decide) (fun h9 => absurd h9 (by omega)) (fun h171 => ?_)
  refine lv_aload_n hx hb dL_ends_174 rfl (lv_at hl 7 rfl) ?_
  refine r_iconst hx hb dL_ends_175 ?_
  refine lv_iload hx hb dL_ends_176 (lv_at hl 0 rfl) ?_
  refine lv_iload_n hx hb dL_ends_178 rfl (lv_at hl 3 rfl) ?_
  refine r_bipush hx hb dL_ends_179 (by decide) ?_
  refine q_LM (As := [.ref y0, .int (iI (1)), .int (iI (8)), .int (iI (3)), .int (iI (64))]) (rest := []) (wr := []) S (c_L_goes l hst D cI cL tw (y0) (y2) (b) (pq) (cq) (0) (0) (1) (sP_57) (sC_0) (1) (8) (3) (64) (0) (2) (0) (sP_58) (sC_0) (by omega) (by omega) (by omega) (fq_235)) (1) (()) (fun z u h => ⟨h, rfl⟩) gL_ends_L_goes rfl rfl rfl f_L_goes hR (Nat.le_of_ble_eq_true rfl) (Nat.le_of_ble_eq_true rfl) (hE.kept hS.2.1) hP hD hS hA [0, 1, 2, 3, 4] [] rfl rfl (by decide) rfl (by decide) (by decide) rfl hl.1 rfl (Nat.le_of_ble_eq_true rfl) dL_ends_181 ⟨Nat.le_trans (Nat.le_of_ble_eq_true rfl) hRc.1, Nat.le_trans (Nat.le_of_ble_eq_true rfl) hRc.2⟩ (fun H locs hP hD hS => ?_)
  have hP : va_P D vwCl [(y0, .inr (1, [.ref b, .ref y2, .int (iI (0)), .int (iI (2)), .int (iI (0)), .int (iI (1))])), (y2, .inl (cI, 4, .inl (aI sC_0))), (b, .inr (0, [.ref pq, .ref cq])), (pq, .inl (cI, 16, .inl (aI sP_58))), (cq, .inl (cI, 136, .inl (aI (cnt sP_58))))] H := hP
  have hD : va_D A [(y0, .inr (1, [.ref b, .ref y2, .int (iI (0)), .int (iI (2)), .int (iI (0)), .int (iI (1))])), (y2, .inl (cI, 4, .inl (aI sC_0))), (b, .inr (0, [.ref pq, .ref cq])), (pq, .inl (cI, 16, .inl (aI sP_58))), (cq, .inl (cI, 136, .inl (aI (cnt sP_58))))] := hD
  refine r_if_eq (tgt := 205) hx hb dL_ends_184 (by decide) (by unfold rI; decide) (fun h9 => absurd h9 (by omega)) (fun h184 => ?_)
  refine lv_aload_n hx hb dL_ends_187 rfl (lv_at hl 7 rfl) ?_
  refine r_iconst hx hb dL_ends_188 ?_
  refine r_iconst hx hb dL_ends_189 ?_
  refine lv_iload_n hx hb dL_ends_190 rfl (lv_at hl 3 rfl) ?_
  refine r_ishl hx hb (z := 8) dL_ends_191 (by decide) ?_
  refine lv_iload_n hx hb dL_ends_192 rfl (lv_at hl 3 rfl) ?_
  refine r_bipush hx hb dL_ends_193 (by decide) ?_
  refine q_LM (As := [.ref y0, .int (iI (4)), .int (iI (8)), .int (iI (3)), .int (iI (68))]) (rest := []) (wr := []) S (c_L_goes l hst D cI cL tw (y0) (y2) (b) (pq) (cq) (0) (1) (2) (sP_58) (sC_0) (4) (8) (3) (68) (1) (0) (0) (sP_59) (sC_0) (by omega) (by omega) (by omega) (fq_237)) (1) (()) (fun z u h => ⟨h, rfl⟩) gL_ends_L_goes rfl rfl rfl f_L_goes hR (Nat.le_of_ble_eq_true rfl) (Nat.le_of_ble_eq_true rfl) (hE.kept hS.2.1) hP hD hS hA [0, 1, 2, 3, 4] [] rfl rfl (by decide) rfl (by decide) (by decide) rfl hl.1 rfl (Nat.le_of_ble_eq_true rfl) dL_ends_195 ⟨Nat.le_trans (Nat.le_of_ble_eq_true rfl) hRc.1, Nat.le_trans (Nat.le_of_ble_eq_true rfl) hRc.2⟩ (fun H locs hP hD hS => ?_)
  have hP : va_P D vwCl [(y0, .inr (1, [.ref b, .ref y2, .int (iI (1)), .int (iI (0)), .int (iI (0)), .int (iI (4))])), (y2, .inl (cI, 4, .inl (aI sC_0))), (b, .inr (0, [.ref pq, .ref cq])), (pq, .inl (cI, 16, .inl (aI sP_59))), (cq, .inl (cI, 136, .inl (aI (cnt sP_59))))] H := hP
  have hD : va_D A [(y0, .inr (1, [.ref b, .ref y2, .int (iI (1)), .int (iI (0)), .int (iI (0)), .int (iI (4))])), (y2, .inl (cI, 4, .inl (aI sC_0))), (b, .inr (0, [.ref pq, .ref cq])), (pq, .inl (cI, 16, .inl (aI sP_59))), (cq, .inl (cI, 136, .inl (aI (cnt sP_59))))] := hD
  refine r_if_eq (tgt := 205) hx hb dL_ends_198 (by decide) (by unfold rI; decide) (fun h9 => absurd h9 (by omega)) (fun h198 => ?_)
  refine r_iconst hx hb dL_ends_201 ?_
  refine lv_goto (tgt := 238) hx hb dL_ends_202 (by decide) ?_
  refine lv_istore (lv' := [(6, .int (iI (1))), (5, .int (iI (8))), (4, .int (iI (1))), (3, .int (iI (0))), (2, .int (iI (3))), (1, .int (iI (10))), (7, .int (iI (4))), (0, .ref y0)]) hx hb dL_ends_238 hl (by decide) rfl (fun ls hl => ?_)
  refine lv_iload hx hb dL_ends_240 (lv_at hl 2 rfl) ?_
  refine r_if_eq (tgt := 250) hx hb dL_ends_242 (by decide) (by unfold rI; decide) (fun h9 => absurd h9 (by omega)) (fun h242 => ?_)
  refine lv_iload hx hb dL_ends_245 (lv_at hl 0 rfl) ?_
  refine r_if_ne (tgt := 252) hx hb dL_ends_247 (by decide) (by unfold rI; decide) (fun h247 => ?_) (fun h9 => absurd h9 (by omega))
  refine lv_iload_n hx hb dL_ends_252 rfl (lv_at hl 5 rfl) ?_
  refine r_bipush hx hb dL_ends_253 (by decide) ?_
  refine r_icmp_ne (tgt := 261) hx hb dL_ends_255 (by decide) (by unfold rI; decide) (by unfold rI; decide) (fun h255 => ?_) (fun h9 => absurd h9 (by omega))
  refine r_iconst hx hb dL_ends_261 ?_
  refine lv_istore (lv' := [(7, .int (iI (1))), (6, .int (iI (1))), (5, .int (iI (8))), (4, .int (iI (1))), (3, .int (iI (0))), (2, .int (iI (3))), (1, .int (iI (10))), (0, .ref y0)]) hx hb dL_ends_262 hl (by decide) rfl (fun ls hl => ?_)
  refine lv_iload hx hb dL_ends_264 (lv_at hl 0 rfl) ?_
  refine lv_iload_n hx hb dL_ends_266 rfl (lv_at hl 6 rfl) ?_
  refine r_bipush hx hb dL_ends_267 (by decide) ?_
  refine r_icmp_ge (tgt := 276) hx hb dL_ends_269 (by decide) (by unfold rI; decide) (by unfold rI; decide) (fun h9 => absurd h9 (by omega)) (fun h269 => ?_)
  refine r_iconst hx hb dL_ends_272 ?_
  refine lv_goto (tgt := 277) hx hb dL_ends_273 (by decide) ?_
  refine r_icmp_ge (tgt := 301) hx hb dL_ends_277 (by decide) (by unfold rI; decide) (by unfold rI; decide) (fun h9 => absurd h9 (by omega)) (fun h277 => ?_)
  refine lv_aload_n hx hb dL_ends_280 rfl (lv_at hl 7 rfl) ?_
  refine lv_iload_n hx hb dL_ends_281 rfl (lv_at hl 4 rfl) ?_
  refine lv_iload hx hb dL_ends_282 (lv_at hl 0 rfl) ?_
  refine r_iadd hx hb dL_ends_284 ?_
  refine r_top (1) (by decide) ?_
  refine r_iconst hx hb dL_ends_285 ?_
  refine r_irem hx hb dL_ends_286 (by omega) (by omega) ?_
  refine r_top (1) (by decide) ?_
  refine q_LM (As := [.ref y0, .int (iI (1))]) (rest := []) (wr := []) S (c_L_loses l hst D cI cL tw (y0) (y2) (b) (pq) (cq) (1) (4) (0) (sP_59) (sC_0) (2) (hb_59) (by omega) (by omega) (by omega) (fq_238) (by omega)) (1) (()) (fun z u h => ⟨h, rfl⟩) gL_ends_L_loses rfl rfl rfl f_L_loses hR (Nat.le_of_ble_eq_true rfl) (Nat.le_of_ble_eq_true rfl) (hE.kept hS.2.1) hP hD hS hA [0, 1, 2, 3, 4] [] rfl rfl (by decide) rfl (by decide) (by decide) rfl hl.1 rfl (Nat.le_of_ble_eq_true rfl) dL_ends_287 ⟨Nat.le_trans (Nat.le_of_ble_eq_true rfl) hRc.1, Nat.le_trans (Nat.le_of_ble_eq_true rfl) hRc.2⟩ (fun H locs hP hD hS => ?_)
  have hP : va_P D vwCl [(y0, .inr (1, [.ref b, .ref y2, .int (iI (2)), .int (iI (0)), .int (iI (0)), .int (iI (4))])), (y2, .inl (cI, 4, .inl (aI sC_0))), (b, .inr (0, [.ref pq, .ref cq])), (pq, .inl (cI, 16, .inl (aI sP_59))), (cq, .inl (cI, 136, .inl (aI (cnt sP_59))))] H := hP
  have hD : va_D A [(y0, .inr (1, [.ref b, .ref y2, .int (iI (2)), .int (iI (0)), .int (iI (0)), .int (iI (4))])), (y2, .inl (cI, 4, .inl (aI sC_0))), (b, .inr (0, [.ref pq, .ref cq])), (pq, .inl (cI, 16, .inl (aI sP_59))), (cq, .inl (cI, 136, .inl (aI (cnt sP_59))))] := hD
  refine r_if_ne (tgt := 295) hx hb dL_ends_290 (by decide) (by unfold rI; decide) (fun h290 => ?_) (fun h9 => absurd h9 (by omega))
  refine lv_iinc (v := iI (2)) (lv' := [(7, .int (iI (2))), (6, .int (iI (1))), (5, .int (iI (8))), (4, .int (iI (1))), (3, .int (iI (0))), (2, .int (iI (3))), (1, .int (iI (10))), (0, .ref y0)]) hx hb dL_ends_295 hl (k := 0) rfl (by decide) (by decide) rfl (fun ls hl => ?_)
  refine lv_goto (tgt := 264) hx hb dL_ends_298 (by decide) ?_
  refine lv_iload hx hb dL_ends_264 (lv_at hl 0 rfl) ?_
  refine lv_iload_n hx hb dL_ends_266 rfl (lv_at hl 6 rfl) ?_
  refine r_bipush hx hb dL_ends_267 (by decide) ?_
  refine r_icmp_ge (tgt := 276) hx hb dL_ends_269 (by decide) (by unfold rI; decide) (by unfold rI; decide) (fun h9 => absurd h9 (by omega)) (fun h269 => ?_)
  refine r_iconst hx hb dL_ends_272 ?_
  refine lv_goto (tgt := 277) hx hb dL_ends_273 (by decide) ?_
  refine r_icmp_ge (tgt := 301) hx hb dL_ends_277 (by decide) (by unfold rI; decide) (by unfold rI; decide) (fun h9 => absurd h9 (by omega)) (fun h277 => ?_)
  refine lv_aload_n hx hb dL_ends_280 rfl (lv_at hl 7 rfl) ?_
  refine lv_iload_n hx hb dL_ends_281 rfl (lv_at hl 4 rfl) ?_
  refine lv_iload hx hb dL_ends_282 (lv_at hl 0 rfl) ?_
  refine r_iadd hx hb dL_ends_284 ?_
  refine r_top (2) (by decide) ?_
  refine r_iconst hx hb dL_ends_285 ?_
  refine r_irem hx hb dL_ends_286 (by omega) (by omega) ?_
  refine r_top (2) (by decide) ?_
  refine q_LM (As := [.ref y0, .int (iI (2))]) (rest := []) (wr := []) S (c_L_loses l hst D cI cL tw (y0) (y2) (b) (pq) (cq) (2) (4) (0) (sP_59) (sC_0) (3) (hb_59) (by omega) (by omega) (by omega) (fq_239) (by omega)) (1) (()) (fun z u h => ⟨h, rfl⟩) gL_ends_L_loses rfl rfl rfl f_L_loses hR (Nat.le_of_ble_eq_true rfl) (Nat.le_of_ble_eq_true rfl) (hE.kept hS.2.1) hP hD hS hA [0, 1, 2, 3, 4] [] rfl rfl (by decide) rfl (by decide) (by decide) rfl hl.1 rfl (Nat.le_of_ble_eq_true rfl) dL_ends_287 ⟨Nat.le_trans (Nat.le_of_ble_eq_true rfl) hRc.1, Nat.le_trans (Nat.le_of_ble_eq_true rfl) hRc.2⟩ (fun H locs hP hD hS => ?_)
  have hP : va_P D vwCl [(y0, .inr (1, [.ref b, .ref y2, .int (iI (3)), .int (iI (0)), .int (iI (0)), .int (iI (4))])), (y2, .inl (cI, 4, .inl (aI sC_0))), (b, .inr (0, [.ref pq, .ref cq])), (pq, .inl (cI, 16, .inl (aI sP_59))), (cq, .inl (cI, 136, .inl (aI (cnt sP_59))))] H := hP
  have hD : va_D A [(y0, .inr (1, [.ref b, .ref y2, .int (iI (3)), .int (iI (0)), .int (iI (0)), .int (iI (4))])), (y2, .inl (cI, 4, .inl (aI sC_0))), (b, .inr (0, [.ref pq, .ref cq])), (pq, .inl (cI, 16, .inl (aI sP_59))), (cq, .inl (cI, 136, .inl (aI (cnt sP_59))))] := hD
  refine r_if_ne (tgt := 295) hx hb dL_ends_290 (by decide) (by unfold rI; decide) (fun h290 => ?_) (fun h9 => absurd h9 (by omega))
  refine lv_iinc (v := iI (3)) (lv' := [(7, .int (iI (3))), (6, .int (iI (1))), (5, .int (iI (8))), (4, .int (iI (1))), (3, .int (iI (0))), (2, .int (iI (3))), (1, .int (iI (10))), (0, .ref y0)]) hx hb dL_ends_295 hl (k := 0) rfl (by decide) (by decide) rfl (fun ls hl => ?_)
  refine lv_goto (tgt := 264) hx hb dL_ends_298 (by decide) ?_
  refine lv_iload hx hb dL_ends_264 (lv_at hl 0 rfl) ?_
  refine lv_iload_n hx hb dL_ends_266 rfl (lv_at hl 6 rfl) ?_
  refine r_bipush hx hb dL_ends_267 (by decide) ?_
  refine r_icmp_ge (tgt := 276) hx hb dL_ends_269 (by decide) (by unfold rI; decide) (by unfold rI; decide) (fun h9 => absurd h9 (by omega)) (fun h269 => ?_)
  refine r_iconst hx hb dL_ends_272 ?_
  refine lv_goto (tgt := 277) hx hb dL_ends_273 (by decide) ?_
  refine r_icmp_ge (tgt := 301) hx hb dL_ends_277 (by decide) (by unfold rI; decide) (by unfold rI; decide) (fun h9 => absurd h9 (by omega)) (fun h277 => ?_)
  refine lv_aload_n hx hb dL_ends_280 rfl (lv_at hl 7 rfl) ?_
  refine lv_iload_n hx hb dL_ends_281 rfl (lv_at hl 4 rfl) ?_
  refine lv_iload hx hb dL_ends_282 (lv_at hl 0 rfl) ?_
  refine r_iadd hx hb dL_ends_284 ?_
  refine r_top (3) (by decide) ?_
  refine r_iconst hx hb dL_ends_285 ?_
  refine r_irem hx hb dL_ends_286 (by omega) (by omega) ?_
  refine r_top (3) (by decide) ?_
  refine q_LM (As := [.ref y0, .int (iI (3))]) (rest := []) (wr := []) S (c_L_loses l hst D cI cL tw (y0) (y2) (b) (pq) (cq) (3) (4) (0) (sP_59) (sC_0) (0) (hb_59) (by omega) (by omega) (by omega) (fq_240) (by omega)) (1) (()) (fun z u h => ⟨h, rfl⟩) gL_ends_L_loses rfl rfl rfl f_L_loses hR (Nat.le_of_ble_eq_true rfl) (Nat.le_of_ble_eq_true rfl) (hE.kept hS.2.1) hP hD hS hA [0, 1, 2, 3, 4] [] rfl rfl (by decide) rfl (by decide) (by decide) rfl hl.1 rfl (Nat.le_of_ble_eq_true rfl) dL_ends_287 ⟨Nat.le_trans (Nat.le_of_ble_eq_true rfl) hRc.1, Nat.le_trans (Nat.le_of_ble_eq_true rfl) hRc.2⟩ (fun H locs hP hD hS => ?_)
  have hP : va_P D vwCl [(y0, .inr (1, [.ref b, .ref y2, .int (iI (0)), .int (iI (0)), .int (iI (0)), .int (iI (4))])), (y2, .inl (cI, 4, .inl (aI sC_0))), (b, .inr (0, [.ref pq, .ref cq])), (pq, .inl (cI, 16, .inl (aI sP_59))), (cq, .inl (cI, 136, .inl (aI (cnt sP_59))))] H := hP
  have hD : va_D A [(y0, .inr (1, [.ref b, .ref y2, .int (iI (0)), .int (iI (0)), .int (iI (0)), .int (iI (4))])), (y2, .inl (cI, 4, .inl (aI sC_0))), (b, .inr (0, [.ref pq, .ref cq])), (pq, .inl (cI, 16, .inl (aI sP_59))), (cq, .inl (cI, 136, .inl (aI (cnt sP_59))))] := hD
  refine r_if_ne (tgt := 295) hx hb dL_ends_290 (by decide) (by unfold rI; decide) (fun h290 => ?_) (fun h9 => absurd h9 (by omega))
  refine lv_iinc (v := iI (4)) (lv' := [(7, .int (iI (4))), (6, .int (iI (1))), (5, .int (iI (8))), (4, .int (iI (1))), (3, .int (iI (0))), (2, .int (iI (3))), (1, .int (iI (10))), (0, .ref y0)]) hx hb dL_ends_295 hl (k := 0) rfl (by decide) (by decide) rfl (fun ls hl => ?_)
  refine lv_goto (tgt := 264) hx hb dL_ends_298 (by decide) ?_
  refine lv_iload hx hb dL_ends_264 (lv_at hl 0 rfl) ?_
  refine lv_iload_n hx hb dL_ends_266 rfl (lv_at hl 6 rfl) ?_
  refine r_bipush hx hb dL_ends_267 (by decide) ?_
  refine r_icmp_ge (tgt := 276) hx hb dL_ends_269 (by decide) (by unfold rI; decide) (by unfold rI; decide) (fun h9 => absurd h9 (by omega)) (fun h269 => ?_)
  refine r_iconst hx hb dL_ends_272 ?_
  refine lv_goto (tgt := 277) hx hb dL_ends_273 (by decide) ?_
  refine r_icmp_ge (tgt := 301) hx hb dL_ends_277 (by decide) (by unfold rI; decide) (by unfold rI; decide) (fun h277 => ?_) (fun h9 => absurd h9 (by omega))
  refine lv_iinc (v := iI (11)) (lv' := [(1, .int (iI (11))), (7, .int (iI (4))), (6, .int (iI (1))), (5, .int (iI (8))), (4, .int (iI (1))), (3, .int (iI (0))), (2, .int (iI (3))), (0, .ref y0)]) hx hb dL_ends_301 hl (k := 6) rfl (by decide) (by decide) rfl (fun ls hl => ?_)
  refine lv_goto (tgt := 10) hx hb dL_ends_304 (by decide) ?_
  exact sg_L_ends_12 S hst hR hRc hE hA y0 y2 b pq cq  hret hP hD hS hl
set_option maxHeartbeats 4000000 in
set_option maxRecDepth 100000 in
theorem sg_L_ends_10 {p : Program} {l : Launch} {e : Env} {R : Room} {s : State} {mt : MethodId} {args : Array Value} {below : List Frame} {meth : Method} {c : Code} {H0 : Heap} {Q : State → Prop} {A : Nat → Prop} {D : va_G} {cI cL : ClassId} {tw : Nat} (S : CallFix p mt c cL_ends 8 s args wsL_ends RL) (hst : l.stackTraces = false) (hR : 15 ≤ R.frames ∧ 377 ≤ R.locals) (hRc : 527 ≤ R.cells ∧ 3296 ≤ R.slots) (hE : EV D cI cL tw A s H0) (hA : ∀ q : Nat, H0.size ≤ q → A q) (y0 : Nat) (y2 : Nat) (b : Nat) (pq : Nat) (cq : Nat)  (hret : ∀ (z : Int) (u : Unit) (pc : Nat) (ls : Array Slot) (H : Heap) (locs : List Loc) (cells slots : Nat), decode cL_ends pc = .ok (.ireturn, 1) → (z = 1) → va_P D vwCl [] H → va_D A [] → va_S A H0 H locs → cells ≤ 527 → slots ≤ 3296 → W p l e R s mt args below meth c H locs cells slots Q (F0 mt pc ls [.int (iI z)])) {H : Heap} {locs : List Loc} {ls : Array Slot} (hP : va_P D vwCl [(y0, .inr (1, [.ref b, .ref y2, .int (iI (0)), .int (iI (0)), .int (iI (0)), .int (iI (4))])), (y2, .inl (cI, 4, .inl (aI sC_0))), (b, .inr (0, [.ref pq, .ref cq])), (pq, .inl (cI, 16, .inl (aI sP_53))), (cq, .inl (cI, 136, .inl (aI (cnt sP_53))))] H) (hD : va_D A [(y0, .inr (1, [.ref b, .ref y2, .int (iI (0)), .int (iI (0)), .int (iI (0)), .int (iI (4))])), (y2, .inl (cI, 4, .inl (aI sC_0))), (b, .inr (0, [.ref pq, .ref cq])), (pq, .inl (cI, 16, .inl (aI sP_53))), (cq, .inl (cI, 136, .inl (aI (cnt sP_53))))]) (hS : va_S A H0 H locs) (hl : lv_has ls 8 [(1, .int (iI (9))), (7, .int (iI (4))), (6, .int (iI (1))), (5, .int (iI (12))), (4, .int (iI (1))), (3, .int (iI (0))), (2, .int (iI (2))), (0, .ref y0)]) : W p l e R s mt args below meth c H locs 149 1028 Q (F0 mt 10 ls []) := by
  obtain ⟨hx, hb, hml, hown, hts⟩ := id S
  refine lv_iload_n hx hb dL_ends_10 rfl (lv_at hl 0 rfl) ?_
  refine r_bipush hx hb dL_ends_11 (by decide) ?_
  refine r_icmp_ge (tgt := 307) hx hb dL_ends_13 (by decide) (by unfold rI; decide) (by unfold rI; decide) (fun h9 => absurd h9 (by omega)) (fun h13 => ?_)
  refine lv_iload_n hx hb dL_ends_16 rfl (lv_at hl 0 rfl) ?_
  refine r_iconst hx hb dL_ends_17 ?_
  refine r_idiv hx hb dL_ends_18 (by omega) (by omega) ?_
  refine r_top (3) (by decide) ?_
  refine r_iconst hx hb dL_ends_19 ?_
  refine r_irem hx hb dL_ends_20 (by omega) (by omega) ?_
  refine r_top (3) (by decide) ?_
  refine lv_istore_n (lv' := [(2, .int (iI (3))), (1, .int (iI (9))), (7, .int (iI (4))), (6, .int (iI (1))), (5, .int (iI (12))), (4, .int (iI (1))), (3, .int (iI (0))), (0, .ref y0)]) hx hb dL_ends_21 rfl hl (by decide) rfl (fun ls hl => ?_)
  refine lv_iload_n hx hb dL_ends_22 rfl (lv_at hl 1 rfl) ?_
  refine r_bipush hx hb dL_ends_23 (by decide) ?_
  refine r_icmp_ge (tgt := 32) hx hb dL_ends_25 (by decide) (by unfold rI; decide) (by unfold rI; decide) (fun h9 => absurd h9 (by omega)) (fun h25 => ?_)
  refine r_iconst hx hb dL_ends_28 ?_
  refine lv_goto (tgt := 37) hx hb dL_ends_29 (by decide) ?_
  refine lv_istore_n (lv' := [(3, .int (iI (0))), (2, .int (iI (3))), (1, .int (iI (9))), (7, .int (iI (4))), (6, .int (iI (1))), (5, .int (iI (12))), (4, .int (iI (1))), (0, .ref y0)]) hx hb dL_ends_37 rfl hl (by decide) rfl (fun ls hl => ?_)
  refine lv_aload_n hx hb dL_ends_38 rfl (lv_at hl 7 rfl) ?_
  refine q_RO (As := []) (rest := []) S (c_X1_onTurn l D cI cL tw (y0) (y2) (b) (pq) (cq) (0) (0) (4) (0) (sP_53) (sC_0) (hb_53) (by omega) (by omega) (by omega) (by omega)) (0) (fun z h => h) gL_ends_X1_onTurn rfl rfl rfl ⟨rfl, f_X1_onTurn⟩ hR (Nat.le_of_ble_eq_true rfl) (Nat.le_of_ble_eq_true rfl) (hE.kept hS.2.1) hP [0, 1, 2, 3, 4] rfl 0 rfl rfl rfl hl.1 rfl (Nat.le_of_ble_eq_true rfl) dL_ends_39 ⟨Nat.le_trans (Nat.le_of_ble_eq_true rfl) hRc.1, Nat.le_trans (Nat.le_of_ble_eq_true rfl) hRc.2⟩ ?_
  refine lv_iload_n hx hb dL_ends_42 rfl (lv_at hl 0 rfl) ?_
  refine r_icmp_ne (tgt := 87) hx hb dL_ends_43 (by decide) (by unfold rI; decide) (by unfold rI; decide) (fun h9 => absurd h9 (by omega)) (fun h43 => ?_)
  refine lv_aload_n hx hb dL_ends_46 rfl (lv_at hl 7 rfl) ?_
  refine q_RO (As := []) (rest := []) S (c_X1_mover l D cI cL tw (y0) (y2) (b) (pq) (cq) (0) (0) (4) (0) (sP_53) (sC_0) (hb_53) (by omega) (by omega) (by omega) (by omega)) (0) (fun z h => h.trans fq_219) gL_ends_X1_mover rfl rfl rfl ⟨rfl, f_X1_mover⟩ hR (Nat.le_of_ble_eq_true rfl) (Nat.le_of_ble_eq_true rfl) (hE.kept hS.2.1) hP [0, 1, 2, 3, 4] rfl 0 rfl rfl rfl hl.1 rfl (Nat.le_of_ble_eq_true rfl) dL_ends_47 ⟨Nat.le_trans (Nat.le_of_ble_eq_true rfl) hRc.1, Nat.le_trans (Nat.le_of_ble_eq_true rfl) hRc.2⟩ ?_
  refine lv_iload_n hx hb dL_ends_50 rfl (lv_at hl 2 rfl) ?_
  refine r_bipush hx hb dL_ends_51 (by decide) ?_
  refine r_icmp_ge (tgt := 60) hx hb dL_ends_53 (by decide) (by unfold rI; decide) (by unfold rI; decide) (fun h9 => absurd h9 (by omega)) (fun h53 => ?_)
  refine r_iconst hx hb dL_ends_56 ?_
  refine lv_goto (tgt := 61) hx hb dL_ends_57 (by decide) ?_
  refine r_icmp_ne (tgt := 87) hx hb dL_ends_61 (by decide) (by unfold rI; decide) (by unfold rI; decide) (fun h9 => absurd h9 (by omega)) (fun h61 => ?_)
  refine lv_aload_n hx hb dL_ends_64 rfl (lv_at hl 7 rfl) ?_
  refine lv_iload_n hx hb dL_ends_65 rfl (lv_at hl 2 rfl) ?_
  refine r_bipush hx hb dL_ends_66 (by decide) ?_
  refine r_icmp_ge (tgt := 75) hx hb dL_ends_68 (by decide) (by unfold rI; decide) (by unfold rI; decide) (fun h9 => absurd h9 (by omega)) (fun h68 => ?_)
  refine r_iconst hx hb dL_ends_71 ?_
  refine lv_goto (tgt := 76) hx hb dL_ends_72 (by decide) ?_
  refine q_Xi (As := [.int (iI (0))]) (rest := []) S (c_X1_home l hst D cI cL tw (y0) (y2) (b) (pq) (cq) (0) (0) (4) (0) (sP_53) (sC_0) (0) (hb_53) (by omega) (by omega) (by omega) (by omega) (by omega)) (3) (fun z h => h.2.2.trans fq_220) (fun E h => by (try dsimp only at h); first | (rcases h with ⟨_, h⟩ | ⟨_, h⟩ <;> omega) | (obtain ⟨_, h⟩ := h; omega)) gL_ends_X1_home rfl rfl rfl ⟨rfl, f_X1_home⟩ hR (Nat.le_of_ble_eq_true rfl) (Nat.le_of_ble_eq_true rfl) (hE.kept hS.2.1) hP hS hA [0, 1, 2, 3, 4] rfl 0 rfl rfl rfl hl.1 rfl (Nat.le_of_ble_eq_true rfl) dL_ends_76 ⟨Nat.le_trans (Nat.le_of_ble_eq_true rfl) hRc.1, Nat.le_trans (Nat.le_of_ble_eq_true rfl) hRc.2⟩ (fun H locs hP hS => ?_)
  refine lv_iload_n hx hb dL_ends_79 rfl (lv_at hl 1 rfl) ?_
  refine r_icmp_ne (tgt := 87) hx hb dL_ends_80 (by decide) (by unfold rI; decide) (by unfold rI; decide) (fun h9 => absurd h9 (by omega)) (fun h80 => ?_)
  refine r_iconst hx hb dL_ends_83 ?_
  refine lv_goto (tgt := 88) hx hb dL_ends_84 (by decide) ?_
  refine lv_istore (lv' := [(4, .int (iI (1))), (3, .int (iI (0))), (2, .int (iI (3))), (1, .int (iI (9))), (7, .int (iI (4))), (6, .int (iI (1))), (5, .int (iI (12))), (0, .ref y0)]) hx hb dL_ends_88 hl (by decide) rfl (fun ls hl => ?_)
  refine r_bipush hx hb dL_ends_90 (by decide) ?_
  refine r_iconst hx hb dL_ends_92 ?_
  refine lv_iload_n hx hb dL_ends_93 rfl (lv_at hl 2 rfl) ?_
  refine r_ishl hx hb (z := 8) dL_ends_94 (by decide) ?_
  refine r_isub hx hb dL_ends_95 ?_
  refine r_top (7) (by decide) ?_
  refine r_iconst hx hb dL_ends_96 ?_
  refine r_iadd hx hb dL_ends_97 ?_
  refine r_top (8) (by decide) ?_
  refine lv_istore (lv' := [(5, .int (iI (8))), (4, .int (iI (1))), (3, .int (iI (0))), (2, .int (iI (3))), (1, .int (iI (9))), (7, .int (iI (4))), (6, .int (iI (1))), (0, .ref y0)]) hx hb dL_ends_98 hl (by decide) rfl (fun ls hl => ?_)
  refine lv_iload_n hx hb dL_ends_100 rfl (lv_at hl 4 rfl) ?_
  refine r_iconst hx hb dL_ends_101 ?_
  refine r_irem hx hb dL_ends_102 (by omega) (by omega) ?_
  refine r_top (0) (by decide) ?_
  refine r_if_ne (tgt := 154) hx hb dL_ends_103 (by decide) (by unfold rI; decide) (fun h9 => absurd h9 (by omega)) (fun h103 => ?_)
  refine lv_aload_n hx hb dL_ends_106 rfl (lv_at hl 7 rfl) ?_
  refine r_bipush hx hb dL_ends_107 (by decide) ?_
  refine lv_iload hx hb dL_ends_109 (lv_at hl 0 rfl) ?_
  refine lv_iload_n hx hb dL_ends_111 rfl (lv_at hl 3 rfl) ?_
  refine r_iconst hx hb dL_ends_112 ?_
  refine q_LM (As := [.ref y0, .int (iI (6)), .int (iI (8)), .int (iI (3)), .int (iI (1))]) (rest := []) (wr := []) S (c_L_goes l hst D cI cL tw (y0) (y2) (b) (pq) (cq) (0) (4) (0) (sP_53) (sC_0) (6) (8) (3) (1) (0) (1) (0) (sP_54) (sC_0) (by omega) (by omega) (by omega) (fq_222)) (1) (()) (fun z u h => ⟨h, rfl⟩) gL_ends_L_goes rfl rfl rfl f_L_goes hR (Nat.le_of_ble_eq_true rfl) (Nat.le_of_ble_eq_true rfl) (hE.kept hS.2.1) hP hD hS hA [0, 1, 2, 3, 4] [] rfl rfl (by decide) rfl (by decide) (by decide) rfl hl.1 rfl (Nat.le_of_ble_eq_true rfl) dL_ends_113 ⟨Nat.le_trans (Nat.le_of_ble_eq_true rfl) hRc.1, Nat.le_trans (Nat.le_of_ble_eq_true rfl) hRc.2⟩ (fun H locs hP hD hS => ?_)
  have hP : va_P D vwCl [(y0, .inr (1, [.ref b, .ref y2, .int (iI (0)), .int (iI (1)), .int (iI (0)), .int (iI (6))])), (y2, .inl (cI, 4, .inl (aI sC_0))), (b, .inr (0, [.ref pq, .ref cq])), (pq, .inl (cI, 16, .inl (aI sP_54))), (cq, .inl (cI, 136, .inl (aI (cnt sP_54))))] H := hP
  have hD : va_D A [(y0, .inr (1, [.ref b, .ref y2, .int (iI (0)), .int (iI (1)), .int (iI (0)), .int (iI (6))])), (y2, .inl (cI, 4, .inl (aI sC_0))), (b, .inr (0, [.ref pq, .ref cq])), (pq, .inl (cI, 16, .inl (aI sP_54))), (cq, .inl (cI, 136, .inl (aI (cnt sP_54))))] := hD
  refine r_if_eq (tgt := 150) hx hb dL_ends_116 (by decide) (by unfold rI; decide) (fun h9 => absurd h9 (by omega)) (fun h116 => ?_)
  refine lv_aload_n hx hb dL_ends_119 rfl (lv_at hl 7 rfl) ?_
  refine r_iconst hx hb dL_ends_120 ?_
  refine lv_iload hx hb dL_ends_121 (lv_at hl 0 rfl) ?_
  refine lv_iload_n hx hb dL_ends_123 rfl (lv_at hl 3 rfl) ?_
  refine r_bipush hx hb dL_ends_124 (by decide) ?_
  refine q_LM (As := [.ref y0, .int (iI (0)), .int (iI (8)), .int (iI (3)), .int (iI (26))]) (rest := []) (wr := []) S (c_L_goes l hst D cI cL tw (y0) (y2) (b) (pq) (cq) (0) (6) (1) (sP_54) (sC_0) (0) (8) (3) (26) (0) (2) (0) (sP_55) (sC_0) (by omega) (by omega) (by omega) (fq_224)) (1) (()) (fun z u h => ⟨h, rfl⟩) gL_ends_L_goes rfl rfl rfl f_L_goes hR (Nat.le_of_ble_eq_true rfl) (Nat.le_of_ble_eq_true rfl) (hE.kept hS.2.1) hP hD hS hA [0, 1, 2, 3, 4] [] rfl rfl (by decide) rfl (by decide) (by decide) rfl hl.1 rfl (Nat.le_of_ble_eq_true rfl) dL_ends_126 ⟨Nat.le_trans (Nat.le_of_ble_eq_true rfl) hRc.1, Nat.le_trans (Nat.le_of_ble_eq_true rfl) hRc.2⟩ (fun H locs hP hD hS => ?_)
  have hP : va_P D vwCl [(y0, .inr (1, [.ref b, .ref y2, .int (iI (0)), .int (iI (2)), .int (iI (0)), .int (iI (0))])), (y2, .inl (cI, 4, .inl (aI sC_0))), (b, .inr (0, [.ref pq, .ref cq])), (pq, .inl (cI, 16, .inl (aI sP_55))), (cq, .inl (cI, 136, .inl (aI (cnt sP_55))))] H := hP
  have hD : va_D A [(y0, .inr (1, [.ref b, .ref y2, .int (iI (0)), .int (iI (2)), .int (iI (0)), .int (iI (0))])), (y2, .inl (cI, 4, .inl (aI sC_0))), (b, .inr (0, [.ref pq, .ref cq])), (pq, .inl (cI, 16, .inl (aI sP_55))), (cq, .inl (cI, 136, .inl (aI (cnt sP_55))))] := hD
  refine r_if_eq (tgt := 150) hx hb dL_ends_129 (by decide) (by unfold rI; decide) (fun h9 => absurd h9 (by omega)) (fun h129 => ?_)
  refine lv_aload_n hx hb dL_ends_132 rfl (lv_at hl 7 rfl) ?_
  refine r_iconst hx hb dL_ends_133 ?_
  refine r_iconst hx hb dL_ends_134 ?_
  refine lv_iload_n hx hb dL_ends_135 rfl (lv_at hl 3 rfl) ?_
  refine r_ishl hx hb (z := 8) dL_ends_136 (by decide) ?_
  refine lv_iload_n hx hb dL_ends_137 rfl (lv_at hl 3 rfl) ?_
  refine r_bipush hx hb dL_ends_138 (by decide) ?_
  refine q_LM (As := [.ref y0, .int (iI (3)), .int (iI (8)), .int (iI (3)), .int (iI (29))]) (rest := []) (wr := []) S (c_L_goes l hst D cI cL tw (y0) (y2) (b) (pq) (cq) (0) (0) (2) (sP_55) (sC_0) (3) (8) (3) (29) (1) (0) (0) (sP_56) (sC_0) (by omega) (by omega) (by omega) (fq_226)) (1) (()) (fun z u h => ⟨h, rfl⟩) gL_ends_L_goes rfl rfl rfl f_L_goes hR (Nat.le_of_ble_eq_true rfl) (Nat.le_of_ble_eq_true rfl) (hE.kept hS.2.1) hP hD hS hA [0, 1, 2, 3, 4] [] rfl rfl (by decide) rfl (by decide) (by decide) rfl hl.1 rfl (Nat.le_of_ble_eq_true rfl) dL_ends_140 ⟨Nat.le_trans (Nat.le_of_ble_eq_true rfl) hRc.1, Nat.le_trans (Nat.le_of_ble_eq_true rfl) hRc.2⟩ (fun H locs hP hD hS => ?_)
  have hP : va_P D vwCl [(y0, .inr (1, [.ref b, .ref y2, .int (iI (1)), .int (iI (0)), .int (iI (0)), .int (iI (3))])), (y2, .inl (cI, 4, .inl (aI sC_0))), (b, .inr (0, [.ref pq, .ref cq])), (pq, .inl (cI, 16, .inl (aI sP_56))), (cq, .inl (cI, 136, .inl (aI (cnt sP_56))))] H := hP
  have hD : va_D A [(y0, .inr (1, [.ref b, .ref y2, .int (iI (1)), .int (iI (0)), .int (iI (0)), .int (iI (3))])), (y2, .inl (cI, 4, .inl (aI sC_0))), (b, .inr (0, [.ref pq, .ref cq])), (pq, .inl (cI, 16, .inl (aI sP_56))), (cq, .inl (cI, 136, .inl (aI (cnt sP_56))))] := hD
  refine r_if_eq (tgt := 150) hx hb dL_ends_143 (by decide) (by unfold rI; decide) (fun h9 => absurd h9 (by omega)) (fun h143 => ?_)
  refine r_iconst hx hb dL_ends_146 ?_
  refine lv_goto (tgt := 238) hx hb dL_ends_147 (by decide) ?_
  refine lv_istore (lv' := [(6, .int (iI (1))), (5, .int (iI (8))), (4, .int (iI (1))), (3, .int (iI (0))), (2, .int (iI (3))), (1, .int (iI (9))), (7, .int (iI (4))), (0, .ref y0)]) hx hb dL_ends_238 hl (by decide) rfl (fun ls hl => ?_)
  refine lv_iload hx hb dL_ends_240 (lv_at hl 2 rfl) ?_
  refine r_if_eq (tgt := 250) hx hb dL_ends_242 (by decide) (by unfold rI; decide) (fun h9 => absurd h9 (by omega)) (fun h242 => ?_)
  refine lv_iload hx hb dL_ends_245 (lv_at hl 0 rfl) ?_
  refine r_if_ne (tgt := 252) hx hb dL_ends_247 (by decide) (by unfold rI; decide) (fun h247 => ?_) (fun h9 => absurd h9 (by omega))
  refine lv_iload_n hx hb dL_ends_252 rfl (lv_at hl 5 rfl) ?_
  refine r_bipush hx hb dL_ends_253 (by decide) ?_
  refine r_icmp_ne (tgt := 261) hx hb dL_ends_255 (by decide) (by unfold rI; decide) (by unfold rI; decide) (fun h255 => ?_) (fun h9 => absurd h9 (by omega))
  refine r_iconst hx hb dL_ends_261 ?_
  refine lv_istore (lv' := [(7, .int (iI (1))), (6, .int (iI (1))), (5, .int (iI (8))), (4, .int (iI (1))), (3, .int (iI (0))), (2, .int (iI (3))), (1, .int (iI (9))), (0, .ref y0)]) hx hb dL_ends_262 hl (by decide) rfl (fun ls hl => ?_)
  refine lv_iload hx hb dL_ends_264 (lv_at hl 0 rfl) ?_
  refine lv_iload_n hx hb dL_ends_266 rfl (lv_at hl 6 rfl) ?_
  refine r_bipush hx hb dL_ends_267 (by decide) ?_
  refine r_icmp_ge (tgt := 276) hx hb dL_ends_269 (by decide) (by unfold rI; decide) (by unfold rI; decide) (fun h9 => absurd h9 (by omega)) (fun h269 => ?_)
  refine r_iconst hx hb dL_ends_272 ?_
  refine lv_goto (tgt := 277) hx hb dL_ends_273 (by decide) ?_
  refine r_icmp_ge (tgt := 301) hx hb dL_ends_277 (by decide) (by unfold rI; decide) (by unfold rI; decide) (fun h9 => absurd h9 (by omega)) (fun h277 => ?_)
  refine lv_aload_n hx hb dL_ends_280 rfl (lv_at hl 7 rfl) ?_
  refine lv_iload_n hx hb dL_ends_281 rfl (lv_at hl 4 rfl) ?_
  refine lv_iload hx hb dL_ends_282 (lv_at hl 0 rfl) ?_
  refine r_iadd hx hb dL_ends_284 ?_
  refine r_top (1) (by decide) ?_
  refine r_iconst hx hb dL_ends_285 ?_
  refine r_irem hx hb dL_ends_286 (by omega) (by omega) ?_
  refine r_top (1) (by decide) ?_
  refine q_LM (As := [.ref y0, .int (iI (1))]) (rest := []) (wr := []) S (c_L_loses l hst D cI cL tw (y0) (y2) (b) (pq) (cq) (1) (3) (0) (sP_56) (sC_0) (2) (hb_56) (by omega) (by omega) (by omega) (fq_227) (by omega)) (1) (()) (fun z u h => ⟨h, rfl⟩) gL_ends_L_loses rfl rfl rfl f_L_loses hR (Nat.le_of_ble_eq_true rfl) (Nat.le_of_ble_eq_true rfl) (hE.kept hS.2.1) hP hD hS hA [0, 1, 2, 3, 4] [] rfl rfl (by decide) rfl (by decide) (by decide) rfl hl.1 rfl (Nat.le_of_ble_eq_true rfl) dL_ends_287 ⟨Nat.le_trans (Nat.le_of_ble_eq_true rfl) hRc.1, Nat.le_trans (Nat.le_of_ble_eq_true rfl) hRc.2⟩ (fun H locs hP hD hS => ?_)
  have hP : va_P D vwCl [(y0, .inr (1, [.ref b, .ref y2, .int (iI (2)), .int (iI (0)), .int (iI (0)), .int (iI (3))])), (y2, .inl (cI, 4, .inl (aI sC_0))), (b, .inr (0, [.ref pq, .ref cq])), (pq, .inl (cI, 16, .inl (aI sP_56))), (cq, .inl (cI, 136, .inl (aI (cnt sP_56))))] H := hP
  have hD : va_D A [(y0, .inr (1, [.ref b, .ref y2, .int (iI (2)), .int (iI (0)), .int (iI (0)), .int (iI (3))])), (y2, .inl (cI, 4, .inl (aI sC_0))), (b, .inr (0, [.ref pq, .ref cq])), (pq, .inl (cI, 16, .inl (aI sP_56))), (cq, .inl (cI, 136, .inl (aI (cnt sP_56))))] := hD
  refine r_if_ne (tgt := 295) hx hb dL_ends_290 (by decide) (by unfold rI; decide) (fun h290 => ?_) (fun h9 => absurd h9 (by omega))
  refine lv_iinc (v := iI (2)) (lv' := [(7, .int (iI (2))), (6, .int (iI (1))), (5, .int (iI (8))), (4, .int (iI (1))), (3, .int (iI (0))), (2, .int (iI (3))), (1, .int (iI (9))), (0, .ref y0)]) hx hb dL_ends_295 hl (k := 0) rfl (by decide) (by decide) rfl (fun ls hl => ?_)
  refine lv_goto (tgt := 264) hx hb dL_ends_298 (by decide) ?_
  refine lv_iload hx hb dL_ends_264 (lv_at hl 0 rfl) ?_
  refine lv_iload_n hx hb dL_ends_266 rfl (lv_at hl 6 rfl) ?_
  refine r_bipush hx hb dL_ends_267 (by decide) ?_
  refine r_icmp_ge (tgt := 276) hx hb dL_ends_269 (by decide) (by unfold rI; decide) (by unfold rI; decide) (fun h9 => absurd h9 (by omega)) (fun h269 => ?_)
  refine r_iconst hx hb dL_ends_272 ?_
  refine lv_goto (tgt := 277) hx hb dL_ends_273 (by decide) ?_
  refine r_icmp_ge (tgt := 301) hx hb dL_ends_277 (by decide) (by unfold rI; decide) (by unfold rI; decide) (fun h9 => absurd h9 (by omega)) (fun h277 => ?_)
  refine lv_aload_n hx hb dL_ends_280 rfl (lv_at hl 7 rfl) ?_
  refine lv_iload_n hx hb dL_ends_281 rfl (lv_at hl 4 rfl) ?_
  refine lv_iload hx hb dL_ends_282 (lv_at hl 0 rfl) ?_
  refine r_iadd hx hb dL_ends_284 ?_
  refine r_top (2) (by decide) ?_
  refine r_iconst hx hb dL_ends_285 ?_
  refine r_irem hx hb dL_ends_286 (by omega) (by omega) ?_
  refine r_top (2) (by decide) ?_
  refine q_LM (As := [.ref y0, .int (iI (2))]) (rest := []) (wr := []) S (c_L_loses l hst D cI cL tw (y0) (y2) (b) (pq) (cq) (2) (3) (0) (sP_56) (sC_0) (3) (hb_56) (by omega) (by omega) (by omega) (fq_228) (by omega)) (1) (()) (fun z u h => ⟨h, rfl⟩) gL_ends_L_loses rfl rfl rfl f_L_loses hR (Nat.le_of_ble_eq_true rfl) (Nat.le_of_ble_eq_true rfl) (hE.kept hS.2.1) hP hD hS hA [0, 1, 2, 3, 4] [] rfl rfl (by decide) rfl (by decide) (by decide) rfl hl.1 rfl (Nat.le_of_ble_eq_true rfl) dL_ends_287 ⟨Nat.le_trans (Nat.le_of_ble_eq_true rfl) hRc.1, Nat.le_trans (Nat.le_of_ble_eq_true rfl) hRc.2⟩ (fun H locs hP hD hS => ?_)
  have hP : va_P D vwCl [(y0, .inr (1, [.ref b, .ref y2, .int (iI (3)), .int (iI (0)), .int (iI (0)), .int (iI (3))])), (y2, .inl (cI, 4, .inl (aI sC_0))), (b, .inr (0, [.ref pq, .ref cq])), (pq, .inl (cI, 16, .inl (aI sP_56))), (cq, .inl (cI, 136, .inl (aI (cnt sP_56))))] H := hP
  have hD : va_D A [(y0, .inr (1, [.ref b, .ref y2, .int (iI (3)), .int (iI (0)), .int (iI (0)), .int (iI (3))])), (y2, .inl (cI, 4, .inl (aI sC_0))), (b, .inr (0, [.ref pq, .ref cq])), (pq, .inl (cI, 16, .inl (aI sP_56))), (cq, .inl (cI, 136, .inl (aI (cnt sP_56))))] := hD
  refine r_if_ne (tgt := 295) hx hb dL_ends_290 (by decide) (by unfold rI; decide) (fun h290 => ?_) (fun h9 => absurd h9 (by omega))
  refine lv_iinc (v := iI (3)) (lv' := [(7, .int (iI (3))), (6, .int (iI (1))), (5, .int (iI (8))), (4, .int (iI (1))), (3, .int (iI (0))), (2, .int (iI (3))), (1, .int (iI (9))), (0, .ref y0)]) hx hb dL_ends_295 hl (k := 0) rfl (by decide) (by decide) rfl (fun ls hl => ?_)
  refine lv_goto (tgt := 264) hx hb dL_ends_298 (by decide) ?_
  refine lv_iload hx hb dL_ends_264 (lv_at hl 0 rfl) ?_
  refine lv_iload_n hx hb dL_ends_266 rfl (lv_at hl 6 rfl) ?_
  refine r_bipush hx hb dL_ends_267 (by decide) ?_
  refine r_icmp_ge (tgt := 276) hx hb dL_ends_269 (by decide) (by unfold rI; decide) (by unfold rI; decide) (fun h9 => absurd h9 (by omega)) (fun h269 => ?_)
  refine r_iconst hx hb dL_ends_272 ?_
  refine lv_goto (tgt := 277) hx hb dL_ends_273 (by decide) ?_
  refine r_icmp_ge (tgt := 301) hx hb dL_ends_277 (by decide) (by unfold rI; decide) (by unfold rI; decide) (fun h9 => absurd h9 (by omega)) (fun h277 => ?_)
  refine lv_aload_n hx hb dL_ends_280 rfl (lv_at hl 7 rfl) ?_
  refine lv_iload_n hx hb dL_ends_281 rfl (lv_at hl 4 rfl) ?_
  refine lv_iload hx hb dL_ends_282 (lv_at hl 0 rfl) ?_
  refine r_iadd hx hb dL_ends_284 ?_
  refine r_top (3) (by decide) ?_
  refine r_iconst hx hb dL_ends_285 ?_
  refine r_irem hx hb dL_ends_286 (by omega) (by omega) ?_
  refine r_top (3) (by decide) ?_
  refine q_LM (As := [.ref y0, .int (iI (3))]) (rest := []) (wr := []) S (c_L_loses l hst D cI cL tw (y0) (y2) (b) (pq) (cq) (3) (3) (0) (sP_56) (sC_0) (0) (hb_56) (by omega) (by omega) (by omega) (fq_229) (by omega)) (1) (()) (fun z u h => ⟨h, rfl⟩) gL_ends_L_loses rfl rfl rfl f_L_loses hR (Nat.le_of_ble_eq_true rfl) (Nat.le_of_ble_eq_true rfl) (hE.kept hS.2.1) hP hD hS hA [0, 1, 2, 3, 4] [] rfl rfl (by decide) rfl (by decide) (by decide) rfl hl.1 rfl (Nat.le_of_ble_eq_true rfl) dL_ends_287 ⟨Nat.le_trans (Nat.le_of_ble_eq_true rfl) hRc.1, Nat.le_trans (Nat.le_of_ble_eq_true rfl) hRc.2⟩ (fun H locs hP hD hS => ?_)
  have hP : va_P D vwCl [(y0, .inr (1, [.ref b, .ref y2, .int (iI (0)), .int (iI (0)), .int (iI (0)), .int (iI (3))])), (y2, .inl (cI, 4, .inl (aI sC_0))), (b, .inr (0, [.ref pq, .ref cq])), (pq, .inl (cI, 16, .inl (aI sP_56))), (cq, .inl (cI, 136, .inl (aI (cnt sP_56))))] H := hP
  have hD : va_D A [(y0, .inr (1, [.ref b, .ref y2, .int (iI (0)), .int (iI (0)), .int (iI (0)), .int (iI (3))])), (y2, .inl (cI, 4, .inl (aI sC_0))), (b, .inr (0, [.ref pq, .ref cq])), (pq, .inl (cI, 16, .inl (aI sP_56))), (cq, .inl (cI, 136, .inl (aI (cnt sP_56))))] := hD
  refine r_if_ne (tgt := 295) hx hb dL_ends_290 (by decide) (by unfold rI; decide) (fun h290 => ?_) (fun h9 => absurd h9 (by omega))
  refine lv_iinc (v := iI (4)) (lv' := [(7, .int (iI (4))), (6, .int (iI (1))), (5, .int (iI (8))), (4, .int (iI (1))), (3, .int (iI (0))), (2, .int (iI (3))), (1, .int (iI (9))), (0, .ref y0)]) hx hb dL_ends_295 hl (k := 0) rfl (by decide) (by decide) rfl (fun ls hl => ?_)
  refine lv_goto (tgt := 264) hx hb dL_ends_298 (by decide) ?_
  refine lv_iload hx hb dL_ends_264 (lv_at hl 0 rfl) ?_
  refine lv_iload_n hx hb dL_ends_266 rfl (lv_at hl 6 rfl) ?_
  refine r_bipush hx hb dL_ends_267 (by decide) ?_
  refine r_icmp_ge (tgt := 276) hx hb dL_ends_269 (by decide) (by unfold rI; decide) (by unfold rI; decide) (fun h9 => absurd h9 (by omega)) (fun h269 => ?_)
  refine r_iconst hx hb dL_ends_272 ?_
  refine lv_goto (tgt := 277) hx hb dL_ends_273 (by decide) ?_
  refine r_icmp_ge (tgt := 301) hx hb dL_ends_277 (by decide) (by unfold rI; decide) (by unfold rI; decide) (fun h277 => ?_) (fun h9 => absurd h9 (by omega))
  refine lv_iinc (v := iI (10)) (lv' := [(1, .int (iI (10))), (7, .int (iI (4))), (6, .int (iI (1))), (5, .int (iI (8))), (4, .int (iI (1))), (3, .int (iI (0))), (2, .int (iI (3))), (0, .ref y0)]) hx hb dL_ends_301 hl (k := 6) rfl (by decide) (by decide) rfl (fun ls hl => ?_)
  refine lv_goto (tgt := 10) hx hb dL_ends_304 (by decide) ?_
  exact sg_L_ends_11 S hst hR hRc hE hA y0 y2 b pq cq  hret hP hD hS hl
set_option maxHeartbeats 4000000 in
set_option maxRecDepth 100000 in
theorem sg_L_ends_9 {p : Program} {l : Launch} {e : Env} {R : Room} {s : State} {mt : MethodId} {args : Array Value} {below : List Frame} {meth : Method} {c : Code} {H0 : Heap} {Q : State → Prop} {A : Nat → Prop} {D : va_G} {cI cL : ClassId} {tw : Nat} (S : CallFix p mt c cL_ends 8 s args wsL_ends RL) (hst : l.stackTraces = false) (hR : 15 ≤ R.frames ∧ 377 ≤ R.locals) (hRc : 527 ≤ R.cells ∧ 3296 ≤ R.slots) (hE : EV D cI cL tw A s H0) (hA : ∀ q : Nat, H0.size ≤ q → A q) (y0 : Nat) (y2 : Nat) (b : Nat) (pq : Nat) (cq : Nat)  (hret : ∀ (z : Int) (u : Unit) (pc : Nat) (ls : Array Slot) (H : Heap) (locs : List Loc) (cells slots : Nat), decode cL_ends pc = .ok (.ireturn, 1) → (z = 1) → va_P D vwCl [] H → va_D A [] → va_S A H0 H locs → cells ≤ 527 → slots ≤ 3296 → W p l e R s mt args below meth c H locs cells slots Q (F0 mt pc ls [.int (iI z)])) {H : Heap} {locs : List Loc} {ls : Array Slot} (hP : va_P D vwCl [(y0, .inr (1, [.ref b, .ref y2, .int (iI (0)), .int (iI (0)), .int (iI (0)), .int (iI (4))])), (y2, .inl (cI, 4, .inl (aI sC_0))), (b, .inr (0, [.ref pq, .ref cq])), (pq, .inl (cI, 16, .inl (aI sP_52))), (cq, .inl (cI, 136, .inl (aI (cnt sP_52))))] H) (hD : va_D A [(y0, .inr (1, [.ref b, .ref y2, .int (iI (0)), .int (iI (0)), .int (iI (0)), .int (iI (4))])), (y2, .inl (cI, 4, .inl (aI sC_0))), (b, .inr (0, [.ref pq, .ref cq])), (pq, .inl (cI, 16, .inl (aI sP_52))), (cq, .inl (cI, 136, .inl (aI (cnt sP_52))))]) (hS : va_S A H0 H locs) (hl : lv_has ls 8 [(1, .int (iI (8))), (7, .int (iI (4))), (6, .int (iI (1))), (5, .int (iI (12))), (4, .int (iI (1))), (3, .int (iI (0))), (2, .int (iI (2))), (0, .ref y0)]) : W p l e R s mt args below meth c H locs 139 968 Q (F0 mt 10 ls []) := by
  obtain ⟨hx, hb, hml, hown, hts⟩ := id S
  refine lv_iload_n hx hb dL_ends_10 rfl (lv_at hl 0 rfl) ?_
  refine r_bipush hx hb dL_ends_11 (by decide) ?_
  refine r_icmp_ge (tgt := 307) hx hb dL_ends_13 (by decide) (by unfold rI; decide) (by unfold rI; decide) (fun h9 => absurd h9 (by omega)) (fun h13 => ?_)
  refine lv_iload_n hx hb dL_ends_16 rfl (lv_at hl 0 rfl) ?_
  refine r_iconst hx hb dL_ends_17 ?_
  refine r_idiv hx hb dL_ends_18 (by omega) (by omega) ?_
  refine r_top (2) (by decide) ?_
  refine r_iconst hx hb dL_ends_19 ?_
  refine r_irem hx hb dL_ends_20 (by omega) (by omega) ?_
  refine r_top (2) (by decide) ?_
  refine lv_istore_n (lv' := [(2, .int (iI (2))), (1, .int (iI (8))), (7, .int (iI (4))), (6, .int (iI (1))), (5, .int (iI (12))), (4, .int (iI (1))), (3, .int (iI (0))), (0, .ref y0)]) hx hb dL_ends_21 rfl hl (by decide) rfl (fun ls hl => ?_)
  refine lv_iload_n hx hb dL_ends_22 rfl (lv_at hl 1 rfl) ?_
  refine r_bipush hx hb dL_ends_23 (by decide) ?_
  refine r_icmp_ge (tgt := 32) hx hb dL_ends_25 (by decide) (by unfold rI; decide) (by unfold rI; decide) (fun h9 => absurd h9 (by omega)) (fun h25 => ?_)
  refine r_iconst hx hb dL_ends_28 ?_
  refine lv_goto (tgt := 37) hx hb dL_ends_29 (by decide) ?_
  refine lv_istore_n (lv' := [(3, .int (iI (0))), (2, .int (iI (2))), (1, .int (iI (8))), (7, .int (iI (4))), (6, .int (iI (1))), (5, .int (iI (12))), (4, .int (iI (1))), (0, .ref y0)]) hx hb dL_ends_37 rfl hl (by decide) rfl (fun ls hl => ?_)
  refine lv_aload_n hx hb dL_ends_38 rfl (lv_at hl 7 rfl) ?_
  refine q_RO (As := []) (rest := []) S (c_X1_onTurn l D cI cL tw (y0) (y2) (b) (pq) (cq) (0) (0) (4) (0) (sP_52) (sC_0) (hb_52) (by omega) (by omega) (by omega) (by omega)) (0) (fun z h => h) gL_ends_X1_onTurn rfl rfl rfl ⟨rfl, f_X1_onTurn⟩ hR (Nat.le_of_ble_eq_true rfl) (Nat.le_of_ble_eq_true rfl) (hE.kept hS.2.1) hP [0, 1, 2, 3, 4] rfl 0 rfl rfl rfl hl.1 rfl (Nat.le_of_ble_eq_true rfl) dL_ends_39 ⟨Nat.le_trans (Nat.le_of_ble_eq_true rfl) hRc.1, Nat.le_trans (Nat.le_of_ble_eq_true rfl) hRc.2⟩ ?_
  refine lv_iload_n hx hb dL_ends_42 rfl (lv_at hl 0 rfl) ?_
  refine r_icmp_ne (tgt := 87) hx hb dL_ends_43 (by decide) (by unfold rI; decide) (by unfold rI; decide) (fun h9 => absurd h9 (by omega)) (fun h43 => ?_)
  refine lv_aload_n hx hb dL_ends_46 rfl (lv_at hl 7 rfl) ?_
  refine q_RO (As := []) (rest := []) S (c_X1_mover l D cI cL tw (y0) (y2) (b) (pq) (cq) (0) (0) (4) (0) (sP_52) (sC_0) (hb_52) (by omega) (by omega) (by omega) (by omega)) (0) (fun z h => h.trans fq_211) gL_ends_X1_mover rfl rfl rfl ⟨rfl, f_X1_mover⟩ hR (Nat.le_of_ble_eq_true rfl) (Nat.le_of_ble_eq_true rfl) (hE.kept hS.2.1) hP [0, 1, 2, 3, 4] rfl 0 rfl rfl rfl hl.1 rfl (Nat.le_of_ble_eq_true rfl) dL_ends_47 ⟨Nat.le_trans (Nat.le_of_ble_eq_true rfl) hRc.1, Nat.le_trans (Nat.le_of_ble_eq_true rfl) hRc.2⟩ ?_
  refine lv_iload_n hx hb dL_ends_50 rfl (lv_at hl 2 rfl) ?_
  refine r_bipush hx hb dL_ends_51 (by decide) ?_
  refine r_icmp_ge (tgt := 60) hx hb dL_ends_53 (by decide) (by unfold rI; decide) (by unfold rI; decide) (fun h9 => absurd h9 (by omega)) (fun h53 => ?_)
  refine r_iconst hx hb dL_ends_56 ?_
  refine lv_goto (tgt := 61) hx hb dL_ends_57 (by decide) ?_
  refine r_icmp_ne (tgt := 87) hx hb dL_ends_61 (by decide) (by unfold rI; decide) (by unfold rI; decide) (fun h9 => absurd h9 (by omega)) (fun h61 => ?_)
  refine lv_aload_n hx hb dL_ends_64 rfl (lv_at hl 7 rfl) ?_
  refine lv_iload_n hx hb dL_ends_65 rfl (lv_at hl 2 rfl) ?_
  refine r_bipush hx hb dL_ends_66 (by decide) ?_
  refine r_icmp_ge (tgt := 75) hx hb dL_ends_68 (by decide) (by unfold rI; decide) (by unfold rI; decide) (fun h9 => absurd h9 (by omega)) (fun h68 => ?_)
  refine r_iconst hx hb dL_ends_71 ?_
  refine lv_goto (tgt := 76) hx hb dL_ends_72 (by decide) ?_
  refine q_Xi (As := [.int (iI (0))]) (rest := []) S (c_X1_home l hst D cI cL tw (y0) (y2) (b) (pq) (cq) (0) (0) (4) (0) (sP_52) (sC_0) (0) (hb_52) (by omega) (by omega) (by omega) (by omega) (by omega)) (2) (fun z h => h.2.2.trans fq_212) (fun E h => by (try dsimp only at h); first | (rcases h with ⟨_, h⟩ | ⟨_, h⟩ <;> omega) | (obtain ⟨_, h⟩ := h; omega)) gL_ends_X1_home rfl rfl rfl ⟨rfl, f_X1_home⟩ hR (Nat.le_of_ble_eq_true rfl) (Nat.le_of_ble_eq_true rfl) (hE.kept hS.2.1) hP hS hA [0, 1, 2, 3, 4] rfl 0 rfl rfl rfl hl.1 rfl (Nat.le_of_ble_eq_true rfl) dL_ends_76 ⟨Nat.le_trans (Nat.le_of_ble_eq_true rfl) hRc.1, Nat.le_trans (Nat.le_of_ble_eq_true rfl) hRc.2⟩ (fun H locs hP hS => ?_)
  refine lv_iload_n hx hb dL_ends_79 rfl (lv_at hl 1 rfl) ?_
  refine r_icmp_ne (tgt := 87) hx hb dL_ends_80 (by decide) (by unfold rI; decide) (by unfold rI; decide) (fun h9 => absurd h9 (by omega)) (fun h80 => ?_)
  refine r_iconst hx hb dL_ends_83 ?_
  refine lv_goto (tgt := 88) hx hb dL_ends_84 (by decide) ?_
  refine lv_istore (lv' := [(4, .int (iI (1))), (3, .int (iI (0))), (2, .int (iI (2))), (1, .int (iI (8))), (7, .int (iI (4))), (6, .int (iI (1))), (5, .int (iI (12))), (0, .ref y0)]) hx hb dL_ends_88 hl (by decide) rfl (fun ls hl => ?_)
  refine r_bipush hx hb dL_ends_90 (by decide) ?_
  refine r_iconst hx hb dL_ends_92 ?_
  refine lv_iload_n hx hb dL_ends_93 rfl (lv_at hl 2 rfl) ?_
  refine r_ishl hx hb (z := 4) dL_ends_94 (by decide) ?_
  refine r_isub hx hb dL_ends_95 ?_
  refine r_top (11) (by decide) ?_
  refine r_iconst hx hb dL_ends_96 ?_
  refine r_iadd hx hb dL_ends_97 ?_
  refine r_top (12) (by decide) ?_
  refine lv_istore (lv' := [(5, .int (iI (12))), (4, .int (iI (1))), (3, .int (iI (0))), (2, .int (iI (2))), (1, .int (iI (8))), (7, .int (iI (4))), (6, .int (iI (1))), (0, .ref y0)]) hx hb dL_ends_98 hl (by decide) rfl (fun ls hl => ?_)
  refine lv_iload_n hx hb dL_ends_100 rfl (lv_at hl 4 rfl) ?_
  refine r_iconst hx hb dL_ends_101 ?_
  refine r_irem hx hb dL_ends_102 (by omega) (by omega) ?_
  refine r_top (2) (by decide) ?_
  refine r_if_ne (tgt := 154) hx hb dL_ends_103 (by decide) (by unfold rI; decide) (fun h103 => ?_) (fun h9 => absurd h9 (by omega))
  refine lv_iload_n hx hb dL_ends_154 rfl (lv_at hl 4 rfl) ?_
  refine r_iconst hx hb dL_ends_155 ?_
  refine r_irem hx hb dL_ends_156 (by omega) (by omega) ?_
  refine r_top (2) (by decide) ?_
  refine r_iconst hx hb dL_ends_157 ?_
  refine r_icmp_ne (tgt := 209) hx hb dL_ends_158 (by decide) (by unfold rI; decide) (by unfold rI; decide) (fun h158 => ?_) (fun h9 => absurd h9 (by omega))
  refine lv_aload_n hx hb dL_ends_209 rfl (lv_at hl 7 rfl) ?_
  refine r_iconst hx hb dL_ends_210 ?_
  refine q_Xi (As := [.int (iI (2))]) (rest := []) S (c_X1_ways l hst D cI cL tw (y0) (y2) (b) (pq) (cq) (0) (0) (4) (0) (sP_52) (sC_0) (2) (hb_52) (by omega) (by omega) (by omega) (by omega) (by omega)) (15) (fun z h => h.2.2.2.trans fq_213) (fun E h => by (try dsimp only at h); first | (rcases h with ⟨_, h⟩ | ⟨_, h⟩ <;> omega) | (obtain ⟨_, h⟩ := h; omega)) gL_ends_X1_ways rfl rfl rfl ⟨rfl, f_X1_ways⟩ hR (Nat.le_of_ble_eq_true rfl) (Nat.le_of_ble_eq_true rfl) (hE.kept hS.2.1) hP hS hA [0, 1, 2, 3, 4] rfl 0 rfl rfl rfl hl.1 rfl (Nat.le_of_ble_eq_true rfl) dL_ends_211 ⟨Nat.le_trans (Nat.le_of_ble_eq_true rfl) hRc.1, Nat.le_trans (Nat.le_of_ble_eq_true rfl) hRc.2⟩ (fun H locs hP hS => ?_)
  refine r_bipush hx hb dL_ends_214 (by decide) ?_
  refine r_icmp_ne (tgt := 237) hx hb dL_ends_216 (by decide) (by unfold rI; decide) (by unfold rI; decide) (fun h9 => absurd h9 (by omega)) (fun h216 => ?_)
  refine lv_aload_n hx hb dL_ends_219 rfl (lv_at hl 7 rfl) ?_
  refine r_iconst hx hb dL_ends_220 ?_
  refine r_iconst hx hb dL_ends_221 ?_
  refine lv_iload_n hx hb dL_ends_222 rfl (lv_at hl 3 rfl) ?_
  refine r_ishl hx hb (z := 4) dL_ends_223 (by decide) ?_
  refine lv_iload_n hx hb dL_ends_224 rfl (lv_at hl 3 rfl) ?_
  refine r_bipush hx hb dL_ends_225 (by decide) ?_
  refine q_LM (As := [.ref y0, .int (iI (4)), .int (iI (4)), .int (iI (2)), .int (iI (72))]) (rest := []) (wr := []) S (c_L_goes l hst D cI cL tw (y0) (y2) (b) (pq) (cq) (0) (4) (0) (sP_52) (sC_0) (4) (4) (2) (72) (1) (0) (0) (sP_53) (sC_0) (by omega) (by omega) (by omega) (fq_215)) (1) (()) (fun z u h => ⟨h, rfl⟩) gL_ends_L_goes rfl rfl rfl f_L_goes hR (Nat.le_of_ble_eq_true rfl) (Nat.le_of_ble_eq_true rfl) (hE.kept hS.2.1) hP hD hS hA [0, 1, 2, 3, 4] [] rfl rfl (by decide) rfl (by decide) (by decide) rfl hl.1 rfl (Nat.le_of_ble_eq_true rfl) dL_ends_227 ⟨Nat.le_trans (Nat.le_of_ble_eq_true rfl) hRc.1, Nat.le_trans (Nat.le_of_ble_eq_true rfl) hRc.2⟩ (fun H locs hP hD hS => ?_)
  have hP : va_P D vwCl [(y0, .inr (1, [.ref b, .ref y2, .int (iI (1)), .int (iI (0)), .int (iI (0)), .int (iI (4))])), (y2, .inl (cI, 4, .inl (aI sC_0))), (b, .inr (0, [.ref pq, .ref cq])), (pq, .inl (cI, 16, .inl (aI sP_53))), (cq, .inl (cI, 136, .inl (aI (cnt sP_53))))] H := hP
  have hD : va_D A [(y0, .inr (1, [.ref b, .ref y2, .int (iI (1)), .int (iI (0)), .int (iI (0)), .int (iI (4))])), (y2, .inl (cI, 4, .inl (aI sC_0))), (b, .inr (0, [.ref pq, .ref cq])), (pq, .inl (cI, 16, .inl (aI sP_53))), (cq, .inl (cI, 136, .inl (aI (cnt sP_53))))] := hD
  refine r_if_eq (tgt := 237) hx hb dL_ends_230 (by decide) (by unfold rI; decide) (fun h9 => absurd h9 (by omega)) (fun h230 => ?_)
  refine r_iconst hx hb dL_ends_233 ?_
  refine lv_goto (tgt := 238) hx hb dL_ends_234 (by decide) ?_
  refine lv_istore (lv' := [(6, .int (iI (1))), (5, .int (iI (12))), (4, .int (iI (1))), (3, .int (iI (0))), (2, .int (iI (2))), (1, .int (iI (8))), (7, .int (iI (4))), (0, .ref y0)]) hx hb dL_ends_238 hl (by decide) rfl (fun ls hl => ?_)
  refine lv_iload hx hb dL_ends_240 (lv_at hl 2 rfl) ?_
  refine r_if_eq (tgt := 250) hx hb dL_ends_242 (by decide) (by unfold rI; decide) (fun h9 => absurd h9 (by omega)) (fun h242 => ?_)
  refine lv_iload hx hb dL_ends_245 (lv_at hl 0 rfl) ?_
  refine r_if_ne (tgt := 252) hx hb dL_ends_247 (by decide) (by unfold rI; decide) (fun h247 => ?_) (fun h9 => absurd h9 (by omega))
  refine lv_iload_n hx hb dL_ends_252 rfl (lv_at hl 5 rfl) ?_
  refine r_bipush hx hb dL_ends_253 (by decide) ?_
  refine r_icmp_ne (tgt := 261) hx hb dL_ends_255 (by decide) (by unfold rI; decide) (by unfold rI; decide) (fun h255 => ?_) (fun h9 => absurd h9 (by omega))
  refine r_iconst hx hb dL_ends_261 ?_
  refine lv_istore (lv' := [(7, .int (iI (1))), (6, .int (iI (1))), (5, .int (iI (12))), (4, .int (iI (1))), (3, .int (iI (0))), (2, .int (iI (2))), (1, .int (iI (8))), (0, .ref y0)]) hx hb dL_ends_262 hl (by decide) rfl (fun ls hl => ?_)
  refine lv_iload hx hb dL_ends_264 (lv_at hl 0 rfl) ?_
  refine lv_iload_n hx hb dL_ends_266 rfl (lv_at hl 6 rfl) ?_
  refine r_bipush hx hb dL_ends_267 (by decide) ?_
  refine r_icmp_ge (tgt := 276) hx hb dL_ends_269 (by decide) (by unfold rI; decide) (by unfold rI; decide) (fun h9 => absurd h9 (by omega)) (fun h269 => ?_)
  refine r_iconst hx hb dL_ends_272 ?_
  refine lv_goto (tgt := 277) hx hb dL_ends_273 (by decide) ?_
  refine r_icmp_ge (tgt := 301) hx hb dL_ends_277 (by decide) (by unfold rI; decide) (by unfold rI; decide) (fun h9 => absurd h9 (by omega)) (fun h277 => ?_)
  refine lv_aload_n hx hb dL_ends_280 rfl (lv_at hl 7 rfl) ?_
  refine lv_iload_n hx hb dL_ends_281 rfl (lv_at hl 4 rfl) ?_
  refine lv_iload hx hb dL_ends_282 (lv_at hl 0 rfl) ?_
  refine r_iadd hx hb dL_ends_284 ?_
  refine r_top (1) (by decide) ?_
  refine r_iconst hx hb dL_ends_285 ?_
  refine r_irem hx hb dL_ends_286 (by omega) (by omega) ?_
  refine r_top (1) (by decide) ?_
  refine q_LM (As := [.ref y0, .int (iI (1))]) (rest := []) (wr := []) S (c_L_loses l hst D cI cL tw (y0) (y2) (b) (pq) (cq) (1) (4) (0) (sP_53) (sC_0) (2) (hb_53) (by omega) (by omega) (by omega) (fq_216) (by omega)) (1) (()) (fun z u h => ⟨h, rfl⟩) gL_ends_L_loses rfl rfl rfl f_L_loses hR (Nat.le_of_ble_eq_true rfl) (Nat.le_of_ble_eq_true rfl) (hE.kept hS.2.1) hP hD hS hA [0, 1, 2, 3, 4] [] rfl rfl (by decide) rfl (by decide) (by decide) rfl hl.1 rfl (Nat.le_of_ble_eq_true rfl) dL_ends_287 ⟨Nat.le_trans (Nat.le_of_ble_eq_true rfl) hRc.1, Nat.le_trans (Nat.le_of_ble_eq_true rfl) hRc.2⟩ (fun H locs hP hD hS => ?_)
  have hP : va_P D vwCl [(y0, .inr (1, [.ref b, .ref y2, .int (iI (2)), .int (iI (0)), .int (iI (0)), .int (iI (4))])), (y2, .inl (cI, 4, .inl (aI sC_0))), (b, .inr (0, [.ref pq, .ref cq])), (pq, .inl (cI, 16, .inl (aI sP_53))), (cq, .inl (cI, 136, .inl (aI (cnt sP_53))))] H := hP
  have hD : va_D A [(y0, .inr (1, [.ref b, .ref y2, .int (iI (2)), .int (iI (0)), .int (iI (0)), .int (iI (4))])), (y2, .inl (cI, 4, .inl (aI sC_0))), (b, .inr (0, [.ref pq, .ref cq])), (pq, .inl (cI, 16, .inl (aI sP_53))), (cq, .inl (cI, 136, .inl (aI (cnt sP_53))))] := hD
  refine r_if_ne (tgt := 295) hx hb dL_ends_290 (by decide) (by unfold rI; decide) (fun h290 => ?_) (fun h9 => absurd h9 (by omega))
  refine lv_iinc (v := iI (2)) (lv' := [(7, .int (iI (2))), (6, .int (iI (1))), (5, .int (iI (12))), (4, .int (iI (1))), (3, .int (iI (0))), (2, .int (iI (2))), (1, .int (iI (8))), (0, .ref y0)]) hx hb dL_ends_295 hl (k := 0) rfl (by decide) (by decide) rfl (fun ls hl => ?_)
  refine lv_goto (tgt := 264) hx hb dL_ends_298 (by decide) ?_
  refine lv_iload hx hb dL_ends_264 (lv_at hl 0 rfl) ?_
  refine lv_iload_n hx hb dL_ends_266 rfl (lv_at hl 6 rfl) ?_
  refine r_bipush hx hb dL_ends_267 (by decide) ?_
  refine r_icmp_ge (tgt := 276) hx hb dL_ends_269 (by decide) (by unfold rI; decide) (by unfold rI; decide) (fun h9 => absurd h9 (by omega)) (fun h269 => ?_)
  refine r_iconst hx hb dL_ends_272 ?_
  refine lv_goto (tgt := 277) hx hb dL_ends_273 (by decide) ?_
  refine r_icmp_ge (tgt := 301) hx hb dL_ends_277 (by decide) (by unfold rI; decide) (by unfold rI; decide) (fun h9 => absurd h9 (by omega)) (fun h277 => ?_)
  refine lv_aload_n hx hb dL_ends_280 rfl (lv_at hl 7 rfl) ?_
  refine lv_iload_n hx hb dL_ends_281 rfl (lv_at hl 4 rfl) ?_
  refine lv_iload hx hb dL_ends_282 (lv_at hl 0 rfl) ?_
  refine r_iadd hx hb dL_ends_284 ?_
  refine r_top (2) (by decide) ?_
  refine r_iconst hx hb dL_ends_285 ?_
  refine r_irem hx hb dL_ends_286 (by omega) (by omega) ?_
  refine r_top (2) (by decide) ?_
  refine q_LM (As := [.ref y0, .int (iI (2))]) (rest := []) (wr := []) S (c_L_loses l hst D cI cL tw (y0) (y2) (b) (pq) (cq) (2) (4) (0) (sP_53) (sC_0) (3) (hb_53) (by omega) (by omega) (by omega) (fq_217) (by omega)) (1) (()) (fun z u h => ⟨h, rfl⟩) gL_ends_L_loses rfl rfl rfl f_L_loses hR (Nat.le_of_ble_eq_true rfl) (Nat.le_of_ble_eq_true rfl) (hE.kept hS.2.1) hP hD hS hA [0, 1, 2, 3, 4] [] rfl rfl (by decide) rfl (by decide) (by decide) rfl hl.1 rfl (Nat.le_of_ble_eq_true rfl) dL_ends_287 ⟨Nat.le_trans (Nat.le_of_ble_eq_true rfl) hRc.1, Nat.le_trans (Nat.le_of_ble_eq_true rfl) hRc.2⟩ (fun H locs hP hD hS => ?_)
  have hP : va_P D vwCl [(y0, .inr (1, [.ref b, .ref y2, .int (iI (3)), .int (iI (0)), .int (iI (0)), .int (iI (4))])), (y2, .inl (cI, 4, .inl (aI sC_0))), (b, .inr (0, [.ref pq, .ref cq])), (pq, .inl (cI, 16, .inl (aI sP_53))), (cq, .inl (cI, 136, .inl (aI (cnt sP_53))))] H := hP
  have hD : va_D A [(y0, .inr (1, [.ref b, .ref y2, .int (iI (3)), .int (iI (0)), .int (iI (0)), .int (iI (4))])), (y2, .inl (cI, 4, .inl (aI sC_0))), (b, .inr (0, [.ref pq, .ref cq])), (pq, .inl (cI, 16, .inl (aI sP_53))), (cq, .inl (cI, 136, .inl (aI (cnt sP_53))))] := hD
  refine r_if_ne (tgt := 295) hx hb dL_ends_290 (by decide) (by unfold rI; decide) (fun h290 => ?_) (fun h9 => absurd h9 (by omega))
  refine lv_iinc (v := iI (3)) (lv' := [(7, .int (iI (3))), (6, .int (iI (1))), (5, .int (iI (12))), (4, .int (iI (1))), (3, .int (iI (0))), (2, .int (iI (2))), (1, .int (iI (8))), (0, .ref y0)]) hx hb dL_ends_295 hl (k := 0) rfl (by decide) (by decide) rfl (fun ls hl => ?_)
  refine lv_goto (tgt := 264) hx hb dL_ends_298 (by decide) ?_
  refine lv_iload hx hb dL_ends_264 (lv_at hl 0 rfl) ?_
  refine lv_iload_n hx hb dL_ends_266 rfl (lv_at hl 6 rfl) ?_
  refine r_bipush hx hb dL_ends_267 (by decide) ?_
  refine r_icmp_ge (tgt := 276) hx hb dL_ends_269 (by decide) (by unfold rI; decide) (by unfold rI; decide) (fun h9 => absurd h9 (by omega)) (fun h269 => ?_)
  refine r_iconst hx hb dL_ends_272 ?_
  refine lv_goto (tgt := 277) hx hb dL_ends_273 (by decide) ?_
  refine r_icmp_ge (tgt := 301) hx hb dL_ends_277 (by decide) (by unfold rI; decide) (by unfold rI; decide) (fun h9 => absurd h9 (by omega)) (fun h277 => ?_)
  refine lv_aload_n hx hb dL_ends_280 rfl (lv_at hl 7 rfl) ?_
  refine lv_iload_n hx hb dL_ends_281 rfl (lv_at hl 4 rfl) ?_
  refine lv_iload hx hb dL_ends_282 (lv_at hl 0 rfl) ?_
  refine r_iadd hx hb dL_ends_284 ?_
  refine r_top (3) (by decide) ?_
  refine r_iconst hx hb dL_ends_285 ?_
  refine r_irem hx hb dL_ends_286 (by omega) (by omega) ?_
  refine r_top (3) (by decide) ?_
  refine q_LM (As := [.ref y0, .int (iI (3))]) (rest := []) (wr := []) S (c_L_loses l hst D cI cL tw (y0) (y2) (b) (pq) (cq) (3) (4) (0) (sP_53) (sC_0) (0) (hb_53) (by omega) (by omega) (by omega) (fq_218) (by omega)) (1) (()) (fun z u h => ⟨h, rfl⟩) gL_ends_L_loses rfl rfl rfl f_L_loses hR (Nat.le_of_ble_eq_true rfl) (Nat.le_of_ble_eq_true rfl) (hE.kept hS.2.1) hP hD hS hA [0, 1, 2, 3, 4] [] rfl rfl (by decide) rfl (by decide) (by decide) rfl hl.1 rfl (Nat.le_of_ble_eq_true rfl) dL_ends_287 ⟨Nat.le_trans (Nat.le_of_ble_eq_true rfl) hRc.1, Nat.le_trans (Nat.le_of_ble_eq_true rfl) hRc.2⟩ (fun H locs hP hD hS => ?_)
  have hP : va_P D vwCl [(y0, .inr (1, [.ref b, .ref y2, .int (iI (0)), .int (iI (0)), .int (iI (0)), .int (iI (4))])), (y2, .inl (cI, 4, .inl (aI sC_0))), (b, .inr (0, [.ref pq, .ref cq])), (pq, .inl (cI, 16, .inl (aI sP_53))), (cq, .inl (cI, 136, .inl (aI (cnt sP_53))))] H := hP
  have hD : va_D A [(y0, .inr (1, [.ref b, .ref y2, .int (iI (0)), .int (iI (0)), .int (iI (0)), .int (iI (4))])), (y2, .inl (cI, 4, .inl (aI sC_0))), (b, .inr (0, [.ref pq, .ref cq])), (pq, .inl (cI, 16, .inl (aI sP_53))), (cq, .inl (cI, 136, .inl (aI (cnt sP_53))))] := hD
  refine r_if_ne (tgt := 295) hx hb dL_ends_290 (by decide) (by unfold rI; decide) (fun h290 => ?_) (fun h9 => absurd h9 (by omega))
  refine lv_iinc (v := iI (4)) (lv' := [(7, .int (iI (4))), (6, .int (iI (1))), (5, .int (iI (12))), (4, .int (iI (1))), (3, .int (iI (0))), (2, .int (iI (2))), (1, .int (iI (8))), (0, .ref y0)]) hx hb dL_ends_295 hl (k := 0) rfl (by decide) (by decide) rfl (fun ls hl => ?_)
  refine lv_goto (tgt := 264) hx hb dL_ends_298 (by decide) ?_
  refine lv_iload hx hb dL_ends_264 (lv_at hl 0 rfl) ?_
  refine lv_iload_n hx hb dL_ends_266 rfl (lv_at hl 6 rfl) ?_
  refine r_bipush hx hb dL_ends_267 (by decide) ?_
  refine r_icmp_ge (tgt := 276) hx hb dL_ends_269 (by decide) (by unfold rI; decide) (by unfold rI; decide) (fun h9 => absurd h9 (by omega)) (fun h269 => ?_)
  refine r_iconst hx hb dL_ends_272 ?_
  refine lv_goto (tgt := 277) hx hb dL_ends_273 (by decide) ?_
  refine r_icmp_ge (tgt := 301) hx hb dL_ends_277 (by decide) (by unfold rI; decide) (by unfold rI; decide) (fun h277 => ?_) (fun h9 => absurd h9 (by omega))
  refine lv_iinc (v := iI (9)) (lv' := [(1, .int (iI (9))), (7, .int (iI (4))), (6, .int (iI (1))), (5, .int (iI (12))), (4, .int (iI (1))), (3, .int (iI (0))), (2, .int (iI (2))), (0, .ref y0)]) hx hb dL_ends_301 hl (k := 6) rfl (by decide) (by decide) rfl (fun ls hl => ?_)
  refine lv_goto (tgt := 10) hx hb dL_ends_304 (by decide) ?_
  exact sg_L_ends_10 S hst hR hRc hE hA y0 y2 b pq cq  hret hP hD hS hl
set_option maxHeartbeats 4000000 in
set_option maxRecDepth 100000 in
theorem sg_L_ends_8 {p : Program} {l : Launch} {e : Env} {R : Room} {s : State} {mt : MethodId} {args : Array Value} {below : List Frame} {meth : Method} {c : Code} {H0 : Heap} {Q : State → Prop} {A : Nat → Prop} {D : va_G} {cI cL : ClassId} {tw : Nat} (S : CallFix p mt c cL_ends 8 s args wsL_ends RL) (hst : l.stackTraces = false) (hR : 15 ≤ R.frames ∧ 377 ≤ R.locals) (hRc : 527 ≤ R.cells ∧ 3296 ≤ R.slots) (hE : EV D cI cL tw A s H0) (hA : ∀ q : Nat, H0.size ≤ q → A q) (y0 : Nat) (y2 : Nat) (b : Nat) (pq : Nat) (cq : Nat)  (hret : ∀ (z : Int) (u : Unit) (pc : Nat) (ls : Array Slot) (H : Heap) (locs : List Loc) (cells slots : Nat), decode cL_ends pc = .ok (.ireturn, 1) → (z = 1) → va_P D vwCl [] H → va_D A [] → va_S A H0 H locs → cells ≤ 527 → slots ≤ 3296 → W p l e R s mt args below meth c H locs cells slots Q (F0 mt pc ls [.int (iI z)])) {H : Heap} {locs : List Loc} {ls : Array Slot} (hP : va_P D vwCl [(y0, .inr (1, [.ref b, .ref y2, .int (iI (0)), .int (iI (0)), .int (iI (0)), .int (iI (3))])), (y2, .inl (cI, 4, .inl (aI sC_0))), (b, .inr (0, [.ref pq, .ref cq])), (pq, .inl (cI, 16, .inl (aI sP_49))), (cq, .inl (cI, 136, .inl (aI (cnt sP_49))))] H) (hD : va_D A [(y0, .inr (1, [.ref b, .ref y2, .int (iI (0)), .int (iI (0)), .int (iI (0)), .int (iI (3))])), (y2, .inl (cI, 4, .inl (aI sC_0))), (b, .inr (0, [.ref pq, .ref cq])), (pq, .inl (cI, 16, .inl (aI sP_49))), (cq, .inl (cI, 136, .inl (aI (cnt sP_49))))]) (hS : va_S A H0 H locs) (hl : lv_has ls 8 [(1, .int (iI (7))), (7, .int (iI (4))), (6, .int (iI (1))), (5, .int (iI (12))), (4, .int (iI (1))), (3, .int (iI (0))), (2, .int (iI (2))), (0, .ref y0)]) : W p l e R s mt args below meth c H locs 120 854 Q (F0 mt 10 ls []) := by
  obtain ⟨hx, hb, hml, hown, hts⟩ := id S
  refine lv_iload_n hx hb dL_ends_10 rfl (lv_at hl 0 rfl) ?_
  refine r_bipush hx hb dL_ends_11 (by decide) ?_
  refine r_icmp_ge (tgt := 307) hx hb dL_ends_13 (by decide) (by unfold rI; decide) (by unfold rI; decide) (fun h9 => absurd h9 (by omega)) (fun h13 => ?_)
  refine lv_iload_n hx hb dL_ends_16 rfl (lv_at hl 0 rfl) ?_
  refine r_iconst hx hb dL_ends_17 ?_
  refine r_idiv hx hb dL_ends_18 (by omega) (by omega) ?_
  refine r_top (2) (by decide) ?_
  refine r_iconst hx hb dL_ends_19 ?_
  refine r_irem hx hb dL_ends_20 (by omega) (by omega) ?_
  refine r_top (2) (by decide) ?_
  refine lv_istore_n (lv' := [(2, .int (iI (2))), (1, .int (iI (7))), (7, .int (iI (4))), (6, .int (iI (1))), (5, .int (iI (12))), (4, .int (iI (1))), (3, .int (iI (0))), (0, .ref y0)]) hx hb dL_ends_21 rfl hl (by decide) rfl (fun ls hl => ?_)
  refine lv_iload_n hx hb dL_ends_22 rfl (lv_at hl 1 rfl) ?_
  refine r_bipush hx hb dL_ends_23 (by decide) ?_
  refine r_icmp_ge (tgt := 32) hx hb dL_ends_25 (by decide) (by unfold rI; decide) (by unfold rI; decide) (fun h9 => absurd h9 (by omega)) (fun h25 => ?_)
  refine r_iconst hx hb dL_ends_28 ?_
  refine lv_goto (tgt := 37) hx hb dL_ends_29 (by decide) ?_
  refine lv_istore_n (lv' := [(3, .int (iI (0))), (2, .int (iI (2))), (1, .int (iI (7))), (7, .int (iI (4))), (6, .int (iI (1))), (5, .int (iI (12))), (4, .int (iI (1))), (0, .ref y0)]) hx hb dL_ends_37 rfl hl (by decide) rfl (fun ls hl => ?_)
  refine lv_aload_n hx hb dL_ends_38 rfl (lv_at hl 7 rfl) ?_
  refine q_RO (As := []) (rest := []) S (c_X1_onTurn l D cI cL tw (y0) (y2) (b) (pq) (cq) (0) (0) (3) (0) (sP_49) (sC_0) (hb_49) (by omega) (by omega) (by omega) (by omega)) (0) (fun z h => h) gL_ends_X1_onTurn rfl rfl rfl ⟨rfl, f_X1_onTurn⟩ hR (Nat.le_of_ble_eq_true rfl) (Nat.le_of_ble_eq_true rfl) (hE.kept hS.2.1) hP [0, 1, 2, 3, 4] rfl 0 rfl rfl rfl hl.1 rfl (Nat.le_of_ble_eq_true rfl) dL_ends_39 ⟨Nat.le_trans (Nat.le_of_ble_eq_true rfl) hRc.1, Nat.le_trans (Nat.le_of_ble_eq_true rfl) hRc.2⟩ ?_
  refine lv_iload_n hx hb dL_ends_42 rfl (lv_at hl 0 rfl) ?_
  refine r_icmp_ne (tgt := 87) hx hb dL_ends_43 (by decide) (by unfold rI; decide) (by unfold rI; decide) (fun h9 => absurd h9 (by omega)) (fun h43 => ?_)
  refine lv_aload_n hx hb dL_ends_46 rfl (lv_at hl 7 rfl) ?_
  refine q_RO (As := []) (rest := []) S (c_X1_mover l D cI cL tw (y0) (y2) (b) (pq) (cq) (0) (0) (3) (0) (sP_49) (sC_0) (hb_49) (by omega) (by omega) (by omega) (by omega)) (0) (fun z h => h.trans fq_200) gL_ends_X1_mover rfl rfl rfl ⟨rfl, f_X1_mover⟩ hR (Nat.le_of_ble_eq_true rfl) (Nat.le_of_ble_eq_true rfl) (hE.kept hS.2.1) hP [0, 1, 2, 3, 4] rfl 0 rfl rfl rfl hl.1 rfl (Nat.le_of_ble_eq_true rfl) dL_ends_47 ⟨Nat.le_trans (Nat.le_of_ble_eq_true rfl) hRc.1, Nat.le_trans (Nat.le_of_ble_eq_true rfl) hRc.2⟩ ?_
  refine lv_iload_n hx hb dL_ends_50 rfl (lv_at hl 2 rfl) ?_
  refine r_bipush hx hb dL_ends_51 (by decide) ?_
  refine r_icmp_ge (tgt := 60) hx hb dL_ends_53 (by decide) (by unfold rI; decide) (by unfold rI; decide) (fun h9 => absurd h9 (by omega)) (fun h53 => ?_)
  refine r_iconst hx hb dL_ends_56 ?_
  refine lv_goto (tgt := 61) hx hb dL_ends_57 (by decide) ?_
  refine r_icmp_ne (tgt := 87) hx hb dL_ends_61 (by decide) (by unfold rI; decide) (by unfold rI; decide) (fun h9 => absurd h9 (by omega)) (fun h61 => ?_)
  refine lv_aload_n hx hb dL_ends_64 rfl (lv_at hl 7 rfl) ?_
  refine lv_iload_n hx hb dL_ends_65 rfl (lv_at hl 2 rfl) ?_
  refine r_bipush hx hb dL_ends_66 (by decide) ?_
  refine r_icmp_ge (tgt := 75) hx hb dL_ends_68 (by decide) (by unfold rI; decide) (by unfold rI; decide) (fun h9 => absurd h9 (by omega)) (fun h68 => ?_)
  refine r_iconst hx hb dL_ends_71 ?_
  refine lv_goto (tgt := 76) hx hb dL_ends_72 (by decide) ?_
  refine q_Xi (As := [.int (iI (0))]) (rest := []) S (c_X1_home l hst D cI cL tw (y0) (y2) (b) (pq) (cq) (0) (0) (3) (0) (sP_49) (sC_0) (0) (hb_49) (by omega) (by omega) (by omega) (by omega) (by omega)) (2) (fun z h => h.2.2.trans fq_201) (fun E h => by (try dsimp only at h); first | (rcases h with ⟨_, h⟩ | ⟨_, h⟩ <;> omega) | (obtain ⟨_, h⟩ := h; omega)) gL_ends_X1_home rfl rfl rfl ⟨rfl, f_X1_home⟩ hR (Nat.le_of_ble_eq_true rfl) (Nat.le_of_ble_eq_true rfl) (hE.kept hS.2.1) hP hS hA [0, 1, 2, 3, 4] rfl 0 rfl rfl rfl hl.1 rfl (Nat.le_of_ble_eq_true rfl) dL_ends_76 ⟨Nat.le_trans (Nat.le_of_ble_eq_true rfl) hRc.1, Nat.le_trans (Nat.le_of_ble_eq_true rfl) hRc.2⟩ (fun H locs hP hS => ?_)
  refine lv_iload_n hx hb dL_ends_79 rfl (lv_at hl 1 rfl) ?_
  refine r_icmp_ne (tgt := 87) hx hb dL_ends_80 (by decide) (by unfold rI; decide) (by unfold rI; decide) (fun h9 => absurd h9 (by omega)) (fun h80 => ?_)
  refine r_iconst hx hb dL_ends_83 ?_
  refine lv_goto (tgt := 88) hx hb dL_ends_84 (by decide) ?_
  refine lv_istore (lv' := [(4, .int (iI (1))), (3, .int (iI (0))), (2, .int (iI (2))), (1, .int (iI (7))), (7, .int (iI (4))), (6, .int (iI (1))), (5, .int (iI (12))), (0, .ref y0)]) hx hb dL_ends_88 hl (by decide) rfl (fun ls hl => ?_)
  refine r_bipush hx hb dL_ends_90 (by decide) ?_
  refine r_iconst hx hb dL_ends_92 ?_
  refine lv_iload_n hx hb dL_ends_93 rfl (lv_at hl 2 rfl) ?_
  refine r_ishl hx hb (z := 4) dL_ends_94 (by decide) ?_
  refine r_isub hx hb dL_ends_95 ?_
  refine r_top (11) (by decide) ?_
  refine r_iconst hx hb dL_ends_96 ?_
  refine r_iadd hx hb dL_ends_97 ?_
  refine r_top (12) (by decide) ?_
  refine lv_istore (lv' := [(5, .int (iI (12))), (4, .int (iI (1))), (3, .int (iI (0))), (2, .int (iI (2))), (1, .int (iI (7))), (7, .int (iI (4))), (6, .int (iI (1))), (0, .ref y0)]) hx hb dL_ends_98 hl (by decide) rfl (fun ls hl => ?_)
  refine lv_iload_n hx hb dL_ends_100 rfl (lv_at hl 4 rfl) ?_
  refine r_iconst hx hb dL_ends_101 ?_
  refine r_irem hx hb dL_ends_102 (by omega) (by omega) ?_
  refine r_top (1) (by decide) ?_
  refine r_if_ne (tgt := 154) hx hb dL_ends_103 (by decide) (by unfold rI; decide) (fun h103 => ?_) (fun h9 => absurd h9 (by omega))
  refine lv_iload_n hx hb dL_ends_154 rfl (lv_at hl 4 rfl) ?_
  refine r_iconst hx hb dL_ends_155 ?_
  refine r_irem hx hb dL_ends_156 (by omega) (by omega) ?_
  refine r_top (1) (by decide) ?_
  refine r_iconst hx hb dL_ends_157 ?_
  refine r_icmp_ne (tgt := 209) hx hb dL_ends_158 (by decide) (by unfold rI; decide) (by unfold rI; decide) (fun h9 => absurd h9 (by omega)) (fun h158 => ?_)
  refine lv_aload_n hx hb dL_ends_161 rfl (lv_at hl 7 rfl) ?_
  refine r_iconst hx hb dL_ends_162 ?_
  refine lv_iload hx hb dL_ends_163 (lv_at hl 0 rfl) ?_
  refine lv_iload_n hx hb dL_ends_165 rfl (lv_at hl 3 rfl) ?_
  refine r_bipush hx hb dL_ends_166 (by decide) ?_
  refine q_LM (As := [.ref y0, .int (iI (0)), .int (iI (12)), .int (iI (2)), .int (iI (54))]) (rest := []) (wr := []) S (c_L_goes l hst D cI cL tw (y0) (y2) (b) (pq) (cq) (0) (3) (0) (sP_49) (sC_0) (0) (12) (2) (54) (0) (1) (0) (sP_50) (sC_0) (by omega) (by omega) (by omega) (fq_203)) (1) (()) (fun z u h => ⟨h, rfl⟩) gL_ends_L_goes rfl rfl rfl f_L_goes hR (Nat.le_of_ble_eq_true rfl) (Nat.le_of_ble_eq_true rfl) (hE.kept hS.2.1) hP hD hS hA [0, 1, 2, 3, 4] [] rfl rfl (by decide) rfl (by decide) (by decide) rfl hl.1 rfl (Nat.le_of_ble_eq_true rfl) dL_ends_168 ⟨Nat.le_trans (Nat.le_of_ble_eq_true rfl) hRc.1, Nat.le_trans (Nat.le_of_ble_eq_true rfl) hRc.2⟩ (fun H locs hP hD hS => ?_)
  have hP : va_P D vwCl [(y0, .inr (1, [.ref b, .ref y2, .int (iI (0)), .int (iI (1)), .int (iI (0)), .int (iI (0))])), (y2, .inl (cI, 4, .inl (aI sC_0))), (b, .inr (0, [.ref pq, .ref cq])), (pq, .inl (cI, 16, .inl (aI sP_50))), (cq, .inl (cI, 136, .inl (aI (cnt sP_50))))] H := hP
  have hD : va_D A [(y0, .inr (1, [.ref b, .ref y2, .int (iI (0)), .int (iI (1)), .int (iI (0)), .int (iI (0))])), (y2, .inl (cI, 4, .inl (aI sC_0))), (b, .inr (0, [.ref pq, .ref cq])), (pq, .inl (cI, 16, .inl (aI sP_50))), (cq, .inl (cI, 136, .inl (aI (cnt sP_50))))] := hD
  refine r_if_eq (tgt := 205) hx hb dL_ends_171 (by decide) (by unfold rI; decide) (fun h9 => absurd h9 (by omega)) (fun h171 => ?_)
  refine lv_aload_n hx hb dL_ends_174 rfl (lv_at hl 7 rfl) ?_
  refine r_iconst hx hb dL_ends_175 ?_
  refine lv_iload hx hb dL_ends_176 (lv_at hl 0 rfl) ?_
  refine lv_iload_n hx hb dL_ends_178 rfl (lv_at hl 3 rfl) ?_
  refine r_bipush hx hb dL_ends_179 (by decide) ?_
  refine q_LM (As := [.ref y0, .int (iI (1)), .int (iI (12)), .int (iI (2)), .int (iI (64))]) (rest := []) (wr := []) S (c_L_goes l hst D cI cL tw (y0) (y2) (b) (pq) (cq) (0) (0) (1) (sP_50) (sC_0) (1) (12) (2) (64) (0) (2) (0) (sP_51) (sC_0) (by omega) (by omega) (by omega) (fq_205)) (1) (()) (fun z u h => ⟨h, rfl⟩) gL_ends_L_goes rfl rfl rfl f_L_goes hR (Nat.le_of_ble_eq_true rfl) (Nat.le_of_ble_eq_true rfl) (hE.kept hS.2.1) hP hD hS hA [0, 1, 2, 3, 4] [] rfl rfl (by decide) rfl (by decide) (by decide) rfl hl.1 rfl (Nat.le_of_ble_eq_true rfl) dL_ends_181 ⟨Nat.le_trans (Nat.le_of_ble_eq_true rfl) hRc.1, Nat.le_trans (Nat.le_of_ble_eq_true rfl) hRc.2⟩ (fun H locs hP hD hS => ?_)
  have hP : va_P D vwCl [(y0, .inr (1, [.ref b, .ref y2, .int (iI (0)), .int (iI (2)), .int (iI (0)), .int (iI (1))])), (y2, .inl (cI, 4, .inl (aI sC_0))), (b, .inr (0, [.ref pq, .ref cq])), (pq, .inl (cI, 16, .inl (aI sP_51))), (cq, .inl (cI, 136, .inl (aI (cnt sP_51))))] H := hP
  have hD : va_D A [(y0, .inr (1, [.ref b, .ref y2, .int (iI (0)), .int (iI (2)), .int (iI (0)), .int (iI (1))])), (y2, .inl (cI, 4, .inl (aI sC_0))), (b, .inr (0, [.ref pq, .ref cq])), (pq, .inl (cI, 16, .inl (aI sP_51))), (cq, .inl (cI, 136, .inl (aI (cnt sP_51))))] := hD
  refine r_if_eq (tgt := 205) hx hb dL_ends_184 (by decide) (by unfold rI; decide) (fun h9 => absurd h9 (by omega)) (fun h184 => ?_)
  refine lv_aload_n hx hb dL_ends_187 rfl (lv_at hl 7 rfl) ?_
  refine r_iconst hx hb dL_ends_188 ?_
  refine r_iconst hx hb dL_ends_189 ?_
  refine lv_iload_n hx hb dL_ends_190 rfl (lv_at hl 3 rfl) ?_
  refine r_ishl hx hb (z := 4) dL_ends_191 (by decide) ?_
  refine lv_iload_n hx hb dL_ends_192 rfl (lv_at hl 3 rfl) ?_
  refine r_bipush hx hb dL_ends_193 (by decide) ?_
  refine q_LM (As := [.ref y0, .int (iI (4)), .int (iI (4)), .int (iI (2)), .int (iI (68))]) (rest := []) (wr := []) S (c_L_goes l hst D cI cL tw (y0) (y2) (b) (pq) (cq) (0) (1) (2) (sP_51) (sC_0) (4) (4) (2) (68) (1) (0) (0) (sP_52) (sC_0) (by omega) (by omega) (by omega) (fq_207)) (1) (()) (fun z u h => ⟨h, rfl⟩) gL_ends_L_goes rfl rfl rfl f_L_goes hR (Nat.le_of_ble_eq_true rfl) (Nat.le_of_ble_eq_true rfl) (hE.kept hS.2.1) hP hD hS hA [0, 1, 2, 3, 4] [] rfl rfl (by decide) rfl (by decide) (by decide) rfl hl.1 rfl (Nat.le_of_ble_eq_true rfl) dL_ends_195 ⟨Nat.le_trans (Nat.le_of_ble_eq_true rfl) hRc.1, Nat.le_trans (Nat.le_of_ble_eq_true rfl) hRc.2⟩ (fun H locs hP hD hS => ?_)
  have hP : va_P D vwCl [(y0, .inr (1, [.ref b, .ref y2, .int (iI (1)), .int (iI (0)), .int (iI (0)), .int (iI (4))])), (y2, .inl (cI, 4, .inl (aI sC_0))), (b, .inr (0, [.ref pq, .ref cq])), (pq, .inl (cI, 16, .inl (aI sP_52))), (cq, .inl (cI, 136, .inl (aI (cnt sP_52))))] H := hP
  have hD : va_D A [(y0, .inr (1, [.ref b, .ref y2, .int (iI (1)), .int (iI (0)), .int (iI (0)), .int (iI (4))])), (y2, .inl (cI, 4, .inl (aI sC_0))), (b, .inr (0, [.ref pq, .ref cq])), (pq, .inl (cI, 16, .inl (aI sP_52))), (cq, .inl (cI, 136, .inl (aI (cnt sP_52))))] := hD
  refine r_if_eq (tgt := 205) hx hb dL_ends_198 (by decide) (by unfold rI; decide) (fun h9 => absurd h9 (by omega)) (fun h198 => ?_)
  refine r_iconst hx hb dL_ends_201 ?_
  refine lv_goto (tgt := 238) hx hb dL_ends_202 (by decide) ?_
  refine lv_istore (lv' := [(6, .int (iI (1))), (5, .int (iI (12))), (4, .int (iI (1))), (3, .int (iI (0))), (2, .int (iI (2))), (1, .int (iI (7))), (7, .int (iI (4))), (0, .ref y0)]) hx hb dL_ends_238 hl (by decide) rfl (fun ls hl => ?_)
  refine lv_iload hx hb dL_ends_240 (lv_at hl 2 rfl) ?_
  refine r_if_eq (tgt := 250) hx hb dL_ends_242 (by decide) (by unfold rI; decide) (fun h9 => absurd h9 (by omega)) (fun h242 => ?_)
  refine lv_iload hx hb dL_ends_245 (lv_at hl 0 rfl) ?_
  refine r_if_ne (tgt := 252) hx hb dL_ends_247 (by decide) (by unfold rI; decide) (fun h247 => ?_) (fun h9 => absurd h9 (by omega))
  refine lv_iload_n hx hb dL_ends_252 rfl (lv_at hl 5 rfl) ?_
  refine r_bipush hx hb dL_ends_253 (by decide) ?_
  refine r_icmp_ne (tgt := 261) hx hb dL_ends_255 (by decide) (by unfold rI; decide) (by unfold rI; decide) (fun h255 => ?_) (fun h9 => absurd h9 (by omega))
  refine r_iconst hx hb dL_ends_261 ?_
  refine lv_istore (lv' := [(7, .int (iI (1))), (6, .int (iI (1))), (5, .int (iI (12))), (4, .int (iI (1))), (3, .int (iI (0))), (2, .int (iI (2))), (1, .int (iI (7))), (0, .ref y0)]) hx hb dL_ends_262 hl (by decide) rfl (fun ls hl => ?_)
  refine lv_iload hx hb dL_ends_264 (lv_at hl 0 rfl) ?_
  refine lv_iload_n hx hb dL_ends_266 rfl (lv_at hl 6 rfl) ?_
  refine r_bipush hx hb dL_ends_267 (by decide) ?_
  refine r_icmp_ge (tgt := 276) hx hb dL_ends_269 (by decide) (by unfold rI; decide) (by unfold rI; decide) (fun h9 => absurd h9 (by omega)) (fun h269 => ?_)
  refine r_iconst hx hb dL_ends_272 ?_
  refine lv_goto (tgt := 277) hx hb dL_ends_273 (by decide) ?_
  refine r_icmp_ge (tgt := 301) hx hb dL_ends_277 (by decide) (by unfold rI; decide) (by unfold rI; decide) (fun h9 => absurd h9 (by omega)) (fun h277 => ?_)
  refine lv_aload_n hx hb dL_ends_280 rfl (lv_at hl 7 rfl) ?_
  refine lv_iload_n hx hb dL_ends_281 rfl (lv_at hl 4 rfl) ?_
  refine lv_iload hx hb dL_ends_282 (lv_at hl 0 rfl) ?_
  refine r_iadd hx hb dL_ends_284 ?_
  refine r_top (1) (by decide) ?_
  refine r_iconst hx hb dL_ends_285 ?_
  refine r_irem hx hb dL_ends_286 (by omega) (by omega) ?_
  refine r_top (1) (by decide) ?_
  refine q_LM (As := [.ref y0, .int (iI (1))]) (rest := []) (wr := []) S (c_L_loses l hst D cI cL tw (y0) (y2) (b) (pq) (cq) (1) (4) (0) (sP_52) (sC_0) (2) (hb_52) (by omega) (by omega) (by omega) (fq_208) (by omega)) (1) (()) (fun z u h => ⟨h, rfl⟩) gL_ends_L_loses rfl rfl rfl f_L_loses hR (Nat.le_of_ble_eq_true rfl) (Nat.le_of_ble_eq_true rfl) (hE.kept hS.2.1) hP hD hS hA [0, 1, 2, 3, 4] [] rfl rfl (by decide) rfl (by decide) (by decide) rfl hl.1 rfl (Nat.le_of_ble_eq_true rfl) dL_ends_287 ⟨Nat.le_trans (Nat.le_of_ble_eq_true rfl) hRc.1, Nat.le_trans (Nat.le_of_ble_eq_true rfl) hRc.2⟩ (fun H locs hP hD hS => ?_)
  have hP : va_P D vwCl [(y0, .inr (1, [.ref b, .ref y2, .int (iI (2)), .int (iI (0)), .int (iI (0)), .int (iI (4))])), (y2, .inl (cI, 4, .inl (aI sC_0))), (b, .inr (0, [.ref pq, .ref cq])), (pq, .inl (cI, 16, .inl (aI sP_52))), (cq, .inl (cI, 136, .inl (aI (cnt sP_52))))] H := hP
  have hD : va_D A [(y0, .inr (1, [.ref b, .ref y2, .int (iI (2)), .int (iI (0)), .int (iI (0)), .int (iI (4))])), (y2, .inl (cI, 4, .inl (aI sC_0))), (b, .inr (0, [.ref pq, .ref cq])), (pq, .inl (cI, 16, .inl (aI sP_52))), (cq, .inl (cI, 136, .inl (aI (cnt sP_52))))] := hD
  refine r_if_ne (tgt := 295) hx hb dL_ends_290 (by decide) (by unfold rI; decide) (fun h290 => ?_) (fun h9 => absurd h9 (by omega))
  refine lv_iinc (v := iI (2)) (lv' := [(7, .int (iI (2))), (6, .int (iI (1))), (5, .int (iI (12))), (4, .int (iI (1))), (3, .int (iI (0))), (2, .int (iI (2))), (1, .int (iI (7))), (0, .ref y0)]) hx hb dL_ends_295 hl (k := 0) rfl (by decide) (by decide) rfl (fun ls hl => ?_)
  refine lv_goto (tgt := 264) hx hb dL_ends_298 (by decide) ?_
  refine lv_iload hx hb dL_ends_264 (lv_at hl 0 rfl) ?_
  refine lv_iload_n hx hb dL_ends_266 rfl (lv_at hl 6 rfl) ?_
  refine r_bipush hx hb dL_ends_267 (by decide) ?_
  refine r_icmp_ge (tgt := 276) hx hb dL_ends_269 (by decide) (by unfold rI; decide) (by unfold rI; decide) (fun h9 => absurd h9 (by omega)) (fun h269 => ?_)
  refine r_iconst hx hb dL_ends_272 ?_
  refine lv_goto (tgt := 277) hx hb dL_ends_273 (by decide) ?_
  refine r_icmp_ge (tgt := 301) hx hb dL_ends_277 (by decide) (by unfold rI; decide) (by unfold rI; decide) (fun h9 => absurd h9 (by omega)) (fun h277 => ?_)
  refine lv_aload_n hx hb dL_ends_280 rfl (lv_at hl 7 rfl) ?_
  refine lv_iload_n hx hb dL_ends_281 rfl (lv_at hl 4 rfl) ?_
  refine lv_iload hx hb dL_ends_282 (lv_at hl 0 rfl) ?_
  refine r_iadd hx hb dL_ends_284 ?_
  refine r_top (2) (by decide) ?_
  refine r_iconst hx hb dL_ends_285 ?_
  refine r_irem hx hb dL_ends_286 (by omega) (by omega) ?_
  refine r_top (2) (by decide) ?_
  refine q_LM (As := [.ref y0, .int (iI (2))]) (rest := []) (wr := []) S (c_L_loses l hst D cI cL tw (y0) (y2) (b) (pq) (cq) (2) (4) (0) (sP_52) (sC_0) (3) (hb_52) (by omega) (by omega) (by omega) (fq_209) (by omega)) (1) (()) (fun z u h => ⟨h, rfl⟩) gL_ends_L_loses rfl rfl rfl f_L_loses hR (Nat.le_of_ble_eq_true rfl) (Nat.le_of_ble_eq_true rfl) (hE.kept hS.2.1) hP hD hS hA [0, 1, 2, 3, 4] [] rfl rfl (by decide) rfl (by decide) (by decide) rfl hl.1 rfl (Nat.le_of_ble_eq_true rfl) dL_ends_287 ⟨Nat.le_trans (Nat.le_of_ble_eq_true rfl) hRc.1, Nat.le_trans (Nat.le_of_ble_eq_true rfl) hRc.2⟩ (fun H locs hP hD hS => ?_)
  have hP : va_P D vwCl [(y0, .inr (1, [.ref b, .ref y2, .int (iI (3)), .int (iI (0)), .int (iI (0)), .int (iI (4))])), (y2, .inl (cI, 4, .inl (aI sC_0))), (b, .inr (0, [.ref pq, .ref cq])), (pq, .inl (cI, 16, .inl (aI sP_52))), (cq, .inl (cI, 136, .inl (aI (cnt sP_52))))] H := hP
  have hD : va_D A [(y0, .inr (1, [.ref b, .ref y2, .int (iI (3)), .int (iI (0)), .int (iI (0)), .int (iI (4))])), (y2, .inl (cI, 4, .inl (aI sC_0))), (b, .inr (0, [.ref pq, .ref cq])), (pq, .inl (cI, 16, .inl (aI sP_52))), (cq, .inl (cI, 136, .inl (aI (cnt sP_52))))] := hD
  refine r_if_ne (tgt := 295) hx hb dL_ends_290 (by decide) (by unfold rI; decide) (fun h290 => ?_) (fun h9 => absurd h9 (by omega))
  refine lv_iinc (v := iI (3)) (lv' := [(7, .int (iI (3))), (6, .int (iI (1))), (5, .int (iI (12))), (4, .int (iI (1))), (3, .int (iI (0))), (2, .int (iI (2))), (1, .int (iI (7))), (0, .ref y0)]) hx hb dL_ends_295 hl (k := 0) rfl (by decide) (by decide) rfl (fun ls hl => ?_)
  refine lv_goto (tgt := 264) hx hb dL_ends_298 (by decide) ?_
  refine lv_iload hx hb dL_ends_264 (lv_at hl 0 rfl) ?_
  refine lv_iload_n hx hb dL_ends_266 rfl (lv_at hl 6 rfl) ?_
  refine r_bipush hx hb dL_ends_267 (by decide) ?_
  refine r_icmp_ge (tgt := 276) hx hb dL_ends_269 (by decide) (by unfold rI; decide) (by unfold rI; decide) (fun h9 => absurd h9 (by omega)) (fun h269 => ?_)
  refine r_iconst hx hb dL_ends_272 ?_
  refine lv_goto (tgt := 277) hx hb dL_ends_273 (by decide) ?_
  refine r_icmp_ge (tgt := 301) hx hb dL_ends_277 (by decide) (by unfold rI; decide) (by unfold rI; decide) (fun h9 => absurd h9 (by omega)) (fun h277 => ?_)
  refine lv_aload_n hx hb dL_ends_280 rfl (lv_at hl 7 rfl) ?_
  refine lv_iload_n hx hb dL_ends_281 rfl (lv_at hl 4 rfl) ?_
  refine lv_iload hx hb dL_ends_282 (lv_at hl 0 rfl) ?_
  refine r_iadd hx hb dL_ends_284 ?_
  refine r_top (3) (by decide) ?_
  refine r_iconst hx hb dL_ends_285 ?_
  refine r_irem hx hb dL_ends_286 (by omega) (by omega) ?_
  refine r_top (3) (by decide) ?_
  refine q_LM (As := [.ref y0, .int (iI (3))]) (rest := []) (wr := []) S (c_L_loses l hst D cI cL tw (y0) (y2) (b) (pq) (cq) (3) (4) (0) (sP_52) (sC_0) (0) (hb_52) (by omega) (by omega) (by omega) (fq_210) (by omega)) (1) (()) (fun z u h => ⟨h, rfl⟩) gL_ends_L_loses rfl rfl rfl f_L_loses hR (Nat.le_of_ble_eq_true rfl) (Nat.le_of_ble_eq_true rfl) (hE.kept hS.2.1) hP hD hS hA [0, 1, 2, 3, 4] [] rfl rfl (by decide) rfl (by decide) (by decide) rfl hl.1 rfl (Nat.le_of_ble_eq_true rfl) dL_ends_287 ⟨Nat.le_trans (Nat.le_of_ble_eq_true rfl) hRc.1, Nat.le_trans (Nat.le_of_ble_eq_true rfl) hRc.2⟩ (fun H locs hP hD hS => ?_)
  have hP : va_P D vwCl [(y0, .inr (1, [.ref b, .ref y2, .int (iI (0)), .int (iI (0)), .int (iI (0)), .int (iI (4))])), (y2, .inl (cI, 4, .inl (aI sC_0))), (b, .inr (0, [.ref pq, .ref cq])), (pq, .inl (cI, 16, .inl (aI sP_52))), (cq, .inl (cI, 136, .inl (aI (cnt sP_52))))] H := hP
  have hD : va_D A [(y0, .inr (1, [.ref b, .ref y2, .int (iI (0)), .int (iI (0)), .int (iI (0)), .int (iI (4))])), (y2, .inl (cI, 4, .inl (aI sC_0))), (b, .inr (0, [.ref pq, .ref cq])), (pq, .inl (cI, 16, .inl (aI sP_52))), (cq, .inl (cI, 136, .inl (aI (cnt sP_52))))] := hD
  refine r_if_ne (tgt := 295) hx hb dL_ends_290 (by decide) (by unfold rI; decide) (fun h290 => ?_) (fun h9 => absurd h9 (by omega))
  refine lv_iinc (v := iI (4)) (lv' := [(7, .int (iI (4))), (6, .int (iI (1))), (5, .int (iI (12))), (4, .int (iI (1))), (3, .int (iI (0))), (2, .int (iI (2))), (1, .int (iI (7))), (0, .ref y0)]) hx hb dL_ends_295 hl (k := 0) rfl (by decide) (by decide) rfl (fun ls hl => ?_)
  refine lv_goto (tgt := 264) hx hb dL_ends_298 (by decide) ?_
  refine lv_iload hx hb dL_ends_264 (lv_at hl 0 rfl) ?_
  refine lv_iload_n hx hb dL_ends_266 rfl (lv_at hl 6 rfl) ?_
  refine r_bipush hx hb dL_ends_267 (by decide) ?_
  refine r_icmp_ge (tgt := 276) hx hb dL_ends_269 (by decide) (by unfold rI; decide) (by unfold rI; decide) (fun h9 => absurd h9 (by omega)) (fun h269 => ?_)
  refine r_iconst hx hb dL_ends_272 ?_
  refine lv_goto (tgt := 277) hx hb dL_ends_273 (by decide) ?_
  refine r_icmp_ge (tgt := 301) hx hb dL_ends_277 (by decide) (by unfold rI; decide) (by unfold rI; decide) (fun h277 => ?_) (fun h9 => absurd h9 (by omega))
  refine lv_iinc (v := iI (8)) (lv' := [(1, .int (iI (8))), (7, .int (iI (4))), (6, .int (iI (1))), (5, .int (iI (12))), (4, .int (iI (1))), (3, .int (iI (0))), (2, .int (iI (2))), (0, .ref y0)]) hx hb dL_ends_301 hl (k := 6) rfl (by decide) (by decide) rfl (fun ls hl => ?_)
  refine lv_goto (tgt := 10) hx hb dL_ends_304 (by decide) ?_
  exact sg_L_ends_9 S hst hR hRc hE hA y0 y2 b pq cq  hret hP hD hS hl
set_option maxHeartbeats 4000000 in
set_option maxRecDepth 100000 in
theorem sg_L_ends_7 {p : Program} {l : Launch} {e : Env} {R : Room} {s : State} {mt : MethodId} {args : Array Value} {below : List Frame} {meth : Method} {c : Code} {H0 : Heap} {Q : State → Prop} {A : Nat → Prop} {D : va_G} {cI cL : ClassId} {tw : Nat} (S : CallFix p mt c cL_ends 8 s args wsL_ends RL) (hst : l.stackTraces = false) (hR : 15 ≤ R.frames ∧ 377 ≤ R.locals) (hRc : 527 ≤ R.cells ∧ 3296 ≤ R.slots) (hE : EV D cI cL tw A s H0) (hA : ∀ q : Nat, H0.size ≤ q → A q) (y0 : Nat) (y2 : Nat) (b : Nat) (pq : Nat) (cq : Nat)  (hret : ∀ (z : Int) (u : Unit) (pc : Nat) (ls : Array Slot) (H : Heap) (locs : List Loc) (cells slots : Nat), decode cL_ends pc = .ok (.ireturn, 1) → (z = 1) → va_P D vwCl [] H → va_D A [] → va_S A H0 H locs → cells ≤ 527 → slots ≤ 3296 → W p l e R s mt args below meth c H locs cells slots Q (F0 mt pc ls [.int (iI z)])) {H : Heap} {locs : List Loc} {ls : Array Slot} (hP : va_P D vwCl [(y0, .inr (1, [.ref b, .ref y2, .int (iI (0)), .int (iI (0)), .int (iI (0)), .int (iI (4))])), (y2, .inl (cI, 4, .inl (aI sC_0))), (b, .inr (0, [.ref pq, .ref cq])), (pq, .inl (cI, 16, .inl (aI sP_46))), (cq, .inl (cI, 136, .inl (aI (cnt sP_46))))] H) (hD : va_D A [(y0, .inr (1, [.ref b, .ref y2, .int (iI (0)), .int (iI (0)), .int (iI (0)), .int (iI (4))])), (y2, .inl (cI, 4, .inl (aI sC_0))), (b, .inr (0, [.ref pq, .ref cq])), (pq, .inl (cI, 16, .inl (aI sP_46))), (cq, .inl (cI, 136, .inl (aI (cnt sP_46))))]) (hS : va_S A H0 H locs) (hl : lv_has ls 8 [(1, .int (iI (6))), (7, .int (iI (4))), (6, .int (iI (1))), (5, .int (iI (14))), (4, .int (iI (1))), (3, .int (iI (0))), (2, .int (iI (1))), (0, .ref y0)]) : W p l e R s mt args below meth c H locs 101 740 Q (F0 mt 10 ls []) := by
  obtain ⟨hx, hb, hml, hown, hts⟩ := id S
  refine lv_iload_n hx hb dL_ends_10 rfl (lv_at hl 0 rfl) ?_
  refine r_bipush hx hb dL_ends_11 (by decide) ?_
  refine r_icmp_ge (tgt := 307) hx hb dL_ends_13 (by decide) (by unfold rI; decide) (by unfold rI; decide) (fun h9 => absurd h9 (by omega)) (fun h13 => ?_)
  refine lv_iload_n hx hb dL_ends_16 rfl (lv_at hl 0 rfl) ?_
  refine r_iconst hx hb dL_ends_17 ?_
  refine r_idiv hx hb dL_ends_18 (by omega) (by omega) ?_
  refine r_top (2) (by decide) ?_
  refine r_iconst hx hb dL_ends_19 ?_
  refine r_irem hx hb dL_ends_20 (by omega) (by omega) ?_
  refine r_top (2) (by decide) ?_
  refine lv_istore_n (lv' := [(2, .int (iI (2))), (1, .int (iI (6))), (7, .int (iI (4))), (6, .int (iI (1))), (5, .int (iI (14))), (4, .int (iI (1))), (3, .int (iI (0))), (0, .ref y0)]) hx hb dL_ends_21 rfl hl (by decide) rfl (fun ls hl => ?_)
  refine lv_iload_n hx hb dL_ends_22 rfl (lv_at hl 1 rfl) ?_
  refine r_bipush hx hb dL_ends_23 (by decide) ?_
  refine r_icmp_ge (tgt := 32) hx hb dL_ends_25 (by decide) (by unfold rI; decide) (by unfold rI; decide) (fun h9 => absurd h9 (by omega)) (fun h25 => ?_)
  refine r_iconst hx hb dL_ends_28 ?_
  refine lv_goto (tgt := 37) hx hb dL_ends_29 (by decide) ?_
  refine lv_istore_n (lv' := [(3, .int (iI (0))), (2, .int (iI (2))), (1, .int (iI (6))), (7, .int (iI (4))), (6, .int (iI (1))), (5, .int (iI (14))), (4, .int (iI (1))), (0, .ref y0)]) hx hb dL_ends_37 rfl hl (by decide) rfl (fun ls hl => ?_)
  refine lv_aload_n hx hb dL_ends_38 rfl (lv_at hl 7 rfl) ?_
  refine q_RO (As := []) (rest := []) S (c_X1_onTurn l D cI cL tw (y0) (y2) (b) (pq) (cq) (0) (0) (4) (0) (sP_46) (sC_0) (hb_46) (by omega) (by omega) (by omega) (by omega)) (0) (fun z h => h) gL_ends_X1_onTurn rfl rfl rfl ⟨rfl, f_X1_onTurn⟩ hR (Nat.le_of_ble_eq_true rfl) (Nat.le_of_ble_eq_true rfl) (hE.kept hS.2.1) hP [0, 1, 2, 3, 4] rfl 0 rfl rfl rfl hl.1 rfl (Nat.le_of_ble_eq_true rfl) dL_ends_39 ⟨Nat.le_trans (Nat.le_of_ble_eq_true rfl) hRc.1, Nat.le_trans (Nat.le_of_ble_eq_true rfl) hRc.2⟩ ?_
  refine lv_iload_n hx hb dL_ends_42 rfl (lv_at hl 0 rfl) ?_
  refine r_icmp_ne (tgt := 87) hx hb dL_ends_43 (by decide) (by unfold rI; decide) (by unfold rI; decide) (fun h9 => absurd h9 (by omega)) (fun h43 => ?_)
  refine lv_aload_n hx hb dL_ends_46 rfl (lv_at hl 7 rfl) ?_
  refine q_RO (As := []) (rest := []) S (c_X1_mover l D cI cL tw (y0) (y2) (b) (pq) (cq) (0) (0) (4) (0) (sP_46) (sC_0) (hb_46) (by omega) (by omega) (by omega) (by omega)) (0) (fun z h => h.trans fq_189) gL_ends_X1_mover rfl rfl rfl ⟨rfl, f_X1_mover⟩ hR (Nat.le_of_ble_eq_true rfl) (Nat.le_of_ble_eq_true rfl) (hE.kept hS.2.1) hP [0, 1, 2, 3, 4] rfl 0 rfl rfl rfl hl.1 rfl (Nat.le_of_ble_eq_true rfl) dL_ends_47 ⟨Nat.le_trans (Nat.le_of_ble_eq_true rfl) hRc.1, Nat.le_trans (Nat.le_of_ble_eq_true rfl) hRc.2⟩ ?_
  refine lv_iload_n hx hb dL_ends_50 rfl (lv_at hl 2 rfl) ?_
  refine r_bipush hx hb dL_ends_51 (by decide) ?_
  refine r_icmp_ge (tgt := 60) hx hb dL_ends_53 (by decide) (by unfold rI; decide) (by unfold rI; decide) (fun h9 => absurd h9 (by omega)) (fun h53 => ?_)
  refine r_iconst hx hb dL_ends_56 ?_
  refine lv_goto (tgt := 61) hx hb dL_ends_57 (by decide) ?_
  refine r_icmp_ne (tgt := 87) hx hb dL_ends_61 (by decide) (by unfold rI; decide) (by unfold rI; decide) (fun h9 => absurd h9 (by omega)) (fun h61 => ?_)
  refine lv_aload_n hx hb dL_ends_64 rfl (lv_at hl 7 rfl) ?_
  refine lv_iload_n hx hb dL_ends_65 rfl (lv_at hl 2 rfl) ?_
  refine r_bipush hx hb dL_ends_66 (by decide) ?_
  refine r_icmp_ge (tgt := 75) hx hb dL_ends_68 (by decide) (by unfold rI; decide) (by unfold rI; decide) (fun h9 => absurd h9 (by omega)) (fun h68 => ?_)
  refine r_iconst hx hb dL_ends_71 ?_
  refine lv_goto (tgt := 76) hx hb dL_ends_72 (by decide) ?_
  refine q_Xi (As := [.int (iI (0))]) (rest := []) S (c_X1_home l hst D cI cL tw (y0) (y2) (b) (pq) (cq) (0) (0) (4) (0) (sP_46) (sC_0) (0) (hb_46) (by omega) (by omega) (by omega) (by omega) (by omega)) (2) (fun z h => h.2.2.trans fq_190) (fun E h => by (try dsimp only at h); first | (rcases h with ⟨_, h⟩ | ⟨_, h⟩ <;> omega) | (obtain ⟨_, h⟩ := h; omega)) gL_ends_X1_home rfl rfl rfl ⟨rfl, f_X1_home⟩ hR (Nat.le_of_ble_eq_true rfl) (Nat.le_of_ble_eq_true rfl) (hE.kept hS.2.1) hP hS hA [0, 1, 2, 3, 4] rfl 0 rfl rfl rfl hl.1 rfl (Nat.le_of_ble_eq_true rfl) dL_ends_76 ⟨Nat.le_trans (Nat.le_of_ble_eq_true rfl) hRc.1, Nat.le_trans (Nat.le_of_ble_eq_true rfl) hRc.2⟩ (fun H locs hP hS => ?_)
  refine lv_iload_n hx hb dL_ends_79 rfl (lv_at hl 1 rfl) ?_
  refine r_icmp_ne (tgt := 87) hx hb dL_ends_80 (by decide) (by unfold rI; decide) (by unfold rI; decide) (fun h9 => absurd h9 (by omega)) (fun h80 => ?_)
  refine r_iconst hx hb dL_ends_83 ?_
  refine lv_goto (tgt := 88) hx hb dL_ends_84 (by decide) ?_
  refine lv_istore (lv' := [(4, .int (iI (1))), (3, .int (iI (0))), (2, .int (iI (2))), (1, .int (iI (6))), (7, .int (iI (4))), (6, .int (iI (1))), (5, .int (iI (14))), (0, .ref y0)]) hx hb dL_ends_88 hl (by decide) rfl (fun ls hl => ?_)
  refine r_bipush hx hb dL_ends_90 (by decide) ?_
  refine r_iconst hx hb dL_ends_92 ?_
  refine lv_iload_n hx hb dL_ends_93 rfl (lv_at hl 2 rfl) ?_
  refine r_ishl hx hb (z := 4) dL_ends_94 (by decide) ?_
  refine r_isub hx hb dL_ends_95 ?_
  refine r_top (11) (by decide) ?_
  refine r_iconst hx hb dL_ends_96 ?_
  refine r_iadd hx hb dL_ends_97 ?_
  refine r_top (12) (by decide) ?_
  refine lv_istore (lv' := [(5, .int (iI (12))), (4, .int (iI (1))), (3, .int (iI (0))), (2, .int (iI (2))), (1, .int (iI (6))), (7, .int (iI (4))), (6, .int (iI (1))), (0, .ref y0)]) hx hb dL_ends_98 hl (by decide) rfl (fun ls hl => ?_)
  refine lv_iload_n hx hb dL_ends_100 rfl (lv_at hl 4 rfl) ?_
  refine r_iconst hx hb dL_ends_101 ?_
  refine r_irem hx hb dL_ends_102 (by omega) (by omega) ?_
  refine r_top (0) (by decide) ?_
  refine r_if_ne (tgt := 154) hx hb dL_ends_103 (by decide) (by unfold rI; decide) (fun h9 => absurd h9 (by omega)) (fun h103 => ?_)
  refine lv_aload_n hx hb dL_ends_106 rfl (lv_at hl 7 rfl) ?_
  refine r_bipush hx hb dL_ends_107 (by decide) ?_
  refine lv_iload hx hb dL_ends_109 (lv_at hl 0 rfl) ?_
  refine lv_iload_n hx hb dL_ends_111 rfl (lv_at hl 3 rfl) ?_
  refine r_iconst hx hb dL_ends_112 ?_
  refine q_LM (As := [.ref y0, .int (iI (6)), .int (iI (12)), .int (iI (2)), .int (iI (1))]) (rest := []) (wr := []) S (c_L_goes l hst D cI cL tw (y0) (y2) (b) (pq) (cq) (0) (4) (0) (sP_46) (sC_0) (6) (12) (2) (1) (0) (1) (0) (sP_47) (sC_0) (by omega) (by omega) (by omega) (fq_192)) (1) (()) (fun z u h => ⟨h, rfl⟩) gL_ends_L_goes rfl rfl rfl f_L_goes hR (Nat.le_of_ble_eq_true rfl) (Nat.le_of_ble_eq_true rfl) (hE.kept hS.2.1) hP hD hS hA [0, 1, 2, 3, 4] [] rfl rfl (by decide) rfl (by decide) (by decide) rfl hl.1 rfl (Nat.le_of_ble_eq_true rfl) dL_ends_113 ⟨Nat.le_trans (Nat.le_of_ble_eq_true rfl) hRc.1, Nat.le_trans (Nat.le_of_ble_eq_true rfl) hRc.2⟩ (fun H locs hP hD hS => ?_)
  have hP : va_P D vwCl [(y0, .inr (1, [.ref b, .ref y2, .int (iI (0)), .int (iI (1)), .int (iI (0)), .int (iI (6))])), (y2, .inl (cI, 4, .inl (aI sC_0))), (b, .inr (0, [.ref pq, .ref cq])), (pq, .inl (cI, 16, .inl (aI sP_47))), (cq, .inl (cI, 136, .inl (aI (cnt sP_47))))] H := hP
  have hD : va_D A [(y0, .inr (1, [.ref b, .ref y2, .int (iI (0)), .int (iI (1)), .int (iI (0)), .int (iI (6))])), (y2, .inl (cI, 4, .inl (aI sC_0))), (b, .inr (0, [.ref pq, .ref cq])), (pq, .inl (cI, 16, .inl (aI sP_47))), (cq, .inl (cI, 136, .inl (aI (cnt sP_47))))] := hD
  refine r_if_eq (tgt := 150) hx hb dL_ends_116 (by decide) (by unfold rI; decide) (fun h9 => absurd h9 (by omega)) (fun h116 => ?_)
  refine lv_aload_n hx hb dL_ends_119 rfl (lv_at hl 7 rfl) ?_
  refine r_iconst hx hb dL_ends_120 ?_
  refine lv_iload hx hb dL_ends_121 (lv_at hl 0 rfl) ?_
  refine lv_iload_n hx hb dL_ends_123 rfl (lv_at hl 3 rfl) ?_
  refine r_bipush hx hb dL_ends_124 (by decide) ?_
  refine q_LM (As := [.ref y0, .int (iI (0)), .int (iI (12)), .int (iI (2)), .int (iI (26))]) (rest := []) (wr := []) S (c_L_goes l hst D cI cL tw (y0) (y2) (b) (pq) (cq) (0) (6) (1) (sP_47) (sC_0) (0) (12) (2) (26) (0) (2) (0) (sP_48) (sC_0) (by omega) (by omega) (by omega) (fq_194)) (1) (()) (fun z u h => ⟨h, rfl⟩) gL_ends_L_goes rfl rfl rfl f_L_goes hR (Nat.le_of_ble_eq_true rfl) (Nat.le_of_ble_eq_true rfl) (hE.kept hS.2.1) hP hD hS hA [0, 1, 2, 3, 4] [] rfl rfl (by decide) rfl (by decide) (by decide) rfl hl.1 rfl (Nat.le_of_ble_eq_true rfl) dL_ends_126 ⟨Nat.le_trans (Nat.le_of_ble_eq_true rfl) hRc.1, Nat.le_trans (Nat.le_of_ble_eq_true rfl) hRc.2⟩ (fun H locs hP hD hS => ?_)
  have hP : va_P D vwCl [(y0, .inr (1, [.ref b, .ref y2, .int (iI (0)), .int (iI (2)), .int (iI (0)), .int (iI (0))])), (y2, .inl (cI, 4, .inl (aI sC_0))), (b, .inr (0, [.ref pq, .ref cq])), (pq, .inl (cI, 16, .inl (aI sP_48))), (cq, .inl (cI, 136, .inl (aI (cnt sP_48))))] H := hP
  have hD : va_D A [(y0, .inr (1, [.ref b, .ref y2, .int (iI (0)), .int (iI (2)), .int (iI (0)), .int (iI (0))])), (y2, .inl (cI, 4, .inl (aI sC_0))), (b, .inr (0, [.ref pq, .ref cq])), (pq, .inl (cI, 16, .inl (aI sP_48))), (cq, .inl (cI, 136, .inl (aI (cnt sP_48))))] := hD
  refine r_if_eq (tgt := 150) hx hb dL_ends_129 (by decide) (by unfold rI; decide) (fun h9 => absurd h9 (by omega)) (fun h129 => ?_)
  refine lv_aload_n hx hb dL_ends_132 rfl (lv_at hl 7 rfl) ?_
  refine r_iconst hx hb dL_ends_133 ?_
  refine r_iconst hx hb dL_ends_134 ?_
  refine lv_iload_n hx hb dL_ends_135 rfl (lv_at hl 3 rfl) ?_
  refine r_ishl hx hb (z := 4) dL_ends_136 (by decide) ?_
  refine lv_iload_n hx hb dL_ends_137 rfl (lv_at hl 3 rfl) ?_
  refine r_bipush hx hb dL_ends_138 (by decide) ?_
  refine q_LM (As := [.ref y0, .int (iI (3)), .int (iI (4)), .int (iI (2)), .int (iI (29))]) (rest := []) (wr := []) S (c_L_goes l hst D cI cL tw (y0) (y2) (b) (pq) (cq) (0) (0) (2) (sP_48) (sC_0) (3) (4) (2) (29) (1) (0) (0) (sP_49) (sC_0) (by omega) (by omega) (by omega) (fq_196)) (1) (()) (fun z u h => ⟨h, rfl⟩) gL_ends_L_goes rfl rfl rfl f_L_goes hR (Nat.le_of_ble_eq_true rfl) (Nat.le_of_ble_eq_true rfl) (hE.kept hS.2.1) hP hD hS hA [0, 1, 2, 3, 4] [] rfl rfl (by decide) rfl (by decide) (by decide) rfl hl.1 rfl (Nat.le_of_ble_eq_true rfl) dL_ends_140 ⟨Nat.le_trans (Nat.le_of_ble_eq_true rfl) hRc.1, Nat.le_trans (Nat.le_of_ble_eq_true rfl) hRc.2⟩ (fun H locs hP hD hS => ?_)
  have hP : va_P D vwCl [(y0, .inr (1, [.ref b, .ref y2, .int (iI (1)), .int (iI (0)), .int (iI (0)), .int (iI (3))])), (y2, .inl (cI, 4, .inl (aI sC_0))), (b, .inr (0, [.ref pq, .ref cq])), (pq, .inl (cI, 16, .inl (aI sP_49))), (cq, .inl (cI, 136, .inl (aI (cnt sP_49))))] H := hP
  have hD : va_D A [(y0, .inr (1, [.ref b, .ref y2, .int (iI (1)), .int (iI (0)), .int (iI (0)), .int (iI (3))])), (y2, .inl (cI, 4, .inl (aI sC_0))), (b, .inr (0, [.ref pq, .ref cq])), (pq, .inl (cI, 16, .inl (aI sP_49))), (cq, .inl (cI, 136, .inl (aI (cnt sP_49))))] := hD
  refine r_if_eq (tgt := 150) hx hb dL_ends_143 (by decide) (by unfold rI; decide) (fun h9 => absurd h9 (by omega)) (fun h143 => ?_)
  refine r_iconst hx hb dL_ends_146 ?_
  refine lv_goto (tgt := 238) hx hb dL_ends_147 (by decide) ?_
  refine lv_istore (lv' := [(6, .int (iI (1))), (5, .int (iI (12))), (4, .int (iI (1))), (3, .int (iI (0))), (2, .int (iI (2))), (1, .int (iI (6))), (7, .int (iI (4))), (0, .ref y0)]) hx hb dL_ends_238 hl (by decide) rfl (fun ls hl => ?_)
  refine lv_iload hx hb dL_ends_240 (lv_at hl 2 rfl) ?_
  refine r_if_eq (tgt := 250) hx hb dL_ends_242 (by decide) (by unfold rI; decide) (fun h9 => absurd h9 (by omega)) (fun h242 => ?_)
  refine lv_iload hx hb dL_ends_245 (lv_at hl 0 rfl) ?_
  refine r_if_ne (tgt := 252) hx hb dL_ends_247 (by decide) (by unfold rI; decide) (fun h247 => ?_) (fun h9 => absurd h9 (by omega))
  refine lv_iload_n hx hb dL_ends_252 rfl (lv_at hl 5 rfl) ?_
  refine r_bipush hx hb dL_ends_253 (by decide) ?_
  refine r_icmp_ne (tgt := 261) hx hb dL_ends_255 (by decide) (by unfold rI; decide) (by unfold rI; decide) (fun h255 => ?_) (fun h9 => absurd h9 (by omega))
  refine r_iconst hx hb dL_ends_261 ?_
  refine lv_istore (lv' := [(7, .int (iI (1))), (6, .int (iI (1))), (5, .int (iI (12))), (4, .int (iI (1))), (3, .int (iI (0))), (2, .int (iI (2))), (1, .int (iI (6))), (0, .ref y0)]) hx hb dL_ends_262 hl (by decide) rfl (fun ls hl => ?_)
  refine lv_iload hx hb dL_ends_264 (lv_at hl 0 rfl) ?_
  refine lv_iload_n hx hb dL_ends_266 rfl (lv_at hl 6 rfl) ?_
  refine r_bipush hx hb dL_ends_267 (by decide) ?_
  refine r_icmp_ge (tgt := 276) hx hb dL_ends_269 (by decide) (by unfold rI; decide) (by unfold rI; decide) (fun h9 => absurd h9 (by omega)) (fun h269 => ?_)
  refine r_iconst hx hb dL_ends_272 ?_
  refine lv_goto (tgt := 277) hx hb dL_ends_273 (by decide) ?_
  refine r_icmp_ge (tgt := 301) hx hb dL_ends_277 (by decide) (by unfold rI; decide) (by unfold rI; decide) (fun h9 => absurd h9 (by omega)) (fun h277 => ?_)
  refine lv_aload_n hx hb dL_ends_280 rfl (lv_at hl 7 rfl) ?_
  refine lv_iload_n hx hb dL_ends_281 rfl (lv_at hl 4 rfl) ?_
  refine lv_iload hx hb dL_ends_282 (lv_at hl 0 rfl) ?_
  refine r_iadd hx hb dL_ends_284 ?_
  refine r_top (1) (by decide) ?_
  refine r_iconst hx hb dL_ends_285 ?_
  refine r_irem hx hb dL_ends_286 (by omega) (by omega) ?_
  refine r_top (1) (by decide) ?_
  refine q_LM (As := [.ref y0, .int (iI (1))]) (rest := []) (wr := []) S (c_L_loses l hst D cI cL tw (y0) (y2) (b) (pq) (cq) (1) (3) (0) (sP_49) (sC_0) (2) (hb_49) (by omega) (by omega) (by omega) (fq_197) (by omega)) (1) (()) (fun z u h => ⟨h, rfl⟩) gL_ends_L_loses rfl rfl rfl f_L_loses hR (Nat.le_of_ble_eq_true rfl) (Nat.le_of_ble_eq_true rfl) (hE.kept hS.2.1) hP hD hS hA [0, 1, 2, 3, 4] [] rfl rfl (by decide) rfl (by decide) (by decide) rfl hl.1 rfl (Nat.le_of_ble_eq_true rfl) dL_ends_287 ⟨Nat.le_trans (Nat.le_of_ble_eq_true rfl) hRc.1, Nat.le_trans (Nat.le_of_ble_eq_true rfl) hRc.2⟩ (fun H locs hP hD hS => ?_)
  have hP : va_P D vwCl [(y0, .inr (1, [.ref b, .ref y2, .int (iI (2)), .int (iI (0)), .int (iI (0)), .int (iI (3))])), (y2, .inl (cI, 4, .inl (aI sC_0))), (b, .inr (0, [.ref pq, .ref cq])), (pq, .inl (cI, 16, .inl (aI sP_49))), (cq, .inl (cI, 136, .inl (aI (cnt sP_49))))] H := hP
  have hD : va_D A [(y0, .inr (1, [.ref b, .ref y2, .int (iI (2)), .int (iI (0)), .int (iI (0)), .int (iI (3))])), (y2, .inl (cI, 4, .inl (aI sC_0))), (b, .inr (0, [.ref pq, .ref cq])), (pq, .inl (cI, 16, .inl (aI sP_49))), (cq, .inl (cI, 136, .inl (aI (cnt sP_49))))] := hD
  refine r_if_ne (tgt := 295) hx hb dL_ends_290 (by decide) (by unfold rI; decide) (fun h290 => ?_) (fun h9 => absurd h9 (by omega))
  refine lv_iinc (v := iI (2)) (lv' := [(7, .int (iI (2))), (6, .int (iI (1))), (5, .int (iI (12))), (4, .int (iI (1))), (3, .int (iI (0))), (2, .int (iI (2))), (1, .int (iI (6))), (0, .ref y0)]) hx hb dL_ends_295 hl (k := 0) rfl (by decide) (by decide) rfl (fun ls hl => ?_)
  refine lv_goto (tgt := 264) hx hb dL_ends_298 (by decide) ?_
  refine lv_iload hx hb dL_ends_264 (lv_at hl 0 rfl) ?_
  refine lv_iload_n hx hb dL_ends_266 rfl (lv_at hl 6 rfl) ?_
  refine r_bipush hx hb dL_ends_267 (by decide) ?_
  refine r_icmp_ge (tgt := 276) hx hb dL_ends_269 (by decide) (by unfold rI; decide) (by unfold rI; decide) (fun h9 => absurd h9 (by omega)) (fun h269 => ?_)
  refine r_iconst hx hb dL_ends_272 ?_
  refine lv_goto (tgt := 277) hx hb dL_ends_273 (by decide) ?_
  refine r_icmp_ge (tgt := 301) hx hb dL_ends_277 (by decide) (by unfold rI; decide) (by unfold rI; decide) (fun h9 => absurd h9 (by omega)) (fun h277 => ?_)
  refine lv_aload_n hx hb dL_ends_280 rfl (lv_at hl 7 rfl) ?_
  refine lv_iload_n hx hb dL_ends_281 rfl (lv_at hl 4 rfl) ?_
  refine lv_iload hx hb dL_ends_282 (lv_at hl 0 rfl) ?_
  refine r_iadd hx hb dL_ends_284 ?_
  refine r_top (2) (by decide) ?_
  refine r_iconst hx hb dL_ends_285 ?_
  refine r_irem hx hb dL_ends_286 (by omega) (by omega) ?_
  refine r_top (2) (by decide) ?_
  refine q_LM (As := [.ref y0, .int (iI (2))]) (rest := []) (wr := []) S (c_L_loses l hst D cI cL tw (y0) (y2) (b) (pq) (cq) (2) (3) (0) (sP_49) (sC_0) (3) (hb_49) (by omega) (by omega) (by omega) (fq_198) (by omega)) (1) (()) (fun z u h => ⟨h, rfl⟩) gL_ends_L_loses rfl rfl rfl f_L_loses hR (Nat.le_of_ble_eq_true rfl) (Nat.le_of_ble_eq_true rfl) (hE.kept hS.2.1) hP hD hS hA [0, 1, 2, 3, 4] [] rfl rfl (by decide) rfl (by decide) (by decide) rfl hl.1 rfl (Nat.le_of_ble_eq_true rfl) dL_ends_287 ⟨Nat.le_trans (Nat.le_of_ble_eq_true rfl) hRc.1, Nat.le_trans (Nat.le_of_ble_eq_true rfl) hRc.2⟩ (fun H locs hP hD hS => ?_)
  have hP : va_P D vwCl [(y0, .inr (1, [.ref b, .ref y2, .int (iI (3)), .int (iI (0)), .int (iI (0)), .int (iI (3))])), (y2, .inl (cI, 4, .inl (aI sC_0))), (b, .inr (0, [.ref pq, .ref cq])), (pq, .inl (cI, 16, .inl (aI sP_49))), (cq, .inl (cI, 136, .inl (aI (cnt sP_49))))] H := hP
  have hD : va_D A [(y0, .inr (1, [.ref b, .ref y2, .int (iI (3)), .int (iI (0)), .int (iI (0)), .int (iI (3))])), (y2, .inl (cI, 4, .inl (aI sC_0))), (b, .inr (0, [.ref pq, .ref cq])), (pq, .inl (cI, 16, .inl (aI sP_49))), (cq, .inl (cI, 136, .inl (aI (cnt sP_49))))] := hD
  refine r_if_ne (tgt := 295) hx hb dL_ends_290 (by decide) (by unfold rI; decide) (fun h290 => ?_) (fun h9 => absurd h9 (by omega))
  refine lv_iinc (v := iI (3)) (lv' := [(7, .int (iI (3))), (6, .int (iI (1))), (5, .int (iI (12))), (4, .int (iI (1))), (3, .int (iI (0))), (2, .int (iI (2))), (1, .int (iI (6))), (0, .ref y0)]) hx hb dL_ends_295 hl (k := 0) rfl (by decide) (by decide) rfl (fun ls hl => ?_)
  refine lv_goto (tgt := 264) hx hb dL_ends_298 (by decide) ?_
  refine lv_iload hx hb dL_ends_264 (lv_at hl 0 rfl) ?_
  refine lv_iload_n hx hb dL_ends_266 rfl (lv_at hl 6 rfl) ?_
  refine r_bipush hx hb dL_ends_267 (by decide) ?_
  refine r_icmp_ge (tgt := 276) hx hb dL_ends_269 (by decide) (by unfold rI; decide) (by unfold rI; decide) (fun h9 => absurd h9 (by omega)) (fun h269 => ?_)
  refine r_iconst hx hb dL_ends_272 ?_
  refine lv_goto (tgt := 277) hx hb dL_ends_273 (by decide) ?_
  refine r_icmp_ge (tgt := 301) hx hb dL_ends_277 (by decide) (by unfold rI; decide) (by unfold rI; decide) (fun h9 => absurd h9 (by omega)) (fun h277 => ?_)
  refine lv_aload_n hx hb dL_ends_280 rfl (lv_at hl 7 rfl) ?_
  refine lv_iload_n hx hb dL_ends_281 rfl (lv_at hl 4 rfl) ?_
  refine lv_iload hx hb dL_ends_282 (lv_at hl 0 rfl) ?_
  refine r_iadd hx hb dL_ends_284 ?_
  refine r_top (3) (by decide) ?_
  refine r_iconst hx hb dL_ends_285 ?_
  refine r_irem hx hb dL_ends_286 (by omega) (by omega) ?_
  refine r_top (3) (by decide) ?_
  refine q_LM (As := [.ref y0, .int (iI (3))]) (rest := []) (wr := []) S (c_L_loses l hst D cI cL tw (y0) (y2) (b) (pq) (cq) (3) (3) (0) (sP_49) (sC_0) (0) (hb_49) (by omega) (by omega) (by omega) (fq_199) (by omega)) (1) (()) (fun z u h => ⟨h, rfl⟩) gL_ends_L_loses rfl rfl rfl f_L_loses hR (Nat.le_of_ble_eq_true rfl) (Nat.le_of_ble_eq_true rfl) (hE.kept hS.2.1) hP hD hS hA [0, 1, 2, 3, 4] [] rfl rfl (by decide) rfl (by decide) (by decide) rfl hl.1 rfl (Nat.le_of_ble_eq_true rfl) dL_ends_287 ⟨Nat.le_trans (Nat.le_of_ble_eq_true rfl) hRc.1, Nat.le_trans (Nat.le_of_ble_eq_true rfl) hRc.2⟩ (fun H locs hP hD hS => ?_)
  have hP : va_P D vwCl [(y0, .inr (1, [.ref b, .ref y2, .int (iI (0)), .int (iI (0)), .int (iI (0)), .int (iI (3))])), (y2, .inl (cI, 4, .inl (aI sC_0))), (b, .inr (0, [.ref pq, .ref cq])), (pq, .inl (cI, 16, .inl (aI sP_49))), (cq, .inl (cI, 136, .inl (aI (cnt sP_49))))] H := hP
  have hD : va_D A [(y0, .inr (1, [.ref b, .ref y2, .int (iI (0)), .int (iI (0)), .int (iI (0)), .int (iI (3))])), (y2, .inl (cI, 4, .inl (aI sC_0))), (b, .inr (0, [.ref pq, .ref cq])), (pq, .inl (cI, 16, .inl (aI sP_49))), (cq, .inl (cI, 136, .inl (aI (cnt sP_49))))] := hD
  refine r_if_ne (tgt := 295) hx hb dL_ends_290 (by decide) (by unfold rI; decide) (fun h290 => ?_) (fun h9 => absurd h9 (by omega))
  refine lv_iinc (v := iI (4)) (lv' := [(7, .int (iI (4))), (6, .int (iI (1))), (5, .int (iI (12))), (4, .int (iI (1))), (3, .int (iI (0))), (2, .int (iI (2))), (1, .int (iI (6))), (0, .ref y0)]) hx hb dL_ends_295 hl (k := 0) rfl (by decide) (by decide) rfl (fun ls hl => ?_)
  refine lv_goto (tgt := 264) hx hb dL_ends_298 (by decide) ?_
  refine lv_iload hx hb dL_ends_264 (lv_at hl 0 rfl) ?_
  refine lv_iload_n hx hb dL_ends_266 rfl (lv_at hl 6 rfl) ?_
  refine r_bipush hx hb dL_ends_267 (by decide) ?_
  refine r_icmp_ge (tgt := 276) hx hb dL_ends_269 (by decide) (by unfold rI; decide) (by unfold rI; decide) (fun h9 => absurd h9 (by omega)) (fun h269 => ?_)
  refine r_iconst hx hb dL_ends_272 ?_
  refine lv_goto (tgt := 277) hx hb dL_ends_273 (by decide) ?_
  refine r_icmp_ge (tgt := 301) hx hb dL_ends_277 (by decide) (by unfold rI; decide) (by unfold rI; decide) (fun h277 => ?_) (fun h9 => absurd h9 (by omega))
  refine lv_iinc (v := iI (7)) (lv' := [(1, .int (iI (7))), (7, .int (iI (4))), (6, .int (iI (1))), (5, .int (iI (12))), (4, .int (iI (1))), (3, .int (iI (0))), (2, .int (iI (2))), (0, .ref y0)]) hx hb dL_ends_301 hl (k := 6) rfl (by decide) (by decide) rfl (fun ls hl => ?_)
  refine lv_goto (tgt := 10) hx hb dL_ends_304 (by decide) ?_
  exact sg_L_ends_8 S hst hR hRc hE hA y0 y2 b pq cq  hret hP hD hS hl
set_option maxHeartbeats 4000000 in
set_option maxRecDepth 100000 in
theorem sg_L_ends_6 {p : Program} {l : Launch} {e : Env} {R : Room} {s : State} {mt : MethodId} {args : Array Value} {below : List Frame} {meth : Method} {c : Code} {H0 : Heap} {Q : State → Prop} {A : Nat → Prop} {D : va_G} {cI cL : ClassId} {tw : Nat} (S : CallFix p mt c cL_ends 8 s args wsL_ends RL) (hst : l.stackTraces = false) (hR : 15 ≤ R.frames ∧ 377 ≤ R.locals) (hRc : 527 ≤ R.cells ∧ 3296 ≤ R.slots) (hE : EV D cI cL tw A s H0) (hA : ∀ q : Nat, H0.size ≤ q → A q) (y0 : Nat) (y2 : Nat) (b : Nat) (pq : Nat) (cq : Nat)  (hret : ∀ (z : Int) (u : Unit) (pc : Nat) (ls : Array Slot) (H : Heap) (locs : List Loc) (cells slots : Nat), decode cL_ends pc = .ok (.ireturn, 1) → (z = 1) → va_P D vwCl [] H → va_D A [] → va_S A H0 H locs → cells ≤ 527 → slots ≤ 3296 → W p l e R s mt args below meth c H locs cells slots Q (F0 mt pc ls [.int (iI z)])) {H : Heap} {locs : List Loc} {ls : Array Slot} (hP : va_P D vwCl [(y0, .inr (1, [.ref b, .ref y2, .int (iI (0)), .int (iI (0)), .int (iI (0)), .int (iI (4))])), (y2, .inl (cI, 4, .inl (aI sC_0))), (b, .inr (0, [.ref pq, .ref cq])), (pq, .inl (cI, 16, .inl (aI sP_45))), (cq, .inl (cI, 136, .inl (aI (cnt sP_45))))] H) (hD : va_D A [(y0, .inr (1, [.ref b, .ref y2, .int (iI (0)), .int (iI (0)), .int (iI (0)), .int (iI (4))])), (y2, .inl (cI, 4, .inl (aI sC_0))), (b, .inr (0, [.ref pq, .ref cq])), (pq, .inl (cI, 16, .inl (aI sP_45))), (cq, .inl (cI, 136, .inl (aI (cnt sP_45))))]) (hS : va_S A H0 H locs) (hl : lv_has ls 8 [(1, .int (iI (5))), (7, .int (iI (4))), (6, .int (iI (1))), (5, .int (iI (14))), (4, .int (iI (1))), (3, .int (iI (0))), (2, .int (iI (1))), (0, .ref y0)]) : W p l e R s mt args below meth c H locs 91 680 Q (F0 mt 10 ls []) := by
  obtain ⟨hx, hb, hml, hown, hts⟩ := id S
  refine lv_iload_n hx hb dL_ends_10 rfl (lv_at hl 0 rfl) ?_
  refine r_bipush hx hb dL_ends_11 (by decide) ?_
  refine r_icmp_ge (tgt := 307) hx hb dL_ends_13 (by decide) (by unfold rI; decide) (by unfold rI; decide) (fun h9 => absurd h9 (by omega)) (fun h13 => ?_)
  refine lv_iload_n hx hb dL_ends_16 rfl (lv_at hl 0 rfl) ?_
  refine r_iconst hx hb dL_ends_17 ?_
  refine r_idiv hx hb dL_ends_18 (by omega) (by omega) ?_
  refine r_top (1) (by decide) ?_
  refine r_iconst hx hb dL_ends_19 ?_
  refine r_irem hx hb dL_ends_20 (by omega) (by omega) ?_
  refine r_top (1) (by decide) ?_
  refine lv_istore_n (lv' := [(2, .int (iI (1))), (1, .int (iI (5))), (7, .int (iI (4))), (6, .int (iI (1))), (5, .int (iI (14))), (4, .int (iI (1))), (3, .int (iI (0))), (0, .ref y0)]) hx hb dL_ends_21 rfl hl (by decide) rfl (fun ls hl => ?_)
  refine lv_iload_n hx hb dL_ends_22 rfl (lv_at hl 1 rfl) ?_
  refine r_bipush hx hb dL_ends_23 (by decide) ?_
  refine r_icmp_ge (tgt := 32) hx hb dL_ends_25 (by decide) (by unfold rI; decide) (by unfold rI; decide) (fun h9 => absurd h9 (by omega)) (fun h25 => ?_)
  refine r_iconst hx hb dL_ends_28 ?_
  refine lv_goto (tgt := 37) hx hb dL_ends_29 (by decide) ?_
  refine lv_istore_n (lv' := [(3, .int (iI (0))), (2, .int (iI (1))), (1, .int (iI (5))), (7, .int (iI (4))), (6, .int (iI (1))), (5, .int (iI (14))), (4, .int (iI (1))), (0, .ref y0)]) hx hb dL_ends_37 rfl hl (by decide) rfl (fun ls hl => ?_)
  refine lv_aload_n hx hb dL_ends_38 rfl (lv_at hl 7 rfl) ?_
  refine q_RO (As := []) (rest := []) S (c_X1_onTurn l D cI cL tw (y0) (y2) (b) (pq) (cq) (0) (0) (4) (0) (sP_45) (sC_0) (hb_45) (by omega) (by omega) (by omega) (by omega)) (0) (fun z h => h) gL_ends_X1_onTurn rfl rfl rfl ⟨rfl, f_X1_onTurn⟩ hR (Nat.le_of_ble_eq_true rfl) (Nat.le_of_ble_eq_true rfl) (hE.kept hS.2.1) hP [0, 1, 2, 3, 4] rfl 0 rfl rfl rfl hl.1 rfl (Nat.le_of_ble_eq_true rfl) dL_ends_39 ⟨Nat.le_trans (Nat.le_of_ble_eq_true rfl) hRc.1, Nat.le_trans (Nat.le_of_ble_eq_true rfl) hRc.2⟩ ?_
  refine lv_iload_n hx hb dL_ends_42 rfl (lv_at hl 0 rfl) ?_
  refine r_icmp_ne (tgt := 87) hx hb dL_ends_43 (by decide) (by unfold rI; decide) (by unfold rI; decide) (fun h9 => absurd h9 (by omega)) (fun h43 => ?_)
  refine lv_aload_n hx hb dL_ends_46 rfl (lv_at hl 7 rfl) ?_
  refine q_RO (As := []) (rest := []) S (c_X1_mover l D cI cL tw (y0) (y2) (b) (pq) (cq) (0) (0) (4) (0) (sP_45) (sC_0) (hb_45) (by omega) (by omega) (by omega) (by omega)) (0) (fun z h => h.trans fq_181) gL_ends_X1_mover rfl rfl rfl ⟨rfl, f_X1_mover⟩ hR (Nat.le_of_ble_eq_true rfl) (Nat.le_of_ble_eq_true rfl) (hE.kept hS.2.1) hP [0, 1, 2, 3, 4] rfl 0 rfl rfl rfl hl.1 rfl (Nat.le_of_ble_eq_true rfl) dL_ends_47 ⟨Nat.le_trans (Nat.le_of_ble_eq_true rfl) hRc.1, Nat.le_trans (Nat.le_of_ble_eq_true rfl) hRc.2⟩ ?_
  refine lv_iload_n hx hb dL_ends_50 rfl (lv_at hl 2 rfl) ?_
  refine r_bipush hx hb dL_ends_51 (by decide) ?_
  refine r_icmp_ge (tgt := 60) hx hb dL_ends_53 (by decide) (by unfold rI; decide) (by unfold rI; decide) (fun h9 => absurd h9 (by omega)) (fun h53 => ?_)
  refine r_iconst hx hb dL_ends_56 ?_
  refine lv_goto (tgt := 61) hx hb dL_ends_57 (by decide) ?_
  refine r_icmp_ne (tgt := 87) hx hb dL_ends_61 (by decide) (by unfold rI; decide) (by unfold rI; decide) (fun h9 => absurd h9 (by omega)) (fun h61 => ?_)
  refine lv_aload_n hx hb dL_ends_64 rfl (lv_at hl 7 rfl) ?_
  refine lv_iload_n hx hb dL_ends_65 rfl (lv_at hl 2 rfl) ?_
  refine r_bipush hx hb dL_ends_66 (by decide) ?_
  refine r_icmp_ge (tgt := 75) hx hb dL_ends_68 (by decide) (by unfold rI; decide) (by unfold rI; decide) (fun h9 => absurd h9 (by omega)) (fun h68 => ?_)
  refine r_iconst hx hb dL_ends_71 ?_
  refine lv_goto (tgt := 76) hx hb dL_ends_72 (by decide) ?_
  refine q_Xi (As := [.int (iI (0))]) (rest := []) S (c_X1_home l hst D cI cL tw (y0) (y2) (b) (pq) (cq) (0) (0) (4) (0) (sP_45) (sC_0) (0) (hb_45) (by omega) (by omega) (by omega) (by omega) (by omega)) (1) (fun z h => h.2.2.trans fq_182) (fun E h => by (try dsimp only at h); first | (rcases h with ⟨_, h⟩ | ⟨_, h⟩ <;> omega) | (obtain ⟨_, h⟩ := h; omega)) gL_ends_X1_home rfl rfl rfl ⟨rfl, f_X1_home⟩ hR (Nat.le_of_ble_eq_true rfl) (Nat.le_of_ble_eq_true rfl) (hE.kept hS.2.1) hP hS hA [0, 1, 2, 3, 4] rfl 0 rfl rfl rfl hl.1 rfl (Nat.le_of_ble_eq_true rfl) dL_ends_76 ⟨Nat.le_trans (Nat.le_of_ble_eq_true rfl) hRc.1, Nat.le_trans (Nat.le_of_ble_eq_true rfl) hRc.2⟩ (fun H locs hP hS => ?_)
  refine lv_iload_n hx hb dL_ends_79 rfl (lv_at hl 1 rfl) ?_
  refine r_icmp_ne (tgt := 87) hx hb dL_ends_80 (by decide) (by unfold rI; decide) (by unfold rI; decide) (fun h9 => absurd h9 (by omega)) (fun h80 => ?_)
  refine r_iconst hx hb dL_ends_83 ?_
  refine lv_goto (tgt := 88) hx hb dL_ends_84 (by decide) ?_
  refine lv_istore (lv' := [(4, .int (iI (1))), (3, .int (iI (0))), (2, .int (iI (1))), (1, .int (iI (5))), (7, .int (iI (4))), (6, .int (iI (1))), (5, .int (iI (14))), (0, .ref y0)]) hx hb dL_ends_88 hl (by decide) rfl (fun ls hl => ?_)
  refine r_bipush hx hb dL_ends_90 (by decide) ?_
  refine r_iconst hx hb dL_ends_92 ?_
  refine lv_iload_n hx hb dL_ends_93 rfl (lv_at hl 2 rfl) ?_
  refine r_ishl hx hb (z := 2) dL_ends_94 (by decide) ?_
  refine r_isub hx hb dL_ends_95 ?_
  refine r_top (13) (by decide) ?_
  refine r_iconst hx hb dL_ends_96 ?_
  refine r_iadd hx hb dL_ends_97 ?_
  refine r_top (14) (by decide) ?_
  refine lv_istore (lv' := [(5, .int (iI (14))), (4, .int (iI (1))), (3, .int (iI (0))), (2, .int (iI (1))), (1, .int (iI (5))), (7, .int (iI (4))), (6, .int (iI (1))), (0, .ref y0)]) hx hb dL_ends_98 hl (by decide) rfl (fun ls hl => ?_)
  refine lv_iload_n hx hb dL_ends_100 rfl (lv_at hl 4 rfl) ?_
  refine r_iconst hx hb dL_ends_101 ?_
  refine r_irem hx hb dL_ends_102 (by omega) (by omega) ?_
  refine r_top (2) (by decide) ?_
  refine r_if_ne (tgt := 154) hx hb dL_ends_103 (by decide) (by unfold rI; decide) (fun h103 => ?_) (fun h9 => absurd h9 (by omega))
  refine lv_iload_n hx hb dL_ends_154 rfl (lv_at hl 4 rfl) ?_
  refine r_iconst hx hb dL_ends_155 ?_
  refine r_irem hx hb dL_ends_156 (by omega) (by omega) ?_
  refine r_top (2) (by decide) ?_
  refine r_iconst hx hb dL_ends_157 ?_
  refine r_icmp_ne (tgt := 209) hx hb dL_ends_158 (by decide) (by unfold rI; decide) (by unfold rI; decide) (fun h158 => ?_) (fun h9 => absurd h9 (by omega))
  refine lv_aload_n hx hb dL_ends_209 rfl (lv_at hl 7 rfl) ?_
  refine r_iconst hx hb dL_ends_210 ?_
  refine q_Xi (As := [.int (iI (2))]) (rest := []) S (c_X1_ways l hst D cI cL tw (y0) (y2) (b) (pq) (cq) (0) (0) (4) (0) (sP_45) (sC_0) (2) (hb_45) (by omega) (by omega) (by omega) (by omega) (by omega)) (15) (fun z h => h.2.2.2.trans fq_183) (fun E h => by (try dsimp only at h); first | (rcases h with ⟨_, h⟩ | ⟨_, h⟩ <;> omega) | (obtain ⟨_, h⟩ := h; omega)) gL_ends_X1_ways rfl rfl rfl ⟨rfl, f_X1_ways⟩ hR (Nat.le_of_ble_eq_true rfl) (Nat.le_of_ble_eq_true rfl) (hE.kept hS.2.1) hP hS hA [0, 1, 2, 3, 4] rfl 0 rfl rfl rfl hl.1 rfl (Nat.le_of_ble_eq_true rfl) dL_ends_211 ⟨Nat.le_trans (Nat.le_of_ble_eq_true rfl) hRc.1, Nat.le_trans (Nat.le_of_ble_eq_true rfl) hRc.2⟩ (fun H locs hP hS => ?_)
  refine r_bipush hx hb dL_ends_214 (by decide) ?_
  refine r_icmp_ne (tgt := 237) hx hb dL_ends_216 (by decide) (by unfold rI; decide) (by unfold rI; decide) (fun h9 => absurd h9 (by omega)) (fun h216 => ?_)
  refine lv_aload_n hx hb dL_ends_219 rfl (lv_at hl 7 rfl) ?_
  refine r_iconst hx hb dL_ends_220 ?_
  refine r_iconst hx hb dL_ends_221 ?_
  refine lv_iload_n hx hb dL_ends_222 rfl (lv_at hl 3 rfl) ?_
  refine r_ishl hx hb (z := 2) dL_ends_223 (by decide) ?_
  refine lv_iload_n hx hb dL_ends_224 rfl (lv_at hl 3 rfl) ?_
  refine r_bipush hx hb dL_ends_225 (by decide) ?_
  refine q_LM (As := [.ref y0, .int (iI (4)), .int (iI (2)), .int (iI (1)), .int (iI (72))]) (rest := []) (wr := []) S (c_L_goes l hst D cI cL tw (y0) (y2) (b) (pq) (cq) (0) (4) (0) (sP_45) (sC_0) (4) (2) (1) (72) (1) (0) (0) (sP_46) (sC_0) (by omega) (by omega) (by omega) (fq_185)) (1) (()) (fun z u h => ⟨h, rfl⟩) gL_ends_L_goes rfl rfl rfl f_L_goes hR (Nat.le_of_ble_eq_true rfl) (Nat.le_of_ble_eq_true rfl) (hE.kept hS.2.1) hP hD hS hA [0, 1, 2, 3, 4] [] rfl rfl (by decide) rfl (by decide) (by decide) rfl hl.1 rfl (Nat.le_of_ble_eq_true rfl) dL_ends_227 ⟨Nat.le_trans (Nat.le_of_ble_eq_true rfl) hRc.1, Nat.le_trans (Nat.le_of_ble_eq_true rfl) hRc.2⟩ (fun H locs hP hD hS => ?_)
  have hP : va_P D vwCl [(y0, .inr (1, [.ref b, .ref y2, .int (iI (1)), .int (iI (0)), .int (iI (0)), .int (iI (4))])), (y2, .inl (cI, 4, .inl (aI sC_0))), (b, .inr (0, [.ref pq, .ref cq])), (pq, .inl (cI, 16, .inl (aI sP_46))), (cq, .inl (cI, 136, .inl (aI (cnt sP_46))))] H := hP
  have hD : va_D A [(y0, .inr (1, [.ref b, .ref y2, .int (iI (1)), .int (iI (0)), .int (iI (0)), .int (iI (4))])), (y2, .inl (cI, 4, .inl (aI sC_0))), (b, .inr (0, [.ref pq, .ref cq])), (pq, .inl (cI, 16, .inl (aI sP_46))), (cq, .inl (cI, 136, .inl (aI (cnt sP_46))))] := hD
  refine r_if_eq (tgt := 237) hx hb dL_ends_230 (by decide) (by unfold rI; decide) (fun h9 => absurd h9 (by omega)) (fun h230 => ?_)
  refine r_iconst hx hb dL_ends_233 ?_
  refine lv_goto (tgt := 238) hx hb dL_ends_234 (by decide) ?_
  refine lv_istore (lv' := [(6, .int (iI (1))), (5, .int (iI (14))), (4, .int (iI (1))), (3, .int (iI (0))), (2, .int (iI (1))), (1, .int (iI (5))), (7, .int (iI (4))), (0, .ref y0)]) hx hb dL_ends_238 hl (by decide) rfl (fun ls hl => ?_)
  refine lv_iload hx hb dL_ends_240 (lv_at hl 2 rfl) ?_
  refine r_if_eq (tgt := 250) hx hb dL_ends_242 (by decide) (by unfold rI; decide) (fun h9 => absurd h9 (by omega)) (fun h242 => ?_)
  refine lv_iload hx hb dL_ends_245 (lv_at hl 0 rfl) ?_
  refine r_if_ne (tgt := 252) hx hb dL_ends_247 (by decide) (by unfold rI; decide) (fun h247 => ?_) (fun h9 => absurd h9 (by omega))
  refine lv_iload_n hx hb dL_ends_252 rfl (lv_at hl 5 rfl) ?_
  refine r_bipush hx hb dL_ends_253 (by decide) ?_
  refine r_icmp_ne (tgt := 261) hx hb dL_ends_255 (by decide) (by unfold rI; decide) (by unfold rI; decide) (fun h255 => ?_) (fun h9 => absurd h9 (by omega))
  refine r_iconst hx hb dL_ends_261 ?_
  refine lv_istore (lv' := [(7, .int (iI (1))), (6, .int (iI (1))), (5, .int (iI (14))), (4, .int (iI (1))), (3, .int (iI (0))), (2, .int (iI (1))), (1, .int (iI (5))), (0, .ref y0)]) hx hb dL_ends_262 hl (by decide) rfl (fun ls hl => ?_)
  refine lv_iload hx hb dL_ends_264 (lv_at hl 0 rfl) ?_
  refine lv_iload_n hx hb dL_ends_266 rfl (lv_at hl 6 rfl) ?_
  refine r_bipush hx hb dL_ends_267 (by decide) ?_
  refine r_icmp_ge (tgt := 276) hx hb dL_ends_269 (by decide) (by unfold rI; decide) (by unfold rI; decide) (fun h9 => absurd h9 (by omega)) (fun h269 => ?_)
  refine r_iconst hx hb dL_ends_272 ?_
  refine lv_goto (tgt := 277) hx hb dL_ends_273 (by decide) ?_
  refine r_icmp_ge (tgt := 301) hx hb dL_ends_277 (by decide) (by unfold rI; decide) (by unfold rI; decide) (fun h9 => absurd h9 (by omega)) (fun h277 => ?_)
  refine lv_aload_n hx hb dL_ends_280 rfl (lv_at hl 7 rfl) ?_
  refine lv_iload_n hx hb dL_ends_281 rfl (lv_at hl 4 rfl) ?_
  refine lv_iload hx hb dL_ends_282 (lv_at hl 0 rfl) ?_
  refine r_iadd hx hb dL_ends_284 ?_
  refine r_top (1) (by decide) ?_
  refine r_iconst hx hb dL_ends_285 ?_
  refine r_irem hx hb dL_ends_286 (by omega) (by omega) ?_
  refine r_top (1) (by decide) ?_
  refine q_LM (As := [.ref y0, .int (iI (1))]) (rest := []) (wr := []) S (c_L_loses l hst D cI cL tw (y0) (y2) (b) (pq) (cq) (1) (4) (0) (sP_46) (sC_0) (2) (hb_46) (by omega) (by omega) (by omega) (fq_186) (by omega)) (1) (()) (fun z u h => ⟨h, rfl⟩) gL_ends_L_loses rfl rfl rfl f_L_loses hR (Nat.le_of_ble_eq_true rfl) (Nat.le_of_ble_eq_true rfl) (hE.kept hS.2.1) hP hD hS hA [0, 1, 2, 3, 4] [] rfl rfl (by decide) rfl (by decide) (by decide) rfl hl.1 rfl (Nat.le_of_ble_eq_true rfl) dL_ends_287 ⟨Nat.le_trans (Nat.le_of_ble_eq_true rfl) hRc.1, Nat.le_trans (Nat.le_of_ble_eq_true rfl) hRc.2⟩ (fun H locs hP hD hS => ?_)
  have hP : va_P D vwCl [(y0, .inr (1, [.ref b, .ref y2, .int (iI (2)), .int (iI (0)), .int (iI (0)), .int (iI (4))])), (y2, .inl (cI, 4, .inl (aI sC_0))), (b, .inr (0, [.ref pq, .ref cq])), (pq, .inl (cI, 16, .inl (aI sP_46))), (cq, .inl (cI, 136, .inl (aI (cnt sP_46))))] H := hP
  have hD : va_D A [(y0, .inr (1, [.ref b, .ref y2, .int (iI (2)), .int (iI (0)), .int (iI (0)), .int (iI (4))])), (y2, .inl (cI, 4, .inl (aI sC_0))), (b, .inr (0, [.ref pq, .ref cq])), (pq, .inl (cI, 16, .inl (aI sP_46))), (cq, .inl (cI, 136, .inl (aI (cnt sP_46))))] := hD
  refine r_if_ne (tgt := 295) hx hb dL_ends_290 (by decide) (by unfold rI; decide) (fun h290 => ?_) (fun h9 => absurd h9 (by omega))
  refine lv_iinc (v := iI (2)) (lv' := [(7, .int (iI (2))), (6, .int (iI (1))), (5, .int (iI (14))), (4, .int (iI (1))), (3, .int (iI (0))), (2, .int (iI (1))), (1, .int (iI (5))), (0, .ref y0)]) hx hb dL_ends_295 hl (k := 0) rfl (by decide) (by decide) rfl (fun ls hl => ?_)
  refine lv_goto (tgt := 264) hx hb dL_ends_298 (by decide) ?_
  refine lv_iload hx hb dL_ends_264 (lv_at hl 0 rfl) ?_
  refine lv_iload_n hx hb dL_ends_266 rfl (lv_at hl 6 rfl) ?_
  refine r_bipush hx hb dL_ends_267 (by decide) ?_
  refine r_icmp_ge (tgt := 276) hx hb dL_ends_269 (by decide) (by unfold rI; decide) (by unfold rI; decide) (fun h9 => absurd h9 (by omega)) (fun h269 => ?_)
  refine r_iconst hx hb dL_ends_272 ?_
  refine lv_goto (tgt := 277) hx hb dL_ends_273 (by decide) ?_
  refine r_icmp_ge (tgt := 301) hx hb dL_ends_277 (by decide) (by unfold rI; decide) (by unfold rI; decide) (fun h9 => absurd h9 (by omega)) (fun h277 => ?_)
  refine lv_aload_n hx hb dL_ends_280 rfl (lv_at hl 7 rfl) ?_
  refine lv_iload_n hx hb dL_ends_281 rfl (lv_at hl 4 rfl) ?_
  refine lv_iload hx hb dL_ends_282 (lv_at hl 0 rfl) ?_
  refine r_iadd hx hb dL_ends_284 ?_
  refine r_top (2) (by decide) ?_
  refine r_iconst hx hb dL_ends_285 ?_
  refine r_irem hx hb dL_ends_286 (by omega) (by omega) ?_
  refine r_top (2) (by decide) ?_
  refine q_LM (As := [.ref y0, .int (iI (2))]) (rest := []) (wr := []) S (c_L_loses l hst D cI cL tw (y0) (y2) (b) (pq) (cq) (2) (4) (0) (sP_46) (sC_0) (3) (hb_46) (by omega) (by omega) (by omega) (fq_187) (by omega)) (1) (()) (fun z u h => ⟨h, rfl⟩) gL_ends_L_loses rfl rfl rfl f_L_loses hR (Nat.le_of_ble_eq_true rfl) (Nat.le_of_ble_eq_true rfl) (hE.kept hS.2.1) hP hD hS hA [0, 1, 2, 3, 4] [] rfl rfl (by decide) rfl (by decide) (by decide) rfl hl.1 rfl (Nat.le_of_ble_eq_true rfl) dL_ends_287 ⟨Nat.le_trans (Nat.le_of_ble_eq_true rfl) hRc.1, Nat.le_trans (Nat.le_of_ble_eq_true rfl) hRc.2⟩ (fun H locs hP hD hS => ?_)
  have hP : va_P D vwCl [(y0, .inr (1, [.ref b, .ref y2, .int (iI (3)), .int (iI (0)), .int (iI (0)), .int (iI (4))])), (y2, .inl (cI, 4, .inl (aI sC_0))), (b, .inr (0, [.ref pq, .ref cq])), (pq, .inl (cI, 16, .inl (aI sP_46))), (cq, .inl (cI, 136, .inl (aI (cnt sP_46))))] H := hP
  have hD : va_D A [(y0, .inr (1, [.ref b, .ref y2, .int (iI (3)), .int (iI (0)), .int (iI (0)), .int (iI (4))])), (y2, .inl (cI, 4, .inl (aI sC_0))), (b, .inr (0, [.ref pq, .ref cq])), (pq, .inl (cI, 16, .inl (aI sP_46))), (cq, .inl (cI, 136, .inl (aI (cnt sP_46))))] := hD
  refine r_if_ne (tgt := 295) hx hb dL_ends_290 (by decide) (by unfold rI; decide) (fun h290 => ?_) (fun h9 => absurd h9 (by omega))
  refine lv_iinc (v := iI (3)) (lv' := [(7, .int (iI (3))), (6, .int (iI (1))), (5, .int (iI (14))), (4, .int (iI (1))), (3, .int (iI (0))), (2, .int (iI (1))), (1, .int (iI (5))), (0, .ref y0)]) hx hb dL_ends_295 hl (k := 0) rfl (by decide) (by decide) rfl (fun ls hl => ?_)
  refine lv_goto (tgt := 264) hx hb dL_ends_298 (by decide) ?_
  refine lv_iload hx hb dL_ends_264 (lv_at hl 0 rfl) ?_
  refine lv_iload_n hx hb dL_ends_266 rfl (lv_at hl 6 rfl) ?_
  refine r_bipush hx hb dL_ends_267 (by decide) ?_
  refine r_icmp_ge (tgt := 276) hx hb dL_ends_269 (by decide) (by unfold rI; decide) (by unfold rI; decide) (fun h9 => absurd h9 (by omega)) (fun h269 => ?_)
  refine r_iconst hx hb dL_ends_272 ?_
  refine lv_goto (tgt := 277) hx hb dL_ends_273 (by decide) ?_
  refine r_icmp_ge (tgt := 301) hx hb dL_ends_277 (by decide) (by unfold rI; decide) (by unfold rI; decide) (fun h9 => absurd h9 (by omega)) (fun h277 => ?_)
  refine lv_aload_n hx hb dL_ends_280 rfl (lv_at hl 7 rfl) ?_
  refine lv_iload_n hx hb dL_ends_281 rfl (lv_at hl 4 rfl) ?_
  refine lv_iload hx hb dL_ends_282 (lv_at hl 0 rfl) ?_
  refine r_iadd hx hb dL_ends_284 ?_
  refine r_top (3) (by decide) ?_
  refine r_iconst hx hb dL_ends_285 ?_
  refine r_irem hx hb dL_ends_286 (by omega) (by omega) ?_
  refine r_top (3) (by decide) ?_
  refine q_LM (As := [.ref y0, .int (iI (3))]) (rest := []) (wr := []) S (c_L_loses l hst D cI cL tw (y0) (y2) (b) (pq) (cq) (3) (4) (0) (sP_46) (sC_0) (0) (hb_46) (by omega) (by omega) (by omega) (fq_188) (by omega)) (1) (()) (fun z u h => ⟨h, rfl⟩) gL_ends_L_loses rfl rfl rfl f_L_loses hR (Nat.le_of_ble_eq_true rfl) (Nat.le_of_ble_eq_true rfl) (hE.kept hS.2.1) hP hD hS hA [0, 1, 2, 3, 4] [] rfl rfl (by decide) rfl (by decide) (by decide) rfl hl.1 rfl (Nat.le_of_ble_eq_true rfl) dL_ends_287 ⟨Nat.le_trans (Nat.le_of_ble_eq_true rfl) hRc.1, Nat.le_trans (Nat.le_of_ble_eq_true rfl) hRc.2⟩ (fun H locs hP hD hS => ?_)
  have hP : va_P D vwCl [(y0, .inr (1, [.ref b, .ref y2, .int (iI (0)), .int (iI (0)), .int (iI (0)), .int (iI (4))])), (y2, .inl (cI, 4, .inl (aI sC_0))), (b, .inr (0, [.ref pq, .ref cq])), (pq, .inl (cI, 16, .inl (aI sP_46))), (cq, .inl (cI, 136, .inl (aI (cnt sP_46))))] H := hP
  have hD : va_D A [(y0, .inr (1, [.ref b, .ref y2, .int (iI (0)), .int (iI (0)), .int (iI (0)), .int (iI (4))])), (y2, .inl (cI, 4, .inl (aI sC_0))), (b, .inr (0, [.ref pq, .ref cq])), (pq, .inl (cI, 16, .inl (aI sP_46))), (cq, .inl (cI, 136, .inl (aI (cnt sP_46))))] := hD
  refine r_if_ne (tgt := 295) hx hb dL_ends_290 (by decide) (by unfold rI; decide) (fun h290 => ?_) (fun h9 => absurd h9 (by omega))
  refine lv_iinc (v := iI (4)) (lv' := [(7, .int (iI (4))), (6, .int (iI (1))), (5, .int (iI (14))), (4, .int (iI (1))), (3, .int (iI (0))), (2, .int (iI (1))), (1, .int (iI (5))), (0, .ref y0)]) hx hb dL_ends_295 hl (k := 0) rfl (by decide) (by decide) rfl (fun ls hl => ?_)
  refine lv_goto (tgt := 264) hx hb dL_ends_298 (by decide) ?_
  refine lv_iload hx hb dL_ends_264 (lv_at hl 0 rfl) ?_
  refine lv_iload_n hx hb dL_ends_266 rfl (lv_at hl 6 rfl) ?_
  refine r_bipush hx hb dL_ends_267 (by decide) ?_
  refine r_icmp_ge (tgt := 276) hx hb dL_ends_269 (by decide) (by unfold rI; decide) (by unfold rI; decide) (fun h9 => absurd h9 (by omega)) (fun h269 => ?_)
  refine r_iconst hx hb dL_ends_272 ?_
  refine lv_goto (tgt := 277) hx hb dL_ends_273 (by decide) ?_
  refine r_icmp_ge (tgt := 301) hx hb dL_ends_277 (by decide) (by unfold rI; decide) (by unfold rI; decide) (fun h277 => ?_) (fun h9 => absurd h9 (by omega))
  refine lv_iinc (v := iI (6)) (lv' := [(1, .int (iI (6))), (7, .int (iI (4))), (6, .int (iI (1))), (5, .int (iI (14))), (4, .int (iI (1))), (3, .int (iI (0))), (2, .int (iI (1))), (0, .ref y0)]) hx hb dL_ends_301 hl (k := 6) rfl (by decide) (by decide) rfl (fun ls hl => ?_)
  refine lv_goto (tgt := 10) hx hb dL_ends_304 (by decide) ?_
  exact sg_L_ends_7 S hst hR hRc hE hA y0 y2 b pq cq  hret hP hD hS hl
set_option maxHeartbeats 4000000 in
set_option maxRecDepth 100000 in
theorem sg_L_ends_5 {p : Program} {l : Launch} {e : Env} {R : Room} {s : State} {mt : MethodId} {args : Array Value} {below : List Frame} {meth : Method} {c : Code} {H0 : Heap} {Q : State → Prop} {A : Nat → Prop} {D : va_G} {cI cL : ClassId} {tw : Nat} (S : CallFix p mt c cL_ends 8 s args wsL_ends RL) (hst : l.stackTraces = false) (hR : 15 ≤ R.frames ∧ 377 ≤ R.locals) (hRc : 527 ≤ R.cells ∧ 3296 ≤ R.slots) (hE : EV D cI cL tw A s H0) (hA : ∀ q : Nat, H0.size ≤ q → A q) (y0 : Nat) (y2 : Nat) (b : Nat) (pq : Nat) (cq : Nat)  (hret : ∀ (z : Int) (u : Unit) (pc : Nat) (ls : Array Slot) (H : Heap) (locs : List Loc) (cells slots : Nat), decode cL_ends pc = .ok (.ireturn, 1) → (z = 1) → va_P D vwCl [] H → va_D A [] → va_S A H0 H locs → cells ≤ 527 → slots ≤ 3296 → W p l e R s mt args below meth c H locs cells slots Q (F0 mt pc ls [.int (iI z)])) {H : Heap} {locs : List Loc} {ls : Array Slot} (hP : va_P D vwCl [(y0, .inr (1, [.ref b, .ref y2, .int (iI (0)), .int (iI (0)), .int (iI (0)), .int (iI (3))])), (y2, .inl (cI, 4, .inl (aI sC_0))), (b, .inr (0, [.ref pq, .ref cq])), (pq, .inl (cI, 16, .inl (aI sP_42))), (cq, .inl (cI, 136, .inl (aI (cnt sP_42))))] H) (hD : va_D A [(y0, .inr (1, [.ref b, .ref y2, .int (iI (0)), .int (iI (0)), .int (iI (0)), .int (iI (3))])), (y2, .inl (cI, 4, .inl (aI sC_0))), (b, .inr (0, [.ref pq, .ref cq])), (pq, .inl (cI, 16, .inl (aI sP_42))), (cq, .inl (cI, 136, .inl (aI (cnt sP_42))))]) (hS : va_S A H0 H locs) (hl : lv_has ls 8 [(1, .int (iI (4))), (7, .int (iI (4))), (6, .int (iI (1))), (5, .int (iI (14))), (4, .int (iI (1))), (3, .int (iI (0))), (2, .int (iI (1))), (0, .ref y0)]) : W p l e R s mt args below meth c H locs 72 566 Q (F0 mt 10 ls []) := by
  obtain ⟨hx, hb, hml, hown, hts⟩ := id S
  refine lv_iload_n hx hb dL_ends_10 rfl (lv_at hl 0 rfl) ?_
  refine r_bipush hx hb dL_ends_11 (by decide) ?_
  refine r_icmp_ge (tgt := 307) hx hb dL_ends_13 (by decide) (by unfold rI; decide) (by unfold rI; decide) (fun h9 => absurd h9 (by omega)) (fun h13 => ?_)
  refine lv_iload_n hx hb dL_ends_16 rfl (lv_at hl 0 rfl) ?_
  refine r_iconst hx hb dL_ends_17 ?_
  refine r_idiv hx hb dL_ends_18 (by omega) (by omega) ?_
  refine r_top (1) (by decide) ?_
  refine r_iconst hx hb dL_ends_19 ?_
  refine r_irem hx hb dL_ends_20 (by omega) (by omega) ?_
  refine r_top (1) (by decide) ?_
  refine lv_istore_n (lv' := [(2, .int (iI (1))), (1, .int (iI (4))), (7, .int (iI (4))), (6, .int (iI (1))), (5, .int (iI (14))), (4, .int (iI (1))), (3, .int (iI (0))), (0, .ref y0)]) hx hb dL_ends_21 rfl hl (by decide) rfl (fun ls hl => ?_)
  refine lv_iload_n hx hb dL_ends_22 rfl (lv_at hl 1 rfl) ?_
  refine r_bipush hx hb dL_ends_23 (by decide) ?_
  refine r_icmp_ge (tgt := 32) hx hb dL_ends_25 (by decide) (by unfold rI; decide) (by unfold rI; decide) (fun h9 => absurd h9 (by omega)) (fun h25 => ?_)
  refine r_iconst hx hb dL_ends_28 ?_
  refine lv_goto (tgt := 37) hx hb dL_ends_29 (by decide) ?_
  refine lv_istore_n (lv' := [(3, .int (iI (0))), (2, .int (iI (1))), (1, .int (iI (4))), (7, .int (iI (4))), (6, .int (iI (1))), (5, .int (iI (14))), (4, .int (iI (1))), (0, .ref y0)]) hx hb dL_ends_37 rfl hl (by decide) rfl (fun ls hl => ?_)
  refine lv_aload_n hx hb dL_ends_38 rfl (lv_at hl 7 rfl) ?_
  refine q_RO (As := []) (rest := []) S (c_X1_onTurn l D cI cL tw (y0) (y2) (b) (pq) (cq) (0) (0) (3) (0) (sP_42) (sC_0) (hb_42) (by omega) (by omega) (by omega) (by omega)) (0) (fun z h => h) gL_ends_X1_onTurn rfl rfl rfl ⟨rfl, f_X1_onTurn⟩ hR (Nat.le_of_ble_eq_true rfl) (Nat.le_of_ble_eq_true rfl) (hE.kept hS.2.1) hP [0, 1, 2, 3, 4] rfl 0 rfl rfl rfl hl.1 rfl (Nat.le_of_ble_eq_true rfl) dL_ends_39 ⟨Nat.le_trans (Nat.le_of_ble_eq_true rfl) hRc.1, Nat.le_trans (Nat.le_of_ble_eq_true rfl) hRc.2⟩ ?_
  refine lv_iload_n hx hb dL_ends_42 rfl (lv_at hl 0 rfl) ?_
  refine r_icmp_ne (tgt := 87) hx hb dL_ends_43 (by decide) (by unfold rI; decide) (by unfold rI; decide) (fun h9 => absurd h9 (by omega)) (fun h43 => ?_)
  refine lv_aload_n hx hb dL_ends_46 rfl (lv_at hl 7 rfl) ?_
  refine q_RO (As := []) (rest := []) S (c_X1_mover l D cI cL tw (y0) (y2) (b) (pq) (cq) (0) (0) (3) (0) (sP_42) (sC_0) (hb_42) (by omega) (by omega) (by omega) (by omega)) (0) (fun z h => h.trans fq_170) gL_ends_X1_mover rfl rfl rfl ⟨rfl, f_X1_mover⟩ hR (Nat.le_of_ble_eq_true rfl) (Nat.le_of_ble_eq_true rfl) (hE.kept hS.2.1) hP [0, 1, 2, 3, 4] rfl 0 rfl rfl rfl hl.1 rfl (Nat.le_of_ble_eq_true rfl) dL_ends_47 ⟨Nat.le_trans (Nat.le_of_ble_eq_true rfl) hRc.1, Nat.le_trans (Nat.le_of_ble_eq_true rfl) hRc.2⟩ ?_
  refine lv_iload_n hx hb dL_ends_50 rfl (lv_at hl 2 rfl) ?_
  refine r_bipush hx hb dL_ends_51 (by decide) ?_
  refine r_icmp_ge (tgt := 60) hx hb dL_ends_53 (by decide) (by unfold rI; decide) (by unfold rI; decide) (fun h9 => absurd h9 (by omega)) (fun h53 => ?_)
  refine r_iconst hx hb dL_ends_56 ?_
  refine lv_goto (tgt := 61) hx hb dL_ends_57 (by decide) ?_
  refine r_icmp_ne (tgt := 87) hx hb dL_ends_61 (by decide) (by unfold rI; decide) (by unfold rI; decide) (fun h9 => absurd h9 (by omega)) (fun h61 => ?_)
  refine lv_aload_n hx hb dL_ends_64 rfl (lv_at hl 7 rfl) ?_
  refine lv_iload_n hx hb dL_ends_65 rfl (lv_at hl 2 rfl) ?_
  refine r_bipush hx hb dL_ends_66 (by decide) ?_
  refine r_icmp_ge (tgt := 75) hx hb dL_ends_68 (by decide) (by unfold rI; decide) (by unfold rI; decide) (fun h9 => absurd h9 (by omega)) (fun h68 => ?_)
  refine r_iconst hx hb dL_ends_71 ?_
  refine lv_goto (tgt := 76) hx hb dL_ends_72 (by decide) ?_
  refine q_Xi (As := [.int (iI (0))]) (rest := []) S (c_X1_home l hst D cI cL tw (y0) (y2) (b) (pq) (cq) (0) (0) (3) (0) (sP_42) (sC_0) (0) (hb_42) (by omega) (by omega) (by omega) (by omega) (by omega)) (1) (fun z h => h.2.2.trans fq_171) (fun E h => by (try dsimp only at h); first | (rcases h with ⟨_, h⟩ | ⟨_, h⟩ <;> omega) | (obtain ⟨_, h⟩ := h; omega)) gL_ends_X1_home rfl rfl rfl ⟨rfl, f_X1_home⟩ hR (Nat.le_of_ble_eq_true rfl) (Nat.le_of_ble_eq_true rfl) (hE.kept hS.2.1) hP hS hA [0, 1, 2, 3, 4] rfl 0 rfl rfl rfl hl.1 rfl (Nat.le_of_ble_eq_true rfl) dL_ends_76 ⟨Nat.le_trans (Nat.le_of_ble_eq_true rfl) hRc.1, Nat.le_trans (Nat.le_of_ble_eq_true rfl) hRc.2⟩ (fun H locs hP hS => ?_)
  refine lv_iload_n hx hb dL_ends_79 rfl (lv_at hl 1 rfl) ?_
  refine r_icmp_ne (tgt := 87) hx hb dL_ends_80 (by decide) (by unfold rI; decide) (by unfold rI; decide) (fun h9 => absurd h9 (by omega)) (fun h80 => ?_)
  refine r_iconst hx hb dL_ends_83 ?_
  refine lv_goto (tgt := 88) hx hb dL_ends_84 (by decide) ?_
  refine lv_istore (lv' := [(4, .int (iI (1))), (3, .int (iI (0))), (2, .int (iI (1))), (1, .int (iI (4))), (7, .int (iI (4))), (6, .int (iI (1))), (5, .int (iI (14))), (0, .ref y0)]) hx hb dL_ends_88 hl (by decide) rfl (fun ls hl => ?_)
  refine r_bipush hx hb dL_ends_90 (by decide) ?_
  refine r_iconst hx hb dL_ends_92 ?_
  refine lv_iload_n hx hb dL_ends_93 rfl (lv_at hl 2 rfl) ?_
  refine r_ishl hx hb (z := 2) dL_ends_94 (by decide) ?_
  refine r_isub hx hb dL_ends_95 ?_
  refine r_top (13) (by decide) ?_
  refine r_iconst hx hb dL_ends_96 ?_
  refine r_iadd hx hb dL_ends_97 ?_
  refine r_top (14) (by decide) ?_
  refine lv_istore (lv' := [(5, .int (iI (14))), (4, .int (iI (1))), (3, .int (iI (0))), (2, .int (iI (1))), (1, .int (iI (4))), (7, .int (iI (4))), (6, .int (iI (1))), (0, .ref y0)]) hx hb dL_ends_98 hl (by decide) rfl (fun ls hl => ?_)
  refine lv_iload_n hx hb dL_ends_100 rfl (lv_at hl 4 rfl) ?_
  refine r_iconst hx hb dL_ends_101 ?_
  refine r_irem hx hb dL_ends_102 (by omega) (by omega) ?_
  refine r_top (1) (by decide) ?_
  refine r_if_ne (tgt := 154) hx hb dL_ends_103 (by decide) (by unfold rI; decide) (fun h103 => ?_) (fun h9 => absurd h9 (by omega))
  refine lv_iload_n hx hb dL_ends_154 rfl (lv_at hl 4 rfl) ?_
  refine r_iconst hx hb dL_ends_155 ?_
  refine r_irem hx hb dL_ends_156 (by omega) (by omega) ?_
  refine r_top (1) (by decide) ?_
  refine r_iconst hx hb dL_ends_157 ?_
  refine r_icmp_ne (tgt := 209) hx hb dL_ends_158 (by decide) (by unfold rI; decide) (by unfold rI; decide) (fun h9 => absurd h9 (by omega)) (fun h158 => ?_)
  refine lv_aload_n hx hb dL_ends_161 rfl (lv_at hl 7 rfl) ?_
  refine r_iconst hx hb dL_ends_162 ?_
  refine lv_iload hx hb dL_ends_163 (lv_at hl 0 rfl) ?_
  refine lv_iload_n hx hb dL_ends_165 rfl (lv_at hl 3 rfl) ?_
  refine r_bipush hx hb dL_ends_166 (by decide) ?_
  refine q_LM (As := [.ref y0, .int (iI (0)), .int (iI (14)), .int (iI (1)), .int (iI (54))]) (rest := []) (wr := []) S (c_L_goes l hst D cI cL tw (y0) (y2) (b) (pq) (cq) (0) (3) (0) (sP_42) (sC_0) (0) (14) (1) (54) (0) (1) (0) (sP_43) (sC_0) (by omega) (by omega) (by omega) (fq_173)) (1) (()) (fun z u h => ⟨h, rfl⟩) gL_ends_L_goes rfl rfl rfl f_L_goes hR (Nat.le_of_ble_eq_true rfl) (Nat.le_of_ble_eq_true rfl) (hE.kept hS.2.1) hP hD hS hA [0, 1, 2, 3, 4] [] rfl rfl (by decide) rfl (by decide) (by decide) rfl hl.1 rfl (Nat.le_of_ble_eq_true rfl) dL_ends_168 ⟨Nat.le_trans (Nat.le_of_ble_eq_true rfl) hRc.1, Nat.le_trans (Nat.le_of_ble_eq_true rfl) hRc.2⟩ (fun H locs hP hD hS => ?_)
  have hP : va_P D vwCl [(y0, .inr (1, [.ref b, .ref y2, .int (iI (0)), .int (iI (1)), .int (iI (0)), .int (iI (0))])), (y2, .inl (cI, 4, .inl (aI sC_0))), (b, .inr (0, [.ref pq, .ref cq])), (pq, .inl (cI, 16, .inl (aI sP_43))), (cq, .inl (cI, 136, .inl (aI (cnt sP_43))))] H := hP
  have hD : va_D A [(y0, .inr (1, [.ref b, .ref y2, .int (iI (0)), .int (iI (1)), .int (iI (0)), .int (iI (0))])), (y2, .inl (cI, 4, .inl (aI sC_0))), (b, .inr (0, [.ref pq, .ref cq])), (pq, .inl (cI, 16, .inl (aI sP_43))), (cq, .inl (cI, 136, .inl (aI (cnt sP_43))))] := hD
  refine r_if_eq (tgt := 205) hx hb dL_ends_171 (by decide) (by unfold rI; decide) (fun h9 => absurd h9 (by omega)) (fun h171 => ?_)
  refine lv_aload_n hx hb dL_ends_174 rfl (lv_at hl 7 rfl) ?_
  refine r_iconst hx hb dL_ends_175 ?_
  refine lv_iload hx hb dL_ends_176 (lv_at hl 0 rfl) ?_
  refine lv_iload_n hx hb dL_ends_178 rfl (lv_at hl 3 rfl) ?_
  refine r_bipush hx hb dL_ends_179 (by decide) ?_
  refine q_LM (As := [.ref y0, .int (iI (1)), .int (iI (14)), .int (iI (1)), .int (iI (64))]) (rest := []) (wr := []) S (c_L_goes l hst D cI cL tw (y0) (y2) (b) (pq) (cq) (0) (0) (1) (sP_43) (sC_0) (1) (14) (1) (64) (0) (2) (0) (sP_44) (sC_0) (by omega) (by omega) (by omega) (fq_175)) (1) (()) (fun z u h => ⟨h, rfl⟩) gL_ends_L_goes rfl rfl rfl f_L_goes hR (Nat.le_of_ble_eq_true rfl) (Nat.le_of_ble_eq_true rfl) (hE.kept hS.2.1) hP hD hS hA [0, 1, 2, 3, 4] [] rfl rfl (by decide) rfl (by decide) (by decide) rfl hl.1 rfl (Nat.le_of_ble_eq_true rfl) dL_ends_181 ⟨Nat.le_trans (Nat.le_of_ble_eq_true rfl) hRc.1, Nat.le_trans (Nat.le_of_ble_eq_true rfl) hRc.2⟩ (fun H locs hP hD hS => ?_)
  have hP : va_P D vwCl [(y0, .inr (1, [.ref b, .ref y2, .int (iI (0)), .int (iI (2)), .int (iI (0)), .int (iI (1))])), (y2, .inl (cI, 4, .inl (aI sC_0))), (b, .inr (0, [.ref pq, .ref cq])), (pq, .inl (cI, 16, .inl (aI sP_44))), (cq, .inl (cI, 136, .inl (aI (cnt sP_44))))] H := hP
  have hD : va_D A [(y0, .inr (1, [.ref b, .ref y2, .int (iI (0)), .int (iI (2)), .int (iI (0)), .int (iI (1))])), (y2, .inl (cI, 4, .inl (aI sC_0))), (b, .inr (0, [.ref pq, .ref cq])), (pq, .inl (cI, 16, .inl (aI sP_44))), (cq, .inl (cI, 136, .inl (aI (cnt sP_44))))] := hD
  refine r_if_eq (tgt := 205) hx hb dL_ends_184 (by decide) (by unfold rI; decide) (fun h9 => absurd h9 (by omega)) (fun h184 => ?_)
  refine lv_aload_n hx hb dL_ends_187 rfl (lv_at hl 7 rfl) ?_
  refine r_iconst hx hb dL_ends_188 ?_
  refine r_iconst hx hb dL_ends_189 ?_
  refine lv_iload_n hx hb dL_ends_190 rfl (lv_at hl 3 rfl) ?_
  refine r_ishl hx hb (z := 2) dL_ends_191 (by decide) ?_
  refine lv_iload_n hx hb dL_ends_192 rfl (lv_at hl 3 rfl) ?_
  refine r_bipush hx hb dL_ends_193 (by decide) ?_
  refine q_LM (As := [.ref y0, .int (iI (4)), .int (iI (2)), .int (iI (1)), .int (iI (68))]) (rest := []) (wr := []) S (c_L_goes l hst D cI cL tw (y0) (y2) (b) (pq) (cq) (0) (1) (2) (sP_44) (sC_0) (4) (2) (1) (68) (1) (0) (0) (sP_45) (sC_0) (by omega) (by omega) (by omega) (fq_177)) (1) (()) (fun z u h => ⟨h, rfl⟩) gL_ends_L_goes rfl rfl rfl f_L_goes hR (Nat.le_of_ble_eq_true rfl) (Nat.le_of_ble_eq_true rfl) (hE.kept hS.2.1) hP hD hS hA [0, 1, 2, 3, 4] [] rfl rfl (by decide) rfl (by decide) (by decide) rfl hl.1 rfl (Nat.le_of_ble_eq_true rfl) dL_ends_195 ⟨Nat.le_trans (Nat.le_of_ble_eq_true rfl) hRc.1, Nat.le_trans (Nat.le_of_ble_eq_true rfl) hRc.2⟩ (fun H locs hP hD hS => ?_)
  have hP : va_P D vwCl [(y0, .inr (1, [.ref b, .ref y2, .int (iI (1)), .int (iI (0)), .int (iI (0)), .int (iI (4))])), (y2, .inl (cI, 4, .inl (aI sC_0))), (b, .inr (0, [.ref pq, .ref cq])), (pq, .inl (cI, 16, .inl (aI sP_45))), (cq, .inl (cI, 136, .inl (aI (cnt sP_45))))] H := hP
  have hD : va_D A [(y0, .inr (1, [.ref b, .ref y2, .int (iI (1)), .int (iI (0)), .int (iI (0)), .int (iI (4))])), (y2, .inl (cI, 4, .inl (aI sC_0))), (b, .inr (0, [.ref pq, .ref cq])), (pq, .inl (cI, 16, .inl (aI sP_45))), (cq, .inl (cI, 136, .inl (aI (cnt sP_45))))] := hD
  refine r_if_eq (tgt := 205) hx hb dL_ends_198 (by decide) (by unfold rI; decide) (fun h9 => absurd h9 (by omega)) (fun h198 => ?_)
  refine r_iconst hx hb dL_ends_201 ?_
  refine lv_goto (tgt := 238) hx hb dL_ends_202 (by decide) ?_
  refine lv_istore (lv' := [(6, .int (iI (1))), (5, .int (iI (14))), (4, .int (iI (1))), (3, .int (iI (0))), (2, .int (iI (1))), (1, .int (iI (4))), (7, .int (iI (4))), (0, .ref y0)]) hx hb dL_ends_238 hl (by decide) rfl (fun ls hl => ?_)
  refine lv_iload hx hb dL_ends_240 (lv_at hl 2 rfl) ?_
  refine r_if_eq (tgt := 250) hx hb dL_ends_242 (by decide) (by unfold rI; decide) (fun h9 => absurd h9 (by omega)) (fun h242 => ?_)
  refine lv_iload hx hb dL_ends_245 (lv_at hl 0 rfl) ?_
  refine r_if_ne (tgt := 252) hx hb dL_ends_247 (by decide) (by unfold rI; decide) (fun h247 => ?_) (fun h9 => absurd h9 (by omega))
  refine lv_iload_n hx hb dL_ends_252 rfl (lv_at hl 5 rfl) ?_
  refine r_bipush hx hb dL_ends_253 (by decide) ?_
  refine r_icmp_ne (tgt := 261) hx hb dL_ends_255 (by decide) (by unfold rI; decide) (by unfold rI; decide) (fun h255 => ?_) (fun h9 => absurd h9 (by omega))
  refine r_iconst hx hb dL_ends_261 ?_
  refine lv_istore (lv' := [(7, .int (iI (1))), (6, .int (iI (1))), (5, .int (iI (14))), (4, .int (iI (1))), (3, .int (iI (0))), (2, .int (iI (1))), (1, .int (iI (4))), (0, .ref y0)]) hx hb dL_ends_262 hl (by decide) rfl (fun ls hl => ?_)
  refine lv_iload hx hb dL_ends_264 (lv_at hl 0 rfl) ?_
  refine lv_iload_n hx hb dL_ends_266 rfl (lv_at hl 6 rfl) ?_
  refine r_bipush hx hb dL_ends_267 (by decide) ?_
  refine r_icmp_ge (tgt := 276) hx hb dL_ends_269 (by decide) (by unfold rI; decide) (by unfold rI; decide) (fun h9 => absurd h9 (by omega)) (fun h269 => ?_)
  refine r_iconst hx hb dL_ends_272 ?_
  refine lv_goto (tgt := 277) hx hb dL_ends_273 (by decide) ?_
  refine r_icmp_ge (tgt := 301) hx hb dL_ends_277 (by decide) (by unfold rI; decide) (by unfold rI; decide) (fun h9 => absurd h9 (by omega)) (fun h277 => ?_)
  refine lv_aload_n hx hb dL_ends_280 rfl (lv_at hl 7 rfl) ?_
  refine lv_iload_n hx hb dL_ends_281 rfl (lv_at hl 4 rfl) ?_
  refine lv_iload hx hb dL_ends_282 (lv_at hl 0 rfl) ?_
  refine r_iadd hx hb dL_ends_284 ?_
  refine r_top (1) (by decide) ?_
  refine r_iconst hx hb dL_ends_285 ?_
  refine r_irem hx hb dL_ends_286 (by omega) (by omega) ?_
  refine r_top (1) (by decide) ?_
  refine q_LM (As := [.ref y0, .int (iI (1))]) (rest := []) (wr := []) S (c_L_loses l hst D cI cL tw (y0) (y2) (b) (pq) (cq) (1) (4) (0) (sP_45) (sC_0) (2) (hb_45) (by omega) (by omega) (by omega) (fq_178) (by omega)) (1) (()) (fun z u h => ⟨h, rfl⟩) gL_ends_L_loses rfl rfl rfl f_L_loses hR (Nat.le_of_ble_eq_true rfl) (Nat.le_of_ble_eq_true rfl) (hE.kept hS.2.1) hP hD hS hA [0, 1, 2, 3, 4] [] rfl rfl (by decide) rfl (by decide) (by decide) rfl hl.1 rfl (Nat.le_of_ble_eq_true rfl) dL_ends_287 ⟨Nat.le_trans (Nat.le_of_ble_eq_true rfl) hRc.1, Nat.le_trans (Nat.le_of_ble_eq_true rfl) hRc.2⟩ (fun H locs hP hD hS => ?_)
  have hP : va_P D vwCl [(y0, .inr (1, [.ref b, .ref y2, .int (iI (2)), .int (iI (0)), .int (iI (0)), .int (iI (4))])), (y2, .inl (cI, 4, .inl (aI sC_0))), (b, .inr (0, [.ref pq, .ref cq])), (pq, .inl (cI, 16, .inl (aI sP_45))), (cq, .inl (cI, 136, .inl (aI (cnt sP_45))))] H := hP
  have hD : va_D A [(y0, .inr (1, [.ref b, .ref y2, .int (iI (2)), .int (iI (0)), .int (iI (0)), .int (iI (4))])), (y2, .inl (cI, 4, .inl (aI sC_0))), (b, .inr (0, [.ref pq, .ref cq])), (pq, .inl (cI, 16, .inl (aI sP_45))), (cq, .inl (cI, 136, .inl (aI (cnt sP_45))))] := hD
  refine r_if_ne (tgt := 295) hx hb dL_ends_290 (by decide) (by unfold rI; decide) (fun h290 => ?_) (fun h9 => absurd h9 (by omega))
  refine lv_iinc (v := iI (2)) (lv' := [(7, .int (iI (2))), (6, .int (iI (1))), (5, .int (iI (14))), (4, .int (iI (1))), (3, .int (iI (0))), (2, .int (iI (1))), (1, .int (iI (4))), (0, .ref y0)]) hx hb dL_ends_295 hl (k := 0) rfl (by decide) (by decide) rfl (fun ls hl => ?_)
  refine lv_goto (tgt := 264) hx hb dL_ends_298 (by decide) ?_
  refine lv_iload hx hb dL_ends_264 (lv_at hl 0 rfl) ?_
  refine lv_iload_n hx hb dL_ends_266 rfl (lv_at hl 6 rfl) ?_
  refine r_bipush hx hb dL_ends_267 (by decide) ?_
  refine r_icmp_ge (tgt := 276) hx hb dL_ends_269 (by decide) (by unfold rI; decide) (by unfold rI; decide) (fun h9 => absurd h9 (by omega)) (fun h269 => ?_)
  refine r_iconst hx hb dL_ends_272 ?_
  refine lv_goto (tgt := 277) hx hb dL_ends_273 (by decide) ?_
  refine r_icmp_ge (tgt := 301) hx hb dL_ends_277 (by decide) (by unfold rI; decide) (by unfold rI; decide) (fun h9 => absurd h9 (by omega)) (fun h277 => ?_)
  refine lv_aload_n hx hb dL_ends_280 rfl (lv_at hl 7 rfl) ?_
  refine lv_iload_n hx hb dL_ends_281 rfl (lv_at hl 4 rfl) ?_
  refine lv_iload hx hb dL_ends_282 (lv_at hl 0 rfl) ?_
  refine r_iadd hx hb dL_ends_284 ?_
  refine r_top (2) (by decide) ?_
  refine r_iconst hx hb dL_ends_285 ?_
  refine r_irem hx hb dL_ends_286 (by omega) (by omega) ?_
  refine r_top (2) (by decide) ?_
  refine q_LM (As := [.ref y0, .int (iI (2))]) (rest := []) (wr := []) S (c_L_loses l hst D cI cL tw (y0) (y2) (b) (pq) (cq) (2) (4) (0) (sP_45) (sC_0) (3) (hb_45) (by omega) (by omega) (by omega) (fq_179) (by omega)) (1) (()) (fun z u h => ⟨h, rfl⟩) gL_ends_L_loses rfl rfl rfl f_L_loses hR (Nat.le_of_ble_eq_true rfl) (Nat.le_of_ble_eq_true rfl) (hE.kept hS.2.1) hP hD hS hA [0, 1, 2, 3, 4] [] rfl rfl (by decide) rfl (by decide) (by decide) rfl hl.1 rfl (Nat.le_of_ble_eq_true rfl) dL_ends_287 ⟨Nat.le_trans (Nat.le_of_ble_eq_true rfl) hRc.1, Nat.le_trans (Nat.le_of_ble_eq_true rfl) hRc.2⟩ (fun H locs hP hD hS => ?_)
  have hP : va_P D vwCl [(y0, .inr (1, [.ref b, .ref y2, .int (iI (3)), .int (iI (0)), .int (iI (0)), .int (iI (4))])), (y2, .inl (cI, 4, .inl (aI sC_0))), (b, .inr (0, [.ref pq, .ref cq])), (pq, .inl (cI, 16, .inl (aI sP_45))), (cq, .inl (cI, 136, .inl (aI (cnt sP_45))))] H := hP
  have hD : va_D A [(y0, .inr (1, [.ref b, .ref y2, .int (iI (3)), .int (iI (0)), .int (iI (0)), .int (iI (4))])), (y2, .inl (cI, 4, .inl (aI sC_0))), (b, .inr (0, [.ref pq, .ref cq])), (pq, .inl (cI, 16, .inl (aI sP_45))), (cq, .inl (cI, 136, .inl (aI (cnt sP_45))))] := hD
  refine r_if_ne (tgt := 295) hx hb dL_ends_290 (by decide) (by unfold rI; decide) (fun h290 => ?_) (fun h9 => absurd h9 (by omega))
  refine lv_iinc (v := iI (3)) (lv' := [(7, .int (iI (3))), (6, .int (iI (1))), (5, .int (iI (14))), (4, .int (iI (1))), (3, .int (iI (0))), (2, .int (iI (1))), (1, .int (iI (4))), (0, .ref y0)]) hx hb dL_ends_295 hl (k := 0) rfl (by decide) (by decide) rfl (fun ls hl => ?_)
  refine lv_goto (tgt := 264) hx hb dL_ends_298 (by decide) ?_
  refine lv_iload hx hb dL_ends_264 (lv_at hl 0 rfl) ?_
  refine lv_iload_n hx hb dL_ends_266 rfl (lv_at hl 6 rfl) ?_
  refine r_bipush hx hb dL_ends_267 (by decide) ?_
  refine r_icmp_ge (tgt := 276) hx hb dL_ends_269 (by decide) (by unfold rI; decide) (by unfold rI; decide) (fun h9 => absurd h9 (by omega)) (fun h269 => ?_)
  refine r_iconst hx hb dL_ends_272 ?_
  refine lv_goto (tgt := 277) hx hb dL_ends_273 (by decide) ?_
  refine r_icmp_ge (tgt := 301) hx hb dL_ends_277 (by decide) (by unfold rI; decide) (by unfold rI; decide) (fun h9 => absurd h9 (by omega)) (fun h277 => ?_)
  refine lv_aload_n hx hb dL_ends_280 rfl (lv_at hl 7 rfl) ?_
  refine lv_iload_n hx hb dL_ends_281 rfl (lv_at hl 4 rfl) ?_
  refine lv_iload hx hb dL_ends_282 (lv_at hl 0 rfl) ?_
  refine r_iadd hx hb dL_ends_284 ?_
  refine r_top (3) (by decide) ?_
  refine r_iconst hx hb dL_ends_285 ?_
  refine r_irem hx hb dL_ends_286 (by omega) (by omega) ?_
  refine r_top (3) (by decide) ?_
  refine q_LM (As := [.ref y0, .int (iI (3))]) (rest := []) (wr := []) S (c_L_loses l hst D cI cL tw (y0) (y2) (b) (pq) (cq) (3) (4) (0) (sP_45) (sC_0) (0) (hb_45) (by omega) (by omega) (by omega) (fq_180) (by omega)) (1) (()) (fun z u h => ⟨h, rfl⟩) gL_ends_L_loses rfl rfl rfl f_L_loses hR (Nat.le_of_ble_eq_true rfl) (Nat.le_of_ble_eq_true rfl) (hE.kept hS.2.1) hP hD hS hA [0, 1, 2, 3, 4] [] rfl rfl (by decide) rfl (by decide) (by decide) rfl hl.1 rfl (Nat.le_of_ble_eq_true rfl) dL_ends_287 ⟨Nat.le_trans (Nat.le_of_ble_eq_true rfl) hRc.1, Nat.le_trans (Nat.le_of_ble_eq_true rfl) hRc.2⟩ (fun H locs hP hD hS => ?_)
  have hP : va_P D vwCl [(y0, .inr (1, [.ref b, .ref y2, .int (iI (0)), .int (iI (0)), .int (iI (0)), .int (iI (4))])), (y2, .inl (cI, 4, .inl (aI sC_0))), (b, .inr (0, [.ref pq, .ref cq])), (pq, .inl (cI, 16, .inl (aI sP_45))), (cq, .inl (cI, 136, .inl (aI (cnt sP_45))))] H := hP
  have hD : va_D A [(y0, .inr (1, [.ref b, .ref y2, .int (iI (0)), .int (iI (0)), .int (iI (0)), .int (iI (4))])), (y2, .inl (cI, 4, .inl (aI sC_0))), (b, .inr (0, [.ref pq, .ref cq])), (pq, .inl (cI, 16, .inl (aI sP_45))), (cq, .inl (cI, 136, .inl (aI (cnt sP_45))))] := hD
  refine r_if_ne (tgt := 295) hx hb dL_ends_290 (by decide) (by unfold rI; decide) (fun h290 => ?_) (fun h9 => absurd h9 (by omega))
  refine lv_iinc (v := iI (4)) (lv' := [(7, .int (iI (4))), (6, .int (iI (1))), (5, .int (iI (14))), (4, .int (iI (1))), (3, .int (iI (0))), (2, .int (iI (1))), (1, .int (iI (4))), (0, .ref y0)]) hx hb dL_ends_295 hl (k := 0) rfl (by decide) (by decide) rfl (fun ls hl => ?_)
  refine lv_goto (tgt := 264) hx hb dL_ends_298 (by decide) ?_
  refine lv_iload hx hb dL_ends_264 (lv_at hl 0 rfl) ?_
  refine lv_iload_n hx hb dL_ends_266 rfl (lv_at hl 6 rfl) ?_
  refine r_bipush hx hb dL_ends_267 (by decide) ?_
  refine r_icmp_ge (tgt := 276) hx hb dL_ends_269 (by decide) (by unfold rI; decide) (by unfold rI; decide) (fun h9 => absurd h9 (by omega)) (fun h269 => ?_)
  refine r_iconst hx hb dL_ends_272 ?_
  refine lv_goto (tgt := 277) hx hb dL_ends_273 (by decide) ?_
  refine r_icmp_ge (tgt := 301) hx hb dL_ends_277 (by decide) (by unfold rI; decide) (by unfold rI; decide) (fun h277 => ?_) (fun h9 => absurd h9 (by omega))
  refine lv_iinc (v := iI (5)) (lv' := [(1, .int (iI (5))), (7, .int (iI (4))), (6, .int (iI (1))), (5, .int (iI (14))), (4, .int (iI (1))), (3, .int (iI (0))), (2, .int (iI (1))), (0, .ref y0)]) hx hb dL_ends_301 hl (k := 6) rfl (by decide) (by decide) rfl (fun ls hl => ?_)
  refine lv_goto (tgt := 10) hx hb dL_ends_304 (by decide) ?_
  exact sg_L_ends_6 S hst hR hRc hE hA y0 y2 b pq cq  hret hP hD hS hl
set_option maxHeartbeats 4000000 in
set_option maxRecDepth 100000 in
theorem sg_L_ends_4 {p : Program} {l : Launch} {e : Env} {R : Room} {s : State} {mt : MethodId} {args : Array Value} {below : List Frame} {meth : Method} {c : Code} {H0 : Heap} {Q : State → Prop} {A : Nat → Prop} {D : va_G} {cI cL : ClassId} {tw : Nat} (S : CallFix p mt c cL_ends 8 s args wsL_ends RL) (hst : l.stackTraces = false) (hR : 15 ≤ R.frames ∧ 377 ≤ R.locals) (hRc : 527 ≤ R.cells ∧ 3296 ≤ R.slots) (hE : EV D cI cL tw A s H0) (hA : ∀ q : Nat, H0.size ≤ q → A q) (y0 : Nat) (y2 : Nat) (b : Nat) (pq : Nat) (cq : Nat)  (hret : ∀ (z : Int) (u : Unit) (pc : Nat) (ls : Array Slot) (H : Heap) (locs : List Loc) (cells slots : Nat), decode cL_ends pc = .ok (.ireturn, 1) → (z = 1) → va_P D vwCl [] H → va_D A [] → va_S A H0 H locs → cells ≤ 527 → slots ≤ 3296 → W p l e R s mt args below meth c H locs cells slots Q (F0 mt pc ls [.int (iI z)])) {H : Heap} {locs : List Loc} {ls : Array Slot} (hP : va_P D vwCl [(y0, .inr (1, [.ref b, .ref y2, .int (iI (0)), .int (iI (0)), .int (iI (0)), .int (iI (4))])), (y2, .inl (cI, 4, .inl (aI sC_0))), (b, .inr (0, [.ref pq, .ref cq])), (pq, .inl (cI, 16, .inl (aI sP_39))), (cq, .inl (cI, 136, .inl (aI (cnt sP_39))))] H) (hD : va_D A [(y0, .inr (1, [.ref b, .ref y2, .int (iI (0)), .int (iI (0)), .int (iI (0)), .int (iI (4))])), (y2, .inl (cI, 4, .inl (aI sC_0))), (b, .inr (0, [.ref pq, .ref cq])), (pq, .inl (cI, 16, .inl (aI sP_39))), (cq, .inl (cI, 136, .inl (aI (cnt sP_39))))]) (hS : va_S A H0 H locs) (hl : lv_has ls 8 [(1, .int (iI (3))), (7, .int (iI (4))), (6, .int (iI (1))), (5, .int (iI (15))), (4, .int (iI (1))), (3, .int (iI (0))), (2, .int (iI (0))), (0, .ref y0)]) : W p l e R s mt args below meth c H locs 53 452 Q (F0 mt 10 ls []) := by
  obtain ⟨hx, hb, hml, hown, hts⟩ := id S
  refine lv_iload_n hx hb dL_ends_10 rfl (lv_at hl 0 rfl) ?_
  refine r_bipush hx hb dL_ends_11 (by decide) ?_
  refine r_icmp_ge (tgt := 307) hx hb dL_ends_13 (by decide) (by unfold rI; decide) (by unfold rI; decide) (fun h9 => absurd h9 (by omega)) (fun h13 => ?_)
  refine lv_iload_n hx hb dL_ends_16 rfl (lv_at hl 0 rfl) ?_
  refine r_iconst hx hb dL_ends_17 ?_
  refine r_idiv hx hb dL_ends_18 (by omega) (by omega) ?_
  refine r_top (1) (by decide) ?_
  refine r_iconst hx hb dL_ends_19 ?_
  refine r_irem hx hb dL_ends_20 (by omega) (by omega) ?_
  refine r_top (1) (by decide) ?_
  refine lv_istore_n (lv' := [(2, .int (iI (1))), (1, .int (iI (3))), (7, .int (iI (4))), (6, .int (iI (1))), (5, .int (iI (15))), (4, .int (iI (1))), (3, .int (iI (0))), (0, .ref y0)]) hx hb dL_ends_21 rfl hl (by decide) rfl (fun ls hl => ?_)
  refine lv_iload_n hx hb dL_ends_22 rfl (lv_at hl 1 rfl) ?_
  refine r_bipush hx hb dL_ends_23 (by decide) ?_
  refine r_icmp_ge (tgt := 32) hx hb dL_ends_25 (by decide) (by unfold rI; decide) (by unfold rI; decide) (fun h9 => absurd h9 (by omega)) (fun h25 => ?_)
  refine r_iconst hx hb dL_ends_28 ?_
  refine lv_goto (tgt := 37) hx hb dL_ends_29 (by decide) ?_
  refine lv_istore_n (lv' := [(3, .int (iI (0))), (2, .int (iI (1))), (1, .int (iI (3))), (7, .int (iI (4))), (6, .int (iI (1))), (5, .int (iI (15))), (4, .int (iI (1))), (0, .ref y0)]) hx hb dL_ends_37 rfl hl (by decide) rfl (fun ls hl => ?_)
  refine lv_aload_n hx hb dL_ends_38 rfl (lv_at hl 7 rfl) ?_
  refine q_RO (As := []) (rest := []) S (c_X1_onTurn l D cI cL tw (y0) (y2) (b) (pq) (cq) (0) (0) (4) (0) (sP_39) (sC_0) (hb_39) (by omega) (by omega) (by omega) (by omega)) (0) (fun z h => h) gL_ends_X1_onTurn rfl rfl rfl ⟨rfl, f_X1_onTurn⟩ hR (Nat.le_of_ble_eq_true rfl) (Nat.le_of_ble_eq_true rfl) (hE.kept hS.2.1) hP [0, 1, 2, 3, 4] rfl 0 rfl rfl rfl hl.1 rfl (Nat.le_of_ble_eq_true rfl) dL_ends_39 ⟨Nat.le_trans (Nat.le_of_ble_eq_true rfl) hRc.1, Nat.le_trans (Nat.le_of_ble_eq_true rfl) hRc.2⟩ ?_
  refine lv_iload_n hx hb dL_ends_42 rfl (lv_at hl 0 rfl) ?_
  refine r_icmp_ne (tgt := 87) hx hb dL_ends_43 (by decide) (by unfold rI; decide) (by unfold rI; decide) (fun h9 => absurd h9 (by omega)) (fun h43 => ?_)
  refine lv_aload_n hx hb dL_ends_46 rfl (lv_at hl 7 rfl) ?_
  refine q_RO (As := []) (rest := []) S (c_X1_mover l D cI cL tw (y0) (y2) (b) (pq) (cq) (0) (0) (4) (0) (sP_39) (sC_0) (hb_39) (by omega) (by omega) (by omega) (by omega)) (0) (fun z h => h.trans fq_159) gL_ends_X1_mover rfl rfl rfl ⟨rfl, f_X1_mover⟩ hR (Nat.le_of_ble_eq_true rfl) (Nat.le_of_ble_eq_true rfl) (hE.kept hS.2.1) hP [0, 1, 2, 3, 4] rfl 0 rfl rfl rfl hl.1 rfl (Nat.le_of_ble_eq_true rfl) dL_ends_47 ⟨Nat.le_trans (Nat.le_of_ble_eq_true rfl) hRc.1, Nat.le_trans (Nat.le_of_ble_eq_true rfl) hRc.2⟩ ?_
  refine lv_iload_n hx hb dL_ends_50 rfl (lv_at hl 2 rfl) ?_
  refine r_bipush hx hb dL_ends_51 (by decide) ?_
  refine r_icmp_ge (tgt := 60) hx hb dL_ends_53 (by decide) (by unfold rI; decide) (by unfold rI; decide) (fun h9 => absurd h9 (by omega)) (fun h53 => ?_)
  refine r_iconst hx hb dL_ends_56 ?_
  refine lv_goto (tgt := 61) hx hb dL_ends_57 (by decide) ?_
  refine r_icmp_ne (tgt := 87) hx hb dL_ends_61 (by decide) (by unfold rI; decide) (by unfold rI; decide) (fun h9 => absurd h9 (by omega)) (fun h61 => ?_)
  refine lv_aload_n hx hb dL_ends_64 rfl (lv_at hl 7 rfl) ?_
  refine lv_iload_n hx hb dL_ends_65 rfl (lv_at hl 2 rfl) ?_
  refine r_bipush hx hb dL_ends_66 (by decide) ?_
  refine r_icmp_ge (tgt := 75) hx hb dL_ends_68 (by decide) (by unfold rI; decide) (by unfold rI; decide) (fun h9 => absurd h9 (by omega)) (fun h68 => ?_)
  refine r_iconst hx hb dL_ends_71 ?_
  refine lv_goto (tgt := 76) hx hb dL_ends_72 (by decide) ?_
  refine q_Xi (As := [.int (iI (0))]) (rest := []) S (c_X1_home l hst D cI cL tw (y0) (y2) (b) (pq) (cq) (0) (0) (4) (0) (sP_39) (sC_0) (0) (hb_39) (by omega) (by omega) (by omega) (by omega) (by omega)) (1) (fun z h => h.2.2.trans fq_160) (fun E h => by (try dsimp only at h); first | (rcases h with ⟨_, h⟩ | ⟨_, h⟩ <;> omega) | (obtain ⟨_, h⟩ := h; omega)) gL_ends_X1_home rfl rfl rfl ⟨rfl, f_X1_home⟩ hR (Nat.le_of_ble_eq_true rfl) (Nat.le_of_ble_eq_true rfl) (hE.kept hS.2.1) hP hS hA [0, 1, 2, 3, 4] rfl 0 rfl rfl rfl hl.1 rfl (Nat.le_of_ble_eq_true rfl) dL_ends_76 ⟨Nat.le_trans (Nat.le_of_ble_eq_true rfl) hRc.1, Nat.le_trans (Nat.le_of_ble_eq_true rfl) hRc.2⟩ (fun H locs hP hS => ?_)
  refine lv_iload_n hx hb dL_ends_79 rfl (lv_at hl 1 rfl) ?_
  refine r_icmp_ne (tgt := 87) hx hb dL_ends_80 (by decide) (by unfold rI; decide) (by unfold rI; decide) (fun h9 => absurd h9 (by omega)) (fun h80 => ?_)
  refine r_iconst hx hb dL_ends_83 ?_
  refine lv_goto (tgt := 88) hx hb dL_ends_84 (by decide) ?_
  refine lv_istore (lv' := [(4, .int (iI (1))), (3, .int (iI (0))), (2, .int (iI (1))), (1, .int (iI (3))), (7, .int (iI (4))), (6, .int (iI (1))), (5, .int (iI (15))), (0, .ref y0)]) hx hb dL_ends_88 hl (by decide) rfl (fun ls hl => ?_)
  refine r_bipush hx hb dL_ends_90 (by decide) ?_
  refine r_iconst hx hb dL_ends_92 ?_
  refine lv_iload_n hx hb dL_ends_93 rfl (lv_at hl 2 rfl) ?_
  refine r_ishl hx hb (z := 2) dL_ends_94 (by decide) ?_
  refine r_isub hx hb dL_ends_95 ?_
  refine r_top (13) (by decide) ?_
  refine r_iconst hx hb dL_ends_96 ?_
  refine r_iadd hx hb dL_ends_97 ?_
  refine r_top (14) (by decide) ?_
  refine lv_istore (lv' := [(5, .int (iI (14))), (4, .int (iI (1))), (3, .int (iI (0))), (2, .int (iI (1))), (1, .int (iI (3))), (7, .int (iI (4))), (6, .int (iI (1))), (0, .ref y0)]) hx hb dL_ends_98 hl (by decide) rfl (fun ls hl => ?_)
  refine lv_iload_n hx hb dL_ends_100 rfl (lv_at hl 4 rfl) ?_
  refine r_iconst hx hb dL_ends_101 ?_
  refine r_irem hx hb dL_ends_102 (by omega) (by omega) ?_
  refine r_top (0) (by decide) ?_
  refine r_if_ne (tgt := 154) hx hb dL_ends_103 (by decide) (by unfold rI; decide) (fun h9 => absurd h9 (by omega)) (fun h103 => ?_)
  refine lv_aload_n hx hb dL_ends_106 rfl (lv_at hl 7 rfl) ?_
  refine r_bipush hx hb dL_ends_107 (by decide) ?_
  refine lv_iload hx hb dL_ends_109 (lv_at hl 0 rfl) ?_
  refine lv_iload_n hx hb dL_ends_111 rfl (lv_at hl 3 rfl) ?_
  refine r_iconst hx hb dL_ends_112 ?_
  refine q_LM (As := [.ref y0, .int (iI (6)), .int (iI (14)), .int (iI (1)), .int (iI (1))]) (rest := []) (wr := []) S (c_L_goes l hst D cI cL tw (y0) (y2) (b) (pq) (cq) (0) (4) (0) (sP_39) (sC_0) (6) (14) (1) (1) (0) (1) (0) (sP_40) (sC_0) (by omega) (by omega) (by omega) (fq_162)) (1) (()) (fun z u h => ⟨h, rfl⟩) gL_ends_L_goes rfl rfl rfl f_L_goes hR (Nat.le_of_ble_eq_true rfl) (Nat.le_of_ble_eq_true rfl) (hE.kept hS.2.1) hP hD hS hA [0, 1, 2, 3, 4] [] rfl rfl (by decide) rfl (by decide) (by decide) rfl hl.1 rfl (Nat.le_of_ble_eq_true rfl) dL_ends_113 ⟨Nat.le_trans (Nat.le_of_ble_eq_true rfl) hRc.1, Nat.le_trans (Nat.le_of_ble_eq_true rfl) hRc.2⟩ (fun H locs hP hD hS => ?_)
  have hP : va_P D vwCl [(y0, .inr (1, [.ref b, .ref y2, .int (iI (0)), .int (iI (1)), .int (iI (0)), .int (iI (6))])), (y2, .inl (cI, 4, .inl (aI sC_0))), (b, .inr (0, [.ref pq, .ref cq])), (pq, .inl (cI, 16, .inl (aI sP_40))), (cq, .inl (cI, 136, .inl (aI (cnt sP_40))))] H := hP
  have hD : va_D A [(y0, .inr (1, [.ref b, .ref y2, .int (iI (0)), .int (iI (1)), .int (iI (0)), .int (iI (6))])), (y2, .inl (cI, 4, .inl (aI sC_0))), (b, .inr (0, [.ref pq, .ref cq])), (pq, .inl (cI, 16, .inl (aI sP_40))), (cq, .inl (cI, 136, .inl (aI (cnt sP_40))))] := hD
  refine r_if_eq (tgt := 150) hx hb dL_ends_116 (by decide) (by unfold rI; decide) (fun h9 => absurd h9 (by omega)) (fun h116 => ?_)
  refine lv_aload_n hx hb dL_ends_119 rfl (lv_at hl 7 rfl) ?_
  refine r_iconst hx hb dL_ends_120 ?_
  refine lv_iload hx hb dL_ends_121 (lv_at hl 0 rfl) ?_
  refine lv_iload_n hx hb dL_ends_123 rfl (lv_at hl 3 rfl) ?_
  refine r_bipush hx hb dL_ends_124 (by decide) ?_
  refine q_LM (As := [.ref y0, .int (iI (0)), .int (iI (14)), .int (iI (1)), .int (iI (26))]) (rest := []) (wr := []) S (c_L_goes l hst D cI cL tw (y0) (y2) (b) (pq) (cq) (0) (6) (1) (sP_40) (sC_0) (0) (14) (1) (26) (0) (2) (0) (sP_41) (sC_0) (by omega) (by omega) (by omega) (fq_164)) (1) (()) (fun z u h => ⟨h, rfl⟩) gL_ends_L_goes rfl rfl rfl f_L_goes hR (Nat.le_of_ble_eq_true rfl) (Nat.le_of_ble_eq_true rfl) (hE.kept hS.2.1) hP hD hS hA [0, 1, 2, 3, 4] [] rfl rfl (by decide) rfl (by decide) (by decide) rfl hl.1 rfl (Nat.le_of_ble_eq_true rfl) dL_ends_126 ⟨Nat.le_trans (Nat.le_of_ble_eq_true rfl) hRc.1, Nat.le_trans (Nat.le_of_ble_eq_true rfl) hRc.2⟩ (fun H locs hP hD hS => ?_)
  have hP : va_P D vwCl [(y0, .inr (1, [.ref b, .ref y2, .int (iI (0)), .int (iI (2)), .int (iI (0)), .int (iI (0))])), (y2, .inl (cI, 4, .inl (aI sC_0))), (b, .inr (0, [.ref pq, .ref cq])), (pq, .inl (cI, 16, .inl (aI sP_41))), (cq, .inl (cI, 136, .inl (aI (cnt sP_41))))] H := hP
  have hD : va_D A [(y0, .inr (1, [.ref b, .ref y2, .int (iI (0)), .int (iI (2)), .int (iI (0)), .int (iI (0))])), (y2, .inl (cI, 4, .inl (aI sC_0))), (b, .inr (0, [.ref pq, .ref cq])), (pq, .inl (cI, 16, .inl (aI sP_41))), (cq, .inl (cI, 136, .inl (aI (cnt sP_41))))] := hD
  refine r_if_eq (tgt := 150) hx hb dL_ends_129 (by decide) (by unfold rI; decide) (fun h9 => absurd h9 (by omega)) (fun h129 => ?_)
  refine lv_aload_n hx hb dL_ends_132 rfl (lv_at hl 7 rfl) ?_
  refine r_iconst hx hb dL_ends_133 ?_
  refine r_iconst hx hb dL_ends_134 ?_
  refine lv_iload_n hx hb dL_ends_135 rfl (lv_at hl 3 rfl) ?_
  refine r_ishl hx hb (z := 2) dL_ends_136 (by decide) ?_
  refine lv_iload_n hx hb dL_ends_137 rfl (lv_at hl 3 rfl) ?_
  refine r_bipush hx hb dL_ends_138 (by decide) ?_
  refine q_LM (As := [.ref y0, .int (iI (3)), .int (iI (2)), .int (iI (1)), .int (iI (29))]) (rest := []) (wr := []) S (c_L_goes l hst D cI cL tw (y0) (y2) (b) (pq) (cq) (0) (0) (2) (sP_41) (sC_0) (3) (2) (1) (29) (1) (0) (0) (sP_42) (sC_0) (by omega) (by omega) (by omega) (fq_166)) (1) (()) (fun z u h => ⟨h, rfl⟩) gL_ends_L_goes rfl rfl rfl f_L_goes hR (Nat.le_of_ble_eq_true rfl) (Nat.le_of_ble_eq_true rfl) (hE.kept hS.2.1) hP hD hS hA [0, 1, 2, 3, 4] [] rfl rfl (by decide) rfl (by decide) (by decide) rfl hl.1 rfl (Nat.le_of_ble_eq_true rfl) dL_ends_140 ⟨Nat.le_trans (Nat.le_of_ble_eq_true rfl) hRc.1, Nat.le_trans (Nat.le_of_ble_eq_true rfl) hRc.2⟩ (fun H locs hP hD hS => ?_)
  have hP : va_P D vwCl [(y0, .inr (1, [.ref b, .ref y2, .int (iI (1)), .int (iI (0)), .int (iI (0)), .int (iI (3))])), (y2, .inl (cI, 4, .inl (aI sC_0))), (b, .inr (0, [.ref pq, .ref cq])), (pq, .inl (cI, 16, .inl (aI sP_42))), (cq, .inl (cI, 136, .inl (aI (cnt sP_42))))] H := hP
  have hD : va_D A [(y0, .inr (1, [.ref b, .ref y2, .int (iI (1)), .int (iI (0)), .int (iI (0)), .int (iI (3))])), (y2, .inl (cI, 4, .inl (aI sC_0))), (b, .inr (0, [.ref pq, .ref cq])), (pq, .inl (cI, 16, .inl (aI sP_42))), (cq, .inl (cI, 136, .inl (aI (cnt sP_42))))] := hD
  refine r_if_eq (tgt := 150) hx hb dL_ends_143 (by decide) (by unfold rI; decide) (fun h9 => absurd h9 (by omega)) (fun h143 => ?_)
  refine r_iconst hx hb dL_ends_146 ?_
  refine lv_goto (tgt := 238) hx hb dL_ends_147 (by decide) ?_
  refine lv_istore (lv' := [(6, .int (iI (1))), (5, .int (iI (14))), (4, .int (iI (1))), (3, .int (iI (0))), (2, .int (iI (1))), (1, .int (iI (3))), (7, .int (iI (4))), (0, .ref y0)]) hx hb dL_ends_238 hl (by decide) rfl (fun ls hl => ?_)
  refine lv_iload hx hb dL_ends_240 (lv_at hl 2 rfl) ?_
  refine r_if_eq (tgt := 250) hx hb dL_ends_242 (by decide) (by unfold rI; decide) (fun h9 => absurd h9 (by omega)) (fun h242 => ?_)
  refine lv_iload hx hb dL_ends_245 (lv_at hl 0 rfl) ?_
  refine r_if_ne (tgt := 252) hx hb dL_ends_247 (by decide) (by unfold rI; decide) (fun h247 => ?_) (fun h9 => absurd h9 (by omega))
  refine lv_iload_n hx hb dL_ends_252 rfl (lv_at hl 5 rfl) ?_
  refine r_bipush hx hb dL_ends_253 (by decide) ?_
  refine r_icmp_ne (tgt := 261) hx hb dL_ends_255 (by decide) (by unfold rI; decide) (by unfold rI; decide) (fun h255 => ?_) (fun h9 => absurd h9 (by omega))
  refine r_iconst hx hb dL_ends_261 ?_
  refine lv_istore (lv' := [(7, .int (iI (1))), (6, .int (iI (1))), (5, .int (iI (14))), (4, .int (iI (1))), (3, .int (iI (0))), (2, .int (iI (1))), (1, .int (iI (3))), (0, .ref y0)]) hx hb dL_ends_262 hl (by decide) rfl (fun ls hl => ?_)
  refine lv_iload hx hb dL_ends_264 (lv_at hl 0 rfl) ?_
  refine lv_iload_n hx hb dL_ends_266 rfl (lv_at hl 6 rfl) ?_
  refine r_bipush hx hb dL_ends_267 (by decide) ?_
  refine r_icmp_ge (tgt := 276) hx hb dL_ends_269 (by decide) (by unfold rI; decide) (by unfold rI; decide) (fun h9 => absurd h9 (by omega)) (fun h269 => ?_)
  refine r_iconst hx hb dL_ends_272 ?_
  refine lv_goto (tgt := 277) hx hb dL_ends_273 (by decide) ?_
  refine r_icmp_ge (tgt := 301) hx hb dL_ends_277 (by decide) (by unfold rI; decide) (by unfold rI; decide) (fun h9 => absurd h9 (by omega)) (fun h277 => ?_)
  refine lv_aload_n hx hb dL_ends_280 rfl (lv_at hl 7 rfl) ?_
  refine lv_iload_n hx hb dL_ends_281 rfl (lv_at hl 4 rfl) ?_
  refine lv_iload hx hb dL_ends_282 (lv_at hl 0 rfl) ?_
  refine r_iadd hx hb dL_ends_284 ?_
  refine r_top (1) (by decide) ?_
  refine r_iconst hx hb dL_ends_285 ?_
  refine r_irem hx hb dL_ends_286 (by omega) (by omega) ?_
  refine r_top (1) (by decide) ?_
  refine q_LM (As := [.ref y0, .int (iI (1))]) (rest := []) (wr := []) S (c_L_loses l hst D cI cL tw (y0) (y2) (b) (pq) (cq) (1) (3) (0) (sP_42) (sC_0) (2) (hb_42) (by omega) (by omega) (by omega) (fq_167) (by omega)) (1) (()) (fun z u h => ⟨h, rfl⟩) gL_ends_L_loses rfl rfl rfl f_L_loses hR (Nat.le_of_ble_eq_true rfl) (Nat.le_of_ble_eq_true rfl) (hE.kept hS.2.1) hP hD hS hA [0, 1, 2, 3, 4] [] rfl rfl (by decide) rfl (by decide) (by decide) rfl hl.1 rfl (Nat.le_of_ble_eq_true rfl) dL_ends_287 ⟨Nat.le_trans (Nat.le_of_ble_eq_true rfl) hRc.1, Nat.le_trans (Nat.le_of_ble_eq_true rfl) hRc.2⟩ (fun H locs hP hD hS => ?_)
  have hP : va_P D vwCl [(y0, .inr (1, [.ref b, .ref y2, .int (iI (2)), .int (iI (0)), .int (iI (0)), .int (iI (3))])), (y2, .inl (cI, 4, .inl (aI sC_0))), (b, .inr (0, [.ref pq, .ref cq])), (pq, .inl (cI, 16, .inl (aI sP_42))), (cq, .inl (cI, 136, .inl (aI (cnt sP_42))))] H := hP
  have hD : va_D A [(y0, .inr (1, [.ref b, .ref y2, .int (iI (2)), .int (iI (0)), .int (iI (0)), .int (iI (3))])), (y2, .inl (cI, 4, .inl (aI sC_0))), (b, .inr (0, [.ref pq, .ref cq])), (pq, .inl (cI, 16, .inl (aI sP_42))), (cq, .inl (cI, 136, .inl (aI (cnt sP_42))))] := hD
  refine r_if_ne (tgt := 295) hx hb dL_ends_290 (by decide) (by unfold rI; decide) (fun h290 => ?_) (fun h9 => absurd h9 (by omega))
  refine lv_iinc (v := iI (2)) (lv' := [(7, .int (iI (2))), (6, .int (iI (1))), (5, .int (iI (14))), (4, .int (iI (1))), (3, .int (iI (0))), (2, .int (iI (1))), (1, .int (iI (3))), (0, .ref y0)]) hx hb dL_ends_295 hl (k := 0) rfl (by decide) (by decide) rfl (fun ls hl => ?_)
  refine lv_goto (tgt := 264) hx hb dL_ends_298 (by decide) ?_
  refine lv_iload hx hb dL_ends_264 (lv_at hl 0 rfl) ?_
  refine lv_iload_n hx hb dL_ends_266 rfl (lv_at hl 6 rfl) ?_
  refine r_bipush hx hb dL_ends_267 (by decide) ?_
  refine r_icmp_ge (tgt := 276) hx hb dL_ends_269 (by decide) (by unfold rI; decide) (by unfold rI; decide) (fun h9 => absurd h9 (by omega)) (fun h269 => ?_)
  refine r_iconst hx hb dL_ends_272 ?_
  refine lv_goto (tgt := 277) hx hb dL_ends_273 (by decide) ?_
  refine r_icmp_ge (tgt := 301) hx hb dL_ends_277 (by decide) (by unfold rI; decide) (by unfold rI; decide) (fun h9 => absurd h9 (by omega)) (fun h277 => ?_)
  refine lv_aload_n hx hb dL_ends_280 rfl (lv_at hl 7 rfl) ?_
  refine lv_iload_n hx hb dL_ends_281 rfl (lv_at hl 4 rfl) ?_
  refine lv_iload hx hb dL_ends_282 (lv_at hl 0 rfl) ?_
  refine r_iadd hx hb dL_ends_284 ?_
  refine r_top (2) (by decide) ?_
  refine r_iconst hx hb dL_ends_285 ?_
  refine r_irem hx hb dL_ends_286 (by omega) (by omega) ?_
  refine r_top (2) (by decide) ?_
  refine q_LM (As := [.ref y0, .int (iI (2))]) (rest := []) (wr := []) S (c_L_loses l hst D cI cL tw (y0) (y2) (b) (pq) (cq) (2) (3) (0) (sP_42) (sC_0) (3) (hb_42) (by omega) (by omega) (by omega) (fq_168) (by omega)) (1) (()) (fun z u h => ⟨h, rfl⟩) gL_ends_L_loses rfl rfl rfl f_L_loses hR (Nat.le_of_ble_eq_true rfl) (Nat.le_of_ble_eq_true rfl) (hE.kept hS.2.1) hP hD hS hA [0, 1, 2, 3, 4] [] rfl rfl (by decide) rfl (by decide) (by decide) rfl hl.1 rfl (Nat.le_of_ble_eq_true rfl) dL_ends_287 ⟨Nat.le_trans (Nat.le_of_ble_eq_true rfl) hRc.1, Nat.le_trans (Nat.le_of_ble_eq_true rfl) hRc.2⟩ (fun H locs hP hD hS => ?_)
  have hP : va_P D vwCl [(y0, .inr (1, [.ref b, .ref y2, .int (iI (3)), .int (iI (0)), .int (iI (0)), .int (iI (3))])), (y2, .inl (cI, 4, .inl (aI sC_0))), (b, .inr (0, [.ref pq, .ref cq])), (pq, .inl (cI, 16, .inl (aI sP_42))), (cq, .inl (cI, 136, .inl (aI (cnt sP_42))))] H := hP
  have hD : va_D A [(y0, .inr (1, [.ref b, .ref y2, .int (iI (3)), .int (iI (0)), .int (iI (0)), .int (iI (3))])), (y2, .inl (cI, 4, .inl (aI sC_0))), (b, .inr (0, [.ref pq, .ref cq])), (pq, .inl (cI, 16, .inl (aI sP_42))), (cq, .inl (cI, 136, .inl (aI (cnt sP_42))))] := hD
  refine r_if_ne (tgt := 295) hx hb dL_ends_290 (by decide) (by unfold rI; decide) (fun h290 => ?_) (fun h9 => absurd h9 (by omega))
  refine lv_iinc (v := iI (3)) (lv' := [(7, .int (iI (3))), (6, .int (iI (1))), (5, .int (iI (14))), (4, .int (iI (1))), (3, .int (iI (0))), (2, .int (iI (1))), (1, .int (iI (3))), (0, .ref y0)]) hx hb dL_ends_295 hl (k := 0) rfl (by decide) (by decide) rfl (fun ls hl => ?_)
  refine lv_goto (tgt := 264) hx hb dL_ends_298 (by decide) ?_
  refine lv_iload hx hb dL_ends_264 (lv_at hl 0 rfl) ?_
  refine lv_iload_n hx hb dL_ends_266 rfl (lv_at hl 6 rfl) ?_
  refine r_bipush hx hb dL_ends_267 (by decide) ?_
  refine r_icmp_ge (tgt := 276) hx hb dL_ends_269 (by decide) (by unfold rI; decide) (by unfold rI; decide) (fun h9 => absurd h9 (by omega)) (fun h269 => ?_)
  refine r_iconst hx hb dL_ends_272 ?_
  refine lv_goto (tgt := 277) hx hb dL_ends_273 (by decide) ?_
  refine r_icmp_ge (tgt := 301) hx hb dL_ends_277 (by decide) (by unfold rI; decide) (by unfold rI; decide) (fun h9 => absurd h9 (by omega)) (fun h277 => ?_)
  refine lv_aload_n hx hb dL_ends_280 rfl (lv_at hl 7 rfl) ?_
  refine lv_iload_n hx hb dL_ends_281 rfl (lv_at hl 4 rfl) ?_
  refine lv_iload hx hb dL_ends_282 (lv_at hl 0 rfl) ?_
  refine r_iadd hx hb dL_ends_284 ?_
  refine r_top (3) (by decide) ?_
  refine r_iconst hx hb dL_ends_285 ?_
  refine r_irem hx hb dL_ends_286 (by omega) (by omega) ?_
  refine r_top (3) (by decide) ?_
  refine q_LM (As := [.ref y0, .int (iI (3))]) (rest := []) (wr := []) S (c_L_loses l hst D cI cL tw (y0) (y2) (b) (pq) (cq) (3) (3) (0) (sP_42) (sC_0) (0) (hb_42) (by omega) (by omega) (by omega) (fq_169) (by omega)) (1) (()) (fun z u h => ⟨h, rfl⟩) gL_ends_L_loses rfl rfl rfl f_L_loses hR (Nat.le_of_ble_eq_true rfl) (Nat.le_of_ble_eq_true rfl) (hE.kept hS.2.1) hP hD hS hA [0, 1, 2, 3, 4] [] rfl rfl (by decide) rfl (by decide) (by decide) rfl hl.1 rfl (Nat.le_of_ble_eq_true rfl) dL_ends_287 ⟨Nat.le_trans (Nat.le_of_ble_eq_true rfl) hRc.1, Nat.le_trans (Nat.le_of_ble_eq_true rfl) hRc.2⟩ (fun H locs hP hD hS => ?_)
  have hP : va_P D vwCl [(y0, .inr (1, [.ref b, .ref y2, .int (iI (0)), .int (iI (0)), .int (iI (0)), .int (iI (3))])), (y2, .inl (cI, 4, .inl (aI sC_0))), (b, .inr (0, [.ref pq, .ref cq])), (pq, .inl (cI, 16, .inl (aI sP_42))), (cq, .inl (cI, 136, .inl (aI (cnt sP_42))))] H := hP
  have hD : va_D A [(y0, .inr (1, [.ref b, .ref y2, .int (iI (0)), .int (iI (0)), .int (iI (0)), .int (iI (3))])), (y2, .inl (cI, 4, .inl (aI sC_0))), (b, .inr (0, [.ref pq, .ref cq])), (pq, .inl (cI, 16, .inl (aI sP_42))), (cq, .inl (cI, 136, .inl (aI (cnt sP_42))))] := hD
  refine r_if_ne (tgt := 295) hx hb dL_ends_290 (by decide) (by unfold rI; decide) (fun h290 => ?_) (fun h9 => absurd h9 (by omega))
  refine lv_iinc (v := iI (4)) (lv' := [(7, .int (iI (4))), (6, .int (iI (1))), (5, .int (iI (14))), (4, .int (iI (1))), (3, .int (iI (0))), (2, .int (iI (1))), (1, .int (iI (3))), (0, .ref y0)]) hx hb dL_ends_295 hl (k := 0) rfl (by decide) (by decide) rfl (fun ls hl => ?_)
  refine lv_goto (tgt := 264) hx hb dL_ends_298 (by decide) ?_
  refine lv_iload hx hb dL_ends_264 (lv_at hl 0 rfl) ?_
  refine lv_iload_n hx hb dL_ends_266 rfl (lv_at hl 6 rfl) ?_
  refine r_bipush hx hb dL_ends_267 (by decide) ?_
  refine r_icmp_ge (tgt := 276) hx hb dL_ends_269 (by decide) (by unfold rI; decide) (by unfold rI; decide) (fun h9 => absurd h9 (by omega)) (fun h269 => ?_)
  refine r_iconst hx hb dL_ends_272 ?_
  refine lv_goto (tgt := 277) hx hb dL_ends_273 (by decide) ?_
  refine r_icmp_ge (tgt := 301) hx hb dL_ends_277 (by decide) (by unfold rI; decide) (by unfold rI; decide) (fun h277 => ?_) (fun h9 => absurd h9 (by omega))
  refine lv_iinc (v := iI (4)) (lv' := [(1, .int (iI (4))), (7, .int (iI (4))), (6, .int (iI (1))), (5, .int (iI (14))), (4, .int (iI (1))), (3, .int (iI (0))), (2, .int (iI (1))), (0, .ref y0)]) hx hb dL_ends_301 hl (k := 6) rfl (by decide) (by decide) rfl (fun ls hl => ?_)
  refine lv_goto (tgt := 10) hx hb dL_ends_304 (by decide) ?_
  exact sg_L_ends_5 S hst hR hRc hE hA y0 y2 b pq cq  hret hP hD hS hl
set_option maxHeartbeats 4000000 in
set_option maxRecDepth 100000 in
theorem sg_L_ends_3 {p : Program} {l : Launch} {e : Env} {R : Room} {s : State} {mt : MethodId} {args : Array Value} {below : List Frame} {meth : Method} {c : Code} {H0 : Heap} {Q : State → Prop} {A : Nat → Prop} {D : va_G} {cI cL : ClassId} {tw : Nat} (S : CallFix p mt c cL_ends 8 s args wsL_ends RL) (hst : l.stackTraces = false) (hR : 15 ≤ R.frames ∧ 377 ≤ R.locals) (hRc : 527 ≤ R.cells ∧ 3296 ≤ R.slots) (hE : EV D cI cL tw A s H0) (hA : ∀ q : Nat, H0.size ≤ q → A q) (y0 : Nat) (y2 : Nat) (b : Nat) (pq : Nat) (cq : Nat)  (hret : ∀ (z : Int) (u : Unit) (pc : Nat) (ls : Array Slot) (H : Heap) (locs : List Loc) (cells slots : Nat), decode cL_ends pc = .ok (.ireturn, 1) → (z = 1) → va_P D vwCl [] H → va_D A [] → va_S A H0 H locs → cells ≤ 527 → slots ≤ 3296 → W p l e R s mt args below meth c H locs cells slots Q (F0 mt pc ls [.int (iI z)])) {H : Heap} {locs : List Loc} {ls : Array Slot} (hP : va_P D vwCl [(y0, .inr (1, [.ref b, .ref y2, .int (iI (0)), .int (iI (0)), .int (iI (0)), .int (iI (4))])), (y2, .inl (cI, 4, .inl (aI sC_0))), (b, .inr (0, [.ref pq, .ref cq])), (pq, .inl (cI, 16, .inl (aI sP_38))), (cq, .inl (cI, 136, .inl (aI (cnt sP_38))))] H) (hD : va_D A [(y0, .inr (1, [.ref b, .ref y2, .int (iI (0)), .int (iI (0)), .int (iI (0)), .int (iI (4))])), (y2, .inl (cI, 4, .inl (aI sC_0))), (b, .inr (0, [.ref pq, .ref cq])), (pq, .inl (cI, 16, .inl (aI sP_38))), (cq, .inl (cI, 136, .inl (aI (cnt sP_38))))]) (hS : va_S A H0 H locs) (hl : lv_has ls 8 [(1, .int (iI (2))), (7, .int (iI (4))), (6, .int (iI (1))), (5, .int (iI (15))), (4, .int (iI (1))), (3, .int (iI (0))), (2, .int (iI (0))), (0, .ref y0)]) : W p l e R s mt args below meth c H locs 43 392 Q (F0 mt 10 ls []) := by
  obtain ⟨hx, hb, hml, hown, hts⟩ := id S
  refine lv_iload_n hx hb dL_ends_10 rfl (lv_at hl 0 rfl) ?_
  refine r_bipush hx hb dL_ends_11 (by decide) ?_
  refine r_icmp_ge (tgt := 307) hx hb dL_ends_13 (by decide) (by unfold rI; decide) (by unfold rI; decide) (fun h9 => absurd h9 (by omega)) (fun h13 => ?_)
  refine lv_iload_n hx hb dL_ends_16 rfl (lv_at hl 0 rfl) ?_
  refine r_iconst hx hb dL_ends_17 ?_
  refine r_idiv hx hb dL_ends_18 (by omega) (by omega) ?_
  refine r_top (0) (by decide) ?_
  refine r_iconst hx hb dL_ends_19 ?_
  refine r_irem hx hb dL_ends_20 (by omega) (by omega) ?_
  refine r_top (0) (by decide) ?_
  refine lv_istore_n (lv' := [(2, .int (iI (0))), (1, .int (iI (2))), (7, .int (iI (4))), (6, .int (iI (1))), (5, .int (iI (15))), (4, .int (iI (1))), (3, .int (iI (0))), (0, .ref y0)]) hx hb dL_ends_21 rfl hl (by decide) rfl (fun ls hl => ?_)
  refine lv_iload_n hx hb dL_ends_22 rfl (lv_at hl 1 rfl) ?_
  refine r_bipush hx hb dL_ends_23 (by decide) ?_
  refine r_icmp_ge (tgt := 32) hx hb dL_ends_25 (by decide) (by unfold rI; decide) (by unfold rI; decide) (fun h9 => absurd h9 (by omega)) (fun h25 => ?_)
  refine r_iconst hx hb dL_ends_28 ?_
  refine lv_goto (tgt := 37) hx hb dL_ends_29 (by decide) ?_
  refine lv_istore_n (lv' := [(3, .int (iI (0))), (2, .int (iI (0))), (1, .int (iI (2))), (7, .int (iI (4))), (6, .int (iI (1))), (5, .int (iI (15))), (4, .int (iI (1))), (0, .ref y0)]) hx hb dL_ends_37 rfl hl (by decide) rfl (fun ls hl => ?_)
  refine lv_aload_n hx hb dL_ends_38 rfl (lv_at hl 7 rfl) ?_
  refine q_RO (As := []) (rest := []) S (c_X1_onTurn l D cI cL tw (y0) (y2) (b) (pq) (cq) (0) (0) (4) (0) (sP_38) (sC_0) (hb_38) (by omega) (by omega) (by omega) (by omega)) (0) (fun z h => h) gL_ends_X1_onTurn rfl rfl rfl ⟨rfl, f_X1_onTurn⟩ hR (Nat.le_of_ble_eq_true rfl) (Nat.le_of_ble_eq_true rfl) (hE.kept hS.2.1) hP [0, 1, 2, 3, 4] rfl 0 rfl rfl rfl hl.1 rfl (Nat.le_of_ble_eq_true rfl) dL_ends_39 ⟨Nat.le_trans (Nat.le_of_ble_eq_true rfl) hRc.1, Nat.le_trans (Nat.le_of_ble_eq_true rfl) hRc.2⟩ ?_
  refine lv_iload_n hx hb dL_ends_42 rfl (lv_at hl 0 rfl) ?_
  refine r_icmp_ne (tgt := 87) hx hb dL_ends_43 (by decide) (by unfold rI; decide) (by unfold rI; decide) (fun h9 => absurd h9 (by omega)) (fun h43 => ?_)
  refine lv_aload_n hx hb dL_ends_46 rfl (lv_at hl 7 rfl) ?_
  refine q_RO (As := []) (rest := []) S (c_X1_mover l D cI cL tw (y0) (y2) (b) (pq) (cq) (0) (0) (4) (0) (sP_38) (sC_0) (hb_38) (by omega) (by omega) (by omega) (by omega)) (0) (fun z h => h.trans fq_151) gL_ends_X1_mover rfl rfl rfl ⟨rfl, f_X1_mover⟩ hR (Nat.le_of_ble_eq_true rfl) (Nat.le_of_ble_eq_true rfl) (hE.kept hS.2.1) hP [0, 1, 2, 3, 4] rfl 0 rfl rfl rfl hl.1 rfl (Nat.le_of_ble_eq_true rfl) dL_ends_47 ⟨Nat.le_trans (Nat.le_of_ble_eq_true rfl) hRc.1, Nat.le_trans (Nat.le_of_ble_eq_true rfl) hRc.2⟩ ?_
  refine lv_iload_n hx hb dL_ends_50 rfl (lv_at hl 2 rfl) ?_
  refine r_bipush hx hb dL_ends_51 (by decide) ?_
  refine r_icmp_ge (tgt := 60) hx hb dL_ends_53 (by decide) (by unfold rI; decide) (by unfold rI; decide) (fun h9 => absurd h9 (by omega)) (fun h53 => ?_)
  refine r_iconst hx hb dL_ends_56 ?_
  refine lv_goto (tgt := 61) hx hb dL_ends_57 (by decide) ?_
  refine r_icmp_ne (tgt := 87) hx hb dL_ends_61 (by decide) (by unfold rI; decide) (by unfold rI; decide) (fun h9 => absurd h9 (by omega)) (fun h61 => ?_)
  refine lv_aload_n hx hb dL_ends_64 rfl (lv_at hl 7 rfl) ?_
  refine lv_iload_n hx hb dL_ends_65 rfl (lv_at hl 2 rfl) ?_
  refine r_bipush hx hb dL_ends_66 (by decide) ?_
  refine r_icmp_ge (tgt := 75) hx hb dL_ends_68 (by decide) (by unfold rI; decide) (by unfold rI; decide) (fun h9 => absurd h9 (by omega)) (fun h68 => ?_)
  refine r_iconst hx hb dL_ends_71 ?_
  refine lv_goto (tgt := 76) hx hb dL_ends_72 (by decide) ?_
  refine q_Xi (As := [.int (iI (0))]) (rest := []) S (c_X1_home l hst D cI cL tw (y0) (y2) (b) (pq) (cq) (0) (0) (4) (0) (sP_38) (sC_0) (0) (hb_38) (by omega) (by omega) (by omega) (by omega) (by omega)) (0) (fun z h => h.2.2.trans fq_152) (fun E h => by (try dsimp only at h); first | (rcases h with ⟨_, h⟩ | ⟨_, h⟩ <;> omega) | (obtain ⟨_, h⟩ := h; omega)) gL_ends_X1_home rfl rfl rfl ⟨rfl, f_X1_home⟩ hR (Nat.le_of_ble_eq_true rfl) (Nat.le_of_ble_eq_true rfl) (hE.kept hS.2.1) hP hS hA [0, 1, 2, 3, 4] rfl 0 rfl rfl rfl hl.1 rfl (Nat.le_of_ble_eq_true rfl) dL_ends_76 ⟨Nat.le_trans (Nat.le_of_ble_eq_true rfl) hRc.1, Nat.le_trans (Nat.le_of_ble_eq_true rfl) hRc.2⟩ (fun H locs hP hS => ?_)
  refine lv_iload_n hx hb dL_ends_79 rfl (lv_at hl 1 rfl) ?_
  refine r_icmp_ne (tgt := 87) hx hb dL_ends_80 (by decide) (by unfold rI; decide) (by unfold rI; decide) (fun h9 => absurd h9 (by omega)) (fun h80 => ?_)
  refine r_iconst hx hb dL_ends_83 ?_
  refine lv_goto (tgt := 88) hx hb dL_ends_84 (by decide) ?_
  refine lv_istore (lv' := [(4, .int (iI (1))), (3, .int (iI (0))), (2, .int (iI (0))), (1, .int (iI (2))), (7, .int (iI (4))), (6, .int (iI (1))), (5, .int (iI (15))), (0, .ref y0)]) hx hb dL_ends_88 hl (by decide) rfl (fun ls hl => ?_)
  refine r_bipush hx hb dL_ends_90 (by decide) ?_
  refine r_iconst hx hb dL_ends_92 ?_
  refine lv_iload_n hx hb dL_ends_93 rfl (lv_at hl 2 rfl) ?_
  refine r_ishl hx hb (z := 1) dL_ends_94 (by decide) ?_
  refine r_isub hx hb dL_ends_95 ?_
  refine r_top (14) (by decide) ?_
  refine r_iconst hx hb dL_ends_96 ?_
  refine r_iadd hx hb dL_ends_97 ?_
  refine r_top (15) (by decide) ?_
  refine lv_istore (lv' := [(5, .int (iI (15))), (4, .int (iI (1))), (3, .int (iI (0))), (2, .int (iI (0))), (1, .int (iI (2))), (7, .int (iI (4))), (6, .int (iI (1))), (0, .ref y0)]) hx hb dL_ends_98 hl (by decide) rfl (fun ls hl => ?_)
  refine lv_iload_n hx hb dL_ends_100 rfl (lv_at hl 4 rfl) ?_
  refine r_iconst hx hb dL_ends_101 ?_
  refine r_irem hx hb dL_ends_102 (by omega) (by omega) ?_
  refine r_top (2) (by decide) ?_
  refine r_if_ne (tgt := 154) hx hb dL_ends_103 (by decide) (by unfold rI; decide) (fun h103 => ?_) (fun h9 => absurd h9 (by omega))
  refine lv_iload_n hx hb dL_ends_154 rfl (lv_at hl 4 rfl) ?_
  refine r_iconst hx hb dL_ends_155 ?_
  refine r_irem hx hb dL_ends_156 (by omega) (by omega) ?_
  refine r_top (2) (by decide) ?_
  refine r_iconst hx hb dL_ends_157 ?_
  refine r_icmp_ne (tgt := 209) hx hb dL_ends_158 (by decide) (by unfold rI; decide) (by unfold rI; decide) (fun h158 => ?_) (fun h9 => absurd h9 (by omega))
  refine lv_aload_n hx hb dL_ends_209 rfl (lv_at hl 7 rfl) ?_
  refine r_iconst hx hb dL_ends_210 ?_
  refine q_Xi (As := [.int (iI (2))]) (rest := []) S (c_X1_ways l hst D cI cL tw (y0) (y2) (b) (pq) (cq) (0) (0) (4) (0) (sP_38) (sC_0) (2) (hb_38) (by omega) (by omega) (by omega) (by omega) (by omega)) (15) (fun z h => h.2.2.2.trans fq_153) (fun E h => by (try dsimp only at h); first | (rcases h with ⟨_, h⟩ | ⟨_, h⟩ <;> omega) | (obtain ⟨_, h⟩ := h; omega)) gL_ends_X1_ways rfl rfl rfl ⟨rfl, f_X1_ways⟩ hR (Nat.le_of_ble_eq_true rfl) (Nat.le_of_ble_eq_true rfl) (hE.kept hS.2.1) hP hS hA [0, 1, 2, 3, 4] rfl 0 rfl rfl rfl hl.1 rfl (Nat.le_of_ble_eq_true rfl) dL_ends_211 ⟨Nat.le_trans (Nat.le_of_ble_eq_true rfl) hRc.1, Nat.le_trans (Nat.le_of_ble_eq_true rfl) hRc.2⟩ (fun H locs hP hS => ?_)
  refine r_bipush hx hb dL_ends_214 (by decide) ?_
  refine r_icmp_ne (tgt := 237) hx hb dL_ends_216 (by decide) (by unfold rI; decide) (by unfold rI; decide) (fun h9 => absurd h9 (by omega)) (fun h216 => ?_)
  refine lv_aload_n hx hb dL_ends_219 rfl (lv_at hl 7 rfl) ?_
  refine r_iconst hx hb dL_ends_220 ?_
  refine r_iconst hx hb dL_ends_221 ?_
  refine lv_iload_n hx hb dL_ends_222 rfl (lv_at hl 3 rfl) ?_
  refine r_ishl hx hb (z := 1) dL_ends_223 (by decide) ?_
  refine lv_iload_n hx hb dL_ends_224 rfl (lv_at hl 3 rfl) ?_
  refine r_bipush hx hb dL_ends_225 (by decide) ?_
  refine q_LM (As := [.ref y0, .int (iI (4)), .int (iI (1)), .int (iI (0)), .int (iI (72))]) (rest := []) (wr := []) S (c_L_goes l hst D cI cL tw (y0) (y2) (b) (pq) (cq) (0) (4) (0) (sP_38) (sC_0) (4) (1) (0) (72) (1) (0) (0) (sP_39) (sC_0) (by omega) (by omega) (by omega) (fq_155)) (1) (()) (fun z u h => ⟨h, rfl⟩) gL_ends_L_goes rfl rfl rfl f_L_goes hR (Nat.le_of_ble_eq_true rfl) (Nat.le_of_ble_eq_true rfl) (hE.kept hS.2.1) hP hD hS hA [0, 1, 2, 3, 4] [] rfl rfl (by decide) rfl (by decide) (by decide) rfl hl.1 rfl (Nat.le_of_ble_eq_true rfl) dL_ends_227 ⟨Nat.le_trans (Nat.le_of_ble_eq_true rfl) hRc.1, Nat.le_trans (Nat.le_of_ble_eq_true rfl) hRc.2⟩ (fun H locs hP hD hS => ?_)
  have hP : va_P D vwCl [(y0, .inr (1, [.ref b, .ref y2, .int (iI (1)), .int (iI (0)), .int (iI (0)), .int (iI (4))])), (y2, .inl (cI, 4, .inl (aI sC_0))), (b, .inr (0, [.ref pq, .ref cq])), (pq, .inl (cI, 16, .inl (aI sP_39))), (cq, .inl (cI, 136, .inl (aI (cnt sP_39))))] H := hP
  have hD : va_D A [(y0, .inr (1, [.ref b, .ref y2, .int (iI (1)), .int (iI (0)), .int (iI (0)), .int (iI (4))])), (y2, .inl (cI, 4, .inl (aI sC_0))), (b, .inr (0, [.ref pq, .ref cq])), (pq, .inl (cI, 16, .inl (aI sP_39))), (cq, .inl (cI, 136, .inl (aI (cnt sP_39))))] := hD
  refine r_if_eq (tgt := 237) hx hb dL_ends_230 (by decide) (by unfold rI; decide) (fun h9 => absurd h9 (by omega)) (fun h230 => ?_)
  refine r_iconst hx hb dL_ends_233 ?_
  refine lv_goto (tgt := 238) hx hb dL_ends_234 (by decide) ?_
  refine lv_istore (lv' := [(6, .int (iI (1))), (5, .int (iI (15))), (4, .int (iI (1))), (3, .int (iI (0))), (2, .int (iI (0))), (1, .int (iI (2))), (7, .int (iI (4))), (0, .ref y0)]) hx hb dL_ends_238 hl (by decide) rfl (fun ls hl => ?_)
  refine lv_iload hx hb dL_ends_240 (lv_at hl 2 rfl) ?_
  refine r_if_eq (tgt := 250) hx hb dL_ends_242 (by decide) (by unfold rI; decide) (fun h9 => absurd h9 (by omega)) (fun h242 => ?_)
  refine lv_iload hx hb dL_ends_245 (lv_at hl 0 rfl) ?_
  refine r_if_ne (tgt := 252) hx hb dL_ends_247 (by decide) (by unfold rI; decide) (fun h247 => ?_) (fun h9 => absurd h9 (by omega))
  refine lv_iload_n hx hb dL_ends_252 rfl (lv_at hl 5 rfl) ?_
  refine r_bipush hx hb dL_ends_253 (by decide) ?_
  refine r_icmp_ne (tgt := 261) hx hb dL_ends_255 (by decide) (by unfold rI; decide) (by unfold rI; decide) (fun h255 => ?_) (fun h9 => absurd h9 (by omega))
  refine r_iconst hx hb dL_ends_261 ?_
  refine lv_istore (lv' := [(7, .int (iI (1))), (6, .int (iI (1))), (5, .int (iI (15))), (4, .int (iI (1))), (3, .int (iI (0))), (2, .int (iI (0))), (1, .int (iI (2))), (0, .ref y0)]) hx hb dL_ends_262 hl (by decide) rfl (fun ls hl => ?_)
  refine lv_iload hx hb dL_ends_264 (lv_at hl 0 rfl) ?_
  refine lv_iload_n hx hb dL_ends_266 rfl (lv_at hl 6 rfl) ?_
  refine r_bipush hx hb dL_ends_267 (by decide) ?_
  refine r_icmp_ge (tgt := 276) hx hb dL_ends_269 (by decide) (by unfold rI; decide) (by unfold rI; decide) (fun h9 => absurd h9 (by omega)) (fun h269 => ?_)
  refine r_iconst hx hb dL_ends_272 ?_
  refine lv_goto (tgt := 277) hx hb dL_ends_273 (by decide) ?_
  refine r_icmp_ge (tgt := 301) hx hb dL_ends_277 (by decide) (by unfold rI; decide) (by unfold rI; decide) (fun h9 => absurd h9 (by omega)) (fun h277 => ?_)
  refine lv_aload_n hx hb dL_ends_280 rfl (lv_at hl 7 rfl) ?_
  refine lv_iload_n hx hb dL_ends_281 rfl (lv_at hl 4 rfl) ?_
  refine lv_iload hx hb dL_ends_282 (lv_at hl 0 rfl) ?_
  refine r_iadd hx hb dL_ends_284 ?_
  refine r_top (1) (by decide) ?_
  refine r_iconst hx hb dL_ends_285 ?_
  refine r_irem hx hb dL_ends_286 (by omega) (by omega) ?_
  refine r_top (1) (by decide) ?_
  refine q_LM (As := [.ref y0, .int (iI (1))]) (rest := []) (wr := []) S (c_L_loses l hst D cI cL tw (y0) (y2) (b) (pq) (cq) (1) (4) (0) (sP_39) (sC_0) (2) (hb_39) (by omega) (by omega) (by omega) (fq_156) (by omega)) (1) (()) (fun z u h => ⟨h, rfl⟩) gL_ends_L_loses rfl rfl rfl f_L_loses hR (Nat.le_of_ble_eq_true rfl) (Nat.le_of_ble_eq_true rfl) (hE.kept hS.2.1) hP hD hS hA [0, 1, 2, 3, 4] [] rfl rfl (by decide) rfl (by decide) (by decide) rfl hl.1 rfl (Nat.le_of_ble_eq_true rfl) dL_ends_287 ⟨Nat.le_trans (Nat.le_of_ble_eq_true rfl) hRc.1, Nat.le_trans (Nat.le_of_ble_eq_true rfl) hRc.2⟩ (fun H locs hP hD hS => ?_)
  have hP : va_P D vwCl [(y0, .inr (1, [.ref b, .ref y2, .int (iI (2)), .int (iI (0)), .int (iI (0)), .int (iI (4))])), (y2, .inl (cI, 4, .inl (aI sC_0))), (b, .inr (0, [.ref pq, .ref cq])), (pq, .inl (cI, 16, .inl (aI sP_39))), (cq, .inl (cI, 136, .inl (aI (cnt sP_39))))] H := hP
  have hD : va_D A [(y0, .inr (1, [.ref b, .ref y2, .int (iI (2)), .int (iI (0)), .int (iI (0)), .int (iI (4))])), (y2, .inl (cI, 4, .inl (aI sC_0))), (b, .inr (0, [.ref pq, .ref cq])), (pq, .inl (cI, 16, .inl (aI sP_39))), (cq, .inl (cI, 136, .inl (aI (cnt sP_39))))] := hD
  refine r_if_ne (tgt := 295) hx hb dL_ends_290 (by decide) (by unfold rI; decide) (fun h290 => ?_) (fun h9 => absurd h9 (by omega))
  refine lv_iinc (v := iI (2)) (lv' := [(7, .int (iI (2))), (6, .int (iI (1))), (5, .int (iI (15))), (4, .int (iI (1))), (3, .int (iI (0))), (2, .int (iI (0))), (1, .int (iI (2))), (0, .ref y0)]) hx hb dL_ends_295 hl (k := 0) rfl (by decide) (by decide) rfl (fun ls hl => ?_)
  refine lv_goto (tgt := 264) hx hb dL_ends_298 (by decide) ?_
  refine lv_iload hx hb dL_ends_264 (lv_at hl 0 rfl) ?_
  refine lv_iload_n hx hb dL_ends_266 rfl (lv_at hl 6 rfl) ?_
  refine r_bipush hx hb dL_ends_267 (by decide) ?_
  refine r_icmp_ge (tgt := 276) hx hb dL_ends_269 (by decide) (by unfold rI; decide) (by unfold rI; decide) (fun h9 => absurd h9 (by omega)) (fun h269 => ?_)
  refine r_iconst hx hb dL_ends_272 ?_
  refine lv_goto (tgt := 277) hx hb dL_ends_273 (by decide) ?_
  refine r_icmp_ge (tgt := 301) hx hb dL_ends_277 (by decide) (by unfold rI; decide) (by unfold rI; decide) (fun h9 => absurd h9 (by omega)) (fun h277 => ?_)
  refine lv_aload_n hx hb dL_ends_280 rfl (lv_at hl 7 rfl) ?_
  refine lv_iload_n hx hb dL_ends_281 rfl (lv_at hl 4 rfl) ?_
  refine lv_iload hx hb dL_ends_282 (lv_at hl 0 rfl) ?_
  refine r_iadd hx hb dL_ends_284 ?_
  refine r_top (2) (by decide) ?_
  refine r_iconst hx hb dL_ends_285 ?_
  refine r_irem hx hb dL_ends_286 (by omega) (by omega) ?_
  refine r_top (2) (by decide) ?_
  refine q_LM (As := [.ref y0, .int (iI (2))]) (rest := []) (wr := []) S (c_L_loses l hst D cI cL tw (y0) (y2) (b) (pq) (cq) (2) (4) (0) (sP_39) (sC_0) (3) (hb_39) (by omega) (by omega) (by omega) (fq_157) (by omega)) (1) (()) (fun z u h => ⟨h, rfl⟩) gL_ends_L_loses rfl rfl rfl f_L_loses hR (Nat.le_of_ble_eq_true rfl) (Nat.le_of_ble_eq_true rfl) (hE.kept hS.2.1) hP hD hS hA [0, 1, 2, 3, 4] [] rfl rfl (by decide) rfl (by decide) (by decide) rfl hl.1 rfl (Nat.le_of_ble_eq_true rfl) dL_ends_287 ⟨Nat.le_trans (Nat.le_of_ble_eq_true rfl) hRc.1, Nat.le_trans (Nat.le_of_ble_eq_true rfl) hRc.2⟩ (fun H locs hP hD hS => ?_)
  have hP : va_P D vwCl [(y0, .inr (1, [.ref b, .ref y2, .int (iI (3)), .int (iI (0)), .int (iI (0)), .int (iI (4))])), (y2, .inl (cI, 4, .inl (aI sC_0))), (b, .inr (0, [.ref pq, .ref cq])), (pq, .inl (cI, 16, .inl (aI sP_39))), (cq, .inl (cI, 136, .inl (aI (cnt sP_39))))] H := hP
  have hD : va_D A [(y0, .inr (1, [.ref b, .ref y2, .int (iI (3)), .int (iI (0)), .int (iI (0)), .int (iI (4))])), (y2, .inl (cI, 4, .inl (aI sC_0))), (b, .inr (0, [.ref pq, .ref cq])), (pq, .inl (cI, 16, .inl (aI sP_39))), (cq, .inl (cI, 136, .inl (aI (cnt sP_39))))] := hD
  refine r_if_ne (tgt := 295) hx hb dL_ends_290 (by decide) (by unfold rI; decide) (fun h290 => ?_) (fun h9 => absurd h9 (by omega))
  refine lv_iinc (v := iI (3)) (lv' := [(7, .int (iI (3))), (6, .int (iI (1))), (5, .int (iI (15))), (4, .int (iI (1))), (3, .int (iI (0))), (2, .int (iI (0))), (1, .int (iI (2))), (0, .ref y0)]) hx hb dL_ends_295 hl (k := 0) rfl (by decide) (by decide) rfl (fun ls hl => ?_)
  refine lv_goto (tgt := 264) hx hb dL_ends_298 (by decide) ?_
  refine lv_iload hx hb dL_ends_264 (lv_at hl 0 rfl) ?_
  refine lv_iload_n hx hb dL_ends_266 rfl (lv_at hl 6 rfl) ?_
  refine r_bipush hx hb dL_ends_267 (by decide) ?_
  refine r_icmp_ge (tgt := 276) hx hb dL_ends_269 (by decide) (by unfold rI; decide) (by unfold rI; decide) (fun h9 => absurd h9 (by omega)) (fun h269 => ?_)
  refine r_iconst hx hb dL_ends_272 ?_
  refine lv_goto (tgt := 277) hx hb dL_ends_273 (by decide) ?_
  refine r_icmp_ge (tgt := 301) hx hb dL_ends_277 (by decide) (by unfold rI; decide) (by unfold rI; decide) (fun h9 => absurd h9 (by omega)) (fun h277 => ?_)
  refine lv_aload_n hx hb dL_ends_280 rfl (lv_at hl 7 rfl) ?_
  refine lv_iload_n hx hb dL_ends_281 rfl (lv_at hl 4 rfl) ?_
  refine lv_iload hx hb dL_ends_282 (lv_at hl 0 rfl) ?_
  refine r_iadd hx hb dL_ends_284 ?_
  refine r_top (3) (by decide) ?_
  refine r_iconst hx hb dL_ends_285 ?_
  refine r_irem hx hb dL_ends_286 (by omega) (by omega) ?_
  refine r_top (3) (by decide) ?_
  refine q_LM (As := [.ref y0, .int (iI (3))]) (rest := []) (wr := []) S (c_L_loses l hst D cI cL tw (y0) (y2) (b) (pq) (cq) (3) (4) (0) (sP_39) (sC_0) (0) (hb_39) (by omega) (by omega) (by omega) (fq_158) (by omega)) (1) (()) (fun z u h => ⟨h, rfl⟩) gL_ends_L_loses rfl rfl rfl f_L_loses hR (Nat.le_of_ble_eq_true rfl) (Nat.le_of_ble_eq_true rfl) (hE.kept hS.2.1) hP hD hS hA [0, 1, 2, 3, 4] [] rfl rfl (by decide) rfl (by decide) (by decide) rfl hl.1 rfl (Nat.le_of_ble_eq_true rfl) dL_ends_287 ⟨Nat.le_trans (Nat.le_of_ble_eq_true rfl) hRc.1, Nat.le_trans (Nat.le_of_ble_eq_true rfl) hRc.2⟩ (fun H locs hP hD hS => ?_)
  have hP : va_P D vwCl [(y0, .inr (1, [.ref b, .ref y2, .int (iI (0)), .int (iI (0)), .int (iI (0)), .int (iI (4))])), (y2, .inl (cI, 4, .inl (aI sC_0))), (b, .inr (0, [.ref pq, .ref cq])), (pq, .inl (cI, 16, .inl (aI sP_39))), (cq, .inl (cI, 136, .inl (aI (cnt sP_39))))] H := hP
  have hD : va_D A [(y0, .inr (1, [.ref b, .ref y2, .int (iI (0)), .int (iI (0)), .int (iI (0)), .int (iI (4))])), (y2, .inl (cI, 4, .inl (aI sC_0))), (b, .inr (0, [.ref pq, .ref cq])), (pq, .inl (cI, 16, .inl (aI sP_39))), (cq, .inl (cI, 136, .inl (aI (cnt sP_39))))] := hD
  refine r_if_ne (tgt := 295) hx hb dL_ends_290 (by decide) (by unfold rI; decide) (fun h290 => ?_) (fun h9 => absurd h9 (by omega))
  refine lv_iinc (v := iI (4)) (lv' := [(7, .int (iI (4))), (6, .int (iI (1))), (5, .int (iI (15))), (4, .int (iI (1))), (3, .int (iI (0))), (2, .int (iI (0))), (1, .int (iI (2))), (0, .ref y0)]) hx hb dL_ends_295 hl (k := 0) rfl (by decide) (by decide) rfl (fun ls hl => ?_)
  refine lv_goto (tgt := 264) hx hb dL_ends_298 (by decide) ?_
  refine lv_iload hx hb dL_ends_264 (lv_at hl 0 rfl) ?_
  refine lv_iload_n hx hb dL_ends_266 rfl (lv_at hl 6 rfl) ?_
  refine r_bipush hx hb dL_ends_267 (by decide) ?_
  refine r_icmp_ge (tgt := 276) hx hb dL_ends_269 (by decide) (by unfold rI; decide) (by unfold rI; decide) (fun h9 => absurd h9 (by omega)) (fun h269 => ?_)
  refine r_iconst hx hb dL_ends_272 ?_
  refine lv_goto (tgt := 277) hx hb dL_ends_273 (by decide) ?_
  refine r_icmp_ge (tgt := 301) hx hb dL_ends_277 (by decide) (by unfold rI; decide) (by unfold rI; decide) (fun h277 => ?_) (fun h9 => absurd h9 (by omega))
  refine lv_iinc (v := iI (3)) (lv' := [(1, .int (iI (3))), (7, .int (iI (4))), (6, .int (iI (1))), (5, .int (iI (15))), (4, .int (iI (1))), (3, .int (iI (0))), (2, .int (iI (0))), (0, .ref y0)]) hx hb dL_ends_301 hl (k := 6) rfl (by decide) (by decide) rfl (fun ls hl => ?_)
  refine lv_goto (tgt := 10) hx hb dL_ends_304 (by decide) ?_
  exact sg_L_ends_4 S hst hR hRc hE hA y0 y2 b pq cq  hret hP hD hS hl
set_option maxHeartbeats 4000000 in
set_option maxRecDepth 100000 in
theorem sg_L_ends_2 {p : Program} {l : Launch} {e : Env} {R : Room} {s : State} {mt : MethodId} {args : Array Value} {below : List Frame} {meth : Method} {c : Code} {H0 : Heap} {Q : State → Prop} {A : Nat → Prop} {D : va_G} {cI cL : ClassId} {tw : Nat} (S : CallFix p mt c cL_ends 8 s args wsL_ends RL) (hst : l.stackTraces = false) (hR : 15 ≤ R.frames ∧ 377 ≤ R.locals) (hRc : 527 ≤ R.cells ∧ 3296 ≤ R.slots) (hE : EV D cI cL tw A s H0) (hA : ∀ q : Nat, H0.size ≤ q → A q) (y0 : Nat) (y2 : Nat) (b : Nat) (pq : Nat) (cq : Nat)  (hret : ∀ (z : Int) (u : Unit) (pc : Nat) (ls : Array Slot) (H : Heap) (locs : List Loc) (cells slots : Nat), decode cL_ends pc = .ok (.ireturn, 1) → (z = 1) → va_P D vwCl [] H → va_D A [] → va_S A H0 H locs → cells ≤ 527 → slots ≤ 3296 → W p l e R s mt args below meth c H locs cells slots Q (F0 mt pc ls [.int (iI z)])) {H : Heap} {locs : List Loc} {ls : Array Slot} (hP : va_P D vwCl [(y0, .inr (1, [.ref b, .ref y2, .int (iI (0)), .int (iI (0)), .int (iI (0)), .int (iI (3))])), (y2, .inl (cI, 4, .inl (aI sC_0))), (b, .inr (0, [.ref pq, .ref cq])), (pq, .inl (cI, 16, .inl (aI sP_35))), (cq, .inl (cI, 136, .inl (aI (cnt sP_35))))] H) (hD : va_D A [(y0, .inr (1, [.ref b, .ref y2, .int (iI (0)), .int (iI (0)), .int (iI (0)), .int (iI (3))])), (y2, .inl (cI, 4, .inl (aI sC_0))), (b, .inr (0, [.ref pq, .ref cq])), (pq, .inl (cI, 16, .inl (aI sP_35))), (cq, .inl (cI, 136, .inl (aI (cnt sP_35))))]) (hS : va_S A H0 H locs) (hl : lv_has ls 8 [(1, .int (iI (1))), (7, .int (iI (4))), (6, .int (iI (1))), (5, .int (iI (15))), (4, .int (iI (1))), (3, .int (iI (0))), (2, .int (iI (0))), (0, .ref y0)]) : W p l e R s mt args below meth c H locs 24 278 Q (F0 mt 10 ls []) := by
  obtain ⟨hx, hb, hml, hown, hts⟩ := id S
  refine lv_iload_n hx hb dL_ends_10 rfl (lv_at hl 0 rfl) ?_
  refine r_bipush hx hb dL_ends_11 (by decide) ?_
  refine r_icmp_ge (tgt := 307) hx hb dL_ends_13 (by decide) (by unfold rI; decide) (by unfold rI; decide) (fun h9 => absurd h9 (by omega)) (fun h13 => ?_)
  refine lv_iload_n hx hb dL_ends_16 rfl (lv_at hl 0 rfl) ?_
  refine r_iconst hx hb dL_ends_17 ?_
  refine r_idiv hx hb dL_ends_18 (by omega) (by omega) ?_
  refine r_top (0) (by decide) ?_
  refine r_iconst hx hb dL_ends_19 ?_
  refine r_irem hx hb dL_ends_20 (by omega) (by omega) ?_
  refine r_top (0) (by decide) ?_
  refine lv_istore_n (lv' := [(2, .int (iI (0))), (1, .int (iI (1))), (7, .int (iI (4))), (6, .int (iI (1))), (5, .int (iI (15))), (4, .int (iI (1))), (3, .int (iI (0))), (0, .ref y0)]) hx hb dL_ends_21 rfl hl (by decide) rfl (fun ls hl => ?_)
  refine lv_iload_n hx hb dL_ends_22 rfl (lv_at hl 1 rfl) ?_
  refine r_bipush hx hb dL_ends_23 (by decide) ?_
  refine r_icmp_ge (tgt := 32) hx hb dL_ends_25 (by decide) (by unfold rI; decide) (by unfold rI; decide) (fun h9 => absurd h9 (by omega)) (fun h25 => ?_)
  refine r_iconst hx hb dL_ends_28 ?_
  refine lv_goto (tgt := 37) hx hb dL_ends_29 (by decide) ?_
  refine lv_istore_n (lv' := [(3, .int (iI (0))), (2, .int (iI (0))), (1, .int (iI (1))), (7, .int (iI (4))), (6, .int (iI (1))), (5, .int (iI (15))), (4, .int (iI (1))), (0, .ref y0)]) hx hb dL_ends_37 rfl hl (by decide) rfl (fun ls hl => ?_)
  refine lv_aload_n hx hb dL_ends_38 rfl (lv_at hl 7 rfl) ?_
  refine q_RO (As := []) (rest := []) S (c_X1_onTurn l D cI cL tw (y0) (y2) (b) (pq) (cq) (0) (0) (3) (0) (sP_35) (sC_0) (hb_35) (by omega) (by omega) (by omega) (by omega)) (0) (fun z h => h) gL_ends_X1_onTurn rfl rfl rfl ⟨rfl, f_X1_onTurn⟩ hR (Nat.le_of_ble_eq_true rfl) (Nat.le_of_ble_eq_true rfl) (hE.kept hS.2.1) hP [0, 1, 2, 3, 4] rfl 0 rfl rfl rfl hl.1 rfl (Nat.le_of_ble_eq_true rfl) dL_ends_39 ⟨Nat.le_trans (Nat.le_of_ble_eq_true rfl) hRc.1, Nat.le_trans (Nat.le_of_ble_eq_true rfl) hRc.2⟩ ?_
  refine lv_iload_n hx hb dL_ends_42 rfl (lv_at hl 0 rfl) ?_
  refine r_icmp_ne (tgt := 87) hx hb dL_ends_43 (by decide) (by unfold rI; decide) (by unfold rI; decide) (fun h9 => absurd h9 (by omega)) (fun h43 => ?_)
  refine lv_aload_n hx hb dL_ends_46 rfl (lv_at hl 7 rfl) ?_
  refine q_RO (As := []) (rest := []) S (c_X1_mover l D cI cL tw (y0) (y2) (b) (pq) (cq) (0) (0) (3) (0) (sP_35) (sC_0) (hb_35) (by omega) (by omega) (by omega) (by omega)) (0) (fun z h => h.trans fq_140) gL_ends_X1_mover rfl rfl rfl ⟨rfl, f_X1_mover⟩ hR (Nat.le_of_ble_eq_true rfl) (Nat.le_of_ble_eq_true rfl) (hE.kept hS.2.1) hP [0, 1, 2, 3, 4] rfl 0 rfl rfl rfl hl.1 rfl (Nat.le_of_ble_eq_true rfl) dL_ends_47 ⟨Nat.le_trans (Nat.le_of_ble_eq_true rfl) hRc.1, Nat.le_trans (Nat.le_of_ble_eq_true rfl) hRc.2⟩ ?_
  refine lv_iload_n hx hb dL_ends_50 rfl (lv_at hl 2 rfl) ?_
  refine r_bipush hx hb dL_ends_51 (by decide) ?_
  refine r_icmp_ge (tgt := 60) hx hb dL_ends_53 (by decide) (by unfold rI; decide) (by unfold rI; decide) (fun h9 => absurd h9 (by omega)) (fun h53 => ?_)
  refine r_iconst hx hb dL_ends_56 ?_
  refine lv_goto (tgt := 61) hx hb dL_ends_57 (by decide) ?_
  refine r_icmp_ne (tgt := 87) hx hb dL_ends_61 (by decide) (by unfold rI; decide) (by unfold rI; decide) (fun h9 => absurd h9 (by omega)) (fun h61 => ?_)
  refine lv_aload_n hx hb dL_ends_64 rfl (lv_at hl 7 rfl) ?_
  refine lv_iload_n hx hb dL_ends_65 rfl (lv_at hl 2 rfl) ?_
  refine r_bipush hx hb dL_ends_66 (by decide) ?_
  refine r_icmp_ge (tgt := 75) hx hb dL_ends_68 (by decide) (by unfold rI; decide) (by unfold rI; decide) (fun h9 => absurd h9 (by omega)) (fun h68 => ?_)
  refine r_iconst hx hb dL_ends_71 ?_
  refine lv_goto (tgt := 76) hx hb dL_ends_72 (by decide) ?_
  refine q_Xi (As := [.int (iI (0))]) (rest := []) S (c_X1_home l hst D cI cL tw (y0) (y2) (b) (pq) (cq) (0) (0) (3) (0) (sP_35) (sC_0) (0) (hb_35) (by omega) (by omega) (by omega) (by omega) (by omega)) (0) (fun z h => h.2.2.trans fq_141) (fun E h => by (try dsimp only at h); first | (rcases h with ⟨_, h⟩ | ⟨_, h⟩ <;> omega) | (obtain ⟨_, h⟩ := h; omega)) gL_ends_X1_home rfl rfl rfl ⟨rfl, f_X1_home⟩ hR (Nat.le_of_ble_eq_true rfl) (Nat.le_of_ble_eq_true rfl) (hE.kept hS.2.1) hP hS hA [0, 1, 2, 3, 4] rfl 0 rfl rfl rfl hl.1 rfl (Nat.le_of_ble_eq_true rfl) dL_ends_76 ⟨Nat.le_trans (Nat.le_of_ble_eq_true rfl) hRc.1, Nat.le_trans (Nat.le_of_ble_eq_true rfl) hRc.2⟩ (fun H locs hP hS => ?_)
  refine lv_iload_n hx hb dL_ends_79 rfl (lv_at hl 1 rfl) ?_
  refine r_icmp_ne (tgt := 87) hx hb dL_ends_80 (by decide) (by unfold rI; decide) (by unfold rI; decide) (fun h9 => absurd h9 (by omega)) (fun h80 => ?_)
  refine r_iconst hx hb dL_ends_83 ?_
  refine lv_goto (tgt := 88) hx hb dL_ends_84 (by decide) ?_
  refine lv_istore (lv' := [(4, .int (iI (1))), (3, .int (iI (0))), (2, .int (iI (0))), (1, .int (iI (1))), (7, .int (iI (4))), (6, .int (iI (1))), (5, .int (iI (15))), (0, .ref y0)]) hx hb dL_ends_88 hl (by decide) rfl (fun ls hl => ?_)
  refine r_bipush hx hb dL_ends_90 (by decide) ?_
  refine r_iconst hx hb dL_ends_92 ?_
  refine lv_iload_n hx hb dL_ends_93 rfl (lv_at hl 2 rfl) ?_
  refine r_ishl hx hb (z := 1) dL_ends_94 (by decide) ?_
  refine r_isub hx hb dL_ends_95 ?_
  refine r_top (14) (by decide) ?_
  refine r_iconst hx hb dL_ends_96 ?_
  refine r_iadd hx hb dL_ends_97 ?_
  refine r_top (15) (by decide) ?_
  refine lv_istore (lv' := [(5, .int (iI (15))), (4, .int (iI (1))), (3, .int (iI (0))), (2, .int (iI (0))), (1, .int (iI (1))), (7, .int (iI (4))), (6, .int (iI (1))), (0, .ref y0)]) hx hb dL_ends_98 hl (by decide) rfl (fun ls hl => ?_)
  refine lv_iload_n hx hb dL_ends_100 rfl (lv_at hl 4 rfl) ?_
  refine r_iconst hx hb dL_ends_101 ?_
  refine r_irem hx hb dL_ends_102 (by omega) (by omega) ?_
  refine r_top (1) (by decide) ?_
  refine r_if_ne (tgt := 154) hx hb dL_ends_103 (by decide) (by unfold rI; decide) (fun h103 => ?_) (fun h9 => absurd h9 (by omega))
  refine lv_iload_n hx hb dL_ends_154 rfl (lv_at hl 4 rfl) ?_
  refine r_iconst hx hb dL_ends_155 ?_
  refine r_irem hx hb dL_ends_156 (by omega) (by omega) ?_
  refine r_top (1) (by decide) ?_
  refine r_iconst hx hb dL_ends_157 ?_
  refine r_icmp_ne (tgt := 209) hx hb dL_ends_158 (by decide) (by unfold rI; decide) (by unfold rI; decide) (fun h9 => absurd h9 (by omega)) (fun h158 => ?_)
  refine lv_aload_n hx hb dL_ends_161 rfl (lv_at hl 7 rfl) ?_
  refine r_iconst hx hb dL_ends_162 ?_
  refine lv_iload hx hb dL_ends_163 (lv_at hl 0 rfl) ?_
  refine lv_iload_n hx hb dL_ends_165 rfl (lv_at hl 3 rfl) ?_
  refine r_bipush hx hb dL_ends_166 (by decide) ?_
  refine q_LM (As := [.ref y0, .int (iI (0)), .int (iI (15)), .int (iI (0)), .int (iI (54))]) (rest := []) (wr := []) S (c_L_goes l hst D cI cL tw (y0) (y2) (b) (pq) (cq) (0) (3) (0) (sP_35) (sC_0) (0) (15) (0) (54) (0) (1) (0) (sP_36) (sC_0) (by omega) (by omega) (by omega) (fq_143)) (1) (()) (fun z u h => ⟨h, rfl⟩) gL_ends_L_goes rfl rfl rfl f_L_goes hR (Nat.le_of_ble_eq_true rfl) (Nat.le_of_ble_eq_true rfl) (hE.kept hS.2.1) hP hD hS hA [0, 1, 2, 3, 4] [] rfl rfl (by decide) rfl (by decide) (by decide) rfl hl.1 rfl (Nat.le_of_ble_eq_true rfl) dL_ends_168 ⟨Nat.le_trans (Nat.le_of_ble_eq_true rfl) hRc.1, Nat.le_trans (Nat.le_of_ble_eq_true rfl) hRc.2⟩ (fun H locs hP hD hS => ?_)
  have hP : va_P D vwCl [(y0, .inr (1, [.ref b, .ref y2, .int (iI (0)), .int (iI (1)), .int (iI (0)), .int (iI (0))])), (y2, .inl (cI, 4, .inl (aI sC_0))), (b, .inr (0, [.ref pq, .ref cq])), (pq, .inl (cI, 16, .inl (aI sP_36))), (cq, .inl (cI, 136, .inl (aI (cnt sP_36))))] H := hP
  have hD : va_D A [(y0, .inr (1, [.ref b, .ref y2, .int (iI (0)), .int (iI (1)), .int (iI (0)), .int (iI (0))])), (y2, .inl (cI, 4, .inl (aI sC_0))), (b, .inr (0, [.ref pq, .ref cq])), (pq, .inl (cI, 16, .inl (aI sP_36))), (cq, .inl (cI, 136, .inl (aI (cnt sP_36))))] := hD
  refine r_if_eq (tgt := 205) hx hb dL_ends_171 (by decide) (by unfold rI; decide) (fun h9 => absurd h9 (by omega)) (fun h171 => ?_)
  refine lv_aload_n hx hb dL_ends_174 rfl (lv_at hl 7 rfl) ?_
  refine r_iconst hx hb dL_ends_175 ?_
  refine lv_iload hx hb dL_ends_176 (lv_at hl 0 rfl) ?_
  refine lv_iload_n hx hb dL_ends_178 rfl (lv_at hl 3 rfl) ?_
  refine r_bipush hx hb dL_ends_179 (by decide) ?_
  refine q_LM (As := [.ref y0, .int (iI (1)), .int (iI (15)), .int (iI (0)), .int (iI (64))]) (rest := []) (wr := []) S (c_L_goes l hst D cI cL tw (y0) (y2) (b) (pq) (cq) (0) (0) (1) (sP_36) (sC_0) (1) (15) (0) (64) (0) (2) (0) (sP_37) (sC_0) (by omega) (by omega) (by omega) (fq_145)) (1) (()) (fun z u h => ⟨h, rfl⟩) gL_ends_L_goes rfl rfl rfl f_L_goes hR (Nat.le_of_ble_eq_true rfl) (Nat.le_of_ble_eq_true rfl) (hE.kept hS.2.1) hP hD hS hA [0, 1, 2, 3, 4] [] rfl rfl (by decide) rfl (by decide) (by decide) rfl hl.1 rfl (Nat.le_of_ble_eq_true rfl) dL_ends_181 ⟨Nat.le_trans (Nat.le_of_ble_eq_true rfl) hRc.1, Nat.le_trans (Nat.le_of_ble_eq_true rfl) hRc.2⟩ (fun H locs hP hD hS => ?_)
  have hP : va_P D vwCl [(y0, .inr (1, [.ref b, .ref y2, .int (iI (0)), .int (iI (2)), .int (iI (0)), .int (iI (1))])), (y2, .inl (cI, 4, .inl (aI sC_0))), (b, .inr (0, [.ref pq, .ref cq])), (pq, .inl (cI, 16, .inl (aI sP_37))), (cq, .inl (cI, 136, .inl (aI (cnt sP_37))))] H := hP
  have hD : va_D A [(y0, .inr (1, [.ref b, .ref y2, .int (iI (0)), .int (iI (2)), .int (iI (0)), .int (iI (1))])), (y2, .inl (cI, 4, .inl (aI sC_0))), (b, .inr (0, [.ref pq, .ref cq])), (pq, .inl (cI, 16, .inl (aI sP_37))), (cq, .inl (cI, 136, .inl (aI (cnt sP_37))))] := hD
  refine r_if_eq (tgt := 205) hx hb dL_ends_184 (by decide) (by unfold rI; decide) (fun h9 => absurd h9 (by omega)) (fun h184 => ?_)
  refine lv_aload_n hx hb dL_ends_187 rfl (lv_at hl 7 rfl) ?_
  refine r_iconst hx hb dL_ends_188 ?_
  refine r_iconst hx hb dL_ends_189 ?_
  refine lv_iload_n hx hb dL_ends_190 rfl (lv_at hl 3 rfl) ?_
  refine r_ishl hx hb (z := 1) dL_ends_191 (by decide) ?_
  refine lv_iload_n hx hb dL_ends_192 rfl (lv_at hl 3 rfl) ?_
  refine r_bipush hx hb dL_ends_193 (by decide) ?_
  refine q_LM (As := [.ref y0, .int (iI (4)), .int (iI (1)), .int (iI (0)), .int (iI (68))]) (rest := []) (wr := []) S (c_L_goes l hst D cI cL tw (y0) (y2) (b) (pq) (cq) (0) (1) (2) (sP_37) (sC_0) (4) (1) (0) (68) (1) (0) (0) (sP_38) (sC_0) (by omega) (by omega) (by omega) (fq_147)) (1) (()) (fun z u h => ⟨h, rfl⟩) gL_ends_L_goes rfl rfl rfl f_L_goes hR (Nat.le_of_ble_eq_true rfl) (Nat.le_of_ble_eq_true rfl) (hE.kept hS.2.1) hP hD hS hA [0, 1, 2, 3, 4] [] rfl rfl (by decide) rfl (by decide) (by decide) rfl hl.1 rfl (Nat.le_of_ble_eq_true rfl) dL_ends_195 ⟨Nat.le_trans (Nat.le_of_ble_eq_true rfl) hRc.1, Nat.le_trans (Nat.le_of_ble_eq_true rfl) hRc.2⟩ (fun H locs hP hD hS => ?_)
  have hP : va_P D vwCl [(y0, .inr (1, [.ref b, .ref y2, .int (iI (1)), .int (iI (0)), .int (iI (0)), .int (iI (4))])), (y2, .inl (cI, 4, .inl (aI sC_0))), (b, .inr (0, [.ref pq, .ref cq])), (pq, .inl (cI, 16, .inl (aI sP_38))), (cq, .inl (cI, 136, .inl (aI (cnt sP_38))))] H := hP
  have hD : va_D A [(y0, .inr (1, [.ref b, .ref y2, .int (iI (1)), .int (iI (0)), .int (iI (0)), .int (iI (4))])), (y2, .inl (cI, 4, .inl (aI sC_0))), (b, .inr (0, [.ref pq, .ref cq])), (pq, .inl (cI, 16, .inl (aI sP_38))), (cq, .inl (cI, 136, .inl (aI (cnt sP_38))))] := hD
  refine r_if_eq (tgt := 205) hx hb dL_ends_198 (by decide) (by unfold rI; decide) (fun h9 => absurd h9 (by omega)) (fun h198 => ?_)
  refine r_iconst hx hb dL_ends_201 ?_
  refine lv_goto (tgt := 238) hx hb dL_ends_202 (by decide) ?_
  refine lv_istore (lv' := [(6, .int (iI (1))), (5, .int (iI (15))), (4, .int (iI (1))), (3, .int (iI (0))), (2, .int (iI (0))), (1, .int (iI (1))), (7, .int (iI (4))), (0, .ref y0)]) hx hb dL_ends_238 hl (by decide) rfl (fun ls hl => ?_)
  refine lv_iload hx hb dL_ends_240 (lv_at hl 2 rfl) ?_
  refine r_if_eq (tgt := 250) hx hb dL_ends_242 (by decide) (by unfold rI; decide) (fun h9 => absurd h9 (by omega)) (fun h242 => ?_)
  refine lv_iload hx hb dL_ends_245 (lv_at hl 0 rfl) ?_
  refine r_if_ne (tgt := 252) hx hb dL_ends_247 (by decide) (by unfold rI; decide) (fun h247 => ?_) (fun h9 => absurd h9 (by omega))
  refine lv_iload_n hx hb dL_ends_252 rfl (lv_at hl 5 rfl) ?_
  refine r_bipush hx hb dL_ends_253 (by decide) ?_
  refine r_icmp_ne (tgt := 261) hx hb dL_ends_255 (by decide) (by unfold rI; decide) (by unfold rI; decide) (fun h255 => ?_) (fun h9 => absurd h9 (by omega))
  refine r_iconst hx hb dL_ends_261 ?_
  refine lv_istore (lv' := [(7, .int (iI (1))), (6, .int (iI (1))), (5, .int (iI (15))), (4, .int (iI (1))), (3, .int (iI (0))), (2, .int (iI (0))), (1, .int (iI (1))), (0, .ref y0)]) hx hb dL_ends_262 hl (by decide) rfl (fun ls hl => ?_)
  refine lv_iload hx hb dL_ends_264 (lv_at hl 0 rfl) ?_
  refine lv_iload_n hx hb dL_ends_266 rfl (lv_at hl 6 rfl) ?_
  refine r_bipush hx hb dL_ends_267 (by decide) ?_
  refine r_icmp_ge (tgt := 276) hx hb dL_ends_269 (by decide) (by unfold rI; decide) (by unfold rI; decide) (fun h9 => absurd h9 (by omega)) (fun h269 => ?_)
  refine r_iconst hx hb dL_ends_272 ?_
  refine lv_goto (tgt := 277) hx hb dL_ends_273 (by decide) ?_
  refine r_icmp_ge (tgt := 301) hx hb dL_ends_277 (by decide) (by unfold rI; decide) (by unfold rI; decide) (fun h9 => absurd h9 (by omega)) (fun h277 => ?_)
  refine lv_aload_n hx hb dL_ends_280 rfl (lv_at hl 7 rfl) ?_
  refine lv_iload_n hx hb dL_ends_281 rfl (lv_at hl 4 rfl) ?_
  refine lv_iload hx hb dL_ends_282 (lv_at hl 0 rfl) ?_
  refine r_iadd hx hb dL_ends_284 ?_
  refine r_top (1) (by decide) ?_
  refine r_iconst hx hb dL_ends_285 ?_
  refine r_irem hx hb dL_ends_286 (by omega) (by omega) ?_
  refine r_top (1) (by decide) ?_
  refine q_LM (As := [.ref y0, .int (iI (1))]) (rest := []) (wr := []) S (c_L_loses l hst D cI cL tw (y0) (y2) (b) (pq) (cq) (1) (4) (0) (sP_38) (sC_0) (2) (hb_38) (by omega) (by omega) (by omega) (fq_148) (by omega)) (1) (()) (fun z u h => ⟨h, rfl⟩) gL_ends_L_loses rfl rfl rfl f_L_loses hR (Nat.le_of_ble_eq_true rfl) (Nat.le_of_ble_eq_true rfl) (hE.kept hS.2.1) hP hD hS hA [0, 1, 2, 3, 4] [] rfl rfl (by decide) rfl (by decide) (by decide) rfl hl.1 rfl (Nat.le_of_ble_eq_true rfl) dL_ends_287 ⟨Nat.le_trans (Nat.le_of_ble_eq_true rfl) hRc.1, Nat.le_trans (Nat.le_of_ble_eq_true rfl) hRc.2⟩ (fun H locs hP hD hS => ?_)
  have hP : va_P D vwCl [(y0, .inr (1, [.ref b, .ref y2, .int (iI (2)), .int (iI (0)), .int (iI (0)), .int (iI (4))])), (y2, .inl (cI, 4, .inl (aI sC_0))), (b, .inr (0, [.ref pq, .ref cq])), (pq, .inl (cI, 16, .inl (aI sP_38))), (cq, .inl (cI, 136, .inl (aI (cnt sP_38))))] H := hP
  have hD : va_D A [(y0, .inr (1, [.ref b, .ref y2, .int (iI (2)), .int (iI (0)), .int (iI (0)), .int (iI (4))])), (y2, .inl (cI, 4, .inl (aI sC_0))), (b, .inr (0, [.ref pq, .ref cq])), (pq, .inl (cI, 16, .inl (aI sP_38))), (cq, .inl (cI, 136, .inl (aI (cnt sP_38))))] := hD
  refine r_if_ne (tgt := 295) hx hb dL_ends_290 (by decide) (by unfold rI; decide) (fun h290 => ?_) (fun h9 => absurd h9 (by omega))
  refine lv_iinc (v := iI (2)) (lv' := [(7, .int (iI (2))), (6, .int (iI (1))), (5, .int (iI (15))), (4, .int (iI (1))), (3, .int (iI (0))), (2, .int (iI (0))), (1, .int (iI (1))), (0, .ref y0)]) hx hb dL_ends_295 hl (k := 0) rfl (by decide) (by decide) rfl (fun ls hl => ?_)
  refine lv_goto (tgt := 264) hx hb dL_ends_298 (by decide) ?_
  refine lv_iload hx hb dL_ends_264 (lv_at hl 0 rfl) ?_
  refine lv_iload_n hx hb dL_ends_266 rfl (lv_at hl 6 rfl) ?_
  refine r_bipush hx hb dL_ends_267 (by decide) ?_
  refine r_icmp_ge (tgt := 276) hx hb dL_ends_269 (by decide) (by unfold rI; decide) (by unfold rI; decide) (fun h9 => absurd h9 (by omega)) (fun h269 => ?_)
  refine r_iconst hx hb dL_ends_272 ?_
  refine lv_goto (tgt := 277) hx hb dL_ends_273 (by decide) ?_
  refine r_icmp_ge (tgt := 301) hx hb dL_ends_277 (by decide) (by unfold rI; decide) (by unfold rI; decide) (fun h9 => absurd h9 (by omega)) (fun h277 => ?_)
  refine lv_aload_n hx hb dL_ends_280 rfl (lv_at hl 7 rfl) ?_
  refine lv_iload_n hx hb dL_ends_281 rfl (lv_at hl 4 rfl) ?_
  refine lv_iload hx hb dL_ends_282 (lv_at hl 0 rfl) ?_
  refine r_iadd hx hb dL_ends_284 ?_
  refine r_top (2) (by decide) ?_
  refine r_iconst hx hb dL_ends_285 ?_
  refine r_irem hx hb dL_ends_286 (by omega) (by omega) ?_
  refine r_top (2) (by decide) ?_
  refine q_LM (As := [.ref y0, .int (iI (2))]) (rest := []) (wr := []) S (c_L_loses l hst D cI cL tw (y0) (y2) (b) (pq) (cq) (2) (4) (0) (sP_38) (sC_0) (3) (hb_38) (by omega) (by omega) (by omega) (fq_149) (by omega)) (1) (()) (fun z u h => ⟨h, rfl⟩) gL_ends_L_loses rfl rfl rfl f_L_loses hR (Nat.le_of_ble_eq_true rfl) (Nat.le_of_ble_eq_true rfl) (hE.kept hS.2.1) hP hD hS hA [0, 1, 2, 3, 4] [] rfl rfl (by decide) rfl (by decide) (by decide) rfl hl.1 rfl (Nat.le_of_ble_eq_true rfl) dL_ends_287 ⟨Nat.le_trans (Nat.le_of_ble_eq_true rfl) hRc.1, Nat.le_trans (Nat.le_of_ble_eq_true rfl) hRc.2⟩ (fun H locs hP hD hS => ?_)
  have hP : va_P D vwCl [(y0, .inr (1, [.ref b, .ref y2, .int (iI (3)), .int (iI (0)), .int (iI (0)), .int (iI (4))])), (y2, .inl (cI, 4, .inl (aI sC_0))), (b, .inr (0, [.ref pq, .ref cq])), (pq, .inl (cI, 16, .inl (aI sP_38))), (cq, .inl (cI, 136, .inl (aI (cnt sP_38))))] H := hP
  have hD : va_D A [(y0, .inr (1, [.ref b, .ref y2, .int (iI (3)), .int (iI (0)), .int (iI (0)), .int (iI (4))])), (y2, .inl (cI, 4, .inl (aI sC_0))), (b, .inr (0, [.ref pq, .ref cq])), (pq, .inl (cI, 16, .inl (aI sP_38))), (cq, .inl (cI, 136, .inl (aI (cnt sP_38))))] := hD
  refine r_if_ne (tgt := 295) hx hb dL_ends_290 (by decide) (by unfold rI; decide) (fun h290 => ?_) (fun h9 => absurd h9 (by omega))
  refine lv_iinc (v := iI (3)) (lv' := [(7, .int (iI (3))), (6, .int (iI (1))), (5, .int (iI (15))), (4, .int (iI (1))), (3, .int (iI (0))), (2, .int (iI (0))), (1, .int (iI (1))), (0, .ref y0)]) hx hb dL_ends_295 hl (k := 0) rfl (by decide) (by decide) rfl (fun ls hl => ?_)
  refine lv_goto (tgt := 264) hx hb dL_ends_298 (by decide) ?_
  refine lv_iload hx hb dL_ends_264 (lv_at hl 0 rfl) ?_
  refine lv_iload_n hx hb dL_ends_266 rfl (lv_at hl 6 rfl) ?_
  refine r_bipush hx hb dL_ends_267 (by decide) ?_
  refine r_icmp_ge (tgt := 276) hx hb dL_ends_269 (by decide) (by unfold rI; decide) (by unfold rI; decide) (fun h9 => absurd h9 (by omega)) (fun h269 => ?_)
  refine r_iconst hx hb dL_ends_272 ?_
  refine lv_goto (tgt := 277) hx hb dL_ends_273 (by decide) ?_
  refine r_icmp_ge (tgt := 301) hx hb dL_ends_277 (by decide) (by unfold rI; decide) (by unfold rI; decide) (fun h9 => absurd h9 (by omega)) (fun h277 => ?_)
  refine lv_aload_n hx hb dL_ends_280 rfl (lv_at hl 7 rfl) ?_
  refine lv_iload_n hx hb dL_ends_281 rfl (lv_at hl 4 rfl) ?_
  refine lv_iload hx hb dL_ends_282 (lv_at hl 0 rfl) ?_
  refine r_iadd hx hb dL_ends_284 ?_
  refine r_top (3) (by decide) ?_
  refine r_iconst hx hb dL_ends_285 ?_
  refine r_irem hx hb dL_ends_286 (by omega) (by omega) ?_
  refine r_top (3) (by decide) ?_
  refine q_LM (As := [.ref y0, .int (iI (3))]) (rest := []) (wr := []) S (c_L_loses l hst D cI cL tw (y0) (y2) (b) (pq) (cq) (3) (4) (0) (sP_38) (sC_0) (0) (hb_38) (by omega) (by omega) (by omega) (fq_150) (by omega)) (1) (()) (fun z u h => ⟨h, rfl⟩) gL_ends_L_loses rfl rfl rfl f_L_loses hR (Nat.le_of_ble_eq_true rfl) (Nat.le_of_ble_eq_true rfl) (hE.kept hS.2.1) hP hD hS hA [0, 1, 2, 3, 4] [] rfl rfl (by decide) rfl (by decide) (by decide) rfl hl.1 rfl (Nat.le_of_ble_eq_true rfl) dL_ends_287 ⟨Nat.le_trans (Nat.le_of_ble_eq_true rfl) hRc.1, Nat.le_trans (Nat.le_of_ble_eq_true rfl) hRc.2⟩ (fun H locs hP hD hS => ?_)
  have hP : va_P D vwCl [(y0, .inr (1, [.ref b, .ref y2, .int (iI (0)), .int (iI (0)), .int (iI (0)), .int (iI (4))])), (y2, .inl (cI, 4, .inl (aI sC_0))), (b, .inr (0, [.ref pq, .ref cq])), (pq, .inl (cI, 16, .inl (aI sP_38))), (cq, .inl (cI, 136, .inl (aI (cnt sP_38))))] H := hP
  have hD : va_D A [(y0, .inr (1, [.ref b, .ref y2, .int (iI (0)), .int (iI (0)), .int (iI (0)), .int (iI (4))])), (y2, .inl (cI, 4, .inl (aI sC_0))), (b, .inr (0, [.ref pq, .ref cq])), (pq, .inl (cI, 16, .inl (aI sP_38))), (cq, .inl (cI, 136, .inl (aI (cnt sP_38))))] := hD
  refine r_if_ne (tgt := 295) hx hb dL_ends_290 (by decide) (by unfold rI; decide) (fun h290 => ?_) (fun h9 => absurd h9 (by omega))
  refine lv_iinc (v := iI (4)) (lv' := [(7, .int (iI (4))), (6, .int (iI (1))), (5, .int (iI (15))), (4, .int (iI (1))), (3, .int (iI (0))), (2, .int (iI (0))), (1, .int (iI (1))), (0, .ref y0)]) hx hb dL_ends_295 hl (k := 0) rfl (by decide) (by decide) rfl (fun ls hl => ?_)
  refine lv_goto (tgt := 264) hx hb dL_ends_298 (by decide) ?_
  refine lv_iload hx hb dL_ends_264 (lv_at hl 0 rfl) ?_
  refine lv_iload_n hx hb dL_ends_266 rfl (lv_at hl 6 rfl) ?_
  refine r_bipush hx hb dL_ends_267 (by decide) ?_
  refine r_icmp_ge (tgt := 276) hx hb dL_ends_269 (by decide) (by unfold rI; decide) (by unfold rI; decide) (fun h9 => absurd h9 (by omega)) (fun h269 => ?_)
  refine r_iconst hx hb dL_ends_272 ?_
  refine lv_goto (tgt := 277) hx hb dL_ends_273 (by decide) ?_
  refine r_icmp_ge (tgt := 301) hx hb dL_ends_277 (by decide) (by unfold rI; decide) (by unfold rI; decide) (fun h277 => ?_) (fun h9 => absurd h9 (by omega))
  refine lv_iinc (v := iI (2)) (lv' := [(1, .int (iI (2))), (7, .int (iI (4))), (6, .int (iI (1))), (5, .int (iI (15))), (4, .int (iI (1))), (3, .int (iI (0))), (2, .int (iI (0))), (0, .ref y0)]) hx hb dL_ends_301 hl (k := 6) rfl (by decide) (by decide) rfl (fun ls hl => ?_)
  refine lv_goto (tgt := 10) hx hb dL_ends_304 (by decide) ?_
  exact sg_L_ends_3 S hst hR hRc hE hA y0 y2 b pq cq  hret hP hD hS hl
set_option maxHeartbeats 4000000 in
set_option maxRecDepth 100000 in
theorem sg_L_ends_1 {p : Program} {l : Launch} {e : Env} {R : Room} {s : State} {mt : MethodId} {args : Array Value} {below : List Frame} {meth : Method} {c : Code} {H0 : Heap} {Q : State → Prop} {A : Nat → Prop} {D : va_G} {cI cL : ClassId} {tw : Nat} (S : CallFix p mt c cL_ends 8 s args wsL_ends RL) (hst : l.stackTraces = false) (hR : 15 ≤ R.frames ∧ 377 ≤ R.locals) (hRc : 527 ≤ R.cells ∧ 3296 ≤ R.slots) (hE : EV D cI cL tw A s H0) (hA : ∀ q : Nat, H0.size ≤ q → A q) (y0 : Nat) (y2 : Nat) (b : Nat) (pq : Nat) (cq : Nat)  (hret : ∀ (z : Int) (u : Unit) (pc : Nat) (ls : Array Slot) (H : Heap) (locs : List Loc) (cells slots : Nat), decode cL_ends pc = .ok (.ireturn, 1) → (z = 1) → va_P D vwCl [] H → va_D A [] → va_S A H0 H locs → cells ≤ 527 → slots ≤ 3296 → W p l e R s mt args below meth c H locs cells slots Q (F0 mt pc ls [.int (iI z)])) {H : Heap} {locs : List Loc} {ls : Array Slot} (hP : va_P D vwCl [(y0, .inr (1, [.ref b, .ref y2, .int (iI (0)), .int (iI (0)), .int (iI (0)), .int (iI (0))])), (y2, .inl (cI, 4, .inl (aI sC_0))), (b, .inr (0, [.ref pq, .ref cq])), (pq, .inl (cI, 16, .inl (aI sP_0))), (cq, .inl (cI, 136, .inl (aI (cnt sP_0))))] H) (hD : va_D A [(y0, .inr (1, [.ref b, .ref y2, .int (iI (0)), .int (iI (0)), .int (iI (0)), .int (iI (0))])), (y2, .inl (cI, 4, .inl (aI sC_0))), (b, .inr (0, [.ref pq, .ref cq])), (pq, .inl (cI, 16, .inl (aI sP_0))), (cq, .inl (cI, 136, .inl (aI (cnt sP_0))))]) (hS : va_S A H0 H locs) (hl : lv_has ls 8 [(0, .ref y0)]) : W p l e R s mt args below meth c H locs 5 164 Q (F0 mt 8 ls []) := by
  obtain ⟨hx, hb, hml, hown, hts⟩ := id S
  refine r_iconst hx hb dL_ends_8 ?_
  refine lv_istore_n (lv' := [(1, .int (iI (0))), (0, .ref y0)]) hx hb dL_ends_9 rfl hl (by decide) rfl (fun ls hl => ?_)
  refine lv_iload_n hx hb dL_ends_10 rfl (lv_at hl 0 rfl) ?_
  refine r_bipush hx hb dL_ends_11 (by decide) ?_
  refine r_icmp_ge (tgt := 307) hx hb dL_ends_13 (by decide) (by unfold rI; decide) (by unfold rI; decide) (fun h9 => absurd h9 (by omega)) (fun h13 => ?_)
  refine lv_iload_n hx hb dL_ends_16 rfl (lv_at hl 0 rfl) ?_
  refine r_iconst hx hb dL_ends_17 ?_
  refine r_idiv hx hb dL_ends_18 (by omega) (by omega) ?_
  refine r_top (0) (by decide) ?_
  refine r_iconst hx hb dL_ends_19 ?_
  refine r_irem hx hb dL_ends_20 (by omega) (by omega) ?_
  refine r_top (0) (by decide) ?_
  refine lv_istore_n (lv' := [(2, .int (iI (0))), (1, .int (iI (0))), (0, .ref y0)]) hx hb dL_ends_21 rfl hl (by decide) rfl (fun ls hl => ?_)
  refine lv_iload_n hx hb dL_ends_22 rfl (lv_at hl 1 rfl) ?_
  refine r_bipush hx hb dL_ends_23 (by decide) ?_
  refine r_icmp_ge (tgt := 32) hx hb dL_ends_25 (by decide) (by unfold rI; decide) (by unfold rI; decide) (fun h9 => absurd h9 (by omega)) (fun h25 => ?_)
  refine r_iconst hx hb dL_ends_28 ?_
  refine lv_goto (tgt := 37) hx hb dL_ends_29 (by decide) ?_
  refine lv_istore_n (lv' := [(3, .int (iI (0))), (2, .int (iI (0))), (1, .int (iI (0))), (0, .ref y0)]) hx hb dL_ends_37 rfl hl (by decide) rfl (fun ls hl => ?_)
  refine lv_aload_n hx hb dL_ends_38 rfl (lv_at hl 3 rfl) ?_
  refine q_RO (As := []) (rest := []) S (c_X1_onTurn l D cI cL tw (y0) (y2) (b) (pq) (cq) (0) (0) (0) (0) (sP_0) (sC_0) (hb_0) (by omega) (by omega) (by omega) (by omega)) (0) (fun z h => h) gL_ends_X1_onTurn rfl rfl rfl ⟨rfl, f_X1_onTurn⟩ hR (Nat.le_of_ble_eq_true rfl) (Nat.le_of_ble_eq_true rfl) (hE.kept hS.2.1) hP [0, 1, 2, 3, 4] rfl 0 rfl rfl rfl hl.1 rfl (Nat.le_of_ble_eq_true rfl) dL_ends_39 ⟨Nat.le_trans (Nat.le_of_ble_eq_true rfl) hRc.1, Nat.le_trans (Nat.le_of_ble_eq_true rfl) hRc.2⟩ ?_
  refine lv_iload_n hx hb dL_ends_42 rfl (lv_at hl 0 rfl) ?_
  refine r_icmp_ne (tgt := 87) hx hb dL_ends_43 (by decide) (by unfold rI; decide) (by unfold rI; decide) (fun h9 => absurd h9 (by omega)) (fun h43 => ?_)
  refine lv_aload_n hx hb dL_ends_46 rfl (lv_at hl 3 rfl) ?_
  refine q_RO (As := []) (rest := []) S (c_X1_mover l D cI cL tw (y0) (y2) (b) (pq) (cq) (0) (0) (0) (0) (sP_0) (sC_0) (hb_0) (by omega) (by omega) (by omega) (by omega)) (0) (fun z h => h.trans fq_0) gL_ends_X1_mover rfl rfl rfl ⟨rfl, f_X1_mover⟩ hR (Nat.le_of_ble_eq_true rfl) (Nat.le_of_ble_eq_true rfl) (hE.kept hS.2.1) hP [0, 1, 2, 3, 4] rfl 0 rfl rfl rfl hl.1 rfl (Nat.le_of_ble_eq_true rfl) dL_ends_47 ⟨Nat.le_trans (Nat.le_of_ble_eq_true rfl) hRc.1, Nat.le_trans (Nat.le_of_ble_eq_true rfl) hRc.2⟩ ?_
  refine lv_iload_n hx hb dL_ends_50 rfl (lv_at hl 2 rfl) ?_
  refine r_bipush hx hb dL_ends_51 (by decide) ?_
  refine r_icmp_ge (tgt := 60) hx hb dL_ends_53 (by decide) (by unfold rI; decide) (by unfold rI; decide) (fun h9 => absurd h9 (by omega)) (fun h53 => ?_)
  refine r_iconst hx hb dL_ends_56 ?_
  refine lv_goto (tgt := 61) hx hb dL_ends_57 (by decide) ?_
  refine r_icmp_ne (tgt := 87) hx hb dL_ends_61 (by decide) (by unfold rI; decide) (by unfold rI; decide) (fun h9 => absurd h9 (by omega)) (fun h61 => ?_)
  refine lv_aload_n hx hb dL_ends_64 rfl (lv_at hl 3 rfl) ?_
  refine lv_iload_n hx hb dL_ends_65 rfl (lv_at hl 2 rfl) ?_
  refine r_bipush hx hb dL_ends_66 (by decide) ?_
  refine r_icmp_ge (tgt := 75) hx hb dL_ends_68 (by decide) (by unfold rI; decide) (by unfold rI; decide) (fun h9 => absurd h9 (by omega)) (fun h68 => ?_)
  refine r_iconst hx hb dL_ends_71 ?_
  refine lv_goto (tgt := 76) hx hb dL_ends_72 (by decide) ?_
  refine q_Xi (As := [.int (iI (0))]) (rest := []) S (c_X1_home l hst D cI cL tw (y0) (y2) (b) (pq) (cq) (0) (0) (0) (0) (sP_0) (sC_0) (0) (hb_0) (by omega) (by omega) (by omega) (by omega) (by omega)) (0) (fun z h => h.2.2.trans fq_130) (fun E h => by (try dsimp only at h); first | (rcases h with ⟨_, h⟩ | ⟨_, h⟩ <;> omega) | (obtain ⟨_, h⟩ := h; omega)) gL_ends_X1_home rfl rfl rfl ⟨rfl, f_X1_home⟩ hR (Nat.le_of_ble_eq_true rfl) (Nat.le_of_ble_eq_true rfl) (hE.kept hS.2.1) hP hS hA [0, 1, 2, 3, 4] rfl 0 rfl rfl rfl hl.1 rfl (Nat.le_of_ble_eq_true rfl) dL_ends_76 ⟨Nat.le_trans (Nat.le_of_ble_eq_true rfl) hRc.1, Nat.le_trans (Nat.le_of_ble_eq_true rfl) hRc.2⟩ (fun H locs hP hS => ?_)
  refine lv_iload_n hx hb dL_ends_79 rfl (lv_at hl 1 rfl) ?_
  refine r_icmp_ne (tgt := 87) hx hb dL_ends_80 (by decide) (by unfold rI; decide) (by unfold rI; decide) (fun h9 => absurd h9 (by omega)) (fun h80 => ?_)
  refine r_iconst hx hb dL_ends_83 ?_
  refine lv_goto (tgt := 88) hx hb dL_ends_84 (by decide) ?_
  refine lv_istore (lv' := [(4, .int (iI (1))), (3, .int (iI (0))), (2, .int (iI (0))), (1, .int (iI (0))), (0, .ref y0)]) hx hb dL_ends_88 hl (by decide) rfl (fun ls hl => ?_)
  refine r_bipush hx hb dL_ends_90 (by decide) ?_
  refine r_iconst hx hb dL_ends_92 ?_
  refine lv_iload_n hx hb dL_ends_93 rfl (lv_at hl 2 rfl) ?_
  refine r_ishl hx hb (z := 1) dL_ends_94 (by decide) ?_
  refine r_isub hx hb dL_ends_95 ?_
  refine r_top (14) (by decide) ?_
  refine r_iconst hx hb dL_ends_96 ?_
  refine r_iadd hx hb dL_ends_97 ?_
  refine r_top (15) (by decide) ?_
  refine lv_istore (lv' := [(5, .int (iI (15))), (4, .int (iI (1))), (3, .int (iI (0))), (2, .int (iI (0))), (1, .int (iI (0))), (0, .ref y0)]) hx hb dL_ends_98 hl (by decide) rfl (fun ls hl => ?_)
  refine lv_iload_n hx hb dL_ends_100 rfl (lv_at hl 4 rfl) ?_
  refine r_iconst hx hb dL_ends_101 ?_
  refine r_irem hx hb dL_ends_102 (by omega) (by omega) ?_
  refine r_top (0) (by decide) ?_
  refine r_if_ne (tgt := 154) hx hb dL_ends_103 (by decide) (by unfold rI; decide) (fun h9 => absurd h9 (by omega)) (fun h103 => ?_)
  refine lv_aload_n hx hb dL_ends_106 rfl (lv_at hl 5 rfl) ?_
  refine r_bipush hx hb dL_ends_107 (by decide) ?_
  refine lv_iload hx hb dL_ends_109 (lv_at hl 0 rfl) ?_
  refine lv_iload_n hx hb dL_ends_111 rfl (lv_at hl 3 rfl) ?_
  refine r_iconst hx hb dL_ends_112 ?_
  refine q_LM (As := [.ref y0, .int (iI (6)), .int (iI (15)), .int (iI (0)), .int (iI (1))]) (rest := []) (wr := []) S (c_L_goes l hst D cI cL tw (y0) (y2) (b) (pq) (cq) (0) (0) (0) (sP_0) (sC_0) (6) (15) (0) (1) (0) (1) (0) (sP_19) (sC_0) (by omega) (by omega) (by omega) (fq_132)) (1) (()) (fun z u h => ⟨h, rfl⟩) gL_ends_L_goes rfl rfl rfl f_L_goes hR (Nat.le_of_ble_eq_true rfl) (Nat.le_of_ble_eq_true rfl) (hE.kept hS.2.1) hP hD hS hA [0, 1, 2, 3, 4] [] rfl rfl (by decide) rfl (by decide) (by decide) rfl hl.1 rfl (Nat.le_of_ble_eq_true rfl) dL_ends_113 ⟨Nat.le_trans (Nat.le_of_ble_eq_true rfl) hRc.1, Nat.le_trans (Nat.le_of_ble_eq_true rfl) hRc.2⟩ (fun H locs hP hD hS => ?_)
  have hP : va_P D vwCl [(y0, .inr (1, [.ref b, .ref y2, .int (iI (0)), .int (iI (1)), .int (iI (0)), .int (iI (6))])), (y2, .inl (cI, 4, .inl (aI sC_0))), (b, .inr (0, [.ref pq, .ref cq])), (pq, .inl (cI, 16, .inl (aI sP_19))), (cq, .inl (cI, 136, .inl (aI (cnt sP_19))))] H := hP
  have hD : va_D A [(y0, .inr (1, [.ref b, .ref y2, .int (iI (0)), .int (iI (1)), .int (iI (0)), .int (iI (6))])), (y2, .inl (cI, 4, .inl (aI sC_0))), (b, .inr (0, [.ref pq, .ref cq])), (pq, .inl (cI, 16, .inl (aI sP_19))), (cq, .inl (cI, 136, .inl (aI (cnt sP_19))))] := hD
  refine r_if_eq (tgt := 150) hx hb dL_ends_116 (by decide) (by unfold rI; decide) (fun h9 => absurd h9 (by omega)) (fun h116 => ?_)
  refine lv_aload_n hx hb dL_ends_119 rfl (lv_at hl 5 rfl) ?_
  refine r_iconst hx hb dL_ends_120 ?_
  refine lv_iload hx hb dL_ends_121 (lv_at hl 0 rfl) ?_
  refine lv_iload_n hx hb dL_ends_123 rfl (lv_at hl 3 rfl) ?_
  refine r_bipush hx hb dL_ends_124 (by decide) ?_
  refine q_LM (As := [.ref y0, .int (iI (0)), .int (iI (15)), .int (iI (0)), .int (iI (26))]) (rest := []) (wr := []) S (c_L_goes l hst D cI cL tw (y0) (y2) (b) (pq) (cq) (0) (6) (1) (sP_19) (sC_0) (0) (15) (0) (26) (0) (2) (0) (sP_34) (sC_0) (by omega) (by omega) (by omega) (fq_134)) (1) (()) (fun z u h => ⟨h, rfl⟩) gL_ends_L_goes rfl rfl rfl f_L_goes hR (Nat.le_of_ble_eq_true rfl) (Nat.le_of_ble_eq_true rfl) (hE.kept hS.2.1) hP hD hS hA [0, 1, 2, 3, 4] [] rfl rfl (by decide) rfl (by decide) (by decide) rfl hl.1 rfl (Nat.le_of_ble_eq_true rfl) dL_ends_126 ⟨Nat.le_trans (Nat.le_of_ble_eq_true rfl) hRc.1, Nat.le_trans (Nat.le_of_ble_eq_true rfl) hRc.2⟩ (fun H locs hP hD hS => ?_)
  have hP : va_P D vwCl [(y0, .inr (1, [.ref b, .ref y2, .int (iI (0)), .int (iI (2)), .int (iI (0)), .int (iI (0))])), (y2, .inl (cI, 4, .inl (aI sC_0))), (b, .inr (0, [.ref pq, .ref cq])), (pq, .inl (cI, 16, .inl (aI sP_34))), (cq, .inl (cI, 136, .inl (aI (cnt sP_34))))] H := hP
  have hD : va_D A [(y0, .inr (1, [.ref b, .ref y2, .int (iI (0)), .int (iI (2)), .int (iI (0)), .int (iI (0))])), (y2, .inl (cI, 4, .inl (aI sC_0))), (b, .inr (0, [.ref pq, .ref cq])), (pq, .inl (cI, 16, .inl (aI sP_34))), (cq, .inl (cI, 136, .inl (aI (cnt sP_34))))] := hD
  refine r_if_eq (tgt := 150) hx hb dL_ends_129 (by decide) (by unfold rI; decide) (fun h9 => absurd h9 (by omega)) (fun h129 => ?_)
  refine lv_aload_n hx hb dL_ends_132 rfl (lv_at hl 5 rfl) ?_
  refine r_iconst hx hb dL_ends_133 ?_
  refine r_iconst hx hb dL_ends_134 ?_
  refine lv_iload_n hx hb dL_ends_135 rfl (lv_at hl 3 rfl) ?_
  refine r_ishl hx hb (z := 1) dL_ends_136 (by decide) ?_
  refine lv_iload_n hx hb dL_ends_137 rfl (lv_at hl 3 rfl) ?_
  refine r_bipush hx hb dL_ends_138 (by decide) ?_
  refine q_LM (As := [.ref y0, .int (iI (3)), .int (iI (1)), .int (iI (0)), .int (iI (29))]) (rest := []) (wr := []) S (c_L_goes l hst D cI cL tw (y0) (y2) (b) (pq) (cq) (0) (0) (2) (sP_34) (sC_0) (3) (1) (0) (29) (1) (0) (0) (sP_35) (sC_0) (by omega) (by omega) (by omega) (fq_136)) (1) (()) (fun z u h => ⟨h, rfl⟩) gL_ends_L_goes rfl rfl rfl f_L_goes hR (Nat.le_of_ble_eq_true rfl) (Nat.le_of_ble_eq_true rfl) (hE.kept hS.2.1) hP hD hS hA [0, 1, 2, 3, 4] [] rfl rfl (by decide) rfl (by decide) (by decide) rfl hl.1 rfl (Nat.le_of_ble_eq_true rfl) dL_ends_140 ⟨Nat.le_trans (Nat.le_of_ble_eq_true rfl) hRc.1, Nat.le_trans (Nat.le_of_ble_eq_true rfl) hRc.2⟩ (fun H locs hP hD hS => ?_)
  have hP : va_P D vwCl [(y0, .inr (1, [.ref b, .ref y2, .int (iI (1)), .int (iI (0)), .int (iI (0)), .int (iI (3))])), (y2, .inl (cI, 4, .inl (aI sC_0))), (b, .inr (0, [.ref pq, .ref cq])), (pq, .inl (cI, 16, .inl (aI sP_35))), (cq, .inl (cI, 136, .inl (aI (cnt sP_35))))] H := hP
  have hD : va_D A [(y0, .inr (1, [.ref b, .ref y2, .int (iI (1)), .int (iI (0)), .int (iI (0)), .int (iI (3))])), (y2, .inl (cI, 4, .inl (aI sC_0))), (b, .inr (0, [.ref pq, .ref cq])), (pq, .inl (cI, 16, .inl (aI sP_35))), (cq, .inl (cI, 136, .inl (aI (cnt sP_35))))] := hD
  refine r_if_eq (tgt := 150) hx hb dL_ends_143 (by decide) (by unfold rI; decide) (fun h9 => absurd h9 (by omega)) (fun h143 => ?_)
  refine r_iconst hx hb dL_ends_146 ?_
  refine lv_goto (tgt := 238) hx hb dL_ends_147 (by decide) ?_
  refine lv_istore (lv' := [(6, .int (iI (1))), (5, .int (iI (15))), (4, .int (iI (1))), (3, .int (iI (0))), (2, .int (iI (0))), (1, .int (iI (0))), (0, .ref y0)]) hx hb dL_ends_238 hl (by decide) rfl (fun ls hl => ?_)
  refine lv_iload hx hb dL_ends_240 (lv_at hl 2 rfl) ?_
  refine r_if_eq (tgt := 250) hx hb dL_ends_242 (by decide) (by unfold rI; decide) (fun h9 => absurd h9 (by omega)) (fun h242 => ?_)
  refine lv_iload hx hb dL_ends_245 (lv_at hl 0 rfl) ?_
  refine r_if_ne (tgt := 252) hx hb dL_ends_247 (by decide) (by unfold rI; decide) (fun h247 => ?_) (fun h9 => absurd h9 (by omega))
  refine lv_iload_n hx hb dL_ends_252 rfl (lv_at hl 5 rfl) ?_
  refine r_bipush hx hb dL_ends_253 (by decide) ?_
  refine r_icmp_ne (tgt := 261) hx hb dL_ends_255 (by decide) (by unfold rI; decide) (by unfold rI; decide) (fun h255 => ?_) (fun h9 => absurd h9 (by omega))
  refine r_iconst hx hb dL_ends_261 ?_
  refine lv_istore (lv' := [(7, .int (iI (1))), (6, .int (iI (1))), (5, .int (iI (15))), (4, .int (iI (1))), (3, .int (iI (0))), (2, .int (iI (0))), (1, .int (iI (0))), (0, .ref y0)]) hx hb dL_ends_262 hl (by decide) rfl (fun ls hl => ?_)
  refine lv_iload hx hb dL_ends_264 (lv_at hl 0 rfl) ?_
  refine lv_iload_n hx hb dL_ends_266 rfl (lv_at hl 6 rfl) ?_
  refine r_bipush hx hb dL_ends_267 (by decide) ?_
  refine r_icmp_ge (tgt := 276) hx hb dL_ends_269 (by decide) (by unfold rI; decide) (by unfold rI; decide) (fun h9 => absurd h9 (by omega)) (fun h269 => ?_)
  refine r_iconst hx hb dL_ends_272 ?_
  refine lv_goto (tgt := 277) hx hb dL_ends_273 (by decide) ?_
  refine r_icmp_ge (tgt := 301) hx hb dL_ends_277 (by decide) (by unfold rI; decide) (by unfold rI; decide) (fun h9 => absurd h9 (by omega)) (fun h277 => ?_)
  refine lv_aload_n hx hb dL_ends_280 rfl (lv_at hl 7 rfl) ?_
  refine lv_iload_n hx hb dL_ends_281 rfl (lv_at hl 4 rfl) ?_
  refine lv_iload hx hb dL_ends_282 (lv_at hl 0 rfl) ?_
  refine r_iadd hx hb dL_ends_284 ?_
  refine r_top (1) (by decide) ?_
  refine r_iconst hx hb dL_ends_285 ?_
  refine r_irem hx hb dL_ends_286 (by omega) (by omega) ?_
  refine r_top (1) (by decide) ?_
  refine q_LM (As := [.ref y0, .int (iI (1))]) (rest := []) (wr := []) S (c_L_loses l hst D cI cL tw (y0) (y2) (b) (pq) (cq) (1) (3) (0) (sP_35) (sC_0) (2) (hb_35) (by omega) (by omega) (by omega) (fq_137) (by omega)) (1) (()) (fun z u h => ⟨h, rfl⟩) gL_ends_L_loses rfl rfl rfl f_L_loses hR (Nat.le_of_ble_eq_true rfl) (Nat.le_of_ble_eq_true rfl) (hE.kept hS.2.1) hP hD hS hA [0, 1, 2, 3, 4] [] rfl rfl (by decide) rfl (by decide) (by decide) rfl hl.1 rfl (Nat.le_of_ble_eq_true rfl) dL_ends_287 ⟨Nat.le_trans (Nat.le_of_ble_eq_true rfl) hRc.1, Nat.le_trans (Nat.le_of_ble_eq_true rfl) hRc.2⟩ (fun H locs hP hD hS => ?_)
  have hP : va_P D vwCl [(y0, .inr (1, [.ref b, .ref y2, .int (iI (2)), .int (iI (0)), .int (iI (0)), .int (iI (3))])), (y2, .inl (cI, 4, .inl (aI sC_0))), (b, .inr (0, [.ref pq, .ref cq])), (pq, .inl (cI, 16, .inl (aI sP_35))), (cq, .inl (cI, 136, .inl (aI (cnt sP_35))))] H := hP
  have hD : va_D A [(y0, .inr (1, [.ref b, .ref y2, .int (iI (2)), .int (iI (0)), .int (iI (0)), .int (iI (3))])), (y2, .inl (cI, 4, .inl (aI sC_0))), (b, .inr (0, [.ref pq, .ref cq])), (pq, .inl (cI, 16, .inl (aI sP_35))), (cq, .inl (cI, 136, .inl (aI (cnt sP_35))))] := hD
  refine r_if_ne (tgt := 295) hx hb dL_ends_290 (by decide) (by unfold rI; decide) (fun h290 => ?_) (fun h9 => absurd h9 (by omega))
  refine lv_iinc (v := iI (2)) (lv' := [(7, .int (iI (2))), (6, .int (iI (1))), (5, .int (iI (15))), (4, .int (iI (1))), (3, .int (iI (0))), (2, .int (iI (0))), (1, .int (iI (0))), (0, .ref y0)]) hx hb dL_ends_295 hl (k := 0) rfl (by decide) (by decide) rfl (fun ls hl => ?_)
  refine lv_goto (tgt := 264) hx hb dL_ends_298 (by decide) ?_
  refine lv_iload hx hb dL_ends_264 (lv_at hl 0 rfl) ?_
  refine lv_iload_n hx hb dL_ends_266 rfl (lv_at hl 6 rfl) ?_
  refine r_bipush hx hb dL_ends_267 (by decide) ?_
  refine r_icmp_ge (tgt := 276) hx hb dL_ends_269 (by decide) (by unfold rI; decide) (by unfold rI; decide) (fun h9 => absurd h9 (by omega)) (fun h269 => ?_)
  refine r_iconst hx hb dL_ends_272 ?_
  refine lv_goto (tgt := 277) hx hb dL_ends_273 (by decide) ?_
  refine r_icmp_ge (tgt := 301) hx hb dL_ends_277 (by decide) (by unfold rI; decide) (by unfold rI; decide) (fun h9 => absurd h9 (by omega)) (fun h277 => ?_)
  refine lv_aload_n hx hb dL_ends_280 rfl (lv_at hl 7 rfl) ?_
  refine lv_iload_n hx hb dL_ends_281 rfl (lv_at hl 4 rfl) ?_
  refine lv_iload hx hb dL_ends_282 (lv_at hl 0 rfl) ?_
  refine r_iadd hx hb dL_ends_284 ?_
  refine r_top (2) (by decide) ?_
  refine r_iconst hx hb dL_ends_285 ?_
  refine r_irem hx hb dL_ends_286 (by omega) (by omega) ?_
  refine r_top (2) (by decide) ?_
  refine q_LM (As := [.ref y0, .int (iI (2))]) (rest := []) (wr := []) S (c_L_loses l hst D cI cL tw (y0) (y2) (b) (pq) (cq) (2) (3) (0) (sP_35) (sC_0) (3) (hb_35) (by omega) (by omega) (by omega) (fq_138) (by omega)) (1) (()) (fun z u h => ⟨h, rfl⟩) gL_ends_L_loses rfl rfl rfl f_L_loses hR (Nat.le_of_ble_eq_true rfl) (Nat.le_of_ble_eq_true rfl) (hE.kept hS.2.1) hP hD hS hA [0, 1, 2, 3, 4] [] rfl rfl (by decide) rfl (by decide) (by decide) rfl hl.1 rfl (Nat.le_of_ble_eq_true rfl) dL_ends_287 ⟨Nat.le_trans (Nat.le_of_ble_eq_true rfl) hRc.1, Nat.le_trans (Nat.le_of_ble_eq_true rfl) hRc.2⟩ (fun H locs hP hD hS => ?_)
  have hP : va_P D vwCl [(y0, .inr (1, [.ref b, .ref y2, .int (iI (3)), .int (iI (0)), .int (iI (0)), .int (iI (3))])), (y2, .inl (cI, 4, .inl (aI sC_0))), (b, .inr (0, [.ref pq, .ref cq])), (pq, .inl (cI, 16, .inl (aI sP_35))), (cq, .inl (cI, 136, .inl (aI (cnt sP_35))))] H := hP
  have hD : va_D A [(y0, .inr (1, [.ref b, .ref y2, .int (iI (3)), .int (iI (0)), .int (iI (0)), .int (iI (3))])), (y2, .inl (cI, 4, .inl (aI sC_0))), (b, .inr (0, [.ref pq, .ref cq])), (pq, .inl (cI, 16, .inl (aI sP_35))), (cq, .inl (cI, 136, .inl (aI (cnt sP_35))))] := hD
  refine r_if_ne (tgt := 295) hx hb dL_ends_290 (by decide) (by unfold rI; decide) (fun h290 => ?_) (fun h9 => absurd h9 (by omega))
  refine lv_iinc (v := iI (3)) (lv' := [(7, .int (iI (3))), (6, .int (iI (1))), (5, .int (iI (15))), (4, .int (iI (1))), (3, .int (iI (0))), (2, .int (iI (0))), (1, .int (iI (0))), (0, .ref y0)]) hx hb dL_ends_295 hl (k := 0) rfl (by decide) (by decide) rfl (fun ls hl => ?_)
  refine lv_goto (tgt := 264) hx hb dL_ends_298 (by decide) ?_
  refine lv_iload hx hb dL_ends_264 (lv_at hl 0 rfl) ?_
  refine lv_iload_n hx hb dL_ends_266 rfl (lv_at hl 6 rfl) ?_
  refine r_bipush hx hb dL_ends_267 (by decide) ?_
  refine r_icmp_ge (tgt := 276) hx hb dL_ends_269 (by decide) (by unfold rI; decide) (by unfold rI; decide) (fun h9 => absurd h9 (by omega)) (fun h269 => ?_)
  refine r_iconst hx hb dL_ends_272 ?_
  refine lv_goto (tgt := 277) hx hb dL_ends_273 (by decide) ?_
  refine r_icmp_ge (tgt := 301) hx hb dL_ends_277 (by decide) (by unfold rI; decide) (by unfold rI; decide) (fun h9 => absurd h9 (by omega)) (fun h277 => ?_)
  refine lv_aload_n hx hb dL_ends_280 rfl (lv_at hl 7 rfl) ?_
  refine lv_iload_n hx hb dL_ends_281 rfl (lv_at hl 4 rfl) ?_
  refine lv_iload hx hb dL_ends_282 (lv_at hl 0 rfl) ?_
  refine r_iadd hx hb dL_ends_284 ?_
  refine r_top (3) (by decide) ?_
  refine r_iconst hx hb dL_ends_285 ?_
  refine r_irem hx hb dL_ends_286 (by omega) (by omega) ?_
  refine r_top (3) (by decide) ?_
  refine q_LM (As := [.ref y0, .int (iI (3))]) (rest := []) (wr := []) S (c_L_loses l hst D cI cL tw (y0) (y2) (b) (pq) (cq) (3) (3) (0) (sP_35) (sC_0) (0) (hb_35) (by omega) (by omega) (by omega) (fq_139) (by omega)) (1) (()) (fun z u h => ⟨h, rfl⟩) gL_ends_L_loses rfl rfl rfl f_L_loses hR (Nat.le_of_ble_eq_true rfl) (Nat.le_of_ble_eq_true rfl) (hE.kept hS.2.1) hP hD hS hA [0, 1, 2, 3, 4] [] rfl rfl (by decide) rfl (by decide) (by decide) rfl hl.1 rfl (Nat.le_of_ble_eq_true rfl) dL_ends_287 ⟨Nat.le_trans (Nat.le_of_ble_eq_true rfl) hRc.1, Nat.le_trans (Nat.le_of_ble_eq_true rfl) hRc.2⟩ (fun H locs hP hD hS => ?_)
  have hP : va_P D vwCl [(y0, .inr (1, [.ref b, .ref y2, .int (iI (0)), .int (iI (0)), .int (iI (0)), .int (iI (3))])), (y2, .inl (cI, 4, .inl (aI sC_0))), (b, .inr (0, [.ref pq, .ref cq])), (pq, .inl (cI, 16, .inl (aI sP_35))), (cq, .inl (cI, 136, .inl (aI (cnt sP_35))))] H := hP
  have hD : va_D A [(y0, .inr (1, [.ref b, .ref y2, .int (iI (0)), .int (iI (0)), .int (iI (0)), .int (iI (3))])), (y2, .inl (cI, 4, .inl (aI sC_0))), (b, .inr (0, [.ref pq, .ref cq])), (pq, .inl (cI, 16, .inl (aI sP_35))), (cq, .inl (cI, 136, .inl (aI (cnt sP_35))))] := hD
  refine r_if_ne (tgt := 295) hx hb dL_ends_290 (by decide) (by unfold rI; decide) (fun h290 => ?_) (fun h9 => absurd h9 (by omega))
  refine lv_iinc (v := iI (4)) (lv' := [(7, .int (iI (4))), (6, .int (iI (1))), (5, .int (iI (15))), (4, .int (iI (1))), (3, .int (iI (0))), (2, .int (iI (0))), (1, .int (iI (0))), (0, .ref y0)]) hx hb dL_ends_295 hl (k := 0) rfl (by decide) (by decide) rfl (fun ls hl => ?_)
  refine lv_goto (tgt := 264) hx hb dL_ends_298 (by decide) ?_
  refine lv_iload hx hb dL_ends_264 (lv_at hl 0 rfl) ?_
  refine lv_iload_n hx hb dL_ends_266 rfl (lv_at hl 6 rfl) ?_
  refine r_bipush hx hb dL_ends_267 (by decide) ?_
  refine r_icmp_ge (tgt := 276) hx hb dL_ends_269 (by decide) (by unfold rI; decide) (by unfold rI; decide) (fun h9 => absurd h9 (by omega)) (fun h269 => ?_)
  refine r_iconst hx hb dL_ends_272 ?_
  refine lv_goto (tgt := 277) hx hb dL_ends_273 (by decide) ?_
  refine r_icmp_ge (tgt := 301) hx hb dL_ends_277 (by decide) (by unfold rI; decide) (by unfold rI; decide) (fun h277 => ?_) (fun h9 => absurd h9 (by omega))
  refine lv_iinc (v := iI (1)) (lv' := [(1, .int (iI (1))), (7, .int (iI (4))), (6, .int (iI (1))), (5, .int (iI (15))), (4, .int (iI (1))), (3, .int (iI (0))), (2, .int (iI (0))), (0, .ref y0)]) hx hb dL_ends_301 hl (k := 6) rfl (by decide) (by decide) rfl (fun ls hl => ?_)
  refine lv_goto (tgt := 10) hx hb dL_ends_304 (by decide) ?_
  exact sg_L_ends_2 S hst hR hRc hE hA y0 y2 b pq cq  hret hP hD hS hl
set_option maxHeartbeats 4000000 in
set_option maxRecDepth 100000 in
theorem c_L_ends (l : Launch) (hst : l.stackTraces = false) (D : va_G) (cI cL : ClassId) (tw : Nat)   : RWm l yL_ends wsL_ends { frames := 15, cells := 527, slots := 3296, locals := 377 } D cI cL tw [] [] (fun (z : Int) (u : Unit) => z = 1) (fun _ : Unit => []) 527 3296 := by
  refine rwm_of (cc := cL_ends) (maxL := 8) (rt := .boolean) (own := RL) (by decide) rfl rfl ⟨rfl, fun z u h => Or.inr h⟩ (Nat.le_of_ble_eq_true rfl) ?_
  intro p e R s mt args below meth c H0 Q ls A S hR hRc hE hP hD hS hA hl hret
  obtain ⟨hx, hb, hml, hown, hts⟩ := id S
  have hl : lv_has ls 8 [] := hl
  refine va_new (D := D) (ci := 1) (fs := [.null, .null, .int (iI (0)), .int (iI (0)), .int (iI (0)), .int (iI (0))]) (C := RX1) (T := TX1) (N := 6) hx hb hts mu_L_ends_X1 tyX1 tyX1_ok hown (hts _ mw_L_ends_1) (hts _ mw_L_ends_2) (hts _ mw_L_ends_3) hE.1 hP hD hS hA rfl (fun j hj => by rcases (show j = 0 ∨ j = 1 ∨ j = 2 ∨ j = 3 ∨ j = 4 ∨ j = 5 by omega) with rfl | rfl | rfl | rfl | rfl | rfl <;> rfl) (Nat.le_trans (Nat.le_of_ble_eq_true rfl) hRc.1) (Nat.le_trans (Nat.le_of_ble_eq_true rfl) hRc.2) dL_ends_0 (fun q0 H hP hD hS => ?_)
  have hP : va_P D vwCl [(q0, .inr (1, [.null, .null, .int (iI (0)), .int (iI (0)), .int (iI (0)), .int (iI (0))]))] H := hP
  have hD : va_D A [(q0, .inr (1, [.null, .null, .int (iI (0)), .int (iI (0)), .int (iI (0)), .int (iI (0))]))] := hD
  refine lv_dup hx hb dL_ends_3 rfl ?_
  refine r_callC (As := []) (rest := [.ref q0]) (wr := []) S (c_X1_init l D cI cL tw q0) gL_ends_X1_init rfl rfl rfl (hts _ mw_L_ends_3) (hts _ mw_L_ends_4) (hts _ mw_L_ends_5) rfl f_X1_init hR (Nat.le_of_ble_eq_true rfl) (Nat.le_of_ble_eq_true rfl) (hE.kept hS.2.1) hP hD hS hA [0] [] rfl rfl (by decide) rfl (by decide) (by decide) rfl hl.1 rfl (Nat.le_of_ble_eq_true rfl) dL_ends_4 ⟨Nat.le_trans (Nat.le_of_ble_eq_true rfl) hRc.1, Nat.le_trans (Nat.le_of_ble_eq_true rfl) hRc.2⟩ (fun u4 H locs hP hD hS => ?_)
  obtain ⟨u4a, u4b, u4c, u4d⟩ := u4
  have hP : va_P D vwCl [(q0, .inr (1, [.ref u4a, .ref u4b, .int (iI (0)), .int (iI (0)), .int (iI (0)), .int (iI (0))])), (u4b, .inl (cI, 4, .inl (aI (fun _ => 0)))), (u4a, .inr (0, [.ref u4c, .ref u4d])), (u4c, .inl (cI, 16, .inl (aI (fun _ => 0)))), (u4d, .inl (cI, 136, .inl (aI (cnt (fun _ => 0)))))] H := hP
  have hD : va_D A [(q0, .inr (1, [.ref u4a, .ref u4b, .int (iI (0)), .int (iI (0)), .int (iI (0)), .int (iI (0))])), (u4b, .inl (cI, 4, .inl (aI (fun _ => 0)))), (u4a, .inr (0, [.ref u4c, .ref u4d])), (u4c, .inl (cI, 16, .inl (aI (fun _ => 0)))), (u4d, .inl (cI, 136, .inl (aI (cnt (fun _ => 0)))))] := hD
  refine lv_astore_n (lv' := [(0, .ref q0)]) hx hb dL_ends_7 rfl hl (by decide) rfl (fun ls hl => ?_)
  have hP : va_P D vwCl [(q0, .inr (1, [.ref u4a, .ref u4b, .int (iI (0)), .int (iI (0)), .int (iI (0)), .int (iI (0))])), (u4b, .inl (cI, 4, .inl (aI sC_0))), (u4a, .inr (0, [.ref u4c, .ref u4d])), (u4c, .inl (cI, 16, .inl (aI sP_0))), (u4d, .inl (cI, 136, .inl (aI (cnt sP_0))))] H := by have e1 : sP_0 = fun _ => 0 := pN_16; have e2 : sC_0 = fun _ => 0 := pN_4; rw [e1, e2]; exact hP
  have hD : va_D A [(q0, .inr (1, [.ref u4a, .ref u4b, .int (iI (0)), .int (iI (0)), .int (iI (0)), .int (iI (0))])), (u4b, .inl (cI, 4, .inl (aI sC_0))), (u4a, .inr (0, [.ref u4c, .ref u4d])), (u4c, .inl (cI, 16, .inl (aI sP_0))), (u4d, .inl (cI, 136, .inl (aI (cnt sP_0))))] := by have e1 : sP_0 = fun _ => 0 := pN_16; have e2 : sC_0 = fun _ => 0 := pN_4; rw [e1, e2]; exact hD
  exact sg_L_ends_1 S hst hR hRc hE hA q0 u4b u4a u4c u4d  hret hP hD hS hl
