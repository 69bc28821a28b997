set_option maxRecDepth 20000 in
theorem mu_L_law_st_X1 : ∀ w ∈ wsX10, w ∈ wsL_law := by decide +kernel
set_option maxRecDepth 20000 in
theorem mw_L_law_start_1 : (.classLink RL 8 RX1 : Cond) ∈ wsL_law := by decide +kernel
set_option maxRecDepth 20000 in
theorem mw_L_law_start_2 : (.instantiable RX1 6 : Cond) ∈ wsL_law := by decide +kernel
set_option maxRecDepth 20000 in
theorem mw_L_law_start_3 : (.initialized RX1 : Cond) ∈ wsL_law := by decide +kernel
set_option maxRecDepth 20000 in
theorem mw_L_law_start_4 : (.methodLink RL 72 yX1_init : Cond) ∈ wsL_law := by decide +kernel
set_option maxRecDepth 20000 in
theorem mw_L_law_start_5 : (.instanceMethod yX1_init : Cond) ∈ wsL_law := by decide +kernel
set_option maxHeartbeats 4000000 in
set_option maxRecDepth 100000 in
theorem whole_start {p : Program} {e : Env} {s : State} {m : MethodId} {below : List Frame} {meth : Method} {c : Code} (l : Launch) (hflags : l.flags = flags0) {b L : Nat} {xs : Nat → Int32} (hL : L ≤ 260) (C0 : lw_At p s m meth c b L xs) : W p l e room_1 s m #[Value.ref b] below meth c s.heap [] 0 0 (lw_Z below #[Value.ref b] s) (entryFrame m ([Value.ref b] : List Value).toArray 8) := by
  obtain ⟨hx, hb, hr, hml, hown, htt, hX, hbl, hlocks, hgv⟩ := id C0
  have hst : l.stackTraces = false := by unfold Launch.stackTraces; rw [hflags]; decide
  obtain ⟨D, cI, cL, tw, hE⟩ := ev_start htt hgv
  have hts : ∀ w ∈ wsL_law, w.before #[Value.ref b] s = true := fun w h => htt w (wsL_law_in w h)
  have S : CallFix p m c cL_law 8 s #[Value.ref b] wsL_law RL := ⟨hx, hb, hml, hown, hts⟩
  have hR : room_1.frames ≤ room_1.frames ∧ room_1.locals ≤ room_1.locals := ⟨Nat.le_refl _, Nat.le_refl _⟩
  have hA : ∀ q : Nat, s.heap.size ≤ q → (fun q : Nat => s.heap.size ≤ q) q := fun _ h => h
  have hbA : ¬ (fun q : Nat => s.heap.size ≤ q) b := Nat.not_le.mpr hbl
  have hS : va_S (fun q : Nat => s.heap.size ≤ q) s.heap s.heap [] := va_S.rf
  have hP : va_P D vwCl [] s.heap := fun k q h => by simp at h
  have hD : va_D (fun q : Nat => s.heap.size ≤ q) [] := ⟨fun i j p q h => by simp at h, fun k q h => by simp at h⟩
  have hl := lv_entry ([.ref b]) (n := 8) (Nat.le_of_ble_eq_true rfl)
  rw [lg_entry_eq]
  generalize (lg_sl ([.ref b]) ++ List.replicate (8 - (lg_sl ([.ref b])).length) Slot.unset).toArray = ls at hl ⊢
  have hl : lv_has ls 8 [(0, .ref b)] := hl
  generalize hAq : (fun q : Nat => s.heap.size ≤ q) = A at hE hA hbA hS hD
  have hAd : ∀ q : Nat, A q → s.heap.size ≤ q := fun q h => by rw [← hAq] at h; exact h
  refine q_LM (As := []) (rest := []) (wr := []) S (c_L_captures l hst D cI cL tw  ) (1) (()) (fun z u h => ⟨h, rfl⟩) gL_law_L_captures rfl rfl rfl f_L_captures hR (Nat.le_of_ble_eq_true rfl) (Nat.le_of_ble_eq_true rfl) (hE.kept hS.2.1) hP hD hS hA [] [] rfl rfl (by decide) rfl (by decide) (by decide) rfl hl.1 rfl (Nat.le_of_ble_eq_true rfl) dL_law_0 ⟨by show 0 + 623 ≤ 643173; omega, by show 0 + 3872 ≤ 7171948; omega⟩ (fun H locs hP hD hS => ?_)
  have hP : va_P D vwCl [] H := hP
  have hD : va_D A [] := hD
  refine r_if_eq (tgt := 18) hx hb dL_law_3 (by decide) (by unfold rI; decide) (fun h9 => absurd h9 (by omega)) (fun h3 => ?_)
  refine q_LM (As := []) (rest := []) (wr := []) S (c_L_castles l hst D cI cL tw  ) (1) (()) (fun z u h => ⟨h, rfl⟩) gL_law_L_castles rfl rfl rfl f_L_castles hR (Nat.le_of_ble_eq_true rfl) (Nat.le_of_ble_eq_true rfl) (hE.kept hS.2.1) hP hD hS hA [] [] rfl rfl (by decide) rfl (by decide) (by decide) rfl hl.1 rfl (Nat.le_of_ble_eq_true rfl) dL_law_6 ⟨by show (0 + 623) + 108 ≤ 643173; omega, by show (0 + 3872) + 782 ≤ 7171948; omega⟩ (fun H locs hP hD hS => ?_)
  have hP : va_P D vwCl [] H := hP
  have hD : va_D A [] := hD
  refine r_if_eq (tgt := 18) hx hb dL_law_9 (by decide) (by unfold rI; decide) (fun h9 => absurd h9 (by omega)) (fun h9 => ?_)
  refine q_LM (As := []) (rest := []) (wr := []) S (c_L_ends l hst D cI cL tw  ) (1) (()) (fun z u h => ⟨h, rfl⟩) gL_law_L_ends rfl rfl rfl f_L_ends hR (Nat.le_of_ble_eq_true rfl) (Nat.le_of_ble_eq_true rfl) (hE.kept hS.2.1) hP hD hS hA [] [] rfl rfl (by decide) rfl (by decide) (by decide) rfl hl.1 rfl (Nat.le_of_ble_eq_true rfl) dL_law_12 ⟨by show ((0 + 623) + 108) + 527 ≤ 643173; omega, by show ((0 + 3872) + 782) + 3296 ≤ 7171948; omega⟩ (fun H locs hP hD hS => ?_)
  have hP : va_P D vwCl [] H := hP
  have hD : va_D A [] := hD
  refine r_if_ne (tgt := 20) hx hb dL_law_15 (by decide) (by unfold rI; decide) (fun h15 => ?_) (fun h9 => absurd h9 (by omega))
  refine va_new (D := D) (ci := 1) (fs := [.null, .null, .int (iI (0)), .int (iI (0)), .int (iI (0)), .int (iI (0))]) (C := RX1) (T := TX1) (N := 6) hx hb hts mu_L_law_st_X1 tyX1 tyX1_ok hown (hts _ mw_L_law_start_1) (hts _ mw_L_law_start_2) (hts _ mw_L_law_start_3) hE.1 hP hD hS hA rfl (fun j hj => by rcases (show j = 0 ∨ j = 1 ∨ j = 2 ∨ j = 3 ∨ j = 4 ∨ j = 5 by omega) with rfl | rfl | rfl | rfl | rfl | rfl <;> rfl) (Nat.le_of_ble_eq_true rfl) (Nat.le_of_ble_eq_true rfl) dL_law_20 (fun q20 H hP hD hS => ?_)
  have hP : va_P D vwCl [(q20, .inr (1, [.null, .null, .int (iI (0)), .int (iI (0)), .int (iI (0)), .int (iI (0))]))] H := hP
  have hD : va_D A [(q20, .inr (1, [.null, .null, .int (iI (0)), .int (iI (0)), .int (iI (0)), .int (iI (0))]))] := hD
  refine lv_dup hx hb dL_law_23 rfl ?_
  refine r_callC (As := []) (rest := [.ref q20]) (wr := []) S (c_X1_init l D cI cL tw q20) gL_law_X1_init rfl rfl rfl (hts _ mw_L_law_start_3) (hts _ mw_L_law_start_4) (hts _ mw_L_law_start_5) rfl f_X1_init hR (Nat.le_of_ble_eq_true rfl) (Nat.le_of_ble_eq_true rfl) (hE.kept hS.2.1) hP hD hS hA [0] [] rfl rfl (by decide) rfl (by decide) (by decide) rfl hl.1 rfl (Nat.le_of_ble_eq_true rfl) dL_law_24 ⟨by show ((((0 + 623) + 108) + 527) + 1) + 4 ≤ 643173; omega, by show ((((0 + 3872) + 782) + 3296) + 6) + 158 ≤ 7171948; omega⟩ (fun u24 H locs hP hD hS => ?_)
  obtain ⟨u24a, u24b, u24c, u24d⟩ := u24
  have hP : va_P D vwCl [(q20, .inr (1, [.ref u24a, .ref u24b, .int (iI (0)), .int (iI (0)), .int (iI (0)), .int (iI (0))])), (u24b, .inl (cI, 4, .inl (aI (fun _ => 0)))), (u24a, .inr (0, [.ref u24c, .ref u24d])), (u24c, .inl (cI, 16, .inl (aI (fun _ => 0)))), (u24d, .inl (cI, 136, .inl (aI (cnt (fun _ => 0)))))] H := hP
  have hD : va_D A [(q20, .inr (1, [.ref u24a, .ref u24b, .int (iI (0)), .int (iI (0)), .int (iI (0)), .int (iI (0))])), (u24b, .inl (cI, 4, .inl (aI (fun _ => 0)))), (u24a, .inr (0, [.ref u24c, .ref u24d])), (u24c, .inl (cI, 16, .inl (aI (fun _ => 0)))), (u24d, .inl (cI, 136, .inl (aI (cnt (fun _ => 0)))))] := hD
  refine lv_astore_n (lv' := [(1, .ref q20), (0, .ref b)]) hx hb dL_law_27 rfl hl (by decide) rfl (fun ls hl => ?_)
  refine r_iconst hx hb dL_law_28 ?_
  refine lv_istore_n (lv' := [(2, .int (iI (0))), (1, .ref q20), (0, .ref b)]) hx hb dL_law_29 rfl hl (by decide) rfl (fun ls hl => ?_)
  have hP : va_P D vwCl [(q20, .inr (1, [.ref u24a, .ref u24b, .int (iI (0)), .int (iI (0)), .int (iI (0)), .int (iI (0))])), (u24b, .inl (cI, 4, .inl (aI (fun _ => 0)))), (u24a, .inr (0, [.ref u24c, .ref u24d])), (u24c, .inl (cI, 16, .inl (aI (fun _ => 0)))), (u24d, .inl (cI, 136, .inl (aI (cnt (fun _ => 0)))))] H := hP
  have hD : va_D A [(q20, .inr (1, [.ref u24a, .ref u24b, .int (iI (0)), .int (iI (0)), .int (iI (0)), .int (iI (0))])), (u24b, .inl (cI, 4, .inl (aI (fun _ => 0)))), (u24a, .inr (0, [.ref u24c, .ref u24d])), (u24c, .inl (cI, 16, .inl (aI (fun _ => 0)))), (u24d, .inl (cI, 136, .inl (aI (cnt (fun _ => 0)))))] := hD
  exact law_out S hst hE hA hX hbl hbA hL hr hlocks hAd q20 u24b u24a u24c u24d 40 0 _ _ 0 0 0 (fun _ => 0) (fun _ => 0) _ _ _ (by decide) (by decide) (by decide) ⟨by omega, by omega, by omega, by omega, fun i => (by decide : (0 : Int) ≤ 0 ∧ (0 : Int) ≤ 72), by rw [PW_0]; decide⟩ hP hD hS (lv_sub hl [0, 2, 1] rfl)
