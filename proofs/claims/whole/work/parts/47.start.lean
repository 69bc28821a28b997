set_option maxRecDepth 20000 in
theorem mu_law_start_X1 : ∀ w ∈ wsX10, w ∈ wsL_law := by decide +kernel
set_option maxRecDepth 20000 in
theorem mw_law_start_1 : (.classLink RL 8 RX1 : Cond) ∈ wsL_law := by decide +kernel
set_option maxRecDepth 20000 in
theorem mw_law_start_2 : (.instantiable RX1 6 : Cond) ∈ wsL_law := by decide +kernel
set_option maxRecDepth 20000 in
theorem mw_law_start_3 : (.initialized RX1 : Cond) ∈ wsL_law := by decide +kernel
set_option maxRecDepth 20000 in
theorem mw_law_start_4 : (.methodLink RL 59 yX1_init : Cond) ∈ wsL_law := by decide +kernel
set_option maxRecDepth 20000 in
theorem mw_law_start_5 : (.instanceMethod yX1_init : Cond) ∈ wsL_law := by decide +kernel
set_option maxRecDepth 20000 in
theorem mu_law_start_X2 : ∀ w ∈ wsX20, w ∈ wsL_law := by decide +kernel
set_option maxRecDepth 20000 in
theorem mw_law_start_7 : (.classLink RL 60 RX2 : Cond) ∈ wsL_law := by decide +kernel
set_option maxRecDepth 20000 in
theorem mw_law_start_8 : (.instantiable RX2 8 : Cond) ∈ wsL_law := by decide +kernel
set_option maxRecDepth 20000 in
theorem mw_law_start_9 : (.initialized RX2 : Cond) ∈ wsL_law := by decide +kernel
set_option maxRecDepth 20000 in
theorem mw_law_start_10 : (.methodLink RL 62 yX2_init : Cond) ∈ wsL_law := by decide +kernel
set_option maxRecDepth 20000 in
theorem mw_law_start_11 : (.instanceMethod yX2_init : Cond) ∈ wsL_law := by decide +kernel
set_option maxRecDepth 20000 in
theorem mw_law_start_12 : (.arrayClass .long : Cond) ∈ wsL_law := by decide +kernel
set_option maxHeartbeats 4000000 in
set_option maxRecDepth 100000 in
theorem whole_start {p : Program} {e : Env} {s : State} {m : MethodId} {below : List Frame} {meth : Method} {c : Code} (l : Launch) (hflags : l.flags = flags0) {b L : Nat} {xs : Nat → Int32} (hL : L ≤ 2048) (C0 : lw_At p s m meth c b L xs) : W p l e room_1 s m #[Value.ref b] below meth c s.heap [] 0 0 (lw_Z below #[Value.ref b] s) (entryFrame m ([Value.ref b] : List Value).toArray 7) := by
  obtain ⟨hx, hb, hr, hml, hown, htt, hX, hbl, hlocks, hgv⟩ := id C0
  have hst : l.stackTraces = false := by unfold Launch.stackTraces; rw [hflags]; decide
  obtain ⟨D, cI, cL, tw, hE⟩ := ev_start htt hgv
  have hts : ∀ w ∈ wsL_law, w.before #[Value.ref b] s = true := fun w h => htt w (wsL_law_in w h)
  have S : CallFix p m c cL_law 7 s #[Value.ref b] wsL_law RL := ⟨hx, hb, hml, hown, hts⟩
  have hR : room_1.frames ≤ room_1.frames ∧ room_1.locals ≤ room_1.locals := ⟨Nat.le_refl _, Nat.le_refl _⟩
  have hA : ∀ q : Nat, s.heap.size ≤ q → (fun q : Nat => s.heap.size ≤ q) q := fun _ h => h
  have hbA : ¬ (fun q : Nat => s.heap.size ≤ q) b := Nat.not_le.mpr hbl
  have hS : va_S (fun q : Nat => s.heap.size ≤ q) s.heap s.heap [] := va_S.rf
  have hP : va_P D vwCl [] s.heap := fun k q h => by simp at h
  have hD : va_D (fun q : Nat => s.heap.size ≤ q) [] := ⟨fun i j p q h => by simp at h, fun k q h => by simp at h⟩
  have hl := lv_entry ([.ref b]) (n := 7) (Nat.le_of_ble_eq_true rfl)
  rw [lg_entry_eq]
  generalize (lg_sl ([.ref b]) ++ List.replicate (7 - (lg_sl ([.ref b])).length) Slot.unset).toArray = ls at hl ⊢
  have hl : lv_has ls 7 [(0, .ref b)] := hl
  generalize hAq : (fun q : Nat => s.heap.size ≤ q) = A at hE hA hbA hS hD
  have hAd : ∀ q : Nat, A q → s.heap.size ≤ q := fun q h => by rw [← hAq] at h; exact h
  refine va_new (D := D) (ci := 1) (fs := [.null, .null, .int (iI (0)), .int (iI (0)), .int (iI (0)), .int (iI (0))]) (C := RX1) (T := TX1) (N := 6) hx hb hts mu_law_start_X1 tyX1 tyX1_ok hown (hts _ mw_law_start_1) (hts _ mw_law_start_2) (hts _ mw_law_start_3) hE.1 hP hD hS hA rfl (fun j hj => by rcases (show j = 0 ∨ j = 1 ∨ j = 2 ∨ j = 3 ∨ j = 4 ∨ j = 5 by omega) with rfl | rfl | rfl | rfl | rfl | rfl <;> rfl) (Nat.le_of_ble_eq_true rfl) (Nat.le_of_ble_eq_true rfl) dL_law_0 (fun q0 H hP hD hS => ?_)
  have hP : va_P D vwCl [(q0, .inr (1, [.null, .null, .int (iI (0)), .int (iI (0)), .int (iI (0)), .int (iI (0))]))] H := hP
  have hD : va_D A [(q0, .inr (1, [.null, .null, .int (iI (0)), .int (iI (0)), .int (iI (0)), .int (iI (0))]))] := hD
  refine lv_dup hx hb dL_law_3 rfl ?_
  refine r_callC (As := []) (rest := [.ref q0]) (wr := []) S (c_X1_init l D cI cL tw q0) gL_law_X1_init rfl rfl rfl (hts _ mw_law_start_3) (hts _ mw_law_start_4) (hts _ mw_law_start_5) rfl f_X1_init hR (Nat.le_of_ble_eq_true rfl) (Nat.le_of_ble_eq_true rfl) (hE.kept hS.2.1) hP hD hS hA [0] [] rfl rfl (by decide) rfl (by decide) (by decide) rfl hl.1 rfl (Nat.le_of_ble_eq_true rfl) dL_law_4 ⟨by show (0 + 1) + 4 ≤ 662015; omega, by show (0 + 6) + 158 ≤ 7110060; omega⟩ (fun u4 H locs hP hD hS => ?_)
  obtain ⟨u4a, u4b, u4c, u4d⟩ := u4
  have hP : va_P D vwCl [(q0, .inr (1, [.ref u4a, .ref u4b, .int (iI (0)), .int (iI (0)), .int (iI (0)), .int (iI (0))])), (u4b, .inl (cI, 4, .inl (aI (fun _ => 0)))), (u4a, .inr (0, [.ref u4c, .ref u4d])), (u4c, .inl (cI, 16, .inl (aI (fun _ => 0)))), (u4d, .inl (cI, 136, .inl (aI (cnt (fun _ => 0)))))] H := hP
  have hD : va_D A [(q0, .inr (1, [.ref u4a, .ref u4b, .int (iI (0)), .int (iI (0)), .int (iI (0)), .int (iI (0))])), (u4b, .inl (cI, 4, .inl (aI (fun _ => 0)))), (u4a, .inr (0, [.ref u4c, .ref u4d])), (u4c, .inl (cI, 16, .inl (aI (fun _ => 0)))), (u4d, .inl (cI, 136, .inl (aI (cnt (fun _ => 0)))))] := hD
  refine lv_astore_n (lv' := [(1, .ref q0), (0, .ref b)]) hx hb dL_law_7 rfl hl (by decide) rfl (fun ls hl => ?_)
  refine va_new (D := D) (ci := 2) (fs := [.null, .int (iI (0)), .int (iI (0)), .int (iI (0)), .int (iI (0)), .null, .null, .int (iI (0))]) (C := RX2) (T := TX2) (N := 8) hx hb hts mu_law_start_X2 tyX2 tyX2_ok hown (hts _ mw_law_start_7) (hts _ mw_law_start_8) (hts _ mw_law_start_9) hE.1 hP hD hS hA rfl (fun j hj => by rcases (show j = 0 ∨ j = 1 ∨ j = 2 ∨ j = 3 ∨ j = 4 ∨ j = 5 ∨ j = 6 ∨ j = 7 by omega) with rfl | rfl | rfl | rfl | rfl | rfl | rfl | rfl <;> rfl) (Nat.le_of_ble_eq_true rfl) (Nat.le_of_ble_eq_true rfl) dL_law_8 (fun q8 H hP hD hS => ?_)
  have hP : va_P D vwCl [(q0, .inr (1, [.ref u4a, .ref u4b, .int (iI (0)), .int (iI (0)), .int (iI (0)), .int (iI (0))])), (u4b, .inl (cI, 4, .inl (aI (fun _ => 0)))), (u4a, .inr (0, [.ref u4c, .ref u4d])), (u4c, .inl (cI, 16, .inl (aI (fun _ => 0)))), (u4d, .inl (cI, 136, .inl (aI (cnt (fun _ => 0))))), (q8, .inr (2, [.null, .int (iI (0)), .int (iI (0)), .int (iI (0)), .int (iI (0)), .null, .null, .int (iI (0))]))] H := hP
  have hD : va_D A [(q0, .inr (1, [.ref u4a, .ref u4b, .int (iI (0)), .int (iI (0)), .int (iI (0)), .int (iI (0))])), (u4b, .inl (cI, 4, .inl (aI (fun _ => 0)))), (u4a, .inr (0, [.ref u4c, .ref u4d])), (u4c, .inl (cI, 16, .inl (aI (fun _ => 0)))), (u4d, .inl (cI, 136, .inl (aI (cnt (fun _ => 0))))), (q8, .inr (2, [.null, .int (iI (0)), .int (iI (0)), .int (iI (0)), .int (iI (0)), .null, .null, .int (iI (0))]))] := hD
  refine lv_dup hx hb dL_law_11 rfl ?_
  refine r_callC (As := []) (rest := [.ref q8]) (wr := [(q0, .inr (1, [.ref u4a, .ref u4b, .int (iI (0)), .int (iI (0)), .int (iI (0)), .int (iI (0))])), (u4b, .inl (cI, 4, .inl (aI (fun _ => 0)))), (u4a, .inr (0, [.ref u4c, .ref u4d])), (u4c, .inl (cI, 16, .inl (aI (fun _ => 0)))), (u4d, .inl (cI, 136, .inl (aI (cnt (fun _ => 0)))))]) S (c_X2_init l D cI cL tw q8) gL_law_X2_init rfl rfl rfl (hts _ mw_law_start_9) (hts _ mw_law_start_10) (hts _ mw_law_start_11) rfl f_X2_init hR (Nat.le_of_ble_eq_true rfl) (Nat.le_of_ble_eq_true rfl) (hE.kept hS.2.1) hP hD hS hA [5] [0, 1, 2, 3, 4] rfl rfl (by decide) rfl (by decide) (by decide) rfl hl.1 rfl (Nat.le_of_ble_eq_true rfl) dL_law_12 ⟨by show (((0 + 1) + 4) + 1) + 3 ≤ 662015; omega, by show (((0 + 6) + 158) + 8) + 27 ≤ 7110060; omega⟩ (fun u12 H locs hP hD hS => ?_)
  obtain ⟨u12a, u12b, u12c⟩ := u12
  have hP : va_P D vwCl [(q0, .inr (1, [.ref u4a, .ref u4b, .int (iI (0)), .int (iI (0)), .int (iI (0)), .int (iI (0))])), (u4b, .inl (cI, 4, .inl (aI (fun _ => 0)))), (u4a, .inr (0, [.ref u4c, .ref u4d])), (u4c, .inl (cI, 16, .inl (aI (fun _ => 0)))), (u4d, .inl (cI, 136, .inl (aI (cnt (fun _ => 0))))), (q8, .inr (2, [.ref u12a, .int (iI (0)), .int (iI (0)), .int (iI (0)), .int (iI (0)), .ref u12b, .ref u12c, .int (iI (0))])), (u12a, .inl (cI, 16, .inl (aI (fun _ => 0)))), (u12b, .inl (cI, 4, .inl (aI (fun _ => 0)))), (u12c, .inl (cI, 7, .inl (aI wyI)))] H := hP
  have hD : va_D A [(q0, .inr (1, [.ref u4a, .ref u4b, .int (iI (0)), .int (iI (0)), .int (iI (0)), .int (iI (0))])), (u4b, .inl (cI, 4, .inl (aI (fun _ => 0)))), (u4a, .inr (0, [.ref u4c, .ref u4d])), (u4c, .inl (cI, 16, .inl (aI (fun _ => 0)))), (u4d, .inl (cI, 136, .inl (aI (cnt (fun _ => 0))))), (q8, .inr (2, [.ref u12a, .int (iI (0)), .int (iI (0)), .int (iI (0)), .int (iI (0)), .ref u12b, .ref u12c, .int (iI (0))])), (u12a, .inl (cI, 16, .inl (aI (fun _ => 0)))), (u12b, .inl (cI, 4, .inl (aI (fun _ => 0)))), (u12c, .inl (cI, 7, .inl (aI wyI)))] := hD
  refine lv_astore_n (lv' := [(2, .ref q8), (1, .ref q0), (0, .ref b)]) hx hb dL_law_15 rfl hl (by decide) rfl (fun ls hl => ?_)
  refine r_iconst hx hb dL_law_16 ?_
  refine r_newaL hx hb (hts _ mw_law_start_12) hE hP hD hS hA (N := 1) rfl (by decide) ⟨by show ((((0 + 1) + 4) + 1) + 3) + 1 ≤ 662015; omega, by show ((((0 + 6) + 158) + 8) + 27) + 1 ≤ 7110060; omega⟩ dL_law_17 (fun q17 H hP hD hS => ?_)
  have hP : va_P D vwCl [(q0, .inr (1, [.ref u4a, .ref u4b, .int (iI (0)), .int (iI (0)), .int (iI (0)), .int (iI (0))])), (u4b, .inl (cI, 4, .inl (aI (fun _ => 0)))), (u4a, .inr (0, [.ref u4c, .ref u4d])), (u4c, .inl (cI, 16, .inl (aI (fun _ => 0)))), (u4d, .inl (cI, 136, .inl (aI (cnt (fun _ => 0))))), (q8, .inr (2, [.ref u12a, .int (iI (0)), .int (iI (0)), .int (iI (0)), .int (iI (0)), .ref u12b, .ref u12c, .int (iI (0))])), (u12a, .inl (cI, 16, .inl (aI (fun _ => 0)))), (u12b, .inl (cI, 4, .inl (aI (fun _ => 0)))), (u12c, .inl (cI, 7, .inl (aI wyI))), (q17, .inl (cL, 1, .inr (.inl (fun _ => 0))))] H := hP
  have hD : va_D A [(q0, .inr (1, [.ref u4a, .ref u4b, .int (iI (0)), .int (iI (0)), .int (iI (0)), .int (iI (0))])), (u4b, .inl (cI, 4, .inl (aI (fun _ => 0)))), (u4a, .inr (0, [.ref u4c, .ref u4d])), (u4c, .inl (cI, 16, .inl (aI (fun _ => 0)))), (u4d, .inl (cI, 136, .inl (aI (cnt (fun _ => 0))))), (q8, .inr (2, [.ref u12a, .int (iI (0)), .int (iI (0)), .int (iI (0)), .int (iI (0)), .ref u12b, .ref u12c, .int (iI (0))])), (u12a, .inl (cI, 16, .inl (aI (fun _ => 0)))), (u12b, .inl (cI, 4, .inl (aI (fun _ => 0)))), (u12c, .inl (cI, 7, .inl (aI wyI))), (q17, .inl (cL, 1, .inr (.inl (fun _ => 0))))] := hD
  refine lv_astore_n (lv' := [(3, .ref q17), (2, .ref q8), (1, .ref q0), (0, .ref b)]) hx hb dL_law_19 rfl hl (by decide) rfl (fun ls hl => ?_)
  refine r_iconst hx hb dL_law_20 ?_
  refine lv_istore (lv' := [(4, .int (iI (0))), (3, .ref q17), (2, .ref q8), (1, .ref q0), (0, .ref b)]) hx hb dL_law_21 hl (by decide) rfl (fun ls hl => ?_)
  exact law_loop S hst hE hA hX hbl hbA hL hr hlocks hAd q0 u4b u4a u4c u4d q8 u12a u12b u12c q17 4096 0 _ _ 0 0 0 0 0 (fun _ => 0) (fun _ => 0) (fun _ => 0) _ _ _ (by omega) (by omega) (by decide) (by decide) GI_0 (hP.sub [0, 1, 2, 3, 4, 5, 6, 7, 8, 9] rfl) (hD.sub [0, 1, 2, 3, 4, 5, 6, 7, 8, 9] (by decide) rfl) hS (lv_sub hl [0, 4, 3, 2, 1] rfl)
