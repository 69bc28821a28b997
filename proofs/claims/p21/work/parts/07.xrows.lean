def NW (sz : Nat) : Nat → Prop := fun q => sz ≤ q
theorem EV.old {D : va_G} {cI cL : ClassId} {tw : Nat} {U : State} {H : Heap} (h : EV D cI cL tw FF U H) : EV D cI cL tw (NW H.size) U H := by
  have hlt : ∀ {a : Nat} {ce : Cell}, H[a]? = some ce → ¬ NW H.size a := fun he z => Nat.not_le.mpr (Array.getElem?_eq_some_iff.mp he).1 z
  have zz : ∀ {C n d : String} {v : Value}, va_Z C n d v FF U H → va_Z C n d v (NW H.size) U H := fun ⟨cf, kf, fi, f, a, cq9, h1, h2, h3, h4, h5, h6, h7, _⟩ => ⟨cf, kf, fi, f, a, cq9, h1, h2, h3, h4, h5, h6, h7, hlt h5⟩
  have zq : ∀ {C n d : String}, vx_Zq C n d FF U H → vx_Zq C n d (NW H.size) U H := by
    intro C n d hq
    obtain ⟨h1, c, k, i, f, a, cell, g1, g2, g3, g4, g5, g6, g7, g8, g9, _⟩ := hq
    refine ⟨?_, c, k, i, f, a, cell, g1, g2, g3, g4, g5, g6, g7, g8, g9, hlt g5⟩
    rcases h1 with h1 | ⟨t, h1⟩
    · exact Or.inl (zz h1)
    · exact Or.inr ⟨t, zz h1⟩
  obtain ⟨e1, e2, e3, ⟨cell, t1, t2, t3, t4, t5, t6, _⟩, ⟨e5, e6⟩, e7⟩ := h
  exact ⟨e1, e2, zz e3, ⟨cell, t1, t2, t3, t4, t5, t6, hlt t1⟩, ⟨zq e5, zq e6⟩, e7⟩
theorem va_S.mono {A B : Nat → Prop} {H0 H : Heap} {locs : List Loc} (h : va_S B H0 H locs) (hAB : ∀ q, B q → A q) : va_S A H0 H locs := ⟨h.1, fun q h1 h2 => h.2.1 q h1 (fun z => h2 (hAB q z)), fun q hq => hAB _ (h.2.2 q hq)⟩
theorem va_P.old {D : va_G} {cl : List vw_C} {ws : va_W} {H H1 : Heap} (h : va_P D cl ws H) (hk : ∀ q : Nat, q < H.size → ¬ NW H.size q → H1[q]? = H[q]?) : va_P D cl ws H1 := h.kept (fun k q hq => hk q.1 (h k q hq).lt (Nat.not_le.mpr (h k q hq).lt))
def xnm : List String := ["java/lang/RuntimeException", "java/lang/Exception"]
/-- reads, answers a number or throws -/
def XRi (l : Launch) (y : MethodName) (ws : List Cond) (rm : Room) (D : va_G) (cI cL : ClassId) (tw : Nat) (av : List Value) (WS : va_W) (post : Int → Prop) (xc : String → Prop) (mc ms : Nat) : Prop :=
  ∀ sz : Nat, vx_Met l y ws rm (va_Pc av (fun U => U.heap.size = sz ∧ EV D cI cL tw FF U U.heap ∧ va_P D vwCl WS U.heap)) (va_Qi (fun (r : Int32) (z : Int) => r = iI z ∧ post z) (fun _ _ => True) (NW sz)) (vx_X (fun _ : Unit => True) (fun E _ _ => xc E) (NW sz)) mc ms (NW sz)
/-- reads, answers nothing or throws -/
def XRv (l : Launch) (y : MethodName) (ws : List Cond) (rm : Room) (D : va_G) (cI cL : ClassId) (tw : Nat) (av : List Value) (WS : va_W) (post : Prop) (xc : String → Prop) (mc ms : Nat) : Prop :=
  ∀ sz : Nat, vx_Met l y ws rm (va_Pc av (fun U => U.heap.size = sz ∧ EV D cI cL tw FF U U.heap ∧ va_P D vwCl WS U.heap)) (va_Qv (fun _ : Unit => post) (fun _ _ => True) (NW sz)) (vx_X (fun _ : Unit => True) (fun E _ _ => xc E) (NW sz)) mc ms (NW sz)
/-- writes its world and answers a number, or throws and has changed nothing -/
def XWi {S : Type} (l : Launch) (y : MethodName) (ws : List Cond) (rm : Room) (D : va_G) (cI cL : ClassId) (tw : Nat) (av : List Value) (WS : va_W) (post : Int → S → Prop) (W2 : S → va_W) (xc : String → Prop) (mc ms : Nat) : Prop :=
  ∀ sz : Nat, vx_Met l y ws rm (va_Pc av (fun U => U.heap.size = sz ∧ EV D cI cL tw (va_A WS sz) U U.heap ∧ va_P D vwCl WS U.heap ∧ va_D (fun _ => True) WS)) (va_Qi (fun (r : Int32) (u : Int × S) => r = iI u.1 ∧ post u.1 u.2) (fun u t => va_P D vwCl (W2 u.2) t.heap ∧ va_D (va_A WS sz) (W2 u.2)) (va_A WS sz)) (vx_X (fun _ : Unit => True) (fun E _ _ => xc E) (NW sz)) mc ms (va_A WS sz)

theorem xri_of {l : Launch} {y : MethodName} {ws ws' : List Cond} {rm : Room} {D : va_G} {cI cL : ClassId} {tw : Nat} {av : List Value} {WS : va_W} {post : Int → Prop} {xc : String → Prop} {mc ms : Nat} {cc : ByteArray} {maxL : Nat} {rt : FieldType}
    (hst : l.stackTraces = false) (hy : plainName y.cls = true) (hw : ws = Cond.code y cc maxL (some rt) :: ws') (hown : y.cls = RX1) (hrt : rt = .int ∨ (rt = .boolean ∧ ∀ z, post z → z = 0 ∨ z = 1)) (hlen : (lg_sl av).length ≤ maxL) (hmc : mc ≤ rm.cells) (hms : ms ≤ rm.slots)
    (body : ∀ (p : Program) (e : Env) (R : Room) (s : State) (m : MethodId) (args : Array Value) (below : List Frame) (meth : Method) (c : Code) (H0 : Heap) (Q : State → Prop) (ls : Array Slot) (A : Nat → Prop), CallFix p m c cc maxL s args ws RX1 → (rm.frames ≤ R.frames ∧ rm.locals ≤ R.locals) → (rm.cells ≤ R.cells ∧ rm.slots ≤ R.slots) → EV D cI cL tw A s H0 → va_P D vwCl WS H0 → (∀ q : Nat, NW H0.size q → A q) → va_S (NW H0.size) H0 H0 [] → lv_has ls maxL (lv_args 0 av) → 
      (∀ (z : Int) (pc : Nat) (ls : Array Slot) (H : Heap) (locs : List Loc) (cells slots : Nat), decode cc pc = .ok (.ireturn, 1) → post z → va_S (NW H0.size) H0 H locs → cells ≤ mc → slots ≤ ms → W p l e R s m args below meth c H locs cells slots Q (F0 m pc ls [.int (iI z)])) → (∀ (E : String) (ce : Cell) (q pc : Nat) (ls : Array Slot) (rest : List Value) (H : Heap) (locs : List Loc) (cells slots : Nat), xc E → H[q]? = some ce → ce.vm = .none → s.vm.findClass E = some ce.cls → va_S (NW H0.size) H0 H locs → cells ≤ mc → slots ≤ ms → vx_W p l e R s m args below meth c H locs cells slots Q (F0 m pc ls rest) q) →
      (∀ (E text : String) (ik is ic pc : Nat) (ls : Array Slot) (rest : List Value) (H : Heap) (locs : List Loc) (cells slots : Nat), 6 ≤ rm.frames → 100 ≤ rm.locals → Bundle.fit E = true → Cond.classLink RX1 ik E ∈ ws → Cond.initialized E ∈ ws → (is, text) ∈ strL → (∀ w ∈ (vx_atS RX1 ic E xnm).filter goodWord, w ∈ ws) → (∀ w ∈ (vx_atS RX1 ic E xnm).filter (fun w => !goodWord w), w ∈ nestL) → (∀ w ∈ Cond.classLink RX1 ik E :: Cond.initialized E :: vx_atS RX1 ic E xnm, vx_ot w = true) →
        decode cc pc = .ok (.new ik, 3) → decode cc (pc + 3) = .ok (.dup, 1) → decode cc (pc + 4) = .ok (.ldc is, 2) → decode cc (pc + 6) = .ok (.invokespecial ic, 3) → decode cc (pc + 9) = .ok (.athrow, 1) → xc E → va_S (NW H0.size) H0 H locs → ls.size = maxL → (rest.map fun v => v.category).sum ≤ 8 → cells + 1 ≤ mc → slots + 6 ≤ ms → W p l e R s m args below meth c H locs cells slots Q (F0 m pc ls rest)) → W p l e R s m args below meth c H0 [] 0 0 Q (F0 m 0 ls [])) : XRi l y ws rm D cI cL tw av WS post xc mc ms := by
  intro sz
  refine vx_ofW (cc := cc) (maxL := maxL) (ret := some rt) hy hw ?_
  intro p e s m args below meth c s₁ B hml ht hv
  obtain ⟨rfl, hsz, hE0, hP⟩ := hv
  subst hsz
  have hE := hE0.old
  have hts := atoms_spec (ws := ws) B.pre
  have hown1 : s.vm.findClass RX1 = some m.cls := by rw [← hown]; exact findClass_of_methodNamed B.named
  have hl := lv_entry av hlen
  rw [lg_entry_eq]
  refine body p e (headSpec ws rm).room s m _ below meth c s.heap _ _ (NW s.heap.size) ⟨B.exec, B.bytes, hml, hown1, hts⟩ ⟨Nat.le_refl _, Nat.le_refl _⟩ ⟨Nat.le_refl _, Nat.le_refl _⟩ hE hP (fun _ h => h) va_S.rf hl ?_ ?_ ?_
  · intro z pc ls H locs cells slots hdg hz hN hc hs
    refine vx_ret (W.widen hc hs ?_)
    rcases hrt with rfl | ⟨rfl, h01⟩
    · exact W.iret B.exec B.bytes B.returns (fun t ht hW => ⟨⟨iI z, z, rfl, ⟨rfl, hz⟩, trivial⟩, hN.F ht⟩) hN.2.2 hdg B.notSynchronized
    · refine W.zret (ty := .boolean) B.exec B.bytes B.returns ?_ (fun t ht hW => ⟨⟨iI z, z, rfl, ⟨rfl, hz⟩, trivial⟩, hN.F ht⟩) hN.2.2 hdg B.notSynchronized
      rcases h01 z hz with rfl | rfl <;> rfl
  · intro E ce q pc ls rest H locs cells slots hxc hce hcv hcl hN hc hs
    exact vx_out (fun x hx => (ht x hx).elim) B.notSynchronized hce hcv hcl (fun t ht1 _ => ⟨(), trivial, hxc, hN.F ht1⟩) (fun z hz => id (hN.2.2 z hz)) hc hs
  · intro E text ik is ic pc ls rest H locs cells slots hr1 hr2 hfit hk hini hstr hat0 hbad hgood d0 d3 d4 d6 d9 hxc hN hls hcat hc hs
    obtain ⟨sa, hsa⟩ := hE.2.2.2.2.2.1 (is, text) hstr
    exact vx_throwS (names := xnm) (A := NW s.heap.size) B.exec B.bytes hst hown1 hfit (by intro n hn; simp only [xnm, List.mem_cons, List.not_mem_nil, or_false] at hn; rcases hn with rfl | rfl <;> decide) (hts _ hk) (hts _ hini) hsa (vx_hat (fun w hw => hts _ (hat0 w hw)) hbad (fun w hw => nest_use hw (hE.2.1 w hw))) hgood (hE.2.2.2.2.1.1.narrow (fun _ h => h)) (hE.2.2.2.2.1.2.narrow (fun _ h => h)) hN (by rw [hls, hml]) d0 d3 d4 d6 d9 (fun x hx => (ht x hx).elim) (Nat.lt_of_lt_of_le (by show 2 + 3 < 6; decide) hr1) (by have : (13 * (xnm.length + 1) + 43) = 82 := rfl; show _ ≤ rm.locals; omega) (by show _ ≤ rm.cells; omega) (by show _ ≤ rm.slots; omega) B.notSynchronized (fun t hal h1 h2 => ⟨(), trivial, hxc, ⟨Nat.le_trans hN.1 h1, fun q hq hq2 => by rw [h2 q (Nat.lt_of_lt_of_le hq hN.1)]; exact hN.2.1 q hq hq2⟩⟩) (fun z hz => id (hN.2.2 z hz)) hc hs
theorem xrv_of {l : Launch} {y : MethodName} {ws ws' : List Cond} {rm : Room} {D : va_G} {cI cL : ClassId} {tw : Nat} {av : List Value} {WS : va_W} {post : Prop} {xc : String → Prop} {mc ms : Nat} {cc : ByteArray} {maxL : Nat}
    (hst : l.stackTraces = false) (hy : plainName y.cls = true) (hw : ws = Cond.code y cc maxL (none) :: ws') (hown : y.cls = RX1) (hlen : (lg_sl av).length ≤ maxL) (hmc : mc ≤ rm.cells) (hms : ms ≤ rm.slots)
    (body : ∀ (p : Program) (e : Env) (R : Room) (s : State) (m : MethodId) (args : Array Value) (below : List Frame) (meth : Method) (c : Code) (H0 : Heap) (Q : State → Prop) (ls : Array Slot) (A : Nat → Prop), CallFix p m c cc maxL s args ws RX1 → (rm.frames ≤ R.frames ∧ rm.locals ≤ R.locals) → (rm.cells ≤ R.cells ∧ rm.slots ≤ R.slots) → EV D cI cL tw A s H0 → va_P D vwCl WS H0 → (∀ q : Nat, NW H0.size q → A q) → va_S (NW H0.size) H0 H0 [] → lv_has ls maxL (lv_args 0 av) → 
      (∀ (pc : Nat) (ls : Array Slot) (H : Heap) (locs : List Loc) (cells slots : Nat), decode cc pc = .ok (.return_, 1) → post → va_S (NW H0.size) H0 H locs → cells ≤ mc → slots ≤ ms → W p l e R s m args below meth c H locs cells slots Q (F0 m pc ls [])) → (∀ (E : String) (ce : Cell) (q pc : Nat) (ls : Array Slot) (rest : List Value) (H : Heap) (locs : List Loc) (cells slots : Nat), xc E → H[q]? = some ce → ce.vm = .none → s.vm.findClass E = some ce.cls → va_S (NW H0.size) H0 H locs → cells ≤ mc → slots ≤ ms → vx_W p l e R s m args below meth c H locs cells slots Q (F0 m pc ls rest) q) →
      (∀ (E text : String) (ik is ic pc : Nat) (ls : Array Slot) (rest : List Value) (H : Heap) (locs : List Loc) (cells slots : Nat), 6 ≤ rm.frames → 100 ≤ rm.locals → Bundle.fit E = true → Cond.classLink RX1 ik E ∈ ws → Cond.initialized E ∈ ws → (is, text) ∈ strL → (∀ w ∈ (vx_atS RX1 ic E xnm).filter goodWord, w ∈ ws) → (∀ w ∈ (vx_atS RX1 ic E xnm).filter (fun w => !goodWord w), w ∈ nestL) → (∀ w ∈ Cond.classLink RX1 ik E :: Cond.initialized E :: vx_atS RX1 ic E xnm, vx_ot w = true) →
        decode cc pc = .ok (.new ik, 3) → decode cc (pc + 3) = .ok (.dup, 1) → decode cc (pc + 4) = .ok (.ldc is, 2) → decode cc (pc + 6) = .ok (.invokespecial ic, 3) → decode cc (pc + 9) = .ok (.athrow, 1) → xc E → va_S (NW H0.size) H0 H locs → ls.size = maxL → (rest.map fun v => v.category).sum ≤ 8 → cells + 1 ≤ mc → slots + 6 ≤ ms → W p l e R s m args below meth c H locs cells slots Q (F0 m pc ls rest)) → W p l e R s m args below meth c H0 [] 0 0 Q (F0 m 0 ls [])) : XRv l y ws rm D cI cL tw av WS post xc mc ms := by
  intro sz
  refine vx_ofW (cc := cc) (maxL := maxL) (ret := none) hy hw ?_
  intro p e s m args below meth c s₁ B hml ht hv
  obtain ⟨rfl, hsz, hE0, hP⟩ := hv
  subst hsz
  have hE := hE0.old
  have hts := atoms_spec (ws := ws) B.pre
  have hown1 : s.vm.findClass RX1 = some m.cls := by rw [← hown]; exact findClass_of_methodNamed B.named
  have hl := lv_entry av hlen
  rw [lg_entry_eq]
  refine body p e (headSpec ws rm).room s m _ below meth c s.heap _ _ (NW s.heap.size) ⟨B.exec, B.bytes, hml, hown1, hts⟩ ⟨Nat.le_refl _, Nat.le_refl _⟩ ⟨Nat.le_refl _, Nat.le_refl _⟩ hE hP (fun _ h => h) va_S.rf hl ?_ ?_ ?_
  · intro pc ls H locs cells slots hdg hz hN hc hs
    exact vx_ret (W.widen hc hs (W.vret B.exec B.bytes B.returns (fun t ht hW => ⟨⟨(), rfl, hz, trivial⟩, hN.F ht⟩) hN.2.2 hdg B.notSynchronized))
  · intro E ce q pc ls rest H locs cells slots hxc hce hcv hcl hN hc hs
    exact vx_out (fun x hx => (ht x hx).elim) B.notSynchronized hce hcv hcl (fun t ht1 _ => ⟨(), trivial, hxc, hN.F ht1⟩) (fun z hz => id (hN.2.2 z hz)) hc hs
  · intro E text ik is ic pc ls rest H locs cells slots hr1 hr2 hfit hk hini hstr hat0 hbad hgood d0 d3 d4 d6 d9 hxc hN hls hcat hc hs
    obtain ⟨sa, hsa⟩ := hE.2.2.2.2.2.1 (is, text) hstr
    exact vx_throwS (names := xnm) (A := NW s.heap.size) B.exec B.bytes hst hown1 hfit (by intro n hn; simp only [xnm, List.mem_cons, List.not_mem_nil, or_false] at hn; rcases hn with rfl | rfl <;> decide) (hts _ hk) (hts _ hini) hsa (vx_hat (fun w hw => hts _ (hat0 w hw)) hbad (fun w hw => nest_use hw (hE.2.1 w hw))) hgood (hE.2.2.2.2.1.1.narrow (fun _ h => h)) (hE.2.2.2.2.1.2.narrow (fun _ h => h)) hN (by rw [hls, hml]) d0 d3 d4 d6 d9 (fun x hx => (ht x hx).elim) (Nat.lt_of_lt_of_le (by show 2 + 3 < 6; decide) hr1) (by have : (13 * (xnm.length + 1) + 43) = 82 := rfl; show _ ≤ rm.locals; omega) (by show _ ≤ rm.cells; omega) (by show _ ≤ rm.slots; omega) B.notSynchronized (fun t hal h1 h2 => ⟨(), trivial, hxc, ⟨Nat.le_trans hN.1 h1, fun q hq hq2 => by rw [h2 q (Nat.lt_of_lt_of_le hq hN.1)]; exact hN.2.1 q hq hq2⟩⟩) (fun z hz => id (hN.2.2 z hz)) hc hs
theorem xwi_of {S : Type} {l : Launch} {y : MethodName} {ws ws' : List Cond} {rm : Room} {D : va_G} {cI cL : ClassId} {tw : Nat} {av : List Value} {WS : va_W} {post : Int → S → Prop} {W2 : S → va_W} {xc : String → Prop} {mc ms : Nat} {cc : ByteArray} {maxL : Nat}
    (hst : l.stackTraces = false) (hy : plainName y.cls = true) (hw : ws = Cond.code y cc maxL (some .int) :: ws') (hown : y.cls = RX1) (hlen : (lg_sl av).length ≤ maxL) (hmc : mc ≤ rm.cells) (hms : ms ≤ rm.slots)
    (body : ∀ (p : Program) (e : Env) (R : Room) (s : State) (m : MethodId) (args : Array Value) (below : List Frame) (meth : Method) (c : Code) (H0 : Heap) (Q : State → Prop) (ls : Array Slot) (A : Nat → Prop), CallFix p m c cc maxL s args ws RX1 → (rm.frames ≤ R.frames ∧ rm.locals ≤ R.locals) → (rm.cells ≤ R.cells ∧ rm.slots ≤ R.slots) → EV D cI cL tw A s H0 → va_P D vwCl WS H0 → va_D A WS → (∀ q : Nat, NW H0.size q → A q) → va_S (NW H0.size) H0 H0 [] → lv_has ls maxL (lv_args 0 av) → 
      (∀ (z : Int) (u : S) (pc : Nat) (ls : Array Slot) (H : Heap) (locs : List Loc) (cells slots : Nat), decode cc pc = .ok (.ireturn, 1) → post z u → va_P D vwCl (W2 u) H → va_D A (W2 u) → va_S A H0 H locs → cells ≤ mc → slots ≤ ms → W p l e R s m args below meth c H locs cells slots Q (F0 m pc ls [.int (iI z)])) → (∀ (E : String) (ce : Cell) (q pc : Nat) (ls : Array Slot) (rest : List Value) (H : Heap) (locs : List Loc) (cells slots : Nat), xc E → H[q]? = some ce → ce.vm = .none → s.vm.findClass E = some ce.cls → va_S (NW H0.size) H0 H locs → cells ≤ mc → slots ≤ ms → vx_W p l e R s m args below meth c H locs cells slots Q (F0 m pc ls rest) q) →
      (∀ (E text : String) (ik is ic pc : Nat) (ls : Array Slot) (rest : List Value) (H : Heap) (locs : List Loc) (cells slots : Nat), 6 ≤ rm.frames → 100 ≤ rm.locals → Bundle.fit E = true → Cond.classLink RX1 ik E ∈ ws → Cond.initialized E ∈ ws → (is, text) ∈ strL → (∀ w ∈ (vx_atS RX1 ic E xnm).filter goodWord, w ∈ ws) → (∀ w ∈ (vx_atS RX1 ic E xnm).filter (fun w => !goodWord w), w ∈ nestL) → (∀ w ∈ Cond.classLink RX1 ik E :: Cond.initialized E :: vx_atS RX1 ic E xnm, vx_ot w = true) →
        decode cc pc = .ok (.new ik, 3) → decode cc (pc + 3) = .ok (.dup, 1) → decode cc (pc + 4) = .ok (.ldc is, 2) → decode cc (pc + 6) = .ok (.invokespecial ic, 3) → decode cc (pc + 9) = .ok (.athrow, 1) → xc E → va_S (NW H0.size) H0 H locs → ls.size = maxL → (rest.map fun v => v.category).sum ≤ 8 → cells + 1 ≤ mc → slots + 6 ≤ ms → W p l e R s m args below meth c H locs cells slots Q (F0 m pc ls rest)) → W p l e R s m args below meth c H0 [] 0 0 Q (F0 m 0 ls [])) : XWi l y ws rm D cI cL tw av WS post W2 xc mc ms := by
  intro sz
  refine vx_ofW (cc := cc) (maxL := maxL) (ret := some .int) hy hw ?_
  intro p e s m args below meth c s₁ B hml ht hv
  obtain ⟨rfl, hsz, hE, hP, hD0⟩ := hv
  subst hsz
  have hts := atoms_spec (ws := ws) B.pre
  have hown1 : s.vm.findClass RX1 = some m.cls := by rw [← hown]; exact findClass_of_methodNamed B.named
  have hl := lv_entry av hlen
  have hD := hD0.self (sz := s.heap.size)
  have hA : ∀ q : Nat, NW s.heap.size q → va_A WS s.heap.size q := fun q h => Or.inr h
  rw [lg_entry_eq]
  refine body p e (headSpec ws rm).room s m _ below meth c s.heap _ _ (va_A WS s.heap.size) ⟨B.exec, B.bytes, hml, hown1, hts⟩ ⟨Nat.le_refl _, Nat.le_refl _⟩ ⟨Nat.le_refl _, Nat.le_refl _⟩ hE hP hD hA va_S.rf hl ?_ ?_ ?_
  · intro z u pc ls H locs cells slots hdg hz hP1 hD1 hS1 hc hs
    refine vx_ret (W.widen hc hs ?_)
    exact W.iret B.exec B.bytes B.returns (fun t ht hW => ⟨⟨iI z, (z, u), rfl, ⟨rfl, hz⟩, by rw [ht]; exact hP1, hD1⟩, hS1.F ht⟩) hS1.2.2 hdg B.notSynchronized
  · intro E ce q pc ls rest H locs cells slots hxc hce hcv hcl hN hc hs
    exact vx_out (fun x hx => (ht x hx).elim) B.notSynchronized hce hcv hcl (fun t ht1 _ => ⟨(), trivial, hxc, hN.F ht1⟩) (fun z hz => hA _ (hN.2.2 z hz)) hc hs
  · intro E text ik is ic pc ls rest H locs cells slots hr1 hr2 hfit hk hini hstr hat0 hbad hgood d0 d3 d4 d6 d9 hxc hN hls hcat hc hs
    obtain ⟨sa, hsa⟩ := hE.2.2.2.2.2.1 (is, text) hstr
    exact vx_throwS (names := xnm) (A := NW s.heap.size) B.exec B.bytes hst hown1 hfit (by intro n hn; simp only [xnm, List.mem_cons, List.not_mem_nil, or_false] at hn; rcases hn with rfl | rfl <;> decide) (hts _ hk) (hts _ hini) hsa (vx_hat (fun w hw => hts _ (hat0 w hw)) hbad (fun w hw => nest_use hw (hE.2.1 w hw))) hgood (hE.2.2.2.2.1.1.narrow hA) (hE.2.2.2.2.1.2.narrow hA) hN (by rw [hls, hml]) d0 d3 d4 d6 d9 (fun x hx => (ht x hx).elim) (Nat.lt_of_lt_of_le (by show 2 + 3 < 6; decide) hr1) (by have : (13 * (xnm.length + 1) + 43) = 82 := rfl; show _ ≤ rm.locals; omega) (by show _ ≤ rm.cells; omega) (by show _ ≤ rm.slots; omega) B.notSynchronized (fun t hal h1 h2 => ⟨(), trivial, hxc, ⟨Nat.le_trans hN.1 h1, fun q hq hq2 => by rw [h2 q (Nat.lt_of_lt_of_le hq hN.1)]; exact hN.2.1 q hq hq2⟩⟩) (fun z hz => hA _ (hN.2.2 z hz)) hc hs
section XRC
variable {p : Program} {l : Launch} {e : Env} {R : Room} {s : State} {m : MethodId} {args : Array Value} {below : List Frame} {meth : Method} {c : Code} {H : Heap} {locs : List Loc} {cells slots : Nat} {Q : State → Prop}
variable {cc : ByteArray} {pc : Nat} {ls : Array Slot} {rest st0 : List Value} {D : va_G} {cI cL : ClassId} {tw : Nat} {A : Nat → Prop} {ws : va_W} {H0 : Heap} {nL : Nat} {Ts : List Cond} {own : String}
theorem r_xcS {y : MethodName} {ws2 ws3 : List Cond} {rm : Room} {As : List Value} {xc : String → Prop} {index maxL n nf nl mc ms : Nat} {bytes : ByteArray} {ret : Option FieldType} {post : Prop} (S9 : CallFix p m c cc nL s args Ts own) (hM : XRv l y ws2 rm D cI cL tw As [] post xc mc ms) (hG : GoodIn Ts (va_wsS own index y ws2)) (hw : ws2 = Cond.code y bytes maxL ret :: ws3) (hrc : rm.cells = mc) (hrs : rm.slots = ms)
    (hd : y.cls ≠ "java/lang/invoke/MethodHandle" ∧ y.cls ≠ "java/lang/invoke/VarHandle" ∧ (parseMethodDescriptor y.desc).map (fun d => d.parameters.length) = some n) (hR : nf ≤ R.frames ∧ nl ≤ R.locals) (hf : rm.frames + 1 ≤ nf) (hlo : 8 + (maxL + 11) + rm.locals ≤ nl) (hE : EV D cI cL tw A s H) (hP : va_P D vwCl ws H) (hN : va_S (NW H0.size) H0 H locs) (hn : As.length = n) (hsz : ls.size = nL) (hst : st0 = As.reverse ++ rest) (hcat : (rest.map fun v => v.category).sum ≤ 8) (hdg : decode cc pc = .ok (.invokestatic index, 3)) (hce : cells + mc ≤ R.cells ∧ slots + ms ≤ R.slots)
    (kx : ∀ (E : String) (ce : Cell) (q : Nat) (H1 : Heap) (locs1 : List Loc), xc E → H1[q]? = some ce → ce.vm = .none → s.vm.findClass E = some ce.cls → va_P D vwCl ws H1 → va_S (NW H0.size) H0 H1 locs1 → vx_W p l e R s m args below meth c H1 locs1 (cells + mc) (slots + ms) Q (F0 m pc ls rest) q)
    (k : ∀ (H1 : Heap) (locs1 : List Loc), post → va_P D vwCl ws H1 → va_S (NW H0.size) H0 H1 locs1 → W p l e R s m args below meth c H1 locs1 (cells + mc) (slots + ms) Q (F0 m (pc + 3) ls rest)) : W p l e R s m args below meth c H locs cells slots Q (F0 m pc ls st0) := by
  subst hst
  have hup : ∀ q, q < H.size → NW H.size q → NW H0.size q := fun q _ h => Nat.le_trans hN.1 h
  skip
  refine vx_callv (vx_runS (As := As) (rest := rest) S9 (hM H.size) (va_cwS n S9.2.2.2.2 hG hw hrc hrs hd ⟨Nat.le_trans hf hR.1, Nat.le_trans hlo hR.2⟩) ⟨fun a U g mk q => ⟨q.1, q.2.1, q.2.2.1.same (u := U) rfl, q.2.2.2⟩, fun U hU hW => ⟨rfl, by rw [hU], by rw [hU]; exact (hE.narrow (fun _ h => h.elim)).warm hW, by rw [hU]; exact (fun k q hk => by simp at hk)⟩⟩ rfl hn hsz rfl (lv_room hcat) hdg hce) hN hup (fun q h => Nat.le_trans hN.1 h) hup (fun E ce q9 u t H1 locs1 ht hvm _ hxc hz1 hk1 hS2 h5 h6 h7 => kx E ce q9 H1 locs1 hxc h5 h6 h7 (hP.old hk1) hS2) (fun u t H1 locs1 ht hvm hw2 hB hz1 hk1 hS2 => ?_)
  · exact k H1 locs1 hw2 (hP.old hk1) hS2
theorem r_xcVv {y : MethodName} {ws2 ws3 : List Cond} {rm : Room} {As : List Value} {xc : String → Prop} {index maxL n nf nl mc ms : Nat} {bytes : ByteArray} {ret : Option FieldType} {WSc : va_W} {b : Nat} {C : String} {post : Prop} (S9 : CallFix p m c cc nL s args Ts own) (hM : XRv l y ws2 rm D cI cL tw (.ref b :: As) WSc post xc mc ms) (hG : GoodIn Ts (wsV own index C y ws2)) (hw : ws2 = Cond.code y bytes maxL ret :: ws3) (hrc : rm.cells = mc) (hrs : rm.slots = ms)
    (hd : y.cls = C ∧ y.cls ≠ "java/lang/invoke/MethodHandle" ∧ y.cls ≠ "java/lang/invoke/VarHandle" ∧ (parseMethodDescriptor y.desc).map (fun d => d.parameters.length) = some n) (hR : nf ≤ R.frames ∧ nl ≤ R.locals) (hf : rm.frames + 1 ≤ nf) (hlo : 8 + (maxL + 11) + rm.locals ≤ nl) (hE : EV D cI cL tw A s H) (hP : va_P D vwCl ws H) (hN : va_S (NW H0.size) H0 H locs) (is : List Nat) (hCf : is.filterMap (fun i => ws[i]?) = WSc) (q0 : Nat) {ci N : Nat} {T : u_T} {fs : List Value} (hrec : WSc[q0]? = some (b, .inr (ci, fs))) (hcl : vwCl[ci]? = some (C, T, N)) (hn : As.length = n) (hsz : ls.size = nL) (hst : st0 = As.reverse ++ .ref b :: rest) (hcat : (rest.map fun v => v.category).sum ≤ 8) (hdg : decode cc pc = .ok (.invokevirtual index, 3)) (hce : cells + mc ≤ R.cells ∧ slots + ms ≤ R.slots)
    (kx : ∀ (E : String) (ce : Cell) (q : Nat) (H1 : Heap) (locs1 : List Loc), xc E → H1[q]? = some ce → ce.vm = .none → s.vm.findClass E = some ce.cls → va_P D vwCl ws H1 → va_S (NW H0.size) H0 H1 locs1 → vx_W p l e R s m args below meth c H1 locs1 (cells + mc) (slots + ms) Q (F0 m pc ls rest) q)
    (k : ∀ (H1 : Heap) (locs1 : List Loc), post → va_P D vwCl ws H1 → va_S (NW H0.size) H0 H1 locs1 → W p l e R s m args below meth c H1 locs1 (cells + mc) (slots + ms) Q (F0 m (pc + 3) ls rest)) : W p l e R s m args below meth c H locs cells slots Q (F0 m pc ls st0) := by
  subst hst
  have hup : ∀ q, q < H.size → NW H.size q → NW H0.size q := fun q _ h => Nat.le_trans hN.1 h
  have hPc := hP.sub is hCf
  refine vx_callv (vx_runV (As := As) (rest := rest) S9 (hM H.size) (cwV n S9.2.2.2.2 hG hw hrc hrs hd ⟨Nat.le_trans hf hR.1, Nat.le_trans hlo hR.2⟩) ⟨fun a U g mk q => ⟨q.1, q.2.1, q.2.2.1.same (u := U) rfl, q.2.2.2⟩, va_recv hE.1 hPc (ci := ci) (q0 := q0) hcl hrec, fun U hU hW => ⟨rfl, by rw [hU], by rw [hU]; exact (hE.narrow (fun _ h => h.elim)).warm hW, by rw [hU]; exact hPc⟩⟩ rfl hn hsz rfl (lv_room hcat) hdg hce) hN hup (fun q h => Nat.le_trans hN.1 h) hup (fun E ce q9 u t H1 locs1 ht hvm _ hxc hz1 hk1 hS2 h5 h6 h7 => kx E ce q9 H1 locs1 hxc h5 h6 h7 (hP.old hk1) hS2) (fun u t H1 locs1 ht hvm hw2 hB hz1 hk1 hS2 => ?_)
  · exact k H1 locs1 hw2 (hP.old hk1) hS2
theorem r_xcVi {y : MethodName} {ws2 ws3 : List Cond} {rm : Room} {As : List Value} {xc : String → Prop} {index maxL n nf nl mc ms : Nat} {bytes : ByteArray} {ret : Option FieldType} {WSc : va_W} {b : Nat} {C : String} {post : Int → Prop} (S9 : CallFix p m c cc nL s args Ts own) (hM : XRi l y ws2 rm D cI cL tw (.ref b :: As) WSc post xc mc ms) (hG : GoodIn Ts (wsV own index C y ws2)) (hw : ws2 = Cond.code y bytes maxL ret :: ws3) (hrc : rm.cells = mc) (hrs : rm.slots = ms)
    (hd : y.cls = C ∧ y.cls ≠ "java/lang/invoke/MethodHandle" ∧ y.cls ≠ "java/lang/invoke/VarHandle" ∧ (parseMethodDescriptor y.desc).map (fun d => d.parameters.length) = some n) (hR : nf ≤ R.frames ∧ nl ≤ R.locals) (hf : rm.frames + 1 ≤ nf) (hlo : 8 + (maxL + 11) + rm.locals ≤ nl) (hE : EV D cI cL tw A s H) (hP : va_P D vwCl ws H) (hN : va_S (NW H0.size) H0 H locs) (is : List Nat) (hCf : is.filterMap (fun i => ws[i]?) = WSc) (q0 : Nat) {ci N : Nat} {T : u_T} {fs : List Value} (hrec : WSc[q0]? = some (b, .inr (ci, fs))) (hcl : vwCl[ci]? = some (C, T, N)) (hn : As.length = n) (hsz : ls.size = nL) (hst : st0 = As.reverse ++ .ref b :: rest) (hcat : (rest.map fun v => v.category).sum ≤ 8) (hdg : decode cc pc = .ok (.invokevirtual index, 3)) (hce : cells + mc ≤ R.cells ∧ slots + ms ≤ R.slots)
    (kx : ∀ (E : String) (ce : Cell) (q : Nat) (H1 : Heap) (locs1 : List Loc), xc E → H1[q]? = some ce → ce.vm = .none → s.vm.findClass E = some ce.cls → va_P D vwCl ws H1 → va_S (NW H0.size) H0 H1 locs1 → vx_W p l e R s m args below meth c H1 locs1 (cells + mc) (slots + ms) Q (F0 m pc ls rest) q)
    (k : ∀ (z : Int) (H1 : Heap) (locs1 : List Loc), post z → va_P D vwCl ws H1 → va_S (NW H0.size) H0 H1 locs1 → W p l e R s m args below meth c H1 locs1 (cells + mc) (slots + ms) Q (F0 m (pc + 3) ls (.int (iI z) :: rest))) : W p l e R s m args below meth c H locs cells slots Q (F0 m pc ls st0) := by
  subst hst
  have hup : ∀ q, q < H.size → NW H.size q → NW H0.size q := fun q _ h => Nat.le_trans hN.1 h
  have hPc := hP.sub is hCf
  refine vx_calli (vx_runV (As := As) (rest := rest) S9 (hM H.size) (cwV n S9.2.2.2.2 hG hw hrc hrs hd ⟨Nat.le_trans hf hR.1, Nat.le_trans hlo hR.2⟩) ⟨fun a U g mk q => ⟨q.1, q.2.1, q.2.2.1.same (u := U) rfl, q.2.2.2⟩, va_recv hE.1 hPc (ci := ci) (q0 := q0) hcl hrec, fun U hU hW => ⟨rfl, by rw [hU], by rw [hU]; exact (hE.narrow (fun _ h => h.elim)).warm hW, by rw [hU]; exact hPc⟩⟩ rfl hn hsz rfl (lv_room hcat) hdg hce) hN hup (fun q h => Nat.le_trans hN.1 h) hup (fun E ce q9 u t H1 locs1 ht hvm _ hxc hz1 hk1 hS2 h5 h6 h7 => kx E ce q9 H1 locs1 hxc h5 h6 h7 (hP.old hk1) hS2) (fun r u t H1 locs1 ht hvm hw2 hB hz1 hk1 hS2 => ?_)
  · obtain ⟨hr, hz⟩ := hw2
    subst hr
    exact k u H1 locs1 hz (hP.old hk1) hS2
theorem r_xcW {S : Type} {y : MethodName} {ws2 ws3 : List Cond} {rm : Room} {As : List Value} {xc : String → Prop} {index maxL n nf nl mc ms : Nat} {bytes : ByteArray} {ret : Option FieldType} {WSc wr : va_W} {b : Nat} {C : String} {post : Int → S → Prop} {W2 : S → va_W} (S9 : CallFix p m c cc nL s args Ts own) (hM : XWi l y ws2 rm D cI cL tw (.ref b :: As) WSc post W2 xc mc ms) (hG : GoodIn Ts (wsV own index C y ws2)) (hw : ws2 = Cond.code y bytes maxL ret :: ws3) (hrc : rm.cells = mc) (hrs : rm.slots = ms)
    (hd : y.cls = C ∧ y.cls ≠ "java/lang/invoke/MethodHandle" ∧ y.cls ≠ "java/lang/invoke/VarHandle" ∧ (parseMethodDescriptor y.desc).map (fun d => d.parameters.length) = some n) (hR : nf ≤ R.frames ∧ nl ≤ R.locals) (hf : rm.frames + 1 ≤ nf) (hlo : 8 + (maxL + 11) + rm.locals ≤ nl) (hE : EV D cI cL tw A s H) (hP : va_P D vwCl ws H) (hD : va_D A ws) (hS : va_S A H0 H locs) (hA : ∀ q : Nat, H0.size ≤ q → A q) (is isR : List Nat) (hC : is.map (fun i => ws[i]?) = WSc.map some) (hCf : is.filterMap (fun i => ws[i]?) = WSc) (hnd : va_nd is = true) (hRr : isR.map (fun i => ws[i]?) = wr.map some) (hn2 : va_nd isR = true) (hdis : ∀ i ∈ isR, i ∉ is) (q0 : Nat) {ci N : Nat} {T : u_T} {fs : List Value} (hrec : WSc[q0]? = some (b, .inr (ci, fs))) (hcl : vwCl[ci]? = some (C, T, N)) (hn : As.length = n) (hsz : ls.size = nL) (hst : st0 = As.reverse ++ .ref b :: rest) (hcat : (rest.map fun v => v.category).sum ≤ 8) (hdg : decode cc pc = .ok (.invokevirtual index, 3)) (hce : cells + mc ≤ R.cells ∧ slots + ms ≤ R.slots)
    (kx : ∀ (E : String) (ce : Cell) (q : Nat) (H1 : Heap) (locs1 : List Loc), xc E → H1[q]? = some ce → ce.vm = .none → s.vm.findClass E = some ce.cls → va_P D vwCl ws H1 → va_S A H0 H1 locs1 → vx_W p l e R s m args below meth c H1 locs1 (cells + mc) (slots + ms) Q (F0 m pc ls rest) q)
    (k : ∀ (z : Int) (u : S) (H1 : Heap) (locs1 : List Loc), post z u → va_P D vwCl (wr ++ W2 u) H1 → va_D A (wr ++ W2 u) → va_S A H0 H1 locs1 → W p l e R s m args below meth c H1 locs1 (cells + mc) (slots + ms) Q (F0 m (pc + 3) ls (.int (iI z) :: rest))) : W p l e R s m args below meth c H locs cells slots Q (F0 m pc ls st0) := by
  subst hst
  have hPc := hP.sub is hCf
  have hDc := hD.sub is hnd hC
  have hFc := va_free (wc := WSc) hD hS hA is hC
  have hup : ∀ q, q < H.size → NW H.size q → A q := fun q _ h => hA q (Nat.le_trans hS.1 h)
  refine vx_calli (vx_runV (As := As) (rest := rest) S9 (hM H.size) (cwV n S9.2.2.2.2 hG hw hrc hrs hd ⟨Nat.le_trans hf hR.1, Nat.le_trans hlo hR.2⟩) ⟨fun a U g mk q => ⟨q.1, q.2.1, q.2.2.1.same (u := U) rfl, q.2.2.2.1, q.2.2.2.2⟩, va_recv hE.1 hPc (ci := ci) (q0 := q0) hcl hrec, fun U hU hW => ⟨rfl, by rw [hU], by rw [hU]; exact (hE.narrow hFc).warm hW, by rw [hU]; exact hPc, hDc.weaken (fun _ _ _ _ => trivial)⟩⟩ rfl hn hsz rfl (lv_room hcat) hdg hce) hS (fun q _ h => hFc q h) hFc hup (fun E ce q9 u t H1 locs1 ht hvm _ hxc hz1 hk1 hS2 h5 h6 h7 => kx E ce q9 H1 locs1 hxc h5 h6 h7 (hP.old hk1) hS2) (fun r u t H1 locs1 ht hvm hw2 hB hz1 hk1 hS2 => ?_)
  obtain ⟨z, u⟩ := u
  obtain ⟨hr, hz⟩ := hw2
  obtain ⟨hP1, hD1⟩ := hB
  dsimp only at hr hz hP1 hD1
  subst hr
  rw [ht] at hP1
  obtain ⟨hP2, hD2⟩ := va_join hP hD is isR hC hRr hn2 hdis hk1 hFc hP1 hD1
  exact k z u H1 locs1 hz hP2 hD2 hS2
theorem r_gets (hx : p.tables.exec = Jvm.exec) (hb : c.code = cc) {index : Nat} (hE : EV D cI cL tw A s H) (hown : s.vm.findClass own = some m.cls) (hlink : (Cond.fieldLink own index "PachisiYard" "WAYS_BY_MOUTHS" "[I").before args s = true) (hdg : decode cc pc = .ok (.getstatic index, 3)) (k : W p l e R s m args below meth c H locs cells slots Q (F0 m (pc + 3) ls (.ref tw :: rest))) : W p l e R s m args below meth c H locs cells slots Q (F0 m pc ls rest) := by
  obtain ⟨cf, kf, fi, f, a, cell, h1, h2, h3, h4, h5, h6, h7, h8⟩ := hE.2.2.1
  exact W.gets hx hb hown hlink h1 h2 h3 h4 h5 (fun e => by rw [e] at h6; cases h6) h7 rfl hdg k
theorem r_tlen (hx : p.tables.exec = Jvm.exec) (hb : c.code = cc) (hE : EV D cI cL tw A s H) (hdg : decode cc pc = .ok (.arraylength, 1)) (k : W p l e R s m args below meth c H locs cells slots Q (F0 m (pc + 1) ls (.int (iI 7) :: rest))) : W p l e R s m args below meth c H locs cells slots Q (F0 m pc ls (.ref tw :: rest)) := by
  obtain ⟨cell, t1, t2, t3, t4, t5, t6, _⟩ := hE.2.2.2.1
  exact W.alen hx hb t1 t2 t5 rfl rfl hdg k
theorem r_tald (hx : p.tables.exec = Jvm.exec) (hb : c.code = cc) (hE : EV D cI cL tw A s H) {i : Int} (h0 : 0 ≤ i) (h1 : i < 7) (hdg : decode cc pc = .ok (.iaload, 1)) (k : W p l e R s m args below meth c H locs cells slots Q (F0 m (pc + 1) ls (.int (iI (wyI i)) :: rest))) : W p l e R s m args below meth c H locs cells slots Q (F0 m pc ls (.int (iI i) :: .ref tw :: rest)) := by
  obtain ⟨cell, t1, t2, t3, t4, t5, t6, _⟩ := hE.2.2.2.1
  have hc : (iI i).toNatClampNeg = i.toNat := iI_cl h0 (by omega)
  have hv := t6 i.toNat (by omega)
  have hi : ¬ (iI i < 0 ∨ cell.slots.size ≤ (iI i).toNatClampNeg) := by
    rintro (h | h)
    · rw [← iI_0, iI_lt (by unfold rI; omega) rI_0] at h; omega
    · rw [hc] at h; omega
  refine W.iald (v := .int (aI wyI i.toNat)) hx hb t1 t2 t3 hi (by rw [hc]; exact hv) rfl rfl hdg ?_
  have e9 : aI wyI i.toNat = iI (wyI i) := by unfold aI; rw [Int.toNat_of_nonneg h0]
  rw [e9]
  exact k
end XRC
