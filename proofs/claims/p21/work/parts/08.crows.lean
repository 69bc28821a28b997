theorem cnt_0 : cnt (fun _ => 0) = fun _ => 0 := by
  funext k
  unfold cnt stand
  have h := sZ_rng (f := onN (fun _ => 0) (k % 68) (k / 68)) (b := 0) (n := 16) (by omega) (fun j _ _ => by unfold onN; rw [if_neg (fun h => absurd (show (1 : Int) ≤ 0 from h.1) (by decide))]; omega)
  omega
/-- a constructor -/
def RWc {S : Type} (l : Launch) (y : MethodName) (ws : List Cond) (rm : Room) (D : va_G) (cI cL : ClassId) (tw : Nat) (av : List Value) (WS : va_W) (W2 : S → va_W) (mc ms : Nat) : Prop :=
  ∀ sz : Nat, Met l y ws rm (va_Pc av (fun U => U.heap.size = sz ∧ EV D cI cL tw (va_A WS sz) U U.heap ∧ va_P D vwCl WS U.heap ∧ va_D (fun _ => True) WS)) (va_Qv (fun (_ : S) => True) (fun u t => va_P D vwCl (W2 u) t.heap ∧ va_D (va_A WS sz) (W2 u)) (va_A WS sz)) mc ms (va_A WS sz)
theorem rwc_of {S : Type} {l : Launch} {y : MethodName} {ws ws' : List Cond} {rm : Room} {D : va_G} {cI cL : ClassId} {tw : Nat} {av : List Value} {WS : va_W} {W2 : S → va_W} {mc ms : Nat} {cc : ByteArray} {maxL : Nat} {own : String}
    (hy : plainName y.cls = true) (hw : ws = Cond.code y cc maxL none :: ws') (hown : y.cls = own) (hyn : y.name = "<init>") (hlen : (lg_sl av).length ≤ maxL)
    (body : ∀ (p : Program) (e : Env) (R : Room) (s : State) (m : MethodId) (args : Array Value) (below : List Frame) (meth : Method) (c : Code) (H0 : Heap) (Q : State → Prop) (ls : Array Slot) (A : Nat → Prop), CallFix p m c cc maxL s args ws own → (rm.frames ≤ R.frames ∧ rm.locals ≤ R.locals) → (rm.cells ≤ R.cells ∧ rm.slots ≤ R.slots) → meth.name = "<init>" → EV D cI cL tw A s H0 → va_P D vwCl WS H0 → va_D A WS → va_S A H0 H0 [] → (∀ q : Nat, H0.size ≤ q → A q) → lv_has ls maxL (lv_args 0 av) →
      (∀ (u : S) (pc : Nat) (ls : Array Slot) (H : Heap) (locs : List Loc) (cells slots : Nat), decode cc pc = .ok (.return_, 1) → va_P D vwCl (W2 u) H → va_D A (W2 u) → va_S A H0 H locs → cells ≤ mc → slots ≤ ms → W p l e R s m args below meth c H locs cells slots Q (F0 m pc ls [])) → W p l e R s m args below meth c H0 [] 0 0 Q (F0 m 0 ls [])) : RWc l y ws rm D cI cL tw av WS W2 mc ms := by
  intro sz
  refine Met.ofW (cc := cc) (maxL := maxL) (ret := none) hy hw ?_
  intro p e s m args below meth c s₁ B hml hv
  obtain ⟨rfl, hsz, hE, hP, hD0⟩ := hv
  subst hsz
  have hts := atoms_spec (ws := ws) B.pre
  have hown1 : s.vm.findClass own = some m.cls := by rw [← hown]; exact findClass_of_methodNamed B.named
  have hin : meth.name = "<init>" := ((name_of_methodNamed B.named B.method).1).trans hyn
  have hl := lv_entry av hlen
  have hD := hD0.self (sz := s.heap.size)
  rw [lg_entry_eq]
  refine body p e (headSpec ws rm).room s m _ below meth c s.heap _ _ (va_A WS s.heap.size) ⟨B.exec, B.bytes, hml, hown1, hts⟩ ⟨Nat.le_refl _, Nat.le_refl _⟩ ⟨Nat.le_refl _, Nat.le_refl _⟩ hin hE hP hD va_S.rf (fun q h => Or.inr h) hl ?_
  intro u pc ls H locs cells slots hdg hP1 hD1 hS1 hc hs
  exact W.widen hc hs (W.vret B.exec B.bytes B.returns (fun t ht hW => ⟨⟨u, rfl, trivial, by rw [ht]; exact hP1, hD1⟩, hS1.F ht⟩) hS1.2.2 hdg B.notSynchronized)
/-- a method with handlers: it throws nothing -/
theorem lwi_of {S : Type} {l : Launch} {y : MethodName} {ws ws' : List Cond} {rm : Room} {D : va_G} {cI cL : ClassId} {tw : Nat} {av : List Value} {WS : va_W} {post : Int → S → Prop} {W2 : S → va_W} {mc ms : Nat} {cc : ByteArray} {maxL : Nat} {hh : List (Nat × Nat × Nat × Nat)} {own : String}
    (hy : plainName y.cls = true) (hw : ws = Cond.codeWith y cc maxL (some .int) hh :: ws') (hown : y.cls = own) (hlen : (lg_sl av).length ≤ maxL)
    (body : ∀ (p : Program) (e : Env) (R : Room) (s : State) (m : MethodId) (args : Array Value) (below : List Frame) (meth : Method) (c : Code) (H0 : Heap) (Q : State → Prop) (ls : Array Slot) (A : Nat → Prop), CallFix p m c cc maxL s args ws own → (rm.frames ≤ R.frames ∧ rm.locals ≤ R.locals) → (rm.cells ≤ R.cells ∧ rm.slots ≤ R.slots) → EV D cI cL tw A s H0 → va_P D vwCl WS H0 → va_D A WS → (∀ q : Nat, NW H0.size q → A q) → va_S (NW H0.size) H0 H0 [] → lv_has ls maxL (lv_args 0 av) →  c.exceptionTable.toList = tableOf hh →
      (∀ (z : Int) (u : S) (pc : Nat) (ls : Array Slot) (H : Heap) (locs : List Loc) (cells slots : Nat), decode cc pc = .ok (.ireturn, 1) → post z u → va_P D vwCl (W2 u) H → va_D A (W2 u) → va_S A H0 H locs → cells ≤ mc → slots ≤ ms → W p l e R s m args below meth c H locs cells slots Q (F0 m pc ls [.int (iI z)])) → W p l e R s m args below meth c H0 [] 0 0 Q (F0 m 0 ls [])) : XWi l y ws rm D cI cL tw av WS post W2 (fun _ => False) mc ms := by
  intro sz
  refine vx_ofWH (cc := cc) (maxL := maxL) (ret := some .int) (hh := hh) hy hw ?_
  intro p e s m args below meth c s₁ B hml hv
  obtain ⟨rfl, hsz, hE, hP, hD0⟩ := hv
  subst hsz
  have hts := atoms_spec (ws := ws) B.pre
  have htb : c.exceptionTable.toList = tableOf hh := vx_table (x := y) B (hts (Cond.codeWith y cc maxL (some .int) hh) (by rw [hw]; exact List.mem_cons_self))
  have hown1 : s.vm.findClass own = some m.cls := by rw [← hown]; exact findClass_of_methodNamed B.named
  have hl := lv_entry av hlen
  have hD := hD0.self (sz := s.heap.size)
  rw [lg_entry_eq]
  refine body p e (headSpec ws rm).room s m _ below meth c s.heap _ _ (va_A WS s.heap.size) ⟨B.exec, B.bytes, hml, hown1, hts⟩ ⟨Nat.le_refl _, Nat.le_refl _⟩ ⟨Nat.le_refl _, Nat.le_refl _⟩ hE hP hD (fun q h => Or.inr h) va_S.rf hl htb ?_
  intro z u pc ls H locs cells slots hdg hz hP1 hD1 hS1 hc hs
  refine vx_ret (W.widen hc hs ?_)
  exact W.iret B.exec B.bytes B.returns (fun t ht hW => ⟨⟨iI z, (z, u), rfl, ⟨rfl, hz⟩, by rw [ht]; exact hP1, hD1⟩, hS1.F ht⟩) hS1.2.2 hdg B.notSynchronized
section CRC
variable {p : Program} {l : Launch} {e : Env} {R : Room} {s : State} {m : MethodId} {args : Array Value} {below : List Frame} {meth : Method} {c : Code} {H : Heap} {locs : List Loc} {cells slots : Nat} {Q : State → Prop}
variable {cc : ByteArray} {pc : Nat} {ls : Array Slot} {rest st0 : List Value} {D : va_G} {cI cL : ClassId} {tw : Nat} {A : Nat → Prop} {ws : va_W} {H0 : Heap} {nL : Nat} {Ts : List Cond} {own : String}
theorem r_objInit (S9 : CallFix p m c cc nL s args Ts own) {nf nl idx a : Nat} (hR : nf ≤ R.frames ∧ nl ≤ R.locals) (hf : 1 ≤ nf) (hlo : 40 ≤ nl) (h1 : (Cond.methodLink own idx Lib.objectInit).before args s = true) (h2 : (Cond.instanceMethod Lib.objectInit).before args s = true) (h3 : (Cond.code Lib.objectInit ⟨#[0xb1]⟩ 1 none).before args s = true) (hsz : ls.size = nL) (hcat : (rest.map fun v => v.category).sum ≤ 8) (hdg : decode cc pc = .ok (.invokespecial idx, 3)) (k : W p l e R s m args below meth c H locs cells slots Q (F0 m (pc + 3) ls rest)) : W p l e R s m args below meth c H locs cells slots Q (F0 m pc ls (.ref a :: rest)) :=
  W.objInit S9.1 S9.2.1 S9.2.2.2.1 h1 h2 h3 rfl (by rw [S9.2.2.1]; exact hsz) rfl hdg (Nat.le_trans hf hR.1) (by show 2 * 0 + _ + 12 ≤ _; omega) k
theorem r_newaI (hx : p.tables.exec = Jvm.exec) (hb : c.code = cc) (harr : (Cond.arrayClass .int).before args s = true) {A9 : Nat → Prop} {H9 : Heap} (hE : EV D cI cL tw A9 s H9) (hP : va_P D vwCl ws H) (hD : va_D A ws) (hS : va_S A H0 H locs) (hA : ∀ q : Nat, H0.size ≤ q → A q) {N : Nat} {n : Int} (hn : n = (N : Int)) (hN : N ≤ 1000) (hce : cells + 1 ≤ R.cells ∧ slots + N ≤ R.slots) (hdg : decode cc pc = .ok (.newarray .int, 2))
    (k : ∀ (q : Nat) (H1 : Heap), va_P D vwCl (ws ++ [(q, .inl (cI, N, .inl (aI (fun _ => 0))))]) H1 → va_D A (ws ++ [(q, .inl (cI, N, .inl (aI (fun _ => 0))))]) → va_S A H0 H1 locs → W p l e R s m args below meth c H1 locs (cells + 1) (slots + N) Q (F0 m (pc + 2) ls (.ref q :: rest))) : W p l e R s m args below meth c H locs cells slots Q (F0 m pc ls (.int (iI n) :: rest)) := by
  subst hn
  refine va_newa (atype := .int) hx hb harr (ty := .int) rfl hE.1 hP hD hS hA (n := iI (N : Int)) (N' := N) (a0 := (N, .inl (aI (fun _ => 0)))) (fun cA => rfl) ?_ ?_ ?_ hce.1 hce.2 hdg (fun q cA H1 hK1 hP1 hD1 hS1 => ?_)
  · rw [← iI_0, iI_lt (by unfold rI; omega) rI_0]; omega
  · exact (iI_cl (by omega) (by omega)).trans (by omega)
  · show N * 4 ≤ _; omega
  · have h1 : s.vm.findClass ("[" ++ FieldType.int.toString) = some cA := (hK1.2 1 (cA, .int) rfl).2
    have h2 : s.vm.findClass ("[" ++ FieldType.int.toString) = some cI := (hE.1.2 0 (cI, .int) rfl).2
    have e9 : cA = cI := Option.some.inj (h1.symm.trans h2)
    subst e9
    exact k q H1 hP1 hD1 hS1
theorem r_callC {S : Type} {y : MethodName} {ws2 ws3 : List Cond} {rm : Room} {As : List Value} {WSc wr : va_W} {W2 : S → va_W} {b index maxL n nf nl mc ms : Nat} {bytes : ByteArray} (S9 : CallFix p m c cc nL s args Ts own) (hM : RWc l y ws2 rm D cI cL tw (.ref b :: As) WSc W2 mc ms) (hG : GoodIn Ts ws2) (hw : ws2 = Cond.code y bytes maxL none :: ws3) (hrc : rm.cells = mc) (hrs : rm.slots = ms) (hini : (Cond.initialized y.cls).before args s = true) (hl1 : (Cond.methodLink own index y).before args s = true) (hin : (Cond.instanceMethod y).before args s = true) (hy1 : y.name = "<init>")
    (hd : y.cls ≠ "java/lang/invoke/MethodHandle" ∧ y.cls ≠ "java/lang/invoke/VarHandle" ∧ (parseMethodDescriptor y.desc).map (fun d => d.parameters.length) = some n) (hR : nf ≤ R.frames ∧ nl ≤ R.locals) (hf : rm.frames + 1 ≤ nf) (hlo : 8 + (maxL + 11) + rm.locals ≤ nl) (hE : EV D cI cL tw A s H) (hP : va_P D vwCl ws H) (hD : va_D A ws) (hS : va_S A H0 H locs) (hA : ∀ q : Nat, H0.size ≤ q → A q) (is isR : List Nat) (hC : is.map (fun i => ws[i]?) = WSc.map some) (hCf : is.filterMap (fun i => ws[i]?) = WSc) (hnd : va_nd is = true) (hRr : isR.map (fun i => ws[i]?) = wr.map some) (hn2 : va_nd isR = true) (hdis : ∀ i ∈ isR, i ∉ is)
    (hn : As.length = n) (hsz : ls.size = nL) (hst : st0 = As.reverse ++ .ref b :: rest) (hcat : (rest.map fun v => v.category).sum ≤ 8) (hdg : decode cc pc = .ok (.invokespecial index, 3)) (hce : cells + mc ≤ R.cells ∧ slots + ms ≤ R.slots)
    (k : ∀ (u : S) (H1 : Heap) (locs1 : List Loc), va_P D vwCl (wr ++ W2 u) H1 → va_D A (wr ++ W2 u) → va_S A H0 H1 locs1 → W p l e R s m args below meth c H1 locs1 (cells + mc) (slots + ms) Q (F0 m (pc + 3) ls rest)) : W p l e R s m args below meth c H locs cells slots Q (F0 m pc ls st0) := by
  subst hst
  have hPc := hP.sub is hCf
  have hDc := hD.sub is hnd hC
  have hFc := va_free (wc := WSc) hD hS hA is hC
  refine va_callv (va_runI (As := As) (rest := rest) S9 (hM H.size) (cwI n S9.2.2.2.2 hG hw hrc hrs hini hl1 hin hy1 hd ⟨Nat.le_trans hf hR.1, Nat.le_trans hlo hR.2⟩) ⟨fun a U g mk q => ⟨q.1, q.2.1, q.2.2.1.same (u := U) rfl, q.2.2.2.1, q.2.2.2.2⟩, fun U hU hW => ⟨rfl, by rw [hU], by rw [hU]; exact (hE.narrow hFc).warm hW, by rw [hU]; exact hPc, hDc.weaken (fun _ _ _ _ => trivial)⟩⟩ rfl hn hsz rfl (lv_room hcat) hdg hce) hS (fun q _ h => hFc q h) hFc (fun u t H1 locs1 ht hvm hw2 hB hz1 hk1 hS2 => ?_)
  obtain ⟨hP1, hD1⟩ := hB
  rw [ht] at hP1
  obtain ⟨hP2, hD2⟩ := va_join hP hD is isR hC hRr hn2 hdis hk1 hFc hP1 hD1
  exact k u H1 locs1 hP2 hD2 hS2
theorem r_lcS {S : Type} {y : MethodName} {ws2 ws3 : List Cond} {rm : Room} {As : List Value} {WSc wr : va_W} {post : Int → S → Prop} {W2 : S → va_W} {index maxL n nf nl mc ms : Nat} {bytes : ByteArray} {ret : Option FieldType} {hh : List (Nat × Nat × Nat × Nat)} (S9 : CallFix p m c cc nL s args Ts own) (hM : XWi l y ws2 rm D cI cL tw As WSc post W2 (fun _ => False) mc ms) (hG : GoodIn Ts (va_wsS own index y ws2)) (hw : ws2 = Cond.codeWith y bytes maxL ret hh :: ws3) (hrc : rm.cells = mc) (hrs : rm.slots = ms)
    (hd : y.cls ≠ "java/lang/invoke/MethodHandle" ∧ y.cls ≠ "java/lang/invoke/VarHandle" ∧ (parseMethodDescriptor y.desc).map (fun d => d.parameters.length) = some n) (hR : nf ≤ R.frames ∧ nl ≤ R.locals) (hf : rm.frames + 1 ≤ nf) (hlo : 8 + (maxL + 11) + rm.locals ≤ nl) (hE : EV D cI cL tw A s H) (hP : va_P D vwCl ws H) (hD : va_D A ws) (hS : va_S A H0 H locs) (hA : ∀ q : Nat, H0.size ≤ q → A q) (is isR : List Nat) (hC : is.map (fun i => ws[i]?) = WSc.map some) (hCf : is.filterMap (fun i => ws[i]?) = WSc) (hnd : va_nd is = true) (hRr : isR.map (fun i => ws[i]?) = wr.map some) (hn2 : va_nd isR = true) (hdis : ∀ i ∈ isR, i ∉ is)
    (hn : As.length = n) (hsz : ls.size = nL) (hst : st0 = As.reverse ++ rest) (hcat : (rest.map fun v => v.category).sum ≤ 8) (hdg : decode cc pc = .ok (.invokestatic index, 3)) (hce : cells + mc ≤ R.cells ∧ slots + ms ≤ R.slots)
    (k : ∀ (z : Int) (u : S) (H1 : Heap) (locs1 : List Loc), post z u → va_P D vwCl (wr ++ W2 u) H1 → va_D A (wr ++ W2 u) → va_S A H0 H1 locs1 → W p l e R s m args below meth c H1 locs1 (cells + mc) (slots + ms) Q (F0 m (pc + 3) ls (.int (iI z) :: rest))) : W p l e R s m args below meth c H locs cells slots Q (F0 m pc ls st0) := by
  subst hst
  have hPc := hP.sub is hCf
  have hDc := hD.sub is hnd hC
  have hFc := va_free (wc := WSc) hD hS hA is hC
  have hup : ∀ q, q < H.size → NW H.size q → A q := fun q _ h => hA q (Nat.le_trans hS.1 h)
  refine vx_calli (vx_runSX (As := As) (rest := rest) S9 (hM H.size) (vx_cwSW n S9.2.2.2.2 hG hw hrc hrs hd ⟨Nat.le_trans hf hR.1, Nat.le_trans hlo hR.2⟩) ⟨fun a U g mk q => ⟨q.1, q.2.1, q.2.2.1.same (u := U) rfl, q.2.2.2.1, q.2.2.2.2⟩, fun U hU hW => ⟨rfl, by rw [hU], by rw [hU]; exact (hE.narrow hFc).warm hW, by rw [hU]; exact hPc, hDc.weaken (fun _ _ _ _ => trivial)⟩⟩ rfl hn hsz rfl (lv_room hcat) hdg hce) hS (fun q _ h => hFc q h) hFc hup (fun E ce q9 u t H1 locs1 ht hvm _ hxc hz1 hk1 hS2 h5 h6 h7 => hxc.elim) (fun r u t H1 locs1 ht hvm hw2 hB hz1 hk1 hS2 => ?_)
  obtain ⟨z, u⟩ := u
  obtain ⟨hr, hz⟩ := hw2
  obtain ⟨hP1, hD1⟩ := hB
  dsimp only at hr hz hP1 hD1
  subst hr
  rw [ht] at hP1
  obtain ⟨hP2, hD2⟩ := va_join hP hD is isR hC hRr hn2 hdis hk1 hFc hP1 hD1
  exact k z u H1 locs1 hz hP2 hD2 hS2
/-- the script's number at a place -/
def sX (xs : Nat → Int32) (k : Int) : Int := (xs k.toNat).toInt
theorem sX_rng (xs : Nat → Int32) (k : Int) : -2147483648 ≤ sX xs k ∧ sX xs k < 2147483648 := by
  have := rI_of (xs k.toNat); unfold rI at this; unfold sX; omega
theorem r_sld (hx : p.tables.exec = Jvm.exec) (hb : c.code = cc) {b L : Nat} {xs : Nat → Int32} (hX : va_X b L xs s H0) (hbl : b < H0.size) (hbA : ¬ A b) (hS : va_S A H0 H locs) {i : Int} (h0 : 0 ≤ i) (h1 : i < L) (hL : L ≤ 1000000) (hdg : decode cc pc = .ok (.iaload, 1)) (k : W p l e R s m args below meth c H locs cells slots Q (F0 m (pc + 1) ls (.int (iI (sX xs i)) :: rest))) : W p l e R s m args below meth c H locs cells slots Q (F0 m pc ls (.int (iI i) :: .ref b :: rest)) := by
  refine va_sld hx hb hX hbl hbA hS (aI_in h0 h1 hL) hdg ?_
  have e9 : xs (iI i).toNatClampNeg = iI (sX xs i) := by rw [iI_cl h0 (by omega)]; exact iI_of _
  rw [e9]; exact k
theorem r_slen (hx : p.tables.exec = Jvm.exec) (hb : c.code = cc) {b L : Nat} {xs : Nat → Int32} (hX : va_X b L xs s H0) (hbl : b < H0.size) (hbA : ¬ A b) (hS : va_S A H0 H locs) (hdg : decode cc pc = .ok (.arraylength, 1)) (k : W p l e R s m args below meth c H locs cells slots Q (F0 m (pc + 1) ls (.int (iI (L : Int)) :: rest))) : W p l e R s m args below meth c H locs cells slots Q (F0 m pc ls (.ref b :: rest)) := va_slen hx hb hX hbl hbA hS hdg k
end CRC
