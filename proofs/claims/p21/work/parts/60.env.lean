/-! THE CLAIM OUT OF ONE WALK OF THE LAW'S BODY. Your part is whole_start (and what it stands on); all else here is the same for every law, but numbers. -/
def R_law : String := "PachisiYardLaw"
def lw_P (b : Addr) (xs : List Int32) (args : Array Value) (s : State) : Prop := args = #[.ref b] ∧ s.IntsAt b xs ∧ xs.length ≤ 260 ∧ (Jvm.Cond.and given_1 narrow_1).before args s = true
def lw_Q (_ : Array Value) (s : State) (o : Outcome) (t : State) : Prop := o = .returned (some (.int 1)) ∧ Framed s o t [] 643173 7171948
def lw_Z (below : List Frame) (a : Array Value) (s : State) : State → Prop := fun t => ∃ o, t.status = .running ∧ Ended t below o ∧ lw_Q a s o t
/-- the law's own end, with 1 on the stack, nothing written that was there before, its room as the claim has it -/
theorem lw_ret {p : Program} {l : Launch} {e : Env} {s : State} {m : MethodId} {below : List Frame} {meth : Method} {c : Code} {b : Nat} (hx : p.tables.exec = Jvm.exec) (hb : c.code = code) (hr : meth.sig.returnType = ret) (hlocks : meth.locks = false) {pc : Nat} {H : Heap} {ls : Array Slot} (hdg : decode code pc = .ok (.ireturn, 1)) : W p l e room_1 s m #[Value.ref b] below meth c H [] 643173 7171948 (lw_Z below #[Value.ref b] s) (F0 m pc ls [.int 1]) := by
  intro T hT X
  obtain ⟨fs, hret, hrun, hended, hW, hframe⟩ := X.leave (v := some (.int 1)) (hlocks := hlocks) (fun h => by rw [hr] at h; cases h)
  have hmeth' : T.vm.method? m = some meth := X.method'
  refine ⟨T.setFrames fs, ?_, .returned (some (.int 1)), hrun, hended, rfl, ⟨_, rfl⟩, hW, hframe⟩
  jvm_step X.here [X.here.top, hx, hb, hdg, hmeth', hr, ret, narrow_b1]
  (try refine ⟨rfl, ?_⟩); (try refine ⟨rfl, ?_⟩)
  first | (intro acts; rw [hret _ acts rfl rfl rfl]) | rw [hret _ _ rfl rfl rfl]
  exact Steps.refl _
/-- what holds at the law's entry: the machine, the code, the tables' words (any of lw_tbl by 'hts w (by decide +kernel)'), the script of L ints xs at the cell b, what the Statement gives of the start (any of its parts by flat_of_before) -/
def lw_At (p : Program) (s : State) (m : MethodId) (meth : Method) (c : Code) (b L : Nat) (xs : Nat → Int32) : Prop :=
  p.tables.exec = Jvm.exec ∧ c.code = code ∧ meth.sig.returnType = ret ∧ c.maxLocals = 8 ∧ s.vm.findClass R_law = some m.cls ∧ (∀ w ∈ lw_tbl, w.before #[Value.ref b] s = true) ∧ va_X b L xs s s.heap ∧ b < s.heap.size ∧ meth.locks = false ∧ (Jvm.Cond.and given_1 narrow_1).before #[Value.ref b] s = true
theorem nest_tbl : ∀ w ∈ nestL, w ∈ lw_tbl ∧ w.onTables = true := by decide +kernel
theorem str_tbl : ∀ q ∈ strL, Cond.stringRef RX1 q.1 q.2 ∈ lw_tbl := by decide +kernel
theorem law_u0 : ∀ w ∈ wsX00, w ∈ lw_tbl := by decide +kernel
theorem law_u1 : ∀ w ∈ wsX10, w ∈ lw_tbl := by decide +kernel
theorem arr_of {args : Array Value} {s : State} {ty : FieldType} (h : (Cond.arrayClass ty).before args s = true) (hty : ty = .int ∨ ty = .long) : ∃ cA : ClassId, ArrOfT s cA ty ∧ va_RA s cA ty := by
  obtain ⟨cA, kA, comp, h1, h2, h3⟩ := Cond.arrayClass_spec h
  rcases hty with rfl | rfl
  · exact ⟨cA, fun n z => ⟨fun k h => (by cases h), kA, h2, comp, h3⟩, h1⟩
  · exact ⟨cA, fun n z => ⟨fun k h => (by cases h), kA, h2, comp, h3⟩, h1⟩
theorem exa_ref {args : Array Value} {s : State} {t : Term} {cls : String} (h : (Cond.exactly t cls).before args s = true) : ∃ a : Nat, t.eval args s none [] s = some (.ref a) := by
  obtain ⟨a, c, cell, k, ha, -⟩ := Cond.exactly_spec h
  exact ⟨a, ha⟩
theorem wyI_vals : aI wyI 0 = 1 ∧ aI wyI 1 = 6 ∧ aI wyI 2 = 15 ∧ aI wyI 3 = 20 ∧ aI wyI 4 = 15 ∧ aI wyI 5 = 6 ∧ aI wyI 6 = 1 := by decide
set_option maxHeartbeats 4000000 in
set_option maxRecDepth 100000 in
theorem ev_start {s : State} {b : Nat} (hts : ∀ w ∈ lw_tbl, w.before #[Value.ref b] s = true) (hgv : (Jvm.Cond.and given_1 narrow_1).before #[Value.ref b] s = true) : ∃ (D : va_G) (cI cL : ClassId) (tw : Nat), EV D cI cL tw (fun q : Nat => s.heap.size ≤ q) s s.heap := by
  have hs := flat_of_before _ hgv
  have hA : ∀ a : Nat, a < s.heap.size → ¬ (fun q : Nat => s.heap.size ≤ q) a := fun a h => Nat.not_le.mpr h
  obtain ⟨c0, i0, k0⟩ := u_known (C := RX0) (T := TX0) (N := 2) (n := 2) hts law_u0 (hts (.instantiable RX0 2) (by decide +kernel))
  obtain ⟨c1, i1, k1⟩ := u_known (C := RX1) (T := TX1) (N := 6) (n := 6) hts law_u1 (hts (.instantiable RX1 6) (by decide +kernel))
  obtain ⟨cI, hI1, hI2⟩ := arr_of (hts (.arrayClass .int) (by decide +kernel)) (Or.inl rfl)
  obtain ⟨tw, htw, hT⟩ := va_Tof (tm := .static "PachisiYard" "WAYS_BY_MOUTHS" "[I") (ty := .int) (N := 7) (f := fun j => .int (aI wyI j)) (A := fun q : Nat => s.heap.size ≤ q) (by decide) (hs (.arrayOf (.static "PachisiYard" "WAYS_BY_MOUTHS" "[I") .int) (by decide +kernel)) (va_eqt (hs (.eq (.length (.static "PachisiYard" "WAYS_BY_MOUTHS" "[I")) (.int 7)) (by decide +kernel))) (fun j hj => by
    obtain ⟨e0, e1, e2, e3, e4, e5, e6⟩ := wyI_vals
    have h7 : j = 0 ∨ j = 1 ∨ j = 2 ∨ j = 3 ∨ j = 4 ∨ j = 5 ∨ j = 6 := by omega
    rcases h7 with rfl | rfl | rfl | rfl | rfl | rfl | rfl
    · show (Term.elem (.static "PachisiYard" "WAYS_BY_MOUTHS" "[I") (.int 0)).eval #[Value.ref b] s none [] s = some (.int (aI wyI 0)); rw [e0]; exact va_eqt (hs (.eq (.elem (.static "PachisiYard" "WAYS_BY_MOUTHS" "[I") (.int 0)) (.int 1)) (by decide +kernel))
    · show (Term.elem (.static "PachisiYard" "WAYS_BY_MOUTHS" "[I") (.int 1)).eval #[Value.ref b] s none [] s = some (.int (aI wyI 1)); rw [e1]; exact va_eqt (hs (.eq (.elem (.static "PachisiYard" "WAYS_BY_MOUTHS" "[I") (.int 1)) (.int 6)) (by decide +kernel))
    · show (Term.elem (.static "PachisiYard" "WAYS_BY_MOUTHS" "[I") (.int 2)).eval #[Value.ref b] s none [] s = some (.int (aI wyI 2)); rw [e2]; exact va_eqt (hs (.eq (.elem (.static "PachisiYard" "WAYS_BY_MOUTHS" "[I") (.int 2)) (.int 15)) (by decide +kernel))
    · show (Term.elem (.static "PachisiYard" "WAYS_BY_MOUTHS" "[I") (.int 3)).eval #[Value.ref b] s none [] s = some (.int (aI wyI 3)); rw [e3]; exact va_eqt (hs (.eq (.elem (.static "PachisiYard" "WAYS_BY_MOUTHS" "[I") (.int 3)) (.int 20)) (by decide +kernel))
    · show (Term.elem (.static "PachisiYard" "WAYS_BY_MOUTHS" "[I") (.int 4)).eval #[Value.ref b] s none [] s = some (.int (aI wyI 4)); rw [e4]; exact va_eqt (hs (.eq (.elem (.static "PachisiYard" "WAYS_BY_MOUTHS" "[I") (.int 4)) (.int 15)) (by decide +kernel))
    · show (Term.elem (.static "PachisiYard" "WAYS_BY_MOUTHS" "[I") (.int 5)).eval #[Value.ref b] s none [] s = some (.int (aI wyI 5)); rw [e5]; exact va_eqt (hs (.eq (.elem (.static "PachisiYard" "WAYS_BY_MOUTHS" "[I") (.int 5)) (.int 6)) (by decide +kernel))
    · show (Term.elem (.static "PachisiYard" "WAYS_BY_MOUTHS" "[I") (.int 6)).eval #[Value.ref b] s none [] s = some (.int (aI wyI 6)); rw [e6]; exact va_eqt (hs (.eq (.elem (.static "PachisiYard" "WAYS_BY_MOUTHS" "[I") (.int 6)) (.int 1)) (by decide +kernel))) hA
  have hZ := va_Zof (hts (.laysStatic "PachisiYard" "WAYS_BY_MOUTHS" "[I") (by decide +kernel)) (hts (.initialized "PachisiYard") (by decide +kernel)) htw hA
  obtain ⟨dC, dI, hKc⟩ : ∃ (dC : Nat → ClassId) (dI : Nat → Nat → Nat), ∀ (k : Nat) (q : vw_C), vwCl[k]? = some q → u_Kn s q.1 q.2.1 q.2.2 (dC k) (dI k) := by
    refine ⟨fun k => if k = 0 then c0 else c1, fun k => if k = 0 then i0 else i1, ?_⟩
    intro k q hq
    match k, hq with
    | 0, hq => cases hq; exact k0
    | 1, hq => cases hq; exact k1
    | k + 2, hq => simp [vwCl] at hq
  refine ⟨(dC, dI), cI, cI, tw, ⟨hKc, ?_⟩, ?_, hZ, hT, ⟨?_, ?_⟩, ?_, ?_⟩
  · intro k q hq
    match k, hq with
    | 0, hq => cases hq; exact ⟨hI1, hI2⟩
    | k + 1, hq => simp at hq
  · exact fun w hw => va_Nw.of (nest_tbl w hw).2 (hts w (nest_tbl w hw).1)
  · exact vx_Zqof (hts (.laysStatic Bundle.tN "UNASSIGNED_STACK" Bundle.steD) (by decide +kernel)) (hts (.initialized Bundle.tN) (by decide +kernel)) (hs (.isRef (.static Bundle.tN "UNASSIGNED_STACK" Bundle.steD)) (by decide +kernel)) hA
  · exact vx_Zqof (hts (.laysStatic Bundle.tN "SUPPRESSED_SENTINEL" Bundle.listD) (by decide +kernel)) (hts (.initialized Bundle.tN) (by decide +kernel)) (hs (.isRef (.static Bundle.tN "SUPPRESSED_SENTINEL" Bundle.listD)) (by decide +kernel)) hA
  · intro q hq
    have h1 := hts _ (str_tbl q hq)
    have key : ∃ a : Nat, (Term.string RX1 q.1).eval #[Value.ref b] s none [] s = some (.ref a) := by
      simp only [strL, List.mem_cons, List.not_mem_nil, or_false] at hq
      rcases hq with rfl | rfl | rfl | rfl | rfl | rfl | rfl | rfl | rfl | rfl | rfl
      · exact exa_ref (hs (.exactly (.string "PachisiYard" 132) "java/lang/String") (by decide +kernel))
      · exact exa_ref (hs (.exactly (.string "PachisiYard" 141) "java/lang/String") (by decide +kernel))
      · exact exa_ref (hs (.exactly (.string "PachisiYard" 146) "java/lang/String") (by decide +kernel))
      · exact exa_ref (hs (.exactly (.string "PachisiYard" 153) "java/lang/String") (by decide +kernel))
      · exact exa_ref (hs (.exactly (.string "PachisiYard" 156) "java/lang/String") (by decide +kernel))
      · exact exa_ref (hs (.exactly (.string "PachisiYard" 158) "java/lang/String") (by decide +kernel))
      · exact exa_ref (hs (.exactly (.string "PachisiYard" 160) "java/lang/String") (by decide +kernel))
      · exact exa_ref (hs (.exactly (.string "PachisiYard" 162) "java/lang/String") (by decide +kernel))
      · exact exa_ref (hs (.exactly (.string "PachisiYard" 164) "java/lang/String") (by decide +kernel))
      · exact exa_ref (hs (.exactly (.string "PachisiYard" 35) "java/lang/String") (by decide +kernel))
      · exact exa_ref (hs (.exactly (.string "PachisiYard" 78) "java/lang/String") (by decide +kernel))
    obtain ⟨a, ha⟩ := key
    exact ⟨a, vk_R.of h1 ha⟩
  · intro q hq
    simp only [ncL, List.mem_cons, List.not_mem_nil, or_false] at hq
    rcases hq with rfl | rfl | rfl
    · exact va_Nc.of (hs (.not (.castable "java/lang/IllegalStateException" "java/lang/IllegalArgumentException")) (by decide +kernel))
    · exact va_Nc.of (hs (.not (.castable "java/lang/IllegalStateException" "java/lang/IndexOutOfBoundsException")) (by decide +kernel))
    · exact va_Nc.of (hs (.not (.castable "java/lang/IllegalArgumentException" "java/lang/IndexOutOfBoundsException")) (by decide +kernel))
