section
-- ===== PART A: goes FIRST, ahead of the names: the tables' words, and 'selects' of the private methods out of them =====
/-- a private method of a class that the tables say can be made, by its rows of tables_1 -/
def lw_okq (q : MethodName × Nat) : Prop := (q.1.cls ≠ "java/lang/invoke/MethodHandle" ∧ q.1.cls ≠ "java/lang/invoke/VarHandle") ∧ Cond.instantiable q.1.cls q.2 ∈ tables_1 ∧ Cond.privateMethod q.1 ∈ tables_1 ∧ Cond.instanceMethod q.1 ∈ tables_1
theorem lw_p0 : lw_okq (⟨"java/lang/Throwable", "fillInStackTrace", "(I)Ljava/lang/Throwable;"⟩, 6) := ⟨⟨by decide +kernel, by decide +kernel⟩, List.mem_of_getElem? (i := 138) (by decide +kernel), List.mem_of_getElem? (i := 136) (by decide +kernel), List.mem_of_getElem? (i := 137) (by decide +kernel)⟩
theorem lw_p1 : lw_okq (⟨"PachisiYard", "requireThrowDue", "()V"⟩, 6) := ⟨⟨by decide +kernel, by decide +kernel⟩, List.mem_of_getElem? (i := 12) (by decide +kernel), List.mem_of_getElem? (i := 168) (by decide +kernel), List.mem_of_getElem? (i := 169) (by decide +kernel)⟩
theorem lw_p2 : lw_okq (⟨"PachisiYard", "passTurn", "()V"⟩, 6) := ⟨⟨by decide +kernel, by decide +kernel⟩, List.mem_of_getElem? (i := 12) (by decide +kernel), List.mem_of_getElem? (i := 197) (by decide +kernel), List.mem_of_getElem? (i := 198) (by decide +kernel)⟩
theorem lw_p3 : lw_okq (⟨"PachisiYard$Board", "isWayFree", "(III)Z"⟩, 2) := ⟨⟨by decide +kernel, by decide +kernel⟩, List.mem_of_getElem? (i := 20) (by decide +kernel), List.mem_of_getElem? (i := 211) (by decide +kernel), List.mem_of_getElem? (i := 212) (by decide +kernel)⟩
theorem lw_p4 : lw_okq (⟨"PachisiYard", "requireMoveDue", "()V"⟩, 6) := ⟨⟨by decide +kernel, by decide +kernel⟩, List.mem_of_getElem? (i := 12) (by decide +kernel), List.mem_of_getElem? (i := 263) (by decide +kernel), List.mem_of_getElem? (i := 264) (by decide +kernel)⟩
theorem lw_p5 : lw_okq (⟨"PachisiYard$Board", "addOn", "(III)V"⟩, 2) := ⟨⟨by decide +kernel, by decide +kernel⟩, List.mem_of_getElem? (i := 20) (by decide +kernel), List.mem_of_getElem? (i := 282) (by decide +kernel), List.mem_of_getElem? (i := 283) (by decide +kernel)⟩
theorem lw_p6 : lw_okq (⟨"PachisiYard", "countCapture", "(I)V"⟩, 6) := ⟨⟨by decide +kernel, by decide +kernel⟩, List.mem_of_getElem? (i := 12) (by decide +kernel), List.mem_of_getElem? (i := 286) (by decide +kernel), List.mem_of_getElem? (i := 287) (by decide +kernel)⟩
theorem lw_p7 : lw_okq (⟨"PachisiYard", "endMove", "(Z)V"⟩, 6) := ⟨⟨by decide +kernel, by decide +kernel⟩, List.mem_of_getElem? (i := 12) (by decide +kernel), List.mem_of_getElem? (i := 291) (by decide +kernel), List.mem_of_getElem? (i := 292) (by decide +kernel)⟩
theorem lw_p8 : lw_okq (⟨"PachisiYard$Board", "isDone", "(III)Z"⟩, 2) := ⟨⟨by decide +kernel, by decide +kernel⟩, List.mem_of_getElem? (i := 20) (by decide +kernel), List.mem_of_getElem? (i := 387) (by decide +kernel), List.mem_of_getElem? (i := 388) (by decide +kernel)⟩
theorem lw_p9 : lw_okq (⟨"PachisiYard", "chanceWithin", "(II)I"⟩, 6) := ⟨⟨by decide +kernel, by decide +kernel⟩, List.mem_of_getElem? (i := 12) (by decide +kernel), List.mem_of_getElem? (i := 416) (by decide +kernel), List.mem_of_getElem? (i := 417) (by decide +kernel)⟩
theorem lw_p10 : lw_okq (⟨"PachisiYard", "chanceAfter", "(III)I"⟩, 6) := ⟨⟨by decide +kernel, by decide +kernel⟩, List.mem_of_getElem? (i := 12) (by decide +kernel), List.mem_of_getElem? (i := 420) (by decide +kernel), List.mem_of_getElem? (i := 421) (by decide +kernel)⟩
theorem lw_p11 : lw_okq (⟨"PachisiYard", "chanceAfterGrace", "(III)I"⟩, 6) := ⟨⟨by decide +kernel, by decide +kernel⟩, List.mem_of_getElem? (i := 12) (by decide +kernel), List.mem_of_getElem? (i := 427) (by decide +kernel), List.mem_of_getElem? (i := 428) (by decide +kernel)⟩
theorem lw_p12 : lw_okq (⟨"PachisiYardModel", "next", "()V"⟩, 8) := ⟨⟨by decide +kernel, by decide +kernel⟩, List.mem_of_getElem? (i := 434) (by decide +kernel), List.mem_of_getElem? (i := 479) (by decide +kernel), List.mem_of_getElem? (i := 480) (by decide +kernel)⟩
theorem lw_p13 : lw_okq (⟨"PachisiYardModel", "movesFor", "(I)I"⟩, 8) := ⟨⟨by decide +kernel, by decide +kernel⟩, List.mem_of_getElem? (i := 434) (by decide +kernel), List.mem_of_getElem? (i := 486) (by decide +kernel), List.mem_of_getElem? (i := 487) (by decide +kernel)⟩
theorem lw_p14 : lw_okq (⟨"PachisiYardModel", "homes", "(I)I"⟩, 8) := ⟨⟨by decide +kernel, by decide +kernel⟩, List.mem_of_getElem? (i := 434) (by decide +kernel), List.mem_of_getElem? (i := 490) (by decide +kernel), List.mem_of_getElem? (i := 491) (by decide +kernel)⟩
theorem lw_p15 : lw_okq (⟨"PachisiYardModel", "movers", "(III)I"⟩, 8) := ⟨⟨by decide +kernel, by decide +kernel⟩, List.mem_of_getElem? (i := 434) (by decide +kernel), List.mem_of_getElem? (i := 494) (by decide +kernel), List.mem_of_getElem? (i := 495) (by decide +kernel)⟩
def lw_privs_1 : List (MethodName × Nat) := [(⟨"java/lang/Throwable", "fillInStackTrace", "(I)Ljava/lang/Throwable;"⟩, 6), (⟨"PachisiYard", "requireThrowDue", "()V"⟩, 6), (⟨"PachisiYard", "passTurn", "()V"⟩, 6), (⟨"PachisiYard$Board", "isWayFree", "(III)Z"⟩, 2), (⟨"PachisiYard", "requireMoveDue", "()V"⟩, 6), (⟨"PachisiYard$Board", "addOn", "(III)V"⟩, 2), (⟨"PachisiYard", "countCapture", "(I)V"⟩, 6), (⟨"PachisiYard", "endMove", "(Z)V"⟩, 6), (⟨"PachisiYard$Board", "isDone", "(III)Z"⟩, 2), (⟨"PachisiYard", "chanceWithin", "(II)I"⟩, 6), (⟨"PachisiYard", "chanceAfter", "(III)I"⟩, 6), (⟨"PachisiYard", "chanceAfterGrace", "(III)I"⟩, 6), (⟨"PachisiYardModel", "next", "()V"⟩, 8), (⟨"PachisiYardModel", "movesFor", "(I)I"⟩, 8), (⟨"PachisiYardModel", "homes", "(I)I"⟩, 8), (⟨"PachisiYardModel", "movers", "(III)I"⟩, 8)]
theorem lw_r1 : ∀ q ∈ lw_privs_1, lw_okq q := List.forall_mem_cons.mpr ⟨lw_p0, List.forall_mem_cons.mpr ⟨lw_p1, List.forall_mem_cons.mpr ⟨lw_p2, List.forall_mem_cons.mpr ⟨lw_p3, List.forall_mem_cons.mpr ⟨lw_p4, List.forall_mem_cons.mpr ⟨lw_p5, List.forall_mem_cons.mpr ⟨lw_p6, List.forall_mem_cons.mpr ⟨lw_p7, List.forall_mem_cons.mpr ⟨lw_p8, List.forall_mem_cons.mpr ⟨lw_p9, List.forall_mem_cons.mpr ⟨lw_p10, List.forall_mem_cons.mpr ⟨lw_p11, List.forall_mem_cons.mpr ⟨lw_p12, List.forall_mem_cons.mpr ⟨lw_p13, List.forall_mem_cons.mpr ⟨lw_p14, List.forall_mem_cons.mpr ⟨lw_p15, fun _ h => absurd h List.not_mem_nil⟩⟩⟩⟩⟩⟩⟩⟩⟩⟩⟩⟩⟩⟩⟩⟩
theorem lw_p16 : lw_okq (⟨"PachisiYardModel", "can", "(II)I"⟩, 8) := ⟨⟨by decide +kernel, by decide +kernel⟩, List.mem_of_getElem? (i := 434) (by decide +kernel), List.mem_of_getElem? (i := 498) (by decide +kernel), List.mem_of_getElem? (i := 499) (by decide +kernel)⟩
theorem lw_p17 : lw_okq (⟨"PachisiYardModel", "target", "(II)I"⟩, 8) := ⟨⟨by decide +kernel, by decide +kernel⟩, List.mem_of_getElem? (i := 434) (by decide +kernel), List.mem_of_getElem? (i := 502) (by decide +kernel), List.mem_of_getElem? (i := 503) (by decide +kernel)⟩
theorem lw_p18 : lw_okq (⟨"PachisiYardModel", "stand", "(II)I"⟩, 8) := ⟨⟨by decide +kernel, by decide +kernel⟩, List.mem_of_getElem? (i := 434) (by decide +kernel), List.mem_of_getElem? (i := 509) (by decide +kernel), List.mem_of_getElem? (i := 510) (by decide +kernel)⟩
theorem lw_p19 : lw_okq (⟨"PachisiYardModel", "sends", "(II)V"⟩, 8) := ⟨⟨by decide +kernel, by decide +kernel⟩, List.mem_of_getElem? (i := 434) (by decide +kernel), List.mem_of_getElem? (i := 520) (by decide +kernel), List.mem_of_getElem? (i := 521) (by decide +kernel)⟩
theorem lw_p20 : lw_okq (⟨"PachisiYardModel", "isWon", "(I)Z"⟩, 8) := ⟨⟨by decide +kernel, by decide +kernel⟩, List.mem_of_getElem? (i := 434) (by decide +kernel), List.mem_of_getElem? (i := 524) (by decide +kernel), List.mem_of_getElem? (i := 525) (by decide +kernel)⟩
theorem lw_p21 : lw_okq (⟨"PachisiYardModel", "does", "(III)Z"⟩, 8) := ⟨⟨by decide +kernel, by decide +kernel⟩, List.mem_of_getElem? (i := 434) (by decide +kernel), List.mem_of_getElem? (i := 584) (by decide +kernel), List.mem_of_getElem? (i := 585) (by decide +kernel)⟩
theorem lw_p22 : lw_okq (⟨"PachisiYardModel", "chanceOfOne", "(I)I"⟩, 8) := ⟨⟨by decide +kernel, by decide +kernel⟩, List.mem_of_getElem? (i := 434) (by decide +kernel), List.mem_of_getElem? (i := 596) (by decide +kernel), List.mem_of_getElem? (i := 597) (by decide +kernel)⟩
theorem lw_p23 : lw_okq (⟨"PachisiYardModel", "chanceOfTwo", "(I)I"⟩, 8) := ⟨⟨by decide +kernel, by decide +kernel⟩, List.mem_of_getElem? (i := 434) (by decide +kernel), List.mem_of_getElem? (i := 600) (by decide +kernel), List.mem_of_getElem? (i := 601) (by decide +kernel)⟩
theorem lw_p24 : lw_okq (⟨"PachisiYardModel", "bestForOne", "(II)I"⟩, 8) := ⟨⟨by decide +kernel, by decide +kernel⟩, List.mem_of_getElem? (i := 434) (by decide +kernel), List.mem_of_getElem? (i := 604) (by decide +kernel), List.mem_of_getElem? (i := 605) (by decide +kernel)⟩
theorem lw_p25 : lw_okq (⟨"PachisiYardModel", "chanceOfThree", "(I)I"⟩, 8) := ⟨⟨by decide +kernel, by decide +kernel⟩, List.mem_of_getElem? (i := 434) (by decide +kernel), List.mem_of_getElem? (i := 608) (by decide +kernel), List.mem_of_getElem? (i := 609) (by decide +kernel)⟩
theorem lw_p26 : lw_okq (⟨"PachisiYardModel", "bestForTwo", "(II)I"⟩, 8) := ⟨⟨by decide +kernel, by decide +kernel⟩, List.mem_of_getElem? (i := 434) (by decide +kernel), List.mem_of_getElem? (i := 612) (by decide +kernel), List.mem_of_getElem? (i := 613) (by decide +kernel)⟩
def lw_privs_2 : List (MethodName × Nat) := [(⟨"PachisiYardModel", "can", "(II)I"⟩, 8), (⟨"PachisiYardModel", "target", "(II)I"⟩, 8), (⟨"PachisiYardModel", "stand", "(II)I"⟩, 8), (⟨"PachisiYardModel", "sends", "(II)V"⟩, 8), (⟨"PachisiYardModel", "isWon", "(I)Z"⟩, 8), (⟨"PachisiYardModel", "does", "(III)Z"⟩, 8), (⟨"PachisiYardModel", "chanceOfOne", "(I)I"⟩, 8), (⟨"PachisiYardModel", "chanceOfTwo", "(I)I"⟩, 8), (⟨"PachisiYardModel", "bestForOne", "(II)I"⟩, 8), (⟨"PachisiYardModel", "chanceOfThree", "(I)I"⟩, 8), (⟨"PachisiYardModel", "bestForTwo", "(II)I"⟩, 8)]
theorem lw_r2 : ∀ q ∈ lw_privs_2, lw_okq q := List.forall_mem_cons.mpr ⟨lw_p16, List.forall_mem_cons.mpr ⟨lw_p17, List.forall_mem_cons.mpr ⟨lw_p18, List.forall_mem_cons.mpr ⟨lw_p19, List.forall_mem_cons.mpr ⟨lw_p20, List.forall_mem_cons.mpr ⟨lw_p21, List.forall_mem_cons.mpr ⟨lw_p22, List.forall_mem_cons.mpr ⟨lw_p23, List.forall_mem_cons.mpr ⟨lw_p24, List.forall_mem_cons.mpr ⟨lw_p25, List.forall_mem_cons.mpr ⟨lw_p26, fun _ h => absurd h List.not_mem_nil⟩⟩⟩⟩⟩⟩⟩⟩⟩⟩⟩
def lw_privs : List (MethodName × Nat) := lw_privs_1 ++ (lw_privs_2)
def lw_tbl : List Cond := k2_sels lw_privs ++ tables_1
theorem lw_privs_ok : ∀ q ∈ lw_privs, lw_okq q := by
  show ∀ q ∈ lw_privs_1 ++ (lw_privs_2), lw_okq q
  exact List.forall_mem_append.mpr ⟨lw_r1, lw_r2⟩
end
section
/-! ===== BEGIN words of one list among another's, by their places ===== -/
theorem goodIn_r {big : List Cond} (ws : List Cond) (ps : List Nat) (hp : ws = ps.filterMap (fun i => big[i]?)) (h : ws.all goodWord = true) : GoodIn big ws := by
  intro w hw
  have h1 := List.all_eq_true.mp h w hw
  rw [hp] at hw
  obtain ⟨i, -, hi⟩ := List.mem_filterMap.mp hw
  have hm : w ∈ big := by first | exact List.mem_of_getElem? hi | exact List.getElem?_mem hi
  exact ⟨hm, good_of_word h1⟩
theorem goodIn_app {big a b : List Cond} (ha : GoodIn big a) (hb : GoodIn big b) : GoodIn big (a ++ b) := fun w h => (List.mem_append.mp h).elim (ha w) (hb w)
theorem goodIn_ca {big a b : List Cond} {c : Cond} (ha : GoodIn big (c :: a)) (hb : GoodIn big b) : GoodIn big (c :: (a ++ b)) := fun w h => (List.mem_cons.mp h).elim (fun e => ha w (List.mem_cons.mpr (Or.inl e))) (fun h => (List.mem_append.mp h).elim (fun h => ha w (List.mem_cons.mpr (Or.inr h))) (hb w))
theorem goodIn_sub {big ws : List Cond} (hm : ∀ w ∈ ws, w ∈ big) (h : ws.all goodWord = true) : GoodIn big ws := fun w hw => ⟨hm w hw, good_of_word (List.all_eq_true.mp h w hw)⟩
/-! ===== END ===== -/

/-! ===== BEGIN exceptions that leave a method, and their catching by the caller (launches without stack traces) ===== -/
section VXA
/-! The laws vx_back, vx_callV, vx_callS, vx_callSW, vx_throw0, vx_throwS follow proofs of the library, with one case more: JvmDerived/Free/Laws.lean (Back.of_free), Shelf42/LK1.lean (callV, callS), Shelf/KitTraced.lean (throwNew0V, throwNewS). -/
/-- where a method has thrown q: the class by its name, the cell, what was written, the world -/
def vx_T (XC : String → State → State → Prop) (st : State) (q : Addr) (t : State) (mc ms : Nat) (free : Addr → Prop) : Prop :=
  ∃ (E : String) (ce : Cell) (L : List Loc), XC E st t ∧ t.heap[q]? = some ce ∧ ce.vm = .none ∧ st.vm.findClass E = some ce.cls ∧ st.WarmedH t.vm ∧ st.sameButNew ({ t with vm := st.vm } : State) L mc ms ∧ ∀ z ∈ L, free z.base
def vx_Q (Qc : Array Value → State → Outcome → State → Prop) (XC : String → State → State → Prop) (mc ms : Nat) (free : Addr → Prop) : Array Value → State → Outcome → State → Prop := fun a st o t =>
  (Qc a st o t ∧ ∃ L, FrameEnd st o t L mc ms ∧ ∀ q ∈ L, free q.base) ∨ ∃ q, o = .threw q ∧ vx_T XC st q t mc ms free
/-- a callee that returns or throws -/
def vx_Met (l : Launch) (y : MethodName) (ws : List Cond) (rm : Room) (Pc : Array Value → State → Prop) (Qc : Array Value → State → Outcome → State → Prop) (XC : String → State → State → Prop) (mc ms : Nat) (free : Addr → Prop) : Prop :=
  MetFree l y (headSpec ws rm) Pc (fun _ _ _ _ _ => True) (vx_Q Qc XC mc ms free)
def vx_Post (XC : String → State → State → Prop) (mc ms : Nat) (free : Addr → Prop) : Pt → Array Value → Addr → Pt → Prop := fun A a q B =>
  ∃ (g : JFrame) (mk : MethodId) (t : State) (L : List Loc) (E : String) (ce : Cell), B.U.heap = t.heap ∧ B.U.vm = t.vm ∧ XC E (A.U.calling g mk a) t ∧ t.heap[q]? = some ce ∧ ce.vm = .none ∧ A.U.vm.findClass E = some ce.cls ∧ B.locs = A.locs ++ L ∧ (∀ z ∈ L, free z.base) ∧ B.cells = A.cells + mc ∧ B.slots = A.slots + ms
def vx_Back (l : Launch) (R : Room) (p : Program) (e : Env) (below : List Frame) (s : State) (sargs : Array Value) (y : MethodName) (len W9 : Nat)
    (Pre : Pt → Array Value → Prop) (Post : Pt → Array Value → Option Value → Pt → Prop) (PostX : Pt → Array Value → Addr → Pt → Prop) : Prop :=
  ∀ (m : MethodId) (meth : Method) (c : Code) (A : Pt) (g : JFrame) (ig : Instr) (mk : MethodId) (a : Array Value),
    Stand p l e R s m sargs below meth c A.U A.locs A.cells A.slots → g.method = m → g.locals.size = c.maxLocals → decode c.code g.pc = .ok (ig, len) →
    2 * g.monitorRoom + (g.stack.map fun v => v.category).sum ≤ W9 → A.U.methodNamed? y = some mk → Pre A a →
    (∃ (v : Option Value) (B : Pt), Stand p l e R s m sargs below meth c B.U B.locs B.cells B.slots ∧ Post A a v B ∧
      Steps p.tables e below (doInvoke e (A.U.setTop g) [] mk a).1 (B.U.setTop { g with pc := g.pc + len, stack := v.toList ++ g.stack })) ∨
    (∃ (q : Addr) (B : Pt), Stand p l e R s m sargs below meth c B.U B.locs B.cells B.slots ∧ PostX A a q B ∧
      Steps p.tables e below (doInvoke e (A.U.setTop g) [] mk a).1 ((B.U.setTop g).pushFrame (.throwing q)))
section Payer
variable {l : Launch} {R : Room} {p : Program} {e : Env} {below : List Frame} {s : State} {sargs : Array Value} {y : MethodName} {len W9 : Nat}
theorem vx_back {ws : List Cond} {rm : Room} {Pc : Array Value → State → Prop} {Qc : Array Value → State → Outcome → State → Prop} {XC : String → State → State → Prop} {mc ms : Nat} {free : Addr → Prop} {bytes : ByteArray} {maxL : Nat} {ret : Option FieldType}
    (hM : vx_Met l y ws rm Pc Qc XC mc ms free) (hblind : FrameBlind Pc) (hrc : rm.cells = mc) (hrs : rm.slots = ms)
    (hframes : rm.frames + 1 ≤ R.frames) (hlocals : W9 + (maxL + 11) + rm.locals ≤ R.locals)
    (hws : ∀ w ∈ ws, ∀ a' U, s.WarmedH U.vm → w.before a' U = true) (hcode : Cond.code y bytes maxL ret ∈ ws) (hinit : ∀ a' U, s.WarmedH U.vm → (Cond.initialized y.cls).before a' U = true) :
    vx_Back l R p e below s sargs y len W9 (PreOf R mc ms Pc) (PostOf Qc mc ms free) (vx_Post XC mc ms free) := by
  intro m meth c A g ig mk a X hg hsize hdg hW hn hp
  have h1 : (headSpec ws rm).pre.before a A.U = true := atoms_intro fun w hw => hws w hw _ _ X.warmed
  have h2 : (Cond.code y bytes maxL ret).before a A.U = true := hws _ hcode _ _ X.warmed
  have h3 : (Cond.initialized y.cls).before a A.U = true := hinit _ _ X.warmed
  have h4 : A.cells + (headSpec ws rm).room.cells ≤ R.cells := by rw [show (headSpec ws rm).room.cells = mc from hrc]; exact hp.1
  have h5 : A.slots + (headSpec ws rm).room.slots ≤ R.slots := by rw [show (headSpec ws rm).room.slots = ms from hrs]; exact hp.2.1
  have hPc : Pc a (A.U.calling g mk a) := hblind _ _ _ _ hp.2.2
  obtain ⟨U, Ls, c0, s0⟩ := A
  dsimp only [Pt.U, Pt.locs, Pt.cells, Pt.slots] at h1 h2 h3 h4 h5 X hn hPc ⊢
  obtain ⟨methY, cY, hmY, hcY, -, hlY, -, -, -, -⟩ := Cond.code_spec hn h2
  obtain ⟨kY, hkY, -⟩ := className_of_methodNamed hn
  have hinitY : kY.init = .initialized := Cond.initialized_spec (findClass_of_methodNamed hn) hkY h3
  have h : At U g.method c below := by rw [hg]; exact X.here
  have hlocals9 : W9 + (maxL + 11) + (headSpec ws rm).room.locals ≤ R.locals := hlocals
  have happ : (headSpec ws rm).appliesLoose y e.platform (U.calling g mk a) = true :=
    Spec.appliesLoose_calling (g := g) h hdg hn hkY hinitY
      (X.room_calling (g := g) (R' := (headSpec ws rm).room) hsize hmY hcY hframes (by rw [hlY]; omega) h4 h5) h1
  obtain ⟨mid, hmid⟩ := h.above
  have hfr : (U.setTop g).frames = (.java g :: mid) ++ below := by rw [State.frames_setTop' g h.top, hmid]; rfl
  obtain ⟨o, s₂, hsteps, -, hend, hq⟩ := Steps.callFree hM p X.admits X.cas X.clock (acts := []) hfr happ hPc trivial
  have hq' : vx_Q Qc XC mc ms free a (U.calling g mk a) o s₂ := hq
  rw [State.frames_setTop' g h.top] at hend
  obtain ⟨g₀, hg0⟩ := Option.isSome_iff_exists.mp h.top
  obtain ⟨r, hr⟩ := State.topJava?_eq_some.mp hg0
  have hr' : (({ U with heap := s₂.heap, slotsUsed := s₂.slotsUsed } : State).setVm s₂.vm).frames = .java g₀ :: r := hr
  rcases hq' with ⟨hqc, L, hfe, hL⟩ | ⟨q, rfl, E, ce, L, hx, hce, hcv, hcl, hW₂, hsm, hL⟩
  · obtain ⟨⟨v, rfl⟩, hW₂, e2, q2, q3, q4, q5, q6⟩ := id hfe
    have e3 : s₂ = ({ (U.calling g mk a).setFrames s₂.frames with heap := s₂.heap, slotsUsed := s₂.slotsUsed } : State).setVm s₂.vm := by
      have : s₂ = ({ s₂ with vm := (U.calling g mk a).vm } : State).setVm s₂.vm := rfl
      rw [e2] at this
      exact this
    obtain ⟨c₂, i₂, len₂, hc₂, hd₂, hf₂⟩ := hend
    have hW' : U.WarmedH s₂.vm := hW₂
    have hcc : c₂ = c := by
      have h1 : s₂.code? g.method = U.code? g.method := by
        rw [State.code?_eq, State.code?_eq, hW'.alike.method?]
      exact Option.some.inj (hc₂.symm.trans (h1.trans h.code))
    subst hcc
    have hlen : len₂ = len := by rw [hdg] at hd₂; cases hd₂; rfl
    subst hlen
    have hs₂ : s₂ = (({ U with heap := s₂.heap, slotsUsed := s₂.slotsUsed } : State).setVm s₂.vm).setTop { g with pc := g.pc + len₂, stack := v.toList ++ g.stack } := by
      refine e3.trans ?_
      rw [hf₂, State.calling_eq h.top, State.setFrames_setFrames, State.setTop_of_frames _ hr', hr]
      rfl
    have hsame : U.sameButNew ({ U with heap := s₂.heap, slotsUsed := s₂.slotsUsed } : State) L mc ms := by
      refine ⟨?_, q2, q3, q4, q5, q6⟩
      obtain ⟨t, ht, -⟩ := State.frames_cons hr
      show ({ U with heap := s₂.heap, slotsUsed := s₂.slotsUsed } : State) = { U.setFrames U.frames with heap := s₂.heap, slotsUsed := s₂.slotsUsed }
      rw [State.setFrames_self ht]
    subst hg
    refine Or.inl ⟨v, ⟨(({ U with heap := s₂.heap, slotsUsed := s₂.slotsUsed } : State).setVm s₂.vm), Ls ++ L, c0 + mc, s0 + ms⟩,
      ⟨X.admits, X.cas, X.clock, X.frames, X.room, X.hears, X.method, X.code, (X.here.setHeapUsed s₂.heap s₂.slotsUsed).setVm hW'.alike, X.tail, State.WarmedH.trans X.warmed hW', X.limits, X.bytes, X.same.trans (hsame.setVm s.vm)⟩,
      ⟨g, mk, s₂, L, rfl, rfl, hqc, rfl, hL, rfl, rfl⟩, ?_⟩
    show Steps p.tables e below _ ((({ U with heap := s₂.heap, slotsUsed := s₂.slotsUsed } : State).setVm s₂.vm).setTop { g with pc := g.pc + len₂, stack := v.toList ++ g.stack })
    rw [← hs₂]
    exact hsteps
  · obtain ⟨e2, q2, q3, q4, q5, q6⟩ := id hsm
    have e3 : s₂ = ({ (U.calling g mk a).setFrames s₂.frames with heap := s₂.heap, slotsUsed := s₂.slotsUsed } : State).setVm s₂.vm := by
      have : s₂ = ({ s₂ with vm := (U.calling g mk a).vm } : State).setVm s₂.vm := rfl
      rw [e2] at this
      exact this
    have hf₂ : s₂.frames = .throwing q :: .java g :: U.frames.tail := hend
    have hW' : U.WarmedH s₂.vm := hW₂
    have hs₂ : s₂ = ((({ U with heap := s₂.heap, slotsUsed := s₂.slotsUsed } : State).setVm s₂.vm).setTop g).pushFrame (.throwing q) := by
      refine e3.trans ?_
      rw [hf₂, State.calling_eq h.top, State.setFrames_setFrames, State.pushFrame, State.frames_setTop _ hr', State.setTop_of_frames _ hr', State.setFrames_setFrames, hr]
      rfl
    have hsame : U.sameButNew ({ U with heap := s₂.heap, slotsUsed := s₂.slotsUsed } : State) L mc ms := by
      refine ⟨?_, q2, q3, q4, q5, q6⟩
      obtain ⟨t, ht, -⟩ := State.frames_cons hr
      show ({ U with heap := s₂.heap, slotsUsed := s₂.slotsUsed } : State) = { U.setFrames U.frames with heap := s₂.heap, slotsUsed := s₂.slotsUsed }
      rw [State.setFrames_self ht]
    subst hg
    refine Or.inr ⟨q, ⟨(({ U with heap := s₂.heap, slotsUsed := s₂.slotsUsed } : State).setVm s₂.vm), Ls ++ L, c0 + mc, s0 + ms⟩,
      ⟨X.admits, X.cas, X.clock, X.frames, X.room, X.hears, X.method, X.code, (X.here.setHeapUsed s₂.heap s₂.slotsUsed).setVm hW'.alike, X.tail, State.WarmedH.trans X.warmed hW', X.limits, X.bytes, X.same.trans (hsame.setVm s.vm)⟩,
      ⟨g, mk, s₂, L, E, ce, rfl, rfl, hx, hce, hcv, hcl, rfl, hL, rfl, rfl⟩, ?_⟩
    show Steps p.tables e below _ (((({ U with heap := s₂.heap, slotsUsed := s₂.slotsUsed } : State).setVm s₂.vm).setTop g).pushFrame (.throwing q))
    rw [← hs₂]
    exact hsteps
end Payer
section Calls
variable {p : Program} {l : Launch} {e : Env} {R : Room} {s : State} {m : MethodId} {args : Array Value} {below : List Frame} {meth : Method} {c : Code} {T : State} {locs : List Loc} {cells slots : Nat}
theorem vx_callV (X : Stand p l e R s m args below meth c T locs cells slots) (hexec : p.tables.exec = Jvm.exec) {own C : String} {index : Nat} {y : MethodName} {bytes : ByteArray} {maxL : Nat} {ret : Option FieldType}
    (hown : s.vm.findClass own = some m.cls) (hlink : (Cond.methodLink own index y).before args s = true) (hinst : (Cond.instanceMethod y).before args s = true) (hsel : (Cond.selects C y y).before args s = true)
    (hcode : (Cond.code y bytes maxL ret).before args s = true) (hy : y.cls ≠ "java/lang/invoke/MethodHandle" ∧ y.cls ≠ "java/lang/invoke/VarHandle")
    {W9 : Nat} {Pre : Pt → Array Value → Prop} {Post : Pt → Array Value → Option Value → Pt → Prop} {PostX : Pt → Array Value → Addr → Pt → Prop} (hK : vx_Back l R p e below s args y 3 W9 Pre Post PostX)
    {b : Addr} {cellB : Cell} (hcell : T.heap[b]? = some cellB) (hobj : cellB.vm.isStatics = false) (hcls : s.vm.findClass C = some cellB.cls)
    {g : JFrame} (hg : g.method = m) (hsize : g.locals.size = c.maxLocals) {argsL rest : List Value} (hlen : ∀ sig, parseMethodDescriptor y.desc = some sig → argsL.length = sig.parameters.length)
    (hstack : g.stack = argsL.reverse ++ .ref b :: rest) (hW : 2 * g.monitorRoom + (rest.map fun v => v.category).sum ≤ W9) (hdg : decode c.code g.pc = .ok (.invokevirtual index, 3))
    (hpre : ∀ vm₁, s.WarmedH vm₁ → Pre ⟨T.setVm vm₁, locs, cells, slots⟩ (Value.ref b :: argsL).toArray) :
    (∃ (v : Option Value) (vm₁ : Vm) (B : Pt), s.WarmedH vm₁ ∧ Stand p l e R s m args below meth c B.U B.locs B.cells B.slots ∧ Post ⟨T.setVm vm₁, locs, cells, slots⟩ (Value.ref b :: argsL).toArray v B ∧
      ∀ target, Steps p.tables e below (B.U.setTop { g with pc := g.pc + 3, stack := v.toList ++ rest }) target → Steps p.tables e below (T.setTop g) target) ∨
    (∃ (q : Addr) (vm₁ : Vm) (B : Pt), s.WarmedH vm₁ ∧ Stand p l e R s m args below meth c B.U B.locs B.cells B.slots ∧ PostX ⟨T.setVm vm₁, locs, cells, slots⟩ (Value.ref b :: argsL).toArray q B ∧
      Steps p.tables e below (T.setTop g) ((B.U.setTop { g with stack := rest }).pushFrame (.throwing q))) := by
  obtain ⟨mk, methM, hnamed, hmethM, hstM, habM⟩ := Cond.instanceMethod_spec hinst
  obtain ⟨methM', cM, hmethM', -, -, -, -, -, -, hsigM⟩ := Cond.code_spec hnamed hcode
  cases hmethM.symm.trans hmethM'
  obtain ⟨c2, r2, m2, q1, q2, q3, q4, kP, hkP, hkPi⟩ := Cond.selects_spec hsel
  cases hcls.symm.trans q1
  cases (State.methodFound?_of_named hnamed hy).symm.trans q2
  cases hnamed.symm.trans q3
  have hselP : selectMethod e.platform s.vm cellB.cls mk = .method mk := by rw [Launch.admits_selectMethod X.admits]; exact q4
  obtain ⟨vm₁, X₁, hstep₁⟩ := X.invokevirtual hexec hown hlink hnamed hmethM hstM hkP hkPi hy (a := b) (cell := cellB) hcell
    (fun z h => by rw [h] at hobj; cases hobj) hselP hmethM habM hkP hkPi (g := g) hg (argsL := argsL) (rest := rest) (hlen _ hsigM) hstack hdg
  rcases hK m meth c ⟨T.setVm vm₁, locs, cells, slots⟩ { g with stack := rest } (.invokevirtual index) mk (Value.ref b :: argsL).toArray X₁ hg hsize hdg hW (X₁.named hnamed) (hpre vm₁ X₁.warmed) with ⟨v, B, X', hpost, hsteps⟩ | ⟨q, B, X', hpost, hsteps⟩
  · exact Or.inl ⟨v, vm₁, B, X₁.warmed, X', hpost, fun target h => hstep₁ _ fun acts => by rw [doInvoke_state]; exact hsteps.trans h⟩
  · exact Or.inr ⟨q, vm₁, B, X₁.warmed, X', hpost, hstep₁ _ fun acts => by rw [doInvoke_state]; exact hsteps⟩
theorem vx_callS (X : Stand p l e R s m args below meth c T locs cells slots) (hexec : p.tables.exec = Jvm.exec) {own : String} {index : Nat} {y : MethodName} {bytes : ByteArray} {maxL : Nat} {ret : Option FieldType}
    (hown : s.vm.findClass own = some m.cls) (hlink : (Cond.methodLink own index y).before args s = true) (hstat : (Cond.static y).before args s = true) (hinit : (Cond.initialized y.cls).before args s = true)
    (hcode : (Cond.code y bytes maxL ret).before args s = true) (hy : y.cls ≠ "java/lang/invoke/MethodHandle" ∧ y.cls ≠ "java/lang/invoke/VarHandle")
    {W9 : Nat} {Pre : Pt → Array Value → Prop} {Post : Pt → Array Value → Option Value → Pt → Prop} {PostX : Pt → Array Value → Addr → Pt → Prop} (hK : vx_Back l R p e below s args y 3 W9 Pre Post PostX)
    {g : JFrame} (hg : g.method = m) (hsize : g.locals.size = c.maxLocals) {argsL rest : List Value} (hlen : ∀ sig, parseMethodDescriptor y.desc = some sig → argsL.length = sig.parameters.length)
    (hstack : g.stack = argsL.reverse ++ rest) (hW : 2 * g.monitorRoom + (rest.map fun v => v.category).sum ≤ W9) (hdg : decode c.code g.pc = .ok (.invokestatic index, 3))
    (hpre : ∀ vm₁, s.WarmedH vm₁ → Pre ⟨T.setVm vm₁, locs, cells, slots⟩ argsL.toArray) :
    (∃ (v : Option Value) (vm₁ : Vm) (B : Pt), s.WarmedH vm₁ ∧ Stand p l e R s m args below meth c B.U B.locs B.cells B.slots ∧ Post ⟨T.setVm vm₁, locs, cells, slots⟩ argsL.toArray v B ∧
      ∀ target, Steps p.tables e below (B.U.setTop { g with pc := g.pc + 3, stack := v.toList ++ rest }) target → Steps p.tables e below (T.setTop g) target) ∨
    (∃ (q : Addr) (vm₁ : Vm) (B : Pt), s.WarmedH vm₁ ∧ Stand p l e R s m args below meth c B.U B.locs B.cells B.slots ∧ PostX ⟨T.setVm vm₁, locs, cells, slots⟩ argsL.toArray q B ∧
      Steps p.tables e below (T.setTop g) ((B.U.setTop { g with stack := rest }).pushFrame (.throwing q))) := by
  obtain ⟨mk, hnamed⟩ := Cond.code_named hcode
  obtain ⟨methM, cM, hmethM, -, -, -, -, -, -, hsigM⟩ := Cond.code_spec hnamed hcode
  have hstatic : methM.isStatic = true := Cond.static_spec hnamed hmethM hstat
  obtain ⟨kP, hkP, -⟩ := className_of_methodNamed hnamed
  have hinitP : kP.init = .initialized := Cond.initialized_spec (findClass_of_methodNamed hnamed) hkP hinit
  obtain ⟨vm₁, X₁, hstep₁⟩ := X.invokestatic hexec hown hlink hnamed hmethM hstatic hkP hinitP hy (g := g) hg (argsL := argsL) (rest := rest) (hlen _ hsigM) hstack hdg
  rcases hK m meth c ⟨T.setVm vm₁, locs, cells, slots⟩ { g with stack := rest } (.invokestatic index) mk argsL.toArray X₁ hg hsize hdg hW (X₁.named hnamed) (hpre vm₁ X₁.warmed) with ⟨v, B, X', hpost, hsteps⟩ | ⟨q, B, X', hpost, hsteps⟩
  · exact Or.inl ⟨v, vm₁, B, X₁.warmed, X', hpost, fun target h => hstep₁ _ fun acts => by rw [doInvoke_state]; exact hsteps.trans h⟩
  · exact Or.inr ⟨q, vm₁, B, X₁.warmed, X', hpost, hstep₁ _ fun acts => by rw [doInvoke_state]; exact hsteps⟩
end Calls
theorem vx_cls {s : State} {T : State} {vm₁ : Vm} {E : String} {k : ClassId} (hW : s.WarmedH vm₁) (h : (T.setVm vm₁).vm.findClass E = some k) : s.vm.findClass E = some k := by
  have h1 : vm₁.findClass E = some k := h
  rw [hW.alike.findClass] at h1
  exact h1
/-- the method's frame g, with q thrown over it -/
def vx_W (p : Program) (l : Launch) (e : Env) (R : Room) (s : State) (m : MethodId) (args : Array Value) (below : List Frame) (meth : Method) (c : Code) (H : Heap) (locs : List Loc) (cells slots : Nat) (Q : State → Prop) (g : JFrame) (q : Addr) : Prop :=
  ∀ T : State, T.heap = H → Stand p l e R s m args below meth c T locs cells slots → ∃ t, Steps p.tables e below ((T.setTop g).pushFrame (.throwing q)) t ∧ Q t
def vx_Run (p : Program) (l : Launch) (e : Env) (R : Room) (s : State) (m : MethodId) (args : Array Value) (below : List Frame) (meth : Method) (c : Code) (H : Heap) (locs : List Loc) (cells slots mc ms : Nat) (g : JFrame) (rest : List Value) (Qa : State → Outcome → State → Prop) (XC : String → State → State → Prop) (free : Addr → Prop) : Prop :=
  ∀ T : State, T.heap = H → Stand p l e R s m args below meth c T locs cells slots →
    (∃ (v : Option Value) (st₀ t T' : State) (L : List Loc), st₀.heap = H ∧ Stand p l e R s m args below meth c T' (locs ++ L) (cells + mc) (slots + ms) ∧ (∀ q ∈ L, free q.base) ∧ T'.heap = t.heap ∧ T'.vm = t.vm ∧ Qa st₀ (.returned v) t ∧
      Goes p e below T g T' { g with pc := g.pc + 3, stack := v.toList ++ rest }) ∨
    (∃ (q : Addr) (st₀ t T' : State) (L : List Loc) (E : String) (ce : Cell), st₀.heap = H ∧ Stand p l e R s m args below meth c T' (locs ++ L) (cells + mc) (slots + ms) ∧ (∀ z ∈ L, free z.base) ∧ T'.heap = t.heap ∧ T'.vm = t.vm ∧ XC E st₀ t ∧ t.heap[q]? = some ce ∧ ce.vm = .none ∧ s.vm.findClass E = some ce.cls ∧
      Steps p.tables e below (T.setTop g) ((T'.setTop { g with stack := rest }).pushFrame (.throwing q)))
def vx_X {S : Type} (px : S → Prop) (B : String → S → State → Prop) (A : Nat → Prop) : String → State → State → Prop := fun E st t => ∃ u : S, px u ∧ B E u t ∧ va_F A st t
section Runs
variable {p : Program} {l : Launch} {e : Env} {R : Room} {s : State} {m : MethodId} {args : Array Value} {below : List Frame} {meth : Method} {c : Code} {H : Heap} {locs : List Loc} {cells slots : Nat}
variable {y : MethodName} {bytes cc : ByteArray} {maxL nL mc ms n index : Nat} {ret : Option FieldType} {ws : List Cond} {rm : Room} {Pc : Array Value → State → Prop} {Qc : Array Value → State → Outcome → State → Prop} {XC : String → State → State → Prop} {free : Addr → Prop} {Ts : List Cond} {own C : String} {b : Addr} {As rest : List Value} {g : JFrame}
theorem vx_callBack (cb : CallB R s args own index y bytes maxL ret ws rm mc ms n) (hM : vx_Met l y ws rm Pc Qc XC mc ms free) (hbl : FrameBlind Pc) : vx_Back l R p e below s args y 3 8 (PreOf R mc ms Pc) (PostOf Qc mc ms free) (vx_Post XC mc ms free) := by
  obtain ⟨hrc, hrs, hfr, hlo, hws, hcw, -, hini, -⟩ := cb
  exact vx_back (bytes := bytes) (maxL := maxL) (ret := ret) hM hbl hrc hrs hfr hlo hws hcw (fun a' U hW => word_at hW (Or.inl (by first | rfl | simp [Cond.onTables, Cond.keeps, Cond.steady])) hini)
theorem vx_runV (S : CallFix p m c cc nL s args Ts own) (hM : vx_Met l y ws rm Pc Qc XC mc ms free) (cw : CallW R s args own C index y bytes maxL ret ws rm mc ms n) (hp : PreV s H C b Pc As)
    (hg : g.method = m) (hn : As.length = n) (hsize : g.locals.size = nL) (hstack : g.stack = As.reverse ++ .ref b :: rest) (hW : 2 * g.monitorRoom + (rest.map fun v => v.category).sum ≤ 8) (hdg : decode cc g.pc = .ok (.invokevirtual index, 3)) (hf : cells + mc ≤ R.cells ∧ slots + ms ≤ R.slots) :
    vx_Run p l e R s m args below meth c H locs cells slots mc ms g rest (Qc (Value.ref b :: As).toArray) XC free := by
  have hK : vx_Back l R p e below s args y 3 8 (PreOf R mc ms Pc) (PostOf Qc mc ms free) (vx_Post XC mc ms free) := vx_callBack cw.1 hM hp.1
  obtain ⟨⟨-, -, -, -, -, -, hcode, -, hy, hlen, hl⟩, hin, hse⟩ := cw
  obtain ⟨hx, hb, hml, ho, -⟩ := S
  obtain ⟨-, ⟨cellB, hcB, hoB, hclB⟩, hPc⟩ := hp
  intro T hT X
  rcases vx_callV X hx (C := C) (bytes := bytes) (maxL := maxL) (ret := ret) ho hl hin hse hcode hy hK (by rw [hT]; exact hcB) hoB hclB hg (hsize.trans hml.symm) (argsL := As) (rest := rest) (fun sig h => hn.trans (hlen sig h)) hstack hW (by rw [hb]; exact hdg)
    (fun vm₁ hW₁ => ⟨hf.1, hf.2, hPc (T.setVm vm₁) hT hW₁⟩) with ⟨v, vm₁, ⟨U', l2, c2, s2⟩, hW₁, X', ⟨g', mk, t, L, e1, e2, hq, h1, hL, h2, h3⟩, st⟩ | ⟨q, vm₁, ⟨U', l2, c2, s2⟩, hW₁, X', ⟨g', mk, t, L, E, ce, e1, e2, hq, hce, hcv, hcl, h1, hL, h2, h3⟩, st⟩
  · dsimp only [Pt.U, Pt.locs, Pt.cells, Pt.slots] at X' e1 e2 h1 h2 h3 st
    subst h1; subst h2; subst h3
    exact Or.inl ⟨v, (T.setVm vm₁).calling g' mk (Value.ref b :: As).toArray, t, U', L, hT, X', hL, e1, e2, hq, st⟩
  · dsimp only [Pt.U, Pt.locs, Pt.cells, Pt.slots] at X' e1 e2 h1 h2 h3 st hcl
    subst h1; subst h2; subst h3
    exact Or.inr ⟨q, (T.setVm vm₁).calling g' mk (Value.ref b :: As).toArray, t, U', L, E, ce, hT, X', hL, e1, e2, hq, hce, hcv, vx_cls hW₁ hcl, st⟩
theorem vx_runS (S : CallFix p m c cc nL s args Ts own) (hM : vx_Met l y ws rm Pc Qc XC mc ms free) (cw : CallB R s args own index y bytes maxL ret ws rm mc ms n ∧ (Cond.static y).before args s = true) (hp : PreS s H Pc As)
    (hg : g.method = m) (hn : As.length = n) (hsize : g.locals.size = nL) (hstack : g.stack = As.reverse ++ rest) (hW : 2 * g.monitorRoom + (rest.map fun v => v.category).sum ≤ 8) (hdg : decode cc g.pc = .ok (.invokestatic index, 3)) (hf : cells + mc ≤ R.cells ∧ slots + ms ≤ R.slots) :
    vx_Run p l e R s m args below meth c H locs cells slots mc ms g rest (Qc As.toArray) XC free := by
  have hK : vx_Back l R p e below s args y 3 8 (PreOf R mc ms Pc) (PostOf Qc mc ms free) (vx_Post XC mc ms free) := vx_callBack cw.1 hM hp.1
  obtain ⟨⟨-, -, -, -, -, -, hcode, hini, hy, hlen, hl⟩, hstt⟩ := cw
  obtain ⟨hx, hb, hml, ho, -⟩ := S
  intro T hT X
  rcases vx_callS X hx (bytes := bytes) (maxL := maxL) (ret := ret) ho hl hstt hini hcode hy hK hg (hsize.trans hml.symm) (argsL := As) (rest := rest) (fun sig h => hn.trans (hlen sig h)) hstack hW (by rw [hb]; exact hdg)
    (fun vm₁ hW₁ => ⟨hf.1, hf.2, hp.2 (T.setVm vm₁) hT hW₁⟩) with ⟨v, vm₁, ⟨U', l2, c2, s2⟩, hW₁, X', ⟨g', mk, t, L, e1, e2, hq, h1, hL, h2, h3⟩, st⟩ | ⟨q, vm₁, ⟨U', l2, c2, s2⟩, hW₁, X', ⟨g', mk, t, L, E, ce, e1, e2, hq, hce, hcv, hcl, h1, hL, h2, h3⟩, st⟩
  · dsimp only [Pt.U, Pt.locs, Pt.cells, Pt.slots] at X' e1 e2 h1 h2 h3 st
    subst h1; subst h2; subst h3
    exact Or.inl ⟨v, (T.setVm vm₁).calling g' mk As.toArray, t, U', L, hT, X', hL, e1, e2, hq, st⟩
  · dsimp only [Pt.U, Pt.locs, Pt.cells, Pt.slots] at X' e1 e2 h1 h2 h3 st hcl
    subst h1; subst h2; subst h3
    exact Or.inr ⟨q, (T.setVm vm₁).calling g' mk As.toArray, t, U', L, E, ce, hT, X', hL, e1, e2, hq, hce, hcv, vx_cls hW₁ hcl, st⟩
end Runs
section Rows
variable {p : Program} {l : Launch} {e : Env} {R : Room} {s : State} {m : MethodId} {args : Array Value} {below : List Frame} {meth : Method} {c : Code} {H : Heap} {locs : List Loc} {cells slots : Nat} {Q : State → Prop}
variable {mc ms : Nat} {free : Addr → Prop} {A0 A1 : Nat → Prop} {H0 : Heap} {a : Array Value} {pc : Nat} {ls : Array Slot} {st0 rest : List Value}
theorem vx_keep {st₀ t T' : State} {L : List Loc} (h0 : st₀.heap = H) (e1 : T'.heap = t.heap) (hS : va_S A0 H0 H locs) (hA : ∀ q, q < H.size → A1 q → A0 q) (hf : ∀ q, free q → A0 q) (hL : ∀ q ∈ L, free q.base) (hF : va_F A1 st₀ t) :
    H.size ≤ T'.heap.size ∧ (∀ q : Nat, q < H.size → ¬ A1 q → T'.heap[q]? = H[q]?) ∧ va_S A0 H0 T'.heap (locs ++ L) := by
  obtain ⟨hz, hk⟩ := hF
  rw [h0] at hz hk
  exact ⟨by rw [e1]; exact hz, fun q h1 h2 => by rw [e1]; exact hk q h1 h2,
    ⟨Nat.le_trans hS.1 (by rw [e1]; exact hz), fun q h1 h2 => by rw [e1, hk q (Nat.lt_of_lt_of_le h1 hS.1) (fun z => h2 (hA q (Nat.lt_of_lt_of_le h1 hS.1) z))]; exact hS.2.1 q h1 h2, fun q hq => by
      rcases List.mem_append.mp hq with h | h
      · exact hS.2.2 q h
      · exact hf _ (hL q h)⟩⟩
theorem vx_calli {S SX : Type} {post : Int32 → S → Prop} {px : SX → Prop} {B : S → State → Prop} {BX : String → SX → State → Prop} {AX : Nat → Prop} (hr : vx_Run p l e R s m args below meth c H locs cells slots mc ms (F0 m pc ls st0) rest (va_Qi post B A1 a) (vx_X px BX AX) free) (hS : va_S A0 H0 H locs) (hA : ∀ q, q < H.size → A1 q → A0 q) (hf : ∀ q, free q → A0 q) (hAX : ∀ q, q < H.size → AX q → A0 q)
    (kx : ∀ (E : String) (ce : Cell) (q9 : Addr) (u : SX) (t : State) (H1 : Heap) (locs1 : List Loc), t.heap = H1 → s.vm.Alike t.vm → px u → BX E u t → H.size ≤ H1.size → (∀ q : Nat, q < H.size → ¬ AX q → H1[q]? = H[q]?) → va_S A0 H0 H1 locs1 → H1[q9]? = some ce → ce.vm = .none → s.vm.findClass E = some ce.cls → vx_W p l e R s m args below meth c H1 locs1 (cells + mc) (slots + ms) Q (F0 m pc ls rest) q9)
    (kk : ∀ (r : Int32) (u : S) (t : State) (H1 : Heap) (locs1 : List Loc), t.heap = H1 → s.vm.Alike t.vm → post r u → B u t → H.size ≤ H1.size → (∀ q : Nat, q < H.size → ¬ A1 q → H1[q]? = H[q]?) → va_S A0 H0 H1 locs1 → W p l e R s m args below meth c H1 locs1 (cells + mc) (slots + ms) Q (F0 m (pc + 3) ls (.int r :: rest))) : W p l e R s m args below meth c H locs cells slots Q (F0 m pc ls st0) := by
  intro T hT X
  rcases hr T hT X with ⟨v, st₀, t, T', L, h0, X', hL, e1, e2, ⟨⟨r, u, hv, hp, hb⟩, hF⟩, st⟩ | ⟨q, st₀, t, T', L, E, ce, h0, X', hL, e1, e2, ⟨u, hp, hb, hF⟩, hce, hcv, hcl, st⟩
  · cases hv
    obtain ⟨k1, k2, k3⟩ := vx_keep h0 e1 hS hA hf hL hF
    obtain ⟨t2, a1, b1⟩ := kk r u t T'.heap (locs ++ L) e1.symm (by rw [← e2]; exact X'.warmed.alike) hp hb k1 k2 k3 T' rfl X'
    exact ⟨t2, st t2 a1, b1⟩
  · obtain ⟨k1, k2, k3⟩ := vx_keep h0 e1 hS hAX hf hL hF
    obtain ⟨t2, a1, b1⟩ := kx E ce q u t T'.heap (locs ++ L) e1.symm (by rw [← e2]; exact X'.warmed.alike) hp hb k1 k2 k3 (by rw [e1]; exact hce) hcv hcl T' rfl X'
    exact ⟨t2, st.trans a1, b1⟩
theorem vx_calll {S SX : Type} {post : Int64 → S → Prop} {px : SX → Prop} {B : S → State → Prop} {BX : String → SX → State → Prop} {AX : Nat → Prop} (hr : vx_Run p l e R s m args below meth c H locs cells slots mc ms (F0 m pc ls st0) rest (va_Ql post B A1 a) (vx_X px BX AX) free) (hS : va_S A0 H0 H locs) (hA : ∀ q, q < H.size → A1 q → A0 q) (hf : ∀ q, free q → A0 q) (hAX : ∀ q, q < H.size → AX q → A0 q)
    (kx : ∀ (E : String) (ce : Cell) (q9 : Addr) (u : SX) (t : State) (H1 : Heap) (locs1 : List Loc), t.heap = H1 → s.vm.Alike t.vm → px u → BX E u t → H.size ≤ H1.size → (∀ q : Nat, q < H.size → ¬ AX q → H1[q]? = H[q]?) → va_S A0 H0 H1 locs1 → H1[q9]? = some ce → ce.vm = .none → s.vm.findClass E = some ce.cls → vx_W p l e R s m args below meth c H1 locs1 (cells + mc) (slots + ms) Q (F0 m pc ls rest) q9)
    (kk : ∀ (r : Int64) (u : S) (t : State) (H1 : Heap) (locs1 : List Loc), t.heap = H1 → s.vm.Alike t.vm → post r u → B u t → H.size ≤ H1.size → (∀ q : Nat, q < H.size → ¬ A1 q → H1[q]? = H[q]?) → va_S A0 H0 H1 locs1 → W p l e R s m args below meth c H1 locs1 (cells + mc) (slots + ms) Q (F0 m (pc + 3) ls (.long r :: rest))) : W p l e R s m args below meth c H locs cells slots Q (F0 m pc ls st0) := by
  intro T hT X
  rcases hr T hT X with ⟨v, st₀, t, T', L, h0, X', hL, e1, e2, ⟨⟨r, u, hv, hp, hb⟩, hF⟩, st⟩ | ⟨q, st₀, t, T', L, E, ce, h0, X', hL, e1, e2, ⟨u, hp, hb, hF⟩, hce, hcv, hcl, st⟩
  · cases hv
    obtain ⟨k1, k2, k3⟩ := vx_keep h0 e1 hS hA hf hL hF
    obtain ⟨t2, a1, b1⟩ := kk r u t T'.heap (locs ++ L) e1.symm (by rw [← e2]; exact X'.warmed.alike) hp hb k1 k2 k3 T' rfl X'
    exact ⟨t2, st t2 a1, b1⟩
  · obtain ⟨k1, k2, k3⟩ := vx_keep h0 e1 hS hAX hf hL hF
    obtain ⟨t2, a1, b1⟩ := kx E ce q u t T'.heap (locs ++ L) e1.symm (by rw [← e2]; exact X'.warmed.alike) hp hb k1 k2 k3 (by rw [e1]; exact hce) hcv hcl T' rfl X'
    exact ⟨t2, st.trans a1, b1⟩
theorem vx_callf {S SX : Type} {post : UInt32 → S → Prop} {px : SX → Prop} {B : S → State → Prop} {BX : String → SX → State → Prop} {AX : Nat → Prop} (hr : vx_Run p l e R s m args below meth c H locs cells slots mc ms (F0 m pc ls st0) rest (va_Qf post B A1 a) (vx_X px BX AX) free) (hS : va_S A0 H0 H locs) (hA : ∀ q, q < H.size → A1 q → A0 q) (hf : ∀ q, free q → A0 q) (hAX : ∀ q, q < H.size → AX q → A0 q)
    (kx : ∀ (E : String) (ce : Cell) (q9 : Addr) (u : SX) (t : State) (H1 : Heap) (locs1 : List Loc), t.heap = H1 → s.vm.Alike t.vm → px u → BX E u t → H.size ≤ H1.size → (∀ q : Nat, q < H.size → ¬ AX q → H1[q]? = H[q]?) → va_S A0 H0 H1 locs1 → H1[q9]? = some ce → ce.vm = .none → s.vm.findClass E = some ce.cls → vx_W p l e R s m args below meth c H1 locs1 (cells + mc) (slots + ms) Q (F0 m pc ls rest) q9)
    (kk : ∀ (r : UInt32) (u : S) (t : State) (H1 : Heap) (locs1 : List Loc), t.heap = H1 → s.vm.Alike t.vm → post r u → B u t → H.size ≤ H1.size → (∀ q : Nat, q < H.size → ¬ A1 q → H1[q]? = H[q]?) → va_S A0 H0 H1 locs1 → W p l e R s m args below meth c H1 locs1 (cells + mc) (slots + ms) Q (F0 m (pc + 3) ls (.float r :: rest))) : W p l e R s m args below meth c H locs cells slots Q (F0 m pc ls st0) := by
  intro T hT X
  rcases hr T hT X with ⟨v, st₀, t, T', L, h0, X', hL, e1, e2, ⟨⟨r, u, hv, hp, hb⟩, hF⟩, st⟩ | ⟨q, st₀, t, T', L, E, ce, h0, X', hL, e1, e2, ⟨u, hp, hb, hF⟩, hce, hcv, hcl, st⟩
  · cases hv
    obtain ⟨k1, k2, k3⟩ := vx_keep h0 e1 hS hA hf hL hF
    obtain ⟨t2, a1, b1⟩ := kk r u t T'.heap (locs ++ L) e1.symm (by rw [← e2]; exact X'.warmed.alike) hp hb k1 k2 k3 T' rfl X'
    exact ⟨t2, st t2 a1, b1⟩
  · obtain ⟨k1, k2, k3⟩ := vx_keep h0 e1 hS hAX hf hL hF
    obtain ⟨t2, a1, b1⟩ := kx E ce q u t T'.heap (locs ++ L) e1.symm (by rw [← e2]; exact X'.warmed.alike) hp hb k1 k2 k3 (by rw [e1]; exact hce) hcv hcl T' rfl X'
    exact ⟨t2, st.trans a1, b1⟩
theorem vx_calld {S SX : Type} {post : UInt64 → S → Prop} {px : SX → Prop} {B : S → State → Prop} {BX : String → SX → State → Prop} {AX : Nat → Prop} (hr : vx_Run p l e R s m args below meth c H locs cells slots mc ms (F0 m pc ls st0) rest (va_Qd post B A1 a) (vx_X px BX AX) free) (hS : va_S A0 H0 H locs) (hA : ∀ q, q < H.size → A1 q → A0 q) (hf : ∀ q, free q → A0 q) (hAX : ∀ q, q < H.size → AX q → A0 q)
    (kx : ∀ (E : String) (ce : Cell) (q9 : Addr) (u : SX) (t : State) (H1 : Heap) (locs1 : List Loc), t.heap = H1 → s.vm.Alike t.vm → px u → BX E u t → H.size ≤ H1.size → (∀ q : Nat, q < H.size → ¬ AX q → H1[q]? = H[q]?) → va_S A0 H0 H1 locs1 → H1[q9]? = some ce → ce.vm = .none → s.vm.findClass E = some ce.cls → vx_W p l e R s m args below meth c H1 locs1 (cells + mc) (slots + ms) Q (F0 m pc ls rest) q9)
    (kk : ∀ (r : UInt64) (u : S) (t : State) (H1 : Heap) (locs1 : List Loc), t.heap = H1 → s.vm.Alike t.vm → post r u → B u t → H.size ≤ H1.size → (∀ q : Nat, q < H.size → ¬ A1 q → H1[q]? = H[q]?) → va_S A0 H0 H1 locs1 → W p l e R s m args below meth c H1 locs1 (cells + mc) (slots + ms) Q (F0 m (pc + 3) ls (.double r :: rest))) : W p l e R s m args below meth c H locs cells slots Q (F0 m pc ls st0) := by
  intro T hT X
  rcases hr T hT X with ⟨v, st₀, t, T', L, h0, X', hL, e1, e2, ⟨⟨r, u, hv, hp, hb⟩, hF⟩, st⟩ | ⟨q, st₀, t, T', L, E, ce, h0, X', hL, e1, e2, ⟨u, hp, hb, hF⟩, hce, hcv, hcl, st⟩
  · cases hv
    obtain ⟨k1, k2, k3⟩ := vx_keep h0 e1 hS hA hf hL hF
    obtain ⟨t2, a1, b1⟩ := kk r u t T'.heap (locs ++ L) e1.symm (by rw [← e2]; exact X'.warmed.alike) hp hb k1 k2 k3 T' rfl X'
    exact ⟨t2, st t2 a1, b1⟩
  · obtain ⟨k1, k2, k3⟩ := vx_keep h0 e1 hS hAX hf hL hF
    obtain ⟨t2, a1, b1⟩ := kx E ce q u t T'.heap (locs ++ L) e1.symm (by rw [← e2]; exact X'.warmed.alike) hp hb k1 k2 k3 (by rw [e1]; exact hce) hcv hcl T' rfl X'
    exact ⟨t2, st.trans a1, b1⟩
theorem vx_callv {S SX : Type} {post : S → Prop} {px : SX → Prop} {B : S → State → Prop} {BX : String → SX → State → Prop} {AX : Nat → Prop} (hr : vx_Run p l e R s m args below meth c H locs cells slots mc ms (F0 m pc ls st0) rest (va_Qv post B A1 a) (vx_X px BX AX) free) (hS : va_S A0 H0 H locs) (hA : ∀ q, q < H.size → A1 q → A0 q) (hf : ∀ q, free q → A0 q) (hAX : ∀ q, q < H.size → AX q → A0 q)
    (kx : ∀ (E : String) (ce : Cell) (q9 : Addr) (u : SX) (t : State) (H1 : Heap) (locs1 : List Loc), t.heap = H1 → s.vm.Alike t.vm → px u → BX E u t → H.size ≤ H1.size → (∀ q : Nat, q < H.size → ¬ AX q → H1[q]? = H[q]?) → va_S A0 H0 H1 locs1 → H1[q9]? = some ce → ce.vm = .none → s.vm.findClass E = some ce.cls → vx_W p l e R s m args below meth c H1 locs1 (cells + mc) (slots + ms) Q (F0 m pc ls rest) q9)
    (kk : ∀ (u : S) (t : State) (H1 : Heap) (locs1 : List Loc), t.heap = H1 → s.vm.Alike t.vm → post u → B u t → H.size ≤ H1.size → (∀ q : Nat, q < H.size → ¬ A1 q → H1[q]? = H[q]?) → va_S A0 H0 H1 locs1 → W p l e R s m args below meth c H1 locs1 (cells + mc) (slots + ms) Q (F0 m (pc + 3) ls (rest))) : W p l e R s m args below meth c H locs cells slots Q (F0 m pc ls st0) := by
  intro T hT X
  rcases hr T hT X with ⟨v, st₀, t, T', L, h0, X', hL, e1, e2, ⟨⟨u, hv, hp, hb⟩, hF⟩, st⟩ | ⟨q, st₀, t, T', L, E, ce, h0, X', hL, e1, e2, ⟨u, hp, hb, hF⟩, hce, hcv, hcl, st⟩
  · cases hv
    obtain ⟨k1, k2, k3⟩ := vx_keep h0 e1 hS hA hf hL hF
    obtain ⟨t2, a1, b1⟩ := kk u t T'.heap (locs ++ L) e1.symm (by rw [← e2]; exact X'.warmed.alike) hp hb k1 k2 k3 T' rfl X'
    exact ⟨t2, st t2 a1, b1⟩
  · obtain ⟨k1, k2, k3⟩ := vx_keep h0 e1 hS hAX hf hL hF
    obtain ⟨t2, a1, b1⟩ := kx E ce q u t T'.heap (locs ++ L) e1.symm (by rw [← e2]; exact X'.warmed.alike) hp hb k1 k2 k3 (by rw [e1]; exact hce) hcv hcl T' rfl X'
    exact ⟨t2, st.trans a1, b1⟩
/-- caught by the row x of this method's table; the rows ahead don't take it -/
theorem vx_catch {own name : String} {E : String} {ce : Cell} {q : Addr} (hown : s.vm.findClass own = some m.cls) (pre : List ExceptionTableEntry) (x : ExceptionTableEntry) (suf : List ExceptionTableEntry) (hsplit : c.exceptionTable.toList = pre ++ x :: suf)
    (hpass : ∀ z ∈ pre, covers z pc = false ∨ (z.catchType ≠ 0 ∧ ∃ nm : String, (Cond.classLink own z.catchType nm).before args s = true ∧ va_Nc E nm s)) (hx : covers x pc = true) (h0 : x.catchType ≠ 0)
    (hlink : (Cond.classLink own x.catchType name).before args s = true) (hcast : (Cond.castable E name).before args s = true) (hcell : H[q]? = some ce) (hv : ce.vm = .none) (hcl : s.vm.findClass E = some ce.cls)
    (kk : W p l e R s m args below meth c H locs cells slots Q (F0 m x.handlerPc ls [.ref q])) : vx_W p l e R s m args below meth c H locs cells slots Q (F0 m pc ls rest) q := by
  intro T hT X
  have hpl : e.platform.magicAccessors = ({} : Platform).magicAccessors := by rw [X.admits.platform]
  obtain ⟨c3, c4, hc3, hc4, hasg⟩ := Cond.castable_spec hcast
  cases Option.some.inj (hc3.symm.trans hcl)
  obtain ⟨c5, hc5, hcl5⟩ := Cond.classLink_spec hown hlink e.platform hpl
  cases Option.some.inj (hc4.symm.trans hc5)
  obtain ⟨vm', X', st⟩ := X.thenCaughtThrough q (g := F0 m pc ls rest) rfl (Steps.refl _) (by rw [hT]; exact hcell) (by rw [hv]; rfl) (by obtain ⟨k9, h9, -⟩ := Vm.findClass_spec hcl; exact ⟨k9, h9⟩) pre x suf hsplit
    (fun z hz => by
      rcases hpass z hz with h | ⟨hz0, nm, hl1, hn1⟩
      · exact Or.inl h
      · obtain ⟨c6, hc6, hcl6⟩ := Cond.classLink_spec hown hl1 e.platform hpl
        obtain ⟨a8, b8, h1, h2, h3⟩ := hn1
        cases Option.some.inj (h1.symm.trans hcl)
        cases Option.some.inj (h2.symm.trans hc6)
        exact Or.inr ⟨hz0, _, hcl6, h3⟩) hx (Or.inr ⟨h0, c4, hcl5, hasg⟩)
  obtain ⟨t, a1, b1⟩ := kk (T.setVm vm') hT X'
  exact ⟨t, st.trans a1, b1⟩
end Rows
section Ends
variable {p : Program} {l : Launch} {e : Env} {R : Room} {s : State} {m : MethodId} {args : Array Value} {below : List Frame} {meth : Method} {c : Code} {H : Heap} {locs : List Loc} {cells slots : Nat} {Q : State → Prop}
variable {mc ms : Nat} {free : Addr → Prop} {A0 A1 : Nat → Prop} {H0 : Heap} {a : Array Value} {ls : Array Slot} {st0 rest : List Value}
variable {Qc : Array Value → State → Outcome → State → Prop} {XC : String → State → State → Prop}
/-- what a body that may throw owes at its end -/
def vx_MQ (below : List Frame) (Qc : Array Value → State → Outcome → State → Prop) (XC : String → State → State → Prop) (a : Array Value) (s : State) (mc ms : Nat) (free : Addr → Prop) : State → Prop := fun t =>
  ∃ o, t.status = .running ∧ Ended t below o ∧ vx_Q Qc XC mc ms free a s o t
theorem vx_ret {g : JFrame} {mc ms : Nat} (k : W p l e R s m args below meth c H locs cells slots (MQ below Qc args s mc ms free) g) : W p l e R s m args below meth c H locs cells slots (vx_MQ below Qc XC args s mc ms free) g := by
  intro T hT X
  obtain ⟨t, a1, o, b1, b2, b3, b4⟩ := k T hT X
  exact ⟨t, a1, o, b1, b2, Or.inl ⟨b3, b4⟩⟩
/-- not caught here: it goes on to the caller -/
theorem vx_widen {g : JFrame} {q : Addr} {k n : Nat} (h1 : cells ≤ k) (h2 : slots ≤ n) (kk : vx_W p l e R s m args below meth c H locs k n Q g q) : vx_W p l e R s m args below meth c H locs cells slots Q g q := fun T hT X => kk T hT (stand_widen X h1 h2)
theorem vx_out {pc : Nat} {E : String} {ce : Cell} {q : Addr} {mc ms : Nat} (hout : ∀ x ∈ c.exceptionTable.toList, covers x pc = false) (hlocks : meth.locks = false) (hcell : H[q]? = some ce) (hv : ce.vm = .none) (hcl : s.vm.findClass E = some ce.cls)
    (hx : ∀ t : State, t.heap = H → s.vm.Alike t.vm → XC E s t) (hf : ∀ z ∈ locs, free z.base) (hc : cells ≤ mc) (hs : slots ≤ ms) :
    vx_W p l e R s m args below meth c H locs cells slots (vx_MQ below Qc XC args s mc ms free) (F0 m pc ls rest) q := by
  intro T hT X
  obtain ⟨st1, hrun, hend, hW, hsm⟩ := X.leaveThrown q (g := F0 m pc ls rest) rfl rfl rfl hout hlocks
  have hcell9 : (T.setFrames (.throwing q :: below)).heap[q]? = some ce := by
    show T.heap[q]? = some ce
    rw [hT]; exact hcell
  exact ⟨_, st1, .threw q, hrun, hend, Or.inr ⟨q, rfl, E, ce, locs, hx _ hT hW.alike, hcell9, hv, hcl, hW, hsm.mono hc hs, hf⟩⟩
theorem vx_frame {U : State} {k n : Nat} (h : s.sameButNew ({ U with vm := s.vm } : State) locs k n) : s.heap.size ≤ U.heap.size ∧ ∀ q : Nat, q < s.heap.size → (∀ z ∈ locs, z.base ≠ q) → U.heap[q]? = s.heap[q]? := by
  obtain ⟨-, h2, -, -, -, h6⟩ := h
  refine ⟨h2, fun q hq hz => ?_⟩
  obtain ⟨c9, e1, e2, e3, e4⟩ := h6 q _ (Array.getElem?_eq_getElem hq)
  have hs : c9.slots = (s.heap[q]).slots := Array.ext_getElem? fun i => e4 i fun hm => hz _ hm rfl
  have h9 : c9 = s.heap[q] := by
    rw [hs] at e2
    exact e2
  have e5 : U.heap[q]? = some c9 := e1
  rw [e5, h9, Array.getElem?_eq_getElem hq]
/-- the words of a throw but the four that speak of the heap -/
def vx_no (w : Cond) : Bool := decide (w ≠ .isRef (.static Bundle.tN "UNASSIGNED_STACK" Bundle.steD)) && decide (w ≠ .isRef (.static Bundle.tN "SUPPRESSED_SENTINEL" Bundle.listD)) && decide (w ≠ .laysStatic Bundle.tN "UNASSIGNED_STACK" Bundle.steD) && decide (w ≠ .laysStatic Bundle.tN "SUPPRESSED_SENTINEL" Bundle.listD)
def vx_at0 (own : String) (ic : Nat) (X : String) (names : List String) : List Cond := (Bundle.ownAtoms0 own ic X names).filter vx_no
def vx_atS (own : String) (ic : Nat) (X : String) (names : List String) : List Cond := (Bundle.ownAtoms own ic X names).filter vx_no
/-- a word that the tables alone decide, or a good one -/
def vx_ot (w : Cond) : Bool := w.onTables || goodWord w
theorem vx_ot_at {args a' : Array Value} {s U : State} {w : Cond} (hW : s.WarmedH U.vm) (hvm : s.vm = U.vm) (hg : vx_ot w = true) (h : w.before args s = true) : w.before a' U = true := by
  simp only [vx_ot, Bool.or_eq_true] at hg
  rcases hg with hg | hg
  · exact va_tabs hg hvm h
  · exact word_at hW (good_of_word hg) h
/-- a list's words: the good ones out of the method's own list, the others by premises of their own -/
theorem vx_hat {args : Array Value} {s : State} {L B : List Cond} (h1 : ∀ w ∈ L.filter goodWord, w.before args s = true) (h2 : ∀ w ∈ L.filter (fun w => !goodWord w), w ∈ B) (h3 : ∀ w ∈ B, w.before args s = true) : ∀ w ∈ L, w.before args s = true := by
  intro w hw
  by_cases g : goodWord w = true
  · exact h1 w (List.mem_filter.mpr ⟨hw, g⟩)
  · refine h3 w (h2 w (List.mem_filter.mpr ⟨hw, ?_⟩))
    show (!goodWord w) = true
    cases hgw : goodWord w
    · rfl
    · exact absurd hgw g
theorem vx_c {args : Array Value} {s : State} {w : Cond} {B : List Cond} (h : w.before args s = true) (t : ∀ w ∈ B, w.before args s = true) : ∀ w' ∈ w :: B, w'.before args s = true := fun w' h' => (List.mem_cons.mp h').elim (fun e => by rw [e]; exact h) (t w')
theorem vx_n {args : Array Value} {s : State} : ∀ w ∈ ([] : List Cond), w.before args s = true := fun _ h => nomatch h
theorem vx_own {args : Array Value} {s : State} {L : List Cond} (h1 : ∀ w ∈ L.filter vx_no, w.before args s = true)
    (hU : (Cond.isRef (.static Bundle.tN "UNASSIGNED_STACK" Bundle.steD)).before args s = true) (hN : (Cond.isRef (.static Bundle.tN "SUPPRESSED_SENTINEL" Bundle.listD)).before args s = true)
    (lU : (Cond.laysStatic Bundle.tN "UNASSIGNED_STACK" Bundle.steD).before args s = true) (lN : (Cond.laysStatic Bundle.tN "SUPPRESSED_SENTINEL" Bundle.listD).before args s = true) : ∀ w ∈ L, w.before args s = true := by
  intro w hw
  by_cases e1 : w = .isRef (.static Bundle.tN "UNASSIGNED_STACK" Bundle.steD)
  · rw [e1]; exact hU
  · by_cases e2 : w = .isRef (.static Bundle.tN "SUPPRESSED_SENTINEL" Bundle.listD)
    · rw [e2]; exact hN
    · by_cases e3 : w = .laysStatic Bundle.tN "UNASSIGNED_STACK" Bundle.steD
      · rw [e3]; exact lU
      · by_cases e4 : w = .laysStatic Bundle.tN "SUPPRESSED_SENTINEL" Bundle.listD
        · rw [e4]; exact lN
        · exact h1 w (List.mem_filter.mpr ⟨hw, by unfold vx_no; rw [decide_eq_true e1, decide_eq_true e2, decide_eq_true e3, decide_eq_true e4]; rfl⟩)
/-- where a static field lies, its class's statics cell in H -/
def vx_L (C n d : String) (A : Nat → Prop) (U : State) (H : Heap) : Prop := ∃ (c : ClassId) (k : Class) (i : Nat) (f : Field) (a : Nat) (cell : Cell), U.vm.findClass C = some c ∧ U.fieldFound? C n d = some (c, k, i, f) ∧ f.isStatic = true ∧ k.statics = some a ∧ H[a]? = some cell ∧ cell.vm.isStatics = true ∧ cell.cls = c ∧ f.slot < cell.slots.size ∧ k.staticTypes[f.slot]? = some f.type ∧ ¬ A a
theorem vx_L.moved {C n d : String} {A : Nat → Prop} {u U : State} {H : Heap} (hvm : u.vm.Alike U.vm) (h : vx_L C n d A u H) : vx_L C n d A U H := by
  obtain ⟨c, k, i, f, a, cell, h1, h2, h3, h4, h5, h6, h7, h8, h9, h10⟩ := h
  obtain ⟨k', hi', he⟩ := State.fieldFound?_setVm hvm h2
  exact ⟨c, k', i, f, a, cell, by rw [hvm.findClass]; exact h1, hi', h3, by rw [he]; exact h4, h5, h6, h7, h8, by rw [he]; exact h9, h10⟩
theorem vx_L.kept {C n d : String} {A : Nat → Prop} {U : State} {H H1 : Heap} (h : vx_L C n d A U H) (hq : ∀ a : Nat, a < H.size → ¬ A a → H1[a]? = H[a]?) : vx_L C n d A U H1 := by
  obtain ⟨c, k, i, f, a, cell, h1, h2, h3, h4, h5, h6, h7, h8, h9, h10⟩ := h
  exact ⟨c, k, i, f, a, cell, h1, h2, h3, h4, by rw [hq a (Array.getElem?_eq_some_iff.mp h5).1 h10]; exact h5, h6, h7, h8, h9, h10⟩
theorem vx_L.narrow {C n d : String} {A B : Nat → Prop} {U : State} {H : Heap} (h : vx_L C n d A U H) (hAB : ∀ q, B q → A q) : vx_L C n d B U H := by
  obtain ⟨c, k, i, f, a, cell, h1, h2, h3, h4, h5, h6, h7, h8, h9, h10⟩ := h
  exact ⟨c, k, i, f, a, cell, h1, h2, h3, h4, h5, h6, h7, h8, h9, fun z => h10 (hAB _ z)⟩
theorem vx_L.word {C n d : String} {A : Nat → Prop} {s : State} {args : Array Value} (h : vx_L C n d A s s.heap) : (Cond.laysStatic C n d).before args s = true := by
  obtain ⟨c, k, i, f, a, cell, h1, h2, h3, h4, h5, h6, h7, h8, h9, -⟩ := h
  show (Cond.laysStatic C n d).holds args s none s [] = true
  exact Cond.laysStatic_of h1 h2 h3 h4 h5 h6 h7 h8 h9
/-- .. and what it holds: null or some reference -/
def vx_Zq (C n d : String) (A : Nat → Prop) (U : State) (H : Heap) : Prop := va_Zq C n d A U H ∧ vx_L C n d A U H
theorem vx_Zq.moved {C n d : String} {A : Nat → Prop} {u U : State} {H : Heap} (hvm : u.vm.Alike U.vm) (h : vx_Zq C n d A u H) : vx_Zq C n d A U H := ⟨va_Zq.moved hvm h.1, vx_L.moved hvm h.2⟩
theorem vx_Zq.kept {C n d : String} {A : Nat → Prop} {U : State} {H H1 : Heap} (h : vx_Zq C n d A U H) (hq : ∀ a : Nat, a < H.size → ¬ A a → H1[a]? = H[a]?) : vx_Zq C n d A U H1 := ⟨va_Zq.kept h.1 hq, vx_L.kept h.2 hq⟩
theorem vx_Zq.narrow {C n d : String} {A B : Nat → Prop} {U : State} {H : Heap} (h : vx_Zq C n d A U H) (hAB : ∀ q, B q → A q) : vx_Zq C n d B U H := ⟨va_Zq.narrow h.1 hAB, vx_L.narrow h.2 hAB⟩
theorem vx_Zqof {args : Array Value} {s : State} {C n d : String} {A : Nat → Prop} (hl : (Cond.laysStatic C n d).before args s = true) (hini : (Cond.initialized C).before args s = true) (h : (Cond.isRef (.static C n d)).before args s = true) (hA : ∀ a : Nat, a < s.heap.size → ¬ A a) : vx_Zq C n d A s s.heap := by
  refine ⟨va_Zqof hl hini h hA, ?_⟩
  obtain ⟨c, k, i, f, a, cell, h1, h2, h3, h4, h5, h6, h7, h8, h9⟩ := Cond.laysStatic_spec hl
  exact ⟨c, k, i, f, a, cell, h1, h2, h3, h4, h5, h6, h7, h8, h9, hA a (Array.getElem?_eq_some_iff.mp h5).1⟩
theorem vx_isRef {C n d : String} {v : Value} {A : Nat → Prop} {s : State} {args : Array Value} (h : va_Z C n d v A s s.heap) (hv : v.isRef = true) : (Cond.isRef (.static C n d)).before args s = true := by
  obtain ⟨cf, kf, fi, f, a, cell, h1, h2, h3, h4, h5, h6, h7, -⟩ := h
  have he : (Term.static C n d).eval args s none [] s = some v := by
    simp [Term.eval, State.fieldNamed?, h1, h2, h4, h5, h6, h7]
  simp only [Cond.before, Cond.holds, Cond.value, he]
  cases v <;> simp_all [Value.isRef]
theorem vx_isRefq {C n d : String} {A : Nat → Prop} {s : State} {args : Array Value} (h : va_Zq C n d A s s.heap) : (Cond.isRef (.static C n d)).before args s = true := by
  rcases h with h | ⟨t, h⟩
  · exact vx_isRef h rfl
  · exact vx_isRef h rfl
/-- the same frame, seen from here: as if the method were called anew in this heap -/
theorem vx_rebase {T : State} (X : Stand p l e R s m args below meth c T locs cells slots) {R' : Room} (hf : R'.frames ≤ R.frames) (hl : R'.locals ≤ R.locals) (hc : cells + R'.cells ≤ R.cells) (hs : slots + R'.slots ≤ R.slots) :
    Stand p l e R' ((T.setVm s.vm).setFrames (.invoking m args :: below)) m args below meth c T [] 0 0 := by
  have htop : (T.setVm s.vm).topJava?.isSome := X.here.top
  have hF : ((T.setVm s.vm).setFrames (.invoking m args :: below)).frames = .invoking m args :: below := State.frames_setFrames _ (State.cur_lt_of_top htop)
  obtain ⟨g₀, hg0⟩ := Option.isSome_iff_exists.mp htop
  obtain ⟨r, hr⟩ := State.topJava?_eq_some.mp hg0
  have hl9 : e.platform.stackLimits (T.setVm s.vm).me = e.platform.stackLimits s.me := X.limits
  have hb9 : (T.setVm s.vm).me.stackBytes = s.me.stackBytes := X.bytes
  refine ⟨X.admits, X.cas, X.clock, hF, ?_, X.hears, X.method, X.code, X.here, X.tail, X.warmed, ?_, ?_, ?_⟩
  · have h := X.room
    have hU : ((T.setVm s.vm).setFrames (.invoking m args :: below)).localsInUse = s.localsInUse := by
      rw [State.localsInUse_invoking hF (meth := meth) (c := c) X.method X.code, State.localsInUse_invoking X.frames X.method X.code]
    simp only [State.hasRoom, Bool.and_eq_true, decide_eq_true_eq] at h ⊢
    obtain ⟨⟨⟨⟨h1, h2, h3, h4, h5, h6⟩, h7⟩, h8⟩, h9⟩ := h
    rw [X.frames, List.length_cons] at h2 h3
    have q1 := X.heapSize
    have q2 := X.used
    simp only [hF, hU, List.length_cons, State.stackLimits_setFrames, State.stackBytes_setFrames, hl9, hb9]
    refine ⟨⟨⟨⟨by omega, by omega, by omega, by omega, by omega, h6⟩, ?_⟩, ?_⟩, X.book⟩
    · show T.heap.size + R'.cells ≤ e.platform.maxCells
      omega
    · show T.slotsUsed + R'.slots ≤ e.platform.maxSlots
      omega
  · rw [State.stackLimits_setFrames]; rfl
  · rw [State.stackBytes_setFrames]; rfl
  · refine ⟨?_, Nat.le_refl _, Nat.le_refl _, ?_, ?_, fun a c9 h9 => ⟨c9, h9, rfl, rfl, fun _ _ => rfl⟩⟩
    · obtain ⟨t, ht, -⟩ := State.frames_cons hr
      show T.setVm s.vm = { ((T.setVm s.vm).setFrames (.invoking m args :: below)).setFrames (T.setVm s.vm).frames with heap := T.heap, slotsUsed := T.slotsUsed }
      rw [State.setFrames_setFrames, State.setFrames_self ht]
      rfl
    · show T.slotsUsed = T.slotsUsed + ((T.heap.toList.drop T.heap.size).map (·.slots.size)).sum
      rw [List.drop_eq_nil_of_le (Nat.le_of_eq Array.length_toList)]
      rfl
    · show ((T.heap.toList.drop T.heap.size).map (·.slots.size)).sum ≤ 0
      rw [List.drop_eq_nil_of_le (Nat.le_of_eq Array.length_toList)]
      exact Nat.le_refl _
/-- 'throw new E()': new; dup; invokespecial; athrow -/
theorem vx_throw0 {cc : ByteArray} {pc : Nat} (hexec : p.tables.exec = Jvm.exec) (hb : c.code = cc) (hl : l.stackTraces = false) {own cls : String} {names : List String} {ik ic mc ms : Nat} {A : Nat → Prop}
    (hown : s.vm.findClass own = some m.cls) (hcls : Bundle.fit cls = true) (hnames : ∀ n ∈ names, Bundle.fit n = true)
    (hk : (Cond.classLink own ik cls).before args s = true) (hini : (Cond.initialized cls).before args s = true) (hat : ∀ w ∈ vx_at0 own ic cls names, w.before args s = true)
    (hgood : ∀ w ∈ Cond.classLink own ik cls :: Cond.initialized cls :: vx_at0 own ic cls names, vx_ot w = true)
    (hU : vx_Zq Bundle.tN "UNASSIGNED_STACK" Bundle.steD A s s.heap) (hN : vx_Zq Bundle.tN "SUPPRESSED_SENTINEL" Bundle.listD A s s.heap) (hS : va_S A s.heap H locs) (hsize : ls.size = c.maxLocals)
    (d0 : decode cc pc = .ok (.new ik, 3)) (d3 : decode cc (pc + 3) = .ok (.dup, 1)) (d4 : decode cc (pc + 4) = .ok (.invokespecial ic, 3)) (d7 : decode cc (pc + 7) = .ok (.athrow, 1))
    (hout : ∀ x ∈ c.exceptionTable.toList, covers x (pc + 7) = false)
    (hRframes : names.length + 3 < R.frames) (hRlocals : (rest.map fun v => v.category).sum + (13 * (names.length + 1) + 42) ≤ R.locals) (hRcells : cells + 1 ≤ R.cells) (hRslots : slots + 6 ≤ R.slots) (hlocks : meth.locks = false)
    (hx : ∀ t : State, s.vm.Alike t.vm → H.size ≤ t.heap.size → (∀ q : Nat, q < H.size → t.heap[q]? = H[q]?) → XC cls s t)
    (hf : ∀ z ∈ locs, free z.base) (hc : cells + 1 ≤ mc) (hs : slots + 6 ≤ ms) :
    W p l e R s m args below meth c H locs cells slots (vx_MQ below Qc XC args s mc ms free) (F0 m pc ls rest) := by
  intro T hT X
  have htr : e.platform.stackTraces = false := (show e.platform.stackTraces = l.stackTraces by rw [X.admits.platform]).trans hl
  have Y := vx_rebase X (R' := { frames := R.frames, locals := R.locals, cells := 1, slots := 6 }) (Nat.le_refl _) (Nat.le_refl _) hRcells hRslots
  obtain ⟨s', hA⟩ : ∃ z, z = (T.setVm s.vm).setFrames (.invoking m args :: below) := ⟨_, rfl⟩
  rw [← hA] at Y
  have hvm : s'.vm = s.vm := by rw [hA]; rfl
  have hhp : s'.heap = H := by rw [hA]; exact hT
  have hW0 : s.WarmedH s'.vm := by rw [hvm]; exact State.WarmedH.refl s
  have hat' : ∀ w ∈ vx_at0 own ic cls names, w.before args s' = true := fun w hw => vx_ot_at hW0 hvm.symm (hgood w (List.mem_cons_of_mem _ (List.mem_cons_of_mem _ hw))) (hat w hw)
  have hk' : (Cond.classLink own ik cls).before args s' = true := vx_ot_at hW0 hvm.symm (hgood _ List.mem_cons_self) hk
  have hini' : (Cond.initialized cls).before args s' = true := vx_ot_at hW0 hvm.symm (hgood _ (List.mem_cons_of_mem _ List.mem_cons_self)) hini
  have hU' : vx_Zq Bundle.tN "UNASSIGNED_STACK" Bundle.steD A s' s'.heap := by rw [hhp]; exact vx_Zq.moved hW0.alike (hU.kept hS.2.1)
  have hN' : vx_Zq Bundle.tN "SUPPRESSED_SENTINEL" Bundle.listD A s' s'.heap := by rw [hhp]; exact vx_Zq.moved hW0.alike (hN.kept hS.2.1)
  have h : ∀ w ∈ Bundle.ownAtoms0 own ic cls names, w.before args s' = true := vx_own hat' (vx_isRefq hU'.1) (vx_isRefq hN'.1) hU'.2.word hN'.2.word
  have hown' : s'.vm.findClass own = some m.cls := by rw [hvm]; exact hown
  have hins : (Cond.instantiable cls 6).before args s' = true := h _ (by simp [Bundle.ownAtoms0])
  obtain ⟨vm₁, cX, kX, hfX, hkX, -, -, X₁, st1⟩ := Y.newCold hexec (own := own) (C := cls) (index := ik) (n := 6) hown' hk' hins hini'
    (g := F0 m pc ls rest) rfl (by rw [hb]; exact d0) (Nat.le_refl _) (Nat.le_refl _)
  generalize hT1 : (T.setVm vm₁).pushCell { cls := cX, slots := kX.instanceTypes.map defaultValue, vm := .none } = T1 at X₁ st1
  have hcat : (Value.ref T.heap.size).category = 1 := rfl
  have hcellA : T1.heap[T.heap.size]? = some (freshCell cX kX) := by rw [← hT1]; exact State.heap_pushCell_size _ _
  have d3' : decode c.code (pc + 3) = .ok (.dup, 1) := by rw [hb]; exact d3
  obtain ⟨U, hsteps, hrun, hend, hW, hsame, ce, hce, hO⟩ := X₁.ctorThrow0 hexec htr (own := own) (cls := cls) (names := names) (ic := ic) hown' hcls hnames h (fun x hx => nomatch hx) hfX hkX hcellA (by rw [hhp, hT]; exact Nat.le_refl _)
    (g := { method := m, pc := pc + 4, locals := ls, stack := .ref T.heap.size :: .ref T.heap.size :: rest, locked := none }) rfl hsize rfl rfl (rest := rest) rfl
    (by rw [hb]; exact d4) (by rw [hb]; exact d7) hout hRframes (by simp only [List.map_cons, List.sum_cons, hcat]; omega) hlocks
  obtain ⟨f1, f2⟩ := vx_frame hsame
  rw [hhp] at f1 f2
  have hWs : s.WarmedH U.vm := State.WarmedH.trans hW0 hW
  have hcl : s.vm.findClass cls = some ce.cls := by
    have h9 := hO.cls
    rw [hvm] at h9
    exact h9
  have hall : s.sameButNew ({ U with vm := s.vm } : State) locs mc ms := by
    subst hA
    obtain ⟨e1, e2⟩ := hsame
    rw [State.setFrames_setFrames] at e1
    have h2 : (T.setVm s.vm).sameButNew ({ U with vm := s.vm } : State) [] (0 + 1) (0 + 6) := ⟨e1, e2⟩
    have h3 := X.same.trans h2
    rw [List.append_nil] at h3
    exact h3.mono hc hs
  refine ⟨U, ?_, .threw T.heap.size, hrun, hend, Or.inr ⟨T.heap.size, rfl, cls, ce, locs, hx U hWs.alike f1 (fun q hq => f2 q hq (fun z hz => nomatch hz)), hce, hO.vm, hcl, hWs, hall, hf⟩⟩
  refine st1 _ ?_
  show Steps p.tables e below (T1.setTop { method := m, pc := pc + 3, locals := ls, stack := .ref T.heap.size :: rest, locked := none }) _
  jvm_step X₁.here [X₁.here.top, hexec, d3', Value.category]
  exact hsteps
/-- 'throw new E("text")': new; dup; ldc; invokespecial; athrow -/
theorem vx_throwS {cc : ByteArray} {pc : Nat} (hexec : p.tables.exec = Jvm.exec) (hb : c.code = cc) (hl : l.stackTraces = false) {own cls text : String} {names : List String} {ik is ic mc ms sa : Nat} {A : Nat → Prop}
    (hown : s.vm.findClass own = some m.cls) (hcls : Bundle.fit cls = true) (hnames : ∀ n ∈ names, Bundle.fit n = true)
    (hk : (Cond.classLink own ik cls).before args s = true) (hini : (Cond.initialized cls).before args s = true) (hstr : vk_R own is text sa s) (hat : ∀ w ∈ vx_atS own ic cls names, w.before args s = true)
    (hgood : ∀ w ∈ Cond.classLink own ik cls :: Cond.initialized cls :: vx_atS own ic cls names, vx_ot w = true)
    (hU : vx_Zq Bundle.tN "UNASSIGNED_STACK" Bundle.steD A s s.heap) (hN : vx_Zq Bundle.tN "SUPPRESSED_SENTINEL" Bundle.listD A s s.heap) (hS : va_S A s.heap H locs) (hsize : ls.size = c.maxLocals)
    (d0 : decode cc pc = .ok (.new ik, 3)) (d3 : decode cc (pc + 3) = .ok (.dup, 1)) (d4 : decode cc (pc + 4) = .ok (.ldc is, 2)) (d6 : decode cc (pc + 6) = .ok (.invokespecial ic, 3)) (d9 : decode cc (pc + 9) = .ok (.athrow, 1))
    (hout : ∀ x ∈ c.exceptionTable.toList, covers x (pc + 9) = false)
    (hRframes : names.length + 3 < R.frames) (hRlocals : (rest.map fun v => v.category).sum + (13 * (names.length + 1) + 43) ≤ R.locals) (hRcells : cells + 1 ≤ R.cells) (hRslots : slots + 6 ≤ R.slots) (hlocks : meth.locks = false)
    (hx : ∀ t : State, s.vm.Alike t.vm → H.size ≤ t.heap.size → (∀ q : Nat, q < H.size → t.heap[q]? = H[q]?) → XC cls s t)
    (hf : ∀ z ∈ locs, free z.base) (hc : cells + 1 ≤ mc) (hs : slots + 6 ≤ ms) :
    W p l e R s m args below meth c H locs cells slots (vx_MQ below Qc XC args s mc ms free) (F0 m pc ls rest) := by
  intro T hT X
  have htr : e.platform.stackTraces = false := (show e.platform.stackTraces = l.stackTraces by rw [X.admits.platform]).trans hl
  have Y := vx_rebase X (R' := { frames := R.frames, locals := R.locals, cells := 1, slots := 6 }) (Nat.le_refl _) (Nat.le_refl _) hRcells hRslots
  obtain ⟨s', hA⟩ : ∃ z, z = (T.setVm s.vm).setFrames (.invoking m args :: below) := ⟨_, rfl⟩
  rw [← hA] at Y
  have hvm : s'.vm = s.vm := by rw [hA]; rfl
  have hhp : s'.heap = H := by rw [hA]; exact hT
  have hW0 : s.WarmedH s'.vm := by rw [hvm]; exact State.WarmedH.refl s
  have hat' : ∀ w ∈ vx_atS own ic cls names, w.before args s' = true := fun w hw => vx_ot_at hW0 hvm.symm (hgood w (List.mem_cons_of_mem _ (List.mem_cons_of_mem _ hw))) (hat w hw)
  have hk' : (Cond.classLink own ik cls).before args s' = true := vx_ot_at hW0 hvm.symm (hgood _ List.mem_cons_self) hk
  have hini' : (Cond.initialized cls).before args s' = true := vx_ot_at hW0 hvm.symm (hgood _ (List.mem_cons_of_mem _ List.mem_cons_self)) hini
  have hU' : vx_Zq Bundle.tN "UNASSIGNED_STACK" Bundle.steD A s' s'.heap := by rw [hhp]; exact vx_Zq.moved hW0.alike (hU.kept hS.2.1)
  have hN' : vx_Zq Bundle.tN "SUPPRESSED_SENTINEL" Bundle.listD A s' s'.heap := by rw [hhp]; exact vx_Zq.moved hW0.alike (hN.kept hS.2.1)
  have h : ∀ w ∈ Bundle.ownAtoms own ic cls names, w.before args s' = true := vx_own hat' (vx_isRefq hU'.1) (vx_isRefq hN'.1) hU'.2.word hN'.2.word
  have hown' : s'.vm.findClass own = some m.cls := by rw [hvm]; exact hown
  have hins : (Cond.instantiable cls 6).before args s' = true := h _ (by simp [Bundle.ownAtoms])
  obtain ⟨vm₁, cX, kX, hfX, hkX, -, -, X₁, st1⟩ := Y.newCold hexec (own := own) (C := cls) (index := ik) (n := 6) hown' hk' hins hini'
    (g := F0 m pc ls rest) rfl (by rw [hb]; exact d0) (Nat.le_refl _) (Nat.le_refl _)
  generalize hT1 : (T.setVm vm₁).pushCell { cls := cX, slots := kX.instanceTypes.map defaultValue, vm := .none } = T1 at X₁ st1
  have hcat : (Value.ref T.heap.size).category = 1 := rfl
  have hcellA : T1.heap[T.heap.size]? = some (freshCell cX kX) := by rw [← hT1]; exact State.heap_pushCell_size _ _
  have d3' : decode c.code (pc + 3) = .ok (.dup, 1) := by rw [hb]; exact d3
  have d4' : decode c.code (pc + 4) = .ok (.ldc is, 2) := by rw [hb]; exact d4
  have hstr' : vk_R own is text sa s' := vk_R.warm hW0 hstr
  obtain ⟨U, hsteps, hrun, hend, hW, hsame, ce, hce, hO⟩ := X₁.ctorThrowS hexec htr (own := own) (cls := cls) (names := names) (ic := ic) hown' hcls hnames h (fun x hx => nomatch hx) hfX hkX hcellA (by rw [hhp, hT]; exact Nat.le_refl _) (msg := .ref sa) rfl
    (g := { method := m, pc := pc + 6, locals := ls, stack := .ref sa :: .ref T.heap.size :: .ref T.heap.size :: rest, locked := none }) rfl hsize rfl rfl (rest := rest) rfl
    (by rw [hb]; exact d6) (by rw [hb]; exact d9) hout hRframes (by simp only [List.map_cons, List.sum_cons, hcat]; omega) hlocks
  obtain ⟨f1, f2⟩ := vx_frame hsame
  rw [hhp] at f1 f2
  have hWs : s.WarmedH U.vm := State.WarmedH.trans hW0 hW
  have hcl : s.vm.findClass cls = some ce.cls := by
    have h9 := hO.cls
    rw [hvm] at h9
    exact h9
  have hall : s.sameButNew ({ U with vm := s.vm } : State) locs mc ms := by
    subst hA
    obtain ⟨e1, e2⟩ := hsame
    rw [State.setFrames_setFrames] at e1
    have h2 : (T.setVm s.vm).sameButNew ({ U with vm := s.vm } : State) [] (0 + 1) (0 + 6) := ⟨e1, e2⟩
    have h3 := X.same.trans h2
    rw [List.append_nil] at h3
    exact h3.mono hc hs
  refine ⟨U, ?_, .threw T.heap.size, hrun, hend, Or.inr ⟨T.heap.size, rfl, cls, ce, locs, hx U hWs.alike f1 (fun q hq => f2 q hq (fun z hz => nomatch hz)), hce, hO.vm, hcl, hWs, hall, hf⟩⟩
  refine st1 _ ?_
  show Steps p.tables e below (T1.setTop { method := m, pc := pc + 3, locals := ls, stack := .ref T.heap.size :: rest, locked := none }) _
  jvm_step X₁.here [X₁.here.top, hexec, d3', Value.category]
  exact X₁.ldcString hexec (own := own) (text := text) (index := is) (a := sa) hown' hstr'.1 hstr'.2
    (g := { method := m, pc := pc + 4, locals := ls, stack := .ref T.heap.size :: .ref T.heap.size :: rest, locked := none }) rfl d4' _ hsteps
/-- 'throw new E("text")', the text by a wide index -/
theorem vx_throwSW {cc : ByteArray} {pc : Nat} (hexec : p.tables.exec = Jvm.exec) (hb : c.code = cc) (hl : l.stackTraces = false) {own cls text : String} {names : List String} {ik is ic mc ms sa : Nat} {A : Nat → Prop}
    (hown : s.vm.findClass own = some m.cls) (hcls : Bundle.fit cls = true) (hnames : ∀ n ∈ names, Bundle.fit n = true)
    (hk : (Cond.classLink own ik cls).before args s = true) (hini : (Cond.initialized cls).before args s = true) (hstr : vk_R own is text sa s) (hat : ∀ w ∈ vx_atS own ic cls names, w.before args s = true)
    (hgood : ∀ w ∈ Cond.classLink own ik cls :: Cond.initialized cls :: vx_atS own ic cls names, vx_ot w = true)
    (hU : vx_Zq Bundle.tN "UNASSIGNED_STACK" Bundle.steD A s s.heap) (hN : vx_Zq Bundle.tN "SUPPRESSED_SENTINEL" Bundle.listD A s s.heap) (hS : va_S A s.heap H locs) (hsize : ls.size = c.maxLocals)
    (d0 : decode cc pc = .ok (.new ik, 3)) (d3 : decode cc (pc + 3) = .ok (.dup, 1)) (d4 : decode cc (pc + 4) = .ok (.ldc_w is, 3)) (d7 : decode cc (pc + 7) = .ok (.invokespecial ic, 3)) (d10 : decode cc (pc + 10) = .ok (.athrow, 1))
    (hout : ∀ x ∈ c.exceptionTable.toList, covers x (pc + 10) = false)
    (hRframes : names.length + 3 < R.frames) (hRlocals : (rest.map fun v => v.category).sum + (13 * (names.length + 1) + 43) ≤ R.locals) (hRcells : cells + 1 ≤ R.cells) (hRslots : slots + 6 ≤ R.slots) (hlocks : meth.locks = false)
    (hx : ∀ t : State, s.vm.Alike t.vm → H.size ≤ t.heap.size → (∀ q : Nat, q < H.size → t.heap[q]? = H[q]?) → XC cls s t)
    (hf : ∀ z ∈ locs, free z.base) (hc : cells + 1 ≤ mc) (hs : slots + 6 ≤ ms) :
    W p l e R s m args below meth c H locs cells slots (vx_MQ below Qc XC args s mc ms free) (F0 m pc ls rest) := by
  intro T hT X
  have htr : e.platform.stackTraces = false := (show e.platform.stackTraces = l.stackTraces by rw [X.admits.platform]).trans hl
  have Y := vx_rebase X (R' := { frames := R.frames, locals := R.locals, cells := 1, slots := 6 }) (Nat.le_refl _) (Nat.le_refl _) hRcells hRslots
  obtain ⟨s', hA⟩ : ∃ z, z = (T.setVm s.vm).setFrames (.invoking m args :: below) := ⟨_, rfl⟩
  rw [← hA] at Y
  have hvm : s'.vm = s.vm := by rw [hA]; rfl
  have hhp : s'.heap = H := by rw [hA]; exact hT
  have hW0 : s.WarmedH s'.vm := by rw [hvm]; exact State.WarmedH.refl s
  have hat' : ∀ w ∈ vx_atS own ic cls names, w.before args s' = true := fun w hw => vx_ot_at hW0 hvm.symm (hgood w (List.mem_cons_of_mem _ (List.mem_cons_of_mem _ hw))) (hat w hw)
  have hk' : (Cond.classLink own ik cls).before args s' = true := vx_ot_at hW0 hvm.symm (hgood _ List.mem_cons_self) hk
  have hini' : (Cond.initialized cls).before args s' = true := vx_ot_at hW0 hvm.symm (hgood _ (List.mem_cons_of_mem _ List.mem_cons_self)) hini
  have hU' : vx_Zq Bundle.tN "UNASSIGNED_STACK" Bundle.steD A s' s'.heap := by rw [hhp]; exact vx_Zq.moved hW0.alike (hU.kept hS.2.1)
  have hN' : vx_Zq Bundle.tN "SUPPRESSED_SENTINEL" Bundle.listD A s' s'.heap := by rw [hhp]; exact vx_Zq.moved hW0.alike (hN.kept hS.2.1)
  have h : ∀ w ∈ Bundle.ownAtoms own ic cls names, w.before args s' = true := vx_own hat' (vx_isRefq hU'.1) (vx_isRefq hN'.1) hU'.2.word hN'.2.word
  have hown' : s'.vm.findClass own = some m.cls := by rw [hvm]; exact hown
  have hins : (Cond.instantiable cls 6).before args s' = true := h _ (by simp [Bundle.ownAtoms])
  obtain ⟨vm₁, cX, kX, hfX, hkX, -, -, X₁, st1⟩ := Y.newCold hexec (own := own) (C := cls) (index := ik) (n := 6) hown' hk' hins hini'
    (g := F0 m pc ls rest) rfl (by rw [hb]; exact d0) (Nat.le_refl _) (Nat.le_refl _)
  generalize hT1 : (T.setVm vm₁).pushCell { cls := cX, slots := kX.instanceTypes.map defaultValue, vm := .none } = T1 at X₁ st1
  have hcat : (Value.ref T.heap.size).category = 1 := rfl
  have hcellA : T1.heap[T.heap.size]? = some (freshCell cX kX) := by rw [← hT1]; exact State.heap_pushCell_size _ _
  have d3' : decode c.code (pc + 3) = .ok (.dup, 1) := by rw [hb]; exact d3
  have d4' : decode c.code (pc + 4) = .ok (.ldc_w is, 3) := by rw [hb]; exact d4
  have hstr' : vk_R own is text sa s' := vk_R.warm hW0 hstr
  obtain ⟨U, hsteps, hrun, hend, hW, hsame, ce, hce, hO⟩ := X₁.ctorThrowS hexec htr (own := own) (cls := cls) (names := names) (ic := ic) hown' hcls hnames h (fun x hx => nomatch hx) hfX hkX hcellA (by rw [hhp, hT]; exact Nat.le_refl _) (msg := .ref sa) rfl
    (g := { method := m, pc := pc + 7, locals := ls, stack := .ref sa :: .ref T.heap.size :: .ref T.heap.size :: rest, locked := none }) rfl hsize rfl rfl (rest := rest) rfl
    (by rw [hb]; exact d7) (by rw [hb]; exact d10) hout hRframes (by simp only [List.map_cons, List.sum_cons, hcat]; omega) hlocks
  obtain ⟨f1, f2⟩ := vx_frame hsame
  rw [hhp] at f1 f2
  have hWs : s.WarmedH U.vm := State.WarmedH.trans hW0 hW
  have hcl : s.vm.findClass cls = some ce.cls := by
    have h9 := hO.cls
    rw [hvm] at h9
    exact h9
  have hall : s.sameButNew ({ U with vm := s.vm } : State) locs mc ms := by
    subst hA
    obtain ⟨e1, e2⟩ := hsame
    rw [State.setFrames_setFrames] at e1
    have h2 : (T.setVm s.vm).sameButNew ({ U with vm := s.vm } : State) [] (0 + 1) (0 + 6) := ⟨e1, e2⟩
    have h3 := X.same.trans h2
    rw [List.append_nil] at h3
    exact h3.mono hc hs
  refine ⟨U, ?_, .threw T.heap.size, hrun, hend, Or.inr ⟨T.heap.size, rfl, cls, ce, locs, hx U hWs.alike f1 (fun q hq => f2 q hq (fun z hz => nomatch hz)), hce, hO.vm, hcl, hWs, hall, hf⟩⟩
  refine st1 _ ?_
  show Steps p.tables e below (T1.setTop { method := m, pc := pc + 3, locals := ls, stack := .ref T.heap.size :: rest, locked := none }) _
  jvm_step X₁.here [X₁.here.top, hexec, d3', Value.category]
  exact X₁.ldcStringW hexec (own := own) (text := text) (index := is) (a := sa) hown' hstr'.1 hstr'.2
    (g := { method := m, pc := pc + 4, locals := ls, stack := .ref T.heap.size :: .ref T.heap.size :: rest, locked := none }) rfl d4' _ hsteps
end Ends
section Bodies
variable {l : Launch}
theorem vx_ofW {y : MethodName} {ws ws' : List Cond} {rm : Room} {Pc : Array Value → State → Prop} {Qc : Array Value → State → Outcome → State → Prop} {XC : String → State → State → Prop} {mc ms : Nat} {free : Addr → Prop} {cc : ByteArray} {maxL : Nat} {ret : Option FieldType}
    (hy : plainName y.cls = true) (hw : ws = Cond.code y cc maxL ret :: ws')
    (body : ∀ p e s m args below meth c s₁, BodyLoose p l y (headSpec ws rm) cc maxL ret e s m args below meth c s₁ → c.maxLocals = maxL → (∀ x ∈ c.exceptionTable.toList, False) → Pc args s →
      W p l e (headSpec ws rm).room s m args below meth c s.heap [] 0 0 (vx_MQ below Qc XC args s mc ms free) (entryFrame m args maxL)) : vx_Met l y ws rm Pc Qc XC mc ms free := by
  refine MetFree.of_bodyS (code := cc) (maxLocals := maxL) (ret := ret) hy ?_ ?_
  · intro args s m h hn
    obtain ⟨meth, c, h1, h2, h3, h4, h5, h6, -, -⟩ := Cond.code_spec hn (atoms_spec (ws := ws) h _ (by rw [hw]; exact List.mem_cons_self))
    exact ⟨meth, c, h1, h2, h3, h4, h5, h6⟩
  · intro p e s m args below meth c s₁ B hml hP _
    have hh0 : s₁.heap = s.heap := by rw [B.state]; rfl
    have ht : ∀ x ∈ c.exceptionTable.toList, False := by
      obtain ⟨meth9, c9, h1, h2, -, -, -, -, h7, -⟩ := Cond.code_spec B.named (atoms_spec (ws := ws) B.pre _ (by rw [hw]; exact List.mem_cons_self))
      cases Option.some.inj (h1.symm.trans B.method)
      cases Option.some.inj (h2.symm.trans (Stand.of_body B).code)
      intro x hx
      rw [Array.isEmpty_iff.mp h7] at hx
      cases hx
    obtain ⟨t, a1, o, b1, b2, b3⟩ := body p e s m args below meth c s₁ B hml ht hP s₁ hh0 (Stand.of_body B)
    exact ⟨t, o, a1, b1, b2, b3⟩
/-- the table of a body with handlers -/
theorem vx_table {p : Program} {x y : MethodName} {S : Spec} {cc bytes : ByteArray} {maxL maxL' : Nat} {ret ret' : Option FieldType} {e : Env} {s s₁ : State} {m : MethodId} {args : Array Value} {below : List Frame} {meth : Method} {c : Code} {hh : List (Nat × Nat × Nat × Nat)}
    (B : BodyLoose p l y S cc maxL ret e s m args below meth c s₁) (h : (Cond.codeWith y bytes maxL' ret' hh).before args s = true) : c.exceptionTable.toList = tableOf hh := by
  obtain ⟨m9, meth9, c9, hn9, h1, h2, -, -, h6, -⟩ := Cond.codeWith_spec h
  cases Option.some.inj (hn9.symm.trans B.named)
  cases Option.some.inj (h1.symm.trans B.method)
  cases Option.some.inj (h2.symm.trans (Stand.of_body B).code)
  rw [← h6, table_eq]
end Bodies
end VXA
/-! ===== END ===== -/
/-! ===== BEGIN a static call of a method with an exception table ===== -/
section VXS
variable {p : Program} {l : Launch} {e : Env} {R : Room} {s : State} {m : MethodId} {args : Array Value} {below : List Frame} {meth : Method} {c : Code} {T : State} {H : Heap} {locs : List Loc} {cells slots : Nat}
abbrev vx_CSW (R : Room) (s : State) (args : Array Value) (own : String) (index : Nat) (y : MethodName) (bytes : ByteArray) (maxL : Nat) (ret : Option FieldType) (hh : List (Nat × Nat × Nat × Nat)) (ws : List Cond) (rm : Room) (mc ms n : Nat) : Prop :=
  (rm.cells = mc ∧ rm.slots = ms ∧ rm.frames + 1 ≤ R.frames ∧ 8 + (maxL + 11) + rm.locals ≤ R.locals ∧ (∀ w ∈ ws, ∀ (a' : Array Value) (U : State), s.WarmedH U.vm → w.before a' U = true) ∧ Cond.codeWith y bytes maxL ret hh ∈ ws) ∧
  (Cond.codeWith y bytes maxL ret hh).before args s = true ∧ (Cond.initialized y.cls).before args s = true ∧ (y.cls ≠ "java/lang/invoke/MethodHandle" ∧ y.cls ≠ "java/lang/invoke/VarHandle") ∧
  (∀ sig, parseMethodDescriptor y.desc = some sig → n = sig.parameters.length) ∧ (Cond.methodLink own index y).before args s = true ∧ (Cond.static y).before args s = true
theorem vx_cwSW {own : String} {index maxL mc ms : Nat} {y : MethodName} {bytes : ByteArray} {ret : Option FieldType} {hh : List (Nat × Nat × Nat × Nat)} {Ts ws ws' : List Cond} {rm : Room} (n : Nat) (ht : ∀ w ∈ Ts, w.before args s = true) (hT : GoodIn Ts (va_wsS own index y ws)) (hw : ws = Cond.codeWith y bytes maxL ret hh :: ws') (hrc : rm.cells = mc) (hrs : rm.slots = ms)
    (hd : y.cls ≠ "java/lang/invoke/MethodHandle" ∧ y.cls ≠ "java/lang/invoke/VarHandle" ∧ (parseMethodDescriptor y.desc).map (fun d => d.parameters.length) = some n) (hR : rm.frames + 1 ≤ R.frames ∧ 8 + (maxL + 11) + rm.locals ≤ R.locals) :
    vx_CSW R s args own index y bytes maxL ret hh ws rm mc ms n := by
  have ok : ∀ w ∈ va_wsS own index y ws, w.before args s = true := fun w h => ht w (hT w h).1
  have hG : GoodIn Ts ws := fun w h => hT w (by unfold va_wsS; exact List.mem_append_right _ h)
  have hc : Cond.codeWith y bytes maxL ret hh ∈ ws := by rw [hw]; exact List.mem_cons_self
  refine ⟨⟨hrc, hrs, hR.1, hR.2, pay_in ht hG, hc⟩, ht _ (hG _ hc).1, ok _ (by simp [va_wsS]), ⟨hd.1, hd.2.1⟩, fun sig h => ?_, ok _ (by simp [va_wsS]), ok _ (by simp [va_wsS])⟩
  have h2 := hd.2.2
  rw [h] at h2
  exact (Option.some.inj h2).symm
theorem vx_callSW (X : Stand p l e R s m args below meth c T locs cells slots) (hexec : p.tables.exec = Jvm.exec) {own : String} {index : Nat} {y : MethodName} {bytes : ByteArray} {maxL : Nat} {ret : Option FieldType} {hh : List (Nat × Nat × Nat × Nat)}
    (hown : s.vm.findClass own = some m.cls) (hlink : (Cond.methodLink own index y).before args s = true) (hstat : (Cond.static y).before args s = true) (hinit : (Cond.initialized y.cls).before args s = true)
    (hcode : (Cond.codeWith y bytes maxL ret hh).before args s = true) (hy : y.cls ≠ "java/lang/invoke/MethodHandle" ∧ y.cls ≠ "java/lang/invoke/VarHandle")
    {W9 : Nat} {Pre : Pt → Array Value → Prop} {Post : Pt → Array Value → Option Value → Pt → Prop} (hK : Back l R p e below s args y 3 W9 Pre Post)
    {g : JFrame} (hg : g.method = m) (hsize : g.locals.size = c.maxLocals) {argsL rest : List Value} (hlen : ∀ sig, parseMethodDescriptor y.desc = some sig → argsL.length = sig.parameters.length)
    (hstack : g.stack = argsL.reverse ++ rest) (hW : 2 * g.monitorRoom + (rest.map fun v => v.category).sum ≤ W9) (hdg : decode c.code g.pc = .ok (.invokestatic index, 3))
    (hpre : ∀ vm₁, s.WarmedH vm₁ → Pre ⟨T.setVm vm₁, locs, cells, slots⟩ argsL.toArray) :
    ∃ (v : Option Value) (vm₁ : Vm) (B : Pt), s.WarmedH vm₁ ∧ Stand p l e R s m args below meth c B.U B.locs B.cells B.slots ∧ Post ⟨T.setVm vm₁, locs, cells, slots⟩ argsL.toArray v B ∧
      ∀ target, Steps p.tables e below (B.U.setTop { g with pc := g.pc + 3, stack := v.toList ++ rest }) target → Steps p.tables e below (T.setTop g) target := by
  obtain ⟨mk, methM, cM, hnamed, hmethM, -, -, -, -, -, -, hsigM⟩ := Cond.codeWith_spec hcode
  have hstatic : methM.isStatic = true := Cond.static_spec hnamed hmethM hstat
  obtain ⟨kP, hkP, -⟩ := className_of_methodNamed hnamed
  have hinitP : kP.init = .initialized := Cond.initialized_spec (findClass_of_methodNamed hnamed) hkP hinit
  obtain ⟨vm₁, X₁, hstep₁⟩ := X.invokestatic hexec hown hlink hnamed hmethM hstatic hkP hinitP hy (g := g) hg (argsL := argsL) (rest := rest) (hlen _ hsigM) hstack hdg
  obtain ⟨v, B, X', hpost, hsteps⟩ := hK m meth c ⟨T.setVm vm₁, locs, cells, slots⟩ { g with stack := rest } (.invokestatic index) mk argsL.toArray X₁ hg hsize hdg hW (X₁.named hnamed) (hpre vm₁ X₁.warmed)
  exact ⟨v, vm₁, B, X₁.warmed, X', hpost, fun target h => hstep₁ _ fun acts => by rw [doInvoke_state]; exact hsteps.trans h⟩
theorem vx_runSW {y : MethodName} {bytes cc : ByteArray} {maxL nL mc ms n index : Nat} {ret : Option FieldType} {hh : List (Nat × Nat × Nat × Nat)} {ws : List Cond} {rm : Room} {Pc : Array Value → State → Prop} {Qc : Array Value → State → Outcome → State → Prop} {free : Addr → Prop} {Ts : List Cond} {own : String} {As rest : List Value} {g : JFrame}
    (S : CallFix p m c cc nL s args Ts own) (hM : Met l y ws rm Pc Qc mc ms free) (cw : vx_CSW R s args own index y bytes maxL ret hh ws rm mc ms n) (hp : PreS s H Pc As)
    (hg : g.method = m) (hn : As.length = n) (hsize : g.locals.size = nL) (hstack : g.stack = As.reverse ++ rest) (hW : 2 * g.monitorRoom + (rest.map fun v => v.category).sum ≤ 8) (hdg : decode cc g.pc = .ok (.invokestatic index, 3)) (hf : cells + mc ≤ R.cells ∧ slots + ms ≤ R.slots) :
    va_Run p l e R s m args below meth c H locs cells slots mc ms g rest (Qc As.toArray) (free) := by
  obtain ⟨⟨hrc, hrs, hfr, hlo, hws, hcw⟩, hcode, hini, hy, hlen, hl, hstt⟩ := cw
  have hK : Back l R p e below s args y 3 8 (PreOf R mc ms Pc) (PostOf Qc mc ms free) := va_backW (hh := hh) (bytes := bytes) (maxL := maxL) (ret := ret) hM hp.1 hrc hrs hfr hlo hws hcw (fun a' U hW => word_at hW (Or.inl (by first | rfl | simp [Cond.onTables, Cond.keeps, Cond.steady])) hini)
  obtain ⟨hx, hb, hml, ho, -⟩ := S
  intro T hT X
  obtain ⟨v, vm₁, ⟨U', l2, c2, s2⟩, hW₁, X', ⟨g', mk, t, L, e1, e2, hq, h1, hL, h2, h3⟩, st⟩ := vx_callSW X hx (hh := hh) (bytes := bytes) (maxL := maxL) (ret := ret) ho hl hstt hini hcode hy hK hg (hsize.trans hml.symm) (argsL := As) (rest := rest) (fun sig h => hn.trans (hlen sig h)) hstack hW (by rw [hb]; exact hdg)
    (fun vm₁ hW₁ => ⟨hf.1, hf.2, hp.2 (T.setVm vm₁) hT hW₁⟩)
  dsimp only [Pt.U, Pt.locs, Pt.cells, Pt.slots] at X' e1 e2 h1 h2 h3 st
  subst h1; subst h2; subst h3
  exact ⟨v, (T.setVm vm₁).calling g' mk As.toArray, t, U', L, hT, X', hL, e1, e2, hq, st⟩
/-- not caught here, past rows that name other classes: it goes on to the caller -/
theorem vx_outP {p : Program} {l : Launch} {e : Env} {R : Room} {s : State} {m : MethodId} {args : Array Value} {below : List Frame} {meth : Method} {c : Code} {H : Heap} {locs : List Loc} {cells slots : Nat} {free : Addr → Prop} {ls : Array Slot} {rest : List Value} {Qc : Array Value → State → Outcome → State → Prop} {XC : String → State → State → Prop}
    {pc : Nat} {own E : String} {ce : Cell} {q : Addr} {mc ms : Nat} (hown : s.vm.findClass own = some m.cls) (hlocks : meth.locks = false)
    (hpass : ∀ z ∈ c.exceptionTable.toList, covers z pc = false ∨ (z.catchType ≠ 0 ∧ ∃ nm : String, (Cond.classLink own z.catchType nm).before args s = true ∧ va_Nc E nm s)) (hcell : H[q]? = some ce) (hv : ce.vm = .none) (hcl : s.vm.findClass E = some ce.cls)
    (hx : ∀ t : State, t.heap = H → s.vm.Alike t.vm → XC E s t) (hf : ∀ z ∈ locs, free z.base) (hc : cells ≤ mc) (hs : slots ≤ ms) :
    vx_W p l e R s m args below meth c H locs cells slots (vx_MQ below Qc XC args s mc ms free) (F0 m pc ls rest) q := by
  intro T hT X
  have hpl : e.platform.magicAccessors = ({} : Platform).magicAccessors := by rw [X.admits.platform]
  obtain ⟨vm', hW', X', st⟩ := X.outThrough hlocks q (g := F0 m pc ls rest) rfl rfl rfl (cell := ce) (by rw [hT]; exact hcell) (by rw [hv]; rfl)
    (by obtain ⟨k9, h9, -⟩ := Vm.findClass_spec hcl; exact ⟨k9, h9⟩) (fun z hz => by
      rcases hpass z hz with h | ⟨hz0, nm, hl1, hn1⟩
      · exact Or.inl h
      · obtain ⟨c6, hc6, hcl6⟩ := Cond.classLink_spec hown hl1 e.platform hpl
        obtain ⟨a8, b8, h1, h2, h3⟩ := hn1
        cases Option.some.inj (h1.symm.trans hcl)
        cases Option.some.inj (h2.symm.trans hc6)
        exact Or.inr ⟨hz0, _, hcl6, h3⟩)
  obtain ⟨g₀, hfr⟩ := X'.frames_eq
  have hcell9 : ((T.setVm vm').setFrames (.throwing q :: below)).heap[q]? = some ce := by
    show T.heap[q]? = some ce
    rw [hT]; exact hcell
  have hend : Ended ((T.setVm vm').setFrames (.throwing q :: below)) below (.threw q) := State.frames_setFrames _ (State.cur_lt_of_frames hfr)
  refine ⟨(T.setVm vm').setFrames (.throwing q :: below), ?_, .threw q, X'.here.running, hend, Or.inr ⟨q, rfl, E, ce, locs, hx _ hT (X'.ends _).1.alike, hcell9, hv, hcl, (X'.ends _).1, (X'.ends _).2.mono hc hs, hf⟩⟩
  rw [X.pushThrowing_eq]
  exact st
/-- a thing of a world lies in the heap -/
theorem vx_lt {D : va_G} {cl : List vw_C} {ws : va_W} {H1 : Heap} (h : va_P D cl ws H1) {k : Nat} {q : Nat × va_E} (hk : ws[k]? = some q) : q.1 < H1.size := (h k q hk).lt
end VXS
/-! ===== END ===== -/
/-! ===== BEGIN methods with a table of their own: called by a name, returning or throwing ===== -/
section VXH
/-! vx_backW, vx_callVX, vx_callSX, vx_callVW, vx_runVW, vx_runVX, vx_runSX, vx_ofWH follow the same proofs as their sisters above (Free/Laws.lean, Shelf42/LK1.lean); vx_outP calls Shelf42/NT130.lean (outThrough). -/
section
variable {l : Launch} {R : Room} {p : Program} {e : Env} {below : List Frame} {s : State} {sargs : Array Value} {y : MethodName} {len W9 : Nat}
theorem vx_backW {ws : List Cond} {rm : Room} {Pc : Array Value → State → Prop} {Qc : Array Value → State → Outcome → State → Prop} {XC : String → State → State → Prop} {mc ms : Nat} {free : Addr → Prop} {bytes : ByteArray} {maxL : Nat} {ret : Option FieldType} {hh : List (Nat × Nat × Nat × Nat)}
    (hM : vx_Met l y ws rm Pc Qc XC mc ms free) (hblind : FrameBlind Pc) (hrc : rm.cells = mc) (hrs : rm.slots = ms)
    (hframes : rm.frames + 1 ≤ R.frames) (hlocals : W9 + (maxL + 11) + rm.locals ≤ R.locals)
    (hws : ∀ w ∈ ws, ∀ a' U, s.WarmedH U.vm → w.before a' U = true) (hcode : Cond.codeWith y bytes maxL ret hh ∈ ws) (hinit : ∀ a' U, s.WarmedH U.vm → (Cond.initialized y.cls).before a' U = true) :
    vx_Back l R p e below s sargs y len W9 (PreOf R mc ms Pc) (PostOf Qc mc ms free) (vx_Post XC mc ms free) := by
  intro m meth c A g ig mk a X hg hsize hdg hW hn hp
  have h1 : (headSpec ws rm).pre.before a A.U = true := atoms_intro fun w hw => hws w hw _ _ X.warmed
  have h2 : (Cond.codeWith y bytes maxL ret hh).before a A.U = true := hws _ hcode _ _ X.warmed
  have h3 : (Cond.initialized y.cls).before a A.U = true := hinit _ _ X.warmed
  have h4 : A.cells + (headSpec ws rm).room.cells ≤ R.cells := by rw [show (headSpec ws rm).room.cells = mc from hrc]; exact hp.1
  have h5 : A.slots + (headSpec ws rm).room.slots ≤ R.slots := by rw [show (headSpec ws rm).room.slots = ms from hrs]; exact hp.2.1
  have hPc : Pc a (A.U.calling g mk a) := hblind _ _ _ _ hp.2.2
  obtain ⟨U, Ls, c0, s0⟩ := A
  dsimp only [Pt.U, Pt.locs, Pt.cells, Pt.slots] at h1 h2 h3 h4 h5 X hn hPc ⊢
  obtain ⟨m9, methY, cY, hn9, hmY, hcY, -, hlY, -⟩ := Cond.codeWith_spec h2
  cases Option.some.inj (hn9.symm.trans hn)
  obtain ⟨kY, hkY, -⟩ := className_of_methodNamed hn
  have hinitY : kY.init = .initialized := Cond.initialized_spec (findClass_of_methodNamed hn) hkY h3
  have h : At U g.method c below := by rw [hg]; exact X.here
  have hlocals9 : W9 + (maxL + 11) + (headSpec ws rm).room.locals ≤ R.locals := hlocals
  have happ : (headSpec ws rm).appliesLoose y e.platform (U.calling g mk a) = true :=
    Spec.appliesLoose_calling (g := g) h hdg hn hkY hinitY
      (X.room_calling (g := g) (R' := (headSpec ws rm).room) hsize hmY hcY hframes (by rw [hlY]; omega) h4 h5) h1
  obtain ⟨mid, hmid⟩ := h.above
  have hfr : (U.setTop g).frames = (.java g :: mid) ++ below := by rw [State.frames_setTop' g h.top, hmid]; rfl
  obtain ⟨o, s₂, hsteps, -, hend, hq⟩ := Steps.callFree hM p X.admits X.cas X.clock (acts := []) hfr happ hPc trivial
  have hq' : vx_Q Qc XC mc ms free a (U.calling g mk a) o s₂ := hq
  rw [State.frames_setTop' g h.top] at hend
  obtain ⟨g₀, hg0⟩ := Option.isSome_iff_exists.mp h.top
  obtain ⟨r, hr⟩ := State.topJava?_eq_some.mp hg0
  have hr' : (({ U with heap := s₂.heap, slotsUsed := s₂.slotsUsed } : State).setVm s₂.vm).frames = .java g₀ :: r := hr
  rcases hq' with ⟨hqc, L, hfe, hL⟩ | ⟨q, rfl, E, ce, L, hx, hce, hcv, hcl, hW₂, hsm, hL⟩
  · obtain ⟨⟨v, rfl⟩, hW₂, e2, q2, q3, q4, q5, q6⟩ := id hfe
    have e3 : s₂ = ({ (U.calling g mk a).setFrames s₂.frames with heap := s₂.heap, slotsUsed := s₂.slotsUsed } : State).setVm s₂.vm := by
      have : s₂ = ({ s₂ with vm := (U.calling g mk a).vm } : State).setVm s₂.vm := rfl
      rw [e2] at this
      exact this
    obtain ⟨c₂, i₂, len₂, hc₂, hd₂, hf₂⟩ := hend
    have hW' : U.WarmedH s₂.vm := hW₂
    have hcc : c₂ = c := by
      have h1 : s₂.code? g.method = U.code? g.method := by
        rw [State.code?_eq, State.code?_eq, hW'.alike.method?]
      exact Option.some.inj (hc₂.symm.trans (h1.trans h.code))
    subst hcc
    have hlen : len₂ = len := by rw [hdg] at hd₂; cases hd₂; rfl
    subst hlen
    have hs₂ : s₂ = (({ U with heap := s₂.heap, slotsUsed := s₂.slotsUsed } : State).setVm s₂.vm).setTop { g with pc := g.pc + len₂, stack := v.toList ++ g.stack } := by
      refine e3.trans ?_
      rw [hf₂, State.calling_eq h.top, State.setFrames_setFrames, State.setTop_of_frames _ hr', hr]
      rfl
    have hsame : U.sameButNew ({ U with heap := s₂.heap, slotsUsed := s₂.slotsUsed } : State) L mc ms := by
      refine ⟨?_, q2, q3, q4, q5, q6⟩
      obtain ⟨t, ht, -⟩ := State.frames_cons hr
      show ({ U with heap := s₂.heap, slotsUsed := s₂.slotsUsed } : State) = { U.setFrames U.frames with heap := s₂.heap, slotsUsed := s₂.slotsUsed }
      rw [State.setFrames_self ht]
    subst hg
    refine Or.inl ⟨v, ⟨(({ U with heap := s₂.heap, slotsUsed := s₂.slotsUsed } : State).setVm s₂.vm), Ls ++ L, c0 + mc, s0 + ms⟩,
      ⟨X.admits, X.cas, X.clock, X.frames, X.room, X.hears, X.method, X.code, (X.here.setHeapUsed s₂.heap s₂.slotsUsed).setVm hW'.alike, X.tail, State.WarmedH.trans X.warmed hW', X.limits, X.bytes, X.same.trans (hsame.setVm s.vm)⟩,
      ⟨g, mk, s₂, L, rfl, rfl, hqc, rfl, hL, rfl, rfl⟩, ?_⟩
    show Steps p.tables e below _ ((({ U with heap := s₂.heap, slotsUsed := s₂.slotsUsed } : State).setVm s₂.vm).setTop { g with pc := g.pc + len₂, stack := v.toList ++ g.stack })
    rw [← hs₂]
    exact hsteps
  · obtain ⟨e2, q2, q3, q4, q5, q6⟩ := id hsm
    have e3 : s₂ = ({ (U.calling g mk a).setFrames s₂.frames with heap := s₂.heap, slotsUsed := s₂.slotsUsed } : State).setVm s₂.vm := by
      have : s₂ = ({ s₂ with vm := (U.calling g mk a).vm } : State).setVm s₂.vm := rfl
      rw [e2] at this
      exact this
    have hf₂ : s₂.frames = .throwing q :: .java g :: U.frames.tail := hend
    have hW' : U.WarmedH s₂.vm := hW₂
    have hs₂ : s₂ = ((({ U with heap := s₂.heap, slotsUsed := s₂.slotsUsed } : State).setVm s₂.vm).setTop g).pushFrame (.throwing q) := by
      refine e3.trans ?_
      rw [hf₂, State.calling_eq h.top, State.setFrames_setFrames, State.pushFrame, State.frames_setTop _ hr', State.setTop_of_frames _ hr', State.setFrames_setFrames, hr]
      rfl
    have hsame : U.sameButNew ({ U with heap := s₂.heap, slotsUsed := s₂.slotsUsed } : State) L mc ms := by
      refine ⟨?_, q2, q3, q4, q5, q6⟩
      obtain ⟨t, ht, -⟩ := State.frames_cons hr
      show ({ U with heap := s₂.heap, slotsUsed := s₂.slotsUsed } : State) = { U.setFrames U.frames with heap := s₂.heap, slotsUsed := s₂.slotsUsed }
      rw [State.setFrames_self ht]
    subst hg
    refine Or.inr ⟨q, ⟨(({ U with heap := s₂.heap, slotsUsed := s₂.slotsUsed } : State).setVm s₂.vm), Ls ++ L, c0 + mc, s0 + ms⟩,
      ⟨X.admits, X.cas, X.clock, X.frames, X.room, X.hears, X.method, X.code, (X.here.setHeapUsed s₂.heap s₂.slotsUsed).setVm hW'.alike, X.tail, State.WarmedH.trans X.warmed hW', X.limits, X.bytes, X.same.trans (hsame.setVm s.vm)⟩,
      ⟨g, mk, s₂, L, E, ce, rfl, rfl, hx, hce, hcv, hcl, rfl, hL, rfl, rfl⟩, ?_⟩
    show Steps p.tables e below _ (((({ U with heap := s₂.heap, slotsUsed := s₂.slotsUsed } : State).setVm s₂.vm).setTop g).pushFrame (.throwing q))
    rw [← hs₂]
    exact hsteps
end
variable {p : Program} {l : Launch} {e : Env} {R : Room} {s : State} {m : MethodId} {args : Array Value} {below : List Frame} {meth : Method} {c : Code} {T : State} {H : Heap} {locs : List Loc} {cells slots : Nat}
theorem vx_callVX (X : Stand p l e R s m args below meth c T locs cells slots) (hexec : p.tables.exec = Jvm.exec) {own C : String} {index : Nat} {y : MethodName} {bytes : ByteArray} {maxL : Nat} {ret : Option FieldType} {hh : List (Nat × Nat × Nat × Nat)}
    (hown : s.vm.findClass own = some m.cls) (hlink : (Cond.methodLink own index y).before args s = true) (hinst : (Cond.instanceMethod y).before args s = true) (hsel : (Cond.selects C y y).before args s = true)
    (hcode : (Cond.codeWith y bytes maxL ret hh).before args s = true) (hy : y.cls ≠ "java/lang/invoke/MethodHandle" ∧ y.cls ≠ "java/lang/invoke/VarHandle")
    {W9 : Nat} {Pre : Pt → Array Value → Prop} {Post : Pt → Array Value → Option Value → Pt → Prop} {PostX : Pt → Array Value → Addr → Pt → Prop} (hK : vx_Back l R p e below s args y 3 W9 Pre Post PostX)
    {b : Addr} {cellB : Cell} (hcell : T.heap[b]? = some cellB) (hobj : cellB.vm.isStatics = false) (hcls : s.vm.findClass C = some cellB.cls)
    {g : JFrame} (hg : g.method = m) (hsize : g.locals.size = c.maxLocals) {argsL rest : List Value} (hlen : ∀ sig, parseMethodDescriptor y.desc = some sig → argsL.length = sig.parameters.length)
    (hstack : g.stack = argsL.reverse ++ .ref b :: rest) (hW : 2 * g.monitorRoom + (rest.map fun v => v.category).sum ≤ W9) (hdg : decode c.code g.pc = .ok (.invokevirtual index, 3))
    (hpre : ∀ vm₁, s.WarmedH vm₁ → Pre ⟨T.setVm vm₁, locs, cells, slots⟩ (Value.ref b :: argsL).toArray) :
    (∃ (v : Option Value) (vm₁ : Vm) (B : Pt), s.WarmedH vm₁ ∧ Stand p l e R s m args below meth c B.U B.locs B.cells B.slots ∧ Post ⟨T.setVm vm₁, locs, cells, slots⟩ (Value.ref b :: argsL).toArray v B ∧
      ∀ target, Steps p.tables e below (B.U.setTop { g with pc := g.pc + 3, stack := v.toList ++ rest }) target → Steps p.tables e below (T.setTop g) target) ∨
    (∃ (q : Addr) (vm₁ : Vm) (B : Pt), s.WarmedH vm₁ ∧ Stand p l e R s m args below meth c B.U B.locs B.cells B.slots ∧ PostX ⟨T.setVm vm₁, locs, cells, slots⟩ (Value.ref b :: argsL).toArray q B ∧
      Steps p.tables e below (T.setTop g) ((B.U.setTop { g with stack := rest }).pushFrame (.throwing q))) := by
  obtain ⟨mk, methM, hnamed, hmethM, hstM, habM⟩ := Cond.instanceMethod_spec hinst
  obtain ⟨m8, methM', cM, hn8, hmethM', -, -, -, -, -, -, hsigM⟩ := Cond.codeWith_spec hcode
  cases Option.some.inj (hn8.symm.trans hnamed)
  cases hmethM.symm.trans hmethM'
  obtain ⟨c2, r2, m2, q1, q2, q3, q4, kP, hkP, hkPi⟩ := Cond.selects_spec hsel
  cases hcls.symm.trans q1
  cases (State.methodFound?_of_named hnamed hy).symm.trans q2
  cases hnamed.symm.trans q3
  have hselP : selectMethod e.platform s.vm cellB.cls mk = .method mk := by rw [Launch.admits_selectMethod X.admits]; exact q4
  obtain ⟨vm₁, X₁, hstep₁⟩ := X.invokevirtual hexec hown hlink hnamed hmethM hstM hkP hkPi hy (a := b) (cell := cellB) hcell
    (fun z h => by rw [h] at hobj; cases hobj) hselP hmethM habM hkP hkPi (g := g) hg (argsL := argsL) (rest := rest) (hlen _ hsigM) hstack hdg
  rcases hK m meth c ⟨T.setVm vm₁, locs, cells, slots⟩ { g with stack := rest } (.invokevirtual index) mk (Value.ref b :: argsL).toArray X₁ hg hsize hdg hW (X₁.named hnamed) (hpre vm₁ X₁.warmed) with ⟨v, B, X', hpost, hsteps⟩ | ⟨q, B, X', hpost, hsteps⟩
  · exact Or.inl ⟨v, vm₁, B, X₁.warmed, X', hpost, fun target h => hstep₁ _ fun acts => by rw [doInvoke_state]; exact hsteps.trans h⟩
  · exact Or.inr ⟨q, vm₁, B, X₁.warmed, X', hpost, hstep₁ _ fun acts => by rw [doInvoke_state]; exact hsteps⟩
theorem vx_callSX (X : Stand p l e R s m args below meth c T locs cells slots) (hexec : p.tables.exec = Jvm.exec) {own : String} {index : Nat} {y : MethodName} {bytes : ByteArray} {maxL : Nat} {ret : Option FieldType} {hh : List (Nat × Nat × Nat × Nat)}
    (hown : s.vm.findClass own = some m.cls) (hlink : (Cond.methodLink own index y).before args s = true) (hstat : (Cond.static y).before args s = true) (hinit : (Cond.initialized y.cls).before args s = true)
    (hcode : (Cond.codeWith y bytes maxL ret hh).before args s = true) (hy : y.cls ≠ "java/lang/invoke/MethodHandle" ∧ y.cls ≠ "java/lang/invoke/VarHandle")
    {W9 : Nat} {Pre : Pt → Array Value → Prop} {Post : Pt → Array Value → Option Value → Pt → Prop} {PostX : Pt → Array Value → Addr → Pt → Prop} (hK : vx_Back l R p e below s args y 3 W9 Pre Post PostX)
    {g : JFrame} (hg : g.method = m) (hsize : g.locals.size = c.maxLocals) {argsL rest : List Value} (hlen : ∀ sig, parseMethodDescriptor y.desc = some sig → argsL.length = sig.parameters.length)
    (hstack : g.stack = argsL.reverse ++ rest) (hW : 2 * g.monitorRoom + (rest.map fun v => v.category).sum ≤ W9) (hdg : decode c.code g.pc = .ok (.invokestatic index, 3))
    (hpre : ∀ vm₁, s.WarmedH vm₁ → Pre ⟨T.setVm vm₁, locs, cells, slots⟩ argsL.toArray) :
    (∃ (v : Option Value) (vm₁ : Vm) (B : Pt), s.WarmedH vm₁ ∧ Stand p l e R s m args below meth c B.U B.locs B.cells B.slots ∧ Post ⟨T.setVm vm₁, locs, cells, slots⟩ argsL.toArray v B ∧
      ∀ target, Steps p.tables e below (B.U.setTop { g with pc := g.pc + 3, stack := v.toList ++ rest }) target → Steps p.tables e below (T.setTop g) target) ∨
    (∃ (q : Addr) (vm₁ : Vm) (B : Pt), s.WarmedH vm₁ ∧ Stand p l e R s m args below meth c B.U B.locs B.cells B.slots ∧ PostX ⟨T.setVm vm₁, locs, cells, slots⟩ argsL.toArray q B ∧
      Steps p.tables e below (T.setTop g) ((B.U.setTop { g with stack := rest }).pushFrame (.throwing q))) := by
  obtain ⟨mk, methM, cM, hnamed, hmethM, -, -, -, -, -, -, hsigM⟩ := Cond.codeWith_spec hcode
  have hstatic : methM.isStatic = true := Cond.static_spec hnamed hmethM hstat
  obtain ⟨kP, hkP, -⟩ := className_of_methodNamed hnamed
  have hinitP : kP.init = .initialized := Cond.initialized_spec (findClass_of_methodNamed hnamed) hkP hinit
  obtain ⟨vm₁, X₁, hstep₁⟩ := X.invokestatic hexec hown hlink hnamed hmethM hstatic hkP hinitP hy (g := g) hg (argsL := argsL) (rest := rest) (hlen _ hsigM) hstack hdg
  rcases hK m meth c ⟨T.setVm vm₁, locs, cells, slots⟩ { g with stack := rest } (.invokestatic index) mk argsL.toArray X₁ hg hsize hdg hW (X₁.named hnamed) (hpre vm₁ X₁.warmed) with ⟨v, B, X', hpost, hsteps⟩ | ⟨q, B, X', hpost, hsteps⟩
  · exact Or.inl ⟨v, vm₁, B, X₁.warmed, X', hpost, fun target h => hstep₁ _ fun acts => by rw [doInvoke_state]; exact hsteps.trans h⟩
  · exact Or.inr ⟨q, vm₁, B, X₁.warmed, X', hpost, hstep₁ _ fun acts => by rw [doInvoke_state]; exact hsteps⟩
theorem vx_callVW (X : Stand p l e R s m args below meth c T locs cells slots) (hexec : p.tables.exec = Jvm.exec) {own C : String} {index : Nat} {y : MethodName} {bytes : ByteArray} {maxL : Nat} {ret : Option FieldType} {hh : List (Nat × Nat × Nat × Nat)}
    (hown : s.vm.findClass own = some m.cls) (hlink : (Cond.methodLink own index y).before args s = true) (hinst : (Cond.instanceMethod y).before args s = true) (hsel : (Cond.selects C y y).before args s = true)
    (hcode : (Cond.codeWith y bytes maxL ret hh).before args s = true) (hy : y.cls ≠ "java/lang/invoke/MethodHandle" ∧ y.cls ≠ "java/lang/invoke/VarHandle")
    {W9 : Nat} {Pre : Pt → Array Value → Prop} {Post : Pt → Array Value → Option Value → Pt → Prop} (hK : Back l R p e below s args y 3 W9 Pre Post)
    {b : Addr} {cellB : Cell} (hcell : T.heap[b]? = some cellB) (hobj : cellB.vm.isStatics = false) (hcls : s.vm.findClass C = some cellB.cls)
    {g : JFrame} (hg : g.method = m) (hsize : g.locals.size = c.maxLocals) {argsL rest : List Value} (hlen : ∀ sig, parseMethodDescriptor y.desc = some sig → argsL.length = sig.parameters.length)
    (hstack : g.stack = argsL.reverse ++ .ref b :: rest) (hW : 2 * g.monitorRoom + (rest.map fun v => v.category).sum ≤ W9) (hdg : decode c.code g.pc = .ok (.invokevirtual index, 3))
    (hpre : ∀ vm₁, s.WarmedH vm₁ → Pre ⟨T.setVm vm₁, locs, cells, slots⟩ (Value.ref b :: argsL).toArray) :
    ∃ (v : Option Value) (vm₁ : Vm) (B : Pt), s.WarmedH vm₁ ∧ Stand p l e R s m args below meth c B.U B.locs B.cells B.slots ∧ Post ⟨T.setVm vm₁, locs, cells, slots⟩ (Value.ref b :: argsL).toArray v B ∧
      ∀ target, Steps p.tables e below (B.U.setTop { g with pc := g.pc + 3, stack := v.toList ++ rest }) target → Steps p.tables e below (T.setTop g) target := by
  obtain ⟨mk, methM, hnamed, hmethM, hstM, habM⟩ := Cond.instanceMethod_spec hinst
  obtain ⟨m8, methM', cM, hn8, hmethM', -, -, -, -, -, -, hsigM⟩ := Cond.codeWith_spec hcode
  cases Option.some.inj (hn8.symm.trans hnamed)
  cases hmethM.symm.trans hmethM'
  obtain ⟨c2, r2, m2, q1, q2, q3, q4, kP, hkP, hkPi⟩ := Cond.selects_spec hsel
  cases hcls.symm.trans q1
  cases (State.methodFound?_of_named hnamed hy).symm.trans q2
  cases hnamed.symm.trans q3
  have hselP : selectMethod e.platform s.vm cellB.cls mk = .method mk := by rw [Launch.admits_selectMethod X.admits]; exact q4
  obtain ⟨vm₁, X₁, hstep₁⟩ := X.invokevirtual hexec hown hlink hnamed hmethM hstM hkP hkPi hy (a := b) (cell := cellB) hcell
    (fun z h => by rw [h] at hobj; cases hobj) hselP hmethM habM hkP hkPi (g := g) hg (argsL := argsL) (rest := rest) (hlen _ hsigM) hstack hdg
  obtain ⟨v, B, X', hpost, hsteps⟩ := hK m meth c ⟨T.setVm vm₁, locs, cells, slots⟩ { g with stack := rest } (.invokevirtual index) mk (Value.ref b :: argsL).toArray X₁ hg hsize hdg hW (X₁.named hnamed) (hpre vm₁ X₁.warmed)
  exact ⟨v, vm₁, B, X₁.warmed, X', hpost, fun target h => hstep₁ _ fun acts => by rw [doInvoke_state]; exact hsteps.trans h⟩
abbrev vx_CVW (R : Room) (s : State) (args : Array Value) (own C : String) (index : Nat) (y : MethodName) (bytes : ByteArray) (maxL : Nat) (ret : Option FieldType) (hh : List (Nat × Nat × Nat × Nat)) (ws : List Cond) (rm : Room) (mc ms n : Nat) : Prop :=
  (rm.cells = mc ∧ rm.slots = ms ∧ rm.frames + 1 ≤ R.frames ∧ 8 + (maxL + 11) + rm.locals ≤ R.locals ∧ (∀ w ∈ ws, ∀ (a' : Array Value) (U : State), s.WarmedH U.vm → w.before a' U = true) ∧ Cond.codeWith y bytes maxL ret hh ∈ ws) ∧
  (Cond.codeWith y bytes maxL ret hh).before args s = true ∧ (Cond.initialized y.cls).before args s = true ∧ (y.cls ≠ "java/lang/invoke/MethodHandle" ∧ y.cls ≠ "java/lang/invoke/VarHandle") ∧
  (∀ sig, parseMethodDescriptor y.desc = some sig → n = sig.parameters.length) ∧ (Cond.methodLink own index y).before args s = true ∧ (Cond.instanceMethod y).before args s = true ∧ (Cond.selects C y y).before args s = true
theorem vx_cwVW {own C : String} {index maxL mc ms : Nat} {y : MethodName} {bytes : ByteArray} {ret : Option FieldType} {hh : List (Nat × Nat × Nat × Nat)} {Ts ws ws' : List Cond} {rm : Room} (n : Nat) (ht : ∀ w ∈ Ts, w.before args s = true) (hT : GoodIn Ts (wsV own index C y ws)) (hw : ws = Cond.codeWith y bytes maxL ret hh :: ws') (hrc : rm.cells = mc) (hrs : rm.slots = ms)
    (hd : y.cls = C ∧ y.cls ≠ "java/lang/invoke/MethodHandle" ∧ y.cls ≠ "java/lang/invoke/VarHandle" ∧ (parseMethodDescriptor y.desc).map (fun d => d.parameters.length) = some n) (hR : rm.frames + 1 ≤ R.frames ∧ 8 + (maxL + 11) + rm.locals ≤ R.locals) :
    vx_CVW R s args own C index y bytes maxL ret hh ws rm mc ms n := by
  obtain ⟨hC, hd⟩ := hd
  subst hC
  have ok : ∀ w ∈ wsV own index y.cls y ws, w.before args s = true := fun w h => ht w (hT w h).1
  have hG : GoodIn Ts ws := fun w h => hT w (by unfold wsV; exact List.mem_append_right _ h)
  have hc : Cond.codeWith y bytes maxL ret hh ∈ ws := by rw [hw]; exact List.mem_cons_self
  refine ⟨⟨hrc, hrs, hR.1, hR.2, pay_in ht hG, hc⟩, ht _ (hG _ hc).1, ok _ (by simp [wsV]), ⟨hd.1, hd.2.1⟩, fun sig h => ?_, ok _ (by simp [wsV]), ok _ (by simp [wsV]), ok _ (by simp [wsV])⟩
  have h2 := hd.2.2
  rw [h] at h2
  exact (Option.some.inj h2).symm
theorem vx_runVW {y : MethodName} {bytes cc : ByteArray} {maxL nL mc ms n index : Nat} {ret : Option FieldType} {hh : List (Nat × Nat × Nat × Nat)} {ws : List Cond} {rm : Room} {Pc : Array Value → State → Prop} {Qc : Array Value → State → Outcome → State → Prop} {free : Addr → Prop} {Ts : List Cond} {own C : String} {b : Addr} {As rest : List Value} {g : JFrame}
    (S : CallFix p m c cc nL s args Ts own) (hM : Met l y ws rm Pc Qc mc ms free) (cw : vx_CVW R s args own C index y bytes maxL ret hh ws rm mc ms n) (hp : PreV s H C b Pc As)
    (hg : g.method = m) (hn : As.length = n) (hsize : g.locals.size = nL) (hstack : g.stack = As.reverse ++ .ref b :: rest) (hW : 2 * g.monitorRoom + (rest.map fun v => v.category).sum ≤ 8) (hdg : decode cc g.pc = .ok (.invokevirtual index, 3)) (hf : cells + mc ≤ R.cells ∧ slots + ms ≤ R.slots) :
    va_Run p l e R s m args below meth c H locs cells slots mc ms g rest (Qc (Value.ref b :: As).toArray) free := by
  obtain ⟨⟨hrc, hrs, hfr, hlo, hws, hcw⟩, hcode, hini, hy, hlen, hl, hin, hse⟩ := cw
  have hK : Back l R p e below s args y 3 8 (PreOf R mc ms Pc) (PostOf Qc mc ms free) := va_backW (hh := hh) (bytes := bytes) (maxL := maxL) (ret := ret) hM hp.1 hrc hrs hfr hlo hws hcw (fun a' U hW => word_at hW (Or.inl (by first | rfl | simp [Cond.onTables, Cond.keeps, Cond.steady])) hini)
  obtain ⟨hx, hb, hml, ho, -⟩ := S
  obtain ⟨-, ⟨cellB, hcB, hoB, hclB⟩, hPc⟩ := hp
  intro T hT X
  obtain ⟨v, vm₁, ⟨U', l2, c2, s2⟩, hW₁, X', ⟨g', mk, t, L, e1, e2, hq, h1, hL, h2, h3⟩, st⟩ := vx_callVW X hx (C := C) (hh := hh) (bytes := bytes) (maxL := maxL) (ret := ret) ho hl hin hse hcode hy hK (by rw [hT]; exact hcB) hoB hclB hg (hsize.trans hml.symm) (argsL := As) (rest := rest) (fun sig h => hn.trans (hlen sig h)) hstack hW (by rw [hb]; exact hdg)
    (fun vm₁ hW₁ => ⟨hf.1, hf.2, hPc (T.setVm vm₁) hT hW₁⟩)
  dsimp only [Pt.U, Pt.locs, Pt.cells, Pt.slots] at X' e1 e2 h1 h2 h3 st
  subst h1; subst h2; subst h3
  exact ⟨v, (T.setVm vm₁).calling g' mk (Value.ref b :: As).toArray, t, U', L, hT, X', hL, e1, e2, hq, st⟩
section
variable {y : MethodName} {bytes cc : ByteArray} {maxL nL mc ms n index : Nat} {ret : Option FieldType} {ws : List Cond} {rm : Room} {Pc : Array Value → State → Prop} {Qc : Array Value → State → Outcome → State → Prop} {XC : String → State → State → Prop} {free : Addr → Prop} {Ts : List Cond} {own C : String} {b : Addr} {As rest : List Value} {g : JFrame}
theorem vx_runVX {hh : List (Nat × Nat × Nat × Nat)} (S : CallFix p m c cc nL s args Ts own) (hM : vx_Met l y ws rm Pc Qc XC mc ms free) (cw : vx_CVW R s args own C index y bytes maxL ret hh ws rm mc ms n) (hp : PreV s H C b Pc As)
    (hg : g.method = m) (hn : As.length = n) (hsize : g.locals.size = nL) (hstack : g.stack = As.reverse ++ .ref b :: rest) (hW : 2 * g.monitorRoom + (rest.map fun v => v.category).sum ≤ 8) (hdg : decode cc g.pc = .ok (.invokevirtual index, 3)) (hf : cells + mc ≤ R.cells ∧ slots + ms ≤ R.slots) :
    vx_Run p l e R s m args below meth c H locs cells slots mc ms g rest (Qc (Value.ref b :: As).toArray) XC free := by
  obtain ⟨⟨hrc, hrs, hfr, hlo, hws, hcw⟩, hcode, hini, hy, hlen, hl, hin, hse⟩ := cw
  have hK : vx_Back l R p e below s args y 3 8 (PreOf R mc ms Pc) (PostOf Qc mc ms free) (vx_Post XC mc ms free) := vx_backW (hh := hh) (bytes := bytes) (maxL := maxL) (ret := ret) hM hp.1 hrc hrs hfr hlo hws hcw (fun a' U hW => word_at hW (Or.inl (by first | rfl | simp [Cond.onTables, Cond.keeps, Cond.steady])) hini)
  obtain ⟨hx, hb, hml, ho, -⟩ := S
  obtain ⟨-, ⟨cellB, hcB, hoB, hclB⟩, hPc⟩ := hp
  intro T hT X
  rcases vx_callVX X hx (C := C) (hh := hh) (bytes := bytes) (maxL := maxL) (ret := ret) ho hl hin hse hcode hy hK (by rw [hT]; exact hcB) hoB hclB hg (hsize.trans hml.symm) (argsL := As) (rest := rest) (fun sig h => hn.trans (hlen sig h)) hstack hW (by rw [hb]; exact hdg)
    (fun vm₁ hW₁ => ⟨hf.1, hf.2, hPc (T.setVm vm₁) hT hW₁⟩) with ⟨v, vm₁, ⟨U', l2, c2, s2⟩, hW₁, X', ⟨g', mk, t, L, e1, e2, hq, h1, hL, h2, h3⟩, st⟩ | ⟨q, vm₁, ⟨U', l2, c2, s2⟩, hW₁, X', ⟨g', mk, t, L, E, ce, e1, e2, hq, hce, hcv, hcl, h1, hL, h2, h3⟩, st⟩
  · dsimp only [Pt.U, Pt.locs, Pt.cells, Pt.slots] at X' e1 e2 h1 h2 h3 st
    subst h1; subst h2; subst h3
    exact Or.inl ⟨v, (T.setVm vm₁).calling g' mk (Value.ref b :: As).toArray, t, U', L, hT, X', hL, e1, e2, hq, st⟩
  · dsimp only [Pt.U, Pt.locs, Pt.cells, Pt.slots] at X' e1 e2 h1 h2 h3 st hcl
    subst h1; subst h2; subst h3
    exact Or.inr ⟨q, (T.setVm vm₁).calling g' mk (Value.ref b :: As).toArray, t, U', L, E, ce, hT, X', hL, e1, e2, hq, hce, hcv, vx_cls hW₁ hcl, st⟩
theorem vx_runSX {hh : List (Nat × Nat × Nat × Nat)} (S : CallFix p m c cc nL s args Ts own) (hM : vx_Met l y ws rm Pc Qc XC mc ms free) (cw : vx_CSW R s args own index y bytes maxL ret hh ws rm mc ms n) (hp : PreS s H Pc As)
    (hg : g.method = m) (hn : As.length = n) (hsize : g.locals.size = nL) (hstack : g.stack = As.reverse ++ rest) (hW : 2 * g.monitorRoom + (rest.map fun v => v.category).sum ≤ 8) (hdg : decode cc g.pc = .ok (.invokestatic index, 3)) (hf : cells + mc ≤ R.cells ∧ slots + ms ≤ R.slots) :
    vx_Run p l e R s m args below meth c H locs cells slots mc ms g rest (Qc As.toArray) XC free := by
  obtain ⟨⟨hrc, hrs, hfr, hlo, hws, hcw⟩, hcode, hini, hy, hlen, hl, hstt⟩ := cw
  have hK : vx_Back l R p e below s args y 3 8 (PreOf R mc ms Pc) (PostOf Qc mc ms free) (vx_Post XC mc ms free) := vx_backW (hh := hh) (bytes := bytes) (maxL := maxL) (ret := ret) hM hp.1 hrc hrs hfr hlo hws hcw (fun a' U hW => word_at hW (Or.inl (by first | rfl | simp [Cond.onTables, Cond.keeps, Cond.steady])) hini)
  obtain ⟨hx, hb, hml, ho, -⟩ := S
  intro T hT X
  rcases vx_callSX X hx (hh := hh) (bytes := bytes) (maxL := maxL) (ret := ret) ho hl hstt hini hcode hy hK hg (hsize.trans hml.symm) (argsL := As) (rest := rest) (fun sig h => hn.trans (hlen sig h)) hstack hW (by rw [hb]; exact hdg)
    (fun vm₁ hW₁ => ⟨hf.1, hf.2, hp.2 (T.setVm vm₁) hT hW₁⟩) with ⟨v, vm₁, ⟨U', l2, c2, s2⟩, hW₁, X', ⟨g', mk, t, L, e1, e2, hq, h1, hL, h2, h3⟩, st⟩ | ⟨q, vm₁, ⟨U', l2, c2, s2⟩, hW₁, X', ⟨g', mk, t, L, E, ce, e1, e2, hq, hce, hcv, hcl, h1, hL, h2, h3⟩, st⟩
  · dsimp only [Pt.U, Pt.locs, Pt.cells, Pt.slots] at X' e1 e2 h1 h2 h3 st
    subst h1; subst h2; subst h3
    exact Or.inl ⟨v, (T.setVm vm₁).calling g' mk As.toArray, t, U', L, hT, X', hL, e1, e2, hq, st⟩
  · dsimp only [Pt.U, Pt.locs, Pt.cells, Pt.slots] at X' e1 e2 h1 h2 h3 st hcl
    subst h1; subst h2; subst h3
    exact Or.inr ⟨q, (T.setVm vm₁).calling g' mk As.toArray, t, U', L, E, ce, hT, X', hL, e1, e2, hq, hce, hcv, vx_cls hW₁ hcl, st⟩
end
end VXH
theorem vx_ofWH {l : Launch} {y : MethodName} {ws ws' : List Cond} {rm : Room} {Pc : Array Value → State → Prop} {Qc : Array Value → State → Outcome → State → Prop} {XC : String → State → State → Prop} {mc ms : Nat} {free : Addr → Prop} {cc : ByteArray} {maxL : Nat} {ret : Option FieldType} {hh : List (Nat × Nat × Nat × Nat)}
    (hy : plainName y.cls = true) (hw : ws = Cond.codeWith y cc maxL ret hh :: ws')
    (body : ∀ p e s m args below meth c s₁, BodyLoose p l y (headSpec ws rm) cc maxL ret e s m args below meth c s₁ → c.maxLocals = maxL → Pc args s →
      W p l e (headSpec ws rm).room s m args below meth c s.heap [] 0 0 (vx_MQ below Qc XC args s mc ms free) (entryFrame m args maxL)) : vx_Met l y ws rm Pc Qc XC mc ms free := by
  refine MetFree.of_bodyS (code := cc) (maxLocals := maxL) (ret := ret) hy ?_ ?_
  · intro args s m h hn
    obtain ⟨m9, meth, c, hn9, h1, h2, h3, h4, -, h5, h6, -⟩ := Cond.codeWith_spec (atoms_spec (ws := ws) h _ (by rw [hw]; exact List.mem_cons_self))
    cases hn.symm.trans hn9
    exact ⟨meth, c, h1, h2, h3, h4, h5, h6⟩
  · intro p e s m args below meth c s₁ B hml hP _
    have hh0 : s₁.heap = s.heap := by rw [B.state]; rfl
    obtain ⟨t, a1, o, b1, b2, b3⟩ := body p e s m args below meth c s₁ B hml hP s₁ hh0 (Stand.of_body B)
    exact ⟨t, o, a1, b1, b2, b3⟩
/-! ===== END ===== -/
end
section
/-! ===== BEGIN printed: names, fields, word lists, decode rows ===== -/
def RX0 : String := "PachisiYard$Board"
def TX0 : u_T := fun k => match k with
  | 0 => ("PachisiYard$Board", "positions", "[I", true)
  | _ => ("PachisiYard$Board", "counts", "[I", true)
def tyX0 : Nat → FieldType := fun k => match k with
  | 0 => .array .int
  | _ => .array .int
abbrev wsX00 : List Cond := u_ws RX0 TX0 2
theorem nmX0 : ∀ a, a < 2 → ∀ b, b < 2 → a ≠ b → (TX0 a).2.1 ≠ (TX0 b).2.1 := by decide +kernel
theorem tyX0_ok : ∀ k, k < 2 → parseFieldDescriptor (TX0 k).2.2.1 = some (tyX0 k) := by decide +kernel
abbrev cX0_init : ByteArray := prog_2_method_1_code
def yX0_init : MethodName := ⟨RX0, "<init>", "()V"⟩
abbrev cX0_positionOf : ByteArray := prog_2_method_2_code
def yX0_positionOf : MethodName := ⟨RX0, "positionOf", "(II)I"⟩
abbrev cX0_squareAt : ByteArray := prog_2_method_3_code
def yX0_squareAt : MethodName := ⟨RX0, "squareAt", "(II)I"⟩
abbrev cX0_countOn : ByteArray := prog_2_method_4_code
def yX0_countOn : MethodName := ⟨RX0, "countOn", "(II)I"⟩
abbrev cX0_countHome : ByteArray := prog_2_method_5_code
def yX0_countHome : MethodName := ⟨RX0, "countHome", "(I)I"⟩
abbrev cX0_distanceOf : ByteArray := prog_2_method_6_code
def yX0_distanceOf : MethodName := ⟨RX0, "distanceOf", "(I)I"⟩
abbrev cX0_isTeamHome : ByteArray := prog_2_method_7_code
def yX0_isTeamHome : MethodName := ⟨RX0, "isTeamHome", "(I)Z"⟩
abbrev cX0_moverFor : ByteArray := prog_2_method_8_code
def yX0_moverFor : MethodName := ⟨RX0, "moverFor", "(I)I"⟩
abbrev cX0_place : ByteArray := prog_2_method_9_code
def yX0_place : MethodName := ⟨RX0, "place", "(III)V"⟩
abbrev cX0_addOn : ByteArray := prog_2_method_10_code
def yX0_addOn : MethodName := ⟨RX0, "addOn", "(III)V"⟩
abbrev cX0_sendToYard : ByteArray := prog_2_method_11_code
def yX0_sendToYard : MethodName := ⟨RX0, "sendToYard", "(II)V"⟩
abbrev cX0_targetOf : ByteArray := prog_2_method_12_code
def yX0_targetOf : MethodName := ⟨RX0, "targetOf", "(III)I"⟩
abbrev cX0_isWayFree : ByteArray := prog_2_method_13_code
def yX0_isWayFree : MethodName := ⟨RX0, "isWayFree", "(III)Z"⟩
abbrev cX0_isCapture : ByteArray := prog_2_method_14_code
def yX0_isCapture : MethodName := ⟨RX0, "isCapture", "(II)Z"⟩
abbrev cX0_movableSet : ByteArray := prog_2_method_15_code
def yX0_movableSet : MethodName := ⟨RX0, "movableSet", "(II)I"⟩
abbrev cX0_canDo : ByteArray := prog_2_method_16_code
def yX0_canDo : MethodName := ⟨RX0, "canDo", "(III)Z"⟩
abbrev cX0_isDone : ByteArray := prog_2_method_17_code
def yX0_isDone : MethodName := ⟨RX0, "isDone", "(III)Z"⟩
abbrev cX0_canCaptureOn : ByteArray := prog_2_method_18_code
def yX0_canCaptureOn : MethodName := ⟨RX0, "canCaptureOn", "(III)Z"⟩
def RX1 : String := "PachisiYard"
def TX1 : u_T := fun k => match k with
  | 0 => ("PachisiYard", "board", "LPachisiYard$Board;", true)
  | 1 => ("PachisiYard", "captureCounts", "[I", true)
  | 2 => ("PachisiYard", "turn", "I", false)
  | 3 => ("PachisiYard", "gracesInRow", "I", false)
  | 4 => ("PachisiYard", "stage", "I", false)
  | _ => ("PachisiYard", "mouthsThrown", "I", false)
def tyX1 : Nat → FieldType := fun k => match k with
  | 0 => .object "PachisiYard$Board"
  | 1 => .array .int
  | 2 => .int
  | 3 => .int
  | 4 => .int
  | _ => .int
abbrev wsX10 : List Cond := u_ws RX1 TX1 6
theorem nmX1 : ∀ a, a < 6 → ∀ b, b < 6 → a ≠ b → (TX1 a).2.1 ≠ (TX1 b).2.1 := by decide +kernel
theorem tyX1_ok : ∀ k, k < 6 → parseFieldDescriptor (TX1 k).2.2.1 = some (tyX1 k) := by decide +kernel
abbrev cX1_init : ByteArray := prog_1_method_1_code
def yX1_init : MethodName := ⟨RX1, "<init>", "()V"⟩
abbrev cX1_throwShells : ByteArray := prog_1_method_2_code
def yX1_throwShells : MethodName := ⟨RX1, "throwShells", "(I)I"⟩
abbrev cX1_move : ByteArray := prog_1_method_3_code
def yX1_move : MethodName := ⟨RX1, "move", "(I)I"⟩
abbrev cX1_phase : ByteArray := prog_1_method_4_code
def yX1_phase : MethodName := ⟨RX1, "phase", "()I"⟩
abbrev cX1_onTurn : ByteArray := prog_1_method_5_code
def yX1_onTurn : MethodName := ⟨RX1, "onTurn", "()I"⟩
abbrev cX1_mover : ByteArray := prog_1_method_6_code
def yX1_mover : MethodName := ⟨RX1, "mover", "()I"⟩
abbrev cX1_movable : ByteArray := prog_1_method_7_code
def yX1_movable : MethodName := ⟨RX1, "movable", "()I"⟩
abbrev cX1_graces : ByteArray := prog_1_method_8_code
def yX1_graces : MethodName := ⟨RX1, "graces", "()I"⟩
abbrev cX1_position : ByteArray := prog_1_method_9_code
def yX1_position : MethodName := ⟨RX1, "position", "(II)I"⟩
abbrev cX1_square : ByteArray := prog_1_method_10_code
def yX1_square : MethodName := ⟨RX1, "square", "(II)I"⟩
abbrev cX1_standing : ByteArray := prog_1_method_11_code
def yX1_standing : MethodName := ⟨RX1, "standing", "(II)I"⟩
abbrev cX1_isSafe : ByteArray := prog_1_method_12_code
def yX1_isSafe : MethodName := ⟨RX1, "isSafe", "(I)Z"⟩
abbrev cX1_home : ByteArray := prog_1_method_13_code
def yX1_home : MethodName := ⟨RX1, "home", "(I)I"⟩
abbrev cX1_captures : ByteArray := prog_1_method_14_code
def yX1_captures : MethodName := ⟨RX1, "captures", "(I)I"⟩
abbrev cX1_winner : ByteArray := prog_1_method_15_code
def yX1_winner : MethodName := ⟨RX1, "winner", "()I"⟩
abbrev cX1_distance : ByteArray := prog_1_method_16_code
def yX1_distance : MethodName := ⟨RX1, "distance", "(I)I"⟩
abbrev cX1_ways : ByteArray := prog_1_method_17_code
def yX1_ways : MethodName := ⟨RX1, "ways", "(I)I"⟩
abbrev cX1_threat : ByteArray := prog_1_method_18_code
def yX1_threat : MethodName := ⟨RX1, "threat", "(III)I"⟩
abbrev cX1_captureChance : ByteArray := prog_1_method_19_code
def yX1_captureChance : MethodName := ⟨RX1, "captureChance", "(I)I"⟩
abbrev cX1_requirePlayer : ByteArray := prog_1_method_20_code
def yX1_requirePlayer : MethodName := ⟨RX1, "requirePlayer", "(I)V"⟩
abbrev cX1_requirePiece : ByteArray := prog_1_method_21_code
def yX1_requirePiece : MethodName := ⟨RX1, "requirePiece", "(I)V"⟩
abbrev cX1_requireSquare : ByteArray := prog_1_method_22_code
def yX1_requireSquare : MethodName := ⟨RX1, "requireSquare", "(I)V"⟩
abbrev cX1_requireTeam : ByteArray := prog_1_method_23_code
def yX1_requireTeam : MethodName := ⟨RX1, "requireTeam", "(I)V"⟩
abbrev cX1_requireThrowDue : ByteArray := prog_1_method_24_code
def yX1_requireThrowDue : MethodName := ⟨RX1, "requireThrowDue", "()V"⟩
abbrev cX1_requireMoveDue : ByteArray := prog_1_method_25_code
def yX1_requireMoveDue : MethodName := ⟨RX1, "requireMoveDue", "()V"⟩
abbrev cX1_passTurn : ByteArray := prog_1_method_26_code
def yX1_passTurn : MethodName := ⟨RX1, "passTurn", "()V"⟩
abbrev cX1_endMove : ByteArray := prog_1_method_27_code
def yX1_endMove : MethodName := ⟨RX1, "endMove", "(Z)V"⟩
abbrev cX1_countCapture : ByteArray := prog_1_method_28_code
def yX1_countCapture : MethodName := ⟨RX1, "countCapture", "(I)V"⟩
abbrev cX1_chanceWithin : ByteArray := prog_1_method_29_code
def yX1_chanceWithin : MethodName := ⟨RX1, "chanceWithin", "(II)I"⟩
abbrev cX1_chanceAfter : ByteArray := prog_1_method_30_code
def yX1_chanceAfter : MethodName := ⟨RX1, "chanceAfter", "(III)I"⟩
abbrev cX1_chanceAfterGrace : ByteArray := prog_1_method_31_code
def yX1_chanceAfterGrace : MethodName := ⟨RX1, "chanceAfterGrace", "(III)I"⟩
abbrev cX1_certainty : ByteArray := prog_1_method_32_code
def yX1_certainty : MethodName := ⟨RX1, "certainty", "(I)I"⟩
abbrev cX1_teamOf : ByteArray := prog_1_method_33_code
def yX1_teamOf : MethodName := ⟨RX1, "teamOf", "(I)I"⟩
abbrev cX1_otherTeam : ByteArray := prog_1_method_34_code
def yX1_otherTeam : MethodName := ⟨RX1, "otherTeam", "(I)I"⟩
abbrev cX1_partnerOf : ByteArray := prog_1_method_35_code
def yX1_partnerOf : MethodName := ⟨RX1, "partnerOf", "(I)I"⟩
abbrev cX1_worthOf : ByteArray := prog_1_method_36_code
def yX1_worthOf : MethodName := ⟨RX1, "worthOf", "(I)I"⟩
abbrev cX1_isGrace : ByteArray := prog_1_method_37_code
def yX1_isGrace : MethodName := ⟨RX1, "isGrace", "(I)Z"⟩
abbrev cX1_isGraceTooMany : ByteArray := prog_1_method_38_code
def yX1_isGraceTooMany : MethodName := ⟨RX1, "isGraceTooMany", "(II)Z"⟩
abbrev cX1_waysOf : ByteArray := prog_1_method_39_code
def yX1_waysOf : MethodName := ⟨RX1, "waysOf", "(I)I"⟩
abbrev cX1_isSafeSquare : ByteArray := prog_1_method_40_code
def yX1_isSafeSquare : MethodName := ⟨RX1, "isSafeSquare", "(I)Z"⟩
def RX2 : String := "PachisiYardModel"
def TX2 : u_T := fun k => match k with
  | 0 => ("PachisiYardModel", "at", "[I", true)
  | 1 => ("PachisiYardModel", "turn", "I", false)
  | 2 => ("PachisiYardModel", "phase", "I", false)
  | 3 => ("PachisiYardModel", "mouths", "I", false)
  | 4 => ("PachisiYardModel", "graces", "I", false)
  | 5 => ("PachisiYardModel", "captures", "[I", true)
  | 6 => ("PachisiYardModel", "many", "[I", true)
  | _ => ("PachisiYardModel", "thrown", "I", false)
def tyX2 : Nat → FieldType := fun k => match k with
  | 0 => .array .int
  | 1 => .int
  | 2 => .int
  | 3 => .int
  | 4 => .int
  | 5 => .array .int
  | 6 => .array .int
  | _ => .int
abbrev wsX20 : List Cond := u_ws RX2 TX2 8
theorem nmX2 : ∀ a, a < 8 → ∀ b, b < 8 → a ≠ b → (TX2 a).2.1 ≠ (TX2 b).2.1 := by decide +kernel
theorem tyX2_ok : ∀ k, k < 8 → parseFieldDescriptor (TX2 k).2.2.1 = some (tyX2 k) := by decide +kernel
abbrev cX2_init : ByteArray := prog_4_method_1_code
def yX2_init : MethodName := ⟨RX2, "<init>", "()V"⟩
abbrev cX2_thrown : ByteArray := prog_4_method_2_code
def yX2_thrown : MethodName := ⟨RX2, "thrown", "()I"⟩
abbrev cX2_isIn : ByteArray := prog_4_method_3_code
def yX2_isIn : MethodName := ⟨RX2, "isIn", "(III)Z"⟩
abbrev cX2_worth : ByteArray := prog_4_method_4_code
def yX2_worth : MethodName := ⟨RX2, "worth", "(I)I"⟩
abbrev cX2_isGrace : ByteArray := prog_4_method_5_code
def yX2_isGrace : MethodName := ⟨RX2, "isGrace", "(I)Z"⟩
abbrev cX2_squareOf : ByteArray := prog_4_method_6_code
def yX2_squareOf : MethodName := ⟨RX2, "squareOf", "(II)I"⟩
abbrev cX2_isSafeOne : ByteArray := prog_4_method_7_code
def yX2_isSafeOne : MethodName := ⟨RX2, "isSafeOne", "(I)Z"⟩
abbrev cX2_stand : ByteArray := prog_4_method_8_code
def yX2_stand : MethodName := ⟨RX2, "stand", "(II)I"⟩
abbrev cX2_homes : ByteArray := prog_4_method_9_code
def yX2_homes : MethodName := ⟨RX2, "homes", "(I)I"⟩
abbrev cX2_movesFor : ByteArray := prog_4_method_10_code
def yX2_movesFor : MethodName := ⟨RX2, "movesFor", "(I)I"⟩
abbrev cX2_isWon : ByteArray := prog_4_method_11_code
def yX2_isWon : MethodName := ⟨RX2, "isWon", "(I)Z"⟩
abbrev cX2_target : ByteArray := prog_4_method_12_code
def yX2_target : MethodName := ⟨RX2, "target", "(II)I"⟩
abbrev cX2_can : ByteArray := prog_4_method_13_code
def yX2_can : MethodName := ⟨RX2, "can", "(II)I"⟩
abbrev cX2_movers : ByteArray := prog_4_method_14_code
def yX2_movers : MethodName := ⟨RX2, "movers", "(III)I"⟩
abbrev cX2_next : ByteArray := prog_4_method_15_code
def yX2_next : MethodName := ⟨RX2, "next", "()V"⟩
abbrev cX2_throwShells : ByteArray := prog_4_method_16_code
def yX2_throwShells : MethodName := ⟨RX2, "throwShells", "(I)I"⟩
abbrev cX2_sends : ByteArray := prog_4_method_17_code
def yX2_sends : MethodName := ⟨RX2, "sends", "(II)V"⟩
abbrev cX2_move : ByteArray := prog_4_method_18_code
def yX2_move : MethodName := ⟨RX2, "move", "(I)I"⟩
abbrev cX2_phase : ByteArray := prog_4_method_19_code
def yX2_phase : MethodName := ⟨RX2, "phase", "()I"⟩
abbrev cX2_onTurn : ByteArray := prog_4_method_20_code
def yX2_onTurn : MethodName := ⟨RX2, "onTurn", "()I"⟩
abbrev cX2_mover : ByteArray := prog_4_method_21_code
def yX2_mover : MethodName := ⟨RX2, "mover", "()I"⟩
abbrev cX2_movable : ByteArray := prog_4_method_22_code
def yX2_movable : MethodName := ⟨RX2, "movable", "()I"⟩
abbrev cX2_graces : ByteArray := prog_4_method_23_code
def yX2_graces : MethodName := ⟨RX2, "graces", "()I"⟩
abbrev cX2_position : ByteArray := prog_4_method_24_code
def yX2_position : MethodName := ⟨RX2, "position", "(II)I"⟩
abbrev cX2_square : ByteArray := prog_4_method_25_code
def yX2_square : MethodName := ⟨RX2, "square", "(II)I"⟩
abbrev cX2_standing : ByteArray := prog_4_method_26_code
def yX2_standing : MethodName := ⟨RX2, "standing", "(II)I"⟩
abbrev cX2_isSafe : ByteArray := prog_4_method_27_code
def yX2_isSafe : MethodName := ⟨RX2, "isSafe", "(I)Z"⟩
abbrev cX2_home : ByteArray := prog_4_method_28_code
def yX2_home : MethodName := ⟨RX2, "home", "(I)I"⟩
abbrev cX2_captures : ByteArray := prog_4_method_29_code
def yX2_captures : MethodName := ⟨RX2, "captures", "(I)I"⟩
abbrev cX2_winner : ByteArray := prog_4_method_30_code
def yX2_winner : MethodName := ⟨RX2, "winner", "()I"⟩
abbrev cX2_distance : ByteArray := prog_4_method_31_code
def yX2_distance : MethodName := ⟨RX2, "distance", "(I)I"⟩
abbrev cX2_does : ByteArray := prog_4_method_32_code
def yX2_does : MethodName := ⟨RX2, "does", "(III)Z"⟩
abbrev cX2_ways : ByteArray := prog_4_method_33_code
def yX2_ways : MethodName := ⟨RX2, "ways", "(I)I"⟩
abbrev cX2_threat : ByteArray := prog_4_method_34_code
def yX2_threat : MethodName := ⟨RX2, "threat", "(III)I"⟩
abbrev cX2_chanceOfOne : ByteArray := prog_4_method_35_code
def yX2_chanceOfOne : MethodName := ⟨RX2, "chanceOfOne", "(I)I"⟩
abbrev cX2_bestForOne : ByteArray := prog_4_method_36_code
def yX2_bestForOne : MethodName := ⟨RX2, "bestForOne", "(II)I"⟩
abbrev cX2_chanceOfTwo : ByteArray := prog_4_method_37_code
def yX2_chanceOfTwo : MethodName := ⟨RX2, "chanceOfTwo", "(I)I"⟩
abbrev cX2_bestForTwo : ByteArray := prog_4_method_38_code
def yX2_bestForTwo : MethodName := ⟨RX2, "bestForTwo", "(II)I"⟩
abbrev cX2_chanceOfThree : ByteArray := prog_4_method_39_code
def yX2_chanceOfThree : MethodName := ⟨RX2, "chanceOfThree", "(I)I"⟩
abbrev cX2_captureChance : ByteArray := prog_4_method_40_code
def yX2_captureChance : MethodName := ⟨RX2, "captureChance", "(I)I"⟩
def RJ9 : String := "java/lang/Math"
def TJ9 : u_T := fun k => match k with
  | _ => ("", "", "", false)
def tyJ9 : Nat → FieldType := fun k => match k with
  | _ => .int
abbrev wsJ90 : List Cond := u_ws RJ9 TJ9 0
theorem nmJ9 : ∀ a, a < 0 → ∀ b, b < 0 → a ≠ b → (TJ9 a).2.1 ≠ (TJ9 b).2.1 := by decide +kernel
theorem tyJ9_ok : ∀ k, k < 0 → parseFieldDescriptor (TJ9 k).2.2.1 = some (tyJ9 k) := by decide +kernel
abbrev cJ9_max_7cf53 : ByteArray := prog_9_method_65_code
def yJ9_max_7cf53 : MethodName := ⟨RJ9, "max", "(II)I"⟩
abbrev cJ9_min_7cf53 : ByteArray := prog_9_method_69_code
def yJ9_min_7cf53 : MethodName := ⟨RJ9, "min", "(II)I"⟩
def RJ0 : String := "java/lang/String"
def TJ0 : u_T := fun k => match k with
  | _ => ("", "", "", false)
def tyJ0 : Nat → FieldType := fun k => match k with
  | _ => .int
abbrev wsJ00 : List Cond := u_ws RJ0 TJ0 0
theorem nmJ0 : ∀ a, a < 0 → ∀ b, b < 0 → a ≠ b → (TJ0 a).2.1 ≠ (TJ0 b).2.1 := by decide +kernel
theorem tyJ0_ok : ∀ k, k < 0 → parseFieldDescriptor (TJ0 k).2.2.1 = some (tyJ0 k) := by decide +kernel
def wsX0_init : List Cond := .code yX0_init cX0_init 1 none :: ([.methodLink RX0 3 objectInit, .instanceMethod objectInit, .code objectInit ⟨#[0xb1]⟩ 1 none, .arrayClass .int, .fieldLink RX0 9 "PachisiYard$Board" "positions" "[I", .fieldLink RX0 15 "PachisiYard$Board" "counts" "[I"] ++ wsX00)
def wsX0_positionOf : List Cond := .code yX0_positionOf cX0_positionOf 4 (some .int) :: ([.fieldLink RX0 9 "PachisiYard$Board" "positions" "[I"] ++ wsX00)
def wsX0_squareAt : List Cond := .code yX0_squareAt cX0_squareAt 3 (some .int) :: ([])
def wsX0_countOn : List Cond := .code yX0_countOn cX0_countOn 4 (some .int) :: ([.fieldLink RX0 15 "PachisiYard$Board" "counts" "[I"] ++ wsX00)
def wsX0_countHome : List Cond := .code yX0_countHome cX0_countHome 4 (some .int) :: ([.methodLink RX0 18 yX0_positionOf, .instanceMethod yX0_positionOf, .selects RX0 yX0_positionOf yX0_positionOf, .initialized RX0, .code yX0_positionOf cX0_positionOf 4 (some .int), .fieldLink RX0 9 "PachisiYard$Board" "positions" "[I"] ++ wsX00)
def wsX0_distanceOf : List Cond := .code yX0_distanceOf cX0_distanceOf 4 (some .int) :: ([.methodLink RX0 18 yX0_positionOf, .instanceMethod yX0_positionOf, .selects RX0 yX0_positionOf yX0_positionOf, .initialized RX0, .code yX0_positionOf cX0_positionOf 4 (some .int), .fieldLink RX0 9 "PachisiYard$Board" "positions" "[I"] ++ wsX00)
def wsX1_partnerOf : List Cond := .code yX1_partnerOf cX1_partnerOf 1 (some .int) :: ([])
def wsX0_isTeamHome : List Cond := .code yX0_isTeamHome cX0_isTeamHome 2 (some .boolean) :: ([.methodLink RX0 22 yX0_countHome, .instanceMethod yX0_countHome, .selects RX0 yX0_countHome yX0_countHome, .initialized RX0, .code yX0_countHome cX0_countHome 4 (some .int), .methodLink RX0 18 yX0_positionOf, .instanceMethod yX0_positionOf, .selects RX0 yX0_positionOf yX0_positionOf, .code yX0_positionOf cX0_positionOf 4 (some .int), .fieldLink RX0 9 "PachisiYard$Board" "positions" "[I", .static yX1_partnerOf, .initialized RX1, .code yX1_partnerOf cX1_partnerOf 1 (some .int)] ++ wsX00)
def wsX0_moverFor : List Cond := .code yX0_moverFor cX0_moverFor 2 (some .int) :: ([.methodLink RX0 22 yX0_countHome, .instanceMethod yX0_countHome, .selects RX0 yX0_countHome yX0_countHome, .initialized RX0, .code yX0_countHome cX0_countHome 4 (some .int), .methodLink RX0 18 yX0_positionOf, .instanceMethod yX0_positionOf, .selects RX0 yX0_positionOf yX0_positionOf, .code yX0_positionOf cX0_positionOf 4 (some .int), .fieldLink RX0 9 "PachisiYard$Board" "positions" "[I", .static yX1_partnerOf, .initialized RX1, .code yX1_partnerOf cX1_partnerOf 1 (some .int)] ++ wsX00)
def wsX1_teamOf : List Cond := .code yX1_teamOf cX1_teamOf 1 (some .int) :: ([])
def wsX0_addOn : List Cond := .code yX0_addOn cX0_addOn 5 none :: ([.fieldLink RX0 15 "PachisiYard$Board" "counts" "[I"] ++ wsX00)
def wsX0_place : List Cond := .code yX0_place cX0_place 5 none :: ([.fieldLink RX0 9 "PachisiYard$Board" "positions" "[I", .methodLink RX0 29 yX0_squareAt, .instanceMethod yX0_squareAt, .selects RX0 yX0_squareAt yX0_squareAt, .initialized RX0, .code yX0_squareAt cX0_squareAt 3 (some .int), .static yX1_teamOf, .initialized RX1, .code yX1_teamOf cX1_teamOf 1 (some .int), .methodLink RX0 35 yX0_addOn, .instanceMethod yX0_addOn, .selects RX0 yX0_addOn yX0_addOn, .code yX0_addOn cX0_addOn 5 none, .fieldLink RX0 15 "PachisiYard$Board" "counts" "[I"] ++ wsX00)
def wsX0_sendToYard : List Cond := .code yX0_sendToYard cX0_sendToYard 5 none :: ([.methodLink RX0 18 yX0_positionOf, .instanceMethod yX0_positionOf, .selects RX0 yX0_positionOf yX0_positionOf, .initialized RX0, .code yX0_positionOf cX0_positionOf 4 (some .int), .fieldLink RX0 9 "PachisiYard$Board" "positions" "[I", .methodLink RX0 29 yX0_squareAt, .instanceMethod yX0_squareAt, .selects RX0 yX0_squareAt yX0_squareAt, .code yX0_squareAt cX0_squareAt 3 (some .int), .methodLink RX0 39 yX0_place, .instanceMethod yX0_place, .selects RX0 yX0_place yX0_place, .code yX0_place cX0_place 5 none, .static yX1_teamOf, .initialized RX1, .code yX1_teamOf cX1_teamOf 1 (some .int), .methodLink RX0 35 yX0_addOn, .instanceMethod yX0_addOn, .selects RX0 yX0_addOn yX0_addOn, .code yX0_addOn cX0_addOn 5 none, .fieldLink RX0 15 "PachisiYard$Board" "counts" "[I"] ++ wsX00)
def wsX1_isGrace : List Cond := .code yX1_isGrace cX1_isGrace 1 (some .boolean) :: ([])
def wsX1_worthOf : List Cond := .code yX1_worthOf cX1_worthOf 1 (some .int) :: ([])
def wsX1_otherTeam : List Cond := .code yX1_otherTeam cX1_otherTeam 1 (some .int) :: ([])
def wsX0_isWayFree : List Cond := .code yX0_isWayFree cX0_isWayFree 6 (some .boolean) :: ([.methodLink RX0 60 Lib.Math.min.name, .static Lib.Math.min.name, .initialized "java/lang/Math", .code Lib.Math.min.name Lib.Math.min.code 2 (some .int), .methodLink RX0 29 yX0_squareAt, .instanceMethod yX0_squareAt, .selects RX0 yX0_squareAt yX0_squareAt, .initialized RX0, .code yX0_squareAt cX0_squareAt 3 (some .int), .static yX1_otherTeam, .initialized RX1, .code yX1_otherTeam cX1_otherTeam 1 (some .int), .methodLink RX0 68 yX0_countOn, .instanceMethod yX0_countOn, .selects RX0 yX0_countOn yX0_countOn, .code yX0_countOn cX0_countOn 4 (some .int), .fieldLink RX0 15 "PachisiYard$Board" "counts" "[I"] ++ wsX00)
def wsX0_isCapture : List Cond := .code yX0_isCapture cX0_isCapture 3 (some .boolean) :: ([.methodLink RX0 29 yX0_squareAt, .instanceMethod yX0_squareAt, .selects RX0 yX0_squareAt yX0_squareAt, .initialized RX0, .code yX0_squareAt cX0_squareAt 3 (some .int), .static yX1_otherTeam, .initialized RX1, .code yX1_otherTeam cX1_otherTeam 1 (some .int), .methodLink RX0 68 yX0_countOn, .instanceMethod yX0_countOn, .selects RX0 yX0_countOn yX0_countOn, .code yX0_countOn cX0_countOn 4 (some .int), .fieldLink RX0 15 "PachisiYard$Board" "counts" "[I"] ++ wsX00)
def wsX1_isSafeSquare : List Cond := .code yX1_isSafeSquare cX1_isSafeSquare 2 (some .boolean) :: ([])
def wsX0_targetOf_r1 : List Cond := [Cond.methodLink RX0 18 yX0_positionOf, Cond.instanceMethod yX0_positionOf, Cond.selects RX0 yX0_positionOf yX0_positionOf, Cond.initialized RX0, Cond.code yX0_positionOf cX0_positionOf 4 (some .int), Cond.fieldLink RX0 9 "PachisiYard$Board" "positions" "[I", Cond.static yX1_isGrace, Cond.initialized RX1, Cond.code yX1_isGrace cX1_isGrace 1 (some .boolean), Cond.static yX1_worthOf, Cond.code yX1_worthOf cX1_worthOf 1 (some .int), Cond.methodLink RX0 49 yX0_isWayFree, Cond.instanceMethod yX0_isWayFree, Cond.selects RX0 yX0_isWayFree yX0_isWayFree, Cond.code yX0_isWayFree cX0_isWayFree 6 (some .boolean), Cond.methodLink RX0 60 Lib.Math.min.name, Cond.static Lib.Math.min.name, Cond.initialized "java/lang/Math", Cond.code Lib.Math.min.name Lib.Math.min.code 2 (some .int), Cond.methodLink RX0 29 yX0_squareAt, Cond.instanceMethod yX0_squareAt, Cond.selects RX0 yX0_squareAt yX0_squareAt, Cond.code yX0_squareAt cX0_squareAt 3 (some .int), Cond.static yX1_otherTeam]
def wsX0_targetOf_r2 : List Cond := [Cond.code yX1_otherTeam cX1_otherTeam 1 (some .int), Cond.methodLink RX0 68 yX0_countOn, Cond.instanceMethod yX0_countOn, Cond.selects RX0 yX0_countOn yX0_countOn, Cond.code yX0_countOn cX0_countOn 4 (some .int), Cond.fieldLink RX0 15 "PachisiYard$Board" "counts" "[I", Cond.methodLink RX0 53 yX0_isCapture, Cond.instanceMethod yX0_isCapture, Cond.selects RX0 yX0_isCapture yX0_isCapture, Cond.code yX0_isCapture cX0_isCapture 3 (some .boolean), Cond.static yX1_isSafeSquare, Cond.code yX1_isSafeSquare cX1_isSafeSquare 2 (some .boolean)]
def wsX0_targetOf : List Cond := .code yX0_targetOf cX0_targetOf 7 (some .int) :: ((wsX0_targetOf_r1 ++ wsX0_targetOf_r2) ++ wsX00)
def wsX0_movableSet_r1 : List Cond := [Cond.methodLink RX0 71 yX0_targetOf, Cond.instanceMethod yX0_targetOf, Cond.selects RX0 yX0_targetOf yX0_targetOf, Cond.initialized RX0, Cond.code yX0_targetOf cX0_targetOf 7 (some .int), Cond.methodLink RX0 18 yX0_positionOf, Cond.instanceMethod yX0_positionOf, Cond.selects RX0 yX0_positionOf yX0_positionOf, Cond.code yX0_positionOf cX0_positionOf 4 (some .int), Cond.fieldLink RX0 9 "PachisiYard$Board" "positions" "[I", Cond.static yX1_isGrace, Cond.initialized RX1, Cond.code yX1_isGrace cX1_isGrace 1 (some .boolean), Cond.static yX1_worthOf, Cond.code yX1_worthOf cX1_worthOf 1 (some .int), Cond.methodLink RX0 49 yX0_isWayFree, Cond.instanceMethod yX0_isWayFree, Cond.selects RX0 yX0_isWayFree yX0_isWayFree, Cond.code yX0_isWayFree cX0_isWayFree 6 (some .boolean), Cond.methodLink RX0 60 Lib.Math.min.name, Cond.static Lib.Math.min.name, Cond.initialized "java/lang/Math", Cond.code Lib.Math.min.name Lib.Math.min.code 2 (some .int), Cond.methodLink RX0 29 yX0_squareAt]
def wsX0_movableSet_r2 : List Cond := [Cond.instanceMethod yX0_squareAt, Cond.selects RX0 yX0_squareAt yX0_squareAt, Cond.code yX0_squareAt cX0_squareAt 3 (some .int), Cond.static yX1_otherTeam, Cond.code yX1_otherTeam cX1_otherTeam 1 (some .int), Cond.methodLink RX0 68 yX0_countOn, Cond.instanceMethod yX0_countOn, Cond.selects RX0 yX0_countOn yX0_countOn, Cond.code yX0_countOn cX0_countOn 4 (some .int), Cond.fieldLink RX0 15 "PachisiYard$Board" "counts" "[I", Cond.methodLink RX0 53 yX0_isCapture, Cond.instanceMethod yX0_isCapture, Cond.selects RX0 yX0_isCapture yX0_isCapture, Cond.code yX0_isCapture cX0_isCapture 3 (some .boolean), Cond.static yX1_isSafeSquare, Cond.code yX1_isSafeSquare cX1_isSafeSquare 2 (some .boolean)]
def wsX0_movableSet : List Cond := .code yX0_movableSet cX0_movableSet 5 (some .int) :: ((wsX0_movableSet_r1 ++ wsX0_movableSet_r2) ++ wsX00)
def wsX0_isDone : List Cond := .code yX0_isDone cX0_isDone 4 (some .boolean) :: ([.methodLink RX0 53 yX0_isCapture, .instanceMethod yX0_isCapture, .selects RX0 yX0_isCapture yX0_isCapture, .initialized RX0, .code yX0_isCapture cX0_isCapture 3 (some .boolean), .methodLink RX0 29 yX0_squareAt, .instanceMethod yX0_squareAt, .selects RX0 yX0_squareAt yX0_squareAt, .code yX0_squareAt cX0_squareAt 3 (some .int), .static yX1_otherTeam, .initialized RX1, .code yX1_otherTeam cX1_otherTeam 1 (some .int), .methodLink RX0 68 yX0_countOn, .instanceMethod yX0_countOn, .selects RX0 yX0_countOn yX0_countOn, .code yX0_countOn cX0_countOn 4 (some .int), .fieldLink RX0 15 "PachisiYard$Board" "counts" "[I"] ++ wsX00)
def wsX0_canDo_r1 : List Cond := [Cond.methodLink RX0 71 yX0_targetOf, Cond.instanceMethod yX0_targetOf, Cond.selects RX0 yX0_targetOf yX0_targetOf, Cond.initialized RX0, Cond.code yX0_targetOf cX0_targetOf 7 (some .int), Cond.methodLink RX0 18 yX0_positionOf, Cond.instanceMethod yX0_positionOf, Cond.selects RX0 yX0_positionOf yX0_positionOf, Cond.code yX0_positionOf cX0_positionOf 4 (some .int), Cond.fieldLink RX0 9 "PachisiYard$Board" "positions" "[I", Cond.static yX1_isGrace, Cond.initialized RX1, Cond.code yX1_isGrace cX1_isGrace 1 (some .boolean), Cond.static yX1_worthOf, Cond.code yX1_worthOf cX1_worthOf 1 (some .int), Cond.methodLink RX0 49 yX0_isWayFree, Cond.instanceMethod yX0_isWayFree, Cond.selects RX0 yX0_isWayFree yX0_isWayFree, Cond.code yX0_isWayFree cX0_isWayFree 6 (some .boolean), Cond.methodLink RX0 60 Lib.Math.min.name, Cond.static Lib.Math.min.name, Cond.initialized "java/lang/Math", Cond.code Lib.Math.min.name Lib.Math.min.code 2 (some .int), Cond.methodLink RX0 29 yX0_squareAt]
def wsX0_canDo_r2 : List Cond := [Cond.instanceMethod yX0_squareAt, Cond.selects RX0 yX0_squareAt yX0_squareAt, Cond.code yX0_squareAt cX0_squareAt 3 (some .int), Cond.static yX1_otherTeam, Cond.code yX1_otherTeam cX1_otherTeam 1 (some .int), Cond.methodLink RX0 68 yX0_countOn, Cond.instanceMethod yX0_countOn, Cond.selects RX0 yX0_countOn yX0_countOn, Cond.code yX0_countOn cX0_countOn 4 (some .int), Cond.fieldLink RX0 15 "PachisiYard$Board" "counts" "[I", Cond.methodLink RX0 53 yX0_isCapture, Cond.instanceMethod yX0_isCapture, Cond.selects RX0 yX0_isCapture yX0_isCapture, Cond.code yX0_isCapture cX0_isCapture 3 (some .boolean), Cond.static yX1_isSafeSquare, Cond.code yX1_isSafeSquare cX1_isSafeSquare 2 (some .boolean), Cond.methodLink RX0 75 yX0_isDone, Cond.instanceMethod yX0_isDone, Cond.selects RX0 yX0_isDone yX0_isDone, Cond.code yX0_isDone cX0_isDone 4 (some .boolean)]
def wsX0_canDo : List Cond := .code yX0_canDo cX0_canDo 6 (some .boolean) :: ((wsX0_canDo_r1 ++ wsX0_canDo_r2) ++ wsX00)
def wsX0_canCaptureOn_r1 : List Cond := [Cond.methodLink RX0 71 yX0_targetOf, Cond.instanceMethod yX0_targetOf, Cond.selects RX0 yX0_targetOf yX0_targetOf, Cond.initialized RX0, Cond.code yX0_targetOf cX0_targetOf 7 (some .int), Cond.methodLink RX0 18 yX0_positionOf, Cond.instanceMethod yX0_positionOf, Cond.selects RX0 yX0_positionOf yX0_positionOf, Cond.code yX0_positionOf cX0_positionOf 4 (some .int), Cond.fieldLink RX0 9 "PachisiYard$Board" "positions" "[I", Cond.static yX1_isGrace, Cond.initialized RX1, Cond.code yX1_isGrace cX1_isGrace 1 (some .boolean), Cond.static yX1_worthOf, Cond.code yX1_worthOf cX1_worthOf 1 (some .int), Cond.methodLink RX0 49 yX0_isWayFree, Cond.instanceMethod yX0_isWayFree, Cond.selects RX0 yX0_isWayFree yX0_isWayFree, Cond.code yX0_isWayFree cX0_isWayFree 6 (some .boolean), Cond.methodLink RX0 60 Lib.Math.min.name, Cond.static Lib.Math.min.name, Cond.initialized "java/lang/Math", Cond.code Lib.Math.min.name Lib.Math.min.code 2 (some .int), Cond.methodLink RX0 29 yX0_squareAt]
def wsX0_canCaptureOn_r2 : List Cond := [Cond.instanceMethod yX0_squareAt, Cond.selects RX0 yX0_squareAt yX0_squareAt, Cond.code yX0_squareAt cX0_squareAt 3 (some .int), Cond.static yX1_otherTeam, Cond.code yX1_otherTeam cX1_otherTeam 1 (some .int), Cond.methodLink RX0 68 yX0_countOn, Cond.instanceMethod yX0_countOn, Cond.selects RX0 yX0_countOn yX0_countOn, Cond.code yX0_countOn cX0_countOn 4 (some .int), Cond.fieldLink RX0 15 "PachisiYard$Board" "counts" "[I", Cond.methodLink RX0 53 yX0_isCapture, Cond.instanceMethod yX0_isCapture, Cond.selects RX0 yX0_isCapture yX0_isCapture, Cond.code yX0_isCapture cX0_isCapture 3 (some .boolean), Cond.static yX1_isSafeSquare, Cond.code yX1_isSafeSquare cX1_isSafeSquare 2 (some .boolean)]
def wsX0_canCaptureOn : List Cond := .code yX0_canCaptureOn cX0_canCaptureOn 6 (some .boolean) :: ((wsX0_canCaptureOn_r1 ++ wsX0_canCaptureOn_r2) ++ wsX00)
def wsX1_init : List Cond := .code yX1_init cX1_init 1 none :: ([.methodLink RX1 1 objectInit, .instanceMethod objectInit, .code objectInit ⟨#[0xb1]⟩ 1 none, .classLink RX1 7 RX0, .instantiable RX0 2, .initialized RX0, .fieldLink RX1 10 "PachisiYard" "board" "LPachisiYard$Board;", .arrayClass .int, .fieldLink RX1 16 "PachisiYard" "captureCounts" "[I", .fieldLink RX1 20 "PachisiYard" "turn" "I", .fieldLink RX1 24 "PachisiYard" "gracesInRow" "I", .fieldLink RX1 27 "PachisiYard" "stage" "I", .fieldLink RX1 30 "PachisiYard" "mouthsThrown" "I", .methodLink RX1 9 yX0_init, .instanceMethod yX0_init, .code yX0_init cX0_init 1 none, .methodLink RX0 3 objectInit, .fieldLink RX0 9 "PachisiYard$Board" "positions" "[I", .fieldLink RX0 15 "PachisiYard$Board" "counts" "[I"] ++ wsX00 ++ wsX10)
def wsX1_requireThrowDue : List Cond := .code yX1_requireThrowDue cX1_requireThrowDue 1 none :: ([.classLink RX1 76 "java/lang/IllegalStateException", .initialized "java/lang/IllegalStateException", .fieldLink RX1 27 "PachisiYard" "stage" "I"] ++ wsX10 ++ (vx_atS RX1 80 "java/lang/IllegalStateException" ["java/lang/RuntimeException", "java/lang/Exception"]).filter goodWord)
def wsX1_isGraceTooMany : List Cond := .code yX1_isGraceTooMany cX1_isGraceTooMany 2 (some .boolean) :: ([.methodLink RX1 54 yX1_isGrace, .static yX1_isGrace, .initialized RX1, .code yX1_isGrace cX1_isGrace 1 (some .boolean)])
def wsX1_passTurn : List Cond := .code yX1_passTurn cX1_passTurn 1 none :: ([.fieldLink RX1 20 "PachisiYard" "turn" "I", .fieldLink RX1 24 "PachisiYard" "gracesInRow" "I"] ++ wsX10)
def wsX1_throwShells_r1 : List Cond := [Cond.classLink RX1 33 "java/lang/IllegalArgumentException", Cond.initialized "java/lang/IllegalArgumentException", Cond.fieldLink RX1 24 "PachisiYard" "gracesInRow" "I", Cond.fieldLink RX1 10 "PachisiYard" "board" "LPachisiYard$Board;", Cond.fieldLink RX1 20 "PachisiYard" "turn" "I", Cond.fieldLink RX1 30 "PachisiYard" "mouthsThrown" "I", Cond.fieldLink RX1 27 "PachisiYard" "stage" "I", Cond.methodLink RX1 40 yX1_requireThrowDue, Cond.instanceMethod yX1_requireThrowDue, Cond.selects RX1 yX1_requireThrowDue yX1_requireThrowDue, Cond.initialized RX1, Cond.code yX1_requireThrowDue cX1_requireThrowDue 1 none, Cond.classLink RX1 76 "java/lang/IllegalStateException", Cond.initialized "java/lang/IllegalStateException", Cond.methodLink RX1 43 yX1_worthOf, Cond.static yX1_worthOf, Cond.code yX1_worthOf cX1_worthOf 1 (some .int), Cond.methodLink RX1 47 yX1_isGraceTooMany, Cond.static yX1_isGraceTooMany, Cond.code yX1_isGraceTooMany cX1_isGraceTooMany 2 (some .boolean), Cond.methodLink RX1 54 yX1_isGrace, Cond.static yX1_isGrace, Cond.code yX1_isGrace cX1_isGrace 1 (some .boolean), Cond.methodLink RX1 51 yX1_passTurn]
def wsX1_throwShells_r2 : List Cond := [Cond.instanceMethod yX1_passTurn, Cond.selects RX1 yX1_passTurn yX1_passTurn, Cond.code yX1_passTurn cX1_passTurn 1 none, Cond.methodLink RX1 58 yX0_moverFor, Cond.instanceMethod yX0_moverFor, Cond.selects RX0 yX0_moverFor yX0_moverFor, Cond.initialized RX0, Cond.code yX0_moverFor cX0_moverFor 2 (some .int), Cond.methodLink RX0 22 yX0_countHome, Cond.instanceMethod yX0_countHome, Cond.selects RX0 yX0_countHome yX0_countHome, Cond.code yX0_countHome cX0_countHome 4 (some .int), Cond.methodLink RX0 18 yX0_positionOf, Cond.instanceMethod yX0_positionOf, Cond.selects RX0 yX0_positionOf yX0_positionOf, Cond.code yX0_positionOf cX0_positionOf 4 (some .int), Cond.fieldLink RX0 9 "PachisiYard$Board" "positions" "[I", Cond.static yX1_partnerOf, Cond.code yX1_partnerOf cX1_partnerOf 1 (some .int), Cond.methodLink RX1 61 yX0_movableSet, Cond.instanceMethod yX0_movableSet, Cond.selects RX0 yX0_movableSet yX0_movableSet, Cond.code yX0_movableSet cX0_movableSet 5 (some .int), Cond.methodLink RX0 71 yX0_targetOf]
def wsX1_throwShells_r3 : List Cond := [Cond.instanceMethod yX0_targetOf, Cond.selects RX0 yX0_targetOf yX0_targetOf, Cond.code yX0_targetOf cX0_targetOf 7 (some .int), Cond.methodLink RX0 49 yX0_isWayFree, Cond.instanceMethod yX0_isWayFree, Cond.selects RX0 yX0_isWayFree yX0_isWayFree, Cond.code yX0_isWayFree cX0_isWayFree 6 (some .boolean), Cond.methodLink RX0 60 Lib.Math.min.name, Cond.static Lib.Math.min.name, Cond.initialized "java/lang/Math", Cond.code Lib.Math.min.name Lib.Math.min.code 2 (some .int), Cond.methodLink RX0 29 yX0_squareAt, Cond.instanceMethod yX0_squareAt, Cond.selects RX0 yX0_squareAt yX0_squareAt, Cond.code yX0_squareAt cX0_squareAt 3 (some .int), Cond.static yX1_otherTeam, Cond.code yX1_otherTeam cX1_otherTeam 1 (some .int), Cond.methodLink RX0 68 yX0_countOn, Cond.instanceMethod yX0_countOn, Cond.selects RX0 yX0_countOn yX0_countOn, Cond.code yX0_countOn cX0_countOn 4 (some .int), Cond.fieldLink RX0 15 "PachisiYard$Board" "counts" "[I", Cond.methodLink RX0 53 yX0_isCapture, Cond.instanceMethod yX0_isCapture]
def wsX1_throwShells_r4 : List Cond := [Cond.selects RX0 yX0_isCapture yX0_isCapture, Cond.code yX0_isCapture cX0_isCapture 3 (some .boolean), Cond.static yX1_isSafeSquare, Cond.code yX1_isSafeSquare cX1_isSafeSquare 2 (some .boolean)]
def wsX1_throwShells : List Cond := .code yX1_throwShells cX1_throwShells 3 (some .int) :: ((wsX1_throwShells_r1 ++ (wsX1_throwShells_r2 ++ (wsX1_throwShells_r3 ++ wsX1_throwShells_r4))) ++ wsX10 ++ wsX00 ++ (vx_atS RX1 37 "java/lang/IllegalArgumentException" ["java/lang/RuntimeException", "java/lang/Exception"]).filter goodWord ++ (vx_atS RX1 80 "java/lang/IllegalStateException" ["java/lang/RuntimeException", "java/lang/Exception"]).filter goodWord)
def wsX1_requirePiece : List Cond := .code yX1_requirePiece cX1_requirePiece 1 none :: ([.classLink RX1 151 "java/lang/IndexOutOfBoundsException", .initialized "java/lang/IndexOutOfBoundsException"] ++ (vx_atS RX1 155 "java/lang/IndexOutOfBoundsException" ["java/lang/RuntimeException", "java/lang/Exception"]).filter goodWord)
def wsX1_requireMoveDue : List Cond := .code yX1_requireMoveDue cX1_requireMoveDue 1 none :: ([.classLink RX1 76 "java/lang/IllegalStateException", .initialized "java/lang/IllegalStateException", .fieldLink RX1 27 "PachisiYard" "stage" "I"] ++ wsX10 ++ (vx_atS RX1 80 "java/lang/IllegalStateException" ["java/lang/RuntimeException", "java/lang/Exception"]).filter goodWord)
def wsX1_countCapture : List Cond := .code yX1_countCapture cX1_countCapture 2 none :: ([.fieldLink RX1 16 "PachisiYard" "captureCounts" "[I"] ++ wsX10)
def wsX1_endMove_r1 : List Cond := [Cond.fieldLink RX1 10 "PachisiYard" "board" "LPachisiYard$Board;", Cond.fieldLink RX1 20 "PachisiYard" "turn" "I", Cond.fieldLink RX1 27 "PachisiYard" "stage" "I", Cond.fieldLink RX1 30 "PachisiYard" "mouthsThrown" "I", Cond.methodLink RX1 166 yX0_isTeamHome, Cond.instanceMethod yX0_isTeamHome, Cond.selects RX0 yX0_isTeamHome yX0_isTeamHome, Cond.initialized RX0, Cond.code yX0_isTeamHome cX0_isTeamHome 2 (some .boolean), Cond.methodLink RX0 22 yX0_countHome, Cond.instanceMethod yX0_countHome, Cond.selects RX0 yX0_countHome yX0_countHome, Cond.code yX0_countHome cX0_countHome 4 (some .int), Cond.methodLink RX0 18 yX0_positionOf, Cond.instanceMethod yX0_positionOf, Cond.selects RX0 yX0_positionOf yX0_positionOf, Cond.code yX0_positionOf cX0_positionOf 4 (some .int), Cond.fieldLink RX0 9 "PachisiYard$Board" "positions" "[I", Cond.static yX1_partnerOf, Cond.initialized RX1, Cond.code yX1_partnerOf cX1_partnerOf 1 (some .int), Cond.methodLink RX1 54 yX1_isGrace, Cond.static yX1_isGrace, Cond.code yX1_isGrace cX1_isGrace 1 (some .boolean)]
def wsX1_endMove_r2 : List Cond := [Cond.methodLink RX1 51 yX1_passTurn, Cond.instanceMethod yX1_passTurn, Cond.selects RX1 yX1_passTurn yX1_passTurn, Cond.code yX1_passTurn cX1_passTurn 1 none, Cond.fieldLink RX1 24 "PachisiYard" "gracesInRow" "I"]
def wsX1_endMove : List Cond := .code yX1_endMove cX1_endMove 2 none :: ((wsX1_endMove_r1 ++ wsX1_endMove_r2) ++ wsX10 ++ wsX00)
def wsX1_move_r1 : List Cond := [Cond.classLink RX1 76 "java/lang/IllegalStateException", Cond.initialized "java/lang/IllegalStateException", Cond.fieldLink RX1 10 "PachisiYard" "board" "LPachisiYard$Board;", Cond.fieldLink RX1 20 "PachisiYard" "turn" "I", Cond.fieldLink RX1 30 "PachisiYard" "mouthsThrown" "I", Cond.methodLink RX1 65 yX1_requirePiece, Cond.static yX1_requirePiece, Cond.initialized RX1, Cond.code yX1_requirePiece cX1_requirePiece 1 none, Cond.classLink RX1 151 "java/lang/IndexOutOfBoundsException", Cond.initialized "java/lang/IndexOutOfBoundsException", Cond.methodLink RX1 69 yX1_requireMoveDue, Cond.instanceMethod yX1_requireMoveDue, Cond.selects RX1 yX1_requireMoveDue yX1_requireMoveDue, Cond.code yX1_requireMoveDue cX1_requireMoveDue 1 none, Cond.fieldLink RX1 27 "PachisiYard" "stage" "I", Cond.methodLink RX1 58 yX0_moverFor, Cond.instanceMethod yX0_moverFor, Cond.selects RX0 yX0_moverFor yX0_moverFor, Cond.initialized RX0, Cond.code yX0_moverFor cX0_moverFor 2 (some .int), Cond.methodLink RX0 22 yX0_countHome, Cond.instanceMethod yX0_countHome, Cond.selects RX0 yX0_countHome yX0_countHome]
def wsX1_move_r2 : List Cond := [Cond.code yX0_countHome cX0_countHome 4 (some .int), Cond.methodLink RX0 18 yX0_positionOf, Cond.instanceMethod yX0_positionOf, Cond.selects RX0 yX0_positionOf yX0_positionOf, Cond.code yX0_positionOf cX0_positionOf 4 (some .int), Cond.fieldLink RX0 9 "PachisiYard$Board" "positions" "[I", Cond.static yX1_partnerOf, Cond.code yX1_partnerOf cX1_partnerOf 1 (some .int), Cond.methodLink RX1 72 yX0_targetOf, Cond.instanceMethod yX0_targetOf, Cond.selects RX0 yX0_targetOf yX0_targetOf, Cond.code yX0_targetOf cX0_targetOf 7 (some .int), Cond.static yX1_isGrace, Cond.code yX1_isGrace cX1_isGrace 1 (some .boolean), Cond.static yX1_worthOf, Cond.code yX1_worthOf cX1_worthOf 1 (some .int), Cond.methodLink RX0 49 yX0_isWayFree, Cond.instanceMethod yX0_isWayFree, Cond.selects RX0 yX0_isWayFree yX0_isWayFree, Cond.code yX0_isWayFree cX0_isWayFree 6 (some .boolean), Cond.methodLink RX0 60 Lib.Math.min.name, Cond.static Lib.Math.min.name, Cond.initialized "java/lang/Math", Cond.code Lib.Math.min.name Lib.Math.min.code 2 (some .int)]
def wsX1_move_r3 : List Cond := [Cond.methodLink RX0 29 yX0_squareAt, Cond.instanceMethod yX0_squareAt, Cond.selects RX0 yX0_squareAt yX0_squareAt, Cond.code yX0_squareAt cX0_squareAt 3 (some .int), Cond.static yX1_otherTeam, Cond.code yX1_otherTeam cX1_otherTeam 1 (some .int), Cond.methodLink RX0 68 yX0_countOn, Cond.instanceMethod yX0_countOn, Cond.selects RX0 yX0_countOn yX0_countOn, Cond.code yX0_countOn cX0_countOn 4 (some .int), Cond.fieldLink RX0 15 "PachisiYard$Board" "counts" "[I", Cond.methodLink RX0 53 yX0_isCapture, Cond.instanceMethod yX0_isCapture, Cond.selects RX0 yX0_isCapture yX0_isCapture, Cond.code yX0_isCapture cX0_isCapture 3 (some .boolean), Cond.static yX1_isSafeSquare, Cond.code yX1_isSafeSquare cX1_isSafeSquare 2 (some .boolean), Cond.methodLink RX1 81 yX0_isCapture, Cond.methodLink RX1 84 yX1_otherTeam, Cond.methodLink RX1 87 yX0_squareAt, Cond.methodLink RX1 90 yX0_sendToYard, Cond.instanceMethod yX0_sendToYard, Cond.selects RX0 yX0_sendToYard yX0_sendToYard, Cond.code yX0_sendToYard cX0_sendToYard 5 none]
def wsX1_move_r4 : List Cond := [Cond.methodLink RX0 39 yX0_place, Cond.instanceMethod yX0_place, Cond.selects RX0 yX0_place yX0_place, Cond.code yX0_place cX0_place 5 none, Cond.static yX1_teamOf, Cond.code yX1_teamOf cX1_teamOf 1 (some .int), Cond.methodLink RX0 35 yX0_addOn, Cond.instanceMethod yX0_addOn, Cond.selects RX0 yX0_addOn yX0_addOn, Cond.code yX0_addOn cX0_addOn 5 none, Cond.methodLink RX1 94 yX1_countCapture, Cond.instanceMethod yX1_countCapture, Cond.selects RX1 yX1_countCapture yX1_countCapture, Cond.code yX1_countCapture cX1_countCapture 2 none, Cond.fieldLink RX1 16 "PachisiYard" "captureCounts" "[I", Cond.methodLink RX1 97 yX0_place, Cond.methodLink RX1 101 yX1_endMove, Cond.instanceMethod yX1_endMove, Cond.selects RX1 yX1_endMove yX1_endMove, Cond.code yX1_endMove cX1_endMove 2 none, Cond.methodLink RX1 166 yX0_isTeamHome, Cond.instanceMethod yX0_isTeamHome, Cond.selects RX0 yX0_isTeamHome yX0_isTeamHome, Cond.code yX0_isTeamHome cX0_isTeamHome 2 (some .boolean)]
def wsX1_move_r5 : List Cond := [Cond.methodLink RX1 54 yX1_isGrace, Cond.methodLink RX1 51 yX1_passTurn, Cond.instanceMethod yX1_passTurn, Cond.selects RX1 yX1_passTurn yX1_passTurn, Cond.code yX1_passTurn cX1_passTurn 1 none, Cond.fieldLink RX1 24 "PachisiYard" "gracesInRow" "I"]
def wsX1_move : List Cond := .code yX1_move cX1_move 5 (some .int) :: ((wsX1_move_r1 ++ (wsX1_move_r2 ++ (wsX1_move_r3 ++ (wsX1_move_r4 ++ wsX1_move_r5)))) ++ wsX10 ++ wsX00 ++ (vx_atS RX1 80 "java/lang/IllegalStateException" ["java/lang/RuntimeException", "java/lang/Exception"]).filter goodWord ++ (vx_atS RX1 155 "java/lang/IndexOutOfBoundsException" ["java/lang/RuntimeException", "java/lang/Exception"]).filter goodWord)
def wsX1_phase : List Cond := .code yX1_phase cX1_phase 1 (some .int) :: ([.fieldLink RX1 27 "PachisiYard" "stage" "I"] ++ wsX10)
def wsX1_onTurn : List Cond := .code yX1_onTurn cX1_onTurn 1 (some .int) :: ([.fieldLink RX1 20 "PachisiYard" "turn" "I"] ++ wsX10)
def wsX1_mover : List Cond := .code yX1_mover cX1_mover 1 (some .int) :: ([.fieldLink RX1 10 "PachisiYard" "board" "LPachisiYard$Board;", .fieldLink RX1 20 "PachisiYard" "turn" "I", .methodLink RX1 58 yX0_moverFor, .instanceMethod yX0_moverFor, .selects RX0 yX0_moverFor yX0_moverFor, .initialized RX0, .code yX0_moverFor cX0_moverFor 2 (some .int), .methodLink RX0 22 yX0_countHome, .instanceMethod yX0_countHome, .selects RX0 yX0_countHome yX0_countHome, .code yX0_countHome cX0_countHome 4 (some .int), .methodLink RX0 18 yX0_positionOf, .instanceMethod yX0_positionOf, .selects RX0 yX0_positionOf yX0_positionOf, .code yX0_positionOf cX0_positionOf 4 (some .int), .fieldLink RX0 9 "PachisiYard$Board" "positions" "[I", .static yX1_partnerOf, .initialized RX1, .code yX1_partnerOf cX1_partnerOf 1 (some .int)] ++ wsX10 ++ wsX00)
def wsX1_movable_r1 : List Cond := [Cond.fieldLink RX1 10 "PachisiYard" "board" "LPachisiYard$Board;", Cond.fieldLink RX1 20 "PachisiYard" "turn" "I", Cond.fieldLink RX1 30 "PachisiYard" "mouthsThrown" "I", Cond.methodLink RX1 69 yX1_requireMoveDue, Cond.instanceMethod yX1_requireMoveDue, Cond.selects RX1 yX1_requireMoveDue yX1_requireMoveDue, Cond.initialized RX1, Cond.code yX1_requireMoveDue cX1_requireMoveDue 1 none, Cond.classLink RX1 76 "java/lang/IllegalStateException", Cond.initialized "java/lang/IllegalStateException", Cond.fieldLink RX1 27 "PachisiYard" "stage" "I", Cond.methodLink RX1 58 yX0_moverFor, Cond.instanceMethod yX0_moverFor, Cond.selects RX0 yX0_moverFor yX0_moverFor, Cond.initialized RX0, Cond.code yX0_moverFor cX0_moverFor 2 (some .int), Cond.methodLink RX0 22 yX0_countHome, Cond.instanceMethod yX0_countHome, Cond.selects RX0 yX0_countHome yX0_countHome, Cond.code yX0_countHome cX0_countHome 4 (some .int), Cond.methodLink RX0 18 yX0_positionOf, Cond.instanceMethod yX0_positionOf, Cond.selects RX0 yX0_positionOf yX0_positionOf, Cond.code yX0_positionOf cX0_positionOf 4 (some .int)]
def wsX1_movable_r2 : List Cond := [Cond.fieldLink RX0 9 "PachisiYard$Board" "positions" "[I", Cond.static yX1_partnerOf, Cond.code yX1_partnerOf cX1_partnerOf 1 (some .int), Cond.methodLink RX1 61 yX0_movableSet, Cond.instanceMethod yX0_movableSet, Cond.selects RX0 yX0_movableSet yX0_movableSet, Cond.code yX0_movableSet cX0_movableSet 5 (some .int), Cond.methodLink RX0 71 yX0_targetOf, Cond.instanceMethod yX0_targetOf, Cond.selects RX0 yX0_targetOf yX0_targetOf, Cond.code yX0_targetOf cX0_targetOf 7 (some .int), Cond.static yX1_isGrace, Cond.code yX1_isGrace cX1_isGrace 1 (some .boolean), Cond.static yX1_worthOf, Cond.code yX1_worthOf cX1_worthOf 1 (some .int), Cond.methodLink RX0 49 yX0_isWayFree, Cond.instanceMethod yX0_isWayFree, Cond.selects RX0 yX0_isWayFree yX0_isWayFree, Cond.code yX0_isWayFree cX0_isWayFree 6 (some .boolean), Cond.methodLink RX0 60 Lib.Math.min.name, Cond.static Lib.Math.min.name, Cond.initialized "java/lang/Math", Cond.code Lib.Math.min.name Lib.Math.min.code 2 (some .int), Cond.methodLink RX0 29 yX0_squareAt]
def wsX1_movable_r3 : List Cond := [Cond.instanceMethod yX0_squareAt, Cond.selects RX0 yX0_squareAt yX0_squareAt, Cond.code yX0_squareAt cX0_squareAt 3 (some .int), Cond.static yX1_otherTeam, Cond.code yX1_otherTeam cX1_otherTeam 1 (some .int), Cond.methodLink RX0 68 yX0_countOn, Cond.instanceMethod yX0_countOn, Cond.selects RX0 yX0_countOn yX0_countOn, Cond.code yX0_countOn cX0_countOn 4 (some .int), Cond.fieldLink RX0 15 "PachisiYard$Board" "counts" "[I", Cond.methodLink RX0 53 yX0_isCapture, Cond.instanceMethod yX0_isCapture, Cond.selects RX0 yX0_isCapture yX0_isCapture, Cond.code yX0_isCapture cX0_isCapture 3 (some .boolean), Cond.static yX1_isSafeSquare, Cond.code yX1_isSafeSquare cX1_isSafeSquare 2 (some .boolean)]
def wsX1_movable : List Cond := .code yX1_movable cX1_movable 1 (some .int) :: ((wsX1_movable_r1 ++ (wsX1_movable_r2 ++ wsX1_movable_r3)) ++ wsX10 ++ wsX00 ++ (vx_atS RX1 80 "java/lang/IllegalStateException" ["java/lang/RuntimeException", "java/lang/Exception"]).filter goodWord)
def wsX1_graces : List Cond := .code yX1_graces cX1_graces 1 (some .int) :: ([.fieldLink RX1 24 "PachisiYard" "gracesInRow" "I"] ++ wsX10)
def wsX1_requirePlayer : List Cond := .code yX1_requirePlayer cX1_requirePlayer 1 none :: ([.classLink RX1 151 "java/lang/IndexOutOfBoundsException", .initialized "java/lang/IndexOutOfBoundsException"] ++ (vx_atS RX1 155 "java/lang/IndexOutOfBoundsException" ["java/lang/RuntimeException", "java/lang/Exception"]).filter goodWord)
def wsX1_position : List Cond := .code yX1_position cX1_position 3 (some .int) :: ([.fieldLink RX1 10 "PachisiYard" "board" "LPachisiYard$Board;", .methodLink RX1 105 yX1_requirePlayer, .static yX1_requirePlayer, .initialized RX1, .code yX1_requirePlayer cX1_requirePlayer 1 none, .classLink RX1 151 "java/lang/IndexOutOfBoundsException", .initialized "java/lang/IndexOutOfBoundsException", .methodLink RX1 65 yX1_requirePiece, .static yX1_requirePiece, .code yX1_requirePiece cX1_requirePiece 1 none, .methodLink RX1 108 yX0_positionOf, .instanceMethod yX0_positionOf, .selects RX0 yX0_positionOf yX0_positionOf, .initialized RX0, .code yX0_positionOf cX0_positionOf 4 (some .int), .fieldLink RX0 9 "PachisiYard$Board" "positions" "[I"] ++ wsX10 ++ wsX00 ++ (vx_atS RX1 155 "java/lang/IndexOutOfBoundsException" ["java/lang/RuntimeException", "java/lang/Exception"]).filter goodWord)
def wsX1_square : List Cond := .code yX1_square cX1_square 3 (some .int) :: ([.fieldLink RX1 10 "PachisiYard" "board" "LPachisiYard$Board;", .methodLink RX1 105 yX1_requirePlayer, .static yX1_requirePlayer, .initialized RX1, .code yX1_requirePlayer cX1_requirePlayer 1 none, .classLink RX1 151 "java/lang/IndexOutOfBoundsException", .initialized "java/lang/IndexOutOfBoundsException", .methodLink RX1 65 yX1_requirePiece, .static yX1_requirePiece, .code yX1_requirePiece cX1_requirePiece 1 none, .methodLink RX1 108 yX0_positionOf, .instanceMethod yX0_positionOf, .selects RX0 yX0_positionOf yX0_positionOf, .initialized RX0, .code yX0_positionOf cX0_positionOf 4 (some .int), .fieldLink RX0 9 "PachisiYard$Board" "positions" "[I", .methodLink RX1 87 yX0_squareAt, .instanceMethod yX0_squareAt, .selects RX0 yX0_squareAt yX0_squareAt, .code yX0_squareAt cX0_squareAt 3 (some .int)] ++ wsX10 ++ wsX00 ++ (vx_atS RX1 155 "java/lang/IndexOutOfBoundsException" ["java/lang/RuntimeException", "java/lang/Exception"]).filter goodWord)
def wsX1_requireSquare : List Cond := .code yX1_requireSquare cX1_requireSquare 1 none :: ([.classLink RX1 151 "java/lang/IndexOutOfBoundsException", .initialized "java/lang/IndexOutOfBoundsException"] ++ (vx_atS RX1 155 "java/lang/IndexOutOfBoundsException" ["java/lang/RuntimeException", "java/lang/Exception"]).filter goodWord)
def wsX1_requireTeam : List Cond := .code yX1_requireTeam cX1_requireTeam 1 none :: ([.classLink RX1 33 "java/lang/IllegalArgumentException", .initialized "java/lang/IllegalArgumentException"] ++ (vx_atS RX1 37 "java/lang/IllegalArgumentException" ["java/lang/RuntimeException", "java/lang/Exception"]).filter goodWord)
def wsX1_standing : List Cond := .code yX1_standing cX1_standing 3 (some .int) :: ([.fieldLink RX1 10 "PachisiYard" "board" "LPachisiYard$Board;", .methodLink RX1 111 yX1_requireSquare, .static yX1_requireSquare, .initialized RX1, .code yX1_requireSquare cX1_requireSquare 1 none, .classLink RX1 151 "java/lang/IndexOutOfBoundsException", .initialized "java/lang/IndexOutOfBoundsException", .methodLink RX1 114 yX1_requireTeam, .static yX1_requireTeam, .code yX1_requireTeam cX1_requireTeam 1 none, .classLink RX1 33 "java/lang/IllegalArgumentException", .initialized "java/lang/IllegalArgumentException", .methodLink RX1 117 yX0_countOn, .instanceMethod yX0_countOn, .selects RX0 yX0_countOn yX0_countOn, .initialized RX0, .code yX0_countOn cX0_countOn 4 (some .int), .fieldLink RX0 15 "PachisiYard$Board" "counts" "[I"] ++ wsX10 ++ wsX00 ++ (vx_atS RX1 155 "java/lang/IndexOutOfBoundsException" ["java/lang/RuntimeException", "java/lang/Exception"]).filter goodWord ++ (vx_atS RX1 37 "java/lang/IllegalArgumentException" ["java/lang/RuntimeException", "java/lang/Exception"]).filter goodWord)
def wsX1_isSafe : List Cond := .code yX1_isSafe cX1_isSafe 2 (some .boolean) :: ([.methodLink RX1 111 yX1_requireSquare, .static yX1_requireSquare, .initialized RX1, .code yX1_requireSquare cX1_requireSquare 1 none, .classLink RX1 151 "java/lang/IndexOutOfBoundsException", .initialized "java/lang/IndexOutOfBoundsException", .methodLink RX1 120 yX1_isSafeSquare, .static yX1_isSafeSquare, .code yX1_isSafeSquare cX1_isSafeSquare 2 (some .boolean)] ++ (vx_atS RX1 155 "java/lang/IndexOutOfBoundsException" ["java/lang/RuntimeException", "java/lang/Exception"]).filter goodWord)
def wsX1_home : List Cond := .code yX1_home cX1_home 2 (some .int) :: ([.fieldLink RX1 10 "PachisiYard" "board" "LPachisiYard$Board;", .methodLink RX1 105 yX1_requirePlayer, .static yX1_requirePlayer, .initialized RX1, .code yX1_requirePlayer cX1_requirePlayer 1 none, .classLink RX1 151 "java/lang/IndexOutOfBoundsException", .initialized "java/lang/IndexOutOfBoundsException", .methodLink RX1 123 yX0_countHome, .instanceMethod yX0_countHome, .selects RX0 yX0_countHome yX0_countHome, .initialized RX0, .code yX0_countHome cX0_countHome 4 (some .int), .methodLink RX0 18 yX0_positionOf, .instanceMethod yX0_positionOf, .selects RX0 yX0_positionOf yX0_positionOf, .code yX0_positionOf cX0_positionOf 4 (some .int), .fieldLink RX0 9 "PachisiYard$Board" "positions" "[I"] ++ wsX10 ++ wsX00 ++ (vx_atS RX1 155 "java/lang/IndexOutOfBoundsException" ["java/lang/RuntimeException", "java/lang/Exception"]).filter goodWord)
def wsX1_captures : List Cond := .code yX1_captures cX1_captures 2 (some .int) :: ([.fieldLink RX1 16 "PachisiYard" "captureCounts" "[I", .methodLink RX1 105 yX1_requirePlayer, .static yX1_requirePlayer, .initialized RX1, .code yX1_requirePlayer cX1_requirePlayer 1 none, .classLink RX1 151 "java/lang/IndexOutOfBoundsException", .initialized "java/lang/IndexOutOfBoundsException"] ++ wsX10 ++ (vx_atS RX1 155 "java/lang/IndexOutOfBoundsException" ["java/lang/RuntimeException", "java/lang/Exception"]).filter goodWord)
def wsX1_winner : List Cond := .code yX1_winner cX1_winner 1 (some .int) :: ([.fieldLink RX1 27 "PachisiYard" "stage" "I", .fieldLink RX1 20 "PachisiYard" "turn" "I", .methodLink RX1 126 yX1_teamOf, .static yX1_teamOf, .initialized RX1, .code yX1_teamOf cX1_teamOf 1 (some .int)] ++ wsX10)
def wsX1_distance : List Cond := .code yX1_distance cX1_distance 2 (some .int) :: ([.fieldLink RX1 10 "PachisiYard" "board" "LPachisiYard$Board;", .methodLink RX1 114 yX1_requireTeam, .static yX1_requireTeam, .initialized RX1, .code yX1_requireTeam cX1_requireTeam 1 none, .classLink RX1 33 "java/lang/IllegalArgumentException", .initialized "java/lang/IllegalArgumentException", .methodLink RX1 129 yX0_distanceOf, .instanceMethod yX0_distanceOf, .selects RX0 yX0_distanceOf yX0_distanceOf, .initialized RX0, .code yX0_distanceOf cX0_distanceOf 4 (some .int), .methodLink RX0 18 yX0_positionOf, .instanceMethod yX0_positionOf, .selects RX0 yX0_positionOf yX0_positionOf, .code yX0_positionOf cX0_positionOf 4 (some .int), .fieldLink RX0 9 "PachisiYard$Board" "positions" "[I"] ++ wsX10 ++ wsX00 ++ (vx_atS RX1 37 "java/lang/IllegalArgumentException" ["java/lang/RuntimeException", "java/lang/Exception"]).filter goodWord)
def wsX1_waysOf : List Cond := .code yX1_waysOf cX1_waysOf 1 (some .int) :: ([.fieldLink RX1 183 "PachisiYard" "WAYS_BY_MOUTHS" "[I"])
def wsX1_ways_r1 : List Cond := [Cond.classLink RX1 33 "java/lang/IllegalArgumentException", Cond.initialized "java/lang/IllegalArgumentException", Cond.fieldLink RX1 10 "PachisiYard" "board" "LPachisiYard$Board;", Cond.fieldLink RX1 20 "PachisiYard" "turn" "I", Cond.fieldLink RX1 24 "PachisiYard" "gracesInRow" "I", Cond.methodLink RX1 40 yX1_requireThrowDue, Cond.instanceMethod yX1_requireThrowDue, Cond.selects RX1 yX1_requireThrowDue yX1_requireThrowDue, Cond.initialized RX1, Cond.code yX1_requireThrowDue cX1_requireThrowDue 1 none, Cond.classLink RX1 76 "java/lang/IllegalStateException", Cond.initialized "java/lang/IllegalStateException", Cond.fieldLink RX1 27 "PachisiYard" "stage" "I", Cond.methodLink RX1 58 yX0_moverFor, Cond.instanceMethod yX0_moverFor, Cond.selects RX0 yX0_moverFor yX0_moverFor, Cond.initialized RX0, Cond.code yX0_moverFor cX0_moverFor 2 (some .int), Cond.methodLink RX0 22 yX0_countHome, Cond.instanceMethod yX0_countHome, Cond.selects RX0 yX0_countHome yX0_countHome, Cond.code yX0_countHome cX0_countHome 4 (some .int), Cond.methodLink RX0 18 yX0_positionOf, Cond.instanceMethod yX0_positionOf]
def wsX1_ways_r2 : List Cond := [Cond.selects RX0 yX0_positionOf yX0_positionOf, Cond.code yX0_positionOf cX0_positionOf 4 (some .int), Cond.fieldLink RX0 9 "PachisiYard$Board" "positions" "[I", Cond.static yX1_partnerOf, Cond.code yX1_partnerOf cX1_partnerOf 1 (some .int), Cond.methodLink RX1 47 yX1_isGraceTooMany, Cond.static yX1_isGraceTooMany, Cond.code yX1_isGraceTooMany cX1_isGraceTooMany 2 (some .boolean), Cond.methodLink RX1 54 yX1_isGrace, Cond.static yX1_isGrace, Cond.code yX1_isGrace cX1_isGrace 1 (some .boolean), Cond.methodLink RX1 134 yX0_canDo, Cond.instanceMethod yX0_canDo, Cond.selects RX0 yX0_canDo yX0_canDo, Cond.code yX0_canDo cX0_canDo 6 (some .boolean), Cond.methodLink RX0 71 yX0_targetOf, Cond.instanceMethod yX0_targetOf, Cond.selects RX0 yX0_targetOf yX0_targetOf, Cond.code yX0_targetOf cX0_targetOf 7 (some .int), Cond.static yX1_worthOf, Cond.code yX1_worthOf cX1_worthOf 1 (some .int), Cond.methodLink RX0 49 yX0_isWayFree, Cond.instanceMethod yX0_isWayFree, Cond.selects RX0 yX0_isWayFree yX0_isWayFree]
def wsX1_ways_r3 : List Cond := [Cond.code yX0_isWayFree cX0_isWayFree 6 (some .boolean), Cond.methodLink RX0 60 Lib.Math.min.name, Cond.static Lib.Math.min.name, Cond.initialized "java/lang/Math", Cond.code Lib.Math.min.name Lib.Math.min.code 2 (some .int), Cond.methodLink RX0 29 yX0_squareAt, Cond.instanceMethod yX0_squareAt, Cond.selects RX0 yX0_squareAt yX0_squareAt, Cond.code yX0_squareAt cX0_squareAt 3 (some .int), Cond.static yX1_otherTeam, Cond.code yX1_otherTeam cX1_otherTeam 1 (some .int), Cond.methodLink RX0 68 yX0_countOn, Cond.instanceMethod yX0_countOn, Cond.selects RX0 yX0_countOn yX0_countOn, Cond.code yX0_countOn cX0_countOn 4 (some .int), Cond.fieldLink RX0 15 "PachisiYard$Board" "counts" "[I", Cond.methodLink RX0 53 yX0_isCapture, Cond.instanceMethod yX0_isCapture, Cond.selects RX0 yX0_isCapture yX0_isCapture, Cond.code yX0_isCapture cX0_isCapture 3 (some .boolean), Cond.static yX1_isSafeSquare, Cond.code yX1_isSafeSquare cX1_isSafeSquare 2 (some .boolean), Cond.methodLink RX0 75 yX0_isDone, Cond.instanceMethod yX0_isDone]
def wsX1_ways_r4 : List Cond := [Cond.selects RX0 yX0_isDone yX0_isDone, Cond.code yX0_isDone cX0_isDone 4 (some .boolean), Cond.methodLink RX1 138 yX1_waysOf, Cond.static yX1_waysOf, Cond.code yX1_waysOf cX1_waysOf 1 (some .int), Cond.fieldLink RX1 183 "PachisiYard" "WAYS_BY_MOUTHS" "[I"]
def wsX1_ways : List Cond := .code yX1_ways cX1_ways 5 (some .int) :: ((wsX1_ways_r1 ++ (wsX1_ways_r2 ++ (wsX1_ways_r3 ++ wsX1_ways_r4))) ++ wsX10 ++ wsX00 ++ (vx_atS RX1 37 "java/lang/IllegalArgumentException" ["java/lang/RuntimeException", "java/lang/Exception"]).filter goodWord ++ (vx_atS RX1 80 "java/lang/IllegalStateException" ["java/lang/RuntimeException", "java/lang/Exception"]).filter goodWord)
def wsX1_threat_r1 : List Cond := [Cond.classLink RX1 33 "java/lang/IllegalArgumentException", Cond.initialized "java/lang/IllegalArgumentException", Cond.fieldLink RX1 10 "PachisiYard" "board" "LPachisiYard$Board;", Cond.methodLink RX1 105 yX1_requirePlayer, Cond.static yX1_requirePlayer, Cond.initialized RX1, Cond.code yX1_requirePlayer cX1_requirePlayer 1 none, Cond.classLink RX1 151 "java/lang/IndexOutOfBoundsException", Cond.initialized "java/lang/IndexOutOfBoundsException", Cond.methodLink RX1 65 yX1_requirePiece, Cond.static yX1_requirePiece, Cond.code yX1_requirePiece cX1_requirePiece 1 none, Cond.methodLink RX1 126 yX1_teamOf, Cond.static yX1_teamOf, Cond.code yX1_teamOf cX1_teamOf 1 (some .int), Cond.methodLink RX1 108 yX0_positionOf, Cond.instanceMethod yX0_positionOf, Cond.selects RX0 yX0_positionOf yX0_positionOf, Cond.initialized RX0, Cond.code yX0_positionOf cX0_positionOf 4 (some .int), Cond.fieldLink RX0 9 "PachisiYard$Board" "positions" "[I", Cond.methodLink RX1 87 yX0_squareAt, Cond.instanceMethod yX0_squareAt, Cond.selects RX0 yX0_squareAt yX0_squareAt]
def wsX1_threat_r2 : List Cond := [Cond.code yX0_squareAt cX0_squareAt 3 (some .int), Cond.methodLink RX1 58 yX0_moverFor, Cond.instanceMethod yX0_moverFor, Cond.selects RX0 yX0_moverFor yX0_moverFor, Cond.code yX0_moverFor cX0_moverFor 2 (some .int), Cond.methodLink RX0 22 yX0_countHome, Cond.instanceMethod yX0_countHome, Cond.selects RX0 yX0_countHome yX0_countHome, Cond.code yX0_countHome cX0_countHome 4 (some .int), Cond.methodLink RX0 18 yX0_positionOf, Cond.static yX1_partnerOf, Cond.code yX1_partnerOf cX1_partnerOf 1 (some .int), Cond.methodLink RX1 143 yX0_canCaptureOn, Cond.instanceMethod yX0_canCaptureOn, Cond.selects RX0 yX0_canCaptureOn yX0_canCaptureOn, Cond.code yX0_canCaptureOn cX0_canCaptureOn 6 (some .boolean), Cond.methodLink RX0 71 yX0_targetOf, Cond.instanceMethod yX0_targetOf, Cond.selects RX0 yX0_targetOf yX0_targetOf, Cond.code yX0_targetOf cX0_targetOf 7 (some .int), Cond.static yX1_isGrace, Cond.code yX1_isGrace cX1_isGrace 1 (some .boolean), Cond.static yX1_worthOf, Cond.code yX1_worthOf cX1_worthOf 1 (some .int)]
def wsX1_threat_r3 : List Cond := [Cond.methodLink RX0 49 yX0_isWayFree, Cond.instanceMethod yX0_isWayFree, Cond.selects RX0 yX0_isWayFree yX0_isWayFree, Cond.code yX0_isWayFree cX0_isWayFree 6 (some .boolean), Cond.methodLink RX0 60 Lib.Math.min.name, Cond.static Lib.Math.min.name, Cond.initialized "java/lang/Math", Cond.code Lib.Math.min.name Lib.Math.min.code 2 (some .int), Cond.methodLink RX0 29 yX0_squareAt, Cond.static yX1_otherTeam, Cond.code yX1_otherTeam cX1_otherTeam 1 (some .int), Cond.methodLink RX0 68 yX0_countOn, Cond.instanceMethod yX0_countOn, Cond.selects RX0 yX0_countOn yX0_countOn, Cond.code yX0_countOn cX0_countOn 4 (some .int), Cond.fieldLink RX0 15 "PachisiYard$Board" "counts" "[I", Cond.methodLink RX0 53 yX0_isCapture, Cond.instanceMethod yX0_isCapture, Cond.selects RX0 yX0_isCapture yX0_isCapture, Cond.code yX0_isCapture cX0_isCapture 3 (some .boolean), Cond.static yX1_isSafeSquare, Cond.code yX1_isSafeSquare cX1_isSafeSquare 2 (some .boolean), Cond.methodLink RX1 138 yX1_waysOf, Cond.static yX1_waysOf]
def wsX1_threat_r4 : List Cond := [Cond.code yX1_waysOf cX1_waysOf 1 (some .int), Cond.fieldLink RX1 183 "PachisiYard" "WAYS_BY_MOUTHS" "[I"]
def wsX1_threat : List Cond := .code yX1_threat cX1_threat 8 (some .int) :: ((wsX1_threat_r1 ++ (wsX1_threat_r2 ++ (wsX1_threat_r3 ++ wsX1_threat_r4))) ++ wsX10 ++ wsX00 ++ (vx_atS RX1 37 "java/lang/IllegalArgumentException" ["java/lang/RuntimeException", "java/lang/Exception"]).filter goodWord ++ (vx_atS RX1 155 "java/lang/IndexOutOfBoundsException" ["java/lang/RuntimeException", "java/lang/Exception"]).filter goodWord)
def wsX1_certainty : List Cond := .code yX1_certainty cX1_certainty 3 (some .int) :: ([])
def wsX1_chanceAfter_r1 : List Cond := [Cond.fieldLink RX1 10 "PachisiYard" "board" "LPachisiYard$Board;", Cond.fieldLink RX1 20 "PachisiYard" "turn" "I", Cond.methodLink RX1 47 yX1_isGraceTooMany, Cond.static yX1_isGraceTooMany, Cond.initialized RX1, Cond.code yX1_isGraceTooMany cX1_isGraceTooMany 2 (some .boolean), Cond.methodLink RX1 54 yX1_isGrace, Cond.static yX1_isGrace, Cond.code yX1_isGrace cX1_isGrace 1 (some .boolean), Cond.methodLink RX1 58 yX0_moverFor, Cond.instanceMethod yX0_moverFor, Cond.selects RX0 yX0_moverFor yX0_moverFor, Cond.initialized RX0, Cond.code yX0_moverFor cX0_moverFor 2 (some .int), Cond.methodLink RX0 22 yX0_countHome, Cond.instanceMethod yX0_countHome, Cond.selects RX0 yX0_countHome yX0_countHome, Cond.code yX0_countHome cX0_countHome 4 (some .int), Cond.methodLink RX0 18 yX0_positionOf, Cond.instanceMethod yX0_positionOf, Cond.selects RX0 yX0_positionOf yX0_positionOf, Cond.code yX0_positionOf cX0_positionOf 4 (some .int), Cond.fieldLink RX0 9 "PachisiYard$Board" "positions" "[I", Cond.static yX1_partnerOf]
def wsX1_chanceAfter_r2 : List Cond := [Cond.code yX1_partnerOf cX1_partnerOf 1 (some .int), Cond.methodLink RX1 134 yX0_canDo, Cond.instanceMethod yX0_canDo, Cond.selects RX0 yX0_canDo yX0_canDo, Cond.code yX0_canDo cX0_canDo 6 (some .boolean), Cond.methodLink RX0 71 yX0_targetOf, Cond.instanceMethod yX0_targetOf, Cond.selects RX0 yX0_targetOf yX0_targetOf, Cond.code yX0_targetOf cX0_targetOf 7 (some .int), Cond.static yX1_worthOf, Cond.code yX1_worthOf cX1_worthOf 1 (some .int), Cond.methodLink RX0 49 yX0_isWayFree, Cond.instanceMethod yX0_isWayFree, Cond.selects RX0 yX0_isWayFree yX0_isWayFree, Cond.code yX0_isWayFree cX0_isWayFree 6 (some .boolean), Cond.methodLink RX0 60 Lib.Math.min.name, Cond.static Lib.Math.min.name, Cond.initialized "java/lang/Math", Cond.code Lib.Math.min.name Lib.Math.min.code 2 (some .int), Cond.methodLink RX0 29 yX0_squareAt, Cond.instanceMethod yX0_squareAt, Cond.selects RX0 yX0_squareAt yX0_squareAt, Cond.code yX0_squareAt cX0_squareAt 3 (some .int), Cond.static yX1_otherTeam]
def wsX1_chanceAfter_r3 : List Cond := [Cond.code yX1_otherTeam cX1_otherTeam 1 (some .int), Cond.methodLink RX0 68 yX0_countOn, Cond.instanceMethod yX0_countOn, Cond.selects RX0 yX0_countOn yX0_countOn, Cond.code yX0_countOn cX0_countOn 4 (some .int), Cond.fieldLink RX0 15 "PachisiYard$Board" "counts" "[I", Cond.methodLink RX0 53 yX0_isCapture, Cond.instanceMethod yX0_isCapture, Cond.selects RX0 yX0_isCapture yX0_isCapture, Cond.code yX0_isCapture cX0_isCapture 3 (some .boolean), Cond.static yX1_isSafeSquare, Cond.code yX1_isSafeSquare cX1_isSafeSquare 2 (some .boolean), Cond.methodLink RX0 75 yX0_isDone, Cond.instanceMethod yX0_isDone, Cond.selects RX0 yX0_isDone yX0_isDone, Cond.code yX0_isDone cX0_isDone 4 (some .boolean), Cond.methodLink RX1 172 yX1_certainty, Cond.static yX1_certainty, Cond.code yX1_certainty cX1_certainty 3 (some .int), Cond.methodLink RX1 175 yX1_chanceAfterGrace, Cond.instanceMethod yX1_chanceAfterGrace, Cond.selects RX1 yX1_chanceAfterGrace yX1_chanceAfterGrace, Cond.code yX1_chanceAfterGrace cX1_chanceAfterGrace 9 (some .int), Cond.methodLink RX1 178 Lib.Math.max.name]
def wsX1_chanceAfter_r4 : List Cond := [Cond.static Lib.Math.max.name, Cond.code Lib.Math.max.name Lib.Math.max.code 2 (some .int), Cond.methodLink RX1 61 yX0_movableSet, Cond.instanceMethod yX0_movableSet, Cond.selects RX0 yX0_movableSet yX0_movableSet, Cond.code yX0_movableSet cX0_movableSet 5 (some .int), Cond.methodLink RX1 148 yX1_chanceWithin, Cond.instanceMethod yX1_chanceWithin, Cond.selects RX1 yX1_chanceWithin yX1_chanceWithin, Cond.methodLink RX1 72 yX0_targetOf, Cond.methodLink RX1 108 yX0_positionOf, Cond.methodLink RX1 97 yX0_place, Cond.instanceMethod yX0_place, Cond.selects RX0 yX0_place yX0_place, Cond.code yX0_place cX0_place 5 none, Cond.static yX1_teamOf, Cond.code yX1_teamOf cX1_teamOf 1 (some .int), Cond.methodLink RX0 35 yX0_addOn, Cond.instanceMethod yX0_addOn, Cond.selects RX0 yX0_addOn yX0_addOn, Cond.code yX0_addOn cX0_addOn 5 none, Cond.code yX1_chanceWithin cX1_chanceWithin 5 (some .int), Cond.methodLink RX1 138 yX1_waysOf, Cond.static yX1_waysOf]
def wsX1_chanceAfter_r5 : List Cond := [Cond.code yX1_waysOf cX1_waysOf 1 (some .int), Cond.fieldLink RX1 183 "PachisiYard" "WAYS_BY_MOUTHS" "[I", Cond.methodLink RX1 169 yX1_chanceAfter, Cond.instanceMethod yX1_chanceAfter, Cond.selects RX1 yX1_chanceAfter yX1_chanceAfter]
def wsX1_chanceAfter : List Cond := .code yX1_chanceAfter cX1_chanceAfter 4 (some .int) :: ((wsX1_chanceAfter_r1 ++ (wsX1_chanceAfter_r2 ++ (wsX1_chanceAfter_r3 ++ (wsX1_chanceAfter_r4 ++ wsX1_chanceAfter_r5)))) ++ wsX10 ++ wsX00)
def wsX1_chanceAfterGrace_r1 : List Cond := [Cond.fieldLink RX1 10 "PachisiYard" "board" "LPachisiYard$Board;", Cond.fieldLink RX1 20 "PachisiYard" "turn" "I", Cond.methodLink RX1 178 Lib.Math.max.name, Cond.static Lib.Math.max.name, Cond.initialized "java/lang/Math", Cond.code Lib.Math.max.name Lib.Math.max.code 2 (some .int), Cond.methodLink RX1 58 yX0_moverFor, Cond.instanceMethod yX0_moverFor, Cond.selects RX0 yX0_moverFor yX0_moverFor, Cond.initialized RX0, Cond.code yX0_moverFor cX0_moverFor 2 (some .int), Cond.methodLink RX0 22 yX0_countHome, Cond.instanceMethod yX0_countHome, Cond.selects RX0 yX0_countHome yX0_countHome, Cond.code yX0_countHome cX0_countHome 4 (some .int), Cond.methodLink RX0 18 yX0_positionOf, Cond.instanceMethod yX0_positionOf, Cond.selects RX0 yX0_positionOf yX0_positionOf, Cond.code yX0_positionOf cX0_positionOf 4 (some .int), Cond.fieldLink RX0 9 "PachisiYard$Board" "positions" "[I", Cond.static yX1_partnerOf, Cond.initialized RX1, Cond.code yX1_partnerOf cX1_partnerOf 1 (some .int), Cond.methodLink RX1 61 yX0_movableSet]
def wsX1_chanceAfterGrace_r2 : List Cond := [Cond.instanceMethod yX0_movableSet, Cond.selects RX0 yX0_movableSet yX0_movableSet, Cond.code yX0_movableSet cX0_movableSet 5 (some .int), Cond.methodLink RX0 71 yX0_targetOf, Cond.instanceMethod yX0_targetOf, Cond.selects RX0 yX0_targetOf yX0_targetOf, Cond.code yX0_targetOf cX0_targetOf 7 (some .int), Cond.static yX1_isGrace, Cond.code yX1_isGrace cX1_isGrace 1 (some .boolean), Cond.static yX1_worthOf, Cond.code yX1_worthOf cX1_worthOf 1 (some .int), Cond.methodLink RX0 49 yX0_isWayFree, Cond.instanceMethod yX0_isWayFree, Cond.selects RX0 yX0_isWayFree yX0_isWayFree, Cond.code yX0_isWayFree cX0_isWayFree 6 (some .boolean), Cond.methodLink RX0 60 Lib.Math.min.name, Cond.static Lib.Math.min.name, Cond.code Lib.Math.min.name Lib.Math.min.code 2 (some .int), Cond.methodLink RX0 29 yX0_squareAt, Cond.instanceMethod yX0_squareAt, Cond.selects RX0 yX0_squareAt yX0_squareAt, Cond.code yX0_squareAt cX0_squareAt 3 (some .int), Cond.static yX1_otherTeam, Cond.code yX1_otherTeam cX1_otherTeam 1 (some .int)]
def wsX1_chanceAfterGrace_r3 : List Cond := [Cond.methodLink RX0 68 yX0_countOn, Cond.instanceMethod yX0_countOn, Cond.selects RX0 yX0_countOn yX0_countOn, Cond.code yX0_countOn cX0_countOn 4 (some .int), Cond.fieldLink RX0 15 "PachisiYard$Board" "counts" "[I", Cond.methodLink RX0 53 yX0_isCapture, Cond.instanceMethod yX0_isCapture, Cond.selects RX0 yX0_isCapture yX0_isCapture, Cond.code yX0_isCapture cX0_isCapture 3 (some .boolean), Cond.static yX1_isSafeSquare, Cond.code yX1_isSafeSquare cX1_isSafeSquare 2 (some .boolean), Cond.methodLink RX1 148 yX1_chanceWithin, Cond.instanceMethod yX1_chanceWithin, Cond.selects RX1 yX1_chanceWithin yX1_chanceWithin, Cond.methodLink RX1 72 yX0_targetOf, Cond.methodLink RX1 108 yX0_positionOf, Cond.methodLink RX1 97 yX0_place, Cond.instanceMethod yX0_place, Cond.selects RX0 yX0_place yX0_place, Cond.code yX0_place cX0_place 5 none, Cond.static yX1_teamOf, Cond.code yX1_teamOf cX1_teamOf 1 (some .int), Cond.methodLink RX0 35 yX0_addOn, Cond.instanceMethod yX0_addOn]
def wsX1_chanceAfterGrace_r4 : List Cond := [Cond.selects RX0 yX0_addOn yX0_addOn, Cond.code yX0_addOn cX0_addOn 5 none, Cond.code yX1_chanceAfter cX1_chanceAfter 4 (some .int), Cond.methodLink RX1 47 yX1_isGraceTooMany, Cond.static yX1_isGraceTooMany, Cond.code yX1_isGraceTooMany cX1_isGraceTooMany 2 (some .boolean), Cond.methodLink RX1 54 yX1_isGrace, Cond.methodLink RX1 134 yX0_canDo, Cond.instanceMethod yX0_canDo, Cond.selects RX0 yX0_canDo yX0_canDo, Cond.code yX0_canDo cX0_canDo 6 (some .boolean), Cond.methodLink RX0 75 yX0_isDone, Cond.instanceMethod yX0_isDone, Cond.selects RX0 yX0_isDone yX0_isDone, Cond.code yX0_isDone cX0_isDone 4 (some .boolean), Cond.methodLink RX1 172 yX1_certainty, Cond.static yX1_certainty, Cond.code yX1_certainty cX1_certainty 3 (some .int), Cond.methodLink RX1 175 yX1_chanceAfterGrace, Cond.instanceMethod yX1_chanceAfterGrace, Cond.selects RX1 yX1_chanceAfterGrace yX1_chanceAfterGrace, Cond.code yX1_chanceWithin cX1_chanceWithin 5 (some .int), Cond.methodLink RX1 138 yX1_waysOf, Cond.static yX1_waysOf]
def wsX1_chanceAfterGrace_r5 : List Cond := [Cond.code yX1_waysOf cX1_waysOf 1 (some .int), Cond.fieldLink RX1 183 "PachisiYard" "WAYS_BY_MOUTHS" "[I", Cond.methodLink RX1 169 yX1_chanceAfter, Cond.instanceMethod yX1_chanceAfter, Cond.selects RX1 yX1_chanceAfter yX1_chanceAfter]
def wsX1_chanceAfterGrace : List Cond := .code yX1_chanceAfterGrace cX1_chanceAfterGrace 9 (some .int) :: ((wsX1_chanceAfterGrace_r1 ++ (wsX1_chanceAfterGrace_r2 ++ (wsX1_chanceAfterGrace_r3 ++ (wsX1_chanceAfterGrace_r4 ++ wsX1_chanceAfterGrace_r5)))) ++ wsX10 ++ wsX00)
def wsX1_chanceWithin_r1 : List Cond := [Cond.methodLink RX1 138 yX1_waysOf, Cond.static yX1_waysOf, Cond.initialized RX1, Cond.code yX1_waysOf cX1_waysOf 1 (some .int), Cond.fieldLink RX1 183 "PachisiYard" "WAYS_BY_MOUTHS" "[I", Cond.methodLink RX1 169 yX1_chanceAfter, Cond.instanceMethod yX1_chanceAfter, Cond.selects RX1 yX1_chanceAfter yX1_chanceAfter, Cond.code yX1_chanceAfter cX1_chanceAfter 4 (some .int), Cond.fieldLink RX1 10 "PachisiYard" "board" "LPachisiYard$Board;", Cond.fieldLink RX1 20 "PachisiYard" "turn" "I", Cond.methodLink RX1 47 yX1_isGraceTooMany, Cond.static yX1_isGraceTooMany, Cond.code yX1_isGraceTooMany cX1_isGraceTooMany 2 (some .boolean), Cond.methodLink RX1 54 yX1_isGrace, Cond.static yX1_isGrace, Cond.code yX1_isGrace cX1_isGrace 1 (some .boolean), Cond.methodLink RX1 58 yX0_moverFor, Cond.instanceMethod yX0_moverFor, Cond.selects RX0 yX0_moverFor yX0_moverFor, Cond.initialized RX0, Cond.code yX0_moverFor cX0_moverFor 2 (some .int), Cond.methodLink RX0 22 yX0_countHome, Cond.instanceMethod yX0_countHome]
def wsX1_chanceWithin_r2 : List Cond := [Cond.selects RX0 yX0_countHome yX0_countHome, Cond.code yX0_countHome cX0_countHome 4 (some .int), Cond.methodLink RX0 18 yX0_positionOf, Cond.instanceMethod yX0_positionOf, Cond.selects RX0 yX0_positionOf yX0_positionOf, Cond.code yX0_positionOf cX0_positionOf 4 (some .int), Cond.fieldLink RX0 9 "PachisiYard$Board" "positions" "[I", Cond.static yX1_partnerOf, Cond.code yX1_partnerOf cX1_partnerOf 1 (some .int), Cond.methodLink RX1 134 yX0_canDo, Cond.instanceMethod yX0_canDo, Cond.selects RX0 yX0_canDo yX0_canDo, Cond.code yX0_canDo cX0_canDo 6 (some .boolean), Cond.methodLink RX0 71 yX0_targetOf, Cond.instanceMethod yX0_targetOf, Cond.selects RX0 yX0_targetOf yX0_targetOf, Cond.code yX0_targetOf cX0_targetOf 7 (some .int), Cond.static yX1_worthOf, Cond.code yX1_worthOf cX1_worthOf 1 (some .int), Cond.methodLink RX0 49 yX0_isWayFree, Cond.instanceMethod yX0_isWayFree, Cond.selects RX0 yX0_isWayFree yX0_isWayFree, Cond.code yX0_isWayFree cX0_isWayFree 6 (some .boolean), Cond.methodLink RX0 60 Lib.Math.min.name]
def wsX1_chanceWithin_r3 : List Cond := [Cond.static Lib.Math.min.name, Cond.initialized "java/lang/Math", Cond.code Lib.Math.min.name Lib.Math.min.code 2 (some .int), Cond.methodLink RX0 29 yX0_squareAt, Cond.instanceMethod yX0_squareAt, Cond.selects RX0 yX0_squareAt yX0_squareAt, Cond.code yX0_squareAt cX0_squareAt 3 (some .int), Cond.static yX1_otherTeam, Cond.code yX1_otherTeam cX1_otherTeam 1 (some .int), Cond.methodLink RX0 68 yX0_countOn, Cond.instanceMethod yX0_countOn, Cond.selects RX0 yX0_countOn yX0_countOn, Cond.code yX0_countOn cX0_countOn 4 (some .int), Cond.fieldLink RX0 15 "PachisiYard$Board" "counts" "[I", Cond.methodLink RX0 53 yX0_isCapture, Cond.instanceMethod yX0_isCapture, Cond.selects RX0 yX0_isCapture yX0_isCapture, Cond.code yX0_isCapture cX0_isCapture 3 (some .boolean), Cond.static yX1_isSafeSquare, Cond.code yX1_isSafeSquare cX1_isSafeSquare 2 (some .boolean), Cond.methodLink RX0 75 yX0_isDone, Cond.instanceMethod yX0_isDone, Cond.selects RX0 yX0_isDone yX0_isDone, Cond.code yX0_isDone cX0_isDone 4 (some .boolean)]
def wsX1_chanceWithin_r4 : List Cond := [Cond.methodLink RX1 172 yX1_certainty, Cond.static yX1_certainty, Cond.code yX1_certainty cX1_certainty 3 (some .int), Cond.methodLink RX1 175 yX1_chanceAfterGrace, Cond.instanceMethod yX1_chanceAfterGrace, Cond.selects RX1 yX1_chanceAfterGrace yX1_chanceAfterGrace, Cond.code yX1_chanceAfterGrace cX1_chanceAfterGrace 9 (some .int), Cond.methodLink RX1 178 Lib.Math.max.name, Cond.static Lib.Math.max.name, Cond.code Lib.Math.max.name Lib.Math.max.code 2 (some .int), Cond.methodLink RX1 61 yX0_movableSet, Cond.instanceMethod yX0_movableSet, Cond.selects RX0 yX0_movableSet yX0_movableSet, Cond.code yX0_movableSet cX0_movableSet 5 (some .int), Cond.methodLink RX1 148 yX1_chanceWithin, Cond.instanceMethod yX1_chanceWithin, Cond.selects RX1 yX1_chanceWithin yX1_chanceWithin, Cond.methodLink RX1 72 yX0_targetOf, Cond.methodLink RX1 108 yX0_positionOf, Cond.methodLink RX1 97 yX0_place, Cond.instanceMethod yX0_place, Cond.selects RX0 yX0_place yX0_place, Cond.code yX0_place cX0_place 5 none, Cond.static yX1_teamOf]
def wsX1_chanceWithin_r5 : List Cond := [Cond.code yX1_teamOf cX1_teamOf 1 (some .int), Cond.methodLink RX0 35 yX0_addOn, Cond.instanceMethod yX0_addOn, Cond.selects RX0 yX0_addOn yX0_addOn, Cond.code yX0_addOn cX0_addOn 5 none]
def wsX1_chanceWithin : List Cond := .code yX1_chanceWithin cX1_chanceWithin 5 (some .int) :: ((wsX1_chanceWithin_r1 ++ (wsX1_chanceWithin_r2 ++ (wsX1_chanceWithin_r3 ++ (wsX1_chanceWithin_r4 ++ wsX1_chanceWithin_r5)))) ++ wsX10 ++ wsX00)
def wsX1_captureChance_r1 : List Cond := [Cond.classLink RX1 33 "java/lang/IllegalArgumentException", Cond.initialized "java/lang/IllegalArgumentException", Cond.fieldLink RX1 24 "PachisiYard" "gracesInRow" "I", Cond.methodLink RX1 40 yX1_requireThrowDue, Cond.instanceMethod yX1_requireThrowDue, Cond.selects RX1 yX1_requireThrowDue yX1_requireThrowDue, Cond.initialized RX1, Cond.code yX1_requireThrowDue cX1_requireThrowDue 1 none, Cond.classLink RX1 76 "java/lang/IllegalStateException", Cond.initialized "java/lang/IllegalStateException", Cond.fieldLink RX1 27 "PachisiYard" "stage" "I", Cond.methodLink RX1 148 yX1_chanceWithin, Cond.instanceMethod yX1_chanceWithin, Cond.selects RX1 yX1_chanceWithin yX1_chanceWithin, Cond.code yX1_chanceWithin cX1_chanceWithin 5 (some .int), Cond.methodLink RX1 138 yX1_waysOf, Cond.static yX1_waysOf, Cond.code yX1_waysOf cX1_waysOf 1 (some .int), Cond.fieldLink RX1 183 "PachisiYard" "WAYS_BY_MOUTHS" "[I", Cond.methodLink RX1 169 yX1_chanceAfter, Cond.instanceMethod yX1_chanceAfter, Cond.selects RX1 yX1_chanceAfter yX1_chanceAfter, Cond.code yX1_chanceAfter cX1_chanceAfter 4 (some .int), Cond.fieldLink RX1 10 "PachisiYard" "board" "LPachisiYard$Board;"]
def wsX1_captureChance_r2 : List Cond := [Cond.fieldLink RX1 20 "PachisiYard" "turn" "I", Cond.methodLink RX1 47 yX1_isGraceTooMany, Cond.static yX1_isGraceTooMany, Cond.code yX1_isGraceTooMany cX1_isGraceTooMany 2 (some .boolean), Cond.methodLink RX1 54 yX1_isGrace, Cond.static yX1_isGrace, Cond.code yX1_isGrace cX1_isGrace 1 (some .boolean), Cond.methodLink RX1 58 yX0_moverFor, Cond.instanceMethod yX0_moverFor, Cond.selects RX0 yX0_moverFor yX0_moverFor, Cond.initialized RX0, Cond.code yX0_moverFor cX0_moverFor 2 (some .int), Cond.methodLink RX0 22 yX0_countHome, Cond.instanceMethod yX0_countHome, Cond.selects RX0 yX0_countHome yX0_countHome, Cond.code yX0_countHome cX0_countHome 4 (some .int), Cond.methodLink RX0 18 yX0_positionOf, Cond.instanceMethod yX0_positionOf, Cond.selects RX0 yX0_positionOf yX0_positionOf, Cond.code yX0_positionOf cX0_positionOf 4 (some .int), Cond.fieldLink RX0 9 "PachisiYard$Board" "positions" "[I", Cond.static yX1_partnerOf, Cond.code yX1_partnerOf cX1_partnerOf 1 (some .int), Cond.methodLink RX1 134 yX0_canDo]
def wsX1_captureChance_r3 : List Cond := [Cond.instanceMethod yX0_canDo, Cond.selects RX0 yX0_canDo yX0_canDo, Cond.code yX0_canDo cX0_canDo 6 (some .boolean), Cond.methodLink RX0 71 yX0_targetOf, Cond.instanceMethod yX0_targetOf, Cond.selects RX0 yX0_targetOf yX0_targetOf, Cond.code yX0_targetOf cX0_targetOf 7 (some .int), Cond.static yX1_worthOf, Cond.code yX1_worthOf cX1_worthOf 1 (some .int), Cond.methodLink RX0 49 yX0_isWayFree, Cond.instanceMethod yX0_isWayFree, Cond.selects RX0 yX0_isWayFree yX0_isWayFree, Cond.code yX0_isWayFree cX0_isWayFree 6 (some .boolean), Cond.methodLink RX0 60 Lib.Math.min.name, Cond.static Lib.Math.min.name, Cond.initialized "java/lang/Math", Cond.code Lib.Math.min.name Lib.Math.min.code 2 (some .int), Cond.methodLink RX0 29 yX0_squareAt, Cond.instanceMethod yX0_squareAt, Cond.selects RX0 yX0_squareAt yX0_squareAt, Cond.code yX0_squareAt cX0_squareAt 3 (some .int), Cond.static yX1_otherTeam, Cond.code yX1_otherTeam cX1_otherTeam 1 (some .int), Cond.methodLink RX0 68 yX0_countOn]
def wsX1_captureChance_r4 : List Cond := [Cond.instanceMethod yX0_countOn, Cond.selects RX0 yX0_countOn yX0_countOn, Cond.code yX0_countOn cX0_countOn 4 (some .int), Cond.fieldLink RX0 15 "PachisiYard$Board" "counts" "[I", Cond.methodLink RX0 53 yX0_isCapture, Cond.instanceMethod yX0_isCapture, Cond.selects RX0 yX0_isCapture yX0_isCapture, Cond.code yX0_isCapture cX0_isCapture 3 (some .boolean), Cond.static yX1_isSafeSquare, Cond.code yX1_isSafeSquare cX1_isSafeSquare 2 (some .boolean), Cond.methodLink RX0 75 yX0_isDone, Cond.instanceMethod yX0_isDone, Cond.selects RX0 yX0_isDone yX0_isDone, Cond.code yX0_isDone cX0_isDone 4 (some .boolean), Cond.methodLink RX1 172 yX1_certainty, Cond.static yX1_certainty, Cond.code yX1_certainty cX1_certainty 3 (some .int), Cond.methodLink RX1 175 yX1_chanceAfterGrace, Cond.instanceMethod yX1_chanceAfterGrace, Cond.selects RX1 yX1_chanceAfterGrace yX1_chanceAfterGrace, Cond.code yX1_chanceAfterGrace cX1_chanceAfterGrace 9 (some .int), Cond.methodLink RX1 178 Lib.Math.max.name, Cond.static Lib.Math.max.name, Cond.code Lib.Math.max.name Lib.Math.max.code 2 (some .int)]
def wsX1_captureChance_r5 : List Cond := [Cond.methodLink RX1 61 yX0_movableSet, Cond.instanceMethod yX0_movableSet, Cond.selects RX0 yX0_movableSet yX0_movableSet, Cond.code yX0_movableSet cX0_movableSet 5 (some .int), Cond.methodLink RX1 72 yX0_targetOf, Cond.methodLink RX1 108 yX0_positionOf, Cond.methodLink RX1 97 yX0_place, Cond.instanceMethod yX0_place, Cond.selects RX0 yX0_place yX0_place, Cond.code yX0_place cX0_place 5 none, Cond.static yX1_teamOf, Cond.code yX1_teamOf cX1_teamOf 1 (some .int), Cond.methodLink RX0 35 yX0_addOn, Cond.instanceMethod yX0_addOn, Cond.selects RX0 yX0_addOn yX0_addOn, Cond.code yX0_addOn cX0_addOn 5 none]
def wsX1_captureChance : List Cond := .code yX1_captureChance cX1_captureChance 2 (some .int) :: ((wsX1_captureChance_r1 ++ (wsX1_captureChance_r2 ++ (wsX1_captureChance_r3 ++ (wsX1_captureChance_r4 ++ wsX1_captureChance_r5)))) ++ wsX10 ++ wsX00 ++ (vx_atS RX1 37 "java/lang/IllegalArgumentException" ["java/lang/RuntimeException", "java/lang/Exception"]).filter goodWord ++ (vx_atS RX1 80 "java/lang/IllegalStateException" ["java/lang/RuntimeException", "java/lang/Exception"]).filter goodWord)
def wsX2_init : List Cond := .code yX2_init cX2_init 1 none :: ([.methodLink RX2 1 objectInit, .instanceMethod objectInit, .code objectInit ⟨#[0xb1]⟩ 1 none, .arrayClass .int, .fieldLink RX2 7 "PachisiYardModel" "at" "[I", .fieldLink RX2 13 "PachisiYardModel" "captures" "[I", .fieldLink RX2 16 "PachisiYardModel" "many" "[I"] ++ wsX20)
def wsX2_thrown : List Cond := .code yX2_thrown cX2_thrown 1 (some .int) :: ([.fieldLink RX2 19 "PachisiYardModel" "thrown" "I"] ++ wsX20)
def wsX2_isIn : List Cond := .code yX2_isIn cX2_isIn 3 (some .boolean) :: ([])
def wsX2_worth : List Cond := .code yX2_worth cX2_worth 1 (some .int) :: ([])
def wsX2_isGrace : List Cond := .code yX2_isGrace cX2_isGrace 1 (some .boolean) :: ([])
def wsX2_squareOf : List Cond := .code yX2_squareOf cX2_squareOf 2 (some .int) :: ([])
def wsX2_isSafeOne : List Cond := .code yX2_isSafeOne cX2_isSafeOne 1 (some .boolean) :: ([])
def wsX2_stand : List Cond := .code yX2_stand cX2_stand 6 (some .int) :: ([.fieldLink RX2 7 "PachisiYardModel" "at" "[I", .methodLink RX2 23 yX2_isIn, .static yX2_isIn, .initialized RX2, .code yX2_isIn cX2_isIn 3 (some .boolean), .methodLink RX2 27 yX2_squareOf, .static yX2_squareOf, .code yX2_squareOf cX2_squareOf 2 (some .int)] ++ wsX20)
def wsX2_homes : List Cond := .code yX2_homes cX2_homes 4 (some .int) :: ([.fieldLink RX2 7 "PachisiYardModel" "at" "[I"] ++ wsX20)
def wsX2_movesFor : List Cond := .code yX2_movesFor cX2_movesFor 2 (some .int) :: ([.methodLink RX2 31 yX2_homes, .instanceMethod yX2_homes, .selects RX2 yX2_homes yX2_homes, .initialized RX2, .code yX2_homes cX2_homes 4 (some .int), .fieldLink RX2 7 "PachisiYardModel" "at" "[I"] ++ wsX20)
def wsX2_isWon : List Cond := .code yX2_isWon cX2_isWon 2 (some .boolean) :: ([.methodLink RX2 31 yX2_homes, .instanceMethod yX2_homes, .selects RX2 yX2_homes yX2_homes, .initialized RX2, .code yX2_homes cX2_homes 4 (some .int), .fieldLink RX2 7 "PachisiYardModel" "at" "[I"] ++ wsX20)
def wsX2_target : List Cond := .code yX2_target cX2_target 4 (some .int) :: ([.fieldLink RX2 7 "PachisiYardModel" "at" "[I", .methodLink RX2 35 yX2_isGrace, .static yX2_isGrace, .initialized RX2, .code yX2_isGrace cX2_isGrace 1 (some .boolean), .methodLink RX2 39 yX2_worth, .static yX2_worth, .code yX2_worth cX2_worth 1 (some .int)] ++ wsX20)
def wsX2_can_r1 : List Cond := [Cond.fieldLink RX2 7 "PachisiYardModel" "at" "[I", Cond.methodLink RX2 42 yX2_target, Cond.instanceMethod yX2_target, Cond.selects RX2 yX2_target yX2_target, Cond.initialized RX2, Cond.code yX2_target cX2_target 4 (some .int), Cond.methodLink RX2 35 yX2_isGrace, Cond.static yX2_isGrace, Cond.code yX2_isGrace cX2_isGrace 1 (some .boolean), Cond.methodLink RX2 39 yX2_worth, Cond.static yX2_worth, Cond.code yX2_worth cX2_worth 1 (some .int), Cond.methodLink RX2 27 yX2_squareOf, Cond.static yX2_squareOf, Cond.code yX2_squareOf cX2_squareOf 2 (some .int), Cond.methodLink RX2 45 yX2_stand, Cond.instanceMethod yX2_stand, Cond.selects RX2 yX2_stand yX2_stand, Cond.code yX2_stand cX2_stand 6 (some .int), Cond.methodLink RX2 23 yX2_isIn, Cond.static yX2_isIn, Cond.code yX2_isIn cX2_isIn 3 (some .boolean), Cond.methodLink RX2 48 yX2_isSafeOne, Cond.static yX2_isSafeOne]
def wsX2_can_r2 : List Cond := [Cond.code yX2_isSafeOne cX2_isSafeOne 1 (some .boolean)]
def wsX2_can : List Cond := .code yX2_can cX2_can 8 (some .int) :: ((wsX2_can_r1 ++ wsX2_can_r2) ++ wsX20)
def wsX2_movers_r1 : List Cond := [Cond.methodLink RX2 51 yX2_can, Cond.instanceMethod yX2_can, Cond.selects RX2 yX2_can yX2_can, Cond.initialized RX2, Cond.code yX2_can cX2_can 8 (some .int), Cond.fieldLink RX2 7 "PachisiYardModel" "at" "[I", Cond.methodLink RX2 42 yX2_target, Cond.instanceMethod yX2_target, Cond.selects RX2 yX2_target yX2_target, Cond.code yX2_target cX2_target 4 (some .int), Cond.methodLink RX2 35 yX2_isGrace, Cond.static yX2_isGrace, Cond.code yX2_isGrace cX2_isGrace 1 (some .boolean), Cond.methodLink RX2 39 yX2_worth, Cond.static yX2_worth, Cond.code yX2_worth cX2_worth 1 (some .int), Cond.methodLink RX2 27 yX2_squareOf, Cond.static yX2_squareOf, Cond.code yX2_squareOf cX2_squareOf 2 (some .int), Cond.methodLink RX2 45 yX2_stand, Cond.instanceMethod yX2_stand, Cond.selects RX2 yX2_stand yX2_stand, Cond.code yX2_stand cX2_stand 6 (some .int), Cond.methodLink RX2 23 yX2_isIn]
def wsX2_movers_r2 : List Cond := [Cond.static yX2_isIn, Cond.code yX2_isIn cX2_isIn 3 (some .boolean), Cond.methodLink RX2 48 yX2_isSafeOne, Cond.static yX2_isSafeOne, Cond.code yX2_isSafeOne cX2_isSafeOne 1 (some .boolean)]
def wsX2_movers : List Cond := .code yX2_movers cX2_movers 6 (some .int) :: ((wsX2_movers_r1 ++ wsX2_movers_r2) ++ wsX20)
def wsX2_next : List Cond := .code yX2_next cX2_next 1 none :: ([.fieldLink RX2 54 "PachisiYardModel" "turn" "I", .fieldLink RX2 57 "PachisiYardModel" "graces" "I"] ++ wsX20)
def wsX2_throwShells_r1 : List Cond := [Cond.fieldLink RX2 60 "PachisiYardModel" "phase" "I", Cond.fieldLink RX2 19 "PachisiYardModel" "thrown" "I", Cond.fieldLink RX2 57 "PachisiYardModel" "graces" "I", Cond.fieldLink RX2 54 "PachisiYardModel" "turn" "I", Cond.fieldLink RX2 73 "PachisiYardModel" "mouths" "I", Cond.methodLink RX2 23 yX2_isIn, Cond.static yX2_isIn, Cond.initialized RX2, Cond.code yX2_isIn cX2_isIn 3 (some .boolean), Cond.methodLink RX2 35 yX2_isGrace, Cond.static yX2_isGrace, Cond.code yX2_isGrace cX2_isGrace 1 (some .boolean), Cond.methodLink RX2 63 yX2_next, Cond.instanceMethod yX2_next, Cond.selects RX2 yX2_next yX2_next, Cond.code yX2_next cX2_next 1 none, Cond.methodLink RX2 39 yX2_worth, Cond.static yX2_worth, Cond.code yX2_worth cX2_worth 1 (some .int), Cond.methodLink RX2 66 yX2_movesFor, Cond.instanceMethod yX2_movesFor, Cond.selects RX2 yX2_movesFor yX2_movesFor, Cond.code yX2_movesFor cX2_movesFor 2 (some .int), Cond.methodLink RX2 31 yX2_homes]
def wsX2_throwShells_r2 : List Cond := [Cond.instanceMethod yX2_homes, Cond.selects RX2 yX2_homes yX2_homes, Cond.code yX2_homes cX2_homes 4 (some .int), Cond.fieldLink RX2 7 "PachisiYardModel" "at" "[I", Cond.methodLink RX2 69 yX2_movers, Cond.instanceMethod yX2_movers, Cond.selects RX2 yX2_movers yX2_movers, Cond.code yX2_movers cX2_movers 6 (some .int), Cond.methodLink RX2 51 yX2_can, Cond.instanceMethod yX2_can, Cond.selects RX2 yX2_can yX2_can, Cond.code yX2_can cX2_can 8 (some .int), Cond.methodLink RX2 42 yX2_target, Cond.instanceMethod yX2_target, Cond.selects RX2 yX2_target yX2_target, Cond.code yX2_target cX2_target 4 (some .int), Cond.methodLink RX2 27 yX2_squareOf, Cond.static yX2_squareOf, Cond.code yX2_squareOf cX2_squareOf 2 (some .int), Cond.methodLink RX2 45 yX2_stand, Cond.instanceMethod yX2_stand, Cond.selects RX2 yX2_stand yX2_stand, Cond.code yX2_stand cX2_stand 6 (some .int), Cond.methodLink RX2 48 yX2_isSafeOne]
def wsX2_throwShells_r3 : List Cond := [Cond.static yX2_isSafeOne, Cond.code yX2_isSafeOne cX2_isSafeOne 1 (some .boolean)]
def wsX2_throwShells : List Cond := .code yX2_throwShells cX2_throwShells 3 (some .int) :: ((wsX2_throwShells_r1 ++ (wsX2_throwShells_r2 ++ wsX2_throwShells_r3)) ++ wsX20)
def wsX2_sends : List Cond := .code yX2_sends cX2_sends 4 none :: ([.fieldLink RX2 7 "PachisiYardModel" "at" "[I", .methodLink RX2 23 yX2_isIn, .static yX2_isIn, .initialized RX2, .code yX2_isIn cX2_isIn 3 (some .boolean), .methodLink RX2 27 yX2_squareOf, .static yX2_squareOf, .code yX2_squareOf cX2_squareOf 2 (some .int)] ++ wsX20)
def wsX2_move_r1 : List Cond := [Cond.fieldLink RX2 60 "PachisiYardModel" "phase" "I", Cond.fieldLink RX2 19 "PachisiYardModel" "thrown" "I", Cond.fieldLink RX2 54 "PachisiYardModel" "turn" "I", Cond.fieldLink RX2 73 "PachisiYardModel" "mouths" "I", Cond.fieldLink RX2 13 "PachisiYardModel" "captures" "[I", Cond.fieldLink RX2 7 "PachisiYardModel" "at" "[I", Cond.methodLink RX2 23 yX2_isIn, Cond.static yX2_isIn, Cond.initialized RX2, Cond.code yX2_isIn cX2_isIn 3 (some .boolean), Cond.methodLink RX2 66 yX2_movesFor, Cond.instanceMethod yX2_movesFor, Cond.selects RX2 yX2_movesFor yX2_movesFor, Cond.code yX2_movesFor cX2_movesFor 2 (some .int), Cond.methodLink RX2 31 yX2_homes, Cond.instanceMethod yX2_homes, Cond.selects RX2 yX2_homes yX2_homes, Cond.code yX2_homes cX2_homes 4 (some .int), Cond.methodLink RX2 51 yX2_can, Cond.instanceMethod yX2_can, Cond.selects RX2 yX2_can yX2_can, Cond.code yX2_can cX2_can 8 (some .int), Cond.methodLink RX2 42 yX2_target, Cond.instanceMethod yX2_target]
def wsX2_move_r2 : List Cond := [Cond.selects RX2 yX2_target yX2_target, Cond.code yX2_target cX2_target 4 (some .int), Cond.methodLink RX2 35 yX2_isGrace, Cond.static yX2_isGrace, Cond.code yX2_isGrace cX2_isGrace 1 (some .boolean), Cond.methodLink RX2 39 yX2_worth, Cond.static yX2_worth, Cond.code yX2_worth cX2_worth 1 (some .int), Cond.methodLink RX2 27 yX2_squareOf, Cond.static yX2_squareOf, Cond.code yX2_squareOf cX2_squareOf 2 (some .int), Cond.methodLink RX2 45 yX2_stand, Cond.instanceMethod yX2_stand, Cond.selects RX2 yX2_stand yX2_stand, Cond.code yX2_stand cX2_stand 6 (some .int), Cond.methodLink RX2 48 yX2_isSafeOne, Cond.static yX2_isSafeOne, Cond.code yX2_isSafeOne cX2_isSafeOne 1 (some .boolean), Cond.methodLink RX2 76 yX2_sends, Cond.instanceMethod yX2_sends, Cond.selects RX2 yX2_sends yX2_sends, Cond.code yX2_sends cX2_sends 4 none, Cond.methodLink RX2 80 yX2_isWon, Cond.instanceMethod yX2_isWon]
def wsX2_move_r3 : List Cond := [Cond.selects RX2 yX2_isWon yX2_isWon, Cond.code yX2_isWon cX2_isWon 2 (some .boolean), Cond.methodLink RX2 63 yX2_next, Cond.instanceMethod yX2_next, Cond.selects RX2 yX2_next yX2_next, Cond.code yX2_next cX2_next 1 none, Cond.fieldLink RX2 57 "PachisiYardModel" "graces" "I"]
def wsX2_move : List Cond := .code yX2_move cX2_move 5 (some .int) :: ((wsX2_move_r1 ++ (wsX2_move_r2 ++ wsX2_move_r3)) ++ wsX20)
def wsX2_phase : List Cond := .code yX2_phase cX2_phase 1 (some .int) :: ([.fieldLink RX2 19 "PachisiYardModel" "thrown" "I", .fieldLink RX2 60 "PachisiYardModel" "phase" "I"] ++ wsX20)
def wsX2_onTurn : List Cond := .code yX2_onTurn cX2_onTurn 1 (some .int) :: ([.fieldLink RX2 19 "PachisiYardModel" "thrown" "I", .fieldLink RX2 54 "PachisiYardModel" "turn" "I"] ++ wsX20)
def wsX2_mover : List Cond := .code yX2_mover cX2_mover 1 (some .int) :: ([.fieldLink RX2 19 "PachisiYardModel" "thrown" "I", .fieldLink RX2 54 "PachisiYardModel" "turn" "I", .methodLink RX2 66 yX2_movesFor, .instanceMethod yX2_movesFor, .selects RX2 yX2_movesFor yX2_movesFor, .initialized RX2, .code yX2_movesFor cX2_movesFor 2 (some .int), .methodLink RX2 31 yX2_homes, .instanceMethod yX2_homes, .selects RX2 yX2_homes yX2_homes, .code yX2_homes cX2_homes 4 (some .int), .fieldLink RX2 7 "PachisiYardModel" "at" "[I"] ++ wsX20)
def wsX2_movable_r1 : List Cond := [Cond.fieldLink RX2 60 "PachisiYardModel" "phase" "I", Cond.fieldLink RX2 19 "PachisiYardModel" "thrown" "I", Cond.fieldLink RX2 54 "PachisiYardModel" "turn" "I", Cond.fieldLink RX2 73 "PachisiYardModel" "mouths" "I", Cond.methodLink RX2 66 yX2_movesFor, Cond.instanceMethod yX2_movesFor, Cond.selects RX2 yX2_movesFor yX2_movesFor, Cond.initialized RX2, Cond.code yX2_movesFor cX2_movesFor 2 (some .int), Cond.methodLink RX2 31 yX2_homes, Cond.instanceMethod yX2_homes, Cond.selects RX2 yX2_homes yX2_homes, Cond.code yX2_homes cX2_homes 4 (some .int), Cond.fieldLink RX2 7 "PachisiYardModel" "at" "[I", Cond.methodLink RX2 69 yX2_movers, Cond.instanceMethod yX2_movers, Cond.selects RX2 yX2_movers yX2_movers, Cond.code yX2_movers cX2_movers 6 (some .int), Cond.methodLink RX2 51 yX2_can, Cond.instanceMethod yX2_can, Cond.selects RX2 yX2_can yX2_can, Cond.code yX2_can cX2_can 8 (some .int), Cond.methodLink RX2 42 yX2_target, Cond.instanceMethod yX2_target]
def wsX2_movable_r2 : List Cond := [Cond.selects RX2 yX2_target yX2_target, Cond.code yX2_target cX2_target 4 (some .int), Cond.methodLink RX2 35 yX2_isGrace, Cond.static yX2_isGrace, Cond.code yX2_isGrace cX2_isGrace 1 (some .boolean), Cond.methodLink RX2 39 yX2_worth, Cond.static yX2_worth, Cond.code yX2_worth cX2_worth 1 (some .int), Cond.methodLink RX2 27 yX2_squareOf, Cond.static yX2_squareOf, Cond.code yX2_squareOf cX2_squareOf 2 (some .int), Cond.methodLink RX2 45 yX2_stand, Cond.instanceMethod yX2_stand, Cond.selects RX2 yX2_stand yX2_stand, Cond.code yX2_stand cX2_stand 6 (some .int), Cond.methodLink RX2 23 yX2_isIn, Cond.static yX2_isIn, Cond.code yX2_isIn cX2_isIn 3 (some .boolean), Cond.methodLink RX2 48 yX2_isSafeOne, Cond.static yX2_isSafeOne, Cond.code yX2_isSafeOne cX2_isSafeOne 1 (some .boolean)]
def wsX2_movable : List Cond := .code yX2_movable cX2_movable 1 (some .int) :: ((wsX2_movable_r1 ++ wsX2_movable_r2) ++ wsX20)
def wsX2_graces : List Cond := .code yX2_graces cX2_graces 1 (some .int) :: ([.fieldLink RX2 19 "PachisiYardModel" "thrown" "I", .fieldLink RX2 57 "PachisiYardModel" "graces" "I"] ++ wsX20)
def wsX2_position : List Cond := .code yX2_position cX2_position 3 (some .int) :: ([.fieldLink RX2 19 "PachisiYardModel" "thrown" "I", .fieldLink RX2 7 "PachisiYardModel" "at" "[I", .methodLink RX2 23 yX2_isIn, .static yX2_isIn, .initialized RX2, .code yX2_isIn cX2_isIn 3 (some .boolean)] ++ wsX20)
def wsX2_square : List Cond := .code yX2_square cX2_square 4 (some .int) :: ([.fieldLink RX2 19 "PachisiYardModel" "thrown" "I", .fieldLink RX2 7 "PachisiYardModel" "at" "[I", .methodLink RX2 23 yX2_isIn, .static yX2_isIn, .initialized RX2, .code yX2_isIn cX2_isIn 3 (some .boolean), .methodLink RX2 27 yX2_squareOf, .static yX2_squareOf, .code yX2_squareOf cX2_squareOf 2 (some .int)] ++ wsX20)
def wsX2_standing : List Cond := .code yX2_standing cX2_standing 3 (some .int) :: ([.fieldLink RX2 19 "PachisiYardModel" "thrown" "I", .methodLink RX2 23 yX2_isIn, .static yX2_isIn, .initialized RX2, .code yX2_isIn cX2_isIn 3 (some .boolean), .methodLink RX2 45 yX2_stand, .instanceMethod yX2_stand, .selects RX2 yX2_stand yX2_stand, .code yX2_stand cX2_stand 6 (some .int), .fieldLink RX2 7 "PachisiYardModel" "at" "[I", .methodLink RX2 27 yX2_squareOf, .static yX2_squareOf, .code yX2_squareOf cX2_squareOf 2 (some .int)] ++ wsX20)
def wsX2_isSafe : List Cond := .code yX2_isSafe cX2_isSafe 2 (some .boolean) :: ([.fieldLink RX2 19 "PachisiYardModel" "thrown" "I", .methodLink RX2 23 yX2_isIn, .static yX2_isIn, .initialized RX2, .code yX2_isIn cX2_isIn 3 (some .boolean), .methodLink RX2 48 yX2_isSafeOne, .static yX2_isSafeOne, .code yX2_isSafeOne cX2_isSafeOne 1 (some .boolean)] ++ wsX20)
def wsX2_home : List Cond := .code yX2_home cX2_home 2 (some .int) :: ([.fieldLink RX2 19 "PachisiYardModel" "thrown" "I", .methodLink RX2 23 yX2_isIn, .static yX2_isIn, .initialized RX2, .code yX2_isIn cX2_isIn 3 (some .boolean), .methodLink RX2 31 yX2_homes, .instanceMethod yX2_homes, .selects RX2 yX2_homes yX2_homes, .code yX2_homes cX2_homes 4 (some .int), .fieldLink RX2 7 "PachisiYardModel" "at" "[I"] ++ wsX20)
def wsX2_captures : List Cond := .code yX2_captures cX2_captures 2 (some .int) :: ([.fieldLink RX2 19 "PachisiYardModel" "thrown" "I", .fieldLink RX2 13 "PachisiYardModel" "captures" "[I", .methodLink RX2 23 yX2_isIn, .static yX2_isIn, .initialized RX2, .code yX2_isIn cX2_isIn 3 (some .boolean)] ++ wsX20)
def wsX2_winner : List Cond := .code yX2_winner cX2_winner 1 (some .int) :: ([.fieldLink RX2 19 "PachisiYardModel" "thrown" "I", .methodLink RX2 80 yX2_isWon, .instanceMethod yX2_isWon, .selects RX2 yX2_isWon yX2_isWon, .initialized RX2, .code yX2_isWon cX2_isWon 2 (some .boolean), .methodLink RX2 31 yX2_homes, .instanceMethod yX2_homes, .selects RX2 yX2_homes yX2_homes, .code yX2_homes cX2_homes 4 (some .int), .fieldLink RX2 7 "PachisiYardModel" "at" "[I"] ++ wsX20)
def wsX2_distance : List Cond := .code yX2_distance cX2_distance 4 (some .int) :: ([.fieldLink RX2 19 "PachisiYardModel" "thrown" "I", .fieldLink RX2 7 "PachisiYardModel" "at" "[I", .methodLink RX2 23 yX2_isIn, .static yX2_isIn, .initialized RX2, .code yX2_isIn cX2_isIn 3 (some .boolean)] ++ wsX20)
def wsX2_does_r1 : List Cond := [Cond.fieldLink RX2 7 "PachisiYardModel" "at" "[I", Cond.methodLink RX2 51 yX2_can, Cond.instanceMethod yX2_can, Cond.selects RX2 yX2_can yX2_can, Cond.initialized RX2, Cond.code yX2_can cX2_can 8 (some .int), Cond.methodLink RX2 42 yX2_target, Cond.instanceMethod yX2_target, Cond.selects RX2 yX2_target yX2_target, Cond.code yX2_target cX2_target 4 (some .int), Cond.methodLink RX2 35 yX2_isGrace, Cond.static yX2_isGrace, Cond.code yX2_isGrace cX2_isGrace 1 (some .boolean), Cond.methodLink RX2 39 yX2_worth, Cond.static yX2_worth, Cond.code yX2_worth cX2_worth 1 (some .int), Cond.methodLink RX2 27 yX2_squareOf, Cond.static yX2_squareOf, Cond.code yX2_squareOf cX2_squareOf 2 (some .int), Cond.methodLink RX2 45 yX2_stand, Cond.instanceMethod yX2_stand, Cond.selects RX2 yX2_stand yX2_stand, Cond.code yX2_stand cX2_stand 6 (some .int), Cond.methodLink RX2 23 yX2_isIn]
def wsX2_does_r2 : List Cond := [Cond.static yX2_isIn, Cond.code yX2_isIn cX2_isIn 3 (some .boolean), Cond.methodLink RX2 48 yX2_isSafeOne, Cond.static yX2_isSafeOne, Cond.code yX2_isSafeOne cX2_isSafeOne 1 (some .boolean)]
def wsX2_does : List Cond := .code yX2_does cX2_does 7 (some .boolean) :: ((wsX2_does_r1 ++ wsX2_does_r2) ++ wsX20)
def wsX2_ways_r1 : List Cond := [Cond.fieldLink RX2 60 "PachisiYardModel" "phase" "I", Cond.fieldLink RX2 19 "PachisiYardModel" "thrown" "I", Cond.fieldLink RX2 57 "PachisiYardModel" "graces" "I", Cond.fieldLink RX2 54 "PachisiYardModel" "turn" "I", Cond.fieldLink RX2 16 "PachisiYardModel" "many" "[I", Cond.methodLink RX2 23 yX2_isIn, Cond.static yX2_isIn, Cond.initialized RX2, Cond.code yX2_isIn cX2_isIn 3 (some .boolean), Cond.methodLink RX2 35 yX2_isGrace, Cond.static yX2_isGrace, Cond.code yX2_isGrace cX2_isGrace 1 (some .boolean), Cond.methodLink RX2 66 yX2_movesFor, Cond.instanceMethod yX2_movesFor, Cond.selects RX2 yX2_movesFor yX2_movesFor, Cond.code yX2_movesFor cX2_movesFor 2 (some .int), Cond.methodLink RX2 31 yX2_homes, Cond.instanceMethod yX2_homes, Cond.selects RX2 yX2_homes yX2_homes, Cond.code yX2_homes cX2_homes 4 (some .int), Cond.fieldLink RX2 7 "PachisiYardModel" "at" "[I", Cond.methodLink RX2 83 yX2_does, Cond.instanceMethod yX2_does, Cond.selects RX2 yX2_does yX2_does]
def wsX2_ways_r2 : List Cond := [Cond.code yX2_does cX2_does 7 (some .boolean), Cond.methodLink RX2 51 yX2_can, Cond.instanceMethod yX2_can, Cond.selects RX2 yX2_can yX2_can, Cond.code yX2_can cX2_can 8 (some .int), Cond.methodLink RX2 42 yX2_target, Cond.instanceMethod yX2_target, Cond.selects RX2 yX2_target yX2_target, Cond.code yX2_target cX2_target 4 (some .int), Cond.methodLink RX2 39 yX2_worth, Cond.static yX2_worth, Cond.code yX2_worth cX2_worth 1 (some .int), Cond.methodLink RX2 27 yX2_squareOf, Cond.static yX2_squareOf, Cond.code yX2_squareOf cX2_squareOf 2 (some .int), Cond.methodLink RX2 45 yX2_stand, Cond.instanceMethod yX2_stand, Cond.selects RX2 yX2_stand yX2_stand, Cond.code yX2_stand cX2_stand 6 (some .int), Cond.methodLink RX2 48 yX2_isSafeOne, Cond.static yX2_isSafeOne, Cond.code yX2_isSafeOne cX2_isSafeOne 1 (some .boolean)]
def wsX2_ways : List Cond := .code yX2_ways cX2_ways 5 (some .int) :: ((wsX2_ways_r1 ++ wsX2_ways_r2) ++ wsX20)
def wsX2_threat_r1 : List Cond := [Cond.fieldLink RX2 19 "PachisiYardModel" "thrown" "I", Cond.fieldLink RX2 7 "PachisiYardModel" "at" "[I", Cond.fieldLink RX2 16 "PachisiYardModel" "many" "[I", Cond.methodLink RX2 23 yX2_isIn, Cond.static yX2_isIn, Cond.initialized RX2, Cond.code yX2_isIn cX2_isIn 3 (some .boolean), Cond.methodLink RX2 27 yX2_squareOf, Cond.static yX2_squareOf, Cond.code yX2_squareOf cX2_squareOf 2 (some .int), Cond.methodLink RX2 66 yX2_movesFor, Cond.instanceMethod yX2_movesFor, Cond.selects RX2 yX2_movesFor yX2_movesFor, Cond.code yX2_movesFor cX2_movesFor 2 (some .int), Cond.methodLink RX2 31 yX2_homes, Cond.instanceMethod yX2_homes, Cond.selects RX2 yX2_homes yX2_homes, Cond.code yX2_homes cX2_homes 4 (some .int), Cond.methodLink RX2 51 yX2_can, Cond.instanceMethod yX2_can, Cond.selects RX2 yX2_can yX2_can, Cond.code yX2_can cX2_can 8 (some .int), Cond.methodLink RX2 42 yX2_target, Cond.instanceMethod yX2_target]
def wsX2_threat_r2 : List Cond := [Cond.selects RX2 yX2_target yX2_target, Cond.code yX2_target cX2_target 4 (some .int), Cond.methodLink RX2 35 yX2_isGrace, Cond.static yX2_isGrace, Cond.code yX2_isGrace cX2_isGrace 1 (some .boolean), Cond.methodLink RX2 39 yX2_worth, Cond.static yX2_worth, Cond.code yX2_worth cX2_worth 1 (some .int), Cond.methodLink RX2 45 yX2_stand, Cond.instanceMethod yX2_stand, Cond.selects RX2 yX2_stand yX2_stand, Cond.code yX2_stand cX2_stand 6 (some .int), Cond.methodLink RX2 48 yX2_isSafeOne, Cond.static yX2_isSafeOne, Cond.code yX2_isSafeOne cX2_isSafeOne 1 (some .boolean)]
def wsX2_threat : List Cond := .code yX2_threat cX2_threat 10 (some .int) :: ((wsX2_threat_r1 ++ wsX2_threat_r2) ++ wsX20)
def wsX2_chanceOfOne_r1 : List Cond := [Cond.fieldLink RX2 54 "PachisiYardModel" "turn" "I", Cond.fieldLink RX2 16 "PachisiYardModel" "many" "[I", Cond.methodLink RX2 35 yX2_isGrace, Cond.static yX2_isGrace, Cond.initialized RX2, Cond.code yX2_isGrace cX2_isGrace 1 (some .boolean), Cond.methodLink RX2 66 yX2_movesFor, Cond.instanceMethod yX2_movesFor, Cond.selects RX2 yX2_movesFor yX2_movesFor, Cond.code yX2_movesFor cX2_movesFor 2 (some .int), Cond.methodLink RX2 31 yX2_homes, Cond.instanceMethod yX2_homes, Cond.selects RX2 yX2_homes yX2_homes, Cond.code yX2_homes cX2_homes 4 (some .int), Cond.fieldLink RX2 7 "PachisiYardModel" "at" "[I", Cond.methodLink RX2 83 yX2_does, Cond.instanceMethod yX2_does, Cond.selects RX2 yX2_does yX2_does, Cond.code yX2_does cX2_does 7 (some .boolean), Cond.methodLink RX2 51 yX2_can, Cond.instanceMethod yX2_can, Cond.selects RX2 yX2_can yX2_can, Cond.code yX2_can cX2_can 8 (some .int), Cond.methodLink RX2 42 yX2_target]
def wsX2_chanceOfOne_r2 : List Cond := [Cond.instanceMethod yX2_target, Cond.selects RX2 yX2_target yX2_target, Cond.code yX2_target cX2_target 4 (some .int), Cond.methodLink RX2 39 yX2_worth, Cond.static yX2_worth, Cond.code yX2_worth cX2_worth 1 (some .int), Cond.methodLink RX2 27 yX2_squareOf, Cond.static yX2_squareOf, Cond.code yX2_squareOf cX2_squareOf 2 (some .int), Cond.methodLink RX2 45 yX2_stand, Cond.instanceMethod yX2_stand, Cond.selects RX2 yX2_stand yX2_stand, Cond.code yX2_stand cX2_stand 6 (some .int), Cond.methodLink RX2 23 yX2_isIn, Cond.static yX2_isIn, Cond.code yX2_isIn cX2_isIn 3 (some .boolean), Cond.methodLink RX2 48 yX2_isSafeOne, Cond.static yX2_isSafeOne, Cond.code yX2_isSafeOne cX2_isSafeOne 1 (some .boolean)]
def wsX2_chanceOfOne : List Cond := .code yX2_chanceOfOne cX2_chanceOfOne 5 (some .int) :: ((wsX2_chanceOfOne_r1 ++ wsX2_chanceOfOne_r2) ++ wsX20)
def wsX2_bestForOne_r1 : List Cond := [Cond.fieldLink RX2 54 "PachisiYardModel" "turn" "I", Cond.fieldLink RX2 7 "PachisiYardModel" "at" "[I", Cond.methodLink RX2 66 yX2_movesFor, Cond.instanceMethod yX2_movesFor, Cond.selects RX2 yX2_movesFor yX2_movesFor, Cond.initialized RX2, Cond.code yX2_movesFor cX2_movesFor 2 (some .int), Cond.methodLink RX2 31 yX2_homes, Cond.instanceMethod yX2_homes, Cond.selects RX2 yX2_homes yX2_homes, Cond.code yX2_homes cX2_homes 4 (some .int), Cond.methodLink RX2 69 yX2_movers, Cond.instanceMethod yX2_movers, Cond.selects RX2 yX2_movers yX2_movers, Cond.code yX2_movers cX2_movers 6 (some .int), Cond.methodLink RX2 51 yX2_can, Cond.instanceMethod yX2_can, Cond.selects RX2 yX2_can yX2_can, Cond.code yX2_can cX2_can 8 (some .int), Cond.methodLink RX2 42 yX2_target, Cond.instanceMethod yX2_target, Cond.selects RX2 yX2_target yX2_target, Cond.code yX2_target cX2_target 4 (some .int), Cond.methodLink RX2 35 yX2_isGrace]
def wsX2_bestForOne_r2 : List Cond := [Cond.static yX2_isGrace, Cond.code yX2_isGrace cX2_isGrace 1 (some .boolean), Cond.methodLink RX2 39 yX2_worth, Cond.static yX2_worth, Cond.code yX2_worth cX2_worth 1 (some .int), Cond.methodLink RX2 27 yX2_squareOf, Cond.static yX2_squareOf, Cond.code yX2_squareOf cX2_squareOf 2 (some .int), Cond.methodLink RX2 45 yX2_stand, Cond.instanceMethod yX2_stand, Cond.selects RX2 yX2_stand yX2_stand, Cond.code yX2_stand cX2_stand 6 (some .int), Cond.methodLink RX2 23 yX2_isIn, Cond.static yX2_isIn, Cond.code yX2_isIn cX2_isIn 3 (some .boolean), Cond.methodLink RX2 48 yX2_isSafeOne, Cond.static yX2_isSafeOne, Cond.code yX2_isSafeOne cX2_isSafeOne 1 (some .boolean), Cond.methodLink RX2 86 yX2_chanceOfOne, Cond.instanceMethod yX2_chanceOfOne, Cond.selects RX2 yX2_chanceOfOne yX2_chanceOfOne, Cond.code yX2_chanceOfOne cX2_chanceOfOne 5 (some .int), Cond.fieldLink RX2 16 "PachisiYardModel" "many" "[I", Cond.methodLink RX2 83 yX2_does]
def wsX2_bestForOne_r3 : List Cond := [Cond.instanceMethod yX2_does, Cond.selects RX2 yX2_does yX2_does, Cond.code yX2_does cX2_does 7 (some .boolean), Cond.methodLink RX2 80 yX2_isWon, Cond.instanceMethod yX2_isWon, Cond.selects RX2 yX2_isWon yX2_isWon, Cond.code yX2_isWon cX2_isWon 2 (some .boolean)]
def wsX2_bestForOne : List Cond := .code yX2_bestForOne cX2_bestForOne 8 (some .int) :: ((wsX2_bestForOne_r1 ++ (wsX2_bestForOne_r2 ++ wsX2_bestForOne_r3)) ++ wsX20)
def wsX2_chanceOfTwo_r1 : List Cond := [Cond.fieldLink RX2 54 "PachisiYardModel" "turn" "I", Cond.fieldLink RX2 16 "PachisiYardModel" "many" "[I", Cond.methodLink RX2 35 yX2_isGrace, Cond.static yX2_isGrace, Cond.initialized RX2, Cond.code yX2_isGrace cX2_isGrace 1 (some .boolean), Cond.methodLink RX2 66 yX2_movesFor, Cond.instanceMethod yX2_movesFor, Cond.selects RX2 yX2_movesFor yX2_movesFor, Cond.code yX2_movesFor cX2_movesFor 2 (some .int), Cond.methodLink RX2 31 yX2_homes, Cond.instanceMethod yX2_homes, Cond.selects RX2 yX2_homes yX2_homes, Cond.code yX2_homes cX2_homes 4 (some .int), Cond.fieldLink RX2 7 "PachisiYardModel" "at" "[I", Cond.methodLink RX2 83 yX2_does, Cond.instanceMethod yX2_does, Cond.selects RX2 yX2_does yX2_does, Cond.code yX2_does cX2_does 7 (some .boolean), Cond.methodLink RX2 51 yX2_can, Cond.instanceMethod yX2_can, Cond.selects RX2 yX2_can yX2_can, Cond.code yX2_can cX2_can 8 (some .int), Cond.methodLink RX2 42 yX2_target]
def wsX2_chanceOfTwo_r2 : List Cond := [Cond.instanceMethod yX2_target, Cond.selects RX2 yX2_target yX2_target, Cond.code yX2_target cX2_target 4 (some .int), Cond.methodLink RX2 39 yX2_worth, Cond.static yX2_worth, Cond.code yX2_worth cX2_worth 1 (some .int), Cond.methodLink RX2 27 yX2_squareOf, Cond.static yX2_squareOf, Cond.code yX2_squareOf cX2_squareOf 2 (some .int), Cond.methodLink RX2 45 yX2_stand, Cond.instanceMethod yX2_stand, Cond.selects RX2 yX2_stand yX2_stand, Cond.code yX2_stand cX2_stand 6 (some .int), Cond.methodLink RX2 23 yX2_isIn, Cond.static yX2_isIn, Cond.code yX2_isIn cX2_isIn 3 (some .boolean), Cond.methodLink RX2 48 yX2_isSafeOne, Cond.static yX2_isSafeOne, Cond.code yX2_isSafeOne cX2_isSafeOne 1 (some .boolean), Cond.methodLink RX2 89 yX2_bestForOne, Cond.instanceMethod yX2_bestForOne, Cond.selects RX2 yX2_bestForOne yX2_bestForOne, Cond.code yX2_bestForOne cX2_bestForOne 8 (some .int), Cond.methodLink RX2 69 yX2_movers]
def wsX2_chanceOfTwo_r3 : List Cond := [Cond.instanceMethod yX2_movers, Cond.selects RX2 yX2_movers yX2_movers, Cond.code yX2_movers cX2_movers 6 (some .int), Cond.methodLink RX2 86 yX2_chanceOfOne, Cond.instanceMethod yX2_chanceOfOne, Cond.selects RX2 yX2_chanceOfOne yX2_chanceOfOne, Cond.code yX2_chanceOfOne cX2_chanceOfOne 5 (some .int), Cond.methodLink RX2 80 yX2_isWon, Cond.instanceMethod yX2_isWon, Cond.selects RX2 yX2_isWon yX2_isWon, Cond.code yX2_isWon cX2_isWon 2 (some .boolean)]
def wsX2_chanceOfTwo : List Cond := .code yX2_chanceOfTwo cX2_chanceOfTwo 5 (some .int) :: ((wsX2_chanceOfTwo_r1 ++ (wsX2_chanceOfTwo_r2 ++ wsX2_chanceOfTwo_r3)) ++ wsX20)
def wsX2_bestForTwo_r1 : List Cond := [Cond.fieldLink RX2 54 "PachisiYardModel" "turn" "I", Cond.fieldLink RX2 7 "PachisiYardModel" "at" "[I", Cond.methodLink RX2 66 yX2_movesFor, Cond.instanceMethod yX2_movesFor, Cond.selects RX2 yX2_movesFor yX2_movesFor, Cond.initialized RX2, Cond.code yX2_movesFor cX2_movesFor 2 (some .int), Cond.methodLink RX2 31 yX2_homes, Cond.instanceMethod yX2_homes, Cond.selects RX2 yX2_homes yX2_homes, Cond.code yX2_homes cX2_homes 4 (some .int), Cond.methodLink RX2 69 yX2_movers, Cond.instanceMethod yX2_movers, Cond.selects RX2 yX2_movers yX2_movers, Cond.code yX2_movers cX2_movers 6 (some .int), Cond.methodLink RX2 51 yX2_can, Cond.instanceMethod yX2_can, Cond.selects RX2 yX2_can yX2_can, Cond.code yX2_can cX2_can 8 (some .int), Cond.methodLink RX2 42 yX2_target, Cond.instanceMethod yX2_target, Cond.selects RX2 yX2_target yX2_target, Cond.code yX2_target cX2_target 4 (some .int), Cond.methodLink RX2 35 yX2_isGrace]
def wsX2_bestForTwo_r2 : List Cond := [Cond.static yX2_isGrace, Cond.code yX2_isGrace cX2_isGrace 1 (some .boolean), Cond.methodLink RX2 39 yX2_worth, Cond.static yX2_worth, Cond.code yX2_worth cX2_worth 1 (some .int), Cond.methodLink RX2 27 yX2_squareOf, Cond.static yX2_squareOf, Cond.code yX2_squareOf cX2_squareOf 2 (some .int), Cond.methodLink RX2 45 yX2_stand, Cond.instanceMethod yX2_stand, Cond.selects RX2 yX2_stand yX2_stand, Cond.code yX2_stand cX2_stand 6 (some .int), Cond.methodLink RX2 23 yX2_isIn, Cond.static yX2_isIn, Cond.code yX2_isIn cX2_isIn 3 (some .boolean), Cond.methodLink RX2 48 yX2_isSafeOne, Cond.static yX2_isSafeOne, Cond.code yX2_isSafeOne cX2_isSafeOne 1 (some .boolean), Cond.methodLink RX2 92 yX2_chanceOfTwo, Cond.instanceMethod yX2_chanceOfTwo, Cond.selects RX2 yX2_chanceOfTwo yX2_chanceOfTwo, Cond.code yX2_chanceOfTwo cX2_chanceOfTwo 5 (some .int), Cond.fieldLink RX2 16 "PachisiYardModel" "many" "[I", Cond.methodLink RX2 83 yX2_does]
def wsX2_bestForTwo_r3 : List Cond := [Cond.instanceMethod yX2_does, Cond.selects RX2 yX2_does yX2_does, Cond.code yX2_does cX2_does 7 (some .boolean), Cond.methodLink RX2 89 yX2_bestForOne, Cond.instanceMethod yX2_bestForOne, Cond.selects RX2 yX2_bestForOne yX2_bestForOne, Cond.code yX2_bestForOne cX2_bestForOne 8 (some .int), Cond.methodLink RX2 86 yX2_chanceOfOne, Cond.instanceMethod yX2_chanceOfOne, Cond.selects RX2 yX2_chanceOfOne yX2_chanceOfOne, Cond.code yX2_chanceOfOne cX2_chanceOfOne 5 (some .int), Cond.methodLink RX2 80 yX2_isWon, Cond.instanceMethod yX2_isWon, Cond.selects RX2 yX2_isWon yX2_isWon, Cond.code yX2_isWon cX2_isWon 2 (some .boolean)]
def wsX2_bestForTwo : List Cond := .code yX2_bestForTwo cX2_bestForTwo 8 (some .int) :: ((wsX2_bestForTwo_r1 ++ (wsX2_bestForTwo_r2 ++ wsX2_bestForTwo_r3)) ++ wsX20)
def wsX2_chanceOfThree_r1 : List Cond := [Cond.fieldLink RX2 54 "PachisiYardModel" "turn" "I", Cond.fieldLink RX2 16 "PachisiYardModel" "many" "[I", Cond.methodLink RX2 35 yX2_isGrace, Cond.static yX2_isGrace, Cond.initialized RX2, Cond.code yX2_isGrace cX2_isGrace 1 (some .boolean), Cond.methodLink RX2 66 yX2_movesFor, Cond.instanceMethod yX2_movesFor, Cond.selects RX2 yX2_movesFor yX2_movesFor, Cond.code yX2_movesFor cX2_movesFor 2 (some .int), Cond.methodLink RX2 31 yX2_homes, Cond.instanceMethod yX2_homes, Cond.selects RX2 yX2_homes yX2_homes, Cond.code yX2_homes cX2_homes 4 (some .int), Cond.fieldLink RX2 7 "PachisiYardModel" "at" "[I", Cond.methodLink RX2 83 yX2_does, Cond.instanceMethod yX2_does, Cond.selects RX2 yX2_does yX2_does, Cond.code yX2_does cX2_does 7 (some .boolean), Cond.methodLink RX2 51 yX2_can, Cond.instanceMethod yX2_can, Cond.selects RX2 yX2_can yX2_can, Cond.code yX2_can cX2_can 8 (some .int), Cond.methodLink RX2 42 yX2_target]
def wsX2_chanceOfThree_r2 : List Cond := [Cond.instanceMethod yX2_target, Cond.selects RX2 yX2_target yX2_target, Cond.code yX2_target cX2_target 4 (some .int), Cond.methodLink RX2 39 yX2_worth, Cond.static yX2_worth, Cond.code yX2_worth cX2_worth 1 (some .int), Cond.methodLink RX2 27 yX2_squareOf, Cond.static yX2_squareOf, Cond.code yX2_squareOf cX2_squareOf 2 (some .int), Cond.methodLink RX2 45 yX2_stand, Cond.instanceMethod yX2_stand, Cond.selects RX2 yX2_stand yX2_stand, Cond.code yX2_stand cX2_stand 6 (some .int), Cond.methodLink RX2 23 yX2_isIn, Cond.static yX2_isIn, Cond.code yX2_isIn cX2_isIn 3 (some .boolean), Cond.methodLink RX2 48 yX2_isSafeOne, Cond.static yX2_isSafeOne, Cond.code yX2_isSafeOne cX2_isSafeOne 1 (some .boolean), Cond.methodLink RX2 95 yX2_bestForTwo, Cond.instanceMethod yX2_bestForTwo, Cond.selects RX2 yX2_bestForTwo yX2_bestForTwo, Cond.code yX2_bestForTwo cX2_bestForTwo 8 (some .int), Cond.methodLink RX2 69 yX2_movers]
def wsX2_chanceOfThree_r3 : List Cond := [Cond.instanceMethod yX2_movers, Cond.selects RX2 yX2_movers yX2_movers, Cond.code yX2_movers cX2_movers 6 (some .int), Cond.methodLink RX2 92 yX2_chanceOfTwo, Cond.instanceMethod yX2_chanceOfTwo, Cond.selects RX2 yX2_chanceOfTwo yX2_chanceOfTwo, Cond.code yX2_chanceOfTwo cX2_chanceOfTwo 5 (some .int), Cond.methodLink RX2 89 yX2_bestForOne, Cond.instanceMethod yX2_bestForOne, Cond.selects RX2 yX2_bestForOne yX2_bestForOne, Cond.code yX2_bestForOne cX2_bestForOne 8 (some .int), Cond.methodLink RX2 86 yX2_chanceOfOne, Cond.instanceMethod yX2_chanceOfOne, Cond.selects RX2 yX2_chanceOfOne yX2_chanceOfOne, Cond.code yX2_chanceOfOne cX2_chanceOfOne 5 (some .int), Cond.methodLink RX2 80 yX2_isWon, Cond.instanceMethod yX2_isWon, Cond.selects RX2 yX2_isWon yX2_isWon, Cond.code yX2_isWon cX2_isWon 2 (some .boolean)]
def wsX2_chanceOfThree : List Cond := .code yX2_chanceOfThree cX2_chanceOfThree 5 (some .int) :: ((wsX2_chanceOfThree_r1 ++ (wsX2_chanceOfThree_r2 ++ wsX2_chanceOfThree_r3)) ++ wsX20)
def wsX2_captureChance_r1 : List Cond := [Cond.fieldLink RX2 60 "PachisiYardModel" "phase" "I", Cond.fieldLink RX2 19 "PachisiYardModel" "thrown" "I", Cond.fieldLink RX2 57 "PachisiYardModel" "graces" "I", Cond.methodLink RX2 23 yX2_isIn, Cond.static yX2_isIn, Cond.initialized RX2, Cond.code yX2_isIn cX2_isIn 3 (some .boolean), Cond.methodLink RX2 86 yX2_chanceOfOne, Cond.instanceMethod yX2_chanceOfOne, Cond.selects RX2 yX2_chanceOfOne yX2_chanceOfOne, Cond.code yX2_chanceOfOne cX2_chanceOfOne 5 (some .int), Cond.fieldLink RX2 54 "PachisiYardModel" "turn" "I", Cond.fieldLink RX2 16 "PachisiYardModel" "many" "[I", Cond.methodLink RX2 35 yX2_isGrace, Cond.static yX2_isGrace, Cond.code yX2_isGrace cX2_isGrace 1 (some .boolean), Cond.methodLink RX2 66 yX2_movesFor, Cond.instanceMethod yX2_movesFor, Cond.selects RX2 yX2_movesFor yX2_movesFor, Cond.code yX2_movesFor cX2_movesFor 2 (some .int), Cond.methodLink RX2 31 yX2_homes, Cond.instanceMethod yX2_homes, Cond.selects RX2 yX2_homes yX2_homes, Cond.code yX2_homes cX2_homes 4 (some .int)]
def wsX2_captureChance_r2 : List Cond := [Cond.fieldLink RX2 7 "PachisiYardModel" "at" "[I", Cond.methodLink RX2 83 yX2_does, Cond.instanceMethod yX2_does, Cond.selects RX2 yX2_does yX2_does, Cond.code yX2_does cX2_does 7 (some .boolean), Cond.methodLink RX2 51 yX2_can, Cond.instanceMethod yX2_can, Cond.selects RX2 yX2_can yX2_can, Cond.code yX2_can cX2_can 8 (some .int), Cond.methodLink RX2 42 yX2_target, Cond.instanceMethod yX2_target, Cond.selects RX2 yX2_target yX2_target, Cond.code yX2_target cX2_target 4 (some .int), Cond.methodLink RX2 39 yX2_worth, Cond.static yX2_worth, Cond.code yX2_worth cX2_worth 1 (some .int), Cond.methodLink RX2 27 yX2_squareOf, Cond.static yX2_squareOf, Cond.code yX2_squareOf cX2_squareOf 2 (some .int), Cond.methodLink RX2 45 yX2_stand, Cond.instanceMethod yX2_stand, Cond.selects RX2 yX2_stand yX2_stand, Cond.code yX2_stand cX2_stand 6 (some .int), Cond.methodLink RX2 48 yX2_isSafeOne]
def wsX2_captureChance_r3 : List Cond := [Cond.static yX2_isSafeOne, Cond.code yX2_isSafeOne cX2_isSafeOne 1 (some .boolean), Cond.methodLink RX2 92 yX2_chanceOfTwo, Cond.instanceMethod yX2_chanceOfTwo, Cond.selects RX2 yX2_chanceOfTwo yX2_chanceOfTwo, Cond.code yX2_chanceOfTwo cX2_chanceOfTwo 5 (some .int), Cond.methodLink RX2 89 yX2_bestForOne, Cond.instanceMethod yX2_bestForOne, Cond.selects RX2 yX2_bestForOne yX2_bestForOne, Cond.code yX2_bestForOne cX2_bestForOne 8 (some .int), Cond.methodLink RX2 69 yX2_movers, Cond.instanceMethod yX2_movers, Cond.selects RX2 yX2_movers yX2_movers, Cond.code yX2_movers cX2_movers 6 (some .int), Cond.methodLink RX2 80 yX2_isWon, Cond.instanceMethod yX2_isWon, Cond.selects RX2 yX2_isWon yX2_isWon, Cond.code yX2_isWon cX2_isWon 2 (some .boolean), Cond.methodLink RX2 98 yX2_chanceOfThree, Cond.instanceMethod yX2_chanceOfThree, Cond.selects RX2 yX2_chanceOfThree yX2_chanceOfThree, Cond.code yX2_chanceOfThree cX2_chanceOfThree 5 (some .int), Cond.methodLink RX2 95 yX2_bestForTwo, Cond.instanceMethod yX2_bestForTwo]
def wsX2_captureChance_r4 : List Cond := [Cond.selects RX2 yX2_bestForTwo yX2_bestForTwo, Cond.code yX2_bestForTwo cX2_bestForTwo 8 (some .int)]
def wsX2_captureChance : List Cond := .code yX2_captureChance cX2_captureChance 2 (some .int) :: ((wsX2_captureChance_r1 ++ (wsX2_captureChance_r2 ++ (wsX2_captureChance_r3 ++ wsX2_captureChance_r4))) ++ wsX20)
def wsJ9_max_7cf53 : List Cond := .code yJ9_max_7cf53 cJ9_max_7cf53 2 (some .int) :: ([])
def wsJ9_min_7cf53 : List Cond := .code yJ9_min_7cf53 cJ9_min_7cf53 2 (some .int) :: ([])
theorem inJ9 : ∀ w ∈ wsJ90, w ∈ lw_tbl := by decide +kernel
theorem inJ0 : ∀ w ∈ wsJ00, w ∈ lw_tbl := by decide +kernel
theorem dX0_init_0 : decode cX0_init 0 = .ok (.aload_n 0, 1) := by decide +kernel
theorem dX0_init_1 : decode cX0_init 1 = .ok (.invokespecial 3, 3) := by decide +kernel
theorem dX0_init_4 : decode cX0_init 4 = .ok (.aload_n 0, 1) := by decide +kernel
theorem dX0_init_5 : decode cX0_init 5 = .ok (.bipush 16, 2) := by decide +kernel
theorem dX0_init_7 : decode cX0_init 7 = .ok (.newarray .int, 2) := by decide +kernel
theorem dX0_init_9 : decode cX0_init 9 = .ok (.putfield 9, 3) := by decide +kernel
theorem dX0_init_12 : decode cX0_init 12 = .ok (.aload_n 0, 1) := by decide +kernel
theorem dX0_init_13 : decode cX0_init 13 = .ok (.sipush 136, 3) := by decide +kernel
theorem dX0_init_16 : decode cX0_init 16 = .ok (.newarray .int, 2) := by decide +kernel
theorem dX0_init_18 : decode cX0_init 18 = .ok (.putfield 15, 3) := by decide +kernel
theorem dX0_init_21 : decode cX0_init 21 = .ok (.return_, 1) := by decide +kernel
theorem dX0_positionOf_0 : decode cX0_positionOf 0 = .ok (.iload_n 1, 1) := by decide +kernel
theorem dX0_positionOf_1 : decode cX0_positionOf 1 = .ok (.iconst 4, 1) := by decide +kernel
theorem dX0_positionOf_2 : decode cX0_positionOf 2 = .ok (.imul, 1) := by decide +kernel
theorem dX0_positionOf_3 : decode cX0_positionOf 3 = .ok (.iload_n 2, 1) := by decide +kernel
theorem dX0_positionOf_4 : decode cX0_positionOf 4 = .ok (.iadd, 1) := by decide +kernel
theorem dX0_positionOf_5 : decode cX0_positionOf 5 = .ok (.istore_n 3, 1) := by decide +kernel
theorem dX0_positionOf_6 : decode cX0_positionOf 6 = .ok (.iload_n 3, 1) := by decide +kernel
theorem dX0_positionOf_7 : decode cX0_positionOf 7 = .ok (.ifCond .lt 21, 3) := by decide +kernel
theorem dX0_positionOf_10 : decode cX0_positionOf 10 = .ok (.iload_n 3, 1) := by decide +kernel
theorem dX0_positionOf_11 : decode cX0_positionOf 11 = .ok (.aload_n 0, 1) := by decide +kernel
theorem dX0_positionOf_12 : decode cX0_positionOf 12 = .ok (.getfield 9, 3) := by decide +kernel
theorem dX0_positionOf_15 : decode cX0_positionOf 15 = .ok (.arraylength, 1) := by decide +kernel
theorem dX0_positionOf_16 : decode cX0_positionOf 16 = .ok (.if_icmp .ge 12, 3) := by decide +kernel
theorem dX0_positionOf_19 : decode cX0_positionOf 19 = .ok (.aload_n 0, 1) := by decide +kernel
theorem dX0_positionOf_20 : decode cX0_positionOf 20 = .ok (.getfield 9, 3) := by decide +kernel
theorem dX0_positionOf_23 : decode cX0_positionOf 23 = .ok (.iload_n 3, 1) := by decide +kernel
theorem dX0_positionOf_24 : decode cX0_positionOf 24 = .ok (.iaload, 1) := by decide +kernel
theorem dX0_positionOf_25 : decode cX0_positionOf 25 = .ok (.goto 4, 3) := by decide +kernel
theorem dX0_positionOf_28 : decode cX0_positionOf 28 = .ok (.iconst 0, 1) := by decide +kernel
theorem dX0_positionOf_29 : decode cX0_positionOf 29 = .ok (.ireturn, 1) := by decide +kernel
theorem dX0_squareAt_0 : decode cX0_squareAt 0 = .ok (.iload_n 2, 1) := by decide +kernel
theorem dX0_squareAt_1 : decode cX0_squareAt 1 = .ok (.iconst 1, 1) := by decide +kernel
theorem dX0_squareAt_2 : decode cX0_squareAt 2 = .ok (.if_icmp .lt 9, 3) := by decide +kernel
theorem dX0_squareAt_5 : decode cX0_squareAt 5 = .ok (.iload_n 2, 1) := by decide +kernel
theorem dX0_squareAt_6 : decode cX0_squareAt 6 = .ok (.bipush 64, 2) := by decide +kernel
theorem dX0_squareAt_8 : decode cX0_squareAt 8 = .ok (.if_icmp .le 5, 3) := by decide +kernel
theorem dX0_squareAt_11 : decode cX0_squareAt 11 = .ok (.iconst (-1), 1) := by decide +kernel
theorem dX0_squareAt_12 : decode cX0_squareAt 12 = .ok (.ireturn, 1) := by decide +kernel
theorem dX0_squareAt_13 : decode cX0_squareAt 13 = .ok (.bipush 17, 2) := by decide +kernel
theorem dX0_squareAt_15 : decode cX0_squareAt 15 = .ok (.iload_n 1, 1) := by decide +kernel
theorem dX0_squareAt_16 : decode cX0_squareAt 16 = .ok (.imul, 1) := by decide +kernel
theorem dX0_squareAt_17 : decode cX0_squareAt 17 = .ok (.iconst 3, 1) := by decide +kernel
theorem dX0_squareAt_18 : decode cX0_squareAt 18 = .ok (.iadd, 1) := by decide +kernel
theorem dX0_squareAt_19 : decode cX0_squareAt 19 = .ok (.iload_n 2, 1) := by decide +kernel
theorem dX0_squareAt_20 : decode cX0_squareAt 20 = .ok (.iadd, 1) := by decide +kernel
theorem dX0_squareAt_21 : decode cX0_squareAt 21 = .ok (.bipush 68, 2) := by decide +kernel
theorem dX0_squareAt_23 : decode cX0_squareAt 23 = .ok (.irem, 1) := by decide +kernel
theorem dX0_squareAt_24 : decode cX0_squareAt 24 = .ok (.ireturn, 1) := by decide +kernel
theorem dX0_countOn_0 : decode cX0_countOn 0 = .ok (.iload_n 2, 1) := by decide +kernel
theorem dX0_countOn_1 : decode cX0_countOn 1 = .ok (.bipush 68, 2) := by decide +kernel
theorem dX0_countOn_3 : decode cX0_countOn 3 = .ok (.imul, 1) := by decide +kernel
theorem dX0_countOn_4 : decode cX0_countOn 4 = .ok (.iload_n 1, 1) := by decide +kernel
theorem dX0_countOn_5 : decode cX0_countOn 5 = .ok (.iadd, 1) := by decide +kernel
theorem dX0_countOn_6 : decode cX0_countOn 6 = .ok (.istore_n 3, 1) := by decide +kernel
theorem dX0_countOn_7 : decode cX0_countOn 7 = .ok (.iload_n 1, 1) := by decide +kernel
theorem dX0_countOn_8 : decode cX0_countOn 8 = .ok (.ifCond .lt 25, 3) := by decide +kernel
theorem dX0_countOn_11 : decode cX0_countOn 11 = .ok (.iload_n 3, 1) := by decide +kernel
theorem dX0_countOn_12 : decode cX0_countOn 12 = .ok (.ifCond .lt 21, 3) := by decide +kernel
theorem dX0_countOn_15 : decode cX0_countOn 15 = .ok (.iload_n 3, 1) := by decide +kernel
theorem dX0_countOn_16 : decode cX0_countOn 16 = .ok (.aload_n 0, 1) := by decide +kernel
theorem dX0_countOn_17 : decode cX0_countOn 17 = .ok (.getfield 15, 3) := by decide +kernel
theorem dX0_countOn_20 : decode cX0_countOn 20 = .ok (.arraylength, 1) := by decide +kernel
theorem dX0_countOn_21 : decode cX0_countOn 21 = .ok (.if_icmp .ge 12, 3) := by decide +kernel
theorem dX0_countOn_24 : decode cX0_countOn 24 = .ok (.aload_n 0, 1) := by decide +kernel
theorem dX0_countOn_25 : decode cX0_countOn 25 = .ok (.getfield 15, 3) := by decide +kernel
theorem dX0_countOn_28 : decode cX0_countOn 28 = .ok (.iload_n 3, 1) := by decide +kernel
theorem dX0_countOn_29 : decode cX0_countOn 29 = .ok (.iaload, 1) := by decide +kernel
theorem dX0_countOn_30 : decode cX0_countOn 30 = .ok (.goto 4, 3) := by decide +kernel
theorem dX0_countOn_33 : decode cX0_countOn 33 = .ok (.iconst 0, 1) := by decide +kernel
theorem dX0_countOn_34 : decode cX0_countOn 34 = .ok (.ireturn, 1) := by decide +kernel
set_option maxRecDepth 20000 in
theorem ggX0_countHome_X0_positionOf : GoodIn wsX0_countHome wsX0_positionOf := goodIn_r _ [5, 6, 7, 8] (by decide +kernel) (by decide +kernel)
set_option maxRecDepth 20000 in
theorem gX0_countHome_X0_positionOf : GoodIn wsX0_countHome (wsV RX0 18 RX0 yX0_positionOf wsX0_positionOf) := goodIn_app (goodIn_of _ (by decide +kernel)) ggX0_countHome_X0_positionOf
theorem dX0_countHome_0 : decode cX0_countHome 0 = .ok (.iconst 0, 1) := by decide +kernel
theorem dX0_countHome_1 : decode cX0_countHome 1 = .ok (.istore_n 2, 1) := by decide +kernel
theorem dX0_countHome_2 : decode cX0_countHome 2 = .ok (.iconst 0, 1) := by decide +kernel
theorem dX0_countHome_3 : decode cX0_countHome 3 = .ok (.istore_n 3, 1) := by decide +kernel
theorem dX0_countHome_4 : decode cX0_countHome 4 = .ok (.iload_n 3, 1) := by decide +kernel
theorem dX0_countHome_5 : decode cX0_countHome 5 = .ok (.iconst 4, 1) := by decide +kernel
theorem dX0_countHome_6 : decode cX0_countHome 6 = .ok (.if_icmp .ge 23, 3) := by decide +kernel
theorem dX0_countHome_9 : decode cX0_countHome 9 = .ok (.aload_n 0, 1) := by decide +kernel
theorem dX0_countHome_10 : decode cX0_countHome 10 = .ok (.iload_n 1, 1) := by decide +kernel
theorem dX0_countHome_11 : decode cX0_countHome 11 = .ok (.iload_n 3, 1) := by decide +kernel
theorem dX0_countHome_12 : decode cX0_countHome 12 = .ok (.invokevirtual 18, 3) := by decide +kernel
theorem dX0_countHome_15 : decode cX0_countHome 15 = .ok (.bipush 72, 2) := by decide +kernel
theorem dX0_countHome_17 : decode cX0_countHome 17 = .ok (.if_icmp .ne 6, 3) := by decide +kernel
theorem dX0_countHome_20 : decode cX0_countHome 20 = .ok (.iinc 2 1, 3) := by decide +kernel
theorem dX0_countHome_23 : decode cX0_countHome 23 = .ok (.iinc 3 1, 3) := by decide +kernel
theorem dX0_countHome_26 : decode cX0_countHome 26 = .ok (.goto (-22), 3) := by decide +kernel
theorem dX0_countHome_29 : decode cX0_countHome 29 = .ok (.iload_n 2, 1) := by decide +kernel
theorem dX0_countHome_30 : decode cX0_countHome 30 = .ok (.ireturn, 1) := by decide +kernel
set_option maxRecDepth 20000 in
theorem ggX0_distanceOf_X0_positionOf : GoodIn wsX0_distanceOf wsX0_positionOf := goodIn_r _ [5, 6, 7, 8] (by decide +kernel) (by decide +kernel)
set_option maxRecDepth 20000 in
theorem gX0_distanceOf_X0_positionOf : GoodIn wsX0_distanceOf (wsV RX0 18 RX0 yX0_positionOf wsX0_positionOf) := goodIn_app (goodIn_of _ (by decide +kernel)) ggX0_distanceOf_X0_positionOf
theorem dX0_distanceOf_0 : decode cX0_distanceOf 0 = .ok (.iconst 0, 1) := by decide +kernel
theorem dX0_distanceOf_1 : decode cX0_distanceOf 1 = .ok (.istore_n 2, 1) := by decide +kernel
theorem dX0_distanceOf_2 : decode cX0_distanceOf 2 = .ok (.iconst 0, 1) := by decide +kernel
theorem dX0_distanceOf_3 : decode cX0_distanceOf 3 = .ok (.istore_n 3, 1) := by decide +kernel
theorem dX0_distanceOf_4 : decode cX0_distanceOf 4 = .ok (.iload_n 3, 1) := by decide +kernel
theorem dX0_distanceOf_5 : decode cX0_distanceOf 5 = .ok (.iconst 4, 1) := by decide +kernel
theorem dX0_distanceOf_6 : decode cX0_distanceOf 6 = .ok (.if_icmp .ge 21, 3) := by decide +kernel
theorem dX0_distanceOf_9 : decode cX0_distanceOf 9 = .ok (.iload_n 2, 1) := by decide +kernel
theorem dX0_distanceOf_10 : decode cX0_distanceOf 10 = .ok (.bipush 72, 2) := by decide +kernel
theorem dX0_distanceOf_12 : decode cX0_distanceOf 12 = .ok (.aload_n 0, 1) := by decide +kernel
theorem dX0_distanceOf_13 : decode cX0_distanceOf 13 = .ok (.iload_n 1, 1) := by decide +kernel
theorem dX0_distanceOf_14 : decode cX0_distanceOf 14 = .ok (.iload_n 3, 1) := by decide +kernel
theorem dX0_distanceOf_15 : decode cX0_distanceOf 15 = .ok (.invokevirtual 18, 3) := by decide +kernel
theorem dX0_distanceOf_18 : decode cX0_distanceOf 18 = .ok (.isub, 1) := by decide +kernel
theorem dX0_distanceOf_19 : decode cX0_distanceOf 19 = .ok (.iadd, 1) := by decide +kernel
theorem dX0_distanceOf_20 : decode cX0_distanceOf 20 = .ok (.istore_n 2, 1) := by decide +kernel
theorem dX0_distanceOf_21 : decode cX0_distanceOf 21 = .ok (.iinc 3 1, 3) := by decide +kernel
theorem dX0_distanceOf_24 : decode cX0_distanceOf 24 = .ok (.goto (-20), 3) := by decide +kernel
theorem dX0_distanceOf_27 : decode cX0_distanceOf 27 = .ok (.iload_n 2, 1) := by decide +kernel
theorem dX0_distanceOf_28 : decode cX0_distanceOf 28 = .ok (.ireturn, 1) := by decide +kernel
set_option maxRecDepth 20000 in
theorem ggX0_isTeamHome_X0_countHome : GoodIn wsX0_isTeamHome wsX0_countHome := goodIn_r _ [5, 6, 7, 8, 4, 9, 10, 14, 15] (by decide +kernel) (by decide +kernel)
set_option maxRecDepth 20000 in
theorem gX0_isTeamHome_X0_countHome : GoodIn wsX0_isTeamHome (wsV RX0 22 RX0 yX0_countHome wsX0_countHome) := goodIn_app (goodIn_of _ (by decide +kernel)) ggX0_isTeamHome_X0_countHome
set_option maxRecDepth 20000 in
theorem ggX0_isTeamHome_X1_partnerOf : GoodIn wsX0_isTeamHome wsX1_partnerOf := goodIn_r _ [13] (by decide +kernel) (by decide +kernel)
set_option maxRecDepth 20000 in
theorem gX0_isTeamHome_X1_partnerOf_n26 : GoodIn wsX0_isTeamHome (wsX1_partnerOf) := ggX0_isTeamHome_X1_partnerOf
theorem dX0_isTeamHome_0 : decode cX0_isTeamHome 0 = .ok (.aload_n 0, 1) := by decide +kernel
theorem dX0_isTeamHome_1 : decode cX0_isTeamHome 1 = .ok (.iload_n 1, 1) := by decide +kernel
theorem dX0_isTeamHome_2 : decode cX0_isTeamHome 2 = .ok (.invokevirtual 22, 3) := by decide +kernel
theorem dX0_isTeamHome_5 : decode cX0_isTeamHome 5 = .ok (.iconst 4, 1) := by decide +kernel
theorem dX0_isTeamHome_6 : decode cX0_isTeamHome 6 = .ok (.if_icmp .ne 19, 3) := by decide +kernel
theorem dX0_isTeamHome_9 : decode cX0_isTeamHome 9 = .ok (.aload_n 0, 1) := by decide +kernel
theorem dX0_isTeamHome_10 : decode cX0_isTeamHome 10 = .ok (.iload_n 1, 1) := by decide +kernel
theorem dX0_isTeamHome_11 : decode cX0_isTeamHome 11 = .ok (.invokestatic 26, 3) := by decide +kernel
theorem dX0_isTeamHome_14 : decode cX0_isTeamHome 14 = .ok (.invokevirtual 22, 3) := by decide +kernel
theorem dX0_isTeamHome_17 : decode cX0_isTeamHome 17 = .ok (.iconst 4, 1) := by decide +kernel
theorem dX0_isTeamHome_18 : decode cX0_isTeamHome 18 = .ok (.if_icmp .ne 7, 3) := by decide +kernel
theorem dX0_isTeamHome_21 : decode cX0_isTeamHome 21 = .ok (.iconst 1, 1) := by decide +kernel
theorem dX0_isTeamHome_22 : decode cX0_isTeamHome 22 = .ok (.goto 4, 3) := by decide +kernel
theorem dX0_isTeamHome_25 : decode cX0_isTeamHome 25 = .ok (.iconst 0, 1) := by decide +kernel
theorem dX0_isTeamHome_26 : decode cX0_isTeamHome 26 = .ok (.ireturn, 1) := by decide +kernel
set_option maxRecDepth 20000 in
theorem ggX0_moverFor_X0_countHome : GoodIn wsX0_moverFor wsX0_countHome := goodIn_r _ [5, 6, 7, 8, 4, 9, 10, 14, 15] (by decide +kernel) (by decide +kernel)
set_option maxRecDepth 20000 in
theorem gX0_moverFor_X0_countHome : GoodIn wsX0_moverFor (wsV RX0 22 RX0 yX0_countHome wsX0_countHome) := goodIn_app (goodIn_of _ (by decide +kernel)) ggX0_moverFor_X0_countHome
set_option maxRecDepth 20000 in
theorem ggX0_moverFor_X1_partnerOf : GoodIn wsX0_moverFor wsX1_partnerOf := goodIn_r _ [13] (by decide +kernel) (by decide +kernel)
set_option maxRecDepth 20000 in
theorem gX0_moverFor_X1_partnerOf_n26 : GoodIn wsX0_moverFor (wsX1_partnerOf) := ggX0_moverFor_X1_partnerOf
theorem dX0_moverFor_0 : decode cX0_moverFor 0 = .ok (.aload_n 0, 1) := by decide +kernel
theorem dX0_moverFor_1 : decode cX0_moverFor 1 = .ok (.iload_n 1, 1) := by decide +kernel
theorem dX0_moverFor_2 : decode cX0_moverFor 2 = .ok (.invokevirtual 22, 3) := by decide +kernel
theorem dX0_moverFor_5 : decode cX0_moverFor 5 = .ok (.iconst 4, 1) := by decide +kernel
theorem dX0_moverFor_6 : decode cX0_moverFor 6 = .ok (.if_icmp .ne 10, 3) := by decide +kernel
theorem dX0_moverFor_9 : decode cX0_moverFor 9 = .ok (.iload_n 1, 1) := by decide +kernel
theorem dX0_moverFor_10 : decode cX0_moverFor 10 = .ok (.invokestatic 26, 3) := by decide +kernel
theorem dX0_moverFor_13 : decode cX0_moverFor 13 = .ok (.goto 4, 3) := by decide +kernel
theorem dX0_moverFor_16 : decode cX0_moverFor 16 = .ok (.iload_n 1, 1) := by decide +kernel
theorem dX0_moverFor_17 : decode cX0_moverFor 17 = .ok (.ireturn, 1) := by decide +kernel
set_option maxRecDepth 20000 in
theorem ggX0_place_X0_squareAt : GoodIn wsX0_place wsX0_squareAt := goodIn_r _ [6] (by decide +kernel) (by decide +kernel)
set_option maxRecDepth 20000 in
theorem gX0_place_X0_squareAt : GoodIn wsX0_place (wsV RX0 29 RX0 yX0_squareAt wsX0_squareAt) := goodIn_app (goodIn_of _ (by decide +kernel)) ggX0_place_X0_squareAt
set_option maxRecDepth 20000 in
theorem ggX0_place_X1_teamOf : GoodIn wsX0_place wsX1_teamOf := goodIn_r _ [9] (by decide +kernel) (by decide +kernel)
set_option maxRecDepth 20000 in
theorem gX0_place_X1_teamOf_n32 : GoodIn wsX0_place (wsX1_teamOf) := ggX0_place_X1_teamOf
set_option maxRecDepth 20000 in
theorem ggX0_place_X0_addOn : GoodIn wsX0_place wsX0_addOn := goodIn_r _ [13, 14, 15, 16] (by decide +kernel) (by decide +kernel)
set_option maxRecDepth 20000 in
theorem gX0_place_X0_addOn : GoodIn wsX0_place (wsV RX0 35 RX0 yX0_addOn wsX0_addOn) := goodIn_app (goodIn_of _ (by decide +kernel)) ggX0_place_X0_addOn
theorem dX0_place_0 : decode cX0_place 0 = .ok (.iload_n 1, 1) := by decide +kernel
theorem dX0_place_1 : decode cX0_place 1 = .ok (.iconst 4, 1) := by decide +kernel
theorem dX0_place_2 : decode cX0_place 2 = .ok (.imul, 1) := by decide +kernel
theorem dX0_place_3 : decode cX0_place 3 = .ok (.iload_n 2, 1) := by decide +kernel
theorem dX0_place_4 : decode cX0_place 4 = .ok (.iadd, 1) := by decide +kernel
theorem dX0_place_5 : decode cX0_place 5 = .ok (.istore 4, 2) := by decide +kernel
theorem dX0_place_7 : decode cX0_place 7 = .ok (.iload 4, 2) := by decide +kernel
theorem dX0_place_9 : decode cX0_place 9 = .ok (.ifCond .lt 13, 3) := by decide +kernel
theorem dX0_place_12 : decode cX0_place 12 = .ok (.iload 4, 2) := by decide +kernel
theorem dX0_place_14 : decode cX0_place 14 = .ok (.aload_n 0, 1) := by decide +kernel
theorem dX0_place_15 : decode cX0_place 15 = .ok (.getfield 9, 3) := by decide +kernel
theorem dX0_place_18 : decode cX0_place 18 = .ok (.arraylength, 1) := by decide +kernel
theorem dX0_place_19 : decode cX0_place 19 = .ok (.if_icmp .lt 4, 3) := by decide +kernel
theorem dX0_place_22 : decode cX0_place 22 = .ok (.return_, 1) := by decide +kernel
theorem dX0_place_23 : decode cX0_place 23 = .ok (.aload_n 0, 1) := by decide +kernel
theorem dX0_place_24 : decode cX0_place 24 = .ok (.aload_n 0, 1) := by decide +kernel
theorem dX0_place_25 : decode cX0_place 25 = .ok (.iload_n 1, 1) := by decide +kernel
theorem dX0_place_26 : decode cX0_place 26 = .ok (.aload_n 0, 1) := by decide +kernel
theorem dX0_place_27 : decode cX0_place 27 = .ok (.getfield 9, 3) := by decide +kernel
theorem dX0_place_30 : decode cX0_place 30 = .ok (.iload 4, 2) := by decide +kernel
theorem dX0_place_32 : decode cX0_place 32 = .ok (.iaload, 1) := by decide +kernel
theorem dX0_place_33 : decode cX0_place 33 = .ok (.invokevirtual 29, 3) := by decide +kernel
theorem dX0_place_36 : decode cX0_place 36 = .ok (.iload_n 1, 1) := by decide +kernel
theorem dX0_place_37 : decode cX0_place 37 = .ok (.invokestatic 32, 3) := by decide +kernel
theorem dX0_place_40 : decode cX0_place 40 = .ok (.iconst (-1), 1) := by decide +kernel
theorem dX0_place_41 : decode cX0_place 41 = .ok (.invokevirtual 35, 3) := by decide +kernel
theorem dX0_place_44 : decode cX0_place 44 = .ok (.aload_n 0, 1) := by decide +kernel
theorem dX0_place_45 : decode cX0_place 45 = .ok (.getfield 9, 3) := by decide +kernel
theorem dX0_place_48 : decode cX0_place 48 = .ok (.iload 4, 2) := by decide +kernel
theorem dX0_place_50 : decode cX0_place 50 = .ok (.iload_n 3, 1) := by decide +kernel
theorem dX0_place_51 : decode cX0_place 51 = .ok (.iastore, 1) := by decide +kernel
theorem dX0_place_52 : decode cX0_place 52 = .ok (.aload_n 0, 1) := by decide +kernel
theorem dX0_place_53 : decode cX0_place 53 = .ok (.aload_n 0, 1) := by decide +kernel
theorem dX0_place_54 : decode cX0_place 54 = .ok (.iload_n 1, 1) := by decide +kernel
theorem dX0_place_55 : decode cX0_place 55 = .ok (.iload_n 3, 1) := by decide +kernel
theorem dX0_place_56 : decode cX0_place 56 = .ok (.invokevirtual 29, 3) := by decide +kernel
theorem dX0_place_59 : decode cX0_place 59 = .ok (.iload_n 1, 1) := by decide +kernel
theorem dX0_place_60 : decode cX0_place 60 = .ok (.invokestatic 32, 3) := by decide +kernel
theorem dX0_place_63 : decode cX0_place 63 = .ok (.iconst 1, 1) := by decide +kernel
theorem dX0_place_64 : decode cX0_place 64 = .ok (.invokevirtual 35, 3) := by decide +kernel
theorem dX0_place_67 : decode cX0_place 67 = .ok (.return_, 1) := by decide +kernel
theorem dX0_addOn_0 : decode cX0_addOn 0 = .ok (.iload_n 2, 1) := by decide +kernel
theorem dX0_addOn_1 : decode cX0_addOn 1 = .ok (.bipush 68, 2) := by decide +kernel
theorem dX0_addOn_3 : decode cX0_addOn 3 = .ok (.imul, 1) := by decide +kernel
theorem dX0_addOn_4 : decode cX0_addOn 4 = .ok (.iload_n 1, 1) := by decide +kernel
theorem dX0_addOn_5 : decode cX0_addOn 5 = .ok (.iadd, 1) := by decide +kernel
theorem dX0_addOn_6 : decode cX0_addOn 6 = .ok (.istore 4, 2) := by decide +kernel
theorem dX0_addOn_8 : decode cX0_addOn 8 = .ok (.iload_n 1, 1) := by decide +kernel
theorem dX0_addOn_9 : decode cX0_addOn 9 = .ok (.ifCond .lt 29, 3) := by decide +kernel
theorem dX0_addOn_12 : decode cX0_addOn 12 = .ok (.iload 4, 2) := by decide +kernel
theorem dX0_addOn_14 : decode cX0_addOn 14 = .ok (.ifCond .lt 24, 3) := by decide +kernel
theorem dX0_addOn_17 : decode cX0_addOn 17 = .ok (.iload 4, 2) := by decide +kernel
theorem dX0_addOn_19 : decode cX0_addOn 19 = .ok (.aload_n 0, 1) := by decide +kernel
theorem dX0_addOn_20 : decode cX0_addOn 20 = .ok (.getfield 15, 3) := by decide +kernel
theorem dX0_addOn_23 : decode cX0_addOn 23 = .ok (.arraylength, 1) := by decide +kernel
theorem dX0_addOn_24 : decode cX0_addOn 24 = .ok (.if_icmp .ge 14, 3) := by decide +kernel
theorem dX0_addOn_27 : decode cX0_addOn 27 = .ok (.aload_n 0, 1) := by decide +kernel
theorem dX0_addOn_28 : decode cX0_addOn 28 = .ok (.getfield 15, 3) := by decide +kernel
theorem dX0_addOn_31 : decode cX0_addOn 31 = .ok (.iload 4, 2) := by decide +kernel
theorem dX0_addOn_33 : decode cX0_addOn 33 = .ok (.dup2, 1) := by decide +kernel
theorem dX0_addOn_34 : decode cX0_addOn 34 = .ok (.iaload, 1) := by decide +kernel
theorem dX0_addOn_35 : decode cX0_addOn 35 = .ok (.iload_n 3, 1) := by decide +kernel
theorem dX0_addOn_36 : decode cX0_addOn 36 = .ok (.iadd, 1) := by decide +kernel
theorem dX0_addOn_37 : decode cX0_addOn 37 = .ok (.iastore, 1) := by decide +kernel
theorem dX0_addOn_38 : decode cX0_addOn 38 = .ok (.return_, 1) := by decide +kernel
set_option maxRecDepth 20000 in
theorem ggX0_sendToYard_X0_positionOf : GoodIn wsX0_sendToYard wsX0_positionOf := goodIn_r _ [5, 6, 23, 24] (by decide +kernel) (by decide +kernel)
set_option maxRecDepth 20000 in
theorem gX0_sendToYard_X0_positionOf : GoodIn wsX0_sendToYard (wsV RX0 18 RX0 yX0_positionOf wsX0_positionOf) := goodIn_app (goodIn_of _ (by decide +kernel)) ggX0_sendToYard_X0_positionOf
set_option maxRecDepth 20000 in
theorem ggX0_sendToYard_X0_squareAt : GoodIn wsX0_sendToYard wsX0_squareAt := goodIn_r _ [10] (by decide +kernel) (by decide +kernel)
set_option maxRecDepth 20000 in
theorem gX0_sendToYard_X0_squareAt : GoodIn wsX0_sendToYard (wsV RX0 29 RX0 yX0_squareAt wsX0_squareAt) := goodIn_app (goodIn_of _ (by decide +kernel)) ggX0_sendToYard_X0_squareAt
set_option maxRecDepth 20000 in
theorem ggX0_sendToYard_X0_place : GoodIn wsX0_sendToYard wsX0_place := goodIn_r _ [14, 6, 7, 8, 9, 4, 10, 15, 16, 17, 18, 19, 20, 21, 22, 23, 24] (by decide +kernel) (by decide +kernel)
set_option maxRecDepth 20000 in
theorem gX0_sendToYard_X0_place : GoodIn wsX0_sendToYard (wsV RX0 39 RX0 yX0_place wsX0_place) := goodIn_app (goodIn_of _ (by decide +kernel)) ggX0_sendToYard_X0_place
theorem dX0_sendToYard_0 : decode cX0_sendToYard 0 = .ok (.iload_n 1, 1) := by decide +kernel
theorem dX0_sendToYard_1 : decode cX0_sendToYard 1 = .ok (.istore_n 3, 1) := by decide +kernel
theorem dX0_sendToYard_2 : decode cX0_sendToYard 2 = .ok (.iload_n 3, 1) := by decide +kernel
theorem dX0_sendToYard_3 : decode cX0_sendToYard 3 = .ok (.iconst 4, 1) := by decide +kernel
theorem dX0_sendToYard_4 : decode cX0_sendToYard 4 = .ok (.if_icmp .ge 48, 3) := by decide +kernel
theorem dX0_sendToYard_7 : decode cX0_sendToYard 7 = .ok (.iconst 0, 1) := by decide +kernel
theorem dX0_sendToYard_8 : decode cX0_sendToYard 8 = .ok (.istore 4, 2) := by decide +kernel
theorem dX0_sendToYard_10 : decode cX0_sendToYard 10 = .ok (.iload 4, 2) := by decide +kernel
theorem dX0_sendToYard_12 : decode cX0_sendToYard 12 = .ok (.iconst 4, 1) := by decide +kernel
theorem dX0_sendToYard_13 : decode cX0_sendToYard 13 = .ok (.if_icmp .ge 33, 3) := by decide +kernel
theorem dX0_sendToYard_16 : decode cX0_sendToYard 16 = .ok (.aload_n 0, 1) := by decide +kernel
theorem dX0_sendToYard_17 : decode cX0_sendToYard 17 = .ok (.iload_n 3, 1) := by decide +kernel
theorem dX0_sendToYard_18 : decode cX0_sendToYard 18 = .ok (.aload_n 0, 1) := by decide +kernel
theorem dX0_sendToYard_19 : decode cX0_sendToYard 19 = .ok (.iload_n 3, 1) := by decide +kernel
theorem dX0_sendToYard_20 : decode cX0_sendToYard 20 = .ok (.iload 4, 2) := by decide +kernel
theorem dX0_sendToYard_22 : decode cX0_sendToYard 22 = .ok (.invokevirtual 18, 3) := by decide +kernel
theorem dX0_sendToYard_25 : decode cX0_sendToYard 25 = .ok (.invokevirtual 29, 3) := by decide +kernel
theorem dX0_sendToYard_28 : decode cX0_sendToYard 28 = .ok (.iload_n 2, 1) := by decide +kernel
theorem dX0_sendToYard_29 : decode cX0_sendToYard 29 = .ok (.if_icmp .ne 11, 3) := by decide +kernel
theorem dX0_sendToYard_32 : decode cX0_sendToYard 32 = .ok (.aload_n 0, 1) := by decide +kernel
theorem dX0_sendToYard_33 : decode cX0_sendToYard 33 = .ok (.iload_n 3, 1) := by decide +kernel
theorem dX0_sendToYard_34 : decode cX0_sendToYard 34 = .ok (.iload 4, 2) := by decide +kernel
theorem dX0_sendToYard_36 : decode cX0_sendToYard 36 = .ok (.iconst 0, 1) := by decide +kernel
theorem dX0_sendToYard_37 : decode cX0_sendToYard 37 = .ok (.invokevirtual 39, 3) := by decide +kernel
theorem dX0_sendToYard_40 : decode cX0_sendToYard 40 = .ok (.iinc 4 1, 3) := by decide +kernel
theorem dX0_sendToYard_43 : decode cX0_sendToYard 43 = .ok (.goto (-33), 3) := by decide +kernel
theorem dX0_sendToYard_46 : decode cX0_sendToYard 46 = .ok (.iinc 3 2, 3) := by decide +kernel
theorem dX0_sendToYard_49 : decode cX0_sendToYard 49 = .ok (.goto (-47), 3) := by decide +kernel
theorem dX0_sendToYard_52 : decode cX0_sendToYard 52 = .ok (.return_, 1) := by decide +kernel
set_option maxRecDepth 20000 in
theorem ggX0_targetOf_X0_positionOf : GoodIn wsX0_targetOf wsX0_positionOf := goodIn_r _ [5, 6, 37, 38] (by decide +kernel) (by decide +kernel)
set_option maxRecDepth 20000 in
theorem gX0_targetOf_X0_positionOf : GoodIn wsX0_targetOf (wsV RX0 18 RX0 yX0_positionOf wsX0_positionOf) := goodIn_app (goodIn_of _ (by decide +kernel)) ggX0_targetOf_X0_positionOf
set_option maxRecDepth 20000 in
theorem ggX0_targetOf_X1_isGrace : GoodIn wsX0_targetOf wsX1_isGrace := goodIn_r _ [9] (by decide +kernel) (by decide +kernel)
set_option maxRecDepth 20000 in
theorem gX0_targetOf_X1_isGrace_n42 : GoodIn wsX0_targetOf (wsX1_isGrace) := ggX0_targetOf_X1_isGrace
set_option maxRecDepth 20000 in
theorem ggX0_targetOf_X1_worthOf : GoodIn wsX0_targetOf wsX1_worthOf := goodIn_r _ [11] (by decide +kernel) (by decide +kernel)
set_option maxRecDepth 20000 in
theorem gX0_targetOf_X1_worthOf_n46 : GoodIn wsX0_targetOf (wsX1_worthOf) := ggX0_targetOf_X1_worthOf
set_option maxRecDepth 20000 in
theorem ggX0_targetOf_X0_isWayFree : GoodIn wsX0_targetOf wsX0_isWayFree := goodIn_r _ [15, 16, 17, 18, 19, 20, 21, 22, 4, 23, 24, 8, 25, 26, 27, 28, 29, 30, 37, 38] (by decide +kernel) (by decide +kernel)
set_option maxRecDepth 20000 in
theorem gX0_targetOf_X0_isWayFree : GoodIn wsX0_targetOf (wsV RX0 49 RX0 yX0_isWayFree wsX0_isWayFree) := goodIn_app (goodIn_of _ (by decide +kernel)) ggX0_targetOf_X0_isWayFree
set_option maxRecDepth 20000 in
theorem ggX0_targetOf_X0_isCapture : GoodIn wsX0_targetOf wsX0_isCapture := goodIn_r _ [34, 20, 21, 22, 4, 23, 24, 8, 25, 26, 27, 28, 29, 30, 37, 38] (by decide +kernel) (by decide +kernel)
set_option maxRecDepth 20000 in
theorem gX0_targetOf_X0_isCapture : GoodIn wsX0_targetOf (wsV RX0 53 RX0 yX0_isCapture wsX0_isCapture) := goodIn_app (goodIn_of _ (by decide +kernel)) ggX0_targetOf_X0_isCapture
set_option maxRecDepth 20000 in
theorem ggX0_targetOf_X0_squareAt : GoodIn wsX0_targetOf wsX0_squareAt := goodIn_r _ [23] (by decide +kernel) (by decide +kernel)
set_option maxRecDepth 20000 in
theorem gX0_targetOf_X0_squareAt : GoodIn wsX0_targetOf (wsV RX0 29 RX0 yX0_squareAt wsX0_squareAt) := goodIn_app (goodIn_of _ (by decide +kernel)) ggX0_targetOf_X0_squareAt
set_option maxRecDepth 20000 in
theorem ggX0_targetOf_X1_isSafeSquare : GoodIn wsX0_targetOf wsX1_isSafeSquare := goodIn_r _ [36] (by decide +kernel) (by decide +kernel)
set_option maxRecDepth 20000 in
theorem gX0_targetOf_X1_isSafeSquare_n57 : GoodIn wsX0_targetOf (wsX1_isSafeSquare) := ggX0_targetOf_X1_isSafeSquare
theorem dX0_targetOf_0 : decode cX0_targetOf 0 = .ok (.aload_n 0, 1) := by decide +kernel
theorem dX0_targetOf_1 : decode cX0_targetOf 1 = .ok (.iload_n 1, 1) := by decide +kernel
theorem dX0_targetOf_2 : decode cX0_targetOf 2 = .ok (.iload_n 2, 1) := by decide +kernel
theorem dX0_targetOf_3 : decode cX0_targetOf 3 = .ok (.invokevirtual 18, 3) := by decide +kernel
theorem dX0_targetOf_6 : decode cX0_targetOf 6 = .ok (.istore 4, 2) := by decide +kernel
theorem dX0_targetOf_8 : decode cX0_targetOf 8 = .ok (.iload 4, 2) := by decide +kernel
theorem dX0_targetOf_10 : decode cX0_targetOf 10 = .ok (.bipush 72, 2) := by decide +kernel
theorem dX0_targetOf_12 : decode cX0_targetOf 12 = .ok (.if_icmp .eq 15, 3) := by decide +kernel
theorem dX0_targetOf_15 : decode cX0_targetOf 15 = .ok (.iload 4, 2) := by decide +kernel
theorem dX0_targetOf_17 : decode cX0_targetOf 17 = .ok (.ifCond .ne 12, 3) := by decide +kernel
theorem dX0_targetOf_20 : decode cX0_targetOf 20 = .ok (.iload_n 3, 1) := by decide +kernel
theorem dX0_targetOf_21 : decode cX0_targetOf 21 = .ok (.invokestatic 42, 3) := by decide +kernel
theorem dX0_targetOf_24 : decode cX0_targetOf 24 = .ok (.ifCond .ne 5, 3) := by decide +kernel
theorem dX0_targetOf_27 : decode cX0_targetOf 27 = .ok (.iconst (-1), 1) := by decide +kernel
theorem dX0_targetOf_28 : decode cX0_targetOf 28 = .ok (.ireturn, 1) := by decide +kernel
theorem dX0_targetOf_29 : decode cX0_targetOf 29 = .ok (.iload 4, 2) := by decide +kernel
theorem dX0_targetOf_31 : decode cX0_targetOf 31 = .ok (.ifCond .ne 7, 3) := by decide +kernel
theorem dX0_targetOf_34 : decode cX0_targetOf 34 = .ok (.iconst 1, 1) := by decide +kernel
theorem dX0_targetOf_35 : decode cX0_targetOf 35 = .ok (.goto 10, 3) := by decide +kernel
theorem dX0_targetOf_38 : decode cX0_targetOf 38 = .ok (.iload 4, 2) := by decide +kernel
theorem dX0_targetOf_40 : decode cX0_targetOf 40 = .ok (.iload_n 3, 1) := by decide +kernel
theorem dX0_targetOf_41 : decode cX0_targetOf 41 = .ok (.invokestatic 46, 3) := by decide +kernel
theorem dX0_targetOf_44 : decode cX0_targetOf 44 = .ok (.iadd, 1) := by decide +kernel
theorem dX0_targetOf_45 : decode cX0_targetOf 45 = .ok (.istore 5, 2) := by decide +kernel
theorem dX0_targetOf_47 : decode cX0_targetOf 47 = .ok (.iload 5, 2) := by decide +kernel
theorem dX0_targetOf_49 : decode cX0_targetOf 49 = .ok (.bipush 72, 2) := by decide +kernel
theorem dX0_targetOf_51 : decode cX0_targetOf 51 = .ok (.if_icmp .gt 15, 3) := by decide +kernel
theorem dX0_targetOf_54 : decode cX0_targetOf 54 = .ok (.aload_n 0, 1) := by decide +kernel
theorem dX0_targetOf_55 : decode cX0_targetOf 55 = .ok (.iload_n 1, 1) := by decide +kernel
theorem dX0_targetOf_56 : decode cX0_targetOf 56 = .ok (.iload 4, 2) := by decide +kernel
theorem dX0_targetOf_58 : decode cX0_targetOf 58 = .ok (.iload 5, 2) := by decide +kernel
theorem dX0_targetOf_60 : decode cX0_targetOf 60 = .ok (.invokevirtual 49, 3) := by decide +kernel
theorem dX0_targetOf_63 : decode cX0_targetOf 63 = .ok (.ifCond .ne 5, 3) := by decide +kernel
theorem dX0_targetOf_66 : decode cX0_targetOf 66 = .ok (.iconst (-1), 1) := by decide +kernel
theorem dX0_targetOf_67 : decode cX0_targetOf 67 = .ok (.ireturn, 1) := by decide +kernel
theorem dX0_targetOf_68 : decode cX0_targetOf 68 = .ok (.aload_n 0, 1) := by decide +kernel
theorem dX0_targetOf_69 : decode cX0_targetOf 69 = .ok (.iload_n 1, 1) := by decide +kernel
theorem dX0_targetOf_70 : decode cX0_targetOf 70 = .ok (.iload 5, 2) := by decide +kernel
theorem dX0_targetOf_72 : decode cX0_targetOf 72 = .ok (.invokevirtual 53, 3) := by decide +kernel
theorem dX0_targetOf_75 : decode cX0_targetOf 75 = .ok (.ifCond .eq 20, 3) := by decide +kernel
theorem dX0_targetOf_78 : decode cX0_targetOf 78 = .ok (.aload_n 0, 1) := by decide +kernel
theorem dX0_targetOf_79 : decode cX0_targetOf 79 = .ok (.iload_n 1, 1) := by decide +kernel
theorem dX0_targetOf_80 : decode cX0_targetOf 80 = .ok (.iload 5, 2) := by decide +kernel
theorem dX0_targetOf_82 : decode cX0_targetOf 82 = .ok (.invokevirtual 29, 3) := by decide +kernel
theorem dX0_targetOf_85 : decode cX0_targetOf 85 = .ok (.invokestatic 57, 3) := by decide +kernel
theorem dX0_targetOf_88 : decode cX0_targetOf 88 = .ok (.ifCond .eq 7, 3) := by decide +kernel
theorem dX0_targetOf_91 : decode cX0_targetOf 91 = .ok (.iconst 1, 1) := by decide +kernel
theorem dX0_targetOf_92 : decode cX0_targetOf 92 = .ok (.goto 4, 3) := by decide +kernel
theorem dX0_targetOf_95 : decode cX0_targetOf 95 = .ok (.iconst 0, 1) := by decide +kernel
theorem dX0_targetOf_96 : decode cX0_targetOf 96 = .ok (.istore 6, 2) := by decide +kernel
theorem dX0_targetOf_98 : decode cX0_targetOf 98 = .ok (.iload 6, 2) := by decide +kernel
theorem dX0_targetOf_100 : decode cX0_targetOf 100 = .ok (.ifCond .eq 7, 3) := by decide +kernel
theorem dX0_targetOf_103 : decode cX0_targetOf 103 = .ok (.iconst (-1), 1) := by decide +kernel
theorem dX0_targetOf_104 : decode cX0_targetOf 104 = .ok (.goto 5, 3) := by decide +kernel
theorem dX0_targetOf_107 : decode cX0_targetOf 107 = .ok (.iload 5, 2) := by decide +kernel
theorem dX0_targetOf_109 : decode cX0_targetOf 109 = .ok (.ireturn, 1) := by decide +kernel
set_option maxRecDepth 20000 in
theorem ggX0_isWayFree_X0_squareAt : GoodIn wsX0_isWayFree wsX0_squareAt := goodIn_r _ [9] (by decide +kernel) (by decide +kernel)
set_option maxRecDepth 20000 in
theorem gX0_isWayFree_X0_squareAt : GoodIn wsX0_isWayFree (wsV RX0 29 RX0 yX0_squareAt wsX0_squareAt) := goodIn_app (goodIn_of _ (by decide +kernel)) ggX0_isWayFree_X0_squareAt
set_option maxRecDepth 20000 in
theorem ggX0_isWayFree_X1_otherTeam : GoodIn wsX0_isWayFree wsX1_otherTeam := goodIn_r _ [12] (by decide +kernel) (by decide +kernel)
set_option maxRecDepth 20000 in
theorem gX0_isWayFree_X1_otherTeam_n65 : GoodIn wsX0_isWayFree (wsX1_otherTeam) := ggX0_isWayFree_X1_otherTeam
set_option maxRecDepth 20000 in
theorem ggX0_isWayFree_X0_countOn : GoodIn wsX0_isWayFree wsX0_countOn := goodIn_r _ [16, 17, 18, 19] (by decide +kernel) (by decide +kernel)
set_option maxRecDepth 20000 in
theorem gX0_isWayFree_X0_countOn : GoodIn wsX0_isWayFree (wsV RX0 68 RX0 yX0_countOn wsX0_countOn) := goodIn_app (goodIn_of _ (by decide +kernel)) ggX0_isWayFree_X0_countOn
theorem dX0_isWayFree_0 : decode cX0_isWayFree 0 = .ok (.iload_n 3, 1) := by decide +kernel
theorem dX0_isWayFree_1 : decode cX0_isWayFree 1 = .ok (.bipush 64, 2) := by decide +kernel
theorem dX0_isWayFree_3 : decode cX0_isWayFree 3 = .ok (.invokestatic 60, 3) := by decide +kernel
theorem dX0_isWayFree_6 : decode cX0_isWayFree 6 = .ok (.istore 4, 2) := by decide +kernel
theorem dX0_isWayFree_8 : decode cX0_isWayFree 8 = .ok (.iload_n 2, 1) := by decide +kernel
theorem dX0_isWayFree_9 : decode cX0_isWayFree 9 = .ok (.iconst 1, 1) := by decide +kernel
theorem dX0_isWayFree_10 : decode cX0_isWayFree 10 = .ok (.iadd, 1) := by decide +kernel
theorem dX0_isWayFree_11 : decode cX0_isWayFree 11 = .ok (.istore 5, 2) := by decide +kernel
theorem dX0_isWayFree_13 : decode cX0_isWayFree 13 = .ok (.iload 5, 2) := by decide +kernel
theorem dX0_isWayFree_15 : decode cX0_isWayFree 15 = .ok (.iload 4, 2) := by decide +kernel
theorem dX0_isWayFree_17 : decode cX0_isWayFree 17 = .ok (.if_icmp .gt 30, 3) := by decide +kernel
theorem dX0_isWayFree_20 : decode cX0_isWayFree 20 = .ok (.aload_n 0, 1) := by decide +kernel
theorem dX0_isWayFree_21 : decode cX0_isWayFree 21 = .ok (.aload_n 0, 1) := by decide +kernel
theorem dX0_isWayFree_22 : decode cX0_isWayFree 22 = .ok (.iload_n 1, 1) := by decide +kernel
theorem dX0_isWayFree_23 : decode cX0_isWayFree 23 = .ok (.iload 5, 2) := by decide +kernel
theorem dX0_isWayFree_25 : decode cX0_isWayFree 25 = .ok (.invokevirtual 29, 3) := by decide +kernel
theorem dX0_isWayFree_28 : decode cX0_isWayFree 28 = .ok (.iload_n 1, 1) := by decide +kernel
theorem dX0_isWayFree_29 : decode cX0_isWayFree 29 = .ok (.invokestatic 65, 3) := by decide +kernel
theorem dX0_isWayFree_32 : decode cX0_isWayFree 32 = .ok (.invokevirtual 68, 3) := by decide +kernel
theorem dX0_isWayFree_35 : decode cX0_isWayFree 35 = .ok (.iconst 2, 1) := by decide +kernel
theorem dX0_isWayFree_36 : decode cX0_isWayFree 36 = .ok (.if_icmp .lt 5, 3) := by decide +kernel
theorem dX0_isWayFree_39 : decode cX0_isWayFree 39 = .ok (.iconst 0, 1) := by decide +kernel
theorem dX0_isWayFree_40 : decode cX0_isWayFree 40 = .ok (.ireturn, 1) := by decide +kernel
theorem dX0_isWayFree_41 : decode cX0_isWayFree 41 = .ok (.iinc 5 1, 3) := by decide +kernel
theorem dX0_isWayFree_44 : decode cX0_isWayFree 44 = .ok (.goto (-31), 3) := by decide +kernel
theorem dX0_isWayFree_47 : decode cX0_isWayFree 47 = .ok (.iconst 1, 1) := by decide +kernel
theorem dX0_isWayFree_48 : decode cX0_isWayFree 48 = .ok (.ireturn, 1) := by decide +kernel
set_option maxRecDepth 20000 in
theorem ggX0_isCapture_X0_squareAt : GoodIn wsX0_isCapture wsX0_squareAt := goodIn_r _ [5] (by decide +kernel) (by decide +kernel)
set_option maxRecDepth 20000 in
theorem gX0_isCapture_X0_squareAt : GoodIn wsX0_isCapture (wsV RX0 29 RX0 yX0_squareAt wsX0_squareAt) := goodIn_app (goodIn_of _ (by decide +kernel)) ggX0_isCapture_X0_squareAt
set_option maxRecDepth 20000 in
theorem ggX0_isCapture_X1_otherTeam : GoodIn wsX0_isCapture wsX1_otherTeam := goodIn_r _ [8] (by decide +kernel) (by decide +kernel)
set_option maxRecDepth 20000 in
theorem gX0_isCapture_X1_otherTeam_n65 : GoodIn wsX0_isCapture (wsX1_otherTeam) := ggX0_isCapture_X1_otherTeam
set_option maxRecDepth 20000 in
theorem ggX0_isCapture_X0_countOn : GoodIn wsX0_isCapture wsX0_countOn := goodIn_r _ [12, 13, 14, 15] (by decide +kernel) (by decide +kernel)
set_option maxRecDepth 20000 in
theorem gX0_isCapture_X0_countOn : GoodIn wsX0_isCapture (wsV RX0 68 RX0 yX0_countOn wsX0_countOn) := goodIn_app (goodIn_of _ (by decide +kernel)) ggX0_isCapture_X0_countOn
theorem dX0_isCapture_0 : decode cX0_isCapture 0 = .ok (.aload_n 0, 1) := by decide +kernel
theorem dX0_isCapture_1 : decode cX0_isCapture 1 = .ok (.aload_n 0, 1) := by decide +kernel
theorem dX0_isCapture_2 : decode cX0_isCapture 2 = .ok (.iload_n 1, 1) := by decide +kernel
theorem dX0_isCapture_3 : decode cX0_isCapture 3 = .ok (.iload_n 2, 1) := by decide +kernel
theorem dX0_isCapture_4 : decode cX0_isCapture 4 = .ok (.invokevirtual 29, 3) := by decide +kernel
theorem dX0_isCapture_7 : decode cX0_isCapture 7 = .ok (.iload_n 1, 1) := by decide +kernel
theorem dX0_isCapture_8 : decode cX0_isCapture 8 = .ok (.invokestatic 65, 3) := by decide +kernel
theorem dX0_isCapture_11 : decode cX0_isCapture 11 = .ok (.invokevirtual 68, 3) := by decide +kernel
theorem dX0_isCapture_14 : decode cX0_isCapture 14 = .ok (.iconst 1, 1) := by decide +kernel
theorem dX0_isCapture_15 : decode cX0_isCapture 15 = .ok (.if_icmp .ne 7, 3) := by decide +kernel
theorem dX0_isCapture_18 : decode cX0_isCapture 18 = .ok (.iconst 1, 1) := by decide +kernel
theorem dX0_isCapture_19 : decode cX0_isCapture 19 = .ok (.goto 4, 3) := by decide +kernel
theorem dX0_isCapture_22 : decode cX0_isCapture 22 = .ok (.iconst 0, 1) := by decide +kernel
theorem dX0_isCapture_23 : decode cX0_isCapture 23 = .ok (.ireturn, 1) := by decide +kernel
set_option maxRecDepth 20000 in
theorem ggX0_movableSet_X0_targetOf : GoodIn wsX0_movableSet wsX0_targetOf := goodIn_r _ [5, 6, 7, 8, 4, 9, 10, 11, 12, 13, 14, 15, 16, 17, 18, 19, 20, 21, 22, 23, 24, 25, 26, 27, 28, 29, 30, 31, 32, 33, 34, 35, 36, 37, 38, 39, 40, 41, 42] (by decide +kernel) (by decide +kernel)
set_option maxRecDepth 20000 in
theorem gX0_movableSet_X0_targetOf : GoodIn wsX0_movableSet (wsV RX0 71 RX0 yX0_targetOf wsX0_targetOf) := goodIn_app (goodIn_of _ (by decide +kernel)) ggX0_movableSet_X0_targetOf
theorem dX0_movableSet_0 : decode cX0_movableSet 0 = .ok (.iconst 0, 1) := by decide +kernel
theorem dX0_movableSet_1 : decode cX0_movableSet 1 = .ok (.istore_n 3, 1) := by decide +kernel
theorem dX0_movableSet_2 : decode cX0_movableSet 2 = .ok (.iconst 0, 1) := by decide +kernel
theorem dX0_movableSet_3 : decode cX0_movableSet 3 = .ok (.istore 4, 2) := by decide +kernel
theorem dX0_movableSet_5 : decode cX0_movableSet 5 = .ok (.iload 4, 2) := by decide +kernel
theorem dX0_movableSet_7 : decode cX0_movableSet 7 = .ok (.iconst 4, 1) := by decide +kernel
theorem dX0_movableSet_8 : decode cX0_movableSet 8 = .ok (.if_icmp .ge 28, 3) := by decide +kernel
theorem dX0_movableSet_11 : decode cX0_movableSet 11 = .ok (.aload_n 0, 1) := by decide +kernel
theorem dX0_movableSet_12 : decode cX0_movableSet 12 = .ok (.iload_n 1, 1) := by decide +kernel
theorem dX0_movableSet_13 : decode cX0_movableSet 13 = .ok (.iload 4, 2) := by decide +kernel
theorem dX0_movableSet_15 : decode cX0_movableSet 15 = .ok (.iload_n 2, 1) := by decide +kernel
theorem dX0_movableSet_16 : decode cX0_movableSet 16 = .ok (.invokevirtual 71, 3) := by decide +kernel
theorem dX0_movableSet_19 : decode cX0_movableSet 19 = .ok (.iconst (-1), 1) := by decide +kernel
theorem dX0_movableSet_20 : decode cX0_movableSet 20 = .ok (.if_icmp .eq 10, 3) := by decide +kernel
theorem dX0_movableSet_23 : decode cX0_movableSet 23 = .ok (.iload_n 3, 1) := by decide +kernel
theorem dX0_movableSet_24 : decode cX0_movableSet 24 = .ok (.iconst 1, 1) := by decide +kernel
theorem dX0_movableSet_25 : decode cX0_movableSet 25 = .ok (.iload 4, 2) := by decide +kernel
theorem dX0_movableSet_27 : decode cX0_movableSet 27 = .ok (.ishl, 1) := by decide +kernel
theorem dX0_movableSet_28 : decode cX0_movableSet 28 = .ok (.ior, 1) := by decide +kernel
theorem dX0_movableSet_29 : decode cX0_movableSet 29 = .ok (.istore_n 3, 1) := by decide +kernel
theorem dX0_movableSet_30 : decode cX0_movableSet 30 = .ok (.iinc 4 1, 3) := by decide +kernel
theorem dX0_movableSet_33 : decode cX0_movableSet 33 = .ok (.goto (-28), 3) := by decide +kernel
theorem dX0_movableSet_36 : decode cX0_movableSet 36 = .ok (.iload_n 3, 1) := by decide +kernel
theorem dX0_movableSet_37 : decode cX0_movableSet 37 = .ok (.ireturn, 1) := by decide +kernel
set_option maxRecDepth 20000 in
theorem ggX0_canDo_X0_targetOf : GoodIn wsX0_canDo wsX0_targetOf := goodIn_r _ [5, 6, 7, 8, 4, 9, 10, 11, 12, 13, 14, 15, 16, 17, 18, 19, 20, 21, 22, 23, 24, 25, 26, 27, 28, 29, 30, 31, 32, 33, 34, 35, 36, 37, 38, 39, 40, 45, 46] (by decide +kernel) (by decide +kernel)
set_option maxRecDepth 20000 in
theorem gX0_canDo_X0_targetOf : GoodIn wsX0_canDo (wsV RX0 71 RX0 yX0_targetOf wsX0_targetOf) := goodIn_app (goodIn_of _ (by decide +kernel)) ggX0_canDo_X0_targetOf
set_option maxRecDepth 20000 in
theorem ggX0_canDo_X0_isDone : GoodIn wsX0_canDo wsX0_isDone := goodIn_r _ [44, 35, 36, 37, 4, 38, 24, 25, 26, 27, 28, 12, 29, 30, 31, 32, 33, 34, 45, 46] (by decide +kernel) (by decide +kernel)
set_option maxRecDepth 20000 in
theorem gX0_canDo_X0_isDone : GoodIn wsX0_canDo (wsV RX0 75 RX0 yX0_isDone wsX0_isDone) := goodIn_app (goodIn_of _ (by decide +kernel)) ggX0_canDo_X0_isDone
theorem dX0_canDo_0 : decode cX0_canDo 0 = .ok (.iconst 0, 1) := by decide +kernel
theorem dX0_canDo_1 : decode cX0_canDo 1 = .ok (.istore 4, 2) := by decide +kernel
theorem dX0_canDo_3 : decode cX0_canDo 3 = .ok (.iload 4, 2) := by decide +kernel
theorem dX0_canDo_5 : decode cX0_canDo 5 = .ok (.iconst 4, 1) := by decide +kernel
theorem dX0_canDo_6 : decode cX0_canDo 6 = .ok (.if_icmp .ge 38, 3) := by decide +kernel
theorem dX0_canDo_9 : decode cX0_canDo 9 = .ok (.aload_n 0, 1) := by decide +kernel
theorem dX0_canDo_10 : decode cX0_canDo 10 = .ok (.iload_n 2, 1) := by decide +kernel
theorem dX0_canDo_11 : decode cX0_canDo 11 = .ok (.iload 4, 2) := by decide +kernel
theorem dX0_canDo_13 : decode cX0_canDo 13 = .ok (.iload_n 3, 1) := by decide +kernel
theorem dX0_canDo_14 : decode cX0_canDo 14 = .ok (.invokevirtual 71, 3) := by decide +kernel
theorem dX0_canDo_17 : decode cX0_canDo 17 = .ok (.istore 5, 2) := by decide +kernel
theorem dX0_canDo_19 : decode cX0_canDo 19 = .ok (.iload 5, 2) := by decide +kernel
theorem dX0_canDo_21 : decode cX0_canDo 21 = .ok (.iconst (-1), 1) := by decide +kernel
theorem dX0_canDo_22 : decode cX0_canDo 22 = .ok (.if_icmp .eq 16, 3) := by decide +kernel
theorem dX0_canDo_25 : decode cX0_canDo 25 = .ok (.aload_n 0, 1) := by decide +kernel
theorem dX0_canDo_26 : decode cX0_canDo 26 = .ok (.iload_n 1, 1) := by decide +kernel
theorem dX0_canDo_27 : decode cX0_canDo 27 = .ok (.iload_n 2, 1) := by decide +kernel
theorem dX0_canDo_28 : decode cX0_canDo 28 = .ok (.iload 5, 2) := by decide +kernel
theorem dX0_canDo_30 : decode cX0_canDo 30 = .ok (.invokevirtual 75, 3) := by decide +kernel
theorem dX0_canDo_33 : decode cX0_canDo 33 = .ok (.ifCond .eq 5, 3) := by decide +kernel
theorem dX0_canDo_36 : decode cX0_canDo 36 = .ok (.iconst 1, 1) := by decide +kernel
theorem dX0_canDo_37 : decode cX0_canDo 37 = .ok (.ireturn, 1) := by decide +kernel
theorem dX0_canDo_38 : decode cX0_canDo 38 = .ok (.iinc 4 1, 3) := by decide +kernel
theorem dX0_canDo_41 : decode cX0_canDo 41 = .ok (.goto (-38), 3) := by decide +kernel
theorem dX0_canDo_44 : decode cX0_canDo 44 = .ok (.iconst 0, 1) := by decide +kernel
theorem dX0_canDo_45 : decode cX0_canDo 45 = .ok (.ireturn, 1) := by decide +kernel
set_option maxRecDepth 20000 in
theorem ggX0_isDone_X0_isCapture : GoodIn wsX0_isDone wsX0_isCapture := goodIn_r _ [5, 6, 7, 8, 4, 9, 10, 11, 12, 13, 14, 15, 16, 17, 18, 19] (by decide +kernel) (by decide +kernel)
set_option maxRecDepth 20000 in
theorem gX0_isDone_X0_isCapture : GoodIn wsX0_isDone (wsV RX0 53 RX0 yX0_isCapture wsX0_isCapture) := goodIn_app (goodIn_of _ (by decide +kernel)) ggX0_isDone_X0_isCapture
theorem dX0_isDone_0 : decode cX0_isDone 0 = .ok (.iload_n 1, 1) := by decide +kernel
theorem dX0_isDone_1 : decode cX0_isDone 1 = .ok (.tableswitch 63 0 3 #[31, 33, 40, 52], 31) := by decide +kernel
theorem dX0_isDone_32 : decode cX0_isDone 32 = .ok (.iconst 1, 1) := by decide +kernel
theorem dX0_isDone_33 : decode cX0_isDone 33 = .ok (.ireturn, 1) := by decide +kernel
theorem dX0_isDone_34 : decode cX0_isDone 34 = .ok (.aload_n 0, 1) := by decide +kernel
theorem dX0_isDone_35 : decode cX0_isDone 35 = .ok (.iload_n 2, 1) := by decide +kernel
theorem dX0_isDone_36 : decode cX0_isDone 36 = .ok (.iload_n 3, 1) := by decide +kernel
theorem dX0_isDone_37 : decode cX0_isDone 37 = .ok (.invokevirtual 53, 3) := by decide +kernel
theorem dX0_isDone_40 : decode cX0_isDone 40 = .ok (.ireturn, 1) := by decide +kernel
theorem dX0_isDone_41 : decode cX0_isDone 41 = .ok (.iload_n 3, 1) := by decide +kernel
theorem dX0_isDone_42 : decode cX0_isDone 42 = .ok (.bipush 72, 2) := by decide +kernel
theorem dX0_isDone_44 : decode cX0_isDone 44 = .ok (.if_icmp .ne 7, 3) := by decide +kernel
theorem dX0_isDone_47 : decode cX0_isDone 47 = .ok (.iconst 1, 1) := by decide +kernel
theorem dX0_isDone_48 : decode cX0_isDone 48 = .ok (.goto 4, 3) := by decide +kernel
theorem dX0_isDone_51 : decode cX0_isDone 51 = .ok (.iconst 0, 1) := by decide +kernel
theorem dX0_isDone_52 : decode cX0_isDone 52 = .ok (.ireturn, 1) := by decide +kernel
theorem dX0_isDone_53 : decode cX0_isDone 53 = .ok (.iload_n 3, 1) := by decide +kernel
theorem dX0_isDone_54 : decode cX0_isDone 54 = .ok (.iconst 1, 1) := by decide +kernel
theorem dX0_isDone_55 : decode cX0_isDone 55 = .ok (.if_icmp .ne 7, 3) := by decide +kernel
theorem dX0_isDone_58 : decode cX0_isDone 58 = .ok (.iconst 1, 1) := by decide +kernel
theorem dX0_isDone_59 : decode cX0_isDone 59 = .ok (.goto 4, 3) := by decide +kernel
theorem dX0_isDone_62 : decode cX0_isDone 62 = .ok (.iconst 0, 1) := by decide +kernel
theorem dX0_isDone_63 : decode cX0_isDone 63 = .ok (.ireturn, 1) := by decide +kernel
theorem dX0_isDone_64 : decode cX0_isDone 64 = .ok (.iconst 0, 1) := by decide +kernel
theorem dX0_isDone_65 : decode cX0_isDone 65 = .ok (.ireturn, 1) := by decide +kernel
set_option maxRecDepth 20000 in
theorem ggX0_canCaptureOn_X0_targetOf : GoodIn wsX0_canCaptureOn wsX0_targetOf := goodIn_r _ [5, 6, 7, 8, 4, 9, 10, 11, 12, 13, 14, 15, 16, 17, 18, 19, 20, 21, 22, 23, 24, 25, 26, 27, 28, 29, 30, 31, 32, 33, 34, 35, 36, 37, 38, 39, 40, 41, 42] (by decide +kernel) (by decide +kernel)
set_option maxRecDepth 20000 in
theorem gX0_canCaptureOn_X0_targetOf : GoodIn wsX0_canCaptureOn (wsV RX0 71 RX0 yX0_targetOf wsX0_targetOf) := goodIn_app (goodIn_of _ (by decide +kernel)) ggX0_canCaptureOn_X0_targetOf
set_option maxRecDepth 20000 in
theorem ggX0_canCaptureOn_X0_isCapture : GoodIn wsX0_canCaptureOn wsX0_isCapture := goodIn_r _ [38, 24, 25, 26, 4, 27, 28, 12, 29, 30, 31, 32, 33, 34, 41, 42] (by decide +kernel) (by decide +kernel)
set_option maxRecDepth 20000 in
theorem gX0_canCaptureOn_X0_isCapture : GoodIn wsX0_canCaptureOn (wsV RX0 53 RX0 yX0_isCapture wsX0_isCapture) := goodIn_app (goodIn_of _ (by decide +kernel)) ggX0_canCaptureOn_X0_isCapture
set_option maxRecDepth 20000 in
theorem ggX0_canCaptureOn_X0_squareAt : GoodIn wsX0_canCaptureOn wsX0_squareAt := goodIn_r _ [27] (by decide +kernel) (by decide +kernel)
set_option maxRecDepth 20000 in
theorem gX0_canCaptureOn_X0_squareAt : GoodIn wsX0_canCaptureOn (wsV RX0 29 RX0 yX0_squareAt wsX0_squareAt) := goodIn_app (goodIn_of _ (by decide +kernel)) ggX0_canCaptureOn_X0_squareAt
theorem dX0_canCaptureOn_0 : decode cX0_canCaptureOn 0 = .ok (.iconst 0, 1) := by decide +kernel
theorem dX0_canCaptureOn_1 : decode cX0_canCaptureOn 1 = .ok (.istore 4, 2) := by decide +kernel
theorem dX0_canCaptureOn_3 : decode cX0_canCaptureOn 3 = .ok (.iload 4, 2) := by decide +kernel
theorem dX0_canCaptureOn_5 : decode cX0_canCaptureOn 5 = .ok (.iconst 4, 1) := by decide +kernel
theorem dX0_canCaptureOn_6 : decode cX0_canCaptureOn 6 = .ok (.if_icmp .ge 48, 3) := by decide +kernel
theorem dX0_canCaptureOn_9 : decode cX0_canCaptureOn 9 = .ok (.aload_n 0, 1) := by decide +kernel
theorem dX0_canCaptureOn_10 : decode cX0_canCaptureOn 10 = .ok (.iload_n 2, 1) := by decide +kernel
theorem dX0_canCaptureOn_11 : decode cX0_canCaptureOn 11 = .ok (.iload 4, 2) := by decide +kernel
theorem dX0_canCaptureOn_13 : decode cX0_canCaptureOn 13 = .ok (.iload_n 3, 1) := by decide +kernel
theorem dX0_canCaptureOn_14 : decode cX0_canCaptureOn 14 = .ok (.invokevirtual 71, 3) := by decide +kernel
theorem dX0_canCaptureOn_17 : decode cX0_canCaptureOn 17 = .ok (.istore 5, 2) := by decide +kernel
theorem dX0_canCaptureOn_19 : decode cX0_canCaptureOn 19 = .ok (.iload 5, 2) := by decide +kernel
theorem dX0_canCaptureOn_21 : decode cX0_canCaptureOn 21 = .ok (.iconst (-1), 1) := by decide +kernel
theorem dX0_canCaptureOn_22 : decode cX0_canCaptureOn 22 = .ok (.if_icmp .eq 26, 3) := by decide +kernel
theorem dX0_canCaptureOn_25 : decode cX0_canCaptureOn 25 = .ok (.aload_n 0, 1) := by decide +kernel
theorem dX0_canCaptureOn_26 : decode cX0_canCaptureOn 26 = .ok (.iload_n 2, 1) := by decide +kernel
theorem dX0_canCaptureOn_27 : decode cX0_canCaptureOn 27 = .ok (.iload 5, 2) := by decide +kernel
theorem dX0_canCaptureOn_29 : decode cX0_canCaptureOn 29 = .ok (.invokevirtual 53, 3) := by decide +kernel
theorem dX0_canCaptureOn_32 : decode cX0_canCaptureOn 32 = .ok (.ifCond .eq 16, 3) := by decide +kernel
theorem dX0_canCaptureOn_35 : decode cX0_canCaptureOn 35 = .ok (.aload_n 0, 1) := by decide +kernel
theorem dX0_canCaptureOn_36 : decode cX0_canCaptureOn 36 = .ok (.iload_n 2, 1) := by decide +kernel
theorem dX0_canCaptureOn_37 : decode cX0_canCaptureOn 37 = .ok (.iload 5, 2) := by decide +kernel
theorem dX0_canCaptureOn_39 : decode cX0_canCaptureOn 39 = .ok (.invokevirtual 29, 3) := by decide +kernel
theorem dX0_canCaptureOn_42 : decode cX0_canCaptureOn 42 = .ok (.iload_n 1, 1) := by decide +kernel
theorem dX0_canCaptureOn_43 : decode cX0_canCaptureOn 43 = .ok (.if_icmp .ne 5, 3) := by decide +kernel
theorem dX0_canCaptureOn_46 : decode cX0_canCaptureOn 46 = .ok (.iconst 1, 1) := by decide +kernel
theorem dX0_canCaptureOn_47 : decode cX0_canCaptureOn 47 = .ok (.ireturn, 1) := by decide +kernel
theorem dX0_canCaptureOn_48 : decode cX0_canCaptureOn 48 = .ok (.iinc 4 1, 3) := by decide +kernel
theorem dX0_canCaptureOn_51 : decode cX0_canCaptureOn 51 = .ok (.goto (-48), 3) := by decide +kernel
theorem dX0_canCaptureOn_54 : decode cX0_canCaptureOn 54 = .ok (.iconst 0, 1) := by decide +kernel
theorem dX0_canCaptureOn_55 : decode cX0_canCaptureOn 55 = .ok (.ireturn, 1) := by decide +kernel
set_option maxRecDepth 20000 in
theorem ggX1_init_X0_init : GoodIn wsX1_init wsX0_init := goodIn_r _ [16, 17, 2, 3, 8, 18, 19, 20, 21] (by decide +kernel) (by decide +kernel)
set_option maxRecDepth 20000 in
theorem gX1_init_X0_init : GoodIn wsX1_init (wsX0_init) := ggX1_init_X0_init
theorem dX1_init_0 : decode cX1_init 0 = .ok (.aload_n 0, 1) := by decide +kernel
theorem dX1_init_1 : decode cX1_init 1 = .ok (.invokespecial 1, 3) := by decide +kernel
theorem dX1_init_4 : decode cX1_init 4 = .ok (.aload_n 0, 1) := by decide +kernel
theorem dX1_init_5 : decode cX1_init 5 = .ok (.new 7, 3) := by decide +kernel
theorem dX1_init_8 : decode cX1_init 8 = .ok (.dup, 1) := by decide +kernel
theorem dX1_init_9 : decode cX1_init 9 = .ok (.invokespecial 9, 3) := by decide +kernel
theorem dX1_init_12 : decode cX1_init 12 = .ok (.putfield 10, 3) := by decide +kernel
theorem dX1_init_15 : decode cX1_init 15 = .ok (.aload_n 0, 1) := by decide +kernel
theorem dX1_init_16 : decode cX1_init 16 = .ok (.iconst 4, 1) := by decide +kernel
theorem dX1_init_17 : decode cX1_init 17 = .ok (.newarray .int, 2) := by decide +kernel
theorem dX1_init_19 : decode cX1_init 19 = .ok (.putfield 16, 3) := by decide +kernel
theorem dX1_init_22 : decode cX1_init 22 = .ok (.aload_n 0, 1) := by decide +kernel
theorem dX1_init_23 : decode cX1_init 23 = .ok (.iconst 0, 1) := by decide +kernel
theorem dX1_init_24 : decode cX1_init 24 = .ok (.putfield 20, 3) := by decide +kernel
theorem dX1_init_27 : decode cX1_init 27 = .ok (.aload_n 0, 1) := by decide +kernel
theorem dX1_init_28 : decode cX1_init 28 = .ok (.iconst 0, 1) := by decide +kernel
theorem dX1_init_29 : decode cX1_init 29 = .ok (.putfield 24, 3) := by decide +kernel
theorem dX1_init_32 : decode cX1_init 32 = .ok (.aload_n 0, 1) := by decide +kernel
theorem dX1_init_33 : decode cX1_init 33 = .ok (.iconst 0, 1) := by decide +kernel
theorem dX1_init_34 : decode cX1_init 34 = .ok (.putfield 27, 3) := by decide +kernel
theorem dX1_init_37 : decode cX1_init 37 = .ok (.aload_n 0, 1) := by decide +kernel
theorem dX1_init_38 : decode cX1_init 38 = .ok (.iconst 0, 1) := by decide +kernel
theorem dX1_init_39 : decode cX1_init 39 = .ok (.putfield 30, 3) := by decide +kernel
theorem dX1_init_42 : decode cX1_init 42 = .ok (.return_, 1) := by decide +kernel
set_option maxRecDepth 20000 in
theorem ggX1_throwShells_X1_requireThrowDue : GoodIn wsX1_throwShells wsX1_requireThrowDue := goodIn_ca (goodIn_r _ [12, 13, 14, 7, 77, 78, 79, 80, 81, 82] (by decide +kernel) (by decide +kernel)) (goodIn_sub (fun _ h => List.mem_cons_of_mem _ (List.mem_append_right _ h)) (by decide +kernel))
set_option maxRecDepth 20000 in
theorem gX1_throwShells_X1_requireThrowDue : GoodIn wsX1_throwShells (wsV RX1 40 RX1 yX1_requireThrowDue wsX1_requireThrowDue) := goodIn_app (goodIn_of _ (by decide +kernel)) ggX1_throwShells_X1_requireThrowDue
set_option maxRecDepth 20000 in
theorem ggX1_throwShells_X1_worthOf : GoodIn wsX1_throwShells wsX1_worthOf := goodIn_r _ [17] (by decide +kernel) (by decide +kernel)
set_option maxRecDepth 20000 in
theorem gX1_throwShells_X1_worthOf : GoodIn wsX1_throwShells (va_wsS RX1 43 yX1_worthOf wsX1_worthOf) := goodIn_app (goodIn_of _ (by decide +kernel)) ggX1_throwShells_X1_worthOf
set_option maxRecDepth 20000 in
theorem ggX1_throwShells_X1_isGraceTooMany : GoodIn wsX1_throwShells wsX1_isGraceTooMany := goodIn_r _ [20, 21, 22, 11, 23] (by decide +kernel) (by decide +kernel)
set_option maxRecDepth 20000 in
theorem gX1_throwShells_X1_isGraceTooMany : GoodIn wsX1_throwShells (va_wsS RX1 47 yX1_isGraceTooMany wsX1_isGraceTooMany) := goodIn_app (goodIn_of _ (by decide +kernel)) ggX1_throwShells_X1_isGraceTooMany
set_option maxRecDepth 20000 in
theorem ggX1_throwShells_X1_passTurn : GoodIn wsX1_throwShells wsX1_passTurn := goodIn_r _ [27, 5, 3, 77, 78, 79, 80, 81, 82] (by decide +kernel) (by decide +kernel)
set_option maxRecDepth 20000 in
theorem gX1_throwShells_X1_passTurn : GoodIn wsX1_throwShells (wsV RX1 51 RX1 yX1_passTurn wsX1_passTurn) := goodIn_app (goodIn_of _ (by decide +kernel)) ggX1_throwShells_X1_passTurn
set_option maxRecDepth 20000 in
theorem ggX1_throwShells_X1_isGrace : GoodIn wsX1_throwShells wsX1_isGrace := goodIn_r _ [23] (by decide +kernel) (by decide +kernel)
set_option maxRecDepth 20000 in
theorem gX1_throwShells_X1_isGrace : GoodIn wsX1_throwShells (va_wsS RX1 54 yX1_isGrace wsX1_isGrace) := goodIn_app (goodIn_of _ (by decide +kernel)) ggX1_throwShells_X1_isGrace
set_option maxRecDepth 20000 in
theorem ggX1_throwShells_X0_moverFor : GoodIn wsX1_throwShells wsX0_moverFor := goodIn_r _ [32, 33, 34, 35, 31, 36, 37, 38, 39, 40, 41, 42, 11, 43, 83, 84] (by decide +kernel) (by decide +kernel)
set_option maxRecDepth 20000 in
theorem gX1_throwShells_X0_moverFor : GoodIn wsX1_throwShells (wsV RX1 58 RX0 yX0_moverFor wsX0_moverFor) := goodIn_app (goodIn_of _ (by decide +kernel)) ggX1_throwShells_X0_moverFor
set_option maxRecDepth 20000 in
theorem ggX1_throwShells_X0_movableSet : GoodIn wsX1_throwShells wsX0_movableSet := goodIn_r _ [47, 48, 49, 50, 31, 51, 37, 38, 39, 40, 41, 22, 11, 23, 16, 17, 52, 53, 54, 55, 56, 57, 58, 59, 60, 61, 62, 63, 64, 65, 66, 67, 68, 69, 70, 71, 72, 73, 74, 75, 76, 83, 84] (by decide +kernel) (by decide +kernel)
set_option maxRecDepth 20000 in
theorem gX1_throwShells_X0_movableSet : GoodIn wsX1_throwShells (wsV RX1 61 RX0 yX0_movableSet wsX0_movableSet) := goodIn_app (goodIn_of _ (by decide +kernel)) ggX1_throwShells_X0_movableSet
theorem dX1_throwShells_0 : decode cX1_throwShells 0 = .ok (.iload_n 1, 1) := by decide +kernel
theorem dX1_throwShells_1 : decode cX1_throwShells 1 = .ok (.ifCond .lt 9, 3) := by decide +kernel
theorem dX1_throwShells_4 : decode cX1_throwShells 4 = .ok (.iload_n 1, 1) := by decide +kernel
theorem dX1_throwShells_5 : decode cX1_throwShells 5 = .ok (.bipush 6, 2) := by decide +kernel
theorem dX1_throwShells_7 : decode cX1_throwShells 7 = .ok (.if_icmp .le 13, 3) := by decide +kernel
theorem dX1_throwShells_10 : decode cX1_throwShells 10 = .ok (.new 33, 3) := by decide +kernel
theorem dX1_throwShells_13 : decode cX1_throwShells 13 = .ok (.dup, 1) := by decide +kernel
theorem dX1_throwShells_14 : decode cX1_throwShells 14 = .ok (.ldc 35, 2) := by decide +kernel
theorem dX1_throwShells_16 : decode cX1_throwShells 16 = .ok (.invokespecial 37, 3) := by decide +kernel
theorem dX1_throwShells_19 : decode cX1_throwShells 19 = .ok (.athrow, 1) := by decide +kernel
theorem dX1_throwShells_20 : decode cX1_throwShells 20 = .ok (.aload_n 0, 1) := by decide +kernel
theorem dX1_throwShells_21 : decode cX1_throwShells 21 = .ok (.invokevirtual 40, 3) := by decide +kernel
theorem dX1_throwShells_24 : decode cX1_throwShells 24 = .ok (.iload_n 1, 1) := by decide +kernel
theorem dX1_throwShells_25 : decode cX1_throwShells 25 = .ok (.invokestatic 43, 3) := by decide +kernel
theorem dX1_throwShells_28 : decode cX1_throwShells 28 = .ok (.istore_n 2, 1) := by decide +kernel
theorem dX1_throwShells_29 : decode cX1_throwShells 29 = .ok (.iload_n 1, 1) := by decide +kernel
theorem dX1_throwShells_30 : decode cX1_throwShells 30 = .ok (.aload_n 0, 1) := by decide +kernel
theorem dX1_throwShells_31 : decode cX1_throwShells 31 = .ok (.getfield 24, 3) := by decide +kernel
theorem dX1_throwShells_34 : decode cX1_throwShells 34 = .ok (.invokestatic 47, 3) := by decide +kernel
theorem dX1_throwShells_37 : decode cX1_throwShells 37 = .ok (.ifCond .eq 10, 3) := by decide +kernel
theorem dX1_throwShells_40 : decode cX1_throwShells 40 = .ok (.aload_n 0, 1) := by decide +kernel
theorem dX1_throwShells_41 : decode cX1_throwShells 41 = .ok (.invokevirtual 51, 3) := by decide +kernel
theorem dX1_throwShells_44 : decode cX1_throwShells 44 = .ok (.iload_n 2, 1) := by decide +kernel
theorem dX1_throwShells_45 : decode cX1_throwShells 45 = .ok (.ineg, 1) := by decide +kernel
theorem dX1_throwShells_46 : decode cX1_throwShells 46 = .ok (.ireturn, 1) := by decide +kernel
theorem dX1_throwShells_47 : decode cX1_throwShells 47 = .ok (.aload_n 0, 1) := by decide +kernel
theorem dX1_throwShells_48 : decode cX1_throwShells 48 = .ok (.iload_n 1, 1) := by decide +kernel
theorem dX1_throwShells_49 : decode cX1_throwShells 49 = .ok (.invokestatic 54, 3) := by decide +kernel
theorem dX1_throwShells_52 : decode cX1_throwShells 52 = .ok (.ifCond .eq 12, 3) := by decide +kernel
theorem dX1_throwShells_55 : decode cX1_throwShells 55 = .ok (.aload_n 0, 1) := by decide +kernel
theorem dX1_throwShells_56 : decode cX1_throwShells 56 = .ok (.getfield 24, 3) := by decide +kernel
theorem dX1_throwShells_59 : decode cX1_throwShells 59 = .ok (.iconst 1, 1) := by decide +kernel
theorem dX1_throwShells_60 : decode cX1_throwShells 60 = .ok (.iadd, 1) := by decide +kernel
theorem dX1_throwShells_61 : decode cX1_throwShells 61 = .ok (.goto 4, 3) := by decide +kernel
theorem dX1_throwShells_64 : decode cX1_throwShells 64 = .ok (.iconst 0, 1) := by decide +kernel
theorem dX1_throwShells_65 : decode cX1_throwShells 65 = .ok (.putfield 24, 3) := by decide +kernel
theorem dX1_throwShells_68 : decode cX1_throwShells 68 = .ok (.aload_n 0, 1) := by decide +kernel
theorem dX1_throwShells_69 : decode cX1_throwShells 69 = .ok (.getfield 10, 3) := by decide +kernel
theorem dX1_throwShells_72 : decode cX1_throwShells 72 = .ok (.aload_n 0, 1) := by decide +kernel
theorem dX1_throwShells_73 : decode cX1_throwShells 73 = .ok (.getfield 10, 3) := by decide +kernel
theorem dX1_throwShells_76 : decode cX1_throwShells 76 = .ok (.aload_n 0, 1) := by decide +kernel
theorem dX1_throwShells_77 : decode cX1_throwShells 77 = .ok (.getfield 20, 3) := by decide +kernel
theorem dX1_throwShells_80 : decode cX1_throwShells 80 = .ok (.invokevirtual 58, 3) := by decide +kernel
theorem dX1_throwShells_83 : decode cX1_throwShells 83 = .ok (.iload_n 1, 1) := by decide +kernel
theorem dX1_throwShells_84 : decode cX1_throwShells 84 = .ok (.invokevirtual 61, 3) := by decide +kernel
theorem dX1_throwShells_87 : decode cX1_throwShells 87 = .ok (.ifCond .ne 17, 3) := by decide +kernel
theorem dX1_throwShells_90 : decode cX1_throwShells 90 = .ok (.iload_n 1, 1) := by decide +kernel
theorem dX1_throwShells_91 : decode cX1_throwShells 91 = .ok (.invokestatic 54, 3) := by decide +kernel
theorem dX1_throwShells_94 : decode cX1_throwShells 94 = .ok (.ifCond .ne 7, 3) := by decide +kernel
theorem dX1_throwShells_97 : decode cX1_throwShells 97 = .ok (.aload_n 0, 1) := by decide +kernel
theorem dX1_throwShells_98 : decode cX1_throwShells 98 = .ok (.invokevirtual 51, 3) := by decide +kernel
theorem dX1_throwShells_101 : decode cX1_throwShells 101 = .ok (.iload_n 2, 1) := by decide +kernel
theorem dX1_throwShells_102 : decode cX1_throwShells 102 = .ok (.ineg, 1) := by decide +kernel
theorem dX1_throwShells_103 : decode cX1_throwShells 103 = .ok (.ireturn, 1) := by decide +kernel
theorem dX1_throwShells_104 : decode cX1_throwShells 104 = .ok (.aload_n 0, 1) := by decide +kernel
theorem dX1_throwShells_105 : decode cX1_throwShells 105 = .ok (.iload_n 1, 1) := by decide +kernel
theorem dX1_throwShells_106 : decode cX1_throwShells 106 = .ok (.putfield 30, 3) := by decide +kernel
theorem dX1_throwShells_109 : decode cX1_throwShells 109 = .ok (.aload_n 0, 1) := by decide +kernel
theorem dX1_throwShells_110 : decode cX1_throwShells 110 = .ok (.iconst 1, 1) := by decide +kernel
theorem dX1_throwShells_111 : decode cX1_throwShells 111 = .ok (.putfield 27, 3) := by decide +kernel
theorem dX1_throwShells_114 : decode cX1_throwShells 114 = .ok (.iload_n 2, 1) := by decide +kernel
theorem dX1_throwShells_115 : decode cX1_throwShells 115 = .ok (.ireturn, 1) := by decide +kernel
set_option maxRecDepth 20000 in
theorem ggX1_move_X1_requirePiece : GoodIn wsX1_move wsX1_requirePiece := goodIn_ca (goodIn_r _ [9, 10, 11] (by decide +kernel) (by decide +kernel)) (goodIn_sub (fun _ h => List.mem_cons_of_mem _ (List.mem_append_right _ h)) (by decide +kernel))
set_option maxRecDepth 20000 in
theorem gX1_move_X1_requirePiece : GoodIn wsX1_move (va_wsS RX1 65 yX1_requirePiece wsX1_requirePiece) := goodIn_app (goodIn_of _ (by decide +kernel)) ggX1_move_X1_requirePiece
set_option maxRecDepth 20000 in
theorem ggX1_move_X1_requireMoveDue : GoodIn wsX1_move wsX1_requireMoveDue := goodIn_ca (goodIn_r _ [15, 1, 2, 16, 103, 104, 105, 106, 107, 108] (by decide +kernel) (by decide +kernel)) (goodIn_sub (fun _ h => List.mem_cons_of_mem _ (List.mem_append_left _ (List.mem_append_right _ h))) (by decide +kernel))
set_option maxRecDepth 20000 in
theorem gX1_move_X1_requireMoveDue : GoodIn wsX1_move (wsV RX1 69 RX1 yX1_requireMoveDue wsX1_requireMoveDue) := goodIn_app (goodIn_of _ (by decide +kernel)) ggX1_move_X1_requireMoveDue
set_option maxRecDepth 20000 in
theorem ggX1_move_X0_moverFor : GoodIn wsX1_move wsX0_moverFor := goodIn_r _ [21, 22, 23, 24, 20, 25, 26, 27, 28, 29, 30, 31, 8, 32, 109, 110] (by decide +kernel) (by decide +kernel)
set_option maxRecDepth 20000 in
theorem gX1_move_X0_moverFor : GoodIn wsX1_move (wsV RX1 58 RX0 yX0_moverFor wsX0_moverFor) := goodIn_app (goodIn_of _ (by decide +kernel)) ggX1_move_X0_moverFor
set_option maxRecDepth 20000 in
theorem ggX1_move_X0_targetOf : GoodIn wsX1_move wsX0_targetOf := goodIn_r _ [36, 26, 27, 28, 20, 29, 30, 37, 8, 38, 39, 40, 41, 42, 43, 44, 45, 46, 47, 48, 49, 50, 51, 52, 53, 54, 55, 56, 57, 58, 59, 60, 61, 62, 63, 64, 65, 109, 110] (by decide +kernel) (by decide +kernel)
set_option maxRecDepth 20000 in
theorem gX1_move_X0_targetOf : GoodIn wsX1_move (wsV RX1 72 RX0 yX0_targetOf wsX0_targetOf) := goodIn_app (goodIn_of _ (by decide +kernel)) ggX1_move_X0_targetOf
set_option maxRecDepth 20000 in
theorem ggX1_move_X0_isCapture : GoodIn wsX1_move wsX0_isCapture := goodIn_r _ [63, 49, 50, 51, 20, 52, 53, 8, 54, 55, 56, 57, 58, 59, 109, 110] (by decide +kernel) (by decide +kernel)
set_option maxRecDepth 20000 in
theorem gX1_move_X0_isCapture : GoodIn wsX1_move (wsV RX1 81 RX0 yX0_isCapture wsX0_isCapture) := goodIn_app (goodIn_of _ (by decide +kernel)) ggX1_move_X0_isCapture
set_option maxRecDepth 20000 in
theorem ggX1_move_X1_otherTeam : GoodIn wsX1_move wsX1_otherTeam := goodIn_r _ [54] (by decide +kernel) (by decide +kernel)
set_option maxRecDepth 20000 in
theorem gX1_move_X1_otherTeam : GoodIn wsX1_move (va_wsS RX1 84 yX1_otherTeam wsX1_otherTeam) := goodIn_app (goodIn_of _ (by decide +kernel)) ggX1_move_X1_otherTeam
set_option maxRecDepth 20000 in
theorem ggX1_move_X0_squareAt : GoodIn wsX1_move wsX0_squareAt := goodIn_r _ [52] (by decide +kernel) (by decide +kernel)
set_option maxRecDepth 20000 in
theorem gX1_move_X0_squareAt : GoodIn wsX1_move (wsV RX1 87 RX0 yX0_squareAt wsX0_squareAt) := goodIn_app (goodIn_of _ (by decide +kernel)) ggX1_move_X0_squareAt
set_option maxRecDepth 20000 in
theorem ggX1_move_X0_sendToYard : GoodIn wsX1_move wsX0_sendToYard := goodIn_r _ [72, 26, 27, 28, 20, 29, 30, 49, 50, 51, 52, 73, 74, 75, 76, 77, 8, 78, 79, 80, 81, 82, 59, 109, 110] (by decide +kernel) (by decide +kernel)
set_option maxRecDepth 20000 in
theorem gX1_move_X0_sendToYard : GoodIn wsX1_move (wsV RX1 90 RX0 yX0_sendToYard wsX0_sendToYard) := goodIn_app (goodIn_of _ (by decide +kernel)) ggX1_move_X0_sendToYard
set_option maxRecDepth 20000 in
theorem ggX1_move_X1_countCapture : GoodIn wsX1_move wsX1_countCapture := goodIn_r _ [86, 87, 103, 104, 105, 106, 107, 108] (by decide +kernel) (by decide +kernel)
set_option maxRecDepth 20000 in
theorem gX1_move_X1_countCapture : GoodIn wsX1_move (wsV RX1 94 RX1 yX1_countCapture wsX1_countCapture) := goodIn_app (goodIn_of _ (by decide +kernel)) ggX1_move_X1_countCapture
set_option maxRecDepth 20000 in
theorem ggX1_move_X0_place : GoodIn wsX1_move wsX0_place := goodIn_r _ [76, 30, 49, 50, 51, 20, 52, 77, 8, 78, 79, 80, 81, 82, 59, 109, 110] (by decide +kernel) (by decide +kernel)
set_option maxRecDepth 20000 in
theorem gX1_move_X0_place : GoodIn wsX1_move (wsV RX1 97 RX0 yX0_place wsX0_place) := goodIn_app (goodIn_of _ (by decide +kernel)) ggX1_move_X0_place
set_option maxRecDepth 20000 in
theorem ggX1_move_X1_endMove : GoodIn wsX1_move wsX1_endMove := goodIn_r _ [92, 3, 4, 16, 5, 93, 94, 95, 20, 96, 22, 23, 24, 25, 26, 27, 28, 29, 30, 31, 8, 32, 97, 37, 38, 98, 99, 100, 101, 102, 103, 104, 105, 106, 107, 108, 109, 110] (by decide +kernel) (by decide +kernel)
set_option maxRecDepth 20000 in
theorem gX1_move_X1_endMove : GoodIn wsX1_move (wsV RX1 101 RX1 yX1_endMove wsX1_endMove) := goodIn_app (goodIn_of _ (by decide +kernel)) ggX1_move_X1_endMove
theorem dX1_move_0 : decode cX1_move 0 = .ok (.iload_n 1, 1) := by decide +kernel
theorem dX1_move_1 : decode cX1_move 1 = .ok (.invokestatic 65, 3) := by decide +kernel
theorem dX1_move_4 : decode cX1_move 4 = .ok (.aload_n 0, 1) := by decide +kernel
theorem dX1_move_5 : decode cX1_move 5 = .ok (.invokevirtual 69, 3) := by decide +kernel
theorem dX1_move_8 : decode cX1_move 8 = .ok (.aload_n 0, 1) := by decide +kernel
theorem dX1_move_9 : decode cX1_move 9 = .ok (.getfield 10, 3) := by decide +kernel
theorem dX1_move_12 : decode cX1_move 12 = .ok (.aload_n 0, 1) := by decide +kernel
theorem dX1_move_13 : decode cX1_move 13 = .ok (.getfield 20, 3) := by decide +kernel
theorem dX1_move_16 : decode cX1_move 16 = .ok (.invokevirtual 58, 3) := by decide +kernel
theorem dX1_move_19 : decode cX1_move 19 = .ok (.istore_n 2, 1) := by decide +kernel
theorem dX1_move_20 : decode cX1_move 20 = .ok (.aload_n 0, 1) := by decide +kernel
theorem dX1_move_21 : decode cX1_move 21 = .ok (.getfield 10, 3) := by decide +kernel
theorem dX1_move_24 : decode cX1_move 24 = .ok (.iload_n 2, 1) := by decide +kernel
theorem dX1_move_25 : decode cX1_move 25 = .ok (.iload_n 1, 1) := by decide +kernel
theorem dX1_move_26 : decode cX1_move 26 = .ok (.aload_n 0, 1) := by decide +kernel
theorem dX1_move_27 : decode cX1_move 27 = .ok (.getfield 30, 3) := by decide +kernel
theorem dX1_move_30 : decode cX1_move 30 = .ok (.invokevirtual 72, 3) := by decide +kernel
theorem dX1_move_33 : decode cX1_move 33 = .ok (.istore_n 3, 1) := by decide +kernel
theorem dX1_move_34 : decode cX1_move 34 = .ok (.iload_n 3, 1) := by decide +kernel
theorem dX1_move_35 : decode cX1_move 35 = .ok (.iconst (-1), 1) := by decide +kernel
theorem dX1_move_36 : decode cX1_move 36 = .ok (.if_icmp .ne 13, 3) := by decide +kernel
theorem dX1_move_39 : decode cX1_move 39 = .ok (.new 76, 3) := by decide +kernel
theorem dX1_move_42 : decode cX1_move 42 = .ok (.dup, 1) := by decide +kernel
theorem dX1_move_43 : decode cX1_move 43 = .ok (.ldc 78, 2) := by decide +kernel
theorem dX1_move_45 : decode cX1_move 45 = .ok (.invokespecial 80, 3) := by decide +kernel
theorem dX1_move_48 : decode cX1_move 48 = .ok (.athrow, 1) := by decide +kernel
theorem dX1_move_49 : decode cX1_move 49 = .ok (.aload_n 0, 1) := by decide +kernel
theorem dX1_move_50 : decode cX1_move 50 = .ok (.getfield 10, 3) := by decide +kernel
theorem dX1_move_53 : decode cX1_move 53 = .ok (.iload_n 2, 1) := by decide +kernel
theorem dX1_move_54 : decode cX1_move 54 = .ok (.iload_n 3, 1) := by decide +kernel
theorem dX1_move_55 : decode cX1_move 55 = .ok (.invokevirtual 81, 3) := by decide +kernel
theorem dX1_move_58 : decode cX1_move 58 = .ok (.istore 4, 2) := by decide +kernel
theorem dX1_move_60 : decode cX1_move 60 = .ok (.iload 4, 2) := by decide +kernel
theorem dX1_move_62 : decode cX1_move 62 = .ok (.ifCond .eq 31, 3) := by decide +kernel
theorem dX1_move_65 : decode cX1_move 65 = .ok (.aload_n 0, 1) := by decide +kernel
theorem dX1_move_66 : decode cX1_move 66 = .ok (.getfield 10, 3) := by decide +kernel
theorem dX1_move_69 : decode cX1_move 69 = .ok (.iload_n 2, 1) := by decide +kernel
theorem dX1_move_70 : decode cX1_move 70 = .ok (.invokestatic 84, 3) := by decide +kernel
theorem dX1_move_73 : decode cX1_move 73 = .ok (.aload_n 0, 1) := by decide +kernel
theorem dX1_move_74 : decode cX1_move 74 = .ok (.getfield 10, 3) := by decide +kernel
theorem dX1_move_77 : decode cX1_move 77 = .ok (.iload_n 2, 1) := by decide +kernel
theorem dX1_move_78 : decode cX1_move 78 = .ok (.iload_n 3, 1) := by decide +kernel
theorem dX1_move_79 : decode cX1_move 79 = .ok (.invokevirtual 87, 3) := by decide +kernel
theorem dX1_move_82 : decode cX1_move 82 = .ok (.invokevirtual 90, 3) := by decide +kernel
theorem dX1_move_85 : decode cX1_move 85 = .ok (.aload_n 0, 1) := by decide +kernel
theorem dX1_move_86 : decode cX1_move 86 = .ok (.aload_n 0, 1) := by decide +kernel
theorem dX1_move_87 : decode cX1_move 87 = .ok (.getfield 20, 3) := by decide +kernel
theorem dX1_move_90 : decode cX1_move 90 = .ok (.invokevirtual 94, 3) := by decide +kernel
theorem dX1_move_93 : decode cX1_move 93 = .ok (.aload_n 0, 1) := by decide +kernel
theorem dX1_move_94 : decode cX1_move 94 = .ok (.getfield 10, 3) := by decide +kernel
theorem dX1_move_97 : decode cX1_move 97 = .ok (.iload_n 2, 1) := by decide +kernel
theorem dX1_move_98 : decode cX1_move 98 = .ok (.iload_n 1, 1) := by decide +kernel
theorem dX1_move_99 : decode cX1_move 99 = .ok (.iload_n 3, 1) := by decide +kernel
theorem dX1_move_100 : decode cX1_move 100 = .ok (.invokevirtual 97, 3) := by decide +kernel
theorem dX1_move_103 : decode cX1_move 103 = .ok (.aload_n 0, 1) := by decide +kernel
theorem dX1_move_104 : decode cX1_move 104 = .ok (.iload 4, 2) := by decide +kernel
theorem dX1_move_106 : decode cX1_move 106 = .ok (.invokevirtual 101, 3) := by decide +kernel
theorem dX1_move_109 : decode cX1_move 109 = .ok (.iload 4, 2) := by decide +kernel
theorem dX1_move_111 : decode cX1_move 111 = .ok (.ifCond .eq 10, 3) := by decide +kernel
theorem dX1_move_114 : decode cX1_move 114 = .ok (.iload_n 3, 1) := by decide +kernel
theorem dX1_move_115 : decode cX1_move 115 = .ok (.bipush 100, 2) := by decide +kernel
theorem dX1_move_117 : decode cX1_move 117 = .ok (.iadd, 1) := by decide +kernel
theorem dX1_move_118 : decode cX1_move 118 = .ok (.goto 4, 3) := by decide +kernel
theorem dX1_move_121 : decode cX1_move 121 = .ok (.iload_n 3, 1) := by decide +kernel
theorem dX1_move_122 : decode cX1_move 122 = .ok (.ireturn, 1) := by decide +kernel
theorem dX1_phase_0 : decode cX1_phase 0 = .ok (.aload_n 0, 1) := by decide +kernel
theorem dX1_phase_1 : decode cX1_phase 1 = .ok (.getfield 27, 3) := by decide +kernel
theorem dX1_phase_4 : decode cX1_phase 4 = .ok (.ireturn, 1) := by decide +kernel
theorem dX1_onTurn_0 : decode cX1_onTurn 0 = .ok (.aload_n 0, 1) := by decide +kernel
theorem dX1_onTurn_1 : decode cX1_onTurn 1 = .ok (.getfield 20, 3) := by decide +kernel
theorem dX1_onTurn_4 : decode cX1_onTurn 4 = .ok (.ireturn, 1) := by decide +kernel
set_option maxRecDepth 20000 in
theorem ggX1_mover_X0_moverFor : GoodIn wsX1_mover wsX0_moverFor := goodIn_r _ [7, 8, 9, 10, 6, 11, 12, 13, 14, 15, 16, 17, 18, 19, 26, 27] (by decide +kernel) (by decide +kernel)
set_option maxRecDepth 20000 in
theorem gX1_mover_X0_moverFor : GoodIn wsX1_mover (wsV RX1 58 RX0 yX0_moverFor wsX0_moverFor) := goodIn_app (goodIn_of _ (by decide +kernel)) ggX1_mover_X0_moverFor
theorem dX1_mover_0 : decode cX1_mover 0 = .ok (.aload_n 0, 1) := by decide +kernel
theorem dX1_mover_1 : decode cX1_mover 1 = .ok (.getfield 10, 3) := by decide +kernel
theorem dX1_mover_4 : decode cX1_mover 4 = .ok (.aload_n 0, 1) := by decide +kernel
theorem dX1_mover_5 : decode cX1_mover 5 = .ok (.getfield 20, 3) := by decide +kernel
theorem dX1_mover_8 : decode cX1_mover 8 = .ok (.invokevirtual 58, 3) := by decide +kernel
theorem dX1_mover_11 : decode cX1_mover 11 = .ok (.ireturn, 1) := by decide +kernel
set_option maxRecDepth 20000 in
theorem ggX1_movable_X1_requireMoveDue : GoodIn wsX1_movable wsX1_requireMoveDue := goodIn_ca (goodIn_r _ [8, 9, 10, 11, 65, 66, 67, 68, 69, 70] (by decide +kernel) (by decide +kernel)) (goodIn_sub (fun _ h => List.mem_cons_of_mem _ (List.mem_append_right _ h)) (by decide +kernel))
set_option maxRecDepth 20000 in
theorem gX1_movable_X1_requireMoveDue : GoodIn wsX1_movable (wsV RX1 69 RX1 yX1_requireMoveDue wsX1_requireMoveDue) := goodIn_app (goodIn_of _ (by decide +kernel)) ggX1_movable_X1_requireMoveDue
set_option maxRecDepth 20000 in
theorem ggX1_movable_X0_moverFor : GoodIn wsX1_movable wsX0_moverFor := goodIn_r _ [16, 17, 18, 19, 15, 20, 21, 22, 23, 24, 25, 26, 7, 27, 71, 72] (by decide +kernel) (by decide +kernel)
set_option maxRecDepth 20000 in
theorem gX1_movable_X0_moverFor : GoodIn wsX1_movable (wsV RX1 58 RX0 yX0_moverFor wsX0_moverFor) := goodIn_app (goodIn_of _ (by decide +kernel)) ggX1_movable_X0_moverFor
set_option maxRecDepth 20000 in
theorem ggX1_movable_X0_movableSet : GoodIn wsX1_movable wsX0_movableSet := goodIn_r _ [31, 32, 33, 34, 15, 35, 21, 22, 23, 24, 25, 36, 7, 37, 38, 39, 40, 41, 42, 43, 44, 45, 46, 47, 48, 49, 50, 51, 52, 53, 54, 55, 56, 57, 58, 59, 60, 61, 62, 63, 64, 71, 72] (by decide +kernel) (by decide +kernel)
set_option maxRecDepth 20000 in
theorem gX1_movable_X0_movableSet : GoodIn wsX1_movable (wsV RX1 61 RX0 yX0_movableSet wsX0_movableSet) := goodIn_app (goodIn_of _ (by decide +kernel)) ggX1_movable_X0_movableSet
theorem dX1_movable_0 : decode cX1_movable 0 = .ok (.aload_n 0, 1) := by decide +kernel
theorem dX1_movable_1 : decode cX1_movable 1 = .ok (.invokevirtual 69, 3) := by decide +kernel
theorem dX1_movable_4 : decode cX1_movable 4 = .ok (.aload_n 0, 1) := by decide +kernel
theorem dX1_movable_5 : decode cX1_movable 5 = .ok (.getfield 10, 3) := by decide +kernel
theorem dX1_movable_8 : decode cX1_movable 8 = .ok (.aload_n 0, 1) := by decide +kernel
theorem dX1_movable_9 : decode cX1_movable 9 = .ok (.getfield 10, 3) := by decide +kernel
theorem dX1_movable_12 : decode cX1_movable 12 = .ok (.aload_n 0, 1) := by decide +kernel
theorem dX1_movable_13 : decode cX1_movable 13 = .ok (.getfield 20, 3) := by decide +kernel
theorem dX1_movable_16 : decode cX1_movable 16 = .ok (.invokevirtual 58, 3) := by decide +kernel
theorem dX1_movable_19 : decode cX1_movable 19 = .ok (.aload_n 0, 1) := by decide +kernel
theorem dX1_movable_20 : decode cX1_movable 20 = .ok (.getfield 30, 3) := by decide +kernel
theorem dX1_movable_23 : decode cX1_movable 23 = .ok (.invokevirtual 61, 3) := by decide +kernel
theorem dX1_movable_26 : decode cX1_movable 26 = .ok (.ireturn, 1) := by decide +kernel
theorem dX1_graces_0 : decode cX1_graces 0 = .ok (.aload_n 0, 1) := by decide +kernel
theorem dX1_graces_1 : decode cX1_graces 1 = .ok (.getfield 24, 3) := by decide +kernel
theorem dX1_graces_4 : decode cX1_graces 4 = .ok (.ireturn, 1) := by decide +kernel
set_option maxRecDepth 20000 in
theorem ggX1_position_X1_requirePlayer : GoodIn wsX1_position wsX1_requirePlayer := goodIn_ca (goodIn_r _ [5, 6, 7] (by decide +kernel) (by decide +kernel)) (goodIn_sub (fun _ h => List.mem_cons_of_mem _ (List.mem_append_right _ h)) (by decide +kernel))
set_option maxRecDepth 20000 in
theorem gX1_position_X1_requirePlayer : GoodIn wsX1_position (va_wsS RX1 105 yX1_requirePlayer wsX1_requirePlayer) := goodIn_app (goodIn_of _ (by decide +kernel)) ggX1_position_X1_requirePlayer
set_option maxRecDepth 20000 in
theorem ggX1_position_X1_requirePiece : GoodIn wsX1_position wsX1_requirePiece := goodIn_ca (goodIn_r _ [10, 6, 7] (by decide +kernel) (by decide +kernel)) (goodIn_sub (fun _ h => List.mem_cons_of_mem _ (List.mem_append_right _ h)) (by decide +kernel))
set_option maxRecDepth 20000 in
theorem gX1_position_X1_requirePiece : GoodIn wsX1_position (va_wsS RX1 65 yX1_requirePiece wsX1_requirePiece) := goodIn_app (goodIn_of _ (by decide +kernel)) ggX1_position_X1_requirePiece
set_option maxRecDepth 20000 in
theorem ggX1_position_X0_positionOf : GoodIn wsX1_position wsX0_positionOf := goodIn_r _ [15, 16, 23, 24] (by decide +kernel) (by decide +kernel)
set_option maxRecDepth 20000 in
theorem gX1_position_X0_positionOf : GoodIn wsX1_position (wsV RX1 108 RX0 yX0_positionOf wsX0_positionOf) := goodIn_app (goodIn_of _ (by decide +kernel)) ggX1_position_X0_positionOf
theorem dX1_position_0 : decode cX1_position 0 = .ok (.iload_n 1, 1) := by decide +kernel
theorem dX1_position_1 : decode cX1_position 1 = .ok (.invokestatic 105, 3) := by decide +kernel
theorem dX1_position_4 : decode cX1_position 4 = .ok (.iload_n 2, 1) := by decide +kernel
theorem dX1_position_5 : decode cX1_position 5 = .ok (.invokestatic 65, 3) := by decide +kernel
theorem dX1_position_8 : decode cX1_position 8 = .ok (.aload_n 0, 1) := by decide +kernel
theorem dX1_position_9 : decode cX1_position 9 = .ok (.getfield 10, 3) := by decide +kernel
theorem dX1_position_12 : decode cX1_position 12 = .ok (.iload_n 1, 1) := by decide +kernel
theorem dX1_position_13 : decode cX1_position 13 = .ok (.iload_n 2, 1) := by decide +kernel
theorem dX1_position_14 : decode cX1_position 14 = .ok (.invokevirtual 108, 3) := by decide +kernel
theorem dX1_position_17 : decode cX1_position 17 = .ok (.ireturn, 1) := by decide +kernel
set_option maxRecDepth 20000 in
theorem ggX1_square_X1_requirePlayer : GoodIn wsX1_square wsX1_requirePlayer := goodIn_ca (goodIn_r _ [5, 6, 7] (by decide +kernel) (by decide +kernel)) (goodIn_sub (fun _ h => List.mem_cons_of_mem _ (List.mem_append_right _ h)) (by decide +kernel))
set_option maxRecDepth 20000 in
theorem gX1_square_X1_requirePlayer : GoodIn wsX1_square (va_wsS RX1 105 yX1_requirePlayer wsX1_requirePlayer) := goodIn_app (goodIn_of _ (by decide +kernel)) ggX1_square_X1_requirePlayer
set_option maxRecDepth 20000 in
theorem ggX1_square_X1_requirePiece : GoodIn wsX1_square wsX1_requirePiece := goodIn_ca (goodIn_r _ [10, 6, 7] (by decide +kernel) (by decide +kernel)) (goodIn_sub (fun _ h => List.mem_cons_of_mem _ (List.mem_append_right _ h)) (by decide +kernel))
set_option maxRecDepth 20000 in
theorem gX1_square_X1_requirePiece : GoodIn wsX1_square (va_wsS RX1 65 yX1_requirePiece wsX1_requirePiece) := goodIn_app (goodIn_of _ (by decide +kernel)) ggX1_square_X1_requirePiece
set_option maxRecDepth 20000 in
theorem ggX1_square_X0_positionOf : GoodIn wsX1_square wsX0_positionOf := goodIn_r _ [15, 16, 27, 28] (by decide +kernel) (by decide +kernel)
set_option maxRecDepth 20000 in
theorem gX1_square_X0_positionOf : GoodIn wsX1_square (wsV RX1 108 RX0 yX0_positionOf wsX0_positionOf) := goodIn_app (goodIn_of _ (by decide +kernel)) ggX1_square_X0_positionOf
set_option maxRecDepth 20000 in
theorem ggX1_square_X0_squareAt : GoodIn wsX1_square wsX0_squareAt := goodIn_r _ [20] (by decide +kernel) (by decide +kernel)
set_option maxRecDepth 20000 in
theorem gX1_square_X0_squareAt : GoodIn wsX1_square (wsV RX1 87 RX0 yX0_squareAt wsX0_squareAt) := goodIn_app (goodIn_of _ (by decide +kernel)) ggX1_square_X0_squareAt
theorem dX1_square_0 : decode cX1_square 0 = .ok (.iload_n 1, 1) := by decide +kernel
theorem dX1_square_1 : decode cX1_square 1 = .ok (.invokestatic 105, 3) := by decide +kernel
theorem dX1_square_4 : decode cX1_square 4 = .ok (.iload_n 2, 1) := by decide +kernel
theorem dX1_square_5 : decode cX1_square 5 = .ok (.invokestatic 65, 3) := by decide +kernel
theorem dX1_square_8 : decode cX1_square 8 = .ok (.aload_n 0, 1) := by decide +kernel
theorem dX1_square_9 : decode cX1_square 9 = .ok (.getfield 10, 3) := by decide +kernel
theorem dX1_square_12 : decode cX1_square 12 = .ok (.iload_n 1, 1) := by decide +kernel
theorem dX1_square_13 : decode cX1_square 13 = .ok (.aload_n 0, 1) := by decide +kernel
theorem dX1_square_14 : decode cX1_square 14 = .ok (.getfield 10, 3) := by decide +kernel
theorem dX1_square_17 : decode cX1_square 17 = .ok (.iload_n 1, 1) := by decide +kernel
theorem dX1_square_18 : decode cX1_square 18 = .ok (.iload_n 2, 1) := by decide +kernel
theorem dX1_square_19 : decode cX1_square 19 = .ok (.invokevirtual 108, 3) := by decide +kernel
theorem dX1_square_22 : decode cX1_square 22 = .ok (.invokevirtual 87, 3) := by decide +kernel
theorem dX1_square_25 : decode cX1_square 25 = .ok (.ireturn, 1) := by decide +kernel
set_option maxRecDepth 20000 in
theorem ggX1_standing_X1_requireSquare : GoodIn wsX1_standing wsX1_requireSquare := goodIn_ca (goodIn_r _ [5, 6, 7] (by decide +kernel) (by decide +kernel)) (goodIn_sub (fun _ h => List.mem_cons_of_mem _ (List.mem_append_left _ (List.mem_append_right _ h))) (by decide +kernel))
set_option maxRecDepth 20000 in
theorem gX1_standing_X1_requireSquare : GoodIn wsX1_standing (va_wsS RX1 111 yX1_requireSquare wsX1_requireSquare) := goodIn_app (goodIn_of _ (by decide +kernel)) ggX1_standing_X1_requireSquare
set_option maxRecDepth 20000 in
theorem ggX1_standing_X1_requireTeam : GoodIn wsX1_standing wsX1_requireTeam := goodIn_ca (goodIn_r _ [10, 11, 12] (by decide +kernel) (by decide +kernel)) (goodIn_sub (fun _ h => List.mem_cons_of_mem _ (List.mem_append_right _ h)) (by decide +kernel))
set_option maxRecDepth 20000 in
theorem gX1_standing_X1_requireTeam : GoodIn wsX1_standing (va_wsS RX1 114 yX1_requireTeam wsX1_requireTeam) := goodIn_app (goodIn_of _ (by decide +kernel)) ggX1_standing_X1_requireTeam
set_option maxRecDepth 20000 in
theorem ggX1_standing_X0_countOn : GoodIn wsX1_standing wsX0_countOn := goodIn_r _ [17, 18, 25, 26] (by decide +kernel) (by decide +kernel)
set_option maxRecDepth 20000 in
theorem gX1_standing_X0_countOn : GoodIn wsX1_standing (wsV RX1 117 RX0 yX0_countOn wsX0_countOn) := goodIn_app (goodIn_of _ (by decide +kernel)) ggX1_standing_X0_countOn
theorem dX1_standing_0 : decode cX1_standing 0 = .ok (.iload_n 1, 1) := by decide +kernel
theorem dX1_standing_1 : decode cX1_standing 1 = .ok (.invokestatic 111, 3) := by decide +kernel
theorem dX1_standing_4 : decode cX1_standing 4 = .ok (.iload_n 2, 1) := by decide +kernel
theorem dX1_standing_5 : decode cX1_standing 5 = .ok (.invokestatic 114, 3) := by decide +kernel
theorem dX1_standing_8 : decode cX1_standing 8 = .ok (.aload_n 0, 1) := by decide +kernel
theorem dX1_standing_9 : decode cX1_standing 9 = .ok (.getfield 10, 3) := by decide +kernel
theorem dX1_standing_12 : decode cX1_standing 12 = .ok (.iload_n 1, 1) := by decide +kernel
theorem dX1_standing_13 : decode cX1_standing 13 = .ok (.iload_n 2, 1) := by decide +kernel
theorem dX1_standing_14 : decode cX1_standing 14 = .ok (.invokevirtual 117, 3) := by decide +kernel
theorem dX1_standing_17 : decode cX1_standing 17 = .ok (.ireturn, 1) := by decide +kernel
set_option maxRecDepth 20000 in
theorem ggX1_isSafe_X1_requireSquare : GoodIn wsX1_isSafe wsX1_requireSquare := goodIn_ca (goodIn_r _ [4, 5, 6] (by decide +kernel) (by decide +kernel)) (goodIn_sub (fun _ h => List.mem_cons_of_mem _ (List.mem_append_right _ h)) (by decide +kernel))
set_option maxRecDepth 20000 in
theorem gX1_isSafe_X1_requireSquare : GoodIn wsX1_isSafe (va_wsS RX1 111 yX1_requireSquare wsX1_requireSquare) := goodIn_app (goodIn_of _ (by decide +kernel)) ggX1_isSafe_X1_requireSquare
set_option maxRecDepth 20000 in
theorem ggX1_isSafe_X1_isSafeSquare : GoodIn wsX1_isSafe wsX1_isSafeSquare := goodIn_r _ [9] (by decide +kernel) (by decide +kernel)
set_option maxRecDepth 20000 in
theorem gX1_isSafe_X1_isSafeSquare : GoodIn wsX1_isSafe (va_wsS RX1 120 yX1_isSafeSquare wsX1_isSafeSquare) := goodIn_app (goodIn_of _ (by decide +kernel)) ggX1_isSafe_X1_isSafeSquare
theorem dX1_isSafe_0 : decode cX1_isSafe 0 = .ok (.iload_n 1, 1) := by decide +kernel
theorem dX1_isSafe_1 : decode cX1_isSafe 1 = .ok (.invokestatic 111, 3) := by decide +kernel
theorem dX1_isSafe_4 : decode cX1_isSafe 4 = .ok (.iload_n 1, 1) := by decide +kernel
theorem dX1_isSafe_5 : decode cX1_isSafe 5 = .ok (.invokestatic 120, 3) := by decide +kernel
theorem dX1_isSafe_8 : decode cX1_isSafe 8 = .ok (.ireturn, 1) := by decide +kernel
set_option maxRecDepth 20000 in
theorem ggX1_home_X1_requirePlayer : GoodIn wsX1_home wsX1_requirePlayer := goodIn_ca (goodIn_r _ [5, 6, 7] (by decide +kernel) (by decide +kernel)) (goodIn_sub (fun _ h => List.mem_cons_of_mem _ (List.mem_append_right _ h)) (by decide +kernel))
set_option maxRecDepth 20000 in
theorem gX1_home_X1_requirePlayer : GoodIn wsX1_home (va_wsS RX1 105 yX1_requirePlayer wsX1_requirePlayer) := goodIn_app (goodIn_of _ (by decide +kernel)) ggX1_home_X1_requirePlayer
set_option maxRecDepth 20000 in
theorem ggX1_home_X0_countHome : GoodIn wsX1_home wsX0_countHome := goodIn_r _ [12, 13, 14, 15, 11, 16, 17, 24, 25] (by decide +kernel) (by decide +kernel)
set_option maxRecDepth 20000 in
theorem gX1_home_X0_countHome : GoodIn wsX1_home (wsV RX1 123 RX0 yX0_countHome wsX0_countHome) := goodIn_app (goodIn_of _ (by decide +kernel)) ggX1_home_X0_countHome
theorem dX1_home_0 : decode cX1_home 0 = .ok (.iload_n 1, 1) := by decide +kernel
theorem dX1_home_1 : decode cX1_home 1 = .ok (.invokestatic 105, 3) := by decide +kernel
theorem dX1_home_4 : decode cX1_home 4 = .ok (.aload_n 0, 1) := by decide +kernel
theorem dX1_home_5 : decode cX1_home 5 = .ok (.getfield 10, 3) := by decide +kernel
theorem dX1_home_8 : decode cX1_home 8 = .ok (.iload_n 1, 1) := by decide +kernel
theorem dX1_home_9 : decode cX1_home 9 = .ok (.invokevirtual 123, 3) := by decide +kernel
theorem dX1_home_12 : decode cX1_home 12 = .ok (.ireturn, 1) := by decide +kernel
set_option maxRecDepth 20000 in
theorem ggX1_captures_X1_requirePlayer : GoodIn wsX1_captures wsX1_requirePlayer := goodIn_ca (goodIn_r _ [5, 6, 7] (by decide +kernel) (by decide +kernel)) (goodIn_sub (fun _ h => List.mem_cons_of_mem _ (List.mem_append_right _ h)) (by decide +kernel))
set_option maxRecDepth 20000 in
theorem gX1_captures_X1_requirePlayer : GoodIn wsX1_captures (va_wsS RX1 105 yX1_requirePlayer wsX1_requirePlayer) := goodIn_app (goodIn_of _ (by decide +kernel)) ggX1_captures_X1_requirePlayer
theorem dX1_captures_0 : decode cX1_captures 0 = .ok (.iload_n 1, 1) := by decide +kernel
theorem dX1_captures_1 : decode cX1_captures 1 = .ok (.invokestatic 105, 3) := by decide +kernel
theorem dX1_captures_4 : decode cX1_captures 4 = .ok (.iload_n 1, 1) := by decide +kernel
theorem dX1_captures_5 : decode cX1_captures 5 = .ok (.ifCond .lt 21, 3) := by decide +kernel
theorem dX1_captures_8 : decode cX1_captures 8 = .ok (.iload_n 1, 1) := by decide +kernel
theorem dX1_captures_9 : decode cX1_captures 9 = .ok (.aload_n 0, 1) := by decide +kernel
theorem dX1_captures_10 : decode cX1_captures 10 = .ok (.getfield 16, 3) := by decide +kernel
theorem dX1_captures_13 : decode cX1_captures 13 = .ok (.arraylength, 1) := by decide +kernel
theorem dX1_captures_14 : decode cX1_captures 14 = .ok (.if_icmp .ge 12, 3) := by decide +kernel
theorem dX1_captures_17 : decode cX1_captures 17 = .ok (.aload_n 0, 1) := by decide +kernel
theorem dX1_captures_18 : decode cX1_captures 18 = .ok (.getfield 16, 3) := by decide +kernel
theorem dX1_captures_21 : decode cX1_captures 21 = .ok (.iload_n 1, 1) := by decide +kernel
theorem dX1_captures_22 : decode cX1_captures 22 = .ok (.iaload, 1) := by decide +kernel
theorem dX1_captures_23 : decode cX1_captures 23 = .ok (.goto 4, 3) := by decide +kernel
theorem dX1_captures_26 : decode cX1_captures 26 = .ok (.iconst 0, 1) := by decide +kernel
theorem dX1_captures_27 : decode cX1_captures 27 = .ok (.ireturn, 1) := by decide +kernel
set_option maxRecDepth 20000 in
theorem ggX1_winner_X1_teamOf : GoodIn wsX1_winner wsX1_teamOf := goodIn_r _ [6] (by decide +kernel) (by decide +kernel)
set_option maxRecDepth 20000 in
theorem gX1_winner_X1_teamOf : GoodIn wsX1_winner (va_wsS RX1 126 yX1_teamOf wsX1_teamOf) := goodIn_app (goodIn_of _ (by decide +kernel)) ggX1_winner_X1_teamOf
theorem dX1_winner_0 : decode cX1_winner 0 = .ok (.aload_n 0, 1) := by decide +kernel
theorem dX1_winner_1 : decode cX1_winner 1 = .ok (.getfield 27, 3) := by decide +kernel
theorem dX1_winner_4 : decode cX1_winner 4 = .ok (.iconst 2, 1) := by decide +kernel
theorem dX1_winner_5 : decode cX1_winner 5 = .ok (.if_icmp .ne 13, 3) := by decide +kernel
theorem dX1_winner_8 : decode cX1_winner 8 = .ok (.aload_n 0, 1) := by decide +kernel
theorem dX1_winner_9 : decode cX1_winner 9 = .ok (.getfield 20, 3) := by decide +kernel
theorem dX1_winner_12 : decode cX1_winner 12 = .ok (.invokestatic 126, 3) := by decide +kernel
theorem dX1_winner_15 : decode cX1_winner 15 = .ok (.goto 4, 3) := by decide +kernel
theorem dX1_winner_18 : decode cX1_winner 18 = .ok (.iconst (-1), 1) := by decide +kernel
theorem dX1_winner_19 : decode cX1_winner 19 = .ok (.ireturn, 1) := by decide +kernel
set_option maxRecDepth 20000 in
theorem ggX1_distance_X1_requireTeam : GoodIn wsX1_distance wsX1_requireTeam := goodIn_ca (goodIn_r _ [5, 6, 7] (by decide +kernel) (by decide +kernel)) (goodIn_sub (fun _ h => List.mem_cons_of_mem _ (List.mem_append_right _ h)) (by decide +kernel))
set_option maxRecDepth 20000 in
theorem gX1_distance_X1_requireTeam : GoodIn wsX1_distance (va_wsS RX1 114 yX1_requireTeam wsX1_requireTeam) := goodIn_app (goodIn_of _ (by decide +kernel)) ggX1_distance_X1_requireTeam
set_option maxRecDepth 20000 in
theorem ggX1_distance_X0_distanceOf : GoodIn wsX1_distance wsX0_distanceOf := goodIn_r _ [12, 13, 14, 15, 11, 16, 17, 24, 25] (by decide +kernel) (by decide +kernel)
set_option maxRecDepth 20000 in
theorem gX1_distance_X0_distanceOf : GoodIn wsX1_distance (wsV RX1 129 RX0 yX0_distanceOf wsX0_distanceOf) := goodIn_app (goodIn_of _ (by decide +kernel)) ggX1_distance_X0_distanceOf
theorem dX1_distance_0 : decode cX1_distance 0 = .ok (.iload_n 1, 1) := by decide +kernel
theorem dX1_distance_1 : decode cX1_distance 1 = .ok (.invokestatic 114, 3) := by decide +kernel
theorem dX1_distance_4 : decode cX1_distance 4 = .ok (.aload_n 0, 1) := by decide +kernel
theorem dX1_distance_5 : decode cX1_distance 5 = .ok (.getfield 10, 3) := by decide +kernel
theorem dX1_distance_8 : decode cX1_distance 8 = .ok (.iload_n 1, 1) := by decide +kernel
theorem dX1_distance_9 : decode cX1_distance 9 = .ok (.invokevirtual 129, 3) := by decide +kernel
theorem dX1_distance_12 : decode cX1_distance 12 = .ok (.aload_n 0, 1) := by decide +kernel
theorem dX1_distance_13 : decode cX1_distance 13 = .ok (.getfield 10, 3) := by decide +kernel
theorem dX1_distance_16 : decode cX1_distance 16 = .ok (.iload_n 1, 1) := by decide +kernel
theorem dX1_distance_17 : decode cX1_distance 17 = .ok (.iconst 2, 1) := by decide +kernel
theorem dX1_distance_18 : decode cX1_distance 18 = .ok (.iadd, 1) := by decide +kernel
theorem dX1_distance_19 : decode cX1_distance 19 = .ok (.invokevirtual 129, 3) := by decide +kernel
theorem dX1_distance_22 : decode cX1_distance 22 = .ok (.iadd, 1) := by decide +kernel
theorem dX1_distance_23 : decode cX1_distance 23 = .ok (.ireturn, 1) := by decide +kernel
set_option maxRecDepth 20000 in
theorem ggX1_ways_X1_requireThrowDue : GoodIn wsX1_ways wsX1_requireThrowDue := goodIn_ca (goodIn_r _ [10, 11, 12, 13, 79, 80, 81, 82, 83, 84] (by decide +kernel) (by decide +kernel)) (goodIn_sub (fun _ h => List.mem_cons_of_mem _ (List.mem_append_right _ h)) (by decide +kernel))
set_option maxRecDepth 20000 in
theorem gX1_ways_X1_requireThrowDue : GoodIn wsX1_ways (wsV RX1 40 RX1 yX1_requireThrowDue wsX1_requireThrowDue) := goodIn_app (goodIn_of _ (by decide +kernel)) ggX1_ways_X1_requireThrowDue
set_option maxRecDepth 20000 in
theorem ggX1_ways_X0_moverFor : GoodIn wsX1_ways wsX0_moverFor := goodIn_r _ [18, 19, 20, 21, 17, 22, 23, 24, 25, 26, 27, 28, 9, 29, 85, 86] (by decide +kernel) (by decide +kernel)
set_option maxRecDepth 20000 in
theorem gX1_ways_X0_moverFor : GoodIn wsX1_ways (wsV RX1 58 RX0 yX0_moverFor wsX0_moverFor) := goodIn_app (goodIn_of _ (by decide +kernel)) ggX1_ways_X0_moverFor
set_option maxRecDepth 20000 in
theorem ggX1_ways_X1_isGraceTooMany : GoodIn wsX1_ways wsX1_isGraceTooMany := goodIn_r _ [32, 33, 34, 9, 35] (by decide +kernel) (by decide +kernel)
set_option maxRecDepth 20000 in
theorem gX1_ways_X1_isGraceTooMany : GoodIn wsX1_ways (va_wsS RX1 47 yX1_isGraceTooMany wsX1_isGraceTooMany) := goodIn_app (goodIn_of _ (by decide +kernel)) ggX1_ways_X1_isGraceTooMany
set_option maxRecDepth 20000 in
theorem ggX1_ways_X0_canDo : GoodIn wsX1_ways wsX0_canDo := goodIn_r _ [39, 40, 41, 42, 17, 43, 23, 24, 25, 26, 27, 34, 9, 35, 44, 45, 46, 47, 48, 49, 50, 51, 52, 53, 54, 55, 56, 57, 58, 59, 60, 61, 62, 63, 64, 65, 66, 67, 68, 69, 70, 71, 72, 73, 74, 85, 86] (by decide +kernel) (by decide +kernel)
set_option maxRecDepth 20000 in
theorem gX1_ways_X0_canDo : GoodIn wsX1_ways (wsV RX1 134 RX0 yX0_canDo wsX0_canDo) := goodIn_app (goodIn_of _ (by decide +kernel)) ggX1_ways_X0_canDo
set_option maxRecDepth 20000 in
theorem ggX1_ways_X1_waysOf : GoodIn wsX1_ways wsX1_waysOf := goodIn_r _ [77, 78] (by decide +kernel) (by decide +kernel)
set_option maxRecDepth 20000 in
theorem gX1_ways_X1_waysOf : GoodIn wsX1_ways (va_wsS RX1 138 yX1_waysOf wsX1_waysOf) := goodIn_app (goodIn_of _ (by decide +kernel)) ggX1_ways_X1_waysOf
theorem dX1_ways_0 : decode cX1_ways 0 = .ok (.iload_n 1, 1) := by decide +kernel
theorem dX1_ways_1 : decode cX1_ways 1 = .ok (.ifCond .lt 8, 3) := by decide +kernel
theorem dX1_ways_4 : decode cX1_ways 4 = .ok (.iload_n 1, 1) := by decide +kernel
theorem dX1_ways_5 : decode cX1_ways 5 = .ok (.iconst 3, 1) := by decide +kernel
theorem dX1_ways_6 : decode cX1_ways 6 = .ok (.if_icmp .le 13, 3) := by decide +kernel
theorem dX1_ways_9 : decode cX1_ways 9 = .ok (.new 33, 3) := by decide +kernel
theorem dX1_ways_12 : decode cX1_ways 12 = .ok (.dup, 1) := by decide +kernel
theorem dX1_ways_13 : decode cX1_ways 13 = .ok (.ldc 132, 2) := by decide +kernel
theorem dX1_ways_15 : decode cX1_ways 15 = .ok (.invokespecial 37, 3) := by decide +kernel
theorem dX1_ways_18 : decode cX1_ways 18 = .ok (.athrow, 1) := by decide +kernel
theorem dX1_ways_19 : decode cX1_ways 19 = .ok (.aload_n 0, 1) := by decide +kernel
theorem dX1_ways_20 : decode cX1_ways 20 = .ok (.invokevirtual 40, 3) := by decide +kernel
theorem dX1_ways_23 : decode cX1_ways 23 = .ok (.aload_n 0, 1) := by decide +kernel
theorem dX1_ways_24 : decode cX1_ways 24 = .ok (.getfield 10, 3) := by decide +kernel
theorem dX1_ways_27 : decode cX1_ways 27 = .ok (.aload_n 0, 1) := by decide +kernel
theorem dX1_ways_28 : decode cX1_ways 28 = .ok (.getfield 20, 3) := by decide +kernel
theorem dX1_ways_31 : decode cX1_ways 31 = .ok (.invokevirtual 58, 3) := by decide +kernel
theorem dX1_ways_34 : decode cX1_ways 34 = .ok (.istore_n 2, 1) := by decide +kernel
theorem dX1_ways_35 : decode cX1_ways 35 = .ok (.iconst 0, 1) := by decide +kernel
theorem dX1_ways_36 : decode cX1_ways 36 = .ok (.istore_n 3, 1) := by decide +kernel
theorem dX1_ways_37 : decode cX1_ways 37 = .ok (.iconst 0, 1) := by decide +kernel
theorem dX1_ways_38 : decode cX1_ways 38 = .ok (.istore 4, 2) := by decide +kernel
theorem dX1_ways_40 : decode cX1_ways 40 = .ok (.iload 4, 2) := by decide +kernel
theorem dX1_ways_42 : decode cX1_ways 42 = .ok (.bipush 6, 2) := by decide +kernel
theorem dX1_ways_44 : decode cX1_ways 44 = .ok (.if_icmp .gt 43, 3) := by decide +kernel
theorem dX1_ways_47 : decode cX1_ways 47 = .ok (.iload 4, 2) := by decide +kernel
theorem dX1_ways_49 : decode cX1_ways 49 = .ok (.aload_n 0, 1) := by decide +kernel
theorem dX1_ways_50 : decode cX1_ways 50 = .ok (.getfield 24, 3) := by decide +kernel
theorem dX1_ways_53 : decode cX1_ways 53 = .ok (.invokestatic 47, 3) := by decide +kernel
theorem dX1_ways_56 : decode cX1_ways 56 = .ok (.ifCond .ne 25, 3) := by decide +kernel
theorem dX1_ways_59 : decode cX1_ways 59 = .ok (.aload_n 0, 1) := by decide +kernel
theorem dX1_ways_60 : decode cX1_ways 60 = .ok (.getfield 10, 3) := by decide +kernel
theorem dX1_ways_63 : decode cX1_ways 63 = .ok (.iload_n 1, 1) := by decide +kernel
theorem dX1_ways_64 : decode cX1_ways 64 = .ok (.iload_n 2, 1) := by decide +kernel
theorem dX1_ways_65 : decode cX1_ways 65 = .ok (.iload 4, 2) := by decide +kernel
theorem dX1_ways_67 : decode cX1_ways 67 = .ok (.invokevirtual 134, 3) := by decide +kernel
theorem dX1_ways_70 : decode cX1_ways 70 = .ok (.ifCond .eq 11, 3) := by decide +kernel
theorem dX1_ways_73 : decode cX1_ways 73 = .ok (.iload_n 3, 1) := by decide +kernel
theorem dX1_ways_74 : decode cX1_ways 74 = .ok (.iload 4, 2) := by decide +kernel
theorem dX1_ways_76 : decode cX1_ways 76 = .ok (.invokestatic 138, 3) := by decide +kernel
theorem dX1_ways_79 : decode cX1_ways 79 = .ok (.iadd, 1) := by decide +kernel
theorem dX1_ways_80 : decode cX1_ways 80 = .ok (.istore_n 3, 1) := by decide +kernel
theorem dX1_ways_81 : decode cX1_ways 81 = .ok (.iinc 4 1, 3) := by decide +kernel
theorem dX1_ways_84 : decode cX1_ways 84 = .ok (.goto (-44), 3) := by decide +kernel
theorem dX1_ways_87 : decode cX1_ways 87 = .ok (.iload_n 3, 1) := by decide +kernel
theorem dX1_ways_88 : decode cX1_ways 88 = .ok (.ireturn, 1) := by decide +kernel
set_option maxRecDepth 20000 in
theorem ggX1_threat_X1_requirePlayer : GoodIn wsX1_threat wsX1_requirePlayer := goodIn_ca (goodIn_r _ [7, 8, 9] (by decide +kernel) (by decide +kernel)) (goodIn_sub (fun _ h => List.mem_cons_of_mem _ (List.mem_append_right _ h)) (by decide +kernel))
set_option maxRecDepth 20000 in
theorem gX1_threat_X1_requirePlayer : GoodIn wsX1_threat (va_wsS RX1 105 yX1_requirePlayer wsX1_requirePlayer) := goodIn_app (goodIn_of _ (by decide +kernel)) ggX1_threat_X1_requirePlayer
set_option maxRecDepth 20000 in
theorem ggX1_threat_X1_requirePiece : GoodIn wsX1_threat wsX1_requirePiece := goodIn_ca (goodIn_r _ [12, 8, 9] (by decide +kernel) (by decide +kernel)) (goodIn_sub (fun _ h => List.mem_cons_of_mem _ (List.mem_append_right _ h)) (by decide +kernel))
set_option maxRecDepth 20000 in
theorem gX1_threat_X1_requirePiece : GoodIn wsX1_threat (va_wsS RX1 65 yX1_requirePiece wsX1_requirePiece) := goodIn_app (goodIn_of _ (by decide +kernel)) ggX1_threat_X1_requirePiece
set_option maxRecDepth 20000 in
theorem ggX1_threat_X1_teamOf : GoodIn wsX1_threat wsX1_teamOf := goodIn_r _ [15] (by decide +kernel) (by decide +kernel)
set_option maxRecDepth 20000 in
theorem gX1_threat_X1_teamOf : GoodIn wsX1_threat (va_wsS RX1 126 yX1_teamOf wsX1_teamOf) := goodIn_app (goodIn_of _ (by decide +kernel)) ggX1_threat_X1_teamOf
set_option maxRecDepth 20000 in
theorem ggX1_threat_X0_positionOf : GoodIn wsX1_threat wsX0_positionOf := goodIn_r _ [20, 21, 81, 82] (by decide +kernel) (by decide +kernel)
set_option maxRecDepth 20000 in
theorem gX1_threat_X0_positionOf : GoodIn wsX1_threat (wsV RX1 108 RX0 yX0_positionOf wsX0_positionOf) := goodIn_app (goodIn_of _ (by decide +kernel)) ggX1_threat_X0_positionOf
set_option maxRecDepth 20000 in
theorem ggX1_threat_X0_squareAt : GoodIn wsX1_threat wsX0_squareAt := goodIn_r _ [25] (by decide +kernel) (by decide +kernel)
set_option maxRecDepth 20000 in
theorem gX1_threat_X0_squareAt : GoodIn wsX1_threat (wsV RX1 87 RX0 yX0_squareAt wsX0_squareAt) := goodIn_app (goodIn_of _ (by decide +kernel)) ggX1_threat_X0_squareAt
set_option maxRecDepth 20000 in
theorem ggX1_threat_X0_moverFor : GoodIn wsX1_threat wsX0_moverFor := goodIn_r _ [29, 30, 31, 32, 19, 33, 34, 17, 18, 20, 21, 35, 6, 36, 81, 82] (by decide +kernel) (by decide +kernel)
set_option maxRecDepth 20000 in
theorem gX1_threat_X0_moverFor : GoodIn wsX1_threat (wsV RX1 58 RX0 yX0_moverFor wsX0_moverFor) := goodIn_app (goodIn_of _ (by decide +kernel)) ggX1_threat_X0_moverFor
set_option maxRecDepth 20000 in
theorem ggX1_threat_X0_canCaptureOn : GoodIn wsX1_threat wsX0_canCaptureOn := goodIn_r _ [40, 41, 42, 43, 19, 44, 34, 17, 18, 20, 21, 45, 6, 46, 47, 48, 49, 50, 51, 52, 53, 54, 55, 56, 57, 23, 24, 25, 58, 59, 60, 61, 62, 63, 64, 65, 66, 67, 68, 69, 70, 81, 82] (by decide +kernel) (by decide +kernel)
set_option maxRecDepth 20000 in
theorem gX1_threat_X0_canCaptureOn : GoodIn wsX1_threat (wsV RX1 143 RX0 yX0_canCaptureOn wsX0_canCaptureOn) := goodIn_app (goodIn_of _ (by decide +kernel)) ggX1_threat_X0_canCaptureOn
set_option maxRecDepth 20000 in
theorem ggX1_threat_X1_waysOf : GoodIn wsX1_threat wsX1_waysOf := goodIn_r _ [73, 74] (by decide +kernel) (by decide +kernel)
set_option maxRecDepth 20000 in
theorem gX1_threat_X1_waysOf : GoodIn wsX1_threat (va_wsS RX1 138 yX1_waysOf wsX1_waysOf) := goodIn_app (goodIn_of _ (by decide +kernel)) ggX1_threat_X1_waysOf
theorem dX1_threat_0 : decode cX1_threat 0 = .ok (.iload_n 1, 1) := by decide +kernel
theorem dX1_threat_1 : decode cX1_threat 1 = .ok (.invokestatic 105, 3) := by decide +kernel
theorem dX1_threat_4 : decode cX1_threat 4 = .ok (.iload_n 2, 1) := by decide +kernel
theorem dX1_threat_5 : decode cX1_threat 5 = .ok (.invokestatic 65, 3) := by decide +kernel
theorem dX1_threat_8 : decode cX1_threat 8 = .ok (.iload_n 3, 1) := by decide +kernel
theorem dX1_threat_9 : decode cX1_threat 9 = .ok (.ifCond .lt 19, 3) := by decide +kernel
theorem dX1_threat_12 : decode cX1_threat 12 = .ok (.iload_n 3, 1) := by decide +kernel
theorem dX1_threat_13 : decode cX1_threat 13 = .ok (.iconst 4, 1) := by decide +kernel
theorem dX1_threat_14 : decode cX1_threat 14 = .ok (.if_icmp .ge 14, 3) := by decide +kernel
theorem dX1_threat_17 : decode cX1_threat 17 = .ok (.iload_n 3, 1) := by decide +kernel
theorem dX1_threat_18 : decode cX1_threat 18 = .ok (.invokestatic 126, 3) := by decide +kernel
theorem dX1_threat_21 : decode cX1_threat 21 = .ok (.iload_n 1, 1) := by decide +kernel
theorem dX1_threat_22 : decode cX1_threat 22 = .ok (.invokestatic 126, 3) := by decide +kernel
theorem dX1_threat_25 : decode cX1_threat 25 = .ok (.if_icmp .ne 13, 3) := by decide +kernel
theorem dX1_threat_28 : decode cX1_threat 28 = .ok (.new 33, 3) := by decide +kernel
theorem dX1_threat_31 : decode cX1_threat 31 = .ok (.dup, 1) := by decide +kernel
theorem dX1_threat_32 : decode cX1_threat 32 = .ok (.ldc 141, 2) := by decide +kernel
theorem dX1_threat_34 : decode cX1_threat 34 = .ok (.invokespecial 37, 3) := by decide +kernel
theorem dX1_threat_37 : decode cX1_threat 37 = .ok (.athrow, 1) := by decide +kernel
theorem dX1_threat_38 : decode cX1_threat 38 = .ok (.aload_n 0, 1) := by decide +kernel
theorem dX1_threat_39 : decode cX1_threat 39 = .ok (.getfield 10, 3) := by decide +kernel
theorem dX1_threat_42 : decode cX1_threat 42 = .ok (.iload_n 1, 1) := by decide +kernel
theorem dX1_threat_43 : decode cX1_threat 43 = .ok (.aload_n 0, 1) := by decide +kernel
theorem dX1_threat_44 : decode cX1_threat 44 = .ok (.getfield 10, 3) := by decide +kernel
theorem dX1_threat_47 : decode cX1_threat 47 = .ok (.iload_n 1, 1) := by decide +kernel
theorem dX1_threat_48 : decode cX1_threat 48 = .ok (.iload_n 2, 1) := by decide +kernel
theorem dX1_threat_49 : decode cX1_threat 49 = .ok (.invokevirtual 108, 3) := by decide +kernel
theorem dX1_threat_52 : decode cX1_threat 52 = .ok (.invokevirtual 87, 3) := by decide +kernel
theorem dX1_threat_55 : decode cX1_threat 55 = .ok (.istore 4, 2) := by decide +kernel
theorem dX1_threat_57 : decode cX1_threat 57 = .ok (.aload_n 0, 1) := by decide +kernel
theorem dX1_threat_58 : decode cX1_threat 58 = .ok (.getfield 10, 3) := by decide +kernel
theorem dX1_threat_61 : decode cX1_threat 61 = .ok (.iload_n 3, 1) := by decide +kernel
theorem dX1_threat_62 : decode cX1_threat 62 = .ok (.invokevirtual 58, 3) := by decide +kernel
theorem dX1_threat_65 : decode cX1_threat 65 = .ok (.istore 5, 2) := by decide +kernel
theorem dX1_threat_67 : decode cX1_threat 67 = .ok (.iconst 0, 1) := by decide +kernel
theorem dX1_threat_68 : decode cX1_threat 68 = .ok (.istore 6, 2) := by decide +kernel
theorem dX1_threat_70 : decode cX1_threat 70 = .ok (.iconst 0, 1) := by decide +kernel
theorem dX1_threat_71 : decode cX1_threat 71 = .ok (.istore 7, 2) := by decide +kernel
theorem dX1_threat_73 : decode cX1_threat 73 = .ok (.iload 7, 2) := by decide +kernel
theorem dX1_threat_75 : decode cX1_threat 75 = .ok (.bipush 6, 2) := by decide +kernel
theorem dX1_threat_77 : decode cX1_threat 77 = .ok (.if_icmp .gt 35, 3) := by decide +kernel
theorem dX1_threat_80 : decode cX1_threat 80 = .ok (.aload_n 0, 1) := by decide +kernel
theorem dX1_threat_81 : decode cX1_threat 81 = .ok (.getfield 10, 3) := by decide +kernel
theorem dX1_threat_84 : decode cX1_threat 84 = .ok (.iload 4, 2) := by decide +kernel
theorem dX1_threat_86 : decode cX1_threat 86 = .ok (.iload 5, 2) := by decide +kernel
theorem dX1_threat_88 : decode cX1_threat 88 = .ok (.iload 7, 2) := by decide +kernel
theorem dX1_threat_90 : decode cX1_threat 90 = .ok (.invokevirtual 143, 3) := by decide +kernel
theorem dX1_threat_93 : decode cX1_threat 93 = .ok (.ifCond .eq 13, 3) := by decide +kernel
theorem dX1_threat_96 : decode cX1_threat 96 = .ok (.iload 6, 2) := by decide +kernel
theorem dX1_threat_98 : decode cX1_threat 98 = .ok (.iload 7, 2) := by decide +kernel
theorem dX1_threat_100 : decode cX1_threat 100 = .ok (.invokestatic 138, 3) := by decide +kernel
theorem dX1_threat_103 : decode cX1_threat 103 = .ok (.iadd, 1) := by decide +kernel
theorem dX1_threat_104 : decode cX1_threat 104 = .ok (.istore 6, 2) := by decide +kernel
theorem dX1_threat_106 : decode cX1_threat 106 = .ok (.iinc 7 1, 3) := by decide +kernel
theorem dX1_threat_109 : decode cX1_threat 109 = .ok (.goto (-36), 3) := by decide +kernel
theorem dX1_threat_112 : decode cX1_threat 112 = .ok (.iload 6, 2) := by decide +kernel
theorem dX1_threat_114 : decode cX1_threat 114 = .ok (.ireturn, 1) := by decide +kernel
set_option maxRecDepth 20000 in
theorem ggX1_captureChance_X1_requireThrowDue : GoodIn wsX1_captureChance wsX1_requireThrowDue := goodIn_ca (goodIn_r _ [8, 9, 10, 11, 113, 114, 115, 116, 117, 118] (by decide +kernel) (by decide +kernel)) (goodIn_sub (fun _ h => List.mem_cons_of_mem _ (List.mem_append_right _ h)) (by decide +kernel))
set_option maxRecDepth 20000 in
theorem gX1_captureChance_X1_requireThrowDue : GoodIn wsX1_captureChance (wsV RX1 40 RX1 yX1_requireThrowDue wsX1_requireThrowDue) := goodIn_app (goodIn_of _ (by decide +kernel)) ggX1_captureChance_X1_requireThrowDue
set_option maxRecDepth 20000 in
theorem ggX1_captureChance_X1_chanceWithin : GoodIn wsX1_captureChance wsX1_chanceWithin := goodIn_r _ [15, 16, 17, 7, 18, 19, 20, 21, 22, 23, 24, 25, 26, 27, 28, 29, 30, 31, 32, 33, 34, 35, 36, 37, 38, 39, 40, 41, 42, 43, 44, 45, 46, 47, 48, 49, 50, 51, 52, 53, 54, 55, 56, 57, 58, 59, 60, 61, 62, 63, 64, 65, 66, 67, 68, 69, 70, 71, 72, 73, 74, 75, 76, 77, 78, 79, 80, 81, 82, 83, 84, 85, 86, 87, 88, 89, 90, 91, 92, 93, 94, 95, 96, 97, 98, 99, 100, 12, 13, 14, 101, 102, 103, 104, 105, 106, 107, 108, 109, 110, 111, 112, 113, 114, 115, 116, 117, 118, 119, 120] (by decide +kernel) (by decide +kernel)
set_option maxRecDepth 20000 in
theorem gX1_captureChance_X1_chanceWithin : GoodIn wsX1_captureChance (wsV RX1 148 RX1 yX1_chanceWithin wsX1_chanceWithin) := goodIn_app (goodIn_of _ (by decide +kernel)) ggX1_captureChance_X1_chanceWithin
theorem dX1_captureChance_0 : decode cX1_captureChance 0 = .ok (.iload_n 1, 1) := by decide +kernel
theorem dX1_captureChance_1 : decode cX1_captureChance 1 = .ok (.iconst 1, 1) := by decide +kernel
theorem dX1_captureChance_2 : decode cX1_captureChance 2 = .ok (.if_icmp .lt 8, 3) := by decide +kernel
theorem dX1_captureChance_5 : decode cX1_captureChance 5 = .ok (.iload_n 1, 1) := by decide +kernel
theorem dX1_captureChance_6 : decode cX1_captureChance 6 = .ok (.iconst 3, 1) := by decide +kernel
theorem dX1_captureChance_7 : decode cX1_captureChance 7 = .ok (.if_icmp .le 13, 3) := by decide +kernel
theorem dX1_captureChance_10 : decode cX1_captureChance 10 = .ok (.new 33, 3) := by decide +kernel
theorem dX1_captureChance_13 : decode cX1_captureChance 13 = .ok (.dup, 1) := by decide +kernel
theorem dX1_captureChance_14 : decode cX1_captureChance 14 = .ok (.ldc 146, 2) := by decide +kernel
theorem dX1_captureChance_16 : decode cX1_captureChance 16 = .ok (.invokespecial 37, 3) := by decide +kernel
theorem dX1_captureChance_19 : decode cX1_captureChance 19 = .ok (.athrow, 1) := by decide +kernel
theorem dX1_captureChance_20 : decode cX1_captureChance 20 = .ok (.aload_n 0, 1) := by decide +kernel
theorem dX1_captureChance_21 : decode cX1_captureChance 21 = .ok (.invokevirtual 40, 3) := by decide +kernel
theorem dX1_captureChance_24 : decode cX1_captureChance 24 = .ok (.aload_n 0, 1) := by decide +kernel
theorem dX1_captureChance_25 : decode cX1_captureChance 25 = .ok (.iload_n 1, 1) := by decide +kernel
theorem dX1_captureChance_26 : decode cX1_captureChance 26 = .ok (.aload_n 0, 1) := by decide +kernel
theorem dX1_captureChance_27 : decode cX1_captureChance 27 = .ok (.getfield 24, 3) := by decide +kernel
theorem dX1_captureChance_30 : decode cX1_captureChance 30 = .ok (.invokevirtual 148, 3) := by decide +kernel
theorem dX1_captureChance_33 : decode cX1_captureChance 33 = .ok (.ireturn, 1) := by decide +kernel
theorem dX1_requirePlayer_0 : decode cX1_requirePlayer 0 = .ok (.iload_n 0, 1) := by decide +kernel
theorem dX1_requirePlayer_1 : decode cX1_requirePlayer 1 = .ok (.ifCond .lt 8, 3) := by decide +kernel
theorem dX1_requirePlayer_4 : decode cX1_requirePlayer 4 = .ok (.iload_n 0, 1) := by decide +kernel
theorem dX1_requirePlayer_5 : decode cX1_requirePlayer 5 = .ok (.iconst 4, 1) := by decide +kernel
theorem dX1_requirePlayer_6 : decode cX1_requirePlayer 6 = .ok (.if_icmp .lt 13, 3) := by decide +kernel
theorem dX1_requirePlayer_9 : decode cX1_requirePlayer 9 = .ok (.new 151, 3) := by decide +kernel
theorem dX1_requirePlayer_12 : decode cX1_requirePlayer 12 = .ok (.dup, 1) := by decide +kernel
theorem dX1_requirePlayer_13 : decode cX1_requirePlayer 13 = .ok (.ldc 153, 2) := by decide +kernel
theorem dX1_requirePlayer_15 : decode cX1_requirePlayer 15 = .ok (.invokespecial 155, 3) := by decide +kernel
theorem dX1_requirePlayer_18 : decode cX1_requirePlayer 18 = .ok (.athrow, 1) := by decide +kernel
theorem dX1_requirePlayer_19 : decode cX1_requirePlayer 19 = .ok (.return_, 1) := by decide +kernel
theorem dX1_requirePiece_0 : decode cX1_requirePiece 0 = .ok (.iload_n 0, 1) := by decide +kernel
theorem dX1_requirePiece_1 : decode cX1_requirePiece 1 = .ok (.ifCond .lt 8, 3) := by decide +kernel
theorem dX1_requirePiece_4 : decode cX1_requirePiece 4 = .ok (.iload_n 0, 1) := by decide +kernel
theorem dX1_requirePiece_5 : decode cX1_requirePiece 5 = .ok (.iconst 4, 1) := by decide +kernel
theorem dX1_requirePiece_6 : decode cX1_requirePiece 6 = .ok (.if_icmp .lt 13, 3) := by decide +kernel
theorem dX1_requirePiece_9 : decode cX1_requirePiece 9 = .ok (.new 151, 3) := by decide +kernel
theorem dX1_requirePiece_12 : decode cX1_requirePiece 12 = .ok (.dup, 1) := by decide +kernel
theorem dX1_requirePiece_13 : decode cX1_requirePiece 13 = .ok (.ldc 156, 2) := by decide +kernel
theorem dX1_requirePiece_15 : decode cX1_requirePiece 15 = .ok (.invokespecial 155, 3) := by decide +kernel
theorem dX1_requirePiece_18 : decode cX1_requirePiece 18 = .ok (.athrow, 1) := by decide +kernel
theorem dX1_requirePiece_19 : decode cX1_requirePiece 19 = .ok (.return_, 1) := by decide +kernel
theorem dX1_requireSquare_0 : decode cX1_requireSquare 0 = .ok (.iload_n 0, 1) := by decide +kernel
theorem dX1_requireSquare_1 : decode cX1_requireSquare 1 = .ok (.ifCond .lt 9, 3) := by decide +kernel
theorem dX1_requireSquare_4 : decode cX1_requireSquare 4 = .ok (.iload_n 0, 1) := by decide +kernel
theorem dX1_requireSquare_5 : decode cX1_requireSquare 5 = .ok (.bipush 68, 2) := by decide +kernel
theorem dX1_requireSquare_7 : decode cX1_requireSquare 7 = .ok (.if_icmp .lt 13, 3) := by decide +kernel
theorem dX1_requireSquare_10 : decode cX1_requireSquare 10 = .ok (.new 151, 3) := by decide +kernel
theorem dX1_requireSquare_13 : decode cX1_requireSquare 13 = .ok (.dup, 1) := by decide +kernel
theorem dX1_requireSquare_14 : decode cX1_requireSquare 14 = .ok (.ldc 158, 2) := by decide +kernel
theorem dX1_requireSquare_16 : decode cX1_requireSquare 16 = .ok (.invokespecial 155, 3) := by decide +kernel
theorem dX1_requireSquare_19 : decode cX1_requireSquare 19 = .ok (.athrow, 1) := by decide +kernel
theorem dX1_requireSquare_20 : decode cX1_requireSquare 20 = .ok (.return_, 1) := by decide +kernel
theorem dX1_requireTeam_0 : decode cX1_requireTeam 0 = .ok (.iload_n 0, 1) := by decide +kernel
theorem dX1_requireTeam_1 : decode cX1_requireTeam 1 = .ok (.ifCond .lt 8, 3) := by decide +kernel
theorem dX1_requireTeam_4 : decode cX1_requireTeam 4 = .ok (.iload_n 0, 1) := by decide +kernel
theorem dX1_requireTeam_5 : decode cX1_requireTeam 5 = .ok (.iconst 2, 1) := by decide +kernel
theorem dX1_requireTeam_6 : decode cX1_requireTeam 6 = .ok (.if_icmp .lt 13, 3) := by decide +kernel
theorem dX1_requireTeam_9 : decode cX1_requireTeam 9 = .ok (.new 33, 3) := by decide +kernel
theorem dX1_requireTeam_12 : decode cX1_requireTeam 12 = .ok (.dup, 1) := by decide +kernel
theorem dX1_requireTeam_13 : decode cX1_requireTeam 13 = .ok (.ldc 160, 2) := by decide +kernel
theorem dX1_requireTeam_15 : decode cX1_requireTeam 15 = .ok (.invokespecial 37, 3) := by decide +kernel
theorem dX1_requireTeam_18 : decode cX1_requireTeam 18 = .ok (.athrow, 1) := by decide +kernel
theorem dX1_requireTeam_19 : decode cX1_requireTeam 19 = .ok (.return_, 1) := by decide +kernel
theorem dX1_requireThrowDue_0 : decode cX1_requireThrowDue 0 = .ok (.aload_n 0, 1) := by decide +kernel
theorem dX1_requireThrowDue_1 : decode cX1_requireThrowDue 1 = .ok (.getfield 27, 3) := by decide +kernel
theorem dX1_requireThrowDue_4 : decode cX1_requireThrowDue 4 = .ok (.ifCond .eq 13, 3) := by decide +kernel
theorem dX1_requireThrowDue_7 : decode cX1_requireThrowDue 7 = .ok (.new 76, 3) := by decide +kernel
theorem dX1_requireThrowDue_10 : decode cX1_requireThrowDue 10 = .ok (.dup, 1) := by decide +kernel
theorem dX1_requireThrowDue_11 : decode cX1_requireThrowDue 11 = .ok (.ldc 162, 2) := by decide +kernel
theorem dX1_requireThrowDue_13 : decode cX1_requireThrowDue 13 = .ok (.invokespecial 80, 3) := by decide +kernel
theorem dX1_requireThrowDue_16 : decode cX1_requireThrowDue 16 = .ok (.athrow, 1) := by decide +kernel
theorem dX1_requireThrowDue_17 : decode cX1_requireThrowDue 17 = .ok (.return_, 1) := by decide +kernel
theorem dX1_requireMoveDue_0 : decode cX1_requireMoveDue 0 = .ok (.aload_n 0, 1) := by decide +kernel
theorem dX1_requireMoveDue_1 : decode cX1_requireMoveDue 1 = .ok (.getfield 27, 3) := by decide +kernel
theorem dX1_requireMoveDue_4 : decode cX1_requireMoveDue 4 = .ok (.iconst 1, 1) := by decide +kernel
theorem dX1_requireMoveDue_5 : decode cX1_requireMoveDue 5 = .ok (.if_icmp .eq 13, 3) := by decide +kernel
theorem dX1_requireMoveDue_8 : decode cX1_requireMoveDue 8 = .ok (.new 76, 3) := by decide +kernel
theorem dX1_requireMoveDue_11 : decode cX1_requireMoveDue 11 = .ok (.dup, 1) := by decide +kernel
theorem dX1_requireMoveDue_12 : decode cX1_requireMoveDue 12 = .ok (.ldc 164, 2) := by decide +kernel
theorem dX1_requireMoveDue_14 : decode cX1_requireMoveDue 14 = .ok (.invokespecial 80, 3) := by decide +kernel
theorem dX1_requireMoveDue_17 : decode cX1_requireMoveDue 17 = .ok (.athrow, 1) := by decide +kernel
theorem dX1_requireMoveDue_18 : decode cX1_requireMoveDue 18 = .ok (.return_, 1) := by decide +kernel
theorem dX1_passTurn_0 : decode cX1_passTurn 0 = .ok (.aload_n 0, 1) := by decide +kernel
theorem dX1_passTurn_1 : decode cX1_passTurn 1 = .ok (.aload_n 0, 1) := by decide +kernel
theorem dX1_passTurn_2 : decode cX1_passTurn 2 = .ok (.getfield 20, 3) := by decide +kernel
theorem dX1_passTurn_5 : decode cX1_passTurn 5 = .ok (.iconst 1, 1) := by decide +kernel
theorem dX1_passTurn_6 : decode cX1_passTurn 6 = .ok (.iadd, 1) := by decide +kernel
theorem dX1_passTurn_7 : decode cX1_passTurn 7 = .ok (.iconst 4, 1) := by decide +kernel
theorem dX1_passTurn_8 : decode cX1_passTurn 8 = .ok (.irem, 1) := by decide +kernel
theorem dX1_passTurn_9 : decode cX1_passTurn 9 = .ok (.putfield 20, 3) := by decide +kernel
theorem dX1_passTurn_12 : decode cX1_passTurn 12 = .ok (.aload_n 0, 1) := by decide +kernel
theorem dX1_passTurn_13 : decode cX1_passTurn 13 = .ok (.iconst 0, 1) := by decide +kernel
theorem dX1_passTurn_14 : decode cX1_passTurn 14 = .ok (.putfield 24, 3) := by decide +kernel
theorem dX1_passTurn_17 : decode cX1_passTurn 17 = .ok (.return_, 1) := by decide +kernel
set_option maxRecDepth 20000 in
theorem ggX1_endMove_X0_isTeamHome : GoodIn wsX1_endMove wsX0_isTeamHome := goodIn_r _ [9, 10, 11, 12, 8, 13, 14, 15, 16, 17, 18, 19, 20, 21, 36, 37] (by decide +kernel) (by decide +kernel)
set_option maxRecDepth 20000 in
theorem gX1_endMove_X0_isTeamHome : GoodIn wsX1_endMove (wsV RX1 166 RX0 yX0_isTeamHome wsX0_isTeamHome) := goodIn_app (goodIn_of _ (by decide +kernel)) ggX1_endMove_X0_isTeamHome
set_option maxRecDepth 20000 in
theorem ggX1_endMove_X1_isGrace : GoodIn wsX1_endMove wsX1_isGrace := goodIn_r _ [24] (by decide +kernel) (by decide +kernel)
set_option maxRecDepth 20000 in
theorem gX1_endMove_X1_isGrace : GoodIn wsX1_endMove (va_wsS RX1 54 yX1_isGrace wsX1_isGrace) := goodIn_app (goodIn_of _ (by decide +kernel)) ggX1_endMove_X1_isGrace
set_option maxRecDepth 20000 in
theorem ggX1_endMove_X1_passTurn : GoodIn wsX1_endMove wsX1_passTurn := goodIn_r _ [28, 2, 29, 30, 31, 32, 33, 34, 35] (by decide +kernel) (by decide +kernel)
set_option maxRecDepth 20000 in
theorem gX1_endMove_X1_passTurn : GoodIn wsX1_endMove (wsV RX1 51 RX1 yX1_passTurn wsX1_passTurn) := goodIn_app (goodIn_of _ (by decide +kernel)) ggX1_endMove_X1_passTurn
theorem dX1_endMove_0 : decode cX1_endMove 0 = .ok (.aload_n 0, 1) := by decide +kernel
theorem dX1_endMove_1 : decode cX1_endMove 1 = .ok (.getfield 10, 3) := by decide +kernel
theorem dX1_endMove_4 : decode cX1_endMove 4 = .ok (.aload_n 0, 1) := by decide +kernel
theorem dX1_endMove_5 : decode cX1_endMove 5 = .ok (.getfield 20, 3) := by decide +kernel
theorem dX1_endMove_8 : decode cX1_endMove 8 = .ok (.invokevirtual 166, 3) := by decide +kernel
theorem dX1_endMove_11 : decode cX1_endMove 11 = .ok (.ifCond .eq 9, 3) := by decide +kernel
theorem dX1_endMove_14 : decode cX1_endMove 14 = .ok (.aload_n 0, 1) := by decide +kernel
theorem dX1_endMove_15 : decode cX1_endMove 15 = .ok (.iconst 2, 1) := by decide +kernel
theorem dX1_endMove_16 : decode cX1_endMove 16 = .ok (.putfield 27, 3) := by decide +kernel
theorem dX1_endMove_19 : decode cX1_endMove 19 = .ok (.return_, 1) := by decide +kernel
theorem dX1_endMove_20 : decode cX1_endMove 20 = .ok (.aload_n 0, 1) := by decide +kernel
theorem dX1_endMove_21 : decode cX1_endMove 21 = .ok (.iconst 0, 1) := by decide +kernel
theorem dX1_endMove_22 : decode cX1_endMove 22 = .ok (.putfield 27, 3) := by decide +kernel
theorem dX1_endMove_25 : decode cX1_endMove 25 = .ok (.iload_n 1, 1) := by decide +kernel
theorem dX1_endMove_26 : decode cX1_endMove 26 = .ok (.ifCond .ne 17, 3) := by decide +kernel
theorem dX1_endMove_29 : decode cX1_endMove 29 = .ok (.aload_n 0, 1) := by decide +kernel
theorem dX1_endMove_30 : decode cX1_endMove 30 = .ok (.getfield 30, 3) := by decide +kernel
theorem dX1_endMove_33 : decode cX1_endMove 33 = .ok (.invokestatic 54, 3) := by decide +kernel
theorem dX1_endMove_36 : decode cX1_endMove 36 = .ok (.ifCond .ne 7, 3) := by decide +kernel
theorem dX1_endMove_39 : decode cX1_endMove 39 = .ok (.aload_n 0, 1) := by decide +kernel
theorem dX1_endMove_40 : decode cX1_endMove 40 = .ok (.invokevirtual 51, 3) := by decide +kernel
theorem dX1_endMove_43 : decode cX1_endMove 43 = .ok (.return_, 1) := by decide +kernel
theorem dX1_countCapture_0 : decode cX1_countCapture 0 = .ok (.iload_n 1, 1) := by decide +kernel
theorem dX1_countCapture_1 : decode cX1_countCapture 1 = .ok (.ifCond .lt 22, 3) := by decide +kernel
theorem dX1_countCapture_4 : decode cX1_countCapture 4 = .ok (.iload_n 1, 1) := by decide +kernel
theorem dX1_countCapture_5 : decode cX1_countCapture 5 = .ok (.aload_n 0, 1) := by decide +kernel
theorem dX1_countCapture_6 : decode cX1_countCapture 6 = .ok (.getfield 16, 3) := by decide +kernel
theorem dX1_countCapture_9 : decode cX1_countCapture 9 = .ok (.arraylength, 1) := by decide +kernel
theorem dX1_countCapture_10 : decode cX1_countCapture 10 = .ok (.if_icmp .ge 13, 3) := by decide +kernel
theorem dX1_countCapture_13 : decode cX1_countCapture 13 = .ok (.aload_n 0, 1) := by decide +kernel
theorem dX1_countCapture_14 : decode cX1_countCapture 14 = .ok (.getfield 16, 3) := by decide +kernel
theorem dX1_countCapture_17 : decode cX1_countCapture 17 = .ok (.iload_n 1, 1) := by decide +kernel
theorem dX1_countCapture_18 : decode cX1_countCapture 18 = .ok (.dup2, 1) := by decide +kernel
theorem dX1_countCapture_19 : decode cX1_countCapture 19 = .ok (.iaload, 1) := by decide +kernel
theorem dX1_countCapture_20 : decode cX1_countCapture 20 = .ok (.iconst 1, 1) := by decide +kernel
theorem dX1_countCapture_21 : decode cX1_countCapture 21 = .ok (.iadd, 1) := by decide +kernel
theorem dX1_countCapture_22 : decode cX1_countCapture 22 = .ok (.iastore, 1) := by decide +kernel
theorem dX1_countCapture_23 : decode cX1_countCapture 23 = .ok (.return_, 1) := by decide +kernel
set_option maxRecDepth 20000 in
theorem ggX1_chanceWithin_X1_waysOf : GoodIn wsX1_chanceWithin wsX1_waysOf := goodIn_r _ [4, 5] (by decide +kernel) (by decide +kernel)
set_option maxRecDepth 20000 in
theorem gX1_chanceWithin_X1_waysOf : GoodIn wsX1_chanceWithin (va_wsS RX1 138 yX1_waysOf wsX1_waysOf) := goodIn_app (goodIn_of _ (by decide +kernel)) ggX1_chanceWithin_X1_waysOf
set_option maxRecDepth 20000 in
theorem ggX1_chanceWithin_X1_chanceAfter : GoodIn wsX1_chanceWithin wsX1_chanceAfter := goodIn_r _ [9, 10, 11, 12, 13, 3, 14, 15, 16, 17, 18, 19, 20, 21, 22, 23, 24, 25, 26, 27, 28, 29, 30, 31, 32, 33, 34, 35, 36, 37, 38, 39, 40, 41, 42, 43, 44, 45, 46, 47, 48, 49, 50, 51, 52, 53, 54, 55, 56, 57, 58, 59, 60, 61, 62, 63, 64, 65, 66, 67, 68, 69, 70, 71, 72, 73, 74, 75, 76, 77, 78, 79, 80, 81, 82, 83, 84, 85, 86, 87, 88, 89, 90, 91, 92, 93, 94, 95, 96, 97, 98, 99, 100, 101, 0, 1, 2, 4, 5, 6, 7, 8, 102, 103, 104, 105, 106, 107, 108, 109] (by decide +kernel) (by decide +kernel)
set_option maxRecDepth 20000 in
theorem gX1_chanceWithin_X1_chanceAfter : GoodIn wsX1_chanceWithin (wsV RX1 169 RX1 yX1_chanceAfter wsX1_chanceAfter) := goodIn_app (goodIn_of _ (by decide +kernel)) ggX1_chanceWithin_X1_chanceAfter
theorem dX1_chanceWithin_0 : decode cX1_chanceWithin 0 = .ok (.iload_n 1, 1) := by decide +kernel
theorem dX1_chanceWithin_1 : decode cX1_chanceWithin 1 = .ok (.ifCond .gt 5, 3) := by decide +kernel
theorem dX1_chanceWithin_4 : decode cX1_chanceWithin 4 = .ok (.iconst 0, 1) := by decide +kernel
theorem dX1_chanceWithin_5 : decode cX1_chanceWithin 5 = .ok (.ireturn, 1) := by decide +kernel
theorem dX1_chanceWithin_6 : decode cX1_chanceWithin 6 = .ok (.iconst 0, 1) := by decide +kernel
theorem dX1_chanceWithin_7 : decode cX1_chanceWithin 7 = .ok (.istore_n 3, 1) := by decide +kernel
theorem dX1_chanceWithin_8 : decode cX1_chanceWithin 8 = .ok (.iconst 0, 1) := by decide +kernel
theorem dX1_chanceWithin_9 : decode cX1_chanceWithin 9 = .ok (.istore 4, 2) := by decide +kernel
theorem dX1_chanceWithin_11 : decode cX1_chanceWithin 11 = .ok (.iload 4, 2) := by decide +kernel
theorem dX1_chanceWithin_13 : decode cX1_chanceWithin 13 = .ok (.bipush 6, 2) := by decide +kernel
theorem dX1_chanceWithin_15 : decode cX1_chanceWithin 15 = .ok (.if_icmp .gt 28, 3) := by decide +kernel
theorem dX1_chanceWithin_18 : decode cX1_chanceWithin 18 = .ok (.iload_n 3, 1) := by decide +kernel
theorem dX1_chanceWithin_19 : decode cX1_chanceWithin 19 = .ok (.iload 4, 2) := by decide +kernel
theorem dX1_chanceWithin_21 : decode cX1_chanceWithin 21 = .ok (.invokestatic 138, 3) := by decide +kernel
theorem dX1_chanceWithin_24 : decode cX1_chanceWithin 24 = .ok (.aload_n 0, 1) := by decide +kernel
theorem dX1_chanceWithin_25 : decode cX1_chanceWithin 25 = .ok (.iload 4, 2) := by decide +kernel
theorem dX1_chanceWithin_27 : decode cX1_chanceWithin 27 = .ok (.iload_n 1, 1) := by decide +kernel
theorem dX1_chanceWithin_28 : decode cX1_chanceWithin 28 = .ok (.iconst 1, 1) := by decide +kernel
theorem dX1_chanceWithin_29 : decode cX1_chanceWithin 29 = .ok (.isub, 1) := by decide +kernel
theorem dX1_chanceWithin_30 : decode cX1_chanceWithin 30 = .ok (.iload_n 2, 1) := by decide +kernel
theorem dX1_chanceWithin_31 : decode cX1_chanceWithin 31 = .ok (.invokevirtual 169, 3) := by decide +kernel
theorem dX1_chanceWithin_34 : decode cX1_chanceWithin 34 = .ok (.imul, 1) := by decide +kernel
theorem dX1_chanceWithin_35 : decode cX1_chanceWithin 35 = .ok (.iadd, 1) := by decide +kernel
theorem dX1_chanceWithin_36 : decode cX1_chanceWithin 36 = .ok (.istore_n 3, 1) := by decide +kernel
theorem dX1_chanceWithin_37 : decode cX1_chanceWithin 37 = .ok (.iinc 4 1, 3) := by decide +kernel
theorem dX1_chanceWithin_40 : decode cX1_chanceWithin 40 = .ok (.goto (-29), 3) := by decide +kernel
theorem dX1_chanceWithin_43 : decode cX1_chanceWithin 43 = .ok (.iload_n 3, 1) := by decide +kernel
theorem dX1_chanceWithin_44 : decode cX1_chanceWithin 44 = .ok (.ireturn, 1) := by decide +kernel
set_option maxRecDepth 20000 in
theorem ggX1_chanceAfter_X1_isGraceTooMany : GoodIn wsX1_chanceAfter wsX1_isGraceTooMany := goodIn_r _ [6, 7, 8, 5, 9] (by decide +kernel) (by decide +kernel)
set_option maxRecDepth 20000 in
theorem gX1_chanceAfter_X1_isGraceTooMany : GoodIn wsX1_chanceAfter (va_wsS RX1 47 yX1_isGraceTooMany wsX1_isGraceTooMany) := goodIn_app (goodIn_of _ (by decide +kernel)) ggX1_chanceAfter_X1_isGraceTooMany
set_option maxRecDepth 20000 in
theorem ggX1_chanceAfter_X0_moverFor : GoodIn wsX1_chanceAfter wsX0_moverFor := goodIn_r _ [14, 15, 16, 17, 13, 18, 19, 20, 21, 22, 23, 24, 5, 25, 108, 109] (by decide +kernel) (by decide +kernel)
set_option maxRecDepth 20000 in
theorem gX1_chanceAfter_X0_moverFor : GoodIn wsX1_chanceAfter (wsV RX1 58 RX0 yX0_moverFor wsX0_moverFor) := goodIn_app (goodIn_of _ (by decide +kernel)) ggX1_chanceAfter_X0_moverFor
set_option maxRecDepth 20000 in
theorem ggX1_chanceAfter_X0_canDo : GoodIn wsX1_chanceAfter wsX0_canDo := goodIn_r _ [29, 30, 31, 32, 13, 33, 19, 20, 21, 22, 23, 8, 5, 9, 34, 35, 36, 37, 38, 39, 40, 41, 42, 43, 44, 45, 46, 47, 48, 49, 50, 51, 52, 53, 54, 55, 56, 57, 58, 59, 60, 61, 62, 63, 64, 108, 109] (by decide +kernel) (by decide +kernel)
set_option maxRecDepth 20000 in
theorem gX1_chanceAfter_X0_canDo : GoodIn wsX1_chanceAfter (wsV RX1 134 RX0 yX0_canDo wsX0_canDo) := goodIn_app (goodIn_of _ (by decide +kernel)) ggX1_chanceAfter_X0_canDo
set_option maxRecDepth 20000 in
theorem ggX1_chanceAfter_X1_certainty : GoodIn wsX1_chanceAfter wsX1_certainty := goodIn_r _ [67] (by decide +kernel) (by decide +kernel)
set_option maxRecDepth 20000 in
theorem gX1_chanceAfter_X1_certainty : GoodIn wsX1_chanceAfter (va_wsS RX1 172 yX1_certainty wsX1_certainty) := goodIn_app (goodIn_of _ (by decide +kernel)) ggX1_chanceAfter_X1_certainty
set_option maxRecDepth 20000 in
theorem ggX1_chanceAfter_X1_isGrace : GoodIn wsX1_chanceAfter wsX1_isGrace := goodIn_r _ [9] (by decide +kernel) (by decide +kernel)
set_option maxRecDepth 20000 in
theorem gX1_chanceAfter_X1_isGrace : GoodIn wsX1_chanceAfter (va_wsS RX1 54 yX1_isGrace wsX1_isGrace) := goodIn_app (goodIn_of _ (by decide +kernel)) ggX1_chanceAfter_X1_isGrace
set_option maxRecDepth 20000 in
theorem ggX1_chanceAfter_X1_chanceAfterGrace : GoodIn wsX1_chanceAfter wsX1_chanceAfterGrace := goodIn_r _ [71, 1, 2, 72, 73, 42, 74, 10, 11, 12, 13, 14, 15, 16, 17, 18, 19, 20, 21, 22, 23, 24, 5, 25, 75, 76, 77, 78, 30, 31, 32, 33, 8, 9, 34, 35, 36, 37, 38, 39, 40, 41, 43, 44, 45, 46, 47, 48, 49, 50, 51, 52, 53, 54, 55, 56, 57, 58, 59, 60, 79, 80, 81, 82, 83, 84, 85, 86, 87, 88, 89, 90, 91, 92, 93, 0, 3, 4, 6, 7, 26, 27, 28, 29, 61, 62, 63, 64, 65, 66, 67, 68, 69, 70, 94, 95, 96, 97, 98, 99, 100, 101, 102, 103, 104, 105, 106, 107, 108, 109] (by decide +kernel) (by decide +kernel)
set_option maxRecDepth 20000 in
theorem gX1_chanceAfter_X1_chanceAfterGrace : GoodIn wsX1_chanceAfter (wsV RX1 175 RX1 yX1_chanceAfterGrace wsX1_chanceAfterGrace) := goodIn_app (goodIn_of _ (by decide +kernel)) ggX1_chanceAfter_X1_chanceAfterGrace
theorem dX1_chanceAfter_0 : decode cX1_chanceAfter 0 = .ok (.iload_n 1, 1) := by decide +kernel
theorem dX1_chanceAfter_1 : decode cX1_chanceAfter 1 = .ok (.iload_n 3, 1) := by decide +kernel
theorem dX1_chanceAfter_2 : decode cX1_chanceAfter 2 = .ok (.invokestatic 47, 3) := by decide +kernel
theorem dX1_chanceAfter_5 : decode cX1_chanceAfter 5 = .ok (.ifCond .eq 5, 3) := by decide +kernel
theorem dX1_chanceAfter_8 : decode cX1_chanceAfter 8 = .ok (.iconst 0, 1) := by decide +kernel
theorem dX1_chanceAfter_9 : decode cX1_chanceAfter 9 = .ok (.ireturn, 1) := by decide +kernel
theorem dX1_chanceAfter_10 : decode cX1_chanceAfter 10 = .ok (.aload_n 0, 1) := by decide +kernel
theorem dX1_chanceAfter_11 : decode cX1_chanceAfter 11 = .ok (.getfield 10, 3) := by decide +kernel
theorem dX1_chanceAfter_14 : decode cX1_chanceAfter 14 = .ok (.iconst 1, 1) := by decide +kernel
theorem dX1_chanceAfter_15 : decode cX1_chanceAfter 15 = .ok (.aload_n 0, 1) := by decide +kernel
theorem dX1_chanceAfter_16 : decode cX1_chanceAfter 16 = .ok (.getfield 10, 3) := by decide +kernel
theorem dX1_chanceAfter_19 : decode cX1_chanceAfter 19 = .ok (.aload_n 0, 1) := by decide +kernel
theorem dX1_chanceAfter_20 : decode cX1_chanceAfter 20 = .ok (.getfield 20, 3) := by decide +kernel
theorem dX1_chanceAfter_23 : decode cX1_chanceAfter 23 = .ok (.invokevirtual 58, 3) := by decide +kernel
theorem dX1_chanceAfter_26 : decode cX1_chanceAfter 26 = .ok (.iload_n 1, 1) := by decide +kernel
theorem dX1_chanceAfter_27 : decode cX1_chanceAfter 27 = .ok (.invokevirtual 134, 3) := by decide +kernel
theorem dX1_chanceAfter_30 : decode cX1_chanceAfter 30 = .ok (.ifCond .eq 8, 3) := by decide +kernel
theorem dX1_chanceAfter_33 : decode cX1_chanceAfter 33 = .ok (.iload_n 2, 1) := by decide +kernel
theorem dX1_chanceAfter_34 : decode cX1_chanceAfter 34 = .ok (.invokestatic 172, 3) := by decide +kernel
theorem dX1_chanceAfter_37 : decode cX1_chanceAfter 37 = .ok (.ireturn, 1) := by decide +kernel
theorem dX1_chanceAfter_38 : decode cX1_chanceAfter 38 = .ok (.iload_n 1, 1) := by decide +kernel
theorem dX1_chanceAfter_39 : decode cX1_chanceAfter 39 = .ok (.invokestatic 54, 3) := by decide +kernel
theorem dX1_chanceAfter_42 : decode cX1_chanceAfter 42 = .ok (.ifCond .eq 7, 3) := by decide +kernel
theorem dX1_chanceAfter_45 : decode cX1_chanceAfter 45 = .ok (.iload_n 2, 1) := by decide +kernel
theorem dX1_chanceAfter_46 : decode cX1_chanceAfter 46 = .ok (.ifCond .gt 5, 3) := by decide +kernel
theorem dX1_chanceAfter_49 : decode cX1_chanceAfter 49 = .ok (.iconst 0, 1) := by decide +kernel
theorem dX1_chanceAfter_50 : decode cX1_chanceAfter 50 = .ok (.ireturn, 1) := by decide +kernel
theorem dX1_chanceAfter_51 : decode cX1_chanceAfter 51 = .ok (.aload_n 0, 1) := by decide +kernel
theorem dX1_chanceAfter_52 : decode cX1_chanceAfter 52 = .ok (.iload_n 1, 1) := by decide +kernel
theorem dX1_chanceAfter_53 : decode cX1_chanceAfter 53 = .ok (.iload_n 2, 1) := by decide +kernel
theorem dX1_chanceAfter_54 : decode cX1_chanceAfter 54 = .ok (.iload_n 3, 1) := by decide +kernel
theorem dX1_chanceAfter_55 : decode cX1_chanceAfter 55 = .ok (.iconst 1, 1) := by decide +kernel
theorem dX1_chanceAfter_56 : decode cX1_chanceAfter 56 = .ok (.iadd, 1) := by decide +kernel
theorem dX1_chanceAfter_57 : decode cX1_chanceAfter 57 = .ok (.invokevirtual 175, 3) := by decide +kernel
theorem dX1_chanceAfter_60 : decode cX1_chanceAfter 60 = .ok (.ireturn, 1) := by decide +kernel
set_option maxRecDepth 20000 in
theorem ggX1_chanceAfterGrace_X0_moverFor : GoodIn wsX1_chanceAfterGrace wsX0_moverFor := goodIn_r _ [11, 12, 13, 14, 10, 15, 16, 17, 18, 19, 20, 21, 22, 23, 108, 109] (by decide +kernel) (by decide +kernel)
set_option maxRecDepth 20000 in
theorem gX1_chanceAfterGrace_X0_moverFor : GoodIn wsX1_chanceAfterGrace (wsV RX1 58 RX0 yX0_moverFor wsX0_moverFor) := goodIn_app (goodIn_of _ (by decide +kernel)) ggX1_chanceAfterGrace_X0_moverFor
set_option maxRecDepth 20000 in
theorem ggX1_chanceAfterGrace_X0_movableSet : GoodIn wsX1_chanceAfterGrace wsX0_movableSet := goodIn_r _ [27, 28, 29, 30, 10, 31, 16, 17, 18, 19, 20, 32, 22, 33, 34, 35, 36, 37, 38, 39, 40, 41, 5, 42, 43, 44, 45, 46, 47, 48, 49, 50, 51, 52, 53, 54, 55, 56, 57, 58, 59, 108, 109] (by decide +kernel) (by decide +kernel)
set_option maxRecDepth 20000 in
theorem gX1_chanceAfterGrace_X0_movableSet : GoodIn wsX1_chanceAfterGrace (wsV RX1 61 RX0 yX0_movableSet wsX0_movableSet) := goodIn_app (goodIn_of _ (by decide +kernel)) ggX1_chanceAfterGrace_X0_movableSet
set_option maxRecDepth 20000 in
theorem ggX1_chanceAfterGrace_X1_chanceWithin : GoodIn wsX1_chanceAfterGrace wsX1_chanceWithin := goodIn_r _ [94, 95, 96, 22, 97, 98, 99, 100, 101, 75, 1, 2, 76, 77, 78, 79, 32, 33, 7, 8, 9, 10, 11, 12, 13, 14, 15, 16, 17, 18, 19, 20, 21, 23, 80, 81, 82, 83, 28, 29, 30, 31, 34, 35, 36, 37, 38, 39, 40, 41, 5, 42, 43, 44, 45, 46, 47, 48, 49, 50, 51, 52, 53, 54, 55, 56, 57, 58, 59, 84, 85, 86, 87, 88, 89, 90, 91, 92, 93, 0, 3, 4, 6, 24, 25, 26, 27, 60, 61, 62, 63, 64, 65, 66, 67, 68, 69, 70, 71, 72, 73, 74, 102, 103, 104, 105, 106, 107, 108, 109] (by decide +kernel) (by decide +kernel)
set_option maxRecDepth 20000 in
theorem gX1_chanceAfterGrace_X1_chanceWithin : GoodIn wsX1_chanceAfterGrace (wsV RX1 148 RX1 yX1_chanceWithin wsX1_chanceWithin) := goodIn_app (goodIn_of _ (by decide +kernel)) ggX1_chanceAfterGrace_X1_chanceWithin
set_option maxRecDepth 20000 in
theorem ggX1_chanceAfterGrace_X0_targetOf : GoodIn wsX1_chanceAfterGrace wsX0_targetOf := goodIn_r _ [31, 16, 17, 18, 10, 19, 20, 32, 22, 33, 34, 35, 36, 37, 38, 39, 40, 41, 5, 42, 43, 44, 45, 46, 47, 48, 49, 50, 51, 52, 53, 54, 55, 56, 57, 58, 59, 108, 109] (by decide +kernel) (by decide +kernel)
set_option maxRecDepth 20000 in
theorem gX1_chanceAfterGrace_X0_targetOf : GoodIn wsX1_chanceAfterGrace (wsV RX1 72 RX0 yX0_targetOf wsX0_targetOf) := goodIn_app (goodIn_of _ (by decide +kernel)) ggX1_chanceAfterGrace_X0_targetOf
set_option maxRecDepth 20000 in
theorem ggX1_chanceAfterGrace_X0_positionOf : GoodIn wsX1_chanceAfterGrace wsX0_positionOf := goodIn_r _ [19, 20, 108, 109] (by decide +kernel) (by decide +kernel)
set_option maxRecDepth 20000 in
theorem gX1_chanceAfterGrace_X0_positionOf : GoodIn wsX1_chanceAfterGrace (wsV RX1 108 RX0 yX0_positionOf wsX0_positionOf) := goodIn_app (goodIn_of _ (by decide +kernel)) ggX1_chanceAfterGrace_X0_positionOf
set_option maxRecDepth 20000 in
theorem ggX1_chanceAfterGrace_X0_place : GoodIn wsX1_chanceAfterGrace wsX0_place := goodIn_r _ [68, 20, 43, 44, 45, 10, 46, 69, 22, 70, 71, 72, 73, 74, 53, 108, 109] (by decide +kernel) (by decide +kernel)
set_option maxRecDepth 20000 in
theorem gX1_chanceAfterGrace_X0_place : GoodIn wsX1_chanceAfterGrace (wsV RX1 97 RX0 yX0_place wsX0_place) := goodIn_app (goodIn_of _ (by decide +kernel)) ggX1_chanceAfterGrace_X0_place
theorem dX1_chanceAfterGrace_0 : decode cX1_chanceAfterGrace 0 = .ok (.aload_n 0, 1) := by decide +kernel
theorem dX1_chanceAfterGrace_1 : decode cX1_chanceAfterGrace 1 = .ok (.getfield 10, 3) := by decide +kernel
theorem dX1_chanceAfterGrace_4 : decode cX1_chanceAfterGrace 4 = .ok (.aload_n 0, 1) := by decide +kernel
theorem dX1_chanceAfterGrace_5 : decode cX1_chanceAfterGrace 5 = .ok (.getfield 20, 3) := by decide +kernel
theorem dX1_chanceAfterGrace_8 : decode cX1_chanceAfterGrace 8 = .ok (.invokevirtual 58, 3) := by decide +kernel
theorem dX1_chanceAfterGrace_11 : decode cX1_chanceAfterGrace 11 = .ok (.istore 4, 2) := by decide +kernel
theorem dX1_chanceAfterGrace_13 : decode cX1_chanceAfterGrace 13 = .ok (.aload_n 0, 1) := by decide +kernel
theorem dX1_chanceAfterGrace_14 : decode cX1_chanceAfterGrace 14 = .ok (.getfield 10, 3) := by decide +kernel
theorem dX1_chanceAfterGrace_17 : decode cX1_chanceAfterGrace 17 = .ok (.iload 4, 2) := by decide +kernel
theorem dX1_chanceAfterGrace_19 : decode cX1_chanceAfterGrace 19 = .ok (.iload_n 1, 1) := by decide +kernel
theorem dX1_chanceAfterGrace_20 : decode cX1_chanceAfterGrace 20 = .ok (.invokevirtual 61, 3) := by decide +kernel
theorem dX1_chanceAfterGrace_23 : decode cX1_chanceAfterGrace 23 = .ok (.ifCond .ne 10, 3) := by decide +kernel
theorem dX1_chanceAfterGrace_26 : decode cX1_chanceAfterGrace 26 = .ok (.aload_n 0, 1) := by decide +kernel
theorem dX1_chanceAfterGrace_27 : decode cX1_chanceAfterGrace 27 = .ok (.iload_n 2, 1) := by decide +kernel
theorem dX1_chanceAfterGrace_28 : decode cX1_chanceAfterGrace 28 = .ok (.iload_n 3, 1) := by decide +kernel
theorem dX1_chanceAfterGrace_29 : decode cX1_chanceAfterGrace 29 = .ok (.invokevirtual 148, 3) := by decide +kernel
theorem dX1_chanceAfterGrace_32 : decode cX1_chanceAfterGrace 32 = .ok (.ireturn, 1) := by decide +kernel
theorem dX1_chanceAfterGrace_33 : decode cX1_chanceAfterGrace 33 = .ok (.iconst 0, 1) := by decide +kernel
theorem dX1_chanceAfterGrace_34 : decode cX1_chanceAfterGrace 34 = .ok (.istore 5, 2) := by decide +kernel
theorem dX1_chanceAfterGrace_36 : decode cX1_chanceAfterGrace 36 = .ok (.iconst 0, 1) := by decide +kernel
theorem dX1_chanceAfterGrace_37 : decode cX1_chanceAfterGrace 37 = .ok (.istore 6, 2) := by decide +kernel
theorem dX1_chanceAfterGrace_39 : decode cX1_chanceAfterGrace 39 = .ok (.iload 6, 2) := by decide +kernel
theorem dX1_chanceAfterGrace_41 : decode cX1_chanceAfterGrace 41 = .ok (.iconst 4, 1) := by decide +kernel
theorem dX1_chanceAfterGrace_42 : decode cX1_chanceAfterGrace 42 = .ok (.if_icmp .ge 81, 3) := by decide +kernel
theorem dX1_chanceAfterGrace_45 : decode cX1_chanceAfterGrace 45 = .ok (.aload_n 0, 1) := by decide +kernel
theorem dX1_chanceAfterGrace_46 : decode cX1_chanceAfterGrace 46 = .ok (.getfield 10, 3) := by decide +kernel
theorem dX1_chanceAfterGrace_49 : decode cX1_chanceAfterGrace 49 = .ok (.iload 4, 2) := by decide +kernel
theorem dX1_chanceAfterGrace_51 : decode cX1_chanceAfterGrace 51 = .ok (.iload 6, 2) := by decide +kernel
theorem dX1_chanceAfterGrace_53 : decode cX1_chanceAfterGrace 53 = .ok (.iload_n 1, 1) := by decide +kernel
theorem dX1_chanceAfterGrace_54 : decode cX1_chanceAfterGrace 54 = .ok (.invokevirtual 72, 3) := by decide +kernel
theorem dX1_chanceAfterGrace_57 : decode cX1_chanceAfterGrace 57 = .ok (.istore 7, 2) := by decide +kernel
theorem dX1_chanceAfterGrace_59 : decode cX1_chanceAfterGrace 59 = .ok (.iload 7, 2) := by decide +kernel
theorem dX1_chanceAfterGrace_61 : decode cX1_chanceAfterGrace 61 = .ok (.iconst (-1), 1) := by decide +kernel
theorem dX1_chanceAfterGrace_62 : decode cX1_chanceAfterGrace 62 = .ok (.if_icmp .eq 55, 3) := by decide +kernel
theorem dX1_chanceAfterGrace_65 : decode cX1_chanceAfterGrace 65 = .ok (.aload_n 0, 1) := by decide +kernel
theorem dX1_chanceAfterGrace_66 : decode cX1_chanceAfterGrace 66 = .ok (.getfield 10, 3) := by decide +kernel
theorem dX1_chanceAfterGrace_69 : decode cX1_chanceAfterGrace 69 = .ok (.iload 4, 2) := by decide +kernel
theorem dX1_chanceAfterGrace_71 : decode cX1_chanceAfterGrace 71 = .ok (.iload 6, 2) := by decide +kernel
theorem dX1_chanceAfterGrace_73 : decode cX1_chanceAfterGrace 73 = .ok (.invokevirtual 108, 3) := by decide +kernel
theorem dX1_chanceAfterGrace_76 : decode cX1_chanceAfterGrace 76 = .ok (.istore 8, 2) := by decide +kernel
theorem dX1_chanceAfterGrace_78 : decode cX1_chanceAfterGrace 78 = .ok (.aload_n 0, 1) := by decide +kernel
theorem dX1_chanceAfterGrace_79 : decode cX1_chanceAfterGrace 79 = .ok (.getfield 10, 3) := by decide +kernel
theorem dX1_chanceAfterGrace_82 : decode cX1_chanceAfterGrace 82 = .ok (.iload 4, 2) := by decide +kernel
theorem dX1_chanceAfterGrace_84 : decode cX1_chanceAfterGrace 84 = .ok (.iload 6, 2) := by decide +kernel
theorem dX1_chanceAfterGrace_86 : decode cX1_chanceAfterGrace 86 = .ok (.iload 7, 2) := by decide +kernel
theorem dX1_chanceAfterGrace_88 : decode cX1_chanceAfterGrace 88 = .ok (.invokevirtual 97, 3) := by decide +kernel
theorem dX1_chanceAfterGrace_91 : decode cX1_chanceAfterGrace 91 = .ok (.iload 5, 2) := by decide +kernel
theorem dX1_chanceAfterGrace_93 : decode cX1_chanceAfterGrace 93 = .ok (.aload_n 0, 1) := by decide +kernel
theorem dX1_chanceAfterGrace_94 : decode cX1_chanceAfterGrace 94 = .ok (.iload_n 2, 1) := by decide +kernel
theorem dX1_chanceAfterGrace_95 : decode cX1_chanceAfterGrace 95 = .ok (.iload_n 3, 1) := by decide +kernel
theorem dX1_chanceAfterGrace_96 : decode cX1_chanceAfterGrace 96 = .ok (.invokevirtual 148, 3) := by decide +kernel
theorem dX1_chanceAfterGrace_99 : decode cX1_chanceAfterGrace 99 = .ok (.invokestatic 178, 3) := by decide +kernel
theorem dX1_chanceAfterGrace_102 : decode cX1_chanceAfterGrace 102 = .ok (.istore 5, 2) := by decide +kernel
theorem dX1_chanceAfterGrace_104 : decode cX1_chanceAfterGrace 104 = .ok (.aload_n 0, 1) := by decide +kernel
theorem dX1_chanceAfterGrace_105 : decode cX1_chanceAfterGrace 105 = .ok (.getfield 10, 3) := by decide +kernel
theorem dX1_chanceAfterGrace_108 : decode cX1_chanceAfterGrace 108 = .ok (.iload 4, 2) := by decide +kernel
theorem dX1_chanceAfterGrace_110 : decode cX1_chanceAfterGrace 110 = .ok (.iload 6, 2) := by decide +kernel
theorem dX1_chanceAfterGrace_112 : decode cX1_chanceAfterGrace 112 = .ok (.iload 8, 2) := by decide +kernel
theorem dX1_chanceAfterGrace_114 : decode cX1_chanceAfterGrace 114 = .ok (.invokevirtual 97, 3) := by decide +kernel
theorem dX1_chanceAfterGrace_117 : decode cX1_chanceAfterGrace 117 = .ok (.iinc 6 1, 3) := by decide +kernel
theorem dX1_chanceAfterGrace_120 : decode cX1_chanceAfterGrace 120 = .ok (.goto (-81), 3) := by decide +kernel
theorem dX1_chanceAfterGrace_123 : decode cX1_chanceAfterGrace 123 = .ok (.iload 5, 2) := by decide +kernel
theorem dX1_chanceAfterGrace_125 : decode cX1_chanceAfterGrace 125 = .ok (.ireturn, 1) := by decide +kernel
theorem dX1_certainty_0 : decode cX1_certainty 0 = .ok (.iconst 1, 1) := by decide +kernel
theorem dX1_certainty_1 : decode cX1_certainty 1 = .ok (.istore_n 1, 1) := by decide +kernel
theorem dX1_certainty_2 : decode cX1_certainty 2 = .ok (.iload_n 0, 1) := by decide +kernel
theorem dX1_certainty_3 : decode cX1_certainty 3 = .ok (.istore_n 2, 1) := by decide +kernel
theorem dX1_certainty_4 : decode cX1_certainty 4 = .ok (.iload_n 2, 1) := by decide +kernel
theorem dX1_certainty_5 : decode cX1_certainty 5 = .ok (.ifCond .le 14, 3) := by decide +kernel
theorem dX1_certainty_8 : decode cX1_certainty 8 = .ok (.iload_n 1, 1) := by decide +kernel
theorem dX1_certainty_9 : decode cX1_certainty 9 = .ok (.bipush 64, 2) := by decide +kernel
theorem dX1_certainty_11 : decode cX1_certainty 11 = .ok (.imul, 1) := by decide +kernel
theorem dX1_certainty_12 : decode cX1_certainty 12 = .ok (.istore_n 1, 1) := by decide +kernel
theorem dX1_certainty_13 : decode cX1_certainty 13 = .ok (.iinc 2 (-1), 3) := by decide +kernel
theorem dX1_certainty_16 : decode cX1_certainty 16 = .ok (.goto (-12), 3) := by decide +kernel
theorem dX1_certainty_19 : decode cX1_certainty 19 = .ok (.iload_n 1, 1) := by decide +kernel
theorem dX1_certainty_20 : decode cX1_certainty 20 = .ok (.ireturn, 1) := by decide +kernel
theorem dX1_teamOf_0 : decode cX1_teamOf 0 = .ok (.iload_n 0, 1) := by decide +kernel
theorem dX1_teamOf_1 : decode cX1_teamOf 1 = .ok (.iconst 2, 1) := by decide +kernel
theorem dX1_teamOf_2 : decode cX1_teamOf 2 = .ok (.irem, 1) := by decide +kernel
theorem dX1_teamOf_3 : decode cX1_teamOf 3 = .ok (.ireturn, 1) := by decide +kernel
theorem dX1_otherTeam_0 : decode cX1_otherTeam 0 = .ok (.iconst 1, 1) := by decide +kernel
theorem dX1_otherTeam_1 : decode cX1_otherTeam 1 = .ok (.iload_n 0, 1) := by decide +kernel
theorem dX1_otherTeam_2 : decode cX1_otherTeam 2 = .ok (.iconst 2, 1) := by decide +kernel
theorem dX1_otherTeam_3 : decode cX1_otherTeam 3 = .ok (.irem, 1) := by decide +kernel
theorem dX1_otherTeam_4 : decode cX1_otherTeam 4 = .ok (.isub, 1) := by decide +kernel
theorem dX1_otherTeam_5 : decode cX1_otherTeam 5 = .ok (.ireturn, 1) := by decide +kernel
theorem dX1_partnerOf_0 : decode cX1_partnerOf 0 = .ok (.iload_n 0, 1) := by decide +kernel
theorem dX1_partnerOf_1 : decode cX1_partnerOf 1 = .ok (.iconst 2, 1) := by decide +kernel
theorem dX1_partnerOf_2 : decode cX1_partnerOf 2 = .ok (.iadd, 1) := by decide +kernel
theorem dX1_partnerOf_3 : decode cX1_partnerOf 3 = .ok (.iconst 4, 1) := by decide +kernel
theorem dX1_partnerOf_4 : decode cX1_partnerOf 4 = .ok (.irem, 1) := by decide +kernel
theorem dX1_partnerOf_5 : decode cX1_partnerOf 5 = .ok (.ireturn, 1) := by decide +kernel
theorem dX1_worthOf_0 : decode cX1_worthOf 0 = .ok (.iload_n 0, 1) := by decide +kernel
theorem dX1_worthOf_1 : decode cX1_worthOf 1 = .ok (.ifCond .ne 6, 3) := by decide +kernel
theorem dX1_worthOf_4 : decode cX1_worthOf 4 = .ok (.bipush 25, 2) := by decide +kernel
theorem dX1_worthOf_6 : decode cX1_worthOf 6 = .ok (.ireturn, 1) := by decide +kernel
theorem dX1_worthOf_7 : decode cX1_worthOf 7 = .ok (.iload_n 0, 1) := by decide +kernel
theorem dX1_worthOf_8 : decode cX1_worthOf 8 = .ok (.iconst 1, 1) := by decide +kernel
theorem dX1_worthOf_9 : decode cX1_worthOf 9 = .ok (.if_icmp .ne 8, 3) := by decide +kernel
theorem dX1_worthOf_12 : decode cX1_worthOf 12 = .ok (.bipush 10, 2) := by decide +kernel
theorem dX1_worthOf_14 : decode cX1_worthOf 14 = .ok (.goto 4, 3) := by decide +kernel
theorem dX1_worthOf_17 : decode cX1_worthOf 17 = .ok (.iload_n 0, 1) := by decide +kernel
theorem dX1_worthOf_18 : decode cX1_worthOf 18 = .ok (.ireturn, 1) := by decide +kernel
theorem dX1_isGrace_0 : decode cX1_isGrace 0 = .ok (.iload_n 0, 1) := by decide +kernel
theorem dX1_isGrace_1 : decode cX1_isGrace 1 = .ok (.iconst 1, 1) := by decide +kernel
theorem dX1_isGrace_2 : decode cX1_isGrace 2 = .ok (.if_icmp .le 9, 3) := by decide +kernel
theorem dX1_isGrace_5 : decode cX1_isGrace 5 = .ok (.iload_n 0, 1) := by decide +kernel
theorem dX1_isGrace_6 : decode cX1_isGrace 6 = .ok (.bipush 6, 2) := by decide +kernel
theorem dX1_isGrace_8 : decode cX1_isGrace 8 = .ok (.if_icmp .ne 7, 3) := by decide +kernel
theorem dX1_isGrace_11 : decode cX1_isGrace 11 = .ok (.iconst 1, 1) := by decide +kernel
theorem dX1_isGrace_12 : decode cX1_isGrace 12 = .ok (.goto 4, 3) := by decide +kernel
theorem dX1_isGrace_15 : decode cX1_isGrace 15 = .ok (.iconst 0, 1) := by decide +kernel
theorem dX1_isGrace_16 : decode cX1_isGrace 16 = .ok (.ireturn, 1) := by decide +kernel
set_option maxRecDepth 20000 in
theorem ggX1_isGraceTooMany_X1_isGrace : GoodIn wsX1_isGraceTooMany wsX1_isGrace := goodIn_r _ [4] (by decide +kernel) (by decide +kernel)
set_option maxRecDepth 20000 in
theorem gX1_isGraceTooMany_X1_isGrace : GoodIn wsX1_isGraceTooMany (va_wsS RX1 54 yX1_isGrace wsX1_isGrace) := goodIn_app (goodIn_of _ (by decide +kernel)) ggX1_isGraceTooMany_X1_isGrace
theorem dX1_isGraceTooMany_0 : decode cX1_isGraceTooMany 0 = .ok (.iload_n 0, 1) := by decide +kernel
theorem dX1_isGraceTooMany_1 : decode cX1_isGraceTooMany 1 = .ok (.invokestatic 54, 3) := by decide +kernel
theorem dX1_isGraceTooMany_4 : decode cX1_isGraceTooMany 4 = .ok (.ifCond .eq 12, 3) := by decide +kernel
theorem dX1_isGraceTooMany_7 : decode cX1_isGraceTooMany 7 = .ok (.iload_n 1, 1) := by decide +kernel
theorem dX1_isGraceTooMany_8 : decode cX1_isGraceTooMany 8 = .ok (.iconst 2, 1) := by decide +kernel
theorem dX1_isGraceTooMany_9 : decode cX1_isGraceTooMany 9 = .ok (.if_icmp .lt 7, 3) := by decide +kernel
theorem dX1_isGraceTooMany_12 : decode cX1_isGraceTooMany 12 = .ok (.iconst 1, 1) := by decide +kernel
theorem dX1_isGraceTooMany_13 : decode cX1_isGraceTooMany 13 = .ok (.goto 4, 3) := by decide +kernel
theorem dX1_isGraceTooMany_16 : decode cX1_isGraceTooMany 16 = .ok (.iconst 0, 1) := by decide +kernel
theorem dX1_isGraceTooMany_17 : decode cX1_isGraceTooMany 17 = .ok (.ireturn, 1) := by decide +kernel
theorem dX1_waysOf_0 : decode cX1_waysOf 0 = .ok (.iload_n 0, 1) := by decide +kernel
theorem dX1_waysOf_1 : decode cX1_waysOf 1 = .ok (.ifCond .lt 19, 3) := by decide +kernel
theorem dX1_waysOf_4 : decode cX1_waysOf 4 = .ok (.iload_n 0, 1) := by decide +kernel
theorem dX1_waysOf_5 : decode cX1_waysOf 5 = .ok (.getstatic 183, 3) := by decide +kernel
theorem dX1_waysOf_8 : decode cX1_waysOf 8 = .ok (.arraylength, 1) := by decide +kernel
theorem dX1_waysOf_9 : decode cX1_waysOf 9 = .ok (.if_icmp .ge 11, 3) := by decide +kernel
theorem dX1_waysOf_12 : decode cX1_waysOf 12 = .ok (.getstatic 183, 3) := by decide +kernel
theorem dX1_waysOf_15 : decode cX1_waysOf 15 = .ok (.iload_n 0, 1) := by decide +kernel
theorem dX1_waysOf_16 : decode cX1_waysOf 16 = .ok (.iaload, 1) := by decide +kernel
theorem dX1_waysOf_17 : decode cX1_waysOf 17 = .ok (.goto 4, 3) := by decide +kernel
theorem dX1_waysOf_20 : decode cX1_waysOf 20 = .ok (.iconst 0, 1) := by decide +kernel
theorem dX1_waysOf_21 : decode cX1_waysOf 21 = .ok (.ireturn, 1) := by decide +kernel
theorem dX1_isSafeSquare_0 : decode cX1_isSafeSquare 0 = .ok (.iload_n 0, 1) := by decide +kernel
theorem dX1_isSafeSquare_1 : decode cX1_isSafeSquare 1 = .ok (.bipush 17, 2) := by decide +kernel
theorem dX1_isSafeSquare_3 : decode cX1_isSafeSquare 3 = .ok (.irem, 1) := by decide +kernel
theorem dX1_isSafeSquare_4 : decode cX1_isSafeSquare 4 = .ok (.istore_n 1, 1) := by decide +kernel
theorem dX1_isSafeSquare_5 : decode cX1_isSafeSquare 5 = .ok (.iload_n 1, 1) := by decide +kernel
theorem dX1_isSafeSquare_6 : decode cX1_isSafeSquare 6 = .ok (.iconst 4, 1) := by decide +kernel
theorem dX1_isSafeSquare_7 : decode cX1_isSafeSquare 7 = .ok (.if_icmp .eq 9, 3) := by decide +kernel
theorem dX1_isSafeSquare_10 : decode cX1_isSafeSquare 10 = .ok (.iload_n 1, 1) := by decide +kernel
theorem dX1_isSafeSquare_11 : decode cX1_isSafeSquare 11 = .ok (.bipush 11, 2) := by decide +kernel
theorem dX1_isSafeSquare_13 : decode cX1_isSafeSquare 13 = .ok (.if_icmp .ne 7, 3) := by decide +kernel
theorem dX1_isSafeSquare_16 : decode cX1_isSafeSquare 16 = .ok (.iconst 1, 1) := by decide +kernel
theorem dX1_isSafeSquare_17 : decode cX1_isSafeSquare 17 = .ok (.goto 4, 3) := by decide +kernel
theorem dX1_isSafeSquare_20 : decode cX1_isSafeSquare 20 = .ok (.iconst 0, 1) := by decide +kernel
theorem dX1_isSafeSquare_21 : decode cX1_isSafeSquare 21 = .ok (.ireturn, 1) := by decide +kernel
theorem dX2_init_0 : decode cX2_init 0 = .ok (.aload_n 0, 1) := by decide +kernel
theorem dX2_init_1 : decode cX2_init 1 = .ok (.invokespecial 1, 3) := by decide +kernel
theorem dX2_init_4 : decode cX2_init 4 = .ok (.aload_n 0, 1) := by decide +kernel
theorem dX2_init_5 : decode cX2_init 5 = .ok (.bipush 16, 2) := by decide +kernel
theorem dX2_init_7 : decode cX2_init 7 = .ok (.newarray .int, 2) := by decide +kernel
theorem dX2_init_9 : decode cX2_init 9 = .ok (.putfield 7, 3) := by decide +kernel
theorem dX2_init_12 : decode cX2_init 12 = .ok (.aload_n 0, 1) := by decide +kernel
theorem dX2_init_13 : decode cX2_init 13 = .ok (.iconst 4, 1) := by decide +kernel
theorem dX2_init_14 : decode cX2_init 14 = .ok (.newarray .int, 2) := by decide +kernel
theorem dX2_init_16 : decode cX2_init 16 = .ok (.putfield 13, 3) := by decide +kernel
theorem dX2_init_19 : decode cX2_init 19 = .ok (.aload_n 0, 1) := by decide +kernel
theorem dX2_init_20 : decode cX2_init 20 = .ok (.bipush 7, 2) := by decide +kernel
theorem dX2_init_22 : decode cX2_init 22 = .ok (.newarray .int, 2) := by decide +kernel
theorem dX2_init_24 : decode cX2_init 24 = .ok (.putfield 16, 3) := by decide +kernel
theorem dX2_init_27 : decode cX2_init 27 = .ok (.aload_n 0, 1) := by decide +kernel
theorem dX2_init_28 : decode cX2_init 28 = .ok (.getfield 16, 3) := by decide +kernel
theorem dX2_init_31 : decode cX2_init 31 = .ok (.iconst 0, 1) := by decide +kernel
theorem dX2_init_32 : decode cX2_init 32 = .ok (.iconst 1, 1) := by decide +kernel
theorem dX2_init_33 : decode cX2_init 33 = .ok (.iastore, 1) := by decide +kernel
theorem dX2_init_34 : decode cX2_init 34 = .ok (.aload_n 0, 1) := by decide +kernel
theorem dX2_init_35 : decode cX2_init 35 = .ok (.getfield 16, 3) := by decide +kernel
theorem dX2_init_38 : decode cX2_init 38 = .ok (.iconst 1, 1) := by decide +kernel
theorem dX2_init_39 : decode cX2_init 39 = .ok (.bipush 6, 2) := by decide +kernel
theorem dX2_init_41 : decode cX2_init 41 = .ok (.iastore, 1) := by decide +kernel
theorem dX2_init_42 : decode cX2_init 42 = .ok (.aload_n 0, 1) := by decide +kernel
theorem dX2_init_43 : decode cX2_init 43 = .ok (.getfield 16, 3) := by decide +kernel
theorem dX2_init_46 : decode cX2_init 46 = .ok (.iconst 2, 1) := by decide +kernel
theorem dX2_init_47 : decode cX2_init 47 = .ok (.bipush 15, 2) := by decide +kernel
theorem dX2_init_49 : decode cX2_init 49 = .ok (.iastore, 1) := by decide +kernel
theorem dX2_init_50 : decode cX2_init 50 = .ok (.aload_n 0, 1) := by decide +kernel
theorem dX2_init_51 : decode cX2_init 51 = .ok (.getfield 16, 3) := by decide +kernel
theorem dX2_init_54 : decode cX2_init 54 = .ok (.iconst 3, 1) := by decide +kernel
theorem dX2_init_55 : decode cX2_init 55 = .ok (.bipush 20, 2) := by decide +kernel
theorem dX2_init_57 : decode cX2_init 57 = .ok (.iastore, 1) := by decide +kernel
theorem dX2_init_58 : decode cX2_init 58 = .ok (.aload_n 0, 1) := by decide +kernel
theorem dX2_init_59 : decode cX2_init 59 = .ok (.getfield 16, 3) := by decide +kernel
theorem dX2_init_62 : decode cX2_init 62 = .ok (.iconst 4, 1) := by decide +kernel
theorem dX2_init_63 : decode cX2_init 63 = .ok (.bipush 15, 2) := by decide +kernel
theorem dX2_init_65 : decode cX2_init 65 = .ok (.iastore, 1) := by decide +kernel
theorem dX2_init_66 : decode cX2_init 66 = .ok (.aload_n 0, 1) := by decide +kernel
theorem dX2_init_67 : decode cX2_init 67 = .ok (.getfield 16, 3) := by decide +kernel
theorem dX2_init_70 : decode cX2_init 70 = .ok (.iconst 5, 1) := by decide +kernel
theorem dX2_init_71 : decode cX2_init 71 = .ok (.bipush 6, 2) := by decide +kernel
theorem dX2_init_73 : decode cX2_init 73 = .ok (.iastore, 1) := by decide +kernel
theorem dX2_init_74 : decode cX2_init 74 = .ok (.aload_n 0, 1) := by decide +kernel
theorem dX2_init_75 : decode cX2_init 75 = .ok (.getfield 16, 3) := by decide +kernel
theorem dX2_init_78 : decode cX2_init 78 = .ok (.bipush 6, 2) := by decide +kernel
theorem dX2_init_80 : decode cX2_init 80 = .ok (.iconst 1, 1) := by decide +kernel
theorem dX2_init_81 : decode cX2_init 81 = .ok (.iastore, 1) := by decide +kernel
theorem dX2_init_82 : decode cX2_init 82 = .ok (.return_, 1) := by decide +kernel
theorem dX2_thrown_0 : decode cX2_thrown 0 = .ok (.aload_n 0, 1) := by decide +kernel
theorem dX2_thrown_1 : decode cX2_thrown 1 = .ok (.getfield 19, 3) := by decide +kernel
theorem dX2_thrown_4 : decode cX2_thrown 4 = .ok (.ireturn, 1) := by decide +kernel
theorem dX2_isIn_0 : decode cX2_isIn 0 = .ok (.iload_n 0, 1) := by decide +kernel
theorem dX2_isIn_1 : decode cX2_isIn 1 = .ok (.iload_n 1, 1) := by decide +kernel
theorem dX2_isIn_2 : decode cX2_isIn 2 = .ok (.if_icmp .lt 12, 3) := by decide +kernel
theorem dX2_isIn_5 : decode cX2_isIn 5 = .ok (.iload_n 0, 1) := by decide +kernel
theorem dX2_isIn_6 : decode cX2_isIn 6 = .ok (.iload_n 2, 1) := by decide +kernel
theorem dX2_isIn_7 : decode cX2_isIn 7 = .ok (.if_icmp .gt 7, 3) := by decide +kernel
theorem dX2_isIn_10 : decode cX2_isIn 10 = .ok (.iconst 1, 1) := by decide +kernel
theorem dX2_isIn_11 : decode cX2_isIn 11 = .ok (.goto 4, 3) := by decide +kernel
theorem dX2_isIn_14 : decode cX2_isIn 14 = .ok (.iconst 0, 1) := by decide +kernel
theorem dX2_isIn_15 : decode cX2_isIn 15 = .ok (.ireturn, 1) := by decide +kernel
theorem dX2_worth_0 : decode cX2_worth 0 = .ok (.iload_n 0, 1) := by decide +kernel
theorem dX2_worth_1 : decode cX2_worth 1 = .ok (.ifCond .ne 8, 3) := by decide +kernel
theorem dX2_worth_4 : decode cX2_worth 4 = .ok (.bipush 25, 2) := by decide +kernel
theorem dX2_worth_6 : decode cX2_worth 6 = .ok (.goto 14, 3) := by decide +kernel
theorem dX2_worth_9 : decode cX2_worth 9 = .ok (.iload_n 0, 1) := by decide +kernel
theorem dX2_worth_10 : decode cX2_worth 10 = .ok (.iconst 1, 1) := by decide +kernel
theorem dX2_worth_11 : decode cX2_worth 11 = .ok (.if_icmp .ne 8, 3) := by decide +kernel
theorem dX2_worth_14 : decode cX2_worth 14 = .ok (.bipush 10, 2) := by decide +kernel
theorem dX2_worth_16 : decode cX2_worth 16 = .ok (.goto 4, 3) := by decide +kernel
theorem dX2_worth_19 : decode cX2_worth 19 = .ok (.iload_n 0, 1) := by decide +kernel
theorem dX2_worth_20 : decode cX2_worth 20 = .ok (.ireturn, 1) := by decide +kernel
theorem dX2_isGrace_0 : decode cX2_isGrace 0 = .ok (.iload_n 0, 1) := by decide +kernel
theorem dX2_isGrace_1 : decode cX2_isGrace 1 = .ok (.iconst 2, 1) := by decide +kernel
theorem dX2_isGrace_2 : decode cX2_isGrace 2 = .ok (.if_icmp .lt 9, 3) := by decide +kernel
theorem dX2_isGrace_5 : decode cX2_isGrace 5 = .ok (.iload_n 0, 1) := by decide +kernel
theorem dX2_isGrace_6 : decode cX2_isGrace 6 = .ok (.bipush 6, 2) := by decide +kernel
theorem dX2_isGrace_8 : decode cX2_isGrace 8 = .ok (.if_icmp .ne 7, 3) := by decide +kernel
theorem dX2_isGrace_11 : decode cX2_isGrace 11 = .ok (.iconst 1, 1) := by decide +kernel
theorem dX2_isGrace_12 : decode cX2_isGrace 12 = .ok (.goto 4, 3) := by decide +kernel
theorem dX2_isGrace_15 : decode cX2_isGrace 15 = .ok (.iconst 0, 1) := by decide +kernel
theorem dX2_isGrace_16 : decode cX2_isGrace 16 = .ok (.ireturn, 1) := by decide +kernel
theorem dX2_squareOf_0 : decode cX2_squareOf 0 = .ok (.bipush 17, 2) := by decide +kernel
theorem dX2_squareOf_2 : decode cX2_squareOf 2 = .ok (.iload_n 0, 1) := by decide +kernel
theorem dX2_squareOf_3 : decode cX2_squareOf 3 = .ok (.imul, 1) := by decide +kernel
theorem dX2_squareOf_4 : decode cX2_squareOf 4 = .ok (.iconst 3, 1) := by decide +kernel
theorem dX2_squareOf_5 : decode cX2_squareOf 5 = .ok (.iadd, 1) := by decide +kernel
theorem dX2_squareOf_6 : decode cX2_squareOf 6 = .ok (.iload_n 1, 1) := by decide +kernel
theorem dX2_squareOf_7 : decode cX2_squareOf 7 = .ok (.iadd, 1) := by decide +kernel
theorem dX2_squareOf_8 : decode cX2_squareOf 8 = .ok (.bipush 68, 2) := by decide +kernel
theorem dX2_squareOf_10 : decode cX2_squareOf 10 = .ok (.irem, 1) := by decide +kernel
theorem dX2_squareOf_11 : decode cX2_squareOf 11 = .ok (.ireturn, 1) := by decide +kernel
theorem dX2_isSafeOne_0 : decode cX2_isSafeOne 0 = .ok (.iload_n 0, 1) := by decide +kernel
theorem dX2_isSafeOne_1 : decode cX2_isSafeOne 1 = .ok (.bipush 17, 2) := by decide +kernel
theorem dX2_isSafeOne_3 : decode cX2_isSafeOne 3 = .ok (.irem, 1) := by decide +kernel
theorem dX2_isSafeOne_4 : decode cX2_isSafeOne 4 = .ok (.iconst 4, 1) := by decide +kernel
theorem dX2_isSafeOne_5 : decode cX2_isSafeOne 5 = .ok (.if_icmp .eq 12, 3) := by decide +kernel
theorem dX2_isSafeOne_8 : decode cX2_isSafeOne 8 = .ok (.iload_n 0, 1) := by decide +kernel
theorem dX2_isSafeOne_9 : decode cX2_isSafeOne 9 = .ok (.bipush 17, 2) := by decide +kernel
theorem dX2_isSafeOne_11 : decode cX2_isSafeOne 11 = .ok (.irem, 1) := by decide +kernel
theorem dX2_isSafeOne_12 : decode cX2_isSafeOne 12 = .ok (.bipush 11, 2) := by decide +kernel
theorem dX2_isSafeOne_14 : decode cX2_isSafeOne 14 = .ok (.if_icmp .ne 7, 3) := by decide +kernel
theorem dX2_isSafeOne_17 : decode cX2_isSafeOne 17 = .ok (.iconst 1, 1) := by decide +kernel
theorem dX2_isSafeOne_18 : decode cX2_isSafeOne 18 = .ok (.goto 4, 3) := by decide +kernel
theorem dX2_isSafeOne_21 : decode cX2_isSafeOne 21 = .ok (.iconst 0, 1) := by decide +kernel
theorem dX2_isSafeOne_22 : decode cX2_isSafeOne 22 = .ok (.ireturn, 1) := by decide +kernel
set_option maxRecDepth 20000 in
theorem ggX2_stand_X2_isIn : GoodIn wsX2_stand wsX2_isIn := goodIn_r _ [5] (by decide +kernel) (by decide +kernel)
set_option maxRecDepth 20000 in
theorem gX2_stand_X2_isIn : GoodIn wsX2_stand (va_wsS RX2 23 yX2_isIn wsX2_isIn) := goodIn_app (goodIn_of _ (by decide +kernel)) ggX2_stand_X2_isIn
set_option maxRecDepth 20000 in
theorem ggX2_stand_X2_squareOf : GoodIn wsX2_stand wsX2_squareOf := goodIn_r _ [8] (by decide +kernel) (by decide +kernel)
set_option maxRecDepth 20000 in
theorem gX2_stand_X2_squareOf : GoodIn wsX2_stand (va_wsS RX2 27 yX2_squareOf wsX2_squareOf) := goodIn_app (goodIn_of _ (by decide +kernel)) ggX2_stand_X2_squareOf
theorem dX2_stand_0 : decode cX2_stand 0 = .ok (.iconst 0, 1) := by decide +kernel
theorem dX2_stand_1 : decode cX2_stand 1 = .ok (.istore_n 3, 1) := by decide +kernel
theorem dX2_stand_2 : decode cX2_stand 2 = .ok (.iconst 0, 1) := by decide +kernel
theorem dX2_stand_3 : decode cX2_stand 3 = .ok (.istore 4, 2) := by decide +kernel
theorem dX2_stand_5 : decode cX2_stand 5 = .ok (.iload 4, 2) := by decide +kernel
theorem dX2_stand_7 : decode cX2_stand 7 = .ok (.bipush 16, 2) := by decide +kernel
theorem dX2_stand_9 : decode cX2_stand 9 = .ok (.if_icmp .ge 73, 3) := by decide +kernel
theorem dX2_stand_12 : decode cX2_stand 12 = .ok (.aload_n 0, 1) := by decide +kernel
theorem dX2_stand_13 : decode cX2_stand 13 = .ok (.getfield 7, 3) := by decide +kernel
theorem dX2_stand_16 : decode cX2_stand 16 = .ok (.iload 4, 2) := by decide +kernel
theorem dX2_stand_18 : decode cX2_stand 18 = .ok (.iaload, 1) := by decide +kernel
theorem dX2_stand_19 : decode cX2_stand 19 = .ok (.iconst 1, 1) := by decide +kernel
theorem dX2_stand_20 : decode cX2_stand 20 = .ok (.bipush 64, 2) := by decide +kernel
theorem dX2_stand_22 : decode cX2_stand 22 = .ok (.invokestatic 23, 3) := by decide +kernel
theorem dX2_stand_25 : decode cX2_stand 25 = .ok (.ifCond .eq 17, 3) := by decide +kernel
theorem dX2_stand_28 : decode cX2_stand 28 = .ok (.iload 4, 2) := by decide +kernel
theorem dX2_stand_30 : decode cX2_stand 30 = .ok (.iconst 4, 1) := by decide +kernel
theorem dX2_stand_31 : decode cX2_stand 31 = .ok (.idiv, 1) := by decide +kernel
theorem dX2_stand_32 : decode cX2_stand 32 = .ok (.iconst 2, 1) := by decide +kernel
theorem dX2_stand_33 : decode cX2_stand 33 = .ok (.irem, 1) := by decide +kernel
theorem dX2_stand_34 : decode cX2_stand 34 = .ok (.iload_n 2, 1) := by decide +kernel
theorem dX2_stand_35 : decode cX2_stand 35 = .ok (.if_icmp .ne 7, 3) := by decide +kernel
theorem dX2_stand_38 : decode cX2_stand 38 = .ok (.iconst 1, 1) := by decide +kernel
theorem dX2_stand_39 : decode cX2_stand 39 = .ok (.goto 4, 3) := by decide +kernel
theorem dX2_stand_42 : decode cX2_stand 42 = .ok (.iconst 0, 1) := by decide +kernel
theorem dX2_stand_43 : decode cX2_stand 43 = .ok (.istore 5, 2) := by decide +kernel
theorem dX2_stand_45 : decode cX2_stand 45 = .ok (.iload_n 3, 1) := by decide +kernel
theorem dX2_stand_46 : decode cX2_stand 46 = .ok (.iload 5, 2) := by decide +kernel
theorem dX2_stand_48 : decode cX2_stand 48 = .ok (.ifCond .eq 25, 3) := by decide +kernel
theorem dX2_stand_51 : decode cX2_stand 51 = .ok (.iload 4, 2) := by decide +kernel
theorem dX2_stand_53 : decode cX2_stand 53 = .ok (.iconst 4, 1) := by decide +kernel
theorem dX2_stand_54 : decode cX2_stand 54 = .ok (.idiv, 1) := by decide +kernel
theorem dX2_stand_55 : decode cX2_stand 55 = .ok (.aload_n 0, 1) := by decide +kernel
theorem dX2_stand_56 : decode cX2_stand 56 = .ok (.getfield 7, 3) := by decide +kernel
theorem dX2_stand_59 : decode cX2_stand 59 = .ok (.iload 4, 2) := by decide +kernel
theorem dX2_stand_61 : decode cX2_stand 61 = .ok (.iaload, 1) := by decide +kernel
theorem dX2_stand_62 : decode cX2_stand 62 = .ok (.invokestatic 27, 3) := by decide +kernel
theorem dX2_stand_65 : decode cX2_stand 65 = .ok (.iload_n 1, 1) := by decide +kernel
theorem dX2_stand_66 : decode cX2_stand 66 = .ok (.if_icmp .ne 7, 3) := by decide +kernel
theorem dX2_stand_69 : decode cX2_stand 69 = .ok (.iconst 1, 1) := by decide +kernel
theorem dX2_stand_70 : decode cX2_stand 70 = .ok (.goto 4, 3) := by decide +kernel
theorem dX2_stand_73 : decode cX2_stand 73 = .ok (.iconst 0, 1) := by decide +kernel
theorem dX2_stand_74 : decode cX2_stand 74 = .ok (.iadd, 1) := by decide +kernel
theorem dX2_stand_75 : decode cX2_stand 75 = .ok (.istore_n 3, 1) := by decide +kernel
theorem dX2_stand_76 : decode cX2_stand 76 = .ok (.iinc 4 1, 3) := by decide +kernel
theorem dX2_stand_79 : decode cX2_stand 79 = .ok (.goto (-74), 3) := by decide +kernel
theorem dX2_stand_82 : decode cX2_stand 82 = .ok (.iload_n 3, 1) := by decide +kernel
theorem dX2_stand_83 : decode cX2_stand 83 = .ok (.ireturn, 1) := by decide +kernel
theorem dX2_homes_0 : decode cX2_homes 0 = .ok (.iconst 0, 1) := by decide +kernel
theorem dX2_homes_1 : decode cX2_homes 1 = .ok (.istore_n 2, 1) := by decide +kernel
theorem dX2_homes_2 : decode cX2_homes 2 = .ok (.iconst 4, 1) := by decide +kernel
theorem dX2_homes_3 : decode cX2_homes 3 = .ok (.iload_n 1, 1) := by decide +kernel
theorem dX2_homes_4 : decode cX2_homes 4 = .ok (.imul, 1) := by decide +kernel
theorem dX2_homes_5 : decode cX2_homes 5 = .ok (.istore_n 3, 1) := by decide +kernel
theorem dX2_homes_6 : decode cX2_homes 6 = .ok (.iload_n 3, 1) := by decide +kernel
theorem dX2_homes_7 : decode cX2_homes 7 = .ok (.iconst 4, 1) := by decide +kernel
theorem dX2_homes_8 : decode cX2_homes 8 = .ok (.iload_n 1, 1) := by decide +kernel
theorem dX2_homes_9 : decode cX2_homes 9 = .ok (.imul, 1) := by decide +kernel
theorem dX2_homes_10 : decode cX2_homes 10 = .ok (.iconst 4, 1) := by decide +kernel
theorem dX2_homes_11 : decode cX2_homes 11 = .ok (.iadd, 1) := by decide +kernel
theorem dX2_homes_12 : decode cX2_homes 12 = .ok (.if_icmp .ge 28, 3) := by decide +kernel
theorem dX2_homes_15 : decode cX2_homes 15 = .ok (.iload_n 2, 1) := by decide +kernel
theorem dX2_homes_16 : decode cX2_homes 16 = .ok (.aload_n 0, 1) := by decide +kernel
theorem dX2_homes_17 : decode cX2_homes 17 = .ok (.getfield 7, 3) := by decide +kernel
theorem dX2_homes_20 : decode cX2_homes 20 = .ok (.iload_n 3, 1) := by decide +kernel
theorem dX2_homes_21 : decode cX2_homes 21 = .ok (.iaload, 1) := by decide +kernel
theorem dX2_homes_22 : decode cX2_homes 22 = .ok (.bipush 72, 2) := by decide +kernel
theorem dX2_homes_24 : decode cX2_homes 24 = .ok (.if_icmp .ne 7, 3) := by decide +kernel
theorem dX2_homes_27 : decode cX2_homes 27 = .ok (.iconst 1, 1) := by decide +kernel
theorem dX2_homes_28 : decode cX2_homes 28 = .ok (.goto 4, 3) := by decide +kernel
theorem dX2_homes_31 : decode cX2_homes 31 = .ok (.iconst 0, 1) := by decide +kernel
theorem dX2_homes_32 : decode cX2_homes 32 = .ok (.iadd, 1) := by decide +kernel
theorem dX2_homes_33 : decode cX2_homes 33 = .ok (.istore_n 2, 1) := by decide +kernel
theorem dX2_homes_34 : decode cX2_homes 34 = .ok (.iinc 3 1, 3) := by decide +kernel
theorem dX2_homes_37 : decode cX2_homes 37 = .ok (.goto (-31), 3) := by decide +kernel
theorem dX2_homes_40 : decode cX2_homes 40 = .ok (.iload_n 2, 1) := by decide +kernel
theorem dX2_homes_41 : decode cX2_homes 41 = .ok (.ireturn, 1) := by decide +kernel
set_option maxRecDepth 20000 in
theorem ggX2_movesFor_X2_homes : GoodIn wsX2_movesFor wsX2_homes := goodIn_r _ [5, 6, 7, 8, 9, 10, 11, 12, 13, 14] (by decide +kernel) (by decide +kernel)
set_option maxRecDepth 20000 in
theorem gX2_movesFor_X2_homes : GoodIn wsX2_movesFor (wsV RX2 31 RX2 yX2_homes wsX2_homes) := goodIn_app (goodIn_of _ (by decide +kernel)) ggX2_movesFor_X2_homes
theorem dX2_movesFor_0 : decode cX2_movesFor 0 = .ok (.aload_n 0, 1) := by decide +kernel
theorem dX2_movesFor_1 : decode cX2_movesFor 1 = .ok (.iload_n 1, 1) := by decide +kernel
theorem dX2_movesFor_2 : decode cX2_movesFor 2 = .ok (.invokevirtual 31, 3) := by decide +kernel
theorem dX2_movesFor_5 : decode cX2_movesFor 5 = .ok (.iconst 4, 1) := by decide +kernel
theorem dX2_movesFor_6 : decode cX2_movesFor 6 = .ok (.if_icmp .ne 11, 3) := by decide +kernel
theorem dX2_movesFor_9 : decode cX2_movesFor 9 = .ok (.iload_n 1, 1) := by decide +kernel
theorem dX2_movesFor_10 : decode cX2_movesFor 10 = .ok (.iconst 2, 1) := by decide +kernel
theorem dX2_movesFor_11 : decode cX2_movesFor 11 = .ok (.iadd, 1) := by decide +kernel
theorem dX2_movesFor_12 : decode cX2_movesFor 12 = .ok (.iconst 4, 1) := by decide +kernel
theorem dX2_movesFor_13 : decode cX2_movesFor 13 = .ok (.irem, 1) := by decide +kernel
theorem dX2_movesFor_14 : decode cX2_movesFor 14 = .ok (.goto 4, 3) := by decide +kernel
theorem dX2_movesFor_17 : decode cX2_movesFor 17 = .ok (.iload_n 1, 1) := by decide +kernel
theorem dX2_movesFor_18 : decode cX2_movesFor 18 = .ok (.ireturn, 1) := by decide +kernel
set_option maxRecDepth 20000 in
theorem ggX2_isWon_X2_homes : GoodIn wsX2_isWon wsX2_homes := goodIn_r _ [5, 6, 7, 8, 9, 10, 11, 12, 13, 14] (by decide +kernel) (by decide +kernel)
set_option maxRecDepth 20000 in
theorem gX2_isWon_X2_homes : GoodIn wsX2_isWon (wsV RX2 31 RX2 yX2_homes wsX2_homes) := goodIn_app (goodIn_of _ (by decide +kernel)) ggX2_isWon_X2_homes
theorem dX2_isWon_0 : decode cX2_isWon 0 = .ok (.aload_n 0, 1) := by decide +kernel
theorem dX2_isWon_1 : decode cX2_isWon 1 = .ok (.iload_n 1, 1) := by decide +kernel
theorem dX2_isWon_2 : decode cX2_isWon 2 = .ok (.invokevirtual 31, 3) := by decide +kernel
theorem dX2_isWon_5 : decode cX2_isWon 5 = .ok (.iconst 4, 1) := by decide +kernel
theorem dX2_isWon_6 : decode cX2_isWon 6 = .ok (.if_icmp .ne 18, 3) := by decide +kernel
theorem dX2_isWon_9 : decode cX2_isWon 9 = .ok (.aload_n 0, 1) := by decide +kernel
theorem dX2_isWon_10 : decode cX2_isWon 10 = .ok (.iload_n 1, 1) := by decide +kernel
theorem dX2_isWon_11 : decode cX2_isWon 11 = .ok (.iconst 2, 1) := by decide +kernel
theorem dX2_isWon_12 : decode cX2_isWon 12 = .ok (.iadd, 1) := by decide +kernel
theorem dX2_isWon_13 : decode cX2_isWon 13 = .ok (.invokevirtual 31, 3) := by decide +kernel
theorem dX2_isWon_16 : decode cX2_isWon 16 = .ok (.iconst 4, 1) := by decide +kernel
theorem dX2_isWon_17 : decode cX2_isWon 17 = .ok (.if_icmp .ne 7, 3) := by decide +kernel
theorem dX2_isWon_20 : decode cX2_isWon 20 = .ok (.iconst 1, 1) := by decide +kernel
theorem dX2_isWon_21 : decode cX2_isWon 21 = .ok (.goto 4, 3) := by decide +kernel
theorem dX2_isWon_24 : decode cX2_isWon 24 = .ok (.iconst 0, 1) := by decide +kernel
theorem dX2_isWon_25 : decode cX2_isWon 25 = .ok (.ireturn, 1) := by decide +kernel
set_option maxRecDepth 20000 in
theorem ggX2_target_X2_isGrace : GoodIn wsX2_target wsX2_isGrace := goodIn_r _ [5] (by decide +kernel) (by decide +kernel)
set_option maxRecDepth 20000 in
theorem gX2_target_X2_isGrace : GoodIn wsX2_target (va_wsS RX2 35 yX2_isGrace wsX2_isGrace) := goodIn_app (goodIn_of _ (by decide +kernel)) ggX2_target_X2_isGrace
set_option maxRecDepth 20000 in
theorem ggX2_target_X2_worth : GoodIn wsX2_target wsX2_worth := goodIn_r _ [8] (by decide +kernel) (by decide +kernel)
set_option maxRecDepth 20000 in
theorem gX2_target_X2_worth : GoodIn wsX2_target (va_wsS RX2 39 yX2_worth wsX2_worth) := goodIn_app (goodIn_of _ (by decide +kernel)) ggX2_target_X2_worth
theorem dX2_target_0 : decode cX2_target 0 = .ok (.aload_n 0, 1) := by decide +kernel
theorem dX2_target_1 : decode cX2_target 1 = .ok (.getfield 7, 3) := by decide +kernel
theorem dX2_target_4 : decode cX2_target 4 = .ok (.iload_n 1, 1) := by decide +kernel
theorem dX2_target_5 : decode cX2_target 5 = .ok (.iaload, 1) := by decide +kernel
theorem dX2_target_6 : decode cX2_target 6 = .ok (.istore_n 3, 1) := by decide +kernel
theorem dX2_target_7 : decode cX2_target 7 = .ok (.iload_n 3, 1) := by decide +kernel
theorem dX2_target_8 : decode cX2_target 8 = .ok (.ifCond .ne 18, 3) := by decide +kernel
theorem dX2_target_11 : decode cX2_target 11 = .ok (.iload_n 2, 1) := by decide +kernel
theorem dX2_target_12 : decode cX2_target 12 = .ok (.invokestatic 35, 3) := by decide +kernel
theorem dX2_target_15 : decode cX2_target 15 = .ok (.ifCond .eq 7, 3) := by decide +kernel
theorem dX2_target_18 : decode cX2_target 18 = .ok (.iconst 1, 1) := by decide +kernel
theorem dX2_target_19 : decode cX2_target 19 = .ok (.goto 34, 3) := by decide +kernel
theorem dX2_target_22 : decode cX2_target 22 = .ok (.iconst 0, 1) := by decide +kernel
theorem dX2_target_23 : decode cX2_target 23 = .ok (.goto 30, 3) := by decide +kernel
theorem dX2_target_26 : decode cX2_target 26 = .ok (.iload_n 3, 1) := by decide +kernel
theorem dX2_target_27 : decode cX2_target 27 = .ok (.iload_n 2, 1) := by decide +kernel
theorem dX2_target_28 : decode cX2_target 28 = .ok (.invokestatic 39, 3) := by decide +kernel
theorem dX2_target_31 : decode cX2_target 31 = .ok (.iadd, 1) := by decide +kernel
theorem dX2_target_32 : decode cX2_target 32 = .ok (.bipush 72, 2) := by decide +kernel
theorem dX2_target_34 : decode cX2_target 34 = .ok (.if_icmp .gt 18, 3) := by decide +kernel
theorem dX2_target_37 : decode cX2_target 37 = .ok (.iload_n 3, 1) := by decide +kernel
theorem dX2_target_38 : decode cX2_target 38 = .ok (.bipush 72, 2) := by decide +kernel
theorem dX2_target_40 : decode cX2_target 40 = .ok (.if_icmp .ge 12, 3) := by decide +kernel
theorem dX2_target_43 : decode cX2_target 43 = .ok (.iload_n 3, 1) := by decide +kernel
theorem dX2_target_44 : decode cX2_target 44 = .ok (.iload_n 2, 1) := by decide +kernel
theorem dX2_target_45 : decode cX2_target 45 = .ok (.invokestatic 39, 3) := by decide +kernel
theorem dX2_target_48 : decode cX2_target 48 = .ok (.iadd, 1) := by decide +kernel
theorem dX2_target_49 : decode cX2_target 49 = .ok (.goto 4, 3) := by decide +kernel
theorem dX2_target_52 : decode cX2_target 52 = .ok (.iconst 0, 1) := by decide +kernel
theorem dX2_target_53 : decode cX2_target 53 = .ok (.ireturn, 1) := by decide +kernel
set_option maxRecDepth 20000 in
theorem ggX2_can_X2_target : GoodIn wsX2_can wsX2_target := goodIn_r _ [6, 1, 7, 8, 5, 9, 10, 11, 12, 26, 27, 28, 29, 30, 31, 32, 33] (by decide +kernel) (by decide +kernel)
set_option maxRecDepth 20000 in
theorem gX2_can_X2_target : GoodIn wsX2_can (wsV RX2 42 RX2 yX2_target wsX2_target) := goodIn_app (goodIn_of _ (by decide +kernel)) ggX2_can_X2_target
set_option maxRecDepth 20000 in
theorem ggX2_can_X2_squareOf : GoodIn wsX2_can wsX2_squareOf := goodIn_r _ [15] (by decide +kernel) (by decide +kernel)
set_option maxRecDepth 20000 in
theorem gX2_can_X2_squareOf : GoodIn wsX2_can (va_wsS RX2 27 yX2_squareOf wsX2_squareOf) := goodIn_app (goodIn_of _ (by decide +kernel)) ggX2_can_X2_squareOf
set_option maxRecDepth 20000 in
theorem ggX2_can_X2_stand : GoodIn wsX2_can wsX2_stand := goodIn_r _ [19, 1, 20, 21, 5, 22, 13, 14, 15, 26, 27, 28, 29, 30, 31, 32, 33] (by decide +kernel) (by decide +kernel)
set_option maxRecDepth 20000 in
theorem gX2_can_X2_stand : GoodIn wsX2_can (wsV RX2 45 RX2 yX2_stand wsX2_stand) := goodIn_app (goodIn_of _ (by decide +kernel)) ggX2_can_X2_stand
set_option maxRecDepth 20000 in
theorem ggX2_can_X2_isSafeOne : GoodIn wsX2_can wsX2_isSafeOne := goodIn_r _ [25] (by decide +kernel) (by decide +kernel)
set_option maxRecDepth 20000 in
theorem gX2_can_X2_isSafeOne : GoodIn wsX2_can (va_wsS RX2 48 yX2_isSafeOne wsX2_isSafeOne) := goodIn_app (goodIn_of _ (by decide +kernel)) ggX2_can_X2_isSafeOne
theorem dX2_can_0 : decode cX2_can 0 = .ok (.aload_n 0, 1) := by decide +kernel
theorem dX2_can_1 : decode cX2_can 1 = .ok (.iload_n 1, 1) := by decide +kernel
theorem dX2_can_2 : decode cX2_can 2 = .ok (.iload_n 2, 1) := by decide +kernel
theorem dX2_can_3 : decode cX2_can 3 = .ok (.invokevirtual 42, 3) := by decide +kernel
theorem dX2_can_6 : decode cX2_can 6 = .ok (.istore_n 3, 1) := by decide +kernel
theorem dX2_can_7 : decode cX2_can 7 = .ok (.iload_n 1, 1) := by decide +kernel
theorem dX2_can_8 : decode cX2_can 8 = .ok (.iconst 4, 1) := by decide +kernel
theorem dX2_can_9 : decode cX2_can 9 = .ok (.idiv, 1) := by decide +kernel
theorem dX2_can_10 : decode cX2_can 10 = .ok (.istore 4, 2) := by decide +kernel
theorem dX2_can_12 : decode cX2_can 12 = .ok (.iconst 1, 1) := by decide +kernel
theorem dX2_can_13 : decode cX2_can 13 = .ok (.iload 4, 2) := by decide +kernel
theorem dX2_can_15 : decode cX2_can 15 = .ok (.iconst 2, 1) := by decide +kernel
theorem dX2_can_16 : decode cX2_can 16 = .ok (.irem, 1) := by decide +kernel
theorem dX2_can_17 : decode cX2_can 17 = .ok (.isub, 1) := by decide +kernel
theorem dX2_can_18 : decode cX2_can 18 = .ok (.istore 5, 2) := by decide +kernel
theorem dX2_can_20 : decode cX2_can 20 = .ok (.iload_n 3, 1) := by decide +kernel
theorem dX2_can_21 : decode cX2_can 21 = .ok (.ifCond .le 7, 3) := by decide +kernel
theorem dX2_can_24 : decode cX2_can 24 = .ok (.iconst 1, 1) := by decide +kernel
theorem dX2_can_25 : decode cX2_can 25 = .ok (.goto 4, 3) := by decide +kernel
theorem dX2_can_28 : decode cX2_can 28 = .ok (.iconst 0, 1) := by decide +kernel
theorem dX2_can_29 : decode cX2_can 29 = .ok (.istore 6, 2) := by decide +kernel
theorem dX2_can_31 : decode cX2_can 31 = .ok (.aload_n 0, 1) := by decide +kernel
theorem dX2_can_32 : decode cX2_can 32 = .ok (.getfield 7, 3) := by decide +kernel
theorem dX2_can_35 : decode cX2_can 35 = .ok (.iload_n 1, 1) := by decide +kernel
theorem dX2_can_36 : decode cX2_can 36 = .ok (.iaload, 1) := by decide +kernel
theorem dX2_can_37 : decode cX2_can 37 = .ok (.iconst 1, 1) := by decide +kernel
theorem dX2_can_38 : decode cX2_can 38 = .ok (.iadd, 1) := by decide +kernel
theorem dX2_can_39 : decode cX2_can 39 = .ok (.istore 7, 2) := by decide +kernel
theorem dX2_can_41 : decode cX2_can 41 = .ok (.iload 7, 2) := by decide +kernel
theorem dX2_can_43 : decode cX2_can 43 = .ok (.iload_n 3, 1) := by decide +kernel
theorem dX2_can_44 : decode cX2_can 44 = .ok (.if_icmp .gt 43, 3) := by decide +kernel
theorem dX2_can_47 : decode cX2_can 47 = .ok (.iload 7, 2) := by decide +kernel
theorem dX2_can_49 : decode cX2_can 49 = .ok (.bipush 64, 2) := by decide +kernel
theorem dX2_can_51 : decode cX2_can 51 = .ok (.if_icmp .gt 36, 3) := by decide +kernel
theorem dX2_can_54 : decode cX2_can 54 = .ok (.iload 6, 2) := by decide +kernel
theorem dX2_can_56 : decode cX2_can 56 = .ok (.aload_n 0, 1) := by decide +kernel
theorem dX2_can_57 : decode cX2_can 57 = .ok (.iload 4, 2) := by decide +kernel
theorem dX2_can_59 : decode cX2_can 59 = .ok (.iload 7, 2) := by decide +kernel
theorem dX2_can_61 : decode cX2_can 61 = .ok (.invokestatic 27, 3) := by decide +kernel
theorem dX2_can_64 : decode cX2_can 64 = .ok (.iload 5, 2) := by decide +kernel
theorem dX2_can_66 : decode cX2_can 66 = .ok (.invokevirtual 45, 3) := by decide +kernel
theorem dX2_can_69 : decode cX2_can 69 = .ok (.iconst 2, 1) := by decide +kernel
theorem dX2_can_70 : decode cX2_can 70 = .ok (.if_icmp .ge 7, 3) := by decide +kernel
theorem dX2_can_73 : decode cX2_can 73 = .ok (.iconst 1, 1) := by decide +kernel
theorem dX2_can_74 : decode cX2_can 74 = .ok (.goto 4, 3) := by decide +kernel
theorem dX2_can_77 : decode cX2_can 77 = .ok (.iconst 0, 1) := by decide +kernel
theorem dX2_can_78 : decode cX2_can 78 = .ok (.iand, 1) := by decide +kernel
theorem dX2_can_79 : decode cX2_can 79 = .ok (.istore 6, 2) := by decide +kernel
theorem dX2_can_81 : decode cX2_can 81 = .ok (.iinc 7 1, 3) := by decide +kernel
theorem dX2_can_84 : decode cX2_can 84 = .ok (.goto (-43), 3) := by decide +kernel
theorem dX2_can_87 : decode cX2_can 87 = .ok (.iload 6, 2) := by decide +kernel
theorem dX2_can_89 : decode cX2_can 89 = .ok (.ifCond .eq 9, 3) := by decide +kernel
theorem dX2_can_92 : decode cX2_can 92 = .ok (.iload_n 3, 1) := by decide +kernel
theorem dX2_can_93 : decode cX2_can 93 = .ok (.bipush 64, 2) := by decide +kernel
theorem dX2_can_95 : decode cX2_can 95 = .ok (.if_icmp .le 14, 3) := by decide +kernel
theorem dX2_can_98 : decode cX2_can 98 = .ok (.iload 6, 2) := by decide +kernel
theorem dX2_can_100 : decode cX2_can 100 = .ok (.ifCond .eq 7, 3) := by decide +kernel
theorem dX2_can_103 : decode cX2_can 103 = .ok (.iconst 1, 1) := by decide +kernel
theorem dX2_can_104 : decode cX2_can 104 = .ok (.goto 4, 3) := by decide +kernel
theorem dX2_can_107 : decode cX2_can 107 = .ok (.iconst 0, 1) := by decide +kernel
theorem dX2_can_108 : decode cX2_can 108 = .ok (.ireturn, 1) := by decide +kernel
theorem dX2_can_109 : decode cX2_can 109 = .ok (.iload 4, 2) := by decide +kernel
theorem dX2_can_111 : decode cX2_can 111 = .ok (.iload_n 3, 1) := by decide +kernel
theorem dX2_can_112 : decode cX2_can 112 = .ok (.invokestatic 27, 3) := by decide +kernel
theorem dX2_can_115 : decode cX2_can 115 = .ok (.istore 7, 2) := by decide +kernel
theorem dX2_can_117 : decode cX2_can 117 = .ok (.aload_n 0, 1) := by decide +kernel
theorem dX2_can_118 : decode cX2_can 118 = .ok (.iload 7, 2) := by decide +kernel
theorem dX2_can_120 : decode cX2_can 120 = .ok (.iload 5, 2) := by decide +kernel
theorem dX2_can_122 : decode cX2_can 122 = .ok (.invokevirtual 45, 3) := by decide +kernel
theorem dX2_can_125 : decode cX2_can 125 = .ok (.ifCond .ne 7, 3) := by decide +kernel
theorem dX2_can_128 : decode cX2_can 128 = .ok (.iconst 1, 1) := by decide +kernel
theorem dX2_can_129 : decode cX2_can 129 = .ok (.goto 16, 3) := by decide +kernel
theorem dX2_can_132 : decode cX2_can 132 = .ok (.iload 7, 2) := by decide +kernel
theorem dX2_can_134 : decode cX2_can 134 = .ok (.invokestatic 48, 3) := by decide +kernel
theorem dX2_can_137 : decode cX2_can 137 = .ok (.ifCond .eq 7, 3) := by decide +kernel
theorem dX2_can_140 : decode cX2_can 140 = .ok (.iconst 0, 1) := by decide +kernel
theorem dX2_can_141 : decode cX2_can 141 = .ok (.goto 4, 3) := by decide +kernel
theorem dX2_can_144 : decode cX2_can 144 = .ok (.iconst 2, 1) := by decide +kernel
theorem dX2_can_145 : decode cX2_can 145 = .ok (.ireturn, 1) := by decide +kernel
set_option maxRecDepth 20000 in
theorem ggX2_movers_X2_can : GoodIn wsX2_movers wsX2_can := goodIn_r _ [5, 6, 7, 8, 9, 4, 10, 11, 12, 13, 14, 15, 16, 17, 18, 19, 20, 21, 22, 23, 24, 25, 26, 27, 28, 29, 30, 31, 32, 33, 34, 35, 36, 37] (by decide +kernel) (by decide +kernel)
set_option maxRecDepth 20000 in
theorem gX2_movers_X2_can : GoodIn wsX2_movers (wsV RX2 51 RX2 yX2_can wsX2_can) := goodIn_app (goodIn_of _ (by decide +kernel)) ggX2_movers_X2_can
theorem dX2_movers_0 : decode cX2_movers 0 = .ok (.iconst 0, 1) := by decide +kernel
theorem dX2_movers_1 : decode cX2_movers 1 = .ok (.istore 4, 2) := by decide +kernel
theorem dX2_movers_3 : decode cX2_movers 3 = .ok (.iconst 0, 1) := by decide +kernel
theorem dX2_movers_4 : decode cX2_movers 4 = .ok (.istore 5, 2) := by decide +kernel
theorem dX2_movers_6 : decode cX2_movers 6 = .ok (.iload 5, 2) := by decide +kernel
theorem dX2_movers_8 : decode cX2_movers 8 = .ok (.iconst 4, 1) := by decide +kernel
theorem dX2_movers_9 : decode cX2_movers 9 = .ok (.if_icmp .ge 37, 3) := by decide +kernel
theorem dX2_movers_12 : decode cX2_movers 12 = .ok (.iload 4, 2) := by decide +kernel
theorem dX2_movers_14 : decode cX2_movers 14 = .ok (.aload_n 0, 1) := by decide +kernel
theorem dX2_movers_15 : decode cX2_movers 15 = .ok (.iconst 4, 1) := by decide +kernel
theorem dX2_movers_16 : decode cX2_movers 16 = .ok (.iload_n 1, 1) := by decide +kernel
theorem dX2_movers_17 : decode cX2_movers 17 = .ok (.imul, 1) := by decide +kernel
theorem dX2_movers_18 : decode cX2_movers 18 = .ok (.iload 5, 2) := by decide +kernel
theorem dX2_movers_20 : decode cX2_movers 20 = .ok (.iadd, 1) := by decide +kernel
theorem dX2_movers_21 : decode cX2_movers 21 = .ok (.iload_n 2, 1) := by decide +kernel
theorem dX2_movers_22 : decode cX2_movers 22 = .ok (.invokevirtual 51, 3) := by decide +kernel
theorem dX2_movers_25 : decode cX2_movers 25 = .ok (.iload_n 3, 1) := by decide +kernel
theorem dX2_movers_26 : decode cX2_movers 26 = .ok (.if_icmp .lt 10, 3) := by decide +kernel
theorem dX2_movers_29 : decode cX2_movers 29 = .ok (.iconst 1, 1) := by decide +kernel
theorem dX2_movers_30 : decode cX2_movers 30 = .ok (.iload 5, 2) := by decide +kernel
theorem dX2_movers_32 : decode cX2_movers 32 = .ok (.ishl, 1) := by decide +kernel
theorem dX2_movers_33 : decode cX2_movers 33 = .ok (.goto 4, 3) := by decide +kernel
theorem dX2_movers_36 : decode cX2_movers 36 = .ok (.iconst 0, 1) := by decide +kernel
theorem dX2_movers_37 : decode cX2_movers 37 = .ok (.ior, 1) := by decide +kernel
theorem dX2_movers_38 : decode cX2_movers 38 = .ok (.istore 4, 2) := by decide +kernel
theorem dX2_movers_40 : decode cX2_movers 40 = .ok (.iinc 5 1, 3) := by decide +kernel
theorem dX2_movers_43 : decode cX2_movers 43 = .ok (.goto (-37), 3) := by decide +kernel
theorem dX2_movers_46 : decode cX2_movers 46 = .ok (.iload 4, 2) := by decide +kernel
theorem dX2_movers_48 : decode cX2_movers 48 = .ok (.ireturn, 1) := by decide +kernel
theorem dX2_next_0 : decode cX2_next 0 = .ok (.aload_n 0, 1) := by decide +kernel
theorem dX2_next_1 : decode cX2_next 1 = .ok (.aload_n 0, 1) := by decide +kernel
theorem dX2_next_2 : decode cX2_next 2 = .ok (.getfield 54, 3) := by decide +kernel
theorem dX2_next_5 : decode cX2_next 5 = .ok (.iconst 1, 1) := by decide +kernel
theorem dX2_next_6 : decode cX2_next 6 = .ok (.iadd, 1) := by decide +kernel
theorem dX2_next_7 : decode cX2_next 7 = .ok (.iconst 4, 1) := by decide +kernel
theorem dX2_next_8 : decode cX2_next 8 = .ok (.irem, 1) := by decide +kernel
theorem dX2_next_9 : decode cX2_next 9 = .ok (.putfield 54, 3) := by decide +kernel
theorem dX2_next_12 : decode cX2_next 12 = .ok (.aload_n 0, 1) := by decide +kernel
theorem dX2_next_13 : decode cX2_next 13 = .ok (.iconst 0, 1) := by decide +kernel
theorem dX2_next_14 : decode cX2_next 14 = .ok (.putfield 57, 3) := by decide +kernel
theorem dX2_next_17 : decode cX2_next 17 = .ok (.return_, 1) := by decide +kernel
set_option maxRecDepth 20000 in
theorem ggX2_throwShells_X2_isIn : GoodIn wsX2_throwShells wsX2_isIn := goodIn_r _ [9] (by decide +kernel) (by decide +kernel)
set_option maxRecDepth 20000 in
theorem gX2_throwShells_X2_isIn : GoodIn wsX2_throwShells (va_wsS RX2 23 yX2_isIn wsX2_isIn) := goodIn_app (goodIn_of _ (by decide +kernel)) ggX2_throwShells_X2_isIn
set_option maxRecDepth 20000 in
theorem ggX2_throwShells_X2_isGrace : GoodIn wsX2_throwShells wsX2_isGrace := goodIn_r _ [12] (by decide +kernel) (by decide +kernel)
set_option maxRecDepth 20000 in
theorem gX2_throwShells_X2_isGrace : GoodIn wsX2_throwShells (va_wsS RX2 35 yX2_isGrace wsX2_isGrace) := goodIn_app (goodIn_of _ (by decide +kernel)) ggX2_throwShells_X2_isGrace
set_option maxRecDepth 20000 in
theorem ggX2_throwShells_X2_next : GoodIn wsX2_throwShells wsX2_next := goodIn_r _ [16, 4, 3, 51, 52, 53, 54, 55, 56, 57, 58] (by decide +kernel) (by decide +kernel)
set_option maxRecDepth 20000 in
theorem gX2_throwShells_X2_next : GoodIn wsX2_throwShells (wsV RX2 63 RX2 yX2_next wsX2_next) := goodIn_app (goodIn_of _ (by decide +kernel)) ggX2_throwShells_X2_next
set_option maxRecDepth 20000 in
theorem ggX2_throwShells_X2_worth : GoodIn wsX2_throwShells wsX2_worth := goodIn_r _ [19] (by decide +kernel) (by decide +kernel)
set_option maxRecDepth 20000 in
theorem gX2_throwShells_X2_worth : GoodIn wsX2_throwShells (va_wsS RX2 39 yX2_worth wsX2_worth) := goodIn_app (goodIn_of _ (by decide +kernel)) ggX2_throwShells_X2_worth
set_option maxRecDepth 20000 in
theorem ggX2_throwShells_X2_movesFor : GoodIn wsX2_throwShells wsX2_movesFor := goodIn_r _ [23, 24, 25, 26, 8, 27, 28, 51, 52, 53, 54, 55, 56, 57, 58] (by decide +kernel) (by decide +kernel)
set_option maxRecDepth 20000 in
theorem gX2_throwShells_X2_movesFor : GoodIn wsX2_throwShells (wsV RX2 66 RX2 yX2_movesFor wsX2_movesFor) := goodIn_app (goodIn_of _ (by decide +kernel)) ggX2_throwShells_X2_movesFor
set_option maxRecDepth 20000 in
theorem ggX2_throwShells_X2_movers : GoodIn wsX2_throwShells wsX2_movers := goodIn_r _ [32, 33, 34, 35, 8, 36, 28, 37, 38, 39, 40, 10, 11, 12, 17, 18, 19, 41, 42, 43, 44, 45, 46, 47, 6, 7, 9, 48, 49, 50, 51, 52, 53, 54, 55, 56, 57, 58] (by decide +kernel) (by decide +kernel)
set_option maxRecDepth 20000 in
theorem gX2_throwShells_X2_movers : GoodIn wsX2_throwShells (wsV RX2 69 RX2 yX2_movers wsX2_movers) := goodIn_app (goodIn_of _ (by decide +kernel)) ggX2_throwShells_X2_movers
theorem dX2_throwShells_0 : decode cX2_throwShells 0 = .ok (.aload_n 0, 1) := by decide +kernel
theorem dX2_throwShells_1 : decode cX2_throwShells 1 = .ok (.iload_n 1, 1) := by decide +kernel
theorem dX2_throwShells_2 : decode cX2_throwShells 2 = .ok (.iconst 0, 1) := by decide +kernel
theorem dX2_throwShells_3 : decode cX2_throwShells 3 = .ok (.bipush 6, 2) := by decide +kernel
theorem dX2_throwShells_5 : decode cX2_throwShells 5 = .ok (.invokestatic 23, 3) := by decide +kernel
theorem dX2_throwShells_8 : decode cX2_throwShells 8 = .ok (.ifCond .ne 7, 3) := by decide +kernel
theorem dX2_throwShells_11 : decode cX2_throwShells 11 = .ok (.iconst 1, 1) := by decide +kernel
theorem dX2_throwShells_12 : decode cX2_throwShells 12 = .ok (.goto 15, 3) := by decide +kernel
theorem dX2_throwShells_15 : decode cX2_throwShells 15 = .ok (.aload_n 0, 1) := by decide +kernel
theorem dX2_throwShells_16 : decode cX2_throwShells 16 = .ok (.getfield 60, 3) := by decide +kernel
theorem dX2_throwShells_19 : decode cX2_throwShells 19 = .ok (.ifCond .eq 7, 3) := by decide +kernel
theorem dX2_throwShells_22 : decode cX2_throwShells 22 = .ok (.iconst 2, 1) := by decide +kernel
theorem dX2_throwShells_23 : decode cX2_throwShells 23 = .ok (.goto 4, 3) := by decide +kernel
theorem dX2_throwShells_26 : decode cX2_throwShells 26 = .ok (.iconst 0, 1) := by decide +kernel
theorem dX2_throwShells_27 : decode cX2_throwShells 27 = .ok (.putfield 19, 3) := by decide +kernel
theorem dX2_throwShells_30 : decode cX2_throwShells 30 = .ok (.aload_n 0, 1) := by decide +kernel
theorem dX2_throwShells_31 : decode cX2_throwShells 31 = .ok (.getfield 19, 3) := by decide +kernel
theorem dX2_throwShells_34 : decode cX2_throwShells 34 = .ok (.ifCond .le 5, 3) := by decide +kernel
theorem dX2_throwShells_37 : decode cX2_throwShells 37 = .ok (.iconst 0, 1) := by decide +kernel
theorem dX2_throwShells_38 : decode cX2_throwShells 38 = .ok (.ireturn, 1) := by decide +kernel
theorem dX2_throwShells_39 : decode cX2_throwShells 39 = .ok (.iload_n 1, 1) := by decide +kernel
theorem dX2_throwShells_40 : decode cX2_throwShells 40 = .ok (.invokestatic 35, 3) := by decide +kernel
theorem dX2_throwShells_43 : decode cX2_throwShells 43 = .ok (.istore_n 2, 1) := by decide +kernel
theorem dX2_throwShells_44 : decode cX2_throwShells 44 = .ok (.iload_n 2, 1) := by decide +kernel
theorem dX2_throwShells_45 : decode cX2_throwShells 45 = .ok (.ifCond .eq 21, 3) := by decide +kernel
theorem dX2_throwShells_48 : decode cX2_throwShells 48 = .ok (.aload_n 0, 1) := by decide +kernel
theorem dX2_throwShells_49 : decode cX2_throwShells 49 = .ok (.getfield 57, 3) := by decide +kernel
theorem dX2_throwShells_52 : decode cX2_throwShells 52 = .ok (.iconst 2, 1) := by decide +kernel
theorem dX2_throwShells_53 : decode cX2_throwShells 53 = .ok (.if_icmp .ne 13, 3) := by decide +kernel
theorem dX2_throwShells_56 : decode cX2_throwShells 56 = .ok (.aload_n 0, 1) := by decide +kernel
theorem dX2_throwShells_57 : decode cX2_throwShells 57 = .ok (.invokevirtual 63, 3) := by decide +kernel
theorem dX2_throwShells_60 : decode cX2_throwShells 60 = .ok (.iload_n 1, 1) := by decide +kernel
theorem dX2_throwShells_61 : decode cX2_throwShells 61 = .ok (.invokestatic 39, 3) := by decide +kernel
theorem dX2_throwShells_64 : decode cX2_throwShells 64 = .ok (.ineg, 1) := by decide +kernel
theorem dX2_throwShells_65 : decode cX2_throwShells 65 = .ok (.ireturn, 1) := by decide +kernel
theorem dX2_throwShells_66 : decode cX2_throwShells 66 = .ok (.aload_n 0, 1) := by decide +kernel
theorem dX2_throwShells_67 : decode cX2_throwShells 67 = .ok (.iload_n 2, 1) := by decide +kernel
theorem dX2_throwShells_68 : decode cX2_throwShells 68 = .ok (.ifCond .eq 12, 3) := by decide +kernel
theorem dX2_throwShells_71 : decode cX2_throwShells 71 = .ok (.aload_n 0, 1) := by decide +kernel
theorem dX2_throwShells_72 : decode cX2_throwShells 72 = .ok (.getfield 57, 3) := by decide +kernel
theorem dX2_throwShells_75 : decode cX2_throwShells 75 = .ok (.iconst 1, 1) := by decide +kernel
theorem dX2_throwShells_76 : decode cX2_throwShells 76 = .ok (.iadd, 1) := by decide +kernel
theorem dX2_throwShells_77 : decode cX2_throwShells 77 = .ok (.goto 4, 3) := by decide +kernel
theorem dX2_throwShells_80 : decode cX2_throwShells 80 = .ok (.iconst 0, 1) := by decide +kernel
theorem dX2_throwShells_81 : decode cX2_throwShells 81 = .ok (.putfield 57, 3) := by decide +kernel
theorem dX2_throwShells_84 : decode cX2_throwShells 84 = .ok (.aload_n 0, 1) := by decide +kernel
theorem dX2_throwShells_85 : decode cX2_throwShells 85 = .ok (.aload_n 0, 1) := by decide +kernel
theorem dX2_throwShells_86 : decode cX2_throwShells 86 = .ok (.aload_n 0, 1) := by decide +kernel
theorem dX2_throwShells_87 : decode cX2_throwShells 87 = .ok (.getfield 54, 3) := by decide +kernel
theorem dX2_throwShells_90 : decode cX2_throwShells 90 = .ok (.invokevirtual 66, 3) := by decide +kernel
theorem dX2_throwShells_93 : decode cX2_throwShells 93 = .ok (.iload_n 1, 1) := by decide +kernel
theorem dX2_throwShells_94 : decode cX2_throwShells 94 = .ok (.iconst 1, 1) := by decide +kernel
theorem dX2_throwShells_95 : decode cX2_throwShells 95 = .ok (.invokevirtual 69, 3) := by decide +kernel
theorem dX2_throwShells_98 : decode cX2_throwShells 98 = .ok (.ifCond .ne 17, 3) := by decide +kernel
theorem dX2_throwShells_101 : decode cX2_throwShells 101 = .ok (.iload_n 2, 1) := by decide +kernel
theorem dX2_throwShells_102 : decode cX2_throwShells 102 = .ok (.ifCond .ne 7, 3) := by decide +kernel
theorem dX2_throwShells_105 : decode cX2_throwShells 105 = .ok (.aload_n 0, 1) := by decide +kernel
theorem dX2_throwShells_106 : decode cX2_throwShells 106 = .ok (.invokevirtual 63, 3) := by decide +kernel
theorem dX2_throwShells_109 : decode cX2_throwShells 109 = .ok (.iload_n 1, 1) := by decide +kernel
theorem dX2_throwShells_110 : decode cX2_throwShells 110 = .ok (.invokestatic 39, 3) := by decide +kernel
theorem dX2_throwShells_113 : decode cX2_throwShells 113 = .ok (.ineg, 1) := by decide +kernel
theorem dX2_throwShells_114 : decode cX2_throwShells 114 = .ok (.ireturn, 1) := by decide +kernel
theorem dX2_throwShells_115 : decode cX2_throwShells 115 = .ok (.aload_n 0, 1) := by decide +kernel
theorem dX2_throwShells_116 : decode cX2_throwShells 116 = .ok (.iload_n 1, 1) := by decide +kernel
theorem dX2_throwShells_117 : decode cX2_throwShells 117 = .ok (.putfield 73, 3) := by decide +kernel
theorem dX2_throwShells_120 : decode cX2_throwShells 120 = .ok (.aload_n 0, 1) := by decide +kernel
theorem dX2_throwShells_121 : decode cX2_throwShells 121 = .ok (.iconst 1, 1) := by decide +kernel
theorem dX2_throwShells_122 : decode cX2_throwShells 122 = .ok (.putfield 60, 3) := by decide +kernel
theorem dX2_throwShells_125 : decode cX2_throwShells 125 = .ok (.iload_n 1, 1) := by decide +kernel
theorem dX2_throwShells_126 : decode cX2_throwShells 126 = .ok (.invokestatic 39, 3) := by decide +kernel
theorem dX2_throwShells_129 : decode cX2_throwShells 129 = .ok (.ireturn, 1) := by decide +kernel
set_option maxRecDepth 20000 in
theorem ggX2_sends_X2_isIn : GoodIn wsX2_sends wsX2_isIn := goodIn_r _ [5] (by decide +kernel) (by decide +kernel)
set_option maxRecDepth 20000 in
theorem gX2_sends_X2_isIn : GoodIn wsX2_sends (va_wsS RX2 23 yX2_isIn wsX2_isIn) := goodIn_app (goodIn_of _ (by decide +kernel)) ggX2_sends_X2_isIn
set_option maxRecDepth 20000 in
theorem ggX2_sends_X2_squareOf : GoodIn wsX2_sends wsX2_squareOf := goodIn_r _ [8] (by decide +kernel) (by decide +kernel)
set_option maxRecDepth 20000 in
theorem gX2_sends_X2_squareOf : GoodIn wsX2_sends (va_wsS RX2 27 yX2_squareOf wsX2_squareOf) := goodIn_app (goodIn_of _ (by decide +kernel)) ggX2_sends_X2_squareOf
theorem dX2_sends_0 : decode cX2_sends 0 = .ok (.iconst 0, 1) := by decide +kernel
theorem dX2_sends_1 : decode cX2_sends 1 = .ok (.istore_n 3, 1) := by decide +kernel
theorem dX2_sends_2 : decode cX2_sends 2 = .ok (.iload_n 3, 1) := by decide +kernel
theorem dX2_sends_3 : decode cX2_sends 3 = .ok (.bipush 16, 2) := by decide +kernel
theorem dX2_sends_5 : decode cX2_sends 5 = .ok (.if_icmp .ge 56, 3) := by decide +kernel
theorem dX2_sends_8 : decode cX2_sends 8 = .ok (.aload_n 0, 1) := by decide +kernel
theorem dX2_sends_9 : decode cX2_sends 9 = .ok (.getfield 7, 3) := by decide +kernel
theorem dX2_sends_12 : decode cX2_sends 12 = .ok (.iload_n 3, 1) := by decide +kernel
theorem dX2_sends_13 : decode cX2_sends 13 = .ok (.iaload, 1) := by decide +kernel
theorem dX2_sends_14 : decode cX2_sends 14 = .ok (.iconst 1, 1) := by decide +kernel
theorem dX2_sends_15 : decode cX2_sends 15 = .ok (.bipush 64, 2) := by decide +kernel
theorem dX2_sends_17 : decode cX2_sends 17 = .ok (.invokestatic 23, 3) := by decide +kernel
theorem dX2_sends_20 : decode cX2_sends 20 = .ok (.ifCond .eq 35, 3) := by decide +kernel
theorem dX2_sends_23 : decode cX2_sends 23 = .ok (.iload_n 3, 1) := by decide +kernel
theorem dX2_sends_24 : decode cX2_sends 24 = .ok (.iconst 4, 1) := by decide +kernel
theorem dX2_sends_25 : decode cX2_sends 25 = .ok (.idiv, 1) := by decide +kernel
theorem dX2_sends_26 : decode cX2_sends 26 = .ok (.iconst 2, 1) := by decide +kernel
theorem dX2_sends_27 : decode cX2_sends 27 = .ok (.irem, 1) := by decide +kernel
theorem dX2_sends_28 : decode cX2_sends 28 = .ok (.iload_n 2, 1) := by decide +kernel
theorem dX2_sends_29 : decode cX2_sends 29 = .ok (.if_icmp .ne 26, 3) := by decide +kernel
theorem dX2_sends_32 : decode cX2_sends 32 = .ok (.iload_n 3, 1) := by decide +kernel
theorem dX2_sends_33 : decode cX2_sends 33 = .ok (.iconst 4, 1) := by decide +kernel
theorem dX2_sends_34 : decode cX2_sends 34 = .ok (.idiv, 1) := by decide +kernel
theorem dX2_sends_35 : decode cX2_sends 35 = .ok (.aload_n 0, 1) := by decide +kernel
theorem dX2_sends_36 : decode cX2_sends 36 = .ok (.getfield 7, 3) := by decide +kernel
theorem dX2_sends_39 : decode cX2_sends 39 = .ok (.iload_n 3, 1) := by decide +kernel
theorem dX2_sends_40 : decode cX2_sends 40 = .ok (.iaload, 1) := by decide +kernel
theorem dX2_sends_41 : decode cX2_sends 41 = .ok (.invokestatic 27, 3) := by decide +kernel
theorem dX2_sends_44 : decode cX2_sends 44 = .ok (.iload_n 1, 1) := by decide +kernel
theorem dX2_sends_45 : decode cX2_sends 45 = .ok (.if_icmp .ne 10, 3) := by decide +kernel
theorem dX2_sends_48 : decode cX2_sends 48 = .ok (.aload_n 0, 1) := by decide +kernel
theorem dX2_sends_49 : decode cX2_sends 49 = .ok (.getfield 7, 3) := by decide +kernel
theorem dX2_sends_52 : decode cX2_sends 52 = .ok (.iload_n 3, 1) := by decide +kernel
theorem dX2_sends_53 : decode cX2_sends 53 = .ok (.iconst 0, 1) := by decide +kernel
theorem dX2_sends_54 : decode cX2_sends 54 = .ok (.iastore, 1) := by decide +kernel
theorem dX2_sends_55 : decode cX2_sends 55 = .ok (.iinc 3 1, 3) := by decide +kernel
theorem dX2_sends_58 : decode cX2_sends 58 = .ok (.goto (-56), 3) := by decide +kernel
theorem dX2_sends_61 : decode cX2_sends 61 = .ok (.return_, 1) := by decide +kernel
set_option maxRecDepth 20000 in
theorem ggX2_move_X2_isIn : GoodIn wsX2_move wsX2_isIn := goodIn_r _ [10] (by decide +kernel) (by decide +kernel)
set_option maxRecDepth 20000 in
theorem gX2_move_X2_isIn : GoodIn wsX2_move (va_wsS RX2 23 yX2_isIn wsX2_isIn) := goodIn_app (goodIn_of _ (by decide +kernel)) ggX2_move_X2_isIn
set_option maxRecDepth 20000 in
theorem ggX2_move_X2_movesFor : GoodIn wsX2_move wsX2_movesFor := goodIn_r _ [14, 15, 16, 17, 9, 18, 6, 56, 57, 58, 59, 60, 61, 62, 63] (by decide +kernel) (by decide +kernel)
set_option maxRecDepth 20000 in
theorem gX2_move_X2_movesFor : GoodIn wsX2_move (wsV RX2 66 RX2 yX2_movesFor wsX2_movesFor) := goodIn_app (goodIn_of _ (by decide +kernel)) ggX2_move_X2_movesFor
set_option maxRecDepth 20000 in
theorem ggX2_move_X2_can : GoodIn wsX2_move wsX2_can := goodIn_r _ [22, 6, 23, 24, 25, 9, 26, 27, 28, 29, 30, 31, 32, 33, 34, 35, 36, 37, 38, 39, 7, 8, 10, 40, 41, 42, 56, 57, 58, 59, 60, 61, 62, 63] (by decide +kernel) (by decide +kernel)
set_option maxRecDepth 20000 in
theorem gX2_move_X2_can : GoodIn wsX2_move (wsV RX2 51 RX2 yX2_can wsX2_can) := goodIn_app (goodIn_of _ (by decide +kernel)) ggX2_move_X2_can
set_option maxRecDepth 20000 in
theorem ggX2_move_X2_target : GoodIn wsX2_move wsX2_target := goodIn_r _ [26, 6, 27, 28, 9, 29, 30, 31, 32, 56, 57, 58, 59, 60, 61, 62, 63] (by decide +kernel) (by decide +kernel)
set_option maxRecDepth 20000 in
theorem gX2_move_X2_target : GoodIn wsX2_move (wsV RX2 42 RX2 yX2_target wsX2_target) := goodIn_app (goodIn_of _ (by decide +kernel)) ggX2_move_X2_target
set_option maxRecDepth 20000 in
theorem ggX2_move_X2_squareOf : GoodIn wsX2_move wsX2_squareOf := goodIn_r _ [35] (by decide +kernel) (by decide +kernel)
set_option maxRecDepth 20000 in
theorem gX2_move_X2_squareOf : GoodIn wsX2_move (va_wsS RX2 27 yX2_squareOf wsX2_squareOf) := goodIn_app (goodIn_of _ (by decide +kernel)) ggX2_move_X2_squareOf
set_option maxRecDepth 20000 in
theorem ggX2_move_X2_sends : GoodIn wsX2_move wsX2_sends := goodIn_r _ [46, 6, 7, 8, 9, 10, 33, 34, 35, 56, 57, 58, 59, 60, 61, 62, 63] (by decide +kernel) (by decide +kernel)
set_option maxRecDepth 20000 in
theorem gX2_move_X2_sends : GoodIn wsX2_move (wsV RX2 76 RX2 yX2_sends wsX2_sends) := goodIn_app (goodIn_of _ (by decide +kernel)) ggX2_move_X2_sends
set_option maxRecDepth 20000 in
theorem ggX2_move_X2_isWon : GoodIn wsX2_move wsX2_isWon := goodIn_r _ [50, 15, 16, 17, 9, 18, 6, 56, 57, 58, 59, 60, 61, 62, 63] (by decide +kernel) (by decide +kernel)
set_option maxRecDepth 20000 in
theorem gX2_move_X2_isWon : GoodIn wsX2_move (wsV RX2 80 RX2 yX2_isWon wsX2_isWon) := goodIn_app (goodIn_of _ (by decide +kernel)) ggX2_move_X2_isWon
set_option maxRecDepth 20000 in
theorem ggX2_move_X2_isGrace : GoodIn wsX2_move wsX2_isGrace := goodIn_r _ [29] (by decide +kernel) (by decide +kernel)
set_option maxRecDepth 20000 in
theorem gX2_move_X2_isGrace : GoodIn wsX2_move (va_wsS RX2 35 yX2_isGrace wsX2_isGrace) := goodIn_app (goodIn_of _ (by decide +kernel)) ggX2_move_X2_isGrace
set_option maxRecDepth 20000 in
theorem ggX2_move_X2_next : GoodIn wsX2_move wsX2_next := goodIn_r _ [54, 3, 55, 56, 57, 58, 59, 60, 61, 62, 63] (by decide +kernel) (by decide +kernel)
set_option maxRecDepth 20000 in
theorem gX2_move_X2_next : GoodIn wsX2_move (wsV RX2 63 RX2 yX2_next wsX2_next) := goodIn_app (goodIn_of _ (by decide +kernel)) ggX2_move_X2_next
theorem dX2_move_0 : decode cX2_move 0 = .ok (.aload_n 0, 1) := by decide +kernel
theorem dX2_move_1 : decode cX2_move 1 = .ok (.iload_n 1, 1) := by decide +kernel
theorem dX2_move_2 : decode cX2_move 2 = .ok (.iconst 0, 1) := by decide +kernel
theorem dX2_move_3 : decode cX2_move 3 = .ok (.iconst 3, 1) := by decide +kernel
theorem dX2_move_4 : decode cX2_move 4 = .ok (.invokestatic 23, 3) := by decide +kernel
theorem dX2_move_7 : decode cX2_move 7 = .ok (.ifCond .ne 7, 3) := by decide +kernel
theorem dX2_move_10 : decode cX2_move 10 = .ok (.iconst 1, 1) := by decide +kernel
theorem dX2_move_11 : decode cX2_move 11 = .ok (.goto 16, 3) := by decide +kernel
theorem dX2_move_14 : decode cX2_move 14 = .ok (.aload_n 0, 1) := by decide +kernel
theorem dX2_move_15 : decode cX2_move 15 = .ok (.getfield 60, 3) := by decide +kernel
theorem dX2_move_18 : decode cX2_move 18 = .ok (.iconst 1, 1) := by decide +kernel
theorem dX2_move_19 : decode cX2_move 19 = .ok (.if_icmp .eq 7, 3) := by decide +kernel
theorem dX2_move_22 : decode cX2_move 22 = .ok (.iconst 2, 1) := by decide +kernel
theorem dX2_move_23 : decode cX2_move 23 = .ok (.goto 4, 3) := by decide +kernel
theorem dX2_move_26 : decode cX2_move 26 = .ok (.iconst 0, 1) := by decide +kernel
theorem dX2_move_27 : decode cX2_move 27 = .ok (.putfield 19, 3) := by decide +kernel
theorem dX2_move_30 : decode cX2_move 30 = .ok (.aload_n 0, 1) := by decide +kernel
theorem dX2_move_31 : decode cX2_move 31 = .ok (.getfield 19, 3) := by decide +kernel
theorem dX2_move_34 : decode cX2_move 34 = .ok (.ifCond .le 5, 3) := by decide +kernel
theorem dX2_move_37 : decode cX2_move 37 = .ok (.iconst 0, 1) := by decide +kernel
theorem dX2_move_38 : decode cX2_move 38 = .ok (.ireturn, 1) := by decide +kernel
theorem dX2_move_39 : decode cX2_move 39 = .ok (.iconst 4, 1) := by decide +kernel
theorem dX2_move_40 : decode cX2_move 40 = .ok (.aload_n 0, 1) := by decide +kernel
theorem dX2_move_41 : decode cX2_move 41 = .ok (.aload_n 0, 1) := by decide +kernel
theorem dX2_move_42 : decode cX2_move 42 = .ok (.getfield 54, 3) := by decide +kernel
theorem dX2_move_45 : decode cX2_move 45 = .ok (.invokevirtual 66, 3) := by decide +kernel
theorem dX2_move_48 : decode cX2_move 48 = .ok (.imul, 1) := by decide +kernel
theorem dX2_move_49 : decode cX2_move 49 = .ok (.iload_n 1, 1) := by decide +kernel
theorem dX2_move_50 : decode cX2_move 50 = .ok (.iadd, 1) := by decide +kernel
theorem dX2_move_51 : decode cX2_move 51 = .ok (.istore_n 2, 1) := by decide +kernel
theorem dX2_move_52 : decode cX2_move 52 = .ok (.aload_n 0, 1) := by decide +kernel
theorem dX2_move_53 : decode cX2_move 53 = .ok (.iload_n 2, 1) := by decide +kernel
theorem dX2_move_54 : decode cX2_move 54 = .ok (.aload_n 0, 1) := by decide +kernel
theorem dX2_move_55 : decode cX2_move 55 = .ok (.getfield 73, 3) := by decide +kernel
theorem dX2_move_58 : decode cX2_move 58 = .ok (.invokevirtual 51, 3) := by decide +kernel
theorem dX2_move_61 : decode cX2_move 61 = .ok (.istore_n 3, 1) := by decide +kernel
theorem dX2_move_62 : decode cX2_move 62 = .ok (.aload_n 0, 1) := by decide +kernel
theorem dX2_move_63 : decode cX2_move 63 = .ok (.iload_n 3, 1) := by decide +kernel
theorem dX2_move_64 : decode cX2_move 64 = .ok (.ifCond .ne 7, 3) := by decide +kernel
theorem dX2_move_67 : decode cX2_move 67 = .ok (.iconst 2, 1) := by decide +kernel
theorem dX2_move_68 : decode cX2_move 68 = .ok (.goto 4, 3) := by decide +kernel
theorem dX2_move_71 : decode cX2_move 71 = .ok (.iconst 0, 1) := by decide +kernel
theorem dX2_move_72 : decode cX2_move 72 = .ok (.putfield 19, 3) := by decide +kernel
theorem dX2_move_75 : decode cX2_move 75 = .ok (.aload_n 0, 1) := by decide +kernel
theorem dX2_move_76 : decode cX2_move 76 = .ok (.getfield 19, 3) := by decide +kernel
theorem dX2_move_79 : decode cX2_move 79 = .ok (.ifCond .le 5, 3) := by decide +kernel
theorem dX2_move_82 : decode cX2_move 82 = .ok (.iconst 0, 1) := by decide +kernel
theorem dX2_move_83 : decode cX2_move 83 = .ok (.ireturn, 1) := by decide +kernel
theorem dX2_move_84 : decode cX2_move 84 = .ok (.aload_n 0, 1) := by decide +kernel
theorem dX2_move_85 : decode cX2_move 85 = .ok (.iload_n 2, 1) := by decide +kernel
theorem dX2_move_86 : decode cX2_move 86 = .ok (.aload_n 0, 1) := by decide +kernel
theorem dX2_move_87 : decode cX2_move 87 = .ok (.getfield 73, 3) := by decide +kernel
theorem dX2_move_90 : decode cX2_move 90 = .ok (.invokevirtual 42, 3) := by decide +kernel
theorem dX2_move_93 : decode cX2_move 93 = .ok (.istore 4, 2) := by decide +kernel
theorem dX2_move_95 : decode cX2_move 95 = .ok (.iload_n 3, 1) := by decide +kernel
theorem dX2_move_96 : decode cX2_move 96 = .ok (.iconst 2, 1) := by decide +kernel
theorem dX2_move_97 : decode cX2_move 97 = .ok (.if_icmp .ne 35, 3) := by decide +kernel
theorem dX2_move_100 : decode cX2_move 100 = .ok (.aload_n 0, 1) := by decide +kernel
theorem dX2_move_101 : decode cX2_move 101 = .ok (.iload_n 2, 1) := by decide +kernel
theorem dX2_move_102 : decode cX2_move 102 = .ok (.iconst 4, 1) := by decide +kernel
theorem dX2_move_103 : decode cX2_move 103 = .ok (.idiv, 1) := by decide +kernel
theorem dX2_move_104 : decode cX2_move 104 = .ok (.iload 4, 2) := by decide +kernel
theorem dX2_move_106 : decode cX2_move 106 = .ok (.invokestatic 27, 3) := by decide +kernel
theorem dX2_move_109 : decode cX2_move 109 = .ok (.iconst 1, 1) := by decide +kernel
theorem dX2_move_110 : decode cX2_move 110 = .ok (.iload_n 2, 1) := by decide +kernel
theorem dX2_move_111 : decode cX2_move 111 = .ok (.iconst 4, 1) := by decide +kernel
theorem dX2_move_112 : decode cX2_move 112 = .ok (.idiv, 1) := by decide +kernel
theorem dX2_move_113 : decode cX2_move 113 = .ok (.iconst 2, 1) := by decide +kernel
theorem dX2_move_114 : decode cX2_move 114 = .ok (.irem, 1) := by decide +kernel
theorem dX2_move_115 : decode cX2_move 115 = .ok (.isub, 1) := by decide +kernel
theorem dX2_move_116 : decode cX2_move 116 = .ok (.invokevirtual 76, 3) := by decide +kernel
theorem dX2_move_119 : decode cX2_move 119 = .ok (.aload_n 0, 1) := by decide +kernel
theorem dX2_move_120 : decode cX2_move 120 = .ok (.getfield 13, 3) := by decide +kernel
theorem dX2_move_123 : decode cX2_move 123 = .ok (.aload_n 0, 1) := by decide +kernel
theorem dX2_move_124 : decode cX2_move 124 = .ok (.getfield 54, 3) := by decide +kernel
theorem dX2_move_127 : decode cX2_move 127 = .ok (.dup2, 1) := by decide +kernel
theorem dX2_move_128 : decode cX2_move 128 = .ok (.iaload, 1) := by decide +kernel
theorem dX2_move_129 : decode cX2_move 129 = .ok (.iconst 1, 1) := by decide +kernel
theorem dX2_move_130 : decode cX2_move 130 = .ok (.iadd, 1) := by decide +kernel
theorem dX2_move_131 : decode cX2_move 131 = .ok (.iastore, 1) := by decide +kernel
theorem dX2_move_132 : decode cX2_move 132 = .ok (.aload_n 0, 1) := by decide +kernel
theorem dX2_move_133 : decode cX2_move 133 = .ok (.getfield 7, 3) := by decide +kernel
theorem dX2_move_136 : decode cX2_move 136 = .ok (.iload_n 2, 1) := by decide +kernel
theorem dX2_move_137 : decode cX2_move 137 = .ok (.iload 4, 2) := by decide +kernel
theorem dX2_move_139 : decode cX2_move 139 = .ok (.iastore, 1) := by decide +kernel
theorem dX2_move_140 : decode cX2_move 140 = .ok (.aload_n 0, 1) := by decide +kernel
theorem dX2_move_141 : decode cX2_move 141 = .ok (.aload_n 0, 1) := by decide +kernel
theorem dX2_move_142 : decode cX2_move 142 = .ok (.aload_n 0, 1) := by decide +kernel
theorem dX2_move_143 : decode cX2_move 143 = .ok (.getfield 54, 3) := by decide +kernel
theorem dX2_move_146 : decode cX2_move 146 = .ok (.iconst 2, 1) := by decide +kernel
theorem dX2_move_147 : decode cX2_move 147 = .ok (.irem, 1) := by decide +kernel
theorem dX2_move_148 : decode cX2_move 148 = .ok (.invokevirtual 80, 3) := by decide +kernel
theorem dX2_move_151 : decode cX2_move 151 = .ok (.ifCond .eq 7, 3) := by decide +kernel
theorem dX2_move_154 : decode cX2_move 154 = .ok (.iconst 2, 1) := by decide +kernel
theorem dX2_move_155 : decode cX2_move 155 = .ok (.goto 4, 3) := by decide +kernel
theorem dX2_move_158 : decode cX2_move 158 = .ok (.iconst 0, 1) := by decide +kernel
theorem dX2_move_159 : decode cX2_move 159 = .ok (.putfield 60, 3) := by decide +kernel
theorem dX2_move_162 : decode cX2_move 162 = .ok (.aload_n 0, 1) := by decide +kernel
theorem dX2_move_163 : decode cX2_move 163 = .ok (.getfield 60, 3) := by decide +kernel
theorem dX2_move_166 : decode cX2_move 166 = .ok (.ifCond .ne 22, 3) := by decide +kernel
theorem dX2_move_169 : decode cX2_move 169 = .ok (.iload_n 3, 1) := by decide +kernel
theorem dX2_move_170 : decode cX2_move 170 = .ok (.iconst 2, 1) := by decide +kernel
theorem dX2_move_171 : decode cX2_move 171 = .ok (.if_icmp .ge 17, 3) := by decide +kernel
theorem dX2_move_174 : decode cX2_move 174 = .ok (.aload_n 0, 1) := by decide +kernel
theorem dX2_move_175 : decode cX2_move 175 = .ok (.getfield 73, 3) := by decide +kernel
theorem dX2_move_178 : decode cX2_move 178 = .ok (.invokestatic 35, 3) := by decide +kernel
theorem dX2_move_181 : decode cX2_move 181 = .ok (.ifCond .ne 7, 3) := by decide +kernel
theorem dX2_move_184 : decode cX2_move 184 = .ok (.aload_n 0, 1) := by decide +kernel
theorem dX2_move_185 : decode cX2_move 185 = .ok (.invokevirtual 63, 3) := by decide +kernel
theorem dX2_move_188 : decode cX2_move 188 = .ok (.iload_n 3, 1) := by decide +kernel
theorem dX2_move_189 : decode cX2_move 189 = .ok (.iconst 2, 1) := by decide +kernel
theorem dX2_move_190 : decode cX2_move 190 = .ok (.if_icmp .ne 11, 3) := by decide +kernel
theorem dX2_move_193 : decode cX2_move 193 = .ok (.iload 4, 2) := by decide +kernel
theorem dX2_move_195 : decode cX2_move 195 = .ok (.bipush 100, 2) := by decide +kernel
theorem dX2_move_197 : decode cX2_move 197 = .ok (.iadd, 1) := by decide +kernel
theorem dX2_move_198 : decode cX2_move 198 = .ok (.goto 5, 3) := by decide +kernel
theorem dX2_move_201 : decode cX2_move 201 = .ok (.iload 4, 2) := by decide +kernel
theorem dX2_move_203 : decode cX2_move 203 = .ok (.ireturn, 1) := by decide +kernel
theorem dX2_phase_0 : decode cX2_phase 0 = .ok (.aload_n 0, 1) := by decide +kernel
theorem dX2_phase_1 : decode cX2_phase 1 = .ok (.iconst 0, 1) := by decide +kernel
theorem dX2_phase_2 : decode cX2_phase 2 = .ok (.putfield 19, 3) := by decide +kernel
theorem dX2_phase_5 : decode cX2_phase 5 = .ok (.aload_n 0, 1) := by decide +kernel
theorem dX2_phase_6 : decode cX2_phase 6 = .ok (.getfield 60, 3) := by decide +kernel
theorem dX2_phase_9 : decode cX2_phase 9 = .ok (.ireturn, 1) := by decide +kernel
theorem dX2_onTurn_0 : decode cX2_onTurn 0 = .ok (.aload_n 0, 1) := by decide +kernel
theorem dX2_onTurn_1 : decode cX2_onTurn 1 = .ok (.iconst 0, 1) := by decide +kernel
theorem dX2_onTurn_2 : decode cX2_onTurn 2 = .ok (.putfield 19, 3) := by decide +kernel
theorem dX2_onTurn_5 : decode cX2_onTurn 5 = .ok (.aload_n 0, 1) := by decide +kernel
theorem dX2_onTurn_6 : decode cX2_onTurn 6 = .ok (.getfield 54, 3) := by decide +kernel
theorem dX2_onTurn_9 : decode cX2_onTurn 9 = .ok (.ireturn, 1) := by decide +kernel
set_option maxRecDepth 20000 in
theorem ggX2_mover_X2_movesFor : GoodIn wsX2_mover wsX2_movesFor := goodIn_r _ [7, 8, 9, 10, 6, 11, 12, 13, 14, 15, 16, 17, 18, 19, 20] (by decide +kernel) (by decide +kernel)
set_option maxRecDepth 20000 in
theorem gX2_mover_X2_movesFor : GoodIn wsX2_mover (wsV RX2 66 RX2 yX2_movesFor wsX2_movesFor) := goodIn_app (goodIn_of _ (by decide +kernel)) ggX2_mover_X2_movesFor
theorem dX2_mover_0 : decode cX2_mover 0 = .ok (.aload_n 0, 1) := by decide +kernel
theorem dX2_mover_1 : decode cX2_mover 1 = .ok (.iconst 0, 1) := by decide +kernel
theorem dX2_mover_2 : decode cX2_mover 2 = .ok (.putfield 19, 3) := by decide +kernel
theorem dX2_mover_5 : decode cX2_mover 5 = .ok (.aload_n 0, 1) := by decide +kernel
theorem dX2_mover_6 : decode cX2_mover 6 = .ok (.aload_n 0, 1) := by decide +kernel
theorem dX2_mover_7 : decode cX2_mover 7 = .ok (.getfield 54, 3) := by decide +kernel
theorem dX2_mover_10 : decode cX2_mover 10 = .ok (.invokevirtual 66, 3) := by decide +kernel
theorem dX2_mover_13 : decode cX2_mover 13 = .ok (.ireturn, 1) := by decide +kernel
set_option maxRecDepth 20000 in
theorem ggX2_movable_X2_movesFor : GoodIn wsX2_movable wsX2_movesFor := goodIn_r _ [9, 10, 11, 12, 8, 13, 14, 46, 47, 48, 49, 50, 51, 52, 53] (by decide +kernel) (by decide +kernel)
set_option maxRecDepth 20000 in
theorem gX2_movable_X2_movesFor : GoodIn wsX2_movable (wsV RX2 66 RX2 yX2_movesFor wsX2_movesFor) := goodIn_app (goodIn_of _ (by decide +kernel)) ggX2_movable_X2_movesFor
set_option maxRecDepth 20000 in
theorem ggX2_movable_X2_movers : GoodIn wsX2_movable wsX2_movers := goodIn_r _ [18, 19, 20, 21, 8, 22, 14, 23, 24, 25, 26, 27, 28, 29, 30, 31, 32, 33, 34, 35, 36, 37, 38, 39, 40, 41, 42, 43, 44, 45, 46, 47, 48, 49, 50, 51, 52, 53] (by decide +kernel) (by decide +kernel)
set_option maxRecDepth 20000 in
theorem gX2_movable_X2_movers : GoodIn wsX2_movable (wsV RX2 69 RX2 yX2_movers wsX2_movers) := goodIn_app (goodIn_of _ (by decide +kernel)) ggX2_movable_X2_movers
theorem dX2_movable_0 : decode cX2_movable 0 = .ok (.aload_n 0, 1) := by decide +kernel
theorem dX2_movable_1 : decode cX2_movable 1 = .ok (.aload_n 0, 1) := by decide +kernel
theorem dX2_movable_2 : decode cX2_movable 2 = .ok (.getfield 60, 3) := by decide +kernel
theorem dX2_movable_5 : decode cX2_movable 5 = .ok (.iconst 1, 1) := by decide +kernel
theorem dX2_movable_6 : decode cX2_movable 6 = .ok (.if_icmp .ne 7, 3) := by decide +kernel
theorem dX2_movable_9 : decode cX2_movable 9 = .ok (.iconst 0, 1) := by decide +kernel
theorem dX2_movable_10 : decode cX2_movable 10 = .ok (.goto 4, 3) := by decide +kernel
theorem dX2_movable_13 : decode cX2_movable 13 = .ok (.iconst 1, 1) := by decide +kernel
theorem dX2_movable_14 : decode cX2_movable 14 = .ok (.putfield 19, 3) := by decide +kernel
theorem dX2_movable_17 : decode cX2_movable 17 = .ok (.aload_n 0, 1) := by decide +kernel
theorem dX2_movable_18 : decode cX2_movable 18 = .ok (.getfield 19, 3) := by decide +kernel
theorem dX2_movable_21 : decode cX2_movable 21 = .ok (.ifCond .le 7, 3) := by decide +kernel
theorem dX2_movable_24 : decode cX2_movable 24 = .ok (.iconst 0, 1) := by decide +kernel
theorem dX2_movable_25 : decode cX2_movable 25 = .ok (.goto 20, 3) := by decide +kernel
theorem dX2_movable_28 : decode cX2_movable 28 = .ok (.aload_n 0, 1) := by decide +kernel
theorem dX2_movable_29 : decode cX2_movable 29 = .ok (.aload_n 0, 1) := by decide +kernel
theorem dX2_movable_30 : decode cX2_movable 30 = .ok (.aload_n 0, 1) := by decide +kernel
theorem dX2_movable_31 : decode cX2_movable 31 = .ok (.getfield 54, 3) := by decide +kernel
theorem dX2_movable_34 : decode cX2_movable 34 = .ok (.invokevirtual 66, 3) := by decide +kernel
theorem dX2_movable_37 : decode cX2_movable 37 = .ok (.aload_n 0, 1) := by decide +kernel
theorem dX2_movable_38 : decode cX2_movable 38 = .ok (.getfield 73, 3) := by decide +kernel
theorem dX2_movable_41 : decode cX2_movable 41 = .ok (.iconst 1, 1) := by decide +kernel
theorem dX2_movable_42 : decode cX2_movable 42 = .ok (.invokevirtual 69, 3) := by decide +kernel
theorem dX2_movable_45 : decode cX2_movable 45 = .ok (.ireturn, 1) := by decide +kernel
theorem dX2_graces_0 : decode cX2_graces 0 = .ok (.aload_n 0, 1) := by decide +kernel
theorem dX2_graces_1 : decode cX2_graces 1 = .ok (.iconst 0, 1) := by decide +kernel
theorem dX2_graces_2 : decode cX2_graces 2 = .ok (.putfield 19, 3) := by decide +kernel
theorem dX2_graces_5 : decode cX2_graces 5 = .ok (.aload_n 0, 1) := by decide +kernel
theorem dX2_graces_6 : decode cX2_graces 6 = .ok (.getfield 57, 3) := by decide +kernel
theorem dX2_graces_9 : decode cX2_graces 9 = .ok (.ireturn, 1) := by decide +kernel
set_option maxRecDepth 20000 in
theorem ggX2_position_X2_isIn : GoodIn wsX2_position wsX2_isIn := goodIn_r _ [6] (by decide +kernel) (by decide +kernel)
set_option maxRecDepth 20000 in
theorem gX2_position_X2_isIn : GoodIn wsX2_position (va_wsS RX2 23 yX2_isIn wsX2_isIn) := goodIn_app (goodIn_of _ (by decide +kernel)) ggX2_position_X2_isIn
theorem dX2_position_0 : decode cX2_position 0 = .ok (.aload_n 0, 1) := by decide +kernel
theorem dX2_position_1 : decode cX2_position 1 = .ok (.iload_n 1, 1) := by decide +kernel
theorem dX2_position_2 : decode cX2_position 2 = .ok (.iconst 0, 1) := by decide +kernel
theorem dX2_position_3 : decode cX2_position 3 = .ok (.iconst 3, 1) := by decide +kernel
theorem dX2_position_4 : decode cX2_position 4 = .ok (.invokestatic 23, 3) := by decide +kernel
theorem dX2_position_7 : decode cX2_position 7 = .ok (.ifCond .eq 16, 3) := by decide +kernel
theorem dX2_position_10 : decode cX2_position 10 = .ok (.iload_n 2, 1) := by decide +kernel
theorem dX2_position_11 : decode cX2_position 11 = .ok (.iconst 0, 1) := by decide +kernel
theorem dX2_position_12 : decode cX2_position 12 = .ok (.iconst 3, 1) := by decide +kernel
theorem dX2_position_13 : decode cX2_position 13 = .ok (.invokestatic 23, 3) := by decide +kernel
theorem dX2_position_16 : decode cX2_position 16 = .ok (.ifCond .eq 7, 3) := by decide +kernel
theorem dX2_position_19 : decode cX2_position 19 = .ok (.iconst 0, 1) := by decide +kernel
theorem dX2_position_20 : decode cX2_position 20 = .ok (.goto 4, 3) := by decide +kernel
theorem dX2_position_23 : decode cX2_position 23 = .ok (.iconst 1, 1) := by decide +kernel
theorem dX2_position_24 : decode cX2_position 24 = .ok (.putfield 19, 3) := by decide +kernel
theorem dX2_position_27 : decode cX2_position 27 = .ok (.aload_n 0, 1) := by decide +kernel
theorem dX2_position_28 : decode cX2_position 28 = .ok (.getfield 19, 3) := by decide +kernel
theorem dX2_position_31 : decode cX2_position 31 = .ok (.ifCond .le 7, 3) := by decide +kernel
theorem dX2_position_34 : decode cX2_position 34 = .ok (.iconst 0, 1) := by decide +kernel
theorem dX2_position_35 : decode cX2_position 35 = .ok (.goto 13, 3) := by decide +kernel
theorem dX2_position_38 : decode cX2_position 38 = .ok (.aload_n 0, 1) := by decide +kernel
theorem dX2_position_39 : decode cX2_position 39 = .ok (.getfield 7, 3) := by decide +kernel
theorem dX2_position_42 : decode cX2_position 42 = .ok (.iconst 4, 1) := by decide +kernel
theorem dX2_position_43 : decode cX2_position 43 = .ok (.iload_n 1, 1) := by decide +kernel
theorem dX2_position_44 : decode cX2_position 44 = .ok (.imul, 1) := by decide +kernel
theorem dX2_position_45 : decode cX2_position 45 = .ok (.iload_n 2, 1) := by decide +kernel
theorem dX2_position_46 : decode cX2_position 46 = .ok (.iadd, 1) := by decide +kernel
theorem dX2_position_47 : decode cX2_position 47 = .ok (.iaload, 1) := by decide +kernel
theorem dX2_position_48 : decode cX2_position 48 = .ok (.ireturn, 1) := by decide +kernel
set_option maxRecDepth 20000 in
theorem ggX2_square_X2_isIn : GoodIn wsX2_square wsX2_isIn := goodIn_r _ [6] (by decide +kernel) (by decide +kernel)
set_option maxRecDepth 20000 in
theorem gX2_square_X2_isIn : GoodIn wsX2_square (va_wsS RX2 23 yX2_isIn wsX2_isIn) := goodIn_app (goodIn_of _ (by decide +kernel)) ggX2_square_X2_isIn
set_option maxRecDepth 20000 in
theorem ggX2_square_X2_squareOf : GoodIn wsX2_square wsX2_squareOf := goodIn_r _ [9] (by decide +kernel) (by decide +kernel)
set_option maxRecDepth 20000 in
theorem gX2_square_X2_squareOf : GoodIn wsX2_square (va_wsS RX2 27 yX2_squareOf wsX2_squareOf) := goodIn_app (goodIn_of _ (by decide +kernel)) ggX2_square_X2_squareOf
theorem dX2_square_0 : decode cX2_square 0 = .ok (.aload_n 0, 1) := by decide +kernel
theorem dX2_square_1 : decode cX2_square 1 = .ok (.iload_n 1, 1) := by decide +kernel
theorem dX2_square_2 : decode cX2_square 2 = .ok (.iconst 0, 1) := by decide +kernel
theorem dX2_square_3 : decode cX2_square 3 = .ok (.iconst 3, 1) := by decide +kernel
theorem dX2_square_4 : decode cX2_square 4 = .ok (.invokestatic 23, 3) := by decide +kernel
theorem dX2_square_7 : decode cX2_square 7 = .ok (.ifCond .eq 16, 3) := by decide +kernel
theorem dX2_square_10 : decode cX2_square 10 = .ok (.iload_n 2, 1) := by decide +kernel
theorem dX2_square_11 : decode cX2_square 11 = .ok (.iconst 0, 1) := by decide +kernel
theorem dX2_square_12 : decode cX2_square 12 = .ok (.iconst 3, 1) := by decide +kernel
theorem dX2_square_13 : decode cX2_square 13 = .ok (.invokestatic 23, 3) := by decide +kernel
theorem dX2_square_16 : decode cX2_square 16 = .ok (.ifCond .eq 7, 3) := by decide +kernel
theorem dX2_square_19 : decode cX2_square 19 = .ok (.iconst 0, 1) := by decide +kernel
theorem dX2_square_20 : decode cX2_square 20 = .ok (.goto 4, 3) := by decide +kernel
theorem dX2_square_23 : decode cX2_square 23 = .ok (.iconst 1, 1) := by decide +kernel
theorem dX2_square_24 : decode cX2_square 24 = .ok (.putfield 19, 3) := by decide +kernel
theorem dX2_square_27 : decode cX2_square 27 = .ok (.aload_n 0, 1) := by decide +kernel
theorem dX2_square_28 : decode cX2_square 28 = .ok (.getfield 19, 3) := by decide +kernel
theorem dX2_square_31 : decode cX2_square 31 = .ok (.ifCond .le 5, 3) := by decide +kernel
theorem dX2_square_34 : decode cX2_square 34 = .ok (.iconst 0, 1) := by decide +kernel
theorem dX2_square_35 : decode cX2_square 35 = .ok (.ireturn, 1) := by decide +kernel
theorem dX2_square_36 : decode cX2_square 36 = .ok (.aload_n 0, 1) := by decide +kernel
theorem dX2_square_37 : decode cX2_square 37 = .ok (.getfield 7, 3) := by decide +kernel
theorem dX2_square_40 : decode cX2_square 40 = .ok (.iconst 4, 1) := by decide +kernel
theorem dX2_square_41 : decode cX2_square 41 = .ok (.iload_n 1, 1) := by decide +kernel
theorem dX2_square_42 : decode cX2_square 42 = .ok (.imul, 1) := by decide +kernel
theorem dX2_square_43 : decode cX2_square 43 = .ok (.iload_n 2, 1) := by decide +kernel
theorem dX2_square_44 : decode cX2_square 44 = .ok (.iadd, 1) := by decide +kernel
theorem dX2_square_45 : decode cX2_square 45 = .ok (.iaload, 1) := by decide +kernel
theorem dX2_square_46 : decode cX2_square 46 = .ok (.istore_n 3, 1) := by decide +kernel
theorem dX2_square_47 : decode cX2_square 47 = .ok (.iload_n 3, 1) := by decide +kernel
theorem dX2_square_48 : decode cX2_square 48 = .ok (.iconst 1, 1) := by decide +kernel
theorem dX2_square_49 : decode cX2_square 49 = .ok (.bipush 64, 2) := by decide +kernel
theorem dX2_square_51 : decode cX2_square 51 = .ok (.invokestatic 23, 3) := by decide +kernel
theorem dX2_square_54 : decode cX2_square 54 = .ok (.ifCond .eq 11, 3) := by decide +kernel
theorem dX2_square_57 : decode cX2_square 57 = .ok (.iload_n 1, 1) := by decide +kernel
theorem dX2_square_58 : decode cX2_square 58 = .ok (.iload_n 3, 1) := by decide +kernel
theorem dX2_square_59 : decode cX2_square 59 = .ok (.invokestatic 27, 3) := by decide +kernel
theorem dX2_square_62 : decode cX2_square 62 = .ok (.goto 4, 3) := by decide +kernel
theorem dX2_square_65 : decode cX2_square 65 = .ok (.iconst (-1), 1) := by decide +kernel
theorem dX2_square_66 : decode cX2_square 66 = .ok (.ireturn, 1) := by decide +kernel
set_option maxRecDepth 20000 in
theorem ggX2_standing_X2_isIn : GoodIn wsX2_standing wsX2_isIn := goodIn_r _ [5] (by decide +kernel) (by decide +kernel)
set_option maxRecDepth 20000 in
theorem gX2_standing_X2_isIn : GoodIn wsX2_standing (va_wsS RX2 23 yX2_isIn wsX2_isIn) := goodIn_app (goodIn_of _ (by decide +kernel)) ggX2_standing_X2_isIn
set_option maxRecDepth 20000 in
theorem ggX2_standing_X2_stand : GoodIn wsX2_standing wsX2_stand := goodIn_r _ [9, 10, 2, 3, 4, 5, 11, 12, 13, 14, 15, 16, 17, 18, 19, 20, 21] (by decide +kernel) (by decide +kernel)
set_option maxRecDepth 20000 in
theorem gX2_standing_X2_stand : GoodIn wsX2_standing (wsV RX2 45 RX2 yX2_stand wsX2_stand) := goodIn_app (goodIn_of _ (by decide +kernel)) ggX2_standing_X2_stand
theorem dX2_standing_0 : decode cX2_standing 0 = .ok (.aload_n 0, 1) := by decide +kernel
theorem dX2_standing_1 : decode cX2_standing 1 = .ok (.iload_n 1, 1) := by decide +kernel
theorem dX2_standing_2 : decode cX2_standing 2 = .ok (.iconst 0, 1) := by decide +kernel
theorem dX2_standing_3 : decode cX2_standing 3 = .ok (.bipush 67, 2) := by decide +kernel
theorem dX2_standing_5 : decode cX2_standing 5 = .ok (.invokestatic 23, 3) := by decide +kernel
theorem dX2_standing_8 : decode cX2_standing 8 = .ok (.ifCond .ne 7, 3) := by decide +kernel
theorem dX2_standing_11 : decode cX2_standing 11 = .ok (.iconst 1, 1) := by decide +kernel
theorem dX2_standing_12 : decode cX2_standing 12 = .ok (.goto 17, 3) := by decide +kernel
theorem dX2_standing_15 : decode cX2_standing 15 = .ok (.iload_n 2, 1) := by decide +kernel
theorem dX2_standing_16 : decode cX2_standing 16 = .ok (.iconst 0, 1) := by decide +kernel
theorem dX2_standing_17 : decode cX2_standing 17 = .ok (.iconst 1, 1) := by decide +kernel
theorem dX2_standing_18 : decode cX2_standing 18 = .ok (.invokestatic 23, 3) := by decide +kernel
theorem dX2_standing_21 : decode cX2_standing 21 = .ok (.ifCond .eq 7, 3) := by decide +kernel
theorem dX2_standing_24 : decode cX2_standing 24 = .ok (.iconst 0, 1) := by decide +kernel
theorem dX2_standing_25 : decode cX2_standing 25 = .ok (.goto 4, 3) := by decide +kernel
theorem dX2_standing_28 : decode cX2_standing 28 = .ok (.iconst 2, 1) := by decide +kernel
theorem dX2_standing_29 : decode cX2_standing 29 = .ok (.putfield 19, 3) := by decide +kernel
theorem dX2_standing_32 : decode cX2_standing 32 = .ok (.aload_n 0, 1) := by decide +kernel
theorem dX2_standing_33 : decode cX2_standing 33 = .ok (.getfield 19, 3) := by decide +kernel
theorem dX2_standing_36 : decode cX2_standing 36 = .ok (.ifCond .le 7, 3) := by decide +kernel
theorem dX2_standing_39 : decode cX2_standing 39 = .ok (.iconst 0, 1) := by decide +kernel
theorem dX2_standing_40 : decode cX2_standing 40 = .ok (.goto 9, 3) := by decide +kernel
theorem dX2_standing_43 : decode cX2_standing 43 = .ok (.aload_n 0, 1) := by decide +kernel
theorem dX2_standing_44 : decode cX2_standing 44 = .ok (.iload_n 1, 1) := by decide +kernel
theorem dX2_standing_45 : decode cX2_standing 45 = .ok (.iload_n 2, 1) := by decide +kernel
theorem dX2_standing_46 : decode cX2_standing 46 = .ok (.invokevirtual 45, 3) := by decide +kernel
theorem dX2_standing_49 : decode cX2_standing 49 = .ok (.ireturn, 1) := by decide +kernel
set_option maxRecDepth 20000 in
theorem ggX2_isSafe_X2_isIn : GoodIn wsX2_isSafe wsX2_isIn := goodIn_r _ [5] (by decide +kernel) (by decide +kernel)
set_option maxRecDepth 20000 in
theorem gX2_isSafe_X2_isIn : GoodIn wsX2_isSafe (va_wsS RX2 23 yX2_isIn wsX2_isIn) := goodIn_app (goodIn_of _ (by decide +kernel)) ggX2_isSafe_X2_isIn
set_option maxRecDepth 20000 in
theorem ggX2_isSafe_X2_isSafeOne : GoodIn wsX2_isSafe wsX2_isSafeOne := goodIn_r _ [8] (by decide +kernel) (by decide +kernel)
set_option maxRecDepth 20000 in
theorem gX2_isSafe_X2_isSafeOne : GoodIn wsX2_isSafe (va_wsS RX2 48 yX2_isSafeOne wsX2_isSafeOne) := goodIn_app (goodIn_of _ (by decide +kernel)) ggX2_isSafe_X2_isSafeOne
theorem dX2_isSafe_0 : decode cX2_isSafe 0 = .ok (.aload_n 0, 1) := by decide +kernel
theorem dX2_isSafe_1 : decode cX2_isSafe 1 = .ok (.iload_n 1, 1) := by decide +kernel
theorem dX2_isSafe_2 : decode cX2_isSafe 2 = .ok (.iconst 0, 1) := by decide +kernel
theorem dX2_isSafe_3 : decode cX2_isSafe 3 = .ok (.bipush 67, 2) := by decide +kernel
theorem dX2_isSafe_5 : decode cX2_isSafe 5 = .ok (.invokestatic 23, 3) := by decide +kernel
theorem dX2_isSafe_8 : decode cX2_isSafe 8 = .ok (.ifCond .eq 7, 3) := by decide +kernel
theorem dX2_isSafe_11 : decode cX2_isSafe 11 = .ok (.iconst 0, 1) := by decide +kernel
theorem dX2_isSafe_12 : decode cX2_isSafe 12 = .ok (.goto 4, 3) := by decide +kernel
theorem dX2_isSafe_15 : decode cX2_isSafe 15 = .ok (.iconst 1, 1) := by decide +kernel
theorem dX2_isSafe_16 : decode cX2_isSafe 16 = .ok (.putfield 19, 3) := by decide +kernel
theorem dX2_isSafe_19 : decode cX2_isSafe 19 = .ok (.aload_n 0, 1) := by decide +kernel
theorem dX2_isSafe_20 : decode cX2_isSafe 20 = .ok (.getfield 19, 3) := by decide +kernel
theorem dX2_isSafe_23 : decode cX2_isSafe 23 = .ok (.ifCond .ne 14, 3) := by decide +kernel
theorem dX2_isSafe_26 : decode cX2_isSafe 26 = .ok (.iload_n 1, 1) := by decide +kernel
theorem dX2_isSafe_27 : decode cX2_isSafe 27 = .ok (.invokestatic 48, 3) := by decide +kernel
theorem dX2_isSafe_30 : decode cX2_isSafe 30 = .ok (.ifCond .eq 7, 3) := by decide +kernel
theorem dX2_isSafe_33 : decode cX2_isSafe 33 = .ok (.iconst 1, 1) := by decide +kernel
theorem dX2_isSafe_34 : decode cX2_isSafe 34 = .ok (.goto 4, 3) := by decide +kernel
theorem dX2_isSafe_37 : decode cX2_isSafe 37 = .ok (.iconst 0, 1) := by decide +kernel
theorem dX2_isSafe_38 : decode cX2_isSafe 38 = .ok (.ireturn, 1) := by decide +kernel
set_option maxRecDepth 20000 in
theorem ggX2_home_X2_isIn : GoodIn wsX2_home wsX2_isIn := goodIn_r _ [5] (by decide +kernel) (by decide +kernel)
set_option maxRecDepth 20000 in
theorem gX2_home_X2_isIn : GoodIn wsX2_home (va_wsS RX2 23 yX2_isIn wsX2_isIn) := goodIn_app (goodIn_of _ (by decide +kernel)) ggX2_home_X2_isIn
set_option maxRecDepth 20000 in
theorem ggX2_home_X2_homes : GoodIn wsX2_home wsX2_homes := goodIn_r _ [9, 10, 11, 12, 13, 14, 15, 16, 17, 18] (by decide +kernel) (by decide +kernel)
set_option maxRecDepth 20000 in
theorem gX2_home_X2_homes : GoodIn wsX2_home (wsV RX2 31 RX2 yX2_homes wsX2_homes) := goodIn_app (goodIn_of _ (by decide +kernel)) ggX2_home_X2_homes
theorem dX2_home_0 : decode cX2_home 0 = .ok (.aload_n 0, 1) := by decide +kernel
theorem dX2_home_1 : decode cX2_home 1 = .ok (.iload_n 1, 1) := by decide +kernel
theorem dX2_home_2 : decode cX2_home 2 = .ok (.iconst 0, 1) := by decide +kernel
theorem dX2_home_3 : decode cX2_home 3 = .ok (.iconst 3, 1) := by decide +kernel
theorem dX2_home_4 : decode cX2_home 4 = .ok (.invokestatic 23, 3) := by decide +kernel
theorem dX2_home_7 : decode cX2_home 7 = .ok (.ifCond .eq 7, 3) := by decide +kernel
theorem dX2_home_10 : decode cX2_home 10 = .ok (.iconst 0, 1) := by decide +kernel
theorem dX2_home_11 : decode cX2_home 11 = .ok (.goto 4, 3) := by decide +kernel
theorem dX2_home_14 : decode cX2_home 14 = .ok (.iconst 1, 1) := by decide +kernel
theorem dX2_home_15 : decode cX2_home 15 = .ok (.putfield 19, 3) := by decide +kernel
theorem dX2_home_18 : decode cX2_home 18 = .ok (.aload_n 0, 1) := by decide +kernel
theorem dX2_home_19 : decode cX2_home 19 = .ok (.getfield 19, 3) := by decide +kernel
theorem dX2_home_22 : decode cX2_home 22 = .ok (.ifCond .le 7, 3) := by decide +kernel
theorem dX2_home_25 : decode cX2_home 25 = .ok (.iconst 0, 1) := by decide +kernel
theorem dX2_home_26 : decode cX2_home 26 = .ok (.goto 8, 3) := by decide +kernel
theorem dX2_home_29 : decode cX2_home 29 = .ok (.aload_n 0, 1) := by decide +kernel
theorem dX2_home_30 : decode cX2_home 30 = .ok (.iload_n 1, 1) := by decide +kernel
theorem dX2_home_31 : decode cX2_home 31 = .ok (.invokevirtual 31, 3) := by decide +kernel
theorem dX2_home_34 : decode cX2_home 34 = .ok (.ireturn, 1) := by decide +kernel
set_option maxRecDepth 20000 in
theorem ggX2_captures_X2_isIn : GoodIn wsX2_captures wsX2_isIn := goodIn_r _ [6] (by decide +kernel) (by decide +kernel)
set_option maxRecDepth 20000 in
theorem gX2_captures_X2_isIn : GoodIn wsX2_captures (va_wsS RX2 23 yX2_isIn wsX2_isIn) := goodIn_app (goodIn_of _ (by decide +kernel)) ggX2_captures_X2_isIn
theorem dX2_captures_0 : decode cX2_captures 0 = .ok (.aload_n 0, 1) := by decide +kernel
theorem dX2_captures_1 : decode cX2_captures 1 = .ok (.iload_n 1, 1) := by decide +kernel
theorem dX2_captures_2 : decode cX2_captures 2 = .ok (.iconst 0, 1) := by decide +kernel
theorem dX2_captures_3 : decode cX2_captures 3 = .ok (.iconst 3, 1) := by decide +kernel
theorem dX2_captures_4 : decode cX2_captures 4 = .ok (.invokestatic 23, 3) := by decide +kernel
theorem dX2_captures_7 : decode cX2_captures 7 = .ok (.ifCond .eq 7, 3) := by decide +kernel
theorem dX2_captures_10 : decode cX2_captures 10 = .ok (.iconst 0, 1) := by decide +kernel
theorem dX2_captures_11 : decode cX2_captures 11 = .ok (.goto 4, 3) := by decide +kernel
theorem dX2_captures_14 : decode cX2_captures 14 = .ok (.iconst 1, 1) := by decide +kernel
theorem dX2_captures_15 : decode cX2_captures 15 = .ok (.putfield 19, 3) := by decide +kernel
theorem dX2_captures_18 : decode cX2_captures 18 = .ok (.aload_n 0, 1) := by decide +kernel
theorem dX2_captures_19 : decode cX2_captures 19 = .ok (.getfield 19, 3) := by decide +kernel
theorem dX2_captures_22 : decode cX2_captures 22 = .ok (.ifCond .le 7, 3) := by decide +kernel
theorem dX2_captures_25 : decode cX2_captures 25 = .ok (.iconst 0, 1) := by decide +kernel
theorem dX2_captures_26 : decode cX2_captures 26 = .ok (.goto 9, 3) := by decide +kernel
theorem dX2_captures_29 : decode cX2_captures 29 = .ok (.aload_n 0, 1) := by decide +kernel
theorem dX2_captures_30 : decode cX2_captures 30 = .ok (.getfield 13, 3) := by decide +kernel
theorem dX2_captures_33 : decode cX2_captures 33 = .ok (.iload_n 1, 1) := by decide +kernel
theorem dX2_captures_34 : decode cX2_captures 34 = .ok (.iaload, 1) := by decide +kernel
theorem dX2_captures_35 : decode cX2_captures 35 = .ok (.ireturn, 1) := by decide +kernel
set_option maxRecDepth 20000 in
theorem ggX2_winner_X2_isWon : GoodIn wsX2_winner wsX2_isWon := goodIn_r _ [6, 7, 8, 9, 5, 10, 11, 12, 13, 14, 15, 16, 17, 18, 19] (by decide +kernel) (by decide +kernel)
set_option maxRecDepth 20000 in
theorem gX2_winner_X2_isWon : GoodIn wsX2_winner (wsV RX2 80 RX2 yX2_isWon wsX2_isWon) := goodIn_app (goodIn_of _ (by decide +kernel)) ggX2_winner_X2_isWon
theorem dX2_winner_0 : decode cX2_winner 0 = .ok (.aload_n 0, 1) := by decide +kernel
theorem dX2_winner_1 : decode cX2_winner 1 = .ok (.iconst 0, 1) := by decide +kernel
theorem dX2_winner_2 : decode cX2_winner 2 = .ok (.putfield 19, 3) := by decide +kernel
theorem dX2_winner_5 : decode cX2_winner 5 = .ok (.aload_n 0, 1) := by decide +kernel
theorem dX2_winner_6 : decode cX2_winner 6 = .ok (.iconst 0, 1) := by decide +kernel
theorem dX2_winner_7 : decode cX2_winner 7 = .ok (.invokevirtual 80, 3) := by decide +kernel
theorem dX2_winner_10 : decode cX2_winner 10 = .ok (.ifCond .eq 7, 3) := by decide +kernel
theorem dX2_winner_13 : decode cX2_winner 13 = .ok (.iconst 0, 1) := by decide +kernel
theorem dX2_winner_14 : decode cX2_winner 14 = .ok (.goto 16, 3) := by decide +kernel
theorem dX2_winner_17 : decode cX2_winner 17 = .ok (.aload_n 0, 1) := by decide +kernel
theorem dX2_winner_18 : decode cX2_winner 18 = .ok (.iconst 1, 1) := by decide +kernel
theorem dX2_winner_19 : decode cX2_winner 19 = .ok (.invokevirtual 80, 3) := by decide +kernel
theorem dX2_winner_22 : decode cX2_winner 22 = .ok (.ifCond .eq 7, 3) := by decide +kernel
theorem dX2_winner_25 : decode cX2_winner 25 = .ok (.iconst 1, 1) := by decide +kernel
theorem dX2_winner_26 : decode cX2_winner 26 = .ok (.goto 4, 3) := by decide +kernel
theorem dX2_winner_29 : decode cX2_winner 29 = .ok (.iconst (-1), 1) := by decide +kernel
theorem dX2_winner_30 : decode cX2_winner 30 = .ok (.ireturn, 1) := by decide +kernel
set_option maxRecDepth 20000 in
theorem ggX2_distance_X2_isIn : GoodIn wsX2_distance wsX2_isIn := goodIn_r _ [6] (by decide +kernel) (by decide +kernel)
set_option maxRecDepth 20000 in
theorem gX2_distance_X2_isIn : GoodIn wsX2_distance (va_wsS RX2 23 yX2_isIn wsX2_isIn) := goodIn_app (goodIn_of _ (by decide +kernel)) ggX2_distance_X2_isIn
theorem dX2_distance_0 : decode cX2_distance 0 = .ok (.aload_n 0, 1) := by decide +kernel
theorem dX2_distance_1 : decode cX2_distance 1 = .ok (.iload_n 1, 1) := by decide +kernel
theorem dX2_distance_2 : decode cX2_distance 2 = .ok (.iconst 0, 1) := by decide +kernel
theorem dX2_distance_3 : decode cX2_distance 3 = .ok (.iconst 1, 1) := by decide +kernel
theorem dX2_distance_4 : decode cX2_distance 4 = .ok (.invokestatic 23, 3) := by decide +kernel
theorem dX2_distance_7 : decode cX2_distance 7 = .ok (.ifCond .eq 7, 3) := by decide +kernel
theorem dX2_distance_10 : decode cX2_distance 10 = .ok (.iconst 0, 1) := by decide +kernel
theorem dX2_distance_11 : decode cX2_distance 11 = .ok (.goto 4, 3) := by decide +kernel
theorem dX2_distance_14 : decode cX2_distance 14 = .ok (.iconst 1, 1) := by decide +kernel
theorem dX2_distance_15 : decode cX2_distance 15 = .ok (.putfield 19, 3) := by decide +kernel
theorem dX2_distance_18 : decode cX2_distance 18 = .ok (.iconst 0, 1) := by decide +kernel
theorem dX2_distance_19 : decode cX2_distance 19 = .ok (.istore_n 2, 1) := by decide +kernel
theorem dX2_distance_20 : decode cX2_distance 20 = .ok (.iconst 0, 1) := by decide +kernel
theorem dX2_distance_21 : decode cX2_distance 21 = .ok (.istore_n 3, 1) := by decide +kernel
theorem dX2_distance_22 : decode cX2_distance 22 = .ok (.iload_n 3, 1) := by decide +kernel
theorem dX2_distance_23 : decode cX2_distance 23 = .ok (.bipush 16, 2) := by decide +kernel
theorem dX2_distance_25 : decode cX2_distance 25 = .ok (.if_icmp .ge 41, 3) := by decide +kernel
theorem dX2_distance_28 : decode cX2_distance 28 = .ok (.aload_n 0, 1) := by decide +kernel
theorem dX2_distance_29 : decode cX2_distance 29 = .ok (.getfield 19, 3) := by decide +kernel
theorem dX2_distance_32 : decode cX2_distance 32 = .ok (.ifCond .ne 34, 3) := by decide +kernel
theorem dX2_distance_35 : decode cX2_distance 35 = .ok (.iload_n 2, 1) := by decide +kernel
theorem dX2_distance_36 : decode cX2_distance 36 = .ok (.iload_n 3, 1) := by decide +kernel
theorem dX2_distance_37 : decode cX2_distance 37 = .ok (.iconst 4, 1) := by decide +kernel
theorem dX2_distance_38 : decode cX2_distance 38 = .ok (.idiv, 1) := by decide +kernel
theorem dX2_distance_39 : decode cX2_distance 39 = .ok (.iconst 2, 1) := by decide +kernel
theorem dX2_distance_40 : decode cX2_distance 40 = .ok (.irem, 1) := by decide +kernel
theorem dX2_distance_41 : decode cX2_distance 41 = .ok (.iload_n 1, 1) := by decide +kernel
theorem dX2_distance_42 : decode cX2_distance 42 = .ok (.if_icmp .ne 15, 3) := by decide +kernel
theorem dX2_distance_45 : decode cX2_distance 45 = .ok (.bipush 72, 2) := by decide +kernel
theorem dX2_distance_47 : decode cX2_distance 47 = .ok (.aload_n 0, 1) := by decide +kernel
theorem dX2_distance_48 : decode cX2_distance 48 = .ok (.getfield 7, 3) := by decide +kernel
theorem dX2_distance_51 : decode cX2_distance 51 = .ok (.iload_n 3, 1) := by decide +kernel
theorem dX2_distance_52 : decode cX2_distance 52 = .ok (.iaload, 1) := by decide +kernel
theorem dX2_distance_53 : decode cX2_distance 53 = .ok (.isub, 1) := by decide +kernel
theorem dX2_distance_54 : decode cX2_distance 54 = .ok (.goto 4, 3) := by decide +kernel
theorem dX2_distance_57 : decode cX2_distance 57 = .ok (.iconst 0, 1) := by decide +kernel
theorem dX2_distance_58 : decode cX2_distance 58 = .ok (.iadd, 1) := by decide +kernel
theorem dX2_distance_59 : decode cX2_distance 59 = .ok (.istore_n 2, 1) := by decide +kernel
theorem dX2_distance_60 : decode cX2_distance 60 = .ok (.iinc 3 1, 3) := by decide +kernel
theorem dX2_distance_63 : decode cX2_distance 63 = .ok (.goto (-41), 3) := by decide +kernel
theorem dX2_distance_66 : decode cX2_distance 66 = .ok (.iload_n 2, 1) := by decide +kernel
theorem dX2_distance_67 : decode cX2_distance 67 = .ok (.ireturn, 1) := by decide +kernel
set_option maxRecDepth 20000 in
theorem ggX2_does_X2_can : GoodIn wsX2_does wsX2_can := goodIn_r _ [6, 1, 7, 8, 9, 5, 10, 11, 12, 13, 14, 15, 16, 17, 18, 19, 20, 21, 22, 23, 24, 25, 26, 27, 28, 29, 30, 31, 32, 33, 34, 35, 36, 37] (by decide +kernel) (by decide +kernel)
set_option maxRecDepth 20000 in
theorem gX2_does_X2_can : GoodIn wsX2_does (wsV RX2 51 RX2 yX2_can wsX2_can) := goodIn_app (goodIn_of _ (by decide +kernel)) ggX2_does_X2_can
set_option maxRecDepth 20000 in
theorem ggX2_does_X2_target : GoodIn wsX2_does wsX2_target := goodIn_r _ [10, 1, 11, 12, 5, 13, 14, 15, 16, 30, 31, 32, 33, 34, 35, 36, 37] (by decide +kernel) (by decide +kernel)
set_option maxRecDepth 20000 in
theorem gX2_does_X2_target : GoodIn wsX2_does (wsV RX2 42 RX2 yX2_target wsX2_target) := goodIn_app (goodIn_of _ (by decide +kernel)) ggX2_does_X2_target
theorem dX2_does_0 : decode cX2_does 0 = .ok (.iconst 0, 1) := by decide +kernel
theorem dX2_does_1 : decode cX2_does 1 = .ok (.istore 4, 2) := by decide +kernel
theorem dX2_does_3 : decode cX2_does 3 = .ok (.iconst 4, 1) := by decide +kernel
theorem dX2_does_4 : decode cX2_does 4 = .ok (.iload_n 1, 1) := by decide +kernel
theorem dX2_does_5 : decode cX2_does 5 = .ok (.imul, 1) := by decide +kernel
theorem dX2_does_6 : decode cX2_does 6 = .ok (.istore 5, 2) := by decide +kernel
theorem dX2_does_8 : decode cX2_does 8 = .ok (.iload 5, 2) := by decide +kernel
theorem dX2_does_10 : decode cX2_does 10 = .ok (.iconst 4, 1) := by decide +kernel
theorem dX2_does_11 : decode cX2_does 11 = .ok (.iload_n 1, 1) := by decide +kernel
theorem dX2_does_12 : decode cX2_does 12 = .ok (.imul, 1) := by decide +kernel
theorem dX2_does_13 : decode cX2_does 13 = .ok (.iconst 4, 1) := by decide +kernel
theorem dX2_does_14 : decode cX2_does 14 = .ok (.iadd, 1) := by decide +kernel
theorem dX2_does_15 : decode cX2_does 15 = .ok (.if_icmp .ge 80, 3) := by decide +kernel
theorem dX2_does_18 : decode cX2_does 18 = .ok (.aload_n 0, 1) := by decide +kernel
theorem dX2_does_19 : decode cX2_does 19 = .ok (.iload 5, 2) := by decide +kernel
theorem dX2_does_21 : decode cX2_does 21 = .ok (.iload_n 2, 1) := by decide +kernel
theorem dX2_does_22 : decode cX2_does 22 = .ok (.invokevirtual 51, 3) := by decide +kernel
theorem dX2_does_25 : decode cX2_does 25 = .ok (.istore 6, 2) := by decide +kernel
theorem dX2_does_27 : decode cX2_does 27 = .ok (.iload 4, 2) := by decide +kernel
theorem dX2_does_29 : decode cX2_does 29 = .ok (.iload 6, 2) := by decide +kernel
theorem dX2_does_31 : decode cX2_does 31 = .ok (.ifCond .le 54, 3) := by decide +kernel
theorem dX2_does_34 : decode cX2_does 34 = .ok (.iload_n 3, 1) := by decide +kernel
theorem dX2_does_35 : decode cX2_does 35 = .ok (.ifCond .eq 46, 3) := by decide +kernel
theorem dX2_does_38 : decode cX2_does 38 = .ok (.iload_n 3, 1) := by decide +kernel
theorem dX2_does_39 : decode cX2_does 39 = .ok (.iconst 1, 1) := by decide +kernel
theorem dX2_does_40 : decode cX2_does 40 = .ok (.if_icmp .ne 9, 3) := by decide +kernel
theorem dX2_does_43 : decode cX2_does 43 = .ok (.iload 6, 2) := by decide +kernel
theorem dX2_does_45 : decode cX2_does 45 = .ok (.iconst 2, 1) := by decide +kernel
theorem dX2_does_46 : decode cX2_does 46 = .ok (.if_icmp .eq 35, 3) := by decide +kernel
theorem dX2_does_49 : decode cX2_does 49 = .ok (.iload_n 3, 1) := by decide +kernel
theorem dX2_does_50 : decode cX2_does 50 = .ok (.iconst 2, 1) := by decide +kernel
theorem dX2_does_51 : decode cX2_does 51 = .ok (.if_icmp .ne 15, 3) := by decide +kernel
theorem dX2_does_54 : decode cX2_does 54 = .ok (.aload_n 0, 1) := by decide +kernel
theorem dX2_does_55 : decode cX2_does 55 = .ok (.iload 5, 2) := by decide +kernel
theorem dX2_does_57 : decode cX2_does 57 = .ok (.iload_n 2, 1) := by decide +kernel
theorem dX2_does_58 : decode cX2_does 58 = .ok (.invokevirtual 42, 3) := by decide +kernel
theorem dX2_does_61 : decode cX2_does 61 = .ok (.bipush 72, 2) := by decide +kernel
theorem dX2_does_63 : decode cX2_does 63 = .ok (.if_icmp .eq 18, 3) := by decide +kernel
theorem dX2_does_66 : decode cX2_does 66 = .ok (.iload_n 3, 1) := by decide +kernel
theorem dX2_does_67 : decode cX2_does 67 = .ok (.iconst 3, 1) := by decide +kernel
theorem dX2_does_68 : decode cX2_does 68 = .ok (.if_icmp .ne 17, 3) := by decide +kernel
theorem dX2_does_71 : decode cX2_does 71 = .ok (.aload_n 0, 1) := by decide +kernel
theorem dX2_does_72 : decode cX2_does 72 = .ok (.getfield 7, 3) := by decide +kernel
theorem dX2_does_75 : decode cX2_does 75 = .ok (.iload 5, 2) := by decide +kernel
theorem dX2_does_77 : decode cX2_does 77 = .ok (.iaload, 1) := by decide +kernel
theorem dX2_does_78 : decode cX2_does 78 = .ok (.ifCond .ne 7, 3) := by decide +kernel
theorem dX2_does_81 : decode cX2_does 81 = .ok (.iconst 1, 1) := by decide +kernel
theorem dX2_does_82 : decode cX2_does 82 = .ok (.goto 4, 3) := by decide +kernel
theorem dX2_does_85 : decode cX2_does 85 = .ok (.iconst 0, 1) := by decide +kernel
theorem dX2_does_86 : decode cX2_does 86 = .ok (.ior, 1) := by decide +kernel
theorem dX2_does_87 : decode cX2_does 87 = .ok (.istore 4, 2) := by decide +kernel
theorem dX2_does_89 : decode cX2_does 89 = .ok (.iinc 5 1, 3) := by decide +kernel
theorem dX2_does_92 : decode cX2_does 92 = .ok (.goto (-84), 3) := by decide +kernel
theorem dX2_does_95 : decode cX2_does 95 = .ok (.iload 4, 2) := by decide +kernel
theorem dX2_does_97 : decode cX2_does 97 = .ok (.ireturn, 1) := by decide +kernel
set_option maxRecDepth 20000 in
theorem ggX2_ways_X2_isIn : GoodIn wsX2_ways wsX2_isIn := goodIn_r _ [9] (by decide +kernel) (by decide +kernel)
set_option maxRecDepth 20000 in
theorem gX2_ways_X2_isIn : GoodIn wsX2_ways (va_wsS RX2 23 yX2_isIn wsX2_isIn) := goodIn_app (goodIn_of _ (by decide +kernel)) ggX2_ways_X2_isIn
set_option maxRecDepth 20000 in
theorem ggX2_ways_X2_isGrace : GoodIn wsX2_ways wsX2_isGrace := goodIn_r _ [12] (by decide +kernel) (by decide +kernel)
set_option maxRecDepth 20000 in
theorem gX2_ways_X2_isGrace : GoodIn wsX2_ways (va_wsS RX2 35 yX2_isGrace wsX2_isGrace) := goodIn_app (goodIn_of _ (by decide +kernel)) ggX2_ways_X2_isGrace
set_option maxRecDepth 20000 in
theorem ggX2_ways_X2_movesFor : GoodIn wsX2_ways wsX2_movesFor := goodIn_r _ [16, 17, 18, 19, 8, 20, 21, 47, 48, 49, 50, 51, 52, 53, 54] (by decide +kernel) (by decide +kernel)
set_option maxRecDepth 20000 in
theorem gX2_ways_X2_movesFor : GoodIn wsX2_ways (wsV RX2 66 RX2 yX2_movesFor wsX2_movesFor) := goodIn_app (goodIn_of _ (by decide +kernel)) ggX2_ways_X2_movesFor
set_option maxRecDepth 20000 in
theorem ggX2_ways_X2_does : GoodIn wsX2_ways wsX2_does := goodIn_r _ [25, 21, 26, 27, 28, 8, 29, 30, 31, 32, 33, 10, 11, 12, 34, 35, 36, 37, 38, 39, 40, 41, 42, 43, 6, 7, 9, 44, 45, 46, 47, 48, 49, 50, 51, 52, 53, 54] (by decide +kernel) (by decide +kernel)
set_option maxRecDepth 20000 in
theorem gX2_ways_X2_does : GoodIn wsX2_ways (wsV RX2 83 RX2 yX2_does wsX2_does) := goodIn_app (goodIn_of _ (by decide +kernel)) ggX2_ways_X2_does
theorem dX2_ways_0 : decode cX2_ways 0 = .ok (.aload_n 0, 1) := by decide +kernel
theorem dX2_ways_1 : decode cX2_ways 1 = .ok (.iload_n 1, 1) := by decide +kernel
theorem dX2_ways_2 : decode cX2_ways 2 = .ok (.iconst 0, 1) := by decide +kernel
theorem dX2_ways_3 : decode cX2_ways 3 = .ok (.iconst 3, 1) := by decide +kernel
theorem dX2_ways_4 : decode cX2_ways 4 = .ok (.invokestatic 23, 3) := by decide +kernel
theorem dX2_ways_7 : decode cX2_ways 7 = .ok (.ifCond .ne 7, 3) := by decide +kernel
theorem dX2_ways_10 : decode cX2_ways 10 = .ok (.iconst 1, 1) := by decide +kernel
theorem dX2_ways_11 : decode cX2_ways 11 = .ok (.goto 15, 3) := by decide +kernel
theorem dX2_ways_14 : decode cX2_ways 14 = .ok (.aload_n 0, 1) := by decide +kernel
theorem dX2_ways_15 : decode cX2_ways 15 = .ok (.getfield 60, 3) := by decide +kernel
theorem dX2_ways_18 : decode cX2_ways 18 = .ok (.ifCond .eq 7, 3) := by decide +kernel
theorem dX2_ways_21 : decode cX2_ways 21 = .ok (.iconst 2, 1) := by decide +kernel
theorem dX2_ways_22 : decode cX2_ways 22 = .ok (.goto 4, 3) := by decide +kernel
theorem dX2_ways_25 : decode cX2_ways 25 = .ok (.iconst 0, 1) := by decide +kernel
theorem dX2_ways_26 : decode cX2_ways 26 = .ok (.putfield 19, 3) := by decide +kernel
theorem dX2_ways_29 : decode cX2_ways 29 = .ok (.iconst 0, 1) := by decide +kernel
theorem dX2_ways_30 : decode cX2_ways 30 = .ok (.istore_n 2, 1) := by decide +kernel
theorem dX2_ways_31 : decode cX2_ways 31 = .ok (.iconst 0, 1) := by decide +kernel
theorem dX2_ways_32 : decode cX2_ways 32 = .ok (.istore_n 3, 1) := by decide +kernel
theorem dX2_ways_33 : decode cX2_ways 33 = .ok (.iload_n 3, 1) := by decide +kernel
theorem dX2_ways_34 : decode cX2_ways 34 = .ok (.bipush 7, 2) := by decide +kernel
theorem dX2_ways_36 : decode cX2_ways 36 = .ok (.if_icmp .ge 73, 3) := by decide +kernel
theorem dX2_ways_39 : decode cX2_ways 39 = .ok (.aload_n 0, 1) := by decide +kernel
theorem dX2_ways_40 : decode cX2_ways 40 = .ok (.getfield 19, 3) := by decide +kernel
theorem dX2_ways_43 : decode cX2_ways 43 = .ok (.ifCond .ne 66, 3) := by decide +kernel
theorem dX2_ways_46 : decode cX2_ways 46 = .ok (.iload_n 3, 1) := by decide +kernel
theorem dX2_ways_47 : decode cX2_ways 47 = .ok (.invokestatic 35, 3) := by decide +kernel
theorem dX2_ways_50 : decode cX2_ways 50 = .ok (.ifCond .eq 15, 3) := by decide +kernel
theorem dX2_ways_53 : decode cX2_ways 53 = .ok (.aload_n 0, 1) := by decide +kernel
theorem dX2_ways_54 : decode cX2_ways 54 = .ok (.getfield 57, 3) := by decide +kernel
theorem dX2_ways_57 : decode cX2_ways 57 = .ok (.iconst 2, 1) := by decide +kernel
theorem dX2_ways_58 : decode cX2_ways 58 = .ok (.if_icmp .ne 7, 3) := by decide +kernel
theorem dX2_ways_61 : decode cX2_ways 61 = .ok (.iconst 1, 1) := by decide +kernel
theorem dX2_ways_62 : decode cX2_ways 62 = .ok (.goto 4, 3) := by decide +kernel
theorem dX2_ways_65 : decode cX2_ways 65 = .ok (.iconst 0, 1) := by decide +kernel
theorem dX2_ways_66 : decode cX2_ways 66 = .ok (.istore 4, 2) := by decide +kernel
theorem dX2_ways_68 : decode cX2_ways 68 = .ok (.iload_n 2, 1) := by decide +kernel
theorem dX2_ways_69 : decode cX2_ways 69 = .ok (.iload 4, 2) := by decide +kernel
theorem dX2_ways_71 : decode cX2_ways 71 = .ok (.ifCond .ne 29, 3) := by decide +kernel
theorem dX2_ways_74 : decode cX2_ways 74 = .ok (.aload_n 0, 1) := by decide +kernel
theorem dX2_ways_75 : decode cX2_ways 75 = .ok (.aload_n 0, 1) := by decide +kernel
theorem dX2_ways_76 : decode cX2_ways 76 = .ok (.aload_n 0, 1) := by decide +kernel
theorem dX2_ways_77 : decode cX2_ways 77 = .ok (.getfield 54, 3) := by decide +kernel
theorem dX2_ways_80 : decode cX2_ways 80 = .ok (.invokevirtual 66, 3) := by decide +kernel
theorem dX2_ways_83 : decode cX2_ways 83 = .ok (.iload_n 3, 1) := by decide +kernel
theorem dX2_ways_84 : decode cX2_ways 84 = .ok (.iload_n 1, 1) := by decide +kernel
theorem dX2_ways_85 : decode cX2_ways 85 = .ok (.invokevirtual 83, 3) := by decide +kernel
theorem dX2_ways_88 : decode cX2_ways 88 = .ok (.ifCond .eq 12, 3) := by decide +kernel
theorem dX2_ways_91 : decode cX2_ways 91 = .ok (.aload_n 0, 1) := by decide +kernel
theorem dX2_ways_92 : decode cX2_ways 92 = .ok (.getfield 16, 3) := by decide +kernel
theorem dX2_ways_95 : decode cX2_ways 95 = .ok (.iload_n 3, 1) := by decide +kernel
theorem dX2_ways_96 : decode cX2_ways 96 = .ok (.iaload, 1) := by decide +kernel
theorem dX2_ways_97 : decode cX2_ways 97 = .ok (.goto 4, 3) := by decide +kernel
theorem dX2_ways_100 : decode cX2_ways 100 = .ok (.iconst 0, 1) := by decide +kernel
theorem dX2_ways_101 : decode cX2_ways 101 = .ok (.iadd, 1) := by decide +kernel
theorem dX2_ways_102 : decode cX2_ways 102 = .ok (.istore_n 2, 1) := by decide +kernel
theorem dX2_ways_103 : decode cX2_ways 103 = .ok (.iinc 3 1, 3) := by decide +kernel
theorem dX2_ways_106 : decode cX2_ways 106 = .ok (.goto (-73), 3) := by decide +kernel
theorem dX2_ways_109 : decode cX2_ways 109 = .ok (.iload_n 2, 1) := by decide +kernel
theorem dX2_ways_110 : decode cX2_ways 110 = .ok (.ireturn, 1) := by decide +kernel
set_option maxRecDepth 20000 in
theorem ggX2_threat_X2_isIn : GoodIn wsX2_threat wsX2_isIn := goodIn_r _ [7] (by decide +kernel) (by decide +kernel)
set_option maxRecDepth 20000 in
theorem gX2_threat_X2_isIn : GoodIn wsX2_threat (va_wsS RX2 23 yX2_isIn wsX2_isIn) := goodIn_app (goodIn_of _ (by decide +kernel)) ggX2_threat_X2_isIn
set_option maxRecDepth 20000 in
theorem ggX2_threat_X2_squareOf : GoodIn wsX2_threat wsX2_squareOf := goodIn_r _ [10] (by decide +kernel) (by decide +kernel)
set_option maxRecDepth 20000 in
theorem gX2_threat_X2_squareOf : GoodIn wsX2_threat (va_wsS RX2 27 yX2_squareOf wsX2_squareOf) := goodIn_app (goodIn_of _ (by decide +kernel)) ggX2_threat_X2_squareOf
set_option maxRecDepth 20000 in
theorem ggX2_threat_X2_movesFor : GoodIn wsX2_threat wsX2_movesFor := goodIn_r _ [14, 15, 16, 17, 6, 18, 2, 40, 41, 42, 43, 44, 45, 46, 47] (by decide +kernel) (by decide +kernel)
set_option maxRecDepth 20000 in
theorem gX2_threat_X2_movesFor : GoodIn wsX2_threat (wsV RX2 66 RX2 yX2_movesFor wsX2_movesFor) := goodIn_app (goodIn_of _ (by decide +kernel)) ggX2_threat_X2_movesFor
set_option maxRecDepth 20000 in
theorem ggX2_threat_X2_can : GoodIn wsX2_threat wsX2_can := goodIn_r _ [22, 2, 23, 24, 25, 6, 26, 27, 28, 29, 30, 31, 32, 8, 9, 10, 33, 34, 35, 36, 4, 5, 7, 37, 38, 39, 40, 41, 42, 43, 44, 45, 46, 47] (by decide +kernel) (by decide +kernel)
set_option maxRecDepth 20000 in
theorem gX2_threat_X2_can : GoodIn wsX2_threat (wsV RX2 51 RX2 yX2_can wsX2_can) := goodIn_app (goodIn_of _ (by decide +kernel)) ggX2_threat_X2_can
set_option maxRecDepth 20000 in
theorem ggX2_threat_X2_target : GoodIn wsX2_threat wsX2_target := goodIn_r _ [26, 2, 27, 28, 6, 29, 30, 31, 32, 40, 41, 42, 43, 44, 45, 46, 47] (by decide +kernel) (by decide +kernel)
set_option maxRecDepth 20000 in
theorem gX2_threat_X2_target : GoodIn wsX2_threat (wsV RX2 42 RX2 yX2_target wsX2_target) := goodIn_app (goodIn_of _ (by decide +kernel)) ggX2_threat_X2_target
theorem dX2_threat_0 : decode cX2_threat 0 = .ok (.aload_n 0, 1) := by decide +kernel
theorem dX2_threat_1 : decode cX2_threat 1 = .ok (.iload_n 1, 1) := by decide +kernel
theorem dX2_threat_2 : decode cX2_threat 2 = .ok (.iconst 0, 1) := by decide +kernel
theorem dX2_threat_3 : decode cX2_threat 3 = .ok (.iconst 3, 1) := by decide +kernel
theorem dX2_threat_4 : decode cX2_threat 4 = .ok (.invokestatic 23, 3) := by decide +kernel
theorem dX2_threat_7 : decode cX2_threat 7 = .ok (.ifCond .eq 12, 3) := by decide +kernel
theorem dX2_threat_10 : decode cX2_threat 10 = .ok (.iload_n 2, 1) := by decide +kernel
theorem dX2_threat_11 : decode cX2_threat 11 = .ok (.iconst 0, 1) := by decide +kernel
theorem dX2_threat_12 : decode cX2_threat 12 = .ok (.iconst 3, 1) := by decide +kernel
theorem dX2_threat_13 : decode cX2_threat 13 = .ok (.invokestatic 23, 3) := by decide +kernel
theorem dX2_threat_16 : decode cX2_threat 16 = .ok (.ifCond .ne 7, 3) := by decide +kernel
theorem dX2_threat_19 : decode cX2_threat 19 = .ok (.iconst 1, 1) := by decide +kernel
theorem dX2_threat_20 : decode cX2_threat 20 = .ok (.goto 26, 3) := by decide +kernel
theorem dX2_threat_23 : decode cX2_threat 23 = .ok (.iload_n 3, 1) := by decide +kernel
theorem dX2_threat_24 : decode cX2_threat 24 = .ok (.iconst 0, 1) := by decide +kernel
theorem dX2_threat_25 : decode cX2_threat 25 = .ok (.iconst 3, 1) := by decide +kernel
theorem dX2_threat_26 : decode cX2_threat 26 = .ok (.invokestatic 23, 3) := by decide +kernel
theorem dX2_threat_29 : decode cX2_threat 29 = .ok (.ifCond .eq 16, 3) := by decide +kernel
theorem dX2_threat_32 : decode cX2_threat 32 = .ok (.iload_n 3, 1) := by decide +kernel
theorem dX2_threat_33 : decode cX2_threat 33 = .ok (.iconst 2, 1) := by decide +kernel
theorem dX2_threat_34 : decode cX2_threat 34 = .ok (.irem, 1) := by decide +kernel
theorem dX2_threat_35 : decode cX2_threat 35 = .ok (.iload_n 1, 1) := by decide +kernel
theorem dX2_threat_36 : decode cX2_threat 36 = .ok (.iconst 2, 1) := by decide +kernel
theorem dX2_threat_37 : decode cX2_threat 37 = .ok (.irem, 1) := by decide +kernel
theorem dX2_threat_38 : decode cX2_threat 38 = .ok (.if_icmp .eq 7, 3) := by decide +kernel
theorem dX2_threat_41 : decode cX2_threat 41 = .ok (.iconst 0, 1) := by decide +kernel
theorem dX2_threat_42 : decode cX2_threat 42 = .ok (.goto 4, 3) := by decide +kernel
theorem dX2_threat_45 : decode cX2_threat 45 = .ok (.iconst 2, 1) := by decide +kernel
theorem dX2_threat_46 : decode cX2_threat 46 = .ok (.putfield 19, 3) := by decide +kernel
theorem dX2_threat_49 : decode cX2_threat 49 = .ok (.iconst 0, 1) := by decide +kernel
theorem dX2_threat_50 : decode cX2_threat 50 = .ok (.istore 4, 2) := by decide +kernel
theorem dX2_threat_52 : decode cX2_threat 52 = .ok (.aload_n 0, 1) := by decide +kernel
theorem dX2_threat_53 : decode cX2_threat 53 = .ok (.getfield 19, 3) := by decide +kernel
theorem dX2_threat_56 : decode cX2_threat 56 = .ok (.ifCond .ne 148, 3) := by decide +kernel
theorem dX2_threat_59 : decode cX2_threat 59 = .ok (.aload_n 0, 1) := by decide +kernel
theorem dX2_threat_60 : decode cX2_threat 60 = .ok (.getfield 7, 3) := by decide +kernel
theorem dX2_threat_63 : decode cX2_threat 63 = .ok (.iconst 4, 1) := by decide +kernel
theorem dX2_threat_64 : decode cX2_threat 64 = .ok (.iload_n 1, 1) := by decide +kernel
theorem dX2_threat_65 : decode cX2_threat 65 = .ok (.imul, 1) := by decide +kernel
theorem dX2_threat_66 : decode cX2_threat 66 = .ok (.iload_n 2, 1) := by decide +kernel
theorem dX2_threat_67 : decode cX2_threat 67 = .ok (.iadd, 1) := by decide +kernel
theorem dX2_threat_68 : decode cX2_threat 68 = .ok (.iaload, 1) := by decide +kernel
theorem dX2_threat_69 : decode cX2_threat 69 = .ok (.iconst 1, 1) := by decide +kernel
theorem dX2_threat_70 : decode cX2_threat 70 = .ok (.bipush 64, 2) := by decide +kernel
theorem dX2_threat_72 : decode cX2_threat 72 = .ok (.invokestatic 23, 3) := by decide +kernel
theorem dX2_threat_75 : decode cX2_threat 75 = .ok (.ifCond .eq 129, 3) := by decide +kernel
theorem dX2_threat_78 : decode cX2_threat 78 = .ok (.iload_n 1, 1) := by decide +kernel
theorem dX2_threat_79 : decode cX2_threat 79 = .ok (.aload_n 0, 1) := by decide +kernel
theorem dX2_threat_80 : decode cX2_threat 80 = .ok (.getfield 7, 3) := by decide +kernel
theorem dX2_threat_83 : decode cX2_threat 83 = .ok (.iconst 4, 1) := by decide +kernel
theorem dX2_threat_84 : decode cX2_threat 84 = .ok (.iload_n 1, 1) := by decide +kernel
theorem dX2_threat_85 : decode cX2_threat 85 = .ok (.imul, 1) := by decide +kernel
theorem dX2_threat_86 : decode cX2_threat 86 = .ok (.iload_n 2, 1) := by decide +kernel
theorem dX2_threat_87 : decode cX2_threat 87 = .ok (.iadd, 1) := by decide +kernel
theorem dX2_threat_88 : decode cX2_threat 88 = .ok (.iaload, 1) := by decide +kernel
theorem dX2_threat_89 : decode cX2_threat 89 = .ok (.invokestatic 27, 3) := by decide +kernel
theorem dX2_threat_92 : decode cX2_threat 92 = .ok (.istore 5, 2) := by decide +kernel
theorem dX2_threat_94 : decode cX2_threat 94 = .ok (.aload_n 0, 1) := by decide +kernel
theorem dX2_threat_95 : decode cX2_threat 95 = .ok (.iload_n 3, 1) := by decide +kernel
theorem dX2_threat_96 : decode cX2_threat 96 = .ok (.invokevirtual 66, 3) := by decide +kernel
theorem dX2_threat_99 : decode cX2_threat 99 = .ok (.istore 6, 2) := by decide +kernel
theorem dX2_threat_101 : decode cX2_threat 101 = .ok (.iconst 0, 1) := by decide +kernel
theorem dX2_threat_102 : decode cX2_threat 102 = .ok (.istore 7, 2) := by decide +kernel
theorem dX2_threat_104 : decode cX2_threat 104 = .ok (.iload 7, 2) := by decide +kernel
theorem dX2_threat_106 : decode cX2_threat 106 = .ok (.bipush 7, 2) := by decide +kernel
theorem dX2_threat_108 : decode cX2_threat 108 = .ok (.if_icmp .ge 96, 3) := by decide +kernel
theorem dX2_threat_111 : decode cX2_threat 111 = .ok (.iconst 0, 1) := by decide +kernel
theorem dX2_threat_112 : decode cX2_threat 112 = .ok (.istore 8, 2) := by decide +kernel
theorem dX2_threat_114 : decode cX2_threat 114 = .ok (.iconst 4, 1) := by decide +kernel
theorem dX2_threat_115 : decode cX2_threat 115 = .ok (.iload 6, 2) := by decide +kernel
theorem dX2_threat_117 : decode cX2_threat 117 = .ok (.imul, 1) := by decide +kernel
theorem dX2_threat_118 : decode cX2_threat 118 = .ok (.istore 9, 2) := by decide +kernel
theorem dX2_threat_120 : decode cX2_threat 120 = .ok (.iload 9, 2) := by decide +kernel
theorem dX2_threat_122 : decode cX2_threat 122 = .ok (.iconst 4, 1) := by decide +kernel
theorem dX2_threat_123 : decode cX2_threat 123 = .ok (.iload 6, 2) := by decide +kernel
theorem dX2_threat_125 : decode cX2_threat 125 = .ok (.imul, 1) := by decide +kernel
theorem dX2_threat_126 : decode cX2_threat 126 = .ok (.iconst 4, 1) := by decide +kernel
theorem dX2_threat_127 : decode cX2_threat 127 = .ok (.iadd, 1) := by decide +kernel
theorem dX2_threat_128 : decode cX2_threat 128 = .ok (.if_icmp .ge 49, 3) := by decide +kernel
theorem dX2_threat_131 : decode cX2_threat 131 = .ok (.iload 8, 2) := by decide +kernel
theorem dX2_threat_133 : decode cX2_threat 133 = .ok (.aload_n 0, 1) := by decide +kernel
theorem dX2_threat_134 : decode cX2_threat 134 = .ok (.iload 9, 2) := by decide +kernel
theorem dX2_threat_136 : decode cX2_threat 136 = .ok (.iload 7, 2) := by decide +kernel
theorem dX2_threat_138 : decode cX2_threat 138 = .ok (.invokevirtual 51, 3) := by decide +kernel
theorem dX2_threat_141 : decode cX2_threat 141 = .ok (.iconst 2, 1) := by decide +kernel
theorem dX2_threat_142 : decode cX2_threat 142 = .ok (.if_icmp .ne 25, 3) := by decide +kernel
theorem dX2_threat_145 : decode cX2_threat 145 = .ok (.iload 6, 2) := by decide +kernel
theorem dX2_threat_147 : decode cX2_threat 147 = .ok (.aload_n 0, 1) := by decide +kernel
theorem dX2_threat_148 : decode cX2_threat 148 = .ok (.iload 9, 2) := by decide +kernel
theorem dX2_threat_150 : decode cX2_threat 150 = .ok (.iload 7, 2) := by decide +kernel
theorem dX2_threat_152 : decode cX2_threat 152 = .ok (.invokevirtual 42, 3) := by decide +kernel
theorem dX2_threat_155 : decode cX2_threat 155 = .ok (.invokestatic 27, 3) := by decide +kernel
theorem dX2_threat_158 : decode cX2_threat 158 = .ok (.iload 5, 2) := by decide +kernel
theorem dX2_threat_160 : decode cX2_threat 160 = .ok (.if_icmp .ne 7, 3) := by decide +kernel
theorem dX2_threat_163 : decode cX2_threat 163 = .ok (.iconst 1, 1) := by decide +kernel
theorem dX2_threat_164 : decode cX2_threat 164 = .ok (.goto 4, 3) := by decide +kernel
theorem dX2_threat_167 : decode cX2_threat 167 = .ok (.iconst 0, 1) := by decide +kernel
theorem dX2_threat_168 : decode cX2_threat 168 = .ok (.ior, 1) := by decide +kernel
theorem dX2_threat_169 : decode cX2_threat 169 = .ok (.istore 8, 2) := by decide +kernel
theorem dX2_threat_171 : decode cX2_threat 171 = .ok (.iinc 9 1, 3) := by decide +kernel
theorem dX2_threat_174 : decode cX2_threat 174 = .ok (.goto (-54), 3) := by decide +kernel
theorem dX2_threat_177 : decode cX2_threat 177 = .ok (.iload 4, 2) := by decide +kernel
theorem dX2_threat_179 : decode cX2_threat 179 = .ok (.iload 8, 2) := by decide +kernel
theorem dX2_threat_181 : decode cX2_threat 181 = .ok (.ifCond .eq 13, 3) := by decide +kernel
theorem dX2_threat_184 : decode cX2_threat 184 = .ok (.aload_n 0, 1) := by decide +kernel
theorem dX2_threat_185 : decode cX2_threat 185 = .ok (.getfield 16, 3) := by decide +kernel
theorem dX2_threat_188 : decode cX2_threat 188 = .ok (.iload 7, 2) := by decide +kernel
theorem dX2_threat_190 : decode cX2_threat 190 = .ok (.iaload, 1) := by decide +kernel
theorem dX2_threat_191 : decode cX2_threat 191 = .ok (.goto 4, 3) := by decide +kernel
theorem dX2_threat_194 : decode cX2_threat 194 = .ok (.iconst 0, 1) := by decide +kernel
theorem dX2_threat_195 : decode cX2_threat 195 = .ok (.iadd, 1) := by decide +kernel
theorem dX2_threat_196 : decode cX2_threat 196 = .ok (.istore 4, 2) := by decide +kernel
theorem dX2_threat_198 : decode cX2_threat 198 = .ok (.iinc 7 1, 3) := by decide +kernel
theorem dX2_threat_201 : decode cX2_threat 201 = .ok (.goto (-97), 3) := by decide +kernel
theorem dX2_threat_204 : decode cX2_threat 204 = .ok (.iload 4, 2) := by decide +kernel
theorem dX2_threat_206 : decode cX2_threat 206 = .ok (.ireturn, 1) := by decide +kernel
set_option maxRecDepth 20000 in
theorem ggX2_chanceOfOne_X2_isGrace : GoodIn wsX2_chanceOfOne wsX2_isGrace := goodIn_r _ [6] (by decide +kernel) (by decide +kernel)
set_option maxRecDepth 20000 in
theorem gX2_chanceOfOne_X2_isGrace : GoodIn wsX2_chanceOfOne (va_wsS RX2 35 yX2_isGrace wsX2_isGrace) := goodIn_app (goodIn_of _ (by decide +kernel)) ggX2_chanceOfOne_X2_isGrace
set_option maxRecDepth 20000 in
theorem ggX2_chanceOfOne_X2_movesFor : GoodIn wsX2_chanceOfOne wsX2_movesFor := goodIn_r _ [10, 11, 12, 13, 5, 14, 15, 44, 45, 46, 47, 48, 49, 50, 51] (by decide +kernel) (by decide +kernel)
set_option maxRecDepth 20000 in
theorem gX2_chanceOfOne_X2_movesFor : GoodIn wsX2_chanceOfOne (wsV RX2 66 RX2 yX2_movesFor wsX2_movesFor) := goodIn_app (goodIn_of _ (by decide +kernel)) ggX2_chanceOfOne_X2_movesFor
set_option maxRecDepth 20000 in
theorem ggX2_chanceOfOne_X2_does : GoodIn wsX2_chanceOfOne wsX2_does := goodIn_r _ [19, 15, 20, 21, 22, 5, 23, 24, 25, 26, 27, 3, 4, 6, 28, 29, 30, 31, 32, 33, 34, 35, 36, 37, 38, 39, 40, 41, 42, 43, 44, 45, 46, 47, 48, 49, 50, 51] (by decide +kernel) (by decide +kernel)
set_option maxRecDepth 20000 in
theorem gX2_chanceOfOne_X2_does : GoodIn wsX2_chanceOfOne (wsV RX2 83 RX2 yX2_does wsX2_does) := goodIn_app (goodIn_of _ (by decide +kernel)) ggX2_chanceOfOne_X2_does
theorem dX2_chanceOfOne_0 : decode cX2_chanceOfOne 0 = .ok (.iconst 0, 1) := by decide +kernel
theorem dX2_chanceOfOne_1 : decode cX2_chanceOfOne 1 = .ok (.istore_n 2, 1) := by decide +kernel
theorem dX2_chanceOfOne_2 : decode cX2_chanceOfOne 2 = .ok (.iconst 0, 1) := by decide +kernel
theorem dX2_chanceOfOne_3 : decode cX2_chanceOfOne 3 = .ok (.istore_n 3, 1) := by decide +kernel
theorem dX2_chanceOfOne_4 : decode cX2_chanceOfOne 4 = .ok (.iload_n 3, 1) := by decide +kernel
theorem dX2_chanceOfOne_5 : decode cX2_chanceOfOne 5 = .ok (.bipush 7, 2) := by decide +kernel
theorem dX2_chanceOfOne_7 : decode cX2_chanceOfOne 7 = .ok (.if_icmp .ge 63, 3) := by decide +kernel
theorem dX2_chanceOfOne_10 : decode cX2_chanceOfOne 10 = .ok (.iload_n 3, 1) := by decide +kernel
theorem dX2_chanceOfOne_11 : decode cX2_chanceOfOne 11 = .ok (.invokestatic 35, 3) := by decide +kernel
theorem dX2_chanceOfOne_14 : decode cX2_chanceOfOne 14 = .ok (.ifCond .eq 12, 3) := by decide +kernel
theorem dX2_chanceOfOne_17 : decode cX2_chanceOfOne 17 = .ok (.iload_n 1, 1) := by decide +kernel
theorem dX2_chanceOfOne_18 : decode cX2_chanceOfOne 18 = .ok (.iconst 2, 1) := by decide +kernel
theorem dX2_chanceOfOne_19 : decode cX2_chanceOfOne 19 = .ok (.if_icmp .ne 7, 3) := by decide +kernel
theorem dX2_chanceOfOne_22 : decode cX2_chanceOfOne 22 = .ok (.iconst 1, 1) := by decide +kernel
theorem dX2_chanceOfOne_23 : decode cX2_chanceOfOne 23 = .ok (.goto 4, 3) := by decide +kernel
theorem dX2_chanceOfOne_26 : decode cX2_chanceOfOne 26 = .ok (.iconst 0, 1) := by decide +kernel
theorem dX2_chanceOfOne_27 : decode cX2_chanceOfOne 27 = .ok (.istore 4, 2) := by decide +kernel
theorem dX2_chanceOfOne_29 : decode cX2_chanceOfOne 29 = .ok (.iload_n 2, 1) := by decide +kernel
theorem dX2_chanceOfOne_30 : decode cX2_chanceOfOne 30 = .ok (.iload 4, 2) := by decide +kernel
theorem dX2_chanceOfOne_32 : decode cX2_chanceOfOne 32 = .ok (.ifCond .ne 29, 3) := by decide +kernel
theorem dX2_chanceOfOne_35 : decode cX2_chanceOfOne 35 = .ok (.aload_n 0, 1) := by decide +kernel
theorem dX2_chanceOfOne_36 : decode cX2_chanceOfOne 36 = .ok (.aload_n 0, 1) := by decide +kernel
theorem dX2_chanceOfOne_37 : decode cX2_chanceOfOne 37 = .ok (.aload_n 0, 1) := by decide +kernel
theorem dX2_chanceOfOne_38 : decode cX2_chanceOfOne 38 = .ok (.getfield 54, 3) := by decide +kernel
theorem dX2_chanceOfOne_41 : decode cX2_chanceOfOne 41 = .ok (.invokevirtual 66, 3) := by decide +kernel
theorem dX2_chanceOfOne_44 : decode cX2_chanceOfOne 44 = .ok (.iload_n 3, 1) := by decide +kernel
theorem dX2_chanceOfOne_45 : decode cX2_chanceOfOne 45 = .ok (.iconst 1, 1) := by decide +kernel
theorem dX2_chanceOfOne_46 : decode cX2_chanceOfOne 46 = .ok (.invokevirtual 83, 3) := by decide +kernel
theorem dX2_chanceOfOne_49 : decode cX2_chanceOfOne 49 = .ok (.ifCond .eq 12, 3) := by decide +kernel
theorem dX2_chanceOfOne_52 : decode cX2_chanceOfOne 52 = .ok (.aload_n 0, 1) := by decide +kernel
theorem dX2_chanceOfOne_53 : decode cX2_chanceOfOne 53 = .ok (.getfield 16, 3) := by decide +kernel
theorem dX2_chanceOfOne_56 : decode cX2_chanceOfOne 56 = .ok (.iload_n 3, 1) := by decide +kernel
theorem dX2_chanceOfOne_57 : decode cX2_chanceOfOne 57 = .ok (.iaload, 1) := by decide +kernel
theorem dX2_chanceOfOne_58 : decode cX2_chanceOfOne 58 = .ok (.goto 4, 3) := by decide +kernel
theorem dX2_chanceOfOne_61 : decode cX2_chanceOfOne 61 = .ok (.iconst 0, 1) := by decide +kernel
theorem dX2_chanceOfOne_62 : decode cX2_chanceOfOne 62 = .ok (.iadd, 1) := by decide +kernel
theorem dX2_chanceOfOne_63 : decode cX2_chanceOfOne 63 = .ok (.istore_n 2, 1) := by decide +kernel
theorem dX2_chanceOfOne_64 : decode cX2_chanceOfOne 64 = .ok (.iinc 3 1, 3) := by decide +kernel
theorem dX2_chanceOfOne_67 : decode cX2_chanceOfOne 67 = .ok (.goto (-63), 3) := by decide +kernel
theorem dX2_chanceOfOne_70 : decode cX2_chanceOfOne 70 = .ok (.iload_n 2, 1) := by decide +kernel
theorem dX2_chanceOfOne_71 : decode cX2_chanceOfOne 71 = .ok (.ireturn, 1) := by decide +kernel
set_option maxRecDepth 20000 in
theorem ggX2_bestForOne_X2_movesFor : GoodIn wsX2_bestForOne wsX2_movesFor := goodIn_r _ [7, 8, 9, 10, 6, 11, 2, 56, 57, 58, 59, 60, 61, 62, 63] (by decide +kernel) (by decide +kernel)
set_option maxRecDepth 20000 in
theorem gX2_bestForOne_X2_movesFor : GoodIn wsX2_bestForOne (wsV RX2 66 RX2 yX2_movesFor wsX2_movesFor) := goodIn_app (goodIn_of _ (by decide +kernel)) ggX2_bestForOne_X2_movesFor
set_option maxRecDepth 20000 in
theorem ggX2_bestForOne_X2_movers : GoodIn wsX2_bestForOne wsX2_movers := goodIn_r _ [15, 16, 17, 18, 6, 19, 2, 20, 21, 22, 23, 24, 25, 26, 27, 28, 29, 30, 31, 32, 33, 34, 35, 36, 37, 38, 39, 40, 41, 42, 56, 57, 58, 59, 60, 61, 62, 63] (by decide +kernel) (by decide +kernel)
set_option maxRecDepth 20000 in
theorem gX2_bestForOne_X2_movers : GoodIn wsX2_bestForOne (wsV RX2 69 RX2 yX2_movers wsX2_movers) := goodIn_app (goodIn_of _ (by decide +kernel)) ggX2_bestForOne_X2_movers
set_option maxRecDepth 20000 in
theorem ggX2_bestForOne_X2_chanceOfOne : GoodIn wsX2_bestForOne wsX2_chanceOfOne := goodIn_r _ [46, 1, 47, 24, 25, 6, 26, 3, 4, 5, 7, 8, 9, 10, 11, 2, 48, 49, 50, 51, 16, 17, 18, 19, 20, 21, 22, 23, 27, 28, 29, 30, 31, 32, 33, 34, 35, 36, 37, 38, 39, 40, 41, 42, 56, 57, 58, 59, 60, 61, 62, 63] (by decide +kernel) (by decide +kernel)
set_option maxRecDepth 20000 in
theorem gX2_bestForOne_X2_chanceOfOne : GoodIn wsX2_bestForOne (wsV RX2 86 RX2 yX2_chanceOfOne wsX2_chanceOfOne) := goodIn_app (goodIn_of _ (by decide +kernel)) ggX2_bestForOne_X2_chanceOfOne
set_option maxRecDepth 20000 in
theorem ggX2_bestForOne_X2_can : GoodIn wsX2_bestForOne wsX2_can := goodIn_r _ [19, 2, 20, 21, 22, 6, 23, 24, 25, 26, 27, 28, 29, 30, 31, 32, 33, 34, 35, 36, 37, 38, 39, 40, 41, 42, 56, 57, 58, 59, 60, 61, 62, 63] (by decide +kernel) (by decide +kernel)
set_option maxRecDepth 20000 in
theorem gX2_bestForOne_X2_can : GoodIn wsX2_bestForOne (wsV RX2 51 RX2 yX2_can wsX2_can) := goodIn_app (goodIn_of _ (by decide +kernel)) ggX2_bestForOne_X2_can
set_option maxRecDepth 20000 in
theorem ggX2_bestForOne_X2_target : GoodIn wsX2_bestForOne wsX2_target := goodIn_r _ [23, 2, 24, 25, 6, 26, 27, 28, 29, 56, 57, 58, 59, 60, 61, 62, 63] (by decide +kernel) (by decide +kernel)
set_option maxRecDepth 20000 in
theorem gX2_bestForOne_X2_target : GoodIn wsX2_bestForOne (wsV RX2 42 RX2 yX2_target wsX2_target) := goodIn_app (goodIn_of _ (by decide +kernel)) ggX2_bestForOne_X2_target
set_option maxRecDepth 20000 in
theorem ggX2_bestForOne_X2_isWon : GoodIn wsX2_bestForOne wsX2_isWon := goodIn_r _ [55, 8, 9, 10, 6, 11, 2, 56, 57, 58, 59, 60, 61, 62, 63] (by decide +kernel) (by decide +kernel)
set_option maxRecDepth 20000 in
theorem gX2_bestForOne_X2_isWon : GoodIn wsX2_bestForOne (wsV RX2 80 RX2 yX2_isWon wsX2_isWon) := goodIn_app (goodIn_of _ (by decide +kernel)) ggX2_bestForOne_X2_isWon
theorem dX2_bestForOne_0 : decode cX2_bestForOne 0 = .ok (.aload_n 0, 1) := by decide +kernel
theorem dX2_bestForOne_1 : decode cX2_bestForOne 1 = .ok (.aload_n 0, 1) := by decide +kernel
theorem dX2_bestForOne_2 : decode cX2_bestForOne 2 = .ok (.getfield 54, 3) := by decide +kernel
theorem dX2_bestForOne_5 : decode cX2_bestForOne 5 = .ok (.invokevirtual 66, 3) := by decide +kernel
theorem dX2_bestForOne_8 : decode cX2_bestForOne 8 = .ok (.istore_n 3, 1) := by decide +kernel
theorem dX2_bestForOne_9 : decode cX2_bestForOne 9 = .ok (.aload_n 0, 1) := by decide +kernel
theorem dX2_bestForOne_10 : decode cX2_bestForOne 10 = .ok (.iload_n 3, 1) := by decide +kernel
theorem dX2_bestForOne_11 : decode cX2_bestForOne 11 = .ok (.iload_n 2, 1) := by decide +kernel
theorem dX2_bestForOne_12 : decode cX2_bestForOne 12 = .ok (.iconst 1, 1) := by decide +kernel
theorem dX2_bestForOne_13 : decode cX2_bestForOne 13 = .ok (.invokevirtual 69, 3) := by decide +kernel
theorem dX2_bestForOne_16 : decode cX2_bestForOne 16 = .ok (.ifCond .ne 11, 3) := by decide +kernel
theorem dX2_bestForOne_19 : decode cX2_bestForOne 19 = .ok (.aload_n 0, 1) := by decide +kernel
theorem dX2_bestForOne_20 : decode cX2_bestForOne 20 = .ok (.iload_n 1, 1) := by decide +kernel
theorem dX2_bestForOne_21 : decode cX2_bestForOne 21 = .ok (.invokevirtual 86, 3) := by decide +kernel
theorem dX2_bestForOne_24 : decode cX2_bestForOne 24 = .ok (.goto 4, 3) := by decide +kernel
theorem dX2_bestForOne_27 : decode cX2_bestForOne 27 = .ok (.iconst 0, 1) := by decide +kernel
theorem dX2_bestForOne_28 : decode cX2_bestForOne 28 = .ok (.istore 4, 2) := by decide +kernel
theorem dX2_bestForOne_30 : decode cX2_bestForOne 30 = .ok (.iconst 4, 1) := by decide +kernel
theorem dX2_bestForOne_31 : decode cX2_bestForOne 31 = .ok (.iload_n 3, 1) := by decide +kernel
theorem dX2_bestForOne_32 : decode cX2_bestForOne 32 = .ok (.imul, 1) := by decide +kernel
theorem dX2_bestForOne_33 : decode cX2_bestForOne 33 = .ok (.istore 5, 2) := by decide +kernel
theorem dX2_bestForOne_35 : decode cX2_bestForOne 35 = .ok (.iload 5, 2) := by decide +kernel
theorem dX2_bestForOne_37 : decode cX2_bestForOne 37 = .ok (.iconst 4, 1) := by decide +kernel
theorem dX2_bestForOne_38 : decode cX2_bestForOne 38 = .ok (.iload_n 3, 1) := by decide +kernel
theorem dX2_bestForOne_39 : decode cX2_bestForOne 39 = .ok (.imul, 1) := by decide +kernel
theorem dX2_bestForOne_40 : decode cX2_bestForOne 40 = .ok (.iconst 4, 1) := by decide +kernel
theorem dX2_bestForOne_41 : decode cX2_bestForOne 41 = .ok (.iadd, 1) := by decide +kernel
theorem dX2_bestForOne_42 : decode cX2_bestForOne 42 = .ok (.if_icmp .ge 91, 3) := by decide +kernel
theorem dX2_bestForOne_45 : decode cX2_bestForOne 45 = .ok (.aload_n 0, 1) := by decide +kernel
theorem dX2_bestForOne_46 : decode cX2_bestForOne 46 = .ok (.iload 5, 2) := by decide +kernel
theorem dX2_bestForOne_48 : decode cX2_bestForOne 48 = .ok (.iload_n 2, 1) := by decide +kernel
theorem dX2_bestForOne_49 : decode cX2_bestForOne 49 = .ok (.invokevirtual 51, 3) := by decide +kernel
theorem dX2_bestForOne_52 : decode cX2_bestForOne 52 = .ok (.ifCond .le 75, 3) := by decide +kernel
theorem dX2_bestForOne_55 : decode cX2_bestForOne 55 = .ok (.aload_n 0, 1) := by decide +kernel
theorem dX2_bestForOne_56 : decode cX2_bestForOne 56 = .ok (.getfield 7, 3) := by decide +kernel
theorem dX2_bestForOne_59 : decode cX2_bestForOne 59 = .ok (.iload 5, 2) := by decide +kernel
theorem dX2_bestForOne_61 : decode cX2_bestForOne 61 = .ok (.iaload, 1) := by decide +kernel
theorem dX2_bestForOne_62 : decode cX2_bestForOne 62 = .ok (.istore 6, 2) := by decide +kernel
theorem dX2_bestForOne_64 : decode cX2_bestForOne 64 = .ok (.aload_n 0, 1) := by decide +kernel
theorem dX2_bestForOne_65 : decode cX2_bestForOne 65 = .ok (.getfield 7, 3) := by decide +kernel
theorem dX2_bestForOne_68 : decode cX2_bestForOne 68 = .ok (.iload 5, 2) := by decide +kernel
theorem dX2_bestForOne_70 : decode cX2_bestForOne 70 = .ok (.aload_n 0, 1) := by decide +kernel
theorem dX2_bestForOne_71 : decode cX2_bestForOne 71 = .ok (.iload 5, 2) := by decide +kernel
theorem dX2_bestForOne_73 : decode cX2_bestForOne 73 = .ok (.iload_n 2, 1) := by decide +kernel
theorem dX2_bestForOne_74 : decode cX2_bestForOne 74 = .ok (.invokevirtual 42, 3) := by decide +kernel
theorem dX2_bestForOne_77 : decode cX2_bestForOne 77 = .ok (.iastore, 1) := by decide +kernel
theorem dX2_bestForOne_78 : decode cX2_bestForOne 78 = .ok (.aload_n 0, 1) := by decide +kernel
theorem dX2_bestForOne_79 : decode cX2_bestForOne 79 = .ok (.aload_n 0, 1) := by decide +kernel
theorem dX2_bestForOne_80 : decode cX2_bestForOne 80 = .ok (.getfield 54, 3) := by decide +kernel
theorem dX2_bestForOne_83 : decode cX2_bestForOne 83 = .ok (.iconst 2, 1) := by decide +kernel
theorem dX2_bestForOne_84 : decode cX2_bestForOne 84 = .ok (.irem, 1) := by decide +kernel
theorem dX2_bestForOne_85 : decode cX2_bestForOne 85 = .ok (.invokevirtual 80, 3) := by decide +kernel
theorem dX2_bestForOne_88 : decode cX2_bestForOne 88 = .ok (.ifCond .eq 7, 3) := by decide +kernel
theorem dX2_bestForOne_91 : decode cX2_bestForOne 91 = .ok (.iconst 0, 1) := by decide +kernel
theorem dX2_bestForOne_92 : decode cX2_bestForOne 92 = .ok (.goto 8, 3) := by decide +kernel
theorem dX2_bestForOne_95 : decode cX2_bestForOne 95 = .ok (.aload_n 0, 1) := by decide +kernel
theorem dX2_bestForOne_96 : decode cX2_bestForOne 96 = .ok (.iload_n 1, 1) := by decide +kernel
theorem dX2_bestForOne_97 : decode cX2_bestForOne 97 = .ok (.invokevirtual 86, 3) := by decide +kernel
theorem dX2_bestForOne_100 : decode cX2_bestForOne 100 = .ok (.istore 7, 2) := by decide +kernel
theorem dX2_bestForOne_102 : decode cX2_bestForOne 102 = .ok (.aload_n 0, 1) := by decide +kernel
theorem dX2_bestForOne_103 : decode cX2_bestForOne 103 = .ok (.getfield 7, 3) := by decide +kernel
theorem dX2_bestForOne_106 : decode cX2_bestForOne 106 = .ok (.iload 5, 2) := by decide +kernel
theorem dX2_bestForOne_108 : decode cX2_bestForOne 108 = .ok (.iload 6, 2) := by decide +kernel
theorem dX2_bestForOne_110 : decode cX2_bestForOne 110 = .ok (.iastore, 1) := by decide +kernel
theorem dX2_bestForOne_111 : decode cX2_bestForOne 111 = .ok (.iload 7, 2) := by decide +kernel
theorem dX2_bestForOne_113 : decode cX2_bestForOne 113 = .ok (.iload 4, 2) := by decide +kernel
theorem dX2_bestForOne_115 : decode cX2_bestForOne 115 = .ok (.if_icmp .le 8, 3) := by decide +kernel
theorem dX2_bestForOne_118 : decode cX2_bestForOne 118 = .ok (.iload 7, 2) := by decide +kernel
theorem dX2_bestForOne_120 : decode cX2_bestForOne 120 = .ok (.goto 5, 3) := by decide +kernel
theorem dX2_bestForOne_123 : decode cX2_bestForOne 123 = .ok (.iload 4, 2) := by decide +kernel
theorem dX2_bestForOne_125 : decode cX2_bestForOne 125 = .ok (.istore 4, 2) := by decide +kernel
theorem dX2_bestForOne_127 : decode cX2_bestForOne 127 = .ok (.iinc 5 1, 3) := by decide +kernel
theorem dX2_bestForOne_130 : decode cX2_bestForOne 130 = .ok (.goto (-95), 3) := by decide +kernel
theorem dX2_bestForOne_133 : decode cX2_bestForOne 133 = .ok (.iload 4, 2) := by decide +kernel
theorem dX2_bestForOne_135 : decode cX2_bestForOne 135 = .ok (.ireturn, 1) := by decide +kernel
set_option maxRecDepth 20000 in
theorem ggX2_chanceOfTwo_X2_isGrace : GoodIn wsX2_chanceOfTwo wsX2_isGrace := goodIn_r _ [6] (by decide +kernel) (by decide +kernel)
set_option maxRecDepth 20000 in
theorem gX2_chanceOfTwo_X2_isGrace : GoodIn wsX2_chanceOfTwo (va_wsS RX2 35 yX2_isGrace wsX2_isGrace) := goodIn_app (goodIn_of _ (by decide +kernel)) ggX2_chanceOfTwo_X2_isGrace
set_option maxRecDepth 20000 in
theorem ggX2_chanceOfTwo_X2_movesFor : GoodIn wsX2_chanceOfTwo wsX2_movesFor := goodIn_r _ [10, 11, 12, 13, 5, 14, 15, 60, 61, 62, 63, 64, 65, 66, 67] (by decide +kernel) (by decide +kernel)
set_option maxRecDepth 20000 in
theorem gX2_chanceOfTwo_X2_movesFor : GoodIn wsX2_chanceOfTwo (wsV RX2 66 RX2 yX2_movesFor wsX2_movesFor) := goodIn_app (goodIn_of _ (by decide +kernel)) ggX2_chanceOfTwo_X2_movesFor
set_option maxRecDepth 20000 in
theorem ggX2_chanceOfTwo_X2_does : GoodIn wsX2_chanceOfTwo wsX2_does := goodIn_r _ [19, 15, 20, 21, 22, 5, 23, 24, 25, 26, 27, 3, 4, 6, 28, 29, 30, 31, 32, 33, 34, 35, 36, 37, 38, 39, 40, 41, 42, 43, 60, 61, 62, 63, 64, 65, 66, 67] (by decide +kernel) (by decide +kernel)
set_option maxRecDepth 20000 in
theorem gX2_chanceOfTwo_X2_does : GoodIn wsX2_chanceOfTwo (wsV RX2 83 RX2 yX2_does wsX2_does) := goodIn_app (goodIn_of _ (by decide +kernel)) ggX2_chanceOfTwo_X2_does
set_option maxRecDepth 20000 in
theorem ggX2_chanceOfTwo_X2_bestForOne : GoodIn wsX2_chanceOfTwo wsX2_bestForOne := goodIn_r _ [47, 1, 15, 7, 8, 9, 5, 10, 11, 12, 13, 14, 48, 49, 50, 51, 20, 21, 22, 23, 24, 25, 26, 27, 3, 4, 6, 28, 29, 30, 31, 32, 33, 34, 35, 36, 37, 38, 39, 40, 41, 42, 43, 52, 53, 54, 55, 2, 16, 17, 18, 19, 56, 57, 58, 59, 60, 61, 62, 63, 64, 65, 66, 67] (by decide +kernel) (by decide +kernel)
set_option maxRecDepth 20000 in
theorem gX2_chanceOfTwo_X2_bestForOne : GoodIn wsX2_chanceOfTwo (wsV RX2 89 RX2 yX2_bestForOne wsX2_bestForOne) := goodIn_app (goodIn_of _ (by decide +kernel)) ggX2_chanceOfTwo_X2_bestForOne
theorem dX2_chanceOfTwo_0 : decode cX2_chanceOfTwo 0 = .ok (.iconst 0, 1) := by decide +kernel
theorem dX2_chanceOfTwo_1 : decode cX2_chanceOfTwo 1 = .ok (.istore_n 2, 1) := by decide +kernel
theorem dX2_chanceOfTwo_2 : decode cX2_chanceOfTwo 2 = .ok (.iconst 0, 1) := by decide +kernel
theorem dX2_chanceOfTwo_3 : decode cX2_chanceOfTwo 3 = .ok (.istore_n 3, 1) := by decide +kernel
theorem dX2_chanceOfTwo_4 : decode cX2_chanceOfTwo 4 = .ok (.iload_n 3, 1) := by decide +kernel
theorem dX2_chanceOfTwo_5 : decode cX2_chanceOfTwo 5 = .ok (.bipush 7, 2) := by decide +kernel
theorem dX2_chanceOfTwo_7 : decode cX2_chanceOfTwo 7 = .ok (.if_icmp .ge 95, 3) := by decide +kernel
theorem dX2_chanceOfTwo_10 : decode cX2_chanceOfTwo 10 = .ok (.iload_n 3, 1) := by decide +kernel
theorem dX2_chanceOfTwo_11 : decode cX2_chanceOfTwo 11 = .ok (.invokestatic 35, 3) := by decide +kernel
theorem dX2_chanceOfTwo_14 : decode cX2_chanceOfTwo 14 = .ok (.ifCond .eq 12, 3) := by decide +kernel
theorem dX2_chanceOfTwo_17 : decode cX2_chanceOfTwo 17 = .ok (.iload_n 1, 1) := by decide +kernel
theorem dX2_chanceOfTwo_18 : decode cX2_chanceOfTwo 18 = .ok (.iconst 2, 1) := by decide +kernel
theorem dX2_chanceOfTwo_19 : decode cX2_chanceOfTwo 19 = .ok (.if_icmp .ne 7, 3) := by decide +kernel
theorem dX2_chanceOfTwo_22 : decode cX2_chanceOfTwo 22 = .ok (.iconst 1, 1) := by decide +kernel
theorem dX2_chanceOfTwo_23 : decode cX2_chanceOfTwo 23 = .ok (.goto 4, 3) := by decide +kernel
theorem dX2_chanceOfTwo_26 : decode cX2_chanceOfTwo 26 = .ok (.iconst 0, 1) := by decide +kernel
theorem dX2_chanceOfTwo_27 : decode cX2_chanceOfTwo 27 = .ok (.istore 4, 2) := by decide +kernel
theorem dX2_chanceOfTwo_29 : decode cX2_chanceOfTwo 29 = .ok (.iload 4, 2) := by decide +kernel
theorem dX2_chanceOfTwo_31 : decode cX2_chanceOfTwo 31 = .ok (.ifCond .ne 35, 3) := by decide +kernel
theorem dX2_chanceOfTwo_34 : decode cX2_chanceOfTwo 34 = .ok (.aload_n 0, 1) := by decide +kernel
theorem dX2_chanceOfTwo_35 : decode cX2_chanceOfTwo 35 = .ok (.aload_n 0, 1) := by decide +kernel
theorem dX2_chanceOfTwo_36 : decode cX2_chanceOfTwo 36 = .ok (.aload_n 0, 1) := by decide +kernel
theorem dX2_chanceOfTwo_37 : decode cX2_chanceOfTwo 37 = .ok (.getfield 54, 3) := by decide +kernel
theorem dX2_chanceOfTwo_40 : decode cX2_chanceOfTwo 40 = .ok (.invokevirtual 66, 3) := by decide +kernel
theorem dX2_chanceOfTwo_43 : decode cX2_chanceOfTwo 43 = .ok (.iload_n 3, 1) := by decide +kernel
theorem dX2_chanceOfTwo_44 : decode cX2_chanceOfTwo 44 = .ok (.iconst 1, 1) := by decide +kernel
theorem dX2_chanceOfTwo_45 : decode cX2_chanceOfTwo 45 = .ok (.invokevirtual 83, 3) := by decide +kernel
theorem dX2_chanceOfTwo_48 : decode cX2_chanceOfTwo 48 = .ok (.ifCond .eq 18, 3) := by decide +kernel
theorem dX2_chanceOfTwo_51 : decode cX2_chanceOfTwo 51 = .ok (.iload_n 2, 1) := by decide +kernel
theorem dX2_chanceOfTwo_52 : decode cX2_chanceOfTwo 52 = .ok (.aload_n 0, 1) := by decide +kernel
theorem dX2_chanceOfTwo_53 : decode cX2_chanceOfTwo 53 = .ok (.getfield 16, 3) := by decide +kernel
theorem dX2_chanceOfTwo_56 : decode cX2_chanceOfTwo 56 = .ok (.iload_n 3, 1) := by decide +kernel
theorem dX2_chanceOfTwo_57 : decode cX2_chanceOfTwo 57 = .ok (.iaload, 1) := by decide +kernel
theorem dX2_chanceOfTwo_58 : decode cX2_chanceOfTwo 58 = .ok (.bipush 64, 2) := by decide +kernel
theorem dX2_chanceOfTwo_60 : decode cX2_chanceOfTwo 60 = .ok (.imul, 1) := by decide +kernel
theorem dX2_chanceOfTwo_61 : decode cX2_chanceOfTwo 61 = .ok (.iadd, 1) := by decide +kernel
theorem dX2_chanceOfTwo_62 : decode cX2_chanceOfTwo 62 = .ok (.istore_n 2, 1) := by decide +kernel
theorem dX2_chanceOfTwo_63 : decode cX2_chanceOfTwo 63 = .ok (.goto 33, 3) := by decide +kernel
theorem dX2_chanceOfTwo_66 : decode cX2_chanceOfTwo 66 = .ok (.iload_n 3, 1) := by decide +kernel
theorem dX2_chanceOfTwo_67 : decode cX2_chanceOfTwo 67 = .ok (.invokestatic 35, 3) := by decide +kernel
theorem dX2_chanceOfTwo_70 : decode cX2_chanceOfTwo 70 = .ok (.ifCond .eq 26, 3) := by decide +kernel
theorem dX2_chanceOfTwo_73 : decode cX2_chanceOfTwo 73 = .ok (.iload 4, 2) := by decide +kernel
theorem dX2_chanceOfTwo_75 : decode cX2_chanceOfTwo 75 = .ok (.ifCond .ne 21, 3) := by decide +kernel
theorem dX2_chanceOfTwo_78 : decode cX2_chanceOfTwo 78 = .ok (.iload_n 2, 1) := by decide +kernel
theorem dX2_chanceOfTwo_79 : decode cX2_chanceOfTwo 79 = .ok (.aload_n 0, 1) := by decide +kernel
theorem dX2_chanceOfTwo_80 : decode cX2_chanceOfTwo 80 = .ok (.getfield 16, 3) := by decide +kernel
theorem dX2_chanceOfTwo_83 : decode cX2_chanceOfTwo 83 = .ok (.iload_n 3, 1) := by decide +kernel
theorem dX2_chanceOfTwo_84 : decode cX2_chanceOfTwo 84 = .ok (.iaload, 1) := by decide +kernel
theorem dX2_chanceOfTwo_85 : decode cX2_chanceOfTwo 85 = .ok (.aload_n 0, 1) := by decide +kernel
theorem dX2_chanceOfTwo_86 : decode cX2_chanceOfTwo 86 = .ok (.iload_n 1, 1) := by decide +kernel
theorem dX2_chanceOfTwo_87 : decode cX2_chanceOfTwo 87 = .ok (.iconst 1, 1) := by decide +kernel
theorem dX2_chanceOfTwo_88 : decode cX2_chanceOfTwo 88 = .ok (.iadd, 1) := by decide +kernel
theorem dX2_chanceOfTwo_89 : decode cX2_chanceOfTwo 89 = .ok (.iload_n 3, 1) := by decide +kernel
theorem dX2_chanceOfTwo_90 : decode cX2_chanceOfTwo 90 = .ok (.invokevirtual 89, 3) := by decide +kernel
theorem dX2_chanceOfTwo_93 : decode cX2_chanceOfTwo 93 = .ok (.imul, 1) := by decide +kernel
theorem dX2_chanceOfTwo_94 : decode cX2_chanceOfTwo 94 = .ok (.iadd, 1) := by decide +kernel
theorem dX2_chanceOfTwo_95 : decode cX2_chanceOfTwo 95 = .ok (.istore_n 2, 1) := by decide +kernel
theorem dX2_chanceOfTwo_96 : decode cX2_chanceOfTwo 96 = .ok (.iinc 3 1, 3) := by decide +kernel
theorem dX2_chanceOfTwo_99 : decode cX2_chanceOfTwo 99 = .ok (.goto (-95), 3) := by decide +kernel
theorem dX2_chanceOfTwo_102 : decode cX2_chanceOfTwo 102 = .ok (.iload_n 2, 1) := by decide +kernel
theorem dX2_chanceOfTwo_103 : decode cX2_chanceOfTwo 103 = .ok (.ireturn, 1) := by decide +kernel
set_option maxRecDepth 20000 in
theorem ggX2_bestForTwo_X2_movesFor : GoodIn wsX2_bestForTwo wsX2_movesFor := goodIn_r _ [7, 8, 9, 10, 6, 11, 2, 64, 65, 66, 67, 68, 69, 70, 71] (by decide +kernel) (by decide +kernel)
set_option maxRecDepth 20000 in
theorem gX2_bestForTwo_X2_movesFor : GoodIn wsX2_bestForTwo (wsV RX2 66 RX2 yX2_movesFor wsX2_movesFor) := goodIn_app (goodIn_of _ (by decide +kernel)) ggX2_bestForTwo_X2_movesFor
set_option maxRecDepth 20000 in
theorem ggX2_bestForTwo_X2_movers : GoodIn wsX2_bestForTwo wsX2_movers := goodIn_r _ [15, 16, 17, 18, 6, 19, 2, 20, 21, 22, 23, 24, 25, 26, 27, 28, 29, 30, 31, 32, 33, 34, 35, 36, 37, 38, 39, 40, 41, 42, 64, 65, 66, 67, 68, 69, 70, 71] (by decide +kernel) (by decide +kernel)
set_option maxRecDepth 20000 in
theorem gX2_bestForTwo_X2_movers : GoodIn wsX2_bestForTwo (wsV RX2 69 RX2 yX2_movers wsX2_movers) := goodIn_app (goodIn_of _ (by decide +kernel)) ggX2_bestForTwo_X2_movers
set_option maxRecDepth 20000 in
theorem ggX2_bestForTwo_X2_chanceOfTwo : GoodIn wsX2_bestForTwo wsX2_chanceOfTwo := goodIn_r _ [46, 1, 47, 24, 25, 6, 26, 3, 4, 5, 7, 8, 9, 10, 11, 2, 48, 49, 50, 51, 16, 17, 18, 19, 20, 21, 22, 23, 27, 28, 29, 30, 31, 32, 33, 34, 35, 36, 37, 38, 39, 40, 41, 42, 52, 53, 54, 55, 12, 13, 14, 15, 56, 57, 58, 59, 60, 61, 62, 63, 64, 65, 66, 67, 68, 69, 70, 71] (by decide +kernel) (by decide +kernel)
set_option maxRecDepth 20000 in
theorem gX2_bestForTwo_X2_chanceOfTwo : GoodIn wsX2_bestForTwo (wsV RX2 92 RX2 yX2_chanceOfTwo wsX2_chanceOfTwo) := goodIn_app (goodIn_of _ (by decide +kernel)) ggX2_bestForTwo_X2_chanceOfTwo
set_option maxRecDepth 20000 in
theorem ggX2_bestForTwo_X2_can : GoodIn wsX2_bestForTwo wsX2_can := goodIn_r _ [19, 2, 20, 21, 22, 6, 23, 24, 25, 26, 27, 28, 29, 30, 31, 32, 33, 34, 35, 36, 37, 38, 39, 40, 41, 42, 64, 65, 66, 67, 68, 69, 70, 71] (by decide +kernel) (by decide +kernel)
set_option maxRecDepth 20000 in
theorem gX2_bestForTwo_X2_can : GoodIn wsX2_bestForTwo (wsV RX2 51 RX2 yX2_can wsX2_can) := goodIn_app (goodIn_of _ (by decide +kernel)) ggX2_bestForTwo_X2_can
set_option maxRecDepth 20000 in
theorem ggX2_bestForTwo_X2_target : GoodIn wsX2_bestForTwo wsX2_target := goodIn_r _ [23, 2, 24, 25, 6, 26, 27, 28, 29, 64, 65, 66, 67, 68, 69, 70, 71] (by decide +kernel) (by decide +kernel)
set_option maxRecDepth 20000 in
theorem gX2_bestForTwo_X2_target : GoodIn wsX2_bestForTwo (wsV RX2 42 RX2 yX2_target wsX2_target) := goodIn_app (goodIn_of _ (by decide +kernel)) ggX2_bestForTwo_X2_target
set_option maxRecDepth 20000 in
theorem ggX2_bestForTwo_X2_isWon : GoodIn wsX2_bestForTwo wsX2_isWon := goodIn_r _ [63, 8, 9, 10, 6, 11, 2, 64, 65, 66, 67, 68, 69, 70, 71] (by decide +kernel) (by decide +kernel)
set_option maxRecDepth 20000 in
theorem gX2_bestForTwo_X2_isWon : GoodIn wsX2_bestForTwo (wsV RX2 80 RX2 yX2_isWon wsX2_isWon) := goodIn_app (goodIn_of _ (by decide +kernel)) ggX2_bestForTwo_X2_isWon
theorem dX2_bestForTwo_0 : decode cX2_bestForTwo 0 = .ok (.aload_n 0, 1) := by decide +kernel
theorem dX2_bestForTwo_1 : decode cX2_bestForTwo 1 = .ok (.aload_n 0, 1) := by decide +kernel
theorem dX2_bestForTwo_2 : decode cX2_bestForTwo 2 = .ok (.getfield 54, 3) := by decide +kernel
theorem dX2_bestForTwo_5 : decode cX2_bestForTwo 5 = .ok (.invokevirtual 66, 3) := by decide +kernel
theorem dX2_bestForTwo_8 : decode cX2_bestForTwo 8 = .ok (.istore_n 3, 1) := by decide +kernel
theorem dX2_bestForTwo_9 : decode cX2_bestForTwo 9 = .ok (.aload_n 0, 1) := by decide +kernel
theorem dX2_bestForTwo_10 : decode cX2_bestForTwo 10 = .ok (.iload_n 3, 1) := by decide +kernel
theorem dX2_bestForTwo_11 : decode cX2_bestForTwo 11 = .ok (.iload_n 2, 1) := by decide +kernel
theorem dX2_bestForTwo_12 : decode cX2_bestForTwo 12 = .ok (.iconst 1, 1) := by decide +kernel
theorem dX2_bestForTwo_13 : decode cX2_bestForTwo 13 = .ok (.invokevirtual 69, 3) := by decide +kernel
theorem dX2_bestForTwo_16 : decode cX2_bestForTwo 16 = .ok (.ifCond .ne 11, 3) := by decide +kernel
theorem dX2_bestForTwo_19 : decode cX2_bestForTwo 19 = .ok (.aload_n 0, 1) := by decide +kernel
theorem dX2_bestForTwo_20 : decode cX2_bestForTwo 20 = .ok (.iload_n 1, 1) := by decide +kernel
theorem dX2_bestForTwo_21 : decode cX2_bestForTwo 21 = .ok (.invokevirtual 92, 3) := by decide +kernel
theorem dX2_bestForTwo_24 : decode cX2_bestForTwo 24 = .ok (.goto 4, 3) := by decide +kernel
theorem dX2_bestForTwo_27 : decode cX2_bestForTwo 27 = .ok (.iconst 0, 1) := by decide +kernel
theorem dX2_bestForTwo_28 : decode cX2_bestForTwo 28 = .ok (.istore 4, 2) := by decide +kernel
theorem dX2_bestForTwo_30 : decode cX2_bestForTwo 30 = .ok (.iconst 4, 1) := by decide +kernel
theorem dX2_bestForTwo_31 : decode cX2_bestForTwo 31 = .ok (.iload_n 3, 1) := by decide +kernel
theorem dX2_bestForTwo_32 : decode cX2_bestForTwo 32 = .ok (.imul, 1) := by decide +kernel
theorem dX2_bestForTwo_33 : decode cX2_bestForTwo 33 = .ok (.istore 5, 2) := by decide +kernel
theorem dX2_bestForTwo_35 : decode cX2_bestForTwo 35 = .ok (.iload 5, 2) := by decide +kernel
theorem dX2_bestForTwo_37 : decode cX2_bestForTwo 37 = .ok (.iconst 4, 1) := by decide +kernel
theorem dX2_bestForTwo_38 : decode cX2_bestForTwo 38 = .ok (.iload_n 3, 1) := by decide +kernel
theorem dX2_bestForTwo_39 : decode cX2_bestForTwo 39 = .ok (.imul, 1) := by decide +kernel
theorem dX2_bestForTwo_40 : decode cX2_bestForTwo 40 = .ok (.iconst 4, 1) := by decide +kernel
theorem dX2_bestForTwo_41 : decode cX2_bestForTwo 41 = .ok (.iadd, 1) := by decide +kernel
theorem dX2_bestForTwo_42 : decode cX2_bestForTwo 42 = .ok (.if_icmp .ge 91, 3) := by decide +kernel
theorem dX2_bestForTwo_45 : decode cX2_bestForTwo 45 = .ok (.aload_n 0, 1) := by decide +kernel
theorem dX2_bestForTwo_46 : decode cX2_bestForTwo 46 = .ok (.iload 5, 2) := by decide +kernel
theorem dX2_bestForTwo_48 : decode cX2_bestForTwo 48 = .ok (.iload_n 2, 1) := by decide +kernel
theorem dX2_bestForTwo_49 : decode cX2_bestForTwo 49 = .ok (.invokevirtual 51, 3) := by decide +kernel
theorem dX2_bestForTwo_52 : decode cX2_bestForTwo 52 = .ok (.ifCond .le 75, 3) := by decide +kernel
theorem dX2_bestForTwo_55 : decode cX2_bestForTwo 55 = .ok (.aload_n 0, 1) := by decide +kernel
theorem dX2_bestForTwo_56 : decode cX2_bestForTwo 56 = .ok (.getfield 7, 3) := by decide +kernel
theorem dX2_bestForTwo_59 : decode cX2_bestForTwo 59 = .ok (.iload 5, 2) := by decide +kernel
theorem dX2_bestForTwo_61 : decode cX2_bestForTwo 61 = .ok (.iaload, 1) := by decide +kernel
theorem dX2_bestForTwo_62 : decode cX2_bestForTwo 62 = .ok (.istore 6, 2) := by decide +kernel
theorem dX2_bestForTwo_64 : decode cX2_bestForTwo 64 = .ok (.aload_n 0, 1) := by decide +kernel
theorem dX2_bestForTwo_65 : decode cX2_bestForTwo 65 = .ok (.getfield 7, 3) := by decide +kernel
theorem dX2_bestForTwo_68 : decode cX2_bestForTwo 68 = .ok (.iload 5, 2) := by decide +kernel
theorem dX2_bestForTwo_70 : decode cX2_bestForTwo 70 = .ok (.aload_n 0, 1) := by decide +kernel
theorem dX2_bestForTwo_71 : decode cX2_bestForTwo 71 = .ok (.iload 5, 2) := by decide +kernel
theorem dX2_bestForTwo_73 : decode cX2_bestForTwo 73 = .ok (.iload_n 2, 1) := by decide +kernel
theorem dX2_bestForTwo_74 : decode cX2_bestForTwo 74 = .ok (.invokevirtual 42, 3) := by decide +kernel
theorem dX2_bestForTwo_77 : decode cX2_bestForTwo 77 = .ok (.iastore, 1) := by decide +kernel
theorem dX2_bestForTwo_78 : decode cX2_bestForTwo 78 = .ok (.aload_n 0, 1) := by decide +kernel
theorem dX2_bestForTwo_79 : decode cX2_bestForTwo 79 = .ok (.aload_n 0, 1) := by decide +kernel
theorem dX2_bestForTwo_80 : decode cX2_bestForTwo 80 = .ok (.getfield 54, 3) := by decide +kernel
theorem dX2_bestForTwo_83 : decode cX2_bestForTwo 83 = .ok (.iconst 2, 1) := by decide +kernel
theorem dX2_bestForTwo_84 : decode cX2_bestForTwo 84 = .ok (.irem, 1) := by decide +kernel
theorem dX2_bestForTwo_85 : decode cX2_bestForTwo 85 = .ok (.invokevirtual 80, 3) := by decide +kernel
theorem dX2_bestForTwo_88 : decode cX2_bestForTwo 88 = .ok (.ifCond .eq 7, 3) := by decide +kernel
theorem dX2_bestForTwo_91 : decode cX2_bestForTwo 91 = .ok (.iconst 0, 1) := by decide +kernel
theorem dX2_bestForTwo_92 : decode cX2_bestForTwo 92 = .ok (.goto 8, 3) := by decide +kernel
theorem dX2_bestForTwo_95 : decode cX2_bestForTwo 95 = .ok (.aload_n 0, 1) := by decide +kernel
theorem dX2_bestForTwo_96 : decode cX2_bestForTwo 96 = .ok (.iload_n 1, 1) := by decide +kernel
theorem dX2_bestForTwo_97 : decode cX2_bestForTwo 97 = .ok (.invokevirtual 92, 3) := by decide +kernel
theorem dX2_bestForTwo_100 : decode cX2_bestForTwo 100 = .ok (.istore 7, 2) := by decide +kernel
theorem dX2_bestForTwo_102 : decode cX2_bestForTwo 102 = .ok (.aload_n 0, 1) := by decide +kernel
theorem dX2_bestForTwo_103 : decode cX2_bestForTwo 103 = .ok (.getfield 7, 3) := by decide +kernel
theorem dX2_bestForTwo_106 : decode cX2_bestForTwo 106 = .ok (.iload 5, 2) := by decide +kernel
theorem dX2_bestForTwo_108 : decode cX2_bestForTwo 108 = .ok (.iload 6, 2) := by decide +kernel
theorem dX2_bestForTwo_110 : decode cX2_bestForTwo 110 = .ok (.iastore, 1) := by decide +kernel
theorem dX2_bestForTwo_111 : decode cX2_bestForTwo 111 = .ok (.iload 7, 2) := by decide +kernel
theorem dX2_bestForTwo_113 : decode cX2_bestForTwo 113 = .ok (.iload 4, 2) := by decide +kernel
theorem dX2_bestForTwo_115 : decode cX2_bestForTwo 115 = .ok (.if_icmp .le 8, 3) := by decide +kernel
theorem dX2_bestForTwo_118 : decode cX2_bestForTwo 118 = .ok (.iload 7, 2) := by decide +kernel
theorem dX2_bestForTwo_120 : decode cX2_bestForTwo 120 = .ok (.goto 5, 3) := by decide +kernel
theorem dX2_bestForTwo_123 : decode cX2_bestForTwo 123 = .ok (.iload 4, 2) := by decide +kernel
theorem dX2_bestForTwo_125 : decode cX2_bestForTwo 125 = .ok (.istore 4, 2) := by decide +kernel
theorem dX2_bestForTwo_127 : decode cX2_bestForTwo 127 = .ok (.iinc 5 1, 3) := by decide +kernel
theorem dX2_bestForTwo_130 : decode cX2_bestForTwo 130 = .ok (.goto (-95), 3) := by decide +kernel
theorem dX2_bestForTwo_133 : decode cX2_bestForTwo 133 = .ok (.iload 4, 2) := by decide +kernel
theorem dX2_bestForTwo_135 : decode cX2_bestForTwo 135 = .ok (.ireturn, 1) := by decide +kernel
set_option maxRecDepth 20000 in
theorem ggX2_chanceOfThree_X2_isGrace : GoodIn wsX2_chanceOfThree wsX2_isGrace := goodIn_r _ [6] (by decide +kernel) (by decide +kernel)
set_option maxRecDepth 20000 in
theorem gX2_chanceOfThree_X2_isGrace : GoodIn wsX2_chanceOfThree (va_wsS RX2 35 yX2_isGrace wsX2_isGrace) := goodIn_app (goodIn_of _ (by decide +kernel)) ggX2_chanceOfThree_X2_isGrace
set_option maxRecDepth 20000 in
theorem ggX2_chanceOfThree_X2_movesFor : GoodIn wsX2_chanceOfThree wsX2_movesFor := goodIn_r _ [10, 11, 12, 13, 5, 14, 15, 68, 69, 70, 71, 72, 73, 74, 75] (by decide +kernel) (by decide +kernel)
set_option maxRecDepth 20000 in
theorem gX2_chanceOfThree_X2_movesFor : GoodIn wsX2_chanceOfThree (wsV RX2 66 RX2 yX2_movesFor wsX2_movesFor) := goodIn_app (goodIn_of _ (by decide +kernel)) ggX2_chanceOfThree_X2_movesFor
set_option maxRecDepth 20000 in
theorem ggX2_chanceOfThree_X2_does : GoodIn wsX2_chanceOfThree wsX2_does := goodIn_r _ [19, 15, 20, 21, 22, 5, 23, 24, 25, 26, 27, 3, 4, 6, 28, 29, 30, 31, 32, 33, 34, 35, 36, 37, 38, 39, 40, 41, 42, 43, 68, 69, 70, 71, 72, 73, 74, 75] (by decide +kernel) (by decide +kernel)
set_option maxRecDepth 20000 in
theorem gX2_chanceOfThree_X2_does : GoodIn wsX2_chanceOfThree (wsV RX2 83 RX2 yX2_does wsX2_does) := goodIn_app (goodIn_of _ (by decide +kernel)) ggX2_chanceOfThree_X2_does
set_option maxRecDepth 20000 in
theorem ggX2_chanceOfThree_X2_bestForTwo : GoodIn wsX2_chanceOfThree wsX2_bestForTwo := goodIn_r _ [47, 1, 15, 7, 8, 9, 5, 10, 11, 12, 13, 14, 48, 49, 50, 51, 20, 21, 22, 23, 24, 25, 26, 27, 3, 4, 6, 28, 29, 30, 31, 32, 33, 34, 35, 36, 37, 38, 39, 40, 41, 42, 43, 52, 53, 54, 55, 2, 16, 17, 18, 19, 56, 57, 58, 59, 60, 61, 62, 63, 64, 65, 66, 67, 68, 69, 70, 71, 72, 73, 74, 75] (by decide +kernel) (by decide +kernel)
set_option maxRecDepth 20000 in
theorem gX2_chanceOfThree_X2_bestForTwo : GoodIn wsX2_chanceOfThree (wsV RX2 95 RX2 yX2_bestForTwo wsX2_bestForTwo) := goodIn_app (goodIn_of _ (by decide +kernel)) ggX2_chanceOfThree_X2_bestForTwo
theorem dX2_chanceOfThree_0 : decode cX2_chanceOfThree 0 = .ok (.iconst 0, 1) := by decide +kernel
theorem dX2_chanceOfThree_1 : decode cX2_chanceOfThree 1 = .ok (.istore_n 2, 1) := by decide +kernel
theorem dX2_chanceOfThree_2 : decode cX2_chanceOfThree 2 = .ok (.iconst 0, 1) := by decide +kernel
theorem dX2_chanceOfThree_3 : decode cX2_chanceOfThree 3 = .ok (.istore_n 3, 1) := by decide +kernel
theorem dX2_chanceOfThree_4 : decode cX2_chanceOfThree 4 = .ok (.iload_n 3, 1) := by decide +kernel
theorem dX2_chanceOfThree_5 : decode cX2_chanceOfThree 5 = .ok (.bipush 7, 2) := by decide +kernel
theorem dX2_chanceOfThree_7 : decode cX2_chanceOfThree 7 = .ok (.if_icmp .ge 96, 3) := by decide +kernel
theorem dX2_chanceOfThree_10 : decode cX2_chanceOfThree 10 = .ok (.iload_n 3, 1) := by decide +kernel
theorem dX2_chanceOfThree_11 : decode cX2_chanceOfThree 11 = .ok (.invokestatic 35, 3) := by decide +kernel
theorem dX2_chanceOfThree_14 : decode cX2_chanceOfThree 14 = .ok (.ifCond .eq 12, 3) := by decide +kernel
theorem dX2_chanceOfThree_17 : decode cX2_chanceOfThree 17 = .ok (.iload_n 1, 1) := by decide +kernel
theorem dX2_chanceOfThree_18 : decode cX2_chanceOfThree 18 = .ok (.iconst 2, 1) := by decide +kernel
theorem dX2_chanceOfThree_19 : decode cX2_chanceOfThree 19 = .ok (.if_icmp .ne 7, 3) := by decide +kernel
theorem dX2_chanceOfThree_22 : decode cX2_chanceOfThree 22 = .ok (.iconst 1, 1) := by decide +kernel
theorem dX2_chanceOfThree_23 : decode cX2_chanceOfThree 23 = .ok (.goto 4, 3) := by decide +kernel
theorem dX2_chanceOfThree_26 : decode cX2_chanceOfThree 26 = .ok (.iconst 0, 1) := by decide +kernel
theorem dX2_chanceOfThree_27 : decode cX2_chanceOfThree 27 = .ok (.istore 4, 2) := by decide +kernel
theorem dX2_chanceOfThree_29 : decode cX2_chanceOfThree 29 = .ok (.iload 4, 2) := by decide +kernel
theorem dX2_chanceOfThree_31 : decode cX2_chanceOfThree 31 = .ok (.ifCond .ne 36, 3) := by decide +kernel
theorem dX2_chanceOfThree_34 : decode cX2_chanceOfThree 34 = .ok (.aload_n 0, 1) := by decide +kernel
theorem dX2_chanceOfThree_35 : decode cX2_chanceOfThree 35 = .ok (.aload_n 0, 1) := by decide +kernel
theorem dX2_chanceOfThree_36 : decode cX2_chanceOfThree 36 = .ok (.aload_n 0, 1) := by decide +kernel
theorem dX2_chanceOfThree_37 : decode cX2_chanceOfThree 37 = .ok (.getfield 54, 3) := by decide +kernel
theorem dX2_chanceOfThree_40 : decode cX2_chanceOfThree 40 = .ok (.invokevirtual 66, 3) := by decide +kernel
theorem dX2_chanceOfThree_43 : decode cX2_chanceOfThree 43 = .ok (.iload_n 3, 1) := by decide +kernel
theorem dX2_chanceOfThree_44 : decode cX2_chanceOfThree 44 = .ok (.iconst 1, 1) := by decide +kernel
theorem dX2_chanceOfThree_45 : decode cX2_chanceOfThree 45 = .ok (.invokevirtual 83, 3) := by decide +kernel
theorem dX2_chanceOfThree_48 : decode cX2_chanceOfThree 48 = .ok (.ifCond .eq 19, 3) := by decide +kernel
theorem dX2_chanceOfThree_51 : decode cX2_chanceOfThree 51 = .ok (.iload_n 2, 1) := by decide +kernel
theorem dX2_chanceOfThree_52 : decode cX2_chanceOfThree 52 = .ok (.aload_n 0, 1) := by decide +kernel
theorem dX2_chanceOfThree_53 : decode cX2_chanceOfThree 53 = .ok (.getfield 16, 3) := by decide +kernel
theorem dX2_chanceOfThree_56 : decode cX2_chanceOfThree 56 = .ok (.iload_n 3, 1) := by decide +kernel
theorem dX2_chanceOfThree_57 : decode cX2_chanceOfThree 57 = .ok (.iaload, 1) := by decide +kernel
theorem dX2_chanceOfThree_58 : decode cX2_chanceOfThree 58 = .ok (.sipush 4096, 3) := by decide +kernel
theorem dX2_chanceOfThree_61 : decode cX2_chanceOfThree 61 = .ok (.imul, 1) := by decide +kernel
theorem dX2_chanceOfThree_62 : decode cX2_chanceOfThree 62 = .ok (.iadd, 1) := by decide +kernel
theorem dX2_chanceOfThree_63 : decode cX2_chanceOfThree 63 = .ok (.istore_n 2, 1) := by decide +kernel
theorem dX2_chanceOfThree_64 : decode cX2_chanceOfThree 64 = .ok (.goto 33, 3) := by decide +kernel
theorem dX2_chanceOfThree_67 : decode cX2_chanceOfThree 67 = .ok (.iload_n 3, 1) := by decide +kernel
theorem dX2_chanceOfThree_68 : decode cX2_chanceOfThree 68 = .ok (.invokestatic 35, 3) := by decide +kernel
theorem dX2_chanceOfThree_71 : decode cX2_chanceOfThree 71 = .ok (.ifCond .eq 26, 3) := by decide +kernel
theorem dX2_chanceOfThree_74 : decode cX2_chanceOfThree 74 = .ok (.iload 4, 2) := by decide +kernel
theorem dX2_chanceOfThree_76 : decode cX2_chanceOfThree 76 = .ok (.ifCond .ne 21, 3) := by decide +kernel
theorem dX2_chanceOfThree_79 : decode cX2_chanceOfThree 79 = .ok (.iload_n 2, 1) := by decide +kernel
theorem dX2_chanceOfThree_80 : decode cX2_chanceOfThree 80 = .ok (.aload_n 0, 1) := by decide +kernel
theorem dX2_chanceOfThree_81 : decode cX2_chanceOfThree 81 = .ok (.getfield 16, 3) := by decide +kernel
theorem dX2_chanceOfThree_84 : decode cX2_chanceOfThree 84 = .ok (.iload_n 3, 1) := by decide +kernel
theorem dX2_chanceOfThree_85 : decode cX2_chanceOfThree 85 = .ok (.iaload, 1) := by decide +kernel
theorem dX2_chanceOfThree_86 : decode cX2_chanceOfThree 86 = .ok (.aload_n 0, 1) := by decide +kernel
theorem dX2_chanceOfThree_87 : decode cX2_chanceOfThree 87 = .ok (.iload_n 1, 1) := by decide +kernel
theorem dX2_chanceOfThree_88 : decode cX2_chanceOfThree 88 = .ok (.iconst 1, 1) := by decide +kernel
theorem dX2_chanceOfThree_89 : decode cX2_chanceOfThree 89 = .ok (.iadd, 1) := by decide +kernel
theorem dX2_chanceOfThree_90 : decode cX2_chanceOfThree 90 = .ok (.iload_n 3, 1) := by decide +kernel
theorem dX2_chanceOfThree_91 : decode cX2_chanceOfThree 91 = .ok (.invokevirtual 95, 3) := by decide +kernel
theorem dX2_chanceOfThree_94 : decode cX2_chanceOfThree 94 = .ok (.imul, 1) := by decide +kernel
theorem dX2_chanceOfThree_95 : decode cX2_chanceOfThree 95 = .ok (.iadd, 1) := by decide +kernel
theorem dX2_chanceOfThree_96 : decode cX2_chanceOfThree 96 = .ok (.istore_n 2, 1) := by decide +kernel
theorem dX2_chanceOfThree_97 : decode cX2_chanceOfThree 97 = .ok (.iinc 3 1, 3) := by decide +kernel
theorem dX2_chanceOfThree_100 : decode cX2_chanceOfThree 100 = .ok (.goto (-96), 3) := by decide +kernel
theorem dX2_chanceOfThree_103 : decode cX2_chanceOfThree 103 = .ok (.iload_n 2, 1) := by decide +kernel
theorem dX2_chanceOfThree_104 : decode cX2_chanceOfThree 104 = .ok (.ireturn, 1) := by decide +kernel
set_option maxRecDepth 20000 in
theorem ggX2_captureChance_X2_isIn : GoodIn wsX2_captureChance wsX2_isIn := goodIn_r _ [7] (by decide +kernel) (by decide +kernel)
set_option maxRecDepth 20000 in
theorem gX2_captureChance_X2_isIn : GoodIn wsX2_captureChance (va_wsS RX2 23 yX2_isIn wsX2_isIn) := goodIn_app (goodIn_of _ (by decide +kernel)) ggX2_captureChance_X2_isIn
set_option maxRecDepth 20000 in
theorem ggX2_captureChance_X2_chanceOfOne : GoodIn wsX2_captureChance wsX2_chanceOfOne := goodIn_r _ [11, 12, 13, 14, 15, 6, 16, 17, 18, 19, 20, 21, 22, 23, 24, 25, 26, 27, 28, 29, 30, 31, 32, 33, 34, 35, 36, 37, 38, 39, 40, 41, 42, 43, 44, 45, 46, 47, 4, 5, 7, 48, 49, 50, 75, 76, 77, 78, 79, 80, 81, 82] (by decide +kernel) (by decide +kernel)
set_option maxRecDepth 20000 in
theorem gX2_captureChance_X2_chanceOfOne : GoodIn wsX2_captureChance (wsV RX2 86 RX2 yX2_chanceOfOne wsX2_chanceOfOne) := goodIn_app (goodIn_of _ (by decide +kernel)) ggX2_captureChance_X2_chanceOfOne
set_option maxRecDepth 20000 in
theorem ggX2_captureChance_X2_chanceOfTwo : GoodIn wsX2_captureChance wsX2_chanceOfTwo := goodIn_r _ [54, 12, 13, 14, 15, 6, 16, 17, 18, 19, 20, 21, 22, 23, 24, 25, 26, 27, 28, 29, 30, 31, 32, 33, 34, 35, 36, 37, 38, 39, 40, 41, 42, 43, 44, 45, 46, 47, 4, 5, 7, 48, 49, 50, 55, 56, 57, 58, 59, 60, 61, 62, 8, 9, 10, 11, 63, 64, 65, 66, 75, 76, 77, 78, 79, 80, 81, 82] (by decide +kernel) (by decide +kernel)
set_option maxRecDepth 20000 in
theorem gX2_captureChance_X2_chanceOfTwo : GoodIn wsX2_captureChance (wsV RX2 92 RX2 yX2_chanceOfTwo wsX2_chanceOfTwo) := goodIn_app (goodIn_of _ (by decide +kernel)) ggX2_captureChance_X2_chanceOfTwo
set_option maxRecDepth 20000 in
theorem ggX2_captureChance_X2_chanceOfThree : GoodIn wsX2_captureChance wsX2_chanceOfThree := goodIn_r _ [70, 12, 13, 14, 15, 6, 16, 17, 18, 19, 20, 21, 22, 23, 24, 25, 26, 27, 28, 29, 30, 31, 32, 33, 34, 35, 36, 37, 38, 39, 40, 41, 42, 43, 44, 45, 46, 47, 4, 5, 7, 48, 49, 50, 71, 72, 73, 74, 59, 60, 61, 62, 51, 52, 53, 54, 55, 56, 57, 58, 8, 9, 10, 11, 63, 64, 65, 66, 75, 76, 77, 78, 79, 80, 81, 82] (by decide +kernel) (by decide +kernel)
set_option maxRecDepth 20000 in
theorem gX2_captureChance_X2_chanceOfThree : GoodIn wsX2_captureChance (wsV RX2 98 RX2 yX2_chanceOfThree wsX2_chanceOfThree) := goodIn_app (goodIn_of _ (by decide +kernel)) ggX2_captureChance_X2_chanceOfThree
theorem dX2_captureChance_0 : decode cX2_captureChance 0 = .ok (.aload_n 0, 1) := by decide +kernel
theorem dX2_captureChance_1 : decode cX2_captureChance 1 = .ok (.iload_n 1, 1) := by decide +kernel
theorem dX2_captureChance_2 : decode cX2_captureChance 2 = .ok (.iconst 1, 1) := by decide +kernel
theorem dX2_captureChance_3 : decode cX2_captureChance 3 = .ok (.iconst 3, 1) := by decide +kernel
theorem dX2_captureChance_4 : decode cX2_captureChance 4 = .ok (.invokestatic 23, 3) := by decide +kernel
theorem dX2_captureChance_7 : decode cX2_captureChance 7 = .ok (.ifCond .ne 7, 3) := by decide +kernel
theorem dX2_captureChance_10 : decode cX2_captureChance 10 = .ok (.iconst 1, 1) := by decide +kernel
theorem dX2_captureChance_11 : decode cX2_captureChance 11 = .ok (.goto 15, 3) := by decide +kernel
theorem dX2_captureChance_14 : decode cX2_captureChance 14 = .ok (.aload_n 0, 1) := by decide +kernel
theorem dX2_captureChance_15 : decode cX2_captureChance 15 = .ok (.getfield 60, 3) := by decide +kernel
theorem dX2_captureChance_18 : decode cX2_captureChance 18 = .ok (.ifCond .eq 7, 3) := by decide +kernel
theorem dX2_captureChance_21 : decode cX2_captureChance 21 = .ok (.iconst 2, 1) := by decide +kernel
theorem dX2_captureChance_22 : decode cX2_captureChance 22 = .ok (.goto 4, 3) := by decide +kernel
theorem dX2_captureChance_25 : decode cX2_captureChance 25 = .ok (.iconst 0, 1) := by decide +kernel
theorem dX2_captureChance_26 : decode cX2_captureChance 26 = .ok (.putfield 19, 3) := by decide +kernel
theorem dX2_captureChance_29 : decode cX2_captureChance 29 = .ok (.aload_n 0, 1) := by decide +kernel
theorem dX2_captureChance_30 : decode cX2_captureChance 30 = .ok (.getfield 19, 3) := by decide +kernel
theorem dX2_captureChance_33 : decode cX2_captureChance 33 = .ok (.ifCond .le 5, 3) := by decide +kernel
theorem dX2_captureChance_36 : decode cX2_captureChance 36 = .ok (.iconst 0, 1) := by decide +kernel
theorem dX2_captureChance_37 : decode cX2_captureChance 37 = .ok (.ireturn, 1) := by decide +kernel
theorem dX2_captureChance_38 : decode cX2_captureChance 38 = .ok (.iload_n 1, 1) := by decide +kernel
theorem dX2_captureChance_39 : decode cX2_captureChance 39 = .ok (.iconst 1, 1) := by decide +kernel
theorem dX2_captureChance_40 : decode cX2_captureChance 40 = .ok (.if_icmp .ne 14, 3) := by decide +kernel
theorem dX2_captureChance_43 : decode cX2_captureChance 43 = .ok (.aload_n 0, 1) := by decide +kernel
theorem dX2_captureChance_44 : decode cX2_captureChance 44 = .ok (.aload_n 0, 1) := by decide +kernel
theorem dX2_captureChance_45 : decode cX2_captureChance 45 = .ok (.getfield 57, 3) := by decide +kernel
theorem dX2_captureChance_48 : decode cX2_captureChance 48 = .ok (.invokevirtual 86, 3) := by decide +kernel
theorem dX2_captureChance_51 : decode cX2_captureChance 51 = .ok (.goto 27, 3) := by decide +kernel
theorem dX2_captureChance_54 : decode cX2_captureChance 54 = .ok (.iload_n 1, 1) := by decide +kernel
theorem dX2_captureChance_55 : decode cX2_captureChance 55 = .ok (.iconst 2, 1) := by decide +kernel
theorem dX2_captureChance_56 : decode cX2_captureChance 56 = .ok (.if_icmp .ne 14, 3) := by decide +kernel
theorem dX2_captureChance_59 : decode cX2_captureChance 59 = .ok (.aload_n 0, 1) := by decide +kernel
theorem dX2_captureChance_60 : decode cX2_captureChance 60 = .ok (.aload_n 0, 1) := by decide +kernel
theorem dX2_captureChance_61 : decode cX2_captureChance 61 = .ok (.getfield 57, 3) := by decide +kernel
theorem dX2_captureChance_64 : decode cX2_captureChance 64 = .ok (.invokevirtual 92, 3) := by decide +kernel
theorem dX2_captureChance_67 : decode cX2_captureChance 67 = .ok (.goto 11, 3) := by decide +kernel
theorem dX2_captureChance_70 : decode cX2_captureChance 70 = .ok (.aload_n 0, 1) := by decide +kernel
theorem dX2_captureChance_71 : decode cX2_captureChance 71 = .ok (.aload_n 0, 1) := by decide +kernel
theorem dX2_captureChance_72 : decode cX2_captureChance 72 = .ok (.getfield 57, 3) := by decide +kernel
theorem dX2_captureChance_75 : decode cX2_captureChance 75 = .ok (.invokevirtual 98, 3) := by decide +kernel
theorem dX2_captureChance_78 : decode cX2_captureChance 78 = .ok (.ireturn, 1) := by decide +kernel
theorem dJ9_max_7cf53_0 : decode cJ9_max_7cf53 0 = .ok (.iload_n 0, 1) := by decide +kernel
theorem dJ9_max_7cf53_1 : decode cJ9_max_7cf53 1 = .ok (.iload_n 1, 1) := by decide +kernel
theorem dJ9_max_7cf53_2 : decode cJ9_max_7cf53 2 = .ok (.if_icmp .lt 7, 3) := by decide +kernel
theorem dJ9_max_7cf53_5 : decode cJ9_max_7cf53 5 = .ok (.iload_n 0, 1) := by decide +kernel
theorem dJ9_max_7cf53_6 : decode cJ9_max_7cf53 6 = .ok (.goto 4, 3) := by decide +kernel
theorem dJ9_max_7cf53_9 : decode cJ9_max_7cf53 9 = .ok (.iload_n 1, 1) := by decide +kernel
theorem dJ9_max_7cf53_10 : decode cJ9_max_7cf53 10 = .ok (.ireturn, 1) := by decide +kernel
theorem dJ9_min_7cf53_0 : decode cJ9_min_7cf53 0 = .ok (.iload_n 0, 1) := by decide +kernel
theorem dJ9_min_7cf53_1 : decode cJ9_min_7cf53 1 = .ok (.iload_n 1, 1) := by decide +kernel
theorem dJ9_min_7cf53_2 : decode cJ9_min_7cf53 2 = .ok (.if_icmp .gt 7, 3) := by decide +kernel
theorem dJ9_min_7cf53_5 : decode cJ9_min_7cf53 5 = .ok (.iload_n 0, 1) := by decide +kernel
theorem dJ9_min_7cf53_6 : decode cJ9_min_7cf53 6 = .ok (.goto 4, 3) := by decide +kernel
theorem dJ9_min_7cf53_9 : decode cJ9_min_7cf53 9 = .ok (.iload_n 1, 1) := by decide +kernel
theorem dJ9_min_7cf53_10 : decode cJ9_min_7cf53 10 = .ok (.ireturn, 1) := by decide +kernel
abbrev vwCl : List vw_C := [(RX0, TX0, 2), (RX1, TX1, 6), (RX2, TX2, 8)]
end
section
def RL : String := "PachisiYardLaw"
abbrev cL_throwShells : ByteArray := method_3_code
def yL_throwShells : MethodName := ⟨RL, "throwShells", "(LPachisiYard;I[J)I"⟩
abbrev cL_move : ByteArray := method_4_code
def yL_move : MethodName := ⟨RL, "move", "(LPachisiYard;I[J)I"⟩
abbrev cL_movable : ByteArray := method_5_code
def yL_movable : MethodName := ⟨RL, "movable", "(LPachisiYard;[J)I"⟩
abbrev cL_position : ByteArray := method_6_code
def yL_position : MethodName := ⟨RL, "position", "(LPachisiYard;II[J)I"⟩
abbrev cL_square : ByteArray := method_7_code
def yL_square : MethodName := ⟨RL, "square", "(LPachisiYard;II[J)I"⟩
abbrev cL_standing : ByteArray := method_8_code
def yL_standing : MethodName := ⟨RL, "standing", "(LPachisiYard;II[J)I"⟩
abbrev cL_isSafe : ByteArray := method_9_code
def yL_isSafe : MethodName := ⟨RL, "isSafe", "(LPachisiYard;I[J)I"⟩
abbrev cL_home : ByteArray := method_10_code
def yL_home : MethodName := ⟨RL, "home", "(LPachisiYard;I[J)I"⟩
abbrev cL_captures : ByteArray := method_11_code
def yL_captures : MethodName := ⟨RL, "captures", "(LPachisiYard;I[J)I"⟩
abbrev cL_distance : ByteArray := method_12_code
def yL_distance : MethodName := ⟨RL, "distance", "(LPachisiYard;I[J)I"⟩
abbrev cL_ways : ByteArray := method_13_code
def yL_ways : MethodName := ⟨RL, "ways", "(LPachisiYard;I[J)I"⟩
abbrev cL_threat : ByteArray := method_14_code
def yL_threat : MethodName := ⟨RL, "threat", "(LPachisiYard;III[J)I"⟩
abbrev cL_captureChance : ByteArray := method_15_code
def yL_captureChance : MethodName := ⟨RL, "captureChance", "(LPachisiYard;I[J)I"⟩
abbrev cL_law : ByteArray := code
def yL_law : MethodName := ⟨RL, "law", "([I)Z"⟩
def wsL_throwShells_r1 : List Cond := [Cond.classLink RL 13 "java/lang/IllegalArgumentException", Cond.classLink RL 15 "java/lang/IllegalStateException", Cond.methodLink RL 7 yX1_throwShells, Cond.instanceMethod yX1_throwShells, Cond.selects RX1 yX1_throwShells yX1_throwShells, Cond.initialized RX1, Cond.code yX1_throwShells cX1_throwShells 3 (some .int), Cond.classLink RX1 33 "java/lang/IllegalArgumentException", Cond.initialized "java/lang/IllegalArgumentException", Cond.fieldLink RX1 24 "PachisiYard" "gracesInRow" "I", Cond.fieldLink RX1 10 "PachisiYard" "board" "LPachisiYard$Board;", Cond.fieldLink RX1 20 "PachisiYard" "turn" "I", Cond.fieldLink RX1 30 "PachisiYard" "mouthsThrown" "I", Cond.fieldLink RX1 27 "PachisiYard" "stage" "I", Cond.methodLink RX1 40 yX1_requireThrowDue, Cond.instanceMethod yX1_requireThrowDue, Cond.selects RX1 yX1_requireThrowDue yX1_requireThrowDue, Cond.code yX1_requireThrowDue cX1_requireThrowDue 1 none, Cond.classLink RX1 76 "java/lang/IllegalStateException", Cond.initialized "java/lang/IllegalStateException", Cond.methodLink RX1 43 yX1_worthOf, Cond.static yX1_worthOf, Cond.code yX1_worthOf cX1_worthOf 1 (some .int), Cond.methodLink RX1 47 yX1_isGraceTooMany]
def wsL_throwShells_r2 : List Cond := [Cond.static yX1_isGraceTooMany, Cond.code yX1_isGraceTooMany cX1_isGraceTooMany 2 (some .boolean), Cond.methodLink RX1 54 yX1_isGrace, Cond.static yX1_isGrace, Cond.code yX1_isGrace cX1_isGrace 1 (some .boolean), Cond.methodLink RX1 51 yX1_passTurn, Cond.instanceMethod yX1_passTurn, Cond.selects RX1 yX1_passTurn yX1_passTurn, Cond.code yX1_passTurn cX1_passTurn 1 none, Cond.methodLink RX1 58 yX0_moverFor, Cond.instanceMethod yX0_moverFor, Cond.selects RX0 yX0_moverFor yX0_moverFor, Cond.initialized RX0, Cond.code yX0_moverFor cX0_moverFor 2 (some .int), Cond.methodLink RX0 22 yX0_countHome, Cond.instanceMethod yX0_countHome, Cond.selects RX0 yX0_countHome yX0_countHome, Cond.code yX0_countHome cX0_countHome 4 (some .int), Cond.methodLink RX0 18 yX0_positionOf, Cond.instanceMethod yX0_positionOf, Cond.selects RX0 yX0_positionOf yX0_positionOf, Cond.code yX0_positionOf cX0_positionOf 4 (some .int), Cond.fieldLink RX0 9 "PachisiYard$Board" "positions" "[I", Cond.static yX1_partnerOf]
def wsL_throwShells_r3 : List Cond := [Cond.code yX1_partnerOf cX1_partnerOf 1 (some .int), Cond.methodLink RX1 61 yX0_movableSet, Cond.instanceMethod yX0_movableSet, Cond.selects RX0 yX0_movableSet yX0_movableSet, Cond.code yX0_movableSet cX0_movableSet 5 (some .int), Cond.methodLink RX0 71 yX0_targetOf, Cond.instanceMethod yX0_targetOf, Cond.selects RX0 yX0_targetOf yX0_targetOf, Cond.code yX0_targetOf cX0_targetOf 7 (some .int), Cond.methodLink RX0 49 yX0_isWayFree, Cond.instanceMethod yX0_isWayFree, Cond.selects RX0 yX0_isWayFree yX0_isWayFree, Cond.code yX0_isWayFree cX0_isWayFree 6 (some .boolean), Cond.methodLink RX0 60 Lib.Math.min.name, Cond.static Lib.Math.min.name, Cond.initialized "java/lang/Math", Cond.code Lib.Math.min.name Lib.Math.min.code 2 (some .int), Cond.methodLink RX0 29 yX0_squareAt, Cond.instanceMethod yX0_squareAt, Cond.selects RX0 yX0_squareAt yX0_squareAt, Cond.code yX0_squareAt cX0_squareAt 3 (some .int), Cond.static yX1_otherTeam, Cond.code yX1_otherTeam cX1_otherTeam 1 (some .int), Cond.methodLink RX0 68 yX0_countOn]
def wsL_throwShells_r4 : List Cond := [Cond.instanceMethod yX0_countOn, Cond.selects RX0 yX0_countOn yX0_countOn, Cond.code yX0_countOn cX0_countOn 4 (some .int), Cond.fieldLink RX0 15 "PachisiYard$Board" "counts" "[I", Cond.methodLink RX0 53 yX0_isCapture, Cond.instanceMethod yX0_isCapture, Cond.selects RX0 yX0_isCapture yX0_isCapture, Cond.code yX0_isCapture cX0_isCapture 3 (some .boolean), Cond.static yX1_isSafeSquare, Cond.code yX1_isSafeSquare cX1_isSafeSquare 2 (some .boolean)]
def wsL_throwShells : List Cond := .codeWith yL_throwShells cL_throwShells 4 (some .int) [(0, 9, 12, 13), (0, 9, 15, 15)] :: ((wsL_throwShells_r1 ++ (wsL_throwShells_r2 ++ (wsL_throwShells_r3 ++ wsL_throwShells_r4))) ++ wsX10 ++ wsX00 ++ (vx_atS RX1 37 "java/lang/IllegalArgumentException" ["java/lang/RuntimeException", "java/lang/Exception"]).filter goodWord ++ (vx_atS RX1 80 "java/lang/IllegalStateException" ["java/lang/RuntimeException", "java/lang/Exception"]).filter goodWord)
def wsL_move_r1 : List Cond := [Cond.classLink RL 20 "java/lang/IndexOutOfBoundsException", Cond.classLink RL 15 "java/lang/IllegalStateException", Cond.methodLink RL 17 yX1_move, Cond.instanceMethod yX1_move, Cond.selects RX1 yX1_move yX1_move, Cond.initialized RX1, Cond.code yX1_move cX1_move 5 (some .int), Cond.classLink RX1 76 "java/lang/IllegalStateException", Cond.initialized "java/lang/IllegalStateException", Cond.fieldLink RX1 10 "PachisiYard" "board" "LPachisiYard$Board;", Cond.fieldLink RX1 20 "PachisiYard" "turn" "I", Cond.fieldLink RX1 30 "PachisiYard" "mouthsThrown" "I", Cond.methodLink RX1 65 yX1_requirePiece, Cond.static yX1_requirePiece, Cond.code yX1_requirePiece cX1_requirePiece 1 none, Cond.classLink RX1 151 "java/lang/IndexOutOfBoundsException", Cond.initialized "java/lang/IndexOutOfBoundsException", Cond.methodLink RX1 69 yX1_requireMoveDue, Cond.instanceMethod yX1_requireMoveDue, Cond.selects RX1 yX1_requireMoveDue yX1_requireMoveDue, Cond.code yX1_requireMoveDue cX1_requireMoveDue 1 none, Cond.fieldLink RX1 27 "PachisiYard" "stage" "I", Cond.methodLink RX1 58 yX0_moverFor, Cond.instanceMethod yX0_moverFor]
def wsL_move_r2 : List Cond := [Cond.selects RX0 yX0_moverFor yX0_moverFor, Cond.initialized RX0, Cond.code yX0_moverFor cX0_moverFor 2 (some .int), Cond.methodLink RX0 22 yX0_countHome, Cond.instanceMethod yX0_countHome, Cond.selects RX0 yX0_countHome yX0_countHome, Cond.code yX0_countHome cX0_countHome 4 (some .int), Cond.methodLink RX0 18 yX0_positionOf, Cond.instanceMethod yX0_positionOf, Cond.selects RX0 yX0_positionOf yX0_positionOf, Cond.code yX0_positionOf cX0_positionOf 4 (some .int), Cond.fieldLink RX0 9 "PachisiYard$Board" "positions" "[I", Cond.static yX1_partnerOf, Cond.code yX1_partnerOf cX1_partnerOf 1 (some .int), Cond.methodLink RX1 72 yX0_targetOf, Cond.instanceMethod yX0_targetOf, Cond.selects RX0 yX0_targetOf yX0_targetOf, Cond.code yX0_targetOf cX0_targetOf 7 (some .int), Cond.static yX1_isGrace, Cond.code yX1_isGrace cX1_isGrace 1 (some .boolean), Cond.static yX1_worthOf, Cond.code yX1_worthOf cX1_worthOf 1 (some .int), Cond.methodLink RX0 49 yX0_isWayFree, Cond.instanceMethod yX0_isWayFree]
def wsL_move_r3 : List Cond := [Cond.selects RX0 yX0_isWayFree yX0_isWayFree, Cond.code yX0_isWayFree cX0_isWayFree 6 (some .boolean), Cond.methodLink RX0 60 Lib.Math.min.name, Cond.static Lib.Math.min.name, Cond.initialized "java/lang/Math", Cond.code Lib.Math.min.name Lib.Math.min.code 2 (some .int), Cond.methodLink RX0 29 yX0_squareAt, Cond.instanceMethod yX0_squareAt, Cond.selects RX0 yX0_squareAt yX0_squareAt, Cond.code yX0_squareAt cX0_squareAt 3 (some .int), Cond.static yX1_otherTeam, Cond.code yX1_otherTeam cX1_otherTeam 1 (some .int), Cond.methodLink RX0 68 yX0_countOn, Cond.instanceMethod yX0_countOn, Cond.selects RX0 yX0_countOn yX0_countOn, Cond.code yX0_countOn cX0_countOn 4 (some .int), Cond.fieldLink RX0 15 "PachisiYard$Board" "counts" "[I", Cond.methodLink RX0 53 yX0_isCapture, Cond.instanceMethod yX0_isCapture, Cond.selects RX0 yX0_isCapture yX0_isCapture, Cond.code yX0_isCapture cX0_isCapture 3 (some .boolean), Cond.static yX1_isSafeSquare, Cond.code yX1_isSafeSquare cX1_isSafeSquare 2 (some .boolean), Cond.methodLink RX1 81 yX0_isCapture]
def wsL_move_r4 : List Cond := [Cond.methodLink RX1 84 yX1_otherTeam, Cond.methodLink RX1 87 yX0_squareAt, Cond.methodLink RX1 90 yX0_sendToYard, Cond.instanceMethod yX0_sendToYard, Cond.selects RX0 yX0_sendToYard yX0_sendToYard, Cond.code yX0_sendToYard cX0_sendToYard 5 none, Cond.methodLink RX0 39 yX0_place, Cond.instanceMethod yX0_place, Cond.selects RX0 yX0_place yX0_place, Cond.code yX0_place cX0_place 5 none, Cond.static yX1_teamOf, Cond.code yX1_teamOf cX1_teamOf 1 (some .int), Cond.methodLink RX0 35 yX0_addOn, Cond.instanceMethod yX0_addOn, Cond.selects RX0 yX0_addOn yX0_addOn, Cond.code yX0_addOn cX0_addOn 5 none, Cond.methodLink RX1 94 yX1_countCapture, Cond.instanceMethod yX1_countCapture, Cond.selects RX1 yX1_countCapture yX1_countCapture, Cond.code yX1_countCapture cX1_countCapture 2 none, Cond.fieldLink RX1 16 "PachisiYard" "captureCounts" "[I", Cond.methodLink RX1 97 yX0_place, Cond.methodLink RX1 101 yX1_endMove, Cond.instanceMethod yX1_endMove]
def wsL_move_r5 : List Cond := [Cond.selects RX1 yX1_endMove yX1_endMove, Cond.code yX1_endMove cX1_endMove 2 none, Cond.methodLink RX1 166 yX0_isTeamHome, Cond.instanceMethod yX0_isTeamHome, Cond.selects RX0 yX0_isTeamHome yX0_isTeamHome, Cond.code yX0_isTeamHome cX0_isTeamHome 2 (some .boolean), Cond.methodLink RX1 54 yX1_isGrace, Cond.methodLink RX1 51 yX1_passTurn, Cond.instanceMethod yX1_passTurn, Cond.selects RX1 yX1_passTurn yX1_passTurn, Cond.code yX1_passTurn cX1_passTurn 1 none, Cond.fieldLink RX1 24 "PachisiYard" "gracesInRow" "I"]
def wsL_move : List Cond := .codeWith yL_move cL_move 4 (some .int) [(0, 9, 12, 20), (0, 9, 15, 15)] :: ((wsL_move_r1 ++ (wsL_move_r2 ++ (wsL_move_r3 ++ (wsL_move_r4 ++ wsL_move_r5)))) ++ wsX10 ++ wsX00 ++ (vx_atS RX1 80 "java/lang/IllegalStateException" ["java/lang/RuntimeException", "java/lang/Exception"]).filter goodWord ++ (vx_atS RX1 155 "java/lang/IndexOutOfBoundsException" ["java/lang/RuntimeException", "java/lang/Exception"]).filter goodWord)
def wsL_movable_r1 : List Cond := [Cond.classLink RL 15 "java/lang/IllegalStateException", Cond.methodLink RL 22 yX1_movable, Cond.instanceMethod yX1_movable, Cond.selects RX1 yX1_movable yX1_movable, Cond.initialized RX1, Cond.code yX1_movable cX1_movable 1 (some .int), Cond.fieldLink RX1 10 "PachisiYard" "board" "LPachisiYard$Board;", Cond.fieldLink RX1 20 "PachisiYard" "turn" "I", Cond.fieldLink RX1 30 "PachisiYard" "mouthsThrown" "I", Cond.methodLink RX1 69 yX1_requireMoveDue, Cond.instanceMethod yX1_requireMoveDue, Cond.selects RX1 yX1_requireMoveDue yX1_requireMoveDue, Cond.code yX1_requireMoveDue cX1_requireMoveDue 1 none, Cond.classLink RX1 76 "java/lang/IllegalStateException", Cond.initialized "java/lang/IllegalStateException", Cond.fieldLink RX1 27 "PachisiYard" "stage" "I", Cond.methodLink RX1 58 yX0_moverFor, Cond.instanceMethod yX0_moverFor, Cond.selects RX0 yX0_moverFor yX0_moverFor, Cond.initialized RX0, Cond.code yX0_moverFor cX0_moverFor 2 (some .int), Cond.methodLink RX0 22 yX0_countHome, Cond.instanceMethod yX0_countHome, Cond.selects RX0 yX0_countHome yX0_countHome]
def wsL_movable_r2 : List Cond := [Cond.code yX0_countHome cX0_countHome 4 (some .int), Cond.methodLink RX0 18 yX0_positionOf, Cond.instanceMethod yX0_positionOf, Cond.selects RX0 yX0_positionOf yX0_positionOf, Cond.code yX0_positionOf cX0_positionOf 4 (some .int), Cond.fieldLink RX0 9 "PachisiYard$Board" "positions" "[I", Cond.static yX1_partnerOf, Cond.code yX1_partnerOf cX1_partnerOf 1 (some .int), Cond.methodLink RX1 61 yX0_movableSet, Cond.instanceMethod yX0_movableSet, Cond.selects RX0 yX0_movableSet yX0_movableSet, Cond.code yX0_movableSet cX0_movableSet 5 (some .int), Cond.methodLink RX0 71 yX0_targetOf, Cond.instanceMethod yX0_targetOf, Cond.selects RX0 yX0_targetOf yX0_targetOf, Cond.code yX0_targetOf cX0_targetOf 7 (some .int), Cond.static yX1_isGrace, Cond.code yX1_isGrace cX1_isGrace 1 (some .boolean), Cond.static yX1_worthOf, Cond.code yX1_worthOf cX1_worthOf 1 (some .int), Cond.methodLink RX0 49 yX0_isWayFree, Cond.instanceMethod yX0_isWayFree, Cond.selects RX0 yX0_isWayFree yX0_isWayFree, Cond.code yX0_isWayFree cX0_isWayFree 6 (some .boolean)]
def wsL_movable_r3 : List Cond := [Cond.methodLink RX0 60 Lib.Math.min.name, Cond.static Lib.Math.min.name, Cond.initialized "java/lang/Math", Cond.code Lib.Math.min.name Lib.Math.min.code 2 (some .int), Cond.methodLink RX0 29 yX0_squareAt, Cond.instanceMethod yX0_squareAt, Cond.selects RX0 yX0_squareAt yX0_squareAt, Cond.code yX0_squareAt cX0_squareAt 3 (some .int), Cond.static yX1_otherTeam, Cond.code yX1_otherTeam cX1_otherTeam 1 (some .int), Cond.methodLink RX0 68 yX0_countOn, Cond.instanceMethod yX0_countOn, Cond.selects RX0 yX0_countOn yX0_countOn, Cond.code yX0_countOn cX0_countOn 4 (some .int), Cond.fieldLink RX0 15 "PachisiYard$Board" "counts" "[I", Cond.methodLink RX0 53 yX0_isCapture, Cond.instanceMethod yX0_isCapture, Cond.selects RX0 yX0_isCapture yX0_isCapture, Cond.code yX0_isCapture cX0_isCapture 3 (some .boolean), Cond.static yX1_isSafeSquare, Cond.code yX1_isSafeSquare cX1_isSafeSquare 2 (some .boolean)]
def wsL_movable : List Cond := .codeWith yL_movable cL_movable 3 (some .int) [(0, 8, 11, 15)] :: ((wsL_movable_r1 ++ (wsL_movable_r2 ++ wsL_movable_r3)) ++ wsX10 ++ wsX00 ++ (vx_atS RX1 80 "java/lang/IllegalStateException" ["java/lang/RuntimeException", "java/lang/Exception"]).filter goodWord)
def wsL_position : List Cond := .codeWith yL_position cL_position 5 (some .int) [(0, 10, 13, 20)] :: ([.classLink RL 20 "java/lang/IndexOutOfBoundsException", .methodLink RL 26 yX1_position, .instanceMethod yX1_position, .selects RX1 yX1_position yX1_position, .initialized RX1, .code yX1_position cX1_position 3 (some .int), .fieldLink RX1 10 "PachisiYard" "board" "LPachisiYard$Board;", .methodLink RX1 105 yX1_requirePlayer, .static yX1_requirePlayer, .code yX1_requirePlayer cX1_requirePlayer 1 none, .classLink RX1 151 "java/lang/IndexOutOfBoundsException", .initialized "java/lang/IndexOutOfBoundsException", .methodLink RX1 65 yX1_requirePiece, .static yX1_requirePiece, .code yX1_requirePiece cX1_requirePiece 1 none, .methodLink RX1 108 yX0_positionOf, .instanceMethod yX0_positionOf, .selects RX0 yX0_positionOf yX0_positionOf, .initialized RX0, .code yX0_positionOf cX0_positionOf 4 (some .int), .fieldLink RX0 9 "PachisiYard$Board" "positions" "[I"] ++ wsX10 ++ wsX00 ++ (vx_atS RX1 155 "java/lang/IndexOutOfBoundsException" ["java/lang/RuntimeException", "java/lang/Exception"]).filter goodWord)
def wsL_square_r1 : List Cond := [Cond.classLink RL 20 "java/lang/IndexOutOfBoundsException", Cond.methodLink RL 30 yX1_square, Cond.instanceMethod yX1_square, Cond.selects RX1 yX1_square yX1_square, Cond.initialized RX1, Cond.code yX1_square cX1_square 3 (some .int), Cond.fieldLink RX1 10 "PachisiYard" "board" "LPachisiYard$Board;", Cond.methodLink RX1 105 yX1_requirePlayer, Cond.static yX1_requirePlayer, Cond.code yX1_requirePlayer cX1_requirePlayer 1 none, Cond.classLink RX1 151 "java/lang/IndexOutOfBoundsException", Cond.initialized "java/lang/IndexOutOfBoundsException", Cond.methodLink RX1 65 yX1_requirePiece, Cond.static yX1_requirePiece, Cond.code yX1_requirePiece cX1_requirePiece 1 none, Cond.methodLink RX1 108 yX0_positionOf, Cond.instanceMethod yX0_positionOf, Cond.selects RX0 yX0_positionOf yX0_positionOf, Cond.initialized RX0, Cond.code yX0_positionOf cX0_positionOf 4 (some .int), Cond.fieldLink RX0 9 "PachisiYard$Board" "positions" "[I", Cond.methodLink RX1 87 yX0_squareAt, Cond.instanceMethod yX0_squareAt, Cond.selects RX0 yX0_squareAt yX0_squareAt]
def wsL_square_r2 : List Cond := [Cond.code yX0_squareAt cX0_squareAt 3 (some .int)]
def wsL_square : List Cond := .codeWith yL_square cL_square 5 (some .int) [(0, 10, 13, 20)] :: ((wsL_square_r1 ++ wsL_square_r2) ++ wsX10 ++ wsX00 ++ (vx_atS RX1 155 "java/lang/IndexOutOfBoundsException" ["java/lang/RuntimeException", "java/lang/Exception"]).filter goodWord)
def wsL_standing : List Cond := .codeWith yL_standing cL_standing 5 (some .int) [(0, 10, 13, 20), (0, 10, 17, 13)] :: ([.classLink RL 20 "java/lang/IndexOutOfBoundsException", .classLink RL 13 "java/lang/IllegalArgumentException", .methodLink RL 33 yX1_standing, .instanceMethod yX1_standing, .selects RX1 yX1_standing yX1_standing, .initialized RX1, .code yX1_standing cX1_standing 3 (some .int), .fieldLink RX1 10 "PachisiYard" "board" "LPachisiYard$Board;", .methodLink RX1 111 yX1_requireSquare, .static yX1_requireSquare, .code yX1_requireSquare cX1_requireSquare 1 none, .classLink RX1 151 "java/lang/IndexOutOfBoundsException", .initialized "java/lang/IndexOutOfBoundsException", .methodLink RX1 114 yX1_requireTeam, .static yX1_requireTeam, .code yX1_requireTeam cX1_requireTeam 1 none, .classLink RX1 33 "java/lang/IllegalArgumentException", .initialized "java/lang/IllegalArgumentException", .methodLink RX1 117 yX0_countOn, .instanceMethod yX0_countOn, .selects RX0 yX0_countOn yX0_countOn, .initialized RX0, .code yX0_countOn cX0_countOn 4 (some .int), .fieldLink RX0 15 "PachisiYard$Board" "counts" "[I"] ++ wsX10 ++ wsX00 ++ (vx_atS RX1 155 "java/lang/IndexOutOfBoundsException" ["java/lang/RuntimeException", "java/lang/Exception"]).filter goodWord ++ (vx_atS RX1 37 "java/lang/IllegalArgumentException" ["java/lang/RuntimeException", "java/lang/Exception"]).filter goodWord)
def wsL_isSafe : List Cond := .codeWith yL_isSafe cL_isSafe 4 (some .int) [(0, 16, 19, 20)] :: ([.classLink RL 20 "java/lang/IndexOutOfBoundsException", .methodLink RL 36 yX1_isSafe, .instanceMethod yX1_isSafe, .selects RX1 yX1_isSafe yX1_isSafe, .initialized RX1, .code yX1_isSafe cX1_isSafe 2 (some .boolean), .methodLink RX1 111 yX1_requireSquare, .static yX1_requireSquare, .code yX1_requireSquare cX1_requireSquare 1 none, .classLink RX1 151 "java/lang/IndexOutOfBoundsException", .initialized "java/lang/IndexOutOfBoundsException", .methodLink RX1 120 yX1_isSafeSquare, .static yX1_isSafeSquare, .code yX1_isSafeSquare cX1_isSafeSquare 2 (some .boolean)] ++ (vx_atS RX1 155 "java/lang/IndexOutOfBoundsException" ["java/lang/RuntimeException", "java/lang/Exception"]).filter goodWord)
def wsL_home : List Cond := .codeWith yL_home cL_home 4 (some .int) [(0, 9, 12, 20)] :: ([.classLink RL 20 "java/lang/IndexOutOfBoundsException", .methodLink RL 40 yX1_home, .instanceMethod yX1_home, .selects RX1 yX1_home yX1_home, .initialized RX1, .code yX1_home cX1_home 2 (some .int), .fieldLink RX1 10 "PachisiYard" "board" "LPachisiYard$Board;", .methodLink RX1 105 yX1_requirePlayer, .static yX1_requirePlayer, .code yX1_requirePlayer cX1_requirePlayer 1 none, .classLink RX1 151 "java/lang/IndexOutOfBoundsException", .initialized "java/lang/IndexOutOfBoundsException", .methodLink RX1 123 yX0_countHome, .instanceMethod yX0_countHome, .selects RX0 yX0_countHome yX0_countHome, .initialized RX0, .code yX0_countHome cX0_countHome 4 (some .int), .methodLink RX0 18 yX0_positionOf, .instanceMethod yX0_positionOf, .selects RX0 yX0_positionOf yX0_positionOf, .code yX0_positionOf cX0_positionOf 4 (some .int), .fieldLink RX0 9 "PachisiYard$Board" "positions" "[I"] ++ wsX10 ++ wsX00 ++ (vx_atS RX1 155 "java/lang/IndexOutOfBoundsException" ["java/lang/RuntimeException", "java/lang/Exception"]).filter goodWord)
def wsL_captures : List Cond := .codeWith yL_captures cL_captures 4 (some .int) [(0, 9, 12, 20)] :: ([.classLink RL 20 "java/lang/IndexOutOfBoundsException", .methodLink RL 43 yX1_captures, .instanceMethod yX1_captures, .selects RX1 yX1_captures yX1_captures, .initialized RX1, .code yX1_captures cX1_captures 2 (some .int), .fieldLink RX1 16 "PachisiYard" "captureCounts" "[I", .methodLink RX1 105 yX1_requirePlayer, .static yX1_requirePlayer, .code yX1_requirePlayer cX1_requirePlayer 1 none, .classLink RX1 151 "java/lang/IndexOutOfBoundsException", .initialized "java/lang/IndexOutOfBoundsException"] ++ wsX10 ++ (vx_atS RX1 155 "java/lang/IndexOutOfBoundsException" ["java/lang/RuntimeException", "java/lang/Exception"]).filter goodWord)
def wsL_distance : List Cond := .codeWith yL_distance cL_distance 4 (some .int) [(0, 9, 12, 13)] :: ([.classLink RL 13 "java/lang/IllegalArgumentException", .methodLink RL 46 yX1_distance, .instanceMethod yX1_distance, .selects RX1 yX1_distance yX1_distance, .initialized RX1, .code yX1_distance cX1_distance 2 (some .int), .fieldLink RX1 10 "PachisiYard" "board" "LPachisiYard$Board;", .methodLink RX1 114 yX1_requireTeam, .static yX1_requireTeam, .code yX1_requireTeam cX1_requireTeam 1 none, .classLink RX1 33 "java/lang/IllegalArgumentException", .initialized "java/lang/IllegalArgumentException", .methodLink RX1 129 yX0_distanceOf, .instanceMethod yX0_distanceOf, .selects RX0 yX0_distanceOf yX0_distanceOf, .initialized RX0, .code yX0_distanceOf cX0_distanceOf 4 (some .int), .methodLink RX0 18 yX0_positionOf, .instanceMethod yX0_positionOf, .selects RX0 yX0_positionOf yX0_positionOf, .code yX0_positionOf cX0_positionOf 4 (some .int), .fieldLink RX0 9 "PachisiYard$Board" "positions" "[I"] ++ wsX10 ++ wsX00 ++ (vx_atS RX1 37 "java/lang/IllegalArgumentException" ["java/lang/RuntimeException", "java/lang/Exception"]).filter goodWord)
def wsL_ways_r1 : List Cond := [Cond.classLink RL 13 "java/lang/IllegalArgumentException", Cond.classLink RL 15 "java/lang/IllegalStateException", Cond.methodLink RL 49 yX1_ways, Cond.instanceMethod yX1_ways, Cond.selects RX1 yX1_ways yX1_ways, Cond.initialized RX1, Cond.code yX1_ways cX1_ways 5 (some .int), Cond.classLink RX1 33 "java/lang/IllegalArgumentException", Cond.initialized "java/lang/IllegalArgumentException", Cond.fieldLink RX1 10 "PachisiYard" "board" "LPachisiYard$Board;", Cond.fieldLink RX1 20 "PachisiYard" "turn" "I", Cond.fieldLink RX1 24 "PachisiYard" "gracesInRow" "I", Cond.methodLink RX1 40 yX1_requireThrowDue, Cond.instanceMethod yX1_requireThrowDue, Cond.selects RX1 yX1_requireThrowDue yX1_requireThrowDue, Cond.code yX1_requireThrowDue cX1_requireThrowDue 1 none, Cond.classLink RX1 76 "java/lang/IllegalStateException", Cond.initialized "java/lang/IllegalStateException", Cond.fieldLink RX1 27 "PachisiYard" "stage" "I", Cond.methodLink RX1 58 yX0_moverFor, Cond.instanceMethod yX0_moverFor, Cond.selects RX0 yX0_moverFor yX0_moverFor, Cond.initialized RX0, Cond.code yX0_moverFor cX0_moverFor 2 (some .int)]
def wsL_ways_r2 : List Cond := [Cond.methodLink RX0 22 yX0_countHome, Cond.instanceMethod yX0_countHome, Cond.selects RX0 yX0_countHome yX0_countHome, Cond.code yX0_countHome cX0_countHome 4 (some .int), Cond.methodLink RX0 18 yX0_positionOf, Cond.instanceMethod yX0_positionOf, Cond.selects RX0 yX0_positionOf yX0_positionOf, Cond.code yX0_positionOf cX0_positionOf 4 (some .int), Cond.fieldLink RX0 9 "PachisiYard$Board" "positions" "[I", Cond.static yX1_partnerOf, Cond.code yX1_partnerOf cX1_partnerOf 1 (some .int), Cond.methodLink RX1 47 yX1_isGraceTooMany, Cond.static yX1_isGraceTooMany, Cond.code yX1_isGraceTooMany cX1_isGraceTooMany 2 (some .boolean), Cond.methodLink RX1 54 yX1_isGrace, Cond.static yX1_isGrace, Cond.code yX1_isGrace cX1_isGrace 1 (some .boolean), Cond.methodLink RX1 134 yX0_canDo, Cond.instanceMethod yX0_canDo, Cond.selects RX0 yX0_canDo yX0_canDo, Cond.code yX0_canDo cX0_canDo 6 (some .boolean), Cond.methodLink RX0 71 yX0_targetOf, Cond.instanceMethod yX0_targetOf, Cond.selects RX0 yX0_targetOf yX0_targetOf]
def wsL_ways_r3 : List Cond := [Cond.code yX0_targetOf cX0_targetOf 7 (some .int), Cond.static yX1_worthOf, Cond.code yX1_worthOf cX1_worthOf 1 (some .int), Cond.methodLink RX0 49 yX0_isWayFree, Cond.instanceMethod yX0_isWayFree, Cond.selects RX0 yX0_isWayFree yX0_isWayFree, Cond.code yX0_isWayFree cX0_isWayFree 6 (some .boolean), Cond.methodLink RX0 60 Lib.Math.min.name, Cond.static Lib.Math.min.name, Cond.initialized "java/lang/Math", Cond.code Lib.Math.min.name Lib.Math.min.code 2 (some .int), Cond.methodLink RX0 29 yX0_squareAt, Cond.instanceMethod yX0_squareAt, Cond.selects RX0 yX0_squareAt yX0_squareAt, Cond.code yX0_squareAt cX0_squareAt 3 (some .int), Cond.static yX1_otherTeam, Cond.code yX1_otherTeam cX1_otherTeam 1 (some .int), Cond.methodLink RX0 68 yX0_countOn, Cond.instanceMethod yX0_countOn, Cond.selects RX0 yX0_countOn yX0_countOn, Cond.code yX0_countOn cX0_countOn 4 (some .int), Cond.fieldLink RX0 15 "PachisiYard$Board" "counts" "[I", Cond.methodLink RX0 53 yX0_isCapture, Cond.instanceMethod yX0_isCapture]
def wsL_ways_r4 : List Cond := [Cond.selects RX0 yX0_isCapture yX0_isCapture, Cond.code yX0_isCapture cX0_isCapture 3 (some .boolean), Cond.static yX1_isSafeSquare, Cond.code yX1_isSafeSquare cX1_isSafeSquare 2 (some .boolean), Cond.methodLink RX0 75 yX0_isDone, Cond.instanceMethod yX0_isDone, Cond.selects RX0 yX0_isDone yX0_isDone, Cond.code yX0_isDone cX0_isDone 4 (some .boolean), Cond.methodLink RX1 138 yX1_waysOf, Cond.static yX1_waysOf, Cond.code yX1_waysOf cX1_waysOf 1 (some .int), Cond.fieldLink RX1 183 "PachisiYard" "WAYS_BY_MOUTHS" "[I"]
def wsL_ways : List Cond := .codeWith yL_ways cL_ways 4 (some .int) [(0, 9, 12, 13), (0, 9, 15, 15)] :: ((wsL_ways_r1 ++ (wsL_ways_r2 ++ (wsL_ways_r3 ++ wsL_ways_r4))) ++ wsX10 ++ wsX00 ++ (vx_atS RX1 37 "java/lang/IllegalArgumentException" ["java/lang/RuntimeException", "java/lang/Exception"]).filter goodWord ++ (vx_atS RX1 80 "java/lang/IllegalStateException" ["java/lang/RuntimeException", "java/lang/Exception"]).filter goodWord)
def wsL_threat_r1 : List Cond := [Cond.classLink RL 20 "java/lang/IndexOutOfBoundsException", Cond.classLink RL 13 "java/lang/IllegalArgumentException", Cond.methodLink RL 52 yX1_threat, Cond.instanceMethod yX1_threat, Cond.selects RX1 yX1_threat yX1_threat, Cond.initialized RX1, Cond.code yX1_threat cX1_threat 8 (some .int), Cond.classLink RX1 33 "java/lang/IllegalArgumentException", Cond.initialized "java/lang/IllegalArgumentException", Cond.fieldLink RX1 10 "PachisiYard" "board" "LPachisiYard$Board;", Cond.methodLink RX1 105 yX1_requirePlayer, Cond.static yX1_requirePlayer, Cond.code yX1_requirePlayer cX1_requirePlayer 1 none, Cond.classLink RX1 151 "java/lang/IndexOutOfBoundsException", Cond.initialized "java/lang/IndexOutOfBoundsException", Cond.methodLink RX1 65 yX1_requirePiece, Cond.static yX1_requirePiece, Cond.code yX1_requirePiece cX1_requirePiece 1 none, Cond.methodLink RX1 126 yX1_teamOf, Cond.static yX1_teamOf, Cond.code yX1_teamOf cX1_teamOf 1 (some .int), Cond.methodLink RX1 108 yX0_positionOf, Cond.instanceMethod yX0_positionOf, Cond.selects RX0 yX0_positionOf yX0_positionOf]
def wsL_threat_r2 : List Cond := [Cond.initialized RX0, Cond.code yX0_positionOf cX0_positionOf 4 (some .int), Cond.fieldLink RX0 9 "PachisiYard$Board" "positions" "[I", Cond.methodLink RX1 87 yX0_squareAt, Cond.instanceMethod yX0_squareAt, Cond.selects RX0 yX0_squareAt yX0_squareAt, Cond.code yX0_squareAt cX0_squareAt 3 (some .int), Cond.methodLink RX1 58 yX0_moverFor, Cond.instanceMethod yX0_moverFor, Cond.selects RX0 yX0_moverFor yX0_moverFor, Cond.code yX0_moverFor cX0_moverFor 2 (some .int), Cond.methodLink RX0 22 yX0_countHome, Cond.instanceMethod yX0_countHome, Cond.selects RX0 yX0_countHome yX0_countHome, Cond.code yX0_countHome cX0_countHome 4 (some .int), Cond.methodLink RX0 18 yX0_positionOf, Cond.static yX1_partnerOf, Cond.code yX1_partnerOf cX1_partnerOf 1 (some .int), Cond.methodLink RX1 143 yX0_canCaptureOn, Cond.instanceMethod yX0_canCaptureOn, Cond.selects RX0 yX0_canCaptureOn yX0_canCaptureOn, Cond.code yX0_canCaptureOn cX0_canCaptureOn 6 (some .boolean), Cond.methodLink RX0 71 yX0_targetOf, Cond.instanceMethod yX0_targetOf]
def wsL_threat_r3 : List Cond := [Cond.selects RX0 yX0_targetOf yX0_targetOf, Cond.code yX0_targetOf cX0_targetOf 7 (some .int), Cond.static yX1_isGrace, Cond.code yX1_isGrace cX1_isGrace 1 (some .boolean), Cond.static yX1_worthOf, Cond.code yX1_worthOf cX1_worthOf 1 (some .int), Cond.methodLink RX0 49 yX0_isWayFree, Cond.instanceMethod yX0_isWayFree, Cond.selects RX0 yX0_isWayFree yX0_isWayFree, Cond.code yX0_isWayFree cX0_isWayFree 6 (some .boolean), Cond.methodLink RX0 60 Lib.Math.min.name, Cond.static Lib.Math.min.name, Cond.initialized "java/lang/Math", Cond.code Lib.Math.min.name Lib.Math.min.code 2 (some .int), Cond.methodLink RX0 29 yX0_squareAt, Cond.static yX1_otherTeam, Cond.code yX1_otherTeam cX1_otherTeam 1 (some .int), Cond.methodLink RX0 68 yX0_countOn, Cond.instanceMethod yX0_countOn, Cond.selects RX0 yX0_countOn yX0_countOn, Cond.code yX0_countOn cX0_countOn 4 (some .int), Cond.fieldLink RX0 15 "PachisiYard$Board" "counts" "[I", Cond.methodLink RX0 53 yX0_isCapture, Cond.instanceMethod yX0_isCapture]
def wsL_threat_r4 : List Cond := [Cond.selects RX0 yX0_isCapture yX0_isCapture, Cond.code yX0_isCapture cX0_isCapture 3 (some .boolean), Cond.static yX1_isSafeSquare, Cond.code yX1_isSafeSquare cX1_isSafeSquare 2 (some .boolean), Cond.methodLink RX1 138 yX1_waysOf, Cond.static yX1_waysOf, Cond.code yX1_waysOf cX1_waysOf 1 (some .int), Cond.fieldLink RX1 183 "PachisiYard" "WAYS_BY_MOUTHS" "[I"]
def wsL_threat : List Cond := .codeWith yL_threat cL_threat 6 (some .int) [(0, 12, 15, 20), (0, 12, 19, 13)] :: ((wsL_threat_r1 ++ (wsL_threat_r2 ++ (wsL_threat_r3 ++ wsL_threat_r4))) ++ wsX10 ++ wsX00 ++ (vx_atS RX1 37 "java/lang/IllegalArgumentException" ["java/lang/RuntimeException", "java/lang/Exception"]).filter goodWord ++ (vx_atS RX1 155 "java/lang/IndexOutOfBoundsException" ["java/lang/RuntimeException", "java/lang/Exception"]).filter goodWord)
def wsL_captureChance_r1 : List Cond := [Cond.classLink RL 13 "java/lang/IllegalArgumentException", Cond.classLink RL 15 "java/lang/IllegalStateException", Cond.methodLink RL 56 yX1_captureChance, Cond.instanceMethod yX1_captureChance, Cond.selects RX1 yX1_captureChance yX1_captureChance, Cond.initialized RX1, Cond.code yX1_captureChance cX1_captureChance 2 (some .int), Cond.classLink RX1 33 "java/lang/IllegalArgumentException", Cond.initialized "java/lang/IllegalArgumentException", Cond.fieldLink RX1 24 "PachisiYard" "gracesInRow" "I", Cond.methodLink RX1 40 yX1_requireThrowDue, Cond.instanceMethod yX1_requireThrowDue, Cond.selects RX1 yX1_requireThrowDue yX1_requireThrowDue, Cond.code yX1_requireThrowDue cX1_requireThrowDue 1 none, Cond.classLink RX1 76 "java/lang/IllegalStateException", Cond.initialized "java/lang/IllegalStateException", Cond.fieldLink RX1 27 "PachisiYard" "stage" "I", Cond.methodLink RX1 148 yX1_chanceWithin, Cond.instanceMethod yX1_chanceWithin, Cond.selects RX1 yX1_chanceWithin yX1_chanceWithin, Cond.code yX1_chanceWithin cX1_chanceWithin 5 (some .int), Cond.methodLink RX1 138 yX1_waysOf, Cond.static yX1_waysOf, Cond.code yX1_waysOf cX1_waysOf 1 (some .int)]
def wsL_captureChance_r2 : List Cond := [Cond.fieldLink RX1 183 "PachisiYard" "WAYS_BY_MOUTHS" "[I", Cond.methodLink RX1 169 yX1_chanceAfter, Cond.instanceMethod yX1_chanceAfter, Cond.selects RX1 yX1_chanceAfter yX1_chanceAfter, Cond.code yX1_chanceAfter cX1_chanceAfter 4 (some .int), Cond.fieldLink RX1 10 "PachisiYard" "board" "LPachisiYard$Board;", Cond.fieldLink RX1 20 "PachisiYard" "turn" "I", Cond.methodLink RX1 47 yX1_isGraceTooMany, Cond.static yX1_isGraceTooMany, Cond.code yX1_isGraceTooMany cX1_isGraceTooMany 2 (some .boolean), Cond.methodLink RX1 54 yX1_isGrace, Cond.static yX1_isGrace, Cond.code yX1_isGrace cX1_isGrace 1 (some .boolean), Cond.methodLink RX1 58 yX0_moverFor, Cond.instanceMethod yX0_moverFor, Cond.selects RX0 yX0_moverFor yX0_moverFor, Cond.initialized RX0, Cond.code yX0_moverFor cX0_moverFor 2 (some .int), Cond.methodLink RX0 22 yX0_countHome, Cond.instanceMethod yX0_countHome, Cond.selects RX0 yX0_countHome yX0_countHome, Cond.code yX0_countHome cX0_countHome 4 (some .int), Cond.methodLink RX0 18 yX0_positionOf, Cond.instanceMethod yX0_positionOf]
def wsL_captureChance_r3 : List Cond := [Cond.selects RX0 yX0_positionOf yX0_positionOf, Cond.code yX0_positionOf cX0_positionOf 4 (some .int), Cond.fieldLink RX0 9 "PachisiYard$Board" "positions" "[I", Cond.static yX1_partnerOf, Cond.code yX1_partnerOf cX1_partnerOf 1 (some .int), Cond.methodLink RX1 134 yX0_canDo, Cond.instanceMethod yX0_canDo, Cond.selects RX0 yX0_canDo yX0_canDo, Cond.code yX0_canDo cX0_canDo 6 (some .boolean), Cond.methodLink RX0 71 yX0_targetOf, Cond.instanceMethod yX0_targetOf, Cond.selects RX0 yX0_targetOf yX0_targetOf, Cond.code yX0_targetOf cX0_targetOf 7 (some .int), Cond.static yX1_worthOf, Cond.code yX1_worthOf cX1_worthOf 1 (some .int), Cond.methodLink RX0 49 yX0_isWayFree, Cond.instanceMethod yX0_isWayFree, Cond.selects RX0 yX0_isWayFree yX0_isWayFree, Cond.code yX0_isWayFree cX0_isWayFree 6 (some .boolean), Cond.methodLink RX0 60 Lib.Math.min.name, Cond.static Lib.Math.min.name, Cond.initialized "java/lang/Math", Cond.code Lib.Math.min.name Lib.Math.min.code 2 (some .int), Cond.methodLink RX0 29 yX0_squareAt]
def wsL_captureChance_r4 : List Cond := [Cond.instanceMethod yX0_squareAt, Cond.selects RX0 yX0_squareAt yX0_squareAt, Cond.code yX0_squareAt cX0_squareAt 3 (some .int), Cond.static yX1_otherTeam, Cond.code yX1_otherTeam cX1_otherTeam 1 (some .int), Cond.methodLink RX0 68 yX0_countOn, Cond.instanceMethod yX0_countOn, Cond.selects RX0 yX0_countOn yX0_countOn, Cond.code yX0_countOn cX0_countOn 4 (some .int), Cond.fieldLink RX0 15 "PachisiYard$Board" "counts" "[I", Cond.methodLink RX0 53 yX0_isCapture, Cond.instanceMethod yX0_isCapture, Cond.selects RX0 yX0_isCapture yX0_isCapture, Cond.code yX0_isCapture cX0_isCapture 3 (some .boolean), Cond.static yX1_isSafeSquare, Cond.code yX1_isSafeSquare cX1_isSafeSquare 2 (some .boolean), Cond.methodLink RX0 75 yX0_isDone, Cond.instanceMethod yX0_isDone, Cond.selects RX0 yX0_isDone yX0_isDone, Cond.code yX0_isDone cX0_isDone 4 (some .boolean), Cond.methodLink RX1 172 yX1_certainty, Cond.static yX1_certainty, Cond.code yX1_certainty cX1_certainty 3 (some .int), Cond.methodLink RX1 175 yX1_chanceAfterGrace]
def wsL_captureChance_r5 : List Cond := [Cond.instanceMethod yX1_chanceAfterGrace, Cond.selects RX1 yX1_chanceAfterGrace yX1_chanceAfterGrace, Cond.code yX1_chanceAfterGrace cX1_chanceAfterGrace 9 (some .int), Cond.methodLink RX1 178 Lib.Math.max.name, Cond.static Lib.Math.max.name, Cond.code Lib.Math.max.name Lib.Math.max.code 2 (some .int), Cond.methodLink RX1 61 yX0_movableSet, Cond.instanceMethod yX0_movableSet, Cond.selects RX0 yX0_movableSet yX0_movableSet, Cond.code yX0_movableSet cX0_movableSet 5 (some .int), Cond.methodLink RX1 72 yX0_targetOf, Cond.methodLink RX1 108 yX0_positionOf, Cond.methodLink RX1 97 yX0_place, Cond.instanceMethod yX0_place, Cond.selects RX0 yX0_place yX0_place, Cond.code yX0_place cX0_place 5 none, Cond.static yX1_teamOf, Cond.code yX1_teamOf cX1_teamOf 1 (some .int), Cond.methodLink RX0 35 yX0_addOn, Cond.instanceMethod yX0_addOn, Cond.selects RX0 yX0_addOn yX0_addOn, Cond.code yX0_addOn cX0_addOn 5 none]
def wsL_captureChance : List Cond := .codeWith yL_captureChance cL_captureChance 4 (some .int) [(0, 9, 12, 13), (0, 9, 15, 15)] :: ((wsL_captureChance_r1 ++ (wsL_captureChance_r2 ++ (wsL_captureChance_r3 ++ (wsL_captureChance_r4 ++ wsL_captureChance_r5)))) ++ wsX10 ++ wsX00 ++ (vx_atS RX1 37 "java/lang/IllegalArgumentException" ["java/lang/RuntimeException", "java/lang/Exception"]).filter goodWord ++ (vx_atS RX1 80 "java/lang/IllegalStateException" ["java/lang/RuntimeException", "java/lang/Exception"]).filter goodWord)
def wsL_law0_r1 : List Cond := [Cond.classLink RL 8 RX1, Cond.instantiable RX1 6, Cond.initialized RX1, Cond.classLink RL 60 RX2, Cond.instantiable RX2 8, Cond.initialized RX2, Cond.arrayClass .long, Cond.methodLink RL 59 yX1_init, Cond.instanceMethod yX1_init, Cond.code yX1_init cX1_init 1 none, Cond.methodLink RX1 1 objectInit, Cond.instanceMethod objectInit, Cond.code objectInit ⟨#[0xb1]⟩ 1 none, Cond.classLink RX1 7 RX0, Cond.instantiable RX0 2, Cond.initialized RX0, Cond.fieldLink RX1 10 "PachisiYard" "board" "LPachisiYard$Board;", Cond.arrayClass .int, Cond.fieldLink RX1 16 "PachisiYard" "captureCounts" "[I", Cond.fieldLink RX1 20 "PachisiYard" "turn" "I", Cond.fieldLink RX1 24 "PachisiYard" "gracesInRow" "I", Cond.fieldLink RX1 27 "PachisiYard" "stage" "I", Cond.fieldLink RX1 30 "PachisiYard" "mouthsThrown" "I", Cond.methodLink RX1 9 yX0_init]
def wsL_law0_r2 : List Cond := [Cond.instanceMethod yX0_init, Cond.code yX0_init cX0_init 1 none, Cond.methodLink RX0 3 objectInit, Cond.fieldLink RX0 9 "PachisiYard$Board" "positions" "[I", Cond.fieldLink RX0 15 "PachisiYard$Board" "counts" "[I", Cond.methodLink RL 62 yX2_init, Cond.instanceMethod yX2_init, Cond.code yX2_init cX2_init 1 none, Cond.methodLink RX2 1 objectInit, Cond.fieldLink RX2 7 "PachisiYardModel" "at" "[I", Cond.fieldLink RX2 13 "PachisiYardModel" "captures" "[I", Cond.fieldLink RX2 16 "PachisiYardModel" "many" "[I", Cond.methodLink RL 63 yL_throwShells, Cond.static yL_throwShells, Cond.initialized RL, Cond.codeWith yL_throwShells cL_throwShells 4 (some .int) [(0, 9, 12, 13), (0, 9, 15, 15)], Cond.classLink RL 13 "java/lang/IllegalArgumentException", Cond.classLink RL 15 "java/lang/IllegalStateException", Cond.methodLink RL 7 yX1_throwShells, Cond.instanceMethod yX1_throwShells, Cond.selects RX1 yX1_throwShells yX1_throwShells, Cond.code yX1_throwShells cX1_throwShells 3 (some .int), Cond.classLink RX1 33 "java/lang/IllegalArgumentException", Cond.initialized "java/lang/IllegalArgumentException"]
def wsL_law0_r3 : List Cond := [Cond.methodLink RX1 40 yX1_requireThrowDue, Cond.instanceMethod yX1_requireThrowDue, Cond.selects RX1 yX1_requireThrowDue yX1_requireThrowDue, Cond.code yX1_requireThrowDue cX1_requireThrowDue 1 none, Cond.classLink RX1 76 "java/lang/IllegalStateException", Cond.initialized "java/lang/IllegalStateException", Cond.methodLink RX1 43 yX1_worthOf, Cond.static yX1_worthOf, Cond.code yX1_worthOf cX1_worthOf 1 (some .int), Cond.methodLink RX1 47 yX1_isGraceTooMany, Cond.static yX1_isGraceTooMany, Cond.code yX1_isGraceTooMany cX1_isGraceTooMany 2 (some .boolean), Cond.methodLink RX1 54 yX1_isGrace, Cond.static yX1_isGrace, Cond.code yX1_isGrace cX1_isGrace 1 (some .boolean), Cond.methodLink RX1 51 yX1_passTurn, Cond.instanceMethod yX1_passTurn, Cond.selects RX1 yX1_passTurn yX1_passTurn, Cond.code yX1_passTurn cX1_passTurn 1 none, Cond.methodLink RX1 58 yX0_moverFor, Cond.instanceMethod yX0_moverFor, Cond.selects RX0 yX0_moverFor yX0_moverFor, Cond.code yX0_moverFor cX0_moverFor 2 (some .int), Cond.methodLink RX0 22 yX0_countHome]
def wsL_law0_r4 : List Cond := [Cond.instanceMethod yX0_countHome, Cond.selects RX0 yX0_countHome yX0_countHome, Cond.code yX0_countHome cX0_countHome 4 (some .int), Cond.methodLink RX0 18 yX0_positionOf, Cond.instanceMethod yX0_positionOf, Cond.selects RX0 yX0_positionOf yX0_positionOf, Cond.code yX0_positionOf cX0_positionOf 4 (some .int), Cond.static yX1_partnerOf, Cond.code yX1_partnerOf cX1_partnerOf 1 (some .int), Cond.methodLink RX1 61 yX0_movableSet, Cond.instanceMethod yX0_movableSet, Cond.selects RX0 yX0_movableSet yX0_movableSet, Cond.code yX0_movableSet cX0_movableSet 5 (some .int), Cond.methodLink RX0 71 yX0_targetOf, Cond.instanceMethod yX0_targetOf, Cond.selects RX0 yX0_targetOf yX0_targetOf, Cond.code yX0_targetOf cX0_targetOf 7 (some .int), Cond.methodLink RX0 49 yX0_isWayFree, Cond.instanceMethod yX0_isWayFree, Cond.selects RX0 yX0_isWayFree yX0_isWayFree, Cond.code yX0_isWayFree cX0_isWayFree 6 (some .boolean), Cond.methodLink RX0 60 Lib.Math.min.name, Cond.static Lib.Math.min.name, Cond.initialized "java/lang/Math"]
def wsL_law0_r5 : List Cond := [Cond.code Lib.Math.min.name Lib.Math.min.code 2 (some .int), Cond.methodLink RX0 29 yX0_squareAt, Cond.instanceMethod yX0_squareAt, Cond.selects RX0 yX0_squareAt yX0_squareAt, Cond.code yX0_squareAt cX0_squareAt 3 (some .int), Cond.static yX1_otherTeam, Cond.code yX1_otherTeam cX1_otherTeam 1 (some .int), Cond.methodLink RX0 68 yX0_countOn, Cond.instanceMethod yX0_countOn, Cond.selects RX0 yX0_countOn yX0_countOn, Cond.code yX0_countOn cX0_countOn 4 (some .int), Cond.methodLink RX0 53 yX0_isCapture, Cond.instanceMethod yX0_isCapture, Cond.selects RX0 yX0_isCapture yX0_isCapture, Cond.code yX0_isCapture cX0_isCapture 3 (some .boolean), Cond.static yX1_isSafeSquare, Cond.code yX1_isSafeSquare cX1_isSafeSquare 2 (some .boolean), Cond.methodLink RL 68 yX2_throwShells, Cond.instanceMethod yX2_throwShells, Cond.selects RX2 yX2_throwShells yX2_throwShells, Cond.code yX2_throwShells cX2_throwShells 3 (some .int), Cond.fieldLink RX2 60 "PachisiYardModel" "phase" "I", Cond.fieldLink RX2 19 "PachisiYardModel" "thrown" "I", Cond.fieldLink RX2 57 "PachisiYardModel" "graces" "I"]
def wsL_law0_r6 : List Cond := [Cond.fieldLink RX2 54 "PachisiYardModel" "turn" "I", Cond.fieldLink RX2 73 "PachisiYardModel" "mouths" "I", Cond.methodLink RX2 23 yX2_isIn, Cond.static yX2_isIn, Cond.code yX2_isIn cX2_isIn 3 (some .boolean), Cond.methodLink RX2 35 yX2_isGrace, Cond.static yX2_isGrace, Cond.code yX2_isGrace cX2_isGrace 1 (some .boolean), Cond.methodLink RX2 63 yX2_next, Cond.instanceMethod yX2_next, Cond.selects RX2 yX2_next yX2_next, Cond.code yX2_next cX2_next 1 none, Cond.methodLink RX2 39 yX2_worth, Cond.static yX2_worth, Cond.code yX2_worth cX2_worth 1 (some .int), Cond.methodLink RX2 66 yX2_movesFor, Cond.instanceMethod yX2_movesFor, Cond.selects RX2 yX2_movesFor yX2_movesFor, Cond.code yX2_movesFor cX2_movesFor 2 (some .int), Cond.methodLink RX2 31 yX2_homes, Cond.instanceMethod yX2_homes, Cond.selects RX2 yX2_homes yX2_homes, Cond.code yX2_homes cX2_homes 4 (some .int), Cond.methodLink RX2 69 yX2_movers]
def wsL_law0_r7 : List Cond := [Cond.instanceMethod yX2_movers, Cond.selects RX2 yX2_movers yX2_movers, Cond.code yX2_movers cX2_movers 6 (some .int), Cond.methodLink RX2 51 yX2_can, Cond.instanceMethod yX2_can, Cond.selects RX2 yX2_can yX2_can, Cond.code yX2_can cX2_can 8 (some .int), Cond.methodLink RX2 42 yX2_target, Cond.instanceMethod yX2_target, Cond.selects RX2 yX2_target yX2_target, Cond.code yX2_target cX2_target 4 (some .int), Cond.methodLink RX2 27 yX2_squareOf, Cond.static yX2_squareOf, Cond.code yX2_squareOf cX2_squareOf 2 (some .int), Cond.methodLink RX2 45 yX2_stand, Cond.instanceMethod yX2_stand, Cond.selects RX2 yX2_stand yX2_stand, Cond.code yX2_stand cX2_stand 6 (some .int), Cond.methodLink RX2 48 yX2_isSafeOne, Cond.static yX2_isSafeOne, Cond.code yX2_isSafeOne cX2_isSafeOne 1 (some .boolean), Cond.methodLink RL 69 yX2_thrown, Cond.instanceMethod yX2_thrown, Cond.selects RX2 yX2_thrown yX2_thrown]
def wsL_law0_r8 : List Cond := [Cond.code yX2_thrown cX2_thrown 1 (some .int), Cond.methodLink RL 72 yL_move, Cond.static yL_move, Cond.codeWith yL_move cL_move 4 (some .int) [(0, 9, 12, 20), (0, 9, 15, 15)], Cond.classLink RL 20 "java/lang/IndexOutOfBoundsException", Cond.methodLink RL 17 yX1_move, Cond.instanceMethod yX1_move, Cond.selects RX1 yX1_move yX1_move, Cond.code yX1_move cX1_move 5 (some .int), Cond.methodLink RX1 65 yX1_requirePiece, Cond.static yX1_requirePiece, Cond.code yX1_requirePiece cX1_requirePiece 1 none, Cond.classLink RX1 151 "java/lang/IndexOutOfBoundsException", Cond.initialized "java/lang/IndexOutOfBoundsException", Cond.methodLink RX1 69 yX1_requireMoveDue, Cond.instanceMethod yX1_requireMoveDue, Cond.selects RX1 yX1_requireMoveDue yX1_requireMoveDue, Cond.code yX1_requireMoveDue cX1_requireMoveDue 1 none, Cond.methodLink RX1 72 yX0_targetOf, Cond.methodLink RX1 81 yX0_isCapture, Cond.methodLink RX1 84 yX1_otherTeam, Cond.methodLink RX1 87 yX0_squareAt, Cond.methodLink RX1 90 yX0_sendToYard, Cond.instanceMethod yX0_sendToYard]
def wsL_law0_r9 : List Cond := [Cond.selects RX0 yX0_sendToYard yX0_sendToYard, Cond.code yX0_sendToYard cX0_sendToYard 5 none, Cond.methodLink RX0 39 yX0_place, Cond.instanceMethod yX0_place, Cond.selects RX0 yX0_place yX0_place, Cond.code yX0_place cX0_place 5 none, Cond.static yX1_teamOf, Cond.code yX1_teamOf cX1_teamOf 1 (some .int), Cond.methodLink RX0 35 yX0_addOn, Cond.instanceMethod yX0_addOn, Cond.selects RX0 yX0_addOn yX0_addOn, Cond.code yX0_addOn cX0_addOn 5 none, Cond.methodLink RX1 94 yX1_countCapture, Cond.instanceMethod yX1_countCapture, Cond.selects RX1 yX1_countCapture yX1_countCapture, Cond.code yX1_countCapture cX1_countCapture 2 none, Cond.methodLink RX1 97 yX0_place, Cond.methodLink RX1 101 yX1_endMove, Cond.instanceMethod yX1_endMove, Cond.selects RX1 yX1_endMove yX1_endMove, Cond.code yX1_endMove cX1_endMove 2 none, Cond.methodLink RX1 166 yX0_isTeamHome, Cond.instanceMethod yX0_isTeamHome, Cond.selects RX0 yX0_isTeamHome yX0_isTeamHome]
def wsL_law0_r10 : List Cond := [Cond.code yX0_isTeamHome cX0_isTeamHome 2 (some .boolean), Cond.methodLink RL 74 yX2_move, Cond.instanceMethod yX2_move, Cond.selects RX2 yX2_move yX2_move, Cond.code yX2_move cX2_move 5 (some .int), Cond.methodLink RX2 76 yX2_sends, Cond.instanceMethod yX2_sends, Cond.selects RX2 yX2_sends yX2_sends, Cond.code yX2_sends cX2_sends 4 none, Cond.methodLink RX2 80 yX2_isWon, Cond.instanceMethod yX2_isWon, Cond.selects RX2 yX2_isWon yX2_isWon, Cond.code yX2_isWon cX2_isWon 2 (some .boolean), Cond.methodLink RL 75 yX1_phase, Cond.instanceMethod yX1_phase, Cond.selects RX1 yX1_phase yX1_phase, Cond.code yX1_phase cX1_phase 1 (some .int), Cond.methodLink RL 78 yX2_phase, Cond.instanceMethod yX2_phase, Cond.selects RX2 yX2_phase yX2_phase, Cond.code yX2_phase cX2_phase 1 (some .int), Cond.methodLink RL 79 yX1_onTurn, Cond.instanceMethod yX1_onTurn, Cond.selects RX1 yX1_onTurn yX1_onTurn]
def wsL_law0_r11 : List Cond := [Cond.code yX1_onTurn cX1_onTurn 1 (some .int), Cond.methodLink RL 82 yX2_onTurn, Cond.instanceMethod yX2_onTurn, Cond.selects RX2 yX2_onTurn yX2_onTurn, Cond.code yX2_onTurn cX2_onTurn 1 (some .int), Cond.methodLink RL 83 yX1_mover, Cond.instanceMethod yX1_mover, Cond.selects RX1 yX1_mover yX1_mover, Cond.code yX1_mover cX1_mover 1 (some .int), Cond.methodLink RL 86 yX2_mover, Cond.instanceMethod yX2_mover, Cond.selects RX2 yX2_mover yX2_mover, Cond.code yX2_mover cX2_mover 1 (some .int), Cond.methodLink RL 87 yL_movable, Cond.static yL_movable, Cond.codeWith yL_movable cL_movable 3 (some .int) [(0, 8, 11, 15)], Cond.methodLink RL 22 yX1_movable, Cond.instanceMethod yX1_movable, Cond.selects RX1 yX1_movable yX1_movable, Cond.code yX1_movable cX1_movable 1 (some .int), Cond.methodLink RL 90 yX2_movable, Cond.instanceMethod yX2_movable, Cond.selects RX2 yX2_movable yX2_movable, Cond.code yX2_movable cX2_movable 1 (some .int)]
def wsL_law0_r12 : List Cond := [Cond.methodLink RL 91 yX1_graces, Cond.instanceMethod yX1_graces, Cond.selects RX1 yX1_graces yX1_graces, Cond.code yX1_graces cX1_graces 1 (some .int), Cond.methodLink RL 94 yX2_graces, Cond.instanceMethod yX2_graces, Cond.selects RX2 yX2_graces yX2_graces, Cond.code yX2_graces cX2_graces 1 (some .int), Cond.methodLink RL 95 yL_position, Cond.static yL_position, Cond.codeWith yL_position cL_position 5 (some .int) [(0, 10, 13, 20)], Cond.methodLink RL 26 yX1_position, Cond.instanceMethod yX1_position, Cond.selects RX1 yX1_position yX1_position, Cond.code yX1_position cX1_position 3 (some .int), Cond.methodLink RX1 105 yX1_requirePlayer, Cond.static yX1_requirePlayer, Cond.code yX1_requirePlayer cX1_requirePlayer 1 none, Cond.methodLink RX1 108 yX0_positionOf, Cond.methodLink RL 98 yX2_position, Cond.instanceMethod yX2_position, Cond.selects RX2 yX2_position yX2_position, Cond.code yX2_position cX2_position 3 (some .int), Cond.methodLink RL 99 yL_square]
def wsL_law0_r13 : List Cond := [Cond.static yL_square, Cond.codeWith yL_square cL_square 5 (some .int) [(0, 10, 13, 20)], Cond.methodLink RL 30 yX1_square, Cond.instanceMethod yX1_square, Cond.selects RX1 yX1_square yX1_square, Cond.code yX1_square cX1_square 3 (some .int), Cond.methodLink RL 101 yX2_square, Cond.instanceMethod yX2_square, Cond.selects RX2 yX2_square yX2_square, Cond.code yX2_square cX2_square 4 (some .int), Cond.methodLink RL 102 yL_standing, Cond.static yL_standing, Cond.codeWith yL_standing cL_standing 5 (some .int) [(0, 10, 13, 20), (0, 10, 17, 13)], Cond.methodLink RL 33 yX1_standing, Cond.instanceMethod yX1_standing, Cond.selects RX1 yX1_standing yX1_standing, Cond.code yX1_standing cX1_standing 3 (some .int), Cond.methodLink RX1 111 yX1_requireSquare, Cond.static yX1_requireSquare, Cond.code yX1_requireSquare cX1_requireSquare 1 none, Cond.methodLink RX1 114 yX1_requireTeam, Cond.static yX1_requireTeam, Cond.code yX1_requireTeam cX1_requireTeam 1 none, Cond.methodLink RX1 117 yX0_countOn]
def wsL_law0_r14 : List Cond := [Cond.methodLink RL 104 yX2_standing, Cond.instanceMethod yX2_standing, Cond.selects RX2 yX2_standing yX2_standing, Cond.code yX2_standing cX2_standing 3 (some .int), Cond.methodLink RL 105 yL_isSafe, Cond.static yL_isSafe, Cond.codeWith yL_isSafe cL_isSafe 4 (some .int) [(0, 16, 19, 20)], Cond.methodLink RL 36 yX1_isSafe, Cond.instanceMethod yX1_isSafe, Cond.selects RX1 yX1_isSafe yX1_isSafe, Cond.code yX1_isSafe cX1_isSafe 2 (some .boolean), Cond.methodLink RX1 120 yX1_isSafeSquare, Cond.methodLink RL 107 yX2_isSafe, Cond.instanceMethod yX2_isSafe, Cond.selects RX2 yX2_isSafe yX2_isSafe, Cond.code yX2_isSafe cX2_isSafe 2 (some .boolean), Cond.methodLink RL 108 yL_home, Cond.static yL_home, Cond.codeWith yL_home cL_home 4 (some .int) [(0, 9, 12, 20)], Cond.methodLink RL 40 yX1_home, Cond.instanceMethod yX1_home, Cond.selects RX1 yX1_home yX1_home, Cond.code yX1_home cX1_home 2 (some .int), Cond.methodLink RX1 123 yX0_countHome]
def wsL_law0_r15 : List Cond := [Cond.methodLink RL 110 yX2_home, Cond.instanceMethod yX2_home, Cond.selects RX2 yX2_home yX2_home, Cond.code yX2_home cX2_home 2 (some .int), Cond.methodLink RL 111 yL_captures, Cond.static yL_captures, Cond.codeWith yL_captures cL_captures 4 (some .int) [(0, 9, 12, 20)], Cond.methodLink RL 43 yX1_captures, Cond.instanceMethod yX1_captures, Cond.selects RX1 yX1_captures yX1_captures, Cond.code yX1_captures cX1_captures 2 (some .int), Cond.methodLink RL 113 yX2_captures, Cond.instanceMethod yX2_captures, Cond.selects RX2 yX2_captures yX2_captures, Cond.code yX2_captures cX2_captures 2 (some .int), Cond.methodLink RL 114 yX1_winner, Cond.instanceMethod yX1_winner, Cond.selects RX1 yX1_winner yX1_winner, Cond.code yX1_winner cX1_winner 1 (some .int), Cond.methodLink RX1 126 yX1_teamOf, Cond.methodLink RL 117 yX2_winner, Cond.instanceMethod yX2_winner, Cond.selects RX2 yX2_winner yX2_winner, Cond.code yX2_winner cX2_winner 1 (some .int)]
def wsL_law0_r16 : List Cond := [Cond.methodLink RL 118 yL_distance, Cond.static yL_distance, Cond.codeWith yL_distance cL_distance 4 (some .int) [(0, 9, 12, 13)], Cond.methodLink RL 46 yX1_distance, Cond.instanceMethod yX1_distance, Cond.selects RX1 yX1_distance yX1_distance, Cond.code yX1_distance cX1_distance 2 (some .int), Cond.methodLink RX1 129 yX0_distanceOf, Cond.instanceMethod yX0_distanceOf, Cond.selects RX0 yX0_distanceOf yX0_distanceOf, Cond.code yX0_distanceOf cX0_distanceOf 4 (some .int), Cond.methodLink RL 120 yX2_distance, Cond.instanceMethod yX2_distance, Cond.selects RX2 yX2_distance yX2_distance, Cond.code yX2_distance cX2_distance 4 (some .int), Cond.methodLink RL 121 yL_ways, Cond.static yL_ways, Cond.codeWith yL_ways cL_ways 4 (some .int) [(0, 9, 12, 13), (0, 9, 15, 15)], Cond.methodLink RL 49 yX1_ways, Cond.instanceMethod yX1_ways, Cond.selects RX1 yX1_ways yX1_ways, Cond.code yX1_ways cX1_ways 5 (some .int), Cond.methodLink RX1 134 yX0_canDo, Cond.instanceMethod yX0_canDo]
def wsL_law0_r17 : List Cond := [Cond.selects RX0 yX0_canDo yX0_canDo, Cond.code yX0_canDo cX0_canDo 6 (some .boolean), Cond.methodLink RX0 75 yX0_isDone, Cond.instanceMethod yX0_isDone, Cond.selects RX0 yX0_isDone yX0_isDone, Cond.code yX0_isDone cX0_isDone 4 (some .boolean), Cond.methodLink RX1 138 yX1_waysOf, Cond.static yX1_waysOf, Cond.code yX1_waysOf cX1_waysOf 1 (some .int), Cond.fieldLink RX1 183 "PachisiYard" "WAYS_BY_MOUTHS" "[I", Cond.methodLink RL 123 yX2_ways, Cond.instanceMethod yX2_ways, Cond.selects RX2 yX2_ways yX2_ways, Cond.code yX2_ways cX2_ways 5 (some .int), Cond.methodLink RX2 83 yX2_does, Cond.instanceMethod yX2_does, Cond.selects RX2 yX2_does yX2_does, Cond.code yX2_does cX2_does 7 (some .boolean), Cond.methodLink RL 124 yL_threat, Cond.static yL_threat, Cond.codeWith yL_threat cL_threat 6 (some .int) [(0, 12, 15, 20), (0, 12, 19, 13)], Cond.methodLink RL 52 yX1_threat, Cond.instanceMethod yX1_threat, Cond.selects RX1 yX1_threat yX1_threat]
def wsL_law0_r18 : List Cond := [Cond.code yX1_threat cX1_threat 8 (some .int), Cond.methodLink RX1 143 yX0_canCaptureOn, Cond.instanceMethod yX0_canCaptureOn, Cond.selects RX0 yX0_canCaptureOn yX0_canCaptureOn, Cond.code yX0_canCaptureOn cX0_canCaptureOn 6 (some .boolean), Cond.methodLink RL 127 yX2_threat, Cond.instanceMethod yX2_threat, Cond.selects RX2 yX2_threat yX2_threat, Cond.code yX2_threat cX2_threat 10 (some .int), Cond.methodLink RL 128 yL_captureChance, Cond.static yL_captureChance, Cond.codeWith yL_captureChance cL_captureChance 4 (some .int) [(0, 9, 12, 13), (0, 9, 15, 15)], Cond.methodLink RL 56 yX1_captureChance, Cond.instanceMethod yX1_captureChance, Cond.selects RX1 yX1_captureChance yX1_captureChance, Cond.code yX1_captureChance cX1_captureChance 2 (some .int), Cond.methodLink RX1 148 yX1_chanceWithin, Cond.instanceMethod yX1_chanceWithin, Cond.selects RX1 yX1_chanceWithin yX1_chanceWithin, Cond.code yX1_chanceWithin cX1_chanceWithin 5 (some .int), Cond.methodLink RX1 169 yX1_chanceAfter, Cond.instanceMethod yX1_chanceAfter, Cond.selects RX1 yX1_chanceAfter yX1_chanceAfter, Cond.code yX1_chanceAfter cX1_chanceAfter 4 (some .int)]
def wsL_law0_r19 : List Cond := [Cond.methodLink RX1 172 yX1_certainty, Cond.static yX1_certainty, Cond.code yX1_certainty cX1_certainty 3 (some .int), Cond.methodLink RX1 175 yX1_chanceAfterGrace, Cond.instanceMethod yX1_chanceAfterGrace, Cond.selects RX1 yX1_chanceAfterGrace yX1_chanceAfterGrace, Cond.code yX1_chanceAfterGrace cX1_chanceAfterGrace 9 (some .int), Cond.methodLink RX1 178 Lib.Math.max.name, Cond.static Lib.Math.max.name, Cond.code Lib.Math.max.name Lib.Math.max.code 2 (some .int), Cond.methodLink RL 130 yX2_captureChance, Cond.instanceMethod yX2_captureChance, Cond.selects RX2 yX2_captureChance yX2_captureChance, Cond.code yX2_captureChance cX2_captureChance 2 (some .int), Cond.methodLink RX2 86 yX2_chanceOfOne, Cond.instanceMethod yX2_chanceOfOne, Cond.selects RX2 yX2_chanceOfOne yX2_chanceOfOne, Cond.code yX2_chanceOfOne cX2_chanceOfOne 5 (some .int), Cond.methodLink RX2 92 yX2_chanceOfTwo, Cond.instanceMethod yX2_chanceOfTwo, Cond.selects RX2 yX2_chanceOfTwo yX2_chanceOfTwo, Cond.code yX2_chanceOfTwo cX2_chanceOfTwo 5 (some .int), Cond.methodLink RX2 89 yX2_bestForOne, Cond.instanceMethod yX2_bestForOne]
def wsL_law0_r20 : List Cond := [Cond.selects RX2 yX2_bestForOne yX2_bestForOne, Cond.code yX2_bestForOne cX2_bestForOne 8 (some .int), Cond.methodLink RX2 98 yX2_chanceOfThree, Cond.instanceMethod yX2_chanceOfThree, Cond.selects RX2 yX2_chanceOfThree yX2_chanceOfThree, Cond.code yX2_chanceOfThree cX2_chanceOfThree 5 (some .int), Cond.methodLink RX2 95 yX2_bestForTwo, Cond.instanceMethod yX2_bestForTwo, Cond.selects RX2 yX2_bestForTwo yX2_bestForTwo, Cond.code yX2_bestForTwo cX2_bestForTwo 8 (some .int)]
def wsL_law0 : List Cond := (wsL_law0_r1 ++ (wsL_law0_r2 ++ (wsL_law0_r3 ++ (wsL_law0_r4 ++ (wsL_law0_r5 ++ (wsL_law0_r6 ++ (wsL_law0_r7 ++ (wsL_law0_r8 ++ (wsL_law0_r9 ++ (wsL_law0_r10 ++ (wsL_law0_r11 ++ (wsL_law0_r12 ++ (wsL_law0_r13 ++ (wsL_law0_r14 ++ (wsL_law0_r15 ++ (wsL_law0_r16 ++ (wsL_law0_r17 ++ (wsL_law0_r18 ++ (wsL_law0_r19 ++ wsL_law0_r20))))))))))))))))))) ++ wsX10 ++ wsX20 ++ wsX00 ++ ([] : List Cond)
def wsL_law : List Cond := wsL_law0 ++ (vx_atS RX1 37 "java/lang/IllegalArgumentException" ["java/lang/RuntimeException", "java/lang/Exception"]).filter goodWord ++ (vx_atS RX1 80 "java/lang/IllegalStateException" ["java/lang/RuntimeException", "java/lang/Exception"]).filter goodWord ++ (vx_atS RX1 155 "java/lang/IndexOutOfBoundsException" ["java/lang/RuntimeException", "java/lang/Exception"]).filter goodWord
set_option maxRecDepth 20000 in
theorem wsL_law0_r1_in : ∀ w ∈ wsL_law0_r1, w ∈ lw_tbl := by decide +kernel
theorem wsL_law0_r2_in : ∀ w ∈ wsL_law0_r2, w ∈ lw_tbl := by decide +kernel
theorem wsL_law0_r3_in : ∀ w ∈ wsL_law0_r3, w ∈ lw_tbl := by decide +kernel
theorem wsL_law0_r4_in : ∀ w ∈ wsL_law0_r4, w ∈ lw_tbl := by decide +kernel
theorem wsL_law0_r5_in : ∀ w ∈ wsL_law0_r5, w ∈ lw_tbl := by decide +kernel
theorem wsL_law0_r6_in : ∀ w ∈ wsL_law0_r6, w ∈ lw_tbl := by decide +kernel
theorem wsL_law0_r7_in : ∀ w ∈ wsL_law0_r7, w ∈ lw_tbl := by decide +kernel
theorem wsL_law0_r8_in : ∀ w ∈ wsL_law0_r8, w ∈ lw_tbl := by decide +kernel
theorem wsL_law0_r9_in : ∀ w ∈ wsL_law0_r9, w ∈ lw_tbl := by decide +kernel
theorem wsL_law0_r10_in : ∀ w ∈ wsL_law0_r10, w ∈ lw_tbl := by decide +kernel
theorem wsL_law0_r11_in : ∀ w ∈ wsL_law0_r11, w ∈ lw_tbl := by decide +kernel
theorem wsL_law0_r12_in : ∀ w ∈ wsL_law0_r12, w ∈ lw_tbl := by decide +kernel
theorem wsL_law0_r13_in : ∀ w ∈ wsL_law0_r13, w ∈ lw_tbl := by decide +kernel
theorem wsL_law0_r14_in : ∀ w ∈ wsL_law0_r14, w ∈ lw_tbl := by decide +kernel
theorem wsL_law0_r15_in : ∀ w ∈ wsL_law0_r15, w ∈ lw_tbl := by decide +kernel
theorem wsL_law0_r16_in : ∀ w ∈ wsL_law0_r16, w ∈ lw_tbl := by decide +kernel
theorem wsL_law0_r17_in : ∀ w ∈ wsL_law0_r17, w ∈ lw_tbl := by decide +kernel
theorem wsL_law0_r18_in : ∀ w ∈ wsL_law0_r18, w ∈ lw_tbl := by decide +kernel
theorem wsL_law0_r19_in : ∀ w ∈ wsL_law0_r19, w ∈ lw_tbl := by decide +kernel
theorem wsL_law0_r20_in : ∀ w ∈ wsL_law0_r20, w ∈ lw_tbl := by decide +kernel
theorem wsL_law0_nil : ∀ w ∈ ([] : List Cond), w ∈ lw_tbl := fun _ h => nomatch h
theorem wsX10_lin : ∀ w ∈ wsX10, w ∈ lw_tbl := by decide +kernel
theorem wsX20_lin : ∀ w ∈ wsX20, w ∈ lw_tbl := by decide +kernel
theorem wsX00_lin : ∀ w ∈ wsX00, w ∈ lw_tbl := by decide +kernel
theorem wsL_law_in0 : ∀ w ∈ wsL_law0, w ∈ lw_tbl := List.forall_mem_append.mpr ⟨List.forall_mem_append.mpr ⟨List.forall_mem_append.mpr ⟨List.forall_mem_append.mpr ⟨List.forall_mem_append.mpr ⟨wsL_law0_r1_in, List.forall_mem_append.mpr ⟨wsL_law0_r2_in, List.forall_mem_append.mpr ⟨wsL_law0_r3_in, List.forall_mem_append.mpr ⟨wsL_law0_r4_in, List.forall_mem_append.mpr ⟨wsL_law0_r5_in, List.forall_mem_append.mpr ⟨wsL_law0_r6_in, List.forall_mem_append.mpr ⟨wsL_law0_r7_in, List.forall_mem_append.mpr ⟨wsL_law0_r8_in, List.forall_mem_append.mpr ⟨wsL_law0_r9_in, List.forall_mem_append.mpr ⟨wsL_law0_r10_in, List.forall_mem_append.mpr ⟨wsL_law0_r11_in, List.forall_mem_append.mpr ⟨wsL_law0_r12_in, List.forall_mem_append.mpr ⟨wsL_law0_r13_in, List.forall_mem_append.mpr ⟨wsL_law0_r14_in, List.forall_mem_append.mpr ⟨wsL_law0_r15_in, List.forall_mem_append.mpr ⟨wsL_law0_r16_in, List.forall_mem_append.mpr ⟨wsL_law0_r17_in, List.forall_mem_append.mpr ⟨wsL_law0_r18_in, List.forall_mem_append.mpr ⟨wsL_law0_r19_in, wsL_law0_r20_in⟩⟩⟩⟩⟩⟩⟩⟩⟩⟩⟩⟩⟩⟩⟩⟩⟩⟩⟩, wsX10_lin⟩, wsX20_lin⟩, wsX00_lin⟩, wsL_law0_nil⟩
theorem wsL_law_x0 : ∀ w ∈ (vx_atS RX1 37 "java/lang/IllegalArgumentException" ["java/lang/RuntimeException", "java/lang/Exception"]).filter goodWord, w ∈ lw_tbl := by decide +kernel
theorem wsL_law_x1 : ∀ w ∈ (vx_atS RX1 80 "java/lang/IllegalStateException" ["java/lang/RuntimeException", "java/lang/Exception"]).filter goodWord, w ∈ lw_tbl := by decide +kernel
theorem wsL_law_x2 : ∀ w ∈ (vx_atS RX1 155 "java/lang/IndexOutOfBoundsException" ["java/lang/RuntimeException", "java/lang/Exception"]).filter goodWord, w ∈ lw_tbl := by decide +kernel
theorem wsL_law_in : ∀ w ∈ wsL_law, w ∈ lw_tbl := fun w h => (List.mem_append.mp h).elim (fun h => (List.mem_append.mp h).elim (fun h => (List.mem_append.mp h).elim (fun h => wsL_law_in0 w h) (fun h => wsL_law_x0 w h)) (fun h => wsL_law_x1 w h)) (fun h => wsL_law_x2 w h)
theorem inlX0 : ∀ w ∈ wsX00, w ∈ wsL_law := fun _ h => List.mem_append_left _ (List.mem_append_left _ (List.mem_append_left _ (List.mem_append_left _ (List.mem_append_right _ h))))
theorem inX0 : ∀ w ∈ wsX00, w ∈ lw_tbl := fun w h => wsL_law_in w (inlX0 w h)
theorem inlX1 : ∀ w ∈ wsX10, w ∈ wsL_law := fun _ h => List.mem_append_left _ (List.mem_append_left _ (List.mem_append_left _ (List.mem_append_left _ (List.mem_append_left _ (List.mem_append_left _ (List.mem_append_right _ h))))))
theorem inX1 : ∀ w ∈ wsX10, w ∈ lw_tbl := fun w h => wsL_law_in w (inlX1 w h)
theorem inlX2 : ∀ w ∈ wsX20, w ∈ wsL_law := fun _ h => List.mem_append_left _ (List.mem_append_left _ (List.mem_append_left _ (List.mem_append_left _ (List.mem_append_left _ (List.mem_append_right _ h)))))
theorem inX2 : ∀ w ∈ wsX20, w ∈ lw_tbl := fun w h => wsL_law_in w (inlX2 w h)
end
section
set_option maxRecDepth 20000 in
theorem ggL_throwShells_X1_throwShells : GoodIn wsL_throwShells wsX1_throwShells := goodIn_ca (goodIn_ca (goodIn_r _ [7, 8, 9, 10, 11, 12, 13, 14, 15, 16, 17, 6, 18, 19, 20, 21, 22, 23, 24, 25, 26, 27, 28, 29, 30, 31, 32, 33, 34, 35, 36, 37, 38, 39, 40, 41, 42, 43, 44, 45, 46, 47, 48, 49, 50, 51, 52, 53, 54, 55, 56, 57, 58, 59, 60, 61, 62, 63, 64, 65, 66, 67, 68, 69, 70, 71, 72, 73, 74, 75, 76, 77, 78, 79, 80, 81, 82, 83, 84, 85, 86, 87, 88, 89, 90] (by decide +kernel) (by decide +kernel)) (goodIn_sub (fun _ h => List.mem_cons_of_mem _ (List.mem_append_left _ (List.mem_append_right _ h))) (by decide +kernel))) (goodIn_sub (fun _ h => List.mem_cons_of_mem _ (List.mem_append_right _ h)) (by decide +kernel))
set_option maxRecDepth 20000 in
theorem gL_throwShells_X1_throwShells : GoodIn wsL_throwShells (wsV RL 7 RX1 yX1_throwShells wsX1_throwShells) := goodIn_app (goodIn_of _ (by decide +kernel)) ggL_throwShells_X1_throwShells
theorem dL_throwShells_0 : decode cL_throwShells 0 = .ok (.aload_n 2, 1) := by decide +kernel
theorem dL_throwShells_1 : decode cL_throwShells 1 = .ok (.iconst 0, 1) := by decide +kernel
theorem dL_throwShells_2 : decode cL_throwShells 2 = .ok (.aload_n 0, 1) := by decide +kernel
theorem dL_throwShells_3 : decode cL_throwShells 3 = .ok (.iload_n 1, 1) := by decide +kernel
theorem dL_throwShells_4 : decode cL_throwShells 4 = .ok (.invokevirtual 7, 3) := by decide +kernel
theorem dL_throwShells_7 : decode cL_throwShells 7 = .ok (.i2l, 1) := by decide +kernel
theorem dL_throwShells_8 : decode cL_throwShells 8 = .ok (.lastore, 1) := by decide +kernel
theorem dL_throwShells_9 : decode cL_throwShells 9 = .ok (.goto 9, 3) := by decide +kernel
theorem dL_throwShells_12 : decode cL_throwShells 12 = .ok (.astore_n 3, 1) := by decide +kernel
theorem dL_throwShells_13 : decode cL_throwShells 13 = .ok (.iconst 1, 1) := by decide +kernel
theorem dL_throwShells_14 : decode cL_throwShells 14 = .ok (.ireturn, 1) := by decide +kernel
theorem dL_throwShells_15 : decode cL_throwShells 15 = .ok (.astore_n 3, 1) := by decide +kernel
theorem dL_throwShells_16 : decode cL_throwShells 16 = .ok (.iconst 2, 1) := by decide +kernel
theorem dL_throwShells_17 : decode cL_throwShells 17 = .ok (.ireturn, 1) := by decide +kernel
theorem dL_throwShells_18 : decode cL_throwShells 18 = .ok (.iconst 0, 1) := by decide +kernel
theorem dL_throwShells_19 : decode cL_throwShells 19 = .ok (.ireturn, 1) := by decide +kernel
set_option maxRecDepth 20000 in
theorem ggL_move_X1_move : GoodIn wsL_move wsX1_move := goodIn_ca (goodIn_ca (goodIn_r _ [7, 8, 9, 10, 11, 12, 13, 14, 6, 15, 16, 17, 18, 19, 20, 21, 22, 23, 24, 25, 26, 27, 28, 29, 30, 31, 32, 33, 34, 35, 36, 37, 38, 39, 40, 41, 42, 43, 44, 45, 46, 47, 48, 49, 50, 51, 52, 53, 54, 55, 56, 57, 58, 59, 60, 61, 62, 63, 64, 65, 66, 67, 68, 69, 70, 71, 72, 73, 74, 75, 76, 77, 78, 79, 80, 81, 82, 83, 84, 85, 86, 87, 88, 89, 90, 91, 92, 93, 94, 95, 96, 97, 98, 99, 100, 101, 102, 103, 104, 105, 106, 107, 108, 109, 110, 111, 112, 113, 114, 115, 116] (by decide +kernel) (by decide +kernel)) (goodIn_sub (fun _ h => List.mem_cons_of_mem _ (List.mem_append_left _ (List.mem_append_right _ h))) (by decide +kernel))) (goodIn_sub (fun _ h => List.mem_cons_of_mem _ (List.mem_append_right _ h)) (by decide +kernel))
set_option maxRecDepth 20000 in
theorem gL_move_X1_move : GoodIn wsL_move (wsV RL 17 RX1 yX1_move wsX1_move) := goodIn_app (goodIn_of _ (by decide +kernel)) ggL_move_X1_move
theorem dL_move_0 : decode cL_move 0 = .ok (.aload_n 2, 1) := by decide +kernel
theorem dL_move_1 : decode cL_move 1 = .ok (.iconst 0, 1) := by decide +kernel
theorem dL_move_2 : decode cL_move 2 = .ok (.aload_n 0, 1) := by decide +kernel
theorem dL_move_3 : decode cL_move 3 = .ok (.iload_n 1, 1) := by decide +kernel
theorem dL_move_4 : decode cL_move 4 = .ok (.invokevirtual 17, 3) := by decide +kernel
theorem dL_move_7 : decode cL_move 7 = .ok (.i2l, 1) := by decide +kernel
theorem dL_move_8 : decode cL_move 8 = .ok (.lastore, 1) := by decide +kernel
theorem dL_move_9 : decode cL_move 9 = .ok (.goto 9, 3) := by decide +kernel
theorem dL_move_12 : decode cL_move 12 = .ok (.astore_n 3, 1) := by decide +kernel
theorem dL_move_13 : decode cL_move 13 = .ok (.iconst 1, 1) := by decide +kernel
theorem dL_move_14 : decode cL_move 14 = .ok (.ireturn, 1) := by decide +kernel
theorem dL_move_15 : decode cL_move 15 = .ok (.astore_n 3, 1) := by decide +kernel
theorem dL_move_16 : decode cL_move 16 = .ok (.iconst 2, 1) := by decide +kernel
theorem dL_move_17 : decode cL_move 17 = .ok (.ireturn, 1) := by decide +kernel
theorem dL_move_18 : decode cL_move 18 = .ok (.iconst 0, 1) := by decide +kernel
theorem dL_move_19 : decode cL_move 19 = .ok (.ireturn, 1) := by decide +kernel
set_option maxRecDepth 20000 in
theorem ggL_movable_X1_movable : GoodIn wsL_movable wsX1_movable := goodIn_ca (goodIn_r _ [6, 7, 8, 9, 10, 11, 12, 5, 13, 14, 15, 16, 17, 18, 19, 20, 21, 22, 23, 24, 25, 26, 27, 28, 29, 30, 31, 32, 33, 34, 35, 36, 37, 38, 39, 40, 41, 42, 43, 44, 45, 46, 47, 48, 49, 50, 51, 52, 53, 54, 55, 56, 57, 58, 59, 60, 61, 62, 63, 64, 65, 66, 67, 68, 69, 70, 71, 72, 73, 74, 75, 76, 77] (by decide +kernel) (by decide +kernel)) (goodIn_sub (fun _ h => List.mem_cons_of_mem _ (List.mem_append_right _ h)) (by decide +kernel))
set_option maxRecDepth 20000 in
theorem gL_movable_X1_movable : GoodIn wsL_movable (wsV RL 22 RX1 yX1_movable wsX1_movable) := goodIn_app (goodIn_of _ (by decide +kernel)) ggL_movable_X1_movable
theorem dL_movable_0 : decode cL_movable 0 = .ok (.aload_n 1, 1) := by decide +kernel
theorem dL_movable_1 : decode cL_movable 1 = .ok (.iconst 0, 1) := by decide +kernel
theorem dL_movable_2 : decode cL_movable 2 = .ok (.aload_n 0, 1) := by decide +kernel
theorem dL_movable_3 : decode cL_movable 3 = .ok (.invokevirtual 22, 3) := by decide +kernel
theorem dL_movable_6 : decode cL_movable 6 = .ok (.i2l, 1) := by decide +kernel
theorem dL_movable_7 : decode cL_movable 7 = .ok (.lastore, 1) := by decide +kernel
theorem dL_movable_8 : decode cL_movable 8 = .ok (.goto 6, 3) := by decide +kernel
theorem dL_movable_11 : decode cL_movable 11 = .ok (.astore_n 2, 1) := by decide +kernel
theorem dL_movable_12 : decode cL_movable 12 = .ok (.iconst 1, 1) := by decide +kernel
theorem dL_movable_13 : decode cL_movable 13 = .ok (.ireturn, 1) := by decide +kernel
theorem dL_movable_14 : decode cL_movable 14 = .ok (.iconst 0, 1) := by decide +kernel
theorem dL_movable_15 : decode cL_movable 15 = .ok (.ireturn, 1) := by decide +kernel
set_option maxRecDepth 20000 in
theorem ggL_position_X1_position : GoodIn wsL_position wsX1_position := goodIn_ca (goodIn_r _ [6, 7, 8, 9, 5, 10, 11, 12, 13, 14, 15, 16, 17, 18, 19, 20, 21, 22, 23, 24, 25, 26, 27, 28, 29] (by decide +kernel) (by decide +kernel)) (goodIn_sub (fun _ h => List.mem_cons_of_mem _ (List.mem_append_right _ h)) (by decide +kernel))
set_option maxRecDepth 20000 in
theorem gL_position_X1_position : GoodIn wsL_position (wsV RL 26 RX1 yX1_position wsX1_position) := goodIn_app (goodIn_of _ (by decide +kernel)) ggL_position_X1_position
theorem dL_position_0 : decode cL_position 0 = .ok (.aload_n 3, 1) := by decide +kernel
theorem dL_position_1 : decode cL_position 1 = .ok (.iconst 0, 1) := by decide +kernel
theorem dL_position_2 : decode cL_position 2 = .ok (.aload_n 0, 1) := by decide +kernel
theorem dL_position_3 : decode cL_position 3 = .ok (.iload_n 1, 1) := by decide +kernel
theorem dL_position_4 : decode cL_position 4 = .ok (.iload_n 2, 1) := by decide +kernel
theorem dL_position_5 : decode cL_position 5 = .ok (.invokevirtual 26, 3) := by decide +kernel
theorem dL_position_8 : decode cL_position 8 = .ok (.i2l, 1) := by decide +kernel
theorem dL_position_9 : decode cL_position 9 = .ok (.lastore, 1) := by decide +kernel
theorem dL_position_10 : decode cL_position 10 = .ok (.goto 7, 3) := by decide +kernel
theorem dL_position_13 : decode cL_position 13 = .ok (.astore 4, 2) := by decide +kernel
theorem dL_position_15 : decode cL_position 15 = .ok (.iconst 1, 1) := by decide +kernel
theorem dL_position_16 : decode cL_position 16 = .ok (.ireturn, 1) := by decide +kernel
theorem dL_position_17 : decode cL_position 17 = .ok (.iconst 0, 1) := by decide +kernel
theorem dL_position_18 : decode cL_position 18 = .ok (.ireturn, 1) := by decide +kernel
set_option maxRecDepth 20000 in
theorem ggL_square_X1_square : GoodIn wsL_square wsX1_square := goodIn_ca (goodIn_r _ [6, 7, 8, 9, 5, 10, 11, 12, 13, 14, 15, 16, 17, 18, 19, 20, 21, 22, 23, 24, 25, 26, 27, 28, 29, 30, 31, 32, 33] (by decide +kernel) (by decide +kernel)) (goodIn_sub (fun _ h => List.mem_cons_of_mem _ (List.mem_append_right _ h)) (by decide +kernel))
set_option maxRecDepth 20000 in
theorem gL_square_X1_square : GoodIn wsL_square (wsV RL 30 RX1 yX1_square wsX1_square) := goodIn_app (goodIn_of _ (by decide +kernel)) ggL_square_X1_square
theorem dL_square_0 : decode cL_square 0 = .ok (.aload_n 3, 1) := by decide +kernel
theorem dL_square_1 : decode cL_square 1 = .ok (.iconst 0, 1) := by decide +kernel
theorem dL_square_2 : decode cL_square 2 = .ok (.aload_n 0, 1) := by decide +kernel
theorem dL_square_3 : decode cL_square 3 = .ok (.iload_n 1, 1) := by decide +kernel
theorem dL_square_4 : decode cL_square 4 = .ok (.iload_n 2, 1) := by decide +kernel
theorem dL_square_5 : decode cL_square 5 = .ok (.invokevirtual 30, 3) := by decide +kernel
theorem dL_square_8 : decode cL_square 8 = .ok (.i2l, 1) := by decide +kernel
theorem dL_square_9 : decode cL_square 9 = .ok (.lastore, 1) := by decide +kernel
theorem dL_square_10 : decode cL_square 10 = .ok (.goto 7, 3) := by decide +kernel
theorem dL_square_13 : decode cL_square 13 = .ok (.astore 4, 2) := by decide +kernel
theorem dL_square_15 : decode cL_square 15 = .ok (.iconst 1, 1) := by decide +kernel
theorem dL_square_16 : decode cL_square 16 = .ok (.ireturn, 1) := by decide +kernel
theorem dL_square_17 : decode cL_square 17 = .ok (.iconst 0, 1) := by decide +kernel
theorem dL_square_18 : decode cL_square 18 = .ok (.ireturn, 1) := by decide +kernel
set_option maxRecDepth 20000 in
theorem ggL_standing_X1_standing : GoodIn wsL_standing wsX1_standing := goodIn_ca (goodIn_ca (goodIn_r _ [7, 8, 9, 10, 6, 11, 12, 13, 14, 15, 16, 17, 18, 19, 20, 21, 22, 23, 24, 25, 26, 27, 28, 29, 30, 31, 32] (by decide +kernel) (by decide +kernel)) (goodIn_sub (fun _ h => List.mem_cons_of_mem _ (List.mem_append_left _ (List.mem_append_right _ h))) (by decide +kernel))) (goodIn_sub (fun _ h => List.mem_cons_of_mem _ (List.mem_append_right _ h)) (by decide +kernel))
set_option maxRecDepth 20000 in
theorem gL_standing_X1_standing : GoodIn wsL_standing (wsV RL 33 RX1 yX1_standing wsX1_standing) := goodIn_app (goodIn_of _ (by decide +kernel)) ggL_standing_X1_standing
theorem dL_standing_0 : decode cL_standing 0 = .ok (.aload_n 3, 1) := by decide +kernel
theorem dL_standing_1 : decode cL_standing 1 = .ok (.iconst 0, 1) := by decide +kernel
theorem dL_standing_2 : decode cL_standing 2 = .ok (.aload_n 0, 1) := by decide +kernel
theorem dL_standing_3 : decode cL_standing 3 = .ok (.iload_n 1, 1) := by decide +kernel
theorem dL_standing_4 : decode cL_standing 4 = .ok (.iload_n 2, 1) := by decide +kernel
theorem dL_standing_5 : decode cL_standing 5 = .ok (.invokevirtual 33, 3) := by decide +kernel
theorem dL_standing_8 : decode cL_standing 8 = .ok (.i2l, 1) := by decide +kernel
theorem dL_standing_9 : decode cL_standing 9 = .ok (.lastore, 1) := by decide +kernel
theorem dL_standing_10 : decode cL_standing 10 = .ok (.goto 11, 3) := by decide +kernel
theorem dL_standing_13 : decode cL_standing 13 = .ok (.astore 4, 2) := by decide +kernel
theorem dL_standing_15 : decode cL_standing 15 = .ok (.iconst 1, 1) := by decide +kernel
theorem dL_standing_16 : decode cL_standing 16 = .ok (.ireturn, 1) := by decide +kernel
theorem dL_standing_17 : decode cL_standing 17 = .ok (.astore 4, 2) := by decide +kernel
theorem dL_standing_19 : decode cL_standing 19 = .ok (.iconst 2, 1) := by decide +kernel
theorem dL_standing_20 : decode cL_standing 20 = .ok (.ireturn, 1) := by decide +kernel
theorem dL_standing_21 : decode cL_standing 21 = .ok (.iconst 0, 1) := by decide +kernel
theorem dL_standing_22 : decode cL_standing 22 = .ok (.ireturn, 1) := by decide +kernel
set_option maxRecDepth 20000 in
theorem ggL_isSafe_X1_isSafe : GoodIn wsL_isSafe wsX1_isSafe := goodIn_ca (goodIn_r _ [6, 7, 8, 5, 9, 10, 11, 12, 13, 14] (by decide +kernel) (by decide +kernel)) (goodIn_sub (fun _ h => List.mem_cons_of_mem _ (List.mem_append_right _ h)) (by decide +kernel))
set_option maxRecDepth 20000 in
theorem gL_isSafe_X1_isSafe : GoodIn wsL_isSafe (wsV RL 36 RX1 yX1_isSafe wsX1_isSafe) := goodIn_app (goodIn_of _ (by decide +kernel)) ggL_isSafe_X1_isSafe
theorem dL_isSafe_0 : decode cL_isSafe 0 = .ok (.aload_n 2, 1) := by decide +kernel
theorem dL_isSafe_1 : decode cL_isSafe 1 = .ok (.iconst 0, 1) := by decide +kernel
theorem dL_isSafe_2 : decode cL_isSafe 2 = .ok (.aload_n 0, 1) := by decide +kernel
theorem dL_isSafe_3 : decode cL_isSafe 3 = .ok (.iload_n 1, 1) := by decide +kernel
theorem dL_isSafe_4 : decode cL_isSafe 4 = .ok (.invokevirtual 36, 3) := by decide +kernel
theorem dL_isSafe_7 : decode cL_isSafe 7 = .ok (.ifCond .eq 7, 3) := by decide +kernel
theorem dL_isSafe_10 : decode cL_isSafe 10 = .ok (.lconst 1, 1) := by decide +kernel
theorem dL_isSafe_11 : decode cL_isSafe 11 = .ok (.goto 4, 3) := by decide +kernel
theorem dL_isSafe_14 : decode cL_isSafe 14 = .ok (.lconst 0, 1) := by decide +kernel
theorem dL_isSafe_15 : decode cL_isSafe 15 = .ok (.lastore, 1) := by decide +kernel
theorem dL_isSafe_16 : decode cL_isSafe 16 = .ok (.goto 6, 3) := by decide +kernel
theorem dL_isSafe_19 : decode cL_isSafe 19 = .ok (.astore_n 3, 1) := by decide +kernel
theorem dL_isSafe_20 : decode cL_isSafe 20 = .ok (.iconst 1, 1) := by decide +kernel
theorem dL_isSafe_21 : decode cL_isSafe 21 = .ok (.ireturn, 1) := by decide +kernel
theorem dL_isSafe_22 : decode cL_isSafe 22 = .ok (.iconst 0, 1) := by decide +kernel
theorem dL_isSafe_23 : decode cL_isSafe 23 = .ok (.ireturn, 1) := by decide +kernel
set_option maxRecDepth 20000 in
theorem ggL_home_X1_home : GoodIn wsL_home wsX1_home := goodIn_ca (goodIn_r _ [6, 7, 8, 9, 5, 10, 11, 12, 13, 14, 15, 16, 17, 18, 19, 20, 21, 22, 23, 24, 25, 26, 27, 28, 29, 30] (by decide +kernel) (by decide +kernel)) (goodIn_sub (fun _ h => List.mem_cons_of_mem _ (List.mem_append_right _ h)) (by decide +kernel))
set_option maxRecDepth 20000 in
theorem gL_home_X1_home : GoodIn wsL_home (wsV RL 40 RX1 yX1_home wsX1_home) := goodIn_app (goodIn_of _ (by decide +kernel)) ggL_home_X1_home
theorem dL_home_0 : decode cL_home 0 = .ok (.aload_n 2, 1) := by decide +kernel
theorem dL_home_1 : decode cL_home 1 = .ok (.iconst 0, 1) := by decide +kernel
theorem dL_home_2 : decode cL_home 2 = .ok (.aload_n 0, 1) := by decide +kernel
theorem dL_home_3 : decode cL_home 3 = .ok (.iload_n 1, 1) := by decide +kernel
theorem dL_home_4 : decode cL_home 4 = .ok (.invokevirtual 40, 3) := by decide +kernel
theorem dL_home_7 : decode cL_home 7 = .ok (.i2l, 1) := by decide +kernel
theorem dL_home_8 : decode cL_home 8 = .ok (.lastore, 1) := by decide +kernel
theorem dL_home_9 : decode cL_home 9 = .ok (.goto 6, 3) := by decide +kernel
theorem dL_home_12 : decode cL_home 12 = .ok (.astore_n 3, 1) := by decide +kernel
theorem dL_home_13 : decode cL_home 13 = .ok (.iconst 1, 1) := by decide +kernel
theorem dL_home_14 : decode cL_home 14 = .ok (.ireturn, 1) := by decide +kernel
theorem dL_home_15 : decode cL_home 15 = .ok (.iconst 0, 1) := by decide +kernel
theorem dL_home_16 : decode cL_home 16 = .ok (.ireturn, 1) := by decide +kernel
set_option maxRecDepth 20000 in
theorem ggL_captures_X1_captures : GoodIn wsL_captures wsX1_captures := goodIn_ca (goodIn_r _ [6, 7, 8, 9, 5, 10, 11, 12, 13, 14, 15, 16, 17, 18] (by decide +kernel) (by decide +kernel)) (goodIn_sub (fun _ h => List.mem_cons_of_mem _ (List.mem_append_right _ h)) (by decide +kernel))
set_option maxRecDepth 20000 in
theorem gL_captures_X1_captures : GoodIn wsL_captures (wsV RL 43 RX1 yX1_captures wsX1_captures) := goodIn_app (goodIn_of _ (by decide +kernel)) ggL_captures_X1_captures
theorem dL_captures_0 : decode cL_captures 0 = .ok (.aload_n 2, 1) := by decide +kernel
theorem dL_captures_1 : decode cL_captures 1 = .ok (.iconst 0, 1) := by decide +kernel
theorem dL_captures_2 : decode cL_captures 2 = .ok (.aload_n 0, 1) := by decide +kernel
theorem dL_captures_3 : decode cL_captures 3 = .ok (.iload_n 1, 1) := by decide +kernel
theorem dL_captures_4 : decode cL_captures 4 = .ok (.invokevirtual 43, 3) := by decide +kernel
theorem dL_captures_7 : decode cL_captures 7 = .ok (.i2l, 1) := by decide +kernel
theorem dL_captures_8 : decode cL_captures 8 = .ok (.lastore, 1) := by decide +kernel
theorem dL_captures_9 : decode cL_captures 9 = .ok (.goto 6, 3) := by decide +kernel
theorem dL_captures_12 : decode cL_captures 12 = .ok (.astore_n 3, 1) := by decide +kernel
theorem dL_captures_13 : decode cL_captures 13 = .ok (.iconst 1, 1) := by decide +kernel
theorem dL_captures_14 : decode cL_captures 14 = .ok (.ireturn, 1) := by decide +kernel
theorem dL_captures_15 : decode cL_captures 15 = .ok (.iconst 0, 1) := by decide +kernel
theorem dL_captures_16 : decode cL_captures 16 = .ok (.ireturn, 1) := by decide +kernel
set_option maxRecDepth 20000 in
theorem ggL_distance_X1_distance : GoodIn wsL_distance wsX1_distance := goodIn_ca (goodIn_r _ [6, 7, 8, 9, 5, 10, 11, 12, 13, 14, 15, 16, 17, 18, 19, 20, 21, 22, 23, 24, 25, 26, 27, 28, 29, 30] (by decide +kernel) (by decide +kernel)) (goodIn_sub (fun _ h => List.mem_cons_of_mem _ (List.mem_append_right _ h)) (by decide +kernel))
set_option maxRecDepth 20000 in
theorem gL_distance_X1_distance : GoodIn wsL_distance (wsV RL 46 RX1 yX1_distance wsX1_distance) := goodIn_app (goodIn_of _ (by decide +kernel)) ggL_distance_X1_distance
theorem dL_distance_0 : decode cL_distance 0 = .ok (.aload_n 2, 1) := by decide +kernel
theorem dL_distance_1 : decode cL_distance 1 = .ok (.iconst 0, 1) := by decide +kernel
theorem dL_distance_2 : decode cL_distance 2 = .ok (.aload_n 0, 1) := by decide +kernel
theorem dL_distance_3 : decode cL_distance 3 = .ok (.iload_n 1, 1) := by decide +kernel
theorem dL_distance_4 : decode cL_distance 4 = .ok (.invokevirtual 46, 3) := by decide +kernel
theorem dL_distance_7 : decode cL_distance 7 = .ok (.i2l, 1) := by decide +kernel
theorem dL_distance_8 : decode cL_distance 8 = .ok (.lastore, 1) := by decide +kernel
theorem dL_distance_9 : decode cL_distance 9 = .ok (.goto 6, 3) := by decide +kernel
theorem dL_distance_12 : decode cL_distance 12 = .ok (.astore_n 3, 1) := by decide +kernel
theorem dL_distance_13 : decode cL_distance 13 = .ok (.iconst 1, 1) := by decide +kernel
theorem dL_distance_14 : decode cL_distance 14 = .ok (.ireturn, 1) := by decide +kernel
theorem dL_distance_15 : decode cL_distance 15 = .ok (.iconst 0, 1) := by decide +kernel
theorem dL_distance_16 : decode cL_distance 16 = .ok (.ireturn, 1) := by decide +kernel
set_option maxRecDepth 20000 in
theorem ggL_ways_X1_ways : GoodIn wsL_ways wsX1_ways := goodIn_ca (goodIn_ca (goodIn_r _ [7, 8, 9, 10, 11, 12, 13, 14, 15, 6, 16, 17, 18, 19, 20, 21, 22, 23, 24, 25, 26, 27, 28, 29, 30, 31, 32, 33, 34, 35, 36, 37, 38, 39, 40, 41, 42, 43, 44, 45, 46, 47, 48, 49, 50, 51, 52, 53, 54, 55, 56, 57, 58, 59, 60, 61, 62, 63, 64, 65, 66, 67, 68, 69, 70, 71, 72, 73, 74, 75, 76, 77, 78, 79, 80, 81, 82, 83, 84, 85, 86, 87, 88, 89, 90, 91, 92] (by decide +kernel) (by decide +kernel)) (goodIn_sub (fun _ h => List.mem_cons_of_mem _ (List.mem_append_left _ (List.mem_append_right _ h))) (by decide +kernel))) (goodIn_sub (fun _ h => List.mem_cons_of_mem _ (List.mem_append_right _ h)) (by decide +kernel))
set_option maxRecDepth 20000 in
theorem gL_ways_X1_ways : GoodIn wsL_ways (wsV RL 49 RX1 yX1_ways wsX1_ways) := goodIn_app (goodIn_of _ (by decide +kernel)) ggL_ways_X1_ways
theorem dL_ways_0 : decode cL_ways 0 = .ok (.aload_n 2, 1) := by decide +kernel
theorem dL_ways_1 : decode cL_ways 1 = .ok (.iconst 0, 1) := by decide +kernel
theorem dL_ways_2 : decode cL_ways 2 = .ok (.aload_n 0, 1) := by decide +kernel
theorem dL_ways_3 : decode cL_ways 3 = .ok (.iload_n 1, 1) := by decide +kernel
theorem dL_ways_4 : decode cL_ways 4 = .ok (.invokevirtual 49, 3) := by decide +kernel
theorem dL_ways_7 : decode cL_ways 7 = .ok (.i2l, 1) := by decide +kernel
theorem dL_ways_8 : decode cL_ways 8 = .ok (.lastore, 1) := by decide +kernel
theorem dL_ways_9 : decode cL_ways 9 = .ok (.goto 9, 3) := by decide +kernel
theorem dL_ways_12 : decode cL_ways 12 = .ok (.astore_n 3, 1) := by decide +kernel
theorem dL_ways_13 : decode cL_ways 13 = .ok (.iconst 1, 1) := by decide +kernel
theorem dL_ways_14 : decode cL_ways 14 = .ok (.ireturn, 1) := by decide +kernel
theorem dL_ways_15 : decode cL_ways 15 = .ok (.astore_n 3, 1) := by decide +kernel
theorem dL_ways_16 : decode cL_ways 16 = .ok (.iconst 2, 1) := by decide +kernel
theorem dL_ways_17 : decode cL_ways 17 = .ok (.ireturn, 1) := by decide +kernel
theorem dL_ways_18 : decode cL_ways 18 = .ok (.iconst 0, 1) := by decide +kernel
theorem dL_ways_19 : decode cL_ways 19 = .ok (.ireturn, 1) := by decide +kernel
set_option maxRecDepth 20000 in
theorem ggL_threat_X1_threat : GoodIn wsL_threat wsX1_threat := goodIn_ca (goodIn_ca (goodIn_r _ [7, 8, 9, 10, 11, 12, 6, 13, 14, 15, 16, 17, 18, 19, 20, 21, 22, 23, 24, 25, 26, 27, 28, 29, 30, 31, 32, 33, 34, 35, 36, 37, 38, 39, 40, 41, 42, 43, 44, 45, 46, 47, 48, 49, 50, 51, 52, 53, 54, 55, 56, 57, 58, 59, 60, 61, 62, 63, 64, 65, 66, 67, 68, 69, 70, 71, 72, 73, 74, 75, 76, 77, 78, 79, 80, 81, 82, 83, 84, 85, 86, 87, 88] (by decide +kernel) (by decide +kernel)) (goodIn_sub (fun _ h => List.mem_cons_of_mem _ (List.mem_append_left _ (List.mem_append_right _ h))) (by decide +kernel))) (goodIn_sub (fun _ h => List.mem_cons_of_mem _ (List.mem_append_right _ h)) (by decide +kernel))
set_option maxRecDepth 20000 in
theorem gL_threat_X1_threat : GoodIn wsL_threat (wsV RL 52 RX1 yX1_threat wsX1_threat) := goodIn_app (goodIn_of _ (by decide +kernel)) ggL_threat_X1_threat
theorem dL_threat_0 : decode cL_threat 0 = .ok (.aload 4, 2) := by decide +kernel
theorem dL_threat_2 : decode cL_threat 2 = .ok (.iconst 0, 1) := by decide +kernel
theorem dL_threat_3 : decode cL_threat 3 = .ok (.aload_n 0, 1) := by decide +kernel
theorem dL_threat_4 : decode cL_threat 4 = .ok (.iload_n 1, 1) := by decide +kernel
theorem dL_threat_5 : decode cL_threat 5 = .ok (.iload_n 2, 1) := by decide +kernel
theorem dL_threat_6 : decode cL_threat 6 = .ok (.iload_n 3, 1) := by decide +kernel
theorem dL_threat_7 : decode cL_threat 7 = .ok (.invokevirtual 52, 3) := by decide +kernel
theorem dL_threat_10 : decode cL_threat 10 = .ok (.i2l, 1) := by decide +kernel
theorem dL_threat_11 : decode cL_threat 11 = .ok (.lastore, 1) := by decide +kernel
theorem dL_threat_12 : decode cL_threat 12 = .ok (.goto 11, 3) := by decide +kernel
theorem dL_threat_15 : decode cL_threat 15 = .ok (.astore 5, 2) := by decide +kernel
theorem dL_threat_17 : decode cL_threat 17 = .ok (.iconst 1, 1) := by decide +kernel
theorem dL_threat_18 : decode cL_threat 18 = .ok (.ireturn, 1) := by decide +kernel
theorem dL_threat_19 : decode cL_threat 19 = .ok (.astore 5, 2) := by decide +kernel
theorem dL_threat_21 : decode cL_threat 21 = .ok (.iconst 2, 1) := by decide +kernel
theorem dL_threat_22 : decode cL_threat 22 = .ok (.ireturn, 1) := by decide +kernel
theorem dL_threat_23 : decode cL_threat 23 = .ok (.iconst 0, 1) := by decide +kernel
theorem dL_threat_24 : decode cL_threat 24 = .ok (.ireturn, 1) := by decide +kernel
set_option maxRecDepth 20000 in
theorem ggL_captureChance_X1_captureChance : GoodIn wsL_captureChance wsX1_captureChance := goodIn_ca (goodIn_ca (goodIn_r _ [7, 8, 9, 10, 11, 12, 13, 6, 14, 15, 16, 17, 18, 19, 20, 21, 22, 23, 24, 25, 26, 27, 28, 29, 30, 31, 32, 33, 34, 35, 36, 37, 38, 39, 40, 41, 42, 43, 44, 45, 46, 47, 48, 49, 50, 51, 52, 53, 54, 55, 56, 57, 58, 59, 60, 61, 62, 63, 64, 65, 66, 67, 68, 69, 70, 71, 72, 73, 74, 75, 76, 77, 78, 79, 80, 81, 82, 83, 84, 85, 86, 87, 88, 89, 90, 91, 92, 93, 94, 95, 96, 97, 98, 99, 100, 101, 102, 103, 104, 105, 106, 107, 108, 109, 110, 111, 112, 113, 114, 115, 116, 117, 118, 119, 120, 121, 122, 123, 124, 125, 126] (by decide +kernel) (by decide +kernel)) (goodIn_sub (fun _ h => List.mem_cons_of_mem _ (List.mem_append_left _ (List.mem_append_right _ h))) (by decide +kernel))) (goodIn_sub (fun _ h => List.mem_cons_of_mem _ (List.mem_append_right _ h)) (by decide +kernel))
set_option maxRecDepth 20000 in
theorem gL_captureChance_X1_captureChance : GoodIn wsL_captureChance (wsV RL 56 RX1 yX1_captureChance wsX1_captureChance) := goodIn_app (goodIn_of _ (by decide +kernel)) ggL_captureChance_X1_captureChance
theorem dL_captureChance_0 : decode cL_captureChance 0 = .ok (.aload_n 2, 1) := by decide +kernel
theorem dL_captureChance_1 : decode cL_captureChance 1 = .ok (.iconst 0, 1) := by decide +kernel
theorem dL_captureChance_2 : decode cL_captureChance 2 = .ok (.aload_n 0, 1) := by decide +kernel
theorem dL_captureChance_3 : decode cL_captureChance 3 = .ok (.iload_n 1, 1) := by decide +kernel
theorem dL_captureChance_4 : decode cL_captureChance 4 = .ok (.invokevirtual 56, 3) := by decide +kernel
theorem dL_captureChance_7 : decode cL_captureChance 7 = .ok (.i2l, 1) := by decide +kernel
theorem dL_captureChance_8 : decode cL_captureChance 8 = .ok (.lastore, 1) := by decide +kernel
theorem dL_captureChance_9 : decode cL_captureChance 9 = .ok (.goto 9, 3) := by decide +kernel
theorem dL_captureChance_12 : decode cL_captureChance 12 = .ok (.astore_n 3, 1) := by decide +kernel
theorem dL_captureChance_13 : decode cL_captureChance 13 = .ok (.iconst 1, 1) := by decide +kernel
theorem dL_captureChance_14 : decode cL_captureChance 14 = .ok (.ireturn, 1) := by decide +kernel
theorem dL_captureChance_15 : decode cL_captureChance 15 = .ok (.astore_n 3, 1) := by decide +kernel
theorem dL_captureChance_16 : decode cL_captureChance 16 = .ok (.iconst 2, 1) := by decide +kernel
theorem dL_captureChance_17 : decode cL_captureChance 17 = .ok (.ireturn, 1) := by decide +kernel
theorem dL_captureChance_18 : decode cL_captureChance 18 = .ok (.iconst 0, 1) := by decide +kernel
theorem dL_captureChance_19 : decode cL_captureChance 19 = .ok (.ireturn, 1) := by decide +kernel
set_option maxRecDepth 20000 in
theorem ggL_law_X1_init : GoodIn wsL_law wsX1_init := goodIn_r _ [9, 10, 11, 12, 13, 14, 15, 16, 17, 18, 19, 20, 21, 22, 23, 24, 25, 26, 27, 28, 480, 481, 466, 467, 468, 469, 470, 471] (by decide +kernel) (by decide +kernel)
set_option maxRecDepth 20000 in
theorem gL_law_X1_init : GoodIn wsL_law (wsX1_init) := ggL_law_X1_init
set_option maxRecDepth 20000 in
theorem ggL_law_X2_init : GoodIn wsL_law wsX2_init := goodIn_r _ [31, 32, 11, 12, 17, 33, 34, 35, 472, 473, 474, 475, 476, 477, 478, 479] (by decide +kernel) (by decide +kernel)
set_option maxRecDepth 20000 in
theorem gL_law_X2_init : GoodIn wsL_law (wsX2_init) := ggL_law_X2_init
set_option maxRecDepth 20000 in
theorem ggL_law_L_throwShells : GoodIn wsL_law wsL_throwShells := goodIn_ca (goodIn_ca (goodIn_r _ [39, 40, 41, 42, 43, 44, 2, 45, 46, 47, 20, 16, 19, 22, 21, 48, 49, 50, 51, 52, 53, 54, 55, 56, 57, 58, 59, 60, 61, 62, 63, 64, 65, 66, 67, 68, 69, 15, 70, 71, 72, 73, 74, 75, 76, 77, 78, 27, 79, 80, 81, 82, 83, 84, 85, 86, 87, 88, 89, 90, 91, 92, 93, 94, 95, 96, 97, 98, 99, 100, 101, 102, 103, 104, 105, 106, 28, 107, 108, 109, 110, 111, 112, 466, 467, 468, 469, 470, 471, 480, 481] (by decide +kernel) (by decide +kernel)) (goodIn_sub (fun _ h => List.mem_append_left _ (List.mem_append_left _ (List.mem_append_right _ h))) (by decide +kernel))) (goodIn_sub (fun _ h => List.mem_append_left _ (List.mem_append_right _ h)) (by decide +kernel))
set_option maxRecDepth 20000 in
theorem gL_law_L_throwShells : GoodIn wsL_law (va_wsS RL 63 yL_throwShells wsL_throwShells) := goodIn_app (goodIn_of _ (by decide +kernel)) ggL_law_L_throwShells
set_option maxRecDepth 20000 in
theorem ggL_law_X2_throwShells : GoodIn wsL_law wsX2_throwShells := goodIn_r _ [116, 117, 118, 119, 120, 121, 122, 123, 5, 124, 125, 126, 127, 128, 129, 130, 131, 132, 133, 134, 135, 136, 137, 138, 139, 140, 141, 142, 33, 143, 144, 145, 146, 147, 148, 149, 150, 151, 152, 153, 154, 155, 156, 157, 158, 159, 160, 161, 162, 163, 164, 472, 473, 474, 475, 476, 477, 478, 479] (by decide +kernel) (by decide +kernel)
set_option maxRecDepth 20000 in
theorem gL_law_X2_throwShells : GoodIn wsL_law (wsV RL 68 RX2 yX2_throwShells wsX2_throwShells) := goodIn_app (goodIn_of _ (by decide +kernel)) ggL_law_X2_throwShells
set_option maxRecDepth 20000 in
theorem ggL_law_X2_thrown : GoodIn wsL_law wsX2_thrown := goodIn_r _ [168, 118, 472, 473, 474, 475, 476, 477, 478, 479] (by decide +kernel) (by decide +kernel)
set_option maxRecDepth 20000 in
theorem gL_law_X2_thrown : GoodIn wsL_law (wsV RL 69 RX2 yX2_thrown wsX2_thrown) := goodIn_app (goodIn_of _ (by decide +kernel)) ggL_law_X2_thrown
set_option maxRecDepth 20000 in
theorem ggL_law_L_move : GoodIn wsL_law wsL_move := goodIn_ca (goodIn_ca (goodIn_r _ [171, 172, 41, 173, 174, 175, 2, 176, 52, 53, 16, 19, 22, 177, 178, 179, 180, 181, 182, 183, 184, 185, 21, 67, 68, 69, 15, 70, 71, 72, 73, 74, 75, 76, 77, 78, 27, 79, 80, 186, 86, 87, 88, 61, 62, 55, 56, 89, 90, 91, 92, 93, 94, 95, 96, 97, 98, 99, 100, 101, 102, 103, 104, 105, 106, 28, 107, 108, 109, 110, 111, 112, 187, 188, 189, 190, 191, 192, 193, 194, 195, 196, 197, 198, 199, 200, 201, 202, 203, 204, 205, 206, 207, 18, 208, 209, 210, 211, 212, 213, 214, 215, 216, 60, 63, 64, 65, 66, 20, 466, 467, 468, 469, 470, 471, 480, 481] (by decide +kernel) (by decide +kernel)) (goodIn_sub (fun _ h => List.mem_append_left _ (List.mem_append_right _ h)) (by decide +kernel))) (goodIn_sub (fun _ h => List.mem_append_right _ h) (by decide +kernel))
set_option maxRecDepth 20000 in
theorem gL_law_L_move : GoodIn wsL_law (va_wsS RL 72 yL_move wsL_move) := goodIn_app (goodIn_of _ (by decide +kernel)) ggL_law_L_move
set_option maxRecDepth 20000 in
theorem ggL_law_X2_move : GoodIn wsL_law wsX2_move := goodIn_r _ [220, 117, 118, 120, 121, 34, 33, 122, 123, 5, 124, 135, 136, 137, 138, 139, 140, 141, 142, 147, 148, 149, 150, 151, 152, 153, 154, 125, 126, 127, 132, 133, 134, 155, 156, 157, 158, 159, 160, 161, 162, 163, 164, 221, 222, 223, 224, 225, 226, 227, 228, 128, 129, 130, 131, 119, 472, 473, 474, 475, 476, 477, 478, 479] (by decide +kernel) (by decide +kernel)
set_option maxRecDepth 20000 in
theorem gL_law_X2_move : GoodIn wsL_law (wsV RL 74 RX2 yX2_move wsX2_move) := goodIn_app (goodIn_of _ (by decide +kernel)) ggL_law_X2_move
set_option maxRecDepth 20000 in
theorem ggL_law_X1_phase : GoodIn wsL_law wsX1_phase := goodIn_r _ [232, 21, 466, 467, 468, 469, 470, 471] (by decide +kernel) (by decide +kernel)
set_option maxRecDepth 20000 in
theorem gL_law_X1_phase : GoodIn wsL_law (wsV RL 75 RX1 yX1_phase wsX1_phase) := goodIn_app (goodIn_of _ (by decide +kernel)) ggL_law_X1_phase
set_option maxRecDepth 20000 in
theorem ggL_law_X2_phase : GoodIn wsL_law wsX2_phase := goodIn_r _ [236, 118, 117, 472, 473, 474, 475, 476, 477, 478, 479] (by decide +kernel) (by decide +kernel)
set_option maxRecDepth 20000 in
theorem gL_law_X2_phase : GoodIn wsL_law (wsV RL 78 RX2 yX2_phase wsX2_phase) := goodIn_app (goodIn_of _ (by decide +kernel)) ggL_law_X2_phase
set_option maxRecDepth 20000 in
theorem ggL_law_X1_onTurn : GoodIn wsL_law wsX1_onTurn := goodIn_r _ [240, 19, 466, 467, 468, 469, 470, 471] (by decide +kernel) (by decide +kernel)
set_option maxRecDepth 20000 in
theorem gL_law_X1_onTurn : GoodIn wsL_law (wsV RL 79 RX1 yX1_onTurn wsX1_onTurn) := goodIn_app (goodIn_of _ (by decide +kernel)) ggL_law_X1_onTurn
set_option maxRecDepth 20000 in
theorem ggL_law_X2_onTurn : GoodIn wsL_law wsX2_onTurn := goodIn_r _ [244, 118, 120, 472, 473, 474, 475, 476, 477, 478, 479] (by decide +kernel) (by decide +kernel)
set_option maxRecDepth 20000 in
theorem gL_law_X2_onTurn : GoodIn wsL_law (wsV RL 82 RX2 yX2_onTurn wsX2_onTurn) := goodIn_app (goodIn_of _ (by decide +kernel)) ggL_law_X2_onTurn
set_option maxRecDepth 20000 in
theorem ggL_law_X1_mover : GoodIn wsL_law wsX1_mover := goodIn_r _ [248, 16, 19, 67, 68, 69, 15, 70, 71, 72, 73, 74, 75, 76, 77, 78, 27, 79, 2, 80, 466, 467, 468, 469, 470, 471, 480, 481] (by decide +kernel) (by decide +kernel)
set_option maxRecDepth 20000 in
theorem gL_law_X1_mover : GoodIn wsL_law (wsV RL 83 RX1 yX1_mover wsX1_mover) := goodIn_app (goodIn_of _ (by decide +kernel)) ggL_law_X1_mover
set_option maxRecDepth 20000 in
theorem ggL_law_X2_mover : GoodIn wsL_law wsX2_mover := goodIn_r _ [252, 118, 120, 135, 136, 137, 5, 138, 139, 140, 141, 142, 33, 472, 473, 474, 475, 476, 477, 478, 479] (by decide +kernel) (by decide +kernel)
set_option maxRecDepth 20000 in
theorem gL_law_X2_mover : GoodIn wsL_law (wsV RL 86 RX2 yX2_mover wsX2_mover) := goodIn_app (goodIn_of _ (by decide +kernel)) ggL_law_X2_mover
set_option maxRecDepth 20000 in
theorem ggL_law_L_movable : GoodIn wsL_law wsL_movable := goodIn_ca (goodIn_r _ [255, 41, 256, 257, 258, 2, 259, 16, 19, 22, 182, 183, 184, 185, 52, 53, 21, 67, 68, 69, 15, 70, 71, 72, 73, 74, 75, 76, 77, 78, 27, 79, 80, 81, 82, 83, 84, 85, 86, 87, 88, 61, 62, 55, 56, 89, 90, 91, 92, 93, 94, 95, 96, 97, 98, 99, 100, 101, 102, 103, 104, 105, 106, 28, 107, 108, 109, 110, 111, 112, 466, 467, 468, 469, 470, 471, 480, 481] (by decide +kernel) (by decide +kernel)) (goodIn_sub (fun _ h => List.mem_append_left _ (List.mem_append_right _ h)) (by decide +kernel))
set_option maxRecDepth 20000 in
theorem gL_law_L_movable : GoodIn wsL_law (va_wsS RL 87 yL_movable wsL_movable) := goodIn_app (goodIn_of _ (by decide +kernel)) ggL_law_L_movable
set_option maxRecDepth 20000 in
theorem ggL_law_X2_movable : GoodIn wsL_law wsX2_movable := goodIn_r _ [263, 117, 118, 120, 121, 135, 136, 137, 5, 138, 139, 140, 141, 142, 33, 143, 144, 145, 146, 147, 148, 149, 150, 151, 152, 153, 154, 125, 126, 127, 132, 133, 134, 155, 156, 157, 158, 159, 160, 161, 122, 123, 124, 162, 163, 164, 472, 473, 474, 475, 476, 477, 478, 479] (by decide +kernel) (by decide +kernel)
set_option maxRecDepth 20000 in
theorem gL_law_X2_movable : GoodIn wsL_law (wsV RL 90 RX2 yX2_movable wsX2_movable) := goodIn_app (goodIn_of _ (by decide +kernel)) ggL_law_X2_movable
set_option maxRecDepth 20000 in
theorem ggL_law_X1_graces : GoodIn wsL_law wsX1_graces := goodIn_r _ [267, 20, 466, 467, 468, 469, 470, 471] (by decide +kernel) (by decide +kernel)
set_option maxRecDepth 20000 in
theorem gL_law_X1_graces : GoodIn wsL_law (wsV RL 91 RX1 yX1_graces wsX1_graces) := goodIn_app (goodIn_of _ (by decide +kernel)) ggL_law_X1_graces
set_option maxRecDepth 20000 in
theorem ggL_law_X2_graces : GoodIn wsL_law wsX2_graces := goodIn_r _ [271, 118, 119, 472, 473, 474, 475, 476, 477, 478, 479] (by decide +kernel) (by decide +kernel)
set_option maxRecDepth 20000 in
theorem gL_law_X2_graces : GoodIn wsL_law (wsV RL 94 RX2 yX2_graces wsX2_graces) := goodIn_app (goodIn_of _ (by decide +kernel)) ggL_law_X2_graces
set_option maxRecDepth 20000 in
theorem ggL_law_L_position : GoodIn wsL_law wsL_position := goodIn_ca (goodIn_r _ [274, 172, 275, 276, 277, 2, 278, 16, 279, 280, 281, 180, 181, 177, 178, 179, 282, 76, 77, 15, 78, 27, 466, 467, 468, 469, 470, 471, 480, 481] (by decide +kernel) (by decide +kernel)) (goodIn_sub (fun _ h => List.mem_append_right _ h) (by decide +kernel))
set_option maxRecDepth 20000 in
theorem gL_law_L_position : GoodIn wsL_law (va_wsS RL 95 yL_position wsL_position) := goodIn_app (goodIn_of _ (by decide +kernel)) ggL_law_L_position
set_option maxRecDepth 20000 in
theorem ggL_law_X2_position : GoodIn wsL_law wsX2_position := goodIn_r _ [286, 118, 33, 122, 123, 5, 124, 472, 473, 474, 475, 476, 477, 478, 479] (by decide +kernel) (by decide +kernel)
set_option maxRecDepth 20000 in
theorem gL_law_X2_position : GoodIn wsL_law (wsV RL 98 RX2 yX2_position wsX2_position) := goodIn_app (goodIn_of _ (by decide +kernel)) ggL_law_X2_position
set_option maxRecDepth 20000 in
theorem ggL_law_L_square : GoodIn wsL_law wsL_square := goodIn_ca (goodIn_r _ [289, 172, 290, 291, 292, 2, 293, 16, 279, 280, 281, 180, 181, 177, 178, 179, 282, 76, 77, 15, 78, 27, 189, 98, 99, 100, 466, 467, 468, 469, 470, 471, 480, 481] (by decide +kernel) (by decide +kernel)) (goodIn_sub (fun _ h => List.mem_append_right _ h) (by decide +kernel))
set_option maxRecDepth 20000 in
theorem gL_law_L_square : GoodIn wsL_law (va_wsS RL 99 yL_square wsL_square) := goodIn_app (goodIn_of _ (by decide +kernel)) ggL_law_L_square
set_option maxRecDepth 20000 in
theorem ggL_law_X2_square : GoodIn wsL_law wsX2_square := goodIn_r _ [297, 118, 33, 122, 123, 5, 124, 155, 156, 157, 472, 473, 474, 475, 476, 477, 478, 479] (by decide +kernel) (by decide +kernel)
set_option maxRecDepth 20000 in
theorem gL_law_X2_square : GoodIn wsL_law (wsV RL 101 RX2 yX2_square wsX2_square) := goodIn_app (goodIn_of _ (by decide +kernel)) ggL_law_X2_square
set_option maxRecDepth 20000 in
theorem ggL_law_L_standing : GoodIn wsL_law wsL_standing := goodIn_ca (goodIn_ca (goodIn_r _ [300, 172, 40, 301, 302, 303, 2, 304, 16, 305, 306, 307, 180, 181, 308, 309, 310, 46, 47, 311, 104, 105, 15, 106, 28, 466, 467, 468, 469, 470, 471, 480, 481] (by decide +kernel) (by decide +kernel)) (goodIn_sub (fun _ h => List.mem_append_right _ h) (by decide +kernel))) (goodIn_sub (fun _ h => List.mem_append_left _ (List.mem_append_left _ (List.mem_append_right _ h))) (by decide +kernel))
set_option maxRecDepth 20000 in
theorem gL_law_L_standing : GoodIn wsL_law (va_wsS RL 102 yL_standing wsL_standing) := goodIn_app (goodIn_of _ (by decide +kernel)) ggL_law_L_standing
set_option maxRecDepth 20000 in
theorem ggL_law_X2_standing : GoodIn wsL_law wsX2_standing := goodIn_r _ [315, 118, 122, 123, 5, 124, 158, 159, 160, 161, 33, 155, 156, 157, 472, 473, 474, 475, 476, 477, 478, 479] (by decide +kernel) (by decide +kernel)
set_option maxRecDepth 20000 in
theorem gL_law_X2_standing : GoodIn wsL_law (wsV RL 104 RX2 yX2_standing wsX2_standing) := goodIn_app (goodIn_of _ (by decide +kernel)) ggL_law_X2_standing
set_option maxRecDepth 20000 in
theorem ggL_law_L_isSafe : GoodIn wsL_law wsL_isSafe := goodIn_ca (goodIn_r _ [318, 172, 319, 320, 321, 2, 322, 305, 306, 307, 180, 181, 323, 111, 112] (by decide +kernel) (by decide +kernel)) (goodIn_sub (fun _ h => List.mem_append_right _ h) (by decide +kernel))
set_option maxRecDepth 20000 in
theorem gL_law_L_isSafe : GoodIn wsL_law (va_wsS RL 105 yL_isSafe wsL_isSafe) := goodIn_app (goodIn_of _ (by decide +kernel)) ggL_law_L_isSafe
set_option maxRecDepth 20000 in
theorem ggL_law_X2_isSafe : GoodIn wsL_law wsX2_isSafe := goodIn_r _ [327, 118, 122, 123, 5, 124, 162, 163, 164, 472, 473, 474, 475, 476, 477, 478, 479] (by decide +kernel) (by decide +kernel)
set_option maxRecDepth 20000 in
theorem gL_law_X2_isSafe : GoodIn wsL_law (wsV RL 107 RX2 yX2_isSafe wsX2_isSafe) := goodIn_app (goodIn_of _ (by decide +kernel)) ggL_law_X2_isSafe
set_option maxRecDepth 20000 in
theorem ggL_law_L_home : GoodIn wsL_law wsL_home := goodIn_ca (goodIn_r _ [330, 172, 331, 332, 333, 2, 334, 16, 279, 280, 281, 180, 181, 335, 72, 73, 15, 74, 75, 76, 77, 78, 27, 466, 467, 468, 469, 470, 471, 480, 481] (by decide +kernel) (by decide +kernel)) (goodIn_sub (fun _ h => List.mem_append_right _ h) (by decide +kernel))
set_option maxRecDepth 20000 in
theorem gL_law_L_home : GoodIn wsL_law (va_wsS RL 108 yL_home wsL_home) := goodIn_app (goodIn_of _ (by decide +kernel)) ggL_law_L_home
set_option maxRecDepth 20000 in
theorem ggL_law_X2_home : GoodIn wsL_law wsX2_home := goodIn_r _ [339, 118, 122, 123, 5, 124, 139, 140, 141, 142, 33, 472, 473, 474, 475, 476, 477, 478, 479] (by decide +kernel) (by decide +kernel)
set_option maxRecDepth 20000 in
theorem gL_law_X2_home : GoodIn wsL_law (wsV RL 110 RX2 yX2_home wsX2_home) := goodIn_app (goodIn_of _ (by decide +kernel)) ggL_law_X2_home
set_option maxRecDepth 20000 in
theorem ggL_law_L_captures : GoodIn wsL_law wsL_captures := goodIn_ca (goodIn_r _ [342, 172, 343, 344, 345, 2, 346, 18, 279, 280, 281, 180, 181, 466, 467, 468, 469, 470, 471] (by decide +kernel) (by decide +kernel)) (goodIn_sub (fun _ h => List.mem_append_right _ h) (by decide +kernel))
set_option maxRecDepth 20000 in
theorem gL_law_L_captures : GoodIn wsL_law (va_wsS RL 111 yL_captures wsL_captures) := goodIn_app (goodIn_of _ (by decide +kernel)) ggL_law_L_captures
set_option maxRecDepth 20000 in
theorem ggL_law_X2_captures : GoodIn wsL_law wsX2_captures := goodIn_r _ [350, 118, 34, 122, 123, 5, 124, 472, 473, 474, 475, 476, 477, 478, 479] (by decide +kernel) (by decide +kernel)
set_option maxRecDepth 20000 in
theorem gL_law_X2_captures : GoodIn wsL_law (wsV RL 113 RX2 yX2_captures wsX2_captures) := goodIn_app (goodIn_of _ (by decide +kernel)) ggL_law_X2_captures
set_option maxRecDepth 20000 in
theorem ggL_law_X1_winner : GoodIn wsL_law wsX1_winner := goodIn_r _ [354, 21, 19, 355, 198, 2, 199, 466, 467, 468, 469, 470, 471] (by decide +kernel) (by decide +kernel)
set_option maxRecDepth 20000 in
theorem gL_law_X1_winner : GoodIn wsL_law (wsV RL 114 RX1 yX1_winner wsX1_winner) := goodIn_app (goodIn_of _ (by decide +kernel)) ggL_law_X1_winner
set_option maxRecDepth 20000 in
theorem ggL_law_X2_winner : GoodIn wsL_law wsX2_winner := goodIn_r _ [359, 118, 225, 226, 227, 5, 228, 139, 140, 141, 142, 33, 472, 473, 474, 475, 476, 477, 478, 479] (by decide +kernel) (by decide +kernel)
set_option maxRecDepth 20000 in
theorem gL_law_X2_winner : GoodIn wsL_law (wsV RL 117 RX2 yX2_winner wsX2_winner) := goodIn_app (goodIn_of _ (by decide +kernel)) ggL_law_X2_winner
set_option maxRecDepth 20000 in
theorem ggL_law_L_distance : GoodIn wsL_law wsL_distance := goodIn_ca (goodIn_r _ [362, 40, 363, 364, 365, 2, 366, 16, 308, 309, 310, 46, 47, 367, 368, 369, 15, 370, 75, 76, 77, 78, 27, 466, 467, 468, 469, 470, 471, 480, 481] (by decide +kernel) (by decide +kernel)) (goodIn_sub (fun _ h => List.mem_append_left _ (List.mem_append_left _ (List.mem_append_right _ h))) (by decide +kernel))
set_option maxRecDepth 20000 in
theorem gL_law_L_distance : GoodIn wsL_law (va_wsS RL 118 yL_distance wsL_distance) := goodIn_app (goodIn_of _ (by decide +kernel)) ggL_law_L_distance
set_option maxRecDepth 20000 in
theorem ggL_law_X2_distance : GoodIn wsL_law wsX2_distance := goodIn_r _ [374, 118, 33, 122, 123, 5, 124, 472, 473, 474, 475, 476, 477, 478, 479] (by decide +kernel) (by decide +kernel)
set_option maxRecDepth 20000 in
theorem gL_law_X2_distance : GoodIn wsL_law (wsV RL 120 RX2 yX2_distance wsX2_distance) := goodIn_app (goodIn_of _ (by decide +kernel)) ggL_law_X2_distance
set_option maxRecDepth 20000 in
theorem ggL_law_L_ways : GoodIn wsL_law wsL_ways := goodIn_ca (goodIn_ca (goodIn_r _ [377, 40, 41, 378, 379, 380, 2, 381, 46, 47, 16, 19, 20, 48, 49, 50, 51, 52, 53, 21, 67, 68, 69, 15, 70, 71, 72, 73, 74, 75, 76, 77, 78, 27, 79, 80, 57, 58, 59, 60, 61, 62, 382, 383, 384, 385, 85, 86, 87, 88, 55, 56, 89, 90, 91, 92, 93, 94, 95, 96, 97, 98, 99, 100, 101, 102, 103, 104, 105, 106, 28, 107, 108, 109, 110, 111, 112, 386, 387, 388, 389, 390, 391, 392, 393, 466, 467, 468, 469, 470, 471, 480, 481] (by decide +kernel) (by decide +kernel)) (goodIn_sub (fun _ h => List.mem_append_left _ (List.mem_append_left _ (List.mem_append_right _ h))) (by decide +kernel))) (goodIn_sub (fun _ h => List.mem_append_left _ (List.mem_append_right _ h)) (by decide +kernel))
set_option maxRecDepth 20000 in
theorem gL_law_L_ways : GoodIn wsL_law (va_wsS RL 121 yL_ways wsL_ways) := goodIn_app (goodIn_of _ (by decide +kernel)) ggL_law_L_ways
set_option maxRecDepth 20000 in
theorem ggL_law_X2_ways : GoodIn wsL_law wsX2_ways := goodIn_r _ [397, 117, 118, 119, 120, 35, 122, 123, 5, 124, 125, 126, 127, 135, 136, 137, 138, 139, 140, 141, 142, 33, 398, 399, 400, 401, 147, 148, 149, 150, 151, 152, 153, 154, 132, 133, 134, 155, 156, 157, 158, 159, 160, 161, 162, 163, 164, 472, 473, 474, 475, 476, 477, 478, 479] (by decide +kernel) (by decide +kernel)
set_option maxRecDepth 20000 in
theorem gL_law_X2_ways : GoodIn wsL_law (wsV RL 123 RX2 yX2_ways wsX2_ways) := goodIn_app (goodIn_of _ (by decide +kernel)) ggL_law_X2_ways
set_option maxRecDepth 20000 in
theorem ggL_law_L_threat : GoodIn wsL_law wsL_threat := goodIn_ca (goodIn_ca (goodIn_r _ [404, 172, 40, 405, 406, 407, 2, 408, 46, 47, 16, 279, 280, 281, 180, 181, 177, 178, 179, 355, 198, 199, 282, 76, 77, 15, 78, 27, 189, 98, 99, 100, 67, 68, 69, 70, 71, 72, 73, 74, 75, 79, 80, 409, 410, 411, 412, 85, 86, 87, 88, 61, 62, 55, 56, 89, 90, 91, 92, 93, 94, 95, 96, 97, 101, 102, 103, 104, 105, 106, 28, 107, 108, 109, 110, 111, 112, 390, 391, 392, 393, 466, 467, 468, 469, 470, 471, 480, 481] (by decide +kernel) (by decide +kernel)) (goodIn_sub (fun _ h => List.mem_append_left _ (List.mem_append_left _ (List.mem_append_right _ h))) (by decide +kernel))) (goodIn_sub (fun _ h => List.mem_append_right _ h) (by decide +kernel))
set_option maxRecDepth 20000 in
theorem gL_law_L_threat : GoodIn wsL_law (va_wsS RL 124 yL_threat wsL_threat) := goodIn_app (goodIn_of _ (by decide +kernel)) ggL_law_L_threat
set_option maxRecDepth 20000 in
theorem ggL_law_X2_threat : GoodIn wsL_law wsX2_threat := goodIn_r _ [416, 118, 33, 35, 122, 123, 5, 124, 155, 156, 157, 135, 136, 137, 138, 139, 140, 141, 142, 147, 148, 149, 150, 151, 152, 153, 154, 125, 126, 127, 132, 133, 134, 158, 159, 160, 161, 162, 163, 164, 472, 473, 474, 475, 476, 477, 478, 479] (by decide +kernel) (by decide +kernel)
set_option maxRecDepth 20000 in
theorem gL_law_X2_threat : GoodIn wsL_law (wsV RL 127 RX2 yX2_threat wsX2_threat) := goodIn_app (goodIn_of _ (by decide +kernel)) ggL_law_X2_threat
set_option maxRecDepth 20000 in
theorem ggL_law_L_captureChance : GoodIn wsL_law wsL_captureChance := goodIn_ca (goodIn_ca (goodIn_r _ [419, 40, 41, 420, 421, 422, 2, 423, 46, 47, 20, 48, 49, 50, 51, 52, 53, 21, 424, 425, 426, 427, 390, 391, 392, 393, 428, 429, 430, 431, 16, 19, 57, 58, 59, 60, 61, 62, 67, 68, 69, 15, 70, 71, 72, 73, 74, 75, 76, 77, 78, 27, 79, 80, 382, 383, 384, 385, 85, 86, 87, 88, 55, 56, 89, 90, 91, 92, 93, 94, 95, 96, 97, 98, 99, 100, 101, 102, 103, 104, 105, 106, 28, 107, 108, 109, 110, 111, 112, 386, 387, 388, 389, 432, 433, 434, 435, 436, 437, 438, 439, 440, 441, 81, 82, 83, 84, 186, 282, 208, 195, 196, 197, 198, 199, 200, 201, 202, 203, 466, 467, 468, 469, 470, 471, 480, 481] (by decide +kernel) (by decide +kernel)) (goodIn_sub (fun _ h => List.mem_append_left _ (List.mem_append_left _ (List.mem_append_right _ h))) (by decide +kernel))) (goodIn_sub (fun _ h => List.mem_append_left _ (List.mem_append_right _ h)) (by decide +kernel))
set_option maxRecDepth 20000 in
theorem gL_law_L_captureChance : GoodIn wsL_law (va_wsS RL 128 yL_captureChance wsL_captureChance) := goodIn_app (goodIn_of _ (by decide +kernel)) ggL_law_L_captureChance
set_option maxRecDepth 20000 in
theorem ggL_law_X2_captureChance : GoodIn wsL_law wsX2_captureChance := goodIn_r _ [445, 117, 118, 119, 122, 123, 5, 124, 446, 447, 448, 449, 120, 35, 125, 126, 127, 135, 136, 137, 138, 139, 140, 141, 142, 33, 398, 399, 400, 401, 147, 148, 149, 150, 151, 152, 153, 154, 132, 133, 134, 155, 156, 157, 158, 159, 160, 161, 162, 163, 164, 450, 451, 452, 453, 454, 455, 456, 457, 143, 144, 145, 146, 225, 226, 227, 228, 458, 459, 460, 461, 462, 463, 464, 465, 472, 473, 474, 475, 476, 477, 478, 479] (by decide +kernel) (by decide +kernel)
set_option maxRecDepth 20000 in
theorem gL_law_X2_captureChance : GoodIn wsL_law (wsV RL 130 RX2 yX2_captureChance wsX2_captureChance) := goodIn_app (goodIn_of _ (by decide +kernel)) ggL_law_X2_captureChance
theorem dL_law_0 : decode cL_law 0 = .ok (.new 8, 3) := by decide +kernel
theorem dL_law_3 : decode cL_law 3 = .ok (.dup, 1) := by decide +kernel
theorem dL_law_4 : decode cL_law 4 = .ok (.invokespecial 59, 3) := by decide +kernel
theorem dL_law_7 : decode cL_law 7 = .ok (.astore_n 1, 1) := by decide +kernel
theorem dL_law_8 : decode cL_law 8 = .ok (.new 60, 3) := by decide +kernel
theorem dL_law_11 : decode cL_law 11 = .ok (.dup, 1) := by decide +kernel
theorem dL_law_12 : decode cL_law 12 = .ok (.invokespecial 62, 3) := by decide +kernel
theorem dL_law_15 : decode cL_law 15 = .ok (.astore_n 2, 1) := by decide +kernel
theorem dL_law_16 : decode cL_law 16 = .ok (.iconst 1, 1) := by decide +kernel
theorem dL_law_17 : decode cL_law 17 = .ok (.newarray .long, 2) := by decide +kernel
theorem dL_law_19 : decode cL_law 19 = .ok (.astore_n 3, 1) := by decide +kernel
theorem dL_law_20 : decode cL_law 20 = .ok (.iconst 0, 1) := by decide +kernel
theorem dL_law_21 : decode cL_law 21 = .ok (.istore 4, 2) := by decide +kernel
theorem dL_law_23 : decode cL_law 23 = .ok (.iload 4, 2) := by decide +kernel
theorem dL_law_25 : decode cL_law 25 = .ok (.aload_n 0, 1) := by decide +kernel
theorem dL_law_26 : decode cL_law 26 = .ok (.arraylength, 1) := by decide +kernel
theorem dL_law_27 : decode cL_law 27 = .ok (.iconst 4, 1) := by decide +kernel
theorem dL_law_28 : decode cL_law 28 = .ok (.isub, 1) := by decide +kernel
theorem dL_law_29 : decode cL_law 29 = .ok (.if_icmp .gt 949, 3) := by decide +kernel
theorem dL_law_32 : decode cL_law 32 = .ok (.aload_n 0, 1) := by decide +kernel
theorem dL_law_33 : decode cL_law 33 = .ok (.iload 4, 2) := by decide +kernel
theorem dL_law_35 : decode cL_law 35 = .ok (.iaload, 1) := by decide +kernel
theorem dL_law_36 : decode cL_law 36 = .ok (.bipush 31, 2) := by decide +kernel
theorem dL_law_38 : decode cL_law 38 = .ok (.iand, 1) := by decide +kernel
theorem dL_law_39 : decode cL_law 39 = .ok (.tableswitch 933 0 17 #[85, 141, 197, 210, 223, 236, 280, 293, 361, 429, 497, 560, 616, 672, 685, 741, 797, 877], 85) := by decide +kernel
theorem dL_law_124 : decode cL_law 124 = .ok (.aload_n 1, 1) := by decide +kernel
theorem dL_law_125 : decode cL_law 125 = .ok (.aload_n 0, 1) := by decide +kernel
theorem dL_law_126 : decode cL_law 126 = .ok (.iload 4, 2) := by decide +kernel
theorem dL_law_128 : decode cL_law 128 = .ok (.iconst 1, 1) := by decide +kernel
theorem dL_law_129 : decode cL_law 129 = .ok (.iadd, 1) := by decide +kernel
theorem dL_law_130 : decode cL_law 130 = .ok (.iaload, 1) := by decide +kernel
theorem dL_law_131 : decode cL_law 131 = .ok (.aload_n 3, 1) := by decide +kernel
theorem dL_law_132 : decode cL_law 132 = .ok (.invokestatic 63, 3) := by decide +kernel
theorem dL_law_135 : decode cL_law 135 = .ok (.istore 5, 2) := by decide +kernel
theorem dL_law_137 : decode cL_law 137 = .ok (.aload_n 2, 1) := by decide +kernel
theorem dL_law_138 : decode cL_law 138 = .ok (.aload_n 0, 1) := by decide +kernel
theorem dL_law_139 : decode cL_law 139 = .ok (.iload 4, 2) := by decide +kernel
theorem dL_law_141 : decode cL_law 141 = .ok (.iconst 1, 1) := by decide +kernel
theorem dL_law_142 : decode cL_law 142 = .ok (.iadd, 1) := by decide +kernel
theorem dL_law_143 : decode cL_law 143 = .ok (.iaload, 1) := by decide +kernel
theorem dL_law_144 : decode cL_law 144 = .ok (.invokevirtual 68, 3) := by decide +kernel
theorem dL_law_147 : decode cL_law 147 = .ok (.istore 6, 2) := by decide +kernel
theorem dL_law_149 : decode cL_law 149 = .ok (.aload_n 2, 1) := by decide +kernel
theorem dL_law_150 : decode cL_law 150 = .ok (.invokevirtual 69, 3) := by decide +kernel
theorem dL_law_153 : decode cL_law 153 = .ok (.iload 5, 2) := by decide +kernel
theorem dL_law_155 : decode cL_law 155 = .ok (.if_icmp .eq 5, 3) := by decide +kernel
theorem dL_law_158 : decode cL_law 158 = .ok (.iconst 0, 1) := by decide +kernel
theorem dL_law_159 : decode cL_law 159 = .ok (.ireturn, 1) := by decide +kernel
theorem dL_law_160 : decode cL_law 160 = .ok (.iload 5, 2) := by decide +kernel
theorem dL_law_162 : decode cL_law 162 = .ok (.ifCond .ne 15, 3) := by decide +kernel
theorem dL_law_165 : decode cL_law 165 = .ok (.aload_n 3, 1) := by decide +kernel
theorem dL_law_166 : decode cL_law 166 = .ok (.iconst 0, 1) := by decide +kernel
theorem dL_law_167 : decode cL_law 167 = .ok (.laload, 1) := by decide +kernel
theorem dL_law_168 : decode cL_law 168 = .ok (.iload 6, 2) := by decide +kernel
theorem dL_law_170 : decode cL_law 170 = .ok (.i2l, 1) := by decide +kernel
theorem dL_law_171 : decode cL_law 171 = .ok (.lcmp, 1) := by decide +kernel
theorem dL_law_172 : decode cL_law 172 = .ok (.ifCond .eq 5, 3) := by decide +kernel
theorem dL_law_175 : decode cL_law 175 = .ok (.iconst 0, 1) := by decide +kernel
theorem dL_law_176 : decode cL_law 176 = .ok (.ireturn, 1) := by decide +kernel
theorem dL_law_177 : decode cL_law 177 = .ok (.goto 795, 3) := by decide +kernel
theorem dL_law_180 : decode cL_law 180 = .ok (.aload_n 1, 1) := by decide +kernel
theorem dL_law_181 : decode cL_law 181 = .ok (.aload_n 0, 1) := by decide +kernel
theorem dL_law_182 : decode cL_law 182 = .ok (.iload 4, 2) := by decide +kernel
theorem dL_law_184 : decode cL_law 184 = .ok (.iconst 1, 1) := by decide +kernel
theorem dL_law_185 : decode cL_law 185 = .ok (.iadd, 1) := by decide +kernel
theorem dL_law_186 : decode cL_law 186 = .ok (.iaload, 1) := by decide +kernel
theorem dL_law_187 : decode cL_law 187 = .ok (.aload_n 3, 1) := by decide +kernel
theorem dL_law_188 : decode cL_law 188 = .ok (.invokestatic 72, 3) := by decide +kernel
theorem dL_law_191 : decode cL_law 191 = .ok (.istore 5, 2) := by decide +kernel
theorem dL_law_193 : decode cL_law 193 = .ok (.aload_n 2, 1) := by decide +kernel
theorem dL_law_194 : decode cL_law 194 = .ok (.aload_n 0, 1) := by decide +kernel
theorem dL_law_195 : decode cL_law 195 = .ok (.iload 4, 2) := by decide +kernel
theorem dL_law_197 : decode cL_law 197 = .ok (.iconst 1, 1) := by decide +kernel
theorem dL_law_198 : decode cL_law 198 = .ok (.iadd, 1) := by decide +kernel
theorem dL_law_199 : decode cL_law 199 = .ok (.iaload, 1) := by decide +kernel
theorem dL_law_200 : decode cL_law 200 = .ok (.invokevirtual 74, 3) := by decide +kernel
theorem dL_law_203 : decode cL_law 203 = .ok (.istore 6, 2) := by decide +kernel
theorem dL_law_205 : decode cL_law 205 = .ok (.aload_n 2, 1) := by decide +kernel
theorem dL_law_206 : decode cL_law 206 = .ok (.invokevirtual 69, 3) := by decide +kernel
theorem dL_law_209 : decode cL_law 209 = .ok (.iload 5, 2) := by decide +kernel
theorem dL_law_211 : decode cL_law 211 = .ok (.if_icmp .eq 5, 3) := by decide +kernel
theorem dL_law_214 : decode cL_law 214 = .ok (.iconst 0, 1) := by decide +kernel
theorem dL_law_215 : decode cL_law 215 = .ok (.ireturn, 1) := by decide +kernel
theorem dL_law_216 : decode cL_law 216 = .ok (.iload 5, 2) := by decide +kernel
theorem dL_law_218 : decode cL_law 218 = .ok (.ifCond .ne 15, 3) := by decide +kernel
theorem dL_law_221 : decode cL_law 221 = .ok (.aload_n 3, 1) := by decide +kernel
theorem dL_law_222 : decode cL_law 222 = .ok (.iconst 0, 1) := by decide +kernel
theorem dL_law_223 : decode cL_law 223 = .ok (.laload, 1) := by decide +kernel
theorem dL_law_224 : decode cL_law 224 = .ok (.iload 6, 2) := by decide +kernel
theorem dL_law_226 : decode cL_law 226 = .ok (.i2l, 1) := by decide +kernel
theorem dL_law_227 : decode cL_law 227 = .ok (.lcmp, 1) := by decide +kernel
theorem dL_law_228 : decode cL_law 228 = .ok (.ifCond .eq 5, 3) := by decide +kernel
theorem dL_law_231 : decode cL_law 231 = .ok (.iconst 0, 1) := by decide +kernel
theorem dL_law_232 : decode cL_law 232 = .ok (.ireturn, 1) := by decide +kernel
theorem dL_law_233 : decode cL_law 233 = .ok (.goto 739, 3) := by decide +kernel
theorem dL_law_236 : decode cL_law 236 = .ok (.aload_n 1, 1) := by decide +kernel
theorem dL_law_237 : decode cL_law 237 = .ok (.invokevirtual 75, 3) := by decide +kernel
theorem dL_law_240 : decode cL_law 240 = .ok (.aload_n 2, 1) := by decide +kernel
theorem dL_law_241 : decode cL_law 241 = .ok (.invokevirtual 78, 3) := by decide +kernel
theorem dL_law_244 : decode cL_law 244 = .ok (.if_icmp .eq 728, 3) := by decide +kernel
theorem dL_law_247 : decode cL_law 247 = .ok (.iconst 0, 1) := by decide +kernel
theorem dL_law_248 : decode cL_law 248 = .ok (.ireturn, 1) := by decide +kernel
theorem dL_law_249 : decode cL_law 249 = .ok (.aload_n 1, 1) := by decide +kernel
theorem dL_law_250 : decode cL_law 250 = .ok (.invokevirtual 79, 3) := by decide +kernel
theorem dL_law_253 : decode cL_law 253 = .ok (.aload_n 2, 1) := by decide +kernel
theorem dL_law_254 : decode cL_law 254 = .ok (.invokevirtual 82, 3) := by decide +kernel
theorem dL_law_257 : decode cL_law 257 = .ok (.if_icmp .eq 715, 3) := by decide +kernel
theorem dL_law_260 : decode cL_law 260 = .ok (.iconst 0, 1) := by decide +kernel
theorem dL_law_261 : decode cL_law 261 = .ok (.ireturn, 1) := by decide +kernel
theorem dL_law_262 : decode cL_law 262 = .ok (.aload_n 1, 1) := by decide +kernel
theorem dL_law_263 : decode cL_law 263 = .ok (.invokevirtual 83, 3) := by decide +kernel
theorem dL_law_266 : decode cL_law 266 = .ok (.aload_n 2, 1) := by decide +kernel
theorem dL_law_267 : decode cL_law 267 = .ok (.invokevirtual 86, 3) := by decide +kernel
theorem dL_law_270 : decode cL_law 270 = .ok (.if_icmp .eq 702, 3) := by decide +kernel
theorem dL_law_273 : decode cL_law 273 = .ok (.iconst 0, 1) := by decide +kernel
theorem dL_law_274 : decode cL_law 274 = .ok (.ireturn, 1) := by decide +kernel
theorem dL_law_275 : decode cL_law 275 = .ok (.aload_n 1, 1) := by decide +kernel
theorem dL_law_276 : decode cL_law 276 = .ok (.aload_n 3, 1) := by decide +kernel
theorem dL_law_277 : decode cL_law 277 = .ok (.invokestatic 87, 3) := by decide +kernel
theorem dL_law_280 : decode cL_law 280 = .ok (.istore 5, 2) := by decide +kernel
theorem dL_law_282 : decode cL_law 282 = .ok (.aload_n 2, 1) := by decide +kernel
theorem dL_law_283 : decode cL_law 283 = .ok (.invokevirtual 90, 3) := by decide +kernel
theorem dL_law_286 : decode cL_law 286 = .ok (.istore 6, 2) := by decide +kernel
theorem dL_law_288 : decode cL_law 288 = .ok (.aload_n 2, 1) := by decide +kernel
theorem dL_law_289 : decode cL_law 289 = .ok (.invokevirtual 69, 3) := by decide +kernel
theorem dL_law_292 : decode cL_law 292 = .ok (.iload 5, 2) := by decide +kernel
theorem dL_law_294 : decode cL_law 294 = .ok (.if_icmp .eq 5, 3) := by decide +kernel
theorem dL_law_297 : decode cL_law 297 = .ok (.iconst 0, 1) := by decide +kernel
theorem dL_law_298 : decode cL_law 298 = .ok (.ireturn, 1) := by decide +kernel
theorem dL_law_299 : decode cL_law 299 = .ok (.iload 5, 2) := by decide +kernel
theorem dL_law_301 : decode cL_law 301 = .ok (.ifCond .ne 15, 3) := by decide +kernel
theorem dL_law_304 : decode cL_law 304 = .ok (.aload_n 3, 1) := by decide +kernel
theorem dL_law_305 : decode cL_law 305 = .ok (.iconst 0, 1) := by decide +kernel
theorem dL_law_306 : decode cL_law 306 = .ok (.laload, 1) := by decide +kernel
theorem dL_law_307 : decode cL_law 307 = .ok (.iload 6, 2) := by decide +kernel
theorem dL_law_309 : decode cL_law 309 = .ok (.i2l, 1) := by decide +kernel
theorem dL_law_310 : decode cL_law 310 = .ok (.lcmp, 1) := by decide +kernel
theorem dL_law_311 : decode cL_law 311 = .ok (.ifCond .eq 5, 3) := by decide +kernel
theorem dL_law_314 : decode cL_law 314 = .ok (.iconst 0, 1) := by decide +kernel
theorem dL_law_315 : decode cL_law 315 = .ok (.ireturn, 1) := by decide +kernel
theorem dL_law_316 : decode cL_law 316 = .ok (.goto 656, 3) := by decide +kernel
theorem dL_law_319 : decode cL_law 319 = .ok (.aload_n 1, 1) := by decide +kernel
theorem dL_law_320 : decode cL_law 320 = .ok (.invokevirtual 91, 3) := by decide +kernel
theorem dL_law_323 : decode cL_law 323 = .ok (.aload_n 2, 1) := by decide +kernel
theorem dL_law_324 : decode cL_law 324 = .ok (.invokevirtual 94, 3) := by decide +kernel
theorem dL_law_327 : decode cL_law 327 = .ok (.if_icmp .eq 645, 3) := by decide +kernel
theorem dL_law_330 : decode cL_law 330 = .ok (.iconst 0, 1) := by decide +kernel
theorem dL_law_331 : decode cL_law 331 = .ok (.ireturn, 1) := by decide +kernel
theorem dL_law_332 : decode cL_law 332 = .ok (.aload_n 1, 1) := by decide +kernel
theorem dL_law_333 : decode cL_law 333 = .ok (.aload_n 0, 1) := by decide +kernel
theorem dL_law_334 : decode cL_law 334 = .ok (.iload 4, 2) := by decide +kernel
theorem dL_law_336 : decode cL_law 336 = .ok (.iconst 1, 1) := by decide +kernel
theorem dL_law_337 : decode cL_law 337 = .ok (.iadd, 1) := by decide +kernel
theorem dL_law_338 : decode cL_law 338 = .ok (.iaload, 1) := by decide +kernel
theorem dL_law_339 : decode cL_law 339 = .ok (.aload_n 0, 1) := by decide +kernel
theorem dL_law_340 : decode cL_law 340 = .ok (.iload 4, 2) := by decide +kernel
theorem dL_law_342 : decode cL_law 342 = .ok (.iconst 2, 1) := by decide +kernel
theorem dL_law_343 : decode cL_law 343 = .ok (.iadd, 1) := by decide +kernel
theorem dL_law_344 : decode cL_law 344 = .ok (.iaload, 1) := by decide +kernel
theorem dL_law_345 : decode cL_law 345 = .ok (.aload_n 3, 1) := by decide +kernel
theorem dL_law_346 : decode cL_law 346 = .ok (.invokestatic 95, 3) := by decide +kernel
theorem dL_law_349 : decode cL_law 349 = .ok (.istore 5, 2) := by decide +kernel
theorem dL_law_351 : decode cL_law 351 = .ok (.aload_n 2, 1) := by decide +kernel
theorem dL_law_352 : decode cL_law 352 = .ok (.aload_n 0, 1) := by decide +kernel
theorem dL_law_353 : decode cL_law 353 = .ok (.iload 4, 2) := by decide +kernel
theorem dL_law_355 : decode cL_law 355 = .ok (.iconst 1, 1) := by decide +kernel
theorem dL_law_356 : decode cL_law 356 = .ok (.iadd, 1) := by decide +kernel
theorem dL_law_357 : decode cL_law 357 = .ok (.iaload, 1) := by decide +kernel
theorem dL_law_358 : decode cL_law 358 = .ok (.aload_n 0, 1) := by decide +kernel
theorem dL_law_359 : decode cL_law 359 = .ok (.iload 4, 2) := by decide +kernel
theorem dL_law_361 : decode cL_law 361 = .ok (.iconst 2, 1) := by decide +kernel
theorem dL_law_362 : decode cL_law 362 = .ok (.iadd, 1) := by decide +kernel
theorem dL_law_363 : decode cL_law 363 = .ok (.iaload, 1) := by decide +kernel
theorem dL_law_364 : decode cL_law 364 = .ok (.invokevirtual 98, 3) := by decide +kernel
theorem dL_law_367 : decode cL_law 367 = .ok (.istore 6, 2) := by decide +kernel
theorem dL_law_369 : decode cL_law 369 = .ok (.aload_n 2, 1) := by decide +kernel
theorem dL_law_370 : decode cL_law 370 = .ok (.invokevirtual 69, 3) := by decide +kernel
theorem dL_law_373 : decode cL_law 373 = .ok (.iload 5, 2) := by decide +kernel
theorem dL_law_375 : decode cL_law 375 = .ok (.if_icmp .eq 5, 3) := by decide +kernel
theorem dL_law_378 : decode cL_law 378 = .ok (.iconst 0, 1) := by decide +kernel
theorem dL_law_379 : decode cL_law 379 = .ok (.ireturn, 1) := by decide +kernel
theorem dL_law_380 : decode cL_law 380 = .ok (.iload 5, 2) := by decide +kernel
theorem dL_law_382 : decode cL_law 382 = .ok (.ifCond .ne 15, 3) := by decide +kernel
theorem dL_law_385 : decode cL_law 385 = .ok (.aload_n 3, 1) := by decide +kernel
theorem dL_law_386 : decode cL_law 386 = .ok (.iconst 0, 1) := by decide +kernel
theorem dL_law_387 : decode cL_law 387 = .ok (.laload, 1) := by decide +kernel
theorem dL_law_388 : decode cL_law 388 = .ok (.iload 6, 2) := by decide +kernel
theorem dL_law_390 : decode cL_law 390 = .ok (.i2l, 1) := by decide +kernel
theorem dL_law_391 : decode cL_law 391 = .ok (.lcmp, 1) := by decide +kernel
theorem dL_law_392 : decode cL_law 392 = .ok (.ifCond .eq 5, 3) := by decide +kernel
theorem dL_law_395 : decode cL_law 395 = .ok (.iconst 0, 1) := by decide +kernel
theorem dL_law_396 : decode cL_law 396 = .ok (.ireturn, 1) := by decide +kernel
theorem dL_law_397 : decode cL_law 397 = .ok (.goto 575, 3) := by decide +kernel
theorem dL_law_400 : decode cL_law 400 = .ok (.aload_n 1, 1) := by decide +kernel
theorem dL_law_401 : decode cL_law 401 = .ok (.aload_n 0, 1) := by decide +kernel
theorem dL_law_402 : decode cL_law 402 = .ok (.iload 4, 2) := by decide +kernel
theorem dL_law_404 : decode cL_law 404 = .ok (.iconst 1, 1) := by decide +kernel
theorem dL_law_405 : decode cL_law 405 = .ok (.iadd, 1) := by decide +kernel
theorem dL_law_406 : decode cL_law 406 = .ok (.iaload, 1) := by decide +kernel
theorem dL_law_407 : decode cL_law 407 = .ok (.aload_n 0, 1) := by decide +kernel
theorem dL_law_408 : decode cL_law 408 = .ok (.iload 4, 2) := by decide +kernel
theorem dL_law_410 : decode cL_law 410 = .ok (.iconst 2, 1) := by decide +kernel
theorem dL_law_411 : decode cL_law 411 = .ok (.iadd, 1) := by decide +kernel
theorem dL_law_412 : decode cL_law 412 = .ok (.iaload, 1) := by decide +kernel
theorem dL_law_413 : decode cL_law 413 = .ok (.aload_n 3, 1) := by decide +kernel
theorem dL_law_414 : decode cL_law 414 = .ok (.invokestatic 99, 3) := by decide +kernel
theorem dL_law_417 : decode cL_law 417 = .ok (.istore 5, 2) := by decide +kernel
theorem dL_law_419 : decode cL_law 419 = .ok (.aload_n 2, 1) := by decide +kernel
theorem dL_law_420 : decode cL_law 420 = .ok (.aload_n 0, 1) := by decide +kernel
theorem dL_law_421 : decode cL_law 421 = .ok (.iload 4, 2) := by decide +kernel
theorem dL_law_423 : decode cL_law 423 = .ok (.iconst 1, 1) := by decide +kernel
theorem dL_law_424 : decode cL_law 424 = .ok (.iadd, 1) := by decide +kernel
theorem dL_law_425 : decode cL_law 425 = .ok (.iaload, 1) := by decide +kernel
theorem dL_law_426 : decode cL_law 426 = .ok (.aload_n 0, 1) := by decide +kernel
theorem dL_law_427 : decode cL_law 427 = .ok (.iload 4, 2) := by decide +kernel
theorem dL_law_429 : decode cL_law 429 = .ok (.iconst 2, 1) := by decide +kernel
theorem dL_law_430 : decode cL_law 430 = .ok (.iadd, 1) := by decide +kernel
theorem dL_law_431 : decode cL_law 431 = .ok (.iaload, 1) := by decide +kernel
theorem dL_law_432 : decode cL_law 432 = .ok (.invokevirtual 101, 3) := by decide +kernel
theorem dL_law_435 : decode cL_law 435 = .ok (.istore 6, 2) := by decide +kernel
theorem dL_law_437 : decode cL_law 437 = .ok (.aload_n 2, 1) := by decide +kernel
theorem dL_law_438 : decode cL_law 438 = .ok (.invokevirtual 69, 3) := by decide +kernel
theorem dL_law_441 : decode cL_law 441 = .ok (.iload 5, 2) := by decide +kernel
theorem dL_law_443 : decode cL_law 443 = .ok (.if_icmp .eq 5, 3) := by decide +kernel
theorem dL_law_446 : decode cL_law 446 = .ok (.iconst 0, 1) := by decide +kernel
theorem dL_law_447 : decode cL_law 447 = .ok (.ireturn, 1) := by decide +kernel
theorem dL_law_448 : decode cL_law 448 = .ok (.iload 5, 2) := by decide +kernel
theorem dL_law_450 : decode cL_law 450 = .ok (.ifCond .ne 15, 3) := by decide +kernel
theorem dL_law_453 : decode cL_law 453 = .ok (.aload_n 3, 1) := by decide +kernel
theorem dL_law_454 : decode cL_law 454 = .ok (.iconst 0, 1) := by decide +kernel
theorem dL_law_455 : decode cL_law 455 = .ok (.laload, 1) := by decide +kernel
theorem dL_law_456 : decode cL_law 456 = .ok (.iload 6, 2) := by decide +kernel
theorem dL_law_458 : decode cL_law 458 = .ok (.i2l, 1) := by decide +kernel
theorem dL_law_459 : decode cL_law 459 = .ok (.lcmp, 1) := by decide +kernel
theorem dL_law_460 : decode cL_law 460 = .ok (.ifCond .eq 5, 3) := by decide +kernel
theorem dL_law_463 : decode cL_law 463 = .ok (.iconst 0, 1) := by decide +kernel
theorem dL_law_464 : decode cL_law 464 = .ok (.ireturn, 1) := by decide +kernel
theorem dL_law_465 : decode cL_law 465 = .ok (.goto 507, 3) := by decide +kernel
theorem dL_law_468 : decode cL_law 468 = .ok (.aload_n 1, 1) := by decide +kernel
theorem dL_law_469 : decode cL_law 469 = .ok (.aload_n 0, 1) := by decide +kernel
theorem dL_law_470 : decode cL_law 470 = .ok (.iload 4, 2) := by decide +kernel
theorem dL_law_472 : decode cL_law 472 = .ok (.iconst 1, 1) := by decide +kernel
theorem dL_law_473 : decode cL_law 473 = .ok (.iadd, 1) := by decide +kernel
theorem dL_law_474 : decode cL_law 474 = .ok (.iaload, 1) := by decide +kernel
theorem dL_law_475 : decode cL_law 475 = .ok (.aload_n 0, 1) := by decide +kernel
theorem dL_law_476 : decode cL_law 476 = .ok (.iload 4, 2) := by decide +kernel
theorem dL_law_478 : decode cL_law 478 = .ok (.iconst 2, 1) := by decide +kernel
theorem dL_law_479 : decode cL_law 479 = .ok (.iadd, 1) := by decide +kernel
theorem dL_law_480 : decode cL_law 480 = .ok (.iaload, 1) := by decide +kernel
theorem dL_law_481 : decode cL_law 481 = .ok (.aload_n 3, 1) := by decide +kernel
theorem dL_law_482 : decode cL_law 482 = .ok (.invokestatic 102, 3) := by decide +kernel
theorem dL_law_485 : decode cL_law 485 = .ok (.istore 5, 2) := by decide +kernel
theorem dL_law_487 : decode cL_law 487 = .ok (.aload_n 2, 1) := by decide +kernel
theorem dL_law_488 : decode cL_law 488 = .ok (.aload_n 0, 1) := by decide +kernel
theorem dL_law_489 : decode cL_law 489 = .ok (.iload 4, 2) := by decide +kernel
theorem dL_law_491 : decode cL_law 491 = .ok (.iconst 1, 1) := by decide +kernel
theorem dL_law_492 : decode cL_law 492 = .ok (.iadd, 1) := by decide +kernel
theorem dL_law_493 : decode cL_law 493 = .ok (.iaload, 1) := by decide +kernel
theorem dL_law_494 : decode cL_law 494 = .ok (.aload_n 0, 1) := by decide +kernel
theorem dL_law_495 : decode cL_law 495 = .ok (.iload 4, 2) := by decide +kernel
theorem dL_law_497 : decode cL_law 497 = .ok (.iconst 2, 1) := by decide +kernel
theorem dL_law_498 : decode cL_law 498 = .ok (.iadd, 1) := by decide +kernel
theorem dL_law_499 : decode cL_law 499 = .ok (.iaload, 1) := by decide +kernel
theorem dL_law_500 : decode cL_law 500 = .ok (.invokevirtual 104, 3) := by decide +kernel
theorem dL_law_503 : decode cL_law 503 = .ok (.istore 6, 2) := by decide +kernel
theorem dL_law_505 : decode cL_law 505 = .ok (.aload_n 2, 1) := by decide +kernel
theorem dL_law_506 : decode cL_law 506 = .ok (.invokevirtual 69, 3) := by decide +kernel
theorem dL_law_509 : decode cL_law 509 = .ok (.iload 5, 2) := by decide +kernel
theorem dL_law_511 : decode cL_law 511 = .ok (.if_icmp .eq 5, 3) := by decide +kernel
theorem dL_law_514 : decode cL_law 514 = .ok (.iconst 0, 1) := by decide +kernel
theorem dL_law_515 : decode cL_law 515 = .ok (.ireturn, 1) := by decide +kernel
theorem dL_law_516 : decode cL_law 516 = .ok (.iload 5, 2) := by decide +kernel
theorem dL_law_518 : decode cL_law 518 = .ok (.ifCond .ne 15, 3) := by decide +kernel
theorem dL_law_521 : decode cL_law 521 = .ok (.aload_n 3, 1) := by decide +kernel
theorem dL_law_522 : decode cL_law 522 = .ok (.iconst 0, 1) := by decide +kernel
theorem dL_law_523 : decode cL_law 523 = .ok (.laload, 1) := by decide +kernel
theorem dL_law_524 : decode cL_law 524 = .ok (.iload 6, 2) := by decide +kernel
theorem dL_law_526 : decode cL_law 526 = .ok (.i2l, 1) := by decide +kernel
theorem dL_law_527 : decode cL_law 527 = .ok (.lcmp, 1) := by decide +kernel
theorem dL_law_528 : decode cL_law 528 = .ok (.ifCond .eq 5, 3) := by decide +kernel
theorem dL_law_531 : decode cL_law 531 = .ok (.iconst 0, 1) := by decide +kernel
theorem dL_law_532 : decode cL_law 532 = .ok (.ireturn, 1) := by decide +kernel
theorem dL_law_533 : decode cL_law 533 = .ok (.goto 439, 3) := by decide +kernel
theorem dL_law_536 : decode cL_law 536 = .ok (.aload_n 1, 1) := by decide +kernel
theorem dL_law_537 : decode cL_law 537 = .ok (.aload_n 0, 1) := by decide +kernel
theorem dL_law_538 : decode cL_law 538 = .ok (.iload 4, 2) := by decide +kernel
theorem dL_law_540 : decode cL_law 540 = .ok (.iconst 1, 1) := by decide +kernel
theorem dL_law_541 : decode cL_law 541 = .ok (.iadd, 1) := by decide +kernel
theorem dL_law_542 : decode cL_law 542 = .ok (.iaload, 1) := by decide +kernel
theorem dL_law_543 : decode cL_law 543 = .ok (.aload_n 3, 1) := by decide +kernel
theorem dL_law_544 : decode cL_law 544 = .ok (.invokestatic 105, 3) := by decide +kernel
theorem dL_law_547 : decode cL_law 547 = .ok (.istore 5, 2) := by decide +kernel
theorem dL_law_549 : decode cL_law 549 = .ok (.aload_n 2, 1) := by decide +kernel
theorem dL_law_550 : decode cL_law 550 = .ok (.aload_n 0, 1) := by decide +kernel
theorem dL_law_551 : decode cL_law 551 = .ok (.iload 4, 2) := by decide +kernel
theorem dL_law_553 : decode cL_law 553 = .ok (.iconst 1, 1) := by decide +kernel
theorem dL_law_554 : decode cL_law 554 = .ok (.iadd, 1) := by decide +kernel
theorem dL_law_555 : decode cL_law 555 = .ok (.iaload, 1) := by decide +kernel
theorem dL_law_556 : decode cL_law 556 = .ok (.invokevirtual 107, 3) := by decide +kernel
theorem dL_law_559 : decode cL_law 559 = .ok (.istore 6, 2) := by decide +kernel
theorem dL_law_561 : decode cL_law 561 = .ok (.aload_n 2, 1) := by decide +kernel
theorem dL_law_562 : decode cL_law 562 = .ok (.invokevirtual 69, 3) := by decide +kernel
theorem dL_law_565 : decode cL_law 565 = .ok (.iload 5, 2) := by decide +kernel
theorem dL_law_567 : decode cL_law 567 = .ok (.if_icmp .eq 5, 3) := by decide +kernel
theorem dL_law_570 : decode cL_law 570 = .ok (.iconst 0, 1) := by decide +kernel
theorem dL_law_571 : decode cL_law 571 = .ok (.ireturn, 1) := by decide +kernel
theorem dL_law_572 : decode cL_law 572 = .ok (.iload 5, 2) := by decide +kernel
theorem dL_law_574 : decode cL_law 574 = .ok (.ifCond .ne 22, 3) := by decide +kernel
theorem dL_law_577 : decode cL_law 577 = .ok (.aload_n 3, 1) := by decide +kernel
theorem dL_law_578 : decode cL_law 578 = .ok (.iconst 0, 1) := by decide +kernel
theorem dL_law_579 : decode cL_law 579 = .ok (.laload, 1) := by decide +kernel
theorem dL_law_580 : decode cL_law 580 = .ok (.iload 6, 2) := by decide +kernel
theorem dL_law_582 : decode cL_law 582 = .ok (.ifCond .eq 7, 3) := by decide +kernel
theorem dL_law_585 : decode cL_law 585 = .ok (.lconst 1, 1) := by decide +kernel
theorem dL_law_586 : decode cL_law 586 = .ok (.goto 4, 3) := by decide +kernel
theorem dL_law_589 : decode cL_law 589 = .ok (.lconst 0, 1) := by decide +kernel
theorem dL_law_590 : decode cL_law 590 = .ok (.lcmp, 1) := by decide +kernel
theorem dL_law_591 : decode cL_law 591 = .ok (.ifCond .eq 5, 3) := by decide +kernel
theorem dL_law_594 : decode cL_law 594 = .ok (.iconst 0, 1) := by decide +kernel
theorem dL_law_595 : decode cL_law 595 = .ok (.ireturn, 1) := by decide +kernel
theorem dL_law_596 : decode cL_law 596 = .ok (.goto 376, 3) := by decide +kernel
theorem dL_law_599 : decode cL_law 599 = .ok (.aload_n 1, 1) := by decide +kernel
theorem dL_law_600 : decode cL_law 600 = .ok (.aload_n 0, 1) := by decide +kernel
theorem dL_law_601 : decode cL_law 601 = .ok (.iload 4, 2) := by decide +kernel
theorem dL_law_603 : decode cL_law 603 = .ok (.iconst 1, 1) := by decide +kernel
theorem dL_law_604 : decode cL_law 604 = .ok (.iadd, 1) := by decide +kernel
theorem dL_law_605 : decode cL_law 605 = .ok (.iaload, 1) := by decide +kernel
theorem dL_law_606 : decode cL_law 606 = .ok (.aload_n 3, 1) := by decide +kernel
theorem dL_law_607 : decode cL_law 607 = .ok (.invokestatic 108, 3) := by decide +kernel
theorem dL_law_610 : decode cL_law 610 = .ok (.istore 5, 2) := by decide +kernel
theorem dL_law_612 : decode cL_law 612 = .ok (.aload_n 2, 1) := by decide +kernel
theorem dL_law_613 : decode cL_law 613 = .ok (.aload_n 0, 1) := by decide +kernel
theorem dL_law_614 : decode cL_law 614 = .ok (.iload 4, 2) := by decide +kernel
theorem dL_law_616 : decode cL_law 616 = .ok (.iconst 1, 1) := by decide +kernel
theorem dL_law_617 : decode cL_law 617 = .ok (.iadd, 1) := by decide +kernel
theorem dL_law_618 : decode cL_law 618 = .ok (.iaload, 1) := by decide +kernel
theorem dL_law_619 : decode cL_law 619 = .ok (.invokevirtual 110, 3) := by decide +kernel
theorem dL_law_622 : decode cL_law 622 = .ok (.istore 6, 2) := by decide +kernel
theorem dL_law_624 : decode cL_law 624 = .ok (.aload_n 2, 1) := by decide +kernel
theorem dL_law_625 : decode cL_law 625 = .ok (.invokevirtual 69, 3) := by decide +kernel
theorem dL_law_628 : decode cL_law 628 = .ok (.iload 5, 2) := by decide +kernel
theorem dL_law_630 : decode cL_law 630 = .ok (.if_icmp .eq 5, 3) := by decide +kernel
theorem dL_law_633 : decode cL_law 633 = .ok (.iconst 0, 1) := by decide +kernel
theorem dL_law_634 : decode cL_law 634 = .ok (.ireturn, 1) := by decide +kernel
theorem dL_law_635 : decode cL_law 635 = .ok (.iload 5, 2) := by decide +kernel
theorem dL_law_637 : decode cL_law 637 = .ok (.ifCond .ne 15, 3) := by decide +kernel
theorem dL_law_640 : decode cL_law 640 = .ok (.aload_n 3, 1) := by decide +kernel
theorem dL_law_641 : decode cL_law 641 = .ok (.iconst 0, 1) := by decide +kernel
theorem dL_law_642 : decode cL_law 642 = .ok (.laload, 1) := by decide +kernel
theorem dL_law_643 : decode cL_law 643 = .ok (.iload 6, 2) := by decide +kernel
theorem dL_law_645 : decode cL_law 645 = .ok (.i2l, 1) := by decide +kernel
theorem dL_law_646 : decode cL_law 646 = .ok (.lcmp, 1) := by decide +kernel
theorem dL_law_647 : decode cL_law 647 = .ok (.ifCond .eq 5, 3) := by decide +kernel
theorem dL_law_650 : decode cL_law 650 = .ok (.iconst 0, 1) := by decide +kernel
theorem dL_law_651 : decode cL_law 651 = .ok (.ireturn, 1) := by decide +kernel
theorem dL_law_652 : decode cL_law 652 = .ok (.goto 320, 3) := by decide +kernel
theorem dL_law_655 : decode cL_law 655 = .ok (.aload_n 1, 1) := by decide +kernel
theorem dL_law_656 : decode cL_law 656 = .ok (.aload_n 0, 1) := by decide +kernel
theorem dL_law_657 : decode cL_law 657 = .ok (.iload 4, 2) := by decide +kernel
theorem dL_law_659 : decode cL_law 659 = .ok (.iconst 1, 1) := by decide +kernel
theorem dL_law_660 : decode cL_law 660 = .ok (.iadd, 1) := by decide +kernel
theorem dL_law_661 : decode cL_law 661 = .ok (.iaload, 1) := by decide +kernel
theorem dL_law_662 : decode cL_law 662 = .ok (.aload_n 3, 1) := by decide +kernel
theorem dL_law_663 : decode cL_law 663 = .ok (.invokestatic 111, 3) := by decide +kernel
theorem dL_law_666 : decode cL_law 666 = .ok (.istore 5, 2) := by decide +kernel
theorem dL_law_668 : decode cL_law 668 = .ok (.aload_n 2, 1) := by decide +kernel
theorem dL_law_669 : decode cL_law 669 = .ok (.aload_n 0, 1) := by decide +kernel
theorem dL_law_670 : decode cL_law 670 = .ok (.iload 4, 2) := by decide +kernel
theorem dL_law_672 : decode cL_law 672 = .ok (.iconst 1, 1) := by decide +kernel
theorem dL_law_673 : decode cL_law 673 = .ok (.iadd, 1) := by decide +kernel
theorem dL_law_674 : decode cL_law 674 = .ok (.iaload, 1) := by decide +kernel
theorem dL_law_675 : decode cL_law 675 = .ok (.invokevirtual 113, 3) := by decide +kernel
theorem dL_law_678 : decode cL_law 678 = .ok (.istore 6, 2) := by decide +kernel
theorem dL_law_680 : decode cL_law 680 = .ok (.aload_n 2, 1) := by decide +kernel
theorem dL_law_681 : decode cL_law 681 = .ok (.invokevirtual 69, 3) := by decide +kernel
theorem dL_law_684 : decode cL_law 684 = .ok (.iload 5, 2) := by decide +kernel
theorem dL_law_686 : decode cL_law 686 = .ok (.if_icmp .eq 5, 3) := by decide +kernel
theorem dL_law_689 : decode cL_law 689 = .ok (.iconst 0, 1) := by decide +kernel
theorem dL_law_690 : decode cL_law 690 = .ok (.ireturn, 1) := by decide +kernel
theorem dL_law_691 : decode cL_law 691 = .ok (.iload 5, 2) := by decide +kernel
theorem dL_law_693 : decode cL_law 693 = .ok (.ifCond .ne 15, 3) := by decide +kernel
theorem dL_law_696 : decode cL_law 696 = .ok (.aload_n 3, 1) := by decide +kernel
theorem dL_law_697 : decode cL_law 697 = .ok (.iconst 0, 1) := by decide +kernel
theorem dL_law_698 : decode cL_law 698 = .ok (.laload, 1) := by decide +kernel
theorem dL_law_699 : decode cL_law 699 = .ok (.iload 6, 2) := by decide +kernel
theorem dL_law_701 : decode cL_law 701 = .ok (.i2l, 1) := by decide +kernel
theorem dL_law_702 : decode cL_law 702 = .ok (.lcmp, 1) := by decide +kernel
theorem dL_law_703 : decode cL_law 703 = .ok (.ifCond .eq 5, 3) := by decide +kernel
theorem dL_law_706 : decode cL_law 706 = .ok (.iconst 0, 1) := by decide +kernel
theorem dL_law_707 : decode cL_law 707 = .ok (.ireturn, 1) := by decide +kernel
theorem dL_law_708 : decode cL_law 708 = .ok (.goto 264, 3) := by decide +kernel
theorem dL_law_711 : decode cL_law 711 = .ok (.aload_n 1, 1) := by decide +kernel
theorem dL_law_712 : decode cL_law 712 = .ok (.invokevirtual 114, 3) := by decide +kernel
theorem dL_law_715 : decode cL_law 715 = .ok (.aload_n 2, 1) := by decide +kernel
theorem dL_law_716 : decode cL_law 716 = .ok (.invokevirtual 117, 3) := by decide +kernel
theorem dL_law_719 : decode cL_law 719 = .ok (.if_icmp .eq 253, 3) := by decide +kernel
theorem dL_law_722 : decode cL_law 722 = .ok (.iconst 0, 1) := by decide +kernel
theorem dL_law_723 : decode cL_law 723 = .ok (.ireturn, 1) := by decide +kernel
theorem dL_law_724 : decode cL_law 724 = .ok (.aload_n 1, 1) := by decide +kernel
theorem dL_law_725 : decode cL_law 725 = .ok (.aload_n 0, 1) := by decide +kernel
theorem dL_law_726 : decode cL_law 726 = .ok (.iload 4, 2) := by decide +kernel
theorem dL_law_728 : decode cL_law 728 = .ok (.iconst 1, 1) := by decide +kernel
theorem dL_law_729 : decode cL_law 729 = .ok (.iadd, 1) := by decide +kernel
theorem dL_law_730 : decode cL_law 730 = .ok (.iaload, 1) := by decide +kernel
theorem dL_law_731 : decode cL_law 731 = .ok (.aload_n 3, 1) := by decide +kernel
theorem dL_law_732 : decode cL_law 732 = .ok (.invokestatic 118, 3) := by decide +kernel
theorem dL_law_735 : decode cL_law 735 = .ok (.istore 5, 2) := by decide +kernel
theorem dL_law_737 : decode cL_law 737 = .ok (.aload_n 2, 1) := by decide +kernel
theorem dL_law_738 : decode cL_law 738 = .ok (.aload_n 0, 1) := by decide +kernel
theorem dL_law_739 : decode cL_law 739 = .ok (.iload 4, 2) := by decide +kernel
theorem dL_law_741 : decode cL_law 741 = .ok (.iconst 1, 1) := by decide +kernel
theorem dL_law_742 : decode cL_law 742 = .ok (.iadd, 1) := by decide +kernel
theorem dL_law_743 : decode cL_law 743 = .ok (.iaload, 1) := by decide +kernel
theorem dL_law_744 : decode cL_law 744 = .ok (.invokevirtual 120, 3) := by decide +kernel
theorem dL_law_747 : decode cL_law 747 = .ok (.istore 6, 2) := by decide +kernel
theorem dL_law_749 : decode cL_law 749 = .ok (.aload_n 2, 1) := by decide +kernel
theorem dL_law_750 : decode cL_law 750 = .ok (.invokevirtual 69, 3) := by decide +kernel
theorem dL_law_753 : decode cL_law 753 = .ok (.iload 5, 2) := by decide +kernel
theorem dL_law_755 : decode cL_law 755 = .ok (.if_icmp .eq 5, 3) := by decide +kernel
theorem dL_law_758 : decode cL_law 758 = .ok (.iconst 0, 1) := by decide +kernel
theorem dL_law_759 : decode cL_law 759 = .ok (.ireturn, 1) := by decide +kernel
theorem dL_law_760 : decode cL_law 760 = .ok (.iload 5, 2) := by decide +kernel
theorem dL_law_762 : decode cL_law 762 = .ok (.ifCond .ne 15, 3) := by decide +kernel
theorem dL_law_765 : decode cL_law 765 = .ok (.aload_n 3, 1) := by decide +kernel
theorem dL_law_766 : decode cL_law 766 = .ok (.iconst 0, 1) := by decide +kernel
theorem dL_law_767 : decode cL_law 767 = .ok (.laload, 1) := by decide +kernel
theorem dL_law_768 : decode cL_law 768 = .ok (.iload 6, 2) := by decide +kernel
theorem dL_law_770 : decode cL_law 770 = .ok (.i2l, 1) := by decide +kernel
theorem dL_law_771 : decode cL_law 771 = .ok (.lcmp, 1) := by decide +kernel
theorem dL_law_772 : decode cL_law 772 = .ok (.ifCond .eq 5, 3) := by decide +kernel
theorem dL_law_775 : decode cL_law 775 = .ok (.iconst 0, 1) := by decide +kernel
theorem dL_law_776 : decode cL_law 776 = .ok (.ireturn, 1) := by decide +kernel
theorem dL_law_777 : decode cL_law 777 = .ok (.goto 195, 3) := by decide +kernel
theorem dL_law_780 : decode cL_law 780 = .ok (.aload_n 1, 1) := by decide +kernel
theorem dL_law_781 : decode cL_law 781 = .ok (.aload_n 0, 1) := by decide +kernel
theorem dL_law_782 : decode cL_law 782 = .ok (.iload 4, 2) := by decide +kernel
theorem dL_law_784 : decode cL_law 784 = .ok (.iconst 1, 1) := by decide +kernel
theorem dL_law_785 : decode cL_law 785 = .ok (.iadd, 1) := by decide +kernel
theorem dL_law_786 : decode cL_law 786 = .ok (.iaload, 1) := by decide +kernel
theorem dL_law_787 : decode cL_law 787 = .ok (.aload_n 3, 1) := by decide +kernel
theorem dL_law_788 : decode cL_law 788 = .ok (.invokestatic 121, 3) := by decide +kernel
theorem dL_law_791 : decode cL_law 791 = .ok (.istore 5, 2) := by decide +kernel
theorem dL_law_793 : decode cL_law 793 = .ok (.aload_n 2, 1) := by decide +kernel
theorem dL_law_794 : decode cL_law 794 = .ok (.aload_n 0, 1) := by decide +kernel
theorem dL_law_795 : decode cL_law 795 = .ok (.iload 4, 2) := by decide +kernel
theorem dL_law_797 : decode cL_law 797 = .ok (.iconst 1, 1) := by decide +kernel
theorem dL_law_798 : decode cL_law 798 = .ok (.iadd, 1) := by decide +kernel
theorem dL_law_799 : decode cL_law 799 = .ok (.iaload, 1) := by decide +kernel
theorem dL_law_800 : decode cL_law 800 = .ok (.invokevirtual 123, 3) := by decide +kernel
theorem dL_law_803 : decode cL_law 803 = .ok (.istore 6, 2) := by decide +kernel
theorem dL_law_805 : decode cL_law 805 = .ok (.aload_n 2, 1) := by decide +kernel
theorem dL_law_806 : decode cL_law 806 = .ok (.invokevirtual 69, 3) := by decide +kernel
theorem dL_law_809 : decode cL_law 809 = .ok (.iload 5, 2) := by decide +kernel
theorem dL_law_811 : decode cL_law 811 = .ok (.if_icmp .eq 5, 3) := by decide +kernel
theorem dL_law_814 : decode cL_law 814 = .ok (.iconst 0, 1) := by decide +kernel
theorem dL_law_815 : decode cL_law 815 = .ok (.ireturn, 1) := by decide +kernel
theorem dL_law_816 : decode cL_law 816 = .ok (.iload 5, 2) := by decide +kernel
theorem dL_law_818 : decode cL_law 818 = .ok (.ifCond .ne 15, 3) := by decide +kernel
theorem dL_law_821 : decode cL_law 821 = .ok (.aload_n 3, 1) := by decide +kernel
theorem dL_law_822 : decode cL_law 822 = .ok (.iconst 0, 1) := by decide +kernel
theorem dL_law_823 : decode cL_law 823 = .ok (.laload, 1) := by decide +kernel
theorem dL_law_824 : decode cL_law 824 = .ok (.iload 6, 2) := by decide +kernel
theorem dL_law_826 : decode cL_law 826 = .ok (.i2l, 1) := by decide +kernel
theorem dL_law_827 : decode cL_law 827 = .ok (.lcmp, 1) := by decide +kernel
theorem dL_law_828 : decode cL_law 828 = .ok (.ifCond .eq 5, 3) := by decide +kernel
theorem dL_law_831 : decode cL_law 831 = .ok (.iconst 0, 1) := by decide +kernel
theorem dL_law_832 : decode cL_law 832 = .ok (.ireturn, 1) := by decide +kernel
theorem dL_law_833 : decode cL_law 833 = .ok (.goto 139, 3) := by decide +kernel
theorem dL_law_836 : decode cL_law 836 = .ok (.aload_n 1, 1) := by decide +kernel
theorem dL_law_837 : decode cL_law 837 = .ok (.aload_n 0, 1) := by decide +kernel
theorem dL_law_838 : decode cL_law 838 = .ok (.iload 4, 2) := by decide +kernel
theorem dL_law_840 : decode cL_law 840 = .ok (.iconst 1, 1) := by decide +kernel
theorem dL_law_841 : decode cL_law 841 = .ok (.iadd, 1) := by decide +kernel
theorem dL_law_842 : decode cL_law 842 = .ok (.iaload, 1) := by decide +kernel
theorem dL_law_843 : decode cL_law 843 = .ok (.aload_n 0, 1) := by decide +kernel
theorem dL_law_844 : decode cL_law 844 = .ok (.iload 4, 2) := by decide +kernel
theorem dL_law_846 : decode cL_law 846 = .ok (.iconst 2, 1) := by decide +kernel
theorem dL_law_847 : decode cL_law 847 = .ok (.iadd, 1) := by decide +kernel
theorem dL_law_848 : decode cL_law 848 = .ok (.iaload, 1) := by decide +kernel
theorem dL_law_849 : decode cL_law 849 = .ok (.aload_n 0, 1) := by decide +kernel
theorem dL_law_850 : decode cL_law 850 = .ok (.iload 4, 2) := by decide +kernel
theorem dL_law_852 : decode cL_law 852 = .ok (.iconst 3, 1) := by decide +kernel
theorem dL_law_853 : decode cL_law 853 = .ok (.iadd, 1) := by decide +kernel
theorem dL_law_854 : decode cL_law 854 = .ok (.iaload, 1) := by decide +kernel
theorem dL_law_855 : decode cL_law 855 = .ok (.aload_n 3, 1) := by decide +kernel
theorem dL_law_856 : decode cL_law 856 = .ok (.invokestatic 124, 3) := by decide +kernel
theorem dL_law_859 : decode cL_law 859 = .ok (.istore 5, 2) := by decide +kernel
theorem dL_law_861 : decode cL_law 861 = .ok (.aload_n 2, 1) := by decide +kernel
theorem dL_law_862 : decode cL_law 862 = .ok (.aload_n 0, 1) := by decide +kernel
theorem dL_law_863 : decode cL_law 863 = .ok (.iload 4, 2) := by decide +kernel
theorem dL_law_865 : decode cL_law 865 = .ok (.iconst 1, 1) := by decide +kernel
theorem dL_law_866 : decode cL_law 866 = .ok (.iadd, 1) := by decide +kernel
theorem dL_law_867 : decode cL_law 867 = .ok (.iaload, 1) := by decide +kernel
theorem dL_law_868 : decode cL_law 868 = .ok (.aload_n 0, 1) := by decide +kernel
theorem dL_law_869 : decode cL_law 869 = .ok (.iload 4, 2) := by decide +kernel
theorem dL_law_871 : decode cL_law 871 = .ok (.iconst 2, 1) := by decide +kernel
theorem dL_law_872 : decode cL_law 872 = .ok (.iadd, 1) := by decide +kernel
theorem dL_law_873 : decode cL_law 873 = .ok (.iaload, 1) := by decide +kernel
theorem dL_law_874 : decode cL_law 874 = .ok (.aload_n 0, 1) := by decide +kernel
theorem dL_law_875 : decode cL_law 875 = .ok (.iload 4, 2) := by decide +kernel
theorem dL_law_877 : decode cL_law 877 = .ok (.iconst 3, 1) := by decide +kernel
theorem dL_law_878 : decode cL_law 878 = .ok (.iadd, 1) := by decide +kernel
theorem dL_law_879 : decode cL_law 879 = .ok (.iaload, 1) := by decide +kernel
theorem dL_law_880 : decode cL_law 880 = .ok (.invokevirtual 127, 3) := by decide +kernel
theorem dL_law_883 : decode cL_law 883 = .ok (.istore 6, 2) := by decide +kernel
theorem dL_law_885 : decode cL_law 885 = .ok (.aload_n 2, 1) := by decide +kernel
theorem dL_law_886 : decode cL_law 886 = .ok (.invokevirtual 69, 3) := by decide +kernel
theorem dL_law_889 : decode cL_law 889 = .ok (.iload 5, 2) := by decide +kernel
theorem dL_law_891 : decode cL_law 891 = .ok (.if_icmp .eq 5, 3) := by decide +kernel
theorem dL_law_894 : decode cL_law 894 = .ok (.iconst 0, 1) := by decide +kernel
theorem dL_law_895 : decode cL_law 895 = .ok (.ireturn, 1) := by decide +kernel
theorem dL_law_896 : decode cL_law 896 = .ok (.iload 5, 2) := by decide +kernel
theorem dL_law_898 : decode cL_law 898 = .ok (.ifCond .ne 15, 3) := by decide +kernel
theorem dL_law_901 : decode cL_law 901 = .ok (.aload_n 3, 1) := by decide +kernel
theorem dL_law_902 : decode cL_law 902 = .ok (.iconst 0, 1) := by decide +kernel
theorem dL_law_903 : decode cL_law 903 = .ok (.laload, 1) := by decide +kernel
theorem dL_law_904 : decode cL_law 904 = .ok (.iload 6, 2) := by decide +kernel
theorem dL_law_906 : decode cL_law 906 = .ok (.i2l, 1) := by decide +kernel
theorem dL_law_907 : decode cL_law 907 = .ok (.lcmp, 1) := by decide +kernel
theorem dL_law_908 : decode cL_law 908 = .ok (.ifCond .eq 5, 3) := by decide +kernel
theorem dL_law_911 : decode cL_law 911 = .ok (.iconst 0, 1) := by decide +kernel
theorem dL_law_912 : decode cL_law 912 = .ok (.ireturn, 1) := by decide +kernel
theorem dL_law_913 : decode cL_law 913 = .ok (.goto 59, 3) := by decide +kernel
theorem dL_law_916 : decode cL_law 916 = .ok (.aload_n 1, 1) := by decide +kernel
theorem dL_law_917 : decode cL_law 917 = .ok (.aload_n 0, 1) := by decide +kernel
theorem dL_law_918 : decode cL_law 918 = .ok (.iload 4, 2) := by decide +kernel
theorem dL_law_920 : decode cL_law 920 = .ok (.iconst 1, 1) := by decide +kernel
theorem dL_law_921 : decode cL_law 921 = .ok (.iadd, 1) := by decide +kernel
theorem dL_law_922 : decode cL_law 922 = .ok (.iaload, 1) := by decide +kernel
theorem dL_law_923 : decode cL_law 923 = .ok (.aload_n 3, 1) := by decide +kernel
theorem dL_law_924 : decode cL_law 924 = .ok (.invokestatic 128, 3) := by decide +kernel
theorem dL_law_927 : decode cL_law 927 = .ok (.istore 5, 2) := by decide +kernel
theorem dL_law_929 : decode cL_law 929 = .ok (.aload_n 2, 1) := by decide +kernel
theorem dL_law_930 : decode cL_law 930 = .ok (.aload_n 0, 1) := by decide +kernel
theorem dL_law_931 : decode cL_law 931 = .ok (.iload 4, 2) := by decide +kernel
theorem dL_law_933 : decode cL_law 933 = .ok (.iconst 1, 1) := by decide +kernel
theorem dL_law_934 : decode cL_law 934 = .ok (.iadd, 1) := by decide +kernel
theorem dL_law_935 : decode cL_law 935 = .ok (.iaload, 1) := by decide +kernel
theorem dL_law_936 : decode cL_law 936 = .ok (.invokevirtual 130, 3) := by decide +kernel
theorem dL_law_939 : decode cL_law 939 = .ok (.istore 6, 2) := by decide +kernel
theorem dL_law_941 : decode cL_law 941 = .ok (.aload_n 2, 1) := by decide +kernel
theorem dL_law_942 : decode cL_law 942 = .ok (.invokevirtual 69, 3) := by decide +kernel
theorem dL_law_945 : decode cL_law 945 = .ok (.iload 5, 2) := by decide +kernel
theorem dL_law_947 : decode cL_law 947 = .ok (.if_icmp .eq 5, 3) := by decide +kernel
theorem dL_law_950 : decode cL_law 950 = .ok (.iconst 0, 1) := by decide +kernel
theorem dL_law_951 : decode cL_law 951 = .ok (.ireturn, 1) := by decide +kernel
theorem dL_law_952 : decode cL_law 952 = .ok (.iload 5, 2) := by decide +kernel
theorem dL_law_954 : decode cL_law 954 = .ok (.ifCond .ne 15, 3) := by decide +kernel
theorem dL_law_957 : decode cL_law 957 = .ok (.aload_n 3, 1) := by decide +kernel
theorem dL_law_958 : decode cL_law 958 = .ok (.iconst 0, 1) := by decide +kernel
theorem dL_law_959 : decode cL_law 959 = .ok (.laload, 1) := by decide +kernel
theorem dL_law_960 : decode cL_law 960 = .ok (.iload 6, 2) := by decide +kernel
theorem dL_law_962 : decode cL_law 962 = .ok (.i2l, 1) := by decide +kernel
theorem dL_law_963 : decode cL_law 963 = .ok (.lcmp, 1) := by decide +kernel
theorem dL_law_964 : decode cL_law 964 = .ok (.ifCond .eq 5, 3) := by decide +kernel
theorem dL_law_967 : decode cL_law 967 = .ok (.iconst 0, 1) := by decide +kernel
theorem dL_law_968 : decode cL_law 968 = .ok (.ireturn, 1) := by decide +kernel
theorem dL_law_969 : decode cL_law 969 = .ok (.goto 3, 3) := by decide +kernel
theorem dL_law_972 : decode cL_law 972 = .ok (.iinc 4 4, 3) := by decide +kernel
theorem dL_law_975 : decode cL_law 975 = .ok (.goto (-952), 3) := by decide +kernel
theorem dL_law_978 : decode cL_law 978 = .ok (.iconst 1, 1) := by decide +kernel
theorem dL_law_979 : decode cL_law 979 = .ok (.ireturn, 1) := by decide +kernel
end
section
def iI (z : Int) : Int32 := Int32.ofInt z
def rI (z : Int) : Prop := -2147483648 ≤ z ∧ z < 2147483648
theorem iI_add (a b : Int) : iI a + iI b = iI (a + b) := (Int32.ofInt_add a b).symm
theorem iI_sub (a b : Int) : iI a - iI b = iI (a - b) := (Int32.ofInt_sub a b).symm
theorem iI_mul (a b : Int) : iI a * iI b = iI (a * b) := (Int32.ofInt_mul a b).symm
theorem iI_neg (a : Int) : -iI a = iI (-a) := (Int32.ofInt_neg a).symm
theorem iI_toInt {a : Int} (h : rI a) : (iI a).toInt = a := Int32.toInt_ofInt_of_le (by unfold rI at h; omega) (by unfold rI at h; omega)
theorem iI_le {a b : Int} (ha : rI a) (hb : rI b) : iI a ≤ iI b ↔ a ≤ b := by rw [Int32.le_iff_toInt_le, iI_toInt ha, iI_toInt hb]
theorem iI_lt {a b : Int} (ha : rI a) (hb : rI b) : iI a < iI b ↔ a < b := by rw [Int32.lt_iff_toInt_lt, iI_toInt ha, iI_toInt hb]
theorem iI_eq {a b : Int} (ha : rI a) (hb : rI b) : iI a = iI b ↔ a = b := by rw [← Int32.toInt_inj, iI_toInt ha, iI_toInt hb]
theorem nlt {a b : Int} {d : Nat} (h0 : 0 ≤ b) (hd : (d : Int) = a) (h : b < a) : b.toNat < d := by omega
theorem iI_0 : iI 0 = 0 := rfl
theorem rI_0 : rI 0 := by unfold rI; omega
theorem iI_nat (n : Nat) : iI (n : Int) = nI n := rfl
theorem iI_nonneg {a : Int} (h : 0 ≤ a) : iI a = nI a.toNat := by rw [← iI_nat, Int.toNat_of_nonneg h]
theorem iI_cl {a : Int} (h0 : 0 ≤ a) (h1 : a < 2147483648) : (iI a).toNatClampNeg = a.toNat := by rw [iI_nonneg h0]; exact nI_clamp (by omega)
theorem iI_of (x : Int32) : x = iI x.toInt := (Int32.ofInt_toInt x).symm
theorem rI_of (x : Int32) : rI x.toInt := ⟨Int32.le_toInt x, Int32.toInt_lt x⟩
theorem iI_div {a b : Int} (ha : 0 ≤ a) (ha1 : a < 2147483648) (hb : 0 < b) (hb1 : b < 2147483648) : iI a / iI b = iI (a / b) := by
  rw [iI_nonneg ha, iI_nonneg (by omega : 0 ≤ b), pk_div (by omega) (by omega) (by omega), ← iI_nat, Int.natCast_ediv, Int.toNat_of_nonneg ha, Int.toNat_of_nonneg (by omega : 0 ≤ b)]
theorem iI_rem {a b : Int} (ha : 0 ≤ a) (ha1 : a < 2147483648) (hb : 0 < b) (hb1 : b < 2147483648) : iI a - iI a / iI b * iI b = iI (a % b) := by
  rw [iI_nonneg ha, iI_nonneg (by omega : 0 ≤ b), pk_rem (by omega) (by omega) (by omega), ← iI_nat, Int.natCast_emod, Int.toNat_of_nonneg ha, Int.toNat_of_nonneg (by omega : 0 ≤ b)]
theorem iI_ne0 {b : Int} (hb : 0 < b) (hb1 : b < 2147483648) : ¬ iI b = 0 := by
  rw [← iI_0, iI_eq (by unfold rI; omega) rI_0]; omega
/-- an array of whole numbers -/
def aI (P : Int → Int) : Nat → Int32 := fun k => iI (P (k : Int))
def uI (P : Int → Int) (i v : Int) : Int → Int := fun j => if j = i then v else P j
theorem aI_in {e : Int} {n : Nat} (h0 : 0 ≤ e) (h1 : e < n) (hn : n ≤ 1000000) : vp_in (iI e) n := by
  rw [iI_nonneg h0]; exact vp_in_nI (by omega) (by omega)
theorem aI_at {P : Int → Int} {e : Int} {n : Nat} (h0 : 0 ≤ e) (h1 : e < n) (hn : n ≤ 1000000) : aI P (iI e).toNatClampNeg = iI (P e) := by
  rw [iI_cl h0 (by omega)]; unfold aI; rw [Int.toNat_of_nonneg h0]
theorem aI_upd {P : Int → Int} {e v : Int} {n : Nat} (h0 : 0 ≤ e) (h1 : e < n) (hn : n ≤ 1000000) : upd (aI P) (iI e).toNatClampNeg (iI v) = aI (uI P e v) := by
  rw [iI_cl h0 (by omega)]
  funext k
  unfold upd aI uI
  by_cases hk : k = e.toNat
  · subst hk; rw [if_pos rfl, if_pos (Int.toNat_of_nonneg h0)]
  · rw [if_neg hk, if_neg (by omega)]
/-- the environment: classes, links of nest mates, the table, what a throw reads -/
def nestL : List Cond := [.methodLinkNest RX0 26 yX1_partnerOf RX1, .methodLinkNest RX0 42 yX1_isGrace RX1, .methodLinkNest RX0 46 yX1_worthOf RX1, .methodLinkNest RX0 65 yX1_otherTeam RX1, .methodLinkNest RX0 57 yX1_isSafeSquare RX1, .methodLinkNest RX0 32 yX1_teamOf RX1, .declares (Bundle.initS "java/lang/RuntimeException"), .declares (Bundle.initS "java/lang/Exception"), .declares (Bundle.initS Bundle.tN), .castable "java/lang/IllegalArgumentException" "java/lang/IllegalArgumentException", .castable "java/lang/IllegalStateException" "java/lang/IllegalStateException", .castable "java/lang/IndexOutOfBoundsException" "java/lang/IndexOutOfBoundsException"]
def strL : List (Nat × String) := [(132, "what is asked for is 0 to 3"), (141, "the threat comes from a player of the other team"), (146, "the throws left are 1 to 3"), (153, "the players are 0 to 3"), (156, "the pieces are 0 to 3"), (158, "the squares are 0 to 67"), (160, "the teams are 0 and 1"), (162, "no throw is to be made"), (164, "there is no throw to move by"), (35, "the mouths up are 0 to 6"), (78, "the piece cannot move by the throw")]
/-- the ways of each number of mouths -/
def wyI : Int → Int := (uI (uI (uI (uI (uI (uI (uI (fun _ => 0) (0) (1)) (1) (6)) (2) (15)) (3) (20)) (4) (15)) (5) (6)) (6) (1))
def ncL : List (String × String) := [("java/lang/IllegalStateException", "java/lang/IllegalArgumentException"), ("java/lang/IllegalStateException", "java/lang/IndexOutOfBoundsException"), ("java/lang/IllegalArgumentException", "java/lang/IndexOutOfBoundsException")]
def EV (D : va_G) (cI cL : ClassId) (tw : Nat) (A : Nat → Prop) (U : State) (H : Heap) : Prop :=
  va_K D vwCl [(cI, .int), (cL, .long)] U ∧ (∀ w ∈ nestL, va_Nw w U) ∧ va_Z "PachisiYard" "WAYS_BY_MOUTHS" "[I" (.ref tw) A U H ∧ va_T .int tw 7 (fun j => .int (aI wyI j)) A U H ∧ (vx_Zq Bundle.tN "UNASSIGNED_STACK" Bundle.steD A U H ∧ vx_Zq Bundle.tN "SUPPRESSED_SENTINEL" Bundle.listD A U H) ∧ (∀ q ∈ strL, ∃ sa : Nat, vk_R RX1 q.1 q.2 sa U) ∧ ∀ q ∈ ncL, va_Nc q.1 q.2 U
def FF : Nat → Prop := fun _ => False
theorem EV.K {D : va_G} {cI cL : ClassId} {tw : Nat} {A : Nat → Prop} {U : State} {H : Heap} (h : EV D cI cL tw A U H) : va_K D vwCl [(cI, .int), (cL, .long)] U := h.1
theorem EV.kept {D : va_G} {cI cL : ClassId} {tw : Nat} {A : Nat → Prop} {U : State} {H H1 : Heap} (h : EV D cI cL tw A U H) (hq : ∀ a : Nat, a < H.size → ¬ A a → H1[a]? = H[a]?) : EV D cI cL tw A U H1 :=
  ⟨h.1, h.2.1, h.2.2.1.kept hq, h.2.2.2.1.kept hq, ⟨h.2.2.2.2.1.1.kept hq, h.2.2.2.2.1.2.kept hq⟩, h.2.2.2.2.2⟩
theorem EV.narrow {D : va_G} {cI cL : ClassId} {tw : Nat} {A B : Nat → Prop} {U : State} {H : Heap} (h : EV D cI cL tw A U H) (hAB : ∀ q, B q → A q) : EV D cI cL tw B U H :=
  ⟨h.1, h.2.1, h.2.2.1.narrow hAB, h.2.2.2.1.narrow hAB, ⟨h.2.2.2.2.1.1.narrow hAB, h.2.2.2.2.1.2.narrow hAB⟩, h.2.2.2.2.2⟩
theorem nest_warm {s U : State} (hW : s.WarmedH U.vm) (h : ∀ w ∈ nestL, va_Nw w s) : ∀ w ∈ nestL, va_Nw w U := by
  intro w hw
  have h1 := h w hw
  simp only [nestL, List.mem_cons, List.not_mem_nil, or_false] at hw
  rcases hw with rfl | rfl | rfl | rfl | rfl | rfl | rfl | rfl | rfl | rfl | rfl | rfl <;> first | exact va_Nw.warmM hW h1 | exact va_Nw.warmC hW h1 | exact va_tabs rfl (rfl : (s.setVm U.vm).vm = U.vm) (by rw [Cond.declares_setVm hW.alike]; exact h1)
theorem EV.warm {D : va_G} {cI cL : ClassId} {tw : Nat} {A : Nat → Prop} {s U : State} {H : Heap} (hW : s.WarmedH U.vm) (h : EV D cI cL tw A s H) : EV D cI cL tw A U H :=
  ⟨h.1.moved hW.alike, nest_warm hW h.2.1, h.2.2.1.moved hW.alike, h.2.2.2.1.moved hW.alike, ⟨vx_Zq.moved hW.alike h.2.2.2.2.1.1, vx_Zq.moved hW.alike h.2.2.2.2.1.2⟩, fun q hq => let ⟨sa, hs⟩ := h.2.2.2.2.2.1 q hq; ⟨sa, vk_R.warm hW hs⟩, fun q hq => va_Nc.moved hW.alike (h.2.2.2.2.2.2 q hq)⟩
theorem nest_same {u U : State} (h : u.vm = U.vm) (hn : ∀ w ∈ nestL, va_Nw w u) : ∀ w ∈ nestL, va_Nw w U := by
  intro w hw
  have h1 := hn w hw
  simp only [nestL, List.mem_cons, List.not_mem_nil, or_false] at hw
  rcases hw with rfl | rfl | rfl | rfl | rfl | rfl | rfl | rfl | rfl | rfl | rfl | rfl <;> exact va_Nw.same rfl h h1
theorem nest_use {A : Array Value} {U : State} {w : Cond} (hw : w ∈ nestL) (h1 : va_Nw w U) : w.before A U = true := by
  simp only [nestL, List.mem_cons, List.not_mem_nil, or_false] at hw
  rcases hw with rfl | rfl | rfl | rfl | rfl | rfl | rfl | rfl | rfl | rfl | rfl | rfl <;> exact va_Nw.use rfl h1
theorem EV.same {D : va_G} {cI cL : ClassId} {tw : Nat} {A : Nat → Prop} {u U : State} {H : Heap} (hv : u.vm = U.vm) (h : EV D cI cL tw A u H) : EV D cI cL tw A U H := by
  have ha : u.vm.Alike U.vm := by rw [hv]; exact Vm.Alike.refl U.vm
  exact ⟨h.1.moved ha, nest_same hv h.2.1, h.2.2.1.moved ha, h.2.2.2.1.moved ha, ⟨vx_Zq.moved ha h.2.2.2.2.1.1, vx_Zq.moved ha h.2.2.2.2.1.2⟩, fun q hq => let ⟨sa, hs⟩ := h.2.2.2.2.2.1 q hq; ⟨sa, vk_R.same hv.symm hs⟩, fun q hq => va_Nc.moved ha (h.2.2.2.2.2.2 q hq)⟩
/-- a method that reads only: its answer z with post z -/
def RO (l : Launch) (y : MethodName) (ws : List Cond) (rm : Room) (D : va_G) (cI cL : ClassId) (tw : Nat) (av : List Value) (WS : va_W) (post : Int → Prop) : Prop :=
  Met l y ws rm (va_Pc av (fun U => EV D cI cL tw FF U U.heap ∧ va_P D vwCl WS U.heap)) (vp_Si (fun r => ∃ z : Int, r = iI z ∧ post z)) 0 0 FF
/-- a truth -/
def tz (C : Prop) (z : Int) : Prop := (z = 1 ∧ C) ∨ (z = 0 ∧ ¬ C)

section RWS
variable {p : Program} {l : Launch} {e : Env} {R : Room} {s : State} {m : MethodId} {args : Array Value} {below : List Frame} {meth : Method} {c : Code} {H : Heap} {locs : List Loc} {cells slots : Nat} {Q : State → Prop}
variable {cc : ByteArray} {pc : Nat} {ls : Array Slot} {rest st0 : List Value} {D : va_G} {cI cL : ClassId} {tw : Nat} {A : Nat → Prop} {ws : va_W} {H0 : Heap} {nL : Nat} {Ts : List Cond} {own : String}
theorem r_iconst (hx : p.tables.exec = Jvm.exec) (hb : c.code = cc) {n : Int} (hdg : decode cc pc = .ok (.iconst n, 1)) (k : W p l e R s m args below meth c H locs cells slots Q (F0 m (pc + 1) ls (.int (iI n) :: rest))) : W p l e R s m args below meth c H locs cells slots Q (F0 m pc ls rest) := lv_iconst hx hb hdg rfl k
theorem r_bipush (hx : p.tables.exec = Jvm.exec) (hb : c.code = cc) {n : Int} (hdg : decode cc pc = .ok (.bipush n, 2)) (hv : (Int8.ofInt n).toInt32 = iI n) (k : W p l e R s m args below meth c H locs cells slots Q (F0 m (pc + 2) ls (.int (iI n) :: rest))) : W p l e R s m args below meth c H locs cells slots Q (F0 m pc ls rest) := lv_bipush hx hb hdg hv k
theorem r_sipush (hx : p.tables.exec = Jvm.exec) (hb : c.code = cc) {n : Int} (hdg : decode cc pc = .ok (.sipush n, 3)) (hv : (Int16.ofInt n).toInt32 = iI n) (k : W p l e R s m args below meth c H locs cells slots Q (F0 m (pc + 3) ls (.int (iI n) :: rest))) : W p l e R s m args below meth c H locs cells slots Q (F0 m pc ls rest) := lv_sipush hx hb hdg hv k
theorem r_iadd (hx : p.tables.exec = Jvm.exec) (hb : c.code = cc) {a b : Int} (hdg : decode cc pc = .ok (.iadd, 1)) (k : W p l e R s m args below meth c H locs cells slots Q (F0 m (pc + 1) ls (.int (iI (a + b)) :: rest))) : W p l e R s m args below meth c H locs cells slots Q (F0 m pc ls (.int (iI b) :: .int (iI a) :: rest)) := lv_iadd hx hb hdg (by rw [iI_add]; exact k)
theorem r_isub (hx : p.tables.exec = Jvm.exec) (hb : c.code = cc) {a b : Int} (hdg : decode cc pc = .ok (.isub, 1)) (k : W p l e R s m args below meth c H locs cells slots Q (F0 m (pc + 1) ls (.int (iI (a - b)) :: rest))) : W p l e R s m args below meth c H locs cells slots Q (F0 m pc ls (.int (iI b) :: .int (iI a) :: rest)) := lv_isub hx hb hdg (by rw [iI_sub]; exact k)
theorem r_imul (hx : p.tables.exec = Jvm.exec) (hb : c.code = cc) {a b : Int} (hdg : decode cc pc = .ok (.imul, 1)) (k : W p l e R s m args below meth c H locs cells slots Q (F0 m (pc + 1) ls (.int (iI (a * b)) :: rest))) : W p l e R s m args below meth c H locs cells slots Q (F0 m pc ls (.int (iI b) :: .int (iI a) :: rest)) := lv_imul hx hb hdg (by rw [iI_mul]; exact k)
theorem r_ineg (hx : p.tables.exec = Jvm.exec) (hb : c.code = cc) {a : Int} (hdg : decode cc pc = .ok (.ineg, 1)) (k : W p l e R s m args below meth c H locs cells slots Q (F0 m (pc + 1) ls (.int (iI (-a)) :: rest))) : W p l e R s m args below meth c H locs cells slots Q (F0 m pc ls (.int (iI a) :: rest)) := lv_ineg hx hb hdg (by first | (rw [iI_neg]; exact k) | (rw [← iI_0, iI_sub, Int.zero_sub]; exact k))
theorem r_idiv (hx : p.tables.exec = Jvm.exec) (hb : c.code = cc) {a b : Int} (hdg : decode cc pc = .ok (.idiv, 1)) (h1 : 0 ≤ a ∧ a < 2147483648) (h2 : 0 < b ∧ b < 2147483648) (k : W p l e R s m args below meth c H locs cells slots Q (F0 m (pc + 1) ls (.int (iI (a / b)) :: rest))) : W p l e R s m args below meth c H locs cells slots Q (F0 m pc ls (.int (iI b) :: .int (iI a) :: rest)) := lv_idiv hx hb hdg (iI_ne0 h2.1 h2.2) (by rw [iI_div h1.1 h1.2 h2.1 h2.2]; exact k)
theorem r_irem (hx : p.tables.exec = Jvm.exec) (hb : c.code = cc) {a b : Int} (hdg : decode cc pc = .ok (.irem, 1)) (h1 : 0 ≤ a ∧ a < 2147483648) (h2 : 0 < b ∧ b < 2147483648) (k : W p l e R s m args below meth c H locs cells slots Q (F0 m (pc + 1) ls (.int (iI (a % b)) :: rest))) : W p l e R s m args below meth c H locs cells slots Q (F0 m pc ls (.int (iI b) :: .int (iI a) :: rest)) := lv_irem hx hb hdg (iI_ne0 h2.1 h2.2) (by rw [iI_rem h1.1 h1.2 h2.1 h2.2]; exact k)
theorem r_iand (hx : p.tables.exec = Jvm.exec) (hb : c.code = cc) {a b z : Int} (hdg : decode cc pc = .ok (.iand, 1)) (hz : iI a &&& iI b = iI z) (k : W p l e R s m args below meth c H locs cells slots Q (F0 m (pc + 1) ls (.int (iI z) :: rest))) : W p l e R s m args below meth c H locs cells slots Q (F0 m pc ls (.int (iI b) :: .int (iI a) :: rest)) := lv_iand hx hb hdg (by rw [hz]; exact k)
theorem r_ior (hx : p.tables.exec = Jvm.exec) (hb : c.code = cc) {a b z : Int} (hdg : decode cc pc = .ok (.ior, 1)) (hz : iI a ||| iI b = iI z) (k : W p l e R s m args below meth c H locs cells slots Q (F0 m (pc + 1) ls (.int (iI z) :: rest))) : W p l e R s m args below meth c H locs cells slots Q (F0 m pc ls (.int (iI b) :: .int (iI a) :: rest)) := lv_ior hx hb hdg (by rw [hz]; exact k)
theorem r_ishl (hx : p.tables.exec = Jvm.exec) (hb : c.code = cc) {a b z : Int} (hdg : decode cc pc = .ok (.ishl, 1)) (hz : iI a <<< (iI b &&& 31) = iI z) (k : W p l e R s m args below meth c H locs cells slots Q (F0 m (pc + 1) ls (.int (iI z) :: rest))) : W p l e R s m args below meth c H locs cells slots Q (F0 m pc ls (.int (iI b) :: .int (iI a) :: rest)) := lv_ishl hx hb hdg (by first | (rw [hz]; exact k) | exact (hz ▸ k))
theorem r_top {a : Int} (b : Int) (h : a = b) (k : W p l e R s m args below meth c H locs cells slots Q (F0 m pc ls (.int (iI b) :: rest))) : W p l e R s m args below meth c H locs cells slots Q (F0 m pc ls (.int (iI a) :: rest)) := by rw [h]; exact k
theorem r_icmp_eq (hx : p.tables.exec = Jvm.exec) (hb : c.code = cc) {a b off : Int} {tgt : Nat} (hdg : decode cc pc = .ok (.if_icmp .eq off, 3)) (ht : (pc : Int) + off = (tgt : Int)) (ha : rI a) (hb2 : rI b) (kt : a = b → W p l e R s m args below meth c H locs cells slots Q (F0 m tgt ls rest)) (kf : ¬ a = b → W p l e R s m args below meth c H locs cells slots Q (F0 m (pc + 3) ls rest)) : W p l e R s m args below meth c H locs cells slots Q (F0 m pc ls (.int (iI b) :: .int (iI a) :: rest)) := lv_icmp_eq hx hb hdg ht (fun h => kt ((iI_eq ha hb2).mp h)) (fun h => kf (fun h2 => h ((iI_eq ha hb2).mpr h2)))
theorem r_if_eq (hx : p.tables.exec = Jvm.exec) (hb : c.code = cc) {a off : Int} {tgt : Nat} (hdg : decode cc pc = .ok (.ifCond .eq off, 3)) (ht : (pc : Int) + off = (tgt : Int)) (ha : rI a) (kt : a = 0 → W p l e R s m args below meth c H locs cells slots Q (F0 m tgt ls rest)) (kf : ¬ a = 0 → W p l e R s m args below meth c H locs cells slots Q (F0 m (pc + 3) ls rest)) : W p l e R s m args below meth c H locs cells slots Q (F0 m pc ls (.int (iI a) :: rest)) := lv_if_eq hx hb hdg ht (fun h => kt ((iI_eq ha rI_0).mp h)) (fun h => kf (fun h2 => h ((iI_eq ha rI_0).mpr h2)))
theorem r_icmp_ne (hx : p.tables.exec = Jvm.exec) (hb : c.code = cc) {a b off : Int} {tgt : Nat} (hdg : decode cc pc = .ok (.if_icmp .ne off, 3)) (ht : (pc : Int) + off = (tgt : Int)) (ha : rI a) (hb2 : rI b) (kt : ¬ a = b → W p l e R s m args below meth c H locs cells slots Q (F0 m tgt ls rest)) (kf : a = b → W p l e R s m args below meth c H locs cells slots Q (F0 m (pc + 3) ls rest)) : W p l e R s m args below meth c H locs cells slots Q (F0 m pc ls (.int (iI b) :: .int (iI a) :: rest)) := lv_icmp_ne hx hb hdg ht (fun h => kt (fun h2 => h ((iI_eq ha hb2).mpr h2))) (fun h => kf ((iI_eq ha hb2).mp h))
theorem r_if_ne (hx : p.tables.exec = Jvm.exec) (hb : c.code = cc) {a off : Int} {tgt : Nat} (hdg : decode cc pc = .ok (.ifCond .ne off, 3)) (ht : (pc : Int) + off = (tgt : Int)) (ha : rI a) (kt : ¬ a = 0 → W p l e R s m args below meth c H locs cells slots Q (F0 m tgt ls rest)) (kf : a = 0 → W p l e R s m args below meth c H locs cells slots Q (F0 m (pc + 3) ls rest)) : W p l e R s m args below meth c H locs cells slots Q (F0 m pc ls (.int (iI a) :: rest)) := lv_if_ne hx hb hdg ht (fun h => kt (fun h2 => h ((iI_eq ha rI_0).mpr h2))) (fun h => kf ((iI_eq ha rI_0).mp h))
theorem r_icmp_lt (hx : p.tables.exec = Jvm.exec) (hb : c.code = cc) {a b off : Int} {tgt : Nat} (hdg : decode cc pc = .ok (.if_icmp .lt off, 3)) (ht : (pc : Int) + off = (tgt : Int)) (ha : rI a) (hb2 : rI b) (kt : a < b → W p l e R s m args below meth c H locs cells slots Q (F0 m tgt ls rest)) (kf : b ≤ a → W p l e R s m args below meth c H locs cells slots Q (F0 m (pc + 3) ls rest)) : W p l e R s m args below meth c H locs cells slots Q (F0 m pc ls (.int (iI b) :: .int (iI a) :: rest)) := lv_icmp_lt hx hb hdg ht (fun h => kt ((iI_lt ha hb2).mp h)) (fun h => kf (Int.not_lt.mp (fun h2 => h ((iI_lt ha hb2).mpr h2))))
theorem r_if_lt (hx : p.tables.exec = Jvm.exec) (hb : c.code = cc) {a off : Int} {tgt : Nat} (hdg : decode cc pc = .ok (.ifCond .lt off, 3)) (ht : (pc : Int) + off = (tgt : Int)) (ha : rI a) (kt : a < 0 → W p l e R s m args below meth c H locs cells slots Q (F0 m tgt ls rest)) (kf : 0 ≤ a → W p l e R s m args below meth c H locs cells slots Q (F0 m (pc + 3) ls rest)) : W p l e R s m args below meth c H locs cells slots Q (F0 m pc ls (.int (iI a) :: rest)) := lv_if_lt hx hb hdg ht (fun h => kt ((iI_lt ha rI_0).mp h)) (fun h => kf (Int.not_lt.mp (fun h2 => h ((iI_lt ha rI_0).mpr h2))))
theorem r_icmp_ge (hx : p.tables.exec = Jvm.exec) (hb : c.code = cc) {a b off : Int} {tgt : Nat} (hdg : decode cc pc = .ok (.if_icmp .ge off, 3)) (ht : (pc : Int) + off = (tgt : Int)) (ha : rI a) (hb2 : rI b) (kt : b ≤ a → W p l e R s m args below meth c H locs cells slots Q (F0 m tgt ls rest)) (kf : a < b → W p l e R s m args below meth c H locs cells slots Q (F0 m (pc + 3) ls rest)) : W p l e R s m args below meth c H locs cells slots Q (F0 m pc ls (.int (iI b) :: .int (iI a) :: rest)) := lv_icmp_ge hx hb hdg ht (fun h => kt ((iI_le hb2 ha).mp h)) (fun h => kf (Int.not_le.mp (fun h2 => h ((iI_le hb2 ha).mpr h2))))
theorem r_if_ge (hx : p.tables.exec = Jvm.exec) (hb : c.code = cc) {a off : Int} {tgt : Nat} (hdg : decode cc pc = .ok (.ifCond .ge off, 3)) (ht : (pc : Int) + off = (tgt : Int)) (ha : rI a) (kt : 0 ≤ a → W p l e R s m args below meth c H locs cells slots Q (F0 m tgt ls rest)) (kf : a < 0 → W p l e R s m args below meth c H locs cells slots Q (F0 m (pc + 3) ls rest)) : W p l e R s m args below meth c H locs cells slots Q (F0 m pc ls (.int (iI a) :: rest)) := lv_if_ge hx hb hdg ht (fun h => kt ((iI_le rI_0 ha).mp h)) (fun h => kf (Int.not_le.mp (fun h2 => h ((iI_le rI_0 ha).mpr h2))))
theorem r_icmp_gt (hx : p.tables.exec = Jvm.exec) (hb : c.code = cc) {a b off : Int} {tgt : Nat} (hdg : decode cc pc = .ok (.if_icmp .gt off, 3)) (ht : (pc : Int) + off = (tgt : Int)) (ha : rI a) (hb2 : rI b) (kt : b < a → W p l e R s m args below meth c H locs cells slots Q (F0 m tgt ls rest)) (kf : a ≤ b → W p l e R s m args below meth c H locs cells slots Q (F0 m (pc + 3) ls rest)) : W p l e R s m args below meth c H locs cells slots Q (F0 m pc ls (.int (iI b) :: .int (iI a) :: rest)) := lv_icmp_gt hx hb hdg ht (fun h => kt ((iI_lt hb2 ha).mp h)) (fun h => kf (Int.not_lt.mp (fun h2 => h ((iI_lt hb2 ha).mpr h2))))
theorem r_if_gt (hx : p.tables.exec = Jvm.exec) (hb : c.code = cc) {a off : Int} {tgt : Nat} (hdg : decode cc pc = .ok (.ifCond .gt off, 3)) (ht : (pc : Int) + off = (tgt : Int)) (ha : rI a) (kt : 0 < a → W p l e R s m args below meth c H locs cells slots Q (F0 m tgt ls rest)) (kf : a ≤ 0 → W p l e R s m args below meth c H locs cells slots Q (F0 m (pc + 3) ls rest)) : W p l e R s m args below meth c H locs cells slots Q (F0 m pc ls (.int (iI a) :: rest)) := lv_if_gt hx hb hdg ht (fun h => kt ((iI_lt rI_0 ha).mp h)) (fun h => kf (Int.not_lt.mp (fun h2 => h ((iI_lt rI_0 ha).mpr h2))))
theorem r_icmp_le (hx : p.tables.exec = Jvm.exec) (hb : c.code = cc) {a b off : Int} {tgt : Nat} (hdg : decode cc pc = .ok (.if_icmp .le off, 3)) (ht : (pc : Int) + off = (tgt : Int)) (ha : rI a) (hb2 : rI b) (kt : a ≤ b → W p l e R s m args below meth c H locs cells slots Q (F0 m tgt ls rest)) (kf : b < a → W p l e R s m args below meth c H locs cells slots Q (F0 m (pc + 3) ls rest)) : W p l e R s m args below meth c H locs cells slots Q (F0 m pc ls (.int (iI b) :: .int (iI a) :: rest)) := lv_icmp_le hx hb hdg ht (fun h => kt ((iI_le ha hb2).mp h)) (fun h => kf (Int.not_le.mp (fun h2 => h ((iI_le ha hb2).mpr h2))))
theorem r_if_le (hx : p.tables.exec = Jvm.exec) (hb : c.code = cc) {a off : Int} {tgt : Nat} (hdg : decode cc pc = .ok (.ifCond .le off, 3)) (ht : (pc : Int) + off = (tgt : Int)) (ha : rI a) (kt : a ≤ 0 → W p l e R s m args below meth c H locs cells slots Q (F0 m tgt ls rest)) (kf : 0 < a → W p l e R s m args below meth c H locs cells slots Q (F0 m (pc + 3) ls rest)) : W p l e R s m args below meth c H locs cells slots Q (F0 m pc ls (.int (iI a) :: rest)) := lv_if_le hx hb hdg ht (fun h => kt ((iI_le ha rI_0).mp h)) (fun h => kf (Int.not_le.mp (fun h2 => h ((iI_le ha rI_0).mpr h2))))
theorem r_iald (hx : p.tables.exec = Jvm.exec) (hb : c.code = cc) {a : Nat} (hK : va_K D vwCl [(cI, .int), (cL, .long)] s) (hP : va_P D vwCl ws H) (q0 : Nat) {n : Nat} {P : Int → Int} (ha : ws[q0]? = some (a, .inl (cI, n, .inl (aI P)))) {i : Int} (h0 : 0 ≤ i) (h1 : i < n) (hn : n ≤ 1000000) (hdg : decode cc pc = .ok (.iaload, 1)) (k : W p l e R s m args below meth c H locs cells slots Q (F0 m (pc + 1) ls (.int (iI (P i)) :: rest))) : W p l e R s m args below meth c H locs cells slots Q (F0 m pc ls (.int (iI i) :: .ref a :: rest)) := va_iald hx hb hK hP q0 0 ha rfl (aI_in h0 h1 hn) hdg (by rw [aI_at h0 h1 hn]; exact k)
theorem r_alen (hx : p.tables.exec = Jvm.exec) (hb : c.code = cc) {a : Nat} (hK : va_K D vwCl [(cI, .int), (cL, .long)] s) (hP : va_P D vwCl ws H) (q0 : Nat) {n : Nat} {P : Int → Int} (ha : ws[q0]? = some (a, .inl (cI, n, .inl (aI P)))) (hdg : decode cc pc = .ok (.arraylength, 1)) (k : W p l e R s m args below meth c H locs cells slots Q (F0 m (pc + 1) ls (.int (iI (n : Int)) :: rest))) : W p l e R s m args below meth c H locs cells slots Q (F0 m pc ls (.ref a :: rest)) := va_alen hx hb hK hP q0 0 ha rfl (v := iI (n : Int)) rfl hdg k
theorem r_iast (hx : p.tables.exec = Jvm.exec) (hb : c.code = cc) {a : Nat} (hK : va_K D vwCl [(cI, .int), (cL, .long)] s) (hP : va_P D vwCl ws H) (hD : va_D A ws) (hS : va_S A H0 H locs) (q0 : Nat) {n : Nat} {P : Int → Int} (ha : ws[q0]? = some (a, .inl (cI, n, .inl (aI P)))) {i v : Int} (h0 : 0 ≤ i) (h1 : i < n) (hn : n ≤ 1000000) {ws1 : va_W} (hws : ws.set q0 (a, .inl (cI, n, .inl (aI (uI P i v)))) = ws1) (hdg : decode cc pc = .ok (.iastore, 1)) (k : ∀ (H1 : Heap) (locs1 : List Loc), va_P D vwCl ws1 H1 → va_D A ws1 → va_S A H0 H1 locs1 → W p l e R s m args below meth c H1 locs1 cells slots Q (F0 m (pc + 1) ls rest)) : W p l e R s m args below meth c H locs cells slots Q (F0 m pc ls (.int (iI v) :: .int (iI i) :: .ref a :: rest)) := va_iast hx hb hK hP hD hS q0 0 ha rfl (aI_in h0 h1 hn) hdg (fun H1 locs1 h2 h3 h4 => k H1 locs1 (by rw [← hws, ← aI_upd h0 h1 hn]; exact h2) (by rw [← hws, ← aI_upd h0 h1 hn]; exact h3) h4)
theorem r_callV {y : MethodName} {ws2 ws3 : List Cond} {rm : Room} {As : List Value} {WSc : va_W} {post : Int → Prop} {b index maxL n nf nl : Nat} {C : String} {bytes : ByteArray} {ret : Option FieldType} (S : CallFix p m c cc nL s args Ts own) (hM : RO l y ws2 rm D cI cL tw (.ref b :: As) WSc post) (hG : GoodIn Ts (wsV own index C y ws2)) (hw : ws2 = Cond.code y bytes maxL ret :: ws3) (hrc : rm.cells = 0) (hrs : rm.slots = 0)
    (hd : y.cls = C ∧ y.cls ≠ "java/lang/invoke/MethodHandle" ∧ y.cls ≠ "java/lang/invoke/VarHandle" ∧ (parseMethodDescriptor y.desc).map (fun d => d.parameters.length) = some n) (hR : nf ≤ R.frames ∧ nl ≤ R.locals) (hf : rm.frames + 1 ≤ nf) (hlo : 8 + (maxL + 11) + rm.locals ≤ nl)
    (hE : EV D cI cL tw A s H) (hP : va_P D vwCl ws H) (is : List Nat) (hsub : is.filterMap (fun i => ws[i]?) = WSc) (q0 : Nat) {ci N : Nat} {T : u_T} {fs : List Value} (hrec : WSc[q0]? = some (b, .inr (ci, fs))) (hcl : vwCl[ci]? = some (C, T, N)) (hn : As.length = n) (hsz : ls.size = nL) (hst : st0 = As.reverse ++ .ref b :: rest) (hcat : (rest.map fun v => v.category).sum ≤ 8) (hdg : decode cc pc = .ok (.invokevirtual index, 3)) (hce : cells ≤ R.cells ∧ slots ≤ R.slots)
    (k : ∀ z : Int, post z → W p l e R s m args below meth c H locs cells slots Q (F0 m (pc + 3) ls (.int (iI z) :: rest))) : W p l e R s m args below meth c H locs cells slots Q (F0 m pc ls st0) := by
  subst hst
  have hPc := hP.sub is hsub
  refine vp_callSi (W.runV (As := As) (rest := rest) S hM (cwV n S.2.2.2.2 hG hw hrc hrs hd ⟨Nat.le_trans hf hR.1, Nat.le_trans hlo hR.2⟩) ⟨fun a U g mk q => ⟨q.1, q.2.1.same (u := U) rfl, q.2.2⟩, va_recv hE.1 hPc (ci := ci) (q0 := q0) hcl hrec, fun U hU hW => ⟨rfl, by rw [hU]; exact (hE.narrow (fun _ h => h.elim)).warm hW, by rw [hU]; exact hPc⟩⟩ rfl hn hsz rfl (lv_room hcat) hdg ⟨hce.1, hce.2⟩) (fun r hr => ?_)
  obtain ⟨z, rfl, hz⟩ := hr
  exact k z hz
theorem r_callS {y : MethodName} {ws2 ws3 : List Cond} {rm : Room} {As : List Value} {post : Int → Prop} {index maxL n nf nl : Nat} {bytes : ByteArray} {ret : Option FieldType} (S : CallFix p m c cc nL s args Ts own) (hM : RO l y ws2 rm D cI cL tw As [] post) (hG : GoodIn Ts (va_wsS own index y ws2)) (hw : ws2 = Cond.code y bytes maxL ret :: ws3) (hrc : rm.cells = 0) (hrs : rm.slots = 0)
    (hd : y.cls ≠ "java/lang/invoke/MethodHandle" ∧ y.cls ≠ "java/lang/invoke/VarHandle" ∧ (parseMethodDescriptor y.desc).map (fun d => d.parameters.length) = some n) (hR : nf ≤ R.frames ∧ nl ≤ R.locals) (hf : rm.frames + 1 ≤ nf) (hlo : 8 + (maxL + 11) + rm.locals ≤ nl)
    (hE : EV D cI cL tw A s H) (hn : As.length = n) (hsz : ls.size = nL) (hst : st0 = As.reverse ++ rest) (hcat : (rest.map fun v => v.category).sum ≤ 8) (hdg : decode cc pc = .ok (.invokestatic index, 3)) (hce : cells ≤ R.cells ∧ slots ≤ R.slots)
    (k : ∀ z : Int, post z → W p l e R s m args below meth c H locs cells slots Q (F0 m (pc + 3) ls (.int (iI z) :: rest))) : W p l e R s m args below meth c H locs cells slots Q (F0 m pc ls st0) := by
  subst hst
  refine vp_callSi (W.runS (As := As) (rest := rest) S hM (va_cwS n S.2.2.2.2 hG hw hrc hrs hd ⟨Nat.le_trans hf hR.1, Nat.le_trans hlo hR.2⟩) ⟨fun a U g mk q => ⟨q.1, q.2.1.same (u := U) rfl, q.2.2⟩, fun U hU hW => ⟨rfl, by rw [hU]; exact (hE.narrow (fun _ h => h.elim)).warm hW, fun k q hk => by simp at hk⟩⟩ rfl hn hsz rfl (lv_room hcat) hdg ⟨hce.1, hce.2⟩) (fun r hr => ?_)
  obtain ⟨z, rfl, hz⟩ := hr
  exact k z hz
theorem r_callN {y : MethodName} {host : String} {ws2 ws3 : List Cond} {rm : Room} {As : List Value} {post : Int → Prop} {index maxL n nf nl : Nat} {bytes : ByteArray} {ret : Option FieldType} (S : CallFix p m c cc nL s args Ts own) (hM : RO l y ws2 rm D cI cL tw As [] post) (hG : GoodIn Ts ws2) (hw : ws2 = Cond.code y bytes maxL ret :: ws3) (hrc : rm.cells = 0) (hrs : rm.slots = 0)
    (hd : y.cls ≠ "java/lang/invoke/MethodHandle" ∧ y.cls ≠ "java/lang/invoke/VarHandle" ∧ (parseMethodDescriptor y.desc).map (fun d => d.parameters.length) = some n) (hR : nf ≤ R.frames ∧ nl ≤ R.locals) (hf : rm.frames + 1 ≤ nf) (hlo : 8 + (maxL + 11) + rm.locals ≤ nl)
    (hE : EV D cI cL tw A s H) (hnl : Cond.methodLinkNest own index y host ∈ nestL) (hini : Cond.initialized y.cls ∈ Ts) (hsta : Cond.static y ∈ Ts) (hn : As.length = n) (hsz : ls.size = nL) (hst : st0 = As.reverse ++ rest) (hcat : (rest.map fun v => v.category).sum ≤ 8) (hdg : decode cc pc = .ok (.invokestatic index, 3)) (hce : cells ≤ R.cells ∧ slots ≤ R.slots)
    (k : ∀ z : Int, post z → W p l e R s m args below meth c H locs cells slots Q (F0 m (pc + 3) ls (.int (iI z) :: rest))) : W p l e R s m args below meth c H locs cells slots Q (F0 m pc ls st0) := by
  subst hst
  refine vp_callSi (va_runSN (As := As) (rest := rest) S hM ⟨va_cnB n S.2.2.2.2 hG hw hrc hrs (hE.2.1 _ hnl) (S.2.2.2.2 _ hini) hd ⟨Nat.le_trans hf hR.1, Nat.le_trans hlo hR.2⟩, S.2.2.2.2 _ hsta, trivial⟩ ⟨fun a U g mk q => ⟨q.1, q.2.1.same (u := U) rfl, q.2.2⟩, fun U hU hW => ⟨rfl, by rw [hU]; exact (hE.narrow (fun _ h => h.elim)).warm hW, fun k q hk => by simp at hk⟩⟩ rfl hn hsz rfl (lv_room hcat) hdg ⟨hce.1, hce.2⟩).run (fun r hr => ?_)
  obtain ⟨z, rfl, hz⟩ := hr
  exact k z hz
theorem r_mmin {a b : Int} {index nf nl : Nat} (S : CallFix p m c cc nL s args Ts own) (hR : nf ≤ R.frames ∧ nl ≤ R.locals) (hf : 1 ≤ nf) (hlo : 30 ≤ nl) (h1 : (Cond.methodLink own index Lib.Math.min.name).before args s = true) (h2 : (Cond.static Lib.Math.min.name).before args s = true) (h3 : (Cond.initialized "java/lang/Math").before args s = true) (h4 : (Cond.code Lib.Math.min.name Lib.Math.min.code 2 (some .int)).before args s = true) (hce : cells ≤ R.cells ∧ slots ≤ R.slots) (hsz : ls.size = nL) (hcat : (rest.map fun v => v.category).sum ≤ 8) (ha : rI a) (hb2 : rI b) (hdg : decode cc pc = .ok (.invokestatic index, 3))
    (k : ∀ z : Int, (z ≤ a ∧ z ≤ b ∧ (z = a ∨ z = b)) → W p l e R s m args below meth c H locs cells slots Q (F0 m (pc + 3) ls (.int (iI z) :: rest))) : W p l e R s m args below meth c H locs cells slots Q (F0 m pc ls (.int (iI b) :: .int (iI a) :: rest)) := by
  refine va_mmin S.1 S.2.1 (by rw [S.2.2.1, hsz]) S.2.2.2.1 h1 h2 h3 h4 (Nat.le_trans hf hR.1) (Nat.le_trans (by omega) hR.2) hce.1 hce.2 hdg ?_
  by_cases h : iI b < iI a
  · rw [if_pos h]; have h9 := (iI_lt hb2 ha).mp h; exact k b (by omega)
  · rw [if_neg h]; have h9 : ¬ _ := fun q => h ((iI_lt hb2 ha).mpr q); exact k a (by omega)
theorem r_mmax {a b : Int} {index nf nl : Nat} (S : CallFix p m c cc nL s args Ts own) (hR : nf ≤ R.frames ∧ nl ≤ R.locals) (hf : 1 ≤ nf) (hlo : 30 ≤ nl) (h1 : (Cond.methodLink own index Lib.Math.max.name).before args s = true) (h2 : (Cond.static Lib.Math.max.name).before args s = true) (h3 : (Cond.initialized "java/lang/Math").before args s = true) (h4 : (Cond.code Lib.Math.max.name Lib.Math.max.code 2 (some .int)).before args s = true) (hce : cells ≤ R.cells ∧ slots ≤ R.slots) (hsz : ls.size = nL) (hcat : (rest.map fun v => v.category).sum ≤ 8) (ha : rI a) (hb2 : rI b) (hdg : decode cc pc = .ok (.invokestatic index, 3))
    (k : ∀ z : Int, (a ≤ z ∧ b ≤ z ∧ (z = a ∨ z = b)) → W p l e R s m args below meth c H locs cells slots Q (F0 m (pc + 3) ls (.int (iI z) :: rest))) : W p l e R s m args below meth c H locs cells slots Q (F0 m pc ls (.int (iI b) :: .int (iI a) :: rest)) := by
  refine va_mmax S.1 S.2.1 (by rw [S.2.2.1, hsz]) S.2.2.2.1 h1 h2 h3 h4 (Nat.le_trans hf hR.1) (Nat.le_trans (by omega) hR.2) hce.1 hce.2 hdg ?_
  by_cases h : iI a < iI b
  · rw [if_pos h]; have h9 := (iI_lt ha hb2).mp h; exact k b (by omega)
  · rw [if_neg h]; have h9 : ¬ _ := fun q => h ((iI_lt ha hb2).mpr q); exact k a (by omega)
theorem r_tsIn (hx : p.tables.exec = Jvm.exec) (hb : c.code = cc) {dflt lo hi w off : Int} {offs : Array Int} {len tgt : Nat} (hdg : decode cc pc = .ok (.tableswitch dflt lo hi offs, len)) (hw : rI w) (h1 : lo ≤ w) (h2 : w ≤ hi) (ho : offs[(w - lo).toNat]? = some off) (ht : (pc : Int) + off = (tgt : Int)) (k : W p l e R s m args below meth c H locs cells slots Q (F0 m tgt ls rest)) : W p l e R s m args below meth c H locs cells slots Q (F0 m pc ls (.int (iI w) :: rest)) := lv_tableIn hx hb hdg (by rw [iI_toInt hw]; omega) (by rw [iI_toInt hw]; omega) (by rw [iI_toInt hw]; exact ho) ht k
theorem r_tsOut (hx : p.tables.exec = Jvm.exec) (hb : c.code = cc) {dflt lo hi w : Int} {offs : Array Int} {len tgt : Nat} (hdg : decode cc pc = .ok (.tableswitch dflt lo hi offs, len)) (hw : rI w) (h : w < lo ∨ hi < w) (ht : (pc : Int) + dflt = (tgt : Int)) (k : W p l e R s m args below meth c H locs cells slots Q (F0 m tgt ls rest)) : W p l e R s m args below meth c H locs cells slots Q (F0 m pc ls (.int (iI w) :: rest)) := lv_tableOut hx hb hdg (by rw [iI_toInt hw]; exact h) ht k
end RWS
/-- a reading method, from its body -/
theorem ro_of {l : Launch} {y : MethodName} {ws ws' : List Cond} {rm : Room} {D : va_G} {cI cL : ClassId} {tw : Nat} {av : List Value} {WS : va_W} {post : Int → Prop} {cc : ByteArray} {maxL : Nat} {rt : FieldType} {own : String}
    (hy : plainName y.cls = true) (hw : ws = Cond.code y cc maxL (some rt) :: ws') (hown : y.cls = own) (hrt : rt = .int ∨ (rt = .boolean ∧ ∀ z, post z → z = 0 ∨ z = 1)) (hlen : (lg_sl av).length ≤ maxL)
    (body : ∀ (p : Program) (e : Env) (R : Room) (s : State) (m : MethodId) (args : Array Value) (below : List Frame) (meth : Method) (c : Code) (H : Heap) (Q : State → Prop) (ls : Array Slot), CallFix p m c cc maxL s args ws own → rm.frames ≤ R.frames ∧ rm.locals ≤ R.locals → EV D cI cL tw FF s H → va_P D vwCl WS H → lv_has ls maxL (lv_args 0 av) →
      (∀ (z : Int) (pc : Nat) (ls : Array Slot), decode cc pc = .ok (.ireturn, 1) → post z → W p l e R s m args below meth c H [] 0 0 Q (F0 m pc ls [.int (iI z)])) → W p l e R s m args below meth c H [] 0 0 Q (F0 m 0 ls [])) : RO l y ws rm D cI cL tw av WS post := by
  refine Met.ofW (cc := cc) (maxL := maxL) (ret := some rt) hy hw ?_
  intro p e s m args below meth c s₁ B hml hv
  obtain ⟨rfl, hE, hP⟩ := hv
  have hts := atoms_spec (ws := ws) B.pre
  have hown1 : s.vm.findClass own = some m.cls := by rw [← hown]; exact findClass_of_methodNamed B.named
  have hl := lv_entry av hlen
  rw [lg_entry_eq]
  refine body p e (headSpec ws rm).room s m _ below meth c s.heap _ _ ⟨B.exec, B.bytes, hml, hown1, hts⟩ ⟨Nat.le_refl _, Nat.le_refl _⟩ hE hP hl ?_
  intro z pc ls hdg hz
  rcases hrt with rfl | ⟨rfl, h01⟩
  · exact W.iret B.exec B.bytes B.returns (fun t ht hW => ⟨iI z, rfl, ⟨z, rfl, hz⟩, ht⟩) (fun _ h => by cases h) hdg B.notSynchronized
  · refine W.zret (ty := .boolean) B.exec B.bytes B.returns ?_ (fun t ht hW => ⟨iI z, rfl, ⟨z, rfl, hz⟩, ht⟩) (fun _ h => by cases h) hdg B.notSynchronized
    rcases h01 z hz with rfl | rfl <;> rfl

/-- a method that writes its world and answers a number -/
def RWi {S : Type} (l : Launch) (y : MethodName) (ws : List Cond) (rm : Room) (D : va_G) (cI cL : ClassId) (tw : Nat) (av : List Value) (WS : va_W) (post : Int → S → Prop) (W2 : S → va_W) : Prop :=
  ∀ sz : Nat, Met l y ws rm (va_Pc av (fun U => U.heap.size = sz ∧ EV D cI cL tw (va_A WS sz) U U.heap ∧ va_P D vwCl WS U.heap ∧ va_D (fun _ => True) WS)) (va_Qi (fun (r : Int32) (u : Int × S) => r = iI u.1 ∧ post u.1 u.2) (fun u t => va_P D vwCl (W2 u.2) t.heap ∧ va_D (va_A WS sz) (W2 u.2)) (va_A WS sz)) 0 0 (va_A WS sz)
/-- .. and answers nothing -/
def RWv {S : Type} (l : Launch) (y : MethodName) (ws : List Cond) (rm : Room) (D : va_G) (cI cL : ClassId) (tw : Nat) (av : List Value) (WS : va_W) (post : S → Prop) (W2 : S → va_W) : Prop :=
  ∀ sz : Nat, Met l y ws rm (va_Pc av (fun U => U.heap.size = sz ∧ EV D cI cL tw (va_A WS sz) U U.heap ∧ va_P D vwCl WS U.heap ∧ va_D (fun _ => True) WS)) (va_Qv (fun (u : S) => post u) (fun u t => va_P D vwCl (W2 u) t.heap ∧ va_D (va_A WS sz) (W2 u)) (va_A WS sz)) 0 0 (va_A WS sz)
theorem rwi_of {S : Type} {l : Launch} {y : MethodName} {ws ws' : List Cond} {rm : Room} {D : va_G} {cI cL : ClassId} {tw : Nat} {av : List Value} {WS : va_W} {post : Int → S → Prop} {W2 : S → va_W} {cc : ByteArray} {maxL : Nat} {rt : FieldType} {own : String}
    (hy : plainName y.cls = true) (hw : ws = Cond.code y cc maxL (some rt) :: ws') (hown : y.cls = own) (hrt : rt = .int ∨ (rt = .boolean ∧ ∀ z u, post z u → z = 0 ∨ z = 1)) (hlen : (lg_sl av).length ≤ maxL)
    (body : ∀ (p : Program) (e : Env) (R : Room) (s : State) (m : MethodId) (args : Array Value) (below : List Frame) (meth : Method) (c : Code) (H0 : Heap) (Q : State → Prop) (ls : Array Slot) (A : Nat → Prop), CallFix p m c cc maxL s args ws own → rm.frames ≤ R.frames ∧ rm.locals ≤ R.locals → EV D cI cL tw A s H0 → va_P D vwCl WS H0 → va_D A WS → va_S A H0 H0 [] → (∀ q : Nat, H0.size ≤ q → A q) → lv_has ls maxL (lv_args 0 av) →
      (∀ (z : Int) (u : S) (pc : Nat) (ls : Array Slot) (H : Heap) (locs : List Loc), decode cc pc = .ok (.ireturn, 1) → post z u → va_P D vwCl (W2 u) H → va_D A (W2 u) → va_S A H0 H locs → W p l e R s m args below meth c H locs 0 0 Q (F0 m pc ls [.int (iI z)])) → W p l e R s m args below meth c H0 [] 0 0 Q (F0 m 0 ls [])) : RWi l y ws rm D cI cL tw av WS post W2 := by
  intro sz
  refine Met.ofW (cc := cc) (maxL := maxL) (ret := some rt) hy hw ?_
  intro p e s m args below meth c s₁ B hml hv
  obtain ⟨rfl, hsz, hE, hP, hD0⟩ := hv
  subst hsz
  have hts := atoms_spec (ws := ws) B.pre
  have hown1 : s.vm.findClass own = some m.cls := by rw [← hown]; exact findClass_of_methodNamed B.named
  have hl := lv_entry av hlen
  have hD := hD0.self (sz := s.heap.size)
  rw [lg_entry_eq]
  generalize hAe : va_A WS s.heap.size = A at hE hD ⊢
  have hA : ∀ q : Nat, s.heap.size ≤ q → A q := fun q h => by rw [← hAe]; exact Or.inr h
  refine body p e (headSpec ws rm).room s m _ below meth c s.heap _ _ A ⟨B.exec, B.bytes, hml, hown1, hts⟩ ⟨Nat.le_refl _, Nat.le_refl _⟩ hE hP hD va_S.rf hA hl ?_
  intro z u pc ls H locs hdg hz hP1 hD1 hS1
  rcases hrt with rfl | ⟨rfl, h01⟩
  · exact W.iret B.exec B.bytes B.returns (fun t ht hW => ⟨⟨iI z, (z, u), rfl, ⟨rfl, hz⟩, by rw [ht]; exact hP1, hD1⟩, hS1.F ht⟩) hS1.2.2 hdg B.notSynchronized
  · refine W.zret (ty := .boolean) B.exec B.bytes B.returns ?_ (fun t ht hW => ⟨⟨iI z, (z, u), rfl, ⟨rfl, hz⟩, by rw [ht]; exact hP1, hD1⟩, hS1.F ht⟩) hS1.2.2 hdg B.notSynchronized
    rcases h01 z u hz with rfl | rfl <;> rfl
theorem rwv_of {S : Type} {l : Launch} {y : MethodName} {ws ws' : List Cond} {rm : Room} {D : va_G} {cI cL : ClassId} {tw : Nat} {av : List Value} {WS : va_W} {post : S → Prop} {W2 : S → va_W} {cc : ByteArray} {maxL : Nat} {own : String}
    (hy : plainName y.cls = true) (hw : ws = Cond.code y cc maxL none :: ws') (hown : y.cls = own) (hlen : (lg_sl av).length ≤ maxL)
    (body : ∀ (p : Program) (e : Env) (R : Room) (s : State) (m : MethodId) (args : Array Value) (below : List Frame) (meth : Method) (c : Code) (H0 : Heap) (Q : State → Prop) (ls : Array Slot) (A : Nat → Prop), CallFix p m c cc maxL s args ws own → rm.frames ≤ R.frames ∧ rm.locals ≤ R.locals → EV D cI cL tw A s H0 → va_P D vwCl WS H0 → va_D A WS → va_S A H0 H0 [] → (∀ q : Nat, H0.size ≤ q → A q) → lv_has ls maxL (lv_args 0 av) →
      (∀ (u : S) (pc : Nat) (ls : Array Slot) (H : Heap) (locs : List Loc), decode cc pc = .ok (.return_, 1) → post u → va_P D vwCl (W2 u) H → va_D A (W2 u) → va_S A H0 H locs → W p l e R s m args below meth c H locs 0 0 Q (F0 m pc ls [])) → W p l e R s m args below meth c H0 [] 0 0 Q (F0 m 0 ls [])) : RWv l y ws rm D cI cL tw av WS post W2 := by
  intro sz
  refine Met.ofW (cc := cc) (maxL := maxL) (ret := none) hy hw ?_
  intro p e s m args below meth c s₁ B hml hv
  obtain ⟨rfl, hsz, hE, hP, hD0⟩ := hv
  subst hsz
  have hts := atoms_spec (ws := ws) B.pre
  have hown1 : s.vm.findClass own = some m.cls := by rw [← hown]; exact findClass_of_methodNamed B.named
  have hl := lv_entry av hlen
  have hD := hD0.self (sz := s.heap.size)
  rw [lg_entry_eq]
  generalize hAe : va_A WS s.heap.size = A at hE hD ⊢
  have hA : ∀ q : Nat, s.heap.size ≤ q → A q := fun q h => by rw [← hAe]; exact Or.inr h
  refine body p e (headSpec ws rm).room s m _ below meth c s.heap _ _ A ⟨B.exec, B.bytes, hml, hown1, hts⟩ ⟨Nat.le_refl _, Nat.le_refl _⟩ hE hP hD va_S.rf hA hl ?_
  intro u pc ls H locs hdg hz hP1 hD1 hS1
  exact W.vret B.exec B.bytes B.returns (fun t ht hW => ⟨⟨u, rfl, hz, by rw [ht]; exact hP1, hD1⟩, hS1.F ht⟩) hS1.2.2 hdg B.notSynchronized

section RWC
variable {p : Program} {l : Launch} {e : Env} {R : Room} {s : State} {m : MethodId} {args : Array Value} {below : List Frame} {meth : Method} {c : Code} {H : Heap} {locs : List Loc} {cells slots : Nat} {Q : State → Prop}
variable {cc : ByteArray} {pc : Nat} {ls : Array Slot} {rest st0 : List Value} {D : va_G} {cI cL : ClassId} {tw : Nat} {A : Nat → Prop} {ws : va_W} {H0 : Heap} {nL : Nat} {Ts : List Cond} {own : String}
theorem r_callVi {S : Type} {y : MethodName} {ws2 ws3 : List Cond} {rm : Room} {As : List Value} {WSc wr : va_W} {post : Int → S → Prop} {W2 : S → va_W} {b index maxL n nf nl : Nat} {C : String} {bytes : ByteArray} {ret : Option FieldType} (S9 : CallFix p m c cc nL s args Ts own) (hM : RWi l y ws2 rm D cI cL tw (.ref b :: As) WSc post W2) (hG : GoodIn Ts (wsV own index C y ws2)) (hw : ws2 = Cond.code y bytes maxL ret :: ws3) (hrc : rm.cells = 0) (hrs : rm.slots = 0)
    (hd : y.cls = C ∧ y.cls ≠ "java/lang/invoke/MethodHandle" ∧ y.cls ≠ "java/lang/invoke/VarHandle" ∧ (parseMethodDescriptor y.desc).map (fun d => d.parameters.length) = some n) (hR : nf ≤ R.frames ∧ nl ≤ R.locals) (hf : rm.frames + 1 ≤ nf) (hlo : 8 + (maxL + 11) + rm.locals ≤ nl)
    (hE : EV D cI cL tw A s H) (hP : va_P D vwCl ws H) (hD : va_D A ws) (hS : va_S A H0 H locs) (hA : ∀ q : Nat, H0.size ≤ q → A q) (is isR : List Nat) (hC : is.map (fun i => ws[i]?) = WSc.map some) (hCf : is.filterMap (fun i => ws[i]?) = WSc) (hnd : va_nd is = true) (hRr : isR.map (fun i => ws[i]?) = wr.map some) (hn2 : va_nd isR = true) (hdis : ∀ i ∈ isR, i ∉ is) (q0 : Nat) {ci N : Nat} {T : u_T} {fs : List Value} (hrec : WSc[q0]? = some (b, .inr (ci, fs))) (hcl : vwCl[ci]? = some (C, T, N)) (hn : As.length = n) (hsz : ls.size = nL) (hst : st0 = As.reverse ++ .ref b :: rest) (hcat : (rest.map fun v => v.category).sum ≤ 8) (hdg : decode cc pc = .ok (.invokevirtual index, 3)) (hce : cells ≤ R.cells ∧ slots ≤ R.slots)
    (k : ∀ (z : Int) (u : S) (H1 : Heap) (locs1 : List Loc), post z u → va_P D vwCl (wr ++ W2 u) H1 → va_D A (wr ++ W2 u) → va_S A H0 H1 locs1 → W p l e R s m args below meth c H1 locs1 cells slots Q (F0 m (pc + 3) ls (.int (iI z) :: rest))) : W p l e R s m args below meth c H locs cells slots Q (F0 m pc ls st0) := by
  subst hst
  have hPc := hP.sub is hCf
  have hDc := hD.sub is hnd hC
  have hFc := va_free (wc := WSc) hD hS hA is hC
  refine va_calli (va_runV (As := As) (rest := rest) S9 (hM H.size) (cwV n S9.2.2.2.2 hG hw hrc hrs hd ⟨Nat.le_trans hf hR.1, Nat.le_trans hlo hR.2⟩) ⟨fun a U g mk q => ⟨q.1, q.2.1, q.2.2.1.same (u := U) rfl, q.2.2.2.1, q.2.2.2.2⟩, va_recv hE.1 hPc (ci := ci) (q0 := q0) hcl hrec, fun U hU hW => ⟨rfl, by rw [hU], by rw [hU]; exact (hE.narrow hFc).warm hW, by rw [hU]; exact hPc, hDc.weaken (fun _ _ _ _ => trivial)⟩⟩ rfl hn hsz rfl (lv_room hcat) hdg ⟨hce.1, hce.2⟩) hS (fun q _ h => hFc q h) hFc (fun r u t H1 locs1 ht hvm hw2 hB hz1 hk1 hS2 => ?_)
  obtain ⟨z, u⟩ := u
  obtain ⟨hr, hz⟩ := hw2
  obtain ⟨hP1, hD1⟩ := hB
  dsimp only at hr hz hP1 hD1
  subst hr
  rw [ht] at hP1
  obtain ⟨hP2, hD2⟩ := va_join hP hD is isR hC hRr hn2 hdis hk1 hFc hP1 hD1
  exact k z u H1 locs1 hz hP2 hD2 hS2
theorem r_callVv {S : Type} {y : MethodName} {ws2 ws3 : List Cond} {rm : Room} {As : List Value} {WSc wr : va_W} {post : S → Prop} {W2 : S → va_W} {b index maxL n nf nl : Nat} {C : String} {bytes : ByteArray} {ret : Option FieldType} (S9 : CallFix p m c cc nL s args Ts own) (hM : RWv l y ws2 rm D cI cL tw (.ref b :: As) WSc post W2) (hG : GoodIn Ts (wsV own index C y ws2)) (hw : ws2 = Cond.code y bytes maxL ret :: ws3) (hrc : rm.cells = 0) (hrs : rm.slots = 0)
    (hd : y.cls = C ∧ y.cls ≠ "java/lang/invoke/MethodHandle" ∧ y.cls ≠ "java/lang/invoke/VarHandle" ∧ (parseMethodDescriptor y.desc).map (fun d => d.parameters.length) = some n) (hR : nf ≤ R.frames ∧ nl ≤ R.locals) (hf : rm.frames + 1 ≤ nf) (hlo : 8 + (maxL + 11) + rm.locals ≤ nl)
    (hE : EV D cI cL tw A s H) (hP : va_P D vwCl ws H) (hD : va_D A ws) (hS : va_S A H0 H locs) (hA : ∀ q : Nat, H0.size ≤ q → A q) (is isR : List Nat) (hC : is.map (fun i => ws[i]?) = WSc.map some) (hCf : is.filterMap (fun i => ws[i]?) = WSc) (hnd : va_nd is = true) (hRr : isR.map (fun i => ws[i]?) = wr.map some) (hn2 : va_nd isR = true) (hdis : ∀ i ∈ isR, i ∉ is) (q0 : Nat) {ci N : Nat} {T : u_T} {fs : List Value} (hrec : WSc[q0]? = some (b, .inr (ci, fs))) (hcl : vwCl[ci]? = some (C, T, N)) (hn : As.length = n) (hsz : ls.size = nL) (hst : st0 = As.reverse ++ .ref b :: rest) (hcat : (rest.map fun v => v.category).sum ≤ 8) (hdg : decode cc pc = .ok (.invokevirtual index, 3)) (hce : cells ≤ R.cells ∧ slots ≤ R.slots)
    (k : ∀ (u : S) (H1 : Heap) (locs1 : List Loc), post u → va_P D vwCl (wr ++ W2 u) H1 → va_D A (wr ++ W2 u) → va_S A H0 H1 locs1 → W p l e R s m args below meth c H1 locs1 cells slots Q (F0 m (pc + 3) ls rest)) : W p l e R s m args below meth c H locs cells slots Q (F0 m pc ls st0) := by
  subst hst
  have hPc := hP.sub is hCf
  have hDc := hD.sub is hnd hC
  have hFc := va_free (wc := WSc) hD hS hA is hC
  refine va_callv (va_runV (As := As) (rest := rest) S9 (hM H.size) (cwV n S9.2.2.2.2 hG hw hrc hrs hd ⟨Nat.le_trans hf hR.1, Nat.le_trans hlo hR.2⟩) ⟨fun a U g mk q => ⟨q.1, q.2.1, q.2.2.1.same (u := U) rfl, q.2.2.2.1, q.2.2.2.2⟩, va_recv hE.1 hPc (ci := ci) (q0 := q0) hcl hrec, fun U hU hW => ⟨rfl, by rw [hU], by rw [hU]; exact (hE.narrow hFc).warm hW, by rw [hU]; exact hPc, hDc.weaken (fun _ _ _ _ => trivial)⟩⟩ rfl hn hsz rfl (lv_room hcat) hdg ⟨hce.1, hce.2⟩) hS (fun q _ h => hFc q h) hFc (fun u t H1 locs1 ht hvm hw2 hB hz1 hk1 hS2 => ?_)
  obtain ⟨hP1, hD1⟩ := hB
  have hz := hw2
  rw [ht] at hP1
  obtain ⟨hP2, hD2⟩ := va_join hP hD is isR hC hRr hn2 hdis hk1 hFc hP1 hD1
  exact k u H1 locs1 hz hP2 hD2 hS2
end RWC
end
section
/-! the game in numbers: positions P by 4 * player + piece -/
def sm (f : Int → Int) : Nat → Int
  | 0 => 0
  | n + 1 => sm f n + f n
def sZ (f : Int → Int) (k : Int) : Int := sm f k.toNat
theorem sZ_0 (f : Int → Int) : sZ f 0 = 0 := rfl
theorem sZ_s (f : Int → Int) {k : Int} (h : 0 ≤ k) : sZ f (k + 1) = sZ f k + f k := by
  unfold sZ
  rw [show (k + 1).toNat = k.toNat + 1 by omega]
  show sm f k.toNat + f (k.toNat : Int) = _
  rw [Int.toNat_of_nonneg h]
theorem sZ_cong {f g : Int → Int} {n : Int} (h : ∀ k, 0 ≤ k → k < n → f k = g k) : sZ f n = sZ g n := by
  unfold sZ
  have key : ∀ m : Nat, (m : Int) ≤ n → sm f m = sm g m := by
    intro m
    induction m with
    | zero => intro _; rfl
    | succ m ih => intro hm; show sm f m + f m = sm g m + g m; rw [ih (by omega), h m (by omega) (by omega)]
  by_cases hn : 0 ≤ n
  · exact key _ (by omega)
  · rw [show n.toNat = 0 by omega]; rfl
theorem sZ_rng {f : Int → Int} {b n : Int} (hn : 0 ≤ n) (h : ∀ k, 0 ≤ k → k < n → 0 ≤ f k ∧ f k ≤ b) : 0 ≤ sZ f n ∧ sZ f n ≤ n * b := by
  have key : ∀ m : Nat, (m : Int) ≤ n → 0 ≤ sm f m ∧ sm f m ≤ (m : Int) * b := by
    intro m
    induction m with
    | zero => intro _; simp [sm]
    | succ m ih =>
      intro hm
      have h1 := ih (by omega)
      have h2 := h m (by omega) (by omega)
      show 0 ≤ sm f m + f m ∧ sm f m + f m ≤ ((m + 1 : Nat) : Int) * b
      rw [show ((m + 1 : Nat) : Int) = (m : Int) + 1 by omega, Int.add_mul, Int.one_mul]
      omega
  have := key n.toNat (by omega)
  rw [Int.toNat_of_nonneg hn] at this
  exact this
theorem sZ_4 (f : Int → Int) : sZ f 4 = f 0 + f 1 + f 2 + f 3 := by
  show (((0 + f 0) + f 1) + f 2) + f 3 = _
  rw [Int.zero_add]
theorem sZ_7 (f : Int → Int) : sZ f 7 = f 0 + f 1 + f 2 + f 3 + f 4 + f 5 + f 6 := by
  show ((((((0 + f 0) + f 1) + f 2) + f 3) + f 4) + f 5) + f 6 = _
  rw [Int.zero_add]
/-- a choice by any statement -/
noncomputable def iC (C : Prop) (a b : Int) : Int := @ite Int C (Classical.propDecidable C) a b
theorem iC_t {C : Prop} {a b : Int} (h : C) : iC C a b = a := by unfold iC; exact if_pos h
theorem iC_f {C : Prop} {a b : Int} (h : ¬ C) : iC C a b = b := by unfold iC; exact if_neg h
theorem iC_or (C : Prop) (a b : Int) : (C ∧ iC C a b = a) ∨ (¬ C ∧ iC C a b = b) := by
  by_cases h : C
  · exact Or.inl ⟨h, iC_t h⟩
  · exact Or.inr ⟨h, iC_f h⟩
def sq (a p : Int) : Int := (17 * a + 3 + p) % 68
theorem sq_rng (a p : Int) : 0 ≤ sq a p ∧ sq a p < 68 := by unfold sq; omega
def wo (m : Int) : Int := if m = 0 then 25 else if m = 1 then 10 else m
theorem wo_rng {m : Int} (h : 0 ≤ m ∧ m ≤ 6) : 2 ≤ wo m ∧ wo m ≤ 25 := by unfold wo; split <;> (try split) <;> omega
def onN (P : Int → Int) (q t k : Int) : Int := if 1 ≤ P k ∧ P k ≤ 64 ∧ k / 4 % 2 = t ∧ sq (k / 4) (P k) = q then 1 else 0
def stand (P : Int → Int) (q t : Int) : Int := sZ (onN P q t) 16
theorem onN_rng (P : Int → Int) (q t k : Int) : 0 ≤ onN P q t k ∧ onN P q t k ≤ 1 := by unfold onN; split <;> omega
theorem stand_rng (P : Int → Int) (q t : Int) : 0 ≤ stand P q t ∧ stand P q t ≤ 16 := by
  have := sZ_rng (f := onN P q t) (b := 1) (n := 16) (by omega) (fun k _ _ => onN_rng P q t k)
  unfold stand; omega
def hmN (P : Int → Int) (a j : Int) : Int := if P (4 * a + j) = 72 then 1 else 0
def hm (P : Int → Int) (a : Int) : Int := sZ (hmN P a) 4
theorem hmN_rng (P : Int → Int) (a j : Int) : 0 ≤ hmN P a j ∧ hmN P a j ≤ 1 := by unfold hmN; split <;> omega
theorem hm_rng (P : Int → Int) (a : Int) : 0 ≤ hm P a ∧ hm P a ≤ 4 := by
  have := sZ_rng (f := hmN P a) (b := 1) (n := 4) (by omega) (fun k _ _ => hmN_rng P a k)
  unfold hm; omega
def mv (P : Int → Int) (a : Int) : Int := if hm P a = 4 then (a + 2) % 4 else a
theorem mv_rng (P : Int → Int) {a : Int} (h : 0 ≤ a ∧ a ≤ 3) : 0 ≤ mv P a ∧ mv P a ≤ 3 := by unfold mv; split <;> omega
def tgt (P : Int → Int) (k m : Int) : Int := if P k = 0 then (if m ≤ 1 ∨ m = 6 then 1 else 0) else if P k + wo m ≤ 72 ∧ P k < 72 then P k + wo m else 0
theorem tgt_rng {P : Int → Int} (hP : ∀ i, 0 ≤ P i ∧ P i ≤ 72) (k : Int) {m : Int} (h : 0 ≤ m ∧ m ≤ 6) : 0 ≤ tgt P k m ∧ tgt P k m ≤ 72 := by
  have h1 := wo_rng h
  have h2 := hP k
  unfold tgt; split
  · split <;> omega
  · split <;> omega
def frW (P : Int → Int) (a s t : Int) : Prop := ∀ k, s < k → k ≤ t → k ≤ 64 → stand P (sq a k) (1 - a % 2) < 2
noncomputable def can (P : Int → Int) (k m : Int) : Int :=
  iC (0 < tgt P k m ∧ frW P (k / 4) (P k) (tgt P k m)) (if 64 < tgt P k m then 1 else if stand P (sq (k / 4) (tgt P k m)) (1 - k / 4 % 2) = 0 then 1 else if sq (k / 4) (tgt P k m) % 17 = 4 ∨ sq (k / 4) (tgt P k m) % 17 = 11 then 0 else 2) 0
theorem can_rng (P : Int → Int) (k m : Int) : 0 ≤ can P k m ∧ can P k m ≤ 2 := by
  unfold can
  rcases iC_or (0 < tgt P k m ∧ frW P (k / 4) (P k) (tgt P k m)) (if 64 < tgt P k m then 1 else if stand P (sq (k / 4) (tgt P k m)) (1 - k / 4 % 2) = 0 then 1 else if sq (k / 4) (tgt P k m) % 17 = 4 ∨ sq (k / 4) (tgt P k m) % 17 = 11 then 0 else 2) 0 with ⟨_, h⟩ | ⟨_, h⟩ <;> rw [h]
  · split
    · omega
    · split
      · omega
      · split <;> omega
  · omega
theorem can_0 {P : Int → Int} {k m : Int} (h : tgt P k m ≤ 0) : can P k m = 0 := by unfold can; rw [iC_f (fun q => by omega)]
theorem can_b {P : Int → Int} {k m : Int} (h : ¬ frW P (k / 4) (P k) (tgt P k m)) : can P k m = 0 := by unfold can; rw [iC_f (fun q => h q.2)]
theorem can_far {P : Int → Int} {k m : Int} (h0 : frW P (k / 4) (P k) (tgt P k m)) (h : 64 < tgt P k m) : can P k m = 1 := by unfold can; rw [iC_t ⟨by omega, h0⟩, if_pos h]
theorem can_free {P : Int → Int} {k m : Int} (h0 : frW P (k / 4) (P k) (tgt P k m)) (h : 0 < tgt P k m) (h1 : stand P (sq (k / 4) (tgt P k m)) (1 - k / 4 % 2) = 0) : can P k m = 1 := by
  unfold can; rw [iC_t ⟨h, h0⟩]
  by_cases h9 : 64 < tgt P k m
  · rw [if_pos h9]
  · rw [if_neg h9, if_pos h1]
theorem can_safe {P : Int → Int} {k m : Int} (h : tgt P k m ≤ 64) (h1 : ¬ stand P (sq (k / 4) (tgt P k m)) (1 - k / 4 % 2) = 0) (h2 : sq (k / 4) (tgt P k m) % 17 = 4 ∨ sq (k / 4) (tgt P k m) % 17 = 11) : can P k m = 0 := by
  unfold can
  rcases iC_or (0 < tgt P k m ∧ frW P (k / 4) (P k) (tgt P k m)) (if 64 < tgt P k m then 1 else if stand P (sq (k / 4) (tgt P k m)) (1 - k / 4 % 2) = 0 then 1 else if sq (k / 4) (tgt P k m) % 17 = 4 ∨ sq (k / 4) (tgt P k m) % 17 = 11 then 0 else 2) 0 with ⟨_, h3⟩ | ⟨_, h3⟩ <;> rw [h3]
  rw [if_neg (by omega), if_neg h1, if_pos h2]
theorem can_cap {P : Int → Int} {k m : Int} (h0 : frW P (k / 4) (P k) (tgt P k m)) (h3 : 0 < tgt P k m) (h : tgt P k m ≤ 64) (h1 : ¬ stand P (sq (k / 4) (tgt P k m)) (1 - k / 4 % 2) = 0) (h2 : ¬ (sq (k / 4) (tgt P k m) % 17 = 4 ∨ sq (k / 4) (tgt P k m) % 17 = 11)) : can P k m = 2 := by
  unfold can; rw [iC_t ⟨h3, h0⟩, if_neg (by omega), if_neg h1, if_neg h2]
/-- what can be read off a piece that can move -/
theorem can_pos {P : Int → Int} {k m : Int} (h : can P k m ≠ 0) : 0 < tgt P k m ∧ frW P (k / 4) (P k) (tgt P k m) := by
  by_cases h1 : 0 < tgt P k m
  · by_cases h2 : frW P (k / 4) (P k) (tgt P k m)
    · exact ⟨h1, h2⟩
    · exact absurd (can_b h2) h
  · exact absurd (can_0 (by omega)) h
def sA (a p : Int) : Int := if 1 ≤ p ∧ p ≤ 64 then sq a p else -1
def stA (P : Int → Int) (q t : Int) : Int := if 0 ≤ q then stand P q t else 0
theorem stA_rng (P : Int → Int) (q t : Int) : 0 ≤ stA P q t ∧ stA P q t ≤ 16 := by
  have := stand_rng P q t
  unfold stA; split <;> omega
noncomputable def tX (P : Int → Int) (k m : Int) : Int := if can P k m = 0 then -1 else tgt P k m
def cnt (P : Int → Int) : Int → Int := fun k => stand P (k % 68) (k / 68)
theorem tgt_y {P : Int → Int} {k m : Int} (h : P k = 0) : tgt P k m = if m ≤ 1 ∨ m = 6 then 1 else 0 := by unfold tgt; rw [if_pos h]
theorem tgt_g {P : Int → Int} {k m : Int} (h : ¬ P k = 0) (h2 : P k + wo m ≤ 72 ∧ P k < 72) : tgt P k m = P k + wo m := by unfold tgt; rw [if_neg h, if_pos h2]
theorem tgt_n {P : Int → Int} {k m : Int} (h : ¬ P k = 0) (h2 : ¬ (P k + wo m ≤ 72 ∧ P k < 72)) : tgt P k m = 0 := by unfold tgt; rw [if_neg h, if_neg h2]
theorem tgt_gt {P : Int → Int} {k m : Int} (hm : 0 ≤ m ∧ m ≤ 6) (h : 0 < tgt P k m) : P k < tgt P k m := by
  have h1 := wo_rng hm
  by_cases h2 : P k = 0
  · omega
  · by_cases h3 : P k + wo m ≤ 72 ∧ P k < 72
    · rw [tgt_g h2 h3]; omega
    · rw [tgt_n h2 h3] at h; omega
/-- with a step into a capture: can = 2 just there -/
theorem can_two {P : Int → Int} {k m : Int} (hm : 0 ≤ m ∧ m ≤ 6) (h : can P k m ≠ 0) : can P k m = 2 ↔ stA P (sA (k / 4) (tgt P k m)) (1 - k / 4 % 2) = 1 := by
  obtain ⟨h1, h2⟩ := can_pos h
  by_cases h3 : 64 < tgt P k m
  · rw [can_far h2 h3]
    have e : sA (k / 4) (tgt P k m) = -1 := by unfold sA; rw [if_neg (by omega)]
    rw [e]
    unfold stA
    rw [if_neg (by omega)]
    omega
  · have e : sA (k / 4) (tgt P k m) = sq (k / 4) (tgt P k m) := by unfold sA; rw [if_pos (by omega)]
    have h4 := sq_rng (k / 4) (tgt P k m)
    have e2 : ∀ t, stA P (sq (k / 4) (tgt P k m)) t = stand P (sq (k / 4) (tgt P k m)) t := fun t => by unfold stA; rw [if_pos h4.1]
    rw [e, e2]
    have hpk := tgt_gt hm h1
    have h5 := h2 (tgt P k m) hpk (Int.le_refl _) (by omega)
    by_cases h6 : stand P (sq (k / 4) (tgt P k m)) (1 - k / 4 % 2) = 0
    · rw [can_free h2 h1 h6]; omega
    · have h7 := (stand_rng P (sq (k / 4) (tgt P k m)) (1 - k / 4 % 2)).1
      by_cases h8 : sq (k / 4) (tgt P k m) % 17 = 4 ∨ sq (k / 4) (tgt P k m) % 17 = 11
      · exact absurd (can_safe (by omega) h6 h8) h
      · rw [can_cap h2 h1 (by omega) h6 h8]; omega
theorem tX_rng {P : Int → Int} (hP : ∀ i, 0 ≤ P i ∧ P i ≤ 72) (k : Int) {m : Int} (h : 0 ≤ m ∧ m ≤ 6) : -1 ≤ tX P k m ∧ tX P k m ≤ 72 := by
  have := tgt_rng hP k h
  unfold tX; split <;> omega
theorem tX_can {P : Int → Int} {k m : Int} (h : tX P k m ≠ -1) : can P k m ≠ 0 ∧ tX P k m = tgt P k m := by
  unfold tX at h ⊢
  by_cases h1 : can P k m = 0
  · rw [if_pos h1] at h; exact absurd rfl h
  · rw [if_neg h1]; exact ⟨h1, rfl⟩
theorem tX_no {P : Int → Int} (hP : ∀ i, 0 ≤ P i ∧ P i ≤ 72) {k m : Int} (hm : 0 ≤ m ∧ m ≤ 6) (h : tX P k m = -1) : can P k m = 0 := by
  have := tgt_rng hP k hm
  unfold tX at h
  by_cases h1 : can P k m = 0
  · exact h1
  · rw [if_neg h1] at h; omega
theorem cnt_at (P : Int → Int) {q t : Int} (hq : 0 ≤ q ∧ q < 68) : cnt P (t * 68 + q) = stand P q t := by
  unfold cnt; rw [show (t * 68 + q) % 68 = q by omega, show (t * 68 + q) / 68 = t by omega]
def p2 (j : Int) : Int := if j = 0 then 1 else if j = 1 then 2 else if j = 2 then 4 else if j = 3 then 8 else 16
theorem p2_s {j : Int} (h : 0 ≤ j ∧ j ≤ 3) : p2 (j + 1) = p2 j + p2 j ∧ 1 ≤ p2 j ∧ p2 j ≤ 8 := by
  have : j = 0 ∨ j = 1 ∨ j = 2 ∨ j = 3 := by omega
  rcases this with rfl | rfl | rfl | rfl <;> decide
theorem bit_shl {j : Int} (h : 0 ≤ j ∧ j ≤ 3) : iI 1 <<< (iI j &&& 31) = iI (p2 j) := by
  have : j = 0 ∨ j = 1 ∨ j = 2 ∨ j = 3 := by omega
  rcases this with rfl | rfl | rfl | rfl <;> decide
theorem bit_or {s j : Int} (hj : 0 ≤ j ∧ j ≤ 3) (hs : 0 ≤ s ∧ s < p2 j) : iI s ||| iI (p2 j) = iI (s + p2 j) := by
  have : j = 0 ∨ j = 1 ∨ j = 2 ∨ j = 3 := by omega
  rcases this with rfl | rfl | rfl | rfl
  · have : s = 0 := by have : p2 0 = 1 := rfl; omega
    subst this; decide
  · have : s = 0 ∨ s = 1 := by have : p2 1 = 2 := rfl; omega
    rcases this with rfl | rfl <;> decide
  · have : s = 0 ∨ s = 1 ∨ s = 2 ∨ s = 3 := by have : p2 2 = 4 := rfl; omega
    rcases this with rfl | rfl | rfl | rfl <;> decide
  · have : s = 0 ∨ s = 1 ∨ s = 2 ∨ s = 3 ∨ s = 4 ∨ s = 5 ∨ s = 6 ∨ s = 7 := by have : p2 3 = 8 := rfl; omega
    rcases this with rfl | rfl | rfl | rfl | rfl | rfl | rfl | rfl <;> decide
noncomputable def msN (P : Int → Int) (a m j : Int) : Int := if can P (4 * a + j) m = 0 then 0 else p2 j
noncomputable def ms (P : Int → Int) (a m : Int) : Int := sZ (msN P a m) 4
/-- piece j of player a does it by a throw: w is 0 move, 1 capture, 2 bring home, 3 enter -/
def dzA (P : Int → Int) (a m w j : Int) : Prop := can P (4 * a + j) m ≠ 0 ∧ (w = 0 ∨ w = 1 ∧ can P (4 * a + j) m = 2 ∨ w = 2 ∧ tgt P (4 * a + j) m = 72 ∨ w = 3 ∧ P (4 * a + j) = 0)
def dzP (P : Int → Int) (a m w : Int) : Prop := ∃ j, 0 ≤ j ∧ j < 4 ∧ dzA P a m w j
theorem dzA_no {P : Int → Int} (hP : ∀ i, 0 ≤ P i ∧ P i ≤ 72) {a m w j : Int} (hm : 0 ≤ m ∧ m ≤ 6) (h : tX P (4 * a + j) m = -1) : ¬ dzA P a m w j := fun q => q.1 (tX_no hP hm h)
theorem dzA_iff {P : Int → Int} (hP : ∀ i, 0 ≤ P i ∧ P i ≤ 72) {a m w j : Int} (hj : 0 ≤ j ∧ j < 4) (hm : 0 ≤ m ∧ m ≤ 6) (h : tX P (4 * a + j) m ≠ -1) :
    dzA P a m w j ↔ (w = 0 ∨ w = 1 ∧ stA P (sA a (tX P (4 * a + j) m)) (1 - a % 2) = 1 ∨ w = 2 ∧ tX P (4 * a + j) m = 72 ∨ w = 3 ∧ tX P (4 * a + j) m = 1) := by
  obtain ⟨h1, h2⟩ := tX_can h
  have h3 := can_two hm h1
  rw [show (4 * a + j) / 4 = a by omega] at h3
  rw [h2]
  have h4 := (can_pos h1).1
  have h5 : tgt P (4 * a + j) m = 1 ↔ P (4 * a + j) = 0 := by
    have h6 := wo_rng hm
    have h7 := hP (4 * a + j)
    have h8 := tgt_gt hm h4
    constructor
    · intro q; omega
    · intro q
      rw [tgt_y q] at h4 ⊢
      by_cases h9 : m ≤ 1 ∨ m = 6
      · rw [if_pos h9]
      · rw [if_neg h9] at h4; omega
  unfold dzA
  rw [h3, h5]
  constructor
  · exact fun q => q.2
  · exact fun q => ⟨h1, q⟩
/-- piece j of player a captures on the square q -/
def cpA (P : Int → Int) (q a m j : Int) : Prop := can P (4 * a + j) m = 2 ∧ sq a (tgt P (4 * a + j) m) = q
def cpP (P : Int → Int) (q a m : Int) : Prop := ∃ j, 0 ≤ j ∧ j < 4 ∧ cpA P q a m j
theorem cpA_no {P : Int → Int} (hP : ∀ i, 0 ≤ P i ∧ P i ≤ 72) {q a m j : Int} (hm : 0 ≤ m ∧ m ≤ 6) (h : tX P (4 * a + j) m = -1) : ¬ cpA P q a m j := fun z => by have := tX_no hP hm h; unfold cpA at z; omega
theorem stA_on {P : Int → Int} {a p t : Int} (h : stA P (sA a p) t = 1) : sA a p = sq a p ∧ 1 ≤ p ∧ p ≤ 64 := by
  unfold sA at h ⊢
  by_cases h1 : 1 ≤ p ∧ p ≤ 64
  · rw [if_pos h1]; exact ⟨rfl, h1⟩
  · rw [if_neg h1] at h; unfold stA at h; rw [if_neg (by omega)] at h; omega
theorem cpA_iff {P : Int → Int} {q a m j : Int} (hj : 0 ≤ j ∧ j < 4) (hm : 0 ≤ m ∧ m ≤ 6) (h : tX P (4 * a + j) m ≠ -1) :
    cpA P q a m j ↔ (stA P (sA a (tX P (4 * a + j) m)) (1 - a % 2) = 1 ∧ sA a (tX P (4 * a + j) m) = q) := by
  obtain ⟨h1, h2⟩ := tX_can h
  have h3 := can_two hm h1
  rw [show (4 * a + j) / 4 = a by omega] at h3
  rw [h2]
  unfold cpA
  rw [h3]
  constructor
  · rintro ⟨q1, q2⟩; exact ⟨q1, by rw [(stA_on q1).1]; exact q2⟩
  · rintro ⟨q1, q2⟩; exact ⟨q1, by rw [← (stA_on q1).1]; exact q2⟩
theorem cnt_rng (P : Int → Int) (i : Int) : 0 ≤ cnt P i ∧ cnt P i ≤ 16 := stand_rng P _ _
theorem tX_0 {P : Int → Int} {k m : Int} (h : can P k m = 0) : tX P k m = -1 := by unfold tX; rw [if_pos h]
theorem tX_1 {P : Int → Int} {k m : Int} (h : can P k m ≠ 0) : tX P k m = tgt P k m := by unfold tX; rw [if_neg h]
theorem tX_a {P : Int → Int} {k m : Int} (h : P k = 72 ∨ P k = 0 ∧ ¬ (m ≤ 1 ∨ m = 6)) : tX P k m = -1 := by
  apply tX_0; apply can_0
  rcases h with h | ⟨h, h2⟩
  · rw [tgt_n (by omega) (by omega)]; omega
  · rw [tgt_y h, if_neg h2]; omega
theorem tgt_is {P : Int → Int} {k m t : Int} (h : P k = 0 ∧ (m ≤ 1 ∨ m = 6) ∧ t = 1 ∨ P k ≠ 0 ∧ P k < 72 ∧ t = P k + wo m) (h2 : t ≤ 72) : tgt P k m = t := by
  rcases h with ⟨h, h3, h4⟩ | ⟨h, h3, h4⟩
  · rw [tgt_y h, if_pos h3]; exact h4.symm
  · rw [tgt_g h (by omega)]; exact h4.symm
theorem tX_b {P : Int → Int} {k m t : Int} (h : P k ≠ 0 ∧ P k < 72 ∧ t = P k + wo m) (h2 : 72 < t) : tX P k m = -1 := by
  apply tX_0; apply can_0; rw [tgt_n h.1 (by omega)]; omega
theorem tX_d {P : Int → Int} {k m t a : Int} (ht : tgt P k m = t) (ha : k / 4 = a) (h : ¬ frW P a (P k) t) : tX P k m = -1 := by
  apply tX_0; apply can_b; rw [ht, ha]; exact h
theorem tX_e {P : Int → Int} {k m t a : Int} (ht : tgt P k m = t) (ha : k / 4 = a) (h : stA P (sA a t) (1 - a % 2) = 1) (h2 : sA a t % 17 = 4 ∨ sA a t % 17 = 11) : tX P k m = -1 := by
  apply tX_0
  obtain ⟨e1, e2⟩ := stA_on h
  rw [e1] at h h2
  unfold stA at h
  rw [if_pos (sq_rng a t).1] at h
  exact can_safe (by omega) (by rw [ht, ha]; omega) (by rw [ht, ha]; exact h2)
theorem tX_f {P : Int → Int} {k m t a : Int} (ht : tgt P k m = t) (ha : k / 4 = a) (hm : 0 ≤ m ∧ m ≤ 6) (h0 : 0 < t) (hf : frW P a (P k) t) (h : ¬ stA P (sA a t) (1 - a % 2) = 1 ∨ ¬ (sA a t % 17 = 4 ∨ sA a t % 17 = 11)) : tX P k m = t := by
  have hc : can P k m ≠ 0 := by
    by_cases h3 : 64 < t
    · rw [can_far (by rw [ht, ha]; exact hf) (by rw [ht]; exact h3)]; omega
    · have e1 : sA a t = sq a t := by unfold sA; rw [if_pos (by omega)]
      have h4 := tgt_gt hm (by rw [ht]; exact h0)
      rw [ht] at h4
      have h5 := hf t h4 (Int.le_refl _) (by omega)
      have h6 := stand_rng P (sq a t) (1 - a % 2)
      rw [e1] at h
      have e2 : stA P (sq a t) (1 - a % 2) = stand P (sq a t) (1 - a % 2) := by unfold stA; rw [if_pos (sq_rng a t).1]
      rw [e2] at h
      by_cases h7 : stand P (sq a t) (1 - a % 2) = 0
      · rw [can_free (by rw [ht, ha]; exact hf) (by rw [ht]; exact h0) (by rw [ht, ha]; exact h7)]; omega
      · rw [can_cap (by rw [ht, ha]; exact hf) (by rw [ht]; exact h0) (by rw [ht]; omega) (by rw [ht, ha]; exact h7) (by rw [ht, ha]; rcases h with h | h <;> first | exact absurd (by omega) h | exact h)]; omega
  rw [tX_1 hc, ht]
theorem bit_or0 (n : Int) : iI n ||| iI 0 = iI n := by
  show iI n ||| 0 = iI n
  exact Int32.or_zero
theorem bit_or1 {n : Int} (h : n = 0 ∨ n = 1) : iI n ||| iI 1 = iI 1 := by rcases h with rfl | rfl <;> decide
theorem bit_and1 {n : Int} (h : n = 0 ∨ n = 1) : iI n &&& iI 1 = iI n := by rcases h with rfl | rfl <;> decide
theorem bit_and0 (n : Int) : iI n &&& iI 0 = iI 0 := by
  show iI n &&& 0 = 0
  exact Int32.and_zero
theorem uI_rng {P : Int → Int} (h : ∀ i, 0 ≤ P i ∧ P i ≤ 72) {k v : Int} (hv : 0 ≤ v ∧ v ≤ 72) : ∀ i, 0 ≤ uI P k v i ∧ uI P k v i ≤ 72 := by
  intro i; unfold uI; split
  · exact hv
  · exact h i
theorem uI_back (P : Int → Int) (k v : Int) : uI (uI P k v) k (P k) = P := by
  funext i; unfold uI; split
  · rename_i h; rw [h]
  · rfl
theorem uI_at (P : Int → Int) (k v : Int) : uI P k v k = v := by unfold uI; rw [if_pos rfl]
/-- the counts behind a change -/
def adF (F : Int → Int) (q t n : Int) : Int → Int := if 0 ≤ q then uI F (t * 68 + q) (F (t * 68 + q) + n) else F
theorem sZ_upd {f g : Int → Int} {n k : Int} (hk : 0 ≤ k ∧ k < n) (h : ∀ i, i ≠ k → g i = f i) : sZ g n = sZ f n - f k + g k := by
  have key : ∀ m : Nat, sm g m = if k < (m : Int) then sm f m - f k + g k else sm f m := by
    intro m
    induction m with
    | zero => rw [if_neg (by omega)]; rfl
    | succ m ih =>
      show sm g m + g m = if k < ((m + 1 : Nat) : Int) then sm f m + f m - f k + g k else sm f m + f m
      rw [ih]
      by_cases h1 : k < (m : Int)
      · rw [if_pos h1, if_pos (by omega), h m (by omega)]; omega
      · by_cases h2 : (m : Int) = k
        · rw [if_neg h1, if_pos (by omega), h2]; omega
        · rw [if_neg h1, if_neg (by omega), h m h2]
  unfold sZ
  rw [key n.toNat, if_pos (by omega)]
theorem onN_is {P : Int → Int} {q t k a : Int} (ha : k / 4 = a) : onN P q t k = if 0 ≤ sA a (P k) ∧ sA a (P k) = q ∧ a % 2 = t then 1 else 0 := by
  unfold onN sA
  rw [ha]
  by_cases h : 1 ≤ P k ∧ P k ≤ 64
  · have := sq_rng a (P k)
    rw [if_pos h]
    by_cases h2 : a % 2 = t ∧ sq a (P k) = q
    · rw [if_pos ⟨h.1, h.2, h2⟩, if_pos ⟨by omega, h2.2, h2.1⟩]
    · rw [if_neg (fun z => h2 z.2.2), if_neg (fun z => h2 ⟨z.2.2, z.2.1⟩)]
  · rw [if_neg h, if_neg (fun z => h ⟨z.1, z.2.1⟩), if_neg (by omega)]
theorem cnt_place {P : Int → Int} {k a v : Int} (hk : 0 ≤ k ∧ k < 16) (ha : k / 4 = a) : adF (adF (cnt P) (sA a (P k)) (a % 2) (-1)) (sA a v) (a % 2) 1 = cnt (uI P k v) := by
  funext i
  have h1 : cnt (uI P k v) i = cnt P i - onN P (i % 68) (i / 68) k + onN (uI P k v) (i % 68) (i / 68) k := by
    unfold cnt stand
    refine sZ_upd hk (fun j hj => ?_)
    unfold onN uI
    rw [if_neg hj]
  rw [h1, onN_is ha, onN_is (P := uI P k v) ha, uI_at]
  have e1 : -1 ≤ sA a (P k) ∧ sA a (P k) < 68 := by have := sq_rng a (P k); unfold sA; split <;> omega
  have e2 : -1 ≤ sA a v ∧ sA a v < 68 := by have := sq_rng a v; unfold sA; split <;> omega
  generalize sA a (P k) = x at e1 ⊢
  generalize sA a v = y at e2 ⊢
  generalize cnt P = F
  have e3 : 0 ≤ a % 2 ∧ a % 2 ≤ 1 := by omega
  generalize a % 2 = t at e3 ⊢
  have c1 : ∀ w : Int, 0 ≤ w → w < 68 → ((i = t * 68 + w) ↔ (w = i % 68 ∧ t = i / 68)) := by intro w h2 h3; omega
  have a1 : ∀ (G : Int → Int) (w n : Int), -1 ≤ w ∧ w < 68 → adF G w t n i = G i + (if 0 ≤ w ∧ w = i % 68 ∧ t = i / 68 then n else 0) := by
    intro G w n hw
    unfold adF
    by_cases h2 : 0 ≤ w
    · rw [if_pos h2]
      unfold uI
      by_cases h3 : i = t * 68 + w
      · rw [if_pos h3, if_pos ⟨h2, (c1 w h2 hw.2).mp h3⟩, h3]
      · rw [if_neg h3, if_neg (fun z => h3 ((c1 w h2 hw.2).mpr z.2))]; omega
    · rw [if_neg h2, if_neg (fun z => h2 z.1)]; omega
  rw [a1 _ y 1 e2, a1 F x (-1) e1]
  by_cases h2 : 0 ≤ x ∧ x = i % 68 ∧ t = i / 68
  · rw [if_pos h2, if_pos h2]; split <;> omega
  · rw [if_neg h2, if_neg h2]; split <;> omega
/-- the pieces of a team on a square go to their yards, of the first n -/
def syP (P : Int → Int) (q t n : Int) : Int → Int := fun i => if i < n ∧ i < 16 ∧ 0 ≤ i ∧ 1 ≤ P i ∧ P i ≤ 64 ∧ i / 4 % 2 = t ∧ sq (i / 4) (P i) = q then 0 else P i
theorem syP_rng {P : Int → Int} (h : ∀ i, 0 ≤ P i ∧ P i ≤ 72) {q t n : Int} : ∀ i, 0 ≤ syP P q t n i ∧ syP P q t n i ≤ 72 := by
  intro i; unfold syP; split
  · omega
  · exact h i
theorem syP_0 (P : Int → Int) (q t n : Int) (h : n ≤ 4 * t) (ht : 0 ≤ t ∧ t ≤ 1) : syP P q t n = P := by
  funext i; unfold syP; rw [if_neg (by omega)]
theorem syP_at {P : Int → Int} {q t n : Int} : syP P q t n n = P n := by unfold syP; rw [if_neg (by omega)]
theorem syP_yes {P : Int → Int} {q t n : Int} (h : 0 ≤ n ∧ n < 16) (h2 : 1 ≤ P n ∧ P n ≤ 64 ∧ n / 4 % 2 = t ∧ sq (n / 4) (P n) = q) : uI (syP P q t n) n 0 = syP P q t (n + 1) := by
  funext i; unfold uI
  by_cases e : i = n
  · subst e; rw [if_pos rfl]; unfold syP; rw [if_pos ⟨by omega, h.2, h.1, h2⟩]
  · rw [if_neg e]; unfold syP
    by_cases h3 : i < n
    · have h4 : i < n + 1 := by omega
      simp only [h3, h4, true_and]
    · rw [if_neg (fun z => h3 z.1), if_neg (fun z => by omega)]
theorem syP_not {P : Int → Int} {q t n : Int} (h2 : ¬ (1 ≤ P n ∧ P n ≤ 64 ∧ n / 4 % 2 = t ∧ sq (n / 4) (P n) = q)) : syP P q t n = syP P q t (n + 1) := by
  funext i; unfold syP
  by_cases e : i = n
  · subst e; rw [if_neg (by omega), if_neg (fun z => h2 z.2.2.2)]
  · by_cases h3 : i < n
    · have h4 : i < n + 1 := by omega
      simp only [h3, h4, true_and]
    · rw [if_neg (fun z => h3 z.1), if_neg (fun z => by omega)]
theorem syP_jump {P : Int → Int} {q t n m : Int} (h : ∀ i, n ≤ i → i < m → 0 ≤ i → i < 16 → i / 4 % 2 ≠ t) (hnm : n ≤ m) : syP P q t n = syP P q t m := by
  funext i; unfold syP
  by_cases h3 : i < n
  · have h4 : i < m := by omega
    simp only [h3, h4, true_and]
  · rw [if_neg (fun z => h3 z.1)]
    by_cases h4 : i < m
    · rw [if_neg (fun z => h i (by omega) h4 z.2.2.1 z.2.1 z.2.2.2.2.2.1)]
    · rw [if_neg (fun z => h4 z.1)]
end
section
/-! the chances -/
def mxN (f : Int → Int) : Nat → Int
  | 0 => 0
  | n + 1 => if mxN f n < f n then f n else mxN f n
def mxZ (f : Int → Int) (k : Int) : Int := mxN f k.toNat
theorem mxZ_s (f : Int → Int) {k : Int} (h : 0 ≤ k) : mxZ f (k + 1) = if mxZ f k < f k then f k else mxZ f k := by
  unfold mxZ
  rw [show (k + 1).toNat = k.toNat + 1 by omega]
  show (if mxN f k.toNat < f (k.toNat : Int) then f (k.toNat : Int) else mxN f k.toNat) = _
  rw [Int.toNat_of_nonneg h]
theorem mxZ_rng {f : Int → Int} {b n : Int} (hb : 0 ≤ b) (h : ∀ k, 0 ≤ k → k < n → f k ≤ b) : 0 ≤ mxZ f n ∧ mxZ f n ≤ b := by
  have key : ∀ m : Nat, (m : Int) ≤ n → 0 ≤ mxN f m ∧ mxN f m ≤ b := by
    intro m
    induction m with
    | zero => intro _; exact ⟨Int.le_refl 0, hb⟩
    | succ m ih =>
      intro hm
      have h1 := ih (by omega)
      have h2 := h m (by omega) (by omega)
      show 0 ≤ (if mxN f m < f m then f m else mxN f m) ∧ (if mxN f m < f m then f m else mxN f m) ≤ b
      split <;> omega
  unfold mxZ
  by_cases hn : 0 ≤ n
  · exact key _ (by omega)
  · rw [show n.toNat = 0 by omega]; exact ⟨Int.le_refl 0, hb⟩
/-- behind a grace that doesn't capture: what R leaves by the best move, of the first k pieces -/
noncomputable def chF (R : (Int → Int) → Int) (P : Int → Int) (a m : Int) : Int → Int := fun j => iC (can P (4 * a + j) m ≠ 0) (R (uI P (4 * a + j) (tgt P (4 * a + j) m))) 0
noncomputable def chGn (R : (Int → Int) → Int) (P : Int → Int) (a m k : Int) : Int := iC (ms P a m = 0) (R P) (mxZ (chF R P a m) k)
noncomputable def chA (tu g : Int) (n : Nat) (R : Int → (Int → Int) → Int) (P : Int → Int) (m : Int) : Int :=
  iC ((m ≤ 1 ∨ m = 6) ∧ 2 ≤ g) 0 (iC (dzP P (mv P tu) m 1) ((64 : Int) ^ n) (iC (¬ (m ≤ 1 ∨ m = 6) ∨ n = 0) 0 (chGn (R (g + 1)) P (mv P tu) m 4)))
noncomputable def ch (tu : Int) : Nat → Int → (Int → Int) → Int
  | 0 => fun _ _ => 0
  | n + 1 => fun g P => sZ (fun m => wyI m * chA tu g n (ch tu n) P m) 7
theorem ch_s (tu g : Int) (n : Nat) (P : Int → Int) : ch tu (n + 1) g P = sZ (fun m => wyI m * chA tu g n (ch tu n) P m) 7 := rfl
theorem chA_lost {tu g m : Int} {n : Nat} {R : Int → (Int → Int) → Int} {P : Int → Int} (h : (m ≤ 1 ∨ m = 6) ∧ 2 ≤ g) : chA tu g n R P m = 0 := by unfold chA; rw [iC_t h]
theorem chA_cap {tu g m : Int} {n : Nat} {R : Int → (Int → Int) → Int} {P : Int → Int} (h : ¬ ((m ≤ 1 ∨ m = 6) ∧ 2 ≤ g)) (h2 : dzP P (mv P tu) m 1) : chA tu g n R P m = 64 ^ n := by unfold chA; rw [iC_f h, iC_t h2]
theorem chA_end {tu g m : Int} {n : Nat} {R : Int → (Int → Int) → Int} {P : Int → Int} (h2 : ¬ dzP P (mv P tu) m 1) (h3 : ¬ (m ≤ 1 ∨ m = 6) ∨ n = 0) : chA tu g n R P m = 0 := by
  unfold chA
  by_cases h : (m ≤ 1 ∨ m = 6) ∧ 2 ≤ g
  · rw [iC_t h]
  · rw [iC_f h, iC_f h2, iC_t h3]
theorem chA_go {tu g m : Int} {n : Nat} {R : Int → (Int → Int) → Int} {P : Int → Int} (h : ¬ ((m ≤ 1 ∨ m = 6) ∧ 2 ≤ g)) (h2 : ¬ dzP P (mv P tu) m 1) (h3 : ¬ (¬ (m ≤ 1 ∨ m = 6) ∨ n = 0)) : chA tu g n R P m = chGn (R (g + 1)) P (mv P tu) m 4 := by unfold chA; rw [iC_f h, iC_f h2, iC_f h3]
theorem chGn_rng {R : (Int → Int) → Int} {P : Int → Int} {a m k b : Int} (hb : 0 ≤ b) (h : ∀ P, 0 ≤ R P ∧ R P ≤ b) : 0 ≤ chGn R P a m k ∧ chGn R P a m k ≤ b := by
  unfold chGn
  rcases iC_or (ms P a m = 0) (R P) (mxZ (chF R P a m) k) with ⟨_, e⟩ | ⟨_, e⟩ <;> rw [e]
  · exact h P
  · refine mxZ_rng hb (fun j _ _ => ?_)
    unfold chF
    rcases iC_or (can P (4 * a + j) m ≠ 0) (R (uI P (4 * a + j) (tgt P (4 * a + j) m))) 0 with ⟨_, e⟩ | ⟨_, e⟩ <;> rw [e]
    · exact (h _).2
    · exact hb
theorem pw_pos (n : Nat) : (1 : Int) ≤ 64 ^ n := by
  induction n with
  | zero => decide
  | succ n ih => rw [Int.pow_succ]; omega
theorem chA_rng {tu g m : Int} {n : Nat} {R : Int → (Int → Int) → Int} {P : Int → Int} (h : ∀ g P, 0 ≤ R g P ∧ R g P ≤ 64 ^ n) : 0 ≤ chA tu g n R P m ∧ chA tu g n R P m ≤ 64 ^ n := by
  have h1 := pw_pos n
  by_cases c1 : (m ≤ 1 ∨ m = 6) ∧ 2 ≤ g
  · rw [chA_lost c1]; omega
  · by_cases c2 : dzP P (mv P tu) m 1
    · rw [chA_cap c1 c2]; omega
    · by_cases c3 : ¬ (m ≤ 1 ∨ m = 6) ∨ n = 0
      · rw [chA_end c2 c3]; omega
      · rw [chA_go c1 c2 c3]; exact chGn_rng (by omega) (h (g + 1))
theorem ch_rng (tu : Int) (n : Nat) : ∀ (g : Int) (P : Int → Int), 0 ≤ ch tu n g P ∧ ch tu n g P ≤ 64 ^ n := by
  induction n with
  | zero => intro g P; show 0 ≤ (0 : Int) ∧ (0 : Int) ≤ 64 ^ 0; decide
  | succ n ih =>
    intro g P
    rw [ch_s, sZ_7, Int.pow_succ]
    have h : ∀ m, 0 ≤ chA tu g n (ch tu n) P m ∧ chA tu g n (ch tu n) P m ≤ 64 ^ n := fun m => chA_rng ih
    have w0 : wyI 0 = 1 := rfl
    have w1 : wyI 1 = 6 := rfl
    have w2 : wyI 2 = 15 := rfl
    have w3 : wyI 3 = 20 := rfl
    have w4 : wyI 4 = 15 := rfl
    have w5 : wyI 5 = 6 := rfl
    have w6 : wyI 6 = 1 := rfl
    have a0 := h 0
    have a1 := h 1
    have a2 := h 2
    have a3 := h 3
    have a4 := h 4
    have a5 := h 5
    have a6 := h 6
    rw [w0, w1, w2, w3, w4, w5, w6]
    omega
theorem ch_rng1 (tu g : Int) (P : Int → Int) : 0 ≤ ch tu 1 g P ∧ ch tu 1 g P ≤ 64 := ch_rng tu 1 g P
theorem ch_rng2 (tu g : Int) (P : Int → Int) : 0 ≤ ch tu 2 g P ∧ ch tu 2 g P ≤ 4096 := ch_rng tu 2 g P
theorem ch_rng3 (tu g : Int) (P : Int → Int) : 0 ≤ ch tu 3 g P ∧ ch tu 3 g P ≤ 262144 := ch_rng tu 3 g P
theorem msN_rng (P : Int → Int) (a m : Int) {j : Int} (h : 0 ≤ j ∧ j < 4) : 0 ≤ msN P a m j ∧ (msN P a m j = 0 ↔ can P (4 * a + j) m = 0) := by
  have := p2_s (j := j) (by omega)
  unfold msN
  by_cases c : can P (4 * a + j) m = 0
  · rw [if_pos c]; omega
  · rw [if_neg c]; omega
theorem ms_0 {P : Int → Int} {a m : Int} : ms P a m = 0 ↔ ∀ j, 0 ≤ j → j < 4 → can P (4 * a + j) m = 0 := by
  have m0 := msN_rng P a m (j := 0) (by omega)
  have m1 := msN_rng P a m (j := 1) (by omega)
  have m2 := msN_rng P a m (j := 2) (by omega)
  have m3 := msN_rng P a m (j := 3) (by omega)
  unfold ms
  rw [sZ_4]
  constructor
  · intro h j h1 h2
    have : j = 0 ∨ j = 1 ∨ j = 2 ∨ j = 3 := by omega
    rcases this with rfl | rfl | rfl | rfl
    · exact m0.2.mp (by omega)
    · exact m1.2.mp (by omega)
    · exact m2.2.mp (by omega)
    · exact m3.2.mp (by omega)
  · intro h
    have e0 := m0.2.mpr (h 0 (by omega) (by omega))
    have e1 := m1.2.mpr (h 1 (by omega) (by omega))
    have e2 := m2.2.mpr (h 2 (by omega) (by omega))
    have e3 := m3.2.mpr (h 3 (by omega) (by omega))
    omega
theorem chGn_z {R : (Int → Int) → Int} {P : Int → Int} {a m k : Int} (h : ms P a m = 0) : chGn R P a m k = R P := by unfold chGn; rw [iC_t h]
theorem chGn_0 {R : (Int → Int) → Int} {P : Int → Int} {a m : Int} (h : ¬ ms P a m = 0) : chGn R P a m 0 = 0 := by unfold chGn; rw [iC_f h]; rfl
theorem chGn_no {R : (Int → Int) → Int} {P : Int → Int} {a m j : Int} (hj : 0 ≤ j) (h : can P (4 * a + j) m = 0) : chGn R P a m (j + 1) = chGn R P a m j := by
  unfold chGn
  rcases iC_or (ms P a m = 0) (R P) (mxZ (chF R P a m) (j + 1)) with ⟨c, e⟩ | ⟨c, e⟩ <;> rw [e]
  · rw [iC_t c]
  · have e2 : chF R P a m j = 0 := by unfold chF; rw [iC_f (fun z => z h)]
    have e3 : 0 ≤ mxZ (chF R P a m) j := by
      unfold mxZ
      generalize j.toNat = n
      induction n with
      | zero => exact Int.le_refl 0
      | succ n ih => show 0 ≤ (if mxN (chF R P a m) n < chF R P a m n then chF R P a m n else mxN (chF R P a m) n); split <;> omega
    rw [iC_f c, mxZ_s _ hj, e2, if_neg (by omega)]
theorem chGn_yes {R : (Int → Int) → Int} {P : Int → Int} {a m j : Int} (hj : 0 ≤ j ∧ j < 4) (h : can P (4 * a + j) m ≠ 0) : chGn R P a m (j + 1) = if chGn R P a m j < R (uI P (4 * a + j) (tgt P (4 * a + j) m)) then R (uI P (4 * a + j) (tgt P (4 * a + j) m)) else chGn R P a m j := by
  have c : ¬ ms P a m = 0 := fun z => h (ms_0.mp z j hj.1 hj.2)
  unfold chGn
  rw [iC_f c, iC_f c, mxZ_s _ hj.1]
  have e : chF R P a m j = R (uI P (4 * a + j) (tgt P (4 * a + j) m)) := by unfold chF; rw [iC_t h]
  rw [e]
/-- all eight home -/
def won (P : Int → Int) (tu : Int) : Prop := hm P tu = 4 ∧ hm P ((tu + 2) % 4) = 4
theorem won_team {P : Int → Int} {tu : Int} (h : 0 ≤ tu ∧ tu ≤ 3) : won P tu ↔ (hm P (tu % 2) = 4 ∧ hm P (tu % 2 + 2) = 4) := by
  have : tu = 0 ∨ tu = 1 ∨ tu = 2 ∨ tu = 3 := by omega
  unfold won
  rcases this with rfl | rfl | rfl | rfl
  · exact Iff.rfl
  · exact Iff.rfl
  · exact And.comm
  · exact And.comm
theorem hm_4 {P : Int → Int} {a : Int} : hm P a = 4 ↔ ∀ j, 0 ≤ j → j < 4 → P (4 * a + j) = 72 := by
  have m0 := hmN_rng P a 0
  have m1 := hmN_rng P a 1
  have m2 := hmN_rng P a 2
  have m3 := hmN_rng P a 3
  have key : ∀ j, hmN P a j = 1 ↔ P (4 * a + j) = 72 := by
    intro j; unfold hmN
    by_cases c : P (4 * a + j) = 72
    · rw [if_pos c]; omega
    · rw [if_neg c]; omega
  unfold hm
  rw [sZ_4]
  constructor
  · intro h j h1 h2
    have : j = 0 ∨ j = 1 ∨ j = 2 ∨ j = 3 := by omega
    rcases this with rfl | rfl | rfl | rfl <;> exact (key _).mp (by omega)
  · intro h
    have e0 := (key 0).mpr (h 0 (by omega) (by omega))
    have e1 := (key 1).mpr (h 1 (by omega) (by omega))
    have e2 := (key 2).mpr (h 2 (by omega) (by omega))
    have e3 := (key 3).mpr (h 3 (by omega) (by omega))
    omega
theorem can_home {P : Int → Int} {k m : Int} (h : P k = 72) : can P k m = 0 := can_0 (by rw [tgt_n (by omega) (by omega)]; omega)
theorem ch_won {P : Int → Int} {tu : Int} (hw : won P tu) : ∀ (n : Nat) (g : Int), ch tu n g P = 0 := by
  have hmv : mv P tu = (tu + 2) % 4 := by unfold mv; rw [if_pos hw.1]
  have hc : ∀ m j, 0 ≤ j → j < 4 → can P (4 * mv P tu + j) m = 0 := fun m j h1 h2 => by rw [hmv]; exact can_home (hm_4.mp hw.2 j h1 h2)
  have hd : ∀ m, ¬ dzP P (mv P tu) m 1 := fun m ⟨j, h1, h2, h3⟩ => h3.1 (hc m j h1 h2)
  intro n
  induction n with
  | zero => intro g; rfl
  | succ n ih =>
    intro g
    rw [ch_s]
    have e : ∀ m, chA tu g n (ch tu n) P m = 0 := by
      intro m
      by_cases c1 : (m ≤ 1 ∨ m = 6) ∧ 2 ≤ g
      · exact chA_lost c1
      · by_cases c3 : ¬ (m ≤ 1 ∨ m = 6) ∨ n = 0
        · exact chA_end (hd m) c3
        · rw [chA_go c1 (hd m) c3, chGn_z (ms_0.mpr (hc m))]; exact ih (g + 1)
    rw [sZ_7]
    rw [e, e, e, e, e, e, e]
    omega
/-- the ways of the next throw -/
noncomputable def wyA (P : Int → Int) (tu g w m : Int) : Int := iC (¬ ((m ≤ 1 ∨ m = 6) ∧ 2 ≤ g) ∧ dzP P (mv P tu) m w) (wyI m) 0
noncomputable def wy (P : Int → Int) (tu g w : Int) : Int := sZ (wyA P tu g w) 7
noncomputable def thA (P : Int → Int) (q a m : Int) : Int := iC (cpP P q a m) (wyI m) 0
noncomputable def thr (P : Int → Int) (k b : Int) : Int := iC (1 ≤ P k ∧ P k ≤ 64) (sZ (thA P (sq (k / 4) (P k)) (mv P b)) 7) 0
def dst (P : Int → Int) (t : Int) : Int := sZ (fun j => 72 - P (4 * t + j)) 4 + sZ (fun j => 72 - P (4 * (t + 2) + j)) 4
/-- a throw that is allowed -/
def tsR (P : Int → Int) (tu gc mo m z tu2 gc2 ph2 mo2 : Int) : Prop :=
  ((m ≤ 1 ∨ m = 6) ∧ gc = 2 ∧ z = -wo m ∧ tu2 = (tu + 1) % 4 ∧ gc2 = 0 ∧ ph2 = 0 ∧ mo2 = mo) ∨
  (¬ ((m ≤ 1 ∨ m = 6) ∧ gc = 2) ∧ ms P (mv P tu) m = 0 ∧ z = -wo m ∧ ((m ≤ 1 ∨ m = 6) ∧ tu2 = tu ∧ gc2 = gc + 1 ∨ ¬ (m ≤ 1 ∨ m = 6) ∧ tu2 = (tu + 1) % 4 ∧ gc2 = 0) ∧ ph2 = 0 ∧ mo2 = mo) ∨
  (¬ ((m ≤ 1 ∨ m = 6) ∧ gc = 2) ∧ ms P (mv P tu) m ≠ 0 ∧ z = wo m ∧ tu2 = tu ∧ ((m ≤ 1 ∨ m = 6) ∧ gc2 = gc + 1 ∨ ¬ (m ≤ 1 ∨ m = 6) ∧ gc2 = 0) ∧ ph2 = 1 ∧ mo2 = m)
/-- the positions behind a move of piece k -/
noncomputable def mvP (P : Int → Int) (k mo : Int) : Int → Int := uI (if can P k mo = 2 then syP P (sq (k / 4) (tgt P k mo)) (1 - k / 4 % 2) 16 else P) k (tgt P k mo)
/-- a move that is allowed -/
def mvR (P C : Int → Int) (tu gc mo j z tu2 gc2 ph2 : Int) (P2 C2 : Int → Int) : Prop :=
  can P (4 * mv P tu + j) mo ≠ 0 ∧ P2 = mvP P (4 * mv P tu + j) mo ∧ C2 = (if can P (4 * mv P tu + j) mo = 2 then uI C tu (C tu + 1) else C) ∧
  z = (if can P (4 * mv P tu + j) mo = 2 then tgt P (4 * mv P tu + j) mo + 100 else tgt P (4 * mv P tu + j) mo) ∧
  (won (mvP P (4 * mv P tu + j) mo) tu ∧ ph2 = 2 ∧ tu2 = tu ∧ gc2 = gc ∨ ¬ won (mvP P (4 * mv P tu + j) mo) tu ∧ ph2 = 0 ∧
    ((can P (4 * mv P tu + j) mo = 2 ∨ mo ≤ 1 ∨ mo = 6) ∧ tu2 = tu ∧ gc2 = gc ∨ can P (4 * mv P tu + j) mo ≠ 2 ∧ ¬ (mo ≤ 1 ∨ mo = 6) ∧ tu2 = (tu + 1) % 4 ∧ gc2 = 0))
theorem mvP_c {P : Int → Int} {k mo a t q : Int} (h : can P k mo = 2) (ha : k / 4 = a) (ht : t = tgt P k mo) (hq : q = sq a t) : mvP P k mo = uI (syP P q (1 - a % 2) 16) k t := by unfold mvP; rw [if_pos h, ha, hq, ht]
theorem mvP_n {P : Int → Int} {k mo t : Int} (h : can P k mo ≠ 2) (ht : t = tgt P k mo) : mvP P k mo = uI P k t := by unfold mvP; rw [if_neg h, ht]
def dsN (P : Int → Int) (t k : Int) : Int := if k / 4 % 2 = t then 72 - P k else 0
theorem dst_eq (P : Int → Int) {t : Int} (h : t = 0 ∨ t = 1) : sZ (dsN P t) 16 = dst P t := by
  have e : ∀ f : Int → Int, sZ f 16 = f 0 + f 1 + f 2 + f 3 + f 4 + f 5 + f 6 + f 7 + f 8 + f 9 + f 10 + f 11 + f 12 + f 13 + f 14 + f 15 := by
    intro f
    show (((((((((((((((0 + f 0) + f 1) + f 2) + f 3) + f 4) + f 5) + f 6) + f 7) + f 8) + f 9) + f 10) + f 11) + f 12) + f 13) + f 14) + f 15 = _
    rw [Int.zero_add]
  have n1 : ∀ k, k / 4 % 2 = t → dsN P t k = 72 - P k := fun k h => by unfold dsN; rw [if_pos h]
  have n0 : ∀ k, ¬ k / 4 % 2 = t → dsN P t k = 0 := fun k h => by unfold dsN; rw [if_neg h]
  rw [e]
  unfold dst
  rw [sZ_4, sZ_4]
  rcases h with rfl | rfl
  · rw [n1 0 (by decide), n1 1 (by decide), n1 2 (by decide), n1 3 (by decide), n0 4 (by decide), n0 5 (by decide), n0 6 (by decide), n0 7 (by decide), n1 8 (by decide), n1 9 (by decide), n1 10 (by decide), n1 11 (by decide), n0 12 (by decide), n0 13 (by decide), n0 14 (by decide), n0 15 (by decide)]
    show _ = 72 - P 0 + (72 - P 1) + (72 - P 2) + (72 - P 3) + (72 - P 8 + (72 - P 9) + (72 - P 10) + (72 - P 11))
    omega
  · rw [n0 0 (by decide), n0 1 (by decide), n0 2 (by decide), n0 3 (by decide), n1 4 (by decide), n1 5 (by decide), n1 6 (by decide), n1 7 (by decide), n0 8 (by decide), n0 9 (by decide), n0 10 (by decide), n0 11 (by decide), n1 12 (by decide), n1 13 (by decide), n1 14 (by decide), n1 15 (by decide)]
    show _ = 72 - P 4 + (72 - P 5) + (72 - P 6) + (72 - P 7) + (72 - P 12 + (72 - P 13) + (72 - P 14) + (72 - P 15))
    omega
theorem thr_no {P : Int → Int} {k b : Int} (h : ¬ (1 ≤ P k ∧ P k ≤ 64)) : thr P k b = 0 := by unfold thr; rw [iC_f h]
theorem thr_on {P : Int → Int} {k b : Int} (h : 1 ≤ P k ∧ P k ≤ 64) : thr P k b = sZ (thA P (sq (k / 4) (P k)) (mv P b)) 7 := by unfold thr; rw [iC_t h]
theorem wyA_y {P : Int → Int} {tu g w m : Int} (h : ¬ ((m ≤ 1 ∨ m = 6) ∧ 2 ≤ g)) (h2 : dzP P (mv P tu) m w) : wyA P tu g w m = wyI m := by unfold wyA; rw [iC_t ⟨h, h2⟩]
theorem wyA_n {P : Int → Int} {tu g w m : Int} (h : ¬ (¬ ((m ≤ 1 ∨ m = 6) ∧ 2 ≤ g) ∧ dzP P (mv P tu) m w)) : wyA P tu g w m = 0 := by unfold wyA; rw [iC_f h]
theorem thA_y {P : Int → Int} {q a m : Int} (h : cpP P q a m) : thA P q a m = wyI m := by unfold thA; rw [iC_t h]
theorem thA_n {P : Int → Int} {q a m : Int} (h : ¬ cpP P q a m) : thA P q a m = 0 := by unfold thA; rw [iC_f h]
theorem thr_off {P : Int → Int} {k a b : Int} (h : sA a (P k) = -1) : sZ (thA P (-1) (mv P b)) 7 = thr P k b := by
  have h0 : ¬ (1 ≤ P k ∧ P k ≤ 64) := by
    intro q
    have := sq_rng a (P k)
    unfold sA at h; rw [if_pos q] at h; omega
  have e : ∀ m, thA P (-1) (mv P b) m = 0 := fun m => thA_n (fun ⟨j, _, _, hc⟩ => by
    have := sq_rng (mv P b) (tgt P (4 * mv P b + j) m)
    have := hc.2
    omega)
  rw [thr_no h0, sZ_7, e, e, e, e, e, e, e]
  omega
theorem thr_at {P : Int → Int} {k a b : Int} (ha : k / 4 = a) : sZ (thA P (sA a (P k)) (mv P b)) 7 = thr P k b := by
  by_cases h : 1 ≤ P k ∧ P k ≤ 64
  · rw [thr_on h, ha]; unfold sA; rw [if_pos h]
  · have e : sA a (P k) = -1 := by unfold sA; rw [if_neg h]
    rw [e]; exact thr_off e
end
section
def NW (sz : Nat) : Nat → Prop := fun q => sz ≤ q
theorem EV.old {D : va_G} {cI cL : ClassId} {tw : Nat} {U : State} {H : Heap} (h : EV D cI cL tw FF U H) : EV D cI cL tw (NW H.size) U H := by
  have hlt : ∀ {a : Nat} {ce : Cell}, H[a]? = some ce → ¬ NW H.size a := fun he z => Nat.not_le.mpr (Array.getElem?_eq_some_iff.mp he).1 z
  have zz : ∀ {C n d : String} {v : Value}, va_Z C n d v FF U H → va_Z C n d v (NW H.size) U H := fun ⟨cf, kf, fi, f, a, cq9, h1, h2, h3, h4, h5, h6, h7, _⟩ => ⟨cf, kf, fi, f, a, cq9, h1, h2, h3, h4, h5, h6, h7, hlt h5⟩
  have zq : ∀ {C n d : String}, vx_Zq C n d FF U H → vx_Zq C n d (NW H.size) U H := by
    intro C n d hq
    obtain ⟨h1, c, k, i, f, a, cell, g1, g2, g3, g4, g5, g6, g7, g8, g9, _⟩ := hq
    refine ⟨?_, c, k, i, f, a, cell, g1, g2, g3, g4, g5, g6, g7, g8, g9, hlt g5⟩
    rcases h1 with h1 | ⟨t, h1⟩
    · exact Or.inl (zz h1)
    · exact Or.inr ⟨t, zz h1⟩
  obtain ⟨e1, e2, e3, ⟨cell, t1, t2, t3, t4, t5, t6, _⟩, ⟨e5, e6⟩, e7⟩ := h
  exact ⟨e1, e2, zz e3, ⟨cell, t1, t2, t3, t4, t5, t6, hlt t1⟩, ⟨zq e5, zq e6⟩, e7⟩
theorem va_S.mono {A B : Nat → Prop} {H0 H : Heap} {locs : List Loc} (h : va_S B H0 H locs) (hAB : ∀ q, B q → A q) : va_S A H0 H locs := ⟨h.1, fun q h1 h2 => h.2.1 q h1 (fun z => h2 (hAB q z)), fun q hq => hAB _ (h.2.2 q hq)⟩
theorem va_P.old {D : va_G} {cl : List vw_C} {ws : va_W} {H H1 : Heap} (h : va_P D cl ws H) (hk : ∀ q : Nat, q < H.size → ¬ NW H.size q → H1[q]? = H[q]?) : va_P D cl ws H1 := h.kept (fun k q hq => hk q.1 (h k q hq).lt (Nat.not_le.mpr (h k q hq).lt))
def xnm : List String := ["java/lang/RuntimeException", "java/lang/Exception"]
/-- reads, answers a number or throws -/
def XRi (l : Launch) (y : MethodName) (ws : List Cond) (rm : Room) (D : va_G) (cI cL : ClassId) (tw : Nat) (av : List Value) (WS : va_W) (post : Int → Prop) (xc : String → Prop) (mc ms : Nat) : Prop :=
  ∀ sz : Nat, vx_Met l y ws rm (va_Pc av (fun U => U.heap.size = sz ∧ EV D cI cL tw FF U U.heap ∧ va_P D vwCl WS U.heap)) (va_Qi (fun (r : Int32) (z : Int) => r = iI z ∧ post z) (fun _ _ => True) (NW sz)) (vx_X (fun _ : Unit => True) (fun E _ _ => xc E) (NW sz)) mc ms (NW sz)
/-- reads, answers nothing or throws -/
def XRv (l : Launch) (y : MethodName) (ws : List Cond) (rm : Room) (D : va_G) (cI cL : ClassId) (tw : Nat) (av : List Value) (WS : va_W) (post : Prop) (xc : String → Prop) (mc ms : Nat) : Prop :=
  ∀ sz : Nat, vx_Met l y ws rm (va_Pc av (fun U => U.heap.size = sz ∧ EV D cI cL tw FF U U.heap ∧ va_P D vwCl WS U.heap)) (va_Qv (fun _ : Unit => post) (fun _ _ => True) (NW sz)) (vx_X (fun _ : Unit => True) (fun E _ _ => xc E) (NW sz)) mc ms (NW sz)
/-- writes its world and answers a number, or throws and has changed nothing -/
def XWi {S : Type} (l : Launch) (y : MethodName) (ws : List Cond) (rm : Room) (D : va_G) (cI cL : ClassId) (tw : Nat) (av : List Value) (WS : va_W) (post : Int → S → Prop) (W2 : S → va_W) (xc : String → Prop) (mc ms : Nat) : Prop :=
  ∀ sz : Nat, vx_Met l y ws rm (va_Pc av (fun U => U.heap.size = sz ∧ EV D cI cL tw (va_A WS sz) U U.heap ∧ va_P D vwCl WS U.heap ∧ va_D (fun _ => True) WS)) (va_Qi (fun (r : Int32) (u : Int × S) => r = iI u.1 ∧ post u.1 u.2) (fun u t => va_P D vwCl (W2 u.2) t.heap ∧ va_D (va_A WS sz) (W2 u.2)) (va_A WS sz)) (vx_X (fun _ : Unit => True) (fun E _ _ => xc E) (NW sz)) mc ms (va_A WS sz)

theorem xri_of {l : Launch} {y : MethodName} {ws ws' : List Cond} {rm : Room} {D : va_G} {cI cL : ClassId} {tw : Nat} {av : List Value} {WS : va_W} {post : Int → Prop} {xc : String → Prop} {mc ms : Nat} {cc : ByteArray} {maxL : Nat} {rt : FieldType}
    (hst : l.stackTraces = false) (hy : plainName y.cls = true) (hw : ws = Cond.code y cc maxL (some rt) :: ws') (hown : y.cls = RX1) (hrt : rt = .int ∨ (rt = .boolean ∧ ∀ z, post z → z = 0 ∨ z = 1)) (hlen : (lg_sl av).length ≤ maxL) (hmc : mc ≤ rm.cells) (hms : ms ≤ rm.slots)
    (body : ∀ (p : Program) (e : Env) (R : Room) (s : State) (m : MethodId) (args : Array Value) (below : List Frame) (meth : Method) (c : Code) (H0 : Heap) (Q : State → Prop) (ls : Array Slot) (A : Nat → Prop), CallFix p m c cc maxL s args ws RX1 → (rm.frames ≤ R.frames ∧ rm.locals ≤ R.locals) → (rm.cells ≤ R.cells ∧ rm.slots ≤ R.slots) → EV D cI cL tw A s H0 → va_P D vwCl WS H0 → (∀ q : Nat, NW H0.size q → A q) → va_S (NW H0.size) H0 H0 [] → lv_has ls maxL (lv_args 0 av) → 
      (∀ (z : Int) (pc : Nat) (ls : Array Slot) (H : Heap) (locs : List Loc) (cells slots : Nat), decode cc pc = .ok (.ireturn, 1) → post z → va_S (NW H0.size) H0 H locs → cells ≤ mc → slots ≤ ms → W p l e R s m args below meth c H locs cells slots Q (F0 m pc ls [.int (iI z)])) → (∀ (E : String) (ce : Cell) (q pc : Nat) (ls : Array Slot) (rest : List Value) (H : Heap) (locs : List Loc) (cells slots : Nat), xc E → H[q]? = some ce → ce.vm = .none → s.vm.findClass E = some ce.cls → va_S (NW H0.size) H0 H locs → cells ≤ mc → slots ≤ ms → vx_W p l e R s m args below meth c H locs cells slots Q (F0 m pc ls rest) q) →
      (∀ (E text : String) (ik is ic pc : Nat) (ls : Array Slot) (rest : List Value) (H : Heap) (locs : List Loc) (cells slots : Nat), 6 ≤ rm.frames → 100 ≤ rm.locals → Bundle.fit E = true → Cond.classLink RX1 ik E ∈ ws → Cond.initialized E ∈ ws → (is, text) ∈ strL → (∀ w ∈ (vx_atS RX1 ic E xnm).filter goodWord, w ∈ ws) → (∀ w ∈ (vx_atS RX1 ic E xnm).filter (fun w => !goodWord w), w ∈ nestL) → (∀ w ∈ Cond.classLink RX1 ik E :: Cond.initialized E :: vx_atS RX1 ic E xnm, vx_ot w = true) →
        decode cc pc = .ok (.new ik, 3) → decode cc (pc + 3) = .ok (.dup, 1) → decode cc (pc + 4) = .ok (.ldc is, 2) → decode cc (pc + 6) = .ok (.invokespecial ic, 3) → decode cc (pc + 9) = .ok (.athrow, 1) → xc E → va_S (NW H0.size) H0 H locs → ls.size = maxL → (rest.map fun v => v.category).sum ≤ 8 → cells + 1 ≤ mc → slots + 6 ≤ ms → W p l e R s m args below meth c H locs cells slots Q (F0 m pc ls rest)) → W p l e R s m args below meth c H0 [] 0 0 Q (F0 m 0 ls [])) : XRi l y ws rm D cI cL tw av WS post xc mc ms := by
  intro sz
  refine vx_ofW (cc := cc) (maxL := maxL) (ret := some rt) hy hw ?_
  intro p e s m args below meth c s₁ B hml ht hv
  obtain ⟨rfl, hsz, hE0, hP⟩ := hv
  subst hsz
  have hE := hE0.old
  have hts := atoms_spec (ws := ws) B.pre
  have hown1 : s.vm.findClass RX1 = some m.cls := by rw [← hown]; exact findClass_of_methodNamed B.named
  have hl := lv_entry av hlen
  rw [lg_entry_eq]
  refine body p e (headSpec ws rm).room s m _ below meth c s.heap _ _ (NW s.heap.size) ⟨B.exec, B.bytes, hml, hown1, hts⟩ ⟨Nat.le_refl _, Nat.le_refl _⟩ ⟨Nat.le_refl _, Nat.le_refl _⟩ hE hP (fun _ h => h) va_S.rf hl ?_ ?_ ?_
  · intro z pc ls H locs cells slots hdg hz hN hc hs
    refine vx_ret (W.widen hc hs ?_)
    rcases hrt with rfl | ⟨rfl, h01⟩
    · exact W.iret B.exec B.bytes B.returns (fun t ht hW => ⟨⟨iI z, z, rfl, ⟨rfl, hz⟩, trivial⟩, hN.F ht⟩) hN.2.2 hdg B.notSynchronized
    · refine W.zret (ty := .boolean) B.exec B.bytes B.returns ?_ (fun t ht hW => ⟨⟨iI z, z, rfl, ⟨rfl, hz⟩, trivial⟩, hN.F ht⟩) hN.2.2 hdg B.notSynchronized
      rcases h01 z hz with rfl | rfl <;> rfl
  · intro E ce q pc ls rest H locs cells slots hxc hce hcv hcl hN hc hs
    exact vx_out (fun x hx => (ht x hx).elim) B.notSynchronized hce hcv hcl (fun t ht1 _ => ⟨(), trivial, hxc, hN.F ht1⟩) (fun z hz => id (hN.2.2 z hz)) hc hs
  · intro E text ik is ic pc ls rest H locs cells slots hr1 hr2 hfit hk hini hstr hat0 hbad hgood d0 d3 d4 d6 d9 hxc hN hls hcat hc hs
    obtain ⟨sa, hsa⟩ := hE.2.2.2.2.2.1 (is, text) hstr
    exact vx_throwS (names := xnm) (A := NW s.heap.size) B.exec B.bytes hst hown1 hfit (by intro n hn; simp only [xnm, List.mem_cons, List.not_mem_nil, or_false] at hn; rcases hn with rfl | rfl <;> decide) (hts _ hk) (hts _ hini) hsa (vx_hat (fun w hw => hts _ (hat0 w hw)) hbad (fun w hw => nest_use hw (hE.2.1 w hw))) hgood (hE.2.2.2.2.1.1.narrow (fun _ h => h)) (hE.2.2.2.2.1.2.narrow (fun _ h => h)) hN (by rw [hls, hml]) d0 d3 d4 d6 d9 (fun x hx => (ht x hx).elim) (Nat.lt_of_lt_of_le (by show 2 + 3 < 6; decide) hr1) (by have : (13 * (xnm.length + 1) + 43) = 82 := rfl; show _ ≤ rm.locals; omega) (by show _ ≤ rm.cells; omega) (by show _ ≤ rm.slots; omega) B.notSynchronized (fun t hal h1 h2 => ⟨(), trivial, hxc, ⟨Nat.le_trans hN.1 h1, fun q hq hq2 => by rw [h2 q (Nat.lt_of_lt_of_le hq hN.1)]; exact hN.2.1 q hq hq2⟩⟩) (fun z hz => id (hN.2.2 z hz)) hc hs
theorem xrv_of {l : Launch} {y : MethodName} {ws ws' : List Cond} {rm : Room} {D : va_G} {cI cL : ClassId} {tw : Nat} {av : List Value} {WS : va_W} {post : Prop} {xc : String → Prop} {mc ms : Nat} {cc : ByteArray} {maxL : Nat}
    (hst : l.stackTraces = false) (hy : plainName y.cls = true) (hw : ws = Cond.code y cc maxL (none) :: ws') (hown : y.cls = RX1) (hlen : (lg_sl av).length ≤ maxL) (hmc : mc ≤ rm.cells) (hms : ms ≤ rm.slots)
    (body : ∀ (p : Program) (e : Env) (R : Room) (s : State) (m : MethodId) (args : Array Value) (below : List Frame) (meth : Method) (c : Code) (H0 : Heap) (Q : State → Prop) (ls : Array Slot) (A : Nat → Prop), CallFix p m c cc maxL s args ws RX1 → (rm.frames ≤ R.frames ∧ rm.locals ≤ R.locals) → (rm.cells ≤ R.cells ∧ rm.slots ≤ R.slots) → EV D cI cL tw A s H0 → va_P D vwCl WS H0 → (∀ q : Nat, NW H0.size q → A q) → va_S (NW H0.size) H0 H0 [] → lv_has ls maxL (lv_args 0 av) → 
      (∀ (pc : Nat) (ls : Array Slot) (H : Heap) (locs : List Loc) (cells slots : Nat), decode cc pc = .ok (.return_, 1) → post → va_S (NW H0.size) H0 H locs → cells ≤ mc → slots ≤ ms → W p l e R s m args below meth c H locs cells slots Q (F0 m pc ls [])) → (∀ (E : String) (ce : Cell) (q pc : Nat) (ls : Array Slot) (rest : List Value) (H : Heap) (locs : List Loc) (cells slots : Nat), xc E → H[q]? = some ce → ce.vm = .none → s.vm.findClass E = some ce.cls → va_S (NW H0.size) H0 H locs → cells ≤ mc → slots ≤ ms → vx_W p l e R s m args below meth c H locs cells slots Q (F0 m pc ls rest) q) →
      (∀ (E text : String) (ik is ic pc : Nat) (ls : Array Slot) (rest : List Value) (H : Heap) (locs : List Loc) (cells slots : Nat), 6 ≤ rm.frames → 100 ≤ rm.locals → Bundle.fit E = true → Cond.classLink RX1 ik E ∈ ws → Cond.initialized E ∈ ws → (is, text) ∈ strL → (∀ w ∈ (vx_atS RX1 ic E xnm).filter goodWord, w ∈ ws) → (∀ w ∈ (vx_atS RX1 ic E xnm).filter (fun w => !goodWord w), w ∈ nestL) → (∀ w ∈ Cond.classLink RX1 ik E :: Cond.initialized E :: vx_atS RX1 ic E xnm, vx_ot w = true) →
        decode cc pc = .ok (.new ik, 3) → decode cc (pc + 3) = .ok (.dup, 1) → decode cc (pc + 4) = .ok (.ldc is, 2) → decode cc (pc + 6) = .ok (.invokespecial ic, 3) → decode cc (pc + 9) = .ok (.athrow, 1) → xc E → va_S (NW H0.size) H0 H locs → ls.size = maxL → (rest.map fun v => v.category).sum ≤ 8 → cells + 1 ≤ mc → slots + 6 ≤ ms → W p l e R s m args below meth c H locs cells slots Q (F0 m pc ls rest)) → W p l e R s m args below meth c H0 [] 0 0 Q (F0 m 0 ls [])) : XRv l y ws rm D cI cL tw av WS post xc mc ms := by
  intro sz
  refine vx_ofW (cc := cc) (maxL := maxL) (ret := none) hy hw ?_
  intro p e s m args below meth c s₁ B hml ht hv
  obtain ⟨rfl, hsz, hE0, hP⟩ := hv
  subst hsz
  have hE := hE0.old
  have hts := atoms_spec (ws := ws) B.pre
  have hown1 : s.vm.findClass RX1 = some m.cls := by rw [← hown]; exact findClass_of_methodNamed B.named
  have hl := lv_entry av hlen
  rw [lg_entry_eq]
  refine body p e (headSpec ws rm).room s m _ below meth c s.heap _ _ (NW s.heap.size) ⟨B.exec, B.bytes, hml, hown1, hts⟩ ⟨Nat.le_refl _, Nat.le_refl _⟩ ⟨Nat.le_refl _, Nat.le_refl _⟩ hE hP (fun _ h => h) va_S.rf hl ?_ ?_ ?_
  · intro pc ls H locs cells slots hdg hz hN hc hs
    exact vx_ret (W.widen hc hs (W.vret B.exec B.bytes B.returns (fun t ht hW => ⟨⟨(), rfl, hz, trivial⟩, hN.F ht⟩) hN.2.2 hdg B.notSynchronized))
  · intro E ce q pc ls rest H locs cells slots hxc hce hcv hcl hN hc hs
    exact vx_out (fun x hx => (ht x hx).elim) B.notSynchronized hce hcv hcl (fun t ht1 _ => ⟨(), trivial, hxc, hN.F ht1⟩) (fun z hz => id (hN.2.2 z hz)) hc hs
  · intro E text ik is ic pc ls rest H locs cells slots hr1 hr2 hfit hk hini hstr hat0 hbad hgood d0 d3 d4 d6 d9 hxc hN hls hcat hc hs
    obtain ⟨sa, hsa⟩ := hE.2.2.2.2.2.1 (is, text) hstr
    exact vx_throwS (names := xnm) (A := NW s.heap.size) B.exec B.bytes hst hown1 hfit (by intro n hn; simp only [xnm, List.mem_cons, List.not_mem_nil, or_false] at hn; rcases hn with rfl | rfl <;> decide) (hts _ hk) (hts _ hini) hsa (vx_hat (fun w hw => hts _ (hat0 w hw)) hbad (fun w hw => nest_use hw (hE.2.1 w hw))) hgood (hE.2.2.2.2.1.1.narrow (fun _ h => h)) (hE.2.2.2.2.1.2.narrow (fun _ h => h)) hN (by rw [hls, hml]) d0 d3 d4 d6 d9 (fun x hx => (ht x hx).elim) (Nat.lt_of_lt_of_le (by show 2 + 3 < 6; decide) hr1) (by have : (13 * (xnm.length + 1) + 43) = 82 := rfl; show _ ≤ rm.locals; omega) (by show _ ≤ rm.cells; omega) (by show _ ≤ rm.slots; omega) B.notSynchronized (fun t hal h1 h2 => ⟨(), trivial, hxc, ⟨Nat.le_trans hN.1 h1, fun q hq hq2 => by rw [h2 q (Nat.lt_of_lt_of_le hq hN.1)]; exact hN.2.1 q hq hq2⟩⟩) (fun z hz => id (hN.2.2 z hz)) hc hs
theorem xwi_of {S : Type} {l : Launch} {y : MethodName} {ws ws' : List Cond} {rm : Room} {D : va_G} {cI cL : ClassId} {tw : Nat} {av : List Value} {WS : va_W} {post : Int → S → Prop} {W2 : S → va_W} {xc : String → Prop} {mc ms : Nat} {cc : ByteArray} {maxL : Nat}
    (hst : l.stackTraces = false) (hy : plainName y.cls = true) (hw : ws = Cond.code y cc maxL (some .int) :: ws') (hown : y.cls = RX1) (hlen : (lg_sl av).length ≤ maxL) (hmc : mc ≤ rm.cells) (hms : ms ≤ rm.slots)
    (body : ∀ (p : Program) (e : Env) (R : Room) (s : State) (m : MethodId) (args : Array Value) (below : List Frame) (meth : Method) (c : Code) (H0 : Heap) (Q : State → Prop) (ls : Array Slot) (A : Nat → Prop), CallFix p m c cc maxL s args ws RX1 → (rm.frames ≤ R.frames ∧ rm.locals ≤ R.locals) → (rm.cells ≤ R.cells ∧ rm.slots ≤ R.slots) → EV D cI cL tw A s H0 → va_P D vwCl WS H0 → va_D A WS → (∀ q : Nat, NW H0.size q → A q) → va_S (NW H0.size) H0 H0 [] → lv_has ls maxL (lv_args 0 av) → 
      (∀ (z : Int) (u : S) (pc : Nat) (ls : Array Slot) (H : Heap) (locs : List Loc) (cells slots : Nat), decode cc pc = .ok (.ireturn, 1) → post z u → va_P D vwCl (W2 u) H → va_D A (W2 u) → va_S A H0 H locs → cells ≤ mc → slots ≤ ms → W p l e R s m args below meth c H locs cells slots Q (F0 m pc ls [.int (iI z)])) → (∀ (E : String) (ce : Cell) (q pc : Nat) (ls : Array Slot) (rest : List Value) (H : Heap) (locs : List Loc) (cells slots : Nat), xc E → H[q]? = some ce → ce.vm = .none → s.vm.findClass E = some ce.cls → va_S (NW H0.size) H0 H locs → cells ≤ mc → slots ≤ ms → vx_W p l e R s m args below meth c H locs cells slots Q (F0 m pc ls rest) q) →
      (∀ (E text : String) (ik is ic pc : Nat) (ls : Array Slot) (rest : List Value) (H : Heap) (locs : List Loc) (cells slots : Nat), 6 ≤ rm.frames → 100 ≤ rm.locals → Bundle.fit E = true → Cond.classLink RX1 ik E ∈ ws → Cond.initialized E ∈ ws → (is, text) ∈ strL → (∀ w ∈ (vx_atS RX1 ic E xnm).filter goodWord, w ∈ ws) → (∀ w ∈ (vx_atS RX1 ic E xnm).filter (fun w => !goodWord w), w ∈ nestL) → (∀ w ∈ Cond.classLink RX1 ik E :: Cond.initialized E :: vx_atS RX1 ic E xnm, vx_ot w = true) →
        decode cc pc = .ok (.new ik, 3) → decode cc (pc + 3) = .ok (.dup, 1) → decode cc (pc + 4) = .ok (.ldc is, 2) → decode cc (pc + 6) = .ok (.invokespecial ic, 3) → decode cc (pc + 9) = .ok (.athrow, 1) → xc E → va_S (NW H0.size) H0 H locs → ls.size = maxL → (rest.map fun v => v.category).sum ≤ 8 → cells + 1 ≤ mc → slots + 6 ≤ ms → W p l e R s m args below meth c H locs cells slots Q (F0 m pc ls rest)) → W p l e R s m args below meth c H0 [] 0 0 Q (F0 m 0 ls [])) : XWi l y ws rm D cI cL tw av WS post W2 xc mc ms := by
  intro sz
  refine vx_ofW (cc := cc) (maxL := maxL) (ret := some .int) hy hw ?_
  intro p e s m args below meth c s₁ B hml ht hv
  obtain ⟨rfl, hsz, hE, hP, hD0⟩ := hv
  subst hsz
  have hts := atoms_spec (ws := ws) B.pre
  have hown1 : s.vm.findClass RX1 = some m.cls := by rw [← hown]; exact findClass_of_methodNamed B.named
  have hl := lv_entry av hlen
  have hD := hD0.self (sz := s.heap.size)
  have hA : ∀ q : Nat, NW s.heap.size q → va_A WS s.heap.size q := fun q h => Or.inr h
  rw [lg_entry_eq]
  refine body p e (headSpec ws rm).room s m _ below meth c s.heap _ _ (va_A WS s.heap.size) ⟨B.exec, B.bytes, hml, hown1, hts⟩ ⟨Nat.le_refl _, Nat.le_refl _⟩ ⟨Nat.le_refl _, Nat.le_refl _⟩ hE hP hD hA va_S.rf hl ?_ ?_ ?_
  · intro z u pc ls H locs cells slots hdg hz hP1 hD1 hS1 hc hs
    refine vx_ret (W.widen hc hs ?_)
    exact W.iret B.exec B.bytes B.returns (fun t ht hW => ⟨⟨iI z, (z, u), rfl, ⟨rfl, hz⟩, by rw [ht]; exact hP1, hD1⟩, hS1.F ht⟩) hS1.2.2 hdg B.notSynchronized
  · intro E ce q pc ls rest H locs cells slots hxc hce hcv hcl hN hc hs
    exact vx_out (fun x hx => (ht x hx).elim) B.notSynchronized hce hcv hcl (fun t ht1 _ => ⟨(), trivial, hxc, hN.F ht1⟩) (fun z hz => hA _ (hN.2.2 z hz)) hc hs
  · intro E text ik is ic pc ls rest H locs cells slots hr1 hr2 hfit hk hini hstr hat0 hbad hgood d0 d3 d4 d6 d9 hxc hN hls hcat hc hs
    obtain ⟨sa, hsa⟩ := hE.2.2.2.2.2.1 (is, text) hstr
    exact vx_throwS (names := xnm) (A := NW s.heap.size) B.exec B.bytes hst hown1 hfit (by intro n hn; simp only [xnm, List.mem_cons, List.not_mem_nil, or_false] at hn; rcases hn with rfl | rfl <;> decide) (hts _ hk) (hts _ hini) hsa (vx_hat (fun w hw => hts _ (hat0 w hw)) hbad (fun w hw => nest_use hw (hE.2.1 w hw))) hgood (hE.2.2.2.2.1.1.narrow hA) (hE.2.2.2.2.1.2.narrow hA) hN (by rw [hls, hml]) d0 d3 d4 d6 d9 (fun x hx => (ht x hx).elim) (Nat.lt_of_lt_of_le (by show 2 + 3 < 6; decide) hr1) (by have : (13 * (xnm.length + 1) + 43) = 82 := rfl; show _ ≤ rm.locals; omega) (by show _ ≤ rm.cells; omega) (by show _ ≤ rm.slots; omega) B.notSynchronized (fun t hal h1 h2 => ⟨(), trivial, hxc, ⟨Nat.le_trans hN.1 h1, fun q hq hq2 => by rw [h2 q (Nat.lt_of_lt_of_le hq hN.1)]; exact hN.2.1 q hq hq2⟩⟩) (fun z hz => hA _ (hN.2.2 z hz)) hc hs
section XRC
variable {p : Program} {l : Launch} {e : Env} {R : Room} {s : State} {m : MethodId} {args : Array Value} {below : List Frame} {meth : Method} {c : Code} {H : Heap} {locs : List Loc} {cells slots : Nat} {Q : State → Prop}
variable {cc : ByteArray} {pc : Nat} {ls : Array Slot} {rest st0 : List Value} {D : va_G} {cI cL : ClassId} {tw : Nat} {A : Nat → Prop} {ws : va_W} {H0 : Heap} {nL : Nat} {Ts : List Cond} {own : String}
theorem r_xcS {y : MethodName} {ws2 ws3 : List Cond} {rm : Room} {As : List Value} {xc : String → Prop} {index maxL n nf nl mc ms : Nat} {bytes : ByteArray} {ret : Option FieldType} {post : Prop} (S9 : CallFix p m c cc nL s args Ts own) (hM : XRv l y ws2 rm D cI cL tw As [] post xc mc ms) (hG : GoodIn Ts (va_wsS own index y ws2)) (hw : ws2 = Cond.code y bytes maxL ret :: ws3) (hrc : rm.cells = mc) (hrs : rm.slots = ms)
    (hd : y.cls ≠ "java/lang/invoke/MethodHandle" ∧ y.cls ≠ "java/lang/invoke/VarHandle" ∧ (parseMethodDescriptor y.desc).map (fun d => d.parameters.length) = some n) (hR : nf ≤ R.frames ∧ nl ≤ R.locals) (hf : rm.frames + 1 ≤ nf) (hlo : 8 + (maxL + 11) + rm.locals ≤ nl) (hE : EV D cI cL tw A s H) (hP : va_P D vwCl ws H) (hN : va_S (NW H0.size) H0 H locs) (hn : As.length = n) (hsz : ls.size = nL) (hst : st0 = As.reverse ++ rest) (hcat : (rest.map fun v => v.category).sum ≤ 8) (hdg : decode cc pc = .ok (.invokestatic index, 3)) (hce : cells + mc ≤ R.cells ∧ slots + ms ≤ R.slots)
    (kx : ∀ (E : String) (ce : Cell) (q : Nat) (H1 : Heap) (locs1 : List Loc), xc E → H1[q]? = some ce → ce.vm = .none → s.vm.findClass E = some ce.cls → va_P D vwCl ws H1 → va_S (NW H0.size) H0 H1 locs1 → vx_W p l e R s m args below meth c H1 locs1 (cells + mc) (slots + ms) Q (F0 m pc ls rest) q)
    (k : ∀ (H1 : Heap) (locs1 : List Loc), post → va_P D vwCl ws H1 → va_S (NW H0.size) H0 H1 locs1 → W p l e R s m args below meth c H1 locs1 (cells + mc) (slots + ms) Q (F0 m (pc + 3) ls rest)) : W p l e R s m args below meth c H locs cells slots Q (F0 m pc ls st0) := by
  subst hst
  have hup : ∀ q, q < H.size → NW H.size q → NW H0.size q := fun q _ h => Nat.le_trans hN.1 h
  skip
  refine vx_callv (vx_runS (As := As) (rest := rest) S9 (hM H.size) (va_cwS n S9.2.2.2.2 hG hw hrc hrs hd ⟨Nat.le_trans hf hR.1, Nat.le_trans hlo hR.2⟩) ⟨fun a U g mk q => ⟨q.1, q.2.1, q.2.2.1.same (u := U) rfl, q.2.2.2⟩, fun U hU hW => ⟨rfl, by rw [hU], by rw [hU]; exact (hE.narrow (fun _ h => h.elim)).warm hW, by rw [hU]; exact (fun k q hk => by simp at hk)⟩⟩ rfl hn hsz rfl (lv_room hcat) hdg hce) hN hup (fun q h => Nat.le_trans hN.1 h) hup (fun E ce q9 u t H1 locs1 ht hvm _ hxc hz1 hk1 hS2 h5 h6 h7 => kx E ce q9 H1 locs1 hxc h5 h6 h7 (hP.old hk1) hS2) (fun u t H1 locs1 ht hvm hw2 hB hz1 hk1 hS2 => ?_)
  · exact k H1 locs1 hw2 (hP.old hk1) hS2
theorem r_xcVv {y : MethodName} {ws2 ws3 : List Cond} {rm : Room} {As : List Value} {xc : String → Prop} {index maxL n nf nl mc ms : Nat} {bytes : ByteArray} {ret : Option FieldType} {WSc : va_W} {b : Nat} {C : String} {post : Prop} (S9 : CallFix p m c cc nL s args Ts own) (hM : XRv l y ws2 rm D cI cL tw (.ref b :: As) WSc post xc mc ms) (hG : GoodIn Ts (wsV own index C y ws2)) (hw : ws2 = Cond.code y bytes maxL ret :: ws3) (hrc : rm.cells = mc) (hrs : rm.slots = ms)
    (hd : y.cls = C ∧ y.cls ≠ "java/lang/invoke/MethodHandle" ∧ y.cls ≠ "java/lang/invoke/VarHandle" ∧ (parseMethodDescriptor y.desc).map (fun d => d.parameters.length) = some n) (hR : nf ≤ R.frames ∧ nl ≤ R.locals) (hf : rm.frames + 1 ≤ nf) (hlo : 8 + (maxL + 11) + rm.locals ≤ nl) (hE : EV D cI cL tw A s H) (hP : va_P D vwCl ws H) (hN : va_S (NW H0.size) H0 H locs) (is : List Nat) (hCf : is.filterMap (fun i => ws[i]?) = WSc) (q0 : Nat) {ci N : Nat} {T : u_T} {fs : List Value} (hrec : WSc[q0]? = some (b, .inr (ci, fs))) (hcl : vwCl[ci]? = some (C, T, N)) (hn : As.length = n) (hsz : ls.size = nL) (hst : st0 = As.reverse ++ .ref b :: rest) (hcat : (rest.map fun v => v.category).sum ≤ 8) (hdg : decode cc pc = .ok (.invokevirtual index, 3)) (hce : cells + mc ≤ R.cells ∧ slots + ms ≤ R.slots)
    (kx : ∀ (E : String) (ce : Cell) (q : Nat) (H1 : Heap) (locs1 : List Loc), xc E → H1[q]? = some ce → ce.vm = .none → s.vm.findClass E = some ce.cls → va_P D vwCl ws H1 → va_S (NW H0.size) H0 H1 locs1 → vx_W p l e R s m args below meth c H1 locs1 (cells + mc) (slots + ms) Q (F0 m pc ls rest) q)
    (k : ∀ (H1 : Heap) (locs1 : List Loc), post → va_P D vwCl ws H1 → va_S (NW H0.size) H0 H1 locs1 → W p l e R s m args below meth c H1 locs1 (cells + mc) (slots + ms) Q (F0 m (pc + 3) ls rest)) : W p l e R s m args below meth c H locs cells slots Q (F0 m pc ls st0) := by
  subst hst
  have hup : ∀ q, q < H.size → NW H.size q → NW H0.size q := fun q _ h => Nat.le_trans hN.1 h
  have hPc := hP.sub is hCf
  refine vx_callv (vx_runV (As := As) (rest := rest) S9 (hM H.size) (cwV n S9.2.2.2.2 hG hw hrc hrs hd ⟨Nat.le_trans hf hR.1, Nat.le_trans hlo hR.2⟩) ⟨fun a U g mk q => ⟨q.1, q.2.1, q.2.2.1.same (u := U) rfl, q.2.2.2⟩, va_recv hE.1 hPc (ci := ci) (q0 := q0) hcl hrec, fun U hU hW => ⟨rfl, by rw [hU], by rw [hU]; exact (hE.narrow (fun _ h => h.elim)).warm hW, by rw [hU]; exact hPc⟩⟩ rfl hn hsz rfl (lv_room hcat) hdg hce) hN hup (fun q h => Nat.le_trans hN.1 h) hup (fun E ce q9 u t H1 locs1 ht hvm _ hxc hz1 hk1 hS2 h5 h6 h7 => kx E ce q9 H1 locs1 hxc h5 h6 h7 (hP.old hk1) hS2) (fun u t H1 locs1 ht hvm hw2 hB hz1 hk1 hS2 => ?_)
  · exact k H1 locs1 hw2 (hP.old hk1) hS2
theorem r_xcVi {y : MethodName} {ws2 ws3 : List Cond} {rm : Room} {As : List Value} {xc : String → Prop} {index maxL n nf nl mc ms : Nat} {bytes : ByteArray} {ret : Option FieldType} {WSc : va_W} {b : Nat} {C : String} {post : Int → Prop} (S9 : CallFix p m c cc nL s args Ts own) (hM : XRi l y ws2 rm D cI cL tw (.ref b :: As) WSc post xc mc ms) (hG : GoodIn Ts (wsV own index C y ws2)) (hw : ws2 = Cond.code y bytes maxL ret :: ws3) (hrc : rm.cells = mc) (hrs : rm.slots = ms)
    (hd : y.cls = C ∧ y.cls ≠ "java/lang/invoke/MethodHandle" ∧ y.cls ≠ "java/lang/invoke/VarHandle" ∧ (parseMethodDescriptor y.desc).map (fun d => d.parameters.length) = some n) (hR : nf ≤ R.frames ∧ nl ≤ R.locals) (hf : rm.frames + 1 ≤ nf) (hlo : 8 + (maxL + 11) + rm.locals ≤ nl) (hE : EV D cI cL tw A s H) (hP : va_P D vwCl ws H) (hN : va_S (NW H0.size) H0 H locs) (is : List Nat) (hCf : is.filterMap (fun i => ws[i]?) = WSc) (q0 : Nat) {ci N : Nat} {T : u_T} {fs : List Value} (hrec : WSc[q0]? = some (b, .inr (ci, fs))) (hcl : vwCl[ci]? = some (C, T, N)) (hn : As.length = n) (hsz : ls.size = nL) (hst : st0 = As.reverse ++ .ref b :: rest) (hcat : (rest.map fun v => v.category).sum ≤ 8) (hdg : decode cc pc = .ok (.invokevirtual index, 3)) (hce : cells + mc ≤ R.cells ∧ slots + ms ≤ R.slots)
    (kx : ∀ (E : String) (ce : Cell) (q : Nat) (H1 : Heap) (locs1 : List Loc), xc E → H1[q]? = some ce → ce.vm = .none → s.vm.findClass E = some ce.cls → va_P D vwCl ws H1 → va_S (NW H0.size) H0 H1 locs1 → vx_W p l e R s m args below meth c H1 locs1 (cells + mc) (slots + ms) Q (F0 m pc ls rest) q)
    (k : ∀ (z : Int) (H1 : Heap) (locs1 : List Loc), post z → va_P D vwCl ws H1 → va_S (NW H0.size) H0 H1 locs1 → W p l e R s m args below meth c H1 locs1 (cells + mc) (slots + ms) Q (F0 m (pc + 3) ls (.int (iI z) :: rest))) : W p l e R s m args below meth c H locs cells slots Q (F0 m pc ls st0) := by
  subst hst
  have hup : ∀ q, q < H.size → NW H.size q → NW H0.size q := fun q _ h => Nat.le_trans hN.1 h
  have hPc := hP.sub is hCf
  refine vx_calli (vx_runV (As := As) (rest := rest) S9 (hM H.size) (cwV n S9.2.2.2.2 hG hw hrc hrs hd ⟨Nat.le_trans hf hR.1, Nat.le_trans hlo hR.2⟩) ⟨fun a U g mk q => ⟨q.1, q.2.1, q.2.2.1.same (u := U) rfl, q.2.2.2⟩, va_recv hE.1 hPc (ci := ci) (q0 := q0) hcl hrec, fun U hU hW => ⟨rfl, by rw [hU], by rw [hU]; exact (hE.narrow (fun _ h => h.elim)).warm hW, by rw [hU]; exact hPc⟩⟩ rfl hn hsz rfl (lv_room hcat) hdg hce) hN hup (fun q h => Nat.le_trans hN.1 h) hup (fun E ce q9 u t H1 locs1 ht hvm _ hxc hz1 hk1 hS2 h5 h6 h7 => kx E ce q9 H1 locs1 hxc h5 h6 h7 (hP.old hk1) hS2) (fun r u t H1 locs1 ht hvm hw2 hB hz1 hk1 hS2 => ?_)
  · obtain ⟨hr, hz⟩ := hw2
    subst hr
    exact k u H1 locs1 hz (hP.old hk1) hS2
theorem r_xcW {S : Type} {y : MethodName} {ws2 ws3 : List Cond} {rm : Room} {As : List Value} {xc : String → Prop} {index maxL n nf nl mc ms : Nat} {bytes : ByteArray} {ret : Option FieldType} {WSc wr : va_W} {b : Nat} {C : String} {post : Int → S → Prop} {W2 : S → va_W} (S9 : CallFix p m c cc nL s args Ts own) (hM : XWi l y ws2 rm D cI cL tw (.ref b :: As) WSc post W2 xc mc ms) (hG : GoodIn Ts (wsV own index C y ws2)) (hw : ws2 = Cond.code y bytes maxL ret :: ws3) (hrc : rm.cells = mc) (hrs : rm.slots = ms)
    (hd : y.cls = C ∧ y.cls ≠ "java/lang/invoke/MethodHandle" ∧ y.cls ≠ "java/lang/invoke/VarHandle" ∧ (parseMethodDescriptor y.desc).map (fun d => d.parameters.length) = some n) (hR : nf ≤ R.frames ∧ nl ≤ R.locals) (hf : rm.frames + 1 ≤ nf) (hlo : 8 + (maxL + 11) + rm.locals ≤ nl) (hE : EV D cI cL tw A s H) (hP : va_P D vwCl ws H) (hD : va_D A ws) (hS : va_S A H0 H locs) (hA : ∀ q : Nat, H0.size ≤ q → A q) (is isR : List Nat) (hC : is.map (fun i => ws[i]?) = WSc.map some) (hCf : is.filterMap (fun i => ws[i]?) = WSc) (hnd : va_nd is = true) (hRr : isR.map (fun i => ws[i]?) = wr.map some) (hn2 : va_nd isR = true) (hdis : ∀ i ∈ isR, i ∉ is) (q0 : Nat) {ci N : Nat} {T : u_T} {fs : List Value} (hrec : WSc[q0]? = some (b, .inr (ci, fs))) (hcl : vwCl[ci]? = some (C, T, N)) (hn : As.length = n) (hsz : ls.size = nL) (hst : st0 = As.reverse ++ .ref b :: rest) (hcat : (rest.map fun v => v.category).sum ≤ 8) (hdg : decode cc pc = .ok (.invokevirtual index, 3)) (hce : cells + mc ≤ R.cells ∧ slots + ms ≤ R.slots)
    (kx : ∀ (E : String) (ce : Cell) (q : Nat) (H1 : Heap) (locs1 : List Loc), xc E → H1[q]? = some ce → ce.vm = .none → s.vm.findClass E = some ce.cls → va_P D vwCl ws H1 → va_S A H0 H1 locs1 → vx_W p l e R s m args below meth c H1 locs1 (cells + mc) (slots + ms) Q (F0 m pc ls rest) q)
    (k : ∀ (z : Int) (u : S) (H1 : Heap) (locs1 : List Loc), post z u → va_P D vwCl (wr ++ W2 u) H1 → va_D A (wr ++ W2 u) → va_S A H0 H1 locs1 → W p l e R s m args below meth c H1 locs1 (cells + mc) (slots + ms) Q (F0 m (pc + 3) ls (.int (iI z) :: rest))) : W p l e R s m args below meth c H locs cells slots Q (F0 m pc ls st0) := by
  subst hst
  have hPc := hP.sub is hCf
  have hDc := hD.sub is hnd hC
  have hFc := va_free (wc := WSc) hD hS hA is hC
  have hup : ∀ q, q < H.size → NW H.size q → A q := fun q _ h => hA q (Nat.le_trans hS.1 h)
  refine vx_calli (vx_runV (As := As) (rest := rest) S9 (hM H.size) (cwV n S9.2.2.2.2 hG hw hrc hrs hd ⟨Nat.le_trans hf hR.1, Nat.le_trans hlo hR.2⟩) ⟨fun a U g mk q => ⟨q.1, q.2.1, q.2.2.1.same (u := U) rfl, q.2.2.2.1, q.2.2.2.2⟩, va_recv hE.1 hPc (ci := ci) (q0 := q0) hcl hrec, fun U hU hW => ⟨rfl, by rw [hU], by rw [hU]; exact (hE.narrow hFc).warm hW, by rw [hU]; exact hPc, hDc.weaken (fun _ _ _ _ => trivial)⟩⟩ rfl hn hsz rfl (lv_room hcat) hdg hce) hS (fun q _ h => hFc q h) hFc hup (fun E ce q9 u t H1 locs1 ht hvm _ hxc hz1 hk1 hS2 h5 h6 h7 => kx E ce q9 H1 locs1 hxc h5 h6 h7 (hP.old hk1) hS2) (fun r u t H1 locs1 ht hvm hw2 hB hz1 hk1 hS2 => ?_)
  obtain ⟨z, u⟩ := u
  obtain ⟨hr, hz⟩ := hw2
  obtain ⟨hP1, hD1⟩ := hB
  dsimp only at hr hz hP1 hD1
  subst hr
  rw [ht] at hP1
  obtain ⟨hP2, hD2⟩ := va_join hP hD is isR hC hRr hn2 hdis hk1 hFc hP1 hD1
  exact k z u H1 locs1 hz hP2 hD2 hS2
theorem r_gets (hx : p.tables.exec = Jvm.exec) (hb : c.code = cc) {index : Nat} (hE : EV D cI cL tw A s H) (hown : s.vm.findClass own = some m.cls) (hlink : (Cond.fieldLink own index "PachisiYard" "WAYS_BY_MOUTHS" "[I").before args s = true) (hdg : decode cc pc = .ok (.getstatic index, 3)) (k : W p l e R s m args below meth c H locs cells slots Q (F0 m (pc + 3) ls (.ref tw :: rest))) : W p l e R s m args below meth c H locs cells slots Q (F0 m pc ls rest) := by
  obtain ⟨cf, kf, fi, f, a, cell, h1, h2, h3, h4, h5, h6, h7, h8⟩ := hE.2.2.1
  exact W.gets hx hb hown hlink h1 h2 h3 h4 h5 (fun e => by rw [e] at h6; cases h6) h7 rfl hdg k
theorem r_tlen (hx : p.tables.exec = Jvm.exec) (hb : c.code = cc) (hE : EV D cI cL tw A s H) (hdg : decode cc pc = .ok (.arraylength, 1)) (k : W p l e R s m args below meth c H locs cells slots Q (F0 m (pc + 1) ls (.int (iI 7) :: rest))) : W p l e R s m args below meth c H locs cells slots Q (F0 m pc ls (.ref tw :: rest)) := by
  obtain ⟨cell, t1, t2, t3, t4, t5, t6, _⟩ := hE.2.2.2.1
  exact W.alen hx hb t1 t2 t5 rfl rfl hdg k
theorem r_tald (hx : p.tables.exec = Jvm.exec) (hb : c.code = cc) (hE : EV D cI cL tw A s H) {i : Int} (h0 : 0 ≤ i) (h1 : i < 7) (hdg : decode cc pc = .ok (.iaload, 1)) (k : W p l e R s m args below meth c H locs cells slots Q (F0 m (pc + 1) ls (.int (iI (wyI i)) :: rest))) : W p l e R s m args below meth c H locs cells slots Q (F0 m pc ls (.int (iI i) :: .ref tw :: rest)) := by
  obtain ⟨cell, t1, t2, t3, t4, t5, t6, _⟩ := hE.2.2.2.1
  have hc : (iI i).toNatClampNeg = i.toNat := iI_cl h0 (by omega)
  have hv := t6 i.toNat (by omega)
  have hi : ¬ (iI i < 0 ∨ cell.slots.size ≤ (iI i).toNatClampNeg) := by
    rintro (h | h)
    · rw [← iI_0, iI_lt (by unfold rI; omega) rI_0] at h; omega
    · rw [hc] at h; omega
  refine W.iald (v := .int (aI wyI i.toNat)) hx hb t1 t2 t3 hi (by rw [hc]; exact hv) rfl rfl hdg ?_
  have e9 : aI wyI i.toNat = iI (wyI i) := by unfold aI; rw [Int.toNat_of_nonneg h0]
  rw [e9]
  exact k
end XRC
end
section
theorem cnt_0 : cnt (fun _ => 0) = fun _ => 0 := by
  funext k
  unfold cnt stand
  have h := sZ_rng (f := onN (fun _ => 0) (k % 68) (k / 68)) (b := 0) (n := 16) (by omega) (fun j _ _ => by unfold onN; rw [if_neg (fun h => absurd (show (1 : Int) ≤ 0 from h.1) (by decide))]; omega)
  omega
/-- a constructor -/
def RWc {S : Type} (l : Launch) (y : MethodName) (ws : List Cond) (rm : Room) (D : va_G) (cI cL : ClassId) (tw : Nat) (av : List Value) (WS : va_W) (W2 : S → va_W) (mc ms : Nat) : Prop :=
  ∀ sz : Nat, Met l y ws rm (va_Pc av (fun U => U.heap.size = sz ∧ EV D cI cL tw (va_A WS sz) U U.heap ∧ va_P D vwCl WS U.heap ∧ va_D (fun _ => True) WS)) (va_Qv (fun (_ : S) => True) (fun u t => va_P D vwCl (W2 u) t.heap ∧ va_D (va_A WS sz) (W2 u)) (va_A WS sz)) mc ms (va_A WS sz)
theorem rwc_of {S : Type} {l : Launch} {y : MethodName} {ws ws' : List Cond} {rm : Room} {D : va_G} {cI cL : ClassId} {tw : Nat} {av : List Value} {WS : va_W} {W2 : S → va_W} {mc ms : Nat} {cc : ByteArray} {maxL : Nat} {own : String}
    (hy : plainName y.cls = true) (hw : ws = Cond.code y cc maxL none :: ws') (hown : y.cls = own) (hyn : y.name = "<init>") (hlen : (lg_sl av).length ≤ maxL)
    (body : ∀ (p : Program) (e : Env) (R : Room) (s : State) (m : MethodId) (args : Array Value) (below : List Frame) (meth : Method) (c : Code) (H0 : Heap) (Q : State → Prop) (ls : Array Slot) (A : Nat → Prop), CallFix p m c cc maxL s args ws own → (rm.frames ≤ R.frames ∧ rm.locals ≤ R.locals) → (rm.cells ≤ R.cells ∧ rm.slots ≤ R.slots) → meth.name = "<init>" → EV D cI cL tw A s H0 → va_P D vwCl WS H0 → va_D A WS → va_S A H0 H0 [] → (∀ q : Nat, H0.size ≤ q → A q) → lv_has ls maxL (lv_args 0 av) →
      (∀ (u : S) (pc : Nat) (ls : Array Slot) (H : Heap) (locs : List Loc) (cells slots : Nat), decode cc pc = .ok (.return_, 1) → va_P D vwCl (W2 u) H → va_D A (W2 u) → va_S A H0 H locs → cells ≤ mc → slots ≤ ms → W p l e R s m args below meth c H locs cells slots Q (F0 m pc ls [])) → W p l e R s m args below meth c H0 [] 0 0 Q (F0 m 0 ls [])) : RWc l y ws rm D cI cL tw av WS W2 mc ms := by
  intro sz
  refine Met.ofW (cc := cc) (maxL := maxL) (ret := none) hy hw ?_
  intro p e s m args below meth c s₁ B hml hv
  obtain ⟨rfl, hsz, hE, hP, hD0⟩ := hv
  subst hsz
  have hts := atoms_spec (ws := ws) B.pre
  have hown1 : s.vm.findClass own = some m.cls := by rw [← hown]; exact findClass_of_methodNamed B.named
  have hin : meth.name = "<init>" := ((name_of_methodNamed B.named B.method).1).trans hyn
  have hl := lv_entry av hlen
  have hD := hD0.self (sz := s.heap.size)
  rw [lg_entry_eq]
  refine body p e (headSpec ws rm).room s m _ below meth c s.heap _ _ (va_A WS s.heap.size) ⟨B.exec, B.bytes, hml, hown1, hts⟩ ⟨Nat.le_refl _, Nat.le_refl _⟩ ⟨Nat.le_refl _, Nat.le_refl _⟩ hin hE hP hD va_S.rf (fun q h => Or.inr h) hl ?_
  intro u pc ls H locs cells slots hdg hP1 hD1 hS1 hc hs
  exact W.widen hc hs (W.vret B.exec B.bytes B.returns (fun t ht hW => ⟨⟨u, rfl, trivial, by rw [ht]; exact hP1, hD1⟩, hS1.F ht⟩) hS1.2.2 hdg B.notSynchronized)
/-- a method with handlers: it throws nothing -/
theorem lwi_of {S : Type} {l : Launch} {y : MethodName} {ws ws' : List Cond} {rm : Room} {D : va_G} {cI cL : ClassId} {tw : Nat} {av : List Value} {WS : va_W} {post : Int → S → Prop} {W2 : S → va_W} {mc ms : Nat} {cc : ByteArray} {maxL : Nat} {hh : List (Nat × Nat × Nat × Nat)} {own : String}
    (hy : plainName y.cls = true) (hw : ws = Cond.codeWith y cc maxL (some .int) hh :: ws') (hown : y.cls = own) (hlen : (lg_sl av).length ≤ maxL)
    (body : ∀ (p : Program) (e : Env) (R : Room) (s : State) (m : MethodId) (args : Array Value) (below : List Frame) (meth : Method) (c : Code) (H0 : Heap) (Q : State → Prop) (ls : Array Slot) (A : Nat → Prop), CallFix p m c cc maxL s args ws own → (rm.frames ≤ R.frames ∧ rm.locals ≤ R.locals) → (rm.cells ≤ R.cells ∧ rm.slots ≤ R.slots) → EV D cI cL tw A s H0 → va_P D vwCl WS H0 → va_D A WS → (∀ q : Nat, NW H0.size q → A q) → va_S (NW H0.size) H0 H0 [] → lv_has ls maxL (lv_args 0 av) →  c.exceptionTable.toList = tableOf hh →
      (∀ (z : Int) (u : S) (pc : Nat) (ls : Array Slot) (H : Heap) (locs : List Loc) (cells slots : Nat), decode cc pc = .ok (.ireturn, 1) → post z u → va_P D vwCl (W2 u) H → va_D A (W2 u) → va_S A H0 H locs → cells ≤ mc → slots ≤ ms → W p l e R s m args below meth c H locs cells slots Q (F0 m pc ls [.int (iI z)])) → W p l e R s m args below meth c H0 [] 0 0 Q (F0 m 0 ls [])) : XWi l y ws rm D cI cL tw av WS post W2 (fun _ => False) mc ms := by
  intro sz
  refine vx_ofWH (cc := cc) (maxL := maxL) (ret := some .int) (hh := hh) hy hw ?_
  intro p e s m args below meth c s₁ B hml hv
  obtain ⟨rfl, hsz, hE, hP, hD0⟩ := hv
  subst hsz
  have hts := atoms_spec (ws := ws) B.pre
  have htb : c.exceptionTable.toList = tableOf hh := vx_table (x := y) B (hts (Cond.codeWith y cc maxL (some .int) hh) (by rw [hw]; exact List.mem_cons_self))
  have hown1 : s.vm.findClass own = some m.cls := by rw [← hown]; exact findClass_of_methodNamed B.named
  have hl := lv_entry av hlen
  have hD := hD0.self (sz := s.heap.size)
  rw [lg_entry_eq]
  refine body p e (headSpec ws rm).room s m _ below meth c s.heap _ _ (va_A WS s.heap.size) ⟨B.exec, B.bytes, hml, hown1, hts⟩ ⟨Nat.le_refl _, Nat.le_refl _⟩ ⟨Nat.le_refl _, Nat.le_refl _⟩ hE hP hD (fun q h => Or.inr h) va_S.rf hl htb ?_
  intro z u pc ls H locs cells slots hdg hz hP1 hD1 hS1 hc hs
  refine vx_ret (W.widen hc hs ?_)
  exact W.iret B.exec B.bytes B.returns (fun t ht hW => ⟨⟨iI z, (z, u), rfl, ⟨rfl, hz⟩, by rw [ht]; exact hP1, hD1⟩, hS1.F ht⟩) hS1.2.2 hdg B.notSynchronized
section CRC
variable {p : Program} {l : Launch} {e : Env} {R : Room} {s : State} {m : MethodId} {args : Array Value} {below : List Frame} {meth : Method} {c : Code} {H : Heap} {locs : List Loc} {cells slots : Nat} {Q : State → Prop}
variable {cc : ByteArray} {pc : Nat} {ls : Array Slot} {rest st0 : List Value} {D : va_G} {cI cL : ClassId} {tw : Nat} {A : Nat → Prop} {ws : va_W} {H0 : Heap} {nL : Nat} {Ts : List Cond} {own : String}
theorem r_objInit (S9 : CallFix p m c cc nL s args Ts own) {nf nl idx a : Nat} (hR : nf ≤ R.frames ∧ nl ≤ R.locals) (hf : 1 ≤ nf) (hlo : 40 ≤ nl) (h1 : (Cond.methodLink own idx Lib.objectInit).before args s = true) (h2 : (Cond.instanceMethod Lib.objectInit).before args s = true) (h3 : (Cond.code Lib.objectInit ⟨#[0xb1]⟩ 1 none).before args s = true) (hsz : ls.size = nL) (hcat : (rest.map fun v => v.category).sum ≤ 8) (hdg : decode cc pc = .ok (.invokespecial idx, 3)) (k : W p l e R s m args below meth c H locs cells slots Q (F0 m (pc + 3) ls rest)) : W p l e R s m args below meth c H locs cells slots Q (F0 m pc ls (.ref a :: rest)) :=
  W.objInit S9.1 S9.2.1 S9.2.2.2.1 h1 h2 h3 rfl (by rw [S9.2.2.1]; exact hsz) rfl hdg (Nat.le_trans hf hR.1) (by show 2 * 0 + _ + 12 ≤ _; omega) k
theorem r_newaI (hx : p.tables.exec = Jvm.exec) (hb : c.code = cc) (harr : (Cond.arrayClass .int).before args s = true) {A9 : Nat → Prop} {H9 : Heap} (hE : EV D cI cL tw A9 s H9) (hP : va_P D vwCl ws H) (hD : va_D A ws) (hS : va_S A H0 H locs) (hA : ∀ q : Nat, H0.size ≤ q → A q) {N : Nat} {n : Int} (hn : n = (N : Int)) (hN : N ≤ 1000) (hce : cells + 1 ≤ R.cells ∧ slots + N ≤ R.slots) (hdg : decode cc pc = .ok (.newarray .int, 2))
    (k : ∀ (q : Nat) (H1 : Heap), va_P D vwCl (ws ++ [(q, .inl (cI, N, .inl (aI (fun _ => 0))))]) H1 → va_D A (ws ++ [(q, .inl (cI, N, .inl (aI (fun _ => 0))))]) → va_S A H0 H1 locs → W p l e R s m args below meth c H1 locs (cells + 1) (slots + N) Q (F0 m (pc + 2) ls (.ref q :: rest))) : W p l e R s m args below meth c H locs cells slots Q (F0 m pc ls (.int (iI n) :: rest)) := by
  subst hn
  refine va_newa (atype := .int) hx hb harr (ty := .int) rfl hE.1 hP hD hS hA (n := iI (N : Int)) (N' := N) (a0 := (N, .inl (aI (fun _ => 0)))) (fun cA => rfl) ?_ ?_ ?_ hce.1 hce.2 hdg (fun q cA H1 hK1 hP1 hD1 hS1 => ?_)
  · rw [← iI_0, iI_lt (by unfold rI; omega) rI_0]; omega
  · exact (iI_cl (by omega) (by omega)).trans (by omega)
  · show N * 4 ≤ _; omega
  · have h1 : s.vm.findClass ("[" ++ FieldType.int.toString) = some cA := (hK1.2 2 (cA, .int) rfl).2
    have h2 : s.vm.findClass ("[" ++ FieldType.int.toString) = some cI := (hE.1.2 0 (cI, .int) rfl).2
    have e9 : cA = cI := Option.some.inj (h1.symm.trans h2)
    subst e9
    exact k q H1 hP1 hD1 hS1
theorem r_newaL (hx : p.tables.exec = Jvm.exec) (hb : c.code = cc) (harr : (Cond.arrayClass .long).before args s = true) {A9 : Nat → Prop} {H9 : Heap} (hE : EV D cI cL tw A9 s H9) (hP : va_P D vwCl ws H) (hD : va_D A ws) (hS : va_S A H0 H locs) (hA : ∀ q : Nat, H0.size ≤ q → A q) {N : Nat} {n : Int} (hn : n = (N : Int)) (hN : N ≤ 1000) (hce : cells + 1 ≤ R.cells ∧ slots + N ≤ R.slots) (hdg : decode cc pc = .ok (.newarray .long, 2))
    (k : ∀ (q : Nat) (H1 : Heap), va_P D vwCl (ws ++ [(q, .inl (cL, N, .inr (.inl (fun _ => 0))))]) H1 → va_D A (ws ++ [(q, .inl (cL, N, .inr (.inl (fun _ => 0))))]) → va_S A H0 H1 locs → W p l e R s m args below meth c H1 locs (cells + 1) (slots + N) Q (F0 m (pc + 2) ls (.ref q :: rest))) : W p l e R s m args below meth c H locs cells slots Q (F0 m pc ls (.int (iI n) :: rest)) := by
  subst hn
  refine va_newa (atype := .long) hx hb harr (ty := .long) rfl hE.1 hP hD hS hA (n := iI (N : Int)) (N' := N) (a0 := (N, .inr (.inl (fun _ => 0)))) (fun cA => rfl) ?_ ?_ ?_ hce.1 hce.2 hdg (fun q cA H1 hK1 hP1 hD1 hS1 => ?_)
  · rw [← iI_0, iI_lt (by unfold rI; omega) rI_0]; omega
  · exact (iI_cl (by omega) (by omega)).trans (by omega)
  · show N * 8 ≤ _; omega
  · have h1 : s.vm.findClass ("[" ++ FieldType.long.toString) = some cA := (hK1.2 2 (cA, .long) rfl).2
    have h2 : s.vm.findClass ("[" ++ FieldType.long.toString) = some cL := (hE.1.2 1 (cL, .long) rfl).2
    have e9 : cA = cL := Option.some.inj (h1.symm.trans h2)
    subst e9
    exact k q H1 hP1 hD1 hS1
theorem r_callC {S : Type} {y : MethodName} {ws2 ws3 : List Cond} {rm : Room} {As : List Value} {WSc wr : va_W} {W2 : S → va_W} {b index maxL n nf nl mc ms : Nat} {bytes : ByteArray} (S9 : CallFix p m c cc nL s args Ts own) (hM : RWc l y ws2 rm D cI cL tw (.ref b :: As) WSc W2 mc ms) (hG : GoodIn Ts ws2) (hw : ws2 = Cond.code y bytes maxL none :: ws3) (hrc : rm.cells = mc) (hrs : rm.slots = ms) (hini : (Cond.initialized y.cls).before args s = true) (hl1 : (Cond.methodLink own index y).before args s = true) (hin : (Cond.instanceMethod y).before args s = true) (hy1 : y.name = "<init>")
    (hd : y.cls ≠ "java/lang/invoke/MethodHandle" ∧ y.cls ≠ "java/lang/invoke/VarHandle" ∧ (parseMethodDescriptor y.desc).map (fun d => d.parameters.length) = some n) (hR : nf ≤ R.frames ∧ nl ≤ R.locals) (hf : rm.frames + 1 ≤ nf) (hlo : 8 + (maxL + 11) + rm.locals ≤ nl) (hE : EV D cI cL tw A s H) (hP : va_P D vwCl ws H) (hD : va_D A ws) (hS : va_S A H0 H locs) (hA : ∀ q : Nat, H0.size ≤ q → A q) (is isR : List Nat) (hC : is.map (fun i => ws[i]?) = WSc.map some) (hCf : is.filterMap (fun i => ws[i]?) = WSc) (hnd : va_nd is = true) (hRr : isR.map (fun i => ws[i]?) = wr.map some) (hn2 : va_nd isR = true) (hdis : ∀ i ∈ isR, i ∉ is)
    (hn : As.length = n) (hsz : ls.size = nL) (hst : st0 = As.reverse ++ .ref b :: rest) (hcat : (rest.map fun v => v.category).sum ≤ 8) (hdg : decode cc pc = .ok (.invokespecial index, 3)) (hce : cells + mc ≤ R.cells ∧ slots + ms ≤ R.slots)
    (k : ∀ (u : S) (H1 : Heap) (locs1 : List Loc), va_P D vwCl (wr ++ W2 u) H1 → va_D A (wr ++ W2 u) → va_S A H0 H1 locs1 → W p l e R s m args below meth c H1 locs1 (cells + mc) (slots + ms) Q (F0 m (pc + 3) ls rest)) : W p l e R s m args below meth c H locs cells slots Q (F0 m pc ls st0) := by
  subst hst
  have hPc := hP.sub is hCf
  have hDc := hD.sub is hnd hC
  have hFc := va_free (wc := WSc) hD hS hA is hC
  refine va_callv (va_runI (As := As) (rest := rest) S9 (hM H.size) (cwI n S9.2.2.2.2 hG hw hrc hrs hini hl1 hin hy1 hd ⟨Nat.le_trans hf hR.1, Nat.le_trans hlo hR.2⟩) ⟨fun a U g mk q => ⟨q.1, q.2.1, q.2.2.1.same (u := U) rfl, q.2.2.2.1, q.2.2.2.2⟩, fun U hU hW => ⟨rfl, by rw [hU], by rw [hU]; exact (hE.narrow hFc).warm hW, by rw [hU]; exact hPc, hDc.weaken (fun _ _ _ _ => trivial)⟩⟩ rfl hn hsz rfl (lv_room hcat) hdg hce) hS (fun q _ h => hFc q h) hFc (fun u t H1 locs1 ht hvm hw2 hB hz1 hk1 hS2 => ?_)
  obtain ⟨hP1, hD1⟩ := hB
  rw [ht] at hP1
  obtain ⟨hP2, hD2⟩ := va_join hP hD is isR hC hRr hn2 hdis hk1 hFc hP1 hD1
  exact k u H1 locs1 hP2 hD2 hS2
theorem r_lcS {S : Type} {y : MethodName} {ws2 ws3 : List Cond} {rm : Room} {As : List Value} {WSc wr : va_W} {post : Int → S → Prop} {W2 : S → va_W} {index maxL n nf nl mc ms : Nat} {bytes : ByteArray} {ret : Option FieldType} {hh : List (Nat × Nat × Nat × Nat)} (S9 : CallFix p m c cc nL s args Ts own) (hM : XWi l y ws2 rm D cI cL tw As WSc post W2 (fun _ => False) mc ms) (hG : GoodIn Ts (va_wsS own index y ws2)) (hw : ws2 = Cond.codeWith y bytes maxL ret hh :: ws3) (hrc : rm.cells = mc) (hrs : rm.slots = ms)
    (hd : y.cls ≠ "java/lang/invoke/MethodHandle" ∧ y.cls ≠ "java/lang/invoke/VarHandle" ∧ (parseMethodDescriptor y.desc).map (fun d => d.parameters.length) = some n) (hR : nf ≤ R.frames ∧ nl ≤ R.locals) (hf : rm.frames + 1 ≤ nf) (hlo : 8 + (maxL + 11) + rm.locals ≤ nl) (hE : EV D cI cL tw A s H) (hP : va_P D vwCl ws H) (hD : va_D A ws) (hS : va_S A H0 H locs) (hA : ∀ q : Nat, H0.size ≤ q → A q) (is isR : List Nat) (hC : is.map (fun i => ws[i]?) = WSc.map some) (hCf : is.filterMap (fun i => ws[i]?) = WSc) (hnd : va_nd is = true) (hRr : isR.map (fun i => ws[i]?) = wr.map some) (hn2 : va_nd isR = true) (hdis : ∀ i ∈ isR, i ∉ is)
    (hn : As.length = n) (hsz : ls.size = nL) (hst : st0 = As.reverse ++ rest) (hcat : (rest.map fun v => v.category).sum ≤ 8) (hdg : decode cc pc = .ok (.invokestatic index, 3)) (hce : cells + mc ≤ R.cells ∧ slots + ms ≤ R.slots)
    (k : ∀ (z : Int) (u : S) (H1 : Heap) (locs1 : List Loc), post z u → va_P D vwCl (wr ++ W2 u) H1 → va_D A (wr ++ W2 u) → va_S A H0 H1 locs1 → W p l e R s m args below meth c H1 locs1 (cells + mc) (slots + ms) Q (F0 m (pc + 3) ls (.int (iI z) :: rest))) : W p l e R s m args below meth c H locs cells slots Q (F0 m pc ls st0) := by
  subst hst
  have hPc := hP.sub is hCf
  have hDc := hD.sub is hnd hC
  have hFc := va_free (wc := WSc) hD hS hA is hC
  have hup : ∀ q, q < H.size → NW H.size q → A q := fun q _ h => hA q (Nat.le_trans hS.1 h)
  refine vx_calli (vx_runSX (As := As) (rest := rest) S9 (hM H.size) (vx_cwSW n S9.2.2.2.2 hG hw hrc hrs hd ⟨Nat.le_trans hf hR.1, Nat.le_trans hlo hR.2⟩) ⟨fun a U g mk q => ⟨q.1, q.2.1, q.2.2.1.same (u := U) rfl, q.2.2.2.1, q.2.2.2.2⟩, fun U hU hW => ⟨rfl, by rw [hU], by rw [hU]; exact (hE.narrow hFc).warm hW, by rw [hU]; exact hPc, hDc.weaken (fun _ _ _ _ => trivial)⟩⟩ rfl hn hsz rfl (lv_room hcat) hdg hce) hS (fun q _ h => hFc q h) hFc hup (fun E ce q9 u t H1 locs1 ht hvm _ hxc hz1 hk1 hS2 h5 h6 h7 => hxc.elim) (fun r u t H1 locs1 ht hvm hw2 hB hz1 hk1 hS2 => ?_)
  obtain ⟨z, u⟩ := u
  obtain ⟨hr, hz⟩ := hw2
  obtain ⟨hP1, hD1⟩ := hB
  dsimp only at hr hz hP1 hD1
  subst hr
  rw [ht] at hP1
  obtain ⟨hP2, hD2⟩ := va_join hP hD is isR hC hRr hn2 hdis hk1 hFc hP1 hD1
  exact k z u H1 locs1 hz hP2 hD2 hS2
theorem r_last0 (hx : p.tables.exec = Jvm.exec) (hb : c.code = cc) {a : Nat} (hK : va_K D vwCl [(cI, .int), (cL, .long)] s) (hP : va_P D vwCl ws H) (hD : va_D A ws) (hS : va_S A H0 H locs) (q0 : Nat) {f : Nat → Int64} (ha : ws[q0]? = some (a, .inl (cL, 1, .inr (.inl f)))) {x : Int64} {ws1 : va_W} (hws : ws.set q0 (a, .inl (cL, 1, .inr (.inl (vp_updL f 0 x)))) = ws1) (hdg : decode cc pc = .ok (.lastore, 1)) (k : ∀ (H1 : Heap) (locs1 : List Loc), va_P D vwCl ws1 H1 → va_D A ws1 → va_S A H0 H1 locs1 → W p l e R s m args below meth c H1 locs1 cells slots Q (F0 m (pc + 1) ls rest)) : W p l e R s m args below meth c H locs cells slots Q (F0 m pc ls (.long x :: .int (iI 0) :: .ref a :: rest)) :=
  va_last hx hb hK hP hD hS q0 1 ha rfl (aI_in (by decide) (by decide) (by decide)) hdg (fun H1 locs1 h2 h3 h4 => k H1 locs1 (by rw [← hws]; exact h2) (by rw [← hws]; exact h3) h4)
theorem r_lald0 (hx : p.tables.exec = Jvm.exec) (hb : c.code = cc) {a : Nat} (hK : va_K D vwCl [(cI, .int), (cL, .long)] s) (hP : va_P D vwCl ws H) (q0 : Nat) {f : Nat → Int64} (ha : ws[q0]? = some (a, .inl (cL, 1, .inr (.inl f)))) (hdg : decode cc pc = .ok (.laload, 1)) (k : W p l e R s m args below meth c H locs cells slots Q (F0 m (pc + 1) ls (.long (f 0) :: rest))) : W p l e R s m args below meth c H locs cells slots Q (F0 m pc ls (.int (iI 0) :: .ref a :: rest)) :=
  va_lald hx hb hK hP q0 1 ha rfl (aI_in (by decide) (by decide) (by decide)) hdg k
theorem r_lcmpE (hx : p.tables.exec = Jvm.exec) (hb : c.code = cc) {x y : Int64} (h : x = y) (hdg : decode cc pc = .ok (.lcmp, 1)) (k : W p l e R s m args below meth c H locs cells slots Q (F0 m (pc + 1) ls (.int (iI 0) :: rest))) : W p l e R s m args below meth c H locs cells slots Q (F0 m pc ls (.long y :: .long x :: rest)) := by
  subst h
  refine W.lcmp hx hb hdg ?_
  have e9 : lg_cmp x x = iI 0 := by simp [lg_cmp, iI]
  rw [e9]
  exact k
/-- the script's number at a place -/
def sX (xs : Nat → Int32) (k : Int) : Int := (xs k.toNat).toInt
theorem sX_rng (xs : Nat → Int32) (k : Int) : -2147483648 ≤ sX xs k ∧ sX xs k < 2147483648 := by
  have := rI_of (xs k.toNat); unfold rI at this; unfold sX; omega
theorem r_sld (hx : p.tables.exec = Jvm.exec) (hb : c.code = cc) {b L : Nat} {xs : Nat → Int32} (hX : va_X b L xs s H0) (hbl : b < H0.size) (hbA : ¬ A b) (hS : va_S A H0 H locs) {i : Int} (h0 : 0 ≤ i) (h1 : i < L) (hL : L ≤ 1000000) (hdg : decode cc pc = .ok (.iaload, 1)) (k : W p l e R s m args below meth c H locs cells slots Q (F0 m (pc + 1) ls (.int (iI (sX xs i)) :: rest))) : W p l e R s m args below meth c H locs cells slots Q (F0 m pc ls (.int (iI i) :: .ref b :: rest)) := by
  refine va_sld hx hb hX hbl hbA hS (aI_in h0 h1 hL) hdg ?_
  have e9 : xs (iI i).toNatClampNeg = iI (sX xs i) := by rw [iI_cl h0 (by omega)]; exact iI_of _
  rw [e9]; exact k
theorem r_slen (hx : p.tables.exec = Jvm.exec) (hb : c.code = cc) {b L : Nat} {xs : Nat → Int32} (hX : va_X b L xs s H0) (hbl : b < H0.size) (hbA : ¬ A b) (hS : va_S A H0 H locs) (hdg : decode cc pc = .ok (.arraylength, 1)) (k : W p l e R s m args below meth c H locs cells slots Q (F0 m (pc + 1) ls (.int (iI (L : Int)) :: rest))) : W p l e R s m args below meth c H locs cells slots Q (F0 m pc ls (.ref b :: rest)) := va_slen hx hb hX hbl hbA hS hdg k
theorem r_and31 (hx : p.tables.exec = Jvm.exec) (hb : c.code = cc) {a : Int} (hdg : decode cc pc = .ok (.iand, 1)) (k : ∀ w : Int, 0 ≤ w → w < 32 → W p l e R s m args below meth c H locs cells slots Q (F0 m (pc + 1) ls (.int (iI w) :: rest))) : W p l e R s m args below meth c H locs cells slots Q (F0 m pc ls (.int (iI 31) :: .int (iI a) :: rest)) := by
  refine lv_iand hx hb hdg ?_
  obtain ⟨j, hj, e9⟩ := pk_andE (iI a) (m := iI 31) 5 (by decide)
  rw [e9]
  exact k (j : Int) (by omega) (by omega)
end CRC
end
section
set_option maxRecDepth 20000 in
theorem mw_X0_init_0 : (.methodLink RX0 3 objectInit : Cond) ∈ wsX0_init := by decide +kernel
set_option maxRecDepth 20000 in
theorem mw_X0_init_1 : (.instanceMethod objectInit : Cond) ∈ wsX0_init := by decide +kernel
set_option maxRecDepth 20000 in
theorem mw_X0_init_2 : (.code objectInit ⟨#[0xb1]⟩ 1 none : Cond) ∈ wsX0_init := by decide +kernel
set_option maxRecDepth 20000 in
theorem mw_X0_init_3 : (.arrayClass .int : Cond) ∈ wsX0_init := by decide +kernel
set_option maxRecDepth 20000 in
theorem mw_X0_init_4 : (.fieldLink RX0 9 "PachisiYard$Board" "positions" "[I" : Cond) ∈ wsX0_init := by decide +kernel
set_option maxRecDepth 20000 in
theorem mu_X0_init_X0 : ∀ w ∈ wsX00, w ∈ wsX0_init := by decide +kernel
set_option maxRecDepth 20000 in
theorem mw_X0_init_6 : (.fieldLink RX0 15 "PachisiYard$Board" "counts" "[I" : Cond) ∈ wsX0_init := by decide +kernel
theorem f_X0_init : yX0_init.cls ≠ "java/lang/invoke/MethodHandle" ∧ yX0_init.cls ≠ "java/lang/invoke/VarHandle" ∧ (parseMethodDescriptor yX0_init.desc).map (fun d => d.parameters.length) = some 0 := by decide +kernel
set_option maxHeartbeats 4000000 in
set_option maxRecDepth 100000 in
theorem c_X0_init (l : Launch) (D : va_G) (cI cL : ClassId) (tw : Nat) (b : Nat) : RWc l yX0_init wsX0_init { frames := 1, cells := 2, slots := 152, locals := 40 } D cI cL tw [.ref b] [(b, .inr (0, [.null, .null]))] (fun u : Nat × Nat => [(b, .inr (0, [.ref u.1, .ref u.2])), (u.1, .inl (cI, 16, .inl (aI (fun _ => 0)))), (u.2, .inl (cI, 136, .inl (aI (cnt (fun _ => 0)))))]) 2 152 := by
  refine rwc_of (cc := cX0_init) (maxL := 1) (own := RX0) (by decide) rfl rfl rfl (Nat.le_of_ble_eq_true rfl) ?_
  intro p e R s mt args below meth c H0 Q ls A S hR hRc hin hE hP hD hS hA hl hret
  obtain ⟨hx, hb, hml, hown, hts⟩ := id S
  have hl : lv_has ls 1 [(0, .ref b)] := hl
  refine lv_aload_n hx hb dX0_init_0 rfl (lv_at hl 0 rfl) ?_
  refine r_objInit S hR (Nat.le_of_ble_eq_true rfl) (Nat.le_of_ble_eq_true rfl) (hts _ mw_X0_init_0) (hts _ mw_X0_init_1) (hts _ mw_X0_init_2) hl.1 (Nat.le_of_ble_eq_true rfl) dX0_init_1 ?_
  refine lv_aload_n hx hb dX0_init_4 rfl (lv_at hl 0 rfl) ?_
  refine r_bipush hx hb dX0_init_5 (by decide) ?_
  refine r_newaI hx hb (hts _ mw_X0_init_3) hE hP hD hS hA (N := 16) rfl (by decide) ⟨Nat.le_trans (Nat.le_of_ble_eq_true rfl) hRc.1, Nat.le_trans (Nat.le_of_ble_eq_true rfl) hRc.2⟩ dX0_init_7 (fun q7 H hP hD hS => ?_)
  have hP : va_P D vwCl [(b, .inr (0, [.null, .null])), (q7, .inl (cI, 16, .inl (aI (fun _ => 0))))] H := hP
  have hD : va_D A [(b, .inr (0, [.null, .null])), (q7, .inl (cI, 16, .inl (aI (fun _ => 0))))] := hD
  refine va_putF (D := D) (ci := 0) (v := .ref q7) (ty := .array .int) (C := RX0) (T := TX0) (N := 2) hx hb hts mu_X0_init_X0 tyX0 tyX0_ok nmX0 hown hE.1 hP hD hS 0 rfl rfl 0 (by decide) (hts _ mw_X0_init_4) (fun _ h9 => h9) rfl hin rfl (by decide +kernel) rfl rfl (Nat.le_of_ble_eq_true rfl) dX0_init_9 (fun H locs hP hD hS => ?_)
  have hP : va_P D vwCl [(b, .inr (0, [.ref q7, .null])), (q7, .inl (cI, 16, .inl (aI (fun _ => 0))))] H := hP
  have hD : va_D A [(b, .inr (0, [.ref q7, .null])), (q7, .inl (cI, 16, .inl (aI (fun _ => 0))))] := hD
  refine lv_aload_n hx hb dX0_init_12 rfl (lv_at hl 0 rfl) ?_
  refine r_sipush hx hb dX0_init_13 (by decide) ?_
  refine r_newaI hx hb (hts _ mw_X0_init_3) hE hP hD hS hA (N := 136) rfl (by decide) ⟨Nat.le_trans (Nat.le_of_ble_eq_true rfl) hRc.1, Nat.le_trans (Nat.le_of_ble_eq_true rfl) hRc.2⟩ dX0_init_16 (fun q16 H hP hD hS => ?_)
  have hP : va_P D vwCl [(b, .inr (0, [.ref q7, .null])), (q7, .inl (cI, 16, .inl (aI (fun _ => 0)))), (q16, .inl (cI, 136, .inl (aI (fun _ => 0))))] H := hP
  have hD : va_D A [(b, .inr (0, [.ref q7, .null])), (q7, .inl (cI, 16, .inl (aI (fun _ => 0)))), (q16, .inl (cI, 136, .inl (aI (fun _ => 0))))] := hD
  refine va_putF (D := D) (ci := 0) (v := .ref q16) (ty := .array .int) (C := RX0) (T := TX0) (N := 2) hx hb hts mu_X0_init_X0 tyX0 tyX0_ok nmX0 hown hE.1 hP hD hS 0 rfl rfl 1 (by decide) (hts _ mw_X0_init_6) (fun _ h9 => h9) rfl hin rfl (by decide +kernel) rfl rfl (Nat.le_of_ble_eq_true rfl) dX0_init_18 (fun H locs hP hD hS => ?_)
  have hP : va_P D vwCl [(b, .inr (0, [.ref q7, .ref q16])), (q7, .inl (cI, 16, .inl (aI (fun _ => 0)))), (q16, .inl (cI, 136, .inl (aI (fun _ => 0))))] H := hP
  have hD : va_D A [(b, .inr (0, [.ref q7, .ref q16])), (q7, .inl (cI, 16, .inl (aI (fun _ => 0)))), (q16, .inl (cI, 136, .inl (aI (fun _ => 0))))] := hD
  
  exact hret (q7, q16) _ _ _ _ _ _ dX0_init_21 (by rw [cnt_0]; exact hP.sub [0, 1, 2] rfl) (by rw [cnt_0]; exact hD.sub [0, 1, 2] (by decide) rfl) hS (Nat.le_of_ble_eq_true rfl) (Nat.le_of_ble_eq_true rfl)

set_option maxRecDepth 20000 in
theorem mw_X1_init_0 : (.methodLink RX1 1 objectInit : Cond) ∈ wsX1_init := by decide +kernel
set_option maxRecDepth 20000 in
theorem mw_X1_init_1 : (.instanceMethod objectInit : Cond) ∈ wsX1_init := by decide +kernel
set_option maxRecDepth 20000 in
theorem mw_X1_init_2 : (.code objectInit ⟨#[0xb1]⟩ 1 none : Cond) ∈ wsX1_init := by decide +kernel
set_option maxRecDepth 20000 in
theorem mu_X1_init_X0 : ∀ w ∈ wsX00, w ∈ wsX1_init := by decide +kernel
set_option maxRecDepth 20000 in
theorem mw_X1_init_4 : (.classLink RX1 7 RX0 : Cond) ∈ wsX1_init := by decide +kernel
set_option maxRecDepth 20000 in
theorem mw_X1_init_5 : (.instantiable RX0 2 : Cond) ∈ wsX1_init := by decide +kernel
set_option maxRecDepth 20000 in
theorem mw_X1_init_6 : (.initialized RX0 : Cond) ∈ wsX1_init := by decide +kernel
set_option maxRecDepth 20000 in
theorem mw_X1_init_7 : (.methodLink RX1 9 yX0_init : Cond) ∈ wsX1_init := by decide +kernel
set_option maxRecDepth 20000 in
theorem mw_X1_init_8 : (.instanceMethod yX0_init : Cond) ∈ wsX1_init := by decide +kernel
set_option maxRecDepth 20000 in
theorem mw_X1_init_9 : (.fieldLink RX1 10 "PachisiYard" "board" "LPachisiYard$Board;" : Cond) ∈ wsX1_init := by decide +kernel
set_option maxRecDepth 20000 in
theorem mu_X1_init_X1 : ∀ w ∈ wsX10, w ∈ wsX1_init := by decide +kernel
set_option maxRecDepth 20000 in
theorem mw_X1_init_11 : (.arrayClass .int : Cond) ∈ wsX1_init := by decide +kernel
set_option maxRecDepth 20000 in
theorem mw_X1_init_12 : (.fieldLink RX1 16 "PachisiYard" "captureCounts" "[I" : Cond) ∈ wsX1_init := by decide +kernel
set_option maxRecDepth 20000 in
theorem mw_X1_init_13 : (.fieldLink RX1 20 "PachisiYard" "turn" "I" : Cond) ∈ wsX1_init := by decide +kernel
set_option maxRecDepth 20000 in
theorem mw_X1_init_14 : (.fieldLink RX1 24 "PachisiYard" "gracesInRow" "I" : Cond) ∈ wsX1_init := by decide +kernel
set_option maxRecDepth 20000 in
theorem mw_X1_init_15 : (.fieldLink RX1 27 "PachisiYard" "stage" "I" : Cond) ∈ wsX1_init := by decide +kernel
set_option maxRecDepth 20000 in
theorem mw_X1_init_16 : (.fieldLink RX1 30 "PachisiYard" "mouthsThrown" "I" : Cond) ∈ wsX1_init := by decide +kernel
theorem f_X1_init : yX1_init.cls ≠ "java/lang/invoke/MethodHandle" ∧ yX1_init.cls ≠ "java/lang/invoke/VarHandle" ∧ (parseMethodDescriptor yX1_init.desc).map (fun d => d.parameters.length) = some 0 := by decide +kernel
set_option maxHeartbeats 4000000 in
set_option maxRecDepth 100000 in
theorem c_X1_init (l : Launch) (D : va_G) (cI cL : ClassId) (tw : Nat) (y0 : Nat) : RWc l yX1_init wsX1_init { frames := 2, cells := 4, slots := 158, locals := 60 } D cI cL tw [.ref y0] [(y0, .inr (1, [.null, .null, .int (iI (0)), .int (iI (0)), .int (iI (0)), .int (iI (0))]))] (fun u : Nat × Nat × Nat × Nat => [(y0, .inr (1, [.ref u.1, .ref u.2.1, .int (iI (0)), .int (iI (0)), .int (iI (0)), .int (iI (0))])), (u.2.1, .inl (cI, 4, .inl (aI (fun _ => 0)))), (u.1, .inr (0, [.ref u.2.2.1, .ref u.2.2.2])), (u.2.2.1, .inl (cI, 16, .inl (aI (fun _ => 0)))), (u.2.2.2, .inl (cI, 136, .inl (aI (cnt (fun _ => 0)))))]) 4 158 := by
  refine rwc_of (cc := cX1_init) (maxL := 1) (own := RX1) (by decide) rfl rfl rfl (Nat.le_of_ble_eq_true rfl) ?_
  intro p e R s mt args below meth c H0 Q ls A S hR hRc hin hE hP hD hS hA hl hret
  obtain ⟨hx, hb, hml, hown, hts⟩ := id S
  have hl : lv_has ls 1 [(0, .ref y0)] := hl
  refine lv_aload_n hx hb dX1_init_0 rfl (lv_at hl 0 rfl) ?_
  refine r_objInit S hR (Nat.le_of_ble_eq_true rfl) (Nat.le_of_ble_eq_true rfl) (hts _ mw_X1_init_0) (hts _ mw_X1_init_1) (hts _ mw_X1_init_2) hl.1 (Nat.le_of_ble_eq_true rfl) dX1_init_1 ?_
  refine lv_aload_n hx hb dX1_init_4 rfl (lv_at hl 0 rfl) ?_
  refine va_new (D := D) (ci := 0) (fs := [.null, .null]) (C := RX0) (T := TX0) (N := 2) hx hb hts mu_X1_init_X0 tyX0 tyX0_ok hown (hts _ mw_X1_init_4) (hts _ mw_X1_init_5) (hts _ mw_X1_init_6) hE.1 hP hD hS hA rfl (fun j hj => by rcases (show j = 0 ∨ j = 1 by omega) with rfl | rfl <;> rfl) (Nat.le_trans (Nat.le_of_ble_eq_true rfl) hRc.1) (Nat.le_trans (Nat.le_of_ble_eq_true rfl) hRc.2) dX1_init_5 (fun q5 H hP hD hS => ?_)
  have hP : va_P D vwCl [(y0, .inr (1, [.null, .null, .int (iI (0)), .int (iI (0)), .int (iI (0)), .int (iI (0))])), (q5, .inr (0, [.null, .null]))] H := hP
  have hD : va_D A [(y0, .inr (1, [.null, .null, .int (iI (0)), .int (iI (0)), .int (iI (0)), .int (iI (0))])), (q5, .inr (0, [.null, .null]))] := hD
  refine lv_dup hx hb dX1_init_8 rfl ?_
  refine r_callC (As := []) (rest := [.ref q5, .ref y0]) (wr := [(y0, .inr (1, [.null, .null, .int (iI (0)), .int (iI (0)), .int (iI (0)), .int (iI (0))]))]) S (c_X0_init l D cI cL tw q5) gX1_init_X0_init rfl rfl rfl (hts _ mw_X1_init_6) (hts _ mw_X1_init_7) (hts _ mw_X1_init_8) rfl f_X0_init hR (Nat.le_of_ble_eq_true rfl) (Nat.le_of_ble_eq_true rfl) (hE.kept hS.2.1) hP hD hS hA [1] [0] rfl rfl (by decide) rfl (by decide) (by decide) rfl hl.1 rfl (Nat.le_of_ble_eq_true rfl) dX1_init_9 ⟨Nat.le_trans (Nat.le_of_ble_eq_true rfl) hRc.1, Nat.le_trans (Nat.le_of_ble_eq_true rfl) hRc.2⟩ (fun u9 H locs hP hD hS => ?_)
  obtain ⟨u9a, u9b⟩ := u9
  have hP : va_P D vwCl [(y0, .inr (1, [.null, .null, .int (iI (0)), .int (iI (0)), .int (iI (0)), .int (iI (0))])), (q5, .inr (0, [.ref u9a, .ref u9b])), (u9a, .inl (cI, 16, .inl (aI (fun _ => 0)))), (u9b, .inl (cI, 136, .inl (aI (cnt (fun _ => 0)))))] H := hP
  have hD : va_D A [(y0, .inr (1, [.null, .null, .int (iI (0)), .int (iI (0)), .int (iI (0)), .int (iI (0))])), (q5, .inr (0, [.ref u9a, .ref u9b])), (u9a, .inl (cI, 16, .inl (aI (fun _ => 0)))), (u9b, .inl (cI, 136, .inl (aI (cnt (fun _ => 0)))))] := hD
  refine va_putF (D := D) (ci := 1) (v := .ref q5) (ty := .object "PachisiYard$Board") (C := RX1) (T := TX1) (N := 6) hx hb hts mu_X1_init_X1 tyX1 tyX1_ok nmX1 hown hE.1 hP hD hS 0 rfl rfl 0 (by decide) (hts _ mw_X1_init_9) (fun _ h9 => h9) rfl hin rfl (by decide +kernel) rfl rfl (Nat.le_of_ble_eq_true rfl) dX1_init_12 (fun H locs hP hD hS => ?_)
  have hP : va_P D vwCl [(y0, .inr (1, [.ref q5, .null, .int (iI (0)), .int (iI (0)), .int (iI (0)), .int (iI (0))])), (q5, .inr (0, [.ref u9a, .ref u9b])), (u9a, .inl (cI, 16, .inl (aI (fun _ => 0)))), (u9b, .inl (cI, 136, .inl (aI (cnt (fun _ => 0)))))] H := hP
  have hD : va_D A [(y0, .inr (1, [.ref q5, .null, .int (iI (0)), .int (iI (0)), .int (iI (0)), .int (iI (0))])), (q5, .inr (0, [.ref u9a, .ref u9b])), (u9a, .inl (cI, 16, .inl (aI (fun _ => 0)))), (u9b, .inl (cI, 136, .inl (aI (cnt (fun _ => 0)))))] := hD
  refine lv_aload_n hx hb dX1_init_15 rfl (lv_at hl 0 rfl) ?_
  refine r_iconst hx hb dX1_init_16 ?_
  refine r_newaI hx hb (hts _ mw_X1_init_11) hE hP hD hS hA (N := 4) rfl (by decide) ⟨Nat.le_trans (Nat.le_of_ble_eq_true rfl) hRc.1, Nat.le_trans (Nat.le_of_ble_eq_true rfl) hRc.2⟩ dX1_init_17 (fun q17 H hP hD hS => ?_)
  have hP : va_P D vwCl [(y0, .inr (1, [.ref q5, .null, .int (iI (0)), .int (iI (0)), .int (iI (0)), .int (iI (0))])), (q5, .inr (0, [.ref u9a, .ref u9b])), (u9a, .inl (cI, 16, .inl (aI (fun _ => 0)))), (u9b, .inl (cI, 136, .inl (aI (cnt (fun _ => 0))))), (q17, .inl (cI, 4, .inl (aI (fun _ => 0))))] H := hP
  have hD : va_D A [(y0, .inr (1, [.ref q5, .null, .int (iI (0)), .int (iI (0)), .int (iI (0)), .int (iI (0))])), (q5, .inr (0, [.ref u9a, .ref u9b])), (u9a, .inl (cI, 16, .inl (aI (fun _ => 0)))), (u9b, .inl (cI, 136, .inl (aI (cnt (fun _ => 0))))), (q17, .inl (cI, 4, .inl (aI (fun _ => 0))))] := hD
  refine va_putF (D := D) (ci := 1) (v := .ref q17) (ty := .array .int) (C := RX1) (T := TX1) (N := 6) hx hb hts mu_X1_init_X1 tyX1 tyX1_ok nmX1 hown hE.1 hP hD hS 0 rfl rfl 1 (by decide) (hts _ mw_X1_init_12) (fun _ h9 => h9) rfl hin rfl (by decide +kernel) rfl rfl (Nat.le_of_ble_eq_true rfl) dX1_init_19 (fun H locs hP hD hS => ?_)
  have hP : va_P D vwCl [(y0, .inr (1, [.ref q5, .ref q17, .int (iI (0)), .int (iI (0)), .int (iI (0)), .int (iI (0))])), (q5, .inr (0, [.ref u9a, .ref u9b])), (u9a, .inl (cI, 16, .inl (aI (fun _ => 0)))), (u9b, .inl (cI, 136, .inl (aI (cnt (fun _ => 0))))), (q17, .inl (cI, 4, .inl (aI (fun _ => 0))))] H := hP
  have hD : va_D A [(y0, .inr (1, [.ref q5, .ref q17, .int (iI (0)), .int (iI (0)), .int (iI (0)), .int (iI (0))])), (q5, .inr (0, [.ref u9a, .ref u9b])), (u9a, .inl (cI, 16, .inl (aI (fun _ => 0)))), (u9b, .inl (cI, 136, .inl (aI (cnt (fun _ => 0))))), (q17, .inl (cI, 4, .inl (aI (fun _ => 0))))] := hD
  refine lv_aload_n hx hb dX1_init_22 rfl (lv_at hl 0 rfl) ?_
  refine r_iconst hx hb dX1_init_23 ?_
  refine va_put (D := D) (ci := 1) (v := .int (iI (0))) (ty := .int) (C := RX1) (T := TX1) (N := 6) hx hb hts mu_X1_init_X1 tyX1 tyX1_ok nmX1 hown hE.1 hP hD hS 0 rfl rfl 2 (by decide) (hts _ mw_X1_init_13) (fun _ h9 => h9) rfl (by decide +kernel) rfl rfl (Nat.le_of_ble_eq_true rfl) dX1_init_24 (fun H locs hP hD hS => ?_)
  have hP : va_P D vwCl [(y0, .inr (1, [.ref q5, .ref q17, .int (iI (0)), .int (iI (0)), .int (iI (0)), .int (iI (0))])), (q5, .inr (0, [.ref u9a, .ref u9b])), (u9a, .inl (cI, 16, .inl (aI (fun _ => 0)))), (u9b, .inl (cI, 136, .inl (aI (cnt (fun _ => 0))))), (q17, .inl (cI, 4, .inl (aI (fun _ => 0))))] H := hP
  have hD : va_D A [(y0, .inr (1, [.ref q5, .ref q17, .int (iI (0)), .int (iI (0)), .int (iI (0)), .int (iI (0))])), (q5, .inr (0, [.ref u9a, .ref u9b])), (u9a, .inl (cI, 16, .inl (aI (fun _ => 0)))), (u9b, .inl (cI, 136, .inl (aI (cnt (fun _ => 0))))), (q17, .inl (cI, 4, .inl (aI (fun _ => 0))))] := hD
  refine lv_aload_n hx hb dX1_init_27 rfl (lv_at hl 0 rfl) ?_
  refine r_iconst hx hb dX1_init_28 ?_
  refine va_put (D := D) (ci := 1) (v := .int (iI (0))) (ty := .int) (C := RX1) (T := TX1) (N := 6) hx hb hts mu_X1_init_X1 tyX1 tyX1_ok nmX1 hown hE.1 hP hD hS 0 rfl rfl 3 (by decide) (hts _ mw_X1_init_14) (fun _ h9 => h9) rfl (by decide +kernel) rfl rfl (Nat.le_of_ble_eq_true rfl) dX1_init_29 (fun H locs hP hD hS => ?_)
  have hP : va_P D vwCl [(y0, .inr (1, [.ref q5, .ref q17, .int (iI (0)), .int (iI (0)), .int (iI (0)), .int (iI (0))])), (q5, .inr (0, [.ref u9a, .ref u9b])), (u9a, .inl (cI, 16, .inl (aI (fun _ => 0)))), (u9b, .inl (cI, 136, .inl (aI (cnt (fun _ => 0))))), (q17, .inl (cI, 4, .inl (aI (fun _ => 0))))] H := hP
  have hD : va_D A [(y0, .inr (1, [.ref q5, .ref q17, .int (iI (0)), .int (iI (0)), .int (iI (0)), .int (iI (0))])), (q5, .inr (0, [.ref u9a, .ref u9b])), (u9a, .inl (cI, 16, .inl (aI (fun _ => 0)))), (u9b, .inl (cI, 136, .inl (aI (cnt (fun _ => 0))))), (q17, .inl (cI, 4, .inl (aI (fun _ => 0))))] := hD
  refine lv_aload_n hx hb dX1_init_32 rfl (lv_at hl 0 rfl) ?_
  refine r_iconst hx hb dX1_init_33 ?_
  refine va_put (D := D) (ci := 1) (v := .int (iI (0))) (ty := .int) (C := RX1) (T := TX1) (N := 6) hx hb hts mu_X1_init_X1 tyX1 tyX1_ok nmX1 hown hE.1 hP hD hS 0 rfl rfl 4 (by decide) (hts _ mw_X1_init_15) (fun _ h9 => h9) rfl (by decide +kernel) rfl rfl (Nat.le_of_ble_eq_true rfl) dX1_init_34 (fun H locs hP hD hS => ?_)
  have hP : va_P D vwCl [(y0, .inr (1, [.ref q5, .ref q17, .int (iI (0)), .int (iI (0)), .int (iI (0)), .int (iI (0))])), (q5, .inr (0, [.ref u9a, .ref u9b])), (u9a, .inl (cI, 16, .inl (aI (fun _ => 0)))), (u9b, .inl (cI, 136, .inl (aI (cnt (fun _ => 0))))), (q17, .inl (cI, 4, .inl (aI (fun _ => 0))))] H := hP
  have hD : va_D A [(y0, .inr (1, [.ref q5, .ref q17, .int (iI (0)), .int (iI (0)), .int (iI (0)), .int (iI (0))])), (q5, .inr (0, [.ref u9a, .ref u9b])), (u9a, .inl (cI, 16, .inl (aI (fun _ => 0)))), (u9b, .inl (cI, 136, .inl (aI (cnt (fun _ => 0))))), (q17, .inl (cI, 4, .inl (aI (fun _ => 0))))] := hD
  refine lv_aload_n hx hb dX1_init_37 rfl (lv_at hl 0 rfl) ?_
  refine r_iconst hx hb dX1_init_38 ?_
  refine va_put (D := D) (ci := 1) (v := .int (iI (0))) (ty := .int) (C := RX1) (T := TX1) (N := 6) hx hb hts mu_X1_init_X1 tyX1 tyX1_ok nmX1 hown hE.1 hP hD hS 0 rfl rfl 5 (by decide) (hts _ mw_X1_init_16) (fun _ h9 => h9) rfl (by decide +kernel) rfl rfl (Nat.le_of_ble_eq_true rfl) dX1_init_39 (fun H locs hP hD hS => ?_)
  have hP : va_P D vwCl [(y0, .inr (1, [.ref q5, .ref q17, .int (iI (0)), .int (iI (0)), .int (iI (0)), .int (iI (0))])), (q5, .inr (0, [.ref u9a, .ref u9b])), (u9a, .inl (cI, 16, .inl (aI (fun _ => 0)))), (u9b, .inl (cI, 136, .inl (aI (cnt (fun _ => 0))))), (q17, .inl (cI, 4, .inl (aI (fun _ => 0))))] H := hP
  have hD : va_D A [(y0, .inr (1, [.ref q5, .ref q17, .int (iI (0)), .int (iI (0)), .int (iI (0)), .int (iI (0))])), (q5, .inr (0, [.ref u9a, .ref u9b])), (u9a, .inl (cI, 16, .inl (aI (fun _ => 0)))), (u9b, .inl (cI, 136, .inl (aI (cnt (fun _ => 0))))), (q17, .inl (cI, 4, .inl (aI (fun _ => 0))))] := hD
  exact hret (q5, q17, u9a, u9b) _ _ _ _ _ _ dX1_init_42 (hP.sub [0, 4, 1, 2, 3] rfl) (hD.sub [0, 4, 1, 2, 3] (by decide) rfl) hS (Nat.le_of_ble_eq_true rfl) (Nat.le_of_ble_eq_true rfl)

set_option maxRecDepth 20000 in
theorem mw_X2_init_0 : (.methodLink RX2 1 objectInit : Cond) ∈ wsX2_init := by decide +kernel
set_option maxRecDepth 20000 in
theorem mw_X2_init_1 : (.instanceMethod objectInit : Cond) ∈ wsX2_init := by decide +kernel
set_option maxRecDepth 20000 in
theorem mw_X2_init_2 : (.code objectInit ⟨#[0xb1]⟩ 1 none : Cond) ∈ wsX2_init := by decide +kernel
set_option maxRecDepth 20000 in
theorem mw_X2_init_3 : (.arrayClass .int : Cond) ∈ wsX2_init := by decide +kernel
set_option maxRecDepth 20000 in
theorem mw_X2_init_4 : (.fieldLink RX2 7 "PachisiYardModel" "at" "[I" : Cond) ∈ wsX2_init := by decide +kernel
set_option maxRecDepth 20000 in
theorem mu_X2_init_X2 : ∀ w ∈ wsX20, w ∈ wsX2_init := by decide +kernel
set_option maxRecDepth 20000 in
theorem mw_X2_init_6 : (.fieldLink RX2 13 "PachisiYardModel" "captures" "[I" : Cond) ∈ wsX2_init := by decide +kernel
set_option maxRecDepth 20000 in
theorem mw_X2_init_7 : (.fieldLink RX2 16 "PachisiYardModel" "many" "[I" : Cond) ∈ wsX2_init := by decide +kernel
theorem f_X2_init : yX2_init.cls ≠ "java/lang/invoke/MethodHandle" ∧ yX2_init.cls ≠ "java/lang/invoke/VarHandle" ∧ (parseMethodDescriptor yX2_init.desc).map (fun d => d.parameters.length) = some 0 := by decide +kernel
set_option maxHeartbeats 4000000 in
set_option maxRecDepth 100000 in
theorem c_X2_init (l : Launch) (D : va_G) (cI cL : ClassId) (tw : Nat) (g0 : Nat) : RWc l yX2_init wsX2_init { frames := 1, cells := 3, slots := 27, locals := 40 } D cI cL tw [.ref g0] [(g0, .inr (2, [.null, .int (iI (0)), .int (iI (0)), .int (iI (0)), .int (iI (0)), .null, .null, .int (iI (0))]))] (fun u : Nat × Nat × Nat => [(g0, .inr (2, [.ref u.1, .int (iI (0)), .int (iI (0)), .int (iI (0)), .int (iI (0)), .ref u.2.1, .ref u.2.2, .int (iI (0))])), (u.1, .inl (cI, 16, .inl (aI (fun _ => 0)))), (u.2.1, .inl (cI, 4, .inl (aI (fun _ => 0)))), (u.2.2, .inl (cI, 7, .inl (aI wyI)))]) 3 27 := by
  refine rwc_of (cc := cX2_init) (maxL := 1) (own := RX2) (by decide) rfl rfl rfl (Nat.le_of_ble_eq_true rfl) ?_
  intro p e R s mt args below meth c H0 Q ls A S hR hRc hin hE hP hD hS hA hl hret
  obtain ⟨hx, hb, hml, hown, hts⟩ := id S
  have hl : lv_has ls 1 [(0, .ref g0)] := hl
  refine lv_aload_n hx hb dX2_init_0 rfl (lv_at hl 0 rfl) ?_
  refine r_objInit S hR (Nat.le_of_ble_eq_true rfl) (Nat.le_of_ble_eq_true rfl) (hts _ mw_X2_init_0) (hts _ mw_X2_init_1) (hts _ mw_X2_init_2) hl.1 (Nat.le_of_ble_eq_true rfl) dX2_init_1 ?_
  refine lv_aload_n hx hb dX2_init_4 rfl (lv_at hl 0 rfl) ?_
  refine r_bipush hx hb dX2_init_5 (by decide) ?_
  refine r_newaI hx hb (hts _ mw_X2_init_3) hE hP hD hS hA (N := 16) rfl (by decide) ⟨Nat.le_trans (Nat.le_of_ble_eq_true rfl) hRc.1, Nat.le_trans (Nat.le_of_ble_eq_true rfl) hRc.2⟩ dX2_init_7 (fun q7 H hP hD hS => ?_)
  have hP : va_P D vwCl [(g0, .inr (2, [.null, .int (iI (0)), .int (iI (0)), .int (iI (0)), .int (iI (0)), .null, .null, .int (iI (0))])), (q7, .inl (cI, 16, .inl (aI (fun _ => 0))))] H := hP
  have hD : va_D A [(g0, .inr (2, [.null, .int (iI (0)), .int (iI (0)), .int (iI (0)), .int (iI (0)), .null, .null, .int (iI (0))])), (q7, .inl (cI, 16, .inl (aI (fun _ => 0))))] := hD
  refine va_putF (D := D) (ci := 2) (v := .ref q7) (ty := .array .int) (C := RX2) (T := TX2) (N := 8) hx hb hts mu_X2_init_X2 tyX2 tyX2_ok nmX2 hown hE.1 hP hD hS 0 rfl rfl 0 (by decide) (hts _ mw_X2_init_4) (fun _ h9 => h9) rfl hin rfl (by decide +kernel) rfl rfl (Nat.le_of_ble_eq_true rfl) dX2_init_9 (fun H locs hP hD hS => ?_)
  have hP : va_P D vwCl [(g0, .inr (2, [.ref q7, .int (iI (0)), .int (iI (0)), .int (iI (0)), .int (iI (0)), .null, .null, .int (iI (0))])), (q7, .inl (cI, 16, .inl (aI (fun _ => 0))))] H := hP
  have hD : va_D A [(g0, .inr (2, [.ref q7, .int (iI (0)), .int (iI (0)), .int (iI (0)), .int (iI (0)), .null, .null, .int (iI (0))])), (q7, .inl (cI, 16, .inl (aI (fun _ => 0))))] := hD
  refine lv_aload_n hx hb dX2_init_12 rfl (lv_at hl 0 rfl) ?_
  refine r_iconst hx hb dX2_init_13 ?_
  refine r_newaI hx hb (hts _ mw_X2_init_3) hE hP hD hS hA (N := 4) rfl (by decide) ⟨Nat.le_trans (Nat.le_of_ble_eq_true rfl) hRc.1, Nat.le_trans (Nat.le_of_ble_eq_true rfl) hRc.2⟩ dX2_init_14 (fun q14 H hP hD hS => ?_)
  have hP : va_P D vwCl [(g0, .inr (2, [.ref q7, .int (iI (0)), .int (iI (0)), .int (iI (0)), .int (iI (0)), .null, .null, .int (iI (0))])), (q7, .inl (cI, 16, .inl (aI (fun _ => 0)))), (q14, .inl (cI, 4, .inl (aI (fun _ => 0))))] H := hP
  have hD : va_D A [(g0, .inr (2, [.ref q7, .int (iI (0)), .int (iI (0)), .int (iI (0)), .int (iI (0)), .null, .null, .int (iI (0))])), (q7, .inl (cI, 16, .inl (aI (fun _ => 0)))), (q14, .inl (cI, 4, .inl (aI (fun _ => 0))))] := hD
  refine va_putF (D := D) (ci := 2) (v := .ref q14) (ty := .array .int) (C := RX2) (T := TX2) (N := 8) hx hb hts mu_X2_init_X2 tyX2 tyX2_ok nmX2 hown hE.1 hP hD hS 0 rfl rfl 5 (by decide) (hts _ mw_X2_init_6) (fun _ h9 => h9) rfl hin rfl (by decide +kernel) rfl rfl (Nat.le_of_ble_eq_true rfl) dX2_init_16 (fun H locs hP hD hS => ?_)
  have hP : va_P D vwCl [(g0, .inr (2, [.ref q7, .int (iI (0)), .int (iI (0)), .int (iI (0)), .int (iI (0)), .ref q14, .null, .int (iI (0))])), (q7, .inl (cI, 16, .inl (aI (fun _ => 0)))), (q14, .inl (cI, 4, .inl (aI (fun _ => 0))))] H := hP
  have hD : va_D A [(g0, .inr (2, [.ref q7, .int (iI (0)), .int (iI (0)), .int (iI (0)), .int (iI (0)), .ref q14, .null, .int (iI (0))])), (q7, .inl (cI, 16, .inl (aI (fun _ => 0)))), (q14, .inl (cI, 4, .inl (aI (fun _ => 0))))] := hD
  refine lv_aload_n hx hb dX2_init_19 rfl (lv_at hl 0 rfl) ?_
  refine r_bipush hx hb dX2_init_20 (by decide) ?_
  refine r_newaI hx hb (hts _ mw_X2_init_3) hE hP hD hS hA (N := 7) rfl (by decide) ⟨Nat.le_trans (Nat.le_of_ble_eq_true rfl) hRc.1, Nat.le_trans (Nat.le_of_ble_eq_true rfl) hRc.2⟩ dX2_init_22 (fun q22 H hP hD hS => ?_)
  have hP : va_P D vwCl [(g0, .inr (2, [.ref q7, .int (iI (0)), .int (iI (0)), .int (iI (0)), .int (iI (0)), .ref q14, .null, .int (iI (0))])), (q7, .inl (cI, 16, .inl (aI (fun _ => 0)))), (q14, .inl (cI, 4, .inl (aI (fun _ => 0)))), (q22, .inl (cI, 7, .inl (aI (fun _ => 0))))] H := hP
  have hD : va_D A [(g0, .inr (2, [.ref q7, .int (iI (0)), .int (iI (0)), .int (iI (0)), .int (iI (0)), .ref q14, .null, .int (iI (0))])), (q7, .inl (cI, 16, .inl (aI (fun _ => 0)))), (q14, .inl (cI, 4, .inl (aI (fun _ => 0)))), (q22, .inl (cI, 7, .inl (aI (fun _ => 0))))] := hD
  refine va_putF (D := D) (ci := 2) (v := .ref q22) (ty := .array .int) (C := RX2) (T := TX2) (N := 8) hx hb hts mu_X2_init_X2 tyX2 tyX2_ok nmX2 hown hE.1 hP hD hS 0 rfl rfl 6 (by decide) (hts _ mw_X2_init_7) (fun _ h9 => h9) rfl hin rfl (by decide +kernel) rfl rfl (Nat.le_of_ble_eq_true rfl) dX2_init_24 (fun H locs hP hD hS => ?_)
  have hP : va_P D vwCl [(g0, .inr (2, [.ref q7, .int (iI (0)), .int (iI (0)), .int (iI (0)), .int (iI (0)), .ref q14, .ref q22, .int (iI (0))])), (q7, .inl (cI, 16, .inl (aI (fun _ => 0)))), (q14, .inl (cI, 4, .inl (aI (fun _ => 0)))), (q22, .inl (cI, 7, .inl (aI (fun _ => 0))))] H := hP
  have hD : va_D A [(g0, .inr (2, [.ref q7, .int (iI (0)), .int (iI (0)), .int (iI (0)), .int (iI (0)), .ref q14, .ref q22, .int (iI (0))])), (q7, .inl (cI, 16, .inl (aI (fun _ => 0)))), (q14, .inl (cI, 4, .inl (aI (fun _ => 0)))), (q22, .inl (cI, 7, .inl (aI (fun _ => 0))))] := hD
  refine lv_aload_n hx hb dX2_init_27 rfl (lv_at hl 0 rfl) ?_
  refine va_get (D := D) (ci := 2) (v := .ref q22) (C := RX2) (T := TX2) (N := 8) hx hb hts mu_X2_init_X2 hown hE.1 hP 0 rfl rfl 6 (by decide) (hts _ mw_X2_init_7) (fun _ h9 => h9) rfl dX2_init_28 ?_
  refine r_iconst hx hb dX2_init_31 ?_
  refine r_iconst hx hb dX2_init_32 ?_
  refine r_iast hx hb hE.1 hP hD hS 3 (P := (fun _ => 0)) rfl (i := 0) (v := 1) (by omega) (by omega) (by decide) (ws1 := [(g0, .inr (2, [.ref q7, .int (iI (0)), .int (iI (0)), .int (iI (0)), .int (iI (0)), .ref q14, .ref q22, .int (iI (0))])), (q7, .inl (cI, 16, .inl (aI (fun _ => 0)))), (q14, .inl (cI, 4, .inl (aI (fun _ => 0)))), (q22, .inl (cI, 7, .inl (aI (uI (fun _ => 0) (0) (1)))))]) rfl dX2_init_33 (fun H locs hP hD hS => ?_)
  refine lv_aload_n hx hb dX2_init_34 rfl (lv_at hl 0 rfl) ?_
  refine va_get (D := D) (ci := 2) (v := .ref q22) (C := RX2) (T := TX2) (N := 8) hx hb hts mu_X2_init_X2 hown hE.1 hP 0 rfl rfl 6 (by decide) (hts _ mw_X2_init_7) (fun _ h9 => h9) rfl dX2_init_35 ?_
  refine r_iconst hx hb dX2_init_38 ?_
  refine r_bipush hx hb dX2_init_39 (by decide) ?_
  refine r_iast hx hb hE.1 hP hD hS 3 (P := (uI (fun _ => 0) (0) (1))) rfl (i := 1) (v := 6) (by omega) (by omega) (by decide) (ws1 := [(g0, .inr (2, [.ref q7, .int (iI (0)), .int (iI (0)), .int (iI (0)), .int (iI (0)), .ref q14, .ref q22, .int (iI (0))])), (q7, .inl (cI, 16, .inl (aI (fun _ => 0)))), (q14, .inl (cI, 4, .inl (aI (fun _ => 0)))), (q22, .inl (cI, 7, .inl (aI (uI (uI (fun _ => 0) (0) (1)) (1) (6)))))]) rfl dX2_init_41 (fun H locs hP hD hS => ?_)
  refine lv_aload_n hx hb dX2_init_42 rfl (lv_at hl 0 rfl) ?_
  refine va_get (D := D) (ci := 2) (v := .ref q22) (C := RX2) (T := TX2) (N := 8) hx hb hts mu_X2_init_X2 hown hE.1 hP 0 rfl rfl 6 (by decide) (hts _ mw_X2_init_7) (fun _ h9 => h9) rfl dX2_init_43 ?_
  refine r_iconst hx hb dX2_init_46 ?_
  refine r_bipush hx hb dX2_init_47 (by decide) ?_
  refine r_iast hx hb hE.1 hP hD hS 3 (P := (uI (uI (fun _ => 0) (0) (1)) (1) (6))) rfl (i := 2) (v := 15) (by omega) (by omega) (by decide) (ws1 := [(g0, .inr (2, [.ref q7, .int (iI (0)), .int (iI (0)), .int (iI (0)), .int (iI (0)), .ref q14, .ref q22, .int (iI (0))])), (q7, .inl (cI, 16, .inl (aI (fun _ => 0)))), (q14, .inl (cI, 4, .inl (aI (fun _ => 0)))), (q22, .inl (cI, 7, .inl (aI (uI (uI (uI (fun _ => 0) (0) (1)) (1) (6)) (2) (15)))))]) rfl dX2_init_49 (fun H locs hP hD hS => ?_)
  refine lv_aload_n hx hb dX2_init_50 rfl (lv_at hl 0 rfl) ?_
  refine va_get (D := D) (ci := 2) (v := .ref q22) (C := RX2) (T := TX2) (N := 8) hx hb hts mu_X2_init_X2 hown hE.1 hP 0 rfl rfl 6 (by decide) (hts _ mw_X2_init_7) (fun _ h9 => h9) rfl dX2_init_51 ?_
  refine r_iconst hx hb dX2_init_54 ?_
  refine r_bipush hx hb dX2_init_55 (by decide) ?_
  refine r_iast hx hb hE.1 hP hD hS 3 (P := (uI (uI (uI (fun _ => 0) (0) (1)) (1) (6)) (2) (15))) rfl (i := 3) (v := 20) (by omega) (by omega) (by decide) (ws1 := [(g0, .inr (2, [.ref q7, .int (iI (0)), .int (iI (0)), .int (iI (0)), .int (iI (0)), .ref q14, .ref q22, .int (iI (0))])), (q7, .inl (cI, 16, .inl (aI (fun _ => 0)))), (q14, .inl (cI, 4, .inl (aI (fun _ => 0)))), (q22, .inl (cI, 7, .inl (aI (uI (uI (uI (uI (fun _ => 0) (0) (1)) (1) (6)) (2) (15)) (3) (20)))))]) rfl dX2_init_57 (fun H locs hP hD hS => ?_)
  refine lv_aload_n hx hb dX2_init_58 rfl (lv_at hl 0 rfl) ?_
  refine va_get (D := D) (ci := 2) (v := .ref q22) (C := RX2) (T := TX2) (N := 8) hx hb hts mu_X2_init_X2 hown hE.1 hP 0 rfl rfl 6 (by decide) (hts _ mw_X2_init_7) (fun _ h9 => h9) rfl dX2_init_59 ?_
  refine r_iconst hx hb dX2_init_62 ?_
  refine r_bipush hx hb dX2_init_63 (by decide) ?_
  refine r_iast hx hb hE.1 hP hD hS 3 (P := (uI (uI (uI (uI (fun _ => 0) (0) (1)) (1) (6)) (2) (15)) (3) (20))) rfl (i := 4) (v := 15) (by omega) (by omega) (by decide) (ws1 := [(g0, .inr (2, [.ref q7, .int (iI (0)), .int (iI (0)), .int (iI (0)), .int (iI (0)), .ref q14, .ref q22, .int (iI (0))])), (q7, .inl (cI, 16, .inl (aI (fun _ => 0)))), (q14, .inl (cI, 4, .inl (aI (fun _ => 0)))), (q22, .inl (cI, 7, .inl (aI (uI (uI (uI (uI (uI (fun _ => 0) (0) (1)) (1) (6)) (2) (15)) (3) (20)) (4) (15)))))]) rfl dX2_init_65 (fun H locs hP hD hS => ?_)
  refine lv_aload_n hx hb dX2_init_66 rfl (lv_at hl 0 rfl) ?_
  refine va_get (D := D) (ci := 2) (v := .ref q22) (C := RX2) (T := TX2) (N := 8) hx hb hts mu_X2_init_X2 hown hE.1 hP 0 rfl rfl 6 (by decide) (hts _ mw_X2_init_7) (fun _ h9 => h9) rfl dX2_init_67 ?_
  refine r_iconst hx hb dX2_init_70 ?_
  refine r_bipush hx hb dX2_init_71 (by decide) ?_
  refine r_iast hx hb hE.1 hP hD hS 3 (P := (uI (uI (uI (uI (uI (fun _ => 0) (0) (1)) (1) (6)) (2) (15)) (3) (20)) (4) (15))) rfl (i := 5) (v := 6) (by omega) (by omega) (by decide) (ws1 := [(g0, .inr (2, [.ref q7, .int (iI (0)), .int (iI (0)), .int (iI (0)), .int (iI (0)), .ref q14, .ref q22, .int (iI (0))])), (q7, .inl (cI, 16, .inl (aI (fun _ => 0)))), (q14, .inl (cI, 4, .inl (aI (fun _ => 0)))), (q22, .inl (cI, 7, .inl (aI (uI (uI (uI (uI (uI (uI (fun _ => 0) (0) (1)) (1) (6)) (2) (15)) (3) (20)) (4) (15)) (5) (6)))))]) rfl dX2_init_73 (fun H locs hP hD hS => ?_)
  refine lv_aload_n hx hb dX2_init_74 rfl (lv_at hl 0 rfl) ?_
  refine va_get (D := D) (ci := 2) (v := .ref q22) (C := RX2) (T := TX2) (N := 8) hx hb hts mu_X2_init_X2 hown hE.1 hP 0 rfl rfl 6 (by decide) (hts _ mw_X2_init_7) (fun _ h9 => h9) rfl dX2_init_75 ?_
  refine r_bipush hx hb dX2_init_78 (by decide) ?_
  refine r_iconst hx hb dX2_init_80 ?_
  refine r_iast hx hb hE.1 hP hD hS 3 (P := (uI (uI (uI (uI (uI (uI (fun _ => 0) (0) (1)) (1) (6)) (2) (15)) (3) (20)) (4) (15)) (5) (6))) rfl (i := 6) (v := 1) (by omega) (by omega) (by decide) (ws1 := [(g0, .inr (2, [.ref q7, .int (iI (0)), .int (iI (0)), .int (iI (0)), .int (iI (0)), .ref q14, .ref q22, .int (iI (0))])), (q7, .inl (cI, 16, .inl (aI (fun _ => 0)))), (q14, .inl (cI, 4, .inl (aI (fun _ => 0)))), (q22, .inl (cI, 7, .inl (aI (uI (uI (uI (uI (uI (uI (uI (fun _ => 0) (0) (1)) (1) (6)) (2) (15)) (3) (20)) (4) (15)) (5) (6)) (6) (1)))))]) rfl dX2_init_81 (fun H locs hP hD hS => ?_)
  exact hret (q7, q14, q22) _ _ _ _ _ _ dX2_init_82 (hP.sub [0, 1, 2, 3] rfl) (hD.sub [0, 1, 2, 3] (by decide) rfl) hS (Nat.le_of_ble_eq_true rfl) (Nat.le_of_ble_eq_true rfl)
end
