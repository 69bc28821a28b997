def iI (z : Int) : Int32 := Int32.ofInt z
def rI (z : Int) : Prop := -2147483648 ≤ z ∧ z < 2147483648
theorem iI_add (a b : Int) : iI a + iI b = iI (a + b) := (Int32.ofInt_add a b).symm
theorem iI_sub (a b : Int) : iI a - iI b = iI (a - b) := (Int32.ofInt_sub a b).symm
theorem iI_mul (a b : Int) : iI a * iI b = iI (a * b) := (Int32.ofInt_mul a b).symm
theorem iI_neg (a : Int) : -iI a = iI (-a) := (Int32.ofInt_neg a).symm
theorem iI_toInt {a : Int} (h : rI a) : (iI a).toInt = a := Int32.toInt_ofInt_of_le (by unfold rI at h; omega) (by unfold rI at h; omega)
theorem iI_le {a b : Int} (ha : rI a) (hb : rI b) : iI a ≤ iI b ↔ a ≤ b := by rw [Int32.le_iff_toInt_le, iI_toInt ha, iI_toInt hb]
theorem iI_lt {a b : Int} (ha : rI a) (hb : rI b) : iI a < iI b ↔ a < b := by rw [Int32.lt_iff_toInt_lt, iI_toInt ha, iI_toInt hb]
theorem iI_eq {a b : Int} (ha : rI a) (hb : rI b) : iI a = iI b ↔ a = b := by rw [← Int32.toInt_inj, iI_toInt ha, iI_toInt hb]
theorem nlt {a b : Int} {d : Nat} (h0 : 0 ≤ b) (hd : (d : Int) = a) (h : b < a) : b.toNat < d := by omega
theorem iI_0 : iI 0 = 0 := rfl
theorem rI_0 : rI 0 := by unfold rI; omega
theorem iI_nat (n : Nat) : iI (n : Int) = nI n := rfl
theorem iI_nonneg {a : Int} (h : 0 ≤ a) : iI a = nI a.toNat := by rw [← iI_nat, Int.toNat_of_nonneg h]
theorem iI_cl {a : Int} (h0 : 0 ≤ a) (h1 : a < 2147483648) : (iI a).toNatClampNeg = a.toNat := by rw [iI_nonneg h0]; exact nI_clamp (by omega)
theorem iI_of (x : Int32) : x = iI x.toInt := (Int32.ofInt_toInt x).symm
theorem rI_of (x : Int32) : rI x.toInt := ⟨Int32.le_toInt x, Int32.toInt_lt x⟩
theorem iI_div {a b : Int} (ha : 0 ≤ a) (ha1 : a < 2147483648) (hb : 0 < b) (hb1 : b < 2147483648) : iI a / iI b = iI (a / b) := by
  rw [iI_nonneg ha, iI_nonneg (by omega : 0 ≤ b), pk_div (by omega) (by omega) (by omega), ← iI_nat, Int.natCast_ediv, Int.toNat_of_nonneg ha, Int.toNat_of_nonneg (by omega : 0 ≤ b)]
theorem iI_rem {a b : Int} (ha : 0 ≤ a) (ha1 : a < 2147483648) (hb : 0 < b) (hb1 : b < 2147483648) : iI a - iI a / iI b * iI b = iI (a % b) := by
  rw [iI_nonneg ha, iI_nonneg (by omega : 0 ≤ b), pk_rem (by omega) (by omega) (by omega), ← iI_nat, Int.natCast_emod, Int.toNat_of_nonneg ha, Int.toNat_of_nonneg (by omega : 0 ≤ b)]
theorem iI_ne0 {b : Int} (hb : 0 < b) (hb1 : b < 2147483648) : ¬ iI b = 0 := by
  rw [← iI_0, iI_eq (by unfold rI; omega) rI_0]; omega
/-- an array of whole numbers -/
def aI (P : Int → Int) : Nat → Int32 := fun k => iI (P (k : Int))
def uI (P : Int → Int) (i v : Int) : Int → Int := fun j => if j = i then v else P j
theorem aI_in {e : Int} {n : Nat} (h0 : 0 ≤ e) (h1 : e < n) (hn : n ≤ 1000000) : vp_in (iI e) n := by
  rw [iI_nonneg h0]; exact vp_in_nI (by omega) (by omega)
theorem aI_at {P : Int → Int} {e : Int} {n : Nat} (h0 : 0 ≤ e) (h1 : e < n) (hn : n ≤ 1000000) : aI P (iI e).toNatClampNeg = iI (P e) := by
  rw [iI_cl h0 (by omega)]; unfold aI; rw [Int.toNat_of_nonneg h0]
theorem aI_upd {P : Int → Int} {e v : Int} {n : Nat} (h0 : 0 ≤ e) (h1 : e < n) (hn : n ≤ 1000000) : upd (aI P) (iI e).toNatClampNeg (iI v) = aI (uI P e v) := by
  rw [iI_cl h0 (by omega)]
  funext k
  unfold upd aI uI
  by_cases hk : k = e.toNat
  · subst hk; rw [if_pos rfl, if_pos (Int.toNat_of_nonneg h0)]
  · rw [if_neg hk, if_neg (by omega)]
/-- the environment: classes, links of nest mates, the table, what a throw reads -/
def nestL : List Cond := [.methodLinkNest RX0 26 yX1_partnerOf RX1, .methodLinkNest RX0 42 yX1_isGrace RX1, .methodLinkNest RX0 46 yX1_worthOf RX1, .methodLinkNest RX0 65 yX1_otherTeam RX1, .methodLinkNest RX0 57 yX1_isSafeSquare RX1, .methodLinkNest RX0 32 yX1_teamOf RX1, .declares (Bundle.initS "java/lang/RuntimeException"), .declares (Bundle.initS "java/lang/Exception"), .declares (Bundle.initS Bundle.tN), .castable "java/lang/IllegalArgumentException" "java/lang/IllegalArgumentException", .castable "java/lang/IllegalStateException" "java/lang/IllegalStateException", .castable "java/lang/IndexOutOfBoundsException" "java/lang/IndexOutOfBoundsException"]
def strL : List (Nat × String) := [(132, "what is asked for is 0 to 3"), (141, "the threat comes from a player of the other team"), (146, "the throws left are 1 to 3"), (153, "the players are 0 to 3"), (156, "the pieces are 0 to 3"), (158, "the squares are 0 to 67"), (160, "the teams are 0 and 1"), (162, "no throw is to be made"), (164, "there is no throw to move by"), (35, "the mouths up are 0 to 6"), (78, "the piece cannot move by the throw")]
/-- the ways of each number of mouths -/
def wyI : Int → Int := (uI (uI (uI (uI (uI (uI (uI (fun _ => 0) (0) (1)) (1) (6)) (2) (15)) (3) (20)) (4) (15)) (5) (6)) (6) (1))
def ncL : List (String × String) := [("java/lang/IllegalStateException", "java/lang/IllegalArgumentException"), ("java/lang/IllegalStateException", "java/lang/IndexOutOfBoundsException"), ("java/lang/IllegalArgumentException", "java/lang/IndexOutOfBoundsException")]
def EV (D : va_G) (cI cL : ClassId) (tw : Nat) (A : Nat → Prop) (U : State) (H : Heap) : Prop :=
  va_K D vwCl [(cI, .int)] U ∧ (∀ w ∈ nestL, va_Nw w U) ∧ va_Z "PachisiYard" "WAYS_BY_MOUTHS" "[I" (.ref tw) A U H ∧ va_T .int tw 7 (fun j => .int (aI wyI j)) A U H ∧ (vx_Zq Bundle.tN "UNASSIGNED_STACK" Bundle.steD A U H ∧ vx_Zq Bundle.tN "SUPPRESSED_SENTINEL" Bundle.listD A U H) ∧ (∀ q ∈ strL, ∃ sa : Nat, vk_R RX1 q.1 q.2 sa U) ∧ ∀ q ∈ ncL, va_Nc q.1 q.2 U
def FF : Nat → Prop := fun _ => False
theorem EV.K {D : va_G} {cI cL : ClassId} {tw : Nat} {A : Nat → Prop} {U : State} {H : Heap} (h : EV D cI cL tw A U H) : va_K D vwCl [(cI, .int)] U := h.1
theorem EV.kept {D : va_G} {cI cL : ClassId} {tw : Nat} {A : Nat → Prop} {U : State} {H H1 : Heap} (h : EV D cI cL tw A U H) (hq : ∀ a : Nat, a < H.size → ¬ A a → H1[a]? = H[a]?) : EV D cI cL tw A U H1 :=
  ⟨h.1, h.2.1, h.2.2.1.kept hq, h.2.2.2.1.kept hq, ⟨h.2.2.2.2.1.1.kept hq, h.2.2.2.2.1.2.kept hq⟩, h.2.2.2.2.2⟩
theorem EV.narrow {D : va_G} {cI cL : ClassId} {tw : Nat} {A B : Nat → Prop} {U : State} {H : Heap} (h : EV D cI cL tw A U H) (hAB : ∀ q, B q → A q) : EV D cI cL tw B U H :=
  ⟨h.1, h.2.1, h.2.2.1.narrow hAB, h.2.2.2.1.narrow hAB, ⟨h.2.2.2.2.1.1.narrow hAB, h.2.2.2.2.1.2.narrow hAB⟩, h.2.2.2.2.2⟩
theorem nest_warm {s U : State} (hW : s.WarmedH U.vm) (h : ∀ w ∈ nestL, va_Nw w s) : ∀ w ∈ nestL, va_Nw w U := by
  intro w hw
  have h1 := h w hw
  simp only [nestL, List.mem_cons, List.not_mem_nil, or_false] at hw
  rcases hw with rfl | rfl | rfl | rfl | rfl | rfl | rfl | rfl | rfl | rfl | rfl | rfl <;> first | exact va_Nw.warmM hW h1 | exact va_Nw.warmC hW h1 | exact va_tabs rfl (rfl : (s.setVm U.vm).vm = U.vm) (by rw [Cond.declares_setVm hW.alike]; exact h1)
theorem EV.warm {D : va_G} {cI cL : ClassId} {tw : Nat} {A : Nat → Prop} {s U : State} {H : Heap} (hW : s.WarmedH U.vm) (h : EV D cI cL tw A s H) : EV D cI cL tw A U H :=
  ⟨h.1.moved hW.alike, nest_warm hW h.2.1, h.2.2.1.moved hW.alike, h.2.2.2.1.moved hW.alike, ⟨vx_Zq.moved hW.alike h.2.2.2.2.1.1, vx_Zq.moved hW.alike h.2.2.2.2.1.2⟩, fun q hq => let ⟨sa, hs⟩ := h.2.2.2.2.2.1 q hq; ⟨sa, vk_R.warm hW hs⟩, fun q hq => va_Nc.moved hW.alike (h.2.2.2.2.2.2 q hq)⟩
theorem nest_same {u U : State} (h : u.vm = U.vm) (hn : ∀ w ∈ nestL, va_Nw w u) : ∀ w ∈ nestL, va_Nw w U := by
  intro w hw
  have h1 := hn w hw
  simp only [nestL, List.mem_cons, List.not_mem_nil, or_false] at hw
  rcases hw with rfl | rfl | rfl | rfl | rfl | rfl | rfl | rfl | rfl | rfl | rfl | rfl <;> exact va_Nw.same rfl h h1
theorem nest_use {A : Array Value} {U : State} {w : Cond} (hw : w ∈ nestL) (h1 : va_Nw w U) : w.before A U = true := by
  simp only [nestL, List.mem_cons, List.not_mem_nil, or_false] at hw
  rcases hw with rfl | rfl | rfl | rfl | rfl | rfl | rfl | rfl | rfl | rfl | rfl | rfl <;> exact va_Nw.use rfl h1
theorem EV.same {D : va_G} {cI cL : ClassId} {tw : Nat} {A : Nat → Prop} {u U : State} {H : Heap} (hv : u.vm = U.vm) (h : EV D cI cL tw A u H) : EV D cI cL tw A U H := by
  have ha : u.vm.Alike U.vm := by rw [hv]; exact Vm.Alike.refl U.vm
  exact ⟨h.1.moved ha, nest_same hv h.2.1, h.2.2.1.moved ha, h.2.2.2.1.moved ha, ⟨vx_Zq.moved ha h.2.2.2.2.1.1, vx_Zq.moved ha h.2.2.2.2.1.2⟩, fun q hq => let ⟨sa, hs⟩ := h.2.2.2.2.2.1 q hq; ⟨sa, vk_R.same hv.symm hs⟩, fun q hq => va_Nc.moved ha (h.2.2.2.2.2.2 q hq)⟩
/-- a method that reads only: its answer z with post z -/
def RO (l : Launch) (y : MethodName) (ws : List Cond) (rm : Room) (D : va_G) (cI cL : ClassId) (tw : Nat) (av : List Value) (WS : va_W) (post : Int → Prop) : Prop :=
  Met l y ws rm (va_Pc av (fun U => EV D cI cL tw FF U U.heap ∧ va_P D vwCl WS U.heap)) (vp_Si (fun r => ∃ z : Int, r = iI z ∧ post z)) 0 0 FF
/-- a truth -/
def tz (C : Prop) (z : Int) : Prop := (z = 1 ∧ C) ∨ (z = 0 ∧ ¬ C)

section RWS
variable {p : Program} {l : Launch} {e : Env} {R : Room} {s : State} {m : MethodId} {args : Array Value} {below : List Frame} {meth : Method} {c : Code} {H : Heap} {locs : List Loc} {cells slots : Nat} {Q : State → Prop}
variable {cc : ByteArray} {pc : Nat} {ls : Array Slot} {rest st0 : List Value} {D : va_G} {cI cL : ClassId} {tw : Nat} {A : Nat → Prop} {ws : va_W} {H0 : Heap} {nL : Nat} {Ts : List Cond} {own : String}
theorem r_iconst (hx : p.tables.exec = Jvm.exec) (hb : c.code = cc) {n : Int} (hdg : decode cc pc = .ok (.iconst n, 1)) (k : W p l e R s m args below meth c H locs cells slots Q (F0 m (pc + 1) ls (.int (iI n) :: rest))) : W p l e R s m args below meth c H locs cells slots Q (F0 m pc ls rest) := lv_iconst hx hb hdg rfl k
theorem r_bipush (hx : p.tables.exec = Jvm.exec) (hb : c.code = cc) {n : Int} (hdg : decode cc pc = .ok (.bipush n, 2)) (hv : (Int8.ofInt n).toInt32 = iI n) (k : W p l e R s m args below meth c H locs cells slots Q (F0 m (pc + 2) ls (.int (iI n) :: rest))) : W p l e R s m args below meth c H locs cells slots Q (F0 m pc ls rest) := lv_bipush hx hb hdg hv k
theorem r_sipush (hx : p.tables.exec = Jvm.exec) (hb : c.code = cc) {n : Int} (hdg : decode cc pc = .ok (.sipush n, 3)) (hv : (Int16.ofInt n).toInt32 = iI n) (k : W p l e R s m args below meth c H locs cells slots Q (F0 m (pc + 3) ls (.int (iI n) :: rest))) : W p l e R s m args below meth c H locs cells slots Q (F0 m pc ls rest) := lv_sipush hx hb hdg hv k
theorem r_iadd (hx : p.tables.exec = Jvm.exec) (hb : c.code = cc) {a b : Int} (hdg : decode cc pc = .ok (.iadd, 1)) (k : W p l e R s m args below meth c H locs cells slots Q (F0 m (pc + 1) ls (.int (iI (a + b)) :: rest))) : W p l e R s m args below meth c H locs cells slots Q (F0 m pc ls (.int (iI b) :: .int (iI a) :: rest)) := lv_iadd hx hb hdg (by rw [iI_add]; exact k)
theorem r_isub (hx : p.tables.exec = Jvm.exec) (hb : c.code = cc) {a b : Int} (hdg : decode cc pc = .ok (.isub, 1)) (k : W p l e R s m args below meth c H locs cells slots Q (F0 m (pc + 1) ls (.int (iI (a - b)) :: rest))) : W p l e R s m args below meth c H locs cells slots Q (F0 m pc ls (.int (iI b) :: .int (iI a) :: rest)) := lv_isub hx hb hdg (by rw [iI_sub]; exact k)
theorem r_imul (hx : p.tables.exec = Jvm.exec) (hb : c.code = cc) {a b : Int} (hdg : decode cc pc = .ok (.imul, 1)) (k : W p l e R s m args below meth c H locs cells slots Q (F0 m (pc + 1) ls (.int (iI (a * b)) :: rest))) : W p l e R s m args below meth c H locs cells slots Q (F0 m pc ls (.int (iI b) :: .int (iI a) :: rest)) := lv_imul hx hb hdg (by rw [iI_mul]; exact k)
theorem r_ineg (hx : p.tables.exec = Jvm.exec) (hb : c.code = cc) {a : Int} (hdg : decode cc pc = .ok (.ineg, 1)) (k : W p l e R s m args below meth c H locs cells slots Q (F0 m (pc + 1) ls (.int (iI (-a)) :: rest))) : W p l e R s m args below meth c H locs cells slots Q (F0 m pc ls (.int (iI a) :: rest)) := lv_ineg hx hb hdg (by first | (rw [iI_neg]; exact k) | (rw [← iI_0, iI_sub, Int.zero_sub]; exact k))
theorem r_idiv (hx : p.tables.exec = Jvm.exec) (hb : c.code = cc) {a b : Int} (hdg : decode cc pc = .ok (.idiv, 1)) (h1 : 0 ≤ a ∧ a < 2147483648) (h2 : 0 < b ∧ b < 2147483648) (k : W p l e R s m args below meth c H locs cells slots Q (F0 m (pc + 1) ls (.int (iI (a / b)) :: rest))) : W p l e R s m args below meth c H locs cells slots Q (F0 m pc ls (.int (iI b) :: .int (iI a) :: rest)) := lv_idiv hx hb hdg (iI_ne0 h2.1 h2.2) (by rw [iI_div h1.1 h1.2 h2.1 h2.2]; exact k)
theorem r_irem (hx : p.tables.exec = Jvm.exec) (hb : c.code = cc) {a b : Int} (hdg : decode cc pc = .ok (.irem, 1)) (h1 : 0 ≤ a ∧ a < 2147483648) (h2 : 0 < b ∧ b < 2147483648) (k : W p l e R s m args below meth c H locs cells slots Q (F0 m (pc + 1) ls (.int (iI (a % b)) :: rest))) : W p l e R s m args below meth c H locs cells slots Q (F0 m pc ls (.int (iI b) :: .int (iI a) :: rest)) := lv_irem hx hb hdg (iI_ne0 h2.1 h2.2) (by rw [iI_rem h1.1 h1.2 h2.1 h2.2]; exact k)
theorem r_iand (hx : p.tables.exec = Jvm.exec) (hb : c.code = cc) {a b z : Int} (hdg : decode cc pc = .ok (.iand, 1)) (hz : iI a &&& iI b = iI z) (k : W p l e R s m args below meth c H locs cells slots Q (F0 m (pc + 1) ls (.int (iI z) :: rest))) : W p l e R s m args below meth c H locs cells slots Q (F0 m pc ls (.int (iI b) :: .int (iI a) :: rest)) := lv_iand hx hb hdg (by rw [hz]; exact k)
theorem r_ior (hx : p.tables.exec = Jvm.exec) (hb : c.code = cc) {a b z : Int} (hdg : decode cc pc = .ok (.ior, 1)) (hz : iI a ||| iI b = iI z) (k : W p l e R s m args below meth c H locs cells slots Q (F0 m (pc + 1) ls (.int (iI z) :: rest))) : W p l e R s m args below meth c H locs cells slots Q (F0 m pc ls (.int (iI b) :: .int (iI a) :: rest)) := lv_ior hx hb hdg (by rw [hz]; exact k)
theorem r_ishl (hx : p.tables.exec = Jvm.exec) (hb : c.code = cc) {a b z : Int} (hdg : decode cc pc = .ok (.ishl, 1)) (hz : iI a <<< (iI b &&& 31) = iI z) (k : W p l e R s m args below meth c H locs cells slots Q (F0 m (pc + 1) ls (.int (iI z) :: rest))) : W p l e R s m args below meth c H locs cells slots Q (F0 m pc ls (.int (iI b) :: .int (iI a) :: rest)) := lv_ishl hx hb hdg (by first | (rw [hz]; exact k) | exact (hz ▸ k))
theorem r_top {a : Int} (b : Int) (h : a = b) (k : W p l e R s m args below meth c H locs cells slots Q (F0 m pc ls (.int (iI b) :: rest))) : W p l e R s m args below meth c H locs cells slots Q (F0 m pc ls (.int (iI a) :: rest)) := by rw [h]; exact k
theorem r_icmp_eq (hx : p.tables.exec = Jvm.exec) (hb : c.code = cc) {a b off : Int} {tgt : Nat} (hdg : decode cc pc = .ok (.if_icmp .eq off, 3)) (ht : (pc : Int) + off = (tgt : Int)) (ha : rI a) (hb2 : rI b) (kt : a = b → W p l e R s m args below meth c H locs cells slots Q (F0 m tgt ls rest)) (kf : ¬ a = b → W p l e R s m args below meth c H locs cells slots Q (F0 m (pc + 3) ls rest)) : W p l e R s m args below meth c H locs cells slots Q (F0 m pc ls (.int (iI b) :: .int (iI a) :: rest)) := lv_icmp_eq hx hb hdg ht (fun h => kt ((iI_eq ha hb2).mp h)) (fun h => kf (fun h2 => h ((iI_eq ha hb2).mpr h2)))
theorem r_if_eq (hx : p.tables.exec = Jvm.exec) (hb : c.code = cc) {a off : Int} {tgt : Nat} (hdg : decode cc pc = .ok (.ifCond .eq off, 3)) (ht : (pc : Int) + off = (tgt : Int)) (ha : rI a) (kt : a = 0 → W p l e R s m args below meth c H locs cells slots Q (F0 m tgt ls rest)) (kf : ¬ a = 0 → W p l e R s m args below meth c H locs cells slots Q (F0 m (pc + 3) ls rest)) : W p l e R s m args below meth c H locs cells slots Q (F0 m pc ls (.int (iI a) :: rest)) := lv_if_eq hx hb hdg ht (fun h => kt ((iI_eq ha rI_0).mp h)) (fun h => kf (fun h2 => h ((iI_eq ha rI_0).mpr h2)))
theorem r_icmp_ne (hx : p.tables.exec = Jvm.exec) (hb : c.code = cc) {a b off : Int} {tgt : Nat} (hdg : decode cc pc = .ok (.if_icmp .ne off, 3)) (ht : (pc : Int) + off = (tgt : Int)) (ha : rI a) (hb2 : rI b) (kt : ¬ a = b → W p l e R s m args below meth c H locs cells slots Q (F0 m tgt ls rest)) (kf : a = b → W p l e R s m args below meth c H locs cells slots Q (F0 m (pc + 3) ls rest)) : W p l e R s m args below meth c H locs cells slots Q (F0 m pc ls (.int (iI b) :: .int (iI a) :: rest)) := lv_icmp_ne hx hb hdg ht (fun h => kt (fun h2 => h ((iI_eq ha hb2).mpr h2))) (fun h => kf ((iI_eq ha hb2).mp h))
theorem r_if_ne (hx : p.tables.exec = Jvm.exec) (hb : c.code = cc) {a off : Int} {tgt : Nat} (hdg : decode cc pc = .ok (.ifCond .ne off, 3)) (ht : (pc : Int) + off = (tgt : Int)) (ha : rI a) (kt : ¬ a = 0 → W p l e R s m args below meth c H locs cells slots Q (F0 m tgt ls rest)) (kf : a = 0 → W p l e R s m args below meth c H locs cells slots Q (F0 m (pc + 3) ls rest)) : W p l e R s m args below meth c H locs cells slots Q (F0 m pc ls (.int (iI a) :: rest)) := lv_if_ne hx hb hdg ht (fun h => kt (fun h2 => h ((iI_eq ha rI_0).mpr h2))) (fun h => kf ((iI_eq ha rI_0).mp h))
theorem r_icmp_lt (hx : p.tables.exec = Jvm.exec) (hb : c.code = cc) {a b off : Int} {tgt : Nat} (hdg : decode cc pc = .ok (.if_icmp .lt off, 3)) (ht : (pc : Int) + off = (tgt : Int)) (ha : rI a) (hb2 : rI b) (kt : a < b → W p l e R s m args below meth c H locs cells slots Q (F0 m tgt ls rest)) (kf : b ≤ a → W p l e R s m args below meth c H locs cells slots Q (F0 m (pc + 3) ls rest)) : W p l e R s m args below meth c H locs cells slots Q (F0 m pc ls (.int (iI b) :: .int (iI a) :: rest)) := lv_icmp_lt hx hb hdg ht (fun h => kt ((iI_lt ha hb2).mp h)) (fun h => kf (Int.not_lt.mp (fun h2 => h ((iI_lt ha hb2).mpr h2))))
theorem r_if_lt (hx : p.tables.exec = Jvm.exec) (hb : c.code = cc) {a off : Int} {tgt : Nat} (hdg : decode cc pc = .ok (.ifCond .lt off, 3)) (ht : (pc : Int) + off = (tgt : Int)) (ha : rI a) (kt : a < 0 → W p l e R s m args below meth c H locs cells slots Q (F0 m tgt ls rest)) (kf : 0 ≤ a → W p l e R s m args below meth c H locs cells slots Q (F0 m (pc + 3) ls rest)) : W p l e R s m args below meth c H locs cells slots Q (F0 m pc ls (.int (iI a) :: rest)) := lv_if_lt hx hb hdg ht (fun h => kt ((iI_lt ha rI_0).mp h)) (fun h => kf (Int.not_lt.mp (fun h2 => h ((iI_lt ha rI_0).mpr h2))))
theorem r_icmp_ge (hx : p.tables.exec = Jvm.exec) (hb : c.code = cc) {a b off : Int} {tgt : Nat} (hdg : decode cc pc = .ok (.if_icmp .ge off, 3)) (ht : (pc : Int) + off = (tgt : Int)) (ha : rI a) (hb2 : rI b) (kt : b ≤ a → W p l e R s m args below meth c H locs cells slots Q (F0 m tgt ls rest)) (kf : a < b → W p l e R s m args below meth c H locs cells slots Q (F0 m (pc + 3) ls rest)) : W p l e R s m args below meth c H locs cells slots Q (F0 m pc ls (.int (iI b) :: .int (iI a) :: rest)) := lv_icmp_ge hx hb hdg ht (fun h => kt ((iI_le hb2 ha).mp h)) (fun h => kf (Int.not_le.mp (fun h2 => h ((iI_le hb2 ha).mpr h2))))
theorem r_if_ge (hx : p.tables.exec = Jvm.exec) (hb : c.code = cc) {a off : Int} {tgt : Nat} (hdg : decode cc pc = .ok (.ifCond .ge off, 3)) (ht : (pc : Int) + off = (tgt : Int)) (ha : rI a) (kt : 0 ≤ a → W p l e R s m args below meth c H locs cells slots Q (F0 m tgt ls rest)) (kf : a < 0 → W p l e R s m args below meth c H locs cells slots Q (F0 m (pc + 3) ls rest)) : W p l e R s m args below meth c H locs cells slots Q (F0 m pc ls (.int (iI a) :: rest)) := lv_if_ge hx hb hdg ht (fun h => kt ((iI_le rI_0 ha).mp h)) (fun h => kf (Int.not_le.mp (fun h2 => h ((iI_le rI_0 ha).mpr h2))))
theorem r_icmp_gt (hx : p.tables.exec = Jvm.exec) (hb : c.code = cc) {a b off : Int} {tgt : Nat} (hdg : decode cc pc = .ok (.if_icmp .gt off, 3)) (ht : (pc : Int) + off = (tgt : Int)) (ha : rI a) (hb2 : rI b) (kt : b < a → W p l e R s m args below meth c H locs cells slots Q (F0 m tgt ls rest)) (kf : a ≤ b → W p l e R s m args below meth c H locs cells slots Q (F0 m (pc + 3) ls rest)) : W p l e R s m args below meth c H locs cells slots Q (F0 m pc ls (.int (iI b) :: .int (iI a) :: rest)) := lv_icmp_gt hx hb hdg ht (fun h => kt ((iI_lt hb2 ha).mp h)) (fun h => kf (Int.not_lt.mp (fun h2 => h ((iI_lt hb2 ha).mpr h2))))
theorem r_if_gt (hx : p.tables.exec = Jvm.exec) (hb : c.code = cc) {a off : Int} {tgt : Nat} (hdg : decode cc pc = .ok (.ifCond .gt off, 3)) (ht : (pc : Int) + off = (tgt : Int)) (ha : rI a) (kt : 0 < a → W p l e R s m args below meth c H locs cells slots Q (F0 m tgt ls rest)) (kf : a ≤ 0 → W p l e R s m args below meth c H locs cells slots Q (F0 m (pc + 3) ls rest)) : W p l e R s m args below meth c H locs cells slots Q (F0 m pc ls (.int (iI a) :: rest)) := lv_if_gt hx hb hdg ht (fun h => kt ((iI_lt rI_0 ha).mp h)) (fun h => kf (Int.not_lt.mp (fun h2 => h ((iI_lt rI_0 ha).mpr h2))))
theorem r_icmp_le (hx : p.tables.exec = Jvm.exec) (hb : c.code = cc) {a b off : Int} {tgt : Nat} (hdg : decode cc pc = .ok (.if_icmp .le off, 3)) (ht : (pc : Int) + off = (tgt : Int)) (ha : rI a) (hb2 : rI b) (kt : a ≤ b → W p l e R s m args below meth c H locs cells slots Q (F0 m tgt ls rest)) (kf : b < a → W p l e R s m args below meth c H locs cells slots Q (F0 m (pc + 3) ls rest)) : W p l e R s m args below meth c H locs cells slots Q (F0 m pc ls (.int (iI b) :: .int (iI a) :: rest)) := lv_icmp_le hx hb hdg ht (fun h => kt ((iI_le ha hb2).mp h)) (fun h => kf (Int.not_le.mp (fun h2 => h ((iI_le ha hb2).mpr h2))))
theorem r_if_le (hx : p.tables.exec = Jvm.exec) (hb : c.code = cc) {a off : Int} {tgt : Nat} (hdg : decode cc pc = .ok (.ifCond .le off, 3)) (ht : (pc : Int) + off = (tgt : Int)) (ha : rI a) (kt : a ≤ 0 → W p l e R s m args below meth c H locs cells slots Q (F0 m tgt ls rest)) (kf : 0 < a → W p l e R s m args below meth c H locs cells slots Q (F0 m (pc + 3) ls rest)) : W p l e R s m args below meth c H locs cells slots Q (F0 m pc ls (.int (iI a) :: rest)) := lv_if_le hx hb hdg ht (fun h => kt ((iI_le ha rI_0).mp h)) (fun h => kf (Int.not_le.mp (fun h2 => h ((iI_le ha rI_0).mpr h2))))
theorem r_iald (hx : p.tables.exec = Jvm.exec) (hb : c.code = cc) {a : Nat} (hK : va_K D vwCl [(cI, .int)] s) (hP : va_P D vwCl ws H) (q0 : Nat) {n : Nat} {P : Int → Int} (ha : ws[q0]? = some (a, .inl (cI, n, .inl (aI P)))) {i : Int} (h0 : 0 ≤ i) (h1 : i < n) (hn : n ≤ 1000000) (hdg : decode cc pc = .ok (.iaload, 1)) (k : W p l e R s m args below meth c H locs cells slots Q (F0 m (pc + 1) ls (.int (iI (P i)) :: rest))) : W p l e R s m args below meth c H locs cells slots Q (F0 m pc ls (.int (iI i) :: .ref a :: rest)) := va_iald hx hb hK hP q0 0 ha rfl (aI_in h0 h1 hn) hdg (by rw [aI_at h0 h1 hn]; exact k)
theorem r_alen (hx : p.tables.exec = Jvm.exec) (hb : c.code = cc) {a : Nat} (hK : va_K D vwCl [(cI, .int)] s) (hP : va_P D vwCl ws H) (q0 : Nat) {n : Nat} {P : Int → Int} (ha : ws[q0]? = some (a, .inl (cI, n, .inl (aI P)))) (hdg : decode cc pc = .ok (.arraylength, 1)) (k : W p l e R s m args below meth c H locs cells slots Q (F0 m (pc + 1) ls (.int (iI (n : Int)) :: rest))) : W p l e R s m args below meth c H locs cells slots Q (F0 m pc ls (.ref a :: rest)) := va_alen hx hb hK hP q0 0 ha rfl (v := iI (n : Int)) rfl hdg k
theorem r_iast (hx : p.tables.exec = Jvm.exec) (hb : c.code = cc) {a : Nat} (hK : va_K D vwCl [(cI, .int)] s) (hP : va_P D vwCl ws H) (hD : va_D A ws) (hS : va_S A H0 H locs) (q0 : Nat) {n : Nat} {P : Int → Int} (ha : ws[q0]? = some (a, .inl (cI, n, .inl (aI P)))) {i v : Int} (h0 : 0 ≤ i) (h1 : i < n) (hn : n ≤ 1000000) {ws1 : va_W} (hws : ws.set q0 (a, .inl (cI, n, .inl (aI (uI P i v)))) = ws1) (hdg : decode cc pc = .ok (.iastore, 1)) (k : ∀ (H1 : Heap) (locs1 : List Loc), va_P D vwCl ws1 H1 → va_D A ws1 → va_S A H0 H1 locs1 → W p l e R s m args below meth c H1 locs1 cells slots Q (F0 m (pc + 1) ls rest)) : W p l e R s m args below meth c H locs cells slots Q (F0 m pc ls (.int (iI v) :: .int (iI i) :: .ref a :: rest)) := va_iast hx hb hK hP hD hS q0 0 ha rfl (aI_in h0 h1 hn) hdg (fun H1 locs1 h2 h3 h4 => k H1 locs1 (by rw [← hws, ← aI_upd h0 h1 hn]; exact h2) (by rw [← hws, ← aI_upd h0 h1 hn]; exact h3) h4)
theorem r_callV {y : MethodName} {ws2 ws3 : List Cond} {rm : Room} {As : List Value} {WSc : va_W} {post : Int → Prop} {b index maxL n nf nl : Nat} {C : String} {bytes : ByteArray} {ret : Option FieldType} (S : CallFix p m c cc nL s args Ts own) (hM : RO l y ws2 rm D cI cL tw (.ref b :: As) WSc post) (hG : GoodIn Ts (wsV own index C y ws2)) (hw : ws2 = Cond.code y bytes maxL ret :: ws3) (hrc : rm.cells = 0) (hrs : rm.slots = 0)
    (hd : y.cls = C ∧ y.cls ≠ "java/lang/invoke/MethodHandle" ∧ y.cls ≠ "java/lang/invoke/VarHandle" ∧ (parseMethodDescriptor y.desc).map (fun d => d.parameters.length) = some n) (hR : nf ≤ R.frames ∧ nl ≤ R.locals) (hf : rm.frames + 1 ≤ nf) (hlo : 8 + (maxL + 11) + rm.locals ≤ nl)
    (hE : EV D cI cL tw A s H) (hP : va_P D vwCl ws H) (is : List Nat) (hsub : is.filterMap (fun i => ws[i]?) = WSc) (q0 : Nat) {ci N : Nat} {T : u_T} {fs : List Value} (hrec : WSc[q0]? = some (b, .inr (ci, fs))) (hcl : vwCl[ci]? = some (C, T, N)) (hn : As.length = n) (hsz : ls.size = nL) (hst : st0 = As.reverse ++ .ref b :: rest) (hcat : (rest.map fun v => v.category).sum ≤ 8) (hdg : decode cc pc = .ok (.invokevirtual index, 3)) (hce : cells ≤ R.cells ∧ slots ≤ R.slots)
    (k : ∀ z : Int, post z → W p l e R s m args below meth c H locs cells slots Q (F0 m (pc + 3) ls (.int (iI z) :: rest))) : W p l e R s m args below meth c H locs cells slots Q (F0 m pc ls st0) := by
  subst hst
  have hPc := hP.sub is hsub
  refine vp_callSi (W.runV (As := As) (rest := rest) S hM (cwV n S.2.2.2.2 hG hw hrc hrs hd ⟨Nat.le_trans hf hR.1, Nat.le_trans hlo hR.2⟩) ⟨fun a U g mk q => ⟨q.1, q.2.1.same (u := U) rfl, q.2.2⟩, va_recv hE.1 hPc (ci := ci) (q0 := q0) hcl hrec, fun U hU hW => ⟨rfl, by rw [hU]; exact (hE.narrow (fun _ h => h.elim)).warm hW, by rw [hU]; exact hPc⟩⟩ rfl hn hsz rfl (lv_room hcat) hdg ⟨hce.1, hce.2⟩) (fun r hr => ?_)
  obtain ⟨z, rfl, hz⟩ := hr
  exact k z hz
theorem r_callS {y : MethodName} {ws2 ws3 : List Cond} {rm : Room} {As : List Value} {post : Int → Prop} {index maxL n nf nl : Nat} {bytes : ByteArray} {ret : Option FieldType} (S : CallFix p m c cc nL s args Ts own) (hM : RO l y ws2 rm D cI cL tw As [] post) (hG : GoodIn Ts (va_wsS own index y ws2)) (hw : ws2 = Cond.code y bytes maxL ret :: ws3) (hrc : rm.cells = 0) (hrs : rm.slots = 0)
    (hd : y.cls ≠ "java/lang/invoke/MethodHandle" ∧ y.cls ≠ "java/lang/invoke/VarHandle" ∧ (parseMethodDescriptor y.desc).map (fun d => d.parameters.length) = some n) (hR : nf ≤ R.frames ∧ nl ≤ R.locals) (hf : rm.frames + 1 ≤ nf) (hlo : 8 + (maxL + 11) + rm.locals ≤ nl)
    (hE : EV D cI cL tw A s H) (hn : As.length = n) (hsz : ls.size = nL) (hst : st0 = As.reverse ++ rest) (hcat : (rest.map fun v => v.category).sum ≤ 8) (hdg : decode cc pc = .ok (.invokestatic index, 3)) (hce : cells ≤ R.cells ∧ slots ≤ R.slots)
    (k : ∀ z : Int, post z → W p l e R s m args below meth c H locs cells slots Q (F0 m (pc + 3) ls (.int (iI z) :: rest))) : W p l e R s m args below meth c H locs cells slots Q (F0 m pc ls st0) := by
  subst hst
  refine vp_callSi (W.runS (As := As) (rest := rest) S hM (va_cwS n S.2.2.2.2 hG hw hrc hrs hd ⟨Nat.le_trans hf hR.1, Nat.le_trans hlo hR.2⟩) ⟨fun a U g mk q => ⟨q.1, q.2.1.same (u := U) rfl, q.2.2⟩, fun U hU hW => ⟨rfl, by rw [hU]; exact (hE.narrow (fun _ h => h.elim)).warm hW, fun k q hk => by simp at hk⟩⟩ rfl hn hsz rfl (lv_room hcat) hdg ⟨hce.1, hce.2⟩) (fun r hr => ?_)
  obtain ⟨z, rfl, hz⟩ := hr
  exact k z hz
theorem r_callN {y : MethodName} {host : String} {ws2 ws3 : List Cond} {rm : Room} {As : List Value} {post : Int → Prop} {index maxL n nf nl : Nat} {bytes : ByteArray} {ret : Option FieldType} (S : CallFix p m c cc nL s args Ts own) (hM : RO l y ws2 rm D cI cL tw As [] post) (hG : GoodIn Ts ws2) (hw : ws2 = Cond.code y bytes maxL ret :: ws3) (hrc : rm.cells = 0) (hrs : rm.slots = 0)
    (hd : y.cls ≠ "java/lang/invoke/MethodHandle" ∧ y.cls ≠ "java/lang/invoke/VarHandle" ∧ (parseMethodDescriptor y.desc).map (fun d => d.parameters.length) = some n) (hR : nf ≤ R.frames ∧ nl ≤ R.locals) (hf : rm.frames + 1 ≤ nf) (hlo : 8 + (maxL + 11) + rm.locals ≤ nl)
    (hE : EV D cI cL tw A s H) (hnl : Cond.methodLinkNest own index y host ∈ nestL) (hini : Cond.initialized y.cls ∈ Ts) (hsta : Cond.static y ∈ Ts) (hn : As.length = n) (hsz : ls.size = nL) (hst : st0 = As.reverse ++ rest) (hcat : (rest.map fun v => v.category).sum ≤ 8) (hdg : decode cc pc = .ok (.invokestatic index, 3)) (hce : cells ≤ R.cells ∧ slots ≤ R.slots)
    (k : ∀ z : Int, post z → W p l e R s m args below meth c H locs cells slots Q (F0 m (pc + 3) ls (.int (iI z) :: rest))) : W p l e R s m args below meth c H locs cells slots Q (F0 m pc ls st0) := by
  subst hst
  refine vp_callSi (va_runSN (As := As) (rest := rest) S hM ⟨va_cnB n S.2.2.2.2 hG hw hrc hrs (hE.2.1 _ hnl) (S.2.2.2.2 _ hini) hd ⟨Nat.le_trans hf hR.1, Nat.le_trans hlo hR.2⟩, S.2.2.2.2 _ hsta, trivial⟩ ⟨fun a U g mk q => ⟨q.1, q.2.1.same (u := U) rfl, q.2.2⟩, fun U hU hW => ⟨rfl, by rw [hU]; exact (hE.narrow (fun _ h => h.elim)).warm hW, fun k q hk => by simp at hk⟩⟩ rfl hn hsz rfl (lv_room hcat) hdg ⟨hce.1, hce.2⟩).run (fun r hr => ?_)
  obtain ⟨z, rfl, hz⟩ := hr
  exact k z hz
theorem r_mmin {a b : Int} {index nf nl : Nat} (S : CallFix p m c cc nL s args Ts own) (hR : nf ≤ R.frames ∧ nl ≤ R.locals) (hf : 1 ≤ nf) (hlo : 30 ≤ nl) (h1 : (Cond.methodLink own index Lib.Math.min.name).before args s = true) (h2 : (Cond.static Lib.Math.min.name).before args s = true) (h3 : (Cond.initialized "java/lang/Math").before args s = true) (h4 : (Cond.code Lib.Math.min.name Lib.Math.min.code 2 (some .int)).before args s = true) (hce : cells ≤ R.cells ∧ slots ≤ R.slots) (hsz : ls.size = nL) (hcat : (rest.map fun v => v.category).sum ≤ 8) (ha : rI a) (hb2 : rI b) (hdg : decode cc pc = .ok (.invokestatic index, 3))
    (k : ∀ z : Int, (z ≤ a ∧ z ≤ b ∧ (z = a ∨ z = b)) → W p l e R s m args below meth c H locs cells slots Q (F0 m (pc + 3) ls (.int (iI z) :: rest))) : W p l e R s m args below meth c H locs cells slots Q (F0 m pc ls (.int (iI b) :: .int (iI a) :: rest)) := by
  refine va_mmin S.1 S.2.1 (by rw [S.2.2.1, hsz]) S.2.2.2.1 h1 h2 h3 h4 (Nat.le_trans hf hR.1) (Nat.le_trans (by omega) hR.2) hce.1 hce.2 hdg ?_
  by_cases h : iI b < iI a
  · rw [if_pos h]; have h9 := (iI_lt hb2 ha).mp h; exact k b (by omega)
  · rw [if_neg h]; have h9 : ¬ _ := fun q => h ((iI_lt hb2 ha).mpr q); exact k a (by omega)
theorem r_mmax {a b : Int} {index nf nl : Nat} (S : CallFix p m c cc nL s args Ts own) (hR : nf ≤ R.frames ∧ nl ≤ R.locals) (hf : 1 ≤ nf) (hlo : 30 ≤ nl) (h1 : (Cond.methodLink own index Lib.Math.max.name).before args s = true) (h2 : (Cond.static Lib.Math.max.name).before args s = true) (h3 : (Cond.initialized "java/lang/Math").before args s = true) (h4 : (Cond.code Lib.Math.max.name Lib.Math.max.code 2 (some .int)).before args s = true) (hce : cells ≤ R.cells ∧ slots ≤ R.slots) (hsz : ls.size = nL) (hcat : (rest.map fun v => v.category).sum ≤ 8) (ha : rI a) (hb2 : rI b) (hdg : decode cc pc = .ok (.invokestatic index, 3))
    (k : ∀ z : Int, (a ≤ z ∧ b ≤ z ∧ (z = a ∨ z = b)) → W p l e R s m args below meth c H locs cells slots Q (F0 m (pc + 3) ls (.int (iI z) :: rest))) : W p l e R s m args below meth c H locs cells slots Q (F0 m pc ls (.int (iI b) :: .int (iI a) :: rest)) := by
  refine va_mmax S.1 S.2.1 (by rw [S.2.2.1, hsz]) S.2.2.2.1 h1 h2 h3 h4 (Nat.le_trans hf hR.1) (Nat.le_trans (by omega) hR.2) hce.1 hce.2 hdg ?_
  by_cases h : iI a < iI b
  · rw [if_pos h]; have h9 := (iI_lt ha hb2).mp h; exact k b (by omega)
  · rw [if_neg h]; have h9 : ¬ _ := fun q => h ((iI_lt ha hb2).mpr q); exact k a (by omega)
theorem r_tsIn (hx : p.tables.exec = Jvm.exec) (hb : c.code = cc) {dflt lo hi w off : Int} {offs : Array Int} {len tgt : Nat} (hdg : decode cc pc = .ok (.tableswitch dflt lo hi offs, len)) (hw : rI w) (h1 : lo ≤ w) (h2 : w ≤ hi) (ho : offs[(w - lo).toNat]? = some off) (ht : (pc : Int) + off = (tgt : Int)) (k : W p l e R s m args below meth c H locs cells slots Q (F0 m tgt ls rest)) : W p l e R s m args below meth c H locs cells slots Q (F0 m pc ls (.int (iI w) :: rest)) := lv_tableIn hx hb hdg (by rw [iI_toInt hw]; omega) (by rw [iI_toInt hw]; omega) (by rw [iI_toInt hw]; exact ho) ht k
theorem r_tsOut (hx : p.tables.exec = Jvm.exec) (hb : c.code = cc) {dflt lo hi w : Int} {offs : Array Int} {len tgt : Nat} (hdg : decode cc pc = .ok (.tableswitch dflt lo hi offs, len)) (hw : rI w) (h : w < lo ∨ hi < w) (ht : (pc : Int) + dflt = (tgt : Int)) (k : W p l e R s m args below meth c H locs cells slots Q (F0 m tgt ls rest)) : W p l e R s m args below meth c H locs cells slots Q (F0 m pc ls (.int (iI w) :: rest)) := lv_tableOut hx hb hdg (by rw [iI_toInt hw]; exact h) ht k
end RWS
/-- a reading method, from its body -/
theorem ro_of {l : Launch} {y : MethodName} {ws ws' : List Cond} {rm : Room} {D : va_G} {cI cL : ClassId} {tw : Nat} {av : List Value} {WS : va_W} {post : Int → Prop} {cc : ByteArray} {maxL : Nat} {rt : FieldType} {own : String}
    (hy : plainName y.cls = true) (hw : ws = Cond.code y cc maxL (some rt) :: ws') (hown : y.cls = own) (hrt : rt = .int ∨ (rt = .boolean ∧ ∀ z, post z → z = 0 ∨ z = 1)) (hlen : (lg_sl av).length ≤ maxL)
    (body : ∀ (p : Program) (e : Env) (R : Room) (s : State) (m : MethodId) (args : Array Value) (below : List Frame) (meth : Method) (c : Code) (H : Heap) (Q : State → Prop) (ls : Array Slot), CallFix p m c cc maxL s args ws own → rm.frames ≤ R.frames ∧ rm.locals ≤ R.locals → EV D cI cL tw FF s H → va_P D vwCl WS H → lv_has ls maxL (lv_args 0 av) →
      (∀ (z : Int) (pc : Nat) (ls : Array Slot), decode cc pc = .ok (.ireturn, 1) → post z → W p l e R s m args below meth c H [] 0 0 Q (F0 m pc ls [.int (iI z)])) → W p l e R s m args below meth c H [] 0 0 Q (F0 m 0 ls [])) : RO l y ws rm D cI cL tw av WS post := by
  refine Met.ofW (cc := cc) (maxL := maxL) (ret := some rt) hy hw ?_
  intro p e s m args below meth c s₁ B hml hv
  obtain ⟨rfl, hE, hP⟩ := hv
  have hts := atoms_spec (ws := ws) B.pre
  have hown1 : s.vm.findClass own = some m.cls := by rw [← hown]; exact findClass_of_methodNamed B.named
  have hl := lv_entry av hlen
  rw [lg_entry_eq]
  refine body p e (headSpec ws rm).room s m _ below meth c s.heap _ _ ⟨B.exec, B.bytes, hml, hown1, hts⟩ ⟨Nat.le_refl _, Nat.le_refl _⟩ hE hP hl ?_
  intro z pc ls hdg hz
  rcases hrt with rfl | ⟨rfl, h01⟩
  · exact W.iret B.exec B.bytes B.returns (fun t ht hW => ⟨iI z, rfl, ⟨z, rfl, hz⟩, ht⟩) (fun _ h => by cases h) hdg B.notSynchronized
  · refine W.zret (ty := .boolean) B.exec B.bytes B.returns ?_ (fun t ht hW => ⟨iI z, rfl, ⟨z, rfl, hz⟩, ht⟩) (fun _ h => by cases h) hdg B.notSynchronized
    rcases h01 z hz with rfl | rfl <;> rfl

/-- a method that writes its world and answers a number -/
def RWi {S : Type} (l : Launch) (y : MethodName) (ws : List Cond) (rm : Room) (D : va_G) (cI cL : ClassId) (tw : Nat) (av : List Value) (WS : va_W) (post : Int → S → Prop) (W2 : S → va_W) : Prop :=
  ∀ sz : Nat, Met l y ws rm (va_Pc av (fun U => U.heap.size = sz ∧ EV D cI cL tw (va_A WS sz) U U.heap ∧ va_P D vwCl WS U.heap ∧ va_D (fun _ => True) WS)) (va_Qi (fun (r : Int32) (u : Int × S) => r = iI u.1 ∧ post u.1 u.2) (fun u t => va_P D vwCl (W2 u.2) t.heap ∧ va_D (va_A WS sz) (W2 u.2)) (va_A WS sz)) 0 0 (va_A WS sz)
/-- .. and answers nothing -/
def RWv {S : Type} (l : Launch) (y : MethodName) (ws : List Cond) (rm : Room) (D : va_G) (cI cL : ClassId) (tw : Nat) (av : List Value) (WS : va_W) (post : S → Prop) (W2 : S → va_W) : Prop :=
  ∀ sz : Nat, Met l y ws rm (va_Pc av (fun U => U.heap.size = sz ∧ EV D cI cL tw (va_A WS sz) U U.heap ∧ va_P D vwCl WS U.heap ∧ va_D (fun _ => True) WS)) (va_Qv (fun (u : S) => post u) (fun u t => va_P D vwCl (W2 u) t.heap ∧ va_D (va_A WS sz) (W2 u)) (va_A WS sz)) 0 0 (va_A WS sz)
theorem rwi_of {S : Type} {l : Launch} {y : MethodName} {ws ws' : List Cond} {rm : Room} {D : va_G} {cI cL : ClassId} {tw : Nat} {av : List Value} {WS : va_W} {post : Int → S → Prop} {W2 : S → va_W} {cc : ByteArray} {maxL : Nat} {rt : FieldType} {own : String}
    (hy : plainName y.cls = true) (hw : ws = Cond.code y cc maxL (some rt) :: ws') (hown : y.cls = own) (hrt : rt = .int ∨ (rt = .boolean ∧ ∀ z u, post z u → z = 0 ∨ z = 1)) (hlen : (lg_sl av).length ≤ maxL)
    (body : ∀ (p : Program) (e : Env) (R : Room) (s : State) (m : MethodId) (args : Array Value) (below : List Frame) (meth : Method) (c : Code) (H0 : Heap) (Q : State → Prop) (ls : Array Slot) (A : Nat → Prop), CallFix p m c cc maxL s args ws own → rm.frames ≤ R.frames ∧ rm.locals ≤ R.locals → EV D cI cL tw A s H0 → va_P D vwCl WS H0 → va_D A WS → va_S A H0 H0 [] → (∀ q : Nat, H0.size ≤ q → A q) → lv_has ls maxL (lv_args 0 av) →
      (∀ (z : Int) (u : S) (pc : Nat) (ls : Array Slot) (H : Heap) (locs : List Loc), decode cc pc = .ok (.ireturn, 1) → post z u → va_P D vwCl (W2 u) H → va_D A (W2 u) → va_S A H0 H locs → W p l e R s m args below meth c H locs 0 0 Q (F0 m pc ls [.int (iI z)])) → W p l e R s m args below meth c H0 [] 0 0 Q (F0 m 0 ls [])) : RWi l y ws rm D cI cL tw av WS post W2 := by
  intro sz
  refine Met.ofW (cc := cc) (maxL := maxL) (ret := some rt) hy hw ?_
  intro p e s m args below meth c s₁ B hml hv
  obtain ⟨rfl, hsz, hE, hP, hD0⟩ := hv
  subst hsz
  have hts := atoms_spec (ws := ws) B.pre
  have hown1 : s.vm.findClass own = some m.cls := by rw [← hown]; exact findClass_of_methodNamed B.named
  have hl := lv_entry av hlen
  have hD := hD0.self (sz := s.heap.size)
  rw [lg_entry_eq]
  generalize hAe : va_A WS s.heap.size = A at hE hD ⊢
  have hA : ∀ q : Nat, s.heap.size ≤ q → A q := fun q h => by rw [← hAe]; exact Or.inr h
  refine body p e (headSpec ws rm).room s m _ below meth c s.heap _ _ A ⟨B.exec, B.bytes, hml, hown1, hts⟩ ⟨Nat.le_refl _, Nat.le_refl _⟩ hE hP hD va_S.rf hA hl ?_
  intro z u pc ls H locs hdg hz hP1 hD1 hS1
  rcases hrt with rfl | ⟨rfl, h01⟩
  · exact W.iret B.exec B.bytes B.returns (fun t ht hW => ⟨⟨iI z, (z, u), rfl, ⟨rfl, hz⟩, by rw [ht]; exact hP1, hD1⟩, hS1.F ht⟩) hS1.2.2 hdg B.notSynchronized
  · refine W.zret (ty := .boolean) B.exec B.bytes B.returns ?_ (fun t ht hW => ⟨⟨iI z, (z, u), rfl, ⟨rfl, hz⟩, by rw [ht]; exact hP1, hD1⟩, hS1.F ht⟩) hS1.2.2 hdg B.notSynchronized
    rcases h01 z u hz with rfl | rfl <;> rfl
theorem rwv_of {S : Type} {l : Launch} {y : MethodName} {ws ws' : List Cond} {rm : Room} {D : va_G} {cI cL : ClassId} {tw : Nat} {av : List Value} {WS : va_W} {post : S → Prop} {W2 : S → va_W} {cc : ByteArray} {maxL : Nat} {own : String}
    (hy : plainName y.cls = true) (hw : ws = Cond.code y cc maxL none :: ws') (hown : y.cls = own) (hlen : (lg_sl av).length ≤ maxL)
    (body : ∀ (p : Program) (e : Env) (R : Room) (s : State) (m : MethodId) (args : Array Value) (below : List Frame) (meth : Method) (c : Code) (H0 : Heap) (Q : State → Prop) (ls : Array Slot) (A : Nat → Prop), CallFix p m c cc maxL s args ws own → rm.frames ≤ R.frames ∧ rm.locals ≤ R.locals → EV D cI cL tw A s H0 → va_P D vwCl WS H0 → va_D A WS → va_S A H0 H0 [] → (∀ q : Nat, H0.size ≤ q → A q) → lv_has ls maxL (lv_args 0 av) →
      (∀ (u : S) (pc : Nat) (ls : Array Slot) (H : Heap) (locs : List Loc), decode cc pc = .ok (.return_, 1) → post u → va_P D vwCl (W2 u) H → va_D A (W2 u) → va_S A H0 H locs → W p l e R s m args below meth c H locs 0 0 Q (F0 m pc ls [])) → W p l e R s m args below meth c H0 [] 0 0 Q (F0 m 0 ls [])) : RWv l y ws rm D cI cL tw av WS post W2 := by
  intro sz
  refine Met.ofW (cc := cc) (maxL := maxL) (ret := none) hy hw ?_
  intro p e s m args below meth c s₁ B hml hv
  obtain ⟨rfl, hsz, hE, hP, hD0⟩ := hv
  subst hsz
  have hts := atoms_spec (ws := ws) B.pre
  have hown1 : s.vm.findClass own = some m.cls := by rw [← hown]; exact findClass_of_methodNamed B.named
  have hl := lv_entry av hlen
  have hD := hD0.self (sz := s.heap.size)
  rw [lg_entry_eq]
  generalize hAe : va_A WS s.heap.size = A at hE hD ⊢
  have hA : ∀ q : Nat, s.heap.size ≤ q → A q := fun q h => by rw [← hAe]; exact Or.inr h
  refine body p e (headSpec ws rm).room s m _ below meth c s.heap _ _ A ⟨B.exec, B.bytes, hml, hown1, hts⟩ ⟨Nat.le_refl _, Nat.le_refl _⟩ hE hP hD va_S.rf hA hl ?_
  intro u pc ls H locs hdg hz hP1 hD1 hS1
  exact W.vret B.exec B.bytes B.returns (fun t ht hW => ⟨⟨u, rfl, hz, by rw [ht]; exact hP1, hD1⟩, hS1.F ht⟩) hS1.2.2 hdg B.notSynchronized

section RWC
variable {p : Program} {l : Launch} {e : Env} {R : Room} {s : State} {m : MethodId} {args : Array Value} {below : List Frame} {meth : Method} {c : Code} {H : Heap} {locs : List Loc} {cells slots : Nat} {Q : State → Prop}
variable {cc : ByteArray} {pc : Nat} {ls : Array Slot} {rest st0 : List Value} {D : va_G} {cI cL : ClassId} {tw : Nat} {A : Nat → Prop} {ws : va_W} {H0 : Heap} {nL : Nat} {Ts : List Cond} {own : String}
theorem r_callVi {S : Type} {y : MethodName} {ws2 ws3 : List Cond} {rm : Room} {As : List Value} {WSc wr : va_W} {post : Int → S → Prop} {W2 : S → va_W} {b index maxL n nf nl : Nat} {C : String} {bytes : ByteArray} {ret : Option FieldType} (S9 : CallFix p m c cc nL s args Ts own) (hM : RWi l y ws2 rm D cI cL tw (.ref b :: As) WSc post W2) (hG : GoodIn Ts (wsV own index C y ws2)) (hw : ws2 = Cond.code y bytes maxL ret :: ws3) (hrc : rm.cells = 0) (hrs : rm.slots = 0)
    (hd : y.cls = C ∧ y.cls ≠ "java/lang/invoke/MethodHandle" ∧ y.cls ≠ "java/lang/invoke/VarHandle" ∧ (parseMethodDescriptor y.desc).map (fun d => d.parameters.length) = some n) (hR : nf ≤ R.frames ∧ nl ≤ R.locals) (hf : rm.frames + 1 ≤ nf) (hlo : 8 + (maxL + 11) + rm.locals ≤ nl)
    (hE : EV D cI cL tw A s H) (hP : va_P D vwCl ws H) (hD : va_D A ws) (hS : va_S A H0 H locs) (hA : ∀ q : Nat, H0.size ≤ q → A q) (is isR : List Nat) (hC : is.map (fun i => ws[i]?) = WSc.map some) (hCf : is.filterMap (fun i => ws[i]?) = WSc) (hnd : va_nd is = true) (hRr : isR.map (fun i => ws[i]?) = wr.map some) (hn2 : va_nd isR = true) (hdis : ∀ i ∈ isR, i ∉ is) (q0 : Nat) {ci N : Nat} {T : u_T} {fs : List Value} (hrec : WSc[q0]? = some (b, .inr (ci, fs))) (hcl : vwCl[ci]? = some (C, T, N)) (hn : As.length = n) (hsz : ls.size = nL) (hst : st0 = As.reverse ++ .ref b :: rest) (hcat : (rest.map fun v => v.category).sum ≤ 8) (hdg : decode cc pc = .ok (.invokevirtual index, 3)) (hce : cells ≤ R.cells ∧ slots ≤ R.slots)
    (k : ∀ (z : Int) (u : S) (H1 : Heap) (locs1 : List Loc), post z u → va_P D vwCl (wr ++ W2 u) H1 → va_D A (wr ++ W2 u) → va_S A H0 H1 locs1 → W p l e R s m args below meth c H1 locs1 cells slots Q (F0 m (pc + 3) ls (.int (iI z) :: rest))) : W p l e R s m args below meth c H locs cells slots Q (F0 m pc ls st0) := by
  subst hst
  have hPc := hP.sub is hCf
  have hDc := hD.sub is hnd hC
  have hFc := va_free (wc := WSc) hD hS hA is hC
  refine va_calli (va_runV (As := As) (rest := rest) S9 (hM H.size) (cwV n S9.2.2.2.2 hG hw hrc hrs hd ⟨Nat.le_trans hf hR.1, Nat.le_trans hlo hR.2⟩) ⟨fun a U g mk q => ⟨q.1, q.2.1, q.2.2.1.same (u := U) rfl, q.2.2.2.1, q.2.2.2.2⟩, va_recv hE.1 hPc (ci := ci) (q0 := q0) hcl hrec, fun U hU hW => ⟨rfl, by rw [hU], by rw [hU]; exact (hE.narrow hFc).warm hW, by rw [hU]; exact hPc, hDc.weaken (fun _ _ _ _ => trivial)⟩⟩ rfl hn hsz rfl (lv_room hcat) hdg ⟨hce.1, hce.2⟩) hS (fun q _ h => hFc q h) hFc (fun r u t H1 locs1 ht hvm hw2 hB hz1 hk1 hS2 => ?_)
  obtain ⟨z, u⟩ := u
  obtain ⟨hr, hz⟩ := hw2
  obtain ⟨hP1, hD1⟩ := hB
  dsimp only at hr hz hP1 hD1
  subst hr
  rw [ht] at hP1
  obtain ⟨hP2, hD2⟩ := va_join hP hD is isR hC hRr hn2 hdis hk1 hFc hP1 hD1
  exact k z u H1 locs1 hz hP2 hD2 hS2
theorem r_callVv {S : Type} {y : MethodName} {ws2 ws3 : List Cond} {rm : Room} {As : List Value} {WSc wr : va_W} {post : S → Prop} {W2 : S → va_W} {b index maxL n nf nl : Nat} {C : String} {bytes : ByteArray} {ret : Option FieldType} (S9 : CallFix p m c cc nL s args Ts own) (hM : RWv l y ws2 rm D cI cL tw (.ref b :: As) WSc post W2) (hG : GoodIn Ts (wsV own index C y ws2)) (hw : ws2 = Cond.code y bytes maxL ret :: ws3) (hrc : rm.cells = 0) (hrs : rm.slots = 0)
    (hd : y.cls = C ∧ y.cls ≠ "java/lang/invoke/MethodHandle" ∧ y.cls ≠ "java/lang/invoke/VarHandle" ∧ (parseMethodDescriptor y.desc).map (fun d => d.parameters.length) = some n) (hR : nf ≤ R.frames ∧ nl ≤ R.locals) (hf : rm.frames + 1 ≤ nf) (hlo : 8 + (maxL + 11) + rm.locals ≤ nl)
    (hE : EV D cI cL tw A s H) (hP : va_P D vwCl ws H) (hD : va_D A ws) (hS : va_S A H0 H locs) (hA : ∀ q : Nat, H0.size ≤ q → A q) (is isR : List Nat) (hC : is.map (fun i => ws[i]?) = WSc.map some) (hCf : is.filterMap (fun i => ws[i]?) = WSc) (hnd : va_nd is = true) (hRr : isR.map (fun i => ws[i]?) = wr.map some) (hn2 : va_nd isR = true) (hdis : ∀ i ∈ isR, i ∉ is) (q0 : Nat) {ci N : Nat} {T : u_T} {fs : List Value} (hrec : WSc[q0]? = some (b, .inr (ci, fs))) (hcl : vwCl[ci]? = some (C, T, N)) (hn : As.length = n) (hsz : ls.size = nL) (hst : st0 = As.reverse ++ .ref b :: rest) (hcat : (rest.map fun v => v.category).sum ≤ 8) (hdg : decode cc pc = .ok (.invokevirtual index, 3)) (hce : cells ≤ R.cells ∧ slots ≤ R.slots)
    (k : ∀ (u : S) (H1 : Heap) (locs1 : List Loc), post u → va_P D vwCl (wr ++ W2 u) H1 → va_D A (wr ++ W2 u) → va_S A H0 H1 locs1 → W p l e R s m args below meth c H1 locs1 cells slots Q (F0 m (pc + 3) ls rest)) : W p l e R s m args below meth c H locs cells slots Q (F0 m pc ls st0) := by
  subst hst
  have hPc := hP.sub is hCf
  have hDc := hD.sub is hnd hC
  have hFc := va_free (wc := WSc) hD hS hA is hC
  refine va_callv (va_runV (As := As) (rest := rest) S9 (hM H.size) (cwV n S9.2.2.2.2 hG hw hrc hrs hd ⟨Nat.le_trans hf hR.1, Nat.le_trans hlo hR.2⟩) ⟨fun a U g mk q => ⟨q.1, q.2.1, q.2.2.1.same (u := U) rfl, q.2.2.2.1, q.2.2.2.2⟩, va_recv hE.1 hPc (ci := ci) (q0 := q0) hcl hrec, fun U hU hW => ⟨rfl, by rw [hU], by rw [hU]; exact (hE.narrow hFc).warm hW, by rw [hU]; exact hPc, hDc.weaken (fun _ _ _ _ => trivial)⟩⟩ rfl hn hsz rfl (lv_room hcat) hdg ⟨hce.1, hce.2⟩) hS (fun q _ h => hFc q h) hFc (fun u t H1 locs1 ht hvm hw2 hB hz1 hk1 hS2 => ?_)
  obtain ⟨hP1, hD1⟩ := hB
  have hz := hw2
  rw [ht] at hP1
  obtain ⟨hP2, hD2⟩ := va_join hP hD is isR hC hRr hn2 hdis hk1 hFc hP1 hD1
  exact k u H1 locs1 hz hP2 hD2 hS2
end RWC
