/-! positions as lists of sixteen numbers: what a call answers there, reckoned -/
def gN (l : List Nat) (k : Nat) : Nat := l.getD k 0
def pN (l : List Nat) : Int → Int := fun i => if 0 ≤ i then ((gN l i.toNat : Nat) : Int) else 0
theorem pN_at (l : List Nat) (k : Nat) : pN l (k : Int) = (gN l k : Int) := by
  unfold pN; rw [if_pos (Int.natCast_nonneg k), Int.toNat_natCast]
def smB (f : Nat → Nat) : Nat → Nat
  | 0 => 0
  | n + 1 => smB f n + f n
theorem smB_eq {f : Int → Int} {g : Nat → Nat} {n : Nat} (h : ∀ k : Nat, k < n → f (k : Int) = (g k : Int)) : sZ f (n : Int) = (smB g n : Int) := by
  unfold sZ
  rw [Int.toNat_natCast]
  induction n with
  | zero => rfl
  | succ n ih =>
    show sm f n + f (n : Int) = ((smB g n + g n : Nat) : Int)
    rw [ih (fun k hk => h k (by omega)), h n (by omega)]; omega
def alB (f : Nat → Bool) : Nat → Bool
  | 0 => true
  | n + 1 => f n && alB f n
theorem alB_iff (f : Nat → Bool) (n : Nat) : alB f n = true ↔ ∀ k, k < n → f k = true := by
  induction n with
  | zero => exact ⟨fun _ k h => absurd h (by omega), fun _ => rfl⟩
  | succ n ih =>
    show (f n && alB f n) = true ↔ _
    rw [Bool.and_eq_true, ih]
    constructor
    · intro h k hk
      by_cases e : k = n
      · rw [e]; exact h.1
      · exact h.2 k (by omega)
    · exact fun h => ⟨h n (by omega), fun k hk => h k (by omega)⟩
def exB (f : Nat → Bool) : Nat → Bool
  | 0 => false
  | n + 1 => f n || exB f n
theorem exB_iff (f : Nat → Bool) (n : Nat) : exB f n = true ↔ ∃ k, k < n ∧ f k = true := by
  induction n with
  | zero => exact ⟨fun h => (by cases h), fun ⟨k, h, _⟩ => absurd h (by omega)⟩
  | succ n ih =>
    show (f n || exB f n) = true ↔ _
    rw [Bool.or_eq_true, ih]
    constructor
    · rintro (h | ⟨k, h1, h2⟩)
      · exact ⟨n, by omega, h⟩
      · exact ⟨k, by omega, h2⟩
    · rintro ⟨k, h1, h2⟩
      by_cases e : k = n
      · rw [e] at h2; exact Or.inl h2
      · exact Or.inr ⟨k, by omega, h2⟩
theorem sq_c (a p : Nat) : sq (a : Int) (p : Int) = (((17 * a + 3 + p) % 68 : Nat) : Int) := by unfold sq; omega
theorem o2_c (a : Nat) : 1 - (a : Int) % 2 = ((1 - a % 2 : Nat) : Int) := by omega
theorem d4_c (k : Nat) : (k : Int) / 4 = ((k / 4 : Nat) : Int) := by omega
theorem k4_c (a j : Nat) : 4 * (a : Int) + (j : Int) = ((4 * a + j : Nat) : Int) := by omega
def stB (l : List Nat) (q t : Nat) : Nat := smB (fun k => if 1 ≤ gN l k ∧ gN l k ≤ 64 ∧ k / 4 % 2 = t ∧ (17 * (k / 4) + 3 + gN l k) % 68 = q then 1 else 0) 16
theorem stB_eq (l : List Nat) (q t : Nat) : stand (pN l) (q : Int) (t : Int) = (stB l q t : Int) := by
  show sZ (onN (pN l) q t) ((16 : Nat) : Int) = _
  refine smB_eq (fun k hk => ?_)
  unfold onN
  rw [pN_at, d4_c, sq_c]
  by_cases c : 1 ≤ gN l k ∧ gN l k ≤ 64 ∧ k / 4 % 2 = t ∧ (17 * (k / 4) + 3 + gN l k) % 68 = q
  · rw [if_pos (by omega), if_pos c]; rfl
  · rw [if_neg (by omega), if_neg c]; rfl
def woB (m : Nat) : Nat := if m = 0 then 25 else if m = 1 then 10 else m
theorem woB_eq (m : Nat) : wo (m : Int) = (woB m : Int) := by unfold wo woB; (repeat' split) <;> omega
def tgB (l : List Nat) (k m : Nat) : Nat := if gN l k = 0 then (if m ≤ 1 ∨ m = 6 then 1 else 0) else if gN l k + woB m ≤ 72 ∧ gN l k < 72 then gN l k + woB m else 0
theorem tgB_eq (l : List Nat) (k m : Nat) : tgt (pN l) (k : Int) (m : Int) = (tgB l k m : Int) := by
  unfold tgt tgB; rw [pN_at, woB_eq]; (repeat' split) <;> omega
def frB (l : List Nat) (a s t : Nat) : Bool := alB (fun i => Nat.ble (stB l ((17 * a + 3 + (s + 1 + i)) % 68) (1 - a % 2)) 1) ((if t ≤ 64 then t else 64) - s)
theorem frB_iff (l : List Nat) (a s t : Nat) : frW (pN l) (a : Int) (s : Int) (t : Int) ↔ frB l a s t = true := by
  unfold frB frW
  rw [alB_iff]
  constructor
  · intro h i hi
    have h1 := h ((s + 1 + i : Nat) : Int) (by omega) (by split at hi <;> omega) (by split at hi <;> omega)
    rw [sq_c, o2_c, stB_eq] at h1
    rw [Nat.ble_eq]; omega
  · intro h k h1 h2 h3
    have h4 := h (k.toNat - s - 1) (by split <;> omega)
    rw [Nat.ble_eq] at h4
    have e : k = ((s + 1 + (k.toNat - s - 1) : Nat) : Int) := by omega
    rw [e, sq_c, o2_c, stB_eq]; omega
def caB (l : List Nat) (k m : Nat) : Nat :=
  if 0 < tgB l k m ∧ frB l (k / 4) (gN l k) (tgB l k m) = true then (if 64 < tgB l k m then 1 else if stB l ((17 * (k / 4) + 3 + tgB l k m) % 68) (1 - k / 4 % 2) = 0 then 1 else if (17 * (k / 4) + 3 + tgB l k m) % 68 % 17 = 4 ∨ (17 * (k / 4) + 3 + tgB l k m) % 68 % 17 = 11 then 0 else 2) else 0
theorem caB_eq (l : List Nat) (k m : Nat) : can (pN l) (k : Int) (m : Int) = (caB l k m : Int) := by
  unfold can caB
  rw [tgB_eq, pN_at, d4_c, sq_c, o2_c, stB_eq]
  by_cases c : 0 < tgB l k m ∧ frB l (k / 4) (gN l k) (tgB l k m) = true
  · rw [iC_t ⟨by omega, (frB_iff _ _ _ _).mpr c.2⟩, if_pos c]
    (repeat' split) <;> omega
  · rw [iC_f (fun q => c ⟨by omega, (frB_iff _ _ _ _).mp q.2⟩), if_neg c]; rfl
def msB (l : List Nat) (a m : Nat) : Nat := smB (fun j => if caB l (4 * a + j) m = 0 then 0 else gN [1, 2, 4, 8] j) 4
theorem p2_c {j : Nat} (h : j < 4) : p2 (j : Int) = (gN [1, 2, 4, 8] j : Int) := by
  have : j = 0 ∨ j = 1 ∨ j = 2 ∨ j = 3 := by omega
  rcases this with rfl | rfl | rfl | rfl <;> decide
theorem msB_eq (l : List Nat) (a m : Nat) : ms (pN l) (a : Int) (m : Int) = (msB l a m : Int) := by
  show sZ (msN (pN l) a m) ((4 : Nat) : Int) = _
  refine smB_eq (fun j hj => ?_)
  unfold msN
  rw [k4_c, caB_eq, p2_c hj]
  (repeat' split) <;> omega
def hmB (l : List Nat) (a : Nat) : Nat := smB (fun j => if gN l (4 * a + j) = 72 then 1 else 0) 4
theorem hmB_eq (l : List Nat) (a : Nat) : hm (pN l) (a : Int) = (hmB l a : Int) := by
  show sZ (hmN (pN l) a) ((4 : Nat) : Int) = _
  refine smB_eq (fun j hj => ?_)
  unfold hmN
  rw [k4_c, pN_at]
  (repeat' split) <;> omega
def mvB (l : List Nat) (a : Nat) : Nat := if hmB l a = 4 then (a + 2) % 4 else a
theorem mvB_eq (l : List Nat) (a : Nat) : mv (pN l) (a : Int) = (mvB l a : Int) := by
  unfold mv mvB
  rw [hmB_eq]
  (repeat' split) <;> omega
theorem gN_set {l : List Nat} {k v i : Nat} (h : k < l.length) : gN (l.set k v) i = if i = k then v else gN l i := by
  unfold gN
  rw [List.getD_eq_getElem?_getD, List.getD_eq_getElem?_getD, List.getElem?_set]
  by_cases e : k = i
  · subst e; rw [if_pos rfl, if_pos h, if_pos rfl]; rfl
  · rw [if_neg e, if_neg (fun z => e z.symm)]
theorem pN_set {l : List Nat} {k v : Nat} (h : k < l.length) : uI (pN l) (k : Int) (v : Int) = pN (l.set k v) := by
  funext i
  unfold uI pN
  by_cases c : 0 ≤ i
  · rw [if_pos c, if_pos c, gN_set h]; (repeat' split) <;> omega
  · rw [if_neg c, if_neg c, if_neg (by omega)]
theorem gN_out {l : List Nat} {i : Nat} (h : l.length ≤ i) : gN l i = 0 := by
  unfold gN; rw [List.getD_eq_getElem?_getD, List.getElem?_eq_none h]; rfl
/-- what stands at place i behind a move -/
def mvV (l : List Nat) (k tg ca i : Nat) : Nat := if i = k then tg else if ca = 2 ∧ 1 ≤ gN l i ∧ gN l i ≤ 64 ∧ i / 4 % 2 = 1 - k / 4 % 2 ∧ (17 * (i / 4) + 3 + gN l i) % 68 = (17 * (k / 4) + 3 + tg) % 68 then 0 else gN l i
theorem mvV_eq {l l2 : List Nat} {k m tg ca : Nat} (hl : l.length = 16) (hl2 : l2.length = 16) (hk : k < 16) (hca : caB l k m = ca) (htg : tgB l k m = tg) (h : alB (fun i => Nat.beq (mvV l k tg ca i) (gN l2 i)) 16 = true) : mvP (pN l) (k : Int) (m : Int) = pN l2 := by
  have h1 : ∀ i : Nat, mvV l k tg ca i = gN l2 i := by
    intro i
    by_cases hi : i < 16
    · have := (alB_iff _ _).mp h i hi; rwa [Nat.beq_eq] at this
    · unfold mvV
      rw [gN_out (l := l) (by omega), gN_out (l := l2) (by omega), if_neg (by omega), if_neg (by omega)]
  funext i
  have h2 := h1 i.toNat
  unfold mvV at h2
  unfold mvP uI
  rw [caB_eq, tgB_eq, hca, htg, d4_c, sq_c, o2_c]
  by_cases c : 0 ≤ i
  · have e : i = ((i.toNat : Nat) : Int) := by omega
    generalize i.toNat = n at h2 e
    subst e
    have hg : 16 ≤ n → gN l n = 0 := fun q => gN_out (by omega)
    rw [pN_at, ← h2]
    by_cases c1 : n = k
    · rw [if_pos (by omega), if_pos c1]
    · rw [if_neg (by omega), if_neg c1]
      by_cases c2 : ca = 2
      · rw [if_pos (by omega)]
        unfold syP
        rw [pN_at, d4_c, sq_c]
        by_cases c3 : ca = 2 ∧ 1 ≤ gN l n ∧ gN l n ≤ 64 ∧ n / 4 % 2 = 1 - k / 4 % 2 ∧ (17 * (n / 4) + 3 + gN l n) % 68 = (17 * (k / 4) + 3 + tg) % 68
        · rw [if_pos (by omega), if_pos c3]; rfl
        · rw [if_neg (by omega), if_neg c3]
      · rw [if_neg (by omega), if_neg (fun z => c2 z.1), pN_at]
  · rw [if_neg (by omega)]
    have e1 : pN l i = 0 := by unfold pN; rw [if_neg c]
    have e2 : pN l2 i = 0 := by unfold pN; rw [if_neg c]
    rw [e2]
    split
    · unfold syP; rw [if_neg (by omega)]; exact e1
    · exact e1
theorem pN_rng {l : List Nat} (hl : l.length = 16) (h : alB (fun i => Nat.ble (gN l i) 72) 16 = true) : ∀ i, 0 ≤ pN l i ∧ pN l i ≤ 72 := by
  intro i
  unfold pN
  split
  · by_cases hi : i.toNat < 16
    · have := (alB_iff _ _).mp h _ hi; rw [Nat.ble_eq] at this; omega
    · rw [gN_out (by omega)]; omega
  · omega
theorem pN_16 : pN [0, 0, 0, 0, 0, 0, 0, 0, 0, 0, 0, 0, 0, 0, 0, 0] = fun _ => 0 := by
  funext i
  unfold pN
  split
  · by_cases hi : i.toNat < 16
    · have h : alB (fun j => Nat.beq (gN [0, 0, 0, 0, 0, 0, 0, 0, 0, 0, 0, 0, 0, 0, 0, 0] j) 0) 16 = true := by decide +kernel
      have := (alB_iff _ _).mp h _ hi; rw [Nat.beq_eq] at this; rw [this]; rfl
    · rw [gN_out (by show 16 ≤ _; omega)]; rfl
  · rfl
theorem pN_4 : pN [0, 0, 0, 0] = fun _ => 0 := by
  funext i
  unfold pN
  split
  · by_cases hi : i.toNat < 4
    · have h : alB (fun j => Nat.beq (gN [0, 0, 0, 0] j) 0) 4 = true := by decide +kernel
      have := (alB_iff _ _).mp h _ hi; rw [Nat.beq_eq] at this; rw [this]; rfl
    · rw [gN_out (by show 4 ≤ _; omega)]; rfl
  · rfl
/-- a move, reckoned -/
def moB (l c : List Nat) (tu gc m j k ca tg pz tu2 gc2 ph2 : Nat) (l2 c2 : List Nat) : Bool := decide (
  l.length = 16 ∧ l2.length = 16 ∧ c.length = 4 ∧ alB (fun i => Nat.ble (gN l i) 72) 16 = true ∧ m ≤ 6 ∧ j ≤ 3 ∧ tu ≤ 3 ∧ gc ≤ 2 ∧ k = 4 * mvB l tu + j ∧ k < 16 ∧ caB l k m = ca ∧ ca ≠ 0 ∧ tgB l k m = tg ∧ alB (fun i => Nat.beq (mvV l k tg ca i) (gN l2 i)) 16 = true ∧ c2 = (if ca = 2 then c.set tu (gN c tu + 1) else c) ∧ pz = (if ca = 2 then tg + 100 else tg) ∧
  ((hmB l2 tu = 4 ∧ hmB l2 ((tu + 2) % 4) = 4) ∧ ph2 = 2 ∧ tu2 = tu ∧ gc2 = gc ∨ ¬ (hmB l2 tu = 4 ∧ hmB l2 ((tu + 2) % 4) = 4) ∧ ph2 = 0 ∧ ((ca = 2 ∨ m ≤ 1 ∨ m = 6) ∧ tu2 = tu ∧ gc2 = gc ∨ (ca ≠ 2 ∧ ¬ (m ≤ 1 ∨ m = 6)) ∧ tu2 = (tu + 1) % 4 ∧ gc2 = 0)))
def mvH (P C : Int → Int) (tu gc m j pz tu2 gc2 ph2 : Int) (P2 C2 : Int → Int) : Prop := (∀ i, 0 ≤ P i ∧ P i ≤ 72) ∧ (0 ≤ tu ∧ tu ≤ 3) ∧ (0 ≤ gc ∧ gc ≤ 2) ∧ (0 ≤ m ∧ m ≤ 6) ∧ (0 ≤ j ∧ j ≤ 3) ∧ mvR P C tu gc m j pz tu2 gc2 ph2 P2 C2
theorem moB_ok {l c l2 c2 : List Nat} {tu gc m j pz tu2 gc2 ph2 : Nat} (k ca tg : Nat) (h : moB l c tu gc m j k ca tg pz tu2 gc2 ph2 l2 c2 = true) : mvH (pN l) (pN c) tu gc m j pz tu2 gc2 ph2 (pN l2) (pN c2) := by
  obtain ⟨h1, h2, h3, h4, h5, h6, h7, h8, h9, h10, h11, h12, h13, h14, h15, h16, h17⟩ := of_decide_eq_true h
  refine ⟨pN_rng h1 h4, by omega, by omega, by omega, by omega, ?_⟩
  have e := mvV_eq h1 h2 h10 h11 h13 h14
  unfold mvR
  rw [mvB_eq, k4_c, ← h9, e, caB_eq, tgB_eq, h11, h13]
  refine ⟨by omega, rfl, ?_, ?_, ?_⟩
  · rw [h15]
    by_cases q : ca = 2
    · rw [if_pos q, if_pos (by omega), pN_at, show ((gN c tu : Nat) : Int) + 1 = ((gN c tu + 1 : Nat) : Int) by omega, pN_set (by omega)]
    · rw [if_neg q, if_neg (by omega)]
  · rw [h16]
    (repeat' split) <;> omega
  · have w1 : won (pN l2) (tu : Int) ↔ (hmB l2 tu = 4 ∧ hmB l2 ((tu + 2) % 4) = 4) := by
      unfold won
      rw [show ((tu : Int) + 2) % 4 = (((tu + 2) % 4 : Nat) : Int) by omega, hmB_eq, hmB_eq]
      omega
    rw [w1]
    omega
def gq (gc m : Int) : Int := if m ≤ 1 ∨ m = 6 then gc + 1 else 0
def goesH (P C : Int → Int) (tu gc m mb j pz tu2 gc2 ph2 : Int) (P2 C2 : Int → Int) : Prop := (0 ≤ gc ∧ gc ≤ 2) ∧ ¬ ((m ≤ 1 ∨ m = 6) ∧ gc = 2) ∧ ms P (mv P tu) m = mb ∧ mb ≠ 0 ∧ mvH P C tu (gq gc m) m j pz tu2 gc2 ph2 P2 C2
theorem msB_ok {l : List Nat} {tu m mb : Nat} (h : msB l (mvB l tu) m = mb) : ms (pN l) (mv (pN l) (tu : Int)) (m : Int) = (mb : Int) := by rw [mvB_eq, msB_eq, h]
theorem goB_ok {l c l2 c2 : List Nat} {tu gc m mb j pz tu2 gc2 ph2 : Nat} (k ca tg gc1 : Nat) (h : moB l c tu gc1 m j k ca tg pz tu2 gc2 ph2 l2 c2 = true) (hm : msB l (mvB l tu) m = mb) (h0 : mb ≠ 0 ∧ gc ≤ 2 ∧ ¬ ((m ≤ 1 ∨ m = 6) ∧ gc = 2) ∧ gc1 = if m ≤ 1 ∨ m = 6 then gc + 1 else 0) : goesH (pN l) (pN c) tu gc m mb j pz tu2 gc2 ph2 (pN l2) (pN c2) := by
  obtain ⟨q1, q2, q3, q4⟩ := h0
  have e : gq (gc : Int) (m : Int) = (gc1 : Int) := by unfold gq; rw [q4]; (repeat' split) <;> omega
  refine ⟨by omega, by omega, msB_ok hm, by omega, ?_⟩
  rw [e]
  exact moB_ok k ca tg h
/-- the chances, reckoned -/
def wyB (m : Nat) : Nat := gN [1, 6, 15, 20, 15, 6, 1] m
theorem wyB_eq {m : Nat} (h : m < 7) : wyI (m : Int) = (wyB m : Int) := by
  have : m = 0 ∨ m = 1 ∨ m = 2 ∨ m = 3 ∨ m = 4 ∨ m = 5 ∨ m = 6 := by omega
  rcases this with rfl | rfl | rfl | rfl | rfl | rfl | rfl <;> decide
def dzB (l : List Nat) (a m w : Nat) : Bool := exB (fun j => decide (caB l (4 * a + j) m ≠ 0 ∧ (w = 0 ∨ w = 1 ∧ caB l (4 * a + j) m = 2 ∨ w = 2 ∧ tgB l (4 * a + j) m = 72 ∨ w = 3 ∧ gN l (4 * a + j) = 0))) 4
theorem dzB_iff (l : List Nat) (a m w : Nat) : dzP (pN l) (a : Int) (m : Int) (w : Int) ↔ dzB l a m w = true := by
  unfold dzB dzP
  rw [exB_iff]
  have key : ∀ j : Nat, dzA (pN l) (a : Int) (m : Int) (w : Int) (j : Int) ↔ (caB l (4 * a + j) m ≠ 0 ∧ (w = 0 ∨ w = 1 ∧ caB l (4 * a + j) m = 2 ∨ w = 2 ∧ tgB l (4 * a + j) m = 72 ∨ w = 3 ∧ gN l (4 * a + j) = 0)) := by
    intro j
    unfold dzA
    rw [k4_c, caB_eq, tgB_eq, pN_at]
    omega
  constructor
  · rintro ⟨j, h0, h1, h2⟩
    refine ⟨j.toNat, by omega, decide_eq_true ?_⟩
    have e : j = ((j.toNat : Nat) : Int) := by omega
    rw [e] at h2
    exact (key _).mp h2
  · rintro ⟨j, h1, h2⟩
    exact ⟨(j : Int), by omega, by omega, (key j).mpr (of_decide_eq_true h2)⟩
def wysB (l : List Nat) (tu g w : Nat) : Nat := smB (fun m => if ¬ ((m ≤ 1 ∨ m = 6) ∧ 2 ≤ g) ∧ dzB l (mvB l tu) m w = true then wyB m else 0) 7
theorem wysB_eq (l : List Nat) (tu g w : Nat) : wy (pN l) (tu : Int) (g : Int) (w : Int) = (wysB l tu g w : Int) := by
  show sZ (wyA (pN l) tu g w) ((7 : Nat) : Int) = _
  refine smB_eq (fun m hm => ?_)
  unfold wyA
  rw [mvB_eq, wyB_eq hm]
  by_cases c : ¬ ((m ≤ 1 ∨ m = 6) ∧ 2 ≤ g) ∧ dzB l (mvB l tu) m w = true
  · rw [iC_t ⟨by omega, (dzB_iff _ _ _ _).mpr c.2⟩, if_pos c]
  · rw [iC_f (fun q => c ⟨by omega, (dzB_iff _ _ _ _).mp q.2⟩), if_neg c]; rfl
def cpB (l : List Nat) (q a m : Nat) : Bool := exB (fun j => decide (caB l (4 * a + j) m = 2 ∧ (17 * a + 3 + tgB l (4 * a + j) m) % 68 = q)) 4
theorem cpB_iff (l : List Nat) (q a m : Nat) : cpP (pN l) (q : Int) (a : Int) (m : Int) ↔ cpB l q a m = true := by
  unfold cpB cpP
  rw [exB_iff]
  have key : ∀ j : Nat, cpA (pN l) (q : Int) (a : Int) (m : Int) (j : Int) ↔ (caB l (4 * a + j) m = 2 ∧ (17 * a + 3 + tgB l (4 * a + j) m) % 68 = q) := by
    intro j
    unfold cpA
    rw [k4_c, caB_eq, tgB_eq, sq_c]
    omega
  constructor
  · rintro ⟨j, h0, h1, h2⟩
    refine ⟨j.toNat, by omega, decide_eq_true ?_⟩
    have e : j = ((j.toNat : Nat) : Int) := by omega
    rw [e] at h2
    exact (key _).mp h2
  · rintro ⟨j, h1, h2⟩
    exact ⟨(j : Int), by omega, by omega, (key j).mpr (of_decide_eq_true h2)⟩
def thB (l : List Nat) (k b : Nat) : Nat := if 1 ≤ gN l k ∧ gN l k ≤ 64 then smB (fun m => if cpB l ((17 * (k / 4) + 3 + gN l k) % 68) (mvB l b) m = true then wyB m else 0) 7 else 0
theorem thB_eq (l : List Nat) (k b : Nat) : thr (pN l) (k : Int) (b : Int) = (thB l k b : Int) := by
  unfold thB
  by_cases c : 1 ≤ gN l k ∧ gN l k ≤ 64
  · rw [if_pos c, thr_on (by rw [pN_at]; omega), pN_at, d4_c, sq_c, mvB_eq]
    show sZ _ ((7 : Nat) : Int) = _
    refine smB_eq (fun m hm => ?_)
    unfold thA
    rw [wyB_eq hm]
    by_cases c2 : cpB l ((17 * (k / 4) + 3 + gN l k) % 68) (mvB l b) m = true
    · rw [iC_t ((cpB_iff _ _ _ _).mpr c2), if_pos c2]
    · rw [iC_f (fun q => c2 ((cpB_iff _ _ _ _).mp q)), if_neg c2]; rfl
  · rw [if_neg c, thr_no (by rw [pN_at]; omega)]; rfl
def mxB (f : Nat → Nat) : Nat → Nat
  | 0 => 0
  | n + 1 => (mxB f n - f n) + f n
theorem mxB_eq {f : Int → Int} {g : Nat → Nat} {n : Nat} (h : ∀ k : Nat, k < n → f (k : Int) = (g k : Int)) : mxZ f (n : Int) = (mxB g n : Int) := by
  unfold mxZ
  rw [Int.toNat_natCast]
  induction n with
  | zero => rfl
  | succ n ih =>
    show (if mxN f n < f (n : Int) then f (n : Int) else mxN f n) = (((mxB g n - g n) + g n : Nat) : Int)
    rw [ih (fun k hk => h k (by omega)), h n (by omega)]
    split <;> omega
def chGB (R : List Nat → Nat) (l : List Nat) (a m : Nat) : Nat := if msB l a m = 0 then R l else mxB (fun j => if caB l (4 * a + j) m ≠ 0 then R (l.set (4 * a + j) (tgB l (4 * a + j) m)) else 0) 4
def chAB (tu g n : Nat) (R : Nat → List Nat → Nat) (l : List Nat) (m : Nat) : Nat :=
  if (m ≤ 1 ∨ m = 6) ∧ 2 ≤ g then 0 else if dzB l (mvB l tu) m 1 = true then 64 ^ n else if ¬ (m ≤ 1 ∨ m = 6) ∨ n = 0 then 0 else chGB (R (g + 1)) l (mvB l tu) m
def chB (tu : Nat) : Nat → Nat → List Nat → Nat
  | 0 => fun _ _ => 0
  | n + 1 => fun g l => smB (fun m => wyB m * chAB tu g n (chB tu n) l m) 7
theorem mvB_lt (l : List Nat) {a : Nat} (h : a < 4) : mvB l a < 4 := by unfold mvB; split <;> omega
theorem chGB_eq {R : (Int → Int) → Int} {RB : List Nat → Nat} (h : ∀ l : List Nat, l.length = 16 → R (pN l) = (RB l : Int)) {l : List Nat} (hl : l.length = 16) {a : Nat} (ha : a < 4) (m : Nat) : chGn R (pN l) (a : Int) (m : Int) 4 = (chGB RB l a m : Int) := by
  unfold chGn chGB
  rw [msB_eq]
  by_cases c : msB l a m = 0
  · rw [iC_t (by omega), if_pos c]; exact h l hl
  · rw [iC_f (by omega), if_neg c]
    show mxZ _ ((4 : Nat) : Int) = _
    refine mxB_eq (fun j hj => ?_)
    unfold chF
    rw [k4_c, caB_eq, tgB_eq, pN_set (by omega)]
    by_cases c2 : caB l (4 * a + j) m ≠ 0
    · rw [iC_t (by omega), if_pos c2]; exact h _ (by rw [List.length_set]; exact hl)
    · rw [iC_f (by omega), if_neg c2]; rfl
theorem chB_eq {tu : Nat} (ht : tu < 4) : ∀ (n g : Nat) (l : List Nat), l.length = 16 → ch (tu : Int) n (g : Int) (pN l) = (chB tu n g l : Int) := by
  intro n
  induction n with
  | zero => intro g l hl; rfl
  | succ n ih =>
    intro g l hl
    rw [ch_s]
    show sZ _ ((7 : Nat) : Int) = _
    refine smB_eq (g := fun m => wyB m * chAB tu g n (chB tu n) l m) (fun m hm => ?_)
    show wyI (m : Int) * chA (tu : Int) (g : Int) n (ch (tu : Int) n) (pN l) (m : Int) = ((wyB m * chAB tu g n (chB tu n) l m : Nat) : Int)
    rw [wyB_eq hm, Int.natCast_mul]
    congr 1
    unfold chAB
    by_cases c1 : (m ≤ 1 ∨ m = 6) ∧ 2 ≤ g
    · rw [chA_lost (by omega), if_pos c1]; rfl
    · rw [if_neg c1]
      by_cases c2 : dzB l (mvB l tu) m 1 = true
      · rw [chA_cap (by omega) (by rw [mvB_eq]; exact (dzB_iff _ _ _ 1).mpr c2), if_pos c2, Int.natCast_pow]; rfl
      · have c2' : ¬ dzP (pN l) (mv (pN l) (tu : Int)) (m : Int) 1 := fun q => c2 ((dzB_iff _ _ _ 1).mp (by rw [mvB_eq] at q; exact q))
        rw [if_neg c2]
        by_cases c3 : ¬ (m ≤ 1 ∨ m = 6) ∨ n = 0
        · rw [chA_end c2' (by omega), if_pos c3]; rfl
        · rw [chA_go (by omega) c2' (by omega), if_neg c3, mvB_eq, show (g : Int) + 1 = ((g + 1 : Nat) : Int) by omega]
          exact chGB_eq (fun l hl => ih (g + 1) l hl) hl (mvB_lt l ht) m
