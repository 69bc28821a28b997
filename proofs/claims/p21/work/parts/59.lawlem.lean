/-! the drawn game of forty throws: what holds ahead of each throw, and ahead of each try of a piece -/
def LH (k tu gc mo : Int) (P : Int → Int) : Prop := (0 ≤ k ∧ k ≤ 40) ∧ (0 ≤ tu ∧ tu ≤ 3) ∧ (0 ≤ gc ∧ gc ≤ 2) ∧ (0 ≤ mo ∧ mo ≤ 6) ∧ (∀ i, 0 ≤ P i ∧ P i ≤ 72) ∧ 3 * PW P ≤ 55 * k + 20 * gc
def LT (k x i tu gc ph mo : Int) (P : Int → Int) : Prop := (0 ≤ k ∧ k < 40) ∧ (0 ≤ tu ∧ tu ≤ 3) ∧ (0 ≤ gc ∧ gc ≤ 2) ∧ (0 ≤ mo ∧ mo ≤ 6) ∧ (∀ i, 0 ≤ P i ∧ P i ≤ 72) ∧
  ((ph = 0 ∧ 3 * PW P ≤ 55 * (k + 1) + 20 * gc) ∨ (ph = 1 ∧ 3 * PW P + 3 * gm mo ≤ 55 * (k + 1) + 20 * gc ∧ (¬ (mo ≤ 1 ∨ mo = 6) → gc = 0) ∧ ms P (mv P tu) mo ≠ 0 ∧ ∀ q, 0 ≤ q → q < i → can P (4 * mv P tu + (q + x) % 4) mo = 0))
theorem gm_g {m : Int} (h : m ≤ 1 ∨ m = 6) : gm m = 25 := by unfold gm; rw [if_pos h]
theorem gm_n {m : Int} (h : ¬ (m ≤ 1 ∨ m = 6)) : gm m = 5 := by unfold gm; rw [if_neg h]
theorem law_ts {k x tu gc mo m z a b c d : Int} {P : Int → Int} (h : LH k tu gc mo P) (hk : k < 40) (hm : 0 ≤ m ∧ m ≤ 6) (ht : tsR P tu gc mo m z a b c d) : LT k x 0 a b c d P ∧ z ≠ 0 ∧ -25 ≤ z ∧ z ≤ 25 ∧ 0 ≤ c ∧ c ≤ 1 := by
  obtain ⟨h1, h2, h3, h4, h5, h6⟩ := h
  have hw := wo_rng hm
  unfold tsR at ht
  rcases ht with ⟨q1, q2, q3, q4, q5, q6, q7⟩ | ⟨q1, q2, q3, q4, q5, q6⟩ | ⟨q1, q2, q3, q4, q5, q6, q7⟩
  · exact ⟨⟨by omega, by omega, by omega, by omega, h5, Or.inl ⟨by omega, by omega⟩⟩, by omega, by omega, by omega, by omega, by omega⟩
  · exact ⟨⟨by omega, by omega, by omega, by omega, h5, Or.inl ⟨by omega, by omega⟩⟩, by omega, by omega, by omega, by omega, by omega⟩
  · subst q4 q6 q7
    refine ⟨⟨by omega, by omega, by omega, by omega, h5, Or.inr ⟨rfl, ?_, by omega, q2, fun q g1 g2 => absurd g1 (by omega)⟩⟩, by omega, by omega, by omega, by omega, by omega⟩
    by_cases c : d ≤ 1 ∨ d = 6
    · rw [gm_g c]; omega
    · rw [gm_n c]; omega
theorem LT_now {k x i tu gc mo : Int} {P : Int → Int} (h : LT k x i tu gc 1 mo P) : 3 * PW P + 3 * gm mo ≤ 55 * (k + 1) + 20 * gc ∧ (¬ (mo ≤ 1 ∨ mo = 6) → gc = 0) ∧ ms P (mv P tu) mo ≠ 0 ∧ ∀ q, 0 ≤ q → q < i → can P (4 * mv P tu + (q + x) % 4) mo = 0 := by
  obtain ⟨-, -, -, -, -, h | h⟩ := h
  · exact absurd h.1 (by decide)
  · exact h.2
theorem law_mv {k x i i2 tu gc mo j z a b c : Int} {P C P2 C2 : Int → Int} (h : LT k x i tu gc 1 mo P) (hj : 0 ≤ j ∧ j ≤ 3) (ht : mvR P C tu gc mo j z a b c P2 C2) : LT k x i2 a b c mo P2 ∧ 0 < z ∧ z ≤ 172 ∧ c = 0 := by
  obtain ⟨n1, n2, n3, n4⟩ := LT_now h
  obtain ⟨h1, h2, h3, h4, h5, -⟩ := h
  obtain ⟨t1, t2, t3, t4, t5⟩ := ht
  have hr := mv_rng P h2
  have hp := PW_mvP h5 (k := 4 * mv P tu + j) (by omega) h4 t1
  rw [← t2] at hp
  have hB2 : ∀ i, 0 ≤ P2 i ∧ P2 i ≤ 72 := by rw [t2]; exact mvP_rng h5 h4
  have ht1 := (can_pos t1).1
  have ht2 := tgt_rng h5 (4 * mv P tu + j) h4
  have hz : 0 < z ∧ z ≤ 172 := by rw [t4]; split <;> omega
  have hnw : ¬ won (mvP P (4 * mv P tu + j) mo) tu := fun w => by
    have := won_PW h2 w
    rw [← t2] at this; omega
  rcases t5 with ⟨w, -⟩ | ⟨-, c0, t6⟩
  · exact absurd w hnw
  · refine ⟨⟨h1, by omega, by omega, h4, hB2, Or.inl ⟨c0, ?_⟩⟩, hz.1, hz.2, c0⟩
    rcases t6 with ⟨_, _, g⟩ | ⟨_, g1, _, g2⟩
    · rw [g]; omega
    · have g3 := n2 g1
      rw [g2]; omega
theorem law_no {k x i tu gc mo : Int} {P : Int → Int} (h : LT k x i tu gc 1 mo P) (hc : can P (4 * mv P tu + (i + x) % 4) mo = 0) : LT k x (i + 1) tu gc 1 mo P := by
  obtain ⟨n1, n2, n3, n4⟩ := LT_now h
  obtain ⟨h1, h2, h3, h4, h5, -⟩ := h
  refine ⟨h1, h2, h3, h4, h5, Or.inr ⟨rfl, n1, n2, n3, fun q g1 g2 => ?_⟩⟩
  by_cases e : q = i
  · rw [e]; exact hc
  · exact n4 q g1 (by omega)
theorem law_0 {k x i tu gc ph mo : Int} {P : Int → Int} (h : LT k x i tu gc ph mo P) (hp : ph ≠ 1) : ph = 0 ∧ LH (k + 1) tu gc mo P := by
  obtain ⟨h1, h2, h3, h4, h5, h6⟩ := h
  rcases h6 with h6 | h6
  · exact ⟨h6.1, by omega, h2, h3, h4, h5, h6.2⟩
  · exact absurd h6.1 hp
theorem law_4 {k x tu gc ph mo : Int} {P : Int → Int} (h : LT k x 4 tu gc ph mo P) : ph ≠ 1 := by
  intro e
  subst e
  obtain ⟨-, -, n3, n4⟩ := LT_now h
  refine n3 (ms_0.mpr (fun j h0 h1 => ?_))
  have h2 := n4 ((j - x) % 4) (by omega) (by omega)
  rw [show ((j - x) % 4 + x) % 4 = j by omega] at h2
  exact h2
theorem ms_bits (P : Int → Int) (a m : Int) : ∃ b0 b1 b2 b3 : Bool, ms P a m = (if b0 then 1 else 0) + (if b1 then 2 else 0) + (if b2 then 4 else 0) + (if b3 then 8 else 0) ∧ (can P (4 * a + 0) m ≠ 0 ↔ b0 = true) ∧ (can P (4 * a + 1) m ≠ 0 ↔ b1 = true) ∧ (can P (4 * a + 2) m ≠ 0 ↔ b2 = true) ∧ (can P (4 * a + 3) m ≠ 0 ↔ b3 = true) := by
  have key : ∀ j : Int, ∃ b : Bool, msN P a m j = (if b then p2 j else 0) ∧ (can P (4 * a + j) m ≠ 0 ↔ b = true) := by
    intro j
    by_cases c : can P (4 * a + j) m = 0
    · exact ⟨false, by unfold msN; rw [if_pos c]; rfl, ⟨fun h => absurd c h, fun h => by cases h⟩⟩
    · exact ⟨true, by unfold msN; rw [if_neg c]; rfl, ⟨fun _ => rfl, fun _ => c⟩⟩
  obtain ⟨b0, e0, f0⟩ := key 0
  obtain ⟨b1, e1, f1⟩ := key 1
  obtain ⟨b2, e2, f2⟩ := key 2
  obtain ⟨b3, e3, f3⟩ := key 3
  refine ⟨b0, b1, b2, b3, ?_, f0, f1, f2, f3⟩
  unfold ms
  rw [sZ_4, e0, e1, e2, e3]
  rfl
theorem law_bit {P : Int → Int} {a m j : Int} (hj : 0 ≤ j ∧ j ≤ 3) : (can P (4 * a + j) m ≠ 0 → iI (ms P a m) >>> (iI j &&& 31) &&& iI 1 = iI 1) ∧ (can P (4 * a + j) m = 0 → iI (ms P a m) >>> (iI j &&& 31) &&& iI 1 = iI 0) := by
  obtain ⟨b0, b1, b2, b3, e, f0, f1, f2, f3⟩ := ms_bits P a m
  have h4 : j = 0 ∨ j = 1 ∨ j = 2 ∨ j = 3 := by omega
  rw [e]
  have g : ∀ {c : Int} {b : Bool}, (c ≠ 0 ↔ b = true) → (c = 0 → b = false) := fun {c b} h q => by
    cases b
    · rfl
    · exact absurd q (h.mpr rfl)
  rcases h4 with rfl | rfl | rfl | rfl
  · refine ⟨fun h => ?_, fun h => ?_⟩
    · rw [f0.mp h]; cases b1 <;> cases b2 <;> cases b3 <;> decide
    · rw [g f0 h]; cases b1 <;> cases b2 <;> cases b3 <;> decide
  · refine ⟨fun h => ?_, fun h => ?_⟩
    · rw [f1.mp h]; cases b0 <;> cases b2 <;> cases b3 <;> decide
    · rw [g f1 h]; cases b0 <;> cases b2 <;> cases b3 <;> decide
  · refine ⟨fun h => ?_, fun h => ?_⟩
    · rw [f2.mp h]; cases b0 <;> cases b1 <;> cases b3 <;> decide
    · rw [g f2 h]; cases b0 <;> cases b1 <;> cases b3 <;> decide
  · refine ⟨fun h => ?_, fun h => ?_⟩
    · rw [f3.mp h]; cases b0 <;> cases b1 <;> cases b2 <;> decide
    · rw [g f3 h]; cases b0 <;> cases b1 <;> cases b2 <;> decide
theorem ushr9 (x : Int32) : ∃ v : Int, 0 ≤ v ∧ v ≤ 8388607 ∧ (x.toUInt32 >>> ((iI 9).toUInt32 &&& Int32.toUInt32 31)).toInt32 = iI v := by
  have h := pk_ushr x (iI 9) 9 (by decide)
  generalize (x.toUInt32 >>> ((iI 9).toUInt32 &&& Int32.toUInt32 31)).toInt32 = y at h ⊢
  have hx : x.toBitVec.toNat < 2 ^ 32 := x.toBitVec.isLt
  refine ⟨(y.toBitVec.toNat : Int), by omega, by omega, ?_⟩
  have e : iI ((y.toBitVec.toNat : Nat) : Int) = Int32.ofNat y.toBitVec.toNat := rfl
  rw [e]
  apply Int32.toBitVec_inj.mp
  show y.toBitVec = BitVec.ofNat 32 y.toBitVec.toNat
  rw [BitVec.ofNat_toNat, BitVec.setWidth_eq]
