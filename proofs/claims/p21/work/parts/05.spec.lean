/-! the game in numbers: positions P by 4 * player + piece -/
def sm (f : Int → Int) : Nat → Int
  | 0 => 0
  | n + 1 => sm f n + f n
def sZ (f : Int → Int) (k : Int) : Int := sm f k.toNat
theorem sZ_0 (f : Int → Int) : sZ f 0 = 0 := rfl
theorem sZ_s (f : Int → Int) {k : Int} (h : 0 ≤ k) : sZ f (k + 1) = sZ f k + f k := by
  unfold sZ
  rw [show (k + 1).toNat = k.toNat + 1 by omega]
  show sm f k.toNat + f (k.toNat : Int) = _
  rw [Int.toNat_of_nonneg h]
theorem sZ_cong {f g : Int → Int} {n : Int} (h : ∀ k, 0 ≤ k → k < n → f k = g k) : sZ f n = sZ g n := by
  unfold sZ
  have key : ∀ m : Nat, (m : Int) ≤ n → sm f m = sm g m := by
    intro m
    induction m with
    | zero => intro _; rfl
    | succ m ih => intro hm; show sm f m + f m = sm g m + g m; rw [ih (by omega), h m (by omega) (by omega)]
  by_cases hn : 0 ≤ n
  · exact key _ (by omega)
  · rw [show n.toNat = 0 by omega]; rfl
theorem sZ_rng {f : Int → Int} {b n : Int} (hn : 0 ≤ n) (h : ∀ k, 0 ≤ k → k < n → 0 ≤ f k ∧ f k ≤ b) : 0 ≤ sZ f n ∧ sZ f n ≤ n * b := by
  have key : ∀ m : Nat, (m : Int) ≤ n → 0 ≤ sm f m ∧ sm f m ≤ (m : Int) * b := by
    intro m
    induction m with
    | zero => intro _; simp [sm]
    | succ m ih =>
      intro hm
      have h1 := ih (by omega)
      have h2 := h m (by omega) (by omega)
      show 0 ≤ sm f m + f m ∧ sm f m + f m ≤ ((m + 1 : Nat) : Int) * b
      rw [show ((m + 1 : Nat) : Int) = (m : Int) + 1 by omega, Int.add_mul, Int.one_mul]
      omega
  have := key n.toNat (by omega)
  rw [Int.toNat_of_nonneg hn] at this
  exact this
theorem sZ_4 (f : Int → Int) : sZ f 4 = f 0 + f 1 + f 2 + f 3 := by
  show (((0 + f 0) + f 1) + f 2) + f 3 = _
  rw [Int.zero_add]
theorem sZ_7 (f : Int → Int) : sZ f 7 = f 0 + f 1 + f 2 + f 3 + f 4 + f 5 + f 6 := by
  show ((((((0 + f 0) + f 1) + f 2) + f 3) + f 4) + f 5) + f 6 = _
  rw [Int.zero_add]
/-- a choice by any statement -/
noncomputable def iC (C : Prop) (a b : Int) : Int := @ite Int C (Classical.propDecidable C) a b
theorem iC_t {C : Prop} {a b : Int} (h : C) : iC C a b = a := by unfold iC; exact if_pos h
theorem iC_f {C : Prop} {a b : Int} (h : ¬ C) : iC C a b = b := by unfold iC; exact if_neg h
theorem iC_or (C : Prop) (a b : Int) : (C ∧ iC C a b = a) ∨ (¬ C ∧ iC C a b = b) := by
  by_cases h : C
  · exact Or.inl ⟨h, iC_t h⟩
  · exact Or.inr ⟨h, iC_f h⟩
def sq (a p : Int) : Int := (17 * a + 3 + p) % 68
theorem sq_rng (a p : Int) : 0 ≤ sq a p ∧ sq a p < 68 := by unfold sq; omega
def wo (m : Int) : Int := if m = 0 then 25 else if m = 1 then 10 else m
theorem wo_rng {m : Int} (h : 0 ≤ m ∧ m ≤ 6) : 2 ≤ wo m ∧ wo m ≤ 25 := by unfold wo; split <;> (try split) <;> omega
def onN (P : Int → Int) (q t k : Int) : Int := if 1 ≤ P k ∧ P k ≤ 64 ∧ k / 4 % 2 = t ∧ sq (k / 4) (P k) = q then 1 else 0
def stand (P : Int → Int) (q t : Int) : Int := sZ (onN P q t) 16
theorem onN_rng (P : Int → Int) (q t k : Int) : 0 ≤ onN P q t k ∧ onN P q t k ≤ 1 := by unfold onN; split <;> omega
theorem stand_rng (P : Int → Int) (q t : Int) : 0 ≤ stand P q t ∧ stand P q t ≤ 16 := by
  have := sZ_rng (f := onN P q t) (b := 1) (n := 16) (by omega) (fun k _ _ => onN_rng P q t k)
  unfold stand; omega
def hmN (P : Int → Int) (a j : Int) : Int := if P (4 * a + j) = 72 then 1 else 0
def hm (P : Int → Int) (a : Int) : Int := sZ (hmN P a) 4
theorem hmN_rng (P : Int → Int) (a j : Int) : 0 ≤ hmN P a j ∧ hmN P a j ≤ 1 := by unfold hmN; split <;> omega
theorem hm_rng (P : Int → Int) (a : Int) : 0 ≤ hm P a ∧ hm P a ≤ 4 := by
  have := sZ_rng (f := hmN P a) (b := 1) (n := 4) (by omega) (fun k _ _ => hmN_rng P a k)
  unfold hm; omega
def mv (P : Int → Int) (a : Int) : Int := if hm P a = 4 then (a + 2) % 4 else a
theorem mv_rng (P : Int → Int) {a : Int} (h : 0 ≤ a ∧ a ≤ 3) : 0 ≤ mv P a ∧ mv P a ≤ 3 := by unfold mv; split <;> omega
def tgt (P : Int → Int) (k m : Int) : Int := if P k = 0 then (if m ≤ 1 ∨ m = 6 then 1 else 0) else if P k + wo m ≤ 72 ∧ P k < 72 then P k + wo m else 0
theorem tgt_rng {P : Int → Int} (hP : ∀ i, 0 ≤ P i ∧ P i ≤ 72) (k : Int) {m : Int} (h : 0 ≤ m ∧ m ≤ 6) : 0 ≤ tgt P k m ∧ tgt P k m ≤ 72 := by
  have h1 := wo_rng h
  have h2 := hP k
  unfold tgt; split
  · split <;> omega
  · split <;> omega
def frW (P : Int → Int) (a s t : Int) : Prop := ∀ k, s < k → k ≤ t → k ≤ 64 → stand P (sq a k) (1 - a % 2) < 2
noncomputable def can (P : Int → Int) (k m : Int) : Int :=
  iC (0 < tgt P k m ∧ frW P (k / 4) (P k) (tgt P k m)) (if 64 < tgt P k m then 1 else if stand P (sq (k / 4) (tgt P k m)) (1 - k / 4 % 2) = 0 then 1 else if sq (k / 4) (tgt P k m) % 17 = 4 ∨ sq (k / 4) (tgt P k m) % 17 = 11 then 0 else 2) 0
theorem can_rng (P : Int → Int) (k m : Int) : 0 ≤ can P k m ∧ can P k m ≤ 2 := by
  unfold can
  rcases iC_or (0 < tgt P k m ∧ frW P (k / 4) (P k) (tgt P k m)) (if 64 < tgt P k m then 1 else if stand P (sq (k / 4) (tgt P k m)) (1 - k / 4 % 2) = 0 then 1 else if sq (k / 4) (tgt P k m) % 17 = 4 ∨ sq (k / 4) (tgt P k m) % 17 = 11 then 0 else 2) 0 with ⟨_, h⟩ | ⟨_, h⟩ <;> rw [h]
  · split
    · omega
    · split
      · omega
      · split <;> omega
  · omega
theorem can_0 {P : Int → Int} {k m : Int} (h : tgt P k m ≤ 0) : can P k m = 0 := by unfold can; rw [iC_f (fun q => by omega)]
theorem can_b {P : Int → Int} {k m : Int} (h : ¬ frW P (k / 4) (P k) (tgt P k m)) : can P k m = 0 := by unfold can; rw [iC_f (fun q => h q.2)]
theorem can_far {P : Int → Int} {k m : Int} (h0 : frW P (k / 4) (P k) (tgt P k m)) (h : 64 < tgt P k m) : can P k m = 1 := by unfold can; rw [iC_t ⟨by omega, h0⟩, if_pos h]
theorem can_free {P : Int → Int} {k m : Int} (h0 : frW P (k / 4) (P k) (tgt P k m)) (h : 0 < tgt P k m) (h1 : stand P (sq (k / 4) (tgt P k m)) (1 - k / 4 % 2) = 0) : can P k m = 1 := by
  unfold can; rw [iC_t ⟨h, h0⟩]
  by_cases h9 : 64 < tgt P k m
  · rw [if_pos h9]
  · rw [if_neg h9, if_pos h1]
theorem can_safe {P : Int → Int} {k m : Int} (h : tgt P k m ≤ 64) (h1 : ¬ stand P (sq (k / 4) (tgt P k m)) (1 - k / 4 % 2) = 0) (h2 : sq (k / 4) (tgt P k m) % 17 = 4 ∨ sq (k / 4) (tgt P k m) % 17 = 11) : can P k m = 0 := by
  unfold can
  rcases iC_or (0 < tgt P k m ∧ frW P (k / 4) (P k) (tgt P k m)) (if 64 < tgt P k m then 1 else if stand P (sq (k / 4) (tgt P k m)) (1 - k / 4 % 2) = 0 then 1 else if sq (k / 4) (tgt P k m) % 17 = 4 ∨ sq (k / 4) (tgt P k m) % 17 = 11 then 0 else 2) 0 with ⟨_, h3⟩ | ⟨_, h3⟩ <;> rw [h3]
  rw [if_neg (by omega), if_neg h1, if_pos h2]
theorem can_cap {P : Int → Int} {k m : Int} (h0 : frW P (k / 4) (P k) (tgt P k m)) (h3 : 0 < tgt P k m) (h : tgt P k m ≤ 64) (h1 : ¬ stand P (sq (k / 4) (tgt P k m)) (1 - k / 4 % 2) = 0) (h2 : ¬ (sq (k / 4) (tgt P k m) % 17 = 4 ∨ sq (k / 4) (tgt P k m) % 17 = 11)) : can P k m = 2 := by
  unfold can; rw [iC_t ⟨h3, h0⟩, if_neg (by omega), if_neg h1, if_neg h2]
/-- what can be read off a piece that can move -/
theorem can_pos {P : Int → Int} {k m : Int} (h : can P k m ≠ 0) : 0 < tgt P k m ∧ frW P (k / 4) (P k) (tgt P k m) := by
  by_cases h1 : 0 < tgt P k m
  · by_cases h2 : frW P (k / 4) (P k) (tgt P k m)
    · exact ⟨h1, h2⟩
    · exact absurd (can_b h2) h
  · exact absurd (can_0 (by omega)) h
def sA (a p : Int) : Int := if 1 ≤ p ∧ p ≤ 64 then sq a p else -1
def stA (P : Int → Int) (q t : Int) : Int := if 0 ≤ q then stand P q t else 0
theorem stA_rng (P : Int → Int) (q t : Int) : 0 ≤ stA P q t ∧ stA P q t ≤ 16 := by
  have := stand_rng P q t
  unfold stA; split <;> omega
noncomputable def tX (P : Int → Int) (k m : Int) : Int := if can P k m = 0 then -1 else tgt P k m
def cnt (P : Int → Int) : Int → Int := fun k => stand P (k % 68) (k / 68)
theorem tgt_y {P : Int → Int} {k m : Int} (h : P k = 0) : tgt P k m = if m ≤ 1 ∨ m = 6 then 1 else 0 := by unfold tgt; rw [if_pos h]
theorem tgt_g {P : Int → Int} {k m : Int} (h : ¬ P k = 0) (h2 : P k + wo m ≤ 72 ∧ P k < 72) : tgt P k m = P k + wo m := by unfold tgt; rw [if_neg h, if_pos h2]
theorem tgt_n {P : Int → Int} {k m : Int} (h : ¬ P k = 0) (h2 : ¬ (P k + wo m ≤ 72 ∧ P k < 72)) : tgt P k m = 0 := by unfold tgt; rw [if_neg h, if_neg h2]
theorem tgt_gt {P : Int → Int} {k m : Int} (hm : 0 ≤ m ∧ m ≤ 6) (h : 0 < tgt P k m) : P k < tgt P k m := by
  have h1 := wo_rng hm
  by_cases h2 : P k = 0
  · omega
  · by_cases h3 : P k + wo m ≤ 72 ∧ P k < 72
    · rw [tgt_g h2 h3]; omega
    · rw [tgt_n h2 h3] at h; omega
/-- with a step into a capture: can = 2 just there -/
theorem can_two {P : Int → Int} {k m : Int} (hm : 0 ≤ m ∧ m ≤ 6) (h : can P k m ≠ 0) : can P k m = 2 ↔ stA P (sA (k / 4) (tgt P k m)) (1 - k / 4 % 2) = 1 := by
  obtain ⟨h1, h2⟩ := can_pos h
  by_cases h3 : 64 < tgt P k m
  · rw [can_far h2 h3]
    have e : sA (k / 4) (tgt P k m) = -1 := by unfold sA; rw [if_neg (by omega)]
    rw [e]
    unfold stA
    rw [if_neg (by omega)]
    omega
  · have e : sA (k / 4) (tgt P k m) = sq (k / 4) (tgt P k m) := by unfold sA; rw [if_pos (by omega)]
    have h4 := sq_rng (k / 4) (tgt P k m)
    have e2 : ∀ t, stA P (sq (k / 4) (tgt P k m)) t = stand P (sq (k / 4) (tgt P k m)) t := fun t => by unfold stA; rw [if_pos h4.1]
    rw [e, e2]
    have hpk := tgt_gt hm h1
    have h5 := h2 (tgt P k m) hpk (Int.le_refl _) (by omega)
    by_cases h6 : stand P (sq (k / 4) (tgt P k m)) (1 - k / 4 % 2) = 0
    · rw [can_free h2 h1 h6]; omega
    · have h7 := (stand_rng P (sq (k / 4) (tgt P k m)) (1 - k / 4 % 2)).1
      by_cases h8 : sq (k / 4) (tgt P k m) % 17 = 4 ∨ sq (k / 4) (tgt P k m) % 17 = 11
      · exact absurd (can_safe (by omega) h6 h8) h
      · rw [can_cap h2 h1 (by omega) h6 h8]; omega
theorem tX_rng {P : Int → Int} (hP : ∀ i, 0 ≤ P i ∧ P i ≤ 72) (k : Int) {m : Int} (h : 0 ≤ m ∧ m ≤ 6) : -1 ≤ tX P k m ∧ tX P k m ≤ 72 := by
  have := tgt_rng hP k h
  unfold tX; split <;> omega
theorem tX_can {P : Int → Int} {k m : Int} (h : tX P k m ≠ -1) : can P k m ≠ 0 ∧ tX P k m = tgt P k m := by
  unfold tX at h ⊢
  by_cases h1 : can P k m = 0
  · rw [if_pos h1] at h; exact absurd rfl h
  · rw [if_neg h1]; exact ⟨h1, rfl⟩
theorem tX_no {P : Int → Int} (hP : ∀ i, 0 ≤ P i ∧ P i ≤ 72) {k m : Int} (hm : 0 ≤ m ∧ m ≤ 6) (h : tX P k m = -1) : can P k m = 0 := by
  have := tgt_rng hP k hm
  unfold tX at h
  by_cases h1 : can P k m = 0
  · exact h1
  · rw [if_neg h1] at h; omega
theorem cnt_at (P : Int → Int) {q t : Int} (hq : 0 ≤ q ∧ q < 68) : cnt P (t * 68 + q) = stand P q t := by
  unfold cnt; rw [show (t * 68 + q) % 68 = q by omega, show (t * 68 + q) / 68 = t by omega]
def p2 (j : Int) : Int := if j = 0 then 1 else if j = 1 then 2 else if j = 2 then 4 else if j = 3 then 8 else 16
theorem p2_s {j : Int} (h : 0 ≤ j ∧ j ≤ 3) : p2 (j + 1) = p2 j + p2 j ∧ 1 ≤ p2 j ∧ p2 j ≤ 8 := by
  have : j = 0 ∨ j = 1 ∨ j = 2 ∨ j = 3 := by omega
  rcases this with rfl | rfl | rfl | rfl <;> decide
theorem bit_shl {j : Int} (h : 0 ≤ j ∧ j ≤ 3) : iI 1 <<< (iI j &&& 31) = iI (p2 j) := by
  have : j = 0 ∨ j = 1 ∨ j = 2 ∨ j = 3 := by omega
  rcases this with rfl | rfl | rfl | rfl <;> decide
theorem bit_or {s j : Int} (hj : 0 ≤ j ∧ j ≤ 3) (hs : 0 ≤ s ∧ s < p2 j) : iI s ||| iI (p2 j) = iI (s + p2 j) := by
  have : j = 0 ∨ j = 1 ∨ j = 2 ∨ j = 3 := by omega
  rcases this with rfl | rfl | rfl | rfl
  · have : s = 0 := by have : p2 0 = 1 := rfl; omega
    subst this; decide
  · have : s = 0 ∨ s = 1 := by have : p2 1 = 2 := rfl; omega
    rcases this with rfl | rfl <;> decide
  · have : s = 0 ∨ s = 1 ∨ s = 2 ∨ s = 3 := by have : p2 2 = 4 := rfl; omega
    rcases this with rfl | rfl | rfl | rfl <;> decide
  · have : s = 0 ∨ s = 1 ∨ s = 2 ∨ s = 3 ∨ s = 4 ∨ s = 5 ∨ s = 6 ∨ s = 7 := by have : p2 3 = 8 := rfl; omega
    rcases this with rfl | rfl | rfl | rfl | rfl | rfl | rfl | rfl <;> decide
noncomputable def msN (P : Int → Int) (a m j : Int) : Int := if can P (4 * a + j) m = 0 then 0 else p2 j
noncomputable def ms (P : Int → Int) (a m : Int) : Int := sZ (msN P a m) 4
/-- piece j of player a does it by a throw: w is 0 move, 1 capture, 2 bring home, 3 enter -/
def dzA (P : Int → Int) (a m w j : Int) : Prop := can P (4 * a + j) m ≠ 0 ∧ (w = 0 ∨ w = 1 ∧ can P (4 * a + j) m = 2 ∨ w = 2 ∧ tgt P (4 * a + j) m = 72 ∨ w = 3 ∧ P (4 * a + j) = 0)
def dzP (P : Int → Int) (a m w : Int) : Prop := ∃ j, 0 ≤ j ∧ j < 4 ∧ dzA P a m w j
theorem dzA_no {P : Int → Int} (hP : ∀ i, 0 ≤ P i ∧ P i ≤ 72) {a m w j : Int} (hm : 0 ≤ m ∧ m ≤ 6) (h : tX P (4 * a + j) m = -1) : ¬ dzA P a m w j := fun q => q.1 (tX_no hP hm h)
theorem dzA_iff {P : Int → Int} (hP : ∀ i, 0 ≤ P i ∧ P i ≤ 72) {a m w j : Int} (hj : 0 ≤ j ∧ j < 4) (hm : 0 ≤ m ∧ m ≤ 6) (h : tX P (4 * a + j) m ≠ -1) :
    dzA P a m w j ↔ (w = 0 ∨ w = 1 ∧ stA P (sA a (tX P (4 * a + j) m)) (1 - a % 2) = 1 ∨ w = 2 ∧ tX P (4 * a + j) m = 72 ∨ w = 3 ∧ tX P (4 * a + j) m = 1) := by
  obtain ⟨h1, h2⟩ := tX_can h
  have h3 := can_two hm h1
  rw [show (4 * a + j) / 4 = a by omega] at h3
  rw [h2]
  have h4 := (can_pos h1).1
  have h5 : tgt P (4 * a + j) m = 1 ↔ P (4 * a + j) = 0 := by
    have h6 := wo_rng hm
    have h7 := hP (4 * a + j)
    have h8 := tgt_gt hm h4
    constructor
    · intro q; omega
    · intro q
      rw [tgt_y q] at h4 ⊢
      by_cases h9 : m ≤ 1 ∨ m = 6
      · rw [if_pos h9]
      · rw [if_neg h9] at h4; omega
  unfold dzA
  rw [h3, h5]
  constructor
  · exact fun q => q.2
  · exact fun q => ⟨h1, q⟩
/-- piece j of player a captures on the square q -/
def cpA (P : Int → Int) (q a m j : Int) : Prop := can P (4 * a + j) m = 2 ∧ sq a (tgt P (4 * a + j) m) = q
def cpP (P : Int → Int) (q a m : Int) : Prop := ∃ j, 0 ≤ j ∧ j < 4 ∧ cpA P q a m j
theorem cpA_no {P : Int → Int} (hP : ∀ i, 0 ≤ P i ∧ P i ≤ 72) {q a m j : Int} (hm : 0 ≤ m ∧ m ≤ 6) (h : tX P (4 * a + j) m = -1) : ¬ cpA P q a m j := fun z => by have := tX_no hP hm h; unfold cpA at z; omega
theorem stA_on {P : Int → Int} {a p t : Int} (h : stA P (sA a p) t = 1) : sA a p = sq a p ∧ 1 ≤ p ∧ p ≤ 64 := by
  unfold sA at h ⊢
  by_cases h1 : 1 ≤ p ∧ p ≤ 64
  · rw [if_pos h1]; exact ⟨rfl, h1⟩
  · rw [if_neg h1] at h; unfold stA at h; rw [if_neg (by omega)] at h; omega
theorem cpA_iff {P : Int → Int} {q a m j : Int} (hj : 0 ≤ j ∧ j < 4) (hm : 0 ≤ m ∧ m ≤ 6) (h : tX P (4 * a + j) m ≠ -1) :
    cpA P q a m j ↔ (stA P (sA a (tX P (4 * a + j) m)) (1 - a % 2) = 1 ∧ sA a (tX P (4 * a + j) m) = q) := by
  obtain ⟨h1, h2⟩ := tX_can h
  have h3 := can_two hm h1
  rw [show (4 * a + j) / 4 = a by omega] at h3
  rw [h2]
  unfold cpA
  rw [h3]
  constructor
  · rintro ⟨q1, q2⟩; exact ⟨q1, by rw [(stA_on q1).1]; exact q2⟩
  · rintro ⟨q1, q2⟩; exact ⟨q1, by rw [← (stA_on q1).1]; exact q2⟩
theorem cnt_rng (P : Int → Int) (i : Int) : 0 ≤ cnt P i ∧ cnt P i ≤ 16 := stand_rng P _ _
theorem tX_0 {P : Int → Int} {k m : Int} (h : can P k m = 0) : tX P k m = -1 := by unfold tX; rw [if_pos h]
theorem tX_1 {P : Int → Int} {k m : Int} (h : can P k m ≠ 0) : tX P k m = tgt P k m := by unfold tX; rw [if_neg h]
theorem tX_a {P : Int → Int} {k m : Int} (h : P k = 72 ∨ P k = 0 ∧ ¬ (m ≤ 1 ∨ m = 6)) : tX P k m = -1 := by
  apply tX_0; apply can_0
  rcases h with h | ⟨h, h2⟩
  · rw [tgt_n (by omega) (by omega)]; omega
  · rw [tgt_y h, if_neg h2]; omega
theorem tgt_is {P : Int → Int} {k m t : Int} (h : P k = 0 ∧ (m ≤ 1 ∨ m = 6) ∧ t = 1 ∨ P k ≠ 0 ∧ P k < 72 ∧ t = P k + wo m) (h2 : t ≤ 72) : tgt P k m = t := by
  rcases h with ⟨h, h3, h4⟩ | ⟨h, h3, h4⟩
  · rw [tgt_y h, if_pos h3]; exact h4.symm
  · rw [tgt_g h (by omega)]; exact h4.symm
theorem tX_b {P : Int → Int} {k m t : Int} (h : P k ≠ 0 ∧ P k < 72 ∧ t = P k + wo m) (h2 : 72 < t) : tX P k m = -1 := by
  apply tX_0; apply can_0; rw [tgt_n h.1 (by omega)]; omega
theorem tX_d {P : Int → Int} {k m t a : Int} (ht : tgt P k m = t) (ha : k / 4 = a) (h : ¬ frW P a (P k) t) : tX P k m = -1 := by
  apply tX_0; apply can_b; rw [ht, ha]; exact h
theorem tX_e {P : Int → Int} {k m t a : Int} (ht : tgt P k m = t) (ha : k / 4 = a) (h : stA P (sA a t) (1 - a % 2) = 1) (h2 : sA a t % 17 = 4 ∨ sA a t % 17 = 11) : tX P k m = -1 := by
  apply tX_0
  obtain ⟨e1, e2⟩ := stA_on h
  rw [e1] at h h2
  unfold stA at h
  rw [if_pos (sq_rng a t).1] at h
  exact can_safe (by omega) (by rw [ht, ha]; omega) (by rw [ht, ha]; exact h2)
theorem tX_f {P : Int → Int} {k m t a : Int} (ht : tgt P k m = t) (ha : k / 4 = a) (hm : 0 ≤ m ∧ m ≤ 6) (h0 : 0 < t) (hf : frW P a (P k) t) (h : ¬ stA P (sA a t) (1 - a % 2) = 1 ∨ ¬ (sA a t % 17 = 4 ∨ sA a t % 17 = 11)) : tX P k m = t := by
  have hc : can P k m ≠ 0 := by
    by_cases h3 : 64 < t
    · rw [can_far (by rw [ht, ha]; exact hf) (by rw [ht]; exact h3)]; omega
    · have e1 : sA a t = sq a t := by unfold sA; rw [if_pos (by omega)]
      have h4 := tgt_gt hm (by rw [ht]; exact h0)
      rw [ht] at h4
      have h5 := hf t h4 (Int.le_refl _) (by omega)
      have h6 := stand_rng P (sq a t) (1 - a % 2)
      rw [e1] at h
      have e2 : stA P (sq a t) (1 - a % 2) = stand P (sq a t) (1 - a % 2) := by unfold stA; rw [if_pos (sq_rng a t).1]
      rw [e2] at h
      by_cases h7 : stand P (sq a t) (1 - a % 2) = 0
      · rw [can_free (by rw [ht, ha]; exact hf) (by rw [ht]; exact h0) (by rw [ht, ha]; exact h7)]; omega
      · rw [can_cap (by rw [ht, ha]; exact hf) (by rw [ht]; exact h0) (by rw [ht]; omega) (by rw [ht, ha]; exact h7) (by rw [ht, ha]; rcases h with h | h <;> first | exact absurd (by omega) h | exact h)]; omega
  rw [tX_1 hc, ht]
theorem bit_or0 (n : Int) : iI n ||| iI 0 = iI n := by
  show iI n ||| 0 = iI n
  exact Int32.or_zero
theorem bit_or1 {n : Int} (h : n = 0 ∨ n = 1) : iI n ||| iI 1 = iI 1 := by rcases h with rfl | rfl <;> decide
theorem bit_and1 {n : Int} (h : n = 0 ∨ n = 1) : iI n &&& iI 1 = iI n := by rcases h with rfl | rfl <;> decide
theorem bit_and0 (n : Int) : iI n &&& iI 0 = iI 0 := by
  show iI n &&& 0 = 0
  exact Int32.and_zero
theorem uI_rng {P : Int → Int} (h : ∀ i, 0 ≤ P i ∧ P i ≤ 72) {k v : Int} (hv : 0 ≤ v ∧ v ≤ 72) : ∀ i, 0 ≤ uI P k v i ∧ uI P k v i ≤ 72 := by
  intro i; unfold uI; split
  · exact hv
  · exact h i
theorem uI_back (P : Int → Int) (k v : Int) : uI (uI P k v) k (P k) = P := by
  funext i; unfold uI; split
  · rename_i h; rw [h]
  · rfl
theorem uI_at (P : Int → Int) (k v : Int) : uI P k v k = v := by unfold uI; rw [if_pos rfl]
/-- the counts behind a change -/
def adF (F : Int → Int) (q t n : Int) : Int → Int := if 0 ≤ q then uI F (t * 68 + q) (F (t * 68 + q) + n) else F
theorem sZ_upd {f g : Int → Int} {n k : Int} (hk : 0 ≤ k ∧ k < n) (h : ∀ i, i ≠ k → g i = f i) : sZ g n = sZ f n - f k + g k := by
  have key : ∀ m : Nat, sm g m = if k < (m : Int) then sm f m - f k + g k else sm f m := by
    intro m
    induction m with
    | zero => rw [if_neg (by omega)]; rfl
    | succ m ih =>
      show sm g m + g m = if k < ((m + 1 : Nat) : Int) then sm f m + f m - f k + g k else sm f m + f m
      rw [ih]
      by_cases h1 : k < (m : Int)
      · rw [if_pos h1, if_pos (by omega), h m (by omega)]; omega
      · by_cases h2 : (m : Int) = k
        · rw [if_neg h1, if_pos (by omega), h2]; omega
        · rw [if_neg h1, if_neg (by omega), h m h2]
  unfold sZ
  rw [key n.toNat, if_pos (by omega)]
theorem onN_is {P : Int → Int} {q t k a : Int} (ha : k / 4 = a) : onN P q t k = if 0 ≤ sA a (P k) ∧ sA a (P k) = q ∧ a % 2 = t then 1 else 0 := by
  unfold onN sA
  rw [ha]
  by_cases h : 1 ≤ P k ∧ P k ≤ 64
  · have := sq_rng a (P k)
    rw [if_pos h]
    by_cases h2 : a % 2 = t ∧ sq a (P k) = q
    · rw [if_pos ⟨h.1, h.2, h2⟩, if_pos ⟨by omega, h2.2, h2.1⟩]
    · rw [if_neg (fun z => h2 z.2.2), if_neg (fun z => h2 ⟨z.2.2, z.2.1⟩)]
  · rw [if_neg h, if_neg (fun z => h ⟨z.1, z.2.1⟩), if_neg (by omega)]
theorem cnt_place {P : Int → Int} {k a v : Int} (hk : 0 ≤ k ∧ k < 16) (ha : k / 4 = a) : adF (adF (cnt P) (sA a (P k)) (a % 2) (-1)) (sA a v) (a % 2) 1 = cnt (uI P k v) := by
  funext i
  have h1 : cnt (uI P k v) i = cnt P i - onN P (i % 68) (i / 68) k + onN (uI P k v) (i % 68) (i / 68) k := by
    unfold cnt stand
    refine sZ_upd hk (fun j hj => ?_)
    unfold onN uI
    rw [if_neg hj]
  rw [h1, onN_is ha, onN_is (P := uI P k v) ha, uI_at]
  have e1 : -1 ≤ sA a (P k) ∧ sA a (P k) < 68 := by have := sq_rng a (P k); unfold sA; split <;> omega
  have e2 : -1 ≤ sA a v ∧ sA a v < 68 := by have := sq_rng a v; unfold sA; split <;> omega
  generalize sA a (P k) = x at e1 ⊢
  generalize sA a v = y at e2 ⊢
  generalize cnt P = F
  have e3 : 0 ≤ a % 2 ∧ a % 2 ≤ 1 := by omega
  generalize a % 2 = t at e3 ⊢
  have c1 : ∀ w : Int, 0 ≤ w → w < 68 → ((i = t * 68 + w) ↔ (w = i % 68 ∧ t = i / 68)) := by intro w h2 h3; omega
  have a1 : ∀ (G : Int → Int) (w n : Int), -1 ≤ w ∧ w < 68 → adF G w t n i = G i + (if 0 ≤ w ∧ w = i % 68 ∧ t = i / 68 then n else 0) := by
    intro G w n hw
    unfold adF
    by_cases h2 : 0 ≤ w
    · rw [if_pos h2]
      unfold uI
      by_cases h3 : i = t * 68 + w
      · rw [if_pos h3, if_pos ⟨h2, (c1 w h2 hw.2).mp h3⟩, h3]
      · rw [if_neg h3, if_neg (fun z => h3 ((c1 w h2 hw.2).mpr z.2))]; omega
    · rw [if_neg h2, if_neg (fun z => h2 z.1)]; omega
  rw [a1 _ y 1 e2, a1 F x (-1) e1]
  by_cases h2 : 0 ≤ x ∧ x = i % 68 ∧ t = i / 68
  · rw [if_pos h2, if_pos h2]; split <;> omega
  · rw [if_neg h2, if_neg h2]; split <;> omega
/-- the pieces of a team on a square go to their yards, of the first n -/
def syP (P : Int → Int) (q t n : Int) : Int → Int := fun i => if i < n ∧ i < 16 ∧ 0 ≤ i ∧ 1 ≤ P i ∧ P i ≤ 64 ∧ i / 4 % 2 = t ∧ sq (i / 4) (P i) = q then 0 else P i
theorem syP_rng {P : Int → Int} (h : ∀ i, 0 ≤ P i ∧ P i ≤ 72) {q t n : Int} : ∀ i, 0 ≤ syP P q t n i ∧ syP P q t n i ≤ 72 := by
  intro i; unfold syP; split
  · omega
  · exact h i
theorem syP_0 (P : Int → Int) (q t n : Int) (h : n ≤ 4 * t) (ht : 0 ≤ t ∧ t ≤ 1) : syP P q t n = P := by
  funext i; unfold syP; rw [if_neg (by omega)]
theorem syP_at {P : Int → Int} {q t n : Int} : syP P q t n n = P n := by unfold syP; rw [if_neg (by omega)]
theorem syP_yes {P : Int → Int} {q t n : Int} (h : 0 ≤ n ∧ n < 16) (h2 : 1 ≤ P n ∧ P n ≤ 64 ∧ n / 4 % 2 = t ∧ sq (n / 4) (P n) = q) : uI (syP P q t n) n 0 = syP P q t (n + 1) := by
  funext i; unfold uI
  by_cases e : i = n
  · subst e; rw [if_pos rfl]; unfold syP; rw [if_pos ⟨by omega, h.2, h.1, h2⟩]
  · rw [if_neg e]; unfold syP
    by_cases h3 : i < n
    · have h4 : i < n + 1 := by omega
      simp only [h3, h4, true_and]
    · rw [if_neg (fun z => h3 z.1), if_neg (fun z => by omega)]
theorem syP_not {P : Int → Int} {q t n : Int} (h2 : ¬ (1 ≤ P n ∧ P n ≤ 64 ∧ n / 4 % 2 = t ∧ sq (n / 4) (P n) = q)) : syP P q t n = syP P q t (n + 1) := by
  funext i; unfold syP
  by_cases e : i = n
  · subst e; rw [if_neg (by omega), if_neg (fun z => h2 z.2.2.2)]
  · by_cases h3 : i < n
    · have h4 : i < n + 1 := by omega
      simp only [h3, h4, true_and]
    · rw [if_neg (fun z => h3 z.1), if_neg (fun z => by omega)]
theorem syP_jump {P : Int → Int} {q t n m : Int} (h : ∀ i, n ≤ i → i < m → 0 ≤ i → i < 16 → i / 4 % 2 ≠ t) (hnm : n ≤ m) : syP P q t n = syP P q t m := by
  funext i; unfold syP
  by_cases h3 : i < n
  · have h4 : i < m := by omega
    simp only [h3, h4, true_and]
  · rw [if_neg (fun z => h3 z.1)]
    by_cases h4 : i < m
    · rw [if_neg (fun z => h i (by omega) h4 z.2.2.1 z.2.1 z.2.2.2.2.2.1)]
    · rw [if_neg (fun z => h4 z.1)]
