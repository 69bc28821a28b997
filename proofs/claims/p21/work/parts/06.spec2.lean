/-! the chances -/
def mxN (f : Int → Int) : Nat → Int
  | 0 => 0
  | n + 1 => if mxN f n < f n then f n else mxN f n
def mxZ (f : Int → Int) (k : Int) : Int := mxN f k.toNat
theorem mxZ_s (f : Int → Int) {k : Int} (h : 0 ≤ k) : mxZ f (k + 1) = if mxZ f k < f k then f k else mxZ f k := by
  unfold mxZ
  rw [show (k + 1).toNat = k.toNat + 1 by omega]
  show (if mxN f k.toNat < f (k.toNat : Int) then f (k.toNat : Int) else mxN f k.toNat) = _
  rw [Int.toNat_of_nonneg h]
theorem mxZ_rng {f : Int → Int} {b n : Int} (hb : 0 ≤ b) (h : ∀ k, 0 ≤ k → k < n → f k ≤ b) : 0 ≤ mxZ f n ∧ mxZ f n ≤ b := by
  have key : ∀ m : Nat, (m : Int) ≤ n → 0 ≤ mxN f m ∧ mxN f m ≤ b := by
    intro m
    induction m with
    | zero => intro _; exact ⟨Int.le_refl 0, hb⟩
    | succ m ih =>
      intro hm
      have h1 := ih (by omega)
      have h2 := h m (by omega) (by omega)
      show 0 ≤ (if mxN f m < f m then f m else mxN f m) ∧ (if mxN f m < f m then f m else mxN f m) ≤ b
      split <;> omega
  unfold mxZ
  by_cases hn : 0 ≤ n
  · exact key _ (by omega)
  · rw [show n.toNat = 0 by omega]; exact ⟨Int.le_refl 0, hb⟩
/-- behind a grace that doesn't capture: what R leaves by the best move, of the first k pieces -/
noncomputable def chF (R : (Int → Int) → Int) (P : Int → Int) (a m : Int) : Int → Int := fun j => iC (can P (4 * a + j) m ≠ 0) (R (uI P (4 * a + j) (tgt P (4 * a + j) m))) 0
noncomputable def chGn (R : (Int → Int) → Int) (P : Int → Int) (a m k : Int) : Int := iC (ms P a m = 0) (R P) (mxZ (chF R P a m) k)
noncomputable def chA (tu g : Int) (n : Nat) (R : Int → (Int → Int) → Int) (P : Int → Int) (m : Int) : Int :=
  iC ((m ≤ 1 ∨ m = 6) ∧ 2 ≤ g) 0 (iC (dzP P (mv P tu) m 1) ((64 : Int) ^ n) (iC (¬ (m ≤ 1 ∨ m = 6) ∨ n = 0) 0 (chGn (R (g + 1)) P (mv P tu) m 4)))
noncomputable def ch (tu : Int) : Nat → Int → (Int → Int) → Int
  | 0 => fun _ _ => 0
  | n + 1 => fun g P => sZ (fun m => wyI m * chA tu g n (ch tu n) P m) 7
theorem ch_s (tu g : Int) (n : Nat) (P : Int → Int) : ch tu (n + 1) g P = sZ (fun m => wyI m * chA tu g n (ch tu n) P m) 7 := rfl
theorem chA_lost {tu g m : Int} {n : Nat} {R : Int → (Int → Int) → Int} {P : Int → Int} (h : (m ≤ 1 ∨ m = 6) ∧ 2 ≤ g) : chA tu g n R P m = 0 := by unfold chA; rw [iC_t h]
theorem chA_cap {tu g m : Int} {n : Nat} {R : Int → (Int → Int) → Int} {P : Int → Int} (h : ¬ ((m ≤ 1 ∨ m = 6) ∧ 2 ≤ g)) (h2 : dzP P (mv P tu) m 1) : chA tu g n R P m = 64 ^ n := by unfold chA; rw [iC_f h, iC_t h2]
theorem chA_end {tu g m : Int} {n : Nat} {R : Int → (Int → Int) → Int} {P : Int → Int} (h2 : ¬ dzP P (mv P tu) m 1) (h3 : ¬ (m ≤ 1 ∨ m = 6) ∨ n = 0) : chA tu g n R P m = 0 := by
  unfold chA
  by_cases h : (m ≤ 1 ∨ m = 6) ∧ 2 ≤ g
  · rw [iC_t h]
  · rw [iC_f h, iC_f h2, iC_t h3]
theorem chA_go {tu g m : Int} {n : Nat} {R : Int → (Int → Int) → Int} {P : Int → Int} (h : ¬ ((m ≤ 1 ∨ m = 6) ∧ 2 ≤ g)) (h2 : ¬ dzP P (mv P tu) m 1) (h3 : ¬ (¬ (m ≤ 1 ∨ m = 6) ∨ n = 0)) : chA tu g n R P m = chGn (R (g + 1)) P (mv P tu) m 4 := by unfold chA; rw [iC_f h, iC_f h2, iC_f h3]
theorem chGn_rng {R : (Int → Int) → Int} {P : Int → Int} {a m k b : Int} (hb : 0 ≤ b) (h : ∀ P, 0 ≤ R P ∧ R P ≤ b) : 0 ≤ chGn R P a m k ∧ chGn R P a m k ≤ b := by
  unfold chGn
  rcases iC_or (ms P a m = 0) (R P) (mxZ (chF R P a m) k) with ⟨_, e⟩ | ⟨_, e⟩ <;> rw [e]
  · exact h P
  · refine mxZ_rng hb (fun j _ _ => ?_)
    unfold chF
    rcases iC_or (can P (4 * a + j) m ≠ 0) (R (uI P (4 * a + j) (tgt P (4 * a + j) m))) 0 with ⟨_, e⟩ | ⟨_, e⟩ <;> rw [e]
    · exact (h _).2
    · exact hb
theorem pw_pos (n : Nat) : (1 : Int) ≤ 64 ^ n := by
  induction n with
  | zero => decide
  | succ n ih => rw [Int.pow_succ]; omega
theorem chA_rng {tu g m : Int} {n : Nat} {R : Int → (Int → Int) → Int} {P : Int → Int} (h : ∀ g P, 0 ≤ R g P ∧ R g P ≤ 64 ^ n) : 0 ≤ chA tu g n R P m ∧ chA tu g n R P m ≤ 64 ^ n := by
  have h1 := pw_pos n
  by_cases c1 : (m ≤ 1 ∨ m = 6) ∧ 2 ≤ g
  · rw [chA_lost c1]; omega
  · by_cases c2 : dzP P (mv P tu) m 1
    · rw [chA_cap c1 c2]; omega
    · by_cases c3 : ¬ (m ≤ 1 ∨ m = 6) ∨ n = 0
      · rw [chA_end c2 c3]; omega
      · rw [chA_go c1 c2 c3]; exact chGn_rng (by omega) (h (g + 1))
theorem ch_rng (tu : Int) (n : Nat) : ∀ (g : Int) (P : Int → Int), 0 ≤ ch tu n g P ∧ ch tu n g P ≤ 64 ^ n := by
  induction n with
  | zero => intro g P; show 0 ≤ (0 : Int) ∧ (0 : Int) ≤ 64 ^ 0; decide
  | succ n ih =>
    intro g P
    rw [ch_s, sZ_7, Int.pow_succ]
    have h : ∀ m, 0 ≤ chA tu g n (ch tu n) P m ∧ chA tu g n (ch tu n) P m ≤ 64 ^ n := fun m => chA_rng ih
    have w0 : wyI 0 = 1 := rfl
    have w1 : wyI 1 = 6 := rfl
    have w2 : wyI 2 = 15 := rfl
    have w3 : wyI 3 = 20 := rfl
    have w4 : wyI 4 = 15 := rfl
    have w5 : wyI 5 = 6 := rfl
    have w6 : wyI 6 = 1 := rfl
    have a0 := h 0
    have a1 := h 1
    have a2 := h 2
    have a3 := h 3
    have a4 := h 4
    have a5 := h 5
    have a6 := h 6
    rw [w0, w1, w2, w3, w4, w5, w6]
    omega
theorem ch_rng1 (tu g : Int) (P : Int → Int) : 0 ≤ ch tu 1 g P ∧ ch tu 1 g P ≤ 64 := ch_rng tu 1 g P
theorem ch_rng2 (tu g : Int) (P : Int → Int) : 0 ≤ ch tu 2 g P ∧ ch tu 2 g P ≤ 4096 := ch_rng tu 2 g P
theorem ch_rng3 (tu g : Int) (P : Int → Int) : 0 ≤ ch tu 3 g P ∧ ch tu 3 g P ≤ 262144 := ch_rng tu 3 g P
theorem msN_rng (P : Int → Int) (a m : Int) {j : Int} (h : 0 ≤ j ∧ j < 4) : 0 ≤ msN P a m j ∧ (msN P a m j = 0 ↔ can P (4 * a + j) m = 0) := by
  have := p2_s (j := j) (by omega)
  unfold msN
  by_cases c : can P (4 * a + j) m = 0
  · rw [if_pos c]; omega
  · rw [if_neg c]; omega
theorem ms_0 {P : Int → Int} {a m : Int} : ms P a m = 0 ↔ ∀ j, 0 ≤ j → j < 4 → can P (4 * a + j) m = 0 := by
  have m0 := msN_rng P a m (j := 0) (by omega)
  have m1 := msN_rng P a m (j := 1) (by omega)
  have m2 := msN_rng P a m (j := 2) (by omega)
  have m3 := msN_rng P a m (j := 3) (by omega)
  unfold ms
  rw [sZ_4]
  constructor
  · intro h j h1 h2
    have : j = 0 ∨ j = 1 ∨ j = 2 ∨ j = 3 := by omega
    rcases this with rfl | rfl | rfl | rfl
    · exact m0.2.mp (by omega)
    · exact m1.2.mp (by omega)
    · exact m2.2.mp (by omega)
    · exact m3.2.mp (by omega)
  · intro h
    have e0 := m0.2.mpr (h 0 (by omega) (by omega))
    have e1 := m1.2.mpr (h 1 (by omega) (by omega))
    have e2 := m2.2.mpr (h 2 (by omega) (by omega))
    have e3 := m3.2.mpr (h 3 (by omega) (by omega))
    omega
theorem chGn_z {R : (Int → Int) → Int} {P : Int → Int} {a m k : Int} (h : ms P a m = 0) : chGn R P a m k = R P := by unfold chGn; rw [iC_t h]
theorem chGn_0 {R : (Int → Int) → Int} {P : Int → Int} {a m : Int} (h : ¬ ms P a m = 0) : chGn R P a m 0 = 0 := by unfold chGn; rw [iC_f h]; rfl
theorem chGn_no {R : (Int → Int) → Int} {P : Int → Int} {a m j : Int} (hj : 0 ≤ j) (h : can P (4 * a + j) m = 0) : chGn R P a m (j + 1) = chGn R P a m j := by
  unfold chGn
  rcases iC_or (ms P a m = 0) (R P) (mxZ (chF R P a m) (j + 1)) with ⟨c, e⟩ | ⟨c, e⟩ <;> rw [e]
  · rw [iC_t c]
  · have e2 : chF R P a m j = 0 := by unfold chF; rw [iC_f (fun z => z h)]
    have e3 : 0 ≤ mxZ (chF R P a m) j := by
      unfold mxZ
      generalize j.toNat = n
      induction n with
      | zero => exact Int.le_refl 0
      | succ n ih => show 0 ≤ (if mxN (chF R P a m) n < chF R P a m n then chF R P a m n else mxN (chF R P a m) n); split <;> omega
    rw [iC_f c, mxZ_s _ hj, e2, if_neg (by omega)]
theorem chGn_yes {R : (Int → Int) → Int} {P : Int → Int} {a m j : Int} (hj : 0 ≤ j ∧ j < 4) (h : can P (4 * a + j) m ≠ 0) : chGn R P a m (j + 1) = if chGn R P a m j < R (uI P (4 * a + j) (tgt P (4 * a + j) m)) then R (uI P (4 * a + j) (tgt P (4 * a + j) m)) else chGn R P a m j := by
  have c : ¬ ms P a m = 0 := fun z => h (ms_0.mp z j hj.1 hj.2)
  unfold chGn
  rw [iC_f c, iC_f c, mxZ_s _ hj.1]
  have e : chF R P a m j = R (uI P (4 * a + j) (tgt P (4 * a + j) m)) := by unfold chF; rw [iC_t h]
  rw [e]
/-- all eight home -/
def won (P : Int → Int) (tu : Int) : Prop := hm P tu = 4 ∧ hm P ((tu + 2) % 4) = 4
theorem won_team {P : Int → Int} {tu : Int} (h : 0 ≤ tu ∧ tu ≤ 3) : won P tu ↔ (hm P (tu % 2) = 4 ∧ hm P (tu % 2 + 2) = 4) := by
  have : tu = 0 ∨ tu = 1 ∨ tu = 2 ∨ tu = 3 := by omega
  unfold won
  rcases this with rfl | rfl | rfl | rfl
  · exact Iff.rfl
  · exact Iff.rfl
  · exact And.comm
  · exact And.comm
theorem hm_4 {P : Int → Int} {a : Int} : hm P a = 4 ↔ ∀ j, 0 ≤ j → j < 4 → P (4 * a + j) = 72 := by
  have m0 := hmN_rng P a 0
  have m1 := hmN_rng P a 1
  have m2 := hmN_rng P a 2
  have m3 := hmN_rng P a 3
  have key : ∀ j, hmN P a j = 1 ↔ P (4 * a + j) = 72 := by
    intro j; unfold hmN
    by_cases c : P (4 * a + j) = 72
    · rw [if_pos c]; omega
    · rw [if_neg c]; omega
  unfold hm
  rw [sZ_4]
  constructor
  · intro h j h1 h2
    have : j = 0 ∨ j = 1 ∨ j = 2 ∨ j = 3 := by omega
    rcases this with rfl | rfl | rfl | rfl <;> exact (key _).mp (by omega)
  · intro h
    have e0 := (key 0).mpr (h 0 (by omega) (by omega))
    have e1 := (key 1).mpr (h 1 (by omega) (by omega))
    have e2 := (key 2).mpr (h 2 (by omega) (by omega))
    have e3 := (key 3).mpr (h 3 (by omega) (by omega))
    omega
theorem can_home {P : Int → Int} {k m : Int} (h : P k = 72) : can P k m = 0 := can_0 (by rw [tgt_n (by omega) (by omega)]; omega)
theorem ch_won {P : Int → Int} {tu : Int} (hw : won P tu) : ∀ (n : Nat) (g : Int), ch tu n g P = 0 := by
  have hmv : mv P tu = (tu + 2) % 4 := by unfold mv; rw [if_pos hw.1]
  have hc : ∀ m j, 0 ≤ j → j < 4 → can P (4 * mv P tu + j) m = 0 := fun m j h1 h2 => by rw [hmv]; exact can_home (hm_4.mp hw.2 j h1 h2)
  have hd : ∀ m, ¬ dzP P (mv P tu) m 1 := fun m ⟨j, h1, h2, h3⟩ => h3.1 (hc m j h1 h2)
  intro n
  induction n with
  | zero => intro g; rfl
  | succ n ih =>
    intro g
    rw [ch_s]
    have e : ∀ m, chA tu g n (ch tu n) P m = 0 := by
      intro m
      by_cases c1 : (m ≤ 1 ∨ m = 6) ∧ 2 ≤ g
      · exact chA_lost c1
      · by_cases c3 : ¬ (m ≤ 1 ∨ m = 6) ∨ n = 0
        · exact chA_end (hd m) c3
        · rw [chA_go c1 (hd m) c3, chGn_z (ms_0.mpr (hc m))]; exact ih (g + 1)
    rw [sZ_7]
    rw [e, e, e, e, e, e, e]
    omega
/-- the ways of the next throw -/
noncomputable def wyA (P : Int → Int) (tu g w m : Int) : Int := iC (¬ ((m ≤ 1 ∨ m = 6) ∧ 2 ≤ g) ∧ dzP P (mv P tu) m w) (wyI m) 0
noncomputable def wy (P : Int → Int) (tu g w : Int) : Int := sZ (wyA P tu g w) 7
noncomputable def thA (P : Int → Int) (q a m : Int) : Int := iC (cpP P q a m) (wyI m) 0
noncomputable def thr (P : Int → Int) (k b : Int) : Int := iC (1 ≤ P k ∧ P k ≤ 64) (sZ (thA P (sq (k / 4) (P k)) (mv P b)) 7) 0
def dst (P : Int → Int) (t : Int) : Int := sZ (fun j => 72 - P (4 * t + j)) 4 + sZ (fun j => 72 - P (4 * (t + 2) + j)) 4
/-- a throw that is allowed -/
def tsR (P : Int → Int) (tu gc mo m z tu2 gc2 ph2 mo2 : Int) : Prop :=
  ((m ≤ 1 ∨ m = 6) ∧ gc = 2 ∧ z = -wo m ∧ tu2 = (tu + 1) % 4 ∧ gc2 = 0 ∧ ph2 = 0 ∧ mo2 = mo) ∨
  (¬ ((m ≤ 1 ∨ m = 6) ∧ gc = 2) ∧ ms P (mv P tu) m = 0 ∧ z = -wo m ∧ ((m ≤ 1 ∨ m = 6) ∧ tu2 = tu ∧ gc2 = gc + 1 ∨ ¬ (m ≤ 1 ∨ m = 6) ∧ tu2 = (tu + 1) % 4 ∧ gc2 = 0) ∧ ph2 = 0 ∧ mo2 = mo) ∨
  (¬ ((m ≤ 1 ∨ m = 6) ∧ gc = 2) ∧ ms P (mv P tu) m ≠ 0 ∧ z = wo m ∧ tu2 = tu ∧ ((m ≤ 1 ∨ m = 6) ∧ gc2 = gc + 1 ∨ ¬ (m ≤ 1 ∨ m = 6) ∧ gc2 = 0) ∧ ph2 = 1 ∧ mo2 = m)
/-- the positions behind a move of piece k -/
noncomputable def mvP (P : Int → Int) (k mo : Int) : Int → Int := uI (if can P k mo = 2 then syP P (sq (k / 4) (tgt P k mo)) (1 - k / 4 % 2) 16 else P) k (tgt P k mo)
/-- a move that is allowed -/
def mvR (P C : Int → Int) (tu gc mo j z tu2 gc2 ph2 : Int) (P2 C2 : Int → Int) : Prop :=
  can P (4 * mv P tu + j) mo ≠ 0 ∧ P2 = mvP P (4 * mv P tu + j) mo ∧ C2 = (if can P (4 * mv P tu + j) mo = 2 then uI C tu (C tu + 1) else C) ∧
  z = (if can P (4 * mv P tu + j) mo = 2 then tgt P (4 * mv P tu + j) mo + 100 else tgt P (4 * mv P tu + j) mo) ∧
  (won (mvP P (4 * mv P tu + j) mo) tu ∧ ph2 = 2 ∧ tu2 = tu ∧ gc2 = gc ∨ ¬ won (mvP P (4 * mv P tu + j) mo) tu ∧ ph2 = 0 ∧
    ((can P (4 * mv P tu + j) mo = 2 ∨ mo ≤ 1 ∨ mo = 6) ∧ tu2 = tu ∧ gc2 = gc ∨ can P (4 * mv P tu + j) mo ≠ 2 ∧ ¬ (mo ≤ 1 ∨ mo = 6) ∧ tu2 = (tu + 1) % 4 ∧ gc2 = 0))
theorem mvP_c {P : Int → Int} {k mo a t q : Int} (h : can P k mo = 2) (ha : k / 4 = a) (ht : t = tgt P k mo) (hq : q = sq a t) : mvP P k mo = uI (syP P q (1 - a % 2) 16) k t := by unfold mvP; rw [if_pos h, ha, hq, ht]
theorem mvP_n {P : Int → Int} {k mo t : Int} (h : can P k mo ≠ 2) (ht : t = tgt P k mo) : mvP P k mo = uI P k t := by unfold mvP; rw [if_neg h, ht]
def dsN (P : Int → Int) (t k : Int) : Int := if k / 4 % 2 = t then 72 - P k else 0
theorem dst_eq (P : Int → Int) {t : Int} (h : t = 0 ∨ t = 1) : sZ (dsN P t) 16 = dst P t := by
  have e : ∀ f : Int → Int, sZ f 16 = f 0 + f 1 + f 2 + f 3 + f 4 + f 5 + f 6 + f 7 + f 8 + f 9 + f 10 + f 11 + f 12 + f 13 + f 14 + f 15 := by
    intro f
    show (((((((((((((((0 + f 0) + f 1) + f 2) + f 3) + f 4) + f 5) + f 6) + f 7) + f 8) + f 9) + f 10) + f 11) + f 12) + f 13) + f 14) + f 15 = _
    rw [Int.zero_add]
  have n1 : ∀ k, k / 4 % 2 = t → dsN P t k = 72 - P k := fun k h => by unfold dsN; rw [if_pos h]
  have n0 : ∀ k, ¬ k / 4 % 2 = t → dsN P t k = 0 := fun k h => by unfold dsN; rw [if_neg h]
  rw [e]
  unfold dst
  rw [sZ_4, sZ_4]
  rcases h with rfl | rfl
  · rw [n1 0 (by decide), n1 1 (by decide), n1 2 (by decide), n1 3 (by decide), n0 4 (by decide), n0 5 (by decide), n0 6 (by decide), n0 7 (by decide), n1 8 (by decide), n1 9 (by decide), n1 10 (by decide), n1 11 (by decide), n0 12 (by decide), n0 13 (by decide), n0 14 (by decide), n0 15 (by decide)]
    show _ = 72 - P 0 + (72 - P 1) + (72 - P 2) + (72 - P 3) + (72 - P 8 + (72 - P 9) + (72 - P 10) + (72 - P 11))
    omega
  · rw [n0 0 (by decide), n0 1 (by decide), n0 2 (by decide), n0 3 (by decide), n1 4 (by decide), n1 5 (by decide), n1 6 (by decide), n1 7 (by decide), n0 8 (by decide), n0 9 (by decide), n0 10 (by decide), n0 11 (by decide), n1 12 (by decide), n1 13 (by decide), n1 14 (by decide), n1 15 (by decide)]
    show _ = 72 - P 4 + (72 - P 5) + (72 - P 6) + (72 - P 7) + (72 - P 12 + (72 - P 13) + (72 - P 14) + (72 - P 15))
    omega
theorem thr_no {P : Int → Int} {k b : Int} (h : ¬ (1 ≤ P k ∧ P k ≤ 64)) : thr P k b = 0 := by unfold thr; rw [iC_f h]
theorem thr_on {P : Int → Int} {k b : Int} (h : 1 ≤ P k ∧ P k ≤ 64) : thr P k b = sZ (thA P (sq (k / 4) (P k)) (mv P b)) 7 := by unfold thr; rw [iC_t h]
theorem wyA_y {P : Int → Int} {tu g w m : Int} (h : ¬ ((m ≤ 1 ∨ m = 6) ∧ 2 ≤ g)) (h2 : dzP P (mv P tu) m w) : wyA P tu g w m = wyI m := by unfold wyA; rw [iC_t ⟨h, h2⟩]
theorem wyA_n {P : Int → Int} {tu g w m : Int} (h : ¬ (¬ ((m ≤ 1 ∨ m = 6) ∧ 2 ≤ g) ∧ dzP P (mv P tu) m w)) : wyA P tu g w m = 0 := by unfold wyA; rw [iC_f h]
theorem thA_y {P : Int → Int} {q a m : Int} (h : cpP P q a m) : thA P q a m = wyI m := by unfold thA; rw [iC_t h]
theorem thA_n {P : Int → Int} {q a m : Int} (h : ¬ cpP P q a m) : thA P q a m = 0 := by unfold thA; rw [iC_f h]
theorem thr_off {P : Int → Int} {k a b : Int} (h : sA a (P k) = -1) : sZ (thA P (-1) (mv P b)) 7 = thr P k b := by
  have h0 : ¬ (1 ≤ P k ∧ P k ≤ 64) := by
    intro q
    have := sq_rng a (P k)
    unfold sA at h; rw [if_pos q] at h; omega
  have e : ∀ m, thA P (-1) (mv P b) m = 0 := fun m => thA_n (fun ⟨j, _, _, hc⟩ => by
    have := sq_rng (mv P b) (tgt P (4 * mv P b + j) m)
    have := hc.2
    omega)
  rw [thr_no h0, sZ_7, e, e, e, e, e, e, e]
  omega
theorem thr_at {P : Int → Int} {k a b : Int} (ha : k / 4 = a) : sZ (thA P (sA a (P k)) (mv P b)) 7 = thr P k b := by
  by_cases h : 1 ≤ P k ∧ P k ≤ 64
  · rw [thr_on h, ha]; unfold sA; rw [if_pos h]
  · have e : sA a (P k) = -1 := by unfold sA; rw [if_neg h]
    rw [e]; exact thr_off e
