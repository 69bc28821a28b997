/-- the state of the game, the same on both sides -/
def GI (tu ph mo gc : Int) (P : Int → Int) : Prop :=
  (0 ≤ tu ∧ tu ≤ 3) ∧ (0 ≤ gc ∧ gc ≤ 2) ∧ (0 ≤ ph ∧ ph ≤ 2) ∧ (0 ≤ mo ∧ mo ≤ 6) ∧ (∀ i, 0 ≤ P i ∧ P i ≤ 72) ∧ ((ph = 2 ∧ won P (tu % 2) ∧ ¬ won P (1 - tu % 2)) ∨ (ph ≠ 2 ∧ ¬ won P 0 ∧ ¬ won P 1))
theorem won_0 {t : Int} (ht : 0 ≤ t ∧ t ≤ 1) : ¬ won (fun _ => 0) t := fun h => by
  have h2 : (0 : Int) = 72 := hm_4.mp h.1 0 (by omega) (by omega)
  omega
theorem GI_0 : GI 0 0 0 0 (fun _ => 0) := ⟨by omega, by omega, by omega, by omega, fun i => (by decide : (0 : Int) ≤ 0 ∧ (0 : Int) ≤ 72), Or.inr ⟨by omega, won_0 (by omega), won_0 (by omega)⟩⟩
theorem won_of {P P2 : Int → Int} {t : Int} (ht : 0 ≤ t ∧ t ≤ 1) (h : ∀ i, i / 4 % 2 = t → P2 i = 72 → P i = 72) (hw : won P2 t) : won P t :=
  ⟨hm_4.mpr (fun j h0 h1 => h _ (by omega) (hm_4.mp hw.1 j h0 h1)), hm_4.mpr (fun j h0 h1 => h _ (by omega) (hm_4.mp hw.2 j h0 h1))⟩
theorem syP_72 {P : Int → Int} {q t n i : Int} (h : syP P q t n i = 72) : P i = 72 := by
  unfold syP at h
  split at h <;> omega
theorem mvP_72 {P : Int → Int} {k mo i : Int} (hi : i ≠ k) (h : mvP P k mo i = 72) : P i = 72 := by
  unfold mvP uI at h
  rw [if_neg hi] at h
  split at h
  · exact syP_72 h
  · exact h
theorem mvP_rng {P : Int → Int} (hP : ∀ i, 0 ≤ P i ∧ P i ≤ 72) {k mo : Int} (hm : 0 ≤ mo ∧ mo ≤ 6) : ∀ i, 0 ≤ mvP P k mo i ∧ mvP P k mo i ≤ 72 := by
  unfold mvP
  refine uI_rng ?_ (tgt_rng hP k hm)
  split
  · exact syP_rng hP
  · exact hP
theorem mv_two {P : Int → Int} {a : Int} (h : 0 ≤ a ∧ a ≤ 3) : mv P a % 2 = a % 2 := by unfold mv; split <;> omega
theorem won_tu {P : Int → Int} {tu : Int} (h : 0 ≤ tu ∧ tu ≤ 3) : won P tu ↔ won P (tu % 2) := by
  rw [won_team h, won_team (tu := tu % 2) (by omega), show tu % 2 % 2 = tu % 2 by omega]
theorem tsR_inv {P : Int → Int} {tu gc mo m z a b c d : Int} (hG : GI tu 0 mo gc P) (hm : 0 ≤ m ∧ m ≤ 6) (h : tsR P tu gc mo m z a b c d) : GI a c d b P := by
  obtain ⟨h1, h2, h3, h4, h5, h6⟩ := hG
  have h7 : ¬ won P 0 ∧ ¬ won P 1 := by
    rcases h6 with h6 | h6
    · omega
    · exact h6.2
  unfold tsR at h
  exact ⟨by omega, by omega, by omega, by omega, h5, Or.inr ⟨by omega, h7⟩⟩
theorem tsR_det {P : Int → Int} {tu gc mo m z a b c d z2 a2 b2 c2 d2 : Int} (h : tsR P tu gc mo m z a b c d) (h2 : tsR P tu gc mo m z2 a2 b2 c2 d2) : z2 = z ∧ a = a2 ∧ b = b2 ∧ c = c2 ∧ d = d2 := by
  unfold tsR at h h2
  refine ⟨?_, ?_, ?_, ?_, ?_⟩ <;> omega
theorem mvR_inv {P C : Int → Int} {tu gc mo j z a b c : Int} {P2 C2 : Int → Int} (hG : GI tu 1 mo gc P) (hj : 0 ≤ j ∧ j ≤ 3) (h : mvR P C tu gc mo j z a b c P2 C2) : GI a c mo b P2 := by
  obtain ⟨h1, h2, h3, h4, h5, h6⟩ := hG
  have h7 : ¬ won P 0 ∧ ¬ won P 1 := by
    rcases h6 with h6 | h6
    · omega
    · exact h6.2
  unfold mvR at h
  obtain ⟨q1, q2, q3, q4, q5⟩ := h
  rw [← q2] at q5
  have hr : ∀ i, 0 ≤ P2 i ∧ P2 i ≤ 72 := by rw [q2]; exact mvP_rng h5 h4
  have hmt := mv_two (P := P) h1
  have hmr := mv_rng P h1
  have ho : ¬ won P2 (1 - tu % 2) := fun hw => by
    have h8 := won_of (P := P) (by omega) (fun i e h9 => by rw [q2] at h9; exact mvP_72 (by omega) h9) hw
    rcases (show tu % 2 = 0 ∨ tu % 2 = 1 by omega) with e | e
    · rw [e] at h8; exact h7.2 h8
    · rw [e] at h8; exact h7.1 h8
  rcases q5 with ⟨w1, w2, w3, w4⟩ | ⟨w1, w2, w3⟩
  · subst w2 w3 w4
    exact ⟨h1, h2, by omega, h4, hr, Or.inl ⟨rfl, (won_tu h1).mp w1, ho⟩⟩
  · subst w2
    refine ⟨by omega, by omega, by omega, h4, hr, Or.inr ⟨by omega, ?_⟩⟩
    have w4 : ¬ won P2 (tu % 2) := fun hw => w1 ((won_tu h1).mpr hw)
    rcases (show tu % 2 = 0 ∨ tu % 2 = 1 by omega) with e | e
    · rw [e] at w4 ho; exact ⟨w4, ho⟩
    · rw [e] at w4 ho; exact ⟨ho, w4⟩
theorem mvR_det {P C : Int → Int} {tu gc mo j z a b c z2 a2 b2 c2 : Int} {P1 C1 P2 C2 : Int → Int} (h : mvR P C tu gc mo j z a b c P1 C1) (h2 : mvR P C tu gc mo j z2 a2 b2 c2 P2 C2) : z2 = z ∧ a = a2 ∧ b = b2 ∧ c = c2 ∧ P1 = P2 ∧ C1 = C2 := by
  unfold mvR at h h2
  obtain ⟨q1, q2, q3, q4, q5⟩ := h
  obtain ⟨r1, r2, r3, r4, r5⟩ := h2
  refine ⟨r4.trans q4.symm, ?_, ?_, ?_, q2.trans r2.symm, q3.trans r3.symm⟩ <;> (rcases q5 with q5 | q5 <;> rcases r5 with r5 | r5 <;> first | omega | exact absurd q5.1 r5.1 | exact absurd r5.1 q5.1)
theorem win_eq {tu ph mo gc z z2 : Int} {P : Int → Int} (hG : GI tu ph mo gc P) (h : (ph = 2 ∧ z = tu % 2) ∨ (ph ≠ 2 ∧ z = -1)) (h2 : (won P 0 ∧ z2 = 0) ∨ (¬ won P 0 ∧ won P 1 ∧ z2 = 1) ∨ (¬ won P 0 ∧ ¬ won P 1 ∧ z2 = -1)) : z2 = z ∧ -1 ≤ z ∧ z ≤ 1 := by
  obtain ⟨h1, -, -, -, -, h6⟩ := hG
  have hr : -1 ≤ z ∧ z ≤ 1 := by omega
  refine ⟨?_, hr⟩
  rcases h6 with ⟨g1, g2, g3⟩ | ⟨g1, g2, g3⟩
  · rcases (show tu % 2 = 0 ∨ tu % 2 = 1 by omega) with e | e
    · rw [e] at g2 g3
      rcases h2 with ⟨a1, a2⟩ | ⟨a1, _⟩ | ⟨a1, _⟩
      · omega
      · exact absurd g2 a1
      · exact absurd g2 a1
    · rw [e] at g2 g3
      rcases h2 with ⟨a1, a2⟩ | ⟨a1, a2, a3⟩ | ⟨a1, a2, _⟩
      · exact absurd a1 g3
      · omega
      · exact absurd g2 a2
  · rcases h2 with ⟨a1, a2⟩ | ⟨a1, a2, a3⟩ | ⟨a1, a2, a3⟩
    · exact absurd a1 g2
    · exact absurd a2 g3
    · omega
theorem ts_agree {tu ph mo gc m z w a b c d th z2 a2 b2 c2 d2 : Int} {P : Int → Int} {X : Prop} (hG : GI tu ph mo gc P)
    (h : (z = 0 ∧ X ∧ 0 ≤ m ∧ m ≤ 6 ∧ ph = 0 ∧ tsR P tu gc mo m w a b c d) ∨ (z = 1 ∧ (¬ (0 ≤ m ∧ m ≤ 6)) ∧ a = tu ∧ b = gc ∧ c = ph ∧ d = mo) ∨ (z = 2 ∧ (0 ≤ m ∧ m ≤ 6 ∧ ph ≠ 0) ∧ a = tu ∧ b = gc ∧ c = ph ∧ d = mo))
    (h2 : (0 ≤ m ∧ m ≤ 6 ∧ ph = 0 ∧ th = 0 ∧ tsR P tu gc mo m z2 a2 b2 c2 d2) ∨ (¬ (0 ≤ m ∧ m ≤ 6) ∧ th = 1 ∧ z2 = 0 ∧ a2 = tu ∧ b2 = gc ∧ c2 = ph ∧ d2 = mo) ∨ (0 ≤ m ∧ m ≤ 6 ∧ ph ≠ 0 ∧ th = 2 ∧ z2 = 0 ∧ a2 = tu ∧ b2 = gc ∧ c2 = ph ∧ d2 = mo)) :
    (0 ≤ z ∧ z ≤ 2) ∧ th = z ∧ (z = 0 → X ∧ z2 = w) ∧ a = a2 ∧ b = b2 ∧ c = c2 ∧ d = d2 ∧ GI a c d b P := by
  rcases h with ⟨e1, e2, e3, e4, e5, e6⟩ | ⟨e1, e2, rfl, rfl, rfl, rfl⟩ | ⟨e1, e2, rfl, rfl, rfl, rfl⟩
  · rcases h2 with ⟨-, -, -, f4, f5⟩ | ⟨f1, _⟩ | ⟨_, _, f1, _⟩
    · obtain ⟨k1, k2, k3, k4, k5⟩ := tsR_det e6 f5
      subst e5
      exact ⟨by omega, by omega, fun _ => ⟨e2, k1⟩, k2, k3, k4, k5, tsR_inv hG ⟨e3, e4⟩ e6⟩
    · exact absurd ⟨e3, e4⟩ f1
    · exact absurd e5 f1
  · rcases h2 with ⟨f1, f2, -⟩ | ⟨f1, f2, f3, rfl, rfl, rfl, rfl⟩ | ⟨f1, f2, -⟩
    · exact absurd ⟨f1, f2⟩ e2
    · exact ⟨by omega, by omega, fun _ => by omega, rfl, rfl, rfl, rfl, hG⟩
    · exact absurd ⟨f1, f2⟩ e2
  · rcases h2 with ⟨f1, f2, f3, -⟩ | ⟨f1, -⟩ | ⟨f1, f2, f3, f4, f5, rfl, rfl, rfl, rfl⟩
    · exact absurd f3 e2.2.2
    · exact absurd ⟨e2.1, e2.2.1⟩ f1
    · exact ⟨by omega, by omega, fun _ => by omega, rfl, rfl, rfl, rfl, hG⟩
theorem mv_agree {tu ph mo gc m z w a b c th z2 a2 b2 c2 : Int} {P C P1 C1 P2 C2 : Int → Int} {X : Prop} (hG : GI tu ph mo gc P)
    (h : (z = 0 ∧ X ∧ 0 ≤ m ∧ m ≤ 3 ∧ ph = 1 ∧ mvR P C tu gc mo m w a b c P1 C1) ∨ (z = 1 ∧ (¬ (0 ≤ m ∧ m ≤ 3)) ∧ a = tu ∧ b = gc ∧ c = ph ∧ P1 = P ∧ C1 = C) ∨ (z = 2 ∧ (0 ≤ m ∧ m ≤ 3 ∧ (ph ≠ 1 ∨ can P (4 * mv P tu + m) mo = 0)) ∧ a = tu ∧ b = gc ∧ c = ph ∧ P1 = P ∧ C1 = C))
    (h2 : (0 ≤ m ∧ m ≤ 3 ∧ ph = 1 ∧ th = 0 ∧ mvR P C tu gc mo m z2 a2 b2 c2 P2 C2) ∨ (¬ (0 ≤ m ∧ m ≤ 3) ∧ th = 1 ∧ z2 = 0 ∧ a2 = tu ∧ b2 = gc ∧ c2 = ph ∧ P2 = P ∧ C2 = C) ∨ (0 ≤ m ∧ m ≤ 3 ∧ (ph ≠ 1 ∨ can P (4 * mv P tu + m) mo = 0) ∧ th = 2 ∧ z2 = 0 ∧ a2 = tu ∧ b2 = gc ∧ c2 = ph ∧ P2 = P ∧ C2 = C)) :
    (0 ≤ z ∧ z ≤ 2) ∧ th = z ∧ (z = 0 → X ∧ z2 = w) ∧ a = a2 ∧ b = b2 ∧ c = c2 ∧ P1 = P2 ∧ C1 = C2 ∧ GI a c mo b P1 := by
  rcases h with ⟨e1, e2, e3, e4, e5, e6⟩ | ⟨e1, e2, rfl, rfl, rfl, rfl, rfl⟩ | ⟨e1, e2, rfl, rfl, rfl, rfl, rfl⟩
  · rcases h2 with ⟨-, -, -, f4, f5⟩ | ⟨f1, _⟩ | ⟨_, _, f1, _⟩
    · obtain ⟨k1, k2, k3, k4, k5, k6⟩ := mvR_det e6 f5
      subst e5
      exact ⟨by omega, by omega, fun _ => ⟨e2, k1⟩, k2, k3, k4, k5, k6, mvR_inv hG ⟨e3, e4⟩ e6⟩
    · exact absurd ⟨e3, e4⟩ f1
    · rcases f1 with f1 | f1
      · exact absurd e5 f1
      · exact absurd f1 e6.1
  · rcases h2 with ⟨f1, f2, -⟩ | ⟨f1, f2, f3, rfl, rfl, rfl, rfl, rfl⟩ | ⟨f1, f2, -⟩
    · exact absurd ⟨f1, f2⟩ e2
    · exact ⟨by omega, by omega, fun _ => by omega, rfl, rfl, rfl, rfl, rfl, hG⟩
    · exact absurd ⟨f1, f2⟩ e2
  · rcases h2 with ⟨f1, f2, f3, -, f5⟩ | ⟨f1, -⟩ | ⟨f1, f2, f3, f4, f5, rfl, rfl, rfl, rfl, rfl⟩
    · rcases e2.2.2 with g | g
      · exact absurd f3 g
      · exact absurd g f5.1
    · exact absurd ⟨e2.1, e2.2.1⟩ f1
    · exact ⟨by omega, by omega, fun _ => by omega, rfl, rfl, rfl, rfl, rfl, hG⟩
/-! what a call answers where that is known ahead -/
theorem qts {P : Int → Int} {tu gc mo m z0 a0 b0 c0 d0 : Int} (hk : tsR P tu gc mo m z0 a0 b0 c0 d0) {ph z : Int} {u : Int × Int × Int × Int} (h : 0 ≤ m ∧ m ≤ 6 ∧ ph = 0 ∧ tsR P tu gc mo m z u.1 u.2.1 u.2.2.1 u.2.2.2) : z = z0 ∧ u = (a0, b0, c0, d0) := by
  obtain ⟨a, b, c, d⟩ := u
  obtain ⟨e1, e2, e3, e4, e5⟩ := tsR_det hk h.2.2.2
  dsimp only at e2 e3 e4 e5
  exact ⟨e1, by rw [e2, e3, e4, e5]⟩
theorem qmv {P C : Int → Int} {tu gc mo j z0 a0 b0 c0 : Int} {P0 C0 : Int → Int} (hk : mvR P C tu gc mo j z0 a0 b0 c0 P0 C0) {ph z : Int} {u : Int × Int × Int × (Int → Int) × (Int → Int)} (h : 0 ≤ j ∧ j ≤ 3 ∧ ph = 1 ∧ mvR P C tu gc mo j z u.1 u.2.1 u.2.2.1 u.2.2.2.1 u.2.2.2.2) : z = z0 ∧ u = (a0, b0, c0, P0, C0) := by
  obtain ⟨a, b, c, d, f⟩ := u
  obtain ⟨e1, e2, e3, e4, e5, e6⟩ := mvR_det hk h.2.2.2
  dsimp only at e2 e3 e4 e5 e6
  exact ⟨e1, by rw [e2, e3, e4, e5, e6]⟩
theorem tsR_yes {P : Int → Int} {tu gc mo m mb z0 : Int} (hng : ¬ ((m ≤ 1 ∨ m = 6) ∧ gc = 2)) (hms : ms P (mv P tu) m = mb) (h0 : mb ≠ 0) (hz : z0 = wo m) : tsR P tu gc mo m z0 tu (gq gc m) 1 m := by
  unfold tsR
  refine Or.inr (Or.inr ⟨hng, by rw [hms]; exact h0, hz, rfl, ?_, rfl, rfl⟩)
  unfold gq
  by_cases c : m ≤ 1 ∨ m = 6
  · exact Or.inl ⟨c, if_pos c⟩
  · exact Or.inr ⟨c, if_neg c⟩
theorem tsR_no2 {P : Int → Int} {tu gc mo tu2 : Int} (hms : ms P (mv P tu) 2 = 0) (h : tu2 = (tu + 1) % 4) : tsR P tu gc mo 2 (-2) tu2 0 0 mo := Or.inr (Or.inl ⟨by omega, hms, by decide, Or.inr ⟨by omega, h, rfl⟩, rfl, rfl⟩)
/-! no team comes home within forty throws: what is gone, an entry counted as twenty-five -/
def wg (p : Int) : Int := if p ≤ 0 then 0 else p + 24
def PW (P : Int → Int) : Int := sZ (fun i => wg (P i)) 16
theorem PW_0 : PW (fun _ => 0) = 0 := by decide +kernel
theorem sZ_le {f g : Int → Int} {n : Nat} (h : ∀ k : Int, 0 ≤ k → k < n → f k ≤ g k) : sZ f (n : Int) ≤ sZ g (n : Int) := by
  unfold sZ
  rw [Int.toNat_natCast]
  have key : ∀ m : Nat, m ≤ n → sm f m ≤ sm g m := by
    intro m
    induction m with
    | zero => intro _; exact Int.le_refl _
    | succ m ih =>
      intro hm
      show sm f m + f (m : Int) ≤ sm g m + g (m : Int)
      have h1 := ih (by omega)
      have h2 := h (m : Int) (by omega) (by omega)
      omega
  exact key n (Nat.le_refl _)
theorem wg_mono {a b : Int} (h : a ≤ b) : wg a ≤ wg b := by unfold wg; (repeat' split) <;> omega
theorem wg_0 (p : Int) : 0 ≤ wg p := by unfold wg; split <;> omega
theorem PW_syP {P : Int → Int} (hB : ∀ i, 0 ≤ P i ∧ P i ≤ 72) (q t n : Int) : PW (syP P q t n) ≤ PW P := by
  refine sZ_le (n := 16) (fun k _ _ => wg_mono ?_)
  have := hB k
  unfold syP; split <;> omega
theorem PW_uI {P : Int → Int} {k v : Int} (hk : 0 ≤ k ∧ k < 16) : PW (uI P k v) = PW P - wg (P k) + wg v := by
  unfold PW
  have h := sZ_upd (f := fun i => wg (P i)) (g := fun i => wg (uI P k v i)) (n := 16) hk (fun i hi => by show wg (uI P k v i) = wg (P i); unfold uI; rw [if_neg hi])
  rw [h]
  show _ - wg (P k) + wg (uI P k v k) = _
  rw [uI_at]
/-- the most that a throw moves -/
def gm (m : Int) : Int := if m ≤ 1 ∨ m = 6 then 25 else 5
theorem tgt_gm {P : Int → Int} (hB : ∀ i, 0 ≤ P i ∧ P i ≤ 72) {k m : Int} (hm : 0 ≤ m ∧ m ≤ 6) (h : 0 < tgt P k m) : wg (tgt P k m) ≤ wg (P k) + gm m := by
  have h1 := hB k
  by_cases c : P k = 0
  · rw [tgt_y c] at h ⊢
    by_cases g : m ≤ 1 ∨ m = 6
    · rw [if_pos g]; unfold gm wg; rw [if_pos g, c]; decide
    · rw [if_neg g] at h; omega
  · by_cases c2 : P k + wo m ≤ 72 ∧ P k < 72
    · rw [tgt_g c c2]
      have h2 : wo m ≤ gm m := by unfold wo gm; (repeat' split) <;> omega
      have h3 := (wo_rng hm).1
      unfold wg
      rw [if_neg (by omega), if_neg (by omega)]; omega
    · rw [tgt_n c c2] at h; omega
theorem PW_mvP {P : Int → Int} (hB : ∀ i, 0 ≤ P i ∧ P i ≤ 72) {k m : Int} (hk : 0 ≤ k ∧ k < 16) (hm : 0 ≤ m ∧ m ≤ 6) (h : can P k m ≠ 0) : PW (mvP P k m) ≤ PW P + gm m := by
  have h1 := tgt_gm hB hm (can_pos h).1
  have hg : 0 ≤ gm m := by unfold gm; split <;> omega
  unfold mvP
  by_cases c : can P k m = 2
  · rw [if_pos c, PW_uI hk]
    have h2 := PW_syP hB (sq (k / 4) (tgt P k m)) (1 - k / 4 % 2) 16
    have h3 : syP P (sq (k / 4) (tgt P k m)) (1 - k / 4 % 2) 16 k = P k := by unfold syP; rw [if_neg (by omega)]
    rw [h3]; omega
  · rw [if_neg c, PW_uI hk]; omega
theorem sZ_part {f : Int → Int} (h : ∀ k, 0 ≤ f k) (t : Int) (ht : t = 0 ∨ t = 1) : f (4 * t) + f (4 * t + 1) + f (4 * t + 2) + f (4 * t + 3) + f (4 * (t + 2)) + f (4 * (t + 2) + 1) + f (4 * (t + 2) + 2) + f (4 * (t + 2) + 3) ≤ sZ f 16 := by
  have e : sZ f 16 = f 0 + f 1 + f 2 + f 3 + f 4 + f 5 + f 6 + f 7 + f 8 + f 9 + f 10 + f 11 + f 12 + f 13 + f 14 + f 15 := by
    show (((((((((((((((0 + f 0) + f 1) + f 2) + f 3) + f 4) + f 5) + f 6) + f 7) + f 8) + f 9) + f 10) + f 11) + f 12) + f 13) + f 14) + f 15 = _
    rw [Int.zero_add]
  rw [e]
  have g0 := h 0
  have g1 := h 1
  have g2 := h 2
  have g3 := h 3
  have g4 := h 4
  have g5 := h 5
  have g6 := h 6
  have g7 := h 7
  have g8 := h 8
  have g9 := h 9
  have g10 := h 10
  have g11 := h 11
  have g12 := h 12
  have g13 := h 13
  have g14 := h 14
  have g15 := h 15
  rcases ht with rfl | rfl
  · show f 0 + f 1 + f 2 + f 3 + f 8 + f 9 + f 10 + f 11 ≤ _
    omega
  · show f 4 + f 5 + f 6 + f 7 + f 12 + f 13 + f 14 + f 15 ≤ _
    omega
theorem won_PW {P : Int → Int} {tu : Int} (htu : 0 ≤ tu ∧ tu ≤ 3) (h : won P tu) : 768 ≤ PW P := by
  obtain ⟨h1, h2⟩ := (won_team htu).mp h
  have ht : tu % 2 = 0 ∨ tu % 2 = 1 := by omega
  have hp := sZ_part (f := fun i => wg (P i)) (fun k => wg_0 _) (tu % 2) ht
  have a := hm_4.mp h1
  have b := hm_4.mp h2
  have w : wg 72 = 96 := by decide
  have a0 := a 0 (by omega) (by omega)
  rw [Int.add_zero] at a0
  have b0 := b 0 (by omega) (by omega)
  rw [Int.add_zero] at b0
  rw [a0, a 1 (by omega) (by omega), a 2 (by omega) (by omega), a 3 (by omega) (by omega), b0, b 1 (by omega) (by omega), b 2 (by omega) (by omega), b 3 (by omega) (by omega), w] at hp
  unfold PW
  omega
