/-- the state of the game, the same on both sides -/
def GI (tu ph mo gc : Int) (P : Int → Int) : Prop :=
  (0 ≤ tu ∧ tu ≤ 3) ∧ (0 ≤ gc ∧ gc ≤ 2) ∧ (0 ≤ ph ∧ ph ≤ 2) ∧ (0 ≤ mo ∧ mo ≤ 6) ∧ (∀ i, 0 ≤ P i ∧ P i ≤ 72) ∧ ((ph = 2 ∧ won P (tu % 2) ∧ ¬ won P (1 - tu % 2)) ∨ (ph ≠ 2 ∧ ¬ won P 0 ∧ ¬ won P 1))
theorem won_0 {t : Int} (ht : 0 ≤ t ∧ t ≤ 1) : ¬ won (fun _ => 0) t := fun h => by
  have h2 : (0 : Int) = 72 := hm_4.mp h.1 0 (by omega) (by omega)
  omega
theorem GI_0 : GI 0 0 0 0 (fun _ => 0) := ⟨by omega, by omega, by omega, by omega, fun i => (by decide : (0 : Int) ≤ 0 ∧ (0 : Int) ≤ 72), Or.inr ⟨by omega, won_0 (by omega), won_0 (by omega)⟩⟩
theorem won_of {P P2 : Int → Int} {t : Int} (ht : 0 ≤ t ∧ t ≤ 1) (h : ∀ i, i / 4 % 2 = t → P2 i = 72 → P i = 72) (hw : won P2 t) : won P t :=
  ⟨hm_4.mpr (fun j h0 h1 => h _ (by omega) (hm_4.mp hw.1 j h0 h1)), hm_4.mpr (fun j h0 h1 => h _ (by omega) (hm_4.mp hw.2 j h0 h1))⟩
theorem syP_72 {P : Int → Int} {q t n i : Int} (h : syP P q t n i = 72) : P i = 72 := by
  unfold syP at h
  split at h <;> omega
theorem mvP_72 {P : Int → Int} {k mo i : Int} (hi : i ≠ k) (h : mvP P k mo i = 72) : P i = 72 := by
  unfold mvP uI at h
  rw [if_neg hi] at h
  split at h
  · exact syP_72 h
  · exact h
theorem mvP_rng {P : Int → Int} (hP : ∀ i, 0 ≤ P i ∧ P i ≤ 72) {k mo : Int} (hm : 0 ≤ mo ∧ mo ≤ 6) : ∀ i, 0 ≤ mvP P k mo i ∧ mvP P k mo i ≤ 72 := by
  unfold mvP
  refine uI_rng ?_ (tgt_rng hP k hm)
  split
  · exact syP_rng hP
  · exact hP
theorem mv_two {P : Int → Int} {a : Int} (h : 0 ≤ a ∧ a ≤ 3) : mv P a % 2 = a % 2 := by unfold mv; split <;> omega
theorem won_tu {P : Int → Int} {tu : Int} (h : 0 ≤ tu ∧ tu ≤ 3) : won P tu ↔ won P (tu % 2) := by
  rw [won_team h, won_team (tu := tu % 2) (by omega), show tu % 2 % 2 = tu % 2 by omega]
theorem tsR_inv {P : Int → Int} {tu gc mo m z a b c d : Int} (hG : GI tu 0 mo gc P) (hm : 0 ≤ m ∧ m ≤ 6) (h : tsR P tu gc mo m z a b c d) : GI a c d b P := by
  obtain ⟨h1, h2, h3, h4, h5, h6⟩ := hG
  have h7 : ¬ won P 0 ∧ ¬ won P 1 := by
    rcases h6 with h6 | h6
    · omega
    · exact h6.2
  unfold tsR at h
  exact ⟨by omega, by omega, by omega, by omega, h5, Or.inr ⟨by omega, h7⟩⟩
theorem tsR_det {P : Int → Int} {tu gc mo m z a b c d z2 a2 b2 c2 d2 : Int} (h : tsR P tu gc mo m z a b c d) (h2 : tsR P tu gc mo m z2 a2 b2 c2 d2) : z2 = z ∧ a = a2 ∧ b = b2 ∧ c = c2 ∧ d = d2 := by
  unfold tsR at h h2
  refine ⟨?_, ?_, ?_, ?_, ?_⟩ <;> omega
theorem mvR_inv {P C : Int → Int} {tu gc mo j z a b c : Int} {P2 C2 : Int → Int} (hG : GI tu 1 mo gc P) (hj : 0 ≤ j ∧ j ≤ 3) (h : mvR P C tu gc mo j z a b c P2 C2) : GI a c mo b P2 := by
  obtain ⟨h1, h2, h3, h4, h5, h6⟩ := hG
  have h7 : ¬ won P 0 ∧ ¬ won P 1 := by
    rcases h6 with h6 | h6
    · omega
    · exact h6.2
  unfold mvR at h
  obtain ⟨q1, q2, q3, q4, q5⟩ := h
  rw [← q2] at q5
  have hr : ∀ i, 0 ≤ P2 i ∧ P2 i ≤ 72 := by rw [q2]; exact mvP_rng h5 h4
  have hmt := mv_two (P := P) h1
  have hmr := mv_rng P h1
  have ho : ¬ won P2 (1 - tu % 2) := fun hw => by
    have h8 := won_of (P := P) (by omega) (fun i e h9 => by rw [q2] at h9; exact mvP_72 (by omega) h9) hw
    rcases (show tu % 2 = 0 ∨ tu % 2 = 1 by omega) with e | e
    · rw [e] at h8; exact h7.2 h8
    · rw [e] at h8; exact h7.1 h8
  rcases q5 with ⟨w1, w2, w3, w4⟩ | ⟨w1, w2, w3⟩
  · subst w2 w3 w4
    exact ⟨h1, h2, by omega, h4, hr, Or.inl ⟨rfl, (won_tu h1).mp w1, ho⟩⟩
  · subst w2
    refine ⟨by omega, by omega, by omega, h4, hr, Or.inr ⟨by omega, ?_⟩⟩
    have w4 : ¬ won P2 (tu % 2) := fun hw => w1 ((won_tu h1).mpr hw)
    rcases (show tu % 2 = 0 ∨ tu % 2 = 1 by omega) with e | e
    · rw [e] at w4 ho; exact ⟨w4, ho⟩
    · rw [e] at w4 ho; exact ⟨ho, w4⟩
theorem mvR_det {P C : Int → Int} {tu gc mo j z a b c z2 a2 b2 c2 : Int} {P1 C1 P2 C2 : Int → Int} (h : mvR P C tu gc mo j z a b c P1 C1) (h2 : mvR P C tu gc mo j z2 a2 b2 c2 P2 C2) : z2 = z ∧ a = a2 ∧ b = b2 ∧ c = c2 ∧ P1 = P2 ∧ C1 = C2 := by
  unfold mvR at h h2
  obtain ⟨q1, q2, q3, q4, q5⟩ := h
  obtain ⟨r1, r2, r3, r4, r5⟩ := h2
  refine ⟨r4.trans q4.symm, ?_, ?_, ?_, q2.trans r2.symm, q3.trans r3.symm⟩ <;> (rcases q5 with q5 | q5 <;> rcases r5 with r5 | r5 <;> first | omega | exact absurd q5.1 r5.1 | exact absurd r5.1 q5.1)
theorem win_eq {tu ph mo gc z z2 : Int} {P : Int → Int} (hG : GI tu ph mo gc P) (h : (ph = 2 ∧ z = tu % 2) ∨ (ph ≠ 2 ∧ z = -1)) (h2 : (won P 0 ∧ z2 = 0) ∨ (¬ won P 0 ∧ won P 1 ∧ z2 = 1) ∨ (¬ won P 0 ∧ ¬ won P 1 ∧ z2 = -1)) : z2 = z ∧ -1 ≤ z ∧ z ≤ 1 := by
  obtain ⟨h1, -, -, -, -, h6⟩ := hG
  have hr : -1 ≤ z ∧ z ≤ 1 := by omega
  refine ⟨?_, hr⟩
  rcases h6 with ⟨g1, g2, g3⟩ | ⟨g1, g2, g3⟩
  · rcases (show tu % 2 = 0 ∨ tu % 2 = 1 by omega) with e | e
    · rw [e] at g2 g3
      rcases h2 with ⟨a1, a2⟩ | ⟨a1, _⟩ | ⟨a1, _⟩
      · omega
      · exact absurd g2 a1
      · exact absurd g2 a1
    · rw [e] at g2 g3
      rcases h2 with ⟨a1, a2⟩ | ⟨a1, a2, a3⟩ | ⟨a1, a2, _⟩
      · exact absurd a1 g3
      · omega
      · exact absurd g2 a2
  · rcases h2 with ⟨a1, a2⟩ | ⟨a1, a2, a3⟩ | ⟨a1, a2, a3⟩
    · exact absurd a1 g2
    · exact absurd a2 g3
    · omega
theorem ts_agree {tu ph mo gc m z w a b c d th z2 a2 b2 c2 d2 : Int} {P : Int → Int} {X : Prop} (hG : GI tu ph mo gc P)
    (h : (z = 0 ∧ X ∧ 0 ≤ m ∧ m ≤ 6 ∧ ph = 0 ∧ tsR P tu gc mo m w a b c d) ∨ (z = 1 ∧ (¬ (0 ≤ m ∧ m ≤ 6)) ∧ a = tu ∧ b = gc ∧ c = ph ∧ d = mo) ∨ (z = 2 ∧ (0 ≤ m ∧ m ≤ 6 ∧ ph ≠ 0) ∧ a = tu ∧ b = gc ∧ c = ph ∧ d = mo))
    (h2 : (0 ≤ m ∧ m ≤ 6 ∧ ph = 0 ∧ th = 0 ∧ tsR P tu gc mo m z2 a2 b2 c2 d2) ∨ (¬ (0 ≤ m ∧ m ≤ 6) ∧ th = 1 ∧ z2 = 0 ∧ a2 = tu ∧ b2 = gc ∧ c2 = ph ∧ d2 = mo) ∨ (0 ≤ m ∧ m ≤ 6 ∧ ph ≠ 0 ∧ th = 2 ∧ z2 = 0 ∧ a2 = tu ∧ b2 = gc ∧ c2 = ph ∧ d2 = mo)) :
    (0 ≤ z ∧ z ≤ 2) ∧ th = z ∧ (z = 0 → X ∧ z2 = w) ∧ a = a2 ∧ b = b2 ∧ c = c2 ∧ d = d2 ∧ GI a c d b P := by
  rcases h with ⟨e1, e2, e3, e4, e5, e6⟩ | ⟨e1, e2, rfl, rfl, rfl, rfl⟩ | ⟨e1, e2, rfl, rfl, rfl, rfl⟩
  · rcases h2 with ⟨-, -, -, f4, f5⟩ | ⟨f1, _⟩ | ⟨_, _, f1, _⟩
    · obtain ⟨k1, k2, k3, k4, k5⟩ := tsR_det e6 f5
      subst e5
      exact ⟨by omega, by omega, fun _ => ⟨e2, k1⟩, k2, k3, k4, k5, tsR_inv hG ⟨e3, e4⟩ e6⟩
    · exact absurd ⟨e3, e4⟩ f1
    · exact absurd e5 f1
  · rcases h2 with ⟨f1, f2, -⟩ | ⟨f1, f2, f3, rfl, rfl, rfl, rfl⟩ | ⟨f1, f2, -⟩
    · exact absurd ⟨f1, f2⟩ e2
    · exact ⟨by omega, by omega, fun _ => by omega, rfl, rfl, rfl, rfl, hG⟩
    · exact absurd ⟨f1, f2⟩ e2
  · rcases h2 with ⟨f1, f2, f3, -⟩ | ⟨f1, -⟩ | ⟨f1, f2, f3, f4, f5, rfl, rfl, rfl, rfl⟩
    · exact absurd f3 e2.2.2
    · exact absurd ⟨e2.1, e2.2.1⟩ f1
    · exact ⟨by omega, by omega, fun _ => by omega, rfl, rfl, rfl, rfl, hG⟩
theorem mv_agree {tu ph mo gc m z w a b c th z2 a2 b2 c2 : Int} {P C P1 C1 P2 C2 : Int → Int} {X : Prop} (hG : GI tu ph mo gc P)
    (h : (z = 0 ∧ X ∧ 0 ≤ m ∧ m ≤ 3 ∧ ph = 1 ∧ mvR P C tu gc mo m w a b c P1 C1) ∨ (z = 1 ∧ (¬ (0 ≤ m ∧ m ≤ 3)) ∧ a = tu ∧ b = gc ∧ c = ph ∧ P1 = P ∧ C1 = C) ∨ (z = 2 ∧ (0 ≤ m ∧ m ≤ 3 ∧ (ph ≠ 1 ∨ can P (4 * mv P tu + m) mo = 0)) ∧ a = tu ∧ b = gc ∧ c = ph ∧ P1 = P ∧ C1 = C))
    (h2 : (0 ≤ m ∧ m ≤ 3 ∧ ph = 1 ∧ th = 0 ∧ mvR P C tu gc mo m z2 a2 b2 c2 P2 C2) ∨ (¬ (0 ≤ m ∧ m ≤ 3) ∧ th = 1 ∧ z2 = 0 ∧ a2 = tu ∧ b2 = gc ∧ c2 = ph ∧ P2 = P ∧ C2 = C) ∨ (0 ≤ m ∧ m ≤ 3 ∧ (ph ≠ 1 ∨ can P (4 * mv P tu + m) mo = 0) ∧ th = 2 ∧ z2 = 0 ∧ a2 = tu ∧ b2 = gc ∧ c2 = ph ∧ P2 = P ∧ C2 = C)) :
    (0 ≤ z ∧ z ≤ 2) ∧ th = z ∧ (z = 0 → X ∧ z2 = w) ∧ a = a2 ∧ b = b2 ∧ c = c2 ∧ P1 = P2 ∧ C1 = C2 ∧ GI a c mo b P1 := by
  rcases h with ⟨e1, e2, e3, e4, e5, e6⟩ | ⟨e1, e2, rfl, rfl, rfl, rfl, rfl⟩ | ⟨e1, e2, rfl, rfl, rfl, rfl, rfl⟩
  · rcases h2 with ⟨-, -, -, f4, f5⟩ | ⟨f1, _⟩ | ⟨_, _, f1, _⟩
    · obtain ⟨k1, k2, k3, k4, k5, k6⟩ := mvR_det e6 f5
      subst e5
      exact ⟨by omega, by omega, fun _ => ⟨e2, k1⟩, k2, k3, k4, k5, k6, mvR_inv hG ⟨e3, e4⟩ e6⟩
    · exact absurd ⟨e3, e4⟩ f1
    · rcases f1 with f1 | f1
      · exact absurd e5 f1
      · exact absurd f1 e6.1
  · rcases h2 with ⟨f1, f2, -⟩ | ⟨f1, f2, f3, rfl, rfl, rfl, rfl, rfl⟩ | ⟨f1, f2, -⟩
    · exact absurd ⟨f1, f2⟩ e2
    · exact ⟨by omega, by omega, fun _ => by omega, rfl, rfl, rfl, rfl, rfl, hG⟩
    · exact absurd ⟨f1, f2⟩ e2
  · rcases h2 with ⟨f1, f2, f3, -, f5⟩ | ⟨f1, -⟩ | ⟨f1, f2, f3, f4, f5, rfl, rfl, rfl, rfl, rfl⟩
    · rcases e2.2.2 with g | g
      · exact absurd f3 g
      · exact absurd g f5.1
    · exact absurd ⟨e2.1, e2.2.1⟩ f1
    · exact ⟨by omega, by omega, fun _ => by omega, rfl, rfl, rfl, rfl, rfl, hG⟩
