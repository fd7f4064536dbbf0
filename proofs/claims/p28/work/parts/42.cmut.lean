/-! what changes a setting: the class, then the model -/
abbrev IAE : String := "java/lang/IllegalArgumentException"
abbrev ISE : String := "java/lang/IllegalStateException"
theorem nb_iff {p M : Int32} {B : Nat} (hM : M = nI B) (hB : B < 2147483648) : (0 ≤ p ∧ p ≤ M) ↔ nb p B := by
  subst hM
  constructor
  · rintro ⟨h1, h2⟩
    obtain ⟨j, hj, e⟩ := nI_of2 (M := nI B) (n := B) (nI_toInt hB) (Int32.not_lt.mpr h1) h2
    exact ⟨j, hj, e⟩
  · rintro ⟨k, hk, rfl⟩
    exact ⟨Int32.not_lt.mp (nI_pos (by omega)), nI_le hk hB⟩
theorem nb_iff1 {p M : Int32} {B : Nat} (hM : M = nI B) (hB : B < 2147483648) : (1 ≤ p ∧ p ≤ M) ↔ (nb p B ∧ 1 ≤ p) := by
  constructor
  · rintro ⟨h1, h2⟩
    exact ⟨(nb_iff hM hB).mp ⟨Int32.le_trans (show (0 : Int32) ≤ 1 by decide) h1, h2⟩, h1⟩
  · rintro ⟨h1, h2⟩
    exact ⟨h2, ((nb_iff hM hB).mpr h1).2⟩
theorem ru_isMoney {z S} {p : Int32} {Q : Int32 → mmS → Prop} {X : String → mmS → Prop} (h1 : nb p 10000 → Q 1 S) (h0 : ¬ nb p 10000 → Q 0 S) : wp_X4_isMoney z S p Q X := by
  unfold wp_X4_isMoney
  exact ru_isWithin (fun g => ⟨mBo_1, h1 ((nb_iff rfl (by decide)).mp g)⟩) (fun g => ⟨mBo_0, h0 fun q => g ((nb_iff rfl (by decide)).mpr q)⟩)
theorem ru_wi0 {z S} {p M : Int32} (B : Nat) (hM : M = nI B) (hB : B < 2147483648) {Q : Int32 → mmS → Prop} {X : String → mmS → Prop} (h1 : nb p B → Q 1 S) (h0 : ¬ nb p B → Q 0 S) : wp_X4_isWithin z S p 0 M Q X :=
  ru_isWithin (fun g => h1 ((nb_iff hM hB).mp g)) (fun g => h0 fun q => g ((nb_iff hM hB).mpr q))
theorem ru_wi1 {z S} {p M : Int32} (B : Nat) (hM : M = nI B) (hB : B < 2147483648) {Q : Int32 → mmS → Prop} {X : String → mmS → Prop} (h1 : nb p B ∧ 1 ≤ p → Q 1 S) (h0 : ¬ (nb p B ∧ 1 ≤ p) → Q 0 S) : wp_X4_isWithin z S p 1 M Q X :=
  ru_isWithin (fun g => h1 ((nb_iff1 hM hB).mp g)) (fun g => h0 fun q => g ((nb_iff1 hM hB).mpr q))
theorem zn_iff {p : Int32} : (nb p 2 ∧ 1 ≤ p) ↔ ∃ k, (k = 1 ∨ k = 2) ∧ p = nI k := by
  constructor
  · rintro ⟨⟨k, hk, rfl⟩, h1⟩
    have h1 : nI 1 ≤ nI k := h1
    rw [nle (by omega) (by omega)] at h1
    exact ⟨k, by omega, rfl⟩
  · rintro ⟨k, hk, rfl⟩
    exact ⟨⟨k, by omega, rfl⟩, nI_le (a := 1) (by omega) (by omega)⟩
/-- the config with another zone of a tariff -/
abbrev cZ (c : hC) (t k : Nat) (r f : Int32) : hC := hsY (hsY c 4 t k r) 5 t k f
theorem WF_zone {h : hC} (W : WF h) {t k : Nat} {r f : Int32} (hr : nb r 10000) (hf : nb f 10000) : WF (cZ h t k r f) := by
  unfold WF Wn Wt Wa Wl Wc Wo at *
  simp only [cZ, hG_sY, hV_sY, hN_sY, hY_sY, Nat.reduceEqDiff, false_and, if_false, true_and]
  obtain ⟨W1, W2, W3⟩ := W
  refine ⟨W1, fun t' ht => ?_, W3⟩
  obtain ⟨a1, a2, a3, a4, a5, a6, a7, a8⟩ := W2 t' ht
  refine ⟨a1, a2, a3, a4, a5, a6, a7, fun q hq => ⟨?_, ?_⟩⟩
  · split
    · exact hr
    · exact (a8 q hq).1
  · split
    · exact hf
    · exact (a8 q hq).2
theorem WF_peak {h : hC} (W : WF h) {a b : Int32} : WF (hsG (hsG h 21 0 a) 22 0 b) := by
  unfold WF Wn Wt Wa Wl Wc Wo at *
  simp only [hG_sG, hV_sG, hN_sG, hY_sG, Nat.reduceEqDiff, false_and, if_false]
  exact W
theorem WF_bundle {h : hC} (W : WF h) {a : Nat} {b : Int32} (hb : nb b 100000) : WF (hsG h 2 a b) := by
  unfold WF Wn Wt Wa Wl Wc Wo at *
  simp only [hG_sG, hV_sG, hN_sG, hY_sG, Nat.reduceEqDiff, false_and, if_false, true_and]
  obtain ⟨W1, W2, W3, W4⟩ := W
  refine ⟨W1, W2, fun t' ht => ⟨(W3 t' ht).1, ?_⟩, W4⟩
  split
  · exact hb
  · exact (W3 t' ht).2
theorem WF_secs {h : hC} (W : WF h) {a : Nat} {b : Int32} (hb : nb b 7200) : WF (hsG h 9 a b) := by
  unfold WF Wn Wt Wa Wl Wc Wo at *
  simp only [hG_sG, hV_sG, hN_sG, hY_sG, Nat.reduceEqDiff, false_and, if_false, true_and]
  obtain ⟨W1, W2, W3, W4, W5, W6⟩ := W
  refine ⟨W1, W2, W3, W4, fun t' ht => ?_, W6⟩
  obtain ⟨a1, a2, a3, a4, a5, a6⟩ := W5 t' ht
  refine ⟨a1, a2, a3, a4, ?_, a6⟩
  split
  · exact hb
  · exact a5
theorem c_setZone {z A w h m u S} (R : RP z A w h m u S) (W : WF h) {p q r f : Int32} {Q : Int32 → mmS → Prop} {X : String → mmS → Prop}
    (h1 : ∀ t, t < hN h 0 → p = nI t → ∀ k, k = 1 ∨ k = 2 → q = nI k → nb r 10000 ∧ nb f 10000 → ∀ h' S', RP z A w h' m u S' → ST (cZ h t k r f) h' → DK (cZ h t k r f) h' (hN h 3) → Q (hY h 4 t k) S')
    (h2 : (¬ ∃ t k, t < hN h 0 ∧ p = nI t ∧ (k = 1 ∨ k = 2) ∧ q = nI k) → X IOOB S) (h3 : ∀ t, t < hN h 0 → p = nI t → ∀ k, k = 1 ∨ k = 2 → q = nI k → ¬ (nb r 10000 ∧ nb f 10000) → X IAE S) : wp_X4_setZone z S (A 10 0) p q r f Q X := by
  unfold wp_X4_setZone
  simp (disch := first | assumption | omega | (simp only [hN_sG, hN_sY, hN_sV] <;> first | assumption | omega)) only [rd R, Option.some.injEq, exists_eq_left', true_and, and_true, and_self, ne_eq, not_false_eq_true, not_true_eq_false, false_and, and_false, if_true, if_false, ite_true, ite_false, vin_0, vin_1, vin_2, vin_n, ncl, lit_0, lit_1, lit_2, lit_3, lit_4, lit_9, nm2, nm3, nm4, nm9, na1, na2, na3, na4, hG_sG, hG_sY, hG_sV, hG_sN, hY_sG, hY_sY, hY_sV, hY_sN, hV_sG, hV_sY, hV_sN, hV_sV, hN_sG, hN_sY, hN_sV, hN_sN, hF_sX, hF_sXr, hF_sF, hX_sF, hX_sX, hX_sXr, Nat.reduceEqDiff, Nat.reduceAdd, er_0, er_1, er_2, er_3, er_4, Nat.zero_lt_succ, forall_const, true_implies, false_implies, imp_self, implies_true]
  refine ru_findTariff R W (fun t ht e => ?_) (fun g => h2 fun ⟨t, k, ht, e, _⟩ => g t ht e)
  refine ru_checkAbroad (fun k hk e2 => ?_) (fun g => h2 fun ⟨t, k, _, _, hk, e2⟩ => g k hk e2)
  have h3 := h3 t ht e k hk e2
  refine ru_isMoney (fun g1 => ⟨fun q => absurd q (by decide), fun _ => ?_⟩) (fun g1 => ⟨fun _ => h3 fun q => g1 q.1, fun q => absurd rfl q⟩)
  refine ru_isMoney (fun g2 => ⟨fun _ => ?_, fun q => absurd q (by decide)⟩) (fun g2 => ⟨fun q => absurd rfl q, fun _ => h3 fun q => g2 q.2⟩)
  have hQ := h1 t ht e k hk e2 ⟨g1, g2⟩
  subst e2
  simp (disch := first | assumption | omega | (simp only [hN_sG, hN_sY, hN_sV] <;> first | assumption | omega)) only [rd R, Option.some.injEq, exists_eq_left', true_and, and_true, and_self, ne_eq, not_false_eq_true, not_true_eq_false, false_and, and_false, if_true, if_false, ite_true, ite_false, vin_0, vin_1, vin_2, vin_n, ncl, lit_0, lit_1, lit_2, lit_3, lit_4, lit_9, nm2, nm3, nm4, nm9, na1, na2, na3, na4, hG_sG, hG_sY, hG_sV, hG_sN, hY_sG, hY_sY, hY_sV, hY_sN, hV_sG, hV_sY, hV_sN, hV_sV, hN_sG, hN_sY, hN_sV, hN_sN, hF_sX, hF_sXr, hF_sF, hX_sF, hX_sX, hX_sXr, Nat.reduceEqDiff, Nat.reduceAdd, er_0, er_1, er_2, er_3, er_4, Nat.zero_lt_succ, forall_const, true_implies, false_implies, imp_self, implies_true]
  rintro v rfl
  refine up_Y R (by decide) (by decide) ht fun S1 R1 => ?_
  simp (disch := first | assumption | omega | (simp only [hN_sG, hN_sY, hN_sV] <;> first | assumption | omega)) only [rd R1, Option.some.injEq, exists_eq_left', true_and, and_true, and_self, ne_eq, not_false_eq_true, not_true_eq_false, false_and, and_false, if_true, if_false, ite_true, ite_false, vin_0, vin_1, vin_2, vin_n, ncl, lit_0, lit_1, lit_2, lit_3, lit_4, lit_9, nm2, nm3, nm4, nm9, na1, na2, na3, na4, hG_sG, hG_sY, hG_sV, hG_sN, hY_sG, hY_sY, hY_sV, hY_sN, hV_sG, hV_sY, hV_sN, hV_sV, hN_sG, hN_sY, hN_sV, hN_sN, hF_sX, hF_sXr, hF_sF, hX_sF, hX_sX, hX_sXr, Nat.reduceEqDiff, Nat.reduceAdd, er_0, er_1, er_2, er_3, er_4, Nat.zero_lt_succ, forall_const, true_implies, false_implies, imp_self, implies_true]
  refine up_Y R1 (by decide) (by decide) ht fun S2 R2 => ?_
  simp (disch := first | assumption | omega | (simp only [hN_sG, hN_sY, hN_sV] <;> first | assumption | omega)) only [rd R2, Option.some.injEq, exists_eq_left', true_and, and_true, and_self, ne_eq, not_false_eq_true, not_true_eq_false, false_and, and_false, if_true, if_false, ite_true, ite_false, vin_0, vin_1, vin_2, vin_n, ncl, lit_0, lit_1, lit_2, lit_3, lit_4, lit_9, nm2, nm3, nm4, nm9, na1, na2, na3, na4, hG_sG, hG_sY, hG_sV, hG_sN, hY_sG, hY_sY, hY_sV, hY_sN, hV_sG, hV_sY, hV_sN, hV_sV, hN_sG, hN_sY, hN_sV, hN_sN, hF_sX, hF_sXr, hF_sF, hX_sF, hX_sX, hX_sXr, Nat.reduceEqDiff, Nat.reduceAdd, er_0, er_1, er_2, er_3, er_4, Nat.zero_lt_succ, forall_const, true_implies, false_implies, imp_self, implies_true]
  exact ru_rateAll R2 (ST_refl _) (WF_zone W g1 g2) hQ
