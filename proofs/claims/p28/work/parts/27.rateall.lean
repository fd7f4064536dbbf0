theorem nb_le0 {x : Int32} {B : Nat} (h : nb x B) (hB : B < 2147483648) : x ≤ 0 ↔ x = 0 := by
  constructor
  · intro e; exact Int32.le_antisymm e (Int32.not_lt.mp (nb_ge h hB))
  · intro e; rw [e]; decide
theorem lp_ra3 {z A w m u} {c : hC} (W : WF c) {Q : mmS → Prop} {X : String → mmS → Prop} (hQ : ∀ h' S', RP z A w h' m u S' → ST c h' → DK c h' (hN c 3) → Q S') :
    ∀ d k h S, k + d = hN c 3 → RP z A w h m u S → ST c h → DK c h k → lp_X4_rateAll_68 z Q X (d + 1) S (A 10 0) (nI k) := by
  intro d
  induction d with
  | zero =>
    intro k h S hk R s D
    show bk_X4_rateAll_68 z Q X _ S _ _
    have W1 := W.1
    unfold Wn at W1
    unfold bk_X4_rateAll_68
    simp (disch := first | assumption | omega | (simp only [hN_sG, hN_sY, hN_sV] <;> first | assumption | omega)) only [rd R, st s, Option.some.injEq, exists_eq_left', true_and, and_true, and_self, ne_eq, not_false_eq_true, not_true_eq_false, false_and, and_false, if_true, if_false, ite_true, ite_false, vin_0, vin_1, vin_2, vin_n, ncl, lit_0, lit_1, lit_2, lit_3, lit_4, lit_9, nm2, nm3, nm4, nm9, na1, na2, na3, na4, hG_sG, hG_sY, hG_sV, hG_sN, hY_sG, hY_sY, hY_sV, hY_sN, hV_sG, hV_sY, hV_sN, hV_sV, hN_sG, hN_sY, hN_sV, hN_sN, hF_sX, hF_sXr, hF_sF, hX_sF, hX_sX, hX_sXr, Nat.reduceEqDiff, Nat.reduceAdd, er_0, er_1, er_2, er_3, er_4, Nat.zero_lt_succ, forall_const, true_implies, false_implies, imp_self, implies_true]
    refine ru_size R (by decide) ?_
    simp (disch := first | assumption | omega | (simp only [hN_sG, hN_sY, hN_sV] <;> first | assumption | omega)) only [rd R, st s, Option.some.injEq, exists_eq_left', true_and, and_true, and_self, ne_eq, not_false_eq_true, not_true_eq_false, false_and, and_false, if_true, if_false, ite_true, ite_false, vin_0, vin_1, vin_2, vin_n, ncl, lit_0, lit_1, lit_2, lit_3, lit_4, lit_9, nm2, nm3, nm4, nm9, na1, na2, na3, na4, hG_sG, hG_sY, hG_sV, hG_sN, hY_sG, hY_sY, hY_sV, hY_sN, hV_sG, hV_sY, hV_sN, hV_sV, hN_sG, hN_sY, hN_sV, hN_sN, hF_sX, hF_sXr, hF_sF, hX_sF, hX_sX, hX_sXr, Nat.reduceEqDiff, Nat.reduceAdd, er_0, er_1, er_2, er_3, er_4, Nat.zero_lt_succ, forall_const, true_implies, false_implies, imp_self, implies_true]
    refine ⟨fun _ => hQ h S R s (by rw [← hk]; exact D), fun e => absurd ?_ e⟩
    rw [nle (by omega) (by omega)]; omega
  | succ d ih =>
    intro k h S hk R s D
    show bk_X4_rateAll_68 z Q X (lp_X4_rateAll_68 z Q X (d + 1)) S _ _
    have W1 := W.1
    unfold Wn at W1
    have hk3 : k < hN c 3 := by omega
    have ho := W.2.2.2.2.2.1 k hk3
    have ho' : hV c 9 k < hN h 3 := by rw [s.1]; exact ho
    have hk9 : k < hN h (5 + 4) := by rw [s.1]; show k < hN c 9; omega
    have hb9 : hN h (5 + 4) ≤ 128 := by rw [s.1]; show hN c 9 ≤ 128; omega
    unfold bk_X4_rateAll_68
    simp (disch := first | assumption | omega | (simp only [hN_sG, hN_sY, hN_sV] <;> first | assumption | omega)) only [rd R, st s, Option.some.injEq, exists_eq_left', true_and, and_true, and_self, ne_eq, not_false_eq_true, not_true_eq_false, false_and, and_false, if_true, if_false, ite_true, ite_false, vin_0, vin_1, vin_2, vin_n, ncl, lit_0, lit_1, lit_2, lit_3, lit_4, lit_9, nm2, nm3, nm4, nm9, na1, na2, na3, na4, hG_sG, hG_sY, hG_sV, hG_sN, hY_sG, hY_sY, hY_sV, hY_sN, hV_sG, hV_sY, hV_sN, hV_sV, hN_sG, hN_sY, hN_sV, hN_sN, hF_sX, hF_sXr, hF_sF, hX_sF, hX_sX, hX_sXr, Nat.reduceEqDiff, Nat.reduceAdd, er_0, er_1, er_2, er_3, er_4, Nat.zero_lt_succ, forall_const, true_implies, false_implies, imp_self, implies_true]
    refine ru_size R (by decide) ?_
    simp (disch := first | assumption | omega | (simp only [hN_sG, hN_sY, hN_sV] <;> first | assumption | omega)) only [rd R, st s, Option.some.injEq, exists_eq_left', true_and, and_true, and_self, ne_eq, not_false_eq_true, not_true_eq_false, false_and, and_false, if_true, if_false, ite_true, ite_false, vin_0, vin_1, vin_2, vin_n, ncl, lit_0, lit_1, lit_2, lit_3, lit_4, lit_9, nm2, nm3, nm4, nm9, na1, na2, na3, na4, hG_sG, hG_sY, hG_sV, hG_sN, hY_sG, hY_sY, hY_sV, hY_sN, hV_sG, hV_sY, hV_sN, hV_sV, hN_sG, hN_sY, hN_sV, hN_sN, hF_sX, hF_sXr, hF_sF, hX_sF, hX_sX, hX_sXr, Nat.reduceEqDiff, Nat.reduceAdd, er_0, er_1, er_2, er_3, er_4, Nat.zero_lt_succ, forall_const, true_implies, false_implies, imp_self, implies_true]
    refine ⟨fun e => absurd e ?_, fun _ => ?_⟩
    · rw [nle (by omega) (by omega)]; omega
    refine ru_get R (by decide) hk9 hb9 ?_
    simp (disch := first | assumption | omega | (simp only [hN_sG, hN_sY, hN_sV] <;> first | assumption | omega)) only [rd R, st s, Option.some.injEq, exists_eq_left', true_and, and_true, and_self, ne_eq, not_false_eq_true, not_true_eq_false, false_and, and_false, if_true, if_false, ite_true, ite_false, vin_0, vin_1, vin_2, vin_n, ncl, lit_0, lit_1, lit_2, lit_3, lit_4, lit_9, nm2, nm3, nm4, nm9, na1, na2, na3, na4, hG_sG, hG_sY, hG_sV, hG_sN, hY_sG, hY_sY, hY_sV, hY_sN, hV_sG, hV_sY, hV_sN, hV_sV, hN_sG, hN_sY, hN_sV, hN_sN, hF_sX, hF_sXr, hF_sF, hX_sF, hX_sX, hX_sXr, Nat.reduceEqDiff, Nat.reduceAdd, er_0, er_1, er_2, er_3, er_4, Nat.zero_lt_succ, forall_const, true_implies, false_implies, imp_self, implies_true]
    refine ru_X1_forgetRating R ho' fun S1 R1 => ?_
    have s1 : ST c (hsG (hsG (hsG (hsG h 10 (hV c 9 k) 0) 11 (hV c 9 k) 0) 12 (hV c 9 k) 0) 13 (hV c 9 k) 0) := ST_sG (ST_sG (ST_sG (ST_sG s rfl) rfl) rfl) rfl
    simp (disch := first | assumption | omega | (simp only [hN_sG, hN_sY, hN_sV] <;> first | assumption | omega)) only [rd R1, st s, Option.some.injEq, exists_eq_left', true_and, and_true, and_self, ne_eq, not_false_eq_true, not_true_eq_false, false_and, and_false, if_true, if_false, ite_true, ite_false, vin_0, vin_1, vin_2, vin_n, ncl, lit_0, lit_1, lit_2, lit_3, lit_4, lit_9, nm2, nm3, nm4, nm9, na1, na2, na3, na4, hG_sG, hG_sY, hG_sV, hG_sN, hY_sG, hY_sY, hY_sV, hY_sN, hV_sG, hV_sY, hV_sN, hV_sV, hN_sG, hN_sY, hN_sV, hN_sN, hF_sX, hF_sXr, hF_sF, hX_sF, hX_sX, hX_sXr, Nat.reduceEqDiff, Nat.reduceAdd, er_0, er_1, er_2, er_3, er_4, Nat.zero_lt_succ, forall_const, true_implies, false_implies, imp_self, implies_true]
    refine ⟨fun e => ?_, fun e => ?_⟩
    · unfold bk_X4_rateAll_107
      rintro v1 rfl
      rw [na1]
      refine ih (k + 1) _ S1 (by omega) R1 s1 (DK_no W hk3 ?_ D rfl)
      exact (nb_le0 (W.2.2.2.2.1 _ ho).2.2.2.2.1 (by omega)).mp e
    · have h0 : ¬ hG c 9 (hV c 9 k) = 0 := fun q => e (by rw [q]; decide)
      have D1 : DK c (hsG (hsG (hsG (hsG h 10 (hV c 9 k) 0) 11 (hV c 9 k) 0) 12 (hV c 9 k) 0) 13 (hV c 9 k) 0) k := by
        refine ⟨fun a ha => ?_, fun l hl => ?_, fun k' hk' => ?_⟩
        · exact D.1 a ha
        · exact D.2.1 l hl
        · have hne : ¬ hV c 9 k' = hV c 9 k := fun g => absurd (W.2.2.2.2.2.2.1 k' k (by omega) hk3 g) (by omega)
          simp only [hG_sG, hne, and_false, if_false]
          exact D.2.2 k' hk'
      refine ru_rate R1 s1 W hk3 D1 h0 (by simp [hG_sG]) (by simp [hG_sG]) fun h' S' R' s' D' => ?_
      unfold bk_X4_rateAll_107
      rintro v1 rfl
      rw [na1]
      exact ih (k + 1) _ S' (by omega) R' s' D'
theorem fgl {h : hC} {k : Nat} (a2 : ∀ l, l < k → hG h 14 l = 0 ∧ ∀ q, q = 1 ∨ q = 2 → hY h 6 l q = 0 ∧ hY h 7 l q = -1) : ∀ l, l < k + 1 → hG (hsY (hsY (hsY (hsY (hsG h 14 k 0) 6 k 1 0) 7 k 1 (-1)) 6 k 2 0) 7 k 2 (-1)) 14 l = 0 ∧ ∀ q, q = 1 ∨ q = 2 → hY (hsY (hsY (hsY (hsY (hsG h 14 k 0) 6 k 1 0) 7 k 1 (-1)) 6 k 2 0) 7 k 2 (-1)) 6 l q = 0 ∧ hY (hsY (hsY (hsY (hsY (hsG h 14 k 0) 6 k 1 0) 7 k 1 (-1)) 6 k 2 0) 7 k 2 (-1)) 7 l q = -1 := by
  intro l hl
  simp only [hG_sY, hG_sG, hY_sY, hY_sG]
  by_cases e : l = k
  · subst e
    refine ⟨by simp, fun q hq => ?_⟩
    rcases hq with hq | hq <;> subst hq <;> simp
  · simp only [e, false_and, and_false, if_false]
    exact a2 l (by omega)
theorem lp_ra2 {z A w m u} {c : hC} (W : WF c) {Q : mmS → Prop} {X : String → mmS → Prop} (hQ : ∀ h' S', RP z A w h' m u S' → ST c h' → DK c h' (hN c 3) → Q S') :
    ∀ d k h S, k + d = hN c 2 → RP z A w h m u S → ST c h → (∀ a, a < hN c 1 → hG h 3 a = hG c 2 a ∧ hG h 4 a = -1 ∧ hG h 5 a = 0) → (∀ l, l < k → hG h 14 l = 0 ∧ ∀ q, q = 1 ∨ q = 2 → hY h 6 l q = 0 ∧ hY h 7 l q = -1) → lp_X4_rateAll_35 z Q X (d + 1) S (A 10 0) (nI k) := by
  intro d
  induction d with
  | zero =>
    intro k h S hk R s a1 a2
    show bk_X4_rateAll_35 z Q X _ S _ _
    have W1 := W.1
    unfold Wn at W1
    unfold bk_X4_rateAll_35
    simp (disch := first | assumption | omega | (simp only [hN_sG, hN_sY, hN_sV] <;> first | assumption | omega)) only [rd R, st s, Option.some.injEq, exists_eq_left', true_and, and_true, and_self, ne_eq, not_false_eq_true, not_true_eq_false, false_and, and_false, if_true, if_false, ite_true, ite_false, vin_0, vin_1, vin_2, vin_n, ncl, lit_0, lit_1, lit_2, lit_3, lit_4, lit_9, nm2, nm3, nm4, nm9, na1, na2, na3, na4, hG_sG, hG_sY, hG_sV, hG_sN, hY_sG, hY_sY, hY_sV, hY_sN, hV_sG, hV_sY, hV_sN, hV_sV, hN_sG, hN_sY, hN_sV, hN_sN, hF_sX, hF_sXr, hF_sF, hX_sF, hX_sX, hX_sXr, Nat.reduceEqDiff, Nat.reduceAdd, er_0, er_1, er_2, er_3, er_4, Nat.zero_lt_succ, forall_const, true_implies, false_implies, imp_self, implies_true]
    refine ru_size R (by decide) ?_
    simp (disch := first | assumption | omega | (simp only [hN_sG, hN_sY, hN_sV] <;> first | assumption | omega)) only [rd R, st s, Option.some.injEq, exists_eq_left', true_and, and_true, and_self, ne_eq, not_false_eq_true, not_true_eq_false, false_and, and_false, if_true, if_false, ite_true, ite_false, vin_0, vin_1, vin_2, vin_n, ncl, lit_0, lit_1, lit_2, lit_3, lit_4, lit_9, nm2, nm3, nm4, nm9, na1, na2, na3, na4, hG_sG, hG_sY, hG_sV, hG_sN, hY_sG, hY_sY, hY_sV, hY_sN, hV_sG, hV_sY, hV_sN, hV_sV, hN_sG, hN_sY, hN_sV, hN_sN, hF_sX, hF_sXr, hF_sF, hX_sF, hX_sX, hX_sXr, Nat.reduceEqDiff, Nat.reduceAdd, er_0, er_1, er_2, er_3, er_4, Nat.zero_lt_succ, forall_const, true_implies, false_implies, imp_self, implies_true]
    refine ⟨fun _ => ?_, fun e => absurd ?_ e⟩
    · rintro v rfl
      refine ⟨hN c 3 + 1, lp_ra3 W hQ (hN c 3) 0 h S (by omega) R s ⟨fun a ha => a1 a ha, fun l hl => ?_, fun k' hk' => by omega⟩⟩
      obtain ⟨b1, b2⟩ := a2 l (by omega)
      exact ⟨b1, fun q hq => ⟨(b2 q hq).1, (b2 q hq).2, fun e => absurd rfl e⟩⟩
    · rw [nle (by omega) (by omega)]; omega
  | succ d ih =>
    intro k h S hk R s a1 a2
    show bk_X4_rateAll_35 z Q X (lp_X4_rateAll_35 z Q X (d + 1)) S _ _
    have W1 := W.1
    unfold Wn at W1
    have hk3 : k < hN c 2 := by omega
    have ho := (W.2.2.2.1 k hk3).1
    have ho' : k < hN h 2 := by rw [s.1]; exact hk3
    have hk9 : k < hN h (5 + 2) := by rw [s.1]; show k < hN c 7; omega
    have hb9 : hN h (5 + 2) ≤ 128 := by rw [s.1]; show hN c 7 ≤ 128; omega
    unfold bk_X4_rateAll_35
    simp (disch := first | assumption | omega | (simp only [hN_sG, hN_sY, hN_sV] <;> first | assumption | omega)) only [rd R, st s, Option.some.injEq, exists_eq_left', true_and, and_true, and_self, ne_eq, not_false_eq_true, not_true_eq_false, false_and, and_false, if_true, if_false, ite_true, ite_false, vin_0, vin_1, vin_2, vin_n, ncl, lit_0, lit_1, lit_2, lit_3, lit_4, lit_9, nm2, nm3, nm4, nm9, na1, na2, na3, na4, hG_sG, hG_sY, hG_sV, hG_sN, hY_sG, hY_sY, hY_sV, hY_sN, hV_sG, hV_sY, hV_sN, hV_sV, hN_sG, hN_sY, hN_sV, hN_sN, hF_sX, hF_sXr, hF_sF, hX_sF, hX_sX, hX_sXr, Nat.reduceEqDiff, Nat.reduceAdd, er_0, er_1, er_2, er_3, er_4, Nat.zero_lt_succ, forall_const, true_implies, false_implies, imp_self, implies_true]
    refine ru_size R (by decide) ?_
    simp (disch := first | assumption | omega | (simp only [hN_sG, hN_sY, hN_sV] <;> first | assumption | omega)) only [rd R, st s, Option.some.injEq, exists_eq_left', true_and, and_true, and_self, ne_eq, not_false_eq_true, not_true_eq_false, false_and, and_false, if_true, if_false, ite_true, ite_false, vin_0, vin_1, vin_2, vin_n, ncl, lit_0, lit_1, lit_2, lit_3, lit_4, lit_9, nm2, nm3, nm4, nm9, na1, na2, na3, na4, hG_sG, hG_sY, hG_sV, hG_sN, hY_sG, hY_sY, hY_sV, hY_sN, hV_sG, hV_sY, hV_sN, hV_sV, hN_sG, hN_sY, hN_sV, hN_sN, hF_sX, hF_sXr, hF_sF, hX_sF, hX_sX, hX_sXr, Nat.reduceEqDiff, Nat.reduceAdd, er_0, er_1, er_2, er_3, er_4, Nat.zero_lt_succ, forall_const, true_implies, false_implies, imp_self, implies_true]
    refine ⟨fun e => absurd e ?_, fun _ => ?_⟩
    · rw [nle (by omega) (by omega)]; omega
    refine ru_get R (by decide) hk9 hb9 ?_
    simp (disch := first | assumption | omega | (simp only [hN_sG, hN_sY, hN_sV] <;> first | assumption | omega)) only [rd R, st s, Option.some.injEq, exists_eq_left', true_and, and_true, and_self, ne_eq, not_false_eq_true, not_true_eq_false, false_and, and_false, if_true, if_false, ite_true, ite_false, vin_0, vin_1, vin_2, vin_n, ncl, lit_0, lit_1, lit_2, lit_3, lit_4, lit_9, nm2, nm3, nm4, nm9, na1, na2, na3, na4, hG_sG, hG_sY, hG_sV, hG_sN, hY_sG, hY_sY, hY_sV, hY_sN, hV_sG, hV_sY, hV_sN, hV_sV, hN_sG, hN_sY, hN_sV, hN_sN, hF_sX, hF_sXr, hF_sF, hX_sF, hX_sX, hX_sXr, Nat.reduceEqDiff, Nat.reduceAdd, er_0, er_1, er_2, er_3, er_4, Nat.zero_lt_succ, forall_const, true_implies, false_implies, imp_self, implies_true, ho]
    refine ru_X2_forgetRating R ho' fun S1 R1 => ?_
    rintro v1 rfl
    refine ih (k + 1) _ S1 (by omega) R1 (ST_sY (ST_sY (ST_sY (ST_sY (ST_sG s rfl) (by decide)) (by decide)) (by decide)) (by decide)) (fun a ha => by simp only [hG_sY, hG_sG, Nat.reduceEqDiff, false_and, if_false]; exact a1 a ha) (fgl a2)
theorem lp_ra1 {z A w m u} {c : hC} (W : WF c) {Q : mmS → Prop} {X : String → mmS → Prop} (hQ : ∀ h' S', RP z A w h' m u S' → ST c h' → DK c h' (hN c 3) → Q S') :
    ∀ d k h S, k + d = hN c 1 → RP z A w h m u S → ST c h → (∀ a, a < k → hG h 3 a = hG c 2 a ∧ hG h 4 a = -1 ∧ hG h 5 a = 0) → lp_X4_rateAll_2 z Q X (d + 1) S (A 10 0) (nI k) := by
  intro d
  induction d with
  | zero =>
    intro k h S hk R s a1
    show bk_X4_rateAll_2 z Q X _ S _ _
    have W1 := W.1
    unfold Wn at W1
    unfold bk_X4_rateAll_2
    simp (disch := first | assumption | omega | (simp only [hN_sG, hN_sY, hN_sV] <;> first | assumption | omega)) only [rd R, st s, Option.some.injEq, exists_eq_left', true_and, and_true, and_self, ne_eq, not_false_eq_true, not_true_eq_false, false_and, and_false, if_true, if_false, ite_true, ite_false, vin_0, vin_1, vin_2, vin_n, ncl, lit_0, lit_1, lit_2, lit_3, lit_4, lit_9, nm2, nm3, nm4, nm9, na1, na2, na3, na4, hG_sG, hG_sY, hG_sV, hG_sN, hY_sG, hY_sY, hY_sV, hY_sN, hV_sG, hV_sY, hV_sN, hV_sV, hN_sG, hN_sY, hN_sV, hN_sN, hF_sX, hF_sXr, hF_sF, hX_sF, hX_sX, hX_sXr, Nat.reduceEqDiff, Nat.reduceAdd, er_0, er_1, er_2, er_3, er_4, Nat.zero_lt_succ, forall_const, true_implies, false_implies, imp_self, implies_true]
    refine ru_size R (by decide) ?_
    simp (disch := first | assumption | omega | (simp only [hN_sG, hN_sY, hN_sV] <;> first | assumption | omega)) only [rd R, st s, Option.some.injEq, exists_eq_left', true_and, and_true, and_self, ne_eq, not_false_eq_true, not_true_eq_false, false_and, and_false, if_true, if_false, ite_true, ite_false, vin_0, vin_1, vin_2, vin_n, ncl, lit_0, lit_1, lit_2, lit_3, lit_4, lit_9, nm2, nm3, nm4, nm9, na1, na2, na3, na4, hG_sG, hG_sY, hG_sV, hG_sN, hY_sG, hY_sY, hY_sV, hY_sN, hV_sG, hV_sY, hV_sN, hV_sV, hN_sG, hN_sY, hN_sV, hN_sN, hF_sX, hF_sXr, hF_sF, hX_sF, hX_sX, hX_sXr, Nat.reduceEqDiff, Nat.reduceAdd, er_0, er_1, er_2, er_3, er_4, Nat.zero_lt_succ, forall_const, true_implies, false_implies, imp_self, implies_true]
    refine ⟨fun _ => ?_, fun e => absurd ?_ e⟩
    · rintro v rfl
      exact ⟨hN c 2 + 1, lp_ra2 W hQ (hN c 2) 0 h S (by omega) R s (fun a ha => a1 a (by omega)) (fun l hl => by omega)⟩
    · rw [nle (by omega) (by omega)]; omega
  | succ d ih =>
    intro k h S hk R s a1
    show bk_X4_rateAll_2 z Q X (lp_X4_rateAll_2 z Q X (d + 1)) S _ _
    have W1 := W.1
    unfold Wn at W1
    have hk3 : k < hN c 1 := by omega
    have ho := (W.2.2.1 k hk3).1
    have ho' : k < hN h 1 := by rw [s.1]; exact hk3
    have hk9 : k < hN h (5 + 1) := by rw [s.1]; show k < hN c 6; omega
    have hb9 : hN h (5 + 1) ≤ 128 := by rw [s.1]; show hN c 6 ≤ 128; omega
    unfold bk_X4_rateAll_2
    simp (disch := first | assumption | omega | (simp only [hN_sG, hN_sY, hN_sV] <;> first | assumption | omega)) only [rd R, st s, Option.some.injEq, exists_eq_left', true_and, and_true, and_self, ne_eq, not_false_eq_true, not_true_eq_false, false_and, and_false, if_true, if_false, ite_true, ite_false, vin_0, vin_1, vin_2, vin_n, ncl, lit_0, lit_1, lit_2, lit_3, lit_4, lit_9, nm2, nm3, nm4, nm9, na1, na2, na3, na4, hG_sG, hG_sY, hG_sV, hG_sN, hY_sG, hY_sY, hY_sV, hY_sN, hV_sG, hV_sY, hV_sN, hV_sV, hN_sG, hN_sY, hN_sV, hN_sN, hF_sX, hF_sXr, hF_sF, hX_sF, hX_sX, hX_sXr, Nat.reduceEqDiff, Nat.reduceAdd, er_0, er_1, er_2, er_3, er_4, Nat.zero_lt_succ, forall_const, true_implies, false_implies, imp_self, implies_true]
    refine ru_size R (by decide) ?_
    simp (disch := first | assumption | omega | (simp only [hN_sG, hN_sY, hN_sV] <;> first | assumption | omega)) only [rd R, st s, Option.some.injEq, exists_eq_left', true_and, and_true, and_self, ne_eq, not_false_eq_true, not_true_eq_false, false_and, and_false, if_true, if_false, ite_true, ite_false, vin_0, vin_1, vin_2, vin_n, ncl, lit_0, lit_1, lit_2, lit_3, lit_4, lit_9, nm2, nm3, nm4, nm9, na1, na2, na3, na4, hG_sG, hG_sY, hG_sV, hG_sN, hY_sG, hY_sY, hY_sV, hY_sN, hV_sG, hV_sY, hV_sN, hV_sV, hN_sG, hN_sY, hN_sV, hN_sN, hF_sX, hF_sXr, hF_sF, hX_sF, hX_sX, hX_sXr, Nat.reduceEqDiff, Nat.reduceAdd, er_0, er_1, er_2, er_3, er_4, Nat.zero_lt_succ, forall_const, true_implies, false_implies, imp_self, implies_true]
    refine ⟨fun e => absurd e ?_, fun _ => ?_⟩
    · rw [nle (by omega) (by omega)]; omega
    refine ru_get R (by decide) hk9 hb9 ?_
    simp (disch := first | assumption | omega | (simp only [hN_sG, hN_sY, hN_sV] <;> first | assumption | omega)) only [rd R, st s, Option.some.injEq, exists_eq_left', true_and, and_true, and_self, ne_eq, not_false_eq_true, not_true_eq_false, false_and, and_false, if_true, if_false, ite_true, ite_false, vin_0, vin_1, vin_2, vin_n, ncl, lit_0, lit_1, lit_2, lit_3, lit_4, lit_9, nm2, nm3, nm4, nm9, na1, na2, na3, na4, hG_sG, hG_sY, hG_sV, hG_sN, hY_sG, hY_sY, hY_sV, hY_sN, hV_sG, hV_sY, hV_sN, hV_sV, hN_sG, hN_sY, hN_sV, hN_sN, hF_sX, hF_sXr, hF_sF, hX_sF, hX_sX, hX_sXr, Nat.reduceEqDiff, Nat.reduceAdd, er_0, er_1, er_2, er_3, er_4, Nat.zero_lt_succ, forall_const, true_implies, false_implies, imp_self, implies_true, ho]
    refine ru_X0_forgetRating R ho' fun S1 R1 => ?_
    rintro v1 rfl
    refine ih (k + 1) _ S1 (by omega) R1 (ST_sG (ST_sG (ST_sG s rfl) rfl) rfl) fun l hl => ?_
    by_cases e : l = k
    · subst e
      simp [hG_sG]
      rw [s.2.2.1 2 rfl]
    · simp only [hG_sG, e, and_false, if_false]
      exact a1 l (by omega)
theorem ru_rateAll {z A w h m u S} (R : RP z A w h m u S) {c : hC} (s : ST c h) (W : WF c) {Q : mmS → Prop} {X : String → mmS → Prop} (hQ : ∀ h' S', RP z A w h' m u S' → ST c h' → DK c h' (hN c 3) → Q S') : wp_X4_rateAll z S (A 10 0) Q X := by
  unfold wp_X4_rateAll
  rintro v rfl
  exact ⟨hN c 1 + 1, lp_ra1 W hQ (hN c 1) 0 h S (by omega) R s (fun a ha => by omega)⟩
