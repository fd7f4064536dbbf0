theorem lp_mra2 {z A w h u} {c : hC} (W : WF c) {F : Nat → Int32} {Q : mmS → Prop} {X : String → mmS → Prop} (hQ : ∀ m' S', RP z A w h m' u S' → CM c m' → MK c m' (hN c 3) → hF m' = F → Q S') :
    ∀ d k m S, k + d = hN c 3 → RP z A w h m u S → CM c m → MK c m k → hF m = F → lp_X5_rateAll_39 z Q X (d + 1) S (A 12 0) (nI k) := by
  have W1 := W.1
  unfold Wn at W1
  intro d
  induction d with
  | zero =>
    intro k m S hk R C D F0
    show bk_X5_rateAll_39 z Q X _ S _ _
    unfold bk_X5_rateAll_39
    simp (disch := first | assumption | omega | (simp only [hN_sG, hN_sY, hN_sV] <;> first | assumption | omega)) only [rd R, Option.some.injEq, exists_eq_left', true_and, and_true, and_self, ne_eq, not_false_eq_true, not_true_eq_false, false_and, and_false, if_true, if_false, ite_true, ite_false, vin_0, vin_1, vin_2, vin_n, ncl, lit_0, lit_1, lit_2, lit_3, lit_4, lit_9, nm2, nm3, nm4, nm9, na1, na2, na3, na4, hG_sG, hG_sY, hG_sV, hG_sN, hY_sG, hY_sY, hY_sV, hY_sN, hV_sG, hV_sY, hV_sN, hV_sV, hN_sG, hN_sY, hN_sV, hN_sN, hF_sX, hF_sXr, hF_sF, hX_sF, hX_sX, hX_sXr, Nat.reduceEqDiff, Nat.reduceAdd, er_0, er_1, er_2, er_3, er_4, Nat.zero_lt_succ, forall_const, true_implies, false_implies, imp_self, implies_true, cm C]
    refine ⟨fun _ => hQ m S R C (by rw [← hk]; exact D) F0, fun e => absurd ?_ e⟩
    rw [nle (by omega) (by omega)]; omega
  | succ d ih =>
    intro k m S hk R C D F0
    show bk_X5_rateAll_39 z Q X (lp_X5_rateAll_39 z Q X (d + 1)) S _ _
    unfold bk_X5_rateAll_39
    simp (disch := first | assumption | omega | (simp only [hN_sG, hN_sY, hN_sV] <;> first | assumption | omega)) only [rd R, Option.some.injEq, exists_eq_left', true_and, and_true, and_self, ne_eq, not_false_eq_true, not_true_eq_false, false_and, and_false, if_true, if_false, ite_true, ite_false, vin_0, vin_1, vin_2, vin_n, ncl, lit_0, lit_1, lit_2, lit_3, lit_4, lit_9, nm2, nm3, nm4, nm9, na1, na2, na3, na4, hG_sG, hG_sY, hG_sV, hG_sN, hY_sG, hY_sY, hY_sV, hY_sN, hV_sG, hV_sY, hV_sN, hV_sV, hN_sG, hN_sY, hN_sV, hN_sN, hF_sX, hF_sXr, hF_sF, hX_sF, hX_sX, hX_sXr, Nat.reduceEqDiff, Nat.reduceAdd, er_0, er_1, er_2, er_3, er_4, Nat.zero_lt_succ, forall_const, true_implies, false_implies, imp_self, implies_true, cm C]
    refine ⟨fun e => absurd e ?_, fun _ => ?_⟩
    · rw [nle (by omega) (by omega)]; omega
    refine ru_mrate R C W (by omega) D fun m' S' R' C' D' F' => ?_
    rintro v rfl
    exact ih (k + 1) m' S' (by omega) R' C' D' (F'.trans F0)
theorem lp_mra1 {z A w h u} {c : hC} (W : WF c) {F : Nat → Int32} {Q : mmS → Prop} {X : String → mmS → Prop} (hQ : ∀ m' S', RP z A w h m' u S' → CM c m' → MK c m' (hN c 3) → hF m' = F → Q S') :
    ∀ d k m S, k + d = hN c 1 → RP z A w h m u S → CM c m → (∀ a, a < k → hX m 10 a = hG c 2 a ∧ hX m 11 a = -1) → hF m = F → lp_X5_rateAll_2 z Q X (d + 1) S (A 12 0) (nI k) := by
  have W1 := W.1
  unfold Wn at W1
  intro d
  induction d with
  | zero =>
    intro k m S hk R C a1 F0
    show bk_X5_rateAll_2 z Q X _ S _ _
    unfold bk_X5_rateAll_2
    simp (disch := first | assumption | omega | (simp only [hN_sG, hN_sY, hN_sV] <;> first | assumption | omega)) only [rd R, Option.some.injEq, exists_eq_left', true_and, and_true, and_self, ne_eq, not_false_eq_true, not_true_eq_false, false_and, and_false, if_true, if_false, ite_true, ite_false, vin_0, vin_1, vin_2, vin_n, ncl, lit_0, lit_1, lit_2, lit_3, lit_4, lit_9, nm2, nm3, nm4, nm9, na1, na2, na3, na4, hG_sG, hG_sY, hG_sV, hG_sN, hY_sG, hY_sY, hY_sV, hY_sN, hV_sG, hV_sY, hV_sN, hV_sV, hN_sG, hN_sY, hN_sV, hN_sN, hF_sX, hF_sXr, hF_sF, hX_sF, hX_sX, hX_sXr, Nat.reduceEqDiff, Nat.reduceAdd, er_0, er_1, er_2, er_3, er_4, Nat.zero_lt_succ, forall_const, true_implies, false_implies, imp_self, implies_true, cm C]
    refine ⟨fun _ => ?_, fun e => absurd ?_ e⟩
    · rintro v rfl
      exact ⟨hN c 3 + 1, lp_mra2 W hQ (hN c 3) 0 m S (by omega) R C ⟨fun a ha => a1 a (by omega), fun k' hk' => by omega⟩ F0⟩
    rw [nle (by omega) (by omega)]; omega
  | succ d ih =>
    intro k m S hk R C a1 F0
    show bk_X5_rateAll_2 z Q X (lp_X5_rateAll_2 z Q X (d + 1)) S _ _
    unfold bk_X5_rateAll_2
    simp (disch := first | assumption | omega | (simp only [hN_sG, hN_sY, hN_sV] <;> first | assumption | omega)) only [rd R, Option.some.injEq, exists_eq_left', true_and, and_true, and_self, ne_eq, not_false_eq_true, not_true_eq_false, false_and, and_false, if_true, if_false, ite_true, ite_false, vin_0, vin_1, vin_2, vin_n, ncl, lit_0, lit_1, lit_2, lit_3, lit_4, lit_9, nm2, nm3, nm4, nm9, na1, na2, na3, na4, hG_sG, hG_sY, hG_sV, hG_sN, hY_sG, hY_sY, hY_sV, hY_sN, hV_sG, hV_sY, hV_sN, hV_sV, hN_sG, hN_sY, hN_sV, hN_sN, hF_sX, hF_sXr, hF_sF, hX_sF, hX_sX, hX_sXr, Nat.reduceEqDiff, Nat.reduceAdd, er_0, er_1, er_2, er_3, er_4, Nat.zero_lt_succ, forall_const, true_implies, false_implies, imp_self, implies_true, cm C]
    refine ⟨fun e => absurd e ?_, fun _ => ?_⟩
    · rw [nle (by omega) (by omega)]; omega
    refine up_X R (by decide) fun S1 R1 => ?_
    simp (disch := first | assumption | omega | (simp only [hN_sG, hN_sY, hN_sV] <;> first | assumption | omega)) only [rd R1, Option.some.injEq, exists_eq_left', true_and, and_true, and_self, ne_eq, not_false_eq_true, not_true_eq_false, false_and, and_false, if_true, if_false, ite_true, ite_false, vin_0, vin_1, vin_2, vin_n, ncl, lit_0, lit_1, lit_2, lit_3, lit_4, lit_9, nm2, nm3, nm4, nm9, na1, na2, na3, na4, hG_sG, hG_sY, hG_sV, hG_sN, hY_sG, hY_sY, hY_sV, hY_sN, hV_sG, hV_sY, hV_sN, hV_sV, hN_sG, hN_sY, hN_sV, hN_sN, hF_sX, hF_sXr, hF_sF, hX_sF, hX_sX, hX_sXr, Nat.reduceEqDiff, Nat.reduceAdd, er_0, er_1, er_2, er_3, er_4, Nat.zero_lt_succ, forall_const, true_implies, false_implies, imp_self, implies_true]
    refine up_X R1 (by decide) fun S2 R2 => ?_
    rintro v rfl
    refine ih (k + 1) _ S2 (by omega) R2 (CM_sX (CM_sX C (by decide)) (by decide)) (fun a ha => ?_) F0
    by_cases e : a = k
    · subst e
      rw [hX_ne (by decide), hX_sX, if_pos ⟨rfl, rfl⟩, hX_sX, if_pos ⟨rfl, rfl⟩]
      exact ⟨rfl, rfl⟩
    · rw [hX_ne (by decide), hX_sX, if_neg (fun q => e q.2), hX_sX, if_neg (fun q => e q.2), hX_ne (by decide)]
      exact a1 a (by omega)
theorem ru_mrateAll {z A w h m u S} (R : RP z A w h m u S) {c : hC} (C : CM c m) (W : WF c) {Q : mmS → Prop} {X : String → mmS → Prop}
    (hQ : ∀ m' S', RP z A w h m' u S' → CM c m' → MK c m' (hN c 3) → hF m' = hF m → Q S') : wp_X5_rateAll z S (A 12 0) Q X := by
  unfold wp_X5_rateAll
  rintro v rfl
  exact ⟨hN c 1 + 1, lp_mra1 W hQ (hN c 1) 0 m S (by omega) R C (fun a ha => by omega) rfl⟩
