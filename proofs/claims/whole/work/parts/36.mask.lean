/-! what the model is asked -/
theorem ru_fail {z A w h m u S} (R : RP z A w h m u S) {e : Int32} {Q : Int32 → mmS → Prop} {X : String → mmS → Prop} (hQ : ∀ S', RP z A w h (hsF m 23 e) u S' → Q 0 S') : wp_X5_fail z S (A 12 0) e Q X := by
  unfold wp_X5_fail
  simp (disch := first | assumption | omega | (simp only [hN_sG, hN_sY, hN_sV] <;> first | assumption | omega)) only [rd R, Option.some.injEq, exists_eq_left', true_and, and_true, and_self, ne_eq, not_false_eq_true, not_true_eq_false, false_and, and_false, if_true, if_false, ite_true, ite_false, vin_0, vin_1, vin_2, vin_n, ncl, lit_0, lit_1, lit_2, lit_3, lit_4, lit_9, nm2, nm3, nm4, nm9, na1, na2, na3, na4, hG_sG, hG_sY, hG_sV, hG_sN, hY_sG, hY_sY, hY_sV, hY_sN, hV_sG, hV_sY, hV_sN, hV_sV, hN_sG, hN_sY, hN_sV, hN_sN, hF_sX, hF_sXr, hF_sF, hX_sF, hX_sX, hX_sXr, Nat.reduceEqDiff, Nat.reduceAdd, er_0, er_1, er_2, er_3, er_4, Nat.zero_lt_succ, forall_const, true_implies, false_implies, imp_self, implies_true]
  exact up_F R (by decide) (by decide) fun S1 R1 => hQ S1 R1
/-- what a call of the model leaves behind -/
def MA (z : Nat × Nat) (A : Nat → Nat → Nat) (w : Nat → Nat × Nat) (h : hC) (u : Int64) (e : Int32) (K : mmS → Prop) : Prop := ∀ m' S', RP z A w h m' u S' → CM h m' → hF m' 23 = e → K S'
theorem MA_no {z A w h m u S} (R : RP z A w h m u S) (C : CM h m) {e : Int32} {Q : Int32 → mmS → Prop} {X : String → mmS → Prop} (hK : MA z A w h u e (Q 0)) : wp_X5_fail z S (A 12 0) e Q X :=
  ru_fail R fun S1 R1 => hK _ S1 R1 (CM_s23 C) (by rw [hF_sF, if_pos rfl])
theorem m_callCount {z A w h m u S} (R : RP z A w h m u S) (C : CM h m) {Q : Int32 → mmS → Prop} {X : String → mmS → Prop} (hK : MA z A w h u 0 (Q (nI (hN h 3)))) : wp_X5_callCount z S (A 12 0) Q X := by
  unfold wp_X5_callCount
  simp (disch := first | assumption | omega | (simp only [hN_sG, hN_sY, hN_sV] <;> first | assumption | omega)) only [rd R, Option.some.injEq, exists_eq_left', true_and, and_true, and_self, ne_eq, not_false_eq_true, not_true_eq_false, false_and, and_false, if_true, if_false, ite_true, ite_false, vin_0, vin_1, vin_2, vin_n, ncl, lit_0, lit_1, lit_2, lit_3, lit_4, lit_9, nm2, nm3, nm4, nm9, na1, na2, na3, na4, hG_sG, hG_sY, hG_sV, hG_sN, hY_sG, hY_sY, hY_sV, hY_sN, hV_sG, hV_sY, hV_sN, hV_sV, hN_sG, hN_sY, hN_sV, hN_sN, hF_sX, hF_sXr, hF_sF, hX_sF, hX_sX, hX_sXr, Nat.reduceEqDiff, Nat.reduceAdd, er_0, er_1, er_2, er_3, er_4, Nat.zero_lt_succ, forall_const, true_implies, false_implies, imp_self, implies_true]
  refine up_F R (by decide) (by decide) fun S1 R1 => ?_
  simp (disch := first | assumption | omega | (simp only [hN_sG, hN_sY, hN_sV] <;> first | assumption | omega)) only [rd R1, Option.some.injEq, exists_eq_left', true_and, and_true, and_self, ne_eq, not_false_eq_true, not_true_eq_false, false_and, and_false, if_true, if_false, ite_true, ite_false, vin_0, vin_1, vin_2, vin_n, ncl, lit_0, lit_1, lit_2, lit_3, lit_4, lit_9, nm2, nm3, nm4, nm9, na1, na2, na3, na4, hG_sG, hG_sY, hG_sV, hG_sN, hY_sG, hY_sY, hY_sV, hY_sN, hV_sG, hV_sY, hV_sN, hV_sV, hN_sG, hN_sY, hN_sV, hN_sN, hF_sX, hF_sXr, hF_sF, hX_sF, hX_sX, hX_sXr, Nat.reduceEqDiff, Nat.reduceAdd, er_0, er_1, er_2, er_3, er_4, Nat.zero_lt_succ, forall_const, true_implies, false_implies, imp_self, implies_true, cm C]
  exact hK _ S1 R1 (CM_s23 C) (by rw [hF_sF, if_pos rfl])
theorem m_callAt {z A w h m u S} (R : RP z A w h m u S) (W : WF h) (C : CM h m) {p : Int32} {Q : Int32 → mmS → Prop} {X : String → mmS → Prop} (h1 : ∀ k, k < hN h 3 → p = nI k → MA z A w h u 0 (Q (nI (hV h 9 k)))) (h0 : (∀ k, k < hN h 3 → p ≠ nI k) → MA z A w h u 1 (Q 0)) : wp_X5_callAt z S (A 12 0) p Q X := by
  have W1 := W.1
  unfold Wn at W1
  unfold wp_X5_callAt
  simp (disch := first | assumption | omega | (simp only [hN_sG, hN_sY, hN_sV] <;> first | assumption | omega)) only [rd R, Option.some.injEq, exists_eq_left', true_and, and_true, and_self, ne_eq, not_false_eq_true, not_true_eq_false, false_and, and_false, if_true, if_false, ite_true, ite_false, vin_0, vin_1, vin_2, vin_n, ncl, lit_0, lit_1, lit_2, lit_3, lit_4, lit_9, nm2, nm3, nm4, nm9, na1, na2, na3, na4, hG_sG, hG_sY, hG_sV, hG_sN, hY_sG, hY_sY, hY_sV, hY_sN, hV_sG, hV_sY, hV_sN, hV_sV, hN_sG, hN_sY, hN_sV, hN_sN, hF_sX, hF_sXr, hF_sF, hX_sF, hX_sX, hX_sXr, Nat.reduceEqDiff, Nat.reduceAdd, er_0, er_1, er_2, er_3, er_4, Nat.zero_lt_succ, forall_const, true_implies, false_implies, imp_self, implies_true]
  refine up_F R (by decide) (by decide) fun S1 R1 => ?_
  have C1 : CM h (hsF m 23 0) := CM_s23 C
  simp (disch := first | assumption | omega | (simp only [hN_sG, hN_sY, hN_sV] <;> first | assumption | omega)) only [rd R1, Option.some.injEq, exists_eq_left', true_and, and_true, and_self, ne_eq, not_false_eq_true, not_true_eq_false, false_and, and_false, if_true, if_false, ite_true, ite_false, vin_0, vin_1, vin_2, vin_n, ncl, lit_0, lit_1, lit_2, lit_3, lit_4, lit_9, nm2, nm3, nm4, nm9, na1, na2, na3, na4, hG_sG, hG_sY, hG_sV, hG_sN, hY_sG, hY_sY, hY_sV, hY_sN, hV_sG, hV_sY, hV_sN, hV_sV, hN_sG, hN_sY, hN_sV, hN_sN, hF_sX, hF_sXr, hF_sF, hX_sF, hX_sX, hX_sXr, Nat.reduceEqDiff, Nat.reduceAdd, er_0, er_1, er_2, er_3, er_4, Nat.zero_lt_succ, forall_const, true_implies, false_implies, imp_self, implies_true, cm C]
  refine ru_isIn (fun q => ⟨fun g => absurd g (by decide), fun _ => ?_⟩) (fun q => ⟨fun _ => ?_, fun g => absurd rfl g⟩)
  · obtain ⟨q1, q2⟩ := q
    obtain ⟨i, hi, rfl⟩ := nI_of (Int32.not_lt.mpr q1)
    have hi3 : i < hN h 3 := by
      by_cases e0 : hN h 3 = 0
      · rw [e0] at q2
        have : (nI i) ≤ -1 := q2
        exact absurd (Int32.lt_of_le_of_lt this (by decide)) (nI_pos hi)
      · rw [ns1 (by omega), nle (by omega) (by omega)] at q2
        omega
    simp (disch := first | assumption | omega | (simp only [hN_sG, hN_sY, hN_sV] <;> first | assumption | omega)) only [rd R1, Option.some.injEq, exists_eq_left', true_and, and_true, and_self, ne_eq, not_false_eq_true, not_true_eq_false, false_and, and_false, if_true, if_false, ite_true, ite_false, vin_0, vin_1, vin_2, vin_n, ncl, lit_0, lit_1, lit_2, lit_3, lit_4, lit_9, nm2, nm3, nm4, nm9, na1, na2, na3, na4, hG_sG, hG_sY, hG_sV, hG_sN, hY_sG, hY_sY, hY_sV, hY_sN, hV_sG, hV_sY, hV_sN, hV_sV, hN_sG, hN_sY, hN_sV, hN_sN, hF_sX, hF_sXr, hF_sF, hX_sF, hX_sX, hX_sXr, Nat.reduceEqDiff, Nat.reduceAdd, er_0, er_1, er_2, er_3, er_4, Nat.zero_lt_succ, forall_const, true_implies, false_implies, imp_self, implies_true, cm C]
    exact h1 i hi3 rfl _ S1 R1 C1 (by rw [hF_sF, if_pos rfl])
  · simp (disch := first | assumption | omega | (simp only [hN_sG, hN_sY, hN_sV] <;> first | assumption | omega)) only [rd R1, Option.some.injEq, exists_eq_left', true_and, and_true, and_self, ne_eq, not_false_eq_true, not_true_eq_false, false_and, and_false, if_true, if_false, ite_true, ite_false, vin_0, vin_1, vin_2, vin_n, ncl, lit_0, lit_1, lit_2, lit_3, lit_4, lit_9, nm2, nm3, nm4, nm9, na1, na2, na3, na4, hG_sG, hG_sY, hG_sV, hG_sN, hY_sG, hY_sY, hY_sV, hY_sN, hV_sG, hV_sY, hV_sN, hV_sV, hN_sG, hN_sY, hN_sV, hN_sN, hF_sX, hF_sXr, hF_sF, hX_sF, hX_sX, hX_sXr, Nat.reduceEqDiff, Nat.reduceAdd, er_0, er_1, er_2, er_3, er_4, Nat.zero_lt_succ, forall_const, true_implies, false_implies, imp_self, implies_true]
    refine MA_no R1 C1 (h0 fun i hi e => q ⟨?_, ?_⟩)
    · rw [e]; exact Int32.not_lt.mp (nI_pos (by omega))
    · rw [e, ns1 (by omega)]; exact nI_le (by omega) (by omega)
theorem m_isPeak {z A w h m u S} (R : RP z A w h m u S) (W : WF h) (C : CM h m) {p : Int32} {Q : Int32 → mmS → Prop} {X : String → mmS → Prop} (h1 : ∀ i, i < hN h 3 → p = nI i → (pk h i → MA z A w h u 0 (Q 1)) ∧ (¬ pk h i → MA z A w h u 0 (Q 0))) (h0 : (∀ k, k < hN h 3 → p ≠ nI k) → MA z A w h u 1 (Q 0)) : wp_X5_isPeak z S (A 12 0) p Q X := by
  unfold wp_X5_isPeak
  simp (disch := first | assumption | omega | (simp only [hN_sG, hN_sY, hN_sV] <;> first | assumption | omega)) only [rd R, Option.some.injEq, exists_eq_left', true_and, and_true, and_self, ne_eq, not_false_eq_true, not_true_eq_false, false_and, and_false, if_true, if_false, ite_true, ite_false, vin_0, vin_1, vin_2, vin_n, ncl, lit_0, lit_1, lit_2, lit_3, lit_4, lit_9, nm2, nm3, nm4, nm9, na1, na2, na3, na4, hG_sG, hG_sY, hG_sV, hG_sN, hY_sG, hY_sY, hY_sV, hY_sN, hV_sG, hV_sY, hV_sN, hV_sV, hN_sG, hN_sY, hN_sV, hN_sN, hF_sX, hF_sXr, hF_sF, hX_sF, hX_sX, hX_sXr, Nat.reduceEqDiff, Nat.reduceAdd, er_0, er_1, er_2, er_3, er_4, Nat.zero_lt_succ, forall_const, true_implies, false_implies, imp_self, implies_true]
  refine ru_isCall R W C (fun i hi e => ⟨fun g => absurd g (by decide), fun _ => ?_⟩) (fun g0 => ⟨fun _ => ?_, fun g => absurd rfl g⟩)
  · subst e
    unfold bk_X5_isPeak_14
    simp (disch := first | assumption | omega | (simp only [hN_sG, hN_sY, hN_sV] <;> first | assumption | omega)) only [rd R, Option.some.injEq, exists_eq_left', true_and, and_true, and_self, ne_eq, not_false_eq_true, not_true_eq_false, false_and, and_false, if_true, if_false, ite_true, ite_false, vin_0, vin_1, vin_2, vin_n, ncl, lit_0, lit_1, lit_2, lit_3, lit_4, lit_9, nm2, nm3, nm4, nm9, na1, na2, na3, na4, hG_sG, hG_sY, hG_sV, hG_sN, hY_sG, hY_sY, hY_sV, hY_sN, hV_sG, hV_sY, hV_sN, hV_sV, hN_sG, hN_sY, hN_sV, hN_sN, hF_sX, hF_sXr, hF_sF, hX_sF, hX_sX, hX_sXr, Nat.reduceEqDiff, Nat.reduceAdd, er_0, er_1, er_2, er_3, er_4, Nat.zero_lt_succ, forall_const, true_implies, false_implies, imp_self, implies_true]
    refine up_F R (by decide) (by decide) fun S1 R1 => ?_
    have C1 : CM h (hsF m 23 0) := CM_s23 C
    simp (disch := first | assumption | omega | (simp only [hN_sG, hN_sY, hN_sV] <;> first | assumption | omega)) only [rd R1, Option.some.injEq, exists_eq_left', true_and, and_true, and_self, ne_eq, not_false_eq_true, not_true_eq_false, false_and, and_false, if_true, if_false, ite_true, ite_false, vin_0, vin_1, vin_2, vin_n, ncl, lit_0, lit_1, lit_2, lit_3, lit_4, lit_9, nm2, nm3, nm4, nm9, na1, na2, na3, na4, hG_sG, hG_sY, hG_sV, hG_sN, hY_sG, hY_sY, hY_sV, hY_sN, hV_sG, hV_sY, hV_sN, hV_sV, hN_sG, hN_sY, hN_sV, hN_sN, hF_sX, hF_sXr, hF_sF, hX_sF, hX_sX, hX_sXr, Nat.reduceEqDiff, Nat.reduceAdd, er_0, er_1, er_2, er_3, er_4, Nat.zero_lt_succ, forall_const, true_implies, false_implies, imp_self, implies_true]
    refine ru_isInPeak R1 C1 W hi (fun g => ⟨fun q => absurd q (by decide), fun _ => ?_⟩) (fun g => ⟨fun _ => ?_, fun q => absurd rfl q⟩)
    · exact (h1 i hi rfl).1 g _ S1 R1 C1 (by rw [hF_sF, if_pos rfl])
    · exact (h1 i hi rfl).2 g _ S1 R1 C1 (by rw [hF_sF, if_pos rfl])
  · unfold bk_X5_isPeak_14
    simp (disch := first | assumption | omega | (simp only [hN_sG, hN_sY, hN_sV] <;> first | assumption | omega)) only [rd R, Option.some.injEq, exists_eq_left', true_and, and_true, and_self, ne_eq, not_false_eq_true, not_true_eq_false, false_and, and_false, if_true, if_false, ite_true, ite_false, vin_0, vin_1, vin_2, vin_n, ncl, lit_0, lit_1, lit_2, lit_3, lit_4, lit_9, nm2, nm3, nm4, nm9, na1, na2, na3, na4, hG_sG, hG_sY, hG_sV, hG_sN, hY_sG, hY_sY, hY_sV, hY_sN, hV_sG, hV_sY, hV_sN, hV_sV, hN_sG, hN_sY, hN_sV, hN_sN, hF_sX, hF_sXr, hF_sF, hX_sF, hX_sX, hX_sXr, Nat.reduceEqDiff, Nat.reduceAdd, er_0, er_1, er_2, er_3, er_4, Nat.zero_lt_succ, forall_const, true_implies, false_implies, imp_self, implies_true]
    refine up_F R (by decide) (by decide) fun S1 R1 => ?_
    have C1 : CM h (hsF m 23 1) := CM_s23 C
    have hne : ¬ (1 : Int32) = 0 := by decide
    simp (disch := first | assumption | omega | (simp only [hN_sG, hN_sY, hN_sV] <;> first | assumption | omega)) only [rd R1, Option.some.injEq, exists_eq_left', true_and, and_true, and_self, ne_eq, not_false_eq_true, not_true_eq_false, false_and, and_false, if_true, if_false, ite_true, ite_false, vin_0, vin_1, vin_2, vin_n, ncl, lit_0, lit_1, lit_2, lit_3, lit_4, lit_9, nm2, nm3, nm4, nm9, na1, na2, na3, na4, hG_sG, hG_sY, hG_sV, hG_sN, hY_sG, hY_sY, hY_sV, hY_sN, hV_sG, hV_sY, hV_sN, hV_sV, hN_sG, hN_sY, hN_sV, hN_sN, hF_sX, hF_sXr, hF_sF, hX_sF, hX_sX, hX_sXr, Nat.reduceEqDiff, Nat.reduceAdd, er_0, er_1, er_2, er_3, er_4, Nat.zero_lt_succ, forall_const, true_implies, false_implies, imp_self, implies_true, hne]
    exact h0 g0 _ S1 R1 C1 (by rw [hF_sF, if_pos rfl])
noncomputable def tlc (c : hC) (i k : Nat) : Int32 := if k = 0 then hG c 9 i else if k = 1 then bl c i else if k = 2 then fre c (pl c i) else if k = 3 then prc c (pl c i) else fch c (pl c i)
theorem tl_tlc {h : hC} (W : WF h) (D : DR h h (hN h 3)) {i k : Nat} (hi : i < hN h 3) : tl h i k = tlc h i k := by
  unfold tl tlc
  obtain ⟨a, b, c, d⟩ := DKn W D hi
  rw [a, b, c, d]
theorem ru_toldOf {z A w h m u S} (R : RP z A w h m u S) (W : WF h) (C : CM h m) (D : MK h m (hN h 3)) {i k : Nat} (hi : i < hN h 3) (hk : k ≤ 4) {Q : Int32 → mmS → Prop} {X : String → mmS → Prop} (hQ : Q (tlc h i k) S) : wp_X5_toldOf z S (A 12 0) (nI i) (nI k) Q X := by
  have W1 := W.1
  unfold Wn at W1
  obtain ⟨a, b, c, d⟩ := MKn W D hi
  unfold wp_X5_toldOf
  have hk5 : k = 0 ∨ k = 1 ∨ k = 2 ∨ k = 3 ∨ k = 4 := by omega
  have e0 : (nI 0).toInt = 0 := rfl
  have e1 : (nI 1).toInt = 1 := rfl
  have e2 : (nI 2).toInt = 2 := rfl
  have e3 : (nI 3).toInt = 3 := rfl
  have e4 : (nI 4).toInt = 4 := rfl
  unfold tlc at hQ
  simp (disch := first | assumption | omega | (simp only [hN_sG, hN_sY, hN_sV] <;> first | assumption | omega)) only [rd R, Option.some.injEq, exists_eq_left', true_and, and_true, and_self, ne_eq, not_false_eq_true, not_true_eq_false, false_and, and_false, if_true, if_false, ite_true, ite_false, vin_0, vin_1, vin_2, vin_n, ncl, lit_0, lit_1, lit_2, lit_3, lit_4, lit_9, nm2, nm3, nm4, nm9, na1, na2, na3, na4, hG_sG, hG_sY, hG_sV, hG_sN, hY_sG, hY_sY, hY_sV, hY_sN, hV_sG, hV_sY, hV_sN, hV_sV, hN_sG, hN_sY, hN_sV, hN_sN, hF_sX, hF_sXr, hF_sF, hX_sF, hX_sX, hX_sXr, Nat.reduceEqDiff, Nat.reduceAdd, er_0, er_1, er_2, er_3, er_4, Nat.zero_lt_succ, forall_const, true_implies, false_implies, imp_self, implies_true, cm C, a, b, c, d]
  rcases hk5 with e | e | e | e | e <;> subst e
  · rw [e0]; exact ⟨fun c => by omega, fun _ => hQ, fun c => by omega, fun c => by omega, fun c => by omega⟩
  · rw [e1]; exact ⟨fun c => by omega, fun c => by omega, fun _ => hQ, fun c => by omega, fun c => by omega⟩
  · rw [e2]; exact ⟨fun c => by omega, fun c => by omega, fun c => by omega, fun _ => hQ, fun c => by omega⟩
  · rw [e3]; exact ⟨fun c => by omega, fun c => by omega, fun c => by omega, fun c => by omega, fun _ => hQ⟩
  · rw [e4]; exact ⟨fun _ => hQ, fun c => by omega, fun c => by omega, fun c => by omega, fun c => by omega⟩
theorem m_told {z A w h m u S} (R : RP z A w h m u S) (W : WF h) (C : CM h m) {p q : Int32} {Q : Int32 → mmS → Prop} {X : String → mmS → Prop} (h1 : ∀ i, i < hN h 3 → p = nI i → ∀ k, k ≤ 4 → q = nI k → MA z A w h u 0 (Q (tlc h i k))) (h0 : (¬ ∃ i k, i < hN h 3 ∧ p = nI i ∧ k ≤ 4 ∧ q = nI k) → MA z A w h u 1 (Q 0)) : wp_X5_told z S (A 12 0) p q Q X := by
  unfold wp_X5_told
  simp (disch := first | assumption | omega | (simp only [hN_sG, hN_sY, hN_sV] <;> first | assumption | omega)) only [rd R, Option.some.injEq, exists_eq_left', true_and, and_true, and_self, ne_eq, not_false_eq_true, not_true_eq_false, false_and, and_false, if_true, if_false, ite_true, ite_false, vin_0, vin_1, vin_2, vin_n, ncl, lit_0, lit_1, lit_2, lit_3, lit_4, lit_9, nm2, nm3, nm4, nm9, na1, na2, na3, na4, hG_sG, hG_sY, hG_sV, hG_sN, hY_sG, hY_sY, hY_sV, hY_sN, hV_sG, hV_sY, hV_sN, hV_sV, hN_sG, hN_sY, hN_sV, hN_sN, hF_sX, hF_sXr, hF_sF, hX_sF, hX_sX, hX_sXr, Nat.reduceEqDiff, Nat.reduceAdd, er_0, er_1, er_2, er_3, er_4, Nat.zero_lt_succ, forall_const, true_implies, false_implies, imp_self, implies_true]
  refine up_F R (by decide) (by decide) fun S1 R1 => ?_
  have C1 : CM h (hsF m 23 0) := CM_s23 C
  refine ru_isCall R1 W C1 (fun i hi e => ⟨fun g => absurd g (by decide), fun _ => ?_⟩) (fun g0 => ⟨fun _ => ?_, fun g => absurd rfl g⟩)
  · refine ru_isIn (fun g => ⟨fun _ => ?_, fun q => absurd q (by decide)⟩) (fun g => ⟨fun q => absurd rfl q, fun _ => ?_⟩)
    · obtain ⟨k, hk, rfl⟩ := nI_of2 (M := 4) (n := 4) rfl (Int32.not_lt.mpr g.1) g.2
      subst e
      simp (disch := first | assumption | omega | (simp only [hN_sG, hN_sY, hN_sV] <;> first | assumption | omega)) only [rd R1, Option.some.injEq, exists_eq_left', true_and, and_true, and_self, ne_eq, not_false_eq_true, not_true_eq_false, false_and, and_false, if_true, if_false, ite_true, ite_false, vin_0, vin_1, vin_2, vin_n, ncl, lit_0, lit_1, lit_2, lit_3, lit_4, lit_9, nm2, nm3, nm4, nm9, na1, na2, na3, na4, hG_sG, hG_sY, hG_sV, hG_sN, hY_sG, hY_sY, hY_sV, hY_sN, hV_sG, hV_sY, hV_sN, hV_sV, hN_sG, hN_sY, hN_sV, hN_sN, hF_sX, hF_sXr, hF_sF, hX_sF, hX_sX, hX_sXr, Nat.reduceEqDiff, Nat.reduceAdd, er_0, er_1, er_2, er_3, er_4, Nat.zero_lt_succ, forall_const, true_implies, false_implies, imp_self, implies_true]
      refine ru_mrateAll R1 C1 W fun m2 S2 R2 C2 D2 F2 => ?_
      simp (disch := first | assumption | omega | (simp only [hN_sG, hN_sY, hN_sV] <;> first | assumption | omega)) only [rd R2, Option.some.injEq, exists_eq_left', true_and, and_true, and_self, ne_eq, not_false_eq_true, not_true_eq_false, false_and, and_false, if_true, if_false, ite_true, ite_false, vin_0, vin_1, vin_2, vin_n, ncl, lit_0, lit_1, lit_2, lit_3, lit_4, lit_9, nm2, nm3, nm4, nm9, na1, na2, na3, na4, hG_sG, hG_sY, hG_sV, hG_sN, hY_sG, hY_sY, hY_sV, hY_sN, hV_sG, hV_sY, hV_sN, hV_sV, hN_sG, hN_sY, hN_sV, hN_sN, hF_sX, hF_sXr, hF_sF, hX_sF, hX_sX, hX_sXr, Nat.reduceEqDiff, Nat.reduceAdd, er_0, er_1, er_2, er_3, er_4, Nat.zero_lt_succ, forall_const, true_implies, false_implies, imp_self, implies_true]
      refine ru_toldOf R2 W C2 D2 hi hk ?_
      exact h1 i hi rfl k hk rfl _ S2 R2 C2 (by rw [F2, hF_sF, if_pos rfl])
    · unfold bk_X5_told_22
      simp (disch := first | assumption | omega | (simp only [hN_sG, hN_sY, hN_sV] <;> first | assumption | omega)) only [rd R1, Option.some.injEq, exists_eq_left', true_and, and_true, and_self, ne_eq, not_false_eq_true, not_true_eq_false, false_and, and_false, if_true, if_false, ite_true, ite_false, vin_0, vin_1, vin_2, vin_n, ncl, lit_0, lit_1, lit_2, lit_3, lit_4, lit_9, nm2, nm3, nm4, nm9, na1, na2, na3, na4, hG_sG, hG_sY, hG_sV, hG_sN, hY_sG, hY_sY, hY_sV, hY_sN, hV_sG, hV_sY, hV_sN, hV_sV, hN_sG, hN_sY, hN_sV, hN_sN, hF_sX, hF_sXr, hF_sF, hX_sF, hX_sX, hX_sXr, Nat.reduceEqDiff, Nat.reduceAdd, er_0, er_1, er_2, er_3, er_4, Nat.zero_lt_succ, forall_const, true_implies, false_implies, imp_self, implies_true]
      refine MA_no R1 C1 (h0 ?_)
      rintro ⟨i, k, hi, _, hk, rfl⟩
      exact g ⟨Int32.not_lt.mp (nI_pos (by omega)), nI_le (b := 4) hk (by omega)⟩
  · unfold bk_X5_told_22
    simp (disch := first | assumption | omega | (simp only [hN_sG, hN_sY, hN_sV] <;> first | assumption | omega)) only [rd R1, Option.some.injEq, exists_eq_left', true_and, and_true, and_self, ne_eq, not_false_eq_true, not_true_eq_false, false_and, and_false, if_true, if_false, ite_true, ite_false, vin_0, vin_1, vin_2, vin_n, ncl, lit_0, lit_1, lit_2, lit_3, lit_4, lit_9, nm2, nm3, nm4, nm9, na1, na2, na3, na4, hG_sG, hG_sY, hG_sV, hG_sN, hY_sG, hY_sY, hY_sV, hY_sN, hV_sG, hV_sY, hV_sN, hV_sV, hN_sG, hN_sY, hN_sV, hN_sN, hF_sX, hF_sXr, hF_sF, hX_sF, hX_sX, hX_sXr, Nat.reduceEqDiff, Nat.reduceAdd, er_0, er_1, er_2, er_3, er_4, Nat.zero_lt_succ, forall_const, true_implies, false_implies, imp_self, implies_true]
    exact MA_no R1 C1 (h0 fun ⟨i, k, hi, e, _⟩ => g0 i hi e)
/-- the model's rows but the plans -/
abbrev CP (c : hC) (m : hM) : Prop := hF m 25 = nI (hN c 1) ∧ hF m 26 = nI (hN c 2) ∧ hF m 27 = nI (hN c 3) ∧ (∀ a, a < hN c 1 → hX m 1 (3 * a) = hG c 2 a) ∧ (∀ a, a < hN c 1 → hX m 1 (3 * a + 1) = hG c 0 a) ∧ (∀ a, a < hN c 1 → hX m 1 (3 * a + 2) = hG c 1 a)
  ∧ (∀ l, l < hN c 2 → hX m 2 l = nI (hV c 1 l)) ∧ (∀ i, i < hN c 3 → hX m 4 (4 * i) = nI (hV c 0 i))
theorem CP_of {c : hC} {m : hM} (C : CM c m) : CP c m := by
  obtain ⟨a, b, d, e, f, g, h1, h2, h3, h4, h5⟩ := C
  exact ⟨b, d, e, fun t ht => (h2 t ht).1, fun t ht => (h2 t ht).2.1, fun t ht => (h2 t ht).2.2, fun t ht => (h3 t ht).1, fun t ht => (h4 t ht).1⟩
theorem ru_lineSumOf {z A w h m u S} (R : RP z A w h m u S) {c : hC} (W : WF c) (C : CP c m) (D : MK c m (hN c 3)) {l : Nat} (hl : l < hN c 2) {Q : Int32 → mmS → Prop} {X : String → mmS → Prop} (hQ : Q (sl c l (hN c 3)) S) : wp_X5_lineSumOf z S (A 12 0) (nI l) Q X := by
  have W1 := W.1
  unfold Wn at W1
  rw [sl_num W] at hQ
  have lp : ∀ d k, k + d = hN c 3 → lp_X5_lineSumOf_4 z Q X (d + 1) S (A 12 0) (nI l) (sm (fun i => if hV c 0 i = l then prc c (pl c i) else 0) k) (nI k) := by
    intro d
    induction d with
    | zero =>
      intro k hk
      show bk_X5_lineSumOf_4 z Q X _ S _ _ _ _
      unfold bk_X5_lineSumOf_4
      simp (disch := first | assumption | omega | (simp only [hN_sG, hN_sY, hN_sV] <;> first | assumption | omega)) only [rd R, Option.some.injEq, exists_eq_left', true_and, and_true, and_self, ne_eq, not_false_eq_true, not_true_eq_false, false_and, and_false, if_true, if_false, ite_true, ite_false, vin_0, vin_1, vin_2, vin_n, ncl, lit_0, lit_1, lit_2, lit_3, lit_4, lit_9, nm2, nm3, nm4, nm9, na1, na2, na3, na4, hG_sG, hG_sY, hG_sV, hG_sN, hY_sG, hY_sY, hY_sV, hY_sN, hV_sG, hV_sY, hV_sN, hV_sV, hN_sG, hN_sY, hN_sV, hN_sN, hF_sX, hF_sXr, hF_sF, hX_sF, hX_sX, hX_sXr, Nat.reduceEqDiff, Nat.reduceAdd, er_0, er_1, er_2, er_3, er_4, Nat.zero_lt_succ, forall_const, true_implies, false_implies, imp_self, implies_true, C]
      refine ⟨fun _ => by rw [← hk] at hQ; exact hQ, fun e => absurd ?_ e⟩
      exact nI_le (by omega) (by omega)
    | succ d ih =>
      intro k hk
      show bk_X5_lineSumOf_4 z Q X (lp_X5_lineSumOf_4 z Q X (d + 1)) S _ _ _ _
      have hk3 : k < hN c 3 := by omega
      have hl2 := (W.2.2.2.2.1 k hk3).2.2.1
      unfold bk_X5_lineSumOf_4
      simp (disch := first | assumption | omega | (simp only [hN_sG, hN_sY, hN_sV] <;> first | assumption | omega)) only [rd R, Option.some.injEq, exists_eq_left', true_and, and_true, and_self, ne_eq, not_false_eq_true, not_true_eq_false, false_and, and_false, if_true, if_false, ite_true, ite_false, vin_0, vin_1, vin_2, vin_n, ncl, lit_0, lit_1, lit_2, lit_3, lit_4, lit_9, nm2, nm3, nm4, nm9, na1, na2, na3, na4, hG_sG, hG_sY, hG_sV, hG_sN, hY_sG, hY_sY, hY_sV, hY_sN, hV_sG, hV_sY, hV_sN, hV_sV, hN_sG, hN_sY, hN_sV, hN_sN, hF_sX, hF_sXr, hF_sF, hX_sF, hX_sX, hX_sXr, Nat.reduceEqDiff, Nat.reduceAdd, er_0, er_1, er_2, er_3, er_4, Nat.zero_lt_succ, forall_const, true_implies, false_implies, imp_self, implies_true, C, (MKn W D hk3).2.2.1]
      refine ⟨fun e => absurd e (nI_ge (by omega) (by omega)), fun _ => ?_⟩
      have ih1 := ih (k + 1) (by omega)
      have e2 : sm (fun i => if hV c 0 i = l then prc c (pl c i) else 0) (k + 1) = sm (fun i => if hV c 0 i = l then prc c (pl c i) else 0) k + (if hV c 0 k = l then prc c (pl c k) else 0) := rfl
      rw [e2] at ih1
      refine ⟨fun g => ?_, fun g => ?_⟩
      · rw [if_neg (fun q => g (by rw [q]))] at ih1
        unfold bk_X5_lineSumOf_35
        rintro v rfl v2 rfl
        rw [na1]; exact ih1
      · rw [if_pos ((nI_eq (by omega) (by omega)).mp g)] at ih1
        unfold bk_X5_lineSumOf_35
        rintro v rfl v2 rfl
        rw [na1]; exact ih1
  unfold wp_X5_lineSumOf
  rintro v1 rfl v2 rfl
  exact ⟨hN c 3 + 1, lp (hN c 3) 0 (by omega)⟩
theorem ru_sumOf {z A w h m u S} (R : RP z A w h m u S) {c : hC} (W : WF c) (C : CP c m) (D : MK c m (hN c 3)) {a : Nat} (ha : a < hN c 1) {Q : Int32 → mmS → Prop} {X : String → mmS → Prop} (hQ : Q (sa c a (hN c 3)) S) : wp_X5_sumOf z S (A 12 0) (nI a) Q X := by
  have W1 := W.1
  unfold Wn at W1
  rw [sa_sl W a _ (Nat.le_refl _)] at hQ
  have lp : ∀ d k, k + d = hN c 2 → lp_X5_sumOf_4 z Q X (d + 1) S (A 12 0) (nI a) (sm (fun l => if hV c 1 l = a then sl c l (hN c 3) else 0) k) (nI k) := by
    intro d
    induction d with
    | zero =>
      intro k hk
      show bk_X5_sumOf_4 z Q X _ S _ _ _ _
      unfold bk_X5_sumOf_4
      simp (disch := first | assumption | omega | (simp only [hN_sG, hN_sY, hN_sV] <;> first | assumption | omega)) only [rd R, Option.some.injEq, exists_eq_left', true_and, and_true, and_self, ne_eq, not_false_eq_true, not_true_eq_false, false_and, and_false, if_true, if_false, ite_true, ite_false, vin_0, vin_1, vin_2, vin_n, ncl, lit_0, lit_1, lit_2, lit_3, lit_4, lit_9, nm2, nm3, nm4, nm9, na1, na2, na3, na4, hG_sG, hG_sY, hG_sV, hG_sN, hY_sG, hY_sY, hY_sV, hY_sN, hV_sG, hV_sY, hV_sN, hV_sV, hN_sG, hN_sY, hN_sV, hN_sN, hF_sX, hF_sXr, hF_sF, hX_sF, hX_sX, hX_sXr, Nat.reduceEqDiff, Nat.reduceAdd, er_0, er_1, er_2, er_3, er_4, Nat.zero_lt_succ, forall_const, true_implies, false_implies, imp_self, implies_true, C]
      refine ⟨fun _ => by rw [← hk] at hQ; exact hQ, fun e => absurd ?_ e⟩
      exact nI_le (by omega) (by omega)
    | succ d ih =>
      intro k hk
      show bk_X5_sumOf_4 z Q X (lp_X5_sumOf_4 z Q X (d + 1)) S _ _ _ _
      have hk3 : k < hN c 2 := by omega
      have hl2 := (W.2.2.2.1 k hk3).2.1
      unfold bk_X5_sumOf_4
      simp (disch := first | assumption | omega | (simp only [hN_sG, hN_sY, hN_sV] <;> first | assumption | omega)) only [rd R, Option.some.injEq, exists_eq_left', true_and, and_true, and_self, ne_eq, not_false_eq_true, not_true_eq_false, false_and, and_false, if_true, if_false, ite_true, ite_false, vin_0, vin_1, vin_2, vin_n, ncl, lit_0, lit_1, lit_2, lit_3, lit_4, lit_9, nm2, nm3, nm4, nm9, na1, na2, na3, na4, hG_sG, hG_sY, hG_sV, hG_sN, hY_sG, hY_sY, hY_sV, hY_sN, hV_sG, hV_sY, hV_sN, hV_sV, hN_sG, hN_sY, hN_sV, hN_sN, hF_sX, hF_sXr, hF_sF, hX_sF, hX_sX, hX_sXr, Nat.reduceEqDiff, Nat.reduceAdd, er_0, er_1, er_2, er_3, er_4, Nat.zero_lt_succ, forall_const, true_implies, false_implies, imp_self, implies_true, C]
      refine ⟨fun e => absurd e (nI_ge (by omega) (by omega)), fun _ => ?_⟩
      have ih1 := ih (k + 1) (by omega)
      have e2 : sm (fun l => if hV c 1 l = a then sl c l (hN c 3) else 0) (k + 1) = sm (fun l => if hV c 1 l = a then sl c l (hN c 3) else 0) k + (if hV c 1 k = a then sl c k (hN c 3) else 0) := rfl
      rw [e2] at ih1
      refine ⟨fun g => ?_, fun g => ?_⟩
      · rw [if_neg (fun q => g (by rw [q]))] at ih1
        unfold bk_X5_sumOf_32
        rintro v rfl v2 rfl
        rw [na1]; exact ih1
      · rw [if_pos ((nI_eq (by omega) (by omega)).mp g)] at ih1
        refine ru_lineSumOf R W C D hk3 ?_
        unfold bk_X5_sumOf_32
        rintro v rfl v2 rfl
        rw [na1]; exact ih1
  unfold wp_X5_sumOf
  rintro v1 rfl v2 rfl
  exact ⟨hN c 2 + 1, lp (hN c 2) 0 (by omega)⟩
theorem ru_totalOf {z A w h m u S} (R : RP z A w h m u S) {c : hC} (W : WF c) (C : CP c m) (D : MK c m (hN c 3)) {a : Nat} (ha : a < hN c 1) {Q : Int32 → mmS → Prop} {X : String → mmS → Prop} (hQ : Q (cnt (sa c a (hN c 3)) (hG c 0 a) (hG c 1 a)) S) : wp_X5_totalOf z S (A 12 0) (nI a) Q X := by
  have W1 := W.1
  unfold Wn at W1
  unfold wp_X5_totalOf
  simp (disch := first | assumption | omega | (simp only [hN_sG, hN_sY, hN_sV] <;> first | assumption | omega)) only [rd R, Option.some.injEq, exists_eq_left', true_and, and_true, and_self, ne_eq, not_false_eq_true, not_true_eq_false, false_and, and_false, if_true, if_false, ite_true, ite_false, vin_0, vin_1, vin_2, vin_n, ncl, lit_0, lit_1, lit_2, lit_3, lit_4, lit_9, nm2, nm3, nm4, nm9, na1, na2, na3, na4, hG_sG, hG_sY, hG_sV, hG_sN, hY_sG, hY_sY, hY_sV, hY_sN, hV_sG, hV_sY, hV_sN, hV_sV, hN_sG, hN_sY, hN_sV, hN_sN, hF_sX, hF_sXr, hF_sF, hX_sF, hX_sX, hX_sXr, Nat.reduceEqDiff, Nat.reduceAdd, er_0, er_1, er_2, er_3, er_4, Nat.zero_lt_succ, forall_const, true_implies, false_implies, imp_self, implies_true]
  refine ru_sumOf R W C D ha ?_
  simp (disch := first | assumption | omega | (simp only [hN_sG, hN_sY, hN_sV] <;> first | assumption | omega)) only [rd R, Option.some.injEq, exists_eq_left', true_and, and_true, and_self, ne_eq, not_false_eq_true, not_true_eq_false, false_and, and_false, if_true, if_false, ite_true, ite_false, vin_0, vin_1, vin_2, vin_n, ncl, lit_0, lit_1, lit_2, lit_3, lit_4, lit_9, nm2, nm3, nm4, nm9, na1, na2, na3, na4, hG_sG, hG_sY, hG_sV, hG_sN, hY_sG, hY_sY, hY_sV, hY_sN, hV_sG, hV_sY, hV_sN, hV_sV, hN_sG, hN_sY, hN_sV, hN_sN, hF_sX, hF_sXr, hF_sF, hX_sF, hX_sX, hX_sXr, Nat.reduceEqDiff, Nat.reduceAdd, er_0, er_1, er_2, er_3, er_4, Nat.zero_lt_succ, forall_const, true_implies, false_implies, imp_self, implies_true, C]
  rintro v rfl
  exact hQ
theorem m_lineSum {z A w h m u S} (R : RP z A w h m u S) (W : WF h) (C : CM h m) {p : Int32} {Q : Int32 → mmS → Prop} {X : String → mmS → Prop} (h1 : ∀ i, i < hN h 2 → p = nI i → MA z A w h u 0 (Q (sl h i (hN h 3)))) (h0 : (∀ k, k < hN h 2 → p ≠ nI k) → MA z A w h u 1 (Q 0)) : wp_X5_lineSum z S (A 12 0) p Q X := by
  unfold wp_X5_lineSum
  simp (disch := first | assumption | omega | (simp only [hN_sG, hN_sY, hN_sV] <;> first | assumption | omega)) only [rd R, Option.some.injEq, exists_eq_left', true_and, and_true, and_self, ne_eq, not_false_eq_true, not_true_eq_false, false_and, and_false, if_true, if_false, ite_true, ite_false, vin_0, vin_1, vin_2, vin_n, ncl, lit_0, lit_1, lit_2, lit_3, lit_4, lit_9, nm2, nm3, nm4, nm9, na1, na2, na3, na4, hG_sG, hG_sY, hG_sV, hG_sN, hY_sG, hY_sY, hY_sV, hY_sN, hV_sG, hV_sY, hV_sN, hV_sV, hN_sG, hN_sY, hN_sV, hN_sN, hF_sX, hF_sXr, hF_sF, hX_sF, hX_sX, hX_sXr, Nat.reduceEqDiff, Nat.reduceAdd, er_0, er_1, er_2, er_3, er_4, Nat.zero_lt_succ, forall_const, true_implies, false_implies, imp_self, implies_true]
  refine up_F R (by decide) (by decide) fun S1 R1 => ?_
  have C1 : CM h (hsF m 23 0) := CM_s23 C
  refine ru_isLine R1 W C1 (fun i hi e => ⟨fun _ => ?_, fun g => absurd g (by decide)⟩) (fun g0 => ⟨fun g => absurd rfl g, fun _ => ?_⟩)
  · subst e
    simp (disch := first | assumption | omega | (simp only [hN_sG, hN_sY, hN_sV] <;> first | assumption | omega)) only [rd R1, Option.some.injEq, exists_eq_left', true_and, and_true, and_self, ne_eq, not_false_eq_true, not_true_eq_false, false_and, and_false, if_true, if_false, ite_true, ite_false, vin_0, vin_1, vin_2, vin_n, ncl, lit_0, lit_1, lit_2, lit_3, lit_4, lit_9, nm2, nm3, nm4, nm9, na1, na2, na3, na4, hG_sG, hG_sY, hG_sV, hG_sN, hY_sG, hY_sY, hY_sV, hY_sN, hV_sG, hV_sY, hV_sN, hV_sV, hN_sG, hN_sY, hN_sV, hN_sN, hF_sX, hF_sXr, hF_sF, hX_sF, hX_sX, hX_sXr, Nat.reduceEqDiff, Nat.reduceAdd, er_0, er_1, er_2, er_3, er_4, Nat.zero_lt_succ, forall_const, true_implies, false_implies, imp_self, implies_true]
    refine ru_mrateAll R1 C1 W fun m2 S2 R2 C2 D2 F2 => ?_
    simp (disch := first | assumption | omega | (simp only [hN_sG, hN_sY, hN_sV] <;> first | assumption | omega)) only [rd R2, Option.some.injEq, exists_eq_left', true_and, and_true, and_self, ne_eq, not_false_eq_true, not_true_eq_false, false_and, and_false, if_true, if_false, ite_true, ite_false, vin_0, vin_1, vin_2, vin_n, ncl, lit_0, lit_1, lit_2, lit_3, lit_4, lit_9, nm2, nm3, nm4, nm9, na1, na2, na3, na4, hG_sG, hG_sY, hG_sV, hG_sN, hY_sG, hY_sY, hY_sV, hY_sN, hV_sG, hV_sY, hV_sN, hV_sV, hN_sG, hN_sY, hN_sV, hN_sN, hF_sX, hF_sXr, hF_sF, hX_sF, hX_sX, hX_sXr, Nat.reduceEqDiff, Nat.reduceAdd, er_0, er_1, er_2, er_3, er_4, Nat.zero_lt_succ, forall_const, true_implies, false_implies, imp_self, implies_true]
    refine ru_lineSumOf R2 W (CP_of C2) D2 hi ?_
    exact h1 i hi rfl _ S2 R2 C2 (by rw [F2, hF_sF, if_pos rfl])
  · simp (disch := first | assumption | omega | (simp only [hN_sG, hN_sY, hN_sV] <;> first | assumption | omega)) only [rd R1, Option.some.injEq, exists_eq_left', true_and, and_true, and_self, ne_eq, not_false_eq_true, not_true_eq_false, false_and, and_false, if_true, if_false, ite_true, ite_false, vin_0, vin_1, vin_2, vin_n, ncl, lit_0, lit_1, lit_2, lit_3, lit_4, lit_9, nm2, nm3, nm4, nm9, na1, na2, na3, na4, hG_sG, hG_sY, hG_sV, hG_sN, hY_sG, hY_sY, hY_sV, hY_sN, hV_sG, hV_sY, hV_sN, hV_sV, hN_sG, hN_sY, hN_sV, hN_sN, hF_sX, hF_sXr, hF_sF, hX_sF, hX_sX, hX_sXr, Nat.reduceEqDiff, Nat.reduceAdd, er_0, er_1, er_2, er_3, er_4, Nat.zero_lt_succ, forall_const, true_implies, false_implies, imp_self, implies_true]
    exact MA_no R1 C1 (h0 g0)
theorem m_sum {z A w h m u S} (R : RP z A w h m u S) (W : WF h) (C : CM h m) {p : Int32} {Q : Int32 → mmS → Prop} {X : String → mmS → Prop} (h1 : ∀ i, i < hN h 1 → p = nI i → MA z A w h u 0 (Q (sa h i (hN h 3)))) (h0 : (∀ k, k < hN h 1 → p ≠ nI k) → MA z A w h u 1 (Q 0)) : wp_X5_sum z S (A 12 0) p Q X := by
  unfold wp_X5_sum
  simp (disch := first | assumption | omega | (simp only [hN_sG, hN_sY, hN_sV] <;> first | assumption | omega)) only [rd R, Option.some.injEq, exists_eq_left', true_and, and_true, and_self, ne_eq, not_false_eq_true, not_true_eq_false, false_and, and_false, if_true, if_false, ite_true, ite_false, vin_0, vin_1, vin_2, vin_n, ncl, lit_0, lit_1, lit_2, lit_3, lit_4, lit_9, nm2, nm3, nm4, nm9, na1, na2, na3, na4, hG_sG, hG_sY, hG_sV, hG_sN, hY_sG, hY_sY, hY_sV, hY_sN, hV_sG, hV_sY, hV_sN, hV_sV, hN_sG, hN_sY, hN_sV, hN_sN, hF_sX, hF_sXr, hF_sF, hX_sF, hX_sX, hX_sXr, Nat.reduceEqDiff, Nat.reduceAdd, er_0, er_1, er_2, er_3, er_4, Nat.zero_lt_succ, forall_const, true_implies, false_implies, imp_self, implies_true]
  refine up_F R (by decide) (by decide) fun S1 R1 => ?_
  have C1 : CM h (hsF m 23 0) := CM_s23 C
  refine ru_isAccount R1 W C1 (fun i hi e => ⟨fun _ => ?_, fun g => absurd g (by decide)⟩) (fun g0 => ⟨fun g => absurd rfl g, fun _ => ?_⟩)
  · subst e
    simp (disch := first | assumption | omega | (simp only [hN_sG, hN_sY, hN_sV] <;> first | assumption | omega)) only [rd R1, Option.some.injEq, exists_eq_left', true_and, and_true, and_self, ne_eq, not_false_eq_true, not_true_eq_false, false_and, and_false, if_true, if_false, ite_true, ite_false, vin_0, vin_1, vin_2, vin_n, ncl, lit_0, lit_1, lit_2, lit_3, lit_4, lit_9, nm2, nm3, nm4, nm9, na1, na2, na3, na4, hG_sG, hG_sY, hG_sV, hG_sN, hY_sG, hY_sY, hY_sV, hY_sN, hV_sG, hV_sY, hV_sN, hV_sV, hN_sG, hN_sY, hN_sV, hN_sN, hF_sX, hF_sXr, hF_sF, hX_sF, hX_sX, hX_sXr, Nat.reduceEqDiff, Nat.reduceAdd, er_0, er_1, er_2, er_3, er_4, Nat.zero_lt_succ, forall_const, true_implies, false_implies, imp_self, implies_true]
    refine ru_mrateAll R1 C1 W fun m2 S2 R2 C2 D2 F2 => ?_
    simp (disch := first | assumption | omega | (simp only [hN_sG, hN_sY, hN_sV] <;> first | assumption | omega)) only [rd R2, Option.some.injEq, exists_eq_left', true_and, and_true, and_self, ne_eq, not_false_eq_true, not_true_eq_false, false_and, and_false, if_true, if_false, ite_true, ite_false, vin_0, vin_1, vin_2, vin_n, ncl, lit_0, lit_1, lit_2, lit_3, lit_4, lit_9, nm2, nm3, nm4, nm9, na1, na2, na3, na4, hG_sG, hG_sY, hG_sV, hG_sN, hY_sG, hY_sY, hY_sV, hY_sN, hV_sG, hV_sY, hV_sN, hV_sV, hN_sG, hN_sY, hN_sV, hN_sN, hF_sX, hF_sXr, hF_sF, hX_sF, hX_sX, hX_sXr, Nat.reduceEqDiff, Nat.reduceAdd, er_0, er_1, er_2, er_3, er_4, Nat.zero_lt_succ, forall_const, true_implies, false_implies, imp_self, implies_true]
    refine ru_sumOf R2 W (CP_of C2) D2 hi ?_
    exact h1 i hi rfl _ S2 R2 C2 (by rw [F2, hF_sF, if_pos rfl])
  · simp (disch := first | assumption | omega | (simp only [hN_sG, hN_sY, hN_sV] <;> first | assumption | omega)) only [rd R1, Option.some.injEq, exists_eq_left', true_and, and_true, and_self, ne_eq, not_false_eq_true, not_true_eq_false, false_and, and_false, if_true, if_false, ite_true, ite_false, vin_0, vin_1, vin_2, vin_n, ncl, lit_0, lit_1, lit_2, lit_3, lit_4, lit_9, nm2, nm3, nm4, nm9, na1, na2, na3, na4, hG_sG, hG_sY, hG_sV, hG_sN, hY_sG, hY_sY, hY_sV, hY_sN, hV_sG, hV_sY, hV_sN, hV_sV, hN_sG, hN_sY, hN_sV, hN_sN, hF_sX, hF_sXr, hF_sF, hX_sF, hX_sX, hX_sXr, Nat.reduceEqDiff, Nat.reduceAdd, er_0, er_1, er_2, er_3, er_4, Nat.zero_lt_succ, forall_const, true_implies, false_implies, imp_self, implies_true]
    exact MA_no R1 C1 (h0 g0)
theorem m_total {z A w h m u S} (R : RP z A w h m u S) (W : WF h) (C : CM h m) {p : Int32} {Q : Int32 → mmS → Prop} {X : String → mmS → Prop} (h1 : ∀ i, i < hN h 1 → p = nI i → MA z A w h u 0 (Q (cnt (sa h i (hN h 3)) (hG h 0 i) (hG h 1 i)))) (h0 : (∀ k, k < hN h 1 → p ≠ nI k) → MA z A w h u 1 (Q 0)) : wp_X5_total z S (A 12 0) p Q X := by
  unfold wp_X5_total
  simp (disch := first | assumption | omega | (simp only [hN_sG, hN_sY, hN_sV] <;> first | assumption | omega)) only [rd R, Option.some.injEq, exists_eq_left', true_and, and_true, and_self, ne_eq, not_false_eq_true, not_true_eq_false, false_and, and_false, if_true, if_false, ite_true, ite_false, vin_0, vin_1, vin_2, vin_n, ncl, lit_0, lit_1, lit_2, lit_3, lit_4, lit_9, nm2, nm3, nm4, nm9, na1, na2, na3, na4, hG_sG, hG_sY, hG_sV, hG_sN, hY_sG, hY_sY, hY_sV, hY_sN, hV_sG, hV_sY, hV_sN, hV_sV, hN_sG, hN_sY, hN_sV, hN_sN, hF_sX, hF_sXr, hF_sF, hX_sF, hX_sX, hX_sXr, Nat.reduceEqDiff, Nat.reduceAdd, er_0, er_1, er_2, er_3, er_4, Nat.zero_lt_succ, forall_const, true_implies, false_implies, imp_self, implies_true]
  refine up_F R (by decide) (by decide) fun S1 R1 => ?_
  have C1 : CM h (hsF m 23 0) := CM_s23 C
  refine ru_isAccount R1 W C1 (fun i hi e => ⟨fun _ => ?_, fun g => absurd g (by decide)⟩) (fun g0 => ⟨fun g => absurd rfl g, fun _ => ?_⟩)
  · subst e
    simp (disch := first | assumption | omega | (simp only [hN_sG, hN_sY, hN_sV] <;> first | assumption | omega)) only [rd R1, Option.some.injEq, exists_eq_left', true_and, and_true, and_self, ne_eq, not_false_eq_true, not_true_eq_false, false_and, and_false, if_true, if_false, ite_true, ite_false, vin_0, vin_1, vin_2, vin_n, ncl, lit_0, lit_1, lit_2, lit_3, lit_4, lit_9, nm2, nm3, nm4, nm9, na1, na2, na3, na4, hG_sG, hG_sY, hG_sV, hG_sN, hY_sG, hY_sY, hY_sV, hY_sN, hV_sG, hV_sY, hV_sN, hV_sV, hN_sG, hN_sY, hN_sV, hN_sN, hF_sX, hF_sXr, hF_sF, hX_sF, hX_sX, hX_sXr, Nat.reduceEqDiff, Nat.reduceAdd, er_0, er_1, er_2, er_3, er_4, Nat.zero_lt_succ, forall_const, true_implies, false_implies, imp_self, implies_true]
    refine ru_mrateAll R1 C1 W fun m2 S2 R2 C2 D2 F2 => ?_
    simp (disch := first | assumption | omega | (simp only [hN_sG, hN_sY, hN_sV] <;> first | assumption | omega)) only [rd R2, Option.some.injEq, exists_eq_left', true_and, and_true, and_self, ne_eq, not_false_eq_true, not_true_eq_false, false_and, and_false, if_true, if_false, ite_true, ite_false, vin_0, vin_1, vin_2, vin_n, ncl, lit_0, lit_1, lit_2, lit_3, lit_4, lit_9, nm2, nm3, nm4, nm9, na1, na2, na3, na4, hG_sG, hG_sY, hG_sV, hG_sN, hY_sG, hY_sY, hY_sV, hY_sN, hV_sG, hV_sY, hV_sN, hV_sV, hN_sG, hN_sY, hN_sV, hN_sN, hF_sX, hF_sXr, hF_sF, hX_sF, hX_sX, hX_sXr, Nat.reduceEqDiff, Nat.reduceAdd, er_0, er_1, er_2, er_3, er_4, Nat.zero_lt_succ, forall_const, true_implies, false_implies, imp_self, implies_true]
    refine ru_totalOf R2 W (CP_of C2) D2 hi ?_
    exact h1 i hi rfl _ S2 R2 C2 (by rw [F2, hF_sF, if_pos rfl])
  · simp (disch := first | assumption | omega | (simp only [hN_sG, hN_sY, hN_sV] <;> first | assumption | omega)) only [rd R1, Option.some.injEq, exists_eq_left', true_and, and_true, and_self, ne_eq, not_false_eq_true, not_true_eq_false, false_and, and_false, if_true, if_false, ite_true, ite_false, vin_0, vin_1, vin_2, vin_n, ncl, lit_0, lit_1, lit_2, lit_3, lit_4, lit_9, nm2, nm3, nm4, nm9, na1, na2, na3, na4, hG_sG, hG_sY, hG_sV, hG_sN, hY_sG, hY_sY, hY_sV, hY_sN, hV_sG, hV_sY, hV_sN, hV_sV, hN_sG, hN_sY, hN_sV, hN_sN, hF_sX, hF_sXr, hF_sF, hX_sF, hX_sX, hX_sXr, Nat.reduceEqDiff, Nat.reduceAdd, er_0, er_1, er_2, er_3, er_4, Nat.zero_lt_succ, forall_const, true_implies, false_implies, imp_self, implies_true]
    exact MA_no R1 C1 (h0 g0)
theorem m_left {z A w h m u S} (R : RP z A w h m u S) (W : WF h) (C : CM h m) {p : Int32} {Q : Int32 → mmS → Prop} {X : String → mmS → Prop} (h1 : ∀ i, i < hN h 1 → p = nI i → MA z A w h u 0 (Q (un h i (hN h 3)))) (h0 : (∀ k, k < hN h 1 → p ≠ nI k) → MA z A w h u 1 (Q 0)) : wp_X5_left z S (A 12 0) p Q X := by
  have W1 := W.1
  unfold Wn at W1
  unfold wp_X5_left
  simp (disch := first | assumption | omega | (simp only [hN_sG, hN_sY, hN_sV] <;> first | assumption | omega)) only [rd R, Option.some.injEq, exists_eq_left', true_and, and_true, and_self, ne_eq, not_false_eq_true, not_true_eq_false, false_and, and_false, if_true, if_false, ite_true, ite_false, vin_0, vin_1, vin_2, vin_n, ncl, lit_0, lit_1, lit_2, lit_3, lit_4, lit_9, nm2, nm3, nm4, nm9, na1, na2, na3, na4, hG_sG, hG_sY, hG_sV, hG_sN, hY_sG, hY_sY, hY_sV, hY_sN, hV_sG, hV_sY, hV_sN, hV_sV, hN_sG, hN_sY, hN_sV, hN_sN, hF_sX, hF_sXr, hF_sF, hX_sF, hX_sX, hX_sXr, Nat.reduceEqDiff, Nat.reduceAdd, er_0, er_1, er_2, er_3, er_4, Nat.zero_lt_succ, forall_const, true_implies, false_implies, imp_self, implies_true]
  refine up_F R (by decide) (by decide) fun S1 R1 => ?_
  have C1 : CM h (hsF m 23 0) := CM_s23 C
  refine ru_isAccount R1 W C1 (fun i hi e => ⟨fun _ => ?_, fun g => absurd g (by decide)⟩) (fun g0 => ⟨fun g => absurd rfl g, fun _ => ?_⟩)
  · subst e
    simp (disch := first | assumption | omega | (simp only [hN_sG, hN_sY, hN_sV] <;> first | assumption | omega)) only [rd R1, Option.some.injEq, exists_eq_left', true_and, and_true, and_self, ne_eq, not_false_eq_true, not_true_eq_false, false_and, and_false, if_true, if_false, ite_true, ite_false, vin_0, vin_1, vin_2, vin_n, ncl, lit_0, lit_1, lit_2, lit_3, lit_4, lit_9, nm2, nm3, nm4, nm9, na1, na2, na3, na4, hG_sG, hG_sY, hG_sV, hG_sN, hY_sG, hY_sY, hY_sV, hY_sN, hV_sG, hV_sY, hV_sN, hV_sV, hN_sG, hN_sY, hN_sV, hN_sN, hF_sX, hF_sXr, hF_sF, hX_sF, hX_sX, hX_sXr, Nat.reduceEqDiff, Nat.reduceAdd, er_0, er_1, er_2, er_3, er_4, Nat.zero_lt_succ, forall_const, true_implies, false_implies, imp_self, implies_true]
    refine ru_mrateAll R1 C1 W fun m2 S2 R2 C2 D2 F2 => ?_
    simp (disch := first | assumption | omega | (simp only [hN_sG, hN_sY, hN_sV] <;> first | assumption | omega)) only [rd R2, Option.some.injEq, exists_eq_left', true_and, and_true, and_self, ne_eq, not_false_eq_true, not_true_eq_false, false_and, and_false, if_true, if_false, ite_true, ite_false, vin_0, vin_1, vin_2, vin_n, ncl, lit_0, lit_1, lit_2, lit_3, lit_4, lit_9, nm2, nm3, nm4, nm9, na1, na2, na3, na4, hG_sG, hG_sY, hG_sV, hG_sN, hY_sG, hY_sY, hY_sV, hY_sN, hV_sG, hV_sY, hV_sN, hV_sV, hN_sG, hN_sY, hN_sV, hN_sN, hF_sX, hF_sXr, hF_sF, hX_sF, hX_sX, hX_sXr, Nat.reduceEqDiff, Nat.reduceAdd, er_0, er_1, er_2, er_3, er_4, Nat.zero_lt_succ, forall_const, true_implies, false_implies, imp_self, implies_true, (D2.1 i hi).1]
    exact h1 i hi rfl _ S2 R2 C2 (by rw [F2, hF_sF, if_pos rfl])
  · simp (disch := first | assumption | omega | (simp only [hN_sG, hN_sY, hN_sV] <;> first | assumption | omega)) only [rd R1, Option.some.injEq, exists_eq_left', true_and, and_true, and_self, ne_eq, not_false_eq_true, not_true_eq_false, false_and, and_false, if_true, if_false, ite_true, ite_false, vin_0, vin_1, vin_2, vin_n, ncl, lit_0, lit_1, lit_2, lit_3, lit_4, lit_9, nm2, nm3, nm4, nm9, na1, na2, na3, na4, hG_sG, hG_sY, hG_sV, hG_sN, hY_sG, hY_sY, hY_sV, hY_sN, hV_sG, hV_sY, hV_sN, hV_sV, hN_sG, hN_sY, hN_sV, hN_sN, hF_sX, hF_sXr, hF_sF, hX_sF, hX_sX, hX_sXr, Nat.reduceEqDiff, Nat.reduceAdd, er_0, er_1, er_2, er_3, er_4, Nat.zero_lt_succ, forall_const, true_implies, false_implies, imp_self, implies_true]
    exact MA_no R1 C1 (h0 g0)
theorem m_emptied {z A w h m u S} (R : RP z A w h m u S) (W : WF h) (C : CM h m) {p : Int32} {Q : Int32 → mmS → Prop} {X : String → mmS → Prop} (h1 : ∀ i, i < hN h 1 → p = nI i → MA z A w h u 0 (Q (em h i (hN h 3)))) (h0 : (∀ k, k < hN h 1 → p ≠ nI k) → MA z A w h u 1 (Q 0)) : wp_X5_emptied z S (A 12 0) p Q X := by
  have W1 := W.1
  unfold Wn at W1
  unfold wp_X5_emptied
  simp (disch := first | assumption | omega | (simp only [hN_sG, hN_sY, hN_sV] <;> first | assumption | omega)) only [rd R, Option.some.injEq, exists_eq_left', true_and, and_true, and_self, ne_eq, not_false_eq_true, not_true_eq_false, false_and, and_false, if_true, if_false, ite_true, ite_false, vin_0, vin_1, vin_2, vin_n, ncl, lit_0, lit_1, lit_2, lit_3, lit_4, lit_9, nm2, nm3, nm4, nm9, na1, na2, na3, na4, hG_sG, hG_sY, hG_sV, hG_sN, hY_sG, hY_sY, hY_sV, hY_sN, hV_sG, hV_sY, hV_sN, hV_sV, hN_sG, hN_sY, hN_sV, hN_sN, hF_sX, hF_sXr, hF_sF, hX_sF, hX_sX, hX_sXr, Nat.reduceEqDiff, Nat.reduceAdd, er_0, er_1, er_2, er_3, er_4, Nat.zero_lt_succ, forall_const, true_implies, false_implies, imp_self, implies_true]
  refine up_F R (by decide) (by decide) fun S1 R1 => ?_
  have C1 : CM h (hsF m 23 0) := CM_s23 C
  refine ru_isAccount R1 W C1 (fun i hi e => ⟨fun _ => ?_, fun g => absurd g (by decide)⟩) (fun g0 => ⟨fun g => absurd rfl g, fun _ => ?_⟩)
  · subst e
    simp (disch := first | assumption | omega | (simp only [hN_sG, hN_sY, hN_sV] <;> first | assumption | omega)) only [rd R1, Option.some.injEq, exists_eq_left', true_and, and_true, and_self, ne_eq, not_false_eq_true, not_true_eq_false, false_and, and_false, if_true, if_false, ite_true, ite_false, vin_0, vin_1, vin_2, vin_n, ncl, lit_0, lit_1, lit_2, lit_3, lit_4, lit_9, nm2, nm3, nm4, nm9, na1, na2, na3, na4, hG_sG, hG_sY, hG_sV, hG_sN, hY_sG, hY_sY, hY_sV, hY_sN, hV_sG, hV_sY, hV_sN, hV_sV, hN_sG, hN_sY, hN_sV, hN_sN, hF_sX, hF_sXr, hF_sF, hX_sF, hX_sX, hX_sXr, Nat.reduceEqDiff, Nat.reduceAdd, er_0, er_1, er_2, er_3, er_4, Nat.zero_lt_succ, forall_const, true_implies, false_implies, imp_self, implies_true]
    refine ru_mrateAll R1 C1 W fun m2 S2 R2 C2 D2 F2 => ?_
    simp (disch := first | assumption | omega | (simp only [hN_sG, hN_sY, hN_sV] <;> first | assumption | omega)) only [rd R2, Option.some.injEq, exists_eq_left', true_and, and_true, and_self, ne_eq, not_false_eq_true, not_true_eq_false, false_and, and_false, if_true, if_false, ite_true, ite_false, vin_0, vin_1, vin_2, vin_n, ncl, lit_0, lit_1, lit_2, lit_3, lit_4, lit_9, nm2, nm3, nm4, nm9, na1, na2, na3, na4, hG_sG, hG_sY, hG_sV, hG_sN, hY_sG, hY_sY, hY_sV, hY_sN, hV_sG, hV_sY, hV_sN, hV_sV, hN_sG, hN_sY, hN_sV, hN_sN, hF_sX, hF_sXr, hF_sF, hX_sF, hX_sX, hX_sXr, Nat.reduceEqDiff, Nat.reduceAdd, er_0, er_1, er_2, er_3, er_4, Nat.zero_lt_succ, forall_const, true_implies, false_implies, imp_self, implies_true, (D2.1 i hi).2]
    exact h1 i hi rfl _ S2 R2 C2 (by rw [F2, hF_sF, if_pos rfl])
  · simp (disch := first | assumption | omega | (simp only [hN_sG, hN_sY, hN_sV] <;> first | assumption | omega)) only [rd R1, Option.some.injEq, exists_eq_left', true_and, and_true, and_self, ne_eq, not_false_eq_true, not_true_eq_false, false_and, and_false, if_true, if_false, ite_true, ite_false, vin_0, vin_1, vin_2, vin_n, ncl, lit_0, lit_1, lit_2, lit_3, lit_4, lit_9, nm2, nm3, nm4, nm9, na1, na2, na3, na4, hG_sG, hG_sY, hG_sV, hG_sN, hY_sG, hY_sY, hY_sV, hY_sN, hV_sG, hV_sY, hV_sN, hV_sV, hN_sG, hN_sY, hN_sV, hN_sN, hF_sX, hF_sXr, hF_sF, hX_sF, hX_sX, hX_sXr, Nat.reduceEqDiff, Nat.reduceAdd, er_0, er_1, er_2, er_3, er_4, Nat.zero_lt_succ, forall_const, true_implies, false_implies, imp_self, implies_true]
    exact MA_no R1 C1 (h0 g0)
