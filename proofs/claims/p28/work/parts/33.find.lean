/-! finding by number; sums over places are sums over numbers -/
theorem ru_findTariff {z A w h m u S} (R : RP z A w h m u S) (W : WF h) {p : Int32} {Q : Nat → mmS → Prop} {X : String → mmS → Prop} (h1 : ∀ i, i < hN h 0 → p = nI i → Q (A 0 i) S) (h0 : (∀ i, i < hN h 0 → p ≠ nI i) → X "java/lang/IndexOutOfBoundsException" S) : wp_X4_findTariff z S (A 10 0) p Q X := by
  have W1 := W.1
  unfold Wn at W1
  have e5 : hN h (5 + 0) = hN h 0 := by show hN h 5 = _; omega
  unfold wp_X4_findTariff
  rcases pk_ix p (n := hN h 0) (by omega) with g | g | ⟨i, hi, rfl⟩
  · exact ⟨fun _ => h0 fun i hi e => absurd (by rw [← e]; exact g) (nI_pos (show i < 2 ^ 31 by omega)), fun q => absurd g q⟩
  · refine ⟨fun q => absurd (Int32.lt_of_le_of_lt g q) (nI_pos (by omega)), fun _ => ?_⟩
    simp (disch := first | assumption | omega | (simp only [hN_sG, hN_sY, hN_sV] <;> first | assumption | omega)) only [rd R, Option.some.injEq, exists_eq_left', true_and, and_true, and_self, ne_eq, not_false_eq_true, not_true_eq_false, false_and, and_false, if_true, if_false, ite_true, ite_false, vin_0, vin_1, vin_2, vin_n, ncl, lit_0, lit_1, lit_2, lit_3, lit_4, lit_9, nm2, nm3, nm4, nm9, na1, na2, na3, na4, hG_sG, hG_sY, hG_sV, hG_sN, hY_sG, hY_sY, hY_sV, hY_sN, hV_sG, hV_sY, hV_sN, hV_sV, hN_sG, hN_sY, hN_sV, hN_sN, hF_sX, hF_sXr, hF_sF, hX_sF, hX_sX, hX_sXr, Nat.reduceEqDiff, Nat.reduceAdd, er_0, er_1, er_2, er_3, er_4, Nat.zero_lt_succ, forall_const, true_implies, false_implies, imp_self, implies_true]
    refine ru_size R (by decide) ?_
    rw [e5]
    refine ⟨fun q => absurd g (Int32.not_le.mpr q), fun _ => h0 fun i hi e => ?_⟩
    rw [e, nle (by omega) (by omega)] at g
    omega
  · refine ⟨fun q => absurd q (nI_pos (by omega)), fun _ => ?_⟩
    simp (disch := first | assumption | omega | (simp only [hN_sG, hN_sY, hN_sV] <;> first | assumption | omega)) only [rd R, Option.some.injEq, exists_eq_left', true_and, and_true, and_self, ne_eq, not_false_eq_true, not_true_eq_false, false_and, and_false, if_true, if_false, ite_true, ite_false, vin_0, vin_1, vin_2, vin_n, ncl, lit_0, lit_1, lit_2, lit_3, lit_4, lit_9, nm2, nm3, nm4, nm9, na1, na2, na3, na4, hG_sG, hG_sY, hG_sV, hG_sN, hY_sG, hY_sY, hY_sV, hY_sN, hV_sG, hV_sY, hV_sN, hV_sV, hN_sG, hN_sY, hN_sV, hN_sN, hF_sX, hF_sXr, hF_sF, hX_sF, hX_sX, hX_sXr, Nat.reduceEqDiff, Nat.reduceAdd, er_0, er_1, er_2, er_3, er_4, Nat.zero_lt_succ, forall_const, true_implies, false_implies, imp_self, implies_true]
    refine ru_size R (by decide) ?_
    rw [e5]
    refine ⟨fun _ => ?_, fun q => absurd (nI_lt hi (by omega)) q⟩
    simp (disch := first | assumption | omega | (simp only [hN_sG, hN_sY, hN_sV] <;> first | assumption | omega)) only [rd R, Option.some.injEq, exists_eq_left', true_and, and_true, and_self, ne_eq, not_false_eq_true, not_true_eq_false, false_and, and_false, if_true, if_false, ite_true, ite_false, vin_0, vin_1, vin_2, vin_n, ncl, lit_0, lit_1, lit_2, lit_3, lit_4, lit_9, nm2, nm3, nm4, nm9, na1, na2, na3, na4, hG_sG, hG_sY, hG_sV, hG_sN, hY_sG, hY_sY, hY_sV, hY_sN, hV_sG, hV_sY, hV_sN, hV_sV, hN_sG, hN_sY, hN_sV, hN_sN, hF_sX, hF_sXr, hF_sF, hX_sF, hX_sX, hX_sXr, Nat.reduceEqDiff, Nat.reduceAdd, er_0, er_1, er_2, er_3, er_4, Nat.zero_lt_succ, forall_const, true_implies, false_implies, imp_self, implies_true]
    refine ru_get R (by decide) (by rw [e5]; exact hi) (by rw [e5]; omega) ?_
    have ev : hV h (5 + 0) i = i := (W.2.1 i hi).1
    rw [ev]
    simp (disch := first | assumption | omega | (simp only [hN_sG, hN_sY, hN_sV] <;> first | assumption | omega)) only [rd R, Option.some.injEq, exists_eq_left', true_and, and_true, and_self, ne_eq, not_false_eq_true, not_true_eq_false, false_and, and_false, if_true, if_false, ite_true, ite_false, vin_0, vin_1, vin_2, vin_n, ncl, lit_0, lit_1, lit_2, lit_3, lit_4, lit_9, nm2, nm3, nm4, nm9, na1, na2, na3, na4, hG_sG, hG_sY, hG_sV, hG_sN, hY_sG, hY_sY, hY_sV, hY_sN, hV_sG, hV_sY, hV_sN, hV_sV, hN_sG, hN_sY, hN_sV, hN_sN, hF_sX, hF_sXr, hF_sF, hX_sF, hX_sX, hX_sXr, Nat.reduceEqDiff, Nat.reduceAdd, er_0, er_1, er_2, er_3, er_4, Nat.zero_lt_succ, forall_const, true_implies, false_implies, imp_self, implies_true]
    exact h1 i hi rfl
theorem ru_findAccount {z A w h m u S} (R : RP z A w h m u S) (W : WF h) {p : Int32} {Q : Nat → mmS → Prop} {X : String → mmS → Prop} (h1 : ∀ i, i < hN h 1 → p = nI i → Q (A 1 i) S) (h0 : (∀ i, i < hN h 1 → p ≠ nI i) → X "java/lang/IndexOutOfBoundsException" S) : wp_X4_findAccount z S (A 10 0) p Q X := by
  have W1 := W.1
  unfold Wn at W1
  have e5 : hN h (5 + 1) = hN h 1 := by show hN h 6 = _; omega
  unfold wp_X4_findAccount
  rcases pk_ix p (n := hN h 1) (by omega) with g | g | ⟨i, hi, rfl⟩
  · exact ⟨fun _ => h0 fun i hi e => absurd (by rw [← e]; exact g) (nI_pos (show i < 2 ^ 31 by omega)), fun q => absurd g q⟩
  · refine ⟨fun q => absurd (Int32.lt_of_le_of_lt g q) (nI_pos (by omega)), fun _ => ?_⟩
    simp (disch := first | assumption | omega | (simp only [hN_sG, hN_sY, hN_sV] <;> first | assumption | omega)) only [rd R, Option.some.injEq, exists_eq_left', true_and, and_true, and_self, ne_eq, not_false_eq_true, not_true_eq_false, false_and, and_false, if_true, if_false, ite_true, ite_false, vin_0, vin_1, vin_2, vin_n, ncl, lit_0, lit_1, lit_2, lit_3, lit_4, lit_9, nm2, nm3, nm4, nm9, na1, na2, na3, na4, hG_sG, hG_sY, hG_sV, hG_sN, hY_sG, hY_sY, hY_sV, hY_sN, hV_sG, hV_sY, hV_sN, hV_sV, hN_sG, hN_sY, hN_sV, hN_sN, hF_sX, hF_sXr, hF_sF, hX_sF, hX_sX, hX_sXr, Nat.reduceEqDiff, Nat.reduceAdd, er_0, er_1, er_2, er_3, er_4, Nat.zero_lt_succ, forall_const, true_implies, false_implies, imp_self, implies_true]
    refine ru_size R (by decide) ?_
    rw [e5]
    refine ⟨fun q => absurd g (Int32.not_le.mpr q), fun _ => h0 fun i hi e => ?_⟩
    rw [e, nle (by omega) (by omega)] at g
    omega
  · refine ⟨fun q => absurd q (nI_pos (by omega)), fun _ => ?_⟩
    simp (disch := first | assumption | omega | (simp only [hN_sG, hN_sY, hN_sV] <;> first | assumption | omega)) only [rd R, Option.some.injEq, exists_eq_left', true_and, and_true, and_self, ne_eq, not_false_eq_true, not_true_eq_false, false_and, and_false, if_true, if_false, ite_true, ite_false, vin_0, vin_1, vin_2, vin_n, ncl, lit_0, lit_1, lit_2, lit_3, lit_4, lit_9, nm2, nm3, nm4, nm9, na1, na2, na3, na4, hG_sG, hG_sY, hG_sV, hG_sN, hY_sG, hY_sY, hY_sV, hY_sN, hV_sG, hV_sY, hV_sN, hV_sV, hN_sG, hN_sY, hN_sV, hN_sN, hF_sX, hF_sXr, hF_sF, hX_sF, hX_sX, hX_sXr, Nat.reduceEqDiff, Nat.reduceAdd, er_0, er_1, er_2, er_3, er_4, Nat.zero_lt_succ, forall_const, true_implies, false_implies, imp_self, implies_true]
    refine ru_size R (by decide) ?_
    rw [e5]
    refine ⟨fun _ => ?_, fun q => absurd (nI_lt hi (by omega)) q⟩
    simp (disch := first | assumption | omega | (simp only [hN_sG, hN_sY, hN_sV] <;> first | assumption | omega)) only [rd R, Option.some.injEq, exists_eq_left', true_and, and_true, and_self, ne_eq, not_false_eq_true, not_true_eq_false, false_and, and_false, if_true, if_false, ite_true, ite_false, vin_0, vin_1, vin_2, vin_n, ncl, lit_0, lit_1, lit_2, lit_3, lit_4, lit_9, nm2, nm3, nm4, nm9, na1, na2, na3, na4, hG_sG, hG_sY, hG_sV, hG_sN, hY_sG, hY_sY, hY_sV, hY_sN, hV_sG, hV_sY, hV_sN, hV_sV, hN_sG, hN_sY, hN_sV, hN_sN, hF_sX, hF_sXr, hF_sF, hX_sF, hX_sX, hX_sXr, Nat.reduceEqDiff, Nat.reduceAdd, er_0, er_1, er_2, er_3, er_4, Nat.zero_lt_succ, forall_const, true_implies, false_implies, imp_self, implies_true]
    refine ru_get R (by decide) (by rw [e5]; exact hi) (by rw [e5]; omega) ?_
    have ev : hV h (5 + 1) i = i := (W.2.2.1 i hi).1
    rw [ev]
    simp (disch := first | assumption | omega | (simp only [hN_sG, hN_sY, hN_sV] <;> first | assumption | omega)) only [rd R, Option.some.injEq, exists_eq_left', true_and, and_true, and_self, ne_eq, not_false_eq_true, not_true_eq_false, false_and, and_false, if_true, if_false, ite_true, ite_false, vin_0, vin_1, vin_2, vin_n, ncl, lit_0, lit_1, lit_2, lit_3, lit_4, lit_9, nm2, nm3, nm4, nm9, na1, na2, na3, na4, hG_sG, hG_sY, hG_sV, hG_sN, hY_sG, hY_sY, hY_sV, hY_sN, hV_sG, hV_sY, hV_sN, hV_sV, hN_sG, hN_sY, hN_sV, hN_sN, hF_sX, hF_sXr, hF_sF, hX_sF, hX_sX, hX_sXr, Nat.reduceEqDiff, Nat.reduceAdd, er_0, er_1, er_2, er_3, er_4, Nat.zero_lt_succ, forall_const, true_implies, false_implies, imp_self, implies_true]
    exact h1 i hi rfl
theorem ru_findLine {z A w h m u S} (R : RP z A w h m u S) (W : WF h) {p : Int32} {Q : Nat → mmS → Prop} {X : String → mmS → Prop} (h1 : ∀ i, i < hN h 2 → p = nI i → Q (A 2 i) S) (h0 : (∀ i, i < hN h 2 → p ≠ nI i) → X "java/lang/IndexOutOfBoundsException" S) : wp_X4_findLine z S (A 10 0) p Q X := by
  have W1 := W.1
  unfold Wn at W1
  have e5 : hN h (5 + 2) = hN h 2 := by show hN h 7 = _; omega
  unfold wp_X4_findLine
  rcases pk_ix p (n := hN h 2) (by omega) with g | g | ⟨i, hi, rfl⟩
  · exact ⟨fun _ => h0 fun i hi e => absurd (by rw [← e]; exact g) (nI_pos (show i < 2 ^ 31 by omega)), fun q => absurd g q⟩
  · refine ⟨fun q => absurd (Int32.lt_of_le_of_lt g q) (nI_pos (by omega)), fun _ => ?_⟩
    simp (disch := first | assumption | omega | (simp only [hN_sG, hN_sY, hN_sV] <;> first | assumption | omega)) only [rd R, Option.some.injEq, exists_eq_left', true_and, and_true, and_self, ne_eq, not_false_eq_true, not_true_eq_false, false_and, and_false, if_true, if_false, ite_true, ite_false, vin_0, vin_1, vin_2, vin_n, ncl, lit_0, lit_1, lit_2, lit_3, lit_4, lit_9, nm2, nm3, nm4, nm9, na1, na2, na3, na4, hG_sG, hG_sY, hG_sV, hG_sN, hY_sG, hY_sY, hY_sV, hY_sN, hV_sG, hV_sY, hV_sN, hV_sV, hN_sG, hN_sY, hN_sV, hN_sN, hF_sX, hF_sXr, hF_sF, hX_sF, hX_sX, hX_sXr, Nat.reduceEqDiff, Nat.reduceAdd, er_0, er_1, er_2, er_3, er_4, Nat.zero_lt_succ, forall_const, true_implies, false_implies, imp_self, implies_true]
    refine ru_size R (by decide) ?_
    rw [e5]
    refine ⟨fun q => absurd g (Int32.not_le.mpr q), fun _ => h0 fun i hi e => ?_⟩
    rw [e, nle (by omega) (by omega)] at g
    omega
  · refine ⟨fun q => absurd q (nI_pos (by omega)), fun _ => ?_⟩
    simp (disch := first | assumption | omega | (simp only [hN_sG, hN_sY, hN_sV] <;> first | assumption | omega)) only [rd R, Option.some.injEq, exists_eq_left', true_and, and_true, and_self, ne_eq, not_false_eq_true, not_true_eq_false, false_and, and_false, if_true, if_false, ite_true, ite_false, vin_0, vin_1, vin_2, vin_n, ncl, lit_0, lit_1, lit_2, lit_3, lit_4, lit_9, nm2, nm3, nm4, nm9, na1, na2, na3, na4, hG_sG, hG_sY, hG_sV, hG_sN, hY_sG, hY_sY, hY_sV, hY_sN, hV_sG, hV_sY, hV_sN, hV_sV, hN_sG, hN_sY, hN_sV, hN_sN, hF_sX, hF_sXr, hF_sF, hX_sF, hX_sX, hX_sXr, Nat.reduceEqDiff, Nat.reduceAdd, er_0, er_1, er_2, er_3, er_4, Nat.zero_lt_succ, forall_const, true_implies, false_implies, imp_self, implies_true]
    refine ru_size R (by decide) ?_
    rw [e5]
    refine ⟨fun _ => ?_, fun q => absurd (nI_lt hi (by omega)) q⟩
    simp (disch := first | assumption | omega | (simp only [hN_sG, hN_sY, hN_sV] <;> first | assumption | omega)) only [rd R, Option.some.injEq, exists_eq_left', true_and, and_true, and_self, ne_eq, not_false_eq_true, not_true_eq_false, false_and, and_false, if_true, if_false, ite_true, ite_false, vin_0, vin_1, vin_2, vin_n, ncl, lit_0, lit_1, lit_2, lit_3, lit_4, lit_9, nm2, nm3, nm4, nm9, na1, na2, na3, na4, hG_sG, hG_sY, hG_sV, hG_sN, hY_sG, hY_sY, hY_sV, hY_sN, hV_sG, hV_sY, hV_sN, hV_sV, hN_sG, hN_sY, hN_sV, hN_sN, hF_sX, hF_sXr, hF_sF, hX_sF, hX_sX, hX_sXr, Nat.reduceEqDiff, Nat.reduceAdd, er_0, er_1, er_2, er_3, er_4, Nat.zero_lt_succ, forall_const, true_implies, false_implies, imp_self, implies_true]
    refine ru_get R (by decide) (by rw [e5]; exact hi) (by rw [e5]; omega) ?_
    have ev : hV h (5 + 2) i = i := (W.2.2.2.1 i hi).1
    rw [ev]
    simp (disch := first | assumption | omega | (simp only [hN_sG, hN_sY, hN_sV] <;> first | assumption | omega)) only [rd R, Option.some.injEq, exists_eq_left', true_and, and_true, and_self, ne_eq, not_false_eq_true, not_true_eq_false, false_and, and_false, if_true, if_false, ite_true, ite_false, vin_0, vin_1, vin_2, vin_n, ncl, lit_0, lit_1, lit_2, lit_3, lit_4, lit_9, nm2, nm3, nm4, nm9, na1, na2, na3, na4, hG_sG, hG_sY, hG_sV, hG_sN, hY_sG, hY_sY, hY_sV, hY_sN, hV_sG, hV_sY, hV_sN, hV_sV, hN_sG, hN_sY, hN_sV, hN_sN, hF_sX, hF_sXr, hF_sF, hX_sF, hX_sX, hX_sXr, Nat.reduceEqDiff, Nat.reduceAdd, er_0, er_1, er_2, er_3, er_4, Nat.zero_lt_succ, forall_const, true_implies, false_implies, imp_self, implies_true]
    exact h1 i hi rfl
theorem ru_findCall {z A w h m u S} (R : RP z A w h m u S) (W : WF h) {p : Int32} {Q : Nat → mmS → Prop} {X : String → mmS → Prop} (h1 : ∀ i, i < hN h 3 → p = nI i → Q (A 3 i) S) (h0 : (∀ i, i < hN h 3 → p ≠ nI i) → X "java/lang/IndexOutOfBoundsException" S) : wp_X4_findCall z S (A 10 0) p Q X := by
  have W1 := W.1
  unfold Wn at W1
  have e5 : hN h (5 + 3) = hN h 3 := by show hN h 8 = _; omega
  unfold wp_X4_findCall
  rcases pk_ix p (n := hN h 3) (by omega) with g | g | ⟨i, hi, rfl⟩
  · exact ⟨fun _ => h0 fun i hi e => absurd (by rw [← e]; exact g) (nI_pos (show i < 2 ^ 31 by omega)), fun q => absurd g q⟩
  · refine ⟨fun q => absurd (Int32.lt_of_le_of_lt g q) (nI_pos (by omega)), fun _ => ?_⟩
    simp (disch := first | assumption | omega | (simp only [hN_sG, hN_sY, hN_sV] <;> first | assumption | omega)) only [rd R, Option.some.injEq, exists_eq_left', true_and, and_true, and_self, ne_eq, not_false_eq_true, not_true_eq_false, false_and, and_false, if_true, if_false, ite_true, ite_false, vin_0, vin_1, vin_2, vin_n, ncl, lit_0, lit_1, lit_2, lit_3, lit_4, lit_9, nm2, nm3, nm4, nm9, na1, na2, na3, na4, hG_sG, hG_sY, hG_sV, hG_sN, hY_sG, hY_sY, hY_sV, hY_sN, hV_sG, hV_sY, hV_sN, hV_sV, hN_sG, hN_sY, hN_sV, hN_sN, hF_sX, hF_sXr, hF_sF, hX_sF, hX_sX, hX_sXr, Nat.reduceEqDiff, Nat.reduceAdd, er_0, er_1, er_2, er_3, er_4, Nat.zero_lt_succ, forall_const, true_implies, false_implies, imp_self, implies_true]
    refine ru_size R (by decide) ?_
    rw [e5]
    refine ⟨fun q => absurd g (Int32.not_le.mpr q), fun _ => h0 fun i hi e => ?_⟩
    rw [e, nle (by omega) (by omega)] at g
    omega
  · refine ⟨fun q => absurd q (nI_pos (by omega)), fun _ => ?_⟩
    simp (disch := first | assumption | omega | (simp only [hN_sG, hN_sY, hN_sV] <;> first | assumption | omega)) only [rd R, Option.some.injEq, exists_eq_left', true_and, and_true, and_self, ne_eq, not_false_eq_true, not_true_eq_false, false_and, and_false, if_true, if_false, ite_true, ite_false, vin_0, vin_1, vin_2, vin_n, ncl, lit_0, lit_1, lit_2, lit_3, lit_4, lit_9, nm2, nm3, nm4, nm9, na1, na2, na3, na4, hG_sG, hG_sY, hG_sV, hG_sN, hY_sG, hY_sY, hY_sV, hY_sN, hV_sG, hV_sY, hV_sN, hV_sV, hN_sG, hN_sY, hN_sV, hN_sN, hF_sX, hF_sXr, hF_sF, hX_sF, hX_sX, hX_sXr, Nat.reduceEqDiff, Nat.reduceAdd, er_0, er_1, er_2, er_3, er_4, Nat.zero_lt_succ, forall_const, true_implies, false_implies, imp_self, implies_true]
    refine ru_size R (by decide) ?_
    rw [e5]
    refine ⟨fun _ => ?_, fun q => absurd (nI_lt hi (by omega)) q⟩
    simp (disch := first | assumption | omega | (simp only [hN_sG, hN_sY, hN_sV] <;> first | assumption | omega)) only [rd R, Option.some.injEq, exists_eq_left', true_and, and_true, and_self, ne_eq, not_false_eq_true, not_true_eq_false, false_and, and_false, if_true, if_false, ite_true, ite_false, vin_0, vin_1, vin_2, vin_n, ncl, lit_0, lit_1, lit_2, lit_3, lit_4, lit_9, nm2, nm3, nm4, nm9, na1, na2, na3, na4, hG_sG, hG_sY, hG_sV, hG_sN, hY_sG, hY_sY, hY_sV, hY_sN, hV_sG, hV_sY, hV_sN, hV_sV, hN_sG, hN_sY, hN_sV, hN_sN, hF_sX, hF_sXr, hF_sF, hX_sF, hX_sX, hX_sXr, Nat.reduceEqDiff, Nat.reduceAdd, er_0, er_1, er_2, er_3, er_4, Nat.zero_lt_succ, forall_const, true_implies, false_implies, imp_self, implies_true]
    refine ru_get R (by decide) (by rw [e5]; exact hi) (by rw [e5]; omega) ?_
    have ev : hV h (5 + 3) i = i := (W.2.2.2.2.1 i hi).1
    rw [ev]
    simp (disch := first | assumption | omega | (simp only [hN_sG, hN_sY, hN_sV] <;> first | assumption | omega)) only [rd R, Option.some.injEq, exists_eq_left', true_and, and_true, and_self, ne_eq, not_false_eq_true, not_true_eq_false, false_and, and_false, if_true, if_false, ite_true, ite_false, vin_0, vin_1, vin_2, vin_n, ncl, lit_0, lit_1, lit_2, lit_3, lit_4, lit_9, nm2, nm3, nm4, nm9, na1, na2, na3, na4, hG_sG, hG_sY, hG_sV, hG_sN, hY_sG, hY_sY, hY_sV, hY_sN, hV_sG, hV_sY, hV_sN, hV_sV, hN_sG, hN_sY, hN_sV, hN_sN, hF_sX, hF_sXr, hF_sF, hX_sF, hX_sX, hX_sXr, Nat.reduceEqDiff, Nat.reduceAdd, er_0, er_1, er_2, er_3, er_4, Nat.zero_lt_succ, forall_const, true_implies, false_implies, imp_self, implies_true]
    exact h1 i hi rfl
theorem sm_congr {f g : Nat → Int32} : ∀ n, (∀ k, k < n → f k = g k) → sm f n = sm g n
  | 0, _ => rfl
  | n + 1, h => by
    show sm f n + f n = sm g n + g n
    rw [sm_congr n (fun k hk => h k (by omega)), h n (by omega)]
/-- the place of a call -/
noncomputable def pl (c : hC) (i : Nat) : Nat := Classical.epsilon fun k => k < hN c 3 ∧ hV c 9 k = i
theorem pl_spec {c : hC} (W : WF c) {i : Nat} (hi : i < hN c 3) : pl c i < hN c 3 ∧ hV c 9 (pl c i) = i :=
  Classical.epsilon_spec (p := fun k => k < hN c 3 ∧ hV c 9 k = i) (W.2.2.2.2.2.2.2.2.1 i hi)
theorem pl_od {c : hC} (W : WF c) {k : Nat} (hk : k < hN c 3) : pl c (hV c 9 k) = k := by
  have h := pl_spec W (W.2.2.2.2.2.1 k hk)
  exact W.2.2.2.2.2.2.1 _ _ h.1 hk h.2
theorem sm_od {c : hC} (W : WF c) {f g : Nat → Int32} (h : ∀ k, k < hN c 3 → g k = f (hV c 9 k)) : sm g (hN c 3) = sm f (hN c 3) := by
  rw [← W.2.2.2.2.2.2.2.2.2 f]
  exact sm_congr _ h
theorem sl_sm {c : hC} (l : Nat) : ∀ n, sl c l n = sm (fun k => if hV c 0 (hV c 9 k) = l then prc c k else 0) n
  | 0 => rfl
  | n + 1 => by
    rw [sl_s, sl_sm l n]
    show _ = sm _ n + (if hV c 0 (hV c 9 n) = l then prc c n else 0)
    by_cases e : hV c 0 (hV c 9 n) = l
    · rw [if_pos e, if_pos e]
    · rw [if_neg e, if_neg e, Int32.add_zero]
theorem sl_num {c : hC} (W : WF c) (l : Nat) : sl c l (hN c 3) = sm (fun i => if hV c 0 i = l then prc c (pl c i) else 0) (hN c 3) := by
  rw [sl_sm]
  exact sm_od W fun k hk => by rw [pl_od W hk]
theorem fp_sm {c : hC} (l q : Nat) : ∀ n, fp c l q n = sm (fun k => if hV c 0 (hV c 9 k) = l ∧ zo c (hV c 9 k) = q ∧ ¬ fch c k = 0 then 1 else 0) n
  | 0 => rfl
  | n + 1 => by
    rw [fp_s, fp_sm l q n]
    show _ = sm _ n + (if hV c 0 (hV c 9 n) = l ∧ zo c (hV c 9 n) = q ∧ ¬ fch c n = 0 then 1 else 0)
    by_cases e : hV c 0 (hV c 9 n) = l ∧ zo c (hV c 9 n) = q ∧ ¬ fch c n = 0
    · rw [if_pos e, if_pos e]
    · rw [if_neg e, if_neg e, Int32.add_zero]
theorem fp_num {c : hC} (W : WF c) (l q : Nat) : fp c l q (hN c 3) = sm (fun i => if hV c 0 i = l ∧ zo c i = q ∧ ¬ fch c (pl c i) = 0 then 1 else 0) (hN c 3) := by
  rw [fp_sm]
  exact sm_od W fun k hk => by rw [pl_od W hk]
theorem sm_pt (f : Nat → Int32) (x : Nat) (p : Int32) : ∀ n, sm (fun l => f l + (if x = l then p else 0)) n = if x < n then sm f n + p else sm f n
  | 0 => rfl
  | n + 1 => by
    show sm _ n + (f n + (if x = n then p else 0)) = _
    rw [sm_pt f x p n]
    have e2 : sm f (n + 1) = sm f n + f n := rfl
    rw [e2]
    by_cases e : x < n
    · rw [if_pos e, if_pos (show x < n + 1 by omega), if_neg (show ¬ x = n by omega), Int32.add_zero, Int32.add_assoc, Int32.add_assoc, Int32.add_comm p]
    · rw [if_neg e]
      by_cases e3 : x = n
      · rw [if_pos e3, if_pos (show x < n + 1 by omega), Int32.add_assoc]
      · rw [if_neg e3, if_neg (show ¬ x < n + 1 by omega), Int32.add_zero]
/-- the sum of an account is that of its lines' sums -/
theorem sa_sl {c : hC} (W : WF c) (a : Nat) : ∀ k, k ≤ hN c 3 → sa c a k = sm (fun l => if hV c 1 l = a then sl c l k else 0) (hN c 2)
  | 0, _ => by
    have : ∀ n, sm (fun l => if hV c 1 l = a then sl c l 0 else 0) n = 0 := by
      intro n
      induction n with
      | zero => rfl
      | succ n ih =>
        show sm _ n + (if hV c 1 n = a then sl c n 0 else 0) = 0
        rw [ih]
        split <;> rfl
    rw [this]; rfl
  | k + 1, hk => by
    have hl := (W.2.2.2.2.1 _ (W.2.2.2.2.2.1 k (by omega))).2.2.1
    rw [sa_s, sa_sl W a k (by omega)]
    have e1 : sm (fun l => if hV c 1 l = a then sl c l (k + 1) else 0) (hN c 2) = sm (fun l => (if hV c 1 l = a then sl c l k else 0) + (if hV c 0 (hV c 9 k) = l then (if hV c 1 l = a then prc c k else 0) else 0)) (hN c 2) := by
      refine sm_congr _ fun l _ => ?_
      rw [sl_s]
      by_cases e : hV c 1 l = a
      · simp only [if_pos e]
        by_cases e2 : hV c 0 (hV c 9 k) = l
        · rw [if_pos e2, if_pos e2]
        · rw [if_neg e2, if_neg e2, Int32.add_zero]
      · simp only [if_neg e]
        split <;> rfl
    have e2 : sm (fun l => (if hV c 1 l = a then sl c l k else 0) + (if hV c 0 (hV c 9 k) = l then (if hV c 1 l = a then prc c k else 0) else 0)) (hN c 2) = sm (fun l => (if hV c 1 l = a then sl c l k else 0) + (if hV c 0 (hV c 9 k) = l then (if aco c (hV c 9 k) = a then prc c k else 0) else 0)) (hN c 2) := by
      refine sm_congr _ fun l _ => ?_
      by_cases e2 : hV c 0 (hV c 9 k) = l
      · rw [if_pos e2, if_pos e2]
        unfold aco; rw [e2]
      · rw [if_neg e2, if_neg e2]
    rw [e1, e2, sm_pt, if_pos hl]
    by_cases e : aco c (hV c 9 k) = a
    · rw [if_pos e, if_pos e]
    · rw [if_neg e, if_neg e, Int32.add_zero]
theorem DKn {c h : hC} (W : WF c) (D : DR c h (hN c 3)) {i : Nat} (hi : i < hN c 3) : hG h 10 i = bl c i ∧ hG h 11 i = fre c (pl c i) ∧ hG h 12 i = prc c (pl c i) ∧ hG h 13 i = fch c (pl c i) := by
  obtain ⟨h1, h2⟩ := pl_spec W hi
  have := D.2.2 _ h1
  rw [h2] at this
  exact this
