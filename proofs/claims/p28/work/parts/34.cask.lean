/-! what the class is asked -/
abbrev IOOB : String := "java/lang/IndexOutOfBoundsException"
theorem c_callCount {z A w h m u S} (R : RP z A w h m u S) (W : WF h) {Q : Int32 → mmS → Prop} {X : String → mmS → Prop} (h1 : Q (nI (hN h 3)) S) : wp_X4_callCount z S (A 10 0) Q X := by
  have e : hN h (5 + 3) = hN h 3 := W.1.2.2.2.2.2.2.2.1
  unfold wp_X4_callCount
  simp (disch := first | assumption | omega | (simp only [hN_sG, hN_sY, hN_sV] <;> first | assumption | omega)) only [rd R, Option.some.injEq, exists_eq_left', true_and, and_true, and_self, ne_eq, not_false_eq_true, not_true_eq_false, false_and, and_false, if_true, if_false, ite_true, ite_false, vin_0, vin_1, vin_2, vin_n, ncl, lit_0, lit_1, lit_2, lit_3, lit_4, lit_9, nm2, nm3, nm4, nm9, na1, na2, na3, na4, hG_sG, hG_sY, hG_sV, hG_sN, hY_sG, hY_sY, hY_sV, hY_sN, hV_sG, hV_sY, hV_sN, hV_sV, hN_sG, hN_sY, hN_sV, hN_sN, hF_sX, hF_sXr, hF_sF, hX_sF, hX_sX, hX_sXr, Nat.reduceEqDiff, Nat.reduceAdd, er_0, er_1, er_2, er_3, er_4, Nat.zero_lt_succ, forall_const, true_implies, false_implies, imp_self, implies_true]
  refine ru_size R (by decide) ?_
  rw [e]; exact h1
theorem c_callAt {z A w h m u S} (R : RP z A w h m u S) (W : WF h) {p : Int32} {Q : Int32 → mmS → Prop} {X : String → mmS → Prop} (h1 : ∀ k, k < hN h 3 → p = nI k → Q (nI (hV h 9 k)) S) (h0 : (∀ k, k < hN h 3 → p ≠ nI k) → X IOOB S) : wp_X4_callAt z S (A 10 0) p Q X := by
  have W1 := W.1
  unfold Wn at W1
  have e5 : hN h (5 + 4) = hN h 3 := W1.2.2.2.2.2.2.2.2
  unfold wp_X4_callAt
  rcases pk_ix p (n := hN h 3) (by omega) with g | g | ⟨i, hi, rfl⟩
  · exact ⟨fun _ => h0 fun i hi e => absurd (by rw [← e]; exact g) (nI_pos (show i < 2 ^ 31 by omega)), fun q => absurd g q⟩
  · refine ⟨fun q => absurd (Int32.lt_of_le_of_lt g q) (nI_pos (by omega)), fun _ => ?_⟩
    simp (disch := first | assumption | omega | (simp only [hN_sG, hN_sY, hN_sV] <;> first | assumption | omega)) only [rd R, Option.some.injEq, exists_eq_left', true_and, and_true, and_self, ne_eq, not_false_eq_true, not_true_eq_false, false_and, and_false, if_true, if_false, ite_true, ite_false, vin_0, vin_1, vin_2, vin_n, ncl, lit_0, lit_1, lit_2, lit_3, lit_4, lit_9, nm2, nm3, nm4, nm9, na1, na2, na3, na4, hG_sG, hG_sY, hG_sV, hG_sN, hY_sG, hY_sY, hY_sV, hY_sN, hV_sG, hV_sY, hV_sN, hV_sV, hN_sG, hN_sY, hN_sV, hN_sN, hF_sX, hF_sXr, hF_sF, hX_sF, hX_sX, hX_sXr, Nat.reduceEqDiff, Nat.reduceAdd, er_0, er_1, er_2, er_3, er_4, Nat.zero_lt_succ, forall_const, true_implies, false_implies, imp_self, implies_true]
    refine ru_size R (by decide) ?_
    rw [e5]
    refine ⟨fun q => absurd g (Int32.not_le.mpr q), fun _ => h0 fun i hi e => ?_⟩
    rw [e, nle (by omega) (by omega)] at g
    omega
  · refine ⟨fun q => absurd q (nI_pos (by omega)), fun _ => ?_⟩
    simp (disch := first | assumption | omega | (simp only [hN_sG, hN_sY, hN_sV] <;> first | assumption | omega)) only [rd R, Option.some.injEq, exists_eq_left', true_and, and_true, and_self, ne_eq, not_false_eq_true, not_true_eq_false, false_and, and_false, if_true, if_false, ite_true, ite_false, vin_0, vin_1, vin_2, vin_n, ncl, lit_0, lit_1, lit_2, lit_3, lit_4, lit_9, nm2, nm3, nm4, nm9, na1, na2, na3, na4, hG_sG, hG_sY, hG_sV, hG_sN, hY_sG, hY_sY, hY_sV, hY_sN, hV_sG, hV_sY, hV_sN, hV_sV, hN_sG, hN_sY, hN_sV, hN_sN, hF_sX, hF_sXr, hF_sF, hX_sF, hX_sX, hX_sXr, Nat.reduceEqDiff, Nat.reduceAdd, er_0, er_1, er_2, er_3, er_4, Nat.zero_lt_succ, forall_const, true_implies, false_implies, imp_self, implies_true]
    refine ru_size R (by decide) ?_
    rw [e5]
    refine ⟨fun _ => ?_, fun q => absurd (nI_lt hi (by omega)) q⟩
    simp (disch := first | assumption | omega | (simp only [hN_sG, hN_sY, hN_sV] <;> first | assumption | omega)) only [rd R, Option.some.injEq, exists_eq_left', true_and, and_true, and_self, ne_eq, not_false_eq_true, not_true_eq_false, false_and, and_false, if_true, if_false, ite_true, ite_false, vin_0, vin_1, vin_2, vin_n, ncl, lit_0, lit_1, lit_2, lit_3, lit_4, lit_9, nm2, nm3, nm4, nm9, na1, na2, na3, na4, hG_sG, hG_sY, hG_sV, hG_sN, hY_sG, hY_sY, hY_sV, hY_sN, hV_sG, hV_sY, hV_sN, hV_sV, hN_sG, hN_sY, hN_sV, hN_sN, hF_sX, hF_sXr, hF_sF, hX_sF, hX_sX, hX_sXr, Nat.reduceEqDiff, Nat.reduceAdd, er_0, er_1, er_2, er_3, er_4, Nat.zero_lt_succ, forall_const, true_implies, false_implies, imp_self, implies_true]
    refine ru_get R (by decide) (by rw [e5]; exact hi) (by rw [e5]; omega) ?_
    have ho : hV h 9 i < hN h 3 := W.2.2.2.2.2.1 i hi
    simp (disch := first | assumption | omega | (simp only [hN_sG, hN_sY, hN_sV] <;> first | assumption | omega)) only [rd R, Option.some.injEq, exists_eq_left', true_and, and_true, and_self, ne_eq, not_false_eq_true, not_true_eq_false, false_and, and_false, if_true, if_false, ite_true, ite_false, vin_0, vin_1, vin_2, vin_n, ncl, lit_0, lit_1, lit_2, lit_3, lit_4, lit_9, nm2, nm3, nm4, nm9, na1, na2, na3, na4, hG_sG, hG_sY, hG_sV, hG_sN, hY_sG, hY_sY, hY_sV, hY_sN, hV_sG, hV_sY, hV_sN, hV_sV, hN_sG, hN_sY, hN_sV, hN_sN, hF_sX, hF_sXr, hF_sF, hX_sF, hX_sX, hX_sXr, Nat.reduceEqDiff, Nat.reduceAdd, er_0, er_1, er_2, er_3, er_4, Nat.zero_lt_succ, forall_const, true_implies, false_implies, imp_self, implies_true, (W.2.2.2.2.1 _ ho).2.1]
    exact h1 i hi rfl
theorem c_told {z A w h m u S} (R : RP z A w h m u S) (W : WF h) {p q : Int32} {Q : Int32 → mmS → Prop} {X : String → mmS → Prop} (h1 : ∀ i, i < hN h 3 → p = nI i → ∀ k, k ≤ 4 → q = nI k → Q (tl h i k) S) (h0 : (¬ ∃ i k, i < hN h 3 ∧ p = nI i ∧ k ≤ 4 ∧ q = nI k) → X IOOB S) : wp_X4_told z S (A 10 0) p q Q X := by
  unfold wp_X4_told
  simp (disch := first | assumption | omega | (simp only [hN_sG, hN_sY, hN_sV] <;> first | assumption | omega)) only [rd R, Option.some.injEq, exists_eq_left', true_and, and_true, and_self, ne_eq, not_false_eq_true, not_true_eq_false, false_and, and_false, if_true, if_false, ite_true, ite_false, vin_0, vin_1, vin_2, vin_n, ncl, lit_0, lit_1, lit_2, lit_3, lit_4, lit_9, nm2, nm3, nm4, nm9, na1, na2, na3, na4, hG_sG, hG_sY, hG_sV, hG_sN, hY_sG, hY_sY, hY_sV, hY_sN, hV_sG, hV_sY, hV_sN, hV_sV, hN_sG, hN_sY, hN_sV, hN_sN, hF_sX, hF_sXr, hF_sF, hX_sF, hX_sX, hX_sXr, Nat.reduceEqDiff, Nat.reduceAdd, er_0, er_1, er_2, er_3, er_4, Nat.zero_lt_succ, forall_const, true_implies, false_implies, imp_self, implies_true]
  refine ru_findCall R W (fun i hi e => ?_) (fun g => h0 fun ⟨i, k, hi, e, _⟩ => g i hi e)
  refine ru_isWithin (fun g => ⟨fun _ => ?_, fun q => absurd q (by decide)⟩) (fun g => ⟨fun q => absurd rfl q, fun _ => h0 ?_⟩)
  · obtain ⟨k, hk, rfl⟩ := nI_of2 (M := 4) (n := 4) rfl (Int32.not_lt.mpr g.1) g.2
    simp (disch := first | assumption | omega | (simp only [hN_sG, hN_sY, hN_sV] <;> first | assumption | omega)) only [rd R, Option.some.injEq, exists_eq_left', true_and, and_true, and_self, ne_eq, not_false_eq_true, not_true_eq_false, false_and, and_false, if_true, if_false, ite_true, ite_false, vin_0, vin_1, vin_2, vin_n, ncl, lit_0, lit_1, lit_2, lit_3, lit_4, lit_9, nm2, nm3, nm4, nm9, na1, na2, na3, na4, hG_sG, hG_sY, hG_sV, hG_sN, hY_sG, hY_sY, hY_sV, hY_sN, hV_sG, hV_sY, hV_sN, hV_sV, hN_sG, hN_sY, hN_sV, hN_sN, hF_sX, hF_sXr, hF_sF, hX_sF, hX_sX, hX_sXr, Nat.reduceEqDiff, Nat.reduceAdd, er_0, er_1, er_2, er_3, er_4, Nat.zero_lt_succ, forall_const, true_implies, false_implies, imp_self, implies_true]
    exact ru_X1_tell R hi hk (h1 i hi e k hk rfl)
  · rintro ⟨i, k, hi, _, hk, rfl⟩
    exact g ⟨Int32.not_lt.mp (nI_pos (by omega)), nI_le (b := 4) hk (by omega)⟩
theorem c_lineSum {z A w h m u S} (R : RP z A w h m u S) (W : WF h) (D : DR h h (hN h 3)) {p : Int32} {Q : Int32 → mmS → Prop} {X : String → mmS → Prop} (h1 : ∀ i, i < hN h 2 → p = nI i → Q (sl h i (hN h 3)) S) (h0 : (∀ k, k < hN h 2 → p ≠ nI k) → X IOOB S) : wp_X4_lineSum z S (A 10 0) p Q X := by
  unfold wp_X4_lineSum
  simp (disch := first | assumption | omega | (simp only [hN_sG, hN_sY, hN_sV] <;> first | assumption | omega)) only [rd R, Option.some.injEq, exists_eq_left', true_and, and_true, and_self, ne_eq, not_false_eq_true, not_true_eq_false, false_and, and_false, if_true, if_false, ite_true, ite_false, vin_0, vin_1, vin_2, vin_n, ncl, lit_0, lit_1, lit_2, lit_3, lit_4, lit_9, nm2, nm3, nm4, nm9, na1, na2, na3, na4, hG_sG, hG_sY, hG_sV, hG_sN, hY_sG, hY_sY, hY_sV, hY_sN, hV_sG, hV_sY, hV_sN, hV_sV, hN_sG, hN_sY, hN_sV, hN_sN, hF_sX, hF_sXr, hF_sF, hX_sF, hX_sX, hX_sXr, Nat.reduceEqDiff, Nat.reduceAdd, er_0, er_1, er_2, er_3, er_4, Nat.zero_lt_succ, forall_const, true_implies, false_implies, imp_self, implies_true]
  refine ru_findLine R W (fun i hi e => ?_) h0
  simp (disch := first | assumption | omega | (simp only [hN_sG, hN_sY, hN_sV] <;> first | assumption | omega)) only [rd R, Option.some.injEq, exists_eq_left', true_and, and_true, and_self, ne_eq, not_false_eq_true, not_true_eq_false, false_and, and_false, if_true, if_false, ite_true, ite_false, vin_0, vin_1, vin_2, vin_n, ncl, lit_0, lit_1, lit_2, lit_3, lit_4, lit_9, nm2, nm3, nm4, nm9, na1, na2, na3, na4, hG_sG, hG_sY, hG_sV, hG_sN, hY_sG, hY_sY, hY_sV, hY_sN, hV_sG, hV_sY, hV_sN, hV_sV, hN_sG, hN_sY, hN_sV, hN_sN, hF_sX, hF_sXr, hF_sF, hX_sF, hX_sX, hX_sXr, Nat.reduceEqDiff, Nat.reduceAdd, er_0, er_1, er_2, er_3, er_4, Nat.zero_lt_succ, forall_const, true_implies, false_implies, imp_self, implies_true, (D.2.1 i hi).1]
  exact h1 i hi e
theorem c_sum {z A w h m u S} (R : RP z A w h m u S) (W : WF h) (D : DR h h (hN h 3)) {p : Int32} {Q : Int32 → mmS → Prop} {X : String → mmS → Prop} (h1 : ∀ i, i < hN h 1 → p = nI i → Q (sa h i (hN h 3)) S) (h0 : (∀ k, k < hN h 1 → p ≠ nI k) → X IOOB S) : wp_X4_sum z S (A 10 0) p Q X := by
  unfold wp_X4_sum
  simp (disch := first | assumption | omega | (simp only [hN_sG, hN_sY, hN_sV] <;> first | assumption | omega)) only [rd R, Option.some.injEq, exists_eq_left', true_and, and_true, and_self, ne_eq, not_false_eq_true, not_true_eq_false, false_and, and_false, if_true, if_false, ite_true, ite_false, vin_0, vin_1, vin_2, vin_n, ncl, lit_0, lit_1, lit_2, lit_3, lit_4, lit_9, nm2, nm3, nm4, nm9, na1, na2, na3, na4, hG_sG, hG_sY, hG_sV, hG_sN, hY_sG, hY_sY, hY_sV, hY_sN, hV_sG, hV_sY, hV_sN, hV_sV, hN_sG, hN_sY, hN_sV, hN_sN, hF_sX, hF_sXr, hF_sF, hX_sF, hX_sX, hX_sXr, Nat.reduceEqDiff, Nat.reduceAdd, er_0, er_1, er_2, er_3, er_4, Nat.zero_lt_succ, forall_const, true_implies, false_implies, imp_self, implies_true]
  refine ru_findAccount R W (fun i hi e => ?_) h0
  simp (disch := first | assumption | omega | (simp only [hN_sG, hN_sY, hN_sV] <;> first | assumption | omega)) only [rd R, Option.some.injEq, exists_eq_left', true_and, and_true, and_self, ne_eq, not_false_eq_true, not_true_eq_false, false_and, and_false, if_true, if_false, ite_true, ite_false, vin_0, vin_1, vin_2, vin_n, ncl, lit_0, lit_1, lit_2, lit_3, lit_4, lit_9, nm2, nm3, nm4, nm9, na1, na2, na3, na4, hG_sG, hG_sY, hG_sV, hG_sN, hY_sG, hY_sY, hY_sV, hY_sN, hV_sG, hV_sY, hV_sN, hV_sV, hN_sG, hN_sY, hN_sV, hN_sN, hF_sX, hF_sXr, hF_sF, hX_sF, hX_sX, hX_sXr, Nat.reduceEqDiff, Nat.reduceAdd, er_0, er_1, er_2, er_3, er_4, Nat.zero_lt_succ, forall_const, true_implies, false_implies, imp_self, implies_true, (D.1 i hi).2.2]
  exact h1 i hi e
theorem c_total {z A w h m u S} (R : RP z A w h m u S) (W : WF h) (D : DR h h (hN h 3)) {p : Int32} {Q : Int32 → mmS → Prop} {X : String → mmS → Prop} (h1 : ∀ i, i < hN h 1 → p = nI i → Q (cnt (sa h i (hN h 3)) (hG h 0 i) (hG h 1 i)) S) (h0 : (∀ k, k < hN h 1 → p ≠ nI k) → X IOOB S) : wp_X4_total z S (A 10 0) p Q X := by
  unfold wp_X4_total
  simp (disch := first | assumption | omega | (simp only [hN_sG, hN_sY, hN_sV] <;> first | assumption | omega)) only [rd R, Option.some.injEq, exists_eq_left', true_and, and_true, and_self, ne_eq, not_false_eq_true, not_true_eq_false, false_and, and_false, if_true, if_false, ite_true, ite_false, vin_0, vin_1, vin_2, vin_n, ncl, lit_0, lit_1, lit_2, lit_3, lit_4, lit_9, nm2, nm3, nm4, nm9, na1, na2, na3, na4, hG_sG, hG_sY, hG_sV, hG_sN, hY_sG, hY_sY, hY_sV, hY_sN, hV_sG, hV_sY, hV_sN, hV_sV, hN_sG, hN_sY, hN_sV, hN_sN, hF_sX, hF_sXr, hF_sF, hX_sF, hX_sX, hX_sXr, Nat.reduceEqDiff, Nat.reduceAdd, er_0, er_1, er_2, er_3, er_4, Nat.zero_lt_succ, forall_const, true_implies, false_implies, imp_self, implies_true]
  refine ru_findAccount R W (fun i hi e => ?_) h0
  simp (disch := first | assumption | omega | (simp only [hN_sG, hN_sY, hN_sV] <;> first | assumption | omega)) only [rd R, Option.some.injEq, exists_eq_left', true_and, and_true, and_self, ne_eq, not_false_eq_true, not_true_eq_false, false_and, and_false, if_true, if_false, ite_true, ite_false, vin_0, vin_1, vin_2, vin_n, ncl, lit_0, lit_1, lit_2, lit_3, lit_4, lit_9, nm2, nm3, nm4, nm9, na1, na2, na3, na4, hG_sG, hG_sY, hG_sV, hG_sN, hY_sG, hY_sY, hY_sV, hY_sN, hV_sG, hV_sY, hV_sN, hV_sV, hN_sG, hN_sY, hN_sV, hN_sN, hF_sX, hF_sXr, hF_sF, hX_sF, hX_sX, hX_sXr, Nat.reduceEqDiff, Nat.reduceAdd, er_0, er_1, er_2, er_3, er_4, Nat.zero_lt_succ, forall_const, true_implies, false_implies, imp_self, implies_true]
  refine ru_X0_cents R hi ?_
  rw [(D.1 i hi).2.2]
  exact h1 i hi e
theorem ru_checkAbroad {z S} {p : Int32} {Q : mmS → Prop} {X : String → mmS → Prop} (h1 : ∀ k, k = 1 ∨ k = 2 → p = nI k → Q S) (h0 : (∀ k, k = 1 ∨ k = 2 → p ≠ nI k) → X IOOB S) : wp_X4_checkAbroad z S p Q X := by
  unfold wp_X4_checkAbroad
  refine ru_isWithin (fun g => ⟨fun _ => ?_, fun q => absurd q (by decide)⟩) (fun g => ⟨fun q => absurd rfl q, fun _ => h0 ?_⟩)
  · obtain ⟨k, hk, rfl⟩ := nI_of2 (M := 2) (n := 2) rfl (Int32.not_lt.mpr (Int32.le_trans (show (0 : Int32) ≤ 1 by decide) g.1)) g.2
    refine h1 k ?_ rfl
    have : nI 1 ≤ nI k := g.1
    rw [nle (by omega) (by omega)] at this
    omega
  · rintro k hk rfl
    refine g ⟨nI_le (a := 1) (by omega) (by omega), nI_le (b := 2) (by omega) (by omega)⟩
noncomputable def dm (c : hC) : Nat → Int32 × Int32
  | 0 => (-1, -1)
  | k + 1 => if (dm c k).2 < prc c k then (nI (hV c 9 k), prc c k) else dm c k
theorem dm_s (c : hC) (k : Nat) : dm c (k + 1) = if (dm c k).2 < prc c k then (nI (hV c 9 k), prc c k) else dm c k := rfl
theorem c_dearest {z A w h m u S} (R : RP z A w h m u S) (W : WF h) (D : DR h h (hN h 3)) {Q : Int32 → mmS → Prop} {X : String → mmS → Prop} (h1 : Q (dm h (hN h 3)).1 S) : wp_X4_dearest z S (A 10 0) Q X := by
  have W1 := W.1
  unfold Wn at W1
  have e5 : hN h (5 + 4) = hN h 3 := W1.2.2.2.2.2.2.2.2
  have lp : ∀ d k, k + d = hN h 3 → lp_X4_dearest_6 z Q X (d + 1) S (A 10 0) (dm h k).1 (dm h k).2 (nI k) := by
    intro d
    induction d with
    | zero =>
      intro k hk
      show bk_X4_dearest_6 z Q X _ S _ _ _ _
      unfold bk_X4_dearest_6
      simp (disch := first | assumption | omega | (simp only [hN_sG, hN_sY, hN_sV] <;> first | assumption | omega)) only [rd R, Option.some.injEq, exists_eq_left', true_and, and_true, and_self, ne_eq, not_false_eq_true, not_true_eq_false, false_and, and_false, if_true, if_false, ite_true, ite_false, vin_0, vin_1, vin_2, vin_n, ncl, lit_0, lit_1, lit_2, lit_3, lit_4, lit_9, nm2, nm3, nm4, nm9, na1, na2, na3, na4, hG_sG, hG_sY, hG_sV, hG_sN, hY_sG, hY_sY, hY_sV, hY_sN, hV_sG, hV_sY, hV_sN, hV_sV, hN_sG, hN_sY, hN_sV, hN_sN, hF_sX, hF_sXr, hF_sF, hX_sF, hX_sX, hX_sXr, Nat.reduceEqDiff, Nat.reduceAdd, er_0, er_1, er_2, er_3, er_4, Nat.zero_lt_succ, forall_const, true_implies, false_implies, imp_self, implies_true]
      refine ru_size R (by decide) ?_
      rw [e5]
      refine ⟨fun _ => by rw [← hk] at h1; exact h1, fun e => absurd ?_ e⟩
      exact nI_le (by omega) (by omega)
    | succ d ih =>
      intro k hk
      show bk_X4_dearest_6 z Q X (lp_X4_dearest_6 z Q X (d + 1)) S _ _ _ _
      have hk3 : k < hN h 3 := by omega
      have ho : hV h 9 k < hN h 3 := W.2.2.2.2.2.1 k hk3
      unfold bk_X4_dearest_6
      simp (disch := first | assumption | omega | (simp only [hN_sG, hN_sY, hN_sV] <;> first | assumption | omega)) only [rd R, Option.some.injEq, exists_eq_left', true_and, and_true, and_self, ne_eq, not_false_eq_true, not_true_eq_false, false_and, and_false, if_true, if_false, ite_true, ite_false, vin_0, vin_1, vin_2, vin_n, ncl, lit_0, lit_1, lit_2, lit_3, lit_4, lit_9, nm2, nm3, nm4, nm9, na1, na2, na3, na4, hG_sG, hG_sY, hG_sV, hG_sN, hY_sG, hY_sY, hY_sV, hY_sN, hV_sG, hV_sY, hV_sN, hV_sV, hN_sG, hN_sY, hN_sV, hN_sN, hF_sX, hF_sXr, hF_sF, hX_sF, hX_sX, hX_sXr, Nat.reduceEqDiff, Nat.reduceAdd, er_0, er_1, er_2, er_3, er_4, Nat.zero_lt_succ, forall_const, true_implies, false_implies, imp_self, implies_true]
      refine ru_size R (by decide) ?_
      rw [e5]
      refine ⟨fun e => absurd e (nI_ge (by omega) (by omega)), fun _ => ?_⟩
      simp (disch := first | assumption | omega | (simp only [hN_sG, hN_sY, hN_sV] <;> first | assumption | omega)) only [rd R, Option.some.injEq, exists_eq_left', true_and, and_true, and_self, ne_eq, not_false_eq_true, not_true_eq_false, false_and, and_false, if_true, if_false, ite_true, ite_false, vin_0, vin_1, vin_2, vin_n, ncl, lit_0, lit_1, lit_2, lit_3, lit_4, lit_9, nm2, nm3, nm4, nm9, na1, na2, na3, na4, hG_sG, hG_sY, hG_sV, hG_sN, hY_sG, hY_sY, hY_sV, hY_sN, hV_sG, hV_sY, hV_sN, hV_sV, hN_sG, hN_sY, hN_sV, hN_sN, hF_sX, hF_sXr, hF_sF, hX_sF, hX_sX, hX_sXr, Nat.reduceEqDiff, Nat.reduceAdd, er_0, er_1, er_2, er_3, er_4, Nat.zero_lt_succ, forall_const, true_implies, false_implies, imp_self, implies_true]
      refine ru_get R (by decide) (by rw [e5]; exact hk3) (by rw [e5]; omega) ?_
      have ih1 := ih (k + 1) (by omega)
      rw [dm_s] at ih1
      simp (disch := first | assumption | omega | (simp only [hN_sG, hN_sY, hN_sV] <;> first | assumption | omega)) only [rd R, Option.some.injEq, exists_eq_left', true_and, and_true, and_self, ne_eq, not_false_eq_true, not_true_eq_false, false_and, and_false, if_true, if_false, ite_true, ite_false, vin_0, vin_1, vin_2, vin_n, ncl, lit_0, lit_1, lit_2, lit_3, lit_4, lit_9, nm2, nm3, nm4, nm9, na1, na2, na3, na4, hG_sG, hG_sY, hG_sV, hG_sN, hY_sG, hY_sY, hY_sV, hY_sN, hV_sG, hV_sY, hV_sN, hV_sV, hN_sG, hN_sY, hN_sV, hN_sN, hF_sX, hF_sXr, hF_sF, hX_sF, hX_sX, hX_sXr, Nat.reduceEqDiff, Nat.reduceAdd, er_0, er_1, er_2, er_3, er_4, Nat.zero_lt_succ, forall_const, true_implies, false_implies, imp_self, implies_true, (D.2.2 k hk3).2.2.1, (W.2.2.2.2.1 _ ho).2.1]
      refine ⟨fun g => ?_, fun g => ?_⟩
      · rw [if_neg (Int32.not_lt.mpr g)] at ih1
        unfold bk_X4_dearest_51
        rintro v rfl
        rw [na1]; exact ih1
      · rw [if_pos (Int32.not_le.mp g)] at ih1
        rintro v rfl v2 rfl
        unfold bk_X4_dearest_51
        rintro v rfl
        rw [na1]; exact ih1
  unfold wp_X4_dearest
  rintro v1 rfl v2 rfl v3 rfl
  exact ⟨hN h 3 + 1, lp (hN h 3) 0 (by omega)⟩
noncomputable def dsf (c : hC) (x : Int32) (i : Nat) : Int32 := if dy c i = x then prc c (pl c i) else 0
theorem c_daySum {z A w h m u S} (R : RP z A w h m u S) (W : WF h) (D : DR h h (hN h 3)) {p : Int32} {Q : Int32 → mmS → Prop} {X : String → mmS → Prop} (h1 : 0 ≤ p ∧ p ≤ 29 → Q (sm (dsf h p) (hN h 3)) S) (h0 : ¬ (0 ≤ p ∧ p ≤ 29) → X IOOB S) : wp_X4_daySum z S (A 10 0) p Q X := by
  have W1 := W.1
  unfold Wn at W1
  have e5 : hN h (5 + 3) = hN h 3 := W1.2.2.2.2.2.2.2.1
  unfold wp_X4_daySum
  refine ⟨fun g => h0 fun q => absurd g (Int32.not_lt.mpr q.1), fun g => ⟨fun g2 => ?_, fun g2 => h0 fun q => g2 (Int32.lt_of_le_of_lt q.2 (by decide))⟩⟩
  have h1 := h1 ⟨Int32.not_lt.mp g, ?_⟩
  · have lp : ∀ d k, k + d = hN h 3 → lp_X4_daySum_24 z Q X (d + 1) S (A 10 0) p (sm (dsf h p) k) (nI k) := by
      intro d
      induction d with
      | zero =>
        intro k hk
        show bk_X4_daySum_24 z Q X _ S _ _ _ _
        unfold bk_X4_daySum_24
        simp (disch := first | assumption | omega | (simp only [hN_sG, hN_sY, hN_sV] <;> first | assumption | omega)) only [rd R, Option.some.injEq, exists_eq_left', true_and, and_true, and_self, ne_eq, not_false_eq_true, not_true_eq_false, false_and, and_false, if_true, if_false, ite_true, ite_false, vin_0, vin_1, vin_2, vin_n, ncl, lit_0, lit_1, lit_2, lit_3, lit_4, lit_9, nm2, nm3, nm4, nm9, na1, na2, na3, na4, hG_sG, hG_sY, hG_sV, hG_sN, hY_sG, hY_sY, hY_sV, hY_sN, hV_sG, hV_sY, hV_sN, hV_sV, hN_sG, hN_sY, hN_sV, hN_sN, hF_sX, hF_sXr, hF_sF, hX_sF, hX_sX, hX_sXr, Nat.reduceEqDiff, Nat.reduceAdd, er_0, er_1, er_2, er_3, er_4, Nat.zero_lt_succ, forall_const, true_implies, false_implies, imp_self, implies_true]
        refine ru_size R (by decide) ?_
        rw [e5]
        refine ⟨fun _ => by rw [← hk] at h1; exact h1, fun e => absurd ?_ e⟩
        exact nI_le (by omega) (by omega)
      | succ d ih =>
        intro k hk
        show bk_X4_daySum_24 z Q X (lp_X4_daySum_24 z Q X (d + 1)) S _ _ _ _
        have hk3 : k < hN h 3 := by omega
        have ev : hV h (5 + 3) k = k := (W.2.2.2.2.1 k hk3).1
        unfold bk_X4_daySum_24
        simp (disch := first | assumption | omega | (simp only [hN_sG, hN_sY, hN_sV] <;> first | assumption | omega)) only [rd R, Option.some.injEq, exists_eq_left', true_and, and_true, and_self, ne_eq, not_false_eq_true, not_true_eq_false, false_and, and_false, if_true, if_false, ite_true, ite_false, vin_0, vin_1, vin_2, vin_n, ncl, lit_0, lit_1, lit_2, lit_3, lit_4, lit_9, nm2, nm3, nm4, nm9, na1, na2, na3, na4, hG_sG, hG_sY, hG_sV, hG_sN, hY_sG, hY_sY, hY_sV, hY_sN, hV_sG, hV_sY, hV_sN, hV_sV, hN_sG, hN_sY, hN_sV, hN_sN, hF_sX, hF_sXr, hF_sF, hX_sF, hX_sX, hX_sXr, Nat.reduceEqDiff, Nat.reduceAdd, er_0, er_1, er_2, er_3, er_4, Nat.zero_lt_succ, forall_const, true_implies, false_implies, imp_self, implies_true]
        refine ru_size R (by decide) ?_
        rw [e5]
        refine ⟨fun e => absurd e (nI_ge (by omega) (by omega)), fun _ => ?_⟩
        simp (disch := first | assumption | omega | (simp only [hN_sG, hN_sY, hN_sV] <;> first | assumption | omega)) only [rd R, Option.some.injEq, exists_eq_left', true_and, and_true, and_self, ne_eq, not_false_eq_true, not_true_eq_false, false_and, and_false, if_true, if_false, ite_true, ite_false, vin_0, vin_1, vin_2, vin_n, ncl, lit_0, lit_1, lit_2, lit_3, lit_4, lit_9, nm2, nm3, nm4, nm9, na1, na2, na3, na4, hG_sG, hG_sY, hG_sV, hG_sN, hY_sG, hY_sY, hY_sV, hY_sN, hV_sG, hV_sY, hV_sN, hV_sV, hN_sG, hN_sY, hN_sV, hN_sN, hF_sX, hF_sXr, hF_sF, hX_sF, hX_sX, hX_sXr, Nat.reduceEqDiff, Nat.reduceAdd, er_0, er_1, er_2, er_3, er_4, Nat.zero_lt_succ, forall_const, true_implies, false_implies, imp_self, implies_true]
        refine ru_get R (by decide) (by rw [e5]; exact hk3) (by rw [e5]; omega) ?_
        rw [ev]
        have ih1 := ih (k + 1) (by omega)
        have e2 : sm (dsf h p) (k + 1) = sm (dsf h p) k + dsf h p k := rfl
        rw [e2] at ih1
        have d0 : ¬ hG h 7 k / 1440 = p → dsf h p k = 0 := fun q => if_neg q
        have d1 : hG h 7 k / 1440 = p → dsf h p k = prc h (pl h k) := fun q => if_pos q
        simp (disch := first | assumption | omega | (simp only [hN_sG, hN_sY, hN_sV] <;> first | assumption | omega)) only [rd R, Option.some.injEq, exists_eq_left', true_and, and_true, and_self, ne_eq, not_false_eq_true, not_true_eq_false, false_and, and_false, if_true, if_false, ite_true, ite_false, vin_0, vin_1, vin_2, vin_n, ncl, lit_0, lit_1, lit_2, lit_3, lit_4, lit_9, nm2, nm3, nm4, nm9, na1, na2, na3, na4, hG_sG, hG_sY, hG_sV, hG_sN, hY_sG, hY_sY, hY_sV, hY_sN, hV_sG, hV_sY, hV_sN, hV_sV, hN_sG, hN_sY, hN_sV, hN_sN, hF_sX, hF_sXr, hF_sF, hX_sF, hX_sX, hX_sXr, Nat.reduceEqDiff, Nat.reduceAdd, er_0, er_1, er_2, er_3, er_4, Nat.zero_lt_succ, forall_const, true_implies, false_implies, imp_self, implies_true]
        refine ru_X1_day R hk3 ⟨fun q => ?_, fun q => ?_⟩
        · rw [d0 q, Int32.add_zero] at ih1
          unfold bk_X4_daySum_65
          rintro v rfl
          rw [na1]; exact ih1
        · rw [d1 q] at ih1
          simp (disch := first | assumption | omega | (simp only [hN_sG, hN_sY, hN_sV] <;> first | assumption | omega)) only [rd R, Option.some.injEq, exists_eq_left', true_and, and_true, and_self, ne_eq, not_false_eq_true, not_true_eq_false, false_and, and_false, if_true, if_false, ite_true, ite_false, vin_0, vin_1, vin_2, vin_n, ncl, lit_0, lit_1, lit_2, lit_3, lit_4, lit_9, nm2, nm3, nm4, nm9, na1, na2, na3, na4, hG_sG, hG_sY, hG_sV, hG_sN, hY_sG, hY_sY, hY_sV, hY_sN, hV_sG, hV_sY, hV_sN, hV_sV, hN_sG, hN_sY, hN_sV, hN_sN, hF_sX, hF_sXr, hF_sF, hX_sF, hX_sX, hX_sXr, Nat.reduceEqDiff, Nat.reduceAdd, er_0, er_1, er_2, er_3, er_4, Nat.zero_lt_succ, forall_const, true_implies, false_implies, imp_self, implies_true, (DKn W D hk3).2.2.1]
          rintro v rfl
          unfold bk_X4_daySum_65
          rintro v rfl
          rw [na1]; exact ih1
    rintro v1 rfl v2 rfl
    exact ⟨hN h 3 + 1, lp (hN h 3) 0 (by omega)⟩
  · obtain ⟨i, hi, rfl⟩ := nI_of g
    have : nI i < nI 30 := g2
    rw [nlt (by omega) (by omega)] at this
    exact nI_le (b := 29) (by omega) (by omega)
noncomputable def frf (c : hC) (i : Nat) : Int32 := fre c (pl c i)
theorem c_freeShare {z A w h m u S} (R : RP z A w h m u S) (W : WF h) (D : DR h h (hN h 3)) {Q : UInt64 → mmS → Prop} {X : String → mmS → Prop} (h1 : ¬ sm (bl h) (hN h 3) = 0 → vf_n64 (FP.ddiv (FP.i2d (sm (frf h) (hN h 3))) (FP.i2d (sm (bl h) (hN h 3)))) ∧ Q (FP.ddiv (FP.i2d (sm (frf h) (hN h 3))) (FP.i2d (sm (bl h) (hN h 3)))) S) (h0 : sm (bl h) (hN h 3) = 0 → Q FP.dconst0 S) : wp_X4_freeShare z S (A 10 0) Q X := by
  have W1 := W.1
  unfold Wn at W1
  have e5 : hN h (5 + 3) = hN h 3 := W1.2.2.2.2.2.2.2.1
  have lp : ∀ d k, k + d = hN h 3 → lp_X4_freeShare_6 z Q X (d + 1) S (A 10 0) (sm (frf h) k) (sm (bl h) k) (nI k) := by
    intro d
    induction d with
    | zero =>
      intro k hk
      show bk_X4_freeShare_6 z Q X _ S _ _ _ _
      unfold bk_X4_freeShare_6
      simp (disch := first | assumption | omega | (simp only [hN_sG, hN_sY, hN_sV] <;> first | assumption | omega)) only [rd R, Option.some.injEq, exists_eq_left', true_and, and_true, and_self, ne_eq, not_false_eq_true, not_true_eq_false, false_and, and_false, if_true, if_false, ite_true, ite_false, vin_0, vin_1, vin_2, vin_n, ncl, lit_0, lit_1, lit_2, lit_3, lit_4, lit_9, nm2, nm3, nm4, nm9, na1, na2, na3, na4, hG_sG, hG_sY, hG_sV, hG_sN, hY_sG, hY_sY, hY_sV, hY_sN, hV_sG, hV_sY, hV_sN, hV_sV, hN_sG, hN_sY, hN_sV, hN_sN, hF_sX, hF_sXr, hF_sF, hX_sF, hX_sX, hX_sXr, Nat.reduceEqDiff, Nat.reduceAdd, er_0, er_1, er_2, er_3, er_4, Nat.zero_lt_succ, forall_const, true_implies, false_implies, imp_self, implies_true]
      refine ru_size R (by decide) ?_
      rw [e5]
      refine ⟨fun _ => by rw [← hk] at h1 h0; exact ⟨h1, h0⟩, fun e => absurd ?_ e⟩
      exact nI_le (by omega) (by omega)
    | succ d ih =>
      intro k hk
      show bk_X4_freeShare_6 z Q X (lp_X4_freeShare_6 z Q X (d + 1)) S _ _ _ _
      have hk3 : k < hN h 3 := by omega
      have ev : hV h (5 + 3) k = k := (W.2.2.2.2.1 k hk3).1
      unfold bk_X4_freeShare_6
      simp (disch := first | assumption | omega | (simp only [hN_sG, hN_sY, hN_sV] <;> first | assumption | omega)) only [rd R, Option.some.injEq, exists_eq_left', true_and, and_true, and_self, ne_eq, not_false_eq_true, not_true_eq_false, false_and, and_false, if_true, if_false, ite_true, ite_false, vin_0, vin_1, vin_2, vin_n, ncl, lit_0, lit_1, lit_2, lit_3, lit_4, lit_9, nm2, nm3, nm4, nm9, na1, na2, na3, na4, hG_sG, hG_sY, hG_sV, hG_sN, hY_sG, hY_sY, hY_sV, hY_sN, hV_sG, hV_sY, hV_sN, hV_sV, hN_sG, hN_sY, hN_sV, hN_sN, hF_sX, hF_sXr, hF_sF, hX_sF, hX_sX, hX_sXr, Nat.reduceEqDiff, Nat.reduceAdd, er_0, er_1, er_2, er_3, er_4, Nat.zero_lt_succ, forall_const, true_implies, false_implies, imp_self, implies_true]
      refine ru_size R (by decide) ?_
      rw [e5]
      refine ⟨fun e => absurd e (nI_ge (by omega) (by omega)), fun _ => ?_⟩
      simp (disch := first | assumption | omega | (simp only [hN_sG, hN_sY, hN_sV] <;> first | assumption | omega)) only [rd R, Option.some.injEq, exists_eq_left', true_and, and_true, and_self, ne_eq, not_false_eq_true, not_true_eq_false, false_and, and_false, if_true, if_false, ite_true, ite_false, vin_0, vin_1, vin_2, vin_n, ncl, lit_0, lit_1, lit_2, lit_3, lit_4, lit_9, nm2, nm3, nm4, nm9, na1, na2, na3, na4, hG_sG, hG_sY, hG_sV, hG_sN, hY_sG, hY_sY, hY_sV, hY_sN, hV_sG, hV_sY, hV_sN, hV_sV, hN_sG, hN_sY, hN_sV, hN_sN, hF_sX, hF_sXr, hF_sF, hX_sF, hX_sX, hX_sXr, Nat.reduceEqDiff, Nat.reduceAdd, er_0, er_1, er_2, er_3, er_4, Nat.zero_lt_succ, forall_const, true_implies, false_implies, imp_self, implies_true]
      refine ru_get R (by decide) (by rw [e5]; exact hk3) (by rw [e5]; omega) ?_
      rw [ev]
      simp (disch := first | assumption | omega | (simp only [hN_sG, hN_sY, hN_sV] <;> first | assumption | omega)) only [rd R, Option.some.injEq, exists_eq_left', true_and, and_true, and_self, ne_eq, not_false_eq_true, not_true_eq_false, false_and, and_false, if_true, if_false, ite_true, ite_false, vin_0, vin_1, vin_2, vin_n, ncl, lit_0, lit_1, lit_2, lit_3, lit_4, lit_9, nm2, nm3, nm4, nm9, na1, na2, na3, na4, hG_sG, hG_sY, hG_sV, hG_sN, hY_sG, hY_sY, hY_sV, hY_sN, hV_sG, hV_sY, hV_sN, hV_sV, hN_sG, hN_sY, hN_sV, hN_sN, hF_sX, hF_sXr, hF_sF, hX_sF, hX_sX, hX_sXr, Nat.reduceEqDiff, Nat.reduceAdd, er_0, er_1, er_2, er_3, er_4, Nat.zero_lt_succ, forall_const, true_implies, false_implies, imp_self, implies_true, (DKn W D hk3).1, (DKn W D hk3).2.1]
      rintro v rfl v2 rfl
      intro v3 e3
      have := ih (k + 1) (by omega)
      rw [e3]
      try rw [na1]
      exact this
  unfold wp_X4_freeShare
  rintro v1 rfl v2 rfl v3 rfl
  exact ⟨hN h 3 + 1, lp (hN h 3) 0 (by omega)⟩
