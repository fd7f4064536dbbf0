/-! the model's rating over the abstract memory -/
def CM (c : hC) (m : hM) : Prop :=
  hF m 24 = nI (hN c 0) ∧ hF m 25 = nI (hN c 1) ∧ hF m 26 = nI (hN c 2) ∧ hF m 27 = nI (hN c 3) ∧ hF m 28 = hG c 21 0 ∧ hF m 29 = hG c 22 0
  ∧ (∀ t, t < hN c 0 → hX m 0 (9 * t) = hG c 16 t ∧ hX m 0 (9 * t + 1) = hG c 17 t ∧ hX m 0 (9 * t + 2) = hG c 18 t ∧ hX m 0 (9 * t + 3) = hG c 19 t ∧ hX m 0 (9 * t + 4) = hG c 20 t ∧ ∀ q, q = 1 ∨ q = 2 → hX m 0 (9 * t + 3 + 2 * q) = hY c 4 t q ∧ hX m 0 (9 * t + 4 + 2 * q) = hY c 5 t q)
  ∧ (∀ a, a < hN c 1 → hX m 1 (3 * a) = hG c 2 a ∧ hX m 1 (3 * a + 1) = hG c 0 a ∧ hX m 1 (3 * a + 2) = hG c 1 a)
  ∧ (∀ l, l < hN c 2 → hX m 2 l = nI (hV c 1 l) ∧ hX m 3 l = nI (hV c 2 l))
  ∧ (∀ i, i < hN c 3 → hX m 4 (4 * i) = nI (hV c 0 i) ∧ hX m 4 (4 * i + 1) = hG c 7 i ∧ hX m 4 (4 * i + 2) = hG c 9 i ∧ hX m 4 (4 * i + 3) = hG c 8 i)
  ∧ (∀ k, k < hN c 3 → hX m 5 k = nI (hV c 9 k))
theorem cm {c : hC} {m : hM} (C : CM c m) : hF m 24 = nI (hN c 0) ∧ hF m 25 = nI (hN c 1) ∧ hF m 26 = nI (hN c 2) ∧ hF m 27 = nI (hN c 3) ∧ hF m 28 = hG c 21 0 ∧ hF m 29 = hG c 22 0
  ∧ (∀ t, t < hN c 0 → hX m 0 (9 * t) = hG c 16 t) ∧ (∀ t, t < hN c 0 → hX m 0 (9 * t + 1) = hG c 17 t) ∧ (∀ t, t < hN c 0 → hX m 0 (9 * t + 2) = hG c 18 t) ∧ (∀ t, t < hN c 0 → hX m 0 (9 * t + 3) = hG c 19 t) ∧ (∀ t, t < hN c 0 → hX m 0 (9 * t + 4) = hG c 20 t)
  ∧ (∀ a, a < hN c 1 → hX m 1 (3 * a) = hG c 2 a) ∧ (∀ a, a < hN c 1 → hX m 1 (3 * a + 1) = hG c 0 a) ∧ (∀ a, a < hN c 1 → hX m 1 (3 * a + 2) = hG c 1 a)
  ∧ (∀ l, l < hN c 2 → hX m 2 l = nI (hV c 1 l)) ∧ (∀ l, l < hN c 2 → hX m 3 l = nI (hV c 2 l))
  ∧ (∀ i, i < hN c 3 → hX m 4 (4 * i) = nI (hV c 0 i)) ∧ (∀ i, i < hN c 3 → hX m 4 (4 * i + 1) = hG c 7 i) ∧ (∀ i, i < hN c 3 → hX m 4 (4 * i + 2) = hG c 9 i) ∧ (∀ i, i < hN c 3 → hX m 4 (4 * i + 3) = hG c 8 i)
  ∧ (∀ k, k < hN c 3 → hX m 5 k = nI (hV c 9 k)) := by
  obtain ⟨a, b, d, e, f, g, h1, h2, h3, h4, h5⟩ := C
  exact ⟨a, b, d, e, f, g, fun t ht => (h1 t ht).1, fun t ht => (h1 t ht).2.1, fun t ht => (h1 t ht).2.2.1, fun t ht => (h1 t ht).2.2.2.1, fun t ht => (h1 t ht).2.2.2.2.1, fun t ht => (h2 t ht).1, fun t ht => (h2 t ht).2.1, fun t ht => (h2 t ht).2.2, fun t ht => (h3 t ht).1, fun t ht => (h3 t ht).2, fun t ht => (h4 t ht).1, fun t ht => (h4 t ht).2.1, fun t ht => (h4 t ht).2.2.1, fun t ht => (h4 t ht).2.2.2, h5⟩
theorem CM_sX {c : hC} {m : hM} (C : CM c m) {f j : Nat} {v : Int32} (hf : 5 < f) : CM c (hsX m f j v) := by
  have e : ∀ f' j', f' < 6 → hX (hsX m f j v) f' j' = hX m f' j' := by
    intro f' j' h; rw [hX_sX, if_neg (fun e => by omega)]
  obtain ⟨a, b, d, e1, f, g, h1, h2, h3, h4, h5⟩ := C
  refine ⟨a, b, d, e1, f, g, fun t ht => ?_, fun t ht => ?_, fun t ht => ?_, fun t ht => ?_, fun t ht => ?_⟩
  · have := h1 t ht
    refine ⟨?_, ?_, ?_, ?_, ?_, fun q hq => ⟨?_, ?_⟩⟩ <;> rw [e _ _ (by decide)]
    · exact this.1
    · exact this.2.1
    · exact this.2.2.1
    · exact this.2.2.2.1
    · exact this.2.2.2.2.1
    · exact (this.2.2.2.2.2 q hq).1
    · exact (this.2.2.2.2.2 q hq).2
  · have := h2 t ht
    refine ⟨?_, ?_, ?_⟩ <;> rw [e _ _ (by decide)]
    · exact this.1
    · exact this.2.1
    · exact this.2.2
  · have := h3 t ht
    refine ⟨?_, ?_⟩ <;> rw [e _ _ (by decide)]
    · exact this.1
    · exact this.2
  · have := h4 t ht
    refine ⟨?_, ?_, ?_, ?_⟩ <;> rw [e _ _ (by decide)]
    · exact this.1
    · exact this.2.1
    · exact this.2.2.1
    · exact this.2.2.2
  · rw [e _ _ (by decide)]; exact h5 t ht
theorem CM_s23 {c : hC} {m : hM} (C : CM c m) {v : Int32} : CM c (hsF m 23 v) := by
  obtain ⟨a, b, d, e1, f, g, h1⟩ := C
  refine ⟨?_, ?_, ?_, ?_, ?_, ?_, h1⟩ <;> rw [hF_sF, if_neg (by decide)]
  · exact a
  · exact b
  · exact d
  · exact e1
  · exact f
  · exact g
theorem ru_dayOf {z S p} {Q : Int32 → mmS → Prop} {X : String → mmS → Prop} (hQ : Q (p / 1440) S) : wp_X5_dayOf z S p Q X := hQ
theorem ru_isInPeak {z A w h m u S} (R : RP z A w h m u S) {c : hC} (C : CM c m) (W : WF c) {i : Nat} (hi : i < hN c 3) {Q : Int32 → mmS → Prop} {X : String → mmS → Prop} (h1 : pk c i → Q 1 S) (h0 : ¬ pk c i → Q 0 S) : wp_X5_isInPeak z S (A 12 0) (nI i) Q X := by
  have W1 := W.1
  unfold Wn at W1
  unfold wp_X5_isInPeak
  simp (disch := first | assumption | omega | (simp only [hN_sG, hN_sY, hN_sV] <;> first | assumption | omega)) only [rd R, Option.some.injEq, exists_eq_left', true_and, and_true, and_self, ne_eq, not_false_eq_true, not_true_eq_false, false_and, and_false, if_true, if_false, ite_true, ite_false, vin_0, vin_1, vin_2, vin_n, ncl, lit_0, lit_1, lit_2, lit_3, lit_4, lit_9, nm2, nm3, nm4, nm9, na1, na2, na3, na4, hG_sG, hG_sY, hG_sV, hG_sN, hY_sG, hY_sY, hY_sV, hY_sN, hV_sG, hV_sY, hV_sN, hV_sV, hN_sG, hN_sY, hN_sV, hN_sN, hF_sX, hF_sXr, hF_sF, hX_sF, hX_sX, hX_sXr, Nat.reduceEqDiff, Nat.reduceAdd, er_0, er_1, er_2, er_3, er_4, Nat.zero_lt_succ, forall_const, true_implies, false_implies, imp_self, implies_true, cm C]
  rintro v6 rfl
  refine ru_dayOf ⟨fun e => h0 fun q => absurd e (Int32.not_le.mpr q.1), fun e => ?_⟩
  simp (disch := first | assumption | omega | (simp only [hN_sG, hN_sY, hN_sV] <;> first | assumption | omega)) only [rd R, Option.some.injEq, exists_eq_left', true_and, and_true, and_self, ne_eq, not_false_eq_true, not_true_eq_false, false_and, and_false, if_true, if_false, ite_true, ite_false, vin_0, vin_1, vin_2, vin_n, ncl, lit_0, lit_1, lit_2, lit_3, lit_4, lit_9, nm2, nm3, nm4, nm9, na1, na2, na3, na4, hG_sG, hG_sY, hG_sV, hG_sN, hY_sG, hY_sY, hY_sV, hY_sN, hV_sG, hV_sY, hV_sN, hV_sV, hN_sG, hN_sY, hN_sV, hN_sN, hF_sX, hF_sXr, hF_sF, hX_sF, hX_sX, hX_sXr, Nat.reduceEqDiff, Nat.reduceAdd, er_0, er_1, er_2, er_3, er_4, Nat.zero_lt_succ, forall_const, true_implies, false_implies, imp_self, implies_true, cm C]
  refine ru_isIn (fun g => ⟨fun q => absurd q (by decide), fun _ => h1 ⟨Int32.not_le.mp e, g⟩⟩) (fun g => ⟨fun _ => h0 fun q => g q.2, fun q => absurd rfl q⟩)
theorem lp_ea {z A w h m u S} (R : RP z A w h m u S) {c : hC} (C : CM c m) (W : WF c) {k : Nat} (hk : k < hN c 3) (hb : ∀ k', k' < k → hX m 6 (hV c 9 k') = bl c (hV c 9 k')) {Q : Int32 → mmS → Prop} {X : String → mmS → Prop} (hQ : Q (ea c (hV c 0 (hV c 9 k)) (zo c (hV c 9 k)) (dy c (hV c 9 k)) k) S) :
    ∀ d j, j + d = k → lp_X5_earlier_12 z Q X (d + 1) S (A 12 0) (nI k) (nI (hV c 9 k)) (ea c (hV c 0 (hV c 9 k)) (zo c (hV c 9 k)) (dy c (hV c 9 k)) j) (nI j) := by
  have W1 := W.1
  unfold Wn at W1
  intro d
  induction d with
  | zero =>
    intro j hj
    show bk_X5_earlier_12 z Q X _ S _ _ _ _ _
    unfold bk_X5_earlier_12
    have e : j = k := by omega
    subst e
    exact ⟨fun _ => hQ, fun e => absurd (nI_le (Nat.le_refl _) (by omega)) e⟩
  | succ d ih =>
    intro j hj
    show bk_X5_earlier_12 z Q X (lp_X5_earlier_12 z Q X (d + 1)) S _ _ _ _ _
    have hj3 : j < hN c 3 := by omega
    have ho := W.2.2.2.2.2.1 k hk
    have hp := W.2.2.2.2.2.1 j hj3
    have hl1 := (W.2.2.2.2.1 _ ho).2.2.1
    have hl2 := (W.2.2.2.2.1 _ hp).2.2.1
    obtain ⟨ez1, hz1⟩ := zo_n W ho
    obtain ⟨ez2, hz2⟩ := zo_n W hp
    have ebl := hb j (by omega)
    have no : (¬ ((¬ hG c 9 (hV c 9 j) = 0) ∧ hV c 0 (hV c 9 j) = hV c 0 (hV c 9 k) ∧ zo c (hV c 9 j) = zo c (hV c 9 k) ∧ dy c (hV c 9 j) = dy c (hV c 9 k))) → bk_X5_earlier_144 z Q X (lp_X5_earlier_12 z Q X (d + 1)) S (A 12 0) (nI k) (nI (hV c 9 k)) (ea c (hV c 0 (hV c 9 k)) (zo c (hV c 9 k)) (dy c (hV c 9 k)) j) (nI j) := by
      intro q
      unfold bk_X5_earlier_144
      rintro v rfl
      rw [na1]
      have := ih (j + 1) (by omega)
      rw [ea_s, if_neg q] at this
      exact this
    have no2 : (¬ (hV c 0 (hV c 9 j) = hV c 0 (hV c 9 k) ∧ zo c (hV c 9 j) = zo c (hV c 9 k) ∧ dy c (hV c 9 j) = dy c (hV c 9 k))) → bk_X5_earlier_105 z Q X (lp_X5_earlier_12 z Q X (d + 1)) S (A 12 0) (nI k) (nI (hV c 9 k)) (ea c (hV c 0 (hV c 9 k)) (zo c (hV c 9 k)) (dy c (hV c 9 k)) j) (nI j) (nI (hV c 9 j)) := by
      intro q
      unfold bk_X5_earlier_105 bk_X5_earlier_106
      exact ⟨fun _ => no fun y => q y.2, fun e => absurd rfl e⟩
    unfold bk_X5_earlier_12
    refine ⟨fun e => absurd e (nI_ge (by omega) (by omega)), fun _ => ?_⟩
    simp (disch := first | assumption | omega | (simp only [hN_sG, hN_sY, hN_sV] <;> first | assumption | omega)) only [rd R, Option.some.injEq, exists_eq_left', true_and, and_true, and_self, ne_eq, not_false_eq_true, not_true_eq_false, false_and, and_false, if_true, if_false, ite_true, ite_false, vin_0, vin_1, vin_2, vin_n, ncl, lit_0, lit_1, lit_2, lit_3, lit_4, lit_9, nm2, nm3, nm4, nm9, na1, na2, na3, na4, hG_sG, hG_sY, hG_sV, hG_sN, hY_sG, hY_sY, hY_sV, hY_sN, hV_sG, hV_sY, hV_sN, hV_sV, hN_sG, hN_sY, hN_sV, hN_sN, hF_sX, hF_sXr, hF_sF, hX_sF, hX_sX, hX_sXr, Nat.reduceEqDiff, Nat.reduceAdd, er_0, er_1, er_2, er_3, er_4, Nat.zero_lt_succ, forall_const, true_implies, false_implies, imp_self, implies_true, cm C]
    rintro v6 rfl
    simp (disch := first | assumption | omega | (simp only [hN_sG, hN_sY, hN_sV] <;> first | assumption | omega)) only [rd R, Option.some.injEq, exists_eq_left', true_and, and_true, and_self, ne_eq, not_false_eq_true, not_true_eq_false, false_and, and_false, if_true, if_false, ite_true, ite_false, vin_0, vin_1, vin_2, vin_n, ncl, lit_0, lit_1, lit_2, lit_3, lit_4, lit_9, nm2, nm3, nm4, nm9, na1, na2, na3, na4, hG_sG, hG_sY, hG_sV, hG_sN, hY_sG, hY_sY, hY_sV, hY_sN, hV_sG, hV_sY, hV_sN, hV_sV, hN_sG, hN_sY, hN_sV, hN_sN, hF_sX, hF_sXr, hF_sF, hX_sF, hX_sX, hX_sXr, Nat.reduceEqDiff, Nat.reduceAdd, er_0, er_1, er_2, er_3, er_4, Nat.zero_lt_succ, forall_const, true_implies, false_implies, imp_self, implies_true, cm C, ez1, ez2]
    refine ⟨fun e => no2 fun q => e (by rw [q.1]), fun e => ?_⟩
    have e1 := (nI_eq (by omega) (by omega)).mp e
    refine ⟨fun e => no2 fun q => e (by rw [q.2.1]), fun e => ?_⟩
    have e2 := (nI_eq (by omega) (by omega)).mp e
    refine ru_dayOf ?_
    simp (disch := first | assumption | omega | (simp only [hN_sG, hN_sY, hN_sV] <;> first | assumption | omega)) only [rd R, Option.some.injEq, exists_eq_left', true_and, and_true, and_self, ne_eq, not_false_eq_true, not_true_eq_false, false_and, and_false, if_true, if_false, ite_true, ite_false, vin_0, vin_1, vin_2, vin_n, ncl, lit_0, lit_1, lit_2, lit_3, lit_4, lit_9, nm2, nm3, nm4, nm9, na1, na2, na3, na4, hG_sG, hG_sY, hG_sV, hG_sN, hY_sG, hY_sY, hY_sV, hY_sN, hV_sG, hV_sY, hV_sN, hV_sV, hN_sG, hN_sY, hN_sV, hN_sN, hF_sX, hF_sXr, hF_sF, hX_sF, hX_sX, hX_sXr, Nat.reduceEqDiff, Nat.reduceAdd, er_0, er_1, er_2, er_3, er_4, Nat.zero_lt_succ, forall_const, true_implies, false_implies, imp_self, implies_true, cm C]
    refine ru_dayOf ?_
    refine ⟨fun e => no2 fun q => e q.2.2, fun e3 => ?_⟩
    unfold bk_X5_earlier_106
    refine ⟨fun q => absurd q (by decide), fun _ => ?_⟩
    simp (disch := first | assumption | omega | (simp only [hN_sG, hN_sY, hN_sV] <;> first | assumption | omega)) only [rd R, Option.some.injEq, exists_eq_left', true_and, and_true, and_self, ne_eq, not_false_eq_true, not_true_eq_false, false_and, and_false, if_true, if_false, ite_true, ite_false, vin_0, vin_1, vin_2, vin_n, ncl, lit_0, lit_1, lit_2, lit_3, lit_4, lit_9, nm2, nm3, nm4, nm9, na1, na2, na3, na4, hG_sG, hG_sY, hG_sV, hG_sN, hY_sG, hY_sY, hY_sV, hY_sN, hV_sG, hV_sY, hV_sN, hV_sV, hN_sG, hN_sY, hN_sV, hN_sN, hF_sX, hF_sXr, hF_sF, hX_sF, hX_sX, hX_sXr, Nat.reduceEqDiff, Nat.reduceAdd, er_0, er_1, er_2, er_3, er_4, Nat.zero_lt_succ, forall_const, true_implies, false_implies, imp_self, implies_true, cm C, ebl]
    refine ⟨fun e4 => ?_, fun e4 => no fun q => q.1 e4⟩
    rintro v rfl
    unfold bk_X5_earlier_144
    rintro v rfl
    rw [na1]
    have := ih (j + 1) (by omega)
    rw [ea_s, if_pos ⟨e4, e1, e2, e3⟩] at this
    exact this
theorem ru_earlier {z A w h m u S} (R : RP z A w h m u S) {c : hC} (C : CM c m) (W : WF c) {k : Nat} (hk : k < hN c 3) (hb : ∀ k', k' < k → hX m 6 (hV c 9 k') = bl c (hV c 9 k')) {Q : Int32 → mmS → Prop} {X : String → mmS → Prop} (hQ : Q (ea c (hV c 0 (hV c 9 k)) (zo c (hV c 9 k)) (dy c (hV c 9 k)) k) S) : wp_X5_earlier z S (A 12 0) (nI k) Q X := by
  have W1 := W.1
  unfold Wn at W1
  unfold wp_X5_earlier
  simp (disch := first | assumption | omega | (simp only [hN_sG, hN_sY, hN_sV] <;> first | assumption | omega)) only [rd R, Option.some.injEq, exists_eq_left', true_and, and_true, and_self, ne_eq, not_false_eq_true, not_true_eq_false, false_and, and_false, if_true, if_false, ite_true, ite_false, vin_0, vin_1, vin_2, vin_n, ncl, lit_0, lit_1, lit_2, lit_3, lit_4, lit_9, nm2, nm3, nm4, nm9, na1, na2, na3, na4, hG_sG, hG_sY, hG_sV, hG_sN, hY_sG, hY_sY, hY_sV, hY_sN, hV_sG, hV_sY, hV_sN, hV_sV, hN_sG, hN_sY, hN_sV, hN_sN, hF_sX, hF_sXr, hF_sF, hX_sF, hX_sX, hX_sXr, Nat.reduceEqDiff, Nat.reduceAdd, er_0, er_1, er_2, er_3, er_4, Nat.zero_lt_succ, forall_const, true_implies, false_implies, imp_self, implies_true, cm C]
  rintro v6 rfl v7 rfl v8 rfl
  exact ⟨k + 1, lp_ea R C W hk hb hQ k 0 (by omega)⟩
