theorem CM_call {c d : hC} {m m' : hM} (W : WF c) {l : Nat} {mi se zz : Int32} (A : CA c d l mi se zz) (C : CM c m)
    (f4 : hF m' 24 = hF m 24) (f5 : hF m' 25 = hF m 25) (f6 : hF m' 26 = hF m 26) (f7 : hF m' 27 = nI (hN c 3 + 1)) (f8 : hF m' 28 = hF m 28) (f9 : hF m' 29 = hF m 29)
    (x0 : ∀ f i, f < 4 → hX m' f i = hX m f i) (x4 : ∀ i, i < 4 * hN c 3 → hX m' 4 i = hX m 4 i)
    (t4 : hX m' 4 (4 * hN c 3) = nI l ∧ hX m' 4 (4 * hN c 3 + 1) = mi ∧ hX m' 4 (4 * hN c 3 + 2) = se ∧ hX m' 4 (4 * hN c 3 + 3) = zz)
    (x5 : ∀ k, k < hN c 3 + 1 → hX m' 5 k = nI (hV d 9 k)) : CM d m' := by
  obtain ⟨a, b, e0, e1, e2, g, h1, h2, h3, h4, h5⟩ := C
  obtain ⟨n0, n1, n2, n3, _, aG, aY, aV, aL, aI, ⟨b1, b2, b3, b4, b5, b6⟩, aO⟩ := A
  have gg : ∀ f i, grp (fr f) ≠ 3 → hG d f i = hG c f i := fun f i h => aG f i (fun q => h q.1)
  refine ⟨by rw [f4, n0]; exact a, by rw [f5, n1]; exact b, by rw [f6, n2]; exact e0, by rw [f7, n3], by rw [f8, gg 21 0 (by decide)]; exact e2, by rw [f9, gg 22 0 (by decide)]; exact g, fun t ht => ?_, fun x hx => ?_, fun x hx => ?_, fun i hi => ?_, fun e he => ?_⟩
  · rw [n0] at ht
    obtain ⟨b1, b2, b3, b4, b5, b6⟩ := h1 t ht
    rw [x0 0 _ (by omega), x0 0 _ (by omega), x0 0 _ (by omega), x0 0 _ (by omega), x0 0 _ (by omega), gg 16 _ (by decide), gg 17 _ (by decide), gg 18 _ (by decide), gg 19 _ (by decide), gg 20 _ (by decide)]
    refine ⟨b1, b2, b3, b4, b5, fun q hq => ?_⟩
    rw [x0 0 _ (by omega), x0 0 _ (by omega), aY 4 _ _ (by omega) (by omega), aY 5 _ _ (by omega) (by omega)]
    exact b6 q hq
  · rw [n1] at hx
    rw [x0 1 _ (by omega), x0 1 _ (by omega), x0 1 _ (by omega), gg 2 _ (by decide), gg 0 _ (by decide), gg 1 _ (by decide)]
    exact h2 x hx
  · rw [n2] at hx
    rw [x0 2 _ (by omega), x0 3 _ (by omega), aV 1 x (.inl rfl), aV 2 x (.inr rfl)]
    exact h3 x hx
  · by_cases e : i = hN c 3
    · subst e
      rw [b1, b4, b5, b6]
      exact t4
    · have hic : i < hN c 3 := by omega
      rw [x4 _ (by omega), x4 _ (by omega), x4 _ (by omega), x4 _ (by omega), (aI i hic).1, aG 7 i (fun q => e q.2), aG 9 i (fun q => e q.2), aG 8 i (fun q => e q.2)]
      exact h4 i hic
  · exact x5 e (by omega)
theorem lp_ord {z A w h u} {c : hC} (W : WF c) {mi : Int32} {F : Nat → Int32} {X4 : Nat → Nat → Int32} (hF27 : F 27 = nI (hN c 3)) (hn : hN c 3 < 60)
    (hm : ∀ i, i < hN c 3 → X4 4 (4 * i + 1) = hG c 7 i) {Q : Int32 → mmS → Prop} {X : String → mmS → Prop}
    (hQ : ∀ m' S', RP z A w h m' u S' → (∀ f, f ≠ 27 → hF m' f = F f) → hF m' 27 = nI (hN c 3 + 1) → (∀ f i, f ≠ 5 → hX m' f i = X4 f i) → (∀ k, k < hN c 3 + 1 → hX m' 5 k = nI (if k < ipl c mi 0 (hN c 3) then hV c 9 k else if k = ipl c mi 0 (hN c 3) then hN c 3 else hV c 9 (k - 1))) → Q (nI (hN c 3)) S') :
    ∀ p m S, p ≤ hN c 3 → RP z A w h m u S → hF m = F → (∀ f i, f ≠ 5 → hX m f i = X4 f i) → (∀ k, k < p → hX m 5 k = nI (hV c 9 k)) → (∀ k, p < k → k < hN c 3 + 1 → hX m 5 k = nI (hV c 9 (k - 1))) → (∀ k, p ≤ k → k < hN c 3 → ¬ hG c 7 (hV c 9 k) ≤ mi) → lp_X5_addCall_116 z Q X (p + 1) S (A 12 0) mi (nI p) := by
  obtain ⟨i1, i2, i3⟩ := ipl_spec c mi (hN c 3) 0
  intro p
  induction p with
  | zero =>
    intro m S hp R F0 X0 y1 y2 y3
    show bk_X5_addCall_116 z Q X _ S _ _ _
    unfold bk_X5_addCall_116
    refine ⟨fun _ => ?_, fun e => absurd (show nI 0 ≤ 0 by decide) e⟩
    have P0 : ipl c mi 0 (hN c 3) = 0 := by
      by_cases e : ipl c mi 0 (hN c 3) = 0
      · exact e
      · have h1 := i2 0 (by omega)
        have h2 := y3 0 (by omega) (by omega)
        exact absurd (Int32.not_lt.mp h1) h2
    unfold bk_X5_addCall_165
    rw [← F0] at hF27
    simp (disch := first | assumption | omega | (simp only [hN_sG, hN_sY, hN_sV] <;> first | assumption | omega)) only [rd R, Option.some.injEq, exists_eq_left', true_and, and_true, and_self, ne_eq, not_false_eq_true, not_true_eq_false, false_and, and_false, if_true, if_false, ite_true, ite_false, vin_0, vin_1, vin_2, vin_n, ncl, lit_0, lit_1, lit_2, lit_3, lit_4, lit_9, nm2, nm3, nm4, nm9, na1, na2, na3, na4, hG_sG, hG_sY, hG_sV, hG_sN, hY_sG, hY_sY, hY_sV, hY_sN, hV_sG, hV_sY, hV_sN, hV_sV, hN_sG, hN_sY, hN_sV, hN_sN, hF_sX, hF_sXr, hF_sF, hX_sF, hX_sX, hX_sXr, Nat.reduceEqDiff, Nat.reduceAdd, er_0, er_1, er_2, er_3, er_4, Nat.zero_lt_succ, forall_const, true_implies, false_implies, imp_self, implies_true, hF27]
    refine up_X R (by decide) fun S1 R1 => ?_
    simp (disch := first | assumption | omega | (simp only [hN_sG, hN_sY, hN_sV] <;> first | assumption | omega)) only [rd R1, Option.some.injEq, exists_eq_left', true_and, and_true, and_self, ne_eq, not_false_eq_true, not_true_eq_false, false_and, and_false, if_true, if_false, ite_true, ite_false, vin_0, vin_1, vin_2, vin_n, ncl, lit_0, lit_1, lit_2, lit_3, lit_4, lit_9, nm2, nm3, nm4, nm9, na1, na2, na3, na4, hG_sG, hG_sY, hG_sV, hG_sN, hY_sG, hY_sY, hY_sV, hY_sN, hV_sG, hV_sY, hV_sN, hV_sV, hN_sG, hN_sY, hN_sV, hN_sN, hF_sX, hF_sXr, hF_sF, hX_sF, hX_sX, hX_sXr, Nat.reduceEqDiff, Nat.reduceAdd, er_0, er_1, er_2, er_3, er_4, Nat.zero_lt_succ, forall_const, true_implies, false_implies, imp_self, implies_true, hF27]
    refine up_F R1 (by decide) (by decide) fun S2 R2 => ?_
    simp (disch := first | assumption | omega | (simp only [hN_sG, hN_sY, hN_sV] <;> first | assumption | omega)) only [rd R2, Option.some.injEq, exists_eq_left', true_and, and_true, and_self, ne_eq, not_false_eq_true, not_true_eq_false, false_and, and_false, if_true, if_false, ite_true, ite_false, vin_0, vin_1, vin_2, vin_n, ncl, lit_0, lit_1, lit_2, lit_3, lit_4, lit_9, nm2, nm3, nm4, nm9, na1, na2, na3, na4, hG_sG, hG_sY, hG_sV, hG_sN, hY_sG, hY_sY, hY_sV, hY_sN, hV_sG, hV_sY, hV_sN, hV_sV, hN_sG, hN_sY, hN_sV, hN_sN, hF_sX, hF_sXr, hF_sF, hX_sF, hX_sX, hX_sXr, Nat.reduceEqDiff, Nat.reduceAdd, er_0, er_1, er_2, er_3, er_4, Nat.zero_lt_succ, forall_const, true_implies, false_implies, imp_self, implies_true, hF27]
    rw [nI_pred]
    refine hQ _ S2 R2 (fun f hf => by rw [hF_ne hf, hF_sX, F0]) (by rw [hF_sF, if_pos rfl]) (fun f i hf => by rw [hX_sF, hX_ne hf]; exact X0 f i hf) (fun k hk => ?_)
    rw [P0, if_neg (by omega), hX_sF, hX_sX]
    by_cases e : k = 0
    · rw [if_pos ⟨rfl, e⟩, if_pos e]
    · rw [if_neg (fun q => e q.2), if_neg e]; exact y2 k (by omega) hk
  | succ p ih =>
    intro m S hp R F0 X0 y1 y2 y3
    show bk_X5_addCall_116 z Q X (lp_X5_addCall_116 z Q X (p + 1)) S _ _ _
    have ho := W.2.2.2.2.2.1 p (by omega)
    have e5 : hX m 5 p = nI (hV c 9 p) := y1 p (by omega)
    have e4 : hX m 4 (4 * hV c 9 p + 1) = hG c 7 (hV c 9 p) := by rw [X0 4 _ (by decide)]; exact hm _ ho
    have hsub : nI (p + 1) - 1 = nI p := nI_pred p
    unfold bk_X5_addCall_116
    refine ⟨fun e => absurd e (nI_nle (by omega) (by omega)), fun _ => ?_⟩
    rw [hsub]
    simp (disch := first | assumption | omega | (simp only [hN_sG, hN_sY, hN_sV] <;> first | assumption | omega)) only [rd R, Option.some.injEq, exists_eq_left', true_and, and_true, and_self, ne_eq, not_false_eq_true, not_true_eq_false, false_and, and_false, if_true, if_false, ite_true, ite_false, vin_0, vin_1, vin_2, vin_n, ncl, lit_0, lit_1, lit_2, lit_3, lit_4, lit_9, nm2, nm3, nm4, nm9, na1, na2, na3, na4, hG_sG, hG_sY, hG_sV, hG_sN, hY_sG, hY_sY, hY_sV, hY_sN, hV_sG, hV_sY, hV_sN, hV_sV, hN_sG, hN_sY, hN_sV, hN_sN, hF_sX, hF_sXr, hF_sF, hX_sF, hX_sX, hX_sXr, Nat.reduceEqDiff, Nat.reduceAdd, er_0, er_1, er_2, er_3, er_4, Nat.zero_lt_succ, forall_const, true_implies, false_implies, imp_self, implies_true, e5, e4]
    refine ⟨fun g => ?_, fun g => ?_⟩
    · have P0 : ipl c mi 0 (hN c 3) = p + 1 := by
        by_cases e : ipl c mi 0 (hN c 3) < p + 1
        · exfalso
          have h1 := i3 (by omega)
          rw [Nat.zero_add] at h1
          by_cases e2 : ipl c mi 0 (hN c 3) = p
          · rw [e2] at h1; exact absurd g (Int32.not_le.mpr h1)
          · have h2 := W.2.2.2.2.2.2.2.1 (ipl c mi 0 (hN c 3)) p (by omega) (by omega)
            exact absurd (Int32.le_trans h2 g) (Int32.not_le.mpr h1)
        · by_cases e2 : ipl c mi 0 (hN c 3) = p + 1
          · exact e2
          · exfalso
            have h1 := i2 (p + 1) (by omega)
            rw [Nat.zero_add] at h1
            exact absurd (Int32.not_lt.mp h1) (y3 (p + 1) (by omega) (by omega))
      unfold bk_X5_addCall_165
      rw [← F0] at hF27
      simp (disch := first | assumption | omega | (simp only [hN_sG, hN_sY, hN_sV] <;> first | assumption | omega)) only [rd R, Option.some.injEq, exists_eq_left', true_and, and_true, and_self, ne_eq, not_false_eq_true, not_true_eq_false, false_and, and_false, if_true, if_false, ite_true, ite_false, vin_0, vin_1, vin_2, vin_n, ncl, lit_0, lit_1, lit_2, lit_3, lit_4, lit_9, nm2, nm3, nm4, nm9, na1, na2, na3, na4, hG_sG, hG_sY, hG_sV, hG_sN, hY_sG, hY_sY, hY_sV, hY_sN, hV_sG, hV_sY, hV_sN, hV_sV, hN_sG, hN_sY, hN_sV, hN_sN, hF_sX, hF_sXr, hF_sF, hX_sF, hX_sX, hX_sXr, Nat.reduceEqDiff, Nat.reduceAdd, er_0, er_1, er_2, er_3, er_4, Nat.zero_lt_succ, forall_const, true_implies, false_implies, imp_self, implies_true, hF27]
      refine up_X R (by decide) fun S1 R1 => ?_
      simp (disch := first | assumption | omega | (simp only [hN_sG, hN_sY, hN_sV] <;> first | assumption | omega)) only [rd R1, Option.some.injEq, exists_eq_left', true_and, and_true, and_self, ne_eq, not_false_eq_true, not_true_eq_false, false_and, and_false, if_true, if_false, ite_true, ite_false, vin_0, vin_1, vin_2, vin_n, ncl, lit_0, lit_1, lit_2, lit_3, lit_4, lit_9, nm2, nm3, nm4, nm9, na1, na2, na3, na4, hG_sG, hG_sY, hG_sV, hG_sN, hY_sG, hY_sY, hY_sV, hY_sN, hV_sG, hV_sY, hV_sN, hV_sV, hN_sG, hN_sY, hN_sV, hN_sN, hF_sX, hF_sXr, hF_sF, hX_sF, hX_sX, hX_sXr, Nat.reduceEqDiff, Nat.reduceAdd, er_0, er_1, er_2, er_3, er_4, Nat.zero_lt_succ, forall_const, true_implies, false_implies, imp_self, implies_true, hF27]
      refine up_F R1 (by decide) (by decide) fun S2 R2 => ?_
      simp (disch := first | assumption | omega | (simp only [hN_sG, hN_sY, hN_sV] <;> first | assumption | omega)) only [rd R2, Option.some.injEq, exists_eq_left', true_and, and_true, and_self, ne_eq, not_false_eq_true, not_true_eq_false, false_and, and_false, if_true, if_false, ite_true, ite_false, vin_0, vin_1, vin_2, vin_n, ncl, lit_0, lit_1, lit_2, lit_3, lit_4, lit_9, nm2, nm3, nm4, nm9, na1, na2, na3, na4, hG_sG, hG_sY, hG_sV, hG_sN, hY_sG, hY_sY, hY_sV, hY_sN, hV_sG, hV_sY, hV_sN, hV_sV, hN_sG, hN_sY, hN_sV, hN_sN, hF_sX, hF_sXr, hF_sF, hX_sF, hX_sX, hX_sXr, Nat.reduceEqDiff, Nat.reduceAdd, er_0, er_1, er_2, er_3, er_4, Nat.zero_lt_succ, forall_const, true_implies, false_implies, imp_self, implies_true, hF27]
      rw [nI_pred]
      refine hQ _ S2 R2 (fun f hf => by rw [hF_ne hf, hF_sX, F0]) (by rw [hF_sF, if_pos rfl]) (fun f i hf => by rw [hX_sF, hX_ne hf]; exact X0 f i hf) (fun k hk => ?_)
      rw [P0, hX_sF, hX_sX]
      by_cases e : k = p + 1
      · rw [if_pos ⟨rfl, e⟩, if_neg (by omega), if_pos e]
      · rw [if_neg (fun q => e q.2)]
        by_cases e2 : k < p + 1
        · rw [if_pos e2]; exact y1 k e2
        · rw [if_neg e2, if_neg e]; exact y2 k (by omega) hk
    · refine up_X R (by decide) fun S1 R1 => ?_
      rintro v rfl
      have hv : nI (p + 1) + -1 = nI p := pk_m1 p
      rw [hv]
      refine ih _ S1 (by omega) R1 F0 (fun f i hf => by rw [hX_ne hf]; exact X0 f i hf) (fun k hk => ?_) (fun k h1 h2 => ?_) (fun k h1 h2 => ?_)
      · rw [hX_sX, if_neg (fun q => by omega)]; exact y1 k (by omega)
      · rw [hX_sX]
        by_cases e : k = p + 1
        · rw [if_pos ⟨rfl, e⟩, e, Nat.add_sub_cancel]
        · rw [if_neg (fun q => e q.2)]; exact y2 k (by omega) h2
      · by_cases e : k = p
        · rw [e]; exact g
        · exact y3 k (by omega) h2
theorem m_addCall {z A w h m u S} (R : RP z A w h m u S) {c : hC} (W : WF c) (C : CM c m) {p mi se zz : Int32} {Q : Int32 → mmS → Prop} {X : String → mmS → Prop}
    (h1 : ∀ l, l < hN c 2 → p = nI l → nb mi 43199 ∧ (nb se 7200 ∧ 1 ≤ se) ∧ nb zz 2 → hN c 3 < 60 → ∃ d, CA c d l mi se zz ∧ MB z A w h u d 0 (Q (nI (hN c 3))))
    (h0 : (∀ l, l < hN c 2 → p ≠ nI l) → MB z A w h u c 1 (Q 0)) (h2 : ∀ l, l < hN c 2 → p = nI l → ¬ (nb mi 43199 ∧ (nb se 7200 ∧ 1 ≤ se) ∧ nb zz 2) → MB z A w h u c 2 (Q 0)) (h3 : ∀ l, l < hN c 2 → p = nI l → nb mi 43199 ∧ (nb se 7200 ∧ 1 ≤ se) ∧ nb zz 2 → ¬ hN c 3 < 60 → MB z A w h u c 3 (Q 0)) : wp_X5_addCall z S (A 12 0) p mi se zz Q X := by
  have W1 := W.1
  unfold Wn at W1
  unfold wp_X5_addCall
  simp (disch := first | assumption | omega | (simp only [hN_sG, hN_sY, hN_sV] <;> first | assumption | omega)) only [rd R, Option.some.injEq, exists_eq_left', true_and, and_true, and_self, ne_eq, not_false_eq_true, not_true_eq_false, false_and, and_false, if_true, if_false, ite_true, ite_false, vin_0, vin_1, vin_2, vin_n, ncl, lit_0, lit_1, lit_2, lit_3, lit_4, lit_9, nm2, nm3, nm4, nm9, na1, na2, na3, na4, hG_sG, hG_sY, hG_sV, hG_sN, hY_sG, hY_sY, hY_sV, hY_sN, hV_sG, hV_sY, hV_sN, hV_sV, hN_sG, hN_sY, hN_sV, hN_sN, hF_sX, hF_sXr, hF_sF, hX_sF, hX_sX, hX_sXr, Nat.reduceEqDiff, Nat.reduceAdd, er_0, er_1, er_2, er_3, er_4, Nat.zero_lt_succ, forall_const, true_implies, false_implies, imp_self, implies_true]
  refine up_F R (by decide) (by decide) fun S1 R1 => ?_
  have C1 : CM c (hsF m 23 0) := CM_s23 C
  refine ru_isLine R1 W C1 (fun l hl el => ⟨fun _ => ?_, fun g => absurd g (by decide)⟩) (fun g0 => ⟨fun g => absurd rfl g, fun _ => ?_⟩)
  · have h1 := h1 l hl el
    have h2 := h2 l hl el
    have h3 := h3 l hl el
    have bad : ¬ (nb mi 43199 ∧ (nb se 7200 ∧ 1 ≤ se) ∧ nb zz 2) → bk_X5_addCall_50 z Q X S1 (A 12 0) := by
      intro g
      unfold bk_X5_addCall_50
      simp (disch := first | assumption | omega | (simp only [hN_sG, hN_sY, hN_sV] <;> first | assumption | omega)) only [rd R1, Option.some.injEq, exists_eq_left', true_and, and_true, and_self, ne_eq, not_false_eq_true, not_true_eq_false, false_and, and_false, if_true, if_false, ite_true, ite_false, vin_0, vin_1, vin_2, vin_n, ncl, lit_0, lit_1, lit_2, lit_3, lit_4, lit_9, nm2, nm3, nm4, nm9, na1, na2, na3, na4, hG_sG, hG_sY, hG_sV, hG_sN, hY_sG, hY_sY, hY_sV, hY_sN, hV_sG, hV_sY, hV_sN, hV_sV, hN_sG, hN_sY, hN_sV, hN_sN, hF_sX, hF_sXr, hF_sF, hX_sF, hX_sX, hX_sXr, Nat.reduceEqDiff, Nat.reduceAdd, er_0, er_1, er_2, er_3, er_4, Nat.zero_lt_succ, forall_const, true_implies, false_implies, imp_self, implies_true]
      exact MB_no R1 C1 (h2 g)
    refine ru_in0 43199 rfl (by decide) (fun g1 => ⟨fun q => absurd q (by decide), fun _ => ?_⟩) (fun g1 => ⟨fun _ => bad fun q => g1 q.1, fun q => absurd rfl q⟩)
    refine ru_in1 7200 rfl (by decide) (fun g2 => ⟨fun q => absurd q (by decide), fun _ => ?_⟩) (fun g2 => ⟨fun _ => bad fun q => g2 q.2.1, fun q => absurd rfl q⟩)
    refine ru_in0 2 rfl (by decide) (fun g3 => ⟨fun _ => ?_, fun q => absurd q (by decide)⟩) (fun g3 => ⟨fun q => absurd rfl q, fun _ => bad fun q => g3 q.2.2⟩)
    have g := And.intro g1 (And.intro g2 g3)
    have eF : mI S1 27 (A 12 0) = nI (hN c 3) := by
      rw [R1.2.2.1 27 (by decide) (by decide), hF_ne (by decide)]; exact C.2.2.2.1
    have hm1 : A 12 0 ∈ mL S1 ∧ mK S1 (A 12 0) = 5 := ⟨(R1.1 12 0 (by decide) Nat.zero_lt_one).1, (R1.1 12 0 (by decide) Nat.zero_lt_one).2.1⟩
    refine ⟨hm1, fun g6 => ?_, fun g6 => ?_⟩
    · have g7 : hN c 3 < 60 := by
        have : hN c 3 ≠ 60 := fun q => g6 (by rw [eF, q]; rfl)
        omega
      obtain ⟨d, ca, hQ⟩ := h1 g g7
      clear h1 h2 h3 bad g6
      intro q hq T0 e0
      have k0 : mN T0 q = 4 := by rw [e0, rN_Na, if_pos rfl]
      refine ⟨by rw [k0]; exact v4_0, ?_⟩
      intro T1 e1
      have k1 : mN T1 q = 4 := by rw [e1, rN_A, k0]
      refine ⟨by rw [k1]; exact v4_1, ?_⟩
      intro T2 e2
      have k2 : mN T2 q = 4 := by rw [e2, rN_A, k1]
      refine ⟨by rw [k2]; exact v4_2, ?_⟩
      intro T3 e3
      have k3 : mN T3 q = 4 := by rw [e3, rN_A, k2]
      refine ⟨by rw [k3]; exact v4_3, ?_⟩
      intro T4 e4
      have k4 : mN T4 q = 4 := by rw [e4, rN_A, k3]
      have ag : agr S1 T4 := by
        rw [e4, e3, e2, e1, e0]
        exact ag_A (ag_A (ag_A (ag_A (ag_Na (ag_refl S1) hq) hq) hq) hq) hq
      have R9 := RP_agree R1 ag.1 ag.2
      have vals : mA T4 q 0 = p ∧ mA T4 q 1 = mi ∧ mA T4 q 2 = se ∧ mA T4 q 3 = zz := by
        rw [e4, e3, e2, e1]
        simp only [lit_0, lit_1, lit_2, lit_3, rA_A, Nat.reduceEqDiff, and_false, if_false, and_self, if_true]
      simp (disch := first | assumption | omega | (simp only [hN_sG, hN_sY, hN_sV] <;> first | assumption | omega)) only [rd R9, Option.some.injEq, exists_eq_left', true_and, and_true, and_self, ne_eq, not_false_eq_true, not_true_eq_false, false_and, and_false, if_true, if_false, ite_true, ite_false, vin_0, vin_1, vin_2, vin_n, ncl, lit_0, lit_1, lit_2, lit_3, lit_4, lit_9, nm2, nm3, nm4, nm9, na1, na2, na3, na4, hG_sG, hG_sY, hG_sV, hG_sN, hY_sG, hY_sY, hY_sV, hY_sN, hV_sG, hV_sY, hV_sN, hV_sV, hN_sG, hN_sY, hN_sV, hN_sN, hF_sX, hF_sXr, hF_sF, hX_sF, hX_sX, hX_sXr, Nat.reduceEqDiff, Nat.reduceAdd, er_0, er_1, er_2, er_3, er_4, Nat.zero_lt_succ, forall_const, true_implies, false_implies, imp_self, implies_true, cm C]
      have hlt : ¬ nI (4 * hN c 3) < 0 := nI_pos (by omega)
      rw [k4]
      refine ⟨⟨by decide, hlt, by decide, by omega, by omega⟩, ?_⟩
      refine up_Xr R9 (by decide) fun S10 R10 => ?_
      simp (disch := first | assumption | omega | (simp only [hN_sG, hN_sY, hN_sV] <;> first | assumption | omega)) only [rd R10, Option.some.injEq, exists_eq_left', true_and, and_true, and_self, ne_eq, not_false_eq_true, not_true_eq_false, false_and, and_false, if_true, if_false, ite_true, ite_false, vin_0, vin_1, vin_2, vin_n, ncl, lit_0, lit_1, lit_2, lit_3, lit_4, lit_9, nm2, nm3, nm4, nm9, na1, na2, na3, na4, hG_sG, hG_sY, hG_sV, hG_sN, hY_sG, hY_sY, hY_sV, hY_sN, hV_sG, hV_sY, hV_sN, hV_sV, hN_sG, hN_sY, hN_sV, hN_sN, hF_sX, hF_sXr, hF_sF, hX_sF, hX_sX, hX_sXr, Nat.reduceEqDiff, Nat.reduceAdd, er_0, er_1, er_2, er_3, er_4, Nat.zero_lt_succ, forall_const, true_implies, false_implies, imp_self, implies_true, cm C]
      rintro v rfl
      have old : ∀ i, mA T4 (A 11 4) i = hX (hsF m 23 0) 4 i := (R9.2.2.2.2.1 4 (by decide)).2
      refine ⟨hN c 3 + 1, lp_ord W (F := hF (hsXr (hsF m 23 0) 4 (va_cpy (mA T4 q) (mA T4 (A 11 4)) 0 (4 * hN c 3) 4))) (X4 := hX (hsXr (hsF m 23 0) 4 (va_cpy (mA T4 q) (mA T4 (A 11 4)) 0 (4 * hN c 3) 4))) ?_ g7 ?_ (fun m' S' R' F' F27 X' X5 => ?_) (hN c 3) _ S10 (Nat.le_refl _) R10 rfl (fun _ _ _ => rfl) ?_ (fun k h1 h2 => by omega) (fun k h1 h2 => by omega)⟩
      · rw [hF_sXr, hF_ne (by decide)]; exact C.2.2.2.1
      · intro i hi
        rw [hX_r, cpy_lo (by omega), old]
        exact (C.2.2.2.2.2.2.2.2.2.1 i hi).2.1
      · have r4 : ∀ j, j < 4 → hX m' 4 (4 * hN c 3 + j) = mA T4 q j := by
          intro j hj; rw [X' 4 _ (by decide), hX_r, cpy_hi hj]
        refine hQ _ S' R' (CM_call W ca C1 ?_ ?_ ?_ F27 ?_ ?_ (fun f i hf => ?_) (fun i hi => ?_) ⟨?_, ?_, ?_, ?_⟩ (fun k hk => ?_)) ?_
        · rw [F' 24 (by decide), hF_sXr]
        · rw [F' 25 (by decide), hF_sXr]
        · rw [F' 26 (by decide), hF_sXr]
        · rw [F' 28 (by decide), hF_sXr]
        · rw [F' 29 (by decide), hF_sXr]
        · rw [X' f i (by omega), hX_rn (by omega)]
        · rw [X' 4 i (by decide), hX_r, cpy_lo hi]; exact old i
        · rw [← el, ← vals.1]; exact r4 0 (by omega)
        · rw [← vals.2.1]; exact r4 1 (by omega)
        · rw [← vals.2.2.1]; exact r4 2 (by omega)
        · rw [← vals.2.2.2]; exact r4 3 (by omega)
        · rw [X5 k hk, ca.2.2.2.2.2.2.2.2.2.2.2 k]
        · rw [F' 23 (by decide), hF_sXr, hF_sF, if_pos rfl]
      · intro k hk
        rw [hX_rn (by decide), hX_sF]
        exact C.2.2.2.2.2.2.2.2.2.2 k hk
    · have g7 : ¬ hN c 3 < 60 := by
        rw [eF] at g6
        have : hN c 3 = 60 := (nI_eq (a := hN c 3) (b := 60) (by omega) (by omega)).mp g6
        omega
      exact MB_no R1 C1 (h3 g g7)
  · simp (disch := first | assumption | omega | (simp only [hN_sG, hN_sY, hN_sV] <;> first | assumption | omega)) only [rd R1, Option.some.injEq, exists_eq_left', true_and, and_true, and_self, ne_eq, not_false_eq_true, not_true_eq_false, false_and, and_false, if_true, if_false, ite_true, ite_false, vin_0, vin_1, vin_2, vin_n, ncl, lit_0, lit_1, lit_2, lit_3, lit_4, lit_9, nm2, nm3, nm4, nm9, na1, na2, na3, na4, hG_sG, hG_sY, hG_sV, hG_sN, hY_sG, hY_sY, hY_sV, hY_sN, hV_sG, hV_sY, hV_sN, hV_sV, hN_sG, hN_sY, hN_sV, hN_sN, hF_sX, hF_sXr, hF_sF, hX_sF, hX_sX, hX_sXr, Nat.reduceEqDiff, Nat.reduceAdd, er_0, er_1, er_2, er_3, er_4, Nat.zero_lt_succ, forall_const, true_implies, false_implies, imp_self, implies_true]
    exact MB_no R1 C1 (h0 g0)
