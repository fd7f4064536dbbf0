theorem MK_s3 {c : hC} {m : hM} {k : Nat} (D : MK c m k) {j : Nat} {v : Int32} : MK c (hsX m 3 j v) k := by
  refine ⟨fun a ha => ?_, fun k' hk' => ?_⟩
  · rw [hX_ne (by decide), hX_ne (by decide)]; exact D.1 a ha
  · rw [hX_ne (by decide), hX_ne (by decide), hX_ne (by decide), hX_ne (by decide)]; exact D.2 k' hk'
theorem CM_plan {h : hC} {m : hM} (C : CM h m) {l t : Nat} : CM (hsV h 2 l t) (hsX m 3 l (nI t)) := by
  obtain ⟨a, b, d, e, f, g, h1, h2, h3, h4, h5⟩ := C
  refine ⟨a, b, d, e, f, g, fun t ht => ?_, fun t ht => ?_, fun x hx => ?_, fun x hx => ?_, fun x hx => ?_⟩
  · have := h1 t ht
    refine ⟨?_, ?_, ?_, ?_, ?_, fun q hq => ⟨?_, ?_⟩⟩ <;> rw [hX_ne (by decide)]
    · exact this.1
    · exact this.2.1
    · exact this.2.2.1
    · exact this.2.2.2.1
    · exact this.2.2.2.2.1
    · exact (this.2.2.2.2.2 q hq).1
    · exact (this.2.2.2.2.2 q hq).2
  · have := h2 t ht
    refine ⟨?_, ?_, ?_⟩ <;> rw [hX_ne (by decide)]
    · exact this.1
    · exact this.2.1
    · exact this.2.2
  · refine ⟨?_, ?_⟩
    · rw [hX_ne (by decide), hV_sV, if_neg (fun q => absurd q.1 (by decide))]; exact (h3 x hx).1
    · rw [hX_sX, hV_sV]
      by_cases q : x = l
      · rw [if_pos ⟨rfl, q⟩, if_pos ⟨rfl, q⟩]
      · rw [if_neg (fun y => q y.2), if_neg (fun y => q y.2)]; exact (h3 x hx).2
  · have := h4 x hx
    refine ⟨?_, ?_, ?_, ?_⟩ <;> rw [hX_ne (by decide)]
    · rw [hV_sV, if_neg (fun q => absurd q.1 (by decide))]; exact this.1
    · exact this.2.1
    · exact this.2.2.1
    · exact this.2.2.2
  · rw [hX_ne (by decide), hV_sV, if_neg (fun q => absurd q.1 (by decide))]; exact h5 x hx
theorem ru_with {z A w h m u S} (R : RP z A w h m u S) (W : WF h) (C : CM h m) {l t : Nat} (hl : l < hN h 2) (ht : t < hN h 0) {Q : Int32 → mmS → Prop} {X : String → mmS → Prop}
    (hQ : ∀ m' S', RP z A w h m' u S' → CM h m' → hF m' = hF m → Q (tw h l t) S') : wp_X5_with z S (A 12 0) (nI l) (nI t) Q X := by
  have W1 := W.1
  unfold Wn at W1
  have ha := (W.2.2.2.1 l hl).2.1
  unfold wp_X5_with
  simp (disch := first | assumption | omega | (simp only [hN_sG, hN_sY, hN_sV] <;> first | assumption | omega)) only [rd R, Option.some.injEq, exists_eq_left', true_and, and_true, and_self, ne_eq, not_false_eq_true, not_true_eq_false, false_and, and_false, if_true, if_false, ite_true, ite_false, vin_0, vin_1, vin_2, vin_n, ncl, lit_0, lit_1, lit_2, lit_3, lit_4, lit_9, nm2, nm3, nm4, nm9, na1, na2, na3, na4, hG_sG, hG_sY, hG_sV, hG_sN, hY_sG, hY_sY, hY_sV, hY_sN, hV_sG, hV_sY, hV_sN, hV_sV, hN_sG, hN_sY, hN_sV, hN_sN, hF_sX, hF_sXr, hF_sF, hX_sF, hX_sX, hX_sXr, Nat.reduceEqDiff, Nat.reduceAdd, er_0, er_1, er_2, er_3, er_4, Nat.zero_lt_succ, forall_const, true_implies, false_implies, imp_self, implies_true, cm C]
  rintro v6 rfl
  refine up_X R (by decide) fun S1 R1 => ?_
  have C1 : CM (hsV h 2 l t) (hsX m 3 l (nI t)) := CM_plan C
  have Wt := WF_plan W (l := l) ht
  refine ru_mrateAll R1 C1 Wt fun m2 S2 R2 C2 D2 F2 => ?_
  have C3 : CM h (hsX m2 3 l (nI (hV h 2 l))) := by
    have := CM_plan C2 (l := l) (t := hV h 2 l)
    rw [hsV_hsV, hsV_same] at this
    exact this
  simp (disch := first | assumption | omega | (simp only [hN_sG, hN_sY, hN_sV] <;> first | assumption | omega)) only [rd R2, Option.some.injEq, exists_eq_left', true_and, and_true, and_self, ne_eq, not_false_eq_true, not_true_eq_false, false_and, and_false, if_true, if_false, ite_true, ite_false, vin_0, vin_1, vin_2, vin_n, ncl, lit_0, lit_1, lit_2, lit_3, lit_4, lit_9, nm2, nm3, nm4, nm9, na1, na2, na3, na4, hG_sG, hG_sY, hG_sV, hG_sN, hY_sG, hY_sY, hY_sV, hY_sN, hV_sG, hV_sY, hV_sN, hV_sV, hN_sG, hN_sY, hN_sV, hN_sN, hF_sX, hF_sXr, hF_sF, hX_sF, hX_sX, hX_sXr, Nat.reduceEqDiff, Nat.reduceAdd, er_0, er_1, er_2, er_3, er_4, Nat.zero_lt_succ, forall_const, true_implies, false_implies, imp_self, implies_true]
  refine up_X R2 (by decide) fun S3 R3 => ?_
  simp (disch := first | assumption | omega | (simp only [hN_sG, hN_sY, hN_sV] <;> first | assumption | omega)) only [rd R3, Option.some.injEq, exists_eq_left', true_and, and_true, and_self, ne_eq, not_false_eq_true, not_true_eq_false, false_and, and_false, if_true, if_false, ite_true, ite_false, vin_0, vin_1, vin_2, vin_n, ncl, lit_0, lit_1, lit_2, lit_3, lit_4, lit_9, nm2, nm3, nm4, nm9, na1, na2, na3, na4, hG_sG, hG_sY, hG_sV, hG_sN, hY_sG, hY_sY, hY_sV, hY_sN, hV_sG, hV_sY, hV_sN, hV_sV, hN_sG, hN_sY, hN_sV, hN_sN, hF_sX, hF_sXr, hF_sF, hX_sF, hX_sX, hX_sXr, Nat.reduceEqDiff, Nat.reduceAdd, er_0, er_1, er_2, er_3, er_4, Nat.zero_lt_succ, forall_const, true_implies, false_implies, imp_self, implies_true, cm C3]
  have CP3 : CP (hsV h 2 l t) (hsX m2 3 l (nI (hV h 2 l))) := by
    have := CP_of C3
    obtain ⟨b1, b2, b3, b4, b5, b6, b7, b8⟩ := this
    refine ⟨b1, b2, b3, b4, b5, b6, fun x hx => ?_, fun x hx => ?_⟩
    · rw [hV_sV, if_neg (fun q => absurd q.1 (by decide))]; exact b7 x hx
    · rw [hV_sV, if_neg (fun q => absurd q.1 (by decide))]; exact b8 x hx
  exact ru_totalOf R3 Wt CP3 (MK_s3 D2) ha (hQ _ S3 R3 C3 F2)
theorem m_totalWith {z A w h m u S} (R : RP z A w h m u S) (W : WF h) (C : CM h m) {p q : Int32} {Q : Int32 → mmS → Prop} {X : String → mmS → Prop}
    (h1 : ∀ l, l < hN h 2 → p = nI l → ∀ t, t < hN h 0 → q = nI t → MA z A w h u 0 (Q (tw h l t))) (h0 : (¬ ∃ l t, l < hN h 2 ∧ p = nI l ∧ t < hN h 0 ∧ q = nI t) → MA z A w h u 1 (Q 0)) : wp_X5_totalWith z S (A 12 0) p q Q X := by
  unfold wp_X5_totalWith
  simp (disch := first | assumption | omega | (simp only [hN_sG, hN_sY, hN_sV] <;> first | assumption | omega)) only [rd R, Option.some.injEq, exists_eq_left', true_and, and_true, and_self, ne_eq, not_false_eq_true, not_true_eq_false, false_and, and_false, if_true, if_false, ite_true, ite_false, vin_0, vin_1, vin_2, vin_n, ncl, lit_0, lit_1, lit_2, lit_3, lit_4, lit_9, nm2, nm3, nm4, nm9, na1, na2, na3, na4, hG_sG, hG_sY, hG_sV, hG_sN, hY_sG, hY_sY, hY_sV, hY_sN, hV_sG, hV_sY, hV_sN, hV_sV, hN_sG, hN_sY, hN_sV, hN_sN, hF_sX, hF_sXr, hF_sF, hX_sF, hX_sX, hX_sXr, Nat.reduceEqDiff, Nat.reduceAdd, er_0, er_1, er_2, er_3, er_4, Nat.zero_lt_succ, forall_const, true_implies, false_implies, imp_self, implies_true]
  refine up_F R (by decide) (by decide) fun S1 R1 => ?_
  have C1 : CM h (hsF m 23 0) := CM_s23 C
  refine ru_isLine R1 W C1 (fun l hl e => ⟨fun g => absurd g (by decide), fun _ => ?_⟩) (fun g0 => ⟨fun _ => ?_, fun g => absurd rfl g⟩)
  · simp (disch := first | assumption | omega | (simp only [hN_sG, hN_sY, hN_sV] <;> first | assumption | omega)) only [rd R1, Option.some.injEq, exists_eq_left', true_and, and_true, and_self, ne_eq, not_false_eq_true, not_true_eq_false, false_and, and_false, if_true, if_false, ite_true, ite_false, vin_0, vin_1, vin_2, vin_n, ncl, lit_0, lit_1, lit_2, lit_3, lit_4, lit_9, nm2, nm3, nm4, nm9, na1, na2, na3, na4, hG_sG, hG_sY, hG_sV, hG_sN, hY_sG, hY_sY, hY_sV, hY_sN, hV_sG, hV_sY, hV_sN, hV_sV, hN_sG, hN_sY, hN_sV, hN_sN, hF_sX, hF_sXr, hF_sF, hX_sF, hX_sX, hX_sXr, Nat.reduceEqDiff, Nat.reduceAdd, er_0, er_1, er_2, er_3, er_4, Nat.zero_lt_succ, forall_const, true_implies, false_implies, imp_self, implies_true]
    refine ru_isTariff R1 W C1 (fun t ht e2 => ⟨fun g => absurd g (by decide), fun _ => ?_⟩) (fun g0 => ⟨fun _ => ?_, fun g => absurd rfl g⟩)
    · subst e; subst e2
      simp (disch := first | assumption | omega | (simp only [hN_sG, hN_sY, hN_sV] <;> first | assumption | omega)) only [rd R1, Option.some.injEq, exists_eq_left', true_and, and_true, and_self, ne_eq, not_false_eq_true, not_true_eq_false, false_and, and_false, if_true, if_false, ite_true, ite_false, vin_0, vin_1, vin_2, vin_n, ncl, lit_0, lit_1, lit_2, lit_3, lit_4, lit_9, nm2, nm3, nm4, nm9, na1, na2, na3, na4, hG_sG, hG_sY, hG_sV, hG_sN, hY_sG, hY_sY, hY_sV, hY_sN, hV_sG, hV_sY, hV_sN, hV_sV, hN_sG, hN_sY, hN_sV, hN_sN, hF_sX, hF_sXr, hF_sF, hX_sF, hX_sX, hX_sXr, Nat.reduceEqDiff, Nat.reduceAdd, er_0, er_1, er_2, er_3, er_4, Nat.zero_lt_succ, forall_const, true_implies, false_implies, imp_self, implies_true]
      exact ru_with R1 W C1 hl ht fun m2 S2 R2 C2 F2 => h1 l hl rfl t ht rfl _ S2 R2 C2 (by rw [F2, hF_sF, if_pos rfl])
    · unfold bk_X5_totalWith_30
      simp (disch := first | assumption | omega | (simp only [hN_sG, hN_sY, hN_sV] <;> first | assumption | omega)) only [rd R1, Option.some.injEq, exists_eq_left', true_and, and_true, and_self, ne_eq, not_false_eq_true, not_true_eq_false, false_and, and_false, if_true, if_false, ite_true, ite_false, vin_0, vin_1, vin_2, vin_n, ncl, lit_0, lit_1, lit_2, lit_3, lit_4, lit_9, nm2, nm3, nm4, nm9, na1, na2, na3, na4, hG_sG, hG_sY, hG_sV, hG_sN, hY_sG, hY_sY, hY_sV, hY_sN, hV_sG, hV_sY, hV_sN, hV_sV, hN_sG, hN_sY, hN_sV, hN_sN, hF_sX, hF_sXr, hF_sF, hX_sF, hX_sX, hX_sXr, Nat.reduceEqDiff, Nat.reduceAdd, er_0, er_1, er_2, er_3, er_4, Nat.zero_lt_succ, forall_const, true_implies, false_implies, imp_self, implies_true]
      exact MA_no R1 C1 (h0 fun ⟨l, t, _, _, ht, e2⟩ => g0 t ht e2)
  · unfold bk_X5_totalWith_30
    simp (disch := first | assumption | omega | (simp only [hN_sG, hN_sY, hN_sV] <;> first | assumption | omega)) only [rd R1, Option.some.injEq, exists_eq_left', true_and, and_true, and_self, ne_eq, not_false_eq_true, not_true_eq_false, false_and, and_false, if_true, if_false, ite_true, ite_false, vin_0, vin_1, vin_2, vin_n, ncl, lit_0, lit_1, lit_2, lit_3, lit_4, lit_9, nm2, nm3, nm4, nm9, na1, na2, na3, na4, hG_sG, hG_sY, hG_sV, hG_sN, hY_sG, hY_sY, hY_sV, hY_sN, hV_sG, hV_sY, hV_sN, hV_sV, hN_sG, hN_sY, hN_sV, hN_sN, hF_sX, hF_sXr, hF_sF, hX_sF, hX_sX, hX_sXr, Nat.reduceEqDiff, Nat.reduceAdd, er_0, er_1, er_2, er_3, er_4, Nat.zero_lt_succ, forall_const, true_implies, false_implies, imp_self, implies_true]
    exact MA_no R1 C1 (h0 fun ⟨l, t, hl, e, _⟩ => g0 l hl e)
theorem bt_ex {h : hC} (l : Nat) : ∀ k, k + 1 < 2147483648 → ∃ b, b < k + 1 ∧ bt h l (k + 1) = (nI b, tw h l b)
  | 0, _ => ⟨0, by omega, by rw [bt_s, if_pos (show (bt h l 0).1 = -1 ∨ tw h l 0 < (bt h l 0).2 from Or.inl rfl)]⟩
  | k + 1, hk => by
    obtain ⟨b, hb, e⟩ := bt_ex (h := h) l k (by omega)
    rw [bt_s]
    by_cases g : (bt h l (k + 1)).1 = -1 ∨ tw h l (k + 1) < (bt h l (k + 1)).2
    · rw [if_pos g]; exact ⟨k + 1, by omega, rfl⟩
    · rw [if_neg g]; exact ⟨b, by omega, e⟩
theorem m_bestTariff {z A w h m u S} (R : RP z A w h m u S) (W : WF h) (C : CM h m) {p : Int32} {Q : Int32 → mmS → Prop} {X : String → mmS → Prop}
    (h1 : ∀ l, l < hN h 2 → p = nI l → MA z A w h u 0 (Q (bt h l (hN h 0)).1)) (h0 : (∀ l, l < hN h 2 → p ≠ nI l) → MA z A w h u 1 (Q 0)) : wp_X5_bestTariff z S (A 12 0) p Q X := by
  have W1 := W.1
  unfold Wn at W1
  unfold wp_X5_bestTariff
  simp (disch := first | assumption | omega | (simp only [hN_sG, hN_sY, hN_sV] <;> first | assumption | omega)) only [rd R, Option.some.injEq, exists_eq_left', true_and, and_true, and_self, ne_eq, not_false_eq_true, not_true_eq_false, false_and, and_false, if_true, if_false, ite_true, ite_false, vin_0, vin_1, vin_2, vin_n, ncl, lit_0, lit_1, lit_2, lit_3, lit_4, lit_9, nm2, nm3, nm4, nm9, na1, na2, na3, na4, hG_sG, hG_sY, hG_sV, hG_sN, hY_sG, hY_sY, hY_sV, hY_sN, hV_sG, hV_sY, hV_sN, hV_sV, hN_sG, hN_sY, hN_sV, hN_sN, hF_sX, hF_sXr, hF_sF, hX_sF, hX_sX, hX_sXr, Nat.reduceEqDiff, Nat.reduceAdd, er_0, er_1, er_2, er_3, er_4, Nat.zero_lt_succ, forall_const, true_implies, false_implies, imp_self, implies_true]
  refine up_F R (by decide) (by decide) fun S1 R1 => ?_
  have C1 : CM h (hsF m 23 0) := CM_s23 C
  refine ru_isLine R1 W C1 (fun l hl e => ⟨fun _ => ?_, fun g => absurd g (by decide)⟩) (fun g0 => ⟨fun g => absurd rfl g, fun _ => ?_⟩)
  · subst e
    have hQ := h1 l hl rfl
    have h00 : 0 < hN h 0 := by have := (W.2.2.2.1 l hl).2.2; omega
    have lp : ∀ d k m2 S2, k + 1 + d = hN h 0 → RP z A w h m2 u S2 → CM h m2 → hF m2 23 = 0 → lp_X5_bestTariff_23 z Q X (d + 1) S2 (A 12 0) (nI l) (bt h l (k + 1)).1 (nI (k + 1)) := by
      intro d
      induction d with
      | zero =>
        intro k m2 S2 hk R2 C2 F2
        show bk_X5_bestTariff_23 z Q X _ S2 _ _ _ _
        unfold bk_X5_bestTariff_23
        simp (disch := first | assumption | omega | (simp only [hN_sG, hN_sY, hN_sV] <;> first | assumption | omega)) only [rd R2, Option.some.injEq, exists_eq_left', true_and, and_true, and_self, ne_eq, not_false_eq_true, not_true_eq_false, false_and, and_false, if_true, if_false, ite_true, ite_false, vin_0, vin_1, vin_2, vin_n, ncl, lit_0, lit_1, lit_2, lit_3, lit_4, lit_9, nm2, nm3, nm4, nm9, na1, na2, na3, na4, hG_sG, hG_sY, hG_sV, hG_sN, hY_sG, hY_sY, hY_sV, hY_sN, hV_sG, hV_sY, hV_sN, hV_sV, hN_sG, hN_sY, hN_sV, hN_sN, hF_sX, hF_sXr, hF_sF, hX_sF, hX_sX, hX_sXr, Nat.reduceEqDiff, Nat.reduceAdd, er_0, er_1, er_2, er_3, er_4, Nat.zero_lt_succ, forall_const, true_implies, false_implies, imp_self, implies_true, cm C2]
        have e0 : k + 1 = hN h 0 := by omega
        refine ⟨fun _ => by rw [e0]; exact hQ _ S2 R2 C2 F2, fun e => absurd ?_ e⟩
        exact nI_le (by omega) (by omega)
      | succ d ih =>
        intro k m2 S2 hk R2 C2 F2
        show bk_X5_bestTariff_23 z Q X (lp_X5_bestTariff_23 z Q X (d + 1)) S2 _ _ _ _
        have hk3 : k + 1 < hN h 0 := by omega
        obtain ⟨b, hb, eb⟩ := bt_ex (h := h) l k (by omega)
        have ih1 := ih (k + 1)
        rw [bt_s, eb] at ih1
        unfold bk_X5_bestTariff_23
        simp (disch := first | assumption | omega | (simp only [hN_sG, hN_sY, hN_sV] <;> first | assumption | omega)) only [rd R2, Option.some.injEq, exists_eq_left', true_and, and_true, and_self, ne_eq, not_false_eq_true, not_true_eq_false, false_and, and_false, if_true, if_false, ite_true, ite_false, vin_0, vin_1, vin_2, vin_n, ncl, lit_0, lit_1, lit_2, lit_3, lit_4, lit_9, nm2, nm3, nm4, nm9, na1, na2, na3, na4, hG_sG, hG_sY, hG_sV, hG_sN, hY_sG, hY_sY, hY_sV, hY_sN, hV_sG, hV_sY, hV_sN, hV_sV, hN_sG, hN_sY, hN_sV, hN_sN, hF_sX, hF_sXr, hF_sF, hX_sF, hX_sX, hX_sXr, Nat.reduceEqDiff, Nat.reduceAdd, er_0, er_1, er_2, er_3, er_4, Nat.zero_lt_succ, forall_const, true_implies, false_implies, imp_self, implies_true, cm C2]
        refine ⟨fun e => absurd e (nI_ge (by omega) (by omega)), fun _ => ?_⟩
        rw [eb]
        refine ru_with R2 W C2 hl hk3 fun m3 S3 R3 C3 F3 => ?_
        simp (disch := first | assumption | omega | (simp only [hN_sG, hN_sY, hN_sV] <;> first | assumption | omega)) only [rd R3, Option.some.injEq, exists_eq_left', true_and, and_true, and_self, ne_eq, not_false_eq_true, not_true_eq_false, false_and, and_false, if_true, if_false, ite_true, ite_false, vin_0, vin_1, vin_2, vin_n, ncl, lit_0, lit_1, lit_2, lit_3, lit_4, lit_9, nm2, nm3, nm4, nm9, na1, na2, na3, na4, hG_sG, hG_sY, hG_sV, hG_sN, hY_sG, hY_sY, hY_sV, hY_sN, hV_sG, hV_sY, hV_sN, hV_sV, hN_sG, hN_sY, hN_sV, hN_sN, hF_sX, hF_sXr, hF_sF, hX_sF, hX_sX, hX_sXr, Nat.reduceEqDiff, Nat.reduceAdd, er_0, er_1, er_2, er_3, er_4, Nat.zero_lt_succ, forall_const, true_implies, false_implies, imp_self, implies_true]
        refine ru_with R3 W C3 hl (by omega) fun m4 S4 R4 C4 F4 => ?_
        have ih2 := ih1 m4 S4 (by omega) R4 C4 (by rw [F4, F3]; exact F2)
        refine ⟨fun g => ?_, fun g => ?_⟩
        · rw [if_neg (fun q => q.elim (nb_m1 ⟨_, Nat.le_refl _, rfl⟩ (by omega)) (fun q => absurd g (Int32.not_le.mpr q)))] at ih2
          unfold bk_X5_bestTariff_48
          rintro v rfl
          rw [na1]; exact ih2
        · rw [if_pos (Or.inr (Int32.not_le.mp g))] at ih2
          unfold bk_X5_bestTariff_48
          rintro v rfl
          rw [na1]; exact ih2
    rintro v1 rfl v2 rfl
    obtain ⟨n, hn⟩ : ∃ n, 0 + 1 + n = hN h 0 := ⟨hN h 0 - 1, by omega⟩
    have := lp n 0 _ S1 hn R1 C1 (by rw [hF_sF, if_pos rfl])
    rw [bt_s, if_pos (show (bt h l 0).1 = -1 ∨ tw h l 0 < (bt h l 0).2 from Or.inl rfl)] at this
    exact ⟨n + 1, this⟩
  · simp (disch := first | assumption | omega | (simp only [hN_sG, hN_sY, hN_sV] <;> first | assumption | omega)) only [rd R1, Option.some.injEq, exists_eq_left', true_and, and_true, and_self, ne_eq, not_false_eq_true, not_true_eq_false, false_and, and_false, if_true, if_false, ite_true, ite_false, vin_0, vin_1, vin_2, vin_n, ncl, lit_0, lit_1, lit_2, lit_3, lit_4, lit_9, nm2, nm3, nm4, nm9, na1, na2, na3, na4, hG_sG, hG_sY, hG_sV, hG_sN, hY_sG, hY_sY, hY_sV, hY_sN, hV_sG, hV_sY, hV_sN, hV_sV, hN_sG, hN_sY, hN_sV, hN_sN, hF_sX, hF_sXr, hF_sF, hX_sF, hX_sX, hX_sXr, Nat.reduceEqDiff, Nat.reduceAdd, er_0, er_1, er_2, er_3, er_4, Nat.zero_lt_succ, forall_const, true_implies, false_implies, imp_self, implies_true]
    exact MA_no R1 C1 (h0 g0)
theorem m_freeShare {z A w h m u S} (R : RP z A w h m u S) (W : WF h) (C : CM h m) {Q : UInt64 → mmS → Prop} {X : String → mmS → Prop} (h1 : ¬ sm (bl h) (hN h 3) = 0 → vf_n64 (FP.ddiv (FP.i2d (sm (frf h) (hN h 3))) (FP.i2d (sm (bl h) (hN h 3)))) ∧ MA z A w h u 0 (Q (FP.ddiv (FP.i2d (sm (frf h) (hN h 3))) (FP.i2d (sm (bl h) (hN h 3)))))) (h0 : sm (bl h) (hN h 3) = 0 → MA z A w h u 0 (Q FP.dconst0)) : wp_X5_freeShare z S (A 12 0) Q X := by
  have W1 := W.1
  unfold Wn at W1
  unfold wp_X5_freeShare
  simp (disch := first | assumption | omega | (simp only [hN_sG, hN_sY, hN_sV] <;> first | assumption | omega)) only [rd R, Option.some.injEq, exists_eq_left', true_and, and_true, and_self, ne_eq, not_false_eq_true, not_true_eq_false, false_and, and_false, if_true, if_false, ite_true, ite_false, vin_0, vin_1, vin_2, vin_n, ncl, lit_0, lit_1, lit_2, lit_3, lit_4, lit_9, nm2, nm3, nm4, nm9, na1, na2, na3, na4, hG_sG, hG_sY, hG_sV, hG_sN, hY_sG, hY_sY, hY_sV, hY_sN, hV_sG, hV_sY, hV_sN, hV_sV, hN_sG, hN_sY, hN_sV, hN_sN, hF_sX, hF_sXr, hF_sF, hX_sF, hX_sX, hX_sXr, Nat.reduceEqDiff, Nat.reduceAdd, er_0, er_1, er_2, er_3, er_4, Nat.zero_lt_succ, forall_const, true_implies, false_implies, imp_self, implies_true]
  refine up_F R (by decide) (by decide) fun S1 R1 => ?_
  have C1 : CM h (hsF m 23 0) := CM_s23 C
  refine ru_mrateAll R1 C1 W fun m2 S2 R2 C2 D2 F2 => ?_
  have F3 : hF m2 23 = 0 := by rw [F2, hF_sF, if_pos rfl]
  have lp : ∀ d k, k + d = hN h 3 → lp_X5_freeShare_15 z Q X (d + 1) S2 (A 12 0) (sm (bl h) k) (sm (frf h) k) (nI k) := by
    intro d
    induction d with
    | zero =>
      intro k hk
      show bk_X5_freeShare_15 z Q X _ S2 _ _ _ _
      unfold bk_X5_freeShare_15
      simp (disch := first | assumption | omega | (simp only [hN_sG, hN_sY, hN_sV] <;> first | assumption | omega)) only [rd R2, Option.some.injEq, exists_eq_left', true_and, and_true, and_self, ne_eq, not_false_eq_true, not_true_eq_false, false_and, and_false, if_true, if_false, ite_true, ite_false, vin_0, vin_1, vin_2, vin_n, ncl, lit_0, lit_1, lit_2, lit_3, lit_4, lit_9, nm2, nm3, nm4, nm9, na1, na2, na3, na4, hG_sG, hG_sY, hG_sV, hG_sN, hY_sG, hY_sY, hY_sV, hY_sN, hV_sG, hV_sY, hV_sN, hV_sV, hN_sG, hN_sY, hN_sV, hN_sN, hF_sX, hF_sXr, hF_sF, hX_sF, hX_sX, hX_sXr, Nat.reduceEqDiff, Nat.reduceAdd, er_0, er_1, er_2, er_3, er_4, Nat.zero_lt_succ, forall_const, true_implies, false_implies, imp_self, implies_true, cm C2]
      refine ⟨fun _ => ?_, fun e => absurd ?_ e⟩
      · rw [← hk] at h1 h0
        exact ⟨fun g => ⟨(h1 g).1, (h1 g).2 _ S2 R2 C2 F3⟩, fun g => h0 g _ S2 R2 C2 F3⟩
      · exact nI_le (by omega) (by omega)
    | succ d ih =>
      intro k hk
      show bk_X5_freeShare_15 z Q X (lp_X5_freeShare_15 z Q X (d + 1)) S2 _ _ _ _
      have hk3 : k < hN h 3 := by omega
      unfold bk_X5_freeShare_15
      simp (disch := first | assumption | omega | (simp only [hN_sG, hN_sY, hN_sV] <;> first | assumption | omega)) only [rd R2, Option.some.injEq, exists_eq_left', true_and, and_true, and_self, ne_eq, not_false_eq_true, not_true_eq_false, false_and, and_false, if_true, if_false, ite_true, ite_false, vin_0, vin_1, vin_2, vin_n, ncl, lit_0, lit_1, lit_2, lit_3, lit_4, lit_9, nm2, nm3, nm4, nm9, na1, na2, na3, na4, hG_sG, hG_sY, hG_sV, hG_sN, hY_sG, hY_sY, hY_sV, hY_sN, hV_sG, hV_sY, hV_sN, hV_sV, hN_sG, hN_sY, hN_sV, hN_sN, hF_sX, hF_sXr, hF_sF, hX_sF, hX_sX, hX_sXr, Nat.reduceEqDiff, Nat.reduceAdd, er_0, er_1, er_2, er_3, er_4, Nat.zero_lt_succ, forall_const, true_implies, false_implies, imp_self, implies_true, cm C2, (MKn W D2 hk3).1, (MKn W D2 hk3).2.1]
      refine ⟨fun e => absurd e (nI_ge (by omega) (by omega)), fun _ => ?_⟩
      rintro v rfl v2 rfl
      intro v3 e3
      have := ih (k + 1) (by omega)
      rw [e3]
      try rw [na1]
      exact this
  rintro v1 rfl v2 rfl v3 rfl
  exact ⟨hN h 3 + 1, lp (hN h 3) 0 (by omega)⟩
theorem m_digest {z A w h m u S} (R : RP z A w h m u S) (W : WF h) (C : CM h m) (D : DR h h (hN h 3)) {Q : Int64 → mmS → Prop} {X : String → mmS → Prop} (h1 : MA z A w h u 0 (Q (dg3 h (dg2 h (dg1 h (dg0 h) (hN h 2)) (hN h 1)) (hN h 3)))) : wp_X5_digest z S (A 12 0) Q X := by
  have W1 := W.1
  unfold Wn at W1
  unfold wp_X5_digest
  simp (disch := first | assumption | omega | (simp only [hN_sG, hN_sY, hN_sV] <;> first | assumption | omega)) only [rd R, Option.some.injEq, exists_eq_left', true_and, and_true, and_self, ne_eq, not_false_eq_true, not_true_eq_false, false_and, and_false, if_true, if_false, ite_true, ite_false, vin_0, vin_1, vin_2, vin_n, ncl, lit_0, lit_1, lit_2, lit_3, lit_4, lit_9, nm2, nm3, nm4, nm9, na1, na2, na3, na4, hG_sG, hG_sY, hG_sV, hG_sN, hY_sG, hY_sY, hY_sV, hY_sN, hV_sG, hV_sY, hV_sN, hV_sV, hN_sG, hN_sY, hN_sV, hN_sN, hF_sX, hF_sXr, hF_sF, hX_sF, hX_sX, hX_sXr, Nat.reduceEqDiff, Nat.reduceAdd, er_0, er_1, er_2, er_3, er_4, Nat.zero_lt_succ, forall_const, true_implies, false_implies, imp_self, implies_true]
  refine up_F R (by decide) (by decide) fun S1 R1 => ?_
  have C1 : CM h (hsF m 23 0) := CM_s23 C
  refine ru_mrateAll R1 C1 W fun m2 S2 R2 C2 D2 F2 => ?_
  have F3 : hF m2 23 = 0 := by rw [F2, hF_sF, if_pos rfl]
  have hQ := h1 _ S2 R2 C2 F3
  clear h1
  have lp4 : ∀ (K5 : mmS → Nat → Int64 → Int32 → Prop) (k : Nat) (dd : Int64), k < hN h 3 → K5 S2 (A 12 0) (dg4 h (hV h 9 k) dd 5) (nI (k + 1)) → ∀ d j, j + d = 5 → lp_X5_digest_205 z Q X K5 (d + 1) S2 (A 12 0) (dg4 h (hV h 9 k) dd j) (nI k) (nI j) := by
    intro K5 k dd hk3 hK d
    induction d with
    | zero =>
      intro j hj
      show bk_X5_digest_205 z Q X K5 _ S2 _ _ _ _
      unfold bk_X5_digest_205
      have e : j = 5 := by omega
      subst e
      refine ⟨fun _ => ?_, fun g => absurd (show (5 : Int32) ≤ nI 5 by decide) g⟩
      rintro v rfl
      rw [na1]; exact hK
    | succ d ih =>
      intro j hj
      show bk_X5_digest_205 z Q X K5 (lp_X5_digest_205 z Q X K5 (d + 1)) S2 _ _ _ _
      have ho := W.2.2.2.2.2.1 k hk3
      unfold bk_X5_digest_205
      refine ⟨fun g => absurd g (show ¬ (5 : Int32) ≤ nI j from nI_ge (a := j) (b := 5) (by omega) (by omega)), fun _ => ?_⟩
      simp (disch := first | assumption | omega | (simp only [hN_sG, hN_sY, hN_sV] <;> first | assumption | omega)) only [rd R2, Option.some.injEq, exists_eq_left', true_and, and_true, and_self, ne_eq, not_false_eq_true, not_true_eq_false, false_and, and_false, if_true, if_false, ite_true, ite_false, vin_0, vin_1, vin_2, vin_n, ncl, lit_0, lit_1, lit_2, lit_3, lit_4, lit_9, nm2, nm3, nm4, nm9, na1, na2, na3, na4, hG_sG, hG_sY, hG_sV, hG_sN, hY_sG, hY_sY, hY_sV, hY_sN, hV_sG, hV_sY, hV_sN, hV_sV, hN_sG, hN_sY, hN_sV, hN_sN, hF_sX, hF_sXr, hF_sF, hX_sF, hX_sX, hX_sXr, Nat.reduceEqDiff, Nat.reduceAdd, er_0, er_1, er_2, er_3, er_4, Nat.zero_lt_succ, forall_const, true_implies, false_implies, imp_self, implies_true, cm C2]
      refine ru_toldOf R2 W C2 D2 ho (by omega) ?_
      rw [← tl_tlc W D ho]
      rintro v rfl v2 rfl
      have := ih (j + 1) (by omega)
      try rw [na1]
      exact this
  have lp3 : ∀ (e0 : Int64), dg3 h e0 (hN h 3) = dg3 h (dg2 h (dg1 h (dg0 h) (hN h 2)) (hN h 1)) (hN h 3) → ∀ d k, k + d = hN h 3 → lp_X5_digest_180 z Q X (d + 1) S2 (A 12 0) (dg3 h e0 k) (nI k) := by
    intro e0 he d
    induction d with
    | zero =>
      intro k hk
      show bk_X5_digest_180 z Q X _ S2 _ _ _
      unfold bk_X5_digest_180
      simp (disch := first | assumption | omega | (simp only [hN_sG, hN_sY, hN_sV] <;> first | assumption | omega)) only [rd R2, Option.some.injEq, exists_eq_left', true_and, and_true, and_self, ne_eq, not_false_eq_true, not_true_eq_false, false_and, and_false, if_true, if_false, ite_true, ite_false, vin_0, vin_1, vin_2, vin_n, ncl, lit_0, lit_1, lit_2, lit_3, lit_4, lit_9, nm2, nm3, nm4, nm9, na1, na2, na3, na4, hG_sG, hG_sY, hG_sV, hG_sN, hY_sG, hY_sY, hY_sV, hY_sN, hV_sG, hV_sY, hV_sN, hV_sV, hN_sG, hN_sY, hN_sV, hN_sN, hF_sX, hF_sXr, hF_sF, hX_sF, hX_sX, hX_sXr, Nat.reduceEqDiff, Nat.reduceAdd, er_0, er_1, er_2, er_3, er_4, Nat.zero_lt_succ, forall_const, true_implies, false_implies, imp_self, implies_true, cm C2]
      refine ⟨fun _ => ?_, fun e => absurd ?_ e⟩
      · rw [← he, ← hk] at hQ; exact hQ
      · exact nI_le (by omega) (by omega)
    | succ d ih =>
      intro k hk
      show bk_X5_digest_180 z Q X (lp_X5_digest_180 z Q X (d + 1)) S2 _ _ _
      have hk3 : k < hN h 3 := by omega
      unfold bk_X5_digest_180
      simp (disch := first | assumption | omega | (simp only [hN_sG, hN_sY, hN_sV] <;> first | assumption | omega)) only [rd R2, Option.some.injEq, exists_eq_left', true_and, and_true, and_self, ne_eq, not_false_eq_true, not_true_eq_false, false_and, and_false, if_true, if_false, ite_true, ite_false, vin_0, vin_1, vin_2, vin_n, ncl, lit_0, lit_1, lit_2, lit_3, lit_4, lit_9, nm2, nm3, nm4, nm9, na1, na2, na3, na4, hG_sG, hG_sY, hG_sV, hG_sN, hY_sG, hY_sY, hY_sV, hY_sN, hV_sG, hV_sY, hV_sN, hV_sV, hN_sG, hN_sY, hN_sV, hN_sN, hF_sX, hF_sXr, hF_sF, hX_sF, hX_sX, hX_sXr, Nat.reduceEqDiff, Nat.reduceAdd, er_0, er_1, er_2, er_3, er_4, Nat.zero_lt_succ, forall_const, true_implies, false_implies, imp_self, implies_true, cm C2]
      refine ⟨fun e => absurd e (nI_ge (by omega) (by omega)), fun _ => ?_⟩
      rintro v rfl v2 rfl
      exact ⟨6, lp4 _ k _ hk3 (ih (k + 1) (by omega)) 5 0 (by omega)⟩
  have lp2 : ∀ (e0 : Int64), dg2 h e0 (hN h 1) = dg2 h (dg1 h (dg0 h) (hN h 2)) (hN h 1) → ∀ d k, k + d = hN h 1 → lp_X5_digest_114 z Q X (d + 1) S2 (A 12 0) (dg2 h e0 k) (nI k) := by
    intro e0 he d
    induction d with
    | zero =>
      intro k hk
      show bk_X5_digest_114 z Q X _ S2 _ _ _
      unfold bk_X5_digest_114
      simp (disch := first | assumption | omega | (simp only [hN_sG, hN_sY, hN_sV] <;> first | assumption | omega)) only [rd R2, Option.some.injEq, exists_eq_left', true_and, and_true, and_self, ne_eq, not_false_eq_true, not_true_eq_false, false_and, and_false, if_true, if_false, ite_true, ite_false, vin_0, vin_1, vin_2, vin_n, ncl, lit_0, lit_1, lit_2, lit_3, lit_4, lit_9, nm2, nm3, nm4, nm9, na1, na2, na3, na4, hG_sG, hG_sY, hG_sV, hG_sN, hY_sG, hY_sY, hY_sV, hY_sN, hV_sG, hV_sY, hV_sN, hV_sV, hN_sG, hN_sY, hN_sV, hN_sN, hF_sX, hF_sXr, hF_sF, hX_sF, hX_sX, hX_sXr, Nat.reduceEqDiff, Nat.reduceAdd, er_0, er_1, er_2, er_3, er_4, Nat.zero_lt_succ, forall_const, true_implies, false_implies, imp_self, implies_true, cm C2]
      refine ⟨fun _ => ?_, fun e => absurd ?_ e⟩
      · rintro v rfl
        have e0 : k = hN h 1 := by omega
        subst e0
        exact ⟨hN h 3 + 1, lp3 _ (by rw [he]) (hN h 3) 0 (by omega)⟩
      · exact nI_le (by omega) (by omega)
    | succ d ih =>
      intro k hk
      show bk_X5_digest_114 z Q X (lp_X5_digest_114 z Q X (d + 1)) S2 _ _ _
      have hk3 : k < hN h 1 := by omega
      unfold bk_X5_digest_114
      simp (disch := first | assumption | omega | (simp only [hN_sG, hN_sY, hN_sV] <;> first | assumption | omega)) only [rd R2, Option.some.injEq, exists_eq_left', true_and, and_true, and_self, ne_eq, not_false_eq_true, not_true_eq_false, false_and, and_false, if_true, if_false, ite_true, ite_false, vin_0, vin_1, vin_2, vin_n, ncl, lit_0, lit_1, lit_2, lit_3, lit_4, lit_9, nm2, nm3, nm4, nm9, na1, na2, na3, na4, hG_sG, hG_sY, hG_sV, hG_sN, hY_sG, hY_sY, hY_sV, hY_sN, hV_sG, hV_sY, hV_sN, hV_sV, hN_sG, hN_sY, hN_sV, hN_sN, hF_sX, hF_sXr, hF_sF, hX_sF, hX_sX, hX_sXr, Nat.reduceEqDiff, Nat.reduceAdd, er_0, er_1, er_2, er_3, er_4, Nat.zero_lt_succ, forall_const, true_implies, false_implies, imp_self, implies_true, cm C2]
      refine ⟨fun e => absurd e (nI_ge (by omega) (by omega)), fun _ => ?_⟩
      refine ru_sumOf R2 W (CP_of C2) D2 hk3 ?_
      simp (disch := first | assumption | omega | (simp only [hN_sG, hN_sY, hN_sV] <;> first | assumption | omega)) only [rd R2, Option.some.injEq, exists_eq_left', true_and, and_true, and_self, ne_eq, not_false_eq_true, not_true_eq_false, false_and, and_false, if_true, if_false, ite_true, ite_false, vin_0, vin_1, vin_2, vin_n, ncl, lit_0, lit_1, lit_2, lit_3, lit_4, lit_9, nm2, nm3, nm4, nm9, na1, na2, na3, na4, hG_sG, hG_sY, hG_sV, hG_sN, hY_sG, hY_sY, hY_sV, hY_sN, hV_sG, hV_sY, hV_sN, hV_sV, hN_sG, hN_sY, hN_sV, hN_sN, hF_sX, hF_sXr, hF_sF, hX_sF, hX_sX, hX_sXr, Nat.reduceEqDiff, Nat.reduceAdd, er_0, er_1, er_2, er_3, er_4, Nat.zero_lt_succ, forall_const, true_implies, false_implies, imp_self, implies_true]
      refine ru_totalOf R2 W (CP_of C2) D2 hk3 ?_
      simp (disch := first | assumption | omega | (simp only [hN_sG, hN_sY, hN_sV] <;> first | assumption | omega)) only [rd R2, Option.some.injEq, exists_eq_left', true_and, and_true, and_self, ne_eq, not_false_eq_true, not_true_eq_false, false_and, and_false, if_true, if_false, ite_true, ite_false, vin_0, vin_1, vin_2, vin_n, ncl, lit_0, lit_1, lit_2, lit_3, lit_4, lit_9, nm2, nm3, nm4, nm9, na1, na2, na3, na4, hG_sG, hG_sY, hG_sV, hG_sN, hY_sG, hY_sY, hY_sV, hY_sN, hV_sG, hV_sY, hV_sN, hV_sV, hN_sG, hN_sY, hN_sV, hN_sN, hF_sX, hF_sXr, hF_sF, hX_sF, hX_sX, hX_sXr, Nat.reduceEqDiff, Nat.reduceAdd, er_0, er_1, er_2, er_3, er_4, Nat.zero_lt_succ, forall_const, true_implies, false_implies, imp_self, implies_true, (D2.1 k hk3).1]
      rintro v rfl v2 e2
      have := ih (k + 1) (by omega)
      rw [e2]
      try rw [na1]
      exact this
  have lp1 : ∀ d k, k + d = hN h 2 → lp_X5_digest_73 z Q X (d + 1) S2 (A 12 0) (dg1 h (dg0 h) k) (nI k) := by
    intro d
    induction d with
    | zero =>
      intro k hk
      show bk_X5_digest_73 z Q X _ S2 _ _ _
      unfold bk_X5_digest_73
      simp (disch := first | assumption | omega | (simp only [hN_sG, hN_sY, hN_sV] <;> first | assumption | omega)) only [rd R2, Option.some.injEq, exists_eq_left', true_and, and_true, and_self, ne_eq, not_false_eq_true, not_true_eq_false, false_and, and_false, if_true, if_false, ite_true, ite_false, vin_0, vin_1, vin_2, vin_n, ncl, lit_0, lit_1, lit_2, lit_3, lit_4, lit_9, nm2, nm3, nm4, nm9, na1, na2, na3, na4, hG_sG, hG_sY, hG_sV, hG_sN, hY_sG, hY_sY, hY_sV, hY_sN, hV_sG, hV_sY, hV_sN, hV_sV, hN_sG, hN_sY, hN_sV, hN_sN, hF_sX, hF_sXr, hF_sF, hX_sF, hX_sX, hX_sXr, Nat.reduceEqDiff, Nat.reduceAdd, er_0, er_1, er_2, er_3, er_4, Nat.zero_lt_succ, forall_const, true_implies, false_implies, imp_self, implies_true, cm C2]
      refine ⟨fun _ => ?_, fun e => absurd ?_ e⟩
      · rintro v rfl
        have e0 : k = hN h 2 := by omega
        subst e0
        exact ⟨hN h 1 + 1, lp2 _ rfl (hN h 1) 0 (by omega)⟩
      · exact nI_le (by omega) (by omega)
    | succ d ih =>
      intro k hk
      show bk_X5_digest_73 z Q X (lp_X5_digest_73 z Q X (d + 1)) S2 _ _ _
      have hk3 : k < hN h 2 := by omega
      unfold bk_X5_digest_73
      simp (disch := first | assumption | omega | (simp only [hN_sG, hN_sY, hN_sV] <;> first | assumption | omega)) only [rd R2, Option.some.injEq, exists_eq_left', true_and, and_true, and_self, ne_eq, not_false_eq_true, not_true_eq_false, false_and, and_false, if_true, if_false, ite_true, ite_false, vin_0, vin_1, vin_2, vin_n, ncl, lit_0, lit_1, lit_2, lit_3, lit_4, lit_9, nm2, nm3, nm4, nm9, na1, na2, na3, na4, hG_sG, hG_sY, hG_sV, hG_sN, hY_sG, hY_sY, hY_sV, hY_sN, hV_sG, hV_sY, hV_sN, hV_sV, hN_sG, hN_sY, hN_sV, hN_sN, hF_sX, hF_sXr, hF_sF, hX_sF, hX_sX, hX_sXr, Nat.reduceEqDiff, Nat.reduceAdd, er_0, er_1, er_2, er_3, er_4, Nat.zero_lt_succ, forall_const, true_implies, false_implies, imp_self, implies_true, cm C2]
      refine ⟨fun e => absurd e (nI_ge (by omega) (by omega)), fun _ => ?_⟩
      refine ru_lineSumOf R2 W (CP_of C2) D2 hk3 ?_
      rintro v rfl v2 e2
      have := ih (k + 1) (by omega)
      rw [e2]
      try rw [na1]
      exact this
  simp (disch := first | assumption | omega | (simp only [hN_sG, hN_sY, hN_sV] <;> first | assumption | omega)) only [rd R2, Option.some.injEq, exists_eq_left', true_and, and_true, and_self, ne_eq, not_false_eq_true, not_true_eq_false, false_and, and_false, if_true, if_false, ite_true, ite_false, vin_0, vin_1, vin_2, vin_n, ncl, lit_0, lit_1, lit_2, lit_3, lit_4, lit_9, nm2, nm3, nm4, nm9, na1, na2, na3, na4, hG_sG, hG_sY, hG_sV, hG_sN, hY_sG, hY_sY, hY_sV, hY_sN, hV_sG, hV_sY, hV_sN, hV_sV, hN_sG, hN_sY, hN_sV, hN_sN, hF_sX, hF_sXr, hF_sF, hX_sF, hX_sX, hX_sXr, Nat.reduceEqDiff, Nat.reduceAdd, er_0, er_1, er_2, er_3, er_4, Nat.zero_lt_succ, forall_const, true_implies, false_implies, imp_self, implies_true, cm C2]
  rintro v5 rfl v6 rfl v7 rfl
  exact ⟨hN h 2 + 1, lp1 (hN h 2) 0 (by omega)⟩
