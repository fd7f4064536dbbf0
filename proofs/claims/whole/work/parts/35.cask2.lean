theorem hsV_same (h : hC) (k i : Nat) : hsV h k i (hV h k i) = h := by
  have e : mu2 (hV h) k i (hV h k i) = hV h := by
    funext k' i'
    unfold mu2
    by_cases g : k' = k ∧ i' = i
    · rw [if_pos g, g.1, g.2]
    · rw [if_neg g]
  unfold hsV
  rw [e]; rfl
theorem hsV_hsV (h : hC) (k i v v' : Nat) : hsV (hsV h k i v) k i v' = hsV h k i v' := by
  have e : mu2 (hV (hsV h k i v)) k i v' = mu2 (hV h) k i v' := by
    funext k' i'
    unfold mu2
    by_cases g : k' = k ∧ i' = i
    · rw [if_pos g, if_pos g]
    · rw [if_neg g, if_neg g, hV_sV, if_neg g]
  unfold hsV at *
  rw [e]; rfl
theorem ST_V {c h : hC} (s : ST c h) (k i v : Nat) : ST (hsV c k i v) (hsV h k i v) := by
  refine ⟨s.1, ?_, s.2.2.1, s.2.2.2⟩
  show mu2 (hV h) k i v = mu2 (hV c) k i v
  rw [s.2.1]
theorem ST_trans {c d e : hC} (a : ST c d) (b : ST d e) : ST c e :=
  ⟨b.1.trans a.1, b.2.1.trans a.2.1, fun f hf => (b.2.2.1 f hf).trans (a.2.2.1 f hf), b.2.2.2.1.trans a.2.2.2.1, b.2.2.2.2.trans a.2.2.2.2⟩
theorem WF_plan {h : hC} (W : WF h) {l t : Nat} (ht : t < hN h 0) : WF (hsV h 2 l t) := by
  obtain ⟨W1, W2, W3, W4, W5, W6⟩ := W
  have ev : ∀ k i, k ≠ 2 → hV (hsV h 2 l t) k i = hV h k i := by
    intro k i hk; rw [hV_sV, if_neg (fun q => hk q.1)]
  refine ⟨W1, fun t ht => ?_, fun a ha => ?_, fun l' hl => ?_, fun i hi => ?_, ?_⟩
  · rw [ev _ _ (by decide)]; exact W2 t ht
  · rw [ev _ _ (by decide)]; exact W3 a ha
  · rw [ev _ _ (by decide), ev _ _ (by decide)]
    refine ⟨(W4 l' hl).1, (W4 l' hl).2.1, ?_⟩
    rw [hV_sV]; split
    · exact ht
    · exact (W4 l' hl).2.2
  · rw [ev _ _ (by decide), ev _ _ (by decide)]; exact W5 i hi
  · obtain ⟨w1, w2, w3, w4, w5⟩ := W6
    refine ⟨fun k hk => ?_, fun k k' hk hk' e => ?_, fun k k' hk hk' => ?_, fun i hi => ?_, fun f => ?_⟩
    · rw [ev _ _ (by decide)]; exact w1 k hk
    · rw [ev _ _ (by decide), ev _ _ (by decide)] at e; exact w2 k k' hk hk' e
    · rw [ev _ _ (by decide), ev _ _ (by decide)]; exact w3 k k' hk hk'
    · obtain ⟨k, hk, e⟩ := w4 i hi
      exact ⟨k, hk, by rw [ev _ _ (by decide)]; exact e⟩
    · have e : (fun k => f (hV (hsV h 2 l t) 9 k)) = fun k => f (hV h 9 k) := by
        funext k; rw [ev _ _ (by decide)]
      rw [e]; exact w5 f
theorem ru_giveTariff {z A w h m u S} (R : RP z A w h m u S) {c : hC} (s : ST c h) {l t : Nat} (W : WF (hsV c 2 l t)) (hl : l < hN c 2) {Q : mmS → Prop} {X : String → mmS → Prop}
    (hQ : ∀ h' S', RP z A w h' m u S' → ST (hsV c 2 l t) h' → DK (hsV c 2 l t) h' (hN c 3) → Q S') : wp_X4_giveTariff z S (A 10 0) (A 2 l) (A 0 t) Q X := by
  have hl' : l < hN h 2 := by rw [s.1]; exact hl
  unfold wp_X4_giveTariff
  simp (disch := first | assumption | omega | (simp only [hN_sG, hN_sY, hN_sV] <;> first | assumption | omega)) only [rd R, Option.some.injEq, exists_eq_left', true_and, and_true, and_self, ne_eq, not_false_eq_true, not_true_eq_false, false_and, and_false, if_true, if_false, ite_true, ite_false, vin_0, vin_1, vin_2, vin_n, ncl, lit_0, lit_1, lit_2, lit_3, lit_4, lit_9, nm2, nm3, nm4, nm9, na1, na2, na3, na4, hG_sG, hG_sY, hG_sV, hG_sN, hY_sG, hY_sY, hY_sV, hY_sN, hV_sG, hV_sY, hV_sN, hV_sV, hN_sG, hN_sY, hN_sV, hN_sN, hF_sX, hF_sXr, hF_sF, hX_sF, hX_sX, hX_sXr, Nat.reduceEqDiff, Nat.reduceAdd, er_0, er_1, er_2, er_3, er_4, Nat.zero_lt_succ, forall_const, true_implies, false_implies, imp_self, implies_true]
  refine up_V R hl' fun S1 R1 => ?_
  simp (disch := first | assumption | omega | (simp only [hN_sG, hN_sY, hN_sV] <;> first | assumption | omega)) only [rd R1, Option.some.injEq, exists_eq_left', true_and, and_true, and_self, ne_eq, not_false_eq_true, not_true_eq_false, false_and, and_false, if_true, if_false, ite_true, ite_false, vin_0, vin_1, vin_2, vin_n, ncl, lit_0, lit_1, lit_2, lit_3, lit_4, lit_9, nm2, nm3, nm4, nm9, na1, na2, na3, na4, hG_sG, hG_sY, hG_sV, hG_sN, hY_sG, hY_sY, hY_sV, hY_sN, hV_sG, hV_sY, hV_sN, hV_sV, hN_sG, hN_sY, hN_sV, hN_sN, hF_sX, hF_sXr, hF_sF, hX_sF, hX_sX, hX_sXr, Nat.reduceEqDiff, Nat.reduceAdd, er_0, er_1, er_2, er_3, er_4, Nat.zero_lt_succ, forall_const, true_implies, false_implies, imp_self, implies_true]
  exact ru_rateAll R1 (ST_V s 2 l t) W hQ
/-- the total of the line's account if the line had this tariff -/
noncomputable def tw (h : hC) (l t : Nat) : Int32 := cnt (sa (hsV h 2 l t) (hV h 1 l) (hN h 3)) (hG h 0 (hV h 1 l)) (hG h 1 (hV h 1 l))
theorem c_totalWith {z A w h m u S} (R : RP z A w h m u S) (W : WF h) {p q : Int32} {Q : Int32 → mmS → Prop} {X : String → mmS → Prop}
    (h1 : ∀ l, l < hN h 2 → p = nI l → ∀ t, t < hN h 0 → q = nI t → ∀ h' S', RP z A w h' m u S' → ST h h' → DK h h' (hN h 3) → Q (tw h l t) S') (h0 : (¬ ∃ l t, l < hN h 2 ∧ p = nI l ∧ t < hN h 0 ∧ q = nI t) → X IOOB S) : wp_X4_totalWith z S (A 10 0) p q Q X := by
  unfold wp_X4_totalWith
  simp (disch := first | assumption | omega | (simp only [hN_sG, hN_sY, hN_sV] <;> first | assumption | omega)) only [rd R, Option.some.injEq, exists_eq_left', true_and, and_true, and_self, ne_eq, not_false_eq_true, not_true_eq_false, false_and, and_false, if_true, if_false, ite_true, ite_false, vin_0, vin_1, vin_2, vin_n, ncl, lit_0, lit_1, lit_2, lit_3, lit_4, lit_9, nm2, nm3, nm4, nm9, na1, na2, na3, na4, hG_sG, hG_sY, hG_sV, hG_sN, hY_sG, hY_sY, hY_sV, hY_sN, hV_sG, hV_sY, hV_sN, hV_sV, hN_sG, hN_sY, hN_sV, hN_sN, hF_sX, hF_sXr, hF_sF, hX_sF, hX_sX, hX_sXr, Nat.reduceEqDiff, Nat.reduceAdd, er_0, er_1, er_2, er_3, er_4, Nat.zero_lt_succ, forall_const, true_implies, false_implies, imp_self, implies_true]
  refine ru_findLine R W (fun l hl e => ?_) (fun g => h0 fun ⟨l, t, hl, e, _⟩ => g l hl e)
  simp (disch := first | assumption | omega | (simp only [hN_sG, hN_sY, hN_sV] <;> first | assumption | omega)) only [rd R, Option.some.injEq, exists_eq_left', true_and, and_true, and_self, ne_eq, not_false_eq_true, not_true_eq_false, false_and, and_false, if_true, if_false, ite_true, ite_false, vin_0, vin_1, vin_2, vin_n, ncl, lit_0, lit_1, lit_2, lit_3, lit_4, lit_9, nm2, nm3, nm4, nm9, na1, na2, na3, na4, hG_sG, hG_sY, hG_sV, hG_sN, hY_sG, hY_sY, hY_sV, hY_sN, hV_sG, hV_sY, hV_sN, hV_sV, hN_sG, hN_sY, hN_sV, hN_sN, hF_sX, hF_sXr, hF_sF, hX_sF, hX_sX, hX_sXr, Nat.reduceEqDiff, Nat.reduceAdd, er_0, er_1, er_2, er_3, er_4, Nat.zero_lt_succ, forall_const, true_implies, false_implies, imp_self, implies_true]
  refine ru_findTariff R W (fun t ht e2 => ?_) (fun g => h0 fun ⟨l, t, _, _, ht, e2⟩ => g t ht e2)
  have hk := (W.2.2.2.1 l hl).2.2
  have ha := (W.2.2.2.1 l hl).2.1
  simp (disch := first | assumption | omega | (simp only [hN_sG, hN_sY, hN_sV] <;> first | assumption | omega)) only [rd R, Option.some.injEq, exists_eq_left', true_and, and_true, and_self, ne_eq, not_false_eq_true, not_true_eq_false, false_and, and_false, if_true, if_false, ite_true, ite_false, vin_0, vin_1, vin_2, vin_n, ncl, lit_0, lit_1, lit_2, lit_3, lit_4, lit_9, nm2, nm3, nm4, nm9, na1, na2, na3, na4, hG_sG, hG_sY, hG_sV, hG_sN, hY_sG, hY_sY, hY_sV, hY_sN, hV_sG, hV_sY, hV_sN, hV_sV, hN_sG, hN_sY, hN_sV, hN_sN, hF_sX, hF_sXr, hF_sF, hX_sF, hX_sX, hX_sXr, Nat.reduceEqDiff, Nat.reduceAdd, er_0, er_1, er_2, er_3, er_4, Nat.zero_lt_succ, forall_const, true_implies, false_implies, imp_self, implies_true]
  refine ru_giveTariff R (ST_refl h) (WF_plan W ht) hl fun h2 S2 R2 s2 D2 => ?_
  have hl2 : l < hN h2 2 := by rw [s2.1]; exact hl
  have ha2 : hV h 1 l < hN h2 1 := by rw [s2.1]; exact ha
  simp (disch := first | assumption | omega | (simp only [hN_sG, hN_sY, hN_sV] <;> first | assumption | omega)) only [rd R2, st s2, Option.some.injEq, exists_eq_left', true_and, and_true, and_self, ne_eq, not_false_eq_true, not_true_eq_false, false_and, and_false, if_true, if_false, ite_true, ite_false, vin_0, vin_1, vin_2, vin_n, ncl, lit_0, lit_1, lit_2, lit_3, lit_4, lit_9, nm2, nm3, nm4, nm9, na1, na2, na3, na4, hG_sG, hG_sY, hG_sV, hG_sN, hY_sG, hY_sY, hY_sV, hY_sN, hV_sG, hV_sY, hV_sN, hV_sV, hN_sG, hN_sY, hN_sV, hN_sN, hF_sX, hF_sXr, hF_sF, hX_sF, hX_sX, hX_sXr, Nat.reduceEqDiff, Nat.reduceAdd, er_0, er_1, er_2, er_3, er_4, Nat.zero_lt_succ, forall_const, true_implies, false_implies, imp_self, implies_true]
  refine ru_X0_cents R2 ha2 ?_
  simp (disch := first | assumption | omega | (simp only [hN_sG, hN_sY, hN_sV] <;> first | assumption | omega)) only [rd R2, st s2, Option.some.injEq, exists_eq_left', true_and, and_true, and_self, ne_eq, not_false_eq_true, not_true_eq_false, false_and, and_false, if_true, if_false, ite_true, ite_false, vin_0, vin_1, vin_2, vin_n, ncl, lit_0, lit_1, lit_2, lit_3, lit_4, lit_9, nm2, nm3, nm4, nm9, na1, na2, na3, na4, hG_sG, hG_sY, hG_sV, hG_sN, hY_sG, hY_sY, hY_sV, hY_sN, hV_sG, hV_sY, hV_sN, hV_sV, hN_sG, hN_sY, hN_sV, hN_sN, hF_sX, hF_sXr, hF_sF, hX_sF, hX_sX, hX_sXr, Nat.reduceEqDiff, Nat.reduceAdd, er_0, er_1, er_2, er_3, er_4, Nat.zero_lt_succ, forall_const, true_implies, false_implies, imp_self, implies_true]
  have ev : hsV (hsV h 2 l t) 2 l (hV h 2 l) = h := by rw [hsV_hsV, hsV_same]
  refine ru_giveTariff (c := hsV h 2 l t) R2 s2 (by rw [ev]; exact W) hl fun h3 S3 R3 s3 D3 => ?_
  rw [ev] at s3 D3
  have := h1 l hl e t ht e2 h3 S3 R3 s3 D3
  unfold tw at this
  rw [(D2.1 _ ha).2.2]
  exact this
/-- the best tariff so far, and its total -/
noncomputable def bt (h : hC) (l : Nat) : Nat → Int32 × Int32
  | 0 => (-1, 0)
  | k + 1 => if (bt h l k).1 = -1 ∨ tw h l k < (bt h l k).2 then (nI k, tw h l k) else bt h l k
theorem bt_s (h : hC) (l k : Nat) : bt h l (k + 1) = if (bt h l k).1 = -1 ∨ tw h l k < (bt h l k).2 then (nI k, tw h l k) else bt h l k := rfl
theorem c_bestTariff {z A w h m u S} (R : RP z A w h m u S) (W : WF h) {p : Int32} {Q : Int32 → mmS → Prop} {X : String → mmS → Prop}
    (h1 : ∀ l, l < hN h 2 → p = nI l → ∀ h' S', RP z A w h' m u S' → ST h h' → DK h h' (hN h 3) → Q (bt h l (hN h 0)).1 S') (h0 : (∀ l, l < hN h 2 → p ≠ nI l) → X IOOB S) : wp_X4_bestTariff z S (A 10 0) p Q X := by
  have W1 := W.1
  unfold Wn at W1
  unfold wp_X4_bestTariff
  simp (disch := first | assumption | omega | (simp only [hN_sG, hN_sY, hN_sV] <;> first | assumption | omega)) only [rd R, Option.some.injEq, exists_eq_left', true_and, and_true, and_self, ne_eq, not_false_eq_true, not_true_eq_false, false_and, and_false, if_true, if_false, ite_true, ite_false, vin_0, vin_1, vin_2, vin_n, ncl, lit_0, lit_1, lit_2, lit_3, lit_4, lit_9, nm2, nm3, nm4, nm9, na1, na2, na3, na4, hG_sG, hG_sY, hG_sV, hG_sN, hY_sG, hY_sY, hY_sV, hY_sN, hV_sG, hV_sY, hV_sN, hV_sV, hN_sG, hN_sY, hN_sV, hN_sN, hF_sX, hF_sXr, hF_sF, hX_sF, hX_sX, hX_sXr, Nat.reduceEqDiff, Nat.reduceAdd, er_0, er_1, er_2, er_3, er_4, Nat.zero_lt_succ, forall_const, true_implies, false_implies, imp_self, implies_true]
  refine ru_findLine R W (fun l hl e => ?_) h0
  have hQ := h1 l hl e
  clear h1 h0
  have hk := (W.2.2.2.1 l hl).2.2
  have ha := (W.2.2.2.1 l hl).2.1
  have lp : ∀ d k t h2 S2, k + d = hN h 0 → RP z A w h2 m u S2 → ST (hsV h 2 l t) h2 → lp_X4_bestTariff_20 z Q X (d + 1) S2 (A 10 0) (A 2 l) (A 0 (hV h 2 l)) (bt h l k).1 (bt h l k).2 (nI k) := by
    intro d
    induction d with
    | zero =>
      intro k t h2 S2 hkd R2 s2
      show bk_X4_bestTariff_20 z Q X _ S2 _ _ _ _ _ _
      unfold bk_X4_bestTariff_20
      have e5 : hN h2 (5 + 0) = hN h 0 := by rw [s2.1]; exact W1.2.2.2.2.1
      simp (disch := first | assumption | omega | (simp only [hN_sG, hN_sY, hN_sV] <;> first | assumption | omega)) only [rd R2, Option.some.injEq, exists_eq_left', true_and, and_true, and_self, ne_eq, not_false_eq_true, not_true_eq_false, false_and, and_false, if_true, if_false, ite_true, ite_false, vin_0, vin_1, vin_2, vin_n, ncl, lit_0, lit_1, lit_2, lit_3, lit_4, lit_9, nm2, nm3, nm4, nm9, na1, na2, na3, na4, hG_sG, hG_sY, hG_sV, hG_sN, hY_sG, hY_sY, hY_sV, hY_sN, hV_sG, hV_sY, hV_sN, hV_sV, hN_sG, hN_sY, hN_sV, hN_sN, hF_sX, hF_sXr, hF_sF, hX_sF, hX_sX, hX_sXr, Nat.reduceEqDiff, Nat.reduceAdd, er_0, er_1, er_2, er_3, er_4, Nat.zero_lt_succ, forall_const, true_implies, false_implies, imp_self, implies_true]
      refine ru_size R2 (by decide) ?_
      rw [e5]
      refine ⟨fun _ => ?_, fun g => absurd ?_ g⟩
      · simp (disch := first | assumption | omega | (simp only [hN_sG, hN_sY, hN_sV] <;> first | assumption | omega)) only [rd R2, Option.some.injEq, exists_eq_left', true_and, and_true, and_self, ne_eq, not_false_eq_true, not_true_eq_false, false_and, and_false, if_true, if_false, ite_true, ite_false, vin_0, vin_1, vin_2, vin_n, ncl, lit_0, lit_1, lit_2, lit_3, lit_4, lit_9, nm2, nm3, nm4, nm9, na1, na2, na3, na4, hG_sG, hG_sY, hG_sV, hG_sN, hY_sG, hY_sY, hY_sV, hY_sN, hV_sG, hV_sY, hV_sN, hV_sV, hN_sG, hN_sY, hN_sV, hN_sN, hF_sX, hF_sXr, hF_sF, hX_sF, hX_sX, hX_sXr, Nat.reduceEqDiff, Nat.reduceAdd, er_0, er_1, er_2, er_3, er_4, Nat.zero_lt_succ, forall_const, true_implies, false_implies, imp_self, implies_true]
        have ev : hsV (hsV h 2 l t) 2 l (hV h 2 l) = h := by rw [hsV_hsV, hsV_same]
        refine ru_giveTariff (c := hsV h 2 l t) R2 s2 (by rw [ev]; exact W) hl fun h3 S3 R3 s3 D3 => ?_
        rw [ev] at s3 D3
        have e0 : k = hN h 0 := by omega
        rw [e0]
        exact hQ h3 S3 R3 s3 D3
      · exact nI_le (by omega) (by omega)
    | succ d ih =>
      intro k t h2 S2 hkd R2 s2
      show bk_X4_bestTariff_20 z Q X (lp_X4_bestTariff_20 z Q X (d + 1)) S2 _ _ _ _ _ _
      unfold bk_X4_bestTariff_20
      have e5 : hN h2 (5 + 0) = hN h 0 := by rw [s2.1]; exact W1.2.2.2.2.1
      have hk3 : k < hN h 0 := by omega
      have ev : hV h2 (5 + 0) k = k := by rw [s2.2.1, hV_sV, if_neg (by omega)]; exact (W.2.1 k hk3).1
      have hk2 : k < hN h2 0 := by rw [s2.1]; exact hk3
      simp (disch := first | assumption | omega | (simp only [hN_sG, hN_sY, hN_sV] <;> first | assumption | omega)) only [rd R2, Option.some.injEq, exists_eq_left', true_and, and_true, and_self, ne_eq, not_false_eq_true, not_true_eq_false, false_and, and_false, if_true, if_false, ite_true, ite_false, vin_0, vin_1, vin_2, vin_n, ncl, lit_0, lit_1, lit_2, lit_3, lit_4, lit_9, nm2, nm3, nm4, nm9, na1, na2, na3, na4, hG_sG, hG_sY, hG_sV, hG_sN, hY_sG, hY_sY, hY_sV, hY_sN, hV_sG, hV_sY, hV_sN, hV_sV, hN_sG, hN_sY, hN_sV, hN_sN, hF_sX, hF_sXr, hF_sF, hX_sF, hX_sX, hX_sXr, Nat.reduceEqDiff, Nat.reduceAdd, er_0, er_1, er_2, er_3, er_4, Nat.zero_lt_succ, forall_const, true_implies, false_implies, imp_self, implies_true]
      refine ru_size R2 (by decide) ?_
      rw [e5]
      refine ⟨fun e => absurd e (nI_ge (by omega) (by omega)), fun _ => ?_⟩
      simp (disch := first | assumption | omega | (simp only [hN_sG, hN_sY, hN_sV] <;> first | assumption | omega)) only [rd R2, Option.some.injEq, exists_eq_left', true_and, and_true, and_self, ne_eq, not_false_eq_true, not_true_eq_false, false_and, and_false, if_true, if_false, ite_true, ite_false, vin_0, vin_1, vin_2, vin_n, ncl, lit_0, lit_1, lit_2, lit_3, lit_4, lit_9, nm2, nm3, nm4, nm9, na1, na2, na3, na4, hG_sG, hG_sY, hG_sV, hG_sN, hY_sG, hY_sY, hY_sV, hY_sN, hV_sG, hV_sY, hV_sN, hV_sV, hN_sG, hN_sY, hN_sV, hN_sN, hF_sX, hF_sXr, hF_sF, hX_sF, hX_sX, hX_sXr, Nat.reduceEqDiff, Nat.reduceAdd, er_0, er_1, er_2, er_3, er_4, Nat.zero_lt_succ, forall_const, true_implies, false_implies, imp_self, implies_true]
      refine ru_get R2 (by decide) (by rw [e5]; exact hk3) (by rw [e5]; omega) ?_
      rw [ev]
      simp (disch := first | assumption | omega | (simp only [hN_sG, hN_sY, hN_sV] <;> first | assumption | omega)) only [rd R2, Option.some.injEq, exists_eq_left', true_and, and_true, and_self, ne_eq, not_false_eq_true, not_true_eq_false, false_and, and_false, if_true, if_false, ite_true, ite_false, vin_0, vin_1, vin_2, vin_n, ncl, lit_0, lit_1, lit_2, lit_3, lit_4, lit_9, nm2, nm3, nm4, nm9, na1, na2, na3, na4, hG_sG, hG_sY, hG_sV, hG_sN, hY_sG, hY_sY, hY_sV, hY_sN, hV_sG, hV_sY, hV_sN, hV_sV, hN_sG, hN_sY, hN_sV, hN_sN, hF_sX, hF_sXr, hF_sF, hX_sF, hX_sX, hX_sXr, Nat.reduceEqDiff, Nat.reduceAdd, er_0, er_1, er_2, er_3, er_4, Nat.zero_lt_succ, forall_const, true_implies, false_implies, imp_self, implies_true]
      have ev2 : hsV (hsV h 2 l t) 2 l k = hsV h 2 l k := by rw [hsV_hsV]
      refine ru_giveTariff (c := hsV h 2 l t) R2 s2 (by rw [ev2]; exact WF_plan W hk3) hl fun h3 S3 R3 s3 D3 => ?_
      rw [ev2] at s3 D3
      have hl3 : l < hN h3 2 := by rw [s3.1]; exact hl
      have ha3 : hV h 1 l < hN h3 1 := by rw [s3.1]; exact ha
      simp (disch := first | assumption | omega | (simp only [hN_sG, hN_sY, hN_sV] <;> first | assumption | omega)) only [rd R3, st s3, Option.some.injEq, exists_eq_left', true_and, and_true, and_self, ne_eq, not_false_eq_true, not_true_eq_false, false_and, and_false, if_true, if_false, ite_true, ite_false, vin_0, vin_1, vin_2, vin_n, ncl, lit_0, lit_1, lit_2, lit_3, lit_4, lit_9, nm2, nm3, nm4, nm9, na1, na2, na3, na4, hG_sG, hG_sY, hG_sV, hG_sN, hY_sG, hY_sY, hY_sV, hY_sN, hV_sG, hV_sY, hV_sN, hV_sV, hN_sG, hN_sY, hN_sV, hN_sN, hF_sX, hF_sXr, hF_sF, hX_sF, hX_sX, hX_sXr, Nat.reduceEqDiff, Nat.reduceAdd, er_0, er_1, er_2, er_3, er_4, Nat.zero_lt_succ, forall_const, true_implies, false_implies, imp_self, implies_true]
      refine ru_X0_cents R3 ha3 ?_
      have et : cnt (hG h3 5 (hV h 1 l)) (hG h3 0 (hV h 1 l)) (hG h3 1 (hV h 1 l)) = tw h l k := by
        unfold tw
        rw [(D3.1 _ ha).2.2, s3.2.2.1 0 rfl, s3.2.2.1 1 rfl]; rfl
      rw [et]
      have ih1 := ih (k + 1) k h3 S3 (by omega) R3 s3
      rw [bt_s] at ih1
      refine ⟨fun g => ?_, fun g => ⟨fun g2 => ?_, fun g2 => ?_⟩⟩
      · rw [if_pos (Or.inl g)] at ih1
        unfold bk_X4_bestTariff_71 bk_X4_bestTariff_79
        rintro v rfl
        rw [na1]; exact ih1
      · rw [if_neg (fun q => q.elim g (fun q => absurd g2 (Int32.not_le.mpr q)))] at ih1
        unfold bk_X4_bestTariff_79
        rintro v rfl
        rw [na1]; exact ih1
      · rw [if_pos (Or.inr (Int32.not_le.mp g2))] at ih1
        unfold bk_X4_bestTariff_71 bk_X4_bestTariff_79
        rintro v rfl
        rw [na1]; exact ih1
  simp (disch := first | assumption | omega | (simp only [hN_sG, hN_sY, hN_sV] <;> first | assumption | omega)) only [rd R, Option.some.injEq, exists_eq_left', true_and, and_true, and_self, ne_eq, not_false_eq_true, not_true_eq_false, false_and, and_false, if_true, if_false, ite_true, ite_false, vin_0, vin_1, vin_2, vin_n, ncl, lit_0, lit_1, lit_2, lit_3, lit_4, lit_9, nm2, nm3, nm4, nm9, na1, na2, na3, na4, hG_sG, hG_sY, hG_sV, hG_sN, hY_sG, hY_sY, hY_sV, hY_sN, hV_sG, hV_sY, hV_sN, hV_sV, hN_sG, hN_sY, hN_sV, hN_sN, hF_sX, hF_sXr, hF_sF, hX_sF, hX_sX, hX_sXr, Nat.reduceEqDiff, Nat.reduceAdd, er_0, er_1, er_2, er_3, er_4, Nat.zero_lt_succ, forall_const, true_implies, false_implies, imp_self, implies_true]
  rintro v1 rfl v2 rfl v3 rfl
  exact ⟨hN h 0 + 1, lp (hN h 0) 0 (hV h 2 l) h S (by omega) R (by rw [hsV_same]; exact ST_refl h)⟩
/-- the checksum, step by step -/
def mxj (d : Int64) (x : Int32) : Int64 := d * 31 + Int32.toInt64 x
noncomputable def dg1 (h : hC) (d : Int64) : Nat → Int64
  | 0 => d
  | k + 1 => mxj (mxj (dg1 h d k) (nI (hV h 2 k))) (sl h k (hN h 3))
noncomputable def dg2 (h : hC) (d : Int64) : Nat → Int64
  | 0 => d
  | k + 1 => mxj (mxj (mxj (mxj (dg2 h d k) (hG h 2 k)) (sa h k (hN h 3))) (cnt (sa h k (hN h 3)) (hG h 0 k) (hG h 1 k))) (un h k (hN h 3))
def dg4 (h : hC) (i : Nat) (d : Int64) : Nat → Int64
  | 0 => d
  | j + 1 => mxj (dg4 h i d j) (tl h i j)
def dg3 (h : hC) (d : Int64) : Nat → Int64
  | 0 => d
  | k + 1 => dg4 h (hV h 9 k) (mxj (dg3 h d k) (nI (hV h 9 k))) 5
def dg0 (h : hC) : Int64 := mxj (mxj (mxj (mxj (mxj (mxj 193 (nI (hN h 0))) (nI (hN h 1))) (nI (hN h 2))) (nI (hN h 3))) (hG h 21 0)) (hG h 22 0)
theorem c_mixLines {z A w h m u S} (R : RP z A w h m u S) (W : WF h) (D : DR h h (hN h 3)) {d0 : Int64} {Q : Int64 → mmS → Prop} {X : String → mmS → Prop} (h1 : Q (dg1 h d0 (hN h 2)) S) : wp_X4_mixLines z S (A 10 0) d0 Q X := by
  have W1 := W.1
  unfold Wn at W1
  have e5 : hN h (5 + 2) = hN h 2 := W1.2.2.2.2.2.2.1
  have lp : ∀ d k, k + d = hN h 2 → lp_X4_mixLines_5 z Q X (d + 1) S (A 10 0) (dg1 h d0 k) (nI k) := by
    intro d
    induction d with
    | zero =>
      intro k hk
      show bk_X4_mixLines_5 z Q X _ S _ _ _
      unfold bk_X4_mixLines_5
      simp (disch := first | assumption | omega | (simp only [hN_sG, hN_sY, hN_sV] <;> first | assumption | omega)) only [rd R, Option.some.injEq, exists_eq_left', true_and, and_true, and_self, ne_eq, not_false_eq_true, not_true_eq_false, false_and, and_false, if_true, if_false, ite_true, ite_false, vin_0, vin_1, vin_2, vin_n, ncl, lit_0, lit_1, lit_2, lit_3, lit_4, lit_9, nm2, nm3, nm4, nm9, na1, na2, na3, na4, hG_sG, hG_sY, hG_sV, hG_sN, hY_sG, hY_sY, hY_sV, hY_sN, hV_sG, hV_sY, hV_sN, hV_sV, hN_sG, hN_sY, hN_sV, hN_sN, hF_sX, hF_sXr, hF_sF, hX_sF, hX_sX, hX_sXr, Nat.reduceEqDiff, Nat.reduceAdd, er_0, er_1, er_2, er_3, er_4, Nat.zero_lt_succ, forall_const, true_implies, false_implies, imp_self, implies_true]
      refine ru_size R (by decide) ?_
      rw [e5]
      refine ⟨fun _ => by rw [← hk] at h1; exact h1, fun e => absurd ?_ e⟩
      exact nI_le (by omega) (by omega)
    | succ d ih =>
      intro k hk
      show bk_X4_mixLines_5 z Q X (lp_X4_mixLines_5 z Q X (d + 1)) S _ _ _
      have hk3 : k < hN h 2 := by omega
      have ev : hV h (5 + 2) k = k := (W.2.2.2.1 k hk3).1
      have ht : hV h 2 k < hN h 0 := (W.2.2.2.1 k hk3).2.2
      unfold bk_X4_mixLines_5
      simp (disch := first | assumption | omega | (simp only [hN_sG, hN_sY, hN_sV] <;> first | assumption | omega)) only [rd R, Option.some.injEq, exists_eq_left', true_and, and_true, and_self, ne_eq, not_false_eq_true, not_true_eq_false, false_and, and_false, if_true, if_false, ite_true, ite_false, vin_0, vin_1, vin_2, vin_n, ncl, lit_0, lit_1, lit_2, lit_3, lit_4, lit_9, nm2, nm3, nm4, nm9, na1, na2, na3, na4, hG_sG, hG_sY, hG_sV, hG_sN, hY_sG, hY_sY, hY_sV, hY_sN, hV_sG, hV_sY, hV_sN, hV_sV, hN_sG, hN_sY, hN_sV, hN_sN, hF_sX, hF_sXr, hF_sF, hX_sF, hX_sX, hX_sXr, Nat.reduceEqDiff, Nat.reduceAdd, er_0, er_1, er_2, er_3, er_4, Nat.zero_lt_succ, forall_const, true_implies, false_implies, imp_self, implies_true]
      refine ru_size R (by decide) ?_
      rw [e5]
      refine ⟨fun e => absurd e (nI_ge (by omega) (by omega)), fun _ => ?_⟩
      simp (disch := first | assumption | omega | (simp only [hN_sG, hN_sY, hN_sV] <;> first | assumption | omega)) only [rd R, Option.some.injEq, exists_eq_left', true_and, and_true, and_self, ne_eq, not_false_eq_true, not_true_eq_false, false_and, and_false, if_true, if_false, ite_true, ite_false, vin_0, vin_1, vin_2, vin_n, ncl, lit_0, lit_1, lit_2, lit_3, lit_4, lit_9, nm2, nm3, nm4, nm9, na1, na2, na3, na4, hG_sG, hG_sY, hG_sV, hG_sN, hY_sG, hY_sY, hY_sV, hY_sN, hV_sG, hV_sY, hV_sN, hV_sV, hN_sG, hN_sY, hN_sV, hN_sN, hF_sX, hF_sXr, hF_sF, hX_sF, hX_sX, hX_sXr, Nat.reduceEqDiff, Nat.reduceAdd, er_0, er_1, er_2, er_3, er_4, Nat.zero_lt_succ, forall_const, true_implies, false_implies, imp_self, implies_true]
      refine ru_get R (by decide) (by rw [e5]; exact hk3) (by rw [e5]; omega) ?_
      rw [ev]
      unfold wp_X4_mix
      simp (disch := first | assumption | omega | (simp only [hN_sG, hN_sY, hN_sV] <;> first | assumption | omega)) only [rd R, Option.some.injEq, exists_eq_left', true_and, and_true, and_self, ne_eq, not_false_eq_true, not_true_eq_false, false_and, and_false, if_true, if_false, ite_true, ite_false, vin_0, vin_1, vin_2, vin_n, ncl, lit_0, lit_1, lit_2, lit_3, lit_4, lit_9, nm2, nm3, nm4, nm9, na1, na2, na3, na4, hG_sG, hG_sY, hG_sV, hG_sN, hY_sG, hY_sY, hY_sV, hY_sN, hV_sG, hV_sY, hV_sN, hV_sV, hN_sG, hN_sY, hN_sV, hN_sN, hF_sX, hF_sXr, hF_sF, hX_sF, hX_sX, hX_sXr, Nat.reduceEqDiff, Nat.reduceAdd, er_0, er_1, er_2, er_3, er_4, Nat.zero_lt_succ, forall_const, true_implies, false_implies, imp_self, implies_true, (D.2.1 k hk3).1, (W.2.1 _ ht).2.1]
      intro v e
      have := ih (k + 1) (by omega)
      rw [e]
      try rw [na1]
      exact this
  unfold wp_X4_mixLines
  rintro v1 rfl
  exact ⟨hN h 2 + 1, lp (hN h 2) 0 (by omega)⟩
theorem c_mixAccounts {z A w h m u S} (R : RP z A w h m u S) (W : WF h) (D : DR h h (hN h 3)) {d0 : Int64} {Q : Int64 → mmS → Prop} {X : String → mmS → Prop} (h1 : Q (dg2 h d0 (hN h 1)) S) : wp_X4_mixAccounts z S (A 10 0) d0 Q X := by
  have W1 := W.1
  unfold Wn at W1
  have e5 : hN h (5 + 1) = hN h 1 := W1.2.2.2.2.2.1
  have lp : ∀ d k, k + d = hN h 1 → lp_X4_mixAccounts_5 z Q X (d + 1) S (A 10 0) (dg2 h d0 k) (nI k) := by
    intro d
    induction d with
    | zero =>
      intro k hk
      show bk_X4_mixAccounts_5 z Q X _ S _ _ _
      unfold bk_X4_mixAccounts_5
      simp (disch := first | assumption | omega | (simp only [hN_sG, hN_sY, hN_sV] <;> first | assumption | omega)) only [rd R, Option.some.injEq, exists_eq_left', true_and, and_true, and_self, ne_eq, not_false_eq_true, not_true_eq_false, false_and, and_false, if_true, if_false, ite_true, ite_false, vin_0, vin_1, vin_2, vin_n, ncl, lit_0, lit_1, lit_2, lit_3, lit_4, lit_9, nm2, nm3, nm4, nm9, na1, na2, na3, na4, hG_sG, hG_sY, hG_sV, hG_sN, hY_sG, hY_sY, hY_sV, hY_sN, hV_sG, hV_sY, hV_sN, hV_sV, hN_sG, hN_sY, hN_sV, hN_sN, hF_sX, hF_sXr, hF_sF, hX_sF, hX_sX, hX_sXr, Nat.reduceEqDiff, Nat.reduceAdd, er_0, er_1, er_2, er_3, er_4, Nat.zero_lt_succ, forall_const, true_implies, false_implies, imp_self, implies_true]
      refine ru_size R (by decide) ?_
      rw [e5]
      refine ⟨fun _ => by rw [← hk] at h1; exact h1, fun e => absurd ?_ e⟩
      exact nI_le (by omega) (by omega)
    | succ d ih =>
      intro k hk
      show bk_X4_mixAccounts_5 z Q X (lp_X4_mixAccounts_5 z Q X (d + 1)) S _ _ _
      have hk3 : k < hN h 1 := by omega
      have ev : hV h (5 + 1) k = k := (W.2.2.1 k hk3).1
      unfold bk_X4_mixAccounts_5
      simp (disch := first | assumption | omega | (simp only [hN_sG, hN_sY, hN_sV] <;> first | assumption | omega)) only [rd R, Option.some.injEq, exists_eq_left', true_and, and_true, and_self, ne_eq, not_false_eq_true, not_true_eq_false, false_and, and_false, if_true, if_false, ite_true, ite_false, vin_0, vin_1, vin_2, vin_n, ncl, lit_0, lit_1, lit_2, lit_3, lit_4, lit_9, nm2, nm3, nm4, nm9, na1, na2, na3, na4, hG_sG, hG_sY, hG_sV, hG_sN, hY_sG, hY_sY, hY_sV, hY_sN, hV_sG, hV_sY, hV_sN, hV_sV, hN_sG, hN_sY, hN_sV, hN_sN, hF_sX, hF_sXr, hF_sF, hX_sF, hX_sX, hX_sXr, Nat.reduceEqDiff, Nat.reduceAdd, er_0, er_1, er_2, er_3, er_4, Nat.zero_lt_succ, forall_const, true_implies, false_implies, imp_self, implies_true]
      refine ru_size R (by decide) ?_
      rw [e5]
      refine ⟨fun e => absurd e (nI_ge (by omega) (by omega)), fun _ => ?_⟩
      simp (disch := first | assumption | omega | (simp only [hN_sG, hN_sY, hN_sV] <;> first | assumption | omega)) only [rd R, Option.some.injEq, exists_eq_left', true_and, and_true, and_self, ne_eq, not_false_eq_true, not_true_eq_false, false_and, and_false, if_true, if_false, ite_true, ite_false, vin_0, vin_1, vin_2, vin_n, ncl, lit_0, lit_1, lit_2, lit_3, lit_4, lit_9, nm2, nm3, nm4, nm9, na1, na2, na3, na4, hG_sG, hG_sY, hG_sV, hG_sN, hY_sG, hY_sY, hY_sV, hY_sN, hV_sG, hV_sY, hV_sN, hV_sV, hN_sG, hN_sY, hN_sV, hN_sN, hF_sX, hF_sXr, hF_sF, hX_sF, hX_sX, hX_sXr, Nat.reduceEqDiff, Nat.reduceAdd, er_0, er_1, er_2, er_3, er_4, Nat.zero_lt_succ, forall_const, true_implies, false_implies, imp_self, implies_true]
      refine ru_get R (by decide) (by rw [e5]; exact hk3) (by rw [e5]; omega) ?_
      rw [ev]
      unfold wp_X4_mix
      simp (disch := first | assumption | omega | (simp only [hN_sG, hN_sY, hN_sV] <;> first | assumption | omega)) only [rd R, Option.some.injEq, exists_eq_left', true_and, and_true, and_self, ne_eq, not_false_eq_true, not_true_eq_false, false_and, and_false, if_true, if_false, ite_true, ite_false, vin_0, vin_1, vin_2, vin_n, ncl, lit_0, lit_1, lit_2, lit_3, lit_4, lit_9, nm2, nm3, nm4, nm9, na1, na2, na3, na4, hG_sG, hG_sY, hG_sV, hG_sN, hY_sG, hY_sY, hY_sV, hY_sN, hV_sG, hV_sY, hV_sN, hV_sV, hN_sG, hN_sY, hN_sV, hN_sN, hF_sX, hF_sXr, hF_sF, hX_sF, hX_sX, hX_sXr, Nat.reduceEqDiff, Nat.reduceAdd, er_0, er_1, er_2, er_3, er_4, Nat.zero_lt_succ, forall_const, true_implies, false_implies, imp_self, implies_true]
      refine ru_X0_cents R hk3 ?_
      simp (disch := first | assumption | omega | (simp only [hN_sG, hN_sY, hN_sV] <;> first | assumption | omega)) only [rd R, Option.some.injEq, exists_eq_left', true_and, and_true, and_self, ne_eq, not_false_eq_true, not_true_eq_false, false_and, and_false, if_true, if_false, ite_true, ite_false, vin_0, vin_1, vin_2, vin_n, ncl, lit_0, lit_1, lit_2, lit_3, lit_4, lit_9, nm2, nm3, nm4, nm9, na1, na2, na3, na4, hG_sG, hG_sY, hG_sV, hG_sN, hY_sG, hY_sY, hY_sV, hY_sN, hV_sG, hV_sY, hV_sN, hV_sV, hN_sG, hN_sY, hN_sV, hN_sN, hF_sX, hF_sXr, hF_sF, hX_sF, hX_sX, hX_sXr, Nat.reduceEqDiff, Nat.reduceAdd, er_0, er_1, er_2, er_3, er_4, Nat.zero_lt_succ, forall_const, true_implies, false_implies, imp_self, implies_true, (D.1 k hk3).2.2, (D.1 k hk3).1]
      intro v e
      have := ih (k + 1) (by omega)
      rw [e]
      try rw [na1]
      exact this
  unfold wp_X4_mixAccounts
  rintro v1 rfl
  exact ⟨hN h 1 + 1, lp (hN h 1) 0 (by omega)⟩
theorem c_mixCalls {z A w h m u S} (R : RP z A w h m u S) (W : WF h) {d0 : Int64} {Q : Int64 → mmS → Prop} {X : String → mmS → Prop} (h1 : Q (dg3 h d0 (hN h 3)) S) : wp_X4_mixCalls z S (A 10 0) d0 Q X := by
  have W1 := W.1
  unfold Wn at W1
  have e5 : hN h (5 + 4) = hN h 3 := W1.2.2.2.2.2.2.2.2
  have lp4 : ∀ (K5 : mmS → Nat → Int64 → Int32 → Prop) (i k : Nat) (dd : Int64), i < hN h 3 → K5 S (A 10 0) (dg4 h i dd 5) (nI (k + 1)) → ∀ d j, j + d = 5 → lp_X4_mixCalls_44 z Q X K5 (d + 1) S (A 10 0) (dg4 h i dd j) (nI k) (A 3 i) (nI j) := by
    intro K5 i k dd hi hK d
    induction d with
    | zero =>
      intro j hj
      show bk_X4_mixCalls_44 z Q X K5 _ S _ _ _ _ _
      unfold bk_X4_mixCalls_44
      have e : j = 5 := by omega
      subst e
      refine ⟨fun _ => ?_, fun g => absurd (show (4 : Int32) < nI 5 by decide) g⟩
      rintro v rfl
      rw [na1]; exact hK
    | succ d ih =>
      intro j hj
      show bk_X4_mixCalls_44 z Q X K5 (lp_X4_mixCalls_44 z Q X K5 (d + 1)) S _ _ _ _ _
      unfold bk_X4_mixCalls_44
      refine ⟨fun g => absurd g (show ¬ (4 : Int32) < nI j from nI_nlt (a := 4) (b := j) (by omega) (by omega)), fun _ => ?_⟩
      simp (disch := first | assumption | omega | (simp only [hN_sG, hN_sY, hN_sV] <;> first | assumption | omega)) only [rd R, Option.some.injEq, exists_eq_left', true_and, and_true, and_self, ne_eq, not_false_eq_true, not_true_eq_false, false_and, and_false, if_true, if_false, ite_true, ite_false, vin_0, vin_1, vin_2, vin_n, ncl, lit_0, lit_1, lit_2, lit_3, lit_4, lit_9, nm2, nm3, nm4, nm9, na1, na2, na3, na4, hG_sG, hG_sY, hG_sV, hG_sN, hY_sG, hY_sY, hY_sV, hY_sN, hV_sG, hV_sY, hV_sN, hV_sV, hN_sG, hN_sY, hN_sV, hN_sN, hF_sX, hF_sXr, hF_sF, hX_sF, hX_sX, hX_sXr, Nat.reduceEqDiff, Nat.reduceAdd, er_0, er_1, er_2, er_3, er_4, Nat.zero_lt_succ, forall_const, true_implies, false_implies, imp_self, implies_true]
      refine ru_X1_tell R hi (by omega) ?_
      unfold wp_X4_mix
      rintro v rfl
      exact ih (j + 1) (by omega)
  have lp : ∀ d k, k + d = hN h 3 → lp_X4_mixCalls_5 z Q X (d + 1) S (A 10 0) (dg3 h d0 k) (nI k) := by
    intro d
    induction d with
    | zero =>
      intro k hk
      show bk_X4_mixCalls_5 z Q X _ S _ _ _
      unfold bk_X4_mixCalls_5
      simp (disch := first | assumption | omega | (simp only [hN_sG, hN_sY, hN_sV] <;> first | assumption | omega)) only [rd R, Option.some.injEq, exists_eq_left', true_and, and_true, and_self, ne_eq, not_false_eq_true, not_true_eq_false, false_and, and_false, if_true, if_false, ite_true, ite_false, vin_0, vin_1, vin_2, vin_n, ncl, lit_0, lit_1, lit_2, lit_3, lit_4, lit_9, nm2, nm3, nm4, nm9, na1, na2, na3, na4, hG_sG, hG_sY, hG_sV, hG_sN, hY_sG, hY_sY, hY_sV, hY_sN, hV_sG, hV_sY, hV_sN, hV_sV, hN_sG, hN_sY, hN_sV, hN_sN, hF_sX, hF_sXr, hF_sF, hX_sF, hX_sX, hX_sXr, Nat.reduceEqDiff, Nat.reduceAdd, er_0, er_1, er_2, er_3, er_4, Nat.zero_lt_succ, forall_const, true_implies, false_implies, imp_self, implies_true]
      refine ru_size R (by decide) ?_
      rw [e5]
      refine ⟨fun _ => by rw [← hk] at h1; exact h1, fun e => absurd ?_ e⟩
      exact nI_le (by omega) (by omega)
    | succ d ih =>
      intro k hk
      show bk_X4_mixCalls_5 z Q X (lp_X4_mixCalls_5 z Q X (d + 1)) S _ _ _
      have hk3 : k < hN h 3 := by omega
      have ho : hV h 9 k < hN h 3 := W.2.2.2.2.2.1 k hk3
      unfold bk_X4_mixCalls_5
      simp (disch := first | assumption | omega | (simp only [hN_sG, hN_sY, hN_sV] <;> first | assumption | omega)) only [rd R, Option.some.injEq, exists_eq_left', true_and, and_true, and_self, ne_eq, not_false_eq_true, not_true_eq_false, false_and, and_false, if_true, if_false, ite_true, ite_false, vin_0, vin_1, vin_2, vin_n, ncl, lit_0, lit_1, lit_2, lit_3, lit_4, lit_9, nm2, nm3, nm4, nm9, na1, na2, na3, na4, hG_sG, hG_sY, hG_sV, hG_sN, hY_sG, hY_sY, hY_sV, hY_sN, hV_sG, hV_sY, hV_sN, hV_sV, hN_sG, hN_sY, hN_sV, hN_sN, hF_sX, hF_sXr, hF_sF, hX_sF, hX_sX, hX_sXr, Nat.reduceEqDiff, Nat.reduceAdd, er_0, er_1, er_2, er_3, er_4, Nat.zero_lt_succ, forall_const, true_implies, false_implies, imp_self, implies_true]
      refine ru_size R (by decide) ?_
      rw [e5]
      refine ⟨fun e => absurd e (nI_ge (by omega) (by omega)), fun _ => ?_⟩
      simp (disch := first | assumption | omega | (simp only [hN_sG, hN_sY, hN_sV] <;> first | assumption | omega)) only [rd R, Option.some.injEq, exists_eq_left', true_and, and_true, and_self, ne_eq, not_false_eq_true, not_true_eq_false, false_and, and_false, if_true, if_false, ite_true, ite_false, vin_0, vin_1, vin_2, vin_n, ncl, lit_0, lit_1, lit_2, lit_3, lit_4, lit_9, nm2, nm3, nm4, nm9, na1, na2, na3, na4, hG_sG, hG_sY, hG_sV, hG_sN, hY_sG, hY_sY, hY_sV, hY_sN, hV_sG, hV_sY, hV_sN, hV_sV, hN_sG, hN_sY, hN_sV, hN_sN, hF_sX, hF_sXr, hF_sF, hX_sF, hX_sX, hX_sXr, Nat.reduceEqDiff, Nat.reduceAdd, er_0, er_1, er_2, er_3, er_4, Nat.zero_lt_succ, forall_const, true_implies, false_implies, imp_self, implies_true]
      refine ru_get R (by decide) (by rw [e5]; exact hk3) (by rw [e5]; omega) ?_
      unfold wp_X4_mix
      simp (disch := first | assumption | omega | (simp only [hN_sG, hN_sY, hN_sV] <;> first | assumption | omega)) only [rd R, Option.some.injEq, exists_eq_left', true_and, and_true, and_self, ne_eq, not_false_eq_true, not_true_eq_false, false_and, and_false, if_true, if_false, ite_true, ite_false, vin_0, vin_1, vin_2, vin_n, ncl, lit_0, lit_1, lit_2, lit_3, lit_4, lit_9, nm2, nm3, nm4, nm9, na1, na2, na3, na4, hG_sG, hG_sY, hG_sV, hG_sN, hY_sG, hY_sY, hY_sV, hY_sN, hV_sG, hV_sY, hV_sN, hV_sV, hN_sG, hN_sY, hN_sV, hN_sN, hF_sX, hF_sXr, hF_sF, hX_sF, hX_sX, hX_sXr, Nat.reduceEqDiff, Nat.reduceAdd, er_0, er_1, er_2, er_3, er_4, Nat.zero_lt_succ, forall_const, true_implies, false_implies, imp_self, implies_true, (W.2.2.2.2.1 _ ho).2.1]
      intro v e
      rw [e]
      exact ⟨6, lp4 _ _ k _ ho (ih (k + 1) (by omega)) 5 0 (by omega)⟩
  unfold wp_X4_mixCalls
  rintro v1 rfl
  exact ⟨hN h 3 + 1, lp (hN h 3) 0 (by omega)⟩
theorem c_digest {z A w h m u S} (R : RP z A w h m u S) (W : WF h) (D : DR h h (hN h 3)) {Q : Int64 → mmS → Prop} {X : String → mmS → Prop} (h1 : Q (dg3 h (dg2 h (dg1 h (dg0 h) (hN h 2)) (hN h 1)) (hN h 3)) S) : wp_X4_digest z S (A 10 0) Q X := by
  have W1 := W.1
  unfold Wn at W1
  obtain ⟨q0, q1, q2, q3, q5, q6, q7, q8, q9⟩ := W1
  unfold wp_X4_digest
  rintro v1 rfl
  simp (disch := first | assumption | omega | (simp only [hN_sG, hN_sY, hN_sV] <;> first | assumption | omega)) only [rd R, Option.some.injEq, exists_eq_left', true_and, and_true, and_self, ne_eq, not_false_eq_true, not_true_eq_false, false_and, and_false, if_true, if_false, ite_true, ite_false, vin_0, vin_1, vin_2, vin_n, ncl, lit_0, lit_1, lit_2, lit_3, lit_4, lit_9, nm2, nm3, nm4, nm9, na1, na2, na3, na4, hG_sG, hG_sY, hG_sV, hG_sN, hY_sG, hY_sY, hY_sV, hY_sN, hV_sG, hV_sY, hV_sN, hV_sV, hN_sG, hN_sY, hN_sV, hN_sN, hF_sX, hF_sXr, hF_sF, hX_sF, hX_sX, hX_sXr, Nat.reduceEqDiff, Nat.reduceAdd, er_0, er_1, er_2, er_3, er_4, Nat.zero_lt_succ, forall_const, true_implies, false_implies, imp_self, implies_true]
  refine ru_size R (by decide) ?_
  unfold wp_X4_mix
  simp (disch := first | assumption | omega | (simp only [hN_sG, hN_sY, hN_sV] <;> first | assumption | omega)) only [rd R, Option.some.injEq, exists_eq_left', true_and, and_true, and_self, ne_eq, not_false_eq_true, not_true_eq_false, false_and, and_false, if_true, if_false, ite_true, ite_false, vin_0, vin_1, vin_2, vin_n, ncl, lit_0, lit_1, lit_2, lit_3, lit_4, lit_9, nm2, nm3, nm4, nm9, na1, na2, na3, na4, hG_sG, hG_sY, hG_sV, hG_sN, hY_sG, hY_sY, hY_sV, hY_sN, hV_sG, hV_sY, hV_sN, hV_sV, hN_sG, hN_sY, hN_sV, hN_sN, hF_sX, hF_sXr, hF_sF, hX_sF, hX_sX, hX_sXr, Nat.reduceEqDiff, Nat.reduceAdd, er_0, er_1, er_2, er_3, er_4, Nat.zero_lt_succ, forall_const, true_implies, false_implies, imp_self, implies_true]
  refine ru_size R (by decide) ?_
  simp (disch := first | assumption | omega | (simp only [hN_sG, hN_sY, hN_sV] <;> first | assumption | omega)) only [rd R, Option.some.injEq, exists_eq_left', true_and, and_true, and_self, ne_eq, not_false_eq_true, not_true_eq_false, false_and, and_false, if_true, if_false, ite_true, ite_false, vin_0, vin_1, vin_2, vin_n, ncl, lit_0, lit_1, lit_2, lit_3, lit_4, lit_9, nm2, nm3, nm4, nm9, na1, na2, na3, na4, hG_sG, hG_sY, hG_sV, hG_sN, hY_sG, hY_sY, hY_sV, hY_sN, hV_sG, hV_sY, hV_sN, hV_sV, hN_sG, hN_sY, hN_sV, hN_sN, hF_sX, hF_sXr, hF_sF, hX_sF, hX_sX, hX_sXr, Nat.reduceEqDiff, Nat.reduceAdd, er_0, er_1, er_2, er_3, er_4, Nat.zero_lt_succ, forall_const, true_implies, false_implies, imp_self, implies_true]
  refine ru_size R (by decide) ?_
  simp (disch := first | assumption | omega | (simp only [hN_sG, hN_sY, hN_sV] <;> first | assumption | omega)) only [rd R, Option.some.injEq, exists_eq_left', true_and, and_true, and_self, ne_eq, not_false_eq_true, not_true_eq_false, false_and, and_false, if_true, if_false, ite_true, ite_false, vin_0, vin_1, vin_2, vin_n, ncl, lit_0, lit_1, lit_2, lit_3, lit_4, lit_9, nm2, nm3, nm4, nm9, na1, na2, na3, na4, hG_sG, hG_sY, hG_sV, hG_sN, hY_sG, hY_sY, hY_sV, hY_sN, hV_sG, hV_sY, hV_sN, hV_sV, hN_sG, hN_sY, hN_sV, hN_sN, hF_sX, hF_sXr, hF_sF, hX_sF, hX_sX, hX_sXr, Nat.reduceEqDiff, Nat.reduceAdd, er_0, er_1, er_2, er_3, er_4, Nat.zero_lt_succ, forall_const, true_implies, false_implies, imp_self, implies_true]
  refine ru_size R (by decide) ?_
  simp (disch := first | assumption | omega | (simp only [hN_sG, hN_sY, hN_sV] <;> first | assumption | omega)) only [rd R, Option.some.injEq, exists_eq_left', true_and, and_true, and_self, ne_eq, not_false_eq_true, not_true_eq_false, false_and, and_false, if_true, if_false, ite_true, ite_false, vin_0, vin_1, vin_2, vin_n, ncl, lit_0, lit_1, lit_2, lit_3, lit_4, lit_9, nm2, nm3, nm4, nm9, na1, na2, na3, na4, hG_sG, hG_sY, hG_sV, hG_sN, hY_sG, hY_sY, hY_sV, hY_sN, hV_sG, hV_sY, hV_sN, hV_sV, hN_sG, hN_sY, hN_sV, hN_sN, hF_sX, hF_sXr, hF_sF, hX_sF, hX_sX, hX_sXr, Nat.reduceEqDiff, Nat.reduceAdd, er_0, er_1, er_2, er_3, er_4, Nat.zero_lt_succ, forall_const, true_implies, false_implies, imp_self, implies_true, q5, q6, q7, q8]
  refine c_mixLines R W D ?_
  simp (disch := first | assumption | omega | (simp only [hN_sG, hN_sY, hN_sV] <;> first | assumption | omega)) only [rd R, Option.some.injEq, exists_eq_left', true_and, and_true, and_self, ne_eq, not_false_eq_true, not_true_eq_false, false_and, and_false, if_true, if_false, ite_true, ite_false, vin_0, vin_1, vin_2, vin_n, ncl, lit_0, lit_1, lit_2, lit_3, lit_4, lit_9, nm2, nm3, nm4, nm9, na1, na2, na3, na4, hG_sG, hG_sY, hG_sV, hG_sN, hY_sG, hY_sY, hY_sV, hY_sN, hV_sG, hV_sY, hV_sN, hV_sV, hN_sG, hN_sY, hN_sV, hN_sN, hF_sX, hF_sXr, hF_sF, hX_sF, hX_sX, hX_sXr, Nat.reduceEqDiff, Nat.reduceAdd, er_0, er_1, er_2, er_3, er_4, Nat.zero_lt_succ, forall_const, true_implies, false_implies, imp_self, implies_true]
  refine c_mixAccounts R W D ?_
  simp (disch := first | assumption | omega | (simp only [hN_sG, hN_sY, hN_sV] <;> first | assumption | omega)) only [rd R, Option.some.injEq, exists_eq_left', true_and, and_true, and_self, ne_eq, not_false_eq_true, not_true_eq_false, false_and, and_false, if_true, if_false, ite_true, ite_false, vin_0, vin_1, vin_2, vin_n, ncl, lit_0, lit_1, lit_2, lit_3, lit_4, lit_9, nm2, nm3, nm4, nm9, na1, na2, na3, na4, hG_sG, hG_sY, hG_sV, hG_sN, hY_sG, hY_sY, hY_sV, hY_sN, hV_sG, hV_sY, hV_sN, hV_sV, hN_sG, hN_sY, hN_sV, hN_sN, hF_sX, hF_sXr, hF_sF, hX_sF, hX_sX, hX_sXr, Nat.reduceEqDiff, Nat.reduceAdd, er_0, er_1, er_2, er_3, er_4, Nat.zero_lt_succ, forall_const, true_implies, false_implies, imp_self, implies_true]
  refine c_mixCalls R W h1
