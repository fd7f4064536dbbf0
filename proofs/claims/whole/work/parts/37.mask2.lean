theorem m_daySum {z A w h m u S} (R : RP z A w h m u S) (W : WF h) (C : CM h m) {p : Int32} {Q : Int32 → mmS → Prop} {X : String → mmS → Prop} (h1 : 0 ≤ p ∧ p ≤ 29 → MA z A w h u 0 (Q (sm (dsf h p) (hN h 3)))) (h0 : ¬ (0 ≤ p ∧ p ≤ 29) → MA z A w h u 1 (Q 0)) : wp_X5_daySum z S (A 12 0) p Q X := by
  have W1 := W.1
  unfold Wn at W1
  unfold wp_X5_daySum
  simp (disch := first | assumption | omega | (simp only [hN_sG, hN_sY, hN_sV] <;> first | assumption | omega)) only [rd R, Option.some.injEq, exists_eq_left', true_and, and_true, and_self, ne_eq, not_false_eq_true, not_true_eq_false, false_and, and_false, if_true, if_false, ite_true, ite_false, vin_0, vin_1, vin_2, vin_n, ncl, lit_0, lit_1, lit_2, lit_3, lit_4, lit_9, nm2, nm3, nm4, nm9, na1, na2, na3, na4, hG_sG, hG_sY, hG_sV, hG_sN, hY_sG, hY_sY, hY_sV, hY_sN, hV_sG, hV_sY, hV_sN, hV_sV, hN_sG, hN_sY, hN_sV, hN_sN, hF_sX, hF_sXr, hF_sF, hX_sF, hX_sX, hX_sXr, Nat.reduceEqDiff, Nat.reduceAdd, er_0, er_1, er_2, er_3, er_4, Nat.zero_lt_succ, forall_const, true_implies, false_implies, imp_self, implies_true]
  refine up_F R (by decide) (by decide) fun S1 R1 => ?_
  have C1 : CM h (hsF m 23 0) := CM_s23 C
  refine ru_isIn (fun g => ⟨fun _ => ?_, fun q => absurd q (by decide)⟩) (fun g => ⟨fun q => absurd rfl q, fun _ => ?_⟩)
  · simp (disch := first | assumption | omega | (simp only [hN_sG, hN_sY, hN_sV] <;> first | assumption | omega)) only [rd R1, Option.some.injEq, exists_eq_left', true_and, and_true, and_self, ne_eq, not_false_eq_true, not_true_eq_false, false_and, and_false, if_true, if_false, ite_true, ite_false, vin_0, vin_1, vin_2, vin_n, ncl, lit_0, lit_1, lit_2, lit_3, lit_4, lit_9, nm2, nm3, nm4, nm9, na1, na2, na3, na4, hG_sG, hG_sY, hG_sV, hG_sN, hY_sG, hY_sY, hY_sV, hY_sN, hV_sG, hV_sY, hV_sN, hV_sV, hN_sG, hN_sY, hN_sV, hN_sN, hF_sX, hF_sXr, hF_sF, hX_sF, hX_sX, hX_sXr, Nat.reduceEqDiff, Nat.reduceAdd, er_0, er_1, er_2, er_3, er_4, Nat.zero_lt_succ, forall_const, true_implies, false_implies, imp_self, implies_true]
    refine ru_mrateAll R1 C1 W fun m2 S2 R2 C2 D2 F2 => ?_
    have hQ := h1 g _ S2 R2 C2 (by rw [F2, hF_sF, if_pos rfl])
    have lp : ∀ d k, k + d = hN h 3 → lp_X5_daySum_29 z Q X (d + 1) S2 (A 12 0) p (sm (dsf h p) k) (nI k) := by
      intro d
      induction d with
      | zero =>
        intro k hk
        show bk_X5_daySum_29 z Q X _ S2 _ _ _ _
        unfold bk_X5_daySum_29
        simp (disch := first | assumption | omega | (simp only [hN_sG, hN_sY, hN_sV] <;> first | assumption | omega)) only [rd R2, Option.some.injEq, exists_eq_left', true_and, and_true, and_self, ne_eq, not_false_eq_true, not_true_eq_false, false_and, and_false, if_true, if_false, ite_true, ite_false, vin_0, vin_1, vin_2, vin_n, ncl, lit_0, lit_1, lit_2, lit_3, lit_4, lit_9, nm2, nm3, nm4, nm9, na1, na2, na3, na4, hG_sG, hG_sY, hG_sV, hG_sN, hY_sG, hY_sY, hY_sV, hY_sN, hV_sG, hV_sY, hV_sN, hV_sV, hN_sG, hN_sY, hN_sV, hN_sN, hF_sX, hF_sXr, hF_sF, hX_sF, hX_sX, hX_sXr, Nat.reduceEqDiff, Nat.reduceAdd, er_0, er_1, er_2, er_3, er_4, Nat.zero_lt_succ, forall_const, true_implies, false_implies, imp_self, implies_true, cm C2]
        refine ⟨fun _ => by rw [← hk] at hQ; exact hQ, fun e => absurd ?_ e⟩
        exact nI_le (by omega) (by omega)
      | succ d ih =>
        intro k hk
        show bk_X5_daySum_29 z Q X (lp_X5_daySum_29 z Q X (d + 1)) S2 _ _ _ _
        have hk3 : k < hN h 3 := by omega
        unfold bk_X5_daySum_29
        simp (disch := first | assumption | omega | (simp only [hN_sG, hN_sY, hN_sV] <;> first | assumption | omega)) only [rd R2, Option.some.injEq, exists_eq_left', true_and, and_true, and_self, ne_eq, not_false_eq_true, not_true_eq_false, false_and, and_false, if_true, if_false, ite_true, ite_false, vin_0, vin_1, vin_2, vin_n, ncl, lit_0, lit_1, lit_2, lit_3, lit_4, lit_9, nm2, nm3, nm4, nm9, na1, na2, na3, na4, hG_sG, hG_sY, hG_sV, hG_sN, hY_sG, hY_sY, hY_sV, hY_sN, hV_sG, hV_sY, hV_sN, hV_sV, hN_sG, hN_sY, hN_sV, hN_sN, hF_sX, hF_sXr, hF_sF, hX_sF, hX_sX, hX_sXr, Nat.reduceEqDiff, Nat.reduceAdd, er_0, er_1, er_2, er_3, er_4, Nat.zero_lt_succ, forall_const, true_implies, false_implies, imp_self, implies_true, cm C2]
        refine ⟨fun e => absurd e (nI_ge (by omega) (by omega)), fun _ => ?_⟩
        have ih1 := ih (k + 1) (by omega)
        have e2 : sm (dsf h p) (k + 1) = sm (dsf h p) k + dsf h p k := rfl
        rw [e2] at ih1
        have d0 : ¬ hG h 7 k / 1440 = p → dsf h p k = 0 := fun q => if_neg q
        have d1 : hG h 7 k / 1440 = p → dsf h p k = prc h (pl h k) := fun q => if_pos q
        refine ru_dayOf ⟨fun q => ?_, fun q => ?_⟩
        · rw [d0 q] at ih1
          unfold bk_X5_daySum_65
          rintro v rfl v2 rfl
          rw [na1]; exact ih1
        · rw [d1 q] at ih1
          simp (disch := first | assumption | omega | (simp only [hN_sG, hN_sY, hN_sV] <;> first | assumption | omega)) only [rd R2, Option.some.injEq, exists_eq_left', true_and, and_true, and_self, ne_eq, not_false_eq_true, not_true_eq_false, false_and, and_false, if_true, if_false, ite_true, ite_false, vin_0, vin_1, vin_2, vin_n, ncl, lit_0, lit_1, lit_2, lit_3, lit_4, lit_9, nm2, nm3, nm4, nm9, na1, na2, na3, na4, hG_sG, hG_sY, hG_sV, hG_sN, hY_sG, hY_sY, hY_sV, hY_sN, hV_sG, hV_sY, hV_sN, hV_sV, hN_sG, hN_sY, hN_sV, hN_sN, hF_sX, hF_sXr, hF_sF, hX_sF, hX_sX, hX_sXr, Nat.reduceEqDiff, Nat.reduceAdd, er_0, er_1, er_2, er_3, er_4, Nat.zero_lt_succ, forall_const, true_implies, false_implies, imp_self, implies_true, cm C2, (MKn W D2 hk3).2.2.1]
          unfold bk_X5_daySum_65
          rintro v rfl v2 rfl
          rw [na1]; exact ih1
    rintro v1 rfl v2 rfl
    exact ⟨hN h 3 + 1, lp (hN h 3) 0 (by omega)⟩
  · simp (disch := first | assumption | omega | (simp only [hN_sG, hN_sY, hN_sV] <;> first | assumption | omega)) only [rd R1, Option.some.injEq, exists_eq_left', true_and, and_true, and_self, ne_eq, not_false_eq_true, not_true_eq_false, false_and, and_false, if_true, if_false, ite_true, ite_false, vin_0, vin_1, vin_2, vin_n, ncl, lit_0, lit_1, lit_2, lit_3, lit_4, lit_9, nm2, nm3, nm4, nm9, na1, na2, na3, na4, hG_sG, hG_sY, hG_sV, hG_sN, hY_sG, hY_sY, hY_sV, hY_sN, hV_sG, hV_sY, hV_sN, hV_sV, hN_sG, hN_sY, hN_sV, hN_sN, hF_sX, hF_sXr, hF_sF, hX_sF, hX_sX, hX_sXr, Nat.reduceEqDiff, Nat.reduceAdd, er_0, er_1, er_2, er_3, er_4, Nat.zero_lt_succ, forall_const, true_implies, false_implies, imp_self, implies_true]
    exact MA_no R1 C1 (h0 g)
theorem fch_nb {c : hC} (W : WF c) {k : Nat} (hk : k < hN c 3) : nb (fch c k) 10000 := by
  have ho := W.2.2.2.2.2.1 k hk
  have hl := (W.2.2.2.2.1 _ ho).2.2.1
  have ht := (W.2.2.2.1 _ hl).2.2
  obtain ⟨ez, hz⟩ := zo_n W ho
  unfold fch
  by_cases h0 : hG c 9 (hV c 9 k) = 0
  · rw [if_pos h0]; exact ⟨0, by omega, rfl⟩
  rw [if_neg h0]
  by_cases h1 : zo c (hV c 9 k) = 0
  · rw [if_pos h1]; exact ⟨0, by omega, rfl⟩
  rw [if_neg h1]
  split
  · exact ((W.2.1 _ ht).2.2.2.2.2.2.2 _ (by omega)).2
  · exact ⟨0, by omega, rfl⟩
theorem rt_nb {c : hC} (W : WF c) {i : Nat} (hi : i < hN c 3) : nb (rt c i) 10000 := by
  have hl := (W.2.2.2.2.1 _ hi).2.2.1
  have ht := (W.2.2.2.1 _ hl).2.2
  obtain ⟨ez, hz⟩ := zo_n W hi
  unfold rt
  by_cases h1 : zo c i = 0
  · rw [if_pos h1]
    by_cases h2 : pk c i
    · rw [if_pos h2]; exact (W.2.1 _ ht).2.2.2.1
    · rw [if_neg h2]; exact (W.2.1 _ ht).2.2.2.2.1
  · rw [if_neg h1]; exact ((W.2.1 _ ht).2.2.2.2.2.2.2 _ (by omega)).1
theorem prc_nb {c : hC} (W : WF c) {k : Nat} (hk : k < hN c 3) : nb (prc c k) 2000000 := by
  have ho := W.2.2.2.2.2.1 k hk
  have hl := (W.2.2.2.2.1 _ ho).2.2.1
  have ht : tfo c (hV c 9 k) < hN c 0 := (W.2.2.2.1 _ hl).2.2
  unfold prc
  by_cases h0 : hG c 9 (hV c 9 k) = 0
  · rw [if_pos h0]; exact ⟨0, by omega, rfl⟩
  rw [if_neg h0]
  obtain ⟨b, f, hb, hf, eb, ef⟩ := fre_nb W hk
  obtain ⟨x, hx, ex⟩ := fch_nb W hk
  obtain ⟨r, hr, er⟩ := rt_nb W ho
  obtain ⟨y, hy, ey⟩ := (W.2.1 _ ht).2.2.1
  rw [eb, ef, ex, er, ey, pk_sub hf]
  unfold chf
  split
  · rw [x59, pk_mul]
    have e59 : nI ((b - f) * r) + 59 = nI ((b - f) * r + 59) := nI_add _ 59
    have hm : (b - f) * r ≤ 7800 * 10000 := Nat.mul_le_mul (by omega) hr
    have hd : nI ((b - f) * r + 59) / 60 = nI (((b - f) * r + 59) / 60) := pk_div (d := 60) (by omega) (by omega) (by omega)
    rw [e59, hd, nI_add, nI_add]
    exact ⟨_, by omega, rfl⟩
  · have : nI x + 0 = nI x := Int32.add_zero _
    rw [this]
    exact ⟨x, by omega, rfl⟩
theorem m_dayFees {z A w h m u S} (R : RP z A w h m u S) (W : WF h) (C : CM h m) {p q : Int32} {Q : Int32 → mmS → Prop} {X : String → mmS → Prop} (h1 : ∀ i, i < hN h 2 → p = nI i → ∀ k, k = 1 ∨ k = 2 → q = nI k → MA z A w h u 0 (Q (fp h i k (hN h 3)))) (h0 : (¬ ∃ i k, i < hN h 2 ∧ p = nI i ∧ (k = 1 ∨ k = 2) ∧ q = nI k) → MA z A w h u 1 (Q 0)) : wp_X5_dayFees z S (A 12 0) p q Q X := by
  have W1 := W.1
  unfold Wn at W1
  unfold wp_X5_dayFees
  simp (disch := first | assumption | omega | (simp only [hN_sG, hN_sY, hN_sV] <;> first | assumption | omega)) only [rd R, Option.some.injEq, exists_eq_left', true_and, and_true, and_self, ne_eq, not_false_eq_true, not_true_eq_false, false_and, and_false, if_true, if_false, ite_true, ite_false, vin_0, vin_1, vin_2, vin_n, ncl, lit_0, lit_1, lit_2, lit_3, lit_4, lit_9, nm2, nm3, nm4, nm9, na1, na2, na3, na4, hG_sG, hG_sY, hG_sV, hG_sN, hY_sG, hY_sY, hY_sV, hY_sN, hV_sG, hV_sY, hV_sN, hV_sV, hN_sG, hN_sY, hN_sV, hN_sN, hF_sX, hF_sXr, hF_sF, hX_sF, hX_sX, hX_sXr, Nat.reduceEqDiff, Nat.reduceAdd, er_0, er_1, er_2, er_3, er_4, Nat.zero_lt_succ, forall_const, true_implies, false_implies, imp_self, implies_true]
  refine up_F R (by decide) (by decide) fun S1 R1 => ?_
  have C1 : CM h (hsF m 23 0) := CM_s23 C
  refine ru_isLine R1 W C1 (fun i hi e => ⟨fun g => absurd g (by decide), fun _ => ?_⟩) (fun g0 => ⟨fun _ => ?_, fun g => absurd rfl g⟩)
  · refine ru_isIn (fun g => ⟨fun _ => ?_, fun q => absurd q (by decide)⟩) (fun g => ⟨fun q => absurd rfl q, fun _ => ?_⟩)
    · obtain ⟨y, hy, rfl⟩ := nI_of2 (M := 2) (n := 2) rfl (Int32.not_lt.mpr (Int32.le_trans (show (0 : Int32) ≤ 1 by decide) g.1)) g.2
      have hy12 : y = 1 ∨ y = 2 := by
        have : nI 1 ≤ nI y := g.1
        rw [nle (by omega) (by omega)] at this
        omega
      subst e
      simp (disch := first | assumption | omega | (simp only [hN_sG, hN_sY, hN_sV] <;> first | assumption | omega)) only [rd R1, Option.some.injEq, exists_eq_left', true_and, and_true, and_self, ne_eq, not_false_eq_true, not_true_eq_false, false_and, and_false, if_true, if_false, ite_true, ite_false, vin_0, vin_1, vin_2, vin_n, ncl, lit_0, lit_1, lit_2, lit_3, lit_4, lit_9, nm2, nm3, nm4, nm9, na1, na2, na3, na4, hG_sG, hG_sY, hG_sV, hG_sN, hY_sG, hY_sY, hY_sV, hY_sN, hV_sG, hV_sY, hV_sN, hV_sV, hN_sG, hN_sY, hN_sV, hN_sN, hF_sX, hF_sXr, hF_sF, hX_sF, hX_sX, hX_sXr, Nat.reduceEqDiff, Nat.reduceAdd, er_0, er_1, er_2, er_3, er_4, Nat.zero_lt_succ, forall_const, true_implies, false_implies, imp_self, implies_true]
      refine ru_mrateAll R1 C1 W fun m2 S2 R2 C2 D2 F2 => ?_
      have hQ := h1 i hi rfl y hy12 rfl _ S2 R2 C2 (by rw [F2, hF_sF, if_pos rfl])
      rw [fp_num W] at hQ
      have lp : ∀ d k, k + d = hN h 3 → lp_X5_dayFees_37 z Q X (d + 1) S2 (A 12 0) (nI i) (nI y) (sm (fun x => if hV h 0 x = i ∧ zo h x = y ∧ ¬ fch h (pl h x) = 0 then 1 else 0) k) (nI k) := by
        intro d
        induction d with
        | zero =>
          intro k hk
          show bk_X5_dayFees_37 z Q X _ S2 _ _ _ _ _
          unfold bk_X5_dayFees_37
          simp (disch := first | assumption | omega | (simp only [hN_sG, hN_sY, hN_sV] <;> first | assumption | omega)) only [rd R2, Option.some.injEq, exists_eq_left', true_and, and_true, and_self, ne_eq, not_false_eq_true, not_true_eq_false, false_and, and_false, if_true, if_false, ite_true, ite_false, vin_0, vin_1, vin_2, vin_n, ncl, lit_0, lit_1, lit_2, lit_3, lit_4, lit_9, nm2, nm3, nm4, nm9, na1, na2, na3, na4, hG_sG, hG_sY, hG_sV, hG_sN, hY_sG, hY_sY, hY_sV, hY_sN, hV_sG, hV_sY, hV_sN, hV_sV, hN_sG, hN_sY, hN_sV, hN_sN, hF_sX, hF_sXr, hF_sF, hX_sF, hX_sX, hX_sXr, Nat.reduceEqDiff, Nat.reduceAdd, er_0, er_1, er_2, er_3, er_4, Nat.zero_lt_succ, forall_const, true_implies, false_implies, imp_self, implies_true, cm C2]
          refine ⟨fun _ => by rw [← hk] at hQ; exact hQ, fun e => absurd ?_ e⟩
          exact nI_le (by omega) (by omega)
        | succ d ih =>
          intro k hk
          show bk_X5_dayFees_37 z Q X (lp_X5_dayFees_37 z Q X (d + 1)) S2 _ _ _ _ _
          have hk3 : k < hN h 3 := by omega
          have hl2 := (W.2.2.2.2.1 k hk3).2.2.1
          obtain ⟨ez, hz⟩ := zo_n W hk3
          have hfn := fch_nb W (pl_spec W hk3).1
          unfold bk_X5_dayFees_37
          simp (disch := first | assumption | omega | (simp only [hN_sG, hN_sY, hN_sV] <;> first | assumption | omega)) only [rd R2, Option.some.injEq, exists_eq_left', true_and, and_true, and_self, ne_eq, not_false_eq_true, not_true_eq_false, false_and, and_false, if_true, if_false, ite_true, ite_false, vin_0, vin_1, vin_2, vin_n, ncl, lit_0, lit_1, lit_2, lit_3, lit_4, lit_9, nm2, nm3, nm4, nm9, na1, na2, na3, na4, hG_sG, hG_sY, hG_sV, hG_sN, hY_sG, hY_sY, hY_sV, hY_sN, hV_sG, hV_sY, hV_sN, hV_sV, hN_sG, hN_sY, hN_sV, hN_sN, hF_sX, hF_sXr, hF_sF, hX_sF, hX_sX, hX_sXr, Nat.reduceEqDiff, Nat.reduceAdd, er_0, er_1, er_2, er_3, er_4, Nat.zero_lt_succ, forall_const, true_implies, false_implies, imp_self, implies_true, cm C2, (MKn W D2 hk3).2.2.2, ez]
          refine ⟨fun e => absurd e (nI_ge (by omega) (by omega)), fun _ => ?_⟩
          have ih1 := ih (k + 1) (by omega)
          have e2 : sm (fun x => if hV h 0 x = i ∧ zo h x = y ∧ ¬ fch h (pl h x) = 0 then (1 : Int32) else 0) (k + 1) = sm (fun x => if hV h 0 x = i ∧ zo h x = y ∧ ¬ fch h (pl h x) = 0 then (1 : Int32) else 0) k + (if hV h 0 k = i ∧ zo h k = y ∧ ¬ fch h (pl h k) = 0 then (1 : Int32) else 0) := rfl
          rw [e2] at ih1
          have no : ¬ (hV h 0 k = i ∧ zo h k = y ∧ ¬ fch h (pl h k) = 0) → bk_X5_dayFees_89 z Q X (lp_X5_dayFees_37 z Q X (d + 1)) S2 (A 12 0) (nI i) (nI y) (nI k) (sm (fun x => if hV h 0 x = i ∧ zo h x = y ∧ ¬ fch h (pl h x) = 0 then (1 : Int32) else 0) k) := by
            intro q
            rw [if_neg q] at ih1
            unfold bk_X5_dayFees_89 bk_X5_dayFees_90
            rintro v rfl v2 rfl
            rw [na1]; exact ih1
          refine ⟨fun g => no fun q => g (by rw [q.1]), fun g1 => ⟨fun g => no fun q => g (by rw [q.2.1]), fun g2 => ⟨fun g => no fun q => q.2.2 ((nb_le0 hfn (by omega)).mp g), fun g => ?_⟩⟩⟩
          have g1 := (nI_eq (by omega) (by omega)).mp g1
          have g2 := (nI_eq (by omega) (by omega)).mp g2
          rw [if_pos ⟨g1, g2, fun q => g (by rw [q]; decide)⟩] at ih1
          unfold bk_X5_dayFees_90
          rintro v rfl v2 rfl
          rw [na1]; exact ih1
      rintro v1 rfl v2 rfl
      exact ⟨hN h 3 + 1, lp (hN h 3) 0 (by omega)⟩
    · unfold bk_X5_dayFees_22
      simp (disch := first | assumption | omega | (simp only [hN_sG, hN_sY, hN_sV] <;> first | assumption | omega)) only [rd R1, Option.some.injEq, exists_eq_left', true_and, and_true, and_self, ne_eq, not_false_eq_true, not_true_eq_false, false_and, and_false, if_true, if_false, ite_true, ite_false, vin_0, vin_1, vin_2, vin_n, ncl, lit_0, lit_1, lit_2, lit_3, lit_4, lit_9, nm2, nm3, nm4, nm9, na1, na2, na3, na4, hG_sG, hG_sY, hG_sV, hG_sN, hY_sG, hY_sY, hY_sV, hY_sN, hV_sG, hV_sY, hV_sN, hV_sV, hN_sG, hN_sY, hN_sV, hN_sN, hF_sX, hF_sXr, hF_sF, hX_sF, hX_sX, hX_sXr, Nat.reduceEqDiff, Nat.reduceAdd, er_0, er_1, er_2, er_3, er_4, Nat.zero_lt_succ, forall_const, true_implies, false_implies, imp_self, implies_true]
      refine MA_no R1 C1 (h0 ?_)
      rintro ⟨i, k, hi, _, hk, rfl⟩
      exact g ⟨nI_le (a := 1) (by omega) (by omega), nI_le (b := 2) (by omega) (by omega)⟩
  · unfold bk_X5_dayFees_22
    simp (disch := first | assumption | omega | (simp only [hN_sG, hN_sY, hN_sV] <;> first | assumption | omega)) only [rd R1, Option.some.injEq, exists_eq_left', true_and, and_true, and_self, ne_eq, not_false_eq_true, not_true_eq_false, false_and, and_false, if_true, if_false, ite_true, ite_false, vin_0, vin_1, vin_2, vin_n, ncl, lit_0, lit_1, lit_2, lit_3, lit_4, lit_9, nm2, nm3, nm4, nm9, na1, na2, na3, na4, hG_sG, hG_sY, hG_sV, hG_sN, hY_sG, hY_sY, hY_sV, hY_sN, hV_sG, hV_sY, hV_sN, hV_sV, hN_sG, hN_sY, hN_sV, hN_sN, hF_sX, hF_sXr, hF_sF, hX_sF, hX_sX, hX_sXr, Nat.reduceEqDiff, Nat.reduceAdd, er_0, er_1, er_2, er_3, er_4, Nat.zero_lt_succ, forall_const, true_implies, false_implies, imp_self, implies_true]
    exact MA_no R1 C1 (h0 fun ⟨i, k, hi, e, _⟩ => g0 i hi e)
theorem dm_ex {c : hC} (W : WF c) : ∀ k, k ≤ hN c 3 → (k = 0 ∧ dm c k = (-1, -1)) ∨ ∃ k', k' < k ∧ dm c k = (nI (hV c 9 k'), prc c k')
  | 0, _ => .inl ⟨rfl, rfl⟩
  | k + 1, hk => by
    refine .inr ?_
    rw [dm_s]
    by_cases g : (dm c k).2 < prc c k
    · rw [if_pos g]; exact ⟨k, by omega, rfl⟩
    · rw [if_neg g]
      rcases dm_ex W k (by omega) with ⟨h1, h2⟩ | ⟨k', h1, h2⟩
      · rw [h2] at g
        refine absurd ?_ g
        exact Int32.lt_of_lt_of_le (show (-1 : Int32) < 0 by decide) (Int32.not_lt.mp (nb_ge (prc_nb W (by omega)) (by omega)))
      · exact ⟨k', by omega, h2⟩
theorem m_dearest {z A w h m u S} (R : RP z A w h m u S) (W : WF h) (C : CM h m) {Q : Int32 → mmS → Prop} {X : String → mmS → Prop} (h1 : MA z A w h u 0 (Q (dm h (hN h 3)).1)) : wp_X5_dearest z S (A 12 0) Q X := by
  have W1 := W.1
  unfold Wn at W1
  unfold wp_X5_dearest
  simp (disch := first | assumption | omega | (simp only [hN_sG, hN_sY, hN_sV] <;> first | assumption | omega)) only [rd R, Option.some.injEq, exists_eq_left', true_and, and_true, and_self, ne_eq, not_false_eq_true, not_true_eq_false, false_and, and_false, if_true, if_false, ite_true, ite_false, vin_0, vin_1, vin_2, vin_n, ncl, lit_0, lit_1, lit_2, lit_3, lit_4, lit_9, nm2, nm3, nm4, nm9, na1, na2, na3, na4, hG_sG, hG_sY, hG_sV, hG_sN, hY_sG, hY_sY, hY_sV, hY_sN, hV_sG, hV_sY, hV_sN, hV_sV, hN_sG, hN_sY, hN_sV, hN_sN, hF_sX, hF_sXr, hF_sF, hX_sF, hX_sX, hX_sXr, Nat.reduceEqDiff, Nat.reduceAdd, er_0, er_1, er_2, er_3, er_4, Nat.zero_lt_succ, forall_const, true_implies, false_implies, imp_self, implies_true]
  refine up_F R (by decide) (by decide) fun S1 R1 => ?_
  have C1 : CM h (hsF m 23 0) := CM_s23 C
  refine ru_mrateAll R1 C1 W fun m2 S2 R2 C2 D2 F2 => ?_
  have hQ := h1 _ S2 R2 C2 (by rw [F2, hF_sF, if_pos rfl])
  have lp : ∀ d k, k + d = hN h 3 → lp_X5_dearest_13 z Q X (d + 1) S2 (A 12 0) (dm h k).1 (nI k) := by
    intro d
    induction d with
    | zero =>
      intro k hk
      show bk_X5_dearest_13 z Q X _ S2 _ _ _
      unfold bk_X5_dearest_13
      simp (disch := first | assumption | omega | (simp only [hN_sG, hN_sY, hN_sV] <;> first | assumption | omega)) only [rd R2, Option.some.injEq, exists_eq_left', true_and, and_true, and_self, ne_eq, not_false_eq_true, not_true_eq_false, false_and, and_false, if_true, if_false, ite_true, ite_false, vin_0, vin_1, vin_2, vin_n, ncl, lit_0, lit_1, lit_2, lit_3, lit_4, lit_9, nm2, nm3, nm4, nm9, na1, na2, na3, na4, hG_sG, hG_sY, hG_sV, hG_sN, hY_sG, hY_sY, hY_sV, hY_sN, hV_sG, hV_sY, hV_sN, hV_sV, hN_sG, hN_sY, hN_sV, hN_sN, hF_sX, hF_sXr, hF_sF, hX_sF, hX_sX, hX_sXr, Nat.reduceEqDiff, Nat.reduceAdd, er_0, er_1, er_2, er_3, er_4, Nat.zero_lt_succ, forall_const, true_implies, false_implies, imp_self, implies_true, cm C2]
      refine ⟨fun _ => by rw [← hk] at hQ; exact hQ, fun e => absurd ?_ e⟩
      exact nI_le (by omega) (by omega)
    | succ d ih =>
      intro k hk
      show bk_X5_dearest_13 z Q X (lp_X5_dearest_13 z Q X (d + 1)) S2 _ _ _
      have hk3 : k < hN h 3 := by omega
      have ho := W.2.2.2.2.2.1 k hk3
      have ih1 := ih (k + 1) (by omega)
      rw [dm_s] at ih1
      have take : (dm h k).2 < prc h k → bk_X5_dearest_46 z Q X (lp_X5_dearest_13 z Q X (d + 1)) S2 (A 12 0) (nI k) := by
        intro g
        rw [if_pos g] at ih1
        unfold bk_X5_dearest_46
        simp (disch := first | assumption | omega | (simp only [hN_sG, hN_sY, hN_sV] <;> first | assumption | omega)) only [rd R2, Option.some.injEq, exists_eq_left', true_and, and_true, and_self, ne_eq, not_false_eq_true, not_true_eq_false, false_and, and_false, if_true, if_false, ite_true, ite_false, vin_0, vin_1, vin_2, vin_n, ncl, lit_0, lit_1, lit_2, lit_3, lit_4, lit_9, nm2, nm3, nm4, nm9, na1, na2, na3, na4, hG_sG, hG_sY, hG_sV, hG_sN, hY_sG, hY_sY, hY_sV, hY_sN, hV_sG, hV_sY, hV_sN, hV_sV, hN_sG, hN_sY, hN_sV, hN_sN, hF_sX, hF_sXr, hF_sF, hX_sF, hX_sX, hX_sXr, Nat.reduceEqDiff, Nat.reduceAdd, er_0, er_1, er_2, er_3, er_4, Nat.zero_lt_succ, forall_const, true_implies, false_implies, imp_self, implies_true, cm C2]
        rintro v rfl
        unfold bk_X5_dearest_53
        rintro v rfl
        rw [na1]; exact ih1
      unfold bk_X5_dearest_13
      simp (disch := first | assumption | omega | (simp only [hN_sG, hN_sY, hN_sV] <;> first | assumption | omega)) only [rd R2, Option.some.injEq, exists_eq_left', true_and, and_true, and_self, ne_eq, not_false_eq_true, not_true_eq_false, false_and, and_false, if_true, if_false, ite_true, ite_false, vin_0, vin_1, vin_2, vin_n, ncl, lit_0, lit_1, lit_2, lit_3, lit_4, lit_9, nm2, nm3, nm4, nm9, na1, na2, na3, na4, hG_sG, hG_sY, hG_sV, hG_sN, hY_sG, hY_sY, hY_sV, hY_sN, hV_sG, hV_sY, hV_sN, hV_sV, hN_sG, hN_sY, hN_sV, hN_sN, hF_sX, hF_sXr, hF_sF, hX_sF, hX_sX, hX_sXr, Nat.reduceEqDiff, Nat.reduceAdd, er_0, er_1, er_2, er_3, er_4, Nat.zero_lt_succ, forall_const, true_implies, false_implies, imp_self, implies_true, cm C2]
      refine ⟨fun e => absurd e (nI_ge (by omega) (by omega)), fun _ => ?_⟩
      rcases dm_ex W k (by omega) with ⟨q1, q2⟩ | ⟨k', q1, q2⟩
      · rw [q2]
        refine ⟨fun _ => take ?_, fun g => absurd rfl g⟩
        rw [q2]
        exact Int32.lt_of_lt_of_le (show (-1 : Int32) < 0 by decide) (Int32.not_lt.mp (nb_ge (prc_nb W hk3) (by omega)))
      · have hk'3 : k' < hN h 3 := by omega
        have ho' := W.2.2.2.2.2.1 k' hk'3
        rw [q2] at take ih1 ⊢
        have em1 : ¬ nI (hV h 9 k') = -1 := nb_m1 ⟨_, Nat.le_refl _, rfl⟩ (by omega)
        refine ⟨fun g => absurd g em1, fun _ => ?_⟩
        simp (disch := first | assumption | omega | (simp only [hN_sG, hN_sY, hN_sV] <;> first | assumption | omega)) only [rd R2, Option.some.injEq, exists_eq_left', true_and, and_true, and_self, ne_eq, not_false_eq_true, not_true_eq_false, false_and, and_false, if_true, if_false, ite_true, ite_false, vin_0, vin_1, vin_2, vin_n, ncl, lit_0, lit_1, lit_2, lit_3, lit_4, lit_9, nm2, nm3, nm4, nm9, na1, na2, na3, na4, hG_sG, hG_sY, hG_sV, hG_sN, hY_sG, hY_sY, hY_sV, hY_sN, hV_sG, hV_sY, hV_sN, hV_sV, hN_sG, hN_sY, hN_sV, hN_sN, hF_sX, hF_sXr, hF_sF, hX_sF, hX_sX, hX_sXr, Nat.reduceEqDiff, Nat.reduceAdd, er_0, er_1, er_2, er_3, er_4, Nat.zero_lt_succ, forall_const, true_implies, false_implies, imp_self, implies_true, cm C2, (D2.2 k hk3).2.2.1, (D2.2 k' hk'3).2.2.1]
        refine ⟨fun g => ?_, fun g => take (Int32.not_le.mp g)⟩
        rw [if_neg (Int32.not_lt.mpr g)] at ih1
        unfold bk_X5_dearest_53
        rintro v rfl
        rw [na1]; exact ih1
  rintro v1 rfl v2 rfl
  exact ⟨hN h 3 + 1, lp (hN h 3) 0 (by omega)⟩
