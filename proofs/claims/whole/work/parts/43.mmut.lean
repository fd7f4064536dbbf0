def MB (z : Nat × Nat) (A : Nat → Nat → Nat) (w : Nat → Nat × Nat) (h : hC) (u : Int64) (c : hC) (e : Int32) (K : mmS → Prop) : Prop := ∀ m' S', RP z A w h m' u S' → CM c m' → hF m' 23 = e → K S'
theorem MB_no {z A w h m u S} (R : RP z A w h m u S) {c : hC} (C : CM c m) {e : Int32} {Q : Int32 → mmS → Prop} {X : String → mmS → Prop} (hK : MB z A w h u c e (Q 0)) : wp_X5_fail z S (A 12 0) e Q X :=
  ru_fail R fun S1 R1 => hK _ S1 R1 (CM_s23 C) (by rw [hF_sF, if_pos rfl])
theorem hF_ne {m : hM} {f f' : Nat} {v : Int32} (h : f' ≠ f) : hF (hsF m f v) f' = hF m f' := by rw [hF_sF, if_neg h]
theorem CM_zone {c : hC} {m : hM} (C : CM c m) {t k : Nat} (hk : k = 1 ∨ k = 2) {r f : Int32} : CM (cZ c t k r f) (hsX (hsX m 0 (9 * t + 3 + 2 * k) r) 0 (9 * t + 3 + 2 * k + 1) f) := by
  obtain ⟨a, b, d, e, f', g, h1, h2, h3, h4, h5⟩ := C
  have eX : ∀ f' j', f' ≠ 0 → hX (hsX (hsX m 0 (9 * t + 3 + 2 * k) r) 0 (9 * t + 3 + 2 * k + 1) f) f' j' = hX m f' j' := by
    intro f' j' h; rw [hX_ne h, hX_ne h]
  have e0 : ∀ j', j' ≠ 9 * t + 3 + 2 * k → j' ≠ 9 * t + 3 + 2 * k + 1 → hX (hsX (hsX m 0 (9 * t + 3 + 2 * k) r) 0 (9 * t + 3 + 2 * k + 1) f) 0 j' = hX m 0 j' := by
    intro j' n1 n2; rw [hX_sX, if_neg (fun q => n2 q.2), hX_sX, if_neg (fun q => n1 q.2)]
  refine ⟨a, b, d, e, f', g, fun t' ht => ?_, fun t' ht => ?_, fun x hx => ?_, fun x hx => ?_, fun x hx => ?_⟩
  · obtain ⟨b1, b2, b3, b4, b5, b6⟩ := h1 t' ht
    refine ⟨?_, ?_, ?_, ?_, ?_, fun q hq => ⟨?_, ?_⟩⟩
    · rw [e0 _ (by omega) (by omega)]; exact b1
    · rw [e0 _ (by omega) (by omega)]; exact b2
    · rw [e0 _ (by omega) (by omega)]; exact b3
    · rw [e0 _ (by omega) (by omega)]; exact b4
    · rw [e0 _ (by omega) (by omega)]; exact b5
    · rw [hY_sY, if_neg (fun q => absurd q.1 (by decide)), hY_sY]
      by_cases e : t' = t ∧ q = k
      · rw [if_pos ⟨rfl, e⟩, e.1, e.2, hX_sX, if_neg (fun q => by omega), hX_sX, if_pos ⟨rfl, rfl⟩]
      · rw [if_neg (fun q => e q.2), e0 _ (by omega) (by omega)]; exact (b6 q hq).1
    · rw [hY_sY]
      by_cases e : t' = t ∧ q = k
      · rw [if_pos ⟨rfl, e⟩, e.1, e.2, hX_sX, if_pos ⟨rfl, by omega⟩]
      · rw [if_neg (fun q => e q.2), hY_sY, if_neg (fun q => absurd q.1 (by decide)), e0 _ (by omega) (by omega)]; exact (b6 q hq).2
  · rw [eX _ _ (by decide), eX _ _ (by decide), eX _ _ (by decide)]; exact h2 t' ht
  · rw [eX _ _ (by decide), eX _ _ (by decide)]; exact h3 x hx
  · rw [eX _ _ (by decide), eX _ _ (by decide), eX _ _ (by decide), eX _ _ (by decide)]; exact h4 x hx
  · rw [eX _ _ (by decide)]; exact h5 x hx
theorem m_setZone {z A w h m u S} (R : RP z A w h m u S) {c : hC} (W : WF c) (C : CM c m) {p q r f : Int32} {Q : Int32 → mmS → Prop} {X : String → mmS → Prop}
    (h1 : ∀ t, t < hN c 0 → p = nI t → ∀ k, k = 1 ∨ k = 2 → q = nI k → nb r 10000 ∧ nb f 10000 → MB z A w h u (cZ c t k r f) 0 (Q (hY c 4 t k)))
    (h2 : (¬ ∃ t k, t < hN c 0 ∧ p = nI t ∧ (k = 1 ∨ k = 2) ∧ q = nI k) → MB z A w h u c 1 (Q 0)) (h3 : ∀ t, t < hN c 0 → p = nI t → ∀ k, k = 1 ∨ k = 2 → q = nI k → ¬ (nb r 10000 ∧ nb f 10000) → MB z A w h u c 2 (Q 0)) : wp_X5_setZone z S (A 12 0) p q r f Q X := by
  have W1 := W.1
  unfold Wn at W1
  unfold wp_X5_setZone
  simp (disch := first | assumption | omega | (simp only [hN_sG, hN_sY, hN_sV] <;> first | assumption | omega)) only [rd R, Option.some.injEq, exists_eq_left', true_and, and_true, and_self, ne_eq, not_false_eq_true, not_true_eq_false, false_and, and_false, if_true, if_false, ite_true, ite_false, vin_0, vin_1, vin_2, vin_n, ncl, lit_0, lit_1, lit_2, lit_3, lit_4, lit_9, nm2, nm3, nm4, nm9, na1, na2, na3, na4, hG_sG, hG_sY, hG_sV, hG_sN, hY_sG, hY_sY, hY_sV, hY_sN, hV_sG, hV_sY, hV_sN, hV_sV, hN_sG, hN_sY, hN_sV, hN_sN, hF_sX, hF_sXr, hF_sF, hX_sF, hX_sX, hX_sXr, Nat.reduceEqDiff, Nat.reduceAdd, er_0, er_1, er_2, er_3, er_4, Nat.zero_lt_succ, forall_const, true_implies, false_implies, imp_self, implies_true]
  refine up_F R (by decide) (by decide) fun S1 R1 => ?_
  have C1 : CM c (hsF m 23 0) := CM_s23 C
  refine ru_isTariff R1 W C1 (fun t ht e => ⟨fun g => absurd g (by decide), fun _ => ?_⟩) (fun g0 => ⟨fun _ => ?_, fun g => absurd rfl g⟩)
  · refine ru_in1 2 rfl (by decide) (fun g => ⟨fun _ => ?_, fun q => absurd q (by decide)⟩) (fun g => ⟨fun q => absurd rfl q, fun _ => ?_⟩)
    · obtain ⟨k, hk, e2⟩ := zn_iff.mp g
      have h3 := h3 t ht e k hk e2
      have bad : ¬ (nb r 10000 ∧ nb f 10000) → bk_X5_setZone_51 z Q X S1 (A 12 0) := by
        intro g
        unfold bk_X5_setZone_51
        simp (disch := first | assumption | omega | (simp only [hN_sG, hN_sY, hN_sV] <;> first | assumption | omega)) only [rd R1, Option.some.injEq, exists_eq_left', true_and, and_true, and_self, ne_eq, not_false_eq_true, not_true_eq_false, false_and, and_false, if_true, if_false, ite_true, ite_false, vin_0, vin_1, vin_2, vin_n, ncl, lit_0, lit_1, lit_2, lit_3, lit_4, lit_9, nm2, nm3, nm4, nm9, na1, na2, na3, na4, hG_sG, hG_sY, hG_sV, hG_sN, hY_sG, hY_sY, hY_sV, hY_sN, hV_sG, hV_sY, hV_sN, hV_sV, hN_sG, hN_sY, hN_sV, hN_sN, hF_sX, hF_sXr, hF_sF, hX_sF, hX_sX, hX_sXr, Nat.reduceEqDiff, Nat.reduceAdd, er_0, er_1, er_2, er_3, er_4, Nat.zero_lt_succ, forall_const, true_implies, false_implies, imp_self, implies_true]
        exact MB_no R1 C1 (h3 g)
      refine ru_in0 10000 rfl (by decide) (fun g1 => ⟨fun q => absurd q (by decide), fun _ => ?_⟩) (fun g1 => ⟨fun _ => bad fun q => g1 q.1, fun q => absurd rfl q⟩)
      refine ru_in0 10000 rfl (by decide) (fun g2 => ⟨fun _ => ?_, fun q => absurd q (by decide)⟩) (fun g2 => ⟨fun q => absurd rfl q, fun _ => bad fun q => g2 q.2⟩)
      have hQ := h1 t ht e k hk e2 ⟨g1, g2⟩
      subst e; subst e2
      rintro v11 rfl
      have cmq := (C1.2.2.2.2.2.2.1 t ht).2.2.2.2.2 k hk
      simp (disch := first | assumption | omega | (simp only [hN_sG, hN_sY, hN_sV] <;> first | assumption | omega)) only [rd R1, Option.some.injEq, exists_eq_left', true_and, and_true, and_self, ne_eq, not_false_eq_true, not_true_eq_false, false_and, and_false, if_true, if_false, ite_true, ite_false, vin_0, vin_1, vin_2, vin_n, ncl, lit_0, lit_1, lit_2, lit_3, lit_4, lit_9, nm2, nm3, nm4, nm9, na1, na2, na3, na4, hG_sG, hG_sY, hG_sV, hG_sN, hY_sG, hY_sY, hY_sV, hY_sN, hV_sG, hV_sY, hV_sN, hV_sV, hN_sG, hN_sY, hN_sV, hN_sN, hF_sX, hF_sXr, hF_sF, hX_sF, hX_sX, hX_sXr, Nat.reduceEqDiff, Nat.reduceAdd, er_0, er_1, er_2, er_3, er_4, Nat.zero_lt_succ, forall_const, true_implies, false_implies, imp_self, implies_true, cm C1, nI_add, cmq.1]
      have hX0 : hX (hsF m 23 0) 0 (9 * t + 3 + 2 * k) = hY c 4 t k := cmq.1
      rintro v17 rfl
      refine up_X R1 (by decide) fun S2 R2 => ?_
      simp (disch := first | assumption | omega | (simp only [hN_sG, hN_sY, hN_sV] <;> first | assumption | omega)) only [rd R2, Option.some.injEq, exists_eq_left', true_and, and_true, and_self, ne_eq, not_false_eq_true, not_true_eq_false, false_and, and_false, if_true, if_false, ite_true, ite_false, vin_0, vin_1, vin_2, vin_n, ncl, lit_0, lit_1, lit_2, lit_3, lit_4, lit_9, nm2, nm3, nm4, nm9, na1, na2, na3, na4, hG_sG, hG_sY, hG_sV, hG_sN, hY_sG, hY_sY, hY_sV, hY_sN, hV_sG, hV_sY, hV_sN, hV_sV, hN_sG, hN_sY, hN_sV, hN_sN, hF_sX, hF_sXr, hF_sF, hX_sF, hX_sX, hX_sXr, Nat.reduceEqDiff, Nat.reduceAdd, er_0, er_1, er_2, er_3, er_4, Nat.zero_lt_succ, forall_const, true_implies, false_implies, imp_self, implies_true]
      refine up_X R2 (by decide) fun S3 R3 => ?_
      exact hQ _ S3 R3 (CM_zone C1 hk) (by rw [hF_sX, hF_sX, hF_sF, if_pos rfl])
    · unfold bk_X5_setZone_22
      simp (disch := first | assumption | omega | (simp only [hN_sG, hN_sY, hN_sV] <;> first | assumption | omega)) only [rd R1, Option.some.injEq, exists_eq_left', true_and, and_true, and_self, ne_eq, not_false_eq_true, not_true_eq_false, false_and, and_false, if_true, if_false, ite_true, ite_false, vin_0, vin_1, vin_2, vin_n, ncl, lit_0, lit_1, lit_2, lit_3, lit_4, lit_9, nm2, nm3, nm4, nm9, na1, na2, na3, na4, hG_sG, hG_sY, hG_sV, hG_sN, hY_sG, hY_sY, hY_sV, hY_sN, hV_sG, hV_sY, hV_sN, hV_sV, hN_sG, hN_sY, hN_sV, hN_sN, hF_sX, hF_sXr, hF_sF, hX_sF, hX_sX, hX_sXr, Nat.reduceEqDiff, Nat.reduceAdd, er_0, er_1, er_2, er_3, er_4, Nat.zero_lt_succ, forall_const, true_implies, false_implies, imp_self, implies_true]
      refine MB_no R1 C1 (h2 ?_)
      rintro ⟨t, k, _, _, hk, e2⟩
      exact g (zn_iff.mpr ⟨k, hk, e2⟩)
  · unfold bk_X5_setZone_22
    simp (disch := first | assumption | omega | (simp only [hN_sG, hN_sY, hN_sV] <;> first | assumption | omega)) only [rd R1, Option.some.injEq, exists_eq_left', true_and, and_true, and_self, ne_eq, not_false_eq_true, not_true_eq_false, false_and, and_false, if_true, if_false, ite_true, ite_false, vin_0, vin_1, vin_2, vin_n, ncl, lit_0, lit_1, lit_2, lit_3, lit_4, lit_9, nm2, nm3, nm4, nm9, na1, na2, na3, na4, hG_sG, hG_sY, hG_sV, hG_sN, hY_sG, hY_sY, hY_sV, hY_sN, hV_sG, hV_sY, hV_sN, hV_sV, hN_sG, hN_sY, hN_sV, hN_sN, hF_sX, hF_sXr, hF_sF, hX_sF, hX_sX, hX_sXr, Nat.reduceEqDiff, Nat.reduceAdd, er_0, er_1, er_2, er_3, er_4, Nat.zero_lt_succ, forall_const, true_implies, false_implies, imp_self, implies_true]
    exact MB_no R1 C1 (h2 fun ⟨t, k, ht, e, _⟩ => g0 t ht e)
theorem CM_peak {c : hC} {m : hM} (C : CM c m) {p q : Int32} : CM (hsG (hsG c 21 0 p) 22 0 q) (hsF (hsF m 28 p) 29 q) := by
  unfold CM at *
  simp only [hG_sG, hV_sG, hN_sG, hY_sG, hF_sF, hX_sF, Nat.reduceEqDiff, false_and, and_false, if_false, if_true, true_and, and_self]
  obtain ⟨a, b, d, e, f, g, h⟩ := C
  exact ⟨a, b, d, e, h⟩
theorem m_setPeak {z A w h m u S} (R : RP z A w h m u S) {c : hC} (C : CM c m) {p q : Int32} {Q : Int32 → mmS → Prop} {X : String → mmS → Prop}
    (h1 : nb p 1439 ∧ nb q 1439 ∧ p ≤ q → ∀ v, (v = if p = hG c 21 0 ∧ q = hG c 22 0 then 0 else 1) → MB z A w h u (hsG (hsG c 21 0 p) 22 0 q) 0 (Q v))
    (h3 : ¬ (nb p 1439 ∧ nb q 1439 ∧ p ≤ q) → MB z A w h u c 1 (Q 0)) : wp_X5_setPeak z S (A 12 0) p q Q X := by
  have bad : ¬ (nb p 1439 ∧ nb q 1439 ∧ p ≤ q) → bk_X5_setPeak_27 z Q X S (A 12 0) p q (A 12 0) := by
    intro g
    unfold bk_X5_setPeak_27 bk_X5_setPeak_28
    simp (disch := first | assumption | omega | (simp only [hN_sG, hN_sY, hN_sV] <;> first | assumption | omega)) only [rd R, Option.some.injEq, exists_eq_left', true_and, and_true, and_self, ne_eq, not_false_eq_true, not_true_eq_false, false_and, and_false, if_true, if_false, ite_true, ite_false, vin_0, vin_1, vin_2, vin_n, ncl, lit_0, lit_1, lit_2, lit_3, lit_4, lit_9, nm2, nm3, nm4, nm9, na1, na2, na3, na4, hG_sG, hG_sY, hG_sV, hG_sN, hY_sG, hY_sY, hY_sV, hY_sN, hV_sG, hV_sY, hV_sN, hV_sV, hN_sG, hN_sY, hN_sV, hN_sN, hF_sX, hF_sXr, hF_sF, hX_sF, hX_sX, hX_sXr, Nat.reduceEqDiff, Nat.reduceAdd, er_0, er_1, er_2, er_3, er_4, Nat.zero_lt_succ, forall_const, true_implies, false_implies, imp_self, implies_true]
    refine up_F R (by decide) (by decide) fun S1 R1 => ?_
    have hne : ¬ (1 : Int32) = 0 := by decide
    simp (disch := first | assumption | omega | (simp only [hN_sG, hN_sY, hN_sV] <;> first | assumption | omega)) only [rd R1, Option.some.injEq, exists_eq_left', true_and, and_true, and_self, ne_eq, not_false_eq_true, not_true_eq_false, false_and, and_false, if_true, if_false, ite_true, ite_false, vin_0, vin_1, vin_2, vin_n, ncl, lit_0, lit_1, lit_2, lit_3, lit_4, lit_9, nm2, nm3, nm4, nm9, na1, na2, na3, na4, hG_sG, hG_sY, hG_sV, hG_sN, hY_sG, hY_sY, hY_sV, hY_sN, hV_sG, hV_sY, hV_sN, hV_sV, hN_sG, hN_sY, hN_sV, hN_sN, hF_sX, hF_sXr, hF_sF, hX_sF, hX_sX, hX_sXr, Nat.reduceEqDiff, Nat.reduceAdd, er_0, er_1, er_2, er_3, er_4, Nat.zero_lt_succ, forall_const, true_implies, false_implies, imp_self, implies_true, hne]
    exact h3 g _ S1 R1 (CM_s23 C) (by rw [hF_sF, if_pos rfl])
  unfold wp_X5_setPeak
  refine ru_in0 1439 rfl (by decide) (fun g1 => ⟨fun q => absurd q (by decide), fun _ => ?_⟩) (fun g1 => ⟨fun _ => bad fun q => g1 q.1, fun q => absurd rfl q⟩)
  refine ru_isIn (fun g2 => ⟨fun q => absurd q (by decide), fun _ => ?_⟩) (fun g2 => ⟨fun _ => bad fun g => g2 ⟨g.2.2, ((nb_iff (M := 1439) (B := 1439) rfl (by decide)).mpr g.2.1).2⟩, fun q => absurd rfl q⟩)
  have hq : nb q 1439 := (nb_iff (M := 1439) (B := 1439) rfl (by decide)).mp ⟨Int32.le_trans ((nb_iff (M := 1439) (B := 1439) rfl (by decide)).mpr g1).1 g2.1, g2.2⟩
  have h1 := h1 ⟨g1, hq, g2.1⟩
  unfold bk_X5_setPeak_28
  simp (disch := first | assumption | omega | (simp only [hN_sG, hN_sY, hN_sV] <;> first | assumption | omega)) only [rd R, Option.some.injEq, exists_eq_left', true_and, and_true, and_self, ne_eq, not_false_eq_true, not_true_eq_false, false_and, and_false, if_true, if_false, ite_true, ite_false, vin_0, vin_1, vin_2, vin_n, ncl, lit_0, lit_1, lit_2, lit_3, lit_4, lit_9, nm2, nm3, nm4, nm9, na1, na2, na3, na4, hG_sG, hG_sY, hG_sV, hG_sN, hY_sG, hY_sY, hY_sV, hY_sN, hV_sG, hV_sY, hV_sN, hV_sV, hN_sG, hN_sY, hN_sV, hN_sN, hF_sX, hF_sXr, hF_sF, hX_sF, hX_sX, hX_sXr, Nat.reduceEqDiff, Nat.reduceAdd, er_0, er_1, er_2, er_3, er_4, Nat.zero_lt_succ, forall_const, true_implies, false_implies, imp_self, implies_true]
  refine up_F R (by decide) (by decide) fun S1 R1 => ?_
  have C1 : CM c (hsF m 23 0) := CM_s23 C
  have fin : ∀ t0, mBo t0 → (t0 = if p = hG c 21 0 ∧ q = hG c 22 0 then 0 else 1) → bk_X5_setPeak_61 z Q X S1 (A 12 0) p q t0 := by
    intro t0 ht0 e
    unfold bk_X5_setPeak_61
    simp (disch := first | assumption | omega | (simp only [hN_sG, hN_sY, hN_sV] <;> first | assumption | omega)) only [rd R1, Option.some.injEq, exists_eq_left', true_and, and_true, and_self, ne_eq, not_false_eq_true, not_true_eq_false, false_and, and_false, if_true, if_false, ite_true, ite_false, vin_0, vin_1, vin_2, vin_n, ncl, lit_0, lit_1, lit_2, lit_3, lit_4, lit_9, nm2, nm3, nm4, nm9, na1, na2, na3, na4, hG_sG, hG_sY, hG_sV, hG_sN, hY_sG, hY_sY, hY_sV, hY_sN, hV_sG, hV_sY, hV_sN, hV_sV, hN_sG, hN_sY, hN_sV, hN_sN, hF_sX, hF_sXr, hF_sF, hX_sF, hX_sX, hX_sXr, Nat.reduceEqDiff, Nat.reduceAdd, er_0, er_1, er_2, er_3, er_4, Nat.zero_lt_succ, forall_const, true_implies, false_implies, imp_self, implies_true]
    refine up_F R1 (by decide) (by decide) fun S2 R2 => ?_
    refine up_F R2 (by decide) (by decide) fun S3 R3 => ?_
    exact ⟨ht0, h1 t0 e _ S3 R3 (CM_peak C1) (by rw [hF_ne (by decide), hF_ne (by decide), hF_sF, if_pos rfl])⟩
  have e28 : hF m 28 = hG c 21 0 := C.2.2.2.2.1
  have e29 : hF m 29 = hG c 22 0 := C.2.2.2.2.2.1
  simp (disch := first | assumption | omega | (simp only [hN_sG, hN_sY, hN_sV] <;> first | assumption | omega)) only [rd R1, Option.some.injEq, exists_eq_left', true_and, and_true, and_self, ne_eq, not_false_eq_true, not_true_eq_false, false_and, and_false, if_true, if_false, ite_true, ite_false, vin_0, vin_1, vin_2, vin_n, ncl, lit_0, lit_1, lit_2, lit_3, lit_4, lit_9, nm2, nm3, nm4, nm9, na1, na2, na3, na4, hG_sG, hG_sY, hG_sV, hG_sN, hY_sG, hY_sY, hY_sV, hY_sN, hV_sG, hV_sY, hV_sN, hV_sV, hN_sG, hN_sY, hN_sV, hN_sN, hF_sX, hF_sXr, hF_sF, hX_sF, hX_sX, hX_sXr, Nat.reduceEqDiff, Nat.reduceAdd, er_0, er_1, er_2, er_3, er_4, Nat.zero_lt_succ, forall_const, true_implies, false_implies, imp_self, implies_true, e28, e29]
  refine ⟨fun e => ?_, fun e => ⟨fun e2 => ?_, fun e2 => ?_⟩⟩
  · unfold bk_X5_setPeak_56
    exact fin 1 mBo_1 (if_neg fun q => e q.1).symm
  · exact fin 0 mBo_0 (if_pos ⟨e, e2⟩).symm
  · unfold bk_X5_setPeak_56
    exact fin 1 mBo_1 (if_neg fun q => e2 q.2).symm
theorem m_setTariff {z A w h m u S} (R : RP z A w h m u S) {c : hC} (W : WF c) (C : CM c m) {p q : Int32} {Q : Int32 → mmS → Prop} {X : String → mmS → Prop}
    (h1 : ∀ l, l < hN c 2 → p = nI l → ∀ t, t < hN c 0 → q = nI t → MB z A w h u (hsV c 2 l t) 0 (Q (nI (hV c 2 l))))
    (h0 : (¬ ∃ l t, l < hN c 2 ∧ p = nI l ∧ t < hN c 0 ∧ q = nI t) → MB z A w h u c 1 (Q 0)) : wp_X5_setTariff z S (A 12 0) p q Q X := by
  have W1 := W.1
  unfold Wn at W1
  unfold wp_X5_setTariff
  simp (disch := first | assumption | omega | (simp only [hN_sG, hN_sY, hN_sV] <;> first | assumption | omega)) only [rd R, Option.some.injEq, exists_eq_left', true_and, and_true, and_self, ne_eq, not_false_eq_true, not_true_eq_false, false_and, and_false, if_true, if_false, ite_true, ite_false, vin_0, vin_1, vin_2, vin_n, ncl, lit_0, lit_1, lit_2, lit_3, lit_4, lit_9, nm2, nm3, nm4, nm9, na1, na2, na3, na4, hG_sG, hG_sY, hG_sV, hG_sN, hY_sG, hY_sY, hY_sV, hY_sN, hV_sG, hV_sY, hV_sN, hV_sV, hN_sG, hN_sY, hN_sV, hN_sN, hF_sX, hF_sXr, hF_sF, hX_sF, hX_sX, hX_sXr, Nat.reduceEqDiff, Nat.reduceAdd, er_0, er_1, er_2, er_3, er_4, Nat.zero_lt_succ, forall_const, true_implies, false_implies, imp_self, implies_true]
  refine up_F R (by decide) (by decide) fun S1 R1 => ?_
  have C1 : CM c (hsF m 23 0) := CM_s23 C
  refine ru_isLine R1 W C1 (fun l hl e => ⟨fun g => absurd g (by decide), fun _ => ?_⟩) (fun g0 => ⟨fun _ => ?_, fun g => absurd rfl g⟩)
  · simp (disch := first | assumption | omega | (simp only [hN_sG, hN_sY, hN_sV] <;> first | assumption | omega)) only [rd R1, Option.some.injEq, exists_eq_left', true_and, and_true, and_self, ne_eq, not_false_eq_true, not_true_eq_false, false_and, and_false, if_true, if_false, ite_true, ite_false, vin_0, vin_1, vin_2, vin_n, ncl, lit_0, lit_1, lit_2, lit_3, lit_4, lit_9, nm2, nm3, nm4, nm9, na1, na2, na3, na4, hG_sG, hG_sY, hG_sV, hG_sN, hY_sG, hY_sY, hY_sV, hY_sN, hV_sG, hV_sY, hV_sN, hV_sV, hN_sG, hN_sY, hN_sV, hN_sN, hF_sX, hF_sXr, hF_sF, hX_sF, hX_sX, hX_sXr, Nat.reduceEqDiff, Nat.reduceAdd, er_0, er_1, er_2, er_3, er_4, Nat.zero_lt_succ, forall_const, true_implies, false_implies, imp_self, implies_true]
    refine ru_isTariff R1 W C1 (fun t ht e2 => ⟨fun _ => ?_, fun g => absurd g (by decide)⟩) (fun g0 => ⟨fun g => absurd rfl g, fun _ => ?_⟩)
    · have hQ := h1 l hl e t ht e2
      subst e; subst e2
      simp (disch := first | assumption | omega | (simp only [hN_sG, hN_sY, hN_sV] <;> first | assumption | omega)) only [rd R1, Option.some.injEq, exists_eq_left', true_and, and_true, and_self, ne_eq, not_false_eq_true, not_true_eq_false, false_and, and_false, if_true, if_false, ite_true, ite_false, vin_0, vin_1, vin_2, vin_n, ncl, lit_0, lit_1, lit_2, lit_3, lit_4, lit_9, nm2, nm3, nm4, nm9, na1, na2, na3, na4, hG_sG, hG_sY, hG_sV, hG_sN, hY_sG, hY_sY, hY_sV, hY_sN, hV_sG, hV_sY, hV_sN, hV_sV, hN_sG, hN_sY, hN_sV, hN_sN, hF_sX, hF_sXr, hF_sF, hX_sF, hX_sX, hX_sXr, Nat.reduceEqDiff, Nat.reduceAdd, er_0, er_1, er_2, er_3, er_4, Nat.zero_lt_succ, forall_const, true_implies, false_implies, imp_self, implies_true, cm C1, (C1.2.2.2.2.2.2.2.2.1 l hl).2]
      have e3 : hX (hsF m 23 0) 3 l = nI (hV c 2 l) := (C1.2.2.2.2.2.2.2.2.1 l hl).2
      rw [hX_sF] at e3
      try rw [e3]
      rintro v13 rfl
      refine up_X R1 (by decide) fun S2 R2 => ?_
      exact hQ _ S2 R2 (CM_plan C1) (by rw [hF_sX, hF_sF, if_pos rfl])
    · unfold bk_X5_setTariff_21
      simp (disch := first | assumption | omega | (simp only [hN_sG, hN_sY, hN_sV] <;> first | assumption | omega)) only [rd R1, Option.some.injEq, exists_eq_left', true_and, and_true, and_self, ne_eq, not_false_eq_true, not_true_eq_false, false_and, and_false, if_true, if_false, ite_true, ite_false, vin_0, vin_1, vin_2, vin_n, ncl, lit_0, lit_1, lit_2, lit_3, lit_4, lit_9, nm2, nm3, nm4, nm9, na1, na2, na3, na4, hG_sG, hG_sY, hG_sV, hG_sN, hY_sG, hY_sY, hY_sV, hY_sN, hV_sG, hV_sY, hV_sN, hV_sV, hN_sG, hN_sY, hN_sV, hN_sN, hF_sX, hF_sXr, hF_sF, hX_sF, hX_sX, hX_sXr, Nat.reduceEqDiff, Nat.reduceAdd, er_0, er_1, er_2, er_3, er_4, Nat.zero_lt_succ, forall_const, true_implies, false_implies, imp_self, implies_true]
      exact MB_no R1 C1 (h0 fun ⟨l, t, _, _, ht, e2⟩ => g0 t ht e2)
  · unfold bk_X5_setTariff_21
    simp (disch := first | assumption | omega | (simp only [hN_sG, hN_sY, hN_sV] <;> first | assumption | omega)) only [rd R1, Option.some.injEq, exists_eq_left', true_and, and_true, and_self, ne_eq, not_false_eq_true, not_true_eq_false, false_and, and_false, if_true, if_false, ite_true, ite_false, vin_0, vin_1, vin_2, vin_n, ncl, lit_0, lit_1, lit_2, lit_3, lit_4, lit_9, nm2, nm3, nm4, nm9, na1, na2, na3, na4, hG_sG, hG_sY, hG_sV, hG_sN, hY_sG, hY_sY, hY_sV, hY_sN, hV_sG, hV_sY, hV_sN, hV_sV, hN_sG, hN_sY, hN_sV, hN_sN, hF_sX, hF_sXr, hF_sF, hX_sF, hX_sX, hX_sXr, Nat.reduceEqDiff, Nat.reduceAdd, er_0, er_1, er_2, er_3, er_4, Nat.zero_lt_succ, forall_const, true_implies, false_implies, imp_self, implies_true]
    exact MB_no R1 C1 (h0 fun ⟨l, t, hl, e, _⟩ => g0 l hl e)
theorem CM_bundle {c : hC} {m : hM} (C : CM c m) {a : Nat} {b : Int32} : CM (hsG c 2 a b) (hsX m 1 (3 * a) b) := by
  obtain ⟨x1, x2, x3, x4, x5, x6, h1, h2, h3, h4, h5⟩ := C
  refine ⟨x1, x2, x3, x4, ?_, ?_, fun t' ht => ?_, fun t' ht => ?_, fun x hx => ?_, fun x hx => ?_, fun x hx => ?_⟩
  · rw [hG_sG, if_neg (fun q => absurd q.1 (by decide))]; exact x5
  · rw [hG_sG, if_neg (fun q => absurd q.1 (by decide))]; exact x6
  · simp only [hG_sG, Nat.reduceEqDiff, false_and, if_false, hY_sG, hX_sX]; exact h1 t' ht
  · simp only [hG_sG, Nat.reduceEqDiff, false_and, if_false, true_and, hX_sX]
    rw [if_neg (show ¬ 3 * t' + 1 = 3 * a by omega), if_neg (show ¬ 3 * t' + 2 = 3 * a by omega)]
    refine ⟨?_, (h2 t' ht).2⟩
    by_cases e : t' = a
    · rw [if_pos e, if_pos (by omega)]
    · rw [if_neg e, if_neg (by omega)]; exact (h2 t' ht).1
  · simp only [hV_sG, hX_sX, Nat.reduceEqDiff, false_and, if_false]; exact h3 x hx
  · simp only [hG_sG, hV_sG, hX_sX, Nat.reduceEqDiff, false_and, if_false]; exact h4 x hx
  · simp only [hV_sG, hX_sX, Nat.reduceEqDiff, false_and, if_false]; exact h5 x hx
theorem m_setBundle {z A w h m u S} (R : RP z A w h m u S) {c : hC} (W : WF c) (C : CM c m) {p q : Int32} {Q : Int32 → mmS → Prop} {X : String → mmS → Prop}
    (h1 : ∀ a, a < hN c 1 → p = nI a → nb q 100000 → MB z A w h u (hsG c 2 a q) 0 (Q (hG c 2 a)))
    (h2 : (∀ a, a < hN c 1 → p ≠ nI a) → MB z A w h u c 1 (Q 0)) (h3 : ∀ a, a < hN c 1 → p = nI a → ¬ nb q 100000 → MB z A w h u c 2 (Q 0)) : wp_X5_setBundle z S (A 12 0) p q Q X := by
  have W1 := W.1
  unfold Wn at W1
  unfold wp_X5_setBundle
  simp (disch := first | assumption | omega | (simp only [hN_sG, hN_sY, hN_sV] <;> first | assumption | omega)) only [rd R, Option.some.injEq, exists_eq_left', true_and, and_true, and_self, ne_eq, not_false_eq_true, not_true_eq_false, false_and, and_false, if_true, if_false, ite_true, ite_false, vin_0, vin_1, vin_2, vin_n, ncl, lit_0, lit_1, lit_2, lit_3, lit_4, lit_9, nm2, nm3, nm4, nm9, na1, na2, na3, na4, hG_sG, hG_sY, hG_sV, hG_sN, hY_sG, hY_sY, hY_sV, hY_sN, hV_sG, hV_sY, hV_sN, hV_sV, hN_sG, hN_sY, hN_sV, hN_sN, hF_sX, hF_sXr, hF_sF, hX_sF, hX_sX, hX_sXr, Nat.reduceEqDiff, Nat.reduceAdd, er_0, er_1, er_2, er_3, er_4, Nat.zero_lt_succ, forall_const, true_implies, false_implies, imp_self, implies_true]
  refine up_F R (by decide) (by decide) fun S1 R1 => ?_
  have C1 : CM c (hsF m 23 0) := CM_s23 C
  refine ru_isAccount R1 W C1 (fun a ha e => ⟨fun _ => ?_, fun g => absurd g (by decide)⟩) (fun g0 => ⟨fun g => absurd rfl g, fun _ => ?_⟩)
  · refine ru_in0 100000 rfl (by decide) (fun g1 => ⟨fun _ => ?_, fun q => absurd q (by decide)⟩) (fun g1 => ⟨fun q => absurd rfl q, fun _ => ?_⟩)
    · have hQ := h1 a ha e g1
      subst e
      simp (disch := first | assumption | omega | (simp only [hN_sG, hN_sY, hN_sV] <;> first | assumption | omega)) only [rd R1, Option.some.injEq, exists_eq_left', true_and, and_true, and_self, ne_eq, not_false_eq_true, not_true_eq_false, false_and, and_false, if_true, if_false, ite_true, ite_false, vin_0, vin_1, vin_2, vin_n, ncl, lit_0, lit_1, lit_2, lit_3, lit_4, lit_9, nm2, nm3, nm4, nm9, na1, na2, na3, na4, hG_sG, hG_sY, hG_sV, hG_sN, hY_sG, hY_sY, hY_sV, hY_sN, hV_sG, hV_sY, hV_sN, hV_sV, hN_sG, hN_sY, hN_sV, hN_sN, hF_sX, hF_sXr, hF_sF, hX_sF, hX_sX, hX_sXr, Nat.reduceEqDiff, Nat.reduceAdd, er_0, er_1, er_2, er_3, er_4, Nat.zero_lt_succ, forall_const, true_implies, false_implies, imp_self, implies_true, cm C1]
      have e3 : hX (hsF m 23 0) 1 (3 * a) = hG c 2 a := (C1.2.2.2.2.2.2.2.1 a ha).1
      rw [hX_sF] at e3
      try rw [e3]
      rintro v13 rfl
      refine up_X R1 (by decide) fun S2 R2 => ?_
      exact hQ _ S2 R2 (CM_bundle C1) (by rw [hF_sX, hF_sF, if_pos rfl])
    · simp (disch := first | assumption | omega | (simp only [hN_sG, hN_sY, hN_sV] <;> first | assumption | omega)) only [rd R1, Option.some.injEq, exists_eq_left', true_and, and_true, and_self, ne_eq, not_false_eq_true, not_true_eq_false, false_and, and_false, if_true, if_false, ite_true, ite_false, vin_0, vin_1, vin_2, vin_n, ncl, lit_0, lit_1, lit_2, lit_3, lit_4, lit_9, nm2, nm3, nm4, nm9, na1, na2, na3, na4, hG_sG, hG_sY, hG_sV, hG_sN, hY_sG, hY_sY, hY_sV, hY_sN, hV_sG, hV_sY, hV_sN, hV_sV, hN_sG, hN_sY, hN_sV, hN_sN, hF_sX, hF_sXr, hF_sF, hX_sF, hX_sX, hX_sXr, Nat.reduceEqDiff, Nat.reduceAdd, er_0, er_1, er_2, er_3, er_4, Nat.zero_lt_succ, forall_const, true_implies, false_implies, imp_self, implies_true]
      exact MB_no R1 C1 (h3 a ha e g1)
  · simp (disch := first | assumption | omega | (simp only [hN_sG, hN_sY, hN_sV] <;> first | assumption | omega)) only [rd R1, Option.some.injEq, exists_eq_left', true_and, and_true, and_self, ne_eq, not_false_eq_true, not_true_eq_false, false_and, and_false, if_true, if_false, ite_true, ite_false, vin_0, vin_1, vin_2, vin_n, ncl, lit_0, lit_1, lit_2, lit_3, lit_4, lit_9, nm2, nm3, nm4, nm9, na1, na2, na3, na4, hG_sG, hG_sY, hG_sV, hG_sN, hY_sG, hY_sY, hY_sV, hY_sN, hV_sG, hV_sY, hV_sN, hV_sV, hN_sG, hN_sY, hN_sV, hN_sN, hF_sX, hF_sXr, hF_sF, hX_sF, hX_sX, hX_sXr, Nat.reduceEqDiff, Nat.reduceAdd, er_0, er_1, er_2, er_3, er_4, Nat.zero_lt_succ, forall_const, true_implies, false_implies, imp_self, implies_true]
    exact MB_no R1 C1 (h2 g0)
theorem CM_secs {c : hC} {m : hM} (C : CM c m) {a : Nat} {b : Int32} : CM (hsG c 9 a b) (hsX m 4 (4 * a + 2) b) := by
  obtain ⟨x1, x2, x3, x4, x5, x6, h1, h2, h3, h4, h5⟩ := C
  refine ⟨x1, x2, x3, x4, ?_, ?_, fun t' ht => ?_, fun t' ht => ?_, fun x hx => ?_, fun x hx => ?_, fun x hx => ?_⟩
  · rw [hG_sG, if_neg (fun q => absurd q.1 (by decide))]; exact x5
  · rw [hG_sG, if_neg (fun q => absurd q.1 (by decide))]; exact x6
  · simp only [hG_sG, Nat.reduceEqDiff, false_and, if_false, hY_sG, hX_sX]; exact h1 t' ht
  · simp only [hG_sG, Nat.reduceEqDiff, false_and, if_false, hX_sX]; exact h2 t' ht
  · simp only [hV_sG, hX_sX, Nat.reduceEqDiff, false_and, if_false]; exact h3 x hx
  · obtain ⟨y1, y2, y3, y4⟩ := h4 x hx
    refine ⟨?_, ?_, ?_, ?_⟩
    · rw [hX_sX, if_neg (fun q => by omega), hV_sG]; exact y1
    · rw [hX_sX, if_neg (fun q => by omega), hG_sG, if_neg (fun q => absurd q.1 (by decide))]; exact y2
    · rw [hX_sX, hG_sG]
      by_cases e : x = a
      · rw [if_pos ⟨rfl, by omega⟩, if_pos ⟨rfl, e⟩]
      · rw [if_neg (fun q => by omega), if_neg (fun q => e q.2)]; exact y3
    · rw [hX_sX, if_neg (fun q => by omega), hG_sG, if_neg (fun q => absurd q.1 (by decide))]; exact y4
  · simp only [hV_sG, hX_sX, Nat.reduceEqDiff, false_and, if_false]; exact h5 x hx
theorem m_correct {z A w h m u S} (R : RP z A w h m u S) {c : hC} (W : WF c) (C : CM c m) {p q : Int32} {Q : Int32 → mmS → Prop} {X : String → mmS → Prop}
    (h1 : ∀ a, a < hN c 3 → p = nI a → nb q 7200 → MB z A w h u (hsG c 9 a q) 0 (Q (hG c 9 a)))
    (h2 : (∀ a, a < hN c 3 → p ≠ nI a) → MB z A w h u c 1 (Q 0)) (h3 : ∀ a, a < hN c 3 → p = nI a → ¬ nb q 7200 → MB z A w h u c 2 (Q 0)) : wp_X5_correct z S (A 12 0) p q Q X := by
  have W1 := W.1
  unfold Wn at W1
  unfold wp_X5_correct
  simp (disch := first | assumption | omega | (simp only [hN_sG, hN_sY, hN_sV] <;> first | assumption | omega)) only [rd R, Option.some.injEq, exists_eq_left', true_and, and_true, and_self, ne_eq, not_false_eq_true, not_true_eq_false, false_and, and_false, if_true, if_false, ite_true, ite_false, vin_0, vin_1, vin_2, vin_n, ncl, lit_0, lit_1, lit_2, lit_3, lit_4, lit_9, nm2, nm3, nm4, nm9, na1, na2, na3, na4, hG_sG, hG_sY, hG_sV, hG_sN, hY_sG, hY_sY, hY_sV, hY_sN, hV_sG, hV_sY, hV_sN, hV_sV, hN_sG, hN_sY, hN_sV, hN_sN, hF_sX, hF_sXr, hF_sF, hX_sF, hX_sX, hX_sXr, Nat.reduceEqDiff, Nat.reduceAdd, er_0, er_1, er_2, er_3, er_4, Nat.zero_lt_succ, forall_const, true_implies, false_implies, imp_self, implies_true]
  refine up_F R (by decide) (by decide) fun S1 R1 => ?_
  have C1 : CM c (hsF m 23 0) := CM_s23 C
  refine ru_isCall R1 W C1 (fun a ha e => ⟨fun _ => ?_, fun g => absurd g (by decide)⟩) (fun g0 => ⟨fun g => absurd rfl g, fun _ => ?_⟩)
  · refine ru_in0 7200 rfl (by decide) (fun g1 => ⟨fun _ => ?_, fun q => absurd q (by decide)⟩) (fun g1 => ⟨fun q => absurd rfl q, fun _ => ?_⟩)
    · have hQ := h1 a ha e g1
      subst e
      simp (disch := first | assumption | omega | (simp only [hN_sG, hN_sY, hN_sV] <;> first | assumption | omega)) only [rd R1, Option.some.injEq, exists_eq_left', true_and, and_true, and_self, ne_eq, not_false_eq_true, not_true_eq_false, false_and, and_false, if_true, if_false, ite_true, ite_false, vin_0, vin_1, vin_2, vin_n, ncl, lit_0, lit_1, lit_2, lit_3, lit_4, lit_9, nm2, nm3, nm4, nm9, na1, na2, na3, na4, hG_sG, hG_sY, hG_sV, hG_sN, hY_sG, hY_sY, hY_sV, hY_sN, hV_sG, hV_sY, hV_sN, hV_sV, hN_sG, hN_sY, hN_sV, hN_sN, hF_sX, hF_sXr, hF_sF, hX_sF, hX_sX, hX_sXr, Nat.reduceEqDiff, Nat.reduceAdd, er_0, er_1, er_2, er_3, er_4, Nat.zero_lt_succ, forall_const, true_implies, false_implies, imp_self, implies_true, cm C1]
      have e3 : hX (hsF m 23 0) 4 (4 * a + 2) = hG c 9 a := (C1.2.2.2.2.2.2.2.2.2.1 a ha).2.2.1
      rw [hX_sF] at e3
      try rw [e3]
      rintro v13 rfl
      refine up_X R1 (by decide) fun S2 R2 => ?_
      exact hQ _ S2 R2 (CM_secs C1) (by rw [hF_sX, hF_sF, if_pos rfl])
    · simp (disch := first | assumption | omega | (simp only [hN_sG, hN_sY, hN_sV] <;> first | assumption | omega)) only [rd R1, Option.some.injEq, exists_eq_left', true_and, and_true, and_self, ne_eq, not_false_eq_true, not_true_eq_false, false_and, and_false, if_true, if_false, ite_true, ite_false, vin_0, vin_1, vin_2, vin_n, ncl, lit_0, lit_1, lit_2, lit_3, lit_4, lit_9, nm2, nm3, nm4, nm9, na1, na2, na3, na4, hG_sG, hG_sY, hG_sV, hG_sN, hY_sG, hY_sY, hY_sV, hY_sN, hV_sG, hV_sY, hV_sN, hV_sV, hN_sG, hN_sY, hN_sV, hN_sN, hF_sX, hF_sXr, hF_sF, hX_sF, hX_sX, hX_sXr, Nat.reduceEqDiff, Nat.reduceAdd, er_0, er_1, er_2, er_3, er_4, Nat.zero_lt_succ, forall_const, true_implies, false_implies, imp_self, implies_true]
      exact MB_no R1 C1 (h3 a ha e g1)
  · simp (disch := first | assumption | omega | (simp only [hN_sG, hN_sY, hN_sV] <;> first | assumption | omega)) only [rd R1, Option.some.injEq, exists_eq_left', true_and, and_true, and_self, ne_eq, not_false_eq_true, not_true_eq_false, false_and, and_false, if_true, if_false, ite_true, ite_false, vin_0, vin_1, vin_2, vin_n, ncl, lit_0, lit_1, lit_2, lit_3, lit_4, lit_9, nm2, nm3, nm4, nm9, na1, na2, na3, na4, hG_sG, hG_sY, hG_sV, hG_sN, hY_sG, hY_sY, hY_sV, hY_sN, hV_sG, hV_sY, hV_sN, hV_sV, hN_sG, hN_sY, hN_sV, hN_sN, hF_sX, hF_sXr, hF_sF, hX_sF, hX_sX, hX_sXr, Nat.reduceEqDiff, Nat.reduceAdd, er_0, er_1, er_2, er_3, er_4, Nat.zero_lt_succ, forall_const, true_implies, false_implies, imp_self, implies_true]
    exact MB_no R1 C1 (h2 g0)
