/-! build: tariffs, accounts, lines -/
theorem nb_n {k B : Nat} (h : k ≤ B) : nb (nI k) B := ⟨k, h, rfl⟩
theorem b_tariffs {z L} (hL : L ≤ 260) {xs : Nat → Int32} {Q : Int32 → mmS → Prop} {X : String → mmS → Prop} {A0 : Nat → Nat → Nat} {nt : Nat} (hnt : 1 ≤ nt ∧ nt ≤ 3)
    (hQ : ∀ A w h m S, RP z A w h m 5 S → LI h → FX A A0 → hN h 0 = nt → hN h 1 = 0 → hN h 2 = 0 → hN h 3 = 0 → hX m 0 0 = nI nt → bk_L_build_364 z L xs Q X S (A 10 0) 0 (A 11 0) (A 11 2) (A 11 3)) :
    ∀ d t A w h m S, t + d = nt → RP z A w h m 5 S → LI h → FX A A0 → hN h 0 = t → hN h 1 = 0 → hN h 2 = 0 → hN h 3 = 0 → hX m 0 0 = nI nt → ∀ e, lp_L_build_17 z L xs Q X (d + 1 + e) S (A 10 0) 0 (A 11 0) (A 11 1) (A 11 2) (A 11 3) (nI t) := by
  intro d
  induction d with
  | zero =>
    intro t A w h m S htd R I F n0 n1 n2 n3 hx e
    have e0 : 0 + 1 + e = e + 1 := by omega
    rw [e0]
    show bk_L_build_17 z L xs Q X _ S _ _ _ _ _ _ _
    unfold bk_L_build_17
    simp (disch := first | assumption | omega | (simp only [hN_sG, hN_sY, hN_sV] <;> first | assumption | omega)) only [rd R, Option.some.injEq, exists_eq_left', true_and, and_true, and_self, ne_eq, not_false_eq_true, not_true_eq_false, false_and, and_false, if_true, if_false, ite_true, ite_false, vin_0, vin_1, vin_2, vin_n, ncl, lit_0, lit_1, lit_2, lit_3, lit_4, lit_9, nm2, nm3, nm4, nm9, na1, na2, na3, na4, hG_sG, hG_sY, hG_sV, hG_sN, hY_sG, hY_sY, hY_sV, hY_sN, hV_sG, hV_sY, hV_sN, hV_sV, hN_sG, hN_sY, hN_sV, hN_sN, hF_sX, hF_sXr, hF_sF, hX_sF, hX_sX, hX_sXr, Nat.reduceEqDiff, Nat.reduceAdd, er_0, er_1, er_2, er_3, er_4, Nat.zero_lt_succ, forall_const, true_implies, false_implies, imp_self, implies_true, hx]
    refine ⟨fun _ => hQ A w h m S R I F (by omega) n1 n2 n3 hx, fun g => absurd (nI_le (by omega) (by omega)) g⟩
  | succ d ih =>
    intro t A w h m S htd R I F n0 n1 n2 n3 hx e
    have e0 : d + 1 + 1 + e = (d + 1 + e) + 1 := by omega
    rw [e0]
    show bk_L_build_17 z L xs Q X (lp_L_build_17 z L xs Q X (d + 1 + e)) S _ _ _ _ _ _ _
    unfold bk_L_build_17
    simp (disch := first | assumption | omega | (simp only [hN_sG, hN_sY, hN_sV] <;> first | assumption | omega)) only [rd R, Option.some.injEq, exists_eq_left', true_and, and_true, and_self, ne_eq, not_false_eq_true, not_true_eq_false, false_and, and_false, if_true, if_false, ite_true, ite_false, vin_0, vin_1, vin_2, vin_n, ncl, lit_0, lit_1, lit_2, lit_3, lit_4, lit_9, nm2, nm3, nm4, nm9, na1, na2, na3, na4, hG_sG, hG_sY, hG_sV, hG_sN, hY_sG, hY_sY, hY_sV, hY_sN, hV_sG, hV_sY, hV_sN, hV_sV, hN_sG, hN_sY, hN_sV, hN_sN, hF_sX, hF_sXr, hF_sF, hX_sF, hX_sX, hX_sXr, Nat.reduceEqDiff, Nat.reduceAdd, er_0, er_1, er_2, er_3, er_4, Nat.zero_lt_succ, forall_const, true_implies, false_implies, imp_self, implies_true, hx]
    refine ⟨fun g => absurd g (nI_ge (by omega) (by omega)), fun _ => ?_⟩
    refine ru_cell (k := 1 + t) ?_ (by omega) hL fun r4 => ?_
    · rw [show ((0 : Int32) + 1) = nI 1 from rfl, nI_add]
    refine steps_ok fun q S17 ag qv hq => ?_
    have R17 := RP_agree R ag.1 ag.2
    have hne : ¬ q = A 11 1 := QV_ne R hq (by omega)
    refine ru_below 9 rfl (by decide) (by decide) fun r19 h19 => ?_
    simp (disch := first | assumption | omega | (simp only [hN_sG, hN_sY, hN_sV] <;> first | assumption | omega)) only [rd R17, Option.some.injEq, exists_eq_left', true_and, and_true, and_self, ne_eq, not_false_eq_true, not_true_eq_false, false_and, and_false, if_true, if_false, ite_true, ite_false, vin_0, vin_1, vin_2, vin_n, ncl, lit_0, lit_1, lit_2, lit_3, lit_4, lit_9, nm2, nm3, nm4, nm9, na1, na2, na3, na4, hG_sG, hG_sY, hG_sV, hG_sN, hY_sG, hY_sY, hY_sV, hY_sN, hV_sG, hV_sY, hV_sN, hV_sV, hN_sG, hN_sY, hN_sV, hN_sN, hF_sX, hF_sXr, hF_sF, hX_sF, hX_sX, hX_sXr, Nat.reduceEqDiff, Nat.reduceAdd, er_0, er_1, er_2, er_3, er_4, Nat.zero_lt_succ, forall_const, true_implies, false_implies, imp_self, implies_true]
    refine up_X' R17 (by decide) fun S22 R22 e22 => ?_
    have q22 : QV S22 q := by rw [e22]; exact QV_A qv hne
    refine ru_below 200 rfl (by decide) (by decide) fun r24 h24 => ?_
    simp (disch := first | assumption | omega | (simp only [hN_sG, hN_sY, hN_sV] <;> first | assumption | omega)) only [rd R22, Option.some.injEq, exists_eq_left', true_and, and_true, and_self, ne_eq, not_false_eq_true, not_true_eq_false, false_and, and_false, if_true, if_false, ite_true, ite_false, vin_0, vin_1, vin_2, vin_n, ncl, lit_0, lit_1, lit_2, lit_3, lit_4, lit_9, nm2, nm3, nm4, nm9, na1, na2, na3, na4, hG_sG, hG_sY, hG_sV, hG_sN, hY_sG, hY_sY, hY_sV, hY_sN, hV_sG, hV_sY, hV_sN, hV_sV, hN_sG, hN_sY, hN_sV, hN_sN, hF_sX, hF_sXr, hF_sF, hX_sF, hX_sX, hX_sXr, Nat.reduceEqDiff, Nat.reduceAdd, er_0, er_1, er_2, er_3, er_4, Nat.zero_lt_succ, forall_const, true_implies, false_implies, imp_self, implies_true]
    refine up_X' R22 (by decide) fun S27 R27 e27 => ?_
    have q27 : QV S27 q := by rw [e27]; exact QV_A q22 hne
    refine ru_below 100 rfl (by decide) (by decide) fun r29 h29 => ?_
    simp (disch := first | assumption | omega | (simp only [hN_sG, hN_sY, hN_sV] <;> first | assumption | omega)) only [rd R27, Option.some.injEq, exists_eq_left', true_and, and_true, and_self, ne_eq, not_false_eq_true, not_true_eq_false, false_and, and_false, if_true, if_false, ite_true, ite_false, vin_0, vin_1, vin_2, vin_n, ncl, lit_0, lit_1, lit_2, lit_3, lit_4, lit_9, nm2, nm3, nm4, nm9, na1, na2, na3, na4, hG_sG, hG_sY, hG_sV, hG_sN, hY_sG, hY_sY, hY_sV, hY_sN, hV_sG, hV_sY, hV_sN, hV_sV, hN_sG, hN_sY, hN_sV, hN_sN, hF_sX, hF_sXr, hF_sF, hX_sF, hX_sX, hX_sXr, Nat.reduceEqDiff, Nat.reduceAdd, er_0, er_1, er_2, er_3, er_4, Nat.zero_lt_succ, forall_const, true_implies, false_implies, imp_self, implies_true]
    refine up_X' R27 (by decide) fun S32 R32 e32 => ?_
    have q32 : QV S32 q := by rw [e32]; exact QV_A q27 hne
    refine ru_below 5 rfl (by decide) (by decide) fun r34 h34 => ?_
    refine ⟨⟨q32.1, q32.2.1⟩, by rw [q32.2.2.1]; exact vin_n h34 (by decide), ?_⟩
    have v34 := q32.2.2.2 r34 h34
    rw [ncl (by omega)]
    generalize mA S32 q r34 = x34 at *
    simp (disch := first | assumption | omega | (simp only [hN_sG, hN_sY, hN_sV] <;> first | assumption | omega)) only [rd R32, Option.some.injEq, exists_eq_left', true_and, and_true, and_self, ne_eq, not_false_eq_true, not_true_eq_false, false_and, and_false, if_true, if_false, ite_true, ite_false, vin_0, vin_1, vin_2, vin_n, ncl, lit_0, lit_1, lit_2, lit_3, lit_4, lit_9, nm2, nm3, nm4, nm9, na1, na2, na3, na4, hG_sG, hG_sY, hG_sV, hG_sN, hY_sG, hY_sY, hY_sV, hY_sN, hV_sG, hV_sY, hV_sN, hV_sV, hN_sG, hN_sY, hN_sV, hN_sN, hF_sX, hF_sXr, hF_sF, hX_sF, hX_sX, hX_sXr, Nat.reduceEqDiff, Nat.reduceAdd, er_0, er_1, er_2, er_3, er_4, Nat.zero_lt_succ, forall_const, true_implies, false_implies, imp_self, implies_true]
    refine up_X' R32 (by decide) fun S39 R39 e39 => ?_
    have q39 : QV S39 q := by rw [e39]; exact QV_A q32 hne
    refine ru_below 5 rfl (by decide) (by decide) fun r41 h41 => ?_
    refine ⟨⟨q39.1, q39.2.1⟩, by rw [q39.2.2.1]; exact vin_n h41 (by decide), ?_⟩
    have v41 := q39.2.2.2 r41 h41
    rw [ncl (by omega)]
    generalize mA S39 q r41 = x41 at *
    simp (disch := first | assumption | omega | (simp only [hN_sG, hN_sY, hN_sV] <;> first | assumption | omega)) only [rd R39, Option.some.injEq, exists_eq_left', true_and, and_true, and_self, ne_eq, not_false_eq_true, not_true_eq_false, false_and, and_false, if_true, if_false, ite_true, ite_false, vin_0, vin_1, vin_2, vin_n, ncl, lit_0, lit_1, lit_2, lit_3, lit_4, lit_9, nm2, nm3, nm4, nm9, na1, na2, na3, na4, hG_sG, hG_sY, hG_sV, hG_sN, hY_sG, hY_sY, hY_sV, hY_sN, hV_sG, hV_sY, hV_sN, hV_sV, hN_sG, hN_sY, hN_sV, hN_sN, hF_sX, hF_sXr, hF_sF, hX_sF, hX_sX, hX_sXr, Nat.reduceEqDiff, Nat.reduceAdd, er_0, er_1, er_2, er_3, er_4, Nat.zero_lt_succ, forall_const, true_implies, false_implies, imp_self, implies_true]
    refine up_X' R39 (by decide) fun S46 R46 e46 => ?_
    have d01 : (9 * t = 9 * t + 1) = False := eq_false (by omega)
    have d02 : (9 * t = 9 * t + 2) = False := eq_false (by omega)
    have d03 : (9 * t = 9 * t + 3) = False := eq_false (by omega)
    have d04 : (9 * t = 9 * t + 4) = False := eq_false (by omega)
    have d12 : (9 * t + 1 = 9 * t + 2) = False := eq_false (by omega)
    have d13 : (9 * t + 1 = 9 * t + 3) = False := eq_false (by omega)
    have d14 : (9 * t + 1 = 9 * t + 4) = False := eq_false (by omega)
    have d23 : (9 * t + 2 = 9 * t + 3) = False := eq_false (by omega)
    have d24 : (9 * t + 2 = 9 * t + 4) = False := eq_false (by omega)
    have d34 : (9 * t + 3 = 9 * t + 4) = False := eq_false (by omega)
    simp (disch := first | assumption | omega | (simp only [hN_sG, hN_sY, hN_sV] <;> first | assumption | omega)) only [rd R46, Option.some.injEq, exists_eq_left', true_and, and_true, and_self, ne_eq, not_false_eq_true, not_true_eq_false, false_and, and_false, if_true, if_false, ite_true, ite_false, vin_0, vin_1, vin_2, vin_n, ncl, lit_0, lit_1, lit_2, lit_3, lit_4, lit_9, nm2, nm3, nm4, nm9, na1, na2, na3, na4, hG_sG, hG_sY, hG_sV, hG_sN, hY_sG, hY_sY, hY_sV, hY_sN, hV_sG, hV_sY, hV_sN, hV_sV, hN_sG, hN_sY, hN_sV, hN_sN, hF_sX, hF_sXr, hF_sF, hX_sF, hX_sX, hX_sXr, Nat.reduceEqDiff, Nat.reduceAdd, er_0, er_1, er_2, er_3, er_4, Nat.zero_lt_succ, forall_const, true_implies, false_implies, imp_self, implies_true, d01, d02, d03, d04, d12, d13, d14, d23, d24, d34]
    have hv : (10 : Int32) * nI r19 = nI (10 * r19) := pk_mul 10 r19
    have hm0 : ∀ j, hX (hsX (hsX (hsX (hsX (hsX m 1 (9 * t) ((10 : Int32) * nI r19)) 1 (9 * t + 1) (nI r24)) 1 (9 * t + 2) (nI r29)) 1 (9 * t + 3) x34) 1 (9 * t + 4) x41) 0 j = hX m 0 j := by
      intro j
      simp only [hX_sX, Nat.reduceEqDiff, false_and, if_false]
    rw [hv] at R46 hm0 ⊢
    refine a_addTariff R46 I ⟨nb_n (by omega), nb_n (by omega), nb_n (by omega), v34, v41⟩ (by omega) fun A' w' h' S' R' I' fx N0 N1 y0 => ⟨fun _ => ?_, fun g => absurd (by rw [n0]) g⟩
    rintro v rfl
    refine ⟨3, ?_⟩
    have key := b_zones (z := z) (L := L) (xs := xs) (Q := Q) (X := X) (K17 := lp_L_build_17 z L xs Q X (d + 1 + e)) (A := A') (t := t) (h0 := h') (m0 := m) (r4 := r4) (by omega) (by omega) (fun w2 h2 m2 S2 R2 I2 hn2 hx2 => ?_) 2 1 w' h' _ S' (by omega) (by omega) R' I' rfl (fun j _ => by rw [← n0]; exact y0 j) hm0
    · rw [fx 10 0 (by omega), fx 11 0 (by omega), fx 11 1 (by omega), fx 11 2 (by omega), fx 11 3 (by omega)] at key
      exact key
    · have F2 : FX A' A0 := FX_tr F fx
      exact ih (t + 1) A' w2 h2 m2 S2 (by omega) R2 I2 F2 (by rw [hn2]; omega) (by rw [hn2, N1 1 (by omega) (by omega)]; exact n1) (by rw [hn2, N1 2 (by omega) (by omega)]; exact n2) (by rw [hn2, N1 3 (by omega) (by omega)]; exact n3) (by rw [hx2]; exact hx) e
