/-! PhoneRater's own rating over the abstract memory -/
def dyn (f : Nat) : Bool := f == 3 || f == 4 || f == 5 || f == 10 || f == 11 || f == 12 || f == 13 || f == 14
def ST (c h : hC) : Prop := hN h = hN c ∧ hV h = hV c ∧ (∀ f, dyn f = false → hG h f = hG c f) ∧ hY h 4 = hY c 4 ∧ hY h 5 = hY c 5
theorem st {c h : hC} (s : ST c h) : hN h = hN c ∧ hV h = hV c ∧ hG h 0 = hG c 0 ∧ hG h 1 = hG c 1 ∧ hG h 2 = hG c 2 ∧ hG h 6 = hG c 6 ∧ hG h 7 = hG c 7 ∧ hG h 8 = hG c 8 ∧ hG h 9 = hG c 9 ∧ hG h 15 = hG c 15 ∧ hG h 16 = hG c 16 ∧ hG h 17 = hG c 17 ∧ hG h 18 = hG c 18 ∧ hG h 19 = hG c 19 ∧ hG h 20 = hG c 20 ∧ hG h 21 = hG c 21 ∧ hG h 22 = hG c 22 ∧ hY h 4 = hY c 4 ∧ hY h 5 = hY c 5 :=
  ⟨s.1, s.2.1, s.2.2.1 0 rfl, s.2.2.1 1 rfl, s.2.2.1 2 rfl, s.2.2.1 6 rfl, s.2.2.1 7 rfl, s.2.2.1 8 rfl, s.2.2.1 9 rfl, s.2.2.1 15 rfl, s.2.2.1 16 rfl, s.2.2.1 17 rfl, s.2.2.1 18 rfl, s.2.2.1 19 rfl, s.2.2.1 20 rfl, s.2.2.1 21 rfl, s.2.2.1 22 rfl, s.2.2.2⟩
theorem ST_refl (c : hC) : ST c c := ⟨rfl, rfl, fun _ _ => rfl, rfl, rfl⟩
theorem ST_sG {c h : hC} (s : ST c h) {f i : Nat} {v : Int32} (hd : dyn f = true) : ST c (hsG h f i v) := by
  refine ⟨s.1, s.2.1, fun f' hf' => ?_, s.2.2.2⟩
  rw [← s.2.2.1 f' hf']
  funext i'
  rw [hG_sG, if_neg]
  rintro ⟨e, _⟩
  rw [e, hd] at hf'
  exact absurd hf' (by decide)
theorem ST_sY {c h : hC} (s : ST c h) {r i j : Nat} {v : Int32} (hr : 5 < r) : ST c (hsY h r i j v) := by
  refine ⟨s.1, s.2.1, s.2.2.1, ?_, ?_⟩
  · rw [← s.2.2.2.1]
    funext i' j'
    rw [hY_sY, if_neg (fun e => by omega)]
  · rw [← s.2.2.2.2]
    funext i' j'
    rw [hY_sY, if_neg (fun e => by omega)]
theorem ST_pk {c h : hC} (s : ST c h) (i : Nat) : pk h i ↔ pk c i := by
  unfold pk dy
  simp only [st s]
theorem ru_beginsInPeak {z A w h m u S} (R : RP z A w h m u S) {i : Nat} (hi : i < hN h 3) {Q : Int32 → mmS → Prop} {X : String → mmS → Prop} (h1 : pk h i → Q 1 S) (h0 : ¬ pk h i → Q 0 S) : wp_X4_beginsInPeak z S (A 10 0) (A 3 i) Q X := by
  unfold wp_X4_beginsInPeak
  simp (disch := first | assumption | omega | (simp only [hN_sG, hN_sY, hN_sV] <;> first | assumption | omega)) only [rd R, Option.some.injEq, exists_eq_left', true_and, and_true, and_self, ne_eq, not_false_eq_true, not_true_eq_false, false_and, and_false, if_true, if_false, ite_true, ite_false, vin_0, vin_1, vin_2, vin_n, ncl, lit_0, lit_1, lit_2, lit_3, lit_4, lit_9, nm2, nm3, nm4, nm9, na1, na2, na3, na4, hG_sG, hG_sY, hG_sV, hG_sN, hY_sG, hY_sY, hY_sV, hY_sN, hV_sG, hV_sY, hV_sN, hV_sV, hN_sG, hN_sY, hN_sV, hN_sN, hF_sX, hF_sXr, hF_sF, hX_sF, hX_sX, hX_sXr, Nat.reduceEqDiff, Nat.reduceAdd, er_0, er_1, er_2, er_3, er_4, Nat.zero_lt_succ, forall_const, true_implies, false_implies, imp_self, implies_true]
  rintro v2 rfl
  refine ru_X1_day R hi ⟨fun c => ?_, fun c => ?_⟩
  · unfold bk_X4_beginsInPeak_25
    simp (disch := first | assumption | omega | (simp only [hN_sG, hN_sY, hN_sV] <;> first | assumption | omega)) only [rd R, Option.some.injEq, exists_eq_left', true_and, and_true, and_self, ne_eq, not_false_eq_true, not_true_eq_false, false_and, and_false, if_true, if_false, ite_true, ite_false, vin_0, vin_1, vin_2, vin_n, ncl, lit_0, lit_1, lit_2, lit_3, lit_4, lit_9, nm2, nm3, nm4, nm9, na1, na2, na3, na4, hG_sG, hG_sY, hG_sV, hG_sN, hY_sG, hY_sY, hY_sV, hY_sN, hV_sG, hV_sY, hV_sN, hV_sV, hN_sG, hN_sY, hN_sV, hN_sN, hF_sX, hF_sXr, hF_sF, hX_sF, hX_sX, hX_sXr, Nat.reduceEqDiff, Nat.reduceAdd, er_0, er_1, er_2, er_3, er_4, Nat.zero_lt_succ, forall_const, true_implies, false_implies, imp_self, implies_true]
    refine ru_isWithin (fun e => ⟨fun e => absurd e (by decide), fun _ => h1 ⟨c, e⟩⟩) (fun e => ⟨fun _ => h0 fun q => e q.2, fun e => absurd rfl e⟩)
  · unfold bk_X4_beginsInPeak_25
    exact ⟨fun _ => h0 fun q => c q.1, fun e => absurd e (by decide)⟩
theorem zo_n {c : hC} (W : WF c) {i : Nat} (hi : i < hN c 3) : hG c 8 i = nI (zo c i) ∧ zo c i ≤ 2 := nb_z (W.2.2.2.2.1 i hi).2.2.2.2.2
theorem ru_rateDayFee {z A w h m u S} (R : RP z A w h m u S) {c : hC} (s : ST c h) (W : WF c) {i : Nat} (hi : i < hN c 3) {Q : mmS → Prop} {X : String → mmS → Prop}
    (ha : fe c i = 0 → Q S)
    (hb : ¬ fe c i = 0 → hY h 7 (hV c 0 i) (zo c i) = dy c i → ∀ v, v = (if hG h 10 i < hY h 8 (hV c 0 i) (zo c i) then hG h 10 i else hY h 8 (hV c 0 i) (zo c i)) → ∀ S', RP z A w (hsG (hsY h 8 (hV c 0 i) (zo c i) (hY h 8 (hV c 0 i) (zo c i) - v)) 11 i v) m u S' → Q S')
    (hc : ¬ fe c i = 0 → ¬ hY h 7 (hV c 0 i) (zo c i) = dy c i → ∀ v, v = (if hG h 10 i < 1800 then hG h 10 i else 1800) → ∀ S', RP z A w (hsG (hsY (hsG (hsY (hsY (hsY h 7 (hV c 0 i) (zo c i) (dy c i)) 8 (hV c 0 i) (zo c i) 1800) 6 (hV c 0 i) (zo c i) (hY h 6 (hV c 0 i) (zo c i) + 1)) 13 i (fe c i)) 8 (hV c 0 i) (zo c i) (1800 - v)) 11 i v) m u S' → Q S') : wp_X4_rateDayFee z S (A 3 i) Q X := by
  have hl := (W.2.2.2.2.1 i hi).2.2.1
  have ht := (W.2.2.2.1 _ hl).2.2
  obtain ⟨ez, hz⟩ := zo_n W hi
  have hi' : i < hN h 3 := by rw [s.1]; exact hi
  have hl' : hV c 0 i < hN h 2 := by rw [s.1]; exact hl
  have ht' : hV c 2 (hV c 0 i) < hN h 0 := by rw [s.1]; exact ht
  have hd : hG c 7 i / 1440 = dy c i := rfl
  unfold wp_X4_rateDayFee
  simp (disch := first | assumption | omega | (simp only [hN_sG, hN_sY, hN_sV] <;> first | assumption | omega)) only [rd R, st s, Option.some.injEq, exists_eq_left', true_and, and_true, and_self, ne_eq, not_false_eq_true, not_true_eq_false, false_and, and_false, if_true, if_false, ite_true, ite_false, vin_0, vin_1, vin_2, vin_n, ncl, lit_0, lit_1, lit_2, lit_3, lit_4, lit_9, nm2, nm3, nm4, nm9, na1, na2, na3, na4, hG_sG, hG_sY, hG_sV, hG_sN, hY_sG, hY_sY, hY_sV, hY_sN, hV_sG, hV_sY, hV_sN, hV_sV, hN_sG, hN_sY, hN_sV, hN_sN, hF_sX, hF_sXr, hF_sF, hX_sF, hX_sX, hX_sXr, Nat.reduceEqDiff, Nat.reduceAdd, er_0, er_1, er_2, er_3, er_4, Nat.zero_lt_succ, forall_const, true_implies, false_implies, imp_self, implies_true]
  rintro v4 rfl
  simp only [ez]
  simp (disch := first | assumption | omega | (simp only [hN_sG, hN_sY, hN_sV] <;> first | assumption | omega)) only [rd R, st s, Option.some.injEq, exists_eq_left', true_and, and_true, and_self, ne_eq, not_false_eq_true, not_true_eq_false, false_and, and_false, if_true, if_false, ite_true, ite_false, vin_0, vin_1, vin_2, vin_n, ncl, lit_0, lit_1, lit_2, lit_3, lit_4, lit_9, nm2, nm3, nm4, nm9, na1, na2, na3, na4, hG_sG, hG_sY, hG_sV, hG_sN, hY_sG, hY_sY, hY_sV, hY_sN, hV_sG, hV_sY, hV_sN, hV_sV, hN_sG, hN_sY, hN_sV, hN_sN, hF_sX, hF_sXr, hF_sF, hX_sF, hX_sX, hX_sXr, Nat.reduceEqDiff, Nat.reduceAdd, er_0, er_1, er_2, er_3, er_4, Nat.zero_lt_succ, forall_const, true_implies, false_implies, imp_self, implies_true]
  rintro v13 rfl
  have hf : hY c 5 (hV c 2 (hV c 0 i)) (zo c i) = fe c i := rfl
  simp only [hf]
  refine ⟨fun e => ?_, fun e => ha e⟩
  refine ru_X1_day R hi' ?_
  simp only [st s, hd]
  simp (disch := first | assumption | omega | (simp only [hN_sG, hN_sY, hN_sV] <;> first | assumption | omega)) only [rd R, st s, Option.some.injEq, exists_eq_left', true_and, and_true, and_self, ne_eq, not_false_eq_true, not_true_eq_false, false_and, and_false, if_true, if_false, ite_true, ite_false, vin_0, vin_1, vin_2, vin_n, ncl, lit_0, lit_1, lit_2, lit_3, lit_4, lit_9, nm2, nm3, nm4, nm9, na1, na2, na3, na4, hG_sG, hG_sY, hG_sV, hG_sN, hY_sG, hY_sY, hY_sV, hY_sN, hV_sG, hV_sY, hV_sN, hV_sV, hN_sG, hN_sY, hN_sV, hN_sN, hF_sX, hF_sXr, hF_sF, hX_sF, hX_sX, hX_sXr, Nat.reduceEqDiff, Nat.reduceAdd, er_0, er_1, er_2, er_3, er_4, Nat.zero_lt_succ, forall_const, true_implies, false_implies, imp_self, implies_true]
  refine ru_X2_beginsFeeDay R hl' (by omega) (fun g => ?_) (fun g S1 R1 => ?_)
  · refine ⟨fun _ => ?_, fun q => absurd rfl q⟩
    unfold bk_X4_rateDayFee_42
    simp (disch := first | assumption | omega | (simp only [hN_sG, hN_sY, hN_sV] <;> first | assumption | omega)) only [rd R, st s, Option.some.injEq, exists_eq_left', true_and, and_true, and_self, ne_eq, not_false_eq_true, not_true_eq_false, false_and, and_false, if_true, if_false, ite_true, ite_false, vin_0, vin_1, vin_2, vin_n, ncl, lit_0, lit_1, lit_2, lit_3, lit_4, lit_9, nm2, nm3, nm4, nm9, na1, na2, na3, na4, hG_sG, hG_sY, hG_sV, hG_sN, hY_sG, hY_sY, hY_sV, hY_sN, hV_sG, hV_sY, hV_sN, hV_sV, hN_sG, hN_sY, hN_sV, hN_sN, hF_sX, hF_sXr, hF_sF, hX_sF, hX_sX, hX_sXr, Nat.reduceEqDiff, Nat.reduceAdd, er_0, er_1, er_2, er_3, er_4, Nat.zero_lt_succ, forall_const, true_implies, false_implies, imp_self, implies_true]
    refine ru_X2_takeFreeOfDay R hl' (by omega) rfl fun S2 R2 => ?_
    simp (disch := first | assumption | omega | (simp only [hN_sG, hN_sY, hN_sV] <;> first | assumption | omega)) only [rd R2, st s, Option.some.injEq, exists_eq_left', true_and, and_true, and_self, ne_eq, not_false_eq_true, not_true_eq_false, false_and, and_false, if_true, if_false, ite_true, ite_false, vin_0, vin_1, vin_2, vin_n, ncl, lit_0, lit_1, lit_2, lit_3, lit_4, lit_9, nm2, nm3, nm4, nm9, na1, na2, na3, na4, hG_sG, hG_sY, hG_sV, hG_sN, hY_sG, hY_sY, hY_sV, hY_sN, hV_sG, hV_sY, hV_sN, hV_sV, hN_sG, hN_sY, hN_sV, hN_sN, hF_sX, hF_sXr, hF_sF, hX_sF, hX_sX, hX_sXr, Nat.reduceEqDiff, Nat.reduceAdd, er_0, er_1, er_2, er_3, er_4, Nat.zero_lt_succ, forall_const, true_implies, false_implies, imp_self, implies_true]
    refine up_I R2 (by decide) hi' fun S3 R3 => hb e g _ rfl S3 R3
  · refine ⟨fun q => absurd q (by decide), fun _ => ?_⟩
    simp (disch := first | assumption | omega | (simp only [hN_sG, hN_sY, hN_sV] <;> first | assumption | omega)) only [rd R1, st s, Option.some.injEq, exists_eq_left', true_and, and_true, and_self, ne_eq, not_false_eq_true, not_true_eq_false, false_and, and_false, if_true, if_false, ite_true, ite_false, vin_0, vin_1, vin_2, vin_n, ncl, lit_0, lit_1, lit_2, lit_3, lit_4, lit_9, nm2, nm3, nm4, nm9, na1, na2, na3, na4, hG_sG, hG_sY, hG_sV, hG_sN, hY_sG, hY_sY, hY_sV, hY_sN, hV_sG, hV_sY, hV_sN, hV_sV, hN_sG, hN_sY, hN_sV, hN_sN, hF_sX, hF_sXr, hF_sF, hX_sF, hX_sX, hX_sXr, Nat.reduceEqDiff, Nat.reduceAdd, er_0, er_1, er_2, er_3, er_4, Nat.zero_lt_succ, forall_const, true_implies, false_implies, imp_self, implies_true]
    refine up_I R1 (by decide) hi' fun S2 R2 => ?_
    unfold bk_X4_rateDayFee_42
    simp (disch := first | assumption | omega | (simp only [hN_sG, hN_sY, hN_sV] <;> first | assumption | omega)) only [rd R2, st s, Option.some.injEq, exists_eq_left', true_and, and_true, and_self, ne_eq, not_false_eq_true, not_true_eq_false, false_and, and_false, if_true, if_false, ite_true, ite_false, vin_0, vin_1, vin_2, vin_n, ncl, lit_0, lit_1, lit_2, lit_3, lit_4, lit_9, nm2, nm3, nm4, nm9, na1, na2, na3, na4, hG_sG, hG_sY, hG_sV, hG_sN, hY_sG, hY_sY, hY_sV, hY_sN, hV_sG, hV_sY, hV_sN, hV_sV, hN_sG, hN_sY, hN_sV, hN_sN, hF_sX, hF_sXr, hF_sF, hX_sF, hX_sX, hX_sXr, Nat.reduceEqDiff, Nat.reduceAdd, er_0, er_1, er_2, er_3, er_4, Nat.zero_lt_succ, forall_const, true_implies, false_implies, imp_self, implies_true]
    have e10 : ∀ x : hC, x = hsG (hsY (hsY (hsY h 7 (hV c 0 i) (zo c i) (dy c i)) 8 (hV c 0 i) (zo c i) 1800) 6 (hV c 0 i) (zo c i) (hY h 6 (hV c 0 i) (zo c i) + 1)) 13 i (fe c i) → hY x 8 (hV c 0 i) (zo c i) = 1800 ∧ hG x 10 i = hG h 10 i := by
      rintro x rfl
      simp [hG_sG, hY_sG, hY_sY, hG_sY]
    have e6 : hY (hsY (hsY h 7 (hV c 0 i) (zo c i) (dy c i)) 8 (hV c 0 i) (zo c i) 1800) 6 (hV c 0 i) (zo c i) = hY h 6 (hV c 0 i) (zo c i) := by
      simp [hG_sG, hY_sG, hY_sY, hG_sY]
    refine ru_X2_takeFreeOfDay R2 hl' (by omega) rfl fun S3 R3 => ?_
    rw [(e10 _ rfl).1] at R3
    simp (disch := first | assumption | omega | (simp only [hN_sG, hN_sY, hN_sV] <;> first | assumption | omega)) only [rd R3, st s, Option.some.injEq, exists_eq_left', true_and, and_true, and_self, ne_eq, not_false_eq_true, not_true_eq_false, false_and, and_false, if_true, if_false, ite_true, ite_false, vin_0, vin_1, vin_2, vin_n, ncl, lit_0, lit_1, lit_2, lit_3, lit_4, lit_9, nm2, nm3, nm4, nm9, na1, na2, na3, na4, hG_sG, hG_sY, hG_sV, hG_sN, hY_sG, hY_sY, hY_sV, hY_sN, hV_sG, hV_sY, hV_sN, hV_sV, hN_sG, hN_sY, hN_sV, hN_sN, hF_sX, hF_sXr, hF_sF, hX_sF, hX_sX, hX_sXr, Nat.reduceEqDiff, Nat.reduceAdd, er_0, er_1, er_2, er_3, er_4, Nat.zero_lt_succ, forall_const, true_implies, false_implies, imp_self, implies_true]
    refine up_I R3 (by decide) hi' fun S4 R4 => hc e g _ rfl S4 R4
