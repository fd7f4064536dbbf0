/-! rules of the leaves over the abstract memory -/
theorem ru_X0_forgetRating {z A w h m u S} (R : RP z A w h m u S) {a : Nat} (ha : a < hN h 1) {Q : mmS → Prop} {X : String → mmS → Prop} (hQ : ∀ S', RP z A w (hsG (hsG (hsG h 3 a (hG h 2 a)) 4 a (-1)) 5 a 0) m u S' → Q S') : wp_X0_forgetRating z S (A 1 a) Q X := by
  unfold wp_X0_forgetRating
  simp (disch := first | assumption | omega | (simp only [hN_sG, hN_sY, hN_sV] <;> first | assumption | omega)) only [rd R, Option.some.injEq, exists_eq_left', true_and, and_true, and_self, ne_eq, not_false_eq_true, not_true_eq_false, false_and, and_false, if_true, if_false, ite_true, ite_false, vin_0, vin_1, vin_2, vin_n, ncl, lit_0, lit_1, lit_2, lit_3, lit_4, lit_9, nm2, nm3, nm4, nm9, na1, na2, na3, na4, hG_sG, hG_sY, hG_sV, hG_sN, hY_sG, hY_sY, hY_sV, hY_sN, hV_sG, hV_sY, hV_sN, hV_sV, hN_sG, hN_sY, hN_sV, hN_sN, hF_sX, hF_sXr, hF_sF, hX_sF, hX_sX, hX_sXr, Nat.reduceEqDiff, Nat.reduceAdd, er_0, er_1, er_2, er_3, er_4, Nat.zero_lt_succ, forall_const, true_implies, false_implies, imp_self, implies_true]
  refine up_I R (by decide) ha fun S1 R1 => up_I R1 (by decide) ha fun S2 R2 => up_I R2 (by decide) ha fun S3 R3 => hQ _ R3
theorem ru_X0_takeFromBundle {z A w h m u S} (R : RP z A w h m u S) {a i : Nat} (ha : a < hN h 1) (hi : i < hN h 3) {Q : Int32 → mmS → Prop} {X : String → mmS → Prop} {v : Int32} (hv : v = if hG h 10 i < hG h 3 a then hG h 10 i else hG h 3 a)
    (hQ : ∀ h' S', RP z A w h' m u S' → (h' = if 0 < v ∧ hG h 3 a - v = 0 then hsG (hsG h 3 a (hG h 3 a - v)) 4 a (hG h 6 i) else hsG h 3 a (hG h 3 a - v)) → Q v S') : wp_X0_takeFromBundle z S (A 1 a) (A 3 i) Q X := by
  unfold wp_X0_takeFromBundle
  simp (disch := first | assumption | omega | (simp only [hN_sG, hN_sY, hN_sV] <;> first | assumption | omega)) only [rd R, Option.some.injEq, exists_eq_left', true_and, and_true, and_self, ne_eq, not_false_eq_true, not_true_eq_false, false_and, and_false, if_true, if_false, ite_true, ite_false, vin_0, vin_1, vin_2, vin_n, ncl, lit_0, lit_1, lit_2, lit_3, lit_4, lit_9, nm2, nm3, nm4, nm9, na1, na2, na3, na4, hG_sG, hG_sY, hG_sV, hG_sN, hY_sG, hY_sY, hY_sV, hY_sN, hV_sG, hV_sY, hV_sN, hV_sV, hN_sG, hN_sY, hN_sV, hN_sN, hF_sX, hF_sXr, hF_sF, hX_sF, hX_sX, hX_sXr, Nat.reduceEqDiff, Nat.reduceAdd, er_0, er_1, er_2, er_3, er_4, Nat.zero_lt_succ, forall_const, true_implies, false_implies, imp_self, implies_true]
  rintro v3 rfl
  rw [← hv]
  refine up_I R (by decide) ha fun S1 R1 => ⟨fun c => ?_, fun c => ⟨fun d => ?_, fun d => ?_⟩⟩
  · refine hQ _ _ R1 (if_neg fun e => ?_).symm
    exact absurd c (Int32.not_le.mpr e.1)
  · simp (disch := first | assumption | omega | (simp only [hN_sG, hN_sY, hN_sV] <;> first | assumption | omega)) only [rd R1, Option.some.injEq, exists_eq_left', true_and, and_true, and_self, ne_eq, not_false_eq_true, not_true_eq_false, false_and, and_false, if_true, if_false, ite_true, ite_false, vin_0, vin_1, vin_2, vin_n, ncl, lit_0, lit_1, lit_2, lit_3, lit_4, lit_9, nm2, nm3, nm4, nm9, na1, na2, na3, na4, hG_sG, hG_sY, hG_sV, hG_sN, hY_sG, hY_sY, hY_sV, hY_sN, hV_sG, hV_sY, hV_sN, hV_sV, hN_sG, hN_sY, hN_sV, hN_sN, hF_sX, hF_sXr, hF_sF, hX_sF, hX_sX, hX_sXr, Nat.reduceEqDiff, Nat.reduceAdd, er_0, er_1, er_2, er_3, er_4, Nat.zero_lt_succ, forall_const, true_implies, false_implies, imp_self, implies_true] at d
    refine hQ _ _ R1 (if_neg fun e => d e.2).symm
  · simp (disch := first | assumption | omega | (simp only [hN_sG, hN_sY, hN_sV] <;> first | assumption | omega)) only [rd R1, Option.some.injEq, exists_eq_left', true_and, and_true, and_self, ne_eq, not_false_eq_true, not_true_eq_false, false_and, and_false, if_true, if_false, ite_true, ite_false, vin_0, vin_1, vin_2, vin_n, ncl, lit_0, lit_1, lit_2, lit_3, lit_4, lit_9, nm2, nm3, nm4, nm9, na1, na2, na3, na4, hG_sG, hG_sY, hG_sV, hG_sN, hY_sG, hY_sY, hY_sV, hY_sN, hV_sG, hV_sY, hV_sN, hV_sV, hN_sG, hN_sY, hN_sV, hN_sN, hF_sX, hF_sXr, hF_sF, hX_sF, hX_sX, hX_sXr, Nat.reduceEqDiff, Nat.reduceAdd, er_0, er_1, er_2, er_3, er_4, Nat.zero_lt_succ, forall_const, true_implies, false_implies, imp_self, implies_true]
    simp (disch := first | assumption | omega | (simp only [hN_sG, hN_sY, hN_sV] <;> first | assumption | omega)) only [rd R1, Option.some.injEq, exists_eq_left', true_and, and_true, and_self, ne_eq, not_false_eq_true, not_true_eq_false, false_and, and_false, if_true, if_false, ite_true, ite_false, vin_0, vin_1, vin_2, vin_n, ncl, lit_0, lit_1, lit_2, lit_3, lit_4, lit_9, nm2, nm3, nm4, nm9, na1, na2, na3, na4, hG_sG, hG_sY, hG_sV, hG_sN, hY_sG, hY_sY, hY_sV, hY_sN, hV_sG, hV_sY, hV_sN, hV_sV, hN_sG, hN_sY, hN_sV, hN_sN, hF_sX, hF_sXr, hF_sF, hX_sF, hX_sX, hX_sXr, Nat.reduceEqDiff, Nat.reduceAdd, er_0, er_1, er_2, er_3, er_4, Nat.zero_lt_succ, forall_const, true_implies, false_implies, imp_self, implies_true] at d
    refine up_I R1 (by decide) ha fun S2 R2 => hQ _ _ R2 (if_pos ⟨Int32.not_le.mp c, d⟩).symm
theorem ru_X1_forgetRating {z A w h m u S} (R : RP z A w h m u S) {i : Nat} (hi : i < hN h 3) {Q : mmS → Prop} {X : String → mmS → Prop} (hQ : ∀ S', RP z A w (hsG (hsG (hsG (hsG h 10 i 0) 11 i 0) 12 i 0) 13 i 0) m u S' → Q S') : wp_X1_forgetRating z S (A 3 i) Q X := by
  unfold wp_X1_forgetRating
  simp (disch := first | assumption | omega | (simp only [hN_sG, hN_sY, hN_sV] <;> first | assumption | omega)) only [rd R, Option.some.injEq, exists_eq_left', true_and, and_true, and_self, ne_eq, not_false_eq_true, not_true_eq_false, false_and, and_false, if_true, if_false, ite_true, ite_false, vin_0, vin_1, vin_2, vin_n, ncl, lit_0, lit_1, lit_2, lit_3, lit_4, lit_9, nm2, nm3, nm4, nm9, na1, na2, na3, na4, hG_sG, hG_sY, hG_sV, hG_sN, hY_sG, hY_sY, hY_sV, hY_sN, hV_sG, hV_sY, hV_sN, hV_sV, hN_sG, hN_sY, hN_sV, hN_sN, hF_sX, hF_sXr, hF_sF, hX_sF, hX_sX, hX_sXr, Nat.reduceEqDiff, Nat.reduceAdd, er_0, er_1, er_2, er_3, er_4, Nat.zero_lt_succ, forall_const, true_implies, false_implies, imp_self, implies_true]
  refine up_I R (by decide) hi fun S1 R1 => up_I R1 (by decide) hi fun S2 R2 => up_I R2 (by decide) hi fun S3 R3 => up_I R3 (by decide) hi fun S4 R4 => hQ _ R4
theorem ru_X1_day {z A w h m u S} (R : RP z A w h m u S) {i : Nat} (hi : i < hN h 3) {Q : Int32 → mmS → Prop} {X : String → mmS → Prop} (hQ : Q (hG h 7 i / 1440) S) : wp_X1_day z S (A 3 i) Q X := by
  unfold wp_X1_day
  simp (disch := first | assumption | omega | (simp only [hN_sG, hN_sY, hN_sV] <;> first | assumption | omega)) only [rd R, Option.some.injEq, exists_eq_left', true_and, and_true, and_self, ne_eq, not_false_eq_true, not_true_eq_false, false_and, and_false, if_true, if_false, ite_true, ite_false, vin_0, vin_1, vin_2, vin_n, ncl, lit_0, lit_1, lit_2, lit_3, lit_4, lit_9, nm2, nm3, nm4, nm9, na1, na2, na3, na4, hG_sG, hG_sY, hG_sV, hG_sN, hY_sG, hY_sY, hY_sV, hY_sN, hV_sG, hV_sY, hV_sN, hV_sV, hN_sG, hN_sY, hN_sV, hN_sN, hF_sX, hF_sXr, hF_sF, hX_sF, hX_sX, hX_sXr, Nat.reduceEqDiff, Nat.reduceAdd, er_0, er_1, er_2, er_3, er_4, Nat.zero_lt_succ, forall_const, true_implies, false_implies, imp_self, implies_true]
  exact hQ
def tl (h : hC) (i k : Nat) : Int32 := if k = 0 then hG h 9 i else if k = 1 then hG h 10 i else if k = 2 then hG h 11 i else if k = 3 then hG h 12 i else hG h 13 i
theorem ru_X1_tell {z A w h m u S} (R : RP z A w h m u S) {i k : Nat} (hi : i < hN h 3) (hk : k ≤ 4) {Q : Int32 → mmS → Prop} {X : String → mmS → Prop} (hQ : Q (tl h i k) S) : wp_X1_tell z S (A 3 i) (nI k) Q X := by
  unfold wp_X1_tell
  simp (disch := first | assumption | omega | (simp only [hN_sG, hN_sY, hN_sV] <;> first | assumption | omega)) only [rd R, Option.some.injEq, exists_eq_left', true_and, and_true, and_self, ne_eq, not_false_eq_true, not_true_eq_false, false_and, and_false, if_true, if_false, ite_true, ite_false, vin_0, vin_1, vin_2, vin_n, ncl, lit_0, lit_1, lit_2, lit_3, lit_4, lit_9, nm2, nm3, nm4, nm9, na1, na2, na3, na4, hG_sG, hG_sY, hG_sV, hG_sN, hY_sG, hY_sY, hY_sV, hY_sN, hV_sG, hV_sY, hV_sN, hV_sV, hN_sG, hN_sY, hN_sV, hN_sN, hF_sX, hF_sXr, hF_sF, hX_sF, hX_sX, hX_sXr, Nat.reduceEqDiff, Nat.reduceAdd, er_0, er_1, er_2, er_3, er_4, Nat.zero_lt_succ, forall_const, true_implies, false_implies, imp_self, implies_true]
  have hk5 : k = 0 ∨ k = 1 ∨ k = 2 ∨ k = 3 ∨ k = 4 := by omega
  have e0 : (nI 0).toInt = 0 := rfl
  have e1 : (nI 1).toInt = 1 := rfl
  have e2 : (nI 2).toInt = 2 := rfl
  have e3 : (nI 3).toInt = 3 := rfl
  have e4 : (nI 4).toInt = 4 := rfl
  rcases hk5 with e | e | e | e | e <;> subst e
  · rw [e0]; exact ⟨fun c => by omega, fun _ => hQ, fun c => by omega, fun c => by omega, fun c => by omega⟩
  · rw [e1]; exact ⟨fun c => by omega, fun c => by omega, fun _ => hQ, fun c => by omega, fun c => by omega⟩
  · rw [e2]; exact ⟨fun c => by omega, fun c => by omega, fun c => by omega, fun _ => hQ, fun c => by omega⟩
  · rw [e3]; exact ⟨fun c => by omega, fun c => by omega, fun c => by omega, fun c => by omega, fun _ => hQ⟩
  · rw [e4]; exact ⟨fun _ => hQ, fun c => by omega, fun c => by omega, fun c => by omega, fun c => by omega⟩
def cnt (s t p : Int32) : Int32 := ((s - Int64.toInt32 ((Int32.toInt64 (if (0 : Int32) < s - t then s - t else 0) * Int32.toInt64 p) / 100)) + 5) / 10
theorem ru_X0_cents {z A w h m u S} (R : RP z A w h m u S) {a : Nat} (ha : a < hN h 1) {Q : Int32 → mmS → Prop} {X : String → mmS → Prop} (hQ : Q (cnt (hG h 5 a) (hG h 0 a) (hG h 1 a)) S) : wp_X0_cents z S (A 1 a) Q X := by
  unfold wp_X0_cents
  simp (disch := first | assumption | omega | (simp only [hN_sG, hN_sY, hN_sV] <;> first | assumption | omega)) only [rd R, Option.some.injEq, exists_eq_left', true_and, and_true, and_self, ne_eq, not_false_eq_true, not_true_eq_false, false_and, and_false, if_true, if_false, ite_true, ite_false, vin_0, vin_1, vin_2, vin_n, ncl, lit_0, lit_1, lit_2, lit_3, lit_4, lit_9, nm2, nm3, nm4, nm9, na1, na2, na3, na4, hG_sG, hG_sY, hG_sV, hG_sN, hY_sG, hY_sY, hY_sV, hY_sN, hV_sG, hV_sY, hV_sN, hV_sV, hN_sG, hN_sY, hN_sV, hN_sN, hF_sX, hF_sXr, hF_sF, hX_sF, hX_sX, hX_sXr, Nat.reduceEqDiff, Nat.reduceAdd, er_0, er_1, er_2, er_3, er_4, Nat.zero_lt_succ, forall_const, true_implies, false_implies, imp_self, implies_true]
  rintro v2 rfl v3 rfl
  exact hQ
def blf (f n s : Int32) : Int32 := if s ≤ f then f else f + ((((s - f) + n) - 1) / n) * n
theorem ru_X3_billedFor {z A w h m u S} (R : RP z A w h m u S) {t : Nat} (ht : t < hN h 0) (hn : 1 ≤ hG h 20 t) {s : Int32} {Q : Int32 → mmS → Prop} {X : String → mmS → Prop} (hQ : Q (blf (hG h 19 t) (hG h 20 t) s) S) : wp_X3_billedFor z S (A 0 t) s Q X := by
  unfold wp_X3_billedFor
  simp (disch := first | assumption | omega | (simp only [hN_sG, hN_sY, hN_sV] <;> first | assumption | omega)) only [rd R, Option.some.injEq, exists_eq_left', true_and, and_true, and_self, ne_eq, not_false_eq_true, not_true_eq_false, false_and, and_false, if_true, if_false, ite_true, ite_false, vin_0, vin_1, vin_2, vin_n, ncl, lit_0, lit_1, lit_2, lit_3, lit_4, lit_9, nm2, nm3, nm4, nm9, na1, na2, na3, na4, hG_sG, hG_sY, hG_sV, hG_sN, hY_sG, hY_sY, hY_sV, hY_sN, hV_sG, hV_sY, hV_sN, hV_sV, hN_sG, hN_sY, hN_sV, hN_sN, hF_sX, hF_sXr, hF_sF, hX_sF, hX_sX, hX_sXr, Nat.reduceEqDiff, Nat.reduceAdd, er_0, er_1, er_2, er_3, er_4, Nat.zero_lt_succ, forall_const, true_implies, false_implies, imp_self, implies_true]
  refine ⟨fun c => ?_, fun c => ⟨fun d => ⟨fun e => ?_, ?_⟩, fun d => absurd hn d⟩⟩
  · unfold blf at hQ; rw [if_pos c] at hQ; exact hQ
  · rw [e] at hn; exact absurd hn (by decide)
  · rintro v3 rfl
    unfold blf at hQ; rw [if_neg c] at hQ; exact hQ
def chf (k s r : Int32) : Int32 := if 0 < s then k + ((((s * r) + 60) - 1) / 60) else 0
theorem ru_X3_chargeFor {z A w h m u S} (R : RP z A w h m u S) {t : Nat} (ht : t < hN h 0) {s r : Int32} {Q : Int32 → mmS → Prop} {X : String → mmS → Prop} (hQ : Q (chf (hG h 16 t) s r) S) : wp_X3_chargeFor z S (A 0 t) s r Q X := by
  unfold wp_X3_chargeFor
  simp (disch := first | assumption | omega | (simp only [hN_sG, hN_sY, hN_sV] <;> first | assumption | omega)) only [rd R, Option.some.injEq, exists_eq_left', true_and, and_true, and_self, ne_eq, not_false_eq_true, not_true_eq_false, false_and, and_false, if_true, if_false, ite_true, ite_false, vin_0, vin_1, vin_2, vin_n, ncl, lit_0, lit_1, lit_2, lit_3, lit_4, lit_9, nm2, nm3, nm4, nm9, na1, na2, na3, na4, hG_sG, hG_sY, hG_sV, hG_sN, hY_sG, hY_sY, hY_sV, hY_sN, hV_sG, hV_sY, hV_sN, hV_sV, hN_sG, hN_sY, hN_sV, hN_sN, hF_sX, hF_sXr, hF_sF, hX_sF, hX_sX, hX_sXr, Nat.reduceEqDiff, Nat.reduceAdd, er_0, er_1, er_2, er_3, er_4, Nat.zero_lt_succ, forall_const, true_implies, false_implies, imp_self, implies_true]
  refine ⟨fun c => ?_, fun c => ?_⟩
  · unfold chf at hQ; rw [if_pos c] at hQ; exact hQ
  · unfold chf at hQ; rw [if_neg c] at hQ; exact hQ
theorem ru_X2_forgetRating {z A w h m u S} (R : RP z A w h m u S) {l : Nat} (hl : l < hN h 2) {Q : mmS → Prop} {X : String → mmS → Prop} (hQ : ∀ S', RP z A w (hsY (hsY (hsY (hsY (hsG h 14 l 0) 6 l 1 0) 7 l 1 (-1)) 6 l 2 0) 7 l 2 (-1)) m u S' → Q S') : wp_X2_forgetRating z S (A 2 l) Q X := by
  unfold wp_X2_forgetRating
  simp (disch := first | assumption | omega | (simp only [hN_sG, hN_sY, hN_sV] <;> first | assumption | omega)) only [rd R, Option.some.injEq, exists_eq_left', true_and, and_true, and_self, ne_eq, not_false_eq_true, not_true_eq_false, false_and, and_false, if_true, if_false, ite_true, ite_false, vin_0, vin_1, vin_2, vin_n, ncl, lit_0, lit_1, lit_2, lit_3, lit_4, lit_9, nm2, nm3, nm4, nm9, na1, na2, na3, na4, hG_sG, hG_sY, hG_sV, hG_sN, hY_sG, hY_sY, hY_sV, hY_sN, hV_sG, hV_sY, hV_sN, hV_sV, hN_sG, hN_sY, hN_sV, hN_sN, hF_sX, hF_sXr, hF_sF, hX_sF, hX_sX, hX_sXr, Nat.reduceEqDiff, Nat.reduceAdd, er_0, er_1, er_2, er_3, er_4, Nat.zero_lt_succ, forall_const, true_implies, false_implies, imp_self, implies_true]
  refine up_I R (by decide) hl fun S1 R1 => ?_
  rintro v rfl
  refine ⟨3, ?_⟩
  show bk_X2_forgetRating_7 z Q X _ _ _ _
  unfold bk_X2_forgetRating_7
  refine ⟨fun c => absurd c (by decide), fun _ => ?_⟩
  simp (disch := first | assumption | omega | (simp only [hN_sG, hN_sY, hN_sV] <;> first | assumption | omega)) only [rd R1, Option.some.injEq, exists_eq_left', true_and, and_true, and_self, ne_eq, not_false_eq_true, not_true_eq_false, false_and, and_false, if_true, if_false, ite_true, ite_false, vin_0, vin_1, vin_2, vin_n, ncl, lit_0, lit_1, lit_2, lit_3, lit_4, lit_9, nm2, nm3, nm4, nm9, na1, na2, na3, na4, hG_sG, hG_sY, hG_sV, hG_sN, hY_sG, hY_sY, hY_sV, hY_sN, hV_sG, hV_sY, hV_sN, hV_sV, hN_sG, hN_sY, hN_sV, hN_sN, hF_sX, hF_sXr, hF_sF, hX_sF, hX_sX, hX_sXr, Nat.reduceEqDiff, Nat.reduceAdd, er_0, er_1, er_2, er_3, er_4, Nat.zero_lt_succ, forall_const, true_implies, false_implies, imp_self, implies_true]
  refine up_Y R1 (by decide) (by decide) hl fun S2 R2 => ?_
  simp (disch := first | assumption | omega | (simp only [hN_sG, hN_sY, hN_sV] <;> first | assumption | omega)) only [rd R2, Option.some.injEq, exists_eq_left', true_and, and_true, and_self, ne_eq, not_false_eq_true, not_true_eq_false, false_and, and_false, if_true, if_false, ite_true, ite_false, vin_0, vin_1, vin_2, vin_n, ncl, lit_0, lit_1, lit_2, lit_3, lit_4, lit_9, nm2, nm3, nm4, nm9, na1, na2, na3, na4, hG_sG, hG_sY, hG_sV, hG_sN, hY_sG, hY_sY, hY_sV, hY_sN, hV_sG, hV_sY, hV_sN, hV_sV, hN_sG, hN_sY, hN_sV, hN_sN, hF_sX, hF_sXr, hF_sF, hX_sF, hX_sX, hX_sXr, Nat.reduceEqDiff, Nat.reduceAdd, er_0, er_1, er_2, er_3, er_4, Nat.zero_lt_succ, forall_const, true_implies, false_implies, imp_self, implies_true]
  refine up_Y R2 (by decide) (by decide) hl fun S3 R3 => ?_
  rintro v rfl
  show bk_X2_forgetRating_7 z Q X _ _ _ _
  unfold bk_X2_forgetRating_7
  refine ⟨fun c => absurd c (by decide), fun _ => ?_⟩
  have e2 : (1 : Int32) + 1 = 2 := rfl
  rw [e2]
  simp (disch := first | assumption | omega | (simp only [hN_sG, hN_sY, hN_sV] <;> first | assumption | omega)) only [rd R3, Option.some.injEq, exists_eq_left', true_and, and_true, and_self, ne_eq, not_false_eq_true, not_true_eq_false, false_and, and_false, if_true, if_false, ite_true, ite_false, vin_0, vin_1, vin_2, vin_n, ncl, lit_0, lit_1, lit_2, lit_3, lit_4, lit_9, nm2, nm3, nm4, nm9, na1, na2, na3, na4, hG_sG, hG_sY, hG_sV, hG_sN, hY_sG, hY_sY, hY_sV, hY_sN, hV_sG, hV_sY, hV_sN, hV_sV, hN_sG, hN_sY, hN_sV, hN_sN, hF_sX, hF_sXr, hF_sF, hX_sF, hX_sX, hX_sXr, Nat.reduceEqDiff, Nat.reduceAdd, er_0, er_1, er_2, er_3, er_4, Nat.zero_lt_succ, forall_const, true_implies, false_implies, imp_self, implies_true]
  refine up_Y R3 (by decide) (by decide) hl fun S4 R4 => ?_
  simp (disch := first | assumption | omega | (simp only [hN_sG, hN_sY, hN_sV] <;> first | assumption | omega)) only [rd R4, Option.some.injEq, exists_eq_left', true_and, and_true, and_self, ne_eq, not_false_eq_true, not_true_eq_false, false_and, and_false, if_true, if_false, ite_true, ite_false, vin_0, vin_1, vin_2, vin_n, ncl, lit_0, lit_1, lit_2, lit_3, lit_4, lit_9, nm2, nm3, nm4, nm9, na1, na2, na3, na4, hG_sG, hG_sY, hG_sV, hG_sN, hY_sG, hY_sY, hY_sV, hY_sN, hV_sG, hV_sY, hV_sN, hV_sV, hN_sG, hN_sY, hN_sV, hN_sN, hF_sX, hF_sXr, hF_sF, hX_sF, hX_sX, hX_sXr, Nat.reduceEqDiff, Nat.reduceAdd, er_0, er_1, er_2, er_3, er_4, Nat.zero_lt_succ, forall_const, true_implies, false_implies, imp_self, implies_true]
  refine up_Y R4 (by decide) (by decide) hl fun S5 R5 => ?_
  rintro v rfl
  show bk_X2_forgetRating_7 z Q X _ _ _ _
  unfold bk_X2_forgetRating_7
  exact ⟨fun _ => hQ _ R5, fun c => absurd (show (3 : Int32) ≤ 2 + 1 by decide) c⟩
/-- zone as an index -/
theorem ru_X2_beginsFeeDay {z A w h m u S} (R : RP z A w h m u S) {l k : Nat} (hl : l < hN h 2) (hk : k < 3) {d : Int32} {Q : Int32 → mmS → Prop} {X : String → mmS → Prop} (hQ1 : hY h 7 l k = d → Q 0 S) (hQ2 : hY h 7 l k ≠ d → ∀ S', RP z A w (hsY (hsY (hsY h 7 l k d) 8 l k 1800) 6 l k (hY h 6 l k + 1)) m u S' → Q 1 S') : wp_X2_beginsFeeDay z S (A 2 l) (nI k) d Q X := by
  unfold wp_X2_beginsFeeDay
  simp (disch := first | assumption | omega | (simp only [hN_sG, hN_sY, hN_sV] <;> first | assumption | omega)) only [rd R, Option.some.injEq, exists_eq_left', true_and, and_true, and_self, ne_eq, not_false_eq_true, not_true_eq_false, false_and, and_false, if_true, if_false, ite_true, ite_false, vin_0, vin_1, vin_2, vin_n, ncl, lit_0, lit_1, lit_2, lit_3, lit_4, lit_9, nm2, nm3, nm4, nm9, na1, na2, na3, na4, hG_sG, hG_sY, hG_sV, hG_sN, hY_sG, hY_sY, hY_sV, hY_sN, hV_sG, hV_sY, hV_sN, hV_sV, hN_sG, hN_sY, hN_sV, hN_sN, hF_sX, hF_sXr, hF_sF, hX_sF, hX_sX, hX_sXr, Nat.reduceEqDiff, Nat.reduceAdd, er_0, er_1, er_2, er_3, er_4, Nat.zero_lt_succ, forall_const, true_implies, false_implies, imp_self, implies_true]
  refine ⟨fun c => ?_, fun c => hQ1 c⟩
  refine up_Y R (by decide) (by decide) hl fun S1 R1 => ?_
  simp (disch := first | assumption | omega | (simp only [hN_sG, hN_sY, hN_sV] <;> first | assumption | omega)) only [rd R1, Option.some.injEq, exists_eq_left', true_and, and_true, and_self, ne_eq, not_false_eq_true, not_true_eq_false, false_and, and_false, if_true, if_false, ite_true, ite_false, vin_0, vin_1, vin_2, vin_n, ncl, lit_0, lit_1, lit_2, lit_3, lit_4, lit_9, nm2, nm3, nm4, nm9, na1, na2, na3, na4, hG_sG, hG_sY, hG_sV, hG_sN, hY_sG, hY_sY, hY_sV, hY_sN, hV_sG, hV_sY, hV_sN, hV_sV, hN_sG, hN_sY, hN_sV, hN_sN, hF_sX, hF_sXr, hF_sF, hX_sF, hX_sX, hX_sXr, Nat.reduceEqDiff, Nat.reduceAdd, er_0, er_1, er_2, er_3, er_4, Nat.zero_lt_succ, forall_const, true_implies, false_implies, imp_self, implies_true]
  refine up_Y R1 (by decide) (by decide) hl fun S2 R2 => ?_
  simp (disch := first | assumption | omega | (simp only [hN_sG, hN_sY, hN_sV] <;> first | assumption | omega)) only [rd R2, Option.some.injEq, exists_eq_left', true_and, and_true, and_self, ne_eq, not_false_eq_true, not_true_eq_false, false_and, and_false, if_true, if_false, ite_true, ite_false, vin_0, vin_1, vin_2, vin_n, ncl, lit_0, lit_1, lit_2, lit_3, lit_4, lit_9, nm2, nm3, nm4, nm9, na1, na2, na3, na4, hG_sG, hG_sY, hG_sV, hG_sN, hY_sG, hY_sY, hY_sV, hY_sN, hV_sG, hV_sY, hV_sN, hV_sV, hN_sG, hN_sY, hN_sV, hN_sN, hF_sX, hF_sXr, hF_sF, hX_sF, hX_sX, hX_sXr, Nat.reduceEqDiff, Nat.reduceAdd, er_0, er_1, er_2, er_3, er_4, Nat.zero_lt_succ, forall_const, true_implies, false_implies, imp_self, implies_true]
  refine up_Y R2 (by decide) (by decide) hl fun S3 R3 => hQ2 c _ R3
theorem ru_X2_takeFreeOfDay {z A w h m u S} (R : RP z A w h m u S) {l k : Nat} (hl : l < hN h 2) (hk : k < 3) {s : Int32} {Q : Int32 → mmS → Prop} {X : String → mmS → Prop} {v : Int32} (hv : v = if s < hY h 8 l k then s else hY h 8 l k) (hQ : ∀ S', RP z A w (hsY h 8 l k (hY h 8 l k - v)) m u S' → Q v S') : wp_X2_takeFreeOfDay z S (A 2 l) (nI k) s Q X := by
  unfold wp_X2_takeFreeOfDay
  simp (disch := first | assumption | omega | (simp only [hN_sG, hN_sY, hN_sV] <;> first | assumption | omega)) only [rd R, Option.some.injEq, exists_eq_left', true_and, and_true, and_self, ne_eq, not_false_eq_true, not_true_eq_false, false_and, and_false, if_true, if_false, ite_true, ite_false, vin_0, vin_1, vin_2, vin_n, ncl, lit_0, lit_1, lit_2, lit_3, lit_4, lit_9, nm2, nm3, nm4, nm9, na1, na2, na3, na4, hG_sG, hG_sY, hG_sV, hG_sN, hY_sG, hY_sY, hY_sV, hY_sN, hV_sG, hV_sY, hV_sN, hV_sV, hN_sG, hN_sY, hN_sV, hN_sN, hF_sX, hF_sXr, hF_sF, hX_sF, hX_sX, hX_sXr, Nat.reduceEqDiff, Nat.reduceAdd, er_0, er_1, er_2, er_3, er_4, Nat.zero_lt_succ, forall_const, true_implies, false_implies, imp_self, implies_true]
  rintro v3 rfl
  rw [← hv]
  refine up_Y R (by decide) (by decide) hl fun S1 R1 => hQ _ R1
theorem ru_isWithin {z S} {p l k : Int32} {Q : Int32 → mmS → Prop} {X : String → mmS → Prop} (h1 : l ≤ p ∧ p ≤ k → Q 1 S) (h0 : ¬ (l ≤ p ∧ p ≤ k) → Q 0 S) : wp_X4_isWithin z S p l k Q X := by
  unfold wp_X4_isWithin
  exact ⟨fun c => h0 fun e => absurd e.1 (Int32.not_le.mpr c), fun c => ⟨fun d => h0 fun e => absurd e.2 (Int32.not_le.mpr d), fun d => h1 ⟨Int32.not_lt.mp c, Int32.not_lt.mp d⟩⟩⟩
theorem mBo_0 : mBo 0 := rfl
theorem mBo_1 : mBo 1 := rfl
theorem ru_size {z A w h m u S} (R : RP z A w h m u S) {j : Nat} (hj : j < 5) {Q : Int32 → mmS → Prop} {X : String → mmS → Prop} (hQ : Q (nI (hN h (5 + j))) S) : wp_Jx4a65c_size_8abf5 z S (A 9 j) Q X := by
  unfold wp_Jx4a65c_size_8abf5
  refine ⟨⟨(R.1 9 j (by decide) hj).1, (R.1 9 j (by decide) hj).2.1⟩, ?_⟩
  rw [(R.2.2.2.2.2.2.2 j hj).1]
  exact hQ
theorem ru_get {z A w h m u S} (R : RP z A w h m u S) {j k : Nat} (hj : j < 5) (hk : k < hN h (5 + j)) (hb : hN h (5 + j) ≤ 128) {Q : Nat → mmS → Prop} {X : String → mmS → Prop} (hQ : Q (A (er j) (hV h (5 + j) k)) S) : wp_Jx4a65c_get_915e3 z S (A 9 j) (nI k) Q X := by
  obtain ⟨h1, b, h2, h3⟩ := R.2.2.2.2.2.2.2 j hj
  have hm : A 9 j ∈ mL S ∧ mK S (A 9 j) = 6 := ⟨(R.1 9 j (by decide) hj).1, (R.1 9 j (by decide) hj).2.1⟩
  rcases h3 with h3 | ⟨h3, h4, h5, h6, h7, h8, h9⟩
  · omega
  unfold wp_Jx4a65c_get_915e3
  refine ⟨hm, ?_⟩
  unfold wp_J15_checkIndex_7cf53 wp_J3_checkIndex_8e157
  rw [h1]
  refine ⟨fun c => absurd c (nI_pos (by omega)), fun _ => ⟨fun _ => ⟨hm, ?_⟩, fun c => absurd (nI_lt hk (by omega)) c⟩⟩
  unfold wp_Jx4a65c_elementData_915e3
  refine ⟨hm, b, h2, ⟨h4, h5⟩, vin_n (by omega) (by omega), _, ?_, hQ⟩
  rw [ncl (by omega)]
  exact h9 k hk
