/-! what the law's own methods and rows say -/
theorem ru_below {z L xs S} {p N : Int32} (n : Nat) (hN : N = nI n) (h0 : 0 < n) (hn : n < 2147483648) {Q : Int32 → mmS → Prop} {X : String → mmS → Prop} (h : ∀ k, k < n → Q (nI k) S) : wp_L_below z L xs S p N Q X := by
  subst hN
  unfold wp_L_below
  refine ⟨nI_ne0 h0 hn, ?_⟩
  obtain ⟨j, hj, e⟩ := pk_andE p (m := 2147483647) 31 (by rfl)
  rw [e, pk_rem hj h0 hn]
  exact h _ (Nat.mod_lt _ h0)
theorem ru_cell {z L xs S} {p : Int32} {k : Nat} (hp : p = nI k) (hk : k < 1000) (hL : L ≤ 260) {Q : Int32 → mmS → Prop} {X : String → mmS → Prop} (h : ∀ v, Q v S) : wp_L_cell z L xs S p Q X := by
  subst hp
  unfold wp_L_cell
  refine ⟨fun _ => h _, fun g => ⟨?_, h _⟩⟩
  have g2 : ¬ nI L ≤ nI k := g
  exact vin_n (Nat.lt_of_not_le fun q => g2 (nI_le q (by omega))) (by omega)
def FX (A A0 : Nat → Nat → Nat) : Prop := ∀ r i, 9 ≤ r → A r i = A0 r i
theorem FX_rf (A : Nat → Nat → Nat) : FX A A := fun _ _ _ => rfl
theorem FX_tr {A A1 A0 : Nat → Nat → Nat} (h : FX A1 A0) (g : ∀ r i, 9 ≤ r → A r i = A1 r i) : FX A A0 := fun r i hr => (g r i hr).trans (h r i hr)
theorem rN_A (S a i v) : mN (sA S a i v) = mN S := Eq.trans rfl rfl
theorem rK_A (S a i v) : mK (sA S a i v) = mK S := Eq.trans rfl rfl
theorem rL_A (S a i v) : mL (sA S a i v) = mL S := Eq.trans rfl rfl
theorem rA_A (S a i v a' i') : mA (sA S a i v) a' i' = if a' = a ∧ i' = i then v else mA S a' i' := Eq.trans rfl rfl
/-- the row of steps -/
def QV (S : mmS) (q : Nat) : Prop := q ∈ mL S ∧ mK S q = 7 ∧ mN S q = 5 ∧ ∀ j, j < 5 → nb (mA S q j) 300 ∧ 1 ≤ mA S q j
theorem QV_A {S : mmS} {q a i : Nat} {v : Int32} (h : QV S q) (ha : ¬ q = a) : QV (sA S a i v) q := by
  unfold QV at *
  rw [rL_A, rK_A, rN_A]
  refine ⟨h.1, h.2.1, h.2.2.1, fun j hj => ?_⟩
  rw [rA_A, if_neg (fun e => ha e.1)]
  exact h.2.2.2 j hj
theorem steps_ok {S : mmS} {P : Nat → mmS → Prop} (h : ∀ q S', agr S S' → QV S' q → q ∉ mL S → P q S') : ∀ q5 : Nat, q5 ∉ mL S → ∀ S7 : mmS, S7 = sNa S q5 5 → vp_in (0 : Int32) (mN S7 q5) ∧ ∀ S9 : mmS, S9 = sA S7 q5 ((0 : Int32)).toNatClampNeg (1 : Int32) → vp_in (1 : Int32) (mN S9 q5) ∧ ∀ S11 : mmS, S11 = sA S9 q5 ((1 : Int32)).toNatClampNeg (60 : Int32) → vp_in (2 : Int32) (mN S11 q5) ∧ ∀ S13 : mmS, S13 = sA S11 q5 ((2 : Int32)).toNatClampNeg (30 : Int32) → vp_in (3 : Int32) (mN S13 q5) ∧ ∀ S15 : mmS, S15 = sA S13 q5 ((3 : Int32)).toNatClampNeg (10 : Int32) → vp_in (4 : Int32) (mN S15 q5) ∧ ∀ S17 : mmS, S17 = sA S15 q5 ((4 : Int32)).toNatClampNeg (300 : Int32) → P q5 S17 := by
  intro q hq S7 e7
  have n7 : mN S7 q = 5 := by rw [e7, rN_Na, if_pos rfl]
  refine ⟨by rw [n7]; exact vin_0 (by decide), ?_⟩
  intro S9 e9
  have n9 : mN S9 q = 5 := by rw [e9, rN_A]; exact n7
  refine ⟨by rw [n9]; exact vin_1 (by decide), ?_⟩
  intro S11 e11
  have n11 : mN S11 q = 5 := by rw [e11, rN_A]; exact n9
  refine ⟨by rw [n11]; exact vin_2 (by decide), ?_⟩
  intro S13 e13
  have n13 : mN S13 q = 5 := by rw [e13, rN_A]; exact n11
  refine ⟨by rw [n13]; exact vin_n (i := 3) (by decide) (by decide), ?_⟩
  intro S15 e15
  have n15 : mN S15 q = 5 := by rw [e15, rN_A]; exact n13
  refine ⟨by rw [n15]; exact vin_n (i := 4) (by decide) (by decide), ?_⟩
  intro S17 e17
  rw [lit_0] at e9
  rw [lit_1] at e11
  rw [lit_2] at e13
  rw [lit_3] at e15
  rw [lit_4] at e17
  refine h q S17 ?_ ?_ hq
  · rw [e17, e15, e13, e11, e9, e7]
    exact ag_A (ag_A (ag_A (ag_A (ag_A (ag_Na (ag_refl S) hq) hq) hq) hq) hq) hq
  · refine ⟨?_, ?_, ?_, fun j hj => ?_⟩
    · rw [e17, e15, e13, e11, e9, e7]
      simp only [rL_A, rL_Na]
      exact List.mem_append_right _ (List.mem_singleton.mpr rfl)
    · rw [e17, e15, e13, e11, e9, e7]
      simp only [rK_A, rK_Na, if_true]
    · rw [e17, rN_A]; exact n15
    · rw [e17, e15, e13, e11, e9]
      have : j = 0 ∨ j = 1 ∨ j = 2 ∨ j = 3 ∨ j = 4 := by omega
      rcases this with e | e | e | e | e <;> subst e
      · simp only [rA_A, Nat.reduceEqDiff, and_false, if_false, and_self, if_true]
        exact ⟨⟨1, by omega, rfl⟩, by decide⟩
      · simp only [rA_A, Nat.reduceEqDiff, and_false, if_false, and_self, if_true]
        exact ⟨⟨60, by omega, rfl⟩, by decide⟩
      · simp only [rA_A, Nat.reduceEqDiff, and_false, if_false, and_self, if_true]
        exact ⟨⟨30, by omega, rfl⟩, by decide⟩
      · simp only [rA_A, Nat.reduceEqDiff, and_false, if_false, and_self, if_true]
        exact ⟨⟨10, by omega, rfl⟩, by decide⟩
      · simp only [rA_A, Nat.reduceEqDiff, and_false, if_false, and_self, if_true]
        exact ⟨⟨300, by omega, rfl⟩, by decide⟩
/-- the row's own writes -/
theorem QV_ne {z A w h m u S} {q : Nat} (R : RP z A w h m u S) (hq : q ∉ mL S) {f : Nat} (hf : f < u) : ¬ q = A 11 f := fun e => hq (e ▸ (mem11 R hf).1)
theorem mul_b {a b c : Nat} (ha : a < 2) (hb : b < 30) : a * 100 * b ≤ 2900 := by
  have : a * 100 ≤ 100 := by omega
  have := Nat.mul_le_mul this (show b ≤ 29 by omega)
  omega
theorem b_zones {z L} {xs : Nat → Int32} {Q : Int32 → mmS → Prop} {X : String → mmS → Prop} {K17 : mmS → Nat → Int32 → Nat → Nat → Nat → Nat → Int32 → Prop} {A : Nat → Nat → Nat} {t : Nat} {h0 : hC} {m0 : hM} {r4 : Int32} (ht : t < hN h0 0) (ht3 : t < 3)
    (hK : ∀ w h' m' S', RP z A w h' m' 5 S' → LI h' → hN h' = hN h0 → (∀ j, hX m' 0 j = hX m0 0 j) → K17 S' (A 10 0) 0 (A 11 0) (A 11 1) (A 11 2) (A 11 3) (nI (t + 1))) :
    ∀ d k w h m S, k + d = 3 → 1 ≤ k → RP z A w h m 5 S → LI h → hN h = hN h0 → (∀ j, k ≤ j → hY h 4 t j = 0) → (∀ j, hX m 0 j = hX m0 0 j) → lp_L_build_231 z L xs Q X K17 (d + 1) S (A 10 0) 0 (A 11 0) (A 11 1) (A 11 2) (A 11 3) (nI t) r4 (nI k) := by
  intro d
  induction d with
  | zero =>
    intro k w h m S hkd hk R I hn hy hx
    show bk_L_build_231 z L xs Q X K17 _ S _ _ _ _ _ _ _ _ _
    unfold bk_L_build_231
    have e : k = 3 := by omega
    subst e
    refine ⟨fun _ => ?_, fun g => absurd (show (3 : Int32) ≤ nI 3 by decide) g⟩
    rintro v rfl
    rw [na1]
    exact hK w h m S R I hn hx
  | succ d ih =>
    intro k w h m S hkd hk R I hn hy hx
    show bk_L_build_231 z L xs Q X K17 (lp_L_build_231 z L xs Q X K17 (d + 1)) S _ _ _ _ _ _ _ _ _
    unfold bk_L_build_231
    refine ⟨fun g => absurd g (nI_ge (b := 3) (by omega) (by omega)), fun _ => ?_⟩
    refine ru_below 700 rfl (by decide) (by decide) fun r3 hr3 => ?_
    simp (disch := first | assumption | omega | (simp only [hN_sG, hN_sY, hN_sV] <;> first | assumption | omega)) only [rd R, Option.some.injEq, exists_eq_left', true_and, and_true, and_self, ne_eq, not_false_eq_true, not_true_eq_false, false_and, and_false, if_true, if_false, ite_true, ite_false, vin_0, vin_1, vin_2, vin_n, ncl, lit_0, lit_1, lit_2, lit_3, lit_4, lit_9, nm2, nm3, nm4, nm9, na1, na2, na3, na4, hG_sG, hG_sY, hG_sV, hG_sN, hY_sG, hY_sY, hY_sV, hY_sN, hV_sG, hV_sY, hV_sN, hV_sV, hN_sG, hN_sY, hN_sV, hN_sN, hF_sX, hF_sXr, hF_sF, hX_sF, hX_sX, hX_sXr, Nat.reduceEqDiff, Nat.reduceAdd, er_0, er_1, er_2, er_3, er_4, Nat.zero_lt_succ, forall_const, true_implies, false_implies, imp_self, implies_true, nI_add]
    refine up_X R (by decide) fun S6 R6 => ?_
    refine ru_below 2 rfl (by decide) (by decide) fun r8 hr8 => ?_
    refine ru_below 30 rfl (by decide) (by decide) fun r10 hr10 => ?_
    simp (disch := first | assumption | omega | (simp only [hN_sG, hN_sY, hN_sV] <;> first | assumption | omega)) only [rd R6, Option.some.injEq, exists_eq_left', true_and, and_true, and_self, ne_eq, not_false_eq_true, not_true_eq_false, false_and, and_false, if_true, if_false, ite_true, ite_false, vin_0, vin_1, vin_2, vin_n, ncl, lit_0, lit_1, lit_2, lit_3, lit_4, lit_9, nm2, nm3, nm4, nm9, na1, na2, na3, na4, hG_sG, hG_sY, hG_sV, hG_sN, hY_sG, hY_sY, hY_sV, hY_sN, hV_sG, hV_sY, hV_sN, hV_sV, hN_sG, hN_sY, hN_sV, hN_sN, hF_sX, hF_sXr, hF_sF, hX_sF, hX_sX, hX_sXr, Nat.reduceEqDiff, Nat.reduceAdd, er_0, er_1, er_2, er_3, er_4, Nat.zero_lt_succ, forall_const, true_implies, false_implies, imp_self, implies_true, nI_add]
    refine up_X R6 (by decide) fun S13 R13 => ?_
    have d1 : (9 * t + 3 + 2 * k = 9 * t + 4 + 2 * k) = False := eq_false (by omega)
    have d2 : (9 * t + 4 + 2 * k = 9 * t + 3 + 2 * k) = False := eq_false (by omega)
    simp (disch := first | assumption | omega | (simp only [hN_sG, hN_sY, hN_sV] <;> first | assumption | omega)) only [rd R13, Option.some.injEq, exists_eq_left', true_and, and_true, and_self, ne_eq, not_false_eq_true, not_true_eq_false, false_and, and_false, if_true, if_false, ite_true, ite_false, vin_0, vin_1, vin_2, vin_n, ncl, lit_0, lit_1, lit_2, lit_3, lit_4, lit_9, nm2, nm3, nm4, nm9, na1, na2, na3, na4, hG_sG, hG_sY, hG_sV, hG_sN, hY_sG, hY_sY, hY_sV, hY_sN, hV_sG, hV_sY, hV_sN, hV_sV, hN_sG, hN_sY, hN_sV, hN_sN, hF_sX, hF_sXr, hF_sF, hX_sF, hX_sX, hX_sXr, Nat.reduceEqDiff, Nat.reduceAdd, er_0, er_1, er_2, er_3, er_4, Nat.zero_lt_succ, forall_const, true_implies, false_implies, imp_self, implies_true, nI_add, d1, d2]
    have hv : nI r8 * 100 * nI r10 = nI (r8 * 100 * r10) := by
      have : nI r8 * 100 = nI (r8 * 100) := pk_mul r8 100
      rw [this, pk_mul]
    rw [hv]
    refine a_setZone R13 I (by rw [hn]; exact ht) (by omega) ⟨⟨r3, by omega, rfl⟩, ⟨_, Nat.le_trans (mul_b (c := 0) hr8 hr10) (by decide), rfl⟩⟩ fun h' S' R' I' n' y' => ⟨fun _ => ?_, fun g => absurd (hy k (Nat.le_refl _)) g⟩
    rintro v rfl
    try rw [na1]
    refine ih (k + 1) w h' _ S' (by omega) (by omega) R' I' (n'.trans hn) (fun j hj => by rw [y' j (by omega)]; exact hy j (by omega)) (fun j => ?_)
    rw [hX_sX, if_neg (fun e => absurd e.1 (by decide)), hX_sX, if_neg (fun e => absurd e.1 (by decide))]
    exact hx j
theorem up_X' {z A w h m u S} (R : RP z A w h m u S) {P : mmS → Prop} {f j : Nat} {v : Int32} (hf : f < u) (k : ∀ S', RP z A w h (hsX m f j v) u S' → S' = sA S (A 11 f) j v → P S') : ∀ S', S' = sA S (A 11 f) j v → P S' := by
  rintro S' rfl; exact k _ (RP_sX R hf) rfl
