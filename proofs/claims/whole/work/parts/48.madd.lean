theorem CM_nw {c d : hC} {m m' : hM} {k : Nat} (W : WF c) (hk : k < 3) (C : CM c m) (N : NW k c d) (hv9 : ∀ e, e < hN c 3 → hV d 9 e = hV c 9 e)
    (f4 : hF m' 24 = nI (hN d 0)) (f5 : hF m' 25 = nI (hN d 1)) (f6 : hF m' 26 = nI (hN d 2)) (f7 : hF m' 27 = hF m 27) (f8 : hF m' 28 = hF m 28) (f9 : hF m' 29 = hF m 29)
    (x0 : ∀ i, i < 9 * hN c 0 → hX m' 0 i = hX m 0 i) (x1 : ∀ i, i < 3 * hN c 1 → hX m' 1 i = hX m 1 i) (x2 : ∀ i, i < hN c 2 → hX m' 2 i = hX m 2 i ∧ hX m' 3 i = hX m 3 i) (x4 : ∀ i, hX m' 4 i = hX m 4 i) (x5 : ∀ i, hX m' 5 i = hX m 5 i)
    (t0 : k = 0 → (hX m' 0 (9 * hN c 0) = hG d 16 (hN c 0) ∧ hX m' 0 (9 * hN c 0 + 1) = hG d 17 (hN c 0) ∧ hX m' 0 (9 * hN c 0 + 2) = hG d 18 (hN c 0) ∧ hX m' 0 (9 * hN c 0 + 3) = hG d 19 (hN c 0) ∧ hX m' 0 (9 * hN c 0 + 4) = hG d 20 (hN c 0) ∧ ∀ q, q = 1 ∨ q = 2 → hX m' 0 (9 * hN c 0 + 3 + 2 * q) = hY d 4 (hN c 0) q ∧ hX m' 0 (9 * hN c 0 + 4 + 2 * q) = hY d 5 (hN c 0) q))
    (t1 : k = 1 → hX m' 1 (3 * hN c 1) = hG d 2 (hN c 1) ∧ hX m' 1 (3 * hN c 1 + 1) = hG d 0 (hN c 1) ∧ hX m' 1 (3 * hN c 1 + 2) = hG d 1 (hN c 1))
    (t2 : k = 2 → hX m' 2 (hN c 2) = nI (hV d 1 (hN c 2)) ∧ hX m' 3 (hN c 2) = nI (hV d 2 (hN c 2))) : CM d m' := by
  obtain ⟨a, b, e0, e1, e2, g, h1, h2, h3, h4, h5⟩ := C
  obtain ⟨n1, n2, n3, n4, n5, n6⟩ := N
  have e3 : hN d 3 = hN c 3 := by rw [n1 3 (by omega), if_neg (by omega)]
  refine ⟨f4, f5, f6, by rw [f7, e3]; exact e1, ?_, ?_, fun t htt => ?_, fun x hxx => ?_, fun l hll => ?_, fun i hi => ?_, fun e he => ?_⟩
  · rw [f8, e2, n2 21 0 (fun q => by have : grp (fr 21) = 99 := rfl; omega)]
  · rw [f9, g, n2 22 0 (fun q => by have : grp (fr 22) = 99 := rfl; omega)]
  · by_cases e : k = 0 ∧ t = hN c 0
    · obtain ⟨q1, q2⟩ := e
      subst q2
      exact t0 q1
    · have htc : t < hN c 0 := by
        rw [n1 0 (by omega)] at htt
        by_cases q : k = 0
        · rw [if_pos (.inl q.symm)] at htt
          have : t ≠ hN c 0 := fun y => e ⟨q, y⟩
          omega
        · rw [if_neg (by omega)] at htt; exact htt
      have hno : ∀ r, grp r = 0 → ¬ (grp r = k ∧ t = hN c k) := by
        rintro r hr ⟨q1, q2⟩
        rw [hr] at q1; subst q1; omega
      have gg : ∀ f, fr f = 0 → hG d f t = hG c f t := fun f hf => n2 f t (by rw [hf]; exact hno 0 rfl)
      obtain ⟨b1, b2, b3, b4, b5, b6⟩ := h1 t htc
      rw [gg 16 rfl, gg 17 rfl, gg 18 rfl, gg 19 rfl, gg 20 rfl, x0 _ (by omega), x0 _ (by omega), x0 _ (by omega), x0 _ (by omega), x0 _ (by omega)]
      refine ⟨b1, b2, b3, b4, b5, fun q hq => ?_⟩
      rw [n3 4 t q (hno 4 rfl), n3 5 t q (hno 5 rfl), x0 _ (by omega), x0 _ (by omega)]
      exact b6 q hq
  · by_cases e : k = 1 ∧ x = hN c 1
    · obtain ⟨q1, q2⟩ := e
      subst q2
      exact t1 q1
    · have hac : x < hN c 1 := by
        rw [n1 1 (by omega)] at hxx
        by_cases q : k = 1
        · rw [if_pos (.inl q.symm)] at hxx
          have : x ≠ hN c 1 := fun y => e ⟨q, y⟩
          omega
        · rw [if_neg (by omega)] at hxx; exact hxx
      have gg : ∀ f, fr f = 1 → hG d f x = hG c f x := fun f hf => n2 f x (by
        rw [hf]
        rintro ⟨q1, q2⟩
        have : grp 1 = 1 := rfl
        rw [this] at q1; subst q1; omega)
      rw [gg 2 rfl, gg 0 rfl, gg 1 rfl, x1 _ (by omega), x1 _ (by omega), x1 _ (by omega)]
      exact h2 x hac
  · by_cases e : k = 2 ∧ l = hN c 2
    · obtain ⟨q1, q2⟩ := e
      subst q2
      exact t2 q1
    · have hlc : l < hN c 2 := by
        rw [n1 2 (by omega)] at hll
        by_cases q : k = 2
        · rw [if_pos (.inl q.symm)] at hll
          have : l ≠ hN c 2 := fun y => e ⟨q, y⟩
          omega
        · rw [if_neg (by omega)] at hll; exact hll
      have hno : ¬ (2 = k ∧ l = hN c k) := by
        rintro ⟨q1, q2⟩; subst q1; omega
      rw [n4 1 l (by omega) hno, n4 2 l (by omega) hno, (x2 l hlc).1, (x2 l hlc).2]
      exact h3 l hlc
  · rw [e3] at hi
    have gg : ∀ f, fr f = 3 → hG d f i = hG c f i := fun f hf => n2 f i (by rw [hf]; rintro ⟨q1, q2⟩; have : grp 3 = 3 := rfl; omega)
    rw [n4 0 i (by omega) (by rintro ⟨q1, q2⟩; have : grp (rr 0) = 3 := rfl; omega), gg 7 rfl, gg 9 rfl, gg 8 rfl, x4, x4, x4, x4]
    exact h4 i hi
  · rw [e3] at he
    rw [hv9 e he, x5]
    exact h5 e he
theorem m_addAccount {z A w h m u S} (R : RP z A w h m u S) {c : hC} (W : WF c) (C : CM c m) {p1 p2 p3 : Int32} {Q : Int32 → mmS → Prop} {X : String → mmS → Prop}
    (h1 : nb p1 100000 ∧ nb p2 1000000 ∧ nb p3 100 → hN c 1 < 4 → ∃ d, NW 1 c d ∧ (∀ e, e < hN c 3 → hV d 9 e = hV c 9 e) ∧ hG d 0 (hN c 1) = p2 ∧ hG d 1 (hN c 1) = p3 ∧ hG d 2 (hN c 1) = p1 ∧ MB z A w h u d 0 (Q (nI (hN c 1))))
    (h2 : ¬ (nb p1 100000 ∧ nb p2 1000000 ∧ nb p3 100) → MB z A w h u c 1 (Q 0)) (h3 : nb p1 100000 ∧ nb p2 1000000 ∧ nb p3 100 → ¬ hN c 1 < 4 → MB z A w h u c 2 (Q 0)) : wp_X5_addAccount z S (A 12 0) p1 p2 p3 Q X := by
  have W1 := W.1
  unfold Wn at W1
  unfold wp_X5_addAccount
  simp (disch := first | assumption | omega | (simp only [hN_sG, hN_sY, hN_sV] <;> first | assumption | omega)) only [rd R, Option.some.injEq, exists_eq_left', true_and, and_true, and_self, ne_eq, not_false_eq_true, not_true_eq_false, false_and, and_false, if_true, if_false, ite_true, ite_false, vin_0, vin_1, vin_2, vin_n, ncl, lit_0, lit_1, lit_2, lit_3, lit_4, lit_9, nm2, nm3, nm4, nm9, na1, na2, na3, na4, hG_sG, hG_sY, hG_sV, hG_sN, hY_sG, hY_sY, hY_sV, hY_sN, hV_sG, hV_sY, hV_sN, hV_sV, hN_sG, hN_sY, hN_sV, hN_sN, hF_sX, hF_sXr, hF_sF, hX_sF, hX_sX, hX_sXr, Nat.reduceEqDiff, Nat.reduceAdd, er_0, er_1, er_2, er_3, er_4, Nat.zero_lt_succ, forall_const, true_implies, false_implies, imp_self, implies_true]
  refine up_F R (by decide) (by decide) fun S1 R1 => ?_
  have C1 : CM c (hsF m 23 0) := CM_s23 C
  have bad : ¬ (nb p1 100000 ∧ nb p2 1000000 ∧ nb p3 100) → bk_X5_addAccount_35 z Q X S1 (A 12 0) := by
    intro g
    unfold bk_X5_addAccount_35
    simp (disch := first | assumption | omega | (simp only [hN_sG, hN_sY, hN_sV] <;> first | assumption | omega)) only [rd R1, Option.some.injEq, exists_eq_left', true_and, and_true, and_self, ne_eq, not_false_eq_true, not_true_eq_false, false_and, and_false, if_true, if_false, ite_true, ite_false, vin_0, vin_1, vin_2, vin_n, ncl, lit_0, lit_1, lit_2, lit_3, lit_4, lit_9, nm2, nm3, nm4, nm9, na1, na2, na3, na4, hG_sG, hG_sY, hG_sV, hG_sN, hY_sG, hY_sY, hY_sV, hY_sN, hV_sG, hV_sY, hV_sN, hV_sV, hN_sG, hN_sY, hN_sV, hN_sN, hF_sX, hF_sXr, hF_sF, hX_sF, hX_sX, hX_sXr, Nat.reduceEqDiff, Nat.reduceAdd, er_0, er_1, er_2, er_3, er_4, Nat.zero_lt_succ, forall_const, true_implies, false_implies, imp_self, implies_true]
    exact MB_no R1 C1 (h2 g)
  refine ru_in0 100000 rfl (by decide) (fun g1 => ⟨fun q => absurd q (by decide), fun _ => ?_⟩) (fun g1 => ⟨fun _ => bad fun q => g1 q.1, fun q => absurd rfl q⟩)
  refine ru_in0 1000000 rfl (by decide) (fun g2 => ⟨fun q => absurd q (by decide), fun _ => ?_⟩) (fun g2 => ⟨fun _ => bad fun q => g2 q.2.1, fun q => absurd rfl q⟩)
  refine ru_in0 100 rfl (by decide) (fun g3 => ⟨fun _ => ?_, fun q => absurd q (by decide)⟩) (fun g3 => ⟨fun q => absurd rfl q, fun _ => bad fun q => g3 q.2.2⟩)
  have g := And.intro g1 (And.intro g2 g3)
  simp (disch := first | assumption | omega | (simp only [hN_sG, hN_sY, hN_sV] <;> first | assumption | omega)) only [rd R1, Option.some.injEq, exists_eq_left', true_and, and_true, and_self, ne_eq, not_false_eq_true, not_true_eq_false, false_and, and_false, if_true, if_false, ite_true, ite_false, vin_0, vin_1, vin_2, vin_n, ncl, lit_0, lit_1, lit_2, lit_3, lit_4, lit_9, nm2, nm3, nm4, nm9, na1, na2, na3, na4, hG_sG, hG_sY, hG_sV, hG_sN, hY_sG, hY_sY, hY_sV, hY_sN, hV_sG, hV_sY, hV_sN, hV_sV, hN_sG, hN_sY, hN_sV, hN_sN, hF_sX, hF_sXr, hF_sF, hX_sF, hX_sX, hX_sXr, Nat.reduceEqDiff, Nat.reduceAdd, er_0, er_1, er_2, er_3, er_4, Nat.zero_lt_succ, forall_const, true_implies, false_implies, imp_self, implies_true, cm C]
  refine ⟨fun g4 => ?_, fun g4 => ?_⟩
  · have g5 : hN c 1 < 4 := by
      have : hN c 1 ≠ 4 := fun q => g4 (by rw [q]; rfl)
      omega
    obtain ⟨d, N, hv9, d0, d1, d2, hQ⟩ := h1 g g5
    simp (disch := first | assumption | omega | (simp only [hN_sG, hN_sY, hN_sV] <;> first | assumption | omega)) only [rd R1, Option.some.injEq, exists_eq_left', true_and, and_true, and_self, ne_eq, not_false_eq_true, not_true_eq_false, false_and, and_false, if_true, if_false, ite_true, ite_false, vin_0, vin_1, vin_2, vin_n, ncl, lit_0, lit_1, lit_2, lit_3, lit_4, lit_9, nm2, nm3, nm4, nm9, na1, na2, na3, na4, hG_sG, hG_sY, hG_sV, hG_sN, hY_sG, hY_sY, hY_sV, hY_sN, hV_sG, hV_sY, hV_sN, hV_sV, hN_sG, hN_sY, hN_sV, hN_sN, hF_sX, hF_sXr, hF_sF, hX_sF, hX_sX, hX_sXr, Nat.reduceEqDiff, Nat.reduceAdd, er_0, er_1, er_2, er_3, er_4, Nat.zero_lt_succ, forall_const, true_implies, false_implies, imp_self, implies_true, cm C]
    refine up_X R1 (by decide) fun S2 R2 => ?_
    simp (disch := first | assumption | omega | (simp only [hN_sG, hN_sY, hN_sV] <;> first | assumption | omega)) only [rd R2, Option.some.injEq, exists_eq_left', true_and, and_true, and_self, ne_eq, not_false_eq_true, not_true_eq_false, false_and, and_false, if_true, if_false, ite_true, ite_false, vin_0, vin_1, vin_2, vin_n, ncl, lit_0, lit_1, lit_2, lit_3, lit_4, lit_9, nm2, nm3, nm4, nm9, na1, na2, na3, na4, hG_sG, hG_sY, hG_sV, hG_sN, hY_sG, hY_sY, hY_sV, hY_sN, hV_sG, hV_sY, hV_sN, hV_sV, hN_sG, hN_sY, hN_sV, hN_sN, hF_sX, hF_sXr, hF_sF, hX_sF, hX_sX, hX_sXr, Nat.reduceEqDiff, Nat.reduceAdd, er_0, er_1, er_2, er_3, er_4, Nat.zero_lt_succ, forall_const, true_implies, false_implies, imp_self, implies_true, cm C]
    refine up_X R2 (by decide) fun S3 R3 => ?_
    simp (disch := first | assumption | omega | (simp only [hN_sG, hN_sY, hN_sV] <;> first | assumption | omega)) only [rd R3, Option.some.injEq, exists_eq_left', true_and, and_true, and_self, ne_eq, not_false_eq_true, not_true_eq_false, false_and, and_false, if_true, if_false, ite_true, ite_false, vin_0, vin_1, vin_2, vin_n, ncl, lit_0, lit_1, lit_2, lit_3, lit_4, lit_9, nm2, nm3, nm4, nm9, na1, na2, na3, na4, hG_sG, hG_sY, hG_sV, hG_sN, hY_sG, hY_sY, hY_sV, hY_sN, hV_sG, hV_sY, hV_sN, hV_sV, hN_sG, hN_sY, hN_sV, hN_sN, hF_sX, hF_sXr, hF_sF, hX_sF, hX_sX, hX_sXr, Nat.reduceEqDiff, Nat.reduceAdd, er_0, er_1, er_2, er_3, er_4, Nat.zero_lt_succ, forall_const, true_implies, false_implies, imp_self, implies_true, cm C]
    refine up_X R3 (by decide) fun S4 R4 => ?_
    simp (disch := first | assumption | omega | (simp only [hN_sG, hN_sY, hN_sV] <;> first | assumption | omega)) only [rd R4, Option.some.injEq, exists_eq_left', true_and, and_true, and_self, ne_eq, not_false_eq_true, not_true_eq_false, false_and, and_false, if_true, if_false, ite_true, ite_false, vin_0, vin_1, vin_2, vin_n, ncl, lit_0, lit_1, lit_2, lit_3, lit_4, lit_9, nm2, nm3, nm4, nm9, na1, na2, na3, na4, hG_sG, hG_sY, hG_sV, hG_sN, hY_sG, hY_sY, hY_sV, hY_sN, hV_sG, hV_sY, hV_sN, hV_sV, hN_sG, hN_sY, hN_sV, hN_sN, hF_sX, hF_sXr, hF_sF, hX_sF, hX_sX, hX_sXr, Nat.reduceEqDiff, Nat.reduceAdd, er_0, er_1, er_2, er_3, er_4, Nat.zero_lt_succ, forall_const, true_implies, false_implies, imp_self, implies_true, cm C]
    refine up_F R4 (by decide) (by decide) fun S5 R5 => ?_
    simp (disch := first | assumption | omega | (simp only [hN_sG, hN_sY, hN_sV] <;> first | assumption | omega)) only [rd R5, Option.some.injEq, exists_eq_left', true_and, and_true, and_self, ne_eq, not_false_eq_true, not_true_eq_false, false_and, and_false, if_true, if_false, ite_true, ite_false, vin_0, vin_1, vin_2, vin_n, ncl, lit_0, lit_1, lit_2, lit_3, lit_4, lit_9, nm2, nm3, nm4, nm9, na1, na2, na3, na4, hG_sG, hG_sY, hG_sV, hG_sN, hY_sG, hY_sY, hY_sV, hY_sN, hV_sG, hV_sY, hV_sN, hV_sV, hN_sG, hN_sY, hN_sV, hN_sN, hF_sX, hF_sXr, hF_sF, hX_sF, hX_sX, hX_sXr, Nat.reduceEqDiff, Nat.reduceAdd, er_0, er_1, er_2, er_3, er_4, Nat.zero_lt_succ, forall_const, true_implies, false_implies, imp_self, implies_true, cm C]
    rw [nI_pred]
    have en := N.1
    refine hQ _ S5 R5 (CM_nw W (by decide) C1 N hv9 ?_ ?_ ?_ ?_ ?_ ?_ ?_ ?_ ?_ ?_ ?_ (fun q => absurd q (by decide)) ?_ (fun q => absurd q (by decide))) ?_
    · rw [hF_ne (by decide), en 0 (by omega), if_neg (by omega)]; exact C.1
    · rw [hF_sF, if_pos rfl, en 1 (by omega), if_pos (.inl rfl)]
    · rw [hF_ne (by decide), en 2 (by omega), if_neg (by omega)]; exact C.2.2.1
    · rw [hF_ne (by decide)]; rfl
    · rw [hF_ne (by decide)]; rfl
    · rw [hF_ne (by decide)]; rfl
    · intro i hi; rw [hX_sF, hX_ne (by decide), hX_ne (by decide), hX_ne (by decide)]
    · intro i hi; rw [hX_sF, hX_sX, if_neg (fun q => by omega), hX_sX, if_neg (fun q => by omega), hX_sX, if_neg (fun q => by omega)]
    · intro i hi; rw [hX_sF, hX_ne (by decide), hX_ne (by decide), hX_ne (by decide), hX_ne (by decide), hX_ne (by decide), hX_ne (by decide)]; exact ⟨rfl, rfl⟩
    · intro i; rw [hX_sF, hX_ne (by decide), hX_ne (by decide), hX_ne (by decide)]
    · intro i; rw [hX_sF, hX_ne (by decide), hX_ne (by decide), hX_ne (by decide)]
    · intro _
      rw [d0, d1, d2, hX_sF]
      refine ⟨?_, ?_, ?_⟩
      · rw [hX_sX, if_neg (fun q => by omega), hX_sX, if_neg (fun q => by omega), hX_sX, if_pos ⟨rfl, rfl⟩]
      · rw [hX_sX, if_neg (fun q => by omega), hX_sX, if_pos ⟨rfl, rfl⟩]
      · rw [hX_sX, if_pos ⟨rfl, rfl⟩]
    · rw [hF_ne (by decide), hF_sX, hF_sX, hF_sX, hF_sF, if_pos rfl]
  · have g5 : ¬ hN c 1 < 4 := by
      have : hN c 1 = 4 := (nI_eq (a := hN c 1) (b := 4) (by omega) (by omega)).mp g4
      omega
    exact MB_no R1 C1 (h3 g g5)
theorem m_addLine {z A w h m u S} (R : RP z A w h m u S) {c : hC} (W : WF c) (C : CM c m) {p q : Int32} {Q : Int32 → mmS → Prop} {X : String → mmS → Prop}
    (h1 : ∀ a, a < hN c 1 → p = nI a → ∀ t, t < hN c 0 → q = nI t → hN c 2 < 8 → ∃ d, NW 2 c d ∧ (∀ e, e < hN c 3 → hV d 9 e = hV c 9 e) ∧ hV d 1 (hN c 2) = a ∧ hV d 2 (hN c 2) = t ∧ MB z A w h u d 0 (Q (nI (hN c 2))))
    (h2 : (¬ ∃ a t, a < hN c 1 ∧ p = nI a ∧ t < hN c 0 ∧ q = nI t) → MB z A w h u c 1 (Q 0)) (h3 : (∃ a t, a < hN c 1 ∧ p = nI a ∧ t < hN c 0 ∧ q = nI t) → ¬ hN c 2 < 8 → MB z A w h u c 2 (Q 0)) : wp_X5_addLine z S (A 12 0) p q Q X := by
  have W1 := W.1
  unfold Wn at W1
  unfold wp_X5_addLine
  simp (disch := first | assumption | omega | (simp only [hN_sG, hN_sY, hN_sV] <;> first | assumption | omega)) only [rd R, Option.some.injEq, exists_eq_left', true_and, and_true, and_self, ne_eq, not_false_eq_true, not_true_eq_false, false_and, and_false, if_true, if_false, ite_true, ite_false, vin_0, vin_1, vin_2, vin_n, ncl, lit_0, lit_1, lit_2, lit_3, lit_4, lit_9, nm2, nm3, nm4, nm9, na1, na2, na3, na4, hG_sG, hG_sY, hG_sV, hG_sN, hY_sG, hY_sY, hY_sV, hY_sN, hV_sG, hV_sY, hV_sN, hV_sV, hN_sG, hN_sY, hN_sV, hN_sN, hF_sX, hF_sXr, hF_sF, hX_sF, hX_sX, hX_sXr, Nat.reduceEqDiff, Nat.reduceAdd, er_0, er_1, er_2, er_3, er_4, Nat.zero_lt_succ, forall_const, true_implies, false_implies, imp_self, implies_true]
  refine up_F R (by decide) (by decide) fun S1 R1 => ?_
  have C1 : CM c (hsF m 23 0) := CM_s23 C
  refine ru_isAccount R1 W C1 (fun a ha ea => ⟨fun g => absurd g (by decide), fun _ => ?_⟩) (fun g0 => ⟨fun _ => ?_, fun g => absurd rfl g⟩)
  · simp (disch := first | assumption | omega | (simp only [hN_sG, hN_sY, hN_sV] <;> first | assumption | omega)) only [rd R1, Option.some.injEq, exists_eq_left', true_and, and_true, and_self, ne_eq, not_false_eq_true, not_true_eq_false, false_and, and_false, if_true, if_false, ite_true, ite_false, vin_0, vin_1, vin_2, vin_n, ncl, lit_0, lit_1, lit_2, lit_3, lit_4, lit_9, nm2, nm3, nm4, nm9, na1, na2, na3, na4, hG_sG, hG_sY, hG_sV, hG_sN, hY_sG, hY_sY, hY_sV, hY_sN, hV_sG, hV_sY, hV_sN, hV_sV, hN_sG, hN_sY, hN_sV, hN_sN, hF_sX, hF_sXr, hF_sF, hX_sF, hX_sX, hX_sXr, Nat.reduceEqDiff, Nat.reduceAdd, er_0, er_1, er_2, er_3, er_4, Nat.zero_lt_succ, forall_const, true_implies, false_implies, imp_self, implies_true]
    refine ru_isTariff R1 W C1 (fun t ht et => ⟨fun _ => ?_, fun g => absurd g (by decide)⟩) (fun g0 => ⟨fun g => absurd rfl g, fun _ => ?_⟩)
    · have h1 := h1 a ha ea t ht et
      have h3 := h3 ⟨a, t, ha, ea, ht, et⟩
      simp (disch := first | assumption | omega | (simp only [hN_sG, hN_sY, hN_sV] <;> first | assumption | omega)) only [rd R1, Option.some.injEq, exists_eq_left', true_and, and_true, and_self, ne_eq, not_false_eq_true, not_true_eq_false, false_and, and_false, if_true, if_false, ite_true, ite_false, vin_0, vin_1, vin_2, vin_n, ncl, lit_0, lit_1, lit_2, lit_3, lit_4, lit_9, nm2, nm3, nm4, nm9, na1, na2, na3, na4, hG_sG, hG_sY, hG_sV, hG_sN, hY_sG, hY_sY, hY_sV, hY_sN, hV_sG, hV_sY, hV_sN, hV_sV, hN_sG, hN_sY, hN_sV, hN_sN, hF_sX, hF_sXr, hF_sF, hX_sF, hX_sX, hX_sXr, Nat.reduceEqDiff, Nat.reduceAdd, er_0, er_1, er_2, er_3, er_4, Nat.zero_lt_succ, forall_const, true_implies, false_implies, imp_self, implies_true, cm C]
      refine ⟨fun g4 => ?_, fun g4 => ?_⟩
      · have g5 : hN c 2 < 8 := by
          have : hN c 2 ≠ 8 := fun q => g4 (by rw [q]; rfl)
          omega
        obtain ⟨d, N, hv9, d0, d1, hQ⟩ := h1 g5
        simp (disch := first | assumption | omega | (simp only [hN_sG, hN_sY, hN_sV] <;> first | assumption | omega)) only [rd R1, Option.some.injEq, exists_eq_left', true_and, and_true, and_self, ne_eq, not_false_eq_true, not_true_eq_false, false_and, and_false, if_true, if_false, ite_true, ite_false, vin_0, vin_1, vin_2, vin_n, ncl, lit_0, lit_1, lit_2, lit_3, lit_4, lit_9, nm2, nm3, nm4, nm9, na1, na2, na3, na4, hG_sG, hG_sY, hG_sV, hG_sN, hY_sG, hY_sY, hY_sV, hY_sN, hV_sG, hV_sY, hV_sN, hV_sV, hN_sG, hN_sY, hN_sV, hN_sN, hF_sX, hF_sXr, hF_sF, hX_sF, hX_sX, hX_sXr, Nat.reduceEqDiff, Nat.reduceAdd, er_0, er_1, er_2, er_3, er_4, Nat.zero_lt_succ, forall_const, true_implies, false_implies, imp_self, implies_true, cm C]
        refine up_X R1 (by decide) fun S2 R2 => ?_
        simp (disch := first | assumption | omega | (simp only [hN_sG, hN_sY, hN_sV] <;> first | assumption | omega)) only [rd R2, Option.some.injEq, exists_eq_left', true_and, and_true, and_self, ne_eq, not_false_eq_true, not_true_eq_false, false_and, and_false, if_true, if_false, ite_true, ite_false, vin_0, vin_1, vin_2, vin_n, ncl, lit_0, lit_1, lit_2, lit_3, lit_4, lit_9, nm2, nm3, nm4, nm9, na1, na2, na3, na4, hG_sG, hG_sY, hG_sV, hG_sN, hY_sG, hY_sY, hY_sV, hY_sN, hV_sG, hV_sY, hV_sN, hV_sV, hN_sG, hN_sY, hN_sV, hN_sN, hF_sX, hF_sXr, hF_sF, hX_sF, hX_sX, hX_sXr, Nat.reduceEqDiff, Nat.reduceAdd, er_0, er_1, er_2, er_3, er_4, Nat.zero_lt_succ, forall_const, true_implies, false_implies, imp_self, implies_true, cm C]
        refine up_X R2 (by decide) fun S3 R3 => ?_
        simp (disch := first | assumption | omega | (simp only [hN_sG, hN_sY, hN_sV] <;> first | assumption | omega)) only [rd R3, Option.some.injEq, exists_eq_left', true_and, and_true, and_self, ne_eq, not_false_eq_true, not_true_eq_false, false_and, and_false, if_true, if_false, ite_true, ite_false, vin_0, vin_1, vin_2, vin_n, ncl, lit_0, lit_1, lit_2, lit_3, lit_4, lit_9, nm2, nm3, nm4, nm9, na1, na2, na3, na4, hG_sG, hG_sY, hG_sV, hG_sN, hY_sG, hY_sY, hY_sV, hY_sN, hV_sG, hV_sY, hV_sN, hV_sV, hN_sG, hN_sY, hN_sV, hN_sN, hF_sX, hF_sXr, hF_sF, hX_sF, hX_sX, hX_sXr, Nat.reduceEqDiff, Nat.reduceAdd, er_0, er_1, er_2, er_3, er_4, Nat.zero_lt_succ, forall_const, true_implies, false_implies, imp_self, implies_true, cm C]
        refine up_F R3 (by decide) (by decide) fun S5 R5 => ?_
        simp (disch := first | assumption | omega | (simp only [hN_sG, hN_sY, hN_sV] <;> first | assumption | omega)) only [rd R5, Option.some.injEq, exists_eq_left', true_and, and_true, and_self, ne_eq, not_false_eq_true, not_true_eq_false, false_and, and_false, if_true, if_false, ite_true, ite_false, vin_0, vin_1, vin_2, vin_n, ncl, lit_0, lit_1, lit_2, lit_3, lit_4, lit_9, nm2, nm3, nm4, nm9, na1, na2, na3, na4, hG_sG, hG_sY, hG_sV, hG_sN, hY_sG, hY_sY, hY_sV, hY_sN, hV_sG, hV_sY, hV_sN, hV_sV, hN_sG, hN_sY, hN_sV, hN_sN, hF_sX, hF_sXr, hF_sF, hX_sF, hX_sX, hX_sXr, Nat.reduceEqDiff, Nat.reduceAdd, er_0, er_1, er_2, er_3, er_4, Nat.zero_lt_succ, forall_const, true_implies, false_implies, imp_self, implies_true, cm C]
        rw [nI_pred]
        have en := N.1
        refine hQ _ S5 R5 (CM_nw W (by decide) C1 N hv9 ?_ ?_ ?_ ?_ ?_ ?_ ?_ ?_ ?_ ?_ ?_ (fun q => absurd q (by decide)) (fun q => absurd q (by decide)) ?_) ?_
        · rw [hF_ne (by decide), en 0 (by omega), if_neg (by omega)]; exact C.1
        · rw [hF_ne (by decide), en 1 (by omega), if_neg (by omega)]; exact C.2.1
        · rw [hF_sF, if_pos rfl, en 2 (by omega), if_pos (.inl rfl)]
        · rw [hF_ne (by decide)]; rfl
        · rw [hF_ne (by decide)]; rfl
        · rw [hF_ne (by decide)]; rfl
        · intro i hi; rw [hX_sF, hX_ne (by decide), hX_ne (by decide)]
        · intro i hi; rw [hX_sF, hX_ne (by decide), hX_ne (by decide)]
        · intro i hi
          rw [hX_sF]
          refine ⟨?_, ?_⟩
          · rw [hX_ne (by decide), hX_sX, if_neg (fun q => by omega)]
          · rw [hX_sX, if_neg (fun q => by omega), hX_ne (by decide)]
        · intro i; rw [hX_sF, hX_ne (by decide), hX_ne (by decide)]
        · intro i; rw [hX_sF, hX_ne (by decide), hX_ne (by decide)]
        · intro _
          rw [d0, d1, hX_sF]
          refine ⟨?_, ?_⟩
          · rw [hX_ne (by decide), hX_sX, if_pos ⟨rfl, rfl⟩]; exact ea
          · rw [hX_sX, if_pos ⟨rfl, rfl⟩]; exact et
        · rw [hF_ne (by decide), hF_sX, hF_sX, hF_sF, if_pos rfl]
      · have g5 : ¬ hN c 2 < 8 := by
          have : hN c 2 = 8 := (nI_eq (a := hN c 2) (b := 8) (by omega) (by omega)).mp g4
          omega
        exact MB_no R1 C1 (h3 g5)
    · unfold bk_X5_addLine_21
      simp (disch := first | assumption | omega | (simp only [hN_sG, hN_sY, hN_sV] <;> first | assumption | omega)) only [rd R1, Option.some.injEq, exists_eq_left', true_and, and_true, and_self, ne_eq, not_false_eq_true, not_true_eq_false, false_and, and_false, if_true, if_false, ite_true, ite_false, vin_0, vin_1, vin_2, vin_n, ncl, lit_0, lit_1, lit_2, lit_3, lit_4, lit_9, nm2, nm3, nm4, nm9, na1, na2, na3, na4, hG_sG, hG_sY, hG_sV, hG_sN, hY_sG, hY_sY, hY_sV, hY_sN, hV_sG, hV_sY, hV_sN, hV_sV, hN_sG, hN_sY, hN_sV, hN_sN, hF_sX, hF_sXr, hF_sF, hX_sF, hX_sX, hX_sXr, Nat.reduceEqDiff, Nat.reduceAdd, er_0, er_1, er_2, er_3, er_4, Nat.zero_lt_succ, forall_const, true_implies, false_implies, imp_self, implies_true]
      exact MB_no R1 C1 (h2 fun ⟨a, t, _, _, ht, e⟩ => g0 t ht e)
  · unfold bk_X5_addLine_21
    simp (disch := first | assumption | omega | (simp only [hN_sG, hN_sY, hN_sV] <;> first | assumption | omega)) only [rd R1, Option.some.injEq, exists_eq_left', true_and, and_true, and_self, ne_eq, not_false_eq_true, not_true_eq_false, false_and, and_false, if_true, if_false, ite_true, ite_false, vin_0, vin_1, vin_2, vin_n, ncl, lit_0, lit_1, lit_2, lit_3, lit_4, lit_9, nm2, nm3, nm4, nm9, na1, na2, na3, na4, hG_sG, hG_sY, hG_sV, hG_sN, hY_sG, hY_sY, hY_sV, hY_sN, hV_sG, hV_sY, hV_sN, hV_sV, hN_sG, hN_sY, hN_sV, hN_sN, hF_sX, hF_sXr, hF_sF, hX_sF, hX_sX, hX_sXr, Nat.reduceEqDiff, Nat.reduceAdd, er_0, er_1, er_2, er_3, er_4, Nat.zero_lt_succ, forall_const, true_implies, false_implies, imp_self, implies_true]
    exact MB_no R1 C1 (h2 fun ⟨a, t, ha, e, _⟩ => g0 a ha e)
