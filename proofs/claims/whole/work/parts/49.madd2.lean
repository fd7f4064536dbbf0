theorem rN_A (S a i v) : mN (sA S a i v) = mN S := Eq.trans rfl rfl
theorem rA_A (S a i v b j) : mA (sA S a i v) b j = if b = a ∧ j = i then v else mA S b j := Eq.trans rfl rfl
theorem up_Xr {z A w h m u S} (R : RP z A w h m u S) {P : mmS → Prop} {f : Nat} {g : Nat → Int32} (hf : f < 12) (k : ∀ S', RP z A w h (hsXr m f g) u S' → P S') : ∀ S', S' = sAr S (A 11 f) g → P S' := by
  rintro S' rfl; exact k _ (RP_sXr R hf)
theorem v9_0 : vp_in (0 : Int32) 9 := by unfold vp_in; decide
theorem v9_1 : vp_in (1 : Int32) 9 := by unfold vp_in; decide
theorem v9_2 : vp_in (2 : Int32) 9 := by unfold vp_in; decide
theorem v9_3 : vp_in (3 : Int32) 9 := by unfold vp_in; decide
theorem v9_4 : vp_in (4 : Int32) 9 := by unfold vp_in; decide
theorem v9_5 : vp_in (5 : Int32) 9 := by unfold vp_in; decide
theorem v9_6 : vp_in (6 : Int32) 9 := by unfold vp_in; decide
theorem v9_7 : vp_in (7 : Int32) 9 := by unfold vp_in; decide
theorem v9_8 : vp_in (8 : Int32) 9 := by unfold vp_in; decide
theorem v4_0 : vp_in (0 : Int32) 4 := by unfold vp_in; decide
theorem v4_1 : vp_in (1 : Int32) 4 := by unfold vp_in; decide
theorem v4_2 : vp_in (2 : Int32) 4 := by unfold vp_in; decide
theorem v4_3 : vp_in (3 : Int32) 4 := by unfold vp_in; decide
theorem lit_5 : ((5 : Int32)).toNatClampNeg = 5 := rfl
theorem lit_6 : ((6 : Int32)).toNatClampNeg = 6 := rfl
theorem lit_7 : ((7 : Int32)).toNatClampNeg = 7 := rfl
theorem lit_8 : ((8 : Int32)).toNatClampNeg = 8 := rfl
theorem cpy_lo {f g : Nat → Int32} {d n i : Nat} (h : i < d) : va_cpy f g 0 d n i = g i := by
  unfold va_cpy; rw [if_neg (by omega)]
theorem cpy_hi {f g : Nat → Int32} {d n j : Nat} (h : j < n) : va_cpy f g 0 d n (d + j) = f j := by
  unfold va_cpy; rw [if_pos ⟨by omega, by omega⟩]
  congr 1
  omega
theorem hX_r {m : hM} {f : Nat} {g : Nat → Int32} {i : Nat} : hX (hsXr m f g) f i = g i := by rw [hX_sXr, if_pos rfl]
theorem hX_rn {m : hM} {f f' : Nat} {g : Nat → Int32} {i : Nat} (h : f' ≠ f) : hX (hsXr m f g) f' i = hX m f' i := by rw [hX_sXr, if_neg h]
theorem m_addTariff {z A w h m u S} (R : RP z A w h m u S) {c : hC} (W : WF c) (C : CM c m) {p1 p2 p3 p4 p5 : Int32} {Q : Int32 → mmS → Prop} {X : String → mmS → Prop}
    (h1 : nb p1 10000 ∧ nb p2 10000 ∧ nb p3 10000 ∧ (nb p4 300 ∧ 1 ≤ p4) ∧ (nb p5 300 ∧ 1 ≤ p5) → hN c 0 < 5 → ∃ d, NW 0 c d ∧ (∀ e, e < hN c 3 → hV d 9 e = hV c 9 e) ∧ (hG d 16 (hN c 0) = p1 ∧ hG d 17 (hN c 0) = p2 ∧ hG d 18 (hN c 0) = p3 ∧ hG d 19 (hN c 0) = p4 ∧ hG d 20 (hN c 0) = p5 ∧ ∀ q, hY d 4 (hN c 0) q = 0 ∧ hY d 5 (hN c 0) q = 0) ∧ MB z A w h u d 0 (Q (nI (hN c 0))))
    (h2 : ¬ (nb p1 10000 ∧ nb p2 10000 ∧ nb p3 10000 ∧ (nb p4 300 ∧ 1 ≤ p4) ∧ (nb p5 300 ∧ 1 ≤ p5)) → MB z A w h u c 1 (Q 0)) (h3 : nb p1 10000 ∧ nb p2 10000 ∧ nb p3 10000 ∧ (nb p4 300 ∧ 1 ≤ p4) ∧ (nb p5 300 ∧ 1 ≤ p5) → ¬ hN c 0 < 5 → MB z A w h u c 2 (Q 0)) : wp_X5_addTariff z S (A 12 0) p1 p2 p3 p4 p5 Q X := by
  have W1 := W.1
  unfold Wn at W1
  unfold wp_X5_addTariff
  simp (disch := first | assumption | omega | (simp only [hN_sG, hN_sY, hN_sV] <;> first | assumption | omega)) only [rd R, Option.some.injEq, exists_eq_left', true_and, and_true, and_self, ne_eq, not_false_eq_true, not_true_eq_false, false_and, and_false, if_true, if_false, ite_true, ite_false, vin_0, vin_1, vin_2, vin_n, ncl, lit_0, lit_1, lit_2, lit_3, lit_4, lit_9, nm2, nm3, nm4, nm9, na1, na2, na3, na4, hG_sG, hG_sY, hG_sV, hG_sN, hY_sG, hY_sY, hY_sV, hY_sN, hV_sG, hV_sY, hV_sN, hV_sV, hN_sG, hN_sY, hN_sV, hN_sN, hF_sX, hF_sXr, hF_sF, hX_sF, hX_sX, hX_sXr, Nat.reduceEqDiff, Nat.reduceAdd, er_0, er_1, er_2, er_3, er_4, Nat.zero_lt_succ, forall_const, true_implies, false_implies, imp_self, implies_true]
  refine up_F R (by decide) (by decide) fun S1 R1 => ?_
  have C1 : CM c (hsF m 23 0) := CM_s23 C
  have bad : ¬ (nb p1 10000 ∧ nb p2 10000 ∧ nb p3 10000 ∧ (nb p4 300 ∧ 1 ≤ p4) ∧ (nb p5 300 ∧ 1 ≤ p5)) → bk_X5_addTariff_62 z Q X S1 (A 12 0) := by
    intro g
    unfold bk_X5_addTariff_62
    simp (disch := first | assumption | omega | (simp only [hN_sG, hN_sY, hN_sV] <;> first | assumption | omega)) only [rd R1, Option.some.injEq, exists_eq_left', true_and, and_true, and_self, ne_eq, not_false_eq_true, not_true_eq_false, false_and, and_false, if_true, if_false, ite_true, ite_false, vin_0, vin_1, vin_2, vin_n, ncl, lit_0, lit_1, lit_2, lit_3, lit_4, lit_9, nm2, nm3, nm4, nm9, na1, na2, na3, na4, hG_sG, hG_sY, hG_sV, hG_sN, hY_sG, hY_sY, hY_sV, hY_sN, hV_sG, hV_sY, hV_sN, hV_sV, hN_sG, hN_sY, hN_sV, hN_sN, hF_sX, hF_sXr, hF_sF, hX_sF, hX_sX, hX_sXr, Nat.reduceEqDiff, Nat.reduceAdd, er_0, er_1, er_2, er_3, er_4, Nat.zero_lt_succ, forall_const, true_implies, false_implies, imp_self, implies_true]
    exact MB_no R1 C1 (h2 g)
  refine ru_in0 10000 rfl (by decide) (fun g1 => ⟨fun q => absurd q (by decide), fun _ => ?_⟩) (fun g1 => ⟨fun _ => bad fun q => g1 q.1, fun q => absurd rfl q⟩)
  refine ru_in0 10000 rfl (by decide) (fun g2 => ⟨fun q => absurd q (by decide), fun _ => ?_⟩) (fun g2 => ⟨fun _ => bad fun q => g2 q.2.1, fun q => absurd rfl q⟩)
  refine ru_in0 10000 rfl (by decide) (fun g3 => ⟨fun q => absurd q (by decide), fun _ => ?_⟩) (fun g3 => ⟨fun _ => bad fun q => g3 q.2.2.1, fun q => absurd rfl q⟩)
  refine ru_in1 300 rfl (by decide) (fun g4 => ⟨fun q => absurd q (by decide), fun _ => ?_⟩) (fun g4 => ⟨fun _ => bad fun q => g4 q.2.2.2.1, fun q => absurd rfl q⟩)
  refine ru_in1 300 rfl (by decide) (fun g5 => ⟨fun _ => ?_, fun q => absurd q (by decide)⟩) (fun g5 => ⟨fun q => absurd rfl q, fun _ => bad fun q => g5 q.2.2.2.2⟩)
  have g := And.intro g1 (And.intro g2 (And.intro g3 (And.intro g4 g5)))
  have eF : mI S1 24 (A 12 0) = nI (hN c 0) := by
    rw [R1.2.2.1 24 (by decide) (by decide), hF_ne (by decide)]; exact C.1
  have hm1 : A 12 0 ∈ mL S1 ∧ mK S1 (A 12 0) = 5 := ⟨(R1.1 12 0 (by decide) Nat.zero_lt_one).1, (R1.1 12 0 (by decide) Nat.zero_lt_one).2.1⟩
  refine ⟨hm1, fun g6 => ?_, fun g6 => ?_⟩
  · have g7 : hN c 0 < 5 := by
      have : hN c 0 ≠ 5 := fun q => g6 (by rw [eF, q]; rfl)
      omega
    obtain ⟨d, N, hv9, ⟨d1, d2, d3, d4, d5, d6⟩, hQ⟩ := h1 g g7
    clear h1 h2 h3 bad g6
    intro q hq T0 e0
    have k0 : mN T0 q = 9 := by rw [e0, rN_Na, if_pos rfl]
    refine ⟨by rw [k0]; exact v9_0, ?_⟩
    intro T1 e1
    have k1 : mN T1 q = 9 := by rw [e1, rN_A, k0]
    refine ⟨by rw [k1]; exact v9_1, ?_⟩
    intro T2 e2
    have k2 : mN T2 q = 9 := by rw [e2, rN_A, k1]
    refine ⟨by rw [k2]; exact v9_2, ?_⟩
    intro T3 e3
    have k3 : mN T3 q = 9 := by rw [e3, rN_A, k2]
    refine ⟨by rw [k3]; exact v9_3, ?_⟩
    intro T4 e4
    have k4 : mN T4 q = 9 := by rw [e4, rN_A, k3]
    refine ⟨by rw [k4]; exact v9_4, ?_⟩
    intro T5 e5
    have k5 : mN T5 q = 9 := by rw [e5, rN_A, k4]
    refine ⟨by rw [k5]; exact v9_5, ?_⟩
    intro T6 e6
    have k6 : mN T6 q = 9 := by rw [e6, rN_A, k5]
    refine ⟨by rw [k6]; exact v9_6, ?_⟩
    intro T7 e7
    have k7 : mN T7 q = 9 := by rw [e7, rN_A, k6]
    refine ⟨by rw [k7]; exact v9_7, ?_⟩
    intro T8 e8
    have k8 : mN T8 q = 9 := by rw [e8, rN_A, k7]
    refine ⟨by rw [k8]; exact v9_8, ?_⟩
    intro T9 e9
    have k9 : mN T9 q = 9 := by rw [e9, rN_A, k8]
    have ag : agr S1 T9 := by
      rw [e9, e8, e7, e6, e5, e4, e3, e2, e1, e0]
      exact ag_A (ag_A (ag_A (ag_A (ag_A (ag_A (ag_A (ag_A (ag_A (ag_Na (ag_refl S1) hq) hq) hq) hq) hq) hq) hq) hq) hq) hq
    have R9 := RP_agree R1 ag.1 ag.2
    have vals : mA T9 q 0 = p1 ∧ mA T9 q 1 = p2 ∧ mA T9 q 2 = p3 ∧ mA T9 q 3 = p4 ∧ mA T9 q 4 = p5 ∧ mA T9 q 5 = 0 ∧ mA T9 q 6 = 0 ∧ mA T9 q 7 = 0 ∧ mA T9 q 8 = 0 := by
      rw [e9, e8, e7, e6, e5, e4, e3, e2, e1]
      simp only [lit_0, lit_1, lit_2, lit_3, lit_4, lit_5, lit_6, lit_7, lit_8, rA_A, Nat.reduceEqDiff, and_false, if_false, and_self, if_true]
    simp (disch := first | assumption | omega | (simp only [hN_sG, hN_sY, hN_sV] <;> first | assumption | omega)) only [rd R9, Option.some.injEq, exists_eq_left', true_and, and_true, and_self, ne_eq, not_false_eq_true, not_true_eq_false, false_and, and_false, if_true, if_false, ite_true, ite_false, vin_0, vin_1, vin_2, vin_n, ncl, lit_0, lit_1, lit_2, lit_3, lit_4, lit_9, nm2, nm3, nm4, nm9, na1, na2, na3, na4, hG_sG, hG_sY, hG_sV, hG_sN, hY_sG, hY_sY, hY_sV, hY_sN, hV_sG, hV_sY, hV_sN, hV_sV, hN_sG, hN_sY, hN_sV, hN_sN, hF_sX, hF_sXr, hF_sF, hX_sF, hX_sX, hX_sXr, Nat.reduceEqDiff, Nat.reduceAdd, er_0, er_1, er_2, er_3, er_4, Nat.zero_lt_succ, forall_const, true_implies, false_implies, imp_self, implies_true, cm C]
    have hlt : ¬ nI (9 * hN c 0) < 0 := nI_pos (by omega)
    rw [k9]
    refine ⟨⟨by decide, hlt, by decide, by omega, by omega⟩, ?_⟩
    refine up_Xr R9 (by decide) fun S10 R10 => ?_
    simp (disch := first | assumption | omega | (simp only [hN_sG, hN_sY, hN_sV] <;> first | assumption | omega)) only [rd R10, Option.some.injEq, exists_eq_left', true_and, and_true, and_self, ne_eq, not_false_eq_true, not_true_eq_false, false_and, and_false, if_true, if_false, ite_true, ite_false, vin_0, vin_1, vin_2, vin_n, ncl, lit_0, lit_1, lit_2, lit_3, lit_4, lit_9, nm2, nm3, nm4, nm9, na1, na2, na3, na4, hG_sG, hG_sY, hG_sV, hG_sN, hY_sG, hY_sY, hY_sV, hY_sN, hV_sG, hV_sY, hV_sN, hV_sV, hN_sG, hN_sY, hN_sV, hN_sN, hF_sX, hF_sXr, hF_sF, hX_sF, hX_sX, hX_sXr, Nat.reduceEqDiff, Nat.reduceAdd, er_0, er_1, er_2, er_3, er_4, Nat.zero_lt_succ, forall_const, true_implies, false_implies, imp_self, implies_true, cm C]
    refine up_F R10 (by decide) (by decide) fun S11 R11 => ?_
    simp (disch := first | assumption | omega | (simp only [hN_sG, hN_sY, hN_sV] <;> first | assumption | omega)) only [rd R11, Option.some.injEq, exists_eq_left', true_and, and_true, and_self, ne_eq, not_false_eq_true, not_true_eq_false, false_and, and_false, if_true, if_false, ite_true, ite_false, vin_0, vin_1, vin_2, vin_n, ncl, lit_0, lit_1, lit_2, lit_3, lit_4, lit_9, nm2, nm3, nm4, nm9, na1, na2, na3, na4, hG_sG, hG_sY, hG_sV, hG_sN, hY_sG, hY_sY, hY_sV, hY_sN, hV_sG, hV_sY, hV_sN, hV_sV, hN_sG, hN_sY, hN_sV, hN_sN, hF_sX, hF_sXr, hF_sF, hX_sF, hX_sX, hX_sXr, Nat.reduceEqDiff, Nat.reduceAdd, er_0, er_1, er_2, er_3, er_4, Nat.zero_lt_succ, forall_const, true_implies, false_implies, imp_self, implies_true, cm C]
    rw [nI_pred]
    have en := N.1
    have old : ∀ i, mA T9 (A 11 0) i = hX (hsF m 23 0) 0 i := (R9.2.2.2.2.1 0 (by decide)).2
    refine hQ _ S11 R11 (CM_nw W (by decide) C1 N hv9 ?_ ?_ ?_ ?_ ?_ ?_ ?_ ?_ ?_ ?_ ?_ ?_ (fun q => absurd q (by decide)) (fun q => absurd q (by decide))) ?_
    · rw [hF_sF, if_pos rfl, en 0 (by omega), if_pos (.inl rfl)]
    · rw [hF_ne (by decide), en 1 (by omega), if_neg (by omega)]; exact C.2.1
    · rw [hF_ne (by decide), en 2 (by omega), if_neg (by omega)]; exact C.2.2.1
    · rw [hF_ne (by decide)]; rfl
    · rw [hF_ne (by decide)]; rfl
    · rw [hF_ne (by decide)]; rfl
    · intro i hi; rw [hX_sF, hX_r, cpy_lo hi]; exact old i
    · intro i hi; rw [hX_sF, hX_rn (by decide)]
    · intro i hi; rw [hX_sF, hX_rn (by decide), hX_rn (by decide)]; exact ⟨rfl, rfl⟩
    · intro i; rw [hX_sF, hX_rn (by decide)]
    · intro i; rw [hX_sF, hX_rn (by decide)]
    · intro _
      obtain ⟨v0, v1, v2, v3, v4, v5, v6, v7, v8⟩ := vals
      have rd' : ∀ j, j < 9 → hX (hsF (hsXr (hsF m 23 0) 0 (va_cpy (mA T9 q) (mA T9 (A 11 0)) 0 (9 * hN c 0) 9)) 24 (nI (hN c 0 + 1))) 0 (9 * hN c 0 + j) = mA T9 q j := by
        intro j hj; rw [hX_sF, hX_r, cpy_hi hj]
      rw [d1, d2, d3, d4, d5]
      refine ⟨(rd' 0 (by omega)).trans v0, (rd' 1 (by omega)).trans v1, (rd' 2 (by omega)).trans v2, (rd' 3 (by omega)).trans v3, (rd' 4 (by omega)).trans v4, fun y hy => ?_⟩
      rw [(d6 y).1, (d6 y).2]
      rcases hy with hy | hy <;> subst hy
      · exact ⟨(rd' 5 (by omega)).trans v5, (rd' 6 (by omega)).trans v6⟩
      · exact ⟨(rd' 7 (by omega)).trans v7, (rd' 8 (by omega)).trans v8⟩
    · rw [hF_ne (by decide), hF_sXr, hF_sF, if_pos rfl]
  · have g7 : ¬ hN c 0 < 5 := by
      rw [eF] at g6
      have : hN c 0 = 5 := (nI_eq (a := hN c 0) (b := 5) (by omega) (by omega)).mp g6
      omega
    exact MB_no R1 C1 (h3 g g7)
