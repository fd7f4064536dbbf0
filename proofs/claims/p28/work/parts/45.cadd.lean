/-- the abstract memory with one object more, in its list -/
abbrev cAd (h : hC) (k : Nat) (g : Nat → Int32) (y : Nat → Nat → Int32) (T : Nat → Nat) : hC := hL (nwH h k g y T) k (fun e => if e = hN h k then hN h k else hV (nwH h k g y T) (5 + k) e) (hN h k + 1)
theorem NW_of {h : hC} {k : Nat} {g y T} (hk : k < 4) (e5 : hN h (5 + k) = hN h k) : NW k h (cAd h k g y T) := by
  refine ⟨fun k' hk' => ?_, fun f i hf => ?_, fun r i j hr => ?_, fun f i f3 hf => ?_, fun j e hj he => ?_, ?_⟩
  · rw [hL_N]
    by_cases e1 : k' = 5 + k
    · rw [if_pos e1, if_pos (.inr e1), e1, e5]
    · rw [if_neg e1, nwH_N]
      by_cases e2 : k' = k
      · rw [if_pos e2, if_pos (.inl e2), e2]
      · rw [if_neg e2, if_neg (fun q => q.elim e2 e1)]
  · rw [hL_G, nwH_G, if_neg hf]
  · rw [hL_Y, nwH_Y, if_neg hr]
  · rw [hL_V, if_neg (by omega), nwH_V, if_neg (fun q => hf q.2)]
  · rw [hL_V]
    by_cases e1 : 5 + j = 5 + k
    · have : j = k := by omega
      subst this
      rw [if_pos rfl, if_neg (by omega), nwH_V, if_neg (by omega)]
    · rw [if_neg e1, nwH_V, if_neg (by omega)]
  · rw [hL_V, if_pos rfl]; exact if_pos rfl
theorem ru_addnew {z A w h m u S S'} (R : RP z A w h m u S) (W : WF h) (ag : agr S S') {k : Nat} (hk : k < 4) {B : Nat → Nat} {lab : Nat → Nat × Nat} {g : Nat → Int32} {y : Nat → Nat → Int32} {T : Nat → Nat}
    (hB : ∀ r, r ≤ 8 → grp r = k → B r ∉ mL S ∧ B r ∈ mL S' ∧ mK S' (B r) = kd r ∧ lab (B r) = (r, hN h k))
    (hg : ∀ f, f ≤ 22 → grp (fr f) = k → mI S' f (B (fr f)) = g f)
    (hy : ∀ r, 4 ≤ r → r ≤ 8 → grp r = k → mN S' (B r) = 3 ∧ ∀ j, mA S' (B r) j = y r j)
    (hr1 : ∀ f, f < 3 → grp (rr f) = k → T f < lv h (tr f) ∧ mR S' f (B (rr f)) = some (A (tr f) (T f)))
    (hr2 : ∀ f, 3 ≤ f → f < 8 → grp (rr f) = k → grp (tr f) = k ∧ mR S' f (B (rr f)) = some (B (tr f)))
    {Q : Int32 → mmS → Prop} {X : String → mmS → Prop}
    (hQ : ∀ w' S'', RP z (nwA A k (hN h k) B) w' (cAd h k g y T) m u S'' → Q 1 S'') : wp_Jx4a65c_add_9ea2d z S' (A 9 k) (B k) Q X := by
  have W1 := W.1
  unfold Wn at W1
  have e5 : hN h (5 + k) = hN h k := by
    have : k = 0 ∨ k = 1 ∨ k = 2 ∨ k = 3 := by omega
    rcases this with e | e | e | e <;> subst e
    · exact W1.2.2.2.2.1
    · exact W1.2.2.2.2.2.1
    · exact W1.2.2.2.2.2.2.1
    · exact W1.2.2.2.2.2.2.2.1
  have n60 : hN h k ≤ 60 := by
    have : k = 0 ∨ k = 1 ∨ k = 2 ∨ k = 3 := by omega
    rcases this with e | e | e | e <;> subst e <;> omega
  have gk : grp k = k := by
    have : k = 0 ∨ k = 1 ∨ k = 2 ∨ k = 3 := by omega
    rcases this with e | e | e | e <;> subst e <;> rfl
  have ek : er k = k := by unfold er; rw [if_pos hk]
  have RN := RP_new R ag hk hB hg hy hr1 hr2 (hT_of W) (hE_of W)
  have a9 : nwA A k (hN h k) B 9 k = A 9 k := by
    unfold nwA; rw [if_neg (fun q => by have : grp 9 = 99 := rfl; omega)]
  have ab : nwA A k (hN h k) B (er k) (hN h k) = B k := by
    unfold nwA; rw [ek, if_pos ⟨gk, rfl⟩]
  have hlv : ∀ x, x < hN h k + 1 → x < lv (nwH h k g y T) (er k) := by
    intro x hx
    rw [lv_nw h hk, ek, if_pos gk]; exact hx
  have key := ru_add RN (j := k) (i := hN h k) (by omega) (n := hN h k) (by rw [nwH_N, if_neg (by omega)]; exact e5) n60 (fun e he => ?_) (hlv _ (by omega)) (Q := Q) (X := X) hQ
  · rw [a9, ab] at key
    exact key
  · rw [nwH_V, if_neg (by omega)]
    have := hE_of W k e (by omega) (by rw [e5]; exact he)
    rw [ek] at this
    refine hlv _ ?_
    have e2 : lv h k = hN h k := by unfold lv; rw [lv_grp _ _ (by omega), gk]
    rw [e2] at this
    omega
theorem c_addAccount {z A w h m u S} (R : RP z A w h m u S) (W : WF h) {p1 p2 p3 : Int32} {Q : Int32 → mmS → Prop} {X : String → mmS → Prop}
    (h1 : nb p1 100000 ∧ nb p2 1000000 ∧ nb p3 100 → hN h 1 < 4 → ∀ B w' g y T S', RP z (nwA A 1 (hN h 1) B) w' (cAd h 1 g y T) m u S' → g 0 = p2 → g 1 = p3 → g 2 = p1 → g 3 = p1 → g 4 = -1 → g 5 = 0 → Q (nI (hN h 1)) S')
    (h2 : ¬ (nb p1 100000 ∧ nb p2 1000000 ∧ nb p3 100) → X IAE S) (h3 : nb p1 100000 ∧ nb p2 1000000 ∧ nb p3 100 → ¬ hN h 1 < 4 → X ISE S) : wp_X4_addAccount z S (A 10 0) p1 p2 p3 Q X := by
  have W1 := W.1
  unfold Wn at W1
  have e5 : hN h (5 + 1) = hN h 1 := W1.2.2.2.2.2.1
  unfold wp_X4_addAccount wp_X4_checkBundle
  refine ru_wi0 100000 rfl (by decide) (fun g1 => ⟨fun _ => ?_, fun q => absurd q (by decide)⟩) (fun g1 => ⟨fun q => absurd rfl q, fun _ => h2 fun q => g1 q.1⟩)
  refine ru_wi0 1000000 rfl (by decide) (fun g2 => ⟨fun _ => ?_, fun q => absurd q (by decide)⟩) (fun g2 => ⟨fun q => absurd rfl q, fun _ => h2 fun q => g2 q.2.1⟩)
  refine ru_wi0 100 rfl (by decide) (fun g3 => ⟨fun _ => ?_, fun q => absurd q (by decide)⟩) (fun g3 => ⟨fun q => absurd rfl q, fun _ => h2 fun q => g3 q.2.2⟩)
  have g := And.intro g1 (And.intro g2 g3)
  simp (disch := first | assumption | omega | (simp only [hN_sG, hN_sY, hN_sV] <;> first | assumption | omega)) only [rd R, Option.some.injEq, exists_eq_left', true_and, and_true, and_self, ne_eq, not_false_eq_true, not_true_eq_false, false_and, and_false, if_true, if_false, ite_true, ite_false, vin_0, vin_1, vin_2, vin_n, ncl, lit_0, lit_1, lit_2, lit_3, lit_4, lit_9, nm2, nm3, nm4, nm9, na1, na2, na3, na4, hG_sG, hG_sY, hG_sV, hG_sN, hY_sG, hY_sY, hY_sV, hY_sN, hV_sG, hV_sY, hV_sN, hV_sV, hN_sG, hN_sY, hN_sV, hN_sN, hF_sX, hF_sXr, hF_sF, hX_sF, hX_sX, hX_sXr, Nat.reduceEqDiff, Nat.reduceAdd, er_0, er_1, er_2, er_3, er_4, Nat.zero_lt_succ, forall_const, true_implies, false_implies, imp_self, implies_true]
  refine ru_size R (by decide) ?_
  rw [e5]
  refine ⟨fun g4 => ?_, fun g4 => h3 g fun q => g4 (nI_lt (b := 4) q (by omega))⟩
  have g4 : hN h 1 < 4 := by
    have : nI (hN h 1) < nI 4 := g4
    rw [nlt (by omega) (by omega)] at this; exact this
  simp (disch := first | assumption | omega | (simp only [hN_sG, hN_sY, hN_sV] <;> first | assumption | omega)) only [rd R, Option.some.injEq, exists_eq_left', true_and, and_true, and_self, ne_eq, not_false_eq_true, not_true_eq_false, false_and, and_false, if_true, if_false, ite_true, ite_false, vin_0, vin_1, vin_2, vin_n, ncl, lit_0, lit_1, lit_2, lit_3, lit_4, lit_9, nm2, nm3, nm4, nm9, na1, na2, na3, na4, hG_sG, hG_sY, hG_sV, hG_sN, hY_sG, hY_sY, hY_sV, hY_sN, hV_sG, hV_sY, hV_sN, hV_sV, hN_sG, hN_sY, hN_sV, hN_sN, hF_sX, hF_sXr, hF_sF, hX_sF, hX_sX, hX_sXr, Nat.reduceEqDiff, Nat.reduceAdd, er_0, er_1, er_2, er_3, er_4, Nat.zero_lt_succ, forall_const, true_implies, false_implies, imp_self, implies_true]
  intro q hq S1 e1
  have ag1 : agr S S1 := by rw [e1]; exact ag_No (ag_refl S) hq
  unfold wp_X0_init
  refine ⟨⟨by rw [e1, rL_No]; exact List.mem_append_right _ (List.mem_singleton.mpr rfl), by rw [e1, rK_No, if_pos rfl]⟩, ?_⟩
  intro S2 e2 S3 e3 S4 e4 S5 e5' S6 e6
  have ag6 : agr S S6 := by
    rw [e6, e5', e4, e3, e2]
    exact ag_I (ag_I (ag_I (ag_I (ag_I ag1 hq) hq) hq) hq) hq
  have R6 := RP_agree R ag6.1 ag6.2
  simp (disch := first | assumption | omega | (simp only [hN_sG, hN_sY, hN_sV] <;> first | assumption | omega)) only [rd R6, Option.some.injEq, exists_eq_left', true_and, and_true, and_self, ne_eq, not_false_eq_true, not_true_eq_false, false_and, and_false, if_true, if_false, ite_true, ite_false, vin_0, vin_1, vin_2, vin_n, ncl, lit_0, lit_1, lit_2, lit_3, lit_4, lit_9, nm2, nm3, nm4, nm9, na1, na2, na3, na4, hG_sG, hG_sY, hG_sV, hG_sN, hY_sG, hY_sY, hY_sV, hY_sN, hV_sG, hV_sY, hV_sN, hV_sV, hN_sG, hN_sY, hN_sV, hN_sN, hF_sX, hF_sXr, hF_sF, hX_sF, hX_sX, hX_sXr, Nat.reduceEqDiff, Nat.reduceAdd, er_0, er_1, er_2, er_3, er_4, Nat.zero_lt_succ, forall_const, true_implies, false_implies, imp_self, implies_true]
  refine ru_addnew (B := fun _ => q) (lab := fun _ => (1, hN h 1)) (g := fun f => mI S6 f q) (y := fun _ _ => 0) (T := fun _ => 0) R W ag6 (by decide) (fun r hr hg => ?_) (fun f hf hg => rfl) (fun r h4 h8 hg => ?_) (fun f hf hg => ?_) (fun f hf h8 hg => ?_) fun w' S'' R' => ?_
  · have : r = 1 := by
      have : r = 0 ∨ r = 1 ∨ r = 2 ∨ r = 3 ∨ r = 4 ∨ r = 5 ∨ r = 6 ∨ r = 7 ∨ r = 8 := by omega
      rcases this with e | e | e | e | e | e | e | e | e <;> subst e <;> first | rfl | exact absurd hg (by decide)
    subst this
    refine ⟨hq, ?_, ?_, rfl⟩
    · rw [e6, e5', e4, e3, e2, e1]
      simp only [rL_I, rL_No]
      exact List.mem_append_right _ (List.mem_singleton.mpr rfl)
    · rw [e6, e5', e4, e3, e2, e1]
      simp only [rK_I, rK_No, if_true]
      rfl
  · have : r = 4 ∨ r = 5 ∨ r = 6 ∨ r = 7 ∨ r = 8 := by omega
    rcases this with e | e | e | e | e <;> subst e <;> exact absurd hg (by decide)
  · have : f = 0 ∨ f = 1 ∨ f = 2 := by omega
    rcases this with e | e | e <;> subst e <;> exact absurd hg (by decide)
  · have : f = 3 ∨ f = 4 ∨ f = 5 ∨ f = 6 ∨ f = 7 := by omega
    rcases this with e | e | e | e | e <;> subst e <;> exact absurd hg (by decide)
  · refine h1 g g4 _ w' _ _ _ S'' R' ?_ ?_ ?_ ?_ ?_ ?_ <;> (rw [e6, e5', e4, e3, e2, e1]; simp only [rI_I, rI_No, Nat.reduceEqDiff, false_and, if_false, and_self, if_true])
theorem c_addTariff {z A w h m u S} (R : RP z A w h m u S) (W : WF h) {p1 p2 p3 p4 p5 : Int32} {Q : Int32 → mmS → Prop} {X : String → mmS → Prop}
    (h1 : nb p1 10000 ∧ nb p2 10000 ∧ nb p3 10000 ∧ (nb p4 300 ∧ 1 ≤ p4) ∧ (nb p5 300 ∧ 1 ≤ p5) → hN h 0 < 5 → ∀ B w' g y T S', RP z (nwA A 0 (hN h 0) B) w' (cAd h 0 g y T) m u S' → g 15 = nI (hN h 0) → g 16 = p1 → g 17 = p2 → g 18 = p3 → g 19 = p4 → g 20 = p5 → (∀ r j, (r = 4 ∨ r = 5) → y r j = 0) → Q (nI (hN h 0)) S')
    (h2 : ¬ (nb p1 10000 ∧ nb p2 10000 ∧ nb p3 10000 ∧ (nb p4 300 ∧ 1 ≤ p4) ∧ (nb p5 300 ∧ 1 ≤ p5)) → X IAE S) (h3 : nb p1 10000 ∧ nb p2 10000 ∧ nb p3 10000 ∧ (nb p4 300 ∧ 1 ≤ p4) ∧ (nb p5 300 ∧ 1 ≤ p5) → ¬ hN h 0 < 5 → X ISE S) : wp_X4_addTariff z S (A 10 0) p1 p2 p3 p4 p5 Q X := by
  have W1 := W.1
  unfold Wn at W1
  have e5 : hN h (5 + 0) = hN h 0 := W1.2.2.2.2.1
  unfold wp_X4_addTariff
  refine ru_isMoney (fun g1 => ⟨fun q => absurd q (by decide), fun _ => ?_⟩) (fun g1 => ⟨fun _ => h2 fun q => g1 q.1, fun q => absurd rfl q⟩)
  refine ru_isMoney (fun g2 => ⟨fun q => absurd q (by decide), fun _ => ?_⟩) (fun g2 => ⟨fun _ => h2 fun q => g2 q.2.1, fun q => absurd rfl q⟩)
  refine ru_isMoney (fun g3 => ⟨fun _ => ?_, fun q => absurd q (by decide)⟩) (fun g3 => ⟨fun q => absurd rfl q, fun _ => h2 fun q => g3 q.2.2.1⟩)
  refine ru_wi1 300 rfl (by decide) (fun g4 => ⟨fun q => absurd q (by decide), fun _ => ?_⟩) (fun g4 => ⟨fun _ => h2 fun q => g4 q.2.2.2.1, fun q => absurd rfl q⟩)
  refine ru_wi1 300 rfl (by decide) (fun g5 => ⟨fun _ => ?_, fun q => absurd q (by decide)⟩) (fun g5 => ⟨fun q => absurd rfl q, fun _ => h2 fun q => g5 q.2.2.2.2⟩)
  have g := And.intro g1 (And.intro g2 (And.intro g3 (And.intro g4 g5)))
  simp (disch := first | assumption | omega | (simp only [hN_sG, hN_sY, hN_sV] <;> first | assumption | omega)) only [rd R, Option.some.injEq, exists_eq_left', true_and, and_true, and_self, ne_eq, not_false_eq_true, not_true_eq_false, false_and, and_false, if_true, if_false, ite_true, ite_false, vin_0, vin_1, vin_2, vin_n, ncl, lit_0, lit_1, lit_2, lit_3, lit_4, lit_9, nm2, nm3, nm4, nm9, na1, na2, na3, na4, hG_sG, hG_sY, hG_sV, hG_sN, hY_sG, hY_sY, hY_sV, hY_sN, hV_sG, hV_sY, hV_sN, hV_sV, hN_sG, hN_sY, hN_sV, hN_sN, hF_sX, hF_sXr, hF_sF, hX_sF, hX_sX, hX_sXr, Nat.reduceEqDiff, Nat.reduceAdd, er_0, er_1, er_2, er_3, er_4, Nat.zero_lt_succ, forall_const, true_implies, false_implies, imp_self, implies_true]
  refine ru_size R (by decide) ?_
  rw [e5]
  refine ⟨fun g4 => ?_, fun g4 => h3 g fun q => g4 (nI_lt (b := 5) q (by omega))⟩
  have g4 : hN h 0 < 5 := by
    have : nI (hN h 0) < nI 5 := g4
    rw [nlt (by omega) (by omega)] at this; exact this
  simp (disch := first | assumption | omega | (simp only [hN_sG, hN_sY, hN_sV] <;> first | assumption | omega)) only [rd R, Option.some.injEq, exists_eq_left', true_and, and_true, and_self, ne_eq, not_false_eq_true, not_true_eq_false, false_and, and_false, if_true, if_false, ite_true, ite_false, vin_0, vin_1, vin_2, vin_n, ncl, lit_0, lit_1, lit_2, lit_3, lit_4, lit_9, nm2, nm3, nm4, nm9, na1, na2, na3, na4, hG_sG, hG_sY, hG_sV, hG_sN, hY_sG, hY_sY, hY_sV, hY_sN, hV_sG, hV_sY, hV_sN, hV_sV, hN_sG, hN_sY, hN_sV, hN_sN, hF_sX, hF_sXr, hF_sF, hX_sF, hX_sX, hX_sXr, Nat.reduceEqDiff, Nat.reduceAdd, er_0, er_1, er_2, er_3, er_4, Nat.zero_lt_succ, forall_const, true_implies, false_implies, imp_self, implies_true]
  intro q hq S1 e1
  unfold wp_X3_init
  intro q1 hq1 S3 e3
  have m1 : mL S1 = mL S ++ [q] := by rw [e1, rL_No]
  rw [m1] at hq1
  have n1 : q1 ∉ mL S := fun e => hq1 (List.mem_append_left _ e)
  have d1 : ¬ q1 = q := fun e => hq1 (List.mem_append_right _ (List.mem_singleton.mpr e))
  have m3 : mL S3 = mL S ++ [q] ++ [q1] := by rw [e3, rL_Na, m1]
  refine ⟨⟨by rw [m3]; exact List.mem_append_left _ (List.mem_append_right _ (List.mem_singleton.mpr rfl)), by rw [e3, e1, rK_Na, if_neg (fun e => d1 e.symm), rK_No, if_pos rfl]⟩, ?_⟩
  intro S5 e5' q6 hq6 S8 e8 S9 e9 S10 e10 S11 e11 S12 e12 S13 e13 S14 e14 S15 e15
  have m5 : mL S5 = mL S ++ [q] ++ [q1] := by rw [e5', rL_R, m3]
  rw [m5] at hq6
  have n6 : q6 ∉ mL S := fun e => hq6 (List.mem_append_left _ (List.mem_append_left _ e))
  have d6 : ¬ q6 = q := fun e => hq6 (List.mem_append_left _ (List.mem_append_right _ (List.mem_singleton.mpr e)))
  have d16 : ¬ q6 = q1 := fun e => hq6 (List.mem_append_right _ (List.mem_singleton.mpr e))
  have ag : agr S S15 := by
    rw [e15, e14, e13, e12, e11, e10, e9, e8, e5', e3, e1]
    exact ag_I (ag_I (ag_I (ag_I (ag_I (ag_I (ag_R (ag_Na (ag_R (ag_Na (ag_No (ag_refl S) hq) n1) hq) n6) hq) hq) hq) hq) hq) hq) hq
  have R6 := RP_agree R ag.1 ag.2
  have mF : mL S15 = mL S ++ [q] ++ [q1] ++ [q6] := by
    rw [e15, e14, e13, e12, e11, e10, e9, e8]
    simp only [rL_I, rL_R, rL_Na, m5]
  simp (disch := first | assumption | omega | (simp only [hN_sG, hN_sY, hN_sV] <;> first | assumption | omega)) only [rd R6, Option.some.injEq, exists_eq_left', true_and, and_true, and_self, ne_eq, not_false_eq_true, not_true_eq_false, false_and, and_false, if_true, if_false, ite_true, ite_false, vin_0, vin_1, vin_2, vin_n, ncl, lit_0, lit_1, lit_2, lit_3, lit_4, lit_9, nm2, nm3, nm4, nm9, na1, na2, na3, na4, hG_sG, hG_sY, hG_sV, hG_sN, hY_sG, hY_sY, hY_sV, hY_sN, hV_sG, hV_sY, hV_sN, hV_sV, hN_sG, hN_sY, hN_sV, hN_sN, hF_sX, hF_sXr, hF_sF, hX_sF, hX_sX, hX_sXr, Nat.reduceEqDiff, Nat.reduceAdd, er_0, er_1, er_2, er_3, er_4, Nat.zero_lt_succ, forall_const, true_implies, false_implies, imp_self, implies_true]
  refine ru_addnew (B := fun r => if r = 0 then q else if r = 4 then q1 else q6) (lab := fun a => if a = q then (0, hN h 0) else if a = q1 then (4, hN h 0) else (5, hN h 0)) (g := fun f => mI S15 f q) (y := fun r j => mA S15 (if r = 4 then q1 else q6) j) (T := fun _ => 0) R W ag (by decide) (fun r hr hg => ?_) (fun f hf hg => ?_) (fun r h4 h8 hg => ?_) (fun f hf hg => ?_) (fun f hf h8 hg => ?_) fun w' S'' R' => ?_
  · have : r = 0 ∨ r = 4 ∨ r = 5 := by
      have : r = 0 ∨ r = 1 ∨ r = 2 ∨ r = 3 ∨ r = 4 ∨ r = 5 ∨ r = 6 ∨ r = 7 ∨ r = 8 := by omega
      rcases this with e | e | e | e | e | e | e | e | e <;> subst e <;> first | omega | exact absurd hg (by decide)
    rcases this with e | e | e <;> subst e
    · refine ⟨hq, ?_, ?_, if_pos rfl⟩
      · rw [mF]; exact List.mem_append_left _ (List.mem_append_left _ (List.mem_append_right _ (List.mem_singleton.mpr rfl)))
      · rw [e15, e14, e13, e12, e11, e10, e9, e8, e5', e3, e1]
        simp only [rK_I, rK_R, rK_Na, rK_No, if_true, if_neg (fun e => d6 (Eq.symm e)), if_neg (fun e => d1 (Eq.symm e))]
        rfl
    · refine ⟨n1, ?_, ?_, ?_⟩
      · rw [mF]; exact List.mem_append_left _ (List.mem_append_right _ (List.mem_singleton.mpr rfl))
      · rw [e15, e14, e13, e12, e11, e10, e9, e8, e5', e3, e1]
        simp only [rK_I, rK_R, rK_Na, rK_No, Nat.reduceEqDiff, if_true, if_false, if_neg (fun e => d16 (Eq.symm e))]
        rfl
      · exact (if_neg d1).trans (if_pos rfl)
    · refine ⟨n6, ?_, ?_, ?_⟩
      · rw [mF]; exact List.mem_append_right _ (List.mem_singleton.mpr rfl)
      · rw [e15, e14, e13, e12, e11, e10, e9, e8, e5', e3, e1]
        simp only [rK_I, rK_R, rK_Na, rK_No, Nat.reduceEqDiff, if_true, if_false]
        rfl
      · exact (if_neg d6).trans (if_neg d16)
  · have : fr f = 0 := by
      unfold fr at hg ⊢
      by_cases a1 : f < 6
      · rw [if_pos a1] at hg; exact absurd hg (by decide)
      rw [if_neg a1] at hg ⊢
      by_cases a2 : f < 14
      · rw [if_pos a2] at hg; exact absurd hg (by decide)
      rw [if_neg a2] at hg ⊢
      by_cases a3 : f < 15
      · rw [if_pos a3] at hg; exact absurd hg (by decide)
      rw [if_neg a3] at hg ⊢
      by_cases a4 : f < 21
      · rw [if_pos a4]
      rw [if_neg a4] at hg; exact absurd hg (by decide)
    rw [this]; rfl
  · have : r = 4 ∨ r = 5 := by
      have : r = 4 ∨ r = 5 ∨ r = 6 ∨ r = 7 ∨ r = 8 := by omega
      rcases this with e | e | e | e | e <;> subst e <;> first | omega | exact absurd hg (by decide)
    rcases this with e | e <;> subst e
    · refine ⟨?_, fun j => rfl⟩
      rw [e15, e14, e13, e12, e11, e10, e9, e8, e5', e3, e1]
      simp only [rN_I, rN_R, rN_Na, rN_No, Nat.reduceEqDiff, if_true, if_false, if_neg (fun e => d16 (Eq.symm e))]
    · refine ⟨?_, fun j => rfl⟩
      rw [e15, e14, e13, e12, e11, e10, e9, e8, e5', e3, e1]
      simp only [rN_I, rN_R, rN_Na, rN_No, Nat.reduceEqDiff, if_true, if_false]
  · have : f = 0 ∨ f = 1 ∨ f = 2 := by omega
    rcases this with e | e | e <;> subst e <;> exact absurd hg (by decide)
  · have : f = 6 ∨ f = 7 := by
      have : f = 3 ∨ f = 4 ∨ f = 5 ∨ f = 6 ∨ f = 7 := by omega
      rcases this with e | e | e | e | e <;> subst e <;> first | omega | exact absurd hg (by decide)
    rcases this with e | e <;> subst e
    · refine ⟨rfl, ?_⟩
      show mR S15 6 q = some q1
      rw [e15, e14, e13, e12, e11, e10, e9, e8, e5']
      simp only [rR_I, rR_R, rR_Na, Nat.reduceEqDiff, false_and, if_false, and_self, if_true]
    · refine ⟨rfl, ?_⟩
      show mR S15 7 q = some q6
      rw [e15, e14, e13, e12, e11, e10, e9]
      simp only [rR_I, rR_R, rR_Na, Nat.reduceEqDiff, false_and, if_false, and_self, if_true]
  · refine h1 g g4 _ w' _ _ _ S'' R' ?_ ?_ ?_ ?_ ?_ ?_ ?_
    · rw [e15, e14, e13, e12, e11, e10]; simp only [rI_I, Nat.reduceEqDiff, false_and, if_false, and_self, if_true]
    · rw [e15, e14, e13, e12, e11]; simp only [rI_I, Nat.reduceEqDiff, false_and, if_false, and_self, if_true]
    · rw [e15, e14, e13, e12]; simp only [rI_I, Nat.reduceEqDiff, false_and, if_false, and_self, if_true]
    · rw [e15, e14, e13]; simp only [rI_I, Nat.reduceEqDiff, false_and, if_false, and_self, if_true]
    · rw [e15, e14]; simp only [rI_I, Nat.reduceEqDiff, false_and, if_false, and_self, if_true]
    · rw [e15]; simp only [rI_I, and_self, if_true]
    · rintro r j (e | e) <;> subst e
      · rw [e15, e14, e13, e12, e11, e10, e9, e8, e5', e3]
        simp only [rA_I, rA_R, rA_Na, Nat.reduceEqDiff, if_true, if_false, if_neg (fun e => d16 (Eq.symm e))]
      · rw [e15, e14, e13, e12, e11, e10, e9, e8]
        simp only [rA_I, rA_R, rA_Na, Nat.reduceEqDiff, if_true, if_false]
