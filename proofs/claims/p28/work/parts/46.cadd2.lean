theorem c_addLine {z A w h m u S} (R : RP z A w h m u S) (W : WF h) {p q : Int32} {Q : Int32 → mmS → Prop} {X : String → mmS → Prop}
    (h1 : ∀ a, a < hN h 1 → p = nI a → ∀ t, t < hN h 0 → q = nI t → hN h 2 < 8 → ∀ B w' g y T S', RP z (nwA A 2 (hN h 2) B) w' (cAd h 2 g y T) m u S' → g 14 = 0 → T 1 = a → T 2 = t → (∀ j, y 6 j = 0) → Q (nI (hN h 2)) S')
    (h2 : (¬ ∃ a t, a < hN h 1 ∧ p = nI a ∧ t < hN h 0 ∧ q = nI t) → X IOOB S) (h3 : (∃ a t, a < hN h 1 ∧ p = nI a ∧ t < hN h 0 ∧ q = nI t) → ¬ hN h 2 < 8 → X ISE S) : wp_X4_addLine z S (A 10 0) p q Q X := by
  have W1 := W.1
  unfold Wn at W1
  have e5 : hN h (5 + 2) = hN h 2 := W1.2.2.2.2.2.2.1
  unfold wp_X4_addLine
  simp (disch := first | assumption | omega | (simp only [hN_sG, hN_sY, hN_sV] <;> first | assumption | omega)) only [rd R, Option.some.injEq, exists_eq_left', true_and, and_true, and_self, ne_eq, not_false_eq_true, not_true_eq_false, false_and, and_false, if_true, if_false, ite_true, ite_false, vin_0, vin_1, vin_2, vin_n, ncl, lit_0, lit_1, lit_2, lit_3, lit_4, lit_9, nm2, nm3, nm4, nm9, na1, na2, na3, na4, hG_sG, hG_sY, hG_sV, hG_sN, hY_sG, hY_sY, hY_sV, hY_sN, hV_sG, hV_sY, hV_sN, hV_sV, hN_sG, hN_sY, hN_sV, hN_sN, hF_sX, hF_sXr, hF_sF, hX_sF, hX_sX, hX_sXr, Nat.reduceEqDiff, Nat.reduceAdd, er_0, er_1, er_2, er_3, er_4, Nat.zero_lt_succ, forall_const, true_implies, false_implies, imp_self, implies_true]
  refine ru_findAccount R W (fun a ha ea => ?_) (fun g => h2 fun ⟨a, t, ha, e, _⟩ => g a ha e)
  simp (disch := first | assumption | omega | (simp only [hN_sG, hN_sY, hN_sV] <;> first | assumption | omega)) only [rd R, Option.some.injEq, exists_eq_left', true_and, and_true, and_self, ne_eq, not_false_eq_true, not_true_eq_false, false_and, and_false, if_true, if_false, ite_true, ite_false, vin_0, vin_1, vin_2, vin_n, ncl, lit_0, lit_1, lit_2, lit_3, lit_4, lit_9, nm2, nm3, nm4, nm9, na1, na2, na3, na4, hG_sG, hG_sY, hG_sV, hG_sN, hY_sG, hY_sY, hY_sV, hY_sN, hV_sG, hV_sY, hV_sN, hV_sV, hN_sG, hN_sY, hN_sV, hN_sN, hF_sX, hF_sXr, hF_sF, hX_sF, hX_sX, hX_sXr, Nat.reduceEqDiff, Nat.reduceAdd, er_0, er_1, er_2, er_3, er_4, Nat.zero_lt_succ, forall_const, true_implies, false_implies, imp_self, implies_true]
  refine ru_findTariff R W (fun t ht et => ?_) (fun g => h2 fun ⟨a, t, _, _, ht, e⟩ => g t ht e)
  simp (disch := first | assumption | omega | (simp only [hN_sG, hN_sY, hN_sV] <;> first | assumption | omega)) only [rd R, Option.some.injEq, exists_eq_left', true_and, and_true, and_self, ne_eq, not_false_eq_true, not_true_eq_false, false_and, and_false, if_true, if_false, ite_true, ite_false, vin_0, vin_1, vin_2, vin_n, ncl, lit_0, lit_1, lit_2, lit_3, lit_4, lit_9, nm2, nm3, nm4, nm9, na1, na2, na3, na4, hG_sG, hG_sY, hG_sV, hG_sN, hY_sG, hY_sY, hY_sV, hY_sN, hV_sG, hV_sY, hV_sN, hV_sV, hN_sG, hN_sY, hN_sV, hN_sN, hF_sX, hF_sXr, hF_sF, hX_sF, hX_sX, hX_sXr, Nat.reduceEqDiff, Nat.reduceAdd, er_0, er_1, er_2, er_3, er_4, Nat.zero_lt_succ, forall_const, true_implies, false_implies, imp_self, implies_true]
  refine ru_size R (by decide) ?_
  rw [e5]
  refine ⟨fun g4 => ?_, fun g4 => h3 ⟨a, t, ha, ea, ht, et⟩ fun q => g4 (nI_lt (b := 8) q (by omega))⟩
  have g4 : hN h 2 < 8 := by
    have : nI (hN h 2) < nI 8 := g4
    rw [nlt (by omega) (by omega)] at this; exact this
  have hQ := h1 a ha ea t ht et g4
  clear h1 h2 h3
  simp (disch := first | assumption | omega | (simp only [hN_sG, hN_sY, hN_sV] <;> first | assumption | omega)) only [rd R, Option.some.injEq, exists_eq_left', true_and, and_true, and_self, ne_eq, not_false_eq_true, not_true_eq_false, false_and, and_false, if_true, if_false, ite_true, ite_false, vin_0, vin_1, vin_2, vin_n, ncl, lit_0, lit_1, lit_2, lit_3, lit_4, lit_9, nm2, nm3, nm4, nm9, na1, na2, na3, na4, hG_sG, hG_sY, hG_sV, hG_sN, hY_sG, hY_sY, hY_sV, hY_sN, hV_sG, hV_sY, hV_sN, hV_sV, hN_sG, hN_sY, hN_sV, hN_sN, hF_sX, hF_sXr, hF_sF, hX_sF, hX_sX, hX_sXr, Nat.reduceEqDiff, Nat.reduceAdd, er_0, er_1, er_2, er_3, er_4, Nat.zero_lt_succ, forall_const, true_implies, false_implies, imp_self, implies_true]
  intro q hq S1 e1
  unfold wp_X2_init
  intro q1 hq1 S3 e3
  have m1 : mL S1 = mL S ++ [q] := by rw [e1, rL_No]
  rw [m1] at hq1
  have n1 : q1 ∉ mL S := fun e => hq1 (List.mem_append_left _ e)
  have d1 : ¬ q1 = q := fun e => hq1 (List.mem_append_right _ (List.mem_singleton.mpr e))
  have m3 : mL S3 = mL S ++ [q] ++ [q1] := by rw [e3, rL_Na, m1]
  refine ⟨⟨by rw [m3]; exact List.mem_append_left _ (List.mem_append_right _ (List.mem_singleton.mpr rfl)), by rw [e3, e1, rK_Na, if_neg (fun e => d1 e.symm), rK_No, if_pos rfl]⟩, ?_⟩
  intro S5 e5' q6 hq6 S8 e8 S9 e9 q7 hq7 S12 e12 S13 e13 S14 e14 S15 e15
  have m5 : mL S5 = mL S ++ [q] ++ [q1] := by rw [e5', rL_R, m3]
  rw [m5] at hq6
  have n6 : q6 ∉ mL S := fun e => hq6 (List.mem_append_left _ (List.mem_append_left _ e))
  have d6 : ¬ q6 = q := fun e => hq6 (List.mem_append_left _ (List.mem_append_right _ (List.mem_singleton.mpr e)))
  have d16 : ¬ q6 = q1 := fun e => hq6 (List.mem_append_right _ (List.mem_singleton.mpr e))
  have m9 : mL S9 = mL S ++ [q] ++ [q1] ++ [q6] := by rw [e9, rL_R, e8, rL_Na, m5]
  rw [m9] at hq7
  have n7 : q7 ∉ mL S := fun e => hq7 (List.mem_append_left _ (List.mem_append_left _ (List.mem_append_left _ e)))
  have d7 : ¬ q7 = q := fun e => hq7 (List.mem_append_left _ (List.mem_append_left _ (List.mem_append_right _ (List.mem_singleton.mpr e))))
  have d17 : ¬ q7 = q1 := fun e => hq7 (List.mem_append_left _ (List.mem_append_right _ (List.mem_singleton.mpr e)))
  have d67 : ¬ q7 = q6 := fun e => hq7 (List.mem_append_right _ (List.mem_singleton.mpr e))
  have ag : agr S S15 := by
    rw [e15, e14, e13, e12, e9, e8, e5', e3, e1]
    exact ag_R (ag_R (ag_R (ag_Na (ag_R (ag_Na (ag_R (ag_Na (ag_No (ag_refl S) hq) n1) hq) n6) hq) n7) hq) hq) hq
  have R6 := RP_agree R ag.1 ag.2
  have mF : mL S15 = mL S ++ [q] ++ [q1] ++ [q6] ++ [q7] := by
    rw [e15, e14, e13, e12]
    simp only [rL_I, rL_R, rL_Na, m9]
  have s1 := fun e => d1 (Eq.symm e)
  have s6 := fun e => d6 (Eq.symm e)
  have s7 := fun e => d7 (Eq.symm e)
  have s16 := fun e => d16 (Eq.symm e)
  have s17 := fun e => d17 (Eq.symm e)
  have s67 := fun e => d67 (Eq.symm e)
  simp (disch := first | assumption | omega | (simp only [hN_sG, hN_sY, hN_sV] <;> first | assumption | omega)) only [rd R6, Option.some.injEq, exists_eq_left', true_and, and_true, and_self, ne_eq, not_false_eq_true, not_true_eq_false, false_and, and_false, if_true, if_false, ite_true, ite_false, vin_0, vin_1, vin_2, vin_n, ncl, lit_0, lit_1, lit_2, lit_3, lit_4, lit_9, nm2, nm3, nm4, nm9, na1, na2, na3, na4, hG_sG, hG_sY, hG_sV, hG_sN, hY_sG, hY_sY, hY_sV, hY_sN, hV_sG, hV_sY, hV_sN, hV_sV, hN_sG, hN_sY, hN_sV, hN_sN, hF_sX, hF_sXr, hF_sF, hX_sF, hX_sX, hX_sXr, Nat.reduceEqDiff, Nat.reduceAdd, er_0, er_1, er_2, er_3, er_4, Nat.zero_lt_succ, forall_const, true_implies, false_implies, imp_self, implies_true]
  refine ru_addnew (B := fun r => if r = 2 then q else if r = 6 then q1 else if r = 7 then q6 else q7) (lab := fun x => if x = q then (2, hN h 2) else if x = q1 then (6, hN h 2) else if x = q6 then (7, hN h 2) else (8, hN h 2)) (g := fun f => mI S15 f q) (y := fun r j => mA S15 (if r = 6 then q1 else if r = 7 then q6 else q7) j) (T := fun f => if f = 1 then a else t) R W ag (by decide) (fun r hr hg => ?_) (fun f hf hg => ?_) (fun r h4 h8 hg => ?_) (fun f hf hg => ?_) (fun f hf h8 hg => ?_) fun w' S'' R' => ?_
  · have : r = 2 ∨ r = 6 ∨ r = 7 ∨ r = 8 := by
      have : r = 0 ∨ r = 1 ∨ r = 2 ∨ r = 3 ∨ r = 4 ∨ r = 5 ∨ r = 6 ∨ r = 7 ∨ r = 8 := by omega
      rcases this with e | e | e | e | e | e | e | e | e <;> subst e <;> first | omega | exact absurd hg (by decide)
    rcases this with e | e | e | e <;> subst e
    · refine ⟨hq, ?_, ?_, if_pos rfl⟩
      · rw [mF]; exact List.mem_append_left _ (List.mem_append_left _ (List.mem_append_left _ (List.mem_append_right _ (List.mem_singleton.mpr rfl))))
      · rw [e15, e14, e13, e12, e9, e8, e5', e3, e1]
        simp only [rK_I, rK_R, rK_Na, rK_No, if_true, if_neg s6, if_neg s1, if_neg s7]
        rfl
    · refine ⟨n1, ?_, ?_, ?_⟩
      · rw [mF]; exact List.mem_append_left _ (List.mem_append_left _ (List.mem_append_right _ (List.mem_singleton.mpr rfl)))
      · rw [e15, e14, e13, e12, e9, e8, e5', e3, e1]
        simp only [rK_I, rK_R, rK_Na, rK_No, Nat.reduceEqDiff, if_true, if_false, if_neg s16, if_neg s17]
        rfl
      · exact (if_neg d1).trans (if_pos rfl)
    · refine ⟨n6, ?_, ?_, ?_⟩
      · rw [mF]; exact List.mem_append_left _ (List.mem_append_right _ (List.mem_singleton.mpr rfl))
      · rw [e15, e14, e13, e12, e9, e8, e5', e3, e1]
        simp only [rK_I, rK_R, rK_Na, rK_No, Nat.reduceEqDiff, if_true, if_false, if_neg s67]
        rfl
      · exact (if_neg d6).trans ((if_neg d16).trans (if_pos rfl))
    · refine ⟨n7, ?_, ?_, ?_⟩
      · rw [mF]; exact List.mem_append_right _ (List.mem_singleton.mpr rfl)
      · rw [e15, e14, e13, e12, e9, e8, e5', e3, e1]
        simp only [rK_I, rK_R, rK_Na, rK_No, Nat.reduceEqDiff, if_true, if_false]
        rfl
      · exact (if_neg d7).trans ((if_neg d17).trans (if_neg d67))
  · have : fr f = 2 := by
      unfold fr at hg ⊢
      by_cases a1 : f < 6
      · rw [if_pos a1] at hg; exact absurd hg (by decide)
      rw [if_neg a1] at hg ⊢
      by_cases a2 : f < 14
      · rw [if_pos a2] at hg; exact absurd hg (by decide)
      rw [if_neg a2] at hg ⊢
      by_cases a3 : f < 15
      · rw [if_pos a3]
      rw [if_neg a3] at hg
      by_cases a4 : f < 21
      · rw [if_pos a4] at hg; exact absurd hg (by decide)
      rw [if_neg a4] at hg; exact absurd hg (by decide)
    rw [this]; rfl
  · have : r = 6 ∨ r = 7 ∨ r = 8 := by
      have : r = 4 ∨ r = 5 ∨ r = 6 ∨ r = 7 ∨ r = 8 := by omega
      rcases this with e | e | e | e | e <;> subst e <;> first | omega | exact absurd hg (by decide)
    rcases this with e | e | e <;> subst e
    · refine ⟨?_, fun j => rfl⟩
      rw [e15, e14, e13, e12, e9, e8, e5', e3, e1]
      simp only [rN_I, rN_R, rN_Na, rN_No, Nat.reduceEqDiff, if_true, if_false, if_neg s16, if_neg s17]
    · refine ⟨?_, fun j => rfl⟩
      rw [e15, e14, e13, e12, e9, e8, e5', e3, e1]
      simp only [rN_I, rN_R, rN_Na, rN_No, Nat.reduceEqDiff, if_true, if_false, if_neg s67]
    · refine ⟨?_, fun j => rfl⟩
      rw [e15, e14, e13, e12, e9, e8, e5', e3, e1]
      simp only [rN_I, rN_R, rN_Na, rN_No, Nat.reduceEqDiff, if_true, if_false]
  · have : f = 1 ∨ f = 2 := by
      have : f = 0 ∨ f = 1 ∨ f = 2 := by omega
      rcases this with e | e | e <;> subst e <;> first | omega | exact absurd hg (by decide)
    rcases this with e | e <;> subst e
    · refine ⟨ha, ?_⟩
      show mR S15 1 q = some (A 1 a)
      rw [e15, e14]
      simp only [rR_I, rR_R, rR_Na, Nat.reduceEqDiff, false_and, if_false, and_self, if_true]
    · refine ⟨ht, ?_⟩
      show mR S15 2 q = some (A 0 t)
      rw [e15]
      simp only [rR_I, rR_R, rR_Na, Nat.reduceEqDiff, false_and, if_false, and_self, if_true]
  · have : f = 3 ∨ f = 4 ∨ f = 5 := by
      have : f = 3 ∨ f = 4 ∨ f = 5 ∨ f = 6 ∨ f = 7 := by omega
      rcases this with e | e | e | e | e <;> subst e <;> first | omega | exact absurd hg (by decide)
    rcases this with e | e | e <;> subst e
    · refine ⟨rfl, ?_⟩
      show mR S15 3 q = some q1
      rw [e15, e14, e13, e12, e9, e8, e5']
      simp only [rR_I, rR_R, rR_Na, Nat.reduceEqDiff, false_and, if_false, and_self, if_true]
    · refine ⟨rfl, ?_⟩
      show mR S15 4 q = some q6
      rw [e15, e14, e13, e12, e9]
      simp only [rR_I, rR_R, rR_Na, Nat.reduceEqDiff, false_and, if_false, and_self, if_true]
    · refine ⟨rfl, ?_⟩
      show mR S15 5 q = some q7
      rw [e15, e14, e13]
      simp only [rR_I, rR_R, rR_Na, Nat.reduceEqDiff, false_and, if_false, and_self, if_true]
  · refine hQ _ w' _ _ _ S'' R' ?_ rfl rfl ?_
    · rw [e15, e14, e13, e12, e9, e8, e5', e3, e1]; simp only [rI_R, rI_Na, rI_No, if_true]
    · intro j
      show mA S15 q1 j = 0
      rw [e15, e14, e13, e12, e9, e8, e5', e3]
      simp only [rA_I, rA_R, rA_Na, Nat.reduceEqDiff, if_true, if_false, if_neg s16, if_neg s17]
/-- where a new call goes: behind all that begin no later -/
def ipl (c : hC) (mn : Int32) : Nat → Nat → Nat
  | _, 0 => 0
  | j, d + 1 => if mn < hG c 7 (hV c 9 j) then 0 else 1 + ipl c mn (j + 1) d
theorem ru_putInOrder {z A w h m u S} (R : RP z A w h m u S) {n : Nat} (hn9 : hN h 9 = n) (hn : n < hN h 3) (hn60 : n ≤ 60) (hV9 : ∀ k, k < n → hV h 9 k < hN h 3) {Q : mmS → Prop} {X : String → mmS → Prop}
    (hQ : ∀ w' S', RP z A w' (hL h 4 (fun k => if k < ipl h (hG h 7 n) 0 n then hV h 9 k else if k = ipl h (hG h 7 n) 0 n then n else hV h 9 (k - 1)) (n + 1)) m u S' → Q S') : wp_X4_putInOrder z S (A 10 0) (A 3 n) Q X := by
  have e5 : hN h (5 + 4) = n := hn9
  have ile : ∀ d j, ipl h (hG h 7 n) j d ≤ d := by
    intro d
    induction d with
    | zero => intro j; exact Nat.le_refl _
    | succ d ih =>
      intro j
      unfold ipl
      split
      · omega
      · have := ih (j + 1); omega
  have put : wp_Jx4a65c_add_7a177 z S (A 9 4) (nI (ipl h (hG h 7 n) 0 n)) (A 3 n) Q X := by
    exact ru_ins R (j := 4) (i := n) (p := ipl h (hG h 7 n) 0 n) (by decide) e5 hn60 (ile n 0) (fun k hk => hV9 k hk) hn hQ
  have lp : ∀ d j, j + d = n → ipl h (hG h 7 n) 0 n = j + ipl h (hG h 7 n) j d → lp_X4_putInOrder_2 z Q X (d + 1) S (A 10 0) (A 3 n) (nI j) := by
    intro d
    induction d with
    | zero =>
      intro j hj he
      show bk_X4_putInOrder_2 z Q X _ S _ _ _
      unfold bk_X4_putInOrder_2
      simp (disch := first | assumption | omega | (simp only [hN_sG, hN_sY, hN_sV] <;> first | assumption | omega)) only [rd R, Option.some.injEq, exists_eq_left', true_and, and_true, and_self, ne_eq, not_false_eq_true, not_true_eq_false, false_and, and_false, if_true, if_false, ite_true, ite_false, vin_0, vin_1, vin_2, vin_n, ncl, lit_0, lit_1, lit_2, lit_3, lit_4, lit_9, nm2, nm3, nm4, nm9, na1, na2, na3, na4, hG_sG, hG_sY, hG_sV, hG_sN, hY_sG, hY_sY, hY_sV, hY_sN, hV_sG, hV_sY, hV_sN, hV_sV, hN_sG, hN_sY, hN_sV, hN_sN, hF_sX, hF_sXr, hF_sF, hX_sF, hX_sX, hX_sXr, Nat.reduceEqDiff, Nat.reduceAdd, er_0, er_1, er_2, er_3, er_4, Nat.zero_lt_succ, forall_const, true_implies, false_implies, imp_self, implies_true]
      refine ru_size R (by decide) ?_
      rw [e5]
      refine ⟨fun _ => ?_, fun e => absurd (nI_le (by omega) (by omega)) e⟩
      unfold bk_X4_putInOrder_40
      simp (disch := first | assumption | omega | (simp only [hN_sG, hN_sY, hN_sV] <;> first | assumption | omega)) only [rd R, Option.some.injEq, exists_eq_left', true_and, and_true, and_self, ne_eq, not_false_eq_true, not_true_eq_false, false_and, and_false, if_true, if_false, ite_true, ite_false, vin_0, vin_1, vin_2, vin_n, ncl, lit_0, lit_1, lit_2, lit_3, lit_4, lit_9, nm2, nm3, nm4, nm9, na1, na2, na3, na4, hG_sG, hG_sY, hG_sV, hG_sN, hY_sG, hY_sY, hY_sV, hY_sN, hV_sG, hV_sY, hV_sN, hV_sV, hN_sG, hN_sY, hN_sV, hN_sN, hF_sX, hF_sXr, hF_sF, hX_sF, hX_sX, hX_sXr, Nat.reduceEqDiff, Nat.reduceAdd, er_0, er_1, er_2, er_3, er_4, Nat.zero_lt_succ, forall_const, true_implies, false_implies, imp_self, implies_true]
      have : ipl h (hG h 7 n) 0 n = j := by rw [he]; rfl
      rw [this] at put
      exact put
    | succ d ih =>
      intro j hj he
      show bk_X4_putInOrder_2 z Q X (lp_X4_putInOrder_2 z Q X (d + 1)) S _ _ _
      have hj3 : j < n := by omega
      have ho := hV9 j hj3
      unfold bk_X4_putInOrder_2
      simp (disch := first | assumption | omega | (simp only [hN_sG, hN_sY, hN_sV] <;> first | assumption | omega)) only [rd R, Option.some.injEq, exists_eq_left', true_and, and_true, and_self, ne_eq, not_false_eq_true, not_true_eq_false, false_and, and_false, if_true, if_false, ite_true, ite_false, vin_0, vin_1, vin_2, vin_n, ncl, lit_0, lit_1, lit_2, lit_3, lit_4, lit_9, nm2, nm3, nm4, nm9, na1, na2, na3, na4, hG_sG, hG_sY, hG_sV, hG_sN, hY_sG, hY_sY, hY_sV, hY_sN, hV_sG, hV_sY, hV_sN, hV_sV, hN_sG, hN_sY, hN_sV, hN_sN, hF_sX, hF_sXr, hF_sF, hX_sF, hX_sX, hX_sXr, Nat.reduceEqDiff, Nat.reduceAdd, er_0, er_1, er_2, er_3, er_4, Nat.zero_lt_succ, forall_const, true_implies, false_implies, imp_self, implies_true]
      refine ru_size R (by decide) ?_
      rw [e5]
      refine ⟨fun e => absurd e (nI_ge (by omega) (by omega)), fun _ => ?_⟩
      simp (disch := first | assumption | omega | (simp only [hN_sG, hN_sY, hN_sV] <;> first | assumption | omega)) only [rd R, Option.some.injEq, exists_eq_left', true_and, and_true, and_self, ne_eq, not_false_eq_true, not_true_eq_false, false_and, and_false, if_true, if_false, ite_true, ite_false, vin_0, vin_1, vin_2, vin_n, ncl, lit_0, lit_1, lit_2, lit_3, lit_4, lit_9, nm2, nm3, nm4, nm9, na1, na2, na3, na4, hG_sG, hG_sY, hG_sV, hG_sN, hY_sG, hY_sY, hY_sV, hY_sN, hV_sG, hV_sY, hV_sN, hV_sV, hN_sG, hN_sY, hN_sV, hN_sN, hF_sX, hF_sXr, hF_sF, hX_sF, hX_sX, hX_sXr, Nat.reduceEqDiff, Nat.reduceAdd, er_0, er_1, er_2, er_3, er_4, Nat.zero_lt_succ, forall_const, true_implies, false_implies, imp_self, implies_true]
      refine ru_get R (by decide) (by rw [e5]; exact hj3) (by rw [e5]; omega) ?_
      simp (disch := first | assumption | omega | (simp only [hN_sG, hN_sY, hN_sV] <;> first | assumption | omega)) only [rd R, Option.some.injEq, exists_eq_left', true_and, and_true, and_self, ne_eq, not_false_eq_true, not_true_eq_false, false_and, and_false, if_true, if_false, ite_true, ite_false, vin_0, vin_1, vin_2, vin_n, ncl, lit_0, lit_1, lit_2, lit_3, lit_4, lit_9, nm2, nm3, nm4, nm9, na1, na2, na3, na4, hG_sG, hG_sY, hG_sV, hG_sN, hY_sG, hY_sY, hY_sV, hY_sN, hV_sG, hV_sY, hV_sN, hV_sV, hN_sG, hN_sY, hN_sV, hN_sN, hF_sX, hF_sXr, hF_sF, hX_sF, hX_sX, hX_sXr, Nat.reduceEqDiff, Nat.reduceAdd, er_0, er_1, er_2, er_3, er_4, Nat.zero_lt_succ, forall_const, true_implies, false_implies, imp_self, implies_true]
      have hs : ipl h (hG h 7 n) j (d + 1) = if hG h 7 n < hG h 7 (hV h 9 j) then 0 else 1 + ipl h (hG h 7 n) (j + 1) d := rfl
      refine ⟨fun g => ?_, fun g => ?_⟩
      · rw [hs, if_pos g] at he
        unfold bk_X4_putInOrder_40
        simp (disch := first | assumption | omega | (simp only [hN_sG, hN_sY, hN_sV] <;> first | assumption | omega)) only [rd R, Option.some.injEq, exists_eq_left', true_and, and_true, and_self, ne_eq, not_false_eq_true, not_true_eq_false, false_and, and_false, if_true, if_false, ite_true, ite_false, vin_0, vin_1, vin_2, vin_n, ncl, lit_0, lit_1, lit_2, lit_3, lit_4, lit_9, nm2, nm3, nm4, nm9, na1, na2, na3, na4, hG_sG, hG_sY, hG_sV, hG_sN, hY_sG, hY_sY, hY_sV, hY_sN, hV_sG, hV_sY, hV_sN, hV_sV, hN_sG, hN_sY, hN_sV, hN_sN, hF_sX, hF_sXr, hF_sF, hX_sF, hX_sX, hX_sXr, Nat.reduceEqDiff, Nat.reduceAdd, er_0, er_1, er_2, er_3, er_4, Nat.zero_lt_succ, forall_const, true_implies, false_implies, imp_self, implies_true]
        rw [he] at put
        exact put
      · rw [hs, if_neg g] at he
        rintro v rfl
        try rw [na1]
        exact ih (j + 1) (by omega) (by omega)
  unfold wp_X4_putInOrder
  rintro v rfl
  exact ⟨n + 1, lp n 0 (by omega) (by omega)⟩
