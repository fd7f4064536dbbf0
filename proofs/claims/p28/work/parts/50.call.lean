/-! a new call -/
def CA (c d : hC) (l : Nat) (mi se zz : Int32) : Prop :=
  hN d 0 = hN c 0 ∧ hN d 1 = hN c 1 ∧ hN d 2 = hN c 2 ∧ hN d 3 = hN c 3 + 1 ∧ (hN d 5 = hN c 5 ∧ hN d 6 = hN c 6 ∧ hN d 7 = hN c 7 ∧ hN d 8 = hN c 3 + 1 ∧ hN d 9 = hN c 3 + 1)
  ∧ (∀ f i, ¬ (grp (fr f) = 3 ∧ i = hN c 3) → hG d f i = hG c f i) ∧ (∀ r i j, 4 ≤ r → r ≤ 8 → hY d r i j = hY c r i j) ∧ (∀ f i, f = 1 ∨ f = 2 → hV d f i = hV c f i) ∧ (∀ j e, j < 3 → e < hN c (5 + j) → hV d (5 + j) e = hV c (5 + j) e)
  ∧ (∀ i, i < hN c 3 → hV d 0 i = hV c 0 i ∧ hV d 8 i = hV c 8 i) ∧ (hV d 0 (hN c 3) = l ∧ hV d 8 (hN c 3) = hN c 3 ∧ hG d 6 (hN c 3) = nI (hN c 3) ∧ hG d 7 (hN c 3) = mi ∧ hG d 9 (hN c 3) = se ∧ hG d 8 (hN c 3) = zz)
  ∧ ∀ k, hV d 9 k = if k < ipl c mi 0 (hN c 3) then hV c 9 k else if k = ipl c mi 0 (hN c 3) then hN c 3 else hV c 9 (k - 1)
theorem ipl_spec (c : hC) (mi : Int32) : ∀ d j, ipl c mi j d ≤ d ∧ (∀ k, k < ipl c mi j d → ¬ mi < hG c 7 (hV c 9 (j + k))) ∧ (ipl c mi j d < d → mi < hG c 7 (hV c 9 (j + ipl c mi j d)))
  | 0, j => ⟨Nat.le_refl _, fun k hk => absurd hk (Nat.not_lt_zero _), fun h => absurd h (Nat.lt_irrefl _)⟩
  | d + 1, j => by
    obtain ⟨i1, i2, i3⟩ := ipl_spec c mi d (j + 1)
    unfold ipl
    by_cases g : mi < hG c 7 (hV c 9 j)
    · rw [if_pos g]; exact ⟨by omega, fun k hk => by omega, fun _ => g⟩
    · rw [if_neg g]
      refine ⟨by omega, fun k hk => ?_, fun h => ?_⟩
      · by_cases e : k = 0
        · subst e; exact g
        · have := i2 (k - 1) (by omega)
          have e2 : j + 1 + (k - 1) = j + k := by omega
          rw [e2] at this; exact this
      · have := i3 (by omega)
        have e2 : j + (1 + ipl c mi (j + 1) d) = j + 1 + ipl c mi (j + 1) d := by omega
        rw [e2]; exact this
theorem ipl_congr {c d : hC} {mi : Int32} : ∀ n j, (∀ k, k < j + n → hG d 7 (hV d 9 k) = hG c 7 (hV c 9 k)) → ipl d mi j n = ipl c mi j n
  | 0, _, _ => rfl
  | n + 1, j, h => by
    unfold ipl
    rw [h j (by omega), ipl_congr n (j + 1) (fun k hk => h k (by omega))]
theorem sm_ins (a : Nat → Int32) (x : Int32) (P : Nat) : ∀ n, P ≤ n → sm (fun k => if k < P then a k else if k = P then x else a (k - 1)) (n + 1) = sm a n + x
  | 0, h => by
    have : P = 0 := by omega
    subst this; rfl
  | n + 1, h => by
    have e : sm (fun k => if k < P then a k else if k = P then x else a (k - 1)) (n + 1 + 1) = sm (fun k => if k < P then a k else if k = P then x else a (k - 1)) (n + 1) + (if n + 1 < P then a (n + 1) else if n + 1 = P then x else a (n + 1 - 1)) := rfl
    have e2 : sm a (n + 1) = sm a n + a n := rfl
    by_cases g : P ≤ n
    · rw [e, sm_ins a x P n g, if_neg (by omega), if_neg (by omega), e2, Nat.add_sub_cancel, Int32.add_assoc, Int32.add_assoc, Int32.add_comm x]
    · have : P = n + 1 := by omega
      subst this
      rw [e, if_neg (by omega), if_pos rfl]
      congr 1
      refine sm_congr _ fun k hk => ?_
      rw [if_pos hk]
theorem WF_call {c d : hC} (W : WF c) {l : Nat} {mi se zz : Int32} (A : CA c d l mi se zz) (hl : l < hN c 2) (hm : nb mi 43199) (hs : nb se 7200) (hz : nb zz 2) (hn : hN c 3 < 60) : WF d := by
  obtain ⟨n0, n1, n2, n3, ⟨n5, n6, n7, n8, n9⟩, aG, aY, aV, aL, aI, ⟨b1, b2, b3, b4, b5, b6⟩, aO⟩ := A
  obtain ⟨W1, W2, W3, W4, W5, W6⟩ := W
  unfold Wn at W1
  have gg : ∀ f i, fr f ≠ 3 → grp (fr f) ≠ 3 → hG d f i = hG c f i := fun f i _ h => aG f i (fun q => h q.1)
  refine ⟨by unfold Wn; omega, fun t ht => ?_, fun a ha => ?_, fun x hx => ?_, fun i hi => ?_, ?_⟩
  · rw [n0] at ht
    have e5 : hV d 5 t = hV c 5 t := aL 0 t (by omega) (by show t < hN c 5; omega)
    rw [e5, gg 15 t (by decide) (by decide), gg 16 t (by decide) (by decide), gg 17 t (by decide) (by decide), gg 18 t (by decide) (by decide), gg 19 t (by decide) (by decide), gg 20 t (by decide) (by decide)]
    obtain ⟨a1, a2, a3, a4, a5, a6, a7, a8⟩ := W2 t ht
    refine ⟨a1, a2, a3, a4, a5, a6, a7, fun q hq => ?_⟩
    rw [aY 4 _ _ (by omega) (by omega), aY 5 _ _ (by omega) (by omega)]
    exact a8 q hq
  · rw [n1] at ha
    have e5 : hV d 6 a = hV c 6 a := aL 1 a (by omega) (by show a < hN c 6; omega)
    rw [e5, gg 2 a (by decide) (by decide)]
    exact W3 a ha
  · rw [n2] at hx
    have e5 : hV d 7 x = hV c 7 x := aL 2 x (by omega) (by show x < hN c 7; omega)
    rw [e5, aV 1 x (.inl rfl), aV 2 x (.inr rfl), n1, n0]
    exact W4 x hx
  · rw [n2]
    by_cases e : i = hN c 3
    · subst e
      rw [b1, b2, b3, b4, b5, b6]
      exact ⟨rfl, rfl, hl, hm, hs, hz⟩
    · have hic : i < hN c 3 := by omega
      have g3 : ∀ f, hG d f i = hG c f i := fun f => aG f i (fun q => e q.2)
      rw [(aI i hic).1, (aI i hic).2, g3, g3, g3, g3]
      exact W5 i hic
  · obtain ⟨w1, w2, w3, w4, w5⟩ := W6
    obtain ⟨i1, i2, i3⟩ := ipl_spec c mi (hN c 3) 0
    generalize hP : ipl c mi 0 (hN c 3) = P at *
    have srt : ∀ k, P ≤ k → k < hN c 3 → mi < hG c 7 (hV c 9 k) := by
      intro k h1 h2
      have h3 := i3 (by omega)
      rw [Nat.zero_add] at h3
      by_cases e : k = P
      · subst e; exact h3
      · exact Int32.lt_of_lt_of_le h3 (w3 P k (by omega) h2)
    have lo : ∀ k, k < P → hG c 7 (hV c 9 k) ≤ mi := by
      intro k h1
      have := i2 k h1
      rw [Nat.zero_add] at this
      exact Int32.not_lt.mp this
    have vlt : ∀ k, k < P → hV d 9 k = hV c 9 k := fun k h => by rw [aO, if_pos h]
    have veq : hV d 9 P = hN c 3 := by rw [aO, if_neg (by omega), if_pos rfl]
    have vgt : ∀ k, P < k → hV d 9 k = hV c 9 (k - 1) := fun k h => by rw [aO, if_neg (by omega), if_neg (by omega)]
    have g7 : ∀ k, k < hN c 3 → hG d 7 (hV c 9 k) = hG c 7 (hV c 9 k) := fun k hk => aG 7 _ (fun q => by have := w1 k hk; omega)
    refine ⟨fun k hk => ?_, fun k k' hk hk' e => ?_, fun k k' hkk hk' => ?_, fun i hi => ?_, fun f => ?_⟩
    · by_cases h1 : k < P
      · rw [vlt k h1]; have := w1 k (by omega); omega
      · by_cases h2 : k = P
        · subst h2; rw [veq]; omega
        · rw [vgt k (by omega)]; have := w1 (k - 1) (by omega); omega
    · have cls : ∀ k, k < hN c 3 + 1 → (k < P ∧ hV d 9 k = hV c 9 k) ∨ (k = P ∧ hV d 9 k = hN c 3) ∨ (P < k ∧ hV d 9 k = hV c 9 (k - 1)) := by
        intro k hk
        by_cases h1 : k < P
        · exact .inl ⟨h1, vlt k h1⟩
        · by_cases h2 : k = P
          · subst h2; exact .inr (.inl ⟨rfl, veq⟩)
          · exact .inr (.inr ⟨by omega, vgt k (by omega)⟩)
      rcases cls k (by omega) with ⟨p1, p2⟩ | ⟨p1, p2⟩ | ⟨p1, p2⟩ <;> rcases cls k' (by omega) with ⟨q1, q2⟩ | ⟨q1, q2⟩ | ⟨q1, q2⟩ <;> rw [p2, q2] at e
      · exact w2 k k' (by omega) (by omega) e
      · have := w1 k (by omega); omega
      · have := w2 k (k' - 1) (by omega) (by omega) e; omega
      · have := w1 k' (by omega); omega
      · omega
      · have := w1 (k' - 1) (by omega); omega
      · have := w2 (k - 1) k' (by omega) (by omega) e; omega
      · have := w1 (k - 1) (by omega); omega
      · have := w2 (k - 1) (k' - 1) (by omega) (by omega) e; omega
    · by_cases h1 : k' < P
      · rw [vlt k (by omega), vlt k' h1, g7 k (by omega), g7 k' (by omega)]; exact w3 k k' hkk (by omega)
      · by_cases h2 : k' = P
        · subst h2
          rw [vlt k hkk, veq, g7 k (by omega), b4]; exact lo k hkk
        · rw [vgt k' (by omega), g7 (k' - 1) (by omega)]
          by_cases h3 : k < P
          · rw [vlt k h3, g7 k (by omega)]
            by_cases h4 : k = k' - 1
            · rw [← h4]; exact Int32.le_refl _
            · exact w3 k (k' - 1) (by omega) (by omega)
          · by_cases h4 : k = P
            · rw [h4, veq, b4]
              exact Int32.le_of_lt (srt (k' - 1) (by omega) (by omega))
            · rw [vgt k (by omega), g7 (k - 1) (by omega)]
              exact w3 (k - 1) (k' - 1) (by omega) (by omega)
    · by_cases e : i = hN c 3
      · exact ⟨P, by omega, by rw [veq, e]⟩
      · obtain ⟨k, hk, e2⟩ := w4 i (by omega)
        by_cases h1 : k < P
        · exact ⟨k, by omega, by rw [vlt k h1]; exact e2⟩
        · exact ⟨k + 1, by omega, by rw [vgt (k + 1) (by omega)]; exact e2⟩
    · rw [n3]
      have e1 : sm f (hN c 3 + 1) = sm f (hN c 3) + f (hN c 3) := rfl
      rw [e1, ← w5 f, ← sm_ins (fun k => f (hV c 9 k)) (f (hN c 3)) P (hN c 3) i1]
      refine sm_congr _ fun k hk => ?_
      rw [aO]
      split
      · rfl
      · split <;> rfl
theorem c_addCall {z A w h m u S} (R : RP z A w h m u S) (W : WF h) {p mi se zz : Int32} {Q : Int32 → mmS → Prop} {X : String → mmS → Prop}
    (h1 : ∀ l, l < hN h 2 → p = nI l → nb mi 43199 ∧ (nb se 7200 ∧ 1 ≤ se) ∧ nb zz 2 → hN h 3 < 60 → ∀ B w' d h' S', RP z (nwA A 3 (hN h 3) B) w' h' m u S' → CA h d l mi se zz → ST d h' → DK d h' (hN d 3) → Q (nI (hN h 3)) S')
    (h0 : (∀ l, l < hN h 2 → p ≠ nI l) → X IOOB S) (h2 : ∀ l, l < hN h 2 → p = nI l → ¬ (nb mi 43199 ∧ (nb se 7200 ∧ 1 ≤ se) ∧ nb zz 2) → X IAE S) (h3 : ∀ l, l < hN h 2 → p = nI l → nb mi 43199 ∧ (nb se 7200 ∧ 1 ≤ se) ∧ nb zz 2 → ¬ hN h 3 < 60 → X ISE S) : wp_X4_addCall z S (A 10 0) p mi se zz Q X := by
  have W1 := W.1
  unfold Wn at W1
  have e5 : hN h (5 + 3) = hN h 3 := W1.2.2.2.2.2.2.2.1
  unfold wp_X4_addCall
  simp (disch := first | assumption | omega | (simp only [hN_sG, hN_sY, hN_sV] <;> first | assumption | omega)) only [rd R, Option.some.injEq, exists_eq_left', true_and, and_true, and_self, ne_eq, not_false_eq_true, not_true_eq_false, false_and, and_false, if_true, if_false, ite_true, ite_false, vin_0, vin_1, vin_2, vin_n, ncl, lit_0, lit_1, lit_2, lit_3, lit_4, lit_9, nm2, nm3, nm4, nm9, na1, na2, na3, na4, hG_sG, hG_sY, hG_sV, hG_sN, hY_sG, hY_sY, hY_sV, hY_sN, hV_sG, hV_sY, hV_sN, hV_sV, hN_sG, hN_sY, hN_sV, hN_sN, hF_sX, hF_sXr, hF_sF, hX_sF, hX_sX, hX_sXr, Nat.reduceEqDiff, Nat.reduceAdd, er_0, er_1, er_2, er_3, er_4, Nat.zero_lt_succ, forall_const, true_implies, false_implies, imp_self, implies_true]
  refine ru_findLine R W (fun l hl el => ?_) h0
  have h1 := h1 l hl el
  have h2 := h2 l hl el
  have h3 := h3 l hl el
  refine ru_wi0 43199 rfl (by decide) (fun g1 => ⟨fun _ => ?_, fun q => absurd q (by decide)⟩) (fun g1 => ⟨fun q => absurd rfl q, fun _ => h2 fun q => g1 q.1⟩)
  refine ru_wi1 7200 rfl (by decide) (fun g2 => ⟨fun _ => ?_, fun q => absurd q (by decide)⟩) (fun g2 => ⟨fun q => absurd rfl q, fun _ => h2 fun q => g2 q.2.1⟩)
  refine ru_wi0 2 rfl (by decide) (fun g3 => ⟨fun _ => ?_, fun q => absurd q (by decide)⟩) (fun g3 => ⟨fun q => absurd rfl q, fun _ => h2 fun q => g3 q.2.2⟩)
  have g := And.intro g1 (And.intro g2 g3)
  simp (disch := first | assumption | omega | (simp only [hN_sG, hN_sY, hN_sV] <;> first | assumption | omega)) only [rd R, Option.some.injEq, exists_eq_left', true_and, and_true, and_self, ne_eq, not_false_eq_true, not_true_eq_false, false_and, and_false, if_true, if_false, ite_true, ite_false, vin_0, vin_1, vin_2, vin_n, ncl, lit_0, lit_1, lit_2, lit_3, lit_4, lit_9, nm2, nm3, nm4, nm9, na1, na2, na3, na4, hG_sG, hG_sY, hG_sV, hG_sN, hY_sG, hY_sY, hY_sV, hY_sN, hV_sG, hV_sY, hV_sN, hV_sV, hN_sG, hN_sY, hN_sV, hN_sN, hF_sX, hF_sXr, hF_sF, hX_sF, hX_sX, hX_sXr, Nat.reduceEqDiff, Nat.reduceAdd, er_0, er_1, er_2, er_3, er_4, Nat.zero_lt_succ, forall_const, true_implies, false_implies, imp_self, implies_true]
  refine ru_size R (by decide) ?_
  rw [e5]
  refine ⟨fun g4 => ?_, fun g4 => h3 g fun q => g4 (nI_lt (b := 60) q (by omega))⟩
  have g4 : hN h 3 < 60 := by
    have : nI (hN h 3) < nI 60 := g4
    rw [nlt (by omega) (by omega)] at this; exact this
  have hQ := h1 g g4
  clear h1 h2 h3 h0
  intro q hq S1 e1
  have ag1 : agr S S1 := by rw [e1]; exact ag_No (ag_refl S) hq
  unfold wp_X1_init
  refine ⟨⟨by rw [e1, rL_No]; exact List.mem_append_right _ (List.mem_singleton.mpr rfl), by rw [e1, rK_No, if_pos rfl]⟩, ?_⟩
  intro S2 e2 S3 e3 S4 e4 S5 e5' S6 e6
  have ag6 : agr S S6 := by
    rw [e6, e5', e4, e3, e2]
    exact ag_I (ag_I (ag_I (ag_R (ag_I ag1 hq) hq) hq) hq) hq
  have R6 := RP_agree R ag6.1 ag6.2
  simp (disch := first | assumption | omega | (simp only [hN_sG, hN_sY, hN_sV] <;> first | assumption | omega)) only [rd R6, Option.some.injEq, exists_eq_left', true_and, and_true, and_self, ne_eq, not_false_eq_true, not_true_eq_false, false_and, and_false, if_true, if_false, ite_true, ite_false, vin_0, vin_1, vin_2, vin_n, ncl, lit_0, lit_1, lit_2, lit_3, lit_4, lit_9, nm2, nm3, nm4, nm9, na1, na2, na3, na4, hG_sG, hG_sY, hG_sV, hG_sN, hY_sG, hY_sY, hY_sV, hY_sN, hV_sG, hV_sY, hV_sN, hV_sV, hN_sG, hN_sY, hN_sV, hN_sN, hF_sX, hF_sXr, hF_sF, hX_sF, hX_sX, hX_sXr, Nat.reduceEqDiff, Nat.reduceAdd, er_0, er_1, er_2, er_3, er_4, Nat.zero_lt_succ, forall_const, true_implies, false_implies, imp_self, implies_true]
  have hv6 : mI S6 6 q = nI (hN h 3) ∧ mI S6 7 q = mi ∧ mI S6 9 q = se ∧ mI S6 8 q = zz := by
    rw [e6, e5', e4, e3, e2]
    simp only [rI_I, rI_R, Nat.reduceEqDiff, false_and, if_false, and_self, if_true]
  have hr0 : mR S6 0 q = some (A 2 l) := by
    rw [e6, e5', e4, e3]
    simp only [rR_I, rR_R, and_self, if_true]
  refine ru_addnew (B := fun _ => q) (lab := fun _ => (3, hN h 3)) (g := fun f => mI S6 f q) (y := fun _ _ => 0) (T := fun _ => l) R W ag6 (by decide) (fun r hr hg => ?_) (fun f hf hg => rfl) (fun r h4 h8 hg => ?_) (fun f hf hg => ?_) (fun f hf h8 hg => ?_) fun w' S'' R' => ?_
  · have : r = 3 := by
      have : r = 0 ∨ r = 1 ∨ r = 2 ∨ r = 3 ∨ r = 4 ∨ r = 5 ∨ r = 6 ∨ r = 7 ∨ r = 8 := by omega
      rcases this with e | e | e | e | e | e | e | e | e <;> subst e <;> first | rfl | exact absurd hg (by decide)
    subst this
    refine ⟨hq, ?_, ?_, rfl⟩
    · rw [e6, e5', e4, e3, e2, e1]
      simp only [rL_I, rL_R, rL_No]
      exact List.mem_append_right _ (List.mem_singleton.mpr rfl)
    · rw [e6, e5', e4, e3, e2, e1]
      simp only [rK_I, rK_R, rK_No, if_true]
      rfl
  · have : r = 4 ∨ r = 5 ∨ r = 6 ∨ r = 7 ∨ r = 8 := by omega
    rcases this with e | e | e | e | e <;> subst e <;> exact absurd hg (by decide)
  · have : f = 0 := by
      have : f = 0 ∨ f = 1 ∨ f = 2 := by omega
      rcases this with e | e | e <;> subst e <;> first | rfl | exact absurd hg (by decide)
    subst this
    exact ⟨hl, hr0⟩
  · have : f = 3 ∨ f = 4 ∨ f = 5 ∨ f = 6 ∨ f = 7 := by omega
    rcases this with e | e | e | e | e <;> subst e <;> exact absurd hg (by decide)
  · have N := NW_of (h := h) (k := 3) (g := fun f => mI S6 f q) (y := fun _ _ => 0) (T := fun _ => l) (by decide) e5
    have gv : ∀ f, grp (fr f) = 3 → hG (cAd h 3 (fun f => mI S6 f q) (fun _ _ => 0) (fun _ => l)) f (hN h 3) = mI S6 f q := by
      intro f hf; rw [hL_G, nwH_G, if_pos ⟨hf, rfl⟩]
    have v0 : hV (cAd h 3 (fun f => mI S6 f q) (fun _ _ => 0) (fun _ => l)) 0 (hN h 3) = l := by
      rw [hL_V, if_neg (by omega), nwH_V, if_pos ⟨by omega, rfl, rfl⟩]
    have v9 : ∀ k, hV (cAd h 3 (fun f => mI S6 f q) (fun _ _ => 0) (fun _ => l)) 9 k = hV h 9 k := by
      intro k; rw [hL_V, if_neg (by omega), nwH_V, if_neg (by omega)]
    have n9 : hN (cAd h 3 (fun f => mI S6 f q) (fun _ _ => 0) (fun _ => l)) 9 = hN h 3 := by
      rw [hL_N, if_neg (by omega), nwH_N, if_neg (by omega)]; omega
    generalize cAd h 3 (fun f => mI S6 f q) (fun _ _ => 0) (fun _ => l) = d1 at *
    obtain ⟨n1, n2, n3, n4, n5, n6⟩ := N
    have a10 : nwA A 3 (hN h 3) (fun _ => q) 10 0 = A 10 0 := by
      unfold nwA; rw [if_neg (fun q => absurd q.1 (by decide))]
    have a3 : nwA A 3 (hN h 3) (fun _ => q) 3 (hN h 3) = q := by
      unfold nwA; rw [if_pos ⟨rfl, rfl⟩]
    have d3 : hN d1 3 = hN h 3 + 1 := by rw [n1 3 (by omega), if_pos (.inl rfl)]
    have m10 := R'.1 10 0 (by decide) Nat.zero_lt_one
    rw [a10] at m10
    refine ⟨⟨m10.1, m10.2.1⟩, ?_⟩
    have c7 : ∀ k, k < hN h 3 → hG d1 7 (hV d1 9 k) = hG h 7 (hV h 9 k) := by
      intro k hk
      rw [v9]
      exact n2 7 _ (fun q => by have := W.2.2.2.2.2.1 k hk; omega)
    have key := ru_putInOrder R' (n := hN h 3) n9 (by omega) (by omega) (fun k hk => by rw [v9, d3]; have := W.2.2.2.2.2.1 k hk; omega)
      (Q := fun S26 => (A 10 0 ∈ mL S26 ∧ mK S26 (A 10 0) = 4) ∧ wp_X4_rateAll z S26 (A 10 0) (fun S28 => Q (nI (hN h 3)) S28) X) (X := X) (fun w2 S2' R2 => ?_)
    · rw [a10, a3] at key
      exact key
    · have m10 := R2.1 10 0 (by decide) Nat.zero_lt_one
      rw [a10] at m10
      refine ⟨⟨m10.1, m10.2.1⟩, ?_⟩
      have ip : ipl d1 (hG d1 7 (hN h 3)) 0 (hN h 3) = ipl h mi 0 (hN h 3) := by
        rw [gv 7 rfl, hv6.2.1]
        exact ipl_congr _ _ (fun k hk => c7 k (by omega))
      rw [ip] at R2
      have ca : CA h (hL d1 4 (fun k => if k < ipl h mi 0 (hN h 3) then hV d1 9 k else if k = ipl h mi 0 (hN h 3) then hN h 3 else hV d1 9 (k - 1)) (hN h 3 + 1)) l mi se zz := by
        have nn : ∀ k, k < 9 → hN (hL d1 4 (fun k => if k < ipl h mi 0 (hN h 3) then hV d1 9 k else if k = ipl h mi 0 (hN h 3) then hN h 3 else hV d1 9 (k - 1)) (hN h 3 + 1)) k = hN d1 k := by
          intro k hk; rw [hL_N, if_neg (by omega)]
        have vv : ∀ k i, k < 9 → hV (hL d1 4 (fun k => if k < ipl h mi 0 (hN h 3) then hV d1 9 k else if k = ipl h mi 0 (hN h 3) then hN h 3 else hV d1 9 (k - 1)) (hN h 3 + 1)) k i = hV d1 k i := by
          intro k i hk; rw [hL_V, if_neg (by omega)]
        refine ⟨?_, ?_, ?_, ?_, ⟨?_, ?_, ?_, ?_, ?_⟩, ?_, ?_, ?_, ?_, ?_, ⟨?_, ?_, ?_, ?_, ?_, ?_⟩, ?_⟩
        · rw [nn _ (by omega), n1 0 (by omega), if_neg (by omega)]
        · rw [nn _ (by omega), n1 1 (by omega), if_neg (by omega)]
        · rw [nn _ (by omega), n1 2 (by omega), if_neg (by omega)]
        · rw [nn _ (by omega), d3]
        · rw [nn _ (by omega), n1 5 (by omega), if_neg (by omega)]
        · rw [nn _ (by omega), n1 6 (by omega), if_neg (by omega)]
        · rw [nn _ (by omega), n1 7 (by omega), if_neg (by omega)]
        · rw [nn _ (by omega), n1 8 (by omega), if_pos (by omega)]; omega
        · rw [hL_N, if_pos rfl]
        · intro f i hf; rw [hL_G]; exact n2 f i hf
        · intro r i j h4 h8; rw [hL_Y]
          refine n3 r i j (fun q => ?_)
          have : r = 4 ∨ r = 5 ∨ r = 6 ∨ r = 7 ∨ r = 8 := by omega
          rcases this with e | e | e | e | e <;> subst e <;> exact absurd q.1 (by decide)
        · intro f i hf
          rw [vv f i (by omega)]
          refine n4 f i (by omega) (fun q => ?_)
          rcases hf with e | e <;> subst e <;> exact absurd q.1 (by decide)
        · intro j e hj he; rw [vv _ _ (by omega)]; exact n5 j e (by omega) he
        · intro i hi
          rw [vv _ _ (by omega), vv _ _ (by omega)]
          exact ⟨n4 0 i (by omega) (fun q => by omega), n5 3 i (by omega) (by show i < hN h 8; omega)⟩
        · rw [vv _ _ (by omega)]; exact v0
        · rw [vv _ _ (by omega)]; exact n6
        · rw [hL_G, gv 6 rfl]; exact hv6.1
        · rw [hL_G, gv 7 rfl]; exact hv6.2.1
        · rw [hL_G, gv 9 rfl]; exact hv6.2.2.1
        · rw [hL_G, gv 8 rfl]; exact hv6.2.2.2
        · intro k; rw [hL_V, if_pos rfl, v9, v9]
      have Wd := WF_call W ca hl g.1 g.2.1.1 g.2.2 g4
      have rr := ru_rateAll R2 (ST_refl _) Wd (Q := fun S28 => Q (nI (hN h 3)) S28) (X := X) (fun h' S' R3 s3 D3 => hQ _ _ _ h' S' R3 ca s3 D3)
      rw [a10] at rr
      exact rr
