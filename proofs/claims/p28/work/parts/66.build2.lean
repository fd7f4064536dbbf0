/-- the accounts' thresholds and percentages, as the law has them -/
def TH (h : hC) (m : hM) : Prop := ∀ a, a < hN h 1 → hG h 0 a = hX m 2 (3 * a + 1) ∧ nb (hG h 0 a) 1000000 ∧ nb (hG h 1 a) 100
theorem TH_X {h : hC} {m : hM} (T : TH h m) {f j : Nat} {v : Int32} (hj : f = 2 → 3 * hN h 1 ≤ j) : TH h (hsX m f j v) := by
  intro a ha
  obtain ⟨h1, h2, h3⟩ := T a ha
  refine ⟨?_, h2, h3⟩
  rw [hX_sX, if_neg, h1]
  rintro ⟨e1, e2⟩
  have := hj e1.symm
  omega
theorem b_487 {z L} {xs : Nat → Int32} {Q : Int32 → mmS → Prop} {X : String → mmS → Prop} {K : mmS → Nat → Int32 → Nat → Nat → Nat → Int32 → Prop} {A : Nat → Nat → Nat} {w h m S} {a b c p : Nat} {v : Int32} (R : RP z A w h m 5 S) (I : LI h) (n1 : hN h 1 = a) (ha : a < 2) (T : TH h m) (eb : hX m 2 (3 * a) = nI b) (hb : b ≤ 2499) (ec : hX m 2 (3 * a + 1) = nI c) (hc : c ≤ 2999) (ev : v = nI p) (hp : p ≤ 100)
    (hK : ∀ A' w' h' m' S', RP z A' w' h' m' 5 S' → LI h' → FX A' A → hN h' 1 = a + 1 → (∀ k, k ≠ 1 → k < 4 → hN h' k = hN h k) → TH h' m' → (∀ j, hX m' 0 j = hX m 0 j) → K S' (A' 10 0) 0 (A' 11 0) (A' 11 2) (A' 11 3) (nI (a + 1))) :
    bk_L_build_487 z L xs Q X K S (A 10 0) 0 (A 11 0) (A 11 2) (A 11 3) (nI a) (A 11 2) (((3 : Int32) * nI a) + 2) v := by
  subst ev
  unfold bk_L_build_487
  simp (disch := first | assumption | omega | (simp only [hN_sG, hN_sY, hN_sV] <;> first | assumption | omega)) only [rd R, Option.some.injEq, exists_eq_left', true_and, and_true, and_self, ne_eq, not_false_eq_true, not_true_eq_false, false_and, and_false, if_true, if_false, ite_true, ite_false, vin_0, vin_1, vin_2, vin_n, ncl, lit_0, lit_1, lit_2, lit_3, lit_4, lit_9, nm2, nm3, nm4, nm9, na1, na2, na3, na4, hG_sG, hG_sY, hG_sV, hG_sN, hY_sG, hY_sY, hY_sV, hY_sN, hV_sG, hV_sY, hV_sN, hV_sV, hN_sG, hN_sY, hN_sV, hN_sN, hF_sX, hF_sXr, hF_sF, hX_sF, hX_sX, hX_sXr, Nat.reduceEqDiff, Nat.reduceAdd, er_0, er_1, er_2, er_3, er_4, Nat.zero_lt_succ, forall_const, true_implies, false_implies, imp_self, implies_true]
  refine up_X R (by decide) fun S3 R3 => ?_
  have d1 : (3 * a = 3 * a + 2) = False := eq_false (by omega)
  have d2 : (3 * a + 1 = 3 * a + 2) = False := eq_false (by omega)
  simp (disch := first | assumption | omega | (simp only [hN_sG, hN_sY, hN_sV] <;> first | assumption | omega)) only [rd R3, Option.some.injEq, exists_eq_left', true_and, and_true, and_self, ne_eq, not_false_eq_true, not_true_eq_false, false_and, and_false, if_true, if_false, ite_true, ite_false, vin_0, vin_1, vin_2, vin_n, ncl, lit_0, lit_1, lit_2, lit_3, lit_4, lit_9, nm2, nm3, nm4, nm9, na1, na2, na3, na4, hG_sG, hG_sY, hG_sV, hG_sN, hY_sG, hY_sY, hY_sV, hY_sN, hV_sG, hV_sY, hV_sN, hV_sV, hN_sG, hN_sY, hN_sV, hN_sN, hF_sX, hF_sXr, hF_sF, hX_sF, hX_sX, hX_sXr, Nat.reduceEqDiff, Nat.reduceAdd, er_0, er_1, er_2, er_3, er_4, Nat.zero_lt_succ, forall_const, true_implies, false_implies, imp_self, implies_true, d1, d2, eb, ec]
  refine a_addAccount R3 I ⟨nb_n (by omega), nb_n (by omega), nb_n (by omega)⟩ (by omega) fun A' w' h' S' R' I' fx N1 N gg g0 g1 => ⟨fun _ => ?_, fun g => absurd (by rw [n1]) g⟩
  rintro v rfl
  rw [n1] at N1 g0 g1 gg
  have key := hK A' w' h' _ S' R' I' fx N1 N (fun x hx => ?_) (fun j => by rw [hX_sX, if_neg (fun e => absurd e.1 (by decide))])
  · rw [fx 10 0 (by omega), fx 11 0 (by omega), fx 11 2 (by omega), fx 11 3 (by omega)] at key
    exact key
  · rw [N1] at hx
    by_cases e : x = a
    · subst e
      rw [g0, g1, hX_sX, if_neg (fun q => by omega), ec]
      exact ⟨rfl, nb_n (by omega), nb_n hp⟩
    · obtain ⟨t1, t2, t3⟩ := T x (by omega)
      obtain ⟨u1, u2⟩ := gg x (by omega)
      rw [u1, u2, hX_sX, if_neg (fun q => by omega)]
      exact ⟨t1, t2, t3⟩
theorem b_432 {z L} {xs : Nat → Int32} {Q : Int32 → mmS → Prop} {X : String → mmS → Prop} {K : mmS → Nat → Int32 → Nat → Nat → Nat → Int32 → Prop} {A : Nat → Nat → Nat} {w h m S} {a b : Nat} {v x8 : Int32} (R : RP z A w h m 5 S) (I : LI h) (n1 : hN h 1 = a) (ha : a < 2) (T : TH h m) (ev : v = nI b) (hb : b ≤ 2499)
    (hK : ∀ A' w' h' m' S', RP z A' w' h' m' 5 S' → LI h' → FX A' A → hN h' 1 = a + 1 → (∀ k, k ≠ 1 → k < 4 → hN h' k = hN h k) → TH h' m' → (∀ j, hX m' 0 j = hX m 0 j) → K S' (A' 10 0) 0 (A' 11 0) (A' 11 2) (A' 11 3) (nI (a + 1))) :
    bk_L_build_432 z L xs Q X K S (A 10 0) 0 (A 11 0) (A 11 2) (A 11 3) (nI a) x8 (A 11 2) ((3 : Int32) * nI a) v := by
  subst ev
  unfold bk_L_build_432
  simp (disch := first | assumption | omega | (simp only [hN_sG, hN_sY, hN_sV] <;> first | assumption | omega)) only [rd R, Option.some.injEq, exists_eq_left', true_and, and_true, and_self, ne_eq, not_false_eq_true, not_true_eq_false, false_and, and_false, if_true, if_false, ite_true, ite_false, vin_0, vin_1, vin_2, vin_n, ncl, lit_0, lit_1, lit_2, lit_3, lit_4, lit_9, nm2, nm3, nm4, nm9, na1, na2, na3, na4, hG_sG, hG_sY, hG_sV, hG_sN, hY_sG, hY_sY, hY_sV, hY_sN, hV_sG, hV_sY, hV_sN, hV_sV, hN_sG, hN_sY, hN_sV, hN_sN, hF_sX, hF_sXr, hF_sF, hX_sF, hX_sX, hX_sXr, Nat.reduceEqDiff, Nat.reduceAdd, er_0, er_1, er_2, er_3, er_4, Nat.zero_lt_succ, forall_const, true_implies, false_implies, imp_self, implies_true]
  refine up_X R (by decide) fun S3 R3 => ?_
  refine ru_below 3000 rfl (by decide) (by decide) fun r5 h5 => ?_
  simp (disch := first | assumption | omega | (simp only [hN_sG, hN_sY, hN_sV] <;> first | assumption | omega)) only [rd R3, Option.some.injEq, exists_eq_left', true_and, and_true, and_self, ne_eq, not_false_eq_true, not_true_eq_false, false_and, and_false, if_true, if_false, ite_true, ite_false, vin_0, vin_1, vin_2, vin_n, ncl, lit_0, lit_1, lit_2, lit_3, lit_4, lit_9, nm2, nm3, nm4, nm9, na1, na2, na3, na4, hG_sG, hG_sY, hG_sV, hG_sN, hY_sG, hY_sY, hY_sV, hY_sN, hV_sG, hV_sY, hV_sN, hV_sV, hN_sG, hN_sY, hN_sV, hN_sN, hF_sX, hF_sXr, hF_sF, hX_sF, hX_sX, hX_sXr, Nat.reduceEqDiff, Nat.reduceAdd, er_0, er_1, er_2, er_3, er_4, Nat.zero_lt_succ, forall_const, true_implies, false_implies, imp_self, implies_true]
  refine up_X R3 (by decide) fun S8 R8 => ?_
  have T8 : TH h (hsX (hsX m 2 (3 * a) (nI b)) 2 (3 * a + 1) (nI r5)) := TH_X (TH_X T (fun _ => by omega)) (fun _ => by omega)
  have eb : hX (hsX (hsX m 2 (3 * a) (nI b)) 2 (3 * a + 1) (nI r5)) 2 (3 * a) = nI b := by
    rw [hX_sX, if_neg (fun e => by omega), hX_sX, if_pos ⟨rfl, rfl⟩]
  have ec : hX (hsX (hsX m 2 (3 * a) (nI b)) 2 (3 * a + 1) (nI r5)) 2 (3 * a + 1) = nI r5 := by
    rw [hX_sX, if_pos ⟨rfl, rfl⟩]
  have ej : ∀ j, hX (hsX (hsX m 2 (3 * a) (nI b)) 2 (3 * a + 1) (nI r5)) 0 j = hX m 0 j := by
    intro j
    rw [hX_sX, if_neg (fun e => absurd e.1 (by decide)), hX_sX, if_neg (fun e => absurd e.1 (by decide))]
  have e3 : nI (3 * a + 2) = (3 : Int32) * nI a + 2 := by rw [nm3, na2]
  refine ru_below 3 rfl (by decide) (by decide) fun r10 h10 => ⟨fun _ => ?_, fun _ => ?_⟩
  · try rw [e3]
    exact b_487 R8 I n1 ha T8 eb hb ec (by omega) (p := 10) rfl (by decide) (fun A' w' h' m' S' R' I' F' N1 N T' x' => hK A' w' h' m' S' R' I' F' N1 N T' (fun j => (x' j).trans (ej j)))
  · refine ru_below 101 rfl (by decide) (by decide) fun r12 h12 => ?_
    try rw [e3]
    exact b_487 R8 I n1 ha T8 eb hb ec (by omega) (p := r12) rfl (by omega) (fun A' w' h' m' S' R' I' F' N1 N T' x' => hK A' w' h' m' S' R' I' F' N1 N T' (fun j => (x' j).trans (ej j)))
theorem b_accounts {z L} (hL : L ≤ 260) {xs : Nat → Int32} {Q : Int32 → mmS → Prop} {X : String → mmS → Prop} {A0 : Nat → Nat → Nat} {nt na : Nat} (hna : 1 ≤ na ∧ na ≤ 2)
    (hQ : ∀ A w h m S, RP z A w h m 5 S → LI h → FX A A0 → hN h 0 = nt → hN h 1 = na → hN h 2 = 0 → hN h 3 = 0 → hX m 0 0 = nI nt → hX m 0 1 = nI na → TH h m → bk_L_build_530 z L xs Q X S (A 10 0) 0 (A 11 0) (A 11 3)) :
    ∀ d a A w h m S, a + d = na → RP z A w h m 5 S → LI h → FX A A0 → hN h 0 = nt → hN h 1 = a → hN h 2 = 0 → hN h 3 = 0 → hX m 0 0 = nI nt → hX m 0 1 = nI na → TH h m → ∀ e, lp_L_build_383 z L xs Q X (d + 1 + e) S (A 10 0) 0 (A 11 0) (A 11 2) (A 11 3) (nI a) := by
  intro d
  induction d with
  | zero =>
    intro a A w h m S htd R I F n0 n1 n2 n3 hx hx1 T e
    have e0 : 0 + 1 + e = e + 1 := by omega
    rw [e0]
    show bk_L_build_383 z L xs Q X _ S _ _ _ _ _ _
    unfold bk_L_build_383
    simp (disch := first | assumption | omega | (simp only [hN_sG, hN_sY, hN_sV] <;> first | assumption | omega)) only [rd R, Option.some.injEq, exists_eq_left', true_and, and_true, and_self, ne_eq, not_false_eq_true, not_true_eq_false, false_and, and_false, if_true, if_false, ite_true, ite_false, vin_0, vin_1, vin_2, vin_n, ncl, lit_0, lit_1, lit_2, lit_3, lit_4, lit_9, nm2, nm3, nm4, nm9, na1, na2, na3, na4, hG_sG, hG_sY, hG_sV, hG_sN, hY_sG, hY_sY, hY_sV, hY_sN, hV_sG, hV_sY, hV_sN, hV_sV, hN_sG, hN_sY, hN_sV, hN_sN, hF_sX, hF_sXr, hF_sF, hX_sF, hX_sX, hX_sXr, Nat.reduceEqDiff, Nat.reduceAdd, er_0, er_1, er_2, er_3, er_4, Nat.zero_lt_succ, forall_const, true_implies, false_implies, imp_self, implies_true, hx1]
    refine ⟨fun _ => hQ A w h m S R I F n0 (by omega) n2 n3 hx hx1 T, fun g => absurd (nI_le (by omega) (by omega)) g⟩
  | succ d ih =>
    intro a A w h m S htd R I F n0 n1 n2 n3 hx hx1 T e
    have e0 : d + 1 + 1 + e = (d + 1 + e) + 1 := by omega
    rw [e0]
    show bk_L_build_383 z L xs Q X (lp_L_build_383 z L xs Q X (d + 1 + e)) S _ _ _ _ _ _
    unfold bk_L_build_383
    simp (disch := first | assumption | omega | (simp only [hN_sG, hN_sY, hN_sV] <;> first | assumption | omega)) only [rd R, Option.some.injEq, exists_eq_left', true_and, and_true, and_self, ne_eq, not_false_eq_true, not_true_eq_false, false_and, and_false, if_true, if_false, ite_true, ite_false, vin_0, vin_1, vin_2, vin_n, ncl, lit_0, lit_1, lit_2, lit_3, lit_4, lit_9, nm2, nm3, nm4, nm9, na1, na2, na3, na4, hG_sG, hG_sY, hG_sV, hG_sN, hY_sG, hY_sY, hY_sV, hY_sN, hV_sG, hV_sY, hV_sN, hV_sV, hN_sG, hN_sY, hN_sV, hN_sN, hF_sX, hF_sXr, hF_sF, hX_sF, hX_sX, hX_sXr, Nat.reduceEqDiff, Nat.reduceAdd, er_0, er_1, er_2, er_3, er_4, Nat.zero_lt_succ, forall_const, true_implies, false_implies, imp_self, implies_true, hx1]
    refine ⟨fun g => absurd g (nI_ge (by omega) (by omega)), fun _ => ?_⟩
    refine ru_cell (k := 4 + a) ?_ (by omega) hL fun r4 => ?_
    · rw [show ((0 : Int32) + 4) = nI 4 from rfl, nI_add]
    have e3 : nI (3 * a) = (3 : Int32) * nI a := (nm3 a).symm
    have hK : ∀ A' w' h' m' S', RP z A' w' h' m' 5 S' → LI h' → FX A' A → hN h' 1 = a + 1 → (∀ k, k ≠ 1 → k < 4 → hN h' k = hN h k) → TH h' m' → (∀ j, hX m' 0 j = hX m 0 j) → lp_L_build_383 z L xs Q X (d + 1 + e) S' (A' 10 0) 0 (A' 11 0) (A' 11 2) (A' 11 3) (nI (a + 1)) := by
      intro A' w' h' m' S' R' I' F' N1 N T' x'
      exact ih (a + 1) A' w' h' m' S' (by omega) R' I' (FX_tr F F') (by rw [N 0 (by omega) (by omega)]; exact n0) N1 (by rw [N 2 (by omega) (by omega)]; exact n2) (by rw [N 3 (by omega) (by omega)]; exact n3) (by rw [x']; exact hx) (by rw [x']; exact hx1) T' e
    refine ru_below 3 rfl (by decide) (by decide) fun r6 h6 => ⟨fun _ => ?_, fun _ => ?_⟩
    · refine ru_below 2500 rfl (by decide) (by decide) fun r8 h8 => ?_
      try rw [e3]
      exact b_432 R I n1 (by omega) T (b := r8) rfl (by omega) hK
    · try rw [e3]
      exact b_432 R I n1 (by omega) T (b := 0) rfl (by omega) hK
theorem b_lines {z L} (hL : L ≤ 260) {xs : Nat → Int32} {Q : Int32 → mmS → Prop} {X : String → mmS → Prop} {A0 : Nat → Nat → Nat} {nt na nl : Nat} (hnt : 1 ≤ nt ∧ nt ≤ 3) (hna : 1 ≤ na ∧ na ≤ 2) (hnl : 1 ≤ nl ∧ nl ≤ 4)
    (hQ : ∀ A w h m S, RP z A w h m 5 S → LI h → FX A A0 → hN h 0 = nt → hN h 1 = na → hN h 2 = nl → hN h 3 = 0 → hX m 0 1 = nI na → hX m 0 2 = nI nl → TH h m → Q 1 S) :
    ∀ d l A w h m S, l + d = nl → RP z A w h m 5 S → LI h → FX A A0 → hN h 0 = nt → hN h 1 = na → hN h 2 = l → hN h 3 = 0 → hX m 0 0 = nI nt → hX m 0 1 = nI na → hX m 0 2 = nI nl → TH h m → ∀ e, lp_L_build_550 z L xs Q X (d + 1 + e) S (A 10 0) 0 (A 11 0) (A 11 3) (nI l) := by
  intro d
  induction d with
  | zero =>
    intro l A w h m S htd R I F n0 n1 n2 n3 hx hx1 hx2 T e
    have e0 : 0 + 1 + e = e + 1 := by omega
    rw [e0]
    show bk_L_build_550 z L xs Q X _ S _ _ _ _ _
    unfold bk_L_build_550
    simp (disch := first | assumption | omega | (simp only [hN_sG, hN_sY, hN_sV] <;> first | assumption | omega)) only [rd R, Option.some.injEq, exists_eq_left', true_and, and_true, and_self, ne_eq, not_false_eq_true, not_true_eq_false, false_and, and_false, if_true, if_false, ite_true, ite_false, vin_0, vin_1, vin_2, vin_n, ncl, lit_0, lit_1, lit_2, lit_3, lit_4, lit_9, nm2, nm3, nm4, nm9, na1, na2, na3, na4, hG_sG, hG_sY, hG_sV, hG_sN, hY_sG, hY_sY, hY_sV, hY_sN, hV_sG, hV_sY, hV_sN, hV_sV, hN_sG, hN_sY, hN_sV, hN_sN, hF_sX, hF_sXr, hF_sF, hX_sF, hX_sX, hX_sXr, Nat.reduceEqDiff, Nat.reduceAdd, er_0, er_1, er_2, er_3, er_4, Nat.zero_lt_succ, forall_const, true_implies, false_implies, imp_self, implies_true, hx2]
    refine ⟨fun _ => hQ A w h m S R I F n0 n1 (by omega) n3 hx1 hx2 T, fun g => absurd (nI_le (by omega) (by omega)) g⟩
  | succ d ih =>
    intro l A w h m S htd R I F n0 n1 n2 n3 hx hx1 hx2 T e
    have e0 : d + 1 + 1 + e = (d + 1 + e) + 1 := by omega
    rw [e0]
    show bk_L_build_550 z L xs Q X (lp_L_build_550 z L xs Q X (d + 1 + e)) S _ _ _ _ _
    unfold bk_L_build_550
    simp (disch := first | assumption | omega | (simp only [hN_sG, hN_sY, hN_sV] <;> first | assumption | omega)) only [rd R, Option.some.injEq, exists_eq_left', true_and, and_true, and_self, ne_eq, not_false_eq_true, not_true_eq_false, false_and, and_false, if_true, if_false, ite_true, ite_false, vin_0, vin_1, vin_2, vin_n, ncl, lit_0, lit_1, lit_2, lit_3, lit_4, lit_9, nm2, nm3, nm4, nm9, na1, na2, na3, na4, hG_sG, hG_sY, hG_sV, hG_sN, hY_sG, hY_sY, hY_sV, hY_sN, hV_sG, hV_sY, hV_sN, hV_sV, hN_sG, hN_sY, hN_sV, hN_sN, hF_sX, hF_sXr, hF_sF, hX_sF, hX_sX, hX_sXr, Nat.reduceEqDiff, Nat.reduceAdd, er_0, er_1, er_2, er_3, er_4, Nat.zero_lt_succ, forall_const, true_implies, false_implies, imp_self, implies_true, hx2]
    refine ⟨fun g => absurd g (nI_ge (by omega) (by omega)), fun _ => ?_⟩
    refine ru_cell (k := 0) rfl (by omega) hL fun r4 => ?_
    simp (disch := first | assumption | omega | (simp only [hN_sG, hN_sY, hN_sV] <;> first | assumption | omega)) only [rd R, Option.some.injEq, exists_eq_left', true_and, and_true, and_self, ne_eq, not_false_eq_true, not_true_eq_false, false_and, and_false, if_true, if_false, ite_true, ite_false, vin_0, vin_1, vin_2, vin_n, ncl, lit_0, lit_1, lit_2, lit_3, lit_4, lit_9, nm2, nm3, nm4, nm9, na1, na2, na3, na4, hG_sG, hG_sY, hG_sV, hG_sN, hY_sG, hY_sY, hY_sV, hY_sN, hV_sG, hV_sY, hV_sN, hV_sV, hN_sG, hN_sY, hN_sV, hN_sN, hF_sX, hF_sXr, hF_sF, hX_sF, hX_sX, hX_sXr, Nat.reduceEqDiff, Nat.reduceAdd, er_0, er_1, er_2, er_3, er_4, Nat.zero_lt_succ, forall_const, true_implies, false_implies, imp_self, implies_true, hx1]
    refine ru_below na rfl (by omega) (by omega) fun r8 h8 => ?_
    simp (disch := first | assumption | omega | (simp only [hN_sG, hN_sY, hN_sV] <;> first | assumption | omega)) only [rd R, Option.some.injEq, exists_eq_left', true_and, and_true, and_self, ne_eq, not_false_eq_true, not_true_eq_false, false_and, and_false, if_true, if_false, ite_true, ite_false, vin_0, vin_1, vin_2, vin_n, ncl, lit_0, lit_1, lit_2, lit_3, lit_4, lit_9, nm2, nm3, nm4, nm9, na1, na2, na3, na4, hG_sG, hG_sY, hG_sV, hG_sN, hY_sG, hY_sY, hY_sV, hY_sN, hV_sG, hV_sY, hV_sN, hV_sV, hN_sG, hN_sY, hN_sV, hN_sN, hF_sX, hF_sXr, hF_sF, hX_sF, hX_sX, hX_sXr, Nat.reduceEqDiff, Nat.reduceAdd, er_0, er_1, er_2, er_3, er_4, Nat.zero_lt_succ, forall_const, true_implies, false_implies, imp_self, implies_true]
    refine up_X R (by decide) fun S11 R11 => ?_
    refine ru_cell (k := 0) rfl (by omega) hL fun r13 => ?_
    simp (disch := first | assumption | omega | (simp only [hN_sG, hN_sY, hN_sV] <;> first | assumption | omega)) only [rd R11, Option.some.injEq, exists_eq_left', true_and, and_true, and_self, ne_eq, not_false_eq_true, not_true_eq_false, false_and, and_false, if_true, if_false, ite_true, ite_false, vin_0, vin_1, vin_2, vin_n, ncl, lit_0, lit_1, lit_2, lit_3, lit_4, lit_9, nm2, nm3, nm4, nm9, na1, na2, na3, na4, hG_sG, hG_sY, hG_sV, hG_sN, hY_sG, hY_sY, hY_sV, hY_sN, hV_sG, hV_sY, hV_sN, hV_sV, hN_sG, hN_sY, hN_sV, hN_sN, hF_sX, hF_sXr, hF_sF, hX_sF, hX_sX, hX_sXr, Nat.reduceEqDiff, Nat.reduceAdd, er_0, er_1, er_2, er_3, er_4, Nat.zero_lt_succ, forall_const, true_implies, false_implies, imp_self, implies_true, hx]
    refine ru_below nt rfl (by omega) (by omega) fun r17 h17 => ?_
    simp (disch := first | assumption | omega | (simp only [hN_sG, hN_sY, hN_sV] <;> first | assumption | omega)) only [rd R11, Option.some.injEq, exists_eq_left', true_and, and_true, and_self, ne_eq, not_false_eq_true, not_true_eq_false, false_and, and_false, if_true, if_false, ite_true, ite_false, vin_0, vin_1, vin_2, vin_n, ncl, lit_0, lit_1, lit_2, lit_3, lit_4, lit_9, nm2, nm3, nm4, nm9, na1, na2, na3, na4, hG_sG, hG_sY, hG_sV, hG_sN, hY_sG, hY_sY, hY_sV, hY_sN, hV_sG, hV_sY, hV_sN, hV_sV, hN_sG, hN_sY, hN_sV, hN_sN, hF_sX, hF_sXr, hF_sF, hX_sF, hX_sX, hX_sXr, Nat.reduceEqDiff, Nat.reduceAdd, er_0, er_1, er_2, er_3, er_4, Nat.zero_lt_succ, forall_const, true_implies, false_implies, imp_self, implies_true]
    refine up_X R11 (by decide) fun S20 R20 => ?_
    have d1 : (2 * l = 2 * l + 1) = False := eq_false (by omega)
    simp (disch := first | assumption | omega | (simp only [hN_sG, hN_sY, hN_sV] <;> first | assumption | omega)) only [rd R20, Option.some.injEq, exists_eq_left', true_and, and_true, and_self, ne_eq, not_false_eq_true, not_true_eq_false, false_and, and_false, if_true, if_false, ite_true, ite_false, vin_0, vin_1, vin_2, vin_n, ncl, lit_0, lit_1, lit_2, lit_3, lit_4, lit_9, nm2, nm3, nm4, nm9, na1, na2, na3, na4, hG_sG, hG_sY, hG_sV, hG_sN, hY_sG, hY_sY, hY_sV, hY_sN, hV_sG, hV_sY, hV_sN, hV_sV, hN_sG, hN_sY, hN_sV, hN_sN, hF_sX, hF_sXr, hF_sF, hX_sF, hX_sX, hX_sXr, Nat.reduceEqDiff, Nat.reduceAdd, er_0, er_1, er_2, er_3, er_4, Nat.zero_lt_succ, forall_const, true_implies, false_implies, imp_self, implies_true, d1]
    refine a_addLine R20 I (by omega) (by omega) (by omega) fun A' w' h' S' R' I' fx N2 N gg => ⟨fun _ => ?_, fun g => absurd (by rw [n2]) g⟩
    rintro v rfl
    have hm0 : ∀ j, hX (hsX (hsX m 3 (2 * l) (nI r8)) 3 (2 * l + 1) (nI r17)) 0 j = hX m 0 j := by
      intro j
      rw [hX_sX, if_neg (fun e => absurd e.1 (by decide)), hX_sX, if_neg (fun e => absurd e.1 (by decide))]
    have T2 : TH h (hsX (hsX m 3 (2 * l) (nI r8)) 3 (2 * l + 1) (nI r17)) := TH_X (TH_X T (fun e => absurd e (by decide))) (fun e => absurd e (by decide))
    have key := ih (l + 1) A' w' h' _ S' (by omega) R' I' (FX_tr F fx) (by rw [N 0 (by omega) (by omega)]; exact n0) (by rw [N 1 (by omega) (by omega)]; exact n1) (by rw [N2, n2]) (by rw [N 3 (by omega) (by omega)]; exact n3) (by rw [hm0]; exact hx) (by rw [hm0]; exact hx1) (by rw [hm0]; exact hx2) (fun x hx => ?_) e
    · rw [fx 10 0 (by omega), fx 11 0 (by omega), fx 11 3 (by omega)] at key
      exact key
    · rw [N 1 (by omega) (by omega)] at hx
      rw [(gg x).1, (gg x).2]
      exact T2 x hx
theorem build_ok {z L} (hL : L ≤ 260) {xs : Nat → Int32} {Q : Int32 → mmS → Prop} {X : String → mmS → Prop} {A : Nat → Nat → Nat} {w h m S} (R : RP z A w h m 5 S) (I : LI h) (n0 : hN h 0 = 0) (n1 : hN h 1 = 0) (n2 : hN h 2 = 0) (n3 : hN h 3 = 0)
    (hQ : ∀ A' w' h' m' S', RP z A' w' h' m' 5 S' → LI h' → FX A' A → (1 ≤ hN h' 1 ∧ hN h' 1 ≤ 2) → (1 ≤ hN h' 2 ∧ hN h' 2 ≤ 4) → hN h' 3 = 0 → hX m' 0 1 = nI (hN h' 1) → hX m' 0 2 = nI (hN h' 2) → TH h' m' → Q 1 S') : wp_L_build z L xs S (A 10 0) 0 (A 11 0) (A 11 1) (A 11 2) (A 11 3) Q X := by
  unfold wp_L_build
  refine ru_cell (k := 0) rfl (by omega) hL fun r2 => ?_
  refine ru_below 3 rfl (by decide) (by decide) fun r4 h4 => ?_
  have e1 : (1 : Int32) + nI r4 = nI (1 + r4) := nI_add 1 r4
  simp (disch := first | assumption | omega | (simp only [hN_sG, hN_sY, hN_sV] <;> first | assumption | omega)) only [rd R, Option.some.injEq, exists_eq_left', true_and, and_true, and_self, ne_eq, not_false_eq_true, not_true_eq_false, false_and, and_false, if_true, if_false, ite_true, ite_false, vin_0, vin_1, vin_2, vin_n, ncl, lit_0, lit_1, lit_2, lit_3, lit_4, lit_9, nm2, nm3, nm4, nm9, na1, na2, na3, na4, hG_sG, hG_sY, hG_sV, hG_sN, hY_sG, hY_sY, hY_sV, hY_sN, hV_sG, hV_sY, hV_sN, hV_sV, hN_sG, hN_sY, hN_sV, hN_sN, hF_sX, hF_sXr, hF_sF, hX_sF, hX_sX, hX_sXr, Nat.reduceEqDiff, Nat.reduceAdd, er_0, er_1, er_2, er_3, er_4, Nat.zero_lt_succ, forall_const, true_implies, false_implies, imp_self, implies_true, e1]
  refine up_X R (by decide) fun S7 R7 => ?_
  rintro v rfl
  have g : r4 = 0 ∨ r4 = 1 ∨ r4 = 2 := by omega
  have key := b_tariffs hL (xs := xs) (Q := Q) (X := X) (A0 := A) (nt := 1 + r4) (by omega) (fun A1 w1 h1 m1 S1 R1 I1 F1 a0 a1 a2 a3 x0 => ?_) (1 + r4) 0 A w h _ S7 (by omega) R7 I (FX_rf A) n0 n1 n2 n3 (by rw [hX_sX, if_pos ⟨rfl, rfl⟩]) (2 - r4)
  · have e4 : 1 + r4 + 1 + (2 - r4) = 4 := by omega
    rw [e4] at key
    exact key
  unfold bk_L_build_364
  refine ru_cell (k := 0) rfl (by omega) hL fun r2 => ?_
  refine ru_below 2 rfl (by decide) (by decide) fun r5 h5 => ?_
  have e2 : (1 : Int32) + nI r5 = nI (1 + r5) := nI_add 1 r5
  simp (disch := first | assumption | omega | (simp only [hN_sG, hN_sY, hN_sV] <;> first | assumption | omega)) only [rd R1, Option.some.injEq, exists_eq_left', true_and, and_true, and_self, ne_eq, not_false_eq_true, not_true_eq_false, false_and, and_false, if_true, if_false, ite_true, ite_false, vin_0, vin_1, vin_2, vin_n, ncl, lit_0, lit_1, lit_2, lit_3, lit_4, lit_9, nm2, nm3, nm4, nm9, na1, na2, na3, na4, hG_sG, hG_sY, hG_sV, hG_sN, hY_sG, hY_sY, hY_sV, hY_sN, hV_sG, hV_sY, hV_sN, hV_sV, hN_sG, hN_sY, hN_sV, hN_sN, hF_sX, hF_sXr, hF_sF, hX_sF, hX_sX, hX_sXr, Nat.reduceEqDiff, Nat.reduceAdd, er_0, er_1, er_2, er_3, er_4, Nat.zero_lt_succ, forall_const, true_implies, false_implies, imp_self, implies_true, e2]
  refine up_X R1 (by decide) fun S2 R2 => ?_
  rintro v rfl
  have key := b_accounts hL (xs := xs) (Q := Q) (X := X) (A0 := A) (nt := 1 + r4) (na := 1 + r5) (by omega) (fun A3 w3 h3 m3 S3 R3 I3 F3 b0 b1 b2 b3 y0 y1 T3 => ?_) (1 + r5) 0 A1 w1 h1 _ S2 (by omega) R2 I1 F1 a0 a1 a2 a3 (by rw [hX_sX, if_neg (fun e => absurd e.2 (by decide))]; exact x0) (by rw [hX_sX, if_pos ⟨rfl, rfl⟩]) (fun x hx => by omega) (1 - r5)
  · have e4 : 1 + r5 + 1 + (1 - r5) = 3 := by omega
    rw [e4] at key
    exact key
  unfold bk_L_build_530
  refine ru_cell (k := 0) rfl (by omega) hL fun r2 => ?_
  refine ru_below 4 rfl (by decide) (by decide) fun r6 h6 => ?_
  have e3 : (1 : Int32) + nI r6 = nI (1 + r6) := nI_add 1 r6
  simp (disch := first | assumption | omega | (simp only [hN_sG, hN_sY, hN_sV] <;> first | assumption | omega)) only [rd R3, Option.some.injEq, exists_eq_left', true_and, and_true, and_self, ne_eq, not_false_eq_true, not_true_eq_false, false_and, and_false, if_true, if_false, ite_true, ite_false, vin_0, vin_1, vin_2, vin_n, ncl, lit_0, lit_1, lit_2, lit_3, lit_4, lit_9, nm2, nm3, nm4, nm9, na1, na2, na3, na4, hG_sG, hG_sY, hG_sV, hG_sN, hY_sG, hY_sY, hY_sV, hY_sN, hV_sG, hV_sY, hV_sN, hV_sV, hN_sG, hN_sY, hN_sV, hN_sN, hF_sX, hF_sXr, hF_sF, hX_sF, hX_sX, hX_sXr, Nat.reduceEqDiff, Nat.reduceAdd, er_0, er_1, er_2, er_3, er_4, Nat.zero_lt_succ, forall_const, true_implies, false_implies, imp_self, implies_true, e3]
  refine up_X R3 (by decide) fun S4 R4 => ?_
  rintro v rfl
  have key := b_lines hL (xs := xs) (Q := Q) (X := X) (A0 := A) (nt := 1 + r4) (na := 1 + r5) (nl := 1 + r6) (by omega) (by omega) (by omega) (fun A5 w5 h5 m5 S5 R5 I5 F5 c0 c1 c2 c3 z1 z2 T5 => ?_) (1 + r6) 0 A3 w3 h3 _ S4 (by omega) R4 I3 F3 b0 b1 b2 b3 (by rw [hX_sX, if_neg (fun e => absurd e.2 (by decide))]; exact y0) (by rw [hX_sX, if_neg (fun e => absurd e.2 (by decide))]; exact y1) (by rw [hX_sX, if_pos ⟨rfl, rfl⟩]) (TH_X T3 (fun e => absurd e (by decide))) (3 - r6)
  · have e4 : 1 + r6 + 1 + (3 - r6) = 5 := by omega
    rw [e4] at key
    exact key
  exact hQ A5 w5 h5 m5 S5 R5 I5 F5 (by omega) (by omega) c3 (by rw [c1]; exact z1) (by rw [c2]; exact z2) T5
