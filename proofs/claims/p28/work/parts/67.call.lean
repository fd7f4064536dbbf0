/-! call: the calls that cells choose -/
def LV (h : hC) (m : hM) : Prop := LI h ∧ OT h ∧ TH h m ∧ (∀ i, i < hN h 3 → hX m 4 (4 * i + 1) = hG h 7 i) ∧ hX m 0 1 = nI (hN h 1) ∧ hX m 0 2 = nI (hN h 2) ∧ (1 ≤ hN h 1 ∧ hN h 1 ≤ 2) ∧ (1 ≤ hN h 2 ∧ hN h 2 ≤ 4)
theorem LV_X {h : hC} {m : hM} (V : LV h m) {f j : Nat} {v : Int32} (hf : 4 ≤ f) (hj : f = 4 → 4 * hN h 3 ≤ j) : LV h (hsX m f j v) := by
  obtain ⟨I, O, T, C, x1, x2, g⟩ := V
  refine ⟨I, O, TH_X T (fun e => by omega), fun i hi => ?_, ?_, ?_, g⟩
  · rw [hX_sX, if_neg, C i hi]
    rintro ⟨e1, e2⟩
    have := hj e1.symm
    omega
  · rw [hX_sX, if_neg (fun e => by omega)]; exact x1
  · rw [hX_sX, if_neg (fun e => by omega)]; exact x2
theorem LV_call {h d h' : hC} {m : hM} (V : LV h m) {l : Nat} {mi se zz : Int32} (A : CA h d l mi se zz) (s : ST d h') (I' : LI h') (hm : hX m 4 (4 * hN h 3 + 1) = mi) : LV h' m := by
  obtain ⟨I, O, T, C, x1, x2, g1, g2⟩ := V
  obtain ⟨c7, cm, c3, cn, c0⟩ := ca_min A s
  have n1 := cn 1 (by omega)
  have n2 := cn 2 (by omega)
  refine ⟨I', OT_st s (OT_call I.1 O A), fun a ha => ?_, fun i hi => ?_, by rw [n1]; exact x1, by rw [n2]; exact x2, by rw [n1]; exact g1, by rw [n2]; exact g2⟩
  · rw [n1] at ha
    rw [(c0 a).1, (c0 a).2]
    exact T a ha
  · by_cases e : i = hN h 3
    · subst e; rw [cm, hm]
    · rw [c7 i (by omega)]; exact C i (by omega)
theorem b_210 {z L} {xs : Nat → Int32} {Q : Int32 → mmS → Prop} {X : String → mmS → Prop} {K : mmS → Nat → Int32 → Int32 → Nat → Int32 → Int32 → Prop} {A : Nat → Nat → Nat} {w h m S} {c l mi se zz : Nat} {v x4 x6 : Int32} (R : RP z A w h m 5 S) (V : LV h m) (n3 : hN h 3 = c) (hc : c < 14) (el : hX m 4 (4 * c) = nI l) (hl : l < hN h 2) (em : hX m 4 (4 * c + 1) = nI mi) (hm : mi ≤ 43199) (es : hX m 4 (4 * c + 2) = nI se) (hs : 1 ≤ se ∧ se ≤ 7200) (ev : v = nI zz) (hz : zz ≤ 2)
    (hK : ∀ A' w' h' m' S', RP z A' w' h' m' 5 S' → LV h' m' → FX A' A → hN h' 3 = c + 1 → hN h' 2 = hN h 2 → K S' (A' 10 0) 7 x4 (A' 11 4) x6 (nI (c + 1))) :
    bk_L_call_210 z L xs Q X K S (A 10 0) 7 x4 (A 11 4) x6 (nI c) (A 11 4) (((4 : Int32) * nI c) + 3) v := by
  subst ev
  unfold bk_L_call_210
  simp (disch := first | assumption | omega | (simp only [hN_sG, hN_sY, hN_sV] <;> first | assumption | omega)) only [rd R, Option.some.injEq, exists_eq_left', true_and, and_true, and_self, ne_eq, not_false_eq_true, not_true_eq_false, false_and, and_false, if_true, if_false, ite_true, ite_false, vin_0, vin_1, vin_2, vin_n, ncl, lit_0, lit_1, lit_2, lit_3, lit_4, lit_9, nm2, nm3, nm4, nm9, na1, na2, na3, na4, hG_sG, hG_sY, hG_sV, hG_sN, hY_sG, hY_sY, hY_sV, hY_sN, hV_sG, hV_sY, hV_sN, hV_sV, hN_sG, hN_sY, hN_sV, hN_sN, hF_sX, hF_sXr, hF_sF, hX_sF, hX_sX, hX_sXr, Nat.reduceEqDiff, Nat.reduceAdd, er_0, er_1, er_2, er_3, er_4, Nat.zero_lt_succ, forall_const, true_implies, false_implies, imp_self, implies_true]
  refine up_X R (by decide) fun S3 R3 => ?_
  have d1 : (4 * c = 4 * c + 3) = False := eq_false (by omega)
  have d2 : (4 * c + 1 = 4 * c + 3) = False := eq_false (by omega)
  have d3 : (4 * c + 2 = 4 * c + 3) = False := eq_false (by omega)
  simp (disch := first | assumption | omega | (simp only [hN_sG, hN_sY, hN_sV] <;> first | assumption | omega)) only [rd R3, Option.some.injEq, exists_eq_left', true_and, and_true, and_self, ne_eq, not_false_eq_true, not_true_eq_false, false_and, and_false, if_true, if_false, ite_true, ite_false, vin_0, vin_1, vin_2, vin_n, ncl, lit_0, lit_1, lit_2, lit_3, lit_4, lit_9, nm2, nm3, nm4, nm9, na1, na2, na3, na4, hG_sG, hG_sY, hG_sV, hG_sN, hY_sG, hY_sY, hY_sV, hY_sN, hV_sG, hV_sY, hV_sN, hV_sV, hN_sG, hN_sY, hN_sV, hN_sN, hF_sX, hF_sXr, hF_sF, hX_sF, hX_sX, hX_sXr, Nat.reduceEqDiff, Nat.reduceAdd, er_0, er_1, er_2, er_3, er_4, Nat.zero_lt_succ, forall_const, true_implies, false_implies, imp_self, implies_true, d1, d2, d3, el, em, es]
  have V3 : LV h (hsX m 4 (4 * c + 3) (nI zz)) := LV_X V (by omega) (fun _ => by omega)
  refine a_addCall R3 V.1 hl ⟨nb_n hm, ⟨nb_n hs.2, nI_le (a := 1) hs.1 (by omega)⟩, nb_n hz⟩ (by omega) fun A' w' d h' S' R' I' fx ca s' D' => ⟨fun _ => ?_, fun g => absurd (by rw [n3]) g⟩
  rintro v rfl
  have V' := LV_call V3 ca s' I' (by rw [n3, hX_sX, if_neg (fun e => by omega), em])
  obtain ⟨c7, cm, c3, cn, c0⟩ := ca_min ca s'
  have key := hK A' w' h' _ S' R' V' fx (by rw [c3, n3]) (cn 2 (by omega))
  rw [fx 10 0 (by omega), fx 11 4 (by omega)] at key
  try rw [na1]
  exact key
theorem b_173 {z L} {xs : Nat → Int32} {Q : Int32 → mmS → Prop} {X : String → mmS → Prop} {K : mmS → Nat → Int32 → Int32 → Nat → Int32 → Int32 → Prop} {A : Nat → Nat → Nat} {w h m S} {c l mi s : Nat} {v x4 x6 x8 : Int32} (R : RP z A w h m 5 S) (V : LV h m) (n3 : hN h 3 = c) (hc : c < 14) (el : hX m 4 (4 * c) = nI l) (hl : l < hN h 2) (em : hX m 4 (4 * c + 1) = nI mi) (hm : mi ≤ 43199) (ev : v = nI s) (hs : s ≤ 1900)
    (hK : ∀ A' w' h' m' S', RP z A' w' h' m' 5 S' → LV h' m' → FX A' A → hN h' 3 = c + 1 → hN h' 2 = hN h 2 → K S' (A' 10 0) 7 x4 (A' 11 4) x6 (nI (c + 1))) :
    bk_L_call_173 z L xs Q X K S (A 10 0) 7 x4 (A 11 4) x6 (nI c) x8 (A 11 4) (((4 : Int32) * nI c) + 2) 1 v := by
  subst ev
  have e1 : (1 : Int32) + nI s = nI (1 + s) := nI_add 1 s
  have e4 : nI (4 * c + 3) = (4 : Int32) * nI c + 3 := by rw [nm4, na3]
  unfold bk_L_call_173
  simp (disch := first | assumption | omega | (simp only [hN_sG, hN_sY, hN_sV] <;> first | assumption | omega)) only [rd R, Option.some.injEq, exists_eq_left', true_and, and_true, and_self, ne_eq, not_false_eq_true, not_true_eq_false, false_and, and_false, if_true, if_false, ite_true, ite_false, vin_0, vin_1, vin_2, vin_n, ncl, lit_0, lit_1, lit_2, lit_3, lit_4, lit_9, nm2, nm3, nm4, nm9, na1, na2, na3, na4, hG_sG, hG_sY, hG_sV, hG_sN, hY_sG, hY_sY, hY_sV, hY_sN, hV_sG, hV_sY, hV_sN, hV_sV, hN_sG, hN_sY, hN_sV, hN_sN, hF_sX, hF_sXr, hF_sF, hX_sF, hX_sX, hX_sXr, Nat.reduceEqDiff, Nat.reduceAdd, er_0, er_1, er_2, er_3, er_4, Nat.zero_lt_succ, forall_const, true_implies, false_implies, imp_self, implies_true, e1]
  refine up_X R (by decide) fun S3 R3 => ?_
  have V3 : LV h (hsX m 4 (4 * c + 2) (nI (1 + s))) := LV_X V (by omega) (fun _ => by omega)
  have el3 : hX (hsX m 4 (4 * c + 2) (nI (1 + s))) 4 (4 * c) = nI l := by rw [hX_sX, if_neg (fun e => by omega)]; exact el
  have em3 : hX (hsX m 4 (4 * c + 2) (nI (1 + s))) 4 (4 * c + 1) = nI mi := by rw [hX_sX, if_neg (fun e => by omega)]; exact em
  have es3 : hX (hsX m 4 (4 * c + 2) (nI (1 + s))) 4 (4 * c + 2) = nI (1 + s) := by rw [hX_sX, if_pos ⟨rfl, rfl⟩]
  refine ru_below 2 rfl (by decide) (by decide) fun r5 h5 => ⟨fun _ => ?_, fun _ => ?_⟩
  · refine ru_below 2 rfl (by decide) (by decide) fun r7 h7 => ?_
    have e2 : (1 : Int32) + nI r7 = nI (1 + r7) := nI_add 1 r7
    try rw [e4]
    exact b_210 R3 V3 n3 hc el3 hl em3 hm es3 (by omega) (zz := 1 + r7) e2 (by omega) hK
  · try rw [e4]
    exact b_210 R3 V3 n3 hc el3 hl em3 hm es3 (by omega) (zz := 0) rfl (by omega) hK
theorem b_127 {z L} {xs : Nat → Int32} {Q : Int32 → mmS → Prop} {X : String → mmS → Prop} {K : mmS → Nat → Int32 → Int32 → Nat → Int32 → Int32 → Prop} {A : Nat → Nat → Nat} {w h m S} {c l mi : Nat} {v x4 x6 x8 : Int32} (R : RP z A w h m 5 S) (V : LV h m) (n3 : hN h 3 = c) (hc : c < 14) (el : hX m 4 (4 * c) = nI l) (hl : l < hN h 2) (ev : v = nI mi) (hm : mi ≤ 43199)
    (hK : ∀ A' w' h' m' S', RP z A' w' h' m' 5 S' → LV h' m' → FX A' A → hN h' 3 = c + 1 → hN h' 2 = hN h 2 → K S' (A' 10 0) 7 x4 (A' 11 4) x6 (nI (c + 1))) :
    bk_L_call_127 z L xs Q X K S (A 10 0) 7 x4 (A 11 4) x6 (nI c) x8 (A 11 4) (((4 : Int32) * nI c) + 1) v := by
  subst ev
  have e4 : nI (4 * c + 2) = (4 : Int32) * nI c + 2 := by rw [nm4, na2]
  unfold bk_L_call_127
  simp (disch := first | assumption | omega | (simp only [hN_sG, hN_sY, hN_sV] <;> first | assumption | omega)) only [rd R, Option.some.injEq, exists_eq_left', true_and, and_true, and_self, ne_eq, not_false_eq_true, not_true_eq_false, false_and, and_false, if_true, if_false, ite_true, ite_false, vin_0, vin_1, vin_2, vin_n, ncl, lit_0, lit_1, lit_2, lit_3, lit_4, lit_9, nm2, nm3, nm4, nm9, na1, na2, na3, na4, hG_sG, hG_sY, hG_sV, hG_sN, hY_sG, hY_sY, hY_sV, hY_sN, hV_sG, hV_sY, hV_sN, hV_sV, hN_sG, hN_sY, hN_sV, hN_sN, hF_sX, hF_sXr, hF_sF, hX_sF, hX_sX, hX_sXr, Nat.reduceEqDiff, Nat.reduceAdd, er_0, er_1, er_2, er_3, er_4, Nat.zero_lt_succ, forall_const, true_implies, false_implies, imp_self, implies_true]
  refine up_X R (by decide) fun S3 R3 => ?_
  have V3 : LV h (hsX m 4 (4 * c + 1) (nI mi)) := LV_X V (by omega) (fun _ => by omega)
  have el3 : hX (hsX m 4 (4 * c + 1) (nI mi)) 4 (4 * c) = nI l := by rw [hX_sX, if_neg (fun e => by omega)]; exact el
  have em3 : hX (hsX m 4 (4 * c + 1) (nI mi)) 4 (4 * c + 1) = nI mi := by rw [hX_sX, if_pos ⟨rfl, rfl⟩]
  refine ru_below 2 rfl (by decide) (by decide) fun r5 h5 => ⟨fun _ => ?_, fun _ => ?_⟩
  · refine ru_below 1900 rfl (by decide) (by decide) fun r7 h7 => ?_
    try rw [e4]
    exact b_173 R3 V3 n3 hc el3 hl em3 hm (s := r7) rfl (by omega) hK
  · refine ru_below 200 rfl (by decide) (by decide) fun r7 h7 => ?_
    try rw [e4]
    exact b_173 R3 V3 n3 hc el3 hl em3 hm (s := r7) rfl (by omega) hK
theorem c_loop {z L} (hL : L ≤ 260) {xs : Nat → Int32} {Q : Int32 → mmS → Prop} {X : String → mmS → Prop} {A0 : Nat → Nat → Nat} {N nl : Nat} (hN14 : N ≤ 14) (hnl : 1 ≤ nl ∧ nl ≤ 4)
    (hQ : ∀ A w h m S, RP z A w h m 5 S → LV h m → FX A A0 → hN h 3 = N → Q (nI N) S) :
    ∀ d c A w h m S, c + d = N → RP z A w h m 5 S → LV h m → FX A A0 → hN h 3 = c → hN h 2 = nl → ∀ e, lp_L_call_16 z L xs Q X (d + 1 + e) S (A 10 0) 7 (nI nl) (A 11 4) (nI N) (nI c) := by
  intro d
  induction d with
  | zero =>
    intro c A w h m S hcd R V F n3 n2 e
    have e0 : 0 + 1 + e = e + 1 := by omega
    rw [e0]
    show bk_L_call_16 z L xs Q X _ S _ _ _ _ _ _
    unfold bk_L_call_16
    refine ⟨fun _ => ?_, fun g => absurd (nI_le (by omega) (by omega)) g⟩
    unfold bk_L_call_262
    refine ⟨mem10 R, c_callCount R V.1.1 ?_⟩
    have eN : hN h 3 = N := by omega
    rw [eN]
    exact ⟨fun g => absurd rfl g, fun _ => hQ A w h m S R V F eN⟩
  | succ d ih =>
    intro c A w h m S hcd R V F n3 n2 e
    have e0 : d + 1 + 1 + e = (d + 1 + e) + 1 := by omega
    rw [e0]
    show bk_L_call_16 z L xs Q X (lp_L_call_16 z L xs Q X (d + 1 + e)) S _ _ _ _ _ _
    unfold bk_L_call_16
    refine ⟨fun g => absurd g (nI_ge (by omega) (by omega)), fun _ => ?_⟩
    refine ru_cell (k := 8 + c % 7) ?_ (by omega) hL fun r2 => ?_
    · show ((7 : Int32) + 1) + (nI c - nI c / nI 7 * nI 7) = _
      rw [pk_rem (by omega) (by omega) (by omega)]
      exact nI_add 8 _
    rintro v3 -
    refine ru_below nl rfl (by omega) (by omega) fun r5 h5 => ?_
    simp (disch := first | assumption | omega | (simp only [hN_sG, hN_sY, hN_sV] <;> first | assumption | omega)) only [rd R, Option.some.injEq, exists_eq_left', true_and, and_true, and_self, ne_eq, not_false_eq_true, not_true_eq_false, false_and, and_false, if_true, if_false, ite_true, ite_false, vin_0, vin_1, vin_2, vin_n, ncl, lit_0, lit_1, lit_2, lit_3, lit_4, lit_9, nm2, nm3, nm4, nm9, na1, na2, na3, na4, hG_sG, hG_sY, hG_sV, hG_sN, hY_sG, hY_sY, hY_sV, hY_sN, hV_sG, hV_sY, hV_sN, hV_sV, hN_sG, hN_sY, hN_sV, hN_sN, hF_sX, hF_sXr, hF_sF, hX_sF, hX_sX, hX_sXr, Nat.reduceEqDiff, Nat.reduceAdd, er_0, er_1, er_2, er_3, er_4, Nat.zero_lt_succ, forall_const, true_implies, false_implies, imp_self, implies_true]
    refine up_X R (by decide) fun S8 R8 => ?_
    have V8 : LV h (hsX m 4 (4 * c) (nI r5)) := LV_X V (by omega) (fun _ => by omega)
    have el : hX (hsX m 4 (4 * c) (nI r5)) 4 (4 * c) = nI r5 := by rw [hX_sX, if_pos ⟨rfl, rfl⟩]
    have e4 : nI (4 * c + 1) = (4 : Int32) * nI c + 1 := by rw [nm4, na1]
    have hK : ∀ A' w' h' m' S', RP z A' w' h' m' 5 S' → LV h' m' → FX A' A → hN h' 3 = c + 1 → hN h' 2 = hN h 2 → lp_L_call_16 z L xs Q X (d + 1 + e) S' (A' 10 0) 7 (nI nl) (A' 11 4) (nI N) (nI (c + 1)) :=
      fun A' w' h' m' S' R' V' F' N3 N2 => ih (c + 1) A' w' h' m' S' (by omega) R' V' (FX_tr F F') N3 (N2.trans n2) e
    refine ru_below 3 rfl (by decide) (by decide) fun r10 h10 => ⟨fun _ => ?_, fun _ => ?_⟩
    · refine ru_below 43200 rfl (by decide) (by decide) fun r12 h12 => ?_
      try rw [e4]
      exact b_127 R8 V8 n3 (by omega) el (by omega) (mi := r12) rfl (by omega) hK
    · refine ru_below 3 rfl (by decide) (by decide) fun r14 h14 => ?_
      refine ru_below 30 rfl (by decide) (by decide) fun r16 h16 => ?_
      have ev : ((1440 : Int32) * nI r14 + 400) + (30 : Int32) * nI r16 = nI (1440 * r14 + 400 + 30 * r16) := by
        have a1 : (1440 : Int32) * nI r14 = nI (1440 * r14) := pk_mul 1440 r14
        have a2 : (30 : Int32) * nI r16 = nI (30 * r16) := pk_mul 30 r16
        have a3 : nI (1440 * r14) + 400 = nI (1440 * r14 + 400) := nI_add _ 400
        rw [a1, a2, a3, nI_add]
      try rw [e4]
      exact b_127 R8 V8 n3 (by omega) el (by omega) (mi := 1440 * r14 + 400 + 30 * r16) ev (by omega) hK
theorem call_ok {z L} (hL : L ≤ 260) {xs : Nat → Int32} {Q : Int32 → mmS → Prop} {X : String → mmS → Prop} {A : Nat → Nat → Nat} {w h m S} (R : RP z A w h m 5 S) (V : LV h m) (n3 : hN h 3 = 0)
    (hQ : ∀ N, N ≤ 14 → ∀ A' w' h' m' S', RP z A' w' h' m' 5 S' → LV h' m' → FX A' A → hN h' 3 = N → Q (nI N) S') : wp_L_call z L xs S (A 10 0) 7 14 (nI (hN h 2)) (A 11 4) Q X := by
  unfold wp_L_call
  refine ru_cell (k := 7) rfl (by omega) hL fun r2 => ?_
  refine ru_below 15 rfl (by decide) (by decide) fun r4 h4 => ?_
  rintro v rfl
  have key := c_loop hL (xs := xs) (Q := Q) (X := X) (A0 := A) (N := r4) (nl := hN h 2) (by omega) V.2.2.2.2.2.2.2 (hQ r4 (by omega)) r4 0 A w h m S (by omega) R V (FX_rf A) n3 rfl (14 - r4)
  have e4 : r4 + 1 + (14 - r4) = 15 := by omega
  rw [e4] at key
  exact key
