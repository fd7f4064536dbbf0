theorem hX_ne {m : hM} {f j f' j' : Nat} {v : Int32} (h : f' ≠ f) : hX (hsX m f j v) f' j' = hX m f' j' := by
  rw [hX_sX, if_neg (fun e => h e.1)]
theorem MU_a {c : hC} {m : hM} {k o : Nat} (ho : hV c 9 k = o) (hz : ¬ zo c o = 0) : ∀ m1 : hM, (∀ x, hX m1 10 x = hX m 10 x) → (∀ x, hX m1 11 x = hX m 11 x) → (∀ x, hX m1 6 x = if x = o then bl c o else hX m 6 x) → (∀ x, hX m1 7 x = if x = o then fre c k else hX m 7 x) → (∀ x, hX m1 9 x = if x = o then fch c k else hX m 9 x) → (∀ x, x ≠ o → hX m1 8 x = hX m 8 x) → MU c m (hsX m1 8 o (prc c k)) k := by
  intro m1 a10 a11 a6 a7 a9 a8
  unfold MU
  rw [ho]
  refine ⟨fun x => ⟨?_, ?_⟩, fun x => ⟨?_, ?_, ?_, ?_⟩⟩ <;> simp only [hX_sX, Nat.reduceEqDiff, false_and, if_false, true_and]
  · rw [if_neg (fun q => hz q.1), a10]
  · rw [if_neg (fun q => hz q.1), a11]
  · exact a6 x
  · exact a7 x
  · by_cases e : x = o
    · rw [if_pos e, if_pos e]
    · rw [if_neg e, if_neg e, a8 x e]
  · exact a9 x
theorem MU_b {c : hC} {m : hM} {k o a : Nat} (ho : hV c 9 k = o) (ha : aco c o = a) (hz : zo c o = 0) : ∀ m1 : hM, (∀ x, hX m1 10 x = if x = a then hX m 10 x - fre c k else hX m 10 x) → (∀ x, hX m1 11 x = if x = a ∧ 0 < fre c k ∧ hX m 10 x - fre c k = 0 then nI o else hX m 11 x) → (∀ x, hX m1 6 x = if x = o then bl c o else hX m 6 x) → (∀ x, hX m1 7 x = if x = o then fre c k else hX m 7 x) → (∀ x, hX m1 9 x = if x = o then fch c k else hX m 9 x) → (∀ x, x ≠ o → hX m1 8 x = hX m 8 x) → MU c m (hsX m1 8 o (prc c k)) k := by
  intro m1 a10 a11 a6 a7 a9 a8
  unfold MU
  rw [ho, ha]
  refine ⟨fun x => ⟨?_, ?_⟩, fun x => ⟨?_, ?_, ?_, ?_⟩⟩ <;> simp only [hX_sX, Nat.reduceEqDiff, false_and, if_false, true_and, hz]
  · rw [a10]
    by_cases e : x = a
    · rw [if_pos e, if_pos e.symm]
    · rw [if_neg e, if_neg (fun q => e q.symm)]
  · rw [a11]
    by_cases e : x = a ∧ 0 < fre c k ∧ hX m 10 x - fre c k = 0
    · rw [if_pos e, if_pos ⟨e.1.symm, e.2⟩]
    · rw [if_neg e, if_neg (fun q => e ⟨q.1.symm, q.2⟩)]
  · exact a6 x
  · exact a7 x
  · by_cases e : x = o
    · rw [if_pos e, if_pos e]
    · rw [if_neg e, if_neg e, a8 x e]
  · exact a9 x
theorem ru_mrate {z A w h m u S} (R : RP z A w h m u S) {c : hC} (C : CM c m) (W : WF c) {k : Nat} (hk : k < hN c 3) (D : MK c m k) {Q : mmS → Prop} {X : String → mmS → Prop}
    (hQ : ∀ m' S', RP z A w h m' u S' → CM c m' → MK c m' (k + 1) → hF m' = hF m → Q S') : wp_X5_rate z S (A 12 0) (nI k) Q X := by
  have W1 := W.1
  unfold Wn at W1
  have ho := W.2.2.2.2.2.1 k hk
  have MKno := fun h0 => MK_no W hk h0 D
  have hQ2 : ∀ m' S', ¬ hG c 9 (hV c 9 k) = 0 → RP z A w h m' u S' → CM c m' → MU c m m' k → hF m' = hF m → Q S' := fun m' S' h0 R' C' U F' => hQ m' S' R' C' (MK_up W hk h0 D U) F'
  have frd : ¬ hG c 9 (hV c 9 k) = 0 → fre c k = (if zo c (hV c 9 k) = 0 then (if bl c (hV c 9 k) < un c (aco c (hV c 9 k)) k then bl c (hV c 9 k) else un c (aco c (hV c 9 k)) k)
      else if fe c (hV c 9 k) = 0 then 0 else (if fdv (ea c (hV c 0 (hV c 9 k)) (zo c (hV c 9 k)) (dy c (hV c 9 k)) k) < bl c (hV c 9 k) then fdv (ea c (hV c 0 (hV c 9 k)) (zo c (hV c 9 k)) (dy c (hV c 9 k)) k) else bl c (hV c 9 k))) := by
    intro h0; unfold fre; rw [if_neg h0]
  have fcd : ¬ hG c 9 (hV c 9 k) = 0 → fch c k = (if zo c (hV c 9 k) = 0 then 0 else if ea c (hV c 0 (hV c 9 k)) (zo c (hV c 9 k)) (dy c (hV c 9 k)) k = -1 then fe c (hV c 9 k) else 0) := by
    intro h0; unfold fch; rw [if_neg h0]
  have eb : ¬ hG c 9 (hV c 9 k) = 0 → blf (hG c 19 (tfo c (hV c 9 k))) (hG c 20 (tfo c (hV c 9 k))) (hG c 9 (hV c 9 k)) = bl c (hV c 9 k) := by intro h0; unfold bl; rw [if_neg h0]
  have rear := fun (Q1 : Int32 → mmS → Prop) (m2 : hM) (S2 : mmS) (R2 : RP z A w h m2 u S2) (C2 : CM c m2) (hb : ∀ k', k' < k → hX m2 6 (hV c 9 k') = bl c (hV c 9 k')) => ru_earlier (Q := Q1) R2 C2 W hk hb (X := X)
  have D1 := D.1
  have D3 := D.2
  have hinj : ∀ k', k' < k → ¬ hV c 9 k' = hV c 9 k := fun k' h1 h2 => absurd (W.2.2.2.2.2.2.1 k' k (by omega) hk h2) (by omega)
  have r344 := fun (m2 : hM) (S2 : mmS) (R2 : RP z A w h m2 u S2) (C2 : CM c m2) (r : Int32) => ru_m344 R2 C2 W hk rfl rfl (r := r) (Q := Q) (X := X)
  generalize hO : hV c 9 k = o at *
  have hl := (W.2.2.2.2.1 o ho).2.2.1
  have ht : tfo c o < hN c 0 := (W.2.2.2.1 _ hl).2.2
  have ha : aco c o < hN c 1 := (W.2.2.2.1 _ hl).2.1
  have e1 : hV c 1 (hV c 0 o) = aco c o := rfl
  have e2 : hV c 2 (hV c 0 o) = tfo c o := rfl
  have WT := W.2.1 _ ht
  obtain ⟨ez, hz⟩ := zo_n W ho
  unfold wp_X5_rate
  simp (disch := first | assumption | omega | (simp only [hN_sG, hN_sY, hN_sV] <;> first | assumption | omega)) only [rd R, Option.some.injEq, exists_eq_left', true_and, and_true, and_self, ne_eq, not_false_eq_true, not_true_eq_false, false_and, and_false, if_true, if_false, ite_true, ite_false, vin_0, vin_1, vin_2, vin_n, ncl, lit_0, lit_1, lit_2, lit_3, lit_4, lit_9, nm2, nm3, nm4, nm9, na1, na2, na3, na4, hG_sG, hG_sY, hG_sV, hG_sN, hY_sG, hY_sY, hY_sV, hY_sN, hV_sG, hV_sY, hV_sN, hV_sV, hN_sG, hN_sY, hN_sV, hN_sN, hF_sX, hF_sXr, hF_sF, hX_sF, hX_sX, hX_sXr, Nat.reduceEqDiff, Nat.reduceAdd, er_0, er_1, er_2, er_3, er_4, Nat.zero_lt_succ, forall_const, true_implies, false_implies, imp_self, implies_true, cm C, hO]
  rintro v6 rfl
  simp (disch := first | assumption | omega | (simp only [hN_sG, hN_sY, hN_sV] <;> first | assumption | omega)) only [rd R, Option.some.injEq, exists_eq_left', true_and, and_true, and_self, ne_eq, not_false_eq_true, not_true_eq_false, false_and, and_false, if_true, if_false, ite_true, ite_false, vin_0, vin_1, vin_2, vin_n, ncl, lit_0, lit_1, lit_2, lit_3, lit_4, lit_9, nm2, nm3, nm4, nm9, na1, na2, na3, na4, hG_sG, hG_sY, hG_sV, hG_sN, hY_sG, hY_sY, hY_sV, hY_sN, hV_sG, hV_sY, hV_sN, hV_sV, hN_sG, hN_sY, hN_sV, hN_sN, hF_sX, hF_sXr, hF_sF, hX_sF, hX_sX, hX_sXr, Nat.reduceEqDiff, Nat.reduceAdd, er_0, er_1, er_2, er_3, er_4, Nat.zero_lt_succ, forall_const, true_implies, false_implies, imp_self, implies_true, cm C]
  rintro v11 rfl
  refine up_X R (by decide) fun S1 R1 => ?_
  simp (disch := first | assumption | omega | (simp only [hN_sG, hN_sY, hN_sV] <;> first | assumption | omega)) only [rd R1, Option.some.injEq, exists_eq_left', true_and, and_true, and_self, ne_eq, not_false_eq_true, not_true_eq_false, false_and, and_false, if_true, if_false, ite_true, ite_false, vin_0, vin_1, vin_2, vin_n, ncl, lit_0, lit_1, lit_2, lit_3, lit_4, lit_9, nm2, nm3, nm4, nm9, na1, na2, na3, na4, hG_sG, hG_sY, hG_sV, hG_sN, hY_sG, hY_sY, hY_sV, hY_sN, hV_sG, hV_sY, hV_sN, hV_sV, hN_sG, hN_sY, hN_sV, hN_sN, hF_sX, hF_sXr, hF_sF, hX_sF, hX_sX, hX_sXr, Nat.reduceEqDiff, Nat.reduceAdd, er_0, er_1, er_2, er_3, er_4, Nat.zero_lt_succ, forall_const, true_implies, false_implies, imp_self, implies_true]
  refine up_X R1 (by decide) fun S2 R2 => ?_
  simp (disch := first | assumption | omega | (simp only [hN_sG, hN_sY, hN_sV] <;> first | assumption | omega)) only [rd R2, Option.some.injEq, exists_eq_left', true_and, and_true, and_self, ne_eq, not_false_eq_true, not_true_eq_false, false_and, and_false, if_true, if_false, ite_true, ite_false, vin_0, vin_1, vin_2, vin_n, ncl, lit_0, lit_1, lit_2, lit_3, lit_4, lit_9, nm2, nm3, nm4, nm9, na1, na2, na3, na4, hG_sG, hG_sY, hG_sV, hG_sN, hY_sG, hY_sY, hY_sV, hY_sN, hV_sG, hV_sY, hV_sN, hV_sV, hN_sG, hN_sY, hN_sV, hN_sN, hF_sX, hF_sXr, hF_sF, hX_sF, hX_sX, hX_sXr, Nat.reduceEqDiff, Nat.reduceAdd, er_0, er_1, er_2, er_3, er_4, Nat.zero_lt_succ, forall_const, true_implies, false_implies, imp_self, implies_true]
  refine up_X R2 (by decide) fun S3 R3 => ?_
  simp (disch := first | assumption | omega | (simp only [hN_sG, hN_sY, hN_sV] <;> first | assumption | omega)) only [rd R3, Option.some.injEq, exists_eq_left', true_and, and_true, and_self, ne_eq, not_false_eq_true, not_true_eq_false, false_and, and_false, if_true, if_false, ite_true, ite_false, vin_0, vin_1, vin_2, vin_n, ncl, lit_0, lit_1, lit_2, lit_3, lit_4, lit_9, nm2, nm3, nm4, nm9, na1, na2, na3, na4, hG_sG, hG_sY, hG_sV, hG_sN, hY_sG, hY_sY, hY_sV, hY_sN, hV_sG, hV_sY, hV_sN, hV_sV, hN_sG, hN_sY, hN_sV, hN_sN, hF_sX, hF_sXr, hF_sF, hX_sF, hX_sX, hX_sXr, Nat.reduceEqDiff, Nat.reduceAdd, er_0, er_1, er_2, er_3, er_4, Nat.zero_lt_succ, forall_const, true_implies, false_implies, imp_self, implies_true]
  refine up_X R3 (by decide) fun S4 R4 => ?_
  have C4 : CM c (hsX (hsX (hsX (hsX m 6 o 0) 7 o 0) 8 o 0) 9 o 0) := CM_sX (CM_sX (CM_sX (CM_sX C (by decide)) (by decide)) (by decide)) (by decide)
  refine ⟨fun h0 => ?_, fun h0 => hQ _ S4 R4 C4 (MKno h0) rfl⟩
  have frd := frd h0
  have fcd := fcd h0
  have eb := eb h0
  have hQ2 := fun m' S' => hQ2 m' S' h0
  clear MKno hQ R R1 R2 R3 S1 S2 S3
  have x6 : ∀ x, x ≠ o → hX (hsX (hsX (hsX (hsX m 6 o 0) 7 o 0) 8 o 0) 9 o 0) 6 x = hX m 6 x := by intro x hx; simp [hX_sX, hx]
  have x7 : ∀ x, x ≠ o → hX (hsX (hsX (hsX (hsX m 6 o 0) 7 o 0) 8 o 0) 9 o 0) 7 x = hX m 7 x := by intro x hx; simp [hX_sX, hx]
  have x8 : ∀ x, x ≠ o → hX (hsX (hsX (hsX (hsX m 6 o 0) 7 o 0) 8 o 0) 9 o 0) 8 x = hX m 8 x := by intro x hx; simp [hX_sX, hx]
  have x9 : ∀ x, x ≠ o → hX (hsX (hsX (hsX (hsX m 6 o 0) 7 o 0) 8 o 0) 9 o 0) 9 x = hX m 9 x := by intro x hx; simp [hX_sX, hx]
  have x7o : hX (hsX (hsX (hsX (hsX m 6 o 0) 7 o 0) 8 o 0) 9 o 0) 7 o = 0 := by simp [hX_sX]
  have x9o : hX (hsX (hsX (hsX (hsX m 6 o 0) 7 o 0) 8 o 0) 9 o 0) 9 o = 0 := by simp [hX_sX]
  have x10 : ∀ x, hX (hsX (hsX (hsX (hsX m 6 o 0) 7 o 0) 8 o 0) 9 o 0) 10 x = hX m 10 x := by intro x; simp [hX_sX]
  have x11 : ∀ x, hX (hsX (hsX (hsX (hsX m 6 o 0) 7 o 0) 8 o 0) 9 o 0) 11 x = hX m 11 x := by intro x; simp [hX_sX]
  have F4 : hF (hsX (hsX (hsX (hsX m 6 o 0) 7 o 0) 8 o 0) 9 o 0) = hF m := rfl
  generalize hm4 : hsX (hsX (hsX (hsX m 6 o 0) 7 o 0) 8 o 0) 9 o 0 = m4 at *
  clear hm4
  simp (disch := first | assumption | omega | (simp only [hN_sG, hN_sY, hN_sV] <;> first | assumption | omega)) only [rd R4, Option.some.injEq, exists_eq_left', true_and, and_true, and_self, ne_eq, not_false_eq_true, not_true_eq_false, false_and, and_false, if_true, if_false, ite_true, ite_false, vin_0, vin_1, vin_2, vin_n, ncl, lit_0, lit_1, lit_2, lit_3, lit_4, lit_9, nm2, nm3, nm4, nm9, na1, na2, na3, na4, hG_sG, hG_sY, hG_sV, hG_sN, hY_sG, hY_sY, hY_sV, hY_sN, hV_sG, hV_sY, hV_sN, hV_sV, hN_sG, hN_sY, hN_sV, hN_sN, hF_sX, hF_sXr, hF_sF, hX_sF, hX_sX, hX_sXr, Nat.reduceEqDiff, Nat.reduceAdd, er_0, er_1, er_2, er_3, er_4, Nat.zero_lt_succ, forall_const, true_implies, false_implies, imp_self, implies_true, cm C4, e2, e1]
  rintro v40 rfl v49 rfl
  rintro v54 rfl
  simp (disch := first | assumption | omega | (simp only [hN_sG, hN_sY, hN_sV] <;> first | assumption | omega)) only [rd R4, Option.some.injEq, exists_eq_left', true_and, and_true, and_self, ne_eq, not_false_eq_true, not_true_eq_false, false_and, and_false, if_true, if_false, ite_true, ite_false, vin_0, vin_1, vin_2, vin_n, ncl, lit_0, lit_1, lit_2, lit_3, lit_4, lit_9, nm2, nm3, nm4, nm9, na1, na2, na3, na4, hG_sG, hG_sY, hG_sV, hG_sN, hY_sG, hY_sY, hY_sV, hY_sN, hV_sG, hV_sY, hV_sN, hV_sV, hN_sG, hN_sY, hN_sV, hN_sN, hF_sX, hF_sXr, hF_sF, hX_sF, hX_sX, hX_sXr, Nat.reduceEqDiff, Nat.reduceAdd, er_0, er_1, er_2, er_3, er_4, Nat.zero_lt_succ, forall_const, true_implies, false_implies, imp_self, implies_true, cm C4, ez]
  rintro v59 rfl v64 rfl
  have n1 : 1 ≤ hG c 20 (tfo c o) := WT.2.2.2.2.2.2.1.2
  have hfe : hY c 5 (tfo c o) (zo c o) = fe c o := rfl
  have t182 : ∀ price m5 S5, m5 = hsX m4 6 o (bl c o) → RP z A w h m5 u S5 → CM c m5 → (zo c o = 0 → price = rt c o) → bk_X5_rate_182 z Q X S5 (A 12 0) (nI k) (nI o) (nI (9 * tfo c o)) (nI (aco c o)) (nI (zo c o)) price := by
    intro price m5 S5 hm5 R5 C5 hp
    have y6 : ∀ x, hX m5 6 x = if x = o then bl c o else hX m 6 x := by
      intro x; rw [hm5, hX_sX]
      by_cases e : x = o
      · rw [if_pos e, if_pos ⟨rfl, e⟩]
      · rw [if_neg e, if_neg (fun q => e q.2), x6 x e]
    have yo : ∀ f x, f ≠ 6 → hX m5 f x = hX m4 f x := by
      intro f x hf; rw [hm5, hX_sX, if_neg (fun q => hf q.1)]
    have F5 : hF m5 = hF m := by rw [hm5]; exact F4
    have y6o : hX m5 6 o = bl c o := by rw [y6, if_pos rfl]
    clear hm5
    unfold bk_X5_rate_182
    refine ⟨fun e => ?_, fun e => ?_⟩
    · have hz0 : ¬ zo c o = 0 := fun q => e (by rw [q]; rfl)
      have hz12 : zo c o = 1 ∨ zo c o = 2 := by omega
      have cmq := (C5.2.2.2.2.2.2.1 _ ht).2.2.2.2.2 _ hz12
      have ert : hY c 4 (tfo c o) (zo c o) = rt c o := by unfold rt; rw [if_neg hz0]
      rw [if_neg hz0] at frd fcd
      have t330 : ∀ m6 S6, RP z A w h m6 u S6 → CM c m6 → hF m6 = hF m → (∀ x, hX m6 10 x = hX m 10 x) → (∀ x, hX m6 11 x = hX m 11 x) → (∀ x, hX m6 6 x = if x = o then bl c o else hX m 6 x) → (∀ x, hX m6 7 x = if x = o then fre c k else hX m 7 x) → (∀ x, hX m6 9 x = if x = o then 0 else hX m 9 x) → (∀ x, x ≠ o → hX m6 8 x = hX m 8 x) → bk_X5_rate_330 z Q X S6 (A 12 0) (nI o) (nI (9 * tfo c o)) (rt c o) (fe c o) (ea c (hV c 0 o) (zo c o) (dy c o) k) := by
        intro m6 S6 R6 C6 F6 w10 w11 w6 w7 w9 w8
        unfold bk_X5_rate_330
        refine ⟨fun q => ?_, fun q => ?_⟩
        · rw [if_neg q] at fcd
          refine r344 m6 S6 R6 C6 _ rfl h0 (by rw [w6, if_pos rfl]) (by rw [w7, if_pos rfl]) (by rw [w9, if_pos rfl, fcd]) fun S7 R7 => ?_
          refine hQ2 _ S7 R7 (CM_sX C6 (by decide)) (MU_a hO hz0 m6 w10 w11 w6 w7 (by rw [fcd]; exact w9) w8) F6
        · rw [if_pos q] at fcd
          simp (disch := first | assumption | omega | (simp only [hN_sG, hN_sY, hN_sV] <;> first | assumption | omega)) only [rd R6, Option.some.injEq, exists_eq_left', true_and, and_true, and_self, ne_eq, not_false_eq_true, not_true_eq_false, false_and, and_false, if_true, if_false, ite_true, ite_false, vin_0, vin_1, vin_2, vin_n, ncl, lit_0, lit_1, lit_2, lit_3, lit_4, lit_9, nm2, nm3, nm4, nm9, na1, na2, na3, na4, hG_sG, hG_sY, hG_sV, hG_sN, hY_sG, hY_sY, hY_sV, hY_sN, hV_sG, hV_sY, hV_sN, hV_sV, hN_sG, hN_sY, hN_sV, hN_sN, hF_sX, hF_sXr, hF_sF, hX_sF, hX_sX, hX_sXr, Nat.reduceEqDiff, Nat.reduceAdd, er_0, er_1, er_2, er_3, er_4, Nat.zero_lt_succ, forall_const, true_implies, false_implies, imp_self, implies_true]
          refine up_X R6 (by decide) fun S7 R7 => ?_
          have C7 : CM c (hsX m6 9 o (fe c o)) := CM_sX C6 (by decide)
          refine r344 _ S7 R7 C7 _ rfl h0 (by rw [hX_ne (by decide), w6, if_pos rfl]) (by rw [hX_ne (by decide), w7, if_pos rfl]) (by rw [hX_sX, if_pos ⟨rfl, rfl⟩, fcd]) fun S8 R8 => ?_
          refine hQ2 _ S8 R8 (CM_sX C7 (by decide)) (MU_a hO hz0 _ (fun x => by rw [hX_ne (by decide)]; exact w10 x) (fun x => by rw [hX_ne (by decide)]; exact w11 x) (fun x => by rw [hX_ne (by decide)]; exact w6 x) (fun x => by rw [hX_ne (by decide)]; exact w7 x) (fun x => ?_) (fun x hx => by rw [hX_ne (by decide)]; exact w8 x hx)) F6
          rw [hX_sX, fcd]
          by_cases g : x = o
          · rw [if_pos g, if_pos ⟨rfl, g⟩]
          · rw [if_neg g, if_neg (fun q => g q.2), w9, if_neg g]
      have z7 : ∀ x, hX m5 7 x = if x = o then 0 else hX m 7 x := by
        intro x; rw [yo _ _ (by decide)]
        by_cases g : x = o
        · rw [if_pos g, g, x7o]
        · rw [if_neg g, x7 x g]
      have z9 : ∀ x, hX m5 9 x = if x = o then 0 else hX m 9 x := by
        intro x; rw [yo _ _ (by decide)]
        by_cases g : x = o
        · rw [if_pos g, g, x9o]
        · rw [if_neg g, x9 x g]
      have z8 : ∀ x, x ≠ o → hX m5 8 x = hX m 8 x := by intro x g; rw [yo _ _ (by decide), x8 x g]
      have z10 : ∀ x, hX m5 10 x = hX m 10 x := by intro x; rw [yo _ _ (by decide), x10 x]
      have z11 : ∀ x, hX m5 11 x = hX m 11 x := by intro x; rw [yo _ _ (by decide), x11 x]
      simp (disch := first | assumption | omega | (simp only [hN_sG, hN_sY, hN_sV] <;> first | assumption | omega)) only [rd R5, Option.some.injEq, exists_eq_left', true_and, and_true, and_self, ne_eq, not_false_eq_true, not_true_eq_false, false_and, and_false, if_true, if_false, ite_true, ite_false, vin_0, vin_1, vin_2, vin_n, ncl, lit_0, lit_1, lit_2, lit_3, lit_4, lit_9, nm2, nm3, nm4, nm9, na1, na2, na3, na4, hG_sG, hG_sY, hG_sV, hG_sN, hY_sG, hY_sY, hY_sV, hY_sN, hV_sG, hV_sY, hV_sN, hV_sV, hN_sG, hN_sY, hN_sV, hN_sN, hF_sX, hF_sXr, hF_sF, hX_sF, hX_sX, hX_sXr, Nat.reduceEqDiff, Nat.reduceAdd, er_0, er_1, er_2, er_3, er_4, Nat.zero_lt_succ, forall_const, true_implies, false_implies, imp_self, implies_true, cm C5, nI_add, cmq.1, cmq.2, hfe, ert]
      rintro v6 rfl v11 rfl
      refine rear _ _ _ R5 C5 (fun k' hk' => by rw [y6, if_neg (hinj k' hk')]; exact (D3 k' hk').1) ⟨fun g => ?_, fun g => ?_⟩
      · have g0 : fe c o = 0 := (nb_le0 (WT.2.2.2.2.2.2.2 _ hz12).2 (by omega)).mp g
        rw [if_pos g0] at frd
        exact t330 m5 S5 R5 C5 F5 z10 z11 y6 (by rw [frd]; exact z7) z9 z8
      · have g0 : ¬ fe c o = 0 := fun q => g (by rw [q]; decide)
        rw [if_neg g0] at frd
        have hv : (if (if (0 : Int32) < ((1800 : Int32) - (if ea c (hV c 0 o) (zo c o) (dy c o) k < (0 : Int32) then (0 : Int32) else ea c (hV c 0 o) (zo c o) (dy c o) k)) then ((1800 : Int32) - (if ea c (hV c 0 o) (zo c o) (dy c o) k < (0 : Int32) then (0 : Int32) else ea c (hV c 0 o) (zo c o) (dy c o) k)) else (0 : Int32)) < bl c o then (if (0 : Int32) < ((1800 : Int32) - (if ea c (hV c 0 o) (zo c o) (dy c o) k < (0 : Int32) then (0 : Int32) else ea c (hV c 0 o) (zo c o) (dy c o) k)) then ((1800 : Int32) - (if ea c (hV c 0 o) (zo c o) (dy c o) k < (0 : Int32) then (0 : Int32) else ea c (hV c 0 o) (zo c o) (dy c o) k)) else (0 : Int32)) else bl c o) = fre c k := by
          rw [frd]; rfl
        simp (disch := first | assumption | omega | (simp only [hN_sG, hN_sY, hN_sV] <;> first | assumption | omega)) only [rd R5, Option.some.injEq, exists_eq_left', true_and, and_true, and_self, ne_eq, not_false_eq_true, not_true_eq_false, false_and, and_false, if_true, if_false, ite_true, ite_false, vin_0, vin_1, vin_2, vin_n, ncl, lit_0, lit_1, lit_2, lit_3, lit_4, lit_9, nm2, nm3, nm4, nm9, na1, na2, na3, na4, hG_sG, hG_sY, hG_sV, hG_sN, hY_sG, hY_sY, hY_sV, hY_sN, hV_sG, hV_sY, hV_sN, hV_sV, hN_sG, hN_sY, hN_sV, hN_sN, hF_sX, hF_sXr, hF_sF, hX_sF, hX_sX, hX_sXr, Nat.reduceEqDiff, Nat.reduceAdd, er_0, er_1, er_2, er_3, er_4, Nat.zero_lt_succ, forall_const, true_implies, false_implies, imp_self, implies_true, y6o, hv]
        refine up_X R5 (by decide) fun S6 R6 => ?_
        refine t330 _ S6 R6 (CM_sX C5 (by decide)) F5 (fun x => by rw [hX_ne (by decide)]; exact z10 x) (fun x => by rw [hX_ne (by decide)]; exact z11 x) (fun x => by rw [hX_ne (by decide)]; exact y6 x) (fun x => ?_) (fun x => by rw [hX_ne (by decide)]; exact z9 x) (fun x hx => by rw [hX_ne (by decide)]; exact z8 x hx)
        rw [hX_sX]
        by_cases g : x = o
        · rw [if_pos g, if_pos ⟨rfl, g⟩]
        · rw [if_neg g, if_neg (fun q => g q.2), z7, if_neg g]
    · have hz0 : zo c o = 0 := (nI_eq (a := zo c o) (b := 0) (by omega) (by omega)).mp e
      have hp := hp hz0
      rw [if_pos hz0] at frd fcd
      have hv : (if bl c o < hX m5 10 (aco c o) then bl c o else hX m5 10 (aco c o)) = fre c k := by
        rw [frd, yo _ _ (by decide), x10, (D1 _ ha).1]
      have e10 : hX m5 10 (aco c o) = hX m 10 (aco c o) := by rw [yo _ _ (by decide), x10]
      simp (disch := first | assumption | omega | (simp only [hN_sG, hN_sY, hN_sV] <;> first | assumption | omega)) only [rd R5, Option.some.injEq, exists_eq_left', true_and, and_true, and_self, ne_eq, not_false_eq_true, not_true_eq_false, false_and, and_false, if_true, if_false, ite_true, ite_false, vin_0, vin_1, vin_2, vin_n, ncl, lit_0, lit_1, lit_2, lit_3, lit_4, lit_9, nm2, nm3, nm4, nm9, na1, na2, na3, na4, hG_sG, hG_sY, hG_sV, hG_sN, hY_sG, hY_sY, hY_sV, hY_sN, hV_sG, hV_sY, hV_sN, hV_sV, hN_sG, hN_sY, hN_sV, hN_sN, hF_sX, hF_sXr, hF_sF, hX_sF, hX_sX, hX_sXr, Nat.reduceEqDiff, Nat.reduceAdd, er_0, er_1, er_2, er_3, er_4, Nat.zero_lt_succ, forall_const, true_implies, false_implies, imp_self, implies_true, y6o, hv]
      refine up_X R5 (by decide) fun S6 R6 => ?_
      simp (disch := first | assumption | omega | (simp only [hN_sG, hN_sY, hN_sV] <;> first | assumption | omega)) only [rd R6, Option.some.injEq, exists_eq_left', true_and, and_true, and_self, ne_eq, not_false_eq_true, not_true_eq_false, false_and, and_false, if_true, if_false, ite_true, ite_false, vin_0, vin_1, vin_2, vin_n, ncl, lit_0, lit_1, lit_2, lit_3, lit_4, lit_9, nm2, nm3, nm4, nm9, na1, na2, na3, na4, hG_sG, hG_sY, hG_sV, hG_sN, hY_sG, hY_sY, hY_sV, hY_sN, hV_sG, hV_sY, hV_sN, hV_sV, hN_sG, hN_sY, hN_sV, hN_sN, hF_sX, hF_sXr, hF_sF, hX_sF, hX_sX, hX_sXr, Nat.reduceEqDiff, Nat.reduceAdd, er_0, er_1, er_2, er_3, er_4, Nat.zero_lt_succ, forall_const, true_implies, false_implies, imp_self, implies_true, e10]
      refine up_X R6 (by decide) fun S7 R7 => ?_
      have C7 : CM c (hsX (hsX m5 7 o (fre c k)) 10 (aco c o) (hX m 10 (aco c o) - fre c k)) := CM_sX (CM_sX C5 (by decide)) (by decide)
      have w6 : ∀ x, hX (hsX (hsX m5 7 o (fre c k)) 10 (aco c o) (hX m 10 (aco c o) - fre c k)) 6 x = if x = o then bl c o else hX m 6 x := by
        intro x; rw [hX_ne (by decide), hX_ne (by decide)]; exact y6 x
      have w7 : ∀ x, hX (hsX (hsX m5 7 o (fre c k)) 10 (aco c o) (hX m 10 (aco c o) - fre c k)) 7 x = if x = o then fre c k else hX m 7 x := by
        intro x; rw [hX_ne (by decide), hX_sX]
        by_cases g : x = o
        · rw [if_pos g, if_pos ⟨rfl, g⟩]
        · rw [if_neg g, if_neg (fun q => g q.2), yo _ _ (by decide), x7 x g]
      have w8 : ∀ x, x ≠ o → hX (hsX (hsX m5 7 o (fre c k)) 10 (aco c o) (hX m 10 (aco c o) - fre c k)) 8 x = hX m 8 x := by
        intro x g; rw [hX_ne (by decide), hX_ne (by decide), yo _ _ (by decide), x8 x g]
      have w9 : ∀ x, hX (hsX (hsX m5 7 o (fre c k)) 10 (aco c o) (hX m 10 (aco c o) - fre c k)) 9 x = if x = o then fch c k else hX m 9 x := by
        intro x; rw [hX_ne (by decide), hX_ne (by decide), yo _ _ (by decide), fcd]
        by_cases g : x = o
        · rw [if_pos g, g, x9o]
        · rw [if_neg g, x9 x g]
      have w10 : ∀ x, hX (hsX (hsX m5 7 o (fre c k)) 10 (aco c o) (hX m 10 (aco c o) - fre c k)) 10 x = if x = aco c o then hX m 10 x - fre c k else hX m 10 x := by
        intro x; rw [hX_sX]
        by_cases g : x = aco c o
        · rw [if_pos g, if_pos ⟨rfl, g⟩, g]
        · rw [if_neg g, if_neg (fun q => g q.2), hX_ne (by decide), yo _ _ (by decide), x10]
      have w11 : ∀ x, hX (hsX (hsX m5 7 o (fre c k)) 10 (aco c o) (hX m 10 (aco c o) - fre c k)) 11 x = hX m 11 x := by
        intro x; rw [hX_ne (by decide), hX_ne (by decide), yo _ _ (by decide), x11]
      have F7 : hF (hsX (hsX m5 7 o (fre c k)) 10 (aco c o) (hX m 10 (aco c o) - fre c k)) = hF m := F5
      generalize hsX (hsX m5 7 o (fre c k)) 10 (aco c o) (hX m 10 (aco c o) - fre c k) = m7 at *
      have fin : ¬ (0 < fre c k ∧ hX m 10 (aco c o) - fre c k = 0) → bk_X5_rate_344 z Q X S7 (A 12 0) (nI o) (nI (9 * tfo c o)) price := by
        intro g
        refine r344 m7 S7 R7 C7 _ hp h0 (by rw [w6, if_pos rfl]) (by rw [w7, if_pos rfl]) (by rw [w9, if_pos rfl]) fun S8 R8 => ?_
        refine hQ2 _ S8 R8 (CM_sX C7 (by decide)) (MU_b hO rfl hz0 m7 w10 (fun x => ?_) w6 w7 w9 w8) F7
        rw [w11, if_neg]
        rintro ⟨q1, q2, q3⟩
        rw [q1] at q3
        exact g ⟨q2, q3⟩
      have w7o : hX m7 7 o = fre c k := by rw [w7, if_pos rfl]
      have w10o : hX m7 10 (aco c o) = hX m 10 (aco c o) - fre c k := by rw [w10, if_pos rfl]
      simp (disch := first | assumption | omega | (simp only [hN_sG, hN_sY, hN_sV] <;> first | assumption | omega)) only [rd R7, Option.some.injEq, exists_eq_left', true_and, and_true, and_self, ne_eq, not_false_eq_true, not_true_eq_false, false_and, and_false, if_true, if_false, ite_true, ite_false, vin_0, vin_1, vin_2, vin_n, ncl, lit_0, lit_1, lit_2, lit_3, lit_4, lit_9, nm2, nm3, nm4, nm9, na1, na2, na3, na4, hG_sG, hG_sY, hG_sV, hG_sN, hY_sG, hY_sY, hY_sV, hY_sN, hV_sG, hV_sY, hV_sN, hV_sV, hN_sG, hN_sY, hN_sV, hN_sN, hF_sX, hF_sXr, hF_sF, hX_sF, hX_sX, hX_sXr, Nat.reduceEqDiff, Nat.reduceAdd, er_0, er_1, er_2, er_3, er_4, Nat.zero_lt_succ, forall_const, true_implies, false_implies, imp_self, implies_true, w7o, w10o]
      refine ⟨fun g => fin fun q => absurd g (Int32.not_le.mpr q.1), fun g => ⟨fun g2 => fin fun q => g2 q.2, fun g2 => ?_⟩⟩
      refine up_X R7 (by decide) fun S8 R8 => ?_
      have C8 : CM c (hsX m7 11 (aco c o) (nI o)) := CM_sX C7 (by decide)
      refine r344 _ S8 R8 C8 _ hp h0 (by rw [hX_ne (by decide), w6, if_pos rfl]) (by rw [hX_ne (by decide), w7, if_pos rfl]) (by rw [hX_ne (by decide), w9, if_pos rfl]) fun S9 R9 => ?_
      refine hQ2 _ S9 R9 (CM_sX C8 (by decide)) (MU_b hO rfl hz0 _ (fun x => by rw [hX_ne (by decide)]; exact w10 x) (fun x => ?_) (fun x => by rw [hX_ne (by decide)]; exact w6 x) (fun x => by rw [hX_ne (by decide)]; exact w7 x) (fun x => by rw [hX_ne (by decide)]; exact w9 x) (fun x hx => by rw [hX_ne (by decide)]; exact w8 x hx)) F7
      rw [hX_sX]
      by_cases q : x = aco c o
      · rw [if_pos ⟨rfl, q⟩, if_pos ⟨q, Int32.not_le.mp g, by rw [q]; exact g2⟩]
      · rw [if_neg (fun y => q y.2), if_neg (fun y => q y.1), w11]
  have main : bk_X5_rate_152 z Q X S4 (A 12 0) (nI k) (nI o) (nI (9 * tfo c o)) (nI (aco c o)) (nI (zo c o)) (A 11 6) (nI o) (bl c o) := by
    unfold bk_X5_rate_152
    simp (disch := first | assumption | omega | (simp only [hN_sG, hN_sY, hN_sV] <;> first | assumption | omega)) only [rd R4, Option.some.injEq, exists_eq_left', true_and, and_true, and_self, ne_eq, not_false_eq_true, not_true_eq_false, false_and, and_false, if_true, if_false, ite_true, ite_false, vin_0, vin_1, vin_2, vin_n, ncl, lit_0, lit_1, lit_2, lit_3, lit_4, lit_9, nm2, nm3, nm4, nm9, na1, na2, na3, na4, hG_sG, hG_sY, hG_sV, hG_sN, hY_sG, hY_sY, hY_sV, hY_sN, hV_sG, hV_sY, hV_sN, hV_sV, hN_sG, hN_sY, hN_sV, hN_sN, hF_sX, hF_sXr, hF_sF, hX_sF, hX_sX, hX_sXr, Nat.reduceEqDiff, Nat.reduceAdd, er_0, er_1, er_2, er_3, er_4, Nat.zero_lt_succ, forall_const, true_implies, false_implies, imp_self, implies_true]
    refine up_X R4 (by decide) fun S5 R5 => ?_
    have C5 : CM c (hsX m4 6 o (bl c o)) := CM_sX C4 (by decide)
    simp (disch := first | assumption | omega | (simp only [hN_sG, hN_sY, hN_sV] <;> first | assumption | omega)) only [rd R5, Option.some.injEq, exists_eq_left', true_and, and_true, and_self, ne_eq, not_false_eq_true, not_true_eq_false, false_and, and_false, if_true, if_false, ite_true, ite_false, vin_0, vin_1, vin_2, vin_n, ncl, lit_0, lit_1, lit_2, lit_3, lit_4, lit_9, nm2, nm3, nm4, nm9, na1, na2, na3, na4, hG_sG, hG_sY, hG_sV, hG_sN, hY_sG, hY_sY, hY_sV, hY_sN, hV_sG, hV_sY, hV_sN, hV_sV, hN_sG, hN_sY, hN_sV, hN_sN, hF_sX, hF_sXr, hF_sF, hX_sF, hX_sX, hX_sXr, Nat.reduceEqDiff, Nat.reduceAdd, er_0, er_1, er_2, er_3, er_4, Nat.zero_lt_succ, forall_const, true_implies, false_implies, imp_self, implies_true]
    refine ru_isInPeak R5 C5 W ho (fun p => ⟨fun q => absurd q (by decide), fun _ => ?_⟩) (fun p => ⟨fun _ => ?_, fun q => absurd rfl q⟩)
    · simp (disch := first | assumption | omega | (simp only [hN_sG, hN_sY, hN_sV] <;> first | assumption | omega)) only [rd R5, Option.some.injEq, exists_eq_left', true_and, and_true, and_self, ne_eq, not_false_eq_true, not_true_eq_false, false_and, and_false, if_true, if_false, ite_true, ite_false, vin_0, vin_1, vin_2, vin_n, ncl, lit_0, lit_1, lit_2, lit_3, lit_4, lit_9, nm2, nm3, nm4, nm9, na1, na2, na3, na4, hG_sG, hG_sY, hG_sV, hG_sN, hY_sG, hY_sY, hY_sV, hY_sN, hV_sG, hV_sY, hV_sN, hV_sV, hN_sG, hN_sY, hN_sV, hN_sN, hF_sX, hF_sXr, hF_sF, hX_sF, hX_sX, hX_sXr, Nat.reduceEqDiff, Nat.reduceAdd, er_0, er_1, er_2, er_3, er_4, Nat.zero_lt_succ, forall_const, true_implies, false_implies, imp_self, implies_true, cm C4]
      exact t182 _ _ S5 rfl R5 C5 (fun q => by unfold rt; rw [if_pos q, if_pos p])
    · simp (disch := first | assumption | omega | (simp only [hN_sG, hN_sY, hN_sV] <;> first | assumption | omega)) only [rd R5, Option.some.injEq, exists_eq_left', true_and, and_true, and_self, ne_eq, not_false_eq_true, not_true_eq_false, false_and, and_false, if_true, if_false, ite_true, ite_false, vin_0, vin_1, vin_2, vin_n, ncl, lit_0, lit_1, lit_2, lit_3, lit_4, lit_9, nm2, nm3, nm4, nm9, na1, na2, na3, na4, hG_sG, hG_sY, hG_sV, hG_sN, hY_sG, hY_sY, hY_sV, hY_sN, hV_sG, hV_sY, hV_sN, hV_sV, hN_sG, hN_sY, hN_sV, hN_sN, hF_sX, hF_sXr, hF_sF, hX_sF, hX_sX, hX_sXr, Nat.reduceEqDiff, Nat.reduceAdd, er_0, er_1, er_2, er_3, er_4, Nat.zero_lt_succ, forall_const, true_implies, false_implies, imp_self, implies_true, cm C4]
      exact t182 _ _ S5 rfl R5 C5 (fun q => by unfold rt; rw [if_pos q, if_neg p])
  refine ⟨fun e => ⟨fun q => absurd (show (1 : Int32) ≤ 0 by rw [q] at n1; exact n1) (by decide), ?_⟩, fun e => ?_⟩
  · rw [← eb] at main
    unfold blf at main
    rw [if_neg (Int32.not_le.mpr e)] at main
    exact main
  · rw [← eb] at main
    unfold blf at main
    rw [if_pos (Int32.not_lt.mp e)] at main
    exact main
