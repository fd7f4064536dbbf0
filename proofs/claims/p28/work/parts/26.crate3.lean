theorem ru_bk80 {z A w h m u S} (R : RP z A w h m u S) {c : hC} (s : ST c h) (W : WF c) {o : Nat} (ho : o < hN c 3) {r : Int32} {Q : mmS → Prop} {X : String → mmS → Prop} {p : Int32} (hp : p = hG h 13 o + chf (hG c 16 (tfo c o)) (hG h 10 o - hG h 11 o) r)
    (hQ : ∀ S', RP z A w (hsG (hsG (hsG h 12 o p) 14 (hV c 0 o) (hG h 14 (hV c 0 o) + p)) 5 (aco c o) (hG h 5 (aco c o) + p)) m u S' → Q S') : bk_X4_rate_80 z Q X S (A 3 o) (A 2 (hV c 0 o)) (A 0 (tfo c o)) r := by
  have hl := (W.2.2.2.2.1 o ho).2.2.1
  have ht : tfo c o < hN c 0 := (W.2.2.2.1 _ hl).2.2
  have ha : aco c o < hN c 1 := (W.2.2.2.1 _ hl).2.1
  have ho' : o < hN h 3 := by rw [s.1]; exact ho
  have hl' : hV c 0 o < hN h 2 := by rw [s.1]; exact hl
  have ht' : tfo c o < hN h 0 := by rw [s.1]; exact ht
  have ha' : aco c o < hN h 1 := by rw [s.1]; exact ha
  have ea : hV c 1 (hV c 0 o) = aco c o := rfl
  unfold bk_X4_rate_80
  simp (disch := first | assumption | omega | (simp only [hN_sG, hN_sY, hN_sV] <;> first | assumption | omega)) only [rd R, st s, Option.some.injEq, exists_eq_left', true_and, and_true, and_self, ne_eq, not_false_eq_true, not_true_eq_false, false_and, and_false, if_true, if_false, ite_true, ite_false, vin_0, vin_1, vin_2, vin_n, ncl, lit_0, lit_1, lit_2, lit_3, lit_4, lit_9, nm2, nm3, nm4, nm9, na1, na2, na3, na4, hG_sG, hG_sY, hG_sV, hG_sN, hY_sG, hY_sY, hY_sV, hY_sN, hV_sG, hV_sY, hV_sN, hV_sV, hN_sG, hN_sY, hN_sV, hN_sN, hF_sX, hF_sXr, hF_sF, hX_sF, hX_sX, hX_sXr, Nat.reduceEqDiff, Nat.reduceAdd, er_0, er_1, er_2, er_3, er_4, Nat.zero_lt_succ, forall_const, true_implies, false_implies, imp_self, implies_true]
  refine ru_X3_chargeFor R ht' ?_
  simp (disch := first | assumption | omega | (simp only [hN_sG, hN_sY, hN_sV] <;> first | assumption | omega)) only [rd R, st s, Option.some.injEq, exists_eq_left', true_and, and_true, and_self, ne_eq, not_false_eq_true, not_true_eq_false, false_and, and_false, if_true, if_false, ite_true, ite_false, vin_0, vin_1, vin_2, vin_n, ncl, lit_0, lit_1, lit_2, lit_3, lit_4, lit_9, nm2, nm3, nm4, nm9, na1, na2, na3, na4, hG_sG, hG_sY, hG_sV, hG_sN, hY_sG, hY_sY, hY_sV, hY_sN, hV_sG, hV_sY, hV_sN, hV_sV, hN_sG, hN_sY, hN_sV, hN_sN, hF_sX, hF_sXr, hF_sF, hX_sF, hX_sX, hX_sXr, Nat.reduceEqDiff, Nat.reduceAdd, er_0, er_1, er_2, er_3, er_4, Nat.zero_lt_succ, forall_const, true_implies, false_implies, imp_self, implies_true]
  rw [← hp]
  refine up_I R (by decide) ho' fun S1 R1 => ?_
  simp (disch := first | assumption | omega | (simp only [hN_sG, hN_sY, hN_sV] <;> first | assumption | omega)) only [rd R1, st s, Option.some.injEq, exists_eq_left', true_and, and_true, and_self, ne_eq, not_false_eq_true, not_true_eq_false, false_and, and_false, if_true, if_false, ite_true, ite_false, vin_0, vin_1, vin_2, vin_n, ncl, lit_0, lit_1, lit_2, lit_3, lit_4, lit_9, nm2, nm3, nm4, nm9, na1, na2, na3, na4, hG_sG, hG_sY, hG_sV, hG_sN, hY_sG, hY_sY, hY_sV, hY_sN, hV_sG, hV_sY, hV_sN, hV_sV, hN_sG, hN_sY, hN_sV, hN_sN, hF_sX, hF_sXr, hF_sF, hX_sF, hX_sX, hX_sXr, Nat.reduceEqDiff, Nat.reduceAdd, er_0, er_1, er_2, er_3, er_4, Nat.zero_lt_succ, forall_const, true_implies, false_implies, imp_self, implies_true]
  refine up_I R1 (by decide) hl' fun S2 R2 => ?_
  simp (disch := first | assumption | omega | (simp only [hN_sG, hN_sY, hN_sV] <;> first | assumption | omega)) only [rd R2, st s, Option.some.injEq, exists_eq_left', true_and, and_true, and_self, ne_eq, not_false_eq_true, not_true_eq_false, false_and, and_false, if_true, if_false, ite_true, ite_false, vin_0, vin_1, vin_2, vin_n, ncl, lit_0, lit_1, lit_2, lit_3, lit_4, lit_9, nm2, nm3, nm4, nm9, na1, na2, na3, na4, hG_sG, hG_sY, hG_sV, hG_sN, hY_sG, hY_sY, hY_sV, hY_sN, hV_sG, hV_sY, hV_sN, hV_sV, hN_sG, hN_sY, hN_sV, hN_sN, hF_sX, hF_sXr, hF_sF, hX_sF, hX_sX, hX_sXr, Nat.reduceEqDiff, Nat.reduceAdd, er_0, er_1, er_2, er_3, er_4, Nat.zero_lt_succ, forall_const, true_implies, false_implies, imp_self, implies_true, ea]
  refine up_I R2 (by decide) ha' fun S3 R3 => hQ S3 R3
/-- all that rating changes but the sums and the price -/
def U2 (c h h' : hC) (k : Nat) : Prop :=
  (∀ x, hG h' 3 x = (if zo c (hV c 9 k) = 0 ∧ aco c (hV c 9 k) = x then hG h 3 x - fre c k else hG h 3 x)
    ∧ hG h' 4 x = (if zo c (hV c 9 k) = 0 ∧ aco c (hV c 9 k) = x ∧ 0 < fre c k ∧ hG h 3 x - fre c k = 0 then nI (hV c 9 k) else hG h 4 x) ∧ hG h' 5 x = hG h 5 x)
  ∧ (∀ x, hG h' 14 x = hG h 14 x ∧ ∀ q, q = 1 ∨ q = 2 → hY h' 6 x q = (if hV c 0 (hV c 9 k) = x ∧ zo c (hV c 9 k) = q ∧ ¬ fch c k = 0 then hY h 6 x q + 1 else hY h 6 x q)
      ∧ hY h' 7 x q = (if hV c 0 (hV c 9 k) = x ∧ zo c (hV c 9 k) = q ∧ ¬ fe c (hV c 9 k) = 0 then dy c (hV c 9 k) else hY h 7 x q)
      ∧ hY h' 8 x q = (if hV c 0 (hV c 9 k) = x ∧ zo c (hV c 9 k) = q ∧ ¬ fe c (hV c 9 k) = 0 then fdv (mx0 (ea c x q (dy c (hV c 9 k)) k) + bl c (hV c 9 k)) else hY h 8 x q))
  ∧ (∀ x, hG h' 10 x = (if x = hV c 9 k then bl c (hV c 9 k) else hG h 10 x) ∧ hG h' 11 x = (if x = hV c 9 k then fre c k else hG h 11 x) ∧ hG h' 12 x = hG h 12 x ∧ hG h' 13 x = (if x = hV c 9 k then fch c k else hG h 13 x))
theorem UP_of {c h h2 : hC} {k : Nat} (u : U2 c h h2 k) {o l a : Nat} (ho : hV c 9 k = o) (hl : hV c 0 o = l) (ha : aco c o = a) : UP c h (hsG (hsG (hsG h2 12 o (prc c k)) 14 l (hG h2 14 l + prc c k)) 5 a (hG h2 5 a + prc c k)) k := by
  obtain ⟨u1, u2, u3⟩ := u
  unfold UP
  rw [ho] at *
  rw [hl, ha] at *
  refine ⟨fun x _ => ?_, fun x _ => ?_, fun x => ?_⟩
  · obtain ⟨v1, v2, v3⟩ := u1 x
    refine ⟨?_, ?_, ?_⟩
    · simp only [hG_sG, Nat.reduceEqDiff, false_and, if_false]; exact v1
    · simp only [hG_sG, Nat.reduceEqDiff, false_and, if_false]; exact v2
    · simp only [hG_sG, Nat.reduceEqDiff, false_and, if_false, true_and]
      by_cases e : x = a
      · rw [if_pos e, if_pos e.symm, ← e, v3]
      · rw [if_neg e, if_neg (fun q => e q.symm), v3]
  · obtain ⟨v1, v2⟩ := u2 x
    refine ⟨?_, fun q hq => ?_⟩
    · simp only [hG_sG, Nat.reduceEqDiff, false_and, if_false, true_and]
      by_cases e : x = l
      · rw [if_pos e, if_pos e.symm, ← e, v1]
      · rw [if_neg e, if_neg (fun q => e q.symm), v1]
    · exact v2 q hq
  · obtain ⟨v1, v2, v3, v4⟩ := u3 x
    refine ⟨?_, ?_, ?_, ?_⟩
    · simp only [hG_sG, Nat.reduceEqDiff, false_and, if_false]; exact v1
    · simp only [hG_sG, Nat.reduceEqDiff, false_and, if_false]; exact v2
    · simp only [hG_sG, Nat.reduceEqDiff, false_and, if_false, true_and]
      by_cases e : x = o
      · rw [if_pos e, if_pos e]
      · rw [if_neg e, if_neg e, v3]
    · simp only [hG_sG, Nat.reduceEqDiff, false_and, if_false]; exact v4
theorem U2_a {c h : hC} {k o : Nat} (ho : hV c 9 k = o) (hz : ¬ zo c o = 0) (g : fe c o = 0) (fc : fch c k = 0) (fr : fre c k = 0) (f1 : hG h 11 o = 0) (f3 : hG h 13 o = 0) : U2 c h (hsG h 10 o (bl c o)) k := by
  unfold U2
  rw [ho]
  refine ⟨fun x => ⟨?_, ?_, ?_⟩, fun x => ⟨?_, fun q hq => ⟨?_, ?_, ?_⟩⟩, fun x => ⟨?_, ?_, ?_, ?_⟩⟩ <;> simp [hG_sG, hY_sG, hz, g, fc, fr]
  · rintro rfl; exact f1
  · rintro rfl; exact f3
theorem U2_b {c h : hC} {k o l q0 : Nat} (ho : hV c 9 k = o) (hl : hV c 0 o = l) (hq0 : zo c o = q0) (hz : ¬ q0 = 0) (g : ¬ fe c o = 0) (fc : fch c k = 0) (f3 : hG h 13 o = 0)
    (h7 : hY h 7 l q0 = dy c o) (h8 : hY h 8 l q0 - fre c k = fdv (mx0 (ea c l q0 (dy c o) k) + bl c o)) :
    U2 c h (hsG (hsY (hsG h 10 o (bl c o)) 8 l q0 (hY (hsG h 10 o (bl c o)) 8 l q0 - fre c k)) 11 o (fre c k)) k := by
  unfold U2
  rw [ho, hl, hq0]
  refine ⟨fun x => ⟨?_, ?_, ?_⟩, fun x => ⟨?_, fun q hq => ⟨?_, ?_, ?_⟩⟩, fun x => ⟨?_, ?_, ?_, ?_⟩⟩ <;> simp [hG_sG, hY_sG, hY_sY, hG_sY, hz, g, fc]
  · intro e1 e2; rw [← e1, ← e2, h7]
  · by_cases e : x = l ∧ q = q0
    · rw [if_pos e, if_pos ⟨e.1.symm, e.2.symm⟩, h8, e.1, e.2]
    · rw [if_neg e, if_neg (fun y => e ⟨y.1.symm, y.2.symm⟩)]
  · rintro rfl; exact f3
theorem U2_c {c h : hC} {k o l q0 : Nat} (ho : hV c 9 k = o) (hl : hV c 0 o = l) (hq0 : zo c o = q0) (hz : ¬ q0 = 0) (g : ¬ fe c o = 0) (fc : fch c k = fe c o)
    (h8 : 1800 - fre c k = fdv (mx0 (ea c l q0 (dy c o) k) + bl c o)) :
    U2 c h (hsG (hsY (hsG (hsY (hsY (hsY (hsG h 10 o (bl c o)) 7 l q0 (dy c o)) 8 l q0 1800) 6 l q0 (hY (hsG h 10 o (bl c o)) 6 l q0 + 1)) 13 o (fe c o)) 8 l q0 (1800 - fre c k)) 11 o (fre c k)) k := by
  unfold U2
  rw [ho, hl, hq0]
  refine ⟨fun x => ⟨?_, ?_, ?_⟩, fun x => ⟨?_, fun q hq => ⟨?_, ?_, ?_⟩⟩, fun x => ⟨?_, ?_, ?_, ?_⟩⟩ <;> simp [hG_sG, hY_sG, hY_sY, hG_sY, hz, g, fc]
  · by_cases e : x = l ∧ q = q0
    · rw [if_pos e, if_pos ⟨e.1.symm, e.2.symm⟩, e.1, e.2]
    · rw [if_neg e, if_neg (fun y => e ⟨y.1.symm, y.2.symm⟩)]
  · by_cases e : x = l ∧ q = q0
    · rw [if_pos e, if_pos ⟨e.1.symm, e.2.symm⟩]
    · rw [if_neg e, if_neg (fun y => e ⟨y.1.symm, y.2.symm⟩)]
  · by_cases e : x = l ∧ q = q0
    · rw [if_pos e, if_pos ⟨e.1.symm, e.2.symm⟩, h8, e.1, e.2]
    · rw [if_neg e, if_neg e, if_neg (fun y => e ⟨y.1.symm, y.2.symm⟩)]
theorem U2_d {c h : hC} {k o a : Nat} (ho : hV c 9 k = o) (ha : aco c o = a) (hz : zo c o = 0) (fc : fch c k = 0) (f3 : hG h 13 o = 0) (e6 : hG h 6 o = nI o) (h2 : hC)
    (hh : h2 = if 0 < fre c k ∧ hG (hsG h 10 o (bl c o)) 3 a - fre c k = 0 then hsG (hsG (hsG h 10 o (bl c o)) 3 a (hG (hsG h 10 o (bl c o)) 3 a - fre c k)) 4 a (hG (hsG h 10 o (bl c o)) 6 o) else hsG (hsG h 10 o (bl c o)) 3 a (hG (hsG h 10 o (bl c o)) 3 a - fre c k)) :
    U2 c h (hsG h2 11 o (fre c k)) k := by
  have nz : ∀ q : Nat, (q = 1 ∨ q = 2) → ¬ 0 = q := by intro q hq; omega
  have t1 : hG (hsG h 10 o (bl c o)) 3 a = hG h 3 a := by simp [hG_sG]
  have t2 : hG (hsG h 10 o (bl c o)) 6 o = nI o := by simp [hG_sG, e6]
  rw [t1, t2] at hh
  unfold U2
  rw [ho, ha, hz]
  by_cases b : 0 < fre c k ∧ hG h 3 a - fre c k = 0
  · rw [if_pos b] at hh
    subst hh
    refine ⟨fun x => ⟨?_, ?_, ?_⟩, fun x => ⟨?_, fun q hq => ⟨?_, ?_, ?_⟩⟩, fun x => ⟨?_, ?_, ?_, ?_⟩⟩ <;> simp [hG_sG, hY_sG, hY_sY, hG_sY, fc]
    · by_cases e : x = a
      · rw [if_pos e, if_pos e.symm, e]
      · rw [if_neg e, if_neg (fun y => e y.symm)]
    · by_cases e : x = a
      · rw [if_pos e, if_pos ⟨e.symm, b.1, by rw [e]; exact b.2⟩]
      · rw [if_neg e, if_neg (fun y => e y.1.symm)]
    · intro _ e _; exact absurd e (nz q hq)
    · intro _ e _; exact absurd e (nz q hq)
    · rintro rfl; exact f3
  · rw [if_neg b] at hh
    subst hh
    refine ⟨fun x => ⟨?_, ?_, ?_⟩, fun x => ⟨?_, fun q hq => ⟨?_, ?_, ?_⟩⟩, fun x => ⟨?_, ?_, ?_, ?_⟩⟩ <;> simp [hG_sG, hY_sG, hY_sY, hG_sY, fc]
    · by_cases e : x = a
      · rw [if_pos e, if_pos e.symm, e]
      · rw [if_neg e, if_neg (fun y => e y.symm)]
    · intro e b1 b2; exact absurd ⟨b1, by rw [e]; exact b2⟩ b
    · intro _ e _; exact absurd e (nz q hq)
    · intro _ e _; exact absurd e (nz q hq)
    · rintro rfl; exact f3
theorem ru_rate {z A w h m u S} (R : RP z A w h m u S) {c : hC} (s : ST c h) (W : WF c) {k : Nat} (hk : k < hN c 3) (D : DK c h k) (h0 : ¬ hG c 9 (hV c 9 k) = 0)
    (f1 : hG h 11 (hV c 9 k) = 0) (f3 : hG h 13 (hV c 9 k) = 0) {Q : mmS → Prop} {X : String → mmS → Prop}
    (hQ : ∀ h' S', RP z A w h' m u S' → ST c h' → DK c h' (k + 1) → Q S') : wp_X4_rate z S (A 10 0) (A 3 (hV c 9 k)) Q X := by
  have hQ2 : ∀ h' S', RP z A w h' m u S' → ST c h' → UP c h h' k → Q S' := fun h' S' R' s' U => hQ h' S' R' s' (DK_up W hk h0 D U)
  clear hQ
  have ho := W.2.2.2.2.2.1 k hk
  have edf : ∀ o, o = hV c 9 k → True := fun _ _ => trivial
  have D1 := D.1
  have D2 := D.2.1
  have frd : fre c k = (if zo c (hV c 9 k) = 0 then (if bl c (hV c 9 k) < un c (aco c (hV c 9 k)) k then bl c (hV c 9 k) else un c (aco c (hV c 9 k)) k)
      else if fe c (hV c 9 k) = 0 then 0 else (if fdv (ea c (hV c 0 (hV c 9 k)) (zo c (hV c 9 k)) (dy c (hV c 9 k)) k) < bl c (hV c 9 k) then fdv (ea c (hV c 0 (hV c 9 k)) (zo c (hV c 9 k)) (dy c (hV c 9 k)) k) else bl c (hV c 9 k))) := by
    unfold fre; rw [if_neg h0]
  have fcd : fch c k = (if zo c (hV c 9 k) = 0 then 0 else if ea c (hV c 0 (hV c 9 k)) (zo c (hV c 9 k)) (dy c (hV c 9 k)) k = -1 then fe c (hV c 9 k) else 0) := by
    unfold fch; rw [if_neg h0]
  have prd : prc c k = fch c k + chf (hG c 16 (tfo c (hV c 9 k))) (bl c (hV c 9 k) - fre c k) (rt c (hV c 9 k)) := by
    unfold prc; rw [if_neg h0]
  have eb : blf (hG c 19 (tfo c (hV c 9 k))) (hG c 20 (tfo c (hV c 9 k))) (hG c 9 (hV c 9 k)) = bl c (hV c 9 k) := by unfold bl; rw [if_neg h0]
  have ldi := fun g => ld_iff W hk g
  have bnd := bl_nb W ho
  have ean := ea_nb2 W (hV c 0 (hV c 9 k)) (zo c (hV c 9 k)) (dy c (hV c 9 k)) (k := k) (by omega)
  generalize hO : hV c 9 k = o at *
  have hl := (W.2.2.2.2.1 o ho).2.2.1
  have ht : tfo c o < hN c 0 := (W.2.2.2.1 _ hl).2.2
  have ha : aco c o < hN c 1 := (W.2.2.2.1 _ hl).2.1
  have ho' : o < hN h 3 := by rw [s.1]; exact ho
  have hl' : hV c 0 o < hN h 2 := by rw [s.1]; exact hl
  have ht' : tfo c o < hN h 0 := by rw [s.1]; exact ht
  have ha' : aco c o < hN h 1 := by rw [s.1]; exact ha
  have e1 : hV c 1 (hV c 0 o) = aco c o := rfl
  have e2 : hV c 2 (hV c 0 o) = tfo c o := rfl
  have WT := W.2.1 _ ht
  obtain ⟨ez, hz⟩ := zo_n W ho
  unfold wp_X4_rate
  simp (disch := first | assumption | omega | (simp only [hN_sG, hN_sY, hN_sV] <;> first | assumption | omega)) only [rd R, st s, Option.some.injEq, exists_eq_left', true_and, and_true, and_self, ne_eq, not_false_eq_true, not_true_eq_false, false_and, and_false, if_true, if_false, ite_true, ite_false, vin_0, vin_1, vin_2, vin_n, ncl, lit_0, lit_1, lit_2, lit_3, lit_4, lit_9, nm2, nm3, nm4, nm9, na1, na2, na3, na4, hG_sG, hG_sY, hG_sV, hG_sN, hY_sG, hY_sY, hY_sV, hY_sN, hV_sG, hV_sY, hV_sN, hV_sV, hN_sG, hN_sY, hN_sV, hN_sN, hF_sX, hF_sXr, hF_sF, hX_sF, hX_sX, hX_sXr, Nat.reduceEqDiff, Nat.reduceAdd, er_0, er_1, er_2, er_3, er_4, Nat.zero_lt_succ, forall_const, true_implies, false_implies, imp_self, implies_true, e1, e2]
  refine ru_X3_billedFor R ht' (by rw [s.2.2.1 20 rfl]; exact WT.2.2.2.2.2.2.1.2) ?_
  simp (disch := first | assumption | omega | (simp only [hN_sG, hN_sY, hN_sV] <;> first | assumption | omega)) only [rd R, st s, Option.some.injEq, exists_eq_left', true_and, and_true, and_self, ne_eq, not_false_eq_true, not_true_eq_false, false_and, and_false, if_true, if_false, ite_true, ite_false, vin_0, vin_1, vin_2, vin_n, ncl, lit_0, lit_1, lit_2, lit_3, lit_4, lit_9, nm2, nm3, nm4, nm9, na1, na2, na3, na4, hG_sG, hG_sY, hG_sV, hG_sN, hY_sG, hY_sY, hY_sV, hY_sN, hV_sG, hV_sY, hV_sN, hV_sV, hN_sG, hN_sY, hN_sV, hN_sN, hF_sX, hF_sXr, hF_sF, hX_sF, hX_sX, hX_sXr, Nat.reduceEqDiff, Nat.reduceAdd, er_0, er_1, er_2, er_3, er_4, Nat.zero_lt_succ, forall_const, true_implies, false_implies, imp_self, implies_true, eb]
  refine up_I R (by decide) ho' fun S1 R1 => ?_
  have s1 : ST c (hsG h 10 o (bl c o)) := ST_sG s rfl
  simp (disch := first | assumption | omega | (simp only [hN_sG, hN_sY, hN_sV] <;> first | assumption | omega)) only [rd R1, st s, Option.some.injEq, exists_eq_left', true_and, and_true, and_self, ne_eq, not_false_eq_true, not_true_eq_false, false_and, and_false, if_true, if_false, ite_true, ite_false, vin_0, vin_1, vin_2, vin_n, ncl, lit_0, lit_1, lit_2, lit_3, lit_4, lit_9, nm2, nm3, nm4, nm9, na1, na2, na3, na4, hG_sG, hG_sY, hG_sV, hG_sN, hY_sG, hY_sY, hY_sV, hY_sN, hV_sG, hV_sY, hV_sN, hV_sV, hN_sG, hN_sY, hN_sV, hN_sN, hF_sX, hF_sXr, hF_sF, hX_sF, hX_sX, hX_sXr, Nat.reduceEqDiff, Nat.reduceAdd, er_0, er_1, er_2, er_3, er_4, Nat.zero_lt_succ, forall_const, true_implies, false_implies, imp_self, implies_true, e1, e2, ez]
  refine ⟨fun e => ?_, fun e => ?_⟩
  · have hz0 : ¬ zo c o = 0 := fun q => e (by rw [q]; rfl)
    have ert : rt c o = hY c 4 (tfo c o) (zo c o) := by unfold rt; rw [if_neg hz0]
    rw [if_neg hz0] at frd fcd
    have hz12 : zo c o = 1 ∨ zo c o = 2 := by omega
    obtain ⟨g1, g2⟩ := D2 _ hl
    obtain ⟨g3, g4, g5⟩ := g2 _ hz12
    have tail : ∀ h2 S2, RP z A w h2 m u S2 → ST c h2 → (∀ S', RP z A w (hsG (hsG (hsG h2 12 o (hG h2 13 o + chf (hG c 16 (tfo c o)) (hG h2 10 o - hG h2 11 o) (rt c o))) 14 (hV c 0 o) (hG h2 14 (hV c 0 o) + (hG h2 13 o + chf (hG c 16 (tfo c o)) (hG h2 10 o - hG h2 11 o) (rt c o)))) 5 (aco c o) (hG h2 5 (aco c o) + (hG h2 13 o + chf (hG c 16 (tfo c o)) (hG h2 10 o - hG h2 11 o) (rt c o)))) m u S' → Q S') →
        (A 0 (tfo c o) ∈ mL S2 ∧ mK S2 (A 0 (tfo c o)) = 3) ∧ ∃ b14 : Nat, mR S2 6 (A 0 (tfo c o)) = some b14 ∧ (A 3 o ∈ mL S2 ∧ mK S2 (A 3 o) = 1) ∧ (b14 ∈ mL S2 ∧ mK S2 b14 = 7) ∧ vp_in (mI S2 8 (A 3 o)) (mN S2 b14) ∧ ∀ v19 : Int32, v19 = (mA S2 b14 (mI S2 8 (A 3 o)).toNatClampNeg) → bk_X4_rate_80 z Q X S2 (A 3 o) (A 2 (hV c 0 o)) (A 0 (tfo c o)) v19 := by
      intro h2 S2 R2 s2 hh
      have ho2 : o < hN h2 3 := by rw [s2.1]; exact ho
      have ht2 : tfo c o < hN h2 0 := by rw [s2.1]; exact ht
      simp (disch := first | assumption | omega | (simp only [hN_sG, hN_sY, hN_sV] <;> first | assumption | omega)) only [rd R2, st s2, Option.some.injEq, exists_eq_left', true_and, and_true, and_self, ne_eq, not_false_eq_true, not_true_eq_false, false_and, and_false, if_true, if_false, ite_true, ite_false, vin_0, vin_1, vin_2, vin_n, ncl, lit_0, lit_1, lit_2, lit_3, lit_4, lit_9, nm2, nm3, nm4, nm9, na1, na2, na3, na4, hG_sG, hG_sY, hG_sV, hG_sN, hY_sG, hY_sY, hY_sV, hY_sN, hV_sG, hV_sY, hV_sN, hV_sV, hN_sG, hN_sY, hN_sV, hN_sN, hF_sX, hF_sXr, hF_sF, hX_sF, hX_sX, hX_sXr, Nat.reduceEqDiff, Nat.reduceAdd, er_0, er_1, er_2, er_3, er_4, Nat.zero_lt_succ, forall_const, true_implies, false_implies, imp_self, implies_true, ez]
      rintro v19 rfl
      rw [← ert]
      exact ru_bk80 R2 s2 W ho rfl hh
    refine ru_rateDayFee R1 s1 W ho (fun g => ?_) (fun g g7 v hv S2 R2 => ?_) (fun g g7 v hv S2 R2 => ?_)
    · refine tail _ _ R1 s1 fun S3 R3 => hQ2 _ S3 R3 (ST_sG (ST_sG (ST_sG s1 rfl) rfl) rfl) ?_
      rw [if_pos g] at frd
      have fc0 : fch c k = 0 := by rw [fcd, g]; split <;> rfl
      have hp : hG (hsG h 10 o (bl c o)) 13 o + chf (hG c 16 (tfo c o)) (hG (hsG h 10 o (bl c o)) 10 o - hG (hsG h 10 o (bl c o)) 11 o) (rt c o) = prc c k := by
        rw [prd, fc0, frd]; simp [hG_sG, f1, f3]
      rw [hp]
      exact UP_of (U2_a hO hz0 g fc0 frd f1 f3) hO rfl rfl
    · have s2 : ST c (hsG (hsY (hsG h 10 o (bl c o)) 8 (hV c 0 o) (zo c o) (hY (hsG h 10 o (bl c o)) 8 (hV c 0 o) (zo c o) - v)) 11 o v) := ST_sG (ST_sY s1 (by decide)) rfl
      refine tail _ _ R2 s2 fun S3 R3 => hQ2 _ S3 R3 (ST_sG (ST_sG (ST_sG s2 rfl) rfl) rfl) ?_
      rw [if_neg g] at frd
      have hld : ld c (hV c 0 o) (zo c o) k = dy c o := by rw [← g4]; exact g7
      have hea := (ldi g).mp hld
      have h8 := g5 (by rw [hld]; obtain ⟨_, _, _, q⟩ := dy_n W ho; rw [q]; exact nb_m1 ⟨_, Nat.le_refl _, rfl⟩ (by omega))
      rw [hld] at h8
      have fc0 : fch c k = 0 := by rw [fcd, if_neg hea]
      have hv2 : v = fre c k := by rw [hv, frd]; simp only [hG_sG, hY_sG, and_self, if_true, h8]; exact min_sym _ _
      have hst : fdv (ea c (hV c 0 o) (zo c o) (dy c o) k) - fre c k = fdv (mx0 (ea c (hV c 0 o) (zo c o) (dy c o) k) + bl c o) := by
        rw [frd]; exact fdv_step ean (nb_mono bnd (by omega))
      subst hv2
      have hp : ∀ hh : hC, hG hh 13 o = 0 → hG hh 10 o = bl c o → hG hh 11 o = fre c k → hG hh 13 o + chf (hG c 16 (tfo c o)) (hG hh 10 o - hG hh 11 o) (rt c o) = prc c k := by
        intro hh q1 q2 q3; rw [prd, fc0, q1, q2, q3]
      rw [hp _ (by simp [hG_sG, hG_sY, f3]) (by simp [hG_sG, hG_sY]) (by simp [hG_sG, hG_sY])]
      exact UP_of (U2_b hO rfl rfl hz0 g fc0 f3 g7 (by rw [h8]; exact hst)) hO rfl rfl
    · have s2 : ST c (hsG (hsY (hsG (hsY (hsY (hsY (hsG h 10 o (bl c o)) 7 (hV c 0 o) (zo c o) (dy c o)) 8 (hV c 0 o) (zo c o) 1800) 6 (hV c 0 o) (zo c o) (hY (hsG h 10 o (bl c o)) 6 (hV c 0 o) (zo c o) + 1)) 13 o (fe c o)) 8 (hV c 0 o) (zo c o) (1800 - v)) 11 o v) := ST_sG (ST_sY (ST_sG (ST_sY (ST_sY (ST_sY s1 (by decide)) (by decide)) (by decide)) rfl) (by decide)) rfl
      refine tail _ _ R2 s2 fun S3 R3 => hQ2 _ S3 R3 (ST_sG (ST_sG (ST_sG s2 rfl) rfl) rfl) ?_
      rw [if_neg g] at frd
      have hld : ¬ ld c (hV c 0 o) (zo c o) k = dy c o := by rw [← g4]; exact g7
      have hea : ea c (hV c 0 o) (zo c o) (dy c o) k = -1 := Classical.byContradiction fun q => hld ((ldi g).mpr q)
      have fc0 : fch c k = fe c o := by rw [fcd, if_pos hea]
      have hv2 : v = fre c k := by rw [hv, frd, hea]; simp only [hG_sG, and_self, if_true]; exact min_sym _ _
      have hst : 1800 - fre c k = fdv (mx0 (ea c (hV c 0 o) (zo c o) (dy c o) k) + bl c o) := by
        rw [← fdv_step ean (nb_mono bnd (by omega)), frd, hea]; rfl
      subst hv2
      have hp : ∀ hh : hC, hG hh 13 o = fe c o → hG hh 10 o = bl c o → hG hh 11 o = fre c k → hG hh 13 o + chf (hG c 16 (tfo c o)) (hG hh 10 o - hG hh 11 o) (rt c o) = prc c k := by
        intro hh q1 q2 q3; rw [prd, fc0, q1, q2, q3]
      rw [hp _ (by simp [hG_sG, hG_sY]) (by simp [hG_sG, hG_sY]) (by simp [hG_sG, hG_sY])]
      exact UP_of (U2_c hO rfl rfl hz0 g fc0 hst) hO rfl rfl
  · have hz0 : zo c o = 0 := by
      have := (nI_eq (a := zo c o) (b := 0) (by omega) (by omega)).mp e
      exact this
    rw [if_pos hz0] at frd fcd
    have ert : rt c o = (@ite _ (pk c o) (Classical.propDecidable _) (hG c 17 (tfo c o)) (hG c 18 (tfo c o))) := by unfold rt; rw [if_pos hz0]
    obtain ⟨g3, g4, g5⟩ := D1 _ ha
    have hv2 : (if hG (hsG h 10 o (bl c o)) 10 o < hG (hsG h 10 o (bl c o)) 3 (aco c o) then hG (hsG h 10 o (bl c o)) 10 o else hG (hsG h 10 o (bl c o)) 3 (aco c o)) = fre c k := by
      rw [frd]; simp [hG_sG, g3]
    refine ru_X0_takeFromBundle R1 ha' ho' hv2.symm fun h2 S2 R2 hh2 => ?_
    have s2 : ST c h2 := by
      rw [hh2]; split
      · exact ST_sG (ST_sG s1 rfl) rfl
      · exact ST_sG s1 rfl
    have e6 : hG h 6 o = nI o := by rw [s.2.2.1 6 rfl]; exact (W.2.2.2.2.1 o ho).2.1
    have u2 := U2_d hO rfl hz0 fcd f3 e6 h2 hh2
    clear hh2 R1 hv2
    have ho2 : o < hN h2 3 := by rw [s2.1]; exact ho
    simp (disch := first | assumption | omega | (simp only [hN_sG, hN_sY, hN_sV] <;> first | assumption | omega)) only [rd R2, Option.some.injEq, exists_eq_left', true_and, and_true, and_self, ne_eq, not_false_eq_true, not_true_eq_false, false_and, and_false, if_true, if_false, ite_true, ite_false, vin_0, vin_1, vin_2, vin_n, ncl, lit_0, lit_1, lit_2, lit_3, lit_4, lit_9, nm2, nm3, nm4, nm9, na1, na2, na3, na4, hG_sG, hG_sY, hG_sV, hG_sN, hY_sG, hY_sY, hY_sV, hY_sN, hV_sG, hV_sY, hV_sN, hV_sV, hN_sG, hN_sY, hN_sV, hN_sN, hF_sX, hF_sXr, hF_sF, hX_sF, hX_sX, hX_sXr, Nat.reduceEqDiff, Nat.reduceAdd, er_0, er_1, er_2, er_3, er_4, Nat.zero_lt_succ, forall_const, true_implies, false_implies, imp_self, implies_true]
    refine up_I R2 (by decide) ho2 fun S3 R3 => ?_
    have s3 : ST c (hsG h2 11 o (fre c k)) := ST_sG s2 rfl
    have tail : ∀ rr, rr = rt c o → bk_X4_rate_80 z Q X S3 (A 3 o) (A 2 (hV c 0 o)) (A 0 (tfo c o)) rr := by
      rintro rr rfl
      refine ru_bk80 R3 s3 W ho rfl fun S4 R4 => hQ2 _ S4 R4 (ST_sG (ST_sG (ST_sG s3 rfl) rfl) rfl) ?_
      have q1 := (u2.2.2 o).1
      have q2 := (u2.2.2 o).2.1
      have q3 := (u2.2.2 o).2.2.2
      rw [hO] at q1 q2 q3
      rw [if_pos rfl] at q1 q2 q3
      rw [q1, q2, q3, ← prd]
      exact UP_of u2 hO rfl rfl
    simp (disch := first | assumption | omega | (simp only [hN_sG, hN_sY, hN_sV] <;> first | assumption | omega)) only [rd R3, st s2, Option.some.injEq, exists_eq_left', true_and, and_true, and_self, ne_eq, not_false_eq_true, not_true_eq_false, false_and, and_false, if_true, if_false, ite_true, ite_false, vin_0, vin_1, vin_2, vin_n, ncl, lit_0, lit_1, lit_2, lit_3, lit_4, lit_9, nm2, nm3, nm4, nm9, na1, na2, na3, na4, hG_sG, hG_sY, hG_sV, hG_sN, hY_sG, hY_sY, hY_sV, hY_sN, hV_sG, hV_sY, hV_sN, hV_sV, hN_sG, hN_sY, hN_sV, hN_sN, hF_sX, hF_sXr, hF_sF, hX_sF, hX_sX, hX_sXr, Nat.reduceEqDiff, Nat.reduceAdd, er_0, er_1, er_2, er_3, er_4, Nat.zero_lt_succ, forall_const, true_implies, false_implies, imp_self, implies_true]
    have ht3 : tfo c o < hN (hsG h2 11 o (fre c k)) 0 := by rw [s3.1]; exact ht
    have ho3 : o < hN (hsG h2 11 o (fre c k)) 3 := by rw [s3.1]; exact ho
    refine ru_beginsInPeak R3 ho3 (fun p => ?_) (fun p => ?_)
    · refine ⟨fun q => absurd q (by decide), fun _ => ?_⟩
      simp (disch := first | assumption | omega | (simp only [hN_sG, hN_sY, hN_sV] <;> first | assumption | omega)) only [rd R3, st s2, Option.some.injEq, exists_eq_left', true_and, and_true, and_self, ne_eq, not_false_eq_true, not_true_eq_false, false_and, and_false, if_true, if_false, ite_true, ite_false, vin_0, vin_1, vin_2, vin_n, ncl, lit_0, lit_1, lit_2, lit_3, lit_4, lit_9, nm2, nm3, nm4, nm9, na1, na2, na3, na4, hG_sG, hG_sY, hG_sV, hG_sN, hY_sG, hY_sY, hY_sV, hY_sN, hV_sG, hV_sY, hV_sN, hV_sV, hN_sG, hN_sY, hN_sV, hN_sN, hF_sX, hF_sXr, hF_sF, hX_sF, hX_sX, hX_sXr, Nat.reduceEqDiff, Nat.reduceAdd, er_0, er_1, er_2, er_3, er_4, Nat.zero_lt_succ, forall_const, true_implies, false_implies, imp_self, implies_true]
      unfold bk_X4_rate_60
      exact tail _ (by rw [ert, if_pos ((ST_pk s3 o).mp p)])
    · refine ⟨fun _ => ?_, fun q => absurd rfl q⟩
      simp (disch := first | assumption | omega | (simp only [hN_sG, hN_sY, hN_sV] <;> first | assumption | omega)) only [rd R3, st s2, Option.some.injEq, exists_eq_left', true_and, and_true, and_self, ne_eq, not_false_eq_true, not_true_eq_false, false_and, and_false, if_true, if_false, ite_true, ite_false, vin_0, vin_1, vin_2, vin_n, ncl, lit_0, lit_1, lit_2, lit_3, lit_4, lit_9, nm2, nm3, nm4, nm9, na1, na2, na3, na4, hG_sG, hG_sY, hG_sV, hG_sN, hY_sG, hY_sY, hY_sV, hY_sN, hV_sG, hV_sY, hV_sN, hV_sV, hN_sG, hN_sY, hN_sV, hN_sN, hF_sX, hF_sXr, hF_sF, hX_sF, hX_sX, hX_sXr, Nat.reduceEqDiff, Nat.reduceAdd, er_0, er_1, er_2, er_3, er_4, Nat.zero_lt_succ, forall_const, true_implies, false_implies, imp_self, implies_true]
      unfold bk_X4_rate_60
      exact tail _ (by rw [ert, if_neg (fun y => p ((ST_pk s3 o).mpr y))])
