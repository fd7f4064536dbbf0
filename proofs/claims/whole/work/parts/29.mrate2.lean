def MK (c : hC) (m : hM) (k : Nat) : Prop :=
  (∀ a, a < hN c 1 → hX m 10 a = un c a k ∧ hX m 11 a = em c a k)
  ∧ (∀ k', k' < k → hX m 6 (hV c 9 k') = bl c (hV c 9 k') ∧ hX m 7 (hV c 9 k') = fre c k' ∧ hX m 8 (hV c 9 k') = prc c k' ∧ hX m 9 (hV c 9 k') = fch c k')
def MU (c : hC) (m m' : hM) (k : Nat) : Prop :=
  (∀ x, hX m' 10 x = (if zo c (hV c 9 k) = 0 ∧ aco c (hV c 9 k) = x then hX m 10 x - fre c k else hX m 10 x)
    ∧ hX m' 11 x = (if zo c (hV c 9 k) = 0 ∧ aco c (hV c 9 k) = x ∧ 0 < fre c k ∧ hX m 10 x - fre c k = 0 then nI (hV c 9 k) else hX m 11 x))
  ∧ (∀ x, hX m' 6 x = (if x = hV c 9 k then bl c (hV c 9 k) else hX m 6 x) ∧ hX m' 7 x = (if x = hV c 9 k then fre c k else hX m 7 x) ∧ hX m' 8 x = (if x = hV c 9 k then prc c k else hX m 8 x) ∧ hX m' 9 x = (if x = hV c 9 k then fch c k else hX m 9 x))
theorem MK_up {c : hC} {m m' : hM} {k : Nat} (W : WF c) (hk : k < hN c 3) (h0 : ¬ hG c 9 (hV c 9 k) = 0) (D : MK c m k) (U : MU c m m' k) : MK c m' (k + 1) := by
  obtain ⟨D1, D3⟩ := D
  obtain ⟨U1, U3⟩ := U
  refine ⟨fun a ha => ?_, fun k' hk' => ?_⟩
  · obtain ⟨d1, d2⟩ := D1 a ha
    obtain ⟨u1, u2⟩ := U1 a
    have efre : zo c (hV c 9 k) = 0 ∧ aco c (hV c 9 k) = a → fre c k = (if bl c (hV c 9 k) < un c a k then bl c (hV c 9 k) else un c a k) := by
      rintro ⟨e1, e2⟩
      unfold fre
      rw [if_neg h0, if_pos e1, e2]
    refine ⟨?_, ?_⟩
    · rw [u1, d1]
      rw [un_s]
      by_cases e : zo c (hV c 9 k) = 0 ∧ aco c (hV c 9 k) = a
      · rw [if_pos e, if_pos ⟨h0, e⟩, efre e]
      · rw [if_neg e, if_neg (fun q => e q.2)]
    · rw [u2, d1, d2]
      rw [em_s]
      by_cases e : zo c (hV c 9 k) = 0 ∧ aco c (hV c 9 k) = a ∧ 0 < fre c k ∧ un c a k - fre c k = 0
      · rw [if_pos e, if_pos ⟨h0, e⟩]
      · rw [if_neg e, if_neg (fun q => e q.2)]
  · obtain ⟨u1, u2, u3, u4⟩ := U3 (hV c 9 k')
    rw [u1, u2, u3, u4]
    by_cases e : k' = k
    · subst e
      simp only [if_true]
      exact ⟨trivial, trivial, trivial, trivial⟩
    · have hne : ¬ hV c 9 k' = hV c 9 k := fun g => e (W.2.2.2.2.2.2.1 k' k (by omega) hk g)
      simp only [if_neg hne]
      exact D3 k' (by omega)
theorem MK_no {c : hC} {m : hM} {k : Nat} (W : WF c) (hk : k < hN c 3) (h0 : hG c 9 (hV c 9 k) = 0) (D : MK c m k) : MK c (hsX (hsX (hsX (hsX m 6 (hV c 9 k) 0) 7 (hV c 9 k) 0) 8 (hV c 9 k) 0) 9 (hV c 9 k) 0) (k + 1) := by
  obtain ⟨D1, D3⟩ := D
  refine ⟨fun a ha => ?_, fun k' hk' => ?_⟩
  · obtain ⟨d1, d2⟩ := D1 a ha
    simp only [hX_sX, Nat.reduceEqDiff, false_and, if_false]
    rw [un_s, em_s, if_neg (fun q => q.1 h0), if_neg (fun q => q.1 h0)]
    exact ⟨d1, d2⟩
  · by_cases e : k' = k
    · subst e
      have eb : bl c (hV c 9 k') = 0 := by unfold bl; rw [if_pos h0]
      have er : fre c k' = 0 := by unfold fre; rw [if_pos h0]
      have ep : prc c k' = 0 := by unfold prc; rw [if_pos h0]
      have ef : fch c k' = 0 := by unfold fch; rw [if_pos h0]
      rw [eb, er, ep, ef]
      simp [hX_sX]
    · have hne : ¬ hV c 9 k' = hV c 9 k := fun g => e (W.2.2.2.2.2.2.1 k' k (by omega) hk g)
      have := D3 k' (by omega)
      simp [hX_sX, hne]
      exact this
theorem x59 (x : Int32) : (x + 60) - 1 = x + 59 := by
  rw [Int32.sub_eq_add_neg, Int32.add_assoc]; rfl
theorem chf_eq {k r : Int32} {b f : Nat} (hb : b ≤ 7800) (hf : f ≤ b) : (if nI b - nI f = 0 then 0 else k + (((nI b - nI f) * r + 59) / 60)) = chf k (nI b - nI f) r := by
  unfold chf
  rw [pk_sub hf, x59]
  by_cases e : b - f = 0
  · rw [e]; rfl
  · rw [if_neg (nI_ne0 (by omega) (by omega)), if_pos (show (0 : Int32) < nI (b - f) from nI_lt (a := 0) (by omega) (by omega))]
theorem ru_m344 {z A w h m u S} (R : RP z A w h m u S) {c : hC} (C : CM c m) (W : WF c) {k : Nat} (hk : k < hN c 3) {o t : Nat} (ho : hV c 9 k = o) (ht : tfo c o = t) {r : Int32} {Q : mmS → Prop} {X : String → mmS → Prop} (hr : r = rt c o) (h0 : ¬ hG c 9 o = 0) (e6 : hX m 6 o = bl c o) (e7 : hX m 7 o = fre c k) (e9 : hX m 9 o = fch c k)
    (hQ : ∀ S', RP z A w h (hsX m 8 o (prc c k)) u S' → Q S') : bk_X5_rate_344 z Q X S (A 12 0) (nI o) (nI (9 * t)) r := by
  have W1 := W.1
  unfold Wn at W1
  have ho3 := W.2.2.2.2.2.1 k hk
  obtain ⟨b, f, hb, hf, eb, ef⟩ := fre_nb W hk
  rw [ho] at ho3 eb
  have ht3 : t < hN c 0 := by rw [← ht]; exact (W.2.2.2.1 _ (W.2.2.2.2.1 _ ho3).2.2.1).2.2
  have ep : prc c k = fch c k + (if nI b - nI f = 0 then 0 else hG c 16 t + (((nI b - nI f) * r + 59) / 60)) := by
    rw [chf_eq hb hf]
    unfold prc
    rw [ho, if_neg h0, eb, ef, ht, hr]
  rw [eb] at e6
  rw [ef] at e7
  unfold bk_X5_rate_344
  simp (disch := first | assumption | omega | (simp only [hN_sG, hN_sY, hN_sV] <;> first | assumption | omega)) only [rd R, Option.some.injEq, exists_eq_left', true_and, and_true, and_self, ne_eq, not_false_eq_true, not_true_eq_false, false_and, and_false, if_true, if_false, ite_true, ite_false, vin_0, vin_1, vin_2, vin_n, ncl, lit_0, lit_1, lit_2, lit_3, lit_4, lit_9, nm2, nm3, nm4, nm9, na1, na2, na3, na4, hG_sG, hG_sY, hG_sV, hG_sN, hY_sG, hY_sY, hY_sV, hY_sN, hV_sG, hV_sY, hV_sN, hV_sV, hN_sG, hN_sY, hN_sV, hN_sN, hF_sX, hF_sXr, hF_sF, hX_sF, hX_sX, hX_sXr, Nat.reduceEqDiff, Nat.reduceAdd, er_0, er_1, er_2, er_3, er_4, Nat.zero_lt_succ, forall_const, true_implies, false_implies, imp_self, implies_true, cm C, e6, e7, e9]
  rintro v rfl
  refine ⟨fun e => ?_, fun e => ?_⟩
  · rw [if_neg e] at ep
    rw [← ep]
    exact up_X R (by decide) fun S1 R1 => hQ S1 R1
  · rw [if_pos e] at ep
    rw [← ep]
    exact up_X R (by decide) fun S1 R1 => hQ S1 R1
