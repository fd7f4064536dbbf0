theorem un_s (c : hC) (a k : Nat) : un c a (k + 1) = if (¬ hG c 9 (hV c 9 k) = 0) ∧ zo c (hV c 9 k) = 0 ∧ aco c (hV c 9 k) = a then un c a k - (if bl c (hV c 9 k) < un c a k then bl c (hV c 9 k) else un c a k) else un c a k := rfl
theorem em_s (c : hC) (a k : Nat) : em c a (k + 1) = if (¬ hG c 9 (hV c 9 k) = 0) ∧ zo c (hV c 9 k) = 0 ∧ aco c (hV c 9 k) = a ∧ 0 < fre c k ∧ un c a k - fre c k = 0 then nI (hV c 9 k) else em c a k := rfl
theorem sa_s (c : hC) (a k : Nat) : sa c a (k + 1) = if aco c (hV c 9 k) = a then sa c a k + prc c k else sa c a k := rfl
theorem sl_s (c : hC) (l k : Nat) : sl c l (k + 1) = if hV c 0 (hV c 9 k) = l then sl c l k + prc c k else sl c l k := rfl
theorem fp_s (c : hC) (l zz k : Nat) : fp c l zz (k + 1) = if hV c 0 (hV c 9 k) = l ∧ zo c (hV c 9 k) = zz ∧ ¬ fch c k = 0 then fp c l zz k + 1 else fp c l zz k := rfl
theorem ld_s (c : hC) (l zz k : Nat) : ld c l zz (k + 1) = if (¬ hG c 9 (hV c 9 k) = 0) ∧ hV c 0 (hV c 9 k) = l ∧ zo c (hV c 9 k) = zz ∧ ¬ fe c (hV c 9 k) = 0 then dy c (hV c 9 k) else ld c l zz k := rfl
theorem ea_s (c : hC) (l zz : Nat) (d : Int32) (k : Nat) : ea c l zz d (k + 1) = if (¬ hG c 9 (hV c 9 k) = 0) ∧ hV c 0 (hV c 9 k) = l ∧ zo c (hV c 9 k) = zz ∧ dy c (hV c 9 k) = d then mx0 (ea c l zz d k) + bl c (hV c 9 k) else ea c l zz d k := rfl
theorem ld_fe {c : hC} (l zz : Nat) : ∀ k, ld c l zz k ≠ -1 → ∃ k', k' < k ∧ hV c 0 (hV c 9 k') = l ∧ zo c (hV c 9 k') = zz ∧ ¬ fe c (hV c 9 k') = 0
  | 0, h => absurd rfl h
  | k + 1, h => by
    rw [ld_s] at h
    by_cases c0 : (¬ hG c 9 (hV c 9 k) = 0) ∧ hV c 0 (hV c 9 k) = l ∧ zo c (hV c 9 k) = zz ∧ ¬ fe c (hV c 9 k) = 0
    · exact ⟨k, by omega, c0.2.1, c0.2.2.1, c0.2.2.2⟩
    · rw [if_neg c0] at h
      obtain ⟨k', h1, h2⟩ := ld_fe l zz k h
      exact ⟨k', by omega, h2⟩
/-- what the class's own fields hold behind k places -/
def DK (c h : hC) (k : Nat) : Prop :=
  (∀ a, a < hN c 1 → hG h 3 a = un c a k ∧ hG h 4 a = em c a k ∧ hG h 5 a = sa c a k)
  ∧ (∀ l, l < hN c 2 → hG h 14 l = sl c l k ∧ ∀ q, q = 1 ∨ q = 2 → hY h 6 l q = fp c l q k ∧ hY h 7 l q = ld c l q k ∧ (ld c l q k ≠ -1 → hY h 8 l q = fdv (ea c l q (ld c l q k) k)))
  ∧ (∀ k', k' < k → hG h 10 (hV c 9 k') = bl c (hV c 9 k') ∧ hG h 11 (hV c 9 k') = fre c k' ∧ hG h 12 (hV c 9 k') = prc c k' ∧ hG h 13 (hV c 9 k') = fch c k')
/-- what rating the call at place k changes -/
def UP (c h h' : hC) (k : Nat) : Prop :=
  (∀ x, x < hN c 1 → hG h' 3 x = (if zo c (hV c 9 k) = 0 ∧ aco c (hV c 9 k) = x then hG h 3 x - fre c k else hG h 3 x)
    ∧ hG h' 4 x = (if zo c (hV c 9 k) = 0 ∧ aco c (hV c 9 k) = x ∧ 0 < fre c k ∧ hG h 3 x - fre c k = 0 then nI (hV c 9 k) else hG h 4 x)
    ∧ hG h' 5 x = (if aco c (hV c 9 k) = x then hG h 5 x + prc c k else hG h 5 x))
  ∧ (∀ x, x < hN c 2 → hG h' 14 x = (if hV c 0 (hV c 9 k) = x then hG h 14 x + prc c k else hG h 14 x)
    ∧ ∀ q, q = 1 ∨ q = 2 → hY h' 6 x q = (if hV c 0 (hV c 9 k) = x ∧ zo c (hV c 9 k) = q ∧ ¬ fch c k = 0 then hY h 6 x q + 1 else hY h 6 x q)
      ∧ hY h' 7 x q = (if hV c 0 (hV c 9 k) = x ∧ zo c (hV c 9 k) = q ∧ ¬ fe c (hV c 9 k) = 0 then dy c (hV c 9 k) else hY h 7 x q)
      ∧ hY h' 8 x q = (if hV c 0 (hV c 9 k) = x ∧ zo c (hV c 9 k) = q ∧ ¬ fe c (hV c 9 k) = 0 then fdv (mx0 (ea c x q (dy c (hV c 9 k)) k) + bl c (hV c 9 k)) else hY h 8 x q))
  ∧ (∀ x, hG h' 10 x = (if x = hV c 9 k then bl c (hV c 9 k) else hG h 10 x) ∧ hG h' 11 x = (if x = hV c 9 k then fre c k else hG h 11 x) ∧ hG h' 12 x = (if x = hV c 9 k then prc c k else hG h 12 x) ∧ hG h' 13 x = (if x = hV c 9 k then fch c k else hG h 13 x))
theorem DK_up {c h h' : hC} {k : Nat} (W : WF c) (hk : k < hN c 3) (h0 : ¬ hG c 9 (hV c 9 k) = 0) (D : DK c h k) (U : UP c h h' k) : DK c h' (k + 1) := by
  obtain ⟨D1, D2, D3⟩ := D
  obtain ⟨U1, U2, U3⟩ := U
  refine ⟨fun a ha => ?_, fun l hl => ?_, fun k' hk' => ?_⟩
  · obtain ⟨d1, d2, d3⟩ := D1 a ha
    obtain ⟨u1, u2, u3⟩ := U1 a ha
    have efre : zo c (hV c 9 k) = 0 ∧ aco c (hV c 9 k) = a → fre c k = (if bl c (hV c 9 k) < un c a k then bl c (hV c 9 k) else un c a k) := by
      rintro ⟨e1, e2⟩
      unfold fre
      rw [if_neg h0, if_pos e1, e2]
    refine ⟨?_, ?_, ?_⟩
    · rw [u1, d1]
      rw [un_s]
      by_cases e : zo c (hV c 9 k) = 0 ∧ aco c (hV c 9 k) = a
      · rw [if_pos e, if_pos ⟨h0, e⟩, efre e]
      · rw [if_neg e, if_neg (fun q => e q.2)]
    · rw [u2, d1, d2]
      rw [em_s]
      by_cases e : zo c (hV c 9 k) = 0 ∧ aco c (hV c 9 k) = a ∧ 0 < fre c k ∧ un c a k - fre c k = 0
      · rw [if_pos e, if_pos ⟨h0, e⟩]
      · rw [if_neg e, if_neg (fun q => e q.2)]
    · rw [u3, d3]
      rfl
  · obtain ⟨d1, d2⟩ := D2 l hl
    obtain ⟨u1, u2⟩ := U2 l hl
    refine ⟨by rw [u1, d1]; rfl, fun q hq => ?_⟩
    obtain ⟨e1, e2, e3⟩ := d2 q hq
    obtain ⟨v1, v2, v3⟩ := u2 q hq
    refine ⟨by rw [v1, e1]; rfl, ?_, ?_⟩
    · rw [v2, e2]
      rw [ld_s]
      by_cases e : hV c 0 (hV c 9 k) = l ∧ zo c (hV c 9 k) = q ∧ ¬ fe c (hV c 9 k) = 0
      · rw [if_pos e, if_pos ⟨h0, e⟩]
      · rw [if_neg e, if_neg (fun r => e r.2)]
    · rw [v3]
      rw [ld_s]
      by_cases e : hV c 0 (hV c 9 k) = l ∧ zo c (hV c 9 k) = q ∧ ¬ fe c (hV c 9 k) = 0
      · rw [if_pos e, if_pos ⟨h0, e⟩]
        intro _
        rw [ea_s]
        rw [if_pos ⟨h0, e.1, e.2.1, rfl⟩]
      · rw [if_neg e, if_neg (fun r => e r.2)]
        intro g
        rw [e3 g]
        rw [ea_s]
        rw [if_neg]
        rintro ⟨r1, r2, r3, r4⟩
        obtain ⟨k', p1, p2, p3, p4⟩ := ld_fe l q k g
        refine e ⟨r2, r3, fun p5 => p4 ?_⟩
        rw [fe_eq (c := c) (i := hV c 9 k') (i' := hV c 9 k) (by rw [p2, r2]) (by rw [p3, r3])]
        exact p5
  · obtain ⟨u1, u2, u3, u4⟩ := U3 (hV c 9 k')
    rw [u1, u2, u3, u4]
    by_cases e : k' = k
    · subst e
      simp only [if_true]
      exact ⟨trivial, trivial, trivial, trivial⟩
    · have hne : ¬ hV c 9 k' = hV c 9 k := fun g => e (W.2.2.2.2.2.2.1 k' k (by omega) hk g)
      simp only [if_neg hne]
      exact D3 k' (by omega)
theorem DK_no {c h h' : hC} {k : Nat} (W : WF c) (hk : k < hN c 3) (h0 : hG c 9 (hV c 9 k) = 0) (D : DK c h k) (e : h' = hsG (hsG (hsG (hsG h 10 (hV c 9 k) 0) 11 (hV c 9 k) 0) 12 (hV c 9 k) 0) 13 (hV c 9 k) 0) : DK c h' (k + 1) := by
  obtain ⟨D1, D2, D3⟩ := D
  have ep : prc c k = 0 := by unfold prc; rw [if_pos h0]
  have ef : fch c k = 0 := by unfold fch; rw [if_pos h0]
  subst e
  refine ⟨fun a ha => ?_, fun l hl => ?_, fun k' hk' => ?_⟩
  · obtain ⟨d1, d2, d3⟩ := D1 a ha
    refine ⟨?_, ?_, ?_⟩
    · rw [un_s]; rw [if_neg (fun q => q.1 h0)]; exact d1
    · rw [em_s]; rw [if_neg (fun q => q.1 h0)]; exact d2
    · rw [sa_s]; rw [ep, Int32.add_zero, ite_self]; exact d3
  · obtain ⟨d1, d2⟩ := D2 l hl
    refine ⟨?_, fun q hq => ?_⟩
    · rw [sl_s]; rw [ep, Int32.add_zero, ite_self]; exact d1
    · obtain ⟨e1, e2, e3⟩ := d2 q hq
      refine ⟨?_, ?_, ?_⟩
      · rw [fp_s]; rw [if_neg (fun q => q.2.2 ef)]; exact e1
      · rw [ld_s]; rw [if_neg (fun q => q.1 h0)]; exact e2
      · rw [ld_s]; rw [if_neg (fun q => q.1 h0)]
        intro g
        rw [ea_s]; rw [if_neg (fun q => q.1 h0)]; exact e3 g
  · by_cases e : k' = k
    · subst e
      have eb : bl c (hV c 9 k') = 0 := by unfold bl; rw [if_pos h0]
      have er : fre c k' = 0 := by unfold fre; rw [if_pos h0]
      rw [eb, er, ep, ef]
      simp [hG_sG]
    · have hne : ¬ hV c 9 k' = hV c 9 k := fun g => e (W.2.2.2.2.2.2.1 k' k (by omega) hk g)
      have := D3 k' (by omega)
      simp [hG_sG, hne]
      exact this
