/-! a new call: what is rated before it keeps its price; the order has no ties turned -/
def OT (c : hC) : Prop := ∀ k k', k < k' → k' < hN c 3 → hG c 7 (hV c 9 k) = hG c 7 (hV c 9 k') → hV c 9 k < hV c 9 k'
theorem OT_st {d h : hC} (s : ST d h) (O : OT d) : OT h := by
  unfold OT at *
  rw [s.1, s.2.1, s.2.2.1 7 rfl]
  exact O
theorem ca_srt {c : hC} (W : WF c) {mi : Int32} {k : Nat} (h1 : ipl c mi 0 (hN c 3) ≤ k) (h2 : k < hN c 3) : mi < hG c 7 (hV c 9 k) := by
  obtain ⟨w1, w2, w3, w4, w5⟩ := W.2.2.2.2.2
  obtain ⟨i1, i2, i3⟩ := ipl_spec c mi (hN c 3) 0
  generalize ipl c mi 0 (hN c 3) = P at *
  have h3 := i3 (by omega)
  rw [Nat.zero_add] at h3
  by_cases e : k = P
  · subst e; exact h3
  · exact Int32.lt_of_lt_of_le h3 (w3 P k (by omega) h2)
theorem OT_call {c d : hC} (W : WF c) (O : OT c) {l : Nat} {mi se zz : Int32} (A : CA c d l mi se zz) : OT d := by
  obtain ⟨n0, n1, n2, n3, ⟨n5, n6, n7, n8, n9⟩, aG, aY, aV, aL, aI, ⟨b1, b2, b3, b4, b5, b6⟩, aO⟩ := A
  have srt : ∀ k, ipl c mi 0 (hN c 3) ≤ k → k < hN c 3 → mi < hG c 7 (hV c 9 k) := fun k h1 h2 => ca_srt W h1 h2
  obtain ⟨w1, w2, w3, w4, w5⟩ := W.2.2.2.2.2
  obtain ⟨i1, i2, i3⟩ := ipl_spec c mi (hN c 3) 0
  generalize hP : ipl c mi 0 (hN c 3) = P at *
  have vlt : ∀ k, k < P → hV d 9 k = hV c 9 k := fun k h => by rw [aO, if_pos h]
  have veq : hV d 9 P = hN c 3 := by rw [aO, if_neg (by omega), if_pos rfl]
  have vgt : ∀ k, P < k → hV d 9 k = hV c 9 (k - 1) := fun k h => by rw [aO, if_neg (by omega), if_neg (by omega)]
  have g7 : ∀ k, k < hN c 3 → hG d 7 (hV c 9 k) = hG c 7 (hV c 9 k) := fun k hk => aG 7 _ (fun q => by have := w1 k hk; omega)
  intro k k' hkk hk' e
  by_cases h1 : k' < P
  · rw [vlt k (by omega), vlt k' h1] at e ⊢
    rw [g7 k (by omega), g7 k' (by omega)] at e
    exact O k k' hkk (by omega) e
  · by_cases h2 : k' = P
    · subst h2
      rw [vlt k hkk, veq]; exact w1 k (by omega)
    · rw [vgt k' (by omega)] at e ⊢
      rw [g7 (k' - 1) (by omega)] at e
      by_cases h3 : k < P
      · rw [vlt k h3] at e ⊢
        rw [g7 k (by omega)] at e
        exact O k (k' - 1) (by omega) (by omega) e
      · by_cases h4 : k = P
        · rw [h4, veq, b4] at e
          have := srt (k' - 1) (by omega) (by omega)
          rw [e] at this
          exact absurd this Int32.lt_irrefl
        · rw [vgt k (by omega)] at e ⊢
          rw [g7 (k - 1) (by omega)] at e
          exact O (k - 1) (k' - 1) (by omega) (by omega) e
theorem CE_call {c d : hC} (W : WF c) {l : Nat} {mi se zz : Int32} (A : CA c d l mi se zz) : CE c d (ipl c mi 0 (hN c 3)) := by
  obtain ⟨n0, n1, n2, n3, ⟨n5, n6, n7, n8, n9⟩, aG, aY, aV, aL, aI, ⟨b1, b2, b3, b4, b5, b6⟩, aO⟩ := A
  have i1 := (ipl_spec c mi (hN c 3) 0).1
  have w1 := W.2.2.2.2.2.1
  refine ⟨aG 21 0 (fun q => absurd q.1 (by decide)), aG 22 0 (fun q => absurd q.1 (by decide)), fun k hk => ?_⟩
  have ho := w1 k (by omega)
  have v9 : hV d 9 k = hV c 9 k := by rw [aO, if_pos hk]
  have v0 := (aI _ ho).1
  have gg : ∀ f, hG d f (hV c 9 k) = hG c f (hV c 9 k) := fun f => aG f _ (fun q => by omega)
  refine ⟨v9, gg 9, gg 7, gg 8, v0, ?_, ?_, aG 2 _ (fun q => absurd q.1 (by decide)), aG 16 _ (fun q => absurd q.1 (by decide)), aG 17 _ (fun q => absurd q.1 (by decide)), aG 18 _ (fun q => absurd q.1 (by decide)), aG 19 _ (fun q => absurd q.1 (by decide)), aG 20 _ (fun q => absurd q.1 (by decide)), fun q => ⟨aY 4 _ _ (by omega) (by omega), aY 5 _ _ (by omega) (by omega)⟩⟩
  · unfold aco; rw [v0, aV 1 _ (.inl rfl)]
  · unfold tfo; rw [v0, aV 2 _ (.inr rfl)]
/-- a call that begins no later than the new one has the price that it had -/
theorem keep_pr {c d h : hC} (W : WF c) (D : DR c c (hN c 3)) {l : Nat} {mi se zz : Int32} (A : CA c d l mi se zz) (D' : DK d h (hN d 3)) {i : Nat} (hi : i < hN c 3) (hm : hG c 7 i ≤ mi) : hG h 12 i = hG c 12 i := by
  obtain ⟨p1, p2⟩ := pl_spec W hi
  have kP : pl c i < ipl c mi 0 (hN c 3) := by
    refine Nat.lt_of_not_le fun g => ?_
    have := ca_srt W g p1
    rw [p2] at this
    exact absurd hm (Int32.not_le.mpr this)
  have E := CE_call W A
  have n3 : hN d 3 = hN c 3 + 1 := A.2.2.2.1
  have e1 := (D'.2.2 (pl c i) (by omega)).2.2.1
  rw [(CE_1 E kP).1, p2, CE_prc E kP] at e1
  rw [e1, (DKn W D hi).2.2.1]
theorem ca_min {c d h : hC} {l : Nat} {mi se zz : Int32} (A : CA c d l mi se zz) (s : ST d h) : (∀ i, i < hN c 3 → hG h 7 i = hG c 7 i) ∧ hG h 7 (hN c 3) = mi ∧ hN h 3 = hN c 3 + 1 ∧ (∀ k, k < 3 → hN h k = hN c k) ∧ ∀ a, hG h 0 a = hG c 0 a ∧ hG h 1 a = hG c 1 a := by
  obtain ⟨n0, n1, n2, n3, ⟨n5, n6, n7, n8, n9⟩, aG, aY, aV, aL, aI, ⟨b1, b2, b3, b4, b5, b6⟩, aO⟩ := A
  have e7 : hG h 7 = hG d 7 := s.2.2.1 7 rfl
  have e0 : hG h 0 = hG d 0 := s.2.2.1 0 rfl
  have e1 : hG h 1 = hG d 1 := s.2.2.1 1 rfl
  refine ⟨fun i hi => ?_, ?_, ?_, fun k hk => ?_, fun a => ⟨?_, ?_⟩⟩
  · rw [e7]; exact aG 7 i (fun q => by omega)
  · rw [e7]; exact b4
  · rw [s.1]; exact n3
  · rw [s.1]
    have : k = 0 ∨ k = 1 ∨ k = 2 := by omega
    rcases this with e | e | e <;> subst e
    · exact n0
    · exact n1
    · exact n2
  · rw [e0]; exact aG 0 a (fun q => absurd q.1 (by decide))
  · rw [e1]; exact aG 1 a (fun q => absurd q.1 (by decide))
