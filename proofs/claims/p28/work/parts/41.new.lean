/-! a new object with its rows -/
def grp (r : Nat) : Nat := if r = 0 ∨ r = 4 ∨ r = 5 then 0 else if r = 1 then 1 else if r = 2 ∨ r = 6 ∨ r = 7 ∨ r = 8 then 2 else if r = 3 then 3 else 99
def nwA (A : Nat → Nat → Nat) (k n : Nat) (B : Nat → Nat) : Nat → Nat → Nat := fun r i => if grp r = k ∧ i = n then B r else A r i
def nwH (h : hC) (k : Nat) (g : Nat → Int32) (y : Nat → Nat → Int32) (T : Nat → Nat) : hC :=
  (va_up (hN h) k (hN h k + 1), fun f i => if grp (fr f) = k ∧ i = hN h k then g f else hG h f i, fun r i j => if grp r = k ∧ i = hN h k then y r j else hY h r i j, fun f i => if f < 3 ∧ grp (rr f) = k ∧ i = hN h k then T f else hV h f i)
theorem nwH_N (h : hC) (k : Nat) (g y T) (k' : Nat) : hN (nwH h k g y T) k' = if k' = k then hN h k + 1 else hN h k' := Eq.trans rfl rfl
theorem nwH_G (h : hC) (k : Nat) (g y T) (f i : Nat) : hG (nwH h k g y T) f i = if grp (fr f) = k ∧ i = hN h k then g f else hG h f i := Eq.trans rfl rfl
theorem nwH_Y (h : hC) (k : Nat) (g y T) (r i j : Nat) : hY (nwH h k g y T) r i j = if grp r = k ∧ i = hN h k then y r j else hY h r i j := Eq.trans rfl rfl
theorem nwH_V (h : hC) (k : Nat) (g y T) (f i : Nat) : hV (nwH h k g y T) f i = if f < 3 ∧ grp (rr f) = k ∧ i = hN h k then T f else hV h f i := Eq.trans rfl rfl
theorem lv_grp (N : Nat → Nat) (r : Nat) (hg : grp r < 4) : lvN N r = N (grp r) := by
  unfold grp at *
  unfold lvN
  by_cases h1 : r = 0 ∨ r = 4 ∨ r = 5
  · rw [if_pos h1, if_pos h1]
  rw [if_neg h1] at *
  rw [if_neg h1]
  by_cases h2 : r = 1
  · rw [if_pos h2, if_pos h2]
  rw [if_neg h2] at *
  rw [if_neg h2]
  by_cases h3 : r = 2 ∨ r = 6 ∨ r = 7 ∨ r = 8
  · rw [if_pos h3, if_pos h3]
  rw [if_neg h3] at *
  rw [if_neg h3]
  by_cases h4 : r = 3
  · rw [if_pos h4, if_pos h4]
  rw [if_neg h4] at hg
  omega
theorem lv_ngrp (N N' : Nat → Nat) (r : Nat) (hg : ¬ grp r < 4) : lvN N r = lvN N' r := by
  unfold grp at hg
  unfold lvN
  by_cases h1 : r = 0 ∨ r = 4 ∨ r = 5
  · rw [if_pos h1] at hg; omega
  rw [if_neg h1] at hg
  rw [if_neg h1, if_neg h1]
  by_cases h2 : r = 1
  · rw [if_pos h2] at hg; omega
  rw [if_neg h2] at hg
  rw [if_neg h2, if_neg h2]
  by_cases h3 : r = 2 ∨ r = 6 ∨ r = 7 ∨ r = 8
  · rw [if_pos h3] at hg; omega
  rw [if_neg h3] at hg
  rw [if_neg h3, if_neg h3]
  by_cases h4 : r = 3
  · rw [if_pos h4] at hg; omega
  rw [if_neg h4, if_neg h4]
theorem lv_nw (h : hC) {k : Nat} (hk : k < 4) (g y T) (r : Nat) : lv (nwH h k g y T) r = if grp r = k then hN h k + 1 else lv h r := by
  unfold lv
  by_cases hg : grp r < 4
  · rw [lv_grp _ _ hg, lv_grp _ _ hg, nwH_N]
    try (by_cases e : grp r = k
         · rw [if_pos e, if_pos e]
         · rw [if_neg e, if_neg e])
  · rw [if_neg (by omega)]
    exact lv_ngrp _ _ r hg
theorem nw_old {h : hC} {k : Nat} (hk : k < 4) {r i : Nat} (hi : i < lv h r) : ¬ (grp r = k ∧ i = hN h k) := by
  rintro ⟨e1, e2⟩
  unfold lv at hi
  rw [lv_grp _ _ (by omega), e1] at hi
  omega
def agr (S S' : mmS) : Prop := (∀ a, a ∈ mL S → a ∈ mL S') ∧ ∀ a, a ∈ mL S → mK S' a = mK S a ∧ (∀ f, mI S' f a = mI S f a) ∧ (∀ f, mR S' f a = mR S f a) ∧ mN S' a = mN S a ∧ (∀ i, mA S' a i = mA S a i) ∧ (∀ i, mQ S' a i = mQ S a i) ∧ (∀ i, mJ S' a i = mJ S a i)
theorem RP_new {z A w h m u S S'} (R : RP z A w h m u S) (ag : agr S S') {k : Nat} (hk : k < 4) {B : Nat → Nat} {lab : Nat → Nat × Nat} {g : Nat → Int32} {y : Nat → Nat → Int32} {T : Nat → Nat}
    (hB : ∀ r, r ≤ 8 → grp r = k → B r ∉ mL S ∧ B r ∈ mL S' ∧ mK S' (B r) = kd r ∧ lab (B r) = (r, hN h k))
    (hg : ∀ f, f ≤ 22 → grp (fr f) = k → mI S' f (B (fr f)) = g f)
    (hy : ∀ r, 4 ≤ r → r ≤ 8 → grp r = k → mN S' (B r) = 3 ∧ ∀ j, mA S' (B r) j = y r j)
    (hr1 : ∀ f, f < 3 → grp (rr f) = k → T f < lv h (tr f) ∧ mR S' f (B (rr f)) = some (A (tr f) (T f)))
    (hr2 : ∀ f, 3 ≤ f → f < 8 → grp (rr f) = k → grp (tr f) = k ∧ mR S' f (B (rr f)) = some (B (tr f)))
    (hT : ∀ f i, f < 3 → i < lv h (rr f) → hV h f i < lv h (tr f))
    (hE : ∀ j e, j < 5 → e < hN h (5 + j) → hV h (5 + j) e < lv h (er j)) :
    RP z (nwA A k (hN h k) B) (fun a => if a ∈ mL S then w a else lab a) (nwH h k g y T) m u S' := by
  have R' := RP_agree R ag.1 ag.2
  have fr13 : ∀ f, fr f ≤ 13 := by intro f; unfold fr; repeat (first | omega | split)
  have rr13 : ∀ f, rr f ≤ 13 := by intro f; unfold rr; repeat (first | omega | split)
  have g8 : ∀ r, grp r = k → r ≤ 8 := by
    intro r e
    unfold grp at e
    by_cases h1 : r ≤ 8
    · exact h1
    · rw [if_neg (by omega), if_neg (by omega), if_neg (by omega), if_neg (by omega)] at e; omega
  have old : ∀ r i, i < lv h r → nwA A k (hN h k) B r i = A r i := by
    intro r i hi; unfold nwA; rw [if_neg (nw_old hk hi)]
  have new : ∀ r, grp r = k → nwA A k (hN h k) B r (hN h k) = B r := by
    intro r e; unfold nwA; rw [if_pos ⟨e, rfl⟩]
  have spl : ∀ r i, i < lv (nwH h k g y T) r → i < lv h r ∨ (grp r = k ∧ i = hN h k) := by
    intro r i hi
    rw [lv_nw h hk] at hi
    by_cases e : grp r = k
    · rw [if_pos e] at hi
      by_cases e2 : i = hN h k
      · exact .inr ⟨e, e2⟩
      · left
        unfold lv; rw [lv_grp _ _ (by omega), e]; omega
    · rw [if_neg e] at hi; exact .inl hi
  have f8 : ∀ r, ¬ r ≤ 8 → lv (nwH h k g y T) r = lv h r := by
    intro r hr; rw [lv_nw h hk, if_neg (fun e => hr (g8 r e))]
  obtain ⟨R1, R2, R3, R4, R5, R6, R7, R8⟩ := R'
  refine ⟨?_, ?_, ?_, ?_, ?_, ?_, ?_, ?_⟩
  · intro r i hr hi
    rcases spl r i hi with hi | ⟨e1, e2⟩
    · rw [old r i hi]
      obtain ⟨a1, a2, a3⟩ := R1 r i hr hi
      refine ⟨a1, a2, ?_⟩
      exact (if_pos (R.1 r i hr hi).1).trans a3
    · subst e2
      rw [new r e1]
      obtain ⟨b1, b2, b3, b4⟩ := hB r (g8 r e1) e1
      refine ⟨b2, b3, ?_⟩
      exact (if_neg b1).trans b4
  · intro f i hf hi
    rcases spl _ i hi with hi | ⟨e1, e2⟩
    · rw [old _ i hi, nwH_G, if_neg (nw_old hk hi)]
      exact R2 f i hf hi
    · subst e2
      rw [new _ e1, nwH_G, if_pos ⟨e1, rfl⟩]
      exact hg f hf e1
  · trivial
  · intro r i h1 h2 hi
    rcases spl r i hi with hi | ⟨e1, e2⟩
    · rw [old r i hi]
      refine ⟨(R4 r i h1 h2 hi).1, fun j => ?_⟩
      rw [nwH_Y, if_neg (nw_old hk hi)]
      exact (R4 r i h1 h2 hi).2 j
    · subst e2
      rw [new r e1]
      refine ⟨(hy r h1 h2 e1).1, fun j => ?_⟩
      rw [nwH_Y, if_pos ⟨e1, rfl⟩]
      exact (hy r h1 h2 e1).2 j
  · intro f hf
    have e0 : nwA A k (hN h k) B 11 f = A 11 f := by
      unfold nwA
      have g99 : grp 11 = 99 := rfl
      rw [if_neg (fun q => by have := q.1; omega)]
    rw [e0]
    obtain ⟨⟨a1, a2, a3⟩, a4⟩ := R5 f hf
    exact ⟨⟨a1, a2, (if_pos (R.2.2.2.2.1 f hf).1.1).trans a3⟩, a4⟩
  · trivial
  · intro f i hf hi
    rcases spl _ i hi with hi | ⟨e1, e2⟩
    · rw [old _ i hi]
      have e : nwA A k (hN h k) B (tr f) (ti (nwH h k g y T) f i) = A (tr f) (ti h f i) := by
        unfold ti
        by_cases f3 : f < 3
        · rw [if_pos f3, if_pos f3, nwH_V, if_neg (fun q => nw_old hk hi q.2)]
          exact old _ _ (hT f i f3 hi)
        · rw [if_neg f3, if_neg f3]
          have hl : ∀ x, x < lv h (tr f) → nwA A k (hN h k) B (tr f) x = A (tr f) x := fun x hx => old _ _ hx
          by_cases f8 : f < 8
          · rw [if_pos f8]
            refine old _ _ ?_
            have : lv h (tr f) = lv h (rr f) := by
              have : f = 3 ∨ f = 4 ∨ f = 5 ∨ f = 6 ∨ f = 7 := by omega
              rcases this with e | e | e | e | e <;> subst e <;> rfl
            rw [this]; exact hi
          · rw [if_neg f8]
            by_cases f13 : f < 13
            · rw [if_pos f13]
              refine old _ _ ?_
              have : tr f = 9 := by unfold tr; rw [if_neg (by omega), if_neg (by omega), if_neg (by omega), if_neg (by omega), if_neg (by omega), if_pos f13]
              rw [this]; show f - 8 < 5; omega
            · omega
      rw [e]
      exact R7 f i hf hi
    · subst e2
      rw [new _ e1]
      by_cases f3 : f < 3
      · obtain ⟨c1, c2⟩ := hr1 f f3 e1
        rw [c2]
        unfold ti
        rw [if_pos f3, nwH_V, if_pos ⟨f3, e1, rfl⟩, old _ _ c1]
      · have f8 : f < 8 := by
          have := g8 _ e1
          unfold rr at this
          by_cases q : f < 8
          · exact q
          · rw [if_neg (by omega), if_neg (by omega), if_neg (by omega)] at this
            split at this <;> omega
        obtain ⟨c1, c2⟩ := hr2 f (by omega) f8 e1
        rw [c2]
        unfold ti
        rw [if_neg f3, if_pos f8, new _ c1]
  · intro j hj
    obtain ⟨h1, b, h2, h3⟩ := R8 j hj
    rw [old 9 j hj]
    have en : hN (nwH h k g y T) (5 + j) = hN h (5 + j) := by rw [nwH_N, if_neg (by omega)]
    obtain ⟨_, b0, h20, h30⟩ := R.2.2.2.2.2.2.2 j hj
    have eb : b0 = b := by
      have := (ag.2 _ (R.1 9 j (by decide) hj).1).2.2.1 25
      rw [h2, h20] at this
      exact (Option.some.inj this).symm
    subst eb
    refine ⟨by rw [en]; exact h1, b0, h2, ?_⟩
    rcases h3 with h3 | ⟨g3, g4, g5, g6, g7, g8, g9⟩
    · exact .inl ⟨h3.1, by rw [en]; exact h3.2⟩
    · refine .inr ⟨g3, g4, g5, ?_, by rw [en]; exact g7, g8, fun e he => ?_⟩
      · rcases h30 with h30 | h30
        · exact absurd h30.1 g3
        · exact (if_pos h30.2.1).trans g6
      · rw [en] at he
        rw [nwH_V, if_neg (by omega), old _ _ (hE j e hj he)]
        exact g9 e he
theorem hT_of {h : hC} (W : WF h) : ∀ f i, f < 3 → i < lv h (rr f) → hV h f i < lv h (tr f) := by
  intro f i hf hi
  have : f = 0 ∨ f = 1 ∨ f = 2 := by omega
  rcases this with e | e | e <;> subst e
  · exact (W.2.2.2.2.1 i hi).2.2.1
  · exact (W.2.2.2.1 i hi).2.1
  · exact (W.2.2.2.1 i hi).2.2
theorem hE_of {h : hC} (W : WF h) : ∀ j e, j < 5 → e < hN h (5 + j) → hV h (5 + j) e < lv h (er j) := by
  intro j e hj he
  have W1 := W.1
  unfold Wn at W1
  have : j = 0 ∨ j = 1 ∨ j = 2 ∨ j = 3 ∨ j = 4 := by omega
  rcases this with q | q | q | q | q <;> subst q
  · have he : e < hN h 0 := by have : e < hN h 5 := he; omega
    show hV h 5 e < hN h 0
    rw [(W.2.1 e he).1]; exact he
  · have he : e < hN h 1 := by have : e < hN h 6 := he; omega
    show hV h 6 e < hN h 1
    rw [(W.2.2.1 e he).1]; exact he
  · have he : e < hN h 2 := by have : e < hN h 7 := he; omega
    show hV h 7 e < hN h 2
    rw [(W.2.2.2.1 e he).1]; exact he
  · have he : e < hN h 3 := by have : e < hN h 8 := he; omega
    show hV h 8 e < hN h 3
    rw [(W.2.2.2.2.1 e he).1]; exact he
  · have he : e < hN h 3 := by have : e < hN h 9 := he; omega
    exact W.2.2.2.2.2.1 e he
