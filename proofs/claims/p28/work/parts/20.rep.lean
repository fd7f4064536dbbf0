/-! THE ABSTRACT MEMORY: objects by role and number; rows by role and number. Own work. -/
/-- numbers (0..3 objects, 5..9 lists), int fields, int rows, references (0 line of a call, 1 account, 2 tariff of a line, 5..9 the lists) -/
abbrev hC : Type := (Nat → Nat) × (Nat → Nat → Int32) × (Nat → Nat → Nat → Int32) × (Nat → Nat → Nat)
abbrev hM : Type := (Nat → Int32) × (Nat → Nat → Int32)
def hN (h : hC) : Nat → Nat := h.1
def hG (h : hC) : Nat → Nat → Int32 := h.2.1
def hY (h : hC) : Nat → Nat → Nat → Int32 := h.2.2.1
def hV (h : hC) : Nat → Nat → Nat := h.2.2.2
def hF (m : hM) : Nat → Int32 := m.1
def hX (m : hM) : Nat → Nat → Int32 := m.2
def mu3 {α : Type} (f : Nat → Nat → Nat → α) (r i j : Nat) (v : α) : Nat → Nat → Nat → α := fun r' i' j' => if r' = r ∧ i' = i ∧ j' = j then v else f r' i' j'
def hsN (h : hC) (k n : Nat) : hC := (va_up (hN h) k n, hG h, hY h, hV h)
def hsG (h : hC) (f i : Nat) (v : Int32) : hC := (hN h, mu2 (hG h) f i v, hY h, hV h)
def hsY (h : hC) (r i j : Nat) (v : Int32) : hC := (hN h, hG h, mu3 (hY h) r i j v, hV h)
def hsV (h : hC) (k i v : Nat) : hC := (hN h, hG h, hY h, mu2 (hV h) k i v)
def hsF (m : hM) (f : Nat) (v : Int32) : hM := (va_up (hF m) f v, hX m)
def hsX (m : hM) (f j : Nat) (v : Int32) : hM := (hF m, mu2 (hX m) f j v)
def hsXr (m : hM) (f : Nat) (r : Nat → Int32) : hM := (hF m, mrw (hX m) f r)
/-- roles: 0 tariff 1 account 2 line 3 call 4 zoneRate 5 zoneDayFee 6 feesPaid 7 lastFeeDay 8 freeOfDay 9 lists 10 rater 11 rows of the model the rows of the law are role 11, u of them -/
def lvN (N : Nat → Nat) (r : Nat) : Nat := if r = 0 ∨ r = 4 ∨ r = 5 then N 0 else if r = 1 then N 1 else if r = 2 ∨ r = 6 ∨ r = 7 ∨ r = 8 then N 2 else if r = 3 then N 3 else if r = 9 then 5 else if r = 10 then 1 else 0
def lv (h : hC) (r : Nat) : Nat := lvN (hN h) r
def kd (r : Nat) : Nat := if r = 0 then 3 else if r = 1 then 0 else if r = 2 then 2 else if r = 3 then 1 else if r = 9 then 6 else if r = 10 then 4 else if r = 12 then 5 else if r = 13 then 9 else 7
/-- the role that an int field belongs to -/
def fr (f : Nat) : Nat := if f < 6 then 1 else if f < 14 then 3 else if f < 15 then 2 else if f < 21 then 0 else 10
/-- the role that a reference field belongs to, the role that it points into -/
def rr (f : Nat) : Nat := if f < 1 then 3 else if f < 6 then 2 else if f < 8 then 0 else if f < 13 then 10 else 12
def tr (f : Nat) : Nat := if f = 0 then 2 else if f = 1 then 1 else if f = 2 then 0 else if f < 6 then f + 3 else if f < 8 then f - 2 else if f < 13 then 9 else 11
def ti (h : hC) (f i : Nat) : Nat := if f < 3 then hV h f i else if f < 8 then i else if f < 13 then f - 8 else f - 13
def er (j : Nat) : Nat := if j < 4 then j else 3
/-- the rows of the law: counts, tariffs, accounts, lines, calls, prices -/
def ln (f : Nat) : Nat := if f = 0 then 3 else if f = 1 then 27 else if f = 2 then 6 else if f = 3 then 8 else if f = 4 then 80 else 20
def rpL (A : Nat → Nat → Nat) (w : Nat → Nat × Nat) (h : hC) (S : mmS) : Prop := ∀ r i, r ≤ 13 → i < lv h r → A r i ∈ mL S ∧ mK S (A r i) = kd r ∧ w (A r i) = (r, i)
def rpI (A : Nat → Nat → Nat) (h : hC) (S : mmS) : Prop := ∀ f i, f ≤ 22 → i < lv h (fr f) → mI S f (A (fr f) i) = hG h f i
def rpY (A : Nat → Nat → Nat) (h : hC) (S : mmS) : Prop := ∀ r i, 4 ≤ r → r ≤ 8 → i < lv h r → mN S (A r i) = 3 ∧ ∀ j, mA S (A r i) j = hY h r i j
def rpX (A : Nat → Nat → Nat) (w : Nat → Nat × Nat) (m : hM) (u : Nat) (S : mmS) : Prop := ∀ f, f < u → (A 11 f ∈ mL S ∧ mK S (A 11 f) = 7 ∧ w (A 11 f) = (11, f)) ∧ mN S (A 11 f) = ln f ∧ ∀ j, mA S (A 11 f) j = hX m f j
def rpR (A : Nat → Nat → Nat) (h : hC) (S : mmS) : Prop := ∀ f i, f ≤ 12 → i < lv h (rr f) → mR S f (A (rr f) i) = some (A (tr f) (ti h f i))
def rpD (z : Nat × Nat) (A : Nat → Nat → Nat) (w : Nat → Nat × Nat) (h : hC) (S : mmS) (j b : Nat) : Prop := (b = z.1 ∧ hN h (5 + j) = 0) ∨ (b ≠ z.1 ∧ b ∈ mL S ∧ mK S b = 8 ∧ w b = (14, j) ∧ hN h (5 + j) ≤ mN S b ∧ mN S b ≤ 128 ∧ ∀ k, k < hN h (5 + j) → mQ S b k = some (A (er j) (hV h (5 + j) k)))
def rpE (z : Nat × Nat) (A : Nat → Nat → Nat) (w : Nat → Nat × Nat) (h : hC) (S : mmS) : Prop := ∀ j, j < 5 → mI S 31 (A 9 j) = nI (hN h (5 + j)) ∧ ∃ b, mR S 25 (A 9 j) = some b ∧ rpD z A w h S j b
def RP (z : Nat × Nat) (A : Nat → Nat → Nat) (w : Nat → Nat × Nat) (h : hC) (m : hM) (u : Nat) (S : mmS) : Prop :=
  rpL A w h S ∧ rpI A h S ∧ True ∧ rpY A h S ∧ rpX A w m u S ∧ True ∧ rpR A h S ∧ rpE z A w h S
theorem RP_inj {z A w h m u S} (R : RP z A w h m u S) {r i r' i' : Nat} (hr : r ≤ 13) (hi : i < lv h r) (hr' : r' ≤ 13) (hi' : i' < lv h r') (e : A r i = A r' i') : r = r' ∧ i = i' := by
  have h1 := (R.1 r i hr hi).2.2
  have h2 := (R.1 r' i' hr' hi').2.2
  rw [e, h2] at h1
  have h3 := congrArg Prod.fst h1
  have h4 := congrArg Prod.snd h1
  exact ⟨h3.symm, h4.symm⟩
theorem RP_inX {z A w h m u S} (R : RP z A w h m u S) {r i f : Nat} (hr : r ≤ 10) (hi : i < lv h r) (hf : f < u) (e : A r i = A 11 f) : False := by
  have h1 := (R.1 r i (by omega) hi).2.2
  have h2 := (R.2.2.2.2.1 f hf).1.2.2
  rw [e, h2] at h1
  have := congrArg Prod.fst h1
  omega
theorem RP_inXX {z A w h m u S} (R : RP z A w h m u S) {f f' : Nat} (hf : f < u) (hf' : f' < u) (e : A 11 f = A 11 f') : f = f' := by
  have h1 := (R.2.2.2.2.1 f hf).1.2.2
  have h2 := (R.2.2.2.2.1 f' hf').1.2.2
  rw [e, h2] at h1
  exact (congrArg Prod.snd h1).symm
/-- what RP says looks at the pool's addresses alone -/
theorem RP_agree {z A w h m u S S'} (R : RP z A w h m u S) (hL : ∀ a, a ∈ mL S → a ∈ mL S') (ha : ∀ a, a ∈ mL S → mK S' a = mK S a ∧ (∀ f, mI S' f a = mI S f a) ∧ (∀ f, mR S' f a = mR S f a) ∧ mN S' a = mN S a ∧ (∀ i, mA S' a i = mA S a i) ∧ (∀ i, mQ S' a i = mQ S a i) ∧ (∀ i, mJ S' a i = mJ S a i)) : RP z A w h m u S' := by
  have fr13 : ∀ f, fr f ≤ 13 := by intro f; unfold fr; repeat (first | omega | split)
  have rr13 : ∀ f, rr f ≤ 13 := by intro f; unfold rr; repeat (first | omega | split)
  obtain ⟨R1, R2, R3, R4, R5, R6, R7, R8⟩ := R
  refine ⟨?_, ?_, ?_, ?_, ?_, ?_, ?_, ?_⟩
  · intro r i hr hi
    obtain ⟨h1, h2, h3⟩ := R1 r i hr hi
    exact ⟨hL _ h1, by rw [(ha _ h1).1]; exact h2, h3⟩
  · intro f i hf hi
    rw [(ha _ (R1 _ i (fr13 f) hi).1).2.1]
    exact R2 f i hf hi
  · trivial
  · intro r i h1 h2 hi
    have hm := ha _ (R1 r i (by omega) hi).1
    obtain ⟨h3, h4⟩ := R4 r i h1 h2 hi
    exact ⟨by rw [hm.2.2.2.1]; exact h3, fun j => by rw [hm.2.2.2.2.1]; exact h4 j⟩
  · intro f hf
    obtain ⟨⟨h0, h1, h2⟩, h3, h4⟩ := R5 f hf
    have hm := ha _ h0
    exact ⟨⟨hL _ h0, by rw [hm.1]; exact h1, h2⟩, by rw [hm.2.2.2.1]; exact h3, fun j => by rw [hm.2.2.2.2.1]; exact h4 j⟩
  · trivial
  · intro f i hf hi
    rw [(ha _ (R1 _ i (rr13 f) hi).1).2.2.1]
    exact R7 f i hf hi
  · intro j hj
    have hm := ha _ (R1 9 j (by omega) hj).1
    obtain ⟨h1, b, h2, h3⟩ := R8 j hj
    refine ⟨by rw [hm.2.1]; exact h1, b, by rw [hm.2.2.1]; exact h2, ?_⟩
    rcases h3 with h3 | ⟨h3, h4, h5, h6, h7, h8, h9⟩
    · exact .inl h3
    · have hb := ha _ h4
      exact .inr ⟨h3, hL _ h4, by rw [hb.1]; exact h5, h6, by rw [hb.2.2.2.1]; exact h7, by rw [hb.2.2.2.1]; exact h8, fun k hk => by rw [hb.2.2.2.2.2.1]; exact h9 k hk⟩
theorem RP_sI {z A w h m u S} (R : RP z A w h m u S) {f i : Nat} {v : Int32} (hf : f ≤ 22) (hi : i < lv h (fr f)) : RP z A w (hsG h f i v) m u (sI S f (A (fr f) i) v) := by
  have fr13 : ∀ f, fr f ≤ 13 := by intro f; unfold fr; repeat (first | omega | split)
  have R0 := R
  obtain ⟨R1, R2, R3, R4, R5, R6, R7, R8⟩ := R
  refine ⟨R1, ?_, trivial, R4, R5, R6, R7, ?_⟩
  · intro f' i' hf' hi'
    show mu2 (mI S) f (A (fr f) i) v f' (A (fr f') i') = mu2 (hG h) f i v f' i'
    unfold mu2
    by_cases hff : f' = f
    · subst hff
      by_cases hii : i' = i
      · subst hii
        rw [if_pos ⟨rfl, rfl⟩, if_pos ⟨rfl, rfl⟩]
      · rw [if_neg (fun e => hii (RP_inj R0 (fr13 _) hi' (fr13 _) hi e.2).2), if_neg (fun e => hii e.2)]
        exact R2 f' i' hf' hi'
    · rw [if_neg (fun e => hff e.1), if_neg (fun e => hff e.1)]
      exact R2 f' i' hf' hi'
  · intro j hj
    obtain ⟨h1, b, h2, h3⟩ := R8 j hj
    refine ⟨?_, b, h2, h3⟩
    show mu2 (mI S) f (A (fr f) i) v 31 (A 9 j) = _
    unfold mu2
    rw [if_neg (fun e => by omega)]
    exact h1
theorem RP_sY {z A w h m u S} (R : RP z A w h m u S) {r i j : Nat} {v : Int32} (h4 : 4 ≤ r) (h8 : r ≤ 8) (hi : i < lv h r) : RP z A w (hsY h r i j v) m u (sA S (A r i) j v) := by
  have R0 := R
  obtain ⟨R1, R2, R3, R4, R5, R6, R7, R8⟩ := R
  refine ⟨R1, R2, R3, ?_, ?_, R6, R7, R8⟩
  · intro r' i' h1 h2 hi'
    refine ⟨(R4 r' i' h1 h2 hi').1, fun j' => ?_⟩
    show mu2 (mA S) (A r i) j v (A r' i') j' = mu3 (hY h) r i j v r' i' j'
    unfold mu2 mu3
    by_cases e1 : r' = r ∧ i' = i ∧ j' = j
    · obtain ⟨e1, e2, e3⟩ := e1
      subst e1; subst e2; subst e3
      rw [if_pos ⟨rfl, rfl⟩, if_pos ⟨rfl, rfl, rfl⟩]
    · rw [if_neg e1, if_neg (fun e => e1 ⟨(RP_inj R0 (by omega) hi' (by omega) hi e.1).1, (RP_inj R0 (by omega) hi' (by omega) hi e.1).2, e.2⟩)]
      exact (R4 r' i' h1 h2 hi').2 j'
  · intro f hf
    refine ⟨(R5 f hf).1, (R5 f hf).2.1, fun j' => ?_⟩
    show mu2 (mA S) (A r i) j v (A 11 f) j' = _
    unfold mu2
    rw [if_neg (fun e => RP_inX R0 (by omega) hi hf e.1.symm)]
    exact (R5 f hf).2.2 j'
theorem RP_sX {z A w h m u S} (R : RP z A w h m u S) {f j : Nat} {v : Int32} (hf : f < u) : RP z A w h (hsX m f j v) u (sA S (A 11 f) j v) := by
  have R0 := R
  obtain ⟨R1, R2, R3, R4, R5, R6, R7, R8⟩ := R
  refine ⟨R1, R2, R3, ?_, ?_, R6, R7, R8⟩
  · intro r' i' h1 h2 hi'
    refine ⟨(R4 r' i' h1 h2 hi').1, fun j' => ?_⟩
    show mu2 (mA S) (A 11 f) j v (A r' i') j' = _
    unfold mu2
    rw [if_neg (fun e => RP_inX R0 (by omega) hi' hf e.1)]
    exact (R4 r' i' h1 h2 hi').2 j'
  · intro f' hf'
    refine ⟨(R5 f' hf').1, (R5 f' hf').2.1, fun j' => ?_⟩
    show mu2 (mA S) (A 11 f) j v (A 11 f') j' = mu2 (hX m) f j v f' j'
    unfold mu2
    by_cases e1 : f' = f ∧ j' = j
    · obtain ⟨e1, e2⟩ := e1
      subst e1; subst e2
      rw [if_pos ⟨rfl, rfl⟩, if_pos ⟨rfl, rfl⟩]
    · rw [if_neg e1, if_neg (fun e => e1 ⟨RP_inXX R0 hf' hf e.1, e.2⟩)]
      exact (R5 f' hf').2.2 j'
/-- a line gets another tariff -/
theorem RP_sV {z A w h m u S} (R : RP z A w h m u S) {f i t : Nat} (hf : f < 3) (hi : i < lv h (rr f)) : RP z A w (hsV h f i t) m u (sR S f (A (rr f) i) (some (A (tr f) t))) := by
  have rr13 : ∀ f, rr f ≤ 13 := by intro f; unfold rr; repeat (first | omega | split)
  have R0 := R
  obtain ⟨R1, R2, R3, R4, R5, R6, R7, R8⟩ := R
  refine ⟨R1, R2, R3, R4, R5, R6, ?_, ?_⟩
  · intro f' i' hf' hi'
    show mu2 (mR S) f (A (rr f) i) (some (A (tr f) t)) f' (A (rr f') i') = some (A (tr f') (ti (hsV h f i t) f' i'))
    unfold mu2
    by_cases e1 : f' = f ∧ i' = i
    · obtain ⟨e1, e2⟩ := e1
      subst e1; subst e2
      rw [if_pos ⟨rfl, rfl⟩]
      have : ti (hsV h f' i' t) f' i' = t := by
        unfold ti; rw [if_pos hf]; show mu2 (hV h) f' i' t f' i' = t; unfold mu2; rw [if_pos ⟨rfl, rfl⟩]
      rw [this]
    · have e2 : ¬ (f' = f ∧ A (rr f') i' = A (rr f) i) := by
        rintro ⟨e3, e4⟩
        subst e3
        exact e1 ⟨rfl, (RP_inj R0 (rr13 _) hi' (rr13 _) hi e4).2⟩
      rw [if_neg e2]
      have : ti (hsV h f i t) f' i' = ti h f' i' := by
        unfold ti
        by_cases h3 : f' < 3
        · rw [if_pos h3, if_pos h3]; show mu2 (hV h) f i t f' i' = _; unfold mu2; rw [if_neg e1]
        · rw [if_neg h3, if_neg h3]
      rw [this]
      exact R7 f' i' hf' hi'
  · intro j hj
    obtain ⟨h1, b, h2, h3⟩ := R8 j hj
    refine ⟨h1, b, ?_, ?_⟩
    · show mu2 (mR S) f (A (rr f) i) _ 25 (A 9 j) = _
      unfold mu2
      rw [if_neg (fun e => by omega)]
      exact h2
    · rcases h3 with h3 | ⟨h3, h4, h5, h6, h7, h8, h9⟩
      · exact .inl h3
      · refine .inr ⟨h3, h4, h5, h6, h7, h8, fun k hk => ?_⟩
        have : hV (hsV h f i t) (5 + j) k = hV h (5 + j) k := by
          show mu2 (hV h) f i t (5 + j) k = _
          unfold mu2
          rw [if_neg (fun e => by omega)]
        rw [this]
        exact h9 k hk
