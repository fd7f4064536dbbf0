/-! the constructors -/
def mm0 : mmS := ([], fun _ => 0, fun _ _ => 0, fun _ _ => none, fun _ => 0, fun _ _ => 0, fun _ _ => none, fun _ _ => 0)
theorem wp_li {z : Nat × Nat} {S : mmS} {p : Nat} {Q : mmS → Prop} {X : String → mmS → Prop} (h1 : p ∈ mL S) (h2 : mK S p = 6) (h : Q (sR (sI S 30 p 0) 25 p (some z.1))) : wp_Jx4a65c_init_da8c8 z S p Q X := by
  unfold wp_Jx4a65c_init_da8c8 wp_Jxc12de_init_da8c8 wp_Jxa1e45_init_da8c8
  refine ⟨⟨h1, h2⟩, ?_⟩
  rintro S1 rfl
  refine ⟨⟨h1, h2⟩, ?_⟩
  rintro S2 rfl
  exact h
/-- one list: made, begun, put into the rater's field -/
theorem wp_li1 {z : Nat × Nat} {S : mmS} {p f : Nat} {Q : mmS → Prop} {X : String → mmS → Prop} (h1 : p ∈ mL S) (h2 : mK S p = 4) (h : ∀ q, q ∉ mL S → Q (sR (sR (sI (sNo S q 6) 30 q 0) 25 q (some z.1)) f p (some q))) : ∀ q1 : Nat, q1 ∉ mL S → ∀ S3 : mmS, S3 = sNo S q1 6 → wp_Jx4a65c_init_da8c8 z S3 q1 (fun S4 => (p ∈ mL S4 ∧ mK S4 p = 4) ∧ ∀ S6 : mmS, S6 = sR S4 f p (some q1) → Q S6) X := by
  rintro q hq S3 rfl
  refine wp_li (List.mem_append_right _ (List.mem_singleton.mpr rfl)) (by rw [rK_No, if_pos rfl]) ?_
  have hne : ¬ p = q := fun e => hq (e ▸ h1)
  refine ⟨⟨?_, ?_⟩, ?_⟩
  · exact List.mem_append_left _ h1
  · rw [rK_R, rK_I, rK_No, if_neg hne]; exact h2
  · rintro S6 rfl
    exact h q hq
/-- what is known of the lists that are made -/
def mkl (z : Nat × Nat) (p : Nat) (ls : List Nat) (S : mmS) : Prop :=
  mL S = p :: ls ∧ (p :: ls).Nodup ∧ mK S p = 4 ∧ ∀ i (hi : i < ls.length), mK S ls[i] = 6 ∧ mI S 31 ls[i] = 0 ∧ mR S 25 ls[i] = some z.1 ∧ mR S (8 + i) p = some ls[i]
theorem mkl_1 {z : Nat × Nat} {p q : Nat} {ls : List Nat} {S : mmS} (h : mkl z p ls S) (hl : ls.length < 10) (hq : q ∉ mL S) : mkl z p (ls ++ [q]) (sR (sR (sI (sNo S q 6) 30 q 0) 25 q (some z.1)) (8 + ls.length) p (some q)) := by
  obtain ⟨h1, h2, h3, h4⟩ := h
  have hne : ¬ p = q := fun e => hq (by rw [h1, ← e]; exact List.mem_cons_self)
  refine ⟨?_, ?_, ?_, ?_⟩
  · show mL S ++ [q] = _
    rw [h1]; rfl
  · rw [h1] at hq
    exact nodup_push h2 hq
  · rw [rK_R, rK_R, rK_I, rK_No, if_neg hne]; exact h3
  · intro i hi
    rw [List.length_append] at hi
    have hi' : i < ls.length + 1 := hi
    by_cases e : i = ls.length
    · subst e
      have e1 : (ls ++ [q])[ls.length] = q := by simp
      rw [e1]
      refine ⟨?_, ?_, ?_, ?_⟩
      · rw [rK_R, rK_R, rK_I, rK_No, if_pos rfl]
      · rw [rI_R, rI_R, rI_I, if_neg (fun e => by omega), rI_No, if_pos rfl]
      · rw [rR_R, if_neg (fun e => by omega), rR_R, if_pos ⟨rfl, rfl⟩]
      · rw [rR_R, if_pos ⟨rfl, rfl⟩]
    · have hi2 : i < ls.length := by omega
      have e1 : (ls ++ [q])[i] = ls[i] := List.getElem_append_left hi2
      have hm : ls[i] ∈ mL S := by rw [h1]; exact List.mem_cons_of_mem _ (List.getElem_mem hi2)
      have hn : ¬ ls[i] = q := fun e => hq (e ▸ hm)
      obtain ⟨g1, g2, g3, g4⟩ := h4 i hi2
      rw [e1]
      refine ⟨?_, ?_, ?_, ?_⟩
      · rw [rK_R, rK_R, rK_I, rK_No, if_neg hn]; exact g1
      · rw [rI_R, rI_R, rI_I, if_neg (fun e => by omega), rI_No, if_neg hn]; exact g2
      · rw [rR_R, if_neg (fun e => by omega), rR_R, if_neg (fun e => hn e.2), rR_I, rR_No, if_neg hn]; exact g3
      · rw [rR_R, if_neg (fun e => by omega), rR_R, if_neg (fun e => hne e.2), rR_I, rR_No, if_neg hne]; exact g4
theorem wp_rater {z : Nat × Nat} {S : mmS} {p : Nat} {Q : mmS → Prop} {X : String → mmS → Prop} (h : mkl z p [] S) (hQ : ∀ ls S', ls.length = 5 → mkl z p ls S' → Q (sI (sI S' 21 p 480) 22 p 1079)) : wp_X4_init z S p Q X := by
  have hp : ∀ {ls T}, mkl z p ls T → p ∈ mL T := fun {ls T} g => by rw [g.1]; exact List.mem_cons_self
  unfold wp_X4_init
  refine wp_li1 (hp h) h.2.2.1 (fun q0 h0 => ?_)
  have L1 := mkl_1 h (by decide) h0
  refine wp_li1 (hp L1) L1.2.2.1 (fun q1 h1 => ?_)
  have L2 := mkl_1 L1 (by show 1 < 10; decide) h1
  refine wp_li1 (hp L2) L2.2.2.1 (fun q2 h2 => ?_)
  have L3 := mkl_1 L2 (by show 2 < 10; decide) h2
  refine wp_li1 (hp L3) L3.2.2.1 (fun q3 h3 => ?_)
  have L4 := mkl_1 L3 (by show 3 < 10; decide) h3
  refine wp_li1 (hp L4) L4.2.2.1 (fun q4 h4 => ?_)
  have L5 := mkl_1 L4 (by show 4 < 10; decide) h4
  rintro S1 rfl S2 rfl
  exact hQ _ _ rfl L5
/-- the memory behind the constructor -/
def h0 : hC := (fun _ => 0, fun f _ => if f = 21 then 480 else if f = 22 then 1079 else 0, fun _ _ _ => 0, fun _ _ => 0)
def m0 : hM := (fun _ => 0, fun _ _ => 0)
/-- the place of an address in the order of making: rater, 5 lists -/
def plc (r i : Nat) : Nat := if r = 9 then 1 + i else 0
def lab (n : Nat) : Nat × Nat := if n = 0 then (10, 0) else (9, n - 1)
theorem live0 {r i : Nat} (hr : r ≤ 13) (hi : i < lv h0 r) : (r = 9 ∧ i < 5) ∨ (r = 10 ∧ i = 0) := by
  have : r = 0 ∨ r = 1 ∨ r = 2 ∨ r = 3 ∨ r = 4 ∨ r = 5 ∨ r = 6 ∨ r = 7 ∨ r = 8 ∨ r = 9 ∨ r = 10 ∨ r = 11 ∨ r = 12 ∨ r = 13 := by omega
  rcases this with e | e | e | e | e | e | e | e | e | e | e | e | e | e <;> subst e
  · exact absurd hi (Nat.not_lt_zero i)
  · exact absurd hi (Nat.not_lt_zero i)
  · exact absurd hi (Nat.not_lt_zero i)
  · exact absurd hi (Nat.not_lt_zero i)
  · exact absurd hi (Nat.not_lt_zero i)
  · exact absurd hi (Nat.not_lt_zero i)
  · exact absurd hi (Nat.not_lt_zero i)
  · exact absurd hi (Nat.not_lt_zero i)
  · exact absurd hi (Nat.not_lt_zero i)
  · exact .inl ⟨rfl, hi⟩
  · exact .inr ⟨rfl, Nat.lt_one_iff.mp hi⟩
  · exact absurd hi (Nat.not_lt_zero i)
  · exact absurd hi (Nat.not_lt_zero i)
  · exact absurd hi (Nat.not_lt_zero i)
theorem lab_plc {r i : Nat} (hr : r ≤ 13) (hi : i < lv h0 r) : lab (plc r i) = (r, i) ∧ plc r i < 6 := by
  rcases live0 hr hi with ⟨e, g⟩ | ⟨e, g⟩ <;> subst e
  · have : i = 0 ∨ i = 1 ∨ i = 2 ∨ i = 3 ∨ i = 4 := by omega
    rcases this with e | e | e | e | e <;> subst e <;> decide
  · subst g; decide
theorem fr_e {f : Nat} (hf : f ≤ 22) : fr f = 1 ∨ fr f = 3 ∨ fr f = 2 ∨ fr f = 0 ∨ (fr f = 10 ∧ (f = 21 ∨ f = 22)) := by
  unfold fr
  repeat (first | omega | split)
theorem rr_e {f : Nat} (hf : f ≤ 12) : rr f = 3 ∨ rr f = 2 ∨ rr f = 0 ∨ (rr f = 10 ∧ 8 ≤ f ∧ f < 13) := by
  unfold rr
  repeat (first | omega | split)
theorem make_RP {z : Nat × Nat} {q1 : Nat} {ls : List Nat} {S : mmS} (hL : mL S = q1 :: ls) (hn : (mL S).Nodup) (h5 : ls.length = 5) (k1 : mK S q1 = 4) (i1 : mI S 21 q1 = 480) (i2 : mI S 22 q1 = 1079) (hl : ∀ i (hi : i < ls.length), mK S ls[i] = 6 ∧ mI S 31 ls[i] = 0 ∧ mR S 25 ls[i] = some z.1 ∧ mR S (8 + i) q1 = some ls[i]) :
    ∃ A w, A 10 0 = q1 ∧ RP z A w h0 m0 0 S := by
  have hlen : (mL S).length = 6 := by rw [hL]; simp [h5]
  obtain ⟨A, hA⟩ : ∃ A : Nat → Nat → Nat, ∀ r i, A r i = (mL S)[plc r i]?.getD 0 := ⟨_, fun _ _ => rfl⟩
  have a10 : A 10 0 = q1 := by rw [hA, hL]; rfl
  have a9 : ∀ j (hj : j < ls.length), A 9 j = ls[j] := by
    intro j hj
    rw [hA, hL]
    show (q1 :: ls)[1 + j]?.getD 0 = _
    rw [Nat.add_comm, List.getElem?_cons_succ, List.getElem?_eq_getElem hj]
    rfl
  refine ⟨A, fun a => lab (ixo (mL S) a), a10, ?_, ?_, trivial, ?_, ?_, trivial, ?_, ?_⟩
  · intro r i hr' hi
    obtain ⟨p1, p2⟩ := lab_plc hr' hi
    have p3 : plc r i < (mL S).length := by omega
    have p4 : A r i = (mL S)[plc r i] := by rw [hA, List.getElem?_eq_getElem p3]; rfl
    refine ⟨by rw [p4]; exact List.getElem_mem p3, ?_, ?_⟩
    · rcases live0 hr' hi with ⟨e, g⟩ | ⟨e, g⟩ <;> subst e
      · rw [a9 i (by omega)]; exact (hl i (by omega)).1
      · subst g; rw [a10]; exact k1
    · show lab (ixo (mL S) (A r i)) = _
      rw [p4, ixo_get _ hn _ p3]
      exact p1
  · intro f i hf hi
    rcases fr_e hf with e | e | e | e | ⟨e, g⟩ <;> rw [e] at hi ⊢
    · exact absurd hi (Nat.not_lt_zero i)
    · exact absurd hi (Nat.not_lt_zero i)
    · exact absurd hi (Nat.not_lt_zero i)
    · exact absurd hi (Nat.not_lt_zero i)
    · have e0 : i = 0 := Nat.lt_one_iff.mp hi
      subst e0
      rw [a10]
      rcases g with g | g <;> subst g
      · exact i1
      · exact i2
  · intro r i h4 h8 hi
    rcases live0 (by omega) hi with ⟨e, g⟩ | ⟨e, g⟩ <;> omega
  · intro f hf
    exact absurd hf (Nat.not_lt_zero f)
  · intro f i hf hi
    rcases rr_e hf with e | e | e | ⟨e, g⟩ <;> rw [e] at hi ⊢
    · exact absurd hi (Nat.not_lt_zero i)
    · exact absurd hi (Nat.not_lt_zero i)
    · exact absurd hi (Nat.not_lt_zero i)
    · have e0 : i = 0 := Nat.lt_one_iff.mp hi
      subst e0
      have t1 : tr f = 9 := by unfold tr; repeat (first | omega | split)
      have t2 : ti h0 f 0 = f - 8 := by unfold ti; repeat (first | omega | split)
      rw [a10, t1, t2, a9 (f - 8) (by omega), ← (hl (f - 8) (by omega)).2.2.2]
      have e3 : 8 + (f - 8) = f := by omega
      rw [e3]
  · intro j hj
    rw [a9 j (by omega)]
    have g := hl j (by omega)
    exact ⟨g.2.1, z.1, g.2.2.1, .inl ⟨rfl, rfl⟩⟩
theorem LI0 : LI h0 := by
  have no : ∀ i k, ¬ i < hN h0 k := fun i k => Nat.not_lt_zero i
  refine ⟨⟨?_, ?_, ?_, ?_, ?_, ?_⟩, ?_, ?_, ?_⟩
  · exact ⟨Nat.zero_le _, Nat.zero_le _, Nat.zero_le _, Nat.zero_le _, rfl, rfl, rfl, rfl, rfl⟩
  · exact fun t ht => absurd ht (no _ _)
  · exact fun t ht => absurd ht (no _ _)
  · exact fun t ht => absurd ht (no _ _)
  · exact fun t ht => absurd ht (no _ _)
  · exact ⟨fun k hk => absurd hk (no _ _), fun k _ hk => absurd hk (no _ _), fun k k' _ hk => absurd hk (no _ _), fun i hi => absurd hi (no _ _), fun f => rfl⟩
  · exact fun t ht => absurd ht (no _ _)
  · exact fun t ht => absurd ht (no _ _)
  · exact fun t ht => absurd ht (no _ _)
/-- a row of the law more -/
def rwA (A : Nat → Nat → Nat) (u q : Nat) : Nat → Nat → Nat := fun r i => if r = 11 ∧ i = u then q else A r i
theorem rwA_eq (A : Nat → Nat → Nat) (u q : Nat) : rwA A u q 11 u = q := if_pos ⟨rfl, rfl⟩
theorem rwA_ne {A : Nat → Nat → Nat} {u q r i : Nat} (h : r ≠ 11 ∨ i ≠ u) : rwA A u q r i = A r i := if_neg (fun e => h.elim (fun g => g e.1) (fun g => g e.2))
theorem RP_row {z A w h m u S} (R : RP z A w h m u S) {q : Nat} (hq : q ∉ mL S) : RP z (rwA A u q) (va_up w q (11, u)) h (hsXr m u (fun _ => 0)) (u + 1) (sNa S q (ln u)) := by
  have hne : ∀ a, a ∈ mL S → ¬ a = q := fun a ha e => hq (e ▸ ha)
  have fr10 : ∀ f, f ≤ 22 → fr f ≠ 11 := by intro f hf; unfold fr; repeat (first | omega | split)
  have rr10 : ∀ f, f ≤ 12 → rr f ≠ 11 ∧ tr f ≠ 11 := by intro f hf; unfold rr tr; constructor <;> repeat (first | omega | split)
  obtain ⟨R1, R2, R3, R4, R5, R6, R7, R8⟩ := R
  refine ⟨?_, ?_, trivial, ?_, ?_, trivial, ?_, ?_⟩
  · intro r i hr hi
    have r11 : r ≠ 11 := fun e => by subst e; exact absurd hi (Nat.not_lt_zero i)
    obtain ⟨a1, a2, a3⟩ := R1 r i hr hi
    rw [rwA_ne (.inl r11)]
    refine ⟨List.mem_append_left _ a1, ?_, ?_⟩
    · show va_up (mK S) q 7 (A r i) = _
      unfold va_up; rw [if_neg (hne _ a1)]; exact a2
    · unfold va_up; rw [if_neg (hne _ a1)]; exact a3
  · intro f i hf hi
    rw [rwA_ne (.inl (fr10 f hf))]
    exact R2 f i hf hi
  · intro r i h1 h2 hi
    have a1 := (R1 r i (by omega) hi).1
    rw [rwA_ne (.inl (by omega))]
    refine ⟨?_, fun j => ?_⟩
    · show va_up (mN S) q (ln u) (A r i) = 3
      unfold va_up; rw [if_neg (hne _ a1)]; exact (R4 r i h1 h2 hi).1
    · show mrw (mA S) q (fun _ => 0) (A r i) j = _
      unfold mrw; rw [if_neg (hne _ a1)]; exact (R4 r i h1 h2 hi).2 j
  · intro f hf
    by_cases e : f = u
    · subst e
      rw [rwA_eq]
      refine ⟨⟨List.mem_append_right _ (List.mem_singleton.mpr rfl), va_up_self _ _ _, va_up_self _ _ _⟩, va_up_self _ _ _, fun j => ?_⟩
      rw [hX_sXr, if_pos rfl]
      show mrw (mA S) q (fun _ => 0) q j = 0
      unfold mrw; rw [if_pos rfl]
    · rw [rwA_ne (.inr e)]
      obtain ⟨⟨a1, a2, a3⟩, a4, a5⟩ := R5 f (by omega)
      refine ⟨⟨List.mem_append_left _ a1, ?_, ?_⟩, ?_, fun j => ?_⟩
      · show va_up (mK S) q 7 (A 11 f) = _
        unfold va_up; rw [if_neg (hne _ a1)]; exact a2
      · unfold va_up; rw [if_neg (hne _ a1)]; exact a3
      · show va_up (mN S) q (ln u) (A 11 f) = _
        unfold va_up; rw [if_neg (hne _ a1)]; exact a4
      · rw [hX_sXr, if_neg e]
        show mrw (mA S) q (fun _ => 0) (A 11 f) j = _
        unfold mrw; rw [if_neg (hne _ a1)]; exact a5 j
  · intro f i hf hi
    rw [rwA_ne (.inl (rr10 f hf).1), rwA_ne (.inl (rr10 f hf).2)]
    exact R7 f i hf hi
  · intro j hj
    rw [rwA_ne (.inl (by decide))]
    obtain ⟨h1, b, h2, h3⟩ := R8 j hj
    refine ⟨h1, b, h2, ?_⟩
    rcases h3 with h3 | ⟨g3, g4, g5, g6, g7, g8, g9⟩
    · exact .inl h3
    · have hb := hne _ g4
      have er11 : er j ≠ 11 := by unfold er; split <;> omega
      refine .inr ⟨g3, List.mem_append_left _ g4, ?_, ?_, ?_, ?_, fun k hk => ?_⟩
      · show va_up (mK S) q 7 b = 8
        unfold va_up; rw [if_neg hb]; exact g5
      · unfold va_up; rw [if_neg hb]; exact g6
      · show _ ≤ va_up (mN S) q (ln u) b
        unfold va_up; rw [if_neg hb]; exact g7
      · show va_up (mN S) q (ln u) b ≤ _
        unfold va_up; rw [if_neg hb]; exact g8
      · rw [rwA_ne (.inl er11)]
        exact g9 k hk
theorem law_all {z : Nat × Nat} {L : Nat} (hL : L ≤ 260) (xs : Nat → Int32) : wp_L_law z L xs mm0 := by
  unfold wp_L_law
  rintro q1 h1 S3 rfl
  have M0 : mkl z q1 [] (sNo mm0 q1 4) := ⟨rfl, by simp, by rw [rK_No, if_pos rfl], fun i hi => absurd hi (Nat.not_lt_zero i)⟩
  refine wp_rater M0 (fun ls S4' h5 LSx => ?_)
  obtain ⟨l1, l2, l3, l4⟩ := LSx
  have hLx : mL (sI (sI S4' 21 q1 480) 22 q1 1079) = q1 :: ls := by rw [rL_I, rL_I]; exact l1
  obtain ⟨A, w, a10, R⟩ := make_RP (z := z) (S := sI (sI S4' 21 q1 480) 22 q1 1079) hLx (by rw [hLx]; exact l2) h5 (by rw [rK_I, rK_I]; exact l3) (by rw [rI_I, if_neg (fun e => absurd e.1 (by decide)), rI_I, if_pos ⟨rfl, rfl⟩]) (by rw [rI_I, if_pos ⟨rfl, rfl⟩]) (fun i hi => by
    have g := l4 i hi
    refine ⟨by rw [rK_I, rK_I]; exact g.1, ?_, by rw [rR_I, rR_I]; exact g.2.2.1, by rw [rR_I, rR_I]; exact g.2.2.2⟩
    rw [rI_I, if_neg (fun e => absurd e.1 (by decide)), rI_I, if_neg (fun e => absurd e.1 (by decide))]
    exact g.2.1)
  generalize sI (sI S4' 21 q1 480) 22 q1 1079 = S4 at *
  rintro q5 h5 S7 rfl q8 h8 S10 rfl q11 h11 S13 rfl q14 h14 S16 rfl q17 h17 S19 e19
  have R1 := RP_row R h5
  have R2 := RP_row R1 h8
  have R3 := RP_row R2 h11
  have R4 := RP_row R3 h14
  obtain ⟨w5, m5, R5⟩ : ∃ w5 m5, RP z (rwA (rwA (rwA (rwA (rwA A 0 q5) 1 q8) 2 q11) 3 q14) 4 q17) w5 h0 m5 5 S19 := ⟨_, _, by rw [e19]; exact RP_row R4 h17⟩
  clear e19 R1 R2 R3 R4
  have b10 : rwA (rwA (rwA (rwA (rwA A 0 q5) 1 q8) 2 q11) 3 q14) 4 q17 10 0 = q1 := by
    rw [rwA_ne (.inl (by decide)), rwA_ne (.inl (by decide)), rwA_ne (.inl (by decide)), rwA_ne (.inl (by decide)), rwA_ne (.inl (by decide)), a10]
  have b0 : rwA (rwA (rwA (rwA (rwA A 0 q5) 1 q8) 2 q11) 3 q14) 4 q17 11 0 = q5 := by
    rw [rwA_ne (.inr (by decide)), rwA_ne (.inr (by decide)), rwA_ne (.inr (by decide)), rwA_ne (.inr (by decide)), rwA_eq]
  have b1 : rwA (rwA (rwA (rwA (rwA A 0 q5) 1 q8) 2 q11) 3 q14) 4 q17 11 1 = q8 := by
    rw [rwA_ne (.inr (by decide)), rwA_ne (.inr (by decide)), rwA_ne (.inr (by decide)), rwA_eq]
  have b2 : rwA (rwA (rwA (rwA (rwA A 0 q5) 1 q8) 2 q11) 3 q14) 4 q17 11 2 = q11 := by
    rw [rwA_ne (.inr (by decide)), rwA_ne (.inr (by decide)), rwA_eq]
  have b3 : rwA (rwA (rwA (rwA (rwA A 0 q5) 1 q8) 2 q11) 3 q14) 4 q17 11 3 = q14 := by
    rw [rwA_ne (.inr (by decide)), rwA_eq]
  have b4 : rwA (rwA (rwA (rwA (rwA A 0 q5) 1 q8) 2 q11) 3 q14) 4 q17 11 4 = q17 := by
    rw [rwA_eq]
  generalize rwA (rwA (rwA (rwA (rwA A 0 q5) 1 q8) 2 q11) 3 q14) 4 q17 = B at *
  rw [← b10, ← b0, ← b1, ← b2, ← b3, ← b4]
  refine build_ok hL R5 LI0 rfl rfl rfl rfl (fun A' w' h' m' S' R' I' F c1 c2 n3 x1 x2 T => ⟨fun _ => ?_, fun g => absurd g (by decide)⟩)
  rw [← F 10 0 (by omega), ← F 11 0 (by omega), ← F 11 2 (by omega), ← F 11 4 (by omega)]
  have V : LV h' m' := ⟨I', fun k k' _ hk => by omega, T, fun i hi => by omega, x1, x2, c1, c2⟩
  simp (disch := first | assumption | omega | (simp only [hN_sG, hN_sY, hN_sV] <;> first | assumption | omega)) only [rd R', Option.some.injEq, exists_eq_left', true_and, and_true, and_self, ne_eq, not_false_eq_true, not_true_eq_false, false_and, and_false, if_true, if_false, ite_true, ite_false, vin_0, vin_1, vin_2, vin_n, ncl, lit_0, lit_1, lit_2, lit_3, lit_4, lit_9, nm2, nm3, nm4, nm9, na1, na2, na3, na4, hG_sG, hG_sY, hG_sV, hG_sN, hY_sG, hY_sY, hY_sV, hY_sN, hV_sG, hV_sY, hV_sN, hV_sV, hN_sG, hN_sY, hN_sV, hN_sN, hF_sX, hF_sXr, hF_sF, hX_sF, hX_sX, hX_sXr, Nat.reduceEqDiff, Nat.reduceAdd, er_0, er_1, er_2, er_3, er_4, Nat.zero_lt_succ, forall_const, true_implies, false_implies, imp_self, implies_true, x2]
  refine call_ok hL R' V n3 (fun N hN A2 w2 h2 m2 S2 R2 V2 F2 n2 => ⟨fun _ => ?_, fun g => g (nI_le (a := 0) (by omega) (by omega))⟩)
  rintro q26 h26 S28 rfl v rfl
  have R6 := RP_row R2 h26
  have V6 : LV h2 (hsXr m2 5 (fun _ => 0)) := by
    obtain ⟨I, O, T, C, x1, x2, g⟩ := V2
    refine ⟨I, O, fun a ha => ?_, fun i hi => ?_, ?_, ?_, g⟩
    · rw [hX_sXr, if_neg (by decide)]; exact T a ha
    · rw [hX_sXr, if_neg (by decide)]; exact C i hi
    · rw [hX_sXr, if_neg (by decide)]; exact x1
    · rw [hX_sXr, if_neg (by decide)]; exact x2
  have key := l_84 hL (xs := xs) hN n2 N 0 _ _ (by omega) R6 V6 (fun i hi => absurd hi (Nat.not_lt_zero i))
  rw [rwA_ne (.inl (by decide)), rwA_ne (.inr (by decide)), rwA_ne (.inr (by decide)), rwA_ne (.inr (by decide)), rwA_eq, F2 10 0 (by omega), F2 11 0 (by omega), F2 11 2 (by omega), F2 11 4 (by omega)] at key
  exact ⟨N + 1, key⟩
