/-! the constructors -/
def mm0 : mmS := ([], fun _ => 0, fun _ _ => 0, fun _ _ => none, fun _ => 0, fun _ _ => 0, fun _ _ => none, fun _ _ => 0)
theorem wp_li {z : Nat × Nat} {S : mmS} {p : Nat} {Q : mmS → Prop} {X : String → mmS → Prop} (h1 : p ∈ mL S) (h2 : mK S p = 6) (h : Q (sR (sI S 30 p 0) 25 p (some z.1))) : wp_Jx4a65c_init_da8c8 z S p Q X := by
  unfold wp_Jx4a65c_init_da8c8 wp_Jxc12de_init_da8c8 wp_Jxa1e45_init_da8c8
  refine ⟨⟨h1, h2⟩, ?_⟩
  rintro S1 rfl
  refine ⟨⟨h1, h2⟩, ?_⟩
  rintro S2 rfl
  exact h
/-- one list: made, begun, put into the rater's field -/
theorem wp_li1 {z : Nat × Nat} {S : mmS} {p f : Nat} {Q : mmS → Prop} {X : String → mmS → Prop} (h1 : p ∈ mL S) (h2 : mK S p = 4) (h : ∀ q, q ∉ mL S → Q (sR (sR (sI (sNo S q 6) 30 q 0) 25 q (some z.1)) f p (some q))) : ∀ q1 : Nat, q1 ∉ mL S → ∀ S3 : mmS, S3 = sNo S q1 6 → wp_Jx4a65c_init_da8c8 z S3 q1 (fun S4 => (p ∈ mL S4 ∧ mK S4 p = 4) ∧ ∀ S6 : mmS, S6 = sR S4 f p (some q1) → Q S6) X := by
  rintro q hq S3 rfl
  refine wp_li (List.mem_append_right _ (List.mem_singleton.mpr rfl)) (by rw [rK_No, if_pos rfl]) ?_
  have hne : ¬ p = q := fun e => hq (e ▸ h1)
  refine ⟨⟨?_, ?_⟩, ?_⟩
  · exact List.mem_append_left _ h1
  · rw [rK_R, rK_I, rK_No, if_neg hne]; exact h2
  · rintro S6 rfl
    exact h q hq
/-- what is known of the lists that are made -/
def mkl (z : Nat × Nat) (p : Nat) (ls : List Nat) (S : mmS) : Prop :=
  mL S = p :: ls ∧ (p :: ls).Nodup ∧ mK S p = 4 ∧ ∀ i (hi : i < ls.length), mK S ls[i] = 6 ∧ mI S 31 ls[i] = 0 ∧ mR S 25 ls[i] = some z.1 ∧ mR S (8 + i) p = some ls[i]
theorem mkl_1 {z : Nat × Nat} {p q : Nat} {ls : List Nat} {S : mmS} (h : mkl z p ls S) (hl : ls.length < 10) (hq : q ∉ mL S) : mkl z p (ls ++ [q]) (sR (sR (sI (sNo S q 6) 30 q 0) 25 q (some z.1)) (8 + ls.length) p (some q)) := by
  obtain ⟨h1, h2, h3, h4⟩ := h
  have hne : ¬ p = q := fun e => hq (by rw [h1, ← e]; exact List.mem_cons_self)
  refine ⟨?_, ?_, ?_, ?_⟩
  · show mL S ++ [q] = _
    rw [h1]; rfl
  · rw [h1] at hq
    exact nodup_push h2 hq
  · rw [rK_R, rK_R, rK_I, rK_No, if_neg hne]; exact h3
  · intro i hi
    rw [List.length_append] at hi
    have hi' : i < ls.length + 1 := hi
    by_cases e : i = ls.length
    · subst e
      have e1 : (ls ++ [q])[ls.length] = q := by simp
      rw [e1]
      refine ⟨?_, ?_, ?_, ?_⟩
      · rw [rK_R, rK_R, rK_I, rK_No, if_pos rfl]
      · rw [rI_R, rI_R, rI_I, if_neg (fun e => by omega), rI_No, if_pos rfl]
      · rw [rR_R, if_neg (fun e => by omega), rR_R, if_pos ⟨rfl, rfl⟩]
      · rw [rR_R, if_pos ⟨rfl, rfl⟩]
    · have hi2 : i < ls.length := by omega
      have e1 : (ls ++ [q])[i] = ls[i] := List.getElem_append_left hi2
      have hm : ls[i] ∈ mL S := by rw [h1]; exact List.mem_cons_of_mem _ (List.getElem_mem hi2)
      have hn : ¬ ls[i] = q := fun e => hq (e ▸ hm)
      obtain ⟨g1, g2, g3, g4⟩ := h4 i hi2
      rw [e1]
      refine ⟨?_, ?_, ?_, ?_⟩
      · rw [rK_R, rK_R, rK_I, rK_No, if_neg hn]; exact g1
      · rw [rI_R, rI_R, rI_I, if_neg (fun e => by omega), rI_No, if_neg hn]; exact g2
      · rw [rR_R, if_neg (fun e => by omega), rR_R, if_neg (fun e => hn e.2), rR_I, rR_No, if_neg hn]; exact g3
      · rw [rR_R, if_neg (fun e => by omega), rR_R, if_neg (fun e => hne e.2), rR_I, rR_No, if_neg hne]; exact g4
theorem wp_rater {z : Nat × Nat} {S : mmS} {p : Nat} {Q : mmS → Prop} {X : String → mmS → Prop} (h : mkl z p [] S) (hQ : ∀ ls S', ls.length = 5 → mkl z p ls S' → Q (sI (sI S' 21 p 480) 22 p 1079)) : wp_X4_init z S p Q X := by
  have hp : ∀ {ls T}, mkl z p ls T → p ∈ mL T := fun {ls T} g => by rw [g.1]; exact List.mem_cons_self
  unfold wp_X4_init
  refine wp_li1 (hp h) h.2.2.1 (fun q0 h0 => ?_)
  have L1 := mkl_1 h (by decide) h0
  refine wp_li1 (hp L1) L1.2.2.1 (fun q1 h1 => ?_)
  have L2 := mkl_1 L1 (by show 1 < 10; decide) h1
  refine wp_li1 (hp L2) L2.2.2.1 (fun q2 h2 => ?_)
  have L3 := mkl_1 L2 (by show 2 < 10; decide) h2
  refine wp_li1 (hp L3) L3.2.2.1 (fun q3 h3 => ?_)
  have L4 := mkl_1 L3 (by show 3 < 10; decide) h3
  refine wp_li1 (hp L4) L4.2.2.1 (fun q4 h4 => ?_)
  have L5 := mkl_1 L4 (by show 4 < 10; decide) h4
  rintro S1 rfl S2 rfl
  exact hQ _ _ rfl L5
/-- what is known of the model's rows that are made -/
def mkm (T : mmS) (p : Nat) (rs : List Nat) (S : mmS) : Prop :=
  mL S = mL T ++ p :: rs ∧ agr T S ∧ (mL S).Nodup ∧ mK S p = 5 ∧ ∀ i (hi : i < rs.length), mK S rs[i] = 7 ∧ mN S rs[i] = ln i ∧ (∀ j, mA S rs[i] j = 0) ∧ mR S (13 + i) p = some rs[i]
theorem mkm_1 {T : mmS} {p q : Nat} {rs : List Nat} {S : mmS} (h : mkm T p rs S) (hp : p ∉ mL T) (hq : q ∉ mL S) : mkm T p (rs ++ [q]) (sR (sNa S q (ln rs.length)) (13 + rs.length) p (some q)) := by
  obtain ⟨h1, ha, h2, h3, h4⟩ := h
  have hpm : p ∈ mL S := by rw [h1]; exact List.mem_append_right _ List.mem_cons_self
  have hne : ¬ p = q := fun e => hq (e ▸ hpm)
  have hqT : q ∉ mL T := fun e => hq (by rw [h1]; exact List.mem_append_left _ e)
  refine ⟨?_, ag_R (ag_Na ha hqT) hp, ?_, ?_, ?_⟩
  · show mL S ++ [q] = _
    rw [h1]; simp
  · exact nodup_push h2 hq
  · rw [rK_R, rK_Na, if_neg hne]; exact h3
  · intro i hi
    rw [List.length_append] at hi
    have hi' : i < rs.length + 1 := hi
    by_cases e : i = rs.length
    · subst e
      have e1 : (rs ++ [q])[rs.length] = q := by simp
      rw [e1]
      refine ⟨?_, ?_, fun j => ?_, ?_⟩
      · rw [rK_R, rK_Na, if_pos rfl]
      · rw [rN_R, rN_Na, if_pos rfl]
      · rw [rA_R, rA_Na, if_pos rfl]
      · rw [rR_R, if_pos ⟨rfl, rfl⟩]
    · have hi2 : i < rs.length := by omega
      have e1 : (rs ++ [q])[i] = rs[i] := List.getElem_append_left hi2
      have hm : rs[i] ∈ mL S := by rw [h1]; exact List.mem_append_right _ (List.mem_cons_of_mem _ (List.getElem_mem hi2))
      have hn : ¬ rs[i] = q := fun e => hq (e ▸ hm)
      obtain ⟨g1, g2, g3, g4⟩ := h4 i hi2
      rw [e1]
      refine ⟨?_, ?_, fun j => ?_, ?_⟩
      · rw [rK_R, rK_Na, if_neg hn]; exact g1
      · rw [rN_R, rN_Na, if_neg hn]; exact g2
      · rw [rA_R, rA_Na, if_neg hn]; exact g3 j
      · rw [rR_R, if_neg (fun e => by omega), rR_Na]; exact g4
theorem mI_ms1 (S : mmS) (p q n f g : Nat) (v : Option Nat) : mI (sR (sNa S q n) f p v) g = mI S g := by
  rw [rI_R, rI_Na]
theorem mkm_I {T : mmS} {p f : Nat} {v : Int32} {rs : List Nat} {S : mmS} (h : mkm T p rs S) (hp : p ∉ mL T) : mkm T p rs (sI S f p v) :=
  ⟨h.1, ag_I h.2.1 hp, h.2.2.1, h.2.2.2.1, h.2.2.2.2⟩
theorem wp_model {z : Nat × Nat} {T : mmS} {p : Nat} {Q : mmS → Prop} {X : String → mmS → Prop} (hp : p ∉ mL T) (hn : (mL T).Nodup) (hQ : ∀ rs S', rs.length = 12 → mkm T p rs S' → (∀ f, mI S' f p = if f = 29 then 1079 else if f = 28 then 480 else 0) → Q S') : wp_X5_init z (sNo T p 5) p Q X := by
  have M0 : mkm T p [] (sNo T p 5) := ⟨rfl, ag_No (ag_refl T) hp, nodup_push hn hp, by rw [rK_No, if_pos rfl], fun i hi => absurd hi (Nat.not_lt_zero i)⟩
  have hpm : ∀ {rs S}, mkm T p rs S → p ∈ mL S := fun {rs S} g => by rw [g.1]; exact List.mem_append_right _ List.mem_cons_self
  unfold wp_X5_init
  rintro q1 h1 S3 rfl
  have hne : ¬ p = q1 := fun e => h1 (e ▸ hpm M0)
  refine ⟨⟨List.mem_append_left _ (hpm M0), by rw [rK_Na, if_neg hne]; exact M0.2.2.2.1⟩, ?_⟩
  rintro S5 rfl
  have M1 := mkm_1 M0 hp h1
  rintro q2 h2 S8 rfl S9 rfl
  have M2 := mkm_1 M1 hp h2
  rintro q3 h3 S12 rfl S13 rfl
  have M3 := mkm_1 M2 hp h3
  rintro q4 h4 S16 rfl S17 rfl
  have M4 := mkm_1 M3 hp h4
  rintro q5 h5 S20 rfl S21 rfl
  have M5 := mkm_1 M4 hp h5
  rintro S22 rfl S23 rfl
  have M6 := mkm_I (f := 29) (v := 1079) (mkm_I (f := 28) (v := 480) M5 hp) hp
  rintro q6 h6 S26 rfl S27 rfl
  have M7 := mkm_1 M6 hp h6
  rintro q7 h7 S30 rfl S31 rfl
  have M8 := mkm_1 M7 hp h7
  rintro q8 h8 S34 rfl S35 rfl
  have M9 := mkm_1 M8 hp h8
  rintro q9 h9 S38 rfl S39 rfl
  have M10 := mkm_1 M9 hp h9
  rintro q10 h10 S42 rfl S43 rfl
  have M11 := mkm_1 M10 hp h10
  rintro q11 h11 S46 rfl S47 rfl
  have M12 := mkm_1 M11 hp h11
  rintro q12 h12 S50 rfl S51 rfl
  have M13 := mkm_1 M12 hp h12
  refine hQ _ _ ?_ M13 (fun f => ?_)
  · rfl
  · rw [mI_ms1, mI_ms1, mI_ms1, mI_ms1, mI_ms1, mI_ms1, mI_ms1, rI_I, rI_I, mI_ms1, mI_ms1, mI_ms1, mI_ms1, mI_ms1, rI_No, if_pos rfl]
    by_cases a : f = 29
    · rw [if_pos ⟨a, rfl⟩, if_pos a]
    · rw [if_neg (fun e => a e.1), if_neg a]
      by_cases b : f = 28
      · rw [if_pos ⟨b, rfl⟩, if_pos b]
      · rw [if_neg (fun e => b e.1), if_neg b]
theorem ag_Nj {S S1 : mmS} (h : agr S S1) {q n : Nat} (hq : q ∉ mL S) : agr S (sNj S1 q n) := by
  refine ⟨fun a ha => List.mem_append_left _ (h.1 a ha), fun a ha => ?_⟩
  have hne : ¬ a = q := fun e => hq (e ▸ ha)
  obtain ⟨b1, b2, b3, b4, b5, b6, b7⟩ := h.2 a ha
  refine ⟨?_, b2, b3, ?_, b5, b6, fun i => ?_⟩
  · show va_up (mK S1) q 9 a = _
    unfold va_up; rw [if_neg hne]; exact b1
  · show va_up (mN S1) q n a = _
    unfold va_up; rw [if_neg hne]; exact b4
  · show mrw (mJ S1) q (fun _ => 0) a i = _
    unfold mrw; rw [if_neg hne]; exact b7 i
/-- the memory behind the constructors -/
def h0 : hC := (fun _ => 0, fun f _ => if f = 21 then 480 else if f = 22 then 1079 else 0, fun _ _ _ => 0, fun _ _ => 0)
def m0 : hM := (fun f => if f = 29 then 1079 else if f = 28 then 480 else 0, fun _ _ => 0)
/-- the place of an address in the order of making: rater, 5 lists, model, 12 rows, out -/
def plc (r i : Nat) : Nat := if r = 9 then 1 + i else if r = 12 then 6 else if r = 11 then 7 + i else if r = 13 then 19 else 0
def lab (n : Nat) : Nat × Nat := if n = 0 then (10, 0) else if n < 6 then (9, n - 1) else if n = 6 then (12, 0) else if n < 19 then (11, n - 7) else (13, 0)
theorem lab_plc {r i : Nat} (hr : r ≤ 13) (hi : i < lv h0 r) : lab (plc r i) = (r, i) ∧ plc r i < 20 := by
  have hv : lv h0 r = if r = 9 then 5 else if r = 11 then 12 else if r < 9 then 0 else 1 := by
    show lvN (fun _ => 0) r = _
    have : r = 0 ∨ r = 1 ∨ r = 2 ∨ r = 3 ∨ r = 4 ∨ r = 5 ∨ r = 6 ∨ r = 7 ∨ r = 8 ∨ r = 9 ∨ r = 10 ∨ r = 11 ∨ r = 12 ∨ r = 13 := by omega
    rcases this with e | e | e | e | e | e | e | e | e | e | e | e | e | e <;> subst e <;> rfl
  rw [hv] at hi
  by_cases e9 : r = 9
  · subst e9
    rw [if_pos rfl] at hi
    have : i = 0 ∨ i = 1 ∨ i = 2 ∨ i = 3 ∨ i = 4 := by omega
    rcases this with e | e | e | e | e <;> subst e <;> decide
  · rw [if_neg e9] at hi
    by_cases e11 : r = 11
    · subst e11
      rw [if_pos rfl] at hi
      have : i = 0 ∨ i = 1 ∨ i = 2 ∨ i = 3 ∨ i = 4 ∨ i = 5 ∨ i = 6 ∨ i = 7 ∨ i = 8 ∨ i = 9 ∨ i = 10 ∨ i = 11 := by omega
      rcases this with e | e | e | e | e | e | e | e | e | e | e | e <;> subst e <;> decide
    · rw [if_neg e11] at hi
      by_cases e : r < 9
      · rw [if_pos e] at hi; omega
      · rw [if_neg e] at hi
        have e0 : i = 0 := by omega
        subst e0
        have : r = 10 ∨ r = 12 ∨ r = 13 := by omega
        rcases this with e | e | e <;> subst e <;> decide
theorem live0 {r i : Nat} (hr : r ≤ 13) (hi : i < lv h0 r) : (r = 9 ∧ i < 5) ∨ (r = 11 ∧ i < 12) ∨ (r = 10 ∧ i = 0) ∨ (r = 12 ∧ i = 0) ∨ (r = 13 ∧ i = 0) := by
  have : r = 0 ∨ r = 1 ∨ r = 2 ∨ r = 3 ∨ r = 4 ∨ r = 5 ∨ r = 6 ∨ r = 7 ∨ r = 8 ∨ r = 9 ∨ r = 10 ∨ r = 11 ∨ r = 12 ∨ r = 13 := by omega
  rcases this with e | e | e | e | e | e | e | e | e | e | e | e | e | e <;> subst e
  · exact absurd hi (Nat.not_lt_zero i)
  · exact absurd hi (Nat.not_lt_zero i)
  · exact absurd hi (Nat.not_lt_zero i)
  · exact absurd hi (Nat.not_lt_zero i)
  · exact absurd hi (Nat.not_lt_zero i)
  · exact absurd hi (Nat.not_lt_zero i)
  · exact absurd hi (Nat.not_lt_zero i)
  · exact absurd hi (Nat.not_lt_zero i)
  · exact absurd hi (Nat.not_lt_zero i)
  · exact .inl ⟨rfl, hi⟩
  · exact .inr (.inr (.inl ⟨rfl, Nat.lt_one_iff.mp hi⟩))
  · exact .inr (.inl ⟨rfl, hi⟩)
  · exact .inr (.inr (.inr (.inl ⟨rfl, Nat.lt_one_iff.mp hi⟩)))
  · exact .inr (.inr (.inr (.inr ⟨rfl, Nat.lt_one_iff.mp hi⟩)))
theorem fr_e {f : Nat} (hf : f ≤ 22) : fr f = 1 ∨ fr f = 3 ∨ fr f = 2 ∨ fr f = 0 ∨ (fr f = 10 ∧ (f = 21 ∨ f = 22)) := by
  unfold fr
  repeat (first | omega | split)
theorem rr_e {f : Nat} (hf : f ≤ 24) : rr f = 3 ∨ rr f = 2 ∨ rr f = 0 ∨ (rr f = 10 ∧ 8 ≤ f ∧ f < 13) ∨ (rr f = 12 ∧ 13 ≤ f) := by
  unfold rr
  repeat (first | omega | split)
theorem make_RP {z : Nat × Nat} {q1 q5 q9 : Nat} {ls rs : List Nat} {S : mmS} (hL : mL S = q1 :: (ls ++ q5 :: (rs ++ [q9]))) (hn : (mL S).Nodup) (h5 : ls.length = 5) (h12 : rs.length = 12) (k1 : mK S q1 = 4) (i1 : mI S 21 q1 = 480) (i2 : mI S 22 q1 = 1079) (hl : ∀ i (hi : i < ls.length), mK S ls[i] = 6 ∧ mI S 31 ls[i] = 0 ∧ mR S 25 ls[i] = some z.1 ∧ mR S (8 + i) q1 = some ls[i]) (k5 : mK S q5 = 5) (i5 : ∀ f, mI S f q5 = if f = 29 then 1079 else if f = 28 then 480 else 0) (hr : ∀ i (hi : i < rs.length), mK S rs[i] = 7 ∧ mN S rs[i] = ln i ∧ (∀ j, mA S rs[i] j = 0) ∧ mR S (13 + i) q5 = some rs[i]) (k9 : mK S q9 = 9) (n9 : mN S q9 = 1) (j9 : mJ S q9 0 = 0) : ∃ A w, A 10 0 = q1 ∧ A 12 0 = q5 ∧ A 13 0 = q9 ∧ RP z A w h0 m0 0 S := by
  have hlen : (mL S).length = 20 := by rw [hL]; simp [h5, h12]
  obtain ⟨A, hA⟩ : ∃ A : Nat → Nat → Nat, ∀ r i, A r i = (mL S)[plc r i]?.getD 0 := ⟨_, fun _ _ => rfl⟩
  have a10 : A 10 0 = q1 := by rw [hA, hL]; rfl
  have a9 : ∀ j (hj : j < ls.length), A 9 j = ls[j] := by
    intro j hj
    rw [hA, hL]
    show (q1 :: (ls ++ q5 :: (rs ++ [q9])))[1 + j]?.getD 0 = _
    rw [Nat.add_comm, List.getElem?_cons_succ, List.getElem?_append_left hj, List.getElem?_eq_getElem hj]
    rfl
  have a12 : A 12 0 = q5 := by
    rw [hA, hL]
    show (q1 :: (ls ++ q5 :: (rs ++ [q9])))[5 + 1]?.getD 0 = _
    rw [List.getElem?_cons_succ, List.getElem?_append_right (by omega), h5]
    rfl
  have a11 : ∀ f (hf : f < rs.length), A 11 f = rs[f] := by
    intro f hf
    rw [hA, hL]
    show (q1 :: (ls ++ q5 :: (rs ++ [q9])))[7 + f]?.getD 0 = _
    have e : 7 + f = (6 + f) + 1 := by omega
    have e2 : 6 + f - ls.length = f + 1 := by omega
    rw [e, List.getElem?_cons_succ, List.getElem?_append_right (by omega), e2, List.getElem?_cons_succ, List.getElem?_append_left hf, List.getElem?_eq_getElem hf]
    rfl
  have a13 : A 13 0 = q9 := by
    rw [hA, hL]
    show (q1 :: (ls ++ q5 :: (rs ++ [q9])))[18 + 1]?.getD 0 = _
    have e2 : 18 - ls.length = 12 + 1 := by omega
    rw [List.getElem?_cons_succ, List.getElem?_append_right (by omega), e2, List.getElem?_cons_succ, List.getElem?_append_right (by omega), h12]
    rfl
  refine ⟨A, fun a => lab (ixo (mL S) a), a10, a12, a13, ?_, ?_, ?_, ?_, ?_, ?_, ?_, ?_⟩
  · intro r i hr' hi
    obtain ⟨p1, p2⟩ := lab_plc hr' hi
    have p3 : plc r i < (mL S).length := by omega
    have p4 : A r i = (mL S)[plc r i] := by rw [hA, List.getElem?_eq_getElem p3]; rfl
    refine ⟨by rw [p4]; exact List.getElem_mem p3, ?_, ?_⟩
    · rcases live0 hr' hi with ⟨e, g⟩ | ⟨e, g⟩ | ⟨e, g⟩ | ⟨e, g⟩ | ⟨e, g⟩ <;> subst e
      · rw [a9 i (by omega)]; exact (hl i (by omega)).1
      · rw [a11 i (by omega)]; exact (hr i (by omega)).1
      · subst g; rw [a10]; exact k1
      · subst g; rw [a12]; exact k5
      · subst g; rw [a13]; exact k9
    · show lab (ixo (mL S) (A r i)) = _
      rw [p4, ixo_get _ hn _ p3]
      exact p1
  · intro f i hf hi
    rcases fr_e hf with e | e | e | e | ⟨e, g⟩ <;> rw [e] at hi ⊢
    · exact absurd hi (Nat.not_lt_zero i)
    · exact absurd hi (Nat.not_lt_zero i)
    · exact absurd hi (Nat.not_lt_zero i)
    · exact absurd hi (Nat.not_lt_zero i)
    · have e0 : i = 0 := Nat.lt_one_iff.mp hi
      subst e0
      rw [a10]
      rcases g with g | g <;> subst g
      · exact i1
      · exact i2
  · intro f _ _
    rw [a12]
    exact i5 f
  · intro r i h4 h8 hi
    rcases live0 (by omega) hi with ⟨e, g⟩ | ⟨e, g⟩ | ⟨e, g⟩ | ⟨e, g⟩ | ⟨e, g⟩ <;> omega
  · intro f hf
    rw [a11 f (by omega)]
    exact ⟨(hr f (by omega)).2.1, fun j => (hr f (by omega)).2.2.1 j⟩
  · exact ⟨by rw [a13]; exact n9, by rw [a13]; exact j9⟩
  · intro f i hf hi
    rcases rr_e hf with e | e | e | ⟨e, g⟩ | ⟨e, g⟩ <;> rw [e] at hi ⊢
    · exact absurd hi (Nat.not_lt_zero i)
    · exact absurd hi (Nat.not_lt_zero i)
    · exact absurd hi (Nat.not_lt_zero i)
    · have e0 : i = 0 := Nat.lt_one_iff.mp hi
      subst e0
      have t1 : tr f = 9 := by unfold tr; repeat (first | omega | split)
      have t2 : ti h0 f 0 = f - 8 := by unfold ti; repeat (first | omega | split)
      rw [a10, t1, t2, a9 (f - 8) (by omega), ← (hl (f - 8) (by omega)).2.2.2]
      have e3 : 8 + (f - 8) = f := by omega
      rw [e3]
    · have e0 : i = 0 := Nat.lt_one_iff.mp hi
      subst e0
      have t1 : tr f = 11 := by unfold tr; repeat (first | omega | split)
      have t2 : ti h0 f 0 = f - 13 := by unfold ti; repeat (first | omega | split)
      rw [a12, t1, t2, a11 (f - 13) (by omega), ← (hr (f - 13) (by omega)).2.2.2]
      have e3 : 13 + (f - 13) = f := by omega
      rw [e3]
  · intro j hj
    rw [a9 j (by omega)]
    have g := hl j (by omega)
    exact ⟨g.2.1, z.1, g.2.2.1, .inl ⟨rfl, rfl⟩⟩
theorem LI0 : LI h0 m0 := by
  have no : ∀ i k, ¬ i < hN h0 k := fun i k => Nat.not_lt_zero i
  refine ⟨⟨?_, ?_, ?_, ?_, ?_, ?_⟩, ⟨?_, ?_, ?_, ?_, ?_, ?_, ?_, ?_, ?_, ?_, ?_⟩, ?_, ?_, ?_⟩
  · exact ⟨Nat.zero_le _, Nat.zero_le _, Nat.zero_le _, Nat.zero_le _, rfl, rfl, rfl, rfl, rfl⟩
  · exact fun t ht => absurd ht (no _ _)
  · exact fun t ht => absurd ht (no _ _)
  · exact fun t ht => absurd ht (no _ _)
  · exact fun t ht => absurd ht (no _ _)
  · exact ⟨fun k hk => absurd hk (no _ _), fun k _ hk => absurd hk (no _ _), fun k k' _ hk => absurd hk (no _ _), fun i hi => absurd hi (no _ _), fun f => rfl⟩
  · rfl
  · rfl
  · rfl
  · rfl
  · rfl
  · rfl
  · exact fun t ht => absurd ht (no _ _)
  · exact fun t ht => absurd ht (no _ _)
  · exact fun t ht => absurd ht (no _ _)
  · exact fun t ht => absurd ht (no _ _)
  · exact fun t ht => absurd ht (no _ _)
  · exact fun t ht => absurd ht (no _ _)
  · exact fun t ht => absurd ht (no _ _)
  · exact fun t ht => absurd ht (no _ _)
theorem law_all {z : Nat × Nat} {L : Nat} (hL : L ≤ 3072) (xs : Nat → Int32) : wp_L_law z L xs mm0 := by
  unfold wp_L_law
  rintro q1 h1 S3 rfl
  have M0 : mkl z q1 [] (sNo mm0 q1 4) := ⟨rfl, by simp, by rw [rK_No, if_pos rfl], fun i hi => absurd hi (Nat.not_lt_zero i)⟩
  refine wp_rater M0 (fun ls S4' h5 LSx => ?_)
  obtain ⟨l1, l2, l3, l4⟩ := LSx
  rintro q5 hq5 S7 rfl
  have hq5' : q5 ∉ mL S4' := hq5
  refine wp_model hq5 (by rw [rL_I, rL_I, l1]; exact l2) (fun rs S8 h12 M i5 => ?_)
  obtain ⟨n1, n2, n3, n4, n5⟩ := M
  rintro q9 hq9 S11 rfl v12 rfl
  have n1' : mL S8 = q1 :: ls ++ q5 :: rs := by rw [n1, rL_I, rL_I, l1]
  have m1 : q1 ∈ mL S8 := by rw [n1']; exact List.mem_cons_self
  have ml : ∀ i (hi : i < ls.length), ls[i] ∈ mL S8 := fun i hi => by rw [n1']; exact List.mem_append_left _ (List.mem_cons_of_mem _ (List.getElem_mem hi))
  have m5 : q5 ∈ mL S8 := by rw [n1']; exact List.mem_append_right _ List.mem_cons_self
  have mr : ∀ i (hi : i < rs.length), rs[i] ∈ mL S8 := fun i hi => by rw [n1']; exact List.mem_append_right _ (List.mem_cons_of_mem _ (List.getElem_mem hi))
  have t1 : q1 ∈ mL (sI (sI S4' 21 q1 480) 22 q1 1079) := by rw [rL_I, rL_I, l1]; exact List.mem_cons_self
  have tl : ∀ i (hi : i < ls.length), ls[i] ∈ mL (sI (sI S4' 21 q1 480) 22 q1 1079) := fun i hi => by rw [rL_I, rL_I, l1]; exact List.mem_cons_of_mem _ (List.getElem_mem hi)
  have ag : agr S8 (sNj S8 q9 1) := ag_Nj (ag_refl S8) hq9
  have b1 := ag.2 q1 m1
  have c1 := n2.2 q1 t1
  have b5 := ag.2 q5 m5
  have hnd : (mL (sNj S8 q9 1)).Nodup := nodup_push n3 hq9
  have hLx : mL (sNj S8 q9 1) = q1 :: (ls ++ q5 :: (rs ++ [q9])) := by
    show mL S8 ++ [q9] = _
    rw [n1']; simp
  obtain ⟨A, w, a10, a12, a13, R⟩ := make_RP (z := z) hLx hnd h5 h12 (by rw [b1.1, c1.1]; exact l3) (by rw [b1.2.1, c1.2.1, rI_I, if_neg (fun e => absurd e.1 (by decide)), rI_I, if_pos ⟨rfl, rfl⟩]) (by rw [b1.2.1, c1.2.1, rI_I, if_pos ⟨rfl, rfl⟩]) (fun i hi => by
      have bi := ag.2 _ (ml i hi)
      have ci := n2.2 _ (tl i hi)
      have g := l4 i hi
      refine ⟨by rw [bi.1, ci.1]; exact g.1, ?_, by rw [bi.2.2.1, ci.2.2.1]; exact g.2.2.1, by rw [b1.2.2.1, c1.2.2.1]; exact g.2.2.2⟩
      rw [bi.2.1, ci.2.1, rI_I, if_neg (fun e => absurd e.1 (by decide)), rI_I, if_neg (fun e => absurd e.1 (by decide))]
      exact g.2.1) (by rw [b5.1]; exact n4) (fun f => by rw [b5.2.1]; exact i5 f) (fun i hi => by
      have bi := ag.2 _ (mr i hi)
      have g := n5 i hi
      exact ⟨by rw [bi.1]; exact g.1, by rw [bi.2.2.2.1]; exact g.2.1, fun j => by rw [bi.2.2.2.2.1]; exact g.2.2.1 j, by rw [b5.2.2.1]; exact g.2.2.2⟩) (va_up_self _ _ _) (va_up_self _ _ _) (by show mrw (mJ S8) q9 (fun _ => 0) q9 0 = 0; unfold mrw; rw [if_pos rfl])
  have := law_loop hL xs 513 0 A w h0 m0 0 _ R LI0 (Nat.zero_le _) (by omega)
  rw [a10, a12, a13] at this
  exact this
