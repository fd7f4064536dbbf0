theorem shr_n : ∀ n : Nat, n ≤ 60 → nI n >>> ((1 : Int32) &&& 31) = nI (n / 2) := by decide
theorem state_cpy (f g : Nat → Option Nat) (n : Nat) {k : Nat} (hk : k < n) : va_cpy f g 0 0 n k = f k := by
  unfold va_cpy
  rw [if_pos ⟨Nat.zero_le _, by omega⟩]
  congr 1
  omega
theorem ob_live {z A w h m u S} (R : RP z A w h m u S) {r i : Nat} (hr : r ≤ 3) (hi : i < lv h r) : mOb S (A r i) := by
  obtain ⟨h1, h2, _⟩ := R.1 r i (by omega) hi
  refine ⟨h1, ?_⟩
  rw [h2]
  have : r = 0 ∨ r = 1 ∨ r = 2 ∨ r = 3 := by omega
  rcases this with e | e | e | e <;> subst e <;> decide
/-- more room for a list that is full -/
theorem ru_grow {z A w h m u S} (R : RP z A w h m u S) {j : Nat} (hj : j < 5) {n : Nat} (hn : hN h (5 + j) = n) (hn60 : n ≤ 60) (hE : ∀ k, k < n → hV h (5 + j) k < lv h (er j)) (hfull : ∀ b, mR S 25 (A 9 j) = some b → b ≠ z.1 → mN S b = n) {Q : Nat → mmS → Prop} {X : String → mmS → Prop}
    (hQ : ∀ q w' S', RP z A w' h m u S' → mR S' 25 (A 9 j) = some q → q ≠ z.1 → n < mN S' q → Q q S') : wp_Jx4a65c_grow_d5877 z S (A 9 j) Q X := by
  obtain ⟨h1, b, h2, h3⟩ := R.2.2.2.2.2.2.2 j hj
  have hm : A 9 j ∈ mL S ∧ mK S (A 9 j) = 6 := ⟨(R.1 9 j (by decide) hj).1, (R.1 9 j (by decide) hj).2.1⟩
  rw [hn] at h1
  have her : er j ≤ 3 := by unfold er; split <;> omega
  unfold wp_Jx4a65c_grow_d5877
  refine ⟨hm, ?_⟩
  rw [h1, na1]
  unfold wp_Jx4a65c_grow_92f84
  refine ⟨hm, b, h2, ?_⟩
  rcases h3 with ⟨h3, h30⟩ | ⟨h3, h4, h5, h6, h7, h8, h9⟩
  · have n0 : n = 0 := by omega
    subst n0
    refine ⟨.inl h3, ?_⟩
    rintro v5 rfl
    have e0 : mLen z S b = 0 := if_pos h3
    rw [e0]
    refine ⟨fun g => absurd g (by decide), fun _ => ⟨b, h2, fun _ => ?_, fun g => absurd h3 g⟩⟩
    refine ⟨by decide, ?_⟩
    intro q hq hz S10 e10 S12 e12
    have e : (if (10 : Int32) < nI (0 + 1) then nI (0 + 1) else (10 : Int32)).toNatClampNeg = 10 := by decide
    rw [e] at e10
    have RR := RP_newrow (row := fun _ => none) R hj hq hz (c := 10) (by omega) (by omega) (fun k hk => by omega)
    have es : sR (sQr (sNq S q 10) q (fun _ => none)) 25 (A 9 j) (some q) = S12 := by
      rw [e12, e10]
      have : mrw (mrw (mQ S) q (fun _ => none)) q (fun _ => none) = mrw (mQ S) q (fun _ => (none : Option Nat)) := by
        funext a i; unfold mrw; split <;> rfl
      show (_, _, _, _, _, _, mrw (mrw (mQ S) q (fun _ => none)) q (fun _ => none), _) = (_, _, _, _, _, _, mrw (mQ S) q (fun _ => none), _)
      rw [this]; rfl
    rw [es] at RR
    refine hQ q _ S12 RR ?_ hz ?_
    · rw [← es]; show mu2 _ 25 (A 9 j) (some q) 25 (A 9 j) = _; unfold mu2; rw [if_pos ⟨rfl, rfl⟩]
    · rw [← es]; show 0 < va_up (mN S) q 10 q; rw [va_up_self]; omega
  · have hcap := hfull b h2 h3
    refine ⟨.inr ⟨h3, h4, h5⟩, ?_⟩
    rintro v5 rfl
    have e0 : mLen z S b = nI n := by unfold mLen; rw [if_neg h3, hcap]
    rw [e0]
    have main : bk_Jx4a65c_grow_92f84_20 z Q X S (A 9 j) (nI (n + 1)) (nI n) := by
      unfold bk_Jx4a65c_grow_92f84_20 wp_J8_newLength_cabcc
      have e1 : nI (n + 1) - nI n = nI 1 := by rw [pk_sub (by omega)]; congr 1; omega
      have e2 : nI n + (if nI (n + 1) - nI n < nI n >>> ((1 : Int32) &&& 31) then nI n >>> ((1 : Int32) &&& 31) else nI (n + 1) - nI n) = nI (n + (if 1 < n / 2 then n / 2 else 1)) := by
        rw [e1, shr_n n hn60]
        by_cases g : 1 < n / 2
        · rw [if_pos (nI_lt g (by omega)), if_pos g, nI_add]
        · rw [if_neg (nI_nlt (by omega) (by omega)), if_neg g, nI_add]
      rintro v1 rfl
      rw [e2]
      generalize hc : n + (if 1 < n / 2 then n / 2 else 1) = c
      have hcn : n < c ∧ c ≤ 128 := by rw [← hc]; split <;> omega
      refine ⟨fun g => absurd g (nI_nle (by omega) (by omega)), fun _ => ⟨fun g => absurd g (show ¬ nI 2147483639 < nI c from nI_nlt (by omega) (by omega)), fun _ => ⟨hm, b, h2, ?_⟩⟩⟩
      unfold wp_J7_copyOf_1904c
      refine ⟨⟨h4, h5⟩, ?_⟩
      unfold wp_J7_copyOf_6403c
      refine ⟨fun g => absurd rfl g, fun _ => ⟨⟨nI_pos (by omega), by rw [ncl (by omega)]; exact hcn.2⟩, ?_⟩⟩
      intro q hq hz S3 e3
      rw [ncl (by omega)] at e3
      have hbq : ¬ b = q := fun e => hq (e ▸ h4)
      have hb3 : b ∈ mL S3 := by rw [e3]; exact List.mem_append_left _ h4
      have hk3 : mK S3 b = 8 := by rw [e3]; show va_up (mK S) q 8 b = 8; unfold va_up; rw [if_neg hbq]; exact h5
      have hn3 : mN S3 b = n := by rw [e3]; show va_up (mN S) q c b = n; unfold va_up; rw [if_neg hbq]; exact hcap
      have hnq : mN S3 q = c := by rw [e3]; exact va_up_self _ _ _
      have hq3 : ∀ k, mQ S3 b k = mQ S b k := by
        intro k; rw [e3]; show mrw (mQ S) q (fun _ => none) b k = _; unfold mrw; rw [if_neg hbq]
      have el : mLen z S3 b = nI n := by unfold mLen; rw [if_neg h3, hn3]
      have emn : (if nI c < nI n then nI c else nI n) = nI n := if_neg (nI_nlt (by omega) (by omega))
      rw [el, emn, ncl (by omega), lit_0]
      refine ⟨.inr ⟨h3, hb3, hk3⟩, ⟨hb3, hk3⟩, ⟨by decide, by decide, nI_pos (by omega), by omega, by omega⟩, ?_, ?_⟩
      · intro i hi y hy
        rw [hq3, Nat.zero_add, h9 i (by omega)] at hy
        have hy := (Option.some.inj hy).symm
        subst hy
        have ho := ob_live R her (hE i hi)
        refine ⟨by rw [e3]; exact List.mem_append_left _ ho.1, ?_⟩
        rw [e3]
        show va_up (mK S) q 8 _ < 7
        unfold va_up
        rw [if_neg (fun e => hq (by rw [← e]; exact ho.1))]
        exact ho.2
      · intro S8 e8
        have hk6 : mK S8 (A 9 j) = 6 := by
          rw [e8, e3]; show va_up (mK S) q 8 (A 9 j) = 6
          unfold va_up; rw [if_neg (fun e => hq (by rw [← e]; exact hm.1))]; exact hm.2
        refine ⟨⟨by rw [e8, e3]; exact List.mem_append_left _ hm.1, hk6⟩, ?_⟩
        intro S9 e9
        have RR := RP_newrow (row := va_cpy (mQ S3 b) (mQ S3 q) 0 0 n) R hj hq hz (c := c) (by omega) (by omega) (fun k hk => by
          rw [state_cpy _ _ _ (by omega), hq3]; exact h9 k hk)
        have es : sR (sQr (sNq S q c) q (va_cpy (mQ S3 b) (mQ S3 q) 0 0 n)) 25 (A 9 j) (some q) = S9 := by
          rw [e9, e8, ← e3]
        rw [es] at RR
        refine hQ q _ S9 RR ?_ hz ?_
        · rw [← es]; show mu2 _ 25 (A 9 j) (some q) 25 (A 9 j) = _; unfold mu2; rw [if_pos ⟨rfl, rfl⟩]
        · rw [← es]; show n < va_up (mN S) q c q; rw [va_up_self]; omega
    by_cases hn0 : n = 0
    · refine ⟨fun _ => main, fun _ => ⟨b, h2, fun g => absurd g h3, fun _ => main⟩⟩
    · exact ⟨fun _ => main, fun g => absurd (show (0 : Int32) < nI n from nI_lt (a := 0) (by omega) (by omega)) g⟩
theorem sQ_row (S : mmS) (b i : Nat) (v : Option Nat) : sQ S b i v = sQr S b (fun k => if k = i then v else mQ S b k) := by
  have : mu2 (mQ S) b i v = mrw (mQ S) b (fun k => if k = i then v else mQ S b k) := by
    funext a k
    unfold mu2 mrw
    by_cases e : a = b
    · subst e
      by_cases e2 : k = i
      · rw [if_pos ⟨rfl, e2⟩, if_pos rfl]; exact (if_pos e2).symm
      · rw [if_neg (fun q => e2 q.2), if_pos rfl]; exact (if_neg e2).symm
    · rw [if_neg (fun q => e q.1), if_neg e]
  unfold sQ sQr
  rw [this]
theorem sQr_sQr (S : mmS) (b : Nat) (r r' : Nat → Option Nat) : sQr (sQr S b r) b r' = sQr S b r' := by
  have : mrw (mrw (mQ S) b r) b r' = mrw (mQ S) b r' := by
    funext a k
    unfold mrw
    by_cases e : a = b
    · rw [if_pos e, if_pos e]
    · rw [if_neg e, if_neg e, if_neg e]
  show (_, _, _, _, _, _, mrw (mrw (mQ S) b r) b r', _) = (_, _, _, _, _, _, mrw (mQ S) b r', _)
  rw [this]; rfl
theorem data_of {z A w h m u S} (R : RP z A w h m u S) {j b : Nat} (hj : j < 5) (hb : mR S 25 (A 9 j) = some b) (hz : b ≠ z.1) : b ∈ mL S ∧ mK S b = 8 ∧ mN S b ≤ 128 ∧ hN h (5 + j) ≤ mN S b ∧ ∀ k, k < hN h (5 + j) → mQ S b k = some (A (er j) (hV h (5 + j) k)) := by
  obtain ⟨h1, b', h2, h3⟩ := R.2.2.2.2.2.2.2 j hj
  have e : b' = b := by rw [hb] at h2; exact (Option.some.inj h2).symm
  subst e
  rcases h3 with h3 | ⟨h3, h4, h5, h6, h7, h8, h9⟩
  · exact absurd h3.1 hz
  · exact ⟨h4, h5, h8, h7, h9⟩
/-- append -/
theorem ru_add {z A w h m u S} (R : RP z A w h m u S) {j i : Nat} (hj : j < 5) {n : Nat} (hn : hN h (5 + j) = n) (hn60 : n ≤ 60) (hE : ∀ k, k < n → hV h (5 + j) k < lv h (er j)) (hi : i < lv h (er j)) {Q : Int32 → mmS → Prop} {X : String → mmS → Prop}
    (hQ : ∀ w' S', RP z A w' (hL h j (fun k => if k = n then i else hV h (5 + j) k) (n + 1)) m u S' → Q 1 S') : wp_Jx4a65c_add_9ea2d z S (A 9 j) (A (er j) i) Q X := by
  have hm : A 9 j ∈ mL S ∧ mK S (A 9 j) = 6 := ⟨(R.1 9 j (by decide) hj).1, (R.1 9 j (by decide) hj).2.1⟩
  have her : er j ≤ 3 := by unfold er; split <;> omega
  unfold wp_Jx4a65c_add_9ea2d
  refine ⟨hm, ?_⟩
  intro S2 e2
  have R2 : RP z A w h m u S2 := by rw [e2]; exact RP_s30 R
  clear e2 R hm
  have hm : A 9 j ∈ mL S2 ∧ mK S2 (A 9 j) = 6 := ⟨(R2.1 9 j (by decide) hj).1, (R2.1 9 j (by decide) hj).2.1⟩
  obtain ⟨h1, b, h2, h3⟩ := R2.2.2.2.2.2.2.2 j hj
  rw [hn] at h1
  refine ⟨b, h2, ?_⟩
  rw [h1]
  have bk : ∀ q w' S', RP z A w' h m u S' → mR S' 25 (A 9 j) = some q → q ≠ z.1 → n < mN S' q → bk_Jx4a65c_add_72be8_11 z (fun S5 => Q 1 S5) X S' (A 9 j) (A (er j) i) q (nI n) := by
    intro q w' S' R' hb hz hlt
    obtain ⟨d1, d2, d3, d4, d5⟩ := data_of R' hj hb hz
    have hm' : A 9 j ∈ mL S' ∧ mK S' (A 9 j) = 6 := ⟨(R'.1 9 j (by decide) hj).1, (R'.1 9 j (by decide) hj).2.1⟩
    unfold bk_Jx4a65c_add_72be8_11
    refine ⟨⟨d1, d2⟩, vin_n hlt (by omega), ob_live R' her hi, ?_⟩
    rintro S4 rfl
    refine ⟨hm', ?_⟩
    rintro S6 rfl
    rw [ncl (by omega), na1, sQ_row]
    refine hQ w' _ (RP_list R' hj hb hz hlt (fun k hk => ?_) hn)
    show (if k = n then some (A (er j) i) else mQ S' q k) = _
    by_cases e : k = n
    · rw [if_pos e, if_pos e]
    · rw [if_neg e, if_neg e]
      exact d5 k (by omega)
  unfold wp_Jx4a65c_add_72be8
  rcases h3 with ⟨h3, h30⟩ | ⟨h3, h4, h5, h6, h7, h8, h9⟩
  · have n0 : n = 0 := by omega
    subst n0
    have e0 : mLen z S2 b = 0 := if_pos h3
    refine ⟨.inl h3, fun g => absurd (by rw [e0]; rfl) g, fun _ => ⟨hm, ?_⟩⟩
    exact ru_grow R2 hj hn (by omega) hE (fun b' hb' hz => by rw [h2] at hb'; exact absurd ((Option.some.inj hb').symm.trans h3) hz) bk
  · have e0 : mLen z S2 b = nI (mN S2 b) := if_neg h3
    refine ⟨.inr ⟨h3, h4, h5⟩, fun g => ?_, fun g => ⟨hm, ?_⟩⟩
    · refine bk b w S2 R2 h2 h3 ?_
      rw [e0] at g
      have : n ≠ mN S2 b := fun e => g (by rw [e])
      omega
    · rw [e0] at g
      have g := (nI_eq (by omega) (by omega)).mp g
      exact ru_grow R2 hj hn (by omega) hE (fun b' hb' hz => by rw [h2] at hb'; rw [← Option.some.inj hb']; exact g.symm) bk
/-- insert -/
theorem ru_ins {z A w h m u S} (R : RP z A w h m u S) {j i p : Nat} (hj : j < 5) {n : Nat} (hn : hN h (5 + j) = n) (hn60 : n ≤ 60) (hp : p ≤ n) (hE : ∀ k, k < n → hV h (5 + j) k < lv h (er j)) (hi : i < lv h (er j)) {Q : mmS → Prop} {X : String → mmS → Prop}
    (hQ : ∀ w' S', RP z A w' (hL h j (fun k => if k < p then hV h (5 + j) k else if k = p then i else hV h (5 + j) (k - 1)) (n + 1)) m u S' → Q S') : wp_Jx4a65c_add_7a177 z S (A 9 j) (nI p) (A (er j) i) Q X := by
  have hm : A 9 j ∈ mL S ∧ mK S (A 9 j) = 6 := ⟨(R.1 9 j (by decide) hj).1, (R.1 9 j (by decide) hj).2.1⟩
  have her : er j ≤ 3 := by unfold er; split <;> omega
  have h1' := (R.2.2.2.2.2.2.2 j hj).1
  rw [hn] at h1'
  unfold wp_Jx4a65c_add_7a177
  refine ⟨hm, ?_⟩
  unfold wp_Jx4a65c_rangeCheckForAdd_d00df
  rw [h1']
  refine ⟨hm, fun g => absurd g (nI_nlt hp (by omega)), fun _ => ⟨fun _ => ⟨hm, ?_⟩, fun g => absurd (Int32.not_lt.mp (nI_pos (by omega))) g⟩⟩
  intro S2 e2
  have R2 : RP z A w h m u S2 := by rw [e2]; exact RP_s30 R
  clear e2 R hm h1'
  have hm : A 9 j ∈ mL S2 ∧ mK S2 (A 9 j) = 6 := ⟨(R2.1 9 j (by decide) hj).1, (R2.1 9 j (by decide) hj).2.1⟩
  obtain ⟨h1, b, h2, h3⟩ := R2.2.2.2.2.2.2.2 j hj
  rw [hn] at h1
  rintro v5 rfl
  refine ⟨b, h2, ?_⟩
  rw [h1]
  have bk : ∀ q w' S', RP z A w' h m u S' → mR S' 25 (A 9 j) = some q → q ≠ z.1 → n < mN S' q → bk_Jx4a65c_add_7a177_38 z Q X S' (A 9 j) (nI p) (A (er j) i) (nI n) q := by
    intro q w' S' R' hb hz hlt
    obtain ⟨d1, d2, d3, d4, d5⟩ := data_of R' hj hb hz
    have hm' : A 9 j ∈ mL S' ∧ mK S' (A 9 j) = 6 := ⟨(R'.1 9 j (by decide) hj).1, (R'.1 9 j (by decide) hj).2.1⟩
    unfold bk_Jx4a65c_add_7a177_38
    rw [pk_sub hp, na1, ncl (by omega), ncl (by omega), ncl (by omega), na1]
    refine ⟨⟨d1, d2⟩, ⟨nI_pos (by omega), nI_pos (by omega), nI_pos (by omega), by omega, by omega⟩, ?_, ?_⟩
    · intro k hk y hy
      rw [d5 _ (by omega)] at hy
      have hy := (Option.some.inj hy).symm
      subst hy
      exact ob_live R' her (hE _ (by omega))
    · rintro S3 rfl
      refine ⟨vin_n (show p < mN S' q by omega) (show mN S' q < _ by omega), ob_live R' her hi, ?_⟩
      rintro S7 rfl
      refine ⟨hm', ?_⟩
      rintro S9 rfl
      rw [sQ_row, sQr_sQr]
      refine hQ w' _ (RP_list R' hj hb hz hlt (fun k hk => ?_) hn)
      show (if k = p then some (A (er j) i) else mrw (mQ S') q (va_cpy (mQ S' q) (mQ S' q) p (p + 1) (n - p)) q k) = _
      unfold mrw va_cpy
      rw [if_pos rfl]
      by_cases e : k = p
      · rw [if_pos e, if_neg (by omega), if_pos e]
      · rw [if_neg e]
        by_cases e2 : k < p
        · rw [if_pos e2, if_neg (by omega)]
          exact d5 k (by omega)
        · rw [if_neg e2, if_neg e, if_pos ⟨by omega, by omega⟩]
          have e3 : p + (k - (p + 1)) = k - 1 := by omega
          rw [e3]
          exact d5 _ (by omega)
  rcases h3 with ⟨h3, h30⟩ | ⟨h3, h4, h5, h6, h7, h8, h9⟩
  · have n0 : n = 0 := by omega
    subst n0
    have e0 : mLen z S2 b = 0 := if_pos h3
    refine ⟨.inl h3, fun g => absurd (by rw [e0]; rfl) g, fun _ => ?_⟩
    exact ru_grow R2 hj hn (by omega) hE (fun b' hb' hz => by rw [h2] at hb'; exact absurd ((Option.some.inj hb').symm.trans h3) hz) bk
  · have e0 : mLen z S2 b = nI (mN S2 b) := if_neg h3
    refine ⟨.inr ⟨h3, h4, h5⟩, fun g => ?_, fun g => ?_⟩
    · refine bk b w S2 R2 h2 h3 ?_
      rw [e0] at g
      have : n ≠ mN S2 b := fun e => g (by rw [e])
      omega
    · rw [e0] at g
      have g := (nI_eq (by omega) (by omega)).mp g
      exact ru_grow R2 hj hn (by omega) hE (fun b' hb' hz => by rw [h2] at hb'; rw [← Option.some.inj hb']; exact g.symm) bk
