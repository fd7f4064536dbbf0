/-! the rating as mathematics, over a configuration c -/
def nb (x : Int32) (B : Nat) : Prop := ∃ k, k ≤ B ∧ x = nI k
def dy (c : hC) (i : Nat) : Int32 := hG c 7 i / 1440
def tfo (c : hC) (i : Nat) : Nat := hV c 2 (hV c 0 i)
def aco (c : hC) (i : Nat) : Nat := hV c 1 (hV c 0 i)
def zo (c : hC) (i : Nat) : Nat := (hG c 8 i).toNatClampNeg
def bl (c : hC) (i : Nat) : Int32 := if hG c 9 i = 0 then 0 else blf (hG c 19 (tfo c i)) (hG c 20 (tfo c i)) (hG c 9 i)
def fe (c : hC) (i : Nat) : Int32 := hY c 5 (tfo c i) (zo c i)
def mx0 (x : Int32) : Int32 := if x < 0 then 0 else x
def ea (c : hC) (l zz : Nat) (d : Int32) : Nat → Int32
  | 0 => -1
  | k + 1 => if (¬ hG c 9 (hV c 9 k) = 0) ∧ hV c 0 (hV c 9 k) = l ∧ zo c (hV c 9 k) = zz ∧ dy c (hV c 9 k) = d then mx0 (ea c l zz d k) + bl c (hV c 9 k) else ea c l zz d k
def fdv (e : Int32) : Int32 := if 0 < 1800 - mx0 e then 1800 - mx0 e else 0
def un (c : hC) (a : Nat) : Nat → Int32
  | 0 => hG c 2 a
  | k + 1 => if (¬ hG c 9 (hV c 9 k) = 0) ∧ zo c (hV c 9 k) = 0 ∧ aco c (hV c 9 k) = a then un c a k - (if bl c (hV c 9 k) < un c a k then bl c (hV c 9 k) else un c a k) else un c a k
def fre (c : hC) (k : Nat) : Int32 :=
  if hG c 9 (hV c 9 k) = 0 then 0 else if zo c (hV c 9 k) = 0 then (if bl c (hV c 9 k) < un c (aco c (hV c 9 k)) k then bl c (hV c 9 k) else un c (aco c (hV c 9 k)) k)
  else if fe c (hV c 9 k) = 0 then 0 else (if fdv (ea c (hV c 0 (hV c 9 k)) (zo c (hV c 9 k)) (dy c (hV c 9 k)) k) < bl c (hV c 9 k) then fdv (ea c (hV c 0 (hV c 9 k)) (zo c (hV c 9 k)) (dy c (hV c 9 k)) k) else bl c (hV c 9 k))
def fch (c : hC) (k : Nat) : Int32 :=
  if hG c 9 (hV c 9 k) = 0 then 0 else if zo c (hV c 9 k) = 0 then 0 else if ea c (hV c 0 (hV c 9 k)) (zo c (hV c 9 k)) (dy c (hV c 9 k)) k = -1 then fe c (hV c 9 k) else 0
def pk (c : hC) (i : Nat) : Prop := (dy c i - dy c i / 7 * 7 < 5) ∧ hG c 21 0 ≤ (hG c 7 i - hG c 7 i / 1440 * 1440) ∧ (hG c 7 i - hG c 7 i / 1440 * 1440) ≤ hG c 22 0
noncomputable def rt (c : hC) (i : Nat) : Int32 := if zo c i = 0 then (@ite _ (pk c i) (Classical.propDecidable _) (hG c 17 (tfo c i)) (hG c 18 (tfo c i))) else hY c 4 (tfo c i) (zo c i)
noncomputable def prc (c : hC) (k : Nat) : Int32 :=
  if hG c 9 (hV c 9 k) = 0 then 0 else fch c k + chf (hG c 16 (tfo c (hV c 9 k))) (bl c (hV c 9 k) - fre c k) (rt c (hV c 9 k))
def em (c : hC) (a : Nat) : Nat → Int32
  | 0 => -1
  | k + 1 => if (¬ hG c 9 (hV c 9 k) = 0) ∧ zo c (hV c 9 k) = 0 ∧ aco c (hV c 9 k) = a ∧ 0 < fre c k ∧ un c a k - fre c k = 0 then nI (hV c 9 k) else em c a k
noncomputable def sa (c : hC) (a : Nat) : Nat → Int32
  | 0 => 0
  | k + 1 => if aco c (hV c 9 k) = a then sa c a k + prc c k else sa c a k
noncomputable def sl (c : hC) (l : Nat) : Nat → Int32
  | 0 => 0
  | k + 1 => if hV c 0 (hV c 9 k) = l then sl c l k + prc c k else sl c l k
def fp (c : hC) (l zz : Nat) : Nat → Int32
  | 0 => 0
  | k + 1 => if hV c 0 (hV c 9 k) = l ∧ zo c (hV c 9 k) = zz ∧ ¬ fch c k = 0 then fp c l zz k + 1 else fp c l zz k
def ld (c : hC) (l zz : Nat) : Nat → Int32
  | 0 => -1
  | k + 1 => if (¬ hG c 9 (hV c 9 k) = 0) ∧ hV c 0 (hV c 9 k) = l ∧ zo c (hV c 9 k) = zz ∧ ¬ fe c (hV c 9 k) = 0 then dy c (hV c 9 k) else ld c l zz k
/-- a configuration that the calls can make -/
def Wn (c : hC) : Prop := hN c 0 ≤ 5 ∧ hN c 1 ≤ 4 ∧ hN c 2 ≤ 8 ∧ hN c 3 ≤ 60 ∧ hN c 5 = hN c 0 ∧ hN c 6 = hN c 1 ∧ hN c 7 = hN c 2 ∧ hN c 8 = hN c 3 ∧ hN c 9 = hN c 3
def Wt (c : hC) : Prop := ∀ t, t < hN c 0 → hV c 5 t = t ∧ hG c 15 t = nI t ∧ nb (hG c 16 t) 10000 ∧ nb (hG c 17 t) 10000 ∧ nb (hG c 18 t) 10000 ∧ (nb (hG c 19 t) 300 ∧ 1 ≤ hG c 19 t) ∧ (nb (hG c 20 t) 300 ∧ 1 ≤ hG c 20 t) ∧ ∀ q, q = 1 ∨ q = 2 → nb (hY c 4 t q) 10000 ∧ nb (hY c 5 t q) 10000
def Wa (c : hC) : Prop := ∀ a, a < hN c 1 → hV c 6 a = a ∧ nb (hG c 2 a) 100000
def Wl (c : hC) : Prop := ∀ l, l < hN c 2 → hV c 7 l = l ∧ hV c 1 l < hN c 1 ∧ hV c 2 l < hN c 0
def Wc (c : hC) : Prop := ∀ i, i < hN c 3 → hV c 8 i = i ∧ hG c 6 i = nI i ∧ hV c 0 i < hN c 2 ∧ nb (hG c 7 i) 43199 ∧ nb (hG c 9 i) 7200 ∧ nb (hG c 8 i) 2
def sm (f : Nat → Int32) : Nat → Int32
  | 0 => 0
  | k + 1 => sm f k + f k
def Wo (c : hC) : Prop := (∀ k, k < hN c 3 → hV c 9 k < hN c 3) ∧ (∀ k k', k < hN c 3 → k' < hN c 3 → hV c 9 k = hV c 9 k' → k = k') ∧ (∀ k k', k < k' → k' < hN c 3 → hG c 7 (hV c 9 k) ≤ hG c 7 (hV c 9 k')) ∧ (∀ i, i < hN c 3 → ∃ k, k < hN c 3 ∧ hV c 9 k = i) ∧ ∀ f : Nat → Int32, sm (fun k => f (hV c 9 k)) (hN c 3) = sm f (hN c 3)
def WF (c : hC) : Prop := Wn c ∧ Wt c ∧ Wa c ∧ Wl c ∧ Wc c ∧ Wo c
theorem nb_mono {x : Int32} {A B : Nat} (h : nb x A) (hAB : A ≤ B) : nb x B := by
  obtain ⟨k, h1, h2⟩ := h; exact ⟨k, by omega, h2⟩
theorem nb_ge {x : Int32} {B : Nat} (h : nb x B) (hB : B < 2147483648) : ¬ x < 0 := by
  obtain ⟨k, h1, rfl⟩ := h; exact nI_pos (by omega)
theorem nb_m1 {x : Int32} {B : Nat} (h : nb x B) (hB : B < 2147483648) : x ≠ -1 := by
  intro e; exact nb_ge h hB (by rw [e]; decide)
theorem nb_z {x : Int32} (h : nb x 2) : x = nI x.toNatClampNeg ∧ x.toNatClampNeg ≤ 2 := by
  obtain ⟨k, h1, rfl⟩ := h; rw [ncl (by omega)]; exact ⟨rfl, h1⟩
theorem blf_nb {f n s : Int32} (hf : nb f 300) (hn : nb n 300) (h1 : 1 ≤ n) (hs : nb s 7200) : nb (blf f n s) 7800 := by
  obtain ⟨f, hf, rfl⟩ := hf
  obtain ⟨n, hn, rfl⟩ := hn
  obtain ⟨s, hs, rfl⟩ := hs
  have h1 : 1 ≤ n := by
    have : nI 1 ≤ nI n := h1
    rw [nle (by omega) (by omega)] at this; exact this
  unfold blf
  by_cases c : s ≤ f
  · rw [if_pos (nI_le c (by omega))]; exact ⟨f, by omega, rfl⟩
  · rw [if_neg (nI_ge (by omega) (by omega))]
    have e1 : (nI s - nI f) + nI n - 1 = nI (s - f + n - 1) := by
      rw [pk_sub (by omega), nI_add, ns1 (by omega)]
    rw [e1, pk_div (by omega) (by omega) (by omega), pk_mul, nI_add]
    have := Nat.div_mul_le_self (s - f + n - 1) n
    exact ⟨_, by omega, rfl⟩
theorem bl_nb {c : hC} (W : WF c) {i : Nat} (hi : i < hN c 3) : nb (bl c i) 7800 := by
  obtain ⟨Wn, Wt, Wa, Wl, Wc, Wo⟩ := W
  unfold bl
  by_cases c0 : hG c 9 i = 0
  · rw [if_pos c0]; exact ⟨0, by omega, rfl⟩
  · rw [if_neg c0]
    have hc := Wc i hi
    have ht := Wt (tfo c i) (Wl _ hc.2.2.1).2.2
    exact blf_nb ht.2.2.2.2.2.1.1 ht.2.2.2.2.2.2.1.1 ht.2.2.2.2.2.2.1.2 hc.2.2.2.2.1
theorem mx0_n {k : Nat} (h : k < 2147483648) : mx0 (nI k) = nI k := by
  unfold mx0; rw [if_neg (nI_pos h)]
theorem mx0_m1 : mx0 (-1) = nI 0 := rfl
theorem ea_nb {c : hC} (W : WF c) (l zz : Nat) (d : Int32) : ∀ k, k ≤ hN c 3 → ea c l zz d k = -1 ∨ nb (ea c l zz d k) (7800 * k)
  | 0, _ => .inl rfl
  | k + 1, hk => by
    have ih := ea_nb W l zz d k (by omega)
    have h60 := W.1.2.2.2.1
    unfold ea
    by_cases c0 : (¬ hG c 9 (hV c 9 k) = 0) ∧ hV c 0 (hV c 9 k) = l ∧ zo c (hV c 9 k) = zz ∧ dy c (hV c 9 k) = d
    · rw [if_pos c0]
      obtain ⟨b, hb, eb⟩ := bl_nb W (W.2.2.2.2.2.1 k (by omega))
      rw [eb]
      rcases ih with ih | ⟨p, hp, ep⟩
      · rw [ih, mx0_m1, nI_add]; exact .inr ⟨_, by omega, rfl⟩
      · rw [ep, mx0_n (by omega), nI_add]; exact .inr ⟨_, by omega, rfl⟩
    · rw [if_neg c0]
      rcases ih with ih | ih
      · exact .inl ih
      · exact .inr (nb_mono ih (by omega))
theorem fdv_n {p : Nat} (h : p < 1000000) : fdv (nI p) = nI (1800 - p) := by
  unfold fdv
  rw [mx0_n (by omega)]
  by_cases c : p < 1800
  · have e : (1800 : Int32) - nI p = nI (1800 - p) := pk_sub (a := 1800) (by omega)
    rw [e, if_pos (show (0 : Int32) < nI (1800 - p) from nI_lt (a := 0) (by omega) (by omega))]
  · rw [if_neg, show 1800 - p = 0 by omega]; rfl
    by_cases e : p = 1800
    · subst e; decide
    · have h2 : (1800 : Int32) - nI p < 0 := pk_sneg (a := 1800) (by omega) (by omega)
      intro h3
      exact absurd (Int32.lt_trans h2 h3) (Int32.lt_irrefl)
theorem fdv_m1 : fdv (-1) = nI 1800 := by decide
theorem fdv_nb {e : Int32} (he : e = -1 ∨ nb e 480000) : ∃ p, p ≤ 480000 ∧ mx0 e = nI p ∧ fdv e = nI (1800 - p) := by
  rcases he with he | ⟨p, hp, rfl⟩
  · subst he; exact ⟨0, by omega, rfl, fdv_m1⟩
  · exact ⟨p, hp, mx0_n (by omega), fdv_n (by omega)⟩
theorem min_sym (a b : Int32) : (if a < b then a else b) = (if b < a then b else a) := by
  by_cases h : a < b
  · rw [if_pos h, if_neg (Int32.not_lt.mpr (Int32.le_of_lt h))]
  · by_cases h2 : b < a
    · rw [if_neg h, if_pos h2]
    · rw [if_neg h, if_neg h2]; exact Int32.le_antisymm (Int32.not_lt.mp h) (Int32.not_lt.mp h2)
theorem min_n {a b : Nat} (ha : a < 2147483648) (hb : b < 2147483648) : (if nI a < nI b then nI a else nI b) = nI (if a < b then a else b) := by
  by_cases h : a < b
  · rw [if_pos (nI_lt h hb), if_pos h]
  · rw [if_neg (nI_nlt (by omega) ha), if_neg h]
theorem fdv_step {e b : Int32} (he : e = -1 ∨ nb e 480000) (hb : nb b 8000) : fdv e - (if fdv e < b then fdv e else b) = fdv (mx0 e + b) := by
  obtain ⟨p, hp, e1, e2⟩ := fdv_nb he
  obtain ⟨b, hb, rfl⟩ := hb
  rw [e1, e2, min_n (by omega) (by omega), nI_add, fdv_n (by omega), pk_sub (by split <;> omega)]
  exact congrArg nI (by split <;> omega)
theorem un_nb {c : hC} (W : WF c) {a : Nat} (ha : a < hN c 1) : ∀ k, k ≤ hN c 3 → nb (un c a k) 100000
  | 0, _ => (W.2.2.1 a ha).2
  | k + 1, hk => by
    obtain ⟨p, hp, ep⟩ := un_nb W ha k (by omega)
    obtain ⟨b, hb, eb⟩ := bl_nb W (W.2.2.2.2.2.1 k (by omega))
    unfold un
    by_cases c0 : (¬ hG c 9 (hV c 9 k) = 0) ∧ zo c (hV c 9 k) = 0 ∧ aco c (hV c 9 k) = a
    · rw [if_pos c0, ep, eb, min_n (by omega) (by omega), pk_sub (by split <;> omega)]
      exact ⟨_, by omega, rfl⟩
    · rw [if_neg c0]; exact ⟨p, hp, ep⟩
/-- what is free is not more than what is billed -/
theorem fre_nb {c : hC} (W : WF c) {k : Nat} (hk : k < hN c 3) : ∃ b f : Nat, b ≤ 7800 ∧ f ≤ b ∧ bl c (hV c 9 k) = nI b ∧ fre c k = nI f := by
  have ho := W.2.2.2.2.2.1 k hk
  obtain ⟨b, hb, eb⟩ := bl_nb W ho
  have h60 := W.1.2.2.2.1
  unfold fre
  rw [eb]
  by_cases c1 : hG c 9 (hV c 9 k) = 0
  · rw [if_pos c1]; exact ⟨b, 0, hb, by omega, rfl, rfl⟩
  rw [if_neg c1]
  by_cases c2 : zo c (hV c 9 k) = 0
  · rw [if_pos c2]
    have ha : aco c (hV c 9 k) < hN c 1 := (W.2.2.2.1 _ (W.2.2.2.2.1 _ ho).2.2.1).2.1
    obtain ⟨p, hp, ep⟩ := un_nb W ha k (by omega)
    rw [ep, min_n (by omega) (by omega)]
    exact ⟨b, _, hb, by split <;> omega, rfl, rfl⟩
  rw [if_neg c2]
  by_cases c3 : fe c (hV c 9 k) = 0
  · rw [if_pos c3]; exact ⟨b, 0, hb, by omega, rfl, rfl⟩
  rw [if_neg c3]
  obtain ⟨p, hp, e1, e2⟩ := fdv_nb (e := ea c (hV c 0 (hV c 9 k)) (zo c (hV c 9 k)) (dy c (hV c 9 k)) k) (by
    rcases ea_nb W (hV c 0 (hV c 9 k)) (zo c (hV c 9 k)) (dy c (hV c 9 k)) k (by omega) with h | h
    · exact .inl h
    · exact .inr (nb_mono h (by omega)))
  rw [e2, min_n (by omega) (by omega)]
  exact ⟨b, _, hb, by split <;> omega, rfl, rfl⟩
theorem ea_nb2 {c : hC} (W : WF c) (l zz : Nat) (d : Int32) {k : Nat} (hk : k ≤ hN c 3) : ea c l zz d k = -1 ∨ nb (ea c l zz d k) 480000 := by
  have h60 := W.1.2.2.2.1
  rcases ea_nb W l zz d k hk with h | h
  · exact .inl h
  · exact .inr (nb_mono h (by omega))
theorem dy_n {c : hC} (W : WF c) {i : Nat} (hi : i < hN c 3) : ∃ m, m ≤ 43199 ∧ hG c 7 i = nI m ∧ dy c i = nI (m / 1440) := by
  obtain ⟨m, hm, e⟩ := (W.2.2.2.2.1 i hi).2.2.2.1
  refine ⟨m, hm, e, ?_⟩
  unfold dy
  rw [e]
  exact pk_div (d := 1440) (by omega) (by omega) (by omega)
theorem dy_mono {c : hC} (W : WF c) {k k' : Nat} (h : k < k') (hk : k' < hN c 3) : ∃ a b : Nat, a ≤ b ∧ b ≤ 43199 ∧ dy c (hV c 9 k) = nI a ∧ dy c (hV c 9 k') = nI b := by
  obtain ⟨m, hm, e1, e2⟩ := dy_n W (W.2.2.2.2.2.1 k (by omega))
  obtain ⟨m', hm', e1', e2'⟩ := dy_n W (W.2.2.2.2.2.1 k' hk)
  have h3 := W.2.2.2.2.2.2.2.1 k k' h hk
  rw [e1, e1', nle (by omega) (by omega)] at h3
  exact ⟨_, _, Nat.div_le_div_right h3, by omega, e2, e2'⟩
theorem ea_ex {c : hC} (l zz : Nat) (d : Int32) : ∀ k, ea c l zz d k ≠ -1 → ∃ k', k' < k ∧ (¬ hG c 9 (hV c 9 k') = 0) ∧ hV c 0 (hV c 9 k') = l ∧ zo c (hV c 9 k') = zz ∧ dy c (hV c 9 k') = d
  | 0, h => absurd rfl h
  | k + 1, h => by
    by_cases c0 : (¬ hG c 9 (hV c 9 k) = 0) ∧ hV c 0 (hV c 9 k) = l ∧ zo c (hV c 9 k) = zz ∧ dy c (hV c 9 k) = d
    · exact ⟨k, by omega, c0⟩
    · unfold ea at h
      rw [if_neg c0] at h
      obtain ⟨k', h1, h2⟩ := ea_ex l zz d k h
      exact ⟨k', by omega, h2⟩
theorem ea_of {c : hC} (W : WF c) (l zz : Nat) (d : Int32) : ∀ k, k ≤ hN c 3 → (∃ k', k' < k ∧ (¬ hG c 9 (hV c 9 k') = 0) ∧ hV c 0 (hV c 9 k') = l ∧ zo c (hV c 9 k') = zz ∧ dy c (hV c 9 k') = d) → ea c l zz d k ≠ -1
  | 0, _, ⟨k', h, _⟩ => by omega
  | k + 1, hk, ⟨k', h1, h2⟩ => by
    unfold ea
    by_cases c0 : (¬ hG c 9 (hV c 9 k) = 0) ∧ hV c 0 (hV c 9 k) = l ∧ zo c (hV c 9 k) = zz ∧ dy c (hV c 9 k) = d
    · rw [if_pos c0]
      obtain ⟨b, hb, eb⟩ := bl_nb W (W.2.2.2.2.2.1 k (by omega))
      obtain ⟨p, hp, e1, e2⟩ := fdv_nb (ea_nb2 W l zz d (k := k) (by omega))
      rw [e1, eb, nI_add]
      exact nb_m1 ⟨_, Nat.le_refl _, rfl⟩ (by omega)
    · rw [if_neg c0]
      refine ea_of W l zz d k (by omega) ⟨k', ?_, h2⟩
      by_cases e : k' = k
      · subst e; exact absurd h2 c0
      · omega
/-- the last fee day is the day of some earlier call, and of the latest -/
theorem ld_ex {c : hC} (l zz : Nat) : ∀ k, ld c l zz k ≠ -1 → ∃ k', k' < k ∧ (¬ hG c 9 (hV c 9 k') = 0) ∧ hV c 0 (hV c 9 k') = l ∧ zo c (hV c 9 k') = zz ∧ dy c (hV c 9 k') = ld c l zz k
  | 0, h => absurd rfl h
  | k + 1, h => by
    unfold ld at h ⊢
    by_cases c0 : (¬ hG c 9 (hV c 9 k) = 0) ∧ hV c 0 (hV c 9 k) = l ∧ zo c (hV c 9 k) = zz ∧ ¬ fe c (hV c 9 k) = 0
    · rw [if_pos c0]; exact ⟨k, by omega, c0.1, c0.2.1, c0.2.2.1, rfl⟩
    · rw [if_neg c0] at h ⊢
      obtain ⟨k', h1, h2⟩ := ld_ex l zz k h
      exact ⟨k', by omega, h2⟩
theorem ld_ge {c : hC} (W : WF c) (l zz : Nat) : ∀ k, k ≤ hN c 3 → ∀ k', k' < k → (¬ hG c 9 (hV c 9 k') = 0) → hV c 0 (hV c 9 k') = l → zo c (hV c 9 k') = zz → (¬ fe c (hV c 9 k') = 0) → ∃ a b : Nat, a ≤ b ∧ b ≤ 43199 ∧ dy c (hV c 9 k') = nI a ∧ ld c l zz k = nI b
  | 0, _, k', h, _, _, _, _ => by omega
  | k + 1, hk, k', h, h1, h2, h3, h4 => by
    unfold ld
    by_cases c0 : (¬ hG c 9 (hV c 9 k) = 0) ∧ hV c 0 (hV c 9 k) = l ∧ zo c (hV c 9 k) = zz ∧ ¬ fe c (hV c 9 k) = 0
    · rw [if_pos c0]
      by_cases e : k' = k
      · subst e
        obtain ⟨m, hm, e1, e2⟩ := dy_n W (W.2.2.2.2.2.1 k' (by omega))
        exact ⟨_, _, Nat.le_refl _, by omega, e2, e2⟩
      · exact dy_mono W (by omega) (by omega)
    · rw [if_neg c0]
      refine ld_ge W l zz k (by omega) k' ?_ h1 h2 h3 h4
      by_cases e : k' = k
      · subst e; exact absurd ⟨h1, h2, h3, h4⟩ c0
      · omega
theorem fe_eq {c : hC} {i i' : Nat} (h1 : hV c 0 i = hV c 0 i') (h2 : zo c i = zo c i') : fe c i = fe c i' := by
  unfold fe tfo; rw [h1, h2]
/-- a fee day begins where there was no earlier call of this line, zone and day -/
theorem ld_iff {c : hC} (W : WF c) {k : Nat} (hk : k < hN c 3) (h0 : ¬ fe c (hV c 9 k) = 0) : (ld c (hV c 0 (hV c 9 k)) (zo c (hV c 9 k)) k = dy c (hV c 9 k)) ↔ ea c (hV c 0 (hV c 9 k)) (zo c (hV c 9 k)) (dy c (hV c 9 k)) k ≠ -1 := by
  obtain ⟨m, hm, e1, e2⟩ := dy_n W (W.2.2.2.2.2.1 k hk)
  constructor
  · intro h
    obtain ⟨k', g1, g2, g3, g4, g5⟩ := ld_ex (hV c 0 (hV c 9 k)) (zo c (hV c 9 k)) k (by rw [h, e2]; exact nb_m1 ⟨_, Nat.le_refl _, rfl⟩ (by omega))
    exact ea_of W _ _ _ k (by omega) ⟨k', g1, g2, g3, g4, by rw [g5, h]⟩
  · intro h
    obtain ⟨k', g1, g2, g3, g4, g5⟩ := ea_ex _ _ _ k h
    obtain ⟨a, b, q1, q2, q3, q4⟩ := ld_ge W _ _ k (by omega) k' g1 g2 g3 g4 (by rw [fe_eq g3 g4]; exact h0)
    obtain ⟨k2, p1, p2, p3, p4, p5⟩ := ld_ex (hV c 0 (hV c 9 k)) (zo c (hV c 9 k)) k (by rw [q4]; exact nb_m1 ⟨_, Nat.le_refl _, rfl⟩ (by omega))
    obtain ⟨x, y, r1, r2, r3, r4⟩ := dy_mono W p1 hk
    rw [p5, q4] at r3
    rw [g5, r4] at q3
    have z1 := (nI_eq (by omega) (by omega)).mp r3
    have z2 := (nI_eq (by omega) (by omega)).mp q3
    rw [q4, r4]
    exact congrArg nI (by omega)
