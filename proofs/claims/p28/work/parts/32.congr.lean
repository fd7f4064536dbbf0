/-! the rating looks at its calls alone -/
def CE (c d : hC) (n : Nat) : Prop := hG d 21 0 = hG c 21 0 ∧ hG d 22 0 = hG c 22 0 ∧ ∀ k, k < n → hV d 9 k = hV c 9 k ∧ hG d 9 (hV c 9 k) = hG c 9 (hV c 9 k) ∧ hG d 7 (hV c 9 k) = hG c 7 (hV c 9 k) ∧ hG d 8 (hV c 9 k) = hG c 8 (hV c 9 k) ∧ hV d 0 (hV c 9 k) = hV c 0 (hV c 9 k)
  ∧ aco d (hV c 9 k) = aco c (hV c 9 k) ∧ tfo d (hV c 9 k) = tfo c (hV c 9 k) ∧ hG d 2 (aco c (hV c 9 k)) = hG c 2 (aco c (hV c 9 k))
  ∧ hG d 16 (tfo c (hV c 9 k)) = hG c 16 (tfo c (hV c 9 k)) ∧ hG d 17 (tfo c (hV c 9 k)) = hG c 17 (tfo c (hV c 9 k)) ∧ hG d 18 (tfo c (hV c 9 k)) = hG c 18 (tfo c (hV c 9 k)) ∧ hG d 19 (tfo c (hV c 9 k)) = hG c 19 (tfo c (hV c 9 k)) ∧ hG d 20 (tfo c (hV c 9 k)) = hG c 20 (tfo c (hV c 9 k))
  ∧ ∀ q, hY d 4 (tfo c (hV c 9 k)) q = hY c 4 (tfo c (hV c 9 k)) q ∧ hY d 5 (tfo c (hV c 9 k)) q = hY c 5 (tfo c (hV c 9 k)) q
theorem CE_1 {c d : hC} {n : Nat} (E : CE c d n) {k : Nat} (hk : k < n) : hV d 9 k = hV c 9 k ∧ hG d 9 (hV c 9 k) = hG c 9 (hV c 9 k) ∧ hV d 0 (hV c 9 k) = hV c 0 (hV c 9 k) ∧ aco d (hV c 9 k) = aco c (hV c 9 k) ∧ tfo d (hV c 9 k) = tfo c (hV c 9 k) ∧ zo d (hV c 9 k) = zo c (hV c 9 k) ∧ dy d (hV c 9 k) = dy c (hV c 9 k) ∧ bl d (hV c 9 k) = bl c (hV c 9 k) ∧ fe d (hV c 9 k) = fe c (hV c 9 k) ∧ rt d (hV c 9 k) = rt c (hV c 9 k) := by
  obtain ⟨e21, e22, E⟩ := E
  obtain ⟨a1, a2, a3, a4, a5, a6, a7, a8, a9, a10, a11, a12, a13, a14⟩ := E k hk
  have hz : zo d (hV c 9 k) = zo c (hV c 9 k) := by unfold zo; rw [a4]
  have hd : dy d (hV c 9 k) = dy c (hV c 9 k) := by unfold dy; rw [a3]
  have hp : pk d (hV c 9 k) = pk c (hV c 9 k) := by unfold pk; rw [hd, a3, e21, e22]
  refine ⟨a1, a2, a5, a6, a7, hz, hd, ?_, ?_, ?_⟩
  · unfold bl; rw [a2, a7, a12, a13]
  · unfold fe; rw [a7, hz, (a14 _).2]
  · unfold rt
    by_cases h0 : zo c (hV c 9 k) = 0
    · rw [if_pos h0, if_pos (hz.trans h0), a7, a10, a11]
      by_cases h1 : pk c (hV c 9 k)
      · rw [if_pos h1, if_pos (by rw [hp]; exact h1)]
      · rw [if_neg h1, if_neg (by rw [hp]; exact h1)]
    · rw [if_neg h0, if_neg (fun q => h0 (hz.symm.trans q)), a7, hz, (a14 _).1]
theorem CE_ea {c d : hC} {n : Nat} (E : CE c d n) (l zz : Nat) (x : Int32) : ∀ k, k ≤ n → ea d l zz x k = ea c l zz x k
  | 0, _ => rfl
  | k + 1, hk => by
    obtain ⟨a1, a2, a3, a4, a5, a6, a7, a8, a9, a10⟩ := CE_1 E (k := k) (by omega)
    rw [ea_s, ea_s, CE_ea E l zz x k (by omega), a1, a2, a3, a6, a7, a8]
theorem CE_un {c d : hC} {n : Nat} (E : CE c d n) {a : Nat} (ha : hG d 2 a = hG c 2 a) : ∀ k, k ≤ n → un d a k = un c a k
  | 0, _ => ha
  | k + 1, hk => by
    obtain ⟨a1, a2, a3, a4, a5, a6, a7, a8, a9, a10⟩ := CE_1 E (k := k) (by omega)
    rw [un_s, un_s, CE_un E ha k (by omega), a1, a2, a4, a6, a8]
theorem CE_fre {c d : hC} {n : Nat} (E : CE c d n) {k : Nat} (hk : k < n) : fre d k = fre c k := by
  obtain ⟨a1, a2, a3, a4, a5, a6, a7, a8, a9, a10⟩ := CE_1 E hk
  have ha := (E.2.2 k hk).2.2.2.2.2.2.2.1
  unfold fre
  rw [a1, a2, a3, a4, a6, a7, a8, a9, CE_ea E _ _ _ k (by omega), CE_un E ha k (by omega)]
theorem CE_fch {c d : hC} {n : Nat} (E : CE c d n) {k : Nat} (hk : k < n) : fch d k = fch c k := by
  obtain ⟨a1, a2, a3, a4, a5, a6, a7, a8, a9, a10⟩ := CE_1 E hk
  unfold fch
  rw [a1, a2, a3, a6, a7, a9, CE_ea E _ _ _ k (by omega)]
theorem CE_prc {c d : hC} {n : Nat} (E : CE c d n) {k : Nat} (hk : k < n) : prc d k = prc c k := by
  obtain ⟨a1, a2, a3, a4, a5, a6, a7, a8, a9, a10⟩ := CE_1 E hk
  have h16 := (E.2.2 k hk).2.2.2.2.2.2.2.2.1
  unfold prc
  rw [CE_fch E hk, CE_fre E hk, a1, a2, a5, a8, a10, h16]
theorem CE_em {c d : hC} {n : Nat} (E : CE c d n) {a : Nat} (ha : hG d 2 a = hG c 2 a) : ∀ k, k ≤ n → em d a k = em c a k
  | 0, _ => rfl
  | k + 1, hk => by
    obtain ⟨a1, a2, a3, a4, a5, a6, a7, a8, a9, a10⟩ := CE_1 E (k := k) (by omega)
    rw [em_s, em_s, CE_em E ha k (by omega), CE_un E ha k (by omega), CE_fre E (by omega), a1, a2, a4, a6]
theorem CE_sa {c d : hC} {n : Nat} (E : CE c d n) (a : Nat) : ∀ k, k ≤ n → sa d a k = sa c a k
  | 0, _ => rfl
  | k + 1, hk => by
    obtain ⟨a1, a2, a3, a4, a5, a6, a7, a8, a9, a10⟩ := CE_1 E (k := k) (by omega)
    rw [sa_s, sa_s, CE_sa E a k (by omega), CE_prc E (by omega), a1, a4]
theorem CE_sl {c d : hC} {n : Nat} (E : CE c d n) (l : Nat) : ∀ k, k ≤ n → sl d l k = sl c l k
  | 0, _ => rfl
  | k + 1, hk => by
    obtain ⟨a1, a2, a3, a4, a5, a6, a7, a8, a9, a10⟩ := CE_1 E (k := k) (by omega)
    rw [sl_s, sl_s, CE_sl E l k (by omega), CE_prc E (by omega), a1, a3]
theorem CE_fp {c d : hC} {n : Nat} (E : CE c d n) (l zz : Nat) : ∀ k, k ≤ n → fp d l zz k = fp c l zz k
  | 0, _ => rfl
  | k + 1, hk => by
    obtain ⟨a1, a2, a3, a4, a5, a6, a7, a8, a9, a10⟩ := CE_1 E (k := k) (by omega)
    rw [fp_s, fp_s, CE_fp E l zz k (by omega), CE_fch E (by omega), a1, a3, a6]
theorem CE_ld {c d : hC} {n : Nat} (E : CE c d n) (l zz : Nat) : ∀ k, k ≤ n → ld d l zz k = ld c l zz k
  | 0, _ => rfl
  | k + 1, hk => by
    obtain ⟨a1, a2, a3, a4, a5, a6, a7, a8, a9, a10⟩ := CE_1 E (k := k) (by omega)
    rw [ld_s, ld_s, CE_ld E l zz k (by omega), a1, a2, a3, a6, a7, a9]
theorem CE_st {c h : hC} (s : ST c h) (n : Nat) : CE c h n := by
  refine ⟨by rw [s.2.2.1 21 rfl], by rw [s.2.2.1 22 rfl], fun k _ => ?_⟩
  unfold aco tfo
  simp only [st s]
  exact ⟨trivial, trivial, trivial, trivial, trivial, trivial, trivial, trivial, trivial, trivial, trivial, trivial, trivial, fun _ => ⟨trivial, trivial⟩⟩
theorem WF_st {c h : hC} (s : ST c h) (W : WF c) : WF h := by
  unfold WF Wn Wt Wa Wl Wc Wo at *
  simp only [st s]
  exact W
theorem DK_ce {c d h : hC} {n : Nat} (E : CE c d n) (e1 : hN d 1 = hN c 1) (e2 : hN d 2 = hN c 2) (eg : ∀ a, a < hN c 1 → hG d 2 a = hG c 2 a) (D : DK c h n) : DK d h n := by
  obtain ⟨D1, D2, D3⟩ := D
  refine ⟨fun a ha => ?_, fun l hl => ?_, fun k hk => ?_⟩
  · rw [e1] at ha
    rw [CE_un E (eg a ha) n (Nat.le_refl _), CE_em E (eg a ha) n (Nat.le_refl _), CE_sa E a n (Nat.le_refl _)]
    exact D1 a ha
  · rw [e2] at hl
    obtain ⟨b1, b2⟩ := D2 l hl
    rw [CE_sl E l n (Nat.le_refl _)]
    refine ⟨b1, fun q hq => ?_⟩
    rw [CE_fp E l q n (Nat.le_refl _), CE_ld E l q n (Nat.le_refl _), CE_ea E _ _ _ n (Nat.le_refl _)]
    exact b2 q hq
  · obtain ⟨a1, a2, a3, a4, a5, a6, a7, a8, a9, a10⟩ := CE_1 E hk
    rw [a1, a8, CE_fre E hk, CE_prc E hk, CE_fch E hk]
    exact D3 k hk
theorem DK_st {c h : hC} (s : ST c h) {n : Nat} (D : DK c h n) : DK h h n :=
  DK_ce (CE_st s n) (by rw [s.1]) (by rw [s.1]) (fun a _ => by rw [s.2.2.1 2 rfl]) D
/-- what the class holds at rest -/
def DR (c h : hC) (k : Nat) : Prop :=
  (∀ a, a < hN c 1 → hG h 3 a = un c a k ∧ hG h 4 a = em c a k ∧ hG h 5 a = sa c a k)
  ∧ (∀ l, l < hN c 2 → hG h 14 l = sl c l k ∧ ∀ q, q = 1 ∨ q = 2 → hY h 6 l q = fp c l q k ∧ True)
  ∧ (∀ k', k' < k → hG h 10 (hV c 9 k') = bl c (hV c 9 k') ∧ hG h 11 (hV c 9 k') = fre c k' ∧ hG h 12 (hV c 9 k') = prc c k' ∧ hG h 13 (hV c 9 k') = fch c k')
theorem DR_of {c h : hC} {k : Nat} (D : DK c h k) : DR c h k :=
  ⟨D.1, fun l hl => ⟨(D.2.1 l hl).1, fun q hq => ⟨((D.2.1 l hl).2 q hq).1, trivial⟩⟩, D.2.2⟩
/-- what holds between two calls of the law -/
def LI (h : hC) : Prop := WF h ∧ DR h h (hN h 3)
theorem LI_of {c h : hC} (s : ST c h) (W : WF c) (D : DK c h (hN c 3)) : LI h :=
  ⟨WF_st s W, by rw [s.1]; exact DR_of (DK_st s D)⟩
