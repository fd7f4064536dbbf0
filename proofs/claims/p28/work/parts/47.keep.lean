/-! the invariant over a new object -/
theorem WF_nw {c d : hC} {k : Nat} (W : WF c) (hk : k < 3) (N : NW k c d) (hv9 : ∀ e, e < hN c 3 → hV d 9 e = hV c 9 e) (hb : Wn d)
    (ht : k = 0 → hG d 15 (hN c 0) = nI (hN c 0) ∧ nb (hG d 16 (hN c 0)) 10000 ∧ nb (hG d 17 (hN c 0)) 10000 ∧ nb (hG d 18 (hN c 0)) 10000 ∧ (nb (hG d 19 (hN c 0)) 300 ∧ 1 ≤ hG d 19 (hN c 0)) ∧ (nb (hG d 20 (hN c 0)) 300 ∧ 1 ≤ hG d 20 (hN c 0)) ∧ ∀ q, q = 1 ∨ q = 2 → nb (hY d 4 (hN c 0) q) 10000 ∧ nb (hY d 5 (hN c 0) q) 10000)
    (ha : k = 1 → nb (hG d 2 (hN c 1)) 100000) (hl : k = 2 → hV d 1 (hN c 2) < hN c 1 ∧ hV d 2 (hN c 2) < hN c 0) : WF d := by
  obtain ⟨n1, n2, n3, n4, n5, n6⟩ := N
  obtain ⟨W1, W2, W3, W4, W5, W6⟩ := W
  have W1' := W1
  unfold Wn at W1'
  have m0 : hN c 0 ≤ hN d 0 := by rw [n1 0 (by omega)]; split <;> omega
  have m1 : hN c 1 ≤ hN d 1 := by rw [n1 1 (by omega)]; split <;> omega
  have e3 : hN d 3 = hN c 3 := by rw [n1 3 (by omega), if_neg (by omega)]
  refine ⟨hb, fun t htt => ?_, fun a haa => ?_, fun l hll => ?_, fun i hi => ?_, ?_⟩
  · by_cases e : k = 0 ∧ t = hN c 0
    · obtain ⟨e1, e2⟩ := e
      subst e1; subst e2
      exact ⟨n6, ht rfl⟩
    · have htc : t < hN c 0 := by
        rw [n1 0 (by omega)] at htt
        by_cases e1 : k = 0
        · rw [if_pos (.inl e1.symm)] at htt
          have : t ≠ hN c 0 := fun q => e ⟨e1, q⟩
          omega
        · rw [if_neg (by omega)] at htt; exact htt
      have hno : ∀ r, grp r = 0 → ¬ (grp r = k ∧ t = hN c k) := by
        rintro r hr ⟨q1, q2⟩
        rw [hr] at q1; subst q1; omega
      have gg : ∀ f, fr f = 0 → hG d f t = hG c f t := fun f hf => n2 f t (by rw [hf]; exact hno 0 rfl)
      have e5 : hV d 5 t = hV c 5 t := n5 0 t (by omega) (by show t < hN c 5; omega)
      rw [e5, gg 15 rfl, gg 16 rfl, gg 17 rfl, gg 18 rfl, gg 19 rfl, gg 20 rfl]
      obtain ⟨a1, a2, a3, a4, a5, a6, a7, a8⟩ := W2 t htc
      refine ⟨a1, a2, a3, a4, a5, a6, a7, fun q hq => ?_⟩
      rw [n3 4 t q (hno 4 rfl), n3 5 t q (hno 5 rfl)]
      exact a8 q hq
  · by_cases e : k = 1 ∧ a = hN c 1
    · obtain ⟨e1, e2⟩ := e
      subst e1; subst e2
      exact ⟨n6, ha rfl⟩
    · have hac : a < hN c 1 := by
        rw [n1 1 (by omega)] at haa
        by_cases e1 : k = 1
        · rw [if_pos (.inl e1.symm)] at haa
          have : a ≠ hN c 1 := fun q => e ⟨e1, q⟩
          omega
        · rw [if_neg (by omega)] at haa; exact haa
      have e5 : hV d 6 a = hV c 6 a := n5 1 a (by omega) (by show a < hN c 6; omega)
      have e6 : hG d 2 a = hG c 2 a := n2 2 a (by
        rintro ⟨q1, q2⟩
        have : grp (fr 2) = 1 := rfl
        rw [this] at q1; subst q1; omega)
      rw [e5, e6]
      exact W3 a hac
  · by_cases e : k = 2 ∧ l = hN c 2
    · obtain ⟨e1, e2⟩ := e
      subst e1; subst e2
      obtain ⟨b1, b2⟩ := hl rfl
      exact ⟨n6, by omega, by omega⟩
    · have hlc : l < hN c 2 := by
        rw [n1 2 (by omega)] at hll
        by_cases e1 : k = 2
        · rw [if_pos (.inl e1.symm)] at hll
          have : l ≠ hN c 2 := fun q => e ⟨e1, q⟩
          omega
        · rw [if_neg (by omega)] at hll; exact hll
      have e5 : hV d 7 l = hV c 7 l := n5 2 l (by omega) (by show l < hN c 7; omega)
      have hno : ¬ (2 = k ∧ l = hN c k) := by
        rintro ⟨q1, q2⟩; subst q1; omega
      have e6 : hV d 1 l = hV c 1 l := n4 1 l (by omega) hno
      have e7 : hV d 2 l = hV c 2 l := n4 2 l (by omega) hno
      rw [e5, e6, e7]
      obtain ⟨b1, b2, b3⟩ := W4 l hlc
      exact ⟨b1, by omega, by omega⟩
  · rw [e3] at hi
    have hno : ∀ x, ¬ (3 = k ∧ x = hN c k) := by
      rintro x ⟨q1, q2⟩; omega
    have gg : ∀ f, fr f = 3 → hG d f i = hG c f i := fun f hf => n2 f i (by rw [hf]; exact hno i)
    have e5 : hV d 8 i = hV c 8 i := n5 3 i (by omega) (by show i < hN c 8; omega)
    have e6 : hV d 0 i = hV c 0 i := n4 0 i (by omega) (hno i)
    rw [e5, e6, gg 6 rfl, gg 7 rfl, gg 8 rfl, gg 9 rfl]
    obtain ⟨b1, b2, b3, b4⟩ := W5 i hi
    refine ⟨b1, b2, ?_, b4⟩
    have : hN c 2 ≤ hN d 2 := by rw [n1 2 (by omega)]; split <;> omega
    omega
  · obtain ⟨w1, w2, w3, w4, w5⟩ := W6
    have gg : ∀ i, hG d 7 i = hG c 7 i := fun i => n2 7 i (by rintro ⟨q1, q2⟩; have : grp (fr 7) = 3 := rfl; omega)
    unfold Wo
    rw [e3]
    refine ⟨fun k hk => ?_, fun k k' hk hk' e => ?_, fun k k' hkk hk' => ?_, fun i hi => ?_, fun f => ?_⟩
    · rw [hv9 k hk]; exact w1 k hk
    · rw [hv9 k hk, hv9 k' hk'] at e; exact w2 k k' hk hk' e
    · rw [hv9 k (by omega), hv9 k' hk', gg, gg]; exact w3 k k' hkk hk'
    · obtain ⟨k, hk, e⟩ := w4 i hi
      exact ⟨k, hk, by rw [hv9 k hk]; exact e⟩
    · rw [← w5 f]
      exact sm_congr _ fun k hk => by rw [hv9 k hk]
theorem un_new {d : hC} {a : Nat} : ∀ n, (∀ e, e < n → aco d (hV d 9 e) ≠ a) → un d a n = hG d 2 a ∧ em d a n = -1 ∧ sa d a n = 0
  | 0, _ => ⟨rfl, rfl, rfl⟩
  | n + 1, h => by
    obtain ⟨h1, h2, h3⟩ := un_new n (fun e he => h e (by omega))
    have hn := h n (by omega)
    rw [un_s, em_s, sa_s, if_neg (fun q => hn q.2.2), if_neg (fun q => hn q.2.2.1), if_neg hn]
    exact ⟨h1, h2, h3⟩
theorem sl_new {d : hC} {l : Nat} : ∀ n, (∀ e, e < n → hV d 0 (hV d 9 e) ≠ l) → sl d l n = 0 ∧ ∀ q, fp d l q n = 0
  | 0, _ => ⟨rfl, fun _ => rfl⟩
  | n + 1, h => by
    obtain ⟨h1, h2⟩ := sl_new n (fun e he => h e (by omega))
    have hn := h n (by omega)
    refine ⟨by rw [sl_s, if_neg hn]; exact h1, fun q => ?_⟩
    rw [fp_s, if_neg (fun y => hn y.1)]; exact h2 q
theorem DR_nw {c d : hC} {k : Nat} (W : WF c) (hk : k < 3) (N : NW k c d) (hv9 : ∀ e, e < hN c 3 → hV d 9 e = hV c 9 e) (D : DR c c (hN c 3))
    (ha : k = 1 → hG d 3 (hN c 1) = hG d 2 (hN c 1) ∧ hG d 4 (hN c 1) = -1 ∧ hG d 5 (hN c 1) = 0) (hl : k = 2 → hG d 14 (hN c 2) = 0 ∧ ∀ q, hY d 6 (hN c 2) q = 0) : DR d d (hN d 3) := by
  have E := CE_nw W hk N hv9
  obtain ⟨n1, n2, n3, n4, n5, n6⟩ := N
  have e3 : hN d 3 = hN c 3 := by rw [n1 3 (by omega), if_neg (by omega)]
  rw [e3]
  have av : ∀ e, e < hN c 3 → aco d (hV d 9 e) < hN c 1 := by
    intro e he
    rw [(CE_1 E he).1, (CE_1 E he).2.2.2.1]
    exact (W.2.2.2.1 _ (W.2.2.2.2.1 _ (W.2.2.2.2.2.1 e he)).2.2.1).2.1
  have lvv : ∀ e, e < hN c 3 → hV d 0 (hV d 9 e) < hN c 2 := by
    intro e he
    rw [(CE_1 E he).1, (CE_1 E he).2.2.1]
    exact (W.2.2.2.2.1 _ (W.2.2.2.2.2.1 e he)).2.2.1
  obtain ⟨D1, D2, D3⟩ := D
  refine ⟨fun a haa => ?_, fun l hll => ?_, fun e he => ?_⟩
  · by_cases e : k = 1 ∧ a = hN c 1
    · obtain ⟨e1, e2⟩ := e
      subst e1; subst e2
      obtain ⟨b1, b2, b3⟩ := ha rfl
      obtain ⟨u1, u2, u3⟩ := un_new (d := d) (a := hN c 1) (hN c 3) (fun e he => by have := av e he; omega)
      rw [u1, u2, u3]
      exact ⟨b1, b2, b3⟩
    · have hac : a < hN c 1 := by
        rw [n1 1 (by omega)] at haa
        by_cases e1 : k = 1
        · rw [if_pos (.inl e1.symm)] at haa
          have : a ≠ hN c 1 := fun q => e ⟨e1, q⟩
          omega
        · rw [if_neg (by omega)] at haa; exact haa
      have gg : ∀ f, fr f = 1 → hG d f a = hG c f a := fun f hf => n2 f a (by
        rw [hf]
        rintro ⟨q1, q2⟩
        have : grp 1 = 1 := rfl
        rw [this] at q1; subst q1; omega)
      rw [CE_un E (gg 2 rfl) _ (Nat.le_refl _), CE_em E (gg 2 rfl) _ (Nat.le_refl _), CE_sa E a _ (Nat.le_refl _), gg 3 rfl, gg 4 rfl, gg 5 rfl]
      exact D1 a hac
  · by_cases e : k = 2 ∧ l = hN c 2
    · obtain ⟨e1, e2⟩ := e
      subst e1; subst e2
      obtain ⟨b1, b2⟩ := hl rfl
      obtain ⟨u1, u2⟩ := sl_new (d := d) (l := hN c 2) (hN c 3) (fun e he => by have := lvv e he; omega)
      rw [u1]
      exact ⟨b1, fun q _ => ⟨by rw [u2]; exact b2 q, trivial⟩⟩
    · have hlc : l < hN c 2 := by
        rw [n1 2 (by omega)] at hll
        by_cases e1 : k = 2
        · rw [if_pos (.inl e1.symm)] at hll
          have : l ≠ hN c 2 := fun q => e ⟨e1, q⟩
          omega
        · rw [if_neg (by omega)] at hll; exact hll
      have hno : ¬ (2 = k ∧ l = hN c k) := by
        rintro ⟨q1, q2⟩; subst q1; omega
      rw [CE_sl E l _ (Nat.le_refl _), n2 14 l hno]
      refine ⟨(D2 l hlc).1, fun q hq => ⟨?_, trivial⟩⟩
      rw [CE_fp E l q _ (Nat.le_refl _), n3 6 l q hno]
      exact ((D2 l hlc).2 q hq).1
  · obtain ⟨a1, a2, a3, a4, a5, a6, a7, a8, a9, a10⟩ := CE_1 E he
    have ho := W.2.2.2.2.2.1 e he
    have gg : ∀ f, fr f = 3 → hG d f (hV c 9 e) = hG c f (hV c 9 e) := fun f hf => n2 f _ (by
      rw [hf]; rintro ⟨q1, q2⟩; have : grp 3 = 3 := rfl; omega)
    rw [a1, a8, CE_fre E he, CE_prc E he, CE_fch E he, gg 10 rfl, gg 11 rfl, gg 12 rfl, gg 13 rfl]
    exact D3 e he
