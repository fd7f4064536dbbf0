/-! the prices of all calls are the sums of all lines, days, accounts -/
theorem sm_zero : ∀ n, sm (fun _ => 0) n = 0
  | 0 => rfl
  | n + 1 => by
    show sm _ n + 0 = 0
    rw [sm_zero n]; rfl
theorem lines_sum {c : hC} (W : WF c) : ∀ k, k ≤ hN c 3 → sm (fun l => sl c l k) (hN c 2) = sm (prc c) k
  | 0, _ => sm_zero _
  | k + 1, hk => by
    have hl := (W.2.2.2.2.1 _ (W.2.2.2.2.2.1 k (by omega))).2.2.1
    have e1 : sm (fun l => sl c l (k + 1)) (hN c 2) = sm (fun l => sl c l k + (if hV c 0 (hV c 9 k) = l then prc c k else 0)) (hN c 2) := by
      refine sm_congr _ fun l _ => ?_
      rw [sl_s]
      by_cases e : hV c 0 (hV c 9 k) = l
      · rw [if_pos e, if_pos e]
      · rw [if_neg e, if_neg e, Int32.add_zero]
    rw [e1, sm_pt, if_pos hl, lines_sum W k (by omega)]
    rfl
theorem accounts_sum {c : hC} (W : WF c) : ∀ k, k ≤ hN c 3 → sm (fun a => sa c a k) (hN c 1) = sm (prc c) k
  | 0, _ => sm_zero _
  | k + 1, hk => by
    have hl := (W.2.2.2.1 _ (W.2.2.2.2.1 _ (W.2.2.2.2.2.1 k (by omega))).2.2.1).2.1
    have e1 : sm (fun a => sa c a (k + 1)) (hN c 1) = sm (fun a => sa c a k + (if aco c (hV c 9 k) = a then prc c k else 0)) (hN c 1) := by
      refine sm_congr _ fun l _ => ?_
      rw [sa_s]
      by_cases e : aco c (hV c 9 k) = l
      · rw [if_pos e, if_pos e]
      · rw [if_neg e, if_neg e, Int32.add_zero]
    have hl2 : aco c (hV c 9 k) < hN c 1 := hl
    rw [e1, sm_pt, if_pos hl2, accounts_sum W k (by omega)]
    rfl
theorem days_sum {c : hC} (W : WF c) : ∀ n, n ≤ hN c 3 → sm (fun d => sm (dsf c (nI d)) n) 30 = sm (fun i => prc c (pl c i)) n
  | 0, _ => sm_zero _
  | n + 1, hn => by
    obtain ⟨mn, hm, e1, e2⟩ := dy_n W (i := n) (by omega)
    have e3 : sm (fun d => sm (dsf c (nI d)) (n + 1)) 30 = sm (fun d => sm (dsf c (nI d)) n + (if mn / 1440 = d then prc c (pl c n) else 0)) 30 := by
      refine sm_congr _ fun d hd => ?_
      show sm (dsf c (nI d)) n + dsf c (nI d) n = _
      congr 1
      unfold dsf
      rw [e2]
      by_cases e : mn / 1440 = d
      · rw [if_pos e, if_pos (by rw [e])]
      · rw [if_neg e, if_neg (fun q => e ((nI_eq (by omega) (by omega)).mp q))]
    rw [e3, sm_pt, if_pos (by omega), days_sum W n (by omega)]
    rfl
theorem prices_sum {c : hC} (W : WF c) : sm (fun i => prc c (pl c i)) (hN c 3) = sm (prc c) (hN c 3) := by
  refine (sm_od W (f := fun i => prc c (pl c i)) (g := prc c) fun k hk => ?_).symm
  show prc c k = prc c (pl c (hV c 9 k))
  rw [pl_od W hk]
theorem chf_nb {k s r : Int32} (hk : nb k 10000) (hs : nb s 7800) (hr : nb r 10000) : nb (chf k s r) 1350000 := by
  obtain ⟨k, hk, rfl⟩ := hk
  obtain ⟨s, hs, rfl⟩ := hs
  obtain ⟨r, hr, rfl⟩ := hr
  unfold chf
  by_cases c : 0 < nI s
  · rw [if_pos c]
    have hsr : s * r ≤ 7800 * 10000 := Nat.mul_le_mul hs hr
    have e : (nI s * nI r + 60) - 1 = nI (s * r + 59) := by
      rw [pk_mul]
      have : nI (s * r) + 60 = nI (s * r + 60) := nI_add _ 60
      rw [this, ns1 (by omega)]; rfl
    rw [e]
    have e2 : nI (s * r + 59) / 60 = nI ((s * r + 59) / 60) := pk_div (d := 60) (by omega) (by omega) (by omega)
    rw [e2, nI_add]
    exact ⟨_, by omega, rfl⟩
  · rw [if_neg c]; exact ⟨0, by omega, rfl⟩
theorem prc_nb {c : hC} (W : WF c) {k : Nat} (hk : k < hN c 3) : nb (prc c k) 1400000 := by
  have ho := W.2.2.2.2.2.1 k hk
  have hl := (W.2.2.2.2.1 _ ho).2.2.1
  have ht : tfo c (hV c 9 k) < hN c 0 := (W.2.2.2.1 _ hl).2.2
  obtain ⟨_, _, t16, t17, t18, _, _, tz⟩ := W.2.1 _ ht
  have hz := (zo_n W ho).2
  obtain ⟨b, f, hb, hf, eb, ef⟩ := fre_nb W hk
  unfold prc
  by_cases c0 : hG c 9 (hV c 9 k) = 0
  · rw [if_pos c0]; exact ⟨0, by omega, rfl⟩
  rw [if_neg c0]
  have h1 : nb (fch c k) 10000 := by
    unfold fch
    rw [if_neg c0]
    by_cases z0 : zo c (hV c 9 k) = 0
    · rw [if_pos z0]; exact ⟨0, by omega, rfl⟩
    · rw [if_neg z0]
      split
      · exact (tz _ (by omega)).2
      · exact ⟨0, by omega, rfl⟩
  have h2 : nb (rt c (hV c 9 k)) 10000 := by
    unfold rt
    by_cases z0 : zo c (hV c 9 k) = 0
    · rw [if_pos z0]
      by_cases p0 : pk c (hV c 9 k)
      · rw [if_pos p0]; exact t17
      · rw [if_neg p0]; exact t18
    · rw [if_neg z0]; exact (tz _ (by omega)).1
  have h3 : nb (bl c (hV c 9 k) - fre c k) 7800 := by
    rw [eb, ef, pk_sub hf]; exact ⟨_, by omega, rfl⟩
  obtain ⟨x, hx, ex⟩ := h1
  obtain ⟨y, hy, ey⟩ := chf_nb t16 h3 h2
  rw [ex, ey, nI_add]
  exact ⟨_, by omega, rfl⟩
theorem sa_nb {c : hC} (W : WF c) (a : Nat) : ∀ k, k ≤ hN c 3 → nb (sa c a k) (1400000 * k)
  | 0, _ => ⟨0, by omega, rfl⟩
  | k + 1, hk => by
    obtain ⟨x, hx, ex⟩ := sa_nb W a k (by omega)
    obtain ⟨y, hy, ey⟩ := prc_nb W (k := k) (by omega)
    rw [sa_s]
    split
    · rw [ex, ey, nI_add]; exact ⟨_, by omega, rfl⟩
    · rw [ex]; exact ⟨x, by omega, rfl⟩
theorem cnt_n {s t p : Nat} (hs : s ≤ 90000000) (ht : t ≤ 1000000) (hp : p ≤ 100) : cnt (nI s) (nI t) (nI p) = nI ((s - (s - t) * p / 100 + 5) / 10) := by
  unfold cnt
  have e1 : (if (0 : Int32) < nI s - nI t then nI s - nI t else 0) = nI (s - t) := by
    by_cases c : t < s
    · rw [pk_sub (by omega), if_pos (show (0 : Int32) < nI (s - t) from nI_lt (a := 0) (by omega) (by omega))]
    · have z : s - t = 0 := by omega
      rw [z, if_neg]
      · rfl
      · by_cases e : s = t
        · rw [e, pk_sub (Nat.le_refl _), Nat.sub_self]; exact Int32.lt_irrefl
        · intro g
          exact absurd (Int32.lt_trans g (pk_sneg (a := s) (b := t) (by omega) (by omega))) Int32.lt_irrefl
  have hm : (s - t) * p ≤ 90000000 * 100 := Nat.mul_le_mul (by omega) hp
  have e3 : lN ((s - t) * p) / 100 = lN ((s - t) * p / 100) := pk_lDiv (b := 100) (by omega) (by omega) (by omega)
  have hd : (s - t) * p / 100 ≤ s := by
    have h1 : (s - t) * p ≤ s * 100 := Nat.mul_le_mul (by omega) hp
    omega
  have e5 : nI (s - (s - t) * p / 100) + 5 = nI (s - (s - t) * p / 100 + 5) := nI_add _ 5
  have e6 : nI (s - (s - t) * p / 100 + 5) / 10 = nI ((s - (s - t) * p / 100 + 5) / 10) := pk_div (d := 10) (by omega) (by omega) (by omega)
  rw [e1, nI_l (by omega), nI_l (by omega), lN_mul, e3, lN_i, pk_sub hd, e5, e6]
/-- the dearest call: its place, and that none is dearer -/
theorem dm_top {c : hC} (W : WF c) : ∀ k, 1 ≤ k → k ≤ hN c 3 → ∃ j, j < k ∧ dm c k = (nI (hV c 9 j), prc c j) ∧ ∀ i, i < k → prc c i ≤ prc c j
  | 0, h, _ => absurd h (by omega)
  | k + 1, _, hk => by
    rw [dm_s]
    by_cases k0 : k = 0
    · subst k0
      obtain ⟨x, hx, ex⟩ := prc_nb W (k := 0) (by omega)
      have e : (dm c 0).2 = -1 := rfl
      rw [if_pos]
      · refine ⟨0, by omega, rfl, fun i hi => ?_⟩
        have e0 : i = 0 := by omega
        subst e0
        exact Int32.le_refl _
      · rw [e, ex]
        exact Int32.lt_of_lt_of_le (by decide) (Int32.not_lt.mp (nI_pos (by omega)))
    · obtain ⟨j, hj, e, top⟩ := dm_top W k (by omega) (by omega)
      rw [e]
      by_cases g : prc c j < prc c k
      · rw [if_pos g]
        refine ⟨k, by omega, rfl, fun i hi => ?_⟩
        by_cases ei : i = k
        · subst ei; exact Int32.le_refl _
        · exact Int32.le_trans (top i (by omega)) (Int32.le_of_lt g)
      · rw [if_neg g]
        refine ⟨j, by omega, rfl, fun i hi => ?_⟩
        by_cases ei : i = k
        · subst ei; exact Int32.not_lt.mp g
        · exact top i (by omega)
/-- billed and free seconds of all calls -/
theorem bl_sum {c : hC} (W : WF c) : ∀ n, n ≤ hN c 3 → ∃ b f : Nat, b ≤ 7800 * n ∧ f ≤ b ∧ sm (bl c) n = nI b ∧ sm (frf c) n = nI f
  | 0, _ => ⟨0, 0, by omega, by omega, rfl, rfl⟩
  | n + 1, hn => by
    obtain ⟨b, f, hb, hf, eb, ef⟩ := bl_sum W n (by omega)
    obtain ⟨p1, p2⟩ := pl_spec W (i := n) (by omega)
    obtain ⟨b2, f2, hb2, hf2, eb2, ef2⟩ := fre_nb W p1
    rw [p2] at eb2
    refine ⟨b + b2, f + f2, by omega, by omega, ?_, ?_⟩
    · show sm (bl c) n + bl c n = _
      rw [eb, eb2, nI_add]
    · show sm (frf c) n + frf c n = _
      have e4 : frf c n = fre c (pl c n) := rfl
      rw [e4]
      rw [ef, ef2, nI_add]
