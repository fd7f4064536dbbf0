/-! lists that grow -/
def hsVr (h : hC) (k : Nat) (g : Nat → Nat) : hC := (hN h, hG h, hY h, mrw (hV h) k g)
theorem hV_sVr (h : hC) (k : Nat) (g : Nat → Nat) (k' i' : Nat) : hV (hsVr h k g) k' i' = if k' = k then g i' else hV h k' i' := Eq.trans rfl rfl
theorem hN_sVr (h : hC) (k : Nat) (g : Nat → Nat) : hN (hsVr h k g) = hN h := Eq.trans rfl rfl
theorem hG_sVr (h : hC) (k : Nat) (g : Nat → Nat) : hG (hsVr h k g) = hG h := Eq.trans rfl rfl
theorem hY_sVr (h : hC) (k : Nat) (g : Nat → Nat) : hY (hsVr h k g) = hY h := Eq.trans rfl rfl
/-- a list's new content -/
def hL (h : hC) (j : Nat) (g : Nat → Nat) (n : Nat) : hC := hsN (hsVr h (5 + j) g) (5 + j) n
theorem hL_N (h : hC) (j : Nat) (g : Nat → Nat) (n k : Nat) : hN (hL h j g n) k = if k = 5 + j then n else hN h k := by
  unfold hL; rw [hN_sN, hN_sVr]
theorem hL_V (h : hC) (j : Nat) (g : Nat → Nat) (n k i : Nat) : hV (hL h j g n) k i = if k = 5 + j then g i else hV h k i := by
  unfold hL; rw [hV_sN, hV_sVr]
theorem hL_G (h : hC) (j : Nat) (g : Nat → Nat) (n : Nat) : hG (hL h j g n) = hG h := by
  unfold hL; rw [hG_sN, hG_sVr]
theorem hL_Y (h : hC) (j : Nat) (g : Nat → Nat) (n : Nat) : hY (hL h j g n) = hY h := by
  unfold hL; rw [hY_sN, hY_sVr]
theorem lv_L (h : hC) (j : Nat) (g : Nat → Nat) (n r : Nat) : lv (hL h j g n) r = lv h r := by
  have e : ∀ k, k < 4 → hN (hL h j g n) k = hN h k := by
    intro k hk; rw [hL_N, if_neg (by omega)]
  unfold lv lvN
  rw [e 0 (by decide), e 1 (by decide), e 2 (by decide), e 3 (by decide)]
theorem RP_list {z A w h m u S} (R : RP z A w h m u S) {j b : Nat} (hj : j < 5) (hb : mR S 25 (A 9 j) = some b) (hz : b ≠ z.1) {n : Nat} (hn : n < mN S b) {row : Nat → Option Nat} {g : Nat → Nat} (hr : ∀ k, k < n + 1 → row k = some (A (er j) (g k))) (hn0 : hN h (5 + j) = n) :
    RP z A w (hL h j g (n + 1)) m u (sI (sQr S b row) 31 (A 9 j) (nI (n + 1))) := by
  have R0 := R
  obtain ⟨R1, R2, R3, R4, R5, R6, R7, R8⟩ := R
  refine ⟨?_, ?_, trivial, ?_, R5, R6, ?_, ?_⟩
  · intro r i hr hi
    rw [lv_L] at hi
    exact R1 r i hr hi
  · intro f i hf hi
    rw [lv_L] at hi
    rw [hL_G]
    show mu2 (mI S) 31 (A 9 j) _ f (A (fr f) i) = _
    unfold mu2
    rw [if_neg (fun e => by omega)]
    exact R2 f i hf hi
  · intro r i h1 h2 hi
    rw [lv_L] at hi
    rw [hL_Y]
    exact R4 r i h1 h2 hi
  · intro f i hf hi
    rw [lv_L] at hi
    have : ti (hL h j g (n + 1)) f i = ti h f i := by
      unfold ti
      by_cases e : f < 3
      · rw [if_pos e, if_pos e, hL_V, if_neg (by omega)]
      · rw [if_neg e, if_neg e]
    rw [this]
    exact R7 f i hf hi
  · intro j' hj'
    obtain ⟨h1, b', h2, h3⟩ := R8 j' hj'
    by_cases e : j' = j
    · subst e
      have eb : b' = b := by rw [hb] at h2; exact (Option.some.inj h2).symm
      subst eb
      refine ⟨?_, b', h2, ?_⟩
      · show mu2 (mI S) 31 (A 9 j') _ 31 (A 9 j') = _
        unfold mu2
        rw [if_pos ⟨rfl, rfl⟩, hL_N, if_pos rfl]
      · rcases h3 with h3 | ⟨g3, g4, g5, g6, g7, g8, g9⟩
        · exact absurd h3.1 hz
        · refine .inr ⟨g3, g4, g5, g6, ?_, g8, fun k hk => ?_⟩
          · rw [hL_N, if_pos rfl]; exact hn
          · rw [hL_N, if_pos rfl] at hk
            rw [hL_V, if_pos rfl]
            show mrw (mQ S) b' row b' k = _
            unfold mrw
            rw [if_pos rfl]
            exact hr k hk
    · refine ⟨?_, b', h2, ?_⟩
      · show mu2 (mI S) 31 (A 9 j) _ 31 (A 9 j') = _
        unfold mu2
        rw [if_neg (fun q => e (RP_inj R0 (by decide) (show j' < lv h 9 from hj') (by decide) (show j < lv h 9 from hj) q.2).2), hL_N, if_neg (by omega)]
        exact h1
      · rcases h3 with h3 | ⟨g3, g4, g5, g6, g7, g8, g9⟩
        · refine .inl ⟨h3.1, ?_⟩
          rw [hL_N, if_neg (by omega)]; exact h3.2
        · refine .inr ⟨g3, g4, g5, g6, ?_, g8, fun k hk => ?_⟩
          · rw [hL_N, if_neg (by omega)]; exact g7
          · rw [hL_N, if_neg (by omega)] at hk
            rw [hL_V, if_neg (by omega)]
            show mrw (mQ S) b row b' k = _
            unfold mrw
            rw [if_neg]
            · exact g9 k hk
            · intro eb
              obtain ⟨h1b, b2, h2b, h3b⟩ := R8 j hj
              have e2 : b2 = b := by rw [hb] at h2b; exact (Option.some.inj h2b).symm
              rcases h3b with h3b | h3b
              · exact hz (by rw [← e2]; exact h3b.1)
              · have q1 := h3b.2.2.2.1
                rw [e2, ← eb, g6] at q1
                exact e (congrArg Prod.snd q1)
/-- the list's row is another one, of the same content -/
theorem RP_newrow {z A w h m u S} (R : RP z A w h m u S) {j q c : Nat} (hj : j < 5) (hq : q ∉ mL S) (hz : q ≠ z.1) {row : Nat → Option Nat} (hc : hN h (5 + j) ≤ c) (hc2 : c ≤ 128) (hr : ∀ k, k < hN h (5 + j) → row k = some (A (er j) (hV h (5 + j) k))) :
    RP z A (va_up w q (14, j)) h m u (sR (sQr (sNq S q c) q row) 25 (A 9 j) (some q)) := by
  have R0 := R
  have hne : ∀ a, a ∈ mL S → ¬ a = q := fun a ha e => hq (e ▸ ha)
  have fr13 : ∀ f, fr f ≤ 13 := by intro f; unfold fr; repeat (first | omega | split)
  have rr13 : ∀ f, rr f ≤ 13 := by intro f; unfold rr; repeat (first | omega | split)
  obtain ⟨R1, R2, R3, R4, R5, R6, R7, R8⟩ := R
  refine ⟨?_, R2, R3, ?_, ?_, ?_, ?_, ?_⟩
  · intro r i hr hi
    obtain ⟨a1, a2, a3⟩ := R1 r i hr hi
    refine ⟨List.mem_append_left _ a1, ?_, ?_⟩
    · show va_up (mK S) q 8 (A r i) = _
      unfold va_up; rw [if_neg (hne _ a1)]; exact a2
    · unfold va_up; rw [if_neg (hne _ a1)]; exact a3
  · intro r i h1 h2 hi
    have a1 := (R1 r i (by omega) hi).1
    refine ⟨?_, (R4 r i h1 h2 hi).2⟩
    show va_up (mN S) q c (A r i) = 3
    unfold va_up; rw [if_neg (hne _ a1)]; exact (R4 r i h1 h2 hi).1
  · intro f hf
    obtain ⟨⟨a1, a2, a3⟩, a4, a5⟩ := R5 f hf
    refine ⟨⟨List.mem_append_left _ a1, ?_, ?_⟩, ?_, a5⟩
    · show va_up (mK S) q 8 (A 11 f) = _
      unfold va_up; rw [if_neg (hne _ a1)]; exact a2
    · unfold va_up; rw [if_neg (hne _ a1)]; exact a3
    · show va_up (mN S) q c (A 11 f) = _
      unfold va_up; rw [if_neg (hne _ a1)]; exact a4
  · trivial
  · intro f i hf hi
    show mu2 (mR S) 25 (A 9 j) (some q) f (A (rr f) i) = _
    unfold mu2
    rw [if_neg (fun e => by omega)]
    exact R7 f i hf hi
  · intro j' hj'
    obtain ⟨h1, b', h2, h3⟩ := R8 j' hj'
    refine ⟨h1, ?_⟩
    by_cases e : j' = j
    · subst e
      refine ⟨q, ?_, .inr ⟨hz, List.mem_append_right _ (List.mem_singleton.mpr rfl), ?_, ?_, ?_, ?_, fun k hk => ?_⟩⟩
      · show mu2 (mR S) 25 (A 9 j') (some q) 25 (A 9 j') = _
        unfold mu2; rw [if_pos ⟨rfl, rfl⟩]
      · exact va_up_self _ _ _
      · exact va_up_self _ _ _
      · show _ ≤ va_up (mN S) q c q
        rw [va_up_self]; exact hc
      · show va_up (mN S) q c q ≤ _
        rw [va_up_self]; exact hc2
      · show mrw (mrw (mQ S) q (fun _ => none)) q row q k = _
        unfold mrw
        rw [if_pos rfl]
        exact hr k hk
    · refine ⟨b', ?_, ?_⟩
      · show mu2 (mR S) 25 (A 9 j) (some q) 25 (A 9 j') = _
        unfold mu2
        rw [if_neg (fun g => e (RP_inj R0 (by decide) (show j' < lv h 9 from hj') (by decide) (show j < lv h 9 from hj) g.2).2)]
        exact h2
      · rcases h3 with h3 | ⟨g3, g4, g5, g6, g7, g8, g9⟩
        · exact .inl h3
        · have hb := hne _ g4
          refine .inr ⟨g3, List.mem_append_left _ g4, ?_, ?_, ?_, ?_, fun k hk => ?_⟩
          · show va_up (mK S) q 8 b' = 8
            unfold va_up; rw [if_neg hb]; exact g5
          · unfold va_up; rw [if_neg hb]; exact g6
          · show _ ≤ va_up (mN S) q c b'
            unfold va_up; rw [if_neg hb]; exact g7
          · show va_up (mN S) q c b' ≤ _
            unfold va_up; rw [if_neg hb]; exact g8
          · show mrw (mrw (mQ S) q (fun _ => none)) q row b' k = _
            unfold mrw
            rw [if_neg hb, if_neg hb]
            exact g9 k hk
theorem RP_s30 {z A w h m u S} (R : RP z A w h m u S) {a : Nat} {v : Int32} : RP z A w h m u (sI S 30 a v) := by
  obtain ⟨R1, R2, R3, R4, R5, R6, R7, R8⟩ := R
  refine ⟨R1, ?_, trivial, R4, R5, R6, R7, ?_⟩
  · intro f i hf hi
    show mu2 (mI S) 30 a v f (A (fr f) i) = _
    unfold mu2
    rw [if_neg (fun e => by omega)]
    exact R2 f i hf hi
  · intro j hj
    obtain ⟨h1, h2⟩ := R8 j hj
    refine ⟨?_, h2⟩
    show mu2 (mI S) 30 a v 31 (A 9 j) = _
    unfold mu2
    rw [if_neg (fun e => by omega)]
    exact h1
