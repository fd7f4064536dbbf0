/-! the law's own loops -/
theorem vf_ok {a b : Int32} (hb : ¬ b = 0) : vf_n64 (FP.ddiv (FP.i2d a) (FP.i2d b)) := by
  have h1 := Jvm.FP.Core.i2d_mag a
  have h2 := Jvm.FP.Core.i2d_big (v := b) (fun e => hb (Int32.toInt_inj.mp e))
  have h3 : (Jvm.FP.Core.ddiv (Jvm.FP.Core.i2d a) (Jvm.FP.Core.i2d b)).toNat % 2 ^ 63 < (1056 + (1074 - 52 - 1) - 1023 + 3) * 2 ^ 52 := Jvm.FP.Core.ddiv_mag h1 h2.1 h2.2 (by decide) (by decide)
  unfold vf_n64
  have h4 : (FP.ddiv (FP.i2d a) (FP.i2d b)).toNat % 2 ^ 63 < (1056 + (1074 - 52 - 1) - 1023 + 3) * 2 ^ 52 := h3
  rw [UInt64.le_iff_toNat_le, UInt64.toNat_and]
  have e : (0x7fffffffffffffff : UInt64).toNat = 2 ^ 63 - 1 := rfl
  rw [e, Nat.and_two_pow_sub_one_eq_mod]
  have e2 : (0x7ff0000000000000 : UInt64).toNat = 2047 * 2 ^ 52 := rfl
  rw [e2]
  omega
theorem a_told {z A w h m u S} (R : RP z A w h m u S) (W : WF h) {i : Nat} (hi : i < hN h 3) {Q : Int32 → mmS → Prop} {X : String → mmS → Prop} (hQ : Q (hG h 12 i) S) : wp_X4_told z S (A 10 0) (nI i) 3 Q X := by
  have n60 := W.1.2.2.2.1
  refine c_told R W (fun i' hi' e k hk e2 => ?_) (fun g => absurd ⟨i, 3, hi, rfl, by decide, rfl⟩ g)
  have e1 := (nI_eq (by omega) (by omega)).mp e
  have e3 : (3 : Nat) = k := (nI_eq (by omega) (by omega)).mp e2
  subst e1; subst e3
  exact hQ
theorem a_callAt {z A w h m u S} (R : RP z A w h m u S) (W : WF h) {k : Nat} (hk : k < hN h 3) {Q : Int32 → mmS → Prop} {X : String → mmS → Prop} (hQ : Q (nI (hV h 9 k)) S) : wp_X4_callAt z S (A 10 0) (nI k) Q X := by
  have n60 := W.1.2.2.2.1
  refine c_callAt R W (fun k' hk' e => ?_) (fun g => absurd rfl (g k hk))
  have e1 := (nI_eq (by omega) (by omega)).mp e
  subst e1
  exact hQ
/-- the law's prices -/
def PR (h : hC) (m : hM) : Prop := ∀ i, i < hN h 3 → hX m 5 i = hG h 12 i
theorem l_584 {z L} {xs : Nat → Int32} {A w h m S} (R : RP z A w h m 6 S) (V : LV h m) (P : PR h m) {n j : Nat} (n3 : hN h 3 = n) (hn : n ≤ 18) (hj : j < n) (top : ∀ i, i < n → hG h 12 i ≤ hG h 12 j) {T : Int32} :
    ∀ d k, k + d = n → lp_L_law_584 z L xs (d + 1) S (A 10 0) (nI n) (A 11 5) T T T T (nI j) (nI k) := by
  intro d
  induction d with
  | zero =>
    intro k hk
    show bk_L_law_584 z L xs _ S _ _ _ _ _ _ _ _ _
    unfold bk_L_law_584
    refine ⟨fun _ => ?_, fun g => absurd (nI_le (by omega) (by omega)) g⟩
    refine ⟨fun g => g rfl, fun _ => ⟨fun g => g rfl, fun _ => ⟨fun g => g rfl, fun _ => ⟨mem10 R, ?_⟩⟩⟩⟩
    obtain ⟨W, D⟩ := V.1
    obtain ⟨b, f, hb, hf, eb, ef⟩ := bl_sum W (hN h 3) (Nat.le_refl _)
    have fin : ∀ r : UInt64, ((∃ o, FP.dcmp r FP.dconst0 = some o ∧ o ≠ .lt) ∧ ∃ o, FP.dcmp r FP.dconst1 = some o ∧ o ≠ .gt) → ∀ (P1 : Prop), P1 → (Op.cmpValue (FP.dcmp r FP.dconst0) CmpOp.l < 0 → False) ∧ (¬ Op.cmpValue (FP.dcmp r FP.dconst0) CmpOp.l < 0 → P1) := fun r hr P1 h1 => ⟨fun g => fp_cmp0 hr.1 g, fun _ => h1⟩
    have fin2 : ∀ r : UInt64, ((∃ o, FP.dcmp r FP.dconst0 = some o ∧ o ≠ .lt) ∧ ∃ o, FP.dcmp r FP.dconst1 = some o ∧ o ≠ .gt) → (0 < Op.cmpValue (FP.dcmp r FP.dconst1) CmpOp.g → False) ∧ (¬ 0 < Op.cmpValue (FP.dcmp r FP.dconst1) CmpOp.g → True) := fun r hr => ⟨fun g => fp_cmp1 hr.2 g, fun _ => trivial⟩
    have ok : ¬ sm (bl h) (hN h 3) = 0 → vf_n64 (FP.ddiv (FP.i2d (sm (frf h) (hN h 3))) (FP.i2d (sm (bl h) (hN h 3)))) ∧ ((∃ o, FP.dcmp (FP.ddiv (FP.i2d (sm (frf h) (hN h 3))) (FP.i2d (sm (bl h) (hN h 3)))) FP.dconst0 = some o ∧ o ≠ .lt) ∧ ∃ o, FP.dcmp (FP.ddiv (FP.i2d (sm (frf h) (hN h 3))) (FP.i2d (sm (bl h) (hN h 3)))) FP.dconst1 = some o ∧ o ≠ .gt) := by
      intro h0
      refine ⟨vf_ok h0, ?_⟩
      rw [eb, ef]
      rw [eb] at h0
      exact fp_share hf (Nat.pos_of_ne_zero fun e => h0 (by rw [e]; rfl)) (by omega)
    refine c_freeShare R W D (fun h0 => ⟨(ok h0).1, fin _ (ok h0).2 _ ⟨mem10 R, ?_⟩⟩) (fun h0 => fin _ fp_zero _ ⟨mem10 R, ?_⟩)
    · exact c_freeShare R W D (fun h0 => ⟨(ok h0).1, fin2 _ (ok h0).2⟩) (fun _ => fin2 _ fp_zero)
    · exact c_freeShare R W D (fun h0 => ⟨(ok h0).1, fin2 _ (ok h0).2⟩) (fun _ => fin2 _ fp_zero)
  | succ d ih =>
    intro k hk
    show bk_L_law_584 z L xs (lp_L_law_584 z L xs (d + 1)) S _ _ _ _ _ _ _ _ _
    unfold bk_L_law_584
    refine ⟨fun g => absurd g (nI_ge (by omega) (by omega)), fun _ => ?_⟩
    simp (disch := first | assumption | omega | (simp only [hN_sG, hN_sY, hN_sV] <;> first | assumption | omega)) only [rd R, Option.some.injEq, exists_eq_left', true_and, and_true, and_self, ne_eq, not_false_eq_true, not_true_eq_false, false_and, and_false, if_true, if_false, ite_true, ite_false, vin_0, vin_1, vin_2, vin_n, ncl, lit_0, lit_1, lit_2, lit_3, lit_4, lit_9, nm2, nm3, nm4, nm9, na1, na2, na3, na4, hG_sG, hG_sY, hG_sV, hG_sN, hY_sG, hY_sY, hY_sV, hY_sN, hV_sG, hV_sY, hV_sN, hV_sV, hN_sG, hN_sY, hN_sV, hN_sN, hF_sX, hF_sXr, hF_sF, hX_sF, hX_sX, hX_sXr, Nat.reduceEqDiff, Nat.reduceAdd, er_0, er_1, er_2, er_3, er_4, Nat.zero_lt_succ, forall_const, true_implies, false_implies, imp_self, implies_true, P k (by omega), P j (by omega)]
    refine ⟨fun _ => ?_, fun g => g (top k (by omega))⟩
    rintro v rfl
    try rw [na1]
    exact ih (k + 1) (by omega)
theorem tot_ok {x t q y : Nat} (hq : q ≤ x - t) (hy : y = (x - q + 5) / 10) (hx : x ≤ 30000000) : ¬ (x + 5 < 10 * y) ∧ (t < x ∨ (x ≤ t ∧ y = (x + 5) / 10)) ∧ (if t < x then t else x) ≤ 10 * y + 5 := by
  refine ⟨by omega, by omega, ?_⟩
  split <;> omega
theorem sub5 {a b : Nat} (h : a ≤ b + 5) (hb : b < 1000000000) (ha : a < 1000000000) : nI a - 5 ≤ nI b := by
  by_cases g : 5 ≤ a
  · have e : nI a - 5 = nI (a - 5) := pk_sub (b := 5) g
    rw [e]; exact nI_le (by omega) (by omega)
  · exact Int32.le_of_lt (Int32.lt_of_lt_of_le (pk_sneg (a := a) (b := 5) (by omega) (by omega)) (Int32.not_lt.mp (nI_pos (by omega))))
theorem l_474 {z L} {xs : Nat → Int32} {A w h m S} (R : RP z A w h m 6 S) (V : LV h m) (P : PR h m) {n : Nat} (n3 : hN h 3 = n) (hn : 1 ≤ n ∧ n ≤ 18) {T : Int32} (hT : sm (prc h) n = T) :
    ∀ d a, a + d = hN h 1 → lp_L_law_474 z L xs (d + 1) S (A 10 0) (A 11 0) (A 11 2) (nI n) (A 11 5) T T T (sm (fun a => sa h a n) a) (nI a) := by
  obtain ⟨⟨W, D⟩, O, TT, C, x1, x2, g1, g2⟩ := id V
  intro d
  induction d with
  | zero =>
    intro a ha
    show bk_L_law_474 z L xs _ S _ _ _ _ _ _ _ _ _ _
    unfold bk_L_law_474
    simp (disch := first | assumption | omega | (simp only [hN_sG, hN_sY, hN_sV] <;> first | assumption | omega)) only [rd R, Option.some.injEq, exists_eq_left', true_and, and_true, and_self, ne_eq, not_false_eq_true, not_true_eq_false, false_and, and_false, if_true, if_false, ite_true, ite_false, vin_0, vin_1, vin_2, vin_n, ncl, lit_0, lit_1, lit_2, lit_3, lit_4, lit_9, nm2, nm3, nm4, nm9, na1, na2, na3, na4, hG_sG, hG_sY, hG_sV, hG_sN, hY_sG, hY_sY, hY_sV, hY_sN, hV_sG, hV_sY, hV_sN, hV_sV, hN_sG, hN_sY, hN_sV, hN_sN, hF_sX, hF_sXr, hF_sF, hX_sF, hX_sX, hX_sXr, Nat.reduceEqDiff, Nat.reduceAdd, er_0, er_1, er_2, er_3, er_4, Nat.zero_lt_succ, forall_const, true_implies, false_implies, imp_self, implies_true, x1]
    refine ⟨fun _ => ?_, fun g => absurd (nI_le (by omega) (by omega)) g⟩
    have ea : a = hN h 1 := by omega
    have eT : sm (fun a => sa h a n) a = T := by
      rw [ea, ← hT]
      exact accounts_sum W n (by omega)
    rw [eT]
    refine c_dearest R W D ?_
    obtain ⟨j, hj, ej, top⟩ := dm_top W n hn.1 (by omega)
    rw [n3, ej]
    rintro v rfl
    have ho : hV h 9 j < hN h 3 := W.2.2.2.2.2.1 j (by omega)
    refine ⟨n + 1, l_584 R V P n3 hn.2 (by omega) (fun i hi => ?_) n 0 (by omega)⟩
    rw [(DKn W D (i := i) (by omega)).2.2.1, (D.2.2 j (by omega)).2.2.1]
    exact top _ (by have := (pl_spec W (i := i) (by omega)).1; omega)
  | succ d ih =>
    intro a ha
    have ha1 : a < hN h 1 := by omega
    show bk_L_law_474 z L xs (lp_L_law_474 z L xs (d + 1)) S _ _ _ _ _ _ _ _ _ _
    obtain ⟨e0, ⟨t, ht, et⟩, ⟨p, hp, ep⟩⟩ := TT a ha1
    have ex : hX m 2 (3 * a + 1) = nI t := e0.symm.trans et
    obtain ⟨x, hx, exx⟩ := sa_nb W a n (by omega)
    have hx2 : x ≤ 25200000 := by omega
    have hq : (x - t) * p / 100 ≤ x - t := by
      have h1 : (x - t) * p ≤ (x - t) * 100 := Nat.mul_le_mul (Nat.le_refl _) hp
      omega
    obtain ⟨y, hy⟩ : ∃ y, y = (x - (x - t) * p / 100 + 5) / 10 := ⟨_, rfl⟩
    obtain ⟨c1, c2, c3⟩ := tot_ok hq hy (by omega)
    have hyb : 10 * y ≤ x + 5 := by omega
    have es5 : nI x + 5 = nI (x + 5) := nI_add x 5
    have e10 : (10 : Int32) * nI y = nI (10 * y) := pk_mul 10 y
    have ed : nI (x + 5) / 10 = nI ((x + 5) / 10) := pk_div (d := 10) (by omega) (by omega) (by omega)
    have nxt : bk_L_law_543 z L xs (lp_L_law_474 z L xs (d + 1)) S (A 10 0) (A 11 0) (A 11 2) (nI n) (A 11 5) T T T (sm (fun a => sa h a n) a + nI x) (nI a) (nI x) (nI y) := by
      unfold bk_L_law_543
      simp (disch := first | assumption | omega | (simp only [hN_sG, hN_sY, hN_sV] <;> first | assumption | omega)) only [rd R, Option.some.injEq, exists_eq_left', true_and, and_true, and_self, ne_eq, not_false_eq_true, not_true_eq_false, false_and, and_false, if_true, if_false, ite_true, ite_false, vin_0, vin_1, vin_2, vin_n, ncl, lit_0, lit_1, lit_2, lit_3, lit_4, lit_9, nm2, nm3, nm4, nm9, na1, na2, na3, na4, hG_sG, hG_sY, hG_sV, hG_sN, hY_sG, hY_sY, hY_sV, hY_sN, hV_sG, hV_sY, hV_sN, hV_sV, hN_sG, hN_sY, hN_sV, hN_sN, hF_sX, hF_sXr, hF_sF, hX_sF, hX_sX, hX_sXr, Nat.reduceEqDiff, Nat.reduceAdd, er_0, er_1, er_2, er_3, er_4, Nat.zero_lt_succ, forall_const, true_implies, false_implies, imp_self, implies_true, ex, e10]
      have em : (if nI t < nI x then nI t else nI x) = nI (if t < x then t else x) := min_n (by omega) (by omega)
      rw [em]
      refine ⟨fun _ => ?_, fun g => g (sub5 c3 (by omega) (by split <;> omega))⟩
      rintro v rfl
      try rw [na1]
      have := ih (a + 1) (by omega)
      have e2 : sm (fun a => sa h a n) (a + 1) = sm (fun a => sa h a n) a + sa h a n := rfl
      rw [e2, exx] at this
      exact this
    unfold bk_L_law_474
    simp (disch := first | assumption | omega | (simp only [hN_sG, hN_sY, hN_sV] <;> first | assumption | omega)) only [rd R, Option.some.injEq, exists_eq_left', true_and, and_true, and_self, ne_eq, not_false_eq_true, not_true_eq_false, false_and, and_false, if_true, if_false, ite_true, ite_false, vin_0, vin_1, vin_2, vin_n, ncl, lit_0, lit_1, lit_2, lit_3, lit_4, lit_9, nm2, nm3, nm4, nm9, na1, na2, na3, na4, hG_sG, hG_sY, hG_sV, hG_sN, hY_sG, hY_sY, hY_sV, hY_sN, hV_sG, hV_sY, hV_sN, hV_sV, hN_sG, hN_sY, hN_sV, hN_sN, hF_sX, hF_sXr, hF_sF, hX_sF, hX_sX, hX_sXr, Nat.reduceEqDiff, Nat.reduceAdd, er_0, er_1, er_2, er_3, er_4, Nat.zero_lt_succ, forall_const, true_implies, false_implies, imp_self, implies_true, x1]
    refine ⟨fun g => absurd g (nI_ge (by omega) (by omega)), fun _ => ?_⟩
    refine c_sum R W D (fun i hi ei => ?_) (fun g => absurd rfl (g a ha1))
    have e1 : a = i := (nI_eq (by omega) (by omega)).mp ei
    subst e1
    rw [n3, exx]
    rintro v rfl
    simp (disch := first | assumption | omega | (simp only [hN_sG, hN_sY, hN_sV] <;> first | assumption | omega)) only [rd R, Option.some.injEq, exists_eq_left', true_and, and_true, and_self, ne_eq, not_false_eq_true, not_true_eq_false, false_and, and_false, if_true, if_false, ite_true, ite_false, vin_0, vin_1, vin_2, vin_n, ncl, lit_0, lit_1, lit_2, lit_3, lit_4, lit_9, nm2, nm3, nm4, nm9, na1, na2, na3, na4, hG_sG, hG_sY, hG_sV, hG_sN, hY_sG, hY_sY, hY_sV, hY_sN, hV_sG, hV_sY, hV_sN, hV_sV, hN_sG, hN_sY, hN_sV, hN_sN, hF_sX, hF_sXr, hF_sF, hX_sF, hX_sX, hX_sXr, Nat.reduceEqDiff, Nat.reduceAdd, er_0, er_1, er_2, er_3, er_4, Nat.zero_lt_succ, forall_const, true_implies, false_implies, imp_self, implies_true]
    refine c_total R W D (fun i hi ei => ?_) (fun g => absurd rfl (g a ha1))
    have e1 : a = i := (nI_eq (by omega) (by omega)).mp ei
    subst e1
    rw [n3, exx, et, ep, cnt_n (by omega) ht hp, ← hy]
    simp (disch := first | assumption | omega | (simp only [hN_sG, hN_sY, hN_sV] <;> first | assumption | omega)) only [rd R, Option.some.injEq, exists_eq_left', true_and, and_true, and_self, ne_eq, not_false_eq_true, not_true_eq_false, false_and, and_false, if_true, if_false, ite_true, ite_false, vin_0, vin_1, vin_2, vin_n, ncl, lit_0, lit_1, lit_2, lit_3, lit_4, lit_9, nm2, nm3, nm4, nm9, na1, na2, na3, na4, hG_sG, hG_sY, hG_sV, hG_sN, hY_sG, hY_sY, hY_sV, hY_sN, hV_sG, hV_sY, hV_sN, hV_sV, hN_sG, hN_sY, hN_sV, hN_sN, hF_sX, hF_sXr, hF_sF, hX_sF, hX_sX, hX_sXr, Nat.reduceEqDiff, Nat.reduceAdd, er_0, er_1, er_2, er_3, er_4, Nat.zero_lt_succ, forall_const, true_implies, false_implies, imp_self, implies_true, ex, es5, e10]
    refine ⟨fun g => ?_, fun _ => ⟨fun _ => nxt, fun g => ?_⟩⟩
    · rw [nlt (by omega) (by omega)] at g
      exact c1 g
    · rw [nlt (by omega) (by omega)] at g
      have c4 : y = (x + 5) / 10 := by omega
      refine ⟨fun q => q ?_, fun _ => nxt⟩
      rw [ed, c4]
theorem l_444 {z L} {xs : Nat → Int32} {A w h m S} (R : RP z A w h m 6 S) (V : LV h m) (P : PR h m) {n : Nat} (n3 : hN h 3 = n) (hn : 1 ≤ n ∧ n ≤ 18) {T : Int32} (hT : sm (prc h) n = T) :
    ∀ d a, a + d = 30 → lp_L_law_444 z L xs (d + 1) S (A 10 0) (A 11 0) (A 11 2) (nI n) (A 11 5) T T (sm (fun a => sm (dsf h (nI a)) n) a) (nI a) := by
  obtain ⟨⟨W, D⟩, O, TT, C, x1, x2, g1, g2⟩ := id V
  intro d
  induction d with
  | zero =>
    intro a ha
    show bk_L_law_444 z L xs _ S _ _ _ _ _ _ _ _ _
    unfold bk_L_law_444
    have ea : a = 30 := by omega
    refine ⟨fun _ => ?_, fun g => absurd (nI_le (a := 30) (by omega) (by omega)) g⟩
    have eT : sm (fun a => sm (dsf h (nI a)) n) a = T := by
      rw [ea, ← hT, days_sum W n (by omega), ← n3]
      exact prices_sum W
    rw [eT]
    rintro v rfl v rfl
    exact ⟨hN h 1 + 1, l_474 R V P n3 hn hT (hN h 1) 0 (by omega)⟩
  | succ d ih =>
    intro a ha
    show bk_L_law_444 z L xs (lp_L_law_444 z L xs (d + 1)) S _ _ _ _ _ _ _ _ _
    unfold bk_L_law_444
    refine ⟨fun g => absurd g (nI_ge (b := 30) (by omega) (by omega)), fun _ => ⟨mem10 R, ?_⟩⟩
    refine c_daySum R W D (fun _ => ?_) (fun g => absurd ⟨nI_le (a := 0) (by omega) (by omega), nI_le (b := 29) (by omega) (by omega)⟩ g)
    rintro v rfl v rfl
    rw [n3]
    try rw [na1]
    exact ih (a + 1) (by omega)
theorem l_413 {z L} {xs : Nat → Int32} {A w h m S} (R : RP z A w h m 6 S) (V : LV h m) (P : PR h m) {n : Nat} (n3 : hN h 3 = n) (hn : 1 ≤ n ∧ n ≤ 18) {T : Int32} (hT : sm (prc h) n = T) :
    ∀ d a, a + d = hN h 2 → lp_L_law_413 z L xs (d + 1) S (A 10 0) (A 11 0) (A 11 2) (nI n) (A 11 5) T (sm (fun a => sl h a n) a) (nI a) := by
  obtain ⟨⟨W, D⟩, O, TT, C, x1, x2, g1, g2⟩ := id V
  intro d
  induction d with
  | zero =>
    intro a ha
    show bk_L_law_413 z L xs _ S _ _ _ _ _ _ _ _
    unfold bk_L_law_413
    simp (disch := first | assumption | omega | (simp only [hN_sG, hN_sY, hN_sV] <;> first | assumption | omega)) only [rd R, Option.some.injEq, exists_eq_left', true_and, and_true, and_self, ne_eq, not_false_eq_true, not_true_eq_false, false_and, and_false, if_true, if_false, ite_true, ite_false, vin_0, vin_1, vin_2, vin_n, ncl, lit_0, lit_1, lit_2, lit_3, lit_4, lit_9, nm2, nm3, nm4, nm9, na1, na2, na3, na4, hG_sG, hG_sY, hG_sV, hG_sN, hY_sG, hY_sY, hY_sV, hY_sN, hV_sG, hV_sY, hV_sN, hV_sV, hN_sG, hN_sY, hN_sV, hN_sN, hF_sX, hF_sXr, hF_sF, hX_sF, hX_sX, hX_sXr, Nat.reduceEqDiff, Nat.reduceAdd, er_0, er_1, er_2, er_3, er_4, Nat.zero_lt_succ, forall_const, true_implies, false_implies, imp_self, implies_true, x2]
    refine ⟨fun _ => ?_, fun g => absurd (nI_le (by omega) (by omega)) g⟩
    have ea : a = hN h 2 := by omega
    have eT : sm (fun a => sl h a n) a = T := by
      rw [ea, ← hT]
      exact lines_sum W n (by omega)
    rw [eT]
    rintro v rfl v rfl
    exact ⟨31, l_444 R V P n3 hn hT 30 0 (by omega)⟩
  | succ d ih =>
    intro a ha
    have ha1 : a < hN h 2 := by omega
    show bk_L_law_413 z L xs (lp_L_law_413 z L xs (d + 1)) S _ _ _ _ _ _ _ _
    unfold bk_L_law_413
    simp (disch := first | assumption | omega | (simp only [hN_sG, hN_sY, hN_sV] <;> first | assumption | omega)) only [rd R, Option.some.injEq, exists_eq_left', true_and, and_true, and_self, ne_eq, not_false_eq_true, not_true_eq_false, false_and, and_false, if_true, if_false, ite_true, ite_false, vin_0, vin_1, vin_2, vin_n, ncl, lit_0, lit_1, lit_2, lit_3, lit_4, lit_9, nm2, nm3, nm4, nm9, na1, na2, na3, na4, hG_sG, hG_sY, hG_sV, hG_sN, hY_sG, hY_sY, hY_sV, hY_sN, hV_sG, hV_sY, hV_sN, hV_sV, hN_sG, hN_sY, hN_sV, hN_sN, hF_sX, hF_sXr, hF_sF, hX_sF, hX_sX, hX_sXr, Nat.reduceEqDiff, Nat.reduceAdd, er_0, er_1, er_2, er_3, er_4, Nat.zero_lt_succ, forall_const, true_implies, false_implies, imp_self, implies_true, x2]
    refine ⟨fun g => absurd g (nI_ge (by omega) (by omega)), fun _ => ?_⟩
    refine c_lineSum R W D (fun i hi ei => ?_) (fun g => absurd rfl (g a ha1))
    have e1 : a = i := (nI_eq (by omega) (by omega)).mp ei
    subst e1
    rintro v rfl v rfl
    rw [n3]
    try rw [na1]
    exact ih (a + 1) (by omega)
theorem l_384 {z L} {xs : Nat → Int32} {A w h m S} (R : RP z A w h m 6 S) (V : LV h m) (P : PR h m) {n : Nat} (n3 : hN h 3 = n) (hn : 1 ≤ n ∧ n ≤ 18) {T : Int32} (hT : sm (prc h) n = T) :
    ∀ d a, a + d = n → lp_L_law_384 z L xs (d + 1) S (A 10 0) (A 11 0) (A 11 2) (nI n) (A 11 5) (sm (fun i => hX m 5 i) a) (nI a) := by
  obtain ⟨⟨W, D⟩, O, TT, C, x1, x2, g1, g2⟩ := id V
  intro d
  induction d with
  | zero =>
    intro a ha
    show bk_L_law_384 z L xs _ S _ _ _ _ _ _ _
    unfold bk_L_law_384
    refine ⟨fun _ => ?_, fun g => absurd (nI_le (by omega) (by omega)) g⟩
    have ea : a = n := by omega
    have eT : sm (fun i => hX m 5 i) a = T := by
      rw [ea, ← hT, ← n3, ← prices_sum W]
      exact sm_congr _ fun i hi => by rw [P i hi, (DKn W D hi).2.2.1]
    rw [eT]
    rintro v rfl v rfl
    exact ⟨hN h 2 + 1, l_413 R V P n3 hn hT (hN h 2) 0 (by omega)⟩
  | succ d ih =>
    intro a ha
    show bk_L_law_384 z L xs (lp_L_law_384 z L xs (d + 1)) S _ _ _ _ _ _ _
    unfold bk_L_law_384
    refine ⟨fun g => absurd g (nI_ge (by omega) (by omega)), fun _ => ?_⟩
    simp (disch := first | assumption | omega | (simp only [hN_sG, hN_sY, hN_sV] <;> first | assumption | omega)) only [rd R, Option.some.injEq, exists_eq_left', true_and, and_true, and_self, ne_eq, not_false_eq_true, not_true_eq_false, false_and, and_false, if_true, if_false, ite_true, ite_false, vin_0, vin_1, vin_2, vin_n, ncl, lit_0, lit_1, lit_2, lit_3, lit_4, lit_9, nm2, nm3, nm4, nm9, na1, na2, na3, na4, hG_sG, hG_sY, hG_sV, hG_sN, hY_sG, hY_sY, hY_sV, hY_sN, hV_sG, hV_sY, hV_sN, hV_sV, hN_sG, hN_sY, hN_sV, hN_sN, hF_sX, hF_sXr, hF_sF, hX_sF, hX_sX, hX_sXr, Nat.reduceEqDiff, Nat.reduceAdd, er_0, er_1, er_2, er_3, er_4, Nat.zero_lt_succ, forall_const, true_implies, false_implies, imp_self, implies_true]
    rintro v rfl v rfl
    try rw [na1]
    exact ih (a + 1) (by omega)
theorem l_378 {z L} {xs : Nat → Int32} {A w h m S} (R : RP z A w h m 6 S) (V : LV h m) (P : PR h m) {n : Nat} (n3 : hN h 3 = n) (hn : 1 ≤ n ∧ n ≤ 18) : bk_L_law_378 z L xs S (A 10 0) (A 11 0) (A 11 2) (nI n) (A 11 5) := by
  unfold bk_L_law_378
  rintro v rfl v rfl
  exact ⟨n + 1, l_384 R V P n3 hn rfl n 0 (by omega)⟩
theorem t_291 {z L} {xs : Nat → Int32} {A w h m S} (R : RP z A w h m 6 S) (V : LV h m) {n t : Nat} (n3 : hN h 3 = n) (hn : n ≤ 18) {K112 : mmS → Nat → Nat → Nat → Nat → Int32 → Nat → Int32 → Prop} (hK : K112 S (A 10 0) (A 11 0) (A 11 2) (A 11 4) (nI n) (A 11 5) (nI (t + 1))) :
    ∀ d k, k + d = n → ∀ x13, ((k = 0 ∧ x13 = -1) ∨ (1 ≤ k ∧ x13 = nI (hV h 9 (k - 1)))) → lp_L_law_291 z L xs K112 (d + 1) S (A 10 0) (A 11 0) (A 11 2) (A 11 4) (nI n) (A 11 5) (nI t) x13 (nI k) := by
  obtain ⟨⟨W, D⟩, O, TT, C, x1, x2, g1, g2⟩ := id V
  intro d
  induction d with
  | zero =>
    intro k hk x13 hx
    show bk_L_law_291 z L xs K112 _ S _ _ _ _ _ _ _ _ _
    unfold bk_L_law_291
    refine ⟨fun _ => ?_, fun g => absurd (nI_le (by omega) (by omega)) g⟩
    rintro v rfl
    rw [na1]
    exact hK
  | succ d ih =>
    intro k hk x13 hx
    have hk3 : k < hN h 3 := by omega
    have ho : hV h 9 k < hN h 3 := W.2.2.2.2.2.1 k hk3
    show bk_L_law_291 z L xs K112 (lp_L_law_291 z L xs K112 (d + 1)) S _ _ _ _ _ _ _ _ _
    have nxt : bk_L_law_362 z L xs K112 (lp_L_law_291 z L xs K112 (d + 1)) S (A 10 0) (A 11 0) (A 11 2) (A 11 4) (nI n) (A 11 5) (nI t) (nI k) (nI (hV h 9 k)) := by
      unfold bk_L_law_362
      rintro v rfl
      rw [na1]
      exact ih (k + 1) (by omega) _ (.inr ⟨by omega, rfl⟩)
    unfold bk_L_law_291
    refine ⟨fun g => absurd g (nI_ge (by omega) (by omega)), fun _ => ⟨mem10 R, a_callAt R W hk3 ?_⟩⟩
    rcases hx with ⟨k0, rfl⟩ | ⟨k1, rfl⟩
    · exact ⟨fun _ => nxt, fun g => absurd (show (-1 : Int32) < 0 by decide) g⟩
    · have ho2 : hV h 9 (k - 1) < hN h 3 := W.2.2.2.2.2.1 (k - 1) (by omega)
      have srt := W.2.2.2.2.2.2.2.1 (k - 1) k (by omega) hk3
      have tie := O (k - 1) k (by omega) hk3
      have c1 := C _ ho
      have c2 := C _ ho2
      refine ⟨fun g => absurd g (nI_pos (by omega)), fun _ => ?_⟩
      generalize hV h 9 (k - 1) = o2 at *
      generalize hV h 9 k = o1 at *
      simp (disch := first | assumption | omega | (simp only [hN_sG, hN_sY, hN_sV] <;> first | assumption | omega)) only [rd R, Option.some.injEq, exists_eq_left', true_and, and_true, and_self, ne_eq, not_false_eq_true, not_true_eq_false, false_and, and_false, if_true, if_false, ite_true, ite_false, vin_0, vin_1, vin_2, vin_n, ncl, lit_0, lit_1, lit_2, lit_3, lit_4, lit_9, nm2, nm3, nm4, nm9, na1, na2, na3, na4, hG_sG, hG_sY, hG_sV, hG_sN, hY_sG, hY_sY, hY_sV, hY_sN, hV_sG, hV_sY, hV_sN, hV_sV, hN_sG, hN_sY, hN_sV, hN_sN, hF_sX, hF_sXr, hF_sF, hX_sF, hX_sX, hX_sXr, Nat.reduceEqDiff, Nat.reduceAdd, er_0, er_1, er_2, er_3, er_4, Nat.zero_lt_succ, forall_const, true_implies, false_implies, imp_self, implies_true, c1, c2]
      refine ⟨fun g => absurd srt (Int32.not_le.mpr g), fun _ => ⟨fun _ => nxt, fun e => ⟨fun _ => nxt, fun g => ?_⟩⟩⟩
      have := tie e.symm
      exact g (nI_le (by omega) (by omega))
theorem t_218 {z L} {xs : Nat → Int32} {A w h} {n t : Nat} {mi : Int32} {K112 : mmS → Nat → Nat → Nat → Nat → Int32 → Nat → Int32 → Prop} {P0 : Nat → Int32} (n3 : hN h 3 = n + 1) (hn : n ≤ 17) (keep : ∀ i, i < n → hG h 7 i ≤ mi → hG h 12 i = P0 i)
    (hK : ∀ m S, RP z A w h m 6 S → LV h m → PR h m → K112 S (A 10 0) (A 11 0) (A 11 2) (A 11 4) (nI (n + 1)) (A 11 5) (nI (t + 1))) :
    ∀ d c m S, c + d = n → RP z A w h m 6 S → LV h m → (∀ i, i < c → hX m 5 i = hG h 12 i) → (∀ i, c ≤ i → i < n → hX m 5 i = P0 i) → lp_L_law_218 z L xs K112 (d + 1) S (A 10 0) (A 11 0) (A 11 2) (A 11 4) (nI (n + 1)) (A 11 5) (nI t) mi (nI n) (nI c) := by
  intro d
  induction d with
  | zero =>
    intro c m S hc R V p1 p2
    have ec : c = n := by omega
    subst ec
    show bk_L_law_218 z L xs K112 _ S _ _ _ _ _ _ _ _ _ _
    unfold bk_L_law_218
    refine ⟨fun _ => ⟨mem10 R, a_told R V.1.1 (i := c) (by omega) ?_⟩, fun g => absurd (nI_le (by omega) (by omega)) g⟩
    simp (disch := first | assumption | omega | (simp only [hN_sG, hN_sY, hN_sV] <;> first | assumption | omega)) only [rd R, Option.some.injEq, exists_eq_left', true_and, and_true, and_self, ne_eq, not_false_eq_true, not_true_eq_false, false_and, and_false, if_true, if_false, ite_true, ite_false, vin_0, vin_1, vin_2, vin_n, ncl, lit_0, lit_1, lit_2, lit_3, lit_4, lit_9, nm2, nm3, nm4, nm9, na1, na2, na3, na4, hG_sG, hG_sY, hG_sV, hG_sN, hY_sG, hY_sY, hY_sV, hY_sN, hV_sG, hV_sY, hV_sN, hV_sV, hN_sG, hN_sY, hN_sV, hN_sN, hF_sX, hF_sXr, hF_sF, hX_sF, hX_sX, hX_sXr, Nat.reduceEqDiff, Nat.reduceAdd, er_0, er_1, er_2, er_3, er_4, Nat.zero_lt_succ, forall_const, true_implies, false_implies, imp_self, implies_true]
    refine up_X R (by decide) fun S6 R6 => ?_
    rintro v rfl v rfl
    have V6 : LV h (hsX m 5 c (hG h 12 c)) := LV_X V (by omega) (fun e => absurd e (by decide))
    refine ⟨c + 1 + 1, t_291 R6 V6 n3 (by omega) (hK _ S6 R6 V6 fun i hi => ?_) (c + 1) 0 (by omega) (-1) (.inl ⟨rfl, rfl⟩)⟩
    rw [hX_sX]
    by_cases e : i = c
    · subst e; rw [if_pos ⟨rfl, rfl⟩]
    · rw [if_neg (fun q => e q.2)]; exact p1 i (by omega)
  | succ d ih =>
    intro c m S hc R V p1 p2
    show bk_L_law_218 z L xs K112 (lp_L_law_218 z L xs K112 (d + 1)) S _ _ _ _ _ _ _ _ _ _
    have c1 := V.2.2.2.1 c (by omega)
    have nxt : bk_L_law_260 z L xs K112 (lp_L_law_218 z L xs K112 (d + 1)) S (A 10 0) (A 11 0) (A 11 2) (A 11 4) (nI (n + 1)) (A 11 5) (nI t) mi (nI n) (nI c) (hG h 12 c) := by
      unfold bk_L_law_260
      simp (disch := first | assumption | omega | (simp only [hN_sG, hN_sY, hN_sV] <;> first | assumption | omega)) only [rd R, Option.some.injEq, exists_eq_left', true_and, and_true, and_self, ne_eq, not_false_eq_true, not_true_eq_false, false_and, and_false, if_true, if_false, ite_true, ite_false, vin_0, vin_1, vin_2, vin_n, ncl, lit_0, lit_1, lit_2, lit_3, lit_4, lit_9, nm2, nm3, nm4, nm9, na1, na2, na3, na4, hG_sG, hG_sY, hG_sV, hG_sN, hY_sG, hY_sY, hY_sV, hY_sN, hV_sG, hV_sY, hV_sN, hV_sV, hN_sG, hN_sY, hN_sV, hN_sN, hF_sX, hF_sXr, hF_sF, hX_sF, hX_sX, hX_sXr, Nat.reduceEqDiff, Nat.reduceAdd, er_0, er_1, er_2, er_3, er_4, Nat.zero_lt_succ, forall_const, true_implies, false_implies, imp_self, implies_true]
      refine up_X R (by decide) fun S6 R6 => ?_
      rintro v rfl
      try rw [na1]
      refine ih (c + 1) _ S6 (by omega) R6 (LV_X V (by omega) (fun e => absurd e (by decide))) (fun i hi => ?_) (fun i hi hi2 => ?_)
      · rw [hX_sX]
        by_cases e : i = c
        · subst e; rw [if_pos ⟨rfl, rfl⟩]
        · rw [if_neg (fun q => e q.2)]; exact p1 i (by omega)
      · rw [hX_sX, if_neg (fun q => by omega)]; exact p2 i (by omega) hi2
    unfold bk_L_law_218
    refine ⟨fun g => absurd g (nI_ge (by omega) (by omega)), fun _ => ⟨mem10 R, a_told R V.1.1 (i := c) (by omega) ?_⟩⟩
    have c2 := p2 c (Nat.le_refl _) (by omega)
    simp (disch := first | assumption | omega | (simp only [hN_sG, hN_sY, hN_sV] <;> first | assumption | omega)) only [rd R, Option.some.injEq, exists_eq_left', true_and, and_true, and_self, ne_eq, not_false_eq_true, not_true_eq_false, false_and, and_false, if_true, if_false, ite_true, ite_false, vin_0, vin_1, vin_2, vin_n, ncl, lit_0, lit_1, lit_2, lit_3, lit_4, lit_9, nm2, nm3, nm4, nm9, na1, na2, na3, na4, hG_sG, hG_sY, hG_sV, hG_sN, hY_sG, hY_sY, hY_sV, hY_sN, hV_sG, hV_sY, hV_sN, hV_sV, hN_sG, hN_sY, hN_sV, hN_sN, hF_sX, hF_sXr, hF_sF, hX_sF, hX_sX, hX_sXr, Nat.reduceEqDiff, Nat.reduceAdd, er_0, er_1, er_2, er_3, er_4, Nat.zero_lt_succ, forall_const, true_implies, false_implies, imp_self, implies_true, c1, c2]
    refine ⟨fun _ => nxt, fun g => ⟨fun _ => nxt, fun q => q ?_⟩⟩
    exact keep c (by omega) (Int32.not_lt.mp g)
theorem t_112 {z L} (hL : L ≤ 260) {xs : Nat → Int32} : ∀ d t A w h m S n, t + d = 4 → RP z A w h m 6 S → LV h m → PR h m → hN h 3 = n → t ≤ n → n ≤ 14 + t → ∀ e, lp_L_law_112 z L xs (d + 1 + e) S (A 10 0) (A 11 0) (A 11 2) (A 11 4) (nI n) (A 11 5) (nI t) := by
  intro d
  induction d with
  | zero =>
    intro t A w h m S n htd R V P n3 tn nt e
    have e0 : 0 + 1 + e = e + 1 := by omega
    rw [e0]
    show bk_L_law_112 z L xs _ S _ _ _ _ _ _ _
    unfold bk_L_law_112
    exact ⟨fun _ => l_378 R V P n3 (by omega), fun g => absurd (nI_le (a := 4) (by omega) (by omega)) g⟩
  | succ d ih =>
    intro t A w h m S n htd R V P n3 tn nt e
    have e0 : d + 1 + 1 + e = (d + 1 + e) + 1 := by omega
    rw [e0]
    show bk_L_law_112 z L xs (lp_L_law_112 z L xs (d + 1 + e)) S _ _ _ _ _ _ _
    obtain ⟨⟨W, D⟩, O, TT, C, x1, x2, g1, g2⟩ := id V
    unfold bk_L_law_112
    refine ⟨fun g => absurd g (nI_ge (b := 4) (by omega) (by omega)), fun _ => ?_⟩
    refine ru_cell (k := 15 + t) (nI_add 15 t) (by omega) hL fun r2 => ?_
    refine ru_below 3 rfl (by decide) (by decide) fun r4 h4 => ?_
    refine ru_below 1440 rfl (by decide) (by decide) fun r6 h6 => ?_
    have ev : (1440 : Int32) * nI r4 + nI r6 = nI (1440 * r4 + r6) := by
      have a1 : (1440 : Int32) * nI r4 = nI (1440 * r4) := pk_mul 1440 r4
      rw [a1, nI_add]
    rintro v rfl
    rw [ev]
    simp (disch := first | assumption | omega | (simp only [hN_sG, hN_sY, hN_sV] <;> first | assumption | omega)) only [rd R, Option.some.injEq, exists_eq_left', true_and, and_true, and_self, ne_eq, not_false_eq_true, not_true_eq_false, false_and, and_false, if_true, if_false, ite_true, ite_false, vin_0, vin_1, vin_2, vin_n, ncl, lit_0, lit_1, lit_2, lit_3, lit_4, lit_9, nm2, nm3, nm4, nm9, na1, na2, na3, na4, hG_sG, hG_sY, hG_sV, hG_sN, hY_sG, hY_sY, hY_sV, hY_sN, hV_sG, hV_sY, hV_sN, hV_sV, hN_sG, hN_sY, hN_sV, hN_sN, hF_sX, hF_sXr, hF_sF, hX_sF, hX_sX, hX_sXr, Nat.reduceEqDiff, Nat.reduceAdd, er_0, er_1, er_2, er_3, er_4, Nat.zero_lt_succ, forall_const, true_implies, false_implies, imp_self, implies_true, x2]
    refine ru_below (hN h 2) rfl (by omega) (by omega) fun r11 h11 => ?_
    refine ru_below 1500 rfl (by decide) (by decide) fun r13 h13 => ?_
    refine ru_below 3 rfl (by decide) (by decide) fun r15 h15 => ?_
    have e1 : (1 : Int32) + nI r13 = nI (1 + r13) := nI_add 1 r13
    rw [e1]
    refine ⟨mem10 R, ?_⟩
    refine a_addCall R V.1 h11 ⟨nb_n (by omega), ⟨nb_n (by omega), nI_le (a := 1) (by omega) (by omega)⟩, nb_n (by omega)⟩ (by omega) fun A' w' d' h' S' R' I' fx ca s' D' => ⟨fun _ => ?_, fun g => absurd (by rw [n3]) g⟩
    rw [n3]
    obtain ⟨c7, cm, c3, cn, c0⟩ := ca_min ca s'
    rw [← fx 10 0 (by omega), ← fx 11 0 (by omega), ← fx 11 2 (by omega), ← fx 11 4 (by omega), ← fx 11 5 (by omega)]
    simp (disch := first | assumption | omega | (simp only [hN_sG, hN_sY, hN_sV] <;> first | assumption | omega)) only [rd R', Option.some.injEq, exists_eq_left', true_and, and_true, and_self, ne_eq, not_false_eq_true, not_true_eq_false, false_and, and_false, if_true, if_false, ite_true, ite_false, vin_0, vin_1, vin_2, vin_n, ncl, lit_0, lit_1, lit_2, lit_3, lit_4, lit_9, nm2, nm3, nm4, nm9, na1, na2, na3, na4, hG_sG, hG_sY, hG_sV, hG_sN, hY_sG, hY_sY, hY_sV, hY_sN, hV_sG, hV_sY, hV_sN, hV_sV, hN_sG, hN_sY, hN_sV, hN_sN, hF_sX, hF_sXr, hF_sF, hX_sF, hX_sX, hX_sXr, Nat.reduceEqDiff, Nat.reduceAdd, er_0, er_1, er_2, er_3, er_4, Nat.zero_lt_succ, forall_const, true_implies, false_implies, imp_self, implies_true]
    refine up_X R' (by decide) fun S21 R21 => ?_
    have V21 := LV_call (m := hsX m 4 (4 * n + 1) (nI (1440 * r4 + r6))) (LV_X V (by omega) (fun _ => by omega)) ca s' I' (by rw [n3, hX_sX, if_pos ⟨rfl, rfl⟩])
    rintro v rfl v rfl
    try rw [na1]
    refine ⟨n + 1, t_218 (P0 := fun i => hX m 5 i) (by rw [c3, n3]) (by omega) (fun i hi hm => ?_) (fun m2 S2 R2 V2 P2 => ?_) n 0 _ S21 (by omega) R21 V21 (fun i hi => absurd hi (Nat.not_lt_zero i)) (fun i _ _ => by rw [hX_sX, if_neg (fun e => absurd e.1 (by decide))])⟩
    · rw [c7 i (by omega)] at hm
      rw [keep_pr W D ca D' (by omega) hm, P i (by omega)]
    · exact ih (t + 1) A' w' h' m2 S2 (n + 1) (by omega) R2 V2 P2 (by rw [c3, n3]) (by omega) (by omega) e
theorem l_84 {z L} (hL : L ≤ 260) {xs : Nat → Int32} {A w h} {N : Nat} (hN14 : N ≤ 14) (n3 : hN h 3 = N) : ∀ d k m S, k + d = N → RP z A w h m 6 S → LV h m → (∀ i, i < k → hX m 5 i = hG h 12 i) → lp_L_law_84 z L xs (d + 1) S (A 10 0) (A 11 0) (A 11 2) (A 11 4) (nI N) (A 11 5) (nI k) := by
  intro d
  induction d with
  | zero =>
    intro k m S hk R V p1
    show bk_L_law_84 z L xs _ S _ _ _ _ _ _ _
    unfold bk_L_law_84
    refine ⟨fun _ => ?_, fun g => absurd (nI_le (by omega) (by omega)) g⟩
    rintro v rfl
    exact t_112 hL 4 0 A w h m S N (by omega) R V (fun i hi => p1 i (by omega)) n3 (by omega) (by omega) 0
  | succ d ih =>
    intro k m S hk R V p1
    show bk_L_law_84 z L xs (lp_L_law_84 z L xs (d + 1)) S _ _ _ _ _ _ _
    unfold bk_L_law_84
    refine ⟨fun g => absurd g (nI_ge (by omega) (by omega)), fun _ => ⟨mem10 R, a_told R V.1.1 (i := k) (by omega) ?_⟩⟩
    simp (disch := first | assumption | omega | (simp only [hN_sG, hN_sY, hN_sV] <;> first | assumption | omega)) only [rd R, Option.some.injEq, exists_eq_left', true_and, and_true, and_self, ne_eq, not_false_eq_true, not_true_eq_false, false_and, and_false, if_true, if_false, ite_true, ite_false, vin_0, vin_1, vin_2, vin_n, ncl, lit_0, lit_1, lit_2, lit_3, lit_4, lit_9, nm2, nm3, nm4, nm9, na1, na2, na3, na4, hG_sG, hG_sY, hG_sV, hG_sN, hY_sG, hY_sY, hY_sV, hY_sN, hV_sG, hV_sY, hV_sN, hV_sV, hN_sG, hN_sY, hN_sV, hN_sN, hF_sX, hF_sXr, hF_sF, hX_sF, hX_sX, hX_sXr, Nat.reduceEqDiff, Nat.reduceAdd, er_0, er_1, er_2, er_3, er_4, Nat.zero_lt_succ, forall_const, true_implies, false_implies, imp_self, implies_true]
    refine up_X R (by decide) fun S6 R6 => ?_
    rintro v rfl
    try rw [na1]
    refine ih (k + 1) _ S6 (by omega) R6 (LV_X V (by omega) (fun e => absurd e (by decide))) (fun i hi => ?_)
    rw [hX_sX]
    by_cases e : i = k
    · subst e; rw [if_pos ⟨rfl, rfl⟩]
    · rw [if_neg (fun q => e q.2)]; exact p1 i (by omega)
