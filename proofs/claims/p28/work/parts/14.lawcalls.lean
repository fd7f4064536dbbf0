/-! 14.lawcalls: weakest preconditions and walks, laid by wip/p28/gen.py -/
theorem lww {b k M j x i : Nat} (h : j + x ≤ i) : b + k * M + j + x ≤ b + k * M + i := by
  generalize k * M = t
  omega
theorem lwe {b k M j i : Nat} (h : j ≤ i) : b + k * M + j ≤ b + k * M + i := by
  generalize k * M = t
  omega
theorem lwr {b k M j x T N : Nat} (hk : k ≤ N) (h : b + N * M + j + x ≤ T) : b + k * M + j + x ≤ T := by
  have h2 := Nat.mul_le_mul_right M hk
  generalize k * M = t at h2 ⊢
  generalize N * M = u at h2 h
  omega
theorem lwq {b k M j T N : Nat} (hk : k ≤ N) (h : b + N * M + j ≤ T) : b + k * M + j ≤ T := by
  have h2 := Nat.mul_le_mul_right M hk
  generalize k * M = t at h2 ⊢
  generalize N * M = u at h2 h
  omega
theorem lwb {b k M j : Nat} (h : j ≤ M) : b + k * M + j ≤ b + (k + 1) * M + 0 := by
  rw [Nat.succ_mul]
  generalize k * M = t
  omega

abbrev rm_L_below : Room := { frames := 1, cells := 0, slots := 0, locals := 0 }
def wp_L_below (z : Nat × Nat) (L : Nat) (xs : Nat → Int32) (S : mmS) (p0 : Int32) (p1 : Int32) (Q : Int32 → mmS → Prop) (X : String → mmS → Prop) : Prop := ¬ p1 = 0 ∧ Q ((p0 &&& (2147483647 : Int32)) - (p0 &&& (2147483647 : Int32)) / p1 * p1) S
set_option maxHeartbeats 4000000 in
set_option maxRecDepth 100000 in
theorem met_L_below (l : Launch) (hl0 : l.stackTraces = false) (g : mG) (S : mmS) (p0 : Int32) (p1 : Int32) (Q : Int32 → mmS → Prop) (X : String → mmS → Prop) (hX0 : ∀ (E : String) (S : mmS), ¬ X E S) (hw : wp_L_below g.2.2.2.2.2 g.2.2.2.2.1.2.1 g.2.2.2.2.1.2.2 S p0 p1 Q X) : mMi l g yL_below (wA_ yL_below cL_below 2 (some .int)) rm_L_below [.int p0, .int p1] S Q X := by
  refine m_of (y := yL_below) (cc := cL_below) (maxL := 2) (ret := (some .int)) (by decide) rfl (Nat.le_of_ble_eq_true rfl) ?_
  intro p e s m args below meth c ls hC hrt hlk hmn hnx hs hH hl
  have hC : CallFix p m c cL_below 2 s args (wA_ yL_below cL_below 2 (some .int)) RL := hC
  have hl : lv_has ls 2 [(0, .int p0), (1, .int p1)] := hl
  unfold wp_L_below at hw
  refine lv_iload_n hC.1 hC.2.1 dL_below_0 rfl (lv_at hl 0 rfl) ?_
  refine lv_ldc hC.1 hC.2.1 hC.2.2.2.1 (hC.2.2.2.2 _ (List.mem_cons_of_mem _ q_50)) dL_below_1 ?_
  refine lv_iand hC.1 hC.2.1 dL_below_3 ?_
  refine lv_iload_n hC.1 hC.2.1 dL_below_4 rfl (lv_at hl 1 rfl) ?_
  obtain ⟨z1, hw⟩ := hw
  refine lv_irem hC.1 hC.2.1 dL_below_5 z1 ?_
  exact m_reti hC hH hrt rfl hlk (Nat.le_of_ble_eq_true rfl) (Nat.le_of_ble_eq_true rfl) dL_below_6 hw
abbrev rm_L_cell : Room := { frames := 1, cells := 0, slots := 0, locals := 0 }
def wp_L_cell (z : Nat × Nat) (L : Nat) (xs : Nat → Int32) (S : mmS) (p1 : Int32) (Q : Int32 → mmS → Prop) (X : String → mmS → Prop) : Prop := ((Int32.ofNat L) ≤ p1 → Q ((790386105 : Int32) * (p1 + (3 : Int32))) S) ∧ (¬ (Int32.ofNat L) ≤ p1 → vp_in p1 L ∧ Q (xs (p1).toNatClampNeg) S)
set_option maxHeartbeats 4000000 in
set_option maxRecDepth 100000 in
theorem met_L_cell (l : Launch) (hl0 : l.stackTraces = false) (g : mG) (S : mmS) (p1 : Int32) (Q : Int32 → mmS → Prop) (X : String → mmS → Prop) (hX0 : ∀ (E : String) (S : mmS), ¬ X E S) (hw : wp_L_cell g.2.2.2.2.2 g.2.2.2.2.1.2.1 g.2.2.2.2.1.2.2 S p1 Q X) : mMi l g yL_cell (wA_ yL_cell cL_cell 2 (some .int)) rm_L_cell [.ref g.2.2.2.2.1.1, .int p1] S Q X := by
  refine m_of (y := yL_cell) (cc := cL_cell) (maxL := 2) (ret := (some .int)) (by decide) rfl (Nat.le_of_ble_eq_true rfl) ?_
  intro p e s m args below meth c ls hC hrt hlk hmn hnx hs hH hl
  have hC : CallFix p m c cL_cell 2 s args (wA_ yL_cell cL_cell 2 (some .int)) RL := hC
  have hl : lv_has ls 2 [(0, .ref g.2.2.2.2.1.1), (1, .int p1)] := hl
  unfold wp_L_cell at hw
  refine lv_iload_n hC.1 hC.2.1 dL_cell_0 rfl (lv_at hl 1 rfl) ?_
  refine lv_aload_n hC.1 hC.2.1 dL_cell_1 rfl (lv_at hl 0 rfl) ?_
  refine va_slen (A := mB g) hC.1 hC.2.1 (mX_x hs) (mX_l hs) (mX_a hs) hH.2.2 dL_cell_2 ?_
  refine lv_icmp_ge (tgt := 12) hC.1 hC.2.1 dL_cell_3 (by decide) (fun hc => ?_) (fun hc => ?_)
  · have hw := hw.1 hc
    refine lv_ldc hC.1 hC.2.1 hC.2.2.2.1 (hC.2.2.2.2 _ (List.mem_cons_of_mem _ q_46)) dL_cell_12 ?_
    refine lv_iload_n hC.1 hC.2.1 dL_cell_14 rfl (lv_at hl 1 rfl) ?_
    refine lv_iconst (v := 3) hC.1 hC.2.1 dL_cell_15 (by decide) ?_
    refine lv_iadd hC.1 hC.2.1 dL_cell_16 ?_
    refine lv_imul hC.1 hC.2.1 dL_cell_17 ?_
    exact m_reti hC hH hrt rfl hlk (Nat.le_of_ble_eq_true rfl) (Nat.le_of_ble_eq_true rfl) dL_cell_18 hw
  · have hw := hw.2 hc
    refine lv_aload_n hC.1 hC.2.1 dL_cell_6 rfl (lv_at hl 0 rfl) ?_
    refine lv_iload_n hC.1 hC.2.1 dL_cell_7 rfl (lv_at hl 1 rfl) ?_
    obtain ⟨i1, hw⟩ := hw
    refine va_sld (A := mB g) hC.1 hC.2.1 (mX_x hs) (mX_l hs) (mX_a hs) hH.2.2 i1 dL_cell_8 ?_
    refine lv_goto (tgt := 18) hC.1 hC.2.1 dL_cell_9 (by decide) ?_
    exact m_reti hC hH hrt rfl hlk (Nat.le_of_ble_eq_true rfl) (Nat.le_of_ble_eq_true rfl) dL_cell_18 hw
abbrev rm_L_build : Room := { frames := 8, cells := 44, slots := 1424, locals := 197 }
def bk_L_build_643 (z : Nat × Nat) (L : Nat) (xs : Nat → Int32) (Q : Int32 → mmS → Prop) (X : String → mmS → Prop) (S : mmS)  : Prop := Q (1 : Int32) S
def bk_L_build_550 (z : Nat × Nat) (L : Nat) (xs : Nat → Int32) (Q : Int32 → mmS → Prop) (X : String → mmS → Prop) (K550 : mmS → Nat → Int32 → Nat → Nat → Int32 → Prop) (S : mmS) (x0 : Nat) (x2 : Int32) (x3 : Nat) (x6 : Nat) (x7 : Int32) : Prop := (x3 ∈ mL S ∧ mK S x3 = 7) ∧ vp_in (2 : Int32) (mN S x3) ∧ ((mA S x3 ((2 : Int32)).toNatClampNeg) ≤ x7 → bk_L_build_643 z L xs Q X S) ∧ (¬ (mA S x3 ((2 : Int32)).toNatClampNeg) ≤ x7 → wp_L_cell z L xs S x2 (fun r4 S3 => (x3 ∈ mL S3 ∧ mK S3 x3 = 7) ∧ vp_in (1 : Int32) (mN S3 x3) ∧ wp_L_below z L xs S3 (r4 >>> (((8 : Int32) + x7) &&& 31)) (mA S3 x3 ((1 : Int32)).toNatClampNeg) (fun r8 S7 => (x6 ∈ mL S7 ∧ mK S7 x6 = 7) ∧ vp_in ((2 : Int32) * x7) (mN S7 x6) ∧ ∀ S11 : mmS, S11 = sA S7 x6 ((2 : Int32) * x7).toNatClampNeg r8 → wp_L_cell z L xs S11 x2 (fun r13 S12 => (x3 ∈ mL S12 ∧ mK S12 x3 = 7) ∧ vp_in (0 : Int32) (mN S12 x3) ∧ wp_L_below z L xs S12 (r13 >>> (((12 : Int32) + ((2 : Int32) * x7)) &&& 31)) (mA S12 x3 ((0 : Int32)).toNatClampNeg) (fun r17 S16 => (x6 ∈ mL S16 ∧ mK S16 x6 = 7) ∧ vp_in (((2 : Int32) * x7) + (1 : Int32)) (mN S16 x6) ∧ ∀ S20 : mmS, S20 = sA S16 x6 (((2 : Int32) * x7) + (1 : Int32)).toNatClampNeg r17 → vp_in ((2 : Int32) * x7) (mN S20 x6) ∧ vp_in (((2 : Int32) * x7) + (1 : Int32)) (mN S20 x6) ∧ (x0 ∈ mL S20 ∧ mK S20 x0 = 4) ∧ wp_X4_addLine z S20 x0 (mA S20 x6 ((2 : Int32) * x7).toNatClampNeg) (mA S20 x6 (((2 : Int32) * x7) + (1 : Int32)).toNatClampNeg) (fun r25 S23 => (r25 = x7 → ∀ v26 : Int32, v26 = x7 + 1 → K550 S23 x0 x2 x3 x6 v26) ∧ (¬ r25 = x7 → Q (0 : Int32) S23)) X) X) X) X) X)
def lp_L_build_550 (z : Nat × Nat) (L : Nat) (xs : Nat → Int32) (Q : Int32 → mmS → Prop) (X : String → mmS → Prop) : Nat → mmS → Nat → Int32 → Nat → Nat → Int32 → Prop
  | 0 => fun _ _ _ _ _ _ => False
  | n + 1 => bk_L_build_550 z L xs Q X (lp_L_build_550 z L xs Q X n)
def bk_L_build_530 (z : Nat × Nat) (L : Nat) (xs : Nat → Int32) (Q : Int32 → mmS → Prop) (X : String → mmS → Prop) (S : mmS) (x0 : Nat) (x2 : Int32) (x3 : Nat) (x6 : Nat) : Prop := wp_L_cell z L xs S x2 (fun r2 S1 => wp_L_below z L xs S1 (r2 >>> ((6 : Int32) &&& 31)) (4 : Int32) (fun r4 S3 => (x3 ∈ mL S3 ∧ mK S3 x3 = 7) ∧ vp_in (2 : Int32) (mN S3 x3) ∧ ∀ S7 : mmS, S7 = sA S3 x3 ((2 : Int32)).toNatClampNeg ((1 : Int32) + r4) → ∀ v8 : Int32, v8 = (0 : Int32) → lp_L_build_550 z L xs Q X 5 S7 x0 x2 x3 x6 v8) X) X
def bk_L_build_487 (z : Nat × Nat) (L : Nat) (xs : Nat → Int32) (Q : Int32 → mmS → Prop) (X : String → mmS → Prop) (K383 : mmS → Nat → Int32 → Nat → Nat → Nat → Int32 → Prop) (S : mmS) (x0 : Nat) (x2 : Int32) (x3 : Nat) (x5 : Nat) (x6 : Nat) (x7 : Int32) (t0 : Nat) (t1 : Int32) (t2 : Int32) : Prop := (t0 ∈ mL S ∧ mK S t0 = 7) ∧ vp_in t1 (mN S t0) ∧ ∀ S3 : mmS, S3 = sA S t0 (t1).toNatClampNeg t2 → (x5 ∈ mL S3 ∧ mK S3 x5 = 7) ∧ vp_in ((3 : Int32) * x7) (mN S3 x5) ∧ vp_in (((3 : Int32) * x7) + (1 : Int32)) (mN S3 x5) ∧ vp_in (((3 : Int32) * x7) + (2 : Int32)) (mN S3 x5) ∧ (x0 ∈ mL S3 ∧ mK S3 x0 = 4) ∧ wp_X4_addAccount z S3 x0 (mA S3 x5 ((3 : Int32) * x7).toNatClampNeg) (mA S3 x5 (((3 : Int32) * x7) + (1 : Int32)).toNatClampNeg) (mA S3 x5 (((3 : Int32) * x7) + (2 : Int32)).toNatClampNeg) (fun r10 S8 => (r10 = x7 → ∀ v11 : Int32, v11 = x7 + 1 → K383 S8 x0 x2 x3 x5 x6 v11) ∧ (¬ r10 = x7 → Q (0 : Int32) S8)) X
def bk_L_build_432 (z : Nat × Nat) (L : Nat) (xs : Nat → Int32) (Q : Int32 → mmS → Prop) (X : String → mmS → Prop) (K383 : mmS → Nat → Int32 → Nat → Nat → Nat → Int32 → Prop) (S : mmS) (x0 : Nat) (x2 : Int32) (x3 : Nat) (x5 : Nat) (x6 : Nat) (x7 : Int32) (x8 : Int32) (t0 : Nat) (t1 : Int32) (t2 : Int32) : Prop := (t0 ∈ mL S ∧ mK S t0 = 7) ∧ vp_in t1 (mN S t0) ∧ ∀ S3 : mmS, S3 = sA S t0 (t1).toNatClampNeg t2 → wp_L_below z L xs S3 (x8 >>> ((5 : Int32) &&& 31)) (3000 : Int32) (fun r5 S4 => (x5 ∈ mL S4 ∧ mK S4 x5 = 7) ∧ vp_in (((3 : Int32) * x7) + (1 : Int32)) (mN S4 x5) ∧ ∀ S8 : mmS, S8 = sA S4 x5 (((3 : Int32) * x7) + (1 : Int32)).toNatClampNeg r5 → wp_L_below z L xs S8 (x8 >>> ((8 : Int32) &&& 31)) (3 : Int32) (fun r10 S9 => (¬ r10 = 0 → bk_L_build_487 z L xs Q X K383 S9 x0 x2 x3 x5 x6 x7 x5 (((3 : Int32) * x7) + (2 : Int32)) (10 : Int32)) ∧ (r10 = 0 → wp_L_below z L xs S9 (x8 >>> ((10 : Int32) &&& 31)) (101 : Int32) (fun r12 S11 => bk_L_build_487 z L xs Q X K383 S11 x0 x2 x3 x5 x6 x7 x5 (((3 : Int32) * x7) + (2 : Int32)) r12) X)) X) X
def bk_L_build_383 (z : Nat × Nat) (L : Nat) (xs : Nat → Int32) (Q : Int32 → mmS → Prop) (X : String → mmS → Prop) (K383 : mmS → Nat → Int32 → Nat → Nat → Nat → Int32 → Prop) (S : mmS) (x0 : Nat) (x2 : Int32) (x3 : Nat) (x5 : Nat) (x6 : Nat) (x7 : Int32) : Prop := (x3 ∈ mL S ∧ mK S x3 = 7) ∧ vp_in (1 : Int32) (mN S x3) ∧ ((mA S x3 ((1 : Int32)).toNatClampNeg) ≤ x7 → bk_L_build_530 z L xs Q X S x0 x2 x3 x6) ∧ (¬ (mA S x3 ((1 : Int32)).toNatClampNeg) ≤ x7 → wp_L_cell z L xs S ((x2 + (4 : Int32)) + x7) (fun r4 S3 => wp_L_below z L xs S3 r4 (3 : Int32) (fun r6 S5 => (¬ r6 = 0 → wp_L_below z L xs S5 (r4 >>> ((2 : Int32) &&& 31)) (2500 : Int32) (fun r8 S7 => bk_L_build_432 z L xs Q X K383 S7 x0 x2 x3 x5 x6 x7 r4 x5 ((3 : Int32) * x7) r8) X) ∧ (r6 = 0 → bk_L_build_432 z L xs Q X K383 S5 x0 x2 x3 x5 x6 x7 r4 x5 ((3 : Int32) * x7) (0 : Int32))) X) X)
def lp_L_build_383 (z : Nat × Nat) (L : Nat) (xs : Nat → Int32) (Q : Int32 → mmS → Prop) (X : String → mmS → Prop) : Nat → mmS → Nat → Int32 → Nat → Nat → Nat → Int32 → Prop
  | 0 => fun _ _ _ _ _ _ _ => False
  | n + 1 => bk_L_build_383 z L xs Q X (lp_L_build_383 z L xs Q X n)
def bk_L_build_364 (z : Nat × Nat) (L : Nat) (xs : Nat → Int32) (Q : Int32 → mmS → Prop) (X : String → mmS → Prop) (S : mmS) (x0 : Nat) (x2 : Int32) (x3 : Nat) (x5 : Nat) (x6 : Nat) : Prop := wp_L_cell z L xs S x2 (fun r2 S1 => wp_L_below z L xs S1 (r2 >>> ((3 : Int32) &&& 31)) (2 : Int32) (fun r4 S3 => (x3 ∈ mL S3 ∧ mK S3 x3 = 7) ∧ vp_in (1 : Int32) (mN S3 x3) ∧ ∀ S7 : mmS, S7 = sA S3 x3 ((1 : Int32)).toNatClampNeg ((1 : Int32) + r4) → ∀ v8 : Int32, v8 = (0 : Int32) → lp_L_build_383 z L xs Q X 3 S7 x0 x2 x3 x5 x6 v8) X) X
def bk_L_build_231 (z : Nat × Nat) (L : Nat) (xs : Nat → Int32) (Q : Int32 → mmS → Prop) (X : String → mmS → Prop) (K17 : mmS → Nat → Int32 → Nat → Nat → Nat → Nat → Int32 → Prop) (K231 : mmS → Nat → Int32 → Nat → Nat → Nat → Nat → Int32 → Int32 → Int32 → Prop) (S : mmS) (x0 : Nat) (x2 : Int32) (x3 : Nat) (x4 : Nat) (x5 : Nat) (x6 : Nat) (x7 : Int32) (x8 : Int32) (x10 : Int32) : Prop := ((3 : Int32) ≤ x10 → ∀ v1 : Int32, v1 = x7 + 1 → K17 S x0 x2 x3 x4 x5 x6 v1) ∧ (¬ (3 : Int32) ≤ x10 → wp_L_below z L xs S (x8 >>> (((5 : Int32) * x10) &&& 31)) (700 : Int32) (fun r3 S2 => (x4 ∈ mL S2 ∧ mK S2 x4 = 7) ∧ vp_in ((((9 : Int32) * x7) + (3 : Int32)) + ((2 : Int32) * x10)) (mN S2 x4) ∧ ∀ S6 : mmS, S6 = sA S2 x4 ((((9 : Int32) * x7) + (3 : Int32)) + ((2 : Int32) * x10)).toNatClampNeg r3 → wp_L_below z L xs S6 (x8 >>> (((10 : Int32) + x10) &&& 31)) (2 : Int32) (fun r8 S7 => wp_L_below z L xs S7 (x8 >>> (((13 : Int32) + x10) &&& 31)) (30 : Int32) (fun r10 S9 => (x4 ∈ mL S9 ∧ mK S9 x4 = 7) ∧ vp_in ((((9 : Int32) * x7) + (4 : Int32)) + ((2 : Int32) * x10)) (mN S9 x4) ∧ ∀ S13 : mmS, S13 = sA S9 x4 ((((9 : Int32) * x7) + (4 : Int32)) + ((2 : Int32) * x10)).toNatClampNeg ((r8 * (100 : Int32)) * r10) → vp_in ((((9 : Int32) * x7) + (3 : Int32)) + ((2 : Int32) * x10)) (mN S13 x4) ∧ vp_in ((((9 : Int32) * x7) + (4 : Int32)) + ((2 : Int32) * x10)) (mN S13 x4) ∧ (x0 ∈ mL S13 ∧ mK S13 x0 = 4) ∧ wp_X4_setZone z S13 x0 x7 x10 (mA S13 x4 ((((9 : Int32) * x7) + (3 : Int32)) + ((2 : Int32) * x10)).toNatClampNeg) (mA S13 x4 ((((9 : Int32) * x7) + (4 : Int32)) + ((2 : Int32) * x10)).toNatClampNeg) (fun r18 S16 => (r18 = 0 → ∀ v19 : Int32, v19 = x10 + 1 → K231 S16 x0 x2 x3 x4 x5 x6 x7 x8 v19) ∧ (¬ r18 = 0 → Q (0 : Int32) S16)) X) X) X) X)
def lp_L_build_231 (z : Nat × Nat) (L : Nat) (xs : Nat → Int32) (Q : Int32 → mmS → Prop) (X : String → mmS → Prop) (K17 : mmS → Nat → Int32 → Nat → Nat → Nat → Nat → Int32 → Prop) : Nat → mmS → Nat → Int32 → Nat → Nat → Nat → Nat → Int32 → Int32 → Int32 → Prop
  | 0 => fun _ _ _ _ _ _ _ _ _ _ => False
  | n + 1 => bk_L_build_231 z L xs Q X K17 (lp_L_build_231 z L xs Q X K17 n)
def bk_L_build_17 (z : Nat × Nat) (L : Nat) (xs : Nat → Int32) (Q : Int32 → mmS → Prop) (X : String → mmS → Prop) (K17 : mmS → Nat → Int32 → Nat → Nat → Nat → Nat → Int32 → Prop) (S : mmS) (x0 : Nat) (x2 : Int32) (x3 : Nat) (x4 : Nat) (x5 : Nat) (x6 : Nat) (x7 : Int32) : Prop := (x3 ∈ mL S ∧ mK S x3 = 7) ∧ vp_in (0 : Int32) (mN S x3) ∧ ((mA S x3 ((0 : Int32)).toNatClampNeg) ≤ x7 → bk_L_build_364 z L xs Q X S x0 x2 x3 x5 x6) ∧ (¬ (mA S x3 ((0 : Int32)).toNatClampNeg) ≤ x7 → wp_L_cell z L xs S ((x2 + (1 : Int32)) + x7) (fun r4 S3 => ∀ q5 : Nat, q5 ∉ mL S3 → ∀ S7 : mmS, S7 = sNa S3 q5 5 → vp_in (0 : Int32) (mN S7 q5) ∧ ∀ S9 : mmS, S9 = sA S7 q5 ((0 : Int32)).toNatClampNeg (1 : Int32) → vp_in (1 : Int32) (mN S9 q5) ∧ ∀ S11 : mmS, S11 = sA S9 q5 ((1 : Int32)).toNatClampNeg (60 : Int32) → vp_in (2 : Int32) (mN S11 q5) ∧ ∀ S13 : mmS, S13 = sA S11 q5 ((2 : Int32)).toNatClampNeg (30 : Int32) → vp_in (3 : Int32) (mN S13 q5) ∧ ∀ S15 : mmS, S15 = sA S13 q5 ((3 : Int32)).toNatClampNeg (10 : Int32) → vp_in (4 : Int32) (mN S15 q5) ∧ ∀ S17 : mmS, S17 = sA S15 q5 ((4 : Int32)).toNatClampNeg (300 : Int32) → wp_L_below z L xs S17 r4 (9 : Int32) (fun r19 S18 => (x4 ∈ mL S18 ∧ mK S18 x4 = 7) ∧ vp_in ((9 : Int32) * x7) (mN S18 x4) ∧ ∀ S22 : mmS, S22 = sA S18 x4 ((9 : Int32) * x7).toNatClampNeg ((10 : Int32) * r19) → wp_L_below z L xs S22 (r4 >>> ((3 : Int32) &&& 31)) (200 : Int32) (fun r24 S23 => (x4 ∈ mL S23 ∧ mK S23 x4 = 7) ∧ vp_in (((9 : Int32) * x7) + (1 : Int32)) (mN S23 x4) ∧ ∀ S27 : mmS, S27 = sA S23 x4 (((9 : Int32) * x7) + (1 : Int32)).toNatClampNeg r24 → wp_L_below z L xs S27 (r4 >>> ((6 : Int32) &&& 31)) (100 : Int32) (fun r29 S28 => (x4 ∈ mL S28 ∧ mK S28 x4 = 7) ∧ vp_in (((9 : Int32) * x7) + (2 : Int32)) (mN S28 x4) ∧ ∀ S32 : mmS, S32 = sA S28 x4 (((9 : Int32) * x7) + (2 : Int32)).toNatClampNeg r29 → wp_L_below z L xs S32 (r4 >>> ((9 : Int32) &&& 31)) (5 : Int32) (fun r34 S33 => (q5 ∈ mL S33 ∧ mK S33 q5 = 7) ∧ vp_in r34 (mN S33 q5) ∧ (x4 ∈ mL S33 ∧ mK S33 x4 = 7) ∧ vp_in (((9 : Int32) * x7) + (3 : Int32)) (mN S33 x4) ∧ ∀ S39 : mmS, S39 = sA S33 x4 (((9 : Int32) * x7) + (3 : Int32)).toNatClampNeg (mA S33 q5 (r34).toNatClampNeg) → wp_L_below z L xs S39 (r4 >>> ((12 : Int32) &&& 31)) (5 : Int32) (fun r41 S40 => (q5 ∈ mL S40 ∧ mK S40 q5 = 7) ∧ vp_in r41 (mN S40 q5) ∧ (x4 ∈ mL S40 ∧ mK S40 x4 = 7) ∧ vp_in (((9 : Int32) * x7) + (4 : Int32)) (mN S40 x4) ∧ ∀ S46 : mmS, S46 = sA S40 x4 (((9 : Int32) * x7) + (4 : Int32)).toNatClampNeg (mA S40 q5 (r41).toNatClampNeg) → vp_in ((9 : Int32) * x7) (mN S46 x4) ∧ vp_in (((9 : Int32) * x7) + (1 : Int32)) (mN S46 x4) ∧ vp_in (((9 : Int32) * x7) + (2 : Int32)) (mN S46 x4) ∧ vp_in (((9 : Int32) * x7) + (3 : Int32)) (mN S46 x4) ∧ vp_in (((9 : Int32) * x7) + (4 : Int32)) (mN S46 x4) ∧ (x0 ∈ mL S46 ∧ mK S46 x0 = 4) ∧ wp_X4_addTariff z S46 x0 (mA S46 x4 ((9 : Int32) * x7).toNatClampNeg) (mA S46 x4 (((9 : Int32) * x7) + (1 : Int32)).toNatClampNeg) (mA S46 x4 (((9 : Int32) * x7) + (2 : Int32)).toNatClampNeg) (mA S46 x4 (((9 : Int32) * x7) + (3 : Int32)).toNatClampNeg) (mA S46 x4 (((9 : Int32) * x7) + (4 : Int32)).toNatClampNeg) (fun r54 S52 => (r54 = x7 → ∀ v55 : Int32, v55 = (1 : Int32) → ∃ n : Nat, lp_L_build_231 z L xs Q X K17 n S52 x0 x2 x3 x4 x5 x6 x7 r4 v55) ∧ (¬ r54 = x7 → Q (0 : Int32) S52)) X) X) X) X) X) X) X)
def lp_L_build_17 (z : Nat × Nat) (L : Nat) (xs : Nat → Int32) (Q : Int32 → mmS → Prop) (X : String → mmS → Prop) : Nat → mmS → Nat → Int32 → Nat → Nat → Nat → Nat → Int32 → Prop
  | 0 => fun _ _ _ _ _ _ _ _ => False
  | n + 1 => bk_L_build_17 z L xs Q X (lp_L_build_17 z L xs Q X n)
def wp_L_build (z : Nat × Nat) (L : Nat) (xs : Nat → Int32) (S : mmS) (p0 : Nat) (p2 : Int32) (p3 : Nat) (p4 : Nat) (p5 : Nat) (p6 : Nat) (Q : Int32 → mmS → Prop) (X : String → mmS → Prop) : Prop := wp_L_cell z L xs S p2 (fun r2 S1 => wp_L_below z L xs S1 r2 (3 : Int32) (fun r4 S3 => (p3 ∈ mL S3 ∧ mK S3 p3 = 7) ∧ vp_in (0 : Int32) (mN S3 p3) ∧ ∀ S7 : mmS, S7 = sA S3 p3 ((0 : Int32)).toNatClampNeg ((1 : Int32) + r4) → ∀ v8 : Int32, v8 = (0 : Int32) → lp_L_build_17 z L xs Q X 4 S7 p0 p2 p3 p4 p5 p6 v8) X) X
set_option maxHeartbeats 4000000 in
set_option maxRecDepth 100000 in
theorem bw_L_build_643 {p : Program} {l : Launch} {e : Env} {s : State} {m : MethodId} {args : Array Value} {below : List Frame} {meth : Method} {c : Code} {g : mG} {Q : Int32 → mmS → Prop} {X : String → mmS → Prop} (hl0 : l.stackTraces = false) (hC : CallFix p m c cL_build 11 s args (wA_ yL_build cL_build 11 (some .boolean)) RL) (hrt : meth.sig.returnType = (some .boolean)) (hlk : meth.locks = false) (hmn : meth.name = yL_build.name) (hnx : ∀ x ∈ c.exceptionTable.toList, False) (hs : mX g s) (hX0 : ∀ (E : String) (S : mmS), ¬ X E S) : ∀ (S : mmS), bk_L_build_643 g.2.2.2.2.2 g.2.2.2.2.1.2.1 g.2.2.2.2.1.2.2 Q X S → ∀ (H : Heap) (locs : List Loc), mH g S s H locs → ∀ ls : Array Slot, lv_has ls 11 [] → W p l e rm_L_build s m args below meth c H locs 39 1281 (vx_MQ below (va_Qi Q (wO g) (mB g)) (vx_X (fun _ : mmS => True) (fun E S1 t => X E S1 ∧ wO g S1 t) (mB g)) args s rm_L_build.cells rm_L_build.slots (mB g)) (F0 m 643 ls []) := by
  intro S hw H locs hH ls hl
  unfold bk_L_build_643 at hw
  refine lv_iconst (v := 1) hC.1 hC.2.1 dL_build_643 (by decide) ?_
  exact m_reti hC hH hrt rfl hlk (Nat.le_of_ble_eq_true rfl) (Nat.le_of_ble_eq_true rfl) dL_build_644 hw
set_option maxHeartbeats 4000000 in
set_option maxRecDepth 100000 in
theorem bw_L_build_550 {p : Program} {l : Launch} {e : Env} {s : State} {m : MethodId} {args : Array Value} {below : List Frame} {meth : Method} {c : Code} {g : mG} {Q : Int32 → mmS → Prop} {X : String → mmS → Prop} (hl0 : l.stackTraces = false) (hC : CallFix p m c cL_build 11 s args (wA_ yL_build cL_build 11 (some .boolean)) RL) (hrt : meth.sig.returnType = (some .boolean)) (hlk : meth.locks = false) (hmn : meth.name = yL_build.name) (hnx : ∀ x ∈ c.exceptionTable.toList, False) (hs : mX g s) (hX0 : ∀ (E : String) (S : mmS), ¬ X E S) {k : Nat} (hk : k ≤ 4) {K550 : mmS → Nat → Int32 → Nat → Nat → Int32 → Prop} (hk550 : ∀ (S : mmS) (x0 : Nat) (x2 : Int32) (x3 : Nat) (x6 : Nat) (x7 : Int32), K550 S x0 x2 x3 x6 x7 → ∀ (H : Heap) (locs : List Loc), mH g S s H locs → ∀ ls : Array Slot, lv_has ls 11 [(0, .ref x0), (1, .ref g.2.2.2.2.1.1), (2, .int x2), (3, .ref x3), (6, .ref x6), (7, .int x7)] → W p l e rm_L_build s m args below meth c H locs (19 + (k + 1) * 5 + 0) (709 + (k + 1) * 143 + 0) (vx_MQ below (va_Qi Q (wO g) (mB g)) (vx_X (fun _ : mmS => True) (fun E S1 t => X E S1 ∧ wO g S1 t) (mB g)) args s rm_L_build.cells rm_L_build.slots (mB g)) (F0 m 550 ls [])) : ∀ (S : mmS) (x0 : Nat) (x2 : Int32) (x3 : Nat) (x6 : Nat) (x7 : Int32), bk_L_build_550 g.2.2.2.2.2 g.2.2.2.2.1.2.1 g.2.2.2.2.1.2.2 Q X K550 S x0 x2 x3 x6 x7 → ∀ (H : Heap) (locs : List Loc), mH g S s H locs → ∀ ls : Array Slot, lv_has ls 11 [(0, .ref x0), (1, .ref g.2.2.2.2.1.1), (2, .int x2), (3, .ref x3), (6, .ref x6), (7, .int x7)] → W p l e rm_L_build s m args below meth c H locs (19 + k * 5 + 0) (709 + k * 143 + 0) (vx_MQ below (va_Qi Q (wO g) (mB g)) (vx_X (fun _ : mmS => True) (fun E S1 t => X E S1 ∧ wO g S1 t) (mB g)) args s rm_L_build.cells rm_L_build.slots (mB g)) (F0 m 550 ls []) := by
  intro S x0 x2 x3 x6 x7 hw H locs hH ls hl
  unfold bk_L_build_550 at hw
  refine lv_iload hC.1 hC.2.1 dL_build_550 (lv_at hl 5 rfl) ?_
  refine lv_aload_n hC.1 hC.2.1 dL_build_552 rfl (lv_at hl 3 rfl) ?_
  refine lv_iconst (v := 2) hC.1 hC.2.1 dL_build_553 (by decide) ?_
  obtain ⟨k1, hw⟩ := hw
  obtain ⟨i2, hw⟩ := hw
  refine m_iald hC hs hH k1 i2 dL_build_554 ?_
  refine lv_icmp_ge (tgt := 643) hC.1 hC.2.1 dL_build_555 (by decide) (fun hc => ?_) (fun hc => ?_)
  · have hw := hw.1 hc
    refine W.widen (k := 39) (n := 1281) (lwq hk (Nat.le_of_ble_eq_true rfl)) (lwq hk (Nat.le_of_ble_eq_true rfl)) ?_
    exact bw_L_build_643 hl0 hC hrt hlk hmn hnx hs hX0 _ hw _ _ hH _ (lv_sub hl [] rfl)
  · have hw := hw.2 hc
    refine lv_aload hC.1 hC.2.1 dL_build_558 (lv_at hl 4 rfl) ?_
    refine lv_iconst (v := 2) hC.1 hC.2.1 dL_build_560 (by decide) ?_
    refine lv_iload hC.1 hC.2.1 dL_build_561 (lv_at hl 5 rfl) ?_
    refine lv_imul hC.1 hC.2.1 dL_build_563 ?_
    refine lv_aload_n hC.1 hC.2.1 dL_build_564 rfl (lv_at hl 1 rfl) ?_
    refine lv_iload_n hC.1 hC.2.1 dL_build_565 rfl (lv_at hl 2 rfl) ?_
    refine m_callSi (y := yL_cell) (rest := [.int _, .ref _]) hC hs hH hl.1 (va_cwS 2 hC.2.2.2.2 (gA_S q_43 q_44 q_41 q_45) rfl rfl rfl (by decide +kernel) ⟨Nat.le_of_ble_eq_true rfl, Nat.le_of_ble_eq_true rfl⟩) (met_L_cell l hl0 g _ _ _ _ hX0 hw) rfl rfl (Nat.le_of_ble_eq_true rfl) dL_build_566 ⟨lwr hk (Nat.le_of_ble_eq_true rfl), lwr hk (Nat.le_of_ble_eq_true rfl)⟩ (fun E S1 _ _ _ _ hx => (hX0 E S1 hx).elim) (fun r4 S1 H locs hw hH => ?_)
    refine W.widen (k := (19 + k * 5 + 0)) (n := (709 + k * 143 + 0)) (lww (Nat.le_of_ble_eq_true rfl)) (lww (Nat.le_of_ble_eq_true rfl)) ?_
    refine lv_bipush (v := 8) hC.1 hC.2.1 dL_build_569 (by decide) ?_
    refine lv_iload hC.1 hC.2.1 dL_build_571 (lv_at hl 5 rfl) ?_
    refine lv_iadd hC.1 hC.2.1 dL_build_573 ?_
    refine lv_ishr hC.1 hC.2.1 dL_build_574 ?_
    refine lv_aload_n hC.1 hC.2.1 dL_build_575 rfl (lv_at hl 3 rfl) ?_
    refine lv_iconst (v := 1) hC.1 hC.2.1 dL_build_576 (by decide) ?_
    obtain ⟨k5, hw⟩ := hw
    obtain ⟨i6, hw⟩ := hw
    refine m_iald hC hs hH k5 i6 dL_build_577 ?_
    refine m_callSi (y := yL_below) (rest := [.int _, .ref _]) hC hs hH hl.1 (va_cwS 2 hC.2.2.2.2 (gA_S q_47 q_48 q_41 q_49) rfl rfl rfl (by decide +kernel) ⟨Nat.le_of_ble_eq_true rfl, Nat.le_of_ble_eq_true rfl⟩) (met_L_below l hl0 g _ _ _ _ _ hX0 hw) rfl rfl (Nat.le_of_ble_eq_true rfl) dL_build_578 ⟨lwr hk (Nat.le_of_ble_eq_true rfl), lwr hk (Nat.le_of_ble_eq_true rfl)⟩ (fun E S1 _ _ _ _ hx => (hX0 E S1 hx).elim) (fun r8 S1 H locs hw hH => ?_)
    refine W.widen (k := (19 + k * 5 + 0)) (n := (709 + k * 143 + 0)) (lww (Nat.le_of_ble_eq_true rfl)) (lww (Nat.le_of_ble_eq_true rfl)) ?_
    obtain ⟨k9, hw⟩ := hw
    obtain ⟨i10, hw⟩ := hw
    have hw := hw _ rfl
    refine m_iast hC hs hH k9 i10 dL_build_581 (fun H locs hH => ?_)
    refine lv_aload hC.1 hC.2.1 dL_build_582 (lv_at hl 4 rfl) ?_
    refine lv_iconst (v := 2) hC.1 hC.2.1 dL_build_584 (by decide) ?_
    refine lv_iload hC.1 hC.2.1 dL_build_585 (lv_at hl 5 rfl) ?_
    refine lv_imul hC.1 hC.2.1 dL_build_587 ?_
    refine lv_iconst (v := 1) hC.1 hC.2.1 dL_build_588 (by decide) ?_
    refine lv_iadd hC.1 hC.2.1 dL_build_589 ?_
    refine lv_aload_n hC.1 hC.2.1 dL_build_590 rfl (lv_at hl 1 rfl) ?_
    refine lv_iload_n hC.1 hC.2.1 dL_build_591 rfl (lv_at hl 2 rfl) ?_
    refine m_callSi (y := yL_cell) (rest := [.int _, .ref _]) hC hs hH hl.1 (va_cwS 2 hC.2.2.2.2 (gA_S q_43 q_44 q_41 q_45) rfl rfl rfl (by decide +kernel) ⟨Nat.le_of_ble_eq_true rfl, Nat.le_of_ble_eq_true rfl⟩) (met_L_cell l hl0 g _ _ _ _ hX0 hw) rfl rfl (Nat.le_of_ble_eq_true rfl) dL_build_592 ⟨lwr hk (Nat.le_of_ble_eq_true rfl), lwr hk (Nat.le_of_ble_eq_true rfl)⟩ (fun E S1 _ _ _ _ hx => (hX0 E S1 hx).elim) (fun r13 S1 H locs hw hH => ?_)
    refine W.widen (k := (19 + k * 5 + 0)) (n := (709 + k * 143 + 0)) (lww (Nat.le_of_ble_eq_true rfl)) (lww (Nat.le_of_ble_eq_true rfl)) ?_
    refine lv_bipush (v := 12) hC.1 hC.2.1 dL_build_595 (by decide) ?_
    refine lv_iconst (v := 2) hC.1 hC.2.1 dL_build_597 (by decide) ?_
    refine lv_iload hC.1 hC.2.1 dL_build_598 (lv_at hl 5 rfl) ?_
    refine lv_imul hC.1 hC.2.1 dL_build_600 ?_
    refine lv_iadd hC.1 hC.2.1 dL_build_601 ?_
    refine lv_ishr hC.1 hC.2.1 dL_build_602 ?_
    refine lv_aload_n hC.1 hC.2.1 dL_build_603 rfl (lv_at hl 3 rfl) ?_
    refine lv_iconst (v := 0) hC.1 hC.2.1 dL_build_604 (by decide) ?_
    obtain ⟨k14, hw⟩ := hw
    obtain ⟨i15, hw⟩ := hw
    refine m_iald hC hs hH k14 i15 dL_build_605 ?_
    refine m_callSi (y := yL_below) (rest := [.int _, .ref _]) hC hs hH hl.1 (va_cwS 2 hC.2.2.2.2 (gA_S q_47 q_48 q_41 q_49) rfl rfl rfl (by decide +kernel) ⟨Nat.le_of_ble_eq_true rfl, Nat.le_of_ble_eq_true rfl⟩) (met_L_below l hl0 g _ _ _ _ _ hX0 hw) rfl rfl (Nat.le_of_ble_eq_true rfl) dL_build_606 ⟨lwr hk (Nat.le_of_ble_eq_true rfl), lwr hk (Nat.le_of_ble_eq_true rfl)⟩ (fun E S1 _ _ _ _ hx => (hX0 E S1 hx).elim) (fun r17 S1 H locs hw hH => ?_)
    refine W.widen (k := (19 + k * 5 + 0)) (n := (709 + k * 143 + 0)) (lww (Nat.le_of_ble_eq_true rfl)) (lww (Nat.le_of_ble_eq_true rfl)) ?_
    obtain ⟨k18, hw⟩ := hw
    obtain ⟨i19, hw⟩ := hw
    have hw := hw _ rfl
    refine m_iast hC hs hH k18 i19 dL_build_609 (fun H locs hH => ?_)
    refine lv_aload_n hC.1 hC.2.1 dL_build_610 rfl (lv_at hl 0 rfl) ?_
    refine lv_aload hC.1 hC.2.1 dL_build_611 (lv_at hl 4 rfl) ?_
    refine lv_iconst (v := 2) hC.1 hC.2.1 dL_build_613 (by decide) ?_
    refine lv_iload hC.1 hC.2.1 dL_build_614 (lv_at hl 5 rfl) ?_
    refine lv_imul hC.1 hC.2.1 dL_build_616 ?_
    obtain ⟨i21, hw⟩ := hw
    refine m_iald hC hs hH k18 i21 dL_build_617 ?_
    refine lv_aload hC.1 hC.2.1 dL_build_618 (lv_at hl 4 rfl) ?_
    refine lv_iconst (v := 2) hC.1 hC.2.1 dL_build_620 (by decide) ?_
    refine lv_iload hC.1 hC.2.1 dL_build_621 (lv_at hl 5 rfl) ?_
    refine lv_imul hC.1 hC.2.1 dL_build_623 ?_
    refine lv_iconst (v := 1) hC.1 hC.2.1 dL_build_624 (by decide) ?_
    refine lv_iadd hC.1 hC.2.1 dL_build_625 ?_
    obtain ⟨i22, hw⟩ := hw
    refine m_iald hC hs hH k18 i22 dL_build_626 ?_
    obtain ⟨k24, hw⟩ := hw
    refine m_callVi (y := yX4_addLine) (rest := []) hC hs hH hl.1 (cwV 2 hC.2.2.2.2 (gA_V q_271 q_272 q_273 q_2 q_274) rfl rfl rfl (by decide +kernel) ⟨Nat.le_of_ble_eq_true rfl, Nat.le_of_ble_eq_true rfl⟩) cs4 k24 (met_X4_addLine l hl0 g _ _ _ _ _ _ hX0 hw) rfl rfl (Nat.le_of_ble_eq_true rfl) dL_build_627 ⟨lwr hk (Nat.le_of_ble_eq_true rfl), lwr hk (Nat.le_of_ble_eq_true rfl)⟩ (fun E S1 _ _ _ _ hx => (hX0 E S1 hx).elim) (fun r25 S1 H locs hw hH => ?_)
    refine W.widen (k := (19 + k * 5 + 5)) (n := (709 + k * 143 + 143)) (lww (Nat.le_of_ble_eq_true rfl)) (lww (Nat.le_of_ble_eq_true rfl)) ?_
    refine lv_iload hC.1 hC.2.1 dL_build_630 (lv_at hl 5 rfl) ?_
    refine lv_icmp_eq (tgt := 637) hC.1 hC.2.1 dL_build_632 (by decide) (fun hc => ?_) (fun hc => ?_)
    · have hw := hw.1 hc
      have hw := hw _ rfl
      refine lv_iinc (lv' := [(7, .int _), (0, .ref _), (1, .ref _), (2, .int _), (3, .ref _), (6, .ref _)]) hC.1 hC.2.1 dL_build_637 hl (k := 5) rfl (rfl : (_ : Int32) + Int32.ofInt 1 = (_ : Int32) + 1) (by decide) rfl (fun ls hl => ?_)
      refine lv_goto (tgt := 550) hC.1 hC.2.1 dL_build_640 (by decide) ?_
      refine W.widen (k := (19 + (k + 1) * 5 + 0)) (n := (709 + (k + 1) * 143 + 0)) (lwb (Nat.le_of_ble_eq_true rfl)) (lwb (Nat.le_of_ble_eq_true rfl)) ?_
      exact hk550 _ _ _ _ _ _ hw _ _ hH _ (lv_sub hl [1, 2, 3, 4, 5, 0] rfl)
    · have hw := hw.2 hc
      refine lv_iconst (v := 0) hC.1 hC.2.1 dL_build_635 (by decide) ?_
      exact m_reti hC hH hrt rfl hlk (lwq hk (Nat.le_of_ble_eq_true rfl)) (lwq hk (Nat.le_of_ble_eq_true rfl)) dL_build_636 hw
theorem lw_L_build_550 {p : Program} {l : Launch} {e : Env} {s : State} {m : MethodId} {args : Array Value} {below : List Frame} {meth : Method} {c : Code} {g : mG} {Q : Int32 → mmS → Prop} {X : String → mmS → Prop} (hl0 : l.stackTraces = false) (hC : CallFix p m c cL_build 11 s args (wA_ yL_build cL_build 11 (some .boolean)) RL) (hrt : meth.sig.returnType = (some .boolean)) (hlk : meth.locks = false) (hmn : meth.name = yL_build.name) (hnx : ∀ x ∈ c.exceptionTable.toList, False) (hs : mX g s) (hX0 : ∀ (E : String) (S : mmS), ¬ X E S) : ∀ (n k : Nat), k + n = 5 → ∀ (S : mmS) (x0 : Nat) (x2 : Int32) (x3 : Nat) (x6 : Nat) (x7 : Int32), lp_L_build_550 g.2.2.2.2.2 g.2.2.2.2.1.2.1 g.2.2.2.2.1.2.2 Q X n S x0 x2 x3 x6 x7 → ∀ (H : Heap) (locs : List Loc), mH g S s H locs → ∀ ls : Array Slot, lv_has ls 11 [(0, .ref x0), (1, .ref g.2.2.2.2.1.1), (2, .int x2), (3, .ref x3), (6, .ref x6), (7, .int x7)] → W p l e rm_L_build s m args below meth c H locs (19 + k * 5 + 0) (709 + k * 143 + 0) (vx_MQ below (va_Qi Q (wO g) (mB g)) (vx_X (fun _ : mmS => True) (fun E S1 t => X E S1 ∧ wO g S1 t) (mB g)) args s rm_L_build.cells rm_L_build.slots (mB g)) (F0 m 550 ls []) := by
  intro n
  induction n with
  | zero => intro k hk S x0 x2 x3 x6 x7 hw; exact False.elim hw
  | succ n ih => exact fun k hk S x0 x2 x3 x6 x7 hw => bw_L_build_550 hl0 hC hrt hlk hmn hnx hs hX0 (k := k) (by omega) (K550 := lp_L_build_550 g.2.2.2.2.2 g.2.2.2.2.1.2.1 g.2.2.2.2.1.2.2 Q X n) (ih (k + 1) (by omega)) S x0 x2 x3 x6 x7 hw
set_option maxHeartbeats 4000000 in
set_option maxRecDepth 100000 in
theorem bw_L_build_530 {p : Program} {l : Launch} {e : Env} {s : State} {m : MethodId} {args : Array Value} {below : List Frame} {meth : Method} {c : Code} {g : mG} {Q : Int32 → mmS → Prop} {X : String → mmS → Prop} (hl0 : l.stackTraces = false) (hC : CallFix p m c cL_build 11 s args (wA_ yL_build cL_build 11 (some .boolean)) RL) (hrt : meth.sig.returnType = (some .boolean)) (hlk : meth.locks = false) (hmn : meth.name = yL_build.name) (hnx : ∀ x ∈ c.exceptionTable.toList, False) (hs : mX g s) (hX0 : ∀ (E : String) (S : mmS), ¬ X E S) : ∀ (S : mmS) (x0 : Nat) (x2 : Int32) (x3 : Nat) (x6 : Nat), bk_L_build_530 g.2.2.2.2.2 g.2.2.2.2.1.2.1 g.2.2.2.2.1.2.2 Q X S x0 x2 x3 x6 → ∀ (H : Heap) (locs : List Loc), mH g S s H locs → ∀ ls : Array Slot, lv_has ls 11 [(0, .ref x0), (1, .ref g.2.2.2.2.1.1), (2, .int x2), (3, .ref x3), (6, .ref x6)] → W p l e rm_L_build s m args below meth c H locs 19 709 (vx_MQ below (va_Qi Q (wO g) (mB g)) (vx_X (fun _ : mmS => True) (fun E S1 t => X E S1 ∧ wO g S1 t) (mB g)) args s rm_L_build.cells rm_L_build.slots (mB g)) (F0 m 530 ls []) := by
  intro S x0 x2 x3 x6 hw H locs hH ls hl
  unfold bk_L_build_530 at hw
  refine lv_aload_n hC.1 hC.2.1 dL_build_530 rfl (lv_at hl 3 rfl) ?_
  refine lv_iconst (v := 2) hC.1 hC.2.1 dL_build_531 (by decide) ?_
  refine lv_iconst (v := 1) hC.1 hC.2.1 dL_build_532 (by decide) ?_
  refine lv_aload_n hC.1 hC.2.1 dL_build_533 rfl (lv_at hl 1 rfl) ?_
  refine lv_iload_n hC.1 hC.2.1 dL_build_534 rfl (lv_at hl 2 rfl) ?_
  refine m_callSi (y := yL_cell) (rest := [.int _, .int _, .ref _]) hC hs hH hl.1 (va_cwS 2 hC.2.2.2.2 (gA_S q_43 q_44 q_41 q_45) rfl rfl rfl (by decide +kernel) ⟨Nat.le_of_ble_eq_true rfl, Nat.le_of_ble_eq_true rfl⟩) (met_L_cell l hl0 g _ _ _ _ hX0 hw) rfl rfl (Nat.le_of_ble_eq_true rfl) dL_build_535 ⟨Nat.le_of_ble_eq_true rfl, Nat.le_of_ble_eq_true rfl⟩ (fun E S1 _ _ _ _ hx => (hX0 E S1 hx).elim) (fun r2 S1 H locs hw hH => ?_)
  refine W.widen (k := 19) (n := 709) (Nat.le_of_ble_eq_true rfl) (Nat.le_of_ble_eq_true rfl) ?_
  refine lv_bipush (v := 6) hC.1 hC.2.1 dL_build_538 (by decide) ?_
  refine lv_ishr hC.1 hC.2.1 dL_build_540 ?_
  refine lv_iconst (v := 4) hC.1 hC.2.1 dL_build_541 (by decide) ?_
  refine m_callSi (y := yL_below) (rest := [.int _, .int _, .ref _]) hC hs hH hl.1 (va_cwS 2 hC.2.2.2.2 (gA_S q_47 q_48 q_41 q_49) rfl rfl rfl (by decide +kernel) ⟨Nat.le_of_ble_eq_true rfl, Nat.le_of_ble_eq_true rfl⟩) (met_L_below l hl0 g _ _ _ _ _ hX0 hw) rfl rfl (Nat.le_of_ble_eq_true rfl) dL_build_542 ⟨Nat.le_of_ble_eq_true rfl, Nat.le_of_ble_eq_true rfl⟩ (fun E S1 _ _ _ _ hx => (hX0 E S1 hx).elim) (fun r4 S1 H locs hw hH => ?_)
  refine W.widen (k := 19) (n := 709) (Nat.le_of_ble_eq_true rfl) (Nat.le_of_ble_eq_true rfl) ?_
  refine lv_iadd hC.1 hC.2.1 dL_build_545 ?_
  obtain ⟨k5, hw⟩ := hw
  obtain ⟨i6, hw⟩ := hw
  have hw := hw _ rfl
  refine m_iast hC hs hH k5 i6 dL_build_546 (fun H locs hH => ?_)
  refine lv_iconst (v := 0) hC.1 hC.2.1 dL_build_547 (by decide) ?_
  have hw := hw _ rfl
  refine lv_istore (lv' := [(7, .int _), (0, .ref _), (1, .ref _), (2, .int _), (3, .ref _), (6, .ref _)]) hC.1 hC.2.1 dL_build_548 hl (by decide) rfl (fun ls hl => ?_)
  refine W.widen (k := 19 + 0 * 5 + 0) (n := 709 + 0 * 143 + 0) (Nat.le_of_ble_eq_true rfl) (Nat.le_of_ble_eq_true rfl) ?_
  exact lw_L_build_550 hl0 hC hrt hlk hmn hnx hs hX0 5 0 rfl _ _ _ _ _ _ hw _ _ hH _ (lv_sub hl [1, 2, 3, 4, 5, 0] rfl)
set_option maxHeartbeats 4000000 in
set_option maxRecDepth 100000 in
theorem bw_L_build_487 {p : Program} {l : Launch} {e : Env} {s : State} {m : MethodId} {args : Array Value} {below : List Frame} {meth : Method} {c : Code} {g : mG} {Q : Int32 → mmS → Prop} {X : String → mmS → Prop} (hl0 : l.stackTraces = false) (hC : CallFix p m c cL_build 11 s args (wA_ yL_build cL_build 11 (some .boolean)) RL) (hrt : meth.sig.returnType = (some .boolean)) (hlk : meth.locks = false) (hmn : meth.name = yL_build.name) (hnx : ∀ x ∈ c.exceptionTable.toList, False) (hs : mX g s) (hX0 : ∀ (E : String) (S : mmS), ¬ X E S) {k : Nat} (hk : k ≤ 2) {K383 : mmS → Nat → Int32 → Nat → Nat → Nat → Int32 → Prop} (hk383 : ∀ (S : mmS) (x0 : Nat) (x2 : Int32) (x3 : Nat) (x5 : Nat) (x6 : Nat) (x7 : Int32), K383 S x0 x2 x3 x5 x6 x7 → ∀ (H : Heap) (locs : List Loc), mH g S s H locs → ∀ ls : Array Slot, lv_has ls 11 [(0, .ref x0), (1, .ref g.2.2.2.2.1.1), (2, .int x2), (3, .ref x3), (5, .ref x5), (6, .ref x6), (7, .int x7)] → W p l e rm_L_build s m args below meth c H locs (15 + (k + 1) * 2 + 0) (441 + (k + 1) * 134 + 0) (vx_MQ below (va_Qi Q (wO g) (mB g)) (vx_X (fun _ : mmS => True) (fun E S1 t => X E S1 ∧ wO g S1 t) (mB g)) args s rm_L_build.cells rm_L_build.slots (mB g)) (F0 m 383 ls [])) : ∀ (S : mmS) (x0 : Nat) (x2 : Int32) (x3 : Nat) (x5 : Nat) (x6 : Nat) (x7 : Int32) (t0 : Nat) (t1 : Int32) (t2 : Int32), bk_L_build_487 g.2.2.2.2.2 g.2.2.2.2.1.2.1 g.2.2.2.2.1.2.2 Q X K383 S x0 x2 x3 x5 x6 x7 t0 t1 t2 → ∀ (H : Heap) (locs : List Loc), mH g S s H locs → ∀ ls : Array Slot, lv_has ls 11 [(0, .ref x0), (1, .ref g.2.2.2.2.1.1), (2, .int x2), (3, .ref x3), (5, .ref x5), (6, .ref x6), (7, .int x7)] → W p l e rm_L_build s m args below meth c H locs (15 + k * 2 + 0) (441 + k * 134 + 0) (vx_MQ below (va_Qi Q (wO g) (mB g)) (vx_X (fun _ : mmS => True) (fun E S1 t => X E S1 ∧ wO g S1 t) (mB g)) args s rm_L_build.cells rm_L_build.slots (mB g)) (F0 m 487 ls [.int t2, .int t1, .ref t0]) := by
  intro S x0 x2 x3 x5 x6 x7 t0 t1 t2 hw H locs hH ls hl
  unfold bk_L_build_487 at hw
  obtain ⟨k1, hw⟩ := hw
  obtain ⟨i2, hw⟩ := hw
  have hw := hw _ rfl
  refine m_iast hC hs hH k1 i2 dL_build_487 (fun H locs hH => ?_)
  refine lv_aload_n hC.1 hC.2.1 dL_build_488 rfl (lv_at hl 0 rfl) ?_
  refine lv_aload hC.1 hC.2.1 dL_build_489 (lv_at hl 4 rfl) ?_
  refine lv_iconst (v := 3) hC.1 hC.2.1 dL_build_491 (by decide) ?_
  refine lv_iload hC.1 hC.2.1 dL_build_492 (lv_at hl 6 rfl) ?_
  refine lv_imul hC.1 hC.2.1 dL_build_494 ?_
  obtain ⟨k4, hw⟩ := hw
  obtain ⟨i5, hw⟩ := hw
  refine m_iald hC hs hH k4 i5 dL_build_495 ?_
  refine lv_aload hC.1 hC.2.1 dL_build_496 (lv_at hl 4 rfl) ?_
  refine lv_iconst (v := 3) hC.1 hC.2.1 dL_build_498 (by decide) ?_
  refine lv_iload hC.1 hC.2.1 dL_build_499 (lv_at hl 6 rfl) ?_
  refine lv_imul hC.1 hC.2.1 dL_build_501 ?_
  refine lv_iconst (v := 1) hC.1 hC.2.1 dL_build_502 (by decide) ?_
  refine lv_iadd hC.1 hC.2.1 dL_build_503 ?_
  obtain ⟨i6, hw⟩ := hw
  refine m_iald hC hs hH k4 i6 dL_build_504 ?_
  refine lv_aload hC.1 hC.2.1 dL_build_505 (lv_at hl 4 rfl) ?_
  refine lv_iconst (v := 3) hC.1 hC.2.1 dL_build_507 (by decide) ?_
  refine lv_iload hC.1 hC.2.1 dL_build_508 (lv_at hl 6 rfl) ?_
  refine lv_imul hC.1 hC.2.1 dL_build_510 ?_
  refine lv_iconst (v := 2) hC.1 hC.2.1 dL_build_511 (by decide) ?_
  refine lv_iadd hC.1 hC.2.1 dL_build_512 ?_
  obtain ⟨i7, hw⟩ := hw
  refine m_iald hC hs hH k4 i7 dL_build_513 ?_
  obtain ⟨k9, hw⟩ := hw
  refine m_callVi (y := yX4_addAccount) (rest := []) hC hs hH hl.1 (cwV 3 hC.2.2.2.2 (gA_V q_254 q_255 q_256 q_2 q_257) rfl rfl rfl (by decide +kernel) ⟨Nat.le_of_ble_eq_true rfl, Nat.le_of_ble_eq_true rfl⟩) cs4 k9 (met_X4_addAccount l hl0 g _ _ _ _ _ _ _ hX0 hw) rfl rfl (Nat.le_of_ble_eq_true rfl) dL_build_514 ⟨lwr hk (Nat.le_of_ble_eq_true rfl), lwr hk (Nat.le_of_ble_eq_true rfl)⟩ (fun E S1 _ _ _ _ hx => (hX0 E S1 hx).elim) (fun r10 S1 H locs hw hH => ?_)
  refine W.widen (k := (15 + k * 2 + 2)) (n := (441 + k * 134 + 134)) (lww (Nat.le_of_ble_eq_true rfl)) (lww (Nat.le_of_ble_eq_true rfl)) ?_
  refine lv_iload hC.1 hC.2.1 dL_build_517 (lv_at hl 6 rfl) ?_
  refine lv_icmp_eq (tgt := 524) hC.1 hC.2.1 dL_build_519 (by decide) (fun hc => ?_) (fun hc => ?_)
  · have hw := hw.1 hc
    have hw := hw _ rfl
    refine lv_iinc (lv' := [(7, .int _), (0, .ref _), (1, .ref _), (2, .int _), (3, .ref _), (5, .ref _), (6, .ref _)]) hC.1 hC.2.1 dL_build_524 hl (k := 6) rfl (rfl : (_ : Int32) + Int32.ofInt 1 = (_ : Int32) + 1) (by decide) rfl (fun ls hl => ?_)
    refine lv_goto (tgt := 383) hC.1 hC.2.1 dL_build_527 (by decide) ?_
    refine W.widen (k := (15 + (k + 1) * 2 + 0)) (n := (441 + (k + 1) * 134 + 0)) (lwb (Nat.le_of_ble_eq_true rfl)) (lwb (Nat.le_of_ble_eq_true rfl)) ?_
    exact hk383 _ _ _ _ _ _ _ hw _ _ hH _ (lv_sub hl [1, 2, 3, 4, 5, 6, 0] rfl)
  · have hw := hw.2 hc
    refine lv_iconst (v := 0) hC.1 hC.2.1 dL_build_522 (by decide) ?_
    exact m_reti hC hH hrt rfl hlk (lwq hk (Nat.le_of_ble_eq_true rfl)) (lwq hk (Nat.le_of_ble_eq_true rfl)) dL_build_523 hw
set_option maxHeartbeats 4000000 in
set_option maxRecDepth 100000 in
theorem bw_L_build_432 {p : Program} {l : Launch} {e : Env} {s : State} {m : MethodId} {args : Array Value} {below : List Frame} {meth : Method} {c : Code} {g : mG} {Q : Int32 → mmS → Prop} {X : String → mmS → Prop} (hl0 : l.stackTraces = false) (hC : CallFix p m c cL_build 11 s args (wA_ yL_build cL_build 11 (some .boolean)) RL) (hrt : meth.sig.returnType = (some .boolean)) (hlk : meth.locks = false) (hmn : meth.name = yL_build.name) (hnx : ∀ x ∈ c.exceptionTable.toList, False) (hs : mX g s) (hX0 : ∀ (E : String) (S : mmS), ¬ X E S) {k : Nat} (hk : k ≤ 2) {K383 : mmS → Nat → Int32 → Nat → Nat → Nat → Int32 → Prop} (hk383 : ∀ (S : mmS) (x0 : Nat) (x2 : Int32) (x3 : Nat) (x5 : Nat) (x6 : Nat) (x7 : Int32), K383 S x0 x2 x3 x5 x6 x7 → ∀ (H : Heap) (locs : List Loc), mH g S s H locs → ∀ ls : Array Slot, lv_has ls 11 [(0, .ref x0), (1, .ref g.2.2.2.2.1.1), (2, .int x2), (3, .ref x3), (5, .ref x5), (6, .ref x6), (7, .int x7)] → W p l e rm_L_build s m args below meth c H locs (15 + (k + 1) * 2 + 0) (441 + (k + 1) * 134 + 0) (vx_MQ below (va_Qi Q (wO g) (mB g)) (vx_X (fun _ : mmS => True) (fun E S1 t => X E S1 ∧ wO g S1 t) (mB g)) args s rm_L_build.cells rm_L_build.slots (mB g)) (F0 m 383 ls [])) : ∀ (S : mmS) (x0 : Nat) (x2 : Int32) (x3 : Nat) (x5 : Nat) (x6 : Nat) (x7 : Int32) (x8 : Int32) (t0 : Nat) (t1 : Int32) (t2 : Int32), bk_L_build_432 g.2.2.2.2.2 g.2.2.2.2.1.2.1 g.2.2.2.2.1.2.2 Q X K383 S x0 x2 x3 x5 x6 x7 x8 t0 t1 t2 → ∀ (H : Heap) (locs : List Loc), mH g S s H locs → ∀ ls : Array Slot, lv_has ls 11 [(0, .ref x0), (1, .ref g.2.2.2.2.1.1), (2, .int x2), (3, .ref x3), (5, .ref x5), (6, .ref x6), (7, .int x7), (8, .int x8)] → W p l e rm_L_build s m args below meth c H locs (15 + k * 2 + 0) (441 + k * 134 + 0) (vx_MQ below (va_Qi Q (wO g) (mB g)) (vx_X (fun _ : mmS => True) (fun E S1 t => X E S1 ∧ wO g S1 t) (mB g)) args s rm_L_build.cells rm_L_build.slots (mB g)) (F0 m 432 ls [.int t2, .int t1, .ref t0]) := by
  intro S x0 x2 x3 x5 x6 x7 x8 t0 t1 t2 hw H locs hH ls hl
  unfold bk_L_build_432 at hw
  obtain ⟨k1, hw⟩ := hw
  obtain ⟨i2, hw⟩ := hw
  have hw := hw _ rfl
  refine m_iast hC hs hH k1 i2 dL_build_432 (fun H locs hH => ?_)
  refine lv_aload hC.1 hC.2.1 dL_build_433 (lv_at hl 4 rfl) ?_
  refine lv_iconst (v := 3) hC.1 hC.2.1 dL_build_435 (by decide) ?_
  refine lv_iload hC.1 hC.2.1 dL_build_436 (lv_at hl 6 rfl) ?_
  refine lv_imul hC.1 hC.2.1 dL_build_438 ?_
  refine lv_iconst (v := 1) hC.1 hC.2.1 dL_build_439 (by decide) ?_
  refine lv_iadd hC.1 hC.2.1 dL_build_440 ?_
  refine lv_iload hC.1 hC.2.1 dL_build_441 (lv_at hl 7 rfl) ?_
  refine lv_iconst (v := 5) hC.1 hC.2.1 dL_build_443 (by decide) ?_
  refine lv_ishr hC.1 hC.2.1 dL_build_444 ?_
  refine lv_sipush (v := 3000) hC.1 hC.2.1 dL_build_445 (by decide) ?_
  refine m_callSi (y := yL_below) (rest := [.int _, .ref _]) hC hs hH hl.1 (va_cwS 2 hC.2.2.2.2 (gA_S q_47 q_48 q_41 q_49) rfl rfl rfl (by decide +kernel) ⟨Nat.le_of_ble_eq_true rfl, Nat.le_of_ble_eq_true rfl⟩) (met_L_below l hl0 g _ _ _ _ _ hX0 hw) rfl rfl (Nat.le_of_ble_eq_true rfl) dL_build_448 ⟨lwr hk (Nat.le_of_ble_eq_true rfl), lwr hk (Nat.le_of_ble_eq_true rfl)⟩ (fun E S1 _ _ _ _ hx => (hX0 E S1 hx).elim) (fun r5 S1 H locs hw hH => ?_)
  refine W.widen (k := (15 + k * 2 + 0)) (n := (441 + k * 134 + 0)) (lww (Nat.le_of_ble_eq_true rfl)) (lww (Nat.le_of_ble_eq_true rfl)) ?_
  obtain ⟨k6, hw⟩ := hw
  obtain ⟨i7, hw⟩ := hw
  have hw := hw _ rfl
  refine m_iast hC hs hH k6 i7 dL_build_451 (fun H locs hH => ?_)
  refine lv_aload hC.1 hC.2.1 dL_build_452 (lv_at hl 4 rfl) ?_
  refine lv_iconst (v := 3) hC.1 hC.2.1 dL_build_454 (by decide) ?_
  refine lv_iload hC.1 hC.2.1 dL_build_455 (lv_at hl 6 rfl) ?_
  refine lv_imul hC.1 hC.2.1 dL_build_457 ?_
  refine lv_iconst (v := 2) hC.1 hC.2.1 dL_build_458 (by decide) ?_
  refine lv_iadd hC.1 hC.2.1 dL_build_459 ?_
  refine lv_iload hC.1 hC.2.1 dL_build_460 (lv_at hl 7 rfl) ?_
  refine lv_bipush (v := 8) hC.1 hC.2.1 dL_build_462 (by decide) ?_
  refine lv_ishr hC.1 hC.2.1 dL_build_464 ?_
  refine lv_iconst (v := 3) hC.1 hC.2.1 dL_build_465 (by decide) ?_
  refine m_callSi (y := yL_below) (rest := [.int _, .ref _]) hC hs hH hl.1 (va_cwS 2 hC.2.2.2.2 (gA_S q_47 q_48 q_41 q_49) rfl rfl rfl (by decide +kernel) ⟨Nat.le_of_ble_eq_true rfl, Nat.le_of_ble_eq_true rfl⟩) (met_L_below l hl0 g _ _ _ _ _ hX0 hw) rfl rfl (Nat.le_of_ble_eq_true rfl) dL_build_466 ⟨lwr hk (Nat.le_of_ble_eq_true rfl), lwr hk (Nat.le_of_ble_eq_true rfl)⟩ (fun E S1 _ _ _ _ hx => (hX0 E S1 hx).elim) (fun r10 S1 H locs hw hH => ?_)
  refine W.widen (k := (15 + k * 2 + 0)) (n := (441 + k * 134 + 0)) (lww (Nat.le_of_ble_eq_true rfl)) (lww (Nat.le_of_ble_eq_true rfl)) ?_
  refine lv_if_ne (tgt := 485) hC.1 hC.2.1 dL_build_469 (by decide) (fun hc => ?_) (fun hc => ?_)
  · have hw := hw.1 hc
    refine lv_bipush (v := 10) hC.1 hC.2.1 dL_build_485 (by decide) ?_
    refine W.widen (k := (15 + k * 2 + 0)) (n := (441 + k * 134 + 0)) (lwe (Nat.le_of_ble_eq_true rfl)) (lwe (Nat.le_of_ble_eq_true rfl)) ?_
    exact bw_L_build_487 hl0 hC hrt hlk hmn hnx hs hX0 hk hk383 _ _ _ _ _ _ _ _ _ _ hw _ _ hH _ (lv_sub hl [0, 1, 2, 3, 4, 5, 6] rfl)
  · have hw := hw.2 hc
    refine lv_iload hC.1 hC.2.1 dL_build_472 (lv_at hl 7 rfl) ?_
    refine lv_bipush (v := 10) hC.1 hC.2.1 dL_build_474 (by decide) ?_
    refine lv_ishr hC.1 hC.2.1 dL_build_476 ?_
    refine lv_bipush (v := 101) hC.1 hC.2.1 dL_build_477 (by decide) ?_
    refine m_callSi (y := yL_below) (rest := [.int _, .ref _]) hC hs hH hl.1 (va_cwS 2 hC.2.2.2.2 (gA_S q_47 q_48 q_41 q_49) rfl rfl rfl (by decide +kernel) ⟨Nat.le_of_ble_eq_true rfl, Nat.le_of_ble_eq_true rfl⟩) (met_L_below l hl0 g _ _ _ _ _ hX0 hw) rfl rfl (Nat.le_of_ble_eq_true rfl) dL_build_479 ⟨lwr hk (Nat.le_of_ble_eq_true rfl), lwr hk (Nat.le_of_ble_eq_true rfl)⟩ (fun E S1 _ _ _ _ hx => (hX0 E S1 hx).elim) (fun r12 S1 H locs hw hH => ?_)
    refine W.widen (k := (15 + k * 2 + 0)) (n := (441 + k * 134 + 0)) (lww (Nat.le_of_ble_eq_true rfl)) (lww (Nat.le_of_ble_eq_true rfl)) ?_
    refine lv_goto (tgt := 487) hC.1 hC.2.1 dL_build_482 (by decide) ?_
    refine W.widen (k := (15 + k * 2 + 0)) (n := (441 + k * 134 + 0)) (lwe (Nat.le_of_ble_eq_true rfl)) (lwe (Nat.le_of_ble_eq_true rfl)) ?_
    exact bw_L_build_487 hl0 hC hrt hlk hmn hnx hs hX0 hk hk383 _ _ _ _ _ _ _ _ _ _ hw _ _ hH _ (lv_sub hl [0, 1, 2, 3, 4, 5, 6] rfl)
set_option maxHeartbeats 4000000 in
set_option maxRecDepth 100000 in
theorem bw_L_build_383 {p : Program} {l : Launch} {e : Env} {s : State} {m : MethodId} {args : Array Value} {below : List Frame} {meth : Method} {c : Code} {g : mG} {Q : Int32 → mmS → Prop} {X : String → mmS → Prop} (hl0 : l.stackTraces = false) (hC : CallFix p m c cL_build 11 s args (wA_ yL_build cL_build 11 (some .boolean)) RL) (hrt : meth.sig.returnType = (some .boolean)) (hlk : meth.locks = false) (hmn : meth.name = yL_build.name) (hnx : ∀ x ∈ c.exceptionTable.toList, False) (hs : mX g s) (hX0 : ∀ (E : String) (S : mmS), ¬ X E S) {k : Nat} (hk : k ≤ 2) {K383 : mmS → Nat → Int32 → Nat → Nat → Nat → Int32 → Prop} (hk383 : ∀ (S : mmS) (x0 : Nat) (x2 : Int32) (x3 : Nat) (x5 : Nat) (x6 : Nat) (x7 : Int32), K383 S x0 x2 x3 x5 x6 x7 → ∀ (H : Heap) (locs : List Loc), mH g S s H locs → ∀ ls : Array Slot, lv_has ls 11 [(0, .ref x0), (1, .ref g.2.2.2.2.1.1), (2, .int x2), (3, .ref x3), (5, .ref x5), (6, .ref x6), (7, .int x7)] → W p l e rm_L_build s m args below meth c H locs (15 + (k + 1) * 2 + 0) (441 + (k + 1) * 134 + 0) (vx_MQ below (va_Qi Q (wO g) (mB g)) (vx_X (fun _ : mmS => True) (fun E S1 t => X E S1 ∧ wO g S1 t) (mB g)) args s rm_L_build.cells rm_L_build.slots (mB g)) (F0 m 383 ls [])) : ∀ (S : mmS) (x0 : Nat) (x2 : Int32) (x3 : Nat) (x5 : Nat) (x6 : Nat) (x7 : Int32), bk_L_build_383 g.2.2.2.2.2 g.2.2.2.2.1.2.1 g.2.2.2.2.1.2.2 Q X K383 S x0 x2 x3 x5 x6 x7 → ∀ (H : Heap) (locs : List Loc), mH g S s H locs → ∀ ls : Array Slot, lv_has ls 11 [(0, .ref x0), (1, .ref g.2.2.2.2.1.1), (2, .int x2), (3, .ref x3), (5, .ref x5), (6, .ref x6), (7, .int x7)] → W p l e rm_L_build s m args below meth c H locs (15 + k * 2 + 0) (441 + k * 134 + 0) (vx_MQ below (va_Qi Q (wO g) (mB g)) (vx_X (fun _ : mmS => True) (fun E S1 t => X E S1 ∧ wO g S1 t) (mB g)) args s rm_L_build.cells rm_L_build.slots (mB g)) (F0 m 383 ls []) := by
  intro S x0 x2 x3 x5 x6 x7 hw H locs hH ls hl
  unfold bk_L_build_383 at hw
  refine lv_iload hC.1 hC.2.1 dL_build_383 (lv_at hl 6 rfl) ?_
  refine lv_aload_n hC.1 hC.2.1 dL_build_385 rfl (lv_at hl 3 rfl) ?_
  refine lv_iconst (v := 1) hC.1 hC.2.1 dL_build_386 (by decide) ?_
  obtain ⟨k1, hw⟩ := hw
  obtain ⟨i2, hw⟩ := hw
  refine m_iald hC hs hH k1 i2 dL_build_387 ?_
  refine lv_icmp_ge (tgt := 530) hC.1 hC.2.1 dL_build_388 (by decide) (fun hc => ?_) (fun hc => ?_)
  · have hw := hw.1 hc
    refine W.widen (k := 19) (n := 709) (lwq hk (Nat.le_of_ble_eq_true rfl)) (lwq hk (Nat.le_of_ble_eq_true rfl)) ?_
    exact bw_L_build_530 hl0 hC hrt hlk hmn hnx hs hX0 _ _ _ _ _ hw _ _ hH _ (lv_sub hl [0, 1, 2, 3, 5] rfl)
  · have hw := hw.2 hc
    refine lv_aload_n hC.1 hC.2.1 dL_build_391 rfl (lv_at hl 1 rfl) ?_
    refine lv_iload_n hC.1 hC.2.1 dL_build_392 rfl (lv_at hl 2 rfl) ?_
    refine lv_iconst (v := 4) hC.1 hC.2.1 dL_build_393 (by decide) ?_
    refine lv_iadd hC.1 hC.2.1 dL_build_394 ?_
    refine lv_iload hC.1 hC.2.1 dL_build_395 (lv_at hl 6 rfl) ?_
    refine lv_iadd hC.1 hC.2.1 dL_build_397 ?_
    refine m_callSi (y := yL_cell) (rest := []) hC hs hH hl.1 (va_cwS 2 hC.2.2.2.2 (gA_S q_43 q_44 q_41 q_45) rfl rfl rfl (by decide +kernel) ⟨Nat.le_of_ble_eq_true rfl, Nat.le_of_ble_eq_true rfl⟩) (met_L_cell l hl0 g _ _ _ _ hX0 hw) rfl rfl (Nat.le_of_ble_eq_true rfl) dL_build_398 ⟨lwr hk (Nat.le_of_ble_eq_true rfl), lwr hk (Nat.le_of_ble_eq_true rfl)⟩ (fun E S1 _ _ _ _ hx => (hX0 E S1 hx).elim) (fun r4 S1 H locs hw hH => ?_)
    refine W.widen (k := (15 + k * 2 + 0)) (n := (441 + k * 134 + 0)) (lww (Nat.le_of_ble_eq_true rfl)) (lww (Nat.le_of_ble_eq_true rfl)) ?_
    refine lv_istore (lv' := [(8, .int _), (0, .ref _), (1, .ref _), (2, .int _), (3, .ref _), (5, .ref _), (6, .ref _), (7, .int _)]) hC.1 hC.2.1 dL_build_401 hl (by decide) rfl (fun ls hl => ?_)
    refine lv_aload hC.1 hC.2.1 dL_build_403 (lv_at hl 5 rfl) ?_
    refine lv_iconst (v := 3) hC.1 hC.2.1 dL_build_405 (by decide) ?_
    refine lv_iload hC.1 hC.2.1 dL_build_406 (lv_at hl 7 rfl) ?_
    refine lv_imul hC.1 hC.2.1 dL_build_408 ?_
    refine lv_iload hC.1 hC.2.1 dL_build_409 (lv_at hl 0 rfl) ?_
    refine lv_iconst (v := 3) hC.1 hC.2.1 dL_build_411 (by decide) ?_
    refine m_callSi (y := yL_below) (rest := [.int _, .ref _]) hC hs hH hl.1 (va_cwS 2 hC.2.2.2.2 (gA_S q_47 q_48 q_41 q_49) rfl rfl rfl (by decide +kernel) ⟨Nat.le_of_ble_eq_true rfl, Nat.le_of_ble_eq_true rfl⟩) (met_L_below l hl0 g _ _ _ _ _ hX0 hw) rfl rfl (Nat.le_of_ble_eq_true rfl) dL_build_412 ⟨lwr hk (Nat.le_of_ble_eq_true rfl), lwr hk (Nat.le_of_ble_eq_true rfl)⟩ (fun E S1 _ _ _ _ hx => (hX0 E S1 hx).elim) (fun r6 S1 H locs hw hH => ?_)
    refine W.widen (k := (15 + k * 2 + 0)) (n := (441 + k * 134 + 0)) (lww (Nat.le_of_ble_eq_true rfl)) (lww (Nat.le_of_ble_eq_true rfl)) ?_
    refine lv_if_ne (tgt := 422) hC.1 hC.2.1 dL_build_415 (by decide) (fun hc => ?_) (fun hc => ?_)
    · have hw := hw.1 hc
      refine lv_iload hC.1 hC.2.1 dL_build_422 (lv_at hl 0 rfl) ?_
      refine lv_iconst (v := 2) hC.1 hC.2.1 dL_build_424 (by decide) ?_
      refine lv_ishr hC.1 hC.2.1 dL_build_425 ?_
      refine lv_sipush (v := 2500) hC.1 hC.2.1 dL_build_426 (by decide) ?_
      refine m_callSi (y := yL_below) (rest := [.int _, .ref _]) hC hs hH hl.1 (va_cwS 2 hC.2.2.2.2 (gA_S q_47 q_48 q_41 q_49) rfl rfl rfl (by decide +kernel) ⟨Nat.le_of_ble_eq_true rfl, Nat.le_of_ble_eq_true rfl⟩) (met_L_below l hl0 g _ _ _ _ _ hX0 hw) rfl rfl (Nat.le_of_ble_eq_true rfl) dL_build_429 ⟨lwr hk (Nat.le_of_ble_eq_true rfl), lwr hk (Nat.le_of_ble_eq_true rfl)⟩ (fun E S1 _ _ _ _ hx => (hX0 E S1 hx).elim) (fun r8 S1 H locs hw hH => ?_)
      refine W.widen (k := (15 + k * 2 + 0)) (n := (441 + k * 134 + 0)) (lww (Nat.le_of_ble_eq_true rfl)) (lww (Nat.le_of_ble_eq_true rfl)) ?_
      refine W.widen (k := (15 + k * 2 + 0)) (n := (441 + k * 134 + 0)) (lwe (Nat.le_of_ble_eq_true rfl)) (lwe (Nat.le_of_ble_eq_true rfl)) ?_
      exact bw_L_build_432 hl0 hC hrt hlk hmn hnx hs hX0 hk hk383 _ _ _ _ _ _ _ _ _ _ _ hw _ _ hH _ (lv_sub hl [1, 2, 3, 4, 5, 6, 7, 0] rfl)
    · have hw := hw.2 hc
      refine lv_iconst (v := 0) hC.1 hC.2.1 dL_build_418 (by decide) ?_
      refine lv_goto (tgt := 432) hC.1 hC.2.1 dL_build_419 (by decide) ?_
      refine W.widen (k := (15 + k * 2 + 0)) (n := (441 + k * 134 + 0)) (lwe (Nat.le_of_ble_eq_true rfl)) (lwe (Nat.le_of_ble_eq_true rfl)) ?_
      exact bw_L_build_432 hl0 hC hrt hlk hmn hnx hs hX0 hk hk383 _ _ _ _ _ _ _ _ _ _ _ hw _ _ hH _ (lv_sub hl [1, 2, 3, 4, 5, 6, 7, 0] rfl)
theorem lw_L_build_383 {p : Program} {l : Launch} {e : Env} {s : State} {m : MethodId} {args : Array Value} {below : List Frame} {meth : Method} {c : Code} {g : mG} {Q : Int32 → mmS → Prop} {X : String → mmS → Prop} (hl0 : l.stackTraces = false) (hC : CallFix p m c cL_build 11 s args (wA_ yL_build cL_build 11 (some .boolean)) RL) (hrt : meth.sig.returnType = (some .boolean)) (hlk : meth.locks = false) (hmn : meth.name = yL_build.name) (hnx : ∀ x ∈ c.exceptionTable.toList, False) (hs : mX g s) (hX0 : ∀ (E : String) (S : mmS), ¬ X E S) : ∀ (n k : Nat), k + n = 3 → ∀ (S : mmS) (x0 : Nat) (x2 : Int32) (x3 : Nat) (x5 : Nat) (x6 : Nat) (x7 : Int32), lp_L_build_383 g.2.2.2.2.2 g.2.2.2.2.1.2.1 g.2.2.2.2.1.2.2 Q X n S x0 x2 x3 x5 x6 x7 → ∀ (H : Heap) (locs : List Loc), mH g S s H locs → ∀ ls : Array Slot, lv_has ls 11 [(0, .ref x0), (1, .ref g.2.2.2.2.1.1), (2, .int x2), (3, .ref x3), (5, .ref x5), (6, .ref x6), (7, .int x7)] → W p l e rm_L_build s m args below meth c H locs (15 + k * 2 + 0) (441 + k * 134 + 0) (vx_MQ below (va_Qi Q (wO g) (mB g)) (vx_X (fun _ : mmS => True) (fun E S1 t => X E S1 ∧ wO g S1 t) (mB g)) args s rm_L_build.cells rm_L_build.slots (mB g)) (F0 m 383 ls []) := by
  intro n
  induction n with
  | zero => intro k hk S x0 x2 x3 x5 x6 x7 hw; exact False.elim hw
  | succ n ih => exact fun k hk S x0 x2 x3 x5 x6 x7 hw => bw_L_build_383 hl0 hC hrt hlk hmn hnx hs hX0 (k := k) (by omega) (K383 := lp_L_build_383 g.2.2.2.2.2 g.2.2.2.2.1.2.1 g.2.2.2.2.1.2.2 Q X n) (ih (k + 1) (by omega)) S x0 x2 x3 x5 x6 x7 hw
set_option maxHeartbeats 4000000 in
set_option maxRecDepth 100000 in
theorem bw_L_build_364 {p : Program} {l : Launch} {e : Env} {s : State} {m : MethodId} {args : Array Value} {below : List Frame} {meth : Method} {c : Code} {g : mG} {Q : Int32 → mmS → Prop} {X : String → mmS → Prop} (hl0 : l.stackTraces = false) (hC : CallFix p m c cL_build 11 s args (wA_ yL_build cL_build 11 (some .boolean)) RL) (hrt : meth.sig.returnType = (some .boolean)) (hlk : meth.locks = false) (hmn : meth.name = yL_build.name) (hnx : ∀ x ∈ c.exceptionTable.toList, False) (hs : mX g s) (hX0 : ∀ (E : String) (S : mmS), ¬ X E S) : ∀ (S : mmS) (x0 : Nat) (x2 : Int32) (x3 : Nat) (x5 : Nat) (x6 : Nat), bk_L_build_364 g.2.2.2.2.2 g.2.2.2.2.1.2.1 g.2.2.2.2.1.2.2 Q X S x0 x2 x3 x5 x6 → ∀ (H : Heap) (locs : List Loc), mH g S s H locs → ∀ ls : Array Slot, lv_has ls 11 [(0, .ref x0), (1, .ref g.2.2.2.2.1.1), (2, .int x2), (3, .ref x3), (5, .ref x5), (6, .ref x6)] → W p l e rm_L_build s m args below meth c H locs 15 441 (vx_MQ below (va_Qi Q (wO g) (mB g)) (vx_X (fun _ : mmS => True) (fun E S1 t => X E S1 ∧ wO g S1 t) (mB g)) args s rm_L_build.cells rm_L_build.slots (mB g)) (F0 m 364 ls []) := by
  intro S x0 x2 x3 x5 x6 hw H locs hH ls hl
  unfold bk_L_build_364 at hw
  refine lv_aload_n hC.1 hC.2.1 dL_build_364 rfl (lv_at hl 3 rfl) ?_
  refine lv_iconst (v := 1) hC.1 hC.2.1 dL_build_365 (by decide) ?_
  refine lv_iconst (v := 1) hC.1 hC.2.1 dL_build_366 (by decide) ?_
  refine lv_aload_n hC.1 hC.2.1 dL_build_367 rfl (lv_at hl 1 rfl) ?_
  refine lv_iload_n hC.1 hC.2.1 dL_build_368 rfl (lv_at hl 2 rfl) ?_
  refine m_callSi (y := yL_cell) (rest := [.int _, .int _, .ref _]) hC hs hH hl.1 (va_cwS 2 hC.2.2.2.2 (gA_S q_43 q_44 q_41 q_45) rfl rfl rfl (by decide +kernel) ⟨Nat.le_of_ble_eq_true rfl, Nat.le_of_ble_eq_true rfl⟩) (met_L_cell l hl0 g _ _ _ _ hX0 hw) rfl rfl (Nat.le_of_ble_eq_true rfl) dL_build_369 ⟨Nat.le_of_ble_eq_true rfl, Nat.le_of_ble_eq_true rfl⟩ (fun E S1 _ _ _ _ hx => (hX0 E S1 hx).elim) (fun r2 S1 H locs hw hH => ?_)
  refine W.widen (k := 15) (n := 441) (Nat.le_of_ble_eq_true rfl) (Nat.le_of_ble_eq_true rfl) ?_
  refine lv_iconst (v := 3) hC.1 hC.2.1 dL_build_372 (by decide) ?_
  refine lv_ishr hC.1 hC.2.1 dL_build_373 ?_
  refine lv_iconst (v := 2) hC.1 hC.2.1 dL_build_374 (by decide) ?_
  refine m_callSi (y := yL_below) (rest := [.int _, .int _, .ref _]) hC hs hH hl.1 (va_cwS 2 hC.2.2.2.2 (gA_S q_47 q_48 q_41 q_49) rfl rfl rfl (by decide +kernel) ⟨Nat.le_of_ble_eq_true rfl, Nat.le_of_ble_eq_true rfl⟩) (met_L_below l hl0 g _ _ _ _ _ hX0 hw) rfl rfl (Nat.le_of_ble_eq_true rfl) dL_build_375 ⟨Nat.le_of_ble_eq_true rfl, Nat.le_of_ble_eq_true rfl⟩ (fun E S1 _ _ _ _ hx => (hX0 E S1 hx).elim) (fun r4 S1 H locs hw hH => ?_)
  refine W.widen (k := 15) (n := 441) (Nat.le_of_ble_eq_true rfl) (Nat.le_of_ble_eq_true rfl) ?_
  refine lv_iadd hC.1 hC.2.1 dL_build_378 ?_
  obtain ⟨k5, hw⟩ := hw
  obtain ⟨i6, hw⟩ := hw
  have hw := hw _ rfl
  refine m_iast hC hs hH k5 i6 dL_build_379 (fun H locs hH => ?_)
  refine lv_iconst (v := 0) hC.1 hC.2.1 dL_build_380 (by decide) ?_
  have hw := hw _ rfl
  refine lv_istore (lv' := [(7, .int _), (0, .ref _), (1, .ref _), (2, .int _), (3, .ref _), (5, .ref _), (6, .ref _)]) hC.1 hC.2.1 dL_build_381 hl (by decide) rfl (fun ls hl => ?_)
  refine W.widen (k := 15 + 0 * 2 + 0) (n := 441 + 0 * 134 + 0) (Nat.le_of_ble_eq_true rfl) (Nat.le_of_ble_eq_true rfl) ?_
  exact lw_L_build_383 hl0 hC hrt hlk hmn hnx hs hX0 3 0 rfl _ _ _ _ _ _ _ hw _ _ hH _ (lv_sub hl [1, 2, 3, 4, 5, 6, 0] rfl)
set_option maxHeartbeats 4000000 in
set_option maxRecDepth 100000 in
theorem bw_L_build_231 {p : Program} {l : Launch} {e : Env} {s : State} {m : MethodId} {args : Array Value} {below : List Frame} {meth : Method} {c : Code} {g : mG} {Q : Int32 → mmS → Prop} {X : String → mmS → Prop} (hl0 : l.stackTraces = false) (hC : CallFix p m c cL_build 11 s args (wA_ yL_build cL_build 11 (some .boolean)) RL) (hrt : meth.sig.returnType = (some .boolean)) (hlk : meth.locks = false) (hmn : meth.name = yL_build.name) (hnx : ∀ x ∈ c.exceptionTable.toList, False) (hs : mX g s) (hX0 : ∀ (E : String) (S : mmS), ¬ X E S) {k : Nat} (hk : k ≤ 3) {K17 : mmS → Nat → Int32 → Nat → Nat → Nat → Nat → Int32 → Prop} {K231 : mmS → Nat → Int32 → Nat → Nat → Nat → Nat → Int32 → Int32 → Int32 → Prop} (hk17 : ∀ (S : mmS) (x0 : Nat) (x2 : Int32) (x3 : Nat) (x4 : Nat) (x5 : Nat) (x6 : Nat) (x7 : Int32), K17 S x0 x2 x3 x4 x5 x6 x7 → ∀ (H : Heap) (locs : List Loc), mH g S s H locs → ∀ ls : Array Slot, lv_has ls 11 [(0, .ref x0), (1, .ref g.2.2.2.2.1.1), (2, .int x2), (3, .ref x3), (4, .ref x4), (5, .ref x5), (6, .ref x6), (7, .int x7)] → W p l e rm_L_build s m args below meth c H locs (0 + (k + 1) * 5 + 0) (0 + (k + 1) * 147 + 0) (vx_MQ below (va_Qi Q (wO g) (mB g)) (vx_X (fun _ : mmS => True) (fun E S1 t => X E S1 ∧ wO g S1 t) (mB g)) args s rm_L_build.cells rm_L_build.slots (mB g)) (F0 m 17 ls [])) (hk231 : ∀ (S : mmS) (x0 : Nat) (x2 : Int32) (x3 : Nat) (x4 : Nat) (x5 : Nat) (x6 : Nat) (x7 : Int32) (x8 : Int32) (x10 : Int32), K231 S x0 x2 x3 x4 x5 x6 x7 x8 x10 → ∀ (H : Heap) (locs : List Loc), mH g S s H locs → ∀ ls : Array Slot, lv_has ls 11 [(0, .ref x0), (1, .ref g.2.2.2.2.1.1), (2, .int x2), (3, .ref x3), (4, .ref x4), (5, .ref x5), (6, .ref x6), (7, .int x7), (8, .int x8), (10, .int x10)] → W p l e rm_L_build s m args below meth c H locs (0 + k * 5 + 5) (0 + k * 147 + 147) (vx_MQ below (va_Qi Q (wO g) (mB g)) (vx_X (fun _ : mmS => True) (fun E S1 t => X E S1 ∧ wO g S1 t) (mB g)) args s rm_L_build.cells rm_L_build.slots (mB g)) (F0 m 231 ls [])) : ∀ (S : mmS) (x0 : Nat) (x2 : Int32) (x3 : Nat) (x4 : Nat) (x5 : Nat) (x6 : Nat) (x7 : Int32) (x8 : Int32) (x10 : Int32), bk_L_build_231 g.2.2.2.2.2 g.2.2.2.2.1.2.1 g.2.2.2.2.1.2.2 Q X K17 K231 S x0 x2 x3 x4 x5 x6 x7 x8 x10 → ∀ (H : Heap) (locs : List Loc), mH g S s H locs → ∀ ls : Array Slot, lv_has ls 11 [(0, .ref x0), (1, .ref g.2.2.2.2.1.1), (2, .int x2), (3, .ref x3), (4, .ref x4), (5, .ref x5), (6, .ref x6), (7, .int x7), (8, .int x8), (10, .int x10)] → W p l e rm_L_build s m args below meth c H locs (0 + k * 5 + 5) (0 + k * 147 + 147) (vx_MQ below (va_Qi Q (wO g) (mB g)) (vx_X (fun _ : mmS => True) (fun E S1 t => X E S1 ∧ wO g S1 t) (mB g)) args s rm_L_build.cells rm_L_build.slots (mB g)) (F0 m 231 ls []) := by
  intro S x0 x2 x3 x4 x5 x6 x7 x8 x10 hw H locs hH ls hl
  unfold bk_L_build_231 at hw
  refine lv_iload hC.1 hC.2.1 dL_build_231 (lv_at hl 9 rfl) ?_
  refine lv_iconst (v := 3) hC.1 hC.2.1 dL_build_233 (by decide) ?_
  refine lv_icmp_ge (tgt := 358) hC.1 hC.2.1 dL_build_234 (by decide) (fun hc => ?_) (fun hc => ?_)
  · have hw := hw.1 hc
    have hw := hw _ rfl
    refine lv_iinc (lv' := [(7, .int _), (0, .ref _), (1, .ref _), (2, .int _), (3, .ref _), (4, .ref _), (5, .ref _), (6, .ref _), (8, .int _), (10, .int _)]) hC.1 hC.2.1 dL_build_358 hl (k := 7) rfl (rfl : (_ : Int32) + Int32.ofInt 1 = (_ : Int32) + 1) (by decide) rfl (fun ls hl => ?_)
    refine lv_goto (tgt := 17) hC.1 hC.2.1 dL_build_361 (by decide) ?_
    refine W.widen (k := (0 + (k + 1) * 5 + 0)) (n := (0 + (k + 1) * 147 + 0)) (lwb (Nat.le_of_ble_eq_true rfl)) (lwb (Nat.le_of_ble_eq_true rfl)) ?_
    exact hk17 _ _ _ _ _ _ _ _ hw _ _ hH _ (lv_sub hl [1, 2, 3, 4, 5, 6, 7, 0] rfl)
  · have hw := hw.2 hc
    refine lv_aload hC.1 hC.2.1 dL_build_237 (lv_at hl 4 rfl) ?_
    refine lv_bipush (v := 9) hC.1 hC.2.1 dL_build_239 (by decide) ?_
    refine lv_iload hC.1 hC.2.1 dL_build_241 (lv_at hl 7 rfl) ?_
    refine lv_imul hC.1 hC.2.1 dL_build_243 ?_
    refine lv_iconst (v := 3) hC.1 hC.2.1 dL_build_244 (by decide) ?_
    refine lv_iadd hC.1 hC.2.1 dL_build_245 ?_
    refine lv_iconst (v := 2) hC.1 hC.2.1 dL_build_246 (by decide) ?_
    refine lv_iload hC.1 hC.2.1 dL_build_247 (lv_at hl 9 rfl) ?_
    refine lv_imul hC.1 hC.2.1 dL_build_249 ?_
    refine lv_iadd hC.1 hC.2.1 dL_build_250 ?_
    refine lv_iload hC.1 hC.2.1 dL_build_251 (lv_at hl 8 rfl) ?_
    refine lv_iconst (v := 5) hC.1 hC.2.1 dL_build_253 (by decide) ?_
    refine lv_iload hC.1 hC.2.1 dL_build_254 (lv_at hl 9 rfl) ?_
    refine lv_imul hC.1 hC.2.1 dL_build_256 ?_
    refine lv_ishr hC.1 hC.2.1 dL_build_257 ?_
    refine lv_sipush (v := 700) hC.1 hC.2.1 dL_build_258 (by decide) ?_
    refine m_callSi (y := yL_below) (rest := [.int _, .ref _]) hC hs hH hl.1 (va_cwS 2 hC.2.2.2.2 (gA_S q_47 q_48 q_41 q_49) rfl rfl rfl (by decide +kernel) ⟨Nat.le_of_ble_eq_true rfl, Nat.le_of_ble_eq_true rfl⟩) (met_L_below l hl0 g _ _ _ _ _ hX0 hw) rfl rfl (Nat.le_of_ble_eq_true rfl) dL_build_261 ⟨lwr hk (Nat.le_of_ble_eq_true rfl), lwr hk (Nat.le_of_ble_eq_true rfl)⟩ (fun E S1 _ _ _ _ hx => (hX0 E S1 hx).elim) (fun r3 S1 H locs hw hH => ?_)
    refine W.widen (k := (0 + k * 5 + 5)) (n := (0 + k * 147 + 147)) (lww (Nat.le_of_ble_eq_true rfl)) (lww (Nat.le_of_ble_eq_true rfl)) ?_
    obtain ⟨k4, hw⟩ := hw
    obtain ⟨i5, hw⟩ := hw
    have hw := hw _ rfl
    refine m_iast hC hs hH k4 i5 dL_build_264 (fun H locs hH => ?_)
    refine lv_aload hC.1 hC.2.1 dL_build_265 (lv_at hl 4 rfl) ?_
    refine lv_bipush (v := 9) hC.1 hC.2.1 dL_build_267 (by decide) ?_
    refine lv_iload hC.1 hC.2.1 dL_build_269 (lv_at hl 7 rfl) ?_
    refine lv_imul hC.1 hC.2.1 dL_build_271 ?_
    refine lv_iconst (v := 4) hC.1 hC.2.1 dL_build_272 (by decide) ?_
    refine lv_iadd hC.1 hC.2.1 dL_build_273 ?_
    refine lv_iconst (v := 2) hC.1 hC.2.1 dL_build_274 (by decide) ?_
    refine lv_iload hC.1 hC.2.1 dL_build_275 (lv_at hl 9 rfl) ?_
    refine lv_imul hC.1 hC.2.1 dL_build_277 ?_
    refine lv_iadd hC.1 hC.2.1 dL_build_278 ?_
    refine lv_iload hC.1 hC.2.1 dL_build_279 (lv_at hl 8 rfl) ?_
    refine lv_bipush (v := 10) hC.1 hC.2.1 dL_build_281 (by decide) ?_
    refine lv_iload hC.1 hC.2.1 dL_build_283 (lv_at hl 9 rfl) ?_
    refine lv_iadd hC.1 hC.2.1 dL_build_285 ?_
    refine lv_ishr hC.1 hC.2.1 dL_build_286 ?_
    refine lv_iconst (v := 2) hC.1 hC.2.1 dL_build_287 (by decide) ?_
    refine m_callSi (y := yL_below) (rest := [.int _, .ref _]) hC hs hH hl.1 (va_cwS 2 hC.2.2.2.2 (gA_S q_47 q_48 q_41 q_49) rfl rfl rfl (by decide +kernel) ⟨Nat.le_of_ble_eq_true rfl, Nat.le_of_ble_eq_true rfl⟩) (met_L_below l hl0 g _ _ _ _ _ hX0 hw) rfl rfl (Nat.le_of_ble_eq_true rfl) dL_build_288 ⟨lwr hk (Nat.le_of_ble_eq_true rfl), lwr hk (Nat.le_of_ble_eq_true rfl)⟩ (fun E S1 _ _ _ _ hx => (hX0 E S1 hx).elim) (fun r8 S1 H locs hw hH => ?_)
    refine W.widen (k := (0 + k * 5 + 5)) (n := (0 + k * 147 + 147)) (lww (Nat.le_of_ble_eq_true rfl)) (lww (Nat.le_of_ble_eq_true rfl)) ?_
    refine lv_bipush (v := 100) hC.1 hC.2.1 dL_build_291 (by decide) ?_
    refine lv_imul hC.1 hC.2.1 dL_build_293 ?_
    refine lv_iload hC.1 hC.2.1 dL_build_294 (lv_at hl 8 rfl) ?_
    refine lv_bipush (v := 13) hC.1 hC.2.1 dL_build_296 (by decide) ?_
    refine lv_iload hC.1 hC.2.1 dL_build_298 (lv_at hl 9 rfl) ?_
    refine lv_iadd hC.1 hC.2.1 dL_build_300 ?_
    refine lv_ishr hC.1 hC.2.1 dL_build_301 ?_
    refine lv_bipush (v := 30) hC.1 hC.2.1 dL_build_302 (by decide) ?_
    refine m_callSi (y := yL_below) (rest := [.int _, .int _, .ref _]) hC hs hH hl.1 (va_cwS 2 hC.2.2.2.2 (gA_S q_47 q_48 q_41 q_49) rfl rfl rfl (by decide +kernel) ⟨Nat.le_of_ble_eq_true rfl, Nat.le_of_ble_eq_true rfl⟩) (met_L_below l hl0 g _ _ _ _ _ hX0 hw) rfl rfl (Nat.le_of_ble_eq_true rfl) dL_build_304 ⟨lwr hk (Nat.le_of_ble_eq_true rfl), lwr hk (Nat.le_of_ble_eq_true rfl)⟩ (fun E S1 _ _ _ _ hx => (hX0 E S1 hx).elim) (fun r10 S1 H locs hw hH => ?_)
    refine W.widen (k := (0 + k * 5 + 5)) (n := (0 + k * 147 + 147)) (lww (Nat.le_of_ble_eq_true rfl)) (lww (Nat.le_of_ble_eq_true rfl)) ?_
    refine lv_imul hC.1 hC.2.1 dL_build_307 ?_
    obtain ⟨k11, hw⟩ := hw
    obtain ⟨i12, hw⟩ := hw
    have hw := hw _ rfl
    refine m_iast hC hs hH k11 i12 dL_build_308 (fun H locs hH => ?_)
    refine lv_aload_n hC.1 hC.2.1 dL_build_309 rfl (lv_at hl 0 rfl) ?_
    refine lv_iload hC.1 hC.2.1 dL_build_310 (lv_at hl 7 rfl) ?_
    refine lv_iload hC.1 hC.2.1 dL_build_312 (lv_at hl 9 rfl) ?_
    refine lv_aload hC.1 hC.2.1 dL_build_314 (lv_at hl 4 rfl) ?_
    refine lv_bipush (v := 9) hC.1 hC.2.1 dL_build_316 (by decide) ?_
    refine lv_iload hC.1 hC.2.1 dL_build_318 (lv_at hl 7 rfl) ?_
    refine lv_imul hC.1 hC.2.1 dL_build_320 ?_
    refine lv_iconst (v := 3) hC.1 hC.2.1 dL_build_321 (by decide) ?_
    refine lv_iadd hC.1 hC.2.1 dL_build_322 ?_
    refine lv_iconst (v := 2) hC.1 hC.2.1 dL_build_323 (by decide) ?_
    refine lv_iload hC.1 hC.2.1 dL_build_324 (lv_at hl 9 rfl) ?_
    refine lv_imul hC.1 hC.2.1 dL_build_326 ?_
    refine lv_iadd hC.1 hC.2.1 dL_build_327 ?_
    obtain ⟨i14, hw⟩ := hw
    refine m_iald hC hs hH k11 i14 dL_build_328 ?_
    refine lv_aload hC.1 hC.2.1 dL_build_329 (lv_at hl 4 rfl) ?_
    refine lv_bipush (v := 9) hC.1 hC.2.1 dL_build_331 (by decide) ?_
    refine lv_iload hC.1 hC.2.1 dL_build_333 (lv_at hl 7 rfl) ?_
    refine lv_imul hC.1 hC.2.1 dL_build_335 ?_
    refine lv_iconst (v := 4) hC.1 hC.2.1 dL_build_336 (by decide) ?_
    refine lv_iadd hC.1 hC.2.1 dL_build_337 ?_
    refine lv_iconst (v := 2) hC.1 hC.2.1 dL_build_338 (by decide) ?_
    refine lv_iload hC.1 hC.2.1 dL_build_339 (lv_at hl 9 rfl) ?_
    refine lv_imul hC.1 hC.2.1 dL_build_341 ?_
    refine lv_iadd hC.1 hC.2.1 dL_build_342 ?_
    obtain ⟨i15, hw⟩ := hw
    refine m_iald hC hs hH k11 i15 dL_build_343 ?_
    obtain ⟨k17, hw⟩ := hw
    refine m_callVi (y := yX4_setZone) (rest := []) hC hs hH hl.1 (cwV 4 hC.2.2.2.2 (gA_V q_134 q_135 q_136 q_2 q_137) rfl rfl rfl (by decide +kernel) ⟨Nat.le_of_ble_eq_true rfl, Nat.le_of_ble_eq_true rfl⟩) cs4 k17 (met_X4_setZone l hl0 g _ _ _ _ _ _ _ _ hX0 hw) rfl rfl (Nat.le_of_ble_eq_true rfl) dL_build_344 ⟨lwr hk (Nat.le_of_ble_eq_true rfl), lwr hk (Nat.le_of_ble_eq_true rfl)⟩ (fun E S1 _ _ _ _ hx => (hX0 E S1 hx).elim) (fun r18 S1 H locs hw hH => ?_)
    refine W.widen (k := (0 + k * 5 + 5)) (n := (0 + k * 147 + 147)) (lww (Nat.le_of_ble_eq_true rfl)) (lww (Nat.le_of_ble_eq_true rfl)) ?_
    refine lv_if_eq (tgt := 352) hC.1 hC.2.1 dL_build_347 (by decide) (fun hc => ?_) (fun hc => ?_)
    · have hw := hw.1 hc
      have hw := hw _ rfl
      refine lv_iinc (lv' := [(10, .int _), (0, .ref _), (1, .ref _), (2, .int _), (3, .ref _), (4, .ref _), (5, .ref _), (6, .ref _), (7, .int _), (8, .int _)]) hC.1 hC.2.1 dL_build_352 hl (k := 9) rfl (rfl : (_ : Int32) + Int32.ofInt 1 = (_ : Int32) + 1) (by decide) rfl (fun ls hl => ?_)
      refine lv_goto (tgt := 231) hC.1 hC.2.1 dL_build_355 (by decide) ?_
      refine W.widen (k := (0 + k * 5 + 5)) (n := (0 + k * 147 + 147)) (lwe (Nat.le_of_ble_eq_true rfl)) (lwe (Nat.le_of_ble_eq_true rfl)) ?_
      exact hk231 _ _ _ _ _ _ _ _ _ _ hw _ _ hH _ (lv_sub hl [1, 2, 3, 4, 5, 6, 7, 8, 9, 0] rfl)
    · have hw := hw.2 hc
      refine lv_iconst (v := 0) hC.1 hC.2.1 dL_build_350 (by decide) ?_
      exact m_reti hC hH hrt rfl hlk (lwq hk (Nat.le_of_ble_eq_true rfl)) (lwq hk (Nat.le_of_ble_eq_true rfl)) dL_build_351 hw
theorem lw_L_build_231 {p : Program} {l : Launch} {e : Env} {s : State} {m : MethodId} {args : Array Value} {below : List Frame} {meth : Method} {c : Code} {g : mG} {Q : Int32 → mmS → Prop} {X : String → mmS → Prop} (hl0 : l.stackTraces = false) (hC : CallFix p m c cL_build 11 s args (wA_ yL_build cL_build 11 (some .boolean)) RL) (hrt : meth.sig.returnType = (some .boolean)) (hlk : meth.locks = false) (hmn : meth.name = yL_build.name) (hnx : ∀ x ∈ c.exceptionTable.toList, False) (hs : mX g s) (hX0 : ∀ (E : String) (S : mmS), ¬ X E S) {k : Nat} (hk : k ≤ 3) {K17 : mmS → Nat → Int32 → Nat → Nat → Nat → Nat → Int32 → Prop} (hk17 : ∀ (S : mmS) (x0 : Nat) (x2 : Int32) (x3 : Nat) (x4 : Nat) (x5 : Nat) (x6 : Nat) (x7 : Int32), K17 S x0 x2 x3 x4 x5 x6 x7 → ∀ (H : Heap) (locs : List Loc), mH g S s H locs → ∀ ls : Array Slot, lv_has ls 11 [(0, .ref x0), (1, .ref g.2.2.2.2.1.1), (2, .int x2), (3, .ref x3), (4, .ref x4), (5, .ref x5), (6, .ref x6), (7, .int x7)] → W p l e rm_L_build s m args below meth c H locs (0 + (k + 1) * 5 + 0) (0 + (k + 1) * 147 + 0) (vx_MQ below (va_Qi Q (wO g) (mB g)) (vx_X (fun _ : mmS => True) (fun E S1 t => X E S1 ∧ wO g S1 t) (mB g)) args s rm_L_build.cells rm_L_build.slots (mB g)) (F0 m 17 ls [])) : ∀ (n : Nat) (S : mmS) (x0 : Nat) (x2 : Int32) (x3 : Nat) (x4 : Nat) (x5 : Nat) (x6 : Nat) (x7 : Int32) (x8 : Int32) (x10 : Int32), lp_L_build_231 g.2.2.2.2.2 g.2.2.2.2.1.2.1 g.2.2.2.2.1.2.2 Q X K17 n S x0 x2 x3 x4 x5 x6 x7 x8 x10 → ∀ (H : Heap) (locs : List Loc), mH g S s H locs → ∀ ls : Array Slot, lv_has ls 11 [(0, .ref x0), (1, .ref g.2.2.2.2.1.1), (2, .int x2), (3, .ref x3), (4, .ref x4), (5, .ref x5), (6, .ref x6), (7, .int x7), (8, .int x8), (10, .int x10)] → W p l e rm_L_build s m args below meth c H locs (0 + k * 5 + 5) (0 + k * 147 + 147) (vx_MQ below (va_Qi Q (wO g) (mB g)) (vx_X (fun _ : mmS => True) (fun E S1 t => X E S1 ∧ wO g S1 t) (mB g)) args s rm_L_build.cells rm_L_build.slots (mB g)) (F0 m 231 ls []) := by
  intro n
  induction n with
  | zero => intro S x0 x2 x3 x4 x5 x6 x7 x8 x10 hw; exact False.elim hw
  | succ n ih => exact fun S x0 x2 x3 x4 x5 x6 x7 x8 x10 hw => bw_L_build_231 hl0 hC hrt hlk hmn hnx hs hX0 hk (K17 := K17) (K231 := lp_L_build_231 g.2.2.2.2.2 g.2.2.2.2.1.2.1 g.2.2.2.2.1.2.2 Q X K17 n) hk17 ih S x0 x2 x3 x4 x5 x6 x7 x8 x10 hw
set_option maxHeartbeats 4000000 in
set_option maxRecDepth 100000 in
theorem bw_L_build_17 {p : Program} {l : Launch} {e : Env} {s : State} {m : MethodId} {args : Array Value} {below : List Frame} {meth : Method} {c : Code} {g : mG} {Q : Int32 → mmS → Prop} {X : String → mmS → Prop} (hl0 : l.stackTraces = false) (hC : CallFix p m c cL_build 11 s args (wA_ yL_build cL_build 11 (some .boolean)) RL) (hrt : meth.sig.returnType = (some .boolean)) (hlk : meth.locks = false) (hmn : meth.name = yL_build.name) (hnx : ∀ x ∈ c.exceptionTable.toList, False) (hs : mX g s) (hX0 : ∀ (E : String) (S : mmS), ¬ X E S) {k : Nat} (hk : k ≤ 3) {K17 : mmS → Nat → Int32 → Nat → Nat → Nat → Nat → Int32 → Prop} (hk17 : ∀ (S : mmS) (x0 : Nat) (x2 : Int32) (x3 : Nat) (x4 : Nat) (x5 : Nat) (x6 : Nat) (x7 : Int32), K17 S x0 x2 x3 x4 x5 x6 x7 → ∀ (H : Heap) (locs : List Loc), mH g S s H locs → ∀ ls : Array Slot, lv_has ls 11 [(0, .ref x0), (1, .ref g.2.2.2.2.1.1), (2, .int x2), (3, .ref x3), (4, .ref x4), (5, .ref x5), (6, .ref x6), (7, .int x7)] → W p l e rm_L_build s m args below meth c H locs (0 + (k + 1) * 5 + 0) (0 + (k + 1) * 147 + 0) (vx_MQ below (va_Qi Q (wO g) (mB g)) (vx_X (fun _ : mmS => True) (fun E S1 t => X E S1 ∧ wO g S1 t) (mB g)) args s rm_L_build.cells rm_L_build.slots (mB g)) (F0 m 17 ls [])) : ∀ (S : mmS) (x0 : Nat) (x2 : Int32) (x3 : Nat) (x4 : Nat) (x5 : Nat) (x6 : Nat) (x7 : Int32), bk_L_build_17 g.2.2.2.2.2 g.2.2.2.2.1.2.1 g.2.2.2.2.1.2.2 Q X K17 S x0 x2 x3 x4 x5 x6 x7 → ∀ (H : Heap) (locs : List Loc), mH g S s H locs → ∀ ls : Array Slot, lv_has ls 11 [(0, .ref x0), (1, .ref g.2.2.2.2.1.1), (2, .int x2), (3, .ref x3), (4, .ref x4), (5, .ref x5), (6, .ref x6), (7, .int x7)] → W p l e rm_L_build s m args below meth c H locs (0 + k * 5 + 0) (0 + k * 147 + 0) (vx_MQ below (va_Qi Q (wO g) (mB g)) (vx_X (fun _ : mmS => True) (fun E S1 t => X E S1 ∧ wO g S1 t) (mB g)) args s rm_L_build.cells rm_L_build.slots (mB g)) (F0 m 17 ls []) := by
  intro S x0 x2 x3 x4 x5 x6 x7 hw H locs hH ls hl
  unfold bk_L_build_17 at hw
  refine lv_iload hC.1 hC.2.1 dL_build_17 (lv_at hl 7 rfl) ?_
  refine lv_aload_n hC.1 hC.2.1 dL_build_19 rfl (lv_at hl 3 rfl) ?_
  refine lv_iconst (v := 0) hC.1 hC.2.1 dL_build_20 (by decide) ?_
  obtain ⟨k1, hw⟩ := hw
  obtain ⟨i2, hw⟩ := hw
  refine m_iald hC hs hH k1 i2 dL_build_21 ?_
  refine lv_icmp_ge (tgt := 364) hC.1 hC.2.1 dL_build_22 (by decide) (fun hc => ?_) (fun hc => ?_)
  · have hw := hw.1 hc
    refine W.widen (k := 15) (n := 441) (lwq hk (Nat.le_of_ble_eq_true rfl)) (lwq hk (Nat.le_of_ble_eq_true rfl)) ?_
    exact bw_L_build_364 hl0 hC hrt hlk hmn hnx hs hX0 _ _ _ _ _ _ hw _ _ hH _ (lv_sub hl [0, 1, 2, 3, 5, 6] rfl)
  · have hw := hw.2 hc
    refine lv_aload_n hC.1 hC.2.1 dL_build_25 rfl (lv_at hl 1 rfl) ?_
    refine lv_iload_n hC.1 hC.2.1 dL_build_26 rfl (lv_at hl 2 rfl) ?_
    refine lv_iconst (v := 1) hC.1 hC.2.1 dL_build_27 (by decide) ?_
    refine lv_iadd hC.1 hC.2.1 dL_build_28 ?_
    refine lv_iload hC.1 hC.2.1 dL_build_29 (lv_at hl 7 rfl) ?_
    refine lv_iadd hC.1 hC.2.1 dL_build_31 ?_
    refine m_callSi (y := yL_cell) (rest := []) hC hs hH hl.1 (va_cwS 2 hC.2.2.2.2 (gA_S q_43 q_44 q_41 q_45) rfl rfl rfl (by decide +kernel) ⟨Nat.le_of_ble_eq_true rfl, Nat.le_of_ble_eq_true rfl⟩) (met_L_cell l hl0 g _ _ _ _ hX0 hw) rfl rfl (Nat.le_of_ble_eq_true rfl) dL_build_32 ⟨lwr hk (Nat.le_of_ble_eq_true rfl), lwr hk (Nat.le_of_ble_eq_true rfl)⟩ (fun E S1 _ _ _ _ hx => (hX0 E S1 hx).elim) (fun r4 S1 H locs hw hH => ?_)
    refine W.widen (k := (0 + k * 5 + 0)) (n := (0 + k * 147 + 0)) (lww (Nat.le_of_ble_eq_true rfl)) (lww (Nat.le_of_ble_eq_true rfl)) ?_
    refine lv_istore (lv' := [(8, .int _), (0, .ref _), (1, .ref _), (2, .int _), (3, .ref _), (4, .ref _), (5, .ref _), (6, .ref _), (7, .int _)]) hC.1 hC.2.1 dL_build_35 hl (by decide) rfl (fun ls hl => ?_)
    refine lv_iconst (v := 5) hC.1 hC.2.1 dL_build_37 (by decide) ?_
    refine m_newI (N' := 5) hC hs hH (List.mem_cons_of_mem _ q_3) (by decide) (by decide) (by decide) (lwr hk (Nat.le_of_ble_eq_true rfl)) (lwr hk (Nat.le_of_ble_eq_true rfl)) dL_build_38 (fun q5 H f6 hH => ?_)
    have hw := hw q5 f6 _ rfl
    refine W.widen (k := (0 + k * 5 + 1)) (n := (0 + k * 147 + 5)) (lww (Nat.le_of_ble_eq_true rfl)) (lww (Nat.le_of_ble_eq_true rfl)) ?_
    refine lv_dup hC.1 hC.2.1 dL_build_40 rfl ?_
    refine lv_iconst (v := 0) hC.1 hC.2.1 dL_build_41 (by decide) ?_
    refine lv_iconst (v := 1) hC.1 hC.2.1 dL_build_42 (by decide) ?_
    obtain ⟨i8, hw⟩ := hw
    have hw := hw _ rfl
    refine m_iast hC hs hH mkQ i8 dL_build_43 (fun H locs hH => ?_)
    refine lv_dup hC.1 hC.2.1 dL_build_44 rfl ?_
    refine lv_iconst (v := 1) hC.1 hC.2.1 dL_build_45 (by decide) ?_
    refine lv_bipush (v := 60) hC.1 hC.2.1 dL_build_46 (by decide) ?_
    obtain ⟨i10, hw⟩ := hw
    have hw := hw _ rfl
    refine m_iast hC hs hH mkQ i10 dL_build_48 (fun H locs hH => ?_)
    refine lv_dup hC.1 hC.2.1 dL_build_49 rfl ?_
    refine lv_iconst (v := 2) hC.1 hC.2.1 dL_build_50 (by decide) ?_
    refine lv_bipush (v := 30) hC.1 hC.2.1 dL_build_51 (by decide) ?_
    obtain ⟨i12, hw⟩ := hw
    have hw := hw _ rfl
    refine m_iast hC hs hH mkQ i12 dL_build_53 (fun H locs hH => ?_)
    refine lv_dup hC.1 hC.2.1 dL_build_54 rfl ?_
    refine lv_iconst (v := 3) hC.1 hC.2.1 dL_build_55 (by decide) ?_
    refine lv_bipush (v := 10) hC.1 hC.2.1 dL_build_56 (by decide) ?_
    obtain ⟨i14, hw⟩ := hw
    have hw := hw _ rfl
    refine m_iast hC hs hH mkQ i14 dL_build_58 (fun H locs hH => ?_)
    refine lv_dup hC.1 hC.2.1 dL_build_59 rfl ?_
    refine lv_iconst (v := 4) hC.1 hC.2.1 dL_build_60 (by decide) ?_
    refine lv_sipush (v := 300) hC.1 hC.2.1 dL_build_61 (by decide) ?_
    obtain ⟨i16, hw⟩ := hw
    have hw := hw _ rfl
    refine m_iast hC hs hH mkQ i16 dL_build_64 (fun H locs hH => ?_)
    refine lv_astore (lv' := [(9, .ref _), (8, .int _), (0, .ref _), (1, .ref _), (2, .int _), (3, .ref _), (4, .ref _), (5, .ref _), (6, .ref _), (7, .int _)]) hC.1 hC.2.1 dL_build_65 hl (by decide) rfl (fun ls hl => ?_)
    refine lv_aload hC.1 hC.2.1 dL_build_67 (lv_at hl 6 rfl) ?_
    refine lv_bipush (v := 9) hC.1 hC.2.1 dL_build_69 (by decide) ?_
    refine lv_iload hC.1 hC.2.1 dL_build_71 (lv_at hl 9 rfl) ?_
    refine lv_imul hC.1 hC.2.1 dL_build_73 ?_
    refine lv_bipush (v := 10) hC.1 hC.2.1 dL_build_74 (by decide) ?_
    refine lv_iload hC.1 hC.2.1 dL_build_76 (lv_at hl 1 rfl) ?_
    refine lv_bipush (v := 9) hC.1 hC.2.1 dL_build_78 (by decide) ?_
    refine m_callSi (y := yL_below) (rest := [.int _, .int _, .ref _]) hC hs hH hl.1 (va_cwS 2 hC.2.2.2.2 (gA_S q_47 q_48 q_41 q_49) rfl rfl rfl (by decide +kernel) ⟨Nat.le_of_ble_eq_true rfl, Nat.le_of_ble_eq_true rfl⟩) (met_L_below l hl0 g _ _ _ _ _ hX0 hw) rfl rfl (Nat.le_of_ble_eq_true rfl) dL_build_80 ⟨lwr hk (Nat.le_of_ble_eq_true rfl), lwr hk (Nat.le_of_ble_eq_true rfl)⟩ (fun E S1 _ _ _ _ hx => (hX0 E S1 hx).elim) (fun r19 S1 H locs hw hH => ?_)
    refine W.widen (k := (0 + k * 5 + 1)) (n := (0 + k * 147 + 5)) (lww (Nat.le_of_ble_eq_true rfl)) (lww (Nat.le_of_ble_eq_true rfl)) ?_
    refine lv_imul hC.1 hC.2.1 dL_build_83 ?_
    obtain ⟨k20, hw⟩ := hw
    obtain ⟨i21, hw⟩ := hw
    have hw := hw _ rfl
    refine m_iast hC hs hH k20 i21 dL_build_84 (fun H locs hH => ?_)
    refine lv_aload hC.1 hC.2.1 dL_build_85 (lv_at hl 6 rfl) ?_
    refine lv_bipush (v := 9) hC.1 hC.2.1 dL_build_87 (by decide) ?_
    refine lv_iload hC.1 hC.2.1 dL_build_89 (lv_at hl 9 rfl) ?_
    refine lv_imul hC.1 hC.2.1 dL_build_91 ?_
    refine lv_iconst (v := 1) hC.1 hC.2.1 dL_build_92 (by decide) ?_
    refine lv_iadd hC.1 hC.2.1 dL_build_93 ?_
    refine lv_iload hC.1 hC.2.1 dL_build_94 (lv_at hl 1 rfl) ?_
    refine lv_iconst (v := 3) hC.1 hC.2.1 dL_build_96 (by decide) ?_
    refine lv_ishr hC.1 hC.2.1 dL_build_97 ?_
    refine lv_sipush (v := 200) hC.1 hC.2.1 dL_build_98 (by decide) ?_
    refine m_callSi (y := yL_below) (rest := [.int _, .ref _]) hC hs hH hl.1 (va_cwS 2 hC.2.2.2.2 (gA_S q_47 q_48 q_41 q_49) rfl rfl rfl (by decide +kernel) ⟨Nat.le_of_ble_eq_true rfl, Nat.le_of_ble_eq_true rfl⟩) (met_L_below l hl0 g _ _ _ _ _ hX0 hw) rfl rfl (Nat.le_of_ble_eq_true rfl) dL_build_101 ⟨lwr hk (Nat.le_of_ble_eq_true rfl), lwr hk (Nat.le_of_ble_eq_true rfl)⟩ (fun E S1 _ _ _ _ hx => (hX0 E S1 hx).elim) (fun r24 S1 H locs hw hH => ?_)
    refine W.widen (k := (0 + k * 5 + 1)) (n := (0 + k * 147 + 5)) (lww (Nat.le_of_ble_eq_true rfl)) (lww (Nat.le_of_ble_eq_true rfl)) ?_
    obtain ⟨k25, hw⟩ := hw
    obtain ⟨i26, hw⟩ := hw
    have hw := hw _ rfl
    refine m_iast hC hs hH k25 i26 dL_build_104 (fun H locs hH => ?_)
    refine lv_aload hC.1 hC.2.1 dL_build_105 (lv_at hl 6 rfl) ?_
    refine lv_bipush (v := 9) hC.1 hC.2.1 dL_build_107 (by decide) ?_
    refine lv_iload hC.1 hC.2.1 dL_build_109 (lv_at hl 9 rfl) ?_
    refine lv_imul hC.1 hC.2.1 dL_build_111 ?_
    refine lv_iconst (v := 2) hC.1 hC.2.1 dL_build_112 (by decide) ?_
    refine lv_iadd hC.1 hC.2.1 dL_build_113 ?_
    refine lv_iload hC.1 hC.2.1 dL_build_114 (lv_at hl 1 rfl) ?_
    refine lv_bipush (v := 6) hC.1 hC.2.1 dL_build_116 (by decide) ?_
    refine lv_ishr hC.1 hC.2.1 dL_build_118 ?_
    refine lv_bipush (v := 100) hC.1 hC.2.1 dL_build_119 (by decide) ?_
    refine m_callSi (y := yL_below) (rest := [.int _, .ref _]) hC hs hH hl.1 (va_cwS 2 hC.2.2.2.2 (gA_S q_47 q_48 q_41 q_49) rfl rfl rfl (by decide +kernel) ⟨Nat.le_of_ble_eq_true rfl, Nat.le_of_ble_eq_true rfl⟩) (met_L_below l hl0 g _ _ _ _ _ hX0 hw) rfl rfl (Nat.le_of_ble_eq_true rfl) dL_build_121 ⟨lwr hk (Nat.le_of_ble_eq_true rfl), lwr hk (Nat.le_of_ble_eq_true rfl)⟩ (fun E S1 _ _ _ _ hx => (hX0 E S1 hx).elim) (fun r29 S1 H locs hw hH => ?_)
    refine W.widen (k := (0 + k * 5 + 1)) (n := (0 + k * 147 + 5)) (lww (Nat.le_of_ble_eq_true rfl)) (lww (Nat.le_of_ble_eq_true rfl)) ?_
    obtain ⟨k30, hw⟩ := hw
    obtain ⟨i31, hw⟩ := hw
    have hw := hw _ rfl
    refine m_iast hC hs hH k30 i31 dL_build_124 (fun H locs hH => ?_)
    refine lv_aload hC.1 hC.2.1 dL_build_125 (lv_at hl 6 rfl) ?_
    refine lv_bipush (v := 9) hC.1 hC.2.1 dL_build_127 (by decide) ?_
    refine lv_iload hC.1 hC.2.1 dL_build_129 (lv_at hl 9 rfl) ?_
    refine lv_imul hC.1 hC.2.1 dL_build_131 ?_
    refine lv_iconst (v := 3) hC.1 hC.2.1 dL_build_132 (by decide) ?_
    refine lv_iadd hC.1 hC.2.1 dL_build_133 ?_
    refine lv_aload hC.1 hC.2.1 dL_build_134 (lv_at hl 0 rfl) ?_
    refine lv_iload hC.1 hC.2.1 dL_build_136 (lv_at hl 1 rfl) ?_
    refine lv_bipush (v := 9) hC.1 hC.2.1 dL_build_138 (by decide) ?_
    refine lv_ishr hC.1 hC.2.1 dL_build_140 ?_
    refine lv_iconst (v := 5) hC.1 hC.2.1 dL_build_141 (by decide) ?_
    refine m_callSi (y := yL_below) (rest := [.ref _, .int _, .ref _]) hC hs hH hl.1 (va_cwS 2 hC.2.2.2.2 (gA_S q_47 q_48 q_41 q_49) rfl rfl rfl (by decide +kernel) ⟨Nat.le_of_ble_eq_true rfl, Nat.le_of_ble_eq_true rfl⟩) (met_L_below l hl0 g _ _ _ _ _ hX0 hw) rfl rfl (Nat.le_of_ble_eq_true rfl) dL_build_142 ⟨lwr hk (Nat.le_of_ble_eq_true rfl), lwr hk (Nat.le_of_ble_eq_true rfl)⟩ (fun E S1 _ _ _ _ hx => (hX0 E S1 hx).elim) (fun r34 S1 H locs hw hH => ?_)
    refine W.widen (k := (0 + k * 5 + 1)) (n := (0 + k * 147 + 5)) (lww (Nat.le_of_ble_eq_true rfl)) (lww (Nat.le_of_ble_eq_true rfl)) ?_
    obtain ⟨k35, hw⟩ := hw
    obtain ⟨i36, hw⟩ := hw
    refine m_iald hC hs hH k35 i36 dL_build_145 ?_
    obtain ⟨k37, hw⟩ := hw
    obtain ⟨i38, hw⟩ := hw
    have hw := hw _ rfl
    refine m_iast hC hs hH k37 i38 dL_build_146 (fun H locs hH => ?_)
    refine lv_aload hC.1 hC.2.1 dL_build_147 (lv_at hl 6 rfl) ?_
    refine lv_bipush (v := 9) hC.1 hC.2.1 dL_build_149 (by decide) ?_
    refine lv_iload hC.1 hC.2.1 dL_build_151 (lv_at hl 9 rfl) ?_
    refine lv_imul hC.1 hC.2.1 dL_build_153 ?_
    refine lv_iconst (v := 4) hC.1 hC.2.1 dL_build_154 (by decide) ?_
    refine lv_iadd hC.1 hC.2.1 dL_build_155 ?_
    refine lv_aload hC.1 hC.2.1 dL_build_156 (lv_at hl 0 rfl) ?_
    refine lv_iload hC.1 hC.2.1 dL_build_158 (lv_at hl 1 rfl) ?_
    refine lv_bipush (v := 12) hC.1 hC.2.1 dL_build_160 (by decide) ?_
    refine lv_ishr hC.1 hC.2.1 dL_build_162 ?_
    refine lv_iconst (v := 5) hC.1 hC.2.1 dL_build_163 (by decide) ?_
    refine m_callSi (y := yL_below) (rest := [.ref _, .int _, .ref _]) hC hs hH hl.1 (va_cwS 2 hC.2.2.2.2 (gA_S q_47 q_48 q_41 q_49) rfl rfl rfl (by decide +kernel) ⟨Nat.le_of_ble_eq_true rfl, Nat.le_of_ble_eq_true rfl⟩) (met_L_below l hl0 g _ _ _ _ _ hX0 hw) rfl rfl (Nat.le_of_ble_eq_true rfl) dL_build_164 ⟨lwr hk (Nat.le_of_ble_eq_true rfl), lwr hk (Nat.le_of_ble_eq_true rfl)⟩ (fun E S1 _ _ _ _ hx => (hX0 E S1 hx).elim) (fun r41 S1 H locs hw hH => ?_)
    refine W.widen (k := (0 + k * 5 + 1)) (n := (0 + k * 147 + 5)) (lww (Nat.le_of_ble_eq_true rfl)) (lww (Nat.le_of_ble_eq_true rfl)) ?_
    obtain ⟨k42, hw⟩ := hw
    obtain ⟨i43, hw⟩ := hw
    refine m_iald hC hs hH k42 i43 dL_build_167 ?_
    obtain ⟨k44, hw⟩ := hw
    obtain ⟨i45, hw⟩ := hw
    have hw := hw _ rfl
    refine m_iast hC hs hH k44 i45 dL_build_168 (fun H locs hH => ?_)
    refine lv_aload_n hC.1 hC.2.1 dL_build_169 rfl (lv_at hl 2 rfl) ?_
    refine lv_aload hC.1 hC.2.1 dL_build_170 (lv_at hl 6 rfl) ?_
    refine lv_bipush (v := 9) hC.1 hC.2.1 dL_build_172 (by decide) ?_
    refine lv_iload hC.1 hC.2.1 dL_build_174 (lv_at hl 9 rfl) ?_
    refine lv_imul hC.1 hC.2.1 dL_build_176 ?_
    obtain ⟨i47, hw⟩ := hw
    refine m_iald hC hs hH k44 i47 dL_build_177 ?_
    refine lv_aload hC.1 hC.2.1 dL_build_178 (lv_at hl 6 rfl) ?_
    refine lv_bipush (v := 9) hC.1 hC.2.1 dL_build_180 (by decide) ?_
    refine lv_iload hC.1 hC.2.1 dL_build_182 (lv_at hl 9 rfl) ?_
    refine lv_imul hC.1 hC.2.1 dL_build_184 ?_
    refine lv_iconst (v := 1) hC.1 hC.2.1 dL_build_185 (by decide) ?_
    refine lv_iadd hC.1 hC.2.1 dL_build_186 ?_
    obtain ⟨i48, hw⟩ := hw
    refine m_iald hC hs hH k44 i48 dL_build_187 ?_
    refine lv_aload hC.1 hC.2.1 dL_build_188 (lv_at hl 6 rfl) ?_
    refine lv_bipush (v := 9) hC.1 hC.2.1 dL_build_190 (by decide) ?_
    refine lv_iload hC.1 hC.2.1 dL_build_192 (lv_at hl 9 rfl) ?_
    refine lv_imul hC.1 hC.2.1 dL_build_194 ?_
    refine lv_iconst (v := 2) hC.1 hC.2.1 dL_build_195 (by decide) ?_
    refine lv_iadd hC.1 hC.2.1 dL_build_196 ?_
    obtain ⟨i49, hw⟩ := hw
    refine m_iald hC hs hH k44 i49 dL_build_197 ?_
    refine lv_aload hC.1 hC.2.1 dL_build_198 (lv_at hl 6 rfl) ?_
    refine lv_bipush (v := 9) hC.1 hC.2.1 dL_build_200 (by decide) ?_
    refine lv_iload hC.1 hC.2.1 dL_build_202 (lv_at hl 9 rfl) ?_
    refine lv_imul hC.1 hC.2.1 dL_build_204 ?_
    refine lv_iconst (v := 3) hC.1 hC.2.1 dL_build_205 (by decide) ?_
    refine lv_iadd hC.1 hC.2.1 dL_build_206 ?_
    obtain ⟨i50, hw⟩ := hw
    refine m_iald hC hs hH k44 i50 dL_build_207 ?_
    refine lv_aload hC.1 hC.2.1 dL_build_208 (lv_at hl 6 rfl) ?_
    refine lv_bipush (v := 9) hC.1 hC.2.1 dL_build_210 (by decide) ?_
    refine lv_iload hC.1 hC.2.1 dL_build_212 (lv_at hl 9 rfl) ?_
    refine lv_imul hC.1 hC.2.1 dL_build_214 ?_
    refine lv_iconst (v := 4) hC.1 hC.2.1 dL_build_215 (by decide) ?_
    refine lv_iadd hC.1 hC.2.1 dL_build_216 ?_
    obtain ⟨i51, hw⟩ := hw
    refine m_iald hC hs hH k44 i51 dL_build_217 ?_
    obtain ⟨k53, hw⟩ := hw
    refine m_callVi (y := yX4_addTariff) (rest := []) hC hs hH hl.1 (cwV 5 hC.2.2.2.2 (gA_V q_51 q_52 q_53 q_2 q_54) rfl rfl rfl (by decide +kernel) ⟨Nat.le_of_ble_eq_true rfl, Nat.le_of_ble_eq_true rfl⟩) cs4 k53 (met_X4_addTariff l hl0 g _ _ _ _ _ _ _ _ _ hX0 hw) rfl rfl (Nat.le_of_ble_eq_true rfl) dL_build_218 ⟨lwr hk (Nat.le_of_ble_eq_true rfl), lwr hk (Nat.le_of_ble_eq_true rfl)⟩ (fun E S1 _ _ _ _ hx => (hX0 E S1 hx).elim) (fun r54 S1 H locs hw hH => ?_)
    refine W.widen (k := (0 + k * 5 + 5)) (n := (0 + k * 147 + 147)) (lww (Nat.le_of_ble_eq_true rfl)) (lww (Nat.le_of_ble_eq_true rfl)) ?_
    refine lv_iload hC.1 hC.2.1 dL_build_221 (lv_at hl 9 rfl) ?_
    refine lv_icmp_eq (tgt := 228) hC.1 hC.2.1 dL_build_223 (by decide) (fun hc => ?_) (fun hc => ?_)
    · have hw := hw.1 hc
      refine lv_iconst (v := 1) hC.1 hC.2.1 dL_build_228 (by decide) ?_
      have hw := hw _ rfl
      refine lv_istore (lv' := [(10, .int _), (9, .ref _), (8, .int _), (0, .ref _), (1, .ref _), (2, .int _), (3, .ref _), (4, .ref _), (5, .ref _), (6, .ref _), (7, .int _)]) hC.1 hC.2.1 dL_build_229 hl (by decide) rfl (fun ls hl => ?_)
      refine W.widen (k := (0 + k * 5 + 5)) (n := (0 + k * 147 + 147)) (lwe (Nat.le_of_ble_eq_true rfl)) (lwe (Nat.le_of_ble_eq_true rfl)) ?_
      obtain ⟨n, hw⟩ := hw
      exact lw_L_build_231 hl0 hC hrt hlk hmn hnx hs hX0 hk hk17 n _ _ _ _ _ _ _ _ _ _ hw _ _ hH _ (lv_sub hl [3, 4, 5, 6, 7, 8, 9, 10, 2, 0] rfl)
    · have hw := hw.2 hc
      refine lv_iconst (v := 0) hC.1 hC.2.1 dL_build_226 (by decide) ?_
      exact m_reti hC hH hrt rfl hlk (lwq hk (Nat.le_of_ble_eq_true rfl)) (lwq hk (Nat.le_of_ble_eq_true rfl)) dL_build_227 hw
theorem lw_L_build_17 {p : Program} {l : Launch} {e : Env} {s : State} {m : MethodId} {args : Array Value} {below : List Frame} {meth : Method} {c : Code} {g : mG} {Q : Int32 → mmS → Prop} {X : String → mmS → Prop} (hl0 : l.stackTraces = false) (hC : CallFix p m c cL_build 11 s args (wA_ yL_build cL_build 11 (some .boolean)) RL) (hrt : meth.sig.returnType = (some .boolean)) (hlk : meth.locks = false) (hmn : meth.name = yL_build.name) (hnx : ∀ x ∈ c.exceptionTable.toList, False) (hs : mX g s) (hX0 : ∀ (E : String) (S : mmS), ¬ X E S) : ∀ (n k : Nat), k + n = 4 → ∀ (S : mmS) (x0 : Nat) (x2 : Int32) (x3 : Nat) (x4 : Nat) (x5 : Nat) (x6 : Nat) (x7 : Int32), lp_L_build_17 g.2.2.2.2.2 g.2.2.2.2.1.2.1 g.2.2.2.2.1.2.2 Q X n S x0 x2 x3 x4 x5 x6 x7 → ∀ (H : Heap) (locs : List Loc), mH g S s H locs → ∀ ls : Array Slot, lv_has ls 11 [(0, .ref x0), (1, .ref g.2.2.2.2.1.1), (2, .int x2), (3, .ref x3), (4, .ref x4), (5, .ref x5), (6, .ref x6), (7, .int x7)] → W p l e rm_L_build s m args below meth c H locs (0 + k * 5 + 0) (0 + k * 147 + 0) (vx_MQ below (va_Qi Q (wO g) (mB g)) (vx_X (fun _ : mmS => True) (fun E S1 t => X E S1 ∧ wO g S1 t) (mB g)) args s rm_L_build.cells rm_L_build.slots (mB g)) (F0 m 17 ls []) := by
  intro n
  induction n with
  | zero => intro k hk S x0 x2 x3 x4 x5 x6 x7 hw; exact False.elim hw
  | succ n ih => exact fun k hk S x0 x2 x3 x4 x5 x6 x7 hw => bw_L_build_17 hl0 hC hrt hlk hmn hnx hs hX0 (k := k) (by omega) (K17 := lp_L_build_17 g.2.2.2.2.2 g.2.2.2.2.1.2.1 g.2.2.2.2.1.2.2 Q X n) (ih (k + 1) (by omega)) S x0 x2 x3 x4 x5 x6 x7 hw
set_option maxHeartbeats 4000000 in
set_option maxRecDepth 100000 in
theorem met_L_build (l : Launch) (hl0 : l.stackTraces = false) (g : mG) (S : mmS) (p0 : Nat) (p2 : Int32) (p3 : Nat) (p4 : Nat) (p5 : Nat) (p6 : Nat) (Q : Int32 → mmS → Prop) (X : String → mmS → Prop) (hX0 : ∀ (E : String) (S : mmS), ¬ X E S) (hw : wp_L_build g.2.2.2.2.2 g.2.2.2.2.1.2.1 g.2.2.2.2.1.2.2 S p0 p2 p3 p4 p5 p6 Q X) : mMi l g yL_build (wA_ yL_build cL_build 11 (some .boolean)) rm_L_build [.ref p0, .ref g.2.2.2.2.1.1, .int p2, .ref p3, .ref p4, .ref p5, .ref p6] S Q X := by
  refine m_of (y := yL_build) (cc := cL_build) (maxL := 11) (ret := (some .boolean)) (by decide) rfl (Nat.le_of_ble_eq_true rfl) ?_
  intro p e s m args below meth c ls hC hrt hlk hmn hnx hs hH hl
  have hC : CallFix p m c cL_build 11 s args (wA_ yL_build cL_build 11 (some .boolean)) RL := hC
  have hl : lv_has ls 11 [(0, .ref p0), (1, .ref g.2.2.2.2.1.1), (2, .int p2), (3, .ref p3), (4, .ref p4), (5, .ref p5), (6, .ref p6)] := hl
  unfold wp_L_build at hw
  refine lv_aload_n hC.1 hC.2.1 dL_build_0 rfl (lv_at hl 3 rfl) ?_
  refine lv_iconst (v := 0) hC.1 hC.2.1 dL_build_1 (by decide) ?_
  refine lv_iconst (v := 1) hC.1 hC.2.1 dL_build_2 (by decide) ?_
  refine lv_aload_n hC.1 hC.2.1 dL_build_3 rfl (lv_at hl 1 rfl) ?_
  refine lv_iload_n hC.1 hC.2.1 dL_build_4 rfl (lv_at hl 2 rfl) ?_
  refine m_callSi (y := yL_cell) (rest := [.int _, .int _, .ref _]) hC hs hH hl.1 (va_cwS 2 hC.2.2.2.2 (gA_S q_43 q_44 q_41 q_45) rfl rfl rfl (by decide +kernel) ⟨Nat.le_of_ble_eq_true rfl, Nat.le_of_ble_eq_true rfl⟩) (met_L_cell l hl0 g _ _ _ _ hX0 hw) rfl rfl (Nat.le_of_ble_eq_true rfl) dL_build_5 ⟨Nat.le_of_ble_eq_true rfl, Nat.le_of_ble_eq_true rfl⟩ (fun E S1 _ _ _ _ hx => (hX0 E S1 hx).elim) (fun r2 S1 H locs hw hH => ?_)
  refine W.widen (k := 0) (n := 0) (Nat.le_of_ble_eq_true rfl) (Nat.le_of_ble_eq_true rfl) ?_
  refine lv_iconst (v := 3) hC.1 hC.2.1 dL_build_8 (by decide) ?_
  refine m_callSi (y := yL_below) (rest := [.int _, .int _, .ref _]) hC hs hH hl.1 (va_cwS 2 hC.2.2.2.2 (gA_S q_47 q_48 q_41 q_49) rfl rfl rfl (by decide +kernel) ⟨Nat.le_of_ble_eq_true rfl, Nat.le_of_ble_eq_true rfl⟩) (met_L_below l hl0 g _ _ _ _ _ hX0 hw) rfl rfl (Nat.le_of_ble_eq_true rfl) dL_build_9 ⟨Nat.le_of_ble_eq_true rfl, Nat.le_of_ble_eq_true rfl⟩ (fun E S1 _ _ _ _ hx => (hX0 E S1 hx).elim) (fun r4 S1 H locs hw hH => ?_)
  refine W.widen (k := 0) (n := 0) (Nat.le_of_ble_eq_true rfl) (Nat.le_of_ble_eq_true rfl) ?_
  refine lv_iadd hC.1 hC.2.1 dL_build_12 ?_
  obtain ⟨k5, hw⟩ := hw
  obtain ⟨i6, hw⟩ := hw
  have hw := hw _ rfl
  refine m_iast hC hs hH k5 i6 dL_build_13 (fun H locs hH => ?_)
  refine lv_iconst (v := 0) hC.1 hC.2.1 dL_build_14 (by decide) ?_
  have hw := hw _ rfl
  refine lv_istore (lv' := [(7, .int _), (0, .ref _), (1, .ref _), (2, .int _), (3, .ref _), (4, .ref _), (5, .ref _), (6, .ref _)]) hC.1 hC.2.1 dL_build_15 hl (by decide) rfl (fun ls hl => ?_)
  refine W.widen (k := 0 + 0 * 5 + 0) (n := 0 + 0 * 147 + 0) (Nat.le_of_ble_eq_true rfl) (Nat.le_of_ble_eq_true rfl) ?_
  exact lw_L_build_17 hl0 hC hrt hlk hmn hnx hs hX0 4 0 rfl _ _ _ _ _ _ _ _ hw _ _ hH _ (lv_sub hl [1, 2, 3, 4, 5, 6, 7, 0] rfl)
abbrev rm_L_call : Room := { frames := 8, cells := 45, slots := 3975, locals := 200 }
def bk_L_call_262 (z : Nat × Nat) (L : Nat) (xs : Nat → Int32) (Q : Int32 → mmS → Prop) (X : String → mmS → Prop) (S : mmS) (x0 : Nat) (x6 : Int32) : Prop := (x0 ∈ mL S ∧ mK S x0 = 4) ∧ wp_X4_callCount z S x0 (fun r3 S1 => (¬ r3 = x6 → Q (-1 : Int32) S1) ∧ (r3 = x6 → Q x6 S1)) X
def bk_L_call_210 (z : Nat × Nat) (L : Nat) (xs : Nat → Int32) (Q : Int32 → mmS → Prop) (X : String → mmS → Prop) (K16 : mmS → Nat → Int32 → Int32 → Nat → Int32 → Int32 → Prop) (S : mmS) (x0 : Nat) (x2 : Int32) (x4 : Int32) (x5 : Nat) (x6 : Int32) (x7 : Int32) (t0 : Nat) (t1 : Int32) (t2 : Int32) : Prop := (t0 ∈ mL S ∧ mK S t0 = 7) ∧ vp_in t1 (mN S t0) ∧ ∀ S3 : mmS, S3 = sA S t0 (t1).toNatClampNeg t2 → (x5 ∈ mL S3 ∧ mK S3 x5 = 7) ∧ vp_in ((4 : Int32) * x7) (mN S3 x5) ∧ vp_in (((4 : Int32) * x7) + (1 : Int32)) (mN S3 x5) ∧ vp_in (((4 : Int32) * x7) + (2 : Int32)) (mN S3 x5) ∧ vp_in (((4 : Int32) * x7) + (3 : Int32)) (mN S3 x5) ∧ (x0 ∈ mL S3 ∧ mK S3 x0 = 4) ∧ wp_X4_addCall z S3 x0 (mA S3 x5 ((4 : Int32) * x7).toNatClampNeg) (mA S3 x5 (((4 : Int32) * x7) + (1 : Int32)).toNatClampNeg) (mA S3 x5 (((4 : Int32) * x7) + (2 : Int32)).toNatClampNeg) (mA S3 x5 (((4 : Int32) * x7) + (3 : Int32)).toNatClampNeg) (fun r11 S9 => (r11 = x7 → ∀ v12 : Int32, v12 = x7 + 1 → K16 S9 x0 x2 x4 x5 x6 v12) ∧ (¬ r11 = x7 → Q (-1 : Int32) S9)) X
def bk_L_call_173 (z : Nat × Nat) (L : Nat) (xs : Nat → Int32) (Q : Int32 → mmS → Prop) (X : String → mmS → Prop) (K16 : mmS → Nat → Int32 → Int32 → Nat → Int32 → Int32 → Prop) (S : mmS) (x0 : Nat) (x2 : Int32) (x4 : Int32) (x5 : Nat) (x6 : Int32) (x7 : Int32) (x8 : Int32) (t0 : Nat) (t1 : Int32) (t2 : Int32) (t3 : Int32) : Prop := (t0 ∈ mL S ∧ mK S t0 = 7) ∧ vp_in t1 (mN S t0) ∧ ∀ S3 : mmS, S3 = sA S t0 (t1).toNatClampNeg (t2 + t3) → wp_L_below z L xs S3 (x8 >>> ((8 : Int32) &&& 31)) (2 : Int32) (fun r5 S4 => (¬ r5 = 0 → wp_L_below z L xs S4 (x8 >>> ((9 : Int32) &&& 31)) (2 : Int32) (fun r7 S6 => bk_L_call_210 z L xs Q X K16 S6 x0 x2 x4 x5 x6 x7 x5 (((4 : Int32) * x7) + (3 : Int32)) ((1 : Int32) + r7)) X) ∧ (r5 = 0 → bk_L_call_210 z L xs Q X K16 S4 x0 x2 x4 x5 x6 x7 x5 (((4 : Int32) * x7) + (3 : Int32)) (0 : Int32))) X
def bk_L_call_127 (z : Nat × Nat) (L : Nat) (xs : Nat → Int32) (Q : Int32 → mmS → Prop) (X : String → mmS → Prop) (K16 : mmS → Nat → Int32 → Int32 → Nat → Int32 → Int32 → Prop) (S : mmS) (x0 : Nat) (x2 : Int32) (x4 : Int32) (x5 : Nat) (x6 : Int32) (x7 : Int32) (x8 : Int32) (t0 : Nat) (t1 : Int32) (t2 : Int32) : Prop := (t0 ∈ mL S ∧ mK S t0 = 7) ∧ vp_in t1 (mN S t0) ∧ ∀ S3 : mmS, S3 = sA S t0 (t1).toNatClampNeg t2 → wp_L_below z L xs S3 (x8 >>> ((4 : Int32) &&& 31)) (2 : Int32) (fun r5 S4 => (¬ r5 = 0 → wp_L_below z L xs S4 (x8 >>> ((6 : Int32) &&& 31)) (1900 : Int32) (fun r7 S6 => bk_L_call_173 z L xs Q X K16 S6 x0 x2 x4 x5 x6 x7 x8 x5 (((4 : Int32) * x7) + (2 : Int32)) (1 : Int32) r7) X) ∧ (r5 = 0 → wp_L_below z L xs S4 (x8 >>> ((6 : Int32) &&& 31)) (200 : Int32) (fun r9 S8 => bk_L_call_173 z L xs Q X K16 S8 x0 x2 x4 x5 x6 x7 x8 x5 (((4 : Int32) * x7) + (2 : Int32)) (1 : Int32) r9) X)) X
def bk_L_call_16 (z : Nat × Nat) (L : Nat) (xs : Nat → Int32) (Q : Int32 → mmS → Prop) (X : String → mmS → Prop) (K16 : mmS → Nat → Int32 → Int32 → Nat → Int32 → Int32 → Prop) (S : mmS) (x0 : Nat) (x2 : Int32) (x4 : Int32) (x5 : Nat) (x6 : Int32) (x7 : Int32) : Prop := (x6 ≤ x7 → bk_L_call_262 z L xs Q X S x0 x6) ∧ (¬ x6 ≤ x7 → wp_L_cell z L xs S ((x2 + (1 : Int32)) + (x7 - x7 / (7 : Int32) * (7 : Int32))) (fun r2 S1 => ∀ v3 : Int32, v3 = ((r2 >>> (((x7 / (7 : Int32)) * (5 : Int32)) &&& 31)) ^^^ (x7 * (1009 : Int32))) → wp_L_below z L xs S1 v3 x4 (fun r5 S4 => (x5 ∈ mL S4 ∧ mK S4 x5 = 7) ∧ vp_in ((4 : Int32) * x7) (mN S4 x5) ∧ ∀ S8 : mmS, S8 = sA S4 x5 ((4 : Int32) * x7).toNatClampNeg r5 → wp_L_below z L xs S8 (v3 >>> ((2 : Int32) &&& 31)) (3 : Int32) (fun r10 S9 => (r10 ≤ 0 → wp_L_below z L xs S9 (v3 >>> ((3 : Int32) &&& 31)) (43200 : Int32) (fun r12 S11 => bk_L_call_127 z L xs Q X K16 S11 x0 x2 x4 x5 x6 x7 v3 x5 (((4 : Int32) * x7) + (1 : Int32)) r12) X) ∧ (¬ r10 ≤ 0 → wp_L_below z L xs S9 (v3 >>> ((3 : Int32) &&& 31)) (3 : Int32) (fun r14 S13 => wp_L_below z L xs S13 (v3 >>> ((5 : Int32) &&& 31)) (30 : Int32) (fun r16 S15 => bk_L_call_127 z L xs Q X K16 S15 x0 x2 x4 x5 x6 x7 v3 x5 (((4 : Int32) * x7) + (1 : Int32)) ((((1440 : Int32) * r14) + (400 : Int32)) + ((30 : Int32) * r16))) X) X)) X) X) X)
def lp_L_call_16 (z : Nat × Nat) (L : Nat) (xs : Nat → Int32) (Q : Int32 → mmS → Prop) (X : String → mmS → Prop) : Nat → mmS → Nat → Int32 → Int32 → Nat → Int32 → Int32 → Prop
  | 0 => fun _ _ _ _ _ _ _ => False
  | n + 1 => bk_L_call_16 z L xs Q X (lp_L_call_16 z L xs Q X n)
def wp_L_call (z : Nat × Nat) (L : Nat) (xs : Nat → Int32) (S : mmS) (p0 : Nat) (p2 : Int32) (p3 : Int32) (p4 : Int32) (p5 : Nat) (Q : Int32 → mmS → Prop) (X : String → mmS → Prop) : Prop := wp_L_cell z L xs S p2 (fun r2 S1 => wp_L_below z L xs S1 r2 (p3 + (1 : Int32)) (fun r4 S3 => ∀ v5 : Int32, v5 = (0 : Int32) → lp_L_call_16 z L xs Q X 15 S3 p0 p2 p4 p5 r4 v5) X) X
set_option maxHeartbeats 4000000 in
set_option maxRecDepth 100000 in
theorem bw_L_call_262 {p : Program} {l : Launch} {e : Env} {s : State} {m : MethodId} {args : Array Value} {below : List Frame} {meth : Method} {c : Code} {g : mG} {Q : Int32 → mmS → Prop} {X : String → mmS → Prop} (hl0 : l.stackTraces = false) (hC : CallFix p m c cL_call 9 s args (wA_ yL_call cL_call 9 (some .int)) RL) (hrt : meth.sig.returnType = (some .int)) (hlk : meth.locks = false) (hmn : meth.name = yL_call.name) (hnx : ∀ x ∈ c.exceptionTable.toList, False) (hs : mX g s) (hX0 : ∀ (E : String) (S : mmS), ¬ X E S) : ∀ (S : mmS) (x0 : Nat) (x6 : Int32), bk_L_call_262 g.2.2.2.2.2 g.2.2.2.2.1.2.1 g.2.2.2.2.1.2.2 Q X S x0 x6 → ∀ (H : Heap) (locs : List Loc), mH g S s H locs → ∀ ls : Array Slot, lv_has ls 9 [(0, .ref x0), (6, .int x6)] → W p l e rm_L_call s m args below meth c H locs 42 3710 (vx_MQ below (va_Qi Q (wO g) (mB g)) (vx_X (fun _ : mmS => True) (fun E S1 t => X E S1 ∧ wO g S1 t) (mB g)) args s rm_L_call.cells rm_L_call.slots (mB g)) (F0 m 262 ls []) := by
  intro S x0 x6 hw H locs hH ls hl
  unfold bk_L_call_262 at hw
  refine lv_aload_n hC.1 hC.2.1 dL_call_262 rfl (lv_at hl 0 rfl) ?_
  obtain ⟨k2, hw⟩ := hw
  refine m_callVi (y := yX4_callCount) (rest := []) hC hs hH hl.1 (cwV 0 hC.2.2.2.2 (gA_V q_323 q_324 q_325 q_2 q_326) rfl rfl rfl (by decide +kernel) ⟨Nat.le_of_ble_eq_true rfl, Nat.le_of_ble_eq_true rfl⟩) cs4 k2 (met_X4_callCount l hl0 g _ _ _ _ hX0 hw) rfl rfl (Nat.le_of_ble_eq_true rfl) dL_call_263 ⟨Nat.le_of_ble_eq_true rfl, Nat.le_of_ble_eq_true rfl⟩ (fun E S1 _ _ _ _ hx => (hX0 E S1 hx).elim) (fun r3 S1 H locs hw hH => ?_)
  refine W.widen (k := 42) (n := 3710) (Nat.le_of_ble_eq_true rfl) (Nat.le_of_ble_eq_true rfl) ?_
  refine lv_iload hC.1 hC.2.1 dL_call_266 (lv_at hl 1 rfl) ?_
  refine lv_icmp_ne (tgt := 276) hC.1 hC.2.1 dL_call_268 (by decide) (fun hc => ?_) (fun hc => ?_)
  · have hw := hw.1 hc
    refine lv_iconst (v := (-1)) hC.1 hC.2.1 dL_call_276 (by decide) ?_
    exact m_reti hC hH hrt rfl hlk (Nat.le_of_ble_eq_true rfl) (Nat.le_of_ble_eq_true rfl) dL_call_277 hw
  · have hw := hw.2 hc
    refine lv_iload hC.1 hC.2.1 dL_call_271 (lv_at hl 1 rfl) ?_
    refine lv_goto (tgt := 277) hC.1 hC.2.1 dL_call_273 (by decide) ?_
    exact m_reti hC hH hrt rfl hlk (Nat.le_of_ble_eq_true rfl) (Nat.le_of_ble_eq_true rfl) dL_call_277 hw
set_option maxHeartbeats 4000000 in
set_option maxRecDepth 100000 in
theorem bw_L_call_210 {p : Program} {l : Launch} {e : Env} {s : State} {m : MethodId} {args : Array Value} {below : List Frame} {meth : Method} {c : Code} {g : mG} {Q : Int32 → mmS → Prop} {X : String → mmS → Prop} (hl0 : l.stackTraces = false) (hC : CallFix p m c cL_call 9 s args (wA_ yL_call cL_call 9 (some .int)) RL) (hrt : meth.sig.returnType = (some .int)) (hlk : meth.locks = false) (hmn : meth.name = yL_call.name) (hnx : ∀ x ∈ c.exceptionTable.toList, False) (hs : mX g s) (hX0 : ∀ (E : String) (S : mmS), ¬ X E S) {k : Nat} (hk : k ≤ 14) {K16 : mmS → Nat → Int32 → Int32 → Nat → Int32 → Int32 → Prop} (hk16 : ∀ (S : mmS) (x0 : Nat) (x2 : Int32) (x4 : Int32) (x5 : Nat) (x6 : Int32) (x7 : Int32), K16 S x0 x2 x4 x5 x6 x7 → ∀ (H : Heap) (locs : List Loc), mH g S s H locs → ∀ ls : Array Slot, lv_has ls 9 [(0, .ref x0), (1, .ref g.2.2.2.2.1.1), (2, .int x2), (4, .int x4), (5, .ref x5), (6, .int x6), (7, .int x7)] → W p l e rm_L_call s m args below meth c H locs (0 + (k + 1) * 3 + 0) (0 + (k + 1) * 265 + 0) (vx_MQ below (va_Qi Q (wO g) (mB g)) (vx_X (fun _ : mmS => True) (fun E S1 t => X E S1 ∧ wO g S1 t) (mB g)) args s rm_L_call.cells rm_L_call.slots (mB g)) (F0 m 16 ls [])) : ∀ (S : mmS) (x0 : Nat) (x2 : Int32) (x4 : Int32) (x5 : Nat) (x6 : Int32) (x7 : Int32) (t0 : Nat) (t1 : Int32) (t2 : Int32), bk_L_call_210 g.2.2.2.2.2 g.2.2.2.2.1.2.1 g.2.2.2.2.1.2.2 Q X K16 S x0 x2 x4 x5 x6 x7 t0 t1 t2 → ∀ (H : Heap) (locs : List Loc), mH g S s H locs → ∀ ls : Array Slot, lv_has ls 9 [(0, .ref x0), (1, .ref g.2.2.2.2.1.1), (2, .int x2), (4, .int x4), (5, .ref x5), (6, .int x6), (7, .int x7)] → W p l e rm_L_call s m args below meth c H locs (0 + k * 3 + 0) (0 + k * 265 + 0) (vx_MQ below (va_Qi Q (wO g) (mB g)) (vx_X (fun _ : mmS => True) (fun E S1 t => X E S1 ∧ wO g S1 t) (mB g)) args s rm_L_call.cells rm_L_call.slots (mB g)) (F0 m 210 ls [.int t2, .int t1, .ref t0]) := by
  intro S x0 x2 x4 x5 x6 x7 t0 t1 t2 hw H locs hH ls hl
  unfold bk_L_call_210 at hw
  obtain ⟨k1, hw⟩ := hw
  obtain ⟨i2, hw⟩ := hw
  have hw := hw _ rfl
  refine m_iast hC hs hH k1 i2 dL_call_210 (fun H locs hH => ?_)
  refine lv_aload_n hC.1 hC.2.1 dL_call_211 rfl (lv_at hl 0 rfl) ?_
  refine lv_aload hC.1 hC.2.1 dL_call_212 (lv_at hl 4 rfl) ?_
  refine lv_iconst (v := 4) hC.1 hC.2.1 dL_call_214 (by decide) ?_
  refine lv_iload hC.1 hC.2.1 dL_call_215 (lv_at hl 6 rfl) ?_
  refine lv_imul hC.1 hC.2.1 dL_call_217 ?_
  obtain ⟨k4, hw⟩ := hw
  obtain ⟨i5, hw⟩ := hw
  refine m_iald hC hs hH k4 i5 dL_call_218 ?_
  refine lv_aload hC.1 hC.2.1 dL_call_219 (lv_at hl 4 rfl) ?_
  refine lv_iconst (v := 4) hC.1 hC.2.1 dL_call_221 (by decide) ?_
  refine lv_iload hC.1 hC.2.1 dL_call_222 (lv_at hl 6 rfl) ?_
  refine lv_imul hC.1 hC.2.1 dL_call_224 ?_
  refine lv_iconst (v := 1) hC.1 hC.2.1 dL_call_225 (by decide) ?_
  refine lv_iadd hC.1 hC.2.1 dL_call_226 ?_
  obtain ⟨i6, hw⟩ := hw
  refine m_iald hC hs hH k4 i6 dL_call_227 ?_
  refine lv_aload hC.1 hC.2.1 dL_call_228 (lv_at hl 4 rfl) ?_
  refine lv_iconst (v := 4) hC.1 hC.2.1 dL_call_230 (by decide) ?_
  refine lv_iload hC.1 hC.2.1 dL_call_231 (lv_at hl 6 rfl) ?_
  refine lv_imul hC.1 hC.2.1 dL_call_233 ?_
  refine lv_iconst (v := 2) hC.1 hC.2.1 dL_call_234 (by decide) ?_
  refine lv_iadd hC.1 hC.2.1 dL_call_235 ?_
  obtain ⟨i7, hw⟩ := hw
  refine m_iald hC hs hH k4 i7 dL_call_236 ?_
  refine lv_aload hC.1 hC.2.1 dL_call_237 (lv_at hl 4 rfl) ?_
  refine lv_iconst (v := 4) hC.1 hC.2.1 dL_call_239 (by decide) ?_
  refine lv_iload hC.1 hC.2.1 dL_call_240 (lv_at hl 6 rfl) ?_
  refine lv_imul hC.1 hC.2.1 dL_call_242 ?_
  refine lv_iconst (v := 3) hC.1 hC.2.1 dL_call_243 (by decide) ?_
  refine lv_iadd hC.1 hC.2.1 dL_call_244 ?_
  obtain ⟨i8, hw⟩ := hw
  refine m_iald hC hs hH k4 i8 dL_call_245 ?_
  obtain ⟨k10, hw⟩ := hw
  refine m_callVi (y := yX4_addCall) (rest := []) hC hs hH hl.1 (cwV 4 hC.2.2.2.2 (gA_V q_291 q_292 q_293 q_2 q_294) rfl rfl rfl (by decide +kernel) ⟨Nat.le_of_ble_eq_true rfl, Nat.le_of_ble_eq_true rfl⟩) cs4 k10 (met_X4_addCall l hl0 g _ _ _ _ _ _ _ _ hX0 hw) rfl rfl (Nat.le_of_ble_eq_true rfl) dL_call_246 ⟨lwr hk (Nat.le_of_ble_eq_true rfl), lwr hk (Nat.le_of_ble_eq_true rfl)⟩ (fun E S1 _ _ _ _ hx => (hX0 E S1 hx).elim) (fun r11 S1 H locs hw hH => ?_)
  refine W.widen (k := (0 + k * 3 + 3)) (n := (0 + k * 265 + 265)) (lww (Nat.le_of_ble_eq_true rfl)) (lww (Nat.le_of_ble_eq_true rfl)) ?_
  refine lv_iload hC.1 hC.2.1 dL_call_249 (lv_at hl 6 rfl) ?_
  refine lv_icmp_eq (tgt := 256) hC.1 hC.2.1 dL_call_251 (by decide) (fun hc => ?_) (fun hc => ?_)
  · have hw := hw.1 hc
    have hw := hw _ rfl
    refine lv_iinc (lv' := [(7, .int _), (0, .ref _), (1, .ref _), (2, .int _), (4, .int _), (5, .ref _), (6, .int _)]) hC.1 hC.2.1 dL_call_256 hl (k := 6) rfl (rfl : (_ : Int32) + Int32.ofInt 1 = (_ : Int32) + 1) (by decide) rfl (fun ls hl => ?_)
    refine lv_goto (tgt := 16) hC.1 hC.2.1 dL_call_259 (by decide) ?_
    refine W.widen (k := (0 + (k + 1) * 3 + 0)) (n := (0 + (k + 1) * 265 + 0)) (lwb (Nat.le_of_ble_eq_true rfl)) (lwb (Nat.le_of_ble_eq_true rfl)) ?_
    exact hk16 _ _ _ _ _ _ _ hw _ _ hH _ (lv_sub hl [1, 2, 3, 4, 5, 6, 0] rfl)
  · have hw := hw.2 hc
    refine lv_iconst (v := (-1)) hC.1 hC.2.1 dL_call_254 (by decide) ?_
    exact m_reti hC hH hrt rfl hlk (lwq hk (Nat.le_of_ble_eq_true rfl)) (lwq hk (Nat.le_of_ble_eq_true rfl)) dL_call_255 hw
set_option maxHeartbeats 4000000 in
set_option maxRecDepth 100000 in
theorem bw_L_call_173 {p : Program} {l : Launch} {e : Env} {s : State} {m : MethodId} {args : Array Value} {below : List Frame} {meth : Method} {c : Code} {g : mG} {Q : Int32 → mmS → Prop} {X : String → mmS → Prop} (hl0 : l.stackTraces = false) (hC : CallFix p m c cL_call 9 s args (wA_ yL_call cL_call 9 (some .int)) RL) (hrt : meth.sig.returnType = (some .int)) (hlk : meth.locks = false) (hmn : meth.name = yL_call.name) (hnx : ∀ x ∈ c.exceptionTable.toList, False) (hs : mX g s) (hX0 : ∀ (E : String) (S : mmS), ¬ X E S) {k : Nat} (hk : k ≤ 14) {K16 : mmS → Nat → Int32 → Int32 → Nat → Int32 → Int32 → Prop} (hk16 : ∀ (S : mmS) (x0 : Nat) (x2 : Int32) (x4 : Int32) (x5 : Nat) (x6 : Int32) (x7 : Int32), K16 S x0 x2 x4 x5 x6 x7 → ∀ (H : Heap) (locs : List Loc), mH g S s H locs → ∀ ls : Array Slot, lv_has ls 9 [(0, .ref x0), (1, .ref g.2.2.2.2.1.1), (2, .int x2), (4, .int x4), (5, .ref x5), (6, .int x6), (7, .int x7)] → W p l e rm_L_call s m args below meth c H locs (0 + (k + 1) * 3 + 0) (0 + (k + 1) * 265 + 0) (vx_MQ below (va_Qi Q (wO g) (mB g)) (vx_X (fun _ : mmS => True) (fun E S1 t => X E S1 ∧ wO g S1 t) (mB g)) args s rm_L_call.cells rm_L_call.slots (mB g)) (F0 m 16 ls [])) : ∀ (S : mmS) (x0 : Nat) (x2 : Int32) (x4 : Int32) (x5 : Nat) (x6 : Int32) (x7 : Int32) (x8 : Int32) (t0 : Nat) (t1 : Int32) (t2 : Int32) (t3 : Int32), bk_L_call_173 g.2.2.2.2.2 g.2.2.2.2.1.2.1 g.2.2.2.2.1.2.2 Q X K16 S x0 x2 x4 x5 x6 x7 x8 t0 t1 t2 t3 → ∀ (H : Heap) (locs : List Loc), mH g S s H locs → ∀ ls : Array Slot, lv_has ls 9 [(0, .ref x0), (1, .ref g.2.2.2.2.1.1), (2, .int x2), (4, .int x4), (5, .ref x5), (6, .int x6), (7, .int x7), (8, .int x8)] → W p l e rm_L_call s m args below meth c H locs (0 + k * 3 + 0) (0 + k * 265 + 0) (vx_MQ below (va_Qi Q (wO g) (mB g)) (vx_X (fun _ : mmS => True) (fun E S1 t => X E S1 ∧ wO g S1 t) (mB g)) args s rm_L_call.cells rm_L_call.slots (mB g)) (F0 m 173 ls [.int t3, .int t2, .int t1, .ref t0]) := by
  intro S x0 x2 x4 x5 x6 x7 x8 t0 t1 t2 t3 hw H locs hH ls hl
  unfold bk_L_call_173 at hw
  refine lv_iadd hC.1 hC.2.1 dL_call_173 ?_
  obtain ⟨k1, hw⟩ := hw
  obtain ⟨i2, hw⟩ := hw
  have hw := hw _ rfl
  refine m_iast hC hs hH k1 i2 dL_call_174 (fun H locs hH => ?_)
  refine lv_aload hC.1 hC.2.1 dL_call_175 (lv_at hl 4 rfl) ?_
  refine lv_iconst (v := 4) hC.1 hC.2.1 dL_call_177 (by decide) ?_
  refine lv_iload hC.1 hC.2.1 dL_call_178 (lv_at hl 6 rfl) ?_
  refine lv_imul hC.1 hC.2.1 dL_call_180 ?_
  refine lv_iconst (v := 3) hC.1 hC.2.1 dL_call_181 (by decide) ?_
  refine lv_iadd hC.1 hC.2.1 dL_call_182 ?_
  refine lv_iload hC.1 hC.2.1 dL_call_183 (lv_at hl 7 rfl) ?_
  refine lv_bipush (v := 8) hC.1 hC.2.1 dL_call_185 (by decide) ?_
  refine lv_ishr hC.1 hC.2.1 dL_call_187 ?_
  refine lv_iconst (v := 2) hC.1 hC.2.1 dL_call_188 (by decide) ?_
  refine m_callSi (y := yL_below) (rest := [.int _, .ref _]) hC hs hH hl.1 (va_cwS 2 hC.2.2.2.2 (gA_S q_47 q_48 q_41 q_49) rfl rfl rfl (by decide +kernel) ⟨Nat.le_of_ble_eq_true rfl, Nat.le_of_ble_eq_true rfl⟩) (met_L_below l hl0 g _ _ _ _ _ hX0 hw) rfl rfl (Nat.le_of_ble_eq_true rfl) dL_call_189 ⟨lwr hk (Nat.le_of_ble_eq_true rfl), lwr hk (Nat.le_of_ble_eq_true rfl)⟩ (fun E S1 _ _ _ _ hx => (hX0 E S1 hx).elim) (fun r5 S1 H locs hw hH => ?_)
  refine W.widen (k := (0 + k * 3 + 0)) (n := (0 + k * 265 + 0)) (lww (Nat.le_of_ble_eq_true rfl)) (lww (Nat.le_of_ble_eq_true rfl)) ?_
  refine lv_if_ne (tgt := 199) hC.1 hC.2.1 dL_call_192 (by decide) (fun hc => ?_) (fun hc => ?_)
  · have hw := hw.1 hc
    refine lv_iconst (v := 1) hC.1 hC.2.1 dL_call_199 (by decide) ?_
    refine lv_iload hC.1 hC.2.1 dL_call_200 (lv_at hl 7 rfl) ?_
    refine lv_bipush (v := 9) hC.1 hC.2.1 dL_call_202 (by decide) ?_
    refine lv_ishr hC.1 hC.2.1 dL_call_204 ?_
    refine lv_iconst (v := 2) hC.1 hC.2.1 dL_call_205 (by decide) ?_
    refine m_callSi (y := yL_below) (rest := [.int _, .int _, .ref _]) hC hs hH hl.1 (va_cwS 2 hC.2.2.2.2 (gA_S q_47 q_48 q_41 q_49) rfl rfl rfl (by decide +kernel) ⟨Nat.le_of_ble_eq_true rfl, Nat.le_of_ble_eq_true rfl⟩) (met_L_below l hl0 g _ _ _ _ _ hX0 hw) rfl rfl (Nat.le_of_ble_eq_true rfl) dL_call_206 ⟨lwr hk (Nat.le_of_ble_eq_true rfl), lwr hk (Nat.le_of_ble_eq_true rfl)⟩ (fun E S1 _ _ _ _ hx => (hX0 E S1 hx).elim) (fun r7 S1 H locs hw hH => ?_)
    refine W.widen (k := (0 + k * 3 + 0)) (n := (0 + k * 265 + 0)) (lww (Nat.le_of_ble_eq_true rfl)) (lww (Nat.le_of_ble_eq_true rfl)) ?_
    refine lv_iadd hC.1 hC.2.1 dL_call_209 ?_
    refine W.widen (k := (0 + k * 3 + 0)) (n := (0 + k * 265 + 0)) (lwe (Nat.le_of_ble_eq_true rfl)) (lwe (Nat.le_of_ble_eq_true rfl)) ?_
    exact bw_L_call_210 hl0 hC hrt hlk hmn hnx hs hX0 hk hk16 _ _ _ _ _ _ _ _ _ _ hw _ _ hH _ (lv_sub hl [0, 1, 2, 3, 4, 5, 6] rfl)
  · have hw := hw.2 hc
    refine lv_iconst (v := 0) hC.1 hC.2.1 dL_call_195 (by decide) ?_
    refine lv_goto (tgt := 210) hC.1 hC.2.1 dL_call_196 (by decide) ?_
    refine W.widen (k := (0 + k * 3 + 0)) (n := (0 + k * 265 + 0)) (lwe (Nat.le_of_ble_eq_true rfl)) (lwe (Nat.le_of_ble_eq_true rfl)) ?_
    exact bw_L_call_210 hl0 hC hrt hlk hmn hnx hs hX0 hk hk16 _ _ _ _ _ _ _ _ _ _ hw _ _ hH _ (lv_sub hl [0, 1, 2, 3, 4, 5, 6] rfl)
set_option maxHeartbeats 4000000 in
set_option maxRecDepth 100000 in
theorem bw_L_call_127 {p : Program} {l : Launch} {e : Env} {s : State} {m : MethodId} {args : Array Value} {below : List Frame} {meth : Method} {c : Code} {g : mG} {Q : Int32 → mmS → Prop} {X : String → mmS → Prop} (hl0 : l.stackTraces = false) (hC : CallFix p m c cL_call 9 s args (wA_ yL_call cL_call 9 (some .int)) RL) (hrt : meth.sig.returnType = (some .int)) (hlk : meth.locks = false) (hmn : meth.name = yL_call.name) (hnx : ∀ x ∈ c.exceptionTable.toList, False) (hs : mX g s) (hX0 : ∀ (E : String) (S : mmS), ¬ X E S) {k : Nat} (hk : k ≤ 14) {K16 : mmS → Nat → Int32 → Int32 → Nat → Int32 → Int32 → Prop} (hk16 : ∀ (S : mmS) (x0 : Nat) (x2 : Int32) (x4 : Int32) (x5 : Nat) (x6 : Int32) (x7 : Int32), K16 S x0 x2 x4 x5 x6 x7 → ∀ (H : Heap) (locs : List Loc), mH g S s H locs → ∀ ls : Array Slot, lv_has ls 9 [(0, .ref x0), (1, .ref g.2.2.2.2.1.1), (2, .int x2), (4, .int x4), (5, .ref x5), (6, .int x6), (7, .int x7)] → W p l e rm_L_call s m args below meth c H locs (0 + (k + 1) * 3 + 0) (0 + (k + 1) * 265 + 0) (vx_MQ below (va_Qi Q (wO g) (mB g)) (vx_X (fun _ : mmS => True) (fun E S1 t => X E S1 ∧ wO g S1 t) (mB g)) args s rm_L_call.cells rm_L_call.slots (mB g)) (F0 m 16 ls [])) : ∀ (S : mmS) (x0 : Nat) (x2 : Int32) (x4 : Int32) (x5 : Nat) (x6 : Int32) (x7 : Int32) (x8 : Int32) (t0 : Nat) (t1 : Int32) (t2 : Int32), bk_L_call_127 g.2.2.2.2.2 g.2.2.2.2.1.2.1 g.2.2.2.2.1.2.2 Q X K16 S x0 x2 x4 x5 x6 x7 x8 t0 t1 t2 → ∀ (H : Heap) (locs : List Loc), mH g S s H locs → ∀ ls : Array Slot, lv_has ls 9 [(0, .ref x0), (1, .ref g.2.2.2.2.1.1), (2, .int x2), (4, .int x4), (5, .ref x5), (6, .int x6), (7, .int x7), (8, .int x8)] → W p l e rm_L_call s m args below meth c H locs (0 + k * 3 + 0) (0 + k * 265 + 0) (vx_MQ below (va_Qi Q (wO g) (mB g)) (vx_X (fun _ : mmS => True) (fun E S1 t => X E S1 ∧ wO g S1 t) (mB g)) args s rm_L_call.cells rm_L_call.slots (mB g)) (F0 m 127 ls [.int t2, .int t1, .ref t0]) := by
  intro S x0 x2 x4 x5 x6 x7 x8 t0 t1 t2 hw H locs hH ls hl
  unfold bk_L_call_127 at hw
  obtain ⟨k1, hw⟩ := hw
  obtain ⟨i2, hw⟩ := hw
  have hw := hw _ rfl
  refine m_iast hC hs hH k1 i2 dL_call_127 (fun H locs hH => ?_)
  refine lv_aload hC.1 hC.2.1 dL_call_128 (lv_at hl 4 rfl) ?_
  refine lv_iconst (v := 4) hC.1 hC.2.1 dL_call_130 (by decide) ?_
  refine lv_iload hC.1 hC.2.1 dL_call_131 (lv_at hl 6 rfl) ?_
  refine lv_imul hC.1 hC.2.1 dL_call_133 ?_
  refine lv_iconst (v := 2) hC.1 hC.2.1 dL_call_134 (by decide) ?_
  refine lv_iadd hC.1 hC.2.1 dL_call_135 ?_
  refine lv_iconst (v := 1) hC.1 hC.2.1 dL_call_136 (by decide) ?_
  refine lv_iload hC.1 hC.2.1 dL_call_137 (lv_at hl 7 rfl) ?_
  refine lv_iconst (v := 4) hC.1 hC.2.1 dL_call_139 (by decide) ?_
  refine lv_ishr hC.1 hC.2.1 dL_call_140 ?_
  refine lv_iconst (v := 2) hC.1 hC.2.1 dL_call_141 (by decide) ?_
  refine m_callSi (y := yL_below) (rest := [.int _, .int _, .ref _]) hC hs hH hl.1 (va_cwS 2 hC.2.2.2.2 (gA_S q_47 q_48 q_41 q_49) rfl rfl rfl (by decide +kernel) ⟨Nat.le_of_ble_eq_true rfl, Nat.le_of_ble_eq_true rfl⟩) (met_L_below l hl0 g _ _ _ _ _ hX0 hw) rfl rfl (Nat.le_of_ble_eq_true rfl) dL_call_142 ⟨lwr hk (Nat.le_of_ble_eq_true rfl), lwr hk (Nat.le_of_ble_eq_true rfl)⟩ (fun E S1 _ _ _ _ hx => (hX0 E S1 hx).elim) (fun r5 S1 H locs hw hH => ?_)
  refine W.widen (k := (0 + k * 3 + 0)) (n := (0 + k * 265 + 0)) (lww (Nat.le_of_ble_eq_true rfl)) (lww (Nat.le_of_ble_eq_true rfl)) ?_
  refine lv_if_ne (tgt := 162) hC.1 hC.2.1 dL_call_145 (by decide) (fun hc => ?_) (fun hc => ?_)
  · have hw := hw.1 hc
    refine lv_iload hC.1 hC.2.1 dL_call_162 (lv_at hl 7 rfl) ?_
    refine lv_bipush (v := 6) hC.1 hC.2.1 dL_call_164 (by decide) ?_
    refine lv_ishr hC.1 hC.2.1 dL_call_166 ?_
    refine lv_sipush (v := 1900) hC.1 hC.2.1 dL_call_167 (by decide) ?_
    refine m_callSi (y := yL_below) (rest := [.int _, .int _, .ref _]) hC hs hH hl.1 (va_cwS 2 hC.2.2.2.2 (gA_S q_47 q_48 q_41 q_49) rfl rfl rfl (by decide +kernel) ⟨Nat.le_of_ble_eq_true rfl, Nat.le_of_ble_eq_true rfl⟩) (met_L_below l hl0 g _ _ _ _ _ hX0 hw) rfl rfl (Nat.le_of_ble_eq_true rfl) dL_call_170 ⟨lwr hk (Nat.le_of_ble_eq_true rfl), lwr hk (Nat.le_of_ble_eq_true rfl)⟩ (fun E S1 _ _ _ _ hx => (hX0 E S1 hx).elim) (fun r7 S1 H locs hw hH => ?_)
    refine W.widen (k := (0 + k * 3 + 0)) (n := (0 + k * 265 + 0)) (lww (Nat.le_of_ble_eq_true rfl)) (lww (Nat.le_of_ble_eq_true rfl)) ?_
    refine W.widen (k := (0 + k * 3 + 0)) (n := (0 + k * 265 + 0)) (lwe (Nat.le_of_ble_eq_true rfl)) (lwe (Nat.le_of_ble_eq_true rfl)) ?_
    exact bw_L_call_173 hl0 hC hrt hlk hmn hnx hs hX0 hk hk16 _ _ _ _ _ _ _ _ _ _ _ _ hw _ _ hH _ (lv_sub hl [0, 1, 2, 3, 4, 5, 6, 7] rfl)
  · have hw := hw.2 hc
    refine lv_iload hC.1 hC.2.1 dL_call_148 (lv_at hl 7 rfl) ?_
    refine lv_bipush (v := 6) hC.1 hC.2.1 dL_call_150 (by decide) ?_
    refine lv_ishr hC.1 hC.2.1 dL_call_152 ?_
    refine lv_sipush (v := 200) hC.1 hC.2.1 dL_call_153 (by decide) ?_
    refine m_callSi (y := yL_below) (rest := [.int _, .int _, .ref _]) hC hs hH hl.1 (va_cwS 2 hC.2.2.2.2 (gA_S q_47 q_48 q_41 q_49) rfl rfl rfl (by decide +kernel) ⟨Nat.le_of_ble_eq_true rfl, Nat.le_of_ble_eq_true rfl⟩) (met_L_below l hl0 g _ _ _ _ _ hX0 hw) rfl rfl (Nat.le_of_ble_eq_true rfl) dL_call_156 ⟨lwr hk (Nat.le_of_ble_eq_true rfl), lwr hk (Nat.le_of_ble_eq_true rfl)⟩ (fun E S1 _ _ _ _ hx => (hX0 E S1 hx).elim) (fun r9 S1 H locs hw hH => ?_)
    refine W.widen (k := (0 + k * 3 + 0)) (n := (0 + k * 265 + 0)) (lww (Nat.le_of_ble_eq_true rfl)) (lww (Nat.le_of_ble_eq_true rfl)) ?_
    refine lv_goto (tgt := 173) hC.1 hC.2.1 dL_call_159 (by decide) ?_
    refine W.widen (k := (0 + k * 3 + 0)) (n := (0 + k * 265 + 0)) (lwe (Nat.le_of_ble_eq_true rfl)) (lwe (Nat.le_of_ble_eq_true rfl)) ?_
    exact bw_L_call_173 hl0 hC hrt hlk hmn hnx hs hX0 hk hk16 _ _ _ _ _ _ _ _ _ _ _ _ hw _ _ hH _ (lv_sub hl [0, 1, 2, 3, 4, 5, 6, 7] rfl)
set_option maxHeartbeats 4000000 in
set_option maxRecDepth 100000 in
theorem bw_L_call_16 {p : Program} {l : Launch} {e : Env} {s : State} {m : MethodId} {args : Array Value} {below : List Frame} {meth : Method} {c : Code} {g : mG} {Q : Int32 → mmS → Prop} {X : String → mmS → Prop} (hl0 : l.stackTraces = false) (hC : CallFix p m c cL_call 9 s args (wA_ yL_call cL_call 9 (some .int)) RL) (hrt : meth.sig.returnType = (some .int)) (hlk : meth.locks = false) (hmn : meth.name = yL_call.name) (hnx : ∀ x ∈ c.exceptionTable.toList, False) (hs : mX g s) (hX0 : ∀ (E : String) (S : mmS), ¬ X E S) {k : Nat} (hk : k ≤ 14) {K16 : mmS → Nat → Int32 → Int32 → Nat → Int32 → Int32 → Prop} (hk16 : ∀ (S : mmS) (x0 : Nat) (x2 : Int32) (x4 : Int32) (x5 : Nat) (x6 : Int32) (x7 : Int32), K16 S x0 x2 x4 x5 x6 x7 → ∀ (H : Heap) (locs : List Loc), mH g S s H locs → ∀ ls : Array Slot, lv_has ls 9 [(0, .ref x0), (1, .ref g.2.2.2.2.1.1), (2, .int x2), (4, .int x4), (5, .ref x5), (6, .int x6), (7, .int x7)] → W p l e rm_L_call s m args below meth c H locs (0 + (k + 1) * 3 + 0) (0 + (k + 1) * 265 + 0) (vx_MQ below (va_Qi Q (wO g) (mB g)) (vx_X (fun _ : mmS => True) (fun E S1 t => X E S1 ∧ wO g S1 t) (mB g)) args s rm_L_call.cells rm_L_call.slots (mB g)) (F0 m 16 ls [])) : ∀ (S : mmS) (x0 : Nat) (x2 : Int32) (x4 : Int32) (x5 : Nat) (x6 : Int32) (x7 : Int32), bk_L_call_16 g.2.2.2.2.2 g.2.2.2.2.1.2.1 g.2.2.2.2.1.2.2 Q X K16 S x0 x2 x4 x5 x6 x7 → ∀ (H : Heap) (locs : List Loc), mH g S s H locs → ∀ ls : Array Slot, lv_has ls 9 [(0, .ref x0), (1, .ref g.2.2.2.2.1.1), (2, .int x2), (4, .int x4), (5, .ref x5), (6, .int x6), (7, .int x7)] → W p l e rm_L_call s m args below meth c H locs (0 + k * 3 + 0) (0 + k * 265 + 0) (vx_MQ below (va_Qi Q (wO g) (mB g)) (vx_X (fun _ : mmS => True) (fun E S1 t => X E S1 ∧ wO g S1 t) (mB g)) args s rm_L_call.cells rm_L_call.slots (mB g)) (F0 m 16 ls []) := by
  intro S x0 x2 x4 x5 x6 x7 hw H locs hH ls hl
  unfold bk_L_call_16 at hw
  refine lv_iload hC.1 hC.2.1 dL_call_16 (lv_at hl 6 rfl) ?_
  refine lv_iload hC.1 hC.2.1 dL_call_18 (lv_at hl 5 rfl) ?_
  refine lv_icmp_ge (tgt := 262) hC.1 hC.2.1 dL_call_20 (by decide) (fun hc => ?_) (fun hc => ?_)
  · have hw := hw.1 hc
    refine W.widen (k := 42) (n := 3710) (lwq hk (Nat.le_of_ble_eq_true rfl)) (lwq hk (Nat.le_of_ble_eq_true rfl)) ?_
    exact bw_L_call_262 hl0 hC hrt hlk hmn hnx hs hX0 _ _ _ hw _ _ hH _ (lv_sub hl [0, 5] rfl)
  · have hw := hw.2 hc
    refine lv_aload_n hC.1 hC.2.1 dL_call_23 rfl (lv_at hl 1 rfl) ?_
    refine lv_iload_n hC.1 hC.2.1 dL_call_24 rfl (lv_at hl 2 rfl) ?_
    refine lv_iconst (v := 1) hC.1 hC.2.1 dL_call_25 (by decide) ?_
    refine lv_iadd hC.1 hC.2.1 dL_call_26 ?_
    refine lv_iload hC.1 hC.2.1 dL_call_27 (lv_at hl 6 rfl) ?_
    refine lv_bipush (v := 7) hC.1 hC.2.1 dL_call_29 (by decide) ?_
    refine lv_irem hC.1 hC.2.1 dL_call_31 (by decide) ?_
    refine lv_iadd hC.1 hC.2.1 dL_call_32 ?_
    refine m_callSi (y := yL_cell) (rest := []) hC hs hH hl.1 (va_cwS 2 hC.2.2.2.2 (gA_S q_43 q_44 q_41 q_45) rfl rfl rfl (by decide +kernel) ⟨Nat.le_of_ble_eq_true rfl, Nat.le_of_ble_eq_true rfl⟩) (met_L_cell l hl0 g _ _ _ _ hX0 hw) rfl rfl (Nat.le_of_ble_eq_true rfl) dL_call_33 ⟨lwr hk (Nat.le_of_ble_eq_true rfl), lwr hk (Nat.le_of_ble_eq_true rfl)⟩ (fun E S1 _ _ _ _ hx => (hX0 E S1 hx).elim) (fun r2 S1 H locs hw hH => ?_)
    refine W.widen (k := (0 + k * 3 + 0)) (n := (0 + k * 265 + 0)) (lww (Nat.le_of_ble_eq_true rfl)) (lww (Nat.le_of_ble_eq_true rfl)) ?_
    refine lv_iload hC.1 hC.2.1 dL_call_36 (lv_at hl 6 rfl) ?_
    refine lv_bipush (v := 7) hC.1 hC.2.1 dL_call_38 (by decide) ?_
    refine lv_idiv hC.1 hC.2.1 dL_call_40 (by decide) ?_
    refine lv_iconst (v := 5) hC.1 hC.2.1 dL_call_41 (by decide) ?_
    refine lv_imul hC.1 hC.2.1 dL_call_42 ?_
    refine lv_ishr hC.1 hC.2.1 dL_call_43 ?_
    refine lv_iload hC.1 hC.2.1 dL_call_44 (lv_at hl 6 rfl) ?_
    refine lv_sipush (v := 1009) hC.1 hC.2.1 dL_call_46 (by decide) ?_
    refine lv_imul hC.1 hC.2.1 dL_call_49 ?_
    refine lv_ixor hC.1 hC.2.1 dL_call_50 ?_
    have hw := hw _ rfl
    refine lv_istore (lv' := [(8, .int _), (0, .ref _), (1, .ref _), (2, .int _), (4, .int _), (5, .ref _), (6, .int _), (7, .int _)]) hC.1 hC.2.1 dL_call_51 hl (by decide) rfl (fun ls hl => ?_)
    refine lv_aload hC.1 hC.2.1 dL_call_53 (lv_at hl 5 rfl) ?_
    refine lv_iconst (v := 4) hC.1 hC.2.1 dL_call_55 (by decide) ?_
    refine lv_iload hC.1 hC.2.1 dL_call_56 (lv_at hl 7 rfl) ?_
    refine lv_imul hC.1 hC.2.1 dL_call_58 ?_
    refine lv_iload hC.1 hC.2.1 dL_call_59 (lv_at hl 0 rfl) ?_
    refine lv_iload hC.1 hC.2.1 dL_call_61 (lv_at hl 4 rfl) ?_
    refine m_callSi (y := yL_below) (rest := [.int _, .ref _]) hC hs hH hl.1 (va_cwS 2 hC.2.2.2.2 (gA_S q_47 q_48 q_41 q_49) rfl rfl rfl (by decide +kernel) ⟨Nat.le_of_ble_eq_true rfl, Nat.le_of_ble_eq_true rfl⟩) (met_L_below l hl0 g _ _ _ _ _ hX0 hw) rfl rfl (Nat.le_of_ble_eq_true rfl) dL_call_63 ⟨lwr hk (Nat.le_of_ble_eq_true rfl), lwr hk (Nat.le_of_ble_eq_true rfl)⟩ (fun E S1 _ _ _ _ hx => (hX0 E S1 hx).elim) (fun r5 S1 H locs hw hH => ?_)
    refine W.widen (k := (0 + k * 3 + 0)) (n := (0 + k * 265 + 0)) (lww (Nat.le_of_ble_eq_true rfl)) (lww (Nat.le_of_ble_eq_true rfl)) ?_
    obtain ⟨k6, hw⟩ := hw
    obtain ⟨i7, hw⟩ := hw
    have hw := hw _ rfl
    refine m_iast hC hs hH k6 i7 dL_call_66 (fun H locs hH => ?_)
    refine lv_aload hC.1 hC.2.1 dL_call_67 (lv_at hl 5 rfl) ?_
    refine lv_iconst (v := 4) hC.1 hC.2.1 dL_call_69 (by decide) ?_
    refine lv_iload hC.1 hC.2.1 dL_call_70 (lv_at hl 7 rfl) ?_
    refine lv_imul hC.1 hC.2.1 dL_call_72 ?_
    refine lv_iconst (v := 1) hC.1 hC.2.1 dL_call_73 (by decide) ?_
    refine lv_iadd hC.1 hC.2.1 dL_call_74 ?_
    refine lv_iload hC.1 hC.2.1 dL_call_75 (lv_at hl 0 rfl) ?_
    refine lv_iconst (v := 2) hC.1 hC.2.1 dL_call_77 (by decide) ?_
    refine lv_ishr hC.1 hC.2.1 dL_call_78 ?_
    refine lv_iconst (v := 3) hC.1 hC.2.1 dL_call_79 (by decide) ?_
    refine m_callSi (y := yL_below) (rest := [.int _, .ref _]) hC hs hH hl.1 (va_cwS 2 hC.2.2.2.2 (gA_S q_47 q_48 q_41 q_49) rfl rfl rfl (by decide +kernel) ⟨Nat.le_of_ble_eq_true rfl, Nat.le_of_ble_eq_true rfl⟩) (met_L_below l hl0 g _ _ _ _ _ hX0 hw) rfl rfl (Nat.le_of_ble_eq_true rfl) dL_call_80 ⟨lwr hk (Nat.le_of_ble_eq_true rfl), lwr hk (Nat.le_of_ble_eq_true rfl)⟩ (fun E S1 _ _ _ _ hx => (hX0 E S1 hx).elim) (fun r10 S1 H locs hw hH => ?_)
    refine W.widen (k := (0 + k * 3 + 0)) (n := (0 + k * 265 + 0)) (lww (Nat.le_of_ble_eq_true rfl)) (lww (Nat.le_of_ble_eq_true rfl)) ?_
    refine lv_if_le (tgt := 118) hC.1 hC.2.1 dL_call_83 (by decide) (fun hc => ?_) (fun hc => ?_)
    · have hw := hw.1 hc
      refine lv_iload hC.1 hC.2.1 dL_call_118 (lv_at hl 0 rfl) ?_
      refine lv_iconst (v := 3) hC.1 hC.2.1 dL_call_120 (by decide) ?_
      refine lv_ishr hC.1 hC.2.1 dL_call_121 ?_
      refine lv_ldc hC.1 hC.2.1 hC.2.2.2.1 (hC.2.2.2.2 _ (List.mem_cons_of_mem _ q_290)) dL_call_122 ?_
      refine m_callSi (y := yL_below) (rest := [.int _, .ref _]) hC hs hH hl.1 (va_cwS 2 hC.2.2.2.2 (gA_S q_47 q_48 q_41 q_49) rfl rfl rfl (by decide +kernel) ⟨Nat.le_of_ble_eq_true rfl, Nat.le_of_ble_eq_true rfl⟩) (met_L_below l hl0 g _ _ _ _ _ hX0 hw) rfl rfl (Nat.le_of_ble_eq_true rfl) dL_call_124 ⟨lwr hk (Nat.le_of_ble_eq_true rfl), lwr hk (Nat.le_of_ble_eq_true rfl)⟩ (fun E S1 _ _ _ _ hx => (hX0 E S1 hx).elim) (fun r12 S1 H locs hw hH => ?_)
      refine W.widen (k := (0 + k * 3 + 0)) (n := (0 + k * 265 + 0)) (lww (Nat.le_of_ble_eq_true rfl)) (lww (Nat.le_of_ble_eq_true rfl)) ?_
      refine W.widen (k := (0 + k * 3 + 0)) (n := (0 + k * 265 + 0)) (lwe (Nat.le_of_ble_eq_true rfl)) (lwe (Nat.le_of_ble_eq_true rfl)) ?_
      exact bw_L_call_127 hl0 hC hrt hlk hmn hnx hs hX0 hk hk16 _ _ _ _ _ _ _ _ _ _ _ hw _ _ hH _ (lv_sub hl [1, 2, 3, 4, 5, 6, 7, 0] rfl)
    · have hw := hw.2 hc
      refine lv_sipush (v := 1440) hC.1 hC.2.1 dL_call_86 (by decide) ?_
      refine lv_iload hC.1 hC.2.1 dL_call_89 (lv_at hl 0 rfl) ?_
      refine lv_iconst (v := 3) hC.1 hC.2.1 dL_call_91 (by decide) ?_
      refine lv_ishr hC.1 hC.2.1 dL_call_92 ?_
      refine lv_iconst (v := 3) hC.1 hC.2.1 dL_call_93 (by decide) ?_
      refine m_callSi (y := yL_below) (rest := [.int _, .int _, .ref _]) hC hs hH hl.1 (va_cwS 2 hC.2.2.2.2 (gA_S q_47 q_48 q_41 q_49) rfl rfl rfl (by decide +kernel) ⟨Nat.le_of_ble_eq_true rfl, Nat.le_of_ble_eq_true rfl⟩) (met_L_below l hl0 g _ _ _ _ _ hX0 hw) rfl rfl (Nat.le_of_ble_eq_true rfl) dL_call_94 ⟨lwr hk (Nat.le_of_ble_eq_true rfl), lwr hk (Nat.le_of_ble_eq_true rfl)⟩ (fun E S1 _ _ _ _ hx => (hX0 E S1 hx).elim) (fun r14 S1 H locs hw hH => ?_)
      refine W.widen (k := (0 + k * 3 + 0)) (n := (0 + k * 265 + 0)) (lww (Nat.le_of_ble_eq_true rfl)) (lww (Nat.le_of_ble_eq_true rfl)) ?_
      refine lv_imul hC.1 hC.2.1 dL_call_97 ?_
      refine lv_sipush (v := 400) hC.1 hC.2.1 dL_call_98 (by decide) ?_
      refine lv_iadd hC.1 hC.2.1 dL_call_101 ?_
      refine lv_bipush (v := 30) hC.1 hC.2.1 dL_call_102 (by decide) ?_
      refine lv_iload hC.1 hC.2.1 dL_call_104 (lv_at hl 0 rfl) ?_
      refine lv_iconst (v := 5) hC.1 hC.2.1 dL_call_106 (by decide) ?_
      refine lv_ishr hC.1 hC.2.1 dL_call_107 ?_
      refine lv_bipush (v := 30) hC.1 hC.2.1 dL_call_108 (by decide) ?_
      refine m_callSi (y := yL_below) (rest := [.int _, .int _, .int _, .ref _]) hC hs hH hl.1 (va_cwS 2 hC.2.2.2.2 (gA_S q_47 q_48 q_41 q_49) rfl rfl rfl (by decide +kernel) ⟨Nat.le_of_ble_eq_true rfl, Nat.le_of_ble_eq_true rfl⟩) (met_L_below l hl0 g _ _ _ _ _ hX0 hw) rfl rfl (Nat.le_of_ble_eq_true rfl) dL_call_110 ⟨lwr hk (Nat.le_of_ble_eq_true rfl), lwr hk (Nat.le_of_ble_eq_true rfl)⟩ (fun E S1 _ _ _ _ hx => (hX0 E S1 hx).elim) (fun r16 S1 H locs hw hH => ?_)
      refine W.widen (k := (0 + k * 3 + 0)) (n := (0 + k * 265 + 0)) (lww (Nat.le_of_ble_eq_true rfl)) (lww (Nat.le_of_ble_eq_true rfl)) ?_
      refine lv_imul hC.1 hC.2.1 dL_call_113 ?_
      refine lv_iadd hC.1 hC.2.1 dL_call_114 ?_
      refine lv_goto (tgt := 127) hC.1 hC.2.1 dL_call_115 (by decide) ?_
      refine W.widen (k := (0 + k * 3 + 0)) (n := (0 + k * 265 + 0)) (lwe (Nat.le_of_ble_eq_true rfl)) (lwe (Nat.le_of_ble_eq_true rfl)) ?_
      exact bw_L_call_127 hl0 hC hrt hlk hmn hnx hs hX0 hk hk16 _ _ _ _ _ _ _ _ _ _ _ hw _ _ hH _ (lv_sub hl [1, 2, 3, 4, 5, 6, 7, 0] rfl)
theorem lw_L_call_16 {p : Program} {l : Launch} {e : Env} {s : State} {m : MethodId} {args : Array Value} {below : List Frame} {meth : Method} {c : Code} {g : mG} {Q : Int32 → mmS → Prop} {X : String → mmS → Prop} (hl0 : l.stackTraces = false) (hC : CallFix p m c cL_call 9 s args (wA_ yL_call cL_call 9 (some .int)) RL) (hrt : meth.sig.returnType = (some .int)) (hlk : meth.locks = false) (hmn : meth.name = yL_call.name) (hnx : ∀ x ∈ c.exceptionTable.toList, False) (hs : mX g s) (hX0 : ∀ (E : String) (S : mmS), ¬ X E S) : ∀ (n k : Nat), k + n = 15 → ∀ (S : mmS) (x0 : Nat) (x2 : Int32) (x4 : Int32) (x5 : Nat) (x6 : Int32) (x7 : Int32), lp_L_call_16 g.2.2.2.2.2 g.2.2.2.2.1.2.1 g.2.2.2.2.1.2.2 Q X n S x0 x2 x4 x5 x6 x7 → ∀ (H : Heap) (locs : List Loc), mH g S s H locs → ∀ ls : Array Slot, lv_has ls 9 [(0, .ref x0), (1, .ref g.2.2.2.2.1.1), (2, .int x2), (4, .int x4), (5, .ref x5), (6, .int x6), (7, .int x7)] → W p l e rm_L_call s m args below meth c H locs (0 + k * 3 + 0) (0 + k * 265 + 0) (vx_MQ below (va_Qi Q (wO g) (mB g)) (vx_X (fun _ : mmS => True) (fun E S1 t => X E S1 ∧ wO g S1 t) (mB g)) args s rm_L_call.cells rm_L_call.slots (mB g)) (F0 m 16 ls []) := by
  intro n
  induction n with
  | zero => intro k hk S x0 x2 x4 x5 x6 x7 hw; exact False.elim hw
  | succ n ih => exact fun k hk S x0 x2 x4 x5 x6 x7 hw => bw_L_call_16 hl0 hC hrt hlk hmn hnx hs hX0 (k := k) (by omega) (K16 := lp_L_call_16 g.2.2.2.2.2 g.2.2.2.2.1.2.1 g.2.2.2.2.1.2.2 Q X n) (ih (k + 1) (by omega)) S x0 x2 x4 x5 x6 x7 hw
set_option maxHeartbeats 4000000 in
set_option maxRecDepth 100000 in
theorem met_L_call (l : Launch) (hl0 : l.stackTraces = false) (g : mG) (S : mmS) (p0 : Nat) (p2 : Int32) (p3 : Int32) (p4 : Int32) (p5 : Nat) (Q : Int32 → mmS → Prop) (X : String → mmS → Prop) (hX0 : ∀ (E : String) (S : mmS), ¬ X E S) (hw : wp_L_call g.2.2.2.2.2 g.2.2.2.2.1.2.1 g.2.2.2.2.1.2.2 S p0 p2 p3 p4 p5 Q X) : mMi l g yL_call (wA_ yL_call cL_call 9 (some .int)) rm_L_call [.ref p0, .ref g.2.2.2.2.1.1, .int p2, .int p3, .int p4, .ref p5] S Q X := by
  refine m_of (y := yL_call) (cc := cL_call) (maxL := 9) (ret := (some .int)) (by decide) rfl (Nat.le_of_ble_eq_true rfl) ?_
  intro p e s m args below meth c ls hC hrt hlk hmn hnx hs hH hl
  have hC : CallFix p m c cL_call 9 s args (wA_ yL_call cL_call 9 (some .int)) RL := hC
  have hl : lv_has ls 9 [(0, .ref p0), (1, .ref g.2.2.2.2.1.1), (2, .int p2), (3, .int p3), (4, .int p4), (5, .ref p5)] := hl
  unfold wp_L_call at hw
  refine lv_aload_n hC.1 hC.2.1 dL_call_0 rfl (lv_at hl 1 rfl) ?_
  refine lv_iload_n hC.1 hC.2.1 dL_call_1 rfl (lv_at hl 2 rfl) ?_
  refine m_callSi (y := yL_cell) (rest := []) hC hs hH hl.1 (va_cwS 2 hC.2.2.2.2 (gA_S q_43 q_44 q_41 q_45) rfl rfl rfl (by decide +kernel) ⟨Nat.le_of_ble_eq_true rfl, Nat.le_of_ble_eq_true rfl⟩) (met_L_cell l hl0 g _ _ _ _ hX0 hw) rfl rfl (Nat.le_of_ble_eq_true rfl) dL_call_2 ⟨Nat.le_of_ble_eq_true rfl, Nat.le_of_ble_eq_true rfl⟩ (fun E S1 _ _ _ _ hx => (hX0 E S1 hx).elim) (fun r2 S1 H locs hw hH => ?_)
  refine W.widen (k := 0) (n := 0) (Nat.le_of_ble_eq_true rfl) (Nat.le_of_ble_eq_true rfl) ?_
  refine lv_iload_n hC.1 hC.2.1 dL_call_5 rfl (lv_at hl 3 rfl) ?_
  refine lv_iconst (v := 1) hC.1 hC.2.1 dL_call_6 (by decide) ?_
  refine lv_iadd hC.1 hC.2.1 dL_call_7 ?_
  refine m_callSi (y := yL_below) (rest := []) hC hs hH hl.1 (va_cwS 2 hC.2.2.2.2 (gA_S q_47 q_48 q_41 q_49) rfl rfl rfl (by decide +kernel) ⟨Nat.le_of_ble_eq_true rfl, Nat.le_of_ble_eq_true rfl⟩) (met_L_below l hl0 g _ _ _ _ _ hX0 hw) rfl rfl (Nat.le_of_ble_eq_true rfl) dL_call_8 ⟨Nat.le_of_ble_eq_true rfl, Nat.le_of_ble_eq_true rfl⟩ (fun E S1 _ _ _ _ hx => (hX0 E S1 hx).elim) (fun r4 S1 H locs hw hH => ?_)
  refine W.widen (k := 0) (n := 0) (Nat.le_of_ble_eq_true rfl) (Nat.le_of_ble_eq_true rfl) ?_
  refine lv_istore (lv' := [(6, .int _), (0, .ref _), (1, .ref _), (2, .int _), (3, .int _), (4, .int _), (5, .ref _)]) hC.1 hC.2.1 dL_call_11 hl (by decide) rfl (fun ls hl => ?_)
  refine lv_iconst (v := 0) hC.1 hC.2.1 dL_call_13 (by decide) ?_
  have hw := hw _ rfl
  refine lv_istore (lv' := [(7, .int _), (6, .int _), (0, .ref _), (1, .ref _), (2, .int _), (3, .int _), (4, .int _), (5, .ref _)]) hC.1 hC.2.1 dL_call_14 hl (by decide) rfl (fun ls hl => ?_)
  refine W.widen (k := 0 + 0 * 3 + 0) (n := 0 + 0 * 265 + 0) (Nat.le_of_ble_eq_true rfl) (Nat.le_of_ble_eq_true rfl) ?_
  exact lw_L_call_16 hl0 hC hrt hlk hmn hnx hs hX0 15 0 rfl _ _ _ _ _ _ _ hw _ _ hH _ (lv_sub hl [2, 3, 4, 6, 7, 1, 0] rfl)
