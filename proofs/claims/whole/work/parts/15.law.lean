/-! 15.law: the law, laid by wip/whole/gen.py -/
theorem lww {b k M j x i : Nat} (h : j + x ≤ i) : b + k * M + j + x ≤ b + k * M + i := by
  generalize k * M = t
  omega
theorem lwe {b k M j i : Nat} (h : j ≤ i) : b + k * M + j ≤ b + k * M + i := by
  generalize k * M = t
  omega
theorem lwr {b k M j x T : Nat} (hk : k ≤ 512) (h : b + 512 * M + j + x ≤ T) : b + k * M + j + x ≤ T := by
  have h2 := Nat.mul_le_mul_right M hk
  generalize k * M = t at h2 ⊢
  generalize 512 * M = u at h2 h
  omega
theorem lwq {b k M j T : Nat} (hk : k ≤ 512) (h : b + 512 * M + j ≤ T) : b + k * M + j ≤ T := by
  have h2 := Nat.mul_le_mul_right M hk
  generalize k * M = t at h2 ⊢
  generalize 512 * M = u at h2 h
  omega
theorem lwb {b k M j : Nat} (h : j ≤ M) : b + k * M + j ≤ b + (k + 1) * M + 0 := by
  rw [Nat.succ_mul]
  generalize k * M = t
  omega
def bk_L_law_1667 (z : Nat × Nat) (L : Nat) (xs : Nat → Int32) (K23 : mmS → Nat → Nat → Nat → Int32 → Prop) (S : mmS) (x1 : Nat) (x2 : Nat) (x3 : Nat) (x4 : Int32) : Prop := ∀ v1 : Int32, v1 = x4 + 6 → K23 S x1 x2 x3 v1
def bk_L_law_1650 (z : Nat × Nat) (L : Nat) (xs : Nat → Int32) (K23 : mmS → Nat → Nat → Nat → Int32 → Prop) (S : mmS) (x1 : Nat) (x2 : Nat) (x3 : Nat) (x4 : Int32) : Prop := bk_L_law_1667 z L xs K23 S x1 x2 x3 x4
def bk_L_law_1609 (z : Nat × Nat) (L : Nat) (xs : Nat → Int32) (K23 : mmS → Nat → Nat → Nat → Int32 → Prop) (S : mmS) (x1 : Nat) (x2 : Nat) (x3 : Nat) (x4 : Int32) : Prop := bk_L_law_1667 z L xs K23 S x1 x2 x3 x4
def bk_L_law_1553 (z : Nat × Nat) (L : Nat) (xs : Nat → Int32) (K23 : mmS → Nat → Nat → Nat → Int32 → Prop) (S : mmS) (x1 : Nat) (x2 : Nat) (x3 : Nat) (x4 : Int32) : Prop := bk_L_law_1667 z L xs K23 S x1 x2 x3 x4
def bk_L_law_1485 (z : Nat × Nat) (L : Nat) (xs : Nat → Int32) (K23 : mmS → Nat → Nat → Nat → Int32 → Prop) (S : mmS) (x1 : Nat) (x2 : Nat) (x3 : Nat) (x4 : Int32) : Prop := bk_L_law_1667 z L xs K23 S x1 x2 x3 x4
def bk_L_law_1417 (z : Nat × Nat) (L : Nat) (xs : Nat → Int32) (K23 : mmS → Nat → Nat → Nat → Int32 → Prop) (S : mmS) (x1 : Nat) (x2 : Nat) (x3 : Nat) (x4 : Int32) : Prop := bk_L_law_1667 z L xs K23 S x1 x2 x3 x4
def bk_L_law_1361 (z : Nat × Nat) (L : Nat) (xs : Nat → Int32) (K23 : mmS → Nat → Nat → Nat → Int32 → Prop) (S : mmS) (x1 : Nat) (x2 : Nat) (x3 : Nat) (x4 : Int32) : Prop := bk_L_law_1667 z L xs K23 S x1 x2 x3 x4
def bk_L_law_1305 (z : Nat × Nat) (L : Nat) (xs : Nat → Int32) (K23 : mmS → Nat → Nat → Nat → Int32 → Prop) (S : mmS) (x1 : Nat) (x2 : Nat) (x3 : Nat) (x4 : Int32) : Prop := bk_L_law_1667 z L xs K23 S x1 x2 x3 x4
def bk_L_law_1249 (z : Nat × Nat) (L : Nat) (xs : Nat → Int32) (K23 : mmS → Nat → Nat → Nat → Int32 → Prop) (S : mmS) (x1 : Nat) (x2 : Nat) (x3 : Nat) (x4 : Int32) : Prop := bk_L_law_1667 z L xs K23 S x1 x2 x3 x4
def bk_L_law_1193 (z : Nat × Nat) (L : Nat) (xs : Nat → Int32) (K23 : mmS → Nat → Nat → Nat → Int32 → Prop) (S : mmS) (x1 : Nat) (x2 : Nat) (x3 : Nat) (x4 : Int32) : Prop := bk_L_law_1667 z L xs K23 S x1 x2 x3 x4
def bk_L_law_1137 (z : Nat × Nat) (L : Nat) (xs : Nat → Int32) (K23 : mmS → Nat → Nat → Nat → Int32 → Prop) (S : mmS) (x1 : Nat) (x2 : Nat) (x3 : Nat) (x4 : Int32) : Prop := bk_L_law_1667 z L xs K23 S x1 x2 x3 x4
def bk_L_law_1068 (z : Nat × Nat) (L : Nat) (xs : Nat → Int32) (K23 : mmS → Nat → Nat → Nat → Int32 → Prop) (S : mmS) (x1 : Nat) (x2 : Nat) (x3 : Nat) (x4 : Int32) : Prop := bk_L_law_1667 z L xs K23 S x1 x2 x3 x4
def bk_L_law_1000 (z : Nat × Nat) (L : Nat) (xs : Nat → Int32) (K23 : mmS → Nat → Nat → Nat → Int32 → Prop) (S : mmS) (x1 : Nat) (x2 : Nat) (x3 : Nat) (x4 : Int32) : Prop := bk_L_law_1667 z L xs K23 S x1 x2 x3 x4
def bk_L_law_994 (z : Nat × Nat) (L : Nat) (xs : Nat → Int32) (K23 : mmS → Nat → Nat → Nat → Int32 → Prop) (S : mmS) (x1 : Nat) (x2 : Nat) (x3 : Nat) (x4 : Int32) (t0 : Int64) (t1 : Int64) : Prop := ((lg_cmp t0 t1) = 0 → bk_L_law_1000 z L xs K23 S x1 x2 x3 x4) ∧ (¬ (lg_cmp t0 t1) = 0 → False)
def bk_L_law_937 (z : Nat × Nat) (L : Nat) (xs : Nat → Int32) (K23 : mmS → Nat → Nat → Nat → Int32 → Prop) (S : mmS) (x1 : Nat) (x2 : Nat) (x3 : Nat) (x4 : Int32) : Prop := bk_L_law_1667 z L xs K23 S x1 x2 x3 x4
def bk_L_law_868 (z : Nat × Nat) (L : Nat) (xs : Nat → Int32) (K23 : mmS → Nat → Nat → Nat → Int32 → Prop) (S : mmS) (x1 : Nat) (x2 : Nat) (x3 : Nat) (x4 : Int32) : Prop := bk_L_law_1667 z L xs K23 S x1 x2 x3 x4
def bk_L_law_800 (z : Nat × Nat) (L : Nat) (xs : Nat → Int32) (K23 : mmS → Nat → Nat → Nat → Int32 → Prop) (S : mmS) (x1 : Nat) (x2 : Nat) (x3 : Nat) (x4 : Int32) : Prop := bk_L_law_1667 z L xs K23 S x1 x2 x3 x4
def bk_L_law_708 (z : Nat × Nat) (L : Nat) (xs : Nat → Int32) (K23 : mmS → Nat → Nat → Nat → Int32 → Prop) (S : mmS) (x1 : Nat) (x2 : Nat) (x3 : Nat) (x4 : Int32) : Prop := bk_L_law_1667 z L xs K23 S x1 x2 x3 x4
def bk_L_law_640 (z : Nat × Nat) (L : Nat) (xs : Nat → Int32) (K23 : mmS → Nat → Nat → Nat → Int32 → Prop) (S : mmS) (x1 : Nat) (x2 : Nat) (x3 : Nat) (x4 : Int32) : Prop := bk_L_law_1667 z L xs K23 S x1 x2 x3 x4
def bk_L_law_572 (z : Nat × Nat) (L : Nat) (xs : Nat → Int32) (K23 : mmS → Nat → Nat → Nat → Int32 → Prop) (S : mmS) (x1 : Nat) (x2 : Nat) (x3 : Nat) (x4 : Int32) : Prop := bk_L_law_1667 z L xs K23 S x1 x2 x3 x4
def bk_L_law_504 (z : Nat × Nat) (L : Nat) (xs : Nat → Int32) (K23 : mmS → Nat → Nat → Nat → Int32 → Prop) (S : mmS) (x1 : Nat) (x2 : Nat) (x3 : Nat) (x4 : Int32) : Prop := bk_L_law_1667 z L xs K23 S x1 x2 x3 x4
def bk_L_law_424 (z : Nat × Nat) (L : Nat) (xs : Nat → Int32) (K23 : mmS → Nat → Nat → Nat → Int32 → Prop) (S : mmS) (x1 : Nat) (x2 : Nat) (x3 : Nat) (x4 : Int32) : Prop := bk_L_law_1667 z L xs K23 S x1 x2 x3 x4
def bk_L_law_418 (z : Nat × Nat) (L : Nat) (xs : Nat → Int32) (K23 : mmS → Nat → Nat → Nat → Int32 → Prop) (S : mmS) (x1 : Nat) (x2 : Nat) (x3 : Nat) (x4 : Int32) (t0 : Int64) (t1 : Int64) : Prop := ((lg_cmp t0 t1) = 0 → bk_L_law_424 z L xs K23 S x1 x2 x3 x4) ∧ (¬ (lg_cmp t0 t1) = 0 → False)
def bk_L_law_349 (z : Nat × Nat) (L : Nat) (xs : Nat → Int32) (K23 : mmS → Nat → Nat → Nat → Int32 → Prop) (S : mmS) (x1 : Nat) (x2 : Nat) (x3 : Nat) (x4 : Int32) : Prop := bk_L_law_1667 z L xs K23 S x1 x2 x3 x4
def bk_L_law_257 (z : Nat × Nat) (L : Nat) (xs : Nat → Int32) (K23 : mmS → Nat → Nat → Nat → Int32 → Prop) (S : mmS) (x1 : Nat) (x2 : Nat) (x3 : Nat) (x4 : Int32) : Prop := bk_L_law_1667 z L xs K23 S x1 x2 x3 x4
def bk_L_law_23 (z : Nat × Nat) (L : Nat) (xs : Nat → Int32) (K23 : mmS → Nat → Nat → Nat → Int32 → Prop) (S : mmS) (x1 : Nat) (x2 : Nat) (x3 : Nat) (x4 : Int32) : Prop := (((Int32.ofNat L) - (6 : Int32)) < x4 → True) ∧ (¬ ((Int32.ofNat L) - (6 : Int32)) < x4 → vp_in x4 L ∧ (Int32.toInt ((xs (x4).toNatClampNeg) &&& (31 : Int32)) < 0 ∨ 24 < Int32.toInt ((xs (x4).toNatClampNeg) &&& (31 : Int32)) → bk_L_law_1667 z L xs K23 S x1 x2 x3 x4) ∧ (Int32.toInt ((xs (x4).toNatClampNeg) &&& (31 : Int32)) = 0 → vp_in (x4 + (1 : Int32)) L ∧ vp_in (x4 + (2 : Int32)) L ∧ vp_in (x4 + (3 : Int32)) L ∧ vp_in (x4 + (4 : Int32)) L ∧ vp_in (x4 + (5 : Int32)) L ∧ wp_L_addTariff z S x1 (xs (x4 + (1 : Int32)).toNatClampNeg) (xs (x4 + (2 : Int32)).toNatClampNeg) (xs (x4 + (3 : Int32)).toNatClampNeg) (xs (x4 + (4 : Int32)).toNatClampNeg) (xs (x4 + (5 : Int32)).toNatClampNeg) x3 (fun r8 S7 => vp_in (x4 + (1 : Int32)) L ∧ vp_in (x4 + (2 : Int32)) L ∧ vp_in (x4 + (3 : Int32)) L ∧ vp_in (x4 + (4 : Int32)) L ∧ vp_in (x4 + (5 : Int32)) L ∧ (x2 ∈ mL S7 ∧ mK S7 x2 = 5) ∧ wp_X5_addTariff z S7 x2 (xs (x4 + (1 : Int32)).toNatClampNeg) (xs (x4 + (2 : Int32)).toNatClampNeg) (xs (x4 + (3 : Int32)).toNatClampNeg) (xs (x4 + (4 : Int32)).toNatClampNeg) (xs (x4 + (5 : Int32)).toNatClampNeg) (fun r16 S14 => (x2 ∈ mL S14 ∧ mK S14 x2 = 5) ∧ wp_X5_thrown z S14 x2 (fun r19 S17 => (r19 = r8 → (¬ r8 = 0 → bk_L_law_257 z L xs K23 S17 x1 x2 x3 x4) ∧ (r8 = 0 → (x3 ∈ mL S17 ∧ mK S17 x3 = 9) ∧ vp_in (0 : Int32) (mN S17 x3) ∧ ((lg_cmp (mJ S17 x3 ((0 : Int32)).toNatClampNeg) (Int32.toInt64 r16)) = 0 → bk_L_law_257 z L xs K23 S17 x1 x2 x3 x4) ∧ (¬ (lg_cmp (mJ S17 x3 ((0 : Int32)).toNatClampNeg) (Int32.toInt64 r16)) = 0 → False))) ∧ (¬ r19 = r8 → False)) (fun _ _ => False)) (fun _ _ => False)) (fun _ _ => False)) ∧ (Int32.toInt ((xs (x4).toNatClampNeg) &&& (31 : Int32)) = 1 → vp_in (x4 + (1 : Int32)) L ∧ vp_in (x4 + (2 : Int32)) L ∧ vp_in (x4 + (3 : Int32)) L ∧ vp_in (x4 + (4 : Int32)) L ∧ wp_L_setZone z S x1 (xs (x4 + (1 : Int32)).toNatClampNeg) (xs (x4 + (2 : Int32)).toNatClampNeg) (xs (x4 + (3 : Int32)).toNatClampNeg) (xs (x4 + (4 : Int32)).toNatClampNeg) x3 (fun r27 S26 => vp_in (x4 + (1 : Int32)) L ∧ vp_in (x4 + (2 : Int32)) L ∧ vp_in (x4 + (3 : Int32)) L ∧ vp_in (x4 + (4 : Int32)) L ∧ (x2 ∈ mL S26 ∧ mK S26 x2 = 5) ∧ wp_X5_setZone z S26 x2 (xs (x4 + (1 : Int32)).toNatClampNeg) (xs (x4 + (2 : Int32)).toNatClampNeg) (xs (x4 + (3 : Int32)).toNatClampNeg) (xs (x4 + (4 : Int32)).toNatClampNeg) (fun r34 S32 => (x2 ∈ mL S32 ∧ mK S32 x2 = 5) ∧ wp_X5_thrown z S32 x2 (fun r37 S35 => (r37 = r27 → (¬ r27 = 0 → bk_L_law_349 z L xs K23 S35 x1 x2 x3 x4) ∧ (r27 = 0 → (x3 ∈ mL S35 ∧ mK S35 x3 = 9) ∧ vp_in (0 : Int32) (mN S35 x3) ∧ ((lg_cmp (mJ S35 x3 ((0 : Int32)).toNatClampNeg) (Int32.toInt64 r34)) = 0 → bk_L_law_349 z L xs K23 S35 x1 x2 x3 x4) ∧ (¬ (lg_cmp (mJ S35 x3 ((0 : Int32)).toNatClampNeg) (Int32.toInt64 r34)) = 0 → False))) ∧ (¬ r37 = r27 → False)) (fun _ _ => False)) (fun _ _ => False)) (fun _ _ => False)) ∧ (Int32.toInt ((xs (x4).toNatClampNeg) &&& (31 : Int32)) = 2 → vp_in (x4 + (1 : Int32)) L ∧ vp_in (x4 + (2 : Int32)) L ∧ wp_L_setPeak z S x1 (xs (x4 + (1 : Int32)).toNatClampNeg) (xs (x4 + (2 : Int32)).toNatClampNeg) x3 (fun r43 S42 => vp_in (x4 + (1 : Int32)) L ∧ vp_in (x4 + (2 : Int32)) L ∧ (x2 ∈ mL S42 ∧ mK S42 x2 = 5) ∧ wp_X5_setPeak z S42 x2 (xs (x4 + (1 : Int32)).toNatClampNeg) (xs (x4 + (2 : Int32)).toNatClampNeg) (fun r48 S46 => (x2 ∈ mL S46 ∧ mK S46 x2 = 5) ∧ wp_X5_thrown z S46 x2 (fun r51 S49 => (r51 = r43 → (¬ r43 = 0 → bk_L_law_424 z L xs K23 S49 x1 x2 x3 x4) ∧ (r43 = 0 → (x3 ∈ mL S49 ∧ mK S49 x3 = 9) ∧ vp_in (0 : Int32) (mN S49 x3) ∧ (r48 = 0 → bk_L_law_418 z L xs K23 S49 x1 x2 x3 x4 (mJ S49 x3 ((0 : Int32)).toNatClampNeg) (0 : Int64)) ∧ (¬ r48 = 0 → bk_L_law_418 z L xs K23 S49 x1 x2 x3 x4 (mJ S49 x3 ((0 : Int32)).toNatClampNeg) (1 : Int64)))) ∧ (¬ r51 = r43 → False)) (fun _ _ => False)) (fun _ _ => False)) (fun _ _ => False)) ∧ (Int32.toInt ((xs (x4).toNatClampNeg) &&& (31 : Int32)) = 3 → vp_in (x4 + (1 : Int32)) L ∧ vp_in (x4 + (2 : Int32)) L ∧ vp_in (x4 + (3 : Int32)) L ∧ wp_L_addAccount z S x1 (xs (x4 + (1 : Int32)).toNatClampNeg) (xs (x4 + (2 : Int32)).toNatClampNeg) (xs (x4 + (3 : Int32)).toNatClampNeg) x3 (fun r58 S57 => vp_in (x4 + (1 : Int32)) L ∧ vp_in (x4 + (2 : Int32)) L ∧ vp_in (x4 + (3 : Int32)) L ∧ (x2 ∈ mL S57 ∧ mK S57 x2 = 5) ∧ wp_X5_addAccount z S57 x2 (xs (x4 + (1 : Int32)).toNatClampNeg) (xs (x4 + (2 : Int32)).toNatClampNeg) (xs (x4 + (3 : Int32)).toNatClampNeg) (fun r64 S62 => (x2 ∈ mL S62 ∧ mK S62 x2 = 5) ∧ wp_X5_thrown z S62 x2 (fun r67 S65 => (r67 = r58 → (¬ r58 = 0 → bk_L_law_504 z L xs K23 S65 x1 x2 x3 x4) ∧ (r58 = 0 → (x3 ∈ mL S65 ∧ mK S65 x3 = 9) ∧ vp_in (0 : Int32) (mN S65 x3) ∧ ((lg_cmp (mJ S65 x3 ((0 : Int32)).toNatClampNeg) (Int32.toInt64 r64)) = 0 → bk_L_law_504 z L xs K23 S65 x1 x2 x3 x4) ∧ (¬ (lg_cmp (mJ S65 x3 ((0 : Int32)).toNatClampNeg) (Int32.toInt64 r64)) = 0 → False))) ∧ (¬ r67 = r58 → False)) (fun _ _ => False)) (fun _ _ => False)) (fun _ _ => False)) ∧ (Int32.toInt ((xs (x4).toNatClampNeg) &&& (31 : Int32)) = 4 → vp_in (x4 + (1 : Int32)) L ∧ vp_in (x4 + (2 : Int32)) L ∧ wp_L_addLine z S x1 (xs (x4 + (1 : Int32)).toNatClampNeg) (xs (x4 + (2 : Int32)).toNatClampNeg) x3 (fun r73 S72 => vp_in (x4 + (1 : Int32)) L ∧ vp_in (x4 + (2 : Int32)) L ∧ (x2 ∈ mL S72 ∧ mK S72 x2 = 5) ∧ wp_X5_addLine z S72 x2 (xs (x4 + (1 : Int32)).toNatClampNeg) (xs (x4 + (2 : Int32)).toNatClampNeg) (fun r78 S76 => (x2 ∈ mL S76 ∧ mK S76 x2 = 5) ∧ wp_X5_thrown z S76 x2 (fun r81 S79 => (r81 = r73 → (¬ r73 = 0 → bk_L_law_572 z L xs K23 S79 x1 x2 x3 x4) ∧ (r73 = 0 → (x3 ∈ mL S79 ∧ mK S79 x3 = 9) ∧ vp_in (0 : Int32) (mN S79 x3) ∧ ((lg_cmp (mJ S79 x3 ((0 : Int32)).toNatClampNeg) (Int32.toInt64 r78)) = 0 → bk_L_law_572 z L xs K23 S79 x1 x2 x3 x4) ∧ (¬ (lg_cmp (mJ S79 x3 ((0 : Int32)).toNatClampNeg) (Int32.toInt64 r78)) = 0 → False))) ∧ (¬ r81 = r73 → False)) (fun _ _ => False)) (fun _ _ => False)) (fun _ _ => False)) ∧ (Int32.toInt ((xs (x4).toNatClampNeg) &&& (31 : Int32)) = 5 → vp_in (x4 + (1 : Int32)) L ∧ vp_in (x4 + (2 : Int32)) L ∧ wp_L_setTariff z S x1 (xs (x4 + (1 : Int32)).toNatClampNeg) (xs (x4 + (2 : Int32)).toNatClampNeg) x3 (fun r87 S86 => vp_in (x4 + (1 : Int32)) L ∧ vp_in (x4 + (2 : Int32)) L ∧ (x2 ∈ mL S86 ∧ mK S86 x2 = 5) ∧ wp_X5_setTariff z S86 x2 (xs (x4 + (1 : Int32)).toNatClampNeg) (xs (x4 + (2 : Int32)).toNatClampNeg) (fun r92 S90 => (x2 ∈ mL S90 ∧ mK S90 x2 = 5) ∧ wp_X5_thrown z S90 x2 (fun r95 S93 => (r95 = r87 → (¬ r87 = 0 → bk_L_law_640 z L xs K23 S93 x1 x2 x3 x4) ∧ (r87 = 0 → (x3 ∈ mL S93 ∧ mK S93 x3 = 9) ∧ vp_in (0 : Int32) (mN S93 x3) ∧ ((lg_cmp (mJ S93 x3 ((0 : Int32)).toNatClampNeg) (Int32.toInt64 r92)) = 0 → bk_L_law_640 z L xs K23 S93 x1 x2 x3 x4) ∧ (¬ (lg_cmp (mJ S93 x3 ((0 : Int32)).toNatClampNeg) (Int32.toInt64 r92)) = 0 → False))) ∧ (¬ r95 = r87 → False)) (fun _ _ => False)) (fun _ _ => False)) (fun _ _ => False)) ∧ (Int32.toInt ((xs (x4).toNatClampNeg) &&& (31 : Int32)) = 6 → vp_in (x4 + (1 : Int32)) L ∧ vp_in (x4 + (2 : Int32)) L ∧ wp_L_setBundle z S x1 (xs (x4 + (1 : Int32)).toNatClampNeg) (xs (x4 + (2 : Int32)).toNatClampNeg) x3 (fun r101 S100 => vp_in (x4 + (1 : Int32)) L ∧ vp_in (x4 + (2 : Int32)) L ∧ (x2 ∈ mL S100 ∧ mK S100 x2 = 5) ∧ wp_X5_setBundle z S100 x2 (xs (x4 + (1 : Int32)).toNatClampNeg) (xs (x4 + (2 : Int32)).toNatClampNeg) (fun r106 S104 => (x2 ∈ mL S104 ∧ mK S104 x2 = 5) ∧ wp_X5_thrown z S104 x2 (fun r109 S107 => (r109 = r101 → (¬ r101 = 0 → bk_L_law_708 z L xs K23 S107 x1 x2 x3 x4) ∧ (r101 = 0 → (x3 ∈ mL S107 ∧ mK S107 x3 = 9) ∧ vp_in (0 : Int32) (mN S107 x3) ∧ ((lg_cmp (mJ S107 x3 ((0 : Int32)).toNatClampNeg) (Int32.toInt64 r106)) = 0 → bk_L_law_708 z L xs K23 S107 x1 x2 x3 x4) ∧ (¬ (lg_cmp (mJ S107 x3 ((0 : Int32)).toNatClampNeg) (Int32.toInt64 r106)) = 0 → False))) ∧ (¬ r109 = r101 → False)) (fun _ _ => False)) (fun _ _ => False)) (fun _ _ => False)) ∧ (Int32.toInt ((xs (x4).toNatClampNeg) &&& (31 : Int32)) = 7 → vp_in (x4 + (1 : Int32)) L ∧ vp_in (x4 + (2 : Int32)) L ∧ vp_in (x4 + (3 : Int32)) L ∧ vp_in (x4 + (4 : Int32)) L ∧ wp_L_addCall z S x1 (xs (x4 + (1 : Int32)).toNatClampNeg) (xs (x4 + (2 : Int32)).toNatClampNeg) (xs (x4 + (3 : Int32)).toNatClampNeg) (xs (x4 + (4 : Int32)).toNatClampNeg) x3 (fun r117 S116 => vp_in (x4 + (1 : Int32)) L ∧ vp_in (x4 + (2 : Int32)) L ∧ vp_in (x4 + (3 : Int32)) L ∧ vp_in (x4 + (4 : Int32)) L ∧ (x2 ∈ mL S116 ∧ mK S116 x2 = 5) ∧ wp_X5_addCall z S116 x2 (xs (x4 + (1 : Int32)).toNatClampNeg) (xs (x4 + (2 : Int32)).toNatClampNeg) (xs (x4 + (3 : Int32)).toNatClampNeg) (xs (x4 + (4 : Int32)).toNatClampNeg) (fun r124 S122 => (x2 ∈ mL S122 ∧ mK S122 x2 = 5) ∧ wp_X5_thrown z S122 x2 (fun r127 S125 => (r127 = r117 → (¬ r117 = 0 → bk_L_law_800 z L xs K23 S125 x1 x2 x3 x4) ∧ (r117 = 0 → (x3 ∈ mL S125 ∧ mK S125 x3 = 9) ∧ vp_in (0 : Int32) (mN S125 x3) ∧ ((lg_cmp (mJ S125 x3 ((0 : Int32)).toNatClampNeg) (Int32.toInt64 r124)) = 0 → bk_L_law_800 z L xs K23 S125 x1 x2 x3 x4) ∧ (¬ (lg_cmp (mJ S125 x3 ((0 : Int32)).toNatClampNeg) (Int32.toInt64 r124)) = 0 → False))) ∧ (¬ r127 = r117 → False)) (fun _ _ => False)) (fun _ _ => False)) (fun _ _ => False)) ∧ (Int32.toInt ((xs (x4).toNatClampNeg) &&& (31 : Int32)) = 8 → vp_in (x4 + (1 : Int32)) L ∧ vp_in (x4 + (2 : Int32)) L ∧ wp_L_correct z S x1 (xs (x4 + (1 : Int32)).toNatClampNeg) (xs (x4 + (2 : Int32)).toNatClampNeg) x3 (fun r133 S132 => vp_in (x4 + (1 : Int32)) L ∧ vp_in (x4 + (2 : Int32)) L ∧ (x2 ∈ mL S132 ∧ mK S132 x2 = 5) ∧ wp_X5_correct z S132 x2 (xs (x4 + (1 : Int32)).toNatClampNeg) (xs (x4 + (2 : Int32)).toNatClampNeg) (fun r138 S136 => (x2 ∈ mL S136 ∧ mK S136 x2 = 5) ∧ wp_X5_thrown z S136 x2 (fun r141 S139 => (r141 = r133 → (¬ r133 = 0 → bk_L_law_868 z L xs K23 S139 x1 x2 x3 x4) ∧ (r133 = 0 → (x3 ∈ mL S139 ∧ mK S139 x3 = 9) ∧ vp_in (0 : Int32) (mN S139 x3) ∧ ((lg_cmp (mJ S139 x3 ((0 : Int32)).toNatClampNeg) (Int32.toInt64 r138)) = 0 → bk_L_law_868 z L xs K23 S139 x1 x2 x3 x4) ∧ (¬ (lg_cmp (mJ S139 x3 ((0 : Int32)).toNatClampNeg) (Int32.toInt64 r138)) = 0 → False))) ∧ (¬ r141 = r133 → False)) (fun _ _ => False)) (fun _ _ => False)) (fun _ _ => False)) ∧ (Int32.toInt ((xs (x4).toNatClampNeg) &&& (31 : Int32)) = 9 → (x1 ∈ mL S ∧ mK S x1 = 4) ∧ wp_X4_callCount z S x1 (fun r146 S144 => (x2 ∈ mL S144 ∧ mK S144 x2 = 5) ∧ wp_X5_callCount z S144 x2 (fun r149 S147 => (r146 = r149 → bk_L_law_1667 z L xs K23 S147 x1 x2 x3 x4) ∧ (¬ r146 = r149 → False)) (fun _ _ => False)) (fun _ _ => False)) ∧ (Int32.toInt ((xs (x4).toNatClampNeg) &&& (31 : Int32)) = 10 → vp_in (x4 + (1 : Int32)) L ∧ wp_L_callAt z S x1 (xs (x4 + (1 : Int32)).toNatClampNeg) x3 (fun r152 S151 => vp_in (x4 + (1 : Int32)) L ∧ (x2 ∈ mL S151 ∧ mK S151 x2 = 5) ∧ wp_X5_callAt z S151 x2 (xs (x4 + (1 : Int32)).toNatClampNeg) (fun r156 S154 => (x2 ∈ mL S154 ∧ mK S154 x2 = 5) ∧ wp_X5_thrown z S154 x2 (fun r159 S157 => (r159 = r152 → (¬ r152 = 0 → bk_L_law_937 z L xs K23 S157 x1 x2 x3 x4) ∧ (r152 = 0 → (x3 ∈ mL S157 ∧ mK S157 x3 = 9) ∧ vp_in (0 : Int32) (mN S157 x3) ∧ ((lg_cmp (mJ S157 x3 ((0 : Int32)).toNatClampNeg) (Int32.toInt64 r156)) = 0 → bk_L_law_937 z L xs K23 S157 x1 x2 x3 x4) ∧ (¬ (lg_cmp (mJ S157 x3 ((0 : Int32)).toNatClampNeg) (Int32.toInt64 r156)) = 0 → False))) ∧ (¬ r159 = r152 → False)) (fun _ _ => False)) (fun _ _ => False)) (fun _ _ => False)) ∧ (Int32.toInt ((xs (x4).toNatClampNeg) &&& (31 : Int32)) = 11 → vp_in (x4 + (1 : Int32)) L ∧ wp_L_isPeak z S x1 (xs (x4 + (1 : Int32)).toNatClampNeg) x3 (fun r164 S163 => vp_in (x4 + (1 : Int32)) L ∧ (x2 ∈ mL S163 ∧ mK S163 x2 = 5) ∧ wp_X5_isPeak z S163 x2 (xs (x4 + (1 : Int32)).toNatClampNeg) (fun r168 S166 => (x2 ∈ mL S166 ∧ mK S166 x2 = 5) ∧ wp_X5_thrown z S166 x2 (fun r171 S169 => (r171 = r164 → (¬ r164 = 0 → bk_L_law_1000 z L xs K23 S169 x1 x2 x3 x4) ∧ (r164 = 0 → (x3 ∈ mL S169 ∧ mK S169 x3 = 9) ∧ vp_in (0 : Int32) (mN S169 x3) ∧ (r168 = 0 → bk_L_law_994 z L xs K23 S169 x1 x2 x3 x4 (mJ S169 x3 ((0 : Int32)).toNatClampNeg) (0 : Int64)) ∧ (¬ r168 = 0 → bk_L_law_994 z L xs K23 S169 x1 x2 x3 x4 (mJ S169 x3 ((0 : Int32)).toNatClampNeg) (1 : Int64)))) ∧ (¬ r171 = r164 → False)) (fun _ _ => False)) (fun _ _ => False)) (fun _ _ => False)) ∧ (Int32.toInt ((xs (x4).toNatClampNeg) &&& (31 : Int32)) = 12 → vp_in (x4 + (1 : Int32)) L ∧ vp_in (x4 + (2 : Int32)) L ∧ wp_L_told z S x1 (xs (x4 + (1 : Int32)).toNatClampNeg) (xs (x4 + (2 : Int32)).toNatClampNeg) x3 (fun r177 S176 => vp_in (x4 + (1 : Int32)) L ∧ vp_in (x4 + (2 : Int32)) L ∧ (x2 ∈ mL S176 ∧ mK S176 x2 = 5) ∧ wp_X5_told z S176 x2 (xs (x4 + (1 : Int32)).toNatClampNeg) (xs (x4 + (2 : Int32)).toNatClampNeg) (fun r182 S180 => (x2 ∈ mL S180 ∧ mK S180 x2 = 5) ∧ wp_X5_thrown z S180 x2 (fun r185 S183 => (r185 = r177 → (¬ r177 = 0 → bk_L_law_1068 z L xs K23 S183 x1 x2 x3 x4) ∧ (r177 = 0 → (x3 ∈ mL S183 ∧ mK S183 x3 = 9) ∧ vp_in (0 : Int32) (mN S183 x3) ∧ ((lg_cmp (mJ S183 x3 ((0 : Int32)).toNatClampNeg) (Int32.toInt64 r182)) = 0 → bk_L_law_1068 z L xs K23 S183 x1 x2 x3 x4) ∧ (¬ (lg_cmp (mJ S183 x3 ((0 : Int32)).toNatClampNeg) (Int32.toInt64 r182)) = 0 → False))) ∧ (¬ r185 = r177 → False)) (fun _ _ => False)) (fun _ _ => False)) (fun _ _ => False)) ∧ (Int32.toInt ((xs (x4).toNatClampNeg) &&& (31 : Int32)) = 13 → (x1 ∈ mL S ∧ mK S x1 = 4) ∧ wp_X4_dearest z S x1 (fun r190 S188 => (x2 ∈ mL S188 ∧ mK S188 x2 = 5) ∧ wp_X5_dearest z S188 x2 (fun r193 S191 => (r190 = r193 → bk_L_law_1667 z L xs K23 S191 x1 x2 x3 x4) ∧ (¬ r190 = r193 → False)) (fun _ _ => False)) (fun _ _ => False)) ∧ (Int32.toInt ((xs (x4).toNatClampNeg) &&& (31 : Int32)) = 14 → vp_in (x4 + (1 : Int32)) L ∧ wp_L_lineSum z S x1 (xs (x4 + (1 : Int32)).toNatClampNeg) x3 (fun r196 S195 => vp_in (x4 + (1 : Int32)) L ∧ (x2 ∈ mL S195 ∧ mK S195 x2 = 5) ∧ wp_X5_lineSum z S195 x2 (xs (x4 + (1 : Int32)).toNatClampNeg) (fun r200 S198 => (x2 ∈ mL S198 ∧ mK S198 x2 = 5) ∧ wp_X5_thrown z S198 x2 (fun r203 S201 => (r203 = r196 → (¬ r196 = 0 → bk_L_law_1137 z L xs K23 S201 x1 x2 x3 x4) ∧ (r196 = 0 → (x3 ∈ mL S201 ∧ mK S201 x3 = 9) ∧ vp_in (0 : Int32) (mN S201 x3) ∧ ((lg_cmp (mJ S201 x3 ((0 : Int32)).toNatClampNeg) (Int32.toInt64 r200)) = 0 → bk_L_law_1137 z L xs K23 S201 x1 x2 x3 x4) ∧ (¬ (lg_cmp (mJ S201 x3 ((0 : Int32)).toNatClampNeg) (Int32.toInt64 r200)) = 0 → False))) ∧ (¬ r203 = r196 → False)) (fun _ _ => False)) (fun _ _ => False)) (fun _ _ => False)) ∧ (Int32.toInt ((xs (x4).toNatClampNeg) &&& (31 : Int32)) = 15 → vp_in (x4 + (1 : Int32)) L ∧ wp_L_daySum z S x1 (xs (x4 + (1 : Int32)).toNatClampNeg) x3 (fun r208 S207 => vp_in (x4 + (1 : Int32)) L ∧ (x2 ∈ mL S207 ∧ mK S207 x2 = 5) ∧ wp_X5_daySum z S207 x2 (xs (x4 + (1 : Int32)).toNatClampNeg) (fun r212 S210 => (x2 ∈ mL S210 ∧ mK S210 x2 = 5) ∧ wp_X5_thrown z S210 x2 (fun r215 S213 => (r215 = r208 → (¬ r208 = 0 → bk_L_law_1193 z L xs K23 S213 x1 x2 x3 x4) ∧ (r208 = 0 → (x3 ∈ mL S213 ∧ mK S213 x3 = 9) ∧ vp_in (0 : Int32) (mN S213 x3) ∧ ((lg_cmp (mJ S213 x3 ((0 : Int32)).toNatClampNeg) (Int32.toInt64 r212)) = 0 → bk_L_law_1193 z L xs K23 S213 x1 x2 x3 x4) ∧ (¬ (lg_cmp (mJ S213 x3 ((0 : Int32)).toNatClampNeg) (Int32.toInt64 r212)) = 0 → False))) ∧ (¬ r215 = r208 → False)) (fun _ _ => False)) (fun _ _ => False)) (fun _ _ => False)) ∧ (Int32.toInt ((xs (x4).toNatClampNeg) &&& (31 : Int32)) = 16 → vp_in (x4 + (1 : Int32)) L ∧ wp_L_sum z S x1 (xs (x4 + (1 : Int32)).toNatClampNeg) x3 (fun r220 S219 => vp_in (x4 + (1 : Int32)) L ∧ (x2 ∈ mL S219 ∧ mK S219 x2 = 5) ∧ wp_X5_sum z S219 x2 (xs (x4 + (1 : Int32)).toNatClampNeg) (fun r224 S222 => (x2 ∈ mL S222 ∧ mK S222 x2 = 5) ∧ wp_X5_thrown z S222 x2 (fun r227 S225 => (r227 = r220 → (¬ r220 = 0 → bk_L_law_1249 z L xs K23 S225 x1 x2 x3 x4) ∧ (r220 = 0 → (x3 ∈ mL S225 ∧ mK S225 x3 = 9) ∧ vp_in (0 : Int32) (mN S225 x3) ∧ ((lg_cmp (mJ S225 x3 ((0 : Int32)).toNatClampNeg) (Int32.toInt64 r224)) = 0 → bk_L_law_1249 z L xs K23 S225 x1 x2 x3 x4) ∧ (¬ (lg_cmp (mJ S225 x3 ((0 : Int32)).toNatClampNeg) (Int32.toInt64 r224)) = 0 → False))) ∧ (¬ r227 = r220 → False)) (fun _ _ => False)) (fun _ _ => False)) (fun _ _ => False)) ∧ (Int32.toInt ((xs (x4).toNatClampNeg) &&& (31 : Int32)) = 17 → vp_in (x4 + (1 : Int32)) L ∧ wp_L_total z S x1 (xs (x4 + (1 : Int32)).toNatClampNeg) x3 (fun r232 S231 => vp_in (x4 + (1 : Int32)) L ∧ (x2 ∈ mL S231 ∧ mK S231 x2 = 5) ∧ wp_X5_total z S231 x2 (xs (x4 + (1 : Int32)).toNatClampNeg) (fun r236 S234 => (x2 ∈ mL S234 ∧ mK S234 x2 = 5) ∧ wp_X5_thrown z S234 x2 (fun r239 S237 => (r239 = r232 → (¬ r232 = 0 → bk_L_law_1305 z L xs K23 S237 x1 x2 x3 x4) ∧ (r232 = 0 → (x3 ∈ mL S237 ∧ mK S237 x3 = 9) ∧ vp_in (0 : Int32) (mN S237 x3) ∧ ((lg_cmp (mJ S237 x3 ((0 : Int32)).toNatClampNeg) (Int32.toInt64 r236)) = 0 → bk_L_law_1305 z L xs K23 S237 x1 x2 x3 x4) ∧ (¬ (lg_cmp (mJ S237 x3 ((0 : Int32)).toNatClampNeg) (Int32.toInt64 r236)) = 0 → False))) ∧ (¬ r239 = r232 → False)) (fun _ _ => False)) (fun _ _ => False)) (fun _ _ => False)) ∧ (Int32.toInt ((xs (x4).toNatClampNeg) &&& (31 : Int32)) = 18 → vp_in (x4 + (1 : Int32)) L ∧ wp_L_left z S x1 (xs (x4 + (1 : Int32)).toNatClampNeg) x3 (fun r244 S243 => vp_in (x4 + (1 : Int32)) L ∧ (x2 ∈ mL S243 ∧ mK S243 x2 = 5) ∧ wp_X5_left z S243 x2 (xs (x4 + (1 : Int32)).toNatClampNeg) (fun r248 S246 => (x2 ∈ mL S246 ∧ mK S246 x2 = 5) ∧ wp_X5_thrown z S246 x2 (fun r251 S249 => (r251 = r244 → (¬ r244 = 0 → bk_L_law_1361 z L xs K23 S249 x1 x2 x3 x4) ∧ (r244 = 0 → (x3 ∈ mL S249 ∧ mK S249 x3 = 9) ∧ vp_in (0 : Int32) (mN S249 x3) ∧ ((lg_cmp (mJ S249 x3 ((0 : Int32)).toNatClampNeg) (Int32.toInt64 r248)) = 0 → bk_L_law_1361 z L xs K23 S249 x1 x2 x3 x4) ∧ (¬ (lg_cmp (mJ S249 x3 ((0 : Int32)).toNatClampNeg) (Int32.toInt64 r248)) = 0 → False))) ∧ (¬ r251 = r244 → False)) (fun _ _ => False)) (fun _ _ => False)) (fun _ _ => False)) ∧ (Int32.toInt ((xs (x4).toNatClampNeg) &&& (31 : Int32)) = 19 → vp_in (x4 + (1 : Int32)) L ∧ wp_L_emptied z S x1 (xs (x4 + (1 : Int32)).toNatClampNeg) x3 (fun r256 S255 => vp_in (x4 + (1 : Int32)) L ∧ (x2 ∈ mL S255 ∧ mK S255 x2 = 5) ∧ wp_X5_emptied z S255 x2 (xs (x4 + (1 : Int32)).toNatClampNeg) (fun r260 S258 => (x2 ∈ mL S258 ∧ mK S258 x2 = 5) ∧ wp_X5_thrown z S258 x2 (fun r263 S261 => (r263 = r256 → (¬ r256 = 0 → bk_L_law_1417 z L xs K23 S261 x1 x2 x3 x4) ∧ (r256 = 0 → (x3 ∈ mL S261 ∧ mK S261 x3 = 9) ∧ vp_in (0 : Int32) (mN S261 x3) ∧ ((lg_cmp (mJ S261 x3 ((0 : Int32)).toNatClampNeg) (Int32.toInt64 r260)) = 0 → bk_L_law_1417 z L xs K23 S261 x1 x2 x3 x4) ∧ (¬ (lg_cmp (mJ S261 x3 ((0 : Int32)).toNatClampNeg) (Int32.toInt64 r260)) = 0 → False))) ∧ (¬ r263 = r256 → False)) (fun _ _ => False)) (fun _ _ => False)) (fun _ _ => False)) ∧ (Int32.toInt ((xs (x4).toNatClampNeg) &&& (31 : Int32)) = 20 → vp_in (x4 + (1 : Int32)) L ∧ vp_in (x4 + (2 : Int32)) L ∧ wp_L_dayFees z S x1 (xs (x4 + (1 : Int32)).toNatClampNeg) (xs (x4 + (2 : Int32)).toNatClampNeg) x3 (fun r269 S268 => vp_in (x4 + (1 : Int32)) L ∧ vp_in (x4 + (2 : Int32)) L ∧ (x2 ∈ mL S268 ∧ mK S268 x2 = 5) ∧ wp_X5_dayFees z S268 x2 (xs (x4 + (1 : Int32)).toNatClampNeg) (xs (x4 + (2 : Int32)).toNatClampNeg) (fun r274 S272 => (x2 ∈ mL S272 ∧ mK S272 x2 = 5) ∧ wp_X5_thrown z S272 x2 (fun r277 S275 => (r277 = r269 → (¬ r269 = 0 → bk_L_law_1485 z L xs K23 S275 x1 x2 x3 x4) ∧ (r269 = 0 → (x3 ∈ mL S275 ∧ mK S275 x3 = 9) ∧ vp_in (0 : Int32) (mN S275 x3) ∧ ((lg_cmp (mJ S275 x3 ((0 : Int32)).toNatClampNeg) (Int32.toInt64 r274)) = 0 → bk_L_law_1485 z L xs K23 S275 x1 x2 x3 x4) ∧ (¬ (lg_cmp (mJ S275 x3 ((0 : Int32)).toNatClampNeg) (Int32.toInt64 r274)) = 0 → False))) ∧ (¬ r277 = r269 → False)) (fun _ _ => False)) (fun _ _ => False)) (fun _ _ => False)) ∧ (Int32.toInt ((xs (x4).toNatClampNeg) &&& (31 : Int32)) = 21 → vp_in (x4 + (1 : Int32)) L ∧ vp_in (x4 + (2 : Int32)) L ∧ wp_L_totalWith z S x1 (xs (x4 + (1 : Int32)).toNatClampNeg) (xs (x4 + (2 : Int32)).toNatClampNeg) x3 (fun r283 S282 => vp_in (x4 + (1 : Int32)) L ∧ vp_in (x4 + (2 : Int32)) L ∧ (x2 ∈ mL S282 ∧ mK S282 x2 = 5) ∧ wp_X5_totalWith z S282 x2 (xs (x4 + (1 : Int32)).toNatClampNeg) (xs (x4 + (2 : Int32)).toNatClampNeg) (fun r288 S286 => (x2 ∈ mL S286 ∧ mK S286 x2 = 5) ∧ wp_X5_thrown z S286 x2 (fun r291 S289 => (r291 = r283 → (¬ r283 = 0 → bk_L_law_1553 z L xs K23 S289 x1 x2 x3 x4) ∧ (r283 = 0 → (x3 ∈ mL S289 ∧ mK S289 x3 = 9) ∧ vp_in (0 : Int32) (mN S289 x3) ∧ ((lg_cmp (mJ S289 x3 ((0 : Int32)).toNatClampNeg) (Int32.toInt64 r288)) = 0 → bk_L_law_1553 z L xs K23 S289 x1 x2 x3 x4) ∧ (¬ (lg_cmp (mJ S289 x3 ((0 : Int32)).toNatClampNeg) (Int32.toInt64 r288)) = 0 → False))) ∧ (¬ r291 = r283 → False)) (fun _ _ => False)) (fun _ _ => False)) (fun _ _ => False)) ∧ (Int32.toInt ((xs (x4).toNatClampNeg) &&& (31 : Int32)) = 22 → vp_in (x4 + (1 : Int32)) L ∧ wp_L_bestTariff z S x1 (xs (x4 + (1 : Int32)).toNatClampNeg) x3 (fun r296 S295 => vp_in (x4 + (1 : Int32)) L ∧ (x2 ∈ mL S295 ∧ mK S295 x2 = 5) ∧ wp_X5_bestTariff z S295 x2 (xs (x4 + (1 : Int32)).toNatClampNeg) (fun r300 S298 => (x2 ∈ mL S298 ∧ mK S298 x2 = 5) ∧ wp_X5_thrown z S298 x2 (fun r303 S301 => (r303 = r296 → (¬ r296 = 0 → bk_L_law_1609 z L xs K23 S301 x1 x2 x3 x4) ∧ (r296 = 0 → (x3 ∈ mL S301 ∧ mK S301 x3 = 9) ∧ vp_in (0 : Int32) (mN S301 x3) ∧ ((lg_cmp (mJ S301 x3 ((0 : Int32)).toNatClampNeg) (Int32.toInt64 r300)) = 0 → bk_L_law_1609 z L xs K23 S301 x1 x2 x3 x4) ∧ (¬ (lg_cmp (mJ S301 x3 ((0 : Int32)).toNatClampNeg) (Int32.toInt64 r300)) = 0 → False))) ∧ (¬ r303 = r296 → False)) (fun _ _ => False)) (fun _ _ => False)) (fun _ _ => False)) ∧ (Int32.toInt ((xs (x4).toNatClampNeg) &&& (31 : Int32)) = 23 → (x1 ∈ mL S ∧ mK S x1 = 4) ∧ wp_X4_freeShare z S x1 (fun r308 S306 => (x2 ∈ mL S306 ∧ mK S306 x2 = 5) ∧ wp_X5_freeShare z S306 x2 (fun r311 S309 => ((Op.cmpValue (FP.dcmp r308 r311) CmpOp.l) = 0 → bk_L_law_1650 z L xs K23 S309 x1 x2 x3 x4) ∧ (¬ (Op.cmpValue (FP.dcmp r308 r311) CmpOp.l) = 0 → ((Op.cmpValue (FP.dcmp r308 r308) CmpOp.l) = 0 → False) ∧ (¬ (Op.cmpValue (FP.dcmp r308 r308) CmpOp.l) = 0 → (¬ (Op.cmpValue (FP.dcmp r311 r311) CmpOp.l) = 0 → bk_L_law_1650 z L xs K23 S309 x1 x2 x3 x4) ∧ ((Op.cmpValue (FP.dcmp r311 r311) CmpOp.l) = 0 → False)))) (fun _ _ => False)) (fun _ _ => False)) ∧ (Int32.toInt ((xs (x4).toNatClampNeg) &&& (31 : Int32)) = 24 → (x1 ∈ mL S ∧ mK S x1 = 4) ∧ wp_X4_digest z S x1 (fun r314 S312 => (x2 ∈ mL S312 ∧ mK S312 x2 = 5) ∧ wp_X5_digest z S312 x2 (fun r317 S315 => ((lg_cmp r314 r317) = 0 → bk_L_law_1667 z L xs K23 S315 x1 x2 x3 x4) ∧ (¬ (lg_cmp r314 r317) = 0 → False)) (fun _ _ => False)) (fun _ _ => False)))
def lp_L_law_23 (z : Nat × Nat) (L : Nat) (xs : Nat → Int32) : Nat → mmS → Nat → Nat → Nat → Int32 → Prop
  | 0 => fun _ _ _ _ _ => False
  | n + 1 => bk_L_law_23 z L xs (lp_L_law_23 z L xs n)
set_option maxHeartbeats 4000000 in
set_option maxRecDepth 100000 in
theorem bw_L_law_1667 {p : Program} {l : Launch} {e : Env} {s : State} {m : MethodId} {args : Array Value} {below : List Frame} {meth : Method} {c : Code} {g : mG} {Qf : State → Prop} {b L : Nat} {xs : Nat → Int32} (hl0 : l.stackTraces = false) (hC : CallFix p m c cL_law 9 s args (Cond.tt :: wsL_law) RL) (hs : mX g s) (hbX : va_X b L xs s s.heap) (hbl : b < s.heap.size) (hbA : ¬ mB g b) (hend : ∀ (H : Heap) (locs : List Loc) (ls : Array Slot), (∀ q ∈ locs, mB g q.base) → W p l e room_1 s m args below meth c H locs 601024 7293034 Qf (F0 m 1674 ls [.int 1])) {k : Nat} (hk : k ≤ 512) {K23 : mmS → Nat → Nat → Nat → Int32 → Prop} (hk23 : ∀ (S : mmS) (x1 : Nat) (x2 : Nat) (x3 : Nat) (x4 : Int32), K23 S x1 x2 x3 x4 → ∀ (H : Heap) (locs : List Loc), mH g S s H locs → ∀ ls : Array Slot, lv_has ls 9 [(0, .ref b), (1, .ref x1), (2, .ref x2), (3, .ref x3), (4, .int x4)] → W p l e room_1 s m args below meth c H locs (20 + (k + 1) * 7 + 0) (663 + (k + 1) * 275 + 0) Qf (F0 m 23 ls [])) : ∀ (S : mmS) (x1 : Nat) (x2 : Nat) (x3 : Nat) (x4 : Int32), bk_L_law_1667 g.2.2.2.2.2 L xs K23 S x1 x2 x3 x4 → ∀ (H : Heap) (locs : List Loc), mH g S s H locs → ∀ ls : Array Slot, lv_has ls 9 [(0, .ref b), (1, .ref x1), (2, .ref x2), (3, .ref x3), (4, .int x4)] → W p l e room_1 s m args below meth c H locs (20 + k * 7 + 7) (663 + k * 275 + 275) Qf (F0 m 1667 ls []) := by
  intro S x1 x2 x3 x4 hw H locs hH ls hl
  unfold bk_L_law_1667 at hw
  have hw := hw _ rfl
  refine lv_iinc (lv' := [(4, .int _), (0, .ref _), (1, .ref _), (2, .ref _), (3, .ref _)]) hC.1 hC.2.1 dL_law_1667 hl (k := 4) rfl (rfl : (_ : Int32) + Int32.ofInt 6 = (_ : Int32) + 6) (by decide) rfl (fun ls hl => ?_)
  refine lv_goto (tgt := 23) hC.1 hC.2.1 dL_law_1670 (by decide) ?_
  refine W.widen (k := (20 + (k + 1) * 7 + 0)) (n := (663 + (k + 1) * 275 + 0)) (lwb (Nat.le_of_ble_eq_true rfl)) (lwb (Nat.le_of_ble_eq_true rfl)) ?_
  exact hk23 _ _ _ _ _ hw _ _ hH _ (lv_sub hl [1, 2, 3, 4, 0] rfl)
set_option maxHeartbeats 4000000 in
set_option maxRecDepth 100000 in
theorem bw_L_law_1650 {p : Program} {l : Launch} {e : Env} {s : State} {m : MethodId} {args : Array Value} {below : List Frame} {meth : Method} {c : Code} {g : mG} {Qf : State → Prop} {b L : Nat} {xs : Nat → Int32} (hl0 : l.stackTraces = false) (hC : CallFix p m c cL_law 9 s args (Cond.tt :: wsL_law) RL) (hs : mX g s) (hbX : va_X b L xs s s.heap) (hbl : b < s.heap.size) (hbA : ¬ mB g b) (hend : ∀ (H : Heap) (locs : List Loc) (ls : Array Slot), (∀ q ∈ locs, mB g q.base) → W p l e room_1 s m args below meth c H locs 601024 7293034 Qf (F0 m 1674 ls [.int 1])) {k : Nat} (hk : k ≤ 512) {K23 : mmS → Nat → Nat → Nat → Int32 → Prop} (hk23 : ∀ (S : mmS) (x1 : Nat) (x2 : Nat) (x3 : Nat) (x4 : Int32), K23 S x1 x2 x3 x4 → ∀ (H : Heap) (locs : List Loc), mH g S s H locs → ∀ ls : Array Slot, lv_has ls 9 [(0, .ref b), (1, .ref x1), (2, .ref x2), (3, .ref x3), (4, .int x4)] → W p l e room_1 s m args below meth c H locs (20 + (k + 1) * 7 + 0) (663 + (k + 1) * 275 + 0) Qf (F0 m 23 ls [])) : ∀ (S : mmS) (x1 : Nat) (x2 : Nat) (x3 : Nat) (x4 : Int32), bk_L_law_1650 g.2.2.2.2.2 L xs K23 S x1 x2 x3 x4 → ∀ (H : Heap) (locs : List Loc), mH g S s H locs → ∀ ls : Array Slot, lv_has ls 9 [(0, .ref b), (1, .ref x1), (2, .ref x2), (3, .ref x3), (4, .int x4)] → W p l e room_1 s m args below meth c H locs (20 + k * 7 + 0) (663 + k * 275 + 0) Qf (F0 m 1650 ls []) := by
  intro S x1 x2 x3 x4 hw H locs hH ls hl
  unfold bk_L_law_1650 at hw
  refine lv_goto (tgt := 1667) hC.1 hC.2.1 dL_law_1650 (by decide) ?_
  refine W.widen (k := (20 + k * 7 + 7)) (n := (663 + k * 275 + 275)) (lwe (Nat.le_of_ble_eq_true rfl)) (lwe (Nat.le_of_ble_eq_true rfl)) ?_
  exact bw_L_law_1667 hl0 hC hs hbX hbl hbA hend hk hk23 _ _ _ _ _ hw _ _ hH _ (lv_sub hl [0, 1, 2, 3, 4] rfl)
set_option maxHeartbeats 4000000 in
set_option maxRecDepth 100000 in
theorem bw_L_law_1609 {p : Program} {l : Launch} {e : Env} {s : State} {m : MethodId} {args : Array Value} {below : List Frame} {meth : Method} {c : Code} {g : mG} {Qf : State → Prop} {b L : Nat} {xs : Nat → Int32} (hl0 : l.stackTraces = false) (hC : CallFix p m c cL_law 9 s args (Cond.tt :: wsL_law) RL) (hs : mX g s) (hbX : va_X b L xs s s.heap) (hbl : b < s.heap.size) (hbA : ¬ mB g b) (hend : ∀ (H : Heap) (locs : List Loc) (ls : Array Slot), (∀ q ∈ locs, mB g q.base) → W p l e room_1 s m args below meth c H locs 601024 7293034 Qf (F0 m 1674 ls [.int 1])) {k : Nat} (hk : k ≤ 512) {K23 : mmS → Nat → Nat → Nat → Int32 → Prop} (hk23 : ∀ (S : mmS) (x1 : Nat) (x2 : Nat) (x3 : Nat) (x4 : Int32), K23 S x1 x2 x3 x4 → ∀ (H : Heap) (locs : List Loc), mH g S s H locs → ∀ ls : Array Slot, lv_has ls 9 [(0, .ref b), (1, .ref x1), (2, .ref x2), (3, .ref x3), (4, .int x4)] → W p l e room_1 s m args below meth c H locs (20 + (k + 1) * 7 + 0) (663 + (k + 1) * 275 + 0) Qf (F0 m 23 ls [])) : ∀ (S : mmS) (x1 : Nat) (x2 : Nat) (x3 : Nat) (x4 : Int32), bk_L_law_1609 g.2.2.2.2.2 L xs K23 S x1 x2 x3 x4 → ∀ (H : Heap) (locs : List Loc), mH g S s H locs → ∀ ls : Array Slot, lv_has ls 9 [(0, .ref b), (1, .ref x1), (2, .ref x2), (3, .ref x3), (4, .int x4)] → W p l e room_1 s m args below meth c H locs (20 + k * 7 + 1) (663 + k * 275 + 6) Qf (F0 m 1609 ls []) := by
  intro S x1 x2 x3 x4 hw H locs hH ls hl
  unfold bk_L_law_1609 at hw
  refine lv_goto (tgt := 1667) hC.1 hC.2.1 dL_law_1609 (by decide) ?_
  refine W.widen (k := (20 + k * 7 + 7)) (n := (663 + k * 275 + 275)) (lwe (Nat.le_of_ble_eq_true rfl)) (lwe (Nat.le_of_ble_eq_true rfl)) ?_
  exact bw_L_law_1667 hl0 hC hs hbX hbl hbA hend hk hk23 _ _ _ _ _ hw _ _ hH _ (lv_sub hl [0, 1, 2, 3, 4] rfl)
set_option maxHeartbeats 4000000 in
set_option maxRecDepth 100000 in
theorem bw_L_law_1553 {p : Program} {l : Launch} {e : Env} {s : State} {m : MethodId} {args : Array Value} {below : List Frame} {meth : Method} {c : Code} {g : mG} {Qf : State → Prop} {b L : Nat} {xs : Nat → Int32} (hl0 : l.stackTraces = false) (hC : CallFix p m c cL_law 9 s args (Cond.tt :: wsL_law) RL) (hs : mX g s) (hbX : va_X b L xs s s.heap) (hbl : b < s.heap.size) (hbA : ¬ mB g b) (hend : ∀ (H : Heap) (locs : List Loc) (ls : Array Slot), (∀ q ∈ locs, mB g q.base) → W p l e room_1 s m args below meth c H locs 601024 7293034 Qf (F0 m 1674 ls [.int 1])) {k : Nat} (hk : k ≤ 512) {K23 : mmS → Nat → Nat → Nat → Int32 → Prop} (hk23 : ∀ (S : mmS) (x1 : Nat) (x2 : Nat) (x3 : Nat) (x4 : Int32), K23 S x1 x2 x3 x4 → ∀ (H : Heap) (locs : List Loc), mH g S s H locs → ∀ ls : Array Slot, lv_has ls 9 [(0, .ref b), (1, .ref x1), (2, .ref x2), (3, .ref x3), (4, .int x4)] → W p l e room_1 s m args below meth c H locs (20 + (k + 1) * 7 + 0) (663 + (k + 1) * 275 + 0) Qf (F0 m 23 ls [])) : ∀ (S : mmS) (x1 : Nat) (x2 : Nat) (x3 : Nat) (x4 : Int32), bk_L_law_1553 g.2.2.2.2.2 L xs K23 S x1 x2 x3 x4 → ∀ (H : Heap) (locs : List Loc), mH g S s H locs → ∀ ls : Array Slot, lv_has ls 9 [(0, .ref b), (1, .ref x1), (2, .ref x2), (3, .ref x3), (4, .int x4)] → W p l e room_1 s m args below meth c H locs (20 + k * 7 + 2) (663 + k * 275 + 12) Qf (F0 m 1553 ls []) := by
  intro S x1 x2 x3 x4 hw H locs hH ls hl
  unfold bk_L_law_1553 at hw
  refine lv_goto (tgt := 1667) hC.1 hC.2.1 dL_law_1553 (by decide) ?_
  refine W.widen (k := (20 + k * 7 + 7)) (n := (663 + k * 275 + 275)) (lwe (Nat.le_of_ble_eq_true rfl)) (lwe (Nat.le_of_ble_eq_true rfl)) ?_
  exact bw_L_law_1667 hl0 hC hs hbX hbl hbA hend hk hk23 _ _ _ _ _ hw _ _ hH _ (lv_sub hl [0, 1, 2, 3, 4] rfl)
set_option maxHeartbeats 4000000 in
set_option maxRecDepth 100000 in
theorem bw_L_law_1485 {p : Program} {l : Launch} {e : Env} {s : State} {m : MethodId} {args : Array Value} {below : List Frame} {meth : Method} {c : Code} {g : mG} {Qf : State → Prop} {b L : Nat} {xs : Nat → Int32} (hl0 : l.stackTraces = false) (hC : CallFix p m c cL_law 9 s args (Cond.tt :: wsL_law) RL) (hs : mX g s) (hbX : va_X b L xs s s.heap) (hbl : b < s.heap.size) (hbA : ¬ mB g b) (hend : ∀ (H : Heap) (locs : List Loc) (ls : Array Slot), (∀ q ∈ locs, mB g q.base) → W p l e room_1 s m args below meth c H locs 601024 7293034 Qf (F0 m 1674 ls [.int 1])) {k : Nat} (hk : k ≤ 512) {K23 : mmS → Nat → Nat → Nat → Int32 → Prop} (hk23 : ∀ (S : mmS) (x1 : Nat) (x2 : Nat) (x3 : Nat) (x4 : Int32), K23 S x1 x2 x3 x4 → ∀ (H : Heap) (locs : List Loc), mH g S s H locs → ∀ ls : Array Slot, lv_has ls 9 [(0, .ref b), (1, .ref x1), (2, .ref x2), (3, .ref x3), (4, .int x4)] → W p l e room_1 s m args below meth c H locs (20 + (k + 1) * 7 + 0) (663 + (k + 1) * 275 + 0) Qf (F0 m 23 ls [])) : ∀ (S : mmS) (x1 : Nat) (x2 : Nat) (x3 : Nat) (x4 : Int32), bk_L_law_1485 g.2.2.2.2.2 L xs K23 S x1 x2 x3 x4 → ∀ (H : Heap) (locs : List Loc), mH g S s H locs → ∀ ls : Array Slot, lv_has ls 9 [(0, .ref b), (1, .ref x1), (2, .ref x2), (3, .ref x3), (4, .int x4)] → W p l e room_1 s m args below meth c H locs (20 + k * 7 + 2) (663 + k * 275 + 12) Qf (F0 m 1485 ls []) := by
  intro S x1 x2 x3 x4 hw H locs hH ls hl
  unfold bk_L_law_1485 at hw
  refine lv_goto (tgt := 1667) hC.1 hC.2.1 dL_law_1485 (by decide) ?_
  refine W.widen (k := (20 + k * 7 + 7)) (n := (663 + k * 275 + 275)) (lwe (Nat.le_of_ble_eq_true rfl)) (lwe (Nat.le_of_ble_eq_true rfl)) ?_
  exact bw_L_law_1667 hl0 hC hs hbX hbl hbA hend hk hk23 _ _ _ _ _ hw _ _ hH _ (lv_sub hl [0, 1, 2, 3, 4] rfl)
set_option maxHeartbeats 4000000 in
set_option maxRecDepth 100000 in
theorem bw_L_law_1417 {p : Program} {l : Launch} {e : Env} {s : State} {m : MethodId} {args : Array Value} {below : List Frame} {meth : Method} {c : Code} {g : mG} {Qf : State → Prop} {b L : Nat} {xs : Nat → Int32} (hl0 : l.stackTraces = false) (hC : CallFix p m c cL_law 9 s args (Cond.tt :: wsL_law) RL) (hs : mX g s) (hbX : va_X b L xs s s.heap) (hbl : b < s.heap.size) (hbA : ¬ mB g b) (hend : ∀ (H : Heap) (locs : List Loc) (ls : Array Slot), (∀ q ∈ locs, mB g q.base) → W p l e room_1 s m args below meth c H locs 601024 7293034 Qf (F0 m 1674 ls [.int 1])) {k : Nat} (hk : k ≤ 512) {K23 : mmS → Nat → Nat → Nat → Int32 → Prop} (hk23 : ∀ (S : mmS) (x1 : Nat) (x2 : Nat) (x3 : Nat) (x4 : Int32), K23 S x1 x2 x3 x4 → ∀ (H : Heap) (locs : List Loc), mH g S s H locs → ∀ ls : Array Slot, lv_has ls 9 [(0, .ref b), (1, .ref x1), (2, .ref x2), (3, .ref x3), (4, .int x4)] → W p l e room_1 s m args below meth c H locs (20 + (k + 1) * 7 + 0) (663 + (k + 1) * 275 + 0) Qf (F0 m 23 ls [])) : ∀ (S : mmS) (x1 : Nat) (x2 : Nat) (x3 : Nat) (x4 : Int32), bk_L_law_1417 g.2.2.2.2.2 L xs K23 S x1 x2 x3 x4 → ∀ (H : Heap) (locs : List Loc), mH g S s H locs → ∀ ls : Array Slot, lv_has ls 9 [(0, .ref b), (1, .ref x1), (2, .ref x2), (3, .ref x3), (4, .int x4)] → W p l e room_1 s m args below meth c H locs (20 + k * 7 + 1) (663 + k * 275 + 6) Qf (F0 m 1417 ls []) := by
  intro S x1 x2 x3 x4 hw H locs hH ls hl
  unfold bk_L_law_1417 at hw
  refine lv_goto (tgt := 1667) hC.1 hC.2.1 dL_law_1417 (by decide) ?_
  refine W.widen (k := (20 + k * 7 + 7)) (n := (663 + k * 275 + 275)) (lwe (Nat.le_of_ble_eq_true rfl)) (lwe (Nat.le_of_ble_eq_true rfl)) ?_
  exact bw_L_law_1667 hl0 hC hs hbX hbl hbA hend hk hk23 _ _ _ _ _ hw _ _ hH _ (lv_sub hl [0, 1, 2, 3, 4] rfl)
set_option maxHeartbeats 4000000 in
set_option maxRecDepth 100000 in
theorem bw_L_law_1361 {p : Program} {l : Launch} {e : Env} {s : State} {m : MethodId} {args : Array Value} {below : List Frame} {meth : Method} {c : Code} {g : mG} {Qf : State → Prop} {b L : Nat} {xs : Nat → Int32} (hl0 : l.stackTraces = false) (hC : CallFix p m c cL_law 9 s args (Cond.tt :: wsL_law) RL) (hs : mX g s) (hbX : va_X b L xs s s.heap) (hbl : b < s.heap.size) (hbA : ¬ mB g b) (hend : ∀ (H : Heap) (locs : List Loc) (ls : Array Slot), (∀ q ∈ locs, mB g q.base) → W p l e room_1 s m args below meth c H locs 601024 7293034 Qf (F0 m 1674 ls [.int 1])) {k : Nat} (hk : k ≤ 512) {K23 : mmS → Nat → Nat → Nat → Int32 → Prop} (hk23 : ∀ (S : mmS) (x1 : Nat) (x2 : Nat) (x3 : Nat) (x4 : Int32), K23 S x1 x2 x3 x4 → ∀ (H : Heap) (locs : List Loc), mH g S s H locs → ∀ ls : Array Slot, lv_has ls 9 [(0, .ref b), (1, .ref x1), (2, .ref x2), (3, .ref x3), (4, .int x4)] → W p l e room_1 s m args below meth c H locs (20 + (k + 1) * 7 + 0) (663 + (k + 1) * 275 + 0) Qf (F0 m 23 ls [])) : ∀ (S : mmS) (x1 : Nat) (x2 : Nat) (x3 : Nat) (x4 : Int32), bk_L_law_1361 g.2.2.2.2.2 L xs K23 S x1 x2 x3 x4 → ∀ (H : Heap) (locs : List Loc), mH g S s H locs → ∀ ls : Array Slot, lv_has ls 9 [(0, .ref b), (1, .ref x1), (2, .ref x2), (3, .ref x3), (4, .int x4)] → W p l e room_1 s m args below meth c H locs (20 + k * 7 + 1) (663 + k * 275 + 6) Qf (F0 m 1361 ls []) := by
  intro S x1 x2 x3 x4 hw H locs hH ls hl
  unfold bk_L_law_1361 at hw
  refine lv_goto (tgt := 1667) hC.1 hC.2.1 dL_law_1361 (by decide) ?_
  refine W.widen (k := (20 + k * 7 + 7)) (n := (663 + k * 275 + 275)) (lwe (Nat.le_of_ble_eq_true rfl)) (lwe (Nat.le_of_ble_eq_true rfl)) ?_
  exact bw_L_law_1667 hl0 hC hs hbX hbl hbA hend hk hk23 _ _ _ _ _ hw _ _ hH _ (lv_sub hl [0, 1, 2, 3, 4] rfl)
set_option maxHeartbeats 4000000 in
set_option maxRecDepth 100000 in
theorem bw_L_law_1305 {p : Program} {l : Launch} {e : Env} {s : State} {m : MethodId} {args : Array Value} {below : List Frame} {meth : Method} {c : Code} {g : mG} {Qf : State → Prop} {b L : Nat} {xs : Nat → Int32} (hl0 : l.stackTraces = false) (hC : CallFix p m c cL_law 9 s args (Cond.tt :: wsL_law) RL) (hs : mX g s) (hbX : va_X b L xs s s.heap) (hbl : b < s.heap.size) (hbA : ¬ mB g b) (hend : ∀ (H : Heap) (locs : List Loc) (ls : Array Slot), (∀ q ∈ locs, mB g q.base) → W p l e room_1 s m args below meth c H locs 601024 7293034 Qf (F0 m 1674 ls [.int 1])) {k : Nat} (hk : k ≤ 512) {K23 : mmS → Nat → Nat → Nat → Int32 → Prop} (hk23 : ∀ (S : mmS) (x1 : Nat) (x2 : Nat) (x3 : Nat) (x4 : Int32), K23 S x1 x2 x3 x4 → ∀ (H : Heap) (locs : List Loc), mH g S s H locs → ∀ ls : Array Slot, lv_has ls 9 [(0, .ref b), (1, .ref x1), (2, .ref x2), (3, .ref x3), (4, .int x4)] → W p l e room_1 s m args below meth c H locs (20 + (k + 1) * 7 + 0) (663 + (k + 1) * 275 + 0) Qf (F0 m 23 ls [])) : ∀ (S : mmS) (x1 : Nat) (x2 : Nat) (x3 : Nat) (x4 : Int32), bk_L_law_1305 g.2.2.2.2.2 L xs K23 S x1 x2 x3 x4 → ∀ (H : Heap) (locs : List Loc), mH g S s H locs → ∀ ls : Array Slot, lv_has ls 9 [(0, .ref b), (1, .ref x1), (2, .ref x2), (3, .ref x3), (4, .int x4)] → W p l e room_1 s m args below meth c H locs (20 + k * 7 + 1) (663 + k * 275 + 6) Qf (F0 m 1305 ls []) := by
  intro S x1 x2 x3 x4 hw H locs hH ls hl
  unfold bk_L_law_1305 at hw
  refine lv_goto (tgt := 1667) hC.1 hC.2.1 dL_law_1305 (by decide) ?_
  refine W.widen (k := (20 + k * 7 + 7)) (n := (663 + k * 275 + 275)) (lwe (Nat.le_of_ble_eq_true rfl)) (lwe (Nat.le_of_ble_eq_true rfl)) ?_
  exact bw_L_law_1667 hl0 hC hs hbX hbl hbA hend hk hk23 _ _ _ _ _ hw _ _ hH _ (lv_sub hl [0, 1, 2, 3, 4] rfl)
set_option maxHeartbeats 4000000 in
set_option maxRecDepth 100000 in
theorem bw_L_law_1249 {p : Program} {l : Launch} {e : Env} {s : State} {m : MethodId} {args : Array Value} {below : List Frame} {meth : Method} {c : Code} {g : mG} {Qf : State → Prop} {b L : Nat} {xs : Nat → Int32} (hl0 : l.stackTraces = false) (hC : CallFix p m c cL_law 9 s args (Cond.tt :: wsL_law) RL) (hs : mX g s) (hbX : va_X b L xs s s.heap) (hbl : b < s.heap.size) (hbA : ¬ mB g b) (hend : ∀ (H : Heap) (locs : List Loc) (ls : Array Slot), (∀ q ∈ locs, mB g q.base) → W p l e room_1 s m args below meth c H locs 601024 7293034 Qf (F0 m 1674 ls [.int 1])) {k : Nat} (hk : k ≤ 512) {K23 : mmS → Nat → Nat → Nat → Int32 → Prop} (hk23 : ∀ (S : mmS) (x1 : Nat) (x2 : Nat) (x3 : Nat) (x4 : Int32), K23 S x1 x2 x3 x4 → ∀ (H : Heap) (locs : List Loc), mH g S s H locs → ∀ ls : Array Slot, lv_has ls 9 [(0, .ref b), (1, .ref x1), (2, .ref x2), (3, .ref x3), (4, .int x4)] → W p l e room_1 s m args below meth c H locs (20 + (k + 1) * 7 + 0) (663 + (k + 1) * 275 + 0) Qf (F0 m 23 ls [])) : ∀ (S : mmS) (x1 : Nat) (x2 : Nat) (x3 : Nat) (x4 : Int32), bk_L_law_1249 g.2.2.2.2.2 L xs K23 S x1 x2 x3 x4 → ∀ (H : Heap) (locs : List Loc), mH g S s H locs → ∀ ls : Array Slot, lv_has ls 9 [(0, .ref b), (1, .ref x1), (2, .ref x2), (3, .ref x3), (4, .int x4)] → W p l e room_1 s m args below meth c H locs (20 + k * 7 + 1) (663 + k * 275 + 6) Qf (F0 m 1249 ls []) := by
  intro S x1 x2 x3 x4 hw H locs hH ls hl
  unfold bk_L_law_1249 at hw
  refine lv_goto (tgt := 1667) hC.1 hC.2.1 dL_law_1249 (by decide) ?_
  refine W.widen (k := (20 + k * 7 + 7)) (n := (663 + k * 275 + 275)) (lwe (Nat.le_of_ble_eq_true rfl)) (lwe (Nat.le_of_ble_eq_true rfl)) ?_
  exact bw_L_law_1667 hl0 hC hs hbX hbl hbA hend hk hk23 _ _ _ _ _ hw _ _ hH _ (lv_sub hl [0, 1, 2, 3, 4] rfl)
set_option maxHeartbeats 4000000 in
set_option maxRecDepth 100000 in
theorem bw_L_law_1193 {p : Program} {l : Launch} {e : Env} {s : State} {m : MethodId} {args : Array Value} {below : List Frame} {meth : Method} {c : Code} {g : mG} {Qf : State → Prop} {b L : Nat} {xs : Nat → Int32} (hl0 : l.stackTraces = false) (hC : CallFix p m c cL_law 9 s args (Cond.tt :: wsL_law) RL) (hs : mX g s) (hbX : va_X b L xs s s.heap) (hbl : b < s.heap.size) (hbA : ¬ mB g b) (hend : ∀ (H : Heap) (locs : List Loc) (ls : Array Slot), (∀ q ∈ locs, mB g q.base) → W p l e room_1 s m args below meth c H locs 601024 7293034 Qf (F0 m 1674 ls [.int 1])) {k : Nat} (hk : k ≤ 512) {K23 : mmS → Nat → Nat → Nat → Int32 → Prop} (hk23 : ∀ (S : mmS) (x1 : Nat) (x2 : Nat) (x3 : Nat) (x4 : Int32), K23 S x1 x2 x3 x4 → ∀ (H : Heap) (locs : List Loc), mH g S s H locs → ∀ ls : Array Slot, lv_has ls 9 [(0, .ref b), (1, .ref x1), (2, .ref x2), (3, .ref x3), (4, .int x4)] → W p l e room_1 s m args below meth c H locs (20 + (k + 1) * 7 + 0) (663 + (k + 1) * 275 + 0) Qf (F0 m 23 ls [])) : ∀ (S : mmS) (x1 : Nat) (x2 : Nat) (x3 : Nat) (x4 : Int32), bk_L_law_1193 g.2.2.2.2.2 L xs K23 S x1 x2 x3 x4 → ∀ (H : Heap) (locs : List Loc), mH g S s H locs → ∀ ls : Array Slot, lv_has ls 9 [(0, .ref b), (1, .ref x1), (2, .ref x2), (3, .ref x3), (4, .int x4)] → W p l e room_1 s m args below meth c H locs (20 + k * 7 + 1) (663 + k * 275 + 6) Qf (F0 m 1193 ls []) := by
  intro S x1 x2 x3 x4 hw H locs hH ls hl
  unfold bk_L_law_1193 at hw
  refine lv_goto (tgt := 1667) hC.1 hC.2.1 dL_law_1193 (by decide) ?_
  refine W.widen (k := (20 + k * 7 + 7)) (n := (663 + k * 275 + 275)) (lwe (Nat.le_of_ble_eq_true rfl)) (lwe (Nat.le_of_ble_eq_true rfl)) ?_
  exact bw_L_law_1667 hl0 hC hs hbX hbl hbA hend hk hk23 _ _ _ _ _ hw _ _ hH _ (lv_sub hl [0, 1, 2, 3, 4] rfl)
set_option maxHeartbeats 4000000 in
set_option maxRecDepth 100000 in
theorem bw_L_law_1137 {p : Program} {l : Launch} {e : Env} {s : State} {m : MethodId} {args : Array Value} {below : List Frame} {meth : Method} {c : Code} {g : mG} {Qf : State → Prop} {b L : Nat} {xs : Nat → Int32} (hl0 : l.stackTraces = false) (hC : CallFix p m c cL_law 9 s args (Cond.tt :: wsL_law) RL) (hs : mX g s) (hbX : va_X b L xs s s.heap) (hbl : b < s.heap.size) (hbA : ¬ mB g b) (hend : ∀ (H : Heap) (locs : List Loc) (ls : Array Slot), (∀ q ∈ locs, mB g q.base) → W p l e room_1 s m args below meth c H locs 601024 7293034 Qf (F0 m 1674 ls [.int 1])) {k : Nat} (hk : k ≤ 512) {K23 : mmS → Nat → Nat → Nat → Int32 → Prop} (hk23 : ∀ (S : mmS) (x1 : Nat) (x2 : Nat) (x3 : Nat) (x4 : Int32), K23 S x1 x2 x3 x4 → ∀ (H : Heap) (locs : List Loc), mH g S s H locs → ∀ ls : Array Slot, lv_has ls 9 [(0, .ref b), (1, .ref x1), (2, .ref x2), (3, .ref x3), (4, .int x4)] → W p l e room_1 s m args below meth c H locs (20 + (k + 1) * 7 + 0) (663 + (k + 1) * 275 + 0) Qf (F0 m 23 ls [])) : ∀ (S : mmS) (x1 : Nat) (x2 : Nat) (x3 : Nat) (x4 : Int32), bk_L_law_1137 g.2.2.2.2.2 L xs K23 S x1 x2 x3 x4 → ∀ (H : Heap) (locs : List Loc), mH g S s H locs → ∀ ls : Array Slot, lv_has ls 9 [(0, .ref b), (1, .ref x1), (2, .ref x2), (3, .ref x3), (4, .int x4)] → W p l e room_1 s m args below meth c H locs (20 + k * 7 + 1) (663 + k * 275 + 6) Qf (F0 m 1137 ls []) := by
  intro S x1 x2 x3 x4 hw H locs hH ls hl
  unfold bk_L_law_1137 at hw
  refine lv_goto (tgt := 1667) hC.1 hC.2.1 dL_law_1137 (by decide) ?_
  refine W.widen (k := (20 + k * 7 + 7)) (n := (663 + k * 275 + 275)) (lwe (Nat.le_of_ble_eq_true rfl)) (lwe (Nat.le_of_ble_eq_true rfl)) ?_
  exact bw_L_law_1667 hl0 hC hs hbX hbl hbA hend hk hk23 _ _ _ _ _ hw _ _ hH _ (lv_sub hl [0, 1, 2, 3, 4] rfl)
set_option maxHeartbeats 4000000 in
set_option maxRecDepth 100000 in
theorem bw_L_law_1068 {p : Program} {l : Launch} {e : Env} {s : State} {m : MethodId} {args : Array Value} {below : List Frame} {meth : Method} {c : Code} {g : mG} {Qf : State → Prop} {b L : Nat} {xs : Nat → Int32} (hl0 : l.stackTraces = false) (hC : CallFix p m c cL_law 9 s args (Cond.tt :: wsL_law) RL) (hs : mX g s) (hbX : va_X b L xs s s.heap) (hbl : b < s.heap.size) (hbA : ¬ mB g b) (hend : ∀ (H : Heap) (locs : List Loc) (ls : Array Slot), (∀ q ∈ locs, mB g q.base) → W p l e room_1 s m args below meth c H locs 601024 7293034 Qf (F0 m 1674 ls [.int 1])) {k : Nat} (hk : k ≤ 512) {K23 : mmS → Nat → Nat → Nat → Int32 → Prop} (hk23 : ∀ (S : mmS) (x1 : Nat) (x2 : Nat) (x3 : Nat) (x4 : Int32), K23 S x1 x2 x3 x4 → ∀ (H : Heap) (locs : List Loc), mH g S s H locs → ∀ ls : Array Slot, lv_has ls 9 [(0, .ref b), (1, .ref x1), (2, .ref x2), (3, .ref x3), (4, .int x4)] → W p l e room_1 s m args below meth c H locs (20 + (k + 1) * 7 + 0) (663 + (k + 1) * 275 + 0) Qf (F0 m 23 ls [])) : ∀ (S : mmS) (x1 : Nat) (x2 : Nat) (x3 : Nat) (x4 : Int32), bk_L_law_1068 g.2.2.2.2.2 L xs K23 S x1 x2 x3 x4 → ∀ (H : Heap) (locs : List Loc), mH g S s H locs → ∀ ls : Array Slot, lv_has ls 9 [(0, .ref b), (1, .ref x1), (2, .ref x2), (3, .ref x3), (4, .int x4)] → W p l e room_1 s m args below meth c H locs (20 + k * 7 + 2) (663 + k * 275 + 12) Qf (F0 m 1068 ls []) := by
  intro S x1 x2 x3 x4 hw H locs hH ls hl
  unfold bk_L_law_1068 at hw
  refine lv_goto (tgt := 1667) hC.1 hC.2.1 dL_law_1068 (by decide) ?_
  refine W.widen (k := (20 + k * 7 + 7)) (n := (663 + k * 275 + 275)) (lwe (Nat.le_of_ble_eq_true rfl)) (lwe (Nat.le_of_ble_eq_true rfl)) ?_
  exact bw_L_law_1667 hl0 hC hs hbX hbl hbA hend hk hk23 _ _ _ _ _ hw _ _ hH _ (lv_sub hl [0, 1, 2, 3, 4] rfl)
set_option maxHeartbeats 4000000 in
set_option maxRecDepth 100000 in
theorem bw_L_law_1000 {p : Program} {l : Launch} {e : Env} {s : State} {m : MethodId} {args : Array Value} {below : List Frame} {meth : Method} {c : Code} {g : mG} {Qf : State → Prop} {b L : Nat} {xs : Nat → Int32} (hl0 : l.stackTraces = false) (hC : CallFix p m c cL_law 9 s args (Cond.tt :: wsL_law) RL) (hs : mX g s) (hbX : va_X b L xs s s.heap) (hbl : b < s.heap.size) (hbA : ¬ mB g b) (hend : ∀ (H : Heap) (locs : List Loc) (ls : Array Slot), (∀ q ∈ locs, mB g q.base) → W p l e room_1 s m args below meth c H locs 601024 7293034 Qf (F0 m 1674 ls [.int 1])) {k : Nat} (hk : k ≤ 512) {K23 : mmS → Nat → Nat → Nat → Int32 → Prop} (hk23 : ∀ (S : mmS) (x1 : Nat) (x2 : Nat) (x3 : Nat) (x4 : Int32), K23 S x1 x2 x3 x4 → ∀ (H : Heap) (locs : List Loc), mH g S s H locs → ∀ ls : Array Slot, lv_has ls 9 [(0, .ref b), (1, .ref x1), (2, .ref x2), (3, .ref x3), (4, .int x4)] → W p l e room_1 s m args below meth c H locs (20 + (k + 1) * 7 + 0) (663 + (k + 1) * 275 + 0) Qf (F0 m 23 ls [])) : ∀ (S : mmS) (x1 : Nat) (x2 : Nat) (x3 : Nat) (x4 : Int32), bk_L_law_1000 g.2.2.2.2.2 L xs K23 S x1 x2 x3 x4 → ∀ (H : Heap) (locs : List Loc), mH g S s H locs → ∀ ls : Array Slot, lv_has ls 9 [(0, .ref b), (1, .ref x1), (2, .ref x2), (3, .ref x3), (4, .int x4)] → W p l e room_1 s m args below meth c H locs (20 + k * 7 + 1) (663 + k * 275 + 6) Qf (F0 m 1000 ls []) := by
  intro S x1 x2 x3 x4 hw H locs hH ls hl
  unfold bk_L_law_1000 at hw
  refine lv_goto (tgt := 1667) hC.1 hC.2.1 dL_law_1000 (by decide) ?_
  refine W.widen (k := (20 + k * 7 + 7)) (n := (663 + k * 275 + 275)) (lwe (Nat.le_of_ble_eq_true rfl)) (lwe (Nat.le_of_ble_eq_true rfl)) ?_
  exact bw_L_law_1667 hl0 hC hs hbX hbl hbA hend hk hk23 _ _ _ _ _ hw _ _ hH _ (lv_sub hl [0, 1, 2, 3, 4] rfl)
set_option maxHeartbeats 4000000 in
set_option maxRecDepth 100000 in
theorem bw_L_law_994 {p : Program} {l : Launch} {e : Env} {s : State} {m : MethodId} {args : Array Value} {below : List Frame} {meth : Method} {c : Code} {g : mG} {Qf : State → Prop} {b L : Nat} {xs : Nat → Int32} (hl0 : l.stackTraces = false) (hC : CallFix p m c cL_law 9 s args (Cond.tt :: wsL_law) RL) (hs : mX g s) (hbX : va_X b L xs s s.heap) (hbl : b < s.heap.size) (hbA : ¬ mB g b) (hend : ∀ (H : Heap) (locs : List Loc) (ls : Array Slot), (∀ q ∈ locs, mB g q.base) → W p l e room_1 s m args below meth c H locs 601024 7293034 Qf (F0 m 1674 ls [.int 1])) {k : Nat} (hk : k ≤ 512) {K23 : mmS → Nat → Nat → Nat → Int32 → Prop} (hk23 : ∀ (S : mmS) (x1 : Nat) (x2 : Nat) (x3 : Nat) (x4 : Int32), K23 S x1 x2 x3 x4 → ∀ (H : Heap) (locs : List Loc), mH g S s H locs → ∀ ls : Array Slot, lv_has ls 9 [(0, .ref b), (1, .ref x1), (2, .ref x2), (3, .ref x3), (4, .int x4)] → W p l e room_1 s m args below meth c H locs (20 + (k + 1) * 7 + 0) (663 + (k + 1) * 275 + 0) Qf (F0 m 23 ls [])) : ∀ (S : mmS) (x1 : Nat) (x2 : Nat) (x3 : Nat) (x4 : Int32) (t0 : Int64) (t1 : Int64), bk_L_law_994 g.2.2.2.2.2 L xs K23 S x1 x2 x3 x4 t0 t1 → ∀ (H : Heap) (locs : List Loc), mH g S s H locs → ∀ ls : Array Slot, lv_has ls 9 [(0, .ref b), (1, .ref x1), (2, .ref x2), (3, .ref x3), (4, .int x4)] → W p l e room_1 s m args below meth c H locs (20 + k * 7 + 1) (663 + k * 275 + 6) Qf (F0 m 994 ls [.long t1, .long t0]) := by
  intro S x1 x2 x3 x4 t0 t1 hw H locs hH ls hl
  unfold bk_L_law_994 at hw
  refine W.lcmp hC.1 hC.2.1 dL_law_994 ?_
  refine lv_if_eq (tgt := 1000) hC.1 hC.2.1 dL_law_995 (by decide) (fun hc => ?_) (fun hc => ?_)
  · have hw := hw.1 hc
    refine W.widen (k := (20 + k * 7 + 1)) (n := (663 + k * 275 + 6)) (lwe (Nat.le_of_ble_eq_true rfl)) (lwe (Nat.le_of_ble_eq_true rfl)) ?_
    exact bw_L_law_1000 hl0 hC hs hbX hbl hbA hend hk hk23 _ _ _ _ _ hw _ _ hH _ (lv_sub hl [0, 1, 2, 3, 4] rfl)
  · have hw := hw.2 hc
    refine lv_iconst (v := 0) hC.1 hC.2.1 dL_law_998 (by decide) ?_
    exact False.elim hw
set_option maxHeartbeats 4000000 in
set_option maxRecDepth 100000 in
theorem bw_L_law_937 {p : Program} {l : Launch} {e : Env} {s : State} {m : MethodId} {args : Array Value} {below : List Frame} {meth : Method} {c : Code} {g : mG} {Qf : State → Prop} {b L : Nat} {xs : Nat → Int32} (hl0 : l.stackTraces = false) (hC : CallFix p m c cL_law 9 s args (Cond.tt :: wsL_law) RL) (hs : mX g s) (hbX : va_X b L xs s s.heap) (hbl : b < s.heap.size) (hbA : ¬ mB g b) (hend : ∀ (H : Heap) (locs : List Loc) (ls : Array Slot), (∀ q ∈ locs, mB g q.base) → W p l e room_1 s m args below meth c H locs 601024 7293034 Qf (F0 m 1674 ls [.int 1])) {k : Nat} (hk : k ≤ 512) {K23 : mmS → Nat → Nat → Nat → Int32 → Prop} (hk23 : ∀ (S : mmS) (x1 : Nat) (x2 : Nat) (x3 : Nat) (x4 : Int32), K23 S x1 x2 x3 x4 → ∀ (H : Heap) (locs : List Loc), mH g S s H locs → ∀ ls : Array Slot, lv_has ls 9 [(0, .ref b), (1, .ref x1), (2, .ref x2), (3, .ref x3), (4, .int x4)] → W p l e room_1 s m args below meth c H locs (20 + (k + 1) * 7 + 0) (663 + (k + 1) * 275 + 0) Qf (F0 m 23 ls [])) : ∀ (S : mmS) (x1 : Nat) (x2 : Nat) (x3 : Nat) (x4 : Int32), bk_L_law_937 g.2.2.2.2.2 L xs K23 S x1 x2 x3 x4 → ∀ (H : Heap) (locs : List Loc), mH g S s H locs → ∀ ls : Array Slot, lv_has ls 9 [(0, .ref b), (1, .ref x1), (2, .ref x2), (3, .ref x3), (4, .int x4)] → W p l e room_1 s m args below meth c H locs (20 + k * 7 + 1) (663 + k * 275 + 6) Qf (F0 m 937 ls []) := by
  intro S x1 x2 x3 x4 hw H locs hH ls hl
  unfold bk_L_law_937 at hw
  refine lv_goto (tgt := 1667) hC.1 hC.2.1 dL_law_937 (by decide) ?_
  refine W.widen (k := (20 + k * 7 + 7)) (n := (663 + k * 275 + 275)) (lwe (Nat.le_of_ble_eq_true rfl)) (lwe (Nat.le_of_ble_eq_true rfl)) ?_
  exact bw_L_law_1667 hl0 hC hs hbX hbl hbA hend hk hk23 _ _ _ _ _ hw _ _ hH _ (lv_sub hl [0, 1, 2, 3, 4] rfl)
set_option maxHeartbeats 4000000 in
set_option maxRecDepth 100000 in
theorem bw_L_law_868 {p : Program} {l : Launch} {e : Env} {s : State} {m : MethodId} {args : Array Value} {below : List Frame} {meth : Method} {c : Code} {g : mG} {Qf : State → Prop} {b L : Nat} {xs : Nat → Int32} (hl0 : l.stackTraces = false) (hC : CallFix p m c cL_law 9 s args (Cond.tt :: wsL_law) RL) (hs : mX g s) (hbX : va_X b L xs s s.heap) (hbl : b < s.heap.size) (hbA : ¬ mB g b) (hend : ∀ (H : Heap) (locs : List Loc) (ls : Array Slot), (∀ q ∈ locs, mB g q.base) → W p l e room_1 s m args below meth c H locs 601024 7293034 Qf (F0 m 1674 ls [.int 1])) {k : Nat} (hk : k ≤ 512) {K23 : mmS → Nat → Nat → Nat → Int32 → Prop} (hk23 : ∀ (S : mmS) (x1 : Nat) (x2 : Nat) (x3 : Nat) (x4 : Int32), K23 S x1 x2 x3 x4 → ∀ (H : Heap) (locs : List Loc), mH g S s H locs → ∀ ls : Array Slot, lv_has ls 9 [(0, .ref b), (1, .ref x1), (2, .ref x2), (3, .ref x3), (4, .int x4)] → W p l e room_1 s m args below meth c H locs (20 + (k + 1) * 7 + 0) (663 + (k + 1) * 275 + 0) Qf (F0 m 23 ls [])) : ∀ (S : mmS) (x1 : Nat) (x2 : Nat) (x3 : Nat) (x4 : Int32), bk_L_law_868 g.2.2.2.2.2 L xs K23 S x1 x2 x3 x4 → ∀ (H : Heap) (locs : List Loc), mH g S s H locs → ∀ ls : Array Slot, lv_has ls 9 [(0, .ref b), (1, .ref x1), (2, .ref x2), (3, .ref x3), (4, .int x4)] → W p l e room_1 s m args below meth c H locs (20 + k * 7 + 2) (663 + k * 275 + 12) Qf (F0 m 868 ls []) := by
  intro S x1 x2 x3 x4 hw H locs hH ls hl
  unfold bk_L_law_868 at hw
  refine lv_goto (tgt := 1667) hC.1 hC.2.1 dL_law_868 (by decide) ?_
  refine W.widen (k := (20 + k * 7 + 7)) (n := (663 + k * 275 + 275)) (lwe (Nat.le_of_ble_eq_true rfl)) (lwe (Nat.le_of_ble_eq_true rfl)) ?_
  exact bw_L_law_1667 hl0 hC hs hbX hbl hbA hend hk hk23 _ _ _ _ _ hw _ _ hH _ (lv_sub hl [0, 1, 2, 3, 4] rfl)
set_option maxHeartbeats 4000000 in
set_option maxRecDepth 100000 in
theorem bw_L_law_800 {p : Program} {l : Launch} {e : Env} {s : State} {m : MethodId} {args : Array Value} {below : List Frame} {meth : Method} {c : Code} {g : mG} {Qf : State → Prop} {b L : Nat} {xs : Nat → Int32} (hl0 : l.stackTraces = false) (hC : CallFix p m c cL_law 9 s args (Cond.tt :: wsL_law) RL) (hs : mX g s) (hbX : va_X b L xs s s.heap) (hbl : b < s.heap.size) (hbA : ¬ mB g b) (hend : ∀ (H : Heap) (locs : List Loc) (ls : Array Slot), (∀ q ∈ locs, mB g q.base) → W p l e room_1 s m args below meth c H locs 601024 7293034 Qf (F0 m 1674 ls [.int 1])) {k : Nat} (hk : k ≤ 512) {K23 : mmS → Nat → Nat → Nat → Int32 → Prop} (hk23 : ∀ (S : mmS) (x1 : Nat) (x2 : Nat) (x3 : Nat) (x4 : Int32), K23 S x1 x2 x3 x4 → ∀ (H : Heap) (locs : List Loc), mH g S s H locs → ∀ ls : Array Slot, lv_has ls 9 [(0, .ref b), (1, .ref x1), (2, .ref x2), (3, .ref x3), (4, .int x4)] → W p l e room_1 s m args below meth c H locs (20 + (k + 1) * 7 + 0) (663 + (k + 1) * 275 + 0) Qf (F0 m 23 ls [])) : ∀ (S : mmS) (x1 : Nat) (x2 : Nat) (x3 : Nat) (x4 : Int32), bk_L_law_800 g.2.2.2.2.2 L xs K23 S x1 x2 x3 x4 → ∀ (H : Heap) (locs : List Loc), mH g S s H locs → ∀ ls : Array Slot, lv_has ls 9 [(0, .ref b), (1, .ref x1), (2, .ref x2), (3, .ref x3), (4, .int x4)] → W p l e room_1 s m args below meth c H locs (20 + k * 7 + 5) (663 + k * 275 + 275) Qf (F0 m 800 ls []) := by
  intro S x1 x2 x3 x4 hw H locs hH ls hl
  unfold bk_L_law_800 at hw
  refine lv_goto (tgt := 1667) hC.1 hC.2.1 dL_law_800 (by decide) ?_
  refine W.widen (k := (20 + k * 7 + 7)) (n := (663 + k * 275 + 275)) (lwe (Nat.le_of_ble_eq_true rfl)) (lwe (Nat.le_of_ble_eq_true rfl)) ?_
  exact bw_L_law_1667 hl0 hC hs hbX hbl hbA hend hk hk23 _ _ _ _ _ hw _ _ hH _ (lv_sub hl [0, 1, 2, 3, 4] rfl)
set_option maxHeartbeats 4000000 in
set_option maxRecDepth 100000 in
theorem bw_L_law_708 {p : Program} {l : Launch} {e : Env} {s : State} {m : MethodId} {args : Array Value} {below : List Frame} {meth : Method} {c : Code} {g : mG} {Qf : State → Prop} {b L : Nat} {xs : Nat → Int32} (hl0 : l.stackTraces = false) (hC : CallFix p m c cL_law 9 s args (Cond.tt :: wsL_law) RL) (hs : mX g s) (hbX : va_X b L xs s s.heap) (hbl : b < s.heap.size) (hbA : ¬ mB g b) (hend : ∀ (H : Heap) (locs : List Loc) (ls : Array Slot), (∀ q ∈ locs, mB g q.base) → W p l e room_1 s m args below meth c H locs 601024 7293034 Qf (F0 m 1674 ls [.int 1])) {k : Nat} (hk : k ≤ 512) {K23 : mmS → Nat → Nat → Nat → Int32 → Prop} (hk23 : ∀ (S : mmS) (x1 : Nat) (x2 : Nat) (x3 : Nat) (x4 : Int32), K23 S x1 x2 x3 x4 → ∀ (H : Heap) (locs : List Loc), mH g S s H locs → ∀ ls : Array Slot, lv_has ls 9 [(0, .ref b), (1, .ref x1), (2, .ref x2), (3, .ref x3), (4, .int x4)] → W p l e room_1 s m args below meth c H locs (20 + (k + 1) * 7 + 0) (663 + (k + 1) * 275 + 0) Qf (F0 m 23 ls [])) : ∀ (S : mmS) (x1 : Nat) (x2 : Nat) (x3 : Nat) (x4 : Int32), bk_L_law_708 g.2.2.2.2.2 L xs K23 S x1 x2 x3 x4 → ∀ (H : Heap) (locs : List Loc), mH g S s H locs → ∀ ls : Array Slot, lv_has ls 9 [(0, .ref b), (1, .ref x1), (2, .ref x2), (3, .ref x3), (4, .int x4)] → W p l e room_1 s m args below meth c H locs (20 + k * 7 + 2) (663 + k * 275 + 12) Qf (F0 m 708 ls []) := by
  intro S x1 x2 x3 x4 hw H locs hH ls hl
  unfold bk_L_law_708 at hw
  refine lv_goto (tgt := 1667) hC.1 hC.2.1 dL_law_708 (by decide) ?_
  refine W.widen (k := (20 + k * 7 + 7)) (n := (663 + k * 275 + 275)) (lwe (Nat.le_of_ble_eq_true rfl)) (lwe (Nat.le_of_ble_eq_true rfl)) ?_
  exact bw_L_law_1667 hl0 hC hs hbX hbl hbA hend hk hk23 _ _ _ _ _ hw _ _ hH _ (lv_sub hl [0, 1, 2, 3, 4] rfl)
set_option maxHeartbeats 4000000 in
set_option maxRecDepth 100000 in
theorem bw_L_law_640 {p : Program} {l : Launch} {e : Env} {s : State} {m : MethodId} {args : Array Value} {below : List Frame} {meth : Method} {c : Code} {g : mG} {Qf : State → Prop} {b L : Nat} {xs : Nat → Int32} (hl0 : l.stackTraces = false) (hC : CallFix p m c cL_law 9 s args (Cond.tt :: wsL_law) RL) (hs : mX g s) (hbX : va_X b L xs s s.heap) (hbl : b < s.heap.size) (hbA : ¬ mB g b) (hend : ∀ (H : Heap) (locs : List Loc) (ls : Array Slot), (∀ q ∈ locs, mB g q.base) → W p l e room_1 s m args below meth c H locs 601024 7293034 Qf (F0 m 1674 ls [.int 1])) {k : Nat} (hk : k ≤ 512) {K23 : mmS → Nat → Nat → Nat → Int32 → Prop} (hk23 : ∀ (S : mmS) (x1 : Nat) (x2 : Nat) (x3 : Nat) (x4 : Int32), K23 S x1 x2 x3 x4 → ∀ (H : Heap) (locs : List Loc), mH g S s H locs → ∀ ls : Array Slot, lv_has ls 9 [(0, .ref b), (1, .ref x1), (2, .ref x2), (3, .ref x3), (4, .int x4)] → W p l e room_1 s m args below meth c H locs (20 + (k + 1) * 7 + 0) (663 + (k + 1) * 275 + 0) Qf (F0 m 23 ls [])) : ∀ (S : mmS) (x1 : Nat) (x2 : Nat) (x3 : Nat) (x4 : Int32), bk_L_law_640 g.2.2.2.2.2 L xs K23 S x1 x2 x3 x4 → ∀ (H : Heap) (locs : List Loc), mH g S s H locs → ∀ ls : Array Slot, lv_has ls 9 [(0, .ref b), (1, .ref x1), (2, .ref x2), (3, .ref x3), (4, .int x4)] → W p l e room_1 s m args below meth c H locs (20 + k * 7 + 2) (663 + k * 275 + 12) Qf (F0 m 640 ls []) := by
  intro S x1 x2 x3 x4 hw H locs hH ls hl
  unfold bk_L_law_640 at hw
  refine lv_goto (tgt := 1667) hC.1 hC.2.1 dL_law_640 (by decide) ?_
  refine W.widen (k := (20 + k * 7 + 7)) (n := (663 + k * 275 + 275)) (lwe (Nat.le_of_ble_eq_true rfl)) (lwe (Nat.le_of_ble_eq_true rfl)) ?_
  exact bw_L_law_1667 hl0 hC hs hbX hbl hbA hend hk hk23 _ _ _ _ _ hw _ _ hH _ (lv_sub hl [0, 1, 2, 3, 4] rfl)
set_option maxHeartbeats 4000000 in
set_option maxRecDepth 100000 in
theorem bw_L_law_572 {p : Program} {l : Launch} {e : Env} {s : State} {m : MethodId} {args : Array Value} {below : List Frame} {meth : Method} {c : Code} {g : mG} {Qf : State → Prop} {b L : Nat} {xs : Nat → Int32} (hl0 : l.stackTraces = false) (hC : CallFix p m c cL_law 9 s args (Cond.tt :: wsL_law) RL) (hs : mX g s) (hbX : va_X b L xs s s.heap) (hbl : b < s.heap.size) (hbA : ¬ mB g b) (hend : ∀ (H : Heap) (locs : List Loc) (ls : Array Slot), (∀ q ∈ locs, mB g q.base) → W p l e room_1 s m args below meth c H locs 601024 7293034 Qf (F0 m 1674 ls [.int 1])) {k : Nat} (hk : k ≤ 512) {K23 : mmS → Nat → Nat → Nat → Int32 → Prop} (hk23 : ∀ (S : mmS) (x1 : Nat) (x2 : Nat) (x3 : Nat) (x4 : Int32), K23 S x1 x2 x3 x4 → ∀ (H : Heap) (locs : List Loc), mH g S s H locs → ∀ ls : Array Slot, lv_has ls 9 [(0, .ref b), (1, .ref x1), (2, .ref x2), (3, .ref x3), (4, .int x4)] → W p l e room_1 s m args below meth c H locs (20 + (k + 1) * 7 + 0) (663 + (k + 1) * 275 + 0) Qf (F0 m 23 ls [])) : ∀ (S : mmS) (x1 : Nat) (x2 : Nat) (x3 : Nat) (x4 : Int32), bk_L_law_572 g.2.2.2.2.2 L xs K23 S x1 x2 x3 x4 → ∀ (H : Heap) (locs : List Loc), mH g S s H locs → ∀ ls : Array Slot, lv_has ls 9 [(0, .ref b), (1, .ref x1), (2, .ref x2), (3, .ref x3), (4, .int x4)] → W p l e room_1 s m args below meth c H locs (20 + k * 7 + 7) (663 + k * 275 + 155) Qf (F0 m 572 ls []) := by
  intro S x1 x2 x3 x4 hw H locs hH ls hl
  unfold bk_L_law_572 at hw
  refine lv_goto (tgt := 1667) hC.1 hC.2.1 dL_law_572 (by decide) ?_
  refine W.widen (k := (20 + k * 7 + 7)) (n := (663 + k * 275 + 275)) (lwe (Nat.le_of_ble_eq_true rfl)) (lwe (Nat.le_of_ble_eq_true rfl)) ?_
  exact bw_L_law_1667 hl0 hC hs hbX hbl hbA hend hk hk23 _ _ _ _ _ hw _ _ hH _ (lv_sub hl [0, 1, 2, 3, 4] rfl)
set_option maxHeartbeats 4000000 in
set_option maxRecDepth 100000 in
theorem bw_L_law_504 {p : Program} {l : Launch} {e : Env} {s : State} {m : MethodId} {args : Array Value} {below : List Frame} {meth : Method} {c : Code} {g : mG} {Qf : State → Prop} {b L : Nat} {xs : Nat → Int32} (hl0 : l.stackTraces = false) (hC : CallFix p m c cL_law 9 s args (Cond.tt :: wsL_law) RL) (hs : mX g s) (hbX : va_X b L xs s s.heap) (hbl : b < s.heap.size) (hbA : ¬ mB g b) (hend : ∀ (H : Heap) (locs : List Loc) (ls : Array Slot), (∀ q ∈ locs, mB g q.base) → W p l e room_1 s m args below meth c H locs 601024 7293034 Qf (F0 m 1674 ls [.int 1])) {k : Nat} (hk : k ≤ 512) {K23 : mmS → Nat → Nat → Nat → Int32 → Prop} (hk23 : ∀ (S : mmS) (x1 : Nat) (x2 : Nat) (x3 : Nat) (x4 : Int32), K23 S x1 x2 x3 x4 → ∀ (H : Heap) (locs : List Loc), mH g S s H locs → ∀ ls : Array Slot, lv_has ls 9 [(0, .ref b), (1, .ref x1), (2, .ref x2), (3, .ref x3), (4, .int x4)] → W p l e room_1 s m args below meth c H locs (20 + (k + 1) * 7 + 0) (663 + (k + 1) * 275 + 0) Qf (F0 m 23 ls [])) : ∀ (S : mmS) (x1 : Nat) (x2 : Nat) (x3 : Nat) (x4 : Int32), bk_L_law_504 g.2.2.2.2.2 L xs K23 S x1 x2 x3 x4 → ∀ (H : Heap) (locs : List Loc), mH g S s H locs → ∀ ls : Array Slot, lv_has ls 9 [(0, .ref b), (1, .ref x1), (2, .ref x2), (3, .ref x3), (4, .int x4)] → W p l e room_1 s m args below meth c H locs (20 + k * 7 + 3) (663 + k * 275 + 140) Qf (F0 m 504 ls []) := by
  intro S x1 x2 x3 x4 hw H locs hH ls hl
  unfold bk_L_law_504 at hw
  refine lv_goto (tgt := 1667) hC.1 hC.2.1 dL_law_504 (by decide) ?_
  refine W.widen (k := (20 + k * 7 + 7)) (n := (663 + k * 275 + 275)) (lwe (Nat.le_of_ble_eq_true rfl)) (lwe (Nat.le_of_ble_eq_true rfl)) ?_
  exact bw_L_law_1667 hl0 hC hs hbX hbl hbA hend hk hk23 _ _ _ _ _ hw _ _ hH _ (lv_sub hl [0, 1, 2, 3, 4] rfl)
set_option maxHeartbeats 4000000 in
set_option maxRecDepth 100000 in
theorem bw_L_law_424 {p : Program} {l : Launch} {e : Env} {s : State} {m : MethodId} {args : Array Value} {below : List Frame} {meth : Method} {c : Code} {g : mG} {Qf : State → Prop} {b L : Nat} {xs : Nat → Int32} (hl0 : l.stackTraces = false) (hC : CallFix p m c cL_law 9 s args (Cond.tt :: wsL_law) RL) (hs : mX g s) (hbX : va_X b L xs s s.heap) (hbl : b < s.heap.size) (hbA : ¬ mB g b) (hend : ∀ (H : Heap) (locs : List Loc) (ls : Array Slot), (∀ q ∈ locs, mB g q.base) → W p l e room_1 s m args below meth c H locs 601024 7293034 Qf (F0 m 1674 ls [.int 1])) {k : Nat} (hk : k ≤ 512) {K23 : mmS → Nat → Nat → Nat → Int32 → Prop} (hk23 : ∀ (S : mmS) (x1 : Nat) (x2 : Nat) (x3 : Nat) (x4 : Int32), K23 S x1 x2 x3 x4 → ∀ (H : Heap) (locs : List Loc), mH g S s H locs → ∀ ls : Array Slot, lv_has ls 9 [(0, .ref b), (1, .ref x1), (2, .ref x2), (3, .ref x3), (4, .int x4)] → W p l e room_1 s m args below meth c H locs (20 + (k + 1) * 7 + 0) (663 + (k + 1) * 275 + 0) Qf (F0 m 23 ls [])) : ∀ (S : mmS) (x1 : Nat) (x2 : Nat) (x3 : Nat) (x4 : Int32), bk_L_law_424 g.2.2.2.2.2 L xs K23 S x1 x2 x3 x4 → ∀ (H : Heap) (locs : List Loc), mH g S s H locs → ∀ ls : Array Slot, lv_has ls 9 [(0, .ref b), (1, .ref x1), (2, .ref x2), (3, .ref x3), (4, .int x4)] → W p l e room_1 s m args below meth c H locs (20 + k * 7 + 1) (663 + k * 275 + 6) Qf (F0 m 424 ls []) := by
  intro S x1 x2 x3 x4 hw H locs hH ls hl
  unfold bk_L_law_424 at hw
  refine lv_goto (tgt := 1667) hC.1 hC.2.1 dL_law_424 (by decide) ?_
  refine W.widen (k := (20 + k * 7 + 7)) (n := (663 + k * 275 + 275)) (lwe (Nat.le_of_ble_eq_true rfl)) (lwe (Nat.le_of_ble_eq_true rfl)) ?_
  exact bw_L_law_1667 hl0 hC hs hbX hbl hbA hend hk hk23 _ _ _ _ _ hw _ _ hH _ (lv_sub hl [0, 1, 2, 3, 4] rfl)
set_option maxHeartbeats 4000000 in
set_option maxRecDepth 100000 in
theorem bw_L_law_418 {p : Program} {l : Launch} {e : Env} {s : State} {m : MethodId} {args : Array Value} {below : List Frame} {meth : Method} {c : Code} {g : mG} {Qf : State → Prop} {b L : Nat} {xs : Nat → Int32} (hl0 : l.stackTraces = false) (hC : CallFix p m c cL_law 9 s args (Cond.tt :: wsL_law) RL) (hs : mX g s) (hbX : va_X b L xs s s.heap) (hbl : b < s.heap.size) (hbA : ¬ mB g b) (hend : ∀ (H : Heap) (locs : List Loc) (ls : Array Slot), (∀ q ∈ locs, mB g q.base) → W p l e room_1 s m args below meth c H locs 601024 7293034 Qf (F0 m 1674 ls [.int 1])) {k : Nat} (hk : k ≤ 512) {K23 : mmS → Nat → Nat → Nat → Int32 → Prop} (hk23 : ∀ (S : mmS) (x1 : Nat) (x2 : Nat) (x3 : Nat) (x4 : Int32), K23 S x1 x2 x3 x4 → ∀ (H : Heap) (locs : List Loc), mH g S s H locs → ∀ ls : Array Slot, lv_has ls 9 [(0, .ref b), (1, .ref x1), (2, .ref x2), (3, .ref x3), (4, .int x4)] → W p l e room_1 s m args below meth c H locs (20 + (k + 1) * 7 + 0) (663 + (k + 1) * 275 + 0) Qf (F0 m 23 ls [])) : ∀ (S : mmS) (x1 : Nat) (x2 : Nat) (x3 : Nat) (x4 : Int32) (t0 : Int64) (t1 : Int64), bk_L_law_418 g.2.2.2.2.2 L xs K23 S x1 x2 x3 x4 t0 t1 → ∀ (H : Heap) (locs : List Loc), mH g S s H locs → ∀ ls : Array Slot, lv_has ls 9 [(0, .ref b), (1, .ref x1), (2, .ref x2), (3, .ref x3), (4, .int x4)] → W p l e room_1 s m args below meth c H locs (20 + k * 7 + 1) (663 + k * 275 + 6) Qf (F0 m 418 ls [.long t1, .long t0]) := by
  intro S x1 x2 x3 x4 t0 t1 hw H locs hH ls hl
  unfold bk_L_law_418 at hw
  refine W.lcmp hC.1 hC.2.1 dL_law_418 ?_
  refine lv_if_eq (tgt := 424) hC.1 hC.2.1 dL_law_419 (by decide) (fun hc => ?_) (fun hc => ?_)
  · have hw := hw.1 hc
    refine W.widen (k := (20 + k * 7 + 1)) (n := (663 + k * 275 + 6)) (lwe (Nat.le_of_ble_eq_true rfl)) (lwe (Nat.le_of_ble_eq_true rfl)) ?_
    exact bw_L_law_424 hl0 hC hs hbX hbl hbA hend hk hk23 _ _ _ _ _ hw _ _ hH _ (lv_sub hl [0, 1, 2, 3, 4] rfl)
  · have hw := hw.2 hc
    refine lv_iconst (v := 0) hC.1 hC.2.1 dL_law_422 (by decide) ?_
    exact False.elim hw
set_option maxHeartbeats 4000000 in
set_option maxRecDepth 100000 in
theorem bw_L_law_349 {p : Program} {l : Launch} {e : Env} {s : State} {m : MethodId} {args : Array Value} {below : List Frame} {meth : Method} {c : Code} {g : mG} {Qf : State → Prop} {b L : Nat} {xs : Nat → Int32} (hl0 : l.stackTraces = false) (hC : CallFix p m c cL_law 9 s args (Cond.tt :: wsL_law) RL) (hs : mX g s) (hbX : va_X b L xs s s.heap) (hbl : b < s.heap.size) (hbA : ¬ mB g b) (hend : ∀ (H : Heap) (locs : List Loc) (ls : Array Slot), (∀ q ∈ locs, mB g q.base) → W p l e room_1 s m args below meth c H locs 601024 7293034 Qf (F0 m 1674 ls [.int 1])) {k : Nat} (hk : k ≤ 512) {K23 : mmS → Nat → Nat → Nat → Int32 → Prop} (hk23 : ∀ (S : mmS) (x1 : Nat) (x2 : Nat) (x3 : Nat) (x4 : Int32), K23 S x1 x2 x3 x4 → ∀ (H : Heap) (locs : List Loc), mH g S s H locs → ∀ ls : Array Slot, lv_has ls 9 [(0, .ref b), (1, .ref x1), (2, .ref x2), (3, .ref x3), (4, .int x4)] → W p l e room_1 s m args below meth c H locs (20 + (k + 1) * 7 + 0) (663 + (k + 1) * 275 + 0) Qf (F0 m 23 ls [])) : ∀ (S : mmS) (x1 : Nat) (x2 : Nat) (x3 : Nat) (x4 : Int32), bk_L_law_349 g.2.2.2.2.2 L xs K23 S x1 x2 x3 x4 → ∀ (H : Heap) (locs : List Loc), mH g S s H locs → ∀ ls : Array Slot, lv_has ls 9 [(0, .ref b), (1, .ref x1), (2, .ref x2), (3, .ref x3), (4, .int x4)] → W p l e room_1 s m args below meth c H locs (20 + k * 7 + 3) (663 + k * 275 + 18) Qf (F0 m 349 ls []) := by
  intro S x1 x2 x3 x4 hw H locs hH ls hl
  unfold bk_L_law_349 at hw
  refine lv_goto (tgt := 1667) hC.1 hC.2.1 dL_law_349 (by decide) ?_
  refine W.widen (k := (20 + k * 7 + 7)) (n := (663 + k * 275 + 275)) (lwe (Nat.le_of_ble_eq_true rfl)) (lwe (Nat.le_of_ble_eq_true rfl)) ?_
  exact bw_L_law_1667 hl0 hC hs hbX hbl hbA hend hk hk23 _ _ _ _ _ hw _ _ hH _ (lv_sub hl [0, 1, 2, 3, 4] rfl)
set_option maxHeartbeats 4000000 in
set_option maxRecDepth 100000 in
theorem bw_L_law_257 {p : Program} {l : Launch} {e : Env} {s : State} {m : MethodId} {args : Array Value} {below : List Frame} {meth : Method} {c : Code} {g : mG} {Qf : State → Prop} {b L : Nat} {xs : Nat → Int32} (hl0 : l.stackTraces = false) (hC : CallFix p m c cL_law 9 s args (Cond.tt :: wsL_law) RL) (hs : mX g s) (hbX : va_X b L xs s s.heap) (hbl : b < s.heap.size) (hbA : ¬ mB g b) (hend : ∀ (H : Heap) (locs : List Loc) (ls : Array Slot), (∀ q ∈ locs, mB g q.base) → W p l e room_1 s m args below meth c H locs 601024 7293034 Qf (F0 m 1674 ls [.int 1])) {k : Nat} (hk : k ≤ 512) {K23 : mmS → Nat → Nat → Nat → Int32 → Prop} (hk23 : ∀ (S : mmS) (x1 : Nat) (x2 : Nat) (x3 : Nat) (x4 : Int32), K23 S x1 x2 x3 x4 → ∀ (H : Heap) (locs : List Loc), mH g S s H locs → ∀ ls : Array Slot, lv_has ls 9 [(0, .ref b), (1, .ref x1), (2, .ref x2), (3, .ref x3), (4, .int x4)] → W p l e room_1 s m args below meth c H locs (20 + (k + 1) * 7 + 0) (663 + (k + 1) * 275 + 0) Qf (F0 m 23 ls [])) : ∀ (S : mmS) (x1 : Nat) (x2 : Nat) (x3 : Nat) (x4 : Int32), bk_L_law_257 g.2.2.2.2.2 L xs K23 S x1 x2 x3 x4 → ∀ (H : Heap) (locs : List Loc), mH g S s H locs → ∀ ls : Array Slot, lv_has ls 9 [(0, .ref b), (1, .ref x1), (2, .ref x2), (3, .ref x3), (4, .int x4)] → W p l e room_1 s m args below meth c H locs (20 + k * 7 + 5) (663 + k * 275 + 151) Qf (F0 m 257 ls []) := by
  intro S x1 x2 x3 x4 hw H locs hH ls hl
  unfold bk_L_law_257 at hw
  refine lv_goto (tgt := 1667) hC.1 hC.2.1 dL_law_257 (by decide) ?_
  refine W.widen (k := (20 + k * 7 + 7)) (n := (663 + k * 275 + 275)) (lwe (Nat.le_of_ble_eq_true rfl)) (lwe (Nat.le_of_ble_eq_true rfl)) ?_
  exact bw_L_law_1667 hl0 hC hs hbX hbl hbA hend hk hk23 _ _ _ _ _ hw _ _ hH _ (lv_sub hl [0, 1, 2, 3, 4] rfl)
set_option maxHeartbeats 4000000 in
set_option maxRecDepth 100000 in
theorem bw_L_law_23 {p : Program} {l : Launch} {e : Env} {s : State} {m : MethodId} {args : Array Value} {below : List Frame} {meth : Method} {c : Code} {g : mG} {Qf : State → Prop} {b L : Nat} {xs : Nat → Int32} (hl0 : l.stackTraces = false) (hC : CallFix p m c cL_law 9 s args (Cond.tt :: wsL_law) RL) (hs : mX g s) (hbX : va_X b L xs s s.heap) (hbl : b < s.heap.size) (hbA : ¬ mB g b) (hend : ∀ (H : Heap) (locs : List Loc) (ls : Array Slot), (∀ q ∈ locs, mB g q.base) → W p l e room_1 s m args below meth c H locs 601024 7293034 Qf (F0 m 1674 ls [.int 1])) {k : Nat} (hk : k ≤ 512) {K23 : mmS → Nat → Nat → Nat → Int32 → Prop} (hk23 : ∀ (S : mmS) (x1 : Nat) (x2 : Nat) (x3 : Nat) (x4 : Int32), K23 S x1 x2 x3 x4 → ∀ (H : Heap) (locs : List Loc), mH g S s H locs → ∀ ls : Array Slot, lv_has ls 9 [(0, .ref b), (1, .ref x1), (2, .ref x2), (3, .ref x3), (4, .int x4)] → W p l e room_1 s m args below meth c H locs (20 + (k + 1) * 7 + 0) (663 + (k + 1) * 275 + 0) Qf (F0 m 23 ls [])) : ∀ (S : mmS) (x1 : Nat) (x2 : Nat) (x3 : Nat) (x4 : Int32), bk_L_law_23 g.2.2.2.2.2 L xs K23 S x1 x2 x3 x4 → ∀ (H : Heap) (locs : List Loc), mH g S s H locs → ∀ ls : Array Slot, lv_has ls 9 [(0, .ref b), (1, .ref x1), (2, .ref x2), (3, .ref x3), (4, .int x4)] → W p l e room_1 s m args below meth c H locs (20 + k * 7 + 0) (663 + k * 275 + 0) Qf (F0 m 23 ls []) := by
  intro S x1 x2 x3 x4 hw H locs hH ls hl
  unfold bk_L_law_23 at hw
  refine lv_iload hC.1 hC.2.1 dL_law_23 (lv_at hl 4 rfl) ?_
  refine lv_aload_n hC.1 hC.2.1 dL_law_25 rfl (lv_at hl 0 rfl) ?_
  refine va_slen (A := mB g) hC.1 hC.2.1 hbX hbl hbA hH.2.2 dL_law_26 ?_
  refine lv_bipush (v := 6) hC.1 hC.2.1 dL_law_27 (by decide) ?_
  refine lv_isub hC.1 hC.2.1 dL_law_29 ?_
  refine lv_icmp_gt (tgt := 1673) hC.1 hC.2.1 dL_law_30 (by decide) (fun hc => ?_) (fun hc => ?_)
  · have hw := hw.1 hc
    refine lv_iconst (v := 1) hC.1 hC.2.1 dL_law_1673 (by decide) ?_
    refine W.widen (k := 601024) (n := 7293034) (lwq hk (Nat.le_of_ble_eq_true rfl)) (lwq hk (Nat.le_of_ble_eq_true rfl)) ?_
    exact hend _ _ _ hH.2.2.2.2
  · have hw := hw.2 hc
    refine lv_aload_n hC.1 hC.2.1 dL_law_33 rfl (lv_at hl 0 rfl) ?_
    refine lv_iload hC.1 hC.2.1 dL_law_34 (lv_at hl 4 rfl) ?_
    obtain ⟨i1, hw⟩ := hw
    refine va_sld (A := mB g) hC.1 hC.2.1 hbX hbl hbA hH.2.2 i1 dL_law_36 ?_
    refine lv_bipush (v := 31) hC.1 hC.2.1 dL_law_37 (by decide) ?_
    refine lv_iand hC.1 hC.2.1 dL_law_39 ?_
    refine m_switch hC dL_law_40 (fun hc => ?_) (fun hc1 hc2 => ?_)
    · have hw := hw.1 hc
      refine lv_tableOut (tgt := 1667) hC.1 hC.2.1 dL_law_40 hc (by decide) ?_
      refine W.widen (k := (20 + k * 7 + 7)) (n := (663 + k * 275 + 275)) (lwe (Nat.le_of_ble_eq_true rfl)) (lwe (Nat.le_of_ble_eq_true rfl)) ?_
      exact bw_L_law_1667 hl0 hC hs hbX hbl hbA hend hk hk23 _ _ _ _ _ hw _ _ hH _ (lv_sub hl [0, 1, 2, 3, 4] rfl)
    · have hw := hw.2
      have hj : Int32.toInt _ = 0 ∨ Int32.toInt _ = 1 ∨ Int32.toInt _ = 2 ∨ Int32.toInt _ = 3 ∨ Int32.toInt _ = 4 ∨ Int32.toInt _ = 5 ∨ Int32.toInt _ = 6 ∨ Int32.toInt _ = 7 ∨ Int32.toInt _ = 8 ∨ Int32.toInt _ = 9 ∨ Int32.toInt _ = 10 ∨ Int32.toInt _ = 11 ∨ Int32.toInt _ = 12 ∨ Int32.toInt _ = 13 ∨ Int32.toInt _ = 14 ∨ Int32.toInt _ = 15 ∨ Int32.toInt _ = 16 ∨ Int32.toInt _ = 17 ∨ Int32.toInt _ = 18 ∨ Int32.toInt _ = 19 ∨ Int32.toInt _ = 20 ∨ Int32.toInt _ = 21 ∨ Int32.toInt _ = 22 ∨ Int32.toInt _ = 23 ∨ Int32.toInt _ = 24 := m_cases25 hc1 hc2
      rcases hj with hj | hj | hj | hj | hj | hj | hj | hj | hj | hj | hj | hj | hj | hj | hj | hj | hj | hj | hj | hj | hj | hj | hj | hj | hj
      · have hw := hw.1 hj
        refine lv_tableIn (off := 116) (tgt := 156) hC.1 hC.2.1 dL_law_40 (by rw [hj]; decide) (by rw [hj]; decide) (by rw [hj]; decide) (by decide) ?_
        refine lv_aload_n hC.1 hC.2.1 dL_law_156 rfl (lv_at hl 1 rfl) ?_
        refine lv_aload_n hC.1 hC.2.1 dL_law_157 rfl (lv_at hl 0 rfl) ?_
        refine lv_iload hC.1 hC.2.1 dL_law_158 (lv_at hl 4 rfl) ?_
        refine lv_iconst (v := 1) hC.1 hC.2.1 dL_law_160 (by decide) ?_
        refine lv_iadd hC.1 hC.2.1 dL_law_161 ?_
        obtain ⟨i2, hw⟩ := hw
        refine va_sld (A := mB g) hC.1 hC.2.1 hbX hbl hbA hH.2.2 i2 dL_law_162 ?_
        refine lv_aload_n hC.1 hC.2.1 dL_law_163 rfl (lv_at hl 0 rfl) ?_
        refine lv_iload hC.1 hC.2.1 dL_law_164 (lv_at hl 4 rfl) ?_
        refine lv_iconst (v := 2) hC.1 hC.2.1 dL_law_166 (by decide) ?_
        refine lv_iadd hC.1 hC.2.1 dL_law_167 ?_
        obtain ⟨i3, hw⟩ := hw
        refine va_sld (A := mB g) hC.1 hC.2.1 hbX hbl hbA hH.2.2 i3 dL_law_168 ?_
        refine lv_aload_n hC.1 hC.2.1 dL_law_169 rfl (lv_at hl 0 rfl) ?_
        refine lv_iload hC.1 hC.2.1 dL_law_170 (lv_at hl 4 rfl) ?_
        refine lv_iconst (v := 3) hC.1 hC.2.1 dL_law_172 (by decide) ?_
        refine lv_iadd hC.1 hC.2.1 dL_law_173 ?_
        obtain ⟨i4, hw⟩ := hw
        refine va_sld (A := mB g) hC.1 hC.2.1 hbX hbl hbA hH.2.2 i4 dL_law_174 ?_
        refine lv_aload_n hC.1 hC.2.1 dL_law_175 rfl (lv_at hl 0 rfl) ?_
        refine lv_iload hC.1 hC.2.1 dL_law_176 (lv_at hl 4 rfl) ?_
        refine lv_iconst (v := 4) hC.1 hC.2.1 dL_law_178 (by decide) ?_
        refine lv_iadd hC.1 hC.2.1 dL_law_179 ?_
        obtain ⟨i5, hw⟩ := hw
        refine va_sld (A := mB g) hC.1 hC.2.1 hbX hbl hbA hH.2.2 i5 dL_law_180 ?_
        refine lv_aload_n hC.1 hC.2.1 dL_law_181 rfl (lv_at hl 0 rfl) ?_
        refine lv_iload hC.1 hC.2.1 dL_law_182 (lv_at hl 4 rfl) ?_
        refine lv_iconst (v := 5) hC.1 hC.2.1 dL_law_184 (by decide) ?_
        refine lv_iadd hC.1 hC.2.1 dL_law_185 ?_
        obtain ⟨i6, hw⟩ := hw
        refine va_sld (A := mB g) hC.1 hC.2.1 hbX hbl hbA hH.2.2 i6 dL_law_186 ?_
        refine lv_aload_n hC.1 hC.2.1 dL_law_187 rfl (lv_at hl 3 rfl) ?_
        refine m_callXi (y := yL_addTariff) (rest := []) hC hs hH hl.1 (vx_cwSW 7 hC.2.2.2.2 (gA_SW q_57 q_58 q_59 q_60) rfl rfl rfl (by decide +kernel) ⟨Nat.le_of_ble_eq_true rfl, Nat.le_of_ble_eq_true rfl⟩) (met_L_addTariff l hl0 g _ _ _ _ _ _ _ _ _ _ hw) rfl rfl (Nat.le_of_ble_eq_true rfl) dL_law_188 ⟨lwr hk (Nat.le_of_ble_eq_true rfl), lwr hk (Nat.le_of_ble_eq_true rfl)⟩ mKx_no (fun r8 S1 H locs hw hH => ?_)
        refine W.widen (k := (20 + k * 7 + 4)) (n := (663 + k * 275 + 142)) (lww (Nat.le_of_ble_eq_true rfl)) (lww (Nat.le_of_ble_eq_true rfl)) ?_
        refine lv_istore (lv' := [(5, .int _), (0, .ref _), (1, .ref _), (2, .ref _), (3, .ref _), (4, .int _)]) hC.1 hC.2.1 dL_law_191 hl (by decide) rfl (fun ls hl => ?_)
        refine lv_aload_n hC.1 hC.2.1 dL_law_193 rfl (lv_at hl 3 rfl) ?_
        refine lv_aload_n hC.1 hC.2.1 dL_law_194 rfl (lv_at hl 1 rfl) ?_
        refine lv_iload hC.1 hC.2.1 dL_law_195 (lv_at hl 5 rfl) ?_
        refine lv_iconst (v := 1) hC.1 hC.2.1 dL_law_197 (by decide) ?_
        refine lv_iadd hC.1 hC.2.1 dL_law_198 ?_
        obtain ⟨i9, hw⟩ := hw
        refine va_sld (A := mB g) hC.1 hC.2.1 hbX hbl hbA hH.2.2 i9 dL_law_199 ?_
        refine lv_aload_n hC.1 hC.2.1 dL_law_200 rfl (lv_at hl 1 rfl) ?_
        refine lv_iload hC.1 hC.2.1 dL_law_201 (lv_at hl 5 rfl) ?_
        refine lv_iconst (v := 2) hC.1 hC.2.1 dL_law_203 (by decide) ?_
        refine lv_iadd hC.1 hC.2.1 dL_law_204 ?_
        obtain ⟨i10, hw⟩ := hw
        refine va_sld (A := mB g) hC.1 hC.2.1 hbX hbl hbA hH.2.2 i10 dL_law_205 ?_
        refine lv_aload_n hC.1 hC.2.1 dL_law_206 rfl (lv_at hl 1 rfl) ?_
        refine lv_iload hC.1 hC.2.1 dL_law_207 (lv_at hl 5 rfl) ?_
        refine lv_iconst (v := 3) hC.1 hC.2.1 dL_law_209 (by decide) ?_
        refine lv_iadd hC.1 hC.2.1 dL_law_210 ?_
        obtain ⟨i11, hw⟩ := hw
        refine va_sld (A := mB g) hC.1 hC.2.1 hbX hbl hbA hH.2.2 i11 dL_law_211 ?_
        refine lv_aload_n hC.1 hC.2.1 dL_law_212 rfl (lv_at hl 1 rfl) ?_
        refine lv_iload hC.1 hC.2.1 dL_law_213 (lv_at hl 5 rfl) ?_
        refine lv_iconst (v := 4) hC.1 hC.2.1 dL_law_215 (by decide) ?_
        refine lv_iadd hC.1 hC.2.1 dL_law_216 ?_
        obtain ⟨i12, hw⟩ := hw
        refine va_sld (A := mB g) hC.1 hC.2.1 hbX hbl hbA hH.2.2 i12 dL_law_217 ?_
        refine lv_aload_n hC.1 hC.2.1 dL_law_218 rfl (lv_at hl 1 rfl) ?_
        refine lv_iload hC.1 hC.2.1 dL_law_219 (lv_at hl 5 rfl) ?_
        refine lv_iconst (v := 5) hC.1 hC.2.1 dL_law_221 (by decide) ?_
        refine lv_iadd hC.1 hC.2.1 dL_law_222 ?_
        obtain ⟨i13, hw⟩ := hw
        refine va_sld (A := mB g) hC.1 hC.2.1 hbX hbl hbA hH.2.2 i13 dL_law_223 ?_
        obtain ⟨k15, hw⟩ := hw
        refine m_callVi (y := yX5_addTariff) (rest := []) hC hs hH hl.1 (cwV 5 hC.2.2.2.2 (gA_V q_149 q_150 q_151 q_5 q_152) rfl rfl rfl (by decide +kernel) ⟨Nat.le_of_ble_eq_true rfl, Nat.le_of_ble_eq_true rfl⟩) cs5 k15 (met_X5_addTariff l hl0 g _ _ _ _ _ _ _ _ _ hw) rfl rfl (Nat.le_of_ble_eq_true rfl) dL_law_224 ⟨lwr hk (Nat.le_of_ble_eq_true rfl), lwr hk (Nat.le_of_ble_eq_true rfl)⟩ mKx_no (fun r16 S1 H locs hw hH => ?_)
        refine W.widen (k := (20 + k * 7 + 5)) (n := (663 + k * 275 + 151)) (lww (Nat.le_of_ble_eq_true rfl)) (lww (Nat.le_of_ble_eq_true rfl)) ?_
        refine lv_istore (lv' := [(6, .int _), (5, .int _), (0, .ref _), (1, .ref _), (2, .ref _), (3, .ref _), (4, .int _)]) hC.1 hC.2.1 dL_law_227 hl (by decide) rfl (fun ls hl => ?_)
        refine lv_aload_n hC.1 hC.2.1 dL_law_229 rfl (lv_at hl 4 rfl) ?_
        obtain ⟨k18, hw⟩ := hw
        refine m_callVi (y := yX5_thrown) (rest := []) hC hs hH hl.1 (cwV 0 hC.2.2.2.2 (gA_V q_163 q_164 q_165 q_5 q_166) rfl rfl rfl (by decide +kernel) ⟨Nat.le_of_ble_eq_true rfl, Nat.le_of_ble_eq_true rfl⟩) cs5 k18 (met_X5_thrown l hl0 g _ _ _ _ hw) rfl rfl (Nat.le_of_ble_eq_true rfl) dL_law_230 ⟨lwr hk (Nat.le_of_ble_eq_true rfl), lwr hk (Nat.le_of_ble_eq_true rfl)⟩ mKx_no (fun r19 S1 H locs hw hH => ?_)
        refine W.widen (k := (20 + k * 7 + 5)) (n := (663 + k * 275 + 151)) (lww (Nat.le_of_ble_eq_true rfl)) (lww (Nat.le_of_ble_eq_true rfl)) ?_
        refine lv_iload hC.1 hC.2.1 dL_law_233 (lv_at hl 1 rfl) ?_
        refine lv_icmp_eq (tgt := 240) hC.1 hC.2.1 dL_law_235 (by decide) (fun hc => ?_) (fun hc => ?_)
        · have hw := hw.1 hc
          refine lv_iload hC.1 hC.2.1 dL_law_240 (lv_at hl 1 rfl) ?_
          refine lv_if_ne (tgt := 257) hC.1 hC.2.1 dL_law_242 (by decide) (fun hc => ?_) (fun hc => ?_)
          · have hw := hw.1 hc
            refine W.widen (k := (20 + k * 7 + 5)) (n := (663 + k * 275 + 151)) (lwe (Nat.le_of_ble_eq_true rfl)) (lwe (Nat.le_of_ble_eq_true rfl)) ?_
            exact bw_L_law_257 hl0 hC hs hbX hbl hbA hend hk hk23 _ _ _ _ _ hw _ _ hH _ (lv_sub hl [2, 3, 4, 5, 6] rfl)
          · have hw := hw.2 hc
            refine lv_aload_n hC.1 hC.2.1 dL_law_245 rfl (lv_at hl 5 rfl) ?_
            refine lv_iconst (v := 0) hC.1 hC.2.1 dL_law_246 (by decide) ?_
            obtain ⟨k20, hw⟩ := hw
            obtain ⟨i21, hw⟩ := hw
            refine m_jald hC hs hH k20 i21 dL_law_247 ?_
            refine lv_iload hC.1 hC.2.1 dL_law_248 (lv_at hl 0 rfl) ?_
            refine lv_i2l hC.1 hC.2.1 dL_law_250 rfl ?_
            refine W.lcmp hC.1 hC.2.1 dL_law_251 ?_
            refine lv_if_eq (tgt := 257) hC.1 hC.2.1 dL_law_252 (by decide) (fun hc => ?_) (fun hc => ?_)
            · have hw := hw.1 hc
              refine W.widen (k := (20 + k * 7 + 5)) (n := (663 + k * 275 + 151)) (lwe (Nat.le_of_ble_eq_true rfl)) (lwe (Nat.le_of_ble_eq_true rfl)) ?_
              exact bw_L_law_257 hl0 hC hs hbX hbl hbA hend hk hk23 _ _ _ _ _ hw _ _ hH _ (lv_sub hl [2, 3, 4, 5, 6] rfl)
            · have hw := hw.2 hc
              refine lv_iconst (v := 0) hC.1 hC.2.1 dL_law_255 (by decide) ?_
              exact False.elim hw
        · have hw := hw.2 hc
          refine lv_iconst (v := 0) hC.1 hC.2.1 dL_law_238 (by decide) ?_
          exact False.elim hw
      · have hw := hw.2.1 hj
        refine lv_tableIn (off := 220) (tgt := 260) hC.1 hC.2.1 dL_law_40 (by rw [hj]; decide) (by rw [hj]; decide) (by rw [hj]; decide) (by decide) ?_
        refine lv_aload_n hC.1 hC.2.1 dL_law_260 rfl (lv_at hl 1 rfl) ?_
        refine lv_aload_n hC.1 hC.2.1 dL_law_261 rfl (lv_at hl 0 rfl) ?_
        refine lv_iload hC.1 hC.2.1 dL_law_262 (lv_at hl 4 rfl) ?_
        refine lv_iconst (v := 1) hC.1 hC.2.1 dL_law_264 (by decide) ?_
        refine lv_iadd hC.1 hC.2.1 dL_law_265 ?_
        obtain ⟨i22, hw⟩ := hw
        refine va_sld (A := mB g) hC.1 hC.2.1 hbX hbl hbA hH.2.2 i22 dL_law_266 ?_
        refine lv_aload_n hC.1 hC.2.1 dL_law_267 rfl (lv_at hl 0 rfl) ?_
        refine lv_iload hC.1 hC.2.1 dL_law_268 (lv_at hl 4 rfl) ?_
        refine lv_iconst (v := 2) hC.1 hC.2.1 dL_law_270 (by decide) ?_
        refine lv_iadd hC.1 hC.2.1 dL_law_271 ?_
        obtain ⟨i23, hw⟩ := hw
        refine va_sld (A := mB g) hC.1 hC.2.1 hbX hbl hbA hH.2.2 i23 dL_law_272 ?_
        refine lv_aload_n hC.1 hC.2.1 dL_law_273 rfl (lv_at hl 0 rfl) ?_
        refine lv_iload hC.1 hC.2.1 dL_law_274 (lv_at hl 4 rfl) ?_
        refine lv_iconst (v := 3) hC.1 hC.2.1 dL_law_276 (by decide) ?_
        refine lv_iadd hC.1 hC.2.1 dL_law_277 ?_
        obtain ⟨i24, hw⟩ := hw
        refine va_sld (A := mB g) hC.1 hC.2.1 hbX hbl hbA hH.2.2 i24 dL_law_278 ?_
        refine lv_aload_n hC.1 hC.2.1 dL_law_279 rfl (lv_at hl 0 rfl) ?_
        refine lv_iload hC.1 hC.2.1 dL_law_280 (lv_at hl 4 rfl) ?_
        refine lv_iconst (v := 4) hC.1 hC.2.1 dL_law_282 (by decide) ?_
        refine lv_iadd hC.1 hC.2.1 dL_law_283 ?_
        obtain ⟨i25, hw⟩ := hw
        refine va_sld (A := mB g) hC.1 hC.2.1 hbX hbl hbA hH.2.2 i25 dL_law_284 ?_
        refine lv_aload_n hC.1 hC.2.1 dL_law_285 rfl (lv_at hl 3 rfl) ?_
        refine m_callXi (y := yL_setZone) (rest := []) hC hs hH hl.1 (vx_cwSW 6 hC.2.2.2.2 (gA_SW q_167 q_168 q_59 q_169) rfl rfl rfl (by decide +kernel) ⟨Nat.le_of_ble_eq_true rfl, Nat.le_of_ble_eq_true rfl⟩) (met_L_setZone l hl0 g _ _ _ _ _ _ _ _ _ hw) rfl rfl (Nat.le_of_ble_eq_true rfl) dL_law_286 ⟨lwr hk (Nat.le_of_ble_eq_true rfl), lwr hk (Nat.le_of_ble_eq_true rfl)⟩ mKx_no (fun r27 S1 H locs hw hH => ?_)
        refine W.widen (k := (20 + k * 7 + 3)) (n := (663 + k * 275 + 18)) (lww (Nat.le_of_ble_eq_true rfl)) (lww (Nat.le_of_ble_eq_true rfl)) ?_
        refine lv_istore (lv' := [(5, .int _), (0, .ref _), (1, .ref _), (2, .ref _), (3, .ref _), (4, .int _)]) hC.1 hC.2.1 dL_law_289 hl (by decide) rfl (fun ls hl => ?_)
        refine lv_aload_n hC.1 hC.2.1 dL_law_291 rfl (lv_at hl 3 rfl) ?_
        refine lv_aload_n hC.1 hC.2.1 dL_law_292 rfl (lv_at hl 1 rfl) ?_
        refine lv_iload hC.1 hC.2.1 dL_law_293 (lv_at hl 5 rfl) ?_
        refine lv_iconst (v := 1) hC.1 hC.2.1 dL_law_295 (by decide) ?_
        refine lv_iadd hC.1 hC.2.1 dL_law_296 ?_
        obtain ⟨i28, hw⟩ := hw
        refine va_sld (A := mB g) hC.1 hC.2.1 hbX hbl hbA hH.2.2 i28 dL_law_297 ?_
        refine lv_aload_n hC.1 hC.2.1 dL_law_298 rfl (lv_at hl 1 rfl) ?_
        refine lv_iload hC.1 hC.2.1 dL_law_299 (lv_at hl 5 rfl) ?_
        refine lv_iconst (v := 2) hC.1 hC.2.1 dL_law_301 (by decide) ?_
        refine lv_iadd hC.1 hC.2.1 dL_law_302 ?_
        obtain ⟨i29, hw⟩ := hw
        refine va_sld (A := mB g) hC.1 hC.2.1 hbX hbl hbA hH.2.2 i29 dL_law_303 ?_
        refine lv_aload_n hC.1 hC.2.1 dL_law_304 rfl (lv_at hl 1 rfl) ?_
        refine lv_iload hC.1 hC.2.1 dL_law_305 (lv_at hl 5 rfl) ?_
        refine lv_iconst (v := 3) hC.1 hC.2.1 dL_law_307 (by decide) ?_
        refine lv_iadd hC.1 hC.2.1 dL_law_308 ?_
        obtain ⟨i30, hw⟩ := hw
        refine va_sld (A := mB g) hC.1 hC.2.1 hbX hbl hbA hH.2.2 i30 dL_law_309 ?_
        refine lv_aload_n hC.1 hC.2.1 dL_law_310 rfl (lv_at hl 1 rfl) ?_
        refine lv_iload hC.1 hC.2.1 dL_law_311 (lv_at hl 5 rfl) ?_
        refine lv_iconst (v := 4) hC.1 hC.2.1 dL_law_313 (by decide) ?_
        refine lv_iadd hC.1 hC.2.1 dL_law_314 ?_
        obtain ⟨i31, hw⟩ := hw
        refine va_sld (A := mB g) hC.1 hC.2.1 hbX hbl hbA hH.2.2 i31 dL_law_315 ?_
        obtain ⟨k33, hw⟩ := hw
        refine m_callVi (y := yX5_setZone) (rest := []) hC hs hH hl.1 (cwV 4 hC.2.2.2.2 (gA_V q_291 q_292 q_293 q_5 q_294) rfl rfl rfl (by decide +kernel) ⟨Nat.le_of_ble_eq_true rfl, Nat.le_of_ble_eq_true rfl⟩) cs5 k33 (met_X5_setZone l hl0 g _ _ _ _ _ _ _ _ hw) rfl rfl (Nat.le_of_ble_eq_true rfl) dL_law_316 ⟨lwr hk (Nat.le_of_ble_eq_true rfl), lwr hk (Nat.le_of_ble_eq_true rfl)⟩ mKx_no (fun r34 S1 H locs hw hH => ?_)
        refine W.widen (k := (20 + k * 7 + 3)) (n := (663 + k * 275 + 18)) (lww (Nat.le_of_ble_eq_true rfl)) (lww (Nat.le_of_ble_eq_true rfl)) ?_
        refine lv_istore (lv' := [(6, .int _), (5, .int _), (0, .ref _), (1, .ref _), (2, .ref _), (3, .ref _), (4, .int _)]) hC.1 hC.2.1 dL_law_319 hl (by decide) rfl (fun ls hl => ?_)
        refine lv_aload_n hC.1 hC.2.1 dL_law_321 rfl (lv_at hl 4 rfl) ?_
        obtain ⟨k36, hw⟩ := hw
        refine m_callVi (y := yX5_thrown) (rest := []) hC hs hH hl.1 (cwV 0 hC.2.2.2.2 (gA_V q_163 q_164 q_165 q_5 q_166) rfl rfl rfl (by decide +kernel) ⟨Nat.le_of_ble_eq_true rfl, Nat.le_of_ble_eq_true rfl⟩) cs5 k36 (met_X5_thrown l hl0 g _ _ _ _ hw) rfl rfl (Nat.le_of_ble_eq_true rfl) dL_law_322 ⟨lwr hk (Nat.le_of_ble_eq_true rfl), lwr hk (Nat.le_of_ble_eq_true rfl)⟩ mKx_no (fun r37 S1 H locs hw hH => ?_)
        refine W.widen (k := (20 + k * 7 + 3)) (n := (663 + k * 275 + 18)) (lww (Nat.le_of_ble_eq_true rfl)) (lww (Nat.le_of_ble_eq_true rfl)) ?_
        refine lv_iload hC.1 hC.2.1 dL_law_325 (lv_at hl 1 rfl) ?_
        refine lv_icmp_eq (tgt := 332) hC.1 hC.2.1 dL_law_327 (by decide) (fun hc => ?_) (fun hc => ?_)
        · have hw := hw.1 hc
          refine lv_iload hC.1 hC.2.1 dL_law_332 (lv_at hl 1 rfl) ?_
          refine lv_if_ne (tgt := 349) hC.1 hC.2.1 dL_law_334 (by decide) (fun hc => ?_) (fun hc => ?_)
          · have hw := hw.1 hc
            refine W.widen (k := (20 + k * 7 + 3)) (n := (663 + k * 275 + 18)) (lwe (Nat.le_of_ble_eq_true rfl)) (lwe (Nat.le_of_ble_eq_true rfl)) ?_
            exact bw_L_law_349 hl0 hC hs hbX hbl hbA hend hk hk23 _ _ _ _ _ hw _ _ hH _ (lv_sub hl [2, 3, 4, 5, 6] rfl)
          · have hw := hw.2 hc
            refine lv_aload_n hC.1 hC.2.1 dL_law_337 rfl (lv_at hl 5 rfl) ?_
            refine lv_iconst (v := 0) hC.1 hC.2.1 dL_law_338 (by decide) ?_
            obtain ⟨k38, hw⟩ := hw
            obtain ⟨i39, hw⟩ := hw
            refine m_jald hC hs hH k38 i39 dL_law_339 ?_
            refine lv_iload hC.1 hC.2.1 dL_law_340 (lv_at hl 0 rfl) ?_
            refine lv_i2l hC.1 hC.2.1 dL_law_342 rfl ?_
            refine W.lcmp hC.1 hC.2.1 dL_law_343 ?_
            refine lv_if_eq (tgt := 349) hC.1 hC.2.1 dL_law_344 (by decide) (fun hc => ?_) (fun hc => ?_)
            · have hw := hw.1 hc
              refine W.widen (k := (20 + k * 7 + 3)) (n := (663 + k * 275 + 18)) (lwe (Nat.le_of_ble_eq_true rfl)) (lwe (Nat.le_of_ble_eq_true rfl)) ?_
              exact bw_L_law_349 hl0 hC hs hbX hbl hbA hend hk hk23 _ _ _ _ _ hw _ _ hH _ (lv_sub hl [2, 3, 4, 5, 6] rfl)
            · have hw := hw.2 hc
              refine lv_iconst (v := 0) hC.1 hC.2.1 dL_law_347 (by decide) ?_
              exact False.elim hw
        · have hw := hw.2 hc
          refine lv_iconst (v := 0) hC.1 hC.2.1 dL_law_330 (by decide) ?_
          exact False.elim hw
      · have hw := hw.2.2.1 hj
        refine lv_tableIn (off := 312) (tgt := 352) hC.1 hC.2.1 dL_law_40 (by rw [hj]; decide) (by rw [hj]; decide) (by rw [hj]; decide) (by decide) ?_
        refine lv_aload_n hC.1 hC.2.1 dL_law_352 rfl (lv_at hl 1 rfl) ?_
        refine lv_aload_n hC.1 hC.2.1 dL_law_353 rfl (lv_at hl 0 rfl) ?_
        refine lv_iload hC.1 hC.2.1 dL_law_354 (lv_at hl 4 rfl) ?_
        refine lv_iconst (v := 1) hC.1 hC.2.1 dL_law_356 (by decide) ?_
        refine lv_iadd hC.1 hC.2.1 dL_law_357 ?_
        obtain ⟨i40, hw⟩ := hw
        refine va_sld (A := mB g) hC.1 hC.2.1 hbX hbl hbA hH.2.2 i40 dL_law_358 ?_
        refine lv_aload_n hC.1 hC.2.1 dL_law_359 rfl (lv_at hl 0 rfl) ?_
        refine lv_iload hC.1 hC.2.1 dL_law_360 (lv_at hl 4 rfl) ?_
        refine lv_iconst (v := 2) hC.1 hC.2.1 dL_law_362 (by decide) ?_
        refine lv_iadd hC.1 hC.2.1 dL_law_363 ?_
        obtain ⟨i41, hw⟩ := hw
        refine va_sld (A := mB g) hC.1 hC.2.1 hbX hbl hbA hH.2.2 i41 dL_law_364 ?_
        refine lv_aload_n hC.1 hC.2.1 dL_law_365 rfl (lv_at hl 3 rfl) ?_
        refine m_callXi (y := yL_setPeak) (rest := []) hC hs hH hl.1 (vx_cwSW 4 hC.2.2.2.2 (gA_SW q_299 q_300 q_59 q_301) rfl rfl rfl (by decide +kernel) ⟨Nat.le_of_ble_eq_true rfl, Nat.le_of_ble_eq_true rfl⟩) (met_L_setPeak l hl0 g _ _ _ _ _ _ _ hw) rfl rfl (Nat.le_of_ble_eq_true rfl) dL_law_366 ⟨lwr hk (Nat.le_of_ble_eq_true rfl), lwr hk (Nat.le_of_ble_eq_true rfl)⟩ mKx_no (fun r43 S1 H locs hw hH => ?_)
        refine W.widen (k := (20 + k * 7 + 1)) (n := (663 + k * 275 + 6)) (lww (Nat.le_of_ble_eq_true rfl)) (lww (Nat.le_of_ble_eq_true rfl)) ?_
        refine lv_istore (lv' := [(5, .int _), (0, .ref _), (1, .ref _), (2, .ref _), (3, .ref _), (4, .int _)]) hC.1 hC.2.1 dL_law_369 hl (by decide) rfl (fun ls hl => ?_)
        refine lv_aload_n hC.1 hC.2.1 dL_law_371 rfl (lv_at hl 3 rfl) ?_
        refine lv_aload_n hC.1 hC.2.1 dL_law_372 rfl (lv_at hl 1 rfl) ?_
        refine lv_iload hC.1 hC.2.1 dL_law_373 (lv_at hl 5 rfl) ?_
        refine lv_iconst (v := 1) hC.1 hC.2.1 dL_law_375 (by decide) ?_
        refine lv_iadd hC.1 hC.2.1 dL_law_376 ?_
        obtain ⟨i44, hw⟩ := hw
        refine va_sld (A := mB g) hC.1 hC.2.1 hbX hbl hbA hH.2.2 i44 dL_law_377 ?_
        refine lv_aload_n hC.1 hC.2.1 dL_law_378 rfl (lv_at hl 1 rfl) ?_
        refine lv_iload hC.1 hC.2.1 dL_law_379 (lv_at hl 5 rfl) ?_
        refine lv_iconst (v := 2) hC.1 hC.2.1 dL_law_381 (by decide) ?_
        refine lv_iadd hC.1 hC.2.1 dL_law_382 ?_
        obtain ⟨i45, hw⟩ := hw
        refine va_sld (A := mB g) hC.1 hC.2.1 hbX hbl hbA hH.2.2 i45 dL_law_383 ?_
        obtain ⟨k47, hw⟩ := hw
        refine m_callVi (y := yX5_setPeak) (rest := []) hC hs hH hl.1 (cwV 2 hC.2.2.2.2 (gA_V q_309 q_310 q_311 q_5 q_312) rfl rfl rfl (by decide +kernel) ⟨Nat.le_of_ble_eq_true rfl, Nat.le_of_ble_eq_true rfl⟩) cs5 k47 (met_X5_setPeak l hl0 g _ _ _ _ _ _ hw) rfl rfl (Nat.le_of_ble_eq_true rfl) dL_law_384 ⟨lwr hk (Nat.le_of_ble_eq_true rfl), lwr hk (Nat.le_of_ble_eq_true rfl)⟩ mKx_no (fun r48 S1 H locs hw hH => ?_)
        refine W.widen (k := (20 + k * 7 + 1)) (n := (663 + k * 275 + 6)) (lww (Nat.le_of_ble_eq_true rfl)) (lww (Nat.le_of_ble_eq_true rfl)) ?_
        refine lv_istore (lv' := [(6, .int _), (5, .int _), (0, .ref _), (1, .ref _), (2, .ref _), (3, .ref _), (4, .int _)]) hC.1 hC.2.1 dL_law_387 hl (by decide) rfl (fun ls hl => ?_)
        refine lv_aload_n hC.1 hC.2.1 dL_law_389 rfl (lv_at hl 4 rfl) ?_
        obtain ⟨k50, hw⟩ := hw
        refine m_callVi (y := yX5_thrown) (rest := []) hC hs hH hl.1 (cwV 0 hC.2.2.2.2 (gA_V q_163 q_164 q_165 q_5 q_166) rfl rfl rfl (by decide +kernel) ⟨Nat.le_of_ble_eq_true rfl, Nat.le_of_ble_eq_true rfl⟩) cs5 k50 (met_X5_thrown l hl0 g _ _ _ _ hw) rfl rfl (Nat.le_of_ble_eq_true rfl) dL_law_390 ⟨lwr hk (Nat.le_of_ble_eq_true rfl), lwr hk (Nat.le_of_ble_eq_true rfl)⟩ mKx_no (fun r51 S1 H locs hw hH => ?_)
        refine W.widen (k := (20 + k * 7 + 1)) (n := (663 + k * 275 + 6)) (lww (Nat.le_of_ble_eq_true rfl)) (lww (Nat.le_of_ble_eq_true rfl)) ?_
        refine lv_iload hC.1 hC.2.1 dL_law_393 (lv_at hl 1 rfl) ?_
        refine lv_icmp_eq (tgt := 400) hC.1 hC.2.1 dL_law_395 (by decide) (fun hc => ?_) (fun hc => ?_)
        · have hw := hw.1 hc
          refine lv_iload hC.1 hC.2.1 dL_law_400 (lv_at hl 1 rfl) ?_
          refine lv_if_ne (tgt := 424) hC.1 hC.2.1 dL_law_402 (by decide) (fun hc => ?_) (fun hc => ?_)
          · have hw := hw.1 hc
            refine W.widen (k := (20 + k * 7 + 1)) (n := (663 + k * 275 + 6)) (lwe (Nat.le_of_ble_eq_true rfl)) (lwe (Nat.le_of_ble_eq_true rfl)) ?_
            exact bw_L_law_424 hl0 hC hs hbX hbl hbA hend hk hk23 _ _ _ _ _ hw _ _ hH _ (lv_sub hl [2, 3, 4, 5, 6] rfl)
          · have hw := hw.2 hc
            refine lv_aload_n hC.1 hC.2.1 dL_law_405 rfl (lv_at hl 5 rfl) ?_
            refine lv_iconst (v := 0) hC.1 hC.2.1 dL_law_406 (by decide) ?_
            obtain ⟨k52, hw⟩ := hw
            obtain ⟨i53, hw⟩ := hw
            refine m_jald hC hs hH k52 i53 dL_law_407 ?_
            refine lv_iload hC.1 hC.2.1 dL_law_408 (lv_at hl 0 rfl) ?_
            refine lv_if_eq (tgt := 417) hC.1 hC.2.1 dL_law_410 (by decide) (fun hc => ?_) (fun hc => ?_)
            · have hw := hw.1 hc
              refine lv_lconst (v := 0) hC.1 hC.2.1 dL_law_417 (by decide) ?_
              refine W.widen (k := (20 + k * 7 + 1)) (n := (663 + k * 275 + 6)) (lwe (Nat.le_of_ble_eq_true rfl)) (lwe (Nat.le_of_ble_eq_true rfl)) ?_
              exact bw_L_law_418 hl0 hC hs hbX hbl hbA hend hk hk23 _ _ _ _ _ _ _ hw _ _ hH _ (lv_sub hl [2, 3, 4, 5, 6] rfl)
            · have hw := hw.2 hc
              refine lv_lconst (v := 1) hC.1 hC.2.1 dL_law_413 (by decide) ?_
              refine lv_goto (tgt := 418) hC.1 hC.2.1 dL_law_414 (by decide) ?_
              refine W.widen (k := (20 + k * 7 + 1)) (n := (663 + k * 275 + 6)) (lwe (Nat.le_of_ble_eq_true rfl)) (lwe (Nat.le_of_ble_eq_true rfl)) ?_
              exact bw_L_law_418 hl0 hC hs hbX hbl hbA hend hk hk23 _ _ _ _ _ _ _ hw _ _ hH _ (lv_sub hl [2, 3, 4, 5, 6] rfl)
        · have hw := hw.2 hc
          refine lv_iconst (v := 0) hC.1 hC.2.1 dL_law_398 (by decide) ?_
          exact False.elim hw
      · have hw := hw.2.2.2.1 hj
        refine lv_tableIn (off := 387) (tgt := 427) hC.1 hC.2.1 dL_law_40 (by rw [hj]; decide) (by rw [hj]; decide) (by rw [hj]; decide) (by decide) ?_
        refine lv_aload_n hC.1 hC.2.1 dL_law_427 rfl (lv_at hl 1 rfl) ?_
        refine lv_aload_n hC.1 hC.2.1 dL_law_428 rfl (lv_at hl 0 rfl) ?_
        refine lv_iload hC.1 hC.2.1 dL_law_429 (lv_at hl 4 rfl) ?_
        refine lv_iconst (v := 1) hC.1 hC.2.1 dL_law_431 (by decide) ?_
        refine lv_iadd hC.1 hC.2.1 dL_law_432 ?_
        obtain ⟨i54, hw⟩ := hw
        refine va_sld (A := mB g) hC.1 hC.2.1 hbX hbl hbA hH.2.2 i54 dL_law_433 ?_
        refine lv_aload_n hC.1 hC.2.1 dL_law_434 rfl (lv_at hl 0 rfl) ?_
        refine lv_iload hC.1 hC.2.1 dL_law_435 (lv_at hl 4 rfl) ?_
        refine lv_iconst (v := 2) hC.1 hC.2.1 dL_law_437 (by decide) ?_
        refine lv_iadd hC.1 hC.2.1 dL_law_438 ?_
        obtain ⟨i55, hw⟩ := hw
        refine va_sld (A := mB g) hC.1 hC.2.1 hbX hbl hbA hH.2.2 i55 dL_law_439 ?_
        refine lv_aload_n hC.1 hC.2.1 dL_law_440 rfl (lv_at hl 0 rfl) ?_
        refine lv_iload hC.1 hC.2.1 dL_law_441 (lv_at hl 4 rfl) ?_
        refine lv_iconst (v := 3) hC.1 hC.2.1 dL_law_443 (by decide) ?_
        refine lv_iadd hC.1 hC.2.1 dL_law_444 ?_
        obtain ⟨i56, hw⟩ := hw
        refine va_sld (A := mB g) hC.1 hC.2.1 hbX hbl hbA hH.2.2 i56 dL_law_445 ?_
        refine lv_aload_n hC.1 hC.2.1 dL_law_446 rfl (lv_at hl 3 rfl) ?_
        refine m_callXi (y := yL_addAccount) (rest := []) hC hs hH hl.1 (vx_cwSW 5 hC.2.2.2.2 (gA_SW q_313 q_314 q_59 q_315) rfl rfl rfl (by decide +kernel) ⟨Nat.le_of_ble_eq_true rfl, Nat.le_of_ble_eq_true rfl⟩) (met_L_addAccount l hl0 g _ _ _ _ _ _ _ _ hw) rfl rfl (Nat.le_of_ble_eq_true rfl) dL_law_447 ⟨lwr hk (Nat.le_of_ble_eq_true rfl), lwr hk (Nat.le_of_ble_eq_true rfl)⟩ mKx_no (fun r58 S1 H locs hw hH => ?_)
        refine W.widen (k := (20 + k * 7 + 3)) (n := (663 + k * 275 + 140)) (lww (Nat.le_of_ble_eq_true rfl)) (lww (Nat.le_of_ble_eq_true rfl)) ?_
        refine lv_istore (lv' := [(5, .int _), (0, .ref _), (1, .ref _), (2, .ref _), (3, .ref _), (4, .int _)]) hC.1 hC.2.1 dL_law_450 hl (by decide) rfl (fun ls hl => ?_)
        refine lv_aload_n hC.1 hC.2.1 dL_law_452 rfl (lv_at hl 3 rfl) ?_
        refine lv_aload_n hC.1 hC.2.1 dL_law_453 rfl (lv_at hl 1 rfl) ?_
        refine lv_iload hC.1 hC.2.1 dL_law_454 (lv_at hl 5 rfl) ?_
        refine lv_iconst (v := 1) hC.1 hC.2.1 dL_law_456 (by decide) ?_
        refine lv_iadd hC.1 hC.2.1 dL_law_457 ?_
        obtain ⟨i59, hw⟩ := hw
        refine va_sld (A := mB g) hC.1 hC.2.1 hbX hbl hbA hH.2.2 i59 dL_law_458 ?_
        refine lv_aload_n hC.1 hC.2.1 dL_law_459 rfl (lv_at hl 1 rfl) ?_
        refine lv_iload hC.1 hC.2.1 dL_law_460 (lv_at hl 5 rfl) ?_
        refine lv_iconst (v := 2) hC.1 hC.2.1 dL_law_462 (by decide) ?_
        refine lv_iadd hC.1 hC.2.1 dL_law_463 ?_
        obtain ⟨i60, hw⟩ := hw
        refine va_sld (A := mB g) hC.1 hC.2.1 hbX hbl hbA hH.2.2 i60 dL_law_464 ?_
        refine lv_aload_n hC.1 hC.2.1 dL_law_465 rfl (lv_at hl 1 rfl) ?_
        refine lv_iload hC.1 hC.2.1 dL_law_466 (lv_at hl 5 rfl) ?_
        refine lv_iconst (v := 3) hC.1 hC.2.1 dL_law_468 (by decide) ?_
        refine lv_iadd hC.1 hC.2.1 dL_law_469 ?_
        obtain ⟨i61, hw⟩ := hw
        refine va_sld (A := mB g) hC.1 hC.2.1 hbX hbl hbA hH.2.2 i61 dL_law_470 ?_
        obtain ⟨k63, hw⟩ := hw
        refine m_callVi (y := yX5_addAccount) (rest := []) hC hs hH hl.1 (cwV 3 hC.2.2.2.2 (gA_V q_333 q_334 q_335 q_5 q_336) rfl rfl rfl (by decide +kernel) ⟨Nat.le_of_ble_eq_true rfl, Nat.le_of_ble_eq_true rfl⟩) cs5 k63 (met_X5_addAccount l hl0 g _ _ _ _ _ _ _ hw) rfl rfl (Nat.le_of_ble_eq_true rfl) dL_law_471 ⟨lwr hk (Nat.le_of_ble_eq_true rfl), lwr hk (Nat.le_of_ble_eq_true rfl)⟩ mKx_no (fun r64 S1 H locs hw hH => ?_)
        refine W.widen (k := (20 + k * 7 + 3)) (n := (663 + k * 275 + 140)) (lww (Nat.le_of_ble_eq_true rfl)) (lww (Nat.le_of_ble_eq_true rfl)) ?_
        refine lv_istore (lv' := [(6, .int _), (5, .int _), (0, .ref _), (1, .ref _), (2, .ref _), (3, .ref _), (4, .int _)]) hC.1 hC.2.1 dL_law_474 hl (by decide) rfl (fun ls hl => ?_)
        refine lv_aload_n hC.1 hC.2.1 dL_law_476 rfl (lv_at hl 4 rfl) ?_
        obtain ⟨k66, hw⟩ := hw
        refine m_callVi (y := yX5_thrown) (rest := []) hC hs hH hl.1 (cwV 0 hC.2.2.2.2 (gA_V q_163 q_164 q_165 q_5 q_166) rfl rfl rfl (by decide +kernel) ⟨Nat.le_of_ble_eq_true rfl, Nat.le_of_ble_eq_true rfl⟩) cs5 k66 (met_X5_thrown l hl0 g _ _ _ _ hw) rfl rfl (Nat.le_of_ble_eq_true rfl) dL_law_477 ⟨lwr hk (Nat.le_of_ble_eq_true rfl), lwr hk (Nat.le_of_ble_eq_true rfl)⟩ mKx_no (fun r67 S1 H locs hw hH => ?_)
        refine W.widen (k := (20 + k * 7 + 3)) (n := (663 + k * 275 + 140)) (lww (Nat.le_of_ble_eq_true rfl)) (lww (Nat.le_of_ble_eq_true rfl)) ?_
        refine lv_iload hC.1 hC.2.1 dL_law_480 (lv_at hl 1 rfl) ?_
        refine lv_icmp_eq (tgt := 487) hC.1 hC.2.1 dL_law_482 (by decide) (fun hc => ?_) (fun hc => ?_)
        · have hw := hw.1 hc
          refine lv_iload hC.1 hC.2.1 dL_law_487 (lv_at hl 1 rfl) ?_
          refine lv_if_ne (tgt := 504) hC.1 hC.2.1 dL_law_489 (by decide) (fun hc => ?_) (fun hc => ?_)
          · have hw := hw.1 hc
            refine W.widen (k := (20 + k * 7 + 3)) (n := (663 + k * 275 + 140)) (lwe (Nat.le_of_ble_eq_true rfl)) (lwe (Nat.le_of_ble_eq_true rfl)) ?_
            exact bw_L_law_504 hl0 hC hs hbX hbl hbA hend hk hk23 _ _ _ _ _ hw _ _ hH _ (lv_sub hl [2, 3, 4, 5, 6] rfl)
          · have hw := hw.2 hc
            refine lv_aload_n hC.1 hC.2.1 dL_law_492 rfl (lv_at hl 5 rfl) ?_
            refine lv_iconst (v := 0) hC.1 hC.2.1 dL_law_493 (by decide) ?_
            obtain ⟨k68, hw⟩ := hw
            obtain ⟨i69, hw⟩ := hw
            refine m_jald hC hs hH k68 i69 dL_law_494 ?_
            refine lv_iload hC.1 hC.2.1 dL_law_495 (lv_at hl 0 rfl) ?_
            refine lv_i2l hC.1 hC.2.1 dL_law_497 rfl ?_
            refine W.lcmp hC.1 hC.2.1 dL_law_498 ?_
            refine lv_if_eq (tgt := 504) hC.1 hC.2.1 dL_law_499 (by decide) (fun hc => ?_) (fun hc => ?_)
            · have hw := hw.1 hc
              refine W.widen (k := (20 + k * 7 + 3)) (n := (663 + k * 275 + 140)) (lwe (Nat.le_of_ble_eq_true rfl)) (lwe (Nat.le_of_ble_eq_true rfl)) ?_
              exact bw_L_law_504 hl0 hC hs hbX hbl hbA hend hk hk23 _ _ _ _ _ hw _ _ hH _ (lv_sub hl [2, 3, 4, 5, 6] rfl)
            · have hw := hw.2 hc
              refine lv_iconst (v := 0) hC.1 hC.2.1 dL_law_502 (by decide) ?_
              exact False.elim hw
        · have hw := hw.2 hc
          refine lv_iconst (v := 0) hC.1 hC.2.1 dL_law_485 (by decide) ?_
          exact False.elim hw
      · have hw := hw.2.2.2.2.1 hj
        refine lv_tableIn (off := 467) (tgt := 507) hC.1 hC.2.1 dL_law_40 (by rw [hj]; decide) (by rw [hj]; decide) (by rw [hj]; decide) (by decide) ?_
        refine lv_aload_n hC.1 hC.2.1 dL_law_507 rfl (lv_at hl 1 rfl) ?_
        refine lv_aload_n hC.1 hC.2.1 dL_law_508 rfl (lv_at hl 0 rfl) ?_
        refine lv_iload hC.1 hC.2.1 dL_law_509 (lv_at hl 4 rfl) ?_
        refine lv_iconst (v := 1) hC.1 hC.2.1 dL_law_511 (by decide) ?_
        refine lv_iadd hC.1 hC.2.1 dL_law_512 ?_
        obtain ⟨i70, hw⟩ := hw
        refine va_sld (A := mB g) hC.1 hC.2.1 hbX hbl hbA hH.2.2 i70 dL_law_513 ?_
        refine lv_aload_n hC.1 hC.2.1 dL_law_514 rfl (lv_at hl 0 rfl) ?_
        refine lv_iload hC.1 hC.2.1 dL_law_515 (lv_at hl 4 rfl) ?_
        refine lv_iconst (v := 2) hC.1 hC.2.1 dL_law_517 (by decide) ?_
        refine lv_iadd hC.1 hC.2.1 dL_law_518 ?_
        obtain ⟨i71, hw⟩ := hw
        refine va_sld (A := mB g) hC.1 hC.2.1 hbX hbl hbA hH.2.2 i71 dL_law_519 ?_
        refine lv_aload_n hC.1 hC.2.1 dL_law_520 rfl (lv_at hl 3 rfl) ?_
        refine m_callXi (y := yL_addLine) (rest := []) hC hs hH hl.1 (vx_cwSW 4 hC.2.2.2.2 (gA_SW q_340 q_341 q_59 q_342) rfl rfl rfl (by decide +kernel) ⟨Nat.le_of_ble_eq_true rfl, Nat.le_of_ble_eq_true rfl⟩) (met_L_addLine l hl0 g _ _ _ _ _ _ _ hw) rfl rfl (Nat.le_of_ble_eq_true rfl) dL_law_521 ⟨lwr hk (Nat.le_of_ble_eq_true rfl), lwr hk (Nat.le_of_ble_eq_true rfl)⟩ mKx_no (fun r73 S1 H locs hw hH => ?_)
        refine W.widen (k := (20 + k * 7 + 7)) (n := (663 + k * 275 + 155)) (lww (Nat.le_of_ble_eq_true rfl)) (lww (Nat.le_of_ble_eq_true rfl)) ?_
        refine lv_istore (lv' := [(5, .int _), (0, .ref _), (1, .ref _), (2, .ref _), (3, .ref _), (4, .int _)]) hC.1 hC.2.1 dL_law_524 hl (by decide) rfl (fun ls hl => ?_)
        refine lv_aload_n hC.1 hC.2.1 dL_law_526 rfl (lv_at hl 3 rfl) ?_
        refine lv_aload_n hC.1 hC.2.1 dL_law_527 rfl (lv_at hl 1 rfl) ?_
        refine lv_iload hC.1 hC.2.1 dL_law_528 (lv_at hl 5 rfl) ?_
        refine lv_iconst (v := 1) hC.1 hC.2.1 dL_law_530 (by decide) ?_
        refine lv_iadd hC.1 hC.2.1 dL_law_531 ?_
        obtain ⟨i74, hw⟩ := hw
        refine va_sld (A := mB g) hC.1 hC.2.1 hbX hbl hbA hH.2.2 i74 dL_law_532 ?_
        refine lv_aload_n hC.1 hC.2.1 dL_law_533 rfl (lv_at hl 1 rfl) ?_
        refine lv_iload hC.1 hC.2.1 dL_law_534 (lv_at hl 5 rfl) ?_
        refine lv_iconst (v := 2) hC.1 hC.2.1 dL_law_536 (by decide) ?_
        refine lv_iadd hC.1 hC.2.1 dL_law_537 ?_
        obtain ⟨i75, hw⟩ := hw
        refine va_sld (A := mB g) hC.1 hC.2.1 hbX hbl hbA hH.2.2 i75 dL_law_538 ?_
        obtain ⟨k77, hw⟩ := hw
        refine m_callVi (y := yX5_addLine) (rest := []) hC hs hH hl.1 (cwV 2 hC.2.2.2.2 (gA_V q_359 q_360 q_361 q_5 q_362) rfl rfl rfl (by decide +kernel) ⟨Nat.le_of_ble_eq_true rfl, Nat.le_of_ble_eq_true rfl⟩) cs5 k77 (met_X5_addLine l hl0 g _ _ _ _ _ _ hw) rfl rfl (Nat.le_of_ble_eq_true rfl) dL_law_539 ⟨lwr hk (Nat.le_of_ble_eq_true rfl), lwr hk (Nat.le_of_ble_eq_true rfl)⟩ mKx_no (fun r78 S1 H locs hw hH => ?_)
        refine W.widen (k := (20 + k * 7 + 7)) (n := (663 + k * 275 + 155)) (lww (Nat.le_of_ble_eq_true rfl)) (lww (Nat.le_of_ble_eq_true rfl)) ?_
        refine lv_istore (lv' := [(6, .int _), (5, .int _), (0, .ref _), (1, .ref _), (2, .ref _), (3, .ref _), (4, .int _)]) hC.1 hC.2.1 dL_law_542 hl (by decide) rfl (fun ls hl => ?_)
        refine lv_aload_n hC.1 hC.2.1 dL_law_544 rfl (lv_at hl 4 rfl) ?_
        obtain ⟨k80, hw⟩ := hw
        refine m_callVi (y := yX5_thrown) (rest := []) hC hs hH hl.1 (cwV 0 hC.2.2.2.2 (gA_V q_163 q_164 q_165 q_5 q_166) rfl rfl rfl (by decide +kernel) ⟨Nat.le_of_ble_eq_true rfl, Nat.le_of_ble_eq_true rfl⟩) cs5 k80 (met_X5_thrown l hl0 g _ _ _ _ hw) rfl rfl (Nat.le_of_ble_eq_true rfl) dL_law_545 ⟨lwr hk (Nat.le_of_ble_eq_true rfl), lwr hk (Nat.le_of_ble_eq_true rfl)⟩ mKx_no (fun r81 S1 H locs hw hH => ?_)
        refine W.widen (k := (20 + k * 7 + 7)) (n := (663 + k * 275 + 155)) (lww (Nat.le_of_ble_eq_true rfl)) (lww (Nat.le_of_ble_eq_true rfl)) ?_
        refine lv_iload hC.1 hC.2.1 dL_law_548 (lv_at hl 1 rfl) ?_
        refine lv_icmp_eq (tgt := 555) hC.1 hC.2.1 dL_law_550 (by decide) (fun hc => ?_) (fun hc => ?_)
        · have hw := hw.1 hc
          refine lv_iload hC.1 hC.2.1 dL_law_555 (lv_at hl 1 rfl) ?_
          refine lv_if_ne (tgt := 572) hC.1 hC.2.1 dL_law_557 (by decide) (fun hc => ?_) (fun hc => ?_)
          · have hw := hw.1 hc
            refine W.widen (k := (20 + k * 7 + 7)) (n := (663 + k * 275 + 155)) (lwe (Nat.le_of_ble_eq_true rfl)) (lwe (Nat.le_of_ble_eq_true rfl)) ?_
            exact bw_L_law_572 hl0 hC hs hbX hbl hbA hend hk hk23 _ _ _ _ _ hw _ _ hH _ (lv_sub hl [2, 3, 4, 5, 6] rfl)
          · have hw := hw.2 hc
            refine lv_aload_n hC.1 hC.2.1 dL_law_560 rfl (lv_at hl 5 rfl) ?_
            refine lv_iconst (v := 0) hC.1 hC.2.1 dL_law_561 (by decide) ?_
            obtain ⟨k82, hw⟩ := hw
            obtain ⟨i83, hw⟩ := hw
            refine m_jald hC hs hH k82 i83 dL_law_562 ?_
            refine lv_iload hC.1 hC.2.1 dL_law_563 (lv_at hl 0 rfl) ?_
            refine lv_i2l hC.1 hC.2.1 dL_law_565 rfl ?_
            refine W.lcmp hC.1 hC.2.1 dL_law_566 ?_
            refine lv_if_eq (tgt := 572) hC.1 hC.2.1 dL_law_567 (by decide) (fun hc => ?_) (fun hc => ?_)
            · have hw := hw.1 hc
              refine W.widen (k := (20 + k * 7 + 7)) (n := (663 + k * 275 + 155)) (lwe (Nat.le_of_ble_eq_true rfl)) (lwe (Nat.le_of_ble_eq_true rfl)) ?_
              exact bw_L_law_572 hl0 hC hs hbX hbl hbA hend hk hk23 _ _ _ _ _ hw _ _ hH _ (lv_sub hl [2, 3, 4, 5, 6] rfl)
            · have hw := hw.2 hc
              refine lv_iconst (v := 0) hC.1 hC.2.1 dL_law_570 (by decide) ?_
              exact False.elim hw
        · have hw := hw.2 hc
          refine lv_iconst (v := 0) hC.1 hC.2.1 dL_law_553 (by decide) ?_
          exact False.elim hw
      · have hw := hw.2.2.2.2.2.1 hj
        refine lv_tableIn (off := 535) (tgt := 575) hC.1 hC.2.1 dL_law_40 (by rw [hj]; decide) (by rw [hj]; decide) (by rw [hj]; decide) (by decide) ?_
        refine lv_aload_n hC.1 hC.2.1 dL_law_575 rfl (lv_at hl 1 rfl) ?_
        refine lv_aload_n hC.1 hC.2.1 dL_law_576 rfl (lv_at hl 0 rfl) ?_
        refine lv_iload hC.1 hC.2.1 dL_law_577 (lv_at hl 4 rfl) ?_
        refine lv_iconst (v := 1) hC.1 hC.2.1 dL_law_579 (by decide) ?_
        refine lv_iadd hC.1 hC.2.1 dL_law_580 ?_
        obtain ⟨i84, hw⟩ := hw
        refine va_sld (A := mB g) hC.1 hC.2.1 hbX hbl hbA hH.2.2 i84 dL_law_581 ?_
        refine lv_aload_n hC.1 hC.2.1 dL_law_582 rfl (lv_at hl 0 rfl) ?_
        refine lv_iload hC.1 hC.2.1 dL_law_583 (lv_at hl 4 rfl) ?_
        refine lv_iconst (v := 2) hC.1 hC.2.1 dL_law_585 (by decide) ?_
        refine lv_iadd hC.1 hC.2.1 dL_law_586 ?_
        obtain ⟨i85, hw⟩ := hw
        refine va_sld (A := mB g) hC.1 hC.2.1 hbX hbl hbA hH.2.2 i85 dL_law_587 ?_
        refine lv_aload_n hC.1 hC.2.1 dL_law_588 rfl (lv_at hl 3 rfl) ?_
        refine m_callXi (y := yL_setTariff) (rest := []) hC hs hH hl.1 (vx_cwSW 4 hC.2.2.2.2 (gA_SW q_368 q_369 q_59 q_370) rfl rfl rfl (by decide +kernel) ⟨Nat.le_of_ble_eq_true rfl, Nat.le_of_ble_eq_true rfl⟩) (met_L_setTariff l hl0 g _ _ _ _ _ _ _ hw) rfl rfl (Nat.le_of_ble_eq_true rfl) dL_law_589 ⟨lwr hk (Nat.le_of_ble_eq_true rfl), lwr hk (Nat.le_of_ble_eq_true rfl)⟩ mKx_no (fun r87 S1 H locs hw hH => ?_)
        refine W.widen (k := (20 + k * 7 + 2)) (n := (663 + k * 275 + 12)) (lww (Nat.le_of_ble_eq_true rfl)) (lww (Nat.le_of_ble_eq_true rfl)) ?_
        refine lv_istore (lv' := [(5, .int _), (0, .ref _), (1, .ref _), (2, .ref _), (3, .ref _), (4, .int _)]) hC.1 hC.2.1 dL_law_592 hl (by decide) rfl (fun ls hl => ?_)
        refine lv_aload_n hC.1 hC.2.1 dL_law_594 rfl (lv_at hl 3 rfl) ?_
        refine lv_aload_n hC.1 hC.2.1 dL_law_595 rfl (lv_at hl 1 rfl) ?_
        refine lv_iload hC.1 hC.2.1 dL_law_596 (lv_at hl 5 rfl) ?_
        refine lv_iconst (v := 1) hC.1 hC.2.1 dL_law_598 (by decide) ?_
        refine lv_iadd hC.1 hC.2.1 dL_law_599 ?_
        obtain ⟨i88, hw⟩ := hw
        refine va_sld (A := mB g) hC.1 hC.2.1 hbX hbl hbA hH.2.2 i88 dL_law_600 ?_
        refine lv_aload_n hC.1 hC.2.1 dL_law_601 rfl (lv_at hl 1 rfl) ?_
        refine lv_iload hC.1 hC.2.1 dL_law_602 (lv_at hl 5 rfl) ?_
        refine lv_iconst (v := 2) hC.1 hC.2.1 dL_law_604 (by decide) ?_
        refine lv_iadd hC.1 hC.2.1 dL_law_605 ?_
        obtain ⟨i89, hw⟩ := hw
        refine va_sld (A := mB g) hC.1 hC.2.1 hbX hbl hbA hH.2.2 i89 dL_law_606 ?_
        obtain ⟨k91, hw⟩ := hw
        refine m_callVi (y := yX5_setTariff) (rest := []) hC hs hH hl.1 (cwV 2 hC.2.2.2.2 (gA_V q_384 q_385 q_386 q_5 q_387) rfl rfl rfl (by decide +kernel) ⟨Nat.le_of_ble_eq_true rfl, Nat.le_of_ble_eq_true rfl⟩) cs5 k91 (met_X5_setTariff l hl0 g _ _ _ _ _ _ hw) rfl rfl (Nat.le_of_ble_eq_true rfl) dL_law_607 ⟨lwr hk (Nat.le_of_ble_eq_true rfl), lwr hk (Nat.le_of_ble_eq_true rfl)⟩ mKx_no (fun r92 S1 H locs hw hH => ?_)
        refine W.widen (k := (20 + k * 7 + 2)) (n := (663 + k * 275 + 12)) (lww (Nat.le_of_ble_eq_true rfl)) (lww (Nat.le_of_ble_eq_true rfl)) ?_
        refine lv_istore (lv' := [(6, .int _), (5, .int _), (0, .ref _), (1, .ref _), (2, .ref _), (3, .ref _), (4, .int _)]) hC.1 hC.2.1 dL_law_610 hl (by decide) rfl (fun ls hl => ?_)
        refine lv_aload_n hC.1 hC.2.1 dL_law_612 rfl (lv_at hl 4 rfl) ?_
        obtain ⟨k94, hw⟩ := hw
        refine m_callVi (y := yX5_thrown) (rest := []) hC hs hH hl.1 (cwV 0 hC.2.2.2.2 (gA_V q_163 q_164 q_165 q_5 q_166) rfl rfl rfl (by decide +kernel) ⟨Nat.le_of_ble_eq_true rfl, Nat.le_of_ble_eq_true rfl⟩) cs5 k94 (met_X5_thrown l hl0 g _ _ _ _ hw) rfl rfl (Nat.le_of_ble_eq_true rfl) dL_law_613 ⟨lwr hk (Nat.le_of_ble_eq_true rfl), lwr hk (Nat.le_of_ble_eq_true rfl)⟩ mKx_no (fun r95 S1 H locs hw hH => ?_)
        refine W.widen (k := (20 + k * 7 + 2)) (n := (663 + k * 275 + 12)) (lww (Nat.le_of_ble_eq_true rfl)) (lww (Nat.le_of_ble_eq_true rfl)) ?_
        refine lv_iload hC.1 hC.2.1 dL_law_616 (lv_at hl 1 rfl) ?_
        refine lv_icmp_eq (tgt := 623) hC.1 hC.2.1 dL_law_618 (by decide) (fun hc => ?_) (fun hc => ?_)
        · have hw := hw.1 hc
          refine lv_iload hC.1 hC.2.1 dL_law_623 (lv_at hl 1 rfl) ?_
          refine lv_if_ne (tgt := 640) hC.1 hC.2.1 dL_law_625 (by decide) (fun hc => ?_) (fun hc => ?_)
          · have hw := hw.1 hc
            refine W.widen (k := (20 + k * 7 + 2)) (n := (663 + k * 275 + 12)) (lwe (Nat.le_of_ble_eq_true rfl)) (lwe (Nat.le_of_ble_eq_true rfl)) ?_
            exact bw_L_law_640 hl0 hC hs hbX hbl hbA hend hk hk23 _ _ _ _ _ hw _ _ hH _ (lv_sub hl [2, 3, 4, 5, 6] rfl)
          · have hw := hw.2 hc
            refine lv_aload_n hC.1 hC.2.1 dL_law_628 rfl (lv_at hl 5 rfl) ?_
            refine lv_iconst (v := 0) hC.1 hC.2.1 dL_law_629 (by decide) ?_
            obtain ⟨k96, hw⟩ := hw
            obtain ⟨i97, hw⟩ := hw
            refine m_jald hC hs hH k96 i97 dL_law_630 ?_
            refine lv_iload hC.1 hC.2.1 dL_law_631 (lv_at hl 0 rfl) ?_
            refine lv_i2l hC.1 hC.2.1 dL_law_633 rfl ?_
            refine W.lcmp hC.1 hC.2.1 dL_law_634 ?_
            refine lv_if_eq (tgt := 640) hC.1 hC.2.1 dL_law_635 (by decide) (fun hc => ?_) (fun hc => ?_)
            · have hw := hw.1 hc
              refine W.widen (k := (20 + k * 7 + 2)) (n := (663 + k * 275 + 12)) (lwe (Nat.le_of_ble_eq_true rfl)) (lwe (Nat.le_of_ble_eq_true rfl)) ?_
              exact bw_L_law_640 hl0 hC hs hbX hbl hbA hend hk hk23 _ _ _ _ _ hw _ _ hH _ (lv_sub hl [2, 3, 4, 5, 6] rfl)
            · have hw := hw.2 hc
              refine lv_iconst (v := 0) hC.1 hC.2.1 dL_law_638 (by decide) ?_
              exact False.elim hw
        · have hw := hw.2 hc
          refine lv_iconst (v := 0) hC.1 hC.2.1 dL_law_621 (by decide) ?_
          exact False.elim hw
      · have hw := hw.2.2.2.2.2.2.1 hj
        refine lv_tableIn (off := 603) (tgt := 643) hC.1 hC.2.1 dL_law_40 (by rw [hj]; decide) (by rw [hj]; decide) (by rw [hj]; decide) (by decide) ?_
        refine lv_aload_n hC.1 hC.2.1 dL_law_643 rfl (lv_at hl 1 rfl) ?_
        refine lv_aload_n hC.1 hC.2.1 dL_law_644 rfl (lv_at hl 0 rfl) ?_
        refine lv_iload hC.1 hC.2.1 dL_law_645 (lv_at hl 4 rfl) ?_
        refine lv_iconst (v := 1) hC.1 hC.2.1 dL_law_647 (by decide) ?_
        refine lv_iadd hC.1 hC.2.1 dL_law_648 ?_
        obtain ⟨i98, hw⟩ := hw
        refine va_sld (A := mB g) hC.1 hC.2.1 hbX hbl hbA hH.2.2 i98 dL_law_649 ?_
        refine lv_aload_n hC.1 hC.2.1 dL_law_650 rfl (lv_at hl 0 rfl) ?_
        refine lv_iload hC.1 hC.2.1 dL_law_651 (lv_at hl 4 rfl) ?_
        refine lv_iconst (v := 2) hC.1 hC.2.1 dL_law_653 (by decide) ?_
        refine lv_iadd hC.1 hC.2.1 dL_law_654 ?_
        obtain ⟨i99, hw⟩ := hw
        refine va_sld (A := mB g) hC.1 hC.2.1 hbX hbl hbA hH.2.2 i99 dL_law_655 ?_
        refine lv_aload_n hC.1 hC.2.1 dL_law_656 rfl (lv_at hl 3 rfl) ?_
        refine m_callXi (y := yL_setBundle) (rest := []) hC hs hH hl.1 (vx_cwSW 4 hC.2.2.2.2 (gA_SW q_392 q_393 q_59 q_394) rfl rfl rfl (by decide +kernel) ⟨Nat.le_of_ble_eq_true rfl, Nat.le_of_ble_eq_true rfl⟩) (met_L_setBundle l hl0 g _ _ _ _ _ _ _ hw) rfl rfl (Nat.le_of_ble_eq_true rfl) dL_law_657 ⟨lwr hk (Nat.le_of_ble_eq_true rfl), lwr hk (Nat.le_of_ble_eq_true rfl)⟩ mKx_no (fun r101 S1 H locs hw hH => ?_)
        refine W.widen (k := (20 + k * 7 + 2)) (n := (663 + k * 275 + 12)) (lww (Nat.le_of_ble_eq_true rfl)) (lww (Nat.le_of_ble_eq_true rfl)) ?_
        refine lv_istore (lv' := [(5, .int _), (0, .ref _), (1, .ref _), (2, .ref _), (3, .ref _), (4, .int _)]) hC.1 hC.2.1 dL_law_660 hl (by decide) rfl (fun ls hl => ?_)
        refine lv_aload_n hC.1 hC.2.1 dL_law_662 rfl (lv_at hl 3 rfl) ?_
        refine lv_aload_n hC.1 hC.2.1 dL_law_663 rfl (lv_at hl 1 rfl) ?_
        refine lv_iload hC.1 hC.2.1 dL_law_664 (lv_at hl 5 rfl) ?_
        refine lv_iconst (v := 1) hC.1 hC.2.1 dL_law_666 (by decide) ?_
        refine lv_iadd hC.1 hC.2.1 dL_law_667 ?_
        obtain ⟨i102, hw⟩ := hw
        refine va_sld (A := mB g) hC.1 hC.2.1 hbX hbl hbA hH.2.2 i102 dL_law_668 ?_
        refine lv_aload_n hC.1 hC.2.1 dL_law_669 rfl (lv_at hl 1 rfl) ?_
        refine lv_iload hC.1 hC.2.1 dL_law_670 (lv_at hl 5 rfl) ?_
        refine lv_iconst (v := 2) hC.1 hC.2.1 dL_law_672 (by decide) ?_
        refine lv_iadd hC.1 hC.2.1 dL_law_673 ?_
        obtain ⟨i103, hw⟩ := hw
        refine va_sld (A := mB g) hC.1 hC.2.1 hbX hbl hbA hH.2.2 i103 dL_law_674 ?_
        obtain ⟨k105, hw⟩ := hw
        refine m_callVi (y := yX5_setBundle) (rest := []) hC hs hH hl.1 (cwV 2 hC.2.2.2.2 (gA_V q_400 q_401 q_402 q_5 q_403) rfl rfl rfl (by decide +kernel) ⟨Nat.le_of_ble_eq_true rfl, Nat.le_of_ble_eq_true rfl⟩) cs5 k105 (met_X5_setBundle l hl0 g _ _ _ _ _ _ hw) rfl rfl (Nat.le_of_ble_eq_true rfl) dL_law_675 ⟨lwr hk (Nat.le_of_ble_eq_true rfl), lwr hk (Nat.le_of_ble_eq_true rfl)⟩ mKx_no (fun r106 S1 H locs hw hH => ?_)
        refine W.widen (k := (20 + k * 7 + 2)) (n := (663 + k * 275 + 12)) (lww (Nat.le_of_ble_eq_true rfl)) (lww (Nat.le_of_ble_eq_true rfl)) ?_
        refine lv_istore (lv' := [(6, .int _), (5, .int _), (0, .ref _), (1, .ref _), (2, .ref _), (3, .ref _), (4, .int _)]) hC.1 hC.2.1 dL_law_678 hl (by decide) rfl (fun ls hl => ?_)
        refine lv_aload_n hC.1 hC.2.1 dL_law_680 rfl (lv_at hl 4 rfl) ?_
        obtain ⟨k108, hw⟩ := hw
        refine m_callVi (y := yX5_thrown) (rest := []) hC hs hH hl.1 (cwV 0 hC.2.2.2.2 (gA_V q_163 q_164 q_165 q_5 q_166) rfl rfl rfl (by decide +kernel) ⟨Nat.le_of_ble_eq_true rfl, Nat.le_of_ble_eq_true rfl⟩) cs5 k108 (met_X5_thrown l hl0 g _ _ _ _ hw) rfl rfl (Nat.le_of_ble_eq_true rfl) dL_law_681 ⟨lwr hk (Nat.le_of_ble_eq_true rfl), lwr hk (Nat.le_of_ble_eq_true rfl)⟩ mKx_no (fun r109 S1 H locs hw hH => ?_)
        refine W.widen (k := (20 + k * 7 + 2)) (n := (663 + k * 275 + 12)) (lww (Nat.le_of_ble_eq_true rfl)) (lww (Nat.le_of_ble_eq_true rfl)) ?_
        refine lv_iload hC.1 hC.2.1 dL_law_684 (lv_at hl 1 rfl) ?_
        refine lv_icmp_eq (tgt := 691) hC.1 hC.2.1 dL_law_686 (by decide) (fun hc => ?_) (fun hc => ?_)
        · have hw := hw.1 hc
          refine lv_iload hC.1 hC.2.1 dL_law_691 (lv_at hl 1 rfl) ?_
          refine lv_if_ne (tgt := 708) hC.1 hC.2.1 dL_law_693 (by decide) (fun hc => ?_) (fun hc => ?_)
          · have hw := hw.1 hc
            refine W.widen (k := (20 + k * 7 + 2)) (n := (663 + k * 275 + 12)) (lwe (Nat.le_of_ble_eq_true rfl)) (lwe (Nat.le_of_ble_eq_true rfl)) ?_
            exact bw_L_law_708 hl0 hC hs hbX hbl hbA hend hk hk23 _ _ _ _ _ hw _ _ hH _ (lv_sub hl [2, 3, 4, 5, 6] rfl)
          · have hw := hw.2 hc
            refine lv_aload_n hC.1 hC.2.1 dL_law_696 rfl (lv_at hl 5 rfl) ?_
            refine lv_iconst (v := 0) hC.1 hC.2.1 dL_law_697 (by decide) ?_
            obtain ⟨k110, hw⟩ := hw
            obtain ⟨i111, hw⟩ := hw
            refine m_jald hC hs hH k110 i111 dL_law_698 ?_
            refine lv_iload hC.1 hC.2.1 dL_law_699 (lv_at hl 0 rfl) ?_
            refine lv_i2l hC.1 hC.2.1 dL_law_701 rfl ?_
            refine W.lcmp hC.1 hC.2.1 dL_law_702 ?_
            refine lv_if_eq (tgt := 708) hC.1 hC.2.1 dL_law_703 (by decide) (fun hc => ?_) (fun hc => ?_)
            · have hw := hw.1 hc
              refine W.widen (k := (20 + k * 7 + 2)) (n := (663 + k * 275 + 12)) (lwe (Nat.le_of_ble_eq_true rfl)) (lwe (Nat.le_of_ble_eq_true rfl)) ?_
              exact bw_L_law_708 hl0 hC hs hbX hbl hbA hend hk hk23 _ _ _ _ _ hw _ _ hH _ (lv_sub hl [2, 3, 4, 5, 6] rfl)
            · have hw := hw.2 hc
              refine lv_iconst (v := 0) hC.1 hC.2.1 dL_law_706 (by decide) ?_
              exact False.elim hw
        · have hw := hw.2 hc
          refine lv_iconst (v := 0) hC.1 hC.2.1 dL_law_689 (by decide) ?_
          exact False.elim hw
      · have hw := hw.2.2.2.2.2.2.2.1 hj
        refine lv_tableIn (off := 671) (tgt := 711) hC.1 hC.2.1 dL_law_40 (by rw [hj]; decide) (by rw [hj]; decide) (by rw [hj]; decide) (by decide) ?_
        refine lv_aload_n hC.1 hC.2.1 dL_law_711 rfl (lv_at hl 1 rfl) ?_
        refine lv_aload_n hC.1 hC.2.1 dL_law_712 rfl (lv_at hl 0 rfl) ?_
        refine lv_iload hC.1 hC.2.1 dL_law_713 (lv_at hl 4 rfl) ?_
        refine lv_iconst (v := 1) hC.1 hC.2.1 dL_law_715 (by decide) ?_
        refine lv_iadd hC.1 hC.2.1 dL_law_716 ?_
        obtain ⟨i112, hw⟩ := hw
        refine va_sld (A := mB g) hC.1 hC.2.1 hbX hbl hbA hH.2.2 i112 dL_law_717 ?_
        refine lv_aload_n hC.1 hC.2.1 dL_law_718 rfl (lv_at hl 0 rfl) ?_
        refine lv_iload hC.1 hC.2.1 dL_law_719 (lv_at hl 4 rfl) ?_
        refine lv_iconst (v := 2) hC.1 hC.2.1 dL_law_721 (by decide) ?_
        refine lv_iadd hC.1 hC.2.1 dL_law_722 ?_
        obtain ⟨i113, hw⟩ := hw
        refine va_sld (A := mB g) hC.1 hC.2.1 hbX hbl hbA hH.2.2 i113 dL_law_723 ?_
        refine lv_aload_n hC.1 hC.2.1 dL_law_724 rfl (lv_at hl 0 rfl) ?_
        refine lv_iload hC.1 hC.2.1 dL_law_725 (lv_at hl 4 rfl) ?_
        refine lv_iconst (v := 3) hC.1 hC.2.1 dL_law_727 (by decide) ?_
        refine lv_iadd hC.1 hC.2.1 dL_law_728 ?_
        obtain ⟨i114, hw⟩ := hw
        refine va_sld (A := mB g) hC.1 hC.2.1 hbX hbl hbA hH.2.2 i114 dL_law_729 ?_
        refine lv_aload_n hC.1 hC.2.1 dL_law_730 rfl (lv_at hl 0 rfl) ?_
        refine lv_iload hC.1 hC.2.1 dL_law_731 (lv_at hl 4 rfl) ?_
        refine lv_iconst (v := 4) hC.1 hC.2.1 dL_law_733 (by decide) ?_
        refine lv_iadd hC.1 hC.2.1 dL_law_734 ?_
        obtain ⟨i115, hw⟩ := hw
        refine va_sld (A := mB g) hC.1 hC.2.1 hbX hbl hbA hH.2.2 i115 dL_law_735 ?_
        refine lv_aload_n hC.1 hC.2.1 dL_law_736 rfl (lv_at hl 3 rfl) ?_
        refine m_callXi (y := yL_addCall) (rest := []) hC hs hH hl.1 (vx_cwSW 6 hC.2.2.2.2 (gA_SW q_404 q_405 q_59 q_406) rfl rfl rfl (by decide +kernel) ⟨Nat.le_of_ble_eq_true rfl, Nat.le_of_ble_eq_true rfl⟩) (met_L_addCall l hl0 g _ _ _ _ _ _ _ _ _ hw) rfl rfl (Nat.le_of_ble_eq_true rfl) dL_law_737 ⟨lwr hk (Nat.le_of_ble_eq_true rfl), lwr hk (Nat.le_of_ble_eq_true rfl)⟩ mKx_no (fun r117 S1 H locs hw hH => ?_)
        refine W.widen (k := (20 + k * 7 + 4)) (n := (663 + k * 275 + 271)) (lww (Nat.le_of_ble_eq_true rfl)) (lww (Nat.le_of_ble_eq_true rfl)) ?_
        refine lv_istore (lv' := [(5, .int _), (0, .ref _), (1, .ref _), (2, .ref _), (3, .ref _), (4, .int _)]) hC.1 hC.2.1 dL_law_740 hl (by decide) rfl (fun ls hl => ?_)
        refine lv_aload_n hC.1 hC.2.1 dL_law_742 rfl (lv_at hl 3 rfl) ?_
        refine lv_aload_n hC.1 hC.2.1 dL_law_743 rfl (lv_at hl 1 rfl) ?_
        refine lv_iload hC.1 hC.2.1 dL_law_744 (lv_at hl 5 rfl) ?_
        refine lv_iconst (v := 1) hC.1 hC.2.1 dL_law_746 (by decide) ?_
        refine lv_iadd hC.1 hC.2.1 dL_law_747 ?_
        obtain ⟨i118, hw⟩ := hw
        refine va_sld (A := mB g) hC.1 hC.2.1 hbX hbl hbA hH.2.2 i118 dL_law_748 ?_
        refine lv_aload_n hC.1 hC.2.1 dL_law_749 rfl (lv_at hl 1 rfl) ?_
        refine lv_iload hC.1 hC.2.1 dL_law_750 (lv_at hl 5 rfl) ?_
        refine lv_iconst (v := 2) hC.1 hC.2.1 dL_law_752 (by decide) ?_
        refine lv_iadd hC.1 hC.2.1 dL_law_753 ?_
        obtain ⟨i119, hw⟩ := hw
        refine va_sld (A := mB g) hC.1 hC.2.1 hbX hbl hbA hH.2.2 i119 dL_law_754 ?_
        refine lv_aload_n hC.1 hC.2.1 dL_law_755 rfl (lv_at hl 1 rfl) ?_
        refine lv_iload hC.1 hC.2.1 dL_law_756 (lv_at hl 5 rfl) ?_
        refine lv_iconst (v := 3) hC.1 hC.2.1 dL_law_758 (by decide) ?_
        refine lv_iadd hC.1 hC.2.1 dL_law_759 ?_
        obtain ⟨i120, hw⟩ := hw
        refine va_sld (A := mB g) hC.1 hC.2.1 hbX hbl hbA hH.2.2 i120 dL_law_760 ?_
        refine lv_aload_n hC.1 hC.2.1 dL_law_761 rfl (lv_at hl 1 rfl) ?_
        refine lv_iload hC.1 hC.2.1 dL_law_762 (lv_at hl 5 rfl) ?_
        refine lv_iconst (v := 4) hC.1 hC.2.1 dL_law_764 (by decide) ?_
        refine lv_iadd hC.1 hC.2.1 dL_law_765 ?_
        obtain ⟨i121, hw⟩ := hw
        refine va_sld (A := mB g) hC.1 hC.2.1 hbX hbl hbA hH.2.2 i121 dL_law_766 ?_
        obtain ⟨k123, hw⟩ := hw
        refine m_callVi (y := yX5_addCall) (rest := []) hC hs hH hl.1 (cwV 4 hC.2.2.2.2 (gA_V q_435 q_436 q_437 q_5 q_438) rfl rfl rfl (by decide +kernel) ⟨Nat.le_of_ble_eq_true rfl, Nat.le_of_ble_eq_true rfl⟩) cs5 k123 (met_X5_addCall l hl0 g _ _ _ _ _ _ _ _ hw) rfl rfl (Nat.le_of_ble_eq_true rfl) dL_law_767 ⟨lwr hk (Nat.le_of_ble_eq_true rfl), lwr hk (Nat.le_of_ble_eq_true rfl)⟩ mKx_no (fun r124 S1 H locs hw hH => ?_)
        refine W.widen (k := (20 + k * 7 + 5)) (n := (663 + k * 275 + 275)) (lww (Nat.le_of_ble_eq_true rfl)) (lww (Nat.le_of_ble_eq_true rfl)) ?_
        refine lv_istore (lv' := [(6, .int _), (5, .int _), (0, .ref _), (1, .ref _), (2, .ref _), (3, .ref _), (4, .int _)]) hC.1 hC.2.1 dL_law_770 hl (by decide) rfl (fun ls hl => ?_)
        refine lv_aload_n hC.1 hC.2.1 dL_law_772 rfl (lv_at hl 4 rfl) ?_
        obtain ⟨k126, hw⟩ := hw
        refine m_callVi (y := yX5_thrown) (rest := []) hC hs hH hl.1 (cwV 0 hC.2.2.2.2 (gA_V q_163 q_164 q_165 q_5 q_166) rfl rfl rfl (by decide +kernel) ⟨Nat.le_of_ble_eq_true rfl, Nat.le_of_ble_eq_true rfl⟩) cs5 k126 (met_X5_thrown l hl0 g _ _ _ _ hw) rfl rfl (Nat.le_of_ble_eq_true rfl) dL_law_773 ⟨lwr hk (Nat.le_of_ble_eq_true rfl), lwr hk (Nat.le_of_ble_eq_true rfl)⟩ mKx_no (fun r127 S1 H locs hw hH => ?_)
        refine W.widen (k := (20 + k * 7 + 5)) (n := (663 + k * 275 + 275)) (lww (Nat.le_of_ble_eq_true rfl)) (lww (Nat.le_of_ble_eq_true rfl)) ?_
        refine lv_iload hC.1 hC.2.1 dL_law_776 (lv_at hl 1 rfl) ?_
        refine lv_icmp_eq (tgt := 783) hC.1 hC.2.1 dL_law_778 (by decide) (fun hc => ?_) (fun hc => ?_)
        · have hw := hw.1 hc
          refine lv_iload hC.1 hC.2.1 dL_law_783 (lv_at hl 1 rfl) ?_
          refine lv_if_ne (tgt := 800) hC.1 hC.2.1 dL_law_785 (by decide) (fun hc => ?_) (fun hc => ?_)
          · have hw := hw.1 hc
            refine W.widen (k := (20 + k * 7 + 5)) (n := (663 + k * 275 + 275)) (lwe (Nat.le_of_ble_eq_true rfl)) (lwe (Nat.le_of_ble_eq_true rfl)) ?_
            exact bw_L_law_800 hl0 hC hs hbX hbl hbA hend hk hk23 _ _ _ _ _ hw _ _ hH _ (lv_sub hl [2, 3, 4, 5, 6] rfl)
          · have hw := hw.2 hc
            refine lv_aload_n hC.1 hC.2.1 dL_law_788 rfl (lv_at hl 5 rfl) ?_
            refine lv_iconst (v := 0) hC.1 hC.2.1 dL_law_789 (by decide) ?_
            obtain ⟨k128, hw⟩ := hw
            obtain ⟨i129, hw⟩ := hw
            refine m_jald hC hs hH k128 i129 dL_law_790 ?_
            refine lv_iload hC.1 hC.2.1 dL_law_791 (lv_at hl 0 rfl) ?_
            refine lv_i2l hC.1 hC.2.1 dL_law_793 rfl ?_
            refine W.lcmp hC.1 hC.2.1 dL_law_794 ?_
            refine lv_if_eq (tgt := 800) hC.1 hC.2.1 dL_law_795 (by decide) (fun hc => ?_) (fun hc => ?_)
            · have hw := hw.1 hc
              refine W.widen (k := (20 + k * 7 + 5)) (n := (663 + k * 275 + 275)) (lwe (Nat.le_of_ble_eq_true rfl)) (lwe (Nat.le_of_ble_eq_true rfl)) ?_
              exact bw_L_law_800 hl0 hC hs hbX hbl hbA hend hk hk23 _ _ _ _ _ hw _ _ hH _ (lv_sub hl [2, 3, 4, 5, 6] rfl)
            · have hw := hw.2 hc
              refine lv_iconst (v := 0) hC.1 hC.2.1 dL_law_798 (by decide) ?_
              exact False.elim hw
        · have hw := hw.2 hc
          refine lv_iconst (v := 0) hC.1 hC.2.1 dL_law_781 (by decide) ?_
          exact False.elim hw
      · have hw := hw.2.2.2.2.2.2.2.2.1 hj
        refine lv_tableIn (off := 763) (tgt := 803) hC.1 hC.2.1 dL_law_40 (by rw [hj]; decide) (by rw [hj]; decide) (by rw [hj]; decide) (by decide) ?_
        refine lv_aload_n hC.1 hC.2.1 dL_law_803 rfl (lv_at hl 1 rfl) ?_
        refine lv_aload_n hC.1 hC.2.1 dL_law_804 rfl (lv_at hl 0 rfl) ?_
        refine lv_iload hC.1 hC.2.1 dL_law_805 (lv_at hl 4 rfl) ?_
        refine lv_iconst (v := 1) hC.1 hC.2.1 dL_law_807 (by decide) ?_
        refine lv_iadd hC.1 hC.2.1 dL_law_808 ?_
        obtain ⟨i130, hw⟩ := hw
        refine va_sld (A := mB g) hC.1 hC.2.1 hbX hbl hbA hH.2.2 i130 dL_law_809 ?_
        refine lv_aload_n hC.1 hC.2.1 dL_law_810 rfl (lv_at hl 0 rfl) ?_
        refine lv_iload hC.1 hC.2.1 dL_law_811 (lv_at hl 4 rfl) ?_
        refine lv_iconst (v := 2) hC.1 hC.2.1 dL_law_813 (by decide) ?_
        refine lv_iadd hC.1 hC.2.1 dL_law_814 ?_
        obtain ⟨i131, hw⟩ := hw
        refine va_sld (A := mB g) hC.1 hC.2.1 hbX hbl hbA hH.2.2 i131 dL_law_815 ?_
        refine lv_aload_n hC.1 hC.2.1 dL_law_816 rfl (lv_at hl 3 rfl) ?_
        refine m_callXi (y := yL_correct) (rest := []) hC hs hH hl.1 (vx_cwSW 4 hC.2.2.2.2 (gA_SW q_441 q_442 q_59 q_443) rfl rfl rfl (by decide +kernel) ⟨Nat.le_of_ble_eq_true rfl, Nat.le_of_ble_eq_true rfl⟩) (met_L_correct l hl0 g _ _ _ _ _ _ _ hw) rfl rfl (Nat.le_of_ble_eq_true rfl) dL_law_817 ⟨lwr hk (Nat.le_of_ble_eq_true rfl), lwr hk (Nat.le_of_ble_eq_true rfl)⟩ mKx_no (fun r133 S1 H locs hw hH => ?_)
        refine W.widen (k := (20 + k * 7 + 2)) (n := (663 + k * 275 + 12)) (lww (Nat.le_of_ble_eq_true rfl)) (lww (Nat.le_of_ble_eq_true rfl)) ?_
        refine lv_istore (lv' := [(5, .int _), (0, .ref _), (1, .ref _), (2, .ref _), (3, .ref _), (4, .int _)]) hC.1 hC.2.1 dL_law_820 hl (by decide) rfl (fun ls hl => ?_)
        refine lv_aload_n hC.1 hC.2.1 dL_law_822 rfl (lv_at hl 3 rfl) ?_
        refine lv_aload_n hC.1 hC.2.1 dL_law_823 rfl (lv_at hl 1 rfl) ?_
        refine lv_iload hC.1 hC.2.1 dL_law_824 (lv_at hl 5 rfl) ?_
        refine lv_iconst (v := 1) hC.1 hC.2.1 dL_law_826 (by decide) ?_
        refine lv_iadd hC.1 hC.2.1 dL_law_827 ?_
        obtain ⟨i134, hw⟩ := hw
        refine va_sld (A := mB g) hC.1 hC.2.1 hbX hbl hbA hH.2.2 i134 dL_law_828 ?_
        refine lv_aload_n hC.1 hC.2.1 dL_law_829 rfl (lv_at hl 1 rfl) ?_
        refine lv_iload hC.1 hC.2.1 dL_law_830 (lv_at hl 5 rfl) ?_
        refine lv_iconst (v := 2) hC.1 hC.2.1 dL_law_832 (by decide) ?_
        refine lv_iadd hC.1 hC.2.1 dL_law_833 ?_
        obtain ⟨i135, hw⟩ := hw
        refine va_sld (A := mB g) hC.1 hC.2.1 hbX hbl hbA hH.2.2 i135 dL_law_834 ?_
        obtain ⟨k137, hw⟩ := hw
        refine m_callVi (y := yX5_correct) (rest := []) hC hs hH hl.1 (cwV 2 hC.2.2.2.2 (gA_V q_452 q_453 q_454 q_5 q_455) rfl rfl rfl (by decide +kernel) ⟨Nat.le_of_ble_eq_true rfl, Nat.le_of_ble_eq_true rfl⟩) cs5 k137 (met_X5_correct l hl0 g _ _ _ _ _ _ hw) rfl rfl (Nat.le_of_ble_eq_true rfl) dL_law_835 ⟨lwr hk (Nat.le_of_ble_eq_true rfl), lwr hk (Nat.le_of_ble_eq_true rfl)⟩ mKx_no (fun r138 S1 H locs hw hH => ?_)
        refine W.widen (k := (20 + k * 7 + 2)) (n := (663 + k * 275 + 12)) (lww (Nat.le_of_ble_eq_true rfl)) (lww (Nat.le_of_ble_eq_true rfl)) ?_
        refine lv_istore (lv' := [(6, .int _), (5, .int _), (0, .ref _), (1, .ref _), (2, .ref _), (3, .ref _), (4, .int _)]) hC.1 hC.2.1 dL_law_838 hl (by decide) rfl (fun ls hl => ?_)
        refine lv_aload_n hC.1 hC.2.1 dL_law_840 rfl (lv_at hl 4 rfl) ?_
        obtain ⟨k140, hw⟩ := hw
        refine m_callVi (y := yX5_thrown) (rest := []) hC hs hH hl.1 (cwV 0 hC.2.2.2.2 (gA_V q_163 q_164 q_165 q_5 q_166) rfl rfl rfl (by decide +kernel) ⟨Nat.le_of_ble_eq_true rfl, Nat.le_of_ble_eq_true rfl⟩) cs5 k140 (met_X5_thrown l hl0 g _ _ _ _ hw) rfl rfl (Nat.le_of_ble_eq_true rfl) dL_law_841 ⟨lwr hk (Nat.le_of_ble_eq_true rfl), lwr hk (Nat.le_of_ble_eq_true rfl)⟩ mKx_no (fun r141 S1 H locs hw hH => ?_)
        refine W.widen (k := (20 + k * 7 + 2)) (n := (663 + k * 275 + 12)) (lww (Nat.le_of_ble_eq_true rfl)) (lww (Nat.le_of_ble_eq_true rfl)) ?_
        refine lv_iload hC.1 hC.2.1 dL_law_844 (lv_at hl 1 rfl) ?_
        refine lv_icmp_eq (tgt := 851) hC.1 hC.2.1 dL_law_846 (by decide) (fun hc => ?_) (fun hc => ?_)
        · have hw := hw.1 hc
          refine lv_iload hC.1 hC.2.1 dL_law_851 (lv_at hl 1 rfl) ?_
          refine lv_if_ne (tgt := 868) hC.1 hC.2.1 dL_law_853 (by decide) (fun hc => ?_) (fun hc => ?_)
          · have hw := hw.1 hc
            refine W.widen (k := (20 + k * 7 + 2)) (n := (663 + k * 275 + 12)) (lwe (Nat.le_of_ble_eq_true rfl)) (lwe (Nat.le_of_ble_eq_true rfl)) ?_
            exact bw_L_law_868 hl0 hC hs hbX hbl hbA hend hk hk23 _ _ _ _ _ hw _ _ hH _ (lv_sub hl [2, 3, 4, 5, 6] rfl)
          · have hw := hw.2 hc
            refine lv_aload_n hC.1 hC.2.1 dL_law_856 rfl (lv_at hl 5 rfl) ?_
            refine lv_iconst (v := 0) hC.1 hC.2.1 dL_law_857 (by decide) ?_
            obtain ⟨k142, hw⟩ := hw
            obtain ⟨i143, hw⟩ := hw
            refine m_jald hC hs hH k142 i143 dL_law_858 ?_
            refine lv_iload hC.1 hC.2.1 dL_law_859 (lv_at hl 0 rfl) ?_
            refine lv_i2l hC.1 hC.2.1 dL_law_861 rfl ?_
            refine W.lcmp hC.1 hC.2.1 dL_law_862 ?_
            refine lv_if_eq (tgt := 868) hC.1 hC.2.1 dL_law_863 (by decide) (fun hc => ?_) (fun hc => ?_)
            · have hw := hw.1 hc
              refine W.widen (k := (20 + k * 7 + 2)) (n := (663 + k * 275 + 12)) (lwe (Nat.le_of_ble_eq_true rfl)) (lwe (Nat.le_of_ble_eq_true rfl)) ?_
              exact bw_L_law_868 hl0 hC hs hbX hbl hbA hend hk hk23 _ _ _ _ _ hw _ _ hH _ (lv_sub hl [2, 3, 4, 5, 6] rfl)
            · have hw := hw.2 hc
              refine lv_iconst (v := 0) hC.1 hC.2.1 dL_law_866 (by decide) ?_
              exact False.elim hw
        · have hw := hw.2 hc
          refine lv_iconst (v := 0) hC.1 hC.2.1 dL_law_849 (by decide) ?_
          exact False.elim hw
      · have hw := hw.2.2.2.2.2.2.2.2.2.1 hj
        refine lv_tableIn (off := 831) (tgt := 871) hC.1 hC.2.1 dL_law_40 (by rw [hj]; decide) (by rw [hj]; decide) (by rw [hj]; decide) (by decide) ?_
        refine lv_aload_n hC.1 hC.2.1 dL_law_871 rfl (lv_at hl 1 rfl) ?_
        obtain ⟨k145, hw⟩ := hw
        refine m_callVi (y := yX4_callCount) (rest := []) hC hs hH hl.1 (cwV 0 hC.2.2.2.2 (gA_V q_460 q_461 q_462 q_2 q_463) rfl rfl rfl (by decide +kernel) ⟨Nat.le_of_ble_eq_true rfl, Nat.le_of_ble_eq_true rfl⟩) cs4 k145 (met_X4_callCount l hl0 g _ _ _ _ hw) rfl rfl (Nat.le_of_ble_eq_true rfl) dL_law_872 ⟨lwr hk (Nat.le_of_ble_eq_true rfl), lwr hk (Nat.le_of_ble_eq_true rfl)⟩ mKx_no (fun r146 S1 H locs hw hH => ?_)
        refine W.widen (k := (20 + k * 7 + 0)) (n := (663 + k * 275 + 0)) (lww (Nat.le_of_ble_eq_true rfl)) (lww (Nat.le_of_ble_eq_true rfl)) ?_
        refine lv_aload_n hC.1 hC.2.1 dL_law_875 rfl (lv_at hl 2 rfl) ?_
        obtain ⟨k148, hw⟩ := hw
        refine m_callVi (y := yX5_callCount) (rest := [.int _]) hC hs hH hl.1 (cwV 0 hC.2.2.2.2 (gA_V q_464 q_465 q_466 q_5 q_467) rfl rfl rfl (by decide +kernel) ⟨Nat.le_of_ble_eq_true rfl, Nat.le_of_ble_eq_true rfl⟩) cs5 k148 (met_X5_callCount l hl0 g _ _ _ _ hw) rfl rfl (Nat.le_of_ble_eq_true rfl) dL_law_876 ⟨lwr hk (Nat.le_of_ble_eq_true rfl), lwr hk (Nat.le_of_ble_eq_true rfl)⟩ mKx_no (fun r149 S1 H locs hw hH => ?_)
        refine W.widen (k := (20 + k * 7 + 0)) (n := (663 + k * 275 + 0)) (lww (Nat.le_of_ble_eq_true rfl)) (lww (Nat.le_of_ble_eq_true rfl)) ?_
        refine lv_icmp_eq (tgt := 1667) hC.1 hC.2.1 dL_law_879 (by decide) (fun hc => ?_) (fun hc => ?_)
        · have hw := hw.1 hc
          refine W.widen (k := (20 + k * 7 + 7)) (n := (663 + k * 275 + 275)) (lwe (Nat.le_of_ble_eq_true rfl)) (lwe (Nat.le_of_ble_eq_true rfl)) ?_
          exact bw_L_law_1667 hl0 hC hs hbX hbl hbA hend hk hk23 _ _ _ _ _ hw _ _ hH _ (lv_sub hl [0, 1, 2, 3, 4] rfl)
        · have hw := hw.2 hc
          refine lv_iconst (v := 0) hC.1 hC.2.1 dL_law_882 (by decide) ?_
          exact False.elim hw
      · have hw := hw.2.2.2.2.2.2.2.2.2.2.1 hj
        refine lv_tableIn (off := 844) (tgt := 884) hC.1 hC.2.1 dL_law_40 (by rw [hj]; decide) (by rw [hj]; decide) (by rw [hj]; decide) (by decide) ?_
        refine lv_aload_n hC.1 hC.2.1 dL_law_884 rfl (lv_at hl 1 rfl) ?_
        refine lv_aload_n hC.1 hC.2.1 dL_law_885 rfl (lv_at hl 0 rfl) ?_
        refine lv_iload hC.1 hC.2.1 dL_law_886 (lv_at hl 4 rfl) ?_
        refine lv_iconst (v := 1) hC.1 hC.2.1 dL_law_888 (by decide) ?_
        refine lv_iadd hC.1 hC.2.1 dL_law_889 ?_
        obtain ⟨i150, hw⟩ := hw
        refine va_sld (A := mB g) hC.1 hC.2.1 hbX hbl hbA hH.2.2 i150 dL_law_890 ?_
        refine lv_aload_n hC.1 hC.2.1 dL_law_891 rfl (lv_at hl 3 rfl) ?_
        refine m_callXi (y := yL_callAt) (rest := []) hC hs hH hl.1 (vx_cwSW 3 hC.2.2.2.2 (gA_SW q_468 q_469 q_59 q_470) rfl rfl rfl (by decide +kernel) ⟨Nat.le_of_ble_eq_true rfl, Nat.le_of_ble_eq_true rfl⟩) (met_L_callAt l hl0 g _ _ _ _ _ _ hw) rfl rfl (Nat.le_of_ble_eq_true rfl) dL_law_892 ⟨lwr hk (Nat.le_of_ble_eq_true rfl), lwr hk (Nat.le_of_ble_eq_true rfl)⟩ mKx_no (fun r152 S1 H locs hw hH => ?_)
        refine W.widen (k := (20 + k * 7 + 1)) (n := (663 + k * 275 + 6)) (lww (Nat.le_of_ble_eq_true rfl)) (lww (Nat.le_of_ble_eq_true rfl)) ?_
        refine lv_istore (lv' := [(5, .int _), (0, .ref _), (1, .ref _), (2, .ref _), (3, .ref _), (4, .int _)]) hC.1 hC.2.1 dL_law_895 hl (by decide) rfl (fun ls hl => ?_)
        refine lv_aload_n hC.1 hC.2.1 dL_law_897 rfl (lv_at hl 3 rfl) ?_
        refine lv_aload_n hC.1 hC.2.1 dL_law_898 rfl (lv_at hl 1 rfl) ?_
        refine lv_iload hC.1 hC.2.1 dL_law_899 (lv_at hl 5 rfl) ?_
        refine lv_iconst (v := 1) hC.1 hC.2.1 dL_law_901 (by decide) ?_
        refine lv_iadd hC.1 hC.2.1 dL_law_902 ?_
        obtain ⟨i153, hw⟩ := hw
        refine va_sld (A := mB g) hC.1 hC.2.1 hbX hbl hbA hH.2.2 i153 dL_law_903 ?_
        obtain ⟨k155, hw⟩ := hw
        refine m_callVi (y := yX5_callAt) (rest := []) hC hs hH hl.1 (cwV 1 hC.2.2.2.2 (gA_V q_476 q_477 q_478 q_5 q_479) rfl rfl rfl (by decide +kernel) ⟨Nat.le_of_ble_eq_true rfl, Nat.le_of_ble_eq_true rfl⟩) cs5 k155 (met_X5_callAt l hl0 g _ _ _ _ _ hw) rfl rfl (Nat.le_of_ble_eq_true rfl) dL_law_904 ⟨lwr hk (Nat.le_of_ble_eq_true rfl), lwr hk (Nat.le_of_ble_eq_true rfl)⟩ mKx_no (fun r156 S1 H locs hw hH => ?_)
        refine W.widen (k := (20 + k * 7 + 1)) (n := (663 + k * 275 + 6)) (lww (Nat.le_of_ble_eq_true rfl)) (lww (Nat.le_of_ble_eq_true rfl)) ?_
        refine lv_istore (lv' := [(6, .int _), (5, .int _), (0, .ref _), (1, .ref _), (2, .ref _), (3, .ref _), (4, .int _)]) hC.1 hC.2.1 dL_law_907 hl (by decide) rfl (fun ls hl => ?_)
        refine lv_aload_n hC.1 hC.2.1 dL_law_909 rfl (lv_at hl 4 rfl) ?_
        obtain ⟨k158, hw⟩ := hw
        refine m_callVi (y := yX5_thrown) (rest := []) hC hs hH hl.1 (cwV 0 hC.2.2.2.2 (gA_V q_163 q_164 q_165 q_5 q_166) rfl rfl rfl (by decide +kernel) ⟨Nat.le_of_ble_eq_true rfl, Nat.le_of_ble_eq_true rfl⟩) cs5 k158 (met_X5_thrown l hl0 g _ _ _ _ hw) rfl rfl (Nat.le_of_ble_eq_true rfl) dL_law_910 ⟨lwr hk (Nat.le_of_ble_eq_true rfl), lwr hk (Nat.le_of_ble_eq_true rfl)⟩ mKx_no (fun r159 S1 H locs hw hH => ?_)
        refine W.widen (k := (20 + k * 7 + 1)) (n := (663 + k * 275 + 6)) (lww (Nat.le_of_ble_eq_true rfl)) (lww (Nat.le_of_ble_eq_true rfl)) ?_
        refine lv_iload hC.1 hC.2.1 dL_law_913 (lv_at hl 1 rfl) ?_
        refine lv_icmp_eq (tgt := 920) hC.1 hC.2.1 dL_law_915 (by decide) (fun hc => ?_) (fun hc => ?_)
        · have hw := hw.1 hc
          refine lv_iload hC.1 hC.2.1 dL_law_920 (lv_at hl 1 rfl) ?_
          refine lv_if_ne (tgt := 937) hC.1 hC.2.1 dL_law_922 (by decide) (fun hc => ?_) (fun hc => ?_)
          · have hw := hw.1 hc
            refine W.widen (k := (20 + k * 7 + 1)) (n := (663 + k * 275 + 6)) (lwe (Nat.le_of_ble_eq_true rfl)) (lwe (Nat.le_of_ble_eq_true rfl)) ?_
            exact bw_L_law_937 hl0 hC hs hbX hbl hbA hend hk hk23 _ _ _ _ _ hw _ _ hH _ (lv_sub hl [2, 3, 4, 5, 6] rfl)
          · have hw := hw.2 hc
            refine lv_aload_n hC.1 hC.2.1 dL_law_925 rfl (lv_at hl 5 rfl) ?_
            refine lv_iconst (v := 0) hC.1 hC.2.1 dL_law_926 (by decide) ?_
            obtain ⟨k160, hw⟩ := hw
            obtain ⟨i161, hw⟩ := hw
            refine m_jald hC hs hH k160 i161 dL_law_927 ?_
            refine lv_iload hC.1 hC.2.1 dL_law_928 (lv_at hl 0 rfl) ?_
            refine lv_i2l hC.1 hC.2.1 dL_law_930 rfl ?_
            refine W.lcmp hC.1 hC.2.1 dL_law_931 ?_
            refine lv_if_eq (tgt := 937) hC.1 hC.2.1 dL_law_932 (by decide) (fun hc => ?_) (fun hc => ?_)
            · have hw := hw.1 hc
              refine W.widen (k := (20 + k * 7 + 1)) (n := (663 + k * 275 + 6)) (lwe (Nat.le_of_ble_eq_true rfl)) (lwe (Nat.le_of_ble_eq_true rfl)) ?_
              exact bw_L_law_937 hl0 hC hs hbX hbl hbA hend hk hk23 _ _ _ _ _ hw _ _ hH _ (lv_sub hl [2, 3, 4, 5, 6] rfl)
            · have hw := hw.2 hc
              refine lv_iconst (v := 0) hC.1 hC.2.1 dL_law_935 (by decide) ?_
              exact False.elim hw
        · have hw := hw.2 hc
          refine lv_iconst (v := 0) hC.1 hC.2.1 dL_law_918 (by decide) ?_
          exact False.elim hw
      · have hw := hw.2.2.2.2.2.2.2.2.2.2.2.1 hj
        refine lv_tableIn (off := 900) (tgt := 940) hC.1 hC.2.1 dL_law_40 (by rw [hj]; decide) (by rw [hj]; decide) (by rw [hj]; decide) (by decide) ?_
        refine lv_aload_n hC.1 hC.2.1 dL_law_940 rfl (lv_at hl 1 rfl) ?_
        refine lv_aload_n hC.1 hC.2.1 dL_law_941 rfl (lv_at hl 0 rfl) ?_
        refine lv_iload hC.1 hC.2.1 dL_law_942 (lv_at hl 4 rfl) ?_
        refine lv_iconst (v := 1) hC.1 hC.2.1 dL_law_944 (by decide) ?_
        refine lv_iadd hC.1 hC.2.1 dL_law_945 ?_
        obtain ⟨i162, hw⟩ := hw
        refine va_sld (A := mB g) hC.1 hC.2.1 hbX hbl hbA hH.2.2 i162 dL_law_946 ?_
        refine lv_aload_n hC.1 hC.2.1 dL_law_947 rfl (lv_at hl 3 rfl) ?_
        refine m_callXi (y := yL_isPeak) (rest := []) hC hs hH hl.1 (vx_cwSW 3 hC.2.2.2.2 (gA_SW q_480 q_481 q_59 q_482) rfl rfl rfl (by decide +kernel) ⟨Nat.le_of_ble_eq_true rfl, Nat.le_of_ble_eq_true rfl⟩) (met_L_isPeak l hl0 g _ _ _ _ _ _ hw) rfl rfl (Nat.le_of_ble_eq_true rfl) dL_law_948 ⟨lwr hk (Nat.le_of_ble_eq_true rfl), lwr hk (Nat.le_of_ble_eq_true rfl)⟩ mKx_no (fun r164 S1 H locs hw hH => ?_)
        refine W.widen (k := (20 + k * 7 + 1)) (n := (663 + k * 275 + 6)) (lww (Nat.le_of_ble_eq_true rfl)) (lww (Nat.le_of_ble_eq_true rfl)) ?_
        refine lv_istore (lv' := [(5, .int _), (0, .ref _), (1, .ref _), (2, .ref _), (3, .ref _), (4, .int _)]) hC.1 hC.2.1 dL_law_951 hl (by decide) rfl (fun ls hl => ?_)
        refine lv_aload_n hC.1 hC.2.1 dL_law_953 rfl (lv_at hl 3 rfl) ?_
        refine lv_aload_n hC.1 hC.2.1 dL_law_954 rfl (lv_at hl 1 rfl) ?_
        refine lv_iload hC.1 hC.2.1 dL_law_955 (lv_at hl 5 rfl) ?_
        refine lv_iconst (v := 1) hC.1 hC.2.1 dL_law_957 (by decide) ?_
        refine lv_iadd hC.1 hC.2.1 dL_law_958 ?_
        obtain ⟨i165, hw⟩ := hw
        refine va_sld (A := mB g) hC.1 hC.2.1 hbX hbl hbA hH.2.2 i165 dL_law_959 ?_
        obtain ⟨k167, hw⟩ := hw
        refine m_callVi (y := yX5_isPeak) (rest := []) hC hs hH hl.1 (cwV 1 hC.2.2.2.2 (gA_V q_487 q_488 q_489 q_5 q_490) rfl rfl rfl (by decide +kernel) ⟨Nat.le_of_ble_eq_true rfl, Nat.le_of_ble_eq_true rfl⟩) cs5 k167 (met_X5_isPeak l hl0 g _ _ _ _ _ hw) rfl rfl (Nat.le_of_ble_eq_true rfl) dL_law_960 ⟨lwr hk (Nat.le_of_ble_eq_true rfl), lwr hk (Nat.le_of_ble_eq_true rfl)⟩ mKx_no (fun r168 S1 H locs hw hH => ?_)
        refine W.widen (k := (20 + k * 7 + 1)) (n := (663 + k * 275 + 6)) (lww (Nat.le_of_ble_eq_true rfl)) (lww (Nat.le_of_ble_eq_true rfl)) ?_
        refine lv_istore (lv' := [(6, .int _), (5, .int _), (0, .ref _), (1, .ref _), (2, .ref _), (3, .ref _), (4, .int _)]) hC.1 hC.2.1 dL_law_963 hl (by decide) rfl (fun ls hl => ?_)
        refine lv_aload_n hC.1 hC.2.1 dL_law_965 rfl (lv_at hl 4 rfl) ?_
        obtain ⟨k170, hw⟩ := hw
        refine m_callVi (y := yX5_thrown) (rest := []) hC hs hH hl.1 (cwV 0 hC.2.2.2.2 (gA_V q_163 q_164 q_165 q_5 q_166) rfl rfl rfl (by decide +kernel) ⟨Nat.le_of_ble_eq_true rfl, Nat.le_of_ble_eq_true rfl⟩) cs5 k170 (met_X5_thrown l hl0 g _ _ _ _ hw) rfl rfl (Nat.le_of_ble_eq_true rfl) dL_law_966 ⟨lwr hk (Nat.le_of_ble_eq_true rfl), lwr hk (Nat.le_of_ble_eq_true rfl)⟩ mKx_no (fun r171 S1 H locs hw hH => ?_)
        refine W.widen (k := (20 + k * 7 + 1)) (n := (663 + k * 275 + 6)) (lww (Nat.le_of_ble_eq_true rfl)) (lww (Nat.le_of_ble_eq_true rfl)) ?_
        refine lv_iload hC.1 hC.2.1 dL_law_969 (lv_at hl 1 rfl) ?_
        refine lv_icmp_eq (tgt := 976) hC.1 hC.2.1 dL_law_971 (by decide) (fun hc => ?_) (fun hc => ?_)
        · have hw := hw.1 hc
          refine lv_iload hC.1 hC.2.1 dL_law_976 (lv_at hl 1 rfl) ?_
          refine lv_if_ne (tgt := 1000) hC.1 hC.2.1 dL_law_978 (by decide) (fun hc => ?_) (fun hc => ?_)
          · have hw := hw.1 hc
            refine W.widen (k := (20 + k * 7 + 1)) (n := (663 + k * 275 + 6)) (lwe (Nat.le_of_ble_eq_true rfl)) (lwe (Nat.le_of_ble_eq_true rfl)) ?_
            exact bw_L_law_1000 hl0 hC hs hbX hbl hbA hend hk hk23 _ _ _ _ _ hw _ _ hH _ (lv_sub hl [2, 3, 4, 5, 6] rfl)
          · have hw := hw.2 hc
            refine lv_aload_n hC.1 hC.2.1 dL_law_981 rfl (lv_at hl 5 rfl) ?_
            refine lv_iconst (v := 0) hC.1 hC.2.1 dL_law_982 (by decide) ?_
            obtain ⟨k172, hw⟩ := hw
            obtain ⟨i173, hw⟩ := hw
            refine m_jald hC hs hH k172 i173 dL_law_983 ?_
            refine lv_iload hC.1 hC.2.1 dL_law_984 (lv_at hl 0 rfl) ?_
            refine lv_if_eq (tgt := 993) hC.1 hC.2.1 dL_law_986 (by decide) (fun hc => ?_) (fun hc => ?_)
            · have hw := hw.1 hc
              refine lv_lconst (v := 0) hC.1 hC.2.1 dL_law_993 (by decide) ?_
              refine W.widen (k := (20 + k * 7 + 1)) (n := (663 + k * 275 + 6)) (lwe (Nat.le_of_ble_eq_true rfl)) (lwe (Nat.le_of_ble_eq_true rfl)) ?_
              exact bw_L_law_994 hl0 hC hs hbX hbl hbA hend hk hk23 _ _ _ _ _ _ _ hw _ _ hH _ (lv_sub hl [2, 3, 4, 5, 6] rfl)
            · have hw := hw.2 hc
              refine lv_lconst (v := 1) hC.1 hC.2.1 dL_law_989 (by decide) ?_
              refine lv_goto (tgt := 994) hC.1 hC.2.1 dL_law_990 (by decide) ?_
              refine W.widen (k := (20 + k * 7 + 1)) (n := (663 + k * 275 + 6)) (lwe (Nat.le_of_ble_eq_true rfl)) (lwe (Nat.le_of_ble_eq_true rfl)) ?_
              exact bw_L_law_994 hl0 hC hs hbX hbl hbA hend hk hk23 _ _ _ _ _ _ _ hw _ _ hH _ (lv_sub hl [2, 3, 4, 5, 6] rfl)
        · have hw := hw.2 hc
          refine lv_iconst (v := 0) hC.1 hC.2.1 dL_law_974 (by decide) ?_
          exact False.elim hw
      · have hw := hw.2.2.2.2.2.2.2.2.2.2.2.2.1 hj
        refine lv_tableIn (off := 963) (tgt := 1003) hC.1 hC.2.1 dL_law_40 (by rw [hj]; decide) (by rw [hj]; decide) (by rw [hj]; decide) (by decide) ?_
        refine lv_aload_n hC.1 hC.2.1 dL_law_1003 rfl (lv_at hl 1 rfl) ?_
        refine lv_aload_n hC.1 hC.2.1 dL_law_1004 rfl (lv_at hl 0 rfl) ?_
        refine lv_iload hC.1 hC.2.1 dL_law_1005 (lv_at hl 4 rfl) ?_
        refine lv_iconst (v := 1) hC.1 hC.2.1 dL_law_1007 (by decide) ?_
        refine lv_iadd hC.1 hC.2.1 dL_law_1008 ?_
        obtain ⟨i174, hw⟩ := hw
        refine va_sld (A := mB g) hC.1 hC.2.1 hbX hbl hbA hH.2.2 i174 dL_law_1009 ?_
        refine lv_aload_n hC.1 hC.2.1 dL_law_1010 rfl (lv_at hl 0 rfl) ?_
        refine lv_iload hC.1 hC.2.1 dL_law_1011 (lv_at hl 4 rfl) ?_
        refine lv_iconst (v := 2) hC.1 hC.2.1 dL_law_1013 (by decide) ?_
        refine lv_iadd hC.1 hC.2.1 dL_law_1014 ?_
        obtain ⟨i175, hw⟩ := hw
        refine va_sld (A := mB g) hC.1 hC.2.1 hbX hbl hbA hH.2.2 i175 dL_law_1015 ?_
        refine lv_aload_n hC.1 hC.2.1 dL_law_1016 rfl (lv_at hl 3 rfl) ?_
        refine m_callXi (y := yL_told) (rest := []) hC hs hH hl.1 (vx_cwSW 4 hC.2.2.2.2 (gA_SW q_498 q_499 q_59 q_500) rfl rfl rfl (by decide +kernel) ⟨Nat.le_of_ble_eq_true rfl, Nat.le_of_ble_eq_true rfl⟩) (met_L_told l hl0 g _ _ _ _ _ _ _ hw) rfl rfl (Nat.le_of_ble_eq_true rfl) dL_law_1017 ⟨lwr hk (Nat.le_of_ble_eq_true rfl), lwr hk (Nat.le_of_ble_eq_true rfl)⟩ mKx_no (fun r177 S1 H locs hw hH => ?_)
        refine W.widen (k := (20 + k * 7 + 2)) (n := (663 + k * 275 + 12)) (lww (Nat.le_of_ble_eq_true rfl)) (lww (Nat.le_of_ble_eq_true rfl)) ?_
        refine lv_istore (lv' := [(5, .int _), (0, .ref _), (1, .ref _), (2, .ref _), (3, .ref _), (4, .int _)]) hC.1 hC.2.1 dL_law_1020 hl (by decide) rfl (fun ls hl => ?_)
        refine lv_aload_n hC.1 hC.2.1 dL_law_1022 rfl (lv_at hl 3 rfl) ?_
        refine lv_aload_n hC.1 hC.2.1 dL_law_1023 rfl (lv_at hl 1 rfl) ?_
        refine lv_iload hC.1 hC.2.1 dL_law_1024 (lv_at hl 5 rfl) ?_
        refine lv_iconst (v := 1) hC.1 hC.2.1 dL_law_1026 (by decide) ?_
        refine lv_iadd hC.1 hC.2.1 dL_law_1027 ?_
        obtain ⟨i178, hw⟩ := hw
        refine va_sld (A := mB g) hC.1 hC.2.1 hbX hbl hbA hH.2.2 i178 dL_law_1028 ?_
        refine lv_aload_n hC.1 hC.2.1 dL_law_1029 rfl (lv_at hl 1 rfl) ?_
        refine lv_iload hC.1 hC.2.1 dL_law_1030 (lv_at hl 5 rfl) ?_
        refine lv_iconst (v := 2) hC.1 hC.2.1 dL_law_1032 (by decide) ?_
        refine lv_iadd hC.1 hC.2.1 dL_law_1033 ?_
        obtain ⟨i179, hw⟩ := hw
        refine va_sld (A := mB g) hC.1 hC.2.1 hbX hbl hbA hH.2.2 i179 dL_law_1034 ?_
        obtain ⟨k181, hw⟩ := hw
        refine m_callVi (y := yX5_told) (rest := []) hC hs hH hl.1 (cwV 2 hC.2.2.2.2 (gA_V q_509 q_510 q_511 q_5 q_512) rfl rfl rfl (by decide +kernel) ⟨Nat.le_of_ble_eq_true rfl, Nat.le_of_ble_eq_true rfl⟩) cs5 k181 (met_X5_told l hl0 g _ _ _ _ _ _ hw) rfl rfl (Nat.le_of_ble_eq_true rfl) dL_law_1035 ⟨lwr hk (Nat.le_of_ble_eq_true rfl), lwr hk (Nat.le_of_ble_eq_true rfl)⟩ mKx_no (fun r182 S1 H locs hw hH => ?_)
        refine W.widen (k := (20 + k * 7 + 2)) (n := (663 + k * 275 + 12)) (lww (Nat.le_of_ble_eq_true rfl)) (lww (Nat.le_of_ble_eq_true rfl)) ?_
        refine lv_istore (lv' := [(6, .int _), (5, .int _), (0, .ref _), (1, .ref _), (2, .ref _), (3, .ref _), (4, .int _)]) hC.1 hC.2.1 dL_law_1038 hl (by decide) rfl (fun ls hl => ?_)
        refine lv_aload_n hC.1 hC.2.1 dL_law_1040 rfl (lv_at hl 4 rfl) ?_
        obtain ⟨k184, hw⟩ := hw
        refine m_callVi (y := yX5_thrown) (rest := []) hC hs hH hl.1 (cwV 0 hC.2.2.2.2 (gA_V q_163 q_164 q_165 q_5 q_166) rfl rfl rfl (by decide +kernel) ⟨Nat.le_of_ble_eq_true rfl, Nat.le_of_ble_eq_true rfl⟩) cs5 k184 (met_X5_thrown l hl0 g _ _ _ _ hw) rfl rfl (Nat.le_of_ble_eq_true rfl) dL_law_1041 ⟨lwr hk (Nat.le_of_ble_eq_true rfl), lwr hk (Nat.le_of_ble_eq_true rfl)⟩ mKx_no (fun r185 S1 H locs hw hH => ?_)
        refine W.widen (k := (20 + k * 7 + 2)) (n := (663 + k * 275 + 12)) (lww (Nat.le_of_ble_eq_true rfl)) (lww (Nat.le_of_ble_eq_true rfl)) ?_
        refine lv_iload hC.1 hC.2.1 dL_law_1044 (lv_at hl 1 rfl) ?_
        refine lv_icmp_eq (tgt := 1051) hC.1 hC.2.1 dL_law_1046 (by decide) (fun hc => ?_) (fun hc => ?_)
        · have hw := hw.1 hc
          refine lv_iload hC.1 hC.2.1 dL_law_1051 (lv_at hl 1 rfl) ?_
          refine lv_if_ne (tgt := 1068) hC.1 hC.2.1 dL_law_1053 (by decide) (fun hc => ?_) (fun hc => ?_)
          · have hw := hw.1 hc
            refine W.widen (k := (20 + k * 7 + 2)) (n := (663 + k * 275 + 12)) (lwe (Nat.le_of_ble_eq_true rfl)) (lwe (Nat.le_of_ble_eq_true rfl)) ?_
            exact bw_L_law_1068 hl0 hC hs hbX hbl hbA hend hk hk23 _ _ _ _ _ hw _ _ hH _ (lv_sub hl [2, 3, 4, 5, 6] rfl)
          · have hw := hw.2 hc
            refine lv_aload_n hC.1 hC.2.1 dL_law_1056 rfl (lv_at hl 5 rfl) ?_
            refine lv_iconst (v := 0) hC.1 hC.2.1 dL_law_1057 (by decide) ?_
            obtain ⟨k186, hw⟩ := hw
            obtain ⟨i187, hw⟩ := hw
            refine m_jald hC hs hH k186 i187 dL_law_1058 ?_
            refine lv_iload hC.1 hC.2.1 dL_law_1059 (lv_at hl 0 rfl) ?_
            refine lv_i2l hC.1 hC.2.1 dL_law_1061 rfl ?_
            refine W.lcmp hC.1 hC.2.1 dL_law_1062 ?_
            refine lv_if_eq (tgt := 1068) hC.1 hC.2.1 dL_law_1063 (by decide) (fun hc => ?_) (fun hc => ?_)
            · have hw := hw.1 hc
              refine W.widen (k := (20 + k * 7 + 2)) (n := (663 + k * 275 + 12)) (lwe (Nat.le_of_ble_eq_true rfl)) (lwe (Nat.le_of_ble_eq_true rfl)) ?_
              exact bw_L_law_1068 hl0 hC hs hbX hbl hbA hend hk hk23 _ _ _ _ _ hw _ _ hH _ (lv_sub hl [2, 3, 4, 5, 6] rfl)
            · have hw := hw.2 hc
              refine lv_iconst (v := 0) hC.1 hC.2.1 dL_law_1066 (by decide) ?_
              exact False.elim hw
        · have hw := hw.2 hc
          refine lv_iconst (v := 0) hC.1 hC.2.1 dL_law_1049 (by decide) ?_
          exact False.elim hw
      · have hw := hw.2.2.2.2.2.2.2.2.2.2.2.2.2.1 hj
        refine lv_tableIn (off := 1031) (tgt := 1071) hC.1 hC.2.1 dL_law_40 (by rw [hj]; decide) (by rw [hj]; decide) (by rw [hj]; decide) (by decide) ?_
        refine lv_aload_n hC.1 hC.2.1 dL_law_1071 rfl (lv_at hl 1 rfl) ?_
        obtain ⟨k189, hw⟩ := hw
        refine m_callVi (y := yX4_dearest) (rest := []) hC hs hH hl.1 (cwV 0 hC.2.2.2.2 (gA_V q_531 q_532 q_533 q_2 q_534) rfl rfl rfl (by decide +kernel) ⟨Nat.le_of_ble_eq_true rfl, Nat.le_of_ble_eq_true rfl⟩) cs4 k189 (met_X4_dearest l hl0 g _ _ _ _ hw) rfl rfl (Nat.le_of_ble_eq_true rfl) dL_law_1072 ⟨lwr hk (Nat.le_of_ble_eq_true rfl), lwr hk (Nat.le_of_ble_eq_true rfl)⟩ mKx_no (fun r190 S1 H locs hw hH => ?_)
        refine W.widen (k := (20 + k * 7 + 0)) (n := (663 + k * 275 + 0)) (lww (Nat.le_of_ble_eq_true rfl)) (lww (Nat.le_of_ble_eq_true rfl)) ?_
        refine lv_aload_n hC.1 hC.2.1 dL_law_1075 rfl (lv_at hl 2 rfl) ?_
        obtain ⟨k192, hw⟩ := hw
        refine m_callVi (y := yX5_dearest) (rest := [.int _]) hC hs hH hl.1 (cwV 0 hC.2.2.2.2 (gA_V q_535 q_536 q_537 q_5 q_538) rfl rfl rfl (by decide +kernel) ⟨Nat.le_of_ble_eq_true rfl, Nat.le_of_ble_eq_true rfl⟩) cs5 k192 (met_X5_dearest l hl0 g _ _ _ _ hw) rfl rfl (Nat.le_of_ble_eq_true rfl) dL_law_1076 ⟨lwr hk (Nat.le_of_ble_eq_true rfl), lwr hk (Nat.le_of_ble_eq_true rfl)⟩ mKx_no (fun r193 S1 H locs hw hH => ?_)
        refine W.widen (k := (20 + k * 7 + 0)) (n := (663 + k * 275 + 0)) (lww (Nat.le_of_ble_eq_true rfl)) (lww (Nat.le_of_ble_eq_true rfl)) ?_
        refine lv_icmp_eq (tgt := 1667) hC.1 hC.2.1 dL_law_1079 (by decide) (fun hc => ?_) (fun hc => ?_)
        · have hw := hw.1 hc
          refine W.widen (k := (20 + k * 7 + 7)) (n := (663 + k * 275 + 275)) (lwe (Nat.le_of_ble_eq_true rfl)) (lwe (Nat.le_of_ble_eq_true rfl)) ?_
          exact bw_L_law_1667 hl0 hC hs hbX hbl hbA hend hk hk23 _ _ _ _ _ hw _ _ hH _ (lv_sub hl [0, 1, 2, 3, 4] rfl)
        · have hw := hw.2 hc
          refine lv_iconst (v := 0) hC.1 hC.2.1 dL_law_1082 (by decide) ?_
          exact False.elim hw
      · have hw := hw.2.2.2.2.2.2.2.2.2.2.2.2.2.2.1 hj
        refine lv_tableIn (off := 1044) (tgt := 1084) hC.1 hC.2.1 dL_law_40 (by rw [hj]; decide) (by rw [hj]; decide) (by rw [hj]; decide) (by decide) ?_
        refine lv_aload_n hC.1 hC.2.1 dL_law_1084 rfl (lv_at hl 1 rfl) ?_
        refine lv_aload_n hC.1 hC.2.1 dL_law_1085 rfl (lv_at hl 0 rfl) ?_
        refine lv_iload hC.1 hC.2.1 dL_law_1086 (lv_at hl 4 rfl) ?_
        refine lv_iconst (v := 1) hC.1 hC.2.1 dL_law_1088 (by decide) ?_
        refine lv_iadd hC.1 hC.2.1 dL_law_1089 ?_
        obtain ⟨i194, hw⟩ := hw
        refine va_sld (A := mB g) hC.1 hC.2.1 hbX hbl hbA hH.2.2 i194 dL_law_1090 ?_
        refine lv_aload_n hC.1 hC.2.1 dL_law_1091 rfl (lv_at hl 3 rfl) ?_
        refine m_callXi (y := yL_lineSum) (rest := []) hC hs hH hl.1 (vx_cwSW 3 hC.2.2.2.2 (gA_SW q_539 q_540 q_59 q_541) rfl rfl rfl (by decide +kernel) ⟨Nat.le_of_ble_eq_true rfl, Nat.le_of_ble_eq_true rfl⟩) (met_L_lineSum l hl0 g _ _ _ _ _ _ hw) rfl rfl (Nat.le_of_ble_eq_true rfl) dL_law_1092 ⟨lwr hk (Nat.le_of_ble_eq_true rfl), lwr hk (Nat.le_of_ble_eq_true rfl)⟩ mKx_no (fun r196 S1 H locs hw hH => ?_)
        refine W.widen (k := (20 + k * 7 + 1)) (n := (663 + k * 275 + 6)) (lww (Nat.le_of_ble_eq_true rfl)) (lww (Nat.le_of_ble_eq_true rfl)) ?_
        refine lv_istore (lv' := [(5, .int _), (0, .ref _), (1, .ref _), (2, .ref _), (3, .ref _), (4, .int _)]) hC.1 hC.2.1 dL_law_1095 hl (by decide) rfl (fun ls hl => ?_)
        refine lv_aload_n hC.1 hC.2.1 dL_law_1097 rfl (lv_at hl 3 rfl) ?_
        refine lv_aload_n hC.1 hC.2.1 dL_law_1098 rfl (lv_at hl 1 rfl) ?_
        refine lv_iload hC.1 hC.2.1 dL_law_1099 (lv_at hl 5 rfl) ?_
        refine lv_iconst (v := 1) hC.1 hC.2.1 dL_law_1101 (by decide) ?_
        refine lv_iadd hC.1 hC.2.1 dL_law_1102 ?_
        obtain ⟨i197, hw⟩ := hw
        refine va_sld (A := mB g) hC.1 hC.2.1 hbX hbl hbA hH.2.2 i197 dL_law_1103 ?_
        obtain ⟨k199, hw⟩ := hw
        refine m_callVi (y := yX5_lineSum) (rest := []) hC hs hH hl.1 (cwV 1 hC.2.2.2.2 (gA_V q_546 q_547 q_548 q_5 q_549) rfl rfl rfl (by decide +kernel) ⟨Nat.le_of_ble_eq_true rfl, Nat.le_of_ble_eq_true rfl⟩) cs5 k199 (met_X5_lineSum l hl0 g _ _ _ _ _ hw) rfl rfl (Nat.le_of_ble_eq_true rfl) dL_law_1104 ⟨lwr hk (Nat.le_of_ble_eq_true rfl), lwr hk (Nat.le_of_ble_eq_true rfl)⟩ mKx_no (fun r200 S1 H locs hw hH => ?_)
        refine W.widen (k := (20 + k * 7 + 1)) (n := (663 + k * 275 + 6)) (lww (Nat.le_of_ble_eq_true rfl)) (lww (Nat.le_of_ble_eq_true rfl)) ?_
        refine lv_istore (lv' := [(6, .int _), (5, .int _), (0, .ref _), (1, .ref _), (2, .ref _), (3, .ref _), (4, .int _)]) hC.1 hC.2.1 dL_law_1107 hl (by decide) rfl (fun ls hl => ?_)
        refine lv_aload_n hC.1 hC.2.1 dL_law_1109 rfl (lv_at hl 4 rfl) ?_
        obtain ⟨k202, hw⟩ := hw
        refine m_callVi (y := yX5_thrown) (rest := []) hC hs hH hl.1 (cwV 0 hC.2.2.2.2 (gA_V q_163 q_164 q_165 q_5 q_166) rfl rfl rfl (by decide +kernel) ⟨Nat.le_of_ble_eq_true rfl, Nat.le_of_ble_eq_true rfl⟩) cs5 k202 (met_X5_thrown l hl0 g _ _ _ _ hw) rfl rfl (Nat.le_of_ble_eq_true rfl) dL_law_1110 ⟨lwr hk (Nat.le_of_ble_eq_true rfl), lwr hk (Nat.le_of_ble_eq_true rfl)⟩ mKx_no (fun r203 S1 H locs hw hH => ?_)
        refine W.widen (k := (20 + k * 7 + 1)) (n := (663 + k * 275 + 6)) (lww (Nat.le_of_ble_eq_true rfl)) (lww (Nat.le_of_ble_eq_true rfl)) ?_
        refine lv_iload hC.1 hC.2.1 dL_law_1113 (lv_at hl 1 rfl) ?_
        refine lv_icmp_eq (tgt := 1120) hC.1 hC.2.1 dL_law_1115 (by decide) (fun hc => ?_) (fun hc => ?_)
        · have hw := hw.1 hc
          refine lv_iload hC.1 hC.2.1 dL_law_1120 (lv_at hl 1 rfl) ?_
          refine lv_if_ne (tgt := 1137) hC.1 hC.2.1 dL_law_1122 (by decide) (fun hc => ?_) (fun hc => ?_)
          · have hw := hw.1 hc
            refine W.widen (k := (20 + k * 7 + 1)) (n := (663 + k * 275 + 6)) (lwe (Nat.le_of_ble_eq_true rfl)) (lwe (Nat.le_of_ble_eq_true rfl)) ?_
            exact bw_L_law_1137 hl0 hC hs hbX hbl hbA hend hk hk23 _ _ _ _ _ hw _ _ hH _ (lv_sub hl [2, 3, 4, 5, 6] rfl)
          · have hw := hw.2 hc
            refine lv_aload_n hC.1 hC.2.1 dL_law_1125 rfl (lv_at hl 5 rfl) ?_
            refine lv_iconst (v := 0) hC.1 hC.2.1 dL_law_1126 (by decide) ?_
            obtain ⟨k204, hw⟩ := hw
            obtain ⟨i205, hw⟩ := hw
            refine m_jald hC hs hH k204 i205 dL_law_1127 ?_
            refine lv_iload hC.1 hC.2.1 dL_law_1128 (lv_at hl 0 rfl) ?_
            refine lv_i2l hC.1 hC.2.1 dL_law_1130 rfl ?_
            refine W.lcmp hC.1 hC.2.1 dL_law_1131 ?_
            refine lv_if_eq (tgt := 1137) hC.1 hC.2.1 dL_law_1132 (by decide) (fun hc => ?_) (fun hc => ?_)
            · have hw := hw.1 hc
              refine W.widen (k := (20 + k * 7 + 1)) (n := (663 + k * 275 + 6)) (lwe (Nat.le_of_ble_eq_true rfl)) (lwe (Nat.le_of_ble_eq_true rfl)) ?_
              exact bw_L_law_1137 hl0 hC hs hbX hbl hbA hend hk hk23 _ _ _ _ _ hw _ _ hH _ (lv_sub hl [2, 3, 4, 5, 6] rfl)
            · have hw := hw.2 hc
              refine lv_iconst (v := 0) hC.1 hC.2.1 dL_law_1135 (by decide) ?_
              exact False.elim hw
        · have hw := hw.2 hc
          refine lv_iconst (v := 0) hC.1 hC.2.1 dL_law_1118 (by decide) ?_
          exact False.elim hw
      · have hw := hw.2.2.2.2.2.2.2.2.2.2.2.2.2.2.2.1 hj
        refine lv_tableIn (off := 1100) (tgt := 1140) hC.1 hC.2.1 dL_law_40 (by rw [hj]; decide) (by rw [hj]; decide) (by rw [hj]; decide) (by decide) ?_
        refine lv_aload_n hC.1 hC.2.1 dL_law_1140 rfl (lv_at hl 1 rfl) ?_
        refine lv_aload_n hC.1 hC.2.1 dL_law_1141 rfl (lv_at hl 0 rfl) ?_
        refine lv_iload hC.1 hC.2.1 dL_law_1142 (lv_at hl 4 rfl) ?_
        refine lv_iconst (v := 1) hC.1 hC.2.1 dL_law_1144 (by decide) ?_
        refine lv_iadd hC.1 hC.2.1 dL_law_1145 ?_
        obtain ⟨i206, hw⟩ := hw
        refine va_sld (A := mB g) hC.1 hC.2.1 hbX hbl hbA hH.2.2 i206 dL_law_1146 ?_
        refine lv_aload_n hC.1 hC.2.1 dL_law_1147 rfl (lv_at hl 3 rfl) ?_
        refine m_callXi (y := yL_daySum) (rest := []) hC hs hH hl.1 (vx_cwSW 3 hC.2.2.2.2 (gA_SW q_554 q_555 q_59 q_556) rfl rfl rfl (by decide +kernel) ⟨Nat.le_of_ble_eq_true rfl, Nat.le_of_ble_eq_true rfl⟩) (met_L_daySum l hl0 g _ _ _ _ _ _ hw) rfl rfl (Nat.le_of_ble_eq_true rfl) dL_law_1148 ⟨lwr hk (Nat.le_of_ble_eq_true rfl), lwr hk (Nat.le_of_ble_eq_true rfl)⟩ mKx_no (fun r208 S1 H locs hw hH => ?_)
        refine W.widen (k := (20 + k * 7 + 1)) (n := (663 + k * 275 + 6)) (lww (Nat.le_of_ble_eq_true rfl)) (lww (Nat.le_of_ble_eq_true rfl)) ?_
        refine lv_istore (lv' := [(5, .int _), (0, .ref _), (1, .ref _), (2, .ref _), (3, .ref _), (4, .int _)]) hC.1 hC.2.1 dL_law_1151 hl (by decide) rfl (fun ls hl => ?_)
        refine lv_aload_n hC.1 hC.2.1 dL_law_1153 rfl (lv_at hl 3 rfl) ?_
        refine lv_aload_n hC.1 hC.2.1 dL_law_1154 rfl (lv_at hl 1 rfl) ?_
        refine lv_iload hC.1 hC.2.1 dL_law_1155 (lv_at hl 5 rfl) ?_
        refine lv_iconst (v := 1) hC.1 hC.2.1 dL_law_1157 (by decide) ?_
        refine lv_iadd hC.1 hC.2.1 dL_law_1158 ?_
        obtain ⟨i209, hw⟩ := hw
        refine va_sld (A := mB g) hC.1 hC.2.1 hbX hbl hbA hH.2.2 i209 dL_law_1159 ?_
        obtain ⟨k211, hw⟩ := hw
        refine m_callVi (y := yX5_daySum) (rest := []) hC hs hH hl.1 (cwV 1 hC.2.2.2.2 (gA_V q_561 q_562 q_563 q_5 q_564) rfl rfl rfl (by decide +kernel) ⟨Nat.le_of_ble_eq_true rfl, Nat.le_of_ble_eq_true rfl⟩) cs5 k211 (met_X5_daySum l hl0 g _ _ _ _ _ hw) rfl rfl (Nat.le_of_ble_eq_true rfl) dL_law_1160 ⟨lwr hk (Nat.le_of_ble_eq_true rfl), lwr hk (Nat.le_of_ble_eq_true rfl)⟩ mKx_no (fun r212 S1 H locs hw hH => ?_)
        refine W.widen (k := (20 + k * 7 + 1)) (n := (663 + k * 275 + 6)) (lww (Nat.le_of_ble_eq_true rfl)) (lww (Nat.le_of_ble_eq_true rfl)) ?_
        refine lv_istore (lv' := [(6, .int _), (5, .int _), (0, .ref _), (1, .ref _), (2, .ref _), (3, .ref _), (4, .int _)]) hC.1 hC.2.1 dL_law_1163 hl (by decide) rfl (fun ls hl => ?_)
        refine lv_aload_n hC.1 hC.2.1 dL_law_1165 rfl (lv_at hl 4 rfl) ?_
        obtain ⟨k214, hw⟩ := hw
        refine m_callVi (y := yX5_thrown) (rest := []) hC hs hH hl.1 (cwV 0 hC.2.2.2.2 (gA_V q_163 q_164 q_165 q_5 q_166) rfl rfl rfl (by decide +kernel) ⟨Nat.le_of_ble_eq_true rfl, Nat.le_of_ble_eq_true rfl⟩) cs5 k214 (met_X5_thrown l hl0 g _ _ _ _ hw) rfl rfl (Nat.le_of_ble_eq_true rfl) dL_law_1166 ⟨lwr hk (Nat.le_of_ble_eq_true rfl), lwr hk (Nat.le_of_ble_eq_true rfl)⟩ mKx_no (fun r215 S1 H locs hw hH => ?_)
        refine W.widen (k := (20 + k * 7 + 1)) (n := (663 + k * 275 + 6)) (lww (Nat.le_of_ble_eq_true rfl)) (lww (Nat.le_of_ble_eq_true rfl)) ?_
        refine lv_iload hC.1 hC.2.1 dL_law_1169 (lv_at hl 1 rfl) ?_
        refine lv_icmp_eq (tgt := 1176) hC.1 hC.2.1 dL_law_1171 (by decide) (fun hc => ?_) (fun hc => ?_)
        · have hw := hw.1 hc
          refine lv_iload hC.1 hC.2.1 dL_law_1176 (lv_at hl 1 rfl) ?_
          refine lv_if_ne (tgt := 1193) hC.1 hC.2.1 dL_law_1178 (by decide) (fun hc => ?_) (fun hc => ?_)
          · have hw := hw.1 hc
            refine W.widen (k := (20 + k * 7 + 1)) (n := (663 + k * 275 + 6)) (lwe (Nat.le_of_ble_eq_true rfl)) (lwe (Nat.le_of_ble_eq_true rfl)) ?_
            exact bw_L_law_1193 hl0 hC hs hbX hbl hbA hend hk hk23 _ _ _ _ _ hw _ _ hH _ (lv_sub hl [2, 3, 4, 5, 6] rfl)
          · have hw := hw.2 hc
            refine lv_aload_n hC.1 hC.2.1 dL_law_1181 rfl (lv_at hl 5 rfl) ?_
            refine lv_iconst (v := 0) hC.1 hC.2.1 dL_law_1182 (by decide) ?_
            obtain ⟨k216, hw⟩ := hw
            obtain ⟨i217, hw⟩ := hw
            refine m_jald hC hs hH k216 i217 dL_law_1183 ?_
            refine lv_iload hC.1 hC.2.1 dL_law_1184 (lv_at hl 0 rfl) ?_
            refine lv_i2l hC.1 hC.2.1 dL_law_1186 rfl ?_
            refine W.lcmp hC.1 hC.2.1 dL_law_1187 ?_
            refine lv_if_eq (tgt := 1193) hC.1 hC.2.1 dL_law_1188 (by decide) (fun hc => ?_) (fun hc => ?_)
            · have hw := hw.1 hc
              refine W.widen (k := (20 + k * 7 + 1)) (n := (663 + k * 275 + 6)) (lwe (Nat.le_of_ble_eq_true rfl)) (lwe (Nat.le_of_ble_eq_true rfl)) ?_
              exact bw_L_law_1193 hl0 hC hs hbX hbl hbA hend hk hk23 _ _ _ _ _ hw _ _ hH _ (lv_sub hl [2, 3, 4, 5, 6] rfl)
            · have hw := hw.2 hc
              refine lv_iconst (v := 0) hC.1 hC.2.1 dL_law_1191 (by decide) ?_
              exact False.elim hw
        · have hw := hw.2 hc
          refine lv_iconst (v := 0) hC.1 hC.2.1 dL_law_1174 (by decide) ?_
          exact False.elim hw
      · have hw := hw.2.2.2.2.2.2.2.2.2.2.2.2.2.2.2.2.1 hj
        refine lv_tableIn (off := 1156) (tgt := 1196) hC.1 hC.2.1 dL_law_40 (by rw [hj]; decide) (by rw [hj]; decide) (by rw [hj]; decide) (by decide) ?_
        refine lv_aload_n hC.1 hC.2.1 dL_law_1196 rfl (lv_at hl 1 rfl) ?_
        refine lv_aload_n hC.1 hC.2.1 dL_law_1197 rfl (lv_at hl 0 rfl) ?_
        refine lv_iload hC.1 hC.2.1 dL_law_1198 (lv_at hl 4 rfl) ?_
        refine lv_iconst (v := 1) hC.1 hC.2.1 dL_law_1200 (by decide) ?_
        refine lv_iadd hC.1 hC.2.1 dL_law_1201 ?_
        obtain ⟨i218, hw⟩ := hw
        refine va_sld (A := mB g) hC.1 hC.2.1 hbX hbl hbA hH.2.2 i218 dL_law_1202 ?_
        refine lv_aload_n hC.1 hC.2.1 dL_law_1203 rfl (lv_at hl 3 rfl) ?_
        refine m_callXi (y := yL_sum) (rest := []) hC hs hH hl.1 (vx_cwSW 3 hC.2.2.2.2 (gA_SW q_565 q_566 q_59 q_567) rfl rfl rfl (by decide +kernel) ⟨Nat.le_of_ble_eq_true rfl, Nat.le_of_ble_eq_true rfl⟩) (met_L_sum l hl0 g _ _ _ _ _ _ hw) rfl rfl (Nat.le_of_ble_eq_true rfl) dL_law_1204 ⟨lwr hk (Nat.le_of_ble_eq_true rfl), lwr hk (Nat.le_of_ble_eq_true rfl)⟩ mKx_no (fun r220 S1 H locs hw hH => ?_)
        refine W.widen (k := (20 + k * 7 + 1)) (n := (663 + k * 275 + 6)) (lww (Nat.le_of_ble_eq_true rfl)) (lww (Nat.le_of_ble_eq_true rfl)) ?_
        refine lv_istore (lv' := [(5, .int _), (0, .ref _), (1, .ref _), (2, .ref _), (3, .ref _), (4, .int _)]) hC.1 hC.2.1 dL_law_1207 hl (by decide) rfl (fun ls hl => ?_)
        refine lv_aload_n hC.1 hC.2.1 dL_law_1209 rfl (lv_at hl 3 rfl) ?_
        refine lv_aload_n hC.1 hC.2.1 dL_law_1210 rfl (lv_at hl 1 rfl) ?_
        refine lv_iload hC.1 hC.2.1 dL_law_1211 (lv_at hl 5 rfl) ?_
        refine lv_iconst (v := 1) hC.1 hC.2.1 dL_law_1213 (by decide) ?_
        refine lv_iadd hC.1 hC.2.1 dL_law_1214 ?_
        obtain ⟨i221, hw⟩ := hw
        refine va_sld (A := mB g) hC.1 hC.2.1 hbX hbl hbA hH.2.2 i221 dL_law_1215 ?_
        obtain ⟨k223, hw⟩ := hw
        refine m_callVi (y := yX5_sum) (rest := []) hC hs hH hl.1 (cwV 1 hC.2.2.2.2 (gA_V q_572 q_573 q_574 q_5 q_575) rfl rfl rfl (by decide +kernel) ⟨Nat.le_of_ble_eq_true rfl, Nat.le_of_ble_eq_true rfl⟩) cs5 k223 (met_X5_sum l hl0 g _ _ _ _ _ hw) rfl rfl (Nat.le_of_ble_eq_true rfl) dL_law_1216 ⟨lwr hk (Nat.le_of_ble_eq_true rfl), lwr hk (Nat.le_of_ble_eq_true rfl)⟩ mKx_no (fun r224 S1 H locs hw hH => ?_)
        refine W.widen (k := (20 + k * 7 + 1)) (n := (663 + k * 275 + 6)) (lww (Nat.le_of_ble_eq_true rfl)) (lww (Nat.le_of_ble_eq_true rfl)) ?_
        refine lv_istore (lv' := [(6, .int _), (5, .int _), (0, .ref _), (1, .ref _), (2, .ref _), (3, .ref _), (4, .int _)]) hC.1 hC.2.1 dL_law_1219 hl (by decide) rfl (fun ls hl => ?_)
        refine lv_aload_n hC.1 hC.2.1 dL_law_1221 rfl (lv_at hl 4 rfl) ?_
        obtain ⟨k226, hw⟩ := hw
        refine m_callVi (y := yX5_thrown) (rest := []) hC hs hH hl.1 (cwV 0 hC.2.2.2.2 (gA_V q_163 q_164 q_165 q_5 q_166) rfl rfl rfl (by decide +kernel) ⟨Nat.le_of_ble_eq_true rfl, Nat.le_of_ble_eq_true rfl⟩) cs5 k226 (met_X5_thrown l hl0 g _ _ _ _ hw) rfl rfl (Nat.le_of_ble_eq_true rfl) dL_law_1222 ⟨lwr hk (Nat.le_of_ble_eq_true rfl), lwr hk (Nat.le_of_ble_eq_true rfl)⟩ mKx_no (fun r227 S1 H locs hw hH => ?_)
        refine W.widen (k := (20 + k * 7 + 1)) (n := (663 + k * 275 + 6)) (lww (Nat.le_of_ble_eq_true rfl)) (lww (Nat.le_of_ble_eq_true rfl)) ?_
        refine lv_iload hC.1 hC.2.1 dL_law_1225 (lv_at hl 1 rfl) ?_
        refine lv_icmp_eq (tgt := 1232) hC.1 hC.2.1 dL_law_1227 (by decide) (fun hc => ?_) (fun hc => ?_)
        · have hw := hw.1 hc
          refine lv_iload hC.1 hC.2.1 dL_law_1232 (lv_at hl 1 rfl) ?_
          refine lv_if_ne (tgt := 1249) hC.1 hC.2.1 dL_law_1234 (by decide) (fun hc => ?_) (fun hc => ?_)
          · have hw := hw.1 hc
            refine W.widen (k := (20 + k * 7 + 1)) (n := (663 + k * 275 + 6)) (lwe (Nat.le_of_ble_eq_true rfl)) (lwe (Nat.le_of_ble_eq_true rfl)) ?_
            exact bw_L_law_1249 hl0 hC hs hbX hbl hbA hend hk hk23 _ _ _ _ _ hw _ _ hH _ (lv_sub hl [2, 3, 4, 5, 6] rfl)
          · have hw := hw.2 hc
            refine lv_aload_n hC.1 hC.2.1 dL_law_1237 rfl (lv_at hl 5 rfl) ?_
            refine lv_iconst (v := 0) hC.1 hC.2.1 dL_law_1238 (by decide) ?_
            obtain ⟨k228, hw⟩ := hw
            obtain ⟨i229, hw⟩ := hw
            refine m_jald hC hs hH k228 i229 dL_law_1239 ?_
            refine lv_iload hC.1 hC.2.1 dL_law_1240 (lv_at hl 0 rfl) ?_
            refine lv_i2l hC.1 hC.2.1 dL_law_1242 rfl ?_
            refine W.lcmp hC.1 hC.2.1 dL_law_1243 ?_
            refine lv_if_eq (tgt := 1249) hC.1 hC.2.1 dL_law_1244 (by decide) (fun hc => ?_) (fun hc => ?_)
            · have hw := hw.1 hc
              refine W.widen (k := (20 + k * 7 + 1)) (n := (663 + k * 275 + 6)) (lwe (Nat.le_of_ble_eq_true rfl)) (lwe (Nat.le_of_ble_eq_true rfl)) ?_
              exact bw_L_law_1249 hl0 hC hs hbX hbl hbA hend hk hk23 _ _ _ _ _ hw _ _ hH _ (lv_sub hl [2, 3, 4, 5, 6] rfl)
            · have hw := hw.2 hc
              refine lv_iconst (v := 0) hC.1 hC.2.1 dL_law_1247 (by decide) ?_
              exact False.elim hw
        · have hw := hw.2 hc
          refine lv_iconst (v := 0) hC.1 hC.2.1 dL_law_1230 (by decide) ?_
          exact False.elim hw
      · have hw := hw.2.2.2.2.2.2.2.2.2.2.2.2.2.2.2.2.2.1 hj
        refine lv_tableIn (off := 1212) (tgt := 1252) hC.1 hC.2.1 dL_law_40 (by rw [hj]; decide) (by rw [hj]; decide) (by rw [hj]; decide) (by decide) ?_
        refine lv_aload_n hC.1 hC.2.1 dL_law_1252 rfl (lv_at hl 1 rfl) ?_
        refine lv_aload_n hC.1 hC.2.1 dL_law_1253 rfl (lv_at hl 0 rfl) ?_
        refine lv_iload hC.1 hC.2.1 dL_law_1254 (lv_at hl 4 rfl) ?_
        refine lv_iconst (v := 1) hC.1 hC.2.1 dL_law_1256 (by decide) ?_
        refine lv_iadd hC.1 hC.2.1 dL_law_1257 ?_
        obtain ⟨i230, hw⟩ := hw
        refine va_sld (A := mB g) hC.1 hC.2.1 hbX hbl hbA hH.2.2 i230 dL_law_1258 ?_
        refine lv_aload_n hC.1 hC.2.1 dL_law_1259 rfl (lv_at hl 3 rfl) ?_
        refine m_callXi (y := yL_total) (rest := []) hC hs hH hl.1 (vx_cwSW 3 hC.2.2.2.2 (gA_SW q_580 q_581 q_59 q_582) rfl rfl rfl (by decide +kernel) ⟨Nat.le_of_ble_eq_true rfl, Nat.le_of_ble_eq_true rfl⟩) (met_L_total l hl0 g _ _ _ _ _ _ hw) rfl rfl (Nat.le_of_ble_eq_true rfl) dL_law_1260 ⟨lwr hk (Nat.le_of_ble_eq_true rfl), lwr hk (Nat.le_of_ble_eq_true rfl)⟩ mKx_no (fun r232 S1 H locs hw hH => ?_)
        refine W.widen (k := (20 + k * 7 + 1)) (n := (663 + k * 275 + 6)) (lww (Nat.le_of_ble_eq_true rfl)) (lww (Nat.le_of_ble_eq_true rfl)) ?_
        refine lv_istore (lv' := [(5, .int _), (0, .ref _), (1, .ref _), (2, .ref _), (3, .ref _), (4, .int _)]) hC.1 hC.2.1 dL_law_1263 hl (by decide) rfl (fun ls hl => ?_)
        refine lv_aload_n hC.1 hC.2.1 dL_law_1265 rfl (lv_at hl 3 rfl) ?_
        refine lv_aload_n hC.1 hC.2.1 dL_law_1266 rfl (lv_at hl 1 rfl) ?_
        refine lv_iload hC.1 hC.2.1 dL_law_1267 (lv_at hl 5 rfl) ?_
        refine lv_iconst (v := 1) hC.1 hC.2.1 dL_law_1269 (by decide) ?_
        refine lv_iadd hC.1 hC.2.1 dL_law_1270 ?_
        obtain ⟨i233, hw⟩ := hw
        refine va_sld (A := mB g) hC.1 hC.2.1 hbX hbl hbA hH.2.2 i233 dL_law_1271 ?_
        obtain ⟨k235, hw⟩ := hw
        refine m_callVi (y := yX5_total) (rest := []) hC hs hH hl.1 (cwV 1 hC.2.2.2.2 (gA_V q_593 q_594 q_595 q_5 q_596) rfl rfl rfl (by decide +kernel) ⟨Nat.le_of_ble_eq_true rfl, Nat.le_of_ble_eq_true rfl⟩) cs5 k235 (met_X5_total l hl0 g _ _ _ _ _ hw) rfl rfl (Nat.le_of_ble_eq_true rfl) dL_law_1272 ⟨lwr hk (Nat.le_of_ble_eq_true rfl), lwr hk (Nat.le_of_ble_eq_true rfl)⟩ mKx_no (fun r236 S1 H locs hw hH => ?_)
        refine W.widen (k := (20 + k * 7 + 1)) (n := (663 + k * 275 + 6)) (lww (Nat.le_of_ble_eq_true rfl)) (lww (Nat.le_of_ble_eq_true rfl)) ?_
        refine lv_istore (lv' := [(6, .int _), (5, .int _), (0, .ref _), (1, .ref _), (2, .ref _), (3, .ref _), (4, .int _)]) hC.1 hC.2.1 dL_law_1275 hl (by decide) rfl (fun ls hl => ?_)
        refine lv_aload_n hC.1 hC.2.1 dL_law_1277 rfl (lv_at hl 4 rfl) ?_
        obtain ⟨k238, hw⟩ := hw
        refine m_callVi (y := yX5_thrown) (rest := []) hC hs hH hl.1 (cwV 0 hC.2.2.2.2 (gA_V q_163 q_164 q_165 q_5 q_166) rfl rfl rfl (by decide +kernel) ⟨Nat.le_of_ble_eq_true rfl, Nat.le_of_ble_eq_true rfl⟩) cs5 k238 (met_X5_thrown l hl0 g _ _ _ _ hw) rfl rfl (Nat.le_of_ble_eq_true rfl) dL_law_1278 ⟨lwr hk (Nat.le_of_ble_eq_true rfl), lwr hk (Nat.le_of_ble_eq_true rfl)⟩ mKx_no (fun r239 S1 H locs hw hH => ?_)
        refine W.widen (k := (20 + k * 7 + 1)) (n := (663 + k * 275 + 6)) (lww (Nat.le_of_ble_eq_true rfl)) (lww (Nat.le_of_ble_eq_true rfl)) ?_
        refine lv_iload hC.1 hC.2.1 dL_law_1281 (lv_at hl 1 rfl) ?_
        refine lv_icmp_eq (tgt := 1288) hC.1 hC.2.1 dL_law_1283 (by decide) (fun hc => ?_) (fun hc => ?_)
        · have hw := hw.1 hc
          refine lv_iload hC.1 hC.2.1 dL_law_1288 (lv_at hl 1 rfl) ?_
          refine lv_if_ne (tgt := 1305) hC.1 hC.2.1 dL_law_1290 (by decide) (fun hc => ?_) (fun hc => ?_)
          · have hw := hw.1 hc
            refine W.widen (k := (20 + k * 7 + 1)) (n := (663 + k * 275 + 6)) (lwe (Nat.le_of_ble_eq_true rfl)) (lwe (Nat.le_of_ble_eq_true rfl)) ?_
            exact bw_L_law_1305 hl0 hC hs hbX hbl hbA hend hk hk23 _ _ _ _ _ hw _ _ hH _ (lv_sub hl [2, 3, 4, 5, 6] rfl)
          · have hw := hw.2 hc
            refine lv_aload_n hC.1 hC.2.1 dL_law_1293 rfl (lv_at hl 5 rfl) ?_
            refine lv_iconst (v := 0) hC.1 hC.2.1 dL_law_1294 (by decide) ?_
            obtain ⟨k240, hw⟩ := hw
            obtain ⟨i241, hw⟩ := hw
            refine m_jald hC hs hH k240 i241 dL_law_1295 ?_
            refine lv_iload hC.1 hC.2.1 dL_law_1296 (lv_at hl 0 rfl) ?_
            refine lv_i2l hC.1 hC.2.1 dL_law_1298 rfl ?_
            refine W.lcmp hC.1 hC.2.1 dL_law_1299 ?_
            refine lv_if_eq (tgt := 1305) hC.1 hC.2.1 dL_law_1300 (by decide) (fun hc => ?_) (fun hc => ?_)
            · have hw := hw.1 hc
              refine W.widen (k := (20 + k * 7 + 1)) (n := (663 + k * 275 + 6)) (lwe (Nat.le_of_ble_eq_true rfl)) (lwe (Nat.le_of_ble_eq_true rfl)) ?_
              exact bw_L_law_1305 hl0 hC hs hbX hbl hbA hend hk hk23 _ _ _ _ _ hw _ _ hH _ (lv_sub hl [2, 3, 4, 5, 6] rfl)
            · have hw := hw.2 hc
              refine lv_iconst (v := 0) hC.1 hC.2.1 dL_law_1303 (by decide) ?_
              exact False.elim hw
        · have hw := hw.2 hc
          refine lv_iconst (v := 0) hC.1 hC.2.1 dL_law_1286 (by decide) ?_
          exact False.elim hw
      · have hw := hw.2.2.2.2.2.2.2.2.2.2.2.2.2.2.2.2.2.2.1 hj
        refine lv_tableIn (off := 1268) (tgt := 1308) hC.1 hC.2.1 dL_law_40 (by rw [hj]; decide) (by rw [hj]; decide) (by rw [hj]; decide) (by decide) ?_
        refine lv_aload_n hC.1 hC.2.1 dL_law_1308 rfl (lv_at hl 1 rfl) ?_
        refine lv_aload_n hC.1 hC.2.1 dL_law_1309 rfl (lv_at hl 0 rfl) ?_
        refine lv_iload hC.1 hC.2.1 dL_law_1310 (lv_at hl 4 rfl) ?_
        refine lv_iconst (v := 1) hC.1 hC.2.1 dL_law_1312 (by decide) ?_
        refine lv_iadd hC.1 hC.2.1 dL_law_1313 ?_
        obtain ⟨i242, hw⟩ := hw
        refine va_sld (A := mB g) hC.1 hC.2.1 hbX hbl hbA hH.2.2 i242 dL_law_1314 ?_
        refine lv_aload_n hC.1 hC.2.1 dL_law_1315 rfl (lv_at hl 3 rfl) ?_
        refine m_callXi (y := yL_left) (rest := []) hC hs hH hl.1 (vx_cwSW 3 hC.2.2.2.2 (gA_SW q_602 q_603 q_59 q_604) rfl rfl rfl (by decide +kernel) ⟨Nat.le_of_ble_eq_true rfl, Nat.le_of_ble_eq_true rfl⟩) (met_L_left l hl0 g _ _ _ _ _ _ hw) rfl rfl (Nat.le_of_ble_eq_true rfl) dL_law_1316 ⟨lwr hk (Nat.le_of_ble_eq_true rfl), lwr hk (Nat.le_of_ble_eq_true rfl)⟩ mKx_no (fun r244 S1 H locs hw hH => ?_)
        refine W.widen (k := (20 + k * 7 + 1)) (n := (663 + k * 275 + 6)) (lww (Nat.le_of_ble_eq_true rfl)) (lww (Nat.le_of_ble_eq_true rfl)) ?_
        refine lv_istore (lv' := [(5, .int _), (0, .ref _), (1, .ref _), (2, .ref _), (3, .ref _), (4, .int _)]) hC.1 hC.2.1 dL_law_1319 hl (by decide) rfl (fun ls hl => ?_)
        refine lv_aload_n hC.1 hC.2.1 dL_law_1321 rfl (lv_at hl 3 rfl) ?_
        refine lv_aload_n hC.1 hC.2.1 dL_law_1322 rfl (lv_at hl 1 rfl) ?_
        refine lv_iload hC.1 hC.2.1 dL_law_1323 (lv_at hl 5 rfl) ?_
        refine lv_iconst (v := 1) hC.1 hC.2.1 dL_law_1325 (by decide) ?_
        refine lv_iadd hC.1 hC.2.1 dL_law_1326 ?_
        obtain ⟨i245, hw⟩ := hw
        refine va_sld (A := mB g) hC.1 hC.2.1 hbX hbl hbA hH.2.2 i245 dL_law_1327 ?_
        obtain ⟨k247, hw⟩ := hw
        refine m_callVi (y := yX5_left) (rest := []) hC hs hH hl.1 (cwV 1 hC.2.2.2.2 (gA_V q_610 q_611 q_612 q_5 q_613) rfl rfl rfl (by decide +kernel) ⟨Nat.le_of_ble_eq_true rfl, Nat.le_of_ble_eq_true rfl⟩) cs5 k247 (met_X5_left l hl0 g _ _ _ _ _ hw) rfl rfl (Nat.le_of_ble_eq_true rfl) dL_law_1328 ⟨lwr hk (Nat.le_of_ble_eq_true rfl), lwr hk (Nat.le_of_ble_eq_true rfl)⟩ mKx_no (fun r248 S1 H locs hw hH => ?_)
        refine W.widen (k := (20 + k * 7 + 1)) (n := (663 + k * 275 + 6)) (lww (Nat.le_of_ble_eq_true rfl)) (lww (Nat.le_of_ble_eq_true rfl)) ?_
        refine lv_istore (lv' := [(6, .int _), (5, .int _), (0, .ref _), (1, .ref _), (2, .ref _), (3, .ref _), (4, .int _)]) hC.1 hC.2.1 dL_law_1331 hl (by decide) rfl (fun ls hl => ?_)
        refine lv_aload_n hC.1 hC.2.1 dL_law_1333 rfl (lv_at hl 4 rfl) ?_
        obtain ⟨k250, hw⟩ := hw
        refine m_callVi (y := yX5_thrown) (rest := []) hC hs hH hl.1 (cwV 0 hC.2.2.2.2 (gA_V q_163 q_164 q_165 q_5 q_166) rfl rfl rfl (by decide +kernel) ⟨Nat.le_of_ble_eq_true rfl, Nat.le_of_ble_eq_true rfl⟩) cs5 k250 (met_X5_thrown l hl0 g _ _ _ _ hw) rfl rfl (Nat.le_of_ble_eq_true rfl) dL_law_1334 ⟨lwr hk (Nat.le_of_ble_eq_true rfl), lwr hk (Nat.le_of_ble_eq_true rfl)⟩ mKx_no (fun r251 S1 H locs hw hH => ?_)
        refine W.widen (k := (20 + k * 7 + 1)) (n := (663 + k * 275 + 6)) (lww (Nat.le_of_ble_eq_true rfl)) (lww (Nat.le_of_ble_eq_true rfl)) ?_
        refine lv_iload hC.1 hC.2.1 dL_law_1337 (lv_at hl 1 rfl) ?_
        refine lv_icmp_eq (tgt := 1344) hC.1 hC.2.1 dL_law_1339 (by decide) (fun hc => ?_) (fun hc => ?_)
        · have hw := hw.1 hc
          refine lv_iload hC.1 hC.2.1 dL_law_1344 (lv_at hl 1 rfl) ?_
          refine lv_if_ne (tgt := 1361) hC.1 hC.2.1 dL_law_1346 (by decide) (fun hc => ?_) (fun hc => ?_)
          · have hw := hw.1 hc
            refine W.widen (k := (20 + k * 7 + 1)) (n := (663 + k * 275 + 6)) (lwe (Nat.le_of_ble_eq_true rfl)) (lwe (Nat.le_of_ble_eq_true rfl)) ?_
            exact bw_L_law_1361 hl0 hC hs hbX hbl hbA hend hk hk23 _ _ _ _ _ hw _ _ hH _ (lv_sub hl [2, 3, 4, 5, 6] rfl)
          · have hw := hw.2 hc
            refine lv_aload_n hC.1 hC.2.1 dL_law_1349 rfl (lv_at hl 5 rfl) ?_
            refine lv_iconst (v := 0) hC.1 hC.2.1 dL_law_1350 (by decide) ?_
            obtain ⟨k252, hw⟩ := hw
            obtain ⟨i253, hw⟩ := hw
            refine m_jald hC hs hH k252 i253 dL_law_1351 ?_
            refine lv_iload hC.1 hC.2.1 dL_law_1352 (lv_at hl 0 rfl) ?_
            refine lv_i2l hC.1 hC.2.1 dL_law_1354 rfl ?_
            refine W.lcmp hC.1 hC.2.1 dL_law_1355 ?_
            refine lv_if_eq (tgt := 1361) hC.1 hC.2.1 dL_law_1356 (by decide) (fun hc => ?_) (fun hc => ?_)
            · have hw := hw.1 hc
              refine W.widen (k := (20 + k * 7 + 1)) (n := (663 + k * 275 + 6)) (lwe (Nat.le_of_ble_eq_true rfl)) (lwe (Nat.le_of_ble_eq_true rfl)) ?_
              exact bw_L_law_1361 hl0 hC hs hbX hbl hbA hend hk hk23 _ _ _ _ _ hw _ _ hH _ (lv_sub hl [2, 3, 4, 5, 6] rfl)
            · have hw := hw.2 hc
              refine lv_iconst (v := 0) hC.1 hC.2.1 dL_law_1359 (by decide) ?_
              exact False.elim hw
        · have hw := hw.2 hc
          refine lv_iconst (v := 0) hC.1 hC.2.1 dL_law_1342 (by decide) ?_
          exact False.elim hw
      · have hw := hw.2.2.2.2.2.2.2.2.2.2.2.2.2.2.2.2.2.2.2.1 hj
        refine lv_tableIn (off := 1324) (tgt := 1364) hC.1 hC.2.1 dL_law_40 (by rw [hj]; decide) (by rw [hj]; decide) (by rw [hj]; decide) (by decide) ?_
        refine lv_aload_n hC.1 hC.2.1 dL_law_1364 rfl (lv_at hl 1 rfl) ?_
        refine lv_aload_n hC.1 hC.2.1 dL_law_1365 rfl (lv_at hl 0 rfl) ?_
        refine lv_iload hC.1 hC.2.1 dL_law_1366 (lv_at hl 4 rfl) ?_
        refine lv_iconst (v := 1) hC.1 hC.2.1 dL_law_1368 (by decide) ?_
        refine lv_iadd hC.1 hC.2.1 dL_law_1369 ?_
        obtain ⟨i254, hw⟩ := hw
        refine va_sld (A := mB g) hC.1 hC.2.1 hbX hbl hbA hH.2.2 i254 dL_law_1370 ?_
        refine lv_aload_n hC.1 hC.2.1 dL_law_1371 rfl (lv_at hl 3 rfl) ?_
        refine m_callXi (y := yL_emptied) (rest := []) hC hs hH hl.1 (vx_cwSW 3 hC.2.2.2.2 (gA_SW q_614 q_615 q_59 q_616) rfl rfl rfl (by decide +kernel) ⟨Nat.le_of_ble_eq_true rfl, Nat.le_of_ble_eq_true rfl⟩) (met_L_emptied l hl0 g _ _ _ _ _ _ hw) rfl rfl (Nat.le_of_ble_eq_true rfl) dL_law_1372 ⟨lwr hk (Nat.le_of_ble_eq_true rfl), lwr hk (Nat.le_of_ble_eq_true rfl)⟩ mKx_no (fun r256 S1 H locs hw hH => ?_)
        refine W.widen (k := (20 + k * 7 + 1)) (n := (663 + k * 275 + 6)) (lww (Nat.le_of_ble_eq_true rfl)) (lww (Nat.le_of_ble_eq_true rfl)) ?_
        refine lv_istore (lv' := [(5, .int _), (0, .ref _), (1, .ref _), (2, .ref _), (3, .ref _), (4, .int _)]) hC.1 hC.2.1 dL_law_1375 hl (by decide) rfl (fun ls hl => ?_)
        refine lv_aload_n hC.1 hC.2.1 dL_law_1377 rfl (lv_at hl 3 rfl) ?_
        refine lv_aload_n hC.1 hC.2.1 dL_law_1378 rfl (lv_at hl 1 rfl) ?_
        refine lv_iload hC.1 hC.2.1 dL_law_1379 (lv_at hl 5 rfl) ?_
        refine lv_iconst (v := 1) hC.1 hC.2.1 dL_law_1381 (by decide) ?_
        refine lv_iadd hC.1 hC.2.1 dL_law_1382 ?_
        obtain ⟨i257, hw⟩ := hw
        refine va_sld (A := mB g) hC.1 hC.2.1 hbX hbl hbA hH.2.2 i257 dL_law_1383 ?_
        obtain ⟨k259, hw⟩ := hw
        refine m_callVi (y := yX5_emptied) (rest := []) hC hs hH hl.1 (cwV 1 hC.2.2.2.2 (gA_V q_622 q_623 q_624 q_5 q_625) rfl rfl rfl (by decide +kernel) ⟨Nat.le_of_ble_eq_true rfl, Nat.le_of_ble_eq_true rfl⟩) cs5 k259 (met_X5_emptied l hl0 g _ _ _ _ _ hw) rfl rfl (Nat.le_of_ble_eq_true rfl) dL_law_1384 ⟨lwr hk (Nat.le_of_ble_eq_true rfl), lwr hk (Nat.le_of_ble_eq_true rfl)⟩ mKx_no (fun r260 S1 H locs hw hH => ?_)
        refine W.widen (k := (20 + k * 7 + 1)) (n := (663 + k * 275 + 6)) (lww (Nat.le_of_ble_eq_true rfl)) (lww (Nat.le_of_ble_eq_true rfl)) ?_
        refine lv_istore (lv' := [(6, .int _), (5, .int _), (0, .ref _), (1, .ref _), (2, .ref _), (3, .ref _), (4, .int _)]) hC.1 hC.2.1 dL_law_1387 hl (by decide) rfl (fun ls hl => ?_)
        refine lv_aload_n hC.1 hC.2.1 dL_law_1389 rfl (lv_at hl 4 rfl) ?_
        obtain ⟨k262, hw⟩ := hw
        refine m_callVi (y := yX5_thrown) (rest := []) hC hs hH hl.1 (cwV 0 hC.2.2.2.2 (gA_V q_163 q_164 q_165 q_5 q_166) rfl rfl rfl (by decide +kernel) ⟨Nat.le_of_ble_eq_true rfl, Nat.le_of_ble_eq_true rfl⟩) cs5 k262 (met_X5_thrown l hl0 g _ _ _ _ hw) rfl rfl (Nat.le_of_ble_eq_true rfl) dL_law_1390 ⟨lwr hk (Nat.le_of_ble_eq_true rfl), lwr hk (Nat.le_of_ble_eq_true rfl)⟩ mKx_no (fun r263 S1 H locs hw hH => ?_)
        refine W.widen (k := (20 + k * 7 + 1)) (n := (663 + k * 275 + 6)) (lww (Nat.le_of_ble_eq_true rfl)) (lww (Nat.le_of_ble_eq_true rfl)) ?_
        refine lv_iload hC.1 hC.2.1 dL_law_1393 (lv_at hl 1 rfl) ?_
        refine lv_icmp_eq (tgt := 1400) hC.1 hC.2.1 dL_law_1395 (by decide) (fun hc => ?_) (fun hc => ?_)
        · have hw := hw.1 hc
          refine lv_iload hC.1 hC.2.1 dL_law_1400 (lv_at hl 1 rfl) ?_
          refine lv_if_ne (tgt := 1417) hC.1 hC.2.1 dL_law_1402 (by decide) (fun hc => ?_) (fun hc => ?_)
          · have hw := hw.1 hc
            refine W.widen (k := (20 + k * 7 + 1)) (n := (663 + k * 275 + 6)) (lwe (Nat.le_of_ble_eq_true rfl)) (lwe (Nat.le_of_ble_eq_true rfl)) ?_
            exact bw_L_law_1417 hl0 hC hs hbX hbl hbA hend hk hk23 _ _ _ _ _ hw _ _ hH _ (lv_sub hl [2, 3, 4, 5, 6] rfl)
          · have hw := hw.2 hc
            refine lv_aload_n hC.1 hC.2.1 dL_law_1405 rfl (lv_at hl 5 rfl) ?_
            refine lv_iconst (v := 0) hC.1 hC.2.1 dL_law_1406 (by decide) ?_
            obtain ⟨k264, hw⟩ := hw
            obtain ⟨i265, hw⟩ := hw
            refine m_jald hC hs hH k264 i265 dL_law_1407 ?_
            refine lv_iload hC.1 hC.2.1 dL_law_1408 (lv_at hl 0 rfl) ?_
            refine lv_i2l hC.1 hC.2.1 dL_law_1410 rfl ?_
            refine W.lcmp hC.1 hC.2.1 dL_law_1411 ?_
            refine lv_if_eq (tgt := 1417) hC.1 hC.2.1 dL_law_1412 (by decide) (fun hc => ?_) (fun hc => ?_)
            · have hw := hw.1 hc
              refine W.widen (k := (20 + k * 7 + 1)) (n := (663 + k * 275 + 6)) (lwe (Nat.le_of_ble_eq_true rfl)) (lwe (Nat.le_of_ble_eq_true rfl)) ?_
              exact bw_L_law_1417 hl0 hC hs hbX hbl hbA hend hk hk23 _ _ _ _ _ hw _ _ hH _ (lv_sub hl [2, 3, 4, 5, 6] rfl)
            · have hw := hw.2 hc
              refine lv_iconst (v := 0) hC.1 hC.2.1 dL_law_1415 (by decide) ?_
              exact False.elim hw
        · have hw := hw.2 hc
          refine lv_iconst (v := 0) hC.1 hC.2.1 dL_law_1398 (by decide) ?_
          exact False.elim hw
      · have hw := hw.2.2.2.2.2.2.2.2.2.2.2.2.2.2.2.2.2.2.2.2.1 hj
        refine lv_tableIn (off := 1380) (tgt := 1420) hC.1 hC.2.1 dL_law_40 (by rw [hj]; decide) (by rw [hj]; decide) (by rw [hj]; decide) (by decide) ?_
        refine lv_aload_n hC.1 hC.2.1 dL_law_1420 rfl (lv_at hl 1 rfl) ?_
        refine lv_aload_n hC.1 hC.2.1 dL_law_1421 rfl (lv_at hl 0 rfl) ?_
        refine lv_iload hC.1 hC.2.1 dL_law_1422 (lv_at hl 4 rfl) ?_
        refine lv_iconst (v := 1) hC.1 hC.2.1 dL_law_1424 (by decide) ?_
        refine lv_iadd hC.1 hC.2.1 dL_law_1425 ?_
        obtain ⟨i266, hw⟩ := hw
        refine va_sld (A := mB g) hC.1 hC.2.1 hbX hbl hbA hH.2.2 i266 dL_law_1426 ?_
        refine lv_aload_n hC.1 hC.2.1 dL_law_1427 rfl (lv_at hl 0 rfl) ?_
        refine lv_iload hC.1 hC.2.1 dL_law_1428 (lv_at hl 4 rfl) ?_
        refine lv_iconst (v := 2) hC.1 hC.2.1 dL_law_1430 (by decide) ?_
        refine lv_iadd hC.1 hC.2.1 dL_law_1431 ?_
        obtain ⟨i267, hw⟩ := hw
        refine va_sld (A := mB g) hC.1 hC.2.1 hbX hbl hbA hH.2.2 i267 dL_law_1432 ?_
        refine lv_aload_n hC.1 hC.2.1 dL_law_1433 rfl (lv_at hl 3 rfl) ?_
        refine m_callXi (y := yL_dayFees) (rest := []) hC hs hH hl.1 (vx_cwSW 4 hC.2.2.2.2 (gA_SW q_626 q_627 q_59 q_628) rfl rfl rfl (by decide +kernel) ⟨Nat.le_of_ble_eq_true rfl, Nat.le_of_ble_eq_true rfl⟩) (met_L_dayFees l hl0 g _ _ _ _ _ _ _ hw) rfl rfl (Nat.le_of_ble_eq_true rfl) dL_law_1434 ⟨lwr hk (Nat.le_of_ble_eq_true rfl), lwr hk (Nat.le_of_ble_eq_true rfl)⟩ mKx_no (fun r269 S1 H locs hw hH => ?_)
        refine W.widen (k := (20 + k * 7 + 2)) (n := (663 + k * 275 + 12)) (lww (Nat.le_of_ble_eq_true rfl)) (lww (Nat.le_of_ble_eq_true rfl)) ?_
        refine lv_istore (lv' := [(5, .int _), (0, .ref _), (1, .ref _), (2, .ref _), (3, .ref _), (4, .int _)]) hC.1 hC.2.1 dL_law_1437 hl (by decide) rfl (fun ls hl => ?_)
        refine lv_aload_n hC.1 hC.2.1 dL_law_1439 rfl (lv_at hl 3 rfl) ?_
        refine lv_aload_n hC.1 hC.2.1 dL_law_1440 rfl (lv_at hl 1 rfl) ?_
        refine lv_iload hC.1 hC.2.1 dL_law_1441 (lv_at hl 5 rfl) ?_
        refine lv_iconst (v := 1) hC.1 hC.2.1 dL_law_1443 (by decide) ?_
        refine lv_iadd hC.1 hC.2.1 dL_law_1444 ?_
        obtain ⟨i270, hw⟩ := hw
        refine va_sld (A := mB g) hC.1 hC.2.1 hbX hbl hbA hH.2.2 i270 dL_law_1445 ?_
        refine lv_aload_n hC.1 hC.2.1 dL_law_1446 rfl (lv_at hl 1 rfl) ?_
        refine lv_iload hC.1 hC.2.1 dL_law_1447 (lv_at hl 5 rfl) ?_
        refine lv_iconst (v := 2) hC.1 hC.2.1 dL_law_1449 (by decide) ?_
        refine lv_iadd hC.1 hC.2.1 dL_law_1450 ?_
        obtain ⟨i271, hw⟩ := hw
        refine va_sld (A := mB g) hC.1 hC.2.1 hbX hbl hbA hH.2.2 i271 dL_law_1451 ?_
        obtain ⟨k273, hw⟩ := hw
        refine m_callVi (y := yX5_dayFees) (rest := []) hC hs hH hl.1 (cwV 2 hC.2.2.2.2 (gA_V q_634 q_635 q_636 q_5 q_637) rfl rfl rfl (by decide +kernel) ⟨Nat.le_of_ble_eq_true rfl, Nat.le_of_ble_eq_true rfl⟩) cs5 k273 (met_X5_dayFees l hl0 g _ _ _ _ _ _ hw) rfl rfl (Nat.le_of_ble_eq_true rfl) dL_law_1452 ⟨lwr hk (Nat.le_of_ble_eq_true rfl), lwr hk (Nat.le_of_ble_eq_true rfl)⟩ mKx_no (fun r274 S1 H locs hw hH => ?_)
        refine W.widen (k := (20 + k * 7 + 2)) (n := (663 + k * 275 + 12)) (lww (Nat.le_of_ble_eq_true rfl)) (lww (Nat.le_of_ble_eq_true rfl)) ?_
        refine lv_istore (lv' := [(6, .int _), (5, .int _), (0, .ref _), (1, .ref _), (2, .ref _), (3, .ref _), (4, .int _)]) hC.1 hC.2.1 dL_law_1455 hl (by decide) rfl (fun ls hl => ?_)
        refine lv_aload_n hC.1 hC.2.1 dL_law_1457 rfl (lv_at hl 4 rfl) ?_
        obtain ⟨k276, hw⟩ := hw
        refine m_callVi (y := yX5_thrown) (rest := []) hC hs hH hl.1 (cwV 0 hC.2.2.2.2 (gA_V q_163 q_164 q_165 q_5 q_166) rfl rfl rfl (by decide +kernel) ⟨Nat.le_of_ble_eq_true rfl, Nat.le_of_ble_eq_true rfl⟩) cs5 k276 (met_X5_thrown l hl0 g _ _ _ _ hw) rfl rfl (Nat.le_of_ble_eq_true rfl) dL_law_1458 ⟨lwr hk (Nat.le_of_ble_eq_true rfl), lwr hk (Nat.le_of_ble_eq_true rfl)⟩ mKx_no (fun r277 S1 H locs hw hH => ?_)
        refine W.widen (k := (20 + k * 7 + 2)) (n := (663 + k * 275 + 12)) (lww (Nat.le_of_ble_eq_true rfl)) (lww (Nat.le_of_ble_eq_true rfl)) ?_
        refine lv_iload hC.1 hC.2.1 dL_law_1461 (lv_at hl 1 rfl) ?_
        refine lv_icmp_eq (tgt := 1468) hC.1 hC.2.1 dL_law_1463 (by decide) (fun hc => ?_) (fun hc => ?_)
        · have hw := hw.1 hc
          refine lv_iload hC.1 hC.2.1 dL_law_1468 (lv_at hl 1 rfl) ?_
          refine lv_if_ne (tgt := 1485) hC.1 hC.2.1 dL_law_1470 (by decide) (fun hc => ?_) (fun hc => ?_)
          · have hw := hw.1 hc
            refine W.widen (k := (20 + k * 7 + 2)) (n := (663 + k * 275 + 12)) (lwe (Nat.le_of_ble_eq_true rfl)) (lwe (Nat.le_of_ble_eq_true rfl)) ?_
            exact bw_L_law_1485 hl0 hC hs hbX hbl hbA hend hk hk23 _ _ _ _ _ hw _ _ hH _ (lv_sub hl [2, 3, 4, 5, 6] rfl)
          · have hw := hw.2 hc
            refine lv_aload_n hC.1 hC.2.1 dL_law_1473 rfl (lv_at hl 5 rfl) ?_
            refine lv_iconst (v := 0) hC.1 hC.2.1 dL_law_1474 (by decide) ?_
            obtain ⟨k278, hw⟩ := hw
            obtain ⟨i279, hw⟩ := hw
            refine m_jald hC hs hH k278 i279 dL_law_1475 ?_
            refine lv_iload hC.1 hC.2.1 dL_law_1476 (lv_at hl 0 rfl) ?_
            refine lv_i2l hC.1 hC.2.1 dL_law_1478 rfl ?_
            refine W.lcmp hC.1 hC.2.1 dL_law_1479 ?_
            refine lv_if_eq (tgt := 1485) hC.1 hC.2.1 dL_law_1480 (by decide) (fun hc => ?_) (fun hc => ?_)
            · have hw := hw.1 hc
              refine W.widen (k := (20 + k * 7 + 2)) (n := (663 + k * 275 + 12)) (lwe (Nat.le_of_ble_eq_true rfl)) (lwe (Nat.le_of_ble_eq_true rfl)) ?_
              exact bw_L_law_1485 hl0 hC hs hbX hbl hbA hend hk hk23 _ _ _ _ _ hw _ _ hH _ (lv_sub hl [2, 3, 4, 5, 6] rfl)
            · have hw := hw.2 hc
              refine lv_iconst (v := 0) hC.1 hC.2.1 dL_law_1483 (by decide) ?_
              exact False.elim hw
        · have hw := hw.2 hc
          refine lv_iconst (v := 0) hC.1 hC.2.1 dL_law_1466 (by decide) ?_
          exact False.elim hw
      · have hw := hw.2.2.2.2.2.2.2.2.2.2.2.2.2.2.2.2.2.2.2.2.2.1 hj
        refine lv_tableIn (off := 1448) (tgt := 1488) hC.1 hC.2.1 dL_law_40 (by rw [hj]; decide) (by rw [hj]; decide) (by rw [hj]; decide) (by decide) ?_
        refine lv_aload_n hC.1 hC.2.1 dL_law_1488 rfl (lv_at hl 1 rfl) ?_
        refine lv_aload_n hC.1 hC.2.1 dL_law_1489 rfl (lv_at hl 0 rfl) ?_
        refine lv_iload hC.1 hC.2.1 dL_law_1490 (lv_at hl 4 rfl) ?_
        refine lv_iconst (v := 1) hC.1 hC.2.1 dL_law_1492 (by decide) ?_
        refine lv_iadd hC.1 hC.2.1 dL_law_1493 ?_
        obtain ⟨i280, hw⟩ := hw
        refine va_sld (A := mB g) hC.1 hC.2.1 hbX hbl hbA hH.2.2 i280 dL_law_1494 ?_
        refine lv_aload_n hC.1 hC.2.1 dL_law_1495 rfl (lv_at hl 0 rfl) ?_
        refine lv_iload hC.1 hC.2.1 dL_law_1496 (lv_at hl 4 rfl) ?_
        refine lv_iconst (v := 2) hC.1 hC.2.1 dL_law_1498 (by decide) ?_
        refine lv_iadd hC.1 hC.2.1 dL_law_1499 ?_
        obtain ⟨i281, hw⟩ := hw
        refine va_sld (A := mB g) hC.1 hC.2.1 hbX hbl hbA hH.2.2 i281 dL_law_1500 ?_
        refine lv_aload_n hC.1 hC.2.1 dL_law_1501 rfl (lv_at hl 3 rfl) ?_
        refine m_callXi (y := yL_totalWith) (rest := []) hC hs hH hl.1 (vx_cwSW 4 hC.2.2.2.2 (gA_SW q_638 q_639 q_59 q_640) rfl rfl rfl (by decide +kernel) ⟨Nat.le_of_ble_eq_true rfl, Nat.le_of_ble_eq_true rfl⟩) (met_L_totalWith l hl0 g _ _ _ _ _ _ _ hw) rfl rfl (Nat.le_of_ble_eq_true rfl) dL_law_1502 ⟨lwr hk (Nat.le_of_ble_eq_true rfl), lwr hk (Nat.le_of_ble_eq_true rfl)⟩ mKx_no (fun r283 S1 H locs hw hH => ?_)
        refine W.widen (k := (20 + k * 7 + 2)) (n := (663 + k * 275 + 12)) (lww (Nat.le_of_ble_eq_true rfl)) (lww (Nat.le_of_ble_eq_true rfl)) ?_
        refine lv_istore (lv' := [(5, .int _), (0, .ref _), (1, .ref _), (2, .ref _), (3, .ref _), (4, .int _)]) hC.1 hC.2.1 dL_law_1505 hl (by decide) rfl (fun ls hl => ?_)
        refine lv_aload_n hC.1 hC.2.1 dL_law_1507 rfl (lv_at hl 3 rfl) ?_
        refine lv_aload_n hC.1 hC.2.1 dL_law_1508 rfl (lv_at hl 1 rfl) ?_
        refine lv_iload hC.1 hC.2.1 dL_law_1509 (lv_at hl 5 rfl) ?_
        refine lv_iconst (v := 1) hC.1 hC.2.1 dL_law_1511 (by decide) ?_
        refine lv_iadd hC.1 hC.2.1 dL_law_1512 ?_
        obtain ⟨i284, hw⟩ := hw
        refine va_sld (A := mB g) hC.1 hC.2.1 hbX hbl hbA hH.2.2 i284 dL_law_1513 ?_
        refine lv_aload_n hC.1 hC.2.1 dL_law_1514 rfl (lv_at hl 1 rfl) ?_
        refine lv_iload hC.1 hC.2.1 dL_law_1515 (lv_at hl 5 rfl) ?_
        refine lv_iconst (v := 2) hC.1 hC.2.1 dL_law_1517 (by decide) ?_
        refine lv_iadd hC.1 hC.2.1 dL_law_1518 ?_
        obtain ⟨i285, hw⟩ := hw
        refine va_sld (A := mB g) hC.1 hC.2.1 hbX hbl hbA hH.2.2 i285 dL_law_1519 ?_
        obtain ⟨k287, hw⟩ := hw
        refine m_callVi (y := yX5_totalWith) (rest := []) hC hs hH hl.1 (cwV 2 hC.2.2.2.2 (gA_V q_645 q_646 q_647 q_5 q_648) rfl rfl rfl (by decide +kernel) ⟨Nat.le_of_ble_eq_true rfl, Nat.le_of_ble_eq_true rfl⟩) cs5 k287 (met_X5_totalWith l hl0 g _ _ _ _ _ _ hw) rfl rfl (Nat.le_of_ble_eq_true rfl) dL_law_1520 ⟨lwr hk (Nat.le_of_ble_eq_true rfl), lwr hk (Nat.le_of_ble_eq_true rfl)⟩ mKx_no (fun r288 S1 H locs hw hH => ?_)
        refine W.widen (k := (20 + k * 7 + 2)) (n := (663 + k * 275 + 12)) (lww (Nat.le_of_ble_eq_true rfl)) (lww (Nat.le_of_ble_eq_true rfl)) ?_
        refine lv_istore (lv' := [(6, .int _), (5, .int _), (0, .ref _), (1, .ref _), (2, .ref _), (3, .ref _), (4, .int _)]) hC.1 hC.2.1 dL_law_1523 hl (by decide) rfl (fun ls hl => ?_)
        refine lv_aload_n hC.1 hC.2.1 dL_law_1525 rfl (lv_at hl 4 rfl) ?_
        obtain ⟨k290, hw⟩ := hw
        refine m_callVi (y := yX5_thrown) (rest := []) hC hs hH hl.1 (cwV 0 hC.2.2.2.2 (gA_V q_163 q_164 q_165 q_5 q_166) rfl rfl rfl (by decide +kernel) ⟨Nat.le_of_ble_eq_true rfl, Nat.le_of_ble_eq_true rfl⟩) cs5 k290 (met_X5_thrown l hl0 g _ _ _ _ hw) rfl rfl (Nat.le_of_ble_eq_true rfl) dL_law_1526 ⟨lwr hk (Nat.le_of_ble_eq_true rfl), lwr hk (Nat.le_of_ble_eq_true rfl)⟩ mKx_no (fun r291 S1 H locs hw hH => ?_)
        refine W.widen (k := (20 + k * 7 + 2)) (n := (663 + k * 275 + 12)) (lww (Nat.le_of_ble_eq_true rfl)) (lww (Nat.le_of_ble_eq_true rfl)) ?_
        refine lv_iload hC.1 hC.2.1 dL_law_1529 (lv_at hl 1 rfl) ?_
        refine lv_icmp_eq (tgt := 1536) hC.1 hC.2.1 dL_law_1531 (by decide) (fun hc => ?_) (fun hc => ?_)
        · have hw := hw.1 hc
          refine lv_iload hC.1 hC.2.1 dL_law_1536 (lv_at hl 1 rfl) ?_
          refine lv_if_ne (tgt := 1553) hC.1 hC.2.1 dL_law_1538 (by decide) (fun hc => ?_) (fun hc => ?_)
          · have hw := hw.1 hc
            refine W.widen (k := (20 + k * 7 + 2)) (n := (663 + k * 275 + 12)) (lwe (Nat.le_of_ble_eq_true rfl)) (lwe (Nat.le_of_ble_eq_true rfl)) ?_
            exact bw_L_law_1553 hl0 hC hs hbX hbl hbA hend hk hk23 _ _ _ _ _ hw _ _ hH _ (lv_sub hl [2, 3, 4, 5, 6] rfl)
          · have hw := hw.2 hc
            refine lv_aload_n hC.1 hC.2.1 dL_law_1541 rfl (lv_at hl 5 rfl) ?_
            refine lv_iconst (v := 0) hC.1 hC.2.1 dL_law_1542 (by decide) ?_
            obtain ⟨k292, hw⟩ := hw
            obtain ⟨i293, hw⟩ := hw
            refine m_jald hC hs hH k292 i293 dL_law_1543 ?_
            refine lv_iload hC.1 hC.2.1 dL_law_1544 (lv_at hl 0 rfl) ?_
            refine lv_i2l hC.1 hC.2.1 dL_law_1546 rfl ?_
            refine W.lcmp hC.1 hC.2.1 dL_law_1547 ?_
            refine lv_if_eq (tgt := 1553) hC.1 hC.2.1 dL_law_1548 (by decide) (fun hc => ?_) (fun hc => ?_)
            · have hw := hw.1 hc
              refine W.widen (k := (20 + k * 7 + 2)) (n := (663 + k * 275 + 12)) (lwe (Nat.le_of_ble_eq_true rfl)) (lwe (Nat.le_of_ble_eq_true rfl)) ?_
              exact bw_L_law_1553 hl0 hC hs hbX hbl hbA hend hk hk23 _ _ _ _ _ hw _ _ hH _ (lv_sub hl [2, 3, 4, 5, 6] rfl)
            · have hw := hw.2 hc
              refine lv_iconst (v := 0) hC.1 hC.2.1 dL_law_1551 (by decide) ?_
              exact False.elim hw
        · have hw := hw.2 hc
          refine lv_iconst (v := 0) hC.1 hC.2.1 dL_law_1534 (by decide) ?_
          exact False.elim hw
      · have hw := hw.2.2.2.2.2.2.2.2.2.2.2.2.2.2.2.2.2.2.2.2.2.2.1 hj
        refine lv_tableIn (off := 1516) (tgt := 1556) hC.1 hC.2.1 dL_law_40 (by rw [hj]; decide) (by rw [hj]; decide) (by rw [hj]; decide) (by decide) ?_
        refine lv_aload_n hC.1 hC.2.1 dL_law_1556 rfl (lv_at hl 1 rfl) ?_
        refine lv_aload_n hC.1 hC.2.1 dL_law_1557 rfl (lv_at hl 0 rfl) ?_
        refine lv_iload hC.1 hC.2.1 dL_law_1558 (lv_at hl 4 rfl) ?_
        refine lv_iconst (v := 1) hC.1 hC.2.1 dL_law_1560 (by decide) ?_
        refine lv_iadd hC.1 hC.2.1 dL_law_1561 ?_
        obtain ⟨i294, hw⟩ := hw
        refine va_sld (A := mB g) hC.1 hC.2.1 hbX hbl hbA hH.2.2 i294 dL_law_1562 ?_
        refine lv_aload_n hC.1 hC.2.1 dL_law_1563 rfl (lv_at hl 3 rfl) ?_
        refine m_callXi (y := yL_bestTariff) (rest := []) hC hs hH hl.1 (vx_cwSW 3 hC.2.2.2.2 (gA_SW q_653 q_654 q_59 q_655) rfl rfl rfl (by decide +kernel) ⟨Nat.le_of_ble_eq_true rfl, Nat.le_of_ble_eq_true rfl⟩) (met_L_bestTariff l hl0 g _ _ _ _ _ _ hw) rfl rfl (Nat.le_of_ble_eq_true rfl) dL_law_1564 ⟨lwr hk (Nat.le_of_ble_eq_true rfl), lwr hk (Nat.le_of_ble_eq_true rfl)⟩ mKx_no (fun r296 S1 H locs hw hH => ?_)
        refine W.widen (k := (20 + k * 7 + 1)) (n := (663 + k * 275 + 6)) (lww (Nat.le_of_ble_eq_true rfl)) (lww (Nat.le_of_ble_eq_true rfl)) ?_
        refine lv_istore (lv' := [(5, .int _), (0, .ref _), (1, .ref _), (2, .ref _), (3, .ref _), (4, .int _)]) hC.1 hC.2.1 dL_law_1567 hl (by decide) rfl (fun ls hl => ?_)
        refine lv_aload_n hC.1 hC.2.1 dL_law_1569 rfl (lv_at hl 3 rfl) ?_
        refine lv_aload_n hC.1 hC.2.1 dL_law_1570 rfl (lv_at hl 1 rfl) ?_
        refine lv_iload hC.1 hC.2.1 dL_law_1571 (lv_at hl 5 rfl) ?_
        refine lv_iconst (v := 1) hC.1 hC.2.1 dL_law_1573 (by decide) ?_
        refine lv_iadd hC.1 hC.2.1 dL_law_1574 ?_
        obtain ⟨i297, hw⟩ := hw
        refine va_sld (A := mB g) hC.1 hC.2.1 hbX hbl hbA hH.2.2 i297 dL_law_1575 ?_
        obtain ⟨k299, hw⟩ := hw
        refine m_callVi (y := yX5_bestTariff) (rest := []) hC hs hH hl.1 (cwV 1 hC.2.2.2.2 (gA_V q_660 q_661 q_662 q_5 q_663) rfl rfl rfl (by decide +kernel) ⟨Nat.le_of_ble_eq_true rfl, Nat.le_of_ble_eq_true rfl⟩) cs5 k299 (met_X5_bestTariff l hl0 g _ _ _ _ _ hw) rfl rfl (Nat.le_of_ble_eq_true rfl) dL_law_1576 ⟨lwr hk (Nat.le_of_ble_eq_true rfl), lwr hk (Nat.le_of_ble_eq_true rfl)⟩ mKx_no (fun r300 S1 H locs hw hH => ?_)
        refine W.widen (k := (20 + k * 7 + 1)) (n := (663 + k * 275 + 6)) (lww (Nat.le_of_ble_eq_true rfl)) (lww (Nat.le_of_ble_eq_true rfl)) ?_
        refine lv_istore (lv' := [(6, .int _), (5, .int _), (0, .ref _), (1, .ref _), (2, .ref _), (3, .ref _), (4, .int _)]) hC.1 hC.2.1 dL_law_1579 hl (by decide) rfl (fun ls hl => ?_)
        refine lv_aload_n hC.1 hC.2.1 dL_law_1581 rfl (lv_at hl 4 rfl) ?_
        obtain ⟨k302, hw⟩ := hw
        refine m_callVi (y := yX5_thrown) (rest := []) hC hs hH hl.1 (cwV 0 hC.2.2.2.2 (gA_V q_163 q_164 q_165 q_5 q_166) rfl rfl rfl (by decide +kernel) ⟨Nat.le_of_ble_eq_true rfl, Nat.le_of_ble_eq_true rfl⟩) cs5 k302 (met_X5_thrown l hl0 g _ _ _ _ hw) rfl rfl (Nat.le_of_ble_eq_true rfl) dL_law_1582 ⟨lwr hk (Nat.le_of_ble_eq_true rfl), lwr hk (Nat.le_of_ble_eq_true rfl)⟩ mKx_no (fun r303 S1 H locs hw hH => ?_)
        refine W.widen (k := (20 + k * 7 + 1)) (n := (663 + k * 275 + 6)) (lww (Nat.le_of_ble_eq_true rfl)) (lww (Nat.le_of_ble_eq_true rfl)) ?_
        refine lv_iload hC.1 hC.2.1 dL_law_1585 (lv_at hl 1 rfl) ?_
        refine lv_icmp_eq (tgt := 1592) hC.1 hC.2.1 dL_law_1587 (by decide) (fun hc => ?_) (fun hc => ?_)
        · have hw := hw.1 hc
          refine lv_iload hC.1 hC.2.1 dL_law_1592 (lv_at hl 1 rfl) ?_
          refine lv_if_ne (tgt := 1609) hC.1 hC.2.1 dL_law_1594 (by decide) (fun hc => ?_) (fun hc => ?_)
          · have hw := hw.1 hc
            refine W.widen (k := (20 + k * 7 + 1)) (n := (663 + k * 275 + 6)) (lwe (Nat.le_of_ble_eq_true rfl)) (lwe (Nat.le_of_ble_eq_true rfl)) ?_
            exact bw_L_law_1609 hl0 hC hs hbX hbl hbA hend hk hk23 _ _ _ _ _ hw _ _ hH _ (lv_sub hl [2, 3, 4, 5, 6] rfl)
          · have hw := hw.2 hc
            refine lv_aload_n hC.1 hC.2.1 dL_law_1597 rfl (lv_at hl 5 rfl) ?_
            refine lv_iconst (v := 0) hC.1 hC.2.1 dL_law_1598 (by decide) ?_
            obtain ⟨k304, hw⟩ := hw
            obtain ⟨i305, hw⟩ := hw
            refine m_jald hC hs hH k304 i305 dL_law_1599 ?_
            refine lv_iload hC.1 hC.2.1 dL_law_1600 (lv_at hl 0 rfl) ?_
            refine lv_i2l hC.1 hC.2.1 dL_law_1602 rfl ?_
            refine W.lcmp hC.1 hC.2.1 dL_law_1603 ?_
            refine lv_if_eq (tgt := 1609) hC.1 hC.2.1 dL_law_1604 (by decide) (fun hc => ?_) (fun hc => ?_)
            · have hw := hw.1 hc
              refine W.widen (k := (20 + k * 7 + 1)) (n := (663 + k * 275 + 6)) (lwe (Nat.le_of_ble_eq_true rfl)) (lwe (Nat.le_of_ble_eq_true rfl)) ?_
              exact bw_L_law_1609 hl0 hC hs hbX hbl hbA hend hk hk23 _ _ _ _ _ hw _ _ hH _ (lv_sub hl [2, 3, 4, 5, 6] rfl)
            · have hw := hw.2 hc
              refine lv_iconst (v := 0) hC.1 hC.2.1 dL_law_1607 (by decide) ?_
              exact False.elim hw
        · have hw := hw.2 hc
          refine lv_iconst (v := 0) hC.1 hC.2.1 dL_law_1590 (by decide) ?_
          exact False.elim hw
      · have hw := hw.2.2.2.2.2.2.2.2.2.2.2.2.2.2.2.2.2.2.2.2.2.2.2.1 hj
        refine lv_tableIn (off := 1572) (tgt := 1612) hC.1 hC.2.1 dL_law_40 (by rw [hj]; decide) (by rw [hj]; decide) (by rw [hj]; decide) (by decide) ?_
        refine lv_aload_n hC.1 hC.2.1 dL_law_1612 rfl (lv_at hl 1 rfl) ?_
        obtain ⟨k307, hw⟩ := hw
        refine m_callVd (y := yX4_freeShare) (rest := []) hC hs hH hl.1 (cwV 0 hC.2.2.2.2 (gA_V q_664 q_665 q_666 q_2 q_667) rfl rfl rfl (by decide +kernel) ⟨Nat.le_of_ble_eq_true rfl, Nat.le_of_ble_eq_true rfl⟩) cs4 k307 (met_X4_freeShare l hl0 g _ _ _ _ hw) rfl rfl (Nat.le_of_ble_eq_true rfl) dL_law_1613 ⟨lwr hk (Nat.le_of_ble_eq_true rfl), lwr hk (Nat.le_of_ble_eq_true rfl)⟩ mKx_no (fun r308 S1 H locs hw hH => ?_)
        refine W.widen (k := (20 + k * 7 + 0)) (n := (663 + k * 275 + 0)) (lww (Nat.le_of_ble_eq_true rfl)) (lww (Nat.le_of_ble_eq_true rfl)) ?_
        refine lv_dstore (lv' := [(5, .double _), (0, .ref _), (1, .ref _), (2, .ref _), (3, .ref _), (4, .int _)]) hC.1 hC.2.1 dL_law_1616 hl (by decide) rfl (fun ls hl => ?_)
        refine lv_aload_n hC.1 hC.2.1 dL_law_1618 rfl (lv_at hl 3 rfl) ?_
        obtain ⟨k310, hw⟩ := hw
        refine m_callVd (y := yX5_freeShare) (rest := []) hC hs hH hl.1 (cwV 0 hC.2.2.2.2 (gA_V q_668 q_669 q_670 q_5 q_671) rfl rfl rfl (by decide +kernel) ⟨Nat.le_of_ble_eq_true rfl, Nat.le_of_ble_eq_true rfl⟩) cs5 k310 (met_X5_freeShare l hl0 g _ _ _ _ hw) rfl rfl (Nat.le_of_ble_eq_true rfl) dL_law_1619 ⟨lwr hk (Nat.le_of_ble_eq_true rfl), lwr hk (Nat.le_of_ble_eq_true rfl)⟩ mKx_no (fun r311 S1 H locs hw hH => ?_)
        refine W.widen (k := (20 + k * 7 + 0)) (n := (663 + k * 275 + 0)) (lww (Nat.le_of_ble_eq_true rfl)) (lww (Nat.le_of_ble_eq_true rfl)) ?_
        refine lv_dstore (lv' := [(7, .double _), (5, .double _), (0, .ref _), (1, .ref _), (2, .ref _), (3, .ref _), (4, .int _)]) hC.1 hC.2.1 dL_law_1622 hl (by decide) rfl (fun ls hl => ?_)
        refine lv_dload hC.1 hC.2.1 dL_law_1624 (lv_at hl 1 rfl) ?_
        refine lv_dload hC.1 hC.2.1 dL_law_1626 (lv_at hl 0 rfl) ?_
        refine lv_dcmp hC.1 hC.2.1 dL_law_1628 ?_
        refine lv_if_eq (tgt := 1650) hC.1 hC.2.1 dL_law_1629 (by decide) (fun hc => ?_) (fun hc => ?_)
        · have hw := hw.1 hc
          refine W.widen (k := (20 + k * 7 + 0)) (n := (663 + k * 275 + 0)) (lwe (Nat.le_of_ble_eq_true rfl)) (lwe (Nat.le_of_ble_eq_true rfl)) ?_
          exact bw_L_law_1650 hl0 hC hs hbX hbl hbA hend hk hk23 _ _ _ _ _ hw _ _ hH _ (lv_sub hl [2, 3, 4, 5, 6] rfl)
        · have hw := hw.2 hc
          refine lv_dload hC.1 hC.2.1 dL_law_1632 (lv_at hl 1 rfl) ?_
          refine lv_dload hC.1 hC.2.1 dL_law_1634 (lv_at hl 1 rfl) ?_
          refine lv_dcmp hC.1 hC.2.1 dL_law_1636 ?_
          refine lv_if_eq (tgt := 1648) hC.1 hC.2.1 dL_law_1637 (by decide) (fun hc => ?_) (fun hc => ?_)
          · have hw := hw.1 hc
            refine lv_iconst (v := 0) hC.1 hC.2.1 dL_law_1648 (by decide) ?_
            exact False.elim hw
          · have hw := hw.2 hc
            refine lv_dload hC.1 hC.2.1 dL_law_1640 (lv_at hl 0 rfl) ?_
            refine lv_dload hC.1 hC.2.1 dL_law_1642 (lv_at hl 0 rfl) ?_
            refine lv_dcmp hC.1 hC.2.1 dL_law_1644 ?_
            refine lv_if_ne (tgt := 1650) hC.1 hC.2.1 dL_law_1645 (by decide) (fun hc => ?_) (fun hc => ?_)
            · have hw := hw.1 hc
              refine W.widen (k := (20 + k * 7 + 0)) (n := (663 + k * 275 + 0)) (lwe (Nat.le_of_ble_eq_true rfl)) (lwe (Nat.le_of_ble_eq_true rfl)) ?_
              exact bw_L_law_1650 hl0 hC hs hbX hbl hbA hend hk hk23 _ _ _ _ _ hw _ _ hH _ (lv_sub hl [2, 3, 4, 5, 6] rfl)
            · have hw := hw.2 hc
              refine lv_iconst (v := 0) hC.1 hC.2.1 dL_law_1648 (by decide) ?_
              exact False.elim hw
      · have hw := hw.2.2.2.2.2.2.2.2.2.2.2.2.2.2.2.2.2.2.2.2.2.2.2.2 hj
        refine lv_tableIn (off := 1613) (tgt := 1653) hC.1 hC.2.1 dL_law_40 (by rw [hj]; decide) (by rw [hj]; decide) (by rw [hj]; decide) (by decide) ?_
        refine lv_aload_n hC.1 hC.2.1 dL_law_1653 rfl (lv_at hl 1 rfl) ?_
        obtain ⟨k313, hw⟩ := hw
        refine m_callVl (y := yX4_digest) (rest := []) hC hs hH hl.1 (cwV 0 hC.2.2.2.2 (gA_V q_672 q_673 q_674 q_2 q_675) rfl rfl rfl (by decide +kernel) ⟨Nat.le_of_ble_eq_true rfl, Nat.le_of_ble_eq_true rfl⟩) cs4 k313 (met_X4_digest l hl0 g _ _ _ _ hw) rfl rfl (Nat.le_of_ble_eq_true rfl) dL_law_1654 ⟨lwr hk (Nat.le_of_ble_eq_true rfl), lwr hk (Nat.le_of_ble_eq_true rfl)⟩ mKx_no (fun r314 S1 H locs hw hH => ?_)
        refine W.widen (k := (20 + k * 7 + 0)) (n := (663 + k * 275 + 0)) (lww (Nat.le_of_ble_eq_true rfl)) (lww (Nat.le_of_ble_eq_true rfl)) ?_
        refine lv_aload_n hC.1 hC.2.1 dL_law_1657 rfl (lv_at hl 2 rfl) ?_
        obtain ⟨k316, hw⟩ := hw
        refine m_callVl (y := yX5_digest) (rest := [.long _]) hC hs hH hl.1 (cwV 0 hC.2.2.2.2 (gA_V q_693 q_694 q_695 q_5 q_696) rfl rfl rfl (by decide +kernel) ⟨Nat.le_of_ble_eq_true rfl, Nat.le_of_ble_eq_true rfl⟩) cs5 k316 (met_X5_digest l hl0 g _ _ _ _ hw) rfl rfl (Nat.le_of_ble_eq_true rfl) dL_law_1658 ⟨lwr hk (Nat.le_of_ble_eq_true rfl), lwr hk (Nat.le_of_ble_eq_true rfl)⟩ mKx_no (fun r317 S1 H locs hw hH => ?_)
        refine W.widen (k := (20 + k * 7 + 0)) (n := (663 + k * 275 + 0)) (lww (Nat.le_of_ble_eq_true rfl)) (lww (Nat.le_of_ble_eq_true rfl)) ?_
        refine W.lcmp hC.1 hC.2.1 dL_law_1661 ?_
        refine lv_if_eq (tgt := 1667) hC.1 hC.2.1 dL_law_1662 (by decide) (fun hc => ?_) (fun hc => ?_)
        · have hw := hw.1 hc
          refine W.widen (k := (20 + k * 7 + 7)) (n := (663 + k * 275 + 275)) (lwe (Nat.le_of_ble_eq_true rfl)) (lwe (Nat.le_of_ble_eq_true rfl)) ?_
          exact bw_L_law_1667 hl0 hC hs hbX hbl hbA hend hk hk23 _ _ _ _ _ hw _ _ hH _ (lv_sub hl [0, 1, 2, 3, 4] rfl)
        · have hw := hw.2 hc
          refine lv_iconst (v := 0) hC.1 hC.2.1 dL_law_1665 (by decide) ?_
          exact False.elim hw
theorem lw_L_law_23 {p : Program} {l : Launch} {e : Env} {s : State} {m : MethodId} {args : Array Value} {below : List Frame} {meth : Method} {c : Code} {g : mG} {Qf : State → Prop} {b L : Nat} {xs : Nat → Int32} (hl0 : l.stackTraces = false) (hC : CallFix p m c cL_law 9 s args (Cond.tt :: wsL_law) RL) (hs : mX g s) (hbX : va_X b L xs s s.heap) (hbl : b < s.heap.size) (hbA : ¬ mB g b) (hend : ∀ (H : Heap) (locs : List Loc) (ls : Array Slot), (∀ q ∈ locs, mB g q.base) → W p l e room_1 s m args below meth c H locs 601024 7293034 Qf (F0 m 1674 ls [.int 1])) : ∀ (n k : Nat), k + n = 513 → ∀ (S : mmS) (x1 : Nat) (x2 : Nat) (x3 : Nat) (x4 : Int32), lp_L_law_23 g.2.2.2.2.2 L xs n S x1 x2 x3 x4 → ∀ (H : Heap) (locs : List Loc), mH g S s H locs → ∀ ls : Array Slot, lv_has ls 9 [(0, .ref b), (1, .ref x1), (2, .ref x2), (3, .ref x3), (4, .int x4)] → W p l e room_1 s m args below meth c H locs (20 + k * 7 + 0) (663 + k * 275 + 0) Qf (F0 m 23 ls []) := by
  intro n
  induction n with
  | zero => intro k hk S x1 x2 x3 x4 hw; exact False.elim hw
  | succ n ih => exact fun k hk S x1 x2 x3 x4 hw => bw_L_law_23 hl0 hC hs hbX hbl hbA hend (k := k) (by omega) (K23 := lp_L_law_23 g.2.2.2.2.2 L xs n) (ih (k + 1) (by omega)) S x1 x2 x3 x4 hw
def wp_L_law (z : Nat × Nat) (L : Nat) (xs : Nat → Int32) (S : mmS) : Prop := ∀ q1 : Nat, q1 ∉ mL S → ∀ S3 : mmS, S3 = sNo S q1 4 → wp_X4_init z S3 q1 (fun S4 => ∀ q5 : Nat, q5 ∉ mL S4 → ∀ S7 : mmS, S7 = sNo S4 q5 5 → wp_X5_init z S7 q5 (fun S8 => ∀ q9 : Nat, q9 ∉ mL S8 → ∀ S11 : mmS, S11 = sNj S8 q9 1 → ∀ v12 : Int32, v12 = (0 : Int32) → lp_L_law_23 z L xs 513 S11 q1 q5 q9 v12) (fun _ _ => False)) (fun _ _ => False)
set_option maxHeartbeats 4000000 in
set_option maxRecDepth 100000 in
theorem law_walk {p : Program} {l : Launch} {e : Env} {s : State} {m : MethodId} {args : Array Value} {below : List Frame} {meth : Method} {c : Code} {g : mG} {Qf : State → Prop} {b L : Nat} {xs : Nat → Int32} (hl0 : l.stackTraces = false) (hC : CallFix p m c cL_law 9 s args (Cond.tt :: wsL_law) RL) (hs : mX g s) (hbX : va_X b L xs s s.heap) (hbl : b < s.heap.size) (hbA : ¬ mB g b) (hend : ∀ (H : Heap) (locs : List Loc) (ls : Array Slot), (∀ q ∈ locs, mB g q.base) → W p l e room_1 s m args below meth c H locs 601024 7293034 Qf (F0 m 1674 ls [.int 1])) (S : mmS) (hw : wp_L_law g.2.2.2.2.2 L xs S) (hH : mH g S s s.heap []) (ls : Array Slot) (hl : lv_has ls 9 [(0, .ref b)]) : W p l e room_1 s m args below meth c s.heap [] 0 0 Qf (F0 m 0 ls []) := by
  unfold wp_L_law at hw
  refine m_newO hC hs hH cs4 (fun _ h => List.mem_cons_of_mem _ (inlX4 _ h)) (List.mem_cons_of_mem _ q_0) (List.mem_cons_of_mem _ q_1) (List.mem_cons_of_mem _ q_2) df4 (Nat.le_of_ble_eq_true rfl) (Nat.le_of_ble_eq_true rfl) dL_law_0 (fun q1 H f2 hH => ?_)
  have hw := hw q1 f2 _ rfl
  refine W.widen (k := 1) (n := 7) (Nat.le_of_ble_eq_true rfl) (Nat.le_of_ble_eq_true rfl) ?_
  refine lv_dup hC.1 hC.2.1 dL_law_3 rfl ?_
  refine m_callIv (y := yX4_init) (rest := [.ref _]) hC hs hH hl.1 (cwI 0 hC.2.2.2.2 (gA0 q_9) rfl rfl rfl (hC.2.2.2.2 _ (List.mem_cons_of_mem _ q_2)) (hC.2.2.2.2 _ (List.mem_cons_of_mem _ q_7)) (hC.2.2.2.2 _ (List.mem_cons_of_mem _ q_8)) rfl (by decide +kernel) ⟨Nat.le_of_ble_eq_true rfl, Nat.le_of_ble_eq_true rfl⟩) (met_X4_init l hl0 g _ _ _ _ hw) rfl rfl (Nat.le_of_ble_eq_true rfl) dL_law_4 ⟨Nat.le_of_ble_eq_true rfl, Nat.le_of_ble_eq_true rfl⟩ mKx_no (fun S1 H locs hw hH => ?_)
  refine W.widen (k := 6) (n := 22) (Nat.le_of_ble_eq_true rfl) (Nat.le_of_ble_eq_true rfl) ?_
  refine lv_astore_n (lv' := [(1, .ref _), (0, .ref _)]) hC.1 hC.2.1 dL_law_7 rfl hl (by decide) rfl (fun ls hl => ?_)
  refine m_newO hC hs hH cs5 (fun _ h => List.mem_cons_of_mem _ (inlX5 _ h)) (List.mem_cons_of_mem _ q_3) (List.mem_cons_of_mem _ q_4) (List.mem_cons_of_mem _ q_5) df5 (Nat.le_of_ble_eq_true rfl) (Nat.le_of_ble_eq_true rfl) dL_law_8 (fun q5 H f6 hH => ?_)
  have hw := hw q5 f6 _ rfl
  refine W.widen (k := 7) (n := 41) (Nat.le_of_ble_eq_true rfl) (Nat.le_of_ble_eq_true rfl) ?_
  refine lv_dup hC.1 hC.2.1 dL_law_11 rfl ?_
  refine m_callIv (y := yX5_init) (rest := [.ref _]) hC hs hH hl.1 (cwI 0 hC.2.2.2.2 (gA0 q_40) rfl rfl rfl (hC.2.2.2.2 _ (List.mem_cons_of_mem _ q_5)) (hC.2.2.2.2 _ (List.mem_cons_of_mem _ q_38)) (hC.2.2.2.2 _ (List.mem_cons_of_mem _ q_39)) rfl (by decide +kernel) ⟨Nat.le_of_ble_eq_true rfl, Nat.le_of_ble_eq_true rfl⟩) (met_X5_init l hl0 g _ _ _ _ hw) rfl rfl (Nat.le_of_ble_eq_true rfl) dL_law_12 ⟨Nat.le_of_ble_eq_true rfl, Nat.le_of_ble_eq_true rfl⟩ mKx_no (fun S1 H locs hw hH => ?_)
  refine W.widen (k := 19) (n := 662) (Nat.le_of_ble_eq_true rfl) (Nat.le_of_ble_eq_true rfl) ?_
  refine lv_astore_n (lv' := [(2, .ref _), (1, .ref _), (0, .ref _)]) hC.1 hC.2.1 dL_law_15 rfl hl (by decide) rfl (fun ls hl => ?_)
  refine lv_iconst (v := 1) hC.1 hC.2.1 dL_law_16 (by decide) ?_
  refine m_newJ (N' := 1) hC hs hH (List.mem_cons_of_mem _ q_6) (by decide) (by decide) (by decide) (Nat.le_of_ble_eq_true rfl) (Nat.le_of_ble_eq_true rfl) dL_law_17 (fun q9 H f10 hH => ?_)
  have hw := hw q9 f10 _ rfl
  refine W.widen (k := 20) (n := 663) (Nat.le_of_ble_eq_true rfl) (Nat.le_of_ble_eq_true rfl) ?_
  refine lv_astore_n (lv' := [(3, .ref _), (2, .ref _), (1, .ref _), (0, .ref _)]) hC.1 hC.2.1 dL_law_19 rfl hl (by decide) rfl (fun ls hl => ?_)
  refine lv_iconst (v := 0) hC.1 hC.2.1 dL_law_20 (by decide) ?_
  have hw := hw _ rfl
  refine lv_istore (lv' := [(4, .int _), (3, .ref _), (2, .ref _), (1, .ref _), (0, .ref _)]) hC.1 hC.2.1 dL_law_21 hl (by decide) rfl (fun ls hl => ?_)
  refine W.widen (k := 20 + 0 * 7 + 0) (n := 663 + 0 * 275 + 0) (Nat.le_of_ble_eq_true rfl) (Nat.le_of_ble_eq_true rfl) ?_
  exact lw_L_law_23 hl0 hC hs hbX hbl hbA hend 513 0 rfl _ _ _ _ _ hw _ _ hH _ (lv_sub hl [4, 3, 2, 1, 0] rfl)
