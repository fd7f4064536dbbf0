/-! 15.law: the law, laid by wip/p28/gen.py -/
def bk_L_law_584 (z : Nat × Nat) (L : Nat) (xs : Nat → Int32) (K584 : mmS → Nat → Int32 → Nat → Int32 → Int32 → Int32 → Int32 → Int32 → Int32 → Prop) (S : mmS) (x1 : Nat) (x7 : Int32) (x8 : Nat) (x9 : Int32) (x10 : Int32) (x11 : Int32) (x12 : Int32) (x13 : Int32) (x14 : Int32) : Prop := (x7 ≤ x14 → (¬ x9 = x10 → False) ∧ (x9 = x10 → (¬ x9 = x11 → False) ∧ (x9 = x11 → (¬ x9 = x12 → False) ∧ (x9 = x12 → (x1 ∈ mL S ∧ mK S x1 = 4) ∧ wp_X4_freeShare z S x1 (fun r3 S1 => ((Op.cmpValue (FP.dcmp r3 (FP.dconst0)) CmpOp.l) < 0 → False) ∧ (¬ (Op.cmpValue (FP.dcmp r3 (FP.dconst0)) CmpOp.l) < 0 → (x1 ∈ mL S1 ∧ mK S1 x1 = 4) ∧ wp_X4_freeShare z S1 x1 (fun r6 S4 => (0 < (Op.cmpValue (FP.dcmp r6 (FP.dconst1)) CmpOp.g) → False) ∧ (¬ 0 < (Op.cmpValue (FP.dcmp r6 (FP.dconst1)) CmpOp.g) → True)) (fun _ _ => False))) (fun _ _ => False))))) ∧ (¬ x7 ≤ x14 → (x8 ∈ mL S ∧ mK S x8 = 7) ∧ vp_in x14 (mN S x8) ∧ vp_in x13 (mN S x8) ∧ ((mA S x8 (x14).toNatClampNeg) ≤ (mA S x8 (x13).toNatClampNeg) → ∀ v10 : Int32, v10 = x14 + 1 → K584 S x1 x7 x8 x9 x10 x11 x12 x13 v10) ∧ (¬ (mA S x8 (x14).toNatClampNeg) ≤ (mA S x8 (x13).toNatClampNeg) → False))
def lp_L_law_584 (z : Nat × Nat) (L : Nat) (xs : Nat → Int32) : Nat → mmS → Nat → Int32 → Nat → Int32 → Int32 → Int32 → Int32 → Int32 → Int32 → Prop
  | 0 => fun _ _ _ _ _ _ _ _ _ _ => False
  | n + 1 => bk_L_law_584 z L xs (lp_L_law_584 z L xs n)
def bk_L_law_543 (z : Nat × Nat) (L : Nat) (xs : Nat → Int32) (K474 : mmS → Nat → Nat → Nat → Int32 → Nat → Int32 → Int32 → Int32 → Int32 → Int32 → Prop) (S : mmS) (x1 : Nat) (x2 : Nat) (x4 : Nat) (x7 : Int32) (x8 : Nat) (x9 : Int32) (x10 : Int32) (x11 : Int32) (x12 : Int32) (x13 : Int32) (x14 : Int32) (x15 : Int32) : Prop := (x4 ∈ mL S ∧ mK S x4 = 7) ∧ vp_in (((3 : Int32) * x13) + (1 : Int32)) (mN S x4) ∧ (((if (mA S x4 (((3 : Int32) * x13) + (1 : Int32)).toNatClampNeg) < x14 then (mA S x4 (((3 : Int32) * x13) + (1 : Int32)).toNatClampNeg) else x14) - (5 : Int32)) ≤ ((10 : Int32) * x15) → ∀ v3 : Int32, v3 = x13 + 1 → K474 S x1 x2 x4 x7 x8 x9 x10 x11 x12 v3) ∧ (¬ ((if (mA S x4 (((3 : Int32) * x13) + (1 : Int32)).toNatClampNeg) < x14 then (mA S x4 (((3 : Int32) * x13) + (1 : Int32)).toNatClampNeg) else x14) - (5 : Int32)) ≤ ((10 : Int32) * x15) → False)
def bk_L_law_474 (z : Nat × Nat) (L : Nat) (xs : Nat → Int32) (K474 : mmS → Nat → Nat → Nat → Int32 → Nat → Int32 → Int32 → Int32 → Int32 → Int32 → Prop) (S : mmS) (x1 : Nat) (x2 : Nat) (x4 : Nat) (x7 : Int32) (x8 : Nat) (x9 : Int32) (x10 : Int32) (x11 : Int32) (x12 : Int32) (x13 : Int32) : Prop := (x2 ∈ mL S ∧ mK S x2 = 7) ∧ vp_in (1 : Int32) (mN S x2) ∧ ((mA S x2 ((1 : Int32)).toNatClampNeg) ≤ x13 → (x1 ∈ mL S ∧ mK S x1 = 4) ∧ wp_X4_dearest z S x1 (fun r5 S3 => ∀ v6 : Int32, v6 = (0 : Int32) → ∃ n : Nat, lp_L_law_584 z L xs n S3 x1 x7 x8 x9 x10 x11 x12 r5 v6) (fun _ _ => False)) ∧ (¬ (mA S x2 ((1 : Int32)).toNatClampNeg) ≤ x13 → (x1 ∈ mL S ∧ mK S x1 = 4) ∧ wp_X4_sum z S x1 x13 (fun r9 S7 => ∀ v10 : Int32, v10 = (x12 + r9) → (x1 ∈ mL S7 ∧ mK S7 x1 = 4) ∧ wp_X4_total z S7 x1 x13 (fun r13 S11 => ((r9 + (5 : Int32)) < ((10 : Int32) * r13) → False) ∧ (¬ (r9 + (5 : Int32)) < ((10 : Int32) * r13) → (x4 ∈ mL S11 ∧ mK S11 x4 = 7) ∧ vp_in (((3 : Int32) * x13) + (1 : Int32)) (mN S11 x4) ∧ ((mA S11 x4 (((3 : Int32) * x13) + (1 : Int32)).toNatClampNeg) < r9 → bk_L_law_543 z L xs K474 S11 x1 x2 x4 x7 x8 x9 x10 x11 v10 x13 r9 r13) ∧ (¬ (mA S11 x4 (((3 : Int32) * x13) + (1 : Int32)).toNatClampNeg) < r9 → (¬ r13 = ((r9 + (5 : Int32)) / (10 : Int32)) → False) ∧ (r13 = ((r9 + (5 : Int32)) / (10 : Int32)) → bk_L_law_543 z L xs K474 S11 x1 x2 x4 x7 x8 x9 x10 x11 v10 x13 r9 r13)))) (fun _ _ => False)) (fun _ _ => False))
def lp_L_law_474 (z : Nat × Nat) (L : Nat) (xs : Nat → Int32) : Nat → mmS → Nat → Nat → Nat → Int32 → Nat → Int32 → Int32 → Int32 → Int32 → Int32 → Prop
  | 0 => fun _ _ _ _ _ _ _ _ _ _ _ => False
  | n + 1 => bk_L_law_474 z L xs (lp_L_law_474 z L xs n)
def bk_L_law_444 (z : Nat × Nat) (L : Nat) (xs : Nat → Int32) (K444 : mmS → Nat → Nat → Nat → Int32 → Nat → Int32 → Int32 → Int32 → Int32 → Prop) (S : mmS) (x1 : Nat) (x2 : Nat) (x4 : Nat) (x7 : Int32) (x8 : Nat) (x9 : Int32) (x10 : Int32) (x11 : Int32) (x12 : Int32) : Prop := ((30 : Int32) ≤ x12 → ∀ v1 : Int32, v1 = (0 : Int32) → ∀ v2 : Int32, v2 = (0 : Int32) → ∃ n : Nat, lp_L_law_474 z L xs n S x1 x2 x4 x7 x8 x9 x10 x11 v1 v2) ∧ (¬ (30 : Int32) ≤ x12 → (x1 ∈ mL S ∧ mK S x1 = 4) ∧ wp_X4_daySum z S x1 x12 (fun r5 S3 => ∀ v6 : Int32, v6 = (x11 + r5) → ∀ v7 : Int32, v7 = x12 + 1 → K444 S3 x1 x2 x4 x7 x8 x9 x10 v6 v7) (fun _ _ => False))
def lp_L_law_444 (z : Nat × Nat) (L : Nat) (xs : Nat → Int32) : Nat → mmS → Nat → Nat → Nat → Int32 → Nat → Int32 → Int32 → Int32 → Int32 → Prop
  | 0 => fun _ _ _ _ _ _ _ _ _ _ => False
  | n + 1 => bk_L_law_444 z L xs (lp_L_law_444 z L xs n)
def bk_L_law_413 (z : Nat × Nat) (L : Nat) (xs : Nat → Int32) (K413 : mmS → Nat → Nat → Nat → Int32 → Nat → Int32 → Int32 → Int32 → Prop) (S : mmS) (x1 : Nat) (x2 : Nat) (x4 : Nat) (x7 : Int32) (x8 : Nat) (x9 : Int32) (x10 : Int32) (x11 : Int32) : Prop := (x2 ∈ mL S ∧ mK S x2 = 7) ∧ vp_in (2 : Int32) (mN S x2) ∧ ((mA S x2 ((2 : Int32)).toNatClampNeg) ≤ x11 → ∀ v3 : Int32, v3 = (0 : Int32) → ∀ v4 : Int32, v4 = (0 : Int32) → ∃ n : Nat, lp_L_law_444 z L xs n S x1 x2 x4 x7 x8 x9 x10 v3 v4) ∧ (¬ (mA S x2 ((2 : Int32)).toNatClampNeg) ≤ x11 → (x1 ∈ mL S ∧ mK S x1 = 4) ∧ wp_X4_lineSum z S x1 x11 (fun r7 S5 => ∀ v8 : Int32, v8 = (x10 + r7) → ∀ v9 : Int32, v9 = x11 + 1 → K413 S5 x1 x2 x4 x7 x8 x9 v8 v9) (fun _ _ => False))
def lp_L_law_413 (z : Nat × Nat) (L : Nat) (xs : Nat → Int32) : Nat → mmS → Nat → Nat → Nat → Int32 → Nat → Int32 → Int32 → Int32 → Prop
  | 0 => fun _ _ _ _ _ _ _ _ _ => False
  | n + 1 => bk_L_law_413 z L xs (lp_L_law_413 z L xs n)
def bk_L_law_384 (z : Nat × Nat) (L : Nat) (xs : Nat → Int32) (K384 : mmS → Nat → Nat → Nat → Int32 → Nat → Int32 → Int32 → Prop) (S : mmS) (x1 : Nat) (x2 : Nat) (x4 : Nat) (x7 : Int32) (x8 : Nat) (x9 : Int32) (x10 : Int32) : Prop := (x7 ≤ x10 → ∀ v1 : Int32, v1 = (0 : Int32) → ∀ v2 : Int32, v2 = (0 : Int32) → ∃ n : Nat, lp_L_law_413 z L xs n S x1 x2 x4 x7 x8 x9 v1 v2) ∧ (¬ x7 ≤ x10 → (x8 ∈ mL S ∧ mK S x8 = 7) ∧ vp_in x10 (mN S x8) ∧ ∀ v5 : Int32, v5 = (x9 + (mA S x8 (x10).toNatClampNeg)) → ∀ v6 : Int32, v6 = x10 + 1 → K384 S x1 x2 x4 x7 x8 v5 v6)
def lp_L_law_384 (z : Nat × Nat) (L : Nat) (xs : Nat → Int32) : Nat → mmS → Nat → Nat → Nat → Int32 → Nat → Int32 → Int32 → Prop
  | 0 => fun _ _ _ _ _ _ _ _ => False
  | n + 1 => bk_L_law_384 z L xs (lp_L_law_384 z L xs n)
def bk_L_law_378 (z : Nat × Nat) (L : Nat) (xs : Nat → Int32) (S : mmS) (x1 : Nat) (x2 : Nat) (x4 : Nat) (x7 : Int32) (x8 : Nat) : Prop := ∀ v1 : Int32, v1 = (0 : Int32) → ∀ v2 : Int32, v2 = (0 : Int32) → ∃ n : Nat, lp_L_law_384 z L xs n S x1 x2 x4 x7 x8 v1 v2
def bk_L_law_362 (z : Nat × Nat) (L : Nat) (xs : Nat → Int32) (K112 : mmS → Nat → Nat → Nat → Nat → Int32 → Nat → Int32 → Prop) (K291 : mmS → Nat → Nat → Nat → Nat → Int32 → Nat → Int32 → Int32 → Int32 → Prop) (S : mmS) (x1 : Nat) (x2 : Nat) (x4 : Nat) (x6 : Nat) (x7 : Int32) (x8 : Nat) (x9 : Int32) (x14 : Int32) (x15 : Int32) : Prop := ∀ v1 : Int32, v1 = x14 + 1 → K291 S x1 x2 x4 x6 x7 x8 x9 x15 v1
def bk_L_law_291 (z : Nat × Nat) (L : Nat) (xs : Nat → Int32) (K112 : mmS → Nat → Nat → Nat → Nat → Int32 → Nat → Int32 → Prop) (K291 : mmS → Nat → Nat → Nat → Nat → Int32 → Nat → Int32 → Int32 → Int32 → Prop) (S : mmS) (x1 : Nat) (x2 : Nat) (x4 : Nat) (x6 : Nat) (x7 : Int32) (x8 : Nat) (x9 : Int32) (x13 : Int32) (x14 : Int32) : Prop := (x7 ≤ x14 → ∀ v1 : Int32, v1 = x9 + 1 → K112 S x1 x2 x4 x6 x7 x8 v1) ∧ (¬ x7 ≤ x14 → (x1 ∈ mL S ∧ mK S x1 = 4) ∧ wp_X4_callAt z S x1 x14 (fun r4 S2 => (x13 < 0 → bk_L_law_362 z L xs K112 K291 S2 x1 x2 x4 x6 x7 x8 x9 x14 r4) ∧ (¬ x13 < 0 → (x6 ∈ mL S2 ∧ mK S2 x6 = 7) ∧ vp_in (((4 : Int32) * r4) + (1 : Int32)) (mN S2 x6) ∧ vp_in (((4 : Int32) * x13) + (1 : Int32)) (mN S2 x6) ∧ ((mA S2 x6 (((4 : Int32) * r4) + (1 : Int32)).toNatClampNeg) < (mA S2 x6 (((4 : Int32) * x13) + (1 : Int32)).toNatClampNeg) → False) ∧ (¬ (mA S2 x6 (((4 : Int32) * r4) + (1 : Int32)).toNatClampNeg) < (mA S2 x6 (((4 : Int32) * x13) + (1 : Int32)).toNatClampNeg) → vp_in (((4 : Int32) * r4) + (1 : Int32)) (mN S2 x6) ∧ vp_in (((4 : Int32) * x13) + (1 : Int32)) (mN S2 x6) ∧ (¬ (mA S2 x6 (((4 : Int32) * r4) + (1 : Int32)).toNatClampNeg) = (mA S2 x6 (((4 : Int32) * x13) + (1 : Int32)).toNatClampNeg) → bk_L_law_362 z L xs K112 K291 S2 x1 x2 x4 x6 x7 x8 x9 x14 r4) ∧ ((mA S2 x6 (((4 : Int32) * r4) + (1 : Int32)).toNatClampNeg) = (mA S2 x6 (((4 : Int32) * x13) + (1 : Int32)).toNatClampNeg) → (x13 ≤ r4 → bk_L_law_362 z L xs K112 K291 S2 x1 x2 x4 x6 x7 x8 x9 x14 r4) ∧ (¬ x13 ≤ r4 → False))))) (fun _ _ => False))
def lp_L_law_291 (z : Nat × Nat) (L : Nat) (xs : Nat → Int32) (K112 : mmS → Nat → Nat → Nat → Nat → Int32 → Nat → Int32 → Prop) : Nat → mmS → Nat → Nat → Nat → Nat → Int32 → Nat → Int32 → Int32 → Int32 → Prop
  | 0 => fun _ _ _ _ _ _ _ _ _ _ => False
  | n + 1 => bk_L_law_291 z L xs K112 (lp_L_law_291 z L xs K112 n)
def bk_L_law_260 (z : Nat × Nat) (L : Nat) (xs : Nat → Int32) (K112 : mmS → Nat → Nat → Nat → Nat → Int32 → Nat → Int32 → Prop) (K218 : mmS → Nat → Nat → Nat → Nat → Int32 → Nat → Int32 → Int32 → Int32 → Int32 → Prop) (S : mmS) (x1 : Nat) (x2 : Nat) (x4 : Nat) (x6 : Nat) (x7 : Int32) (x8 : Nat) (x9 : Int32) (x11 : Int32) (x12 : Int32) (x13 : Int32) (x14 : Int32) : Prop := (x8 ∈ mL S ∧ mK S x8 = 7) ∧ vp_in x13 (mN S x8) ∧ ∀ S3 : mmS, S3 = sA S x8 (x13).toNatClampNeg x14 → ∀ v4 : Int32, v4 = x13 + 1 → K218 S3 x1 x2 x4 x6 x7 x8 x9 x11 x12 v4
def bk_L_law_218 (z : Nat × Nat) (L : Nat) (xs : Nat → Int32) (K112 : mmS → Nat → Nat → Nat → Nat → Int32 → Nat → Int32 → Prop) (K218 : mmS → Nat → Nat → Nat → Nat → Int32 → Nat → Int32 → Int32 → Int32 → Int32 → Prop) (S : mmS) (x1 : Nat) (x2 : Nat) (x4 : Nat) (x6 : Nat) (x7 : Int32) (x8 : Nat) (x9 : Int32) (x11 : Int32) (x12 : Int32) (x13 : Int32) : Prop := (x12 ≤ x13 → (x1 ∈ mL S ∧ mK S x1 = 4) ∧ wp_X4_told z S x1 x12 (3 : Int32) (fun r3 S1 => (x8 ∈ mL S1 ∧ mK S1 x8 = 7) ∧ vp_in x12 (mN S1 x8) ∧ ∀ S6 : mmS, S6 = sA S1 x8 (x12).toNatClampNeg r3 → ∀ v7 : Int32, v7 = (-1 : Int32) → ∀ v8 : Int32, v8 = (0 : Int32) → ∃ n : Nat, lp_L_law_291 z L xs K112 n S6 x1 x2 x4 x6 x7 x8 x9 v7 v8) (fun _ _ => False)) ∧ (¬ x12 ≤ x13 → (x1 ∈ mL S ∧ mK S x1 = 4) ∧ wp_X4_told z S x1 x13 (3 : Int32) (fun r11 S9 => (x6 ∈ mL S9 ∧ mK S9 x6 = 7) ∧ vp_in (((4 : Int32) * x13) + (1 : Int32)) (mN S9 x6) ∧ (x11 < (mA S9 x6 (((4 : Int32) * x13) + (1 : Int32)).toNatClampNeg) → bk_L_law_260 z L xs K112 K218 S9 x1 x2 x4 x6 x7 x8 x9 x11 x12 x13 r11) ∧ (¬ x11 < (mA S9 x6 (((4 : Int32) * x13) + (1 : Int32)).toNatClampNeg) → (x8 ∈ mL S9 ∧ mK S9 x8 = 7) ∧ vp_in x13 (mN S9 x8) ∧ (r11 = (mA S9 x8 (x13).toNatClampNeg) → bk_L_law_260 z L xs K112 K218 S9 x1 x2 x4 x6 x7 x8 x9 x11 x12 x13 r11) ∧ (¬ r11 = (mA S9 x8 (x13).toNatClampNeg) → False))) (fun _ _ => False))
def lp_L_law_218 (z : Nat × Nat) (L : Nat) (xs : Nat → Int32) (K112 : mmS → Nat → Nat → Nat → Nat → Int32 → Nat → Int32 → Prop) : Nat → mmS → Nat → Nat → Nat → Nat → Int32 → Nat → Int32 → Int32 → Int32 → Int32 → Prop
  | 0 => fun _ _ _ _ _ _ _ _ _ _ _ => False
  | n + 1 => bk_L_law_218 z L xs K112 (lp_L_law_218 z L xs K112 n)
def bk_L_law_112 (z : Nat × Nat) (L : Nat) (xs : Nat → Int32) (K112 : mmS → Nat → Nat → Nat → Nat → Int32 → Nat → Int32 → Prop) (S : mmS) (x1 : Nat) (x2 : Nat) (x4 : Nat) (x6 : Nat) (x7 : Int32) (x8 : Nat) (x9 : Int32) : Prop := ((4 : Int32) ≤ x9 → bk_L_law_378 z L xs S x1 x2 x4 x7 x8) ∧ (¬ (4 : Int32) ≤ x9 → wp_L_cell z L xs S ((15 : Int32) + x9) (fun r2 S1 => wp_L_below z L xs S1 r2 (3 : Int32) (fun r4 S3 => wp_L_below z L xs S3 (r2 >>> ((4 : Int32) &&& 31)) (1440 : Int32) (fun r6 S5 => ∀ v7 : Int32, v7 = (((1440 : Int32) * r4) + r6) → (x2 ∈ mL S5 ∧ mK S5 x2 = 7) ∧ vp_in (2 : Int32) (mN S5 x2) ∧ wp_L_below z L xs S5 (r2 >>> ((2 : Int32) &&& 31)) (mA S5 x2 ((2 : Int32)).toNatClampNeg) (fun r11 S10 => wp_L_below z L xs S10 (r2 >>> ((6 : Int32) &&& 31)) (1500 : Int32) (fun r13 S12 => wp_L_below z L xs S12 (r2 >>> ((8 : Int32) &&& 31)) (3 : Int32) (fun r15 S14 => (x1 ∈ mL S14 ∧ mK S14 x1 = 4) ∧ wp_X4_addCall z S14 x1 r11 v7 ((1 : Int32) + r13) r15 (fun r18 S16 => (r18 = x7 → (x6 ∈ mL S16 ∧ mK S16 x6 = 7) ∧ vp_in (((4 : Int32) * r18) + (1 : Int32)) (mN S16 x6) ∧ ∀ S21 : mmS, S21 = sA S16 x6 (((4 : Int32) * r18) + (1 : Int32)).toNatClampNeg v7 → ∀ v22 : Int32, v22 = x7 + 1 → ∀ v23 : Int32, v23 = (0 : Int32) → ∃ n : Nat, lp_L_law_218 z L xs K112 n S21 x1 x2 x4 x6 v22 x8 x9 v7 r18 v23) ∧ (¬ r18 = x7 → False)) (fun _ _ => False)) (fun _ _ => False)) (fun _ _ => False)) (fun _ _ => False)) (fun _ _ => False)) (fun _ _ => False)) (fun _ _ => False))
def lp_L_law_112 (z : Nat × Nat) (L : Nat) (xs : Nat → Int32) : Nat → mmS → Nat → Nat → Nat → Nat → Int32 → Nat → Int32 → Prop
  | 0 => fun _ _ _ _ _ _ _ _ => False
  | n + 1 => bk_L_law_112 z L xs (lp_L_law_112 z L xs n)
def bk_L_law_84 (z : Nat × Nat) (L : Nat) (xs : Nat → Int32) (K84 : mmS → Nat → Nat → Nat → Nat → Int32 → Nat → Int32 → Prop) (S : mmS) (x1 : Nat) (x2 : Nat) (x4 : Nat) (x6 : Nat) (x7 : Int32) (x8 : Nat) (x9 : Int32) : Prop := (x7 ≤ x9 → ∀ v1 : Int32, v1 = (0 : Int32) → lp_L_law_112 z L xs 5 S x1 x2 x4 x6 x7 x8 v1) ∧ (¬ x7 ≤ x9 → (x1 ∈ mL S ∧ mK S x1 = 4) ∧ wp_X4_told z S x1 x9 (3 : Int32) (fun r4 S2 => (x8 ∈ mL S2 ∧ mK S2 x8 = 7) ∧ vp_in x9 (mN S2 x8) ∧ ∀ S7 : mmS, S7 = sA S2 x8 (x9).toNatClampNeg r4 → ∀ v8 : Int32, v8 = x9 + 1 → K84 S7 x1 x2 x4 x6 x7 x8 v8) (fun _ _ => False))
def lp_L_law_84 (z : Nat × Nat) (L : Nat) (xs : Nat → Int32) : Nat → mmS → Nat → Nat → Nat → Nat → Int32 → Nat → Int32 → Prop
  | 0 => fun _ _ _ _ _ _ _ _ => False
  | n + 1 => bk_L_law_84 z L xs (lp_L_law_84 z L xs n)
set_option maxHeartbeats 4000000 in
set_option maxRecDepth 100000 in
theorem bw_L_law_584 {p : Program} {l : Launch} {e : Env} {s : State} {m : MethodId} {args : Array Value} {below : List Frame} {meth : Method} {c : Code} {g : mG} {Qf : State → Prop} (hl0 : l.stackTraces = false) (hC : CallFix p m c cL_law 16 s args (Cond.tt :: wsL_law) RL) (hs : mX g s) (hend : ∀ (H : Heap) (locs : List Loc) (ls : Array Slot), (∀ q ∈ locs, mB g q.base) → W p l e room_1 s m args below meth c H locs 600086 7301442 Qf (F0 m 656 ls [.int 1])) {K584 : mmS → Nat → Int32 → Nat → Int32 → Int32 → Int32 → Int32 → Int32 → Int32 → Prop} (hk584 : ∀ (S : mmS) (x1 : Nat) (x7 : Int32) (x8 : Nat) (x9 : Int32) (x10 : Int32) (x11 : Int32) (x12 : Int32) (x13 : Int32) (x14 : Int32), K584 S x1 x7 x8 x9 x10 x11 x12 x13 x14 → ∀ (H : Heap) (locs : List Loc), mH g S s H locs → ∀ ls : Array Slot, lv_has ls 16 [(1, .ref x1), (7, .int x7), (8, .ref x8), (9, .int x9), (10, .int x10), (11, .int x11), (12, .int x12), (13, .int x13), (14, .int x14)] → W p l e room_1 s m args below meth c H locs 113 6625 Qf (F0 m 584 ls [])) : ∀ (S : mmS) (x1 : Nat) (x7 : Int32) (x8 : Nat) (x9 : Int32) (x10 : Int32) (x11 : Int32) (x12 : Int32) (x13 : Int32) (x14 : Int32), bk_L_law_584 g.2.2.2.2.2 g.2.2.2.2.1.2.1 g.2.2.2.2.1.2.2 K584 S x1 x7 x8 x9 x10 x11 x12 x13 x14 → ∀ (H : Heap) (locs : List Loc), mH g S s H locs → ∀ ls : Array Slot, lv_has ls 16 [(1, .ref x1), (7, .int x7), (8, .ref x8), (9, .int x9), (10, .int x10), (11, .int x11), (12, .int x12), (13, .int x13), (14, .int x14)] → W p l e room_1 s m args below meth c H locs 113 6625 Qf (F0 m 584 ls []) := by
  intro S x1 x7 x8 x9 x10 x11 x12 x13 x14 hw H locs hH ls hl
  unfold bk_L_law_584 at hw
  refine lv_iload hC.1 hC.2.1 dL_law_584 (lv_at hl 8 rfl) ?_
  refine lv_iload hC.1 hC.2.1 dL_law_586 (lv_at hl 1 rfl) ?_
  refine lv_icmp_ge (tgt := 612) hC.1 hC.2.1 dL_law_588 (by decide) (fun hc => ?_) (fun hc => ?_)
  · have hw := hw.1 hc
    refine lv_iload hC.1 hC.2.1 dL_law_612 (lv_at hl 3 rfl) ?_
    refine lv_iload hC.1 hC.2.1 dL_law_614 (lv_at hl 4 rfl) ?_
    refine lv_icmp_ne (tgt := 655) hC.1 hC.2.1 dL_law_616 (by decide) (fun hc => ?_) (fun hc => ?_)
    · have hw := hw.1 hc
      refine lv_iconst (v := 0) hC.1 hC.2.1 dL_law_655 (by decide) ?_
      exact False.elim hw
    · have hw := hw.2 hc
      refine lv_iload hC.1 hC.2.1 dL_law_619 (lv_at hl 3 rfl) ?_
      refine lv_iload hC.1 hC.2.1 dL_law_621 (lv_at hl 5 rfl) ?_
      refine lv_icmp_ne (tgt := 655) hC.1 hC.2.1 dL_law_623 (by decide) (fun hc => ?_) (fun hc => ?_)
      · have hw := hw.1 hc
        refine lv_iconst (v := 0) hC.1 hC.2.1 dL_law_655 (by decide) ?_
        exact False.elim hw
      · have hw := hw.2 hc
        refine lv_iload hC.1 hC.2.1 dL_law_626 (lv_at hl 3 rfl) ?_
        refine lv_iload hC.1 hC.2.1 dL_law_628 (lv_at hl 6 rfl) ?_
        refine lv_icmp_ne (tgt := 655) hC.1 hC.2.1 dL_law_630 (by decide) (fun hc => ?_) (fun hc => ?_)
        · have hw := hw.1 hc
          refine lv_iconst (v := 0) hC.1 hC.2.1 dL_law_655 (by decide) ?_
          exact False.elim hw
        · have hw := hw.2 hc
          refine lv_aload_n hC.1 hC.2.1 dL_law_633 rfl (lv_at hl 0 rfl) ?_
          obtain ⟨k2, hw⟩ := hw
          refine m_callVd (y := yX4_freeShare) (rest := []) hC hs hH hl.1 (cwV 0 hC.2.2.2.2 (gA_V q_370 q_371 q_372 q_2 q_373) rfl rfl rfl (by decide +kernel) ⟨Nat.le_of_ble_eq_true rfl, Nat.le_of_ble_eq_true rfl⟩) cs4 k2 (met_X4_freeShare l hl0 g _ _ _ _ (fun _ _ h => h) hw) rfl rfl (Nat.le_of_ble_eq_true rfl) dL_law_634 ⟨Nat.le_of_ble_eq_true rfl, Nat.le_of_ble_eq_true rfl⟩ mKx_no (fun r3 S1 H locs hw hH => ?_)
          refine W.widen (k := 113) (n := 6625) (Nat.le_of_ble_eq_true rfl) (Nat.le_of_ble_eq_true rfl) ?_
          refine lv_dconst0 hC.1 hC.2.1 dL_law_637 ?_
          refine lv_dcmp hC.1 hC.2.1 dL_law_638 ?_
          refine lv_if_lt (tgt := 655) hC.1 hC.2.1 dL_law_639 (by decide) (fun hc => ?_) (fun hc => ?_)
          · have hw := hw.1 hc
            refine lv_iconst (v := 0) hC.1 hC.2.1 dL_law_655 (by decide) ?_
            exact False.elim hw
          · have hw := hw.2 hc
            refine lv_aload_n hC.1 hC.2.1 dL_law_642 rfl (lv_at hl 0 rfl) ?_
            obtain ⟨k5, hw⟩ := hw
            refine m_callVd (y := yX4_freeShare) (rest := []) hC hs hH hl.1 (cwV 0 hC.2.2.2.2 (gA_V q_370 q_371 q_372 q_2 q_373) rfl rfl rfl (by decide +kernel) ⟨Nat.le_of_ble_eq_true rfl, Nat.le_of_ble_eq_true rfl⟩) cs4 k5 (met_X4_freeShare l hl0 g _ _ _ _ (fun _ _ h => h) hw) rfl rfl (Nat.le_of_ble_eq_true rfl) dL_law_643 ⟨Nat.le_of_ble_eq_true rfl, Nat.le_of_ble_eq_true rfl⟩ mKx_no (fun r6 S1 H locs hw hH => ?_)
            refine W.widen (k := 113) (n := 6625) (Nat.le_of_ble_eq_true rfl) (Nat.le_of_ble_eq_true rfl) ?_
            refine lv_dconst1 hC.1 hC.2.1 dL_law_646 ?_
            refine lv_dcmp hC.1 hC.2.1 dL_law_647 ?_
            refine lv_if_gt (tgt := 655) hC.1 hC.2.1 dL_law_648 (by decide) (fun hc => ?_) (fun hc => ?_)
            · have hw := hw.1 hc
              refine lv_iconst (v := 0) hC.1 hC.2.1 dL_law_655 (by decide) ?_
              exact False.elim hw
            · have hw := hw.2 hc
              refine lv_iconst (v := 1) hC.1 hC.2.1 dL_law_651 (by decide) ?_
              refine lv_goto (tgt := 656) hC.1 hC.2.1 dL_law_652 (by decide) ?_
              refine W.widen (k := 600086) (n := 7301442) (Nat.le_of_ble_eq_true rfl) (Nat.le_of_ble_eq_true rfl) ?_
              exact hend _ _ _ hH.2.2.2.2
  · have hw := hw.2 hc
    refine lv_aload hC.1 hC.2.1 dL_law_591 (lv_at hl 2 rfl) ?_
    refine lv_iload hC.1 hC.2.1 dL_law_593 (lv_at hl 8 rfl) ?_
    obtain ⟨k7, hw⟩ := hw
    obtain ⟨i8, hw⟩ := hw
    refine m_iald hC hs hH k7 i8 dL_law_595 ?_
    refine lv_aload hC.1 hC.2.1 dL_law_596 (lv_at hl 2 rfl) ?_
    refine lv_iload hC.1 hC.2.1 dL_law_598 (lv_at hl 7 rfl) ?_
    obtain ⟨i9, hw⟩ := hw
    refine m_iald hC hs hH k7 i9 dL_law_600 ?_
    refine lv_icmp_le (tgt := 606) hC.1 hC.2.1 dL_law_601 (by decide) (fun hc => ?_) (fun hc => ?_)
    · have hw := hw.1 hc
      have hw := hw _ rfl
      refine lv_iinc (lv' := [(14, .int _), (1, .ref _), (7, .int _), (8, .ref _), (9, .int _), (10, .int _), (11, .int _), (12, .int _), (13, .int _)]) hC.1 hC.2.1 dL_law_606 hl (k := 8) rfl (rfl : (_ : Int32) + Int32.ofInt 1 = (_ : Int32) + 1) (by decide) rfl (fun ls hl => ?_)
      refine lv_goto (tgt := 584) hC.1 hC.2.1 dL_law_609 (by decide) ?_
      refine W.widen (k := 113) (n := 6625) (Nat.le_of_ble_eq_true rfl) (Nat.le_of_ble_eq_true rfl) ?_
      exact hk584 _ _ _ _ _ _ _ _ _ _ hw _ _ hH _ (lv_sub hl [1, 2, 3, 4, 5, 6, 7, 8, 0] rfl)
    · have hw := hw.2 hc
      refine lv_iconst (v := 0) hC.1 hC.2.1 dL_law_604 (by decide) ?_
      exact False.elim hw
theorem lw_L_law_584 {p : Program} {l : Launch} {e : Env} {s : State} {m : MethodId} {args : Array Value} {below : List Frame} {meth : Method} {c : Code} {g : mG} {Qf : State → Prop} (hl0 : l.stackTraces = false) (hC : CallFix p m c cL_law 16 s args (Cond.tt :: wsL_law) RL) (hs : mX g s) (hend : ∀ (H : Heap) (locs : List Loc) (ls : Array Slot), (∀ q ∈ locs, mB g q.base) → W p l e room_1 s m args below meth c H locs 600086 7301442 Qf (F0 m 656 ls [.int 1])) : ∀ (n : Nat) (S : mmS) (x1 : Nat) (x7 : Int32) (x8 : Nat) (x9 : Int32) (x10 : Int32) (x11 : Int32) (x12 : Int32) (x13 : Int32) (x14 : Int32), lp_L_law_584 g.2.2.2.2.2 g.2.2.2.2.1.2.1 g.2.2.2.2.1.2.2 n S x1 x7 x8 x9 x10 x11 x12 x13 x14 → ∀ (H : Heap) (locs : List Loc), mH g S s H locs → ∀ ls : Array Slot, lv_has ls 16 [(1, .ref x1), (7, .int x7), (8, .ref x8), (9, .int x9), (10, .int x10), (11, .int x11), (12, .int x12), (13, .int x13), (14, .int x14)] → W p l e room_1 s m args below meth c H locs 113 6625 Qf (F0 m 584 ls []) := by
  intro n
  induction n with
  | zero => intro S x1 x7 x8 x9 x10 x11 x12 x13 x14 hw; exact False.elim hw
  | succ n ih => exact fun S x1 x7 x8 x9 x10 x11 x12 x13 x14 hw => bw_L_law_584 hl0 hC hs hend (K584 := lp_L_law_584 g.2.2.2.2.2 g.2.2.2.2.1.2.1 g.2.2.2.2.1.2.2 n) ih S x1 x7 x8 x9 x10 x11 x12 x13 x14 hw
set_option maxHeartbeats 4000000 in
set_option maxRecDepth 100000 in
theorem bw_L_law_543 {p : Program} {l : Launch} {e : Env} {s : State} {m : MethodId} {args : Array Value} {below : List Frame} {meth : Method} {c : Code} {g : mG} {Qf : State → Prop} (hl0 : l.stackTraces = false) (hC : CallFix p m c cL_law 16 s args (Cond.tt :: wsL_law) RL) (hs : mX g s) (hend : ∀ (H : Heap) (locs : List Loc) (ls : Array Slot), (∀ q ∈ locs, mB g q.base) → W p l e room_1 s m args below meth c H locs 600086 7301442 Qf (F0 m 656 ls [.int 1])) {K474 : mmS → Nat → Nat → Nat → Int32 → Nat → Int32 → Int32 → Int32 → Int32 → Int32 → Prop} (hk474 : ∀ (S : mmS) (x1 : Nat) (x2 : Nat) (x4 : Nat) (x7 : Int32) (x8 : Nat) (x9 : Int32) (x10 : Int32) (x11 : Int32) (x12 : Int32) (x13 : Int32), K474 S x1 x2 x4 x7 x8 x9 x10 x11 x12 x13 → ∀ (H : Heap) (locs : List Loc), mH g S s H locs → ∀ ls : Array Slot, lv_has ls 16 [(1, .ref x1), (2, .ref x2), (4, .ref x4), (7, .int x7), (8, .ref x8), (9, .int x9), (10, .int x10), (11, .int x11), (12, .int x12), (13, .int x13)] → W p l e room_1 s m args below meth c H locs 113 6625 Qf (F0 m 474 ls [])) : ∀ (S : mmS) (x1 : Nat) (x2 : Nat) (x4 : Nat) (x7 : Int32) (x8 : Nat) (x9 : Int32) (x10 : Int32) (x11 : Int32) (x12 : Int32) (x13 : Int32) (x14 : Int32) (x15 : Int32), bk_L_law_543 g.2.2.2.2.2 g.2.2.2.2.1.2.1 g.2.2.2.2.1.2.2 K474 S x1 x2 x4 x7 x8 x9 x10 x11 x12 x13 x14 x15 → ∀ (H : Heap) (locs : List Loc), mH g S s H locs → ∀ ls : Array Slot, lv_has ls 16 [(1, .ref x1), (2, .ref x2), (4, .ref x4), (7, .int x7), (8, .ref x8), (9, .int x9), (10, .int x10), (11, .int x11), (12, .int x12), (13, .int x13), (14, .int x14), (15, .int x15)] → W p l e room_1 s m args below meth c H locs 113 6625 Qf (F0 m 543 ls []) := by
  intro S x1 x2 x4 x7 x8 x9 x10 x11 x12 x13 x14 x15 hw H locs hH ls hl
  unfold bk_L_law_543 at hw
  refine lv_bipush (v := 10) hC.1 hC.2.1 dL_law_543 (by decide) ?_
  refine lv_iload hC.1 hC.2.1 dL_law_545 (lv_at hl 11 rfl) ?_
  refine lv_imul hC.1 hC.2.1 dL_law_547 ?_
  refine lv_iload hC.1 hC.2.1 dL_law_548 (lv_at hl 10 rfl) ?_
  refine lv_aload hC.1 hC.2.1 dL_law_550 (lv_at hl 2 rfl) ?_
  refine lv_iconst (v := 3) hC.1 hC.2.1 dL_law_552 (by decide) ?_
  refine lv_iload hC.1 hC.2.1 dL_law_553 (lv_at hl 9 rfl) ?_
  refine lv_imul hC.1 hC.2.1 dL_law_555 ?_
  refine lv_iconst (v := 1) hC.1 hC.2.1 dL_law_556 (by decide) ?_
  refine lv_iadd hC.1 hC.2.1 dL_law_557 ?_
  obtain ⟨k1, hw⟩ := hw
  obtain ⟨i2, hw⟩ := hw
  refine m_iald hC hs hH k1 i2 dL_law_558 ?_
  refine m_min hC hl.1 (List.mem_cons_of_mem _ q_4) (List.mem_cons_of_mem _ q_5) (List.mem_cons_of_mem _ q_6) (List.mem_cons_of_mem _ q_7) (Nat.le_of_ble_eq_true rfl) (Nat.le_of_ble_eq_true rfl) (Nat.le_of_ble_eq_true rfl) (Nat.le_of_ble_eq_true rfl) dL_law_559 ?_
  refine lv_iconst (v := 5) hC.1 hC.2.1 dL_law_562 (by decide) ?_
  refine lv_isub hC.1 hC.2.1 dL_law_563 ?_
  refine lv_icmp_ge (tgt := 569) hC.1 hC.2.1 dL_law_564 (by decide) (fun hc => ?_) (fun hc => ?_)
  · have hw := hw.1 hc
    have hw := hw _ rfl
    refine lv_iinc (lv' := [(13, .int _), (1, .ref _), (2, .ref _), (4, .ref _), (7, .int _), (8, .ref _), (9, .int _), (10, .int _), (11, .int _), (12, .int _), (14, .int _), (15, .int _)]) hC.1 hC.2.1 dL_law_569 hl (k := 9) rfl (rfl : (_ : Int32) + Int32.ofInt 1 = (_ : Int32) + 1) (by decide) rfl (fun ls hl => ?_)
    refine lv_goto (tgt := 474) hC.1 hC.2.1 dL_law_572 (by decide) ?_
    refine W.widen (k := 113) (n := 6625) (Nat.le_of_ble_eq_true rfl) (Nat.le_of_ble_eq_true rfl) ?_
    exact hk474 _ _ _ _ _ _ _ _ _ _ _ hw _ _ hH _ (lv_sub hl [1, 2, 3, 4, 5, 6, 7, 8, 9, 0] rfl)
  · have hw := hw.2 hc
    refine lv_iconst (v := 0) hC.1 hC.2.1 dL_law_567 (by decide) ?_
    exact False.elim hw
set_option maxHeartbeats 4000000 in
set_option maxRecDepth 100000 in
theorem bw_L_law_474 {p : Program} {l : Launch} {e : Env} {s : State} {m : MethodId} {args : Array Value} {below : List Frame} {meth : Method} {c : Code} {g : mG} {Qf : State → Prop} (hl0 : l.stackTraces = false) (hC : CallFix p m c cL_law 16 s args (Cond.tt :: wsL_law) RL) (hs : mX g s) (hend : ∀ (H : Heap) (locs : List Loc) (ls : Array Slot), (∀ q ∈ locs, mB g q.base) → W p l e room_1 s m args below meth c H locs 600086 7301442 Qf (F0 m 656 ls [.int 1])) {K474 : mmS → Nat → Nat → Nat → Int32 → Nat → Int32 → Int32 → Int32 → Int32 → Int32 → Prop} (hk474 : ∀ (S : mmS) (x1 : Nat) (x2 : Nat) (x4 : Nat) (x7 : Int32) (x8 : Nat) (x9 : Int32) (x10 : Int32) (x11 : Int32) (x12 : Int32) (x13 : Int32), K474 S x1 x2 x4 x7 x8 x9 x10 x11 x12 x13 → ∀ (H : Heap) (locs : List Loc), mH g S s H locs → ∀ ls : Array Slot, lv_has ls 16 [(1, .ref x1), (2, .ref x2), (4, .ref x4), (7, .int x7), (8, .ref x8), (9, .int x9), (10, .int x10), (11, .int x11), (12, .int x12), (13, .int x13)] → W p l e room_1 s m args below meth c H locs 113 6625 Qf (F0 m 474 ls [])) : ∀ (S : mmS) (x1 : Nat) (x2 : Nat) (x4 : Nat) (x7 : Int32) (x8 : Nat) (x9 : Int32) (x10 : Int32) (x11 : Int32) (x12 : Int32) (x13 : Int32), bk_L_law_474 g.2.2.2.2.2 g.2.2.2.2.1.2.1 g.2.2.2.2.1.2.2 K474 S x1 x2 x4 x7 x8 x9 x10 x11 x12 x13 → ∀ (H : Heap) (locs : List Loc), mH g S s H locs → ∀ ls : Array Slot, lv_has ls 16 [(1, .ref x1), (2, .ref x2), (4, .ref x4), (7, .int x7), (8, .ref x8), (9, .int x9), (10, .int x10), (11, .int x11), (12, .int x12), (13, .int x13)] → W p l e room_1 s m args below meth c H locs 113 6625 Qf (F0 m 474 ls []) := by
  intro S x1 x2 x4 x7 x8 x9 x10 x11 x12 x13 hw H locs hH ls hl
  unfold bk_L_law_474 at hw
  refine lv_iload hC.1 hC.2.1 dL_law_474 (lv_at hl 9 rfl) ?_
  refine lv_aload_n hC.1 hC.2.1 dL_law_476 rfl (lv_at hl 1 rfl) ?_
  refine lv_iconst (v := 1) hC.1 hC.2.1 dL_law_477 (by decide) ?_
  obtain ⟨k1, hw⟩ := hw
  obtain ⟨i2, hw⟩ := hw
  refine m_iald hC hs hH k1 i2 dL_law_478 ?_
  refine lv_icmp_ge (tgt := 575) hC.1 hC.2.1 dL_law_479 (by decide) (fun hc => ?_) (fun hc => ?_)
  · have hw := hw.1 hc
    refine lv_aload_n hC.1 hC.2.1 dL_law_575 rfl (lv_at hl 0 rfl) ?_
    obtain ⟨k4, hw⟩ := hw
    refine m_callVi (y := yX4_dearest) (rest := []) hC hs hH hl.1 (cwV 0 hC.2.2.2.2 (gA_V q_366 q_367 q_368 q_2 q_369) rfl rfl rfl (by decide +kernel) ⟨Nat.le_of_ble_eq_true rfl, Nat.le_of_ble_eq_true rfl⟩) cs4 k4 (met_X4_dearest l hl0 g _ _ _ _ (fun _ _ h => h) hw) rfl rfl (Nat.le_of_ble_eq_true rfl) dL_law_576 ⟨Nat.le_of_ble_eq_true rfl, Nat.le_of_ble_eq_true rfl⟩ mKx_no (fun r5 S1 H locs hw hH => ?_)
    refine W.widen (k := 113) (n := 6625) (Nat.le_of_ble_eq_true rfl) (Nat.le_of_ble_eq_true rfl) ?_
    refine lv_istore (lv' := [(13, .int _), (1, .ref _), (2, .ref _), (4, .ref _), (7, .int _), (8, .ref _), (9, .int _), (10, .int _), (11, .int _), (12, .int _)]) hC.1 hC.2.1 dL_law_579 hl (by decide) rfl (fun ls hl => ?_)
    refine lv_iconst (v := 0) hC.1 hC.2.1 dL_law_581 (by decide) ?_
    have hw := hw _ rfl
    refine lv_istore (lv' := [(14, .int _), (13, .int _), (1, .ref _), (2, .ref _), (4, .ref _), (7, .int _), (8, .ref _), (9, .int _), (10, .int _), (11, .int _), (12, .int _)]) hC.1 hC.2.1 dL_law_582 hl (by decide) rfl (fun ls hl => ?_)
    refine W.widen (k := 113) (n := 6625) (Nat.le_of_ble_eq_true rfl) (Nat.le_of_ble_eq_true rfl) ?_
    obtain ⟨n, hw⟩ := hw
    exact lw_L_law_584 hl0 hC hs hend n _ _ _ _ _ _ _ _ _ _ hw _ _ hH _ (lv_sub hl [2, 5, 6, 7, 8, 9, 10, 1, 0] rfl)
  · have hw := hw.2 hc
    refine lv_aload_n hC.1 hC.2.1 dL_law_482 rfl (lv_at hl 0 rfl) ?_
    refine lv_iload hC.1 hC.2.1 dL_law_483 (lv_at hl 9 rfl) ?_
    obtain ⟨k8, hw⟩ := hw
    refine m_callVi (y := yX4_sum) (rest := []) hC hs hH hl.1 (cwV 1 hC.2.2.2.2 (gA_V q_352 q_353 q_354 q_2 q_355) rfl rfl rfl (by decide +kernel) ⟨Nat.le_of_ble_eq_true rfl, Nat.le_of_ble_eq_true rfl⟩) cs4 k8 (met_X4_sum l hl0 g _ _ _ _ _ (fun _ _ h => h) hw) rfl rfl (Nat.le_of_ble_eq_true rfl) dL_law_485 ⟨Nat.le_of_ble_eq_true rfl, Nat.le_of_ble_eq_true rfl⟩ mKx_no (fun r9 S1 H locs hw hH => ?_)
    refine W.widen (k := 113) (n := 6625) (Nat.le_of_ble_eq_true rfl) (Nat.le_of_ble_eq_true rfl) ?_
    refine lv_istore (lv' := [(14, .int _), (1, .ref _), (2, .ref _), (4, .ref _), (7, .int _), (8, .ref _), (9, .int _), (10, .int _), (11, .int _), (12, .int _), (13, .int _)]) hC.1 hC.2.1 dL_law_488 hl (by decide) rfl (fun ls hl => ?_)
    refine lv_iload hC.1 hC.2.1 dL_law_490 (lv_at hl 9 rfl) ?_
    refine lv_iload hC.1 hC.2.1 dL_law_492 (lv_at hl 0 rfl) ?_
    refine lv_iadd hC.1 hC.2.1 dL_law_494 ?_
    have hw := hw _ rfl
    refine lv_istore (lv' := [(12, .int _), (14, .int _), (1, .ref _), (2, .ref _), (4, .ref _), (7, .int _), (8, .ref _), (9, .int _), (10, .int _), (11, .int _), (13, .int _)]) hC.1 hC.2.1 dL_law_495 hl (by decide) rfl (fun ls hl => ?_)
    refine lv_aload_n hC.1 hC.2.1 dL_law_497 rfl (lv_at hl 2 rfl) ?_
    refine lv_iload hC.1 hC.2.1 dL_law_498 (lv_at hl 10 rfl) ?_
    obtain ⟨k12, hw⟩ := hw
    refine m_callVi (y := yX4_total) (rest := []) hC hs hH hl.1 (cwV 1 hC.2.2.2.2 (gA_V q_356 q_357 q_358 q_2 q_359) rfl rfl rfl (by decide +kernel) ⟨Nat.le_of_ble_eq_true rfl, Nat.le_of_ble_eq_true rfl⟩) cs4 k12 (met_X4_total l hl0 g _ _ _ _ _ (fun _ _ h => h) hw) rfl rfl (Nat.le_of_ble_eq_true rfl) dL_law_500 ⟨Nat.le_of_ble_eq_true rfl, Nat.le_of_ble_eq_true rfl⟩ mKx_no (fun r13 S1 H locs hw hH => ?_)
    refine W.widen (k := 113) (n := 6625) (Nat.le_of_ble_eq_true rfl) (Nat.le_of_ble_eq_true rfl) ?_
    refine lv_istore (lv' := [(15, .int _), (12, .int _), (14, .int _), (1, .ref _), (2, .ref _), (4, .ref _), (7, .int _), (8, .ref _), (9, .int _), (10, .int _), (11, .int _), (13, .int _)]) hC.1 hC.2.1 dL_law_503 hl (by decide) rfl (fun ls hl => ?_)
    refine lv_bipush (v := 10) hC.1 hC.2.1 dL_law_505 (by decide) ?_
    refine lv_iload hC.1 hC.2.1 dL_law_507 (lv_at hl 0 rfl) ?_
    refine lv_imul hC.1 hC.2.1 dL_law_509 ?_
    refine lv_iload hC.1 hC.2.1 dL_law_510 (lv_at hl 2 rfl) ?_
    refine lv_iconst (v := 5) hC.1 hC.2.1 dL_law_512 (by decide) ?_
    refine lv_iadd hC.1 hC.2.1 dL_law_513 ?_
    refine lv_icmp_gt (tgt := 567) hC.1 hC.2.1 dL_law_514 (by decide) (fun hc => ?_) (fun hc => ?_)
    · have hw := hw.1 hc
      refine lv_iconst (v := 0) hC.1 hC.2.1 dL_law_567 (by decide) ?_
      exact False.elim hw
    · have hw := hw.2 hc
      refine lv_iload hC.1 hC.2.1 dL_law_517 (lv_at hl 2 rfl) ?_
      refine lv_aload hC.1 hC.2.1 dL_law_519 (lv_at hl 5 rfl) ?_
      refine lv_iconst (v := 3) hC.1 hC.2.1 dL_law_521 (by decide) ?_
      refine lv_iload hC.1 hC.2.1 dL_law_522 (lv_at hl 11 rfl) ?_
      refine lv_imul hC.1 hC.2.1 dL_law_524 ?_
      refine lv_iconst (v := 1) hC.1 hC.2.1 dL_law_525 (by decide) ?_
      refine lv_iadd hC.1 hC.2.1 dL_law_526 ?_
      obtain ⟨k14, hw⟩ := hw
      obtain ⟨i15, hw⟩ := hw
      refine m_iald hC hs hH k14 i15 dL_law_527 ?_
      refine lv_icmp_gt (tgt := 543) hC.1 hC.2.1 dL_law_528 (by decide) (fun hc => ?_) (fun hc => ?_)
      · have hw := hw.1 hc
        refine W.widen (k := 113) (n := 6625) (Nat.le_of_ble_eq_true rfl) (Nat.le_of_ble_eq_true rfl) ?_
        exact bw_L_law_543 hl0 hC hs hend hk474 _ _ _ _ _ _ _ _ _ _ _ _ _ hw _ _ hH _ (lv_sub hl [3, 4, 5, 6, 7, 8, 9, 10, 1, 11, 2, 0] rfl)
      · have hw := hw.2 hc
        refine lv_iload hC.1 hC.2.1 dL_law_531 (lv_at hl 0 rfl) ?_
        refine lv_iload hC.1 hC.2.1 dL_law_533 (lv_at hl 2 rfl) ?_
        refine lv_iconst (v := 5) hC.1 hC.2.1 dL_law_535 (by decide) ?_
        refine lv_iadd hC.1 hC.2.1 dL_law_536 ?_
        refine lv_bipush (v := 10) hC.1 hC.2.1 dL_law_537 (by decide) ?_
        refine lv_idiv hC.1 hC.2.1 dL_law_539 (by decide) ?_
        refine lv_icmp_ne (tgt := 567) hC.1 hC.2.1 dL_law_540 (by decide) (fun hc => ?_) (fun hc => ?_)
        · have hw := hw.1 hc
          refine lv_iconst (v := 0) hC.1 hC.2.1 dL_law_567 (by decide) ?_
          exact False.elim hw
        · have hw := hw.2 hc
          refine W.widen (k := 113) (n := 6625) (Nat.le_of_ble_eq_true rfl) (Nat.le_of_ble_eq_true rfl) ?_
          exact bw_L_law_543 hl0 hC hs hend hk474 _ _ _ _ _ _ _ _ _ _ _ _ _ hw _ _ hH _ (lv_sub hl [3, 4, 5, 6, 7, 8, 9, 10, 1, 11, 2, 0] rfl)
theorem lw_L_law_474 {p : Program} {l : Launch} {e : Env} {s : State} {m : MethodId} {args : Array Value} {below : List Frame} {meth : Method} {c : Code} {g : mG} {Qf : State → Prop} (hl0 : l.stackTraces = false) (hC : CallFix p m c cL_law 16 s args (Cond.tt :: wsL_law) RL) (hs : mX g s) (hend : ∀ (H : Heap) (locs : List Loc) (ls : Array Slot), (∀ q ∈ locs, mB g q.base) → W p l e room_1 s m args below meth c H locs 600086 7301442 Qf (F0 m 656 ls [.int 1])) : ∀ (n : Nat) (S : mmS) (x1 : Nat) (x2 : Nat) (x4 : Nat) (x7 : Int32) (x8 : Nat) (x9 : Int32) (x10 : Int32) (x11 : Int32) (x12 : Int32) (x13 : Int32), lp_L_law_474 g.2.2.2.2.2 g.2.2.2.2.1.2.1 g.2.2.2.2.1.2.2 n S x1 x2 x4 x7 x8 x9 x10 x11 x12 x13 → ∀ (H : Heap) (locs : List Loc), mH g S s H locs → ∀ ls : Array Slot, lv_has ls 16 [(1, .ref x1), (2, .ref x2), (4, .ref x4), (7, .int x7), (8, .ref x8), (9, .int x9), (10, .int x10), (11, .int x11), (12, .int x12), (13, .int x13)] → W p l e room_1 s m args below meth c H locs 113 6625 Qf (F0 m 474 ls []) := by
  intro n
  induction n with
  | zero => intro S x1 x2 x4 x7 x8 x9 x10 x11 x12 x13 hw; exact False.elim hw
  | succ n ih => exact fun S x1 x2 x4 x7 x8 x9 x10 x11 x12 x13 hw => bw_L_law_474 hl0 hC hs hend (K474 := lp_L_law_474 g.2.2.2.2.2 g.2.2.2.2.1.2.1 g.2.2.2.2.1.2.2 n) ih S x1 x2 x4 x7 x8 x9 x10 x11 x12 x13 hw
set_option maxHeartbeats 4000000 in
set_option maxRecDepth 100000 in
theorem bw_L_law_444 {p : Program} {l : Launch} {e : Env} {s : State} {m : MethodId} {args : Array Value} {below : List Frame} {meth : Method} {c : Code} {g : mG} {Qf : State → Prop} (hl0 : l.stackTraces = false) (hC : CallFix p m c cL_law 16 s args (Cond.tt :: wsL_law) RL) (hs : mX g s) (hend : ∀ (H : Heap) (locs : List Loc) (ls : Array Slot), (∀ q ∈ locs, mB g q.base) → W p l e room_1 s m args below meth c H locs 600086 7301442 Qf (F0 m 656 ls [.int 1])) {K444 : mmS → Nat → Nat → Nat → Int32 → Nat → Int32 → Int32 → Int32 → Int32 → Prop} (hk444 : ∀ (S : mmS) (x1 : Nat) (x2 : Nat) (x4 : Nat) (x7 : Int32) (x8 : Nat) (x9 : Int32) (x10 : Int32) (x11 : Int32) (x12 : Int32), K444 S x1 x2 x4 x7 x8 x9 x10 x11 x12 → ∀ (H : Heap) (locs : List Loc), mH g S s H locs → ∀ ls : Array Slot, lv_has ls 16 [(1, .ref x1), (2, .ref x2), (4, .ref x4), (7, .int x7), (8, .ref x8), (9, .int x9), (10, .int x10), (11, .int x11), (12, .int x12)] → W p l e room_1 s m args below meth c H locs 113 6625 Qf (F0 m 444 ls [])) : ∀ (S : mmS) (x1 : Nat) (x2 : Nat) (x4 : Nat) (x7 : Int32) (x8 : Nat) (x9 : Int32) (x10 : Int32) (x11 : Int32) (x12 : Int32), bk_L_law_444 g.2.2.2.2.2 g.2.2.2.2.1.2.1 g.2.2.2.2.1.2.2 K444 S x1 x2 x4 x7 x8 x9 x10 x11 x12 → ∀ (H : Heap) (locs : List Loc), mH g S s H locs → ∀ ls : Array Slot, lv_has ls 16 [(1, .ref x1), (2, .ref x2), (4, .ref x4), (7, .int x7), (8, .ref x8), (9, .int x9), (10, .int x10), (11, .int x11), (12, .int x12)] → W p l e room_1 s m args below meth c H locs 113 6625 Qf (F0 m 444 ls []) := by
  intro S x1 x2 x4 x7 x8 x9 x10 x11 x12 hw H locs hH ls hl
  unfold bk_L_law_444 at hw
  refine lv_iload hC.1 hC.2.1 dL_law_444 (lv_at hl 8 rfl) ?_
  refine lv_bipush (v := 30) hC.1 hC.2.1 dL_law_446 (by decide) ?_
  refine lv_icmp_ge (tgt := 468) hC.1 hC.2.1 dL_law_448 (by decide) (fun hc => ?_) (fun hc => ?_)
  · have hw := hw.1 hc
    refine lv_iconst (v := 0) hC.1 hC.2.1 dL_law_468 (by decide) ?_
    have hw := hw _ rfl
    refine lv_istore (lv' := [(12, .int _), (1, .ref _), (2, .ref _), (4, .ref _), (7, .int _), (8, .ref _), (9, .int _), (10, .int _), (11, .int _)]) hC.1 hC.2.1 dL_law_469 hl (by decide) rfl (fun ls hl => ?_)
    refine lv_iconst (v := 0) hC.1 hC.2.1 dL_law_471 (by decide) ?_
    have hw := hw _ rfl
    refine lv_istore (lv' := [(13, .int _), (12, .int _), (1, .ref _), (2, .ref _), (4, .ref _), (7, .int _), (8, .ref _), (9, .int _), (10, .int _), (11, .int _)]) hC.1 hC.2.1 dL_law_472 hl (by decide) rfl (fun ls hl => ?_)
    refine W.widen (k := 113) (n := 6625) (Nat.le_of_ble_eq_true rfl) (Nat.le_of_ble_eq_true rfl) ?_
    obtain ⟨n, hw⟩ := hw
    exact lw_L_law_474 hl0 hC hs hend n _ _ _ _ _ _ _ _ _ _ _ hw _ _ hH _ (lv_sub hl [2, 3, 4, 5, 6, 7, 8, 9, 1, 0] rfl)
  · have hw := hw.2 hc
    refine lv_iload hC.1 hC.2.1 dL_law_451 (lv_at hl 7 rfl) ?_
    refine lv_aload_n hC.1 hC.2.1 dL_law_453 rfl (lv_at hl 0 rfl) ?_
    refine lv_iload hC.1 hC.2.1 dL_law_454 (lv_at hl 8 rfl) ?_
    obtain ⟨k4, hw⟩ := hw
    refine m_callVi (y := yX4_daySum) (rest := [.int _]) hC hs hH hl.1 (cwV 1 hC.2.2.2.2 (gA_V q_348 q_349 q_350 q_2 q_351) rfl rfl rfl (by decide +kernel) ⟨Nat.le_of_ble_eq_true rfl, Nat.le_of_ble_eq_true rfl⟩) cs4 k4 (met_X4_daySum l hl0 g _ _ _ _ _ (fun _ _ h => h) hw) rfl rfl (Nat.le_of_ble_eq_true rfl) dL_law_456 ⟨Nat.le_of_ble_eq_true rfl, Nat.le_of_ble_eq_true rfl⟩ mKx_no (fun r5 S1 H locs hw hH => ?_)
    refine W.widen (k := 113) (n := 6625) (Nat.le_of_ble_eq_true rfl) (Nat.le_of_ble_eq_true rfl) ?_
    refine lv_iadd hC.1 hC.2.1 dL_law_459 ?_
    have hw := hw _ rfl
    refine lv_istore (lv' := [(11, .int _), (1, .ref _), (2, .ref _), (4, .ref _), (7, .int _), (8, .ref _), (9, .int _), (10, .int _), (12, .int _)]) hC.1 hC.2.1 dL_law_460 hl (by decide) rfl (fun ls hl => ?_)
    have hw := hw _ rfl
    refine lv_iinc (lv' := [(12, .int _), (11, .int _), (1, .ref _), (2, .ref _), (4, .ref _), (7, .int _), (8, .ref _), (9, .int _), (10, .int _)]) hC.1 hC.2.1 dL_law_462 hl (k := 8) rfl (rfl : (_ : Int32) + Int32.ofInt 1 = (_ : Int32) + 1) (by decide) rfl (fun ls hl => ?_)
    refine lv_goto (tgt := 444) hC.1 hC.2.1 dL_law_465 (by decide) ?_
    refine W.widen (k := 113) (n := 6625) (Nat.le_of_ble_eq_true rfl) (Nat.le_of_ble_eq_true rfl) ?_
    exact hk444 _ _ _ _ _ _ _ _ _ _ hw _ _ hH _ (lv_sub hl [2, 3, 4, 5, 6, 7, 8, 1, 0] rfl)
theorem lw_L_law_444 {p : Program} {l : Launch} {e : Env} {s : State} {m : MethodId} {args : Array Value} {below : List Frame} {meth : Method} {c : Code} {g : mG} {Qf : State → Prop} (hl0 : l.stackTraces = false) (hC : CallFix p m c cL_law 16 s args (Cond.tt :: wsL_law) RL) (hs : mX g s) (hend : ∀ (H : Heap) (locs : List Loc) (ls : Array Slot), (∀ q ∈ locs, mB g q.base) → W p l e room_1 s m args below meth c H locs 600086 7301442 Qf (F0 m 656 ls [.int 1])) : ∀ (n : Nat) (S : mmS) (x1 : Nat) (x2 : Nat) (x4 : Nat) (x7 : Int32) (x8 : Nat) (x9 : Int32) (x10 : Int32) (x11 : Int32) (x12 : Int32), lp_L_law_444 g.2.2.2.2.2 g.2.2.2.2.1.2.1 g.2.2.2.2.1.2.2 n S x1 x2 x4 x7 x8 x9 x10 x11 x12 → ∀ (H : Heap) (locs : List Loc), mH g S s H locs → ∀ ls : Array Slot, lv_has ls 16 [(1, .ref x1), (2, .ref x2), (4, .ref x4), (7, .int x7), (8, .ref x8), (9, .int x9), (10, .int x10), (11, .int x11), (12, .int x12)] → W p l e room_1 s m args below meth c H locs 113 6625 Qf (F0 m 444 ls []) := by
  intro n
  induction n with
  | zero => intro S x1 x2 x4 x7 x8 x9 x10 x11 x12 hw; exact False.elim hw
  | succ n ih => exact fun S x1 x2 x4 x7 x8 x9 x10 x11 x12 hw => bw_L_law_444 hl0 hC hs hend (K444 := lp_L_law_444 g.2.2.2.2.2 g.2.2.2.2.1.2.1 g.2.2.2.2.1.2.2 n) ih S x1 x2 x4 x7 x8 x9 x10 x11 x12 hw
set_option maxHeartbeats 4000000 in
set_option maxRecDepth 100000 in
theorem bw_L_law_413 {p : Program} {l : Launch} {e : Env} {s : State} {m : MethodId} {args : Array Value} {below : List Frame} {meth : Method} {c : Code} {g : mG} {Qf : State → Prop} (hl0 : l.stackTraces = false) (hC : CallFix p m c cL_law 16 s args (Cond.tt :: wsL_law) RL) (hs : mX g s) (hend : ∀ (H : Heap) (locs : List Loc) (ls : Array Slot), (∀ q ∈ locs, mB g q.base) → W p l e room_1 s m args below meth c H locs 600086 7301442 Qf (F0 m 656 ls [.int 1])) {K413 : mmS → Nat → Nat → Nat → Int32 → Nat → Int32 → Int32 → Int32 → Prop} (hk413 : ∀ (S : mmS) (x1 : Nat) (x2 : Nat) (x4 : Nat) (x7 : Int32) (x8 : Nat) (x9 : Int32) (x10 : Int32) (x11 : Int32), K413 S x1 x2 x4 x7 x8 x9 x10 x11 → ∀ (H : Heap) (locs : List Loc), mH g S s H locs → ∀ ls : Array Slot, lv_has ls 16 [(1, .ref x1), (2, .ref x2), (4, .ref x4), (7, .int x7), (8, .ref x8), (9, .int x9), (10, .int x10), (11, .int x11)] → W p l e room_1 s m args below meth c H locs 113 6625 Qf (F0 m 413 ls [])) : ∀ (S : mmS) (x1 : Nat) (x2 : Nat) (x4 : Nat) (x7 : Int32) (x8 : Nat) (x9 : Int32) (x10 : Int32) (x11 : Int32), bk_L_law_413 g.2.2.2.2.2 g.2.2.2.2.1.2.1 g.2.2.2.2.1.2.2 K413 S x1 x2 x4 x7 x8 x9 x10 x11 → ∀ (H : Heap) (locs : List Loc), mH g S s H locs → ∀ ls : Array Slot, lv_has ls 16 [(1, .ref x1), (2, .ref x2), (4, .ref x4), (7, .int x7), (8, .ref x8), (9, .int x9), (10, .int x10), (11, .int x11)] → W p l e room_1 s m args below meth c H locs 113 6625 Qf (F0 m 413 ls []) := by
  intro S x1 x2 x4 x7 x8 x9 x10 x11 hw H locs hH ls hl
  unfold bk_L_law_413 at hw
  refine lv_iload hC.1 hC.2.1 dL_law_413 (lv_at hl 7 rfl) ?_
  refine lv_aload_n hC.1 hC.2.1 dL_law_415 rfl (lv_at hl 1 rfl) ?_
  refine lv_iconst (v := 2) hC.1 hC.2.1 dL_law_416 (by decide) ?_
  obtain ⟨k1, hw⟩ := hw
  obtain ⟨i2, hw⟩ := hw
  refine m_iald hC hs hH k1 i2 dL_law_417 ?_
  refine lv_icmp_ge (tgt := 438) hC.1 hC.2.1 dL_law_418 (by decide) (fun hc => ?_) (fun hc => ?_)
  · have hw := hw.1 hc
    refine lv_iconst (v := 0) hC.1 hC.2.1 dL_law_438 (by decide) ?_
    have hw := hw _ rfl
    refine lv_istore (lv' := [(11, .int _), (1, .ref _), (2, .ref _), (4, .ref _), (7, .int _), (8, .ref _), (9, .int _), (10, .int _)]) hC.1 hC.2.1 dL_law_439 hl (by decide) rfl (fun ls hl => ?_)
    refine lv_iconst (v := 0) hC.1 hC.2.1 dL_law_441 (by decide) ?_
    have hw := hw _ rfl
    refine lv_istore (lv' := [(12, .int _), (11, .int _), (1, .ref _), (2, .ref _), (4, .ref _), (7, .int _), (8, .ref _), (9, .int _), (10, .int _)]) hC.1 hC.2.1 dL_law_442 hl (by decide) rfl (fun ls hl => ?_)
    refine W.widen (k := 113) (n := 6625) (Nat.le_of_ble_eq_true rfl) (Nat.le_of_ble_eq_true rfl) ?_
    obtain ⟨n, hw⟩ := hw
    exact lw_L_law_444 hl0 hC hs hend n _ _ _ _ _ _ _ _ _ _ hw _ _ hH _ (lv_sub hl [2, 3, 4, 5, 6, 7, 8, 1, 0] rfl)
  · have hw := hw.2 hc
    refine lv_iload hC.1 hC.2.1 dL_law_421 (lv_at hl 6 rfl) ?_
    refine lv_aload_n hC.1 hC.2.1 dL_law_423 rfl (lv_at hl 0 rfl) ?_
    refine lv_iload hC.1 hC.2.1 dL_law_424 (lv_at hl 7 rfl) ?_
    obtain ⟨k6, hw⟩ := hw
    refine m_callVi (y := yX4_lineSum) (rest := [.int _]) hC hs hH hl.1 (cwV 1 hC.2.2.2.2 (gA_V q_344 q_345 q_346 q_2 q_347) rfl rfl rfl (by decide +kernel) ⟨Nat.le_of_ble_eq_true rfl, Nat.le_of_ble_eq_true rfl⟩) cs4 k6 (met_X4_lineSum l hl0 g _ _ _ _ _ (fun _ _ h => h) hw) rfl rfl (Nat.le_of_ble_eq_true rfl) dL_law_426 ⟨Nat.le_of_ble_eq_true rfl, Nat.le_of_ble_eq_true rfl⟩ mKx_no (fun r7 S1 H locs hw hH => ?_)
    refine W.widen (k := 113) (n := 6625) (Nat.le_of_ble_eq_true rfl) (Nat.le_of_ble_eq_true rfl) ?_
    refine lv_iadd hC.1 hC.2.1 dL_law_429 ?_
    have hw := hw _ rfl
    refine lv_istore (lv' := [(10, .int _), (1, .ref _), (2, .ref _), (4, .ref _), (7, .int _), (8, .ref _), (9, .int _), (11, .int _)]) hC.1 hC.2.1 dL_law_430 hl (by decide) rfl (fun ls hl => ?_)
    have hw := hw _ rfl
    refine lv_iinc (lv' := [(11, .int _), (10, .int _), (1, .ref _), (2, .ref _), (4, .ref _), (7, .int _), (8, .ref _), (9, .int _)]) hC.1 hC.2.1 dL_law_432 hl (k := 7) rfl (rfl : (_ : Int32) + Int32.ofInt 1 = (_ : Int32) + 1) (by decide) rfl (fun ls hl => ?_)
    refine lv_goto (tgt := 413) hC.1 hC.2.1 dL_law_435 (by decide) ?_
    refine W.widen (k := 113) (n := 6625) (Nat.le_of_ble_eq_true rfl) (Nat.le_of_ble_eq_true rfl) ?_
    exact hk413 _ _ _ _ _ _ _ _ _ hw _ _ hH _ (lv_sub hl [2, 3, 4, 5, 6, 7, 1, 0] rfl)
theorem lw_L_law_413 {p : Program} {l : Launch} {e : Env} {s : State} {m : MethodId} {args : Array Value} {below : List Frame} {meth : Method} {c : Code} {g : mG} {Qf : State → Prop} (hl0 : l.stackTraces = false) (hC : CallFix p m c cL_law 16 s args (Cond.tt :: wsL_law) RL) (hs : mX g s) (hend : ∀ (H : Heap) (locs : List Loc) (ls : Array Slot), (∀ q ∈ locs, mB g q.base) → W p l e room_1 s m args below meth c H locs 600086 7301442 Qf (F0 m 656 ls [.int 1])) : ∀ (n : Nat) (S : mmS) (x1 : Nat) (x2 : Nat) (x4 : Nat) (x7 : Int32) (x8 : Nat) (x9 : Int32) (x10 : Int32) (x11 : Int32), lp_L_law_413 g.2.2.2.2.2 g.2.2.2.2.1.2.1 g.2.2.2.2.1.2.2 n S x1 x2 x4 x7 x8 x9 x10 x11 → ∀ (H : Heap) (locs : List Loc), mH g S s H locs → ∀ ls : Array Slot, lv_has ls 16 [(1, .ref x1), (2, .ref x2), (4, .ref x4), (7, .int x7), (8, .ref x8), (9, .int x9), (10, .int x10), (11, .int x11)] → W p l e room_1 s m args below meth c H locs 113 6625 Qf (F0 m 413 ls []) := by
  intro n
  induction n with
  | zero => intro S x1 x2 x4 x7 x8 x9 x10 x11 hw; exact False.elim hw
  | succ n ih => exact fun S x1 x2 x4 x7 x8 x9 x10 x11 hw => bw_L_law_413 hl0 hC hs hend (K413 := lp_L_law_413 g.2.2.2.2.2 g.2.2.2.2.1.2.1 g.2.2.2.2.1.2.2 n) ih S x1 x2 x4 x7 x8 x9 x10 x11 hw
set_option maxHeartbeats 4000000 in
set_option maxRecDepth 100000 in
theorem bw_L_law_384 {p : Program} {l : Launch} {e : Env} {s : State} {m : MethodId} {args : Array Value} {below : List Frame} {meth : Method} {c : Code} {g : mG} {Qf : State → Prop} (hl0 : l.stackTraces = false) (hC : CallFix p m c cL_law 16 s args (Cond.tt :: wsL_law) RL) (hs : mX g s) (hend : ∀ (H : Heap) (locs : List Loc) (ls : Array Slot), (∀ q ∈ locs, mB g q.base) → W p l e room_1 s m args below meth c H locs 600086 7301442 Qf (F0 m 656 ls [.int 1])) {K384 : mmS → Nat → Nat → Nat → Int32 → Nat → Int32 → Int32 → Prop} (hk384 : ∀ (S : mmS) (x1 : Nat) (x2 : Nat) (x4 : Nat) (x7 : Int32) (x8 : Nat) (x9 : Int32) (x10 : Int32), K384 S x1 x2 x4 x7 x8 x9 x10 → ∀ (H : Heap) (locs : List Loc), mH g S s H locs → ∀ ls : Array Slot, lv_has ls 16 [(1, .ref x1), (2, .ref x2), (4, .ref x4), (7, .int x7), (8, .ref x8), (9, .int x9), (10, .int x10)] → W p l e room_1 s m args below meth c H locs 113 6625 Qf (F0 m 384 ls [])) : ∀ (S : mmS) (x1 : Nat) (x2 : Nat) (x4 : Nat) (x7 : Int32) (x8 : Nat) (x9 : Int32) (x10 : Int32), bk_L_law_384 g.2.2.2.2.2 g.2.2.2.2.1.2.1 g.2.2.2.2.1.2.2 K384 S x1 x2 x4 x7 x8 x9 x10 → ∀ (H : Heap) (locs : List Loc), mH g S s H locs → ∀ ls : Array Slot, lv_has ls 16 [(1, .ref x1), (2, .ref x2), (4, .ref x4), (7, .int x7), (8, .ref x8), (9, .int x9), (10, .int x10)] → W p l e room_1 s m args below meth c H locs 113 6625 Qf (F0 m 384 ls []) := by
  intro S x1 x2 x4 x7 x8 x9 x10 hw H locs hH ls hl
  unfold bk_L_law_384 at hw
  refine lv_iload hC.1 hC.2.1 dL_law_384 (lv_at hl 6 rfl) ?_
  refine lv_iload hC.1 hC.2.1 dL_law_386 (lv_at hl 3 rfl) ?_
  refine lv_icmp_ge (tgt := 407) hC.1 hC.2.1 dL_law_388 (by decide) (fun hc => ?_) (fun hc => ?_)
  · have hw := hw.1 hc
    refine lv_iconst (v := 0) hC.1 hC.2.1 dL_law_407 (by decide) ?_
    have hw := hw _ rfl
    refine lv_istore (lv' := [(10, .int _), (1, .ref _), (2, .ref _), (4, .ref _), (7, .int _), (8, .ref _), (9, .int _)]) hC.1 hC.2.1 dL_law_408 hl (by decide) rfl (fun ls hl => ?_)
    refine lv_iconst (v := 0) hC.1 hC.2.1 dL_law_410 (by decide) ?_
    have hw := hw _ rfl
    refine lv_istore (lv' := [(11, .int _), (10, .int _), (1, .ref _), (2, .ref _), (4, .ref _), (7, .int _), (8, .ref _), (9, .int _)]) hC.1 hC.2.1 dL_law_411 hl (by decide) rfl (fun ls hl => ?_)
    refine W.widen (k := 113) (n := 6625) (Nat.le_of_ble_eq_true rfl) (Nat.le_of_ble_eq_true rfl) ?_
    obtain ⟨n, hw⟩ := hw
    exact lw_L_law_413 hl0 hC hs hend n _ _ _ _ _ _ _ _ _ hw _ _ hH _ (lv_sub hl [2, 3, 4, 5, 6, 7, 1, 0] rfl)
  · have hw := hw.2 hc
    refine lv_iload hC.1 hC.2.1 dL_law_391 (lv_at hl 5 rfl) ?_
    refine lv_aload hC.1 hC.2.1 dL_law_393 (lv_at hl 4 rfl) ?_
    refine lv_iload hC.1 hC.2.1 dL_law_395 (lv_at hl 6 rfl) ?_
    obtain ⟨k3, hw⟩ := hw
    obtain ⟨i4, hw⟩ := hw
    refine m_iald hC hs hH k3 i4 dL_law_397 ?_
    refine lv_iadd hC.1 hC.2.1 dL_law_398 ?_
    have hw := hw _ rfl
    refine lv_istore (lv' := [(9, .int _), (1, .ref _), (2, .ref _), (4, .ref _), (7, .int _), (8, .ref _), (10, .int _)]) hC.1 hC.2.1 dL_law_399 hl (by decide) rfl (fun ls hl => ?_)
    have hw := hw _ rfl
    refine lv_iinc (lv' := [(10, .int _), (9, .int _), (1, .ref _), (2, .ref _), (4, .ref _), (7, .int _), (8, .ref _)]) hC.1 hC.2.1 dL_law_401 hl (k := 6) rfl (rfl : (_ : Int32) + Int32.ofInt 1 = (_ : Int32) + 1) (by decide) rfl (fun ls hl => ?_)
    refine lv_goto (tgt := 384) hC.1 hC.2.1 dL_law_404 (by decide) ?_
    refine W.widen (k := 113) (n := 6625) (Nat.le_of_ble_eq_true rfl) (Nat.le_of_ble_eq_true rfl) ?_
    exact hk384 _ _ _ _ _ _ _ _ hw _ _ hH _ (lv_sub hl [2, 3, 4, 5, 6, 1, 0] rfl)
theorem lw_L_law_384 {p : Program} {l : Launch} {e : Env} {s : State} {m : MethodId} {args : Array Value} {below : List Frame} {meth : Method} {c : Code} {g : mG} {Qf : State → Prop} (hl0 : l.stackTraces = false) (hC : CallFix p m c cL_law 16 s args (Cond.tt :: wsL_law) RL) (hs : mX g s) (hend : ∀ (H : Heap) (locs : List Loc) (ls : Array Slot), (∀ q ∈ locs, mB g q.base) → W p l e room_1 s m args below meth c H locs 600086 7301442 Qf (F0 m 656 ls [.int 1])) : ∀ (n : Nat) (S : mmS) (x1 : Nat) (x2 : Nat) (x4 : Nat) (x7 : Int32) (x8 : Nat) (x9 : Int32) (x10 : Int32), lp_L_law_384 g.2.2.2.2.2 g.2.2.2.2.1.2.1 g.2.2.2.2.1.2.2 n S x1 x2 x4 x7 x8 x9 x10 → ∀ (H : Heap) (locs : List Loc), mH g S s H locs → ∀ ls : Array Slot, lv_has ls 16 [(1, .ref x1), (2, .ref x2), (4, .ref x4), (7, .int x7), (8, .ref x8), (9, .int x9), (10, .int x10)] → W p l e room_1 s m args below meth c H locs 113 6625 Qf (F0 m 384 ls []) := by
  intro n
  induction n with
  | zero => intro S x1 x2 x4 x7 x8 x9 x10 hw; exact False.elim hw
  | succ n ih => exact fun S x1 x2 x4 x7 x8 x9 x10 hw => bw_L_law_384 hl0 hC hs hend (K384 := lp_L_law_384 g.2.2.2.2.2 g.2.2.2.2.1.2.1 g.2.2.2.2.1.2.2 n) ih S x1 x2 x4 x7 x8 x9 x10 hw
set_option maxHeartbeats 4000000 in
set_option maxRecDepth 100000 in
theorem bw_L_law_378 {p : Program} {l : Launch} {e : Env} {s : State} {m : MethodId} {args : Array Value} {below : List Frame} {meth : Method} {c : Code} {g : mG} {Qf : State → Prop} (hl0 : l.stackTraces = false) (hC : CallFix p m c cL_law 16 s args (Cond.tt :: wsL_law) RL) (hs : mX g s) (hend : ∀ (H : Heap) (locs : List Loc) (ls : Array Slot), (∀ q ∈ locs, mB g q.base) → W p l e room_1 s m args below meth c H locs 600086 7301442 Qf (F0 m 656 ls [.int 1])) : ∀ (S : mmS) (x1 : Nat) (x2 : Nat) (x4 : Nat) (x7 : Int32) (x8 : Nat), bk_L_law_378 g.2.2.2.2.2 g.2.2.2.2.1.2.1 g.2.2.2.2.1.2.2 S x1 x2 x4 x7 x8 → ∀ (H : Heap) (locs : List Loc), mH g S s H locs → ∀ ls : Array Slot, lv_has ls 16 [(1, .ref x1), (2, .ref x2), (4, .ref x4), (7, .int x7), (8, .ref x8)] → W p l e room_1 s m args below meth c H locs 113 6625 Qf (F0 m 378 ls []) := by
  intro S x1 x2 x4 x7 x8 hw H locs hH ls hl
  unfold bk_L_law_378 at hw
  refine lv_iconst (v := 0) hC.1 hC.2.1 dL_law_378 (by decide) ?_
  have hw := hw _ rfl
  refine lv_istore (lv' := [(9, .int _), (1, .ref _), (2, .ref _), (4, .ref _), (7, .int _), (8, .ref _)]) hC.1 hC.2.1 dL_law_379 hl (by decide) rfl (fun ls hl => ?_)
  refine lv_iconst (v := 0) hC.1 hC.2.1 dL_law_381 (by decide) ?_
  have hw := hw _ rfl
  refine lv_istore (lv' := [(10, .int _), (9, .int _), (1, .ref _), (2, .ref _), (4, .ref _), (7, .int _), (8, .ref _)]) hC.1 hC.2.1 dL_law_382 hl (by decide) rfl (fun ls hl => ?_)
  refine W.widen (k := 113) (n := 6625) (Nat.le_of_ble_eq_true rfl) (Nat.le_of_ble_eq_true rfl) ?_
  obtain ⟨n, hw⟩ := hw
  exact lw_L_law_384 hl0 hC hs hend n _ _ _ _ _ _ _ _ hw _ _ hH _ (lv_sub hl [2, 3, 4, 5, 6, 1, 0] rfl)
set_option maxHeartbeats 4000000 in
set_option maxRecDepth 100000 in
theorem bw_L_law_362 {p : Program} {l : Launch} {e : Env} {s : State} {m : MethodId} {args : Array Value} {below : List Frame} {meth : Method} {c : Code} {g : mG} {Qf : State → Prop} (hl0 : l.stackTraces = false) (hC : CallFix p m c cL_law 16 s args (Cond.tt :: wsL_law) RL) (hs : mX g s) (hend : ∀ (H : Heap) (locs : List Loc) (ls : Array Slot), (∀ q ∈ locs, mB g q.base) → W p l e room_1 s m args below meth c H locs 600086 7301442 Qf (F0 m 656 ls [.int 1])) {k : Nat} (hk : k ≤ 4) {K112 : mmS → Nat → Nat → Nat → Nat → Int32 → Nat → Int32 → Prop} {K291 : mmS → Nat → Nat → Nat → Nat → Int32 → Nat → Int32 → Int32 → Int32 → Prop} (hk112 : ∀ (S : mmS) (x1 : Nat) (x2 : Nat) (x4 : Nat) (x6 : Nat) (x7 : Int32) (x8 : Nat) (x9 : Int32), K112 S x1 x2 x4 x6 x7 x8 x9 → ∀ (H : Heap) (locs : List Loc), mH g S s H locs → ∀ ls : Array Slot, lv_has ls 16 [(0, .ref g.2.2.2.2.1.1), (1, .ref x1), (2, .ref x2), (4, .ref x4), (6, .ref x6), (7, .int x7), (8, .ref x8), (9, .int x9)] → W p l e room_1 s m args below meth c H locs (101 + (k + 1) * 3 + 0) (5565 + (k + 1) * 265 + 0) Qf (F0 m 112 ls [])) (hk291 : ∀ (S : mmS) (x1 : Nat) (x2 : Nat) (x4 : Nat) (x6 : Nat) (x7 : Int32) (x8 : Nat) (x9 : Int32) (x13 : Int32) (x14 : Int32), K291 S x1 x2 x4 x6 x7 x8 x9 x13 x14 → ∀ (H : Heap) (locs : List Loc), mH g S s H locs → ∀ ls : Array Slot, lv_has ls 16 [(0, .ref g.2.2.2.2.1.1), (1, .ref x1), (2, .ref x2), (4, .ref x4), (6, .ref x6), (7, .int x7), (8, .ref x8), (9, .int x9), (13, .int x13), (14, .int x14)] → W p l e room_1 s m args below meth c H locs (101 + k * 3 + 3) (5565 + k * 265 + 265) Qf (F0 m 291 ls [])) : ∀ (S : mmS) (x1 : Nat) (x2 : Nat) (x4 : Nat) (x6 : Nat) (x7 : Int32) (x8 : Nat) (x9 : Int32) (x14 : Int32) (x15 : Int32), bk_L_law_362 g.2.2.2.2.2 g.2.2.2.2.1.2.1 g.2.2.2.2.1.2.2 K112 K291 S x1 x2 x4 x6 x7 x8 x9 x14 x15 → ∀ (H : Heap) (locs : List Loc), mH g S s H locs → ∀ ls : Array Slot, lv_has ls 16 [(0, .ref g.2.2.2.2.1.1), (1, .ref x1), (2, .ref x2), (4, .ref x4), (6, .ref x6), (7, .int x7), (8, .ref x8), (9, .int x9), (14, .int x14), (15, .int x15)] → W p l e room_1 s m args below meth c H locs (101 + k * 3 + 3) (5565 + k * 265 + 265) Qf (F0 m 362 ls []) := by
  intro S x1 x2 x4 x6 x7 x8 x9 x14 x15 hw H locs hH ls hl
  unfold bk_L_law_362 at hw
  refine lv_iload hC.1 hC.2.1 dL_law_362 (lv_at hl 9 rfl) ?_
  refine lv_istore (lv' := [(13, .int _), (0, .ref _), (1, .ref _), (2, .ref _), (4, .ref _), (6, .ref _), (7, .int _), (8, .ref _), (9, .int _), (14, .int _), (15, .int _)]) hC.1 hC.2.1 dL_law_364 hl (by decide) rfl (fun ls hl => ?_)
  have hw := hw _ rfl
  refine lv_iinc (lv' := [(14, .int _), (13, .int _), (0, .ref _), (1, .ref _), (2, .ref _), (4, .ref _), (6, .ref _), (7, .int _), (8, .ref _), (9, .int _), (15, .int _)]) hC.1 hC.2.1 dL_law_366 hl (k := 9) rfl (rfl : (_ : Int32) + Int32.ofInt 1 = (_ : Int32) + 1) (by decide) rfl (fun ls hl => ?_)
  refine lv_goto (tgt := 291) hC.1 hC.2.1 dL_law_369 (by decide) ?_
  refine W.widen (k := (101 + k * 3 + 3)) (n := (5565 + k * 265 + 265)) (lwe (Nat.le_of_ble_eq_true rfl)) (lwe (Nat.le_of_ble_eq_true rfl)) ?_
  exact hk291 _ _ _ _ _ _ _ _ _ _ hw _ _ hH _ (lv_sub hl [2, 3, 4, 5, 6, 7, 8, 9, 1, 0] rfl)
set_option maxHeartbeats 4000000 in
set_option maxRecDepth 100000 in
theorem bw_L_law_291 {p : Program} {l : Launch} {e : Env} {s : State} {m : MethodId} {args : Array Value} {below : List Frame} {meth : Method} {c : Code} {g : mG} {Qf : State → Prop} (hl0 : l.stackTraces = false) (hC : CallFix p m c cL_law 16 s args (Cond.tt :: wsL_law) RL) (hs : mX g s) (hend : ∀ (H : Heap) (locs : List Loc) (ls : Array Slot), (∀ q ∈ locs, mB g q.base) → W p l e room_1 s m args below meth c H locs 600086 7301442 Qf (F0 m 656 ls [.int 1])) {k : Nat} (hk : k ≤ 4) {K112 : mmS → Nat → Nat → Nat → Nat → Int32 → Nat → Int32 → Prop} {K291 : mmS → Nat → Nat → Nat → Nat → Int32 → Nat → Int32 → Int32 → Int32 → Prop} (hk112 : ∀ (S : mmS) (x1 : Nat) (x2 : Nat) (x4 : Nat) (x6 : Nat) (x7 : Int32) (x8 : Nat) (x9 : Int32), K112 S x1 x2 x4 x6 x7 x8 x9 → ∀ (H : Heap) (locs : List Loc), mH g S s H locs → ∀ ls : Array Slot, lv_has ls 16 [(0, .ref g.2.2.2.2.1.1), (1, .ref x1), (2, .ref x2), (4, .ref x4), (6, .ref x6), (7, .int x7), (8, .ref x8), (9, .int x9)] → W p l e room_1 s m args below meth c H locs (101 + (k + 1) * 3 + 0) (5565 + (k + 1) * 265 + 0) Qf (F0 m 112 ls [])) (hk291 : ∀ (S : mmS) (x1 : Nat) (x2 : Nat) (x4 : Nat) (x6 : Nat) (x7 : Int32) (x8 : Nat) (x9 : Int32) (x13 : Int32) (x14 : Int32), K291 S x1 x2 x4 x6 x7 x8 x9 x13 x14 → ∀ (H : Heap) (locs : List Loc), mH g S s H locs → ∀ ls : Array Slot, lv_has ls 16 [(0, .ref g.2.2.2.2.1.1), (1, .ref x1), (2, .ref x2), (4, .ref x4), (6, .ref x6), (7, .int x7), (8, .ref x8), (9, .int x9), (13, .int x13), (14, .int x14)] → W p l e room_1 s m args below meth c H locs (101 + k * 3 + 3) (5565 + k * 265 + 265) Qf (F0 m 291 ls [])) : ∀ (S : mmS) (x1 : Nat) (x2 : Nat) (x4 : Nat) (x6 : Nat) (x7 : Int32) (x8 : Nat) (x9 : Int32) (x13 : Int32) (x14 : Int32), bk_L_law_291 g.2.2.2.2.2 g.2.2.2.2.1.2.1 g.2.2.2.2.1.2.2 K112 K291 S x1 x2 x4 x6 x7 x8 x9 x13 x14 → ∀ (H : Heap) (locs : List Loc), mH g S s H locs → ∀ ls : Array Slot, lv_has ls 16 [(0, .ref g.2.2.2.2.1.1), (1, .ref x1), (2, .ref x2), (4, .ref x4), (6, .ref x6), (7, .int x7), (8, .ref x8), (9, .int x9), (13, .int x13), (14, .int x14)] → W p l e room_1 s m args below meth c H locs (101 + k * 3 + 3) (5565 + k * 265 + 265) Qf (F0 m 291 ls []) := by
  intro S x1 x2 x4 x6 x7 x8 x9 x13 x14 hw H locs hH ls hl
  unfold bk_L_law_291 at hw
  refine lv_iload hC.1 hC.2.1 dL_law_291 (lv_at hl 9 rfl) ?_
  refine lv_iload hC.1 hC.2.1 dL_law_293 (lv_at hl 5 rfl) ?_
  refine lv_icmp_ge (tgt := 372) hC.1 hC.2.1 dL_law_295 (by decide) (fun hc => ?_) (fun hc => ?_)
  · have hw := hw.1 hc
    have hw := hw _ rfl
    refine lv_iinc (lv' := [(9, .int _), (0, .ref _), (1, .ref _), (2, .ref _), (4, .ref _), (6, .ref _), (7, .int _), (8, .ref _), (13, .int _), (14, .int _)]) hC.1 hC.2.1 dL_law_372 hl (k := 7) rfl (rfl : (_ : Int32) + Int32.ofInt 1 = (_ : Int32) + 1) (by decide) rfl (fun ls hl => ?_)
    refine lv_goto (tgt := 112) hC.1 hC.2.1 dL_law_375 (by decide) ?_
    refine W.widen (k := (101 + (k + 1) * 3 + 0)) (n := (5565 + (k + 1) * 265 + 0)) (lwb (Nat.le_of_ble_eq_true rfl)) (lwb (Nat.le_of_ble_eq_true rfl)) ?_
    exact hk112 _ _ _ _ _ _ _ _ hw _ _ hH _ (lv_sub hl [1, 2, 3, 4, 5, 6, 7, 0] rfl)
  · have hw := hw.2 hc
    refine lv_aload_n hC.1 hC.2.1 dL_law_298 rfl (lv_at hl 1 rfl) ?_
    refine lv_iload hC.1 hC.2.1 dL_law_299 (lv_at hl 9 rfl) ?_
    obtain ⟨k3, hw⟩ := hw
    refine m_callVi (y := yX4_callAt) (rest := []) hC hs hH hl.1 (cwV 1 hC.2.2.2.2 (gA_V q_339 q_340 q_341 q_2 q_342) rfl rfl rfl (by decide +kernel) ⟨Nat.le_of_ble_eq_true rfl, Nat.le_of_ble_eq_true rfl⟩) cs4 k3 (met_X4_callAt l hl0 g _ _ _ _ _ (fun _ _ h => h) hw) rfl rfl (Nat.le_of_ble_eq_true rfl) dL_law_301 ⟨lwr hk (Nat.le_of_ble_eq_true rfl), lwr hk (Nat.le_of_ble_eq_true rfl)⟩ mKx_no (fun r4 S1 H locs hw hH => ?_)
    refine W.widen (k := (101 + k * 3 + 3)) (n := (5565 + k * 265 + 265)) (lww (Nat.le_of_ble_eq_true rfl)) (lww (Nat.le_of_ble_eq_true rfl)) ?_
    refine lv_istore (lv' := [(15, .int _), (0, .ref _), (1, .ref _), (2, .ref _), (4, .ref _), (6, .ref _), (7, .int _), (8, .ref _), (9, .int _), (13, .int _), (14, .int _)]) hC.1 hC.2.1 dL_law_304 hl (by decide) rfl (fun ls hl => ?_)
    refine lv_iload hC.1 hC.2.1 dL_law_306 (lv_at hl 9 rfl) ?_
    refine lv_if_lt (tgt := 362) hC.1 hC.2.1 dL_law_308 (by decide) (fun hc => ?_) (fun hc => ?_)
    · have hw := hw.1 hc
      refine W.widen (k := (101 + k * 3 + 3)) (n := (5565 + k * 265 + 265)) (lwe (Nat.le_of_ble_eq_true rfl)) (lwe (Nat.le_of_ble_eq_true rfl)) ?_
      exact bw_L_law_362 hl0 hC hs hend hk hk112 hk291 _ _ _ _ _ _ _ _ _ _ hw _ _ hH _ (lv_sub hl [1, 2, 3, 4, 5, 6, 7, 8, 10, 0] rfl)
    · have hw := hw.2 hc
      refine lv_aload hC.1 hC.2.1 dL_law_311 (lv_at hl 5 rfl) ?_
      refine lv_iconst (v := 4) hC.1 hC.2.1 dL_law_313 (by decide) ?_
      refine lv_iload hC.1 hC.2.1 dL_law_314 (lv_at hl 0 rfl) ?_
      refine lv_imul hC.1 hC.2.1 dL_law_316 ?_
      refine lv_iconst (v := 1) hC.1 hC.2.1 dL_law_317 (by decide) ?_
      refine lv_iadd hC.1 hC.2.1 dL_law_318 ?_
      obtain ⟨k5, hw⟩ := hw
      obtain ⟨i6, hw⟩ := hw
      refine m_iald hC hs hH k5 i6 dL_law_319 ?_
      refine lv_aload hC.1 hC.2.1 dL_law_320 (lv_at hl 5 rfl) ?_
      refine lv_iconst (v := 4) hC.1 hC.2.1 dL_law_322 (by decide) ?_
      refine lv_iload hC.1 hC.2.1 dL_law_323 (lv_at hl 9 rfl) ?_
      refine lv_imul hC.1 hC.2.1 dL_law_325 ?_
      refine lv_iconst (v := 1) hC.1 hC.2.1 dL_law_326 (by decide) ?_
      refine lv_iadd hC.1 hC.2.1 dL_law_327 ?_
      obtain ⟨i7, hw⟩ := hw
      refine m_iald hC hs hH k5 i7 dL_law_328 ?_
      refine lv_icmp_lt (tgt := 360) hC.1 hC.2.1 dL_law_329 (by decide) (fun hc => ?_) (fun hc => ?_)
      · have hw := hw.1 hc
        refine lv_iconst (v := 0) hC.1 hC.2.1 dL_law_360 (by decide) ?_
        exact False.elim hw
      · have hw := hw.2 hc
        refine lv_aload hC.1 hC.2.1 dL_law_332 (lv_at hl 5 rfl) ?_
        refine lv_iconst (v := 4) hC.1 hC.2.1 dL_law_334 (by decide) ?_
        refine lv_iload hC.1 hC.2.1 dL_law_335 (lv_at hl 0 rfl) ?_
        refine lv_imul hC.1 hC.2.1 dL_law_337 ?_
        refine lv_iconst (v := 1) hC.1 hC.2.1 dL_law_338 (by decide) ?_
        refine lv_iadd hC.1 hC.2.1 dL_law_339 ?_
        obtain ⟨i8, hw⟩ := hw
        refine m_iald hC hs hH k5 i8 dL_law_340 ?_
        refine lv_aload hC.1 hC.2.1 dL_law_341 (lv_at hl 5 rfl) ?_
        refine lv_iconst (v := 4) hC.1 hC.2.1 dL_law_343 (by decide) ?_
        refine lv_iload hC.1 hC.2.1 dL_law_344 (lv_at hl 9 rfl) ?_
        refine lv_imul hC.1 hC.2.1 dL_law_346 ?_
        refine lv_iconst (v := 1) hC.1 hC.2.1 dL_law_347 (by decide) ?_
        refine lv_iadd hC.1 hC.2.1 dL_law_348 ?_
        obtain ⟨i9, hw⟩ := hw
        refine m_iald hC hs hH k5 i9 dL_law_349 ?_
        refine lv_icmp_ne (tgt := 362) hC.1 hC.2.1 dL_law_350 (by decide) (fun hc => ?_) (fun hc => ?_)
        · have hw := hw.1 hc
          refine W.widen (k := (101 + k * 3 + 3)) (n := (5565 + k * 265 + 265)) (lwe (Nat.le_of_ble_eq_true rfl)) (lwe (Nat.le_of_ble_eq_true rfl)) ?_
          exact bw_L_law_362 hl0 hC hs hend hk hk112 hk291 _ _ _ _ _ _ _ _ _ _ hw _ _ hH _ (lv_sub hl [1, 2, 3, 4, 5, 6, 7, 8, 10, 0] rfl)
        · have hw := hw.2 hc
          refine lv_iload hC.1 hC.2.1 dL_law_353 (lv_at hl 0 rfl) ?_
          refine lv_iload hC.1 hC.2.1 dL_law_355 (lv_at hl 9 rfl) ?_
          refine lv_icmp_ge (tgt := 362) hC.1 hC.2.1 dL_law_357 (by decide) (fun hc => ?_) (fun hc => ?_)
          · have hw := hw.1 hc
            refine W.widen (k := (101 + k * 3 + 3)) (n := (5565 + k * 265 + 265)) (lwe (Nat.le_of_ble_eq_true rfl)) (lwe (Nat.le_of_ble_eq_true rfl)) ?_
            exact bw_L_law_362 hl0 hC hs hend hk hk112 hk291 _ _ _ _ _ _ _ _ _ _ hw _ _ hH _ (lv_sub hl [1, 2, 3, 4, 5, 6, 7, 8, 10, 0] rfl)
          · have hw := hw.2 hc
            refine lv_iconst (v := 0) hC.1 hC.2.1 dL_law_360 (by decide) ?_
            exact False.elim hw
theorem lw_L_law_291 {p : Program} {l : Launch} {e : Env} {s : State} {m : MethodId} {args : Array Value} {below : List Frame} {meth : Method} {c : Code} {g : mG} {Qf : State → Prop} (hl0 : l.stackTraces = false) (hC : CallFix p m c cL_law 16 s args (Cond.tt :: wsL_law) RL) (hs : mX g s) (hend : ∀ (H : Heap) (locs : List Loc) (ls : Array Slot), (∀ q ∈ locs, mB g q.base) → W p l e room_1 s m args below meth c H locs 600086 7301442 Qf (F0 m 656 ls [.int 1])) {k : Nat} (hk : k ≤ 4) {K112 : mmS → Nat → Nat → Nat → Nat → Int32 → Nat → Int32 → Prop} (hk112 : ∀ (S : mmS) (x1 : Nat) (x2 : Nat) (x4 : Nat) (x6 : Nat) (x7 : Int32) (x8 : Nat) (x9 : Int32), K112 S x1 x2 x4 x6 x7 x8 x9 → ∀ (H : Heap) (locs : List Loc), mH g S s H locs → ∀ ls : Array Slot, lv_has ls 16 [(0, .ref g.2.2.2.2.1.1), (1, .ref x1), (2, .ref x2), (4, .ref x4), (6, .ref x6), (7, .int x7), (8, .ref x8), (9, .int x9)] → W p l e room_1 s m args below meth c H locs (101 + (k + 1) * 3 + 0) (5565 + (k + 1) * 265 + 0) Qf (F0 m 112 ls [])) : ∀ (n : Nat) (S : mmS) (x1 : Nat) (x2 : Nat) (x4 : Nat) (x6 : Nat) (x7 : Int32) (x8 : Nat) (x9 : Int32) (x13 : Int32) (x14 : Int32), lp_L_law_291 g.2.2.2.2.2 g.2.2.2.2.1.2.1 g.2.2.2.2.1.2.2 K112 n S x1 x2 x4 x6 x7 x8 x9 x13 x14 → ∀ (H : Heap) (locs : List Loc), mH g S s H locs → ∀ ls : Array Slot, lv_has ls 16 [(0, .ref g.2.2.2.2.1.1), (1, .ref x1), (2, .ref x2), (4, .ref x4), (6, .ref x6), (7, .int x7), (8, .ref x8), (9, .int x9), (13, .int x13), (14, .int x14)] → W p l e room_1 s m args below meth c H locs (101 + k * 3 + 3) (5565 + k * 265 + 265) Qf (F0 m 291 ls []) := by
  intro n
  induction n with
  | zero => intro S x1 x2 x4 x6 x7 x8 x9 x13 x14 hw; exact False.elim hw
  | succ n ih => exact fun S x1 x2 x4 x6 x7 x8 x9 x13 x14 hw => bw_L_law_291 hl0 hC hs hend hk (K112 := K112) (K291 := lp_L_law_291 g.2.2.2.2.2 g.2.2.2.2.1.2.1 g.2.2.2.2.1.2.2 K112 n) hk112 ih S x1 x2 x4 x6 x7 x8 x9 x13 x14 hw
set_option maxHeartbeats 4000000 in
set_option maxRecDepth 100000 in
theorem bw_L_law_260 {p : Program} {l : Launch} {e : Env} {s : State} {m : MethodId} {args : Array Value} {below : List Frame} {meth : Method} {c : Code} {g : mG} {Qf : State → Prop} (hl0 : l.stackTraces = false) (hC : CallFix p m c cL_law 16 s args (Cond.tt :: wsL_law) RL) (hs : mX g s) (hend : ∀ (H : Heap) (locs : List Loc) (ls : Array Slot), (∀ q ∈ locs, mB g q.base) → W p l e room_1 s m args below meth c H locs 600086 7301442 Qf (F0 m 656 ls [.int 1])) {k : Nat} (hk : k ≤ 4) {K112 : mmS → Nat → Nat → Nat → Nat → Int32 → Nat → Int32 → Prop} {K218 : mmS → Nat → Nat → Nat → Nat → Int32 → Nat → Int32 → Int32 → Int32 → Int32 → Prop} (hk112 : ∀ (S : mmS) (x1 : Nat) (x2 : Nat) (x4 : Nat) (x6 : Nat) (x7 : Int32) (x8 : Nat) (x9 : Int32), K112 S x1 x2 x4 x6 x7 x8 x9 → ∀ (H : Heap) (locs : List Loc), mH g S s H locs → ∀ ls : Array Slot, lv_has ls 16 [(0, .ref g.2.2.2.2.1.1), (1, .ref x1), (2, .ref x2), (4, .ref x4), (6, .ref x6), (7, .int x7), (8, .ref x8), (9, .int x9)] → W p l e room_1 s m args below meth c H locs (101 + (k + 1) * 3 + 0) (5565 + (k + 1) * 265 + 0) Qf (F0 m 112 ls [])) (hk218 : ∀ (S : mmS) (x1 : Nat) (x2 : Nat) (x4 : Nat) (x6 : Nat) (x7 : Int32) (x8 : Nat) (x9 : Int32) (x11 : Int32) (x12 : Int32) (x13 : Int32), K218 S x1 x2 x4 x6 x7 x8 x9 x11 x12 x13 → ∀ (H : Heap) (locs : List Loc), mH g S s H locs → ∀ ls : Array Slot, lv_has ls 16 [(0, .ref g.2.2.2.2.1.1), (1, .ref x1), (2, .ref x2), (4, .ref x4), (6, .ref x6), (7, .int x7), (8, .ref x8), (9, .int x9), (11, .int x11), (12, .int x12), (13, .int x13)] → W p l e room_1 s m args below meth c H locs (101 + k * 3 + 3) (5565 + k * 265 + 265) Qf (F0 m 218 ls [])) : ∀ (S : mmS) (x1 : Nat) (x2 : Nat) (x4 : Nat) (x6 : Nat) (x7 : Int32) (x8 : Nat) (x9 : Int32) (x11 : Int32) (x12 : Int32) (x13 : Int32) (x14 : Int32), bk_L_law_260 g.2.2.2.2.2 g.2.2.2.2.1.2.1 g.2.2.2.2.1.2.2 K112 K218 S x1 x2 x4 x6 x7 x8 x9 x11 x12 x13 x14 → ∀ (H : Heap) (locs : List Loc), mH g S s H locs → ∀ ls : Array Slot, lv_has ls 16 [(0, .ref g.2.2.2.2.1.1), (1, .ref x1), (2, .ref x2), (4, .ref x4), (6, .ref x6), (7, .int x7), (8, .ref x8), (9, .int x9), (11, .int x11), (12, .int x12), (13, .int x13), (14, .int x14)] → W p l e room_1 s m args below meth c H locs (101 + k * 3 + 3) (5565 + k * 265 + 265) Qf (F0 m 260 ls []) := by
  intro S x1 x2 x4 x6 x7 x8 x9 x11 x12 x13 x14 hw H locs hH ls hl
  unfold bk_L_law_260 at hw
  refine lv_aload hC.1 hC.2.1 dL_law_260 (lv_at hl 6 rfl) ?_
  refine lv_iload hC.1 hC.2.1 dL_law_262 (lv_at hl 10 rfl) ?_
  refine lv_iload hC.1 hC.2.1 dL_law_264 (lv_at hl 11 rfl) ?_
  obtain ⟨k1, hw⟩ := hw
  obtain ⟨i2, hw⟩ := hw
  have hw := hw _ rfl
  refine m_iast hC hs hH k1 i2 dL_law_266 (fun H locs hH => ?_)
  have hw := hw _ rfl
  refine lv_iinc (lv' := [(13, .int _), (0, .ref _), (1, .ref _), (2, .ref _), (4, .ref _), (6, .ref _), (7, .int _), (8, .ref _), (9, .int _), (11, .int _), (12, .int _), (14, .int _)]) hC.1 hC.2.1 dL_law_267 hl (k := 10) rfl (rfl : (_ : Int32) + Int32.ofInt 1 = (_ : Int32) + 1) (by decide) rfl (fun ls hl => ?_)
  refine lv_goto (tgt := 218) hC.1 hC.2.1 dL_law_270 (by decide) ?_
  refine W.widen (k := (101 + k * 3 + 3)) (n := (5565 + k * 265 + 265)) (lwe (Nat.le_of_ble_eq_true rfl)) (lwe (Nat.le_of_ble_eq_true rfl)) ?_
  exact hk218 _ _ _ _ _ _ _ _ _ _ _ hw _ _ hH _ (lv_sub hl [1, 2, 3, 4, 5, 6, 7, 8, 9, 10, 0] rfl)
set_option maxHeartbeats 4000000 in
set_option maxRecDepth 100000 in
theorem bw_L_law_218 {p : Program} {l : Launch} {e : Env} {s : State} {m : MethodId} {args : Array Value} {below : List Frame} {meth : Method} {c : Code} {g : mG} {Qf : State → Prop} (hl0 : l.stackTraces = false) (hC : CallFix p m c cL_law 16 s args (Cond.tt :: wsL_law) RL) (hs : mX g s) (hend : ∀ (H : Heap) (locs : List Loc) (ls : Array Slot), (∀ q ∈ locs, mB g q.base) → W p l e room_1 s m args below meth c H locs 600086 7301442 Qf (F0 m 656 ls [.int 1])) {k : Nat} (hk : k ≤ 4) {K112 : mmS → Nat → Nat → Nat → Nat → Int32 → Nat → Int32 → Prop} {K218 : mmS → Nat → Nat → Nat → Nat → Int32 → Nat → Int32 → Int32 → Int32 → Int32 → Prop} (hk112 : ∀ (S : mmS) (x1 : Nat) (x2 : Nat) (x4 : Nat) (x6 : Nat) (x7 : Int32) (x8 : Nat) (x9 : Int32), K112 S x1 x2 x4 x6 x7 x8 x9 → ∀ (H : Heap) (locs : List Loc), mH g S s H locs → ∀ ls : Array Slot, lv_has ls 16 [(0, .ref g.2.2.2.2.1.1), (1, .ref x1), (2, .ref x2), (4, .ref x4), (6, .ref x6), (7, .int x7), (8, .ref x8), (9, .int x9)] → W p l e room_1 s m args below meth c H locs (101 + (k + 1) * 3 + 0) (5565 + (k + 1) * 265 + 0) Qf (F0 m 112 ls [])) (hk218 : ∀ (S : mmS) (x1 : Nat) (x2 : Nat) (x4 : Nat) (x6 : Nat) (x7 : Int32) (x8 : Nat) (x9 : Int32) (x11 : Int32) (x12 : Int32) (x13 : Int32), K218 S x1 x2 x4 x6 x7 x8 x9 x11 x12 x13 → ∀ (H : Heap) (locs : List Loc), mH g S s H locs → ∀ ls : Array Slot, lv_has ls 16 [(0, .ref g.2.2.2.2.1.1), (1, .ref x1), (2, .ref x2), (4, .ref x4), (6, .ref x6), (7, .int x7), (8, .ref x8), (9, .int x9), (11, .int x11), (12, .int x12), (13, .int x13)] → W p l e room_1 s m args below meth c H locs (101 + k * 3 + 3) (5565 + k * 265 + 265) Qf (F0 m 218 ls [])) : ∀ (S : mmS) (x1 : Nat) (x2 : Nat) (x4 : Nat) (x6 : Nat) (x7 : Int32) (x8 : Nat) (x9 : Int32) (x11 : Int32) (x12 : Int32) (x13 : Int32), bk_L_law_218 g.2.2.2.2.2 g.2.2.2.2.1.2.1 g.2.2.2.2.1.2.2 K112 K218 S x1 x2 x4 x6 x7 x8 x9 x11 x12 x13 → ∀ (H : Heap) (locs : List Loc), mH g S s H locs → ∀ ls : Array Slot, lv_has ls 16 [(0, .ref g.2.2.2.2.1.1), (1, .ref x1), (2, .ref x2), (4, .ref x4), (6, .ref x6), (7, .int x7), (8, .ref x8), (9, .int x9), (11, .int x11), (12, .int x12), (13, .int x13)] → W p l e room_1 s m args below meth c H locs (101 + k * 3 + 3) (5565 + k * 265 + 265) Qf (F0 m 218 ls []) := by
  intro S x1 x2 x4 x6 x7 x8 x9 x11 x12 x13 hw H locs hH ls hl
  unfold bk_L_law_218 at hw
  refine lv_iload hC.1 hC.2.1 dL_law_218 (lv_at hl 10 rfl) ?_
  refine lv_iload hC.1 hC.2.1 dL_law_220 (lv_at hl 9 rfl) ?_
  refine lv_icmp_ge (tgt := 273) hC.1 hC.2.1 dL_law_222 (by decide) (fun hc => ?_) (fun hc => ?_)
  · have hw := hw.1 hc
    refine lv_aload hC.1 hC.2.1 dL_law_273 (lv_at hl 6 rfl) ?_
    refine lv_iload hC.1 hC.2.1 dL_law_275 (lv_at hl 9 rfl) ?_
    refine lv_aload_n hC.1 hC.2.1 dL_law_277 rfl (lv_at hl 1 rfl) ?_
    refine lv_iload hC.1 hC.2.1 dL_law_278 (lv_at hl 9 rfl) ?_
    refine lv_iconst (v := 3) hC.1 hC.2.1 dL_law_280 (by decide) ?_
    obtain ⟨k2, hw⟩ := hw
    refine m_callVi (y := yX4_told) (rest := [.int _, .ref _]) hC hs hH hl.1 (cwV 2 hC.2.2.2.2 (gA_V q_327 q_328 q_329 q_2 q_330) rfl rfl rfl (by decide +kernel) ⟨Nat.le_of_ble_eq_true rfl, Nat.le_of_ble_eq_true rfl⟩) cs4 k2 (met_X4_told l hl0 g _ _ _ _ _ _ (fun _ _ h => h) hw) rfl rfl (Nat.le_of_ble_eq_true rfl) dL_law_281 ⟨lwr hk (Nat.le_of_ble_eq_true rfl), lwr hk (Nat.le_of_ble_eq_true rfl)⟩ mKx_no (fun r3 S1 H locs hw hH => ?_)
    refine W.widen (k := (101 + k * 3 + 3)) (n := (5565 + k * 265 + 265)) (lww (Nat.le_of_ble_eq_true rfl)) (lww (Nat.le_of_ble_eq_true rfl)) ?_
    obtain ⟨k4, hw⟩ := hw
    obtain ⟨i5, hw⟩ := hw
    have hw := hw _ rfl
    refine m_iast hC hs hH k4 i5 dL_law_284 (fun H locs hH => ?_)
    refine lv_iconst (v := (-1)) hC.1 hC.2.1 dL_law_285 (by decide) ?_
    have hw := hw _ rfl
    refine lv_istore (lv' := [(13, .int _), (0, .ref _), (1, .ref _), (2, .ref _), (4, .ref _), (6, .ref _), (7, .int _), (8, .ref _), (9, .int _), (11, .int _), (12, .int _)]) hC.1 hC.2.1 dL_law_286 hl (by decide) rfl (fun ls hl => ?_)
    refine lv_iconst (v := 0) hC.1 hC.2.1 dL_law_288 (by decide) ?_
    have hw := hw _ rfl
    refine lv_istore (lv' := [(14, .int _), (13, .int _), (0, .ref _), (1, .ref _), (2, .ref _), (4, .ref _), (6, .ref _), (7, .int _), (8, .ref _), (9, .int _), (11, .int _), (12, .int _)]) hC.1 hC.2.1 dL_law_289 hl (by decide) rfl (fun ls hl => ?_)
    refine W.widen (k := (101 + k * 3 + 3)) (n := (5565 + k * 265 + 265)) (lwe (Nat.le_of_ble_eq_true rfl)) (lwe (Nat.le_of_ble_eq_true rfl)) ?_
    obtain ⟨n, hw⟩ := hw
    exact lw_L_law_291 hl0 hC hs hend hk hk112 n _ _ _ _ _ _ _ _ _ _ hw _ _ hH _ (lv_sub hl [2, 3, 4, 5, 6, 7, 8, 9, 1, 0] rfl)
  · have hw := hw.2 hc
    refine lv_aload_n hC.1 hC.2.1 dL_law_225 rfl (lv_at hl 1 rfl) ?_
    refine lv_iload hC.1 hC.2.1 dL_law_226 (lv_at hl 10 rfl) ?_
    refine lv_iconst (v := 3) hC.1 hC.2.1 dL_law_228 (by decide) ?_
    obtain ⟨k10, hw⟩ := hw
    refine m_callVi (y := yX4_told) (rest := []) hC hs hH hl.1 (cwV 2 hC.2.2.2.2 (gA_V q_327 q_328 q_329 q_2 q_330) rfl rfl rfl (by decide +kernel) ⟨Nat.le_of_ble_eq_true rfl, Nat.le_of_ble_eq_true rfl⟩) cs4 k10 (met_X4_told l hl0 g _ _ _ _ _ _ (fun _ _ h => h) hw) rfl rfl (Nat.le_of_ble_eq_true rfl) dL_law_229 ⟨lwr hk (Nat.le_of_ble_eq_true rfl), lwr hk (Nat.le_of_ble_eq_true rfl)⟩ mKx_no (fun r11 S1 H locs hw hH => ?_)
    refine W.widen (k := (101 + k * 3 + 3)) (n := (5565 + k * 265 + 265)) (lww (Nat.le_of_ble_eq_true rfl)) (lww (Nat.le_of_ble_eq_true rfl)) ?_
    refine lv_istore (lv' := [(14, .int _), (0, .ref _), (1, .ref _), (2, .ref _), (4, .ref _), (6, .ref _), (7, .int _), (8, .ref _), (9, .int _), (11, .int _), (12, .int _), (13, .int _)]) hC.1 hC.2.1 dL_law_232 hl (by decide) rfl (fun ls hl => ?_)
    refine lv_aload hC.1 hC.2.1 dL_law_234 (lv_at hl 5 rfl) ?_
    refine lv_iconst (v := 4) hC.1 hC.2.1 dL_law_236 (by decide) ?_
    refine lv_iload hC.1 hC.2.1 dL_law_237 (lv_at hl 11 rfl) ?_
    refine lv_imul hC.1 hC.2.1 dL_law_239 ?_
    refine lv_iconst (v := 1) hC.1 hC.2.1 dL_law_240 (by decide) ?_
    refine lv_iadd hC.1 hC.2.1 dL_law_241 ?_
    obtain ⟨k12, hw⟩ := hw
    obtain ⟨i13, hw⟩ := hw
    refine m_iald hC hs hH k12 i13 dL_law_242 ?_
    refine lv_iload hC.1 hC.2.1 dL_law_243 (lv_at hl 9 rfl) ?_
    refine lv_icmp_gt (tgt := 260) hC.1 hC.2.1 dL_law_245 (by decide) (fun hc => ?_) (fun hc => ?_)
    · have hw := hw.1 hc
      refine W.widen (k := (101 + k * 3 + 3)) (n := (5565 + k * 265 + 265)) (lwe (Nat.le_of_ble_eq_true rfl)) (lwe (Nat.le_of_ble_eq_true rfl)) ?_
      exact bw_L_law_260 hl0 hC hs hend hk hk112 hk218 _ _ _ _ _ _ _ _ _ _ _ _ hw _ _ hH _ (lv_sub hl [1, 2, 3, 4, 5, 6, 7, 8, 9, 10, 11, 0] rfl)
    · have hw := hw.2 hc
      refine lv_iload hC.1 hC.2.1 dL_law_248 (lv_at hl 0 rfl) ?_
      refine lv_aload hC.1 hC.2.1 dL_law_250 (lv_at hl 7 rfl) ?_
      refine lv_iload hC.1 hC.2.1 dL_law_252 (lv_at hl 11 rfl) ?_
      obtain ⟨k14, hw⟩ := hw
      obtain ⟨i15, hw⟩ := hw
      refine m_iald hC hs hH k14 i15 dL_law_254 ?_
      refine lv_icmp_eq (tgt := 260) hC.1 hC.2.1 dL_law_255 (by decide) (fun hc => ?_) (fun hc => ?_)
      · have hw := hw.1 hc
        refine W.widen (k := (101 + k * 3 + 3)) (n := (5565 + k * 265 + 265)) (lwe (Nat.le_of_ble_eq_true rfl)) (lwe (Nat.le_of_ble_eq_true rfl)) ?_
        exact bw_L_law_260 hl0 hC hs hend hk hk112 hk218 _ _ _ _ _ _ _ _ _ _ _ _ hw _ _ hH _ (lv_sub hl [1, 2, 3, 4, 5, 6, 7, 8, 9, 10, 11, 0] rfl)
      · have hw := hw.2 hc
        refine lv_iconst (v := 0) hC.1 hC.2.1 dL_law_258 (by decide) ?_
        exact False.elim hw
theorem lw_L_law_218 {p : Program} {l : Launch} {e : Env} {s : State} {m : MethodId} {args : Array Value} {below : List Frame} {meth : Method} {c : Code} {g : mG} {Qf : State → Prop} (hl0 : l.stackTraces = false) (hC : CallFix p m c cL_law 16 s args (Cond.tt :: wsL_law) RL) (hs : mX g s) (hend : ∀ (H : Heap) (locs : List Loc) (ls : Array Slot), (∀ q ∈ locs, mB g q.base) → W p l e room_1 s m args below meth c H locs 600086 7301442 Qf (F0 m 656 ls [.int 1])) {k : Nat} (hk : k ≤ 4) {K112 : mmS → Nat → Nat → Nat → Nat → Int32 → Nat → Int32 → Prop} (hk112 : ∀ (S : mmS) (x1 : Nat) (x2 : Nat) (x4 : Nat) (x6 : Nat) (x7 : Int32) (x8 : Nat) (x9 : Int32), K112 S x1 x2 x4 x6 x7 x8 x9 → ∀ (H : Heap) (locs : List Loc), mH g S s H locs → ∀ ls : Array Slot, lv_has ls 16 [(0, .ref g.2.2.2.2.1.1), (1, .ref x1), (2, .ref x2), (4, .ref x4), (6, .ref x6), (7, .int x7), (8, .ref x8), (9, .int x9)] → W p l e room_1 s m args below meth c H locs (101 + (k + 1) * 3 + 0) (5565 + (k + 1) * 265 + 0) Qf (F0 m 112 ls [])) : ∀ (n : Nat) (S : mmS) (x1 : Nat) (x2 : Nat) (x4 : Nat) (x6 : Nat) (x7 : Int32) (x8 : Nat) (x9 : Int32) (x11 : Int32) (x12 : Int32) (x13 : Int32), lp_L_law_218 g.2.2.2.2.2 g.2.2.2.2.1.2.1 g.2.2.2.2.1.2.2 K112 n S x1 x2 x4 x6 x7 x8 x9 x11 x12 x13 → ∀ (H : Heap) (locs : List Loc), mH g S s H locs → ∀ ls : Array Slot, lv_has ls 16 [(0, .ref g.2.2.2.2.1.1), (1, .ref x1), (2, .ref x2), (4, .ref x4), (6, .ref x6), (7, .int x7), (8, .ref x8), (9, .int x9), (11, .int x11), (12, .int x12), (13, .int x13)] → W p l e room_1 s m args below meth c H locs (101 + k * 3 + 3) (5565 + k * 265 + 265) Qf (F0 m 218 ls []) := by
  intro n
  induction n with
  | zero => intro S x1 x2 x4 x6 x7 x8 x9 x11 x12 x13 hw; exact False.elim hw
  | succ n ih => exact fun S x1 x2 x4 x6 x7 x8 x9 x11 x12 x13 hw => bw_L_law_218 hl0 hC hs hend hk (K112 := K112) (K218 := lp_L_law_218 g.2.2.2.2.2 g.2.2.2.2.1.2.1 g.2.2.2.2.1.2.2 K112 n) hk112 ih S x1 x2 x4 x6 x7 x8 x9 x11 x12 x13 hw
set_option maxHeartbeats 4000000 in
set_option maxRecDepth 100000 in
theorem bw_L_law_112 {p : Program} {l : Launch} {e : Env} {s : State} {m : MethodId} {args : Array Value} {below : List Frame} {meth : Method} {c : Code} {g : mG} {Qf : State → Prop} (hl0 : l.stackTraces = false) (hC : CallFix p m c cL_law 16 s args (Cond.tt :: wsL_law) RL) (hs : mX g s) (hend : ∀ (H : Heap) (locs : List Loc) (ls : Array Slot), (∀ q ∈ locs, mB g q.base) → W p l e room_1 s m args below meth c H locs 600086 7301442 Qf (F0 m 656 ls [.int 1])) {k : Nat} (hk : k ≤ 4) {K112 : mmS → Nat → Nat → Nat → Nat → Int32 → Nat → Int32 → Prop} (hk112 : ∀ (S : mmS) (x1 : Nat) (x2 : Nat) (x4 : Nat) (x6 : Nat) (x7 : Int32) (x8 : Nat) (x9 : Int32), K112 S x1 x2 x4 x6 x7 x8 x9 → ∀ (H : Heap) (locs : List Loc), mH g S s H locs → ∀ ls : Array Slot, lv_has ls 16 [(0, .ref g.2.2.2.2.1.1), (1, .ref x1), (2, .ref x2), (4, .ref x4), (6, .ref x6), (7, .int x7), (8, .ref x8), (9, .int x9)] → W p l e room_1 s m args below meth c H locs (101 + (k + 1) * 3 + 0) (5565 + (k + 1) * 265 + 0) Qf (F0 m 112 ls [])) : ∀ (S : mmS) (x1 : Nat) (x2 : Nat) (x4 : Nat) (x6 : Nat) (x7 : Int32) (x8 : Nat) (x9 : Int32), bk_L_law_112 g.2.2.2.2.2 g.2.2.2.2.1.2.1 g.2.2.2.2.1.2.2 K112 S x1 x2 x4 x6 x7 x8 x9 → ∀ (H : Heap) (locs : List Loc), mH g S s H locs → ∀ ls : Array Slot, lv_has ls 16 [(0, .ref g.2.2.2.2.1.1), (1, .ref x1), (2, .ref x2), (4, .ref x4), (6, .ref x6), (7, .int x7), (8, .ref x8), (9, .int x9)] → W p l e room_1 s m args below meth c H locs (101 + k * 3 + 0) (5565 + k * 265 + 0) Qf (F0 m 112 ls []) := by
  intro S x1 x2 x4 x6 x7 x8 x9 hw H locs hH ls hl
  unfold bk_L_law_112 at hw
  refine lv_iload hC.1 hC.2.1 dL_law_112 (lv_at hl 7 rfl) ?_
  refine lv_iconst (v := 4) hC.1 hC.2.1 dL_law_114 (by decide) ?_
  refine lv_icmp_ge (tgt := 378) hC.1 hC.2.1 dL_law_115 (by decide) (fun hc => ?_) (fun hc => ?_)
  · have hw := hw.1 hc
    refine W.widen (k := 113) (n := 6625) (lwq hk (Nat.le_of_ble_eq_true rfl)) (lwq hk (Nat.le_of_ble_eq_true rfl)) ?_
    exact bw_L_law_378 hl0 hC hs hend _ _ _ _ _ _ hw _ _ hH _ (lv_sub hl [1, 2, 3, 5, 6] rfl)
  · have hw := hw.2 hc
    refine lv_aload_n hC.1 hC.2.1 dL_law_118 rfl (lv_at hl 0 rfl) ?_
    refine lv_bipush (v := 15) hC.1 hC.2.1 dL_law_119 (by decide) ?_
    refine lv_iload hC.1 hC.2.1 dL_law_121 (lv_at hl 7 rfl) ?_
    refine lv_iadd hC.1 hC.2.1 dL_law_123 ?_
    refine m_callSi (y := yL_cell) (rest := []) hC hs hH hl.1 (va_cwS 2 hC.2.2.2.2 (gA_S q_43 q_44 q_41 q_45) rfl rfl rfl (by decide +kernel) ⟨Nat.le_of_ble_eq_true rfl, Nat.le_of_ble_eq_true rfl⟩) (met_L_cell l hl0 g _ _ _ _ (fun _ _ h => h) hw) rfl rfl (Nat.le_of_ble_eq_true rfl) dL_law_124 ⟨lwr hk (Nat.le_of_ble_eq_true rfl), lwr hk (Nat.le_of_ble_eq_true rfl)⟩ mKx_no (fun r2 S1 H locs hw hH => ?_)
    refine W.widen (k := (101 + k * 3 + 0)) (n := (5565 + k * 265 + 0)) (lww (Nat.le_of_ble_eq_true rfl)) (lww (Nat.le_of_ble_eq_true rfl)) ?_
    refine lv_istore (lv' := [(10, .int _), (0, .ref _), (1, .ref _), (2, .ref _), (4, .ref _), (6, .ref _), (7, .int _), (8, .ref _), (9, .int _)]) hC.1 hC.2.1 dL_law_127 hl (by decide) rfl (fun ls hl => ?_)
    refine lv_sipush (v := 1440) hC.1 hC.2.1 dL_law_129 (by decide) ?_
    refine lv_iload hC.1 hC.2.1 dL_law_132 (lv_at hl 0 rfl) ?_
    refine lv_iconst (v := 3) hC.1 hC.2.1 dL_law_134 (by decide) ?_
    refine m_callSi (y := yL_below) (rest := [.int _]) hC hs hH hl.1 (va_cwS 2 hC.2.2.2.2 (gA_S q_47 q_48 q_41 q_49) rfl rfl rfl (by decide +kernel) ⟨Nat.le_of_ble_eq_true rfl, Nat.le_of_ble_eq_true rfl⟩) (met_L_below l hl0 g _ _ _ _ _ (fun _ _ h => h) hw) rfl rfl (Nat.le_of_ble_eq_true rfl) dL_law_135 ⟨lwr hk (Nat.le_of_ble_eq_true rfl), lwr hk (Nat.le_of_ble_eq_true rfl)⟩ mKx_no (fun r4 S1 H locs hw hH => ?_)
    refine W.widen (k := (101 + k * 3 + 0)) (n := (5565 + k * 265 + 0)) (lww (Nat.le_of_ble_eq_true rfl)) (lww (Nat.le_of_ble_eq_true rfl)) ?_
    refine lv_imul hC.1 hC.2.1 dL_law_138 ?_
    refine lv_iload hC.1 hC.2.1 dL_law_139 (lv_at hl 0 rfl) ?_
    refine lv_iconst (v := 4) hC.1 hC.2.1 dL_law_141 (by decide) ?_
    refine lv_ishr hC.1 hC.2.1 dL_law_142 ?_
    refine lv_sipush (v := 1440) hC.1 hC.2.1 dL_law_143 (by decide) ?_
    refine m_callSi (y := yL_below) (rest := [.int _]) hC hs hH hl.1 (va_cwS 2 hC.2.2.2.2 (gA_S q_47 q_48 q_41 q_49) rfl rfl rfl (by decide +kernel) ⟨Nat.le_of_ble_eq_true rfl, Nat.le_of_ble_eq_true rfl⟩) (met_L_below l hl0 g _ _ _ _ _ (fun _ _ h => h) hw) rfl rfl (Nat.le_of_ble_eq_true rfl) dL_law_146 ⟨lwr hk (Nat.le_of_ble_eq_true rfl), lwr hk (Nat.le_of_ble_eq_true rfl)⟩ mKx_no (fun r6 S1 H locs hw hH => ?_)
    refine W.widen (k := (101 + k * 3 + 0)) (n := (5565 + k * 265 + 0)) (lww (Nat.le_of_ble_eq_true rfl)) (lww (Nat.le_of_ble_eq_true rfl)) ?_
    refine lv_iadd hC.1 hC.2.1 dL_law_149 ?_
    have hw := hw _ rfl
    refine lv_istore (lv' := [(11, .int _), (10, .int _), (0, .ref _), (1, .ref _), (2, .ref _), (4, .ref _), (6, .ref _), (7, .int _), (8, .ref _), (9, .int _)]) hC.1 hC.2.1 dL_law_150 hl (by decide) rfl (fun ls hl => ?_)
    refine lv_aload_n hC.1 hC.2.1 dL_law_152 rfl (lv_at hl 3 rfl) ?_
    refine lv_iload hC.1 hC.2.1 dL_law_153 (lv_at hl 1 rfl) ?_
    refine lv_iconst (v := 2) hC.1 hC.2.1 dL_law_155 (by decide) ?_
    refine lv_ishr hC.1 hC.2.1 dL_law_156 ?_
    refine lv_aload_n hC.1 hC.2.1 dL_law_157 rfl (lv_at hl 4 rfl) ?_
    refine lv_iconst (v := 2) hC.1 hC.2.1 dL_law_158 (by decide) ?_
    obtain ⟨k8, hw⟩ := hw
    obtain ⟨i9, hw⟩ := hw
    refine m_iald hC hs hH k8 i9 dL_law_159 ?_
    refine m_callSi (y := yL_below) (rest := [.ref _]) hC hs hH hl.1 (va_cwS 2 hC.2.2.2.2 (gA_S q_47 q_48 q_41 q_49) rfl rfl rfl (by decide +kernel) ⟨Nat.le_of_ble_eq_true rfl, Nat.le_of_ble_eq_true rfl⟩) (met_L_below l hl0 g _ _ _ _ _ (fun _ _ h => h) hw) rfl rfl (Nat.le_of_ble_eq_true rfl) dL_law_160 ⟨lwr hk (Nat.le_of_ble_eq_true rfl), lwr hk (Nat.le_of_ble_eq_true rfl)⟩ mKx_no (fun r11 S1 H locs hw hH => ?_)
    refine W.widen (k := (101 + k * 3 + 0)) (n := (5565 + k * 265 + 0)) (lww (Nat.le_of_ble_eq_true rfl)) (lww (Nat.le_of_ble_eq_true rfl)) ?_
    refine lv_iload hC.1 hC.2.1 dL_law_163 (lv_at hl 0 rfl) ?_
    refine lv_iconst (v := 1) hC.1 hC.2.1 dL_law_165 (by decide) ?_
    refine lv_iload hC.1 hC.2.1 dL_law_166 (lv_at hl 1 rfl) ?_
    refine lv_bipush (v := 6) hC.1 hC.2.1 dL_law_168 (by decide) ?_
    refine lv_ishr hC.1 hC.2.1 dL_law_170 ?_
    refine lv_sipush (v := 1500) hC.1 hC.2.1 dL_law_171 (by decide) ?_
    refine m_callSi (y := yL_below) (rest := [.int _, .int _, .int _, .ref _]) hC hs hH hl.1 (va_cwS 2 hC.2.2.2.2 (gA_S q_47 q_48 q_41 q_49) rfl rfl rfl (by decide +kernel) ⟨Nat.le_of_ble_eq_true rfl, Nat.le_of_ble_eq_true rfl⟩) (met_L_below l hl0 g _ _ _ _ _ (fun _ _ h => h) hw) rfl rfl (Nat.le_of_ble_eq_true rfl) dL_law_174 ⟨lwr hk (Nat.le_of_ble_eq_true rfl), lwr hk (Nat.le_of_ble_eq_true rfl)⟩ mKx_no (fun r13 S1 H locs hw hH => ?_)
    refine W.widen (k := (101 + k * 3 + 0)) (n := (5565 + k * 265 + 0)) (lww (Nat.le_of_ble_eq_true rfl)) (lww (Nat.le_of_ble_eq_true rfl)) ?_
    refine lv_iadd hC.1 hC.2.1 dL_law_177 ?_
    refine lv_iload hC.1 hC.2.1 dL_law_178 (lv_at hl 1 rfl) ?_
    refine lv_bipush (v := 8) hC.1 hC.2.1 dL_law_180 (by decide) ?_
    refine lv_ishr hC.1 hC.2.1 dL_law_182 ?_
    refine lv_iconst (v := 3) hC.1 hC.2.1 dL_law_183 (by decide) ?_
    refine m_callSi (y := yL_below) (rest := [.int _, .int _, .int _, .ref _]) hC hs hH hl.1 (va_cwS 2 hC.2.2.2.2 (gA_S q_47 q_48 q_41 q_49) rfl rfl rfl (by decide +kernel) ⟨Nat.le_of_ble_eq_true rfl, Nat.le_of_ble_eq_true rfl⟩) (met_L_below l hl0 g _ _ _ _ _ (fun _ _ h => h) hw) rfl rfl (Nat.le_of_ble_eq_true rfl) dL_law_184 ⟨lwr hk (Nat.le_of_ble_eq_true rfl), lwr hk (Nat.le_of_ble_eq_true rfl)⟩ mKx_no (fun r15 S1 H locs hw hH => ?_)
    refine W.widen (k := (101 + k * 3 + 0)) (n := (5565 + k * 265 + 0)) (lww (Nat.le_of_ble_eq_true rfl)) (lww (Nat.le_of_ble_eq_true rfl)) ?_
    obtain ⟨k17, hw⟩ := hw
    refine m_callVi (y := yX4_addCall) (rest := []) hC hs hH hl.1 (cwV 4 hC.2.2.2.2 (gA_V q_291 q_292 q_293 q_2 q_294) rfl rfl rfl (by decide +kernel) ⟨Nat.le_of_ble_eq_true rfl, Nat.le_of_ble_eq_true rfl⟩) cs4 k17 (met_X4_addCall l hl0 g _ _ _ _ _ _ _ _ (fun _ _ h => h) hw) rfl rfl (Nat.le_of_ble_eq_true rfl) dL_law_187 ⟨lwr hk (Nat.le_of_ble_eq_true rfl), lwr hk (Nat.le_of_ble_eq_true rfl)⟩ mKx_no (fun r18 S1 H locs hw hH => ?_)
    refine W.widen (k := (101 + k * 3 + 3)) (n := (5565 + k * 265 + 265)) (lww (Nat.le_of_ble_eq_true rfl)) (lww (Nat.le_of_ble_eq_true rfl)) ?_
    refine lv_istore (lv' := [(12, .int _), (11, .int _), (10, .int _), (0, .ref _), (1, .ref _), (2, .ref _), (4, .ref _), (6, .ref _), (7, .int _), (8, .ref _), (9, .int _)]) hC.1 hC.2.1 dL_law_190 hl (by decide) rfl (fun ls hl => ?_)
    refine lv_iload hC.1 hC.2.1 dL_law_192 (lv_at hl 0 rfl) ?_
    refine lv_iload hC.1 hC.2.1 dL_law_194 (lv_at hl 8 rfl) ?_
    refine lv_icmp_eq (tgt := 201) hC.1 hC.2.1 dL_law_196 (by decide) (fun hc => ?_) (fun hc => ?_)
    · have hw := hw.1 hc
      refine lv_aload hC.1 hC.2.1 dL_law_201 (lv_at hl 7 rfl) ?_
      refine lv_iconst (v := 4) hC.1 hC.2.1 dL_law_203 (by decide) ?_
      refine lv_iload hC.1 hC.2.1 dL_law_204 (lv_at hl 0 rfl) ?_
      refine lv_imul hC.1 hC.2.1 dL_law_206 ?_
      refine lv_iconst (v := 1) hC.1 hC.2.1 dL_law_207 (by decide) ?_
      refine lv_iadd hC.1 hC.2.1 dL_law_208 ?_
      refine lv_iload hC.1 hC.2.1 dL_law_209 (lv_at hl 1 rfl) ?_
      obtain ⟨k19, hw⟩ := hw
      obtain ⟨i20, hw⟩ := hw
      have hw := hw _ rfl
      refine m_iast hC hs hH k19 i20 dL_law_211 (fun H locs hH => ?_)
      have hw := hw _ rfl
      refine lv_iinc (lv' := [(7, .int _), (12, .int _), (11, .int _), (10, .int _), (0, .ref _), (1, .ref _), (2, .ref _), (4, .ref _), (6, .ref _), (8, .ref _), (9, .int _)]) hC.1 hC.2.1 dL_law_212 hl (k := 8) rfl (rfl : (_ : Int32) + Int32.ofInt 1 = (_ : Int32) + 1) (by decide) rfl (fun ls hl => ?_)
      refine lv_iconst (v := 0) hC.1 hC.2.1 dL_law_215 (by decide) ?_
      have hw := hw _ rfl
      refine lv_istore (lv' := [(13, .int _), (7, .int _), (12, .int _), (11, .int _), (10, .int _), (0, .ref _), (1, .ref _), (2, .ref _), (4, .ref _), (6, .ref _), (8, .ref _), (9, .int _)]) hC.1 hC.2.1 dL_law_216 hl (by decide) rfl (fun ls hl => ?_)
      refine W.widen (k := (101 + k * 3 + 3)) (n := (5565 + k * 265 + 265)) (lwe (Nat.le_of_ble_eq_true rfl)) (lwe (Nat.le_of_ble_eq_true rfl)) ?_
      obtain ⟨n, hw⟩ := hw
      exact lw_L_law_218 hl0 hC hs hend hk hk112 n _ _ _ _ _ _ _ _ _ _ _ hw _ _ hH _ (lv_sub hl [5, 6, 7, 8, 9, 1, 10, 11, 3, 2, 0] rfl)
    · have hw := hw.2 hc
      refine lv_iconst (v := 0) hC.1 hC.2.1 dL_law_199 (by decide) ?_
      exact False.elim hw
theorem lw_L_law_112 {p : Program} {l : Launch} {e : Env} {s : State} {m : MethodId} {args : Array Value} {below : List Frame} {meth : Method} {c : Code} {g : mG} {Qf : State → Prop} (hl0 : l.stackTraces = false) (hC : CallFix p m c cL_law 16 s args (Cond.tt :: wsL_law) RL) (hs : mX g s) (hend : ∀ (H : Heap) (locs : List Loc) (ls : Array Slot), (∀ q ∈ locs, mB g q.base) → W p l e room_1 s m args below meth c H locs 600086 7301442 Qf (F0 m 656 ls [.int 1])) : ∀ (n k : Nat), k + n = 5 → ∀ (S : mmS) (x1 : Nat) (x2 : Nat) (x4 : Nat) (x6 : Nat) (x7 : Int32) (x8 : Nat) (x9 : Int32), lp_L_law_112 g.2.2.2.2.2 g.2.2.2.2.1.2.1 g.2.2.2.2.1.2.2 n S x1 x2 x4 x6 x7 x8 x9 → ∀ (H : Heap) (locs : List Loc), mH g S s H locs → ∀ ls : Array Slot, lv_has ls 16 [(0, .ref g.2.2.2.2.1.1), (1, .ref x1), (2, .ref x2), (4, .ref x4), (6, .ref x6), (7, .int x7), (8, .ref x8), (9, .int x9)] → W p l e room_1 s m args below meth c H locs (101 + k * 3 + 0) (5565 + k * 265 + 0) Qf (F0 m 112 ls []) := by
  intro n
  induction n with
  | zero => intro k hk S x1 x2 x4 x6 x7 x8 x9 hw; exact False.elim hw
  | succ n ih => exact fun k hk S x1 x2 x4 x6 x7 x8 x9 hw => bw_L_law_112 hl0 hC hs hend (k := k) (by omega) (K112 := lp_L_law_112 g.2.2.2.2.2 g.2.2.2.2.1.2.1 g.2.2.2.2.1.2.2 n) (ih (k + 1) (by omega)) S x1 x2 x4 x6 x7 x8 x9 hw
set_option maxHeartbeats 4000000 in
set_option maxRecDepth 100000 in
theorem bw_L_law_84 {p : Program} {l : Launch} {e : Env} {s : State} {m : MethodId} {args : Array Value} {below : List Frame} {meth : Method} {c : Code} {g : mG} {Qf : State → Prop} (hl0 : l.stackTraces = false) (hC : CallFix p m c cL_law 16 s args (Cond.tt :: wsL_law) RL) (hs : mX g s) (hend : ∀ (H : Heap) (locs : List Loc) (ls : Array Slot), (∀ q ∈ locs, mB g q.base) → W p l e room_1 s m args below meth c H locs 600086 7301442 Qf (F0 m 656 ls [.int 1])) {K84 : mmS → Nat → Nat → Nat → Nat → Int32 → Nat → Int32 → Prop} (hk84 : ∀ (S : mmS) (x1 : Nat) (x2 : Nat) (x4 : Nat) (x6 : Nat) (x7 : Int32) (x8 : Nat) (x9 : Int32), K84 S x1 x2 x4 x6 x7 x8 x9 → ∀ (H : Heap) (locs : List Loc), mH g S s H locs → ∀ ls : Array Slot, lv_has ls 16 [(0, .ref g.2.2.2.2.1.1), (1, .ref x1), (2, .ref x2), (4, .ref x4), (6, .ref x6), (7, .int x7), (8, .ref x8), (9, .int x9)] → W p l e room_1 s m args below meth c H locs 101 5565 Qf (F0 m 84 ls [])) : ∀ (S : mmS) (x1 : Nat) (x2 : Nat) (x4 : Nat) (x6 : Nat) (x7 : Int32) (x8 : Nat) (x9 : Int32), bk_L_law_84 g.2.2.2.2.2 g.2.2.2.2.1.2.1 g.2.2.2.2.1.2.2 K84 S x1 x2 x4 x6 x7 x8 x9 → ∀ (H : Heap) (locs : List Loc), mH g S s H locs → ∀ ls : Array Slot, lv_has ls 16 [(0, .ref g.2.2.2.2.1.1), (1, .ref x1), (2, .ref x2), (4, .ref x4), (6, .ref x6), (7, .int x7), (8, .ref x8), (9, .int x9)] → W p l e room_1 s m args below meth c H locs 101 5565 Qf (F0 m 84 ls []) := by
  intro S x1 x2 x4 x6 x7 x8 x9 hw H locs hH ls hl
  unfold bk_L_law_84 at hw
  refine lv_iload hC.1 hC.2.1 dL_law_84 (lv_at hl 7 rfl) ?_
  refine lv_iload hC.1 hC.2.1 dL_law_86 (lv_at hl 5 rfl) ?_
  refine lv_icmp_ge (tgt := 109) hC.1 hC.2.1 dL_law_88 (by decide) (fun hc => ?_) (fun hc => ?_)
  · have hw := hw.1 hc
    refine lv_iconst (v := 0) hC.1 hC.2.1 dL_law_109 (by decide) ?_
    have hw := hw _ rfl
    refine lv_istore (lv' := [(9, .int _), (0, .ref _), (1, .ref _), (2, .ref _), (4, .ref _), (6, .ref _), (7, .int _), (8, .ref _)]) hC.1 hC.2.1 dL_law_110 hl (by decide) rfl (fun ls hl => ?_)
    refine W.widen (k := 101 + 0 * 3 + 0) (n := 5565 + 0 * 265 + 0) (Nat.le_of_ble_eq_true rfl) (Nat.le_of_ble_eq_true rfl) ?_
    exact lw_L_law_112 hl0 hC hs hend 5 0 rfl _ _ _ _ _ _ _ _ hw _ _ hH _ (lv_sub hl [1, 2, 3, 4, 5, 6, 7, 0] rfl)
  · have hw := hw.2 hc
    refine lv_aload hC.1 hC.2.1 dL_law_91 (lv_at hl 6 rfl) ?_
    refine lv_iload hC.1 hC.2.1 dL_law_93 (lv_at hl 7 rfl) ?_
    refine lv_aload_n hC.1 hC.2.1 dL_law_95 rfl (lv_at hl 1 rfl) ?_
    refine lv_iload hC.1 hC.2.1 dL_law_96 (lv_at hl 7 rfl) ?_
    refine lv_iconst (v := 3) hC.1 hC.2.1 dL_law_98 (by decide) ?_
    obtain ⟨k3, hw⟩ := hw
    refine m_callVi (y := yX4_told) (rest := [.int _, .ref _]) hC hs hH hl.1 (cwV 2 hC.2.2.2.2 (gA_V q_327 q_328 q_329 q_2 q_330) rfl rfl rfl (by decide +kernel) ⟨Nat.le_of_ble_eq_true rfl, Nat.le_of_ble_eq_true rfl⟩) cs4 k3 (met_X4_told l hl0 g _ _ _ _ _ _ (fun _ _ h => h) hw) rfl rfl (Nat.le_of_ble_eq_true rfl) dL_law_99 ⟨Nat.le_of_ble_eq_true rfl, Nat.le_of_ble_eq_true rfl⟩ mKx_no (fun r4 S1 H locs hw hH => ?_)
    refine W.widen (k := 101) (n := 5565) (Nat.le_of_ble_eq_true rfl) (Nat.le_of_ble_eq_true rfl) ?_
    obtain ⟨k5, hw⟩ := hw
    obtain ⟨i6, hw⟩ := hw
    have hw := hw _ rfl
    refine m_iast hC hs hH k5 i6 dL_law_102 (fun H locs hH => ?_)
    have hw := hw _ rfl
    refine lv_iinc (lv' := [(9, .int _), (0, .ref _), (1, .ref _), (2, .ref _), (4, .ref _), (6, .ref _), (7, .int _), (8, .ref _)]) hC.1 hC.2.1 dL_law_103 hl (k := 7) rfl (rfl : (_ : Int32) + Int32.ofInt 1 = (_ : Int32) + 1) (by decide) rfl (fun ls hl => ?_)
    refine lv_goto (tgt := 84) hC.1 hC.2.1 dL_law_106 (by decide) ?_
    refine W.widen (k := 101) (n := 5565) (Nat.le_of_ble_eq_true rfl) (Nat.le_of_ble_eq_true rfl) ?_
    exact hk84 _ _ _ _ _ _ _ _ hw _ _ hH _ (lv_sub hl [1, 2, 3, 4, 5, 6, 7, 0] rfl)
theorem lw_L_law_84 {p : Program} {l : Launch} {e : Env} {s : State} {m : MethodId} {args : Array Value} {below : List Frame} {meth : Method} {c : Code} {g : mG} {Qf : State → Prop} (hl0 : l.stackTraces = false) (hC : CallFix p m c cL_law 16 s args (Cond.tt :: wsL_law) RL) (hs : mX g s) (hend : ∀ (H : Heap) (locs : List Loc) (ls : Array Slot), (∀ q ∈ locs, mB g q.base) → W p l e room_1 s m args below meth c H locs 600086 7301442 Qf (F0 m 656 ls [.int 1])) : ∀ (n : Nat) (S : mmS) (x1 : Nat) (x2 : Nat) (x4 : Nat) (x6 : Nat) (x7 : Int32) (x8 : Nat) (x9 : Int32), lp_L_law_84 g.2.2.2.2.2 g.2.2.2.2.1.2.1 g.2.2.2.2.1.2.2 n S x1 x2 x4 x6 x7 x8 x9 → ∀ (H : Heap) (locs : List Loc), mH g S s H locs → ∀ ls : Array Slot, lv_has ls 16 [(0, .ref g.2.2.2.2.1.1), (1, .ref x1), (2, .ref x2), (4, .ref x4), (6, .ref x6), (7, .int x7), (8, .ref x8), (9, .int x9)] → W p l e room_1 s m args below meth c H locs 101 5565 Qf (F0 m 84 ls []) := by
  intro n
  induction n with
  | zero => intro S x1 x2 x4 x6 x7 x8 x9 hw; exact False.elim hw
  | succ n ih => exact fun S x1 x2 x4 x6 x7 x8 x9 hw => bw_L_law_84 hl0 hC hs hend (K84 := lp_L_law_84 g.2.2.2.2.2 g.2.2.2.2.1.2.1 g.2.2.2.2.1.2.2 n) ih S x1 x2 x4 x6 x7 x8 x9 hw
def wp_L_law (z : Nat × Nat) (L : Nat) (xs : Nat → Int32) (S : mmS) : Prop := ∀ q1 : Nat, q1 ∉ mL S → ∀ S3 : mmS, S3 = sNo S q1 4 → wp_X4_init z S3 q1 (fun S4 => ∀ q5 : Nat, q5 ∉ mL S4 → ∀ S7 : mmS, S7 = sNa S4 q5 3 → ∀ q8 : Nat, q8 ∉ mL S7 → ∀ S10 : mmS, S10 = sNa S7 q8 27 → ∀ q11 : Nat, q11 ∉ mL S10 → ∀ S13 : mmS, S13 = sNa S10 q11 6 → ∀ q14 : Nat, q14 ∉ mL S13 → ∀ S16 : mmS, S16 = sNa S13 q14 8 → ∀ q17 : Nat, q17 ∉ mL S16 → ∀ S19 : mmS, S19 = sNa S16 q17 80 → wp_L_build z L xs S19 q1 (0 : Int32) q5 q8 q11 q14 (fun r21 S20 => (¬ r21 = 0 → (q5 ∈ mL S20 ∧ mK S20 q5 = 7) ∧ vp_in (2 : Int32) (mN S20 q5) ∧ wp_L_call z L xs S20 q1 (7 : Int32) (14 : Int32) (mA S20 q5 ((2 : Int32)).toNatClampNeg) q17 (fun r25 S24 => (0 ≤ r25 → ∀ q26 : Nat, q26 ∉ mL S24 → ∀ S28 : mmS, S28 = sNa S24 q26 20 → ∀ v29 : Int32, v29 = (0 : Int32) → ∃ n : Nat, lp_L_law_84 z L xs n S28 q1 q5 q11 q17 r25 q26 v29) ∧ (¬ 0 ≤ r25 → False)) (fun _ _ => False)) ∧ (r21 = 0 → False)) (fun _ _ => False)) (fun _ _ => False)
set_option maxHeartbeats 4000000 in
set_option maxRecDepth 100000 in
theorem law_walk {p : Program} {l : Launch} {e : Env} {s : State} {m : MethodId} {args : Array Value} {below : List Frame} {meth : Method} {c : Code} {g : mG} {Qf : State → Prop} (hl0 : l.stackTraces = false) (hC : CallFix p m c cL_law 16 s args (Cond.tt :: wsL_law) RL) (hs : mX g s) (hend : ∀ (H : Heap) (locs : List Loc) (ls : Array Slot), (∀ q ∈ locs, mB g q.base) → W p l e room_1 s m args below meth c H locs 600086 7301442 Qf (F0 m 656 ls [.int 1])) (S : mmS) (hw : wp_L_law g.2.2.2.2.2 g.2.2.2.2.1.2.1 g.2.2.2.2.1.2.2 S) (hH : mH g S s s.heap []) (ls : Array Slot) (hl : lv_has ls 16 [(0, .ref g.2.2.2.2.1.1)]) : W p l e room_1 s m args below meth c s.heap [] 0 0 Qf (F0 m 0 ls []) := by
  unfold wp_L_law at hw
  refine m_newO hC hs hH cs4 (fun _ h => List.mem_cons_of_mem _ (inlX4 _ h)) (List.mem_cons_of_mem _ q_0) (List.mem_cons_of_mem _ q_1) (List.mem_cons_of_mem _ q_2) df4 (Nat.le_of_ble_eq_true rfl) (Nat.le_of_ble_eq_true rfl) dL_law_0 (fun q1 H f2 hH => ?_)
  have hw := hw q1 f2 _ rfl
  refine W.widen (k := 1) (n := 7) (Nat.le_of_ble_eq_true rfl) (Nat.le_of_ble_eq_true rfl) ?_
  refine lv_dup hC.1 hC.2.1 dL_law_3 rfl ?_
  refine m_callIv (y := yX4_init) (rest := [.ref _]) hC hs hH hl.1 (cwI 0 hC.2.2.2.2 (gA0 q_10) rfl rfl rfl (hC.2.2.2.2 _ (List.mem_cons_of_mem _ q_2)) (hC.2.2.2.2 _ (List.mem_cons_of_mem _ q_8)) (hC.2.2.2.2 _ (List.mem_cons_of_mem _ q_9)) rfl (by decide +kernel) ⟨Nat.le_of_ble_eq_true rfl, Nat.le_of_ble_eq_true rfl⟩) (met_X4_init l hl0 g _ _ _ _ (fun _ _ h => h) hw) rfl rfl (Nat.le_of_ble_eq_true rfl) dL_law_4 ⟨Nat.le_of_ble_eq_true rfl, Nat.le_of_ble_eq_true rfl⟩ mKx_no (fun S1 H locs hw hH => ?_)
  refine W.widen (k := 6) (n := 22) (Nat.le_of_ble_eq_true rfl) (Nat.le_of_ble_eq_true rfl) ?_
  refine lv_astore_n (lv' := [(1, .ref _), (0, .ref _)]) hC.1 hC.2.1 dL_law_7 rfl hl (by decide) rfl (fun ls hl => ?_)
  refine lv_iconst (v := 3) hC.1 hC.2.1 dL_law_8 (by decide) ?_
  refine m_newI (N' := 3) hC hs hH (List.mem_cons_of_mem _ q_3) (by decide) (by decide) (by decide) (Nat.le_of_ble_eq_true rfl) (Nat.le_of_ble_eq_true rfl) dL_law_9 (fun q5 H f6 hH => ?_)
  have hw := hw q5 f6 _ rfl
  refine W.widen (k := 7) (n := 25) (Nat.le_of_ble_eq_true rfl) (Nat.le_of_ble_eq_true rfl) ?_
  refine lv_astore_n (lv' := [(2, .ref _), (1, .ref _), (0, .ref _)]) hC.1 hC.2.1 dL_law_11 rfl hl (by decide) rfl (fun ls hl => ?_)
  refine lv_bipush (v := 27) hC.1 hC.2.1 dL_law_12 (by decide) ?_
  refine m_newI (N' := 27) hC hs hH (List.mem_cons_of_mem _ q_3) (by decide) (by decide) (by decide) (Nat.le_of_ble_eq_true rfl) (Nat.le_of_ble_eq_true rfl) dL_law_14 (fun q8 H f9 hH => ?_)
  have hw := hw q8 f9 _ rfl
  refine W.widen (k := 8) (n := 52) (Nat.le_of_ble_eq_true rfl) (Nat.le_of_ble_eq_true rfl) ?_
  refine lv_astore_n (lv' := [(3, .ref _), (2, .ref _), (1, .ref _), (0, .ref _)]) hC.1 hC.2.1 dL_law_16 rfl hl (by decide) rfl (fun ls hl => ?_)
  refine lv_bipush (v := 6) hC.1 hC.2.1 dL_law_17 (by decide) ?_
  refine m_newI (N' := 6) hC hs hH (List.mem_cons_of_mem _ q_3) (by decide) (by decide) (by decide) (Nat.le_of_ble_eq_true rfl) (Nat.le_of_ble_eq_true rfl) dL_law_19 (fun q11 H f12 hH => ?_)
  have hw := hw q11 f12 _ rfl
  refine W.widen (k := 9) (n := 58) (Nat.le_of_ble_eq_true rfl) (Nat.le_of_ble_eq_true rfl) ?_
  refine lv_astore (lv' := [(4, .ref _), (3, .ref _), (2, .ref _), (1, .ref _), (0, .ref _)]) hC.1 hC.2.1 dL_law_21 hl (by decide) rfl (fun ls hl => ?_)
  refine lv_bipush (v := 8) hC.1 hC.2.1 dL_law_23 (by decide) ?_
  refine m_newI (N' := 8) hC hs hH (List.mem_cons_of_mem _ q_3) (by decide) (by decide) (by decide) (Nat.le_of_ble_eq_true rfl) (Nat.le_of_ble_eq_true rfl) dL_law_25 (fun q14 H f15 hH => ?_)
  have hw := hw q14 f15 _ rfl
  refine W.widen (k := 10) (n := 66) (Nat.le_of_ble_eq_true rfl) (Nat.le_of_ble_eq_true rfl) ?_
  refine lv_astore (lv' := [(5, .ref _), (4, .ref _), (3, .ref _), (2, .ref _), (1, .ref _), (0, .ref _)]) hC.1 hC.2.1 dL_law_27 hl (by decide) rfl (fun ls hl => ?_)
  refine lv_bipush (v := 80) hC.1 hC.2.1 dL_law_29 (by decide) ?_
  refine m_newI (N' := 80) hC hs hH (List.mem_cons_of_mem _ q_3) (by decide) (by decide) (by decide) (Nat.le_of_ble_eq_true rfl) (Nat.le_of_ble_eq_true rfl) dL_law_31 (fun q17 H f18 hH => ?_)
  have hw := hw q17 f18 _ rfl
  refine W.widen (k := 11) (n := 146) (Nat.le_of_ble_eq_true rfl) (Nat.le_of_ble_eq_true rfl) ?_
  refine lv_astore (lv' := [(6, .ref _), (5, .ref _), (4, .ref _), (3, .ref _), (2, .ref _), (1, .ref _), (0, .ref _)]) hC.1 hC.2.1 dL_law_33 hl (by decide) rfl (fun ls hl => ?_)
  refine lv_aload_n hC.1 hC.2.1 dL_law_35 rfl (lv_at hl 5 rfl) ?_
  refine lv_aload_n hC.1 hC.2.1 dL_law_36 rfl (lv_at hl 6 rfl) ?_
  refine lv_iconst (v := 0) hC.1 hC.2.1 dL_law_37 (by decide) ?_
  refine lv_aload_n hC.1 hC.2.1 dL_law_38 rfl (lv_at hl 4 rfl) ?_
  refine lv_aload_n hC.1 hC.2.1 dL_law_39 rfl (lv_at hl 3 rfl) ?_
  refine lv_aload hC.1 hC.2.1 dL_law_40 (lv_at hl 2 rfl) ?_
  refine lv_aload hC.1 hC.2.1 dL_law_42 (lv_at hl 1 rfl) ?_
  refine m_callSi (y := yL_build) (rest := []) hC hs hH hl.1 (va_cwS 7 hC.2.2.2.2 (gA_S q_39 q_40 q_41 q_42) rfl rfl rfl (by decide +kernel) ⟨Nat.le_of_ble_eq_true rfl, Nat.le_of_ble_eq_true rfl⟩) (met_L_build l hl0 g _ _ _ _ _ _ _ _ _ (fun _ _ h => h) hw) rfl rfl (Nat.le_of_ble_eq_true rfl) dL_law_44 ⟨Nat.le_of_ble_eq_true rfl, Nat.le_of_ble_eq_true rfl⟩ mKx_no (fun r21 S1 H locs hw hH => ?_)
  refine W.widen (k := 55) (n := 1570) (Nat.le_of_ble_eq_true rfl) (Nat.le_of_ble_eq_true rfl) ?_
  refine lv_if_ne (tgt := 52) hC.1 hC.2.1 dL_law_47 (by decide) (fun hc => ?_) (fun hc => ?_)
  · have hw := hw.1 hc
    refine lv_aload_n hC.1 hC.2.1 dL_law_52 rfl (lv_at hl 5 rfl) ?_
    refine lv_aload_n hC.1 hC.2.1 dL_law_53 rfl (lv_at hl 6 rfl) ?_
    refine lv_bipush (v := 7) hC.1 hC.2.1 dL_law_54 (by decide) ?_
    refine lv_bipush (v := 14) hC.1 hC.2.1 dL_law_56 (by decide) ?_
    refine lv_aload_n hC.1 hC.2.1 dL_law_58 rfl (lv_at hl 4 rfl) ?_
    refine lv_iconst (v := 2) hC.1 hC.2.1 dL_law_59 (by decide) ?_
    obtain ⟨k22, hw⟩ := hw
    obtain ⟨i23, hw⟩ := hw
    refine m_iald hC hs hH k22 i23 dL_law_60 ?_
    refine lv_aload hC.1 hC.2.1 dL_law_61 (lv_at hl 0 rfl) ?_
    refine m_callSi (y := yL_call) (rest := []) hC hs hH hl.1 (va_cwS 6 hC.2.2.2.2 (gA_S q_287 q_288 q_41 q_289) rfl rfl rfl (by decide +kernel) ⟨Nat.le_of_ble_eq_true rfl, Nat.le_of_ble_eq_true rfl⟩) (met_L_call l hl0 g _ _ _ _ _ _ _ _ (fun _ _ h => h) hw) rfl rfl (Nat.le_of_ble_eq_true rfl) dL_law_63 ⟨Nat.le_of_ble_eq_true rfl, Nat.le_of_ble_eq_true rfl⟩ mKx_no (fun r25 S1 H locs hw hH => ?_)
    refine W.widen (k := 100) (n := 5545) (Nat.le_of_ble_eq_true rfl) (Nat.le_of_ble_eq_true rfl) ?_
    refine lv_istore (lv' := [(7, .int _), (6, .ref _), (5, .ref _), (4, .ref _), (3, .ref _), (2, .ref _), (1, .ref _), (0, .ref _)]) hC.1 hC.2.1 dL_law_66 hl (by decide) rfl (fun ls hl => ?_)
    refine lv_iload hC.1 hC.2.1 dL_law_68 (lv_at hl 0 rfl) ?_
    refine lv_if_ge (tgt := 75) hC.1 hC.2.1 dL_law_70 (by decide) (fun hc => ?_) (fun hc => ?_)
    · have hw := hw.1 hc
      refine lv_bipush (v := 20) hC.1 hC.2.1 dL_law_75 (by decide) ?_
      refine m_newI (N' := 20) hC hs hH (List.mem_cons_of_mem _ q_3) (by decide) (by decide) (by decide) (Nat.le_of_ble_eq_true rfl) (Nat.le_of_ble_eq_true rfl) dL_law_77 (fun q26 H f27 hH => ?_)
      have hw := hw q26 f27 _ rfl
      refine W.widen (k := 101) (n := 5565) (Nat.le_of_ble_eq_true rfl) (Nat.le_of_ble_eq_true rfl) ?_
      refine lv_astore (lv' := [(8, .ref _), (7, .int _), (6, .ref _), (5, .ref _), (4, .ref _), (3, .ref _), (2, .ref _), (1, .ref _), (0, .ref _)]) hC.1 hC.2.1 dL_law_79 hl (by decide) rfl (fun ls hl => ?_)
      refine lv_iconst (v := 0) hC.1 hC.2.1 dL_law_81 (by decide) ?_
      have hw := hw _ rfl
      refine lv_istore (lv' := [(9, .int _), (8, .ref _), (7, .int _), (6, .ref _), (5, .ref _), (4, .ref _), (3, .ref _), (2, .ref _), (1, .ref _), (0, .ref _)]) hC.1 hC.2.1 dL_law_82 hl (by decide) rfl (fun ls hl => ?_)
      refine W.widen (k := 101) (n := 5565) (Nat.le_of_ble_eq_true rfl) (Nat.le_of_ble_eq_true rfl) ?_
      obtain ⟨n, hw⟩ := hw
      exact lw_L_law_84 hl0 hC hs hend n _ _ _ _ _ _ _ _ hw _ _ hH _ (lv_sub hl [9, 8, 7, 5, 3, 2, 1, 0] rfl)
    · have hw := hw.2 hc
      refine lv_iconst (v := 0) hC.1 hC.2.1 dL_law_73 (by decide) ?_
      exact False.elim hw
  · have hw := hw.2 hc
    refine lv_iconst (v := 0) hC.1 hC.2.1 dL_law_50 (by decide) ?_
    exact False.elim hw
