/-! the share of free seconds lies between 0 and 1 -/
theorem fp_cmp0 {r : UInt64} (h : ∃ o, FP.dcmp r FP.dconst0 = some o ∧ o ≠ .lt) : ¬ (Op.cmpValue (FP.dcmp r FP.dconst0) CmpOp.l) < 0 := by
  obtain ⟨o, h, ho⟩ := h
  rw [h]
  cases o with
  | lt => exact absurd rfl ho
  | eq => decide
  | gt => decide
theorem fp_cmp1 {r : UInt64} (h : ∃ o, FP.dcmp r FP.dconst1 = some o ∧ o ≠ .gt) : ¬ 0 < (Op.cmpValue (FP.dcmp r FP.dconst1) CmpOp.g) := by
  obtain ⟨o, h, ho⟩ := h
  rw [h]
  cases o with
  | lt => decide
  | eq => decide
  | gt => exact absurd rfl ho
theorem fp_ngt {a b : Int} (h : a ≤ b) : compare a b ≠ .gt := by
  simp only [compare, compareOfLessAndEq]
  by_cases h1 : a < b
  · rw [if_pos h1]; decide
  · rw [if_neg h1, if_pos (show a = b by omega)]; decide
theorem fp_nlt {a b : Int} (h : b ≤ a) : compare a b ≠ .lt := by
  simp only [compare, compareOfLessAndEq]
  rw [if_neg (show ¬ a < b by omega)]
  split <;> decide
theorem fp_le {a b : Int} (h : compare a b ≠ .gt) : a ≤ b := by
  simp only [compare, compareOfLessAndEq] at h
  by_cases h1 : a < b
  · omega
  · rw [if_neg h1] at h
    by_cases h2 : a = b
    · omega
    · rw [if_neg h2] at h; exact absurd rfl h
theorem fp_zV : Jvm.FP.Core.zmag Jvm.FP.Core.b64 (.fin false (2 ^ 52) (-52)) = 2 ^ 1074 := by decide +kernel
theorem fp_qm : (-Jvm.FP.Core.b64.qmin).toNat = 1074 := by decide +kernel
theorem fp_share {f m : Nat} (hf : f ≤ m) (hm : 0 < m) (hm2 : m < 2147483648) : (∃ o, FP.dcmp (FP.ddiv (FP.i2d (nI f)) (FP.i2d (nI m))) FP.dconst0 = some o ∧ o ≠ .lt) ∧ ∃ o, FP.dcmp (FP.ddiv (FP.i2d (nI f)) (FP.i2d (nI m))) FP.dconst1 = some o ∧ o ≠ .gt := by
  have ha := Jvm.FP.Core.i2d_int (nI f)
  have hb := Jvm.FP.Core.i2d_int (nI m)
  rw [nI_toInt (by omega)] at ha hb
  obtain ⟨s, c, q, x1⟩ := Jvm.FP.Core.i2d_fin (nI f)
  obtain ⟨t, d, r, y1⟩ := Jvm.FP.Core.i2d_fin (nI m)
  have fx := Jvm.FP.Core.val64_fits (Jvm.FP.Core.i2d (nI f))
  have fy := Jvm.FP.Core.val64_fits (Jvm.FP.Core.i2d (nI m))
  unfold Jvm.FP.Core.DInt at ha hb
  rw [x1] at ha fx
  rw [y1] at hb fy
  have hd0 : d ≠ 0 := fun e => by have := (Jvm.FP.Core.whole_zero hb).mp e; omega
  have ht : t = false := by rw [Jvm.FP.Core.whole_sign hb (by omega)]; exact decide_eq_false (by omega)
  have e : Jvm.FP.Core.val64 (FP.ddiv (FP.i2d (nI f)) (FP.i2d (nI m))) = Jvm.FP.Core.roundRatio Jvm.FP.Core.b64 (s != t) c d (q - r) := by
    refine (Jvm.FP.Core.val64_ddiv (Jvm.FP.Core.i2d (nI f)) (Jvm.FP.Core.i2d (nI m))).trans ?_
    rw [x1, y1]
    simp only [Jvm.FP.Core.quotient, if_neg hd0]
  have fV : Jvm.FP.Core.fits Jvm.FP.Core.b64 (.fin false (2 ^ 52) (-52)) := by
    have := Jvm.FP.Core.val64_fits Jvm.FP.Core.dconst1
    rw [Jvm.FP.Core.val64_dconst1] at this
    exact this
  have hqx := fx.2.1
  have hqy := fy.2.1
  have hq0 := Jvm.FP.Core.qmin_neg Jvm.FP.Core.good_b64
  have c0 : f = 0 → c = 0 := fun h => (Jvm.FP.Core.whole_zero ha).mpr (by omega)
  have s0 : ¬ f = 0 → s = false := fun h => by rw [Jvm.FP.Core.whole_sign ha (by omega)]; exact decide_eq_false (by omega)
  have hle : Jvm.FP.Core.zmag Jvm.FP.Core.b64 (.fin s c q) ≤ Jvm.FP.Core.zmag Jvm.FP.Core.b64 (.fin t d r) := by
    by_cases h0 : f = 0
    · have := c0 h0
      subst this
      show 0 * _ ≤ _
      rw [Nat.zero_mul]; exact Nat.zero_le _
    · have o1 := Jvm.FP.Core.order_whole ha hb
      have o2 := Jvm.FP.Core.order_zval Jvm.FP.Core.good_b64 fx fy Jvm.FP.Core.Datum.noConfusion Jvm.FP.Core.Datum.noConfusion
      rw [o1] at o2
      have o3 := Option.some.inj o2
      have o4 := fp_ngt (a := (f : Int)) (b := (m : Int)) (by omega)
      rw [o3] at o4
      have o5 := fp_le o4
      have hs := s0 h0
      subst hs; subst ht
      unfold Jvm.FP.Core.zval at o5
      exact Int.ofNat_le.mp o5
  have key : Jvm.FP.Core.zmag Jvm.FP.Core.b64 (Jvm.FP.Core.roundRatio Jvm.FP.Core.b64 (s != t) c d (q - r)) ≤ Jvm.FP.Core.zmag Jvm.FP.Core.b64 (.fin false (2 ^ 52) (-52)) := by
    refine Jvm.FP.Core.zmag_roundRatio_le Jvm.FP.Core.good_b64 (Nat.pos_of_ne_zero hd0) fV Jvm.FP.Core.Datum.noConfusion (e0 := 2 * Jvm.FP.Core.b64.qmin - r) (by omega) (by omega) ?_
    have e1 : Jvm.FP.Core.inUnits c (q - r) (2 * Jvm.FP.Core.b64.qmin - r) = Jvm.FP.Core.zmag Jvm.FP.Core.b64 (.fin s c q) * 2 ^ (-Jvm.FP.Core.b64.qmin).toNat := by
      show c * _ = c * _ * _
      rw [Nat.mul_assoc, ← Nat.pow_add]; congr 2; omega
    have e2 : 2 ^ (Jvm.FP.Core.b64.qmin - (2 * Jvm.FP.Core.b64.qmin - r)).toNat * d = Jvm.FP.Core.zmag Jvm.FP.Core.b64 (.fin t d r) := by
      show _ = d * _
      rw [Nat.mul_comm]; congr 2; omega
    rw [e1, Nat.mul_assoc, e2, fp_zV, fp_qm, Nat.mul_comm]
    exact Nat.mul_le_mul_left _ hle
  have fr := Jvm.FP.Core.val64_fits (FP.ddiv (FP.i2d (nI f)) (FP.i2d (nI m)))
  rw [e] at fr
  have nr := Jvm.FP.Core.roundRatio_ne_nan Jvm.FP.Core.b64 (s != t) c d (q - r)
  have zv : Jvm.FP.Core.zval Jvm.FP.Core.b64 (Jvm.FP.Core.roundRatio Jvm.FP.Core.b64 (s != t) c d (q - r)) = (Jvm.FP.Core.zmag Jvm.FP.Core.b64 (Jvm.FP.Core.roundRatio Jvm.FP.Core.b64 (s != t) c d (q - r)) : Int) := by
    unfold Jvm.FP.Core.zval
    rw [Jvm.FP.Core.sgn_roundRatio]
    by_cases h0 : f = 0
    · have := c0 h0
      subst this
      have z0 : Jvm.FP.Core.zmag Jvm.FP.Core.b64 (Jvm.FP.Core.roundRatio Jvm.FP.Core.b64 (s != t) 0 d (q - r)) = 0 := by
        unfold Jvm.FP.Core.roundRatio
        rw [if_pos rfl]
        show 0 * _ = 0
        rw [Nat.zero_mul]
      rw [z0]
      unfold Jvm.FP.Core.signed
      split <;> rfl
    · have hs := s0 h0
      subst hs; subst ht
      rfl
  constructor
  · have fz := Jvm.FP.Core.val64_fits Jvm.FP.Core.dconst0
    rw [Jvm.FP.Core.val64_dconst0] at fz
    have o := Jvm.FP.Core.order_zval Jvm.FP.Core.good_b64 fr fz nr Jvm.FP.Core.Datum.noConfusion
    rw [← e, ← Jvm.FP.Core.val64_dconst0] at o
    refine ⟨_, o, fp_nlt ?_⟩
    rw [e, zv, Jvm.FP.Core.val64_dconst0]
    have : Jvm.FP.Core.zval Jvm.FP.Core.b64 (.fin false 0 Jvm.FP.Core.b64.qmin) = 0 := by
      show Jvm.FP.Core.signed false (0 * _) = 0
      rw [Nat.zero_mul]; rfl
    rw [this]
    exact Int.natCast_nonneg _
  · have o := Jvm.FP.Core.order_zval Jvm.FP.Core.good_b64 fr fV nr Jvm.FP.Core.Datum.noConfusion
    rw [← e, ← Jvm.FP.Core.val64_dconst1] at o
    refine ⟨_, o, fp_ngt ?_⟩
    rw [e, zv, Jvm.FP.Core.val64_dconst1]
    exact Int.ofNat_le.mpr key
theorem fp_zero : (∃ o, FP.dcmp FP.dconst0 FP.dconst0 = some o ∧ o ≠ .lt) ∧ ∃ o, FP.dcmp FP.dconst0 FP.dconst1 = some o ∧ o ≠ .gt := by
  have h0 := Jvm.FP.Core.val64_dconst0
  refine ⟨⟨.eq, Jvm.FP.Core.dcmp_self (a := Jvm.FP.Core.dconst0) (by rw [h0]; exact Jvm.FP.Core.Datum.noConfusion), by decide⟩, .lt, by decide +kernel, by decide⟩
