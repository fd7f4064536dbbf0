theorem na5 (x : Nat) : nI x + (5 : Int32) = nI (x + 5) := nI_add x 5
theorem vf_ok {a b : Int32} (hb : ¬ b = 0) : vf_n64 (FP.ddiv (FP.i2d a) (FP.i2d b)) := by
  have h1 := Jvm.FP.Core.i2d_mag a
  have h2 := Jvm.FP.Core.i2d_big (v := b) (fun e => hb (Int32.toInt_inj.mp e))
  have h3 : (Jvm.FP.Core.ddiv (Jvm.FP.Core.i2d a) (Jvm.FP.Core.i2d b)).toNat % 2 ^ 63 < (1056 + (1074 - 52 - 1) - 1023 + 3) * 2 ^ 52 := Jvm.FP.Core.ddiv_mag h1 h2.1 h2.2 (by decide) (by decide)
  unfold vf_n64
  have h4 : (FP.ddiv (FP.i2d a) (FP.i2d b)).toNat % 2 ^ 63 < (1056 + (1074 - 52 - 1) - 1023 + 3) * 2 ^ 52 := h3
  rw [UInt64.le_iff_toNat_le, UInt64.toNat_and]
  have e : (0x7fffffffffffffff : UInt64).toNat = 2 ^ 63 - 1 := rfl
  rw [e, Nat.and_two_pow_sub_one_eq_mod]
  have e2 : (0x7ff0000000000000 : UInt64).toNat = 2047 * 2 ^ 52 := rfl
  rw [e2]
  omega
theorem law_loop {z : Nat × Nat} {L : Nat} (hL : L ≤ 3072) (xs : Nat → Int32) : ∀ n k A w h m u S, RP z A w h m u S → LI h m → k ≤ L / 6 → L / 6 + 1 ≤ k + n → lp_L_law_23 z L xs n S (A 10 0) (A 12 0) (A 13 0) (nI (6 * k)) := by
  intro n
  induction n with
  | zero => intro k A w h m u S R I h1 h2; omega
  | succ n ih =>
    intro k A w h m u S R I h1 h2
    show bk_L_law_23 z L xs (lp_L_law_23 z L xs n) S _ _ _ _
    have nxt0 : 6 * k + 6 ≤ L → KB z A (fun S' => bk_L_law_1667 z L xs (lp_L_law_23 z L xs n) S' (A 10 0) (A 12 0) (A 13 0) (nI (6 * k))) := by
      intro h6 A' w' h' m' u' S' R' I' a10 a12 a13
      unfold bk_L_law_1667
      rintro v rfl
      rw [na6]
      have := ih (k + 1) A' w' h' m' u' S' R' I' (by omega) (by omega)
      rw [a10, a12, a13] at this
      exact this
    unfold bk_L_law_23
    refine ⟨fun _ => trivial, fun g => ?_⟩
    have h6 : 6 * k + 6 ≤ L := by
      by_cases e : 6 * k + 6 ≤ L
      · exact e
      · exfalso
        refine g ?_
        by_cases e6 : L < 6
        · exact Int32.lt_of_lt_of_le (pk_sneg (a := L) (b := 6) (by omega) (by omega)) (Int32.not_lt.mp (nI_pos (by omega)))
        · have e7 : Int32.ofNat L - 6 = nI (L - 6) := pk_sub (a := L) (b := 6) (by omega)
          rw [e7]; exact nI_lt (by omega) (by omega)
    have nxt := nxt0 h6
    clear nxt0 ih g
    have p0 : vp_in (nI (6 * k)) L := vin_n (by omega) (by omega)
    have p1 : vp_in (nI (6 * k + 1)) L := vin_n (by omega) (by omega)
    have p2 : vp_in (nI (6 * k + 2)) L := vin_n (by omega) (by omega)
    have p3 : vp_in (nI (6 * k + 3)) L := vin_n (by omega) (by omega)
    have p4 : vp_in (nI (6 * k + 4)) L := vin_n (by omega) (by omega)
    have p5 : vp_in (nI (6 * k + 5)) L := vin_n (by omega) (by omega)
    generalize lp_L_law_23 z L xs n = K at *
    have nxt1 := nxt A w h m u S R I rfl rfl rfl
    obtain ⟨W, C, D⟩ := I
    simp only [na1, na2, na3, na4, na5, p0, p1, p2, p3, p4, p5, true_and]
    refine ⟨fun _ => nxt1, fun _ => ?_, fun _ => ?_, fun _ => ?_, fun _ => ?_, fun _ => ?_, fun _ => ?_, fun _ => ?_, fun _ => ?_, fun _ => ?_, fun _ => ?_, fun _ => ?_, fun _ => ?_, fun _ => ?_, fun _ => ?_, fun _ => ?_, fun _ => ?_, fun _ => ?_, fun _ => ?_, fun _ => ?_, fun _ => ?_, fun _ => ?_, fun _ => ?_, fun _ => ?_, fun _ => ?_, fun _ => ?_⟩
    · exact J_addTariff R ⟨W, C, D⟩ (B := fun S => bk_L_law_257 z L xs K S (A 10 0) (A 12 0) (A 13 0) (nI (6 * k))) nxt
    · exact J_setZone R ⟨W, C, D⟩ (B := fun S => bk_L_law_349 z L xs K S (A 10 0) (A 12 0) (A 13 0) (nI (6 * k))) nxt
    · exact J_setPeak R ⟨W, C, D⟩ (B := fun S => bk_L_law_424 z L xs K S (A 10 0) (A 12 0) (A 13 0) (nI (6 * k))) nxt
    · exact J_addAccount R ⟨W, C, D⟩ (B := fun S => bk_L_law_504 z L xs K S (A 10 0) (A 12 0) (A 13 0) (nI (6 * k))) nxt
    · exact J_addLine R ⟨W, C, D⟩ (B := fun S => bk_L_law_572 z L xs K S (A 10 0) (A 12 0) (A 13 0) (nI (6 * k))) nxt
    · exact J_setTariff R ⟨W, C, D⟩ (B := fun S => bk_L_law_640 z L xs K S (A 10 0) (A 12 0) (A 13 0) (nI (6 * k))) nxt
    · exact J_setBundle R ⟨W, C, D⟩ (B := fun S => bk_L_law_708 z L xs K S (A 10 0) (A 12 0) (A 13 0) (nI (6 * k))) nxt
    · exact J_addCall R ⟨W, C, D⟩ (B := fun S => bk_L_law_800 z L xs K S (A 10 0) (A 12 0) (A 13 0) (nI (6 * k))) nxt
    · exact J_correct R ⟨W, C, D⟩ (B := fun S => bk_L_law_868 z L xs K S (A 10 0) (A 12 0) (A 13 0) (nI (6 * k))) nxt
    · refine ⟨mem10 R, c_callCount R W ⟨mem12 R, m_callCount R C fun m' S' R' C' F' => ⟨fun _ => nxt A w h m' u S' R' ⟨W, C', D⟩ rfl rfl rfl, fun q => q rfl⟩⟩⟩
    · exact J_callAt R ⟨W, C, D⟩ (B := fun S => bk_L_law_937 z L xs K S (A 10 0) (A 12 0) (A 13 0) (nI (6 * k))) nxt
    · exact J_isPeak R ⟨W, C, D⟩ (B := fun S => bk_L_law_1000 z L xs K S (A 10 0) (A 12 0) (A 13 0) (nI (6 * k))) nxt
    · exact J_told R ⟨W, C, D⟩ (B := fun S => bk_L_law_1068 z L xs K S (A 10 0) (A 12 0) (A 13 0) (nI (6 * k))) nxt
    · refine ⟨mem10 R, c_dearest R W D ⟨mem12 R, m_dearest R W C fun m' S' R' C' F' => ⟨fun _ => nxt A w h m' u S' R' ⟨W, C', D⟩ rfl rfl rfl, fun q => q rfl⟩⟩⟩
    · exact J_lineSum R ⟨W, C, D⟩ (B := fun S => bk_L_law_1137 z L xs K S (A 10 0) (A 12 0) (A 13 0) (nI (6 * k))) nxt
    · exact J_daySum R ⟨W, C, D⟩ (B := fun S => bk_L_law_1193 z L xs K S (A 10 0) (A 12 0) (A 13 0) (nI (6 * k))) nxt
    · exact J_sum R ⟨W, C, D⟩ (B := fun S => bk_L_law_1249 z L xs K S (A 10 0) (A 12 0) (A 13 0) (nI (6 * k))) nxt
    · exact J_total R ⟨W, C, D⟩ (B := fun S => bk_L_law_1305 z L xs K S (A 10 0) (A 12 0) (A 13 0) (nI (6 * k))) nxt
    · exact J_left R ⟨W, C, D⟩ (B := fun S => bk_L_law_1361 z L xs K S (A 10 0) (A 12 0) (A 13 0) (nI (6 * k))) nxt
    · exact J_emptied R ⟨W, C, D⟩ (B := fun S => bk_L_law_1417 z L xs K S (A 10 0) (A 12 0) (A 13 0) (nI (6 * k))) nxt
    · exact J_dayFees R ⟨W, C, D⟩ (B := fun S => bk_L_law_1485 z L xs K S (A 10 0) (A 12 0) (A 13 0) (nI (6 * k))) nxt
    · exact J_totalWith R ⟨W, C, D⟩ (B := fun S => bk_L_law_1553 z L xs K S (A 10 0) (A 12 0) (A 13 0) (nI (6 * k))) nxt
    · exact J_bestTariff R ⟨W, C, D⟩ (B := fun S => bk_L_law_1609 z L xs K S (A 10 0) (A 12 0) (A 13 0) (nI (6 * k))) nxt
    · have fin : ∀ (r : UInt64) m' S', RP z A w h m' u S' → CM h m' → ((Op.cmpValue (FP.dcmp r r) CmpOp.l) = 0 → bk_L_law_1650 z L xs K S' (A 10 0) (A 12 0) (A 13 0) (nI (6 * k))) ∧ (¬ (Op.cmpValue (FP.dcmp r r) CmpOp.l) = 0 → ((Op.cmpValue (FP.dcmp r r) CmpOp.l) = 0 → False) ∧ (¬ (Op.cmpValue (FP.dcmp r r) CmpOp.l) = 0 → (¬ (Op.cmpValue (FP.dcmp r r) CmpOp.l) = 0 → bk_L_law_1650 z L xs K S' (A 10 0) (A 12 0) (A 13 0) (nI (6 * k))) ∧ ((Op.cmpValue (FP.dcmp r r) CmpOp.l) = 0 → False))) := by
        intro r m' S' R' C'
        have b := nxt A w h m' u S' R' ⟨W, C', D⟩ rfl rfl rfl
        exact ⟨fun _ => b, fun q => ⟨fun q2 => q q2, fun _ => ⟨fun _ => b, fun q2 => q q2⟩⟩⟩
      refine ⟨mem10 R, c_freeShare R W D (fun g => ⟨vf_ok g, mem12 R, m_freeShare R W C (fun g2 => ⟨vf_ok g2, fun m' S' R' C' F' => fin _ m' S' R' C'⟩) (fun g2 => absurd g2 g)⟩) (fun g => ⟨mem12 R, m_freeShare R W C (fun g2 => absurd g g2) (fun _ => fun m' S' R' C' F' => fin _ m' S' R' C')⟩)⟩
    · refine ⟨mem10 R, c_digest R W D ⟨mem12 R, m_digest R W C D fun m' S' R' C' F' => ⟨fun _ => nxt A w h m' u S' R' ⟨W, C', D⟩ rfl rfl rfl, fun q => q (lg_self _)⟩⟩⟩
