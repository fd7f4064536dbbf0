/-! 10.leaves: weakest preconditions and walks, laid by wip/p28/gen.py -/
abbrev rm_X0_init : Room := { frames := 1, cells := 0, slots := 0, locals := 24 }
def wp_X0_init (z : Nat × Nat) (S : mmS) (p0 : Nat) (p1 : Int32) (p2 : Int32) (p3 : Int32) (Q : mmS → Prop) (X : String → mmS → Prop) : Prop := (p0 ∈ mL S ∧ mK S p0 = 0) ∧ ∀ S2 : mmS, S2 = sI S 2 p0 p1 → ∀ S3 : mmS, S3 = sI S2 0 p0 p2 → ∀ S4 : mmS, S4 = sI S3 1 p0 p3 → ∀ S5 : mmS, S5 = sI S4 3 p0 p1 → ∀ S6 : mmS, S6 = sI S5 4 p0 (-1 : Int32) → Q S6
set_option maxHeartbeats 4000000 in
set_option maxRecDepth 100000 in
theorem met_X0_init (l : Launch) (hl0 : l.stackTraces = false) (g : mG) (S : mmS) (p0 : Nat) (p1 : Int32) (p2 : Int32) (p3 : Int32) (Q : mmS → Prop) (X : String → mmS → Prop) (hX0 : ∀ (E : String) (S : mmS), ¬ X E S) (hw : wp_X0_init g.2.2.2.2.2 S p0 p1 p2 p3 Q X) : mMv l g yX0_init (wA_ yX0_init cX0_init 4 none) rm_X0_init [.ref p0, .int p1, .int p2, .int p3] S Q X := by
  refine m_of (y := yX0_init) (cc := cX0_init) (maxL := 4) (ret := none) (by decide) rfl (Nat.le_of_ble_eq_true rfl) ?_
  intro p e s m args below meth c ls hC hrt hlk hmn hnx hs hH hl
  have hC : CallFix p m c cX0_init 4 s args (wA_ yX0_init cX0_init 4 none) RX0 := hC
  have hl : lv_has ls 4 [(0, .ref p0), (1, .int p1), (2, .int p2), (3, .int p3)] := hl
  unfold wp_X0_init at hw
  refine lv_aload_n hC.1 hC.2.1 dX0_init_0 rfl (lv_at hl 0 rfl) ?_
  refine m_objInit hC hl.1 (List.mem_cons_of_mem _ q_268) (List.mem_cons_of_mem _ q_12) (List.mem_cons_of_mem _ q_13) (Nat.le_of_ble_eq_true rfl) (Nat.le_of_ble_eq_true rfl) dX0_init_1 ?_
  refine lv_aload_n hC.1 hC.2.1 dX0_init_4 rfl (lv_at hl 0 rfl) ?_
  refine lv_iload_n hC.1 hC.2.1 dX0_init_5 rfl (lv_at hl 1 rfl) ?_
  obtain ⟨k1, hw⟩ := hw
  have hw := hw _ rfl
  refine m_putI hC hs hH cs0 fs0_2 (fun _ h => List.mem_cons_of_mem _ (inlX0 _ h)) (List.mem_cons_of_mem _ q_179) (fun _ h => h) (Or.inl rfl) rfl k1 dX0_init_6 (fun H locs hH => ?_)
  refine lv_aload_n hC.1 hC.2.1 dX0_init_9 rfl (lv_at hl 0 rfl) ?_
  refine lv_iload_n hC.1 hC.2.1 dX0_init_10 rfl (lv_at hl 2 rfl) ?_
  have hw := hw _ rfl
  refine m_putI hC hs hH cs0 fs0_0 (fun _ h => List.mem_cons_of_mem _ (inlX0 _ h)) (List.mem_cons_of_mem _ q_269) (fun _ h => h) (Or.inr ⟨rfl, hmn, rfl⟩) rfl k1 dX0_init_11 (fun H locs hH => ?_)
  refine lv_aload_n hC.1 hC.2.1 dX0_init_14 rfl (lv_at hl 0 rfl) ?_
  refine lv_iload_n hC.1 hC.2.1 dX0_init_15 rfl (lv_at hl 3 rfl) ?_
  have hw := hw _ rfl
  refine m_putI hC hs hH cs0 fs0_1 (fun _ h => List.mem_cons_of_mem _ (inlX0 _ h)) (List.mem_cons_of_mem _ q_270) (fun _ h => h) (Or.inr ⟨rfl, hmn, rfl⟩) rfl k1 dX0_init_16 (fun H locs hH => ?_)
  refine lv_aload_n hC.1 hC.2.1 dX0_init_19 rfl (lv_at hl 0 rfl) ?_
  refine lv_iload_n hC.1 hC.2.1 dX0_init_20 rfl (lv_at hl 1 rfl) ?_
  have hw := hw _ rfl
  refine m_putI hC hs hH cs0 fs0_3 (fun _ h => List.mem_cons_of_mem _ (inlX0 _ h)) (List.mem_cons_of_mem _ q_180) (fun _ h => h) (Or.inl rfl) rfl k1 dX0_init_21 (fun H locs hH => ?_)
  refine lv_aload_n hC.1 hC.2.1 dX0_init_24 rfl (lv_at hl 0 rfl) ?_
  refine lv_iconst (v := (-1)) hC.1 hC.2.1 dX0_init_25 (by decide) ?_
  have hw := hw _ rfl
  refine m_putI hC hs hH cs0 fs0_4 (fun _ h => List.mem_cons_of_mem _ (inlX0 _ h)) (List.mem_cons_of_mem _ q_181) (fun _ h => h) (Or.inl rfl) rfl k1 dX0_init_26 (fun H locs hH => ?_)
  exact m_retv hC hH hrt hlk (Nat.le_of_ble_eq_true rfl) (Nat.le_of_ble_eq_true rfl) dX0_init_29 hw
abbrev rm_X0_forgetRating : Room := { frames := 1, cells := 0, slots := 0, locals := 0 }
def wp_X0_forgetRating (z : Nat × Nat) (S : mmS) (p0 : Nat) (Q : mmS → Prop) (X : String → mmS → Prop) : Prop := (p0 ∈ mL S ∧ mK S p0 = 0) ∧ ∀ S2 : mmS, S2 = sI S 3 p0 (mI S 2 p0) → ∀ S3 : mmS, S3 = sI S2 4 p0 (-1 : Int32) → ∀ S4 : mmS, S4 = sI S3 5 p0 (0 : Int32) → Q S4
set_option maxHeartbeats 4000000 in
set_option maxRecDepth 100000 in
theorem met_X0_forgetRating (l : Launch) (hl0 : l.stackTraces = false) (g : mG) (S : mmS) (p0 : Nat) (Q : mmS → Prop) (X : String → mmS → Prop) (hX0 : ∀ (E : String) (S : mmS), ¬ X E S) (hw : wp_X0_forgetRating g.2.2.2.2.2 S p0 Q X) : mMv l g yX0_forgetRating (wA_ yX0_forgetRating cX0_forgetRating 1 none) rm_X0_forgetRating [.ref p0] S Q X := by
  refine m_of (y := yX0_forgetRating) (cc := cX0_forgetRating) (maxL := 1) (ret := none) (by decide) rfl (Nat.le_of_ble_eq_true rfl) ?_
  intro p e s m args below meth c ls hC hrt hlk hmn hnx hs hH hl
  have hC : CallFix p m c cX0_forgetRating 1 s args (wA_ yX0_forgetRating cX0_forgetRating 1 none) RX0 := hC
  have hl : lv_has ls 1 [(0, .ref p0)] := hl
  unfold wp_X0_forgetRating at hw
  refine lv_aload_n hC.1 hC.2.1 dX0_forgetRating_0 rfl (lv_at hl 0 rfl) ?_
  refine lv_aload_n hC.1 hC.2.1 dX0_forgetRating_1 rfl (lv_at hl 0 rfl) ?_
  obtain ⟨k1, hw⟩ := hw
  refine m_getI hC hs hH cs0 fs0_2 (fun _ h => List.mem_cons_of_mem _ (inlX0 _ h)) (List.mem_cons_of_mem _ q_179) (fun _ h => h) k1 dX0_forgetRating_2 ?_
  have hw := hw _ rfl
  refine m_putI hC hs hH cs0 fs0_3 (fun _ h => List.mem_cons_of_mem _ (inlX0 _ h)) (List.mem_cons_of_mem _ q_180) (fun _ h => h) (Or.inl rfl) rfl k1 dX0_forgetRating_5 (fun H locs hH => ?_)
  refine lv_aload_n hC.1 hC.2.1 dX0_forgetRating_8 rfl (lv_at hl 0 rfl) ?_
  refine lv_iconst (v := (-1)) hC.1 hC.2.1 dX0_forgetRating_9 (by decide) ?_
  have hw := hw _ rfl
  refine m_putI hC hs hH cs0 fs0_4 (fun _ h => List.mem_cons_of_mem _ (inlX0 _ h)) (List.mem_cons_of_mem _ q_181) (fun _ h => h) (Or.inl rfl) rfl k1 dX0_forgetRating_10 (fun H locs hH => ?_)
  refine lv_aload_n hC.1 hC.2.1 dX0_forgetRating_13 rfl (lv_at hl 0 rfl) ?_
  refine lv_iconst (v := 0) hC.1 hC.2.1 dX0_forgetRating_14 (by decide) ?_
  have hw := hw _ rfl
  refine m_putI hC hs hH cs0 fs0_5 (fun _ h => List.mem_cons_of_mem _ (inlX0 _ h)) (List.mem_cons_of_mem _ q_182) (fun _ h => h) (Or.inl rfl) rfl k1 dX0_forgetRating_15 (fun H locs hH => ?_)
  exact m_retv hC hH hrt hlk (Nat.le_of_ble_eq_true rfl) (Nat.le_of_ble_eq_true rfl) dX0_forgetRating_18 hw
abbrev rm_X0_takeFromBundle : Room := { frames := 1, cells := 0, slots := 0, locals := 24 }
def wp_X0_takeFromBundle (z : Nat × Nat) (S : mmS) (p0 : Nat) (p1 : Nat) (Q : Int32 → mmS → Prop) (X : String → mmS → Prop) : Prop := (p0 ∈ mL S ∧ mK S p0 = 0) ∧ (p1 ∈ mL S ∧ mK S p1 = 1) ∧ ∀ v3 : Int32, v3 = (if (mI S 10 p1) < (mI S 3 p0) then (mI S 10 p1) else (mI S 3 p0)) → ∀ S4 : mmS, S4 = sI S 3 p0 ((mI S 3 p0) - v3) → (v3 ≤ 0 → Q v3 S4) ∧ (¬ v3 ≤ 0 → (¬ (mI S4 3 p0) = 0 → Q v3 S4) ∧ ((mI S4 3 p0) = 0 → ∀ S5 : mmS, S5 = sI S4 4 p0 (mI S4 6 p1) → Q v3 S5))
set_option maxHeartbeats 4000000 in
set_option maxRecDepth 100000 in
theorem met_X0_takeFromBundle (l : Launch) (hl0 : l.stackTraces = false) (g : mG) (S : mmS) (p0 : Nat) (p1 : Nat) (Q : Int32 → mmS → Prop) (X : String → mmS → Prop) (hX0 : ∀ (E : String) (S : mmS), ¬ X E S) (hw : wp_X0_takeFromBundle g.2.2.2.2.2 S p0 p1 Q X) : mMi l g yX0_takeFromBundle (wA_ yX0_takeFromBundle cX0_takeFromBundle 3 (some .int)) rm_X0_takeFromBundle [.ref p0, .ref p1] S Q X := by
  refine m_of (y := yX0_takeFromBundle) (cc := cX0_takeFromBundle) (maxL := 3) (ret := (some .int)) (by decide) rfl (Nat.le_of_ble_eq_true rfl) ?_
  intro p e s m args below meth c ls hC hrt hlk hmn hnx hs hH hl
  have hC : CallFix p m c cX0_takeFromBundle 3 s args (wA_ yX0_takeFromBundle cX0_takeFromBundle 3 (some .int)) RX0 := hC
  have hl : lv_has ls 3 [(0, .ref p0), (1, .ref p1)] := hl
  unfold wp_X0_takeFromBundle at hw
  refine lv_aload_n hC.1 hC.2.1 dX0_takeFromBundle_0 rfl (lv_at hl 0 rfl) ?_
  obtain ⟨k1, hw⟩ := hw
  refine m_getI hC hs hH cs0 fs0_3 (fun _ h => List.mem_cons_of_mem _ (inlX0 _ h)) (List.mem_cons_of_mem _ q_180) (fun _ h => h) k1 dX0_takeFromBundle_1 ?_
  refine lv_aload_n hC.1 hC.2.1 dX0_takeFromBundle_4 rfl (lv_at hl 1 rfl) ?_
  obtain ⟨k2, hw⟩ := hw
  refine m_getI hC hs hH cs1 fs1_5 (fun _ h => List.mem_cons_of_mem _ (inlX1 _ h)) (List.mem_cons_of_mem _ q_224) (fun _ h => h) k2 dX0_takeFromBundle_5 ?_
  refine m_min hC hl.1 (List.mem_cons_of_mem _ q_225) (List.mem_cons_of_mem _ q_5) (List.mem_cons_of_mem _ q_6) (List.mem_cons_of_mem _ q_7) (Nat.le_of_ble_eq_true rfl) (Nat.le_of_ble_eq_true rfl) (Nat.le_of_ble_eq_true rfl) (Nat.le_of_ble_eq_true rfl) dX0_takeFromBundle_8 ?_
  have hw := hw _ rfl
  refine lv_istore_n (lv' := [(2, .int _), (0, .ref _), (1, .ref _)]) hC.1 hC.2.1 dX0_takeFromBundle_11 rfl hl (by decide) rfl (fun ls hl => ?_)
  refine lv_aload_n hC.1 hC.2.1 dX0_takeFromBundle_12 rfl (lv_at hl 1 rfl) ?_
  refine lv_dup hC.1 hC.2.1 dX0_takeFromBundle_13 rfl ?_
  refine m_getI hC hs hH cs0 fs0_3 (fun _ h => List.mem_cons_of_mem _ (inlX0 _ h)) (List.mem_cons_of_mem _ q_180) (fun _ h => h) k1 dX0_takeFromBundle_14 ?_
  refine lv_iload_n hC.1 hC.2.1 dX0_takeFromBundle_17 rfl (lv_at hl 0 rfl) ?_
  refine lv_isub hC.1 hC.2.1 dX0_takeFromBundle_18 ?_
  have hw := hw _ rfl
  refine m_putI hC hs hH cs0 fs0_3 (fun _ h => List.mem_cons_of_mem _ (inlX0 _ h)) (List.mem_cons_of_mem _ q_180) (fun _ h => h) (Or.inl rfl) rfl k1 dX0_takeFromBundle_19 (fun H locs hH => ?_)
  refine lv_iload_n hC.1 hC.2.1 dX0_takeFromBundle_22 rfl (lv_at hl 0 rfl) ?_
  refine lv_if_le (tgt := 41) hC.1 hC.2.1 dX0_takeFromBundle_23 (by decide) (fun hc => ?_) (fun hc => ?_)
  · have hw := hw.1 hc
    refine lv_iload_n hC.1 hC.2.1 dX0_takeFromBundle_41 rfl (lv_at hl 0 rfl) ?_
    exact m_reti hC hH hrt rfl hlk (Nat.le_of_ble_eq_true rfl) (Nat.le_of_ble_eq_true rfl) dX0_takeFromBundle_42 hw
  · have hw := hw.2 hc
    refine lv_aload_n hC.1 hC.2.1 dX0_takeFromBundle_26 rfl (lv_at hl 1 rfl) ?_
    refine m_getI hC hs hH cs0 fs0_3 (fun _ h => List.mem_cons_of_mem _ (inlX0 _ h)) (List.mem_cons_of_mem _ q_180) (fun _ h => h) k1 dX0_takeFromBundle_27 ?_
    refine lv_if_ne (tgt := 41) hC.1 hC.2.1 dX0_takeFromBundle_30 (by decide) (fun hc => ?_) (fun hc => ?_)
    · have hw := hw.1 hc
      refine lv_iload_n hC.1 hC.2.1 dX0_takeFromBundle_41 rfl (lv_at hl 0 rfl) ?_
      exact m_reti hC hH hrt rfl hlk (Nat.le_of_ble_eq_true rfl) (Nat.le_of_ble_eq_true rfl) dX0_takeFromBundle_42 hw
    · have hw := hw.2 hc
      refine lv_aload_n hC.1 hC.2.1 dX0_takeFromBundle_33 rfl (lv_at hl 1 rfl) ?_
      refine lv_aload_n hC.1 hC.2.1 dX0_takeFromBundle_34 rfl (lv_at hl 2 rfl) ?_
      refine m_getI hC hs hH cs1 fs1_0 (fun _ h => List.mem_cons_of_mem _ (inlX1 _ h)) (List.mem_cons_of_mem _ q_226) (fun _ h => h) k2 dX0_takeFromBundle_35 ?_
      have hw := hw _ rfl
      refine m_putI hC hs hH cs0 fs0_4 (fun _ h => List.mem_cons_of_mem _ (inlX0 _ h)) (List.mem_cons_of_mem _ q_181) (fun _ h => h) (Or.inl rfl) rfl k1 dX0_takeFromBundle_38 (fun H locs hH => ?_)
      refine lv_iload_n hC.1 hC.2.1 dX0_takeFromBundle_41 rfl (lv_at hl 0 rfl) ?_
      exact m_reti hC hH hrt rfl hlk (Nat.le_of_ble_eq_true rfl) (Nat.le_of_ble_eq_true rfl) dX0_takeFromBundle_42 hw
abbrev rm_X0_cents : Room := { frames := 1, cells := 0, slots := 0, locals := 24 }
def wp_X0_cents (z : Nat × Nat) (S : mmS) (p0 : Nat) (Q : Int32 → mmS → Prop) (X : String → mmS → Prop) : Prop := (p0 ∈ mL S ∧ mK S p0 = 0) ∧ ∀ v2 : Int64, v2 = (Int32.toInt64 (if (0 : Int32) < ((mI S 5 p0) - (mI S 0 p0)) then ((mI S 5 p0) - (mI S 0 p0)) else (0 : Int32))) → ∀ v3 : Int32, v3 = (Int64.toInt32 ((v2 * (Int32.toInt64 (mI S 1 p0))) / (100 : Int64))) → Q ((((mI S 5 p0) - v3) + (5 : Int32)) / (10 : Int32)) S
set_option maxHeartbeats 4000000 in
set_option maxRecDepth 100000 in
theorem met_X0_cents (l : Launch) (hl0 : l.stackTraces = false) (g : mG) (S : mmS) (p0 : Nat) (Q : Int32 → mmS → Prop) (X : String → mmS → Prop) (hX0 : ∀ (E : String) (S : mmS), ¬ X E S) (hw : wp_X0_cents g.2.2.2.2.2 S p0 Q X) : mMi l g yX0_cents (wA_ yX0_cents cX0_cents 4 (some .int)) rm_X0_cents [.ref p0] S Q X := by
  refine m_of (y := yX0_cents) (cc := cX0_cents) (maxL := 4) (ret := (some .int)) (by decide) rfl (Nat.le_of_ble_eq_true rfl) ?_
  intro p e s m args below meth c ls hC hrt hlk hmn hnx hs hH hl
  have hC : CallFix p m c cX0_cents 4 s args (wA_ yX0_cents cX0_cents 4 (some .int)) RX0 := hC
  have hl : lv_has ls 4 [(0, .ref p0)] := hl
  unfold wp_X0_cents at hw
  refine lv_iconst (v := 0) hC.1 hC.2.1 dX0_cents_0 (by decide) ?_
  refine lv_aload_n hC.1 hC.2.1 dX0_cents_1 rfl (lv_at hl 0 rfl) ?_
  obtain ⟨k1, hw⟩ := hw
  refine m_getI hC hs hH cs0 fs0_5 (fun _ h => List.mem_cons_of_mem _ (inlX0 _ h)) (List.mem_cons_of_mem _ q_182) (fun _ h => h) k1 dX0_cents_2 ?_
  refine lv_aload_n hC.1 hC.2.1 dX0_cents_5 rfl (lv_at hl 0 rfl) ?_
  refine m_getI hC hs hH cs0 fs0_0 (fun _ h => List.mem_cons_of_mem _ (inlX0 _ h)) (List.mem_cons_of_mem _ q_269) (fun _ h => h) k1 dX0_cents_6 ?_
  refine lv_isub hC.1 hC.2.1 dX0_cents_9 ?_
  refine m_max hC hl.1 (List.mem_cons_of_mem _ q_364) (List.mem_cons_of_mem _ q_104) (List.mem_cons_of_mem _ q_6) (List.mem_cons_of_mem _ q_105) (Nat.le_of_ble_eq_true rfl) (Nat.le_of_ble_eq_true rfl) (Nat.le_of_ble_eq_true rfl) (Nat.le_of_ble_eq_true rfl) dX0_cents_10 ?_
  refine lv_i2l hC.1 hC.2.1 dX0_cents_13 rfl ?_
  have hw := hw _ rfl
  refine lv_lstore_n (lv' := [(1, .long _), (0, .ref _)]) hC.1 hC.2.1 dX0_cents_14 rfl hl (by decide) rfl (fun ls hl => ?_)
  refine lv_lload_n hC.1 hC.2.1 dX0_cents_15 rfl (lv_at hl 0 rfl) ?_
  refine lv_aload_n hC.1 hC.2.1 dX0_cents_16 rfl (lv_at hl 1 rfl) ?_
  refine m_getI hC hs hH cs0 fs0_1 (fun _ h => List.mem_cons_of_mem _ (inlX0 _ h)) (List.mem_cons_of_mem _ q_270) (fun _ h => h) k1 dX0_cents_17 ?_
  refine lv_i2l hC.1 hC.2.1 dX0_cents_20 rfl ?_
  refine lv_lmul hC.1 hC.2.1 dX0_cents_21 ?_
  refine lv_ldc2 hC.1 hC.2.1 hC.2.2.2.1 (hC.2.2.2.2 _ (List.mem_cons_of_mem _ q_365)) dX0_cents_22 ?_
  refine lv_ldiv hC.1 hC.2.1 dX0_cents_25 (by decide) ?_
  refine lv_l2i hC.1 hC.2.1 dX0_cents_26 rfl ?_
  have hw := hw _ rfl
  refine lv_istore_n (lv' := [(3, .int _), (1, .long _), (0, .ref _)]) hC.1 hC.2.1 dX0_cents_27 rfl hl (by decide) rfl (fun ls hl => ?_)
  refine lv_aload_n hC.1 hC.2.1 dX0_cents_28 rfl (lv_at hl 2 rfl) ?_
  refine m_getI hC hs hH cs0 fs0_5 (fun _ h => List.mem_cons_of_mem _ (inlX0 _ h)) (List.mem_cons_of_mem _ q_182) (fun _ h => h) k1 dX0_cents_29 ?_
  refine lv_iload_n hC.1 hC.2.1 dX0_cents_32 rfl (lv_at hl 0 rfl) ?_
  refine lv_isub hC.1 hC.2.1 dX0_cents_33 ?_
  refine lv_iconst (v := 5) hC.1 hC.2.1 dX0_cents_34 (by decide) ?_
  refine lv_iadd hC.1 hC.2.1 dX0_cents_35 ?_
  refine lv_bipush (v := 10) hC.1 hC.2.1 dX0_cents_36 (by decide) ?_
  refine lv_idiv hC.1 hC.2.1 dX0_cents_38 (by decide) ?_
  exact m_reti hC hH hrt rfl hlk (Nat.le_of_ble_eq_true rfl) (Nat.le_of_ble_eq_true rfl) dX0_cents_39 hw
abbrev rm_X1_init : Room := { frames := 1, cells := 0, slots := 0, locals := 24 }
def wp_X1_init (z : Nat × Nat) (S : mmS) (p0 : Nat) (p1 : Int32) (p2 : Nat) (p3 : Int32) (p4 : Int32) (p5 : Int32) (Q : mmS → Prop) (X : String → mmS → Prop) : Prop := (p0 ∈ mL S ∧ mK S p0 = 1) ∧ ∀ S2 : mmS, S2 = sI S 6 p0 p1 → ∀ S3 : mmS, S3 = sR S2 0 p0 (some p2) → ∀ S4 : mmS, S4 = sI S3 7 p0 p3 → ∀ S5 : mmS, S5 = sI S4 9 p0 p4 → ∀ S6 : mmS, S6 = sI S5 8 p0 p5 → Q S6
set_option maxHeartbeats 4000000 in
set_option maxRecDepth 100000 in
theorem met_X1_init (l : Launch) (hl0 : l.stackTraces = false) (g : mG) (S : mmS) (p0 : Nat) (p1 : Int32) (p2 : Nat) (p3 : Int32) (p4 : Int32) (p5 : Int32) (Q : mmS → Prop) (X : String → mmS → Prop) (hX0 : ∀ (E : String) (S : mmS), ¬ X E S) (hw : wp_X1_init g.2.2.2.2.2 S p0 p1 p2 p3 p4 p5 Q X) : mMv l g yX1_init (wA_ yX1_init cX1_init 6 none) rm_X1_init [.ref p0, .int p1, .ref p2, .int p3, .int p4, .int p5] S Q X := by
  refine m_of (y := yX1_init) (cc := cX1_init) (maxL := 6) (ret := none) (by decide) rfl (Nat.le_of_ble_eq_true rfl) ?_
  intro p e s m args below meth c ls hC hrt hlk hmn hnx hs hH hl
  have hC : CallFix p m c cX1_init 6 s args (wA_ yX1_init cX1_init 6 none) RX1 := hC
  have hl : lv_has ls 6 [(0, .ref p0), (1, .int p1), (2, .ref p2), (3, .int p3), (4, .int p4), (5, .int p5)] := hl
  unfold wp_X1_init at hw
  refine lv_aload_n hC.1 hC.2.1 dX1_init_0 rfl (lv_at hl 0 rfl) ?_
  refine m_objInit hC hl.1 (List.mem_cons_of_mem _ q_305) (List.mem_cons_of_mem _ q_12) (List.mem_cons_of_mem _ q_13) (Nat.le_of_ble_eq_true rfl) (Nat.le_of_ble_eq_true rfl) dX1_init_1 ?_
  refine lv_aload_n hC.1 hC.2.1 dX1_init_4 rfl (lv_at hl 0 rfl) ?_
  refine lv_iload_n hC.1 hC.2.1 dX1_init_5 rfl (lv_at hl 1 rfl) ?_
  obtain ⟨k1, hw⟩ := hw
  have hw := hw _ rfl
  refine m_putI hC hs hH cs1 fs1_0 (fun _ h => List.mem_cons_of_mem _ (inlX1 _ h)) (List.mem_cons_of_mem _ q_306) (fun _ h => h) (Or.inr ⟨rfl, hmn, rfl⟩) rfl k1 dX1_init_6 (fun H locs hH => ?_)
  refine lv_aload_n hC.1 hC.2.1 dX1_init_9 rfl (lv_at hl 0 rfl) ?_
  refine lv_aload_n hC.1 hC.2.1 dX1_init_10 rfl (lv_at hl 2 rfl) ?_
  have hw := hw _ rfl
  refine m_putR hC hs hH cs1 fs1_1 (fun _ h => List.mem_cons_of_mem _ (inlX1 _ h)) (List.mem_cons_of_mem _ q_307) (fun _ h => h) (Or.inr ⟨rfl, hmn, rfl⟩) rfl rfl k1 dX1_init_11 (fun H locs hH => ?_)
  refine lv_aload_n hC.1 hC.2.1 dX1_init_14 rfl (lv_at hl 0 rfl) ?_
  refine lv_iload_n hC.1 hC.2.1 dX1_init_15 rfl (lv_at hl 3 rfl) ?_
  have hw := hw _ rfl
  refine m_putI hC hs hH cs1 fs1_2 (fun _ h => List.mem_cons_of_mem _ (inlX1 _ h)) (List.mem_cons_of_mem _ q_236) (fun _ h => h) (Or.inr ⟨rfl, hmn, rfl⟩) rfl k1 dX1_init_16 (fun H locs hH => ?_)
  refine lv_aload_n hC.1 hC.2.1 dX1_init_19 rfl (lv_at hl 0 rfl) ?_
  refine lv_iload hC.1 hC.2.1 dX1_init_20 (lv_at hl 4 rfl) ?_
  have hw := hw _ rfl
  refine m_putI hC hs hH cs1 fs1_4 (fun _ h => List.mem_cons_of_mem _ (inlX1 _ h)) (List.mem_cons_of_mem _ q_308) (fun _ h => h) (Or.inl rfl) rfl k1 dX1_init_22 (fun H locs hH => ?_)
  refine lv_aload_n hC.1 hC.2.1 dX1_init_25 rfl (lv_at hl 0 rfl) ?_
  refine lv_iload hC.1 hC.2.1 dX1_init_26 (lv_at hl 5 rfl) ?_
  have hw := hw _ rfl
  refine m_putI hC hs hH cs1 fs1_3 (fun _ h => List.mem_cons_of_mem _ (inlX1 _ h)) (List.mem_cons_of_mem _ q_309) (fun _ h => h) (Or.inr ⟨rfl, hmn, rfl⟩) rfl k1 dX1_init_28 (fun H locs hH => ?_)
  exact m_retv hC hH hrt hlk (Nat.le_of_ble_eq_true rfl) (Nat.le_of_ble_eq_true rfl) dX1_init_31 hw
abbrev rm_X1_day : Room := { frames := 1, cells := 0, slots := 0, locals := 0 }
def wp_X1_day (z : Nat × Nat) (S : mmS) (p0 : Nat) (Q : Int32 → mmS → Prop) (X : String → mmS → Prop) : Prop := (p0 ∈ mL S ∧ mK S p0 = 1) ∧ Q ((mI S 7 p0) / (1440 : Int32)) S
set_option maxHeartbeats 4000000 in
set_option maxRecDepth 100000 in
theorem met_X1_day (l : Launch) (hl0 : l.stackTraces = false) (g : mG) (S : mmS) (p0 : Nat) (Q : Int32 → mmS → Prop) (X : String → mmS → Prop) (hX0 : ∀ (E : String) (S : mmS), ¬ X E S) (hw : wp_X1_day g.2.2.2.2.2 S p0 Q X) : mMi l g yX1_day (wA_ yX1_day cX1_day 1 (some .int)) rm_X1_day [.ref p0] S Q X := by
  refine m_of (y := yX1_day) (cc := cX1_day) (maxL := 1) (ret := (some .int)) (by decide) rfl (Nat.le_of_ble_eq_true rfl) ?_
  intro p e s m args below meth c ls hC hrt hlk hmn hnx hs hH hl
  have hC : CallFix p m c cX1_day 1 s args (wA_ yX1_day cX1_day 1 (some .int)) RX1 := hC
  have hl : lv_has ls 1 [(0, .ref p0)] := hl
  unfold wp_X1_day at hw
  refine lv_aload_n hC.1 hC.2.1 dX1_day_0 rfl (lv_at hl 0 rfl) ?_
  obtain ⟨k1, hw⟩ := hw
  refine m_getI hC hs hH cs1 fs1_2 (fun _ h => List.mem_cons_of_mem _ (inlX1 _ h)) (List.mem_cons_of_mem _ q_236) (fun _ h => h) k1 dX1_day_1 ?_
  refine lv_sipush (v := 1440) hC.1 hC.2.1 dX1_day_4 (by decide) ?_
  refine lv_idiv hC.1 hC.2.1 dX1_day_7 (by decide) ?_
  exact m_reti hC hH hrt rfl hlk (Nat.le_of_ble_eq_true rfl) (Nat.le_of_ble_eq_true rfl) dX1_day_8 hw
abbrev rm_X1_forgetRating : Room := { frames := 1, cells := 0, slots := 0, locals := 0 }
def wp_X1_forgetRating (z : Nat × Nat) (S : mmS) (p0 : Nat) (Q : mmS → Prop) (X : String → mmS → Prop) : Prop := (p0 ∈ mL S ∧ mK S p0 = 1) ∧ ∀ S2 : mmS, S2 = sI S 10 p0 (0 : Int32) → ∀ S3 : mmS, S3 = sI S2 11 p0 (0 : Int32) → ∀ S4 : mmS, S4 = sI S3 12 p0 (0 : Int32) → ∀ S5 : mmS, S5 = sI S4 13 p0 (0 : Int32) → Q S5
set_option maxHeartbeats 4000000 in
set_option maxRecDepth 100000 in
theorem met_X1_forgetRating (l : Launch) (hl0 : l.stackTraces = false) (g : mG) (S : mmS) (p0 : Nat) (Q : mmS → Prop) (X : String → mmS → Prop) (hX0 : ∀ (E : String) (S : mmS), ¬ X E S) (hw : wp_X1_forgetRating g.2.2.2.2.2 S p0 Q X) : mMv l g yX1_forgetRating (wA_ yX1_forgetRating cX1_forgetRating 1 none) rm_X1_forgetRating [.ref p0] S Q X := by
  refine m_of (y := yX1_forgetRating) (cc := cX1_forgetRating) (maxL := 1) (ret := none) (by decide) rfl (Nat.le_of_ble_eq_true rfl) ?_
  intro p e s m args below meth c ls hC hrt hlk hmn hnx hs hH hl
  have hC : CallFix p m c cX1_forgetRating 1 s args (wA_ yX1_forgetRating cX1_forgetRating 1 none) RX1 := hC
  have hl : lv_has ls 1 [(0, .ref p0)] := hl
  unfold wp_X1_forgetRating at hw
  refine lv_aload_n hC.1 hC.2.1 dX1_forgetRating_0 rfl (lv_at hl 0 rfl) ?_
  refine lv_iconst (v := 0) hC.1 hC.2.1 dX1_forgetRating_1 (by decide) ?_
  obtain ⟨k1, hw⟩ := hw
  have hw := hw _ rfl
  refine m_putI hC hs hH cs1 fs1_5 (fun _ h => List.mem_cons_of_mem _ (inlX1 _ h)) (List.mem_cons_of_mem _ q_196) (fun _ h => h) (Or.inl rfl) rfl k1 dX1_forgetRating_2 (fun H locs hH => ?_)
  refine lv_aload_n hC.1 hC.2.1 dX1_forgetRating_5 rfl (lv_at hl 0 rfl) ?_
  refine lv_iconst (v := 0) hC.1 hC.2.1 dX1_forgetRating_6 (by decide) ?_
  have hw := hw _ rfl
  refine m_putI hC hs hH cs1 fs1_6 (fun _ h => List.mem_cons_of_mem _ (inlX1 _ h)) (List.mem_cons_of_mem _ q_197) (fun _ h => h) (Or.inl rfl) rfl k1 dX1_forgetRating_7 (fun H locs hH => ?_)
  refine lv_aload_n hC.1 hC.2.1 dX1_forgetRating_10 rfl (lv_at hl 0 rfl) ?_
  refine lv_iconst (v := 0) hC.1 hC.2.1 dX1_forgetRating_11 (by decide) ?_
  have hw := hw _ rfl
  refine m_putI hC hs hH cs1 fs1_7 (fun _ h => List.mem_cons_of_mem _ (inlX1 _ h)) (List.mem_cons_of_mem _ q_198) (fun _ h => h) (Or.inl rfl) rfl k1 dX1_forgetRating_12 (fun H locs hH => ?_)
  refine lv_aload_n hC.1 hC.2.1 dX1_forgetRating_15 rfl (lv_at hl 0 rfl) ?_
  refine lv_iconst (v := 0) hC.1 hC.2.1 dX1_forgetRating_16 (by decide) ?_
  have hw := hw _ rfl
  refine m_putI hC hs hH cs1 fs1_8 (fun _ h => List.mem_cons_of_mem _ (inlX1 _ h)) (List.mem_cons_of_mem _ q_199) (fun _ h => h) (Or.inl rfl) rfl k1 dX1_forgetRating_17 (fun H locs hH => ?_)
  exact m_retv hC hH hrt hlk (Nat.le_of_ble_eq_true rfl) (Nat.le_of_ble_eq_true rfl) dX1_forgetRating_20 hw
abbrev rm_X1_tell : Room := { frames := 1, cells := 0, slots := 0, locals := 0 }
def wp_X1_tell (z : Nat × Nat) (S : mmS) (p0 : Nat) (p1 : Int32) (Q : Int32 → mmS → Prop) (X : String → mmS → Prop) : Prop := (Int32.toInt p1 < 0 ∨ 3 < Int32.toInt p1 → (p0 ∈ mL S ∧ mK S p0 = 1) ∧ Q (mI S 13 p0) S) ∧ (Int32.toInt p1 = 0 → (p0 ∈ mL S ∧ mK S p0 = 1) ∧ Q (mI S 9 p0) S) ∧ (Int32.toInt p1 = 1 → (p0 ∈ mL S ∧ mK S p0 = 1) ∧ Q (mI S 10 p0) S) ∧ (Int32.toInt p1 = 2 → (p0 ∈ mL S ∧ mK S p0 = 1) ∧ Q (mI S 11 p0) S) ∧ (Int32.toInt p1 = 3 → (p0 ∈ mL S ∧ mK S p0 = 1) ∧ Q (mI S 12 p0) S)
set_option maxHeartbeats 4000000 in
set_option maxRecDepth 100000 in
theorem met_X1_tell (l : Launch) (hl0 : l.stackTraces = false) (g : mG) (S : mmS) (p0 : Nat) (p1 : Int32) (Q : Int32 → mmS → Prop) (X : String → mmS → Prop) (hX0 : ∀ (E : String) (S : mmS), ¬ X E S) (hw : wp_X1_tell g.2.2.2.2.2 S p0 p1 Q X) : mMi l g yX1_tell (wA_ yX1_tell cX1_tell 2 (some .int)) rm_X1_tell [.ref p0, .int p1] S Q X := by
  refine m_of (y := yX1_tell) (cc := cX1_tell) (maxL := 2) (ret := (some .int)) (by decide) rfl (Nat.le_of_ble_eq_true rfl) ?_
  intro p e s m args below meth c ls hC hrt hlk hmn hnx hs hH hl
  have hC : CallFix p m c cX1_tell 2 s args (wA_ yX1_tell cX1_tell 2 (some .int)) RX1 := hC
  have hl : lv_has ls 2 [(0, .ref p0), (1, .int p1)] := hl
  unfold wp_X1_tell at hw
  refine lv_iload_n hC.1 hC.2.1 dX1_tell_0 rfl (lv_at hl 1 rfl) ?_
  refine m_switch hC dX1_tell_1 (fun hc => ?_) (fun hc1 hc2 => ?_)
  · have hw := hw.1 hc
    refine lv_tableOut (tgt := 52) hC.1 hC.2.1 dX1_tell_1 hc (by decide) ?_
    refine lv_aload_n hC.1 hC.2.1 dX1_tell_52 rfl (lv_at hl 0 rfl) ?_
    obtain ⟨k1, hw⟩ := hw
    refine m_getI hC hs hH cs1 fs1_8 (fun _ h => List.mem_cons_of_mem _ (inlX1 _ h)) (List.mem_cons_of_mem _ q_199) (fun _ h => h) k1 dX1_tell_53 ?_
    exact m_reti hC hH hrt rfl hlk (Nat.le_of_ble_eq_true rfl) (Nat.le_of_ble_eq_true rfl) dX1_tell_56 hw
  · have hw := hw.2
    have hj : Int32.toInt _ = 0 ∨ Int32.toInt _ = 1 ∨ Int32.toInt _ = 2 ∨ Int32.toInt _ = 3 := m_cases4 hc1 hc2
    rcases hj with hj | hj | hj | hj
    · have hw := hw.1 hj
      refine lv_tableIn (off := 31) (tgt := 32) hC.1 hC.2.1 dX1_tell_1 (by rw [hj]; decide) (by rw [hj]; decide) (by rw [hj]; decide) (by decide) ?_
      refine lv_aload_n hC.1 hC.2.1 dX1_tell_32 rfl (lv_at hl 0 rfl) ?_
      obtain ⟨k2, hw⟩ := hw
      refine m_getI hC hs hH cs1 fs1_4 (fun _ h => List.mem_cons_of_mem _ (inlX1 _ h)) (List.mem_cons_of_mem _ q_308) (fun _ h => h) k2 dX1_tell_33 ?_
      exact m_reti hC hH hrt rfl hlk (Nat.le_of_ble_eq_true rfl) (Nat.le_of_ble_eq_true rfl) dX1_tell_36 hw
    · have hw := hw.2.1 hj
      refine lv_tableIn (off := 36) (tgt := 37) hC.1 hC.2.1 dX1_tell_1 (by rw [hj]; decide) (by rw [hj]; decide) (by rw [hj]; decide) (by decide) ?_
      refine lv_aload_n hC.1 hC.2.1 dX1_tell_37 rfl (lv_at hl 0 rfl) ?_
      obtain ⟨k3, hw⟩ := hw
      refine m_getI hC hs hH cs1 fs1_5 (fun _ h => List.mem_cons_of_mem _ (inlX1 _ h)) (List.mem_cons_of_mem _ q_196) (fun _ h => h) k3 dX1_tell_38 ?_
      exact m_reti hC hH hrt rfl hlk (Nat.le_of_ble_eq_true rfl) (Nat.le_of_ble_eq_true rfl) dX1_tell_41 hw
    · have hw := hw.2.2.1 hj
      refine lv_tableIn (off := 41) (tgt := 42) hC.1 hC.2.1 dX1_tell_1 (by rw [hj]; decide) (by rw [hj]; decide) (by rw [hj]; decide) (by decide) ?_
      refine lv_aload_n hC.1 hC.2.1 dX1_tell_42 rfl (lv_at hl 0 rfl) ?_
      obtain ⟨k4, hw⟩ := hw
      refine m_getI hC hs hH cs1 fs1_6 (fun _ h => List.mem_cons_of_mem _ (inlX1 _ h)) (List.mem_cons_of_mem _ q_197) (fun _ h => h) k4 dX1_tell_43 ?_
      exact m_reti hC hH hrt rfl hlk (Nat.le_of_ble_eq_true rfl) (Nat.le_of_ble_eq_true rfl) dX1_tell_46 hw
    · have hw := hw.2.2.2 hj
      refine lv_tableIn (off := 46) (tgt := 47) hC.1 hC.2.1 dX1_tell_1 (by rw [hj]; decide) (by rw [hj]; decide) (by rw [hj]; decide) (by decide) ?_
      refine lv_aload_n hC.1 hC.2.1 dX1_tell_47 rfl (lv_at hl 0 rfl) ?_
      obtain ⟨k5, hw⟩ := hw
      refine m_getI hC hs hH cs1 fs1_7 (fun _ h => List.mem_cons_of_mem _ (inlX1 _ h)) (List.mem_cons_of_mem _ q_198) (fun _ h => h) k5 dX1_tell_48 ?_
      exact m_reti hC hH hrt rfl hlk (Nat.le_of_ble_eq_true rfl) (Nat.le_of_ble_eq_true rfl) dX1_tell_51 hw
abbrev rm_X2_init : Room := { frames := 1, cells := 3, slots := 9, locals := 24 }
def wp_X2_init (z : Nat × Nat) (S : mmS) (p0 : Nat) (p1 : Nat) (p2 : Nat) (Q : mmS → Prop) (X : String → mmS → Prop) : Prop := ∀ q1 : Nat, q1 ∉ mL S → ∀ S3 : mmS, S3 = sNa S q1 3 → (p0 ∈ mL S3 ∧ mK S3 p0 = 2) ∧ ∀ S5 : mmS, S5 = sR S3 3 p0 (some q1) → ∀ q6 : Nat, q6 ∉ mL S5 → ∀ S8 : mmS, S8 = sNa S5 q6 3 → ∀ S9 : mmS, S9 = sR S8 4 p0 (some q6) → ∀ q10 : Nat, q10 ∉ mL S9 → ∀ S12 : mmS, S12 = sNa S9 q10 3 → ∀ S13 : mmS, S13 = sR S12 5 p0 (some q10) → ∀ S14 : mmS, S14 = sR S13 1 p0 (some p1) → ∀ S15 : mmS, S15 = sR S14 2 p0 (some p2) → Q S15
set_option maxHeartbeats 4000000 in
set_option maxRecDepth 100000 in
theorem met_X2_init (l : Launch) (hl0 : l.stackTraces = false) (g : mG) (S : mmS) (p0 : Nat) (p1 : Nat) (p2 : Nat) (Q : mmS → Prop) (X : String → mmS → Prop) (hX0 : ∀ (E : String) (S : mmS), ¬ X E S) (hw : wp_X2_init g.2.2.2.2.2 S p0 p1 p2 Q X) : mMv l g yX2_init (wA_ yX2_init cX2_init 3 none) rm_X2_init [.ref p0, .ref p1, .ref p2] S Q X := by
  refine m_of (y := yX2_init) (cc := cX2_init) (maxL := 3) (ret := none) (by decide) rfl (Nat.le_of_ble_eq_true rfl) ?_
  intro p e s m args below meth c ls hC hrt hlk hmn hnx hs hH hl
  have hC : CallFix p m c cX2_init 3 s args (wA_ yX2_init cX2_init 3 none) RX2 := hC
  have hl : lv_has ls 3 [(0, .ref p0), (1, .ref p1), (2, .ref p2)] := hl
  unfold wp_X2_init at hw
  refine lv_aload_n hC.1 hC.2.1 dX2_init_0 rfl (lv_at hl 0 rfl) ?_
  refine m_objInit hC hl.1 (List.mem_cons_of_mem _ q_284) (List.mem_cons_of_mem _ q_12) (List.mem_cons_of_mem _ q_13) (Nat.le_of_ble_eq_true rfl) (Nat.le_of_ble_eq_true rfl) dX2_init_1 ?_
  refine lv_aload_n hC.1 hC.2.1 dX2_init_4 rfl (lv_at hl 0 rfl) ?_
  refine lv_iconst (v := 3) hC.1 hC.2.1 dX2_init_5 (by decide) ?_
  refine m_newI (N' := 3) hC hs hH (List.mem_cons_of_mem _ q_3) (by decide) (by decide) (by decide) (Nat.le_of_ble_eq_true rfl) (Nat.le_of_ble_eq_true rfl) dX2_init_6 (fun q1 H f2 hH => ?_)
  have hw := hw q1 f2 _ rfl
  refine W.widen (k := 1) (n := 3) (Nat.le_of_ble_eq_true rfl) (Nat.le_of_ble_eq_true rfl) ?_
  obtain ⟨k4, hw⟩ := hw
  have hw := hw _ rfl
  refine m_putR hC hs hH cs2 fs2_3 (fun _ h => List.mem_cons_of_mem _ (inlX2 _ h)) (List.mem_cons_of_mem _ q_189) (fun _ h => h) (Or.inr ⟨rfl, hmn, rfl⟩) rfl rfl k4 dX2_init_8 (fun H locs hH => ?_)
  refine lv_aload_n hC.1 hC.2.1 dX2_init_11 rfl (lv_at hl 0 rfl) ?_
  refine lv_iconst (v := 3) hC.1 hC.2.1 dX2_init_12 (by decide) ?_
  refine m_newI (N' := 3) hC hs hH (List.mem_cons_of_mem _ q_3) (by decide) (by decide) (by decide) (Nat.le_of_ble_eq_true rfl) (Nat.le_of_ble_eq_true rfl) dX2_init_13 (fun q6 H f7 hH => ?_)
  have hw := hw q6 f7 _ rfl
  refine W.widen (k := 2) (n := 6) (Nat.le_of_ble_eq_true rfl) (Nat.le_of_ble_eq_true rfl) ?_
  have hw := hw _ rfl
  refine m_putR hC hs hH cs2 fs2_4 (fun _ h => List.mem_cons_of_mem _ (inlX2 _ h)) (List.mem_cons_of_mem _ q_190) (fun _ h => h) (Or.inr ⟨rfl, hmn, rfl⟩) rfl rfl (mkN k4 f7) dX2_init_15 (fun H locs hH => ?_)
  refine lv_aload_n hC.1 hC.2.1 dX2_init_18 rfl (lv_at hl 0 rfl) ?_
  refine lv_iconst (v := 3) hC.1 hC.2.1 dX2_init_19 (by decide) ?_
  refine m_newI (N' := 3) hC hs hH (List.mem_cons_of_mem _ q_3) (by decide) (by decide) (by decide) (Nat.le_of_ble_eq_true rfl) (Nat.le_of_ble_eq_true rfl) dX2_init_20 (fun q10 H f11 hH => ?_)
  have hw := hw q10 f11 _ rfl
  refine W.widen (k := 3) (n := 9) (Nat.le_of_ble_eq_true rfl) (Nat.le_of_ble_eq_true rfl) ?_
  have hw := hw _ rfl
  refine m_putR hC hs hH cs2 fs2_5 (fun _ h => List.mem_cons_of_mem _ (inlX2 _ h)) (List.mem_cons_of_mem _ q_244) (fun _ h => h) (Or.inr ⟨rfl, hmn, rfl⟩) rfl rfl (mkN (mkN k4 f7) f11) dX2_init_22 (fun H locs hH => ?_)
  refine lv_aload_n hC.1 hC.2.1 dX2_init_25 rfl (lv_at hl 0 rfl) ?_
  refine lv_aload_n hC.1 hC.2.1 dX2_init_26 rfl (lv_at hl 1 rfl) ?_
  have hw := hw _ rfl
  refine m_putR hC hs hH cs2 fs2_0 (fun _ h => List.mem_cons_of_mem _ (inlX2 _ h)) (List.mem_cons_of_mem _ q_285) (fun _ h => h) (Or.inr ⟨rfl, hmn, rfl⟩) rfl rfl (mkN (mkN k4 f7) f11) dX2_init_27 (fun H locs hH => ?_)
  refine lv_aload_n hC.1 hC.2.1 dX2_init_30 rfl (lv_at hl 0 rfl) ?_
  refine lv_aload_n hC.1 hC.2.1 dX2_init_31 rfl (lv_at hl 2 rfl) ?_
  have hw := hw _ rfl
  refine m_putR hC hs hH cs2 fs2_1 (fun _ h => List.mem_cons_of_mem _ (inlX2 _ h)) (List.mem_cons_of_mem _ q_286) (fun _ h => h) (Or.inl rfl) rfl rfl (mkN (mkN k4 f7) f11) dX2_init_32 (fun H locs hH => ?_)
  exact m_retv hC hH hrt hlk (Nat.le_of_ble_eq_true rfl) (Nat.le_of_ble_eq_true rfl) dX2_init_35 hw
abbrev rm_X2_forgetRating : Room := { frames := 1, cells := 0, slots := 0, locals := 0 }
def bk_X2_forgetRating_7 (z : Nat × Nat) (Q : mmS → Prop) (X : String → mmS → Prop) (K7 : mmS → Nat → Int32 → Prop) (S : mmS) (x0 : Nat) (x1 : Int32) : Prop := ((3 : Int32) ≤ x1 → Q S) ∧ (¬ (3 : Int32) ≤ x1 → (x0 ∈ mL S ∧ mK S x0 = 2) ∧ ∃ b2 : Nat, mR S 3 x0 = some b2 ∧ (b2 ∈ mL S ∧ mK S b2 = 7) ∧ vp_in x1 (mN S b2) ∧ ∀ S6 : mmS, S6 = sA S b2 (x1).toNatClampNeg (0 : Int32) → ∃ b7 : Nat, mR S6 4 x0 = some b7 ∧ (b7 ∈ mL S6 ∧ mK S6 b7 = 7) ∧ vp_in x1 (mN S6 b7) ∧ ∀ S11 : mmS, S11 = sA S6 b7 (x1).toNatClampNeg (-1 : Int32) → ∀ v12 : Int32, v12 = x1 + 1 → K7 S11 x0 v12)
def lp_X2_forgetRating_7 (z : Nat × Nat) (Q : mmS → Prop) (X : String → mmS → Prop) : Nat → mmS → Nat → Int32 → Prop
  | 0 => fun _ _ _ => False
  | n + 1 => bk_X2_forgetRating_7 z Q X (lp_X2_forgetRating_7 z Q X n)
def wp_X2_forgetRating (z : Nat × Nat) (S : mmS) (p0 : Nat) (Q : mmS → Prop) (X : String → mmS → Prop) : Prop := (p0 ∈ mL S ∧ mK S p0 = 2) ∧ ∀ S2 : mmS, S2 = sI S 14 p0 (0 : Int32) → ∀ v3 : Int32, v3 = (1 : Int32) → ∃ n : Nat, lp_X2_forgetRating_7 z Q X n S2 p0 v3
set_option maxHeartbeats 4000000 in
set_option maxRecDepth 100000 in
theorem bw_X2_forgetRating_7 {p : Program} {l : Launch} {e : Env} {s : State} {m : MethodId} {args : Array Value} {below : List Frame} {meth : Method} {c : Code} {g : mG} {Q : mmS → Prop} {X : String → mmS → Prop} (hl0 : l.stackTraces = false) (hC : CallFix p m c cX2_forgetRating 2 s args (wA_ yX2_forgetRating cX2_forgetRating 2 none) RX2) (hrt : meth.sig.returnType = none) (hlk : meth.locks = false) (hmn : meth.name = yX2_forgetRating.name) (hnx : ∀ x ∈ c.exceptionTable.toList, False) (hs : mX g s) (hX0 : ∀ (E : String) (S : mmS), ¬ X E S) {K7 : mmS → Nat → Int32 → Prop} (hk7 : ∀ (S : mmS) (x0 : Nat) (x1 : Int32), K7 S x0 x1 → ∀ (H : Heap) (locs : List Loc), mH g S s H locs → ∀ ls : Array Slot, lv_has ls 2 [(0, .ref x0), (1, .int x1)] → W p l e rm_X2_forgetRating s m args below meth c H locs 0 0 (vx_MQ below (va_Qv Q (wO g) (mB g)) (vx_X (fun _ : mmS => True) (fun E S1 t => X E S1 ∧ wO g S1 t) (mB g)) args s rm_X2_forgetRating.cells rm_X2_forgetRating.slots (mB g)) (F0 m 7 ls [])) : ∀ (S : mmS) (x0 : Nat) (x1 : Int32), bk_X2_forgetRating_7 g.2.2.2.2.2 Q X K7 S x0 x1 → ∀ (H : Heap) (locs : List Loc), mH g S s H locs → ∀ ls : Array Slot, lv_has ls 2 [(0, .ref x0), (1, .int x1)] → W p l e rm_X2_forgetRating s m args below meth c H locs 0 0 (vx_MQ below (va_Qv Q (wO g) (mB g)) (vx_X (fun _ : mmS => True) (fun E S1 t => X E S1 ∧ wO g S1 t) (mB g)) args s rm_X2_forgetRating.cells rm_X2_forgetRating.slots (mB g)) (F0 m 7 ls []) := by
  intro S x0 x1 hw H locs hH ls hl
  unfold bk_X2_forgetRating_7 at hw
  refine lv_iload_n hC.1 hC.2.1 dX2_forgetRating_7 rfl (lv_at hl 1 rfl) ?_
  refine lv_iconst (v := 3) hC.1 hC.2.1 dX2_forgetRating_8 (by decide) ?_
  refine lv_icmp_ge (tgt := 32) hC.1 hC.2.1 dX2_forgetRating_9 (by decide) (fun hc => ?_) (fun hc => ?_)
  · have hw := hw.1 hc
    exact m_retv hC hH hrt hlk (Nat.le_of_ble_eq_true rfl) (Nat.le_of_ble_eq_true rfl) dX2_forgetRating_32 hw
  · have hw := hw.2 hc
    refine lv_aload_n hC.1 hC.2.1 dX2_forgetRating_12 rfl (lv_at hl 0 rfl) ?_
    obtain ⟨k1, hw⟩ := hw
    obtain ⟨b2, r3, hw⟩ := hw
    refine m_getR hC hs hH cs2 fs2_3 (fun _ h => List.mem_cons_of_mem _ (inlX2 _ h)) (List.mem_cons_of_mem _ q_189) (fun _ h => h) k1 r3 dX2_forgetRating_13 ?_
    refine lv_iload_n hC.1 hC.2.1 dX2_forgetRating_16 rfl (lv_at hl 1 rfl) ?_
    refine lv_iconst (v := 0) hC.1 hC.2.1 dX2_forgetRating_17 (by decide) ?_
    obtain ⟨k4, hw⟩ := hw
    obtain ⟨i5, hw⟩ := hw
    have hw := hw _ rfl
    refine m_iast hC hs hH k4 i5 dX2_forgetRating_18 (fun H locs hH => ?_)
    refine lv_aload_n hC.1 hC.2.1 dX2_forgetRating_19 rfl (lv_at hl 0 rfl) ?_
    obtain ⟨b7, r8, hw⟩ := hw
    refine m_getR hC hs hH cs2 fs2_4 (fun _ h => List.mem_cons_of_mem _ (inlX2 _ h)) (List.mem_cons_of_mem _ q_190) (fun _ h => h) k1 r8 dX2_forgetRating_20 ?_
    refine lv_iload_n hC.1 hC.2.1 dX2_forgetRating_23 rfl (lv_at hl 1 rfl) ?_
    refine lv_iconst (v := (-1)) hC.1 hC.2.1 dX2_forgetRating_24 (by decide) ?_
    obtain ⟨k9, hw⟩ := hw
    obtain ⟨i10, hw⟩ := hw
    have hw := hw _ rfl
    refine m_iast hC hs hH k9 i10 dX2_forgetRating_25 (fun H locs hH => ?_)
    have hw := hw _ rfl
    refine lv_iinc (lv' := [(1, .int _), (0, .ref _)]) hC.1 hC.2.1 dX2_forgetRating_26 hl (k := 1) rfl (rfl : (_ : Int32) + Int32.ofInt 1 = (_ : Int32) + 1) (by decide) rfl (fun ls hl => ?_)
    refine lv_goto (tgt := 7) hC.1 hC.2.1 dX2_forgetRating_29 (by decide) ?_
    exact hk7 _ _ _ hw _ _ hH _ (lv_sub hl [1, 0] rfl)
theorem lw_X2_forgetRating_7 {p : Program} {l : Launch} {e : Env} {s : State} {m : MethodId} {args : Array Value} {below : List Frame} {meth : Method} {c : Code} {g : mG} {Q : mmS → Prop} {X : String → mmS → Prop} (hl0 : l.stackTraces = false) (hC : CallFix p m c cX2_forgetRating 2 s args (wA_ yX2_forgetRating cX2_forgetRating 2 none) RX2) (hrt : meth.sig.returnType = none) (hlk : meth.locks = false) (hmn : meth.name = yX2_forgetRating.name) (hnx : ∀ x ∈ c.exceptionTable.toList, False) (hs : mX g s) (hX0 : ∀ (E : String) (S : mmS), ¬ X E S) : ∀ (n : Nat) (S : mmS) (x0 : Nat) (x1 : Int32), lp_X2_forgetRating_7 g.2.2.2.2.2 Q X n S x0 x1 → ∀ (H : Heap) (locs : List Loc), mH g S s H locs → ∀ ls : Array Slot, lv_has ls 2 [(0, .ref x0), (1, .int x1)] → W p l e rm_X2_forgetRating s m args below meth c H locs 0 0 (vx_MQ below (va_Qv Q (wO g) (mB g)) (vx_X (fun _ : mmS => True) (fun E S1 t => X E S1 ∧ wO g S1 t) (mB g)) args s rm_X2_forgetRating.cells rm_X2_forgetRating.slots (mB g)) (F0 m 7 ls []) := by
  intro n
  induction n with
  | zero => intro S x0 x1 hw; exact False.elim hw
  | succ n ih => exact fun S x0 x1 hw => bw_X2_forgetRating_7 hl0 hC hrt hlk hmn hnx hs hX0 (K7 := lp_X2_forgetRating_7 g.2.2.2.2.2 Q X n) ih S x0 x1 hw
set_option maxHeartbeats 4000000 in
set_option maxRecDepth 100000 in
theorem met_X2_forgetRating (l : Launch) (hl0 : l.stackTraces = false) (g : mG) (S : mmS) (p0 : Nat) (Q : mmS → Prop) (X : String → mmS → Prop) (hX0 : ∀ (E : String) (S : mmS), ¬ X E S) (hw : wp_X2_forgetRating g.2.2.2.2.2 S p0 Q X) : mMv l g yX2_forgetRating (wA_ yX2_forgetRating cX2_forgetRating 2 none) rm_X2_forgetRating [.ref p0] S Q X := by
  refine m_of (y := yX2_forgetRating) (cc := cX2_forgetRating) (maxL := 2) (ret := none) (by decide) rfl (Nat.le_of_ble_eq_true rfl) ?_
  intro p e s m args below meth c ls hC hrt hlk hmn hnx hs hH hl
  have hC : CallFix p m c cX2_forgetRating 2 s args (wA_ yX2_forgetRating cX2_forgetRating 2 none) RX2 := hC
  have hl : lv_has ls 2 [(0, .ref p0)] := hl
  unfold wp_X2_forgetRating at hw
  refine lv_aload_n hC.1 hC.2.1 dX2_forgetRating_0 rfl (lv_at hl 0 rfl) ?_
  refine lv_iconst (v := 0) hC.1 hC.2.1 dX2_forgetRating_1 (by decide) ?_
  obtain ⟨k1, hw⟩ := hw
  have hw := hw _ rfl
  refine m_putI hC hs hH cs2 fs2_2 (fun _ h => List.mem_cons_of_mem _ (inlX2 _ h)) (List.mem_cons_of_mem _ q_188) (fun _ h => h) (Or.inl rfl) rfl k1 dX2_forgetRating_2 (fun H locs hH => ?_)
  refine lv_iconst (v := 1) hC.1 hC.2.1 dX2_forgetRating_5 (by decide) ?_
  have hw := hw _ rfl
  refine lv_istore_n (lv' := [(1, .int _), (0, .ref _)]) hC.1 hC.2.1 dX2_forgetRating_6 rfl hl (by decide) rfl (fun ls hl => ?_)
  obtain ⟨n, hw⟩ := hw
  exact lw_X2_forgetRating_7 hl0 hC hrt hlk hmn hnx hs hX0 n _ _ _ hw _ _ hH _ (lv_sub hl [1, 0] rfl)
abbrev rm_X2_beginsFeeDay : Room := { frames := 1, cells := 0, slots := 0, locals := 0 }
def wp_X2_beginsFeeDay (z : Nat × Nat) (S : mmS) (p0 : Nat) (p1 : Int32) (p2 : Int32) (Q : Int32 → mmS → Prop) (X : String → mmS → Prop) : Prop := (p0 ∈ mL S ∧ mK S p0 = 2) ∧ ∃ b2 : Nat, mR S 4 p0 = some b2 ∧ (b2 ∈ mL S ∧ mK S b2 = 7) ∧ vp_in p1 (mN S b2) ∧ (¬ (mA S b2 (p1).toNatClampNeg) = p2 → ∃ b6 : Nat, mR S 4 p0 = some b6 ∧ (b6 ∈ mL S ∧ mK S b6 = 7) ∧ vp_in p1 (mN S b6) ∧ ∀ S10 : mmS, S10 = sA S b6 (p1).toNatClampNeg p2 → ∃ b11 : Nat, mR S10 5 p0 = some b11 ∧ (b11 ∈ mL S10 ∧ mK S10 b11 = 7) ∧ vp_in p1 (mN S10 b11) ∧ ∀ S15 : mmS, S15 = sA S10 b11 (p1).toNatClampNeg (1800 : Int32) → ∃ b16 : Nat, mR S15 3 p0 = some b16 ∧ (b16 ∈ mL S15 ∧ mK S15 b16 = 7) ∧ vp_in p1 (mN S15 b16) ∧ vp_in p1 (mN S15 b16) ∧ ∀ S21 : mmS, S21 = sA S15 b16 (p1).toNatClampNeg ((mA S15 b16 (p1).toNatClampNeg) + (1 : Int32)) → Q (1 : Int32) S21) ∧ ((mA S b2 (p1).toNatClampNeg) = p2 → Q (0 : Int32) S)
set_option maxHeartbeats 4000000 in
set_option maxRecDepth 100000 in
theorem met_X2_beginsFeeDay (l : Launch) (hl0 : l.stackTraces = false) (g : mG) (S : mmS) (p0 : Nat) (p1 : Int32) (p2 : Int32) (Q : Int32 → mmS → Prop) (X : String → mmS → Prop) (hX0 : ∀ (E : String) (S : mmS), ¬ X E S) (hw : wp_X2_beginsFeeDay g.2.2.2.2.2 S p0 p1 p2 Q X) : mMi l g yX2_beginsFeeDay (wA_ yX2_beginsFeeDay cX2_beginsFeeDay 3 (some .boolean)) rm_X2_beginsFeeDay [.ref p0, .int p1, .int p2] S Q X := by
  refine m_of (y := yX2_beginsFeeDay) (cc := cX2_beginsFeeDay) (maxL := 3) (ret := (some .boolean)) (by decide) rfl (Nat.le_of_ble_eq_true rfl) ?_
  intro p e s m args below meth c ls hC hrt hlk hmn hnx hs hH hl
  have hC : CallFix p m c cX2_beginsFeeDay 3 s args (wA_ yX2_beginsFeeDay cX2_beginsFeeDay 3 (some .boolean)) RX2 := hC
  have hl : lv_has ls 3 [(0, .ref p0), (1, .int p1), (2, .int p2)] := hl
  unfold wp_X2_beginsFeeDay at hw
  refine lv_aload_n hC.1 hC.2.1 dX2_beginsFeeDay_0 rfl (lv_at hl 0 rfl) ?_
  obtain ⟨k1, hw⟩ := hw
  obtain ⟨b2, r3, hw⟩ := hw
  refine m_getR hC hs hH cs2 fs2_4 (fun _ h => List.mem_cons_of_mem _ (inlX2 _ h)) (List.mem_cons_of_mem _ q_190) (fun _ h => h) k1 r3 dX2_beginsFeeDay_1 ?_
  refine lv_iload_n hC.1 hC.2.1 dX2_beginsFeeDay_4 rfl (lv_at hl 1 rfl) ?_
  obtain ⟨k4, hw⟩ := hw
  obtain ⟨i5, hw⟩ := hw
  refine m_iald hC hs hH k4 i5 dX2_beginsFeeDay_5 ?_
  refine lv_iload_n hC.1 hC.2.1 dX2_beginsFeeDay_6 rfl (lv_at hl 2 rfl) ?_
  refine lv_icmp_ne (tgt := 12) hC.1 hC.2.1 dX2_beginsFeeDay_7 (by decide) (fun hc => ?_) (fun hc => ?_)
  · have hw := hw.1 hc
    refine lv_aload_n hC.1 hC.2.1 dX2_beginsFeeDay_12 rfl (lv_at hl 0 rfl) ?_
    obtain ⟨b6, r7, hw⟩ := hw
    refine m_getR hC hs hH cs2 fs2_4 (fun _ h => List.mem_cons_of_mem _ (inlX2 _ h)) (List.mem_cons_of_mem _ q_190) (fun _ h => h) k1 r7 dX2_beginsFeeDay_13 ?_
    refine lv_iload_n hC.1 hC.2.1 dX2_beginsFeeDay_16 rfl (lv_at hl 1 rfl) ?_
    refine lv_iload_n hC.1 hC.2.1 dX2_beginsFeeDay_17 rfl (lv_at hl 2 rfl) ?_
    obtain ⟨k8, hw⟩ := hw
    obtain ⟨i9, hw⟩ := hw
    have hw := hw _ rfl
    refine m_iast hC hs hH k8 i9 dX2_beginsFeeDay_18 (fun H locs hH => ?_)
    refine lv_aload_n hC.1 hC.2.1 dX2_beginsFeeDay_19 rfl (lv_at hl 0 rfl) ?_
    obtain ⟨b11, r12, hw⟩ := hw
    refine m_getR hC hs hH cs2 fs2_5 (fun _ h => List.mem_cons_of_mem _ (inlX2 _ h)) (List.mem_cons_of_mem _ q_244) (fun _ h => h) k1 r12 dX2_beginsFeeDay_20 ?_
    refine lv_iload_n hC.1 hC.2.1 dX2_beginsFeeDay_23 rfl (lv_at hl 1 rfl) ?_
    refine lv_sipush (v := 1800) hC.1 hC.2.1 dX2_beginsFeeDay_24 (by decide) ?_
    obtain ⟨k13, hw⟩ := hw
    obtain ⟨i14, hw⟩ := hw
    have hw := hw _ rfl
    refine m_iast hC hs hH k13 i14 dX2_beginsFeeDay_27 (fun H locs hH => ?_)
    refine lv_aload_n hC.1 hC.2.1 dX2_beginsFeeDay_28 rfl (lv_at hl 0 rfl) ?_
    obtain ⟨b16, r17, hw⟩ := hw
    refine m_getR hC hs hH cs2 fs2_3 (fun _ h => List.mem_cons_of_mem _ (inlX2 _ h)) (List.mem_cons_of_mem _ q_189) (fun _ h => h) k1 r17 dX2_beginsFeeDay_29 ?_
    refine lv_iload_n hC.1 hC.2.1 dX2_beginsFeeDay_32 rfl (lv_at hl 1 rfl) ?_
    refine lv_dup2_11 hC.1 hC.2.1 dX2_beginsFeeDay_33 rfl rfl ?_
    obtain ⟨k18, hw⟩ := hw
    obtain ⟨i19, hw⟩ := hw
    refine m_iald hC hs hH k18 i19 dX2_beginsFeeDay_34 ?_
    refine lv_iconst (v := 1) hC.1 hC.2.1 dX2_beginsFeeDay_35 (by decide) ?_
    refine lv_iadd hC.1 hC.2.1 dX2_beginsFeeDay_36 ?_
    obtain ⟨i20, hw⟩ := hw
    have hw := hw _ rfl
    refine m_iast hC hs hH k18 i20 dX2_beginsFeeDay_37 (fun H locs hH => ?_)
    refine lv_iconst (v := 1) hC.1 hC.2.1 dX2_beginsFeeDay_38 (by decide) ?_
    exact m_reti hC hH hrt rfl hlk (Nat.le_of_ble_eq_true rfl) (Nat.le_of_ble_eq_true rfl) dX2_beginsFeeDay_39 hw
  · have hw := hw.2 hc
    refine lv_iconst (v := 0) hC.1 hC.2.1 dX2_beginsFeeDay_10 (by decide) ?_
    exact m_reti hC hH hrt rfl hlk (Nat.le_of_ble_eq_true rfl) (Nat.le_of_ble_eq_true rfl) dX2_beginsFeeDay_11 hw
abbrev rm_X2_takeFreeOfDay : Room := { frames := 1, cells := 0, slots := 0, locals := 24 }
def wp_X2_takeFreeOfDay (z : Nat × Nat) (S : mmS) (p0 : Nat) (p1 : Int32) (p2 : Int32) (Q : Int32 → mmS → Prop) (X : String → mmS → Prop) : Prop := (p0 ∈ mL S ∧ mK S p0 = 2) ∧ ∃ b2 : Nat, mR S 5 p0 = some b2 ∧ (b2 ∈ mL S ∧ mK S b2 = 7) ∧ vp_in p1 (mN S b2) ∧ ∀ v6 : Int32, v6 = (if p2 < (mA S b2 (p1).toNatClampNeg) then p2 else (mA S b2 (p1).toNatClampNeg)) → ∃ b7 : Nat, mR S 5 p0 = some b7 ∧ (b7 ∈ mL S ∧ mK S b7 = 7) ∧ vp_in p1 (mN S b7) ∧ vp_in p1 (mN S b7) ∧ ∀ S12 : mmS, S12 = sA S b7 (p1).toNatClampNeg ((mA S b7 (p1).toNatClampNeg) - v6) → Q v6 S12
set_option maxHeartbeats 4000000 in
set_option maxRecDepth 100000 in
theorem met_X2_takeFreeOfDay (l : Launch) (hl0 : l.stackTraces = false) (g : mG) (S : mmS) (p0 : Nat) (p1 : Int32) (p2 : Int32) (Q : Int32 → mmS → Prop) (X : String → mmS → Prop) (hX0 : ∀ (E : String) (S : mmS), ¬ X E S) (hw : wp_X2_takeFreeOfDay g.2.2.2.2.2 S p0 p1 p2 Q X) : mMi l g yX2_takeFreeOfDay (wA_ yX2_takeFreeOfDay cX2_takeFreeOfDay 4 (some .int)) rm_X2_takeFreeOfDay [.ref p0, .int p1, .int p2] S Q X := by
  refine m_of (y := yX2_takeFreeOfDay) (cc := cX2_takeFreeOfDay) (maxL := 4) (ret := (some .int)) (by decide) rfl (Nat.le_of_ble_eq_true rfl) ?_
  intro p e s m args below meth c ls hC hrt hlk hmn hnx hs hH hl
  have hC : CallFix p m c cX2_takeFreeOfDay 4 s args (wA_ yX2_takeFreeOfDay cX2_takeFreeOfDay 4 (some .int)) RX2 := hC
  have hl : lv_has ls 4 [(0, .ref p0), (1, .int p1), (2, .int p2)] := hl
  unfold wp_X2_takeFreeOfDay at hw
  refine lv_aload_n hC.1 hC.2.1 dX2_takeFreeOfDay_0 rfl (lv_at hl 0 rfl) ?_
  obtain ⟨k1, hw⟩ := hw
  obtain ⟨b2, r3, hw⟩ := hw
  refine m_getR hC hs hH cs2 fs2_5 (fun _ h => List.mem_cons_of_mem _ (inlX2 _ h)) (List.mem_cons_of_mem _ q_244) (fun _ h => h) k1 r3 dX2_takeFreeOfDay_1 ?_
  refine lv_iload_n hC.1 hC.2.1 dX2_takeFreeOfDay_4 rfl (lv_at hl 1 rfl) ?_
  obtain ⟨k4, hw⟩ := hw
  obtain ⟨i5, hw⟩ := hw
  refine m_iald hC hs hH k4 i5 dX2_takeFreeOfDay_5 ?_
  refine lv_iload_n hC.1 hC.2.1 dX2_takeFreeOfDay_6 rfl (lv_at hl 2 rfl) ?_
  refine m_min hC hl.1 (List.mem_cons_of_mem _ q_249) (List.mem_cons_of_mem _ q_5) (List.mem_cons_of_mem _ q_6) (List.mem_cons_of_mem _ q_7) (Nat.le_of_ble_eq_true rfl) (Nat.le_of_ble_eq_true rfl) (Nat.le_of_ble_eq_true rfl) (Nat.le_of_ble_eq_true rfl) dX2_takeFreeOfDay_7 ?_
  have hw := hw _ rfl
  refine lv_istore_n (lv' := [(3, .int _), (0, .ref _), (1, .int _), (2, .int _)]) hC.1 hC.2.1 dX2_takeFreeOfDay_10 rfl hl (by decide) rfl (fun ls hl => ?_)
  refine lv_aload_n hC.1 hC.2.1 dX2_takeFreeOfDay_11 rfl (lv_at hl 1 rfl) ?_
  obtain ⟨b7, r8, hw⟩ := hw
  refine m_getR hC hs hH cs2 fs2_5 (fun _ h => List.mem_cons_of_mem _ (inlX2 _ h)) (List.mem_cons_of_mem _ q_244) (fun _ h => h) k1 r8 dX2_takeFreeOfDay_12 ?_
  refine lv_iload_n hC.1 hC.2.1 dX2_takeFreeOfDay_15 rfl (lv_at hl 2 rfl) ?_
  refine lv_dup2_11 hC.1 hC.2.1 dX2_takeFreeOfDay_16 rfl rfl ?_
  obtain ⟨k9, hw⟩ := hw
  obtain ⟨i10, hw⟩ := hw
  refine m_iald hC hs hH k9 i10 dX2_takeFreeOfDay_17 ?_
  refine lv_iload_n hC.1 hC.2.1 dX2_takeFreeOfDay_18 rfl (lv_at hl 0 rfl) ?_
  refine lv_isub hC.1 hC.2.1 dX2_takeFreeOfDay_19 ?_
  obtain ⟨i11, hw⟩ := hw
  have hw := hw _ rfl
  refine m_iast hC hs hH k9 i11 dX2_takeFreeOfDay_20 (fun H locs hH => ?_)
  refine lv_iload_n hC.1 hC.2.1 dX2_takeFreeOfDay_21 rfl (lv_at hl 0 rfl) ?_
  exact m_reti hC hH hrt rfl hlk (Nat.le_of_ble_eq_true rfl) (Nat.le_of_ble_eq_true rfl) dX2_takeFreeOfDay_22 hw
abbrev rm_X3_init : Room := { frames := 1, cells := 2, slots := 6, locals := 24 }
def wp_X3_init (z : Nat × Nat) (S : mmS) (p0 : Nat) (p1 : Int32) (p2 : Int32) (p3 : Int32) (p4 : Int32) (p5 : Int32) (p6 : Int32) (Q : mmS → Prop) (X : String → mmS → Prop) : Prop := ∀ q1 : Nat, q1 ∉ mL S → ∀ S3 : mmS, S3 = sNa S q1 3 → (p0 ∈ mL S3 ∧ mK S3 p0 = 3) ∧ ∀ S5 : mmS, S5 = sR S3 6 p0 (some q1) → ∀ q6 : Nat, q6 ∉ mL S5 → ∀ S8 : mmS, S8 = sNa S5 q6 3 → ∀ S9 : mmS, S9 = sR S8 7 p0 (some q6) → ∀ S10 : mmS, S10 = sI S9 15 p0 p1 → ∀ S11 : mmS, S11 = sI S10 16 p0 p2 → ∀ S12 : mmS, S12 = sI S11 17 p0 p3 → ∀ S13 : mmS, S13 = sI S12 18 p0 p4 → ∀ S14 : mmS, S14 = sI S13 19 p0 p5 → ∀ S15 : mmS, S15 = sI S14 20 p0 p6 → Q S15
set_option maxHeartbeats 4000000 in
set_option maxRecDepth 100000 in
theorem met_X3_init (l : Launch) (hl0 : l.stackTraces = false) (g : mG) (S : mmS) (p0 : Nat) (p1 : Int32) (p2 : Int32) (p3 : Int32) (p4 : Int32) (p5 : Int32) (p6 : Int32) (Q : mmS → Prop) (X : String → mmS → Prop) (hX0 : ∀ (E : String) (S : mmS), ¬ X E S) (hw : wp_X3_init g.2.2.2.2.2 S p0 p1 p2 p3 p4 p5 p6 Q X) : mMv l g yX3_init (wA_ yX3_init cX3_init 7 none) rm_X3_init [.ref p0, .int p1, .int p2, .int p3, .int p4, .int p5, .int p6] S Q X := by
  refine m_of (y := yX3_init) (cc := cX3_init) (maxL := 7) (ret := none) (by decide) rfl (Nat.le_of_ble_eq_true rfl) ?_
  intro p e s m args below meth c ls hC hrt hlk hmn hnx hs hH hl
  have hC : CallFix p m c cX3_init 7 s args (wA_ yX3_init cX3_init 7 none) RX3 := hC
  have hl : lv_has ls 7 [(0, .ref p0), (1, .int p1), (2, .int p2), (3, .int p3), (4, .int p4), (5, .int p5), (6, .int p6)] := hl
  unfold wp_X3_init at hw
  refine lv_aload_n hC.1 hC.2.1 dX3_init_0 rfl (lv_at hl 0 rfl) ?_
  refine m_objInit hC hl.1 (List.mem_cons_of_mem _ q_76) (List.mem_cons_of_mem _ q_12) (List.mem_cons_of_mem _ q_13) (Nat.le_of_ble_eq_true rfl) (Nat.le_of_ble_eq_true rfl) dX3_init_1 ?_
  refine lv_aload_n hC.1 hC.2.1 dX3_init_4 rfl (lv_at hl 0 rfl) ?_
  refine lv_iconst (v := 3) hC.1 hC.2.1 dX3_init_5 (by decide) ?_
  refine m_newI (N' := 3) hC hs hH (List.mem_cons_of_mem _ q_3) (by decide) (by decide) (by decide) (Nat.le_of_ble_eq_true rfl) (Nat.le_of_ble_eq_true rfl) dX3_init_6 (fun q1 H f2 hH => ?_)
  have hw := hw q1 f2 _ rfl
  refine W.widen (k := 1) (n := 3) (Nat.le_of_ble_eq_true rfl) (Nat.le_of_ble_eq_true rfl) ?_
  obtain ⟨k4, hw⟩ := hw
  have hw := hw _ rfl
  refine m_putR hC hs hH cs3 fs3_6 (fun _ h => List.mem_cons_of_mem _ (inlX3 _ h)) (List.mem_cons_of_mem _ q_77) (fun _ h => h) (Or.inr ⟨rfl, hmn, rfl⟩) rfl rfl k4 dX3_init_8 (fun H locs hH => ?_)
  refine lv_aload_n hC.1 hC.2.1 dX3_init_11 rfl (lv_at hl 0 rfl) ?_
  refine lv_iconst (v := 3) hC.1 hC.2.1 dX3_init_12 (by decide) ?_
  refine m_newI (N' := 3) hC hs hH (List.mem_cons_of_mem _ q_3) (by decide) (by decide) (by decide) (Nat.le_of_ble_eq_true rfl) (Nat.le_of_ble_eq_true rfl) dX3_init_13 (fun q6 H f7 hH => ?_)
  have hw := hw q6 f7 _ rfl
  refine W.widen (k := 2) (n := 6) (Nat.le_of_ble_eq_true rfl) (Nat.le_of_ble_eq_true rfl) ?_
  have hw := hw _ rfl
  refine m_putR hC hs hH cs3 fs3_7 (fun _ h => List.mem_cons_of_mem _ (inlX3 _ h)) (List.mem_cons_of_mem _ q_78) (fun _ h => h) (Or.inr ⟨rfl, hmn, rfl⟩) rfl rfl (mkN k4 f7) dX3_init_15 (fun H locs hH => ?_)
  refine lv_aload_n hC.1 hC.2.1 dX3_init_18 rfl (lv_at hl 0 rfl) ?_
  refine lv_iload_n hC.1 hC.2.1 dX3_init_19 rfl (lv_at hl 1 rfl) ?_
  have hw := hw _ rfl
  refine m_putI hC hs hH cs3 fs3_0 (fun _ h => List.mem_cons_of_mem _ (inlX3 _ h)) (List.mem_cons_of_mem _ q_79) (fun _ h => h) (Or.inr ⟨rfl, hmn, rfl⟩) rfl (mkN k4 f7) dX3_init_20 (fun H locs hH => ?_)
  refine lv_aload_n hC.1 hC.2.1 dX3_init_23 rfl (lv_at hl 0 rfl) ?_
  refine lv_iload_n hC.1 hC.2.1 dX3_init_24 rfl (lv_at hl 2 rfl) ?_
  have hw := hw _ rfl
  refine m_putI hC hs hH cs3 fs3_1 (fun _ h => List.mem_cons_of_mem _ (inlX3 _ h)) (List.mem_cons_of_mem _ q_80) (fun _ h => h) (Or.inr ⟨rfl, hmn, rfl⟩) rfl (mkN k4 f7) dX3_init_25 (fun H locs hH => ?_)
  refine lv_aload_n hC.1 hC.2.1 dX3_init_28 rfl (lv_at hl 0 rfl) ?_
  refine lv_iload_n hC.1 hC.2.1 dX3_init_29 rfl (lv_at hl 3 rfl) ?_
  have hw := hw _ rfl
  refine m_putI hC hs hH cs3 fs3_2 (fun _ h => List.mem_cons_of_mem _ (inlX3 _ h)) (List.mem_cons_of_mem _ q_81) (fun _ h => h) (Or.inr ⟨rfl, hmn, rfl⟩) rfl (mkN k4 f7) dX3_init_30 (fun H locs hH => ?_)
  refine lv_aload_n hC.1 hC.2.1 dX3_init_33 rfl (lv_at hl 0 rfl) ?_
  refine lv_iload hC.1 hC.2.1 dX3_init_34 (lv_at hl 4 rfl) ?_
  have hw := hw _ rfl
  refine m_putI hC hs hH cs3 fs3_3 (fun _ h => List.mem_cons_of_mem _ (inlX3 _ h)) (List.mem_cons_of_mem _ q_82) (fun _ h => h) (Or.inr ⟨rfl, hmn, rfl⟩) rfl (mkN k4 f7) dX3_init_36 (fun H locs hH => ?_)
  refine lv_aload_n hC.1 hC.2.1 dX3_init_39 rfl (lv_at hl 0 rfl) ?_
  refine lv_iload hC.1 hC.2.1 dX3_init_40 (lv_at hl 5 rfl) ?_
  have hw := hw _ rfl
  refine m_putI hC hs hH cs3 fs3_4 (fun _ h => List.mem_cons_of_mem _ (inlX3 _ h)) (List.mem_cons_of_mem _ q_83) (fun _ h => h) (Or.inr ⟨rfl, hmn, rfl⟩) rfl (mkN k4 f7) dX3_init_42 (fun H locs hH => ?_)
  refine lv_aload_n hC.1 hC.2.1 dX3_init_45 rfl (lv_at hl 0 rfl) ?_
  refine lv_iload hC.1 hC.2.1 dX3_init_46 (lv_at hl 6 rfl) ?_
  have hw := hw _ rfl
  refine m_putI hC hs hH cs3 fs3_5 (fun _ h => List.mem_cons_of_mem _ (inlX3 _ h)) (List.mem_cons_of_mem _ q_84) (fun _ h => h) (Or.inr ⟨rfl, hmn, rfl⟩) rfl (mkN k4 f7) dX3_init_48 (fun H locs hH => ?_)
  exact m_retv hC hH hrt hlk (Nat.le_of_ble_eq_true rfl) (Nat.le_of_ble_eq_true rfl) dX3_init_51 hw
abbrev rm_X3_billedFor : Room := { frames := 1, cells := 0, slots := 0, locals := 0 }
def wp_X3_billedFor (z : Nat × Nat) (S : mmS) (p0 : Nat) (p1 : Int32) (Q : Int32 → mmS → Prop) (X : String → mmS → Prop) : Prop := (p0 ∈ mL S ∧ mK S p0 = 3) ∧ (p1 ≤ (mI S 19 p0) → Q (mI S 19 p0) S) ∧ (¬ p1 ≤ (mI S 19 p0) → ((1 : Int32) ≤ (mI S 20 p0) → ¬ (mI S 20 p0) = 0 ∧ ∀ v3 : Int32, v3 = ((((p1 - (mI S 19 p0)) + (mI S 20 p0)) - (1 : Int32)) / (mI S 20 p0)) → Q ((mI S 19 p0) + (v3 * (mI S 20 p0))) S) ∧ (¬ (1 : Int32) ≤ (mI S 20 p0) → Q (mI S 19 p0) S))
set_option maxHeartbeats 4000000 in
set_option maxRecDepth 100000 in
theorem met_X3_billedFor (l : Launch) (hl0 : l.stackTraces = false) (g : mG) (S : mmS) (p0 : Nat) (p1 : Int32) (Q : Int32 → mmS → Prop) (X : String → mmS → Prop) (hX0 : ∀ (E : String) (S : mmS), ¬ X E S) (hw : wp_X3_billedFor g.2.2.2.2.2 S p0 p1 Q X) : mMi l g yX3_billedFor (wA_ yX3_billedFor cX3_billedFor 3 (some .int)) rm_X3_billedFor [.ref p0, .int p1] S Q X := by
  refine m_of (y := yX3_billedFor) (cc := cX3_billedFor) (maxL := 3) (ret := (some .int)) (by decide) rfl (Nat.le_of_ble_eq_true rfl) ?_
  intro p e s m args below meth c ls hC hrt hlk hmn hnx hs hH hl
  have hC : CallFix p m c cX3_billedFor 3 s args (wA_ yX3_billedFor cX3_billedFor 3 (some .int)) RX3 := hC
  have hl : lv_has ls 3 [(0, .ref p0), (1, .int p1)] := hl
  unfold wp_X3_billedFor at hw
  refine lv_iload_n hC.1 hC.2.1 dX3_billedFor_0 rfl (lv_at hl 1 rfl) ?_
  refine lv_aload_n hC.1 hC.2.1 dX3_billedFor_1 rfl (lv_at hl 0 rfl) ?_
  obtain ⟨k1, hw⟩ := hw
  refine m_getI hC hs hH cs3 fs3_4 (fun _ h => List.mem_cons_of_mem _ (inlX3 _ h)) (List.mem_cons_of_mem _ q_83) (fun _ h => h) k1 dX3_billedFor_2 ?_
  refine lv_icmp_le (tgt := 16) hC.1 hC.2.1 dX3_billedFor_5 (by decide) (fun hc => ?_) (fun hc => ?_)
  · have hw := hw.1 hc
    refine lv_aload_n hC.1 hC.2.1 dX3_billedFor_16 rfl (lv_at hl 0 rfl) ?_
    refine m_getI hC hs hH cs3 fs3_4 (fun _ h => List.mem_cons_of_mem _ (inlX3 _ h)) (List.mem_cons_of_mem _ q_83) (fun _ h => h) k1 dX3_billedFor_17 ?_
    exact m_reti hC hH hrt rfl hlk (Nat.le_of_ble_eq_true rfl) (Nat.le_of_ble_eq_true rfl) dX3_billedFor_20 hw
  · have hw := hw.2 hc
    refine lv_aload_n hC.1 hC.2.1 dX3_billedFor_8 rfl (lv_at hl 0 rfl) ?_
    refine m_getI hC hs hH cs3 fs3_5 (fun _ h => List.mem_cons_of_mem _ (inlX3 _ h)) (List.mem_cons_of_mem _ q_84) (fun _ h => h) k1 dX3_billedFor_9 ?_
    refine lv_iconst (v := 1) hC.1 hC.2.1 dX3_billedFor_12 (by decide) ?_
    refine lv_icmp_ge (tgt := 21) hC.1 hC.2.1 dX3_billedFor_13 (by decide) (fun hc => ?_) (fun hc => ?_)
    · have hw := hw.1 hc
      refine lv_iload_n hC.1 hC.2.1 dX3_billedFor_21 rfl (lv_at hl 1 rfl) ?_
      refine lv_aload_n hC.1 hC.2.1 dX3_billedFor_22 rfl (lv_at hl 0 rfl) ?_
      refine m_getI hC hs hH cs3 fs3_4 (fun _ h => List.mem_cons_of_mem _ (inlX3 _ h)) (List.mem_cons_of_mem _ q_83) (fun _ h => h) k1 dX3_billedFor_23 ?_
      refine lv_isub hC.1 hC.2.1 dX3_billedFor_26 ?_
      refine lv_aload_n hC.1 hC.2.1 dX3_billedFor_27 rfl (lv_at hl 0 rfl) ?_
      refine m_getI hC hs hH cs3 fs3_5 (fun _ h => List.mem_cons_of_mem _ (inlX3 _ h)) (List.mem_cons_of_mem _ q_84) (fun _ h => h) k1 dX3_billedFor_28 ?_
      refine lv_iadd hC.1 hC.2.1 dX3_billedFor_31 ?_
      refine lv_iconst (v := 1) hC.1 hC.2.1 dX3_billedFor_32 (by decide) ?_
      refine lv_isub hC.1 hC.2.1 dX3_billedFor_33 ?_
      refine lv_aload_n hC.1 hC.2.1 dX3_billedFor_34 rfl (lv_at hl 0 rfl) ?_
      refine m_getI hC hs hH cs3 fs3_5 (fun _ h => List.mem_cons_of_mem _ (inlX3 _ h)) (List.mem_cons_of_mem _ q_84) (fun _ h => h) k1 dX3_billedFor_35 ?_
      obtain ⟨z2, hw⟩ := hw
      refine lv_idiv hC.1 hC.2.1 dX3_billedFor_38 z2 ?_
      have hw := hw _ rfl
      refine lv_istore_n (lv' := [(2, .int _), (0, .ref _), (1, .int _)]) hC.1 hC.2.1 dX3_billedFor_39 rfl hl (by decide) rfl (fun ls hl => ?_)
      refine lv_aload_n hC.1 hC.2.1 dX3_billedFor_40 rfl (lv_at hl 1 rfl) ?_
      refine m_getI hC hs hH cs3 fs3_4 (fun _ h => List.mem_cons_of_mem _ (inlX3 _ h)) (List.mem_cons_of_mem _ q_83) (fun _ h => h) k1 dX3_billedFor_41 ?_
      refine lv_iload_n hC.1 hC.2.1 dX3_billedFor_44 rfl (lv_at hl 0 rfl) ?_
      refine lv_aload_n hC.1 hC.2.1 dX3_billedFor_45 rfl (lv_at hl 1 rfl) ?_
      refine m_getI hC hs hH cs3 fs3_5 (fun _ h => List.mem_cons_of_mem _ (inlX3 _ h)) (List.mem_cons_of_mem _ q_84) (fun _ h => h) k1 dX3_billedFor_46 ?_
      refine lv_imul hC.1 hC.2.1 dX3_billedFor_49 ?_
      refine lv_iadd hC.1 hC.2.1 dX3_billedFor_50 ?_
      exact m_reti hC hH hrt rfl hlk (Nat.le_of_ble_eq_true rfl) (Nat.le_of_ble_eq_true rfl) dX3_billedFor_51 hw
    · have hw := hw.2 hc
      refine lv_aload_n hC.1 hC.2.1 dX3_billedFor_16 rfl (lv_at hl 0 rfl) ?_
      refine m_getI hC hs hH cs3 fs3_4 (fun _ h => List.mem_cons_of_mem _ (inlX3 _ h)) (List.mem_cons_of_mem _ q_83) (fun _ h => h) k1 dX3_billedFor_17 ?_
      exact m_reti hC hH hrt rfl hlk (Nat.le_of_ble_eq_true rfl) (Nat.le_of_ble_eq_true rfl) dX3_billedFor_20 hw
abbrev rm_X3_chargeFor : Room := { frames := 1, cells := 0, slots := 0, locals := 0 }
def wp_X3_chargeFor (z : Nat × Nat) (S : mmS) (p0 : Nat) (p1 : Int32) (p2 : Int32) (Q : Int32 → mmS → Prop) (X : String → mmS → Prop) : Prop := (0 < p1 → (p0 ∈ mL S ∧ mK S p0 = 3) ∧ Q ((mI S 16 p0) + ((((p1 * p2) + (60 : Int32)) - (1 : Int32)) / (60 : Int32))) S) ∧ (¬ 0 < p1 → Q (0 : Int32) S)
set_option maxHeartbeats 4000000 in
set_option maxRecDepth 100000 in
theorem met_X3_chargeFor (l : Launch) (hl0 : l.stackTraces = false) (g : mG) (S : mmS) (p0 : Nat) (p1 : Int32) (p2 : Int32) (Q : Int32 → mmS → Prop) (X : String → mmS → Prop) (hX0 : ∀ (E : String) (S : mmS), ¬ X E S) (hw : wp_X3_chargeFor g.2.2.2.2.2 S p0 p1 p2 Q X) : mMi l g yX3_chargeFor (wA_ yX3_chargeFor cX3_chargeFor 3 (some .int)) rm_X3_chargeFor [.ref p0, .int p1, .int p2] S Q X := by
  refine m_of (y := yX3_chargeFor) (cc := cX3_chargeFor) (maxL := 3) (ret := (some .int)) (by decide) rfl (Nat.le_of_ble_eq_true rfl) ?_
  intro p e s m args below meth c ls hC hrt hlk hmn hnx hs hH hl
  have hC : CallFix p m c cX3_chargeFor 3 s args (wA_ yX3_chargeFor cX3_chargeFor 3 (some .int)) RX3 := hC
  have hl : lv_has ls 3 [(0, .ref p0), (1, .int p1), (2, .int p2)] := hl
  unfold wp_X3_chargeFor at hw
  refine lv_iload_n hC.1 hC.2.1 dX3_chargeFor_0 rfl (lv_at hl 1 rfl) ?_
  refine lv_if_gt (tgt := 6) hC.1 hC.2.1 dX3_chargeFor_1 (by decide) (fun hc => ?_) (fun hc => ?_)
  · have hw := hw.1 hc
    refine lv_aload_n hC.1 hC.2.1 dX3_chargeFor_6 rfl (lv_at hl 0 rfl) ?_
    obtain ⟨k1, hw⟩ := hw
    refine m_getI hC hs hH cs3 fs3_1 (fun _ h => List.mem_cons_of_mem _ (inlX3 _ h)) (List.mem_cons_of_mem _ q_80) (fun _ h => h) k1 dX3_chargeFor_7 ?_
    refine lv_iload_n hC.1 hC.2.1 dX3_chargeFor_10 rfl (lv_at hl 1 rfl) ?_
    refine lv_iload_n hC.1 hC.2.1 dX3_chargeFor_11 rfl (lv_at hl 2 rfl) ?_
    refine lv_imul hC.1 hC.2.1 dX3_chargeFor_12 ?_
    refine lv_bipush (v := 60) hC.1 hC.2.1 dX3_chargeFor_13 (by decide) ?_
    refine lv_iadd hC.1 hC.2.1 dX3_chargeFor_15 ?_
    refine lv_iconst (v := 1) hC.1 hC.2.1 dX3_chargeFor_16 (by decide) ?_
    refine lv_isub hC.1 hC.2.1 dX3_chargeFor_17 ?_
    refine lv_bipush (v := 60) hC.1 hC.2.1 dX3_chargeFor_18 (by decide) ?_
    refine lv_idiv hC.1 hC.2.1 dX3_chargeFor_20 (by decide) ?_
    refine lv_iadd hC.1 hC.2.1 dX3_chargeFor_21 ?_
    exact m_reti hC hH hrt rfl hlk (Nat.le_of_ble_eq_true rfl) (Nat.le_of_ble_eq_true rfl) dX3_chargeFor_22 hw
  · have hw := hw.2 hc
    refine lv_iconst (v := 0) hC.1 hC.2.1 dX3_chargeFor_4 (by decide) ?_
    exact m_reti hC hH hrt rfl hlk (Nat.le_of_ble_eq_true rfl) (Nat.le_of_ble_eq_true rfl) dX3_chargeFor_5 hw
