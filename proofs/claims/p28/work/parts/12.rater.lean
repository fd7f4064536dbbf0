/-! 12.rater: weakest preconditions and walks, laid by wip/p28/gen.py -/
abbrev rm_X4_init : Room := { frames := 4, cells := 5, slots := 15, locals := 84 }
def wp_X4_init (z : Nat × Nat) (S : mmS) (p0 : Nat) (Q : mmS → Prop) (X : String → mmS → Prop) : Prop := ∀ q1 : Nat, q1 ∉ mL S → ∀ S3 : mmS, S3 = sNo S q1 6 → wp_Jx4a65c_init_da8c8 z S3 q1 (fun S4 => (p0 ∈ mL S4 ∧ mK S4 p0 = 4) ∧ ∀ S6 : mmS, S6 = sR S4 8 p0 (some q1) → ∀ q7 : Nat, q7 ∉ mL S6 → ∀ S9 : mmS, S9 = sNo S6 q7 6 → wp_Jx4a65c_init_da8c8 z S9 q7 (fun S10 => (p0 ∈ mL S10 ∧ mK S10 p0 = 4) ∧ ∀ S12 : mmS, S12 = sR S10 9 p0 (some q7) → ∀ q13 : Nat, q13 ∉ mL S12 → ∀ S15 : mmS, S15 = sNo S12 q13 6 → wp_Jx4a65c_init_da8c8 z S15 q13 (fun S16 => (p0 ∈ mL S16 ∧ mK S16 p0 = 4) ∧ ∀ S18 : mmS, S18 = sR S16 10 p0 (some q13) → ∀ q19 : Nat, q19 ∉ mL S18 → ∀ S21 : mmS, S21 = sNo S18 q19 6 → wp_Jx4a65c_init_da8c8 z S21 q19 (fun S22 => (p0 ∈ mL S22 ∧ mK S22 p0 = 4) ∧ ∀ S24 : mmS, S24 = sR S22 11 p0 (some q19) → ∀ q25 : Nat, q25 ∉ mL S24 → ∀ S27 : mmS, S27 = sNo S24 q25 6 → wp_Jx4a65c_init_da8c8 z S27 q25 (fun S28 => (p0 ∈ mL S28 ∧ mK S28 p0 = 4) ∧ ∀ S30 : mmS, S30 = sR S28 12 p0 (some q25) → ∀ S31 : mmS, S31 = sI S30 21 p0 (480 : Int32) → ∀ S32 : mmS, S32 = sI S31 22 p0 (1079 : Int32) → Q S32) X) X) X) X) X
set_option maxHeartbeats 4000000 in
set_option maxRecDepth 100000 in
theorem met_X4_init (l : Launch) (hl0 : l.stackTraces = false) (g : mG) (S : mmS) (p0 : Nat) (Q : mmS → Prop) (X : String → mmS → Prop) (hX0 : ∀ (E : String) (S : mmS), ¬ X E S) (hw : wp_X4_init g.2.2.2.2.2 S p0 Q X) : mMv l g yX4_init (wA_ yX4_init cX4_init 1 none) rm_X4_init [.ref p0] S Q X := by
  refine m_of (y := yX4_init) (cc := cX4_init) (maxL := 1) (ret := none) (by decide) rfl (Nat.le_of_ble_eq_true rfl) ?_
  intro p e s m args below meth c ls hC hrt hlk hmn hnx hs hH hl
  have hC : CallFix p m c cX4_init 1 s args (wA_ yX4_init cX4_init 1 none) RX4 := hC
  have hl : lv_has ls 1 [(0, .ref p0)] := hl
  unfold wp_X4_init at hw
  refine lv_aload_n hC.1 hC.2.1 dX4_init_0 rfl (lv_at hl 0 rfl) ?_
  refine m_objInit hC hl.1 (List.mem_cons_of_mem _ q_11) (List.mem_cons_of_mem _ q_12) (List.mem_cons_of_mem _ q_13) (Nat.le_of_ble_eq_true rfl) (Nat.le_of_ble_eq_true rfl) dX4_init_1 ?_
  refine lv_aload_n hC.1 hC.2.1 dX4_init_4 rfl (lv_at hl 0 rfl) ?_
  refine m_newO hC hs hH cs6 (fun _ h => List.mem_cons_of_mem _ (inlJx4a65c _ h)) (List.mem_cons_of_mem _ q_14) (List.mem_cons_of_mem _ q_15) (List.mem_cons_of_mem _ q_16) df6 (Nat.le_of_ble_eq_true rfl) (Nat.le_of_ble_eq_true rfl) dX4_init_5 (fun q1 H f2 hH => ?_)
  have hw := hw q1 f2 _ rfl
  refine W.widen (k := 1) (n := 3) (Nat.le_of_ble_eq_true rfl) (Nat.le_of_ble_eq_true rfl) ?_
  refine lv_dup hC.1 hC.2.1 dX4_init_8 rfl ?_
  refine m_callIv (y := yJx4a65c_init_da8c8) (rest := [.ref _, .ref _]) hC hs hH hl.1 (cwI 0 hC.2.2.2.2 (gA0 q_26) rfl rfl rfl (hC.2.2.2.2 _ (List.mem_cons_of_mem _ q_16)) (hC.2.2.2.2 _ (List.mem_cons_of_mem _ q_24)) (hC.2.2.2.2 _ (List.mem_cons_of_mem _ q_25)) rfl (by decide +kernel) ⟨Nat.le_of_ble_eq_true rfl, Nat.le_of_ble_eq_true rfl⟩) (met_Jx4a65c_init_da8c8 l hl0 g _ _ _ _ hX0 hw) rfl rfl (Nat.le_of_ble_eq_true rfl) dX4_init_9 ⟨Nat.le_of_ble_eq_true rfl, Nat.le_of_ble_eq_true rfl⟩ (fun E S1 _ _ _ _ hx => (hX0 E S1 hx).elim) (fun S1 H locs hw hH => ?_)
  refine W.widen (k := 1) (n := 3) (Nat.le_of_ble_eq_true rfl) (Nat.le_of_ble_eq_true rfl) ?_
  obtain ⟨k5, hw⟩ := hw
  have hw := hw _ rfl
  refine m_putR hC hs hH cs4 fs4_0 (fun _ h => List.mem_cons_of_mem _ (inlX4 _ h)) (List.mem_cons_of_mem _ q_17) (fun _ h => h) (Or.inr ⟨rfl, hmn, rfl⟩) rfl rfl k5 dX4_init_12 (fun H locs hH => ?_)
  refine lv_aload_n hC.1 hC.2.1 dX4_init_15 rfl (lv_at hl 0 rfl) ?_
  refine m_newO hC hs hH cs6 (fun _ h => List.mem_cons_of_mem _ (inlJx4a65c _ h)) (List.mem_cons_of_mem _ q_14) (List.mem_cons_of_mem _ q_15) (List.mem_cons_of_mem _ q_16) df6 (Nat.le_of_ble_eq_true rfl) (Nat.le_of_ble_eq_true rfl) dX4_init_16 (fun q7 H f8 hH => ?_)
  have hw := hw q7 f8 _ rfl
  refine W.widen (k := 2) (n := 6) (Nat.le_of_ble_eq_true rfl) (Nat.le_of_ble_eq_true rfl) ?_
  refine lv_dup hC.1 hC.2.1 dX4_init_19 rfl ?_
  refine m_callIv (y := yJx4a65c_init_da8c8) (rest := [.ref _, .ref _]) hC hs hH hl.1 (cwI 0 hC.2.2.2.2 (gA0 q_26) rfl rfl rfl (hC.2.2.2.2 _ (List.mem_cons_of_mem _ q_16)) (hC.2.2.2.2 _ (List.mem_cons_of_mem _ q_24)) (hC.2.2.2.2 _ (List.mem_cons_of_mem _ q_25)) rfl (by decide +kernel) ⟨Nat.le_of_ble_eq_true rfl, Nat.le_of_ble_eq_true rfl⟩) (met_Jx4a65c_init_da8c8 l hl0 g _ _ _ _ hX0 hw) rfl rfl (Nat.le_of_ble_eq_true rfl) dX4_init_20 ⟨Nat.le_of_ble_eq_true rfl, Nat.le_of_ble_eq_true rfl⟩ (fun E S1 _ _ _ _ hx => (hX0 E S1 hx).elim) (fun S1 H locs hw hH => ?_)
  refine W.widen (k := 2) (n := 6) (Nat.le_of_ble_eq_true rfl) (Nat.le_of_ble_eq_true rfl) ?_
  obtain ⟨k11, hw⟩ := hw
  have hw := hw _ rfl
  refine m_putR hC hs hH cs4 fs4_1 (fun _ h => List.mem_cons_of_mem _ (inlX4 _ h)) (List.mem_cons_of_mem _ q_18) (fun _ h => h) (Or.inr ⟨rfl, hmn, rfl⟩) rfl rfl k11 dX4_init_23 (fun H locs hH => ?_)
  refine lv_aload_n hC.1 hC.2.1 dX4_init_26 rfl (lv_at hl 0 rfl) ?_
  refine m_newO hC hs hH cs6 (fun _ h => List.mem_cons_of_mem _ (inlJx4a65c _ h)) (List.mem_cons_of_mem _ q_14) (List.mem_cons_of_mem _ q_15) (List.mem_cons_of_mem _ q_16) df6 (Nat.le_of_ble_eq_true rfl) (Nat.le_of_ble_eq_true rfl) dX4_init_27 (fun q13 H f14 hH => ?_)
  have hw := hw q13 f14 _ rfl
  refine W.widen (k := 3) (n := 9) (Nat.le_of_ble_eq_true rfl) (Nat.le_of_ble_eq_true rfl) ?_
  refine lv_dup hC.1 hC.2.1 dX4_init_30 rfl ?_
  refine m_callIv (y := yJx4a65c_init_da8c8) (rest := [.ref _, .ref _]) hC hs hH hl.1 (cwI 0 hC.2.2.2.2 (gA0 q_26) rfl rfl rfl (hC.2.2.2.2 _ (List.mem_cons_of_mem _ q_16)) (hC.2.2.2.2 _ (List.mem_cons_of_mem _ q_24)) (hC.2.2.2.2 _ (List.mem_cons_of_mem _ q_25)) rfl (by decide +kernel) ⟨Nat.le_of_ble_eq_true rfl, Nat.le_of_ble_eq_true rfl⟩) (met_Jx4a65c_init_da8c8 l hl0 g _ _ _ _ hX0 hw) rfl rfl (Nat.le_of_ble_eq_true rfl) dX4_init_31 ⟨Nat.le_of_ble_eq_true rfl, Nat.le_of_ble_eq_true rfl⟩ (fun E S1 _ _ _ _ hx => (hX0 E S1 hx).elim) (fun S1 H locs hw hH => ?_)
  refine W.widen (k := 3) (n := 9) (Nat.le_of_ble_eq_true rfl) (Nat.le_of_ble_eq_true rfl) ?_
  obtain ⟨k17, hw⟩ := hw
  have hw := hw _ rfl
  refine m_putR hC hs hH cs4 fs4_2 (fun _ h => List.mem_cons_of_mem _ (inlX4 _ h)) (List.mem_cons_of_mem _ q_19) (fun _ h => h) (Or.inr ⟨rfl, hmn, rfl⟩) rfl rfl k17 dX4_init_34 (fun H locs hH => ?_)
  refine lv_aload_n hC.1 hC.2.1 dX4_init_37 rfl (lv_at hl 0 rfl) ?_
  refine m_newO hC hs hH cs6 (fun _ h => List.mem_cons_of_mem _ (inlJx4a65c _ h)) (List.mem_cons_of_mem _ q_14) (List.mem_cons_of_mem _ q_15) (List.mem_cons_of_mem _ q_16) df6 (Nat.le_of_ble_eq_true rfl) (Nat.le_of_ble_eq_true rfl) dX4_init_38 (fun q19 H f20 hH => ?_)
  have hw := hw q19 f20 _ rfl
  refine W.widen (k := 4) (n := 12) (Nat.le_of_ble_eq_true rfl) (Nat.le_of_ble_eq_true rfl) ?_
  refine lv_dup hC.1 hC.2.1 dX4_init_41 rfl ?_
  refine m_callIv (y := yJx4a65c_init_da8c8) (rest := [.ref _, .ref _]) hC hs hH hl.1 (cwI 0 hC.2.2.2.2 (gA0 q_26) rfl rfl rfl (hC.2.2.2.2 _ (List.mem_cons_of_mem _ q_16)) (hC.2.2.2.2 _ (List.mem_cons_of_mem _ q_24)) (hC.2.2.2.2 _ (List.mem_cons_of_mem _ q_25)) rfl (by decide +kernel) ⟨Nat.le_of_ble_eq_true rfl, Nat.le_of_ble_eq_true rfl⟩) (met_Jx4a65c_init_da8c8 l hl0 g _ _ _ _ hX0 hw) rfl rfl (Nat.le_of_ble_eq_true rfl) dX4_init_42 ⟨Nat.le_of_ble_eq_true rfl, Nat.le_of_ble_eq_true rfl⟩ (fun E S1 _ _ _ _ hx => (hX0 E S1 hx).elim) (fun S1 H locs hw hH => ?_)
  refine W.widen (k := 4) (n := 12) (Nat.le_of_ble_eq_true rfl) (Nat.le_of_ble_eq_true rfl) ?_
  obtain ⟨k23, hw⟩ := hw
  have hw := hw _ rfl
  refine m_putR hC hs hH cs4 fs4_3 (fun _ h => List.mem_cons_of_mem _ (inlX4 _ h)) (List.mem_cons_of_mem _ q_20) (fun _ h => h) (Or.inr ⟨rfl, hmn, rfl⟩) rfl rfl k23 dX4_init_45 (fun H locs hH => ?_)
  refine lv_aload_n hC.1 hC.2.1 dX4_init_48 rfl (lv_at hl 0 rfl) ?_
  refine m_newO hC hs hH cs6 (fun _ h => List.mem_cons_of_mem _ (inlJx4a65c _ h)) (List.mem_cons_of_mem _ q_14) (List.mem_cons_of_mem _ q_15) (List.mem_cons_of_mem _ q_16) df6 (Nat.le_of_ble_eq_true rfl) (Nat.le_of_ble_eq_true rfl) dX4_init_49 (fun q25 H f26 hH => ?_)
  have hw := hw q25 f26 _ rfl
  refine W.widen (k := 5) (n := 15) (Nat.le_of_ble_eq_true rfl) (Nat.le_of_ble_eq_true rfl) ?_
  refine lv_dup hC.1 hC.2.1 dX4_init_52 rfl ?_
  refine m_callIv (y := yJx4a65c_init_da8c8) (rest := [.ref _, .ref _]) hC hs hH hl.1 (cwI 0 hC.2.2.2.2 (gA0 q_26) rfl rfl rfl (hC.2.2.2.2 _ (List.mem_cons_of_mem _ q_16)) (hC.2.2.2.2 _ (List.mem_cons_of_mem _ q_24)) (hC.2.2.2.2 _ (List.mem_cons_of_mem _ q_25)) rfl (by decide +kernel) ⟨Nat.le_of_ble_eq_true rfl, Nat.le_of_ble_eq_true rfl⟩) (met_Jx4a65c_init_da8c8 l hl0 g _ _ _ _ hX0 hw) rfl rfl (Nat.le_of_ble_eq_true rfl) dX4_init_53 ⟨Nat.le_of_ble_eq_true rfl, Nat.le_of_ble_eq_true rfl⟩ (fun E S1 _ _ _ _ hx => (hX0 E S1 hx).elim) (fun S1 H locs hw hH => ?_)
  refine W.widen (k := 5) (n := 15) (Nat.le_of_ble_eq_true rfl) (Nat.le_of_ble_eq_true rfl) ?_
  obtain ⟨k29, hw⟩ := hw
  have hw := hw _ rfl
  refine m_putR hC hs hH cs4 fs4_4 (fun _ h => List.mem_cons_of_mem _ (inlX4 _ h)) (List.mem_cons_of_mem _ q_21) (fun _ h => h) (Or.inr ⟨rfl, hmn, rfl⟩) rfl rfl k29 dX4_init_56 (fun H locs hH => ?_)
  refine lv_aload_n hC.1 hC.2.1 dX4_init_59 rfl (lv_at hl 0 rfl) ?_
  refine lv_sipush (v := 480) hC.1 hC.2.1 dX4_init_60 (by decide) ?_
  have hw := hw _ rfl
  refine m_putI hC hs hH cs4 fs4_5 (fun _ h => List.mem_cons_of_mem _ (inlX4 _ h)) (List.mem_cons_of_mem _ q_22) (fun _ h => h) (Or.inl rfl) rfl k29 dX4_init_63 (fun H locs hH => ?_)
  refine lv_aload_n hC.1 hC.2.1 dX4_init_66 rfl (lv_at hl 0 rfl) ?_
  refine lv_sipush (v := 1079) hC.1 hC.2.1 dX4_init_67 (by decide) ?_
  have hw := hw _ rfl
  refine m_putI hC hs hH cs4 fs4_6 (fun _ h => List.mem_cons_of_mem _ (inlX4 _ h)) (List.mem_cons_of_mem _ q_23) (fun _ h => h) (Or.inl rfl) rfl k29 dX4_init_70 (fun H locs hH => ?_)
  exact m_retv hC hH hrt hlk (Nat.le_of_ble_eq_true rfl) (Nat.le_of_ble_eq_true rfl) dX4_init_73 hw
abbrev rm_X4_isWithin : Room := { frames := 1, cells := 0, slots := 0, locals := 0 }
def wp_X4_isWithin (z : Nat × Nat) (S : mmS) (p0 : Int32) (p1 : Int32) (p2 : Int32) (Q : Int32 → mmS → Prop) (X : String → mmS → Prop) : Prop := (p0 < p1 → Q (0 : Int32) S) ∧ (¬ p0 < p1 → (p2 < p0 → Q (0 : Int32) S) ∧ (¬ p2 < p0 → Q (1 : Int32) S))
set_option maxHeartbeats 4000000 in
set_option maxRecDepth 100000 in
theorem met_X4_isWithin (l : Launch) (hl0 : l.stackTraces = false) (g : mG) (S : mmS) (p0 : Int32) (p1 : Int32) (p2 : Int32) (Q : Int32 → mmS → Prop) (X : String → mmS → Prop) (hX0 : ∀ (E : String) (S : mmS), ¬ X E S) (hw : wp_X4_isWithin g.2.2.2.2.2 S p0 p1 p2 Q X) : mMi l g yX4_isWithin (wA_ yX4_isWithin cX4_isWithin 3 (some .boolean)) rm_X4_isWithin [.int p0, .int p1, .int p2] S Q X := by
  refine m_of (y := yX4_isWithin) (cc := cX4_isWithin) (maxL := 3) (ret := (some .boolean)) (by decide) rfl (Nat.le_of_ble_eq_true rfl) ?_
  intro p e s m args below meth c ls hC hrt hlk hmn hnx hs hH hl
  have hC : CallFix p m c cX4_isWithin 3 s args (wA_ yX4_isWithin cX4_isWithin 3 (some .boolean)) RX4 := hC
  have hl : lv_has ls 3 [(0, .int p0), (1, .int p1), (2, .int p2)] := hl
  unfold wp_X4_isWithin at hw
  refine lv_iload_n hC.1 hC.2.1 dX4_isWithin_0 rfl (lv_at hl 0 rfl) ?_
  refine lv_iload_n hC.1 hC.2.1 dX4_isWithin_1 rfl (lv_at hl 1 rfl) ?_
  refine lv_icmp_lt (tgt := 14) hC.1 hC.2.1 dX4_isWithin_2 (by decide) (fun hc => ?_) (fun hc => ?_)
  · have hw := hw.1 hc
    refine lv_iconst (v := 0) hC.1 hC.2.1 dX4_isWithin_14 (by decide) ?_
    exact m_reti hC hH hrt rfl hlk (Nat.le_of_ble_eq_true rfl) (Nat.le_of_ble_eq_true rfl) dX4_isWithin_15 hw
  · have hw := hw.2 hc
    refine lv_iload_n hC.1 hC.2.1 dX4_isWithin_5 rfl (lv_at hl 0 rfl) ?_
    refine lv_iload_n hC.1 hC.2.1 dX4_isWithin_6 rfl (lv_at hl 2 rfl) ?_
    refine lv_icmp_gt (tgt := 14) hC.1 hC.2.1 dX4_isWithin_7 (by decide) (fun hc => ?_) (fun hc => ?_)
    · have hw := hw.1 hc
      refine lv_iconst (v := 0) hC.1 hC.2.1 dX4_isWithin_14 (by decide) ?_
      exact m_reti hC hH hrt rfl hlk (Nat.le_of_ble_eq_true rfl) (Nat.le_of_ble_eq_true rfl) dX4_isWithin_15 hw
    · have hw := hw.2 hc
      refine lv_iconst (v := 1) hC.1 hC.2.1 dX4_isWithin_10 (by decide) ?_
      refine lv_goto (tgt := 15) hC.1 hC.2.1 dX4_isWithin_11 (by decide) ?_
      exact m_reti hC hH hrt rfl hlk (Nat.le_of_ble_eq_true rfl) (Nat.le_of_ble_eq_true rfl) dX4_isWithin_15 hw
abbrev rm_X4_isMoney : Room := { frames := 2, cells := 0, slots := 0, locals := 22 }
def wp_X4_isMoney (z : Nat × Nat) (S : mmS) (p0 : Int32) (Q : Int32 → mmS → Prop) (X : String → mmS → Prop) : Prop := wp_X4_isWithin z S p0 (0 : Int32) (10000 : Int32) (fun r2 S1 => mBo r2 ∧ Q r2 S1) X
set_option maxHeartbeats 4000000 in
set_option maxRecDepth 100000 in
theorem met_X4_isMoney (l : Launch) (hl0 : l.stackTraces = false) (g : mG) (S : mmS) (p0 : Int32) (Q : Int32 → mmS → Prop) (X : String → mmS → Prop) (hX0 : ∀ (E : String) (S : mmS), ¬ X E S) (hw : wp_X4_isMoney g.2.2.2.2.2 S p0 Q X) : mMi l g yX4_isMoney (wA_ yX4_isMoney cX4_isMoney 1 (some .boolean)) rm_X4_isMoney [.int p0] S Q X := by
  refine m_of (y := yX4_isMoney) (cc := cX4_isMoney) (maxL := 1) (ret := (some .boolean)) (by decide) rfl (Nat.le_of_ble_eq_true rfl) ?_
  intro p e s m args below meth c ls hC hrt hlk hmn hnx hs hH hl
  have hC : CallFix p m c cX4_isMoney 1 s args (wA_ yX4_isMoney cX4_isMoney 1 (some .boolean)) RX4 := hC
  have hl : lv_has ls 1 [(0, .int p0)] := hl
  unfold wp_X4_isMoney at hw
  refine lv_iload_n hC.1 hC.2.1 dX4_isMoney_0 rfl (lv_at hl 0 rfl) ?_
  refine lv_iconst (v := 0) hC.1 hC.2.1 dX4_isMoney_1 (by decide) ?_
  refine lv_sipush (v := 10000) hC.1 hC.2.1 dX4_isMoney_2 (by decide) ?_
  refine m_callSi (y := yX4_isWithin) (rest := []) hC hs hH hl.1 (va_cwS 3 hC.2.2.2.2 (gA_S q_65 q_66 q_2 q_67) rfl rfl rfl (by decide +kernel) ⟨Nat.le_of_ble_eq_true rfl, Nat.le_of_ble_eq_true rfl⟩) (met_X4_isWithin l hl0 g _ _ _ _ _ _ hX0 hw) rfl rfl (Nat.le_of_ble_eq_true rfl) dX4_isMoney_5 ⟨Nat.le_of_ble_eq_true rfl, Nat.le_of_ble_eq_true rfl⟩ (fun E S1 _ _ _ _ hx => (hX0 E S1 hx).elim) (fun r2 S1 H locs hw hH => ?_)
  refine W.widen (k := 0) (n := 0) (Nat.le_of_ble_eq_true rfl) (Nat.le_of_ble_eq_true rfl) ?_
  obtain ⟨z3, hw⟩ := hw
  exact m_reti hC hH hrt z3 hlk (Nat.le_of_ble_eq_true rfl) (Nat.le_of_ble_eq_true rfl) dX4_isMoney_8 hw
abbrev rm_X4_addTariff : Room := { frames := 7, cells := 4, slots := 142, locals := 171 }
def wp_X4_addTariff (z : Nat × Nat) (S : mmS) (p0 : Nat) (p1 : Int32) (p2 : Int32) (p3 : Int32) (p4 : Int32) (p5 : Int32) (Q : Int32 → mmS → Prop) (X : String → mmS → Prop) : Prop := wp_X4_isMoney z S p1 (fun r2 S1 => (r2 = 0 → X "java/lang/IllegalArgumentException" S1) ∧ (¬ r2 = 0 → wp_X4_isMoney z S1 p2 (fun r4 S3 => (r4 = 0 → X "java/lang/IllegalArgumentException" S3) ∧ (¬ r4 = 0 → wp_X4_isMoney z S3 p3 (fun r6 S5 => (¬ r6 = 0 → wp_X4_isWithin z S5 p4 (1 : Int32) (300 : Int32) (fun r8 S7 => (r8 = 0 → X "java/lang/IllegalArgumentException" S7) ∧ (¬ r8 = 0 → wp_X4_isWithin z S7 p5 (1 : Int32) (300 : Int32) (fun r10 S9 => (¬ r10 = 0 → (p0 ∈ mL S9 ∧ mK S9 p0 = 4) ∧ ∃ b12 : Nat, mR S9 8 p0 = some b12 ∧ (b12 ∈ mL S9 ∧ mK S9 b12 = 6) ∧ wp_Jx4a65c_size_8abf5 z S9 b12 (fun r16 S14 => (r16 < (5 : Int32) → (p0 ∈ mL S14 ∧ mK S14 p0 = 4) ∧ ∃ b18 : Nat, mR S14 8 p0 = some b18 ∧ ∀ q20 : Nat, q20 ∉ mL S14 → ∀ S22 : mmS, S22 = sNo S14 q20 3 → wp_X3_init z S22 q20 r16 p1 p2 p3 p4 p5 (fun S23 => (b18 ∈ mL S23 ∧ mK S23 b18 = 6) ∧ wp_Jx4a65c_add_9ea2d z S23 b18 q20 (fun r26 S24 => Q r16 S24) X) X) ∧ (¬ r16 < (5 : Int32) → X "java/lang/IllegalStateException" S14)) X) ∧ (r10 = 0 → X "java/lang/IllegalArgumentException" S9)) X)) X) ∧ (r6 = 0 → X "java/lang/IllegalArgumentException" S5)) X)) X)) X
set_option maxHeartbeats 4000000 in
set_option maxRecDepth 100000 in
theorem met_X4_addTariff (l : Launch) (hl0 : l.stackTraces = false) (g : mG) (S : mmS) (p0 : Nat) (p1 : Int32) (p2 : Int32) (p3 : Int32) (p4 : Int32) (p5 : Int32) (Q : Int32 → mmS → Prop) (X : String → mmS → Prop) (hX0 : ∀ (E : String) (S : mmS), ¬ X E S) (hw : wp_X4_addTariff g.2.2.2.2.2 S p0 p1 p2 p3 p4 p5 Q X) : mMi l g yX4_addTariff (wA_ yX4_addTariff cX4_addTariff 7 (some .int)) rm_X4_addTariff [.ref p0, .int p1, .int p2, .int p3, .int p4, .int p5] S Q X := by
  refine m_of (y := yX4_addTariff) (cc := cX4_addTariff) (maxL := 7) (ret := (some .int)) (by decide) rfl (Nat.le_of_ble_eq_true rfl) ?_
  intro p e s m args below meth c ls hC hrt hlk hmn hnx hs hH hl
  have hC : CallFix p m c cX4_addTariff 7 s args (wA_ yX4_addTariff cX4_addTariff 7 (some .int)) RX4 := hC
  have hl : lv_has ls 7 [(0, .ref p0), (1, .int p1), (2, .int p2), (3, .int p3), (4, .int p4), (5, .int p5)] := hl
  unfold wp_X4_addTariff at hw
  refine lv_iload_n hC.1 hC.2.1 dX4_addTariff_0 rfl (lv_at hl 1 rfl) ?_
  refine m_callSi (y := yX4_isMoney) (rest := []) hC hs hH hl.1 (va_cwS 1 hC.2.2.2.2 (gA_S q_62 q_63 q_2 q_64) rfl rfl rfl (by decide +kernel) ⟨Nat.le_of_ble_eq_true rfl, Nat.le_of_ble_eq_true rfl⟩) (met_X4_isMoney l hl0 g _ _ _ _ hX0 hw) rfl rfl (Nat.le_of_ble_eq_true rfl) dX4_addTariff_1 ⟨Nat.le_of_ble_eq_true rfl, Nat.le_of_ble_eq_true rfl⟩ (fun E S1 _ _ _ _ hx => (hX0 E S1 hx).elim) (fun r2 S1 H locs hw hH => ?_)
  refine W.widen (k := 0) (n := 0) (Nat.le_of_ble_eq_true rfl) (Nat.le_of_ble_eq_true rfl) ?_
  refine lv_if_eq (tgt := 21) hC.1 hC.2.1 dX4_addTariff_4 (by decide) (fun hc => ?_) (fun hc => ?_)
  · have hw := hw.1 hc
    exact (hX0 _ _ hw).elim
  · have hw := hw.2 hc
    refine lv_iload_n hC.1 hC.2.1 dX4_addTariff_7 rfl (lv_at hl 2 rfl) ?_
    refine m_callSi (y := yX4_isMoney) (rest := []) hC hs hH hl.1 (va_cwS 1 hC.2.2.2.2 (gA_S q_62 q_63 q_2 q_64) rfl rfl rfl (by decide +kernel) ⟨Nat.le_of_ble_eq_true rfl, Nat.le_of_ble_eq_true rfl⟩) (met_X4_isMoney l hl0 g _ _ _ _ hX0 hw) rfl rfl (Nat.le_of_ble_eq_true rfl) dX4_addTariff_8 ⟨Nat.le_of_ble_eq_true rfl, Nat.le_of_ble_eq_true rfl⟩ (fun E S1 _ _ _ _ hx => (hX0 E S1 hx).elim) (fun r4 S1 H locs hw hH => ?_)
    refine W.widen (k := 0) (n := 0) (Nat.le_of_ble_eq_true rfl) (Nat.le_of_ble_eq_true rfl) ?_
    refine lv_if_eq (tgt := 21) hC.1 hC.2.1 dX4_addTariff_11 (by decide) (fun hc => ?_) (fun hc => ?_)
    · have hw := hw.1 hc
      exact (hX0 _ _ hw).elim
    · have hw := hw.2 hc
      refine lv_iload_n hC.1 hC.2.1 dX4_addTariff_14 rfl (lv_at hl 3 rfl) ?_
      refine m_callSi (y := yX4_isMoney) (rest := []) hC hs hH hl.1 (va_cwS 1 hC.2.2.2.2 (gA_S q_62 q_63 q_2 q_64) rfl rfl rfl (by decide +kernel) ⟨Nat.le_of_ble_eq_true rfl, Nat.le_of_ble_eq_true rfl⟩) (met_X4_isMoney l hl0 g _ _ _ _ hX0 hw) rfl rfl (Nat.le_of_ble_eq_true rfl) dX4_addTariff_15 ⟨Nat.le_of_ble_eq_true rfl, Nat.le_of_ble_eq_true rfl⟩ (fun E S1 _ _ _ _ hx => (hX0 E S1 hx).elim) (fun r6 S1 H locs hw hH => ?_)
      refine W.widen (k := 0) (n := 0) (Nat.le_of_ble_eq_true rfl) (Nat.le_of_ble_eq_true rfl) ?_
      refine lv_if_ne (tgt := 31) hC.1 hC.2.1 dX4_addTariff_18 (by decide) (fun hc => ?_) (fun hc => ?_)
      · have hw := hw.1 hc
        refine lv_iload hC.1 hC.2.1 dX4_addTariff_31 (lv_at hl 4 rfl) ?_
        refine lv_iconst (v := 1) hC.1 hC.2.1 dX4_addTariff_33 (by decide) ?_
        refine lv_sipush (v := 300) hC.1 hC.2.1 dX4_addTariff_34 (by decide) ?_
        refine m_callSi (y := yX4_isWithin) (rest := []) hC hs hH hl.1 (va_cwS 3 hC.2.2.2.2 (gA_S q_65 q_66 q_2 q_67) rfl rfl rfl (by decide +kernel) ⟨Nat.le_of_ble_eq_true rfl, Nat.le_of_ble_eq_true rfl⟩) (met_X4_isWithin l hl0 g _ _ _ _ _ _ hX0 hw) rfl rfl (Nat.le_of_ble_eq_true rfl) dX4_addTariff_37 ⟨Nat.le_of_ble_eq_true rfl, Nat.le_of_ble_eq_true rfl⟩ (fun E S1 _ _ _ _ hx => (hX0 E S1 hx).elim) (fun r8 S1 H locs hw hH => ?_)
        refine W.widen (k := 0) (n := 0) (Nat.le_of_ble_eq_true rfl) (Nat.le_of_ble_eq_true rfl) ?_
        refine lv_if_eq (tgt := 55) hC.1 hC.2.1 dX4_addTariff_40 (by decide) (fun hc => ?_) (fun hc => ?_)
        · have hw := hw.1 hc
          exact (hX0 _ _ hw).elim
        · have hw := hw.2 hc
          refine lv_iload hC.1 hC.2.1 dX4_addTariff_43 (lv_at hl 5 rfl) ?_
          refine lv_iconst (v := 1) hC.1 hC.2.1 dX4_addTariff_45 (by decide) ?_
          refine lv_sipush (v := 300) hC.1 hC.2.1 dX4_addTariff_46 (by decide) ?_
          refine m_callSi (y := yX4_isWithin) (rest := []) hC hs hH hl.1 (va_cwS 3 hC.2.2.2.2 (gA_S q_65 q_66 q_2 q_67) rfl rfl rfl (by decide +kernel) ⟨Nat.le_of_ble_eq_true rfl, Nat.le_of_ble_eq_true rfl⟩) (met_X4_isWithin l hl0 g _ _ _ _ _ _ hX0 hw) rfl rfl (Nat.le_of_ble_eq_true rfl) dX4_addTariff_49 ⟨Nat.le_of_ble_eq_true rfl, Nat.le_of_ble_eq_true rfl⟩ (fun E S1 _ _ _ _ hx => (hX0 E S1 hx).elim) (fun r10 S1 H locs hw hH => ?_)
          refine W.widen (k := 0) (n := 0) (Nat.le_of_ble_eq_true rfl) (Nat.le_of_ble_eq_true rfl) ?_
          refine lv_if_ne (tgt := 65) hC.1 hC.2.1 dX4_addTariff_52 (by decide) (fun hc => ?_) (fun hc => ?_)
          · have hw := hw.1 hc
            refine lv_aload_n hC.1 hC.2.1 dX4_addTariff_65 rfl (lv_at hl 0 rfl) ?_
            obtain ⟨k11, hw⟩ := hw
            obtain ⟨b12, r13, hw⟩ := hw
            refine m_getR hC hs hH cs4 fs4_0 (fun _ h => List.mem_cons_of_mem _ (inlX4 _ h)) (List.mem_cons_of_mem _ q_17) (fun _ h => h) k11 r13 dX4_addTariff_66 ?_
            obtain ⟨k15, hw⟩ := hw
            refine m_callVi (y := yJx4a65c_size_8abf5) (rest := []) hC hs hH hl.1 (cwV 0 hC.2.2.2.2 (gA_V q_68 q_69 q_70 q_16 q_71) rfl rfl rfl (by decide +kernel) ⟨Nat.le_of_ble_eq_true rfl, Nat.le_of_ble_eq_true rfl⟩) cs6 k15 (met_Jx4a65c_size_8abf5 l hl0 g _ _ _ _ hX0 hw) rfl rfl (Nat.le_of_ble_eq_true rfl) dX4_addTariff_69 ⟨Nat.le_of_ble_eq_true rfl, Nat.le_of_ble_eq_true rfl⟩ (fun E S1 _ _ _ _ hx => (hX0 E S1 hx).elim) (fun r16 S1 H locs hw hH => ?_)
            refine W.widen (k := 0) (n := 0) (Nat.le_of_ble_eq_true rfl) (Nat.le_of_ble_eq_true rfl) ?_
            refine lv_istore (lv' := [(6, .int _), (0, .ref _), (1, .int _), (2, .int _), (3, .int _), (4, .int _), (5, .int _)]) hC.1 hC.2.1 dX4_addTariff_72 hl (by decide) rfl (fun ls hl => ?_)
            refine lv_iload hC.1 hC.2.1 dX4_addTariff_74 (lv_at hl 0 rfl) ?_
            refine lv_iconst (v := 5) hC.1 hC.2.1 dX4_addTariff_76 (by decide) ?_
            refine lv_icmp_lt (tgt := 90) hC.1 hC.2.1 dX4_addTariff_77 (by decide) (fun hc => ?_) (fun hc => ?_)
            · have hw := hw.1 hc
              refine lv_aload_n hC.1 hC.2.1 dX4_addTariff_90 rfl (lv_at hl 1 rfl) ?_
              obtain ⟨k17, hw⟩ := hw
              obtain ⟨b18, r19, hw⟩ := hw
              refine m_getR hC hs hH cs4 fs4_0 (fun _ h => List.mem_cons_of_mem _ (inlX4 _ h)) (List.mem_cons_of_mem _ q_17) (fun _ h => h) k17 r19 dX4_addTariff_91 ?_
              refine m_newO hC hs hH cs3 (fun _ h => List.mem_cons_of_mem _ (inlX3 _ h)) (List.mem_cons_of_mem _ q_59) (List.mem_cons_of_mem _ q_60) (List.mem_cons_of_mem _ q_61) df3 (Nat.le_of_ble_eq_true rfl) (Nat.le_of_ble_eq_true rfl) dX4_addTariff_94 (fun q20 H f21 hH => ?_)
              have hw := hw q20 f21 _ rfl
              refine W.widen (k := 1) (n := 8) (Nat.le_of_ble_eq_true rfl) (Nat.le_of_ble_eq_true rfl) ?_
              refine lv_dup hC.1 hC.2.1 dX4_addTariff_97 rfl ?_
              refine lv_iload hC.1 hC.2.1 dX4_addTariff_98 (lv_at hl 0 rfl) ?_
              refine lv_iload_n hC.1 hC.2.1 dX4_addTariff_100 rfl (lv_at hl 2 rfl) ?_
              refine lv_iload_n hC.1 hC.2.1 dX4_addTariff_101 rfl (lv_at hl 3 rfl) ?_
              refine lv_iload_n hC.1 hC.2.1 dX4_addTariff_102 rfl (lv_at hl 4 rfl) ?_
              refine lv_iload hC.1 hC.2.1 dX4_addTariff_103 (lv_at hl 5 rfl) ?_
              refine lv_iload hC.1 hC.2.1 dX4_addTariff_105 (lv_at hl 6 rfl) ?_
              refine m_callIv (y := yX3_init) (rest := [.ref _, .ref _]) hC hs hH hl.1 (cwI 6 hC.2.2.2.2 (gA0 q_75) rfl rfl rfl (hC.2.2.2.2 _ (List.mem_cons_of_mem _ q_61)) (hC.2.2.2.2 _ (List.mem_cons_of_mem _ q_73)) (hC.2.2.2.2 _ (List.mem_cons_of_mem _ q_74)) rfl (by decide +kernel) ⟨Nat.le_of_ble_eq_true rfl, Nat.le_of_ble_eq_true rfl⟩) (met_X3_init l hl0 g _ _ _ _ _ _ _ _ _ _ hX0 hw) rfl rfl (Nat.le_of_ble_eq_true rfl) dX4_addTariff_107 ⟨Nat.le_of_ble_eq_true rfl, Nat.le_of_ble_eq_true rfl⟩ (fun E S1 _ _ _ _ hx => (hX0 E S1 hx).elim) (fun S1 H locs hw hH => ?_)
              refine W.widen (k := 3) (n := 14) (Nat.le_of_ble_eq_true rfl) (Nat.le_of_ble_eq_true rfl) ?_
              obtain ⟨k25, hw⟩ := hw
              refine m_callVi (y := yJx4a65c_add_9ea2d) (rest := []) hC hs hH hl.1 (cwV 1 hC.2.2.2.2 (gA_V q_85 q_86 q_87 q_16 q_88) rfl rfl rfl (by decide +kernel) ⟨Nat.le_of_ble_eq_true rfl, Nat.le_of_ble_eq_true rfl⟩) cs6 k25 (met_Jx4a65c_add_9ea2d l hl0 g _ _ _ _ _ hX0 hw) rfl rfl (Nat.le_of_ble_eq_true rfl) dX4_addTariff_110 ⟨Nat.le_of_ble_eq_true rfl, Nat.le_of_ble_eq_true rfl⟩ (fun E S1 _ _ _ _ hx => (hX0 E S1 hx).elim) (fun r26 S1 H locs hw hH => ?_)
              refine W.widen (k := 4) (n := 142) (Nat.le_of_ble_eq_true rfl) (Nat.le_of_ble_eq_true rfl) ?_
              refine lv_pop hC.1 hC.2.1 dX4_addTariff_113 rfl ?_
              refine lv_iload hC.1 hC.2.1 dX4_addTariff_114 (lv_at hl 0 rfl) ?_
              exact m_reti hC hH hrt rfl hlk (Nat.le_of_ble_eq_true rfl) (Nat.le_of_ble_eq_true rfl) dX4_addTariff_116 hw
            · have hw := hw.2 hc
              exact (hX0 _ _ hw).elim
          · have hw := hw.2 hc
            exact (hX0 _ _ hw).elim
      · have hw := hw.2 hc
        exact (hX0 _ _ hw).elim
abbrev rm_X4_findTariff : Room := { frames := 4, cells := 0, slots := 0, locals := 64 }
def wp_X4_findTariff (z : Nat × Nat) (S : mmS) (p0 : Nat) (p1 : Int32) (Q : Nat → mmS → Prop) (X : String → mmS → Prop) : Prop := (p1 < 0 → X "java/lang/IndexOutOfBoundsException" S) ∧ (¬ p1 < 0 → (p0 ∈ mL S ∧ mK S p0 = 4) ∧ ∃ b2 : Nat, mR S 8 p0 = some b2 ∧ (b2 ∈ mL S ∧ mK S b2 = 6) ∧ wp_Jx4a65c_size_8abf5 z S b2 (fun r6 S4 => (p1 < r6 → (p0 ∈ mL S4 ∧ mK S4 p0 = 4) ∧ ∃ b8 : Nat, mR S4 8 p0 = some b8 ∧ (b8 ∈ mL S4 ∧ mK S4 b8 = 6) ∧ wp_Jx4a65c_get_915e3 z S4 b8 p1 (fun r12 S10 => (r12 ∈ mL S10 ∧ mK S10 r12 = 3) ∧ Q r12 S10) X) ∧ (¬ p1 < r6 → X "java/lang/IndexOutOfBoundsException" S4)) X)
set_option maxHeartbeats 4000000 in
set_option maxRecDepth 100000 in
theorem met_X4_findTariff (l : Launch) (hl0 : l.stackTraces = false) (g : mG) (S : mmS) (p0 : Nat) (p1 : Int32) (Q : Nat → mmS → Prop) (X : String → mmS → Prop) (hX0 : ∀ (E : String) (S : mmS), ¬ X E S) (hw : wp_X4_findTariff g.2.2.2.2.2 S p0 p1 Q X) : mMq l g yX4_findTariff (wA_ yX4_findTariff cX4_findTariff 2 (some (.object "PhoneRater$Tariff"))) rm_X4_findTariff [.ref p0, .int p1] S Q X := by
  refine m_of (y := yX4_findTariff) (cc := cX4_findTariff) (maxL := 2) (ret := (some (.object "PhoneRater$Tariff"))) (by decide) rfl (Nat.le_of_ble_eq_true rfl) ?_
  intro p e s m args below meth c ls hC hrt hlk hmn hnx hs hH hl
  have hC : CallFix p m c cX4_findTariff 2 s args (wA_ yX4_findTariff cX4_findTariff 2 (some (.object "PhoneRater$Tariff"))) RX4 := hC
  have hl : lv_has ls 2 [(0, .ref p0), (1, .int p1)] := hl
  unfold wp_X4_findTariff at hw
  refine lv_iload_n hC.1 hC.2.1 dX4_findTariff_0 rfl (lv_at hl 1 rfl) ?_
  refine lv_if_lt (tgt := 15) hC.1 hC.2.1 dX4_findTariff_1 (by decide) (fun hc => ?_) (fun hc => ?_)
  · have hw := hw.1 hc
    exact (hX0 _ _ hw).elim
  · have hw := hw.2 hc
    refine lv_iload_n hC.1 hC.2.1 dX4_findTariff_4 rfl (lv_at hl 1 rfl) ?_
    refine lv_aload_n hC.1 hC.2.1 dX4_findTariff_5 rfl (lv_at hl 0 rfl) ?_
    obtain ⟨k1, hw⟩ := hw
    obtain ⟨b2, r3, hw⟩ := hw
    refine m_getR hC hs hH cs4 fs4_0 (fun _ h => List.mem_cons_of_mem _ (inlX4 _ h)) (List.mem_cons_of_mem _ q_17) (fun _ h => h) k1 r3 dX4_findTariff_6 ?_
    obtain ⟨k5, hw⟩ := hw
    refine m_callVi (y := yJx4a65c_size_8abf5) (rest := [.int _]) hC hs hH hl.1 (cwV 0 hC.2.2.2.2 (gA_V q_68 q_69 q_70 q_16 q_71) rfl rfl rfl (by decide +kernel) ⟨Nat.le_of_ble_eq_true rfl, Nat.le_of_ble_eq_true rfl⟩) cs6 k5 (met_Jx4a65c_size_8abf5 l hl0 g _ _ _ _ hX0 hw) rfl rfl (Nat.le_of_ble_eq_true rfl) dX4_findTariff_9 ⟨Nat.le_of_ble_eq_true rfl, Nat.le_of_ble_eq_true rfl⟩ (fun E S1 _ _ _ _ hx => (hX0 E S1 hx).elim) (fun r6 S1 H locs hw hH => ?_)
    refine W.widen (k := 0) (n := 0) (Nat.le_of_ble_eq_true rfl) (Nat.le_of_ble_eq_true rfl) ?_
    refine lv_icmp_lt (tgt := 26) hC.1 hC.2.1 dX4_findTariff_12 (by decide) (fun hc => ?_) (fun hc => ?_)
    · have hw := hw.1 hc
      refine lv_aload_n hC.1 hC.2.1 dX4_findTariff_26 rfl (lv_at hl 0 rfl) ?_
      obtain ⟨k7, hw⟩ := hw
      obtain ⟨b8, r9, hw⟩ := hw
      refine m_getR hC hs hH cs4 fs4_0 (fun _ h => List.mem_cons_of_mem _ (inlX4 _ h)) (List.mem_cons_of_mem _ q_17) (fun _ h => h) k7 r9 dX4_findTariff_27 ?_
      refine lv_iload_n hC.1 hC.2.1 dX4_findTariff_30 rfl (lv_at hl 1 rfl) ?_
      obtain ⟨k11, hw⟩ := hw
      refine m_callVq (y := yJx4a65c_get_915e3) (rest := []) hC hs hH hl.1 (cwV 1 hC.2.2.2.2 (gA_V q_147 q_148 q_149 q_16 q_150) rfl rfl rfl (by decide +kernel) ⟨Nat.le_of_ble_eq_true rfl, Nat.le_of_ble_eq_true rfl⟩) cs6 k11 (met_Jx4a65c_get_915e3 l hl0 g _ _ _ _ _ hX0 hw) rfl rfl (Nat.le_of_ble_eq_true rfl) dX4_findTariff_31 ⟨Nat.le_of_ble_eq_true rfl, Nat.le_of_ble_eq_true rfl⟩ (fun E S1 _ _ _ _ hx => (hX0 E S1 hx).elim) (fun r12 S1 H locs hw hH => ?_)
      refine W.widen (k := 0) (n := 0) (Nat.le_of_ble_eq_true rfl) (Nat.le_of_ble_eq_true rfl) ?_
      obtain ⟨k13, hw⟩ := hw
      refine m_cast hC hs hH cs3 (List.mem_cons_of_mem _ q_59) k13 dX4_findTariff_34 ?_
      exact m_retq hC hH hrt (Or.inl ⟨_, rfl⟩) hlk (Nat.le_of_ble_eq_true rfl) (Nat.le_of_ble_eq_true rfl) dX4_findTariff_37 hw
    · have hw := hw.2 hc
      exact (hX0 _ _ hw).elim
abbrev rm_X4_checkAbroad : Room := { frames := 2, cells := 0, slots := 0, locals := 22 }
def wp_X4_checkAbroad (z : Nat × Nat) (S : mmS) (p0 : Int32) (Q : mmS → Prop) (X : String → mmS → Prop) : Prop := wp_X4_isWithin z S p0 (1 : Int32) (2 : Int32) (fun r2 S1 => (¬ r2 = 0 → Q S1) ∧ (r2 = 0 → X "java/lang/IndexOutOfBoundsException" S1)) X
set_option maxHeartbeats 4000000 in
set_option maxRecDepth 100000 in
theorem met_X4_checkAbroad (l : Launch) (hl0 : l.stackTraces = false) (g : mG) (S : mmS) (p0 : Int32) (Q : mmS → Prop) (X : String → mmS → Prop) (hX0 : ∀ (E : String) (S : mmS), ¬ X E S) (hw : wp_X4_checkAbroad g.2.2.2.2.2 S p0 Q X) : mMv l g yX4_checkAbroad (wA_ yX4_checkAbroad cX4_checkAbroad 1 none) rm_X4_checkAbroad [.int p0] S Q X := by
  refine m_of (y := yX4_checkAbroad) (cc := cX4_checkAbroad) (maxL := 1) (ret := none) (by decide) rfl (Nat.le_of_ble_eq_true rfl) ?_
  intro p e s m args below meth c ls hC hrt hlk hmn hnx hs hH hl
  have hC : CallFix p m c cX4_checkAbroad 1 s args (wA_ yX4_checkAbroad cX4_checkAbroad 1 none) RX4 := hC
  have hl : lv_has ls 1 [(0, .int p0)] := hl
  unfold wp_X4_checkAbroad at hw
  refine lv_iload_n hC.1 hC.2.1 dX4_checkAbroad_0 rfl (lv_at hl 0 rfl) ?_
  refine lv_iconst (v := 1) hC.1 hC.2.1 dX4_checkAbroad_1 (by decide) ?_
  refine lv_iconst (v := 2) hC.1 hC.2.1 dX4_checkAbroad_2 (by decide) ?_
  refine m_callSi (y := yX4_isWithin) (rest := []) hC hs hH hl.1 (va_cwS 3 hC.2.2.2.2 (gA_S q_65 q_66 q_2 q_67) rfl rfl rfl (by decide +kernel) ⟨Nat.le_of_ble_eq_true rfl, Nat.le_of_ble_eq_true rfl⟩) (met_X4_isWithin l hl0 g _ _ _ _ _ _ hX0 hw) rfl rfl (Nat.le_of_ble_eq_true rfl) dX4_checkAbroad_3 ⟨Nat.le_of_ble_eq_true rfl, Nat.le_of_ble_eq_true rfl⟩ (fun E S1 _ _ _ _ hx => (hX0 E S1 hx).elim) (fun r2 S1 H locs hw hH => ?_)
  refine W.widen (k := 0) (n := 0) (Nat.le_of_ble_eq_true rfl) (Nat.le_of_ble_eq_true rfl) ?_
  refine lv_if_ne (tgt := 20) hC.1 hC.2.1 dX4_checkAbroad_6 (by decide) (fun hc => ?_) (fun hc => ?_)
  · have hw := hw.1 hc
    exact m_retv hC hH hrt hlk (Nat.le_of_ble_eq_true rfl) (Nat.le_of_ble_eq_true rfl) dX4_checkAbroad_20 hw
  · have hw := hw.2 hc
    exact (hX0 _ _ hw).elim
abbrev rm_X4_beginsInPeak : Room := { frames := 2, cells := 0, slots := 0, locals := 22 }
def bk_X4_beginsInPeak_25 (z : Nat × Nat) (Q : Int32 → mmS → Prop) (X : String → mmS → Prop) (S : mmS) (x0 : Nat) (x2 : Int32) (t0 : Int32) : Prop := (¬ t0 = 0 → Q (0 : Int32) S) ∧ (t0 = 0 → (x0 ∈ mL S ∧ mK S x0 = 4) ∧ wp_X4_isWithin z S x2 (mI S 21 x0) (mI S 22 x0) (fun r3 S2 => (r3 = 0 → Q (0 : Int32) S2) ∧ (¬ r3 = 0 → Q (1 : Int32) S2)) X)
def wp_X4_beginsInPeak (z : Nat × Nat) (S : mmS) (p0 : Nat) (p1 : Nat) (Q : Int32 → mmS → Prop) (X : String → mmS → Prop) : Prop := (p1 ∈ mL S ∧ mK S p1 = 1) ∧ ∀ v2 : Int32, v2 = ((mI S 7 p1) - (mI S 7 p1) / (1440 : Int32) * (1440 : Int32)) → wp_X1_day z S p1 (fun r4 S3 => ((r4 - r4 / (7 : Int32) * (7 : Int32)) < (5 : Int32) → bk_X4_beginsInPeak_25 z Q X S3 p0 v2 (0 : Int32)) ∧ (¬ (r4 - r4 / (7 : Int32) * (7 : Int32)) < (5 : Int32) → bk_X4_beginsInPeak_25 z Q X S3 p0 v2 (1 : Int32))) X
set_option maxHeartbeats 4000000 in
set_option maxRecDepth 100000 in
theorem bw_X4_beginsInPeak_25 {p : Program} {l : Launch} {e : Env} {s : State} {m : MethodId} {args : Array Value} {below : List Frame} {meth : Method} {c : Code} {g : mG} {Q : Int32 → mmS → Prop} {X : String → mmS → Prop} (hl0 : l.stackTraces = false) (hC : CallFix p m c cX4_beginsInPeak 4 s args (wA_ yX4_beginsInPeak cX4_beginsInPeak 4 (some .boolean)) RX4) (hrt : meth.sig.returnType = (some .boolean)) (hlk : meth.locks = false) (hmn : meth.name = yX4_beginsInPeak.name) (hnx : ∀ x ∈ c.exceptionTable.toList, False) (hs : mX g s) (hX0 : ∀ (E : String) (S : mmS), ¬ X E S) : ∀ (S : mmS) (x0 : Nat) (x2 : Int32) (t0 : Int32), bk_X4_beginsInPeak_25 g.2.2.2.2.2 Q X S x0 x2 t0 → ∀ (H : Heap) (locs : List Loc), mH g S s H locs → ∀ ls : Array Slot, lv_has ls 4 [(0, .ref x0), (2, .int x2)] → W p l e rm_X4_beginsInPeak s m args below meth c H locs 0 0 (vx_MQ below (va_Qi Q (wO g) (mB g)) (vx_X (fun _ : mmS => True) (fun E S1 t => X E S1 ∧ wO g S1 t) (mB g)) args s rm_X4_beginsInPeak.cells rm_X4_beginsInPeak.slots (mB g)) (F0 m 25 ls [.int t0]) := by
  intro S x0 x2 t0 hw H locs hH ls hl
  unfold bk_X4_beginsInPeak_25 at hw
  refine lv_istore_n (lv' := [(3, .int _), (0, .ref _), (2, .int _)]) hC.1 hC.2.1 dX4_beginsInPeak_25 rfl hl (by decide) rfl (fun ls hl => ?_)
  refine lv_iload_n hC.1 hC.2.1 dX4_beginsInPeak_26 rfl (lv_at hl 0 rfl) ?_
  refine lv_if_ne (tgt := 49) hC.1 hC.2.1 dX4_beginsInPeak_27 (by decide) (fun hc => ?_) (fun hc => ?_)
  · have hw := hw.1 hc
    refine lv_iconst (v := 0) hC.1 hC.2.1 dX4_beginsInPeak_49 (by decide) ?_
    exact m_reti hC hH hrt rfl hlk (Nat.le_of_ble_eq_true rfl) (Nat.le_of_ble_eq_true rfl) dX4_beginsInPeak_50 hw
  · have hw := hw.2 hc
    refine lv_iload_n hC.1 hC.2.1 dX4_beginsInPeak_30 rfl (lv_at hl 2 rfl) ?_
    refine lv_aload_n hC.1 hC.2.1 dX4_beginsInPeak_31 rfl (lv_at hl 1 rfl) ?_
    obtain ⟨k1, hw⟩ := hw
    refine m_getI hC hs hH cs4 fs4_5 (fun _ h => List.mem_cons_of_mem _ (inlX4 _ h)) (List.mem_cons_of_mem _ q_22) (fun _ h => h) k1 dX4_beginsInPeak_32 ?_
    refine lv_aload_n hC.1 hC.2.1 dX4_beginsInPeak_35 rfl (lv_at hl 1 rfl) ?_
    refine m_getI hC hs hH cs4 fs4_6 (fun _ h => List.mem_cons_of_mem _ (inlX4 _ h)) (List.mem_cons_of_mem _ q_23) (fun _ h => h) k1 dX4_beginsInPeak_36 ?_
    refine m_callSi (y := yX4_isWithin) (rest := []) hC hs hH hl.1 (va_cwS 3 hC.2.2.2.2 (gA_S q_65 q_66 q_2 q_67) rfl rfl rfl (by decide +kernel) ⟨Nat.le_of_ble_eq_true rfl, Nat.le_of_ble_eq_true rfl⟩) (met_X4_isWithin l hl0 g _ _ _ _ _ _ hX0 hw) rfl rfl (Nat.le_of_ble_eq_true rfl) dX4_beginsInPeak_39 ⟨Nat.le_of_ble_eq_true rfl, Nat.le_of_ble_eq_true rfl⟩ (fun E S1 _ _ _ _ hx => (hX0 E S1 hx).elim) (fun r3 S1 H locs hw hH => ?_)
    refine W.widen (k := 0) (n := 0) (Nat.le_of_ble_eq_true rfl) (Nat.le_of_ble_eq_true rfl) ?_
    refine lv_if_eq (tgt := 49) hC.1 hC.2.1 dX4_beginsInPeak_42 (by decide) (fun hc => ?_) (fun hc => ?_)
    · have hw := hw.1 hc
      refine lv_iconst (v := 0) hC.1 hC.2.1 dX4_beginsInPeak_49 (by decide) ?_
      exact m_reti hC hH hrt rfl hlk (Nat.le_of_ble_eq_true rfl) (Nat.le_of_ble_eq_true rfl) dX4_beginsInPeak_50 hw
    · have hw := hw.2 hc
      refine lv_iconst (v := 1) hC.1 hC.2.1 dX4_beginsInPeak_45 (by decide) ?_
      refine lv_goto (tgt := 50) hC.1 hC.2.1 dX4_beginsInPeak_46 (by decide) ?_
      exact m_reti hC hH hrt rfl hlk (Nat.le_of_ble_eq_true rfl) (Nat.le_of_ble_eq_true rfl) dX4_beginsInPeak_50 hw
set_option maxHeartbeats 4000000 in
set_option maxRecDepth 100000 in
theorem met_X4_beginsInPeak (l : Launch) (hl0 : l.stackTraces = false) (g : mG) (S : mmS) (p0 : Nat) (p1 : Nat) (Q : Int32 → mmS → Prop) (X : String → mmS → Prop) (hX0 : ∀ (E : String) (S : mmS), ¬ X E S) (hw : wp_X4_beginsInPeak g.2.2.2.2.2 S p0 p1 Q X) : mMi l g yX4_beginsInPeak (wA_ yX4_beginsInPeak cX4_beginsInPeak 4 (some .boolean)) rm_X4_beginsInPeak [.ref p0, .ref p1] S Q X := by
  refine m_of (y := yX4_beginsInPeak) (cc := cX4_beginsInPeak) (maxL := 4) (ret := (some .boolean)) (by decide) rfl (Nat.le_of_ble_eq_true rfl) ?_
  intro p e s m args below meth c ls hC hrt hlk hmn hnx hs hH hl
  have hC : CallFix p m c cX4_beginsInPeak 4 s args (wA_ yX4_beginsInPeak cX4_beginsInPeak 4 (some .boolean)) RX4 := hC
  have hl : lv_has ls 4 [(0, .ref p0), (1, .ref p1)] := hl
  unfold wp_X4_beginsInPeak at hw
  refine lv_aload_n hC.1 hC.2.1 dX4_beginsInPeak_0 rfl (lv_at hl 1 rfl) ?_
  obtain ⟨k1, hw⟩ := hw
  refine m_getI hC hs hH cs1 fs1_2 (fun _ h => List.mem_cons_of_mem _ (inlX1 _ h)) (List.mem_cons_of_mem _ q_231) (fun _ h => h) k1 dX4_beginsInPeak_1 ?_
  refine lv_sipush (v := 1440) hC.1 hC.2.1 dX4_beginsInPeak_4 (by decide) ?_
  refine lv_irem hC.1 hC.2.1 dX4_beginsInPeak_7 (by decide) ?_
  have hw := hw _ rfl
  refine lv_istore_n (lv' := [(2, .int _), (0, .ref _), (1, .ref _)]) hC.1 hC.2.1 dX4_beginsInPeak_8 rfl hl (by decide) rfl (fun ls hl => ?_)
  refine lv_aload_n hC.1 hC.2.1 dX4_beginsInPeak_9 rfl (lv_at hl 2 rfl) ?_
  refine m_callVi (y := yX1_day) (rest := []) hC hs hH hl.1 (cwV 0 hC.2.2.2.2 (gA_V q_232 q_233 q_234 q_194 q_235) rfl rfl rfl (by decide +kernel) ⟨Nat.le_of_ble_eq_true rfl, Nat.le_of_ble_eq_true rfl⟩) cs1 k1 (met_X1_day l hl0 g _ _ _ _ hX0 hw) rfl rfl (Nat.le_of_ble_eq_true rfl) dX4_beginsInPeak_10 ⟨Nat.le_of_ble_eq_true rfl, Nat.le_of_ble_eq_true rfl⟩ (fun E S1 _ _ _ _ hx => (hX0 E S1 hx).elim) (fun r4 S1 H locs hw hH => ?_)
  refine W.widen (k := 0) (n := 0) (Nat.le_of_ble_eq_true rfl) (Nat.le_of_ble_eq_true rfl) ?_
  refine lv_bipush (v := 7) hC.1 hC.2.1 dX4_beginsInPeak_13 (by decide) ?_
  refine lv_irem hC.1 hC.2.1 dX4_beginsInPeak_15 (by decide) ?_
  refine lv_iconst (v := 5) hC.1 hC.2.1 dX4_beginsInPeak_16 (by decide) ?_
  refine lv_icmp_lt (tgt := 24) hC.1 hC.2.1 dX4_beginsInPeak_17 (by decide) (fun hc => ?_) (fun hc => ?_)
  · have hw := hw.1 hc
    refine lv_iconst (v := 0) hC.1 hC.2.1 dX4_beginsInPeak_24 (by decide) ?_
    exact bw_X4_beginsInPeak_25 hl0 hC hrt hlk hmn hnx hs hX0 _ _ _ _ hw _ _ hH _ (lv_sub hl [1, 0] rfl)
  · have hw := hw.2 hc
    refine lv_iconst (v := 1) hC.1 hC.2.1 dX4_beginsInPeak_20 (by decide) ?_
    refine lv_goto (tgt := 25) hC.1 hC.2.1 dX4_beginsInPeak_21 (by decide) ?_
    exact bw_X4_beginsInPeak_25 hl0 hC hrt hlk hmn hnx hs hX0 _ _ _ _ hw _ _ hH _ (lv_sub hl [1, 0] rfl)
abbrev rm_X4_rateDayFee : Room := { frames := 2, cells := 0, slots := 0, locals := 47 }
def bk_X4_rateDayFee_42 (z : Nat × Nat) (Q : mmS → Prop) (X : String → mmS → Prop) (S : mmS) (x0 : Nat) (x1 : Nat) (x2 : Int32) : Prop := (x0 ∈ mL S ∧ mK S x0 = 1) ∧ (x1 ∈ mL S ∧ mK S x1 = 2) ∧ wp_X2_takeFreeOfDay z S x1 x2 (mI S 10 x0) (fun r4 S2 => (x0 ∈ mL S2 ∧ mK S2 x0 = 1) ∧ ∀ S6 : mmS, S6 = sI S2 11 x0 r4 → Q S6) X
def wp_X4_rateDayFee (z : Nat × Nat) (S : mmS) (p0 : Nat) (Q : mmS → Prop) (X : String → mmS → Prop) : Prop := (p0 ∈ mL S ∧ mK S p0 = 1) ∧ ∃ b2 : Nat, mR S 0 p0 = some b2 ∧ ∀ v4 : Int32, v4 = (mI S 8 p0) → (b2 ∈ mL S ∧ mK S b2 = 2) ∧ ∃ b6 : Nat, mR S 2 b2 = some b6 ∧ (b6 ∈ mL S ∧ mK S b6 = 3) ∧ ∃ b9 : Nat, mR S 7 b6 = some b9 ∧ (b9 ∈ mL S ∧ mK S b9 = 7) ∧ vp_in v4 (mN S b9) ∧ ∀ v13 : Int32, v13 = (mA S b9 (v4).toNatClampNeg) → (¬ v13 = 0 → wp_X1_day z S p0 (fun r15 S14 => (b2 ∈ mL S14 ∧ mK S14 b2 = 2) ∧ wp_X2_beginsFeeDay z S14 b2 v4 r15 (fun r18 S16 => (r18 = 0 → bk_X4_rateDayFee_42 z Q X S16 p0 b2 v4) ∧ (¬ r18 = 0 → (p0 ∈ mL S16 ∧ mK S16 p0 = 1) ∧ ∀ S20 : mmS, S20 = sI S16 13 p0 v13 → bk_X4_rateDayFee_42 z Q X S20 p0 b2 v4)) X) X) ∧ (v13 = 0 → Q S)
set_option maxHeartbeats 4000000 in
set_option maxRecDepth 100000 in
theorem bw_X4_rateDayFee_42 {p : Program} {l : Launch} {e : Env} {s : State} {m : MethodId} {args : Array Value} {below : List Frame} {meth : Method} {c : Code} {g : mG} {Q : mmS → Prop} {X : String → mmS → Prop} (hl0 : l.stackTraces = false) (hC : CallFix p m c cX4_rateDayFee 4 s args (wA_ yX4_rateDayFee cX4_rateDayFee 4 none) RX4) (hrt : meth.sig.returnType = none) (hlk : meth.locks = false) (hmn : meth.name = yX4_rateDayFee.name) (hnx : ∀ x ∈ c.exceptionTable.toList, False) (hs : mX g s) (hX0 : ∀ (E : String) (S : mmS), ¬ X E S) : ∀ (S : mmS) (x0 : Nat) (x1 : Nat) (x2 : Int32), bk_X4_rateDayFee_42 g.2.2.2.2.2 Q X S x0 x1 x2 → ∀ (H : Heap) (locs : List Loc), mH g S s H locs → ∀ ls : Array Slot, lv_has ls 4 [(0, .ref x0), (1, .ref x1), (2, .int x2)] → W p l e rm_X4_rateDayFee s m args below meth c H locs 0 0 (vx_MQ below (va_Qv Q (wO g) (mB g)) (vx_X (fun _ : mmS => True) (fun E S1 t => X E S1 ∧ wO g S1 t) (mB g)) args s rm_X4_rateDayFee.cells rm_X4_rateDayFee.slots (mB g)) (F0 m 42 ls []) := by
  intro S x0 x1 x2 hw H locs hH ls hl
  unfold bk_X4_rateDayFee_42 at hw
  refine lv_aload_n hC.1 hC.2.1 dX4_rateDayFee_42 rfl (lv_at hl 0 rfl) ?_
  refine lv_aload_n hC.1 hC.2.1 dX4_rateDayFee_43 rfl (lv_at hl 1 rfl) ?_
  refine lv_iload_n hC.1 hC.2.1 dX4_rateDayFee_44 rfl (lv_at hl 2 rfl) ?_
  refine lv_aload_n hC.1 hC.2.1 dX4_rateDayFee_45 rfl (lv_at hl 0 rfl) ?_
  obtain ⟨k1, hw⟩ := hw
  refine m_getI hC hs hH cs1 fs1_5 (fun _ h => List.mem_cons_of_mem _ (inlX1 _ h)) (List.mem_cons_of_mem _ q_206) (fun _ h => h) k1 dX4_rateDayFee_46 ?_
  obtain ⟨k3, hw⟩ := hw
  refine m_callVi (y := yX2_takeFreeOfDay) (rest := [.ref _]) hC hs hH hl.1 (cwV 2 hC.2.2.2.2 (gA_V q_245 q_246 q_247 q_186 q_248) rfl rfl rfl (by decide +kernel) ⟨Nat.le_of_ble_eq_true rfl, Nat.le_of_ble_eq_true rfl⟩) cs2 k3 (met_X2_takeFreeOfDay l hl0 g _ _ _ _ _ _ hX0 hw) rfl rfl (Nat.le_of_ble_eq_true rfl) dX4_rateDayFee_49 ⟨Nat.le_of_ble_eq_true rfl, Nat.le_of_ble_eq_true rfl⟩ (fun E S1 _ _ _ _ hx => (hX0 E S1 hx).elim) (fun r4 S1 H locs hw hH => ?_)
  refine W.widen (k := 0) (n := 0) (Nat.le_of_ble_eq_true rfl) (Nat.le_of_ble_eq_true rfl) ?_
  obtain ⟨k5, hw⟩ := hw
  have hw := hw _ rfl
  refine m_putI hC hs hH cs1 fs1_6 (fun _ h => List.mem_cons_of_mem _ (inlX1 _ h)) (List.mem_cons_of_mem _ q_209) (fun _ h => h) (Or.inl rfl) rfl k5 dX4_rateDayFee_52 (fun H locs hH => ?_)
  exact m_retv hC hH hrt hlk (Nat.le_of_ble_eq_true rfl) (Nat.le_of_ble_eq_true rfl) dX4_rateDayFee_55 hw
set_option maxHeartbeats 4000000 in
set_option maxRecDepth 100000 in
theorem met_X4_rateDayFee (l : Launch) (hl0 : l.stackTraces = false) (g : mG) (S : mmS) (p0 : Nat) (Q : mmS → Prop) (X : String → mmS → Prop) (hX0 : ∀ (E : String) (S : mmS), ¬ X E S) (hw : wp_X4_rateDayFee g.2.2.2.2.2 S p0 Q X) : mMv l g yX4_rateDayFee (wA_ yX4_rateDayFee cX4_rateDayFee 4 none) rm_X4_rateDayFee [.ref p0] S Q X := by
  refine m_of (y := yX4_rateDayFee) (cc := cX4_rateDayFee) (maxL := 4) (ret := none) (by decide) rfl (Nat.le_of_ble_eq_true rfl) ?_
  intro p e s m args below meth c ls hC hrt hlk hmn hnx hs hH hl
  have hC : CallFix p m c cX4_rateDayFee 4 s args (wA_ yX4_rateDayFee cX4_rateDayFee 4 none) RX4 := hC
  have hl : lv_has ls 4 [(0, .ref p0)] := hl
  unfold wp_X4_rateDayFee at hw
  refine lv_aload_n hC.1 hC.2.1 dX4_rateDayFee_0 rfl (lv_at hl 0 rfl) ?_
  obtain ⟨k1, hw⟩ := hw
  obtain ⟨b2, r3, hw⟩ := hw
  refine m_getR hC hs hH cs1 fs1_1 (fun _ h => List.mem_cons_of_mem _ (inlX1 _ h)) (List.mem_cons_of_mem _ q_204) (fun _ h => h) k1 r3 dX4_rateDayFee_1 ?_
  refine lv_astore_n (lv' := [(1, .ref _), (0, .ref _)]) hC.1 hC.2.1 dX4_rateDayFee_4 rfl hl (by decide) rfl (fun ls hl => ?_)
  refine lv_aload_n hC.1 hC.2.1 dX4_rateDayFee_5 rfl (lv_at hl 1 rfl) ?_
  refine m_getI hC hs hH cs1 fs1_3 (fun _ h => List.mem_cons_of_mem _ (inlX1 _ h)) (List.mem_cons_of_mem _ q_207) (fun _ h => h) k1 dX4_rateDayFee_6 ?_
  have hw := hw _ rfl
  refine lv_istore_n (lv' := [(2, .int _), (1, .ref _), (0, .ref _)]) hC.1 hC.2.1 dX4_rateDayFee_9 rfl hl (by decide) rfl (fun ls hl => ?_)
  refine lv_aload_n hC.1 hC.2.1 dX4_rateDayFee_10 rfl (lv_at hl 1 rfl) ?_
  obtain ⟨k5, hw⟩ := hw
  obtain ⟨b6, r7, hw⟩ := hw
  refine m_getR hC hs hH cs2 fs2_1 (fun _ h => List.mem_cons_of_mem _ (inlX2 _ h)) (List.mem_cons_of_mem _ q_205) (fun _ h => h) k5 r7 dX4_rateDayFee_11 ?_
  obtain ⟨k8, hw⟩ := hw
  obtain ⟨b9, r10, hw⟩ := hw
  refine m_getR hC hs hH cs3 fs3_7 (fun _ h => List.mem_cons_of_mem _ (inlX3 _ h)) (List.mem_cons_of_mem _ q_139) (fun _ h => h) k8 r10 dX4_rateDayFee_14 ?_
  refine lv_iload_n hC.1 hC.2.1 dX4_rateDayFee_17 rfl (lv_at hl 0 rfl) ?_
  obtain ⟨k11, hw⟩ := hw
  obtain ⟨i12, hw⟩ := hw
  refine m_iald hC hs hH k11 i12 dX4_rateDayFee_18 ?_
  have hw := hw _ rfl
  refine lv_istore_n (lv' := [(3, .int _), (2, .int _), (1, .ref _), (0, .ref _)]) hC.1 hC.2.1 dX4_rateDayFee_19 rfl hl (by decide) rfl (fun ls hl => ?_)
  refine lv_iload_n hC.1 hC.2.1 dX4_rateDayFee_20 rfl (lv_at hl 0 rfl) ?_
  refine lv_if_ne (tgt := 25) hC.1 hC.2.1 dX4_rateDayFee_21 (by decide) (fun hc => ?_) (fun hc => ?_)
  · have hw := hw.1 hc
    refine lv_aload_n hC.1 hC.2.1 dX4_rateDayFee_25 rfl (lv_at hl 2 rfl) ?_
    refine lv_iload_n hC.1 hC.2.1 dX4_rateDayFee_26 rfl (lv_at hl 1 rfl) ?_
    refine lv_aload_n hC.1 hC.2.1 dX4_rateDayFee_27 rfl (lv_at hl 3 rfl) ?_
    refine m_callVi (y := yX1_day) (rest := [.int _, .ref _]) hC hs hH hl.1 (cwV 0 hC.2.2.2.2 (gA_V q_232 q_233 q_234 q_194 q_235) rfl rfl rfl (by decide +kernel) ⟨Nat.le_of_ble_eq_true rfl, Nat.le_of_ble_eq_true rfl⟩) cs1 k1 (met_X1_day l hl0 g _ _ _ _ hX0 hw) rfl rfl (Nat.le_of_ble_eq_true rfl) dX4_rateDayFee_28 ⟨Nat.le_of_ble_eq_true rfl, Nat.le_of_ble_eq_true rfl⟩ (fun E S1 _ _ _ _ hx => (hX0 E S1 hx).elim) (fun r15 S1 H locs hw hH => ?_)
    refine W.widen (k := 0) (n := 0) (Nat.le_of_ble_eq_true rfl) (Nat.le_of_ble_eq_true rfl) ?_
    obtain ⟨k17, hw⟩ := hw
    refine m_callVi (y := yX2_beginsFeeDay) (rest := []) hC hs hH hl.1 (cwV 2 hC.2.2.2.2 (gA_V q_240 q_241 q_242 q_186 q_243) rfl rfl rfl (by decide +kernel) ⟨Nat.le_of_ble_eq_true rfl, Nat.le_of_ble_eq_true rfl⟩) cs2 k17 (met_X2_beginsFeeDay l hl0 g _ _ _ _ _ _ hX0 hw) rfl rfl (Nat.le_of_ble_eq_true rfl) dX4_rateDayFee_31 ⟨Nat.le_of_ble_eq_true rfl, Nat.le_of_ble_eq_true rfl⟩ (fun E S1 _ _ _ _ hx => (hX0 E S1 hx).elim) (fun r18 S1 H locs hw hH => ?_)
    refine W.widen (k := 0) (n := 0) (Nat.le_of_ble_eq_true rfl) (Nat.le_of_ble_eq_true rfl) ?_
    refine lv_if_eq (tgt := 42) hC.1 hC.2.1 dX4_rateDayFee_34 (by decide) (fun hc => ?_) (fun hc => ?_)
    · have hw := hw.1 hc
      exact bw_X4_rateDayFee_42 hl0 hC hrt hlk hmn hnx hs hX0 _ _ _ _ hw _ _ hH _ (lv_sub hl [3, 2, 1] rfl)
    · have hw := hw.2 hc
      refine lv_aload_n hC.1 hC.2.1 dX4_rateDayFee_37 rfl (lv_at hl 3 rfl) ?_
      refine lv_iload_n hC.1 hC.2.1 dX4_rateDayFee_38 rfl (lv_at hl 0 rfl) ?_
      obtain ⟨k19, hw⟩ := hw
      have hw := hw _ rfl
      refine m_putI hC hs hH cs1 fs1_8 (fun _ h => List.mem_cons_of_mem _ (inlX1 _ h)) (List.mem_cons_of_mem _ q_212) (fun _ h => h) (Or.inl rfl) rfl k19 dX4_rateDayFee_39 (fun H locs hH => ?_)
      exact bw_X4_rateDayFee_42 hl0 hC hrt hlk hmn hnx hs hX0 _ _ _ _ hw _ _ hH _ (lv_sub hl [3, 2, 1] rfl)
  · have hw := hw.2 hc
    exact m_retv hC hH hrt hlk (Nat.le_of_ble_eq_true rfl) (Nat.le_of_ble_eq_true rfl) dX4_rateDayFee_24 hw
abbrev rm_X4_rate : Room := { frames := 3, cells := 0, slots := 0, locals := 70 }
def bk_X4_rate_80 (z : Nat × Nat) (Q : mmS → Prop) (X : String → mmS → Prop) (S : mmS) (x1 : Nat) (x2 : Nat) (x3 : Nat) (x4 : Int32) : Prop := (x1 ∈ mL S ∧ mK S x1 = 1) ∧ (x3 ∈ mL S ∧ mK S x3 = 3) ∧ wp_X3_chargeFor z S x3 ((mI S 10 x1) - (mI S 11 x1)) x4 (fun r4 S2 => (x1 ∈ mL S2 ∧ mK S2 x1 = 1) ∧ ∀ S6 : mmS, S6 = sI S2 12 x1 ((mI S 13 x1) + r4) → (x2 ∈ mL S6 ∧ mK S6 x2 = 2) ∧ ∀ S8 : mmS, S8 = sI S6 14 x2 ((mI S6 14 x2) + (mI S6 12 x1)) → ∃ b9 : Nat, mR S8 1 x2 = some b9 ∧ (b9 ∈ mL S8 ∧ mK S8 b9 = 0) ∧ ∀ S12 : mmS, S12 = sI S8 5 b9 ((mI S8 5 b9) + (mI S8 12 x1)) → Q S12) X
def bk_X4_rate_60 (z : Nat × Nat) (Q : mmS → Prop) (X : String → mmS → Prop) (S : mmS) (x1 : Nat) (x2 : Nat) (x3 : Nat) (t0 : Int32) : Prop := bk_X4_rate_80 z Q X S x1 x2 x3 t0
def wp_X4_rate (z : Nat × Nat) (S : mmS) (p0 : Nat) (p1 : Nat) (Q : mmS → Prop) (X : String → mmS → Prop) : Prop := (p1 ∈ mL S ∧ mK S p1 = 1) ∧ ∃ b2 : Nat, mR S 0 p1 = some b2 ∧ (b2 ∈ mL S ∧ mK S b2 = 2) ∧ ∃ b5 : Nat, mR S 2 b2 = some b5 ∧ (b5 ∈ mL S ∧ mK S b5 = 3) ∧ wp_X3_billedFor z S b5 (mI S 9 p1) (fun r9 S7 => (p1 ∈ mL S7 ∧ mK S7 p1 = 1) ∧ ∀ S11 : mmS, S11 = sI S7 10 p1 r9 → (¬ (mI S11 8 p1) = 0 → wp_X4_rateDayFee z S11 p1 (fun S12 => (b5 ∈ mL S12 ∧ mK S12 b5 = 3) ∧ ∃ b14 : Nat, mR S12 6 b5 = some b14 ∧ (p1 ∈ mL S12 ∧ mK S12 p1 = 1) ∧ (b14 ∈ mL S12 ∧ mK S12 b14 = 7) ∧ vp_in (mI S12 8 p1) (mN S12 b14) ∧ ∀ v19 : Int32, v19 = (mA S12 b14 (mI S12 8 p1).toNatClampNeg) → bk_X4_rate_80 z Q X S12 p1 b2 b5 v19) X) ∧ ((mI S11 8 p1) = 0 → (b2 ∈ mL S11 ∧ mK S11 b2 = 2) ∧ ∃ b21 : Nat, mR S11 1 b2 = some b21 ∧ (b21 ∈ mL S11 ∧ mK S11 b21 = 0) ∧ wp_X0_takeFromBundle z S11 b21 p1 (fun r25 S23 => (p1 ∈ mL S23 ∧ mK S23 p1 = 1) ∧ ∀ S27 : mmS, S27 = sI S23 11 p1 r25 → (p0 ∈ mL S27 ∧ mK S27 p0 = 4) ∧ wp_X4_beginsInPeak z S27 p0 p1 (fun r30 S28 => (r30 = 0 → (b5 ∈ mL S28 ∧ mK S28 b5 = 3) ∧ bk_X4_rate_60 z Q X S28 p1 b2 b5 (mI S28 18 b5)) ∧ (¬ r30 = 0 → (b5 ∈ mL S28 ∧ mK S28 b5 = 3) ∧ bk_X4_rate_60 z Q X S28 p1 b2 b5 (mI S28 17 b5))) X) X)) X
set_option maxHeartbeats 4000000 in
set_option maxRecDepth 100000 in
theorem bw_X4_rate_80 {p : Program} {l : Launch} {e : Env} {s : State} {m : MethodId} {args : Array Value} {below : List Frame} {meth : Method} {c : Code} {g : mG} {Q : mmS → Prop} {X : String → mmS → Prop} (hl0 : l.stackTraces = false) (hC : CallFix p m c cX4_rate 5 s args (wA_ yX4_rate cX4_rate 5 none) RX4) (hrt : meth.sig.returnType = none) (hlk : meth.locks = false) (hmn : meth.name = yX4_rate.name) (hnx : ∀ x ∈ c.exceptionTable.toList, False) (hs : mX g s) (hX0 : ∀ (E : String) (S : mmS), ¬ X E S) : ∀ (S : mmS) (x1 : Nat) (x2 : Nat) (x3 : Nat) (x4 : Int32), bk_X4_rate_80 g.2.2.2.2.2 Q X S x1 x2 x3 x4 → ∀ (H : Heap) (locs : List Loc), mH g S s H locs → ∀ ls : Array Slot, lv_has ls 5 [(1, .ref x1), (2, .ref x2), (3, .ref x3), (4, .int x4)] → W p l e rm_X4_rate s m args below meth c H locs 0 0 (vx_MQ below (va_Qv Q (wO g) (mB g)) (vx_X (fun _ : mmS => True) (fun E S1 t => X E S1 ∧ wO g S1 t) (mB g)) args s rm_X4_rate.cells rm_X4_rate.slots (mB g)) (F0 m 80 ls []) := by
  intro S x1 x2 x3 x4 hw H locs hH ls hl
  unfold bk_X4_rate_80 at hw
  refine lv_aload_n hC.1 hC.2.1 dX4_rate_80 rfl (lv_at hl 0 rfl) ?_
  refine lv_aload_n hC.1 hC.2.1 dX4_rate_81 rfl (lv_at hl 0 rfl) ?_
  obtain ⟨k1, hw⟩ := hw
  refine m_getI hC hs hH cs1 fs1_8 (fun _ h => List.mem_cons_of_mem _ (inlX1 _ h)) (List.mem_cons_of_mem _ q_212) (fun _ h => h) k1 dX4_rate_82 ?_
  refine lv_aload_n hC.1 hC.2.1 dX4_rate_85 rfl (lv_at hl 2 rfl) ?_
  refine lv_aload_n hC.1 hC.2.1 dX4_rate_86 rfl (lv_at hl 0 rfl) ?_
  refine m_getI hC hs hH cs1 fs1_5 (fun _ h => List.mem_cons_of_mem _ (inlX1 _ h)) (List.mem_cons_of_mem _ q_206) (fun _ h => h) k1 dX4_rate_87 ?_
  refine lv_aload_n hC.1 hC.2.1 dX4_rate_90 rfl (lv_at hl 0 rfl) ?_
  refine m_getI hC hs hH cs1 fs1_6 (fun _ h => List.mem_cons_of_mem _ (inlX1 _ h)) (List.mem_cons_of_mem _ q_209) (fun _ h => h) k1 dX4_rate_91 ?_
  refine lv_isub hC.1 hC.2.1 dX4_rate_94 ?_
  refine lv_iload hC.1 hC.2.1 dX4_rate_95 (lv_at hl 3 rfl) ?_
  obtain ⟨k3, hw⟩ := hw
  refine m_callVi (y := yX3_chargeFor) (rest := [.int _, .ref _]) hC hs hH hl.1 (cwV 2 hC.2.2.2.2 (gA_V q_250 q_251 q_252 q_61 q_253) rfl rfl rfl (by decide +kernel) ⟨Nat.le_of_ble_eq_true rfl, Nat.le_of_ble_eq_true rfl⟩) cs3 k3 (met_X3_chargeFor l hl0 g _ _ _ _ _ _ hX0 hw) rfl rfl (Nat.le_of_ble_eq_true rfl) dX4_rate_97 ⟨Nat.le_of_ble_eq_true rfl, Nat.le_of_ble_eq_true rfl⟩ (fun E S1 _ _ _ _ hx => (hX0 E S1 hx).elim) (fun r4 S1 H locs hw hH => ?_)
  refine W.widen (k := 0) (n := 0) (Nat.le_of_ble_eq_true rfl) (Nat.le_of_ble_eq_true rfl) ?_
  refine lv_iadd hC.1 hC.2.1 dX4_rate_100 ?_
  obtain ⟨k5, hw⟩ := hw
  have hw := hw _ rfl
  refine m_putI hC hs hH cs1 fs1_7 (fun _ h => List.mem_cons_of_mem _ (inlX1 _ h)) (List.mem_cons_of_mem _ q_213) (fun _ h => h) (Or.inl rfl) rfl k5 dX4_rate_101 (fun H locs hH => ?_)
  refine lv_aload_n hC.1 hC.2.1 dX4_rate_104 rfl (lv_at hl 1 rfl) ?_
  refine lv_dup hC.1 hC.2.1 dX4_rate_105 rfl ?_
  obtain ⟨k7, hw⟩ := hw
  refine m_getI hC hs hH cs2 fs2_2 (fun _ h => List.mem_cons_of_mem _ (inlX2 _ h)) (List.mem_cons_of_mem _ q_214) (fun _ h => h) k7 dX4_rate_106 ?_
  refine lv_aload_n hC.1 hC.2.1 dX4_rate_109 rfl (lv_at hl 0 rfl) ?_
  refine m_getI hC hs hH cs1 fs1_7 (fun _ h => List.mem_cons_of_mem _ (inlX1 _ h)) (List.mem_cons_of_mem _ q_213) (fun _ h => h) k5 dX4_rate_110 ?_
  refine lv_iadd hC.1 hC.2.1 dX4_rate_113 ?_
  have hw := hw _ rfl
  refine m_putI hC hs hH cs2 fs2_2 (fun _ h => List.mem_cons_of_mem _ (inlX2 _ h)) (List.mem_cons_of_mem _ q_214) (fun _ h => h) (Or.inl rfl) rfl k7 dX4_rate_114 (fun H locs hH => ?_)
  refine lv_aload_n hC.1 hC.2.1 dX4_rate_117 rfl (lv_at hl 1 rfl) ?_
  obtain ⟨b9, r10, hw⟩ := hw
  refine m_getR hC hs hH cs2 fs2_0 (fun _ h => List.mem_cons_of_mem _ (inlX2 _ h)) (List.mem_cons_of_mem _ q_208) (fun _ h => h) k7 r10 dX4_rate_118 ?_
  refine lv_dup hC.1 hC.2.1 dX4_rate_121 rfl ?_
  obtain ⟨k11, hw⟩ := hw
  refine m_getI hC hs hH cs0 fs0_5 (fun _ h => List.mem_cons_of_mem _ (inlX0 _ h)) (List.mem_cons_of_mem _ q_215) (fun _ h => h) k11 dX4_rate_122 ?_
  refine lv_aload_n hC.1 hC.2.1 dX4_rate_125 rfl (lv_at hl 0 rfl) ?_
  refine m_getI hC hs hH cs1 fs1_7 (fun _ h => List.mem_cons_of_mem _ (inlX1 _ h)) (List.mem_cons_of_mem _ q_213) (fun _ h => h) k5 dX4_rate_126 ?_
  refine lv_iadd hC.1 hC.2.1 dX4_rate_129 ?_
  have hw := hw _ rfl
  refine m_putI hC hs hH cs0 fs0_5 (fun _ h => List.mem_cons_of_mem _ (inlX0 _ h)) (List.mem_cons_of_mem _ q_215) (fun _ h => h) (Or.inl rfl) rfl k11 dX4_rate_130 (fun H locs hH => ?_)
  exact m_retv hC hH hrt hlk (Nat.le_of_ble_eq_true rfl) (Nat.le_of_ble_eq_true rfl) dX4_rate_133 hw
set_option maxHeartbeats 4000000 in
set_option maxRecDepth 100000 in
theorem bw_X4_rate_60 {p : Program} {l : Launch} {e : Env} {s : State} {m : MethodId} {args : Array Value} {below : List Frame} {meth : Method} {c : Code} {g : mG} {Q : mmS → Prop} {X : String → mmS → Prop} (hl0 : l.stackTraces = false) (hC : CallFix p m c cX4_rate 5 s args (wA_ yX4_rate cX4_rate 5 none) RX4) (hrt : meth.sig.returnType = none) (hlk : meth.locks = false) (hmn : meth.name = yX4_rate.name) (hnx : ∀ x ∈ c.exceptionTable.toList, False) (hs : mX g s) (hX0 : ∀ (E : String) (S : mmS), ¬ X E S) : ∀ (S : mmS) (x1 : Nat) (x2 : Nat) (x3 : Nat) (t0 : Int32), bk_X4_rate_60 g.2.2.2.2.2 Q X S x1 x2 x3 t0 → ∀ (H : Heap) (locs : List Loc), mH g S s H locs → ∀ ls : Array Slot, lv_has ls 5 [(1, .ref x1), (2, .ref x2), (3, .ref x3)] → W p l e rm_X4_rate s m args below meth c H locs 0 0 (vx_MQ below (va_Qv Q (wO g) (mB g)) (vx_X (fun _ : mmS => True) (fun E S1 t => X E S1 ∧ wO g S1 t) (mB g)) args s rm_X4_rate.cells rm_X4_rate.slots (mB g)) (F0 m 60 ls [.int t0]) := by
  intro S x1 x2 x3 t0 hw H locs hH ls hl
  unfold bk_X4_rate_60 at hw
  refine lv_istore (lv' := [(4, .int _), (1, .ref _), (2, .ref _), (3, .ref _)]) hC.1 hC.2.1 dX4_rate_60 hl (by decide) rfl (fun ls hl => ?_)
  refine lv_goto (tgt := 80) hC.1 hC.2.1 dX4_rate_62 (by decide) ?_
  exact bw_X4_rate_80 hl0 hC hrt hlk hmn hnx hs hX0 _ _ _ _ _ hw _ _ hH _ (lv_sub hl [1, 2, 3, 0] rfl)
set_option maxHeartbeats 4000000 in
set_option maxRecDepth 100000 in
theorem met_X4_rate (l : Launch) (hl0 : l.stackTraces = false) (g : mG) (S : mmS) (p0 : Nat) (p1 : Nat) (Q : mmS → Prop) (X : String → mmS → Prop) (hX0 : ∀ (E : String) (S : mmS), ¬ X E S) (hw : wp_X4_rate g.2.2.2.2.2 S p0 p1 Q X) : mMv l g yX4_rate (wA_ yX4_rate cX4_rate 5 none) rm_X4_rate [.ref p0, .ref p1] S Q X := by
  refine m_of (y := yX4_rate) (cc := cX4_rate) (maxL := 5) (ret := none) (by decide) rfl (Nat.le_of_ble_eq_true rfl) ?_
  intro p e s m args below meth c ls hC hrt hlk hmn hnx hs hH hl
  have hC : CallFix p m c cX4_rate 5 s args (wA_ yX4_rate cX4_rate 5 none) RX4 := hC
  have hl : lv_has ls 5 [(0, .ref p0), (1, .ref p1)] := hl
  unfold wp_X4_rate at hw
  refine lv_aload_n hC.1 hC.2.1 dX4_rate_0 rfl (lv_at hl 1 rfl) ?_
  obtain ⟨k1, hw⟩ := hw
  obtain ⟨b2, r3, hw⟩ := hw
  refine m_getR hC hs hH cs1 fs1_1 (fun _ h => List.mem_cons_of_mem _ (inlX1 _ h)) (List.mem_cons_of_mem _ q_204) (fun _ h => h) k1 r3 dX4_rate_1 ?_
  refine lv_astore_n (lv' := [(2, .ref _), (0, .ref _), (1, .ref _)]) hC.1 hC.2.1 dX4_rate_4 rfl hl (by decide) rfl (fun ls hl => ?_)
  refine lv_aload_n hC.1 hC.2.1 dX4_rate_5 rfl (lv_at hl 0 rfl) ?_
  obtain ⟨k4, hw⟩ := hw
  obtain ⟨b5, r6, hw⟩ := hw
  refine m_getR hC hs hH cs2 fs2_1 (fun _ h => List.mem_cons_of_mem _ (inlX2 _ h)) (List.mem_cons_of_mem _ q_205) (fun _ h => h) k4 r6 dX4_rate_6 ?_
  refine lv_astore_n (lv' := [(3, .ref _), (2, .ref _), (0, .ref _), (1, .ref _)]) hC.1 hC.2.1 dX4_rate_9 rfl hl (by decide) rfl (fun ls hl => ?_)
  refine lv_aload_n hC.1 hC.2.1 dX4_rate_10 rfl (lv_at hl 3 rfl) ?_
  refine lv_aload_n hC.1 hC.2.1 dX4_rate_11 rfl (lv_at hl 0 rfl) ?_
  refine lv_aload_n hC.1 hC.2.1 dX4_rate_12 rfl (lv_at hl 3 rfl) ?_
  refine m_getI hC hs hH cs1 fs1_4 (fun _ h => List.mem_cons_of_mem _ (inlX1 _ h)) (List.mem_cons_of_mem _ q_173) (fun _ h => h) k1 dX4_rate_13 ?_
  obtain ⟨k8, hw⟩ := hw
  refine m_callVi (y := yX3_billedFor) (rest := [.ref _]) hC hs hH hl.1 (cwV 1 hC.2.2.2.2 (gA_V q_216 q_217 q_218 q_61 q_219) rfl rfl rfl (by decide +kernel) ⟨Nat.le_of_ble_eq_true rfl, Nat.le_of_ble_eq_true rfl⟩) cs3 k8 (met_X3_billedFor l hl0 g _ _ _ _ _ hX0 hw) rfl rfl (Nat.le_of_ble_eq_true rfl) dX4_rate_16 ⟨Nat.le_of_ble_eq_true rfl, Nat.le_of_ble_eq_true rfl⟩ (fun E S1 _ _ _ _ hx => (hX0 E S1 hx).elim) (fun r9 S1 H locs hw hH => ?_)
  refine W.widen (k := 0) (n := 0) (Nat.le_of_ble_eq_true rfl) (Nat.le_of_ble_eq_true rfl) ?_
  obtain ⟨k10, hw⟩ := hw
  have hw := hw _ rfl
  refine m_putI hC hs hH cs1 fs1_5 (fun _ h => List.mem_cons_of_mem _ (inlX1 _ h)) (List.mem_cons_of_mem _ q_206) (fun _ h => h) (Or.inl rfl) rfl k10 dX4_rate_19 (fun H locs hH => ?_)
  refine lv_aload_n hC.1 hC.2.1 dX4_rate_22 rfl (lv_at hl 3 rfl) ?_
  refine m_getI hC hs hH cs1 fs1_3 (fun _ h => List.mem_cons_of_mem _ (inlX1 _ h)) (List.mem_cons_of_mem _ q_207) (fun _ h => h) k10 dX4_rate_23 ?_
  refine lv_if_ne (tgt := 65) hC.1 hC.2.1 dX4_rate_26 (by decide) (fun hc => ?_) (fun hc => ?_)
  · have hw := hw.1 hc
    refine lv_aload_n hC.1 hC.2.1 dX4_rate_65 rfl (lv_at hl 3 rfl) ?_
    refine m_callSv (y := yX4_rateDayFee) (rest := []) hC hs hH hl.1 (va_cwS 1 hC.2.2.2.2 (gA_S q_237 q_238 q_2 q_239) rfl rfl rfl (by decide +kernel) ⟨Nat.le_of_ble_eq_true rfl, Nat.le_of_ble_eq_true rfl⟩) (met_X4_rateDayFee l hl0 g _ _ _ _ hX0 hw) rfl rfl (Nat.le_of_ble_eq_true rfl) dX4_rate_66 ⟨Nat.le_of_ble_eq_true rfl, Nat.le_of_ble_eq_true rfl⟩ (fun E S1 _ _ _ _ hx => (hX0 E S1 hx).elim) (fun S1 H locs hw hH => ?_)
    refine W.widen (k := 0) (n := 0) (Nat.le_of_ble_eq_true rfl) (Nat.le_of_ble_eq_true rfl) ?_
    refine lv_aload_n hC.1 hC.2.1 dX4_rate_69 rfl (lv_at hl 0 rfl) ?_
    obtain ⟨k13, hw⟩ := hw
    obtain ⟨b14, r15, hw⟩ := hw
    refine m_getR hC hs hH cs3 fs3_6 (fun _ h => List.mem_cons_of_mem _ (inlX3 _ h)) (List.mem_cons_of_mem _ q_138) (fun _ h => h) k13 r15 dX4_rate_70 ?_
    refine lv_aload_n hC.1 hC.2.1 dX4_rate_73 rfl (lv_at hl 3 rfl) ?_
    obtain ⟨k16, hw⟩ := hw
    refine m_getI hC hs hH cs1 fs1_3 (fun _ h => List.mem_cons_of_mem _ (inlX1 _ h)) (List.mem_cons_of_mem _ q_207) (fun _ h => h) k16 dX4_rate_74 ?_
    obtain ⟨k17, hw⟩ := hw
    obtain ⟨i18, hw⟩ := hw
    refine m_iald hC hs hH k17 i18 dX4_rate_77 ?_
    have hw := hw _ rfl
    refine lv_istore (lv' := [(4, .int _), (3, .ref _), (2, .ref _), (0, .ref _), (1, .ref _)]) hC.1 hC.2.1 dX4_rate_78 hl (by decide) rfl (fun ls hl => ?_)
    exact bw_X4_rate_80 hl0 hC hrt hlk hmn hnx hs hX0 _ _ _ _ _ hw _ _ hH _ (lv_sub hl [4, 2, 1, 0] rfl)
  · have hw := hw.2 hc
    refine lv_aload_n hC.1 hC.2.1 dX4_rate_29 rfl (lv_at hl 3 rfl) ?_
    refine lv_aload_n hC.1 hC.2.1 dX4_rate_30 rfl (lv_at hl 1 rfl) ?_
    obtain ⟨k20, hw⟩ := hw
    obtain ⟨b21, r22, hw⟩ := hw
    refine m_getR hC hs hH cs2 fs2_0 (fun _ h => List.mem_cons_of_mem _ (inlX2 _ h)) (List.mem_cons_of_mem _ q_208) (fun _ h => h) k20 r22 dX4_rate_31 ?_
    refine lv_aload_n hC.1 hC.2.1 dX4_rate_34 rfl (lv_at hl 3 rfl) ?_
    obtain ⟨k24, hw⟩ := hw
    refine m_callVi (y := yX0_takeFromBundle) (rest := [.ref _]) hC hs hH hl.1 (cwV 1 hC.2.2.2.2 (gA_V q_220 q_221 q_222 q_177 q_223) rfl rfl rfl (by decide +kernel) ⟨Nat.le_of_ble_eq_true rfl, Nat.le_of_ble_eq_true rfl⟩) cs0 k24 (met_X0_takeFromBundle l hl0 g _ _ _ _ _ hX0 hw) rfl rfl (Nat.le_of_ble_eq_true rfl) dX4_rate_35 ⟨Nat.le_of_ble_eq_true rfl, Nat.le_of_ble_eq_true rfl⟩ (fun E S1 _ _ _ _ hx => (hX0 E S1 hx).elim) (fun r25 S1 H locs hw hH => ?_)
    refine W.widen (k := 0) (n := 0) (Nat.le_of_ble_eq_true rfl) (Nat.le_of_ble_eq_true rfl) ?_
    obtain ⟨k26, hw⟩ := hw
    have hw := hw _ rfl
    refine m_putI hC hs hH cs1 fs1_6 (fun _ h => List.mem_cons_of_mem _ (inlX1 _ h)) (List.mem_cons_of_mem _ q_209) (fun _ h => h) (Or.inl rfl) rfl k26 dX4_rate_38 (fun H locs hH => ?_)
    refine lv_aload_n hC.1 hC.2.1 dX4_rate_41 rfl (lv_at hl 2 rfl) ?_
    refine lv_aload_n hC.1 hC.2.1 dX4_rate_42 rfl (lv_at hl 3 rfl) ?_
    obtain ⟨k29, hw⟩ := hw
    refine m_callVi (y := yX4_beginsInPeak) (rest := []) hC hs hH hl.1 (cwV 1 hC.2.2.2.2 (gA_V q_227 q_228 q_229 q_2 q_230) rfl rfl rfl (by decide +kernel) ⟨Nat.le_of_ble_eq_true rfl, Nat.le_of_ble_eq_true rfl⟩) cs4 k29 (met_X4_beginsInPeak l hl0 g _ _ _ _ _ hX0 hw) rfl rfl (Nat.le_of_ble_eq_true rfl) dX4_rate_43 ⟨Nat.le_of_ble_eq_true rfl, Nat.le_of_ble_eq_true rfl⟩ (fun E S1 _ _ _ _ hx => (hX0 E S1 hx).elim) (fun r30 S1 H locs hw hH => ?_)
    refine W.widen (k := 0) (n := 0) (Nat.le_of_ble_eq_true rfl) (Nat.le_of_ble_eq_true rfl) ?_
    refine lv_if_eq (tgt := 56) hC.1 hC.2.1 dX4_rate_46 (by decide) (fun hc => ?_) (fun hc => ?_)
    · have hw := hw.1 hc
      refine lv_aload_n hC.1 hC.2.1 dX4_rate_56 rfl (lv_at hl 0 rfl) ?_
      obtain ⟨k31, hw⟩ := hw
      refine m_getI hC hs hH cs3 fs3_3 (fun _ h => List.mem_cons_of_mem _ (inlX3 _ h)) (List.mem_cons_of_mem _ q_211) (fun _ h => h) k31 dX4_rate_57 ?_
      exact bw_X4_rate_60 hl0 hC hrt hlk hmn hnx hs hX0 _ _ _ _ _ hw _ _ hH _ (lv_sub hl [3, 1, 0] rfl)
    · have hw := hw.2 hc
      refine lv_aload_n hC.1 hC.2.1 dX4_rate_49 rfl (lv_at hl 0 rfl) ?_
      obtain ⟨k32, hw⟩ := hw
      refine m_getI hC hs hH cs3 fs3_2 (fun _ h => List.mem_cons_of_mem _ (inlX3 _ h)) (List.mem_cons_of_mem _ q_210) (fun _ h => h) k32 dX4_rate_50 ?_
      refine lv_goto (tgt := 60) hC.1 hC.2.1 dX4_rate_53 (by decide) ?_
      exact bw_X4_rate_60 hl0 hC hrt hlk hmn hnx hs hX0 _ _ _ _ _ hw _ _ hH _ (lv_sub hl [3, 1, 0] rfl)
abbrev rm_X4_rateAll : Room := { frames := 4, cells := 0, slots := 0, locals := 94 }
def bk_X4_rateAll_107 (z : Nat × Nat) (Q : mmS → Prop) (X : String → mmS → Prop) (K68 : mmS → Nat → Int32 → Prop) (S : mmS) (x0 : Nat) (x1 : Int32) : Prop := ∀ v1 : Int32, v1 = x1 + 1 → K68 S x0 v1
def bk_X4_rateAll_68 (z : Nat × Nat) (Q : mmS → Prop) (X : String → mmS → Prop) (K68 : mmS → Nat → Int32 → Prop) (S : mmS) (x0 : Nat) (x1 : Int32) : Prop := (x0 ∈ mL S ∧ mK S x0 = 4) ∧ ∃ b2 : Nat, mR S 12 x0 = some b2 ∧ (b2 ∈ mL S ∧ mK S b2 = 6) ∧ wp_Jx4a65c_size_8abf5 z S b2 (fun r6 S4 => (r6 ≤ x1 → Q S4) ∧ (¬ r6 ≤ x1 → (x0 ∈ mL S4 ∧ mK S4 x0 = 4) ∧ ∃ b8 : Nat, mR S4 12 x0 = some b8 ∧ (b8 ∈ mL S4 ∧ mK S4 b8 = 6) ∧ wp_Jx4a65c_get_915e3 z S4 b8 x1 (fun r12 S10 => (r12 ∈ mL S10 ∧ mK S10 r12 = 1) ∧ wp_X1_forgetRating z S10 r12 (fun S14 => (r12 ∈ mL S14 ∧ mK S14 r12 = 1) ∧ ((mI S14 9 r12) ≤ 0 → bk_X4_rateAll_107 z Q X K68 S14 x0 x1) ∧ (¬ (mI S14 9 r12) ≤ 0 → (x0 ∈ mL S14 ∧ mK S14 x0 = 4) ∧ wp_X4_rate z S14 x0 r12 (fun S16 => bk_X4_rateAll_107 z Q X K68 S16 x0 x1) X)) X) X)) X
def lp_X4_rateAll_68 (z : Nat × Nat) (Q : mmS → Prop) (X : String → mmS → Prop) : Nat → mmS → Nat → Int32 → Prop
  | 0 => fun _ _ _ => False
  | n + 1 => bk_X4_rateAll_68 z Q X (lp_X4_rateAll_68 z Q X n)
def bk_X4_rateAll_35 (z : Nat × Nat) (Q : mmS → Prop) (X : String → mmS → Prop) (K35 : mmS → Nat → Int32 → Prop) (S : mmS) (x0 : Nat) (x1 : Int32) : Prop := (x0 ∈ mL S ∧ mK S x0 = 4) ∧ ∃ b2 : Nat, mR S 10 x0 = some b2 ∧ (b2 ∈ mL S ∧ mK S b2 = 6) ∧ wp_Jx4a65c_size_8abf5 z S b2 (fun r6 S4 => (r6 ≤ x1 → ∀ v7 : Int32, v7 = (0 : Int32) → ∃ n : Nat, lp_X4_rateAll_68 z Q X n S4 x0 v7) ∧ (¬ r6 ≤ x1 → (x0 ∈ mL S4 ∧ mK S4 x0 = 4) ∧ ∃ b9 : Nat, mR S4 10 x0 = some b9 ∧ (b9 ∈ mL S4 ∧ mK S4 b9 = 6) ∧ wp_Jx4a65c_get_915e3 z S4 b9 x1 (fun r13 S11 => (r13 ∈ mL S11 ∧ mK S11 r13 = 2) ∧ wp_X2_forgetRating z S11 r13 (fun S15 => ∀ v16 : Int32, v16 = x1 + 1 → K35 S15 x0 v16) X) X)) X
def lp_X4_rateAll_35 (z : Nat × Nat) (Q : mmS → Prop) (X : String → mmS → Prop) : Nat → mmS → Nat → Int32 → Prop
  | 0 => fun _ _ _ => False
  | n + 1 => bk_X4_rateAll_35 z Q X (lp_X4_rateAll_35 z Q X n)
def bk_X4_rateAll_2 (z : Nat × Nat) (Q : mmS → Prop) (X : String → mmS → Prop) (K2 : mmS → Nat → Int32 → Prop) (S : mmS) (x0 : Nat) (x1 : Int32) : Prop := (x0 ∈ mL S ∧ mK S x0 = 4) ∧ ∃ b2 : Nat, mR S 9 x0 = some b2 ∧ (b2 ∈ mL S ∧ mK S b2 = 6) ∧ wp_Jx4a65c_size_8abf5 z S b2 (fun r6 S4 => (r6 ≤ x1 → ∀ v7 : Int32, v7 = (0 : Int32) → ∃ n : Nat, lp_X4_rateAll_35 z Q X n S4 x0 v7) ∧ (¬ r6 ≤ x1 → (x0 ∈ mL S4 ∧ mK S4 x0 = 4) ∧ ∃ b9 : Nat, mR S4 9 x0 = some b9 ∧ (b9 ∈ mL S4 ∧ mK S4 b9 = 6) ∧ wp_Jx4a65c_get_915e3 z S4 b9 x1 (fun r13 S11 => (r13 ∈ mL S11 ∧ mK S11 r13 = 0) ∧ wp_X0_forgetRating z S11 r13 (fun S15 => ∀ v16 : Int32, v16 = x1 + 1 → K2 S15 x0 v16) X) X)) X
def lp_X4_rateAll_2 (z : Nat × Nat) (Q : mmS → Prop) (X : String → mmS → Prop) : Nat → mmS → Nat → Int32 → Prop
  | 0 => fun _ _ _ => False
  | n + 1 => bk_X4_rateAll_2 z Q X (lp_X4_rateAll_2 z Q X n)
def wp_X4_rateAll (z : Nat × Nat) (S : mmS) (p0 : Nat) (Q : mmS → Prop) (X : String → mmS → Prop) : Prop := ∀ v1 : Int32, v1 = (0 : Int32) → ∃ n : Nat, lp_X4_rateAll_2 z Q X n S p0 v1
set_option maxHeartbeats 4000000 in
set_option maxRecDepth 100000 in
theorem bw_X4_rateAll_107 {p : Program} {l : Launch} {e : Env} {s : State} {m : MethodId} {args : Array Value} {below : List Frame} {meth : Method} {c : Code} {g : mG} {Q : mmS → Prop} {X : String → mmS → Prop} (hl0 : l.stackTraces = false) (hC : CallFix p m c cX4_rateAll 3 s args (wA_ yX4_rateAll cX4_rateAll 3 none) RX4) (hrt : meth.sig.returnType = none) (hlk : meth.locks = false) (hmn : meth.name = yX4_rateAll.name) (hnx : ∀ x ∈ c.exceptionTable.toList, False) (hs : mX g s) (hX0 : ∀ (E : String) (S : mmS), ¬ X E S) {K68 : mmS → Nat → Int32 → Prop} (hk68 : ∀ (S : mmS) (x0 : Nat) (x1 : Int32), K68 S x0 x1 → ∀ (H : Heap) (locs : List Loc), mH g S s H locs → ∀ ls : Array Slot, lv_has ls 3 [(0, .ref x0), (1, .int x1)] → W p l e rm_X4_rateAll s m args below meth c H locs 0 0 (vx_MQ below (va_Qv Q (wO g) (mB g)) (vx_X (fun _ : mmS => True) (fun E S1 t => X E S1 ∧ wO g S1 t) (mB g)) args s rm_X4_rateAll.cells rm_X4_rateAll.slots (mB g)) (F0 m 68 ls [])) : ∀ (S : mmS) (x0 : Nat) (x1 : Int32), bk_X4_rateAll_107 g.2.2.2.2.2 Q X K68 S x0 x1 → ∀ (H : Heap) (locs : List Loc), mH g S s H locs → ∀ ls : Array Slot, lv_has ls 3 [(0, .ref x0), (1, .int x1)] → W p l e rm_X4_rateAll s m args below meth c H locs 0 0 (vx_MQ below (va_Qv Q (wO g) (mB g)) (vx_X (fun _ : mmS => True) (fun E S1 t => X E S1 ∧ wO g S1 t) (mB g)) args s rm_X4_rateAll.cells rm_X4_rateAll.slots (mB g)) (F0 m 107 ls []) := by
  intro S x0 x1 hw H locs hH ls hl
  unfold bk_X4_rateAll_107 at hw
  have hw := hw _ rfl
  refine lv_iinc (lv' := [(1, .int _), (0, .ref _)]) hC.1 hC.2.1 dX4_rateAll_107 hl (k := 1) rfl (rfl : (_ : Int32) + Int32.ofInt 1 = (_ : Int32) + 1) (by decide) rfl (fun ls hl => ?_)
  refine lv_goto (tgt := 68) hC.1 hC.2.1 dX4_rateAll_110 (by decide) ?_
  exact hk68 _ _ _ hw _ _ hH _ (lv_sub hl [1, 0] rfl)
set_option maxHeartbeats 4000000 in
set_option maxRecDepth 100000 in
theorem bw_X4_rateAll_68 {p : Program} {l : Launch} {e : Env} {s : State} {m : MethodId} {args : Array Value} {below : List Frame} {meth : Method} {c : Code} {g : mG} {Q : mmS → Prop} {X : String → mmS → Prop} (hl0 : l.stackTraces = false) (hC : CallFix p m c cX4_rateAll 3 s args (wA_ yX4_rateAll cX4_rateAll 3 none) RX4) (hrt : meth.sig.returnType = none) (hlk : meth.locks = false) (hmn : meth.name = yX4_rateAll.name) (hnx : ∀ x ∈ c.exceptionTable.toList, False) (hs : mX g s) (hX0 : ∀ (E : String) (S : mmS), ¬ X E S) {K68 : mmS → Nat → Int32 → Prop} (hk68 : ∀ (S : mmS) (x0 : Nat) (x1 : Int32), K68 S x0 x1 → ∀ (H : Heap) (locs : List Loc), mH g S s H locs → ∀ ls : Array Slot, lv_has ls 3 [(0, .ref x0), (1, .int x1)] → W p l e rm_X4_rateAll s m args below meth c H locs 0 0 (vx_MQ below (va_Qv Q (wO g) (mB g)) (vx_X (fun _ : mmS => True) (fun E S1 t => X E S1 ∧ wO g S1 t) (mB g)) args s rm_X4_rateAll.cells rm_X4_rateAll.slots (mB g)) (F0 m 68 ls [])) : ∀ (S : mmS) (x0 : Nat) (x1 : Int32), bk_X4_rateAll_68 g.2.2.2.2.2 Q X K68 S x0 x1 → ∀ (H : Heap) (locs : List Loc), mH g S s H locs → ∀ ls : Array Slot, lv_has ls 3 [(0, .ref x0), (1, .int x1)] → W p l e rm_X4_rateAll s m args below meth c H locs 0 0 (vx_MQ below (va_Qv Q (wO g) (mB g)) (vx_X (fun _ : mmS => True) (fun E S1 t => X E S1 ∧ wO g S1 t) (mB g)) args s rm_X4_rateAll.cells rm_X4_rateAll.slots (mB g)) (F0 m 68 ls []) := by
  intro S x0 x1 hw H locs hH ls hl
  unfold bk_X4_rateAll_68 at hw
  refine lv_iload_n hC.1 hC.2.1 dX4_rateAll_68 rfl (lv_at hl 1 rfl) ?_
  refine lv_aload_n hC.1 hC.2.1 dX4_rateAll_69 rfl (lv_at hl 0 rfl) ?_
  obtain ⟨k1, hw⟩ := hw
  obtain ⟨b2, r3, hw⟩ := hw
  refine m_getR hC hs hH cs4 fs4_4 (fun _ h => List.mem_cons_of_mem _ (inlX4 _ h)) (List.mem_cons_of_mem _ q_21) (fun _ h => h) k1 r3 dX4_rateAll_70 ?_
  obtain ⟨k5, hw⟩ := hw
  refine m_callVi (y := yJx4a65c_size_8abf5) (rest := [.int _]) hC hs hH hl.1 (cwV 0 hC.2.2.2.2 (gA_V q_68 q_69 q_70 q_16 q_71) rfl rfl rfl (by decide +kernel) ⟨Nat.le_of_ble_eq_true rfl, Nat.le_of_ble_eq_true rfl⟩) cs6 k5 (met_Jx4a65c_size_8abf5 l hl0 g _ _ _ _ hX0 hw) rfl rfl (Nat.le_of_ble_eq_true rfl) dX4_rateAll_73 ⟨Nat.le_of_ble_eq_true rfl, Nat.le_of_ble_eq_true rfl⟩ (fun E S1 _ _ _ _ hx => (hX0 E S1 hx).elim) (fun r6 S1 H locs hw hH => ?_)
  refine W.widen (k := 0) (n := 0) (Nat.le_of_ble_eq_true rfl) (Nat.le_of_ble_eq_true rfl) ?_
  refine lv_icmp_ge (tgt := 113) hC.1 hC.2.1 dX4_rateAll_76 (by decide) (fun hc => ?_) (fun hc => ?_)
  · have hw := hw.1 hc
    exact m_retv hC hH hrt hlk (Nat.le_of_ble_eq_true rfl) (Nat.le_of_ble_eq_true rfl) dX4_rateAll_113 hw
  · have hw := hw.2 hc
    refine lv_aload_n hC.1 hC.2.1 dX4_rateAll_79 rfl (lv_at hl 0 rfl) ?_
    obtain ⟨k7, hw⟩ := hw
    obtain ⟨b8, r9, hw⟩ := hw
    refine m_getR hC hs hH cs4 fs4_4 (fun _ h => List.mem_cons_of_mem _ (inlX4 _ h)) (List.mem_cons_of_mem _ q_21) (fun _ h => h) k7 r9 dX4_rateAll_80 ?_
    refine lv_iload_n hC.1 hC.2.1 dX4_rateAll_83 rfl (lv_at hl 1 rfl) ?_
    obtain ⟨k11, hw⟩ := hw
    refine m_callVq (y := yJx4a65c_get_915e3) (rest := []) hC hs hH hl.1 (cwV 1 hC.2.2.2.2 (gA_V q_147 q_148 q_149 q_16 q_150) rfl rfl rfl (by decide +kernel) ⟨Nat.le_of_ble_eq_true rfl, Nat.le_of_ble_eq_true rfl⟩) cs6 k11 (met_Jx4a65c_get_915e3 l hl0 g _ _ _ _ _ hX0 hw) rfl rfl (Nat.le_of_ble_eq_true rfl) dX4_rateAll_84 ⟨Nat.le_of_ble_eq_true rfl, Nat.le_of_ble_eq_true rfl⟩ (fun E S1 _ _ _ _ hx => (hX0 E S1 hx).elim) (fun r12 S1 H locs hw hH => ?_)
    refine W.widen (k := 0) (n := 0) (Nat.le_of_ble_eq_true rfl) (Nat.le_of_ble_eq_true rfl) ?_
    obtain ⟨k13, hw⟩ := hw
    refine m_cast hC hs hH cs1 (List.mem_cons_of_mem _ q_172) k13 dX4_rateAll_87 ?_
    refine lv_astore_n (lv' := [(2, .ref _), (0, .ref _), (1, .int _)]) hC.1 hC.2.1 dX4_rateAll_90 rfl hl (by decide) rfl (fun ls hl => ?_)
    refine lv_aload_n hC.1 hC.2.1 dX4_rateAll_91 rfl (lv_at hl 0 rfl) ?_
    refine m_callVv (y := yX1_forgetRating) (rest := []) hC hs hH hl.1 (cwV 0 hC.2.2.2.2 (gA_V q_191 q_192 q_193 q_194 q_195) rfl rfl rfl (by decide +kernel) ⟨Nat.le_of_ble_eq_true rfl, Nat.le_of_ble_eq_true rfl⟩) cs1 k13 (met_X1_forgetRating l hl0 g _ _ _ _ hX0 hw) rfl rfl (Nat.le_of_ble_eq_true rfl) dX4_rateAll_92 ⟨Nat.le_of_ble_eq_true rfl, Nat.le_of_ble_eq_true rfl⟩ (fun E S1 _ _ _ _ hx => (hX0 E S1 hx).elim) (fun S1 H locs hw hH => ?_)
    refine W.widen (k := 0) (n := 0) (Nat.le_of_ble_eq_true rfl) (Nat.le_of_ble_eq_true rfl) ?_
    refine lv_aload_n hC.1 hC.2.1 dX4_rateAll_95 rfl (lv_at hl 0 rfl) ?_
    obtain ⟨k15, hw⟩ := hw
    refine m_getI hC hs hH cs1 fs1_4 (fun _ h => List.mem_cons_of_mem _ (inlX1 _ h)) (List.mem_cons_of_mem _ q_173) (fun _ h => h) k15 dX4_rateAll_96 ?_
    refine lv_if_le (tgt := 107) hC.1 hC.2.1 dX4_rateAll_99 (by decide) (fun hc => ?_) (fun hc => ?_)
    · have hw := hw.1 hc
      exact bw_X4_rateAll_107 hl0 hC hrt hlk hmn hnx hs hX0 hk68 _ _ _ hw _ _ hH _ (lv_sub hl [1, 2] rfl)
    · have hw := hw.2 hc
      refine lv_aload_n hC.1 hC.2.1 dX4_rateAll_102 rfl (lv_at hl 1 rfl) ?_
      refine lv_aload_n hC.1 hC.2.1 dX4_rateAll_103 rfl (lv_at hl 0 rfl) ?_
      obtain ⟨k17, hw⟩ := hw
      refine m_callVv (y := yX4_rate) (rest := []) hC hs hH hl.1 (cwV 1 hC.2.2.2.2 (gA_V q_200 q_201 q_202 q_2 q_203) rfl rfl rfl (by decide +kernel) ⟨Nat.le_of_ble_eq_true rfl, Nat.le_of_ble_eq_true rfl⟩) cs4 k17 (met_X4_rate l hl0 g _ _ _ _ _ hX0 hw) rfl rfl (Nat.le_of_ble_eq_true rfl) dX4_rateAll_104 ⟨Nat.le_of_ble_eq_true rfl, Nat.le_of_ble_eq_true rfl⟩ (fun E S1 _ _ _ _ hx => (hX0 E S1 hx).elim) (fun S1 H locs hw hH => ?_)
      refine W.widen (k := 0) (n := 0) (Nat.le_of_ble_eq_true rfl) (Nat.le_of_ble_eq_true rfl) ?_
      exact bw_X4_rateAll_107 hl0 hC hrt hlk hmn hnx hs hX0 hk68 _ _ _ hw _ _ hH _ (lv_sub hl [1, 2] rfl)
theorem lw_X4_rateAll_68 {p : Program} {l : Launch} {e : Env} {s : State} {m : MethodId} {args : Array Value} {below : List Frame} {meth : Method} {c : Code} {g : mG} {Q : mmS → Prop} {X : String → mmS → Prop} (hl0 : l.stackTraces = false) (hC : CallFix p m c cX4_rateAll 3 s args (wA_ yX4_rateAll cX4_rateAll 3 none) RX4) (hrt : meth.sig.returnType = none) (hlk : meth.locks = false) (hmn : meth.name = yX4_rateAll.name) (hnx : ∀ x ∈ c.exceptionTable.toList, False) (hs : mX g s) (hX0 : ∀ (E : String) (S : mmS), ¬ X E S) : ∀ (n : Nat) (S : mmS) (x0 : Nat) (x1 : Int32), lp_X4_rateAll_68 g.2.2.2.2.2 Q X n S x0 x1 → ∀ (H : Heap) (locs : List Loc), mH g S s H locs → ∀ ls : Array Slot, lv_has ls 3 [(0, .ref x0), (1, .int x1)] → W p l e rm_X4_rateAll s m args below meth c H locs 0 0 (vx_MQ below (va_Qv Q (wO g) (mB g)) (vx_X (fun _ : mmS => True) (fun E S1 t => X E S1 ∧ wO g S1 t) (mB g)) args s rm_X4_rateAll.cells rm_X4_rateAll.slots (mB g)) (F0 m 68 ls []) := by
  intro n
  induction n with
  | zero => intro S x0 x1 hw; exact False.elim hw
  | succ n ih => exact fun S x0 x1 hw => bw_X4_rateAll_68 hl0 hC hrt hlk hmn hnx hs hX0 (K68 := lp_X4_rateAll_68 g.2.2.2.2.2 Q X n) ih S x0 x1 hw
set_option maxHeartbeats 4000000 in
set_option maxRecDepth 100000 in
theorem bw_X4_rateAll_35 {p : Program} {l : Launch} {e : Env} {s : State} {m : MethodId} {args : Array Value} {below : List Frame} {meth : Method} {c : Code} {g : mG} {Q : mmS → Prop} {X : String → mmS → Prop} (hl0 : l.stackTraces = false) (hC : CallFix p m c cX4_rateAll 3 s args (wA_ yX4_rateAll cX4_rateAll 3 none) RX4) (hrt : meth.sig.returnType = none) (hlk : meth.locks = false) (hmn : meth.name = yX4_rateAll.name) (hnx : ∀ x ∈ c.exceptionTable.toList, False) (hs : mX g s) (hX0 : ∀ (E : String) (S : mmS), ¬ X E S) {K35 : mmS → Nat → Int32 → Prop} (hk35 : ∀ (S : mmS) (x0 : Nat) (x1 : Int32), K35 S x0 x1 → ∀ (H : Heap) (locs : List Loc), mH g S s H locs → ∀ ls : Array Slot, lv_has ls 3 [(0, .ref x0), (1, .int x1)] → W p l e rm_X4_rateAll s m args below meth c H locs 0 0 (vx_MQ below (va_Qv Q (wO g) (mB g)) (vx_X (fun _ : mmS => True) (fun E S1 t => X E S1 ∧ wO g S1 t) (mB g)) args s rm_X4_rateAll.cells rm_X4_rateAll.slots (mB g)) (F0 m 35 ls [])) : ∀ (S : mmS) (x0 : Nat) (x1 : Int32), bk_X4_rateAll_35 g.2.2.2.2.2 Q X K35 S x0 x1 → ∀ (H : Heap) (locs : List Loc), mH g S s H locs → ∀ ls : Array Slot, lv_has ls 3 [(0, .ref x0), (1, .int x1)] → W p l e rm_X4_rateAll s m args below meth c H locs 0 0 (vx_MQ below (va_Qv Q (wO g) (mB g)) (vx_X (fun _ : mmS => True) (fun E S1 t => X E S1 ∧ wO g S1 t) (mB g)) args s rm_X4_rateAll.cells rm_X4_rateAll.slots (mB g)) (F0 m 35 ls []) := by
  intro S x0 x1 hw H locs hH ls hl
  unfold bk_X4_rateAll_35 at hw
  refine lv_iload_n hC.1 hC.2.1 dX4_rateAll_35 rfl (lv_at hl 1 rfl) ?_
  refine lv_aload_n hC.1 hC.2.1 dX4_rateAll_36 rfl (lv_at hl 0 rfl) ?_
  obtain ⟨k1, hw⟩ := hw
  obtain ⟨b2, r3, hw⟩ := hw
  refine m_getR hC hs hH cs4 fs4_2 (fun _ h => List.mem_cons_of_mem _ (inlX4 _ h)) (List.mem_cons_of_mem _ q_19) (fun _ h => h) k1 r3 dX4_rateAll_37 ?_
  obtain ⟨k5, hw⟩ := hw
  refine m_callVi (y := yJx4a65c_size_8abf5) (rest := [.int _]) hC hs hH hl.1 (cwV 0 hC.2.2.2.2 (gA_V q_68 q_69 q_70 q_16 q_71) rfl rfl rfl (by decide +kernel) ⟨Nat.le_of_ble_eq_true rfl, Nat.le_of_ble_eq_true rfl⟩) cs6 k5 (met_Jx4a65c_size_8abf5 l hl0 g _ _ _ _ hX0 hw) rfl rfl (Nat.le_of_ble_eq_true rfl) dX4_rateAll_40 ⟨Nat.le_of_ble_eq_true rfl, Nat.le_of_ble_eq_true rfl⟩ (fun E S1 _ _ _ _ hx => (hX0 E S1 hx).elim) (fun r6 S1 H locs hw hH => ?_)
  refine W.widen (k := 0) (n := 0) (Nat.le_of_ble_eq_true rfl) (Nat.le_of_ble_eq_true rfl) ?_
  refine lv_icmp_ge (tgt := 66) hC.1 hC.2.1 dX4_rateAll_43 (by decide) (fun hc => ?_) (fun hc => ?_)
  · have hw := hw.1 hc
    refine lv_iconst (v := 0) hC.1 hC.2.1 dX4_rateAll_66 (by decide) ?_
    have hw := hw _ rfl
    refine lv_istore_n (lv' := [(1, .int _), (0, .ref _)]) hC.1 hC.2.1 dX4_rateAll_67 rfl hl (by decide) rfl (fun ls hl => ?_)
    obtain ⟨n, hw⟩ := hw
    exact lw_X4_rateAll_68 hl0 hC hrt hlk hmn hnx hs hX0 n _ _ _ hw _ _ hH _ (lv_sub hl [1, 0] rfl)
  · have hw := hw.2 hc
    refine lv_aload_n hC.1 hC.2.1 dX4_rateAll_46 rfl (lv_at hl 0 rfl) ?_
    obtain ⟨k8, hw⟩ := hw
    obtain ⟨b9, r10, hw⟩ := hw
    refine m_getR hC hs hH cs4 fs4_2 (fun _ h => List.mem_cons_of_mem _ (inlX4 _ h)) (List.mem_cons_of_mem _ q_19) (fun _ h => h) k8 r10 dX4_rateAll_47 ?_
    refine lv_iload_n hC.1 hC.2.1 dX4_rateAll_50 rfl (lv_at hl 1 rfl) ?_
    obtain ⟨k12, hw⟩ := hw
    refine m_callVq (y := yJx4a65c_get_915e3) (rest := []) hC hs hH hl.1 (cwV 1 hC.2.2.2.2 (gA_V q_147 q_148 q_149 q_16 q_150) rfl rfl rfl (by decide +kernel) ⟨Nat.le_of_ble_eq_true rfl, Nat.le_of_ble_eq_true rfl⟩) cs6 k12 (met_Jx4a65c_get_915e3 l hl0 g _ _ _ _ _ hX0 hw) rfl rfl (Nat.le_of_ble_eq_true rfl) dX4_rateAll_51 ⟨Nat.le_of_ble_eq_true rfl, Nat.le_of_ble_eq_true rfl⟩ (fun E S1 _ _ _ _ hx => (hX0 E S1 hx).elim) (fun r13 S1 H locs hw hH => ?_)
    refine W.widen (k := 0) (n := 0) (Nat.le_of_ble_eq_true rfl) (Nat.le_of_ble_eq_true rfl) ?_
    obtain ⟨k14, hw⟩ := hw
    refine m_cast hC hs hH cs2 (List.mem_cons_of_mem _ q_171) k14 dX4_rateAll_54 ?_
    refine m_callVv (y := yX2_forgetRating) (rest := []) hC hs hH hl.1 (cwV 0 hC.2.2.2.2 (gA_V q_183 q_184 q_185 q_186 q_187) rfl rfl rfl (by decide +kernel) ⟨Nat.le_of_ble_eq_true rfl, Nat.le_of_ble_eq_true rfl⟩) cs2 k14 (met_X2_forgetRating l hl0 g _ _ _ _ hX0 hw) rfl rfl (Nat.le_of_ble_eq_true rfl) dX4_rateAll_57 ⟨Nat.le_of_ble_eq_true rfl, Nat.le_of_ble_eq_true rfl⟩ (fun E S1 _ _ _ _ hx => (hX0 E S1 hx).elim) (fun S1 H locs hw hH => ?_)
    refine W.widen (k := 0) (n := 0) (Nat.le_of_ble_eq_true rfl) (Nat.le_of_ble_eq_true rfl) ?_
    have hw := hw _ rfl
    refine lv_iinc (lv' := [(1, .int _), (0, .ref _)]) hC.1 hC.2.1 dX4_rateAll_60 hl (k := 1) rfl (rfl : (_ : Int32) + Int32.ofInt 1 = (_ : Int32) + 1) (by decide) rfl (fun ls hl => ?_)
    refine lv_goto (tgt := 35) hC.1 hC.2.1 dX4_rateAll_63 (by decide) ?_
    exact hk35 _ _ _ hw _ _ hH _ (lv_sub hl [1, 0] rfl)
theorem lw_X4_rateAll_35 {p : Program} {l : Launch} {e : Env} {s : State} {m : MethodId} {args : Array Value} {below : List Frame} {meth : Method} {c : Code} {g : mG} {Q : mmS → Prop} {X : String → mmS → Prop} (hl0 : l.stackTraces = false) (hC : CallFix p m c cX4_rateAll 3 s args (wA_ yX4_rateAll cX4_rateAll 3 none) RX4) (hrt : meth.sig.returnType = none) (hlk : meth.locks = false) (hmn : meth.name = yX4_rateAll.name) (hnx : ∀ x ∈ c.exceptionTable.toList, False) (hs : mX g s) (hX0 : ∀ (E : String) (S : mmS), ¬ X E S) : ∀ (n : Nat) (S : mmS) (x0 : Nat) (x1 : Int32), lp_X4_rateAll_35 g.2.2.2.2.2 Q X n S x0 x1 → ∀ (H : Heap) (locs : List Loc), mH g S s H locs → ∀ ls : Array Slot, lv_has ls 3 [(0, .ref x0), (1, .int x1)] → W p l e rm_X4_rateAll s m args below meth c H locs 0 0 (vx_MQ below (va_Qv Q (wO g) (mB g)) (vx_X (fun _ : mmS => True) (fun E S1 t => X E S1 ∧ wO g S1 t) (mB g)) args s rm_X4_rateAll.cells rm_X4_rateAll.slots (mB g)) (F0 m 35 ls []) := by
  intro n
  induction n with
  | zero => intro S x0 x1 hw; exact False.elim hw
  | succ n ih => exact fun S x0 x1 hw => bw_X4_rateAll_35 hl0 hC hrt hlk hmn hnx hs hX0 (K35 := lp_X4_rateAll_35 g.2.2.2.2.2 Q X n) ih S x0 x1 hw
set_option maxHeartbeats 4000000 in
set_option maxRecDepth 100000 in
theorem bw_X4_rateAll_2 {p : Program} {l : Launch} {e : Env} {s : State} {m : MethodId} {args : Array Value} {below : List Frame} {meth : Method} {c : Code} {g : mG} {Q : mmS → Prop} {X : String → mmS → Prop} (hl0 : l.stackTraces = false) (hC : CallFix p m c cX4_rateAll 3 s args (wA_ yX4_rateAll cX4_rateAll 3 none) RX4) (hrt : meth.sig.returnType = none) (hlk : meth.locks = false) (hmn : meth.name = yX4_rateAll.name) (hnx : ∀ x ∈ c.exceptionTable.toList, False) (hs : mX g s) (hX0 : ∀ (E : String) (S : mmS), ¬ X E S) {K2 : mmS → Nat → Int32 → Prop} (hk2 : ∀ (S : mmS) (x0 : Nat) (x1 : Int32), K2 S x0 x1 → ∀ (H : Heap) (locs : List Loc), mH g S s H locs → ∀ ls : Array Slot, lv_has ls 3 [(0, .ref x0), (1, .int x1)] → W p l e rm_X4_rateAll s m args below meth c H locs 0 0 (vx_MQ below (va_Qv Q (wO g) (mB g)) (vx_X (fun _ : mmS => True) (fun E S1 t => X E S1 ∧ wO g S1 t) (mB g)) args s rm_X4_rateAll.cells rm_X4_rateAll.slots (mB g)) (F0 m 2 ls [])) : ∀ (S : mmS) (x0 : Nat) (x1 : Int32), bk_X4_rateAll_2 g.2.2.2.2.2 Q X K2 S x0 x1 → ∀ (H : Heap) (locs : List Loc), mH g S s H locs → ∀ ls : Array Slot, lv_has ls 3 [(0, .ref x0), (1, .int x1)] → W p l e rm_X4_rateAll s m args below meth c H locs 0 0 (vx_MQ below (va_Qv Q (wO g) (mB g)) (vx_X (fun _ : mmS => True) (fun E S1 t => X E S1 ∧ wO g S1 t) (mB g)) args s rm_X4_rateAll.cells rm_X4_rateAll.slots (mB g)) (F0 m 2 ls []) := by
  intro S x0 x1 hw H locs hH ls hl
  unfold bk_X4_rateAll_2 at hw
  refine lv_iload_n hC.1 hC.2.1 dX4_rateAll_2 rfl (lv_at hl 1 rfl) ?_
  refine lv_aload_n hC.1 hC.2.1 dX4_rateAll_3 rfl (lv_at hl 0 rfl) ?_
  obtain ⟨k1, hw⟩ := hw
  obtain ⟨b2, r3, hw⟩ := hw
  refine m_getR hC hs hH cs4 fs4_1 (fun _ h => List.mem_cons_of_mem _ (inlX4 _ h)) (List.mem_cons_of_mem _ q_18) (fun _ h => h) k1 r3 dX4_rateAll_4 ?_
  obtain ⟨k5, hw⟩ := hw
  refine m_callVi (y := yJx4a65c_size_8abf5) (rest := [.int _]) hC hs hH hl.1 (cwV 0 hC.2.2.2.2 (gA_V q_68 q_69 q_70 q_16 q_71) rfl rfl rfl (by decide +kernel) ⟨Nat.le_of_ble_eq_true rfl, Nat.le_of_ble_eq_true rfl⟩) cs6 k5 (met_Jx4a65c_size_8abf5 l hl0 g _ _ _ _ hX0 hw) rfl rfl (Nat.le_of_ble_eq_true rfl) dX4_rateAll_7 ⟨Nat.le_of_ble_eq_true rfl, Nat.le_of_ble_eq_true rfl⟩ (fun E S1 _ _ _ _ hx => (hX0 E S1 hx).elim) (fun r6 S1 H locs hw hH => ?_)
  refine W.widen (k := 0) (n := 0) (Nat.le_of_ble_eq_true rfl) (Nat.le_of_ble_eq_true rfl) ?_
  refine lv_icmp_ge (tgt := 33) hC.1 hC.2.1 dX4_rateAll_10 (by decide) (fun hc => ?_) (fun hc => ?_)
  · have hw := hw.1 hc
    refine lv_iconst (v := 0) hC.1 hC.2.1 dX4_rateAll_33 (by decide) ?_
    have hw := hw _ rfl
    refine lv_istore_n (lv' := [(1, .int _), (0, .ref _)]) hC.1 hC.2.1 dX4_rateAll_34 rfl hl (by decide) rfl (fun ls hl => ?_)
    obtain ⟨n, hw⟩ := hw
    exact lw_X4_rateAll_35 hl0 hC hrt hlk hmn hnx hs hX0 n _ _ _ hw _ _ hH _ (lv_sub hl [1, 0] rfl)
  · have hw := hw.2 hc
    refine lv_aload_n hC.1 hC.2.1 dX4_rateAll_13 rfl (lv_at hl 0 rfl) ?_
    obtain ⟨k8, hw⟩ := hw
    obtain ⟨b9, r10, hw⟩ := hw
    refine m_getR hC hs hH cs4 fs4_1 (fun _ h => List.mem_cons_of_mem _ (inlX4 _ h)) (List.mem_cons_of_mem _ q_18) (fun _ h => h) k8 r10 dX4_rateAll_14 ?_
    refine lv_iload_n hC.1 hC.2.1 dX4_rateAll_17 rfl (lv_at hl 1 rfl) ?_
    obtain ⟨k12, hw⟩ := hw
    refine m_callVq (y := yJx4a65c_get_915e3) (rest := []) hC hs hH hl.1 (cwV 1 hC.2.2.2.2 (gA_V q_147 q_148 q_149 q_16 q_150) rfl rfl rfl (by decide +kernel) ⟨Nat.le_of_ble_eq_true rfl, Nat.le_of_ble_eq_true rfl⟩) cs6 k12 (met_Jx4a65c_get_915e3 l hl0 g _ _ _ _ _ hX0 hw) rfl rfl (Nat.le_of_ble_eq_true rfl) dX4_rateAll_18 ⟨Nat.le_of_ble_eq_true rfl, Nat.le_of_ble_eq_true rfl⟩ (fun E S1 _ _ _ _ hx => (hX0 E S1 hx).elim) (fun r13 S1 H locs hw hH => ?_)
    refine W.widen (k := 0) (n := 0) (Nat.le_of_ble_eq_true rfl) (Nat.le_of_ble_eq_true rfl) ?_
    obtain ⟨k14, hw⟩ := hw
    refine m_cast hC hs hH cs0 (List.mem_cons_of_mem _ q_170) k14 dX4_rateAll_21 ?_
    refine m_callVv (y := yX0_forgetRating) (rest := []) hC hs hH hl.1 (cwV 0 hC.2.2.2.2 (gA_V q_174 q_175 q_176 q_177 q_178) rfl rfl rfl (by decide +kernel) ⟨Nat.le_of_ble_eq_true rfl, Nat.le_of_ble_eq_true rfl⟩) cs0 k14 (met_X0_forgetRating l hl0 g _ _ _ _ hX0 hw) rfl rfl (Nat.le_of_ble_eq_true rfl) dX4_rateAll_24 ⟨Nat.le_of_ble_eq_true rfl, Nat.le_of_ble_eq_true rfl⟩ (fun E S1 _ _ _ _ hx => (hX0 E S1 hx).elim) (fun S1 H locs hw hH => ?_)
    refine W.widen (k := 0) (n := 0) (Nat.le_of_ble_eq_true rfl) (Nat.le_of_ble_eq_true rfl) ?_
    have hw := hw _ rfl
    refine lv_iinc (lv' := [(1, .int _), (0, .ref _)]) hC.1 hC.2.1 dX4_rateAll_27 hl (k := 1) rfl (rfl : (_ : Int32) + Int32.ofInt 1 = (_ : Int32) + 1) (by decide) rfl (fun ls hl => ?_)
    refine lv_goto (tgt := 2) hC.1 hC.2.1 dX4_rateAll_30 (by decide) ?_
    exact hk2 _ _ _ hw _ _ hH _ (lv_sub hl [1, 0] rfl)
theorem lw_X4_rateAll_2 {p : Program} {l : Launch} {e : Env} {s : State} {m : MethodId} {args : Array Value} {below : List Frame} {meth : Method} {c : Code} {g : mG} {Q : mmS → Prop} {X : String → mmS → Prop} (hl0 : l.stackTraces = false) (hC : CallFix p m c cX4_rateAll 3 s args (wA_ yX4_rateAll cX4_rateAll 3 none) RX4) (hrt : meth.sig.returnType = none) (hlk : meth.locks = false) (hmn : meth.name = yX4_rateAll.name) (hnx : ∀ x ∈ c.exceptionTable.toList, False) (hs : mX g s) (hX0 : ∀ (E : String) (S : mmS), ¬ X E S) : ∀ (n : Nat) (S : mmS) (x0 : Nat) (x1 : Int32), lp_X4_rateAll_2 g.2.2.2.2.2 Q X n S x0 x1 → ∀ (H : Heap) (locs : List Loc), mH g S s H locs → ∀ ls : Array Slot, lv_has ls 3 [(0, .ref x0), (1, .int x1)] → W p l e rm_X4_rateAll s m args below meth c H locs 0 0 (vx_MQ below (va_Qv Q (wO g) (mB g)) (vx_X (fun _ : mmS => True) (fun E S1 t => X E S1 ∧ wO g S1 t) (mB g)) args s rm_X4_rateAll.cells rm_X4_rateAll.slots (mB g)) (F0 m 2 ls []) := by
  intro n
  induction n with
  | zero => intro S x0 x1 hw; exact False.elim hw
  | succ n ih => exact fun S x0 x1 hw => bw_X4_rateAll_2 hl0 hC hrt hlk hmn hnx hs hX0 (K2 := lp_X4_rateAll_2 g.2.2.2.2.2 Q X n) ih S x0 x1 hw
set_option maxHeartbeats 4000000 in
set_option maxRecDepth 100000 in
theorem met_X4_rateAll (l : Launch) (hl0 : l.stackTraces = false) (g : mG) (S : mmS) (p0 : Nat) (Q : mmS → Prop) (X : String → mmS → Prop) (hX0 : ∀ (E : String) (S : mmS), ¬ X E S) (hw : wp_X4_rateAll g.2.2.2.2.2 S p0 Q X) : mMv l g yX4_rateAll (wA_ yX4_rateAll cX4_rateAll 3 none) rm_X4_rateAll [.ref p0] S Q X := by
  refine m_of (y := yX4_rateAll) (cc := cX4_rateAll) (maxL := 3) (ret := none) (by decide) rfl (Nat.le_of_ble_eq_true rfl) ?_
  intro p e s m args below meth c ls hC hrt hlk hmn hnx hs hH hl
  have hC : CallFix p m c cX4_rateAll 3 s args (wA_ yX4_rateAll cX4_rateAll 3 none) RX4 := hC
  have hl : lv_has ls 3 [(0, .ref p0)] := hl
  unfold wp_X4_rateAll at hw
  refine lv_iconst (v := 0) hC.1 hC.2.1 dX4_rateAll_0 (by decide) ?_
  have hw := hw _ rfl
  refine lv_istore_n (lv' := [(1, .int _), (0, .ref _)]) hC.1 hC.2.1 dX4_rateAll_1 rfl hl (by decide) rfl (fun ls hl => ?_)
  obtain ⟨n, hw⟩ := hw
  exact lw_X4_rateAll_2 hl0 hC hrt hlk hmn hnx hs hX0 n _ _ _ hw _ _ hH _ (lv_sub hl [1, 0] rfl)
abbrev rm_X4_setZone : Room := { frames := 5, cells := 0, slots := 0, locals := 116 }
def wp_X4_setZone (z : Nat × Nat) (S : mmS) (p0 : Nat) (p1 : Int32) (p2 : Int32) (p3 : Int32) (p4 : Int32) (Q : Int32 → mmS → Prop) (X : String → mmS → Prop) : Prop := (p0 ∈ mL S ∧ mK S p0 = 4) ∧ wp_X4_findTariff z S p0 p1 (fun r3 S1 => wp_X4_checkAbroad z S1 p2 (fun S4 => wp_X4_isMoney z S4 p3 (fun r6 S5 => (r6 = 0 → X "java/lang/IllegalArgumentException" S5) ∧ (¬ r6 = 0 → wp_X4_isMoney z S5 p4 (fun r8 S7 => (¬ r8 = 0 → (r3 ∈ mL S7 ∧ mK S7 r3 = 3) ∧ ∃ b10 : Nat, mR S7 6 r3 = some b10 ∧ (b10 ∈ mL S7 ∧ mK S7 b10 = 7) ∧ vp_in p2 (mN S7 b10) ∧ ∀ v14 : Int32, v14 = (mA S7 b10 (p2).toNatClampNeg) → ∃ b15 : Nat, mR S7 6 r3 = some b15 ∧ (b15 ∈ mL S7 ∧ mK S7 b15 = 7) ∧ vp_in p2 (mN S7 b15) ∧ ∀ S19 : mmS, S19 = sA S7 b15 (p2).toNatClampNeg p3 → ∃ b20 : Nat, mR S19 7 r3 = some b20 ∧ (b20 ∈ mL S19 ∧ mK S19 b20 = 7) ∧ vp_in p2 (mN S19 b20) ∧ ∀ S24 : mmS, S24 = sA S19 b20 (p2).toNatClampNeg p4 → (p0 ∈ mL S24 ∧ mK S24 p0 = 4) ∧ wp_X4_rateAll z S24 p0 (fun S25 => Q v14 S25) X) ∧ (r8 = 0 → X "java/lang/IllegalArgumentException" S7)) X)) X) X) X
set_option maxHeartbeats 4000000 in
set_option maxRecDepth 100000 in
theorem met_X4_setZone (l : Launch) (hl0 : l.stackTraces = false) (g : mG) (S : mmS) (p0 : Nat) (p1 : Int32) (p2 : Int32) (p3 : Int32) (p4 : Int32) (Q : Int32 → mmS → Prop) (X : String → mmS → Prop) (hX0 : ∀ (E : String) (S : mmS), ¬ X E S) (hw : wp_X4_setZone g.2.2.2.2.2 S p0 p1 p2 p3 p4 Q X) : mMi l g yX4_setZone (wA_ yX4_setZone cX4_setZone 7 (some .int)) rm_X4_setZone [.ref p0, .int p1, .int p2, .int p3, .int p4] S Q X := by
  refine m_of (y := yX4_setZone) (cc := cX4_setZone) (maxL := 7) (ret := (some .int)) (by decide) rfl (Nat.le_of_ble_eq_true rfl) ?_
  intro p e s m args below meth c ls hC hrt hlk hmn hnx hs hH hl
  have hC : CallFix p m c cX4_setZone 7 s args (wA_ yX4_setZone cX4_setZone 7 (some .int)) RX4 := hC
  have hl : lv_has ls 7 [(0, .ref p0), (1, .int p1), (2, .int p2), (3, .int p3), (4, .int p4)] := hl
  unfold wp_X4_setZone at hw
  refine lv_aload_n hC.1 hC.2.1 dX4_setZone_0 rfl (lv_at hl 0 rfl) ?_
  refine lv_iload_n hC.1 hC.2.1 dX4_setZone_1 rfl (lv_at hl 1 rfl) ?_
  obtain ⟨k2, hw⟩ := hw
  refine m_callVq (y := yX4_findTariff) (rest := []) hC hs hH hl.1 (cwV 1 hC.2.2.2.2 (gA_V q_140 q_141 q_142 q_2 q_143) rfl rfl rfl (by decide +kernel) ⟨Nat.le_of_ble_eq_true rfl, Nat.le_of_ble_eq_true rfl⟩) cs4 k2 (met_X4_findTariff l hl0 g _ _ _ _ _ hX0 hw) rfl rfl (Nat.le_of_ble_eq_true rfl) dX4_setZone_2 ⟨Nat.le_of_ble_eq_true rfl, Nat.le_of_ble_eq_true rfl⟩ (fun E S1 _ _ _ _ hx => (hX0 E S1 hx).elim) (fun r3 S1 H locs hw hH => ?_)
  refine W.widen (k := 0) (n := 0) (Nat.le_of_ble_eq_true rfl) (Nat.le_of_ble_eq_true rfl) ?_
  refine lv_astore (lv' := [(5, .ref _), (0, .ref _), (1, .int _), (2, .int _), (3, .int _), (4, .int _)]) hC.1 hC.2.1 dX4_setZone_5 hl (by decide) rfl (fun ls hl => ?_)
  refine lv_iload_n hC.1 hC.2.1 dX4_setZone_7 rfl (lv_at hl 3 rfl) ?_
  refine m_callSv (y := yX4_checkAbroad) (rest := []) hC hs hH hl.1 (va_cwS 1 hC.2.2.2.2 (gA_S q_163 q_164 q_2 q_165) rfl rfl rfl (by decide +kernel) ⟨Nat.le_of_ble_eq_true rfl, Nat.le_of_ble_eq_true rfl⟩) (met_X4_checkAbroad l hl0 g _ _ _ _ hX0 hw) rfl rfl (Nat.le_of_ble_eq_true rfl) dX4_setZone_8 ⟨Nat.le_of_ble_eq_true rfl, Nat.le_of_ble_eq_true rfl⟩ (fun E S1 _ _ _ _ hx => (hX0 E S1 hx).elim) (fun S1 H locs hw hH => ?_)
  refine W.widen (k := 0) (n := 0) (Nat.le_of_ble_eq_true rfl) (Nat.le_of_ble_eq_true rfl) ?_
  refine lv_iload_n hC.1 hC.2.1 dX4_setZone_11 rfl (lv_at hl 4 rfl) ?_
  refine m_callSi (y := yX4_isMoney) (rest := []) hC hs hH hl.1 (va_cwS 1 hC.2.2.2.2 (gA_S q_62 q_63 q_2 q_64) rfl rfl rfl (by decide +kernel) ⟨Nat.le_of_ble_eq_true rfl, Nat.le_of_ble_eq_true rfl⟩) (met_X4_isMoney l hl0 g _ _ _ _ hX0 hw) rfl rfl (Nat.le_of_ble_eq_true rfl) dX4_setZone_12 ⟨Nat.le_of_ble_eq_true rfl, Nat.le_of_ble_eq_true rfl⟩ (fun E S1 _ _ _ _ hx => (hX0 E S1 hx).elim) (fun r6 S1 H locs hw hH => ?_)
  refine W.widen (k := 0) (n := 0) (Nat.le_of_ble_eq_true rfl) (Nat.le_of_ble_eq_true rfl) ?_
  refine lv_if_eq (tgt := 26) hC.1 hC.2.1 dX4_setZone_15 (by decide) (fun hc => ?_) (fun hc => ?_)
  · have hw := hw.1 hc
    exact (hX0 _ _ hw).elim
  · have hw := hw.2 hc
    refine lv_iload hC.1 hC.2.1 dX4_setZone_18 (lv_at hl 5 rfl) ?_
    refine m_callSi (y := yX4_isMoney) (rest := []) hC hs hH hl.1 (va_cwS 1 hC.2.2.2.2 (gA_S q_62 q_63 q_2 q_64) rfl rfl rfl (by decide +kernel) ⟨Nat.le_of_ble_eq_true rfl, Nat.le_of_ble_eq_true rfl⟩) (met_X4_isMoney l hl0 g _ _ _ _ hX0 hw) rfl rfl (Nat.le_of_ble_eq_true rfl) dX4_setZone_20 ⟨Nat.le_of_ble_eq_true rfl, Nat.le_of_ble_eq_true rfl⟩ (fun E S1 _ _ _ _ hx => (hX0 E S1 hx).elim) (fun r8 S1 H locs hw hH => ?_)
    refine W.widen (k := 0) (n := 0) (Nat.le_of_ble_eq_true rfl) (Nat.le_of_ble_eq_true rfl) ?_
    refine lv_if_ne (tgt := 36) hC.1 hC.2.1 dX4_setZone_23 (by decide) (fun hc => ?_) (fun hc => ?_)
    · have hw := hw.1 hc
      refine lv_aload hC.1 hC.2.1 dX4_setZone_36 (lv_at hl 0 rfl) ?_
      obtain ⟨k9, hw⟩ := hw
      obtain ⟨b10, r11, hw⟩ := hw
      refine m_getR hC hs hH cs3 fs3_6 (fun _ h => List.mem_cons_of_mem _ (inlX3 _ h)) (List.mem_cons_of_mem _ q_138) (fun _ h => h) k9 r11 dX4_setZone_38 ?_
      refine lv_iload_n hC.1 hC.2.1 dX4_setZone_41 rfl (lv_at hl 3 rfl) ?_
      obtain ⟨k12, hw⟩ := hw
      obtain ⟨i13, hw⟩ := hw
      refine m_iald hC hs hH k12 i13 dX4_setZone_42 ?_
      have hw := hw _ rfl
      refine lv_istore (lv' := [(6, .int _), (5, .ref _), (0, .ref _), (1, .int _), (2, .int _), (3, .int _), (4, .int _)]) hC.1 hC.2.1 dX4_setZone_43 hl (by decide) rfl (fun ls hl => ?_)
      refine lv_aload hC.1 hC.2.1 dX4_setZone_45 (lv_at hl 1 rfl) ?_
      obtain ⟨b15, r16, hw⟩ := hw
      refine m_getR hC hs hH cs3 fs3_6 (fun _ h => List.mem_cons_of_mem _ (inlX3 _ h)) (List.mem_cons_of_mem _ q_138) (fun _ h => h) k9 r16 dX4_setZone_47 ?_
      refine lv_iload_n hC.1 hC.2.1 dX4_setZone_50 rfl (lv_at hl 4 rfl) ?_
      refine lv_iload_n hC.1 hC.2.1 dX4_setZone_51 rfl (lv_at hl 5 rfl) ?_
      obtain ⟨k17, hw⟩ := hw
      obtain ⟨i18, hw⟩ := hw
      have hw := hw _ rfl
      refine m_iast hC hs hH k17 i18 dX4_setZone_52 (fun H locs hH => ?_)
      refine lv_aload hC.1 hC.2.1 dX4_setZone_53 (lv_at hl 1 rfl) ?_
      obtain ⟨b20, r21, hw⟩ := hw
      refine m_getR hC hs hH cs3 fs3_7 (fun _ h => List.mem_cons_of_mem _ (inlX3 _ h)) (List.mem_cons_of_mem _ q_139) (fun _ h => h) k9 r21 dX4_setZone_55 ?_
      refine lv_iload_n hC.1 hC.2.1 dX4_setZone_58 rfl (lv_at hl 4 rfl) ?_
      refine lv_iload hC.1 hC.2.1 dX4_setZone_59 (lv_at hl 6 rfl) ?_
      obtain ⟨k22, hw⟩ := hw
      obtain ⟨i23, hw⟩ := hw
      have hw := hw _ rfl
      refine m_iast hC hs hH k22 i23 dX4_setZone_61 (fun H locs hH => ?_)
      refine lv_aload_n hC.1 hC.2.1 dX4_setZone_62 rfl (lv_at hl 2 rfl) ?_
      obtain ⟨k26, hw⟩ := hw
      refine m_callVv (y := yX4_rateAll) (rest := []) hC hs hH hl.1 (cwV 0 hC.2.2.2.2 (gA_V q_166 q_167 q_168 q_2 q_169) rfl rfl rfl (by decide +kernel) ⟨Nat.le_of_ble_eq_true rfl, Nat.le_of_ble_eq_true rfl⟩) cs4 k26 (met_X4_rateAll l hl0 g _ _ _ _ hX0 hw) rfl rfl (Nat.le_of_ble_eq_true rfl) dX4_setZone_63 ⟨Nat.le_of_ble_eq_true rfl, Nat.le_of_ble_eq_true rfl⟩ (fun E S1 _ _ _ _ hx => (hX0 E S1 hx).elim) (fun S1 H locs hw hH => ?_)
      refine W.widen (k := 0) (n := 0) (Nat.le_of_ble_eq_true rfl) (Nat.le_of_ble_eq_true rfl) ?_
      refine lv_iload hC.1 hC.2.1 dX4_setZone_66 (lv_at hl 0 rfl) ?_
      exact m_reti hC hH hrt rfl hlk (Nat.le_of_ble_eq_true rfl) (Nat.le_of_ble_eq_true rfl) dX4_setZone_68 hw
    · have hw := hw.2 hc
      exact (hX0 _ _ hw).elim
abbrev rm_X4_checkBundle : Room := { frames := 2, cells := 0, slots := 0, locals := 22 }
def wp_X4_checkBundle (z : Nat × Nat) (S : mmS) (p0 : Int32) (Q : mmS → Prop) (X : String → mmS → Prop) : Prop := wp_X4_isWithin z S p0 (0 : Int32) (100000 : Int32) (fun r2 S1 => (¬ r2 = 0 → Q S1) ∧ (r2 = 0 → X "java/lang/IllegalArgumentException" S1)) X
set_option maxHeartbeats 4000000 in
set_option maxRecDepth 100000 in
theorem met_X4_checkBundle (l : Launch) (hl0 : l.stackTraces = false) (g : mG) (S : mmS) (p0 : Int32) (Q : mmS → Prop) (X : String → mmS → Prop) (hX0 : ∀ (E : String) (S : mmS), ¬ X E S) (hw : wp_X4_checkBundle g.2.2.2.2.2 S p0 Q X) : mMv l g yX4_checkBundle (wA_ yX4_checkBundle cX4_checkBundle 1 none) rm_X4_checkBundle [.int p0] S Q X := by
  refine m_of (y := yX4_checkBundle) (cc := cX4_checkBundle) (maxL := 1) (ret := none) (by decide) rfl (Nat.le_of_ble_eq_true rfl) ?_
  intro p e s m args below meth c ls hC hrt hlk hmn hnx hs hH hl
  have hC : CallFix p m c cX4_checkBundle 1 s args (wA_ yX4_checkBundle cX4_checkBundle 1 none) RX4 := hC
  have hl : lv_has ls 1 [(0, .int p0)] := hl
  unfold wp_X4_checkBundle at hw
  refine lv_iload_n hC.1 hC.2.1 dX4_checkBundle_0 rfl (lv_at hl 0 rfl) ?_
  refine lv_iconst (v := 0) hC.1 hC.2.1 dX4_checkBundle_1 (by decide) ?_
  refine lv_ldcw hC.1 hC.2.1 hC.2.2.2.1 (hC.2.2.2.2 _ (List.mem_cons_of_mem _ q_264)) dX4_checkBundle_2 ?_
  refine m_callSi (y := yX4_isWithin) (rest := []) hC hs hH hl.1 (va_cwS 3 hC.2.2.2.2 (gA_S q_65 q_66 q_2 q_67) rfl rfl rfl (by decide +kernel) ⟨Nat.le_of_ble_eq_true rfl, Nat.le_of_ble_eq_true rfl⟩) (met_X4_isWithin l hl0 g _ _ _ _ _ _ hX0 hw) rfl rfl (Nat.le_of_ble_eq_true rfl) dX4_checkBundle_5 ⟨Nat.le_of_ble_eq_true rfl, Nat.le_of_ble_eq_true rfl⟩ (fun E S1 _ _ _ _ hx => (hX0 E S1 hx).elim) (fun r2 S1 H locs hw hH => ?_)
  refine W.widen (k := 0) (n := 0) (Nat.le_of_ble_eq_true rfl) (Nat.le_of_ble_eq_true rfl) ?_
  refine lv_if_ne (tgt := 22) hC.1 hC.2.1 dX4_checkBundle_8 (by decide) (fun hc => ?_) (fun hc => ?_)
  · have hw := hw.1 hc
    exact m_retv hC hH hrt hlk (Nat.le_of_ble_eq_true rfl) (Nat.le_of_ble_eq_true rfl) dX4_checkBundle_22 hw
  · have hw := hw.2 hc
    exact (hX0 _ _ hw).elim
abbrev rm_X4_addAccount : Room := { frames := 7, cells := 2, slots := 134, locals := 171 }
def wp_X4_addAccount (z : Nat × Nat) (S : mmS) (p0 : Nat) (p1 : Int32) (p2 : Int32) (p3 : Int32) (Q : Int32 → mmS → Prop) (X : String → mmS → Prop) : Prop := wp_X4_checkBundle z S p1 (fun S1 => wp_X4_isWithin z S1 p2 (0 : Int32) (1000000 : Int32) (fun r3 S2 => (¬ r3 = 0 → wp_X4_isWithin z S2 p3 (0 : Int32) (100 : Int32) (fun r5 S4 => (¬ r5 = 0 → (p0 ∈ mL S4 ∧ mK S4 p0 = 4) ∧ ∃ b7 : Nat, mR S4 9 p0 = some b7 ∧ (b7 ∈ mL S4 ∧ mK S4 b7 = 6) ∧ wp_Jx4a65c_size_8abf5 z S4 b7 (fun r11 S9 => (r11 < (4 : Int32) → (p0 ∈ mL S9 ∧ mK S9 p0 = 4) ∧ ∃ b13 : Nat, mR S9 9 p0 = some b13 ∧ ∀ q15 : Nat, q15 ∉ mL S9 → ∀ S17 : mmS, S17 = sNo S9 q15 0 → wp_X0_init z S17 q15 p1 p2 p3 (fun S18 => (b13 ∈ mL S18 ∧ mK S18 b13 = 6) ∧ wp_Jx4a65c_add_9ea2d z S18 b13 q15 (fun r21 S19 => Q r11 S19) X) X) ∧ (¬ r11 < (4 : Int32) → X "java/lang/IllegalStateException" S9)) X) ∧ (r5 = 0 → X "java/lang/IllegalArgumentException" S4)) X) ∧ (r3 = 0 → X "java/lang/IllegalArgumentException" S2)) X) X
set_option maxHeartbeats 4000000 in
set_option maxRecDepth 100000 in
theorem met_X4_addAccount (l : Launch) (hl0 : l.stackTraces = false) (g : mG) (S : mmS) (p0 : Nat) (p1 : Int32) (p2 : Int32) (p3 : Int32) (Q : Int32 → mmS → Prop) (X : String → mmS → Prop) (hX0 : ∀ (E : String) (S : mmS), ¬ X E S) (hw : wp_X4_addAccount g.2.2.2.2.2 S p0 p1 p2 p3 Q X) : mMi l g yX4_addAccount (wA_ yX4_addAccount cX4_addAccount 5 (some .int)) rm_X4_addAccount [.ref p0, .int p1, .int p2, .int p3] S Q X := by
  refine m_of (y := yX4_addAccount) (cc := cX4_addAccount) (maxL := 5) (ret := (some .int)) (by decide) rfl (Nat.le_of_ble_eq_true rfl) ?_
  intro p e s m args below meth c ls hC hrt hlk hmn hnx hs hH hl
  have hC : CallFix p m c cX4_addAccount 5 s args (wA_ yX4_addAccount cX4_addAccount 5 (some .int)) RX4 := hC
  have hl : lv_has ls 5 [(0, .ref p0), (1, .int p1), (2, .int p2), (3, .int p3)] := hl
  unfold wp_X4_addAccount at hw
  refine lv_iload_n hC.1 hC.2.1 dX4_addAccount_0 rfl (lv_at hl 1 rfl) ?_
  refine m_callSv (y := yX4_checkBundle) (rest := []) hC hs hH hl.1 (va_cwS 1 hC.2.2.2.2 (gA_S q_261 q_262 q_2 q_263) rfl rfl rfl (by decide +kernel) ⟨Nat.le_of_ble_eq_true rfl, Nat.le_of_ble_eq_true rfl⟩) (met_X4_checkBundle l hl0 g _ _ _ _ hX0 hw) rfl rfl (Nat.le_of_ble_eq_true rfl) dX4_addAccount_1 ⟨Nat.le_of_ble_eq_true rfl, Nat.le_of_ble_eq_true rfl⟩ (fun E S1 _ _ _ _ hx => (hX0 E S1 hx).elim) (fun S1 H locs hw hH => ?_)
  refine W.widen (k := 0) (n := 0) (Nat.le_of_ble_eq_true rfl) (Nat.le_of_ble_eq_true rfl) ?_
  refine lv_iload_n hC.1 hC.2.1 dX4_addAccount_4 rfl (lv_at hl 2 rfl) ?_
  refine lv_iconst (v := 0) hC.1 hC.2.1 dX4_addAccount_5 (by decide) ?_
  refine lv_ldc hC.1 hC.2.1 hC.2.2.2.1 (hC.2.2.2.2 _ (List.mem_cons_of_mem _ q_258)) dX4_addAccount_6 ?_
  refine m_callSi (y := yX4_isWithin) (rest := []) hC hs hH hl.1 (va_cwS 3 hC.2.2.2.2 (gA_S q_65 q_66 q_2 q_67) rfl rfl rfl (by decide +kernel) ⟨Nat.le_of_ble_eq_true rfl, Nat.le_of_ble_eq_true rfl⟩) (met_X4_isWithin l hl0 g _ _ _ _ _ _ hX0 hw) rfl rfl (Nat.le_of_ble_eq_true rfl) dX4_addAccount_8 ⟨Nat.le_of_ble_eq_true rfl, Nat.le_of_ble_eq_true rfl⟩ (fun E S1 _ _ _ _ hx => (hX0 E S1 hx).elim) (fun r3 S1 H locs hw hH => ?_)
  refine W.widen (k := 0) (n := 0) (Nat.le_of_ble_eq_true rfl) (Nat.le_of_ble_eq_true rfl) ?_
  refine lv_if_ne (tgt := 24) hC.1 hC.2.1 dX4_addAccount_11 (by decide) (fun hc => ?_) (fun hc => ?_)
  · have hw := hw.1 hc
    refine lv_iload_n hC.1 hC.2.1 dX4_addAccount_24 rfl (lv_at hl 3 rfl) ?_
    refine lv_iconst (v := 0) hC.1 hC.2.1 dX4_addAccount_25 (by decide) ?_
    refine lv_bipush (v := 100) hC.1 hC.2.1 dX4_addAccount_26 (by decide) ?_
    refine m_callSi (y := yX4_isWithin) (rest := []) hC hs hH hl.1 (va_cwS 3 hC.2.2.2.2 (gA_S q_65 q_66 q_2 q_67) rfl rfl rfl (by decide +kernel) ⟨Nat.le_of_ble_eq_true rfl, Nat.le_of_ble_eq_true rfl⟩) (met_X4_isWithin l hl0 g _ _ _ _ _ _ hX0 hw) rfl rfl (Nat.le_of_ble_eq_true rfl) dX4_addAccount_28 ⟨Nat.le_of_ble_eq_true rfl, Nat.le_of_ble_eq_true rfl⟩ (fun E S1 _ _ _ _ hx => (hX0 E S1 hx).elim) (fun r5 S1 H locs hw hH => ?_)
    refine W.widen (k := 0) (n := 0) (Nat.le_of_ble_eq_true rfl) (Nat.le_of_ble_eq_true rfl) ?_
    refine lv_if_ne (tgt := 44) hC.1 hC.2.1 dX4_addAccount_31 (by decide) (fun hc => ?_) (fun hc => ?_)
    · have hw := hw.1 hc
      refine lv_aload_n hC.1 hC.2.1 dX4_addAccount_44 rfl (lv_at hl 0 rfl) ?_
      obtain ⟨k6, hw⟩ := hw
      obtain ⟨b7, r8, hw⟩ := hw
      refine m_getR hC hs hH cs4 fs4_1 (fun _ h => List.mem_cons_of_mem _ (inlX4 _ h)) (List.mem_cons_of_mem _ q_18) (fun _ h => h) k6 r8 dX4_addAccount_45 ?_
      obtain ⟨k10, hw⟩ := hw
      refine m_callVi (y := yJx4a65c_size_8abf5) (rest := []) hC hs hH hl.1 (cwV 0 hC.2.2.2.2 (gA_V q_68 q_69 q_70 q_16 q_71) rfl rfl rfl (by decide +kernel) ⟨Nat.le_of_ble_eq_true rfl, Nat.le_of_ble_eq_true rfl⟩) cs6 k10 (met_Jx4a65c_size_8abf5 l hl0 g _ _ _ _ hX0 hw) rfl rfl (Nat.le_of_ble_eq_true rfl) dX4_addAccount_48 ⟨Nat.le_of_ble_eq_true rfl, Nat.le_of_ble_eq_true rfl⟩ (fun E S1 _ _ _ _ hx => (hX0 E S1 hx).elim) (fun r11 S1 H locs hw hH => ?_)
      refine W.widen (k := 0) (n := 0) (Nat.le_of_ble_eq_true rfl) (Nat.le_of_ble_eq_true rfl) ?_
      refine lv_istore (lv' := [(4, .int _), (0, .ref _), (1, .int _), (2, .int _), (3, .int _)]) hC.1 hC.2.1 dX4_addAccount_51 hl (by decide) rfl (fun ls hl => ?_)
      refine lv_iload hC.1 hC.2.1 dX4_addAccount_53 (lv_at hl 0 rfl) ?_
      refine lv_iconst (v := 4) hC.1 hC.2.1 dX4_addAccount_55 (by decide) ?_
      refine lv_icmp_lt (tgt := 69) hC.1 hC.2.1 dX4_addAccount_56 (by decide) (fun hc => ?_) (fun hc => ?_)
      · have hw := hw.1 hc
        refine lv_aload_n hC.1 hC.2.1 dX4_addAccount_69 rfl (lv_at hl 1 rfl) ?_
        obtain ⟨k12, hw⟩ := hw
        obtain ⟨b13, r14, hw⟩ := hw
        refine m_getR hC hs hH cs4 fs4_1 (fun _ h => List.mem_cons_of_mem _ (inlX4 _ h)) (List.mem_cons_of_mem _ q_18) (fun _ h => h) k12 r14 dX4_addAccount_70 ?_
        refine m_newO hC hs hH cs0 (fun _ h => List.mem_cons_of_mem _ (inlX0 _ h)) (List.mem_cons_of_mem _ q_170) (List.mem_cons_of_mem _ q_260) (List.mem_cons_of_mem _ q_177) df0 (Nat.le_of_ble_eq_true rfl) (Nat.le_of_ble_eq_true rfl) dX4_addAccount_73 (fun q15 H f16 hH => ?_)
        have hw := hw q15 f16 _ rfl
        refine W.widen (k := 1) (n := 6) (Nat.le_of_ble_eq_true rfl) (Nat.le_of_ble_eq_true rfl) ?_
        refine lv_dup hC.1 hC.2.1 dX4_addAccount_76 rfl ?_
        refine lv_iload_n hC.1 hC.2.1 dX4_addAccount_77 rfl (lv_at hl 2 rfl) ?_
        refine lv_iload_n hC.1 hC.2.1 dX4_addAccount_78 rfl (lv_at hl 3 rfl) ?_
        refine lv_iload_n hC.1 hC.2.1 dX4_addAccount_79 rfl (lv_at hl 4 rfl) ?_
        refine m_callIv (y := yX0_init) (rest := [.ref _, .ref _]) hC hs hH hl.1 (cwI 3 hC.2.2.2.2 (gA0 q_267) rfl rfl rfl (hC.2.2.2.2 _ (List.mem_cons_of_mem _ q_177)) (hC.2.2.2.2 _ (List.mem_cons_of_mem _ q_265)) (hC.2.2.2.2 _ (List.mem_cons_of_mem _ q_266)) rfl (by decide +kernel) ⟨Nat.le_of_ble_eq_true rfl, Nat.le_of_ble_eq_true rfl⟩) (met_X0_init l hl0 g _ _ _ _ _ _ _ hX0 hw) rfl rfl (Nat.le_of_ble_eq_true rfl) dX4_addAccount_80 ⟨Nat.le_of_ble_eq_true rfl, Nat.le_of_ble_eq_true rfl⟩ (fun E S1 _ _ _ _ hx => (hX0 E S1 hx).elim) (fun S1 H locs hw hH => ?_)
        refine W.widen (k := 1) (n := 6) (Nat.le_of_ble_eq_true rfl) (Nat.le_of_ble_eq_true rfl) ?_
        obtain ⟨k20, hw⟩ := hw
        refine m_callVi (y := yJx4a65c_add_9ea2d) (rest := []) hC hs hH hl.1 (cwV 1 hC.2.2.2.2 (gA_V q_85 q_86 q_87 q_16 q_88) rfl rfl rfl (by decide +kernel) ⟨Nat.le_of_ble_eq_true rfl, Nat.le_of_ble_eq_true rfl⟩) cs6 k20 (met_Jx4a65c_add_9ea2d l hl0 g _ _ _ _ _ hX0 hw) rfl rfl (Nat.le_of_ble_eq_true rfl) dX4_addAccount_83 ⟨Nat.le_of_ble_eq_true rfl, Nat.le_of_ble_eq_true rfl⟩ (fun E S1 _ _ _ _ hx => (hX0 E S1 hx).elim) (fun r21 S1 H locs hw hH => ?_)
        refine W.widen (k := 2) (n := 134) (Nat.le_of_ble_eq_true rfl) (Nat.le_of_ble_eq_true rfl) ?_
        refine lv_pop hC.1 hC.2.1 dX4_addAccount_86 rfl ?_
        refine lv_iload hC.1 hC.2.1 dX4_addAccount_87 (lv_at hl 0 rfl) ?_
        exact m_reti hC hH hrt rfl hlk (Nat.le_of_ble_eq_true rfl) (Nat.le_of_ble_eq_true rfl) dX4_addAccount_89 hw
      · have hw := hw.2 hc
        exact (hX0 _ _ hw).elim
    · have hw := hw.2 hc
      exact (hX0 _ _ hw).elim
  · have hw := hw.2 hc
    exact (hX0 _ _ hw).elim
abbrev rm_X4_findAccount : Room := { frames := 4, cells := 0, slots := 0, locals := 64 }
def wp_X4_findAccount (z : Nat × Nat) (S : mmS) (p0 : Nat) (p1 : Int32) (Q : Nat → mmS → Prop) (X : String → mmS → Prop) : Prop := (p1 < 0 → X "java/lang/IndexOutOfBoundsException" S) ∧ (¬ p1 < 0 → (p0 ∈ mL S ∧ mK S p0 = 4) ∧ ∃ b2 : Nat, mR S 9 p0 = some b2 ∧ (b2 ∈ mL S ∧ mK S b2 = 6) ∧ wp_Jx4a65c_size_8abf5 z S b2 (fun r6 S4 => (p1 < r6 → (p0 ∈ mL S4 ∧ mK S4 p0 = 4) ∧ ∃ b8 : Nat, mR S4 9 p0 = some b8 ∧ (b8 ∈ mL S4 ∧ mK S4 b8 = 6) ∧ wp_Jx4a65c_get_915e3 z S4 b8 p1 (fun r12 S10 => (r12 ∈ mL S10 ∧ mK S10 r12 = 0) ∧ Q r12 S10) X) ∧ (¬ p1 < r6 → X "java/lang/IndexOutOfBoundsException" S4)) X)
set_option maxHeartbeats 4000000 in
set_option maxRecDepth 100000 in
theorem met_X4_findAccount (l : Launch) (hl0 : l.stackTraces = false) (g : mG) (S : mmS) (p0 : Nat) (p1 : Int32) (Q : Nat → mmS → Prop) (X : String → mmS → Prop) (hX0 : ∀ (E : String) (S : mmS), ¬ X E S) (hw : wp_X4_findAccount g.2.2.2.2.2 S p0 p1 Q X) : mMq l g yX4_findAccount (wA_ yX4_findAccount cX4_findAccount 2 (some (.object "PhoneRater$Account"))) rm_X4_findAccount [.ref p0, .int p1] S Q X := by
  refine m_of (y := yX4_findAccount) (cc := cX4_findAccount) (maxL := 2) (ret := (some (.object "PhoneRater$Account"))) (by decide) rfl (Nat.le_of_ble_eq_true rfl) ?_
  intro p e s m args below meth c ls hC hrt hlk hmn hnx hs hH hl
  have hC : CallFix p m c cX4_findAccount 2 s args (wA_ yX4_findAccount cX4_findAccount 2 (some (.object "PhoneRater$Account"))) RX4 := hC
  have hl : lv_has ls 2 [(0, .ref p0), (1, .int p1)] := hl
  unfold wp_X4_findAccount at hw
  refine lv_iload_n hC.1 hC.2.1 dX4_findAccount_0 rfl (lv_at hl 1 rfl) ?_
  refine lv_if_lt (tgt := 15) hC.1 hC.2.1 dX4_findAccount_1 (by decide) (fun hc => ?_) (fun hc => ?_)
  · have hw := hw.1 hc
    exact (hX0 _ _ hw).elim
  · have hw := hw.2 hc
    refine lv_iload_n hC.1 hC.2.1 dX4_findAccount_4 rfl (lv_at hl 1 rfl) ?_
    refine lv_aload_n hC.1 hC.2.1 dX4_findAccount_5 rfl (lv_at hl 0 rfl) ?_
    obtain ⟨k1, hw⟩ := hw
    obtain ⟨b2, r3, hw⟩ := hw
    refine m_getR hC hs hH cs4 fs4_1 (fun _ h => List.mem_cons_of_mem _ (inlX4 _ h)) (List.mem_cons_of_mem _ q_18) (fun _ h => h) k1 r3 dX4_findAccount_6 ?_
    obtain ⟨k5, hw⟩ := hw
    refine m_callVi (y := yJx4a65c_size_8abf5) (rest := [.int _]) hC hs hH hl.1 (cwV 0 hC.2.2.2.2 (gA_V q_68 q_69 q_70 q_16 q_71) rfl rfl rfl (by decide +kernel) ⟨Nat.le_of_ble_eq_true rfl, Nat.le_of_ble_eq_true rfl⟩) cs6 k5 (met_Jx4a65c_size_8abf5 l hl0 g _ _ _ _ hX0 hw) rfl rfl (Nat.le_of_ble_eq_true rfl) dX4_findAccount_9 ⟨Nat.le_of_ble_eq_true rfl, Nat.le_of_ble_eq_true rfl⟩ (fun E S1 _ _ _ _ hx => (hX0 E S1 hx).elim) (fun r6 S1 H locs hw hH => ?_)
    refine W.widen (k := 0) (n := 0) (Nat.le_of_ble_eq_true rfl) (Nat.le_of_ble_eq_true rfl) ?_
    refine lv_icmp_lt (tgt := 26) hC.1 hC.2.1 dX4_findAccount_12 (by decide) (fun hc => ?_) (fun hc => ?_)
    · have hw := hw.1 hc
      refine lv_aload_n hC.1 hC.2.1 dX4_findAccount_26 rfl (lv_at hl 0 rfl) ?_
      obtain ⟨k7, hw⟩ := hw
      obtain ⟨b8, r9, hw⟩ := hw
      refine m_getR hC hs hH cs4 fs4_1 (fun _ h => List.mem_cons_of_mem _ (inlX4 _ h)) (List.mem_cons_of_mem _ q_18) (fun _ h => h) k7 r9 dX4_findAccount_27 ?_
      refine lv_iload_n hC.1 hC.2.1 dX4_findAccount_30 rfl (lv_at hl 1 rfl) ?_
      obtain ⟨k11, hw⟩ := hw
      refine m_callVq (y := yJx4a65c_get_915e3) (rest := []) hC hs hH hl.1 (cwV 1 hC.2.2.2.2 (gA_V q_147 q_148 q_149 q_16 q_150) rfl rfl rfl (by decide +kernel) ⟨Nat.le_of_ble_eq_true rfl, Nat.le_of_ble_eq_true rfl⟩) cs6 k11 (met_Jx4a65c_get_915e3 l hl0 g _ _ _ _ _ hX0 hw) rfl rfl (Nat.le_of_ble_eq_true rfl) dX4_findAccount_31 ⟨Nat.le_of_ble_eq_true rfl, Nat.le_of_ble_eq_true rfl⟩ (fun E S1 _ _ _ _ hx => (hX0 E S1 hx).elim) (fun r12 S1 H locs hw hH => ?_)
      refine W.widen (k := 0) (n := 0) (Nat.le_of_ble_eq_true rfl) (Nat.le_of_ble_eq_true rfl) ?_
      obtain ⟨k13, hw⟩ := hw
      refine m_cast hC hs hH cs0 (List.mem_cons_of_mem _ q_170) k13 dX4_findAccount_34 ?_
      exact m_retq hC hH hrt (Or.inl ⟨_, rfl⟩) hlk (Nat.le_of_ble_eq_true rfl) (Nat.le_of_ble_eq_true rfl) dX4_findAccount_37 hw
    · have hw := hw.2 hc
      exact (hX0 _ _ hw).elim
abbrev rm_X4_addLine : Room := { frames := 7, cells := 5, slots := 143, locals := 171 }
def wp_X4_addLine (z : Nat × Nat) (S : mmS) (p0 : Nat) (p1 : Int32) (p2 : Int32) (Q : Int32 → mmS → Prop) (X : String → mmS → Prop) : Prop := (p0 ∈ mL S ∧ mK S p0 = 4) ∧ wp_X4_findAccount z S p0 p1 (fun r3 S1 => (p0 ∈ mL S1 ∧ mK S1 p0 = 4) ∧ wp_X4_findTariff z S1 p0 p2 (fun r6 S4 => (p0 ∈ mL S4 ∧ mK S4 p0 = 4) ∧ ∃ b8 : Nat, mR S4 10 p0 = some b8 ∧ (b8 ∈ mL S4 ∧ mK S4 b8 = 6) ∧ wp_Jx4a65c_size_8abf5 z S4 b8 (fun r12 S10 => (r12 < (8 : Int32) → (p0 ∈ mL S10 ∧ mK S10 p0 = 4) ∧ ∃ b14 : Nat, mR S10 10 p0 = some b14 ∧ ∀ q16 : Nat, q16 ∉ mL S10 → ∀ S18 : mmS, S18 = sNo S10 q16 2 → wp_X2_init z S18 q16 r3 r6 (fun S19 => (b14 ∈ mL S19 ∧ mK S19 b14 = 6) ∧ wp_Jx4a65c_add_9ea2d z S19 b14 q16 (fun r22 S20 => Q r12 S20) X) X) ∧ (¬ r12 < (8 : Int32) → X "java/lang/IllegalStateException" S10)) X) X) X
set_option maxHeartbeats 4000000 in
set_option maxRecDepth 100000 in
theorem met_X4_addLine (l : Launch) (hl0 : l.stackTraces = false) (g : mG) (S : mmS) (p0 : Nat) (p1 : Int32) (p2 : Int32) (Q : Int32 → mmS → Prop) (X : String → mmS → Prop) (hX0 : ∀ (E : String) (S : mmS), ¬ X E S) (hw : wp_X4_addLine g.2.2.2.2.2 S p0 p1 p2 Q X) : mMi l g yX4_addLine (wA_ yX4_addLine cX4_addLine 6 (some .int)) rm_X4_addLine [.ref p0, .int p1, .int p2] S Q X := by
  refine m_of (y := yX4_addLine) (cc := cX4_addLine) (maxL := 6) (ret := (some .int)) (by decide) rfl (Nat.le_of_ble_eq_true rfl) ?_
  intro p e s m args below meth c ls hC hrt hlk hmn hnx hs hH hl
  have hC : CallFix p m c cX4_addLine 6 s args (wA_ yX4_addLine cX4_addLine 6 (some .int)) RX4 := hC
  have hl : lv_has ls 6 [(0, .ref p0), (1, .int p1), (2, .int p2)] := hl
  unfold wp_X4_addLine at hw
  refine lv_aload_n hC.1 hC.2.1 dX4_addLine_0 rfl (lv_at hl 0 rfl) ?_
  refine lv_iload_n hC.1 hC.2.1 dX4_addLine_1 rfl (lv_at hl 1 rfl) ?_
  obtain ⟨k2, hw⟩ := hw
  refine m_callVq (y := yX4_findAccount) (rest := []) hC hs hH hl.1 (cwV 1 hC.2.2.2.2 (gA_V q_277 q_278 q_279 q_2 q_280) rfl rfl rfl (by decide +kernel) ⟨Nat.le_of_ble_eq_true rfl, Nat.le_of_ble_eq_true rfl⟩) cs4 k2 (met_X4_findAccount l hl0 g _ _ _ _ _ hX0 hw) rfl rfl (Nat.le_of_ble_eq_true rfl) dX4_addLine_2 ⟨Nat.le_of_ble_eq_true rfl, Nat.le_of_ble_eq_true rfl⟩ (fun E S1 _ _ _ _ hx => (hX0 E S1 hx).elim) (fun r3 S1 H locs hw hH => ?_)
  refine W.widen (k := 0) (n := 0) (Nat.le_of_ble_eq_true rfl) (Nat.le_of_ble_eq_true rfl) ?_
  refine lv_astore_n (lv' := [(3, .ref _), (0, .ref _), (1, .int _), (2, .int _)]) hC.1 hC.2.1 dX4_addLine_5 rfl hl (by decide) rfl (fun ls hl => ?_)
  refine lv_aload_n hC.1 hC.2.1 dX4_addLine_6 rfl (lv_at hl 1 rfl) ?_
  refine lv_iload_n hC.1 hC.2.1 dX4_addLine_7 rfl (lv_at hl 3 rfl) ?_
  obtain ⟨k5, hw⟩ := hw
  refine m_callVq (y := yX4_findTariff) (rest := []) hC hs hH hl.1 (cwV 1 hC.2.2.2.2 (gA_V q_140 q_141 q_142 q_2 q_143) rfl rfl rfl (by decide +kernel) ⟨Nat.le_of_ble_eq_true rfl, Nat.le_of_ble_eq_true rfl⟩) cs4 k5 (met_X4_findTariff l hl0 g _ _ _ _ _ hX0 hw) rfl rfl (Nat.le_of_ble_eq_true rfl) dX4_addLine_8 ⟨Nat.le_of_ble_eq_true rfl, Nat.le_of_ble_eq_true rfl⟩ (fun E S1 _ _ _ _ hx => (hX0 E S1 hx).elim) (fun r6 S1 H locs hw hH => ?_)
  refine W.widen (k := 0) (n := 0) (Nat.le_of_ble_eq_true rfl) (Nat.le_of_ble_eq_true rfl) ?_
  refine lv_astore (lv' := [(4, .ref _), (3, .ref _), (0, .ref _), (1, .int _), (2, .int _)]) hC.1 hC.2.1 dX4_addLine_11 hl (by decide) rfl (fun ls hl => ?_)
  refine lv_aload_n hC.1 hC.2.1 dX4_addLine_13 rfl (lv_at hl 2 rfl) ?_
  obtain ⟨k7, hw⟩ := hw
  obtain ⟨b8, r9, hw⟩ := hw
  refine m_getR hC hs hH cs4 fs4_2 (fun _ h => List.mem_cons_of_mem _ (inlX4 _ h)) (List.mem_cons_of_mem _ q_19) (fun _ h => h) k7 r9 dX4_addLine_14 ?_
  obtain ⟨k11, hw⟩ := hw
  refine m_callVi (y := yJx4a65c_size_8abf5) (rest := []) hC hs hH hl.1 (cwV 0 hC.2.2.2.2 (gA_V q_68 q_69 q_70 q_16 q_71) rfl rfl rfl (by decide +kernel) ⟨Nat.le_of_ble_eq_true rfl, Nat.le_of_ble_eq_true rfl⟩) cs6 k11 (met_Jx4a65c_size_8abf5 l hl0 g _ _ _ _ hX0 hw) rfl rfl (Nat.le_of_ble_eq_true rfl) dX4_addLine_17 ⟨Nat.le_of_ble_eq_true rfl, Nat.le_of_ble_eq_true rfl⟩ (fun E S1 _ _ _ _ hx => (hX0 E S1 hx).elim) (fun r12 S1 H locs hw hH => ?_)
  refine W.widen (k := 0) (n := 0) (Nat.le_of_ble_eq_true rfl) (Nat.le_of_ble_eq_true rfl) ?_
  refine lv_istore (lv' := [(5, .int _), (4, .ref _), (3, .ref _), (0, .ref _), (1, .int _), (2, .int _)]) hC.1 hC.2.1 dX4_addLine_20 hl (by decide) rfl (fun ls hl => ?_)
  refine lv_iload hC.1 hC.2.1 dX4_addLine_22 (lv_at hl 0 rfl) ?_
  refine lv_bipush (v := 8) hC.1 hC.2.1 dX4_addLine_24 (by decide) ?_
  refine lv_icmp_lt (tgt := 39) hC.1 hC.2.1 dX4_addLine_26 (by decide) (fun hc => ?_) (fun hc => ?_)
  · have hw := hw.1 hc
    refine lv_aload_n hC.1 hC.2.1 dX4_addLine_39 rfl (lv_at hl 3 rfl) ?_
    obtain ⟨k13, hw⟩ := hw
    obtain ⟨b14, r15, hw⟩ := hw
    refine m_getR hC hs hH cs4 fs4_2 (fun _ h => List.mem_cons_of_mem _ (inlX4 _ h)) (List.mem_cons_of_mem _ q_19) (fun _ h => h) k13 r15 dX4_addLine_40 ?_
    refine m_newO hC hs hH cs2 (fun _ h => List.mem_cons_of_mem _ (inlX2 _ h)) (List.mem_cons_of_mem _ q_171) (List.mem_cons_of_mem _ q_276) (List.mem_cons_of_mem _ q_186) df2 (Nat.le_of_ble_eq_true rfl) (Nat.le_of_ble_eq_true rfl) dX4_addLine_43 (fun q16 H f17 hH => ?_)
    have hw := hw q16 f17 _ rfl
    refine W.widen (k := 1) (n := 6) (Nat.le_of_ble_eq_true rfl) (Nat.le_of_ble_eq_true rfl) ?_
    refine lv_dup hC.1 hC.2.1 dX4_addLine_46 rfl ?_
    refine lv_aload_n hC.1 hC.2.1 dX4_addLine_47 rfl (lv_at hl 2 rfl) ?_
    refine lv_aload hC.1 hC.2.1 dX4_addLine_48 (lv_at hl 1 rfl) ?_
    refine m_callIv (y := yX2_init) (rest := [.ref _, .ref _]) hC hs hH hl.1 (cwI 2 hC.2.2.2.2 (gA0 q_283) rfl rfl rfl (hC.2.2.2.2 _ (List.mem_cons_of_mem _ q_186)) (hC.2.2.2.2 _ (List.mem_cons_of_mem _ q_281)) (hC.2.2.2.2 _ (List.mem_cons_of_mem _ q_282)) rfl (by decide +kernel) ⟨Nat.le_of_ble_eq_true rfl, Nat.le_of_ble_eq_true rfl⟩) (met_X2_init l hl0 g _ _ _ _ _ _ hX0 hw) rfl rfl (Nat.le_of_ble_eq_true rfl) dX4_addLine_50 ⟨Nat.le_of_ble_eq_true rfl, Nat.le_of_ble_eq_true rfl⟩ (fun E S1 _ _ _ _ hx => (hX0 E S1 hx).elim) (fun S1 H locs hw hH => ?_)
    refine W.widen (k := 4) (n := 15) (Nat.le_of_ble_eq_true rfl) (Nat.le_of_ble_eq_true rfl) ?_
    obtain ⟨k21, hw⟩ := hw
    refine m_callVi (y := yJx4a65c_add_9ea2d) (rest := []) hC hs hH hl.1 (cwV 1 hC.2.2.2.2 (gA_V q_85 q_86 q_87 q_16 q_88) rfl rfl rfl (by decide +kernel) ⟨Nat.le_of_ble_eq_true rfl, Nat.le_of_ble_eq_true rfl⟩) cs6 k21 (met_Jx4a65c_add_9ea2d l hl0 g _ _ _ _ _ hX0 hw) rfl rfl (Nat.le_of_ble_eq_true rfl) dX4_addLine_53 ⟨Nat.le_of_ble_eq_true rfl, Nat.le_of_ble_eq_true rfl⟩ (fun E S1 _ _ _ _ hx => (hX0 E S1 hx).elim) (fun r22 S1 H locs hw hH => ?_)
    refine W.widen (k := 5) (n := 143) (Nat.le_of_ble_eq_true rfl) (Nat.le_of_ble_eq_true rfl) ?_
    refine lv_pop hC.1 hC.2.1 dX4_addLine_56 rfl ?_
    refine lv_iload hC.1 hC.2.1 dX4_addLine_57 (lv_at hl 0 rfl) ?_
    exact m_reti hC hH hrt rfl hlk (Nat.le_of_ble_eq_true rfl) (Nat.le_of_ble_eq_true rfl) dX4_addLine_59 hw
  · have hw := hw.2 hc
    exact (hX0 _ _ hw).elim
abbrev rm_X4_findLine : Room := { frames := 4, cells := 0, slots := 0, locals := 64 }
def wp_X4_findLine (z : Nat × Nat) (S : mmS) (p0 : Nat) (p1 : Int32) (Q : Nat → mmS → Prop) (X : String → mmS → Prop) : Prop := (p1 < 0 → X "java/lang/IndexOutOfBoundsException" S) ∧ (¬ p1 < 0 → (p0 ∈ mL S ∧ mK S p0 = 4) ∧ ∃ b2 : Nat, mR S 10 p0 = some b2 ∧ (b2 ∈ mL S ∧ mK S b2 = 6) ∧ wp_Jx4a65c_size_8abf5 z S b2 (fun r6 S4 => (p1 < r6 → (p0 ∈ mL S4 ∧ mK S4 p0 = 4) ∧ ∃ b8 : Nat, mR S4 10 p0 = some b8 ∧ (b8 ∈ mL S4 ∧ mK S4 b8 = 6) ∧ wp_Jx4a65c_get_915e3 z S4 b8 p1 (fun r12 S10 => (r12 ∈ mL S10 ∧ mK S10 r12 = 2) ∧ Q r12 S10) X) ∧ (¬ p1 < r6 → X "java/lang/IndexOutOfBoundsException" S4)) X)
set_option maxHeartbeats 4000000 in
set_option maxRecDepth 100000 in
theorem met_X4_findLine (l : Launch) (hl0 : l.stackTraces = false) (g : mG) (S : mmS) (p0 : Nat) (p1 : Int32) (Q : Nat → mmS → Prop) (X : String → mmS → Prop) (hX0 : ∀ (E : String) (S : mmS), ¬ X E S) (hw : wp_X4_findLine g.2.2.2.2.2 S p0 p1 Q X) : mMq l g yX4_findLine (wA_ yX4_findLine cX4_findLine 2 (some (.object "PhoneRater$Line"))) rm_X4_findLine [.ref p0, .int p1] S Q X := by
  refine m_of (y := yX4_findLine) (cc := cX4_findLine) (maxL := 2) (ret := (some (.object "PhoneRater$Line"))) (by decide) rfl (Nat.le_of_ble_eq_true rfl) ?_
  intro p e s m args below meth c ls hC hrt hlk hmn hnx hs hH hl
  have hC : CallFix p m c cX4_findLine 2 s args (wA_ yX4_findLine cX4_findLine 2 (some (.object "PhoneRater$Line"))) RX4 := hC
  have hl : lv_has ls 2 [(0, .ref p0), (1, .int p1)] := hl
  unfold wp_X4_findLine at hw
  refine lv_iload_n hC.1 hC.2.1 dX4_findLine_0 rfl (lv_at hl 1 rfl) ?_
  refine lv_if_lt (tgt := 15) hC.1 hC.2.1 dX4_findLine_1 (by decide) (fun hc => ?_) (fun hc => ?_)
  · have hw := hw.1 hc
    exact (hX0 _ _ hw).elim
  · have hw := hw.2 hc
    refine lv_iload_n hC.1 hC.2.1 dX4_findLine_4 rfl (lv_at hl 1 rfl) ?_
    refine lv_aload_n hC.1 hC.2.1 dX4_findLine_5 rfl (lv_at hl 0 rfl) ?_
    obtain ⟨k1, hw⟩ := hw
    obtain ⟨b2, r3, hw⟩ := hw
    refine m_getR hC hs hH cs4 fs4_2 (fun _ h => List.mem_cons_of_mem _ (inlX4 _ h)) (List.mem_cons_of_mem _ q_19) (fun _ h => h) k1 r3 dX4_findLine_6 ?_
    obtain ⟨k5, hw⟩ := hw
    refine m_callVi (y := yJx4a65c_size_8abf5) (rest := [.int _]) hC hs hH hl.1 (cwV 0 hC.2.2.2.2 (gA_V q_68 q_69 q_70 q_16 q_71) rfl rfl rfl (by decide +kernel) ⟨Nat.le_of_ble_eq_true rfl, Nat.le_of_ble_eq_true rfl⟩) cs6 k5 (met_Jx4a65c_size_8abf5 l hl0 g _ _ _ _ hX0 hw) rfl rfl (Nat.le_of_ble_eq_true rfl) dX4_findLine_9 ⟨Nat.le_of_ble_eq_true rfl, Nat.le_of_ble_eq_true rfl⟩ (fun E S1 _ _ _ _ hx => (hX0 E S1 hx).elim) (fun r6 S1 H locs hw hH => ?_)
    refine W.widen (k := 0) (n := 0) (Nat.le_of_ble_eq_true rfl) (Nat.le_of_ble_eq_true rfl) ?_
    refine lv_icmp_lt (tgt := 26) hC.1 hC.2.1 dX4_findLine_12 (by decide) (fun hc => ?_) (fun hc => ?_)
    · have hw := hw.1 hc
      refine lv_aload_n hC.1 hC.2.1 dX4_findLine_26 rfl (lv_at hl 0 rfl) ?_
      obtain ⟨k7, hw⟩ := hw
      obtain ⟨b8, r9, hw⟩ := hw
      refine m_getR hC hs hH cs4 fs4_2 (fun _ h => List.mem_cons_of_mem _ (inlX4 _ h)) (List.mem_cons_of_mem _ q_19) (fun _ h => h) k7 r9 dX4_findLine_27 ?_
      refine lv_iload_n hC.1 hC.2.1 dX4_findLine_30 rfl (lv_at hl 1 rfl) ?_
      obtain ⟨k11, hw⟩ := hw
      refine m_callVq (y := yJx4a65c_get_915e3) (rest := []) hC hs hH hl.1 (cwV 1 hC.2.2.2.2 (gA_V q_147 q_148 q_149 q_16 q_150) rfl rfl rfl (by decide +kernel) ⟨Nat.le_of_ble_eq_true rfl, Nat.le_of_ble_eq_true rfl⟩) cs6 k11 (met_Jx4a65c_get_915e3 l hl0 g _ _ _ _ _ hX0 hw) rfl rfl (Nat.le_of_ble_eq_true rfl) dX4_findLine_31 ⟨Nat.le_of_ble_eq_true rfl, Nat.le_of_ble_eq_true rfl⟩ (fun E S1 _ _ _ _ hx => (hX0 E S1 hx).elim) (fun r12 S1 H locs hw hH => ?_)
      refine W.widen (k := 0) (n := 0) (Nat.le_of_ble_eq_true rfl) (Nat.le_of_ble_eq_true rfl) ?_
      obtain ⟨k13, hw⟩ := hw
      refine m_cast hC hs hH cs2 (List.mem_cons_of_mem _ q_171) k13 dX4_findLine_34 ?_
      exact m_retq hC hH hrt (Or.inl ⟨_, rfl⟩) hlk (Nat.le_of_ble_eq_true rfl) (Nat.le_of_ble_eq_true rfl) dX4_findLine_37 hw
    · have hw := hw.2 hc
      exact (hX0 _ _ hw).elim
abbrev rm_X4_putInOrder : Room := { frames := 6, cells := 1, slots := 128, locals := 151 }
def bk_X4_putInOrder_40 (z : Nat × Nat) (Q : mmS → Prop) (X : String → mmS → Prop) (S : mmS) (x0 : Nat) (x1 : Nat) (x2 : Int32) : Prop := (x0 ∈ mL S ∧ mK S x0 = 4) ∧ ∃ b2 : Nat, mR S 12 x0 = some b2 ∧ (b2 ∈ mL S ∧ mK S b2 = 6) ∧ wp_Jx4a65c_add_7a177 z S b2 x2 x1 (fun S4 => Q S4) X
def bk_X4_putInOrder_2 (z : Nat × Nat) (Q : mmS → Prop) (X : String → mmS → Prop) (K2 : mmS → Nat → Nat → Int32 → Prop) (S : mmS) (x0 : Nat) (x1 : Nat) (x2 : Int32) : Prop := (x0 ∈ mL S ∧ mK S x0 = 4) ∧ ∃ b2 : Nat, mR S 12 x0 = some b2 ∧ (b2 ∈ mL S ∧ mK S b2 = 6) ∧ wp_Jx4a65c_size_8abf5 z S b2 (fun r6 S4 => (r6 ≤ x2 → bk_X4_putInOrder_40 z Q X S4 x0 x1 x2) ∧ (¬ r6 ≤ x2 → (x0 ∈ mL S4 ∧ mK S4 x0 = 4) ∧ ∃ b8 : Nat, mR S4 12 x0 = some b8 ∧ (b8 ∈ mL S4 ∧ mK S4 b8 = 6) ∧ wp_Jx4a65c_get_915e3 z S4 b8 x2 (fun r12 S10 => (r12 ∈ mL S10 ∧ mK S10 r12 = 1) ∧ (x1 ∈ mL S10 ∧ mK S10 x1 = 1) ∧ ((mI S10 7 x1) < (mI S10 7 r12) → bk_X4_putInOrder_40 z Q X S10 x0 x1 x2) ∧ (¬ (mI S10 7 x1) < (mI S10 7 r12) → ∀ v15 : Int32, v15 = x2 + 1 → K2 S10 x0 x1 v15)) X)) X
def lp_X4_putInOrder_2 (z : Nat × Nat) (Q : mmS → Prop) (X : String → mmS → Prop) : Nat → mmS → Nat → Nat → Int32 → Prop
  | 0 => fun _ _ _ _ => False
  | n + 1 => bk_X4_putInOrder_2 z Q X (lp_X4_putInOrder_2 z Q X n)
def wp_X4_putInOrder (z : Nat × Nat) (S : mmS) (p0 : Nat) (p1 : Nat) (Q : mmS → Prop) (X : String → mmS → Prop) : Prop := ∀ v1 : Int32, v1 = (0 : Int32) → ∃ n : Nat, lp_X4_putInOrder_2 z Q X n S p0 p1 v1
set_option maxHeartbeats 4000000 in
set_option maxRecDepth 100000 in
theorem bw_X4_putInOrder_40 {p : Program} {l : Launch} {e : Env} {s : State} {m : MethodId} {args : Array Value} {below : List Frame} {meth : Method} {c : Code} {g : mG} {Q : mmS → Prop} {X : String → mmS → Prop} (hl0 : l.stackTraces = false) (hC : CallFix p m c cX4_putInOrder 3 s args (wA_ yX4_putInOrder cX4_putInOrder 3 none) RX4) (hrt : meth.sig.returnType = none) (hlk : meth.locks = false) (hmn : meth.name = yX4_putInOrder.name) (hnx : ∀ x ∈ c.exceptionTable.toList, False) (hs : mX g s) (hX0 : ∀ (E : String) (S : mmS), ¬ X E S) : ∀ (S : mmS) (x0 : Nat) (x1 : Nat) (x2 : Int32), bk_X4_putInOrder_40 g.2.2.2.2.2 Q X S x0 x1 x2 → ∀ (H : Heap) (locs : List Loc), mH g S s H locs → ∀ ls : Array Slot, lv_has ls 3 [(0, .ref x0), (1, .ref x1), (2, .int x2)] → W p l e rm_X4_putInOrder s m args below meth c H locs 0 0 (vx_MQ below (va_Qv Q (wO g) (mB g)) (vx_X (fun _ : mmS => True) (fun E S1 t => X E S1 ∧ wO g S1 t) (mB g)) args s rm_X4_putInOrder.cells rm_X4_putInOrder.slots (mB g)) (F0 m 40 ls []) := by
  intro S x0 x1 x2 hw H locs hH ls hl
  unfold bk_X4_putInOrder_40 at hw
  refine lv_aload_n hC.1 hC.2.1 dX4_putInOrder_40 rfl (lv_at hl 0 rfl) ?_
  obtain ⟨k1, hw⟩ := hw
  obtain ⟨b2, r3, hw⟩ := hw
  refine m_getR hC hs hH cs4 fs4_4 (fun _ h => List.mem_cons_of_mem _ (inlX4 _ h)) (List.mem_cons_of_mem _ q_21) (fun _ h => h) k1 r3 dX4_putInOrder_41 ?_
  refine lv_iload_n hC.1 hC.2.1 dX4_putInOrder_44 rfl (lv_at hl 2 rfl) ?_
  refine lv_aload_n hC.1 hC.2.1 dX4_putInOrder_45 rfl (lv_at hl 1 rfl) ?_
  obtain ⟨k5, hw⟩ := hw
  refine m_callVv (y := yJx4a65c_add_7a177) (rest := []) hC hs hH hl.1 (cwV 2 hC.2.2.2.2 (gA_V q_314 q_315 q_316 q_16 q_317) rfl rfl rfl (by decide +kernel) ⟨Nat.le_of_ble_eq_true rfl, Nat.le_of_ble_eq_true rfl⟩) cs6 k5 (met_Jx4a65c_add_7a177 l hl0 g _ _ _ _ _ _ hX0 hw) rfl rfl (Nat.le_of_ble_eq_true rfl) dX4_putInOrder_46 ⟨Nat.le_of_ble_eq_true rfl, Nat.le_of_ble_eq_true rfl⟩ (fun E S1 _ _ _ _ hx => (hX0 E S1 hx).elim) (fun S1 H locs hw hH => ?_)
  refine W.widen (k := 1) (n := 128) (Nat.le_of_ble_eq_true rfl) (Nat.le_of_ble_eq_true rfl) ?_
  exact m_retv hC hH hrt hlk (Nat.le_of_ble_eq_true rfl) (Nat.le_of_ble_eq_true rfl) dX4_putInOrder_49 hw
set_option maxHeartbeats 4000000 in
set_option maxRecDepth 100000 in
theorem bw_X4_putInOrder_2 {p : Program} {l : Launch} {e : Env} {s : State} {m : MethodId} {args : Array Value} {below : List Frame} {meth : Method} {c : Code} {g : mG} {Q : mmS → Prop} {X : String → mmS → Prop} (hl0 : l.stackTraces = false) (hC : CallFix p m c cX4_putInOrder 3 s args (wA_ yX4_putInOrder cX4_putInOrder 3 none) RX4) (hrt : meth.sig.returnType = none) (hlk : meth.locks = false) (hmn : meth.name = yX4_putInOrder.name) (hnx : ∀ x ∈ c.exceptionTable.toList, False) (hs : mX g s) (hX0 : ∀ (E : String) (S : mmS), ¬ X E S) {K2 : mmS → Nat → Nat → Int32 → Prop} (hk2 : ∀ (S : mmS) (x0 : Nat) (x1 : Nat) (x2 : Int32), K2 S x0 x1 x2 → ∀ (H : Heap) (locs : List Loc), mH g S s H locs → ∀ ls : Array Slot, lv_has ls 3 [(0, .ref x0), (1, .ref x1), (2, .int x2)] → W p l e rm_X4_putInOrder s m args below meth c H locs 0 0 (vx_MQ below (va_Qv Q (wO g) (mB g)) (vx_X (fun _ : mmS => True) (fun E S1 t => X E S1 ∧ wO g S1 t) (mB g)) args s rm_X4_putInOrder.cells rm_X4_putInOrder.slots (mB g)) (F0 m 2 ls [])) : ∀ (S : mmS) (x0 : Nat) (x1 : Nat) (x2 : Int32), bk_X4_putInOrder_2 g.2.2.2.2.2 Q X K2 S x0 x1 x2 → ∀ (H : Heap) (locs : List Loc), mH g S s H locs → ∀ ls : Array Slot, lv_has ls 3 [(0, .ref x0), (1, .ref x1), (2, .int x2)] → W p l e rm_X4_putInOrder s m args below meth c H locs 0 0 (vx_MQ below (va_Qv Q (wO g) (mB g)) (vx_X (fun _ : mmS => True) (fun E S1 t => X E S1 ∧ wO g S1 t) (mB g)) args s rm_X4_putInOrder.cells rm_X4_putInOrder.slots (mB g)) (F0 m 2 ls []) := by
  intro S x0 x1 x2 hw H locs hH ls hl
  unfold bk_X4_putInOrder_2 at hw
  refine lv_iload_n hC.1 hC.2.1 dX4_putInOrder_2 rfl (lv_at hl 2 rfl) ?_
  refine lv_aload_n hC.1 hC.2.1 dX4_putInOrder_3 rfl (lv_at hl 0 rfl) ?_
  obtain ⟨k1, hw⟩ := hw
  obtain ⟨b2, r3, hw⟩ := hw
  refine m_getR hC hs hH cs4 fs4_4 (fun _ h => List.mem_cons_of_mem _ (inlX4 _ h)) (List.mem_cons_of_mem _ q_21) (fun _ h => h) k1 r3 dX4_putInOrder_4 ?_
  obtain ⟨k5, hw⟩ := hw
  refine m_callVi (y := yJx4a65c_size_8abf5) (rest := [.int _]) hC hs hH hl.1 (cwV 0 hC.2.2.2.2 (gA_V q_68 q_69 q_70 q_16 q_71) rfl rfl rfl (by decide +kernel) ⟨Nat.le_of_ble_eq_true rfl, Nat.le_of_ble_eq_true rfl⟩) cs6 k5 (met_Jx4a65c_size_8abf5 l hl0 g _ _ _ _ hX0 hw) rfl rfl (Nat.le_of_ble_eq_true rfl) dX4_putInOrder_7 ⟨Nat.le_of_ble_eq_true rfl, Nat.le_of_ble_eq_true rfl⟩ (fun E S1 _ _ _ _ hx => (hX0 E S1 hx).elim) (fun r6 S1 H locs hw hH => ?_)
  refine W.widen (k := 0) (n := 0) (Nat.le_of_ble_eq_true rfl) (Nat.le_of_ble_eq_true rfl) ?_
  refine lv_icmp_ge (tgt := 40) hC.1 hC.2.1 dX4_putInOrder_10 (by decide) (fun hc => ?_) (fun hc => ?_)
  · have hw := hw.1 hc
    exact bw_X4_putInOrder_40 hl0 hC hrt hlk hmn hnx hs hX0 _ _ _ _ hw _ _ hH _ (lv_sub hl [0, 1, 2] rfl)
  · have hw := hw.2 hc
    refine lv_aload_n hC.1 hC.2.1 dX4_putInOrder_13 rfl (lv_at hl 0 rfl) ?_
    obtain ⟨k7, hw⟩ := hw
    obtain ⟨b8, r9, hw⟩ := hw
    refine m_getR hC hs hH cs4 fs4_4 (fun _ h => List.mem_cons_of_mem _ (inlX4 _ h)) (List.mem_cons_of_mem _ q_21) (fun _ h => h) k7 r9 dX4_putInOrder_14 ?_
    refine lv_iload_n hC.1 hC.2.1 dX4_putInOrder_17 rfl (lv_at hl 2 rfl) ?_
    obtain ⟨k11, hw⟩ := hw
    refine m_callVq (y := yJx4a65c_get_915e3) (rest := []) hC hs hH hl.1 (cwV 1 hC.2.2.2.2 (gA_V q_147 q_148 q_149 q_16 q_150) rfl rfl rfl (by decide +kernel) ⟨Nat.le_of_ble_eq_true rfl, Nat.le_of_ble_eq_true rfl⟩) cs6 k11 (met_Jx4a65c_get_915e3 l hl0 g _ _ _ _ _ hX0 hw) rfl rfl (Nat.le_of_ble_eq_true rfl) dX4_putInOrder_18 ⟨Nat.le_of_ble_eq_true rfl, Nat.le_of_ble_eq_true rfl⟩ (fun E S1 _ _ _ _ hx => (hX0 E S1 hx).elim) (fun r12 S1 H locs hw hH => ?_)
    refine W.widen (k := 0) (n := 0) (Nat.le_of_ble_eq_true rfl) (Nat.le_of_ble_eq_true rfl) ?_
    obtain ⟨k13, hw⟩ := hw
    refine m_cast hC hs hH cs1 (List.mem_cons_of_mem _ q_172) k13 dX4_putInOrder_21 ?_
    refine m_getI hC hs hH cs1 fs1_2 (fun _ h => List.mem_cons_of_mem _ (inlX1 _ h)) (List.mem_cons_of_mem _ q_231) (fun _ h => h) k13 dX4_putInOrder_24 ?_
    refine lv_aload_n hC.1 hC.2.1 dX4_putInOrder_27 rfl (lv_at hl 1 rfl) ?_
    obtain ⟨k14, hw⟩ := hw
    refine m_getI hC hs hH cs1 fs1_2 (fun _ h => List.mem_cons_of_mem _ (inlX1 _ h)) (List.mem_cons_of_mem _ q_231) (fun _ h => h) k14 dX4_putInOrder_28 ?_
    refine lv_icmp_gt (tgt := 40) hC.1 hC.2.1 dX4_putInOrder_31 (by decide) (fun hc => ?_) (fun hc => ?_)
    · have hw := hw.1 hc
      exact bw_X4_putInOrder_40 hl0 hC hrt hlk hmn hnx hs hX0 _ _ _ _ hw _ _ hH _ (lv_sub hl [0, 1, 2] rfl)
    · have hw := hw.2 hc
      have hw := hw _ rfl
      refine lv_iinc (lv' := [(2, .int _), (0, .ref _), (1, .ref _)]) hC.1 hC.2.1 dX4_putInOrder_34 hl (k := 2) rfl (rfl : (_ : Int32) + Int32.ofInt 1 = (_ : Int32) + 1) (by decide) rfl (fun ls hl => ?_)
      refine lv_goto (tgt := 2) hC.1 hC.2.1 dX4_putInOrder_37 (by decide) ?_
      exact hk2 _ _ _ _ hw _ _ hH _ (lv_sub hl [1, 2, 0] rfl)
theorem lw_X4_putInOrder_2 {p : Program} {l : Launch} {e : Env} {s : State} {m : MethodId} {args : Array Value} {below : List Frame} {meth : Method} {c : Code} {g : mG} {Q : mmS → Prop} {X : String → mmS → Prop} (hl0 : l.stackTraces = false) (hC : CallFix p m c cX4_putInOrder 3 s args (wA_ yX4_putInOrder cX4_putInOrder 3 none) RX4) (hrt : meth.sig.returnType = none) (hlk : meth.locks = false) (hmn : meth.name = yX4_putInOrder.name) (hnx : ∀ x ∈ c.exceptionTable.toList, False) (hs : mX g s) (hX0 : ∀ (E : String) (S : mmS), ¬ X E S) : ∀ (n : Nat) (S : mmS) (x0 : Nat) (x1 : Nat) (x2 : Int32), lp_X4_putInOrder_2 g.2.2.2.2.2 Q X n S x0 x1 x2 → ∀ (H : Heap) (locs : List Loc), mH g S s H locs → ∀ ls : Array Slot, lv_has ls 3 [(0, .ref x0), (1, .ref x1), (2, .int x2)] → W p l e rm_X4_putInOrder s m args below meth c H locs 0 0 (vx_MQ below (va_Qv Q (wO g) (mB g)) (vx_X (fun _ : mmS => True) (fun E S1 t => X E S1 ∧ wO g S1 t) (mB g)) args s rm_X4_putInOrder.cells rm_X4_putInOrder.slots (mB g)) (F0 m 2 ls []) := by
  intro n
  induction n with
  | zero => intro S x0 x1 x2 hw; exact False.elim hw
  | succ n ih => exact fun S x0 x1 x2 hw => bw_X4_putInOrder_2 hl0 hC hrt hlk hmn hnx hs hX0 (K2 := lp_X4_putInOrder_2 g.2.2.2.2.2 Q X n) ih S x0 x1 x2 hw
set_option maxHeartbeats 4000000 in
set_option maxRecDepth 100000 in
theorem met_X4_putInOrder (l : Launch) (hl0 : l.stackTraces = false) (g : mG) (S : mmS) (p0 : Nat) (p1 : Nat) (Q : mmS → Prop) (X : String → mmS → Prop) (hX0 : ∀ (E : String) (S : mmS), ¬ X E S) (hw : wp_X4_putInOrder g.2.2.2.2.2 S p0 p1 Q X) : mMv l g yX4_putInOrder (wA_ yX4_putInOrder cX4_putInOrder 3 none) rm_X4_putInOrder [.ref p0, .ref p1] S Q X := by
  refine m_of (y := yX4_putInOrder) (cc := cX4_putInOrder) (maxL := 3) (ret := none) (by decide) rfl (Nat.le_of_ble_eq_true rfl) ?_
  intro p e s m args below meth c ls hC hrt hlk hmn hnx hs hH hl
  have hC : CallFix p m c cX4_putInOrder 3 s args (wA_ yX4_putInOrder cX4_putInOrder 3 none) RX4 := hC
  have hl : lv_has ls 3 [(0, .ref p0), (1, .ref p1)] := hl
  unfold wp_X4_putInOrder at hw
  refine lv_iconst (v := 0) hC.1 hC.2.1 dX4_putInOrder_0 (by decide) ?_
  have hw := hw _ rfl
  refine lv_istore_n (lv' := [(2, .int _), (0, .ref _), (1, .ref _)]) hC.1 hC.2.1 dX4_putInOrder_1 rfl hl (by decide) rfl (fun ls hl => ?_)
  obtain ⟨n, hw⟩ := hw
  exact lw_X4_putInOrder_2 hl0 hC hrt hlk hmn hnx hs hX0 n _ _ _ _ hw _ _ hH _ (lv_sub hl [1, 2, 0] rfl)
abbrev rm_X4_addCall : Room := { frames := 7, cells := 3, slots := 265, locals := 173 }
def wp_X4_addCall (z : Nat × Nat) (S : mmS) (p0 : Nat) (p1 : Int32) (p2 : Int32) (p3 : Int32) (p4 : Int32) (Q : Int32 → mmS → Prop) (X : String → mmS → Prop) : Prop := (p0 ∈ mL S ∧ mK S p0 = 4) ∧ wp_X4_findLine z S p0 p1 (fun r3 S1 => wp_X4_isWithin z S1 p2 (0 : Int32) (43199 : Int32) (fun r5 S4 => (¬ r5 = 0 → wp_X4_isWithin z S4 p3 (1 : Int32) (7200 : Int32) (fun r7 S6 => (¬ r7 = 0 → wp_X4_isWithin z S6 p4 (0 : Int32) (2 : Int32) (fun r9 S8 => (¬ r9 = 0 → (p0 ∈ mL S8 ∧ mK S8 p0 = 4) ∧ ∃ b11 : Nat, mR S8 11 p0 = some b11 ∧ (b11 ∈ mL S8 ∧ mK S8 b11 = 6) ∧ wp_Jx4a65c_size_8abf5 z S8 b11 (fun r15 S13 => (r15 < (60 : Int32) → ∀ q16 : Nat, q16 ∉ mL S13 → ∀ S18 : mmS, S18 = sNo S13 q16 1 → wp_X1_init z S18 q16 r15 r3 p2 p3 p4 (fun S19 => (p0 ∈ mL S19 ∧ mK S19 p0 = 4) ∧ ∃ b21 : Nat, mR S19 11 p0 = some b21 ∧ (b21 ∈ mL S19 ∧ mK S19 b21 = 6) ∧ wp_Jx4a65c_add_9ea2d z S19 b21 q16 (fun r25 S23 => (p0 ∈ mL S23 ∧ mK S23 p0 = 4) ∧ wp_X4_putInOrder z S23 p0 q16 (fun S26 => (p0 ∈ mL S26 ∧ mK S26 p0 = 4) ∧ wp_X4_rateAll z S26 p0 (fun S28 => Q r15 S28) X) X) X) X) ∧ (¬ r15 < (60 : Int32) → X "java/lang/IllegalStateException" S13)) X) ∧ (r9 = 0 → X "java/lang/IllegalArgumentException" S8)) X) ∧ (r7 = 0 → X "java/lang/IllegalArgumentException" S6)) X) ∧ (r5 = 0 → X "java/lang/IllegalArgumentException" S4)) X) X
set_option maxHeartbeats 4000000 in
set_option maxRecDepth 100000 in
theorem met_X4_addCall (l : Launch) (hl0 : l.stackTraces = false) (g : mG) (S : mmS) (p0 : Nat) (p1 : Int32) (p2 : Int32) (p3 : Int32) (p4 : Int32) (Q : Int32 → mmS → Prop) (X : String → mmS → Prop) (hX0 : ∀ (E : String) (S : mmS), ¬ X E S) (hw : wp_X4_addCall g.2.2.2.2.2 S p0 p1 p2 p3 p4 Q X) : mMi l g yX4_addCall (wA_ yX4_addCall cX4_addCall 8 (some .int)) rm_X4_addCall [.ref p0, .int p1, .int p2, .int p3, .int p4] S Q X := by
  refine m_of (y := yX4_addCall) (cc := cX4_addCall) (maxL := 8) (ret := (some .int)) (by decide) rfl (Nat.le_of_ble_eq_true rfl) ?_
  intro p e s m args below meth c ls hC hrt hlk hmn hnx hs hH hl
  have hC : CallFix p m c cX4_addCall 8 s args (wA_ yX4_addCall cX4_addCall 8 (some .int)) RX4 := hC
  have hl : lv_has ls 8 [(0, .ref p0), (1, .int p1), (2, .int p2), (3, .int p3), (4, .int p4)] := hl
  unfold wp_X4_addCall at hw
  refine lv_aload_n hC.1 hC.2.1 dX4_addCall_0 rfl (lv_at hl 0 rfl) ?_
  refine lv_iload_n hC.1 hC.2.1 dX4_addCall_1 rfl (lv_at hl 1 rfl) ?_
  obtain ⟨k2, hw⟩ := hw
  refine m_callVq (y := yX4_findLine) (rest := []) hC hs hH hl.1 (cwV 1 hC.2.2.2.2 (gA_V q_298 q_299 q_300 q_2 q_301) rfl rfl rfl (by decide +kernel) ⟨Nat.le_of_ble_eq_true rfl, Nat.le_of_ble_eq_true rfl⟩) cs4 k2 (met_X4_findLine l hl0 g _ _ _ _ _ hX0 hw) rfl rfl (Nat.le_of_ble_eq_true rfl) dX4_addCall_2 ⟨Nat.le_of_ble_eq_true rfl, Nat.le_of_ble_eq_true rfl⟩ (fun E S1 _ _ _ _ hx => (hX0 E S1 hx).elim) (fun r3 S1 H locs hw hH => ?_)
  refine W.widen (k := 0) (n := 0) (Nat.le_of_ble_eq_true rfl) (Nat.le_of_ble_eq_true rfl) ?_
  refine lv_astore (lv' := [(5, .ref _), (0, .ref _), (1, .int _), (2, .int _), (3, .int _), (4, .int _)]) hC.1 hC.2.1 dX4_addCall_5 hl (by decide) rfl (fun ls hl => ?_)
  refine lv_iload_n hC.1 hC.2.1 dX4_addCall_7 rfl (lv_at hl 3 rfl) ?_
  refine lv_iconst (v := 0) hC.1 hC.2.1 dX4_addCall_8 (by decide) ?_
  refine lv_ldc hC.1 hC.2.1 hC.2.2.2.1 (hC.2.2.2.2 _ (List.mem_cons_of_mem _ q_295)) dX4_addCall_9 ?_
  refine m_callSi (y := yX4_isWithin) (rest := []) hC hs hH hl.1 (va_cwS 3 hC.2.2.2.2 (gA_S q_65 q_66 q_2 q_67) rfl rfl rfl (by decide +kernel) ⟨Nat.le_of_ble_eq_true rfl, Nat.le_of_ble_eq_true rfl⟩) (met_X4_isWithin l hl0 g _ _ _ _ _ _ hX0 hw) rfl rfl (Nat.le_of_ble_eq_true rfl) dX4_addCall_11 ⟨Nat.le_of_ble_eq_true rfl, Nat.le_of_ble_eq_true rfl⟩ (fun E S1 _ _ _ _ hx => (hX0 E S1 hx).elim) (fun r5 S1 H locs hw hH => ?_)
  refine W.widen (k := 0) (n := 0) (Nat.le_of_ble_eq_true rfl) (Nat.le_of_ble_eq_true rfl) ?_
  refine lv_if_ne (tgt := 27) hC.1 hC.2.1 dX4_addCall_14 (by decide) (fun hc => ?_) (fun hc => ?_)
  · have hw := hw.1 hc
    refine lv_iload_n hC.1 hC.2.1 dX4_addCall_27 rfl (lv_at hl 4 rfl) ?_
    refine lv_iconst (v := 1) hC.1 hC.2.1 dX4_addCall_28 (by decide) ?_
    refine lv_sipush (v := 7200) hC.1 hC.2.1 dX4_addCall_29 (by decide) ?_
    refine m_callSi (y := yX4_isWithin) (rest := []) hC hs hH hl.1 (va_cwS 3 hC.2.2.2.2 (gA_S q_65 q_66 q_2 q_67) rfl rfl rfl (by decide +kernel) ⟨Nat.le_of_ble_eq_true rfl, Nat.le_of_ble_eq_true rfl⟩) (met_X4_isWithin l hl0 g _ _ _ _ _ _ hX0 hw) rfl rfl (Nat.le_of_ble_eq_true rfl) dX4_addCall_32 ⟨Nat.le_of_ble_eq_true rfl, Nat.le_of_ble_eq_true rfl⟩ (fun E S1 _ _ _ _ hx => (hX0 E S1 hx).elim) (fun r7 S1 H locs hw hH => ?_)
    refine W.widen (k := 0) (n := 0) (Nat.le_of_ble_eq_true rfl) (Nat.le_of_ble_eq_true rfl) ?_
    refine lv_if_ne (tgt := 48) hC.1 hC.2.1 dX4_addCall_35 (by decide) (fun hc => ?_) (fun hc => ?_)
    · have hw := hw.1 hc
      refine lv_iload hC.1 hC.2.1 dX4_addCall_48 (lv_at hl 5 rfl) ?_
      refine lv_iconst (v := 0) hC.1 hC.2.1 dX4_addCall_50 (by decide) ?_
      refine lv_iconst (v := 2) hC.1 hC.2.1 dX4_addCall_51 (by decide) ?_
      refine m_callSi (y := yX4_isWithin) (rest := []) hC hs hH hl.1 (va_cwS 3 hC.2.2.2.2 (gA_S q_65 q_66 q_2 q_67) rfl rfl rfl (by decide +kernel) ⟨Nat.le_of_ble_eq_true rfl, Nat.le_of_ble_eq_true rfl⟩) (met_X4_isWithin l hl0 g _ _ _ _ _ _ hX0 hw) rfl rfl (Nat.le_of_ble_eq_true rfl) dX4_addCall_52 ⟨Nat.le_of_ble_eq_true rfl, Nat.le_of_ble_eq_true rfl⟩ (fun E S1 _ _ _ _ hx => (hX0 E S1 hx).elim) (fun r9 S1 H locs hw hH => ?_)
      refine W.widen (k := 0) (n := 0) (Nat.le_of_ble_eq_true rfl) (Nat.le_of_ble_eq_true rfl) ?_
      refine lv_if_ne (tgt := 68) hC.1 hC.2.1 dX4_addCall_55 (by decide) (fun hc => ?_) (fun hc => ?_)
      · have hw := hw.1 hc
        refine lv_aload_n hC.1 hC.2.1 dX4_addCall_68 rfl (lv_at hl 1 rfl) ?_
        obtain ⟨k10, hw⟩ := hw
        obtain ⟨b11, r12, hw⟩ := hw
        refine m_getR hC hs hH cs4 fs4_3 (fun _ h => List.mem_cons_of_mem _ (inlX4 _ h)) (List.mem_cons_of_mem _ q_20) (fun _ h => h) k10 r12 dX4_addCall_69 ?_
        obtain ⟨k14, hw⟩ := hw
        refine m_callVi (y := yJx4a65c_size_8abf5) (rest := []) hC hs hH hl.1 (cwV 0 hC.2.2.2.2 (gA_V q_68 q_69 q_70 q_16 q_71) rfl rfl rfl (by decide +kernel) ⟨Nat.le_of_ble_eq_true rfl, Nat.le_of_ble_eq_true rfl⟩) cs6 k14 (met_Jx4a65c_size_8abf5 l hl0 g _ _ _ _ hX0 hw) rfl rfl (Nat.le_of_ble_eq_true rfl) dX4_addCall_72 ⟨Nat.le_of_ble_eq_true rfl, Nat.le_of_ble_eq_true rfl⟩ (fun E S1 _ _ _ _ hx => (hX0 E S1 hx).elim) (fun r15 S1 H locs hw hH => ?_)
        refine W.widen (k := 0) (n := 0) (Nat.le_of_ble_eq_true rfl) (Nat.le_of_ble_eq_true rfl) ?_
        refine lv_istore (lv' := [(6, .int _), (5, .ref _), (0, .ref _), (1, .int _), (2, .int _), (3, .int _), (4, .int _)]) hC.1 hC.2.1 dX4_addCall_75 hl (by decide) rfl (fun ls hl => ?_)
        refine lv_iload hC.1 hC.2.1 dX4_addCall_77 (lv_at hl 0 rfl) ?_
        refine lv_bipush (v := 60) hC.1 hC.2.1 dX4_addCall_79 (by decide) ?_
        refine lv_icmp_lt (tgt := 94) hC.1 hC.2.1 dX4_addCall_81 (by decide) (fun hc => ?_) (fun hc => ?_)
        · have hw := hw.1 hc
          refine m_newO hC hs hH cs1 (fun _ h => List.mem_cons_of_mem _ (inlX1 _ h)) (List.mem_cons_of_mem _ q_172) (List.mem_cons_of_mem _ q_297) (List.mem_cons_of_mem _ q_194) df1 (Nat.le_of_ble_eq_true rfl) (Nat.le_of_ble_eq_true rfl) dX4_addCall_94 (fun q16 H f17 hH => ?_)
          have hw := hw q16 f17 _ rfl
          refine W.widen (k := 1) (n := 9) (Nat.le_of_ble_eq_true rfl) (Nat.le_of_ble_eq_true rfl) ?_
          refine lv_dup hC.1 hC.2.1 dX4_addCall_97 rfl ?_
          refine lv_iload hC.1 hC.2.1 dX4_addCall_98 (lv_at hl 0 rfl) ?_
          refine lv_aload hC.1 hC.2.1 dX4_addCall_100 (lv_at hl 1 rfl) ?_
          refine lv_iload_n hC.1 hC.2.1 dX4_addCall_102 rfl (lv_at hl 4 rfl) ?_
          refine lv_iload_n hC.1 hC.2.1 dX4_addCall_103 rfl (lv_at hl 5 rfl) ?_
          refine lv_iload hC.1 hC.2.1 dX4_addCall_104 (lv_at hl 6 rfl) ?_
          refine m_callIv (y := yX1_init) (rest := [.ref _]) hC hs hH hl.1 (cwI 5 hC.2.2.2.2 (gA0 q_304) rfl rfl rfl (hC.2.2.2.2 _ (List.mem_cons_of_mem _ q_194)) (hC.2.2.2.2 _ (List.mem_cons_of_mem _ q_302)) (hC.2.2.2.2 _ (List.mem_cons_of_mem _ q_303)) rfl (by decide +kernel) ⟨Nat.le_of_ble_eq_true rfl, Nat.le_of_ble_eq_true rfl⟩) (met_X1_init l hl0 g _ _ _ _ _ _ _ _ _ hX0 hw) rfl rfl (Nat.le_of_ble_eq_true rfl) dX4_addCall_106 ⟨Nat.le_of_ble_eq_true rfl, Nat.le_of_ble_eq_true rfl⟩ (fun E S1 _ _ _ _ hx => (hX0 E S1 hx).elim) (fun S1 H locs hw hH => ?_)
          refine W.widen (k := 1) (n := 9) (Nat.le_of_ble_eq_true rfl) (Nat.le_of_ble_eq_true rfl) ?_
          refine lv_astore (lv' := [(7, .ref _), (6, .int _), (5, .ref _), (0, .ref _), (1, .int _), (2, .int _), (3, .int _), (4, .int _)]) hC.1 hC.2.1 dX4_addCall_109 hl (by decide) rfl (fun ls hl => ?_)
          refine lv_aload_n hC.1 hC.2.1 dX4_addCall_111 rfl (lv_at hl 3 rfl) ?_
          obtain ⟨k20, hw⟩ := hw
          obtain ⟨b21, r22, hw⟩ := hw
          refine m_getR hC hs hH cs4 fs4_3 (fun _ h => List.mem_cons_of_mem _ (inlX4 _ h)) (List.mem_cons_of_mem _ q_20) (fun _ h => h) k20 r22 dX4_addCall_112 ?_
          refine lv_aload hC.1 hC.2.1 dX4_addCall_115 (lv_at hl 0 rfl) ?_
          obtain ⟨k24, hw⟩ := hw
          refine m_callVi (y := yJx4a65c_add_9ea2d) (rest := []) hC hs hH hl.1 (cwV 1 hC.2.2.2.2 (gA_V q_85 q_86 q_87 q_16 q_88) rfl rfl rfl (by decide +kernel) ⟨Nat.le_of_ble_eq_true rfl, Nat.le_of_ble_eq_true rfl⟩) cs6 k24 (met_Jx4a65c_add_9ea2d l hl0 g _ _ _ _ _ hX0 hw) rfl rfl (Nat.le_of_ble_eq_true rfl) dX4_addCall_117 ⟨Nat.le_of_ble_eq_true rfl, Nat.le_of_ble_eq_true rfl⟩ (fun E S1 _ _ _ _ hx => (hX0 E S1 hx).elim) (fun r25 S1 H locs hw hH => ?_)
          refine W.widen (k := 2) (n := 137) (Nat.le_of_ble_eq_true rfl) (Nat.le_of_ble_eq_true rfl) ?_
          refine lv_pop hC.1 hC.2.1 dX4_addCall_120 rfl ?_
          refine lv_aload_n hC.1 hC.2.1 dX4_addCall_121 rfl (lv_at hl 3 rfl) ?_
          refine lv_aload hC.1 hC.2.1 dX4_addCall_122 (lv_at hl 0 rfl) ?_
          obtain ⟨k27, hw⟩ := hw
          refine m_callVv (y := yX4_putInOrder) (rest := []) hC hs hH hl.1 (cwV 1 hC.2.2.2.2 (gA_V q_310 q_311 q_312 q_2 q_313) rfl rfl rfl (by decide +kernel) ⟨Nat.le_of_ble_eq_true rfl, Nat.le_of_ble_eq_true rfl⟩) cs4 k27 (met_X4_putInOrder l hl0 g _ _ _ _ _ hX0 hw) rfl rfl (Nat.le_of_ble_eq_true rfl) dX4_addCall_124 ⟨Nat.le_of_ble_eq_true rfl, Nat.le_of_ble_eq_true rfl⟩ (fun E S1 _ _ _ _ hx => (hX0 E S1 hx).elim) (fun S1 H locs hw hH => ?_)
          refine W.widen (k := 3) (n := 265) (Nat.le_of_ble_eq_true rfl) (Nat.le_of_ble_eq_true rfl) ?_
          refine lv_aload_n hC.1 hC.2.1 dX4_addCall_127 rfl (lv_at hl 3 rfl) ?_
          obtain ⟨k29, hw⟩ := hw
          refine m_callVv (y := yX4_rateAll) (rest := []) hC hs hH hl.1 (cwV 0 hC.2.2.2.2 (gA_V q_166 q_167 q_168 q_2 q_169) rfl rfl rfl (by decide +kernel) ⟨Nat.le_of_ble_eq_true rfl, Nat.le_of_ble_eq_true rfl⟩) cs4 k29 (met_X4_rateAll l hl0 g _ _ _ _ hX0 hw) rfl rfl (Nat.le_of_ble_eq_true rfl) dX4_addCall_128 ⟨Nat.le_of_ble_eq_true rfl, Nat.le_of_ble_eq_true rfl⟩ (fun E S1 _ _ _ _ hx => (hX0 E S1 hx).elim) (fun S1 H locs hw hH => ?_)
          refine W.widen (k := 3) (n := 265) (Nat.le_of_ble_eq_true rfl) (Nat.le_of_ble_eq_true rfl) ?_
          refine lv_iload hC.1 hC.2.1 dX4_addCall_131 (lv_at hl 1 rfl) ?_
          exact m_reti hC hH hrt rfl hlk (Nat.le_of_ble_eq_true rfl) (Nat.le_of_ble_eq_true rfl) dX4_addCall_133 hw
        · have hw := hw.2 hc
          exact (hX0 _ _ hw).elim
      · have hw := hw.2 hc
        exact (hX0 _ _ hw).elim
    · have hw := hw.2 hc
      exact (hX0 _ _ hw).elim
  · have hw := hw.2 hc
    exact (hX0 _ _ hw).elim
abbrev rm_X4_callCount : Room := { frames := 2, cells := 0, slots := 0, locals := 20 }
def wp_X4_callCount (z : Nat × Nat) (S : mmS) (p0 : Nat) (Q : Int32 → mmS → Prop) (X : String → mmS → Prop) : Prop := (p0 ∈ mL S ∧ mK S p0 = 4) ∧ ∃ b2 : Nat, mR S 11 p0 = some b2 ∧ (b2 ∈ mL S ∧ mK S b2 = 6) ∧ wp_Jx4a65c_size_8abf5 z S b2 (fun r6 S4 => Q r6 S4) X
set_option maxHeartbeats 4000000 in
set_option maxRecDepth 100000 in
theorem met_X4_callCount (l : Launch) (hl0 : l.stackTraces = false) (g : mG) (S : mmS) (p0 : Nat) (Q : Int32 → mmS → Prop) (X : String → mmS → Prop) (hX0 : ∀ (E : String) (S : mmS), ¬ X E S) (hw : wp_X4_callCount g.2.2.2.2.2 S p0 Q X) : mMi l g yX4_callCount (wA_ yX4_callCount cX4_callCount 1 (some .int)) rm_X4_callCount [.ref p0] S Q X := by
  refine m_of (y := yX4_callCount) (cc := cX4_callCount) (maxL := 1) (ret := (some .int)) (by decide) rfl (Nat.le_of_ble_eq_true rfl) ?_
  intro p e s m args below meth c ls hC hrt hlk hmn hnx hs hH hl
  have hC : CallFix p m c cX4_callCount 1 s args (wA_ yX4_callCount cX4_callCount 1 (some .int)) RX4 := hC
  have hl : lv_has ls 1 [(0, .ref p0)] := hl
  unfold wp_X4_callCount at hw
  refine lv_aload_n hC.1 hC.2.1 dX4_callCount_0 rfl (lv_at hl 0 rfl) ?_
  obtain ⟨k1, hw⟩ := hw
  obtain ⟨b2, r3, hw⟩ := hw
  refine m_getR hC hs hH cs4 fs4_3 (fun _ h => List.mem_cons_of_mem _ (inlX4 _ h)) (List.mem_cons_of_mem _ q_20) (fun _ h => h) k1 r3 dX4_callCount_1 ?_
  obtain ⟨k5, hw⟩ := hw
  refine m_callVi (y := yJx4a65c_size_8abf5) (rest := []) hC hs hH hl.1 (cwV 0 hC.2.2.2.2 (gA_V q_68 q_69 q_70 q_16 q_71) rfl rfl rfl (by decide +kernel) ⟨Nat.le_of_ble_eq_true rfl, Nat.le_of_ble_eq_true rfl⟩) cs6 k5 (met_Jx4a65c_size_8abf5 l hl0 g _ _ _ _ hX0 hw) rfl rfl (Nat.le_of_ble_eq_true rfl) dX4_callCount_4 ⟨Nat.le_of_ble_eq_true rfl, Nat.le_of_ble_eq_true rfl⟩ (fun E S1 _ _ _ _ hx => (hX0 E S1 hx).elim) (fun r6 S1 H locs hw hH => ?_)
  refine W.widen (k := 0) (n := 0) (Nat.le_of_ble_eq_true rfl) (Nat.le_of_ble_eq_true rfl) ?_
  exact m_reti hC hH hrt rfl hlk (Nat.le_of_ble_eq_true rfl) (Nat.le_of_ble_eq_true rfl) dX4_callCount_7 hw
abbrev rm_X4_callAt : Room := { frames := 4, cells := 0, slots := 0, locals := 64 }
def wp_X4_callAt (z : Nat × Nat) (S : mmS) (p0 : Nat) (p1 : Int32) (Q : Int32 → mmS → Prop) (X : String → mmS → Prop) : Prop := (p1 < 0 → X "java/lang/IndexOutOfBoundsException" S) ∧ (¬ p1 < 0 → (p0 ∈ mL S ∧ mK S p0 = 4) ∧ ∃ b2 : Nat, mR S 12 p0 = some b2 ∧ (b2 ∈ mL S ∧ mK S b2 = 6) ∧ wp_Jx4a65c_size_8abf5 z S b2 (fun r6 S4 => (p1 < r6 → (p0 ∈ mL S4 ∧ mK S4 p0 = 4) ∧ ∃ b8 : Nat, mR S4 12 p0 = some b8 ∧ (b8 ∈ mL S4 ∧ mK S4 b8 = 6) ∧ wp_Jx4a65c_get_915e3 z S4 b8 p1 (fun r12 S10 => (r12 ∈ mL S10 ∧ mK S10 r12 = 1) ∧ Q (mI S10 6 r12) S10) X) ∧ (¬ p1 < r6 → X "java/lang/IndexOutOfBoundsException" S4)) X)
set_option maxHeartbeats 4000000 in
set_option maxRecDepth 100000 in
theorem met_X4_callAt (l : Launch) (hl0 : l.stackTraces = false) (g : mG) (S : mmS) (p0 : Nat) (p1 : Int32) (Q : Int32 → mmS → Prop) (X : String → mmS → Prop) (hX0 : ∀ (E : String) (S : mmS), ¬ X E S) (hw : wp_X4_callAt g.2.2.2.2.2 S p0 p1 Q X) : mMi l g yX4_callAt (wA_ yX4_callAt cX4_callAt 2 (some .int)) rm_X4_callAt [.ref p0, .int p1] S Q X := by
  refine m_of (y := yX4_callAt) (cc := cX4_callAt) (maxL := 2) (ret := (some .int)) (by decide) rfl (Nat.le_of_ble_eq_true rfl) ?_
  intro p e s m args below meth c ls hC hrt hlk hmn hnx hs hH hl
  have hC : CallFix p m c cX4_callAt 2 s args (wA_ yX4_callAt cX4_callAt 2 (some .int)) RX4 := hC
  have hl : lv_has ls 2 [(0, .ref p0), (1, .int p1)] := hl
  unfold wp_X4_callAt at hw
  refine lv_iload_n hC.1 hC.2.1 dX4_callAt_0 rfl (lv_at hl 1 rfl) ?_
  refine lv_if_lt (tgt := 15) hC.1 hC.2.1 dX4_callAt_1 (by decide) (fun hc => ?_) (fun hc => ?_)
  · have hw := hw.1 hc
    exact (hX0 _ _ hw).elim
  · have hw := hw.2 hc
    refine lv_iload_n hC.1 hC.2.1 dX4_callAt_4 rfl (lv_at hl 1 rfl) ?_
    refine lv_aload_n hC.1 hC.2.1 dX4_callAt_5 rfl (lv_at hl 0 rfl) ?_
    obtain ⟨k1, hw⟩ := hw
    obtain ⟨b2, r3, hw⟩ := hw
    refine m_getR hC hs hH cs4 fs4_4 (fun _ h => List.mem_cons_of_mem _ (inlX4 _ h)) (List.mem_cons_of_mem _ q_21) (fun _ h => h) k1 r3 dX4_callAt_6 ?_
    obtain ⟨k5, hw⟩ := hw
    refine m_callVi (y := yJx4a65c_size_8abf5) (rest := [.int _]) hC hs hH hl.1 (cwV 0 hC.2.2.2.2 (gA_V q_68 q_69 q_70 q_16 q_71) rfl rfl rfl (by decide +kernel) ⟨Nat.le_of_ble_eq_true rfl, Nat.le_of_ble_eq_true rfl⟩) cs6 k5 (met_Jx4a65c_size_8abf5 l hl0 g _ _ _ _ hX0 hw) rfl rfl (Nat.le_of_ble_eq_true rfl) dX4_callAt_9 ⟨Nat.le_of_ble_eq_true rfl, Nat.le_of_ble_eq_true rfl⟩ (fun E S1 _ _ _ _ hx => (hX0 E S1 hx).elim) (fun r6 S1 H locs hw hH => ?_)
    refine W.widen (k := 0) (n := 0) (Nat.le_of_ble_eq_true rfl) (Nat.le_of_ble_eq_true rfl) ?_
    refine lv_icmp_lt (tgt := 25) hC.1 hC.2.1 dX4_callAt_12 (by decide) (fun hc => ?_) (fun hc => ?_)
    · have hw := hw.1 hc
      refine lv_aload_n hC.1 hC.2.1 dX4_callAt_25 rfl (lv_at hl 0 rfl) ?_
      obtain ⟨k7, hw⟩ := hw
      obtain ⟨b8, r9, hw⟩ := hw
      refine m_getR hC hs hH cs4 fs4_4 (fun _ h => List.mem_cons_of_mem _ (inlX4 _ h)) (List.mem_cons_of_mem _ q_21) (fun _ h => h) k7 r9 dX4_callAt_26 ?_
      refine lv_iload_n hC.1 hC.2.1 dX4_callAt_29 rfl (lv_at hl 1 rfl) ?_
      obtain ⟨k11, hw⟩ := hw
      refine m_callVq (y := yJx4a65c_get_915e3) (rest := []) hC hs hH hl.1 (cwV 1 hC.2.2.2.2 (gA_V q_147 q_148 q_149 q_16 q_150) rfl rfl rfl (by decide +kernel) ⟨Nat.le_of_ble_eq_true rfl, Nat.le_of_ble_eq_true rfl⟩) cs6 k11 (met_Jx4a65c_get_915e3 l hl0 g _ _ _ _ _ hX0 hw) rfl rfl (Nat.le_of_ble_eq_true rfl) dX4_callAt_30 ⟨Nat.le_of_ble_eq_true rfl, Nat.le_of_ble_eq_true rfl⟩ (fun E S1 _ _ _ _ hx => (hX0 E S1 hx).elim) (fun r12 S1 H locs hw hH => ?_)
      refine W.widen (k := 0) (n := 0) (Nat.le_of_ble_eq_true rfl) (Nat.le_of_ble_eq_true rfl) ?_
      obtain ⟨k13, hw⟩ := hw
      refine m_cast hC hs hH cs1 (List.mem_cons_of_mem _ q_172) k13 dX4_callAt_33 ?_
      refine m_getI hC hs hH cs1 fs1_0 (fun _ h => List.mem_cons_of_mem _ (inlX1 _ h)) (List.mem_cons_of_mem _ q_343) (fun _ h => h) k13 dX4_callAt_36 ?_
      exact m_reti hC hH hrt rfl hlk (Nat.le_of_ble_eq_true rfl) (Nat.le_of_ble_eq_true rfl) dX4_callAt_39 hw
    · have hw := hw.2 hc
      exact (hX0 _ _ hw).elim
abbrev rm_X4_findCall : Room := { frames := 4, cells := 0, slots := 0, locals := 64 }
def wp_X4_findCall (z : Nat × Nat) (S : mmS) (p0 : Nat) (p1 : Int32) (Q : Nat → mmS → Prop) (X : String → mmS → Prop) : Prop := (p1 < 0 → X "java/lang/IndexOutOfBoundsException" S) ∧ (¬ p1 < 0 → (p0 ∈ mL S ∧ mK S p0 = 4) ∧ ∃ b2 : Nat, mR S 11 p0 = some b2 ∧ (b2 ∈ mL S ∧ mK S b2 = 6) ∧ wp_Jx4a65c_size_8abf5 z S b2 (fun r6 S4 => (p1 < r6 → (p0 ∈ mL S4 ∧ mK S4 p0 = 4) ∧ ∃ b8 : Nat, mR S4 11 p0 = some b8 ∧ (b8 ∈ mL S4 ∧ mK S4 b8 = 6) ∧ wp_Jx4a65c_get_915e3 z S4 b8 p1 (fun r12 S10 => (r12 ∈ mL S10 ∧ mK S10 r12 = 1) ∧ Q r12 S10) X) ∧ (¬ p1 < r6 → X "java/lang/IndexOutOfBoundsException" S4)) X)
set_option maxHeartbeats 4000000 in
set_option maxRecDepth 100000 in
theorem met_X4_findCall (l : Launch) (hl0 : l.stackTraces = false) (g : mG) (S : mmS) (p0 : Nat) (p1 : Int32) (Q : Nat → mmS → Prop) (X : String → mmS → Prop) (hX0 : ∀ (E : String) (S : mmS), ¬ X E S) (hw : wp_X4_findCall g.2.2.2.2.2 S p0 p1 Q X) : mMq l g yX4_findCall (wA_ yX4_findCall cX4_findCall 2 (some (.object "PhoneRater$Call"))) rm_X4_findCall [.ref p0, .int p1] S Q X := by
  refine m_of (y := yX4_findCall) (cc := cX4_findCall) (maxL := 2) (ret := (some (.object "PhoneRater$Call"))) (by decide) rfl (Nat.le_of_ble_eq_true rfl) ?_
  intro p e s m args below meth c ls hC hrt hlk hmn hnx hs hH hl
  have hC : CallFix p m c cX4_findCall 2 s args (wA_ yX4_findCall cX4_findCall 2 (some (.object "PhoneRater$Call"))) RX4 := hC
  have hl : lv_has ls 2 [(0, .ref p0), (1, .int p1)] := hl
  unfold wp_X4_findCall at hw
  refine lv_iload_n hC.1 hC.2.1 dX4_findCall_0 rfl (lv_at hl 1 rfl) ?_
  refine lv_if_lt (tgt := 15) hC.1 hC.2.1 dX4_findCall_1 (by decide) (fun hc => ?_) (fun hc => ?_)
  · have hw := hw.1 hc
    exact (hX0 _ _ hw).elim
  · have hw := hw.2 hc
    refine lv_iload_n hC.1 hC.2.1 dX4_findCall_4 rfl (lv_at hl 1 rfl) ?_
    refine lv_aload_n hC.1 hC.2.1 dX4_findCall_5 rfl (lv_at hl 0 rfl) ?_
    obtain ⟨k1, hw⟩ := hw
    obtain ⟨b2, r3, hw⟩ := hw
    refine m_getR hC hs hH cs4 fs4_3 (fun _ h => List.mem_cons_of_mem _ (inlX4 _ h)) (List.mem_cons_of_mem _ q_20) (fun _ h => h) k1 r3 dX4_findCall_6 ?_
    obtain ⟨k5, hw⟩ := hw
    refine m_callVi (y := yJx4a65c_size_8abf5) (rest := [.int _]) hC hs hH hl.1 (cwV 0 hC.2.2.2.2 (gA_V q_68 q_69 q_70 q_16 q_71) rfl rfl rfl (by decide +kernel) ⟨Nat.le_of_ble_eq_true rfl, Nat.le_of_ble_eq_true rfl⟩) cs6 k5 (met_Jx4a65c_size_8abf5 l hl0 g _ _ _ _ hX0 hw) rfl rfl (Nat.le_of_ble_eq_true rfl) dX4_findCall_9 ⟨Nat.le_of_ble_eq_true rfl, Nat.le_of_ble_eq_true rfl⟩ (fun E S1 _ _ _ _ hx => (hX0 E S1 hx).elim) (fun r6 S1 H locs hw hH => ?_)
    refine W.widen (k := 0) (n := 0) (Nat.le_of_ble_eq_true rfl) (Nat.le_of_ble_eq_true rfl) ?_
    refine lv_icmp_lt (tgt := 26) hC.1 hC.2.1 dX4_findCall_12 (by decide) (fun hc => ?_) (fun hc => ?_)
    · have hw := hw.1 hc
      refine lv_aload_n hC.1 hC.2.1 dX4_findCall_26 rfl (lv_at hl 0 rfl) ?_
      obtain ⟨k7, hw⟩ := hw
      obtain ⟨b8, r9, hw⟩ := hw
      refine m_getR hC hs hH cs4 fs4_3 (fun _ h => List.mem_cons_of_mem _ (inlX4 _ h)) (List.mem_cons_of_mem _ q_20) (fun _ h => h) k7 r9 dX4_findCall_27 ?_
      refine lv_iload_n hC.1 hC.2.1 dX4_findCall_30 rfl (lv_at hl 1 rfl) ?_
      obtain ⟨k11, hw⟩ := hw
      refine m_callVq (y := yJx4a65c_get_915e3) (rest := []) hC hs hH hl.1 (cwV 1 hC.2.2.2.2 (gA_V q_147 q_148 q_149 q_16 q_150) rfl rfl rfl (by decide +kernel) ⟨Nat.le_of_ble_eq_true rfl, Nat.le_of_ble_eq_true rfl⟩) cs6 k11 (met_Jx4a65c_get_915e3 l hl0 g _ _ _ _ _ hX0 hw) rfl rfl (Nat.le_of_ble_eq_true rfl) dX4_findCall_31 ⟨Nat.le_of_ble_eq_true rfl, Nat.le_of_ble_eq_true rfl⟩ (fun E S1 _ _ _ _ hx => (hX0 E S1 hx).elim) (fun r12 S1 H locs hw hH => ?_)
      refine W.widen (k := 0) (n := 0) (Nat.le_of_ble_eq_true rfl) (Nat.le_of_ble_eq_true rfl) ?_
      obtain ⟨k13, hw⟩ := hw
      refine m_cast hC hs hH cs1 (List.mem_cons_of_mem _ q_172) k13 dX4_findCall_34 ?_
      exact m_retq hC hH hrt (Or.inl ⟨_, rfl⟩) hlk (Nat.le_of_ble_eq_true rfl) (Nat.le_of_ble_eq_true rfl) dX4_findCall_37 hw
    · have hw := hw.2 hc
      exact (hX0 _ _ hw).elim
abbrev rm_X4_told : Room := { frames := 5, cells := 0, slots := 0, locals := 85 }
def wp_X4_told (z : Nat × Nat) (S : mmS) (p0 : Nat) (p1 : Int32) (p2 : Int32) (Q : Int32 → mmS → Prop) (X : String → mmS → Prop) : Prop := (p0 ∈ mL S ∧ mK S p0 = 4) ∧ wp_X4_findCall z S p0 p1 (fun r3 S1 => wp_X4_isWithin z S1 p2 (0 : Int32) (4 : Int32) (fun r5 S4 => (¬ r5 = 0 → (r3 ∈ mL S4 ∧ mK S4 r3 = 1) ∧ wp_X1_tell z S4 r3 p2 (fun r8 S6 => Q r8 S6) X) ∧ (r5 = 0 → X "java/lang/IndexOutOfBoundsException" S4)) X) X
set_option maxHeartbeats 4000000 in
set_option maxRecDepth 100000 in
theorem met_X4_told (l : Launch) (hl0 : l.stackTraces = false) (g : mG) (S : mmS) (p0 : Nat) (p1 : Int32) (p2 : Int32) (Q : Int32 → mmS → Prop) (X : String → mmS → Prop) (hX0 : ∀ (E : String) (S : mmS), ¬ X E S) (hw : wp_X4_told g.2.2.2.2.2 S p0 p1 p2 Q X) : mMi l g yX4_told (wA_ yX4_told cX4_told 4 (some .int)) rm_X4_told [.ref p0, .int p1, .int p2] S Q X := by
  refine m_of (y := yX4_told) (cc := cX4_told) (maxL := 4) (ret := (some .int)) (by decide) rfl (Nat.le_of_ble_eq_true rfl) ?_
  intro p e s m args below meth c ls hC hrt hlk hmn hnx hs hH hl
  have hC : CallFix p m c cX4_told 4 s args (wA_ yX4_told cX4_told 4 (some .int)) RX4 := hC
  have hl : lv_has ls 4 [(0, .ref p0), (1, .int p1), (2, .int p2)] := hl
  unfold wp_X4_told at hw
  refine lv_aload_n hC.1 hC.2.1 dX4_told_0 rfl (lv_at hl 0 rfl) ?_
  refine lv_iload_n hC.1 hC.2.1 dX4_told_1 rfl (lv_at hl 1 rfl) ?_
  obtain ⟨k2, hw⟩ := hw
  refine m_callVq (y := yX4_findCall) (rest := []) hC hs hH hl.1 (cwV 1 hC.2.2.2.2 (gA_V q_331 q_332 q_333 q_2 q_334) rfl rfl rfl (by decide +kernel) ⟨Nat.le_of_ble_eq_true rfl, Nat.le_of_ble_eq_true rfl⟩) cs4 k2 (met_X4_findCall l hl0 g _ _ _ _ _ hX0 hw) rfl rfl (Nat.le_of_ble_eq_true rfl) dX4_told_2 ⟨Nat.le_of_ble_eq_true rfl, Nat.le_of_ble_eq_true rfl⟩ (fun E S1 _ _ _ _ hx => (hX0 E S1 hx).elim) (fun r3 S1 H locs hw hH => ?_)
  refine W.widen (k := 0) (n := 0) (Nat.le_of_ble_eq_true rfl) (Nat.le_of_ble_eq_true rfl) ?_
  refine lv_astore_n (lv' := [(3, .ref _), (0, .ref _), (1, .int _), (2, .int _)]) hC.1 hC.2.1 dX4_told_5 rfl hl (by decide) rfl (fun ls hl => ?_)
  refine lv_iload_n hC.1 hC.2.1 dX4_told_6 rfl (lv_at hl 3 rfl) ?_
  refine lv_iconst (v := 0) hC.1 hC.2.1 dX4_told_7 (by decide) ?_
  refine lv_iconst (v := 4) hC.1 hC.2.1 dX4_told_8 (by decide) ?_
  refine m_callSi (y := yX4_isWithin) (rest := []) hC hs hH hl.1 (va_cwS 3 hC.2.2.2.2 (gA_S q_65 q_66 q_2 q_67) rfl rfl rfl (by decide +kernel) ⟨Nat.le_of_ble_eq_true rfl, Nat.le_of_ble_eq_true rfl⟩) (met_X4_isWithin l hl0 g _ _ _ _ _ _ hX0 hw) rfl rfl (Nat.le_of_ble_eq_true rfl) dX4_told_9 ⟨Nat.le_of_ble_eq_true rfl, Nat.le_of_ble_eq_true rfl⟩ (fun E S1 _ _ _ _ hx => (hX0 E S1 hx).elim) (fun r5 S1 H locs hw hH => ?_)
  refine W.widen (k := 0) (n := 0) (Nat.le_of_ble_eq_true rfl) (Nat.le_of_ble_eq_true rfl) ?_
  refine lv_if_ne (tgt := 25) hC.1 hC.2.1 dX4_told_12 (by decide) (fun hc => ?_) (fun hc => ?_)
  · have hw := hw.1 hc
    refine lv_aload_n hC.1 hC.2.1 dX4_told_25 rfl (lv_at hl 0 rfl) ?_
    refine lv_iload_n hC.1 hC.2.1 dX4_told_26 rfl (lv_at hl 3 rfl) ?_
    obtain ⟨k7, hw⟩ := hw
    refine m_callVi (y := yX1_tell) (rest := []) hC hs hH hl.1 (cwV 1 hC.2.2.2.2 (gA_V q_335 q_336 q_337 q_194 q_338) rfl rfl rfl (by decide +kernel) ⟨Nat.le_of_ble_eq_true rfl, Nat.le_of_ble_eq_true rfl⟩) cs1 k7 (met_X1_tell l hl0 g _ _ _ _ _ hX0 hw) rfl rfl (Nat.le_of_ble_eq_true rfl) dX4_told_27 ⟨Nat.le_of_ble_eq_true rfl, Nat.le_of_ble_eq_true rfl⟩ (fun E S1 _ _ _ _ hx => (hX0 E S1 hx).elim) (fun r8 S1 H locs hw hH => ?_)
    refine W.widen (k := 0) (n := 0) (Nat.le_of_ble_eq_true rfl) (Nat.le_of_ble_eq_true rfl) ?_
    exact m_reti hC hH hrt rfl hlk (Nat.le_of_ble_eq_true rfl) (Nat.le_of_ble_eq_true rfl) dX4_told_30 hw
  · have hw := hw.2 hc
    exact (hX0 _ _ hw).elim
abbrev rm_X4_dearest : Room := { frames := 4, cells := 0, slots := 0, locals := 64 }
def bk_X4_dearest_51 (z : Nat × Nat) (Q : Int32 → mmS → Prop) (X : String → mmS → Prop) (K6 : mmS → Nat → Int32 → Int32 → Int32 → Prop) (S : mmS) (x0 : Nat) (x1 : Int32) (x2 : Int32) (x3 : Int32) : Prop := ∀ v1 : Int32, v1 = x3 + 1 → K6 S x0 x1 x2 v1
def bk_X4_dearest_6 (z : Nat × Nat) (Q : Int32 → mmS → Prop) (X : String → mmS → Prop) (K6 : mmS → Nat → Int32 → Int32 → Int32 → Prop) (S : mmS) (x0 : Nat) (x1 : Int32) (x2 : Int32) (x3 : Int32) : Prop := (x0 ∈ mL S ∧ mK S x0 = 4) ∧ ∃ b2 : Nat, mR S 12 x0 = some b2 ∧ (b2 ∈ mL S ∧ mK S b2 = 6) ∧ wp_Jx4a65c_size_8abf5 z S b2 (fun r6 S4 => (r6 ≤ x3 → Q x1 S4) ∧ (¬ r6 ≤ x3 → (x0 ∈ mL S4 ∧ mK S4 x0 = 4) ∧ ∃ b8 : Nat, mR S4 12 x0 = some b8 ∧ (b8 ∈ mL S4 ∧ mK S4 b8 = 6) ∧ wp_Jx4a65c_get_915e3 z S4 b8 x3 (fun r12 S10 => (r12 ∈ mL S10 ∧ mK S10 r12 = 1) ∧ ((mI S10 12 r12) ≤ x2 → bk_X4_dearest_51 z Q X K6 S10 x0 x1 x2 x3) ∧ (¬ (mI S10 12 r12) ≤ x2 → ∀ v14 : Int32, v14 = (mI S10 12 r12) → ∀ v15 : Int32, v15 = (mI S10 6 r12) → bk_X4_dearest_51 z Q X K6 S10 x0 v15 v14 x3)) X)) X
def lp_X4_dearest_6 (z : Nat × Nat) (Q : Int32 → mmS → Prop) (X : String → mmS → Prop) : Nat → mmS → Nat → Int32 → Int32 → Int32 → Prop
  | 0 => fun _ _ _ _ _ => False
  | n + 1 => bk_X4_dearest_6 z Q X (lp_X4_dearest_6 z Q X n)
def wp_X4_dearest (z : Nat × Nat) (S : mmS) (p0 : Nat) (Q : Int32 → mmS → Prop) (X : String → mmS → Prop) : Prop := ∀ v1 : Int32, v1 = (-1 : Int32) → ∀ v2 : Int32, v2 = (-1 : Int32) → ∀ v3 : Int32, v3 = (0 : Int32) → ∃ n : Nat, lp_X4_dearest_6 z Q X n S p0 v1 v2 v3
set_option maxHeartbeats 4000000 in
set_option maxRecDepth 100000 in
theorem bw_X4_dearest_51 {p : Program} {l : Launch} {e : Env} {s : State} {m : MethodId} {args : Array Value} {below : List Frame} {meth : Method} {c : Code} {g : mG} {Q : Int32 → mmS → Prop} {X : String → mmS → Prop} (hl0 : l.stackTraces = false) (hC : CallFix p m c cX4_dearest 5 s args (wA_ yX4_dearest cX4_dearest 5 (some .int)) RX4) (hrt : meth.sig.returnType = (some .int)) (hlk : meth.locks = false) (hmn : meth.name = yX4_dearest.name) (hnx : ∀ x ∈ c.exceptionTable.toList, False) (hs : mX g s) (hX0 : ∀ (E : String) (S : mmS), ¬ X E S) {K6 : mmS → Nat → Int32 → Int32 → Int32 → Prop} (hk6 : ∀ (S : mmS) (x0 : Nat) (x1 : Int32) (x2 : Int32) (x3 : Int32), K6 S x0 x1 x2 x3 → ∀ (H : Heap) (locs : List Loc), mH g S s H locs → ∀ ls : Array Slot, lv_has ls 5 [(0, .ref x0), (1, .int x1), (2, .int x2), (3, .int x3)] → W p l e rm_X4_dearest s m args below meth c H locs 0 0 (vx_MQ below (va_Qi Q (wO g) (mB g)) (vx_X (fun _ : mmS => True) (fun E S1 t => X E S1 ∧ wO g S1 t) (mB g)) args s rm_X4_dearest.cells rm_X4_dearest.slots (mB g)) (F0 m 6 ls [])) : ∀ (S : mmS) (x0 : Nat) (x1 : Int32) (x2 : Int32) (x3 : Int32), bk_X4_dearest_51 g.2.2.2.2.2 Q X K6 S x0 x1 x2 x3 → ∀ (H : Heap) (locs : List Loc), mH g S s H locs → ∀ ls : Array Slot, lv_has ls 5 [(0, .ref x0), (1, .int x1), (2, .int x2), (3, .int x3)] → W p l e rm_X4_dearest s m args below meth c H locs 0 0 (vx_MQ below (va_Qi Q (wO g) (mB g)) (vx_X (fun _ : mmS => True) (fun E S1 t => X E S1 ∧ wO g S1 t) (mB g)) args s rm_X4_dearest.cells rm_X4_dearest.slots (mB g)) (F0 m 51 ls []) := by
  intro S x0 x1 x2 x3 hw H locs hH ls hl
  unfold bk_X4_dearest_51 at hw
  have hw := hw _ rfl
  refine lv_iinc (lv' := [(3, .int _), (0, .ref _), (1, .int _), (2, .int _)]) hC.1 hC.2.1 dX4_dearest_51 hl (k := 3) rfl (rfl : (_ : Int32) + Int32.ofInt 1 = (_ : Int32) + 1) (by decide) rfl (fun ls hl => ?_)
  refine lv_goto (tgt := 6) hC.1 hC.2.1 dX4_dearest_54 (by decide) ?_
  exact hk6 _ _ _ _ _ hw _ _ hH _ (lv_sub hl [1, 2, 3, 0] rfl)
set_option maxHeartbeats 4000000 in
set_option maxRecDepth 100000 in
theorem bw_X4_dearest_6 {p : Program} {l : Launch} {e : Env} {s : State} {m : MethodId} {args : Array Value} {below : List Frame} {meth : Method} {c : Code} {g : mG} {Q : Int32 → mmS → Prop} {X : String → mmS → Prop} (hl0 : l.stackTraces = false) (hC : CallFix p m c cX4_dearest 5 s args (wA_ yX4_dearest cX4_dearest 5 (some .int)) RX4) (hrt : meth.sig.returnType = (some .int)) (hlk : meth.locks = false) (hmn : meth.name = yX4_dearest.name) (hnx : ∀ x ∈ c.exceptionTable.toList, False) (hs : mX g s) (hX0 : ∀ (E : String) (S : mmS), ¬ X E S) {K6 : mmS → Nat → Int32 → Int32 → Int32 → Prop} (hk6 : ∀ (S : mmS) (x0 : Nat) (x1 : Int32) (x2 : Int32) (x3 : Int32), K6 S x0 x1 x2 x3 → ∀ (H : Heap) (locs : List Loc), mH g S s H locs → ∀ ls : Array Slot, lv_has ls 5 [(0, .ref x0), (1, .int x1), (2, .int x2), (3, .int x3)] → W p l e rm_X4_dearest s m args below meth c H locs 0 0 (vx_MQ below (va_Qi Q (wO g) (mB g)) (vx_X (fun _ : mmS => True) (fun E S1 t => X E S1 ∧ wO g S1 t) (mB g)) args s rm_X4_dearest.cells rm_X4_dearest.slots (mB g)) (F0 m 6 ls [])) : ∀ (S : mmS) (x0 : Nat) (x1 : Int32) (x2 : Int32) (x3 : Int32), bk_X4_dearest_6 g.2.2.2.2.2 Q X K6 S x0 x1 x2 x3 → ∀ (H : Heap) (locs : List Loc), mH g S s H locs → ∀ ls : Array Slot, lv_has ls 5 [(0, .ref x0), (1, .int x1), (2, .int x2), (3, .int x3)] → W p l e rm_X4_dearest s m args below meth c H locs 0 0 (vx_MQ below (va_Qi Q (wO g) (mB g)) (vx_X (fun _ : mmS => True) (fun E S1 t => X E S1 ∧ wO g S1 t) (mB g)) args s rm_X4_dearest.cells rm_X4_dearest.slots (mB g)) (F0 m 6 ls []) := by
  intro S x0 x1 x2 x3 hw H locs hH ls hl
  unfold bk_X4_dearest_6 at hw
  refine lv_iload_n hC.1 hC.2.1 dX4_dearest_6 rfl (lv_at hl 3 rfl) ?_
  refine lv_aload_n hC.1 hC.2.1 dX4_dearest_7 rfl (lv_at hl 0 rfl) ?_
  obtain ⟨k1, hw⟩ := hw
  obtain ⟨b2, r3, hw⟩ := hw
  refine m_getR hC hs hH cs4 fs4_4 (fun _ h => List.mem_cons_of_mem _ (inlX4 _ h)) (List.mem_cons_of_mem _ q_21) (fun _ h => h) k1 r3 dX4_dearest_8 ?_
  obtain ⟨k5, hw⟩ := hw
  refine m_callVi (y := yJx4a65c_size_8abf5) (rest := [.int _]) hC hs hH hl.1 (cwV 0 hC.2.2.2.2 (gA_V q_68 q_69 q_70 q_16 q_71) rfl rfl rfl (by decide +kernel) ⟨Nat.le_of_ble_eq_true rfl, Nat.le_of_ble_eq_true rfl⟩) cs6 k5 (met_Jx4a65c_size_8abf5 l hl0 g _ _ _ _ hX0 hw) rfl rfl (Nat.le_of_ble_eq_true rfl) dX4_dearest_11 ⟨Nat.le_of_ble_eq_true rfl, Nat.le_of_ble_eq_true rfl⟩ (fun E S1 _ _ _ _ hx => (hX0 E S1 hx).elim) (fun r6 S1 H locs hw hH => ?_)
  refine W.widen (k := 0) (n := 0) (Nat.le_of_ble_eq_true rfl) (Nat.le_of_ble_eq_true rfl) ?_
  refine lv_icmp_ge (tgt := 57) hC.1 hC.2.1 dX4_dearest_14 (by decide) (fun hc => ?_) (fun hc => ?_)
  · have hw := hw.1 hc
    refine lv_iload_n hC.1 hC.2.1 dX4_dearest_57 rfl (lv_at hl 1 rfl) ?_
    exact m_reti hC hH hrt rfl hlk (Nat.le_of_ble_eq_true rfl) (Nat.le_of_ble_eq_true rfl) dX4_dearest_58 hw
  · have hw := hw.2 hc
    refine lv_aload_n hC.1 hC.2.1 dX4_dearest_17 rfl (lv_at hl 0 rfl) ?_
    obtain ⟨k7, hw⟩ := hw
    obtain ⟨b8, r9, hw⟩ := hw
    refine m_getR hC hs hH cs4 fs4_4 (fun _ h => List.mem_cons_of_mem _ (inlX4 _ h)) (List.mem_cons_of_mem _ q_21) (fun _ h => h) k7 r9 dX4_dearest_18 ?_
    refine lv_iload_n hC.1 hC.2.1 dX4_dearest_21 rfl (lv_at hl 3 rfl) ?_
    obtain ⟨k11, hw⟩ := hw
    refine m_callVq (y := yJx4a65c_get_915e3) (rest := []) hC hs hH hl.1 (cwV 1 hC.2.2.2.2 (gA_V q_147 q_148 q_149 q_16 q_150) rfl rfl rfl (by decide +kernel) ⟨Nat.le_of_ble_eq_true rfl, Nat.le_of_ble_eq_true rfl⟩) cs6 k11 (met_Jx4a65c_get_915e3 l hl0 g _ _ _ _ _ hX0 hw) rfl rfl (Nat.le_of_ble_eq_true rfl) dX4_dearest_22 ⟨Nat.le_of_ble_eq_true rfl, Nat.le_of_ble_eq_true rfl⟩ (fun E S1 _ _ _ _ hx => (hX0 E S1 hx).elim) (fun r12 S1 H locs hw hH => ?_)
    refine W.widen (k := 0) (n := 0) (Nat.le_of_ble_eq_true rfl) (Nat.le_of_ble_eq_true rfl) ?_
    obtain ⟨k13, hw⟩ := hw
    refine m_cast hC hs hH cs1 (List.mem_cons_of_mem _ q_172) k13 dX4_dearest_25 ?_
    refine lv_astore (lv' := [(4, .ref _), (0, .ref _), (1, .int _), (2, .int _), (3, .int _)]) hC.1 hC.2.1 dX4_dearest_28 hl (by decide) rfl (fun ls hl => ?_)
    refine lv_aload hC.1 hC.2.1 dX4_dearest_30 (lv_at hl 0 rfl) ?_
    refine m_getI hC hs hH cs1 fs1_7 (fun _ h => List.mem_cons_of_mem _ (inlX1 _ h)) (List.mem_cons_of_mem _ q_213) (fun _ h => h) k13 dX4_dearest_32 ?_
    refine lv_iload_n hC.1 hC.2.1 dX4_dearest_35 rfl (lv_at hl 3 rfl) ?_
    refine lv_icmp_le (tgt := 51) hC.1 hC.2.1 dX4_dearest_36 (by decide) (fun hc => ?_) (fun hc => ?_)
    · have hw := hw.1 hc
      exact bw_X4_dearest_51 hl0 hC hrt hlk hmn hnx hs hX0 hk6 _ _ _ _ _ hw _ _ hH _ (lv_sub hl [1, 2, 3, 4] rfl)
    · have hw := hw.2 hc
      refine lv_aload hC.1 hC.2.1 dX4_dearest_39 (lv_at hl 0 rfl) ?_
      refine m_getI hC hs hH cs1 fs1_7 (fun _ h => List.mem_cons_of_mem _ (inlX1 _ h)) (List.mem_cons_of_mem _ q_213) (fun _ h => h) k13 dX4_dearest_41 ?_
      have hw := hw _ rfl
      refine lv_istore_n (lv' := [(2, .int _), (4, .ref _), (0, .ref _), (1, .int _), (3, .int _)]) hC.1 hC.2.1 dX4_dearest_44 rfl hl (by decide) rfl (fun ls hl => ?_)
      refine lv_aload hC.1 hC.2.1 dX4_dearest_45 (lv_at hl 1 rfl) ?_
      refine m_getI hC hs hH cs1 fs1_0 (fun _ h => List.mem_cons_of_mem _ (inlX1 _ h)) (List.mem_cons_of_mem _ q_343) (fun _ h => h) k13 dX4_dearest_47 ?_
      have hw := hw _ rfl
      refine lv_istore_n (lv' := [(1, .int _), (2, .int _), (4, .ref _), (0, .ref _), (3, .int _)]) hC.1 hC.2.1 dX4_dearest_50 rfl hl (by decide) rfl (fun ls hl => ?_)
      exact bw_X4_dearest_51 hl0 hC hrt hlk hmn hnx hs hX0 hk6 _ _ _ _ _ hw _ _ hH _ (lv_sub hl [3, 0, 1, 4] rfl)
theorem lw_X4_dearest_6 {p : Program} {l : Launch} {e : Env} {s : State} {m : MethodId} {args : Array Value} {below : List Frame} {meth : Method} {c : Code} {g : mG} {Q : Int32 → mmS → Prop} {X : String → mmS → Prop} (hl0 : l.stackTraces = false) (hC : CallFix p m c cX4_dearest 5 s args (wA_ yX4_dearest cX4_dearest 5 (some .int)) RX4) (hrt : meth.sig.returnType = (some .int)) (hlk : meth.locks = false) (hmn : meth.name = yX4_dearest.name) (hnx : ∀ x ∈ c.exceptionTable.toList, False) (hs : mX g s) (hX0 : ∀ (E : String) (S : mmS), ¬ X E S) : ∀ (n : Nat) (S : mmS) (x0 : Nat) (x1 : Int32) (x2 : Int32) (x3 : Int32), lp_X4_dearest_6 g.2.2.2.2.2 Q X n S x0 x1 x2 x3 → ∀ (H : Heap) (locs : List Loc), mH g S s H locs → ∀ ls : Array Slot, lv_has ls 5 [(0, .ref x0), (1, .int x1), (2, .int x2), (3, .int x3)] → W p l e rm_X4_dearest s m args below meth c H locs 0 0 (vx_MQ below (va_Qi Q (wO g) (mB g)) (vx_X (fun _ : mmS => True) (fun E S1 t => X E S1 ∧ wO g S1 t) (mB g)) args s rm_X4_dearest.cells rm_X4_dearest.slots (mB g)) (F0 m 6 ls []) := by
  intro n
  induction n with
  | zero => intro S x0 x1 x2 x3 hw; exact False.elim hw
  | succ n ih => exact fun S x0 x1 x2 x3 hw => bw_X4_dearest_6 hl0 hC hrt hlk hmn hnx hs hX0 (K6 := lp_X4_dearest_6 g.2.2.2.2.2 Q X n) ih S x0 x1 x2 x3 hw
set_option maxHeartbeats 4000000 in
set_option maxRecDepth 100000 in
theorem met_X4_dearest (l : Launch) (hl0 : l.stackTraces = false) (g : mG) (S : mmS) (p0 : Nat) (Q : Int32 → mmS → Prop) (X : String → mmS → Prop) (hX0 : ∀ (E : String) (S : mmS), ¬ X E S) (hw : wp_X4_dearest g.2.2.2.2.2 S p0 Q X) : mMi l g yX4_dearest (wA_ yX4_dearest cX4_dearest 5 (some .int)) rm_X4_dearest [.ref p0] S Q X := by
  refine m_of (y := yX4_dearest) (cc := cX4_dearest) (maxL := 5) (ret := (some .int)) (by decide) rfl (Nat.le_of_ble_eq_true rfl) ?_
  intro p e s m args below meth c ls hC hrt hlk hmn hnx hs hH hl
  have hC : CallFix p m c cX4_dearest 5 s args (wA_ yX4_dearest cX4_dearest 5 (some .int)) RX4 := hC
  have hl : lv_has ls 5 [(0, .ref p0)] := hl
  unfold wp_X4_dearest at hw
  refine lv_iconst (v := (-1)) hC.1 hC.2.1 dX4_dearest_0 (by decide) ?_
  have hw := hw _ rfl
  refine lv_istore_n (lv' := [(1, .int _), (0, .ref _)]) hC.1 hC.2.1 dX4_dearest_1 rfl hl (by decide) rfl (fun ls hl => ?_)
  refine lv_iconst (v := (-1)) hC.1 hC.2.1 dX4_dearest_2 (by decide) ?_
  have hw := hw _ rfl
  refine lv_istore_n (lv' := [(2, .int _), (1, .int _), (0, .ref _)]) hC.1 hC.2.1 dX4_dearest_3 rfl hl (by decide) rfl (fun ls hl => ?_)
  refine lv_iconst (v := 0) hC.1 hC.2.1 dX4_dearest_4 (by decide) ?_
  have hw := hw _ rfl
  refine lv_istore_n (lv' := [(3, .int _), (2, .int _), (1, .int _), (0, .ref _)]) hC.1 hC.2.1 dX4_dearest_5 rfl hl (by decide) rfl (fun ls hl => ?_)
  obtain ⟨n, hw⟩ := hw
  exact lw_X4_dearest_6 hl0 hC hrt hlk hmn hnx hs hX0 n _ _ _ _ _ hw _ _ hH _ (lv_sub hl [3, 2, 1, 0] rfl)
abbrev rm_X4_lineSum : Room := { frames := 5, cells := 0, slots := 0, locals := 85 }
def wp_X4_lineSum (z : Nat × Nat) (S : mmS) (p0 : Nat) (p1 : Int32) (Q : Int32 → mmS → Prop) (X : String → mmS → Prop) : Prop := (p0 ∈ mL S ∧ mK S p0 = 4) ∧ wp_X4_findLine z S p0 p1 (fun r3 S1 => (r3 ∈ mL S1 ∧ mK S1 r3 = 2) ∧ Q (mI S1 14 r3) S1) X
set_option maxHeartbeats 4000000 in
set_option maxRecDepth 100000 in
theorem met_X4_lineSum (l : Launch) (hl0 : l.stackTraces = false) (g : mG) (S : mmS) (p0 : Nat) (p1 : Int32) (Q : Int32 → mmS → Prop) (X : String → mmS → Prop) (hX0 : ∀ (E : String) (S : mmS), ¬ X E S) (hw : wp_X4_lineSum g.2.2.2.2.2 S p0 p1 Q X) : mMi l g yX4_lineSum (wA_ yX4_lineSum cX4_lineSum 2 (some .int)) rm_X4_lineSum [.ref p0, .int p1] S Q X := by
  refine m_of (y := yX4_lineSum) (cc := cX4_lineSum) (maxL := 2) (ret := (some .int)) (by decide) rfl (Nat.le_of_ble_eq_true rfl) ?_
  intro p e s m args below meth c ls hC hrt hlk hmn hnx hs hH hl
  have hC : CallFix p m c cX4_lineSum 2 s args (wA_ yX4_lineSum cX4_lineSum 2 (some .int)) RX4 := hC
  have hl : lv_has ls 2 [(0, .ref p0), (1, .int p1)] := hl
  unfold wp_X4_lineSum at hw
  refine lv_aload_n hC.1 hC.2.1 dX4_lineSum_0 rfl (lv_at hl 0 rfl) ?_
  refine lv_iload_n hC.1 hC.2.1 dX4_lineSum_1 rfl (lv_at hl 1 rfl) ?_
  obtain ⟨k2, hw⟩ := hw
  refine m_callVq (y := yX4_findLine) (rest := []) hC hs hH hl.1 (cwV 1 hC.2.2.2.2 (gA_V q_298 q_299 q_300 q_2 q_301) rfl rfl rfl (by decide +kernel) ⟨Nat.le_of_ble_eq_true rfl, Nat.le_of_ble_eq_true rfl⟩) cs4 k2 (met_X4_findLine l hl0 g _ _ _ _ _ hX0 hw) rfl rfl (Nat.le_of_ble_eq_true rfl) dX4_lineSum_2 ⟨Nat.le_of_ble_eq_true rfl, Nat.le_of_ble_eq_true rfl⟩ (fun E S1 _ _ _ _ hx => (hX0 E S1 hx).elim) (fun r3 S1 H locs hw hH => ?_)
  refine W.widen (k := 0) (n := 0) (Nat.le_of_ble_eq_true rfl) (Nat.le_of_ble_eq_true rfl) ?_
  obtain ⟨k4, hw⟩ := hw
  refine m_getI hC hs hH cs2 fs2_2 (fun _ h => List.mem_cons_of_mem _ (inlX2 _ h)) (List.mem_cons_of_mem _ q_214) (fun _ h => h) k4 dX4_lineSum_5 ?_
  exact m_reti hC hH hrt rfl hlk (Nat.le_of_ble_eq_true rfl) (Nat.le_of_ble_eq_true rfl) dX4_lineSum_8 hw
abbrev rm_X4_daySum : Room := { frames := 4, cells := 0, slots := 0, locals := 64 }
def bk_X4_daySum_65 (z : Nat × Nat) (Q : Int32 → mmS → Prop) (X : String → mmS → Prop) (K24 : mmS → Nat → Int32 → Int32 → Int32 → Prop) (S : mmS) (x0 : Nat) (x1 : Int32) (x2 : Int32) (x3 : Int32) : Prop := ∀ v1 : Int32, v1 = x3 + 1 → K24 S x0 x1 x2 v1
def bk_X4_daySum_24 (z : Nat × Nat) (Q : Int32 → mmS → Prop) (X : String → mmS → Prop) (K24 : mmS → Nat → Int32 → Int32 → Int32 → Prop) (S : mmS) (x0 : Nat) (x1 : Int32) (x2 : Int32) (x3 : Int32) : Prop := (x0 ∈ mL S ∧ mK S x0 = 4) ∧ ∃ b2 : Nat, mR S 11 x0 = some b2 ∧ (b2 ∈ mL S ∧ mK S b2 = 6) ∧ wp_Jx4a65c_size_8abf5 z S b2 (fun r6 S4 => (r6 ≤ x3 → Q x2 S4) ∧ (¬ r6 ≤ x3 → (x0 ∈ mL S4 ∧ mK S4 x0 = 4) ∧ ∃ b8 : Nat, mR S4 11 x0 = some b8 ∧ (b8 ∈ mL S4 ∧ mK S4 b8 = 6) ∧ wp_Jx4a65c_get_915e3 z S4 b8 x3 (fun r12 S10 => (r12 ∈ mL S10 ∧ mK S10 r12 = 1) ∧ wp_X1_day z S10 r12 (fun r15 S14 => (¬ r15 = x1 → bk_X4_daySum_65 z Q X K24 S14 x0 x1 x2 x3) ∧ (r15 = x1 → (r12 ∈ mL S14 ∧ mK S14 r12 = 1) ∧ ∀ v17 : Int32, v17 = (x2 + (mI S14 12 r12)) → bk_X4_daySum_65 z Q X K24 S14 x0 x1 v17 x3)) X) X)) X
def lp_X4_daySum_24 (z : Nat × Nat) (Q : Int32 → mmS → Prop) (X : String → mmS → Prop) : Nat → mmS → Nat → Int32 → Int32 → Int32 → Prop
  | 0 => fun _ _ _ _ _ => False
  | n + 1 => bk_X4_daySum_24 z Q X (lp_X4_daySum_24 z Q X n)
def wp_X4_daySum (z : Nat × Nat) (S : mmS) (p0 : Nat) (p1 : Int32) (Q : Int32 → mmS → Prop) (X : String → mmS → Prop) : Prop := (p1 < 0 → X "java/lang/IndexOutOfBoundsException" S) ∧ (¬ p1 < 0 → (p1 < (30 : Int32) → ∀ v1 : Int32, v1 = (0 : Int32) → ∀ v2 : Int32, v2 = (0 : Int32) → ∃ n : Nat, lp_X4_daySum_24 z Q X n S p0 p1 v1 v2) ∧ (¬ p1 < (30 : Int32) → X "java/lang/IndexOutOfBoundsException" S))
set_option maxHeartbeats 4000000 in
set_option maxRecDepth 100000 in
theorem bw_X4_daySum_65 {p : Program} {l : Launch} {e : Env} {s : State} {m : MethodId} {args : Array Value} {below : List Frame} {meth : Method} {c : Code} {g : mG} {Q : Int32 → mmS → Prop} {X : String → mmS → Prop} (hl0 : l.stackTraces = false) (hC : CallFix p m c cX4_daySum 5 s args (wA_ yX4_daySum cX4_daySum 5 (some .int)) RX4) (hrt : meth.sig.returnType = (some .int)) (hlk : meth.locks = false) (hmn : meth.name = yX4_daySum.name) (hnx : ∀ x ∈ c.exceptionTable.toList, False) (hs : mX g s) (hX0 : ∀ (E : String) (S : mmS), ¬ X E S) {K24 : mmS → Nat → Int32 → Int32 → Int32 → Prop} (hk24 : ∀ (S : mmS) (x0 : Nat) (x1 : Int32) (x2 : Int32) (x3 : Int32), K24 S x0 x1 x2 x3 → ∀ (H : Heap) (locs : List Loc), mH g S s H locs → ∀ ls : Array Slot, lv_has ls 5 [(0, .ref x0), (1, .int x1), (2, .int x2), (3, .int x3)] → W p l e rm_X4_daySum s m args below meth c H locs 0 0 (vx_MQ below (va_Qi Q (wO g) (mB g)) (vx_X (fun _ : mmS => True) (fun E S1 t => X E S1 ∧ wO g S1 t) (mB g)) args s rm_X4_daySum.cells rm_X4_daySum.slots (mB g)) (F0 m 24 ls [])) : ∀ (S : mmS) (x0 : Nat) (x1 : Int32) (x2 : Int32) (x3 : Int32), bk_X4_daySum_65 g.2.2.2.2.2 Q X K24 S x0 x1 x2 x3 → ∀ (H : Heap) (locs : List Loc), mH g S s H locs → ∀ ls : Array Slot, lv_has ls 5 [(0, .ref x0), (1, .int x1), (2, .int x2), (3, .int x3)] → W p l e rm_X4_daySum s m args below meth c H locs 0 0 (vx_MQ below (va_Qi Q (wO g) (mB g)) (vx_X (fun _ : mmS => True) (fun E S1 t => X E S1 ∧ wO g S1 t) (mB g)) args s rm_X4_daySum.cells rm_X4_daySum.slots (mB g)) (F0 m 65 ls []) := by
  intro S x0 x1 x2 x3 hw H locs hH ls hl
  unfold bk_X4_daySum_65 at hw
  have hw := hw _ rfl
  refine lv_iinc (lv' := [(3, .int _), (0, .ref _), (1, .int _), (2, .int _)]) hC.1 hC.2.1 dX4_daySum_65 hl (k := 3) rfl (rfl : (_ : Int32) + Int32.ofInt 1 = (_ : Int32) + 1) (by decide) rfl (fun ls hl => ?_)
  refine lv_goto (tgt := 24) hC.1 hC.2.1 dX4_daySum_68 (by decide) ?_
  exact hk24 _ _ _ _ _ hw _ _ hH _ (lv_sub hl [1, 2, 3, 0] rfl)
set_option maxHeartbeats 4000000 in
set_option maxRecDepth 100000 in
theorem bw_X4_daySum_24 {p : Program} {l : Launch} {e : Env} {s : State} {m : MethodId} {args : Array Value} {below : List Frame} {meth : Method} {c : Code} {g : mG} {Q : Int32 → mmS → Prop} {X : String → mmS → Prop} (hl0 : l.stackTraces = false) (hC : CallFix p m c cX4_daySum 5 s args (wA_ yX4_daySum cX4_daySum 5 (some .int)) RX4) (hrt : meth.sig.returnType = (some .int)) (hlk : meth.locks = false) (hmn : meth.name = yX4_daySum.name) (hnx : ∀ x ∈ c.exceptionTable.toList, False) (hs : mX g s) (hX0 : ∀ (E : String) (S : mmS), ¬ X E S) {K24 : mmS → Nat → Int32 → Int32 → Int32 → Prop} (hk24 : ∀ (S : mmS) (x0 : Nat) (x1 : Int32) (x2 : Int32) (x3 : Int32), K24 S x0 x1 x2 x3 → ∀ (H : Heap) (locs : List Loc), mH g S s H locs → ∀ ls : Array Slot, lv_has ls 5 [(0, .ref x0), (1, .int x1), (2, .int x2), (3, .int x3)] → W p l e rm_X4_daySum s m args below meth c H locs 0 0 (vx_MQ below (va_Qi Q (wO g) (mB g)) (vx_X (fun _ : mmS => True) (fun E S1 t => X E S1 ∧ wO g S1 t) (mB g)) args s rm_X4_daySum.cells rm_X4_daySum.slots (mB g)) (F0 m 24 ls [])) : ∀ (S : mmS) (x0 : Nat) (x1 : Int32) (x2 : Int32) (x3 : Int32), bk_X4_daySum_24 g.2.2.2.2.2 Q X K24 S x0 x1 x2 x3 → ∀ (H : Heap) (locs : List Loc), mH g S s H locs → ∀ ls : Array Slot, lv_has ls 5 [(0, .ref x0), (1, .int x1), (2, .int x2), (3, .int x3)] → W p l e rm_X4_daySum s m args below meth c H locs 0 0 (vx_MQ below (va_Qi Q (wO g) (mB g)) (vx_X (fun _ : mmS => True) (fun E S1 t => X E S1 ∧ wO g S1 t) (mB g)) args s rm_X4_daySum.cells rm_X4_daySum.slots (mB g)) (F0 m 24 ls []) := by
  intro S x0 x1 x2 x3 hw H locs hH ls hl
  unfold bk_X4_daySum_24 at hw
  refine lv_iload_n hC.1 hC.2.1 dX4_daySum_24 rfl (lv_at hl 3 rfl) ?_
  refine lv_aload_n hC.1 hC.2.1 dX4_daySum_25 rfl (lv_at hl 0 rfl) ?_
  obtain ⟨k1, hw⟩ := hw
  obtain ⟨b2, r3, hw⟩ := hw
  refine m_getR hC hs hH cs4 fs4_3 (fun _ h => List.mem_cons_of_mem _ (inlX4 _ h)) (List.mem_cons_of_mem _ q_20) (fun _ h => h) k1 r3 dX4_daySum_26 ?_
  obtain ⟨k5, hw⟩ := hw
  refine m_callVi (y := yJx4a65c_size_8abf5) (rest := [.int _]) hC hs hH hl.1 (cwV 0 hC.2.2.2.2 (gA_V q_68 q_69 q_70 q_16 q_71) rfl rfl rfl (by decide +kernel) ⟨Nat.le_of_ble_eq_true rfl, Nat.le_of_ble_eq_true rfl⟩) cs6 k5 (met_Jx4a65c_size_8abf5 l hl0 g _ _ _ _ hX0 hw) rfl rfl (Nat.le_of_ble_eq_true rfl) dX4_daySum_29 ⟨Nat.le_of_ble_eq_true rfl, Nat.le_of_ble_eq_true rfl⟩ (fun E S1 _ _ _ _ hx => (hX0 E S1 hx).elim) (fun r6 S1 H locs hw hH => ?_)
  refine W.widen (k := 0) (n := 0) (Nat.le_of_ble_eq_true rfl) (Nat.le_of_ble_eq_true rfl) ?_
  refine lv_icmp_ge (tgt := 71) hC.1 hC.2.1 dX4_daySum_32 (by decide) (fun hc => ?_) (fun hc => ?_)
  · have hw := hw.1 hc
    refine lv_iload_n hC.1 hC.2.1 dX4_daySum_71 rfl (lv_at hl 2 rfl) ?_
    exact m_reti hC hH hrt rfl hlk (Nat.le_of_ble_eq_true rfl) (Nat.le_of_ble_eq_true rfl) dX4_daySum_72 hw
  · have hw := hw.2 hc
    refine lv_aload_n hC.1 hC.2.1 dX4_daySum_35 rfl (lv_at hl 0 rfl) ?_
    obtain ⟨k7, hw⟩ := hw
    obtain ⟨b8, r9, hw⟩ := hw
    refine m_getR hC hs hH cs4 fs4_3 (fun _ h => List.mem_cons_of_mem _ (inlX4 _ h)) (List.mem_cons_of_mem _ q_20) (fun _ h => h) k7 r9 dX4_daySum_36 ?_
    refine lv_iload_n hC.1 hC.2.1 dX4_daySum_39 rfl (lv_at hl 3 rfl) ?_
    obtain ⟨k11, hw⟩ := hw
    refine m_callVq (y := yJx4a65c_get_915e3) (rest := []) hC hs hH hl.1 (cwV 1 hC.2.2.2.2 (gA_V q_147 q_148 q_149 q_16 q_150) rfl rfl rfl (by decide +kernel) ⟨Nat.le_of_ble_eq_true rfl, Nat.le_of_ble_eq_true rfl⟩) cs6 k11 (met_Jx4a65c_get_915e3 l hl0 g _ _ _ _ _ hX0 hw) rfl rfl (Nat.le_of_ble_eq_true rfl) dX4_daySum_40 ⟨Nat.le_of_ble_eq_true rfl, Nat.le_of_ble_eq_true rfl⟩ (fun E S1 _ _ _ _ hx => (hX0 E S1 hx).elim) (fun r12 S1 H locs hw hH => ?_)
    refine W.widen (k := 0) (n := 0) (Nat.le_of_ble_eq_true rfl) (Nat.le_of_ble_eq_true rfl) ?_
    obtain ⟨k13, hw⟩ := hw
    refine m_cast hC hs hH cs1 (List.mem_cons_of_mem _ q_172) k13 dX4_daySum_43 ?_
    refine lv_astore (lv' := [(4, .ref _), (0, .ref _), (1, .int _), (2, .int _), (3, .int _)]) hC.1 hC.2.1 dX4_daySum_46 hl (by decide) rfl (fun ls hl => ?_)
    refine lv_aload hC.1 hC.2.1 dX4_daySum_48 (lv_at hl 0 rfl) ?_
    refine m_callVi (y := yX1_day) (rest := []) hC hs hH hl.1 (cwV 0 hC.2.2.2.2 (gA_V q_232 q_233 q_234 q_194 q_235) rfl rfl rfl (by decide +kernel) ⟨Nat.le_of_ble_eq_true rfl, Nat.le_of_ble_eq_true rfl⟩) cs1 k13 (met_X1_day l hl0 g _ _ _ _ hX0 hw) rfl rfl (Nat.le_of_ble_eq_true rfl) dX4_daySum_50 ⟨Nat.le_of_ble_eq_true rfl, Nat.le_of_ble_eq_true rfl⟩ (fun E S1 _ _ _ _ hx => (hX0 E S1 hx).elim) (fun r15 S1 H locs hw hH => ?_)
    refine W.widen (k := 0) (n := 0) (Nat.le_of_ble_eq_true rfl) (Nat.le_of_ble_eq_true rfl) ?_
    refine lv_iload_n hC.1 hC.2.1 dX4_daySum_53 rfl (lv_at hl 2 rfl) ?_
    refine lv_icmp_ne (tgt := 65) hC.1 hC.2.1 dX4_daySum_54 (by decide) (fun hc => ?_) (fun hc => ?_)
    · have hw := hw.1 hc
      exact bw_X4_daySum_65 hl0 hC hrt hlk hmn hnx hs hX0 hk24 _ _ _ _ _ hw _ _ hH _ (lv_sub hl [1, 2, 3, 4] rfl)
    · have hw := hw.2 hc
      refine lv_iload_n hC.1 hC.2.1 dX4_daySum_57 rfl (lv_at hl 3 rfl) ?_
      refine lv_aload hC.1 hC.2.1 dX4_daySum_58 (lv_at hl 0 rfl) ?_
      obtain ⟨k16, hw⟩ := hw
      refine m_getI hC hs hH cs1 fs1_7 (fun _ h => List.mem_cons_of_mem _ (inlX1 _ h)) (List.mem_cons_of_mem _ q_213) (fun _ h => h) k16 dX4_daySum_60 ?_
      refine lv_iadd hC.1 hC.2.1 dX4_daySum_63 ?_
      have hw := hw _ rfl
      refine lv_istore_n (lv' := [(2, .int _), (4, .ref _), (0, .ref _), (1, .int _), (3, .int _)]) hC.1 hC.2.1 dX4_daySum_64 rfl hl (by decide) rfl (fun ls hl => ?_)
      exact bw_X4_daySum_65 hl0 hC hrt hlk hmn hnx hs hX0 hk24 _ _ _ _ _ hw _ _ hH _ (lv_sub hl [2, 3, 0, 4] rfl)
theorem lw_X4_daySum_24 {p : Program} {l : Launch} {e : Env} {s : State} {m : MethodId} {args : Array Value} {below : List Frame} {meth : Method} {c : Code} {g : mG} {Q : Int32 → mmS → Prop} {X : String → mmS → Prop} (hl0 : l.stackTraces = false) (hC : CallFix p m c cX4_daySum 5 s args (wA_ yX4_daySum cX4_daySum 5 (some .int)) RX4) (hrt : meth.sig.returnType = (some .int)) (hlk : meth.locks = false) (hmn : meth.name = yX4_daySum.name) (hnx : ∀ x ∈ c.exceptionTable.toList, False) (hs : mX g s) (hX0 : ∀ (E : String) (S : mmS), ¬ X E S) : ∀ (n : Nat) (S : mmS) (x0 : Nat) (x1 : Int32) (x2 : Int32) (x3 : Int32), lp_X4_daySum_24 g.2.2.2.2.2 Q X n S x0 x1 x2 x3 → ∀ (H : Heap) (locs : List Loc), mH g S s H locs → ∀ ls : Array Slot, lv_has ls 5 [(0, .ref x0), (1, .int x1), (2, .int x2), (3, .int x3)] → W p l e rm_X4_daySum s m args below meth c H locs 0 0 (vx_MQ below (va_Qi Q (wO g) (mB g)) (vx_X (fun _ : mmS => True) (fun E S1 t => X E S1 ∧ wO g S1 t) (mB g)) args s rm_X4_daySum.cells rm_X4_daySum.slots (mB g)) (F0 m 24 ls []) := by
  intro n
  induction n with
  | zero => intro S x0 x1 x2 x3 hw; exact False.elim hw
  | succ n ih => exact fun S x0 x1 x2 x3 hw => bw_X4_daySum_24 hl0 hC hrt hlk hmn hnx hs hX0 (K24 := lp_X4_daySum_24 g.2.2.2.2.2 Q X n) ih S x0 x1 x2 x3 hw
set_option maxHeartbeats 4000000 in
set_option maxRecDepth 100000 in
theorem met_X4_daySum (l : Launch) (hl0 : l.stackTraces = false) (g : mG) (S : mmS) (p0 : Nat) (p1 : Int32) (Q : Int32 → mmS → Prop) (X : String → mmS → Prop) (hX0 : ∀ (E : String) (S : mmS), ¬ X E S) (hw : wp_X4_daySum g.2.2.2.2.2 S p0 p1 Q X) : mMi l g yX4_daySum (wA_ yX4_daySum cX4_daySum 5 (some .int)) rm_X4_daySum [.ref p0, .int p1] S Q X := by
  refine m_of (y := yX4_daySum) (cc := cX4_daySum) (maxL := 5) (ret := (some .int)) (by decide) rfl (Nat.le_of_ble_eq_true rfl) ?_
  intro p e s m args below meth c ls hC hrt hlk hmn hnx hs hH hl
  have hC : CallFix p m c cX4_daySum 5 s args (wA_ yX4_daySum cX4_daySum 5 (some .int)) RX4 := hC
  have hl : lv_has ls 5 [(0, .ref p0), (1, .int p1)] := hl
  unfold wp_X4_daySum at hw
  refine lv_iload_n hC.1 hC.2.1 dX4_daySum_0 rfl (lv_at hl 1 rfl) ?_
  refine lv_if_lt (tgt := 10) hC.1 hC.2.1 dX4_daySum_1 (by decide) (fun hc => ?_) (fun hc => ?_)
  · have hw := hw.1 hc
    exact (hX0 _ _ hw).elim
  · have hw := hw.2 hc
    refine lv_iload_n hC.1 hC.2.1 dX4_daySum_4 rfl (lv_at hl 1 rfl) ?_
    refine lv_bipush (v := 30) hC.1 hC.2.1 dX4_daySum_5 (by decide) ?_
    refine lv_icmp_lt (tgt := 20) hC.1 hC.2.1 dX4_daySum_7 (by decide) (fun hc => ?_) (fun hc => ?_)
    · have hw := hw.1 hc
      refine lv_iconst (v := 0) hC.1 hC.2.1 dX4_daySum_20 (by decide) ?_
      have hw := hw _ rfl
      refine lv_istore_n (lv' := [(2, .int _), (0, .ref _), (1, .int _)]) hC.1 hC.2.1 dX4_daySum_21 rfl hl (by decide) rfl (fun ls hl => ?_)
      refine lv_iconst (v := 0) hC.1 hC.2.1 dX4_daySum_22 (by decide) ?_
      have hw := hw _ rfl
      refine lv_istore_n (lv' := [(3, .int _), (2, .int _), (0, .ref _), (1, .int _)]) hC.1 hC.2.1 dX4_daySum_23 rfl hl (by decide) rfl (fun ls hl => ?_)
      obtain ⟨n, hw⟩ := hw
      exact lw_X4_daySum_24 hl0 hC hrt hlk hmn hnx hs hX0 n _ _ _ _ _ hw _ _ hH _ (lv_sub hl [2, 3, 1, 0] rfl)
    · have hw := hw.2 hc
      exact (hX0 _ _ hw).elim
abbrev rm_X4_sum : Room := { frames := 5, cells := 0, slots := 0, locals := 85 }
def wp_X4_sum (z : Nat × Nat) (S : mmS) (p0 : Nat) (p1 : Int32) (Q : Int32 → mmS → Prop) (X : String → mmS → Prop) : Prop := (p0 ∈ mL S ∧ mK S p0 = 4) ∧ wp_X4_findAccount z S p0 p1 (fun r3 S1 => (r3 ∈ mL S1 ∧ mK S1 r3 = 0) ∧ Q (mI S1 5 r3) S1) X
set_option maxHeartbeats 4000000 in
set_option maxRecDepth 100000 in
theorem met_X4_sum (l : Launch) (hl0 : l.stackTraces = false) (g : mG) (S : mmS) (p0 : Nat) (p1 : Int32) (Q : Int32 → mmS → Prop) (X : String → mmS → Prop) (hX0 : ∀ (E : String) (S : mmS), ¬ X E S) (hw : wp_X4_sum g.2.2.2.2.2 S p0 p1 Q X) : mMi l g yX4_sum (wA_ yX4_sum cX4_sum 2 (some .int)) rm_X4_sum [.ref p0, .int p1] S Q X := by
  refine m_of (y := yX4_sum) (cc := cX4_sum) (maxL := 2) (ret := (some .int)) (by decide) rfl (Nat.le_of_ble_eq_true rfl) ?_
  intro p e s m args below meth c ls hC hrt hlk hmn hnx hs hH hl
  have hC : CallFix p m c cX4_sum 2 s args (wA_ yX4_sum cX4_sum 2 (some .int)) RX4 := hC
  have hl : lv_has ls 2 [(0, .ref p0), (1, .int p1)] := hl
  unfold wp_X4_sum at hw
  refine lv_aload_n hC.1 hC.2.1 dX4_sum_0 rfl (lv_at hl 0 rfl) ?_
  refine lv_iload_n hC.1 hC.2.1 dX4_sum_1 rfl (lv_at hl 1 rfl) ?_
  obtain ⟨k2, hw⟩ := hw
  refine m_callVq (y := yX4_findAccount) (rest := []) hC hs hH hl.1 (cwV 1 hC.2.2.2.2 (gA_V q_277 q_278 q_279 q_2 q_280) rfl rfl rfl (by decide +kernel) ⟨Nat.le_of_ble_eq_true rfl, Nat.le_of_ble_eq_true rfl⟩) cs4 k2 (met_X4_findAccount l hl0 g _ _ _ _ _ hX0 hw) rfl rfl (Nat.le_of_ble_eq_true rfl) dX4_sum_2 ⟨Nat.le_of_ble_eq_true rfl, Nat.le_of_ble_eq_true rfl⟩ (fun E S1 _ _ _ _ hx => (hX0 E S1 hx).elim) (fun r3 S1 H locs hw hH => ?_)
  refine W.widen (k := 0) (n := 0) (Nat.le_of_ble_eq_true rfl) (Nat.le_of_ble_eq_true rfl) ?_
  obtain ⟨k4, hw⟩ := hw
  refine m_getI hC hs hH cs0 fs0_5 (fun _ h => List.mem_cons_of_mem _ (inlX0 _ h)) (List.mem_cons_of_mem _ q_215) (fun _ h => h) k4 dX4_sum_5 ?_
  exact m_reti hC hH hrt rfl hlk (Nat.le_of_ble_eq_true rfl) (Nat.le_of_ble_eq_true rfl) dX4_sum_8 hw
abbrev rm_X4_total : Room := { frames := 5, cells := 0, slots := 0, locals := 85 }
def wp_X4_total (z : Nat × Nat) (S : mmS) (p0 : Nat) (p1 : Int32) (Q : Int32 → mmS → Prop) (X : String → mmS → Prop) : Prop := (p0 ∈ mL S ∧ mK S p0 = 4) ∧ wp_X4_findAccount z S p0 p1 (fun r3 S1 => (r3 ∈ mL S1 ∧ mK S1 r3 = 0) ∧ wp_X0_cents z S1 r3 (fun r6 S4 => Q r6 S4) X) X
set_option maxHeartbeats 4000000 in
set_option maxRecDepth 100000 in
theorem met_X4_total (l : Launch) (hl0 : l.stackTraces = false) (g : mG) (S : mmS) (p0 : Nat) (p1 : Int32) (Q : Int32 → mmS → Prop) (X : String → mmS → Prop) (hX0 : ∀ (E : String) (S : mmS), ¬ X E S) (hw : wp_X4_total g.2.2.2.2.2 S p0 p1 Q X) : mMi l g yX4_total (wA_ yX4_total cX4_total 2 (some .int)) rm_X4_total [.ref p0, .int p1] S Q X := by
  refine m_of (y := yX4_total) (cc := cX4_total) (maxL := 2) (ret := (some .int)) (by decide) rfl (Nat.le_of_ble_eq_true rfl) ?_
  intro p e s m args below meth c ls hC hrt hlk hmn hnx hs hH hl
  have hC : CallFix p m c cX4_total 2 s args (wA_ yX4_total cX4_total 2 (some .int)) RX4 := hC
  have hl : lv_has ls 2 [(0, .ref p0), (1, .int p1)] := hl
  unfold wp_X4_total at hw
  refine lv_aload_n hC.1 hC.2.1 dX4_total_0 rfl (lv_at hl 0 rfl) ?_
  refine lv_iload_n hC.1 hC.2.1 dX4_total_1 rfl (lv_at hl 1 rfl) ?_
  obtain ⟨k2, hw⟩ := hw
  refine m_callVq (y := yX4_findAccount) (rest := []) hC hs hH hl.1 (cwV 1 hC.2.2.2.2 (gA_V q_277 q_278 q_279 q_2 q_280) rfl rfl rfl (by decide +kernel) ⟨Nat.le_of_ble_eq_true rfl, Nat.le_of_ble_eq_true rfl⟩) cs4 k2 (met_X4_findAccount l hl0 g _ _ _ _ _ hX0 hw) rfl rfl (Nat.le_of_ble_eq_true rfl) dX4_total_2 ⟨Nat.le_of_ble_eq_true rfl, Nat.le_of_ble_eq_true rfl⟩ (fun E S1 _ _ _ _ hx => (hX0 E S1 hx).elim) (fun r3 S1 H locs hw hH => ?_)
  refine W.widen (k := 0) (n := 0) (Nat.le_of_ble_eq_true rfl) (Nat.le_of_ble_eq_true rfl) ?_
  obtain ⟨k5, hw⟩ := hw
  refine m_callVi (y := yX0_cents) (rest := []) hC hs hH hl.1 (cwV 0 hC.2.2.2.2 (gA_V q_360 q_361 q_362 q_177 q_363) rfl rfl rfl (by decide +kernel) ⟨Nat.le_of_ble_eq_true rfl, Nat.le_of_ble_eq_true rfl⟩) cs0 k5 (met_X0_cents l hl0 g _ _ _ _ hX0 hw) rfl rfl (Nat.le_of_ble_eq_true rfl) dX4_total_5 ⟨Nat.le_of_ble_eq_true rfl, Nat.le_of_ble_eq_true rfl⟩ (fun E S1 _ _ _ _ hx => (hX0 E S1 hx).elim) (fun r6 S1 H locs hw hH => ?_)
  refine W.widen (k := 0) (n := 0) (Nat.le_of_ble_eq_true rfl) (Nat.le_of_ble_eq_true rfl) ?_
  exact m_reti hC hH hrt rfl hlk (Nat.le_of_ble_eq_true rfl) (Nat.le_of_ble_eq_true rfl) dX4_total_8 hw
abbrev rm_X4_freeShare : Room := { frames := 4, cells := 0, slots := 0, locals := 64 }
def bk_X4_freeShare_6 (z : Nat × Nat) (Q : UInt64 → mmS → Prop) (X : String → mmS → Prop) (K6 : mmS → Nat → Int32 → Int32 → Int32 → Prop) (S : mmS) (x0 : Nat) (x1 : Int32) (x2 : Int32) (x3 : Int32) : Prop := (x0 ∈ mL S ∧ mK S x0 = 4) ∧ ∃ b2 : Nat, mR S 11 x0 = some b2 ∧ (b2 ∈ mL S ∧ mK S b2 = 6) ∧ wp_Jx4a65c_size_8abf5 z S b2 (fun r6 S4 => (r6 ≤ x3 → (¬ x2 = 0 → vf_n64 (FP.ddiv (FP.i2d x1) (FP.i2d x2)) ∧ Q (FP.ddiv (FP.i2d x1) (FP.i2d x2)) S4) ∧ (x2 = 0 → Q (FP.dconst0) S4)) ∧ (¬ r6 ≤ x3 → (x0 ∈ mL S4 ∧ mK S4 x0 = 4) ∧ ∃ b9 : Nat, mR S4 11 x0 = some b9 ∧ (b9 ∈ mL S4 ∧ mK S4 b9 = 6) ∧ wp_Jx4a65c_get_915e3 z S4 b9 x3 (fun r13 S11 => (r13 ∈ mL S11 ∧ mK S11 r13 = 1) ∧ ∀ v15 : Int32, v15 = (x1 + (mI S11 11 r13)) → ∀ v16 : Int32, v16 = (x2 + (mI S11 10 r13)) → ∀ v17 : Int32, v17 = x3 + 1 → K6 S11 x0 v15 v16 v17) X)) X
def lp_X4_freeShare_6 (z : Nat × Nat) (Q : UInt64 → mmS → Prop) (X : String → mmS → Prop) : Nat → mmS → Nat → Int32 → Int32 → Int32 → Prop
  | 0 => fun _ _ _ _ _ => False
  | n + 1 => bk_X4_freeShare_6 z Q X (lp_X4_freeShare_6 z Q X n)
def wp_X4_freeShare (z : Nat × Nat) (S : mmS) (p0 : Nat) (Q : UInt64 → mmS → Prop) (X : String → mmS → Prop) : Prop := ∀ v1 : Int32, v1 = (0 : Int32) → ∀ v2 : Int32, v2 = (0 : Int32) → ∀ v3 : Int32, v3 = (0 : Int32) → ∃ n : Nat, lp_X4_freeShare_6 z Q X n S p0 v1 v2 v3
set_option maxHeartbeats 4000000 in
set_option maxRecDepth 100000 in
theorem bw_X4_freeShare_6 {p : Program} {l : Launch} {e : Env} {s : State} {m : MethodId} {args : Array Value} {below : List Frame} {meth : Method} {c : Code} {g : mG} {Q : UInt64 → mmS → Prop} {X : String → mmS → Prop} (hl0 : l.stackTraces = false) (hC : CallFix p m c cX4_freeShare 5 s args (wA_ yX4_freeShare cX4_freeShare 5 (some .double)) RX4) (hrt : meth.sig.returnType = (some .double)) (hlk : meth.locks = false) (hmn : meth.name = yX4_freeShare.name) (hnx : ∀ x ∈ c.exceptionTable.toList, False) (hs : mX g s) (hX0 : ∀ (E : String) (S : mmS), ¬ X E S) {K6 : mmS → Nat → Int32 → Int32 → Int32 → Prop} (hk6 : ∀ (S : mmS) (x0 : Nat) (x1 : Int32) (x2 : Int32) (x3 : Int32), K6 S x0 x1 x2 x3 → ∀ (H : Heap) (locs : List Loc), mH g S s H locs → ∀ ls : Array Slot, lv_has ls 5 [(0, .ref x0), (1, .int x1), (2, .int x2), (3, .int x3)] → W p l e rm_X4_freeShare s m args below meth c H locs 0 0 (vx_MQ below (va_Qd Q (wO g) (mB g)) (vx_X (fun _ : mmS => True) (fun E S1 t => X E S1 ∧ wO g S1 t) (mB g)) args s rm_X4_freeShare.cells rm_X4_freeShare.slots (mB g)) (F0 m 6 ls [])) : ∀ (S : mmS) (x0 : Nat) (x1 : Int32) (x2 : Int32) (x3 : Int32), bk_X4_freeShare_6 g.2.2.2.2.2 Q X K6 S x0 x1 x2 x3 → ∀ (H : Heap) (locs : List Loc), mH g S s H locs → ∀ ls : Array Slot, lv_has ls 5 [(0, .ref x0), (1, .int x1), (2, .int x2), (3, .int x3)] → W p l e rm_X4_freeShare s m args below meth c H locs 0 0 (vx_MQ below (va_Qd Q (wO g) (mB g)) (vx_X (fun _ : mmS => True) (fun E S1 t => X E S1 ∧ wO g S1 t) (mB g)) args s rm_X4_freeShare.cells rm_X4_freeShare.slots (mB g)) (F0 m 6 ls []) := by
  intro S x0 x1 x2 x3 hw H locs hH ls hl
  unfold bk_X4_freeShare_6 at hw
  refine lv_iload_n hC.1 hC.2.1 dX4_freeShare_6 rfl (lv_at hl 3 rfl) ?_
  refine lv_aload_n hC.1 hC.2.1 dX4_freeShare_7 rfl (lv_at hl 0 rfl) ?_
  obtain ⟨k1, hw⟩ := hw
  obtain ⟨b2, r3, hw⟩ := hw
  refine m_getR hC hs hH cs4 fs4_3 (fun _ h => List.mem_cons_of_mem _ (inlX4 _ h)) (List.mem_cons_of_mem _ q_20) (fun _ h => h) k1 r3 dX4_freeShare_8 ?_
  obtain ⟨k5, hw⟩ := hw
  refine m_callVi (y := yJx4a65c_size_8abf5) (rest := [.int _]) hC hs hH hl.1 (cwV 0 hC.2.2.2.2 (gA_V q_68 q_69 q_70 q_16 q_71) rfl rfl rfl (by decide +kernel) ⟨Nat.le_of_ble_eq_true rfl, Nat.le_of_ble_eq_true rfl⟩) cs6 k5 (met_Jx4a65c_size_8abf5 l hl0 g _ _ _ _ hX0 hw) rfl rfl (Nat.le_of_ble_eq_true rfl) dX4_freeShare_11 ⟨Nat.le_of_ble_eq_true rfl, Nat.le_of_ble_eq_true rfl⟩ (fun E S1 _ _ _ _ hx => (hX0 E S1 hx).elim) (fun r6 S1 H locs hw hH => ?_)
  refine W.widen (k := 0) (n := 0) (Nat.le_of_ble_eq_true rfl) (Nat.le_of_ble_eq_true rfl) ?_
  refine lv_icmp_ge (tgt := 52) hC.1 hC.2.1 dX4_freeShare_14 (by decide) (fun hc => ?_) (fun hc => ?_)
  · have hw := hw.1 hc
    refine lv_iload_n hC.1 hC.2.1 dX4_freeShare_52 rfl (lv_at hl 2 rfl) ?_
    refine lv_if_ne (tgt := 58) hC.1 hC.2.1 dX4_freeShare_53 (by decide) (fun hc => ?_) (fun hc => ?_)
    · have hw := hw.1 hc
      refine lv_iload_n hC.1 hC.2.1 dX4_freeShare_58 rfl (lv_at hl 1 rfl) ?_
      refine lv_i2d hC.1 hC.2.1 dX4_freeShare_59 ?_
      refine lv_iload_n hC.1 hC.2.1 dX4_freeShare_60 rfl (lv_at hl 2 rfl) ?_
      refine lv_i2d hC.1 hC.2.1 dX4_freeShare_61 ?_
      obtain ⟨z7, hw⟩ := hw
      refine lv_ddiv hC.1 hC.2.1 dX4_freeShare_62 z7 ?_
      exact m_retd hC hH hrt hlk (Nat.le_of_ble_eq_true rfl) (Nat.le_of_ble_eq_true rfl) dX4_freeShare_63 hw
    · have hw := hw.2 hc
      refine lv_dconst0 hC.1 hC.2.1 dX4_freeShare_56 ?_
      exact m_retd hC hH hrt hlk (Nat.le_of_ble_eq_true rfl) (Nat.le_of_ble_eq_true rfl) dX4_freeShare_57 hw
  · have hw := hw.2 hc
    refine lv_aload_n hC.1 hC.2.1 dX4_freeShare_17 rfl (lv_at hl 0 rfl) ?_
    obtain ⟨k8, hw⟩ := hw
    obtain ⟨b9, r10, hw⟩ := hw
    refine m_getR hC hs hH cs4 fs4_3 (fun _ h => List.mem_cons_of_mem _ (inlX4 _ h)) (List.mem_cons_of_mem _ q_20) (fun _ h => h) k8 r10 dX4_freeShare_18 ?_
    refine lv_iload_n hC.1 hC.2.1 dX4_freeShare_21 rfl (lv_at hl 3 rfl) ?_
    obtain ⟨k12, hw⟩ := hw
    refine m_callVq (y := yJx4a65c_get_915e3) (rest := []) hC hs hH hl.1 (cwV 1 hC.2.2.2.2 (gA_V q_147 q_148 q_149 q_16 q_150) rfl rfl rfl (by decide +kernel) ⟨Nat.le_of_ble_eq_true rfl, Nat.le_of_ble_eq_true rfl⟩) cs6 k12 (met_Jx4a65c_get_915e3 l hl0 g _ _ _ _ _ hX0 hw) rfl rfl (Nat.le_of_ble_eq_true rfl) dX4_freeShare_22 ⟨Nat.le_of_ble_eq_true rfl, Nat.le_of_ble_eq_true rfl⟩ (fun E S1 _ _ _ _ hx => (hX0 E S1 hx).elim) (fun r13 S1 H locs hw hH => ?_)
    refine W.widen (k := 0) (n := 0) (Nat.le_of_ble_eq_true rfl) (Nat.le_of_ble_eq_true rfl) ?_
    obtain ⟨k14, hw⟩ := hw
    refine m_cast hC hs hH cs1 (List.mem_cons_of_mem _ q_172) k14 dX4_freeShare_25 ?_
    refine lv_astore (lv' := [(4, .ref _), (0, .ref _), (1, .int _), (2, .int _), (3, .int _)]) hC.1 hC.2.1 dX4_freeShare_28 hl (by decide) rfl (fun ls hl => ?_)
    refine lv_iload_n hC.1 hC.2.1 dX4_freeShare_30 rfl (lv_at hl 2 rfl) ?_
    refine lv_aload hC.1 hC.2.1 dX4_freeShare_31 (lv_at hl 0 rfl) ?_
    refine m_getI hC hs hH cs1 fs1_6 (fun _ h => List.mem_cons_of_mem _ (inlX1 _ h)) (List.mem_cons_of_mem _ q_209) (fun _ h => h) k14 dX4_freeShare_33 ?_
    refine lv_iadd hC.1 hC.2.1 dX4_freeShare_36 ?_
    have hw := hw _ rfl
    refine lv_istore_n (lv' := [(1, .int _), (4, .ref _), (0, .ref _), (2, .int _), (3, .int _)]) hC.1 hC.2.1 dX4_freeShare_37 rfl hl (by decide) rfl (fun ls hl => ?_)
    refine lv_iload_n hC.1 hC.2.1 dX4_freeShare_38 rfl (lv_at hl 3 rfl) ?_
    refine lv_aload hC.1 hC.2.1 dX4_freeShare_39 (lv_at hl 1 rfl) ?_
    refine m_getI hC hs hH cs1 fs1_5 (fun _ h => List.mem_cons_of_mem _ (inlX1 _ h)) (List.mem_cons_of_mem _ q_206) (fun _ h => h) k14 dX4_freeShare_41 ?_
    refine lv_iadd hC.1 hC.2.1 dX4_freeShare_44 ?_
    have hw := hw _ rfl
    refine lv_istore_n (lv' := [(2, .int _), (1, .int _), (4, .ref _), (0, .ref _), (3, .int _)]) hC.1 hC.2.1 dX4_freeShare_45 rfl hl (by decide) rfl (fun ls hl => ?_)
    have hw := hw _ rfl
    refine lv_iinc (lv' := [(3, .int _), (2, .int _), (1, .int _), (4, .ref _), (0, .ref _)]) hC.1 hC.2.1 dX4_freeShare_46 hl (k := 4) rfl (rfl : (_ : Int32) + Int32.ofInt 1 = (_ : Int32) + 1) (by decide) rfl (fun ls hl => ?_)
    refine lv_goto (tgt := 6) hC.1 hC.2.1 dX4_freeShare_49 (by decide) ?_
    exact hk6 _ _ _ _ _ hw _ _ hH _ (lv_sub hl [4, 2, 1, 0] rfl)
theorem lw_X4_freeShare_6 {p : Program} {l : Launch} {e : Env} {s : State} {m : MethodId} {args : Array Value} {below : List Frame} {meth : Method} {c : Code} {g : mG} {Q : UInt64 → mmS → Prop} {X : String → mmS → Prop} (hl0 : l.stackTraces = false) (hC : CallFix p m c cX4_freeShare 5 s args (wA_ yX4_freeShare cX4_freeShare 5 (some .double)) RX4) (hrt : meth.sig.returnType = (some .double)) (hlk : meth.locks = false) (hmn : meth.name = yX4_freeShare.name) (hnx : ∀ x ∈ c.exceptionTable.toList, False) (hs : mX g s) (hX0 : ∀ (E : String) (S : mmS), ¬ X E S) : ∀ (n : Nat) (S : mmS) (x0 : Nat) (x1 : Int32) (x2 : Int32) (x3 : Int32), lp_X4_freeShare_6 g.2.2.2.2.2 Q X n S x0 x1 x2 x3 → ∀ (H : Heap) (locs : List Loc), mH g S s H locs → ∀ ls : Array Slot, lv_has ls 5 [(0, .ref x0), (1, .int x1), (2, .int x2), (3, .int x3)] → W p l e rm_X4_freeShare s m args below meth c H locs 0 0 (vx_MQ below (va_Qd Q (wO g) (mB g)) (vx_X (fun _ : mmS => True) (fun E S1 t => X E S1 ∧ wO g S1 t) (mB g)) args s rm_X4_freeShare.cells rm_X4_freeShare.slots (mB g)) (F0 m 6 ls []) := by
  intro n
  induction n with
  | zero => intro S x0 x1 x2 x3 hw; exact False.elim hw
  | succ n ih => exact fun S x0 x1 x2 x3 hw => bw_X4_freeShare_6 hl0 hC hrt hlk hmn hnx hs hX0 (K6 := lp_X4_freeShare_6 g.2.2.2.2.2 Q X n) ih S x0 x1 x2 x3 hw
set_option maxHeartbeats 4000000 in
set_option maxRecDepth 100000 in
theorem met_X4_freeShare (l : Launch) (hl0 : l.stackTraces = false) (g : mG) (S : mmS) (p0 : Nat) (Q : UInt64 → mmS → Prop) (X : String → mmS → Prop) (hX0 : ∀ (E : String) (S : mmS), ¬ X E S) (hw : wp_X4_freeShare g.2.2.2.2.2 S p0 Q X) : mMd l g yX4_freeShare (wA_ yX4_freeShare cX4_freeShare 5 (some .double)) rm_X4_freeShare [.ref p0] S Q X := by
  refine m_of (y := yX4_freeShare) (cc := cX4_freeShare) (maxL := 5) (ret := (some .double)) (by decide) rfl (Nat.le_of_ble_eq_true rfl) ?_
  intro p e s m args below meth c ls hC hrt hlk hmn hnx hs hH hl
  have hC : CallFix p m c cX4_freeShare 5 s args (wA_ yX4_freeShare cX4_freeShare 5 (some .double)) RX4 := hC
  have hl : lv_has ls 5 [(0, .ref p0)] := hl
  unfold wp_X4_freeShare at hw
  refine lv_iconst (v := 0) hC.1 hC.2.1 dX4_freeShare_0 (by decide) ?_
  have hw := hw _ rfl
  refine lv_istore_n (lv' := [(1, .int _), (0, .ref _)]) hC.1 hC.2.1 dX4_freeShare_1 rfl hl (by decide) rfl (fun ls hl => ?_)
  refine lv_iconst (v := 0) hC.1 hC.2.1 dX4_freeShare_2 (by decide) ?_
  have hw := hw _ rfl
  refine lv_istore_n (lv' := [(2, .int _), (1, .int _), (0, .ref _)]) hC.1 hC.2.1 dX4_freeShare_3 rfl hl (by decide) rfl (fun ls hl => ?_)
  refine lv_iconst (v := 0) hC.1 hC.2.1 dX4_freeShare_4 (by decide) ?_
  have hw := hw _ rfl
  refine lv_istore_n (lv' := [(3, .int _), (2, .int _), (1, .int _), (0, .ref _)]) hC.1 hC.2.1 dX4_freeShare_5 rfl hl (by decide) rfl (fun ls hl => ?_)
  obtain ⟨n, hw⟩ := hw
  exact lw_X4_freeShare_6 hl0 hC hrt hlk hmn hnx hs hX0 n _ _ _ _ _ hw _ _ hH _ (lv_sub hl [3, 2, 1, 0] rfl)
