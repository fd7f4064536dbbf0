/-! 12.rater: weakest preconditions and walks, laid by wip/whole/gen.py -/
abbrev rm_X4_init : Room := { frames := 4, cells := 5, slots := 15, locals := 84 }
def wp_X4_init (z : Nat × Nat) (S : mmS) (p0 : Nat) (Q : mmS → Prop) (X : String → mmS → Prop) : Prop := ∀ q1 : Nat, q1 ∉ mL S → ∀ S3 : mmS, S3 = sNo S q1 6 → wp_Jx4a65c_init_da8c8 z S3 q1 (fun S4 => (p0 ∈ mL S4 ∧ mK S4 p0 = 4) ∧ ∀ S6 : mmS, S6 = sR S4 8 p0 (some q1) → ∀ q7 : Nat, q7 ∉ mL S6 → ∀ S9 : mmS, S9 = sNo S6 q7 6 → wp_Jx4a65c_init_da8c8 z S9 q7 (fun S10 => (p0 ∈ mL S10 ∧ mK S10 p0 = 4) ∧ ∀ S12 : mmS, S12 = sR S10 9 p0 (some q7) → ∀ q13 : Nat, q13 ∉ mL S12 → ∀ S15 : mmS, S15 = sNo S12 q13 6 → wp_Jx4a65c_init_da8c8 z S15 q13 (fun S16 => (p0 ∈ mL S16 ∧ mK S16 p0 = 4) ∧ ∀ S18 : mmS, S18 = sR S16 10 p0 (some q13) → ∀ q19 : Nat, q19 ∉ mL S18 → ∀ S21 : mmS, S21 = sNo S18 q19 6 → wp_Jx4a65c_init_da8c8 z S21 q19 (fun S22 => (p0 ∈ mL S22 ∧ mK S22 p0 = 4) ∧ ∀ S24 : mmS, S24 = sR S22 11 p0 (some q19) → ∀ q25 : Nat, q25 ∉ mL S24 → ∀ S27 : mmS, S27 = sNo S24 q25 6 → wp_Jx4a65c_init_da8c8 z S27 q25 (fun S28 => (p0 ∈ mL S28 ∧ mK S28 p0 = 4) ∧ ∀ S30 : mmS, S30 = sR S28 12 p0 (some q25) → ∀ S31 : mmS, S31 = sI S30 21 p0 (480 : Int32) → ∀ S32 : mmS, S32 = sI S31 22 p0 (1079 : Int32) → Q S32) X) X) X) X) X
set_option maxHeartbeats 4000000 in
set_option maxRecDepth 100000 in
theorem met_X4_init (l : Launch) (hl0 : l.stackTraces = false) (g : mG) (S : mmS) (p0 : Nat) (Q : mmS → Prop) (X : String → mmS → Prop) (hw : wp_X4_init g.2.2.2.2.2 S p0 Q X) : mMv l g yX4_init (wA_ yX4_init cX4_init 1 none) rm_X4_init [.ref p0] S Q X := by
  refine m_of (y := yX4_init) (cc := cX4_init) (maxL := 1) (ret := none) (by decide) rfl (Nat.le_of_ble_eq_true rfl) ?_
  intro p e s m args below meth c ls hC hrt hlk hmn hnx hs hH hl
  have hC : CallFix p m c cX4_init 1 s args (wA_ yX4_init cX4_init 1 none) RX4 := hC
  have hl : lv_has ls 1 [(0, .ref p0)] := hl
  unfold wp_X4_init at hw
  refine lv_aload_n hC.1 hC.2.1 dX4_init_0 rfl (lv_at hl 0 rfl) ?_
  refine m_objInit hC hl.1 (List.mem_cons_of_mem _ q_10) (List.mem_cons_of_mem _ q_11) (List.mem_cons_of_mem _ q_12) (Nat.le_of_ble_eq_true rfl) (Nat.le_of_ble_eq_true rfl) dX4_init_1 ?_
  refine lv_aload_n hC.1 hC.2.1 dX4_init_4 rfl (lv_at hl 0 rfl) ?_
  refine m_newO hC hs hH cs6 (fun _ h => List.mem_cons_of_mem _ (inlJx4a65c _ h)) (List.mem_cons_of_mem _ q_13) (List.mem_cons_of_mem _ q_14) (List.mem_cons_of_mem _ q_15) df6 (Nat.le_of_ble_eq_true rfl) (Nat.le_of_ble_eq_true rfl) dX4_init_5 (fun q1 H f2 hH => ?_)
  have hw := hw q1 f2 _ rfl
  refine W.widen (k := 1) (n := 3) (Nat.le_of_ble_eq_true rfl) (Nat.le_of_ble_eq_true rfl) ?_
  refine lv_dup hC.1 hC.2.1 dX4_init_8 rfl ?_
  refine m_callIv (y := yJx4a65c_init_da8c8) (rest := [.ref _, .ref _]) hC hs hH hl.1 (cwI 0 hC.2.2.2.2 (gA0 q_25) rfl rfl rfl (hC.2.2.2.2 _ (List.mem_cons_of_mem _ q_15)) (hC.2.2.2.2 _ (List.mem_cons_of_mem _ q_23)) (hC.2.2.2.2 _ (List.mem_cons_of_mem _ q_24)) rfl (by decide +kernel) ⟨Nat.le_of_ble_eq_true rfl, Nat.le_of_ble_eq_true rfl⟩) (met_Jx4a65c_init_da8c8 l hl0 g _ _ _ _ hw) rfl rfl (Nat.le_of_ble_eq_true rfl) dX4_init_9 ⟨Nat.le_of_ble_eq_true rfl, Nat.le_of_ble_eq_true rfl⟩ (m_out (fun x hx => (hnx x hx).elim) hlk (Nat.le_of_ble_eq_true rfl) (Nat.le_of_ble_eq_true rfl)) (fun S1 H locs hw hH => ?_)
  refine W.widen (k := 1) (n := 3) (Nat.le_of_ble_eq_true rfl) (Nat.le_of_ble_eq_true rfl) ?_
  obtain ⟨k5, hw⟩ := hw
  have hw := hw _ rfl
  refine m_putR hC hs hH cs4 fs4_0 (fun _ h => List.mem_cons_of_mem _ (inlX4 _ h)) (List.mem_cons_of_mem _ q_16) (fun _ h => h) (Or.inr ⟨rfl, hmn, rfl⟩) rfl rfl k5 dX4_init_12 (fun H locs hH => ?_)
  refine lv_aload_n hC.1 hC.2.1 dX4_init_15 rfl (lv_at hl 0 rfl) ?_
  refine m_newO hC hs hH cs6 (fun _ h => List.mem_cons_of_mem _ (inlJx4a65c _ h)) (List.mem_cons_of_mem _ q_13) (List.mem_cons_of_mem _ q_14) (List.mem_cons_of_mem _ q_15) df6 (Nat.le_of_ble_eq_true rfl) (Nat.le_of_ble_eq_true rfl) dX4_init_16 (fun q7 H f8 hH => ?_)
  have hw := hw q7 f8 _ rfl
  refine W.widen (k := 2) (n := 6) (Nat.le_of_ble_eq_true rfl) (Nat.le_of_ble_eq_true rfl) ?_
  refine lv_dup hC.1 hC.2.1 dX4_init_19 rfl ?_
  refine m_callIv (y := yJx4a65c_init_da8c8) (rest := [.ref _, .ref _]) hC hs hH hl.1 (cwI 0 hC.2.2.2.2 (gA0 q_25) rfl rfl rfl (hC.2.2.2.2 _ (List.mem_cons_of_mem _ q_15)) (hC.2.2.2.2 _ (List.mem_cons_of_mem _ q_23)) (hC.2.2.2.2 _ (List.mem_cons_of_mem _ q_24)) rfl (by decide +kernel) ⟨Nat.le_of_ble_eq_true rfl, Nat.le_of_ble_eq_true rfl⟩) (met_Jx4a65c_init_da8c8 l hl0 g _ _ _ _ hw) rfl rfl (Nat.le_of_ble_eq_true rfl) dX4_init_20 ⟨Nat.le_of_ble_eq_true rfl, Nat.le_of_ble_eq_true rfl⟩ (m_out (fun x hx => (hnx x hx).elim) hlk (Nat.le_of_ble_eq_true rfl) (Nat.le_of_ble_eq_true rfl)) (fun S1 H locs hw hH => ?_)
  refine W.widen (k := 2) (n := 6) (Nat.le_of_ble_eq_true rfl) (Nat.le_of_ble_eq_true rfl) ?_
  obtain ⟨k11, hw⟩ := hw
  have hw := hw _ rfl
  refine m_putR hC hs hH cs4 fs4_1 (fun _ h => List.mem_cons_of_mem _ (inlX4 _ h)) (List.mem_cons_of_mem _ q_17) (fun _ h => h) (Or.inr ⟨rfl, hmn, rfl⟩) rfl rfl k11 dX4_init_23 (fun H locs hH => ?_)
  refine lv_aload_n hC.1 hC.2.1 dX4_init_26 rfl (lv_at hl 0 rfl) ?_
  refine m_newO hC hs hH cs6 (fun _ h => List.mem_cons_of_mem _ (inlJx4a65c _ h)) (List.mem_cons_of_mem _ q_13) (List.mem_cons_of_mem _ q_14) (List.mem_cons_of_mem _ q_15) df6 (Nat.le_of_ble_eq_true rfl) (Nat.le_of_ble_eq_true rfl) dX4_init_27 (fun q13 H f14 hH => ?_)
  have hw := hw q13 f14 _ rfl
  refine W.widen (k := 3) (n := 9) (Nat.le_of_ble_eq_true rfl) (Nat.le_of_ble_eq_true rfl) ?_
  refine lv_dup hC.1 hC.2.1 dX4_init_30 rfl ?_
  refine m_callIv (y := yJx4a65c_init_da8c8) (rest := [.ref _, .ref _]) hC hs hH hl.1 (cwI 0 hC.2.2.2.2 (gA0 q_25) rfl rfl rfl (hC.2.2.2.2 _ (List.mem_cons_of_mem _ q_15)) (hC.2.2.2.2 _ (List.mem_cons_of_mem _ q_23)) (hC.2.2.2.2 _ (List.mem_cons_of_mem _ q_24)) rfl (by decide +kernel) ⟨Nat.le_of_ble_eq_true rfl, Nat.le_of_ble_eq_true rfl⟩) (met_Jx4a65c_init_da8c8 l hl0 g _ _ _ _ hw) rfl rfl (Nat.le_of_ble_eq_true rfl) dX4_init_31 ⟨Nat.le_of_ble_eq_true rfl, Nat.le_of_ble_eq_true rfl⟩ (m_out (fun x hx => (hnx x hx).elim) hlk (Nat.le_of_ble_eq_true rfl) (Nat.le_of_ble_eq_true rfl)) (fun S1 H locs hw hH => ?_)
  refine W.widen (k := 3) (n := 9) (Nat.le_of_ble_eq_true rfl) (Nat.le_of_ble_eq_true rfl) ?_
  obtain ⟨k17, hw⟩ := hw
  have hw := hw _ rfl
  refine m_putR hC hs hH cs4 fs4_2 (fun _ h => List.mem_cons_of_mem _ (inlX4 _ h)) (List.mem_cons_of_mem _ q_18) (fun _ h => h) (Or.inr ⟨rfl, hmn, rfl⟩) rfl rfl k17 dX4_init_34 (fun H locs hH => ?_)
  refine lv_aload_n hC.1 hC.2.1 dX4_init_37 rfl (lv_at hl 0 rfl) ?_
  refine m_newO hC hs hH cs6 (fun _ h => List.mem_cons_of_mem _ (inlJx4a65c _ h)) (List.mem_cons_of_mem _ q_13) (List.mem_cons_of_mem _ q_14) (List.mem_cons_of_mem _ q_15) df6 (Nat.le_of_ble_eq_true rfl) (Nat.le_of_ble_eq_true rfl) dX4_init_38 (fun q19 H f20 hH => ?_)
  have hw := hw q19 f20 _ rfl
  refine W.widen (k := 4) (n := 12) (Nat.le_of_ble_eq_true rfl) (Nat.le_of_ble_eq_true rfl) ?_
  refine lv_dup hC.1 hC.2.1 dX4_init_41 rfl ?_
  refine m_callIv (y := yJx4a65c_init_da8c8) (rest := [.ref _, .ref _]) hC hs hH hl.1 (cwI 0 hC.2.2.2.2 (gA0 q_25) rfl rfl rfl (hC.2.2.2.2 _ (List.mem_cons_of_mem _ q_15)) (hC.2.2.2.2 _ (List.mem_cons_of_mem _ q_23)) (hC.2.2.2.2 _ (List.mem_cons_of_mem _ q_24)) rfl (by decide +kernel) ⟨Nat.le_of_ble_eq_true rfl, Nat.le_of_ble_eq_true rfl⟩) (met_Jx4a65c_init_da8c8 l hl0 g _ _ _ _ hw) rfl rfl (Nat.le_of_ble_eq_true rfl) dX4_init_42 ⟨Nat.le_of_ble_eq_true rfl, Nat.le_of_ble_eq_true rfl⟩ (m_out (fun x hx => (hnx x hx).elim) hlk (Nat.le_of_ble_eq_true rfl) (Nat.le_of_ble_eq_true rfl)) (fun S1 H locs hw hH => ?_)
  refine W.widen (k := 4) (n := 12) (Nat.le_of_ble_eq_true rfl) (Nat.le_of_ble_eq_true rfl) ?_
  obtain ⟨k23, hw⟩ := hw
  have hw := hw _ rfl
  refine m_putR hC hs hH cs4 fs4_3 (fun _ h => List.mem_cons_of_mem _ (inlX4 _ h)) (List.mem_cons_of_mem _ q_19) (fun _ h => h) (Or.inr ⟨rfl, hmn, rfl⟩) rfl rfl k23 dX4_init_45 (fun H locs hH => ?_)
  refine lv_aload_n hC.1 hC.2.1 dX4_init_48 rfl (lv_at hl 0 rfl) ?_
  refine m_newO hC hs hH cs6 (fun _ h => List.mem_cons_of_mem _ (inlJx4a65c _ h)) (List.mem_cons_of_mem _ q_13) (List.mem_cons_of_mem _ q_14) (List.mem_cons_of_mem _ q_15) df6 (Nat.le_of_ble_eq_true rfl) (Nat.le_of_ble_eq_true rfl) dX4_init_49 (fun q25 H f26 hH => ?_)
  have hw := hw q25 f26 _ rfl
  refine W.widen (k := 5) (n := 15) (Nat.le_of_ble_eq_true rfl) (Nat.le_of_ble_eq_true rfl) ?_
  refine lv_dup hC.1 hC.2.1 dX4_init_52 rfl ?_
  refine m_callIv (y := yJx4a65c_init_da8c8) (rest := [.ref _, .ref _]) hC hs hH hl.1 (cwI 0 hC.2.2.2.2 (gA0 q_25) rfl rfl rfl (hC.2.2.2.2 _ (List.mem_cons_of_mem _ q_15)) (hC.2.2.2.2 _ (List.mem_cons_of_mem _ q_23)) (hC.2.2.2.2 _ (List.mem_cons_of_mem _ q_24)) rfl (by decide +kernel) ⟨Nat.le_of_ble_eq_true rfl, Nat.le_of_ble_eq_true rfl⟩) (met_Jx4a65c_init_da8c8 l hl0 g _ _ _ _ hw) rfl rfl (Nat.le_of_ble_eq_true rfl) dX4_init_53 ⟨Nat.le_of_ble_eq_true rfl, Nat.le_of_ble_eq_true rfl⟩ (m_out (fun x hx => (hnx x hx).elim) hlk (Nat.le_of_ble_eq_true rfl) (Nat.le_of_ble_eq_true rfl)) (fun S1 H locs hw hH => ?_)
  refine W.widen (k := 5) (n := 15) (Nat.le_of_ble_eq_true rfl) (Nat.le_of_ble_eq_true rfl) ?_
  obtain ⟨k29, hw⟩ := hw
  have hw := hw _ rfl
  refine m_putR hC hs hH cs4 fs4_4 (fun _ h => List.mem_cons_of_mem _ (inlX4 _ h)) (List.mem_cons_of_mem _ q_20) (fun _ h => h) (Or.inr ⟨rfl, hmn, rfl⟩) rfl rfl k29 dX4_init_56 (fun H locs hH => ?_)
  refine lv_aload_n hC.1 hC.2.1 dX4_init_59 rfl (lv_at hl 0 rfl) ?_
  refine lv_sipush (v := 480) hC.1 hC.2.1 dX4_init_60 (by decide) ?_
  have hw := hw _ rfl
  refine m_putI hC hs hH cs4 fs4_5 (fun _ h => List.mem_cons_of_mem _ (inlX4 _ h)) (List.mem_cons_of_mem _ q_21) (fun _ h => h) (Or.inl rfl) rfl k29 dX4_init_63 (fun H locs hH => ?_)
  refine lv_aload_n hC.1 hC.2.1 dX4_init_66 rfl (lv_at hl 0 rfl) ?_
  refine lv_sipush (v := 1079) hC.1 hC.2.1 dX4_init_67 (by decide) ?_
  have hw := hw _ rfl
  refine m_putI hC hs hH cs4 fs4_6 (fun _ h => List.mem_cons_of_mem _ (inlX4 _ h)) (List.mem_cons_of_mem _ q_22) (fun _ h => h) (Or.inl rfl) rfl k29 dX4_init_70 (fun H locs hH => ?_)
  exact m_retv hC hH hrt hlk (Nat.le_of_ble_eq_true rfl) (Nat.le_of_ble_eq_true rfl) dX4_init_73 hw
abbrev rm_X4_isWithin : Room := { frames := 1, cells := 0, slots := 0, locals := 0 }
def wp_X4_isWithin (z : Nat × Nat) (S : mmS) (p0 : Int32) (p1 : Int32) (p2 : Int32) (Q : Int32 → mmS → Prop) (X : String → mmS → Prop) : Prop := (p0 < p1 → Q (0 : Int32) S) ∧ (¬ p0 < p1 → (p2 < p0 → Q (0 : Int32) S) ∧ (¬ p2 < p0 → Q (1 : Int32) S))
set_option maxHeartbeats 4000000 in
set_option maxRecDepth 100000 in
theorem met_X4_isWithin (l : Launch) (hl0 : l.stackTraces = false) (g : mG) (S : mmS) (p0 : Int32) (p1 : Int32) (p2 : Int32) (Q : Int32 → mmS → Prop) (X : String → mmS → Prop) (hw : wp_X4_isWithin g.2.2.2.2.2 S p0 p1 p2 Q X) : mMi l g yX4_isWithin (wA_ yX4_isWithin cX4_isWithin 3 (some .boolean)) rm_X4_isWithin [.int p0, .int p1, .int p2] S Q X := by
  refine m_of (y := yX4_isWithin) (cc := cX4_isWithin) (maxL := 3) (ret := (some .boolean)) (by decide) rfl (Nat.le_of_ble_eq_true rfl) ?_
  intro p e s m args below meth c ls hC hrt hlk hmn hnx hs hH hl
  have hC : CallFix p m c cX4_isWithin 3 s args (wA_ yX4_isWithin cX4_isWithin 3 (some .boolean)) RX4 := hC
  have hl : lv_has ls 3 [(0, .int p0), (1, .int p1), (2, .int p2)] := hl
  unfold wp_X4_isWithin at hw
  refine lv_iload_n hC.1 hC.2.1 dX4_isWithin_0 rfl (lv_at hl 0 rfl) ?_
  refine lv_iload_n hC.1 hC.2.1 dX4_isWithin_1 rfl (lv_at hl 1 rfl) ?_
  refine lv_icmp_lt (tgt := 14) hC.1 hC.2.1 dX4_isWithin_2 (by decide) (fun hc => ?_) (fun hc => ?_)
  · have hw := hw.1 hc
    refine lv_iconst (v := 0) hC.1 hC.2.1 dX4_isWithin_14 (by decide) ?_
    exact m_reti hC hH hrt rfl hlk (Nat.le_of_ble_eq_true rfl) (Nat.le_of_ble_eq_true rfl) dX4_isWithin_15 hw
  · have hw := hw.2 hc
    refine lv_iload_n hC.1 hC.2.1 dX4_isWithin_5 rfl (lv_at hl 0 rfl) ?_
    refine lv_iload_n hC.1 hC.2.1 dX4_isWithin_6 rfl (lv_at hl 2 rfl) ?_
    refine lv_icmp_gt (tgt := 14) hC.1 hC.2.1 dX4_isWithin_7 (by decide) (fun hc => ?_) (fun hc => ?_)
    · have hw := hw.1 hc
      refine lv_iconst (v := 0) hC.1 hC.2.1 dX4_isWithin_14 (by decide) ?_
      exact m_reti hC hH hrt rfl hlk (Nat.le_of_ble_eq_true rfl) (Nat.le_of_ble_eq_true rfl) dX4_isWithin_15 hw
    · have hw := hw.2 hc
      refine lv_iconst (v := 1) hC.1 hC.2.1 dX4_isWithin_10 (by decide) ?_
      refine lv_goto (tgt := 15) hC.1 hC.2.1 dX4_isWithin_11 (by decide) ?_
      exact m_reti hC hH hrt rfl hlk (Nat.le_of_ble_eq_true rfl) (Nat.le_of_ble_eq_true rfl) dX4_isWithin_15 hw
abbrev rm_X4_isMoney : Room := { frames := 2, cells := 0, slots := 0, locals := 22 }
def wp_X4_isMoney (z : Nat × Nat) (S : mmS) (p0 : Int32) (Q : Int32 → mmS → Prop) (X : String → mmS → Prop) : Prop := wp_X4_isWithin z S p0 (0 : Int32) (10000 : Int32) (fun r2 S1 => mBo r2 ∧ Q r2 S1) X
set_option maxHeartbeats 4000000 in
set_option maxRecDepth 100000 in
theorem met_X4_isMoney (l : Launch) (hl0 : l.stackTraces = false) (g : mG) (S : mmS) (p0 : Int32) (Q : Int32 → mmS → Prop) (X : String → mmS → Prop) (hw : wp_X4_isMoney g.2.2.2.2.2 S p0 Q X) : mMi l g yX4_isMoney (wA_ yX4_isMoney cX4_isMoney 1 (some .boolean)) rm_X4_isMoney [.int p0] S Q X := by
  refine m_of (y := yX4_isMoney) (cc := cX4_isMoney) (maxL := 1) (ret := (some .boolean)) (by decide) rfl (Nat.le_of_ble_eq_true rfl) ?_
  intro p e s m args below meth c ls hC hrt hlk hmn hnx hs hH hl
  have hC : CallFix p m c cX4_isMoney 1 s args (wA_ yX4_isMoney cX4_isMoney 1 (some .boolean)) RX4 := hC
  have hl : lv_has ls 1 [(0, .int p0)] := hl
  unfold wp_X4_isMoney at hw
  refine lv_iload_n hC.1 hC.2.1 dX4_isMoney_0 rfl (lv_at hl 0 rfl) ?_
  refine lv_iconst (v := 0) hC.1 hC.2.1 dX4_isMoney_1 (by decide) ?_
  refine lv_sipush (v := 10000) hC.1 hC.2.1 dX4_isMoney_2 (by decide) ?_
  refine m_callSi (y := yX4_isWithin) (rest := []) hC hs hH hl.1 (va_cwS 3 hC.2.2.2.2 (gA_S q_77 q_78 q_2 q_79) rfl rfl rfl (by decide +kernel) ⟨Nat.le_of_ble_eq_true rfl, Nat.le_of_ble_eq_true rfl⟩) (met_X4_isWithin l hl0 g _ _ _ _ _ _ hw) rfl rfl (Nat.le_of_ble_eq_true rfl) dX4_isMoney_5 ⟨Nat.le_of_ble_eq_true rfl, Nat.le_of_ble_eq_true rfl⟩ (m_out (fun x hx => (hnx x hx).elim) hlk (Nat.le_of_ble_eq_true rfl) (Nat.le_of_ble_eq_true rfl)) (fun r2 S1 H locs hw hH => ?_)
  refine W.widen (k := 0) (n := 0) (Nat.le_of_ble_eq_true rfl) (Nat.le_of_ble_eq_true rfl) ?_
  obtain ⟨z3, hw⟩ := hw
  exact m_reti hC hH hrt z3 hlk (Nat.le_of_ble_eq_true rfl) (Nat.le_of_ble_eq_true rfl) dX4_isMoney_8 hw
abbrev rm_X4_addTariff : Room := { frames := 7, cells := 4, slots := 142, locals := 171 }
def wp_X4_addTariff (z : Nat × Nat) (S : mmS) (p0 : Nat) (p1 : Int32) (p2 : Int32) (p3 : Int32) (p4 : Int32) (p5 : Int32) (Q : Int32 → mmS → Prop) (X : String → mmS → Prop) : Prop := wp_X4_isMoney z S p1 (fun r2 S1 => (r2 = 0 → X "java/lang/IllegalArgumentException" S1) ∧ (¬ r2 = 0 → wp_X4_isMoney z S1 p2 (fun r4 S3 => (r4 = 0 → X "java/lang/IllegalArgumentException" S3) ∧ (¬ r4 = 0 → wp_X4_isMoney z S3 p3 (fun r6 S5 => (¬ r6 = 0 → wp_X4_isWithin z S5 p4 (1 : Int32) (300 : Int32) (fun r8 S7 => (r8 = 0 → X "java/lang/IllegalArgumentException" S7) ∧ (¬ r8 = 0 → wp_X4_isWithin z S7 p5 (1 : Int32) (300 : Int32) (fun r10 S9 => (¬ r10 = 0 → (p0 ∈ mL S9 ∧ mK S9 p0 = 4) ∧ ∃ b12 : Nat, mR S9 8 p0 = some b12 ∧ (b12 ∈ mL S9 ∧ mK S9 b12 = 6) ∧ wp_Jx4a65c_size_8abf5 z S9 b12 (fun r16 S14 => (r16 < (5 : Int32) → (p0 ∈ mL S14 ∧ mK S14 p0 = 4) ∧ ∃ b18 : Nat, mR S14 8 p0 = some b18 ∧ ∀ q20 : Nat, q20 ∉ mL S14 → ∀ S22 : mmS, S22 = sNo S14 q20 3 → wp_X3_init z S22 q20 r16 p1 p2 p3 p4 p5 (fun S23 => (b18 ∈ mL S23 ∧ mK S23 b18 = 6) ∧ wp_Jx4a65c_add_9ea2d z S23 b18 q20 (fun r26 S24 => Q r16 S24) X) X) ∧ (¬ r16 < (5 : Int32) → X "java/lang/IllegalStateException" S14)) X) ∧ (r10 = 0 → X "java/lang/IllegalArgumentException" S9)) X)) X) ∧ (r6 = 0 → X "java/lang/IllegalArgumentException" S5)) X)) X)) X
set_option maxHeartbeats 4000000 in
set_option maxRecDepth 100000 in
theorem met_X4_addTariff (l : Launch) (hl0 : l.stackTraces = false) (g : mG) (S : mmS) (p0 : Nat) (p1 : Int32) (p2 : Int32) (p3 : Int32) (p4 : Int32) (p5 : Int32) (Q : Int32 → mmS → Prop) (X : String → mmS → Prop) (hw : wp_X4_addTariff g.2.2.2.2.2 S p0 p1 p2 p3 p4 p5 Q X) : mMi l g yX4_addTariff (wA_ yX4_addTariff cX4_addTariff 7 (some .int)) rm_X4_addTariff [.ref p0, .int p1, .int p2, .int p3, .int p4, .int p5] S Q X := by
  refine m_of (y := yX4_addTariff) (cc := cX4_addTariff) (maxL := 7) (ret := (some .int)) (by decide) rfl (Nat.le_of_ble_eq_true rfl) ?_
  intro p e s m args below meth c ls hC hrt hlk hmn hnx hs hH hl
  have hC : CallFix p m c cX4_addTariff 7 s args (wA_ yX4_addTariff cX4_addTariff 7 (some .int)) RX4 := hC
  have hl : lv_has ls 7 [(0, .ref p0), (1, .int p1), (2, .int p2), (3, .int p3), (4, .int p4), (5, .int p5)] := hl
  unfold wp_X4_addTariff at hw
  refine lv_iload_n hC.1 hC.2.1 dX4_addTariff_0 rfl (lv_at hl 1 rfl) ?_
  refine m_callSi (y := yX4_isMoney) (rest := []) hC hs hH hl.1 (va_cwS 1 hC.2.2.2.2 (gA_S q_74 q_75 q_2 q_76) rfl rfl rfl (by decide +kernel) ⟨Nat.le_of_ble_eq_true rfl, Nat.le_of_ble_eq_true rfl⟩) (met_X4_isMoney l hl0 g _ _ _ _ hw) rfl rfl (Nat.le_of_ble_eq_true rfl) dX4_addTariff_1 ⟨Nat.le_of_ble_eq_true rfl, Nat.le_of_ble_eq_true rfl⟩ (m_out (fun x hx => (hnx x hx).elim) hlk (Nat.le_of_ble_eq_true rfl) (Nat.le_of_ble_eq_true rfl)) (fun r2 S1 H locs hw hH => ?_)
  refine W.widen (k := 0) (n := 0) (Nat.le_of_ble_eq_true rfl) (Nat.le_of_ble_eq_true rfl) ?_
  refine lv_if_eq (tgt := 21) hC.1 hC.2.1 dX4_addTariff_4 (by decide) (fun hc => ?_) (fun hc => ?_)
  · have hw := hw.1 hc
    exact m_throwS (names := ["java/lang/RuntimeException", "java/lang/Exception"]) (text := "a fee or a rate is not 0 to 10000") hC hs hH hl0 hl.1 rfl (by decide +kernel) (by decide +kernel) (List.mem_cons_of_mem _ q_67) (List.mem_cons_of_mem _ q_68) (by decide +kernel) (fun w h => List.mem_cons_of_mem _ (atIAE w h)) bdIAE (by decide +kernel) gdIAE hnx hlk dX4_addTariff_21 dX4_addTariff_24 dX4_addTariff_25 dX4_addTariff_27 dX4_addTariff_30 (Nat.le_of_ble_eq_true rfl) (Nat.le_of_ble_eq_true rfl) (Nat.le_of_ble_eq_true rfl) (Nat.le_of_ble_eq_true rfl) (Nat.le_of_ble_eq_true rfl) (Nat.le_of_ble_eq_true rfl) hw
  · have hw := hw.2 hc
    refine lv_iload_n hC.1 hC.2.1 dX4_addTariff_7 rfl (lv_at hl 2 rfl) ?_
    refine m_callSi (y := yX4_isMoney) (rest := []) hC hs hH hl.1 (va_cwS 1 hC.2.2.2.2 (gA_S q_74 q_75 q_2 q_76) rfl rfl rfl (by decide +kernel) ⟨Nat.le_of_ble_eq_true rfl, Nat.le_of_ble_eq_true rfl⟩) (met_X4_isMoney l hl0 g _ _ _ _ hw) rfl rfl (Nat.le_of_ble_eq_true rfl) dX4_addTariff_8 ⟨Nat.le_of_ble_eq_true rfl, Nat.le_of_ble_eq_true rfl⟩ (m_out (fun x hx => (hnx x hx).elim) hlk (Nat.le_of_ble_eq_true rfl) (Nat.le_of_ble_eq_true rfl)) (fun r4 S1 H locs hw hH => ?_)
    refine W.widen (k := 0) (n := 0) (Nat.le_of_ble_eq_true rfl) (Nat.le_of_ble_eq_true rfl) ?_
    refine lv_if_eq (tgt := 21) hC.1 hC.2.1 dX4_addTariff_11 (by decide) (fun hc => ?_) (fun hc => ?_)
    · have hw := hw.1 hc
      exact m_throwS (names := ["java/lang/RuntimeException", "java/lang/Exception"]) (text := "a fee or a rate is not 0 to 10000") hC hs hH hl0 hl.1 rfl (by decide +kernel) (by decide +kernel) (List.mem_cons_of_mem _ q_67) (List.mem_cons_of_mem _ q_68) (by decide +kernel) (fun w h => List.mem_cons_of_mem _ (atIAE w h)) bdIAE (by decide +kernel) gdIAE hnx hlk dX4_addTariff_21 dX4_addTariff_24 dX4_addTariff_25 dX4_addTariff_27 dX4_addTariff_30 (Nat.le_of_ble_eq_true rfl) (Nat.le_of_ble_eq_true rfl) (Nat.le_of_ble_eq_true rfl) (Nat.le_of_ble_eq_true rfl) (Nat.le_of_ble_eq_true rfl) (Nat.le_of_ble_eq_true rfl) hw
    · have hw := hw.2 hc
      refine lv_iload_n hC.1 hC.2.1 dX4_addTariff_14 rfl (lv_at hl 3 rfl) ?_
      refine m_callSi (y := yX4_isMoney) (rest := []) hC hs hH hl.1 (va_cwS 1 hC.2.2.2.2 (gA_S q_74 q_75 q_2 q_76) rfl rfl rfl (by decide +kernel) ⟨Nat.le_of_ble_eq_true rfl, Nat.le_of_ble_eq_true rfl⟩) (met_X4_isMoney l hl0 g _ _ _ _ hw) rfl rfl (Nat.le_of_ble_eq_true rfl) dX4_addTariff_15 ⟨Nat.le_of_ble_eq_true rfl, Nat.le_of_ble_eq_true rfl⟩ (m_out (fun x hx => (hnx x hx).elim) hlk (Nat.le_of_ble_eq_true rfl) (Nat.le_of_ble_eq_true rfl)) (fun r6 S1 H locs hw hH => ?_)
      refine W.widen (k := 0) (n := 0) (Nat.le_of_ble_eq_true rfl) (Nat.le_of_ble_eq_true rfl) ?_
      refine lv_if_ne (tgt := 31) hC.1 hC.2.1 dX4_addTariff_18 (by decide) (fun hc => ?_) (fun hc => ?_)
      · have hw := hw.1 hc
        refine lv_iload hC.1 hC.2.1 dX4_addTariff_31 (lv_at hl 4 rfl) ?_
        refine lv_iconst (v := 1) hC.1 hC.2.1 dX4_addTariff_33 (by decide) ?_
        refine lv_sipush (v := 300) hC.1 hC.2.1 dX4_addTariff_34 (by decide) ?_
        refine m_callSi (y := yX4_isWithin) (rest := []) hC hs hH hl.1 (va_cwS 3 hC.2.2.2.2 (gA_S q_77 q_78 q_2 q_79) rfl rfl rfl (by decide +kernel) ⟨Nat.le_of_ble_eq_true rfl, Nat.le_of_ble_eq_true rfl⟩) (met_X4_isWithin l hl0 g _ _ _ _ _ _ hw) rfl rfl (Nat.le_of_ble_eq_true rfl) dX4_addTariff_37 ⟨Nat.le_of_ble_eq_true rfl, Nat.le_of_ble_eq_true rfl⟩ (m_out (fun x hx => (hnx x hx).elim) hlk (Nat.le_of_ble_eq_true rfl) (Nat.le_of_ble_eq_true rfl)) (fun r8 S1 H locs hw hH => ?_)
        refine W.widen (k := 0) (n := 0) (Nat.le_of_ble_eq_true rfl) (Nat.le_of_ble_eq_true rfl) ?_
        refine lv_if_eq (tgt := 55) hC.1 hC.2.1 dX4_addTariff_40 (by decide) (fun hc => ?_) (fun hc => ?_)
        · have hw := hw.1 hc
          exact m_throwS (names := ["java/lang/RuntimeException", "java/lang/Exception"]) (text := "an interval is not 1 to 300") hC hs hH hl0 hl.1 rfl (by decide +kernel) (by decide +kernel) (List.mem_cons_of_mem _ q_67) (List.mem_cons_of_mem _ q_68) (by decide +kernel) (fun w h => List.mem_cons_of_mem _ (atIAE w h)) bdIAE (by decide +kernel) gdIAE hnx hlk dX4_addTariff_55 dX4_addTariff_58 dX4_addTariff_59 dX4_addTariff_61 dX4_addTariff_64 (Nat.le_of_ble_eq_true rfl) (Nat.le_of_ble_eq_true rfl) (Nat.le_of_ble_eq_true rfl) (Nat.le_of_ble_eq_true rfl) (Nat.le_of_ble_eq_true rfl) (Nat.le_of_ble_eq_true rfl) hw
        · have hw := hw.2 hc
          refine lv_iload hC.1 hC.2.1 dX4_addTariff_43 (lv_at hl 5 rfl) ?_
          refine lv_iconst (v := 1) hC.1 hC.2.1 dX4_addTariff_45 (by decide) ?_
          refine lv_sipush (v := 300) hC.1 hC.2.1 dX4_addTariff_46 (by decide) ?_
          refine m_callSi (y := yX4_isWithin) (rest := []) hC hs hH hl.1 (va_cwS 3 hC.2.2.2.2 (gA_S q_77 q_78 q_2 q_79) rfl rfl rfl (by decide +kernel) ⟨Nat.le_of_ble_eq_true rfl, Nat.le_of_ble_eq_true rfl⟩) (met_X4_isWithin l hl0 g _ _ _ _ _ _ hw) rfl rfl (Nat.le_of_ble_eq_true rfl) dX4_addTariff_49 ⟨Nat.le_of_ble_eq_true rfl, Nat.le_of_ble_eq_true rfl⟩ (m_out (fun x hx => (hnx x hx).elim) hlk (Nat.le_of_ble_eq_true rfl) (Nat.le_of_ble_eq_true rfl)) (fun r10 S1 H locs hw hH => ?_)
          refine W.widen (k := 0) (n := 0) (Nat.le_of_ble_eq_true rfl) (Nat.le_of_ble_eq_true rfl) ?_
          refine lv_if_ne (tgt := 65) hC.1 hC.2.1 dX4_addTariff_52 (by decide) (fun hc => ?_) (fun hc => ?_)
          · have hw := hw.1 hc
            refine lv_aload_n hC.1 hC.2.1 dX4_addTariff_65 rfl (lv_at hl 0 rfl) ?_
            obtain ⟨k11, hw⟩ := hw
            obtain ⟨b12, r13, hw⟩ := hw
            refine m_getR hC hs hH cs4 fs4_0 (fun _ h => List.mem_cons_of_mem _ (inlX4 _ h)) (List.mem_cons_of_mem _ q_16) (fun _ h => h) k11 r13 dX4_addTariff_66 ?_
            obtain ⟨k15, hw⟩ := hw
            refine m_callVi (y := yJx4a65c_size_8abf5) (rest := []) hC hs hH hl.1 (cwV 0 hC.2.2.2.2 (gA_V q_80 q_81 q_82 q_15 q_83) rfl rfl rfl (by decide +kernel) ⟨Nat.le_of_ble_eq_true rfl, Nat.le_of_ble_eq_true rfl⟩) cs6 k15 (met_Jx4a65c_size_8abf5 l hl0 g _ _ _ _ hw) rfl rfl (Nat.le_of_ble_eq_true rfl) dX4_addTariff_69 ⟨Nat.le_of_ble_eq_true rfl, Nat.le_of_ble_eq_true rfl⟩ (m_out (fun x hx => (hnx x hx).elim) hlk (Nat.le_of_ble_eq_true rfl) (Nat.le_of_ble_eq_true rfl)) (fun r16 S1 H locs hw hH => ?_)
            refine W.widen (k := 0) (n := 0) (Nat.le_of_ble_eq_true rfl) (Nat.le_of_ble_eq_true rfl) ?_
            refine lv_istore (lv' := [(6, .int _), (0, .ref _), (1, .int _), (2, .int _), (3, .int _), (4, .int _), (5, .int _)]) hC.1 hC.2.1 dX4_addTariff_72 hl (by decide) rfl (fun ls hl => ?_)
            refine lv_iload hC.1 hC.2.1 dX4_addTariff_74 (lv_at hl 0 rfl) ?_
            refine lv_iconst (v := 5) hC.1 hC.2.1 dX4_addTariff_76 (by decide) ?_
            refine lv_icmp_lt (tgt := 90) hC.1 hC.2.1 dX4_addTariff_77 (by decide) (fun hc => ?_) (fun hc => ?_)
            · have hw := hw.1 hc
              refine lv_aload_n hC.1 hC.2.1 dX4_addTariff_90 rfl (lv_at hl 1 rfl) ?_
              obtain ⟨k17, hw⟩ := hw
              obtain ⟨b18, r19, hw⟩ := hw
              refine m_getR hC hs hH cs4 fs4_0 (fun _ h => List.mem_cons_of_mem _ (inlX4 _ h)) (List.mem_cons_of_mem _ q_16) (fun _ h => h) k17 r19 dX4_addTariff_91 ?_
              refine m_newO hC hs hH cs3 (fun _ h => List.mem_cons_of_mem _ (inlX3 _ h)) (List.mem_cons_of_mem _ q_71) (List.mem_cons_of_mem _ q_72) (List.mem_cons_of_mem _ q_73) df3 (Nat.le_of_ble_eq_true rfl) (Nat.le_of_ble_eq_true rfl) dX4_addTariff_94 (fun q20 H f21 hH => ?_)
              have hw := hw q20 f21 _ rfl
              refine W.widen (k := 1) (n := 8) (Nat.le_of_ble_eq_true rfl) (Nat.le_of_ble_eq_true rfl) ?_
              refine lv_dup hC.1 hC.2.1 dX4_addTariff_97 rfl ?_
              refine lv_iload hC.1 hC.2.1 dX4_addTariff_98 (lv_at hl 0 rfl) ?_
              refine lv_iload_n hC.1 hC.2.1 dX4_addTariff_100 rfl (lv_at hl 2 rfl) ?_
              refine lv_iload_n hC.1 hC.2.1 dX4_addTariff_101 rfl (lv_at hl 3 rfl) ?_
              refine lv_iload_n hC.1 hC.2.1 dX4_addTariff_102 rfl (lv_at hl 4 rfl) ?_
              refine lv_iload hC.1 hC.2.1 dX4_addTariff_103 (lv_at hl 5 rfl) ?_
              refine lv_iload hC.1 hC.2.1 dX4_addTariff_105 (lv_at hl 6 rfl) ?_
              refine m_callIv (y := yX3_init) (rest := [.ref _, .ref _]) hC hs hH hl.1 (cwI 6 hC.2.2.2.2 (gA0 q_87) rfl rfl rfl (hC.2.2.2.2 _ (List.mem_cons_of_mem _ q_73)) (hC.2.2.2.2 _ (List.mem_cons_of_mem _ q_85)) (hC.2.2.2.2 _ (List.mem_cons_of_mem _ q_86)) rfl (by decide +kernel) ⟨Nat.le_of_ble_eq_true rfl, Nat.le_of_ble_eq_true rfl⟩) (met_X3_init l hl0 g _ _ _ _ _ _ _ _ _ _ hw) rfl rfl (Nat.le_of_ble_eq_true rfl) dX4_addTariff_107 ⟨Nat.le_of_ble_eq_true rfl, Nat.le_of_ble_eq_true rfl⟩ (m_out (fun x hx => (hnx x hx).elim) hlk (Nat.le_of_ble_eq_true rfl) (Nat.le_of_ble_eq_true rfl)) (fun S1 H locs hw hH => ?_)
              refine W.widen (k := 3) (n := 14) (Nat.le_of_ble_eq_true rfl) (Nat.le_of_ble_eq_true rfl) ?_
              obtain ⟨k25, hw⟩ := hw
              refine m_callVi (y := yJx4a65c_add_9ea2d) (rest := []) hC hs hH hl.1 (cwV 1 hC.2.2.2.2 (gA_V q_97 q_98 q_99 q_15 q_100) rfl rfl rfl (by decide +kernel) ⟨Nat.le_of_ble_eq_true rfl, Nat.le_of_ble_eq_true rfl⟩) cs6 k25 (met_Jx4a65c_add_9ea2d l hl0 g _ _ _ _ _ hw) rfl rfl (Nat.le_of_ble_eq_true rfl) dX4_addTariff_110 ⟨Nat.le_of_ble_eq_true rfl, Nat.le_of_ble_eq_true rfl⟩ (m_out (fun x hx => (hnx x hx).elim) hlk (Nat.le_of_ble_eq_true rfl) (Nat.le_of_ble_eq_true rfl)) (fun r26 S1 H locs hw hH => ?_)
              refine W.widen (k := 4) (n := 142) (Nat.le_of_ble_eq_true rfl) (Nat.le_of_ble_eq_true rfl) ?_
              refine lv_pop hC.1 hC.2.1 dX4_addTariff_113 rfl ?_
              refine lv_iload hC.1 hC.2.1 dX4_addTariff_114 (lv_at hl 0 rfl) ?_
              exact m_reti hC hH hrt rfl hlk (Nat.le_of_ble_eq_true rfl) (Nat.le_of_ble_eq_true rfl) dX4_addTariff_116 hw
            · have hw := hw.2 hc
              exact m_throwS (names := ["java/lang/RuntimeException", "java/lang/Exception"]) (text := "there are 5 tariffs") hC hs hH hl0 hl.1 rfl (by decide +kernel) (by decide +kernel) (List.mem_cons_of_mem _ q_69) (List.mem_cons_of_mem _ q_70) (by decide +kernel) (fun w h => List.mem_cons_of_mem _ (atISE w h)) bdISE (by decide +kernel) gdISE hnx hlk dX4_addTariff_80 dX4_addTariff_83 dX4_addTariff_84 dX4_addTariff_86 dX4_addTariff_89 (Nat.le_of_ble_eq_true rfl) (Nat.le_of_ble_eq_true rfl) (Nat.le_of_ble_eq_true rfl) (Nat.le_of_ble_eq_true rfl) (Nat.le_of_ble_eq_true rfl) (Nat.le_of_ble_eq_true rfl) hw
          · have hw := hw.2 hc
            exact m_throwS (names := ["java/lang/RuntimeException", "java/lang/Exception"]) (text := "an interval is not 1 to 300") hC hs hH hl0 hl.1 rfl (by decide +kernel) (by decide +kernel) (List.mem_cons_of_mem _ q_67) (List.mem_cons_of_mem _ q_68) (by decide +kernel) (fun w h => List.mem_cons_of_mem _ (atIAE w h)) bdIAE (by decide +kernel) gdIAE hnx hlk dX4_addTariff_55 dX4_addTariff_58 dX4_addTariff_59 dX4_addTariff_61 dX4_addTariff_64 (Nat.le_of_ble_eq_true rfl) (Nat.le_of_ble_eq_true rfl) (Nat.le_of_ble_eq_true rfl) (Nat.le_of_ble_eq_true rfl) (Nat.le_of_ble_eq_true rfl) (Nat.le_of_ble_eq_true rfl) hw
      · have hw := hw.2 hc
        exact m_throwS (names := ["java/lang/RuntimeException", "java/lang/Exception"]) (text := "a fee or a rate is not 0 to 10000") hC hs hH hl0 hl.1 rfl (by decide +kernel) (by decide +kernel) (List.mem_cons_of_mem _ q_67) (List.mem_cons_of_mem _ q_68) (by decide +kernel) (fun w h => List.mem_cons_of_mem _ (atIAE w h)) bdIAE (by decide +kernel) gdIAE hnx hlk dX4_addTariff_21 dX4_addTariff_24 dX4_addTariff_25 dX4_addTariff_27 dX4_addTariff_30 (Nat.le_of_ble_eq_true rfl) (Nat.le_of_ble_eq_true rfl) (Nat.le_of_ble_eq_true rfl) (Nat.le_of_ble_eq_true rfl) (Nat.le_of_ble_eq_true rfl) (Nat.le_of_ble_eq_true rfl) hw
abbrev rm_X4_findTariff : Room := { frames := 6, cells := 1, slots := 6, locals := 100 }
def wp_X4_findTariff (z : Nat × Nat) (S : mmS) (p0 : Nat) (p1 : Int32) (Q : Nat → mmS → Prop) (X : String → mmS → Prop) : Prop := (p1 < 0 → X "java/lang/IndexOutOfBoundsException" S) ∧ (¬ p1 < 0 → (p0 ∈ mL S ∧ mK S p0 = 4) ∧ ∃ b2 : Nat, mR S 8 p0 = some b2 ∧ (b2 ∈ mL S ∧ mK S b2 = 6) ∧ wp_Jx4a65c_size_8abf5 z S b2 (fun r6 S4 => (p1 < r6 → (p0 ∈ mL S4 ∧ mK S4 p0 = 4) ∧ ∃ b8 : Nat, mR S4 8 p0 = some b8 ∧ (b8 ∈ mL S4 ∧ mK S4 b8 = 6) ∧ wp_Jx4a65c_get_915e3 z S4 b8 p1 (fun r12 S10 => (r12 ∈ mL S10 ∧ mK S10 r12 = 3) ∧ Q r12 S10) X) ∧ (¬ p1 < r6 → X "java/lang/IndexOutOfBoundsException" S4)) X)
set_option maxHeartbeats 4000000 in
set_option maxRecDepth 100000 in
theorem met_X4_findTariff (l : Launch) (hl0 : l.stackTraces = false) (g : mG) (S : mmS) (p0 : Nat) (p1 : Int32) (Q : Nat → mmS → Prop) (X : String → mmS → Prop) (hw : wp_X4_findTariff g.2.2.2.2.2 S p0 p1 Q X) : mMq l g yX4_findTariff (wA_ yX4_findTariff cX4_findTariff 2 (some (.object "PhoneRater$Tariff"))) rm_X4_findTariff [.ref p0, .int p1] S Q X := by
  refine m_of (y := yX4_findTariff) (cc := cX4_findTariff) (maxL := 2) (ret := (some (.object "PhoneRater$Tariff"))) (by decide) rfl (Nat.le_of_ble_eq_true rfl) ?_
  intro p e s m args below meth c ls hC hrt hlk hmn hnx hs hH hl
  have hC : CallFix p m c cX4_findTariff 2 s args (wA_ yX4_findTariff cX4_findTariff 2 (some (.object "PhoneRater$Tariff"))) RX4 := hC
  have hl : lv_has ls 2 [(0, .ref p0), (1, .int p1)] := hl
  unfold wp_X4_findTariff at hw
  refine lv_iload_n hC.1 hC.2.1 dX4_findTariff_0 rfl (lv_at hl 1 rfl) ?_
  refine lv_if_lt (tgt := 15) hC.1 hC.2.1 dX4_findTariff_1 (by decide) (fun hc => ?_) (fun hc => ?_)
  · have hw := hw.1 hc
    exact m_throwSW (names := ["java/lang/RuntimeException", "java/lang/Exception"]) (text := "no such tariff") hC hs hH hl0 hl.1 rfl (by decide +kernel) (by decide +kernel) (List.mem_cons_of_mem _ q_181) (List.mem_cons_of_mem _ q_182) (by decide +kernel) (fun w h => List.mem_cons_of_mem _ (atIOB w h)) bdIOB (by decide +kernel) gdIOB hnx hlk dX4_findTariff_15 dX4_findTariff_18 dX4_findTariff_19 dX4_findTariff_22 dX4_findTariff_25 (Nat.le_of_ble_eq_true rfl) (Nat.le_of_ble_eq_true rfl) (Nat.le_of_ble_eq_true rfl) (Nat.le_of_ble_eq_true rfl) (Nat.le_of_ble_eq_true rfl) (Nat.le_of_ble_eq_true rfl) hw
  · have hw := hw.2 hc
    refine lv_iload_n hC.1 hC.2.1 dX4_findTariff_4 rfl (lv_at hl 1 rfl) ?_
    refine lv_aload_n hC.1 hC.2.1 dX4_findTariff_5 rfl (lv_at hl 0 rfl) ?_
    obtain ⟨k1, hw⟩ := hw
    obtain ⟨b2, r3, hw⟩ := hw
    refine m_getR hC hs hH cs4 fs4_0 (fun _ h => List.mem_cons_of_mem _ (inlX4 _ h)) (List.mem_cons_of_mem _ q_16) (fun _ h => h) k1 r3 dX4_findTariff_6 ?_
    obtain ⟨k5, hw⟩ := hw
    refine m_callVi (y := yJx4a65c_size_8abf5) (rest := [.int _]) hC hs hH hl.1 (cwV 0 hC.2.2.2.2 (gA_V q_80 q_81 q_82 q_15 q_83) rfl rfl rfl (by decide +kernel) ⟨Nat.le_of_ble_eq_true rfl, Nat.le_of_ble_eq_true rfl⟩) cs6 k5 (met_Jx4a65c_size_8abf5 l hl0 g _ _ _ _ hw) rfl rfl (Nat.le_of_ble_eq_true rfl) dX4_findTariff_9 ⟨Nat.le_of_ble_eq_true rfl, Nat.le_of_ble_eq_true rfl⟩ (m_out (fun x hx => (hnx x hx).elim) hlk (Nat.le_of_ble_eq_true rfl) (Nat.le_of_ble_eq_true rfl)) (fun r6 S1 H locs hw hH => ?_)
    refine W.widen (k := 0) (n := 0) (Nat.le_of_ble_eq_true rfl) (Nat.le_of_ble_eq_true rfl) ?_
    refine lv_icmp_lt (tgt := 26) hC.1 hC.2.1 dX4_findTariff_12 (by decide) (fun hc => ?_) (fun hc => ?_)
    · have hw := hw.1 hc
      refine lv_aload_n hC.1 hC.2.1 dX4_findTariff_26 rfl (lv_at hl 0 rfl) ?_
      obtain ⟨k7, hw⟩ := hw
      obtain ⟨b8, r9, hw⟩ := hw
      refine m_getR hC hs hH cs4 fs4_0 (fun _ h => List.mem_cons_of_mem _ (inlX4 _ h)) (List.mem_cons_of_mem _ q_16) (fun _ h => h) k7 r9 dX4_findTariff_27 ?_
      refine lv_iload_n hC.1 hC.2.1 dX4_findTariff_30 rfl (lv_at hl 1 rfl) ?_
      obtain ⟨k11, hw⟩ := hw
      refine m_callVq (y := yJx4a65c_get_915e3) (rest := []) hC hs hH hl.1 (cwV 1 hC.2.2.2.2 (gA_V q_184 q_185 q_186 q_15 q_187) rfl rfl rfl (by decide +kernel) ⟨Nat.le_of_ble_eq_true rfl, Nat.le_of_ble_eq_true rfl⟩) cs6 k11 (met_Jx4a65c_get_915e3 l hl0 g _ _ _ _ _ hw) rfl rfl (Nat.le_of_ble_eq_true rfl) dX4_findTariff_31 ⟨Nat.le_of_ble_eq_true rfl, Nat.le_of_ble_eq_true rfl⟩ (m_out (fun x hx => (hnx x hx).elim) hlk (Nat.le_of_ble_eq_true rfl) (Nat.le_of_ble_eq_true rfl)) (fun r12 S1 H locs hw hH => ?_)
      refine W.widen (k := 0) (n := 0) (Nat.le_of_ble_eq_true rfl) (Nat.le_of_ble_eq_true rfl) ?_
      obtain ⟨k13, hw⟩ := hw
      refine m_cast hC hs hH cs3 (List.mem_cons_of_mem _ q_71) k13 dX4_findTariff_34 ?_
      exact m_retq hC hH hrt (Or.inl ⟨_, rfl⟩) hlk (Nat.le_of_ble_eq_true rfl) (Nat.le_of_ble_eq_true rfl) dX4_findTariff_37 hw
    · have hw := hw.2 hc
      exact m_throwSW (names := ["java/lang/RuntimeException", "java/lang/Exception"]) (text := "no such tariff") hC hs hH hl0 hl.1 rfl (by decide +kernel) (by decide +kernel) (List.mem_cons_of_mem _ q_181) (List.mem_cons_of_mem _ q_182) (by decide +kernel) (fun w h => List.mem_cons_of_mem _ (atIOB w h)) bdIOB (by decide +kernel) gdIOB hnx hlk dX4_findTariff_15 dX4_findTariff_18 dX4_findTariff_19 dX4_findTariff_22 dX4_findTariff_25 (Nat.le_of_ble_eq_true rfl) (Nat.le_of_ble_eq_true rfl) (Nat.le_of_ble_eq_true rfl) (Nat.le_of_ble_eq_true rfl) (Nat.le_of_ble_eq_true rfl) (Nat.le_of_ble_eq_true rfl) hw
abbrev rm_X4_checkAbroad : Room := { frames := 6, cells := 1, slots := 6, locals := 100 }
def wp_X4_checkAbroad (z : Nat × Nat) (S : mmS) (p0 : Int32) (Q : mmS → Prop) (X : String → mmS → Prop) : Prop := wp_X4_isWithin z S p0 (1 : Int32) (2 : Int32) (fun r2 S1 => (¬ r2 = 0 → Q S1) ∧ (r2 = 0 → X "java/lang/IndexOutOfBoundsException" S1)) X
set_option maxHeartbeats 4000000 in
set_option maxRecDepth 100000 in
theorem met_X4_checkAbroad (l : Launch) (hl0 : l.stackTraces = false) (g : mG) (S : mmS) (p0 : Int32) (Q : mmS → Prop) (X : String → mmS → Prop) (hw : wp_X4_checkAbroad g.2.2.2.2.2 S p0 Q X) : mMv l g yX4_checkAbroad (wA_ yX4_checkAbroad cX4_checkAbroad 1 none) rm_X4_checkAbroad [.int p0] S Q X := by
  refine m_of (y := yX4_checkAbroad) (cc := cX4_checkAbroad) (maxL := 1) (ret := none) (by decide) rfl (Nat.le_of_ble_eq_true rfl) ?_
  intro p e s m args below meth c ls hC hrt hlk hmn hnx hs hH hl
  have hC : CallFix p m c cX4_checkAbroad 1 s args (wA_ yX4_checkAbroad cX4_checkAbroad 1 none) RX4 := hC
  have hl : lv_has ls 1 [(0, .int p0)] := hl
  unfold wp_X4_checkAbroad at hw
  refine lv_iload_n hC.1 hC.2.1 dX4_checkAbroad_0 rfl (lv_at hl 0 rfl) ?_
  refine lv_iconst (v := 1) hC.1 hC.2.1 dX4_checkAbroad_1 (by decide) ?_
  refine lv_iconst (v := 2) hC.1 hC.2.1 dX4_checkAbroad_2 (by decide) ?_
  refine m_callSi (y := yX4_isWithin) (rest := []) hC hs hH hl.1 (va_cwS 3 hC.2.2.2.2 (gA_S q_77 q_78 q_2 q_79) rfl rfl rfl (by decide +kernel) ⟨Nat.le_of_ble_eq_true rfl, Nat.le_of_ble_eq_true rfl⟩) (met_X4_isWithin l hl0 g _ _ _ _ _ _ hw) rfl rfl (Nat.le_of_ble_eq_true rfl) dX4_checkAbroad_3 ⟨Nat.le_of_ble_eq_true rfl, Nat.le_of_ble_eq_true rfl⟩ (m_out (fun x hx => (hnx x hx).elim) hlk (Nat.le_of_ble_eq_true rfl) (Nat.le_of_ble_eq_true rfl)) (fun r2 S1 H locs hw hH => ?_)
  refine W.widen (k := 0) (n := 0) (Nat.le_of_ble_eq_true rfl) (Nat.le_of_ble_eq_true rfl) ?_
  refine lv_if_ne (tgt := 20) hC.1 hC.2.1 dX4_checkAbroad_6 (by decide) (fun hc => ?_) (fun hc => ?_)
  · have hw := hw.1 hc
    exact m_retv hC hH hrt hlk (Nat.le_of_ble_eq_true rfl) (Nat.le_of_ble_eq_true rfl) dX4_checkAbroad_20 hw
  · have hw := hw.2 hc
    exact m_throwSW (names := ["java/lang/RuntimeException", "java/lang/Exception"]) (text := "no such zone abroad") hC hs hH hl0 hl.1 rfl (by decide +kernel) (by decide +kernel) (List.mem_cons_of_mem _ q_181) (List.mem_cons_of_mem _ q_182) (by decide +kernel) (fun w h => List.mem_cons_of_mem _ (atIOB w h)) bdIOB (by decide +kernel) gdIOB hnx hlk dX4_checkAbroad_9 dX4_checkAbroad_12 dX4_checkAbroad_13 dX4_checkAbroad_16 dX4_checkAbroad_19 (Nat.le_of_ble_eq_true rfl) (Nat.le_of_ble_eq_true rfl) (Nat.le_of_ble_eq_true rfl) (Nat.le_of_ble_eq_true rfl) (Nat.le_of_ble_eq_true rfl) (Nat.le_of_ble_eq_true rfl) hw
abbrev rm_X4_beginsInPeak : Room := { frames := 2, cells := 0, slots := 0, locals := 22 }
def bk_X4_beginsInPeak_25 (z : Nat × Nat) (Q : Int32 → mmS → Prop) (X : String → mmS → Prop) (S : mmS) (x0 : Nat) (x2 : Int32) (t0 : Int32) : Prop := (¬ t0 = 0 → Q (0 : Int32) S) ∧ (t0 = 0 → (x0 ∈ mL S ∧ mK S x0 = 4) ∧ wp_X4_isWithin z S x2 (mI S 21 x0) (mI S 22 x0) (fun r3 S2 => (r3 = 0 → Q (0 : Int32) S2) ∧ (¬ r3 = 0 → Q (1 : Int32) S2)) X)
def wp_X4_beginsInPeak (z : Nat × Nat) (S : mmS) (p0 : Nat) (p1 : Nat) (Q : Int32 → mmS → Prop) (X : String → mmS → Prop) : Prop := (p1 ∈ mL S ∧ mK S p1 = 1) ∧ ∀ v2 : Int32, v2 = ((mI S 7 p1) - (mI S 7 p1) / (1440 : Int32) * (1440 : Int32)) → wp_X1_day z S p1 (fun r4 S3 => ((r4 - r4 / (7 : Int32) * (7 : Int32)) < (5 : Int32) → bk_X4_beginsInPeak_25 z Q X S3 p0 v2 (0 : Int32)) ∧ (¬ (r4 - r4 / (7 : Int32) * (7 : Int32)) < (5 : Int32) → bk_X4_beginsInPeak_25 z Q X S3 p0 v2 (1 : Int32))) X
set_option maxHeartbeats 4000000 in
set_option maxRecDepth 100000 in
theorem bw_X4_beginsInPeak_25 {p : Program} {l : Launch} {e : Env} {s : State} {m : MethodId} {args : Array Value} {below : List Frame} {meth : Method} {c : Code} {g : mG} {Q : Int32 → mmS → Prop} {X : String → mmS → Prop} (hl0 : l.stackTraces = false) (hC : CallFix p m c cX4_beginsInPeak 4 s args (wA_ yX4_beginsInPeak cX4_beginsInPeak 4 (some .boolean)) RX4) (hrt : meth.sig.returnType = (some .boolean)) (hlk : meth.locks = false) (hmn : meth.name = yX4_beginsInPeak.name) (hnx : ∀ x ∈ c.exceptionTable.toList, False) (hs : mX g s) : ∀ (S : mmS) (x0 : Nat) (x2 : Int32) (t0 : Int32), bk_X4_beginsInPeak_25 g.2.2.2.2.2 Q X S x0 x2 t0 → ∀ (H : Heap) (locs : List Loc), mH g S s H locs → ∀ ls : Array Slot, lv_has ls 4 [(0, .ref x0), (2, .int x2)] → W p l e rm_X4_beginsInPeak s m args below meth c H locs 0 0 (vx_MQ below (va_Qi Q (wO g) (mB g)) (vx_X (fun _ : mmS => True) (fun E S1 t => X E S1 ∧ wO g S1 t) (mB g)) args s rm_X4_beginsInPeak.cells rm_X4_beginsInPeak.slots (mB g)) (F0 m 25 ls [.int t0]) := by
  intro S x0 x2 t0 hw H locs hH ls hl
  unfold bk_X4_beginsInPeak_25 at hw
  refine lv_istore_n (lv' := [(3, .int _), (0, .ref _), (2, .int _)]) hC.1 hC.2.1 dX4_beginsInPeak_25 rfl hl (by decide) rfl (fun ls hl => ?_)
  refine lv_iload_n hC.1 hC.2.1 dX4_beginsInPeak_26 rfl (lv_at hl 0 rfl) ?_
  refine lv_if_ne (tgt := 49) hC.1 hC.2.1 dX4_beginsInPeak_27 (by decide) (fun hc => ?_) (fun hc => ?_)
  · have hw := hw.1 hc
    refine lv_iconst (v := 0) hC.1 hC.2.1 dX4_beginsInPeak_49 (by decide) ?_
    exact m_reti hC hH hrt rfl hlk (Nat.le_of_ble_eq_true rfl) (Nat.le_of_ble_eq_true rfl) dX4_beginsInPeak_50 hw
  · have hw := hw.2 hc
    refine lv_iload_n hC.1 hC.2.1 dX4_beginsInPeak_30 rfl (lv_at hl 2 rfl) ?_
    refine lv_aload_n hC.1 hC.2.1 dX4_beginsInPeak_31 rfl (lv_at hl 1 rfl) ?_
    obtain ⟨k1, hw⟩ := hw
    refine m_getI hC hs hH cs4 fs4_5 (fun _ h => List.mem_cons_of_mem _ (inlX4 _ h)) (List.mem_cons_of_mem _ q_21) (fun _ h => h) k1 dX4_beginsInPeak_32 ?_
    refine lv_aload_n hC.1 hC.2.1 dX4_beginsInPeak_35 rfl (lv_at hl 1 rfl) ?_
    refine m_getI hC hs hH cs4 fs4_6 (fun _ h => List.mem_cons_of_mem _ (inlX4 _ h)) (List.mem_cons_of_mem _ q_22) (fun _ h => h) k1 dX4_beginsInPeak_36 ?_
    refine m_callSi (y := yX4_isWithin) (rest := []) hC hs hH hl.1 (va_cwS 3 hC.2.2.2.2 (gA_S q_77 q_78 q_2 q_79) rfl rfl rfl (by decide +kernel) ⟨Nat.le_of_ble_eq_true rfl, Nat.le_of_ble_eq_true rfl⟩) (met_X4_isWithin l hl0 g _ _ _ _ _ _ hw) rfl rfl (Nat.le_of_ble_eq_true rfl) dX4_beginsInPeak_39 ⟨Nat.le_of_ble_eq_true rfl, Nat.le_of_ble_eq_true rfl⟩ (m_out (fun x hx => (hnx x hx).elim) hlk (Nat.le_of_ble_eq_true rfl) (Nat.le_of_ble_eq_true rfl)) (fun r3 S1 H locs hw hH => ?_)
    refine W.widen (k := 0) (n := 0) (Nat.le_of_ble_eq_true rfl) (Nat.le_of_ble_eq_true rfl) ?_
    refine lv_if_eq (tgt := 49) hC.1 hC.2.1 dX4_beginsInPeak_42 (by decide) (fun hc => ?_) (fun hc => ?_)
    · have hw := hw.1 hc
      refine lv_iconst (v := 0) hC.1 hC.2.1 dX4_beginsInPeak_49 (by decide) ?_
      exact m_reti hC hH hrt rfl hlk (Nat.le_of_ble_eq_true rfl) (Nat.le_of_ble_eq_true rfl) dX4_beginsInPeak_50 hw
    · have hw := hw.2 hc
      refine lv_iconst (v := 1) hC.1 hC.2.1 dX4_beginsInPeak_45 (by decide) ?_
      refine lv_goto (tgt := 50) hC.1 hC.2.1 dX4_beginsInPeak_46 (by decide) ?_
      exact m_reti hC hH hrt rfl hlk (Nat.le_of_ble_eq_true rfl) (Nat.le_of_ble_eq_true rfl) dX4_beginsInPeak_50 hw
set_option maxHeartbeats 4000000 in
set_option maxRecDepth 100000 in
theorem met_X4_beginsInPeak (l : Launch) (hl0 : l.stackTraces = false) (g : mG) (S : mmS) (p0 : Nat) (p1 : Nat) (Q : Int32 → mmS → Prop) (X : String → mmS → Prop) (hw : wp_X4_beginsInPeak g.2.2.2.2.2 S p0 p1 Q X) : mMi l g yX4_beginsInPeak (wA_ yX4_beginsInPeak cX4_beginsInPeak 4 (some .boolean)) rm_X4_beginsInPeak [.ref p0, .ref p1] S Q X := by
  refine m_of (y := yX4_beginsInPeak) (cc := cX4_beginsInPeak) (maxL := 4) (ret := (some .boolean)) (by decide) rfl (Nat.le_of_ble_eq_true rfl) ?_
  intro p e s m args below meth c ls hC hrt hlk hmn hnx hs hH hl
  have hC : CallFix p m c cX4_beginsInPeak 4 s args (wA_ yX4_beginsInPeak cX4_beginsInPeak 4 (some .boolean)) RX4 := hC
  have hl : lv_has ls 4 [(0, .ref p0), (1, .ref p1)] := hl
  unfold wp_X4_beginsInPeak at hw
  refine lv_aload_n hC.1 hC.2.1 dX4_beginsInPeak_0 rfl (lv_at hl 1 rfl) ?_
  obtain ⟨k1, hw⟩ := hw
  refine m_getI hC hs hH cs1 fs1_2 (fun _ h => List.mem_cons_of_mem _ (inlX1 _ h)) (List.mem_cons_of_mem _ q_268) (fun _ h => h) k1 dX4_beginsInPeak_1 ?_
  refine lv_sipush (v := 1440) hC.1 hC.2.1 dX4_beginsInPeak_4 (by decide) ?_
  refine lv_irem hC.1 hC.2.1 dX4_beginsInPeak_7 (by decide) ?_
  have hw := hw _ rfl
  refine lv_istore_n (lv' := [(2, .int _), (0, .ref _), (1, .ref _)]) hC.1 hC.2.1 dX4_beginsInPeak_8 rfl hl (by decide) rfl (fun ls hl => ?_)
  refine lv_aload_n hC.1 hC.2.1 dX4_beginsInPeak_9 rfl (lv_at hl 2 rfl) ?_
  refine m_callVi (y := yX1_day) (rest := []) hC hs hH hl.1 (cwV 0 hC.2.2.2.2 (gA_V q_269 q_270 q_271 q_231 q_272) rfl rfl rfl (by decide +kernel) ⟨Nat.le_of_ble_eq_true rfl, Nat.le_of_ble_eq_true rfl⟩) cs1 k1 (met_X1_day l hl0 g _ _ _ _ hw) rfl rfl (Nat.le_of_ble_eq_true rfl) dX4_beginsInPeak_10 ⟨Nat.le_of_ble_eq_true rfl, Nat.le_of_ble_eq_true rfl⟩ (m_out (fun x hx => (hnx x hx).elim) hlk (Nat.le_of_ble_eq_true rfl) (Nat.le_of_ble_eq_true rfl)) (fun r4 S1 H locs hw hH => ?_)
  refine W.widen (k := 0) (n := 0) (Nat.le_of_ble_eq_true rfl) (Nat.le_of_ble_eq_true rfl) ?_
  refine lv_bipush (v := 7) hC.1 hC.2.1 dX4_beginsInPeak_13 (by decide) ?_
  refine lv_irem hC.1 hC.2.1 dX4_beginsInPeak_15 (by decide) ?_
  refine lv_iconst (v := 5) hC.1 hC.2.1 dX4_beginsInPeak_16 (by decide) ?_
  refine lv_icmp_lt (tgt := 24) hC.1 hC.2.1 dX4_beginsInPeak_17 (by decide) (fun hc => ?_) (fun hc => ?_)
  · have hw := hw.1 hc
    refine lv_iconst (v := 0) hC.1 hC.2.1 dX4_beginsInPeak_24 (by decide) ?_
    exact bw_X4_beginsInPeak_25 hl0 hC hrt hlk hmn hnx hs _ _ _ _ hw _ _ hH _ (lv_sub hl [1, 0] rfl)
  · have hw := hw.2 hc
    refine lv_iconst (v := 1) hC.1 hC.2.1 dX4_beginsInPeak_20 (by decide) ?_
    refine lv_goto (tgt := 25) hC.1 hC.2.1 dX4_beginsInPeak_21 (by decide) ?_
    exact bw_X4_beginsInPeak_25 hl0 hC hrt hlk hmn hnx hs _ _ _ _ hw _ _ hH _ (lv_sub hl [1, 0] rfl)
abbrev rm_X4_rateDayFee : Room := { frames := 2, cells := 0, slots := 0, locals := 47 }
def bk_X4_rateDayFee_42 (z : Nat × Nat) (Q : mmS → Prop) (X : String → mmS → Prop) (S : mmS) (x0 : Nat) (x1 : Nat) (x2 : Int32) : Prop := (x0 ∈ mL S ∧ mK S x0 = 1) ∧ (x1 ∈ mL S ∧ mK S x1 = 2) ∧ wp_X2_takeFreeOfDay z S x1 x2 (mI S 10 x0) (fun r4 S2 => (x0 ∈ mL S2 ∧ mK S2 x0 = 1) ∧ ∀ S6 : mmS, S6 = sI S2 11 x0 r4 → Q S6) X
def wp_X4_rateDayFee (z : Nat × Nat) (S : mmS) (p0 : Nat) (Q : mmS → Prop) (X : String → mmS → Prop) : Prop := (p0 ∈ mL S ∧ mK S p0 = 1) ∧ ∃ b2 : Nat, mR S 0 p0 = some b2 ∧ ∀ v4 : Int32, v4 = (mI S 8 p0) → (b2 ∈ mL S ∧ mK S b2 = 2) ∧ ∃ b6 : Nat, mR S 2 b2 = some b6 ∧ (b6 ∈ mL S ∧ mK S b6 = 3) ∧ ∃ b9 : Nat, mR S 7 b6 = some b9 ∧ (b9 ∈ mL S ∧ mK S b9 = 7) ∧ vp_in v4 (mN S b9) ∧ ∀ v13 : Int32, v13 = (mA S b9 (v4).toNatClampNeg) → (¬ v13 = 0 → wp_X1_day z S p0 (fun r15 S14 => (b2 ∈ mL S14 ∧ mK S14 b2 = 2) ∧ wp_X2_beginsFeeDay z S14 b2 v4 r15 (fun r18 S16 => (r18 = 0 → bk_X4_rateDayFee_42 z Q X S16 p0 b2 v4) ∧ (¬ r18 = 0 → (p0 ∈ mL S16 ∧ mK S16 p0 = 1) ∧ ∀ S20 : mmS, S20 = sI S16 13 p0 v13 → bk_X4_rateDayFee_42 z Q X S20 p0 b2 v4)) X) X) ∧ (v13 = 0 → Q S)
set_option maxHeartbeats 4000000 in
set_option maxRecDepth 100000 in
theorem bw_X4_rateDayFee_42 {p : Program} {l : Launch} {e : Env} {s : State} {m : MethodId} {args : Array Value} {below : List Frame} {meth : Method} {c : Code} {g : mG} {Q : mmS → Prop} {X : String → mmS → Prop} (hl0 : l.stackTraces = false) (hC : CallFix p m c cX4_rateDayFee 4 s args (wA_ yX4_rateDayFee cX4_rateDayFee 4 none) RX4) (hrt : meth.sig.returnType = none) (hlk : meth.locks = false) (hmn : meth.name = yX4_rateDayFee.name) (hnx : ∀ x ∈ c.exceptionTable.toList, False) (hs : mX g s) : ∀ (S : mmS) (x0 : Nat) (x1 : Nat) (x2 : Int32), bk_X4_rateDayFee_42 g.2.2.2.2.2 Q X S x0 x1 x2 → ∀ (H : Heap) (locs : List Loc), mH g S s H locs → ∀ ls : Array Slot, lv_has ls 4 [(0, .ref x0), (1, .ref x1), (2, .int x2)] → W p l e rm_X4_rateDayFee s m args below meth c H locs 0 0 (vx_MQ below (va_Qv Q (wO g) (mB g)) (vx_X (fun _ : mmS => True) (fun E S1 t => X E S1 ∧ wO g S1 t) (mB g)) args s rm_X4_rateDayFee.cells rm_X4_rateDayFee.slots (mB g)) (F0 m 42 ls []) := by
  intro S x0 x1 x2 hw H locs hH ls hl
  unfold bk_X4_rateDayFee_42 at hw
  refine lv_aload_n hC.1 hC.2.1 dX4_rateDayFee_42 rfl (lv_at hl 0 rfl) ?_
  refine lv_aload_n hC.1 hC.2.1 dX4_rateDayFee_43 rfl (lv_at hl 1 rfl) ?_
  refine lv_iload_n hC.1 hC.2.1 dX4_rateDayFee_44 rfl (lv_at hl 2 rfl) ?_
  refine lv_aload_n hC.1 hC.2.1 dX4_rateDayFee_45 rfl (lv_at hl 0 rfl) ?_
  obtain ⟨k1, hw⟩ := hw
  refine m_getI hC hs hH cs1 fs1_5 (fun _ h => List.mem_cons_of_mem _ (inlX1 _ h)) (List.mem_cons_of_mem _ q_243) (fun _ h => h) k1 dX4_rateDayFee_46 ?_
  obtain ⟨k3, hw⟩ := hw
  refine m_callVi (y := yX2_takeFreeOfDay) (rest := [.ref _]) hC hs hH hl.1 (cwV 2 hC.2.2.2.2 (gA_V q_282 q_283 q_284 q_223 q_285) rfl rfl rfl (by decide +kernel) ⟨Nat.le_of_ble_eq_true rfl, Nat.le_of_ble_eq_true rfl⟩) cs2 k3 (met_X2_takeFreeOfDay l hl0 g _ _ _ _ _ _ hw) rfl rfl (Nat.le_of_ble_eq_true rfl) dX4_rateDayFee_49 ⟨Nat.le_of_ble_eq_true rfl, Nat.le_of_ble_eq_true rfl⟩ (m_out (fun x hx => (hnx x hx).elim) hlk (Nat.le_of_ble_eq_true rfl) (Nat.le_of_ble_eq_true rfl)) (fun r4 S1 H locs hw hH => ?_)
  refine W.widen (k := 0) (n := 0) (Nat.le_of_ble_eq_true rfl) (Nat.le_of_ble_eq_true rfl) ?_
  obtain ⟨k5, hw⟩ := hw
  have hw := hw _ rfl
  refine m_putI hC hs hH cs1 fs1_6 (fun _ h => List.mem_cons_of_mem _ (inlX1 _ h)) (List.mem_cons_of_mem _ q_246) (fun _ h => h) (Or.inl rfl) rfl k5 dX4_rateDayFee_52 (fun H locs hH => ?_)
  exact m_retv hC hH hrt hlk (Nat.le_of_ble_eq_true rfl) (Nat.le_of_ble_eq_true rfl) dX4_rateDayFee_55 hw
set_option maxHeartbeats 4000000 in
set_option maxRecDepth 100000 in
theorem met_X4_rateDayFee (l : Launch) (hl0 : l.stackTraces = false) (g : mG) (S : mmS) (p0 : Nat) (Q : mmS → Prop) (X : String → mmS → Prop) (hw : wp_X4_rateDayFee g.2.2.2.2.2 S p0 Q X) : mMv l g yX4_rateDayFee (wA_ yX4_rateDayFee cX4_rateDayFee 4 none) rm_X4_rateDayFee [.ref p0] S Q X := by
  refine m_of (y := yX4_rateDayFee) (cc := cX4_rateDayFee) (maxL := 4) (ret := none) (by decide) rfl (Nat.le_of_ble_eq_true rfl) ?_
  intro p e s m args below meth c ls hC hrt hlk hmn hnx hs hH hl
  have hC : CallFix p m c cX4_rateDayFee 4 s args (wA_ yX4_rateDayFee cX4_rateDayFee 4 none) RX4 := hC
  have hl : lv_has ls 4 [(0, .ref p0)] := hl
  unfold wp_X4_rateDayFee at hw
  refine lv_aload_n hC.1 hC.2.1 dX4_rateDayFee_0 rfl (lv_at hl 0 rfl) ?_
  obtain ⟨k1, hw⟩ := hw
  obtain ⟨b2, r3, hw⟩ := hw
  refine m_getR hC hs hH cs1 fs1_1 (fun _ h => List.mem_cons_of_mem _ (inlX1 _ h)) (List.mem_cons_of_mem _ q_241) (fun _ h => h) k1 r3 dX4_rateDayFee_1 ?_
  refine lv_astore_n (lv' := [(1, .ref _), (0, .ref _)]) hC.1 hC.2.1 dX4_rateDayFee_4 rfl hl (by decide) rfl (fun ls hl => ?_)
  refine lv_aload_n hC.1 hC.2.1 dX4_rateDayFee_5 rfl (lv_at hl 1 rfl) ?_
  refine m_getI hC hs hH cs1 fs1_3 (fun _ h => List.mem_cons_of_mem _ (inlX1 _ h)) (List.mem_cons_of_mem _ q_244) (fun _ h => h) k1 dX4_rateDayFee_6 ?_
  have hw := hw _ rfl
  refine lv_istore_n (lv' := [(2, .int _), (1, .ref _), (0, .ref _)]) hC.1 hC.2.1 dX4_rateDayFee_9 rfl hl (by decide) rfl (fun ls hl => ?_)
  refine lv_aload_n hC.1 hC.2.1 dX4_rateDayFee_10 rfl (lv_at hl 1 rfl) ?_
  obtain ⟨k5, hw⟩ := hw
  obtain ⟨b6, r7, hw⟩ := hw
  refine m_getR hC hs hH cs2 fs2_1 (fun _ h => List.mem_cons_of_mem _ (inlX2 _ h)) (List.mem_cons_of_mem _ q_242) (fun _ h => h) k5 r7 dX4_rateDayFee_11 ?_
  obtain ⟨k8, hw⟩ := hw
  obtain ⟨b9, r10, hw⟩ := hw
  refine m_getR hC hs hH cs3 fs3_7 (fun _ h => List.mem_cons_of_mem _ (inlX3 _ h)) (List.mem_cons_of_mem _ q_176) (fun _ h => h) k8 r10 dX4_rateDayFee_14 ?_
  refine lv_iload_n hC.1 hC.2.1 dX4_rateDayFee_17 rfl (lv_at hl 0 rfl) ?_
  obtain ⟨k11, hw⟩ := hw
  obtain ⟨i12, hw⟩ := hw
  refine m_iald hC hs hH k11 i12 dX4_rateDayFee_18 ?_
  have hw := hw _ rfl
  refine lv_istore_n (lv' := [(3, .int _), (2, .int _), (1, .ref _), (0, .ref _)]) hC.1 hC.2.1 dX4_rateDayFee_19 rfl hl (by decide) rfl (fun ls hl => ?_)
  refine lv_iload_n hC.1 hC.2.1 dX4_rateDayFee_20 rfl (lv_at hl 0 rfl) ?_
  refine lv_if_ne (tgt := 25) hC.1 hC.2.1 dX4_rateDayFee_21 (by decide) (fun hc => ?_) (fun hc => ?_)
  · have hw := hw.1 hc
    refine lv_aload_n hC.1 hC.2.1 dX4_rateDayFee_25 rfl (lv_at hl 2 rfl) ?_
    refine lv_iload_n hC.1 hC.2.1 dX4_rateDayFee_26 rfl (lv_at hl 1 rfl) ?_
    refine lv_aload_n hC.1 hC.2.1 dX4_rateDayFee_27 rfl (lv_at hl 3 rfl) ?_
    refine m_callVi (y := yX1_day) (rest := [.int _, .ref _]) hC hs hH hl.1 (cwV 0 hC.2.2.2.2 (gA_V q_269 q_270 q_271 q_231 q_272) rfl rfl rfl (by decide +kernel) ⟨Nat.le_of_ble_eq_true rfl, Nat.le_of_ble_eq_true rfl⟩) cs1 k1 (met_X1_day l hl0 g _ _ _ _ hw) rfl rfl (Nat.le_of_ble_eq_true rfl) dX4_rateDayFee_28 ⟨Nat.le_of_ble_eq_true rfl, Nat.le_of_ble_eq_true rfl⟩ (m_out (fun x hx => (hnx x hx).elim) hlk (Nat.le_of_ble_eq_true rfl) (Nat.le_of_ble_eq_true rfl)) (fun r15 S1 H locs hw hH => ?_)
    refine W.widen (k := 0) (n := 0) (Nat.le_of_ble_eq_true rfl) (Nat.le_of_ble_eq_true rfl) ?_
    obtain ⟨k17, hw⟩ := hw
    refine m_callVi (y := yX2_beginsFeeDay) (rest := []) hC hs hH hl.1 (cwV 2 hC.2.2.2.2 (gA_V q_277 q_278 q_279 q_223 q_280) rfl rfl rfl (by decide +kernel) ⟨Nat.le_of_ble_eq_true rfl, Nat.le_of_ble_eq_true rfl⟩) cs2 k17 (met_X2_beginsFeeDay l hl0 g _ _ _ _ _ _ hw) rfl rfl (Nat.le_of_ble_eq_true rfl) dX4_rateDayFee_31 ⟨Nat.le_of_ble_eq_true rfl, Nat.le_of_ble_eq_true rfl⟩ (m_out (fun x hx => (hnx x hx).elim) hlk (Nat.le_of_ble_eq_true rfl) (Nat.le_of_ble_eq_true rfl)) (fun r18 S1 H locs hw hH => ?_)
    refine W.widen (k := 0) (n := 0) (Nat.le_of_ble_eq_true rfl) (Nat.le_of_ble_eq_true rfl) ?_
    refine lv_if_eq (tgt := 42) hC.1 hC.2.1 dX4_rateDayFee_34 (by decide) (fun hc => ?_) (fun hc => ?_)
    · have hw := hw.1 hc
      exact bw_X4_rateDayFee_42 hl0 hC hrt hlk hmn hnx hs _ _ _ _ hw _ _ hH _ (lv_sub hl [3, 2, 1] rfl)
    · have hw := hw.2 hc
      refine lv_aload_n hC.1 hC.2.1 dX4_rateDayFee_37 rfl (lv_at hl 3 rfl) ?_
      refine lv_iload_n hC.1 hC.2.1 dX4_rateDayFee_38 rfl (lv_at hl 0 rfl) ?_
      obtain ⟨k19, hw⟩ := hw
      have hw := hw _ rfl
      refine m_putI hC hs hH cs1 fs1_8 (fun _ h => List.mem_cons_of_mem _ (inlX1 _ h)) (List.mem_cons_of_mem _ q_249) (fun _ h => h) (Or.inl rfl) rfl k19 dX4_rateDayFee_39 (fun H locs hH => ?_)
      exact bw_X4_rateDayFee_42 hl0 hC hrt hlk hmn hnx hs _ _ _ _ hw _ _ hH _ (lv_sub hl [3, 2, 1] rfl)
  · have hw := hw.2 hc
    exact m_retv hC hH hrt hlk (Nat.le_of_ble_eq_true rfl) (Nat.le_of_ble_eq_true rfl) dX4_rateDayFee_24 hw
abbrev rm_X4_rate : Room := { frames := 3, cells := 0, slots := 0, locals := 70 }
def bk_X4_rate_80 (z : Nat × Nat) (Q : mmS → Prop) (X : String → mmS → Prop) (S : mmS) (x1 : Nat) (x2 : Nat) (x3 : Nat) (x4 : Int32) : Prop := (x1 ∈ mL S ∧ mK S x1 = 1) ∧ (x3 ∈ mL S ∧ mK S x3 = 3) ∧ wp_X3_chargeFor z S x3 ((mI S 10 x1) - (mI S 11 x1)) x4 (fun r4 S2 => (x1 ∈ mL S2 ∧ mK S2 x1 = 1) ∧ ∀ S6 : mmS, S6 = sI S2 12 x1 ((mI S 13 x1) + r4) → (x2 ∈ mL S6 ∧ mK S6 x2 = 2) ∧ ∀ S8 : mmS, S8 = sI S6 14 x2 ((mI S6 14 x2) + (mI S6 12 x1)) → ∃ b9 : Nat, mR S8 1 x2 = some b9 ∧ (b9 ∈ mL S8 ∧ mK S8 b9 = 0) ∧ ∀ S12 : mmS, S12 = sI S8 5 b9 ((mI S8 5 b9) + (mI S8 12 x1)) → Q S12) X
def bk_X4_rate_60 (z : Nat × Nat) (Q : mmS → Prop) (X : String → mmS → Prop) (S : mmS) (x1 : Nat) (x2 : Nat) (x3 : Nat) (t0 : Int32) : Prop := bk_X4_rate_80 z Q X S x1 x2 x3 t0
def wp_X4_rate (z : Nat × Nat) (S : mmS) (p0 : Nat) (p1 : Nat) (Q : mmS → Prop) (X : String → mmS → Prop) : Prop := (p1 ∈ mL S ∧ mK S p1 = 1) ∧ ∃ b2 : Nat, mR S 0 p1 = some b2 ∧ (b2 ∈ mL S ∧ mK S b2 = 2) ∧ ∃ b5 : Nat, mR S 2 b2 = some b5 ∧ (b5 ∈ mL S ∧ mK S b5 = 3) ∧ wp_X3_billedFor z S b5 (mI S 9 p1) (fun r9 S7 => (p1 ∈ mL S7 ∧ mK S7 p1 = 1) ∧ ∀ S11 : mmS, S11 = sI S7 10 p1 r9 → (¬ (mI S11 8 p1) = 0 → wp_X4_rateDayFee z S11 p1 (fun S12 => (b5 ∈ mL S12 ∧ mK S12 b5 = 3) ∧ ∃ b14 : Nat, mR S12 6 b5 = some b14 ∧ (p1 ∈ mL S12 ∧ mK S12 p1 = 1) ∧ (b14 ∈ mL S12 ∧ mK S12 b14 = 7) ∧ vp_in (mI S12 8 p1) (mN S12 b14) ∧ ∀ v19 : Int32, v19 = (mA S12 b14 (mI S12 8 p1).toNatClampNeg) → bk_X4_rate_80 z Q X S12 p1 b2 b5 v19) X) ∧ ((mI S11 8 p1) = 0 → (b2 ∈ mL S11 ∧ mK S11 b2 = 2) ∧ ∃ b21 : Nat, mR S11 1 b2 = some b21 ∧ (b21 ∈ mL S11 ∧ mK S11 b21 = 0) ∧ wp_X0_takeFromBundle z S11 b21 p1 (fun r25 S23 => (p1 ∈ mL S23 ∧ mK S23 p1 = 1) ∧ ∀ S27 : mmS, S27 = sI S23 11 p1 r25 → (p0 ∈ mL S27 ∧ mK S27 p0 = 4) ∧ wp_X4_beginsInPeak z S27 p0 p1 (fun r30 S28 => (r30 = 0 → (b5 ∈ mL S28 ∧ mK S28 b5 = 3) ∧ bk_X4_rate_60 z Q X S28 p1 b2 b5 (mI S28 18 b5)) ∧ (¬ r30 = 0 → (b5 ∈ mL S28 ∧ mK S28 b5 = 3) ∧ bk_X4_rate_60 z Q X S28 p1 b2 b5 (mI S28 17 b5))) X) X)) X
set_option maxHeartbeats 4000000 in
set_option maxRecDepth 100000 in
theorem bw_X4_rate_80 {p : Program} {l : Launch} {e : Env} {s : State} {m : MethodId} {args : Array Value} {below : List Frame} {meth : Method} {c : Code} {g : mG} {Q : mmS → Prop} {X : String → mmS → Prop} (hl0 : l.stackTraces = false) (hC : CallFix p m c cX4_rate 5 s args (wA_ yX4_rate cX4_rate 5 none) RX4) (hrt : meth.sig.returnType = none) (hlk : meth.locks = false) (hmn : meth.name = yX4_rate.name) (hnx : ∀ x ∈ c.exceptionTable.toList, False) (hs : mX g s) : ∀ (S : mmS) (x1 : Nat) (x2 : Nat) (x3 : Nat) (x4 : Int32), bk_X4_rate_80 g.2.2.2.2.2 Q X S x1 x2 x3 x4 → ∀ (H : Heap) (locs : List Loc), mH g S s H locs → ∀ ls : Array Slot, lv_has ls 5 [(1, .ref x1), (2, .ref x2), (3, .ref x3), (4, .int x4)] → W p l e rm_X4_rate s m args below meth c H locs 0 0 (vx_MQ below (va_Qv Q (wO g) (mB g)) (vx_X (fun _ : mmS => True) (fun E S1 t => X E S1 ∧ wO g S1 t) (mB g)) args s rm_X4_rate.cells rm_X4_rate.slots (mB g)) (F0 m 80 ls []) := by
  intro S x1 x2 x3 x4 hw H locs hH ls hl
  unfold bk_X4_rate_80 at hw
  refine lv_aload_n hC.1 hC.2.1 dX4_rate_80 rfl (lv_at hl 0 rfl) ?_
  refine lv_aload_n hC.1 hC.2.1 dX4_rate_81 rfl (lv_at hl 0 rfl) ?_
  obtain ⟨k1, hw⟩ := hw
  refine m_getI hC hs hH cs1 fs1_8 (fun _ h => List.mem_cons_of_mem _ (inlX1 _ h)) (List.mem_cons_of_mem _ q_249) (fun _ h => h) k1 dX4_rate_82 ?_
  refine lv_aload_n hC.1 hC.2.1 dX4_rate_85 rfl (lv_at hl 2 rfl) ?_
  refine lv_aload_n hC.1 hC.2.1 dX4_rate_86 rfl (lv_at hl 0 rfl) ?_
  refine m_getI hC hs hH cs1 fs1_5 (fun _ h => List.mem_cons_of_mem _ (inlX1 _ h)) (List.mem_cons_of_mem _ q_243) (fun _ h => h) k1 dX4_rate_87 ?_
  refine lv_aload_n hC.1 hC.2.1 dX4_rate_90 rfl (lv_at hl 0 rfl) ?_
  refine m_getI hC hs hH cs1 fs1_6 (fun _ h => List.mem_cons_of_mem _ (inlX1 _ h)) (List.mem_cons_of_mem _ q_246) (fun _ h => h) k1 dX4_rate_91 ?_
  refine lv_isub hC.1 hC.2.1 dX4_rate_94 ?_
  refine lv_iload hC.1 hC.2.1 dX4_rate_95 (lv_at hl 3 rfl) ?_
  obtain ⟨k3, hw⟩ := hw
  refine m_callVi (y := yX3_chargeFor) (rest := [.int _, .ref _]) hC hs hH hl.1 (cwV 2 hC.2.2.2.2 (gA_V q_287 q_288 q_289 q_73 q_290) rfl rfl rfl (by decide +kernel) ⟨Nat.le_of_ble_eq_true rfl, Nat.le_of_ble_eq_true rfl⟩) cs3 k3 (met_X3_chargeFor l hl0 g _ _ _ _ _ _ hw) rfl rfl (Nat.le_of_ble_eq_true rfl) dX4_rate_97 ⟨Nat.le_of_ble_eq_true rfl, Nat.le_of_ble_eq_true rfl⟩ (m_out (fun x hx => (hnx x hx).elim) hlk (Nat.le_of_ble_eq_true rfl) (Nat.le_of_ble_eq_true rfl)) (fun r4 S1 H locs hw hH => ?_)
  refine W.widen (k := 0) (n := 0) (Nat.le_of_ble_eq_true rfl) (Nat.le_of_ble_eq_true rfl) ?_
  refine lv_iadd hC.1 hC.2.1 dX4_rate_100 ?_
  obtain ⟨k5, hw⟩ := hw
  have hw := hw _ rfl
  refine m_putI hC hs hH cs1 fs1_7 (fun _ h => List.mem_cons_of_mem _ (inlX1 _ h)) (List.mem_cons_of_mem _ q_250) (fun _ h => h) (Or.inl rfl) rfl k5 dX4_rate_101 (fun H locs hH => ?_)
  refine lv_aload_n hC.1 hC.2.1 dX4_rate_104 rfl (lv_at hl 1 rfl) ?_
  refine lv_dup hC.1 hC.2.1 dX4_rate_105 rfl ?_
  obtain ⟨k7, hw⟩ := hw
  refine m_getI hC hs hH cs2 fs2_2 (fun _ h => List.mem_cons_of_mem _ (inlX2 _ h)) (List.mem_cons_of_mem _ q_251) (fun _ h => h) k7 dX4_rate_106 ?_
  refine lv_aload_n hC.1 hC.2.1 dX4_rate_109 rfl (lv_at hl 0 rfl) ?_
  refine m_getI hC hs hH cs1 fs1_7 (fun _ h => List.mem_cons_of_mem _ (inlX1 _ h)) (List.mem_cons_of_mem _ q_250) (fun _ h => h) k5 dX4_rate_110 ?_
  refine lv_iadd hC.1 hC.2.1 dX4_rate_113 ?_
  have hw := hw _ rfl
  refine m_putI hC hs hH cs2 fs2_2 (fun _ h => List.mem_cons_of_mem _ (inlX2 _ h)) (List.mem_cons_of_mem _ q_251) (fun _ h => h) (Or.inl rfl) rfl k7 dX4_rate_114 (fun H locs hH => ?_)
  refine lv_aload_n hC.1 hC.2.1 dX4_rate_117 rfl (lv_at hl 1 rfl) ?_
  obtain ⟨b9, r10, hw⟩ := hw
  refine m_getR hC hs hH cs2 fs2_0 (fun _ h => List.mem_cons_of_mem _ (inlX2 _ h)) (List.mem_cons_of_mem _ q_245) (fun _ h => h) k7 r10 dX4_rate_118 ?_
  refine lv_dup hC.1 hC.2.1 dX4_rate_121 rfl ?_
  obtain ⟨k11, hw⟩ := hw
  refine m_getI hC hs hH cs0 fs0_5 (fun _ h => List.mem_cons_of_mem _ (inlX0 _ h)) (List.mem_cons_of_mem _ q_252) (fun _ h => h) k11 dX4_rate_122 ?_
  refine lv_aload_n hC.1 hC.2.1 dX4_rate_125 rfl (lv_at hl 0 rfl) ?_
  refine m_getI hC hs hH cs1 fs1_7 (fun _ h => List.mem_cons_of_mem _ (inlX1 _ h)) (List.mem_cons_of_mem _ q_250) (fun _ h => h) k5 dX4_rate_126 ?_
  refine lv_iadd hC.1 hC.2.1 dX4_rate_129 ?_
  have hw := hw _ rfl
  refine m_putI hC hs hH cs0 fs0_5 (fun _ h => List.mem_cons_of_mem _ (inlX0 _ h)) (List.mem_cons_of_mem _ q_252) (fun _ h => h) (Or.inl rfl) rfl k11 dX4_rate_130 (fun H locs hH => ?_)
  exact m_retv hC hH hrt hlk (Nat.le_of_ble_eq_true rfl) (Nat.le_of_ble_eq_true rfl) dX4_rate_133 hw
set_option maxHeartbeats 4000000 in
set_option maxRecDepth 100000 in
theorem bw_X4_rate_60 {p : Program} {l : Launch} {e : Env} {s : State} {m : MethodId} {args : Array Value} {below : List Frame} {meth : Method} {c : Code} {g : mG} {Q : mmS → Prop} {X : String → mmS → Prop} (hl0 : l.stackTraces = false) (hC : CallFix p m c cX4_rate 5 s args (wA_ yX4_rate cX4_rate 5 none) RX4) (hrt : meth.sig.returnType = none) (hlk : meth.locks = false) (hmn : meth.name = yX4_rate.name) (hnx : ∀ x ∈ c.exceptionTable.toList, False) (hs : mX g s) : ∀ (S : mmS) (x1 : Nat) (x2 : Nat) (x3 : Nat) (t0 : Int32), bk_X4_rate_60 g.2.2.2.2.2 Q X S x1 x2 x3 t0 → ∀ (H : Heap) (locs : List Loc), mH g S s H locs → ∀ ls : Array Slot, lv_has ls 5 [(1, .ref x1), (2, .ref x2), (3, .ref x3)] → W p l e rm_X4_rate s m args below meth c H locs 0 0 (vx_MQ below (va_Qv Q (wO g) (mB g)) (vx_X (fun _ : mmS => True) (fun E S1 t => X E S1 ∧ wO g S1 t) (mB g)) args s rm_X4_rate.cells rm_X4_rate.slots (mB g)) (F0 m 60 ls [.int t0]) := by
  intro S x1 x2 x3 t0 hw H locs hH ls hl
  unfold bk_X4_rate_60 at hw
  refine lv_istore (lv' := [(4, .int _), (1, .ref _), (2, .ref _), (3, .ref _)]) hC.1 hC.2.1 dX4_rate_60 hl (by decide) rfl (fun ls hl => ?_)
  refine lv_goto (tgt := 80) hC.1 hC.2.1 dX4_rate_62 (by decide) ?_
  exact bw_X4_rate_80 hl0 hC hrt hlk hmn hnx hs _ _ _ _ _ hw _ _ hH _ (lv_sub hl [1, 2, 3, 0] rfl)
set_option maxHeartbeats 4000000 in
set_option maxRecDepth 100000 in
theorem met_X4_rate (l : Launch) (hl0 : l.stackTraces = false) (g : mG) (S : mmS) (p0 : Nat) (p1 : Nat) (Q : mmS → Prop) (X : String → mmS → Prop) (hw : wp_X4_rate g.2.2.2.2.2 S p0 p1 Q X) : mMv l g yX4_rate (wA_ yX4_rate cX4_rate 5 none) rm_X4_rate [.ref p0, .ref p1] S Q X := by
  refine m_of (y := yX4_rate) (cc := cX4_rate) (maxL := 5) (ret := none) (by decide) rfl (Nat.le_of_ble_eq_true rfl) ?_
  intro p e s m args below meth c ls hC hrt hlk hmn hnx hs hH hl
  have hC : CallFix p m c cX4_rate 5 s args (wA_ yX4_rate cX4_rate 5 none) RX4 := hC
  have hl : lv_has ls 5 [(0, .ref p0), (1, .ref p1)] := hl
  unfold wp_X4_rate at hw
  refine lv_aload_n hC.1 hC.2.1 dX4_rate_0 rfl (lv_at hl 1 rfl) ?_
  obtain ⟨k1, hw⟩ := hw
  obtain ⟨b2, r3, hw⟩ := hw
  refine m_getR hC hs hH cs1 fs1_1 (fun _ h => List.mem_cons_of_mem _ (inlX1 _ h)) (List.mem_cons_of_mem _ q_241) (fun _ h => h) k1 r3 dX4_rate_1 ?_
  refine lv_astore_n (lv' := [(2, .ref _), (0, .ref _), (1, .ref _)]) hC.1 hC.2.1 dX4_rate_4 rfl hl (by decide) rfl (fun ls hl => ?_)
  refine lv_aload_n hC.1 hC.2.1 dX4_rate_5 rfl (lv_at hl 0 rfl) ?_
  obtain ⟨k4, hw⟩ := hw
  obtain ⟨b5, r6, hw⟩ := hw
  refine m_getR hC hs hH cs2 fs2_1 (fun _ h => List.mem_cons_of_mem _ (inlX2 _ h)) (List.mem_cons_of_mem _ q_242) (fun _ h => h) k4 r6 dX4_rate_6 ?_
  refine lv_astore_n (lv' := [(3, .ref _), (2, .ref _), (0, .ref _), (1, .ref _)]) hC.1 hC.2.1 dX4_rate_9 rfl hl (by decide) rfl (fun ls hl => ?_)
  refine lv_aload_n hC.1 hC.2.1 dX4_rate_10 rfl (lv_at hl 3 rfl) ?_
  refine lv_aload_n hC.1 hC.2.1 dX4_rate_11 rfl (lv_at hl 0 rfl) ?_
  refine lv_aload_n hC.1 hC.2.1 dX4_rate_12 rfl (lv_at hl 3 rfl) ?_
  refine m_getI hC hs hH cs1 fs1_4 (fun _ h => List.mem_cons_of_mem _ (inlX1 _ h)) (List.mem_cons_of_mem _ q_210) (fun _ h => h) k1 dX4_rate_13 ?_
  obtain ⟨k8, hw⟩ := hw
  refine m_callVi (y := yX3_billedFor) (rest := [.ref _]) hC hs hH hl.1 (cwV 1 hC.2.2.2.2 (gA_V q_253 q_254 q_255 q_73 q_256) rfl rfl rfl (by decide +kernel) ⟨Nat.le_of_ble_eq_true rfl, Nat.le_of_ble_eq_true rfl⟩) cs3 k8 (met_X3_billedFor l hl0 g _ _ _ _ _ hw) rfl rfl (Nat.le_of_ble_eq_true rfl) dX4_rate_16 ⟨Nat.le_of_ble_eq_true rfl, Nat.le_of_ble_eq_true rfl⟩ (m_out (fun x hx => (hnx x hx).elim) hlk (Nat.le_of_ble_eq_true rfl) (Nat.le_of_ble_eq_true rfl)) (fun r9 S1 H locs hw hH => ?_)
  refine W.widen (k := 0) (n := 0) (Nat.le_of_ble_eq_true rfl) (Nat.le_of_ble_eq_true rfl) ?_
  obtain ⟨k10, hw⟩ := hw
  have hw := hw _ rfl
  refine m_putI hC hs hH cs1 fs1_5 (fun _ h => List.mem_cons_of_mem _ (inlX1 _ h)) (List.mem_cons_of_mem _ q_243) (fun _ h => h) (Or.inl rfl) rfl k10 dX4_rate_19 (fun H locs hH => ?_)
  refine lv_aload_n hC.1 hC.2.1 dX4_rate_22 rfl (lv_at hl 3 rfl) ?_
  refine m_getI hC hs hH cs1 fs1_3 (fun _ h => List.mem_cons_of_mem _ (inlX1 _ h)) (List.mem_cons_of_mem _ q_244) (fun _ h => h) k10 dX4_rate_23 ?_
  refine lv_if_ne (tgt := 65) hC.1 hC.2.1 dX4_rate_26 (by decide) (fun hc => ?_) (fun hc => ?_)
  · have hw := hw.1 hc
    refine lv_aload_n hC.1 hC.2.1 dX4_rate_65 rfl (lv_at hl 3 rfl) ?_
    refine m_callSv (y := yX4_rateDayFee) (rest := []) hC hs hH hl.1 (va_cwS 1 hC.2.2.2.2 (gA_S q_274 q_275 q_2 q_276) rfl rfl rfl (by decide +kernel) ⟨Nat.le_of_ble_eq_true rfl, Nat.le_of_ble_eq_true rfl⟩) (met_X4_rateDayFee l hl0 g _ _ _ _ hw) rfl rfl (Nat.le_of_ble_eq_true rfl) dX4_rate_66 ⟨Nat.le_of_ble_eq_true rfl, Nat.le_of_ble_eq_true rfl⟩ (m_out (fun x hx => (hnx x hx).elim) hlk (Nat.le_of_ble_eq_true rfl) (Nat.le_of_ble_eq_true rfl)) (fun S1 H locs hw hH => ?_)
    refine W.widen (k := 0) (n := 0) (Nat.le_of_ble_eq_true rfl) (Nat.le_of_ble_eq_true rfl) ?_
    refine lv_aload_n hC.1 hC.2.1 dX4_rate_69 rfl (lv_at hl 0 rfl) ?_
    obtain ⟨k13, hw⟩ := hw
    obtain ⟨b14, r15, hw⟩ := hw
    refine m_getR hC hs hH cs3 fs3_6 (fun _ h => List.mem_cons_of_mem _ (inlX3 _ h)) (List.mem_cons_of_mem _ q_175) (fun _ h => h) k13 r15 dX4_rate_70 ?_
    refine lv_aload_n hC.1 hC.2.1 dX4_rate_73 rfl (lv_at hl 3 rfl) ?_
    obtain ⟨k16, hw⟩ := hw
    refine m_getI hC hs hH cs1 fs1_3 (fun _ h => List.mem_cons_of_mem _ (inlX1 _ h)) (List.mem_cons_of_mem _ q_244) (fun _ h => h) k16 dX4_rate_74 ?_
    obtain ⟨k17, hw⟩ := hw
    obtain ⟨i18, hw⟩ := hw
    refine m_iald hC hs hH k17 i18 dX4_rate_77 ?_
    have hw := hw _ rfl
    refine lv_istore (lv' := [(4, .int _), (3, .ref _), (2, .ref _), (0, .ref _), (1, .ref _)]) hC.1 hC.2.1 dX4_rate_78 hl (by decide) rfl (fun ls hl => ?_)
    exact bw_X4_rate_80 hl0 hC hrt hlk hmn hnx hs _ _ _ _ _ hw _ _ hH _ (lv_sub hl [4, 2, 1, 0] rfl)
  · have hw := hw.2 hc
    refine lv_aload_n hC.1 hC.2.1 dX4_rate_29 rfl (lv_at hl 3 rfl) ?_
    refine lv_aload_n hC.1 hC.2.1 dX4_rate_30 rfl (lv_at hl 1 rfl) ?_
    obtain ⟨k20, hw⟩ := hw
    obtain ⟨b21, r22, hw⟩ := hw
    refine m_getR hC hs hH cs2 fs2_0 (fun _ h => List.mem_cons_of_mem _ (inlX2 _ h)) (List.mem_cons_of_mem _ q_245) (fun _ h => h) k20 r22 dX4_rate_31 ?_
    refine lv_aload_n hC.1 hC.2.1 dX4_rate_34 rfl (lv_at hl 3 rfl) ?_
    obtain ⟨k24, hw⟩ := hw
    refine m_callVi (y := yX0_takeFromBundle) (rest := [.ref _]) hC hs hH hl.1 (cwV 1 hC.2.2.2.2 (gA_V q_257 q_258 q_259 q_214 q_260) rfl rfl rfl (by decide +kernel) ⟨Nat.le_of_ble_eq_true rfl, Nat.le_of_ble_eq_true rfl⟩) cs0 k24 (met_X0_takeFromBundle l hl0 g _ _ _ _ _ hw) rfl rfl (Nat.le_of_ble_eq_true rfl) dX4_rate_35 ⟨Nat.le_of_ble_eq_true rfl, Nat.le_of_ble_eq_true rfl⟩ (m_out (fun x hx => (hnx x hx).elim) hlk (Nat.le_of_ble_eq_true rfl) (Nat.le_of_ble_eq_true rfl)) (fun r25 S1 H locs hw hH => ?_)
    refine W.widen (k := 0) (n := 0) (Nat.le_of_ble_eq_true rfl) (Nat.le_of_ble_eq_true rfl) ?_
    obtain ⟨k26, hw⟩ := hw
    have hw := hw _ rfl
    refine m_putI hC hs hH cs1 fs1_6 (fun _ h => List.mem_cons_of_mem _ (inlX1 _ h)) (List.mem_cons_of_mem _ q_246) (fun _ h => h) (Or.inl rfl) rfl k26 dX4_rate_38 (fun H locs hH => ?_)
    refine lv_aload_n hC.1 hC.2.1 dX4_rate_41 rfl (lv_at hl 2 rfl) ?_
    refine lv_aload_n hC.1 hC.2.1 dX4_rate_42 rfl (lv_at hl 3 rfl) ?_
    obtain ⟨k29, hw⟩ := hw
    refine m_callVi (y := yX4_beginsInPeak) (rest := []) hC hs hH hl.1 (cwV 1 hC.2.2.2.2 (gA_V q_264 q_265 q_266 q_2 q_267) rfl rfl rfl (by decide +kernel) ⟨Nat.le_of_ble_eq_true rfl, Nat.le_of_ble_eq_true rfl⟩) cs4 k29 (met_X4_beginsInPeak l hl0 g _ _ _ _ _ hw) rfl rfl (Nat.le_of_ble_eq_true rfl) dX4_rate_43 ⟨Nat.le_of_ble_eq_true rfl, Nat.le_of_ble_eq_true rfl⟩ (m_out (fun x hx => (hnx x hx).elim) hlk (Nat.le_of_ble_eq_true rfl) (Nat.le_of_ble_eq_true rfl)) (fun r30 S1 H locs hw hH => ?_)
    refine W.widen (k := 0) (n := 0) (Nat.le_of_ble_eq_true rfl) (Nat.le_of_ble_eq_true rfl) ?_
    refine lv_if_eq (tgt := 56) hC.1 hC.2.1 dX4_rate_46 (by decide) (fun hc => ?_) (fun hc => ?_)
    · have hw := hw.1 hc
      refine lv_aload_n hC.1 hC.2.1 dX4_rate_56 rfl (lv_at hl 0 rfl) ?_
      obtain ⟨k31, hw⟩ := hw
      refine m_getI hC hs hH cs3 fs3_3 (fun _ h => List.mem_cons_of_mem _ (inlX3 _ h)) (List.mem_cons_of_mem _ q_248) (fun _ h => h) k31 dX4_rate_57 ?_
      exact bw_X4_rate_60 hl0 hC hrt hlk hmn hnx hs _ _ _ _ _ hw _ _ hH _ (lv_sub hl [3, 1, 0] rfl)
    · have hw := hw.2 hc
      refine lv_aload_n hC.1 hC.2.1 dX4_rate_49 rfl (lv_at hl 0 rfl) ?_
      obtain ⟨k32, hw⟩ := hw
      refine m_getI hC hs hH cs3 fs3_2 (fun _ h => List.mem_cons_of_mem _ (inlX3 _ h)) (List.mem_cons_of_mem _ q_247) (fun _ h => h) k32 dX4_rate_50 ?_
      refine lv_goto (tgt := 60) hC.1 hC.2.1 dX4_rate_53 (by decide) ?_
      exact bw_X4_rate_60 hl0 hC hrt hlk hmn hnx hs _ _ _ _ _ hw _ _ hH _ (lv_sub hl [3, 1, 0] rfl)
abbrev rm_X4_rateAll : Room := { frames := 4, cells := 0, slots := 0, locals := 94 }
def bk_X4_rateAll_107 (z : Nat × Nat) (Q : mmS → Prop) (X : String → mmS → Prop) (K68 : mmS → Nat → Int32 → Prop) (S : mmS) (x0 : Nat) (x1 : Int32) : Prop := ∀ v1 : Int32, v1 = x1 + 1 → K68 S x0 v1
def bk_X4_rateAll_68 (z : Nat × Nat) (Q : mmS → Prop) (X : String → mmS → Prop) (K68 : mmS → Nat → Int32 → Prop) (S : mmS) (x0 : Nat) (x1 : Int32) : Prop := (x0 ∈ mL S ∧ mK S x0 = 4) ∧ ∃ b2 : Nat, mR S 12 x0 = some b2 ∧ (b2 ∈ mL S ∧ mK S b2 = 6) ∧ wp_Jx4a65c_size_8abf5 z S b2 (fun r6 S4 => (r6 ≤ x1 → Q S4) ∧ (¬ r6 ≤ x1 → (x0 ∈ mL S4 ∧ mK S4 x0 = 4) ∧ ∃ b8 : Nat, mR S4 12 x0 = some b8 ∧ (b8 ∈ mL S4 ∧ mK S4 b8 = 6) ∧ wp_Jx4a65c_get_915e3 z S4 b8 x1 (fun r12 S10 => (r12 ∈ mL S10 ∧ mK S10 r12 = 1) ∧ wp_X1_forgetRating z S10 r12 (fun S14 => (r12 ∈ mL S14 ∧ mK S14 r12 = 1) ∧ ((mI S14 9 r12) ≤ 0 → bk_X4_rateAll_107 z Q X K68 S14 x0 x1) ∧ (¬ (mI S14 9 r12) ≤ 0 → (x0 ∈ mL S14 ∧ mK S14 x0 = 4) ∧ wp_X4_rate z S14 x0 r12 (fun S16 => bk_X4_rateAll_107 z Q X K68 S16 x0 x1) X)) X) X)) X
def lp_X4_rateAll_68 (z : Nat × Nat) (Q : mmS → Prop) (X : String → mmS → Prop) : Nat → mmS → Nat → Int32 → Prop
  | 0 => fun _ _ _ => False
  | n + 1 => bk_X4_rateAll_68 z Q X (lp_X4_rateAll_68 z Q X n)
def bk_X4_rateAll_35 (z : Nat × Nat) (Q : mmS → Prop) (X : String → mmS → Prop) (K35 : mmS → Nat → Int32 → Prop) (S : mmS) (x0 : Nat) (x1 : Int32) : Prop := (x0 ∈ mL S ∧ mK S x0 = 4) ∧ ∃ b2 : Nat, mR S 10 x0 = some b2 ∧ (b2 ∈ mL S ∧ mK S b2 = 6) ∧ wp_Jx4a65c_size_8abf5 z S b2 (fun r6 S4 => (r6 ≤ x1 → ∀ v7 : Int32, v7 = (0 : Int32) → ∃ n : Nat, lp_X4_rateAll_68 z Q X n S4 x0 v7) ∧ (¬ r6 ≤ x1 → (x0 ∈ mL S4 ∧ mK S4 x0 = 4) ∧ ∃ b9 : Nat, mR S4 10 x0 = some b9 ∧ (b9 ∈ mL S4 ∧ mK S4 b9 = 6) ∧ wp_Jx4a65c_get_915e3 z S4 b9 x1 (fun r13 S11 => (r13 ∈ mL S11 ∧ mK S11 r13 = 2) ∧ wp_X2_forgetRating z S11 r13 (fun S15 => ∀ v16 : Int32, v16 = x1 + 1 → K35 S15 x0 v16) X) X)) X
def lp_X4_rateAll_35 (z : Nat × Nat) (Q : mmS → Prop) (X : String → mmS → Prop) : Nat → mmS → Nat → Int32 → Prop
  | 0 => fun _ _ _ => False
  | n + 1 => bk_X4_rateAll_35 z Q X (lp_X4_rateAll_35 z Q X n)
def bk_X4_rateAll_2 (z : Nat × Nat) (Q : mmS → Prop) (X : String → mmS → Prop) (K2 : mmS → Nat → Int32 → Prop) (S : mmS) (x0 : Nat) (x1 : Int32) : Prop := (x0 ∈ mL S ∧ mK S x0 = 4) ∧ ∃ b2 : Nat, mR S 9 x0 = some b2 ∧ (b2 ∈ mL S ∧ mK S b2 = 6) ∧ wp_Jx4a65c_size_8abf5 z S b2 (fun r6 S4 => (r6 ≤ x1 → ∀ v7 : Int32, v7 = (0 : Int32) → ∃ n : Nat, lp_X4_rateAll_35 z Q X n S4 x0 v7) ∧ (¬ r6 ≤ x1 → (x0 ∈ mL S4 ∧ mK S4 x0 = 4) ∧ ∃ b9 : Nat, mR S4 9 x0 = some b9 ∧ (b9 ∈ mL S4 ∧ mK S4 b9 = 6) ∧ wp_Jx4a65c_get_915e3 z S4 b9 x1 (fun r13 S11 => (r13 ∈ mL S11 ∧ mK S11 r13 = 0) ∧ wp_X0_forgetRating z S11 r13 (fun S15 => ∀ v16 : Int32, v16 = x1 + 1 → K2 S15 x0 v16) X) X)) X
def lp_X4_rateAll_2 (z : Nat × Nat) (Q : mmS → Prop) (X : String → mmS → Prop) : Nat → mmS → Nat → Int32 → Prop
  | 0 => fun _ _ _ => False
  | n + 1 => bk_X4_rateAll_2 z Q X (lp_X4_rateAll_2 z Q X n)
def wp_X4_rateAll (z : Nat × Nat) (S : mmS) (p0 : Nat) (Q : mmS → Prop) (X : String → mmS → Prop) : Prop := ∀ v1 : Int32, v1 = (0 : Int32) → ∃ n : Nat, lp_X4_rateAll_2 z Q X n S p0 v1
set_option maxHeartbeats 4000000 in
set_option maxRecDepth 100000 in
theorem bw_X4_rateAll_107 {p : Program} {l : Launch} {e : Env} {s : State} {m : MethodId} {args : Array Value} {below : List Frame} {meth : Method} {c : Code} {g : mG} {Q : mmS → Prop} {X : String → mmS → Prop} (hl0 : l.stackTraces = false) (hC : CallFix p m c cX4_rateAll 3 s args (wA_ yX4_rateAll cX4_rateAll 3 none) RX4) (hrt : meth.sig.returnType = none) (hlk : meth.locks = false) (hmn : meth.name = yX4_rateAll.name) (hnx : ∀ x ∈ c.exceptionTable.toList, False) (hs : mX g s) {K68 : mmS → Nat → Int32 → Prop} (hk68 : ∀ (S : mmS) (x0 : Nat) (x1 : Int32), K68 S x0 x1 → ∀ (H : Heap) (locs : List Loc), mH g S s H locs → ∀ ls : Array Slot, lv_has ls 3 [(0, .ref x0), (1, .int x1)] → W p l e rm_X4_rateAll s m args below meth c H locs 0 0 (vx_MQ below (va_Qv Q (wO g) (mB g)) (vx_X (fun _ : mmS => True) (fun E S1 t => X E S1 ∧ wO g S1 t) (mB g)) args s rm_X4_rateAll.cells rm_X4_rateAll.slots (mB g)) (F0 m 68 ls [])) : ∀ (S : mmS) (x0 : Nat) (x1 : Int32), bk_X4_rateAll_107 g.2.2.2.2.2 Q X K68 S x0 x1 → ∀ (H : Heap) (locs : List Loc), mH g S s H locs → ∀ ls : Array Slot, lv_has ls 3 [(0, .ref x0), (1, .int x1)] → W p l e rm_X4_rateAll s m args below meth c H locs 0 0 (vx_MQ below (va_Qv Q (wO g) (mB g)) (vx_X (fun _ : mmS => True) (fun E S1 t => X E S1 ∧ wO g S1 t) (mB g)) args s rm_X4_rateAll.cells rm_X4_rateAll.slots (mB g)) (F0 m 107 ls []) := by
  intro S x0 x1 hw H locs hH ls hl
  unfold bk_X4_rateAll_107 at hw
  have hw := hw _ rfl
  refine lv_iinc (lv' := [(1, .int _), (0, .ref _)]) hC.1 hC.2.1 dX4_rateAll_107 hl (k := 1) rfl (rfl : (_ : Int32) + Int32.ofInt 1 = (_ : Int32) + 1) (by decide) rfl (fun ls hl => ?_)
  refine lv_goto (tgt := 68) hC.1 hC.2.1 dX4_rateAll_110 (by decide) ?_
  exact hk68 _ _ _ hw _ _ hH _ (lv_sub hl [1, 0] rfl)
set_option maxHeartbeats 4000000 in
set_option maxRecDepth 100000 in
theorem bw_X4_rateAll_68 {p : Program} {l : Launch} {e : Env} {s : State} {m : MethodId} {args : Array Value} {below : List Frame} {meth : Method} {c : Code} {g : mG} {Q : mmS → Prop} {X : String → mmS → Prop} (hl0 : l.stackTraces = false) (hC : CallFix p m c cX4_rateAll 3 s args (wA_ yX4_rateAll cX4_rateAll 3 none) RX4) (hrt : meth.sig.returnType = none) (hlk : meth.locks = false) (hmn : meth.name = yX4_rateAll.name) (hnx : ∀ x ∈ c.exceptionTable.toList, False) (hs : mX g s) {K68 : mmS → Nat → Int32 → Prop} (hk68 : ∀ (S : mmS) (x0 : Nat) (x1 : Int32), K68 S x0 x1 → ∀ (H : Heap) (locs : List Loc), mH g S s H locs → ∀ ls : Array Slot, lv_has ls 3 [(0, .ref x0), (1, .int x1)] → W p l e rm_X4_rateAll s m args below meth c H locs 0 0 (vx_MQ below (va_Qv Q (wO g) (mB g)) (vx_X (fun _ : mmS => True) (fun E S1 t => X E S1 ∧ wO g S1 t) (mB g)) args s rm_X4_rateAll.cells rm_X4_rateAll.slots (mB g)) (F0 m 68 ls [])) : ∀ (S : mmS) (x0 : Nat) (x1 : Int32), bk_X4_rateAll_68 g.2.2.2.2.2 Q X K68 S x0 x1 → ∀ (H : Heap) (locs : List Loc), mH g S s H locs → ∀ ls : Array Slot, lv_has ls 3 [(0, .ref x0), (1, .int x1)] → W p l e rm_X4_rateAll s m args below meth c H locs 0 0 (vx_MQ below (va_Qv Q (wO g) (mB g)) (vx_X (fun _ : mmS => True) (fun E S1 t => X E S1 ∧ wO g S1 t) (mB g)) args s rm_X4_rateAll.cells rm_X4_rateAll.slots (mB g)) (F0 m 68 ls []) := by
  intro S x0 x1 hw H locs hH ls hl
  unfold bk_X4_rateAll_68 at hw
  refine lv_iload_n hC.1 hC.2.1 dX4_rateAll_68 rfl (lv_at hl 1 rfl) ?_
  refine lv_aload_n hC.1 hC.2.1 dX4_rateAll_69 rfl (lv_at hl 0 rfl) ?_
  obtain ⟨k1, hw⟩ := hw
  obtain ⟨b2, r3, hw⟩ := hw
  refine m_getR hC hs hH cs4 fs4_4 (fun _ h => List.mem_cons_of_mem _ (inlX4 _ h)) (List.mem_cons_of_mem _ q_20) (fun _ h => h) k1 r3 dX4_rateAll_70 ?_
  obtain ⟨k5, hw⟩ := hw
  refine m_callVi (y := yJx4a65c_size_8abf5) (rest := [.int _]) hC hs hH hl.1 (cwV 0 hC.2.2.2.2 (gA_V q_80 q_81 q_82 q_15 q_83) rfl rfl rfl (by decide +kernel) ⟨Nat.le_of_ble_eq_true rfl, Nat.le_of_ble_eq_true rfl⟩) cs6 k5 (met_Jx4a65c_size_8abf5 l hl0 g _ _ _ _ hw) rfl rfl (Nat.le_of_ble_eq_true rfl) dX4_rateAll_73 ⟨Nat.le_of_ble_eq_true rfl, Nat.le_of_ble_eq_true rfl⟩ (m_out (fun x hx => (hnx x hx).elim) hlk (Nat.le_of_ble_eq_true rfl) (Nat.le_of_ble_eq_true rfl)) (fun r6 S1 H locs hw hH => ?_)
  refine W.widen (k := 0) (n := 0) (Nat.le_of_ble_eq_true rfl) (Nat.le_of_ble_eq_true rfl) ?_
  refine lv_icmp_ge (tgt := 113) hC.1 hC.2.1 dX4_rateAll_76 (by decide) (fun hc => ?_) (fun hc => ?_)
  · have hw := hw.1 hc
    exact m_retv hC hH hrt hlk (Nat.le_of_ble_eq_true rfl) (Nat.le_of_ble_eq_true rfl) dX4_rateAll_113 hw
  · have hw := hw.2 hc
    refine lv_aload_n hC.1 hC.2.1 dX4_rateAll_79 rfl (lv_at hl 0 rfl) ?_
    obtain ⟨k7, hw⟩ := hw
    obtain ⟨b8, r9, hw⟩ := hw
    refine m_getR hC hs hH cs4 fs4_4 (fun _ h => List.mem_cons_of_mem _ (inlX4 _ h)) (List.mem_cons_of_mem _ q_20) (fun _ h => h) k7 r9 dX4_rateAll_80 ?_
    refine lv_iload_n hC.1 hC.2.1 dX4_rateAll_83 rfl (lv_at hl 1 rfl) ?_
    obtain ⟨k11, hw⟩ := hw
    refine m_callVq (y := yJx4a65c_get_915e3) (rest := []) hC hs hH hl.1 (cwV 1 hC.2.2.2.2 (gA_V q_184 q_185 q_186 q_15 q_187) rfl rfl rfl (by decide +kernel) ⟨Nat.le_of_ble_eq_true rfl, Nat.le_of_ble_eq_true rfl⟩) cs6 k11 (met_Jx4a65c_get_915e3 l hl0 g _ _ _ _ _ hw) rfl rfl (Nat.le_of_ble_eq_true rfl) dX4_rateAll_84 ⟨Nat.le_of_ble_eq_true rfl, Nat.le_of_ble_eq_true rfl⟩ (m_out (fun x hx => (hnx x hx).elim) hlk (Nat.le_of_ble_eq_true rfl) (Nat.le_of_ble_eq_true rfl)) (fun r12 S1 H locs hw hH => ?_)
    refine W.widen (k := 0) (n := 0) (Nat.le_of_ble_eq_true rfl) (Nat.le_of_ble_eq_true rfl) ?_
    obtain ⟨k13, hw⟩ := hw
    refine m_cast hC hs hH cs1 (List.mem_cons_of_mem _ q_209) k13 dX4_rateAll_87 ?_
    refine lv_astore_n (lv' := [(2, .ref _), (0, .ref _), (1, .int _)]) hC.1 hC.2.1 dX4_rateAll_90 rfl hl (by decide) rfl (fun ls hl => ?_)
    refine lv_aload_n hC.1 hC.2.1 dX4_rateAll_91 rfl (lv_at hl 0 rfl) ?_
    refine m_callVv (y := yX1_forgetRating) (rest := []) hC hs hH hl.1 (cwV 0 hC.2.2.2.2 (gA_V q_228 q_229 q_230 q_231 q_232) rfl rfl rfl (by decide +kernel) ⟨Nat.le_of_ble_eq_true rfl, Nat.le_of_ble_eq_true rfl⟩) cs1 k13 (met_X1_forgetRating l hl0 g _ _ _ _ hw) rfl rfl (Nat.le_of_ble_eq_true rfl) dX4_rateAll_92 ⟨Nat.le_of_ble_eq_true rfl, Nat.le_of_ble_eq_true rfl⟩ (m_out (fun x hx => (hnx x hx).elim) hlk (Nat.le_of_ble_eq_true rfl) (Nat.le_of_ble_eq_true rfl)) (fun S1 H locs hw hH => ?_)
    refine W.widen (k := 0) (n := 0) (Nat.le_of_ble_eq_true rfl) (Nat.le_of_ble_eq_true rfl) ?_
    refine lv_aload_n hC.1 hC.2.1 dX4_rateAll_95 rfl (lv_at hl 0 rfl) ?_
    obtain ⟨k15, hw⟩ := hw
    refine m_getI hC hs hH cs1 fs1_4 (fun _ h => List.mem_cons_of_mem _ (inlX1 _ h)) (List.mem_cons_of_mem _ q_210) (fun _ h => h) k15 dX4_rateAll_96 ?_
    refine lv_if_le (tgt := 107) hC.1 hC.2.1 dX4_rateAll_99 (by decide) (fun hc => ?_) (fun hc => ?_)
    · have hw := hw.1 hc
      exact bw_X4_rateAll_107 hl0 hC hrt hlk hmn hnx hs hk68 _ _ _ hw _ _ hH _ (lv_sub hl [1, 2] rfl)
    · have hw := hw.2 hc
      refine lv_aload_n hC.1 hC.2.1 dX4_rateAll_102 rfl (lv_at hl 1 rfl) ?_
      refine lv_aload_n hC.1 hC.2.1 dX4_rateAll_103 rfl (lv_at hl 0 rfl) ?_
      obtain ⟨k17, hw⟩ := hw
      refine m_callVv (y := yX4_rate) (rest := []) hC hs hH hl.1 (cwV 1 hC.2.2.2.2 (gA_V q_237 q_238 q_239 q_2 q_240) rfl rfl rfl (by decide +kernel) ⟨Nat.le_of_ble_eq_true rfl, Nat.le_of_ble_eq_true rfl⟩) cs4 k17 (met_X4_rate l hl0 g _ _ _ _ _ hw) rfl rfl (Nat.le_of_ble_eq_true rfl) dX4_rateAll_104 ⟨Nat.le_of_ble_eq_true rfl, Nat.le_of_ble_eq_true rfl⟩ (m_out (fun x hx => (hnx x hx).elim) hlk (Nat.le_of_ble_eq_true rfl) (Nat.le_of_ble_eq_true rfl)) (fun S1 H locs hw hH => ?_)
      refine W.widen (k := 0) (n := 0) (Nat.le_of_ble_eq_true rfl) (Nat.le_of_ble_eq_true rfl) ?_
      exact bw_X4_rateAll_107 hl0 hC hrt hlk hmn hnx hs hk68 _ _ _ hw _ _ hH _ (lv_sub hl [1, 2] rfl)
theorem lw_X4_rateAll_68 {p : Program} {l : Launch} {e : Env} {s : State} {m : MethodId} {args : Array Value} {below : List Frame} {meth : Method} {c : Code} {g : mG} {Q : mmS → Prop} {X : String → mmS → Prop} (hl0 : l.stackTraces = false) (hC : CallFix p m c cX4_rateAll 3 s args (wA_ yX4_rateAll cX4_rateAll 3 none) RX4) (hrt : meth.sig.returnType = none) (hlk : meth.locks = false) (hmn : meth.name = yX4_rateAll.name) (hnx : ∀ x ∈ c.exceptionTable.toList, False) (hs : mX g s) : ∀ (n : Nat) (S : mmS) (x0 : Nat) (x1 : Int32), lp_X4_rateAll_68 g.2.2.2.2.2 Q X n S x0 x1 → ∀ (H : Heap) (locs : List Loc), mH g S s H locs → ∀ ls : Array Slot, lv_has ls 3 [(0, .ref x0), (1, .int x1)] → W p l e rm_X4_rateAll s m args below meth c H locs 0 0 (vx_MQ below (va_Qv Q (wO g) (mB g)) (vx_X (fun _ : mmS => True) (fun E S1 t => X E S1 ∧ wO g S1 t) (mB g)) args s rm_X4_rateAll.cells rm_X4_rateAll.slots (mB g)) (F0 m 68 ls []) := by
  intro n
  induction n with
  | zero => intro S x0 x1 hw; exact False.elim hw
  | succ n ih => exact fun S x0 x1 hw => bw_X4_rateAll_68 hl0 hC hrt hlk hmn hnx hs (K68 := lp_X4_rateAll_68 g.2.2.2.2.2 Q X n) ih S x0 x1 hw
set_option maxHeartbeats 4000000 in
set_option maxRecDepth 100000 in
theorem bw_X4_rateAll_35 {p : Program} {l : Launch} {e : Env} {s : State} {m : MethodId} {args : Array Value} {below : List Frame} {meth : Method} {c : Code} {g : mG} {Q : mmS → Prop} {X : String → mmS → Prop} (hl0 : l.stackTraces = false) (hC : CallFix p m c cX4_rateAll 3 s args (wA_ yX4_rateAll cX4_rateAll 3 none) RX4) (hrt : meth.sig.returnType = none) (hlk : meth.locks = false) (hmn : meth.name = yX4_rateAll.name) (hnx : ∀ x ∈ c.exceptionTable.toList, False) (hs : mX g s) {K35 : mmS → Nat → Int32 → Prop} (hk35 : ∀ (S : mmS) (x0 : Nat) (x1 : Int32), K35 S x0 x1 → ∀ (H : Heap) (locs : List Loc), mH g S s H locs → ∀ ls : Array Slot, lv_has ls 3 [(0, .ref x0), (1, .int x1)] → W p l e rm_X4_rateAll s m args below meth c H locs 0 0 (vx_MQ below (va_Qv Q (wO g) (mB g)) (vx_X (fun _ : mmS => True) (fun E S1 t => X E S1 ∧ wO g S1 t) (mB g)) args s rm_X4_rateAll.cells rm_X4_rateAll.slots (mB g)) (F0 m 35 ls [])) : ∀ (S : mmS) (x0 : Nat) (x1 : Int32), bk_X4_rateAll_35 g.2.2.2.2.2 Q X K35 S x0 x1 → ∀ (H : Heap) (locs : List Loc), mH g S s H locs → ∀ ls : Array Slot, lv_has ls 3 [(0, .ref x0), (1, .int x1)] → W p l e rm_X4_rateAll s m args below meth c H locs 0 0 (vx_MQ below (va_Qv Q (wO g) (mB g)) (vx_X (fun _ : mmS => True) (fun E S1 t => X E S1 ∧ wO g S1 t) (mB g)) args s rm_X4_rateAll.cells rm_X4_rateAll.slots (mB g)) (F0 m 35 ls []) := by
  intro S x0 x1 hw H locs hH ls hl
  unfold bk_X4_rateAll_35 at hw
  refine lv_iload_n hC.1 hC.2.1 dX4_rateAll_35 rfl (lv_at hl 1 rfl) ?_
  refine lv_aload_n hC.1 hC.2.1 dX4_rateAll_36 rfl (lv_at hl 0 rfl) ?_
  obtain ⟨k1, hw⟩ := hw
  obtain ⟨b2, r3, hw⟩ := hw
  refine m_getR hC hs hH cs4 fs4_2 (fun _ h => List.mem_cons_of_mem _ (inlX4 _ h)) (List.mem_cons_of_mem _ q_18) (fun _ h => h) k1 r3 dX4_rateAll_37 ?_
  obtain ⟨k5, hw⟩ := hw
  refine m_callVi (y := yJx4a65c_size_8abf5) (rest := [.int _]) hC hs hH hl.1 (cwV 0 hC.2.2.2.2 (gA_V q_80 q_81 q_82 q_15 q_83) rfl rfl rfl (by decide +kernel) ⟨Nat.le_of_ble_eq_true rfl, Nat.le_of_ble_eq_true rfl⟩) cs6 k5 (met_Jx4a65c_size_8abf5 l hl0 g _ _ _ _ hw) rfl rfl (Nat.le_of_ble_eq_true rfl) dX4_rateAll_40 ⟨Nat.le_of_ble_eq_true rfl, Nat.le_of_ble_eq_true rfl⟩ (m_out (fun x hx => (hnx x hx).elim) hlk (Nat.le_of_ble_eq_true rfl) (Nat.le_of_ble_eq_true rfl)) (fun r6 S1 H locs hw hH => ?_)
  refine W.widen (k := 0) (n := 0) (Nat.le_of_ble_eq_true rfl) (Nat.le_of_ble_eq_true rfl) ?_
  refine lv_icmp_ge (tgt := 66) hC.1 hC.2.1 dX4_rateAll_43 (by decide) (fun hc => ?_) (fun hc => ?_)
  · have hw := hw.1 hc
    refine lv_iconst (v := 0) hC.1 hC.2.1 dX4_rateAll_66 (by decide) ?_
    have hw := hw _ rfl
    refine lv_istore_n (lv' := [(1, .int _), (0, .ref _)]) hC.1 hC.2.1 dX4_rateAll_67 rfl hl (by decide) rfl (fun ls hl => ?_)
    obtain ⟨n, hw⟩ := hw
    exact lw_X4_rateAll_68 hl0 hC hrt hlk hmn hnx hs n _ _ _ hw _ _ hH _ (lv_sub hl [1, 0] rfl)
  · have hw := hw.2 hc
    refine lv_aload_n hC.1 hC.2.1 dX4_rateAll_46 rfl (lv_at hl 0 rfl) ?_
    obtain ⟨k8, hw⟩ := hw
    obtain ⟨b9, r10, hw⟩ := hw
    refine m_getR hC hs hH cs4 fs4_2 (fun _ h => List.mem_cons_of_mem _ (inlX4 _ h)) (List.mem_cons_of_mem _ q_18) (fun _ h => h) k8 r10 dX4_rateAll_47 ?_
    refine lv_iload_n hC.1 hC.2.1 dX4_rateAll_50 rfl (lv_at hl 1 rfl) ?_
    obtain ⟨k12, hw⟩ := hw
    refine m_callVq (y := yJx4a65c_get_915e3) (rest := []) hC hs hH hl.1 (cwV 1 hC.2.2.2.2 (gA_V q_184 q_185 q_186 q_15 q_187) rfl rfl rfl (by decide +kernel) ⟨Nat.le_of_ble_eq_true rfl, Nat.le_of_ble_eq_true rfl⟩) cs6 k12 (met_Jx4a65c_get_915e3 l hl0 g _ _ _ _ _ hw) rfl rfl (Nat.le_of_ble_eq_true rfl) dX4_rateAll_51 ⟨Nat.le_of_ble_eq_true rfl, Nat.le_of_ble_eq_true rfl⟩ (m_out (fun x hx => (hnx x hx).elim) hlk (Nat.le_of_ble_eq_true rfl) (Nat.le_of_ble_eq_true rfl)) (fun r13 S1 H locs hw hH => ?_)
    refine W.widen (k := 0) (n := 0) (Nat.le_of_ble_eq_true rfl) (Nat.le_of_ble_eq_true rfl) ?_
    obtain ⟨k14, hw⟩ := hw
    refine m_cast hC hs hH cs2 (List.mem_cons_of_mem _ q_208) k14 dX4_rateAll_54 ?_
    refine m_callVv (y := yX2_forgetRating) (rest := []) hC hs hH hl.1 (cwV 0 hC.2.2.2.2 (gA_V q_220 q_221 q_222 q_223 q_224) rfl rfl rfl (by decide +kernel) ⟨Nat.le_of_ble_eq_true rfl, Nat.le_of_ble_eq_true rfl⟩) cs2 k14 (met_X2_forgetRating l hl0 g _ _ _ _ hw) rfl rfl (Nat.le_of_ble_eq_true rfl) dX4_rateAll_57 ⟨Nat.le_of_ble_eq_true rfl, Nat.le_of_ble_eq_true rfl⟩ (m_out (fun x hx => (hnx x hx).elim) hlk (Nat.le_of_ble_eq_true rfl) (Nat.le_of_ble_eq_true rfl)) (fun S1 H locs hw hH => ?_)
    refine W.widen (k := 0) (n := 0) (Nat.le_of_ble_eq_true rfl) (Nat.le_of_ble_eq_true rfl) ?_
    have hw := hw _ rfl
    refine lv_iinc (lv' := [(1, .int _), (0, .ref _)]) hC.1 hC.2.1 dX4_rateAll_60 hl (k := 1) rfl (rfl : (_ : Int32) + Int32.ofInt 1 = (_ : Int32) + 1) (by decide) rfl (fun ls hl => ?_)
    refine lv_goto (tgt := 35) hC.1 hC.2.1 dX4_rateAll_63 (by decide) ?_
    exact hk35 _ _ _ hw _ _ hH _ (lv_sub hl [1, 0] rfl)
theorem lw_X4_rateAll_35 {p : Program} {l : Launch} {e : Env} {s : State} {m : MethodId} {args : Array Value} {below : List Frame} {meth : Method} {c : Code} {g : mG} {Q : mmS → Prop} {X : String → mmS → Prop} (hl0 : l.stackTraces = false) (hC : CallFix p m c cX4_rateAll 3 s args (wA_ yX4_rateAll cX4_rateAll 3 none) RX4) (hrt : meth.sig.returnType = none) (hlk : meth.locks = false) (hmn : meth.name = yX4_rateAll.name) (hnx : ∀ x ∈ c.exceptionTable.toList, False) (hs : mX g s) : ∀ (n : Nat) (S : mmS) (x0 : Nat) (x1 : Int32), lp_X4_rateAll_35 g.2.2.2.2.2 Q X n S x0 x1 → ∀ (H : Heap) (locs : List Loc), mH g S s H locs → ∀ ls : Array Slot, lv_has ls 3 [(0, .ref x0), (1, .int x1)] → W p l e rm_X4_rateAll s m args below meth c H locs 0 0 (vx_MQ below (va_Qv Q (wO g) (mB g)) (vx_X (fun _ : mmS => True) (fun E S1 t => X E S1 ∧ wO g S1 t) (mB g)) args s rm_X4_rateAll.cells rm_X4_rateAll.slots (mB g)) (F0 m 35 ls []) := by
  intro n
  induction n with
  | zero => intro S x0 x1 hw; exact False.elim hw
  | succ n ih => exact fun S x0 x1 hw => bw_X4_rateAll_35 hl0 hC hrt hlk hmn hnx hs (K35 := lp_X4_rateAll_35 g.2.2.2.2.2 Q X n) ih S x0 x1 hw
set_option maxHeartbeats 4000000 in
set_option maxRecDepth 100000 in
theorem bw_X4_rateAll_2 {p : Program} {l : Launch} {e : Env} {s : State} {m : MethodId} {args : Array Value} {below : List Frame} {meth : Method} {c : Code} {g : mG} {Q : mmS → Prop} {X : String → mmS → Prop} (hl0 : l.stackTraces = false) (hC : CallFix p m c cX4_rateAll 3 s args (wA_ yX4_rateAll cX4_rateAll 3 none) RX4) (hrt : meth.sig.returnType = none) (hlk : meth.locks = false) (hmn : meth.name = yX4_rateAll.name) (hnx : ∀ x ∈ c.exceptionTable.toList, False) (hs : mX g s) {K2 : mmS → Nat → Int32 → Prop} (hk2 : ∀ (S : mmS) (x0 : Nat) (x1 : Int32), K2 S x0 x1 → ∀ (H : Heap) (locs : List Loc), mH g S s H locs → ∀ ls : Array Slot, lv_has ls 3 [(0, .ref x0), (1, .int x1)] → W p l e rm_X4_rateAll s m args below meth c H locs 0 0 (vx_MQ below (va_Qv Q (wO g) (mB g)) (vx_X (fun _ : mmS => True) (fun E S1 t => X E S1 ∧ wO g S1 t) (mB g)) args s rm_X4_rateAll.cells rm_X4_rateAll.slots (mB g)) (F0 m 2 ls [])) : ∀ (S : mmS) (x0 : Nat) (x1 : Int32), bk_X4_rateAll_2 g.2.2.2.2.2 Q X K2 S x0 x1 → ∀ (H : Heap) (locs : List Loc), mH g S s H locs → ∀ ls : Array Slot, lv_has ls 3 [(0, .ref x0), (1, .int x1)] → W p l e rm_X4_rateAll s m args below meth c H locs 0 0 (vx_MQ below (va_Qv Q (wO g) (mB g)) (vx_X (fun _ : mmS => True) (fun E S1 t => X E S1 ∧ wO g S1 t) (mB g)) args s rm_X4_rateAll.cells rm_X4_rateAll.slots (mB g)) (F0 m 2 ls []) := by
  intro S x0 x1 hw H locs hH ls hl
  unfold bk_X4_rateAll_2 at hw
  refine lv_iload_n hC.1 hC.2.1 dX4_rateAll_2 rfl (lv_at hl 1 rfl) ?_
  refine lv_aload_n hC.1 hC.2.1 dX4_rateAll_3 rfl (lv_at hl 0 rfl) ?_
  obtain ⟨k1, hw⟩ := hw
  obtain ⟨b2, r3, hw⟩ := hw
  refine m_getR hC hs hH cs4 fs4_1 (fun _ h => List.mem_cons_of_mem _ (inlX4 _ h)) (List.mem_cons_of_mem _ q_17) (fun _ h => h) k1 r3 dX4_rateAll_4 ?_
  obtain ⟨k5, hw⟩ := hw
  refine m_callVi (y := yJx4a65c_size_8abf5) (rest := [.int _]) hC hs hH hl.1 (cwV 0 hC.2.2.2.2 (gA_V q_80 q_81 q_82 q_15 q_83) rfl rfl rfl (by decide +kernel) ⟨Nat.le_of_ble_eq_true rfl, Nat.le_of_ble_eq_true rfl⟩) cs6 k5 (met_Jx4a65c_size_8abf5 l hl0 g _ _ _ _ hw) rfl rfl (Nat.le_of_ble_eq_true rfl) dX4_rateAll_7 ⟨Nat.le_of_ble_eq_true rfl, Nat.le_of_ble_eq_true rfl⟩ (m_out (fun x hx => (hnx x hx).elim) hlk (Nat.le_of_ble_eq_true rfl) (Nat.le_of_ble_eq_true rfl)) (fun r6 S1 H locs hw hH => ?_)
  refine W.widen (k := 0) (n := 0) (Nat.le_of_ble_eq_true rfl) (Nat.le_of_ble_eq_true rfl) ?_
  refine lv_icmp_ge (tgt := 33) hC.1 hC.2.1 dX4_rateAll_10 (by decide) (fun hc => ?_) (fun hc => ?_)
  · have hw := hw.1 hc
    refine lv_iconst (v := 0) hC.1 hC.2.1 dX4_rateAll_33 (by decide) ?_
    have hw := hw _ rfl
    refine lv_istore_n (lv' := [(1, .int _), (0, .ref _)]) hC.1 hC.2.1 dX4_rateAll_34 rfl hl (by decide) rfl (fun ls hl => ?_)
    obtain ⟨n, hw⟩ := hw
    exact lw_X4_rateAll_35 hl0 hC hrt hlk hmn hnx hs n _ _ _ hw _ _ hH _ (lv_sub hl [1, 0] rfl)
  · have hw := hw.2 hc
    refine lv_aload_n hC.1 hC.2.1 dX4_rateAll_13 rfl (lv_at hl 0 rfl) ?_
    obtain ⟨k8, hw⟩ := hw
    obtain ⟨b9, r10, hw⟩ := hw
    refine m_getR hC hs hH cs4 fs4_1 (fun _ h => List.mem_cons_of_mem _ (inlX4 _ h)) (List.mem_cons_of_mem _ q_17) (fun _ h => h) k8 r10 dX4_rateAll_14 ?_
    refine lv_iload_n hC.1 hC.2.1 dX4_rateAll_17 rfl (lv_at hl 1 rfl) ?_
    obtain ⟨k12, hw⟩ := hw
    refine m_callVq (y := yJx4a65c_get_915e3) (rest := []) hC hs hH hl.1 (cwV 1 hC.2.2.2.2 (gA_V q_184 q_185 q_186 q_15 q_187) rfl rfl rfl (by decide +kernel) ⟨Nat.le_of_ble_eq_true rfl, Nat.le_of_ble_eq_true rfl⟩) cs6 k12 (met_Jx4a65c_get_915e3 l hl0 g _ _ _ _ _ hw) rfl rfl (Nat.le_of_ble_eq_true rfl) dX4_rateAll_18 ⟨Nat.le_of_ble_eq_true rfl, Nat.le_of_ble_eq_true rfl⟩ (m_out (fun x hx => (hnx x hx).elim) hlk (Nat.le_of_ble_eq_true rfl) (Nat.le_of_ble_eq_true rfl)) (fun r13 S1 H locs hw hH => ?_)
    refine W.widen (k := 0) (n := 0) (Nat.le_of_ble_eq_true rfl) (Nat.le_of_ble_eq_true rfl) ?_
    obtain ⟨k14, hw⟩ := hw
    refine m_cast hC hs hH cs0 (List.mem_cons_of_mem _ q_207) k14 dX4_rateAll_21 ?_
    refine m_callVv (y := yX0_forgetRating) (rest := []) hC hs hH hl.1 (cwV 0 hC.2.2.2.2 (gA_V q_211 q_212 q_213 q_214 q_215) rfl rfl rfl (by decide +kernel) ⟨Nat.le_of_ble_eq_true rfl, Nat.le_of_ble_eq_true rfl⟩) cs0 k14 (met_X0_forgetRating l hl0 g _ _ _ _ hw) rfl rfl (Nat.le_of_ble_eq_true rfl) dX4_rateAll_24 ⟨Nat.le_of_ble_eq_true rfl, Nat.le_of_ble_eq_true rfl⟩ (m_out (fun x hx => (hnx x hx).elim) hlk (Nat.le_of_ble_eq_true rfl) (Nat.le_of_ble_eq_true rfl)) (fun S1 H locs hw hH => ?_)
    refine W.widen (k := 0) (n := 0) (Nat.le_of_ble_eq_true rfl) (Nat.le_of_ble_eq_true rfl) ?_
    have hw := hw _ rfl
    refine lv_iinc (lv' := [(1, .int _), (0, .ref _)]) hC.1 hC.2.1 dX4_rateAll_27 hl (k := 1) rfl (rfl : (_ : Int32) + Int32.ofInt 1 = (_ : Int32) + 1) (by decide) rfl (fun ls hl => ?_)
    refine lv_goto (tgt := 2) hC.1 hC.2.1 dX4_rateAll_30 (by decide) ?_
    exact hk2 _ _ _ hw _ _ hH _ (lv_sub hl [1, 0] rfl)
theorem lw_X4_rateAll_2 {p : Program} {l : Launch} {e : Env} {s : State} {m : MethodId} {args : Array Value} {below : List Frame} {meth : Method} {c : Code} {g : mG} {Q : mmS → Prop} {X : String → mmS → Prop} (hl0 : l.stackTraces = false) (hC : CallFix p m c cX4_rateAll 3 s args (wA_ yX4_rateAll cX4_rateAll 3 none) RX4) (hrt : meth.sig.returnType = none) (hlk : meth.locks = false) (hmn : meth.name = yX4_rateAll.name) (hnx : ∀ x ∈ c.exceptionTable.toList, False) (hs : mX g s) : ∀ (n : Nat) (S : mmS) (x0 : Nat) (x1 : Int32), lp_X4_rateAll_2 g.2.2.2.2.2 Q X n S x0 x1 → ∀ (H : Heap) (locs : List Loc), mH g S s H locs → ∀ ls : Array Slot, lv_has ls 3 [(0, .ref x0), (1, .int x1)] → W p l e rm_X4_rateAll s m args below meth c H locs 0 0 (vx_MQ below (va_Qv Q (wO g) (mB g)) (vx_X (fun _ : mmS => True) (fun E S1 t => X E S1 ∧ wO g S1 t) (mB g)) args s rm_X4_rateAll.cells rm_X4_rateAll.slots (mB g)) (F0 m 2 ls []) := by
  intro n
  induction n with
  | zero => intro S x0 x1 hw; exact False.elim hw
  | succ n ih => exact fun S x0 x1 hw => bw_X4_rateAll_2 hl0 hC hrt hlk hmn hnx hs (K2 := lp_X4_rateAll_2 g.2.2.2.2.2 Q X n) ih S x0 x1 hw
set_option maxHeartbeats 4000000 in
set_option maxRecDepth 100000 in
theorem met_X4_rateAll (l : Launch) (hl0 : l.stackTraces = false) (g : mG) (S : mmS) (p0 : Nat) (Q : mmS → Prop) (X : String → mmS → Prop) (hw : wp_X4_rateAll g.2.2.2.2.2 S p0 Q X) : mMv l g yX4_rateAll (wA_ yX4_rateAll cX4_rateAll 3 none) rm_X4_rateAll [.ref p0] S Q X := by
  refine m_of (y := yX4_rateAll) (cc := cX4_rateAll) (maxL := 3) (ret := none) (by decide) rfl (Nat.le_of_ble_eq_true rfl) ?_
  intro p e s m args below meth c ls hC hrt hlk hmn hnx hs hH hl
  have hC : CallFix p m c cX4_rateAll 3 s args (wA_ yX4_rateAll cX4_rateAll 3 none) RX4 := hC
  have hl : lv_has ls 3 [(0, .ref p0)] := hl
  unfold wp_X4_rateAll at hw
  refine lv_iconst (v := 0) hC.1 hC.2.1 dX4_rateAll_0 (by decide) ?_
  have hw := hw _ rfl
  refine lv_istore_n (lv' := [(1, .int _), (0, .ref _)]) hC.1 hC.2.1 dX4_rateAll_1 rfl hl (by decide) rfl (fun ls hl => ?_)
  obtain ⟨n, hw⟩ := hw
  exact lw_X4_rateAll_2 hl0 hC hrt hlk hmn hnx hs n _ _ _ hw _ _ hH _ (lv_sub hl [1, 0] rfl)
abbrev rm_X4_setZone : Room := { frames := 7, cells := 3, slots := 18, locals := 121 }
def wp_X4_setZone (z : Nat × Nat) (S : mmS) (p0 : Nat) (p1 : Int32) (p2 : Int32) (p3 : Int32) (p4 : Int32) (Q : Int32 → mmS → Prop) (X : String → mmS → Prop) : Prop := (p0 ∈ mL S ∧ mK S p0 = 4) ∧ wp_X4_findTariff z S p0 p1 (fun r3 S1 => wp_X4_checkAbroad z S1 p2 (fun S4 => wp_X4_isMoney z S4 p3 (fun r6 S5 => (r6 = 0 → X "java/lang/IllegalArgumentException" S5) ∧ (¬ r6 = 0 → wp_X4_isMoney z S5 p4 (fun r8 S7 => (¬ r8 = 0 → (r3 ∈ mL S7 ∧ mK S7 r3 = 3) ∧ ∃ b10 : Nat, mR S7 6 r3 = some b10 ∧ (b10 ∈ mL S7 ∧ mK S7 b10 = 7) ∧ vp_in p2 (mN S7 b10) ∧ ∀ v14 : Int32, v14 = (mA S7 b10 (p2).toNatClampNeg) → ∃ b15 : Nat, mR S7 6 r3 = some b15 ∧ (b15 ∈ mL S7 ∧ mK S7 b15 = 7) ∧ vp_in p2 (mN S7 b15) ∧ ∀ S19 : mmS, S19 = sA S7 b15 (p2).toNatClampNeg p3 → ∃ b20 : Nat, mR S19 7 r3 = some b20 ∧ (b20 ∈ mL S19 ∧ mK S19 b20 = 7) ∧ vp_in p2 (mN S19 b20) ∧ ∀ S24 : mmS, S24 = sA S19 b20 (p2).toNatClampNeg p4 → (p0 ∈ mL S24 ∧ mK S24 p0 = 4) ∧ wp_X4_rateAll z S24 p0 (fun S25 => Q v14 S25) X) ∧ (r8 = 0 → X "java/lang/IllegalArgumentException" S7)) X)) X) X) X
set_option maxHeartbeats 4000000 in
set_option maxRecDepth 100000 in
theorem met_X4_setZone (l : Launch) (hl0 : l.stackTraces = false) (g : mG) (S : mmS) (p0 : Nat) (p1 : Int32) (p2 : Int32) (p3 : Int32) (p4 : Int32) (Q : Int32 → mmS → Prop) (X : String → mmS → Prop) (hw : wp_X4_setZone g.2.2.2.2.2 S p0 p1 p2 p3 p4 Q X) : mMi l g yX4_setZone (wA_ yX4_setZone cX4_setZone 7 (some .int)) rm_X4_setZone [.ref p0, .int p1, .int p2, .int p3, .int p4] S Q X := by
  refine m_of (y := yX4_setZone) (cc := cX4_setZone) (maxL := 7) (ret := (some .int)) (by decide) rfl (Nat.le_of_ble_eq_true rfl) ?_
  intro p e s m args below meth c ls hC hrt hlk hmn hnx hs hH hl
  have hC : CallFix p m c cX4_setZone 7 s args (wA_ yX4_setZone cX4_setZone 7 (some .int)) RX4 := hC
  have hl : lv_has ls 7 [(0, .ref p0), (1, .int p1), (2, .int p2), (3, .int p3), (4, .int p4)] := hl
  unfold wp_X4_setZone at hw
  refine lv_aload_n hC.1 hC.2.1 dX4_setZone_0 rfl (lv_at hl 0 rfl) ?_
  refine lv_iload_n hC.1 hC.2.1 dX4_setZone_1 rfl (lv_at hl 1 rfl) ?_
  obtain ⟨k2, hw⟩ := hw
  refine m_callVq (y := yX4_findTariff) (rest := []) hC hs hH hl.1 (cwV 1 hC.2.2.2.2 (gA_V q_177 q_178 q_179 q_2 q_180) rfl rfl rfl (by decide +kernel) ⟨Nat.le_of_ble_eq_true rfl, Nat.le_of_ble_eq_true rfl⟩) cs4 k2 (met_X4_findTariff l hl0 g _ _ _ _ _ hw) rfl rfl (Nat.le_of_ble_eq_true rfl) dX4_setZone_2 ⟨Nat.le_of_ble_eq_true rfl, Nat.le_of_ble_eq_true rfl⟩ (m_out (fun x hx => (hnx x hx).elim) hlk (Nat.le_of_ble_eq_true rfl) (Nat.le_of_ble_eq_true rfl)) (fun r3 S1 H locs hw hH => ?_)
  refine W.widen (k := 1) (n := 6) (Nat.le_of_ble_eq_true rfl) (Nat.le_of_ble_eq_true rfl) ?_
  refine lv_astore (lv' := [(5, .ref _), (0, .ref _), (1, .int _), (2, .int _), (3, .int _), (4, .int _)]) hC.1 hC.2.1 dX4_setZone_5 hl (by decide) rfl (fun ls hl => ?_)
  refine lv_iload_n hC.1 hC.2.1 dX4_setZone_7 rfl (lv_at hl 3 rfl) ?_
  refine m_callSv (y := yX4_checkAbroad) (rest := []) hC hs hH hl.1 (va_cwS 1 hC.2.2.2.2 (gA_S q_200 q_201 q_2 q_202) rfl rfl rfl (by decide +kernel) ⟨Nat.le_of_ble_eq_true rfl, Nat.le_of_ble_eq_true rfl⟩) (met_X4_checkAbroad l hl0 g _ _ _ _ hw) rfl rfl (Nat.le_of_ble_eq_true rfl) dX4_setZone_8 ⟨Nat.le_of_ble_eq_true rfl, Nat.le_of_ble_eq_true rfl⟩ (m_out (fun x hx => (hnx x hx).elim) hlk (Nat.le_of_ble_eq_true rfl) (Nat.le_of_ble_eq_true rfl)) (fun S1 H locs hw hH => ?_)
  refine W.widen (k := 2) (n := 12) (Nat.le_of_ble_eq_true rfl) (Nat.le_of_ble_eq_true rfl) ?_
  refine lv_iload_n hC.1 hC.2.1 dX4_setZone_11 rfl (lv_at hl 4 rfl) ?_
  refine m_callSi (y := yX4_isMoney) (rest := []) hC hs hH hl.1 (va_cwS 1 hC.2.2.2.2 (gA_S q_74 q_75 q_2 q_76) rfl rfl rfl (by decide +kernel) ⟨Nat.le_of_ble_eq_true rfl, Nat.le_of_ble_eq_true rfl⟩) (met_X4_isMoney l hl0 g _ _ _ _ hw) rfl rfl (Nat.le_of_ble_eq_true rfl) dX4_setZone_12 ⟨Nat.le_of_ble_eq_true rfl, Nat.le_of_ble_eq_true rfl⟩ (m_out (fun x hx => (hnx x hx).elim) hlk (Nat.le_of_ble_eq_true rfl) (Nat.le_of_ble_eq_true rfl)) (fun r6 S1 H locs hw hH => ?_)
  refine W.widen (k := 2) (n := 12) (Nat.le_of_ble_eq_true rfl) (Nat.le_of_ble_eq_true rfl) ?_
  refine lv_if_eq (tgt := 26) hC.1 hC.2.1 dX4_setZone_15 (by decide) (fun hc => ?_) (fun hc => ?_)
  · have hw := hw.1 hc
    exact m_throwS (names := ["java/lang/RuntimeException", "java/lang/Exception"]) (text := "a rate or a day fee is not 0 to 10000") hC hs hH hl0 hl.1 rfl (by decide +kernel) (by decide +kernel) (List.mem_cons_of_mem _ q_67) (List.mem_cons_of_mem _ q_68) (by decide +kernel) (fun w h => List.mem_cons_of_mem _ (atIAE w h)) bdIAE (by decide +kernel) gdIAE hnx hlk dX4_setZone_26 dX4_setZone_29 dX4_setZone_30 dX4_setZone_32 dX4_setZone_35 (Nat.le_of_ble_eq_true rfl) (Nat.le_of_ble_eq_true rfl) (Nat.le_of_ble_eq_true rfl) (Nat.le_of_ble_eq_true rfl) (Nat.le_of_ble_eq_true rfl) (Nat.le_of_ble_eq_true rfl) hw
  · have hw := hw.2 hc
    refine lv_iload hC.1 hC.2.1 dX4_setZone_18 (lv_at hl 5 rfl) ?_
    refine m_callSi (y := yX4_isMoney) (rest := []) hC hs hH hl.1 (va_cwS 1 hC.2.2.2.2 (gA_S q_74 q_75 q_2 q_76) rfl rfl rfl (by decide +kernel) ⟨Nat.le_of_ble_eq_true rfl, Nat.le_of_ble_eq_true rfl⟩) (met_X4_isMoney l hl0 g _ _ _ _ hw) rfl rfl (Nat.le_of_ble_eq_true rfl) dX4_setZone_20 ⟨Nat.le_of_ble_eq_true rfl, Nat.le_of_ble_eq_true rfl⟩ (m_out (fun x hx => (hnx x hx).elim) hlk (Nat.le_of_ble_eq_true rfl) (Nat.le_of_ble_eq_true rfl)) (fun r8 S1 H locs hw hH => ?_)
    refine W.widen (k := 2) (n := 12) (Nat.le_of_ble_eq_true rfl) (Nat.le_of_ble_eq_true rfl) ?_
    refine lv_if_ne (tgt := 36) hC.1 hC.2.1 dX4_setZone_23 (by decide) (fun hc => ?_) (fun hc => ?_)
    · have hw := hw.1 hc
      refine lv_aload hC.1 hC.2.1 dX4_setZone_36 (lv_at hl 0 rfl) ?_
      obtain ⟨k9, hw⟩ := hw
      obtain ⟨b10, r11, hw⟩ := hw
      refine m_getR hC hs hH cs3 fs3_6 (fun _ h => List.mem_cons_of_mem _ (inlX3 _ h)) (List.mem_cons_of_mem _ q_175) (fun _ h => h) k9 r11 dX4_setZone_38 ?_
      refine lv_iload_n hC.1 hC.2.1 dX4_setZone_41 rfl (lv_at hl 3 rfl) ?_
      obtain ⟨k12, hw⟩ := hw
      obtain ⟨i13, hw⟩ := hw
      refine m_iald hC hs hH k12 i13 dX4_setZone_42 ?_
      have hw := hw _ rfl
      refine lv_istore (lv' := [(6, .int _), (5, .ref _), (0, .ref _), (1, .int _), (2, .int _), (3, .int _), (4, .int _)]) hC.1 hC.2.1 dX4_setZone_43 hl (by decide) rfl (fun ls hl => ?_)
      refine lv_aload hC.1 hC.2.1 dX4_setZone_45 (lv_at hl 1 rfl) ?_
      obtain ⟨b15, r16, hw⟩ := hw
      refine m_getR hC hs hH cs3 fs3_6 (fun _ h => List.mem_cons_of_mem _ (inlX3 _ h)) (List.mem_cons_of_mem _ q_175) (fun _ h => h) k9 r16 dX4_setZone_47 ?_
      refine lv_iload_n hC.1 hC.2.1 dX4_setZone_50 rfl (lv_at hl 4 rfl) ?_
      refine lv_iload_n hC.1 hC.2.1 dX4_setZone_51 rfl (lv_at hl 5 rfl) ?_
      obtain ⟨k17, hw⟩ := hw
      obtain ⟨i18, hw⟩ := hw
      have hw := hw _ rfl
      refine m_iast hC hs hH k17 i18 dX4_setZone_52 (fun H locs hH => ?_)
      refine lv_aload hC.1 hC.2.1 dX4_setZone_53 (lv_at hl 1 rfl) ?_
      obtain ⟨b20, r21, hw⟩ := hw
      refine m_getR hC hs hH cs3 fs3_7 (fun _ h => List.mem_cons_of_mem _ (inlX3 _ h)) (List.mem_cons_of_mem _ q_176) (fun _ h => h) k9 r21 dX4_setZone_55 ?_
      refine lv_iload_n hC.1 hC.2.1 dX4_setZone_58 rfl (lv_at hl 4 rfl) ?_
      refine lv_iload hC.1 hC.2.1 dX4_setZone_59 (lv_at hl 6 rfl) ?_
      obtain ⟨k22, hw⟩ := hw
      obtain ⟨i23, hw⟩ := hw
      have hw := hw _ rfl
      refine m_iast hC hs hH k22 i23 dX4_setZone_61 (fun H locs hH => ?_)
      refine lv_aload_n hC.1 hC.2.1 dX4_setZone_62 rfl (lv_at hl 2 rfl) ?_
      obtain ⟨k26, hw⟩ := hw
      refine m_callVv (y := yX4_rateAll) (rest := []) hC hs hH hl.1 (cwV 0 hC.2.2.2.2 (gA_V q_203 q_204 q_205 q_2 q_206) rfl rfl rfl (by decide +kernel) ⟨Nat.le_of_ble_eq_true rfl, Nat.le_of_ble_eq_true rfl⟩) cs4 k26 (met_X4_rateAll l hl0 g _ _ _ _ hw) rfl rfl (Nat.le_of_ble_eq_true rfl) dX4_setZone_63 ⟨Nat.le_of_ble_eq_true rfl, Nat.le_of_ble_eq_true rfl⟩ (m_out (fun x hx => (hnx x hx).elim) hlk (Nat.le_of_ble_eq_true rfl) (Nat.le_of_ble_eq_true rfl)) (fun S1 H locs hw hH => ?_)
      refine W.widen (k := 2) (n := 12) (Nat.le_of_ble_eq_true rfl) (Nat.le_of_ble_eq_true rfl) ?_
      refine lv_iload hC.1 hC.2.1 dX4_setZone_66 (lv_at hl 0 rfl) ?_
      exact m_reti hC hH hrt rfl hlk (Nat.le_of_ble_eq_true rfl) (Nat.le_of_ble_eq_true rfl) dX4_setZone_68 hw
    · have hw := hw.2 hc
      exact m_throwS (names := ["java/lang/RuntimeException", "java/lang/Exception"]) (text := "a rate or a day fee is not 0 to 10000") hC hs hH hl0 hl.1 rfl (by decide +kernel) (by decide +kernel) (List.mem_cons_of_mem _ q_67) (List.mem_cons_of_mem _ q_68) (by decide +kernel) (fun w h => List.mem_cons_of_mem _ (atIAE w h)) bdIAE (by decide +kernel) gdIAE hnx hlk dX4_setZone_26 dX4_setZone_29 dX4_setZone_30 dX4_setZone_32 dX4_setZone_35 (Nat.le_of_ble_eq_true rfl) (Nat.le_of_ble_eq_true rfl) (Nat.le_of_ble_eq_true rfl) (Nat.le_of_ble_eq_true rfl) (Nat.le_of_ble_eq_true rfl) (Nat.le_of_ble_eq_true rfl) hw
abbrev rm_X4_isMinuteOfDay : Room := { frames := 2, cells := 0, slots := 0, locals := 22 }
def wp_X4_isMinuteOfDay (z : Nat × Nat) (S : mmS) (p0 : Int32) (Q : Int32 → mmS → Prop) (X : String → mmS → Prop) : Prop := wp_X4_isWithin z S p0 (0 : Int32) (1439 : Int32) (fun r2 S1 => mBo r2 ∧ Q r2 S1) X
set_option maxHeartbeats 4000000 in
set_option maxRecDepth 100000 in
theorem met_X4_isMinuteOfDay (l : Launch) (hl0 : l.stackTraces = false) (g : mG) (S : mmS) (p0 : Int32) (Q : Int32 → mmS → Prop) (X : String → mmS → Prop) (hw : wp_X4_isMinuteOfDay g.2.2.2.2.2 S p0 Q X) : mMi l g yX4_isMinuteOfDay (wA_ yX4_isMinuteOfDay cX4_isMinuteOfDay 1 (some .boolean)) rm_X4_isMinuteOfDay [.int p0] S Q X := by
  refine m_of (y := yX4_isMinuteOfDay) (cc := cX4_isMinuteOfDay) (maxL := 1) (ret := (some .boolean)) (by decide) rfl (Nat.le_of_ble_eq_true rfl) ?_
  intro p e s m args below meth c ls hC hrt hlk hmn hnx hs hH hl
  have hC : CallFix p m c cX4_isMinuteOfDay 1 s args (wA_ yX4_isMinuteOfDay cX4_isMinuteOfDay 1 (some .boolean)) RX4 := hC
  have hl : lv_has ls 1 [(0, .int p0)] := hl
  unfold wp_X4_isMinuteOfDay at hw
  refine lv_iload_n hC.1 hC.2.1 dX4_isMinuteOfDay_0 rfl (lv_at hl 0 rfl) ?_
  refine lv_iconst (v := 0) hC.1 hC.2.1 dX4_isMinuteOfDay_1 (by decide) ?_
  refine lv_sipush (v := 1439) hC.1 hC.2.1 dX4_isMinuteOfDay_2 (by decide) ?_
  refine m_callSi (y := yX4_isWithin) (rest := []) hC hs hH hl.1 (va_cwS 3 hC.2.2.2.2 (gA_S q_77 q_78 q_2 q_79) rfl rfl rfl (by decide +kernel) ⟨Nat.le_of_ble_eq_true rfl, Nat.le_of_ble_eq_true rfl⟩) (met_X4_isWithin l hl0 g _ _ _ _ _ _ hw) rfl rfl (Nat.le_of_ble_eq_true rfl) dX4_isMinuteOfDay_5 ⟨Nat.le_of_ble_eq_true rfl, Nat.le_of_ble_eq_true rfl⟩ (m_out (fun x hx => (hnx x hx).elim) hlk (Nat.le_of_ble_eq_true rfl) (Nat.le_of_ble_eq_true rfl)) (fun r2 S1 H locs hw hH => ?_)
  refine W.widen (k := 0) (n := 0) (Nat.le_of_ble_eq_true rfl) (Nat.le_of_ble_eq_true rfl) ?_
  obtain ⟨z3, hw⟩ := hw
  exact m_reti hC hH hrt z3 hlk (Nat.le_of_ble_eq_true rfl) (Nat.le_of_ble_eq_true rfl) dX4_isMinuteOfDay_8 hw
abbrev rm_X4_setPeak : Room := { frames := 6, cells := 1, slots := 6, locals := 116 }
def bk_X4_setPeak_50 (z : Nat × Nat) (Q : Int32 → mmS → Prop) (X : String → mmS → Prop) (S : mmS) (x0 : Nat) (x1 : Int32) (x2 : Int32) (t0 : Int32) : Prop := (x0 ∈ mL S ∧ mK S x0 = 4) ∧ ∀ S2 : mmS, S2 = sI S 21 x0 x1 → ∀ S3 : mmS, S3 = sI S2 22 x0 x2 → wp_X4_rateAll z S3 x0 (fun S4 => mBo t0 ∧ Q t0 S4) X
def bk_X4_setPeak_45 (z : Nat × Nat) (Q : Int32 → mmS → Prop) (X : String → mmS → Prop) (S : mmS) (x0 : Nat) (x1 : Int32) (x2 : Int32) : Prop := bk_X4_setPeak_50 z Q X S x0 x1 x2 (1 : Int32)
def wp_X4_setPeak (z : Nat × Nat) (S : mmS) (p0 : Nat) (p1 : Int32) (p2 : Int32) (Q : Int32 → mmS → Prop) (X : String → mmS → Prop) : Prop := wp_X4_isMinuteOfDay z S p1 (fun r2 S1 => (r2 = 0 → X "java/lang/IllegalArgumentException" S1) ∧ (¬ r2 = 0 → wp_X4_isMinuteOfDay z S1 p2 (fun r4 S3 => (r4 = 0 → X "java/lang/IllegalArgumentException" S3) ∧ (¬ r4 = 0 → (p1 ≤ p2 → (p0 ∈ mL S3 ∧ mK S3 p0 = 4) ∧ (¬ p1 = (mI S3 21 p0) → bk_X4_setPeak_45 z Q X S3 p0 p1 p2) ∧ (p1 = (mI S3 21 p0) → (p2 = (mI S3 22 p0) → bk_X4_setPeak_50 z Q X S3 p0 p1 p2 (0 : Int32)) ∧ (¬ p2 = (mI S3 22 p0) → bk_X4_setPeak_45 z Q X S3 p0 p1 p2))) ∧ (¬ p1 ≤ p2 → X "java/lang/IllegalArgumentException" S3))) X)) X
set_option maxHeartbeats 4000000 in
set_option maxRecDepth 100000 in
theorem bw_X4_setPeak_50 {p : Program} {l : Launch} {e : Env} {s : State} {m : MethodId} {args : Array Value} {below : List Frame} {meth : Method} {c : Code} {g : mG} {Q : Int32 → mmS → Prop} {X : String → mmS → Prop} (hl0 : l.stackTraces = false) (hC : CallFix p m c cX4_setPeak 4 s args (wA_ yX4_setPeak cX4_setPeak 4 (some .boolean)) RX4) (hrt : meth.sig.returnType = (some .boolean)) (hlk : meth.locks = false) (hmn : meth.name = yX4_setPeak.name) (hnx : ∀ x ∈ c.exceptionTable.toList, False) (hs : mX g s) : ∀ (S : mmS) (x0 : Nat) (x1 : Int32) (x2 : Int32) (t0 : Int32), bk_X4_setPeak_50 g.2.2.2.2.2 Q X S x0 x1 x2 t0 → ∀ (H : Heap) (locs : List Loc), mH g S s H locs → ∀ ls : Array Slot, lv_has ls 4 [(0, .ref x0), (1, .int x1), (2, .int x2)] → W p l e rm_X4_setPeak s m args below meth c H locs 0 0 (vx_MQ below (va_Qi Q (wO g) (mB g)) (vx_X (fun _ : mmS => True) (fun E S1 t => X E S1 ∧ wO g S1 t) (mB g)) args s rm_X4_setPeak.cells rm_X4_setPeak.slots (mB g)) (F0 m 50 ls [.int t0]) := by
  intro S x0 x1 x2 t0 hw H locs hH ls hl
  unfold bk_X4_setPeak_50 at hw
  refine lv_istore_n (lv' := [(3, .int _), (0, .ref _), (1, .int _), (2, .int _)]) hC.1 hC.2.1 dX4_setPeak_50 rfl hl (by decide) rfl (fun ls hl => ?_)
  refine lv_aload_n hC.1 hC.2.1 dX4_setPeak_51 rfl (lv_at hl 1 rfl) ?_
  refine lv_iload_n hC.1 hC.2.1 dX4_setPeak_52 rfl (lv_at hl 2 rfl) ?_
  obtain ⟨k1, hw⟩ := hw
  have hw := hw _ rfl
  refine m_putI hC hs hH cs4 fs4_5 (fun _ h => List.mem_cons_of_mem _ (inlX4 _ h)) (List.mem_cons_of_mem _ q_21) (fun _ h => h) (Or.inl rfl) rfl k1 dX4_setPeak_53 (fun H locs hH => ?_)
  refine lv_aload_n hC.1 hC.2.1 dX4_setPeak_56 rfl (lv_at hl 1 rfl) ?_
  refine lv_iload_n hC.1 hC.2.1 dX4_setPeak_57 rfl (lv_at hl 3 rfl) ?_
  have hw := hw _ rfl
  refine m_putI hC hs hH cs4 fs4_6 (fun _ h => List.mem_cons_of_mem _ (inlX4 _ h)) (List.mem_cons_of_mem _ q_22) (fun _ h => h) (Or.inl rfl) rfl k1 dX4_setPeak_58 (fun H locs hH => ?_)
  refine lv_aload_n hC.1 hC.2.1 dX4_setPeak_61 rfl (lv_at hl 1 rfl) ?_
  refine m_callVv (y := yX4_rateAll) (rest := []) hC hs hH hl.1 (cwV 0 hC.2.2.2.2 (gA_V q_203 q_204 q_205 q_2 q_206) rfl rfl rfl (by decide +kernel) ⟨Nat.le_of_ble_eq_true rfl, Nat.le_of_ble_eq_true rfl⟩) cs4 k1 (met_X4_rateAll l hl0 g _ _ _ _ hw) rfl rfl (Nat.le_of_ble_eq_true rfl) dX4_setPeak_62 ⟨Nat.le_of_ble_eq_true rfl, Nat.le_of_ble_eq_true rfl⟩ (m_out (fun x hx => (hnx x hx).elim) hlk (Nat.le_of_ble_eq_true rfl) (Nat.le_of_ble_eq_true rfl)) (fun S1 H locs hw hH => ?_)
  refine W.widen (k := 0) (n := 0) (Nat.le_of_ble_eq_true rfl) (Nat.le_of_ble_eq_true rfl) ?_
  refine lv_iload_n hC.1 hC.2.1 dX4_setPeak_65 rfl (lv_at hl 0 rfl) ?_
  obtain ⟨z5, hw⟩ := hw
  exact m_reti hC hH hrt z5 hlk (Nat.le_of_ble_eq_true rfl) (Nat.le_of_ble_eq_true rfl) dX4_setPeak_66 hw
set_option maxHeartbeats 4000000 in
set_option maxRecDepth 100000 in
theorem bw_X4_setPeak_45 {p : Program} {l : Launch} {e : Env} {s : State} {m : MethodId} {args : Array Value} {below : List Frame} {meth : Method} {c : Code} {g : mG} {Q : Int32 → mmS → Prop} {X : String → mmS → Prop} (hl0 : l.stackTraces = false) (hC : CallFix p m c cX4_setPeak 4 s args (wA_ yX4_setPeak cX4_setPeak 4 (some .boolean)) RX4) (hrt : meth.sig.returnType = (some .boolean)) (hlk : meth.locks = false) (hmn : meth.name = yX4_setPeak.name) (hnx : ∀ x ∈ c.exceptionTable.toList, False) (hs : mX g s) : ∀ (S : mmS) (x0 : Nat) (x1 : Int32) (x2 : Int32), bk_X4_setPeak_45 g.2.2.2.2.2 Q X S x0 x1 x2 → ∀ (H : Heap) (locs : List Loc), mH g S s H locs → ∀ ls : Array Slot, lv_has ls 4 [(0, .ref x0), (1, .int x1), (2, .int x2)] → W p l e rm_X4_setPeak s m args below meth c H locs 0 0 (vx_MQ below (va_Qi Q (wO g) (mB g)) (vx_X (fun _ : mmS => True) (fun E S1 t => X E S1 ∧ wO g S1 t) (mB g)) args s rm_X4_setPeak.cells rm_X4_setPeak.slots (mB g)) (F0 m 45 ls []) := by
  intro S x0 x1 x2 hw H locs hH ls hl
  unfold bk_X4_setPeak_45 at hw
  refine lv_iconst (v := 1) hC.1 hC.2.1 dX4_setPeak_45 (by decide) ?_
  refine lv_goto (tgt := 50) hC.1 hC.2.1 dX4_setPeak_46 (by decide) ?_
  exact bw_X4_setPeak_50 hl0 hC hrt hlk hmn hnx hs _ _ _ _ _ hw _ _ hH _ (lv_sub hl [0, 1, 2] rfl)
set_option maxHeartbeats 4000000 in
set_option maxRecDepth 100000 in
theorem met_X4_setPeak (l : Launch) (hl0 : l.stackTraces = false) (g : mG) (S : mmS) (p0 : Nat) (p1 : Int32) (p2 : Int32) (Q : Int32 → mmS → Prop) (X : String → mmS → Prop) (hw : wp_X4_setPeak g.2.2.2.2.2 S p0 p1 p2 Q X) : mMi l g yX4_setPeak (wA_ yX4_setPeak cX4_setPeak 4 (some .boolean)) rm_X4_setPeak [.ref p0, .int p1, .int p2] S Q X := by
  refine m_of (y := yX4_setPeak) (cc := cX4_setPeak) (maxL := 4) (ret := (some .boolean)) (by decide) rfl (Nat.le_of_ble_eq_true rfl) ?_
  intro p e s m args below meth c ls hC hrt hlk hmn hnx hs hH hl
  have hC : CallFix p m c cX4_setPeak 4 s args (wA_ yX4_setPeak cX4_setPeak 4 (some .boolean)) RX4 := hC
  have hl : lv_has ls 4 [(0, .ref p0), (1, .int p1), (2, .int p2)] := hl
  unfold wp_X4_setPeak at hw
  refine lv_iload_n hC.1 hC.2.1 dX4_setPeak_0 rfl (lv_at hl 1 rfl) ?_
  refine m_callSi (y := yX4_isMinuteOfDay) (rest := []) hC hs hH hl.1 (va_cwS 1 hC.2.2.2.2 (gA_S q_306 q_307 q_2 q_308) rfl rfl rfl (by decide +kernel) ⟨Nat.le_of_ble_eq_true rfl, Nat.le_of_ble_eq_true rfl⟩) (met_X4_isMinuteOfDay l hl0 g _ _ _ _ hw) rfl rfl (Nat.le_of_ble_eq_true rfl) dX4_setPeak_1 ⟨Nat.le_of_ble_eq_true rfl, Nat.le_of_ble_eq_true rfl⟩ (m_out (fun x hx => (hnx x hx).elim) hlk (Nat.le_of_ble_eq_true rfl) (Nat.le_of_ble_eq_true rfl)) (fun r2 S1 H locs hw hH => ?_)
  refine W.widen (k := 0) (n := 0) (Nat.le_of_ble_eq_true rfl) (Nat.le_of_ble_eq_true rfl) ?_
  refine lv_if_eq (tgt := 19) hC.1 hC.2.1 dX4_setPeak_4 (by decide) (fun hc => ?_) (fun hc => ?_)
  · have hw := hw.1 hc
    exact m_throwS (names := ["java/lang/RuntimeException", "java/lang/Exception"]) (text := "no peak of a day") hC hs hH hl0 hl.1 rfl (by decide +kernel) (by decide +kernel) (List.mem_cons_of_mem _ q_67) (List.mem_cons_of_mem _ q_68) (by decide +kernel) (fun w h => List.mem_cons_of_mem _ (atIAE w h)) bdIAE (by decide +kernel) gdIAE hnx hlk dX4_setPeak_19 dX4_setPeak_22 dX4_setPeak_23 dX4_setPeak_25 dX4_setPeak_28 (Nat.le_of_ble_eq_true rfl) (Nat.le_of_ble_eq_true rfl) (Nat.le_of_ble_eq_true rfl) (Nat.le_of_ble_eq_true rfl) (Nat.le_of_ble_eq_true rfl) (Nat.le_of_ble_eq_true rfl) hw
  · have hw := hw.2 hc
    refine lv_iload_n hC.1 hC.2.1 dX4_setPeak_7 rfl (lv_at hl 2 rfl) ?_
    refine m_callSi (y := yX4_isMinuteOfDay) (rest := []) hC hs hH hl.1 (va_cwS 1 hC.2.2.2.2 (gA_S q_306 q_307 q_2 q_308) rfl rfl rfl (by decide +kernel) ⟨Nat.le_of_ble_eq_true rfl, Nat.le_of_ble_eq_true rfl⟩) (met_X4_isMinuteOfDay l hl0 g _ _ _ _ hw) rfl rfl (Nat.le_of_ble_eq_true rfl) dX4_setPeak_8 ⟨Nat.le_of_ble_eq_true rfl, Nat.le_of_ble_eq_true rfl⟩ (m_out (fun x hx => (hnx x hx).elim) hlk (Nat.le_of_ble_eq_true rfl) (Nat.le_of_ble_eq_true rfl)) (fun r4 S1 H locs hw hH => ?_)
    refine W.widen (k := 0) (n := 0) (Nat.le_of_ble_eq_true rfl) (Nat.le_of_ble_eq_true rfl) ?_
    refine lv_if_eq (tgt := 19) hC.1 hC.2.1 dX4_setPeak_11 (by decide) (fun hc => ?_) (fun hc => ?_)
    · have hw := hw.1 hc
      exact m_throwS (names := ["java/lang/RuntimeException", "java/lang/Exception"]) (text := "no peak of a day") hC hs hH hl0 hl.1 rfl (by decide +kernel) (by decide +kernel) (List.mem_cons_of_mem _ q_67) (List.mem_cons_of_mem _ q_68) (by decide +kernel) (fun w h => List.mem_cons_of_mem _ (atIAE w h)) bdIAE (by decide +kernel) gdIAE hnx hlk dX4_setPeak_19 dX4_setPeak_22 dX4_setPeak_23 dX4_setPeak_25 dX4_setPeak_28 (Nat.le_of_ble_eq_true rfl) (Nat.le_of_ble_eq_true rfl) (Nat.le_of_ble_eq_true rfl) (Nat.le_of_ble_eq_true rfl) (Nat.le_of_ble_eq_true rfl) (Nat.le_of_ble_eq_true rfl) hw
    · have hw := hw.2 hc
      refine lv_iload_n hC.1 hC.2.1 dX4_setPeak_14 rfl (lv_at hl 2 rfl) ?_
      refine lv_iload_n hC.1 hC.2.1 dX4_setPeak_15 rfl (lv_at hl 1 rfl) ?_
      refine lv_icmp_ge (tgt := 29) hC.1 hC.2.1 dX4_setPeak_16 (by decide) (fun hc => ?_) (fun hc => ?_)
      · have hw := hw.1 hc
        refine lv_iload_n hC.1 hC.2.1 dX4_setPeak_29 rfl (lv_at hl 1 rfl) ?_
        refine lv_aload_n hC.1 hC.2.1 dX4_setPeak_30 rfl (lv_at hl 0 rfl) ?_
        obtain ⟨k5, hw⟩ := hw
        refine m_getI hC hs hH cs4 fs4_5 (fun _ h => List.mem_cons_of_mem _ (inlX4 _ h)) (List.mem_cons_of_mem _ q_21) (fun _ h => h) k5 dX4_setPeak_31 ?_
        refine lv_icmp_ne (tgt := 45) hC.1 hC.2.1 dX4_setPeak_34 (by decide) (fun hc => ?_) (fun hc => ?_)
        · have hw := hw.1 hc
          exact bw_X4_setPeak_45 hl0 hC hrt hlk hmn hnx hs _ _ _ _ hw _ _ hH _ (lv_sub hl [0, 1, 2] rfl)
        · have hw := hw.2 hc
          refine lv_iload_n hC.1 hC.2.1 dX4_setPeak_37 rfl (lv_at hl 2 rfl) ?_
          refine lv_aload_n hC.1 hC.2.1 dX4_setPeak_38 rfl (lv_at hl 0 rfl) ?_
          refine m_getI hC hs hH cs4 fs4_6 (fun _ h => List.mem_cons_of_mem _ (inlX4 _ h)) (List.mem_cons_of_mem _ q_22) (fun _ h => h) k5 dX4_setPeak_39 ?_
          refine lv_icmp_eq (tgt := 49) hC.1 hC.2.1 dX4_setPeak_42 (by decide) (fun hc => ?_) (fun hc => ?_)
          · have hw := hw.1 hc
            refine lv_iconst (v := 0) hC.1 hC.2.1 dX4_setPeak_49 (by decide) ?_
            exact bw_X4_setPeak_50 hl0 hC hrt hlk hmn hnx hs _ _ _ _ _ hw _ _ hH _ (lv_sub hl [0, 1, 2] rfl)
          · have hw := hw.2 hc
            exact bw_X4_setPeak_45 hl0 hC hrt hlk hmn hnx hs _ _ _ _ hw _ _ hH _ (lv_sub hl [0, 1, 2] rfl)
      · have hw := hw.2 hc
        exact m_throwS (names := ["java/lang/RuntimeException", "java/lang/Exception"]) (text := "no peak of a day") hC hs hH hl0 hl.1 rfl (by decide +kernel) (by decide +kernel) (List.mem_cons_of_mem _ q_67) (List.mem_cons_of_mem _ q_68) (by decide +kernel) (fun w h => List.mem_cons_of_mem _ (atIAE w h)) bdIAE (by decide +kernel) gdIAE hnx hlk dX4_setPeak_19 dX4_setPeak_22 dX4_setPeak_23 dX4_setPeak_25 dX4_setPeak_28 (Nat.le_of_ble_eq_true rfl) (Nat.le_of_ble_eq_true rfl) (Nat.le_of_ble_eq_true rfl) (Nat.le_of_ble_eq_true rfl) (Nat.le_of_ble_eq_true rfl) (Nat.le_of_ble_eq_true rfl) hw
abbrev rm_X4_checkBundle : Room := { frames := 6, cells := 1, slots := 6, locals := 100 }
def wp_X4_checkBundle (z : Nat × Nat) (S : mmS) (p0 : Int32) (Q : mmS → Prop) (X : String → mmS → Prop) : Prop := wp_X4_isWithin z S p0 (0 : Int32) (100000 : Int32) (fun r2 S1 => (¬ r2 = 0 → Q S1) ∧ (r2 = 0 → X "java/lang/IllegalArgumentException" S1)) X
set_option maxHeartbeats 4000000 in
set_option maxRecDepth 100000 in
theorem met_X4_checkBundle (l : Launch) (hl0 : l.stackTraces = false) (g : mG) (S : mmS) (p0 : Int32) (Q : mmS → Prop) (X : String → mmS → Prop) (hw : wp_X4_checkBundle g.2.2.2.2.2 S p0 Q X) : mMv l g yX4_checkBundle (wA_ yX4_checkBundle cX4_checkBundle 1 none) rm_X4_checkBundle [.int p0] S Q X := by
  refine m_of (y := yX4_checkBundle) (cc := cX4_checkBundle) (maxL := 1) (ret := none) (by decide) rfl (Nat.le_of_ble_eq_true rfl) ?_
  intro p e s m args below meth c ls hC hrt hlk hmn hnx hs hH hl
  have hC : CallFix p m c cX4_checkBundle 1 s args (wA_ yX4_checkBundle cX4_checkBundle 1 none) RX4 := hC
  have hl : lv_has ls 1 [(0, .int p0)] := hl
  unfold wp_X4_checkBundle at hw
  refine lv_iload_n hC.1 hC.2.1 dX4_checkBundle_0 rfl (lv_at hl 0 rfl) ?_
  refine lv_iconst (v := 0) hC.1 hC.2.1 dX4_checkBundle_1 (by decide) ?_
  refine lv_ldcw hC.1 hC.2.1 hC.2.2.2.1 (hC.2.2.2.2 _ (List.mem_cons_of_mem _ q_326)) dX4_checkBundle_2 ?_
  refine m_callSi (y := yX4_isWithin) (rest := []) hC hs hH hl.1 (va_cwS 3 hC.2.2.2.2 (gA_S q_77 q_78 q_2 q_79) rfl rfl rfl (by decide +kernel) ⟨Nat.le_of_ble_eq_true rfl, Nat.le_of_ble_eq_true rfl⟩) (met_X4_isWithin l hl0 g _ _ _ _ _ _ hw) rfl rfl (Nat.le_of_ble_eq_true rfl) dX4_checkBundle_5 ⟨Nat.le_of_ble_eq_true rfl, Nat.le_of_ble_eq_true rfl⟩ (m_out (fun x hx => (hnx x hx).elim) hlk (Nat.le_of_ble_eq_true rfl) (Nat.le_of_ble_eq_true rfl)) (fun r2 S1 H locs hw hH => ?_)
  refine W.widen (k := 0) (n := 0) (Nat.le_of_ble_eq_true rfl) (Nat.le_of_ble_eq_true rfl) ?_
  refine lv_if_ne (tgt := 22) hC.1 hC.2.1 dX4_checkBundle_8 (by decide) (fun hc => ?_) (fun hc => ?_)
  · have hw := hw.1 hc
    exact m_retv hC hH hrt hlk (Nat.le_of_ble_eq_true rfl) (Nat.le_of_ble_eq_true rfl) dX4_checkBundle_22 hw
  · have hw := hw.2 hc
    exact m_throwSW (names := ["java/lang/RuntimeException", "java/lang/Exception"]) (text := "the bundle is not 0 to 100000") hC hs hH hl0 hl.1 rfl (by decide +kernel) (by decide +kernel) (List.mem_cons_of_mem _ q_67) (List.mem_cons_of_mem _ q_68) (by decide +kernel) (fun w h => List.mem_cons_of_mem _ (atIAE w h)) bdIAE (by decide +kernel) gdIAE hnx hlk dX4_checkBundle_11 dX4_checkBundle_14 dX4_checkBundle_15 dX4_checkBundle_18 dX4_checkBundle_21 (Nat.le_of_ble_eq_true rfl) (Nat.le_of_ble_eq_true rfl) (Nat.le_of_ble_eq_true rfl) (Nat.le_of_ble_eq_true rfl) (Nat.le_of_ble_eq_true rfl) (Nat.le_of_ble_eq_true rfl) hw
abbrev rm_X4_addAccount : Room := { frames := 7, cells := 3, slots := 140, locals := 171 }
def wp_X4_addAccount (z : Nat × Nat) (S : mmS) (p0 : Nat) (p1 : Int32) (p2 : Int32) (p3 : Int32) (Q : Int32 → mmS → Prop) (X : String → mmS → Prop) : Prop := wp_X4_checkBundle z S p1 (fun S1 => wp_X4_isWithin z S1 p2 (0 : Int32) (1000000 : Int32) (fun r3 S2 => (¬ r3 = 0 → wp_X4_isWithin z S2 p3 (0 : Int32) (100 : Int32) (fun r5 S4 => (¬ r5 = 0 → (p0 ∈ mL S4 ∧ mK S4 p0 = 4) ∧ ∃ b7 : Nat, mR S4 9 p0 = some b7 ∧ (b7 ∈ mL S4 ∧ mK S4 b7 = 6) ∧ wp_Jx4a65c_size_8abf5 z S4 b7 (fun r11 S9 => (r11 < (4 : Int32) → (p0 ∈ mL S9 ∧ mK S9 p0 = 4) ∧ ∃ b13 : Nat, mR S9 9 p0 = some b13 ∧ ∀ q15 : Nat, q15 ∉ mL S9 → ∀ S17 : mmS, S17 = sNo S9 q15 0 → wp_X0_init z S17 q15 p1 p2 p3 (fun S18 => (b13 ∈ mL S18 ∧ mK S18 b13 = 6) ∧ wp_Jx4a65c_add_9ea2d z S18 b13 q15 (fun r21 S19 => Q r11 S19) X) X) ∧ (¬ r11 < (4 : Int32) → X "java/lang/IllegalStateException" S9)) X) ∧ (r5 = 0 → X "java/lang/IllegalArgumentException" S4)) X) ∧ (r3 = 0 → X "java/lang/IllegalArgumentException" S2)) X) X
set_option maxHeartbeats 4000000 in
set_option maxRecDepth 100000 in
theorem met_X4_addAccount (l : Launch) (hl0 : l.stackTraces = false) (g : mG) (S : mmS) (p0 : Nat) (p1 : Int32) (p2 : Int32) (p3 : Int32) (Q : Int32 → mmS → Prop) (X : String → mmS → Prop) (hw : wp_X4_addAccount g.2.2.2.2.2 S p0 p1 p2 p3 Q X) : mMi l g yX4_addAccount (wA_ yX4_addAccount cX4_addAccount 5 (some .int)) rm_X4_addAccount [.ref p0, .int p1, .int p2, .int p3] S Q X := by
  refine m_of (y := yX4_addAccount) (cc := cX4_addAccount) (maxL := 5) (ret := (some .int)) (by decide) rfl (Nat.le_of_ble_eq_true rfl) ?_
  intro p e s m args below meth c ls hC hrt hlk hmn hnx hs hH hl
  have hC : CallFix p m c cX4_addAccount 5 s args (wA_ yX4_addAccount cX4_addAccount 5 (some .int)) RX4 := hC
  have hl : lv_has ls 5 [(0, .ref p0), (1, .int p1), (2, .int p2), (3, .int p3)] := hl
  unfold wp_X4_addAccount at hw
  refine lv_iload_n hC.1 hC.2.1 dX4_addAccount_0 rfl (lv_at hl 1 rfl) ?_
  refine m_callSv (y := yX4_checkBundle) (rest := []) hC hs hH hl.1 (va_cwS 1 hC.2.2.2.2 (gA_S q_323 q_324 q_2 q_325) rfl rfl rfl (by decide +kernel) ⟨Nat.le_of_ble_eq_true rfl, Nat.le_of_ble_eq_true rfl⟩) (met_X4_checkBundle l hl0 g _ _ _ _ hw) rfl rfl (Nat.le_of_ble_eq_true rfl) dX4_addAccount_1 ⟨Nat.le_of_ble_eq_true rfl, Nat.le_of_ble_eq_true rfl⟩ (m_out (fun x hx => (hnx x hx).elim) hlk (Nat.le_of_ble_eq_true rfl) (Nat.le_of_ble_eq_true rfl)) (fun S1 H locs hw hH => ?_)
  refine W.widen (k := 1) (n := 6) (Nat.le_of_ble_eq_true rfl) (Nat.le_of_ble_eq_true rfl) ?_
  refine lv_iload_n hC.1 hC.2.1 dX4_addAccount_4 rfl (lv_at hl 2 rfl) ?_
  refine lv_iconst (v := 0) hC.1 hC.2.1 dX4_addAccount_5 (by decide) ?_
  refine lv_ldc hC.1 hC.2.1 hC.2.2.2.1 (hC.2.2.2.2 _ (List.mem_cons_of_mem _ q_320)) dX4_addAccount_6 ?_
  refine m_callSi (y := yX4_isWithin) (rest := []) hC hs hH hl.1 (va_cwS 3 hC.2.2.2.2 (gA_S q_77 q_78 q_2 q_79) rfl rfl rfl (by decide +kernel) ⟨Nat.le_of_ble_eq_true rfl, Nat.le_of_ble_eq_true rfl⟩) (met_X4_isWithin l hl0 g _ _ _ _ _ _ hw) rfl rfl (Nat.le_of_ble_eq_true rfl) dX4_addAccount_8 ⟨Nat.le_of_ble_eq_true rfl, Nat.le_of_ble_eq_true rfl⟩ (m_out (fun x hx => (hnx x hx).elim) hlk (Nat.le_of_ble_eq_true rfl) (Nat.le_of_ble_eq_true rfl)) (fun r3 S1 H locs hw hH => ?_)
  refine W.widen (k := 1) (n := 6) (Nat.le_of_ble_eq_true rfl) (Nat.le_of_ble_eq_true rfl) ?_
  refine lv_if_ne (tgt := 24) hC.1 hC.2.1 dX4_addAccount_11 (by decide) (fun hc => ?_) (fun hc => ?_)
  · have hw := hw.1 hc
    refine lv_iload_n hC.1 hC.2.1 dX4_addAccount_24 rfl (lv_at hl 3 rfl) ?_
    refine lv_iconst (v := 0) hC.1 hC.2.1 dX4_addAccount_25 (by decide) ?_
    refine lv_bipush (v := 100) hC.1 hC.2.1 dX4_addAccount_26 (by decide) ?_
    refine m_callSi (y := yX4_isWithin) (rest := []) hC hs hH hl.1 (va_cwS 3 hC.2.2.2.2 (gA_S q_77 q_78 q_2 q_79) rfl rfl rfl (by decide +kernel) ⟨Nat.le_of_ble_eq_true rfl, Nat.le_of_ble_eq_true rfl⟩) (met_X4_isWithin l hl0 g _ _ _ _ _ _ hw) rfl rfl (Nat.le_of_ble_eq_true rfl) dX4_addAccount_28 ⟨Nat.le_of_ble_eq_true rfl, Nat.le_of_ble_eq_true rfl⟩ (m_out (fun x hx => (hnx x hx).elim) hlk (Nat.le_of_ble_eq_true rfl) (Nat.le_of_ble_eq_true rfl)) (fun r5 S1 H locs hw hH => ?_)
    refine W.widen (k := 1) (n := 6) (Nat.le_of_ble_eq_true rfl) (Nat.le_of_ble_eq_true rfl) ?_
    refine lv_if_ne (tgt := 44) hC.1 hC.2.1 dX4_addAccount_31 (by decide) (fun hc => ?_) (fun hc => ?_)
    · have hw := hw.1 hc
      refine lv_aload_n hC.1 hC.2.1 dX4_addAccount_44 rfl (lv_at hl 0 rfl) ?_
      obtain ⟨k6, hw⟩ := hw
      obtain ⟨b7, r8, hw⟩ := hw
      refine m_getR hC hs hH cs4 fs4_1 (fun _ h => List.mem_cons_of_mem _ (inlX4 _ h)) (List.mem_cons_of_mem _ q_17) (fun _ h => h) k6 r8 dX4_addAccount_45 ?_
      obtain ⟨k10, hw⟩ := hw
      refine m_callVi (y := yJx4a65c_size_8abf5) (rest := []) hC hs hH hl.1 (cwV 0 hC.2.2.2.2 (gA_V q_80 q_81 q_82 q_15 q_83) rfl rfl rfl (by decide +kernel) ⟨Nat.le_of_ble_eq_true rfl, Nat.le_of_ble_eq_true rfl⟩) cs6 k10 (met_Jx4a65c_size_8abf5 l hl0 g _ _ _ _ hw) rfl rfl (Nat.le_of_ble_eq_true rfl) dX4_addAccount_48 ⟨Nat.le_of_ble_eq_true rfl, Nat.le_of_ble_eq_true rfl⟩ (m_out (fun x hx => (hnx x hx).elim) hlk (Nat.le_of_ble_eq_true rfl) (Nat.le_of_ble_eq_true rfl)) (fun r11 S1 H locs hw hH => ?_)
      refine W.widen (k := 1) (n := 6) (Nat.le_of_ble_eq_true rfl) (Nat.le_of_ble_eq_true rfl) ?_
      refine lv_istore (lv' := [(4, .int _), (0, .ref _), (1, .int _), (2, .int _), (3, .int _)]) hC.1 hC.2.1 dX4_addAccount_51 hl (by decide) rfl (fun ls hl => ?_)
      refine lv_iload hC.1 hC.2.1 dX4_addAccount_53 (lv_at hl 0 rfl) ?_
      refine lv_iconst (v := 4) hC.1 hC.2.1 dX4_addAccount_55 (by decide) ?_
      refine lv_icmp_lt (tgt := 69) hC.1 hC.2.1 dX4_addAccount_56 (by decide) (fun hc => ?_) (fun hc => ?_)
      · have hw := hw.1 hc
        refine lv_aload_n hC.1 hC.2.1 dX4_addAccount_69 rfl (lv_at hl 1 rfl) ?_
        obtain ⟨k12, hw⟩ := hw
        obtain ⟨b13, r14, hw⟩ := hw
        refine m_getR hC hs hH cs4 fs4_1 (fun _ h => List.mem_cons_of_mem _ (inlX4 _ h)) (List.mem_cons_of_mem _ q_17) (fun _ h => h) k12 r14 dX4_addAccount_70 ?_
        refine m_newO hC hs hH cs0 (fun _ h => List.mem_cons_of_mem _ (inlX0 _ h)) (List.mem_cons_of_mem _ q_207) (List.mem_cons_of_mem _ q_322) (List.mem_cons_of_mem _ q_214) df0 (Nat.le_of_ble_eq_true rfl) (Nat.le_of_ble_eq_true rfl) dX4_addAccount_73 (fun q15 H f16 hH => ?_)
        have hw := hw q15 f16 _ rfl
        refine W.widen (k := 2) (n := 12) (Nat.le_of_ble_eq_true rfl) (Nat.le_of_ble_eq_true rfl) ?_
        refine lv_dup hC.1 hC.2.1 dX4_addAccount_76 rfl ?_
        refine lv_iload_n hC.1 hC.2.1 dX4_addAccount_77 rfl (lv_at hl 2 rfl) ?_
        refine lv_iload_n hC.1 hC.2.1 dX4_addAccount_78 rfl (lv_at hl 3 rfl) ?_
        refine lv_iload_n hC.1 hC.2.1 dX4_addAccount_79 rfl (lv_at hl 4 rfl) ?_
        refine m_callIv (y := yX0_init) (rest := [.ref _, .ref _]) hC hs hH hl.1 (cwI 3 hC.2.2.2.2 (gA0 q_329) rfl rfl rfl (hC.2.2.2.2 _ (List.mem_cons_of_mem _ q_214)) (hC.2.2.2.2 _ (List.mem_cons_of_mem _ q_327)) (hC.2.2.2.2 _ (List.mem_cons_of_mem _ q_328)) rfl (by decide +kernel) ⟨Nat.le_of_ble_eq_true rfl, Nat.le_of_ble_eq_true rfl⟩) (met_X0_init l hl0 g _ _ _ _ _ _ _ hw) rfl rfl (Nat.le_of_ble_eq_true rfl) dX4_addAccount_80 ⟨Nat.le_of_ble_eq_true rfl, Nat.le_of_ble_eq_true rfl⟩ (m_out (fun x hx => (hnx x hx).elim) hlk (Nat.le_of_ble_eq_true rfl) (Nat.le_of_ble_eq_true rfl)) (fun S1 H locs hw hH => ?_)
        refine W.widen (k := 2) (n := 12) (Nat.le_of_ble_eq_true rfl) (Nat.le_of_ble_eq_true rfl) ?_
        obtain ⟨k20, hw⟩ := hw
        refine m_callVi (y := yJx4a65c_add_9ea2d) (rest := []) hC hs hH hl.1 (cwV 1 hC.2.2.2.2 (gA_V q_97 q_98 q_99 q_15 q_100) rfl rfl rfl (by decide +kernel) ⟨Nat.le_of_ble_eq_true rfl, Nat.le_of_ble_eq_true rfl⟩) cs6 k20 (met_Jx4a65c_add_9ea2d l hl0 g _ _ _ _ _ hw) rfl rfl (Nat.le_of_ble_eq_true rfl) dX4_addAccount_83 ⟨Nat.le_of_ble_eq_true rfl, Nat.le_of_ble_eq_true rfl⟩ (m_out (fun x hx => (hnx x hx).elim) hlk (Nat.le_of_ble_eq_true rfl) (Nat.le_of_ble_eq_true rfl)) (fun r21 S1 H locs hw hH => ?_)
        refine W.widen (k := 3) (n := 140) (Nat.le_of_ble_eq_true rfl) (Nat.le_of_ble_eq_true rfl) ?_
        refine lv_pop hC.1 hC.2.1 dX4_addAccount_86 rfl ?_
        refine lv_iload hC.1 hC.2.1 dX4_addAccount_87 (lv_at hl 0 rfl) ?_
        exact m_reti hC hH hrt rfl hlk (Nat.le_of_ble_eq_true rfl) (Nat.le_of_ble_eq_true rfl) dX4_addAccount_89 hw
      · have hw := hw.2 hc
        exact m_throwS (names := ["java/lang/RuntimeException", "java/lang/Exception"]) (text := "there are 4 accounts") hC hs hH hl0 hl.1 rfl (by decide +kernel) (by decide +kernel) (List.mem_cons_of_mem _ q_69) (List.mem_cons_of_mem _ q_70) (by decide +kernel) (fun w h => List.mem_cons_of_mem _ (atISE w h)) bdISE (by decide +kernel) gdISE hnx hlk dX4_addAccount_59 dX4_addAccount_62 dX4_addAccount_63 dX4_addAccount_65 dX4_addAccount_68 (Nat.le_of_ble_eq_true rfl) (Nat.le_of_ble_eq_true rfl) (Nat.le_of_ble_eq_true rfl) (Nat.le_of_ble_eq_true rfl) (Nat.le_of_ble_eq_true rfl) (Nat.le_of_ble_eq_true rfl) hw
    · have hw := hw.2 hc
      exact m_throwS (names := ["java/lang/RuntimeException", "java/lang/Exception"]) (text := "the percentage is not 0 to 100") hC hs hH hl0 hl.1 rfl (by decide +kernel) (by decide +kernel) (List.mem_cons_of_mem _ q_67) (List.mem_cons_of_mem _ q_68) (by decide +kernel) (fun w h => List.mem_cons_of_mem _ (atIAE w h)) bdIAE (by decide +kernel) gdIAE hnx hlk dX4_addAccount_34 dX4_addAccount_37 dX4_addAccount_38 dX4_addAccount_40 dX4_addAccount_43 (Nat.le_of_ble_eq_true rfl) (Nat.le_of_ble_eq_true rfl) (Nat.le_of_ble_eq_true rfl) (Nat.le_of_ble_eq_true rfl) (Nat.le_of_ble_eq_true rfl) (Nat.le_of_ble_eq_true rfl) hw
  · have hw := hw.2 hc
    exact m_throwS (names := ["java/lang/RuntimeException", "java/lang/Exception"]) (text := "the threshold is not 0 to 1000000") hC hs hH hl0 hl.1 rfl (by decide +kernel) (by decide +kernel) (List.mem_cons_of_mem _ q_67) (List.mem_cons_of_mem _ q_68) (by decide +kernel) (fun w h => List.mem_cons_of_mem _ (atIAE w h)) bdIAE (by decide +kernel) gdIAE hnx hlk dX4_addAccount_14 dX4_addAccount_17 dX4_addAccount_18 dX4_addAccount_20 dX4_addAccount_23 (Nat.le_of_ble_eq_true rfl) (Nat.le_of_ble_eq_true rfl) (Nat.le_of_ble_eq_true rfl) (Nat.le_of_ble_eq_true rfl) (Nat.le_of_ble_eq_true rfl) (Nat.le_of_ble_eq_true rfl) hw
abbrev rm_X4_findAccount : Room := { frames := 6, cells := 1, slots := 6, locals := 100 }
def wp_X4_findAccount (z : Nat × Nat) (S : mmS) (p0 : Nat) (p1 : Int32) (Q : Nat → mmS → Prop) (X : String → mmS → Prop) : Prop := (p1 < 0 → X "java/lang/IndexOutOfBoundsException" S) ∧ (¬ p1 < 0 → (p0 ∈ mL S ∧ mK S p0 = 4) ∧ ∃ b2 : Nat, mR S 9 p0 = some b2 ∧ (b2 ∈ mL S ∧ mK S b2 = 6) ∧ wp_Jx4a65c_size_8abf5 z S b2 (fun r6 S4 => (p1 < r6 → (p0 ∈ mL S4 ∧ mK S4 p0 = 4) ∧ ∃ b8 : Nat, mR S4 9 p0 = some b8 ∧ (b8 ∈ mL S4 ∧ mK S4 b8 = 6) ∧ wp_Jx4a65c_get_915e3 z S4 b8 p1 (fun r12 S10 => (r12 ∈ mL S10 ∧ mK S10 r12 = 0) ∧ Q r12 S10) X) ∧ (¬ p1 < r6 → X "java/lang/IndexOutOfBoundsException" S4)) X)
set_option maxHeartbeats 4000000 in
set_option maxRecDepth 100000 in
theorem met_X4_findAccount (l : Launch) (hl0 : l.stackTraces = false) (g : mG) (S : mmS) (p0 : Nat) (p1 : Int32) (Q : Nat → mmS → Prop) (X : String → mmS → Prop) (hw : wp_X4_findAccount g.2.2.2.2.2 S p0 p1 Q X) : mMq l g yX4_findAccount (wA_ yX4_findAccount cX4_findAccount 2 (some (.object "PhoneRater$Account"))) rm_X4_findAccount [.ref p0, .int p1] S Q X := by
  refine m_of (y := yX4_findAccount) (cc := cX4_findAccount) (maxL := 2) (ret := (some (.object "PhoneRater$Account"))) (by decide) rfl (Nat.le_of_ble_eq_true rfl) ?_
  intro p e s m args below meth c ls hC hrt hlk hmn hnx hs hH hl
  have hC : CallFix p m c cX4_findAccount 2 s args (wA_ yX4_findAccount cX4_findAccount 2 (some (.object "PhoneRater$Account"))) RX4 := hC
  have hl : lv_has ls 2 [(0, .ref p0), (1, .int p1)] := hl
  unfold wp_X4_findAccount at hw
  refine lv_iload_n hC.1 hC.2.1 dX4_findAccount_0 rfl (lv_at hl 1 rfl) ?_
  refine lv_if_lt (tgt := 15) hC.1 hC.2.1 dX4_findAccount_1 (by decide) (fun hc => ?_) (fun hc => ?_)
  · have hw := hw.1 hc
    exact m_throwSW (names := ["java/lang/RuntimeException", "java/lang/Exception"]) (text := "no such account") hC hs hH hl0 hl.1 rfl (by decide +kernel) (by decide +kernel) (List.mem_cons_of_mem _ q_181) (List.mem_cons_of_mem _ q_182) (by decide +kernel) (fun w h => List.mem_cons_of_mem _ (atIOB w h)) bdIOB (by decide +kernel) gdIOB hnx hlk dX4_findAccount_15 dX4_findAccount_18 dX4_findAccount_19 dX4_findAccount_22 dX4_findAccount_25 (Nat.le_of_ble_eq_true rfl) (Nat.le_of_ble_eq_true rfl) (Nat.le_of_ble_eq_true rfl) (Nat.le_of_ble_eq_true rfl) (Nat.le_of_ble_eq_true rfl) (Nat.le_of_ble_eq_true rfl) hw
  · have hw := hw.2 hc
    refine lv_iload_n hC.1 hC.2.1 dX4_findAccount_4 rfl (lv_at hl 1 rfl) ?_
    refine lv_aload_n hC.1 hC.2.1 dX4_findAccount_5 rfl (lv_at hl 0 rfl) ?_
    obtain ⟨k1, hw⟩ := hw
    obtain ⟨b2, r3, hw⟩ := hw
    refine m_getR hC hs hH cs4 fs4_1 (fun _ h => List.mem_cons_of_mem _ (inlX4 _ h)) (List.mem_cons_of_mem _ q_17) (fun _ h => h) k1 r3 dX4_findAccount_6 ?_
    obtain ⟨k5, hw⟩ := hw
    refine m_callVi (y := yJx4a65c_size_8abf5) (rest := [.int _]) hC hs hH hl.1 (cwV 0 hC.2.2.2.2 (gA_V q_80 q_81 q_82 q_15 q_83) rfl rfl rfl (by decide +kernel) ⟨Nat.le_of_ble_eq_true rfl, Nat.le_of_ble_eq_true rfl⟩) cs6 k5 (met_Jx4a65c_size_8abf5 l hl0 g _ _ _ _ hw) rfl rfl (Nat.le_of_ble_eq_true rfl) dX4_findAccount_9 ⟨Nat.le_of_ble_eq_true rfl, Nat.le_of_ble_eq_true rfl⟩ (m_out (fun x hx => (hnx x hx).elim) hlk (Nat.le_of_ble_eq_true rfl) (Nat.le_of_ble_eq_true rfl)) (fun r6 S1 H locs hw hH => ?_)
    refine W.widen (k := 0) (n := 0) (Nat.le_of_ble_eq_true rfl) (Nat.le_of_ble_eq_true rfl) ?_
    refine lv_icmp_lt (tgt := 26) hC.1 hC.2.1 dX4_findAccount_12 (by decide) (fun hc => ?_) (fun hc => ?_)
    · have hw := hw.1 hc
      refine lv_aload_n hC.1 hC.2.1 dX4_findAccount_26 rfl (lv_at hl 0 rfl) ?_
      obtain ⟨k7, hw⟩ := hw
      obtain ⟨b8, r9, hw⟩ := hw
      refine m_getR hC hs hH cs4 fs4_1 (fun _ h => List.mem_cons_of_mem _ (inlX4 _ h)) (List.mem_cons_of_mem _ q_17) (fun _ h => h) k7 r9 dX4_findAccount_27 ?_
      refine lv_iload_n hC.1 hC.2.1 dX4_findAccount_30 rfl (lv_at hl 1 rfl) ?_
      obtain ⟨k11, hw⟩ := hw
      refine m_callVq (y := yJx4a65c_get_915e3) (rest := []) hC hs hH hl.1 (cwV 1 hC.2.2.2.2 (gA_V q_184 q_185 q_186 q_15 q_187) rfl rfl rfl (by decide +kernel) ⟨Nat.le_of_ble_eq_true rfl, Nat.le_of_ble_eq_true rfl⟩) cs6 k11 (met_Jx4a65c_get_915e3 l hl0 g _ _ _ _ _ hw) rfl rfl (Nat.le_of_ble_eq_true rfl) dX4_findAccount_31 ⟨Nat.le_of_ble_eq_true rfl, Nat.le_of_ble_eq_true rfl⟩ (m_out (fun x hx => (hnx x hx).elim) hlk (Nat.le_of_ble_eq_true rfl) (Nat.le_of_ble_eq_true rfl)) (fun r12 S1 H locs hw hH => ?_)
      refine W.widen (k := 0) (n := 0) (Nat.le_of_ble_eq_true rfl) (Nat.le_of_ble_eq_true rfl) ?_
      obtain ⟨k13, hw⟩ := hw
      refine m_cast hC hs hH cs0 (List.mem_cons_of_mem _ q_207) k13 dX4_findAccount_34 ?_
      exact m_retq hC hH hrt (Or.inl ⟨_, rfl⟩) hlk (Nat.le_of_ble_eq_true rfl) (Nat.le_of_ble_eq_true rfl) dX4_findAccount_37 hw
    · have hw := hw.2 hc
      exact m_throwSW (names := ["java/lang/RuntimeException", "java/lang/Exception"]) (text := "no such account") hC hs hH hl0 hl.1 rfl (by decide +kernel) (by decide +kernel) (List.mem_cons_of_mem _ q_181) (List.mem_cons_of_mem _ q_182) (by decide +kernel) (fun w h => List.mem_cons_of_mem _ (atIOB w h)) bdIOB (by decide +kernel) gdIOB hnx hlk dX4_findAccount_15 dX4_findAccount_18 dX4_findAccount_19 dX4_findAccount_22 dX4_findAccount_25 (Nat.le_of_ble_eq_true rfl) (Nat.le_of_ble_eq_true rfl) (Nat.le_of_ble_eq_true rfl) (Nat.le_of_ble_eq_true rfl) (Nat.le_of_ble_eq_true rfl) (Nat.le_of_ble_eq_true rfl) hw
abbrev rm_X4_addLine : Room := { frames := 7, cells := 7, slots := 155, locals := 171 }
def wp_X4_addLine (z : Nat × Nat) (S : mmS) (p0 : Nat) (p1 : Int32) (p2 : Int32) (Q : Int32 → mmS → Prop) (X : String → mmS → Prop) : Prop := (p0 ∈ mL S ∧ mK S p0 = 4) ∧ wp_X4_findAccount z S p0 p1 (fun r3 S1 => (p0 ∈ mL S1 ∧ mK S1 p0 = 4) ∧ wp_X4_findTariff z S1 p0 p2 (fun r6 S4 => (p0 ∈ mL S4 ∧ mK S4 p0 = 4) ∧ ∃ b8 : Nat, mR S4 10 p0 = some b8 ∧ (b8 ∈ mL S4 ∧ mK S4 b8 = 6) ∧ wp_Jx4a65c_size_8abf5 z S4 b8 (fun r12 S10 => (r12 < (8 : Int32) → (p0 ∈ mL S10 ∧ mK S10 p0 = 4) ∧ ∃ b14 : Nat, mR S10 10 p0 = some b14 ∧ ∀ q16 : Nat, q16 ∉ mL S10 → ∀ S18 : mmS, S18 = sNo S10 q16 2 → wp_X2_init z S18 q16 r3 r6 (fun S19 => (b14 ∈ mL S19 ∧ mK S19 b14 = 6) ∧ wp_Jx4a65c_add_9ea2d z S19 b14 q16 (fun r22 S20 => Q r12 S20) X) X) ∧ (¬ r12 < (8 : Int32) → X "java/lang/IllegalStateException" S10)) X) X) X
set_option maxHeartbeats 4000000 in
set_option maxRecDepth 100000 in
theorem met_X4_addLine (l : Launch) (hl0 : l.stackTraces = false) (g : mG) (S : mmS) (p0 : Nat) (p1 : Int32) (p2 : Int32) (Q : Int32 → mmS → Prop) (X : String → mmS → Prop) (hw : wp_X4_addLine g.2.2.2.2.2 S p0 p1 p2 Q X) : mMi l g yX4_addLine (wA_ yX4_addLine cX4_addLine 6 (some .int)) rm_X4_addLine [.ref p0, .int p1, .int p2] S Q X := by
  refine m_of (y := yX4_addLine) (cc := cX4_addLine) (maxL := 6) (ret := (some .int)) (by decide) rfl (Nat.le_of_ble_eq_true rfl) ?_
  intro p e s m args below meth c ls hC hrt hlk hmn hnx hs hH hl
  have hC : CallFix p m c cX4_addLine 6 s args (wA_ yX4_addLine cX4_addLine 6 (some .int)) RX4 := hC
  have hl : lv_has ls 6 [(0, .ref p0), (1, .int p1), (2, .int p2)] := hl
  unfold wp_X4_addLine at hw
  refine lv_aload_n hC.1 hC.2.1 dX4_addLine_0 rfl (lv_at hl 0 rfl) ?_
  refine lv_iload_n hC.1 hC.2.1 dX4_addLine_1 rfl (lv_at hl 1 rfl) ?_
  obtain ⟨k2, hw⟩ := hw
  refine m_callVq (y := yX4_findAccount) (rest := []) hC hs hH hl.1 (cwV 1 hC.2.2.2.2 (gA_V q_349 q_350 q_351 q_2 q_352) rfl rfl rfl (by decide +kernel) ⟨Nat.le_of_ble_eq_true rfl, Nat.le_of_ble_eq_true rfl⟩) cs4 k2 (met_X4_findAccount l hl0 g _ _ _ _ _ hw) rfl rfl (Nat.le_of_ble_eq_true rfl) dX4_addLine_2 ⟨Nat.le_of_ble_eq_true rfl, Nat.le_of_ble_eq_true rfl⟩ (m_out (fun x hx => (hnx x hx).elim) hlk (Nat.le_of_ble_eq_true rfl) (Nat.le_of_ble_eq_true rfl)) (fun r3 S1 H locs hw hH => ?_)
  refine W.widen (k := 1) (n := 6) (Nat.le_of_ble_eq_true rfl) (Nat.le_of_ble_eq_true rfl) ?_
  refine lv_astore_n (lv' := [(3, .ref _), (0, .ref _), (1, .int _), (2, .int _)]) hC.1 hC.2.1 dX4_addLine_5 rfl hl (by decide) rfl (fun ls hl => ?_)
  refine lv_aload_n hC.1 hC.2.1 dX4_addLine_6 rfl (lv_at hl 1 rfl) ?_
  refine lv_iload_n hC.1 hC.2.1 dX4_addLine_7 rfl (lv_at hl 3 rfl) ?_
  obtain ⟨k5, hw⟩ := hw
  refine m_callVq (y := yX4_findTariff) (rest := []) hC hs hH hl.1 (cwV 1 hC.2.2.2.2 (gA_V q_177 q_178 q_179 q_2 q_180) rfl rfl rfl (by decide +kernel) ⟨Nat.le_of_ble_eq_true rfl, Nat.le_of_ble_eq_true rfl⟩) cs4 k5 (met_X4_findTariff l hl0 g _ _ _ _ _ hw) rfl rfl (Nat.le_of_ble_eq_true rfl) dX4_addLine_8 ⟨Nat.le_of_ble_eq_true rfl, Nat.le_of_ble_eq_true rfl⟩ (m_out (fun x hx => (hnx x hx).elim) hlk (Nat.le_of_ble_eq_true rfl) (Nat.le_of_ble_eq_true rfl)) (fun r6 S1 H locs hw hH => ?_)
  refine W.widen (k := 2) (n := 12) (Nat.le_of_ble_eq_true rfl) (Nat.le_of_ble_eq_true rfl) ?_
  refine lv_astore (lv' := [(4, .ref _), (3, .ref _), (0, .ref _), (1, .int _), (2, .int _)]) hC.1 hC.2.1 dX4_addLine_11 hl (by decide) rfl (fun ls hl => ?_)
  refine lv_aload_n hC.1 hC.2.1 dX4_addLine_13 rfl (lv_at hl 2 rfl) ?_
  obtain ⟨k7, hw⟩ := hw
  obtain ⟨b8, r9, hw⟩ := hw
  refine m_getR hC hs hH cs4 fs4_2 (fun _ h => List.mem_cons_of_mem _ (inlX4 _ h)) (List.mem_cons_of_mem _ q_18) (fun _ h => h) k7 r9 dX4_addLine_14 ?_
  obtain ⟨k11, hw⟩ := hw
  refine m_callVi (y := yJx4a65c_size_8abf5) (rest := []) hC hs hH hl.1 (cwV 0 hC.2.2.2.2 (gA_V q_80 q_81 q_82 q_15 q_83) rfl rfl rfl (by decide +kernel) ⟨Nat.le_of_ble_eq_true rfl, Nat.le_of_ble_eq_true rfl⟩) cs6 k11 (met_Jx4a65c_size_8abf5 l hl0 g _ _ _ _ hw) rfl rfl (Nat.le_of_ble_eq_true rfl) dX4_addLine_17 ⟨Nat.le_of_ble_eq_true rfl, Nat.le_of_ble_eq_true rfl⟩ (m_out (fun x hx => (hnx x hx).elim) hlk (Nat.le_of_ble_eq_true rfl) (Nat.le_of_ble_eq_true rfl)) (fun r12 S1 H locs hw hH => ?_)
  refine W.widen (k := 2) (n := 12) (Nat.le_of_ble_eq_true rfl) (Nat.le_of_ble_eq_true rfl) ?_
  refine lv_istore (lv' := [(5, .int _), (4, .ref _), (3, .ref _), (0, .ref _), (1, .int _), (2, .int _)]) hC.1 hC.2.1 dX4_addLine_20 hl (by decide) rfl (fun ls hl => ?_)
  refine lv_iload hC.1 hC.2.1 dX4_addLine_22 (lv_at hl 0 rfl) ?_
  refine lv_bipush (v := 8) hC.1 hC.2.1 dX4_addLine_24 (by decide) ?_
  refine lv_icmp_lt (tgt := 39) hC.1 hC.2.1 dX4_addLine_26 (by decide) (fun hc => ?_) (fun hc => ?_)
  · have hw := hw.1 hc
    refine lv_aload_n hC.1 hC.2.1 dX4_addLine_39 rfl (lv_at hl 3 rfl) ?_
    obtain ⟨k13, hw⟩ := hw
    obtain ⟨b14, r15, hw⟩ := hw
    refine m_getR hC hs hH cs4 fs4_2 (fun _ h => List.mem_cons_of_mem _ (inlX4 _ h)) (List.mem_cons_of_mem _ q_18) (fun _ h => h) k13 r15 dX4_addLine_40 ?_
    refine m_newO hC hs hH cs2 (fun _ h => List.mem_cons_of_mem _ (inlX2 _ h)) (List.mem_cons_of_mem _ q_208) (List.mem_cons_of_mem _ q_348) (List.mem_cons_of_mem _ q_223) df2 (Nat.le_of_ble_eq_true rfl) (Nat.le_of_ble_eq_true rfl) dX4_addLine_43 (fun q16 H f17 hH => ?_)
    have hw := hw q16 f17 _ rfl
    refine W.widen (k := 3) (n := 18) (Nat.le_of_ble_eq_true rfl) (Nat.le_of_ble_eq_true rfl) ?_
    refine lv_dup hC.1 hC.2.1 dX4_addLine_46 rfl ?_
    refine lv_aload_n hC.1 hC.2.1 dX4_addLine_47 rfl (lv_at hl 2 rfl) ?_
    refine lv_aload hC.1 hC.2.1 dX4_addLine_48 (lv_at hl 1 rfl) ?_
    refine m_callIv (y := yX2_init) (rest := [.ref _, .ref _]) hC hs hH hl.1 (cwI 2 hC.2.2.2.2 (gA0 q_355) rfl rfl rfl (hC.2.2.2.2 _ (List.mem_cons_of_mem _ q_223)) (hC.2.2.2.2 _ (List.mem_cons_of_mem _ q_353)) (hC.2.2.2.2 _ (List.mem_cons_of_mem _ q_354)) rfl (by decide +kernel) ⟨Nat.le_of_ble_eq_true rfl, Nat.le_of_ble_eq_true rfl⟩) (met_X2_init l hl0 g _ _ _ _ _ _ hw) rfl rfl (Nat.le_of_ble_eq_true rfl) dX4_addLine_50 ⟨Nat.le_of_ble_eq_true rfl, Nat.le_of_ble_eq_true rfl⟩ (m_out (fun x hx => (hnx x hx).elim) hlk (Nat.le_of_ble_eq_true rfl) (Nat.le_of_ble_eq_true rfl)) (fun S1 H locs hw hH => ?_)
    refine W.widen (k := 6) (n := 27) (Nat.le_of_ble_eq_true rfl) (Nat.le_of_ble_eq_true rfl) ?_
    obtain ⟨k21, hw⟩ := hw
    refine m_callVi (y := yJx4a65c_add_9ea2d) (rest := []) hC hs hH hl.1 (cwV 1 hC.2.2.2.2 (gA_V q_97 q_98 q_99 q_15 q_100) rfl rfl rfl (by decide +kernel) ⟨Nat.le_of_ble_eq_true rfl, Nat.le_of_ble_eq_true rfl⟩) cs6 k21 (met_Jx4a65c_add_9ea2d l hl0 g _ _ _ _ _ hw) rfl rfl (Nat.le_of_ble_eq_true rfl) dX4_addLine_53 ⟨Nat.le_of_ble_eq_true rfl, Nat.le_of_ble_eq_true rfl⟩ (m_out (fun x hx => (hnx x hx).elim) hlk (Nat.le_of_ble_eq_true rfl) (Nat.le_of_ble_eq_true rfl)) (fun r22 S1 H locs hw hH => ?_)
    refine W.widen (k := 7) (n := 155) (Nat.le_of_ble_eq_true rfl) (Nat.le_of_ble_eq_true rfl) ?_
    refine lv_pop hC.1 hC.2.1 dX4_addLine_56 rfl ?_
    refine lv_iload hC.1 hC.2.1 dX4_addLine_57 (lv_at hl 0 rfl) ?_
    exact m_reti hC hH hrt rfl hlk (Nat.le_of_ble_eq_true rfl) (Nat.le_of_ble_eq_true rfl) dX4_addLine_59 hw
  · have hw := hw.2 hc
    exact m_throwS (names := ["java/lang/RuntimeException", "java/lang/Exception"]) (text := "there are 8 lines") hC hs hH hl0 hl.1 rfl (by decide +kernel) (by decide +kernel) (List.mem_cons_of_mem _ q_69) (List.mem_cons_of_mem _ q_70) (by decide +kernel) (fun w h => List.mem_cons_of_mem _ (atISE w h)) bdISE (by decide +kernel) gdISE hnx hlk dX4_addLine_29 dX4_addLine_32 dX4_addLine_33 dX4_addLine_35 dX4_addLine_38 (Nat.le_of_ble_eq_true rfl) (Nat.le_of_ble_eq_true rfl) (Nat.le_of_ble_eq_true rfl) (Nat.le_of_ble_eq_true rfl) (Nat.le_of_ble_eq_true rfl) (Nat.le_of_ble_eq_true rfl) hw
abbrev rm_X4_findLine : Room := { frames := 6, cells := 1, slots := 6, locals := 100 }
def wp_X4_findLine (z : Nat × Nat) (S : mmS) (p0 : Nat) (p1 : Int32) (Q : Nat → mmS → Prop) (X : String → mmS → Prop) : Prop := (p1 < 0 → X "java/lang/IndexOutOfBoundsException" S) ∧ (¬ p1 < 0 → (p0 ∈ mL S ∧ mK S p0 = 4) ∧ ∃ b2 : Nat, mR S 10 p0 = some b2 ∧ (b2 ∈ mL S ∧ mK S b2 = 6) ∧ wp_Jx4a65c_size_8abf5 z S b2 (fun r6 S4 => (p1 < r6 → (p0 ∈ mL S4 ∧ mK S4 p0 = 4) ∧ ∃ b8 : Nat, mR S4 10 p0 = some b8 ∧ (b8 ∈ mL S4 ∧ mK S4 b8 = 6) ∧ wp_Jx4a65c_get_915e3 z S4 b8 p1 (fun r12 S10 => (r12 ∈ mL S10 ∧ mK S10 r12 = 2) ∧ Q r12 S10) X) ∧ (¬ p1 < r6 → X "java/lang/IndexOutOfBoundsException" S4)) X)
set_option maxHeartbeats 4000000 in
set_option maxRecDepth 100000 in
theorem met_X4_findLine (l : Launch) (hl0 : l.stackTraces = false) (g : mG) (S : mmS) (p0 : Nat) (p1 : Int32) (Q : Nat → mmS → Prop) (X : String → mmS → Prop) (hw : wp_X4_findLine g.2.2.2.2.2 S p0 p1 Q X) : mMq l g yX4_findLine (wA_ yX4_findLine cX4_findLine 2 (some (.object "PhoneRater$Line"))) rm_X4_findLine [.ref p0, .int p1] S Q X := by
  refine m_of (y := yX4_findLine) (cc := cX4_findLine) (maxL := 2) (ret := (some (.object "PhoneRater$Line"))) (by decide) rfl (Nat.le_of_ble_eq_true rfl) ?_
  intro p e s m args below meth c ls hC hrt hlk hmn hnx hs hH hl
  have hC : CallFix p m c cX4_findLine 2 s args (wA_ yX4_findLine cX4_findLine 2 (some (.object "PhoneRater$Line"))) RX4 := hC
  have hl : lv_has ls 2 [(0, .ref p0), (1, .int p1)] := hl
  unfold wp_X4_findLine at hw
  refine lv_iload_n hC.1 hC.2.1 dX4_findLine_0 rfl (lv_at hl 1 rfl) ?_
  refine lv_if_lt (tgt := 15) hC.1 hC.2.1 dX4_findLine_1 (by decide) (fun hc => ?_) (fun hc => ?_)
  · have hw := hw.1 hc
    exact m_throwSW (names := ["java/lang/RuntimeException", "java/lang/Exception"]) (text := "no such line") hC hs hH hl0 hl.1 rfl (by decide +kernel) (by decide +kernel) (List.mem_cons_of_mem _ q_181) (List.mem_cons_of_mem _ q_182) (by decide +kernel) (fun w h => List.mem_cons_of_mem _ (atIOB w h)) bdIOB (by decide +kernel) gdIOB hnx hlk dX4_findLine_15 dX4_findLine_18 dX4_findLine_19 dX4_findLine_22 dX4_findLine_25 (Nat.le_of_ble_eq_true rfl) (Nat.le_of_ble_eq_true rfl) (Nat.le_of_ble_eq_true rfl) (Nat.le_of_ble_eq_true rfl) (Nat.le_of_ble_eq_true rfl) (Nat.le_of_ble_eq_true rfl) hw
  · have hw := hw.2 hc
    refine lv_iload_n hC.1 hC.2.1 dX4_findLine_4 rfl (lv_at hl 1 rfl) ?_
    refine lv_aload_n hC.1 hC.2.1 dX4_findLine_5 rfl (lv_at hl 0 rfl) ?_
    obtain ⟨k1, hw⟩ := hw
    obtain ⟨b2, r3, hw⟩ := hw
    refine m_getR hC hs hH cs4 fs4_2 (fun _ h => List.mem_cons_of_mem _ (inlX4 _ h)) (List.mem_cons_of_mem _ q_18) (fun _ h => h) k1 r3 dX4_findLine_6 ?_
    obtain ⟨k5, hw⟩ := hw
    refine m_callVi (y := yJx4a65c_size_8abf5) (rest := [.int _]) hC hs hH hl.1 (cwV 0 hC.2.2.2.2 (gA_V q_80 q_81 q_82 q_15 q_83) rfl rfl rfl (by decide +kernel) ⟨Nat.le_of_ble_eq_true rfl, Nat.le_of_ble_eq_true rfl⟩) cs6 k5 (met_Jx4a65c_size_8abf5 l hl0 g _ _ _ _ hw) rfl rfl (Nat.le_of_ble_eq_true rfl) dX4_findLine_9 ⟨Nat.le_of_ble_eq_true rfl, Nat.le_of_ble_eq_true rfl⟩ (m_out (fun x hx => (hnx x hx).elim) hlk (Nat.le_of_ble_eq_true rfl) (Nat.le_of_ble_eq_true rfl)) (fun r6 S1 H locs hw hH => ?_)
    refine W.widen (k := 0) (n := 0) (Nat.le_of_ble_eq_true rfl) (Nat.le_of_ble_eq_true rfl) ?_
    refine lv_icmp_lt (tgt := 26) hC.1 hC.2.1 dX4_findLine_12 (by decide) (fun hc => ?_) (fun hc => ?_)
    · have hw := hw.1 hc
      refine lv_aload_n hC.1 hC.2.1 dX4_findLine_26 rfl (lv_at hl 0 rfl) ?_
      obtain ⟨k7, hw⟩ := hw
      obtain ⟨b8, r9, hw⟩ := hw
      refine m_getR hC hs hH cs4 fs4_2 (fun _ h => List.mem_cons_of_mem _ (inlX4 _ h)) (List.mem_cons_of_mem _ q_18) (fun _ h => h) k7 r9 dX4_findLine_27 ?_
      refine lv_iload_n hC.1 hC.2.1 dX4_findLine_30 rfl (lv_at hl 1 rfl) ?_
      obtain ⟨k11, hw⟩ := hw
      refine m_callVq (y := yJx4a65c_get_915e3) (rest := []) hC hs hH hl.1 (cwV 1 hC.2.2.2.2 (gA_V q_184 q_185 q_186 q_15 q_187) rfl rfl rfl (by decide +kernel) ⟨Nat.le_of_ble_eq_true rfl, Nat.le_of_ble_eq_true rfl⟩) cs6 k11 (met_Jx4a65c_get_915e3 l hl0 g _ _ _ _ _ hw) rfl rfl (Nat.le_of_ble_eq_true rfl) dX4_findLine_31 ⟨Nat.le_of_ble_eq_true rfl, Nat.le_of_ble_eq_true rfl⟩ (m_out (fun x hx => (hnx x hx).elim) hlk (Nat.le_of_ble_eq_true rfl) (Nat.le_of_ble_eq_true rfl)) (fun r12 S1 H locs hw hH => ?_)
      refine W.widen (k := 0) (n := 0) (Nat.le_of_ble_eq_true rfl) (Nat.le_of_ble_eq_true rfl) ?_
      obtain ⟨k13, hw⟩ := hw
      refine m_cast hC hs hH cs2 (List.mem_cons_of_mem _ q_208) k13 dX4_findLine_34 ?_
      exact m_retq hC hH hrt (Or.inl ⟨_, rfl⟩) hlk (Nat.le_of_ble_eq_true rfl) (Nat.le_of_ble_eq_true rfl) dX4_findLine_37 hw
    · have hw := hw.2 hc
      exact m_throwSW (names := ["java/lang/RuntimeException", "java/lang/Exception"]) (text := "no such line") hC hs hH hl0 hl.1 rfl (by decide +kernel) (by decide +kernel) (List.mem_cons_of_mem _ q_181) (List.mem_cons_of_mem _ q_182) (by decide +kernel) (fun w h => List.mem_cons_of_mem _ (atIOB w h)) bdIOB (by decide +kernel) gdIOB hnx hlk dX4_findLine_15 dX4_findLine_18 dX4_findLine_19 dX4_findLine_22 dX4_findLine_25 (Nat.le_of_ble_eq_true rfl) (Nat.le_of_ble_eq_true rfl) (Nat.le_of_ble_eq_true rfl) (Nat.le_of_ble_eq_true rfl) (Nat.le_of_ble_eq_true rfl) (Nat.le_of_ble_eq_true rfl) hw
abbrev rm_X4_giveTariff : Room := { frames := 5, cells := 0, slots := 0, locals := 116 }
def wp_X4_giveTariff (z : Nat × Nat) (S : mmS) (p0 : Nat) (p1 : Nat) (p2 : Nat) (Q : mmS → Prop) (X : String → mmS → Prop) : Prop := (p1 ∈ mL S ∧ mK S p1 = 2) ∧ ∀ S2 : mmS, S2 = sR S 2 p1 (some p2) → (p0 ∈ mL S2 ∧ mK S2 p0 = 4) ∧ wp_X4_rateAll z S2 p0 (fun S3 => Q S3) X
set_option maxHeartbeats 4000000 in
set_option maxRecDepth 100000 in
theorem met_X4_giveTariff (l : Launch) (hl0 : l.stackTraces = false) (g : mG) (S : mmS) (p0 : Nat) (p1 : Nat) (p2 : Nat) (Q : mmS → Prop) (X : String → mmS → Prop) (hw : wp_X4_giveTariff g.2.2.2.2.2 S p0 p1 p2 Q X) : mMv l g yX4_giveTariff (wA_ yX4_giveTariff cX4_giveTariff 3 none) rm_X4_giveTariff [.ref p0, .ref p1, .ref p2] S Q X := by
  refine m_of (y := yX4_giveTariff) (cc := cX4_giveTariff) (maxL := 3) (ret := none) (by decide) rfl (Nat.le_of_ble_eq_true rfl) ?_
  intro p e s m args below meth c ls hC hrt hlk hmn hnx hs hH hl
  have hC : CallFix p m c cX4_giveTariff 3 s args (wA_ yX4_giveTariff cX4_giveTariff 3 none) RX4 := hC
  have hl : lv_has ls 3 [(0, .ref p0), (1, .ref p1), (2, .ref p2)] := hl
  unfold wp_X4_giveTariff at hw
  refine lv_aload_n hC.1 hC.2.1 dX4_giveTariff_0 rfl (lv_at hl 1 rfl) ?_
  refine lv_aload_n hC.1 hC.2.1 dX4_giveTariff_1 rfl (lv_at hl 2 rfl) ?_
  obtain ⟨k1, hw⟩ := hw
  have hw := hw _ rfl
  refine m_putR hC hs hH cs2 fs2_1 (fun _ h => List.mem_cons_of_mem _ (inlX2 _ h)) (List.mem_cons_of_mem _ q_242) (fun _ h => h) (Or.inl rfl) rfl rfl k1 dX4_giveTariff_2 (fun H locs hH => ?_)
  refine lv_aload_n hC.1 hC.2.1 dX4_giveTariff_5 rfl (lv_at hl 0 rfl) ?_
  obtain ⟨k4, hw⟩ := hw
  refine m_callVv (y := yX4_rateAll) (rest := []) hC hs hH hl.1 (cwV 0 hC.2.2.2.2 (gA_V q_203 q_204 q_205 q_2 q_206) rfl rfl rfl (by decide +kernel) ⟨Nat.le_of_ble_eq_true rfl, Nat.le_of_ble_eq_true rfl⟩) cs4 k4 (met_X4_rateAll l hl0 g _ _ _ _ hw) rfl rfl (Nat.le_of_ble_eq_true rfl) dX4_giveTariff_6 ⟨Nat.le_of_ble_eq_true rfl, Nat.le_of_ble_eq_true rfl⟩ (m_out (fun x hx => (hnx x hx).elim) hlk (Nat.le_of_ble_eq_true rfl) (Nat.le_of_ble_eq_true rfl)) (fun S1 H locs hw hH => ?_)
  refine W.widen (k := 0) (n := 0) (Nat.le_of_ble_eq_true rfl) (Nat.le_of_ble_eq_true rfl) ?_
  exact m_retv hC hH hrt hlk (Nat.le_of_ble_eq_true rfl) (Nat.le_of_ble_eq_true rfl) dX4_giveTariff_9 hw
abbrev rm_X4_setTariff : Room := { frames := 7, cells := 2, slots := 12, locals := 138 }
def wp_X4_setTariff (z : Nat × Nat) (S : mmS) (p0 : Nat) (p1 : Int32) (p2 : Int32) (Q : Int32 → mmS → Prop) (X : String → mmS → Prop) : Prop := (p0 ∈ mL S ∧ mK S p0 = 4) ∧ wp_X4_findLine z S p0 p1 (fun r3 S1 => (p0 ∈ mL S1 ∧ mK S1 p0 = 4) ∧ wp_X4_findTariff z S1 p0 p2 (fun r6 S4 => (r3 ∈ mL S4 ∧ mK S4 r3 = 2) ∧ ∃ b8 : Nat, mR S4 2 r3 = some b8 ∧ (b8 ∈ mL S4 ∧ mK S4 b8 = 3) ∧ ∀ v11 : Int32, v11 = (mI S4 15 b8) → (p0 ∈ mL S4 ∧ mK S4 p0 = 4) ∧ wp_X4_giveTariff z S4 p0 r3 r6 (fun S12 => Q v11 S12) X) X) X
set_option maxHeartbeats 4000000 in
set_option maxRecDepth 100000 in
theorem met_X4_setTariff (l : Launch) (hl0 : l.stackTraces = false) (g : mG) (S : mmS) (p0 : Nat) (p1 : Int32) (p2 : Int32) (Q : Int32 → mmS → Prop) (X : String → mmS → Prop) (hw : wp_X4_setTariff g.2.2.2.2.2 S p0 p1 p2 Q X) : mMi l g yX4_setTariff (wA_ yX4_setTariff cX4_setTariff 6 (some .int)) rm_X4_setTariff [.ref p0, .int p1, .int p2] S Q X := by
  refine m_of (y := yX4_setTariff) (cc := cX4_setTariff) (maxL := 6) (ret := (some .int)) (by decide) rfl (Nat.le_of_ble_eq_true rfl) ?_
  intro p e s m args below meth c ls hC hrt hlk hmn hnx hs hH hl
  have hC : CallFix p m c cX4_setTariff 6 s args (wA_ yX4_setTariff cX4_setTariff 6 (some .int)) RX4 := hC
  have hl : lv_has ls 6 [(0, .ref p0), (1, .int p1), (2, .int p2)] := hl
  unfold wp_X4_setTariff at hw
  refine lv_aload_n hC.1 hC.2.1 dX4_setTariff_0 rfl (lv_at hl 0 rfl) ?_
  refine lv_iload_n hC.1 hC.2.1 dX4_setTariff_1 rfl (lv_at hl 1 rfl) ?_
  obtain ⟨k2, hw⟩ := hw
  refine m_callVq (y := yX4_findLine) (rest := []) hC hs hH hl.1 (cwV 1 hC.2.2.2.2 (gA_V q_376 q_377 q_378 q_2 q_379) rfl rfl rfl (by decide +kernel) ⟨Nat.le_of_ble_eq_true rfl, Nat.le_of_ble_eq_true rfl⟩) cs4 k2 (met_X4_findLine l hl0 g _ _ _ _ _ hw) rfl rfl (Nat.le_of_ble_eq_true rfl) dX4_setTariff_2 ⟨Nat.le_of_ble_eq_true rfl, Nat.le_of_ble_eq_true rfl⟩ (m_out (fun x hx => (hnx x hx).elim) hlk (Nat.le_of_ble_eq_true rfl) (Nat.le_of_ble_eq_true rfl)) (fun r3 S1 H locs hw hH => ?_)
  refine W.widen (k := 1) (n := 6) (Nat.le_of_ble_eq_true rfl) (Nat.le_of_ble_eq_true rfl) ?_
  refine lv_astore_n (lv' := [(3, .ref _), (0, .ref _), (1, .int _), (2, .int _)]) hC.1 hC.2.1 dX4_setTariff_5 rfl hl (by decide) rfl (fun ls hl => ?_)
  refine lv_aload_n hC.1 hC.2.1 dX4_setTariff_6 rfl (lv_at hl 1 rfl) ?_
  refine lv_iload_n hC.1 hC.2.1 dX4_setTariff_7 rfl (lv_at hl 3 rfl) ?_
  obtain ⟨k5, hw⟩ := hw
  refine m_callVq (y := yX4_findTariff) (rest := []) hC hs hH hl.1 (cwV 1 hC.2.2.2.2 (gA_V q_177 q_178 q_179 q_2 q_180) rfl rfl rfl (by decide +kernel) ⟨Nat.le_of_ble_eq_true rfl, Nat.le_of_ble_eq_true rfl⟩) cs4 k5 (met_X4_findTariff l hl0 g _ _ _ _ _ hw) rfl rfl (Nat.le_of_ble_eq_true rfl) dX4_setTariff_8 ⟨Nat.le_of_ble_eq_true rfl, Nat.le_of_ble_eq_true rfl⟩ (m_out (fun x hx => (hnx x hx).elim) hlk (Nat.le_of_ble_eq_true rfl) (Nat.le_of_ble_eq_true rfl)) (fun r6 S1 H locs hw hH => ?_)
  refine W.widen (k := 2) (n := 12) (Nat.le_of_ble_eq_true rfl) (Nat.le_of_ble_eq_true rfl) ?_
  refine lv_astore (lv' := [(4, .ref _), (3, .ref _), (0, .ref _), (1, .int _), (2, .int _)]) hC.1 hC.2.1 dX4_setTariff_11 hl (by decide) rfl (fun ls hl => ?_)
  refine lv_aload_n hC.1 hC.2.1 dX4_setTariff_13 rfl (lv_at hl 1 rfl) ?_
  obtain ⟨k7, hw⟩ := hw
  obtain ⟨b8, r9, hw⟩ := hw
  refine m_getR hC hs hH cs2 fs2_1 (fun _ h => List.mem_cons_of_mem _ (inlX2 _ h)) (List.mem_cons_of_mem _ q_242) (fun _ h => h) k7 r9 dX4_setTariff_14 ?_
  obtain ⟨k10, hw⟩ := hw
  refine m_getI hC hs hH cs3 fs3_0 (fun _ h => List.mem_cons_of_mem _ (inlX3 _ h)) (List.mem_cons_of_mem _ q_375) (fun _ h => h) k10 dX4_setTariff_17 ?_
  have hw := hw _ rfl
  refine lv_istore (lv' := [(5, .int _), (4, .ref _), (3, .ref _), (0, .ref _), (1, .int _), (2, .int _)]) hC.1 hC.2.1 dX4_setTariff_20 hl (by decide) rfl (fun ls hl => ?_)
  refine lv_aload_n hC.1 hC.2.1 dX4_setTariff_22 rfl (lv_at hl 3 rfl) ?_
  refine lv_aload_n hC.1 hC.2.1 dX4_setTariff_23 rfl (lv_at hl 2 rfl) ?_
  refine lv_aload hC.1 hC.2.1 dX4_setTariff_24 (lv_at hl 1 rfl) ?_
  obtain ⟨k13, hw⟩ := hw
  refine m_callVv (y := yX4_giveTariff) (rest := []) hC hs hH hl.1 (cwV 2 hC.2.2.2.2 (gA_V q_380 q_381 q_382 q_2 q_383) rfl rfl rfl (by decide +kernel) ⟨Nat.le_of_ble_eq_true rfl, Nat.le_of_ble_eq_true rfl⟩) cs4 k13 (met_X4_giveTariff l hl0 g _ _ _ _ _ _ hw) rfl rfl (Nat.le_of_ble_eq_true rfl) dX4_setTariff_26 ⟨Nat.le_of_ble_eq_true rfl, Nat.le_of_ble_eq_true rfl⟩ (m_out (fun x hx => (hnx x hx).elim) hlk (Nat.le_of_ble_eq_true rfl) (Nat.le_of_ble_eq_true rfl)) (fun S1 H locs hw hH => ?_)
  refine W.widen (k := 2) (n := 12) (Nat.le_of_ble_eq_true rfl) (Nat.le_of_ble_eq_true rfl) ?_
  refine lv_iload hC.1 hC.2.1 dX4_setTariff_29 (lv_at hl 0 rfl) ?_
  exact m_reti hC hH hrt rfl hlk (Nat.le_of_ble_eq_true rfl) (Nat.le_of_ble_eq_true rfl) dX4_setTariff_31 hw
abbrev rm_X4_setBundle : Room := { frames := 7, cells := 2, slots := 12, locals := 121 }
def wp_X4_setBundle (z : Nat × Nat) (S : mmS) (p0 : Nat) (p1 : Int32) (p2 : Int32) (Q : Int32 → mmS → Prop) (X : String → mmS → Prop) : Prop := (p0 ∈ mL S ∧ mK S p0 = 4) ∧ wp_X4_findAccount z S p0 p1 (fun r3 S1 => wp_X4_checkBundle z S1 p2 (fun S4 => (r3 ∈ mL S4 ∧ mK S4 r3 = 0) ∧ ∀ v6 : Int32, v6 = (mI S4 2 r3) → ∀ S7 : mmS, S7 = sI S4 2 r3 p2 → (p0 ∈ mL S7 ∧ mK S7 p0 = 4) ∧ wp_X4_rateAll z S7 p0 (fun S8 => Q v6 S8) X) X) X
set_option maxHeartbeats 4000000 in
set_option maxRecDepth 100000 in
theorem met_X4_setBundle (l : Launch) (hl0 : l.stackTraces = false) (g : mG) (S : mmS) (p0 : Nat) (p1 : Int32) (p2 : Int32) (Q : Int32 → mmS → Prop) (X : String → mmS → Prop) (hw : wp_X4_setBundle g.2.2.2.2.2 S p0 p1 p2 Q X) : mMi l g yX4_setBundle (wA_ yX4_setBundle cX4_setBundle 5 (some .int)) rm_X4_setBundle [.ref p0, .int p1, .int p2] S Q X := by
  refine m_of (y := yX4_setBundle) (cc := cX4_setBundle) (maxL := 5) (ret := (some .int)) (by decide) rfl (Nat.le_of_ble_eq_true rfl) ?_
  intro p e s m args below meth c ls hC hrt hlk hmn hnx hs hH hl
  have hC : CallFix p m c cX4_setBundle 5 s args (wA_ yX4_setBundle cX4_setBundle 5 (some .int)) RX4 := hC
  have hl : lv_has ls 5 [(0, .ref p0), (1, .int p1), (2, .int p2)] := hl
  unfold wp_X4_setBundle at hw
  refine lv_aload_n hC.1 hC.2.1 dX4_setBundle_0 rfl (lv_at hl 0 rfl) ?_
  refine lv_iload_n hC.1 hC.2.1 dX4_setBundle_1 rfl (lv_at hl 1 rfl) ?_
  obtain ⟨k2, hw⟩ := hw
  refine m_callVq (y := yX4_findAccount) (rest := []) hC hs hH hl.1 (cwV 1 hC.2.2.2.2 (gA_V q_349 q_350 q_351 q_2 q_352) rfl rfl rfl (by decide +kernel) ⟨Nat.le_of_ble_eq_true rfl, Nat.le_of_ble_eq_true rfl⟩) cs4 k2 (met_X4_findAccount l hl0 g _ _ _ _ _ hw) rfl rfl (Nat.le_of_ble_eq_true rfl) dX4_setBundle_2 ⟨Nat.le_of_ble_eq_true rfl, Nat.le_of_ble_eq_true rfl⟩ (m_out (fun x hx => (hnx x hx).elim) hlk (Nat.le_of_ble_eq_true rfl) (Nat.le_of_ble_eq_true rfl)) (fun r3 S1 H locs hw hH => ?_)
  refine W.widen (k := 1) (n := 6) (Nat.le_of_ble_eq_true rfl) (Nat.le_of_ble_eq_true rfl) ?_
  refine lv_astore_n (lv' := [(3, .ref _), (0, .ref _), (1, .int _), (2, .int _)]) hC.1 hC.2.1 dX4_setBundle_5 rfl hl (by decide) rfl (fun ls hl => ?_)
  refine lv_iload_n hC.1 hC.2.1 dX4_setBundle_6 rfl (lv_at hl 3 rfl) ?_
  refine m_callSv (y := yX4_checkBundle) (rest := []) hC hs hH hl.1 (va_cwS 1 hC.2.2.2.2 (gA_S q_323 q_324 q_2 q_325) rfl rfl rfl (by decide +kernel) ⟨Nat.le_of_ble_eq_true rfl, Nat.le_of_ble_eq_true rfl⟩) (met_X4_checkBundle l hl0 g _ _ _ _ hw) rfl rfl (Nat.le_of_ble_eq_true rfl) dX4_setBundle_7 ⟨Nat.le_of_ble_eq_true rfl, Nat.le_of_ble_eq_true rfl⟩ (m_out (fun x hx => (hnx x hx).elim) hlk (Nat.le_of_ble_eq_true rfl) (Nat.le_of_ble_eq_true rfl)) (fun S1 H locs hw hH => ?_)
  refine W.widen (k := 2) (n := 12) (Nat.le_of_ble_eq_true rfl) (Nat.le_of_ble_eq_true rfl) ?_
  refine lv_aload_n hC.1 hC.2.1 dX4_setBundle_10 rfl (lv_at hl 0 rfl) ?_
  obtain ⟨k5, hw⟩ := hw
  refine m_getI hC hs hH cs0 fs0_2 (fun _ h => List.mem_cons_of_mem _ (inlX0 _ h)) (List.mem_cons_of_mem _ q_399) (fun _ h => h) k5 dX4_setBundle_11 ?_
  have hw := hw _ rfl
  refine lv_istore (lv' := [(4, .int _), (3, .ref _), (0, .ref _), (1, .int _), (2, .int _)]) hC.1 hC.2.1 dX4_setBundle_14 hl (by decide) rfl (fun ls hl => ?_)
  refine lv_aload_n hC.1 hC.2.1 dX4_setBundle_16 rfl (lv_at hl 1 rfl) ?_
  refine lv_iload_n hC.1 hC.2.1 dX4_setBundle_17 rfl (lv_at hl 4 rfl) ?_
  have hw := hw _ rfl
  refine m_putI hC hs hH cs0 fs0_2 (fun _ h => List.mem_cons_of_mem _ (inlX0 _ h)) (List.mem_cons_of_mem _ q_399) (fun _ h => h) (Or.inl rfl) rfl k5 dX4_setBundle_18 (fun H locs hH => ?_)
  refine lv_aload_n hC.1 hC.2.1 dX4_setBundle_21 rfl (lv_at hl 2 rfl) ?_
  obtain ⟨k9, hw⟩ := hw
  refine m_callVv (y := yX4_rateAll) (rest := []) hC hs hH hl.1 (cwV 0 hC.2.2.2.2 (gA_V q_203 q_204 q_205 q_2 q_206) rfl rfl rfl (by decide +kernel) ⟨Nat.le_of_ble_eq_true rfl, Nat.le_of_ble_eq_true rfl⟩) cs4 k9 (met_X4_rateAll l hl0 g _ _ _ _ hw) rfl rfl (Nat.le_of_ble_eq_true rfl) dX4_setBundle_22 ⟨Nat.le_of_ble_eq_true rfl, Nat.le_of_ble_eq_true rfl⟩ (m_out (fun x hx => (hnx x hx).elim) hlk (Nat.le_of_ble_eq_true rfl) (Nat.le_of_ble_eq_true rfl)) (fun S1 H locs hw hH => ?_)
  refine W.widen (k := 2) (n := 12) (Nat.le_of_ble_eq_true rfl) (Nat.le_of_ble_eq_true rfl) ?_
  refine lv_iload hC.1 hC.2.1 dX4_setBundle_25 (lv_at hl 0 rfl) ?_
  exact m_reti hC hH hrt rfl hlk (Nat.le_of_ble_eq_true rfl) (Nat.le_of_ble_eq_true rfl) dX4_setBundle_27 hw
abbrev rm_X4_putInOrder : Room := { frames := 6, cells := 1, slots := 128, locals := 151 }
def bk_X4_putInOrder_40 (z : Nat × Nat) (Q : mmS → Prop) (X : String → mmS → Prop) (S : mmS) (x0 : Nat) (x1 : Nat) (x2 : Int32) : Prop := (x0 ∈ mL S ∧ mK S x0 = 4) ∧ ∃ b2 : Nat, mR S 12 x0 = some b2 ∧ (b2 ∈ mL S ∧ mK S b2 = 6) ∧ wp_Jx4a65c_add_7a177 z S b2 x2 x1 (fun S4 => Q S4) X
def bk_X4_putInOrder_2 (z : Nat × Nat) (Q : mmS → Prop) (X : String → mmS → Prop) (K2 : mmS → Nat → Nat → Int32 → Prop) (S : mmS) (x0 : Nat) (x1 : Nat) (x2 : Int32) : Prop := (x0 ∈ mL S ∧ mK S x0 = 4) ∧ ∃ b2 : Nat, mR S 12 x0 = some b2 ∧ (b2 ∈ mL S ∧ mK S b2 = 6) ∧ wp_Jx4a65c_size_8abf5 z S b2 (fun r6 S4 => (r6 ≤ x2 → bk_X4_putInOrder_40 z Q X S4 x0 x1 x2) ∧ (¬ r6 ≤ x2 → (x0 ∈ mL S4 ∧ mK S4 x0 = 4) ∧ ∃ b8 : Nat, mR S4 12 x0 = some b8 ∧ (b8 ∈ mL S4 ∧ mK S4 b8 = 6) ∧ wp_Jx4a65c_get_915e3 z S4 b8 x2 (fun r12 S10 => (r12 ∈ mL S10 ∧ mK S10 r12 = 1) ∧ (x1 ∈ mL S10 ∧ mK S10 x1 = 1) ∧ ((mI S10 7 x1) < (mI S10 7 r12) → bk_X4_putInOrder_40 z Q X S10 x0 x1 x2) ∧ (¬ (mI S10 7 x1) < (mI S10 7 r12) → ∀ v15 : Int32, v15 = x2 + 1 → K2 S10 x0 x1 v15)) X)) X
def lp_X4_putInOrder_2 (z : Nat × Nat) (Q : mmS → Prop) (X : String → mmS → Prop) : Nat → mmS → Nat → Nat → Int32 → Prop
  | 0 => fun _ _ _ _ => False
  | n + 1 => bk_X4_putInOrder_2 z Q X (lp_X4_putInOrder_2 z Q X n)
def wp_X4_putInOrder (z : Nat × Nat) (S : mmS) (p0 : Nat) (p1 : Nat) (Q : mmS → Prop) (X : String → mmS → Prop) : Prop := ∀ v1 : Int32, v1 = (0 : Int32) → ∃ n : Nat, lp_X4_putInOrder_2 z Q X n S p0 p1 v1
set_option maxHeartbeats 4000000 in
set_option maxRecDepth 100000 in
theorem bw_X4_putInOrder_40 {p : Program} {l : Launch} {e : Env} {s : State} {m : MethodId} {args : Array Value} {below : List Frame} {meth : Method} {c : Code} {g : mG} {Q : mmS → Prop} {X : String → mmS → Prop} (hl0 : l.stackTraces = false) (hC : CallFix p m c cX4_putInOrder 3 s args (wA_ yX4_putInOrder cX4_putInOrder 3 none) RX4) (hrt : meth.sig.returnType = none) (hlk : meth.locks = false) (hmn : meth.name = yX4_putInOrder.name) (hnx : ∀ x ∈ c.exceptionTable.toList, False) (hs : mX g s) : ∀ (S : mmS) (x0 : Nat) (x1 : Nat) (x2 : Int32), bk_X4_putInOrder_40 g.2.2.2.2.2 Q X S x0 x1 x2 → ∀ (H : Heap) (locs : List Loc), mH g S s H locs → ∀ ls : Array Slot, lv_has ls 3 [(0, .ref x0), (1, .ref x1), (2, .int x2)] → W p l e rm_X4_putInOrder s m args below meth c H locs 0 0 (vx_MQ below (va_Qv Q (wO g) (mB g)) (vx_X (fun _ : mmS => True) (fun E S1 t => X E S1 ∧ wO g S1 t) (mB g)) args s rm_X4_putInOrder.cells rm_X4_putInOrder.slots (mB g)) (F0 m 40 ls []) := by
  intro S x0 x1 x2 hw H locs hH ls hl
  unfold bk_X4_putInOrder_40 at hw
  refine lv_aload_n hC.1 hC.2.1 dX4_putInOrder_40 rfl (lv_at hl 0 rfl) ?_
  obtain ⟨k1, hw⟩ := hw
  obtain ⟨b2, r3, hw⟩ := hw
  refine m_getR hC hs hH cs4 fs4_4 (fun _ h => List.mem_cons_of_mem _ (inlX4 _ h)) (List.mem_cons_of_mem _ q_20) (fun _ h => h) k1 r3 dX4_putInOrder_41 ?_
  refine lv_iload_n hC.1 hC.2.1 dX4_putInOrder_44 rfl (lv_at hl 2 rfl) ?_
  refine lv_aload_n hC.1 hC.2.1 dX4_putInOrder_45 rfl (lv_at hl 1 rfl) ?_
  obtain ⟨k5, hw⟩ := hw
  refine m_callVv (y := yJx4a65c_add_7a177) (rest := []) hC hs hH hl.1 (cwV 2 hC.2.2.2.2 (gA_V q_426 q_427 q_428 q_15 q_429) rfl rfl rfl (by decide +kernel) ⟨Nat.le_of_ble_eq_true rfl, Nat.le_of_ble_eq_true rfl⟩) cs6 k5 (met_Jx4a65c_add_7a177 l hl0 g _ _ _ _ _ _ hw) rfl rfl (Nat.le_of_ble_eq_true rfl) dX4_putInOrder_46 ⟨Nat.le_of_ble_eq_true rfl, Nat.le_of_ble_eq_true rfl⟩ (m_out (fun x hx => (hnx x hx).elim) hlk (Nat.le_of_ble_eq_true rfl) (Nat.le_of_ble_eq_true rfl)) (fun S1 H locs hw hH => ?_)
  refine W.widen (k := 1) (n := 128) (Nat.le_of_ble_eq_true rfl) (Nat.le_of_ble_eq_true rfl) ?_
  exact m_retv hC hH hrt hlk (Nat.le_of_ble_eq_true rfl) (Nat.le_of_ble_eq_true rfl) dX4_putInOrder_49 hw
set_option maxHeartbeats 4000000 in
set_option maxRecDepth 100000 in
theorem bw_X4_putInOrder_2 {p : Program} {l : Launch} {e : Env} {s : State} {m : MethodId} {args : Array Value} {below : List Frame} {meth : Method} {c : Code} {g : mG} {Q : mmS → Prop} {X : String → mmS → Prop} (hl0 : l.stackTraces = false) (hC : CallFix p m c cX4_putInOrder 3 s args (wA_ yX4_putInOrder cX4_putInOrder 3 none) RX4) (hrt : meth.sig.returnType = none) (hlk : meth.locks = false) (hmn : meth.name = yX4_putInOrder.name) (hnx : ∀ x ∈ c.exceptionTable.toList, False) (hs : mX g s) {K2 : mmS → Nat → Nat → Int32 → Prop} (hk2 : ∀ (S : mmS) (x0 : Nat) (x1 : Nat) (x2 : Int32), K2 S x0 x1 x2 → ∀ (H : Heap) (locs : List Loc), mH g S s H locs → ∀ ls : Array Slot, lv_has ls 3 [(0, .ref x0), (1, .ref x1), (2, .int x2)] → W p l e rm_X4_putInOrder s m args below meth c H locs 0 0 (vx_MQ below (va_Qv Q (wO g) (mB g)) (vx_X (fun _ : mmS => True) (fun E S1 t => X E S1 ∧ wO g S1 t) (mB g)) args s rm_X4_putInOrder.cells rm_X4_putInOrder.slots (mB g)) (F0 m 2 ls [])) : ∀ (S : mmS) (x0 : Nat) (x1 : Nat) (x2 : Int32), bk_X4_putInOrder_2 g.2.2.2.2.2 Q X K2 S x0 x1 x2 → ∀ (H : Heap) (locs : List Loc), mH g S s H locs → ∀ ls : Array Slot, lv_has ls 3 [(0, .ref x0), (1, .ref x1), (2, .int x2)] → W p l e rm_X4_putInOrder s m args below meth c H locs 0 0 (vx_MQ below (va_Qv Q (wO g) (mB g)) (vx_X (fun _ : mmS => True) (fun E S1 t => X E S1 ∧ wO g S1 t) (mB g)) args s rm_X4_putInOrder.cells rm_X4_putInOrder.slots (mB g)) (F0 m 2 ls []) := by
  intro S x0 x1 x2 hw H locs hH ls hl
  unfold bk_X4_putInOrder_2 at hw
  refine lv_iload_n hC.1 hC.2.1 dX4_putInOrder_2 rfl (lv_at hl 2 rfl) ?_
  refine lv_aload_n hC.1 hC.2.1 dX4_putInOrder_3 rfl (lv_at hl 0 rfl) ?_
  obtain ⟨k1, hw⟩ := hw
  obtain ⟨b2, r3, hw⟩ := hw
  refine m_getR hC hs hH cs4 fs4_4 (fun _ h => List.mem_cons_of_mem _ (inlX4 _ h)) (List.mem_cons_of_mem _ q_20) (fun _ h => h) k1 r3 dX4_putInOrder_4 ?_
  obtain ⟨k5, hw⟩ := hw
  refine m_callVi (y := yJx4a65c_size_8abf5) (rest := [.int _]) hC hs hH hl.1 (cwV 0 hC.2.2.2.2 (gA_V q_80 q_81 q_82 q_15 q_83) rfl rfl rfl (by decide +kernel) ⟨Nat.le_of_ble_eq_true rfl, Nat.le_of_ble_eq_true rfl⟩) cs6 k5 (met_Jx4a65c_size_8abf5 l hl0 g _ _ _ _ hw) rfl rfl (Nat.le_of_ble_eq_true rfl) dX4_putInOrder_7 ⟨Nat.le_of_ble_eq_true rfl, Nat.le_of_ble_eq_true rfl⟩ (m_out (fun x hx => (hnx x hx).elim) hlk (Nat.le_of_ble_eq_true rfl) (Nat.le_of_ble_eq_true rfl)) (fun r6 S1 H locs hw hH => ?_)
  refine W.widen (k := 0) (n := 0) (Nat.le_of_ble_eq_true rfl) (Nat.le_of_ble_eq_true rfl) ?_
  refine lv_icmp_ge (tgt := 40) hC.1 hC.2.1 dX4_putInOrder_10 (by decide) (fun hc => ?_) (fun hc => ?_)
  · have hw := hw.1 hc
    exact bw_X4_putInOrder_40 hl0 hC hrt hlk hmn hnx hs _ _ _ _ hw _ _ hH _ (lv_sub hl [0, 1, 2] rfl)
  · have hw := hw.2 hc
    refine lv_aload_n hC.1 hC.2.1 dX4_putInOrder_13 rfl (lv_at hl 0 rfl) ?_
    obtain ⟨k7, hw⟩ := hw
    obtain ⟨b8, r9, hw⟩ := hw
    refine m_getR hC hs hH cs4 fs4_4 (fun _ h => List.mem_cons_of_mem _ (inlX4 _ h)) (List.mem_cons_of_mem _ q_20) (fun _ h => h) k7 r9 dX4_putInOrder_14 ?_
    refine lv_iload_n hC.1 hC.2.1 dX4_putInOrder_17 rfl (lv_at hl 2 rfl) ?_
    obtain ⟨k11, hw⟩ := hw
    refine m_callVq (y := yJx4a65c_get_915e3) (rest := []) hC hs hH hl.1 (cwV 1 hC.2.2.2.2 (gA_V q_184 q_185 q_186 q_15 q_187) rfl rfl rfl (by decide +kernel) ⟨Nat.le_of_ble_eq_true rfl, Nat.le_of_ble_eq_true rfl⟩) cs6 k11 (met_Jx4a65c_get_915e3 l hl0 g _ _ _ _ _ hw) rfl rfl (Nat.le_of_ble_eq_true rfl) dX4_putInOrder_18 ⟨Nat.le_of_ble_eq_true rfl, Nat.le_of_ble_eq_true rfl⟩ (m_out (fun x hx => (hnx x hx).elim) hlk (Nat.le_of_ble_eq_true rfl) (Nat.le_of_ble_eq_true rfl)) (fun r12 S1 H locs hw hH => ?_)
    refine W.widen (k := 0) (n := 0) (Nat.le_of_ble_eq_true rfl) (Nat.le_of_ble_eq_true rfl) ?_
    obtain ⟨k13, hw⟩ := hw
    refine m_cast hC hs hH cs1 (List.mem_cons_of_mem _ q_209) k13 dX4_putInOrder_21 ?_
    refine m_getI hC hs hH cs1 fs1_2 (fun _ h => List.mem_cons_of_mem _ (inlX1 _ h)) (List.mem_cons_of_mem _ q_268) (fun _ h => h) k13 dX4_putInOrder_24 ?_
    refine lv_aload_n hC.1 hC.2.1 dX4_putInOrder_27 rfl (lv_at hl 1 rfl) ?_
    obtain ⟨k14, hw⟩ := hw
    refine m_getI hC hs hH cs1 fs1_2 (fun _ h => List.mem_cons_of_mem _ (inlX1 _ h)) (List.mem_cons_of_mem _ q_268) (fun _ h => h) k14 dX4_putInOrder_28 ?_
    refine lv_icmp_gt (tgt := 40) hC.1 hC.2.1 dX4_putInOrder_31 (by decide) (fun hc => ?_) (fun hc => ?_)
    · have hw := hw.1 hc
      exact bw_X4_putInOrder_40 hl0 hC hrt hlk hmn hnx hs _ _ _ _ hw _ _ hH _ (lv_sub hl [0, 1, 2] rfl)
    · have hw := hw.2 hc
      have hw := hw _ rfl
      refine lv_iinc (lv' := [(2, .int _), (0, .ref _), (1, .ref _)]) hC.1 hC.2.1 dX4_putInOrder_34 hl (k := 2) rfl (rfl : (_ : Int32) + Int32.ofInt 1 = (_ : Int32) + 1) (by decide) rfl (fun ls hl => ?_)
      refine lv_goto (tgt := 2) hC.1 hC.2.1 dX4_putInOrder_37 (by decide) ?_
      exact hk2 _ _ _ _ hw _ _ hH _ (lv_sub hl [1, 2, 0] rfl)
theorem lw_X4_putInOrder_2 {p : Program} {l : Launch} {e : Env} {s : State} {m : MethodId} {args : Array Value} {below : List Frame} {meth : Method} {c : Code} {g : mG} {Q : mmS → Prop} {X : String → mmS → Prop} (hl0 : l.stackTraces = false) (hC : CallFix p m c cX4_putInOrder 3 s args (wA_ yX4_putInOrder cX4_putInOrder 3 none) RX4) (hrt : meth.sig.returnType = none) (hlk : meth.locks = false) (hmn : meth.name = yX4_putInOrder.name) (hnx : ∀ x ∈ c.exceptionTable.toList, False) (hs : mX g s) : ∀ (n : Nat) (S : mmS) (x0 : Nat) (x1 : Nat) (x2 : Int32), lp_X4_putInOrder_2 g.2.2.2.2.2 Q X n S x0 x1 x2 → ∀ (H : Heap) (locs : List Loc), mH g S s H locs → ∀ ls : Array Slot, lv_has ls 3 [(0, .ref x0), (1, .ref x1), (2, .int x2)] → W p l e rm_X4_putInOrder s m args below meth c H locs 0 0 (vx_MQ below (va_Qv Q (wO g) (mB g)) (vx_X (fun _ : mmS => True) (fun E S1 t => X E S1 ∧ wO g S1 t) (mB g)) args s rm_X4_putInOrder.cells rm_X4_putInOrder.slots (mB g)) (F0 m 2 ls []) := by
  intro n
  induction n with
  | zero => intro S x0 x1 x2 hw; exact False.elim hw
  | succ n ih => exact fun S x0 x1 x2 hw => bw_X4_putInOrder_2 hl0 hC hrt hlk hmn hnx hs (K2 := lp_X4_putInOrder_2 g.2.2.2.2.2 Q X n) ih S x0 x1 x2 hw
set_option maxHeartbeats 4000000 in
set_option maxRecDepth 100000 in
theorem met_X4_putInOrder (l : Launch) (hl0 : l.stackTraces = false) (g : mG) (S : mmS) (p0 : Nat) (p1 : Nat) (Q : mmS → Prop) (X : String → mmS → Prop) (hw : wp_X4_putInOrder g.2.2.2.2.2 S p0 p1 Q X) : mMv l g yX4_putInOrder (wA_ yX4_putInOrder cX4_putInOrder 3 none) rm_X4_putInOrder [.ref p0, .ref p1] S Q X := by
  refine m_of (y := yX4_putInOrder) (cc := cX4_putInOrder) (maxL := 3) (ret := none) (by decide) rfl (Nat.le_of_ble_eq_true rfl) ?_
  intro p e s m args below meth c ls hC hrt hlk hmn hnx hs hH hl
  have hC : CallFix p m c cX4_putInOrder 3 s args (wA_ yX4_putInOrder cX4_putInOrder 3 none) RX4 := hC
  have hl : lv_has ls 3 [(0, .ref p0), (1, .ref p1)] := hl
  unfold wp_X4_putInOrder at hw
  refine lv_iconst (v := 0) hC.1 hC.2.1 dX4_putInOrder_0 (by decide) ?_
  have hw := hw _ rfl
  refine lv_istore_n (lv' := [(2, .int _), (0, .ref _), (1, .ref _)]) hC.1 hC.2.1 dX4_putInOrder_1 rfl hl (by decide) rfl (fun ls hl => ?_)
  obtain ⟨n, hw⟩ := hw
  exact lw_X4_putInOrder_2 hl0 hC hrt hlk hmn hnx hs n _ _ _ _ hw _ _ hH _ (lv_sub hl [1, 2, 0] rfl)
abbrev rm_X4_addCall : Room := { frames := 7, cells := 4, slots := 271, locals := 173 }
def wp_X4_addCall (z : Nat × Nat) (S : mmS) (p0 : Nat) (p1 : Int32) (p2 : Int32) (p3 : Int32) (p4 : Int32) (Q : Int32 → mmS → Prop) (X : String → mmS → Prop) : Prop := (p0 ∈ mL S ∧ mK S p0 = 4) ∧ wp_X4_findLine z S p0 p1 (fun r3 S1 => wp_X4_isWithin z S1 p2 (0 : Int32) (43199 : Int32) (fun r5 S4 => (¬ r5 = 0 → wp_X4_isWithin z S4 p3 (1 : Int32) (7200 : Int32) (fun r7 S6 => (¬ r7 = 0 → wp_X4_isWithin z S6 p4 (0 : Int32) (2 : Int32) (fun r9 S8 => (¬ r9 = 0 → (p0 ∈ mL S8 ∧ mK S8 p0 = 4) ∧ ∃ b11 : Nat, mR S8 11 p0 = some b11 ∧ (b11 ∈ mL S8 ∧ mK S8 b11 = 6) ∧ wp_Jx4a65c_size_8abf5 z S8 b11 (fun r15 S13 => (r15 < (60 : Int32) → ∀ q16 : Nat, q16 ∉ mL S13 → ∀ S18 : mmS, S18 = sNo S13 q16 1 → wp_X1_init z S18 q16 r15 r3 p2 p3 p4 (fun S19 => (p0 ∈ mL S19 ∧ mK S19 p0 = 4) ∧ ∃ b21 : Nat, mR S19 11 p0 = some b21 ∧ (b21 ∈ mL S19 ∧ mK S19 b21 = 6) ∧ wp_Jx4a65c_add_9ea2d z S19 b21 q16 (fun r25 S23 => (p0 ∈ mL S23 ∧ mK S23 p0 = 4) ∧ wp_X4_putInOrder z S23 p0 q16 (fun S26 => (p0 ∈ mL S26 ∧ mK S26 p0 = 4) ∧ wp_X4_rateAll z S26 p0 (fun S28 => Q r15 S28) X) X) X) X) ∧ (¬ r15 < (60 : Int32) → X "java/lang/IllegalStateException" S13)) X) ∧ (r9 = 0 → X "java/lang/IllegalArgumentException" S8)) X) ∧ (r7 = 0 → X "java/lang/IllegalArgumentException" S6)) X) ∧ (r5 = 0 → X "java/lang/IllegalArgumentException" S4)) X) X
set_option maxHeartbeats 4000000 in
set_option maxRecDepth 100000 in
theorem met_X4_addCall (l : Launch) (hl0 : l.stackTraces = false) (g : mG) (S : mmS) (p0 : Nat) (p1 : Int32) (p2 : Int32) (p3 : Int32) (p4 : Int32) (Q : Int32 → mmS → Prop) (X : String → mmS → Prop) (hw : wp_X4_addCall g.2.2.2.2.2 S p0 p1 p2 p3 p4 Q X) : mMi l g yX4_addCall (wA_ yX4_addCall cX4_addCall 8 (some .int)) rm_X4_addCall [.ref p0, .int p1, .int p2, .int p3, .int p4] S Q X := by
  refine m_of (y := yX4_addCall) (cc := cX4_addCall) (maxL := 8) (ret := (some .int)) (by decide) rfl (Nat.le_of_ble_eq_true rfl) ?_
  intro p e s m args below meth c ls hC hrt hlk hmn hnx hs hH hl
  have hC : CallFix p m c cX4_addCall 8 s args (wA_ yX4_addCall cX4_addCall 8 (some .int)) RX4 := hC
  have hl : lv_has ls 8 [(0, .ref p0), (1, .int p1), (2, .int p2), (3, .int p3), (4, .int p4)] := hl
  unfold wp_X4_addCall at hw
  refine lv_aload_n hC.1 hC.2.1 dX4_addCall_0 rfl (lv_at hl 0 rfl) ?_
  refine lv_iload_n hC.1 hC.2.1 dX4_addCall_1 rfl (lv_at hl 1 rfl) ?_
  obtain ⟨k2, hw⟩ := hw
  refine m_callVq (y := yX4_findLine) (rest := []) hC hs hH hl.1 (cwV 1 hC.2.2.2.2 (gA_V q_376 q_377 q_378 q_2 q_379) rfl rfl rfl (by decide +kernel) ⟨Nat.le_of_ble_eq_true rfl, Nat.le_of_ble_eq_true rfl⟩) cs4 k2 (met_X4_findLine l hl0 g _ _ _ _ _ hw) rfl rfl (Nat.le_of_ble_eq_true rfl) dX4_addCall_2 ⟨Nat.le_of_ble_eq_true rfl, Nat.le_of_ble_eq_true rfl⟩ (m_out (fun x hx => (hnx x hx).elim) hlk (Nat.le_of_ble_eq_true rfl) (Nat.le_of_ble_eq_true rfl)) (fun r3 S1 H locs hw hH => ?_)
  refine W.widen (k := 1) (n := 6) (Nat.le_of_ble_eq_true rfl) (Nat.le_of_ble_eq_true rfl) ?_
  refine lv_astore (lv' := [(5, .ref _), (0, .ref _), (1, .int _), (2, .int _), (3, .int _), (4, .int _)]) hC.1 hC.2.1 dX4_addCall_5 hl (by decide) rfl (fun ls hl => ?_)
  refine lv_iload_n hC.1 hC.2.1 dX4_addCall_7 rfl (lv_at hl 3 rfl) ?_
  refine lv_iconst (v := 0) hC.1 hC.2.1 dX4_addCall_8 (by decide) ?_
  refine lv_ldc hC.1 hC.2.1 hC.2.2.2.1 (hC.2.2.2.2 _ (List.mem_cons_of_mem _ q_411)) dX4_addCall_9 ?_
  refine m_callSi (y := yX4_isWithin) (rest := []) hC hs hH hl.1 (va_cwS 3 hC.2.2.2.2 (gA_S q_77 q_78 q_2 q_79) rfl rfl rfl (by decide +kernel) ⟨Nat.le_of_ble_eq_true rfl, Nat.le_of_ble_eq_true rfl⟩) (met_X4_isWithin l hl0 g _ _ _ _ _ _ hw) rfl rfl (Nat.le_of_ble_eq_true rfl) dX4_addCall_11 ⟨Nat.le_of_ble_eq_true rfl, Nat.le_of_ble_eq_true rfl⟩ (m_out (fun x hx => (hnx x hx).elim) hlk (Nat.le_of_ble_eq_true rfl) (Nat.le_of_ble_eq_true rfl)) (fun r5 S1 H locs hw hH => ?_)
  refine W.widen (k := 1) (n := 6) (Nat.le_of_ble_eq_true rfl) (Nat.le_of_ble_eq_true rfl) ?_
  refine lv_if_ne (tgt := 27) hC.1 hC.2.1 dX4_addCall_14 (by decide) (fun hc => ?_) (fun hc => ?_)
  · have hw := hw.1 hc
    refine lv_iload_n hC.1 hC.2.1 dX4_addCall_27 rfl (lv_at hl 4 rfl) ?_
    refine lv_iconst (v := 1) hC.1 hC.2.1 dX4_addCall_28 (by decide) ?_
    refine lv_sipush (v := 7200) hC.1 hC.2.1 dX4_addCall_29 (by decide) ?_
    refine m_callSi (y := yX4_isWithin) (rest := []) hC hs hH hl.1 (va_cwS 3 hC.2.2.2.2 (gA_S q_77 q_78 q_2 q_79) rfl rfl rfl (by decide +kernel) ⟨Nat.le_of_ble_eq_true rfl, Nat.le_of_ble_eq_true rfl⟩) (met_X4_isWithin l hl0 g _ _ _ _ _ _ hw) rfl rfl (Nat.le_of_ble_eq_true rfl) dX4_addCall_32 ⟨Nat.le_of_ble_eq_true rfl, Nat.le_of_ble_eq_true rfl⟩ (m_out (fun x hx => (hnx x hx).elim) hlk (Nat.le_of_ble_eq_true rfl) (Nat.le_of_ble_eq_true rfl)) (fun r7 S1 H locs hw hH => ?_)
    refine W.widen (k := 1) (n := 6) (Nat.le_of_ble_eq_true rfl) (Nat.le_of_ble_eq_true rfl) ?_
    refine lv_if_ne (tgt := 48) hC.1 hC.2.1 dX4_addCall_35 (by decide) (fun hc => ?_) (fun hc => ?_)
    · have hw := hw.1 hc
      refine lv_iload hC.1 hC.2.1 dX4_addCall_48 (lv_at hl 5 rfl) ?_
      refine lv_iconst (v := 0) hC.1 hC.2.1 dX4_addCall_50 (by decide) ?_
      refine lv_iconst (v := 2) hC.1 hC.2.1 dX4_addCall_51 (by decide) ?_
      refine m_callSi (y := yX4_isWithin) (rest := []) hC hs hH hl.1 (va_cwS 3 hC.2.2.2.2 (gA_S q_77 q_78 q_2 q_79) rfl rfl rfl (by decide +kernel) ⟨Nat.le_of_ble_eq_true rfl, Nat.le_of_ble_eq_true rfl⟩) (met_X4_isWithin l hl0 g _ _ _ _ _ _ hw) rfl rfl (Nat.le_of_ble_eq_true rfl) dX4_addCall_52 ⟨Nat.le_of_ble_eq_true rfl, Nat.le_of_ble_eq_true rfl⟩ (m_out (fun x hx => (hnx x hx).elim) hlk (Nat.le_of_ble_eq_true rfl) (Nat.le_of_ble_eq_true rfl)) (fun r9 S1 H locs hw hH => ?_)
      refine W.widen (k := 1) (n := 6) (Nat.le_of_ble_eq_true rfl) (Nat.le_of_ble_eq_true rfl) ?_
      refine lv_if_ne (tgt := 68) hC.1 hC.2.1 dX4_addCall_55 (by decide) (fun hc => ?_) (fun hc => ?_)
      · have hw := hw.1 hc
        refine lv_aload_n hC.1 hC.2.1 dX4_addCall_68 rfl (lv_at hl 1 rfl) ?_
        obtain ⟨k10, hw⟩ := hw
        obtain ⟨b11, r12, hw⟩ := hw
        refine m_getR hC hs hH cs4 fs4_3 (fun _ h => List.mem_cons_of_mem _ (inlX4 _ h)) (List.mem_cons_of_mem _ q_19) (fun _ h => h) k10 r12 dX4_addCall_69 ?_
        obtain ⟨k14, hw⟩ := hw
        refine m_callVi (y := yJx4a65c_size_8abf5) (rest := []) hC hs hH hl.1 (cwV 0 hC.2.2.2.2 (gA_V q_80 q_81 q_82 q_15 q_83) rfl rfl rfl (by decide +kernel) ⟨Nat.le_of_ble_eq_true rfl, Nat.le_of_ble_eq_true rfl⟩) cs6 k14 (met_Jx4a65c_size_8abf5 l hl0 g _ _ _ _ hw) rfl rfl (Nat.le_of_ble_eq_true rfl) dX4_addCall_72 ⟨Nat.le_of_ble_eq_true rfl, Nat.le_of_ble_eq_true rfl⟩ (m_out (fun x hx => (hnx x hx).elim) hlk (Nat.le_of_ble_eq_true rfl) (Nat.le_of_ble_eq_true rfl)) (fun r15 S1 H locs hw hH => ?_)
        refine W.widen (k := 1) (n := 6) (Nat.le_of_ble_eq_true rfl) (Nat.le_of_ble_eq_true rfl) ?_
        refine lv_istore (lv' := [(6, .int _), (5, .ref _), (0, .ref _), (1, .int _), (2, .int _), (3, .int _), (4, .int _)]) hC.1 hC.2.1 dX4_addCall_75 hl (by decide) rfl (fun ls hl => ?_)
        refine lv_iload hC.1 hC.2.1 dX4_addCall_77 (lv_at hl 0 rfl) ?_
        refine lv_bipush (v := 60) hC.1 hC.2.1 dX4_addCall_79 (by decide) ?_
        refine lv_icmp_lt (tgt := 94) hC.1 hC.2.1 dX4_addCall_81 (by decide) (fun hc => ?_) (fun hc => ?_)
        · have hw := hw.1 hc
          refine m_newO hC hs hH cs1 (fun _ h => List.mem_cons_of_mem _ (inlX1 _ h)) (List.mem_cons_of_mem _ q_209) (List.mem_cons_of_mem _ q_413) (List.mem_cons_of_mem _ q_231) df1 (Nat.le_of_ble_eq_true rfl) (Nat.le_of_ble_eq_true rfl) dX4_addCall_94 (fun q16 H f17 hH => ?_)
          have hw := hw q16 f17 _ rfl
          refine W.widen (k := 2) (n := 15) (Nat.le_of_ble_eq_true rfl) (Nat.le_of_ble_eq_true rfl) ?_
          refine lv_dup hC.1 hC.2.1 dX4_addCall_97 rfl ?_
          refine lv_iload hC.1 hC.2.1 dX4_addCall_98 (lv_at hl 0 rfl) ?_
          refine lv_aload hC.1 hC.2.1 dX4_addCall_100 (lv_at hl 1 rfl) ?_
          refine lv_iload_n hC.1 hC.2.1 dX4_addCall_102 rfl (lv_at hl 4 rfl) ?_
          refine lv_iload_n hC.1 hC.2.1 dX4_addCall_103 rfl (lv_at hl 5 rfl) ?_
          refine lv_iload hC.1 hC.2.1 dX4_addCall_104 (lv_at hl 6 rfl) ?_
          refine m_callIv (y := yX1_init) (rest := [.ref _]) hC hs hH hl.1 (cwI 5 hC.2.2.2.2 (gA0 q_416) rfl rfl rfl (hC.2.2.2.2 _ (List.mem_cons_of_mem _ q_231)) (hC.2.2.2.2 _ (List.mem_cons_of_mem _ q_414)) (hC.2.2.2.2 _ (List.mem_cons_of_mem _ q_415)) rfl (by decide +kernel) ⟨Nat.le_of_ble_eq_true rfl, Nat.le_of_ble_eq_true rfl⟩) (met_X1_init l hl0 g _ _ _ _ _ _ _ _ _ hw) rfl rfl (Nat.le_of_ble_eq_true rfl) dX4_addCall_106 ⟨Nat.le_of_ble_eq_true rfl, Nat.le_of_ble_eq_true rfl⟩ (m_out (fun x hx => (hnx x hx).elim) hlk (Nat.le_of_ble_eq_true rfl) (Nat.le_of_ble_eq_true rfl)) (fun S1 H locs hw hH => ?_)
          refine W.widen (k := 2) (n := 15) (Nat.le_of_ble_eq_true rfl) (Nat.le_of_ble_eq_true rfl) ?_
          refine lv_astore (lv' := [(7, .ref _), (6, .int _), (5, .ref _), (0, .ref _), (1, .int _), (2, .int _), (3, .int _), (4, .int _)]) hC.1 hC.2.1 dX4_addCall_109 hl (by decide) rfl (fun ls hl => ?_)
          refine lv_aload_n hC.1 hC.2.1 dX4_addCall_111 rfl (lv_at hl 3 rfl) ?_
          obtain ⟨k20, hw⟩ := hw
          obtain ⟨b21, r22, hw⟩ := hw
          refine m_getR hC hs hH cs4 fs4_3 (fun _ h => List.mem_cons_of_mem _ (inlX4 _ h)) (List.mem_cons_of_mem _ q_19) (fun _ h => h) k20 r22 dX4_addCall_112 ?_
          refine lv_aload hC.1 hC.2.1 dX4_addCall_115 (lv_at hl 0 rfl) ?_
          obtain ⟨k24, hw⟩ := hw
          refine m_callVi (y := yJx4a65c_add_9ea2d) (rest := []) hC hs hH hl.1 (cwV 1 hC.2.2.2.2 (gA_V q_97 q_98 q_99 q_15 q_100) rfl rfl rfl (by decide +kernel) ⟨Nat.le_of_ble_eq_true rfl, Nat.le_of_ble_eq_true rfl⟩) cs6 k24 (met_Jx4a65c_add_9ea2d l hl0 g _ _ _ _ _ hw) rfl rfl (Nat.le_of_ble_eq_true rfl) dX4_addCall_117 ⟨Nat.le_of_ble_eq_true rfl, Nat.le_of_ble_eq_true rfl⟩ (m_out (fun x hx => (hnx x hx).elim) hlk (Nat.le_of_ble_eq_true rfl) (Nat.le_of_ble_eq_true rfl)) (fun r25 S1 H locs hw hH => ?_)
          refine W.widen (k := 3) (n := 143) (Nat.le_of_ble_eq_true rfl) (Nat.le_of_ble_eq_true rfl) ?_
          refine lv_pop hC.1 hC.2.1 dX4_addCall_120 rfl ?_
          refine lv_aload_n hC.1 hC.2.1 dX4_addCall_121 rfl (lv_at hl 3 rfl) ?_
          refine lv_aload hC.1 hC.2.1 dX4_addCall_122 (lv_at hl 0 rfl) ?_
          obtain ⟨k27, hw⟩ := hw
          refine m_callVv (y := yX4_putInOrder) (rest := []) hC hs hH hl.1 (cwV 1 hC.2.2.2.2 (gA_V q_422 q_423 q_424 q_2 q_425) rfl rfl rfl (by decide +kernel) ⟨Nat.le_of_ble_eq_true rfl, Nat.le_of_ble_eq_true rfl⟩) cs4 k27 (met_X4_putInOrder l hl0 g _ _ _ _ _ hw) rfl rfl (Nat.le_of_ble_eq_true rfl) dX4_addCall_124 ⟨Nat.le_of_ble_eq_true rfl, Nat.le_of_ble_eq_true rfl⟩ (m_out (fun x hx => (hnx x hx).elim) hlk (Nat.le_of_ble_eq_true rfl) (Nat.le_of_ble_eq_true rfl)) (fun S1 H locs hw hH => ?_)
          refine W.widen (k := 4) (n := 271) (Nat.le_of_ble_eq_true rfl) (Nat.le_of_ble_eq_true rfl) ?_
          refine lv_aload_n hC.1 hC.2.1 dX4_addCall_127 rfl (lv_at hl 3 rfl) ?_
          obtain ⟨k29, hw⟩ := hw
          refine m_callVv (y := yX4_rateAll) (rest := []) hC hs hH hl.1 (cwV 0 hC.2.2.2.2 (gA_V q_203 q_204 q_205 q_2 q_206) rfl rfl rfl (by decide +kernel) ⟨Nat.le_of_ble_eq_true rfl, Nat.le_of_ble_eq_true rfl⟩) cs4 k29 (met_X4_rateAll l hl0 g _ _ _ _ hw) rfl rfl (Nat.le_of_ble_eq_true rfl) dX4_addCall_128 ⟨Nat.le_of_ble_eq_true rfl, Nat.le_of_ble_eq_true rfl⟩ (m_out (fun x hx => (hnx x hx).elim) hlk (Nat.le_of_ble_eq_true rfl) (Nat.le_of_ble_eq_true rfl)) (fun S1 H locs hw hH => ?_)
          refine W.widen (k := 4) (n := 271) (Nat.le_of_ble_eq_true rfl) (Nat.le_of_ble_eq_true rfl) ?_
          refine lv_iload hC.1 hC.2.1 dX4_addCall_131 (lv_at hl 1 rfl) ?_
          exact m_reti hC hH hrt rfl hlk (Nat.le_of_ble_eq_true rfl) (Nat.le_of_ble_eq_true rfl) dX4_addCall_133 hw
        · have hw := hw.2 hc
          exact m_throwS (names := ["java/lang/RuntimeException", "java/lang/Exception"]) (text := "there are 60 calls") hC hs hH hl0 hl.1 rfl (by decide +kernel) (by decide +kernel) (List.mem_cons_of_mem _ q_69) (List.mem_cons_of_mem _ q_70) (by decide +kernel) (fun w h => List.mem_cons_of_mem _ (atISE w h)) bdISE (by decide +kernel) gdISE hnx hlk dX4_addCall_84 dX4_addCall_87 dX4_addCall_88 dX4_addCall_90 dX4_addCall_93 (Nat.le_of_ble_eq_true rfl) (Nat.le_of_ble_eq_true rfl) (Nat.le_of_ble_eq_true rfl) (Nat.le_of_ble_eq_true rfl) (Nat.le_of_ble_eq_true rfl) (Nat.le_of_ble_eq_true rfl) hw
      · have hw := hw.2 hc
        exact m_throwS (names := ["java/lang/RuntimeException", "java/lang/Exception"]) (text := "the zone is not 0 to 2") hC hs hH hl0 hl.1 rfl (by decide +kernel) (by decide +kernel) (List.mem_cons_of_mem _ q_67) (List.mem_cons_of_mem _ q_68) (by decide +kernel) (fun w h => List.mem_cons_of_mem _ (atIAE w h)) bdIAE (by decide +kernel) gdIAE hnx hlk dX4_addCall_58 dX4_addCall_61 dX4_addCall_62 dX4_addCall_64 dX4_addCall_67 (Nat.le_of_ble_eq_true rfl) (Nat.le_of_ble_eq_true rfl) (Nat.le_of_ble_eq_true rfl) (Nat.le_of_ble_eq_true rfl) (Nat.le_of_ble_eq_true rfl) (Nat.le_of_ble_eq_true rfl) hw
    · have hw := hw.2 hc
      exact m_throwS (names := ["java/lang/RuntimeException", "java/lang/Exception"]) (text := "the seconds are not 1 to 7200") hC hs hH hl0 hl.1 rfl (by decide +kernel) (by decide +kernel) (List.mem_cons_of_mem _ q_67) (List.mem_cons_of_mem _ q_68) (by decide +kernel) (fun w h => List.mem_cons_of_mem _ (atIAE w h)) bdIAE (by decide +kernel) gdIAE hnx hlk dX4_addCall_38 dX4_addCall_41 dX4_addCall_42 dX4_addCall_44 dX4_addCall_47 (Nat.le_of_ble_eq_true rfl) (Nat.le_of_ble_eq_true rfl) (Nat.le_of_ble_eq_true rfl) (Nat.le_of_ble_eq_true rfl) (Nat.le_of_ble_eq_true rfl) (Nat.le_of_ble_eq_true rfl) hw
  · have hw := hw.2 hc
    exact m_throwS (names := ["java/lang/RuntimeException", "java/lang/Exception"]) (text := "the beginning is not 0 to 43199") hC hs hH hl0 hl.1 rfl (by decide +kernel) (by decide +kernel) (List.mem_cons_of_mem _ q_67) (List.mem_cons_of_mem _ q_68) (by decide +kernel) (fun w h => List.mem_cons_of_mem _ (atIAE w h)) bdIAE (by decide +kernel) gdIAE hnx hlk dX4_addCall_17 dX4_addCall_20 dX4_addCall_21 dX4_addCall_23 dX4_addCall_26 (Nat.le_of_ble_eq_true rfl) (Nat.le_of_ble_eq_true rfl) (Nat.le_of_ble_eq_true rfl) (Nat.le_of_ble_eq_true rfl) (Nat.le_of_ble_eq_true rfl) (Nat.le_of_ble_eq_true rfl) hw
abbrev rm_X4_findCall : Room := { frames := 6, cells := 1, slots := 6, locals := 100 }
def wp_X4_findCall (z : Nat × Nat) (S : mmS) (p0 : Nat) (p1 : Int32) (Q : Nat → mmS → Prop) (X : String → mmS → Prop) : Prop := (p1 < 0 → X "java/lang/IndexOutOfBoundsException" S) ∧ (¬ p1 < 0 → (p0 ∈ mL S ∧ mK S p0 = 4) ∧ ∃ b2 : Nat, mR S 11 p0 = some b2 ∧ (b2 ∈ mL S ∧ mK S b2 = 6) ∧ wp_Jx4a65c_size_8abf5 z S b2 (fun r6 S4 => (p1 < r6 → (p0 ∈ mL S4 ∧ mK S4 p0 = 4) ∧ ∃ b8 : Nat, mR S4 11 p0 = some b8 ∧ (b8 ∈ mL S4 ∧ mK S4 b8 = 6) ∧ wp_Jx4a65c_get_915e3 z S4 b8 p1 (fun r12 S10 => (r12 ∈ mL S10 ∧ mK S10 r12 = 1) ∧ Q r12 S10) X) ∧ (¬ p1 < r6 → X "java/lang/IndexOutOfBoundsException" S4)) X)
set_option maxHeartbeats 4000000 in
set_option maxRecDepth 100000 in
theorem met_X4_findCall (l : Launch) (hl0 : l.stackTraces = false) (g : mG) (S : mmS) (p0 : Nat) (p1 : Int32) (Q : Nat → mmS → Prop) (X : String → mmS → Prop) (hw : wp_X4_findCall g.2.2.2.2.2 S p0 p1 Q X) : mMq l g yX4_findCall (wA_ yX4_findCall cX4_findCall 2 (some (.object "PhoneRater$Call"))) rm_X4_findCall [.ref p0, .int p1] S Q X := by
  refine m_of (y := yX4_findCall) (cc := cX4_findCall) (maxL := 2) (ret := (some (.object "PhoneRater$Call"))) (by decide) rfl (Nat.le_of_ble_eq_true rfl) ?_
  intro p e s m args below meth c ls hC hrt hlk hmn hnx hs hH hl
  have hC : CallFix p m c cX4_findCall 2 s args (wA_ yX4_findCall cX4_findCall 2 (some (.object "PhoneRater$Call"))) RX4 := hC
  have hl : lv_has ls 2 [(0, .ref p0), (1, .int p1)] := hl
  unfold wp_X4_findCall at hw
  refine lv_iload_n hC.1 hC.2.1 dX4_findCall_0 rfl (lv_at hl 1 rfl) ?_
  refine lv_if_lt (tgt := 15) hC.1 hC.2.1 dX4_findCall_1 (by decide) (fun hc => ?_) (fun hc => ?_)
  · have hw := hw.1 hc
    exact m_throwSW (names := ["java/lang/RuntimeException", "java/lang/Exception"]) (text := "no such call") hC hs hH hl0 hl.1 rfl (by decide +kernel) (by decide +kernel) (List.mem_cons_of_mem _ q_181) (List.mem_cons_of_mem _ q_182) (by decide +kernel) (fun w h => List.mem_cons_of_mem _ (atIOB w h)) bdIOB (by decide +kernel) gdIOB hnx hlk dX4_findCall_15 dX4_findCall_18 dX4_findCall_19 dX4_findCall_22 dX4_findCall_25 (Nat.le_of_ble_eq_true rfl) (Nat.le_of_ble_eq_true rfl) (Nat.le_of_ble_eq_true rfl) (Nat.le_of_ble_eq_true rfl) (Nat.le_of_ble_eq_true rfl) (Nat.le_of_ble_eq_true rfl) hw
  · have hw := hw.2 hc
    refine lv_iload_n hC.1 hC.2.1 dX4_findCall_4 rfl (lv_at hl 1 rfl) ?_
    refine lv_aload_n hC.1 hC.2.1 dX4_findCall_5 rfl (lv_at hl 0 rfl) ?_
    obtain ⟨k1, hw⟩ := hw
    obtain ⟨b2, r3, hw⟩ := hw
    refine m_getR hC hs hH cs4 fs4_3 (fun _ h => List.mem_cons_of_mem _ (inlX4 _ h)) (List.mem_cons_of_mem _ q_19) (fun _ h => h) k1 r3 dX4_findCall_6 ?_
    obtain ⟨k5, hw⟩ := hw
    refine m_callVi (y := yJx4a65c_size_8abf5) (rest := [.int _]) hC hs hH hl.1 (cwV 0 hC.2.2.2.2 (gA_V q_80 q_81 q_82 q_15 q_83) rfl rfl rfl (by decide +kernel) ⟨Nat.le_of_ble_eq_true rfl, Nat.le_of_ble_eq_true rfl⟩) cs6 k5 (met_Jx4a65c_size_8abf5 l hl0 g _ _ _ _ hw) rfl rfl (Nat.le_of_ble_eq_true rfl) dX4_findCall_9 ⟨Nat.le_of_ble_eq_true rfl, Nat.le_of_ble_eq_true rfl⟩ (m_out (fun x hx => (hnx x hx).elim) hlk (Nat.le_of_ble_eq_true rfl) (Nat.le_of_ble_eq_true rfl)) (fun r6 S1 H locs hw hH => ?_)
    refine W.widen (k := 0) (n := 0) (Nat.le_of_ble_eq_true rfl) (Nat.le_of_ble_eq_true rfl) ?_
    refine lv_icmp_lt (tgt := 26) hC.1 hC.2.1 dX4_findCall_12 (by decide) (fun hc => ?_) (fun hc => ?_)
    · have hw := hw.1 hc
      refine lv_aload_n hC.1 hC.2.1 dX4_findCall_26 rfl (lv_at hl 0 rfl) ?_
      obtain ⟨k7, hw⟩ := hw
      obtain ⟨b8, r9, hw⟩ := hw
      refine m_getR hC hs hH cs4 fs4_3 (fun _ h => List.mem_cons_of_mem _ (inlX4 _ h)) (List.mem_cons_of_mem _ q_19) (fun _ h => h) k7 r9 dX4_findCall_27 ?_
      refine lv_iload_n hC.1 hC.2.1 dX4_findCall_30 rfl (lv_at hl 1 rfl) ?_
      obtain ⟨k11, hw⟩ := hw
      refine m_callVq (y := yJx4a65c_get_915e3) (rest := []) hC hs hH hl.1 (cwV 1 hC.2.2.2.2 (gA_V q_184 q_185 q_186 q_15 q_187) rfl rfl rfl (by decide +kernel) ⟨Nat.le_of_ble_eq_true rfl, Nat.le_of_ble_eq_true rfl⟩) cs6 k11 (met_Jx4a65c_get_915e3 l hl0 g _ _ _ _ _ hw) rfl rfl (Nat.le_of_ble_eq_true rfl) dX4_findCall_31 ⟨Nat.le_of_ble_eq_true rfl, Nat.le_of_ble_eq_true rfl⟩ (m_out (fun x hx => (hnx x hx).elim) hlk (Nat.le_of_ble_eq_true rfl) (Nat.le_of_ble_eq_true rfl)) (fun r12 S1 H locs hw hH => ?_)
      refine W.widen (k := 0) (n := 0) (Nat.le_of_ble_eq_true rfl) (Nat.le_of_ble_eq_true rfl) ?_
      obtain ⟨k13, hw⟩ := hw
      refine m_cast hC hs hH cs1 (List.mem_cons_of_mem _ q_209) k13 dX4_findCall_34 ?_
      exact m_retq hC hH hrt (Or.inl ⟨_, rfl⟩) hlk (Nat.le_of_ble_eq_true rfl) (Nat.le_of_ble_eq_true rfl) dX4_findCall_37 hw
    · have hw := hw.2 hc
      exact m_throwSW (names := ["java/lang/RuntimeException", "java/lang/Exception"]) (text := "no such call") hC hs hH hl0 hl.1 rfl (by decide +kernel) (by decide +kernel) (List.mem_cons_of_mem _ q_181) (List.mem_cons_of_mem _ q_182) (by decide +kernel) (fun w h => List.mem_cons_of_mem _ (atIOB w h)) bdIOB (by decide +kernel) gdIOB hnx hlk dX4_findCall_15 dX4_findCall_18 dX4_findCall_19 dX4_findCall_22 dX4_findCall_25 (Nat.le_of_ble_eq_true rfl) (Nat.le_of_ble_eq_true rfl) (Nat.le_of_ble_eq_true rfl) (Nat.le_of_ble_eq_true rfl) (Nat.le_of_ble_eq_true rfl) (Nat.le_of_ble_eq_true rfl) hw
abbrev rm_X4_correct : Room := { frames := 7, cells := 2, slots := 12, locals := 121 }
def wp_X4_correct (z : Nat × Nat) (S : mmS) (p0 : Nat) (p1 : Int32) (p2 : Int32) (Q : Int32 → mmS → Prop) (X : String → mmS → Prop) : Prop := (p0 ∈ mL S ∧ mK S p0 = 4) ∧ wp_X4_findCall z S p0 p1 (fun r3 S1 => wp_X4_isWithin z S1 p2 (0 : Int32) (7200 : Int32) (fun r5 S4 => (¬ r5 = 0 → (r3 ∈ mL S4 ∧ mK S4 r3 = 1) ∧ ∀ v7 : Int32, v7 = (mI S4 9 r3) → ∀ S8 : mmS, S8 = sI S4 9 r3 p2 → (p0 ∈ mL S8 ∧ mK S8 p0 = 4) ∧ wp_X4_rateAll z S8 p0 (fun S9 => Q v7 S9) X) ∧ (r5 = 0 → X "java/lang/IllegalArgumentException" S4)) X) X
set_option maxHeartbeats 4000000 in
set_option maxRecDepth 100000 in
theorem met_X4_correct (l : Launch) (hl0 : l.stackTraces = false) (g : mG) (S : mmS) (p0 : Nat) (p1 : Int32) (p2 : Int32) (Q : Int32 → mmS → Prop) (X : String → mmS → Prop) (hw : wp_X4_correct g.2.2.2.2.2 S p0 p1 p2 Q X) : mMi l g yX4_correct (wA_ yX4_correct cX4_correct 5 (some .int)) rm_X4_correct [.ref p0, .int p1, .int p2] S Q X := by
  refine m_of (y := yX4_correct) (cc := cX4_correct) (maxL := 5) (ret := (some .int)) (by decide) rfl (Nat.le_of_ble_eq_true rfl) ?_
  intro p e s m args below meth c ls hC hrt hlk hmn hnx hs hH hl
  have hC : CallFix p m c cX4_correct 5 s args (wA_ yX4_correct cX4_correct 5 (some .int)) RX4 := hC
  have hl : lv_has ls 5 [(0, .ref p0), (1, .int p1), (2, .int p2)] := hl
  unfold wp_X4_correct at hw
  refine lv_aload_n hC.1 hC.2.1 dX4_correct_0 rfl (lv_at hl 0 rfl) ?_
  refine lv_iload_n hC.1 hC.2.1 dX4_correct_1 rfl (lv_at hl 1 rfl) ?_
  obtain ⟨k2, hw⟩ := hw
  refine m_callVq (y := yX4_findCall) (rest := []) hC hs hH hl.1 (cwV 1 hC.2.2.2.2 (gA_V q_448 q_449 q_450 q_2 q_451) rfl rfl rfl (by decide +kernel) ⟨Nat.le_of_ble_eq_true rfl, Nat.le_of_ble_eq_true rfl⟩) cs4 k2 (met_X4_findCall l hl0 g _ _ _ _ _ hw) rfl rfl (Nat.le_of_ble_eq_true rfl) dX4_correct_2 ⟨Nat.le_of_ble_eq_true rfl, Nat.le_of_ble_eq_true rfl⟩ (m_out (fun x hx => (hnx x hx).elim) hlk (Nat.le_of_ble_eq_true rfl) (Nat.le_of_ble_eq_true rfl)) (fun r3 S1 H locs hw hH => ?_)
  refine W.widen (k := 1) (n := 6) (Nat.le_of_ble_eq_true rfl) (Nat.le_of_ble_eq_true rfl) ?_
  refine lv_astore_n (lv' := [(3, .ref _), (0, .ref _), (1, .int _), (2, .int _)]) hC.1 hC.2.1 dX4_correct_5 rfl hl (by decide) rfl (fun ls hl => ?_)
  refine lv_iload_n hC.1 hC.2.1 dX4_correct_6 rfl (lv_at hl 3 rfl) ?_
  refine lv_iconst (v := 0) hC.1 hC.2.1 dX4_correct_7 (by decide) ?_
  refine lv_sipush (v := 7200) hC.1 hC.2.1 dX4_correct_8 (by decide) ?_
  refine m_callSi (y := yX4_isWithin) (rest := []) hC hs hH hl.1 (va_cwS 3 hC.2.2.2.2 (gA_S q_77 q_78 q_2 q_79) rfl rfl rfl (by decide +kernel) ⟨Nat.le_of_ble_eq_true rfl, Nat.le_of_ble_eq_true rfl⟩) (met_X4_isWithin l hl0 g _ _ _ _ _ _ hw) rfl rfl (Nat.le_of_ble_eq_true rfl) dX4_correct_11 ⟨Nat.le_of_ble_eq_true rfl, Nat.le_of_ble_eq_true rfl⟩ (m_out (fun x hx => (hnx x hx).elim) hlk (Nat.le_of_ble_eq_true rfl) (Nat.le_of_ble_eq_true rfl)) (fun r5 S1 H locs hw hH => ?_)
  refine W.widen (k := 1) (n := 6) (Nat.le_of_ble_eq_true rfl) (Nat.le_of_ble_eq_true rfl) ?_
  refine lv_if_ne (tgt := 27) hC.1 hC.2.1 dX4_correct_14 (by decide) (fun hc => ?_) (fun hc => ?_)
  · have hw := hw.1 hc
    refine lv_aload_n hC.1 hC.2.1 dX4_correct_27 rfl (lv_at hl 0 rfl) ?_
    obtain ⟨k6, hw⟩ := hw
    refine m_getI hC hs hH cs1 fs1_4 (fun _ h => List.mem_cons_of_mem _ (inlX1 _ h)) (List.mem_cons_of_mem _ q_210) (fun _ h => h) k6 dX4_correct_28 ?_
    have hw := hw _ rfl
    refine lv_istore (lv' := [(4, .int _), (3, .ref _), (0, .ref _), (1, .int _), (2, .int _)]) hC.1 hC.2.1 dX4_correct_31 hl (by decide) rfl (fun ls hl => ?_)
    refine lv_aload_n hC.1 hC.2.1 dX4_correct_33 rfl (lv_at hl 1 rfl) ?_
    refine lv_iload_n hC.1 hC.2.1 dX4_correct_34 rfl (lv_at hl 4 rfl) ?_
    have hw := hw _ rfl
    refine m_putI hC hs hH cs1 fs1_4 (fun _ h => List.mem_cons_of_mem _ (inlX1 _ h)) (List.mem_cons_of_mem _ q_210) (fun _ h => h) (Or.inl rfl) rfl k6 dX4_correct_35 (fun H locs hH => ?_)
    refine lv_aload_n hC.1 hC.2.1 dX4_correct_38 rfl (lv_at hl 2 rfl) ?_
    obtain ⟨k10, hw⟩ := hw
    refine m_callVv (y := yX4_rateAll) (rest := []) hC hs hH hl.1 (cwV 0 hC.2.2.2.2 (gA_V q_203 q_204 q_205 q_2 q_206) rfl rfl rfl (by decide +kernel) ⟨Nat.le_of_ble_eq_true rfl, Nat.le_of_ble_eq_true rfl⟩) cs4 k10 (met_X4_rateAll l hl0 g _ _ _ _ hw) rfl rfl (Nat.le_of_ble_eq_true rfl) dX4_correct_39 ⟨Nat.le_of_ble_eq_true rfl, Nat.le_of_ble_eq_true rfl⟩ (m_out (fun x hx => (hnx x hx).elim) hlk (Nat.le_of_ble_eq_true rfl) (Nat.le_of_ble_eq_true rfl)) (fun S1 H locs hw hH => ?_)
    refine W.widen (k := 1) (n := 6) (Nat.le_of_ble_eq_true rfl) (Nat.le_of_ble_eq_true rfl) ?_
    refine lv_iload hC.1 hC.2.1 dX4_correct_42 (lv_at hl 0 rfl) ?_
    exact m_reti hC hH hrt rfl hlk (Nat.le_of_ble_eq_true rfl) (Nat.le_of_ble_eq_true rfl) dX4_correct_44 hw
  · have hw := hw.2 hc
    exact m_throwS (names := ["java/lang/RuntimeException", "java/lang/Exception"]) (text := "the seconds are not 0 to 7200") hC hs hH hl0 hl.1 rfl (by decide +kernel) (by decide +kernel) (List.mem_cons_of_mem _ q_67) (List.mem_cons_of_mem _ q_68) (by decide +kernel) (fun w h => List.mem_cons_of_mem _ (atIAE w h)) bdIAE (by decide +kernel) gdIAE hnx hlk dX4_correct_17 dX4_correct_20 dX4_correct_21 dX4_correct_23 dX4_correct_26 (Nat.le_of_ble_eq_true rfl) (Nat.le_of_ble_eq_true rfl) (Nat.le_of_ble_eq_true rfl) (Nat.le_of_ble_eq_true rfl) (Nat.le_of_ble_eq_true rfl) (Nat.le_of_ble_eq_true rfl) hw
abbrev rm_X4_callCount : Room := { frames := 2, cells := 0, slots := 0, locals := 20 }
def wp_X4_callCount (z : Nat × Nat) (S : mmS) (p0 : Nat) (Q : Int32 → mmS → Prop) (X : String → mmS → Prop) : Prop := (p0 ∈ mL S ∧ mK S p0 = 4) ∧ ∃ b2 : Nat, mR S 11 p0 = some b2 ∧ (b2 ∈ mL S ∧ mK S b2 = 6) ∧ wp_Jx4a65c_size_8abf5 z S b2 (fun r6 S4 => Q r6 S4) X
set_option maxHeartbeats 4000000 in
set_option maxRecDepth 100000 in
theorem met_X4_callCount (l : Launch) (hl0 : l.stackTraces = false) (g : mG) (S : mmS) (p0 : Nat) (Q : Int32 → mmS → Prop) (X : String → mmS → Prop) (hw : wp_X4_callCount g.2.2.2.2.2 S p0 Q X) : mMi l g yX4_callCount (wA_ yX4_callCount cX4_callCount 1 (some .int)) rm_X4_callCount [.ref p0] S Q X := by
  refine m_of (y := yX4_callCount) (cc := cX4_callCount) (maxL := 1) (ret := (some .int)) (by decide) rfl (Nat.le_of_ble_eq_true rfl) ?_
  intro p e s m args below meth c ls hC hrt hlk hmn hnx hs hH hl
  have hC : CallFix p m c cX4_callCount 1 s args (wA_ yX4_callCount cX4_callCount 1 (some .int)) RX4 := hC
  have hl : lv_has ls 1 [(0, .ref p0)] := hl
  unfold wp_X4_callCount at hw
  refine lv_aload_n hC.1 hC.2.1 dX4_callCount_0 rfl (lv_at hl 0 rfl) ?_
  obtain ⟨k1, hw⟩ := hw
  obtain ⟨b2, r3, hw⟩ := hw
  refine m_getR hC hs hH cs4 fs4_3 (fun _ h => List.mem_cons_of_mem _ (inlX4 _ h)) (List.mem_cons_of_mem _ q_19) (fun _ h => h) k1 r3 dX4_callCount_1 ?_
  obtain ⟨k5, hw⟩ := hw
  refine m_callVi (y := yJx4a65c_size_8abf5) (rest := []) hC hs hH hl.1 (cwV 0 hC.2.2.2.2 (gA_V q_80 q_81 q_82 q_15 q_83) rfl rfl rfl (by decide +kernel) ⟨Nat.le_of_ble_eq_true rfl, Nat.le_of_ble_eq_true rfl⟩) cs6 k5 (met_Jx4a65c_size_8abf5 l hl0 g _ _ _ _ hw) rfl rfl (Nat.le_of_ble_eq_true rfl) dX4_callCount_4 ⟨Nat.le_of_ble_eq_true rfl, Nat.le_of_ble_eq_true rfl⟩ (m_out (fun x hx => (hnx x hx).elim) hlk (Nat.le_of_ble_eq_true rfl) (Nat.le_of_ble_eq_true rfl)) (fun r6 S1 H locs hw hH => ?_)
  refine W.widen (k := 0) (n := 0) (Nat.le_of_ble_eq_true rfl) (Nat.le_of_ble_eq_true rfl) ?_
  exact m_reti hC hH hrt rfl hlk (Nat.le_of_ble_eq_true rfl) (Nat.le_of_ble_eq_true rfl) dX4_callCount_7 hw
abbrev rm_X4_callAt : Room := { frames := 6, cells := 1, slots := 6, locals := 100 }
def wp_X4_callAt (z : Nat × Nat) (S : mmS) (p0 : Nat) (p1 : Int32) (Q : Int32 → mmS → Prop) (X : String → mmS → Prop) : Prop := (p1 < 0 → X "java/lang/IndexOutOfBoundsException" S) ∧ (¬ p1 < 0 → (p0 ∈ mL S ∧ mK S p0 = 4) ∧ ∃ b2 : Nat, mR S 12 p0 = some b2 ∧ (b2 ∈ mL S ∧ mK S b2 = 6) ∧ wp_Jx4a65c_size_8abf5 z S b2 (fun r6 S4 => (p1 < r6 → (p0 ∈ mL S4 ∧ mK S4 p0 = 4) ∧ ∃ b8 : Nat, mR S4 12 p0 = some b8 ∧ (b8 ∈ mL S4 ∧ mK S4 b8 = 6) ∧ wp_Jx4a65c_get_915e3 z S4 b8 p1 (fun r12 S10 => (r12 ∈ mL S10 ∧ mK S10 r12 = 1) ∧ Q (mI S10 6 r12) S10) X) ∧ (¬ p1 < r6 → X "java/lang/IndexOutOfBoundsException" S4)) X)
set_option maxHeartbeats 4000000 in
set_option maxRecDepth 100000 in
theorem met_X4_callAt (l : Launch) (hl0 : l.stackTraces = false) (g : mG) (S : mmS) (p0 : Nat) (p1 : Int32) (Q : Int32 → mmS → Prop) (X : String → mmS → Prop) (hw : wp_X4_callAt g.2.2.2.2.2 S p0 p1 Q X) : mMi l g yX4_callAt (wA_ yX4_callAt cX4_callAt 2 (some .int)) rm_X4_callAt [.ref p0, .int p1] S Q X := by
  refine m_of (y := yX4_callAt) (cc := cX4_callAt) (maxL := 2) (ret := (some .int)) (by decide) rfl (Nat.le_of_ble_eq_true rfl) ?_
  intro p e s m args below meth c ls hC hrt hlk hmn hnx hs hH hl
  have hC : CallFix p m c cX4_callAt 2 s args (wA_ yX4_callAt cX4_callAt 2 (some .int)) RX4 := hC
  have hl : lv_has ls 2 [(0, .ref p0), (1, .int p1)] := hl
  unfold wp_X4_callAt at hw
  refine lv_iload_n hC.1 hC.2.1 dX4_callAt_0 rfl (lv_at hl 1 rfl) ?_
  refine lv_if_lt (tgt := 15) hC.1 hC.2.1 dX4_callAt_1 (by decide) (fun hc => ?_) (fun hc => ?_)
  · have hw := hw.1 hc
    exact m_throwS (names := ["java/lang/RuntimeException", "java/lang/Exception"]) (text := "no such index") hC hs hH hl0 hl.1 rfl (by decide +kernel) (by decide +kernel) (List.mem_cons_of_mem _ q_181) (List.mem_cons_of_mem _ q_182) (by decide +kernel) (fun w h => List.mem_cons_of_mem _ (atIOB w h)) bdIOB (by decide +kernel) gdIOB hnx hlk dX4_callAt_15 dX4_callAt_18 dX4_callAt_19 dX4_callAt_21 dX4_callAt_24 (Nat.le_of_ble_eq_true rfl) (Nat.le_of_ble_eq_true rfl) (Nat.le_of_ble_eq_true rfl) (Nat.le_of_ble_eq_true rfl) (Nat.le_of_ble_eq_true rfl) (Nat.le_of_ble_eq_true rfl) hw
  · have hw := hw.2 hc
    refine lv_iload_n hC.1 hC.2.1 dX4_callAt_4 rfl (lv_at hl 1 rfl) ?_
    refine lv_aload_n hC.1 hC.2.1 dX4_callAt_5 rfl (lv_at hl 0 rfl) ?_
    obtain ⟨k1, hw⟩ := hw
    obtain ⟨b2, r3, hw⟩ := hw
    refine m_getR hC hs hH cs4 fs4_4 (fun _ h => List.mem_cons_of_mem _ (inlX4 _ h)) (List.mem_cons_of_mem _ q_20) (fun _ h => h) k1 r3 dX4_callAt_6 ?_
    obtain ⟨k5, hw⟩ := hw
    refine m_callVi (y := yJx4a65c_size_8abf5) (rest := [.int _]) hC hs hH hl.1 (cwV 0 hC.2.2.2.2 (gA_V q_80 q_81 q_82 q_15 q_83) rfl rfl rfl (by decide +kernel) ⟨Nat.le_of_ble_eq_true rfl, Nat.le_of_ble_eq_true rfl⟩) cs6 k5 (met_Jx4a65c_size_8abf5 l hl0 g _ _ _ _ hw) rfl rfl (Nat.le_of_ble_eq_true rfl) dX4_callAt_9 ⟨Nat.le_of_ble_eq_true rfl, Nat.le_of_ble_eq_true rfl⟩ (m_out (fun x hx => (hnx x hx).elim) hlk (Nat.le_of_ble_eq_true rfl) (Nat.le_of_ble_eq_true rfl)) (fun r6 S1 H locs hw hH => ?_)
    refine W.widen (k := 0) (n := 0) (Nat.le_of_ble_eq_true rfl) (Nat.le_of_ble_eq_true rfl) ?_
    refine lv_icmp_lt (tgt := 25) hC.1 hC.2.1 dX4_callAt_12 (by decide) (fun hc => ?_) (fun hc => ?_)
    · have hw := hw.1 hc
      refine lv_aload_n hC.1 hC.2.1 dX4_callAt_25 rfl (lv_at hl 0 rfl) ?_
      obtain ⟨k7, hw⟩ := hw
      obtain ⟨b8, r9, hw⟩ := hw
      refine m_getR hC hs hH cs4 fs4_4 (fun _ h => List.mem_cons_of_mem _ (inlX4 _ h)) (List.mem_cons_of_mem _ q_20) (fun _ h => h) k7 r9 dX4_callAt_26 ?_
      refine lv_iload_n hC.1 hC.2.1 dX4_callAt_29 rfl (lv_at hl 1 rfl) ?_
      obtain ⟨k11, hw⟩ := hw
      refine m_callVq (y := yJx4a65c_get_915e3) (rest := []) hC hs hH hl.1 (cwV 1 hC.2.2.2.2 (gA_V q_184 q_185 q_186 q_15 q_187) rfl rfl rfl (by decide +kernel) ⟨Nat.le_of_ble_eq_true rfl, Nat.le_of_ble_eq_true rfl⟩) cs6 k11 (met_Jx4a65c_get_915e3 l hl0 g _ _ _ _ _ hw) rfl rfl (Nat.le_of_ble_eq_true rfl) dX4_callAt_30 ⟨Nat.le_of_ble_eq_true rfl, Nat.le_of_ble_eq_true rfl⟩ (m_out (fun x hx => (hnx x hx).elim) hlk (Nat.le_of_ble_eq_true rfl) (Nat.le_of_ble_eq_true rfl)) (fun r12 S1 H locs hw hH => ?_)
      refine W.widen (k := 0) (n := 0) (Nat.le_of_ble_eq_true rfl) (Nat.le_of_ble_eq_true rfl) ?_
      obtain ⟨k13, hw⟩ := hw
      refine m_cast hC hs hH cs1 (List.mem_cons_of_mem _ q_209) k13 dX4_callAt_33 ?_
      refine m_getI hC hs hH cs1 fs1_0 (fun _ h => List.mem_cons_of_mem _ (inlX1 _ h)) (List.mem_cons_of_mem _ q_475) (fun _ h => h) k13 dX4_callAt_36 ?_
      exact m_reti hC hH hrt rfl hlk (Nat.le_of_ble_eq_true rfl) (Nat.le_of_ble_eq_true rfl) dX4_callAt_39 hw
    · have hw := hw.2 hc
      exact m_throwS (names := ["java/lang/RuntimeException", "java/lang/Exception"]) (text := "no such index") hC hs hH hl0 hl.1 rfl (by decide +kernel) (by decide +kernel) (List.mem_cons_of_mem _ q_181) (List.mem_cons_of_mem _ q_182) (by decide +kernel) (fun w h => List.mem_cons_of_mem _ (atIOB w h)) bdIOB (by decide +kernel) gdIOB hnx hlk dX4_callAt_15 dX4_callAt_18 dX4_callAt_19 dX4_callAt_21 dX4_callAt_24 (Nat.le_of_ble_eq_true rfl) (Nat.le_of_ble_eq_true rfl) (Nat.le_of_ble_eq_true rfl) (Nat.le_of_ble_eq_true rfl) (Nat.le_of_ble_eq_true rfl) (Nat.le_of_ble_eq_true rfl) hw
abbrev rm_X4_isPeak : Room := { frames := 7, cells := 1, slots := 6, locals := 121 }
def wp_X4_isPeak (z : Nat × Nat) (S : mmS) (p0 : Nat) (p1 : Int32) (Q : Int32 → mmS → Prop) (X : String → mmS → Prop) : Prop := (p0 ∈ mL S ∧ mK S p0 = 4) ∧ wp_X4_findCall z S p0 p1 (fun r3 S1 => (p0 ∈ mL S1 ∧ mK S1 p0 = 4) ∧ wp_X4_beginsInPeak z S1 p0 r3 (fun r6 S4 => mBo r6 ∧ Q r6 S4) X) X
set_option maxHeartbeats 4000000 in
set_option maxRecDepth 100000 in
theorem met_X4_isPeak (l : Launch) (hl0 : l.stackTraces = false) (g : mG) (S : mmS) (p0 : Nat) (p1 : Int32) (Q : Int32 → mmS → Prop) (X : String → mmS → Prop) (hw : wp_X4_isPeak g.2.2.2.2.2 S p0 p1 Q X) : mMi l g yX4_isPeak (wA_ yX4_isPeak cX4_isPeak 2 (some .boolean)) rm_X4_isPeak [.ref p0, .int p1] S Q X := by
  refine m_of (y := yX4_isPeak) (cc := cX4_isPeak) (maxL := 2) (ret := (some .boolean)) (by decide) rfl (Nat.le_of_ble_eq_true rfl) ?_
  intro p e s m args below meth c ls hC hrt hlk hmn hnx hs hH hl
  have hC : CallFix p m c cX4_isPeak 2 s args (wA_ yX4_isPeak cX4_isPeak 2 (some .boolean)) RX4 := hC
  have hl : lv_has ls 2 [(0, .ref p0), (1, .int p1)] := hl
  unfold wp_X4_isPeak at hw
  refine lv_aload_n hC.1 hC.2.1 dX4_isPeak_0 rfl (lv_at hl 0 rfl) ?_
  refine lv_aload_n hC.1 hC.2.1 dX4_isPeak_1 rfl (lv_at hl 0 rfl) ?_
  refine lv_iload_n hC.1 hC.2.1 dX4_isPeak_2 rfl (lv_at hl 1 rfl) ?_
  obtain ⟨k2, hw⟩ := hw
  refine m_callVq (y := yX4_findCall) (rest := [.ref _]) hC hs hH hl.1 (cwV 1 hC.2.2.2.2 (gA_V q_448 q_449 q_450 q_2 q_451) rfl rfl rfl (by decide +kernel) ⟨Nat.le_of_ble_eq_true rfl, Nat.le_of_ble_eq_true rfl⟩) cs4 k2 (met_X4_findCall l hl0 g _ _ _ _ _ hw) rfl rfl (Nat.le_of_ble_eq_true rfl) dX4_isPeak_3 ⟨Nat.le_of_ble_eq_true rfl, Nat.le_of_ble_eq_true rfl⟩ (m_out (fun x hx => (hnx x hx).elim) hlk (Nat.le_of_ble_eq_true rfl) (Nat.le_of_ble_eq_true rfl)) (fun r3 S1 H locs hw hH => ?_)
  refine W.widen (k := 1) (n := 6) (Nat.le_of_ble_eq_true rfl) (Nat.le_of_ble_eq_true rfl) ?_
  obtain ⟨k5, hw⟩ := hw
  refine m_callVi (y := yX4_beginsInPeak) (rest := []) hC hs hH hl.1 (cwV 1 hC.2.2.2.2 (gA_V q_264 q_265 q_266 q_2 q_267) rfl rfl rfl (by decide +kernel) ⟨Nat.le_of_ble_eq_true rfl, Nat.le_of_ble_eq_true rfl⟩) cs4 k5 (met_X4_beginsInPeak l hl0 g _ _ _ _ _ hw) rfl rfl (Nat.le_of_ble_eq_true rfl) dX4_isPeak_6 ⟨Nat.le_of_ble_eq_true rfl, Nat.le_of_ble_eq_true rfl⟩ (m_out (fun x hx => (hnx x hx).elim) hlk (Nat.le_of_ble_eq_true rfl) (Nat.le_of_ble_eq_true rfl)) (fun r6 S1 H locs hw hH => ?_)
  refine W.widen (k := 1) (n := 6) (Nat.le_of_ble_eq_true rfl) (Nat.le_of_ble_eq_true rfl) ?_
  obtain ⟨z7, hw⟩ := hw
  exact m_reti hC hH hrt z7 hlk (Nat.le_of_ble_eq_true rfl) (Nat.le_of_ble_eq_true rfl) dX4_isPeak_9 hw
abbrev rm_X4_told : Room := { frames := 7, cells := 2, slots := 12, locals := 121 }
def wp_X4_told (z : Nat × Nat) (S : mmS) (p0 : Nat) (p1 : Int32) (p2 : Int32) (Q : Int32 → mmS → Prop) (X : String → mmS → Prop) : Prop := (p0 ∈ mL S ∧ mK S p0 = 4) ∧ wp_X4_findCall z S p0 p1 (fun r3 S1 => wp_X4_isWithin z S1 p2 (0 : Int32) (4 : Int32) (fun r5 S4 => (¬ r5 = 0 → (r3 ∈ mL S4 ∧ mK S4 r3 = 1) ∧ wp_X1_tell z S4 r3 p2 (fun r8 S6 => Q r8 S6) X) ∧ (r5 = 0 → X "java/lang/IndexOutOfBoundsException" S4)) X) X
set_option maxHeartbeats 4000000 in
set_option maxRecDepth 100000 in
theorem met_X4_told (l : Launch) (hl0 : l.stackTraces = false) (g : mG) (S : mmS) (p0 : Nat) (p1 : Int32) (p2 : Int32) (Q : Int32 → mmS → Prop) (X : String → mmS → Prop) (hw : wp_X4_told g.2.2.2.2.2 S p0 p1 p2 Q X) : mMi l g yX4_told (wA_ yX4_told cX4_told 4 (some .int)) rm_X4_told [.ref p0, .int p1, .int p2] S Q X := by
  refine m_of (y := yX4_told) (cc := cX4_told) (maxL := 4) (ret := (some .int)) (by decide) rfl (Nat.le_of_ble_eq_true rfl) ?_
  intro p e s m args below meth c ls hC hrt hlk hmn hnx hs hH hl
  have hC : CallFix p m c cX4_told 4 s args (wA_ yX4_told cX4_told 4 (some .int)) RX4 := hC
  have hl : lv_has ls 4 [(0, .ref p0), (1, .int p1), (2, .int p2)] := hl
  unfold wp_X4_told at hw
  refine lv_aload_n hC.1 hC.2.1 dX4_told_0 rfl (lv_at hl 0 rfl) ?_
  refine lv_iload_n hC.1 hC.2.1 dX4_told_1 rfl (lv_at hl 1 rfl) ?_
  obtain ⟨k2, hw⟩ := hw
  refine m_callVq (y := yX4_findCall) (rest := []) hC hs hH hl.1 (cwV 1 hC.2.2.2.2 (gA_V q_448 q_449 q_450 q_2 q_451) rfl rfl rfl (by decide +kernel) ⟨Nat.le_of_ble_eq_true rfl, Nat.le_of_ble_eq_true rfl⟩) cs4 k2 (met_X4_findCall l hl0 g _ _ _ _ _ hw) rfl rfl (Nat.le_of_ble_eq_true rfl) dX4_told_2 ⟨Nat.le_of_ble_eq_true rfl, Nat.le_of_ble_eq_true rfl⟩ (m_out (fun x hx => (hnx x hx).elim) hlk (Nat.le_of_ble_eq_true rfl) (Nat.le_of_ble_eq_true rfl)) (fun r3 S1 H locs hw hH => ?_)
  refine W.widen (k := 1) (n := 6) (Nat.le_of_ble_eq_true rfl) (Nat.le_of_ble_eq_true rfl) ?_
  refine lv_astore_n (lv' := [(3, .ref _), (0, .ref _), (1, .int _), (2, .int _)]) hC.1 hC.2.1 dX4_told_5 rfl hl (by decide) rfl (fun ls hl => ?_)
  refine lv_iload_n hC.1 hC.2.1 dX4_told_6 rfl (lv_at hl 3 rfl) ?_
  refine lv_iconst (v := 0) hC.1 hC.2.1 dX4_told_7 (by decide) ?_
  refine lv_iconst (v := 4) hC.1 hC.2.1 dX4_told_8 (by decide) ?_
  refine m_callSi (y := yX4_isWithin) (rest := []) hC hs hH hl.1 (va_cwS 3 hC.2.2.2.2 (gA_S q_77 q_78 q_2 q_79) rfl rfl rfl (by decide +kernel) ⟨Nat.le_of_ble_eq_true rfl, Nat.le_of_ble_eq_true rfl⟩) (met_X4_isWithin l hl0 g _ _ _ _ _ _ hw) rfl rfl (Nat.le_of_ble_eq_true rfl) dX4_told_9 ⟨Nat.le_of_ble_eq_true rfl, Nat.le_of_ble_eq_true rfl⟩ (m_out (fun x hx => (hnx x hx).elim) hlk (Nat.le_of_ble_eq_true rfl) (Nat.le_of_ble_eq_true rfl)) (fun r5 S1 H locs hw hH => ?_)
  refine W.widen (k := 1) (n := 6) (Nat.le_of_ble_eq_true rfl) (Nat.le_of_ble_eq_true rfl) ?_
  refine lv_if_ne (tgt := 25) hC.1 hC.2.1 dX4_told_12 (by decide) (fun hc => ?_) (fun hc => ?_)
  · have hw := hw.1 hc
    refine lv_aload_n hC.1 hC.2.1 dX4_told_25 rfl (lv_at hl 0 rfl) ?_
    refine lv_iload_n hC.1 hC.2.1 dX4_told_26 rfl (lv_at hl 3 rfl) ?_
    obtain ⟨k7, hw⟩ := hw
    refine m_callVi (y := yX1_tell) (rest := []) hC hs hH hl.1 (cwV 1 hC.2.2.2.2 (gA_V q_505 q_506 q_507 q_231 q_508) rfl rfl rfl (by decide +kernel) ⟨Nat.le_of_ble_eq_true rfl, Nat.le_of_ble_eq_true rfl⟩) cs1 k7 (met_X1_tell l hl0 g _ _ _ _ _ hw) rfl rfl (Nat.le_of_ble_eq_true rfl) dX4_told_27 ⟨Nat.le_of_ble_eq_true rfl, Nat.le_of_ble_eq_true rfl⟩ (m_out (fun x hx => (hnx x hx).elim) hlk (Nat.le_of_ble_eq_true rfl) (Nat.le_of_ble_eq_true rfl)) (fun r8 S1 H locs hw hH => ?_)
    refine W.widen (k := 1) (n := 6) (Nat.le_of_ble_eq_true rfl) (Nat.le_of_ble_eq_true rfl) ?_
    exact m_reti hC hH hrt rfl hlk (Nat.le_of_ble_eq_true rfl) (Nat.le_of_ble_eq_true rfl) dX4_told_30 hw
  · have hw := hw.2 hc
    exact m_throwS (names := ["java/lang/RuntimeException", "java/lang/Exception"]) (text := "nothing of this number is told") hC hs hH hl0 hl.1 rfl (by decide +kernel) (by decide +kernel) (List.mem_cons_of_mem _ q_181) (List.mem_cons_of_mem _ q_182) (by decide +kernel) (fun w h => List.mem_cons_of_mem _ (atIOB w h)) bdIOB (by decide +kernel) gdIOB hnx hlk dX4_told_15 dX4_told_18 dX4_told_19 dX4_told_21 dX4_told_24 (Nat.le_of_ble_eq_true rfl) (Nat.le_of_ble_eq_true rfl) (Nat.le_of_ble_eq_true rfl) (Nat.le_of_ble_eq_true rfl) (Nat.le_of_ble_eq_true rfl) (Nat.le_of_ble_eq_true rfl) hw
abbrev rm_X4_dearest : Room := { frames := 4, cells := 0, slots := 0, locals := 64 }
def bk_X4_dearest_51 (z : Nat × Nat) (Q : Int32 → mmS → Prop) (X : String → mmS → Prop) (K6 : mmS → Nat → Int32 → Int32 → Int32 → Prop) (S : mmS) (x0 : Nat) (x1 : Int32) (x2 : Int32) (x3 : Int32) : Prop := ∀ v1 : Int32, v1 = x3 + 1 → K6 S x0 x1 x2 v1
def bk_X4_dearest_6 (z : Nat × Nat) (Q : Int32 → mmS → Prop) (X : String → mmS → Prop) (K6 : mmS → Nat → Int32 → Int32 → Int32 → Prop) (S : mmS) (x0 : Nat) (x1 : Int32) (x2 : Int32) (x3 : Int32) : Prop := (x0 ∈ mL S ∧ mK S x0 = 4) ∧ ∃ b2 : Nat, mR S 12 x0 = some b2 ∧ (b2 ∈ mL S ∧ mK S b2 = 6) ∧ wp_Jx4a65c_size_8abf5 z S b2 (fun r6 S4 => (r6 ≤ x3 → Q x1 S4) ∧ (¬ r6 ≤ x3 → (x0 ∈ mL S4 ∧ mK S4 x0 = 4) ∧ ∃ b8 : Nat, mR S4 12 x0 = some b8 ∧ (b8 ∈ mL S4 ∧ mK S4 b8 = 6) ∧ wp_Jx4a65c_get_915e3 z S4 b8 x3 (fun r12 S10 => (r12 ∈ mL S10 ∧ mK S10 r12 = 1) ∧ ((mI S10 12 r12) ≤ x2 → bk_X4_dearest_51 z Q X K6 S10 x0 x1 x2 x3) ∧ (¬ (mI S10 12 r12) ≤ x2 → ∀ v14 : Int32, v14 = (mI S10 12 r12) → ∀ v15 : Int32, v15 = (mI S10 6 r12) → bk_X4_dearest_51 z Q X K6 S10 x0 v15 v14 x3)) X)) X
def lp_X4_dearest_6 (z : Nat × Nat) (Q : Int32 → mmS → Prop) (X : String → mmS → Prop) : Nat → mmS → Nat → Int32 → Int32 → Int32 → Prop
  | 0 => fun _ _ _ _ _ => False
  | n + 1 => bk_X4_dearest_6 z Q X (lp_X4_dearest_6 z Q X n)
def wp_X4_dearest (z : Nat × Nat) (S : mmS) (p0 : Nat) (Q : Int32 → mmS → Prop) (X : String → mmS → Prop) : Prop := ∀ v1 : Int32, v1 = (-1 : Int32) → ∀ v2 : Int32, v2 = (-1 : Int32) → ∀ v3 : Int32, v3 = (0 : Int32) → ∃ n : Nat, lp_X4_dearest_6 z Q X n S p0 v1 v2 v3
set_option maxHeartbeats 4000000 in
set_option maxRecDepth 100000 in
theorem bw_X4_dearest_51 {p : Program} {l : Launch} {e : Env} {s : State} {m : MethodId} {args : Array Value} {below : List Frame} {meth : Method} {c : Code} {g : mG} {Q : Int32 → mmS → Prop} {X : String → mmS → Prop} (hl0 : l.stackTraces = false) (hC : CallFix p m c cX4_dearest 5 s args (wA_ yX4_dearest cX4_dearest 5 (some .int)) RX4) (hrt : meth.sig.returnType = (some .int)) (hlk : meth.locks = false) (hmn : meth.name = yX4_dearest.name) (hnx : ∀ x ∈ c.exceptionTable.toList, False) (hs : mX g s) {K6 : mmS → Nat → Int32 → Int32 → Int32 → Prop} (hk6 : ∀ (S : mmS) (x0 : Nat) (x1 : Int32) (x2 : Int32) (x3 : Int32), K6 S x0 x1 x2 x3 → ∀ (H : Heap) (locs : List Loc), mH g S s H locs → ∀ ls : Array Slot, lv_has ls 5 [(0, .ref x0), (1, .int x1), (2, .int x2), (3, .int x3)] → W p l e rm_X4_dearest s m args below meth c H locs 0 0 (vx_MQ below (va_Qi Q (wO g) (mB g)) (vx_X (fun _ : mmS => True) (fun E S1 t => X E S1 ∧ wO g S1 t) (mB g)) args s rm_X4_dearest.cells rm_X4_dearest.slots (mB g)) (F0 m 6 ls [])) : ∀ (S : mmS) (x0 : Nat) (x1 : Int32) (x2 : Int32) (x3 : Int32), bk_X4_dearest_51 g.2.2.2.2.2 Q X K6 S x0 x1 x2 x3 → ∀ (H : Heap) (locs : List Loc), mH g S s H locs → ∀ ls : Array Slot, lv_has ls 5 [(0, .ref x0), (1, .int x1), (2, .int x2), (3, .int x3)] → W p l e rm_X4_dearest s m args below meth c H locs 0 0 (vx_MQ below (va_Qi Q (wO g) (mB g)) (vx_X (fun _ : mmS => True) (fun E S1 t => X E S1 ∧ wO g S1 t) (mB g)) args s rm_X4_dearest.cells rm_X4_dearest.slots (mB g)) (F0 m 51 ls []) := by
  intro S x0 x1 x2 x3 hw H locs hH ls hl
  unfold bk_X4_dearest_51 at hw
  have hw := hw _ rfl
  refine lv_iinc (lv' := [(3, .int _), (0, .ref _), (1, .int _), (2, .int _)]) hC.1 hC.2.1 dX4_dearest_51 hl (k := 3) rfl (rfl : (_ : Int32) + Int32.ofInt 1 = (_ : Int32) + 1) (by decide) rfl (fun ls hl => ?_)
  refine lv_goto (tgt := 6) hC.1 hC.2.1 dX4_dearest_54 (by decide) ?_
  exact hk6 _ _ _ _ _ hw _ _ hH _ (lv_sub hl [1, 2, 3, 0] rfl)
set_option maxHeartbeats 4000000 in
set_option maxRecDepth 100000 in
theorem bw_X4_dearest_6 {p : Program} {l : Launch} {e : Env} {s : State} {m : MethodId} {args : Array Value} {below : List Frame} {meth : Method} {c : Code} {g : mG} {Q : Int32 → mmS → Prop} {X : String → mmS → Prop} (hl0 : l.stackTraces = false) (hC : CallFix p m c cX4_dearest 5 s args (wA_ yX4_dearest cX4_dearest 5 (some .int)) RX4) (hrt : meth.sig.returnType = (some .int)) (hlk : meth.locks = false) (hmn : meth.name = yX4_dearest.name) (hnx : ∀ x ∈ c.exceptionTable.toList, False) (hs : mX g s) {K6 : mmS → Nat → Int32 → Int32 → Int32 → Prop} (hk6 : ∀ (S : mmS) (x0 : Nat) (x1 : Int32) (x2 : Int32) (x3 : Int32), K6 S x0 x1 x2 x3 → ∀ (H : Heap) (locs : List Loc), mH g S s H locs → ∀ ls : Array Slot, lv_has ls 5 [(0, .ref x0), (1, .int x1), (2, .int x2), (3, .int x3)] → W p l e rm_X4_dearest s m args below meth c H locs 0 0 (vx_MQ below (va_Qi Q (wO g) (mB g)) (vx_X (fun _ : mmS => True) (fun E S1 t => X E S1 ∧ wO g S1 t) (mB g)) args s rm_X4_dearest.cells rm_X4_dearest.slots (mB g)) (F0 m 6 ls [])) : ∀ (S : mmS) (x0 : Nat) (x1 : Int32) (x2 : Int32) (x3 : Int32), bk_X4_dearest_6 g.2.2.2.2.2 Q X K6 S x0 x1 x2 x3 → ∀ (H : Heap) (locs : List Loc), mH g S s H locs → ∀ ls : Array Slot, lv_has ls 5 [(0, .ref x0), (1, .int x1), (2, .int x2), (3, .int x3)] → W p l e rm_X4_dearest s m args below meth c H locs 0 0 (vx_MQ below (va_Qi Q (wO g) (mB g)) (vx_X (fun _ : mmS => True) (fun E S1 t => X E S1 ∧ wO g S1 t) (mB g)) args s rm_X4_dearest.cells rm_X4_dearest.slots (mB g)) (F0 m 6 ls []) := by
  intro S x0 x1 x2 x3 hw H locs hH ls hl
  unfold bk_X4_dearest_6 at hw
  refine lv_iload_n hC.1 hC.2.1 dX4_dearest_6 rfl (lv_at hl 3 rfl) ?_
  refine lv_aload_n hC.1 hC.2.1 dX4_dearest_7 rfl (lv_at hl 0 rfl) ?_
  obtain ⟨k1, hw⟩ := hw
  obtain ⟨b2, r3, hw⟩ := hw
  refine m_getR hC hs hH cs4 fs4_4 (fun _ h => List.mem_cons_of_mem _ (inlX4 _ h)) (List.mem_cons_of_mem _ q_20) (fun _ h => h) k1 r3 dX4_dearest_8 ?_
  obtain ⟨k5, hw⟩ := hw
  refine m_callVi (y := yJx4a65c_size_8abf5) (rest := [.int _]) hC hs hH hl.1 (cwV 0 hC.2.2.2.2 (gA_V q_80 q_81 q_82 q_15 q_83) rfl rfl rfl (by decide +kernel) ⟨Nat.le_of_ble_eq_true rfl, Nat.le_of_ble_eq_true rfl⟩) cs6 k5 (met_Jx4a65c_size_8abf5 l hl0 g _ _ _ _ hw) rfl rfl (Nat.le_of_ble_eq_true rfl) dX4_dearest_11 ⟨Nat.le_of_ble_eq_true rfl, Nat.le_of_ble_eq_true rfl⟩ (m_out (fun x hx => (hnx x hx).elim) hlk (Nat.le_of_ble_eq_true rfl) (Nat.le_of_ble_eq_true rfl)) (fun r6 S1 H locs hw hH => ?_)
  refine W.widen (k := 0) (n := 0) (Nat.le_of_ble_eq_true rfl) (Nat.le_of_ble_eq_true rfl) ?_
  refine lv_icmp_ge (tgt := 57) hC.1 hC.2.1 dX4_dearest_14 (by decide) (fun hc => ?_) (fun hc => ?_)
  · have hw := hw.1 hc
    refine lv_iload_n hC.1 hC.2.1 dX4_dearest_57 rfl (lv_at hl 1 rfl) ?_
    exact m_reti hC hH hrt rfl hlk (Nat.le_of_ble_eq_true rfl) (Nat.le_of_ble_eq_true rfl) dX4_dearest_58 hw
  · have hw := hw.2 hc
    refine lv_aload_n hC.1 hC.2.1 dX4_dearest_17 rfl (lv_at hl 0 rfl) ?_
    obtain ⟨k7, hw⟩ := hw
    obtain ⟨b8, r9, hw⟩ := hw
    refine m_getR hC hs hH cs4 fs4_4 (fun _ h => List.mem_cons_of_mem _ (inlX4 _ h)) (List.mem_cons_of_mem _ q_20) (fun _ h => h) k7 r9 dX4_dearest_18 ?_
    refine lv_iload_n hC.1 hC.2.1 dX4_dearest_21 rfl (lv_at hl 3 rfl) ?_
    obtain ⟨k11, hw⟩ := hw
    refine m_callVq (y := yJx4a65c_get_915e3) (rest := []) hC hs hH hl.1 (cwV 1 hC.2.2.2.2 (gA_V q_184 q_185 q_186 q_15 q_187) rfl rfl rfl (by decide +kernel) ⟨Nat.le_of_ble_eq_true rfl, Nat.le_of_ble_eq_true rfl⟩) cs6 k11 (met_Jx4a65c_get_915e3 l hl0 g _ _ _ _ _ hw) rfl rfl (Nat.le_of_ble_eq_true rfl) dX4_dearest_22 ⟨Nat.le_of_ble_eq_true rfl, Nat.le_of_ble_eq_true rfl⟩ (m_out (fun x hx => (hnx x hx).elim) hlk (Nat.le_of_ble_eq_true rfl) (Nat.le_of_ble_eq_true rfl)) (fun r12 S1 H locs hw hH => ?_)
    refine W.widen (k := 0) (n := 0) (Nat.le_of_ble_eq_true rfl) (Nat.le_of_ble_eq_true rfl) ?_
    obtain ⟨k13, hw⟩ := hw
    refine m_cast hC hs hH cs1 (List.mem_cons_of_mem _ q_209) k13 dX4_dearest_25 ?_
    refine lv_astore (lv' := [(4, .ref _), (0, .ref _), (1, .int _), (2, .int _), (3, .int _)]) hC.1 hC.2.1 dX4_dearest_28 hl (by decide) rfl (fun ls hl => ?_)
    refine lv_aload hC.1 hC.2.1 dX4_dearest_30 (lv_at hl 0 rfl) ?_
    refine m_getI hC hs hH cs1 fs1_7 (fun _ h => List.mem_cons_of_mem _ (inlX1 _ h)) (List.mem_cons_of_mem _ q_250) (fun _ h => h) k13 dX4_dearest_32 ?_
    refine lv_iload_n hC.1 hC.2.1 dX4_dearest_35 rfl (lv_at hl 3 rfl) ?_
    refine lv_icmp_le (tgt := 51) hC.1 hC.2.1 dX4_dearest_36 (by decide) (fun hc => ?_) (fun hc => ?_)
    · have hw := hw.1 hc
      exact bw_X4_dearest_51 hl0 hC hrt hlk hmn hnx hs hk6 _ _ _ _ _ hw _ _ hH _ (lv_sub hl [1, 2, 3, 4] rfl)
    · have hw := hw.2 hc
      refine lv_aload hC.1 hC.2.1 dX4_dearest_39 (lv_at hl 0 rfl) ?_
      refine m_getI hC hs hH cs1 fs1_7 (fun _ h => List.mem_cons_of_mem _ (inlX1 _ h)) (List.mem_cons_of_mem _ q_250) (fun _ h => h) k13 dX4_dearest_41 ?_
      have hw := hw _ rfl
      refine lv_istore_n (lv' := [(2, .int _), (4, .ref _), (0, .ref _), (1, .int _), (3, .int _)]) hC.1 hC.2.1 dX4_dearest_44 rfl hl (by decide) rfl (fun ls hl => ?_)
      refine lv_aload hC.1 hC.2.1 dX4_dearest_45 (lv_at hl 1 rfl) ?_
      refine m_getI hC hs hH cs1 fs1_0 (fun _ h => List.mem_cons_of_mem _ (inlX1 _ h)) (List.mem_cons_of_mem _ q_475) (fun _ h => h) k13 dX4_dearest_47 ?_
      have hw := hw _ rfl
      refine lv_istore_n (lv' := [(1, .int _), (2, .int _), (4, .ref _), (0, .ref _), (3, .int _)]) hC.1 hC.2.1 dX4_dearest_50 rfl hl (by decide) rfl (fun ls hl => ?_)
      exact bw_X4_dearest_51 hl0 hC hrt hlk hmn hnx hs hk6 _ _ _ _ _ hw _ _ hH _ (lv_sub hl [3, 0, 1, 4] rfl)
theorem lw_X4_dearest_6 {p : Program} {l : Launch} {e : Env} {s : State} {m : MethodId} {args : Array Value} {below : List Frame} {meth : Method} {c : Code} {g : mG} {Q : Int32 → mmS → Prop} {X : String → mmS → Prop} (hl0 : l.stackTraces = false) (hC : CallFix p m c cX4_dearest 5 s args (wA_ yX4_dearest cX4_dearest 5 (some .int)) RX4) (hrt : meth.sig.returnType = (some .int)) (hlk : meth.locks = false) (hmn : meth.name = yX4_dearest.name) (hnx : ∀ x ∈ c.exceptionTable.toList, False) (hs : mX g s) : ∀ (n : Nat) (S : mmS) (x0 : Nat) (x1 : Int32) (x2 : Int32) (x3 : Int32), lp_X4_dearest_6 g.2.2.2.2.2 Q X n S x0 x1 x2 x3 → ∀ (H : Heap) (locs : List Loc), mH g S s H locs → ∀ ls : Array Slot, lv_has ls 5 [(0, .ref x0), (1, .int x1), (2, .int x2), (3, .int x3)] → W p l e rm_X4_dearest s m args below meth c H locs 0 0 (vx_MQ below (va_Qi Q (wO g) (mB g)) (vx_X (fun _ : mmS => True) (fun E S1 t => X E S1 ∧ wO g S1 t) (mB g)) args s rm_X4_dearest.cells rm_X4_dearest.slots (mB g)) (F0 m 6 ls []) := by
  intro n
  induction n with
  | zero => intro S x0 x1 x2 x3 hw; exact False.elim hw
  | succ n ih => exact fun S x0 x1 x2 x3 hw => bw_X4_dearest_6 hl0 hC hrt hlk hmn hnx hs (K6 := lp_X4_dearest_6 g.2.2.2.2.2 Q X n) ih S x0 x1 x2 x3 hw
set_option maxHeartbeats 4000000 in
set_option maxRecDepth 100000 in
theorem met_X4_dearest (l : Launch) (hl0 : l.stackTraces = false) (g : mG) (S : mmS) (p0 : Nat) (Q : Int32 → mmS → Prop) (X : String → mmS → Prop) (hw : wp_X4_dearest g.2.2.2.2.2 S p0 Q X) : mMi l g yX4_dearest (wA_ yX4_dearest cX4_dearest 5 (some .int)) rm_X4_dearest [.ref p0] S Q X := by
  refine m_of (y := yX4_dearest) (cc := cX4_dearest) (maxL := 5) (ret := (some .int)) (by decide) rfl (Nat.le_of_ble_eq_true rfl) ?_
  intro p e s m args below meth c ls hC hrt hlk hmn hnx hs hH hl
  have hC : CallFix p m c cX4_dearest 5 s args (wA_ yX4_dearest cX4_dearest 5 (some .int)) RX4 := hC
  have hl : lv_has ls 5 [(0, .ref p0)] := hl
  unfold wp_X4_dearest at hw
  refine lv_iconst (v := (-1)) hC.1 hC.2.1 dX4_dearest_0 (by decide) ?_
  have hw := hw _ rfl
  refine lv_istore_n (lv' := [(1, .int _), (0, .ref _)]) hC.1 hC.2.1 dX4_dearest_1 rfl hl (by decide) rfl (fun ls hl => ?_)
  refine lv_iconst (v := (-1)) hC.1 hC.2.1 dX4_dearest_2 (by decide) ?_
  have hw := hw _ rfl
  refine lv_istore_n (lv' := [(2, .int _), (1, .int _), (0, .ref _)]) hC.1 hC.2.1 dX4_dearest_3 rfl hl (by decide) rfl (fun ls hl => ?_)
  refine lv_iconst (v := 0) hC.1 hC.2.1 dX4_dearest_4 (by decide) ?_
  have hw := hw _ rfl
  refine lv_istore_n (lv' := [(3, .int _), (2, .int _), (1, .int _), (0, .ref _)]) hC.1 hC.2.1 dX4_dearest_5 rfl hl (by decide) rfl (fun ls hl => ?_)
  obtain ⟨n, hw⟩ := hw
  exact lw_X4_dearest_6 hl0 hC hrt hlk hmn hnx hs n _ _ _ _ _ hw _ _ hH _ (lv_sub hl [3, 2, 1, 0] rfl)
abbrev rm_X4_lineSum : Room := { frames := 7, cells := 1, slots := 6, locals := 121 }
def wp_X4_lineSum (z : Nat × Nat) (S : mmS) (p0 : Nat) (p1 : Int32) (Q : Int32 → mmS → Prop) (X : String → mmS → Prop) : Prop := (p0 ∈ mL S ∧ mK S p0 = 4) ∧ wp_X4_findLine z S p0 p1 (fun r3 S1 => (r3 ∈ mL S1 ∧ mK S1 r3 = 2) ∧ Q (mI S1 14 r3) S1) X
set_option maxHeartbeats 4000000 in
set_option maxRecDepth 100000 in
theorem met_X4_lineSum (l : Launch) (hl0 : l.stackTraces = false) (g : mG) (S : mmS) (p0 : Nat) (p1 : Int32) (Q : Int32 → mmS → Prop) (X : String → mmS → Prop) (hw : wp_X4_lineSum g.2.2.2.2.2 S p0 p1 Q X) : mMi l g yX4_lineSum (wA_ yX4_lineSum cX4_lineSum 2 (some .int)) rm_X4_lineSum [.ref p0, .int p1] S Q X := by
  refine m_of (y := yX4_lineSum) (cc := cX4_lineSum) (maxL := 2) (ret := (some .int)) (by decide) rfl (Nat.le_of_ble_eq_true rfl) ?_
  intro p e s m args below meth c ls hC hrt hlk hmn hnx hs hH hl
  have hC : CallFix p m c cX4_lineSum 2 s args (wA_ yX4_lineSum cX4_lineSum 2 (some .int)) RX4 := hC
  have hl : lv_has ls 2 [(0, .ref p0), (1, .int p1)] := hl
  unfold wp_X4_lineSum at hw
  refine lv_aload_n hC.1 hC.2.1 dX4_lineSum_0 rfl (lv_at hl 0 rfl) ?_
  refine lv_iload_n hC.1 hC.2.1 dX4_lineSum_1 rfl (lv_at hl 1 rfl) ?_
  obtain ⟨k2, hw⟩ := hw
  refine m_callVq (y := yX4_findLine) (rest := []) hC hs hH hl.1 (cwV 1 hC.2.2.2.2 (gA_V q_376 q_377 q_378 q_2 q_379) rfl rfl rfl (by decide +kernel) ⟨Nat.le_of_ble_eq_true rfl, Nat.le_of_ble_eq_true rfl⟩) cs4 k2 (met_X4_findLine l hl0 g _ _ _ _ _ hw) rfl rfl (Nat.le_of_ble_eq_true rfl) dX4_lineSum_2 ⟨Nat.le_of_ble_eq_true rfl, Nat.le_of_ble_eq_true rfl⟩ (m_out (fun x hx => (hnx x hx).elim) hlk (Nat.le_of_ble_eq_true rfl) (Nat.le_of_ble_eq_true rfl)) (fun r3 S1 H locs hw hH => ?_)
  refine W.widen (k := 1) (n := 6) (Nat.le_of_ble_eq_true rfl) (Nat.le_of_ble_eq_true rfl) ?_
  obtain ⟨k4, hw⟩ := hw
  refine m_getI hC hs hH cs2 fs2_2 (fun _ h => List.mem_cons_of_mem _ (inlX2 _ h)) (List.mem_cons_of_mem _ q_251) (fun _ h => h) k4 dX4_lineSum_5 ?_
  exact m_reti hC hH hrt rfl hlk (Nat.le_of_ble_eq_true rfl) (Nat.le_of_ble_eq_true rfl) dX4_lineSum_8 hw
abbrev rm_X4_daySum : Room := { frames := 6, cells := 1, slots := 6, locals := 100 }
def bk_X4_daySum_65 (z : Nat × Nat) (Q : Int32 → mmS → Prop) (X : String → mmS → Prop) (K24 : mmS → Nat → Int32 → Int32 → Int32 → Prop) (S : mmS) (x0 : Nat) (x1 : Int32) (x2 : Int32) (x3 : Int32) : Prop := ∀ v1 : Int32, v1 = x3 + 1 → K24 S x0 x1 x2 v1
def bk_X4_daySum_24 (z : Nat × Nat) (Q : Int32 → mmS → Prop) (X : String → mmS → Prop) (K24 : mmS → Nat → Int32 → Int32 → Int32 → Prop) (S : mmS) (x0 : Nat) (x1 : Int32) (x2 : Int32) (x3 : Int32) : Prop := (x0 ∈ mL S ∧ mK S x0 = 4) ∧ ∃ b2 : Nat, mR S 11 x0 = some b2 ∧ (b2 ∈ mL S ∧ mK S b2 = 6) ∧ wp_Jx4a65c_size_8abf5 z S b2 (fun r6 S4 => (r6 ≤ x3 → Q x2 S4) ∧ (¬ r6 ≤ x3 → (x0 ∈ mL S4 ∧ mK S4 x0 = 4) ∧ ∃ b8 : Nat, mR S4 11 x0 = some b8 ∧ (b8 ∈ mL S4 ∧ mK S4 b8 = 6) ∧ wp_Jx4a65c_get_915e3 z S4 b8 x3 (fun r12 S10 => (r12 ∈ mL S10 ∧ mK S10 r12 = 1) ∧ wp_X1_day z S10 r12 (fun r15 S14 => (¬ r15 = x1 → bk_X4_daySum_65 z Q X K24 S14 x0 x1 x2 x3) ∧ (r15 = x1 → (r12 ∈ mL S14 ∧ mK S14 r12 = 1) ∧ ∀ v17 : Int32, v17 = (x2 + (mI S14 12 r12)) → bk_X4_daySum_65 z Q X K24 S14 x0 x1 v17 x3)) X) X)) X
def lp_X4_daySum_24 (z : Nat × Nat) (Q : Int32 → mmS → Prop) (X : String → mmS → Prop) : Nat → mmS → Nat → Int32 → Int32 → Int32 → Prop
  | 0 => fun _ _ _ _ _ => False
  | n + 1 => bk_X4_daySum_24 z Q X (lp_X4_daySum_24 z Q X n)
def wp_X4_daySum (z : Nat × Nat) (S : mmS) (p0 : Nat) (p1 : Int32) (Q : Int32 → mmS → Prop) (X : String → mmS → Prop) : Prop := (p1 < 0 → X "java/lang/IndexOutOfBoundsException" S) ∧ (¬ p1 < 0 → (p1 < (30 : Int32) → ∀ v1 : Int32, v1 = (0 : Int32) → ∀ v2 : Int32, v2 = (0 : Int32) → ∃ n : Nat, lp_X4_daySum_24 z Q X n S p0 p1 v1 v2) ∧ (¬ p1 < (30 : Int32) → X "java/lang/IndexOutOfBoundsException" S))
set_option maxHeartbeats 4000000 in
set_option maxRecDepth 100000 in
theorem bw_X4_daySum_65 {p : Program} {l : Launch} {e : Env} {s : State} {m : MethodId} {args : Array Value} {below : List Frame} {meth : Method} {c : Code} {g : mG} {Q : Int32 → mmS → Prop} {X : String → mmS → Prop} (hl0 : l.stackTraces = false) (hC : CallFix p m c cX4_daySum 5 s args (wA_ yX4_daySum cX4_daySum 5 (some .int)) RX4) (hrt : meth.sig.returnType = (some .int)) (hlk : meth.locks = false) (hmn : meth.name = yX4_daySum.name) (hnx : ∀ x ∈ c.exceptionTable.toList, False) (hs : mX g s) {K24 : mmS → Nat → Int32 → Int32 → Int32 → Prop} (hk24 : ∀ (S : mmS) (x0 : Nat) (x1 : Int32) (x2 : Int32) (x3 : Int32), K24 S x0 x1 x2 x3 → ∀ (H : Heap) (locs : List Loc), mH g S s H locs → ∀ ls : Array Slot, lv_has ls 5 [(0, .ref x0), (1, .int x1), (2, .int x2), (3, .int x3)] → W p l e rm_X4_daySum s m args below meth c H locs 0 0 (vx_MQ below (va_Qi Q (wO g) (mB g)) (vx_X (fun _ : mmS => True) (fun E S1 t => X E S1 ∧ wO g S1 t) (mB g)) args s rm_X4_daySum.cells rm_X4_daySum.slots (mB g)) (F0 m 24 ls [])) : ∀ (S : mmS) (x0 : Nat) (x1 : Int32) (x2 : Int32) (x3 : Int32), bk_X4_daySum_65 g.2.2.2.2.2 Q X K24 S x0 x1 x2 x3 → ∀ (H : Heap) (locs : List Loc), mH g S s H locs → ∀ ls : Array Slot, lv_has ls 5 [(0, .ref x0), (1, .int x1), (2, .int x2), (3, .int x3)] → W p l e rm_X4_daySum s m args below meth c H locs 0 0 (vx_MQ below (va_Qi Q (wO g) (mB g)) (vx_X (fun _ : mmS => True) (fun E S1 t => X E S1 ∧ wO g S1 t) (mB g)) args s rm_X4_daySum.cells rm_X4_daySum.slots (mB g)) (F0 m 65 ls []) := by
  intro S x0 x1 x2 x3 hw H locs hH ls hl
  unfold bk_X4_daySum_65 at hw
  have hw := hw _ rfl
  refine lv_iinc (lv' := [(3, .int _), (0, .ref _), (1, .int _), (2, .int _)]) hC.1 hC.2.1 dX4_daySum_65 hl (k := 3) rfl (rfl : (_ : Int32) + Int32.ofInt 1 = (_ : Int32) + 1) (by decide) rfl (fun ls hl => ?_)
  refine lv_goto (tgt := 24) hC.1 hC.2.1 dX4_daySum_68 (by decide) ?_
  exact hk24 _ _ _ _ _ hw _ _ hH _ (lv_sub hl [1, 2, 3, 0] rfl)
set_option maxHeartbeats 4000000 in
set_option maxRecDepth 100000 in
theorem bw_X4_daySum_24 {p : Program} {l : Launch} {e : Env} {s : State} {m : MethodId} {args : Array Value} {below : List Frame} {meth : Method} {c : Code} {g : mG} {Q : Int32 → mmS → Prop} {X : String → mmS → Prop} (hl0 : l.stackTraces = false) (hC : CallFix p m c cX4_daySum 5 s args (wA_ yX4_daySum cX4_daySum 5 (some .int)) RX4) (hrt : meth.sig.returnType = (some .int)) (hlk : meth.locks = false) (hmn : meth.name = yX4_daySum.name) (hnx : ∀ x ∈ c.exceptionTable.toList, False) (hs : mX g s) {K24 : mmS → Nat → Int32 → Int32 → Int32 → Prop} (hk24 : ∀ (S : mmS) (x0 : Nat) (x1 : Int32) (x2 : Int32) (x3 : Int32), K24 S x0 x1 x2 x3 → ∀ (H : Heap) (locs : List Loc), mH g S s H locs → ∀ ls : Array Slot, lv_has ls 5 [(0, .ref x0), (1, .int x1), (2, .int x2), (3, .int x3)] → W p l e rm_X4_daySum s m args below meth c H locs 0 0 (vx_MQ below (va_Qi Q (wO g) (mB g)) (vx_X (fun _ : mmS => True) (fun E S1 t => X E S1 ∧ wO g S1 t) (mB g)) args s rm_X4_daySum.cells rm_X4_daySum.slots (mB g)) (F0 m 24 ls [])) : ∀ (S : mmS) (x0 : Nat) (x1 : Int32) (x2 : Int32) (x3 : Int32), bk_X4_daySum_24 g.2.2.2.2.2 Q X K24 S x0 x1 x2 x3 → ∀ (H : Heap) (locs : List Loc), mH g S s H locs → ∀ ls : Array Slot, lv_has ls 5 [(0, .ref x0), (1, .int x1), (2, .int x2), (3, .int x3)] → W p l e rm_X4_daySum s m args below meth c H locs 0 0 (vx_MQ below (va_Qi Q (wO g) (mB g)) (vx_X (fun _ : mmS => True) (fun E S1 t => X E S1 ∧ wO g S1 t) (mB g)) args s rm_X4_daySum.cells rm_X4_daySum.slots (mB g)) (F0 m 24 ls []) := by
  intro S x0 x1 x2 x3 hw H locs hH ls hl
  unfold bk_X4_daySum_24 at hw
  refine lv_iload_n hC.1 hC.2.1 dX4_daySum_24 rfl (lv_at hl 3 rfl) ?_
  refine lv_aload_n hC.1 hC.2.1 dX4_daySum_25 rfl (lv_at hl 0 rfl) ?_
  obtain ⟨k1, hw⟩ := hw
  obtain ⟨b2, r3, hw⟩ := hw
  refine m_getR hC hs hH cs4 fs4_3 (fun _ h => List.mem_cons_of_mem _ (inlX4 _ h)) (List.mem_cons_of_mem _ q_19) (fun _ h => h) k1 r3 dX4_daySum_26 ?_
  obtain ⟨k5, hw⟩ := hw
  refine m_callVi (y := yJx4a65c_size_8abf5) (rest := [.int _]) hC hs hH hl.1 (cwV 0 hC.2.2.2.2 (gA_V q_80 q_81 q_82 q_15 q_83) rfl rfl rfl (by decide +kernel) ⟨Nat.le_of_ble_eq_true rfl, Nat.le_of_ble_eq_true rfl⟩) cs6 k5 (met_Jx4a65c_size_8abf5 l hl0 g _ _ _ _ hw) rfl rfl (Nat.le_of_ble_eq_true rfl) dX4_daySum_29 ⟨Nat.le_of_ble_eq_true rfl, Nat.le_of_ble_eq_true rfl⟩ (m_out (fun x hx => (hnx x hx).elim) hlk (Nat.le_of_ble_eq_true rfl) (Nat.le_of_ble_eq_true rfl)) (fun r6 S1 H locs hw hH => ?_)
  refine W.widen (k := 0) (n := 0) (Nat.le_of_ble_eq_true rfl) (Nat.le_of_ble_eq_true rfl) ?_
  refine lv_icmp_ge (tgt := 71) hC.1 hC.2.1 dX4_daySum_32 (by decide) (fun hc => ?_) (fun hc => ?_)
  · have hw := hw.1 hc
    refine lv_iload_n hC.1 hC.2.1 dX4_daySum_71 rfl (lv_at hl 2 rfl) ?_
    exact m_reti hC hH hrt rfl hlk (Nat.le_of_ble_eq_true rfl) (Nat.le_of_ble_eq_true rfl) dX4_daySum_72 hw
  · have hw := hw.2 hc
    refine lv_aload_n hC.1 hC.2.1 dX4_daySum_35 rfl (lv_at hl 0 rfl) ?_
    obtain ⟨k7, hw⟩ := hw
    obtain ⟨b8, r9, hw⟩ := hw
    refine m_getR hC hs hH cs4 fs4_3 (fun _ h => List.mem_cons_of_mem _ (inlX4 _ h)) (List.mem_cons_of_mem _ q_19) (fun _ h => h) k7 r9 dX4_daySum_36 ?_
    refine lv_iload_n hC.1 hC.2.1 dX4_daySum_39 rfl (lv_at hl 3 rfl) ?_
    obtain ⟨k11, hw⟩ := hw
    refine m_callVq (y := yJx4a65c_get_915e3) (rest := []) hC hs hH hl.1 (cwV 1 hC.2.2.2.2 (gA_V q_184 q_185 q_186 q_15 q_187) rfl rfl rfl (by decide +kernel) ⟨Nat.le_of_ble_eq_true rfl, Nat.le_of_ble_eq_true rfl⟩) cs6 k11 (met_Jx4a65c_get_915e3 l hl0 g _ _ _ _ _ hw) rfl rfl (Nat.le_of_ble_eq_true rfl) dX4_daySum_40 ⟨Nat.le_of_ble_eq_true rfl, Nat.le_of_ble_eq_true rfl⟩ (m_out (fun x hx => (hnx x hx).elim) hlk (Nat.le_of_ble_eq_true rfl) (Nat.le_of_ble_eq_true rfl)) (fun r12 S1 H locs hw hH => ?_)
    refine W.widen (k := 0) (n := 0) (Nat.le_of_ble_eq_true rfl) (Nat.le_of_ble_eq_true rfl) ?_
    obtain ⟨k13, hw⟩ := hw
    refine m_cast hC hs hH cs1 (List.mem_cons_of_mem _ q_209) k13 dX4_daySum_43 ?_
    refine lv_astore (lv' := [(4, .ref _), (0, .ref _), (1, .int _), (2, .int _), (3, .int _)]) hC.1 hC.2.1 dX4_daySum_46 hl (by decide) rfl (fun ls hl => ?_)
    refine lv_aload hC.1 hC.2.1 dX4_daySum_48 (lv_at hl 0 rfl) ?_
    refine m_callVi (y := yX1_day) (rest := []) hC hs hH hl.1 (cwV 0 hC.2.2.2.2 (gA_V q_269 q_270 q_271 q_231 q_272) rfl rfl rfl (by decide +kernel) ⟨Nat.le_of_ble_eq_true rfl, Nat.le_of_ble_eq_true rfl⟩) cs1 k13 (met_X1_day l hl0 g _ _ _ _ hw) rfl rfl (Nat.le_of_ble_eq_true rfl) dX4_daySum_50 ⟨Nat.le_of_ble_eq_true rfl, Nat.le_of_ble_eq_true rfl⟩ (m_out (fun x hx => (hnx x hx).elim) hlk (Nat.le_of_ble_eq_true rfl) (Nat.le_of_ble_eq_true rfl)) (fun r15 S1 H locs hw hH => ?_)
    refine W.widen (k := 0) (n := 0) (Nat.le_of_ble_eq_true rfl) (Nat.le_of_ble_eq_true rfl) ?_
    refine lv_iload_n hC.1 hC.2.1 dX4_daySum_53 rfl (lv_at hl 2 rfl) ?_
    refine lv_icmp_ne (tgt := 65) hC.1 hC.2.1 dX4_daySum_54 (by decide) (fun hc => ?_) (fun hc => ?_)
    · have hw := hw.1 hc
      exact bw_X4_daySum_65 hl0 hC hrt hlk hmn hnx hs hk24 _ _ _ _ _ hw _ _ hH _ (lv_sub hl [1, 2, 3, 4] rfl)
    · have hw := hw.2 hc
      refine lv_iload_n hC.1 hC.2.1 dX4_daySum_57 rfl (lv_at hl 3 rfl) ?_
      refine lv_aload hC.1 hC.2.1 dX4_daySum_58 (lv_at hl 0 rfl) ?_
      obtain ⟨k16, hw⟩ := hw
      refine m_getI hC hs hH cs1 fs1_7 (fun _ h => List.mem_cons_of_mem _ (inlX1 _ h)) (List.mem_cons_of_mem _ q_250) (fun _ h => h) k16 dX4_daySum_60 ?_
      refine lv_iadd hC.1 hC.2.1 dX4_daySum_63 ?_
      have hw := hw _ rfl
      refine lv_istore_n (lv' := [(2, .int _), (4, .ref _), (0, .ref _), (1, .int _), (3, .int _)]) hC.1 hC.2.1 dX4_daySum_64 rfl hl (by decide) rfl (fun ls hl => ?_)
      exact bw_X4_daySum_65 hl0 hC hrt hlk hmn hnx hs hk24 _ _ _ _ _ hw _ _ hH _ (lv_sub hl [2, 3, 0, 4] rfl)
theorem lw_X4_daySum_24 {p : Program} {l : Launch} {e : Env} {s : State} {m : MethodId} {args : Array Value} {below : List Frame} {meth : Method} {c : Code} {g : mG} {Q : Int32 → mmS → Prop} {X : String → mmS → Prop} (hl0 : l.stackTraces = false) (hC : CallFix p m c cX4_daySum 5 s args (wA_ yX4_daySum cX4_daySum 5 (some .int)) RX4) (hrt : meth.sig.returnType = (some .int)) (hlk : meth.locks = false) (hmn : meth.name = yX4_daySum.name) (hnx : ∀ x ∈ c.exceptionTable.toList, False) (hs : mX g s) : ∀ (n : Nat) (S : mmS) (x0 : Nat) (x1 : Int32) (x2 : Int32) (x3 : Int32), lp_X4_daySum_24 g.2.2.2.2.2 Q X n S x0 x1 x2 x3 → ∀ (H : Heap) (locs : List Loc), mH g S s H locs → ∀ ls : Array Slot, lv_has ls 5 [(0, .ref x0), (1, .int x1), (2, .int x2), (3, .int x3)] → W p l e rm_X4_daySum s m args below meth c H locs 0 0 (vx_MQ below (va_Qi Q (wO g) (mB g)) (vx_X (fun _ : mmS => True) (fun E S1 t => X E S1 ∧ wO g S1 t) (mB g)) args s rm_X4_daySum.cells rm_X4_daySum.slots (mB g)) (F0 m 24 ls []) := by
  intro n
  induction n with
  | zero => intro S x0 x1 x2 x3 hw; exact False.elim hw
  | succ n ih => exact fun S x0 x1 x2 x3 hw => bw_X4_daySum_24 hl0 hC hrt hlk hmn hnx hs (K24 := lp_X4_daySum_24 g.2.2.2.2.2 Q X n) ih S x0 x1 x2 x3 hw
set_option maxHeartbeats 4000000 in
set_option maxRecDepth 100000 in
theorem met_X4_daySum (l : Launch) (hl0 : l.stackTraces = false) (g : mG) (S : mmS) (p0 : Nat) (p1 : Int32) (Q : Int32 → mmS → Prop) (X : String → mmS → Prop) (hw : wp_X4_daySum g.2.2.2.2.2 S p0 p1 Q X) : mMi l g yX4_daySum (wA_ yX4_daySum cX4_daySum 5 (some .int)) rm_X4_daySum [.ref p0, .int p1] S Q X := by
  refine m_of (y := yX4_daySum) (cc := cX4_daySum) (maxL := 5) (ret := (some .int)) (by decide) rfl (Nat.le_of_ble_eq_true rfl) ?_
  intro p e s m args below meth c ls hC hrt hlk hmn hnx hs hH hl
  have hC : CallFix p m c cX4_daySum 5 s args (wA_ yX4_daySum cX4_daySum 5 (some .int)) RX4 := hC
  have hl : lv_has ls 5 [(0, .ref p0), (1, .int p1)] := hl
  unfold wp_X4_daySum at hw
  refine lv_iload_n hC.1 hC.2.1 dX4_daySum_0 rfl (lv_at hl 1 rfl) ?_
  refine lv_if_lt (tgt := 10) hC.1 hC.2.1 dX4_daySum_1 (by decide) (fun hc => ?_) (fun hc => ?_)
  · have hw := hw.1 hc
    exact m_throwS (names := ["java/lang/RuntimeException", "java/lang/Exception"]) (text := "no such day") hC hs hH hl0 hl.1 rfl (by decide +kernel) (by decide +kernel) (List.mem_cons_of_mem _ q_181) (List.mem_cons_of_mem _ q_182) (by decide +kernel) (fun w h => List.mem_cons_of_mem _ (atIOB w h)) bdIOB (by decide +kernel) gdIOB hnx hlk dX4_daySum_10 dX4_daySum_13 dX4_daySum_14 dX4_daySum_16 dX4_daySum_19 (Nat.le_of_ble_eq_true rfl) (Nat.le_of_ble_eq_true rfl) (Nat.le_of_ble_eq_true rfl) (Nat.le_of_ble_eq_true rfl) (Nat.le_of_ble_eq_true rfl) (Nat.le_of_ble_eq_true rfl) hw
  · have hw := hw.2 hc
    refine lv_iload_n hC.1 hC.2.1 dX4_daySum_4 rfl (lv_at hl 1 rfl) ?_
    refine lv_bipush (v := 30) hC.1 hC.2.1 dX4_daySum_5 (by decide) ?_
    refine lv_icmp_lt (tgt := 20) hC.1 hC.2.1 dX4_daySum_7 (by decide) (fun hc => ?_) (fun hc => ?_)
    · have hw := hw.1 hc
      refine lv_iconst (v := 0) hC.1 hC.2.1 dX4_daySum_20 (by decide) ?_
      have hw := hw _ rfl
      refine lv_istore_n (lv' := [(2, .int _), (0, .ref _), (1, .int _)]) hC.1 hC.2.1 dX4_daySum_21 rfl hl (by decide) rfl (fun ls hl => ?_)
      refine lv_iconst (v := 0) hC.1 hC.2.1 dX4_daySum_22 (by decide) ?_
      have hw := hw _ rfl
      refine lv_istore_n (lv' := [(3, .int _), (2, .int _), (0, .ref _), (1, .int _)]) hC.1 hC.2.1 dX4_daySum_23 rfl hl (by decide) rfl (fun ls hl => ?_)
      obtain ⟨n, hw⟩ := hw
      exact lw_X4_daySum_24 hl0 hC hrt hlk hmn hnx hs n _ _ _ _ _ hw _ _ hH _ (lv_sub hl [2, 3, 1, 0] rfl)
    · have hw := hw.2 hc
      exact m_throwS (names := ["java/lang/RuntimeException", "java/lang/Exception"]) (text := "no such day") hC hs hH hl0 hl.1 rfl (by decide +kernel) (by decide +kernel) (List.mem_cons_of_mem _ q_181) (List.mem_cons_of_mem _ q_182) (by decide +kernel) (fun w h => List.mem_cons_of_mem _ (atIOB w h)) bdIOB (by decide +kernel) gdIOB hnx hlk dX4_daySum_10 dX4_daySum_13 dX4_daySum_14 dX4_daySum_16 dX4_daySum_19 (Nat.le_of_ble_eq_true rfl) (Nat.le_of_ble_eq_true rfl) (Nat.le_of_ble_eq_true rfl) (Nat.le_of_ble_eq_true rfl) (Nat.le_of_ble_eq_true rfl) (Nat.le_of_ble_eq_true rfl) hw
abbrev rm_X4_sum : Room := { frames := 7, cells := 1, slots := 6, locals := 121 }
def wp_X4_sum (z : Nat × Nat) (S : mmS) (p0 : Nat) (p1 : Int32) (Q : Int32 → mmS → Prop) (X : String → mmS → Prop) : Prop := (p0 ∈ mL S ∧ mK S p0 = 4) ∧ wp_X4_findAccount z S p0 p1 (fun r3 S1 => (r3 ∈ mL S1 ∧ mK S1 r3 = 0) ∧ Q (mI S1 5 r3) S1) X
set_option maxHeartbeats 4000000 in
set_option maxRecDepth 100000 in
theorem met_X4_sum (l : Launch) (hl0 : l.stackTraces = false) (g : mG) (S : mmS) (p0 : Nat) (p1 : Int32) (Q : Int32 → mmS → Prop) (X : String → mmS → Prop) (hw : wp_X4_sum g.2.2.2.2.2 S p0 p1 Q X) : mMi l g yX4_sum (wA_ yX4_sum cX4_sum 2 (some .int)) rm_X4_sum [.ref p0, .int p1] S Q X := by
  refine m_of (y := yX4_sum) (cc := cX4_sum) (maxL := 2) (ret := (some .int)) (by decide) rfl (Nat.le_of_ble_eq_true rfl) ?_
  intro p e s m args below meth c ls hC hrt hlk hmn hnx hs hH hl
  have hC : CallFix p m c cX4_sum 2 s args (wA_ yX4_sum cX4_sum 2 (some .int)) RX4 := hC
  have hl : lv_has ls 2 [(0, .ref p0), (1, .int p1)] := hl
  unfold wp_X4_sum at hw
  refine lv_aload_n hC.1 hC.2.1 dX4_sum_0 rfl (lv_at hl 0 rfl) ?_
  refine lv_iload_n hC.1 hC.2.1 dX4_sum_1 rfl (lv_at hl 1 rfl) ?_
  obtain ⟨k2, hw⟩ := hw
  refine m_callVq (y := yX4_findAccount) (rest := []) hC hs hH hl.1 (cwV 1 hC.2.2.2.2 (gA_V q_349 q_350 q_351 q_2 q_352) rfl rfl rfl (by decide +kernel) ⟨Nat.le_of_ble_eq_true rfl, Nat.le_of_ble_eq_true rfl⟩) cs4 k2 (met_X4_findAccount l hl0 g _ _ _ _ _ hw) rfl rfl (Nat.le_of_ble_eq_true rfl) dX4_sum_2 ⟨Nat.le_of_ble_eq_true rfl, Nat.le_of_ble_eq_true rfl⟩ (m_out (fun x hx => (hnx x hx).elim) hlk (Nat.le_of_ble_eq_true rfl) (Nat.le_of_ble_eq_true rfl)) (fun r3 S1 H locs hw hH => ?_)
  refine W.widen (k := 1) (n := 6) (Nat.le_of_ble_eq_true rfl) (Nat.le_of_ble_eq_true rfl) ?_
  obtain ⟨k4, hw⟩ := hw
  refine m_getI hC hs hH cs0 fs0_5 (fun _ h => List.mem_cons_of_mem _ (inlX0 _ h)) (List.mem_cons_of_mem _ q_252) (fun _ h => h) k4 dX4_sum_5 ?_
  exact m_reti hC hH hrt rfl hlk (Nat.le_of_ble_eq_true rfl) (Nat.le_of_ble_eq_true rfl) dX4_sum_8 hw
abbrev rm_X4_total : Room := { frames := 7, cells := 1, slots := 6, locals := 121 }
def wp_X4_total (z : Nat × Nat) (S : mmS) (p0 : Nat) (p1 : Int32) (Q : Int32 → mmS → Prop) (X : String → mmS → Prop) : Prop := (p0 ∈ mL S ∧ mK S p0 = 4) ∧ wp_X4_findAccount z S p0 p1 (fun r3 S1 => (r3 ∈ mL S1 ∧ mK S1 r3 = 0) ∧ wp_X0_cents z S1 r3 (fun r6 S4 => Q r6 S4) X) X
set_option maxHeartbeats 4000000 in
set_option maxRecDepth 100000 in
theorem met_X4_total (l : Launch) (hl0 : l.stackTraces = false) (g : mG) (S : mmS) (p0 : Nat) (p1 : Int32) (Q : Int32 → mmS → Prop) (X : String → mmS → Prop) (hw : wp_X4_total g.2.2.2.2.2 S p0 p1 Q X) : mMi l g yX4_total (wA_ yX4_total cX4_total 2 (some .int)) rm_X4_total [.ref p0, .int p1] S Q X := by
  refine m_of (y := yX4_total) (cc := cX4_total) (maxL := 2) (ret := (some .int)) (by decide) rfl (Nat.le_of_ble_eq_true rfl) ?_
  intro p e s m args below meth c ls hC hrt hlk hmn hnx hs hH hl
  have hC : CallFix p m c cX4_total 2 s args (wA_ yX4_total cX4_total 2 (some .int)) RX4 := hC
  have hl : lv_has ls 2 [(0, .ref p0), (1, .int p1)] := hl
  unfold wp_X4_total at hw
  refine lv_aload_n hC.1 hC.2.1 dX4_total_0 rfl (lv_at hl 0 rfl) ?_
  refine lv_iload_n hC.1 hC.2.1 dX4_total_1 rfl (lv_at hl 1 rfl) ?_
  obtain ⟨k2, hw⟩ := hw
  refine m_callVq (y := yX4_findAccount) (rest := []) hC hs hH hl.1 (cwV 1 hC.2.2.2.2 (gA_V q_349 q_350 q_351 q_2 q_352) rfl rfl rfl (by decide +kernel) ⟨Nat.le_of_ble_eq_true rfl, Nat.le_of_ble_eq_true rfl⟩) cs4 k2 (met_X4_findAccount l hl0 g _ _ _ _ _ hw) rfl rfl (Nat.le_of_ble_eq_true rfl) dX4_total_2 ⟨Nat.le_of_ble_eq_true rfl, Nat.le_of_ble_eq_true rfl⟩ (m_out (fun x hx => (hnx x hx).elim) hlk (Nat.le_of_ble_eq_true rfl) (Nat.le_of_ble_eq_true rfl)) (fun r3 S1 H locs hw hH => ?_)
  refine W.widen (k := 1) (n := 6) (Nat.le_of_ble_eq_true rfl) (Nat.le_of_ble_eq_true rfl) ?_
  obtain ⟨k5, hw⟩ := hw
  refine m_callVi (y := yX0_cents) (rest := []) hC hs hH hl.1 (cwV 0 hC.2.2.2.2 (gA_V q_587 q_588 q_589 q_214 q_590) rfl rfl rfl (by decide +kernel) ⟨Nat.le_of_ble_eq_true rfl, Nat.le_of_ble_eq_true rfl⟩) cs0 k5 (met_X0_cents l hl0 g _ _ _ _ hw) rfl rfl (Nat.le_of_ble_eq_true rfl) dX4_total_5 ⟨Nat.le_of_ble_eq_true rfl, Nat.le_of_ble_eq_true rfl⟩ (m_out (fun x hx => (hnx x hx).elim) hlk (Nat.le_of_ble_eq_true rfl) (Nat.le_of_ble_eq_true rfl)) (fun r6 S1 H locs hw hH => ?_)
  refine W.widen (k := 1) (n := 6) (Nat.le_of_ble_eq_true rfl) (Nat.le_of_ble_eq_true rfl) ?_
  exact m_reti hC hH hrt rfl hlk (Nat.le_of_ble_eq_true rfl) (Nat.le_of_ble_eq_true rfl) dX4_total_8 hw
abbrev rm_X4_left : Room := { frames := 7, cells := 1, slots := 6, locals := 121 }
def wp_X4_left (z : Nat × Nat) (S : mmS) (p0 : Nat) (p1 : Int32) (Q : Int32 → mmS → Prop) (X : String → mmS → Prop) : Prop := (p0 ∈ mL S ∧ mK S p0 = 4) ∧ wp_X4_findAccount z S p0 p1 (fun r3 S1 => (r3 ∈ mL S1 ∧ mK S1 r3 = 0) ∧ Q (mI S1 3 r3) S1) X
set_option maxHeartbeats 4000000 in
set_option maxRecDepth 100000 in
theorem met_X4_left (l : Launch) (hl0 : l.stackTraces = false) (g : mG) (S : mmS) (p0 : Nat) (p1 : Int32) (Q : Int32 → mmS → Prop) (X : String → mmS → Prop) (hw : wp_X4_left g.2.2.2.2.2 S p0 p1 Q X) : mMi l g yX4_left (wA_ yX4_left cX4_left 2 (some .int)) rm_X4_left [.ref p0, .int p1] S Q X := by
  refine m_of (y := yX4_left) (cc := cX4_left) (maxL := 2) (ret := (some .int)) (by decide) rfl (Nat.le_of_ble_eq_true rfl) ?_
  intro p e s m args below meth c ls hC hrt hlk hmn hnx hs hH hl
  have hC : CallFix p m c cX4_left 2 s args (wA_ yX4_left cX4_left 2 (some .int)) RX4 := hC
  have hl : lv_has ls 2 [(0, .ref p0), (1, .int p1)] := hl
  unfold wp_X4_left at hw
  refine lv_aload_n hC.1 hC.2.1 dX4_left_0 rfl (lv_at hl 0 rfl) ?_
  refine lv_iload_n hC.1 hC.2.1 dX4_left_1 rfl (lv_at hl 1 rfl) ?_
  obtain ⟨k2, hw⟩ := hw
  refine m_callVq (y := yX4_findAccount) (rest := []) hC hs hH hl.1 (cwV 1 hC.2.2.2.2 (gA_V q_349 q_350 q_351 q_2 q_352) rfl rfl rfl (by decide +kernel) ⟨Nat.le_of_ble_eq_true rfl, Nat.le_of_ble_eq_true rfl⟩) cs4 k2 (met_X4_findAccount l hl0 g _ _ _ _ _ hw) rfl rfl (Nat.le_of_ble_eq_true rfl) dX4_left_2 ⟨Nat.le_of_ble_eq_true rfl, Nat.le_of_ble_eq_true rfl⟩ (m_out (fun x hx => (hnx x hx).elim) hlk (Nat.le_of_ble_eq_true rfl) (Nat.le_of_ble_eq_true rfl)) (fun r3 S1 H locs hw hH => ?_)
  refine W.widen (k := 1) (n := 6) (Nat.le_of_ble_eq_true rfl) (Nat.le_of_ble_eq_true rfl) ?_
  obtain ⟨k4, hw⟩ := hw
  refine m_getI hC hs hH cs0 fs0_3 (fun _ h => List.mem_cons_of_mem _ (inlX0 _ h)) (List.mem_cons_of_mem _ q_609) (fun _ h => h) k4 dX4_left_5 ?_
  exact m_reti hC hH hrt rfl hlk (Nat.le_of_ble_eq_true rfl) (Nat.le_of_ble_eq_true rfl) dX4_left_8 hw
abbrev rm_X4_emptied : Room := { frames := 7, cells := 1, slots := 6, locals := 121 }
def wp_X4_emptied (z : Nat × Nat) (S : mmS) (p0 : Nat) (p1 : Int32) (Q : Int32 → mmS → Prop) (X : String → mmS → Prop) : Prop := (p0 ∈ mL S ∧ mK S p0 = 4) ∧ wp_X4_findAccount z S p0 p1 (fun r3 S1 => (r3 ∈ mL S1 ∧ mK S1 r3 = 0) ∧ Q (mI S1 4 r3) S1) X
set_option maxHeartbeats 4000000 in
set_option maxRecDepth 100000 in
theorem met_X4_emptied (l : Launch) (hl0 : l.stackTraces = false) (g : mG) (S : mmS) (p0 : Nat) (p1 : Int32) (Q : Int32 → mmS → Prop) (X : String → mmS → Prop) (hw : wp_X4_emptied g.2.2.2.2.2 S p0 p1 Q X) : mMi l g yX4_emptied (wA_ yX4_emptied cX4_emptied 2 (some .int)) rm_X4_emptied [.ref p0, .int p1] S Q X := by
  refine m_of (y := yX4_emptied) (cc := cX4_emptied) (maxL := 2) (ret := (some .int)) (by decide) rfl (Nat.le_of_ble_eq_true rfl) ?_
  intro p e s m args below meth c ls hC hrt hlk hmn hnx hs hH hl
  have hC : CallFix p m c cX4_emptied 2 s args (wA_ yX4_emptied cX4_emptied 2 (some .int)) RX4 := hC
  have hl : lv_has ls 2 [(0, .ref p0), (1, .int p1)] := hl
  unfold wp_X4_emptied at hw
  refine lv_aload_n hC.1 hC.2.1 dX4_emptied_0 rfl (lv_at hl 0 rfl) ?_
  refine lv_iload_n hC.1 hC.2.1 dX4_emptied_1 rfl (lv_at hl 1 rfl) ?_
  obtain ⟨k2, hw⟩ := hw
  refine m_callVq (y := yX4_findAccount) (rest := []) hC hs hH hl.1 (cwV 1 hC.2.2.2.2 (gA_V q_349 q_350 q_351 q_2 q_352) rfl rfl rfl (by decide +kernel) ⟨Nat.le_of_ble_eq_true rfl, Nat.le_of_ble_eq_true rfl⟩) cs4 k2 (met_X4_findAccount l hl0 g _ _ _ _ _ hw) rfl rfl (Nat.le_of_ble_eq_true rfl) dX4_emptied_2 ⟨Nat.le_of_ble_eq_true rfl, Nat.le_of_ble_eq_true rfl⟩ (m_out (fun x hx => (hnx x hx).elim) hlk (Nat.le_of_ble_eq_true rfl) (Nat.le_of_ble_eq_true rfl)) (fun r3 S1 H locs hw hH => ?_)
  refine W.widen (k := 1) (n := 6) (Nat.le_of_ble_eq_true rfl) (Nat.le_of_ble_eq_true rfl) ?_
  obtain ⟨k4, hw⟩ := hw
  refine m_getI hC hs hH cs0 fs0_4 (fun _ h => List.mem_cons_of_mem _ (inlX0 _ h)) (List.mem_cons_of_mem _ q_621) (fun _ h => h) k4 dX4_emptied_5 ?_
  exact m_reti hC hH hrt rfl hlk (Nat.le_of_ble_eq_true rfl) (Nat.le_of_ble_eq_true rfl) dX4_emptied_8 hw
abbrev rm_X4_dayFees : Room := { frames := 7, cells := 2, slots := 12, locals := 121 }
def wp_X4_dayFees (z : Nat × Nat) (S : mmS) (p0 : Nat) (p1 : Int32) (p2 : Int32) (Q : Int32 → mmS → Prop) (X : String → mmS → Prop) : Prop := (p0 ∈ mL S ∧ mK S p0 = 4) ∧ wp_X4_findLine z S p0 p1 (fun r3 S1 => wp_X4_checkAbroad z S1 p2 (fun S4 => (r3 ∈ mL S4 ∧ mK S4 r3 = 2) ∧ ∃ b6 : Nat, mR S4 3 r3 = some b6 ∧ (b6 ∈ mL S4 ∧ mK S4 b6 = 7) ∧ vp_in p2 (mN S4 b6) ∧ Q (mA S4 b6 (p2).toNatClampNeg) S4) X) X
set_option maxHeartbeats 4000000 in
set_option maxRecDepth 100000 in
theorem met_X4_dayFees (l : Launch) (hl0 : l.stackTraces = false) (g : mG) (S : mmS) (p0 : Nat) (p1 : Int32) (p2 : Int32) (Q : Int32 → mmS → Prop) (X : String → mmS → Prop) (hw : wp_X4_dayFees g.2.2.2.2.2 S p0 p1 p2 Q X) : mMi l g yX4_dayFees (wA_ yX4_dayFees cX4_dayFees 4 (some .int)) rm_X4_dayFees [.ref p0, .int p1, .int p2] S Q X := by
  refine m_of (y := yX4_dayFees) (cc := cX4_dayFees) (maxL := 4) (ret := (some .int)) (by decide) rfl (Nat.le_of_ble_eq_true rfl) ?_
  intro p e s m args below meth c ls hC hrt hlk hmn hnx hs hH hl
  have hC : CallFix p m c cX4_dayFees 4 s args (wA_ yX4_dayFees cX4_dayFees 4 (some .int)) RX4 := hC
  have hl : lv_has ls 4 [(0, .ref p0), (1, .int p1), (2, .int p2)] := hl
  unfold wp_X4_dayFees at hw
  refine lv_aload_n hC.1 hC.2.1 dX4_dayFees_0 rfl (lv_at hl 0 rfl) ?_
  refine lv_iload_n hC.1 hC.2.1 dX4_dayFees_1 rfl (lv_at hl 1 rfl) ?_
  obtain ⟨k2, hw⟩ := hw
  refine m_callVq (y := yX4_findLine) (rest := []) hC hs hH hl.1 (cwV 1 hC.2.2.2.2 (gA_V q_376 q_377 q_378 q_2 q_379) rfl rfl rfl (by decide +kernel) ⟨Nat.le_of_ble_eq_true rfl, Nat.le_of_ble_eq_true rfl⟩) cs4 k2 (met_X4_findLine l hl0 g _ _ _ _ _ hw) rfl rfl (Nat.le_of_ble_eq_true rfl) dX4_dayFees_2 ⟨Nat.le_of_ble_eq_true rfl, Nat.le_of_ble_eq_true rfl⟩ (m_out (fun x hx => (hnx x hx).elim) hlk (Nat.le_of_ble_eq_true rfl) (Nat.le_of_ble_eq_true rfl)) (fun r3 S1 H locs hw hH => ?_)
  refine W.widen (k := 1) (n := 6) (Nat.le_of_ble_eq_true rfl) (Nat.le_of_ble_eq_true rfl) ?_
  refine lv_astore_n (lv' := [(3, .ref _), (0, .ref _), (1, .int _), (2, .int _)]) hC.1 hC.2.1 dX4_dayFees_5 rfl hl (by decide) rfl (fun ls hl => ?_)
  refine lv_iload_n hC.1 hC.2.1 dX4_dayFees_6 rfl (lv_at hl 3 rfl) ?_
  refine m_callSv (y := yX4_checkAbroad) (rest := []) hC hs hH hl.1 (va_cwS 1 hC.2.2.2.2 (gA_S q_200 q_201 q_2 q_202) rfl rfl rfl (by decide +kernel) ⟨Nat.le_of_ble_eq_true rfl, Nat.le_of_ble_eq_true rfl⟩) (met_X4_checkAbroad l hl0 g _ _ _ _ hw) rfl rfl (Nat.le_of_ble_eq_true rfl) dX4_dayFees_7 ⟨Nat.le_of_ble_eq_true rfl, Nat.le_of_ble_eq_true rfl⟩ (m_out (fun x hx => (hnx x hx).elim) hlk (Nat.le_of_ble_eq_true rfl) (Nat.le_of_ble_eq_true rfl)) (fun S1 H locs hw hH => ?_)
  refine W.widen (k := 2) (n := 12) (Nat.le_of_ble_eq_true rfl) (Nat.le_of_ble_eq_true rfl) ?_
  refine lv_aload_n hC.1 hC.2.1 dX4_dayFees_10 rfl (lv_at hl 0 rfl) ?_
  obtain ⟨k5, hw⟩ := hw
  obtain ⟨b6, r7, hw⟩ := hw
  refine m_getR hC hs hH cs2 fs2_3 (fun _ h => List.mem_cons_of_mem _ (inlX2 _ h)) (List.mem_cons_of_mem _ q_633) (fun _ h => h) k5 r7 dX4_dayFees_11 ?_
  refine lv_iload_n hC.1 hC.2.1 dX4_dayFees_14 rfl (lv_at hl 3 rfl) ?_
  obtain ⟨k8, hw⟩ := hw
  obtain ⟨i9, hw⟩ := hw
  refine m_iald hC hs hH k8 i9 dX4_dayFees_15 ?_
  exact m_reti hC hH hrt rfl hlk (Nat.le_of_ble_eq_true rfl) (Nat.le_of_ble_eq_true rfl) dX4_dayFees_16 hw
abbrev rm_X4_totalWith : Room := { frames := 7, cells := 2, slots := 12, locals := 138 }
def wp_X4_totalWith (z : Nat × Nat) (S : mmS) (p0 : Nat) (p1 : Int32) (p2 : Int32) (Q : Int32 → mmS → Prop) (X : String → mmS → Prop) : Prop := (p0 ∈ mL S ∧ mK S p0 = 4) ∧ wp_X4_findLine z S p0 p1 (fun r3 S1 => (p0 ∈ mL S1 ∧ mK S1 p0 = 4) ∧ wp_X4_findTariff z S1 p0 p2 (fun r6 S4 => (r3 ∈ mL S4 ∧ mK S4 r3 = 2) ∧ ∃ b8 : Nat, mR S4 2 r3 = some b8 ∧ (p0 ∈ mL S4 ∧ mK S4 p0 = 4) ∧ wp_X4_giveTariff z S4 p0 r3 r6 (fun S10 => (r3 ∈ mL S10 ∧ mK S10 r3 = 2) ∧ ∃ b13 : Nat, mR S10 1 r3 = some b13 ∧ (b13 ∈ mL S10 ∧ mK S10 b13 = 0) ∧ wp_X0_cents z S10 b13 (fun r17 S15 => (p0 ∈ mL S15 ∧ mK S15 p0 = 4) ∧ wp_X4_giveTariff z S15 p0 r3 b8 (fun S18 => Q r17 S18) X) X) X) X) X
set_option maxHeartbeats 4000000 in
set_option maxRecDepth 100000 in
theorem met_X4_totalWith (l : Launch) (hl0 : l.stackTraces = false) (g : mG) (S : mmS) (p0 : Nat) (p1 : Int32) (p2 : Int32) (Q : Int32 → mmS → Prop) (X : String → mmS → Prop) (hw : wp_X4_totalWith g.2.2.2.2.2 S p0 p1 p2 Q X) : mMi l g yX4_totalWith (wA_ yX4_totalWith cX4_totalWith 7 (some .int)) rm_X4_totalWith [.ref p0, .int p1, .int p2] S Q X := by
  refine m_of (y := yX4_totalWith) (cc := cX4_totalWith) (maxL := 7) (ret := (some .int)) (by decide) rfl (Nat.le_of_ble_eq_true rfl) ?_
  intro p e s m args below meth c ls hC hrt hlk hmn hnx hs hH hl
  have hC : CallFix p m c cX4_totalWith 7 s args (wA_ yX4_totalWith cX4_totalWith 7 (some .int)) RX4 := hC
  have hl : lv_has ls 7 [(0, .ref p0), (1, .int p1), (2, .int p2)] := hl
  unfold wp_X4_totalWith at hw
  refine lv_aload_n hC.1 hC.2.1 dX4_totalWith_0 rfl (lv_at hl 0 rfl) ?_
  refine lv_iload_n hC.1 hC.2.1 dX4_totalWith_1 rfl (lv_at hl 1 rfl) ?_
  obtain ⟨k2, hw⟩ := hw
  refine m_callVq (y := yX4_findLine) (rest := []) hC hs hH hl.1 (cwV 1 hC.2.2.2.2 (gA_V q_376 q_377 q_378 q_2 q_379) rfl rfl rfl (by decide +kernel) ⟨Nat.le_of_ble_eq_true rfl, Nat.le_of_ble_eq_true rfl⟩) cs4 k2 (met_X4_findLine l hl0 g _ _ _ _ _ hw) rfl rfl (Nat.le_of_ble_eq_true rfl) dX4_totalWith_2 ⟨Nat.le_of_ble_eq_true rfl, Nat.le_of_ble_eq_true rfl⟩ (m_out (fun x hx => (hnx x hx).elim) hlk (Nat.le_of_ble_eq_true rfl) (Nat.le_of_ble_eq_true rfl)) (fun r3 S1 H locs hw hH => ?_)
  refine W.widen (k := 1) (n := 6) (Nat.le_of_ble_eq_true rfl) (Nat.le_of_ble_eq_true rfl) ?_
  refine lv_astore_n (lv' := [(3, .ref _), (0, .ref _), (1, .int _), (2, .int _)]) hC.1 hC.2.1 dX4_totalWith_5 rfl hl (by decide) rfl (fun ls hl => ?_)
  refine lv_aload_n hC.1 hC.2.1 dX4_totalWith_6 rfl (lv_at hl 1 rfl) ?_
  refine lv_iload_n hC.1 hC.2.1 dX4_totalWith_7 rfl (lv_at hl 3 rfl) ?_
  obtain ⟨k5, hw⟩ := hw
  refine m_callVq (y := yX4_findTariff) (rest := []) hC hs hH hl.1 (cwV 1 hC.2.2.2.2 (gA_V q_177 q_178 q_179 q_2 q_180) rfl rfl rfl (by decide +kernel) ⟨Nat.le_of_ble_eq_true rfl, Nat.le_of_ble_eq_true rfl⟩) cs4 k5 (met_X4_findTariff l hl0 g _ _ _ _ _ hw) rfl rfl (Nat.le_of_ble_eq_true rfl) dX4_totalWith_8 ⟨Nat.le_of_ble_eq_true rfl, Nat.le_of_ble_eq_true rfl⟩ (m_out (fun x hx => (hnx x hx).elim) hlk (Nat.le_of_ble_eq_true rfl) (Nat.le_of_ble_eq_true rfl)) (fun r6 S1 H locs hw hH => ?_)
  refine W.widen (k := 2) (n := 12) (Nat.le_of_ble_eq_true rfl) (Nat.le_of_ble_eq_true rfl) ?_
  refine lv_astore (lv' := [(4, .ref _), (3, .ref _), (0, .ref _), (1, .int _), (2, .int _)]) hC.1 hC.2.1 dX4_totalWith_11 hl (by decide) rfl (fun ls hl => ?_)
  refine lv_aload_n hC.1 hC.2.1 dX4_totalWith_13 rfl (lv_at hl 1 rfl) ?_
  obtain ⟨k7, hw⟩ := hw
  obtain ⟨b8, r9, hw⟩ := hw
  refine m_getR hC hs hH cs2 fs2_1 (fun _ h => List.mem_cons_of_mem _ (inlX2 _ h)) (List.mem_cons_of_mem _ q_242) (fun _ h => h) k7 r9 dX4_totalWith_14 ?_
  refine lv_astore (lv' := [(5, .ref _), (4, .ref _), (3, .ref _), (0, .ref _), (1, .int _), (2, .int _)]) hC.1 hC.2.1 dX4_totalWith_17 hl (by decide) rfl (fun ls hl => ?_)
  refine lv_aload_n hC.1 hC.2.1 dX4_totalWith_19 rfl (lv_at hl 3 rfl) ?_
  refine lv_aload_n hC.1 hC.2.1 dX4_totalWith_20 rfl (lv_at hl 2 rfl) ?_
  refine lv_aload hC.1 hC.2.1 dX4_totalWith_21 (lv_at hl 1 rfl) ?_
  obtain ⟨k11, hw⟩ := hw
  refine m_callVv (y := yX4_giveTariff) (rest := []) hC hs hH hl.1 (cwV 2 hC.2.2.2.2 (gA_V q_380 q_381 q_382 q_2 q_383) rfl rfl rfl (by decide +kernel) ⟨Nat.le_of_ble_eq_true rfl, Nat.le_of_ble_eq_true rfl⟩) cs4 k11 (met_X4_giveTariff l hl0 g _ _ _ _ _ _ hw) rfl rfl (Nat.le_of_ble_eq_true rfl) dX4_totalWith_23 ⟨Nat.le_of_ble_eq_true rfl, Nat.le_of_ble_eq_true rfl⟩ (m_out (fun x hx => (hnx x hx).elim) hlk (Nat.le_of_ble_eq_true rfl) (Nat.le_of_ble_eq_true rfl)) (fun S1 H locs hw hH => ?_)
  refine W.widen (k := 2) (n := 12) (Nat.le_of_ble_eq_true rfl) (Nat.le_of_ble_eq_true rfl) ?_
  refine lv_aload_n hC.1 hC.2.1 dX4_totalWith_26 rfl (lv_at hl 2 rfl) ?_
  obtain ⟨k12, hw⟩ := hw
  obtain ⟨b13, r14, hw⟩ := hw
  refine m_getR hC hs hH cs2 fs2_0 (fun _ h => List.mem_cons_of_mem _ (inlX2 _ h)) (List.mem_cons_of_mem _ q_245) (fun _ h => h) k12 r14 dX4_totalWith_27 ?_
  obtain ⟨k16, hw⟩ := hw
  refine m_callVi (y := yX0_cents) (rest := []) hC hs hH hl.1 (cwV 0 hC.2.2.2.2 (gA_V q_587 q_588 q_589 q_214 q_590) rfl rfl rfl (by decide +kernel) ⟨Nat.le_of_ble_eq_true rfl, Nat.le_of_ble_eq_true rfl⟩) cs0 k16 (met_X0_cents l hl0 g _ _ _ _ hw) rfl rfl (Nat.le_of_ble_eq_true rfl) dX4_totalWith_30 ⟨Nat.le_of_ble_eq_true rfl, Nat.le_of_ble_eq_true rfl⟩ (m_out (fun x hx => (hnx x hx).elim) hlk (Nat.le_of_ble_eq_true rfl) (Nat.le_of_ble_eq_true rfl)) (fun r17 S1 H locs hw hH => ?_)
  refine W.widen (k := 2) (n := 12) (Nat.le_of_ble_eq_true rfl) (Nat.le_of_ble_eq_true rfl) ?_
  refine lv_istore (lv' := [(6, .int _), (5, .ref _), (4, .ref _), (3, .ref _), (0, .ref _), (1, .int _), (2, .int _)]) hC.1 hC.2.1 dX4_totalWith_33 hl (by decide) rfl (fun ls hl => ?_)
  refine lv_aload_n hC.1 hC.2.1 dX4_totalWith_35 rfl (lv_at hl 4 rfl) ?_
  refine lv_aload_n hC.1 hC.2.1 dX4_totalWith_36 rfl (lv_at hl 3 rfl) ?_
  refine lv_aload hC.1 hC.2.1 dX4_totalWith_37 (lv_at hl 1 rfl) ?_
  obtain ⟨k19, hw⟩ := hw
  refine m_callVv (y := yX4_giveTariff) (rest := []) hC hs hH hl.1 (cwV 2 hC.2.2.2.2 (gA_V q_380 q_381 q_382 q_2 q_383) rfl rfl rfl (by decide +kernel) ⟨Nat.le_of_ble_eq_true rfl, Nat.le_of_ble_eq_true rfl⟩) cs4 k19 (met_X4_giveTariff l hl0 g _ _ _ _ _ _ hw) rfl rfl (Nat.le_of_ble_eq_true rfl) dX4_totalWith_39 ⟨Nat.le_of_ble_eq_true rfl, Nat.le_of_ble_eq_true rfl⟩ (m_out (fun x hx => (hnx x hx).elim) hlk (Nat.le_of_ble_eq_true rfl) (Nat.le_of_ble_eq_true rfl)) (fun S1 H locs hw hH => ?_)
  refine W.widen (k := 2) (n := 12) (Nat.le_of_ble_eq_true rfl) (Nat.le_of_ble_eq_true rfl) ?_
  refine lv_iload hC.1 hC.2.1 dX4_totalWith_42 (lv_at hl 0 rfl) ?_
  exact m_reti hC hH hrt rfl hlk (Nat.le_of_ble_eq_true rfl) (Nat.le_of_ble_eq_true rfl) dX4_totalWith_44 hw
abbrev rm_X4_bestTariff : Room := { frames := 7, cells := 1, slots := 6, locals := 138 }
def bk_X4_bestTariff_79 (z : Nat × Nat) (Q : Int32 → mmS → Prop) (X : String → mmS → Prop) (K20 : mmS → Nat → Nat → Nat → Int32 → Int32 → Int32 → Prop) (S : mmS) (x0 : Nat) (x2 : Nat) (x3 : Nat) (x4 : Int32) (x5 : Int32) (x6 : Int32) : Prop := ∀ v1 : Int32, v1 = x6 + 1 → K20 S x0 x2 x3 x4 x5 v1
def bk_X4_bestTariff_71 (z : Nat × Nat) (Q : Int32 → mmS → Prop) (X : String → mmS → Prop) (K20 : mmS → Nat → Nat → Nat → Int32 → Int32 → Int32 → Prop) (S : mmS) (x0 : Nat) (x2 : Nat) (x3 : Nat) (x6 : Int32) (x7 : Int32) : Prop := bk_X4_bestTariff_79 z Q X K20 S x0 x2 x3 x6 x7 x6
def bk_X4_bestTariff_20 (z : Nat × Nat) (Q : Int32 → mmS → Prop) (X : String → mmS → Prop) (K20 : mmS → Nat → Nat → Nat → Int32 → Int32 → Int32 → Prop) (S : mmS) (x0 : Nat) (x2 : Nat) (x3 : Nat) (x4 : Int32) (x5 : Int32) (x6 : Int32) : Prop := (x0 ∈ mL S ∧ mK S x0 = 4) ∧ ∃ b2 : Nat, mR S 8 x0 = some b2 ∧ (b2 ∈ mL S ∧ mK S b2 = 6) ∧ wp_Jx4a65c_size_8abf5 z S b2 (fun r6 S4 => (r6 ≤ x6 → (x0 ∈ mL S4 ∧ mK S4 x0 = 4) ∧ wp_X4_giveTariff z S4 x0 x2 x3 (fun S7 => Q x4 S7) X) ∧ (¬ r6 ≤ x6 → (x0 ∈ mL S4 ∧ mK S4 x0 = 4) ∧ ∃ b10 : Nat, mR S4 8 x0 = some b10 ∧ (b10 ∈ mL S4 ∧ mK S4 b10 = 6) ∧ wp_Jx4a65c_get_915e3 z S4 b10 x6 (fun r14 S12 => (r14 ∈ mL S12 ∧ mK S12 r14 = 3) ∧ (x0 ∈ mL S12 ∧ mK S12 x0 = 4) ∧ wp_X4_giveTariff z S12 x0 x2 r14 (fun S16 => (x2 ∈ mL S16 ∧ mK S16 x2 = 2) ∧ ∃ b19 : Nat, mR S16 1 x2 = some b19 ∧ (b19 ∈ mL S16 ∧ mK S16 b19 = 0) ∧ wp_X0_cents z S16 b19 (fun r23 S21 => (x4 = (-1 : Int32) → bk_X4_bestTariff_71 z Q X K20 S21 x0 x2 x3 x6 r23) ∧ (¬ x4 = (-1 : Int32) → (x5 ≤ r23 → bk_X4_bestTariff_79 z Q X K20 S21 x0 x2 x3 x4 x5 x6) ∧ (¬ x5 ≤ r23 → bk_X4_bestTariff_71 z Q X K20 S21 x0 x2 x3 x6 r23))) X) X) X)) X
def lp_X4_bestTariff_20 (z : Nat × Nat) (Q : Int32 → mmS → Prop) (X : String → mmS → Prop) : Nat → mmS → Nat → Nat → Nat → Int32 → Int32 → Int32 → Prop
  | 0 => fun _ _ _ _ _ _ _ => False
  | n + 1 => bk_X4_bestTariff_20 z Q X (lp_X4_bestTariff_20 z Q X n)
def wp_X4_bestTariff (z : Nat × Nat) (S : mmS) (p0 : Nat) (p1 : Int32) (Q : Int32 → mmS → Prop) (X : String → mmS → Prop) : Prop := (p0 ∈ mL S ∧ mK S p0 = 4) ∧ wp_X4_findLine z S p0 p1 (fun r3 S1 => (r3 ∈ mL S1 ∧ mK S1 r3 = 2) ∧ ∃ b5 : Nat, mR S1 2 r3 = some b5 ∧ ∀ v7 : Int32, v7 = (-1 : Int32) → ∀ v8 : Int32, v8 = (0 : Int32) → ∀ v9 : Int32, v9 = (0 : Int32) → ∃ n : Nat, lp_X4_bestTariff_20 z Q X n S1 p0 r3 b5 v7 v8 v9) X
set_option maxHeartbeats 4000000 in
set_option maxRecDepth 100000 in
theorem bw_X4_bestTariff_79 {p : Program} {l : Launch} {e : Env} {s : State} {m : MethodId} {args : Array Value} {below : List Frame} {meth : Method} {c : Code} {g : mG} {Q : Int32 → mmS → Prop} {X : String → mmS → Prop} (hl0 : l.stackTraces = false) (hC : CallFix p m c cX4_bestTariff 8 s args (wA_ yX4_bestTariff cX4_bestTariff 8 (some .int)) RX4) (hrt : meth.sig.returnType = (some .int)) (hlk : meth.locks = false) (hmn : meth.name = yX4_bestTariff.name) (hnx : ∀ x ∈ c.exceptionTable.toList, False) (hs : mX g s) {K20 : mmS → Nat → Nat → Nat → Int32 → Int32 → Int32 → Prop} (hk20 : ∀ (S : mmS) (x0 : Nat) (x2 : Nat) (x3 : Nat) (x4 : Int32) (x5 : Int32) (x6 : Int32), K20 S x0 x2 x3 x4 x5 x6 → ∀ (H : Heap) (locs : List Loc), mH g S s H locs → ∀ ls : Array Slot, lv_has ls 8 [(0, .ref x0), (2, .ref x2), (3, .ref x3), (4, .int x4), (5, .int x5), (6, .int x6)] → W p l e rm_X4_bestTariff s m args below meth c H locs 1 6 (vx_MQ below (va_Qi Q (wO g) (mB g)) (vx_X (fun _ : mmS => True) (fun E S1 t => X E S1 ∧ wO g S1 t) (mB g)) args s rm_X4_bestTariff.cells rm_X4_bestTariff.slots (mB g)) (F0 m 20 ls [])) : ∀ (S : mmS) (x0 : Nat) (x2 : Nat) (x3 : Nat) (x4 : Int32) (x5 : Int32) (x6 : Int32), bk_X4_bestTariff_79 g.2.2.2.2.2 Q X K20 S x0 x2 x3 x4 x5 x6 → ∀ (H : Heap) (locs : List Loc), mH g S s H locs → ∀ ls : Array Slot, lv_has ls 8 [(0, .ref x0), (2, .ref x2), (3, .ref x3), (4, .int x4), (5, .int x5), (6, .int x6)] → W p l e rm_X4_bestTariff s m args below meth c H locs 1 6 (vx_MQ below (va_Qi Q (wO g) (mB g)) (vx_X (fun _ : mmS => True) (fun E S1 t => X E S1 ∧ wO g S1 t) (mB g)) args s rm_X4_bestTariff.cells rm_X4_bestTariff.slots (mB g)) (F0 m 79 ls []) := by
  intro S x0 x2 x3 x4 x5 x6 hw H locs hH ls hl
  unfold bk_X4_bestTariff_79 at hw
  have hw := hw _ rfl
  refine lv_iinc (lv' := [(6, .int _), (0, .ref _), (2, .ref _), (3, .ref _), (4, .int _), (5, .int _)]) hC.1 hC.2.1 dX4_bestTariff_79 hl (k := 5) rfl (rfl : (_ : Int32) + Int32.ofInt 1 = (_ : Int32) + 1) (by decide) rfl (fun ls hl => ?_)
  refine lv_goto (tgt := 20) hC.1 hC.2.1 dX4_bestTariff_82 (by decide) ?_
  exact hk20 _ _ _ _ _ _ _ hw _ _ hH _ (lv_sub hl [1, 2, 3, 4, 5, 0] rfl)
set_option maxHeartbeats 4000000 in
set_option maxRecDepth 100000 in
theorem bw_X4_bestTariff_71 {p : Program} {l : Launch} {e : Env} {s : State} {m : MethodId} {args : Array Value} {below : List Frame} {meth : Method} {c : Code} {g : mG} {Q : Int32 → mmS → Prop} {X : String → mmS → Prop} (hl0 : l.stackTraces = false) (hC : CallFix p m c cX4_bestTariff 8 s args (wA_ yX4_bestTariff cX4_bestTariff 8 (some .int)) RX4) (hrt : meth.sig.returnType = (some .int)) (hlk : meth.locks = false) (hmn : meth.name = yX4_bestTariff.name) (hnx : ∀ x ∈ c.exceptionTable.toList, False) (hs : mX g s) {K20 : mmS → Nat → Nat → Nat → Int32 → Int32 → Int32 → Prop} (hk20 : ∀ (S : mmS) (x0 : Nat) (x2 : Nat) (x3 : Nat) (x4 : Int32) (x5 : Int32) (x6 : Int32), K20 S x0 x2 x3 x4 x5 x6 → ∀ (H : Heap) (locs : List Loc), mH g S s H locs → ∀ ls : Array Slot, lv_has ls 8 [(0, .ref x0), (2, .ref x2), (3, .ref x3), (4, .int x4), (5, .int x5), (6, .int x6)] → W p l e rm_X4_bestTariff s m args below meth c H locs 1 6 (vx_MQ below (va_Qi Q (wO g) (mB g)) (vx_X (fun _ : mmS => True) (fun E S1 t => X E S1 ∧ wO g S1 t) (mB g)) args s rm_X4_bestTariff.cells rm_X4_bestTariff.slots (mB g)) (F0 m 20 ls [])) : ∀ (S : mmS) (x0 : Nat) (x2 : Nat) (x3 : Nat) (x6 : Int32) (x7 : Int32), bk_X4_bestTariff_71 g.2.2.2.2.2 Q X K20 S x0 x2 x3 x6 x7 → ∀ (H : Heap) (locs : List Loc), mH g S s H locs → ∀ ls : Array Slot, lv_has ls 8 [(0, .ref x0), (2, .ref x2), (3, .ref x3), (6, .int x6), (7, .int x7)] → W p l e rm_X4_bestTariff s m args below meth c H locs 1 6 (vx_MQ below (va_Qi Q (wO g) (mB g)) (vx_X (fun _ : mmS => True) (fun E S1 t => X E S1 ∧ wO g S1 t) (mB g)) args s rm_X4_bestTariff.cells rm_X4_bestTariff.slots (mB g)) (F0 m 71 ls []) := by
  intro S x0 x2 x3 x6 x7 hw H locs hH ls hl
  unfold bk_X4_bestTariff_71 at hw
  refine lv_iload hC.1 hC.2.1 dX4_bestTariff_71 (lv_at hl 3 rfl) ?_
  refine lv_istore (lv' := [(4, .int _), (0, .ref _), (2, .ref _), (3, .ref _), (6, .int _), (7, .int _)]) hC.1 hC.2.1 dX4_bestTariff_73 hl (by decide) rfl (fun ls hl => ?_)
  refine lv_iload hC.1 hC.2.1 dX4_bestTariff_75 (lv_at hl 5 rfl) ?_
  refine lv_istore (lv' := [(5, .int _), (4, .int _), (0, .ref _), (2, .ref _), (3, .ref _), (6, .int _), (7, .int _)]) hC.1 hC.2.1 dX4_bestTariff_77 hl (by decide) rfl (fun ls hl => ?_)
  exact bw_X4_bestTariff_79 hl0 hC hrt hlk hmn hnx hs hk20 _ _ _ _ _ _ _ hw _ _ hH _ (lv_sub hl [2, 3, 4, 1, 0, 5] rfl)
set_option maxHeartbeats 4000000 in
set_option maxRecDepth 100000 in
theorem bw_X4_bestTariff_20 {p : Program} {l : Launch} {e : Env} {s : State} {m : MethodId} {args : Array Value} {below : List Frame} {meth : Method} {c : Code} {g : mG} {Q : Int32 → mmS → Prop} {X : String → mmS → Prop} (hl0 : l.stackTraces = false) (hC : CallFix p m c cX4_bestTariff 8 s args (wA_ yX4_bestTariff cX4_bestTariff 8 (some .int)) RX4) (hrt : meth.sig.returnType = (some .int)) (hlk : meth.locks = false) (hmn : meth.name = yX4_bestTariff.name) (hnx : ∀ x ∈ c.exceptionTable.toList, False) (hs : mX g s) {K20 : mmS → Nat → Nat → Nat → Int32 → Int32 → Int32 → Prop} (hk20 : ∀ (S : mmS) (x0 : Nat) (x2 : Nat) (x3 : Nat) (x4 : Int32) (x5 : Int32) (x6 : Int32), K20 S x0 x2 x3 x4 x5 x6 → ∀ (H : Heap) (locs : List Loc), mH g S s H locs → ∀ ls : Array Slot, lv_has ls 8 [(0, .ref x0), (2, .ref x2), (3, .ref x3), (4, .int x4), (5, .int x5), (6, .int x6)] → W p l e rm_X4_bestTariff s m args below meth c H locs 1 6 (vx_MQ below (va_Qi Q (wO g) (mB g)) (vx_X (fun _ : mmS => True) (fun E S1 t => X E S1 ∧ wO g S1 t) (mB g)) args s rm_X4_bestTariff.cells rm_X4_bestTariff.slots (mB g)) (F0 m 20 ls [])) : ∀ (S : mmS) (x0 : Nat) (x2 : Nat) (x3 : Nat) (x4 : Int32) (x5 : Int32) (x6 : Int32), bk_X4_bestTariff_20 g.2.2.2.2.2 Q X K20 S x0 x2 x3 x4 x5 x6 → ∀ (H : Heap) (locs : List Loc), mH g S s H locs → ∀ ls : Array Slot, lv_has ls 8 [(0, .ref x0), (2, .ref x2), (3, .ref x3), (4, .int x4), (5, .int x5), (6, .int x6)] → W p l e rm_X4_bestTariff s m args below meth c H locs 1 6 (vx_MQ below (va_Qi Q (wO g) (mB g)) (vx_X (fun _ : mmS => True) (fun E S1 t => X E S1 ∧ wO g S1 t) (mB g)) args s rm_X4_bestTariff.cells rm_X4_bestTariff.slots (mB g)) (F0 m 20 ls []) := by
  intro S x0 x2 x3 x4 x5 x6 hw H locs hH ls hl
  unfold bk_X4_bestTariff_20 at hw
  refine lv_iload hC.1 hC.2.1 dX4_bestTariff_20 (lv_at hl 5 rfl) ?_
  refine lv_aload_n hC.1 hC.2.1 dX4_bestTariff_22 rfl (lv_at hl 0 rfl) ?_
  obtain ⟨k1, hw⟩ := hw
  obtain ⟨b2, r3, hw⟩ := hw
  refine m_getR hC hs hH cs4 fs4_0 (fun _ h => List.mem_cons_of_mem _ (inlX4 _ h)) (List.mem_cons_of_mem _ q_16) (fun _ h => h) k1 r3 dX4_bestTariff_23 ?_
  obtain ⟨k5, hw⟩ := hw
  refine m_callVi (y := yJx4a65c_size_8abf5) (rest := [.int _]) hC hs hH hl.1 (cwV 0 hC.2.2.2.2 (gA_V q_80 q_81 q_82 q_15 q_83) rfl rfl rfl (by decide +kernel) ⟨Nat.le_of_ble_eq_true rfl, Nat.le_of_ble_eq_true rfl⟩) cs6 k5 (met_Jx4a65c_size_8abf5 l hl0 g _ _ _ _ hw) rfl rfl (Nat.le_of_ble_eq_true rfl) dX4_bestTariff_26 ⟨Nat.le_of_ble_eq_true rfl, Nat.le_of_ble_eq_true rfl⟩ (m_out (fun x hx => (hnx x hx).elim) hlk (Nat.le_of_ble_eq_true rfl) (Nat.le_of_ble_eq_true rfl)) (fun r6 S1 H locs hw hH => ?_)
  refine W.widen (k := 1) (n := 6) (Nat.le_of_ble_eq_true rfl) (Nat.le_of_ble_eq_true rfl) ?_
  refine lv_icmp_ge (tgt := 85) hC.1 hC.2.1 dX4_bestTariff_29 (by decide) (fun hc => ?_) (fun hc => ?_)
  · have hw := hw.1 hc
    refine lv_aload_n hC.1 hC.2.1 dX4_bestTariff_85 rfl (lv_at hl 0 rfl) ?_
    refine lv_aload_n hC.1 hC.2.1 dX4_bestTariff_86 rfl (lv_at hl 1 rfl) ?_
    refine lv_aload_n hC.1 hC.2.1 dX4_bestTariff_87 rfl (lv_at hl 2 rfl) ?_
    obtain ⟨k8, hw⟩ := hw
    refine m_callVv (y := yX4_giveTariff) (rest := []) hC hs hH hl.1 (cwV 2 hC.2.2.2.2 (gA_V q_380 q_381 q_382 q_2 q_383) rfl rfl rfl (by decide +kernel) ⟨Nat.le_of_ble_eq_true rfl, Nat.le_of_ble_eq_true rfl⟩) cs4 k8 (met_X4_giveTariff l hl0 g _ _ _ _ _ _ hw) rfl rfl (Nat.le_of_ble_eq_true rfl) dX4_bestTariff_88 ⟨Nat.le_of_ble_eq_true rfl, Nat.le_of_ble_eq_true rfl⟩ (m_out (fun x hx => (hnx x hx).elim) hlk (Nat.le_of_ble_eq_true rfl) (Nat.le_of_ble_eq_true rfl)) (fun S1 H locs hw hH => ?_)
    refine W.widen (k := 1) (n := 6) (Nat.le_of_ble_eq_true rfl) (Nat.le_of_ble_eq_true rfl) ?_
    refine lv_iload hC.1 hC.2.1 dX4_bestTariff_91 (lv_at hl 3 rfl) ?_
    exact m_reti hC hH hrt rfl hlk (Nat.le_of_ble_eq_true rfl) (Nat.le_of_ble_eq_true rfl) dX4_bestTariff_93 hw
  · have hw := hw.2 hc
    refine lv_aload_n hC.1 hC.2.1 dX4_bestTariff_32 rfl (lv_at hl 0 rfl) ?_
    refine lv_aload_n hC.1 hC.2.1 dX4_bestTariff_33 rfl (lv_at hl 1 rfl) ?_
    refine lv_aload_n hC.1 hC.2.1 dX4_bestTariff_34 rfl (lv_at hl 0 rfl) ?_
    obtain ⟨k9, hw⟩ := hw
    obtain ⟨b10, r11, hw⟩ := hw
    refine m_getR hC hs hH cs4 fs4_0 (fun _ h => List.mem_cons_of_mem _ (inlX4 _ h)) (List.mem_cons_of_mem _ q_16) (fun _ h => h) k9 r11 dX4_bestTariff_35 ?_
    refine lv_iload hC.1 hC.2.1 dX4_bestTariff_38 (lv_at hl 5 rfl) ?_
    obtain ⟨k13, hw⟩ := hw
    refine m_callVq (y := yJx4a65c_get_915e3) (rest := [.ref _, .ref _]) hC hs hH hl.1 (cwV 1 hC.2.2.2.2 (gA_V q_184 q_185 q_186 q_15 q_187) rfl rfl rfl (by decide +kernel) ⟨Nat.le_of_ble_eq_true rfl, Nat.le_of_ble_eq_true rfl⟩) cs6 k13 (met_Jx4a65c_get_915e3 l hl0 g _ _ _ _ _ hw) rfl rfl (Nat.le_of_ble_eq_true rfl) dX4_bestTariff_40 ⟨Nat.le_of_ble_eq_true rfl, Nat.le_of_ble_eq_true rfl⟩ (m_out (fun x hx => (hnx x hx).elim) hlk (Nat.le_of_ble_eq_true rfl) (Nat.le_of_ble_eq_true rfl)) (fun r14 S1 H locs hw hH => ?_)
    refine W.widen (k := 1) (n := 6) (Nat.le_of_ble_eq_true rfl) (Nat.le_of_ble_eq_true rfl) ?_
    obtain ⟨k15, hw⟩ := hw
    refine m_cast hC hs hH cs3 (List.mem_cons_of_mem _ q_71) k15 dX4_bestTariff_43 ?_
    obtain ⟨k17, hw⟩ := hw
    refine m_callVv (y := yX4_giveTariff) (rest := []) hC hs hH hl.1 (cwV 2 hC.2.2.2.2 (gA_V q_380 q_381 q_382 q_2 q_383) rfl rfl rfl (by decide +kernel) ⟨Nat.le_of_ble_eq_true rfl, Nat.le_of_ble_eq_true rfl⟩) cs4 k17 (met_X4_giveTariff l hl0 g _ _ _ _ _ _ hw) rfl rfl (Nat.le_of_ble_eq_true rfl) dX4_bestTariff_46 ⟨Nat.le_of_ble_eq_true rfl, Nat.le_of_ble_eq_true rfl⟩ (m_out (fun x hx => (hnx x hx).elim) hlk (Nat.le_of_ble_eq_true rfl) (Nat.le_of_ble_eq_true rfl)) (fun S1 H locs hw hH => ?_)
    refine W.widen (k := 1) (n := 6) (Nat.le_of_ble_eq_true rfl) (Nat.le_of_ble_eq_true rfl) ?_
    refine lv_aload_n hC.1 hC.2.1 dX4_bestTariff_49 rfl (lv_at hl 1 rfl) ?_
    obtain ⟨k18, hw⟩ := hw
    obtain ⟨b19, r20, hw⟩ := hw
    refine m_getR hC hs hH cs2 fs2_0 (fun _ h => List.mem_cons_of_mem _ (inlX2 _ h)) (List.mem_cons_of_mem _ q_245) (fun _ h => h) k18 r20 dX4_bestTariff_50 ?_
    obtain ⟨k22, hw⟩ := hw
    refine m_callVi (y := yX0_cents) (rest := []) hC hs hH hl.1 (cwV 0 hC.2.2.2.2 (gA_V q_587 q_588 q_589 q_214 q_590) rfl rfl rfl (by decide +kernel) ⟨Nat.le_of_ble_eq_true rfl, Nat.le_of_ble_eq_true rfl⟩) cs0 k22 (met_X0_cents l hl0 g _ _ _ _ hw) rfl rfl (Nat.le_of_ble_eq_true rfl) dX4_bestTariff_53 ⟨Nat.le_of_ble_eq_true rfl, Nat.le_of_ble_eq_true rfl⟩ (m_out (fun x hx => (hnx x hx).elim) hlk (Nat.le_of_ble_eq_true rfl) (Nat.le_of_ble_eq_true rfl)) (fun r23 S1 H locs hw hH => ?_)
    refine W.widen (k := 1) (n := 6) (Nat.le_of_ble_eq_true rfl) (Nat.le_of_ble_eq_true rfl) ?_
    refine lv_istore (lv' := [(7, .int _), (0, .ref _), (2, .ref _), (3, .ref _), (4, .int _), (5, .int _), (6, .int _)]) hC.1 hC.2.1 dX4_bestTariff_56 hl (by decide) rfl (fun ls hl => ?_)
    refine lv_iload hC.1 hC.2.1 dX4_bestTariff_58 (lv_at hl 4 rfl) ?_
    refine lv_iconst (v := (-1)) hC.1 hC.2.1 dX4_bestTariff_60 (by decide) ?_
    refine lv_icmp_eq (tgt := 71) hC.1 hC.2.1 dX4_bestTariff_61 (by decide) (fun hc => ?_) (fun hc => ?_)
    · have hw := hw.1 hc
      exact bw_X4_bestTariff_71 hl0 hC hrt hlk hmn hnx hs hk20 _ _ _ _ _ _ hw _ _ hH _ (lv_sub hl [1, 2, 3, 6, 0] rfl)
    · have hw := hw.2 hc
      refine lv_iload hC.1 hC.2.1 dX4_bestTariff_64 (lv_at hl 0 rfl) ?_
      refine lv_iload hC.1 hC.2.1 dX4_bestTariff_66 (lv_at hl 5 rfl) ?_
      refine lv_icmp_ge (tgt := 79) hC.1 hC.2.1 dX4_bestTariff_68 (by decide) (fun hc => ?_) (fun hc => ?_)
      · have hw := hw.1 hc
        exact bw_X4_bestTariff_79 hl0 hC hrt hlk hmn hnx hs hk20 _ _ _ _ _ _ _ hw _ _ hH _ (lv_sub hl [1, 2, 3, 4, 5, 6] rfl)
      · have hw := hw.2 hc
        exact bw_X4_bestTariff_71 hl0 hC hrt hlk hmn hnx hs hk20 _ _ _ _ _ _ hw _ _ hH _ (lv_sub hl [1, 2, 3, 6, 0] rfl)
theorem lw_X4_bestTariff_20 {p : Program} {l : Launch} {e : Env} {s : State} {m : MethodId} {args : Array Value} {below : List Frame} {meth : Method} {c : Code} {g : mG} {Q : Int32 → mmS → Prop} {X : String → mmS → Prop} (hl0 : l.stackTraces = false) (hC : CallFix p m c cX4_bestTariff 8 s args (wA_ yX4_bestTariff cX4_bestTariff 8 (some .int)) RX4) (hrt : meth.sig.returnType = (some .int)) (hlk : meth.locks = false) (hmn : meth.name = yX4_bestTariff.name) (hnx : ∀ x ∈ c.exceptionTable.toList, False) (hs : mX g s) : ∀ (n : Nat) (S : mmS) (x0 : Nat) (x2 : Nat) (x3 : Nat) (x4 : Int32) (x5 : Int32) (x6 : Int32), lp_X4_bestTariff_20 g.2.2.2.2.2 Q X n S x0 x2 x3 x4 x5 x6 → ∀ (H : Heap) (locs : List Loc), mH g S s H locs → ∀ ls : Array Slot, lv_has ls 8 [(0, .ref x0), (2, .ref x2), (3, .ref x3), (4, .int x4), (5, .int x5), (6, .int x6)] → W p l e rm_X4_bestTariff s m args below meth c H locs 1 6 (vx_MQ below (va_Qi Q (wO g) (mB g)) (vx_X (fun _ : mmS => True) (fun E S1 t => X E S1 ∧ wO g S1 t) (mB g)) args s rm_X4_bestTariff.cells rm_X4_bestTariff.slots (mB g)) (F0 m 20 ls []) := by
  intro n
  induction n with
  | zero => intro S x0 x2 x3 x4 x5 x6 hw; exact False.elim hw
  | succ n ih => exact fun S x0 x2 x3 x4 x5 x6 hw => bw_X4_bestTariff_20 hl0 hC hrt hlk hmn hnx hs (K20 := lp_X4_bestTariff_20 g.2.2.2.2.2 Q X n) ih S x0 x2 x3 x4 x5 x6 hw
set_option maxHeartbeats 4000000 in
set_option maxRecDepth 100000 in
theorem met_X4_bestTariff (l : Launch) (hl0 : l.stackTraces = false) (g : mG) (S : mmS) (p0 : Nat) (p1 : Int32) (Q : Int32 → mmS → Prop) (X : String → mmS → Prop) (hw : wp_X4_bestTariff g.2.2.2.2.2 S p0 p1 Q X) : mMi l g yX4_bestTariff (wA_ yX4_bestTariff cX4_bestTariff 8 (some .int)) rm_X4_bestTariff [.ref p0, .int p1] S Q X := by
  refine m_of (y := yX4_bestTariff) (cc := cX4_bestTariff) (maxL := 8) (ret := (some .int)) (by decide) rfl (Nat.le_of_ble_eq_true rfl) ?_
  intro p e s m args below meth c ls hC hrt hlk hmn hnx hs hH hl
  have hC : CallFix p m c cX4_bestTariff 8 s args (wA_ yX4_bestTariff cX4_bestTariff 8 (some .int)) RX4 := hC
  have hl : lv_has ls 8 [(0, .ref p0), (1, .int p1)] := hl
  unfold wp_X4_bestTariff at hw
  refine lv_aload_n hC.1 hC.2.1 dX4_bestTariff_0 rfl (lv_at hl 0 rfl) ?_
  refine lv_iload_n hC.1 hC.2.1 dX4_bestTariff_1 rfl (lv_at hl 1 rfl) ?_
  obtain ⟨k2, hw⟩ := hw
  refine m_callVq (y := yX4_findLine) (rest := []) hC hs hH hl.1 (cwV 1 hC.2.2.2.2 (gA_V q_376 q_377 q_378 q_2 q_379) rfl rfl rfl (by decide +kernel) ⟨Nat.le_of_ble_eq_true rfl, Nat.le_of_ble_eq_true rfl⟩) cs4 k2 (met_X4_findLine l hl0 g _ _ _ _ _ hw) rfl rfl (Nat.le_of_ble_eq_true rfl) dX4_bestTariff_2 ⟨Nat.le_of_ble_eq_true rfl, Nat.le_of_ble_eq_true rfl⟩ (m_out (fun x hx => (hnx x hx).elim) hlk (Nat.le_of_ble_eq_true rfl) (Nat.le_of_ble_eq_true rfl)) (fun r3 S1 H locs hw hH => ?_)
  refine W.widen (k := 1) (n := 6) (Nat.le_of_ble_eq_true rfl) (Nat.le_of_ble_eq_true rfl) ?_
  refine lv_astore_n (lv' := [(2, .ref _), (0, .ref _), (1, .int _)]) hC.1 hC.2.1 dX4_bestTariff_5 rfl hl (by decide) rfl (fun ls hl => ?_)
  refine lv_aload_n hC.1 hC.2.1 dX4_bestTariff_6 rfl (lv_at hl 0 rfl) ?_
  obtain ⟨k4, hw⟩ := hw
  obtain ⟨b5, r6, hw⟩ := hw
  refine m_getR hC hs hH cs2 fs2_1 (fun _ h => List.mem_cons_of_mem _ (inlX2 _ h)) (List.mem_cons_of_mem _ q_242) (fun _ h => h) k4 r6 dX4_bestTariff_7 ?_
  refine lv_astore_n (lv' := [(3, .ref _), (2, .ref _), (0, .ref _), (1, .int _)]) hC.1 hC.2.1 dX4_bestTariff_10 rfl hl (by decide) rfl (fun ls hl => ?_)
  refine lv_iconst (v := (-1)) hC.1 hC.2.1 dX4_bestTariff_11 (by decide) ?_
  have hw := hw _ rfl
  refine lv_istore (lv' := [(4, .int _), (3, .ref _), (2, .ref _), (0, .ref _), (1, .int _)]) hC.1 hC.2.1 dX4_bestTariff_12 hl (by decide) rfl (fun ls hl => ?_)
  refine lv_iconst (v := 0) hC.1 hC.2.1 dX4_bestTariff_14 (by decide) ?_
  have hw := hw _ rfl
  refine lv_istore (lv' := [(5, .int _), (4, .int _), (3, .ref _), (2, .ref _), (0, .ref _), (1, .int _)]) hC.1 hC.2.1 dX4_bestTariff_15 hl (by decide) rfl (fun ls hl => ?_)
  refine lv_iconst (v := 0) hC.1 hC.2.1 dX4_bestTariff_17 (by decide) ?_
  have hw := hw _ rfl
  refine lv_istore (lv' := [(6, .int _), (5, .int _), (4, .int _), (3, .ref _), (2, .ref _), (0, .ref _), (1, .int _)]) hC.1 hC.2.1 dX4_bestTariff_18 hl (by decide) rfl (fun ls hl => ?_)
  obtain ⟨n, hw⟩ := hw
  exact lw_X4_bestTariff_20 hl0 hC hrt hlk hmn hnx hs n _ _ _ _ _ _ _ hw _ _ hH _ (lv_sub hl [5, 4, 3, 2, 1, 0] rfl)
abbrev rm_X4_freeShare : Room := { frames := 4, cells := 0, slots := 0, locals := 64 }
def bk_X4_freeShare_6 (z : Nat × Nat) (Q : UInt64 → mmS → Prop) (X : String → mmS → Prop) (K6 : mmS → Nat → Int32 → Int32 → Int32 → Prop) (S : mmS) (x0 : Nat) (x1 : Int32) (x2 : Int32) (x3 : Int32) : Prop := (x0 ∈ mL S ∧ mK S x0 = 4) ∧ ∃ b2 : Nat, mR S 11 x0 = some b2 ∧ (b2 ∈ mL S ∧ mK S b2 = 6) ∧ wp_Jx4a65c_size_8abf5 z S b2 (fun r6 S4 => (r6 ≤ x3 → (¬ x2 = 0 → vf_n64 (FP.ddiv (FP.i2d x1) (FP.i2d x2)) ∧ Q (FP.ddiv (FP.i2d x1) (FP.i2d x2)) S4) ∧ (x2 = 0 → Q (FP.dconst0) S4)) ∧ (¬ r6 ≤ x3 → (x0 ∈ mL S4 ∧ mK S4 x0 = 4) ∧ ∃ b9 : Nat, mR S4 11 x0 = some b9 ∧ (b9 ∈ mL S4 ∧ mK S4 b9 = 6) ∧ wp_Jx4a65c_get_915e3 z S4 b9 x3 (fun r13 S11 => (r13 ∈ mL S11 ∧ mK S11 r13 = 1) ∧ ∀ v15 : Int32, v15 = (x1 + (mI S11 11 r13)) → ∀ v16 : Int32, v16 = (x2 + (mI S11 10 r13)) → ∀ v17 : Int32, v17 = x3 + 1 → K6 S11 x0 v15 v16 v17) X)) X
def lp_X4_freeShare_6 (z : Nat × Nat) (Q : UInt64 → mmS → Prop) (X : String → mmS → Prop) : Nat → mmS → Nat → Int32 → Int32 → Int32 → Prop
  | 0 => fun _ _ _ _ _ => False
  | n + 1 => bk_X4_freeShare_6 z Q X (lp_X4_freeShare_6 z Q X n)
def wp_X4_freeShare (z : Nat × Nat) (S : mmS) (p0 : Nat) (Q : UInt64 → mmS → Prop) (X : String → mmS → Prop) : Prop := ∀ v1 : Int32, v1 = (0 : Int32) → ∀ v2 : Int32, v2 = (0 : Int32) → ∀ v3 : Int32, v3 = (0 : Int32) → ∃ n : Nat, lp_X4_freeShare_6 z Q X n S p0 v1 v2 v3
set_option maxHeartbeats 4000000 in
set_option maxRecDepth 100000 in
theorem bw_X4_freeShare_6 {p : Program} {l : Launch} {e : Env} {s : State} {m : MethodId} {args : Array Value} {below : List Frame} {meth : Method} {c : Code} {g : mG} {Q : UInt64 → mmS → Prop} {X : String → mmS → Prop} (hl0 : l.stackTraces = false) (hC : CallFix p m c cX4_freeShare 5 s args (wA_ yX4_freeShare cX4_freeShare 5 (some .double)) RX4) (hrt : meth.sig.returnType = (some .double)) (hlk : meth.locks = false) (hmn : meth.name = yX4_freeShare.name) (hnx : ∀ x ∈ c.exceptionTable.toList, False) (hs : mX g s) {K6 : mmS → Nat → Int32 → Int32 → Int32 → Prop} (hk6 : ∀ (S : mmS) (x0 : Nat) (x1 : Int32) (x2 : Int32) (x3 : Int32), K6 S x0 x1 x2 x3 → ∀ (H : Heap) (locs : List Loc), mH g S s H locs → ∀ ls : Array Slot, lv_has ls 5 [(0, .ref x0), (1, .int x1), (2, .int x2), (3, .int x3)] → W p l e rm_X4_freeShare s m args below meth c H locs 0 0 (vx_MQ below (va_Qd Q (wO g) (mB g)) (vx_X (fun _ : mmS => True) (fun E S1 t => X E S1 ∧ wO g S1 t) (mB g)) args s rm_X4_freeShare.cells rm_X4_freeShare.slots (mB g)) (F0 m 6 ls [])) : ∀ (S : mmS) (x0 : Nat) (x1 : Int32) (x2 : Int32) (x3 : Int32), bk_X4_freeShare_6 g.2.2.2.2.2 Q X K6 S x0 x1 x2 x3 → ∀ (H : Heap) (locs : List Loc), mH g S s H locs → ∀ ls : Array Slot, lv_has ls 5 [(0, .ref x0), (1, .int x1), (2, .int x2), (3, .int x3)] → W p l e rm_X4_freeShare s m args below meth c H locs 0 0 (vx_MQ below (va_Qd Q (wO g) (mB g)) (vx_X (fun _ : mmS => True) (fun E S1 t => X E S1 ∧ wO g S1 t) (mB g)) args s rm_X4_freeShare.cells rm_X4_freeShare.slots (mB g)) (F0 m 6 ls []) := by
  intro S x0 x1 x2 x3 hw H locs hH ls hl
  unfold bk_X4_freeShare_6 at hw
  refine lv_iload_n hC.1 hC.2.1 dX4_freeShare_6 rfl (lv_at hl 3 rfl) ?_
  refine lv_aload_n hC.1 hC.2.1 dX4_freeShare_7 rfl (lv_at hl 0 rfl) ?_
  obtain ⟨k1, hw⟩ := hw
  obtain ⟨b2, r3, hw⟩ := hw
  refine m_getR hC hs hH cs4 fs4_3 (fun _ h => List.mem_cons_of_mem _ (inlX4 _ h)) (List.mem_cons_of_mem _ q_19) (fun _ h => h) k1 r3 dX4_freeShare_8 ?_
  obtain ⟨k5, hw⟩ := hw
  refine m_callVi (y := yJx4a65c_size_8abf5) (rest := [.int _]) hC hs hH hl.1 (cwV 0 hC.2.2.2.2 (gA_V q_80 q_81 q_82 q_15 q_83) rfl rfl rfl (by decide +kernel) ⟨Nat.le_of_ble_eq_true rfl, Nat.le_of_ble_eq_true rfl⟩) cs6 k5 (met_Jx4a65c_size_8abf5 l hl0 g _ _ _ _ hw) rfl rfl (Nat.le_of_ble_eq_true rfl) dX4_freeShare_11 ⟨Nat.le_of_ble_eq_true rfl, Nat.le_of_ble_eq_true rfl⟩ (m_out (fun x hx => (hnx x hx).elim) hlk (Nat.le_of_ble_eq_true rfl) (Nat.le_of_ble_eq_true rfl)) (fun r6 S1 H locs hw hH => ?_)
  refine W.widen (k := 0) (n := 0) (Nat.le_of_ble_eq_true rfl) (Nat.le_of_ble_eq_true rfl) ?_
  refine lv_icmp_ge (tgt := 52) hC.1 hC.2.1 dX4_freeShare_14 (by decide) (fun hc => ?_) (fun hc => ?_)
  · have hw := hw.1 hc
    refine lv_iload_n hC.1 hC.2.1 dX4_freeShare_52 rfl (lv_at hl 2 rfl) ?_
    refine lv_if_ne (tgt := 58) hC.1 hC.2.1 dX4_freeShare_53 (by decide) (fun hc => ?_) (fun hc => ?_)
    · have hw := hw.1 hc
      refine lv_iload_n hC.1 hC.2.1 dX4_freeShare_58 rfl (lv_at hl 1 rfl) ?_
      refine lv_i2d hC.1 hC.2.1 dX4_freeShare_59 ?_
      refine lv_iload_n hC.1 hC.2.1 dX4_freeShare_60 rfl (lv_at hl 2 rfl) ?_
      refine lv_i2d hC.1 hC.2.1 dX4_freeShare_61 ?_
      obtain ⟨z7, hw⟩ := hw
      refine lv_ddiv hC.1 hC.2.1 dX4_freeShare_62 z7 ?_
      exact m_retd hC hH hrt hlk (Nat.le_of_ble_eq_true rfl) (Nat.le_of_ble_eq_true rfl) dX4_freeShare_63 hw
    · have hw := hw.2 hc
      refine lv_dconst0 hC.1 hC.2.1 dX4_freeShare_56 ?_
      exact m_retd hC hH hrt hlk (Nat.le_of_ble_eq_true rfl) (Nat.le_of_ble_eq_true rfl) dX4_freeShare_57 hw
  · have hw := hw.2 hc
    refine lv_aload_n hC.1 hC.2.1 dX4_freeShare_17 rfl (lv_at hl 0 rfl) ?_
    obtain ⟨k8, hw⟩ := hw
    obtain ⟨b9, r10, hw⟩ := hw
    refine m_getR hC hs hH cs4 fs4_3 (fun _ h => List.mem_cons_of_mem _ (inlX4 _ h)) (List.mem_cons_of_mem _ q_19) (fun _ h => h) k8 r10 dX4_freeShare_18 ?_
    refine lv_iload_n hC.1 hC.2.1 dX4_freeShare_21 rfl (lv_at hl 3 rfl) ?_
    obtain ⟨k12, hw⟩ := hw
    refine m_callVq (y := yJx4a65c_get_915e3) (rest := []) hC hs hH hl.1 (cwV 1 hC.2.2.2.2 (gA_V q_184 q_185 q_186 q_15 q_187) rfl rfl rfl (by decide +kernel) ⟨Nat.le_of_ble_eq_true rfl, Nat.le_of_ble_eq_true rfl⟩) cs6 k12 (met_Jx4a65c_get_915e3 l hl0 g _ _ _ _ _ hw) rfl rfl (Nat.le_of_ble_eq_true rfl) dX4_freeShare_22 ⟨Nat.le_of_ble_eq_true rfl, Nat.le_of_ble_eq_true rfl⟩ (m_out (fun x hx => (hnx x hx).elim) hlk (Nat.le_of_ble_eq_true rfl) (Nat.le_of_ble_eq_true rfl)) (fun r13 S1 H locs hw hH => ?_)
    refine W.widen (k := 0) (n := 0) (Nat.le_of_ble_eq_true rfl) (Nat.le_of_ble_eq_true rfl) ?_
    obtain ⟨k14, hw⟩ := hw
    refine m_cast hC hs hH cs1 (List.mem_cons_of_mem _ q_209) k14 dX4_freeShare_25 ?_
    refine lv_astore (lv' := [(4, .ref _), (0, .ref _), (1, .int _), (2, .int _), (3, .int _)]) hC.1 hC.2.1 dX4_freeShare_28 hl (by decide) rfl (fun ls hl => ?_)
    refine lv_iload_n hC.1 hC.2.1 dX4_freeShare_30 rfl (lv_at hl 2 rfl) ?_
    refine lv_aload hC.1 hC.2.1 dX4_freeShare_31 (lv_at hl 0 rfl) ?_
    refine m_getI hC hs hH cs1 fs1_6 (fun _ h => List.mem_cons_of_mem _ (inlX1 _ h)) (List.mem_cons_of_mem _ q_246) (fun _ h => h) k14 dX4_freeShare_33 ?_
    refine lv_iadd hC.1 hC.2.1 dX4_freeShare_36 ?_
    have hw := hw _ rfl
    refine lv_istore_n (lv' := [(1, .int _), (4, .ref _), (0, .ref _), (2, .int _), (3, .int _)]) hC.1 hC.2.1 dX4_freeShare_37 rfl hl (by decide) rfl (fun ls hl => ?_)
    refine lv_iload_n hC.1 hC.2.1 dX4_freeShare_38 rfl (lv_at hl 3 rfl) ?_
    refine lv_aload hC.1 hC.2.1 dX4_freeShare_39 (lv_at hl 1 rfl) ?_
    refine m_getI hC hs hH cs1 fs1_5 (fun _ h => List.mem_cons_of_mem _ (inlX1 _ h)) (List.mem_cons_of_mem _ q_243) (fun _ h => h) k14 dX4_freeShare_41 ?_
    refine lv_iadd hC.1 hC.2.1 dX4_freeShare_44 ?_
    have hw := hw _ rfl
    refine lv_istore_n (lv' := [(2, .int _), (1, .int _), (4, .ref _), (0, .ref _), (3, .int _)]) hC.1 hC.2.1 dX4_freeShare_45 rfl hl (by decide) rfl (fun ls hl => ?_)
    have hw := hw _ rfl
    refine lv_iinc (lv' := [(3, .int _), (2, .int _), (1, .int _), (4, .ref _), (0, .ref _)]) hC.1 hC.2.1 dX4_freeShare_46 hl (k := 4) rfl (rfl : (_ : Int32) + Int32.ofInt 1 = (_ : Int32) + 1) (by decide) rfl (fun ls hl => ?_)
    refine lv_goto (tgt := 6) hC.1 hC.2.1 dX4_freeShare_49 (by decide) ?_
    exact hk6 _ _ _ _ _ hw _ _ hH _ (lv_sub hl [4, 2, 1, 0] rfl)
theorem lw_X4_freeShare_6 {p : Program} {l : Launch} {e : Env} {s : State} {m : MethodId} {args : Array Value} {below : List Frame} {meth : Method} {c : Code} {g : mG} {Q : UInt64 → mmS → Prop} {X : String → mmS → Prop} (hl0 : l.stackTraces = false) (hC : CallFix p m c cX4_freeShare 5 s args (wA_ yX4_freeShare cX4_freeShare 5 (some .double)) RX4) (hrt : meth.sig.returnType = (some .double)) (hlk : meth.locks = false) (hmn : meth.name = yX4_freeShare.name) (hnx : ∀ x ∈ c.exceptionTable.toList, False) (hs : mX g s) : ∀ (n : Nat) (S : mmS) (x0 : Nat) (x1 : Int32) (x2 : Int32) (x3 : Int32), lp_X4_freeShare_6 g.2.2.2.2.2 Q X n S x0 x1 x2 x3 → ∀ (H : Heap) (locs : List Loc), mH g S s H locs → ∀ ls : Array Slot, lv_has ls 5 [(0, .ref x0), (1, .int x1), (2, .int x2), (3, .int x3)] → W p l e rm_X4_freeShare s m args below meth c H locs 0 0 (vx_MQ below (va_Qd Q (wO g) (mB g)) (vx_X (fun _ : mmS => True) (fun E S1 t => X E S1 ∧ wO g S1 t) (mB g)) args s rm_X4_freeShare.cells rm_X4_freeShare.slots (mB g)) (F0 m 6 ls []) := by
  intro n
  induction n with
  | zero => intro S x0 x1 x2 x3 hw; exact False.elim hw
  | succ n ih => exact fun S x0 x1 x2 x3 hw => bw_X4_freeShare_6 hl0 hC hrt hlk hmn hnx hs (K6 := lp_X4_freeShare_6 g.2.2.2.2.2 Q X n) ih S x0 x1 x2 x3 hw
set_option maxHeartbeats 4000000 in
set_option maxRecDepth 100000 in
theorem met_X4_freeShare (l : Launch) (hl0 : l.stackTraces = false) (g : mG) (S : mmS) (p0 : Nat) (Q : UInt64 → mmS → Prop) (X : String → mmS → Prop) (hw : wp_X4_freeShare g.2.2.2.2.2 S p0 Q X) : mMd l g yX4_freeShare (wA_ yX4_freeShare cX4_freeShare 5 (some .double)) rm_X4_freeShare [.ref p0] S Q X := by
  refine m_of (y := yX4_freeShare) (cc := cX4_freeShare) (maxL := 5) (ret := (some .double)) (by decide) rfl (Nat.le_of_ble_eq_true rfl) ?_
  intro p e s m args below meth c ls hC hrt hlk hmn hnx hs hH hl
  have hC : CallFix p m c cX4_freeShare 5 s args (wA_ yX4_freeShare cX4_freeShare 5 (some .double)) RX4 := hC
  have hl : lv_has ls 5 [(0, .ref p0)] := hl
  unfold wp_X4_freeShare at hw
  refine lv_iconst (v := 0) hC.1 hC.2.1 dX4_freeShare_0 (by decide) ?_
  have hw := hw _ rfl
  refine lv_istore_n (lv' := [(1, .int _), (0, .ref _)]) hC.1 hC.2.1 dX4_freeShare_1 rfl hl (by decide) rfl (fun ls hl => ?_)
  refine lv_iconst (v := 0) hC.1 hC.2.1 dX4_freeShare_2 (by decide) ?_
  have hw := hw _ rfl
  refine lv_istore_n (lv' := [(2, .int _), (1, .int _), (0, .ref _)]) hC.1 hC.2.1 dX4_freeShare_3 rfl hl (by decide) rfl (fun ls hl => ?_)
  refine lv_iconst (v := 0) hC.1 hC.2.1 dX4_freeShare_4 (by decide) ?_
  have hw := hw _ rfl
  refine lv_istore_n (lv' := [(3, .int _), (2, .int _), (1, .int _), (0, .ref _)]) hC.1 hC.2.1 dX4_freeShare_5 rfl hl (by decide) rfl (fun ls hl => ?_)
  obtain ⟨n, hw⟩ := hw
  exact lw_X4_freeShare_6 hl0 hC hrt hlk hmn hnx hs n _ _ _ _ _ hw _ _ hH _ (lv_sub hl [3, 2, 1, 0] rfl)
abbrev rm_X4_mix : Room := { frames := 1, cells := 0, slots := 0, locals := 0 }
def wp_X4_mix (z : Nat × Nat) (S : mmS) (p0 : Int64) (p1 : Int32) (Q : Int64 → mmS → Prop) (X : String → mmS → Prop) : Prop := Q ((p0 * (31 : Int64)) + (Int32.toInt64 p1)) S
set_option maxHeartbeats 4000000 in
set_option maxRecDepth 100000 in
theorem met_X4_mix (l : Launch) (hl0 : l.stackTraces = false) (g : mG) (S : mmS) (p0 : Int64) (p1 : Int32) (Q : Int64 → mmS → Prop) (X : String → mmS → Prop) (hw : wp_X4_mix g.2.2.2.2.2 S p0 p1 Q X) : mMl l g yX4_mix (wA_ yX4_mix cX4_mix 3 (some .long)) rm_X4_mix [.long p0, .int p1] S Q X := by
  refine m_of (y := yX4_mix) (cc := cX4_mix) (maxL := 3) (ret := (some .long)) (by decide) rfl (Nat.le_of_ble_eq_true rfl) ?_
  intro p e s m args below meth c ls hC hrt hlk hmn hnx hs hH hl
  have hC : CallFix p m c cX4_mix 3 s args (wA_ yX4_mix cX4_mix 3 (some .long)) RX4 := hC
  have hl : lv_has ls 3 [(0, .long p0), (2, .int p1)] := hl
  unfold wp_X4_mix at hw
  refine lv_lload_n hC.1 hC.2.1 dX4_mix_0 rfl (lv_at hl 0 rfl) ?_
  refine lv_ldc2 hC.1 hC.2.1 hC.2.2.2.1 (hC.2.2.2.2 _ (List.mem_cons_of_mem _ q_680)) dX4_mix_1 ?_
  refine lv_lmul hC.1 hC.2.1 dX4_mix_4 ?_
  refine lv_iload_n hC.1 hC.2.1 dX4_mix_5 rfl (lv_at hl 1 rfl) ?_
  refine lv_i2l hC.1 hC.2.1 dX4_mix_6 rfl ?_
  refine lv_ladd hC.1 hC.2.1 dX4_mix_7 ?_
  exact m_retl hC hH hrt hlk (Nat.le_of_ble_eq_true rfl) (Nat.le_of_ble_eq_true rfl) dX4_mix_8 hw
abbrev rm_X4_mixLines : Room := { frames := 4, cells := 0, slots := 0, locals := 64 }
def bk_X4_mixLines_5 (z : Nat × Nat) (Q : Int64 → mmS → Prop) (X : String → mmS → Prop) (K5 : mmS → Nat → Int64 → Int32 → Prop) (S : mmS) (x0 : Nat) (x3 : Int64) (x5 : Int32) : Prop := (x0 ∈ mL S ∧ mK S x0 = 4) ∧ ∃ b2 : Nat, mR S 10 x0 = some b2 ∧ (b2 ∈ mL S ∧ mK S b2 = 6) ∧ wp_Jx4a65c_size_8abf5 z S b2 (fun r6 S4 => (r6 ≤ x5 → Q x3 S4) ∧ (¬ r6 ≤ x5 → (x0 ∈ mL S4 ∧ mK S4 x0 = 4) ∧ ∃ b8 : Nat, mR S4 10 x0 = some b8 ∧ (b8 ∈ mL S4 ∧ mK S4 b8 = 6) ∧ wp_Jx4a65c_get_915e3 z S4 b8 x5 (fun r12 S10 => (r12 ∈ mL S10 ∧ mK S10 r12 = 2) ∧ ∃ b14 : Nat, mR S10 2 r12 = some b14 ∧ (b14 ∈ mL S10 ∧ mK S10 b14 = 3) ∧ wp_X4_mix z S10 x3 (mI S10 15 b14) (fun r18 S17 => (r12 ∈ mL S17 ∧ mK S17 r12 = 2) ∧ wp_X4_mix z S17 r18 (mI S17 14 r12) (fun r21 S20 => ∀ v22 : Int32, v22 = x5 + 1 → K5 S20 x0 r21 v22) X) X) X)) X
def lp_X4_mixLines_5 (z : Nat × Nat) (Q : Int64 → mmS → Prop) (X : String → mmS → Prop) : Nat → mmS → Nat → Int64 → Int32 → Prop
  | 0 => fun _ _ _ _ => False
  | n + 1 => bk_X4_mixLines_5 z Q X (lp_X4_mixLines_5 z Q X n)
def wp_X4_mixLines (z : Nat × Nat) (S : mmS) (p0 : Nat) (p1 : Int64) (Q : Int64 → mmS → Prop) (X : String → mmS → Prop) : Prop := ∀ v1 : Int32, v1 = (0 : Int32) → ∃ n : Nat, lp_X4_mixLines_5 z Q X n S p0 p1 v1
set_option maxHeartbeats 4000000 in
set_option maxRecDepth 100000 in
theorem bw_X4_mixLines_5 {p : Program} {l : Launch} {e : Env} {s : State} {m : MethodId} {args : Array Value} {below : List Frame} {meth : Method} {c : Code} {g : mG} {Q : Int64 → mmS → Prop} {X : String → mmS → Prop} (hl0 : l.stackTraces = false) (hC : CallFix p m c cX4_mixLines 7 s args (wA_ yX4_mixLines cX4_mixLines 7 (some .long)) RX4) (hrt : meth.sig.returnType = (some .long)) (hlk : meth.locks = false) (hmn : meth.name = yX4_mixLines.name) (hnx : ∀ x ∈ c.exceptionTable.toList, False) (hs : mX g s) {K5 : mmS → Nat → Int64 → Int32 → Prop} (hk5 : ∀ (S : mmS) (x0 : Nat) (x3 : Int64) (x5 : Int32), K5 S x0 x3 x5 → ∀ (H : Heap) (locs : List Loc), mH g S s H locs → ∀ ls : Array Slot, lv_has ls 7 [(0, .ref x0), (3, .long x3), (5, .int x5)] → W p l e rm_X4_mixLines s m args below meth c H locs 0 0 (vx_MQ below (va_Ql Q (wO g) (mB g)) (vx_X (fun _ : mmS => True) (fun E S1 t => X E S1 ∧ wO g S1 t) (mB g)) args s rm_X4_mixLines.cells rm_X4_mixLines.slots (mB g)) (F0 m 5 ls [])) : ∀ (S : mmS) (x0 : Nat) (x3 : Int64) (x5 : Int32), bk_X4_mixLines_5 g.2.2.2.2.2 Q X K5 S x0 x3 x5 → ∀ (H : Heap) (locs : List Loc), mH g S s H locs → ∀ ls : Array Slot, lv_has ls 7 [(0, .ref x0), (3, .long x3), (5, .int x5)] → W p l e rm_X4_mixLines s m args below meth c H locs 0 0 (vx_MQ below (va_Ql Q (wO g) (mB g)) (vx_X (fun _ : mmS => True) (fun E S1 t => X E S1 ∧ wO g S1 t) (mB g)) args s rm_X4_mixLines.cells rm_X4_mixLines.slots (mB g)) (F0 m 5 ls []) := by
  intro S x0 x3 x5 hw H locs hH ls hl
  unfold bk_X4_mixLines_5 at hw
  refine lv_iload hC.1 hC.2.1 dX4_mixLines_5 (lv_at hl 2 rfl) ?_
  refine lv_aload_n hC.1 hC.2.1 dX4_mixLines_7 rfl (lv_at hl 0 rfl) ?_
  obtain ⟨k1, hw⟩ := hw
  obtain ⟨b2, r3, hw⟩ := hw
  refine m_getR hC hs hH cs4 fs4_2 (fun _ h => List.mem_cons_of_mem _ (inlX4 _ h)) (List.mem_cons_of_mem _ q_18) (fun _ h => h) k1 r3 dX4_mixLines_8 ?_
  obtain ⟨k5, hw⟩ := hw
  refine m_callVi (y := yJx4a65c_size_8abf5) (rest := [.int _]) hC hs hH hl.1 (cwV 0 hC.2.2.2.2 (gA_V q_80 q_81 q_82 q_15 q_83) rfl rfl rfl (by decide +kernel) ⟨Nat.le_of_ble_eq_true rfl, Nat.le_of_ble_eq_true rfl⟩) cs6 k5 (met_Jx4a65c_size_8abf5 l hl0 g _ _ _ _ hw) rfl rfl (Nat.le_of_ble_eq_true rfl) dX4_mixLines_11 ⟨Nat.le_of_ble_eq_true rfl, Nat.le_of_ble_eq_true rfl⟩ (m_out (fun x hx => (hnx x hx).elim) hlk (Nat.le_of_ble_eq_true rfl) (Nat.le_of_ble_eq_true rfl)) (fun r6 S1 H locs hw hH => ?_)
  refine W.widen (k := 0) (n := 0) (Nat.le_of_ble_eq_true rfl) (Nat.le_of_ble_eq_true rfl) ?_
  refine lv_icmp_ge (tgt := 60) hC.1 hC.2.1 dX4_mixLines_14 (by decide) (fun hc => ?_) (fun hc => ?_)
  · have hw := hw.1 hc
    refine lv_lload_n hC.1 hC.2.1 dX4_mixLines_60 rfl (lv_at hl 1 rfl) ?_
    exact m_retl hC hH hrt hlk (Nat.le_of_ble_eq_true rfl) (Nat.le_of_ble_eq_true rfl) dX4_mixLines_61 hw
  · have hw := hw.2 hc
    refine lv_aload_n hC.1 hC.2.1 dX4_mixLines_17 rfl (lv_at hl 0 rfl) ?_
    obtain ⟨k7, hw⟩ := hw
    obtain ⟨b8, r9, hw⟩ := hw
    refine m_getR hC hs hH cs4 fs4_2 (fun _ h => List.mem_cons_of_mem _ (inlX4 _ h)) (List.mem_cons_of_mem _ q_18) (fun _ h => h) k7 r9 dX4_mixLines_18 ?_
    refine lv_iload hC.1 hC.2.1 dX4_mixLines_21 (lv_at hl 2 rfl) ?_
    obtain ⟨k11, hw⟩ := hw
    refine m_callVq (y := yJx4a65c_get_915e3) (rest := []) hC hs hH hl.1 (cwV 1 hC.2.2.2.2 (gA_V q_184 q_185 q_186 q_15 q_187) rfl rfl rfl (by decide +kernel) ⟨Nat.le_of_ble_eq_true rfl, Nat.le_of_ble_eq_true rfl⟩) cs6 k11 (met_Jx4a65c_get_915e3 l hl0 g _ _ _ _ _ hw) rfl rfl (Nat.le_of_ble_eq_true rfl) dX4_mixLines_23 ⟨Nat.le_of_ble_eq_true rfl, Nat.le_of_ble_eq_true rfl⟩ (m_out (fun x hx => (hnx x hx).elim) hlk (Nat.le_of_ble_eq_true rfl) (Nat.le_of_ble_eq_true rfl)) (fun r12 S1 H locs hw hH => ?_)
    refine W.widen (k := 0) (n := 0) (Nat.le_of_ble_eq_true rfl) (Nat.le_of_ble_eq_true rfl) ?_
    obtain ⟨k13, hw⟩ := hw
    refine m_cast hC hs hH cs2 (List.mem_cons_of_mem _ q_208) k13 dX4_mixLines_26 ?_
    refine lv_astore (lv' := [(6, .ref _), (0, .ref _), (3, .long _), (5, .int _)]) hC.1 hC.2.1 dX4_mixLines_29 hl (by decide) rfl (fun ls hl => ?_)
    refine lv_lload_n hC.1 hC.2.1 dX4_mixLines_31 rfl (lv_at hl 2 rfl) ?_
    refine lv_aload hC.1 hC.2.1 dX4_mixLines_32 (lv_at hl 0 rfl) ?_
    obtain ⟨b14, r15, hw⟩ := hw
    refine m_getR hC hs hH cs2 fs2_1 (fun _ h => List.mem_cons_of_mem _ (inlX2 _ h)) (List.mem_cons_of_mem _ q_242) (fun _ h => h) k13 r15 dX4_mixLines_34 ?_
    obtain ⟨k16, hw⟩ := hw
    refine m_getI hC hs hH cs3 fs3_0 (fun _ h => List.mem_cons_of_mem _ (inlX3 _ h)) (List.mem_cons_of_mem _ q_375) (fun _ h => h) k16 dX4_mixLines_37 ?_
    refine m_callSl (y := yX4_mix) (rest := []) hC hs hH hl.1 (va_cwS 2 hC.2.2.2.2 (gA_S q_677 q_678 q_2 q_679) rfl rfl rfl (by decide +kernel) ⟨Nat.le_of_ble_eq_true rfl, Nat.le_of_ble_eq_true rfl⟩) (met_X4_mix l hl0 g _ _ _ _ _ hw) rfl rfl (Nat.le_of_ble_eq_true rfl) dX4_mixLines_40 ⟨Nat.le_of_ble_eq_true rfl, Nat.le_of_ble_eq_true rfl⟩ (m_out (fun x hx => (hnx x hx).elim) hlk (Nat.le_of_ble_eq_true rfl) (Nat.le_of_ble_eq_true rfl)) (fun r18 S1 H locs hw hH => ?_)
    refine W.widen (k := 0) (n := 0) (Nat.le_of_ble_eq_true rfl) (Nat.le_of_ble_eq_true rfl) ?_
    refine lv_lstore_n (lv' := [(3, .long _), (6, .ref _), (0, .ref _), (5, .int _)]) hC.1 hC.2.1 dX4_mixLines_43 rfl hl (by decide) rfl (fun ls hl => ?_)
    refine lv_lload_n hC.1 hC.2.1 dX4_mixLines_44 rfl (lv_at hl 0 rfl) ?_
    refine lv_aload hC.1 hC.2.1 dX4_mixLines_45 (lv_at hl 1 rfl) ?_
    obtain ⟨k19, hw⟩ := hw
    refine m_getI hC hs hH cs2 fs2_2 (fun _ h => List.mem_cons_of_mem _ (inlX2 _ h)) (List.mem_cons_of_mem _ q_251) (fun _ h => h) k19 dX4_mixLines_47 ?_
    refine m_callSl (y := yX4_mix) (rest := []) hC hs hH hl.1 (va_cwS 2 hC.2.2.2.2 (gA_S q_677 q_678 q_2 q_679) rfl rfl rfl (by decide +kernel) ⟨Nat.le_of_ble_eq_true rfl, Nat.le_of_ble_eq_true rfl⟩) (met_X4_mix l hl0 g _ _ _ _ _ hw) rfl rfl (Nat.le_of_ble_eq_true rfl) dX4_mixLines_50 ⟨Nat.le_of_ble_eq_true rfl, Nat.le_of_ble_eq_true rfl⟩ (m_out (fun x hx => (hnx x hx).elim) hlk (Nat.le_of_ble_eq_true rfl) (Nat.le_of_ble_eq_true rfl)) (fun r21 S1 H locs hw hH => ?_)
    refine W.widen (k := 0) (n := 0) (Nat.le_of_ble_eq_true rfl) (Nat.le_of_ble_eq_true rfl) ?_
    refine lv_lstore_n (lv' := [(3, .long _), (6, .ref _), (0, .ref _), (5, .int _)]) hC.1 hC.2.1 dX4_mixLines_53 rfl hl (by decide) rfl (fun ls hl => ?_)
    have hw := hw _ rfl
    refine lv_iinc (lv' := [(5, .int _), (3, .long _), (6, .ref _), (0, .ref _)]) hC.1 hC.2.1 dX4_mixLines_54 hl (k := 3) rfl (rfl : (_ : Int32) + Int32.ofInt 1 = (_ : Int32) + 1) (by decide) rfl (fun ls hl => ?_)
    refine lv_goto (tgt := 5) hC.1 hC.2.1 dX4_mixLines_57 (by decide) ?_
    exact hk5 _ _ _ _ hw _ _ hH _ (lv_sub hl [3, 1, 0] rfl)
theorem lw_X4_mixLines_5 {p : Program} {l : Launch} {e : Env} {s : State} {m : MethodId} {args : Array Value} {below : List Frame} {meth : Method} {c : Code} {g : mG} {Q : Int64 → mmS → Prop} {X : String → mmS → Prop} (hl0 : l.stackTraces = false) (hC : CallFix p m c cX4_mixLines 7 s args (wA_ yX4_mixLines cX4_mixLines 7 (some .long)) RX4) (hrt : meth.sig.returnType = (some .long)) (hlk : meth.locks = false) (hmn : meth.name = yX4_mixLines.name) (hnx : ∀ x ∈ c.exceptionTable.toList, False) (hs : mX g s) : ∀ (n : Nat) (S : mmS) (x0 : Nat) (x3 : Int64) (x5 : Int32), lp_X4_mixLines_5 g.2.2.2.2.2 Q X n S x0 x3 x5 → ∀ (H : Heap) (locs : List Loc), mH g S s H locs → ∀ ls : Array Slot, lv_has ls 7 [(0, .ref x0), (3, .long x3), (5, .int x5)] → W p l e rm_X4_mixLines s m args below meth c H locs 0 0 (vx_MQ below (va_Ql Q (wO g) (mB g)) (vx_X (fun _ : mmS => True) (fun E S1 t => X E S1 ∧ wO g S1 t) (mB g)) args s rm_X4_mixLines.cells rm_X4_mixLines.slots (mB g)) (F0 m 5 ls []) := by
  intro n
  induction n with
  | zero => intro S x0 x3 x5 hw; exact False.elim hw
  | succ n ih => exact fun S x0 x3 x5 hw => bw_X4_mixLines_5 hl0 hC hrt hlk hmn hnx hs (K5 := lp_X4_mixLines_5 g.2.2.2.2.2 Q X n) ih S x0 x3 x5 hw
set_option maxHeartbeats 4000000 in
set_option maxRecDepth 100000 in
theorem met_X4_mixLines (l : Launch) (hl0 : l.stackTraces = false) (g : mG) (S : mmS) (p0 : Nat) (p1 : Int64) (Q : Int64 → mmS → Prop) (X : String → mmS → Prop) (hw : wp_X4_mixLines g.2.2.2.2.2 S p0 p1 Q X) : mMl l g yX4_mixLines (wA_ yX4_mixLines cX4_mixLines 7 (some .long)) rm_X4_mixLines [.ref p0, .long p1] S Q X := by
  refine m_of (y := yX4_mixLines) (cc := cX4_mixLines) (maxL := 7) (ret := (some .long)) (by decide) rfl (Nat.le_of_ble_eq_true rfl) ?_
  intro p e s m args below meth c ls hC hrt hlk hmn hnx hs hH hl
  have hC : CallFix p m c cX4_mixLines 7 s args (wA_ yX4_mixLines cX4_mixLines 7 (some .long)) RX4 := hC
  have hl : lv_has ls 7 [(0, .ref p0), (1, .long p1)] := hl
  unfold wp_X4_mixLines at hw
  refine lv_lload_n hC.1 hC.2.1 dX4_mixLines_0 rfl (lv_at hl 1 rfl) ?_
  refine lv_lstore_n (lv' := [(3, .long _), (0, .ref _), (1, .long _)]) hC.1 hC.2.1 dX4_mixLines_1 rfl hl (by decide) rfl (fun ls hl => ?_)
  refine lv_iconst (v := 0) hC.1 hC.2.1 dX4_mixLines_2 (by decide) ?_
  have hw := hw _ rfl
  refine lv_istore (lv' := [(5, .int _), (3, .long _), (0, .ref _), (1, .long _)]) hC.1 hC.2.1 dX4_mixLines_3 hl (by decide) rfl (fun ls hl => ?_)
  obtain ⟨n, hw⟩ := hw
  exact lw_X4_mixLines_5 hl0 hC hrt hlk hmn hnx hs n _ _ _ _ hw _ _ hH _ (lv_sub hl [2, 1, 0] rfl)
abbrev rm_X4_mixAccounts : Room := { frames := 4, cells := 0, slots := 0, locals := 64 }
def bk_X4_mixAccounts_5 (z : Nat × Nat) (Q : Int64 → mmS → Prop) (X : String → mmS → Prop) (K5 : mmS → Nat → Int64 → Int32 → Prop) (S : mmS) (x0 : Nat) (x3 : Int64) (x5 : Int32) : Prop := (x0 ∈ mL S ∧ mK S x0 = 4) ∧ ∃ b2 : Nat, mR S 9 x0 = some b2 ∧ (b2 ∈ mL S ∧ mK S b2 = 6) ∧ wp_Jx4a65c_size_8abf5 z S b2 (fun r6 S4 => (r6 ≤ x5 → Q x3 S4) ∧ (¬ r6 ≤ x5 → (x0 ∈ mL S4 ∧ mK S4 x0 = 4) ∧ ∃ b8 : Nat, mR S4 9 x0 = some b8 ∧ (b8 ∈ mL S4 ∧ mK S4 b8 = 6) ∧ wp_Jx4a65c_get_915e3 z S4 b8 x5 (fun r12 S10 => (r12 ∈ mL S10 ∧ mK S10 r12 = 0) ∧ wp_X4_mix z S10 x3 (mI S10 2 r12) (fun r15 S14 => (r12 ∈ mL S14 ∧ mK S14 r12 = 0) ∧ wp_X4_mix z S14 r15 (mI S14 5 r12) (fun r18 S17 => (r12 ∈ mL S17 ∧ mK S17 r12 = 0) ∧ wp_X0_cents z S17 r12 (fun r21 S19 => wp_X4_mix z S19 r18 r21 (fun r23 S22 => (r12 ∈ mL S22 ∧ mK S22 r12 = 0) ∧ wp_X4_mix z S22 r23 (mI S22 3 r12) (fun r26 S25 => ∀ v27 : Int32, v27 = x5 + 1 → K5 S25 x0 r26 v27) X) X) X) X) X) X)) X
def lp_X4_mixAccounts_5 (z : Nat × Nat) (Q : Int64 → mmS → Prop) (X : String → mmS → Prop) : Nat → mmS → Nat → Int64 → Int32 → Prop
  | 0 => fun _ _ _ _ => False
  | n + 1 => bk_X4_mixAccounts_5 z Q X (lp_X4_mixAccounts_5 z Q X n)
def wp_X4_mixAccounts (z : Nat × Nat) (S : mmS) (p0 : Nat) (p1 : Int64) (Q : Int64 → mmS → Prop) (X : String → mmS → Prop) : Prop := ∀ v1 : Int32, v1 = (0 : Int32) → ∃ n : Nat, lp_X4_mixAccounts_5 z Q X n S p0 p1 v1
set_option maxHeartbeats 4000000 in
set_option maxRecDepth 100000 in
theorem bw_X4_mixAccounts_5 {p : Program} {l : Launch} {e : Env} {s : State} {m : MethodId} {args : Array Value} {below : List Frame} {meth : Method} {c : Code} {g : mG} {Q : Int64 → mmS → Prop} {X : String → mmS → Prop} (hl0 : l.stackTraces = false) (hC : CallFix p m c cX4_mixAccounts 7 s args (wA_ yX4_mixAccounts cX4_mixAccounts 7 (some .long)) RX4) (hrt : meth.sig.returnType = (some .long)) (hlk : meth.locks = false) (hmn : meth.name = yX4_mixAccounts.name) (hnx : ∀ x ∈ c.exceptionTable.toList, False) (hs : mX g s) {K5 : mmS → Nat → Int64 → Int32 → Prop} (hk5 : ∀ (S : mmS) (x0 : Nat) (x3 : Int64) (x5 : Int32), K5 S x0 x3 x5 → ∀ (H : Heap) (locs : List Loc), mH g S s H locs → ∀ ls : Array Slot, lv_has ls 7 [(0, .ref x0), (3, .long x3), (5, .int x5)] → W p l e rm_X4_mixAccounts s m args below meth c H locs 0 0 (vx_MQ below (va_Ql Q (wO g) (mB g)) (vx_X (fun _ : mmS => True) (fun E S1 t => X E S1 ∧ wO g S1 t) (mB g)) args s rm_X4_mixAccounts.cells rm_X4_mixAccounts.slots (mB g)) (F0 m 5 ls [])) : ∀ (S : mmS) (x0 : Nat) (x3 : Int64) (x5 : Int32), bk_X4_mixAccounts_5 g.2.2.2.2.2 Q X K5 S x0 x3 x5 → ∀ (H : Heap) (locs : List Loc), mH g S s H locs → ∀ ls : Array Slot, lv_has ls 7 [(0, .ref x0), (3, .long x3), (5, .int x5)] → W p l e rm_X4_mixAccounts s m args below meth c H locs 0 0 (vx_MQ below (va_Ql Q (wO g) (mB g)) (vx_X (fun _ : mmS => True) (fun E S1 t => X E S1 ∧ wO g S1 t) (mB g)) args s rm_X4_mixAccounts.cells rm_X4_mixAccounts.slots (mB g)) (F0 m 5 ls []) := by
  intro S x0 x3 x5 hw H locs hH ls hl
  unfold bk_X4_mixAccounts_5 at hw
  refine lv_iload hC.1 hC.2.1 dX4_mixAccounts_5 (lv_at hl 2 rfl) ?_
  refine lv_aload_n hC.1 hC.2.1 dX4_mixAccounts_7 rfl (lv_at hl 0 rfl) ?_
  obtain ⟨k1, hw⟩ := hw
  obtain ⟨b2, r3, hw⟩ := hw
  refine m_getR hC hs hH cs4 fs4_1 (fun _ h => List.mem_cons_of_mem _ (inlX4 _ h)) (List.mem_cons_of_mem _ q_17) (fun _ h => h) k1 r3 dX4_mixAccounts_8 ?_
  obtain ⟨k5, hw⟩ := hw
  refine m_callVi (y := yJx4a65c_size_8abf5) (rest := [.int _]) hC hs hH hl.1 (cwV 0 hC.2.2.2.2 (gA_V q_80 q_81 q_82 q_15 q_83) rfl rfl rfl (by decide +kernel) ⟨Nat.le_of_ble_eq_true rfl, Nat.le_of_ble_eq_true rfl⟩) cs6 k5 (met_Jx4a65c_size_8abf5 l hl0 g _ _ _ _ hw) rfl rfl (Nat.le_of_ble_eq_true rfl) dX4_mixAccounts_11 ⟨Nat.le_of_ble_eq_true rfl, Nat.le_of_ble_eq_true rfl⟩ (m_out (fun x hx => (hnx x hx).elim) hlk (Nat.le_of_ble_eq_true rfl) (Nat.le_of_ble_eq_true rfl)) (fun r6 S1 H locs hw hH => ?_)
  refine W.widen (k := 0) (n := 0) (Nat.le_of_ble_eq_true rfl) (Nat.le_of_ble_eq_true rfl) ?_
  refine lv_icmp_ge (tgt := 77) hC.1 hC.2.1 dX4_mixAccounts_14 (by decide) (fun hc => ?_) (fun hc => ?_)
  · have hw := hw.1 hc
    refine lv_lload_n hC.1 hC.2.1 dX4_mixAccounts_77 rfl (lv_at hl 1 rfl) ?_
    exact m_retl hC hH hrt hlk (Nat.le_of_ble_eq_true rfl) (Nat.le_of_ble_eq_true rfl) dX4_mixAccounts_78 hw
  · have hw := hw.2 hc
    refine lv_aload_n hC.1 hC.2.1 dX4_mixAccounts_17 rfl (lv_at hl 0 rfl) ?_
    obtain ⟨k7, hw⟩ := hw
    obtain ⟨b8, r9, hw⟩ := hw
    refine m_getR hC hs hH cs4 fs4_1 (fun _ h => List.mem_cons_of_mem _ (inlX4 _ h)) (List.mem_cons_of_mem _ q_17) (fun _ h => h) k7 r9 dX4_mixAccounts_18 ?_
    refine lv_iload hC.1 hC.2.1 dX4_mixAccounts_21 (lv_at hl 2 rfl) ?_
    obtain ⟨k11, hw⟩ := hw
    refine m_callVq (y := yJx4a65c_get_915e3) (rest := []) hC hs hH hl.1 (cwV 1 hC.2.2.2.2 (gA_V q_184 q_185 q_186 q_15 q_187) rfl rfl rfl (by decide +kernel) ⟨Nat.le_of_ble_eq_true rfl, Nat.le_of_ble_eq_true rfl⟩) cs6 k11 (met_Jx4a65c_get_915e3 l hl0 g _ _ _ _ _ hw) rfl rfl (Nat.le_of_ble_eq_true rfl) dX4_mixAccounts_23 ⟨Nat.le_of_ble_eq_true rfl, Nat.le_of_ble_eq_true rfl⟩ (m_out (fun x hx => (hnx x hx).elim) hlk (Nat.le_of_ble_eq_true rfl) (Nat.le_of_ble_eq_true rfl)) (fun r12 S1 H locs hw hH => ?_)
    refine W.widen (k := 0) (n := 0) (Nat.le_of_ble_eq_true rfl) (Nat.le_of_ble_eq_true rfl) ?_
    obtain ⟨k13, hw⟩ := hw
    refine m_cast hC hs hH cs0 (List.mem_cons_of_mem _ q_207) k13 dX4_mixAccounts_26 ?_
    refine lv_astore (lv' := [(6, .ref _), (0, .ref _), (3, .long _), (5, .int _)]) hC.1 hC.2.1 dX4_mixAccounts_29 hl (by decide) rfl (fun ls hl => ?_)
    refine lv_lload_n hC.1 hC.2.1 dX4_mixAccounts_31 rfl (lv_at hl 2 rfl) ?_
    refine lv_aload hC.1 hC.2.1 dX4_mixAccounts_32 (lv_at hl 0 rfl) ?_
    refine m_getI hC hs hH cs0 fs0_2 (fun _ h => List.mem_cons_of_mem _ (inlX0 _ h)) (List.mem_cons_of_mem _ q_399) (fun _ h => h) k13 dX4_mixAccounts_34 ?_
    refine m_callSl (y := yX4_mix) (rest := []) hC hs hH hl.1 (va_cwS 2 hC.2.2.2.2 (gA_S q_677 q_678 q_2 q_679) rfl rfl rfl (by decide +kernel) ⟨Nat.le_of_ble_eq_true rfl, Nat.le_of_ble_eq_true rfl⟩) (met_X4_mix l hl0 g _ _ _ _ _ hw) rfl rfl (Nat.le_of_ble_eq_true rfl) dX4_mixAccounts_37 ⟨Nat.le_of_ble_eq_true rfl, Nat.le_of_ble_eq_true rfl⟩ (m_out (fun x hx => (hnx x hx).elim) hlk (Nat.le_of_ble_eq_true rfl) (Nat.le_of_ble_eq_true rfl)) (fun r15 S1 H locs hw hH => ?_)
    refine W.widen (k := 0) (n := 0) (Nat.le_of_ble_eq_true rfl) (Nat.le_of_ble_eq_true rfl) ?_
    refine lv_lstore_n (lv' := [(3, .long _), (6, .ref _), (0, .ref _), (5, .int _)]) hC.1 hC.2.1 dX4_mixAccounts_40 rfl hl (by decide) rfl (fun ls hl => ?_)
    refine lv_lload_n hC.1 hC.2.1 dX4_mixAccounts_41 rfl (lv_at hl 0 rfl) ?_
    refine lv_aload hC.1 hC.2.1 dX4_mixAccounts_42 (lv_at hl 1 rfl) ?_
    obtain ⟨k16, hw⟩ := hw
    refine m_getI hC hs hH cs0 fs0_5 (fun _ h => List.mem_cons_of_mem _ (inlX0 _ h)) (List.mem_cons_of_mem _ q_252) (fun _ h => h) k16 dX4_mixAccounts_44 ?_
    refine m_callSl (y := yX4_mix) (rest := []) hC hs hH hl.1 (va_cwS 2 hC.2.2.2.2 (gA_S q_677 q_678 q_2 q_679) rfl rfl rfl (by decide +kernel) ⟨Nat.le_of_ble_eq_true rfl, Nat.le_of_ble_eq_true rfl⟩) (met_X4_mix l hl0 g _ _ _ _ _ hw) rfl rfl (Nat.le_of_ble_eq_true rfl) dX4_mixAccounts_47 ⟨Nat.le_of_ble_eq_true rfl, Nat.le_of_ble_eq_true rfl⟩ (m_out (fun x hx => (hnx x hx).elim) hlk (Nat.le_of_ble_eq_true rfl) (Nat.le_of_ble_eq_true rfl)) (fun r18 S1 H locs hw hH => ?_)
    refine W.widen (k := 0) (n := 0) (Nat.le_of_ble_eq_true rfl) (Nat.le_of_ble_eq_true rfl) ?_
    refine lv_lstore_n (lv' := [(3, .long _), (6, .ref _), (0, .ref _), (5, .int _)]) hC.1 hC.2.1 dX4_mixAccounts_50 rfl hl (by decide) rfl (fun ls hl => ?_)
    refine lv_lload_n hC.1 hC.2.1 dX4_mixAccounts_51 rfl (lv_at hl 0 rfl) ?_
    refine lv_aload hC.1 hC.2.1 dX4_mixAccounts_52 (lv_at hl 1 rfl) ?_
    obtain ⟨k20, hw⟩ := hw
    refine m_callVi (y := yX0_cents) (rest := [.long _]) hC hs hH hl.1 (cwV 0 hC.2.2.2.2 (gA_V q_587 q_588 q_589 q_214 q_590) rfl rfl rfl (by decide +kernel) ⟨Nat.le_of_ble_eq_true rfl, Nat.le_of_ble_eq_true rfl⟩) cs0 k20 (met_X0_cents l hl0 g _ _ _ _ hw) rfl rfl (Nat.le_of_ble_eq_true rfl) dX4_mixAccounts_54 ⟨Nat.le_of_ble_eq_true rfl, Nat.le_of_ble_eq_true rfl⟩ (m_out (fun x hx => (hnx x hx).elim) hlk (Nat.le_of_ble_eq_true rfl) (Nat.le_of_ble_eq_true rfl)) (fun r21 S1 H locs hw hH => ?_)
    refine W.widen (k := 0) (n := 0) (Nat.le_of_ble_eq_true rfl) (Nat.le_of_ble_eq_true rfl) ?_
    refine m_callSl (y := yX4_mix) (rest := []) hC hs hH hl.1 (va_cwS 2 hC.2.2.2.2 (gA_S q_677 q_678 q_2 q_679) rfl rfl rfl (by decide +kernel) ⟨Nat.le_of_ble_eq_true rfl, Nat.le_of_ble_eq_true rfl⟩) (met_X4_mix l hl0 g _ _ _ _ _ hw) rfl rfl (Nat.le_of_ble_eq_true rfl) dX4_mixAccounts_57 ⟨Nat.le_of_ble_eq_true rfl, Nat.le_of_ble_eq_true rfl⟩ (m_out (fun x hx => (hnx x hx).elim) hlk (Nat.le_of_ble_eq_true rfl) (Nat.le_of_ble_eq_true rfl)) (fun r23 S1 H locs hw hH => ?_)
    refine W.widen (k := 0) (n := 0) (Nat.le_of_ble_eq_true rfl) (Nat.le_of_ble_eq_true rfl) ?_
    refine lv_lstore_n (lv' := [(3, .long _), (6, .ref _), (0, .ref _), (5, .int _)]) hC.1 hC.2.1 dX4_mixAccounts_60 rfl hl (by decide) rfl (fun ls hl => ?_)
    refine lv_lload_n hC.1 hC.2.1 dX4_mixAccounts_61 rfl (lv_at hl 0 rfl) ?_
    refine lv_aload hC.1 hC.2.1 dX4_mixAccounts_62 (lv_at hl 1 rfl) ?_
    obtain ⟨k24, hw⟩ := hw
    refine m_getI hC hs hH cs0 fs0_3 (fun _ h => List.mem_cons_of_mem _ (inlX0 _ h)) (List.mem_cons_of_mem _ q_609) (fun _ h => h) k24 dX4_mixAccounts_64 ?_
    refine m_callSl (y := yX4_mix) (rest := []) hC hs hH hl.1 (va_cwS 2 hC.2.2.2.2 (gA_S q_677 q_678 q_2 q_679) rfl rfl rfl (by decide +kernel) ⟨Nat.le_of_ble_eq_true rfl, Nat.le_of_ble_eq_true rfl⟩) (met_X4_mix l hl0 g _ _ _ _ _ hw) rfl rfl (Nat.le_of_ble_eq_true rfl) dX4_mixAccounts_67 ⟨Nat.le_of_ble_eq_true rfl, Nat.le_of_ble_eq_true rfl⟩ (m_out (fun x hx => (hnx x hx).elim) hlk (Nat.le_of_ble_eq_true rfl) (Nat.le_of_ble_eq_true rfl)) (fun r26 S1 H locs hw hH => ?_)
    refine W.widen (k := 0) (n := 0) (Nat.le_of_ble_eq_true rfl) (Nat.le_of_ble_eq_true rfl) ?_
    refine lv_lstore_n (lv' := [(3, .long _), (6, .ref _), (0, .ref _), (5, .int _)]) hC.1 hC.2.1 dX4_mixAccounts_70 rfl hl (by decide) rfl (fun ls hl => ?_)
    have hw := hw _ rfl
    refine lv_iinc (lv' := [(5, .int _), (3, .long _), (6, .ref _), (0, .ref _)]) hC.1 hC.2.1 dX4_mixAccounts_71 hl (k := 3) rfl (rfl : (_ : Int32) + Int32.ofInt 1 = (_ : Int32) + 1) (by decide) rfl (fun ls hl => ?_)
    refine lv_goto (tgt := 5) hC.1 hC.2.1 dX4_mixAccounts_74 (by decide) ?_
    exact hk5 _ _ _ _ hw _ _ hH _ (lv_sub hl [3, 1, 0] rfl)
theorem lw_X4_mixAccounts_5 {p : Program} {l : Launch} {e : Env} {s : State} {m : MethodId} {args : Array Value} {below : List Frame} {meth : Method} {c : Code} {g : mG} {Q : Int64 → mmS → Prop} {X : String → mmS → Prop} (hl0 : l.stackTraces = false) (hC : CallFix p m c cX4_mixAccounts 7 s args (wA_ yX4_mixAccounts cX4_mixAccounts 7 (some .long)) RX4) (hrt : meth.sig.returnType = (some .long)) (hlk : meth.locks = false) (hmn : meth.name = yX4_mixAccounts.name) (hnx : ∀ x ∈ c.exceptionTable.toList, False) (hs : mX g s) : ∀ (n : Nat) (S : mmS) (x0 : Nat) (x3 : Int64) (x5 : Int32), lp_X4_mixAccounts_5 g.2.2.2.2.2 Q X n S x0 x3 x5 → ∀ (H : Heap) (locs : List Loc), mH g S s H locs → ∀ ls : Array Slot, lv_has ls 7 [(0, .ref x0), (3, .long x3), (5, .int x5)] → W p l e rm_X4_mixAccounts s m args below meth c H locs 0 0 (vx_MQ below (va_Ql Q (wO g) (mB g)) (vx_X (fun _ : mmS => True) (fun E S1 t => X E S1 ∧ wO g S1 t) (mB g)) args s rm_X4_mixAccounts.cells rm_X4_mixAccounts.slots (mB g)) (F0 m 5 ls []) := by
  intro n
  induction n with
  | zero => intro S x0 x3 x5 hw; exact False.elim hw
  | succ n ih => exact fun S x0 x3 x5 hw => bw_X4_mixAccounts_5 hl0 hC hrt hlk hmn hnx hs (K5 := lp_X4_mixAccounts_5 g.2.2.2.2.2 Q X n) ih S x0 x3 x5 hw
set_option maxHeartbeats 4000000 in
set_option maxRecDepth 100000 in
theorem met_X4_mixAccounts (l : Launch) (hl0 : l.stackTraces = false) (g : mG) (S : mmS) (p0 : Nat) (p1 : Int64) (Q : Int64 → mmS → Prop) (X : String → mmS → Prop) (hw : wp_X4_mixAccounts g.2.2.2.2.2 S p0 p1 Q X) : mMl l g yX4_mixAccounts (wA_ yX4_mixAccounts cX4_mixAccounts 7 (some .long)) rm_X4_mixAccounts [.ref p0, .long p1] S Q X := by
  refine m_of (y := yX4_mixAccounts) (cc := cX4_mixAccounts) (maxL := 7) (ret := (some .long)) (by decide) rfl (Nat.le_of_ble_eq_true rfl) ?_
  intro p e s m args below meth c ls hC hrt hlk hmn hnx hs hH hl
  have hC : CallFix p m c cX4_mixAccounts 7 s args (wA_ yX4_mixAccounts cX4_mixAccounts 7 (some .long)) RX4 := hC
  have hl : lv_has ls 7 [(0, .ref p0), (1, .long p1)] := hl
  unfold wp_X4_mixAccounts at hw
  refine lv_lload_n hC.1 hC.2.1 dX4_mixAccounts_0 rfl (lv_at hl 1 rfl) ?_
  refine lv_lstore_n (lv' := [(3, .long _), (0, .ref _), (1, .long _)]) hC.1 hC.2.1 dX4_mixAccounts_1 rfl hl (by decide) rfl (fun ls hl => ?_)
  refine lv_iconst (v := 0) hC.1 hC.2.1 dX4_mixAccounts_2 (by decide) ?_
  have hw := hw _ rfl
  refine lv_istore (lv' := [(5, .int _), (3, .long _), (0, .ref _), (1, .long _)]) hC.1 hC.2.1 dX4_mixAccounts_3 hl (by decide) rfl (fun ls hl => ?_)
  obtain ⟨n, hw⟩ := hw
  exact lw_X4_mixAccounts_5 hl0 hC hrt hlk hmn hnx hs n _ _ _ _ hw _ _ hH _ (lv_sub hl [2, 1, 0] rfl)
abbrev rm_X4_mixCalls : Room := { frames := 4, cells := 0, slots := 0, locals := 64 }
def bk_X4_mixCalls_44 (z : Nat × Nat) (Q : Int64 → mmS → Prop) (X : String → mmS → Prop) (K5 : mmS → Nat → Int64 → Int32 → Prop) (K44 : mmS → Nat → Int64 → Int32 → Nat → Int32 → Prop) (S : mmS) (x0 : Nat) (x3 : Int64) (x5 : Int32) (x6 : Nat) (x7 : Int32) : Prop := ((4 : Int32) < x7 → ∀ v1 : Int32, v1 = x5 + 1 → K5 S x0 x3 v1) ∧ (¬ (4 : Int32) < x7 → (x6 ∈ mL S ∧ mK S x6 = 1) ∧ wp_X1_tell z S x6 x7 (fun r4 S2 => wp_X4_mix z S2 x3 r4 (fun r6 S5 => ∀ v7 : Int32, v7 = x7 + 1 → K44 S5 x0 r6 x5 x6 v7) X) X)
def lp_X4_mixCalls_44 (z : Nat × Nat) (Q : Int64 → mmS → Prop) (X : String → mmS → Prop) (K5 : mmS → Nat → Int64 → Int32 → Prop) : Nat → mmS → Nat → Int64 → Int32 → Nat → Int32 → Prop
  | 0 => fun _ _ _ _ _ _ => False
  | n + 1 => bk_X4_mixCalls_44 z Q X K5 (lp_X4_mixCalls_44 z Q X K5 n)
def bk_X4_mixCalls_5 (z : Nat × Nat) (Q : Int64 → mmS → Prop) (X : String → mmS → Prop) (K5 : mmS → Nat → Int64 → Int32 → Prop) (S : mmS) (x0 : Nat) (x3 : Int64) (x5 : Int32) : Prop := (x0 ∈ mL S ∧ mK S x0 = 4) ∧ ∃ b2 : Nat, mR S 12 x0 = some b2 ∧ (b2 ∈ mL S ∧ mK S b2 = 6) ∧ wp_Jx4a65c_size_8abf5 z S b2 (fun r6 S4 => (r6 ≤ x5 → Q x3 S4) ∧ (¬ r6 ≤ x5 → (x0 ∈ mL S4 ∧ mK S4 x0 = 4) ∧ ∃ b8 : Nat, mR S4 12 x0 = some b8 ∧ (b8 ∈ mL S4 ∧ mK S4 b8 = 6) ∧ wp_Jx4a65c_get_915e3 z S4 b8 x5 (fun r12 S10 => (r12 ∈ mL S10 ∧ mK S10 r12 = 1) ∧ wp_X4_mix z S10 x3 (mI S10 6 r12) (fun r15 S14 => ∀ v16 : Int32, v16 = (0 : Int32) → ∃ n : Nat, lp_X4_mixCalls_44 z Q X K5 n S14 x0 r15 x5 r12 v16) X) X)) X
def lp_X4_mixCalls_5 (z : Nat × Nat) (Q : Int64 → mmS → Prop) (X : String → mmS → Prop) : Nat → mmS → Nat → Int64 → Int32 → Prop
  | 0 => fun _ _ _ _ => False
  | n + 1 => bk_X4_mixCalls_5 z Q X (lp_X4_mixCalls_5 z Q X n)
def wp_X4_mixCalls (z : Nat × Nat) (S : mmS) (p0 : Nat) (p1 : Int64) (Q : Int64 → mmS → Prop) (X : String → mmS → Prop) : Prop := ∀ v1 : Int32, v1 = (0 : Int32) → ∃ n : Nat, lp_X4_mixCalls_5 z Q X n S p0 p1 v1
set_option maxHeartbeats 4000000 in
set_option maxRecDepth 100000 in
theorem bw_X4_mixCalls_44 {p : Program} {l : Launch} {e : Env} {s : State} {m : MethodId} {args : Array Value} {below : List Frame} {meth : Method} {c : Code} {g : mG} {Q : Int64 → mmS → Prop} {X : String → mmS → Prop} (hl0 : l.stackTraces = false) (hC : CallFix p m c cX4_mixCalls 8 s args (wA_ yX4_mixCalls cX4_mixCalls 8 (some .long)) RX4) (hrt : meth.sig.returnType = (some .long)) (hlk : meth.locks = false) (hmn : meth.name = yX4_mixCalls.name) (hnx : ∀ x ∈ c.exceptionTable.toList, False) (hs : mX g s) {K5 : mmS → Nat → Int64 → Int32 → Prop} {K44 : mmS → Nat → Int64 → Int32 → Nat → Int32 → Prop} (hk5 : ∀ (S : mmS) (x0 : Nat) (x3 : Int64) (x5 : Int32), K5 S x0 x3 x5 → ∀ (H : Heap) (locs : List Loc), mH g S s H locs → ∀ ls : Array Slot, lv_has ls 8 [(0, .ref x0), (3, .long x3), (5, .int x5)] → W p l e rm_X4_mixCalls s m args below meth c H locs 0 0 (vx_MQ below (va_Ql Q (wO g) (mB g)) (vx_X (fun _ : mmS => True) (fun E S1 t => X E S1 ∧ wO g S1 t) (mB g)) args s rm_X4_mixCalls.cells rm_X4_mixCalls.slots (mB g)) (F0 m 5 ls [])) (hk44 : ∀ (S : mmS) (x0 : Nat) (x3 : Int64) (x5 : Int32) (x6 : Nat) (x7 : Int32), K44 S x0 x3 x5 x6 x7 → ∀ (H : Heap) (locs : List Loc), mH g S s H locs → ∀ ls : Array Slot, lv_has ls 8 [(0, .ref x0), (3, .long x3), (5, .int x5), (6, .ref x6), (7, .int x7)] → W p l e rm_X4_mixCalls s m args below meth c H locs 0 0 (vx_MQ below (va_Ql Q (wO g) (mB g)) (vx_X (fun _ : mmS => True) (fun E S1 t => X E S1 ∧ wO g S1 t) (mB g)) args s rm_X4_mixCalls.cells rm_X4_mixCalls.slots (mB g)) (F0 m 44 ls [])) : ∀ (S : mmS) (x0 : Nat) (x3 : Int64) (x5 : Int32) (x6 : Nat) (x7 : Int32), bk_X4_mixCalls_44 g.2.2.2.2.2 Q X K5 K44 S x0 x3 x5 x6 x7 → ∀ (H : Heap) (locs : List Loc), mH g S s H locs → ∀ ls : Array Slot, lv_has ls 8 [(0, .ref x0), (3, .long x3), (5, .int x5), (6, .ref x6), (7, .int x7)] → W p l e rm_X4_mixCalls s m args below meth c H locs 0 0 (vx_MQ below (va_Ql Q (wO g) (mB g)) (vx_X (fun _ : mmS => True) (fun E S1 t => X E S1 ∧ wO g S1 t) (mB g)) args s rm_X4_mixCalls.cells rm_X4_mixCalls.slots (mB g)) (F0 m 44 ls []) := by
  intro S x0 x3 x5 x6 x7 hw H locs hH ls hl
  unfold bk_X4_mixCalls_44 at hw
  refine lv_iload hC.1 hC.2.1 dX4_mixCalls_44 (lv_at hl 4 rfl) ?_
  refine lv_iconst (v := 4) hC.1 hC.2.1 dX4_mixCalls_46 (by decide) ?_
  refine lv_icmp_gt (tgt := 68) hC.1 hC.2.1 dX4_mixCalls_47 (by decide) (fun hc => ?_) (fun hc => ?_)
  · have hw := hw.1 hc
    have hw := hw _ rfl
    refine lv_iinc (lv' := [(5, .int _), (0, .ref _), (3, .long _), (6, .ref _), (7, .int _)]) hC.1 hC.2.1 dX4_mixCalls_68 hl (k := 2) rfl (rfl : (_ : Int32) + Int32.ofInt 1 = (_ : Int32) + 1) (by decide) rfl (fun ls hl => ?_)
    refine lv_goto (tgt := 5) hC.1 hC.2.1 dX4_mixCalls_71 (by decide) ?_
    exact hk5 _ _ _ _ hw _ _ hH _ (lv_sub hl [1, 2, 0] rfl)
  · have hw := hw.2 hc
    refine lv_lload_n hC.1 hC.2.1 dX4_mixCalls_50 rfl (lv_at hl 1 rfl) ?_
    refine lv_aload hC.1 hC.2.1 dX4_mixCalls_51 (lv_at hl 3 rfl) ?_
    refine lv_iload hC.1 hC.2.1 dX4_mixCalls_53 (lv_at hl 4 rfl) ?_
    obtain ⟨k3, hw⟩ := hw
    refine m_callVi (y := yX1_tell) (rest := [.long _]) hC hs hH hl.1 (cwV 1 hC.2.2.2.2 (gA_V q_505 q_506 q_507 q_231 q_508) rfl rfl rfl (by decide +kernel) ⟨Nat.le_of_ble_eq_true rfl, Nat.le_of_ble_eq_true rfl⟩) cs1 k3 (met_X1_tell l hl0 g _ _ _ _ _ hw) rfl rfl (Nat.le_of_ble_eq_true rfl) dX4_mixCalls_55 ⟨Nat.le_of_ble_eq_true rfl, Nat.le_of_ble_eq_true rfl⟩ (m_out (fun x hx => (hnx x hx).elim) hlk (Nat.le_of_ble_eq_true rfl) (Nat.le_of_ble_eq_true rfl)) (fun r4 S1 H locs hw hH => ?_)
    refine W.widen (k := 0) (n := 0) (Nat.le_of_ble_eq_true rfl) (Nat.le_of_ble_eq_true rfl) ?_
    refine m_callSl (y := yX4_mix) (rest := []) hC hs hH hl.1 (va_cwS 2 hC.2.2.2.2 (gA_S q_677 q_678 q_2 q_679) rfl rfl rfl (by decide +kernel) ⟨Nat.le_of_ble_eq_true rfl, Nat.le_of_ble_eq_true rfl⟩) (met_X4_mix l hl0 g _ _ _ _ _ hw) rfl rfl (Nat.le_of_ble_eq_true rfl) dX4_mixCalls_58 ⟨Nat.le_of_ble_eq_true rfl, Nat.le_of_ble_eq_true rfl⟩ (m_out (fun x hx => (hnx x hx).elim) hlk (Nat.le_of_ble_eq_true rfl) (Nat.le_of_ble_eq_true rfl)) (fun r6 S1 H locs hw hH => ?_)
    refine W.widen (k := 0) (n := 0) (Nat.le_of_ble_eq_true rfl) (Nat.le_of_ble_eq_true rfl) ?_
    refine lv_lstore_n (lv' := [(3, .long _), (0, .ref _), (5, .int _), (6, .ref _), (7, .int _)]) hC.1 hC.2.1 dX4_mixCalls_61 rfl hl (by decide) rfl (fun ls hl => ?_)
    have hw := hw _ rfl
    refine lv_iinc (lv' := [(7, .int _), (3, .long _), (0, .ref _), (5, .int _), (6, .ref _)]) hC.1 hC.2.1 dX4_mixCalls_62 hl (k := 4) rfl (rfl : (_ : Int32) + Int32.ofInt 1 = (_ : Int32) + 1) (by decide) rfl (fun ls hl => ?_)
    refine lv_goto (tgt := 44) hC.1 hC.2.1 dX4_mixCalls_65 (by decide) ?_
    exact hk44 _ _ _ _ _ _ hw _ _ hH _ (lv_sub hl [2, 1, 3, 4, 0] rfl)
theorem lw_X4_mixCalls_44 {p : Program} {l : Launch} {e : Env} {s : State} {m : MethodId} {args : Array Value} {below : List Frame} {meth : Method} {c : Code} {g : mG} {Q : Int64 → mmS → Prop} {X : String → mmS → Prop} (hl0 : l.stackTraces = false) (hC : CallFix p m c cX4_mixCalls 8 s args (wA_ yX4_mixCalls cX4_mixCalls 8 (some .long)) RX4) (hrt : meth.sig.returnType = (some .long)) (hlk : meth.locks = false) (hmn : meth.name = yX4_mixCalls.name) (hnx : ∀ x ∈ c.exceptionTable.toList, False) (hs : mX g s) {K5 : mmS → Nat → Int64 → Int32 → Prop} (hk5 : ∀ (S : mmS) (x0 : Nat) (x3 : Int64) (x5 : Int32), K5 S x0 x3 x5 → ∀ (H : Heap) (locs : List Loc), mH g S s H locs → ∀ ls : Array Slot, lv_has ls 8 [(0, .ref x0), (3, .long x3), (5, .int x5)] → W p l e rm_X4_mixCalls s m args below meth c H locs 0 0 (vx_MQ below (va_Ql Q (wO g) (mB g)) (vx_X (fun _ : mmS => True) (fun E S1 t => X E S1 ∧ wO g S1 t) (mB g)) args s rm_X4_mixCalls.cells rm_X4_mixCalls.slots (mB g)) (F0 m 5 ls [])) : ∀ (n : Nat) (S : mmS) (x0 : Nat) (x3 : Int64) (x5 : Int32) (x6 : Nat) (x7 : Int32), lp_X4_mixCalls_44 g.2.2.2.2.2 Q X K5 n S x0 x3 x5 x6 x7 → ∀ (H : Heap) (locs : List Loc), mH g S s H locs → ∀ ls : Array Slot, lv_has ls 8 [(0, .ref x0), (3, .long x3), (5, .int x5), (6, .ref x6), (7, .int x7)] → W p l e rm_X4_mixCalls s m args below meth c H locs 0 0 (vx_MQ below (va_Ql Q (wO g) (mB g)) (vx_X (fun _ : mmS => True) (fun E S1 t => X E S1 ∧ wO g S1 t) (mB g)) args s rm_X4_mixCalls.cells rm_X4_mixCalls.slots (mB g)) (F0 m 44 ls []) := by
  intro n
  induction n with
  | zero => intro S x0 x3 x5 x6 x7 hw; exact False.elim hw
  | succ n ih => exact fun S x0 x3 x5 x6 x7 hw => bw_X4_mixCalls_44 hl0 hC hrt hlk hmn hnx hs (K5 := K5) (K44 := lp_X4_mixCalls_44 g.2.2.2.2.2 Q X K5 n) hk5 ih S x0 x3 x5 x6 x7 hw
set_option maxHeartbeats 4000000 in
set_option maxRecDepth 100000 in
theorem bw_X4_mixCalls_5 {p : Program} {l : Launch} {e : Env} {s : State} {m : MethodId} {args : Array Value} {below : List Frame} {meth : Method} {c : Code} {g : mG} {Q : Int64 → mmS → Prop} {X : String → mmS → Prop} (hl0 : l.stackTraces = false) (hC : CallFix p m c cX4_mixCalls 8 s args (wA_ yX4_mixCalls cX4_mixCalls 8 (some .long)) RX4) (hrt : meth.sig.returnType = (some .long)) (hlk : meth.locks = false) (hmn : meth.name = yX4_mixCalls.name) (hnx : ∀ x ∈ c.exceptionTable.toList, False) (hs : mX g s) {K5 : mmS → Nat → Int64 → Int32 → Prop} (hk5 : ∀ (S : mmS) (x0 : Nat) (x3 : Int64) (x5 : Int32), K5 S x0 x3 x5 → ∀ (H : Heap) (locs : List Loc), mH g S s H locs → ∀ ls : Array Slot, lv_has ls 8 [(0, .ref x0), (3, .long x3), (5, .int x5)] → W p l e rm_X4_mixCalls s m args below meth c H locs 0 0 (vx_MQ below (va_Ql Q (wO g) (mB g)) (vx_X (fun _ : mmS => True) (fun E S1 t => X E S1 ∧ wO g S1 t) (mB g)) args s rm_X4_mixCalls.cells rm_X4_mixCalls.slots (mB g)) (F0 m 5 ls [])) : ∀ (S : mmS) (x0 : Nat) (x3 : Int64) (x5 : Int32), bk_X4_mixCalls_5 g.2.2.2.2.2 Q X K5 S x0 x3 x5 → ∀ (H : Heap) (locs : List Loc), mH g S s H locs → ∀ ls : Array Slot, lv_has ls 8 [(0, .ref x0), (3, .long x3), (5, .int x5)] → W p l e rm_X4_mixCalls s m args below meth c H locs 0 0 (vx_MQ below (va_Ql Q (wO g) (mB g)) (vx_X (fun _ : mmS => True) (fun E S1 t => X E S1 ∧ wO g S1 t) (mB g)) args s rm_X4_mixCalls.cells rm_X4_mixCalls.slots (mB g)) (F0 m 5 ls []) := by
  intro S x0 x3 x5 hw H locs hH ls hl
  unfold bk_X4_mixCalls_5 at hw
  refine lv_iload hC.1 hC.2.1 dX4_mixCalls_5 (lv_at hl 2 rfl) ?_
  refine lv_aload_n hC.1 hC.2.1 dX4_mixCalls_7 rfl (lv_at hl 0 rfl) ?_
  obtain ⟨k1, hw⟩ := hw
  obtain ⟨b2, r3, hw⟩ := hw
  refine m_getR hC hs hH cs4 fs4_4 (fun _ h => List.mem_cons_of_mem _ (inlX4 _ h)) (List.mem_cons_of_mem _ q_20) (fun _ h => h) k1 r3 dX4_mixCalls_8 ?_
  obtain ⟨k5, hw⟩ := hw
  refine m_callVi (y := yJx4a65c_size_8abf5) (rest := [.int _]) hC hs hH hl.1 (cwV 0 hC.2.2.2.2 (gA_V q_80 q_81 q_82 q_15 q_83) rfl rfl rfl (by decide +kernel) ⟨Nat.le_of_ble_eq_true rfl, Nat.le_of_ble_eq_true rfl⟩) cs6 k5 (met_Jx4a65c_size_8abf5 l hl0 g _ _ _ _ hw) rfl rfl (Nat.le_of_ble_eq_true rfl) dX4_mixCalls_11 ⟨Nat.le_of_ble_eq_true rfl, Nat.le_of_ble_eq_true rfl⟩ (m_out (fun x hx => (hnx x hx).elim) hlk (Nat.le_of_ble_eq_true rfl) (Nat.le_of_ble_eq_true rfl)) (fun r6 S1 H locs hw hH => ?_)
  refine W.widen (k := 0) (n := 0) (Nat.le_of_ble_eq_true rfl) (Nat.le_of_ble_eq_true rfl) ?_
  refine lv_icmp_ge (tgt := 74) hC.1 hC.2.1 dX4_mixCalls_14 (by decide) (fun hc => ?_) (fun hc => ?_)
  · have hw := hw.1 hc
    refine lv_lload_n hC.1 hC.2.1 dX4_mixCalls_74 rfl (lv_at hl 1 rfl) ?_
    exact m_retl hC hH hrt hlk (Nat.le_of_ble_eq_true rfl) (Nat.le_of_ble_eq_true rfl) dX4_mixCalls_75 hw
  · have hw := hw.2 hc
    refine lv_aload_n hC.1 hC.2.1 dX4_mixCalls_17 rfl (lv_at hl 0 rfl) ?_
    obtain ⟨k7, hw⟩ := hw
    obtain ⟨b8, r9, hw⟩ := hw
    refine m_getR hC hs hH cs4 fs4_4 (fun _ h => List.mem_cons_of_mem _ (inlX4 _ h)) (List.mem_cons_of_mem _ q_20) (fun _ h => h) k7 r9 dX4_mixCalls_18 ?_
    refine lv_iload hC.1 hC.2.1 dX4_mixCalls_21 (lv_at hl 2 rfl) ?_
    obtain ⟨k11, hw⟩ := hw
    refine m_callVq (y := yJx4a65c_get_915e3) (rest := []) hC hs hH hl.1 (cwV 1 hC.2.2.2.2 (gA_V q_184 q_185 q_186 q_15 q_187) rfl rfl rfl (by decide +kernel) ⟨Nat.le_of_ble_eq_true rfl, Nat.le_of_ble_eq_true rfl⟩) cs6 k11 (met_Jx4a65c_get_915e3 l hl0 g _ _ _ _ _ hw) rfl rfl (Nat.le_of_ble_eq_true rfl) dX4_mixCalls_23 ⟨Nat.le_of_ble_eq_true rfl, Nat.le_of_ble_eq_true rfl⟩ (m_out (fun x hx => (hnx x hx).elim) hlk (Nat.le_of_ble_eq_true rfl) (Nat.le_of_ble_eq_true rfl)) (fun r12 S1 H locs hw hH => ?_)
    refine W.widen (k := 0) (n := 0) (Nat.le_of_ble_eq_true rfl) (Nat.le_of_ble_eq_true rfl) ?_
    obtain ⟨k13, hw⟩ := hw
    refine m_cast hC hs hH cs1 (List.mem_cons_of_mem _ q_209) k13 dX4_mixCalls_26 ?_
    refine lv_astore (lv' := [(6, .ref _), (0, .ref _), (3, .long _), (5, .int _)]) hC.1 hC.2.1 dX4_mixCalls_29 hl (by decide) rfl (fun ls hl => ?_)
    refine lv_lload_n hC.1 hC.2.1 dX4_mixCalls_31 rfl (lv_at hl 2 rfl) ?_
    refine lv_aload hC.1 hC.2.1 dX4_mixCalls_32 (lv_at hl 0 rfl) ?_
    refine m_getI hC hs hH cs1 fs1_0 (fun _ h => List.mem_cons_of_mem _ (inlX1 _ h)) (List.mem_cons_of_mem _ q_475) (fun _ h => h) k13 dX4_mixCalls_34 ?_
    refine m_callSl (y := yX4_mix) (rest := []) hC hs hH hl.1 (va_cwS 2 hC.2.2.2.2 (gA_S q_677 q_678 q_2 q_679) rfl rfl rfl (by decide +kernel) ⟨Nat.le_of_ble_eq_true rfl, Nat.le_of_ble_eq_true rfl⟩) (met_X4_mix l hl0 g _ _ _ _ _ hw) rfl rfl (Nat.le_of_ble_eq_true rfl) dX4_mixCalls_37 ⟨Nat.le_of_ble_eq_true rfl, Nat.le_of_ble_eq_true rfl⟩ (m_out (fun x hx => (hnx x hx).elim) hlk (Nat.le_of_ble_eq_true rfl) (Nat.le_of_ble_eq_true rfl)) (fun r15 S1 H locs hw hH => ?_)
    refine W.widen (k := 0) (n := 0) (Nat.le_of_ble_eq_true rfl) (Nat.le_of_ble_eq_true rfl) ?_
    refine lv_lstore_n (lv' := [(3, .long _), (6, .ref _), (0, .ref _), (5, .int _)]) hC.1 hC.2.1 dX4_mixCalls_40 rfl hl (by decide) rfl (fun ls hl => ?_)
    refine lv_iconst (v := 0) hC.1 hC.2.1 dX4_mixCalls_41 (by decide) ?_
    have hw := hw _ rfl
    refine lv_istore (lv' := [(7, .int _), (3, .long _), (6, .ref _), (0, .ref _), (5, .int _)]) hC.1 hC.2.1 dX4_mixCalls_42 hl (by decide) rfl (fun ls hl => ?_)
    obtain ⟨n, hw⟩ := hw
    exact lw_X4_mixCalls_44 hl0 hC hrt hlk hmn hnx hs hk5 n _ _ _ _ _ _ hw _ _ hH _ (lv_sub hl [3, 1, 4, 2, 0] rfl)
theorem lw_X4_mixCalls_5 {p : Program} {l : Launch} {e : Env} {s : State} {m : MethodId} {args : Array Value} {below : List Frame} {meth : Method} {c : Code} {g : mG} {Q : Int64 → mmS → Prop} {X : String → mmS → Prop} (hl0 : l.stackTraces = false) (hC : CallFix p m c cX4_mixCalls 8 s args (wA_ yX4_mixCalls cX4_mixCalls 8 (some .long)) RX4) (hrt : meth.sig.returnType = (some .long)) (hlk : meth.locks = false) (hmn : meth.name = yX4_mixCalls.name) (hnx : ∀ x ∈ c.exceptionTable.toList, False) (hs : mX g s) : ∀ (n : Nat) (S : mmS) (x0 : Nat) (x3 : Int64) (x5 : Int32), lp_X4_mixCalls_5 g.2.2.2.2.2 Q X n S x0 x3 x5 → ∀ (H : Heap) (locs : List Loc), mH g S s H locs → ∀ ls : Array Slot, lv_has ls 8 [(0, .ref x0), (3, .long x3), (5, .int x5)] → W p l e rm_X4_mixCalls s m args below meth c H locs 0 0 (vx_MQ below (va_Ql Q (wO g) (mB g)) (vx_X (fun _ : mmS => True) (fun E S1 t => X E S1 ∧ wO g S1 t) (mB g)) args s rm_X4_mixCalls.cells rm_X4_mixCalls.slots (mB g)) (F0 m 5 ls []) := by
  intro n
  induction n with
  | zero => intro S x0 x3 x5 hw; exact False.elim hw
  | succ n ih => exact fun S x0 x3 x5 hw => bw_X4_mixCalls_5 hl0 hC hrt hlk hmn hnx hs (K5 := lp_X4_mixCalls_5 g.2.2.2.2.2 Q X n) ih S x0 x3 x5 hw
set_option maxHeartbeats 4000000 in
set_option maxRecDepth 100000 in
theorem met_X4_mixCalls (l : Launch) (hl0 : l.stackTraces = false) (g : mG) (S : mmS) (p0 : Nat) (p1 : Int64) (Q : Int64 → mmS → Prop) (X : String → mmS → Prop) (hw : wp_X4_mixCalls g.2.2.2.2.2 S p0 p1 Q X) : mMl l g yX4_mixCalls (wA_ yX4_mixCalls cX4_mixCalls 8 (some .long)) rm_X4_mixCalls [.ref p0, .long p1] S Q X := by
  refine m_of (y := yX4_mixCalls) (cc := cX4_mixCalls) (maxL := 8) (ret := (some .long)) (by decide) rfl (Nat.le_of_ble_eq_true rfl) ?_
  intro p e s m args below meth c ls hC hrt hlk hmn hnx hs hH hl
  have hC : CallFix p m c cX4_mixCalls 8 s args (wA_ yX4_mixCalls cX4_mixCalls 8 (some .long)) RX4 := hC
  have hl : lv_has ls 8 [(0, .ref p0), (1, .long p1)] := hl
  unfold wp_X4_mixCalls at hw
  refine lv_lload_n hC.1 hC.2.1 dX4_mixCalls_0 rfl (lv_at hl 1 rfl) ?_
  refine lv_lstore_n (lv' := [(3, .long _), (0, .ref _), (1, .long _)]) hC.1 hC.2.1 dX4_mixCalls_1 rfl hl (by decide) rfl (fun ls hl => ?_)
  refine lv_iconst (v := 0) hC.1 hC.2.1 dX4_mixCalls_2 (by decide) ?_
  have hw := hw _ rfl
  refine lv_istore (lv' := [(5, .int _), (3, .long _), (0, .ref _), (1, .long _)]) hC.1 hC.2.1 dX4_mixCalls_3 hl (by decide) rfl (fun ls hl => ?_)
  obtain ⟨n, hw⟩ := hw
  exact lw_X4_mixCalls_5 hl0 hC hrt hlk hmn hnx hs n _ _ _ _ hw _ _ hH _ (lv_sub hl [2, 1, 0] rfl)
abbrev rm_X4_digest : Room := { frames := 5, cells := 0, slots := 0, locals := 91 }
def wp_X4_digest (z : Nat × Nat) (S : mmS) (p0 : Nat) (Q : Int64 → mmS → Prop) (X : String → mmS → Prop) : Prop := ∀ v1 : Int64, v1 = (193 : Int64) → (p0 ∈ mL S ∧ mK S p0 = 4) ∧ ∃ b3 : Nat, mR S 8 p0 = some b3 ∧ (b3 ∈ mL S ∧ mK S b3 = 6) ∧ wp_Jx4a65c_size_8abf5 z S b3 (fun r7 S5 => wp_X4_mix z S5 v1 r7 (fun r9 S8 => (p0 ∈ mL S8 ∧ mK S8 p0 = 4) ∧ ∃ b11 : Nat, mR S8 9 p0 = some b11 ∧ (b11 ∈ mL S8 ∧ mK S8 b11 = 6) ∧ wp_Jx4a65c_size_8abf5 z S8 b11 (fun r15 S13 => wp_X4_mix z S13 r9 r15 (fun r17 S16 => (p0 ∈ mL S16 ∧ mK S16 p0 = 4) ∧ ∃ b19 : Nat, mR S16 10 p0 = some b19 ∧ (b19 ∈ mL S16 ∧ mK S16 b19 = 6) ∧ wp_Jx4a65c_size_8abf5 z S16 b19 (fun r23 S21 => wp_X4_mix z S21 r17 r23 (fun r25 S24 => (p0 ∈ mL S24 ∧ mK S24 p0 = 4) ∧ ∃ b27 : Nat, mR S24 11 p0 = some b27 ∧ (b27 ∈ mL S24 ∧ mK S24 b27 = 6) ∧ wp_Jx4a65c_size_8abf5 z S24 b27 (fun r31 S29 => wp_X4_mix z S29 r25 r31 (fun r33 S32 => (p0 ∈ mL S32 ∧ mK S32 p0 = 4) ∧ wp_X4_mix z S32 r33 (mI S32 21 p0) (fun r36 S35 => (p0 ∈ mL S35 ∧ mK S35 p0 = 4) ∧ wp_X4_mix z S35 r36 (mI S35 22 p0) (fun r39 S38 => (p0 ∈ mL S38 ∧ mK S38 p0 = 4) ∧ wp_X4_mixLines z S38 p0 r39 (fun r42 S40 => (p0 ∈ mL S40 ∧ mK S40 p0 = 4) ∧ wp_X4_mixAccounts z S40 p0 r42 (fun r45 S43 => (p0 ∈ mL S43 ∧ mK S43 p0 = 4) ∧ wp_X4_mixCalls z S43 p0 r45 (fun r48 S46 => Q r48 S46) X) X) X) X) X) X) X) X) X) X) X) X) X
set_option maxHeartbeats 4000000 in
set_option maxRecDepth 100000 in
theorem met_X4_digest (l : Launch) (hl0 : l.stackTraces = false) (g : mG) (S : mmS) (p0 : Nat) (Q : Int64 → mmS → Prop) (X : String → mmS → Prop) (hw : wp_X4_digest g.2.2.2.2.2 S p0 Q X) : mMl l g yX4_digest (wA_ yX4_digest cX4_digest 3 (some .long)) rm_X4_digest [.ref p0] S Q X := by
  refine m_of (y := yX4_digest) (cc := cX4_digest) (maxL := 3) (ret := (some .long)) (by decide) rfl (Nat.le_of_ble_eq_true rfl) ?_
  intro p e s m args below meth c ls hC hrt hlk hmn hnx hs hH hl
  have hC : CallFix p m c cX4_digest 3 s args (wA_ yX4_digest cX4_digest 3 (some .long)) RX4 := hC
  have hl : lv_has ls 3 [(0, .ref p0)] := hl
  unfold wp_X4_digest at hw
  refine lv_ldc2 hC.1 hC.2.1 hC.2.2.2.1 (hC.2.2.2.2 _ (List.mem_cons_of_mem _ q_676)) dX4_digest_0 ?_
  have hw := hw _ rfl
  refine lv_lstore_n (lv' := [(1, .long _), (0, .ref _)]) hC.1 hC.2.1 dX4_digest_3 rfl hl (by decide) rfl (fun ls hl => ?_)
  refine lv_lload_n hC.1 hC.2.1 dX4_digest_4 rfl (lv_at hl 0 rfl) ?_
  refine lv_aload_n hC.1 hC.2.1 dX4_digest_5 rfl (lv_at hl 1 rfl) ?_
  obtain ⟨k2, hw⟩ := hw
  obtain ⟨b3, r4, hw⟩ := hw
  refine m_getR hC hs hH cs4 fs4_0 (fun _ h => List.mem_cons_of_mem _ (inlX4 _ h)) (List.mem_cons_of_mem _ q_16) (fun _ h => h) k2 r4 dX4_digest_6 ?_
  obtain ⟨k6, hw⟩ := hw
  refine m_callVi (y := yJx4a65c_size_8abf5) (rest := [.long _]) hC hs hH hl.1 (cwV 0 hC.2.2.2.2 (gA_V q_80 q_81 q_82 q_15 q_83) rfl rfl rfl (by decide +kernel) ⟨Nat.le_of_ble_eq_true rfl, Nat.le_of_ble_eq_true rfl⟩) cs6 k6 (met_Jx4a65c_size_8abf5 l hl0 g _ _ _ _ hw) rfl rfl (Nat.le_of_ble_eq_true rfl) dX4_digest_9 ⟨Nat.le_of_ble_eq_true rfl, Nat.le_of_ble_eq_true rfl⟩ (m_out (fun x hx => (hnx x hx).elim) hlk (Nat.le_of_ble_eq_true rfl) (Nat.le_of_ble_eq_true rfl)) (fun r7 S1 H locs hw hH => ?_)
  refine W.widen (k := 0) (n := 0) (Nat.le_of_ble_eq_true rfl) (Nat.le_of_ble_eq_true rfl) ?_
  refine m_callSl (y := yX4_mix) (rest := []) hC hs hH hl.1 (va_cwS 2 hC.2.2.2.2 (gA_S q_677 q_678 q_2 q_679) rfl rfl rfl (by decide +kernel) ⟨Nat.le_of_ble_eq_true rfl, Nat.le_of_ble_eq_true rfl⟩) (met_X4_mix l hl0 g _ _ _ _ _ hw) rfl rfl (Nat.le_of_ble_eq_true rfl) dX4_digest_12 ⟨Nat.le_of_ble_eq_true rfl, Nat.le_of_ble_eq_true rfl⟩ (m_out (fun x hx => (hnx x hx).elim) hlk (Nat.le_of_ble_eq_true rfl) (Nat.le_of_ble_eq_true rfl)) (fun r9 S1 H locs hw hH => ?_)
  refine W.widen (k := 0) (n := 0) (Nat.le_of_ble_eq_true rfl) (Nat.le_of_ble_eq_true rfl) ?_
  refine lv_lstore_n (lv' := [(1, .long _), (0, .ref _)]) hC.1 hC.2.1 dX4_digest_15 rfl hl (by decide) rfl (fun ls hl => ?_)
  refine lv_lload_n hC.1 hC.2.1 dX4_digest_16 rfl (lv_at hl 0 rfl) ?_
  refine lv_aload_n hC.1 hC.2.1 dX4_digest_17 rfl (lv_at hl 1 rfl) ?_
  obtain ⟨k10, hw⟩ := hw
  obtain ⟨b11, r12, hw⟩ := hw
  refine m_getR hC hs hH cs4 fs4_1 (fun _ h => List.mem_cons_of_mem _ (inlX4 _ h)) (List.mem_cons_of_mem _ q_17) (fun _ h => h) k10 r12 dX4_digest_18 ?_
  obtain ⟨k14, hw⟩ := hw
  refine m_callVi (y := yJx4a65c_size_8abf5) (rest := [.long _]) hC hs hH hl.1 (cwV 0 hC.2.2.2.2 (gA_V q_80 q_81 q_82 q_15 q_83) rfl rfl rfl (by decide +kernel) ⟨Nat.le_of_ble_eq_true rfl, Nat.le_of_ble_eq_true rfl⟩) cs6 k14 (met_Jx4a65c_size_8abf5 l hl0 g _ _ _ _ hw) rfl rfl (Nat.le_of_ble_eq_true rfl) dX4_digest_21 ⟨Nat.le_of_ble_eq_true rfl, Nat.le_of_ble_eq_true rfl⟩ (m_out (fun x hx => (hnx x hx).elim) hlk (Nat.le_of_ble_eq_true rfl) (Nat.le_of_ble_eq_true rfl)) (fun r15 S1 H locs hw hH => ?_)
  refine W.widen (k := 0) (n := 0) (Nat.le_of_ble_eq_true rfl) (Nat.le_of_ble_eq_true rfl) ?_
  refine m_callSl (y := yX4_mix) (rest := []) hC hs hH hl.1 (va_cwS 2 hC.2.2.2.2 (gA_S q_677 q_678 q_2 q_679) rfl rfl rfl (by decide +kernel) ⟨Nat.le_of_ble_eq_true rfl, Nat.le_of_ble_eq_true rfl⟩) (met_X4_mix l hl0 g _ _ _ _ _ hw) rfl rfl (Nat.le_of_ble_eq_true rfl) dX4_digest_24 ⟨Nat.le_of_ble_eq_true rfl, Nat.le_of_ble_eq_true rfl⟩ (m_out (fun x hx => (hnx x hx).elim) hlk (Nat.le_of_ble_eq_true rfl) (Nat.le_of_ble_eq_true rfl)) (fun r17 S1 H locs hw hH => ?_)
  refine W.widen (k := 0) (n := 0) (Nat.le_of_ble_eq_true rfl) (Nat.le_of_ble_eq_true rfl) ?_
  refine lv_lstore_n (lv' := [(1, .long _), (0, .ref _)]) hC.1 hC.2.1 dX4_digest_27 rfl hl (by decide) rfl (fun ls hl => ?_)
  refine lv_lload_n hC.1 hC.2.1 dX4_digest_28 rfl (lv_at hl 0 rfl) ?_
  refine lv_aload_n hC.1 hC.2.1 dX4_digest_29 rfl (lv_at hl 1 rfl) ?_
  obtain ⟨k18, hw⟩ := hw
  obtain ⟨b19, r20, hw⟩ := hw
  refine m_getR hC hs hH cs4 fs4_2 (fun _ h => List.mem_cons_of_mem _ (inlX4 _ h)) (List.mem_cons_of_mem _ q_18) (fun _ h => h) k18 r20 dX4_digest_30 ?_
  obtain ⟨k22, hw⟩ := hw
  refine m_callVi (y := yJx4a65c_size_8abf5) (rest := [.long _]) hC hs hH hl.1 (cwV 0 hC.2.2.2.2 (gA_V q_80 q_81 q_82 q_15 q_83) rfl rfl rfl (by decide +kernel) ⟨Nat.le_of_ble_eq_true rfl, Nat.le_of_ble_eq_true rfl⟩) cs6 k22 (met_Jx4a65c_size_8abf5 l hl0 g _ _ _ _ hw) rfl rfl (Nat.le_of_ble_eq_true rfl) dX4_digest_33 ⟨Nat.le_of_ble_eq_true rfl, Nat.le_of_ble_eq_true rfl⟩ (m_out (fun x hx => (hnx x hx).elim) hlk (Nat.le_of_ble_eq_true rfl) (Nat.le_of_ble_eq_true rfl)) (fun r23 S1 H locs hw hH => ?_)
  refine W.widen (k := 0) (n := 0) (Nat.le_of_ble_eq_true rfl) (Nat.le_of_ble_eq_true rfl) ?_
  refine m_callSl (y := yX4_mix) (rest := []) hC hs hH hl.1 (va_cwS 2 hC.2.2.2.2 (gA_S q_677 q_678 q_2 q_679) rfl rfl rfl (by decide +kernel) ⟨Nat.le_of_ble_eq_true rfl, Nat.le_of_ble_eq_true rfl⟩) (met_X4_mix l hl0 g _ _ _ _ _ hw) rfl rfl (Nat.le_of_ble_eq_true rfl) dX4_digest_36 ⟨Nat.le_of_ble_eq_true rfl, Nat.le_of_ble_eq_true rfl⟩ (m_out (fun x hx => (hnx x hx).elim) hlk (Nat.le_of_ble_eq_true rfl) (Nat.le_of_ble_eq_true rfl)) (fun r25 S1 H locs hw hH => ?_)
  refine W.widen (k := 0) (n := 0) (Nat.le_of_ble_eq_true rfl) (Nat.le_of_ble_eq_true rfl) ?_
  refine lv_lstore_n (lv' := [(1, .long _), (0, .ref _)]) hC.1 hC.2.1 dX4_digest_39 rfl hl (by decide) rfl (fun ls hl => ?_)
  refine lv_lload_n hC.1 hC.2.1 dX4_digest_40 rfl (lv_at hl 0 rfl) ?_
  refine lv_aload_n hC.1 hC.2.1 dX4_digest_41 rfl (lv_at hl 1 rfl) ?_
  obtain ⟨k26, hw⟩ := hw
  obtain ⟨b27, r28, hw⟩ := hw
  refine m_getR hC hs hH cs4 fs4_3 (fun _ h => List.mem_cons_of_mem _ (inlX4 _ h)) (List.mem_cons_of_mem _ q_19) (fun _ h => h) k26 r28 dX4_digest_42 ?_
  obtain ⟨k30, hw⟩ := hw
  refine m_callVi (y := yJx4a65c_size_8abf5) (rest := [.long _]) hC hs hH hl.1 (cwV 0 hC.2.2.2.2 (gA_V q_80 q_81 q_82 q_15 q_83) rfl rfl rfl (by decide +kernel) ⟨Nat.le_of_ble_eq_true rfl, Nat.le_of_ble_eq_true rfl⟩) cs6 k30 (met_Jx4a65c_size_8abf5 l hl0 g _ _ _ _ hw) rfl rfl (Nat.le_of_ble_eq_true rfl) dX4_digest_45 ⟨Nat.le_of_ble_eq_true rfl, Nat.le_of_ble_eq_true rfl⟩ (m_out (fun x hx => (hnx x hx).elim) hlk (Nat.le_of_ble_eq_true rfl) (Nat.le_of_ble_eq_true rfl)) (fun r31 S1 H locs hw hH => ?_)
  refine W.widen (k := 0) (n := 0) (Nat.le_of_ble_eq_true rfl) (Nat.le_of_ble_eq_true rfl) ?_
  refine m_callSl (y := yX4_mix) (rest := []) hC hs hH hl.1 (va_cwS 2 hC.2.2.2.2 (gA_S q_677 q_678 q_2 q_679) rfl rfl rfl (by decide +kernel) ⟨Nat.le_of_ble_eq_true rfl, Nat.le_of_ble_eq_true rfl⟩) (met_X4_mix l hl0 g _ _ _ _ _ hw) rfl rfl (Nat.le_of_ble_eq_true rfl) dX4_digest_48 ⟨Nat.le_of_ble_eq_true rfl, Nat.le_of_ble_eq_true rfl⟩ (m_out (fun x hx => (hnx x hx).elim) hlk (Nat.le_of_ble_eq_true rfl) (Nat.le_of_ble_eq_true rfl)) (fun r33 S1 H locs hw hH => ?_)
  refine W.widen (k := 0) (n := 0) (Nat.le_of_ble_eq_true rfl) (Nat.le_of_ble_eq_true rfl) ?_
  refine lv_lstore_n (lv' := [(1, .long _), (0, .ref _)]) hC.1 hC.2.1 dX4_digest_51 rfl hl (by decide) rfl (fun ls hl => ?_)
  refine lv_lload_n hC.1 hC.2.1 dX4_digest_52 rfl (lv_at hl 0 rfl) ?_
  refine lv_aload_n hC.1 hC.2.1 dX4_digest_53 rfl (lv_at hl 1 rfl) ?_
  obtain ⟨k34, hw⟩ := hw
  refine m_getI hC hs hH cs4 fs4_5 (fun _ h => List.mem_cons_of_mem _ (inlX4 _ h)) (List.mem_cons_of_mem _ q_21) (fun _ h => h) k34 dX4_digest_54 ?_
  refine m_callSl (y := yX4_mix) (rest := []) hC hs hH hl.1 (va_cwS 2 hC.2.2.2.2 (gA_S q_677 q_678 q_2 q_679) rfl rfl rfl (by decide +kernel) ⟨Nat.le_of_ble_eq_true rfl, Nat.le_of_ble_eq_true rfl⟩) (met_X4_mix l hl0 g _ _ _ _ _ hw) rfl rfl (Nat.le_of_ble_eq_true rfl) dX4_digest_57 ⟨Nat.le_of_ble_eq_true rfl, Nat.le_of_ble_eq_true rfl⟩ (m_out (fun x hx => (hnx x hx).elim) hlk (Nat.le_of_ble_eq_true rfl) (Nat.le_of_ble_eq_true rfl)) (fun r36 S1 H locs hw hH => ?_)
  refine W.widen (k := 0) (n := 0) (Nat.le_of_ble_eq_true rfl) (Nat.le_of_ble_eq_true rfl) ?_
  refine lv_lstore_n (lv' := [(1, .long _), (0, .ref _)]) hC.1 hC.2.1 dX4_digest_60 rfl hl (by decide) rfl (fun ls hl => ?_)
  refine lv_lload_n hC.1 hC.2.1 dX4_digest_61 rfl (lv_at hl 0 rfl) ?_
  refine lv_aload_n hC.1 hC.2.1 dX4_digest_62 rfl (lv_at hl 1 rfl) ?_
  obtain ⟨k37, hw⟩ := hw
  refine m_getI hC hs hH cs4 fs4_6 (fun _ h => List.mem_cons_of_mem _ (inlX4 _ h)) (List.mem_cons_of_mem _ q_22) (fun _ h => h) k37 dX4_digest_63 ?_
  refine m_callSl (y := yX4_mix) (rest := []) hC hs hH hl.1 (va_cwS 2 hC.2.2.2.2 (gA_S q_677 q_678 q_2 q_679) rfl rfl rfl (by decide +kernel) ⟨Nat.le_of_ble_eq_true rfl, Nat.le_of_ble_eq_true rfl⟩) (met_X4_mix l hl0 g _ _ _ _ _ hw) rfl rfl (Nat.le_of_ble_eq_true rfl) dX4_digest_66 ⟨Nat.le_of_ble_eq_true rfl, Nat.le_of_ble_eq_true rfl⟩ (m_out (fun x hx => (hnx x hx).elim) hlk (Nat.le_of_ble_eq_true rfl) (Nat.le_of_ble_eq_true rfl)) (fun r39 S1 H locs hw hH => ?_)
  refine W.widen (k := 0) (n := 0) (Nat.le_of_ble_eq_true rfl) (Nat.le_of_ble_eq_true rfl) ?_
  refine lv_lstore_n (lv' := [(1, .long _), (0, .ref _)]) hC.1 hC.2.1 dX4_digest_69 rfl hl (by decide) rfl (fun ls hl => ?_)
  refine lv_aload_n hC.1 hC.2.1 dX4_digest_70 rfl (lv_at hl 1 rfl) ?_
  refine lv_lload_n hC.1 hC.2.1 dX4_digest_71 rfl (lv_at hl 0 rfl) ?_
  obtain ⟨k41, hw⟩ := hw
  refine m_callVl (y := yX4_mixLines) (rest := []) hC hs hH hl.1 (cwV 1 hC.2.2.2.2 (gA_V q_681 q_682 q_683 q_2 q_684) rfl rfl rfl (by decide +kernel) ⟨Nat.le_of_ble_eq_true rfl, Nat.le_of_ble_eq_true rfl⟩) cs4 k41 (met_X4_mixLines l hl0 g _ _ _ _ _ hw) rfl rfl (Nat.le_of_ble_eq_true rfl) dX4_digest_72 ⟨Nat.le_of_ble_eq_true rfl, Nat.le_of_ble_eq_true rfl⟩ (m_out (fun x hx => (hnx x hx).elim) hlk (Nat.le_of_ble_eq_true rfl) (Nat.le_of_ble_eq_true rfl)) (fun r42 S1 H locs hw hH => ?_)
  refine W.widen (k := 0) (n := 0) (Nat.le_of_ble_eq_true rfl) (Nat.le_of_ble_eq_true rfl) ?_
  refine lv_lstore_n (lv' := [(1, .long _), (0, .ref _)]) hC.1 hC.2.1 dX4_digest_75 rfl hl (by decide) rfl (fun ls hl => ?_)
  refine lv_aload_n hC.1 hC.2.1 dX4_digest_76 rfl (lv_at hl 1 rfl) ?_
  refine lv_lload_n hC.1 hC.2.1 dX4_digest_77 rfl (lv_at hl 0 rfl) ?_
  obtain ⟨k44, hw⟩ := hw
  refine m_callVl (y := yX4_mixAccounts) (rest := []) hC hs hH hl.1 (cwV 1 hC.2.2.2.2 (gA_V q_685 q_686 q_687 q_2 q_688) rfl rfl rfl (by decide +kernel) ⟨Nat.le_of_ble_eq_true rfl, Nat.le_of_ble_eq_true rfl⟩) cs4 k44 (met_X4_mixAccounts l hl0 g _ _ _ _ _ hw) rfl rfl (Nat.le_of_ble_eq_true rfl) dX4_digest_78 ⟨Nat.le_of_ble_eq_true rfl, Nat.le_of_ble_eq_true rfl⟩ (m_out (fun x hx => (hnx x hx).elim) hlk (Nat.le_of_ble_eq_true rfl) (Nat.le_of_ble_eq_true rfl)) (fun r45 S1 H locs hw hH => ?_)
  refine W.widen (k := 0) (n := 0) (Nat.le_of_ble_eq_true rfl) (Nat.le_of_ble_eq_true rfl) ?_
  refine lv_lstore_n (lv' := [(1, .long _), (0, .ref _)]) hC.1 hC.2.1 dX4_digest_81 rfl hl (by decide) rfl (fun ls hl => ?_)
  refine lv_aload_n hC.1 hC.2.1 dX4_digest_82 rfl (lv_at hl 1 rfl) ?_
  refine lv_lload_n hC.1 hC.2.1 dX4_digest_83 rfl (lv_at hl 0 rfl) ?_
  obtain ⟨k47, hw⟩ := hw
  refine m_callVl (y := yX4_mixCalls) (rest := []) hC hs hH hl.1 (cwV 1 hC.2.2.2.2 (gA_V q_689 q_690 q_691 q_2 q_692) rfl rfl rfl (by decide +kernel) ⟨Nat.le_of_ble_eq_true rfl, Nat.le_of_ble_eq_true rfl⟩) cs4 k47 (met_X4_mixCalls l hl0 g _ _ _ _ _ hw) rfl rfl (Nat.le_of_ble_eq_true rfl) dX4_digest_84 ⟨Nat.le_of_ble_eq_true rfl, Nat.le_of_ble_eq_true rfl⟩ (m_out (fun x hx => (hnx x hx).elim) hlk (Nat.le_of_ble_eq_true rfl) (Nat.le_of_ble_eq_true rfl)) (fun r48 S1 H locs hw hH => ?_)
  refine W.widen (k := 0) (n := 0) (Nat.le_of_ble_eq_true rfl) (Nat.le_of_ble_eq_true rfl) ?_
  exact m_retl hC hH hrt hlk (Nat.le_of_ble_eq_true rfl) (Nat.le_of_ble_eq_true rfl) dX4_digest_87 hw
