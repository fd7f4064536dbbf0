/-! 13.model: weakest preconditions and walks, laid by wip/whole/gen.py -/
abbrev rm_X5_init : Room := { frames := 1, cells := 12, slots := 621, locals := 24 }
def wp_X5_init (z : Nat × Nat) (S : mmS) (p0 : Nat) (Q : mmS → Prop) (X : String → mmS → Prop) : Prop := ∀ q1 : Nat, q1 ∉ mL S → ∀ S3 : mmS, S3 = sNa S q1 45 → (p0 ∈ mL S3 ∧ mK S3 p0 = 5) ∧ ∀ S5 : mmS, S5 = sR S3 13 p0 (some q1) → ∀ q6 : Nat, q6 ∉ mL S5 → ∀ S8 : mmS, S8 = sNa S5 q6 12 → ∀ S9 : mmS, S9 = sR S8 14 p0 (some q6) → ∀ q10 : Nat, q10 ∉ mL S9 → ∀ S12 : mmS, S12 = sNa S9 q10 8 → ∀ S13 : mmS, S13 = sR S12 15 p0 (some q10) → ∀ q14 : Nat, q14 ∉ mL S13 → ∀ S16 : mmS, S16 = sNa S13 q14 8 → ∀ S17 : mmS, S17 = sR S16 16 p0 (some q14) → ∀ q18 : Nat, q18 ∉ mL S17 → ∀ S20 : mmS, S20 = sNa S17 q18 240 → ∀ S21 : mmS, S21 = sR S20 17 p0 (some q18) → ∀ S22 : mmS, S22 = sI S21 28 p0 (480 : Int32) → ∀ S23 : mmS, S23 = sI S22 29 p0 (1079 : Int32) → ∀ q24 : Nat, q24 ∉ mL S23 → ∀ S26 : mmS, S26 = sNa S23 q24 60 → ∀ S27 : mmS, S27 = sR S26 18 p0 (some q24) → ∀ q28 : Nat, q28 ∉ mL S27 → ∀ S30 : mmS, S30 = sNa S27 q28 60 → ∀ S31 : mmS, S31 = sR S30 19 p0 (some q28) → ∀ q32 : Nat, q32 ∉ mL S31 → ∀ S34 : mmS, S34 = sNa S31 q32 60 → ∀ S35 : mmS, S35 = sR S34 20 p0 (some q32) → ∀ q36 : Nat, q36 ∉ mL S35 → ∀ S38 : mmS, S38 = sNa S35 q36 60 → ∀ S39 : mmS, S39 = sR S38 21 p0 (some q36) → ∀ q40 : Nat, q40 ∉ mL S39 → ∀ S42 : mmS, S42 = sNa S39 q40 60 → ∀ S43 : mmS, S43 = sR S42 22 p0 (some q40) → ∀ q44 : Nat, q44 ∉ mL S43 → ∀ S46 : mmS, S46 = sNa S43 q44 4 → ∀ S47 : mmS, S47 = sR S46 23 p0 (some q44) → ∀ q48 : Nat, q48 ∉ mL S47 → ∀ S50 : mmS, S50 = sNa S47 q48 4 → ∀ S51 : mmS, S51 = sR S50 24 p0 (some q48) → Q S51
set_option maxHeartbeats 4000000 in
set_option maxRecDepth 100000 in
theorem met_X5_init (l : Launch) (hl0 : l.stackTraces = false) (g : mG) (S : mmS) (p0 : Nat) (Q : mmS → Prop) (X : String → mmS → Prop) (hw : wp_X5_init g.2.2.2.2.2 S p0 Q X) : mMv l g yX5_init (wA_ yX5_init cX5_init 1 none) rm_X5_init [.ref p0] S Q X := by
  refine m_of (y := yX5_init) (cc := cX5_init) (maxL := 1) (ret := none) (by decide) rfl (Nat.le_of_ble_eq_true rfl) ?_
  intro p e s m args below meth c ls hC hrt hlk hmn hnx hs hH hl
  have hC : CallFix p m c cX5_init 1 s args (wA_ yX5_init cX5_init 1 none) RX5 := hC
  have hl : lv_has ls 1 [(0, .ref p0)] := hl
  unfold wp_X5_init at hw
  refine lv_aload_n hC.1 hC.2.1 dX5_init_0 rfl (lv_at hl 0 rfl) ?_
  refine m_objInit hC hl.1 (List.mem_cons_of_mem _ q_41) (List.mem_cons_of_mem _ q_11) (List.mem_cons_of_mem _ q_12) (Nat.le_of_ble_eq_true rfl) (Nat.le_of_ble_eq_true rfl) dX5_init_1 ?_
  refine lv_aload_n hC.1 hC.2.1 dX5_init_4 rfl (lv_at hl 0 rfl) ?_
  refine lv_bipush (v := 45) hC.1 hC.2.1 dX5_init_5 (by decide) ?_
  refine m_newI (N' := 45) hC hs hH (List.mem_cons_of_mem _ q_42) (by decide) (by decide) (by decide) (Nat.le_of_ble_eq_true rfl) (Nat.le_of_ble_eq_true rfl) dX5_init_7 (fun q1 H f2 hH => ?_)
  have hw := hw q1 f2 _ rfl
  refine W.widen (k := 1) (n := 45) (Nat.le_of_ble_eq_true rfl) (Nat.le_of_ble_eq_true rfl) ?_
  obtain ⟨k4, hw⟩ := hw
  have hw := hw _ rfl
  refine m_putR hC hs hH cs5 fs5_2 (fun _ h => List.mem_cons_of_mem _ (inlX5 _ h)) (List.mem_cons_of_mem _ q_43) (fun _ h => h) (Or.inr ⟨rfl, hmn, rfl⟩) rfl rfl k4 dX5_init_9 (fun H locs hH => ?_)
  refine lv_aload_n hC.1 hC.2.1 dX5_init_12 rfl (lv_at hl 0 rfl) ?_
  refine lv_bipush (v := 12) hC.1 hC.2.1 dX5_init_13 (by decide) ?_
  refine m_newI (N' := 12) hC hs hH (List.mem_cons_of_mem _ q_42) (by decide) (by decide) (by decide) (Nat.le_of_ble_eq_true rfl) (Nat.le_of_ble_eq_true rfl) dX5_init_15 (fun q6 H f7 hH => ?_)
  have hw := hw q6 f7 _ rfl
  refine W.widen (k := 2) (n := 57) (Nat.le_of_ble_eq_true rfl) (Nat.le_of_ble_eq_true rfl) ?_
  have hw := hw _ rfl
  refine m_putR hC hs hH cs5 fs5_4 (fun _ h => List.mem_cons_of_mem _ (inlX5 _ h)) (List.mem_cons_of_mem _ q_44) (fun _ h => h) (Or.inr ⟨rfl, hmn, rfl⟩) rfl rfl (mkN k4 f7) dX5_init_17 (fun H locs hH => ?_)
  refine lv_aload_n hC.1 hC.2.1 dX5_init_20 rfl (lv_at hl 0 rfl) ?_
  refine lv_bipush (v := 8) hC.1 hC.2.1 dX5_init_21 (by decide) ?_
  refine m_newI (N' := 8) hC hs hH (List.mem_cons_of_mem _ q_42) (by decide) (by decide) (by decide) (Nat.le_of_ble_eq_true rfl) (Nat.le_of_ble_eq_true rfl) dX5_init_23 (fun q10 H f11 hH => ?_)
  have hw := hw q10 f11 _ rfl
  refine W.widen (k := 3) (n := 65) (Nat.le_of_ble_eq_true rfl) (Nat.le_of_ble_eq_true rfl) ?_
  have hw := hw _ rfl
  refine m_putR hC hs hH cs5 fs5_6 (fun _ h => List.mem_cons_of_mem _ (inlX5 _ h)) (List.mem_cons_of_mem _ q_45) (fun _ h => h) (Or.inr ⟨rfl, hmn, rfl⟩) rfl rfl (mkN (mkN k4 f7) f11) dX5_init_25 (fun H locs hH => ?_)
  refine lv_aload_n hC.1 hC.2.1 dX5_init_28 rfl (lv_at hl 0 rfl) ?_
  refine lv_bipush (v := 8) hC.1 hC.2.1 dX5_init_29 (by decide) ?_
  refine m_newI (N' := 8) hC hs hH (List.mem_cons_of_mem _ q_42) (by decide) (by decide) (by decide) (Nat.le_of_ble_eq_true rfl) (Nat.le_of_ble_eq_true rfl) dX5_init_31 (fun q14 H f15 hH => ?_)
  have hw := hw q14 f15 _ rfl
  refine W.widen (k := 4) (n := 73) (Nat.le_of_ble_eq_true rfl) (Nat.le_of_ble_eq_true rfl) ?_
  have hw := hw _ rfl
  refine m_putR hC hs hH cs5 fs5_7 (fun _ h => List.mem_cons_of_mem _ (inlX5 _ h)) (List.mem_cons_of_mem _ q_46) (fun _ h => h) (Or.inr ⟨rfl, hmn, rfl⟩) rfl rfl (mkN (mkN (mkN k4 f7) f11) f15) dX5_init_33 (fun H locs hH => ?_)
  refine lv_aload_n hC.1 hC.2.1 dX5_init_36 rfl (lv_at hl 0 rfl) ?_
  refine lv_sipush (v := 240) hC.1 hC.2.1 dX5_init_37 (by decide) ?_
  refine m_newI (N' := 240) hC hs hH (List.mem_cons_of_mem _ q_42) (by decide) (by decide) (by decide) (Nat.le_of_ble_eq_true rfl) (Nat.le_of_ble_eq_true rfl) dX5_init_40 (fun q18 H f19 hH => ?_)
  have hw := hw q18 f19 _ rfl
  refine W.widen (k := 5) (n := 313) (Nat.le_of_ble_eq_true rfl) (Nat.le_of_ble_eq_true rfl) ?_
  have hw := hw _ rfl
  refine m_putR hC hs hH cs5 fs5_9 (fun _ h => List.mem_cons_of_mem _ (inlX5 _ h)) (List.mem_cons_of_mem _ q_47) (fun _ h => h) (Or.inr ⟨rfl, hmn, rfl⟩) rfl rfl (mkN (mkN (mkN (mkN k4 f7) f11) f15) f19) dX5_init_42 (fun H locs hH => ?_)
  refine lv_aload_n hC.1 hC.2.1 dX5_init_45 rfl (lv_at hl 0 rfl) ?_
  refine lv_sipush (v := 480) hC.1 hC.2.1 dX5_init_46 (by decide) ?_
  have hw := hw _ rfl
  refine m_putI hC hs hH cs5 fs5_10 (fun _ h => List.mem_cons_of_mem _ (inlX5 _ h)) (List.mem_cons_of_mem _ q_48) (fun _ h => h) (Or.inl rfl) rfl (mkN (mkN (mkN (mkN k4 f7) f11) f15) f19) dX5_init_49 (fun H locs hH => ?_)
  refine lv_aload_n hC.1 hC.2.1 dX5_init_52 rfl (lv_at hl 0 rfl) ?_
  refine lv_sipush (v := 1079) hC.1 hC.2.1 dX5_init_53 (by decide) ?_
  have hw := hw _ rfl
  refine m_putI hC hs hH cs5 fs5_11 (fun _ h => List.mem_cons_of_mem _ (inlX5 _ h)) (List.mem_cons_of_mem _ q_49) (fun _ h => h) (Or.inl rfl) rfl (mkN (mkN (mkN (mkN k4 f7) f11) f15) f19) dX5_init_56 (fun H locs hH => ?_)
  refine lv_aload_n hC.1 hC.2.1 dX5_init_59 rfl (lv_at hl 0 rfl) ?_
  refine lv_bipush (v := 60) hC.1 hC.2.1 dX5_init_60 (by decide) ?_
  refine m_newI (N' := 60) hC hs hH (List.mem_cons_of_mem _ q_42) (by decide) (by decide) (by decide) (Nat.le_of_ble_eq_true rfl) (Nat.le_of_ble_eq_true rfl) dX5_init_62 (fun q24 H f25 hH => ?_)
  have hw := hw q24 f25 _ rfl
  refine W.widen (k := 6) (n := 373) (Nat.le_of_ble_eq_true rfl) (Nat.le_of_ble_eq_true rfl) ?_
  have hw := hw _ rfl
  refine m_putR hC hs hH cs5 fs5_12 (fun _ h => List.mem_cons_of_mem _ (inlX5 _ h)) (List.mem_cons_of_mem _ q_50) (fun _ h => h) (Or.inr ⟨rfl, hmn, rfl⟩) rfl rfl (mkN (mkN (mkN (mkN (mkN k4 f7) f11) f15) f19) f25) dX5_init_64 (fun H locs hH => ?_)
  refine lv_aload_n hC.1 hC.2.1 dX5_init_67 rfl (lv_at hl 0 rfl) ?_
  refine lv_bipush (v := 60) hC.1 hC.2.1 dX5_init_68 (by decide) ?_
  refine m_newI (N' := 60) hC hs hH (List.mem_cons_of_mem _ q_42) (by decide) (by decide) (by decide) (Nat.le_of_ble_eq_true rfl) (Nat.le_of_ble_eq_true rfl) dX5_init_70 (fun q28 H f29 hH => ?_)
  have hw := hw q28 f29 _ rfl
  refine W.widen (k := 7) (n := 433) (Nat.le_of_ble_eq_true rfl) (Nat.le_of_ble_eq_true rfl) ?_
  have hw := hw _ rfl
  refine m_putR hC hs hH cs5 fs5_13 (fun _ h => List.mem_cons_of_mem _ (inlX5 _ h)) (List.mem_cons_of_mem _ q_51) (fun _ h => h) (Or.inr ⟨rfl, hmn, rfl⟩) rfl rfl (mkN (mkN (mkN (mkN (mkN (mkN k4 f7) f11) f15) f19) f25) f29) dX5_init_72 (fun H locs hH => ?_)
  refine lv_aload_n hC.1 hC.2.1 dX5_init_75 rfl (lv_at hl 0 rfl) ?_
  refine lv_bipush (v := 60) hC.1 hC.2.1 dX5_init_76 (by decide) ?_
  refine m_newI (N' := 60) hC hs hH (List.mem_cons_of_mem _ q_42) (by decide) (by decide) (by decide) (Nat.le_of_ble_eq_true rfl) (Nat.le_of_ble_eq_true rfl) dX5_init_78 (fun q32 H f33 hH => ?_)
  have hw := hw q32 f33 _ rfl
  refine W.widen (k := 8) (n := 493) (Nat.le_of_ble_eq_true rfl) (Nat.le_of_ble_eq_true rfl) ?_
  have hw := hw _ rfl
  refine m_putR hC hs hH cs5 fs5_14 (fun _ h => List.mem_cons_of_mem _ (inlX5 _ h)) (List.mem_cons_of_mem _ q_52) (fun _ h => h) (Or.inr ⟨rfl, hmn, rfl⟩) rfl rfl (mkN (mkN (mkN (mkN (mkN (mkN (mkN k4 f7) f11) f15) f19) f25) f29) f33) dX5_init_80 (fun H locs hH => ?_)
  refine lv_aload_n hC.1 hC.2.1 dX5_init_83 rfl (lv_at hl 0 rfl) ?_
  refine lv_bipush (v := 60) hC.1 hC.2.1 dX5_init_84 (by decide) ?_
  refine m_newI (N' := 60) hC hs hH (List.mem_cons_of_mem _ q_42) (by decide) (by decide) (by decide) (Nat.le_of_ble_eq_true rfl) (Nat.le_of_ble_eq_true rfl) dX5_init_86 (fun q36 H f37 hH => ?_)
  have hw := hw q36 f37 _ rfl
  refine W.widen (k := 9) (n := 553) (Nat.le_of_ble_eq_true rfl) (Nat.le_of_ble_eq_true rfl) ?_
  have hw := hw _ rfl
  refine m_putR hC hs hH cs5 fs5_15 (fun _ h => List.mem_cons_of_mem _ (inlX5 _ h)) (List.mem_cons_of_mem _ q_53) (fun _ h => h) (Or.inr ⟨rfl, hmn, rfl⟩) rfl rfl (mkN (mkN (mkN (mkN (mkN (mkN (mkN (mkN k4 f7) f11) f15) f19) f25) f29) f33) f37) dX5_init_88 (fun H locs hH => ?_)
  refine lv_aload_n hC.1 hC.2.1 dX5_init_91 rfl (lv_at hl 0 rfl) ?_
  refine lv_bipush (v := 60) hC.1 hC.2.1 dX5_init_92 (by decide) ?_
  refine m_newI (N' := 60) hC hs hH (List.mem_cons_of_mem _ q_42) (by decide) (by decide) (by decide) (Nat.le_of_ble_eq_true rfl) (Nat.le_of_ble_eq_true rfl) dX5_init_94 (fun q40 H f41 hH => ?_)
  have hw := hw q40 f41 _ rfl
  refine W.widen (k := 10) (n := 613) (Nat.le_of_ble_eq_true rfl) (Nat.le_of_ble_eq_true rfl) ?_
  have hw := hw _ rfl
  refine m_putR hC hs hH cs5 fs5_16 (fun _ h => List.mem_cons_of_mem _ (inlX5 _ h)) (List.mem_cons_of_mem _ q_54) (fun _ h => h) (Or.inr ⟨rfl, hmn, rfl⟩) rfl rfl (mkN (mkN (mkN (mkN (mkN (mkN (mkN (mkN (mkN k4 f7) f11) f15) f19) f25) f29) f33) f37) f41) dX5_init_96 (fun H locs hH => ?_)
  refine lv_aload_n hC.1 hC.2.1 dX5_init_99 rfl (lv_at hl 0 rfl) ?_
  refine lv_iconst (v := 4) hC.1 hC.2.1 dX5_init_100 (by decide) ?_
  refine m_newI (N' := 4) hC hs hH (List.mem_cons_of_mem _ q_42) (by decide) (by decide) (by decide) (Nat.le_of_ble_eq_true rfl) (Nat.le_of_ble_eq_true rfl) dX5_init_101 (fun q44 H f45 hH => ?_)
  have hw := hw q44 f45 _ rfl
  refine W.widen (k := 11) (n := 617) (Nat.le_of_ble_eq_true rfl) (Nat.le_of_ble_eq_true rfl) ?_
  have hw := hw _ rfl
  refine m_putR hC hs hH cs5 fs5_17 (fun _ h => List.mem_cons_of_mem _ (inlX5 _ h)) (List.mem_cons_of_mem _ q_55) (fun _ h => h) (Or.inr ⟨rfl, hmn, rfl⟩) rfl rfl (mkN (mkN (mkN (mkN (mkN (mkN (mkN (mkN (mkN (mkN k4 f7) f11) f15) f19) f25) f29) f33) f37) f41) f45) dX5_init_103 (fun H locs hH => ?_)
  refine lv_aload_n hC.1 hC.2.1 dX5_init_106 rfl (lv_at hl 0 rfl) ?_
  refine lv_iconst (v := 4) hC.1 hC.2.1 dX5_init_107 (by decide) ?_
  refine m_newI (N' := 4) hC hs hH (List.mem_cons_of_mem _ q_42) (by decide) (by decide) (by decide) (Nat.le_of_ble_eq_true rfl) (Nat.le_of_ble_eq_true rfl) dX5_init_108 (fun q48 H f49 hH => ?_)
  have hw := hw q48 f49 _ rfl
  refine W.widen (k := 12) (n := 621) (Nat.le_of_ble_eq_true rfl) (Nat.le_of_ble_eq_true rfl) ?_
  have hw := hw _ rfl
  refine m_putR hC hs hH cs5 fs5_18 (fun _ h => List.mem_cons_of_mem _ (inlX5 _ h)) (List.mem_cons_of_mem _ q_56) (fun _ h => h) (Or.inr ⟨rfl, hmn, rfl⟩) rfl rfl (mkN (mkN (mkN (mkN (mkN (mkN (mkN (mkN (mkN (mkN (mkN k4 f7) f11) f15) f19) f25) f29) f33) f37) f41) f45) f49) dX5_init_110 (fun H locs hH => ?_)
  exact m_retv hC hH hrt hlk (Nat.le_of_ble_eq_true rfl) (Nat.le_of_ble_eq_true rfl) dX5_init_113 hw
abbrev rm_X5_thrown : Room := { frames := 1, cells := 0, slots := 0, locals := 0 }
def wp_X5_thrown (z : Nat × Nat) (S : mmS) (p0 : Nat) (Q : Int32 → mmS → Prop) (X : String → mmS → Prop) : Prop := (p0 ∈ mL S ∧ mK S p0 = 5) ∧ Q (mI S 23 p0) S
set_option maxHeartbeats 4000000 in
set_option maxRecDepth 100000 in
theorem met_X5_thrown (l : Launch) (hl0 : l.stackTraces = false) (g : mG) (S : mmS) (p0 : Nat) (Q : Int32 → mmS → Prop) (X : String → mmS → Prop) (hw : wp_X5_thrown g.2.2.2.2.2 S p0 Q X) : mMi l g yX5_thrown (wA_ yX5_thrown cX5_thrown 1 (some .int)) rm_X5_thrown [.ref p0] S Q X := by
  refine m_of (y := yX5_thrown) (cc := cX5_thrown) (maxL := 1) (ret := (some .int)) (by decide) rfl (Nat.le_of_ble_eq_true rfl) ?_
  intro p e s m args below meth c ls hC hrt hlk hmn hnx hs hH hl
  have hC : CallFix p m c cX5_thrown 1 s args (wA_ yX5_thrown cX5_thrown 1 (some .int)) RX5 := hC
  have hl : lv_has ls 1 [(0, .ref p0)] := hl
  unfold wp_X5_thrown at hw
  refine lv_aload_n hC.1 hC.2.1 dX5_thrown_0 rfl (lv_at hl 0 rfl) ?_
  obtain ⟨k1, hw⟩ := hw
  refine m_getI hC hs hH cs5 fs5_0 (fun _ h => List.mem_cons_of_mem _ (inlX5 _ h)) (List.mem_cons_of_mem _ q_153) (fun _ h => h) k1 dX5_thrown_1 ?_
  exact m_reti hC hH hrt rfl hlk (Nat.le_of_ble_eq_true rfl) (Nat.le_of_ble_eq_true rfl) dX5_thrown_4 hw
abbrev rm_X5_fail : Room := { frames := 1, cells := 0, slots := 0, locals := 0 }
def wp_X5_fail (z : Nat × Nat) (S : mmS) (p0 : Nat) (p1 : Int32) (Q : Int32 → mmS → Prop) (X : String → mmS → Prop) : Prop := (p0 ∈ mL S ∧ mK S p0 = 5) ∧ ∀ S2 : mmS, S2 = sI S 23 p0 p1 → Q (0 : Int32) S2
set_option maxHeartbeats 4000000 in
set_option maxRecDepth 100000 in
theorem met_X5_fail (l : Launch) (hl0 : l.stackTraces = false) (g : mG) (S : mmS) (p0 : Nat) (p1 : Int32) (Q : Int32 → mmS → Prop) (X : String → mmS → Prop) (hw : wp_X5_fail g.2.2.2.2.2 S p0 p1 Q X) : mMi l g yX5_fail (wA_ yX5_fail cX5_fail 2 (some .int)) rm_X5_fail [.ref p0, .int p1] S Q X := by
  refine m_of (y := yX5_fail) (cc := cX5_fail) (maxL := 2) (ret := (some .int)) (by decide) rfl (Nat.le_of_ble_eq_true rfl) ?_
  intro p e s m args below meth c ls hC hrt hlk hmn hnx hs hH hl
  have hC : CallFix p m c cX5_fail 2 s args (wA_ yX5_fail cX5_fail 2 (some .int)) RX5 := hC
  have hl : lv_has ls 2 [(0, .ref p0), (1, .int p1)] := hl
  unfold wp_X5_fail at hw
  refine lv_aload_n hC.1 hC.2.1 dX5_fail_0 rfl (lv_at hl 0 rfl) ?_
  refine lv_iload_n hC.1 hC.2.1 dX5_fail_1 rfl (lv_at hl 1 rfl) ?_
  obtain ⟨k1, hw⟩ := hw
  have hw := hw _ rfl
  refine m_putI hC hs hH cs5 fs5_0 (fun _ h => List.mem_cons_of_mem _ (inlX5 _ h)) (List.mem_cons_of_mem _ q_153) (fun _ h => h) (Or.inl rfl) rfl k1 dX5_fail_2 (fun H locs hH => ?_)
  refine lv_iconst (v := 0) hC.1 hC.2.1 dX5_fail_5 (by decide) ?_
  exact m_reti hC hH hrt rfl hlk (Nat.le_of_ble_eq_true rfl) (Nat.le_of_ble_eq_true rfl) dX5_fail_6 hw
abbrev rm_X5_isIn : Room := { frames := 1, cells := 0, slots := 0, locals := 0 }
def wp_X5_isIn (z : Nat × Nat) (S : mmS) (p0 : Int32) (p1 : Int32) (p2 : Int32) (Q : Int32 → mmS → Prop) (X : String → mmS → Prop) : Prop := (p0 < p1 → Q (0 : Int32) S) ∧ (¬ p0 < p1 → (p2 < p0 → Q (0 : Int32) S) ∧ (¬ p2 < p0 → Q (1 : Int32) S))
set_option maxHeartbeats 4000000 in
set_option maxRecDepth 100000 in
theorem met_X5_isIn (l : Launch) (hl0 : l.stackTraces = false) (g : mG) (S : mmS) (p0 : Int32) (p1 : Int32) (p2 : Int32) (Q : Int32 → mmS → Prop) (X : String → mmS → Prop) (hw : wp_X5_isIn g.2.2.2.2.2 S p0 p1 p2 Q X) : mMi l g yX5_isIn (wA_ yX5_isIn cX5_isIn 3 (some .boolean)) rm_X5_isIn [.int p0, .int p1, .int p2] S Q X := by
  refine m_of (y := yX5_isIn) (cc := cX5_isIn) (maxL := 3) (ret := (some .boolean)) (by decide) rfl (Nat.le_of_ble_eq_true rfl) ?_
  intro p e s m args below meth c ls hC hrt hlk hmn hnx hs hH hl
  have hC : CallFix p m c cX5_isIn 3 s args (wA_ yX5_isIn cX5_isIn 3 (some .boolean)) RX5 := hC
  have hl : lv_has ls 3 [(0, .int p0), (1, .int p1), (2, .int p2)] := hl
  unfold wp_X5_isIn at hw
  refine lv_iload_n hC.1 hC.2.1 dX5_isIn_0 rfl (lv_at hl 0 rfl) ?_
  refine lv_iload_n hC.1 hC.2.1 dX5_isIn_1 rfl (lv_at hl 1 rfl) ?_
  refine lv_icmp_lt (tgt := 14) hC.1 hC.2.1 dX5_isIn_2 (by decide) (fun hc => ?_) (fun hc => ?_)
  · have hw := hw.1 hc
    refine lv_iconst (v := 0) hC.1 hC.2.1 dX5_isIn_14 (by decide) ?_
    exact m_reti hC hH hrt rfl hlk (Nat.le_of_ble_eq_true rfl) (Nat.le_of_ble_eq_true rfl) dX5_isIn_15 hw
  · have hw := hw.2 hc
    refine lv_iload_n hC.1 hC.2.1 dX5_isIn_5 rfl (lv_at hl 0 rfl) ?_
    refine lv_iload_n hC.1 hC.2.1 dX5_isIn_6 rfl (lv_at hl 2 rfl) ?_
    refine lv_icmp_gt (tgt := 14) hC.1 hC.2.1 dX5_isIn_7 (by decide) (fun hc => ?_) (fun hc => ?_)
    · have hw := hw.1 hc
      refine lv_iconst (v := 0) hC.1 hC.2.1 dX5_isIn_14 (by decide) ?_
      exact m_reti hC hH hrt rfl hlk (Nat.le_of_ble_eq_true rfl) (Nat.le_of_ble_eq_true rfl) dX5_isIn_15 hw
    · have hw := hw.2 hc
      refine lv_iconst (v := 1) hC.1 hC.2.1 dX5_isIn_10 (by decide) ?_
      refine lv_goto (tgt := 15) hC.1 hC.2.1 dX5_isIn_11 (by decide) ?_
      exact m_reti hC hH hrt rfl hlk (Nat.le_of_ble_eq_true rfl) (Nat.le_of_ble_eq_true rfl) dX5_isIn_15 hw
abbrev rm_X5_isTariff : Room := { frames := 2, cells := 0, slots := 0, locals := 22 }
def wp_X5_isTariff (z : Nat × Nat) (S : mmS) (p0 : Nat) (p1 : Int32) (Q : Int32 → mmS → Prop) (X : String → mmS → Prop) : Prop := (p0 ∈ mL S ∧ mK S p0 = 5) ∧ wp_X5_isIn z S p1 (0 : Int32) ((mI S 24 p0) - (1 : Int32)) (fun r3 S2 => mBo r3 ∧ Q r3 S2) X
set_option maxHeartbeats 4000000 in
set_option maxRecDepth 100000 in
theorem met_X5_isTariff (l : Launch) (hl0 : l.stackTraces = false) (g : mG) (S : mmS) (p0 : Nat) (p1 : Int32) (Q : Int32 → mmS → Prop) (X : String → mmS → Prop) (hw : wp_X5_isTariff g.2.2.2.2.2 S p0 p1 Q X) : mMi l g yX5_isTariff (wA_ yX5_isTariff cX5_isTariff 2 (some .boolean)) rm_X5_isTariff [.ref p0, .int p1] S Q X := by
  refine m_of (y := yX5_isTariff) (cc := cX5_isTariff) (maxL := 2) (ret := (some .boolean)) (by decide) rfl (Nat.le_of_ble_eq_true rfl) ?_
  intro p e s m args below meth c ls hC hrt hlk hmn hnx hs hH hl
  have hC : CallFix p m c cX5_isTariff 2 s args (wA_ yX5_isTariff cX5_isTariff 2 (some .boolean)) RX5 := hC
  have hl : lv_has ls 2 [(0, .ref p0), (1, .int p1)] := hl
  unfold wp_X5_isTariff at hw
  refine lv_iload_n hC.1 hC.2.1 dX5_isTariff_0 rfl (lv_at hl 1 rfl) ?_
  refine lv_iconst (v := 0) hC.1 hC.2.1 dX5_isTariff_1 (by decide) ?_
  refine lv_aload_n hC.1 hC.2.1 dX5_isTariff_2 rfl (lv_at hl 0 rfl) ?_
  obtain ⟨k1, hw⟩ := hw
  refine m_getI hC hs hH cs5 fs5_1 (fun _ h => List.mem_cons_of_mem _ (inlX5 _ h)) (List.mem_cons_of_mem _ q_154) (fun _ h => h) k1 dX5_isTariff_3 ?_
  refine lv_iconst (v := 1) hC.1 hC.2.1 dX5_isTariff_6 (by decide) ?_
  refine lv_isub hC.1 hC.2.1 dX5_isTariff_7 ?_
  refine m_callSi (y := yX5_isIn) (rest := []) hC hs hH hl.1 (va_cwS 3 hC.2.2.2.2 (gA_S q_156 q_157 q_5 q_158) rfl rfl rfl (by decide +kernel) ⟨Nat.le_of_ble_eq_true rfl, Nat.le_of_ble_eq_true rfl⟩) (met_X5_isIn l hl0 g _ _ _ _ _ _ hw) rfl rfl (Nat.le_of_ble_eq_true rfl) dX5_isTariff_8 ⟨Nat.le_of_ble_eq_true rfl, Nat.le_of_ble_eq_true rfl⟩ (m_out (fun x hx => (hnx x hx).elim) hlk (Nat.le_of_ble_eq_true rfl) (Nat.le_of_ble_eq_true rfl)) (fun r3 S1 H locs hw hH => ?_)
  refine W.widen (k := 0) (n := 0) (Nat.le_of_ble_eq_true rfl) (Nat.le_of_ble_eq_true rfl) ?_
  obtain ⟨z4, hw⟩ := hw
  exact m_reti hC hH hrt z4 hlk (Nat.le_of_ble_eq_true rfl) (Nat.le_of_ble_eq_true rfl) dX5_isTariff_11 hw
abbrev rm_X5_isAccount : Room := { frames := 2, cells := 0, slots := 0, locals := 22 }
def wp_X5_isAccount (z : Nat × Nat) (S : mmS) (p0 : Nat) (p1 : Int32) (Q : Int32 → mmS → Prop) (X : String → mmS → Prop) : Prop := (p0 ∈ mL S ∧ mK S p0 = 5) ∧ wp_X5_isIn z S p1 (0 : Int32) ((mI S 25 p0) - (1 : Int32)) (fun r3 S2 => mBo r3 ∧ Q r3 S2) X
set_option maxHeartbeats 4000000 in
set_option maxRecDepth 100000 in
theorem met_X5_isAccount (l : Launch) (hl0 : l.stackTraces = false) (g : mG) (S : mmS) (p0 : Nat) (p1 : Int32) (Q : Int32 → mmS → Prop) (X : String → mmS → Prop) (hw : wp_X5_isAccount g.2.2.2.2.2 S p0 p1 Q X) : mMi l g yX5_isAccount (wA_ yX5_isAccount cX5_isAccount 2 (some .boolean)) rm_X5_isAccount [.ref p0, .int p1] S Q X := by
  refine m_of (y := yX5_isAccount) (cc := cX5_isAccount) (maxL := 2) (ret := (some .boolean)) (by decide) rfl (Nat.le_of_ble_eq_true rfl) ?_
  intro p e s m args below meth c ls hC hrt hlk hmn hnx hs hH hl
  have hC : CallFix p m c cX5_isAccount 2 s args (wA_ yX5_isAccount cX5_isAccount 2 (some .boolean)) RX5 := hC
  have hl : lv_has ls 2 [(0, .ref p0), (1, .int p1)] := hl
  unfold wp_X5_isAccount at hw
  refine lv_iload_n hC.1 hC.2.1 dX5_isAccount_0 rfl (lv_at hl 1 rfl) ?_
  refine lv_iconst (v := 0) hC.1 hC.2.1 dX5_isAccount_1 (by decide) ?_
  refine lv_aload_n hC.1 hC.2.1 dX5_isAccount_2 rfl (lv_at hl 0 rfl) ?_
  obtain ⟨k1, hw⟩ := hw
  refine m_getI hC hs hH cs5 fs5_3 (fun _ h => List.mem_cons_of_mem _ (inlX5 _ h)) (List.mem_cons_of_mem _ q_339) (fun _ h => h) k1 dX5_isAccount_3 ?_
  refine lv_iconst (v := 1) hC.1 hC.2.1 dX5_isAccount_6 (by decide) ?_
  refine lv_isub hC.1 hC.2.1 dX5_isAccount_7 ?_
  refine m_callSi (y := yX5_isIn) (rest := []) hC hs hH hl.1 (va_cwS 3 hC.2.2.2.2 (gA_S q_156 q_157 q_5 q_158) rfl rfl rfl (by decide +kernel) ⟨Nat.le_of_ble_eq_true rfl, Nat.le_of_ble_eq_true rfl⟩) (met_X5_isIn l hl0 g _ _ _ _ _ _ hw) rfl rfl (Nat.le_of_ble_eq_true rfl) dX5_isAccount_8 ⟨Nat.le_of_ble_eq_true rfl, Nat.le_of_ble_eq_true rfl⟩ (m_out (fun x hx => (hnx x hx).elim) hlk (Nat.le_of_ble_eq_true rfl) (Nat.le_of_ble_eq_true rfl)) (fun r3 S1 H locs hw hH => ?_)
  refine W.widen (k := 0) (n := 0) (Nat.le_of_ble_eq_true rfl) (Nat.le_of_ble_eq_true rfl) ?_
  obtain ⟨z4, hw⟩ := hw
  exact m_reti hC hH hrt z4 hlk (Nat.le_of_ble_eq_true rfl) (Nat.le_of_ble_eq_true rfl) dX5_isAccount_11 hw
abbrev rm_X5_isLine : Room := { frames := 2, cells := 0, slots := 0, locals := 22 }
def wp_X5_isLine (z : Nat × Nat) (S : mmS) (p0 : Nat) (p1 : Int32) (Q : Int32 → mmS → Prop) (X : String → mmS → Prop) : Prop := (p0 ∈ mL S ∧ mK S p0 = 5) ∧ wp_X5_isIn z S p1 (0 : Int32) ((mI S 26 p0) - (1 : Int32)) (fun r3 S2 => mBo r3 ∧ Q r3 S2) X
set_option maxHeartbeats 4000000 in
set_option maxRecDepth 100000 in
theorem met_X5_isLine (l : Launch) (hl0 : l.stackTraces = false) (g : mG) (S : mmS) (p0 : Nat) (p1 : Int32) (Q : Int32 → mmS → Prop) (X : String → mmS → Prop) (hw : wp_X5_isLine g.2.2.2.2.2 S p0 p1 Q X) : mMi l g yX5_isLine (wA_ yX5_isLine cX5_isLine 2 (some .boolean)) rm_X5_isLine [.ref p0, .int p1] S Q X := by
  refine m_of (y := yX5_isLine) (cc := cX5_isLine) (maxL := 2) (ret := (some .boolean)) (by decide) rfl (Nat.le_of_ble_eq_true rfl) ?_
  intro p e s m args below meth c ls hC hrt hlk hmn hnx hs hH hl
  have hC : CallFix p m c cX5_isLine 2 s args (wA_ yX5_isLine cX5_isLine 2 (some .boolean)) RX5 := hC
  have hl : lv_has ls 2 [(0, .ref p0), (1, .int p1)] := hl
  unfold wp_X5_isLine at hw
  refine lv_iload_n hC.1 hC.2.1 dX5_isLine_0 rfl (lv_at hl 1 rfl) ?_
  refine lv_iconst (v := 0) hC.1 hC.2.1 dX5_isLine_1 (by decide) ?_
  refine lv_aload_n hC.1 hC.2.1 dX5_isLine_2 rfl (lv_at hl 0 rfl) ?_
  obtain ⟨k1, hw⟩ := hw
  refine m_getI hC hs hH cs5 fs5_5 (fun _ h => List.mem_cons_of_mem _ (inlX5 _ h)) (List.mem_cons_of_mem _ q_363) (fun _ h => h) k1 dX5_isLine_3 ?_
  refine lv_iconst (v := 1) hC.1 hC.2.1 dX5_isLine_6 (by decide) ?_
  refine lv_isub hC.1 hC.2.1 dX5_isLine_7 ?_
  refine m_callSi (y := yX5_isIn) (rest := []) hC hs hH hl.1 (va_cwS 3 hC.2.2.2.2 (gA_S q_156 q_157 q_5 q_158) rfl rfl rfl (by decide +kernel) ⟨Nat.le_of_ble_eq_true rfl, Nat.le_of_ble_eq_true rfl⟩) (met_X5_isIn l hl0 g _ _ _ _ _ _ hw) rfl rfl (Nat.le_of_ble_eq_true rfl) dX5_isLine_8 ⟨Nat.le_of_ble_eq_true rfl, Nat.le_of_ble_eq_true rfl⟩ (m_out (fun x hx => (hnx x hx).elim) hlk (Nat.le_of_ble_eq_true rfl) (Nat.le_of_ble_eq_true rfl)) (fun r3 S1 H locs hw hH => ?_)
  refine W.widen (k := 0) (n := 0) (Nat.le_of_ble_eq_true rfl) (Nat.le_of_ble_eq_true rfl) ?_
  obtain ⟨z4, hw⟩ := hw
  exact m_reti hC hH hrt z4 hlk (Nat.le_of_ble_eq_true rfl) (Nat.le_of_ble_eq_true rfl) dX5_isLine_11 hw
abbrev rm_X5_isCall : Room := { frames := 2, cells := 0, slots := 0, locals := 22 }
def wp_X5_isCall (z : Nat × Nat) (S : mmS) (p0 : Nat) (p1 : Int32) (Q : Int32 → mmS → Prop) (X : String → mmS → Prop) : Prop := (p0 ∈ mL S ∧ mK S p0 = 5) ∧ wp_X5_isIn z S p1 (0 : Int32) ((mI S 27 p0) - (1 : Int32)) (fun r3 S2 => mBo r3 ∧ Q r3 S2) X
set_option maxHeartbeats 4000000 in
set_option maxRecDepth 100000 in
theorem met_X5_isCall (l : Launch) (hl0 : l.stackTraces = false) (g : mG) (S : mmS) (p0 : Nat) (p1 : Int32) (Q : Int32 → mmS → Prop) (X : String → mmS → Prop) (hw : wp_X5_isCall g.2.2.2.2.2 S p0 p1 Q X) : mMi l g yX5_isCall (wA_ yX5_isCall cX5_isCall 2 (some .boolean)) rm_X5_isCall [.ref p0, .int p1] S Q X := by
  refine m_of (y := yX5_isCall) (cc := cX5_isCall) (maxL := 2) (ret := (some .boolean)) (by decide) rfl (Nat.le_of_ble_eq_true rfl) ?_
  intro p e s m args below meth c ls hC hrt hlk hmn hnx hs hH hl
  have hC : CallFix p m c cX5_isCall 2 s args (wA_ yX5_isCall cX5_isCall 2 (some .boolean)) RX5 := hC
  have hl : lv_has ls 2 [(0, .ref p0), (1, .int p1)] := hl
  unfold wp_X5_isCall at hw
  refine lv_iload_n hC.1 hC.2.1 dX5_isCall_0 rfl (lv_at hl 1 rfl) ?_
  refine lv_iconst (v := 0) hC.1 hC.2.1 dX5_isCall_1 (by decide) ?_
  refine lv_aload_n hC.1 hC.2.1 dX5_isCall_2 rfl (lv_at hl 0 rfl) ?_
  obtain ⟨k1, hw⟩ := hw
  refine m_getI hC hs hH cs5 fs5_8 (fun _ h => List.mem_cons_of_mem _ (inlX5 _ h)) (List.mem_cons_of_mem _ q_440) (fun _ h => h) k1 dX5_isCall_3 ?_
  refine lv_iconst (v := 1) hC.1 hC.2.1 dX5_isCall_6 (by decide) ?_
  refine lv_isub hC.1 hC.2.1 dX5_isCall_7 ?_
  refine m_callSi (y := yX5_isIn) (rest := []) hC hs hH hl.1 (va_cwS 3 hC.2.2.2.2 (gA_S q_156 q_157 q_5 q_158) rfl rfl rfl (by decide +kernel) ⟨Nat.le_of_ble_eq_true rfl, Nat.le_of_ble_eq_true rfl⟩) (met_X5_isIn l hl0 g _ _ _ _ _ _ hw) rfl rfl (Nat.le_of_ble_eq_true rfl) dX5_isCall_8 ⟨Nat.le_of_ble_eq_true rfl, Nat.le_of_ble_eq_true rfl⟩ (m_out (fun x hx => (hnx x hx).elim) hlk (Nat.le_of_ble_eq_true rfl) (Nat.le_of_ble_eq_true rfl)) (fun r3 S1 H locs hw hH => ?_)
  refine W.widen (k := 0) (n := 0) (Nat.le_of_ble_eq_true rfl) (Nat.le_of_ble_eq_true rfl) ?_
  obtain ⟨z4, hw⟩ := hw
  exact m_reti hC hH hrt z4 hlk (Nat.le_of_ble_eq_true rfl) (Nat.le_of_ble_eq_true rfl) dX5_isCall_11 hw
abbrev rm_X5_addTariff : Room := { frames := 2, cells := 1, slots := 9, locals := 40 }
def bk_X5_addTariff_62 (z : Nat × Nat) (Q : Int32 → mmS → Prop) (X : String → mmS → Prop) (S : mmS) (x0 : Nat) : Prop := (x0 ∈ mL S ∧ mK S x0 = 5) ∧ wp_X5_fail z S x0 (1 : Int32) (fun r3 S1 => Q r3 S1) X
def wp_X5_addTariff (z : Nat × Nat) (S : mmS) (p0 : Nat) (p1 : Int32) (p2 : Int32) (p3 : Int32) (p4 : Int32) (p5 : Int32) (Q : Int32 → mmS → Prop) (X : String → mmS → Prop) : Prop := (p0 ∈ mL S ∧ mK S p0 = 5) ∧ ∀ S2 : mmS, S2 = sI S 23 p0 (0 : Int32) → wp_X5_isIn z S2 p1 (0 : Int32) (10000 : Int32) (fun r4 S3 => (r4 = 0 → bk_X5_addTariff_62 z Q X S3 p0) ∧ (¬ r4 = 0 → wp_X5_isIn z S3 p2 (0 : Int32) (10000 : Int32) (fun r6 S5 => (r6 = 0 → bk_X5_addTariff_62 z Q X S5 p0) ∧ (¬ r6 = 0 → wp_X5_isIn z S5 p3 (0 : Int32) (10000 : Int32) (fun r8 S7 => (r8 = 0 → bk_X5_addTariff_62 z Q X S7 p0) ∧ (¬ r8 = 0 → wp_X5_isIn z S7 p4 (1 : Int32) (300 : Int32) (fun r10 S9 => (r10 = 0 → bk_X5_addTariff_62 z Q X S9 p0) ∧ (¬ r10 = 0 → wp_X5_isIn z S9 p5 (1 : Int32) (300 : Int32) (fun r12 S11 => (¬ r12 = 0 → (p0 ∈ mL S11 ∧ mK S11 p0 = 5) ∧ (¬ (mI S11 24 p0) = (5 : Int32) → ∀ q14 : Nat, q14 ∉ mL S11 → ∀ S16 : mmS, S16 = sNa S11 q14 9 → vp_in (0 : Int32) (mN S16 q14) ∧ ∀ S18 : mmS, S18 = sA S16 q14 ((0 : Int32)).toNatClampNeg p1 → vp_in (1 : Int32) (mN S18 q14) ∧ ∀ S20 : mmS, S20 = sA S18 q14 ((1 : Int32)).toNatClampNeg p2 → vp_in (2 : Int32) (mN S20 q14) ∧ ∀ S22 : mmS, S22 = sA S20 q14 ((2 : Int32)).toNatClampNeg p3 → vp_in (3 : Int32) (mN S22 q14) ∧ ∀ S24 : mmS, S24 = sA S22 q14 ((3 : Int32)).toNatClampNeg p4 → vp_in (4 : Int32) (mN S24 q14) ∧ ∀ S26 : mmS, S26 = sA S24 q14 ((4 : Int32)).toNatClampNeg p5 → vp_in (5 : Int32) (mN S26 q14) ∧ ∀ S28 : mmS, S28 = sA S26 q14 ((5 : Int32)).toNatClampNeg (0 : Int32) → vp_in (6 : Int32) (mN S28 q14) ∧ ∀ S30 : mmS, S30 = sA S28 q14 ((6 : Int32)).toNatClampNeg (0 : Int32) → vp_in (7 : Int32) (mN S30 q14) ∧ ∀ S32 : mmS, S32 = sA S30 q14 ((7 : Int32)).toNatClampNeg (0 : Int32) → vp_in (8 : Int32) (mN S32 q14) ∧ ∀ S34 : mmS, S34 = sA S32 q14 ((8 : Int32)).toNatClampNeg (0 : Int32) → ∃ b35 : Nat, mR S34 13 p0 = some b35 ∧ (b35 ∈ mL S34 ∧ mK S34 b35 = 7) ∧ (¬ (0 : Int32) < 0 ∧ ¬ ((9 : Int32) * (mI S34 24 p0)) < 0 ∧ ¬ (9 : Int32) < 0 ∧ ((0 : Int32)).toNatClampNeg + ((9 : Int32)).toNatClampNeg ≤ mN S34 q14 ∧ ((9 : Int32) * (mI S34 24 p0)).toNatClampNeg + ((9 : Int32)).toNatClampNeg ≤ mN S34 b35) ∧ ∀ S39 : mmS, S39 = sAr S34 b35 (va_cpy (mA S34 q14) (mA S34 b35) ((0 : Int32)).toNatClampNeg ((9 : Int32) * (mI S34 24 p0)).toNatClampNeg ((9 : Int32)).toNatClampNeg) → ∀ S40 : mmS, S40 = sI S39 24 p0 ((mI S39 24 p0) + (1 : Int32)) → Q ((mI S40 24 p0) - (1 : Int32)) S40) ∧ ((mI S11 24 p0) = (5 : Int32) → wp_X5_fail z S11 p0 (2 : Int32) (fun r42 S41 => Q r42 S41) X)) ∧ (r12 = 0 → bk_X5_addTariff_62 z Q X S11 p0)) X)) X)) X)) X)) X
set_option maxHeartbeats 4000000 in
set_option maxRecDepth 100000 in
theorem bw_X5_addTariff_62 {p : Program} {l : Launch} {e : Env} {s : State} {m : MethodId} {args : Array Value} {below : List Frame} {meth : Method} {c : Code} {g : mG} {Q : Int32 → mmS → Prop} {X : String → mmS → Prop} (hl0 : l.stackTraces = false) (hC : CallFix p m c cX5_addTariff 7 s args (wA_ yX5_addTariff cX5_addTariff 7 (some .int)) RX5) (hrt : meth.sig.returnType = (some .int)) (hlk : meth.locks = false) (hmn : meth.name = yX5_addTariff.name) (hnx : ∀ x ∈ c.exceptionTable.toList, False) (hs : mX g s) : ∀ (S : mmS) (x0 : Nat), bk_X5_addTariff_62 g.2.2.2.2.2 Q X S x0 → ∀ (H : Heap) (locs : List Loc), mH g S s H locs → ∀ ls : Array Slot, lv_has ls 7 [(0, .ref x0)] → W p l e rm_X5_addTariff s m args below meth c H locs 0 0 (vx_MQ below (va_Qi Q (wO g) (mB g)) (vx_X (fun _ : mmS => True) (fun E S1 t => X E S1 ∧ wO g S1 t) (mB g)) args s rm_X5_addTariff.cells rm_X5_addTariff.slots (mB g)) (F0 m 62 ls []) := by
  intro S x0 hw H locs hH ls hl
  unfold bk_X5_addTariff_62 at hw
  refine lv_aload_n hC.1 hC.2.1 dX5_addTariff_62 rfl (lv_at hl 0 rfl) ?_
  refine lv_iconst (v := 1) hC.1 hC.2.1 dX5_addTariff_63 (by decide) ?_
  obtain ⟨k2, hw⟩ := hw
  refine m_callVi (y := yX5_fail) (rest := []) hC hs hH hl.1 (cwV 1 hC.2.2.2.2 (gA_V q_159 q_160 q_161 q_5 q_162) rfl rfl rfl (by decide +kernel) ⟨Nat.le_of_ble_eq_true rfl, Nat.le_of_ble_eq_true rfl⟩) cs5 k2 (met_X5_fail l hl0 g _ _ _ _ _ hw) rfl rfl (Nat.le_of_ble_eq_true rfl) dX5_addTariff_64 ⟨Nat.le_of_ble_eq_true rfl, Nat.le_of_ble_eq_true rfl⟩ (m_out (fun x hx => (hnx x hx).elim) hlk (Nat.le_of_ble_eq_true rfl) (Nat.le_of_ble_eq_true rfl)) (fun r3 S1 H locs hw hH => ?_)
  refine W.widen (k := 0) (n := 0) (Nat.le_of_ble_eq_true rfl) (Nat.le_of_ble_eq_true rfl) ?_
  exact m_reti hC hH hrt rfl hlk (Nat.le_of_ble_eq_true rfl) (Nat.le_of_ble_eq_true rfl) dX5_addTariff_67 hw
set_option maxHeartbeats 4000000 in
set_option maxRecDepth 100000 in
theorem met_X5_addTariff (l : Launch) (hl0 : l.stackTraces = false) (g : mG) (S : mmS) (p0 : Nat) (p1 : Int32) (p2 : Int32) (p3 : Int32) (p4 : Int32) (p5 : Int32) (Q : Int32 → mmS → Prop) (X : String → mmS → Prop) (hw : wp_X5_addTariff g.2.2.2.2.2 S p0 p1 p2 p3 p4 p5 Q X) : mMi l g yX5_addTariff (wA_ yX5_addTariff cX5_addTariff 7 (some .int)) rm_X5_addTariff [.ref p0, .int p1, .int p2, .int p3, .int p4, .int p5] S Q X := by
  refine m_of (y := yX5_addTariff) (cc := cX5_addTariff) (maxL := 7) (ret := (some .int)) (by decide) rfl (Nat.le_of_ble_eq_true rfl) ?_
  intro p e s m args below meth c ls hC hrt hlk hmn hnx hs hH hl
  have hC : CallFix p m c cX5_addTariff 7 s args (wA_ yX5_addTariff cX5_addTariff 7 (some .int)) RX5 := hC
  have hl : lv_has ls 7 [(0, .ref p0), (1, .int p1), (2, .int p2), (3, .int p3), (4, .int p4), (5, .int p5)] := hl
  unfold wp_X5_addTariff at hw
  refine lv_aload_n hC.1 hC.2.1 dX5_addTariff_0 rfl (lv_at hl 0 rfl) ?_
  refine lv_iconst (v := 0) hC.1 hC.2.1 dX5_addTariff_1 (by decide) ?_
  obtain ⟨k1, hw⟩ := hw
  have hw := hw _ rfl
  refine m_putI hC hs hH cs5 fs5_0 (fun _ h => List.mem_cons_of_mem _ (inlX5 _ h)) (List.mem_cons_of_mem _ q_153) (fun _ h => h) (Or.inl rfl) rfl k1 dX5_addTariff_2 (fun H locs hH => ?_)
  refine lv_iload_n hC.1 hC.2.1 dX5_addTariff_5 rfl (lv_at hl 1 rfl) ?_
  refine lv_iconst (v := 0) hC.1 hC.2.1 dX5_addTariff_6 (by decide) ?_
  refine lv_sipush (v := 10000) hC.1 hC.2.1 dX5_addTariff_7 (by decide) ?_
  refine m_callSi (y := yX5_isIn) (rest := []) hC hs hH hl.1 (va_cwS 3 hC.2.2.2.2 (gA_S q_156 q_157 q_5 q_158) rfl rfl rfl (by decide +kernel) ⟨Nat.le_of_ble_eq_true rfl, Nat.le_of_ble_eq_true rfl⟩) (met_X5_isIn l hl0 g _ _ _ _ _ _ hw) rfl rfl (Nat.le_of_ble_eq_true rfl) dX5_addTariff_10 ⟨Nat.le_of_ble_eq_true rfl, Nat.le_of_ble_eq_true rfl⟩ (m_out (fun x hx => (hnx x hx).elim) hlk (Nat.le_of_ble_eq_true rfl) (Nat.le_of_ble_eq_true rfl)) (fun r4 S1 H locs hw hH => ?_)
  refine W.widen (k := 0) (n := 0) (Nat.le_of_ble_eq_true rfl) (Nat.le_of_ble_eq_true rfl) ?_
  refine lv_if_eq (tgt := 62) hC.1 hC.2.1 dX5_addTariff_13 (by decide) (fun hc => ?_) (fun hc => ?_)
  · have hw := hw.1 hc
    exact bw_X5_addTariff_62 hl0 hC hrt hlk hmn hnx hs _ _ hw _ _ hH _ (lv_sub hl [0] rfl)
  · have hw := hw.2 hc
    refine lv_iload_n hC.1 hC.2.1 dX5_addTariff_16 rfl (lv_at hl 2 rfl) ?_
    refine lv_iconst (v := 0) hC.1 hC.2.1 dX5_addTariff_17 (by decide) ?_
    refine lv_sipush (v := 10000) hC.1 hC.2.1 dX5_addTariff_18 (by decide) ?_
    refine m_callSi (y := yX5_isIn) (rest := []) hC hs hH hl.1 (va_cwS 3 hC.2.2.2.2 (gA_S q_156 q_157 q_5 q_158) rfl rfl rfl (by decide +kernel) ⟨Nat.le_of_ble_eq_true rfl, Nat.le_of_ble_eq_true rfl⟩) (met_X5_isIn l hl0 g _ _ _ _ _ _ hw) rfl rfl (Nat.le_of_ble_eq_true rfl) dX5_addTariff_21 ⟨Nat.le_of_ble_eq_true rfl, Nat.le_of_ble_eq_true rfl⟩ (m_out (fun x hx => (hnx x hx).elim) hlk (Nat.le_of_ble_eq_true rfl) (Nat.le_of_ble_eq_true rfl)) (fun r6 S1 H locs hw hH => ?_)
    refine W.widen (k := 0) (n := 0) (Nat.le_of_ble_eq_true rfl) (Nat.le_of_ble_eq_true rfl) ?_
    refine lv_if_eq (tgt := 62) hC.1 hC.2.1 dX5_addTariff_24 (by decide) (fun hc => ?_) (fun hc => ?_)
    · have hw := hw.1 hc
      exact bw_X5_addTariff_62 hl0 hC hrt hlk hmn hnx hs _ _ hw _ _ hH _ (lv_sub hl [0] rfl)
    · have hw := hw.2 hc
      refine lv_iload_n hC.1 hC.2.1 dX5_addTariff_27 rfl (lv_at hl 3 rfl) ?_
      refine lv_iconst (v := 0) hC.1 hC.2.1 dX5_addTariff_28 (by decide) ?_
      refine lv_sipush (v := 10000) hC.1 hC.2.1 dX5_addTariff_29 (by decide) ?_
      refine m_callSi (y := yX5_isIn) (rest := []) hC hs hH hl.1 (va_cwS 3 hC.2.2.2.2 (gA_S q_156 q_157 q_5 q_158) rfl rfl rfl (by decide +kernel) ⟨Nat.le_of_ble_eq_true rfl, Nat.le_of_ble_eq_true rfl⟩) (met_X5_isIn l hl0 g _ _ _ _ _ _ hw) rfl rfl (Nat.le_of_ble_eq_true rfl) dX5_addTariff_32 ⟨Nat.le_of_ble_eq_true rfl, Nat.le_of_ble_eq_true rfl⟩ (m_out (fun x hx => (hnx x hx).elim) hlk (Nat.le_of_ble_eq_true rfl) (Nat.le_of_ble_eq_true rfl)) (fun r8 S1 H locs hw hH => ?_)
      refine W.widen (k := 0) (n := 0) (Nat.le_of_ble_eq_true rfl) (Nat.le_of_ble_eq_true rfl) ?_
      refine lv_if_eq (tgt := 62) hC.1 hC.2.1 dX5_addTariff_35 (by decide) (fun hc => ?_) (fun hc => ?_)
      · have hw := hw.1 hc
        exact bw_X5_addTariff_62 hl0 hC hrt hlk hmn hnx hs _ _ hw _ _ hH _ (lv_sub hl [0] rfl)
      · have hw := hw.2 hc
        refine lv_iload hC.1 hC.2.1 dX5_addTariff_38 (lv_at hl 4 rfl) ?_
        refine lv_iconst (v := 1) hC.1 hC.2.1 dX5_addTariff_40 (by decide) ?_
        refine lv_sipush (v := 300) hC.1 hC.2.1 dX5_addTariff_41 (by decide) ?_
        refine m_callSi (y := yX5_isIn) (rest := []) hC hs hH hl.1 (va_cwS 3 hC.2.2.2.2 (gA_S q_156 q_157 q_5 q_158) rfl rfl rfl (by decide +kernel) ⟨Nat.le_of_ble_eq_true rfl, Nat.le_of_ble_eq_true rfl⟩) (met_X5_isIn l hl0 g _ _ _ _ _ _ hw) rfl rfl (Nat.le_of_ble_eq_true rfl) dX5_addTariff_44 ⟨Nat.le_of_ble_eq_true rfl, Nat.le_of_ble_eq_true rfl⟩ (m_out (fun x hx => (hnx x hx).elim) hlk (Nat.le_of_ble_eq_true rfl) (Nat.le_of_ble_eq_true rfl)) (fun r10 S1 H locs hw hH => ?_)
        refine W.widen (k := 0) (n := 0) (Nat.le_of_ble_eq_true rfl) (Nat.le_of_ble_eq_true rfl) ?_
        refine lv_if_eq (tgt := 62) hC.1 hC.2.1 dX5_addTariff_47 (by decide) (fun hc => ?_) (fun hc => ?_)
        · have hw := hw.1 hc
          exact bw_X5_addTariff_62 hl0 hC hrt hlk hmn hnx hs _ _ hw _ _ hH _ (lv_sub hl [0] rfl)
        · have hw := hw.2 hc
          refine lv_iload hC.1 hC.2.1 dX5_addTariff_50 (lv_at hl 5 rfl) ?_
          refine lv_iconst (v := 1) hC.1 hC.2.1 dX5_addTariff_52 (by decide) ?_
          refine lv_sipush (v := 300) hC.1 hC.2.1 dX5_addTariff_53 (by decide) ?_
          refine m_callSi (y := yX5_isIn) (rest := []) hC hs hH hl.1 (va_cwS 3 hC.2.2.2.2 (gA_S q_156 q_157 q_5 q_158) rfl rfl rfl (by decide +kernel) ⟨Nat.le_of_ble_eq_true rfl, Nat.le_of_ble_eq_true rfl⟩) (met_X5_isIn l hl0 g _ _ _ _ _ _ hw) rfl rfl (Nat.le_of_ble_eq_true rfl) dX5_addTariff_56 ⟨Nat.le_of_ble_eq_true rfl, Nat.le_of_ble_eq_true rfl⟩ (m_out (fun x hx => (hnx x hx).elim) hlk (Nat.le_of_ble_eq_true rfl) (Nat.le_of_ble_eq_true rfl)) (fun r12 S1 H locs hw hH => ?_)
          refine W.widen (k := 0) (n := 0) (Nat.le_of_ble_eq_true rfl) (Nat.le_of_ble_eq_true rfl) ?_
          refine lv_if_ne (tgt := 68) hC.1 hC.2.1 dX5_addTariff_59 (by decide) (fun hc => ?_) (fun hc => ?_)
          · have hw := hw.1 hc
            refine lv_aload_n hC.1 hC.2.1 dX5_addTariff_68 rfl (lv_at hl 0 rfl) ?_
            obtain ⟨k13, hw⟩ := hw
            refine m_getI hC hs hH cs5 fs5_1 (fun _ h => List.mem_cons_of_mem _ (inlX5 _ h)) (List.mem_cons_of_mem _ q_154) (fun _ h => h) k13 dX5_addTariff_69 ?_
            refine lv_iconst (v := 5) hC.1 hC.2.1 dX5_addTariff_72 (by decide) ?_
            refine lv_icmp_ne (tgt := 82) hC.1 hC.2.1 dX5_addTariff_73 (by decide) (fun hc => ?_) (fun hc => ?_)
            · have hw := hw.1 hc
              refine lv_bipush (v := 9) hC.1 hC.2.1 dX5_addTariff_82 (by decide) ?_
              refine m_newI (N' := 9) hC hs hH (List.mem_cons_of_mem _ q_42) (by decide) (by decide) (by decide) (Nat.le_of_ble_eq_true rfl) (Nat.le_of_ble_eq_true rfl) dX5_addTariff_84 (fun q14 H f15 hH => ?_)
              have hw := hw q14 f15 _ rfl
              refine W.widen (k := 1) (n := 9) (Nat.le_of_ble_eq_true rfl) (Nat.le_of_ble_eq_true rfl) ?_
              refine lv_dup hC.1 hC.2.1 dX5_addTariff_86 rfl ?_
              refine lv_iconst (v := 0) hC.1 hC.2.1 dX5_addTariff_87 (by decide) ?_
              refine lv_iload_n hC.1 hC.2.1 dX5_addTariff_88 rfl (lv_at hl 1 rfl) ?_
              obtain ⟨i17, hw⟩ := hw
              have hw := hw _ rfl
              refine m_iast hC hs hH mkQ i17 dX5_addTariff_89 (fun H locs hH => ?_)
              refine lv_dup hC.1 hC.2.1 dX5_addTariff_90 rfl ?_
              refine lv_iconst (v := 1) hC.1 hC.2.1 dX5_addTariff_91 (by decide) ?_
              refine lv_iload_n hC.1 hC.2.1 dX5_addTariff_92 rfl (lv_at hl 2 rfl) ?_
              obtain ⟨i19, hw⟩ := hw
              have hw := hw _ rfl
              refine m_iast hC hs hH mkQ i19 dX5_addTariff_93 (fun H locs hH => ?_)
              refine lv_dup hC.1 hC.2.1 dX5_addTariff_94 rfl ?_
              refine lv_iconst (v := 2) hC.1 hC.2.1 dX5_addTariff_95 (by decide) ?_
              refine lv_iload_n hC.1 hC.2.1 dX5_addTariff_96 rfl (lv_at hl 3 rfl) ?_
              obtain ⟨i21, hw⟩ := hw
              have hw := hw _ rfl
              refine m_iast hC hs hH mkQ i21 dX5_addTariff_97 (fun H locs hH => ?_)
              refine lv_dup hC.1 hC.2.1 dX5_addTariff_98 rfl ?_
              refine lv_iconst (v := 3) hC.1 hC.2.1 dX5_addTariff_99 (by decide) ?_
              refine lv_iload hC.1 hC.2.1 dX5_addTariff_100 (lv_at hl 4 rfl) ?_
              obtain ⟨i23, hw⟩ := hw
              have hw := hw _ rfl
              refine m_iast hC hs hH mkQ i23 dX5_addTariff_102 (fun H locs hH => ?_)
              refine lv_dup hC.1 hC.2.1 dX5_addTariff_103 rfl ?_
              refine lv_iconst (v := 4) hC.1 hC.2.1 dX5_addTariff_104 (by decide) ?_
              refine lv_iload hC.1 hC.2.1 dX5_addTariff_105 (lv_at hl 5 rfl) ?_
              obtain ⟨i25, hw⟩ := hw
              have hw := hw _ rfl
              refine m_iast hC hs hH mkQ i25 dX5_addTariff_107 (fun H locs hH => ?_)
              refine lv_dup hC.1 hC.2.1 dX5_addTariff_108 rfl ?_
              refine lv_iconst (v := 5) hC.1 hC.2.1 dX5_addTariff_109 (by decide) ?_
              refine lv_iconst (v := 0) hC.1 hC.2.1 dX5_addTariff_110 (by decide) ?_
              obtain ⟨i27, hw⟩ := hw
              have hw := hw _ rfl
              refine m_iast hC hs hH mkQ i27 dX5_addTariff_111 (fun H locs hH => ?_)
              refine lv_dup hC.1 hC.2.1 dX5_addTariff_112 rfl ?_
              refine lv_bipush (v := 6) hC.1 hC.2.1 dX5_addTariff_113 (by decide) ?_
              refine lv_iconst (v := 0) hC.1 hC.2.1 dX5_addTariff_115 (by decide) ?_
              obtain ⟨i29, hw⟩ := hw
              have hw := hw _ rfl
              refine m_iast hC hs hH mkQ i29 dX5_addTariff_116 (fun H locs hH => ?_)
              refine lv_dup hC.1 hC.2.1 dX5_addTariff_117 rfl ?_
              refine lv_bipush (v := 7) hC.1 hC.2.1 dX5_addTariff_118 (by decide) ?_
              refine lv_iconst (v := 0) hC.1 hC.2.1 dX5_addTariff_120 (by decide) ?_
              obtain ⟨i31, hw⟩ := hw
              have hw := hw _ rfl
              refine m_iast hC hs hH mkQ i31 dX5_addTariff_121 (fun H locs hH => ?_)
              refine lv_dup hC.1 hC.2.1 dX5_addTariff_122 rfl ?_
              refine lv_bipush (v := 8) hC.1 hC.2.1 dX5_addTariff_123 (by decide) ?_
              refine lv_iconst (v := 0) hC.1 hC.2.1 dX5_addTariff_125 (by decide) ?_
              obtain ⟨i33, hw⟩ := hw
              have hw := hw _ rfl
              refine m_iast hC hs hH mkQ i33 dX5_addTariff_126 (fun H locs hH => ?_)
              refine lv_astore (lv' := [(6, .ref _), (0, .ref _), (1, .int _), (2, .int _), (3, .int _), (4, .int _), (5, .int _)]) hC.1 hC.2.1 dX5_addTariff_127 hl (by decide) rfl (fun ls hl => ?_)
              refine lv_aload hC.1 hC.2.1 dX5_addTariff_129 (lv_at hl 0 rfl) ?_
              refine lv_iconst (v := 0) hC.1 hC.2.1 dX5_addTariff_131 (by decide) ?_
              refine lv_aload_n hC.1 hC.2.1 dX5_addTariff_132 rfl (lv_at hl 1 rfl) ?_
              obtain ⟨b35, r36, hw⟩ := hw
              refine m_getR hC hs hH cs5 fs5_2 (fun _ h => List.mem_cons_of_mem _ (inlX5 _ h)) (List.mem_cons_of_mem _ q_43) (fun _ h => h) (mkN k13 f15) r36 dX5_addTariff_133 ?_
              refine lv_bipush (v := 9) hC.1 hC.2.1 dX5_addTariff_136 (by decide) ?_
              refine lv_aload_n hC.1 hC.2.1 dX5_addTariff_138 rfl (lv_at hl 1 rfl) ?_
              refine m_getI hC hs hH cs5 fs5_1 (fun _ h => List.mem_cons_of_mem _ (inlX5 _ h)) (List.mem_cons_of_mem _ q_154) (fun _ h => h) (mkN k13 f15) dX5_addTariff_139 ?_
              refine lv_imul hC.1 hC.2.1 dX5_addTariff_142 ?_
              refine lv_bipush (v := 9) hC.1 hC.2.1 dX5_addTariff_143 (by decide) ?_
              obtain ⟨k37, hw⟩ := hw
              obtain ⟨n38, hw⟩ := hw
              have hw := hw _ rfl
              refine m_copyI hC hs hH hl.1 (List.mem_cons_of_mem _ q_155) (List.mem_cons_of_mem _ q_146) (List.mem_cons_of_mem _ q_147) (List.mem_cons_of_mem _ q_148) mkQ k37 n38 (Nat.le_of_ble_eq_true rfl) (by decide) dX5_addTariff_145 (fun H locs hH => ?_)
              refine lv_aload_n hC.1 hC.2.1 dX5_addTariff_148 rfl (lv_at hl 1 rfl) ?_
              refine lv_dup hC.1 hC.2.1 dX5_addTariff_149 rfl ?_
              refine m_getI hC hs hH cs5 fs5_1 (fun _ h => List.mem_cons_of_mem _ (inlX5 _ h)) (List.mem_cons_of_mem _ q_154) (fun _ h => h) (mkN k13 f15) dX5_addTariff_150 ?_
              refine lv_iconst (v := 1) hC.1 hC.2.1 dX5_addTariff_153 (by decide) ?_
              refine lv_iadd hC.1 hC.2.1 dX5_addTariff_154 ?_
              have hw := hw _ rfl
              refine m_putI hC hs hH cs5 fs5_1 (fun _ h => List.mem_cons_of_mem _ (inlX5 _ h)) (List.mem_cons_of_mem _ q_154) (fun _ h => h) (Or.inl rfl) rfl (mkN k13 f15) dX5_addTariff_155 (fun H locs hH => ?_)
              refine lv_aload_n hC.1 hC.2.1 dX5_addTariff_158 rfl (lv_at hl 1 rfl) ?_
              refine m_getI hC hs hH cs5 fs5_1 (fun _ h => List.mem_cons_of_mem _ (inlX5 _ h)) (List.mem_cons_of_mem _ q_154) (fun _ h => h) (mkN k13 f15) dX5_addTariff_159 ?_
              refine lv_iconst (v := 1) hC.1 hC.2.1 dX5_addTariff_162 (by decide) ?_
              refine lv_isub hC.1 hC.2.1 dX5_addTariff_163 ?_
              exact m_reti hC hH hrt rfl hlk (Nat.le_of_ble_eq_true rfl) (Nat.le_of_ble_eq_true rfl) dX5_addTariff_164 hw
            · have hw := hw.2 hc
              refine lv_aload_n hC.1 hC.2.1 dX5_addTariff_76 rfl (lv_at hl 0 rfl) ?_
              refine lv_iconst (v := 2) hC.1 hC.2.1 dX5_addTariff_77 (by decide) ?_
              refine m_callVi (y := yX5_fail) (rest := []) hC hs hH hl.1 (cwV 1 hC.2.2.2.2 (gA_V q_159 q_160 q_161 q_5 q_162) rfl rfl rfl (by decide +kernel) ⟨Nat.le_of_ble_eq_true rfl, Nat.le_of_ble_eq_true rfl⟩) cs5 k13 (met_X5_fail l hl0 g _ _ _ _ _ hw) rfl rfl (Nat.le_of_ble_eq_true rfl) dX5_addTariff_78 ⟨Nat.le_of_ble_eq_true rfl, Nat.le_of_ble_eq_true rfl⟩ (m_out (fun x hx => (hnx x hx).elim) hlk (Nat.le_of_ble_eq_true rfl) (Nat.le_of_ble_eq_true rfl)) (fun r42 S1 H locs hw hH => ?_)
              refine W.widen (k := 0) (n := 0) (Nat.le_of_ble_eq_true rfl) (Nat.le_of_ble_eq_true rfl) ?_
              exact m_reti hC hH hrt rfl hlk (Nat.le_of_ble_eq_true rfl) (Nat.le_of_ble_eq_true rfl) dX5_addTariff_81 hw
          · have hw := hw.2 hc
            exact bw_X5_addTariff_62 hl0 hC hrt hlk hmn hnx hs _ _ hw _ _ hH _ (lv_sub hl [0] rfl)
abbrev rm_X5_setZone : Room := { frames := 3, cells := 0, slots := 0, locals := 43 }
def bk_X5_setZone_51 (z : Nat × Nat) (Q : Int32 → mmS → Prop) (X : String → mmS → Prop) (S : mmS) (x0 : Nat) : Prop := (x0 ∈ mL S ∧ mK S x0 = 5) ∧ wp_X5_fail z S x0 (2 : Int32) (fun r3 S1 => Q r3 S1) X
def bk_X5_setZone_22 (z : Nat × Nat) (Q : Int32 → mmS → Prop) (X : String → mmS → Prop) (S : mmS) (x0 : Nat) : Prop := (x0 ∈ mL S ∧ mK S x0 = 5) ∧ wp_X5_fail z S x0 (1 : Int32) (fun r3 S1 => Q r3 S1) X
def wp_X5_setZone (z : Nat × Nat) (S : mmS) (p0 : Nat) (p1 : Int32) (p2 : Int32) (p3 : Int32) (p4 : Int32) (Q : Int32 → mmS → Prop) (X : String → mmS → Prop) : Prop := (p0 ∈ mL S ∧ mK S p0 = 5) ∧ ∀ S2 : mmS, S2 = sI S 23 p0 (0 : Int32) → wp_X5_isTariff z S2 p0 p1 (fun r4 S3 => (r4 = 0 → bk_X5_setZone_22 z Q X S3 p0) ∧ (¬ r4 = 0 → wp_X5_isIn z S3 p2 (1 : Int32) (2 : Int32) (fun r6 S5 => (¬ r6 = 0 → wp_X5_isIn z S5 p3 (0 : Int32) (10000 : Int32) (fun r8 S7 => (r8 = 0 → bk_X5_setZone_51 z Q X S7 p0) ∧ (¬ r8 = 0 → wp_X5_isIn z S7 p4 (0 : Int32) (10000 : Int32) (fun r10 S9 => (¬ r10 = 0 → ∀ v11 : Int32, v11 = ((((9 : Int32) * p1) + (3 : Int32)) + ((2 : Int32) * p2)) → (p0 ∈ mL S9 ∧ mK S9 p0 = 5) ∧ ∃ b13 : Nat, mR S9 13 p0 = some b13 ∧ (b13 ∈ mL S9 ∧ mK S9 b13 = 7) ∧ vp_in v11 (mN S9 b13) ∧ ∀ v17 : Int32, v17 = (mA S9 b13 (v11).toNatClampNeg) → ∃ b18 : Nat, mR S9 13 p0 = some b18 ∧ (b18 ∈ mL S9 ∧ mK S9 b18 = 7) ∧ vp_in v11 (mN S9 b18) ∧ ∀ S22 : mmS, S22 = sA S9 b18 (v11).toNatClampNeg p3 → ∃ b23 : Nat, mR S22 13 p0 = some b23 ∧ (b23 ∈ mL S22 ∧ mK S22 b23 = 7) ∧ vp_in (v11 + (1 : Int32)) (mN S22 b23) ∧ ∀ S27 : mmS, S27 = sA S22 b23 (v11 + (1 : Int32)).toNatClampNeg p4 → Q v17 S27) ∧ (r10 = 0 → bk_X5_setZone_51 z Q X S9 p0)) X)) X) ∧ (r6 = 0 → bk_X5_setZone_22 z Q X S5 p0)) X)) X
set_option maxHeartbeats 4000000 in
set_option maxRecDepth 100000 in
theorem bw_X5_setZone_51 {p : Program} {l : Launch} {e : Env} {s : State} {m : MethodId} {args : Array Value} {below : List Frame} {meth : Method} {c : Code} {g : mG} {Q : Int32 → mmS → Prop} {X : String → mmS → Prop} (hl0 : l.stackTraces = false) (hC : CallFix p m c cX5_setZone 7 s args (wA_ yX5_setZone cX5_setZone 7 (some .int)) RX5) (hrt : meth.sig.returnType = (some .int)) (hlk : meth.locks = false) (hmn : meth.name = yX5_setZone.name) (hnx : ∀ x ∈ c.exceptionTable.toList, False) (hs : mX g s) : ∀ (S : mmS) (x0 : Nat), bk_X5_setZone_51 g.2.2.2.2.2 Q X S x0 → ∀ (H : Heap) (locs : List Loc), mH g S s H locs → ∀ ls : Array Slot, lv_has ls 7 [(0, .ref x0)] → W p l e rm_X5_setZone s m args below meth c H locs 0 0 (vx_MQ below (va_Qi Q (wO g) (mB g)) (vx_X (fun _ : mmS => True) (fun E S1 t => X E S1 ∧ wO g S1 t) (mB g)) args s rm_X5_setZone.cells rm_X5_setZone.slots (mB g)) (F0 m 51 ls []) := by
  intro S x0 hw H locs hH ls hl
  unfold bk_X5_setZone_51 at hw
  refine lv_aload_n hC.1 hC.2.1 dX5_setZone_51 rfl (lv_at hl 0 rfl) ?_
  refine lv_iconst (v := 2) hC.1 hC.2.1 dX5_setZone_52 (by decide) ?_
  obtain ⟨k2, hw⟩ := hw
  refine m_callVi (y := yX5_fail) (rest := []) hC hs hH hl.1 (cwV 1 hC.2.2.2.2 (gA_V q_159 q_160 q_161 q_5 q_162) rfl rfl rfl (by decide +kernel) ⟨Nat.le_of_ble_eq_true rfl, Nat.le_of_ble_eq_true rfl⟩) cs5 k2 (met_X5_fail l hl0 g _ _ _ _ _ hw) rfl rfl (Nat.le_of_ble_eq_true rfl) dX5_setZone_53 ⟨Nat.le_of_ble_eq_true rfl, Nat.le_of_ble_eq_true rfl⟩ (m_out (fun x hx => (hnx x hx).elim) hlk (Nat.le_of_ble_eq_true rfl) (Nat.le_of_ble_eq_true rfl)) (fun r3 S1 H locs hw hH => ?_)
  refine W.widen (k := 0) (n := 0) (Nat.le_of_ble_eq_true rfl) (Nat.le_of_ble_eq_true rfl) ?_
  exact m_reti hC hH hrt rfl hlk (Nat.le_of_ble_eq_true rfl) (Nat.le_of_ble_eq_true rfl) dX5_setZone_56 hw
set_option maxHeartbeats 4000000 in
set_option maxRecDepth 100000 in
theorem bw_X5_setZone_22 {p : Program} {l : Launch} {e : Env} {s : State} {m : MethodId} {args : Array Value} {below : List Frame} {meth : Method} {c : Code} {g : mG} {Q : Int32 → mmS → Prop} {X : String → mmS → Prop} (hl0 : l.stackTraces = false) (hC : CallFix p m c cX5_setZone 7 s args (wA_ yX5_setZone cX5_setZone 7 (some .int)) RX5) (hrt : meth.sig.returnType = (some .int)) (hlk : meth.locks = false) (hmn : meth.name = yX5_setZone.name) (hnx : ∀ x ∈ c.exceptionTable.toList, False) (hs : mX g s) : ∀ (S : mmS) (x0 : Nat), bk_X5_setZone_22 g.2.2.2.2.2 Q X S x0 → ∀ (H : Heap) (locs : List Loc), mH g S s H locs → ∀ ls : Array Slot, lv_has ls 7 [(0, .ref x0)] → W p l e rm_X5_setZone s m args below meth c H locs 0 0 (vx_MQ below (va_Qi Q (wO g) (mB g)) (vx_X (fun _ : mmS => True) (fun E S1 t => X E S1 ∧ wO g S1 t) (mB g)) args s rm_X5_setZone.cells rm_X5_setZone.slots (mB g)) (F0 m 22 ls []) := by
  intro S x0 hw H locs hH ls hl
  unfold bk_X5_setZone_22 at hw
  refine lv_aload_n hC.1 hC.2.1 dX5_setZone_22 rfl (lv_at hl 0 rfl) ?_
  refine lv_iconst (v := 1) hC.1 hC.2.1 dX5_setZone_23 (by decide) ?_
  obtain ⟨k2, hw⟩ := hw
  refine m_callVi (y := yX5_fail) (rest := []) hC hs hH hl.1 (cwV 1 hC.2.2.2.2 (gA_V q_159 q_160 q_161 q_5 q_162) rfl rfl rfl (by decide +kernel) ⟨Nat.le_of_ble_eq_true rfl, Nat.le_of_ble_eq_true rfl⟩) cs5 k2 (met_X5_fail l hl0 g _ _ _ _ _ hw) rfl rfl (Nat.le_of_ble_eq_true rfl) dX5_setZone_24 ⟨Nat.le_of_ble_eq_true rfl, Nat.le_of_ble_eq_true rfl⟩ (m_out (fun x hx => (hnx x hx).elim) hlk (Nat.le_of_ble_eq_true rfl) (Nat.le_of_ble_eq_true rfl)) (fun r3 S1 H locs hw hH => ?_)
  refine W.widen (k := 0) (n := 0) (Nat.le_of_ble_eq_true rfl) (Nat.le_of_ble_eq_true rfl) ?_
  exact m_reti hC hH hrt rfl hlk (Nat.le_of_ble_eq_true rfl) (Nat.le_of_ble_eq_true rfl) dX5_setZone_27 hw
set_option maxHeartbeats 4000000 in
set_option maxRecDepth 100000 in
theorem met_X5_setZone (l : Launch) (hl0 : l.stackTraces = false) (g : mG) (S : mmS) (p0 : Nat) (p1 : Int32) (p2 : Int32) (p3 : Int32) (p4 : Int32) (Q : Int32 → mmS → Prop) (X : String → mmS → Prop) (hw : wp_X5_setZone g.2.2.2.2.2 S p0 p1 p2 p3 p4 Q X) : mMi l g yX5_setZone (wA_ yX5_setZone cX5_setZone 7 (some .int)) rm_X5_setZone [.ref p0, .int p1, .int p2, .int p3, .int p4] S Q X := by
  refine m_of (y := yX5_setZone) (cc := cX5_setZone) (maxL := 7) (ret := (some .int)) (by decide) rfl (Nat.le_of_ble_eq_true rfl) ?_
  intro p e s m args below meth c ls hC hrt hlk hmn hnx hs hH hl
  have hC : CallFix p m c cX5_setZone 7 s args (wA_ yX5_setZone cX5_setZone 7 (some .int)) RX5 := hC
  have hl : lv_has ls 7 [(0, .ref p0), (1, .int p1), (2, .int p2), (3, .int p3), (4, .int p4)] := hl
  unfold wp_X5_setZone at hw
  refine lv_aload_n hC.1 hC.2.1 dX5_setZone_0 rfl (lv_at hl 0 rfl) ?_
  refine lv_iconst (v := 0) hC.1 hC.2.1 dX5_setZone_1 (by decide) ?_
  obtain ⟨k1, hw⟩ := hw
  have hw := hw _ rfl
  refine m_putI hC hs hH cs5 fs5_0 (fun _ h => List.mem_cons_of_mem _ (inlX5 _ h)) (List.mem_cons_of_mem _ q_153) (fun _ h => h) (Or.inl rfl) rfl k1 dX5_setZone_2 (fun H locs hH => ?_)
  refine lv_aload_n hC.1 hC.2.1 dX5_setZone_5 rfl (lv_at hl 0 rfl) ?_
  refine lv_iload_n hC.1 hC.2.1 dX5_setZone_6 rfl (lv_at hl 1 rfl) ?_
  refine m_callVi (y := yX5_isTariff) (rest := []) hC hs hH hl.1 (cwV 1 hC.2.2.2.2 (gA_V q_295 q_296 q_297 q_5 q_298) rfl rfl rfl (by decide +kernel) ⟨Nat.le_of_ble_eq_true rfl, Nat.le_of_ble_eq_true rfl⟩) cs5 k1 (met_X5_isTariff l hl0 g _ _ _ _ _ hw) rfl rfl (Nat.le_of_ble_eq_true rfl) dX5_setZone_7 ⟨Nat.le_of_ble_eq_true rfl, Nat.le_of_ble_eq_true rfl⟩ (m_out (fun x hx => (hnx x hx).elim) hlk (Nat.le_of_ble_eq_true rfl) (Nat.le_of_ble_eq_true rfl)) (fun r4 S1 H locs hw hH => ?_)
  refine W.widen (k := 0) (n := 0) (Nat.le_of_ble_eq_true rfl) (Nat.le_of_ble_eq_true rfl) ?_
  refine lv_if_eq (tgt := 22) hC.1 hC.2.1 dX5_setZone_10 (by decide) (fun hc => ?_) (fun hc => ?_)
  · have hw := hw.1 hc
    exact bw_X5_setZone_22 hl0 hC hrt hlk hmn hnx hs _ _ hw _ _ hH _ (lv_sub hl [0] rfl)
  · have hw := hw.2 hc
    refine lv_iload_n hC.1 hC.2.1 dX5_setZone_13 rfl (lv_at hl 2 rfl) ?_
    refine lv_iconst (v := 1) hC.1 hC.2.1 dX5_setZone_14 (by decide) ?_
    refine lv_iconst (v := 2) hC.1 hC.2.1 dX5_setZone_15 (by decide) ?_
    refine m_callSi (y := yX5_isIn) (rest := []) hC hs hH hl.1 (va_cwS 3 hC.2.2.2.2 (gA_S q_156 q_157 q_5 q_158) rfl rfl rfl (by decide +kernel) ⟨Nat.le_of_ble_eq_true rfl, Nat.le_of_ble_eq_true rfl⟩) (met_X5_isIn l hl0 g _ _ _ _ _ _ hw) rfl rfl (Nat.le_of_ble_eq_true rfl) dX5_setZone_16 ⟨Nat.le_of_ble_eq_true rfl, Nat.le_of_ble_eq_true rfl⟩ (m_out (fun x hx => (hnx x hx).elim) hlk (Nat.le_of_ble_eq_true rfl) (Nat.le_of_ble_eq_true rfl)) (fun r6 S1 H locs hw hH => ?_)
    refine W.widen (k := 0) (n := 0) (Nat.le_of_ble_eq_true rfl) (Nat.le_of_ble_eq_true rfl) ?_
    refine lv_if_ne (tgt := 28) hC.1 hC.2.1 dX5_setZone_19 (by decide) (fun hc => ?_) (fun hc => ?_)
    · have hw := hw.1 hc
      refine lv_iload_n hC.1 hC.2.1 dX5_setZone_28 rfl (lv_at hl 3 rfl) ?_
      refine lv_iconst (v := 0) hC.1 hC.2.1 dX5_setZone_29 (by decide) ?_
      refine lv_sipush (v := 10000) hC.1 hC.2.1 dX5_setZone_30 (by decide) ?_
      refine m_callSi (y := yX5_isIn) (rest := []) hC hs hH hl.1 (va_cwS 3 hC.2.2.2.2 (gA_S q_156 q_157 q_5 q_158) rfl rfl rfl (by decide +kernel) ⟨Nat.le_of_ble_eq_true rfl, Nat.le_of_ble_eq_true rfl⟩) (met_X5_isIn l hl0 g _ _ _ _ _ _ hw) rfl rfl (Nat.le_of_ble_eq_true rfl) dX5_setZone_33 ⟨Nat.le_of_ble_eq_true rfl, Nat.le_of_ble_eq_true rfl⟩ (m_out (fun x hx => (hnx x hx).elim) hlk (Nat.le_of_ble_eq_true rfl) (Nat.le_of_ble_eq_true rfl)) (fun r8 S1 H locs hw hH => ?_)
      refine W.widen (k := 0) (n := 0) (Nat.le_of_ble_eq_true rfl) (Nat.le_of_ble_eq_true rfl) ?_
      refine lv_if_eq (tgt := 51) hC.1 hC.2.1 dX5_setZone_36 (by decide) (fun hc => ?_) (fun hc => ?_)
      · have hw := hw.1 hc
        exact bw_X5_setZone_51 hl0 hC hrt hlk hmn hnx hs _ _ hw _ _ hH _ (lv_sub hl [0] rfl)
      · have hw := hw.2 hc
        refine lv_iload hC.1 hC.2.1 dX5_setZone_39 (lv_at hl 4 rfl) ?_
        refine lv_iconst (v := 0) hC.1 hC.2.1 dX5_setZone_41 (by decide) ?_
        refine lv_sipush (v := 10000) hC.1 hC.2.1 dX5_setZone_42 (by decide) ?_
        refine m_callSi (y := yX5_isIn) (rest := []) hC hs hH hl.1 (va_cwS 3 hC.2.2.2.2 (gA_S q_156 q_157 q_5 q_158) rfl rfl rfl (by decide +kernel) ⟨Nat.le_of_ble_eq_true rfl, Nat.le_of_ble_eq_true rfl⟩) (met_X5_isIn l hl0 g _ _ _ _ _ _ hw) rfl rfl (Nat.le_of_ble_eq_true rfl) dX5_setZone_45 ⟨Nat.le_of_ble_eq_true rfl, Nat.le_of_ble_eq_true rfl⟩ (m_out (fun x hx => (hnx x hx).elim) hlk (Nat.le_of_ble_eq_true rfl) (Nat.le_of_ble_eq_true rfl)) (fun r10 S1 H locs hw hH => ?_)
        refine W.widen (k := 0) (n := 0) (Nat.le_of_ble_eq_true rfl) (Nat.le_of_ble_eq_true rfl) ?_
        refine lv_if_ne (tgt := 57) hC.1 hC.2.1 dX5_setZone_48 (by decide) (fun hc => ?_) (fun hc => ?_)
        · have hw := hw.1 hc
          refine lv_bipush (v := 9) hC.1 hC.2.1 dX5_setZone_57 (by decide) ?_
          refine lv_iload_n hC.1 hC.2.1 dX5_setZone_59 rfl (lv_at hl 1 rfl) ?_
          refine lv_imul hC.1 hC.2.1 dX5_setZone_60 ?_
          refine lv_iconst (v := 3) hC.1 hC.2.1 dX5_setZone_61 (by decide) ?_
          refine lv_iadd hC.1 hC.2.1 dX5_setZone_62 ?_
          refine lv_iconst (v := 2) hC.1 hC.2.1 dX5_setZone_63 (by decide) ?_
          refine lv_iload_n hC.1 hC.2.1 dX5_setZone_64 rfl (lv_at hl 2 rfl) ?_
          refine lv_imul hC.1 hC.2.1 dX5_setZone_65 ?_
          refine lv_iadd hC.1 hC.2.1 dX5_setZone_66 ?_
          have hw := hw _ rfl
          refine lv_istore (lv' := [(5, .int _), (0, .ref _), (1, .int _), (2, .int _), (3, .int _), (4, .int _)]) hC.1 hC.2.1 dX5_setZone_67 hl (by decide) rfl (fun ls hl => ?_)
          refine lv_aload_n hC.1 hC.2.1 dX5_setZone_69 rfl (lv_at hl 1 rfl) ?_
          obtain ⟨k12, hw⟩ := hw
          obtain ⟨b13, r14, hw⟩ := hw
          refine m_getR hC hs hH cs5 fs5_2 (fun _ h => List.mem_cons_of_mem _ (inlX5 _ h)) (List.mem_cons_of_mem _ q_43) (fun _ h => h) k12 r14 dX5_setZone_70 ?_
          refine lv_iload hC.1 hC.2.1 dX5_setZone_73 (lv_at hl 0 rfl) ?_
          obtain ⟨k15, hw⟩ := hw
          obtain ⟨i16, hw⟩ := hw
          refine m_iald hC hs hH k15 i16 dX5_setZone_75 ?_
          have hw := hw _ rfl
          refine lv_istore (lv' := [(6, .int _), (5, .int _), (0, .ref _), (1, .int _), (2, .int _), (3, .int _), (4, .int _)]) hC.1 hC.2.1 dX5_setZone_76 hl (by decide) rfl (fun ls hl => ?_)
          refine lv_aload_n hC.1 hC.2.1 dX5_setZone_78 rfl (lv_at hl 2 rfl) ?_
          obtain ⟨b18, r19, hw⟩ := hw
          refine m_getR hC hs hH cs5 fs5_2 (fun _ h => List.mem_cons_of_mem _ (inlX5 _ h)) (List.mem_cons_of_mem _ q_43) (fun _ h => h) k12 r19 dX5_setZone_79 ?_
          refine lv_iload hC.1 hC.2.1 dX5_setZone_82 (lv_at hl 1 rfl) ?_
          refine lv_iload_n hC.1 hC.2.1 dX5_setZone_84 rfl (lv_at hl 5 rfl) ?_
          obtain ⟨k20, hw⟩ := hw
          obtain ⟨i21, hw⟩ := hw
          have hw := hw _ rfl
          refine m_iast hC hs hH k20 i21 dX5_setZone_85 (fun H locs hH => ?_)
          refine lv_aload_n hC.1 hC.2.1 dX5_setZone_86 rfl (lv_at hl 2 rfl) ?_
          obtain ⟨b23, r24, hw⟩ := hw
          refine m_getR hC hs hH cs5 fs5_2 (fun _ h => List.mem_cons_of_mem _ (inlX5 _ h)) (List.mem_cons_of_mem _ q_43) (fun _ h => h) k12 r24 dX5_setZone_87 ?_
          refine lv_iload hC.1 hC.2.1 dX5_setZone_90 (lv_at hl 1 rfl) ?_
          refine lv_iconst (v := 1) hC.1 hC.2.1 dX5_setZone_92 (by decide) ?_
          refine lv_iadd hC.1 hC.2.1 dX5_setZone_93 ?_
          refine lv_iload hC.1 hC.2.1 dX5_setZone_94 (lv_at hl 6 rfl) ?_
          obtain ⟨k25, hw⟩ := hw
          obtain ⟨i26, hw⟩ := hw
          have hw := hw _ rfl
          refine m_iast hC hs hH k25 i26 dX5_setZone_96 (fun H locs hH => ?_)
          refine lv_iload hC.1 hC.2.1 dX5_setZone_97 (lv_at hl 0 rfl) ?_
          exact m_reti hC hH hrt rfl hlk (Nat.le_of_ble_eq_true rfl) (Nat.le_of_ble_eq_true rfl) dX5_setZone_99 hw
        · have hw := hw.2 hc
          exact bw_X5_setZone_51 hl0 hC hrt hlk hmn hnx hs _ _ hw _ _ hH _ (lv_sub hl [0] rfl)
    · have hw := hw.2 hc
      exact bw_X5_setZone_22 hl0 hC hrt hlk hmn hnx hs _ _ hw _ _ hH _ (lv_sub hl [0] rfl)
abbrev rm_X5_setPeak : Room := { frames := 2, cells := 0, slots := 0, locals := 22 }
def bk_X5_setPeak_61 (z : Nat × Nat) (Q : Int32 → mmS → Prop) (X : String → mmS → Prop) (S : mmS) (x0 : Nat) (x1 : Int32) (x2 : Int32) (t0 : Int32) : Prop := (x0 ∈ mL S ∧ mK S x0 = 5) ∧ ∀ S2 : mmS, S2 = sI S 28 x0 x1 → ∀ S3 : mmS, S3 = sI S2 29 x0 x2 → mBo t0 ∧ Q t0 S3
def bk_X5_setPeak_56 (z : Nat × Nat) (Q : Int32 → mmS → Prop) (X : String → mmS → Prop) (S : mmS) (x0 : Nat) (x1 : Int32) (x2 : Int32) : Prop := bk_X5_setPeak_61 z Q X S x0 x1 x2 (1 : Int32)
def bk_X5_setPeak_28 (z : Nat × Nat) (Q : Int32 → mmS → Prop) (X : String → mmS → Prop) (S : mmS) (x0 : Nat) (x1 : Int32) (x2 : Int32) (t0 : Nat) (t1 : Int32) : Prop := (t0 ∈ mL S ∧ mK S t0 = 5) ∧ ∀ S2 : mmS, S2 = sI S 23 t0 t1 → (x0 ∈ mL S2 ∧ mK S2 x0 = 5) ∧ ((mI S2 23 x0) = 0 → (¬ x1 = (mI S2 28 x0) → bk_X5_setPeak_56 z Q X S2 x0 x1 x2) ∧ (x1 = (mI S2 28 x0) → (x2 = (mI S2 29 x0) → bk_X5_setPeak_61 z Q X S2 x0 x1 x2 (0 : Int32)) ∧ (¬ x2 = (mI S2 29 x0) → bk_X5_setPeak_56 z Q X S2 x0 x1 x2))) ∧ (¬ (mI S2 23 x0) = 0 → Q (0 : Int32) S2)
def bk_X5_setPeak_27 (z : Nat × Nat) (Q : Int32 → mmS → Prop) (X : String → mmS → Prop) (S : mmS) (x0 : Nat) (x1 : Int32) (x2 : Int32) (t0 : Nat) : Prop := bk_X5_setPeak_28 z Q X S x0 x1 x2 t0 (1 : Int32)
def wp_X5_setPeak (z : Nat × Nat) (S : mmS) (p0 : Nat) (p1 : Int32) (p2 : Int32) (Q : Int32 → mmS → Prop) (X : String → mmS → Prop) : Prop := wp_X5_isIn z S p1 (0 : Int32) (1439 : Int32) (fun r2 S1 => (r2 = 0 → bk_X5_setPeak_27 z Q X S1 p0 p1 p2 p0) ∧ (¬ r2 = 0 → wp_X5_isIn z S1 p2 p1 (1439 : Int32) (fun r4 S3 => (r4 = 0 → bk_X5_setPeak_27 z Q X S3 p0 p1 p2 p0) ∧ (¬ r4 = 0 → bk_X5_setPeak_28 z Q X S3 p0 p1 p2 p0 (0 : Int32))) X)) X
set_option maxHeartbeats 4000000 in
set_option maxRecDepth 100000 in
theorem bw_X5_setPeak_61 {p : Program} {l : Launch} {e : Env} {s : State} {m : MethodId} {args : Array Value} {below : List Frame} {meth : Method} {c : Code} {g : mG} {Q : Int32 → mmS → Prop} {X : String → mmS → Prop} (hl0 : l.stackTraces = false) (hC : CallFix p m c cX5_setPeak 4 s args (wA_ yX5_setPeak cX5_setPeak 4 (some .boolean)) RX5) (hrt : meth.sig.returnType = (some .boolean)) (hlk : meth.locks = false) (hmn : meth.name = yX5_setPeak.name) (hnx : ∀ x ∈ c.exceptionTable.toList, False) (hs : mX g s) : ∀ (S : mmS) (x0 : Nat) (x1 : Int32) (x2 : Int32) (t0 : Int32), bk_X5_setPeak_61 g.2.2.2.2.2 Q X S x0 x1 x2 t0 → ∀ (H : Heap) (locs : List Loc), mH g S s H locs → ∀ ls : Array Slot, lv_has ls 4 [(0, .ref x0), (1, .int x1), (2, .int x2)] → W p l e rm_X5_setPeak s m args below meth c H locs 0 0 (vx_MQ below (va_Qi Q (wO g) (mB g)) (vx_X (fun _ : mmS => True) (fun E S1 t => X E S1 ∧ wO g S1 t) (mB g)) args s rm_X5_setPeak.cells rm_X5_setPeak.slots (mB g)) (F0 m 61 ls [.int t0]) := by
  intro S x0 x1 x2 t0 hw H locs hH ls hl
  unfold bk_X5_setPeak_61 at hw
  refine lv_istore_n (lv' := [(3, .int _), (0, .ref _), (1, .int _), (2, .int _)]) hC.1 hC.2.1 dX5_setPeak_61 rfl hl (by decide) rfl (fun ls hl => ?_)
  refine lv_aload_n hC.1 hC.2.1 dX5_setPeak_62 rfl (lv_at hl 1 rfl) ?_
  refine lv_iload_n hC.1 hC.2.1 dX5_setPeak_63 rfl (lv_at hl 2 rfl) ?_
  obtain ⟨k1, hw⟩ := hw
  have hw := hw _ rfl
  refine m_putI hC hs hH cs5 fs5_10 (fun _ h => List.mem_cons_of_mem _ (inlX5 _ h)) (List.mem_cons_of_mem _ q_48) (fun _ h => h) (Or.inl rfl) rfl k1 dX5_setPeak_64 (fun H locs hH => ?_)
  refine lv_aload_n hC.1 hC.2.1 dX5_setPeak_67 rfl (lv_at hl 1 rfl) ?_
  refine lv_iload_n hC.1 hC.2.1 dX5_setPeak_68 rfl (lv_at hl 3 rfl) ?_
  have hw := hw _ rfl
  refine m_putI hC hs hH cs5 fs5_11 (fun _ h => List.mem_cons_of_mem _ (inlX5 _ h)) (List.mem_cons_of_mem _ q_49) (fun _ h => h) (Or.inl rfl) rfl k1 dX5_setPeak_69 (fun H locs hH => ?_)
  refine lv_iload_n hC.1 hC.2.1 dX5_setPeak_72 rfl (lv_at hl 0 rfl) ?_
  obtain ⟨z4, hw⟩ := hw
  exact m_reti hC hH hrt z4 hlk (Nat.le_of_ble_eq_true rfl) (Nat.le_of_ble_eq_true rfl) dX5_setPeak_73 hw
set_option maxHeartbeats 4000000 in
set_option maxRecDepth 100000 in
theorem bw_X5_setPeak_56 {p : Program} {l : Launch} {e : Env} {s : State} {m : MethodId} {args : Array Value} {below : List Frame} {meth : Method} {c : Code} {g : mG} {Q : Int32 → mmS → Prop} {X : String → mmS → Prop} (hl0 : l.stackTraces = false) (hC : CallFix p m c cX5_setPeak 4 s args (wA_ yX5_setPeak cX5_setPeak 4 (some .boolean)) RX5) (hrt : meth.sig.returnType = (some .boolean)) (hlk : meth.locks = false) (hmn : meth.name = yX5_setPeak.name) (hnx : ∀ x ∈ c.exceptionTable.toList, False) (hs : mX g s) : ∀ (S : mmS) (x0 : Nat) (x1 : Int32) (x2 : Int32), bk_X5_setPeak_56 g.2.2.2.2.2 Q X S x0 x1 x2 → ∀ (H : Heap) (locs : List Loc), mH g S s H locs → ∀ ls : Array Slot, lv_has ls 4 [(0, .ref x0), (1, .int x1), (2, .int x2)] → W p l e rm_X5_setPeak s m args below meth c H locs 0 0 (vx_MQ below (va_Qi Q (wO g) (mB g)) (vx_X (fun _ : mmS => True) (fun E S1 t => X E S1 ∧ wO g S1 t) (mB g)) args s rm_X5_setPeak.cells rm_X5_setPeak.slots (mB g)) (F0 m 56 ls []) := by
  intro S x0 x1 x2 hw H locs hH ls hl
  unfold bk_X5_setPeak_56 at hw
  refine lv_iconst (v := 1) hC.1 hC.2.1 dX5_setPeak_56 (by decide) ?_
  refine lv_goto (tgt := 61) hC.1 hC.2.1 dX5_setPeak_57 (by decide) ?_
  exact bw_X5_setPeak_61 hl0 hC hrt hlk hmn hnx hs _ _ _ _ _ hw _ _ hH _ (lv_sub hl [0, 1, 2] rfl)
set_option maxHeartbeats 4000000 in
set_option maxRecDepth 100000 in
theorem bw_X5_setPeak_28 {p : Program} {l : Launch} {e : Env} {s : State} {m : MethodId} {args : Array Value} {below : List Frame} {meth : Method} {c : Code} {g : mG} {Q : Int32 → mmS → Prop} {X : String → mmS → Prop} (hl0 : l.stackTraces = false) (hC : CallFix p m c cX5_setPeak 4 s args (wA_ yX5_setPeak cX5_setPeak 4 (some .boolean)) RX5) (hrt : meth.sig.returnType = (some .boolean)) (hlk : meth.locks = false) (hmn : meth.name = yX5_setPeak.name) (hnx : ∀ x ∈ c.exceptionTable.toList, False) (hs : mX g s) : ∀ (S : mmS) (x0 : Nat) (x1 : Int32) (x2 : Int32) (t0 : Nat) (t1 : Int32), bk_X5_setPeak_28 g.2.2.2.2.2 Q X S x0 x1 x2 t0 t1 → ∀ (H : Heap) (locs : List Loc), mH g S s H locs → ∀ ls : Array Slot, lv_has ls 4 [(0, .ref x0), (1, .int x1), (2, .int x2)] → W p l e rm_X5_setPeak s m args below meth c H locs 0 0 (vx_MQ below (va_Qi Q (wO g) (mB g)) (vx_X (fun _ : mmS => True) (fun E S1 t => X E S1 ∧ wO g S1 t) (mB g)) args s rm_X5_setPeak.cells rm_X5_setPeak.slots (mB g)) (F0 m 28 ls [.int t1, .ref t0]) := by
  intro S x0 x1 x2 t0 t1 hw H locs hH ls hl
  unfold bk_X5_setPeak_28 at hw
  obtain ⟨k1, hw⟩ := hw
  have hw := hw _ rfl
  refine m_putI hC hs hH cs5 fs5_0 (fun _ h => List.mem_cons_of_mem _ (inlX5 _ h)) (List.mem_cons_of_mem _ q_153) (fun _ h => h) (Or.inl rfl) rfl k1 dX5_setPeak_28 (fun H locs hH => ?_)
  refine lv_aload_n hC.1 hC.2.1 dX5_setPeak_31 rfl (lv_at hl 0 rfl) ?_
  obtain ⟨k3, hw⟩ := hw
  refine m_getI hC hs hH cs5 fs5_0 (fun _ h => List.mem_cons_of_mem _ (inlX5 _ h)) (List.mem_cons_of_mem _ q_153) (fun _ h => h) k3 dX5_setPeak_32 ?_
  refine lv_if_eq (tgt := 40) hC.1 hC.2.1 dX5_setPeak_35 (by decide) (fun hc => ?_) (fun hc => ?_)
  · have hw := hw.1 hc
    refine lv_iload_n hC.1 hC.2.1 dX5_setPeak_40 rfl (lv_at hl 1 rfl) ?_
    refine lv_aload_n hC.1 hC.2.1 dX5_setPeak_41 rfl (lv_at hl 0 rfl) ?_
    refine m_getI hC hs hH cs5 fs5_10 (fun _ h => List.mem_cons_of_mem _ (inlX5 _ h)) (List.mem_cons_of_mem _ q_48) (fun _ h => h) k3 dX5_setPeak_42 ?_
    refine lv_icmp_ne (tgt := 56) hC.1 hC.2.1 dX5_setPeak_45 (by decide) (fun hc => ?_) (fun hc => ?_)
    · have hw := hw.1 hc
      exact bw_X5_setPeak_56 hl0 hC hrt hlk hmn hnx hs _ _ _ _ hw _ _ hH _ (lv_sub hl [0, 1, 2] rfl)
    · have hw := hw.2 hc
      refine lv_iload_n hC.1 hC.2.1 dX5_setPeak_48 rfl (lv_at hl 2 rfl) ?_
      refine lv_aload_n hC.1 hC.2.1 dX5_setPeak_49 rfl (lv_at hl 0 rfl) ?_
      refine m_getI hC hs hH cs5 fs5_11 (fun _ h => List.mem_cons_of_mem _ (inlX5 _ h)) (List.mem_cons_of_mem _ q_49) (fun _ h => h) k3 dX5_setPeak_50 ?_
      refine lv_icmp_eq (tgt := 60) hC.1 hC.2.1 dX5_setPeak_53 (by decide) (fun hc => ?_) (fun hc => ?_)
      · have hw := hw.1 hc
        refine lv_iconst (v := 0) hC.1 hC.2.1 dX5_setPeak_60 (by decide) ?_
        exact bw_X5_setPeak_61 hl0 hC hrt hlk hmn hnx hs _ _ _ _ _ hw _ _ hH _ (lv_sub hl [0, 1, 2] rfl)
      · have hw := hw.2 hc
        exact bw_X5_setPeak_56 hl0 hC hrt hlk hmn hnx hs _ _ _ _ hw _ _ hH _ (lv_sub hl [0, 1, 2] rfl)
  · have hw := hw.2 hc
    refine lv_iconst (v := 0) hC.1 hC.2.1 dX5_setPeak_38 (by decide) ?_
    exact m_reti hC hH hrt rfl hlk (Nat.le_of_ble_eq_true rfl) (Nat.le_of_ble_eq_true rfl) dX5_setPeak_39 hw
set_option maxHeartbeats 4000000 in
set_option maxRecDepth 100000 in
theorem bw_X5_setPeak_27 {p : Program} {l : Launch} {e : Env} {s : State} {m : MethodId} {args : Array Value} {below : List Frame} {meth : Method} {c : Code} {g : mG} {Q : Int32 → mmS → Prop} {X : String → mmS → Prop} (hl0 : l.stackTraces = false) (hC : CallFix p m c cX5_setPeak 4 s args (wA_ yX5_setPeak cX5_setPeak 4 (some .boolean)) RX5) (hrt : meth.sig.returnType = (some .boolean)) (hlk : meth.locks = false) (hmn : meth.name = yX5_setPeak.name) (hnx : ∀ x ∈ c.exceptionTable.toList, False) (hs : mX g s) : ∀ (S : mmS) (x0 : Nat) (x1 : Int32) (x2 : Int32) (t0 : Nat), bk_X5_setPeak_27 g.2.2.2.2.2 Q X S x0 x1 x2 t0 → ∀ (H : Heap) (locs : List Loc), mH g S s H locs → ∀ ls : Array Slot, lv_has ls 4 [(0, .ref x0), (1, .int x1), (2, .int x2)] → W p l e rm_X5_setPeak s m args below meth c H locs 0 0 (vx_MQ below (va_Qi Q (wO g) (mB g)) (vx_X (fun _ : mmS => True) (fun E S1 t => X E S1 ∧ wO g S1 t) (mB g)) args s rm_X5_setPeak.cells rm_X5_setPeak.slots (mB g)) (F0 m 27 ls [.ref t0]) := by
  intro S x0 x1 x2 t0 hw H locs hH ls hl
  unfold bk_X5_setPeak_27 at hw
  refine lv_iconst (v := 1) hC.1 hC.2.1 dX5_setPeak_27 (by decide) ?_
  exact bw_X5_setPeak_28 hl0 hC hrt hlk hmn hnx hs _ _ _ _ _ _ hw _ _ hH _ (lv_sub hl [0, 1, 2] rfl)
set_option maxHeartbeats 4000000 in
set_option maxRecDepth 100000 in
theorem met_X5_setPeak (l : Launch) (hl0 : l.stackTraces = false) (g : mG) (S : mmS) (p0 : Nat) (p1 : Int32) (p2 : Int32) (Q : Int32 → mmS → Prop) (X : String → mmS → Prop) (hw : wp_X5_setPeak g.2.2.2.2.2 S p0 p1 p2 Q X) : mMi l g yX5_setPeak (wA_ yX5_setPeak cX5_setPeak 4 (some .boolean)) rm_X5_setPeak [.ref p0, .int p1, .int p2] S Q X := by
  refine m_of (y := yX5_setPeak) (cc := cX5_setPeak) (maxL := 4) (ret := (some .boolean)) (by decide) rfl (Nat.le_of_ble_eq_true rfl) ?_
  intro p e s m args below meth c ls hC hrt hlk hmn hnx hs hH hl
  have hC : CallFix p m c cX5_setPeak 4 s args (wA_ yX5_setPeak cX5_setPeak 4 (some .boolean)) RX5 := hC
  have hl : lv_has ls 4 [(0, .ref p0), (1, .int p1), (2, .int p2)] := hl
  unfold wp_X5_setPeak at hw
  refine lv_aload_n hC.1 hC.2.1 dX5_setPeak_0 rfl (lv_at hl 0 rfl) ?_
  refine lv_iload_n hC.1 hC.2.1 dX5_setPeak_1 rfl (lv_at hl 1 rfl) ?_
  refine lv_iconst (v := 0) hC.1 hC.2.1 dX5_setPeak_2 (by decide) ?_
  refine lv_sipush (v := 1439) hC.1 hC.2.1 dX5_setPeak_3 (by decide) ?_
  refine m_callSi (y := yX5_isIn) (rest := [.ref _]) hC hs hH hl.1 (va_cwS 3 hC.2.2.2.2 (gA_S q_156 q_157 q_5 q_158) rfl rfl rfl (by decide +kernel) ⟨Nat.le_of_ble_eq_true rfl, Nat.le_of_ble_eq_true rfl⟩) (met_X5_isIn l hl0 g _ _ _ _ _ _ hw) rfl rfl (Nat.le_of_ble_eq_true rfl) dX5_setPeak_6 ⟨Nat.le_of_ble_eq_true rfl, Nat.le_of_ble_eq_true rfl⟩ (m_out (fun x hx => (hnx x hx).elim) hlk (Nat.le_of_ble_eq_true rfl) (Nat.le_of_ble_eq_true rfl)) (fun r2 S1 H locs hw hH => ?_)
  refine W.widen (k := 0) (n := 0) (Nat.le_of_ble_eq_true rfl) (Nat.le_of_ble_eq_true rfl) ?_
  refine lv_if_eq (tgt := 27) hC.1 hC.2.1 dX5_setPeak_9 (by decide) (fun hc => ?_) (fun hc => ?_)
  · have hw := hw.1 hc
    exact bw_X5_setPeak_27 hl0 hC hrt hlk hmn hnx hs _ _ _ _ _ hw _ _ hH _ (lv_sub hl [0, 1, 2] rfl)
  · have hw := hw.2 hc
    refine lv_iload_n hC.1 hC.2.1 dX5_setPeak_12 rfl (lv_at hl 2 rfl) ?_
    refine lv_iload_n hC.1 hC.2.1 dX5_setPeak_13 rfl (lv_at hl 1 rfl) ?_
    refine lv_sipush (v := 1439) hC.1 hC.2.1 dX5_setPeak_14 (by decide) ?_
    refine m_callSi (y := yX5_isIn) (rest := [.ref _]) hC hs hH hl.1 (va_cwS 3 hC.2.2.2.2 (gA_S q_156 q_157 q_5 q_158) rfl rfl rfl (by decide +kernel) ⟨Nat.le_of_ble_eq_true rfl, Nat.le_of_ble_eq_true rfl⟩) (met_X5_isIn l hl0 g _ _ _ _ _ _ hw) rfl rfl (Nat.le_of_ble_eq_true rfl) dX5_setPeak_17 ⟨Nat.le_of_ble_eq_true rfl, Nat.le_of_ble_eq_true rfl⟩ (m_out (fun x hx => (hnx x hx).elim) hlk (Nat.le_of_ble_eq_true rfl) (Nat.le_of_ble_eq_true rfl)) (fun r4 S1 H locs hw hH => ?_)
    refine W.widen (k := 0) (n := 0) (Nat.le_of_ble_eq_true rfl) (Nat.le_of_ble_eq_true rfl) ?_
    refine lv_if_eq (tgt := 27) hC.1 hC.2.1 dX5_setPeak_20 (by decide) (fun hc => ?_) (fun hc => ?_)
    · have hw := hw.1 hc
      exact bw_X5_setPeak_27 hl0 hC hrt hlk hmn hnx hs _ _ _ _ _ hw _ _ hH _ (lv_sub hl [0, 1, 2] rfl)
    · have hw := hw.2 hc
      refine lv_iconst (v := 0) hC.1 hC.2.1 dX5_setPeak_23 (by decide) ?_
      refine lv_goto (tgt := 28) hC.1 hC.2.1 dX5_setPeak_24 (by decide) ?_
      exact bw_X5_setPeak_28 hl0 hC hrt hlk hmn hnx hs _ _ _ _ _ _ hw _ _ hH _ (lv_sub hl [0, 1, 2] rfl)
abbrev rm_X5_addAccount : Room := { frames := 2, cells := 0, slots := 0, locals := 22 }
def bk_X5_addAccount_35 (z : Nat × Nat) (Q : Int32 → mmS → Prop) (X : String → mmS → Prop) (S : mmS) (x0 : Nat) : Prop := (x0 ∈ mL S ∧ mK S x0 = 5) ∧ wp_X5_fail z S x0 (1 : Int32) (fun r3 S1 => Q r3 S1) X
def wp_X5_addAccount (z : Nat × Nat) (S : mmS) (p0 : Nat) (p1 : Int32) (p2 : Int32) (p3 : Int32) (Q : Int32 → mmS → Prop) (X : String → mmS → Prop) : Prop := (p0 ∈ mL S ∧ mK S p0 = 5) ∧ ∀ S2 : mmS, S2 = sI S 23 p0 (0 : Int32) → wp_X5_isIn z S2 p1 (0 : Int32) (100000 : Int32) (fun r4 S3 => (r4 = 0 → bk_X5_addAccount_35 z Q X S3 p0) ∧ (¬ r4 = 0 → wp_X5_isIn z S3 p2 (0 : Int32) (1000000 : Int32) (fun r6 S5 => (r6 = 0 → bk_X5_addAccount_35 z Q X S5 p0) ∧ (¬ r6 = 0 → wp_X5_isIn z S5 p3 (0 : Int32) (100 : Int32) (fun r8 S7 => (¬ r8 = 0 → (p0 ∈ mL S7 ∧ mK S7 p0 = 5) ∧ (¬ (mI S7 25 p0) = (4 : Int32) → ∃ b10 : Nat, mR S7 14 p0 = some b10 ∧ (b10 ∈ mL S7 ∧ mK S7 b10 = 7) ∧ vp_in ((3 : Int32) * (mI S7 25 p0)) (mN S7 b10) ∧ ∀ S14 : mmS, S14 = sA S7 b10 ((3 : Int32) * (mI S7 25 p0)).toNatClampNeg p1 → ∃ b15 : Nat, mR S14 14 p0 = some b15 ∧ (b15 ∈ mL S14 ∧ mK S14 b15 = 7) ∧ vp_in (((3 : Int32) * (mI S14 25 p0)) + (1 : Int32)) (mN S14 b15) ∧ ∀ S19 : mmS, S19 = sA S14 b15 (((3 : Int32) * (mI S14 25 p0)) + (1 : Int32)).toNatClampNeg p2 → ∃ b20 : Nat, mR S19 14 p0 = some b20 ∧ (b20 ∈ mL S19 ∧ mK S19 b20 = 7) ∧ vp_in (((3 : Int32) * (mI S19 25 p0)) + (2 : Int32)) (mN S19 b20) ∧ ∀ S24 : mmS, S24 = sA S19 b20 (((3 : Int32) * (mI S19 25 p0)) + (2 : Int32)).toNatClampNeg p3 → ∀ S25 : mmS, S25 = sI S24 25 p0 ((mI S24 25 p0) + (1 : Int32)) → Q ((mI S25 25 p0) - (1 : Int32)) S25) ∧ ((mI S7 25 p0) = (4 : Int32) → wp_X5_fail z S7 p0 (2 : Int32) (fun r27 S26 => Q r27 S26) X)) ∧ (r8 = 0 → bk_X5_addAccount_35 z Q X S7 p0)) X)) X)) X
set_option maxHeartbeats 4000000 in
set_option maxRecDepth 100000 in
theorem bw_X5_addAccount_35 {p : Program} {l : Launch} {e : Env} {s : State} {m : MethodId} {args : Array Value} {below : List Frame} {meth : Method} {c : Code} {g : mG} {Q : Int32 → mmS → Prop} {X : String → mmS → Prop} (hl0 : l.stackTraces = false) (hC : CallFix p m c cX5_addAccount 4 s args (wA_ yX5_addAccount cX5_addAccount 4 (some .int)) RX5) (hrt : meth.sig.returnType = (some .int)) (hlk : meth.locks = false) (hmn : meth.name = yX5_addAccount.name) (hnx : ∀ x ∈ c.exceptionTable.toList, False) (hs : mX g s) : ∀ (S : mmS) (x0 : Nat), bk_X5_addAccount_35 g.2.2.2.2.2 Q X S x0 → ∀ (H : Heap) (locs : List Loc), mH g S s H locs → ∀ ls : Array Slot, lv_has ls 4 [(0, .ref x0)] → W p l e rm_X5_addAccount s m args below meth c H locs 0 0 (vx_MQ below (va_Qi Q (wO g) (mB g)) (vx_X (fun _ : mmS => True) (fun E S1 t => X E S1 ∧ wO g S1 t) (mB g)) args s rm_X5_addAccount.cells rm_X5_addAccount.slots (mB g)) (F0 m 35 ls []) := by
  intro S x0 hw H locs hH ls hl
  unfold bk_X5_addAccount_35 at hw
  refine lv_aload_n hC.1 hC.2.1 dX5_addAccount_35 rfl (lv_at hl 0 rfl) ?_
  refine lv_iconst (v := 1) hC.1 hC.2.1 dX5_addAccount_36 (by decide) ?_
  obtain ⟨k2, hw⟩ := hw
  refine m_callVi (y := yX5_fail) (rest := []) hC hs hH hl.1 (cwV 1 hC.2.2.2.2 (gA_V q_159 q_160 q_161 q_5 q_162) rfl rfl rfl (by decide +kernel) ⟨Nat.le_of_ble_eq_true rfl, Nat.le_of_ble_eq_true rfl⟩) cs5 k2 (met_X5_fail l hl0 g _ _ _ _ _ hw) rfl rfl (Nat.le_of_ble_eq_true rfl) dX5_addAccount_37 ⟨Nat.le_of_ble_eq_true rfl, Nat.le_of_ble_eq_true rfl⟩ (m_out (fun x hx => (hnx x hx).elim) hlk (Nat.le_of_ble_eq_true rfl) (Nat.le_of_ble_eq_true rfl)) (fun r3 S1 H locs hw hH => ?_)
  refine W.widen (k := 0) (n := 0) (Nat.le_of_ble_eq_true rfl) (Nat.le_of_ble_eq_true rfl) ?_
  exact m_reti hC hH hrt rfl hlk (Nat.le_of_ble_eq_true rfl) (Nat.le_of_ble_eq_true rfl) dX5_addAccount_40 hw
set_option maxHeartbeats 4000000 in
set_option maxRecDepth 100000 in
theorem met_X5_addAccount (l : Launch) (hl0 : l.stackTraces = false) (g : mG) (S : mmS) (p0 : Nat) (p1 : Int32) (p2 : Int32) (p3 : Int32) (Q : Int32 → mmS → Prop) (X : String → mmS → Prop) (hw : wp_X5_addAccount g.2.2.2.2.2 S p0 p1 p2 p3 Q X) : mMi l g yX5_addAccount (wA_ yX5_addAccount cX5_addAccount 4 (some .int)) rm_X5_addAccount [.ref p0, .int p1, .int p2, .int p3] S Q X := by
  refine m_of (y := yX5_addAccount) (cc := cX5_addAccount) (maxL := 4) (ret := (some .int)) (by decide) rfl (Nat.le_of_ble_eq_true rfl) ?_
  intro p e s m args below meth c ls hC hrt hlk hmn hnx hs hH hl
  have hC : CallFix p m c cX5_addAccount 4 s args (wA_ yX5_addAccount cX5_addAccount 4 (some .int)) RX5 := hC
  have hl : lv_has ls 4 [(0, .ref p0), (1, .int p1), (2, .int p2), (3, .int p3)] := hl
  unfold wp_X5_addAccount at hw
  refine lv_aload_n hC.1 hC.2.1 dX5_addAccount_0 rfl (lv_at hl 0 rfl) ?_
  refine lv_iconst (v := 0) hC.1 hC.2.1 dX5_addAccount_1 (by decide) ?_
  obtain ⟨k1, hw⟩ := hw
  have hw := hw _ rfl
  refine m_putI hC hs hH cs5 fs5_0 (fun _ h => List.mem_cons_of_mem _ (inlX5 _ h)) (List.mem_cons_of_mem _ q_153) (fun _ h => h) (Or.inl rfl) rfl k1 dX5_addAccount_2 (fun H locs hH => ?_)
  refine lv_iload_n hC.1 hC.2.1 dX5_addAccount_5 rfl (lv_at hl 1 rfl) ?_
  refine lv_iconst (v := 0) hC.1 hC.2.1 dX5_addAccount_6 (by decide) ?_
  refine lv_ldc hC.1 hC.2.1 hC.2.2.2.1 (hC.2.2.2.2 _ (List.mem_cons_of_mem _ q_337)) dX5_addAccount_7 ?_
  refine m_callSi (y := yX5_isIn) (rest := []) hC hs hH hl.1 (va_cwS 3 hC.2.2.2.2 (gA_S q_156 q_157 q_5 q_158) rfl rfl rfl (by decide +kernel) ⟨Nat.le_of_ble_eq_true rfl, Nat.le_of_ble_eq_true rfl⟩) (met_X5_isIn l hl0 g _ _ _ _ _ _ hw) rfl rfl (Nat.le_of_ble_eq_true rfl) dX5_addAccount_9 ⟨Nat.le_of_ble_eq_true rfl, Nat.le_of_ble_eq_true rfl⟩ (m_out (fun x hx => (hnx x hx).elim) hlk (Nat.le_of_ble_eq_true rfl) (Nat.le_of_ble_eq_true rfl)) (fun r4 S1 H locs hw hH => ?_)
  refine W.widen (k := 0) (n := 0) (Nat.le_of_ble_eq_true rfl) (Nat.le_of_ble_eq_true rfl) ?_
  refine lv_if_eq (tgt := 35) hC.1 hC.2.1 dX5_addAccount_12 (by decide) (fun hc => ?_) (fun hc => ?_)
  · have hw := hw.1 hc
    exact bw_X5_addAccount_35 hl0 hC hrt hlk hmn hnx hs _ _ hw _ _ hH _ (lv_sub hl [0] rfl)
  · have hw := hw.2 hc
    refine lv_iload_n hC.1 hC.2.1 dX5_addAccount_15 rfl (lv_at hl 2 rfl) ?_
    refine lv_iconst (v := 0) hC.1 hC.2.1 dX5_addAccount_16 (by decide) ?_
    refine lv_ldc hC.1 hC.2.1 hC.2.2.2.1 (hC.2.2.2.2 _ (List.mem_cons_of_mem _ q_338)) dX5_addAccount_17 ?_
    refine m_callSi (y := yX5_isIn) (rest := []) hC hs hH hl.1 (va_cwS 3 hC.2.2.2.2 (gA_S q_156 q_157 q_5 q_158) rfl rfl rfl (by decide +kernel) ⟨Nat.le_of_ble_eq_true rfl, Nat.le_of_ble_eq_true rfl⟩) (met_X5_isIn l hl0 g _ _ _ _ _ _ hw) rfl rfl (Nat.le_of_ble_eq_true rfl) dX5_addAccount_19 ⟨Nat.le_of_ble_eq_true rfl, Nat.le_of_ble_eq_true rfl⟩ (m_out (fun x hx => (hnx x hx).elim) hlk (Nat.le_of_ble_eq_true rfl) (Nat.le_of_ble_eq_true rfl)) (fun r6 S1 H locs hw hH => ?_)
    refine W.widen (k := 0) (n := 0) (Nat.le_of_ble_eq_true rfl) (Nat.le_of_ble_eq_true rfl) ?_
    refine lv_if_eq (tgt := 35) hC.1 hC.2.1 dX5_addAccount_22 (by decide) (fun hc => ?_) (fun hc => ?_)
    · have hw := hw.1 hc
      exact bw_X5_addAccount_35 hl0 hC hrt hlk hmn hnx hs _ _ hw _ _ hH _ (lv_sub hl [0] rfl)
    · have hw := hw.2 hc
      refine lv_iload_n hC.1 hC.2.1 dX5_addAccount_25 rfl (lv_at hl 3 rfl) ?_
      refine lv_iconst (v := 0) hC.1 hC.2.1 dX5_addAccount_26 (by decide) ?_
      refine lv_bipush (v := 100) hC.1 hC.2.1 dX5_addAccount_27 (by decide) ?_
      refine m_callSi (y := yX5_isIn) (rest := []) hC hs hH hl.1 (va_cwS 3 hC.2.2.2.2 (gA_S q_156 q_157 q_5 q_158) rfl rfl rfl (by decide +kernel) ⟨Nat.le_of_ble_eq_true rfl, Nat.le_of_ble_eq_true rfl⟩) (met_X5_isIn l hl0 g _ _ _ _ _ _ hw) rfl rfl (Nat.le_of_ble_eq_true rfl) dX5_addAccount_29 ⟨Nat.le_of_ble_eq_true rfl, Nat.le_of_ble_eq_true rfl⟩ (m_out (fun x hx => (hnx x hx).elim) hlk (Nat.le_of_ble_eq_true rfl) (Nat.le_of_ble_eq_true rfl)) (fun r8 S1 H locs hw hH => ?_)
      refine W.widen (k := 0) (n := 0) (Nat.le_of_ble_eq_true rfl) (Nat.le_of_ble_eq_true rfl) ?_
      refine lv_if_ne (tgt := 41) hC.1 hC.2.1 dX5_addAccount_32 (by decide) (fun hc => ?_) (fun hc => ?_)
      · have hw := hw.1 hc
        refine lv_aload_n hC.1 hC.2.1 dX5_addAccount_41 rfl (lv_at hl 0 rfl) ?_
        obtain ⟨k9, hw⟩ := hw
        refine m_getI hC hs hH cs5 fs5_3 (fun _ h => List.mem_cons_of_mem _ (inlX5 _ h)) (List.mem_cons_of_mem _ q_339) (fun _ h => h) k9 dX5_addAccount_42 ?_
        refine lv_iconst (v := 4) hC.1 hC.2.1 dX5_addAccount_45 (by decide) ?_
        refine lv_icmp_ne (tgt := 55) hC.1 hC.2.1 dX5_addAccount_46 (by decide) (fun hc => ?_) (fun hc => ?_)
        · have hw := hw.1 hc
          refine lv_aload_n hC.1 hC.2.1 dX5_addAccount_55 rfl (lv_at hl 0 rfl) ?_
          obtain ⟨b10, r11, hw⟩ := hw
          refine m_getR hC hs hH cs5 fs5_4 (fun _ h => List.mem_cons_of_mem _ (inlX5 _ h)) (List.mem_cons_of_mem _ q_44) (fun _ h => h) k9 r11 dX5_addAccount_56 ?_
          refine lv_iconst (v := 3) hC.1 hC.2.1 dX5_addAccount_59 (by decide) ?_
          refine lv_aload_n hC.1 hC.2.1 dX5_addAccount_60 rfl (lv_at hl 0 rfl) ?_
          refine m_getI hC hs hH cs5 fs5_3 (fun _ h => List.mem_cons_of_mem _ (inlX5 _ h)) (List.mem_cons_of_mem _ q_339) (fun _ h => h) k9 dX5_addAccount_61 ?_
          refine lv_imul hC.1 hC.2.1 dX5_addAccount_64 ?_
          refine lv_iload_n hC.1 hC.2.1 dX5_addAccount_65 rfl (lv_at hl 1 rfl) ?_
          obtain ⟨k12, hw⟩ := hw
          obtain ⟨i13, hw⟩ := hw
          have hw := hw _ rfl
          refine m_iast hC hs hH k12 i13 dX5_addAccount_66 (fun H locs hH => ?_)
          refine lv_aload_n hC.1 hC.2.1 dX5_addAccount_67 rfl (lv_at hl 0 rfl) ?_
          obtain ⟨b15, r16, hw⟩ := hw
          refine m_getR hC hs hH cs5 fs5_4 (fun _ h => List.mem_cons_of_mem _ (inlX5 _ h)) (List.mem_cons_of_mem _ q_44) (fun _ h => h) k9 r16 dX5_addAccount_68 ?_
          refine lv_iconst (v := 3) hC.1 hC.2.1 dX5_addAccount_71 (by decide) ?_
          refine lv_aload_n hC.1 hC.2.1 dX5_addAccount_72 rfl (lv_at hl 0 rfl) ?_
          refine m_getI hC hs hH cs5 fs5_3 (fun _ h => List.mem_cons_of_mem _ (inlX5 _ h)) (List.mem_cons_of_mem _ q_339) (fun _ h => h) k9 dX5_addAccount_73 ?_
          refine lv_imul hC.1 hC.2.1 dX5_addAccount_76 ?_
          refine lv_iconst (v := 1) hC.1 hC.2.1 dX5_addAccount_77 (by decide) ?_
          refine lv_iadd hC.1 hC.2.1 dX5_addAccount_78 ?_
          refine lv_iload_n hC.1 hC.2.1 dX5_addAccount_79 rfl (lv_at hl 2 rfl) ?_
          obtain ⟨k17, hw⟩ := hw
          obtain ⟨i18, hw⟩ := hw
          have hw := hw _ rfl
          refine m_iast hC hs hH k17 i18 dX5_addAccount_80 (fun H locs hH => ?_)
          refine lv_aload_n hC.1 hC.2.1 dX5_addAccount_81 rfl (lv_at hl 0 rfl) ?_
          obtain ⟨b20, r21, hw⟩ := hw
          refine m_getR hC hs hH cs5 fs5_4 (fun _ h => List.mem_cons_of_mem _ (inlX5 _ h)) (List.mem_cons_of_mem _ q_44) (fun _ h => h) k9 r21 dX5_addAccount_82 ?_
          refine lv_iconst (v := 3) hC.1 hC.2.1 dX5_addAccount_85 (by decide) ?_
          refine lv_aload_n hC.1 hC.2.1 dX5_addAccount_86 rfl (lv_at hl 0 rfl) ?_
          refine m_getI hC hs hH cs5 fs5_3 (fun _ h => List.mem_cons_of_mem _ (inlX5 _ h)) (List.mem_cons_of_mem _ q_339) (fun _ h => h) k9 dX5_addAccount_87 ?_
          refine lv_imul hC.1 hC.2.1 dX5_addAccount_90 ?_
          refine lv_iconst (v := 2) hC.1 hC.2.1 dX5_addAccount_91 (by decide) ?_
          refine lv_iadd hC.1 hC.2.1 dX5_addAccount_92 ?_
          refine lv_iload_n hC.1 hC.2.1 dX5_addAccount_93 rfl (lv_at hl 3 rfl) ?_
          obtain ⟨k22, hw⟩ := hw
          obtain ⟨i23, hw⟩ := hw
          have hw := hw _ rfl
          refine m_iast hC hs hH k22 i23 dX5_addAccount_94 (fun H locs hH => ?_)
          refine lv_aload_n hC.1 hC.2.1 dX5_addAccount_95 rfl (lv_at hl 0 rfl) ?_
          refine lv_dup hC.1 hC.2.1 dX5_addAccount_96 rfl ?_
          refine m_getI hC hs hH cs5 fs5_3 (fun _ h => List.mem_cons_of_mem _ (inlX5 _ h)) (List.mem_cons_of_mem _ q_339) (fun _ h => h) k9 dX5_addAccount_97 ?_
          refine lv_iconst (v := 1) hC.1 hC.2.1 dX5_addAccount_100 (by decide) ?_
          refine lv_iadd hC.1 hC.2.1 dX5_addAccount_101 ?_
          have hw := hw _ rfl
          refine m_putI hC hs hH cs5 fs5_3 (fun _ h => List.mem_cons_of_mem _ (inlX5 _ h)) (List.mem_cons_of_mem _ q_339) (fun _ h => h) (Or.inl rfl) rfl k9 dX5_addAccount_102 (fun H locs hH => ?_)
          refine lv_aload_n hC.1 hC.2.1 dX5_addAccount_105 rfl (lv_at hl 0 rfl) ?_
          refine m_getI hC hs hH cs5 fs5_3 (fun _ h => List.mem_cons_of_mem _ (inlX5 _ h)) (List.mem_cons_of_mem _ q_339) (fun _ h => h) k9 dX5_addAccount_106 ?_
          refine lv_iconst (v := 1) hC.1 hC.2.1 dX5_addAccount_109 (by decide) ?_
          refine lv_isub hC.1 hC.2.1 dX5_addAccount_110 ?_
          exact m_reti hC hH hrt rfl hlk (Nat.le_of_ble_eq_true rfl) (Nat.le_of_ble_eq_true rfl) dX5_addAccount_111 hw
        · have hw := hw.2 hc
          refine lv_aload_n hC.1 hC.2.1 dX5_addAccount_49 rfl (lv_at hl 0 rfl) ?_
          refine lv_iconst (v := 2) hC.1 hC.2.1 dX5_addAccount_50 (by decide) ?_
          refine m_callVi (y := yX5_fail) (rest := []) hC hs hH hl.1 (cwV 1 hC.2.2.2.2 (gA_V q_159 q_160 q_161 q_5 q_162) rfl rfl rfl (by decide +kernel) ⟨Nat.le_of_ble_eq_true rfl, Nat.le_of_ble_eq_true rfl⟩) cs5 k9 (met_X5_fail l hl0 g _ _ _ _ _ hw) rfl rfl (Nat.le_of_ble_eq_true rfl) dX5_addAccount_51 ⟨Nat.le_of_ble_eq_true rfl, Nat.le_of_ble_eq_true rfl⟩ (m_out (fun x hx => (hnx x hx).elim) hlk (Nat.le_of_ble_eq_true rfl) (Nat.le_of_ble_eq_true rfl)) (fun r27 S1 H locs hw hH => ?_)
          refine W.widen (k := 0) (n := 0) (Nat.le_of_ble_eq_true rfl) (Nat.le_of_ble_eq_true rfl) ?_
          exact m_reti hC hH hrt rfl hlk (Nat.le_of_ble_eq_true rfl) (Nat.le_of_ble_eq_true rfl) dX5_addAccount_54 hw
      · have hw := hw.2 hc
        exact bw_X5_addAccount_35 hl0 hC hrt hlk hmn hnx hs _ _ hw _ _ hH _ (lv_sub hl [0] rfl)
abbrev rm_X5_addLine : Room := { frames := 3, cells := 0, slots := 0, locals := 43 }
def bk_X5_addLine_21 (z : Nat × Nat) (Q : Int32 → mmS → Prop) (X : String → mmS → Prop) (S : mmS) (x0 : Nat) : Prop := (x0 ∈ mL S ∧ mK S x0 = 5) ∧ wp_X5_fail z S x0 (1 : Int32) (fun r3 S1 => Q r3 S1) X
def wp_X5_addLine (z : Nat × Nat) (S : mmS) (p0 : Nat) (p1 : Int32) (p2 : Int32) (Q : Int32 → mmS → Prop) (X : String → mmS → Prop) : Prop := (p0 ∈ mL S ∧ mK S p0 = 5) ∧ ∀ S2 : mmS, S2 = sI S 23 p0 (0 : Int32) → wp_X5_isAccount z S2 p0 p1 (fun r4 S3 => (r4 = 0 → bk_X5_addLine_21 z Q X S3 p0) ∧ (¬ r4 = 0 → (p0 ∈ mL S3 ∧ mK S3 p0 = 5) ∧ wp_X5_isTariff z S3 p0 p2 (fun r7 S5 => (¬ r7 = 0 → (p0 ∈ mL S5 ∧ mK S5 p0 = 5) ∧ (¬ (mI S5 26 p0) = (8 : Int32) → ∃ b9 : Nat, mR S5 15 p0 = some b9 ∧ (b9 ∈ mL S5 ∧ mK S5 b9 = 7) ∧ vp_in (mI S5 26 p0) (mN S5 b9) ∧ ∀ S13 : mmS, S13 = sA S5 b9 (mI S5 26 p0).toNatClampNeg p1 → ∃ b14 : Nat, mR S13 16 p0 = some b14 ∧ (b14 ∈ mL S13 ∧ mK S13 b14 = 7) ∧ vp_in (mI S13 26 p0) (mN S13 b14) ∧ ∀ S18 : mmS, S18 = sA S13 b14 (mI S13 26 p0).toNatClampNeg p2 → ∀ S19 : mmS, S19 = sI S18 26 p0 ((mI S18 26 p0) + (1 : Int32)) → Q ((mI S19 26 p0) - (1 : Int32)) S19) ∧ ((mI S5 26 p0) = (8 : Int32) → wp_X5_fail z S5 p0 (2 : Int32) (fun r21 S20 => Q r21 S20) X)) ∧ (r7 = 0 → bk_X5_addLine_21 z Q X S5 p0)) X)) X
set_option maxHeartbeats 4000000 in
set_option maxRecDepth 100000 in
theorem bw_X5_addLine_21 {p : Program} {l : Launch} {e : Env} {s : State} {m : MethodId} {args : Array Value} {below : List Frame} {meth : Method} {c : Code} {g : mG} {Q : Int32 → mmS → Prop} {X : String → mmS → Prop} (hl0 : l.stackTraces = false) (hC : CallFix p m c cX5_addLine 3 s args (wA_ yX5_addLine cX5_addLine 3 (some .int)) RX5) (hrt : meth.sig.returnType = (some .int)) (hlk : meth.locks = false) (hmn : meth.name = yX5_addLine.name) (hnx : ∀ x ∈ c.exceptionTable.toList, False) (hs : mX g s) : ∀ (S : mmS) (x0 : Nat), bk_X5_addLine_21 g.2.2.2.2.2 Q X S x0 → ∀ (H : Heap) (locs : List Loc), mH g S s H locs → ∀ ls : Array Slot, lv_has ls 3 [(0, .ref x0)] → W p l e rm_X5_addLine s m args below meth c H locs 0 0 (vx_MQ below (va_Qi Q (wO g) (mB g)) (vx_X (fun _ : mmS => True) (fun E S1 t => X E S1 ∧ wO g S1 t) (mB g)) args s rm_X5_addLine.cells rm_X5_addLine.slots (mB g)) (F0 m 21 ls []) := by
  intro S x0 hw H locs hH ls hl
  unfold bk_X5_addLine_21 at hw
  refine lv_aload_n hC.1 hC.2.1 dX5_addLine_21 rfl (lv_at hl 0 rfl) ?_
  refine lv_iconst (v := 1) hC.1 hC.2.1 dX5_addLine_22 (by decide) ?_
  obtain ⟨k2, hw⟩ := hw
  refine m_callVi (y := yX5_fail) (rest := []) hC hs hH hl.1 (cwV 1 hC.2.2.2.2 (gA_V q_159 q_160 q_161 q_5 q_162) rfl rfl rfl (by decide +kernel) ⟨Nat.le_of_ble_eq_true rfl, Nat.le_of_ble_eq_true rfl⟩) cs5 k2 (met_X5_fail l hl0 g _ _ _ _ _ hw) rfl rfl (Nat.le_of_ble_eq_true rfl) dX5_addLine_23 ⟨Nat.le_of_ble_eq_true rfl, Nat.le_of_ble_eq_true rfl⟩ (m_out (fun x hx => (hnx x hx).elim) hlk (Nat.le_of_ble_eq_true rfl) (Nat.le_of_ble_eq_true rfl)) (fun r3 S1 H locs hw hH => ?_)
  refine W.widen (k := 0) (n := 0) (Nat.le_of_ble_eq_true rfl) (Nat.le_of_ble_eq_true rfl) ?_
  exact m_reti hC hH hrt rfl hlk (Nat.le_of_ble_eq_true rfl) (Nat.le_of_ble_eq_true rfl) dX5_addLine_26 hw
set_option maxHeartbeats 4000000 in
set_option maxRecDepth 100000 in
theorem met_X5_addLine (l : Launch) (hl0 : l.stackTraces = false) (g : mG) (S : mmS) (p0 : Nat) (p1 : Int32) (p2 : Int32) (Q : Int32 → mmS → Prop) (X : String → mmS → Prop) (hw : wp_X5_addLine g.2.2.2.2.2 S p0 p1 p2 Q X) : mMi l g yX5_addLine (wA_ yX5_addLine cX5_addLine 3 (some .int)) rm_X5_addLine [.ref p0, .int p1, .int p2] S Q X := by
  refine m_of (y := yX5_addLine) (cc := cX5_addLine) (maxL := 3) (ret := (some .int)) (by decide) rfl (Nat.le_of_ble_eq_true rfl) ?_
  intro p e s m args below meth c ls hC hrt hlk hmn hnx hs hH hl
  have hC : CallFix p m c cX5_addLine 3 s args (wA_ yX5_addLine cX5_addLine 3 (some .int)) RX5 := hC
  have hl : lv_has ls 3 [(0, .ref p0), (1, .int p1), (2, .int p2)] := hl
  unfold wp_X5_addLine at hw
  refine lv_aload_n hC.1 hC.2.1 dX5_addLine_0 rfl (lv_at hl 0 rfl) ?_
  refine lv_iconst (v := 0) hC.1 hC.2.1 dX5_addLine_1 (by decide) ?_
  obtain ⟨k1, hw⟩ := hw
  have hw := hw _ rfl
  refine m_putI hC hs hH cs5 fs5_0 (fun _ h => List.mem_cons_of_mem _ (inlX5 _ h)) (List.mem_cons_of_mem _ q_153) (fun _ h => h) (Or.inl rfl) rfl k1 dX5_addLine_2 (fun H locs hH => ?_)
  refine lv_aload_n hC.1 hC.2.1 dX5_addLine_5 rfl (lv_at hl 0 rfl) ?_
  refine lv_iload_n hC.1 hC.2.1 dX5_addLine_6 rfl (lv_at hl 1 rfl) ?_
  refine m_callVi (y := yX5_isAccount) (rest := []) hC hs hH hl.1 (cwV 1 hC.2.2.2.2 (gA_V q_364 q_365 q_366 q_5 q_367) rfl rfl rfl (by decide +kernel) ⟨Nat.le_of_ble_eq_true rfl, Nat.le_of_ble_eq_true rfl⟩) cs5 k1 (met_X5_isAccount l hl0 g _ _ _ _ _ hw) rfl rfl (Nat.le_of_ble_eq_true rfl) dX5_addLine_7 ⟨Nat.le_of_ble_eq_true rfl, Nat.le_of_ble_eq_true rfl⟩ (m_out (fun x hx => (hnx x hx).elim) hlk (Nat.le_of_ble_eq_true rfl) (Nat.le_of_ble_eq_true rfl)) (fun r4 S1 H locs hw hH => ?_)
  refine W.widen (k := 0) (n := 0) (Nat.le_of_ble_eq_true rfl) (Nat.le_of_ble_eq_true rfl) ?_
  refine lv_if_eq (tgt := 21) hC.1 hC.2.1 dX5_addLine_10 (by decide) (fun hc => ?_) (fun hc => ?_)
  · have hw := hw.1 hc
    exact bw_X5_addLine_21 hl0 hC hrt hlk hmn hnx hs _ _ hw _ _ hH _ (lv_sub hl [0] rfl)
  · have hw := hw.2 hc
    refine lv_aload_n hC.1 hC.2.1 dX5_addLine_13 rfl (lv_at hl 0 rfl) ?_
    refine lv_iload_n hC.1 hC.2.1 dX5_addLine_14 rfl (lv_at hl 2 rfl) ?_
    obtain ⟨k6, hw⟩ := hw
    refine m_callVi (y := yX5_isTariff) (rest := []) hC hs hH hl.1 (cwV 1 hC.2.2.2.2 (gA_V q_295 q_296 q_297 q_5 q_298) rfl rfl rfl (by decide +kernel) ⟨Nat.le_of_ble_eq_true rfl, Nat.le_of_ble_eq_true rfl⟩) cs5 k6 (met_X5_isTariff l hl0 g _ _ _ _ _ hw) rfl rfl (Nat.le_of_ble_eq_true rfl) dX5_addLine_15 ⟨Nat.le_of_ble_eq_true rfl, Nat.le_of_ble_eq_true rfl⟩ (m_out (fun x hx => (hnx x hx).elim) hlk (Nat.le_of_ble_eq_true rfl) (Nat.le_of_ble_eq_true rfl)) (fun r7 S1 H locs hw hH => ?_)
    refine W.widen (k := 0) (n := 0) (Nat.le_of_ble_eq_true rfl) (Nat.le_of_ble_eq_true rfl) ?_
    refine lv_if_ne (tgt := 27) hC.1 hC.2.1 dX5_addLine_18 (by decide) (fun hc => ?_) (fun hc => ?_)
    · have hw := hw.1 hc
      refine lv_aload_n hC.1 hC.2.1 dX5_addLine_27 rfl (lv_at hl 0 rfl) ?_
      obtain ⟨k8, hw⟩ := hw
      refine m_getI hC hs hH cs5 fs5_5 (fun _ h => List.mem_cons_of_mem _ (inlX5 _ h)) (List.mem_cons_of_mem _ q_363) (fun _ h => h) k8 dX5_addLine_28 ?_
      refine lv_bipush (v := 8) hC.1 hC.2.1 dX5_addLine_31 (by decide) ?_
      refine lv_icmp_ne (tgt := 42) hC.1 hC.2.1 dX5_addLine_33 (by decide) (fun hc => ?_) (fun hc => ?_)
      · have hw := hw.1 hc
        refine lv_aload_n hC.1 hC.2.1 dX5_addLine_42 rfl (lv_at hl 0 rfl) ?_
        obtain ⟨b9, r10, hw⟩ := hw
        refine m_getR hC hs hH cs5 fs5_6 (fun _ h => List.mem_cons_of_mem _ (inlX5 _ h)) (List.mem_cons_of_mem _ q_45) (fun _ h => h) k8 r10 dX5_addLine_43 ?_
        refine lv_aload_n hC.1 hC.2.1 dX5_addLine_46 rfl (lv_at hl 0 rfl) ?_
        refine m_getI hC hs hH cs5 fs5_5 (fun _ h => List.mem_cons_of_mem _ (inlX5 _ h)) (List.mem_cons_of_mem _ q_363) (fun _ h => h) k8 dX5_addLine_47 ?_
        refine lv_iload_n hC.1 hC.2.1 dX5_addLine_50 rfl (lv_at hl 1 rfl) ?_
        obtain ⟨k11, hw⟩ := hw
        obtain ⟨i12, hw⟩ := hw
        have hw := hw _ rfl
        refine m_iast hC hs hH k11 i12 dX5_addLine_51 (fun H locs hH => ?_)
        refine lv_aload_n hC.1 hC.2.1 dX5_addLine_52 rfl (lv_at hl 0 rfl) ?_
        obtain ⟨b14, r15, hw⟩ := hw
        refine m_getR hC hs hH cs5 fs5_7 (fun _ h => List.mem_cons_of_mem _ (inlX5 _ h)) (List.mem_cons_of_mem _ q_46) (fun _ h => h) k8 r15 dX5_addLine_53 ?_
        refine lv_aload_n hC.1 hC.2.1 dX5_addLine_56 rfl (lv_at hl 0 rfl) ?_
        refine m_getI hC hs hH cs5 fs5_5 (fun _ h => List.mem_cons_of_mem _ (inlX5 _ h)) (List.mem_cons_of_mem _ q_363) (fun _ h => h) k8 dX5_addLine_57 ?_
        refine lv_iload_n hC.1 hC.2.1 dX5_addLine_60 rfl (lv_at hl 2 rfl) ?_
        obtain ⟨k16, hw⟩ := hw
        obtain ⟨i17, hw⟩ := hw
        have hw := hw _ rfl
        refine m_iast hC hs hH k16 i17 dX5_addLine_61 (fun H locs hH => ?_)
        refine lv_aload_n hC.1 hC.2.1 dX5_addLine_62 rfl (lv_at hl 0 rfl) ?_
        refine lv_dup hC.1 hC.2.1 dX5_addLine_63 rfl ?_
        refine m_getI hC hs hH cs5 fs5_5 (fun _ h => List.mem_cons_of_mem _ (inlX5 _ h)) (List.mem_cons_of_mem _ q_363) (fun _ h => h) k8 dX5_addLine_64 ?_
        refine lv_iconst (v := 1) hC.1 hC.2.1 dX5_addLine_67 (by decide) ?_
        refine lv_iadd hC.1 hC.2.1 dX5_addLine_68 ?_
        have hw := hw _ rfl
        refine m_putI hC hs hH cs5 fs5_5 (fun _ h => List.mem_cons_of_mem _ (inlX5 _ h)) (List.mem_cons_of_mem _ q_363) (fun _ h => h) (Or.inl rfl) rfl k8 dX5_addLine_69 (fun H locs hH => ?_)
        refine lv_aload_n hC.1 hC.2.1 dX5_addLine_72 rfl (lv_at hl 0 rfl) ?_
        refine m_getI hC hs hH cs5 fs5_5 (fun _ h => List.mem_cons_of_mem _ (inlX5 _ h)) (List.mem_cons_of_mem _ q_363) (fun _ h => h) k8 dX5_addLine_73 ?_
        refine lv_iconst (v := 1) hC.1 hC.2.1 dX5_addLine_76 (by decide) ?_
        refine lv_isub hC.1 hC.2.1 dX5_addLine_77 ?_
        exact m_reti hC hH hrt rfl hlk (Nat.le_of_ble_eq_true rfl) (Nat.le_of_ble_eq_true rfl) dX5_addLine_78 hw
      · have hw := hw.2 hc
        refine lv_aload_n hC.1 hC.2.1 dX5_addLine_36 rfl (lv_at hl 0 rfl) ?_
        refine lv_iconst (v := 2) hC.1 hC.2.1 dX5_addLine_37 (by decide) ?_
        refine m_callVi (y := yX5_fail) (rest := []) hC hs hH hl.1 (cwV 1 hC.2.2.2.2 (gA_V q_159 q_160 q_161 q_5 q_162) rfl rfl rfl (by decide +kernel) ⟨Nat.le_of_ble_eq_true rfl, Nat.le_of_ble_eq_true rfl⟩) cs5 k8 (met_X5_fail l hl0 g _ _ _ _ _ hw) rfl rfl (Nat.le_of_ble_eq_true rfl) dX5_addLine_38 ⟨Nat.le_of_ble_eq_true rfl, Nat.le_of_ble_eq_true rfl⟩ (m_out (fun x hx => (hnx x hx).elim) hlk (Nat.le_of_ble_eq_true rfl) (Nat.le_of_ble_eq_true rfl)) (fun r21 S1 H locs hw hH => ?_)
        refine W.widen (k := 0) (n := 0) (Nat.le_of_ble_eq_true rfl) (Nat.le_of_ble_eq_true rfl) ?_
        exact m_reti hC hH hrt rfl hlk (Nat.le_of_ble_eq_true rfl) (Nat.le_of_ble_eq_true rfl) dX5_addLine_41 hw
    · have hw := hw.2 hc
      exact bw_X5_addLine_21 hl0 hC hrt hlk hmn hnx hs _ _ hw _ _ hH _ (lv_sub hl [0] rfl)
abbrev rm_X5_setTariff : Room := { frames := 3, cells := 0, slots := 0, locals := 43 }
def bk_X5_setTariff_21 (z : Nat × Nat) (Q : Int32 → mmS → Prop) (X : String → mmS → Prop) (S : mmS) (x0 : Nat) : Prop := (x0 ∈ mL S ∧ mK S x0 = 5) ∧ wp_X5_fail z S x0 (1 : Int32) (fun r3 S1 => Q r3 S1) X
def wp_X5_setTariff (z : Nat × Nat) (S : mmS) (p0 : Nat) (p1 : Int32) (p2 : Int32) (Q : Int32 → mmS → Prop) (X : String → mmS → Prop) : Prop := (p0 ∈ mL S ∧ mK S p0 = 5) ∧ ∀ S2 : mmS, S2 = sI S 23 p0 (0 : Int32) → wp_X5_isLine z S2 p0 p1 (fun r4 S3 => (r4 = 0 → bk_X5_setTariff_21 z Q X S3 p0) ∧ (¬ r4 = 0 → (p0 ∈ mL S3 ∧ mK S3 p0 = 5) ∧ wp_X5_isTariff z S3 p0 p2 (fun r7 S5 => (¬ r7 = 0 → (p0 ∈ mL S5 ∧ mK S5 p0 = 5) ∧ ∃ b9 : Nat, mR S5 16 p0 = some b9 ∧ (b9 ∈ mL S5 ∧ mK S5 b9 = 7) ∧ vp_in p1 (mN S5 b9) ∧ ∀ v13 : Int32, v13 = (mA S5 b9 (p1).toNatClampNeg) → ∃ b14 : Nat, mR S5 16 p0 = some b14 ∧ (b14 ∈ mL S5 ∧ mK S5 b14 = 7) ∧ vp_in p1 (mN S5 b14) ∧ ∀ S18 : mmS, S18 = sA S5 b14 (p1).toNatClampNeg p2 → Q v13 S18) ∧ (r7 = 0 → bk_X5_setTariff_21 z Q X S5 p0)) X)) X
set_option maxHeartbeats 4000000 in
set_option maxRecDepth 100000 in
theorem bw_X5_setTariff_21 {p : Program} {l : Launch} {e : Env} {s : State} {m : MethodId} {args : Array Value} {below : List Frame} {meth : Method} {c : Code} {g : mG} {Q : Int32 → mmS → Prop} {X : String → mmS → Prop} (hl0 : l.stackTraces = false) (hC : CallFix p m c cX5_setTariff 4 s args (wA_ yX5_setTariff cX5_setTariff 4 (some .int)) RX5) (hrt : meth.sig.returnType = (some .int)) (hlk : meth.locks = false) (hmn : meth.name = yX5_setTariff.name) (hnx : ∀ x ∈ c.exceptionTable.toList, False) (hs : mX g s) : ∀ (S : mmS) (x0 : Nat), bk_X5_setTariff_21 g.2.2.2.2.2 Q X S x0 → ∀ (H : Heap) (locs : List Loc), mH g S s H locs → ∀ ls : Array Slot, lv_has ls 4 [(0, .ref x0)] → W p l e rm_X5_setTariff s m args below meth c H locs 0 0 (vx_MQ below (va_Qi Q (wO g) (mB g)) (vx_X (fun _ : mmS => True) (fun E S1 t => X E S1 ∧ wO g S1 t) (mB g)) args s rm_X5_setTariff.cells rm_X5_setTariff.slots (mB g)) (F0 m 21 ls []) := by
  intro S x0 hw H locs hH ls hl
  unfold bk_X5_setTariff_21 at hw
  refine lv_aload_n hC.1 hC.2.1 dX5_setTariff_21 rfl (lv_at hl 0 rfl) ?_
  refine lv_iconst (v := 1) hC.1 hC.2.1 dX5_setTariff_22 (by decide) ?_
  obtain ⟨k2, hw⟩ := hw
  refine m_callVi (y := yX5_fail) (rest := []) hC hs hH hl.1 (cwV 1 hC.2.2.2.2 (gA_V q_159 q_160 q_161 q_5 q_162) rfl rfl rfl (by decide +kernel) ⟨Nat.le_of_ble_eq_true rfl, Nat.le_of_ble_eq_true rfl⟩) cs5 k2 (met_X5_fail l hl0 g _ _ _ _ _ hw) rfl rfl (Nat.le_of_ble_eq_true rfl) dX5_setTariff_23 ⟨Nat.le_of_ble_eq_true rfl, Nat.le_of_ble_eq_true rfl⟩ (m_out (fun x hx => (hnx x hx).elim) hlk (Nat.le_of_ble_eq_true rfl) (Nat.le_of_ble_eq_true rfl)) (fun r3 S1 H locs hw hH => ?_)
  refine W.widen (k := 0) (n := 0) (Nat.le_of_ble_eq_true rfl) (Nat.le_of_ble_eq_true rfl) ?_
  exact m_reti hC hH hrt rfl hlk (Nat.le_of_ble_eq_true rfl) (Nat.le_of_ble_eq_true rfl) dX5_setTariff_26 hw
set_option maxHeartbeats 4000000 in
set_option maxRecDepth 100000 in
theorem met_X5_setTariff (l : Launch) (hl0 : l.stackTraces = false) (g : mG) (S : mmS) (p0 : Nat) (p1 : Int32) (p2 : Int32) (Q : Int32 → mmS → Prop) (X : String → mmS → Prop) (hw : wp_X5_setTariff g.2.2.2.2.2 S p0 p1 p2 Q X) : mMi l g yX5_setTariff (wA_ yX5_setTariff cX5_setTariff 4 (some .int)) rm_X5_setTariff [.ref p0, .int p1, .int p2] S Q X := by
  refine m_of (y := yX5_setTariff) (cc := cX5_setTariff) (maxL := 4) (ret := (some .int)) (by decide) rfl (Nat.le_of_ble_eq_true rfl) ?_
  intro p e s m args below meth c ls hC hrt hlk hmn hnx hs hH hl
  have hC : CallFix p m c cX5_setTariff 4 s args (wA_ yX5_setTariff cX5_setTariff 4 (some .int)) RX5 := hC
  have hl : lv_has ls 4 [(0, .ref p0), (1, .int p1), (2, .int p2)] := hl
  unfold wp_X5_setTariff at hw
  refine lv_aload_n hC.1 hC.2.1 dX5_setTariff_0 rfl (lv_at hl 0 rfl) ?_
  refine lv_iconst (v := 0) hC.1 hC.2.1 dX5_setTariff_1 (by decide) ?_
  obtain ⟨k1, hw⟩ := hw
  have hw := hw _ rfl
  refine m_putI hC hs hH cs5 fs5_0 (fun _ h => List.mem_cons_of_mem _ (inlX5 _ h)) (List.mem_cons_of_mem _ q_153) (fun _ h => h) (Or.inl rfl) rfl k1 dX5_setTariff_2 (fun H locs hH => ?_)
  refine lv_aload_n hC.1 hC.2.1 dX5_setTariff_5 rfl (lv_at hl 0 rfl) ?_
  refine lv_iload_n hC.1 hC.2.1 dX5_setTariff_6 rfl (lv_at hl 1 rfl) ?_
  refine m_callVi (y := yX5_isLine) (rest := []) hC hs hH hl.1 (cwV 1 hC.2.2.2.2 (gA_V q_388 q_389 q_390 q_5 q_391) rfl rfl rfl (by decide +kernel) ⟨Nat.le_of_ble_eq_true rfl, Nat.le_of_ble_eq_true rfl⟩) cs5 k1 (met_X5_isLine l hl0 g _ _ _ _ _ hw) rfl rfl (Nat.le_of_ble_eq_true rfl) dX5_setTariff_7 ⟨Nat.le_of_ble_eq_true rfl, Nat.le_of_ble_eq_true rfl⟩ (m_out (fun x hx => (hnx x hx).elim) hlk (Nat.le_of_ble_eq_true rfl) (Nat.le_of_ble_eq_true rfl)) (fun r4 S1 H locs hw hH => ?_)
  refine W.widen (k := 0) (n := 0) (Nat.le_of_ble_eq_true rfl) (Nat.le_of_ble_eq_true rfl) ?_
  refine lv_if_eq (tgt := 21) hC.1 hC.2.1 dX5_setTariff_10 (by decide) (fun hc => ?_) (fun hc => ?_)
  · have hw := hw.1 hc
    exact bw_X5_setTariff_21 hl0 hC hrt hlk hmn hnx hs _ _ hw _ _ hH _ (lv_sub hl [0] rfl)
  · have hw := hw.2 hc
    refine lv_aload_n hC.1 hC.2.1 dX5_setTariff_13 rfl (lv_at hl 0 rfl) ?_
    refine lv_iload_n hC.1 hC.2.1 dX5_setTariff_14 rfl (lv_at hl 2 rfl) ?_
    obtain ⟨k6, hw⟩ := hw
    refine m_callVi (y := yX5_isTariff) (rest := []) hC hs hH hl.1 (cwV 1 hC.2.2.2.2 (gA_V q_295 q_296 q_297 q_5 q_298) rfl rfl rfl (by decide +kernel) ⟨Nat.le_of_ble_eq_true rfl, Nat.le_of_ble_eq_true rfl⟩) cs5 k6 (met_X5_isTariff l hl0 g _ _ _ _ _ hw) rfl rfl (Nat.le_of_ble_eq_true rfl) dX5_setTariff_15 ⟨Nat.le_of_ble_eq_true rfl, Nat.le_of_ble_eq_true rfl⟩ (m_out (fun x hx => (hnx x hx).elim) hlk (Nat.le_of_ble_eq_true rfl) (Nat.le_of_ble_eq_true rfl)) (fun r7 S1 H locs hw hH => ?_)
    refine W.widen (k := 0) (n := 0) (Nat.le_of_ble_eq_true rfl) (Nat.le_of_ble_eq_true rfl) ?_
    refine lv_if_ne (tgt := 27) hC.1 hC.2.1 dX5_setTariff_18 (by decide) (fun hc => ?_) (fun hc => ?_)
    · have hw := hw.1 hc
      refine lv_aload_n hC.1 hC.2.1 dX5_setTariff_27 rfl (lv_at hl 0 rfl) ?_
      obtain ⟨k8, hw⟩ := hw
      obtain ⟨b9, r10, hw⟩ := hw
      refine m_getR hC hs hH cs5 fs5_7 (fun _ h => List.mem_cons_of_mem _ (inlX5 _ h)) (List.mem_cons_of_mem _ q_46) (fun _ h => h) k8 r10 dX5_setTariff_28 ?_
      refine lv_iload_n hC.1 hC.2.1 dX5_setTariff_31 rfl (lv_at hl 1 rfl) ?_
      obtain ⟨k11, hw⟩ := hw
      obtain ⟨i12, hw⟩ := hw
      refine m_iald hC hs hH k11 i12 dX5_setTariff_32 ?_
      have hw := hw _ rfl
      refine lv_istore_n (lv' := [(3, .int _), (0, .ref _), (1, .int _), (2, .int _)]) hC.1 hC.2.1 dX5_setTariff_33 rfl hl (by decide) rfl (fun ls hl => ?_)
      refine lv_aload_n hC.1 hC.2.1 dX5_setTariff_34 rfl (lv_at hl 1 rfl) ?_
      obtain ⟨b14, r15, hw⟩ := hw
      refine m_getR hC hs hH cs5 fs5_7 (fun _ h => List.mem_cons_of_mem _ (inlX5 _ h)) (List.mem_cons_of_mem _ q_46) (fun _ h => h) k8 r15 dX5_setTariff_35 ?_
      refine lv_iload_n hC.1 hC.2.1 dX5_setTariff_38 rfl (lv_at hl 2 rfl) ?_
      refine lv_iload_n hC.1 hC.2.1 dX5_setTariff_39 rfl (lv_at hl 3 rfl) ?_
      obtain ⟨k16, hw⟩ := hw
      obtain ⟨i17, hw⟩ := hw
      have hw := hw _ rfl
      refine m_iast hC hs hH k16 i17 dX5_setTariff_40 (fun H locs hH => ?_)
      refine lv_iload_n hC.1 hC.2.1 dX5_setTariff_41 rfl (lv_at hl 0 rfl) ?_
      exact m_reti hC hH hrt rfl hlk (Nat.le_of_ble_eq_true rfl) (Nat.le_of_ble_eq_true rfl) dX5_setTariff_42 hw
    · have hw := hw.2 hc
      exact bw_X5_setTariff_21 hl0 hC hrt hlk hmn hnx hs _ _ hw _ _ hH _ (lv_sub hl [0] rfl)
abbrev rm_X5_setBundle : Room := { frames := 3, cells := 0, slots := 0, locals := 43 }
def wp_X5_setBundle (z : Nat × Nat) (S : mmS) (p0 : Nat) (p1 : Int32) (p2 : Int32) (Q : Int32 → mmS → Prop) (X : String → mmS → Prop) : Prop := (p0 ∈ mL S ∧ mK S p0 = 5) ∧ ∀ S2 : mmS, S2 = sI S 23 p0 (0 : Int32) → wp_X5_isAccount z S2 p0 p1 (fun r4 S3 => (¬ r4 = 0 → wp_X5_isIn z S3 p2 (0 : Int32) (100000 : Int32) (fun r6 S5 => (¬ r6 = 0 → (p0 ∈ mL S5 ∧ mK S5 p0 = 5) ∧ ∃ b8 : Nat, mR S5 14 p0 = some b8 ∧ (b8 ∈ mL S5 ∧ mK S5 b8 = 7) ∧ vp_in ((3 : Int32) * p1) (mN S5 b8) ∧ ∀ v12 : Int32, v12 = (mA S5 b8 ((3 : Int32) * p1).toNatClampNeg) → ∃ b13 : Nat, mR S5 14 p0 = some b13 ∧ (b13 ∈ mL S5 ∧ mK S5 b13 = 7) ∧ vp_in ((3 : Int32) * p1) (mN S5 b13) ∧ ∀ S17 : mmS, S17 = sA S5 b13 ((3 : Int32) * p1).toNatClampNeg p2 → Q v12 S17) ∧ (r6 = 0 → (p0 ∈ mL S5 ∧ mK S5 p0 = 5) ∧ wp_X5_fail z S5 p0 (2 : Int32) (fun r20 S18 => Q r20 S18) X)) X) ∧ (r4 = 0 → (p0 ∈ mL S3 ∧ mK S3 p0 = 5) ∧ wp_X5_fail z S3 p0 (1 : Int32) (fun r23 S21 => Q r23 S21) X)) X
set_option maxHeartbeats 4000000 in
set_option maxRecDepth 100000 in
theorem met_X5_setBundle (l : Launch) (hl0 : l.stackTraces = false) (g : mG) (S : mmS) (p0 : Nat) (p1 : Int32) (p2 : Int32) (Q : Int32 → mmS → Prop) (X : String → mmS → Prop) (hw : wp_X5_setBundle g.2.2.2.2.2 S p0 p1 p2 Q X) : mMi l g yX5_setBundle (wA_ yX5_setBundle cX5_setBundle 4 (some .int)) rm_X5_setBundle [.ref p0, .int p1, .int p2] S Q X := by
  refine m_of (y := yX5_setBundle) (cc := cX5_setBundle) (maxL := 4) (ret := (some .int)) (by decide) rfl (Nat.le_of_ble_eq_true rfl) ?_
  intro p e s m args below meth c ls hC hrt hlk hmn hnx hs hH hl
  have hC : CallFix p m c cX5_setBundle 4 s args (wA_ yX5_setBundle cX5_setBundle 4 (some .int)) RX5 := hC
  have hl : lv_has ls 4 [(0, .ref p0), (1, .int p1), (2, .int p2)] := hl
  unfold wp_X5_setBundle at hw
  refine lv_aload_n hC.1 hC.2.1 dX5_setBundle_0 rfl (lv_at hl 0 rfl) ?_
  refine lv_iconst (v := 0) hC.1 hC.2.1 dX5_setBundle_1 (by decide) ?_
  obtain ⟨k1, hw⟩ := hw
  have hw := hw _ rfl
  refine m_putI hC hs hH cs5 fs5_0 (fun _ h => List.mem_cons_of_mem _ (inlX5 _ h)) (List.mem_cons_of_mem _ q_153) (fun _ h => h) (Or.inl rfl) rfl k1 dX5_setBundle_2 (fun H locs hH => ?_)
  refine lv_aload_n hC.1 hC.2.1 dX5_setBundle_5 rfl (lv_at hl 0 rfl) ?_
  refine lv_iload_n hC.1 hC.2.1 dX5_setBundle_6 rfl (lv_at hl 1 rfl) ?_
  refine m_callVi (y := yX5_isAccount) (rest := []) hC hs hH hl.1 (cwV 1 hC.2.2.2.2 (gA_V q_364 q_365 q_366 q_5 q_367) rfl rfl rfl (by decide +kernel) ⟨Nat.le_of_ble_eq_true rfl, Nat.le_of_ble_eq_true rfl⟩) cs5 k1 (met_X5_isAccount l hl0 g _ _ _ _ _ hw) rfl rfl (Nat.le_of_ble_eq_true rfl) dX5_setBundle_7 ⟨Nat.le_of_ble_eq_true rfl, Nat.le_of_ble_eq_true rfl⟩ (m_out (fun x hx => (hnx x hx).elim) hlk (Nat.le_of_ble_eq_true rfl) (Nat.le_of_ble_eq_true rfl)) (fun r4 S1 H locs hw hH => ?_)
  refine W.widen (k := 0) (n := 0) (Nat.le_of_ble_eq_true rfl) (Nat.le_of_ble_eq_true rfl) ?_
  refine lv_if_ne (tgt := 19) hC.1 hC.2.1 dX5_setBundle_10 (by decide) (fun hc => ?_) (fun hc => ?_)
  · have hw := hw.1 hc
    refine lv_iload_n hC.1 hC.2.1 dX5_setBundle_19 rfl (lv_at hl 2 rfl) ?_
    refine lv_iconst (v := 0) hC.1 hC.2.1 dX5_setBundle_20 (by decide) ?_
    refine lv_ldc hC.1 hC.2.1 hC.2.2.2.1 (hC.2.2.2.2 _ (List.mem_cons_of_mem _ q_337)) dX5_setBundle_21 ?_
    refine m_callSi (y := yX5_isIn) (rest := []) hC hs hH hl.1 (va_cwS 3 hC.2.2.2.2 (gA_S q_156 q_157 q_5 q_158) rfl rfl rfl (by decide +kernel) ⟨Nat.le_of_ble_eq_true rfl, Nat.le_of_ble_eq_true rfl⟩) (met_X5_isIn l hl0 g _ _ _ _ _ _ hw) rfl rfl (Nat.le_of_ble_eq_true rfl) dX5_setBundle_23 ⟨Nat.le_of_ble_eq_true rfl, Nat.le_of_ble_eq_true rfl⟩ (m_out (fun x hx => (hnx x hx).elim) hlk (Nat.le_of_ble_eq_true rfl) (Nat.le_of_ble_eq_true rfl)) (fun r6 S1 H locs hw hH => ?_)
    refine W.widen (k := 0) (n := 0) (Nat.le_of_ble_eq_true rfl) (Nat.le_of_ble_eq_true rfl) ?_
    refine lv_if_ne (tgt := 35) hC.1 hC.2.1 dX5_setBundle_26 (by decide) (fun hc => ?_) (fun hc => ?_)
    · have hw := hw.1 hc
      refine lv_aload_n hC.1 hC.2.1 dX5_setBundle_35 rfl (lv_at hl 0 rfl) ?_
      obtain ⟨k7, hw⟩ := hw
      obtain ⟨b8, r9, hw⟩ := hw
      refine m_getR hC hs hH cs5 fs5_4 (fun _ h => List.mem_cons_of_mem _ (inlX5 _ h)) (List.mem_cons_of_mem _ q_44) (fun _ h => h) k7 r9 dX5_setBundle_36 ?_
      refine lv_iconst (v := 3) hC.1 hC.2.1 dX5_setBundle_39 (by decide) ?_
      refine lv_iload_n hC.1 hC.2.1 dX5_setBundle_40 rfl (lv_at hl 1 rfl) ?_
      refine lv_imul hC.1 hC.2.1 dX5_setBundle_41 ?_
      obtain ⟨k10, hw⟩ := hw
      obtain ⟨i11, hw⟩ := hw
      refine m_iald hC hs hH k10 i11 dX5_setBundle_42 ?_
      have hw := hw _ rfl
      refine lv_istore_n (lv' := [(3, .int _), (0, .ref _), (1, .int _), (2, .int _)]) hC.1 hC.2.1 dX5_setBundle_43 rfl hl (by decide) rfl (fun ls hl => ?_)
      refine lv_aload_n hC.1 hC.2.1 dX5_setBundle_44 rfl (lv_at hl 1 rfl) ?_
      obtain ⟨b13, r14, hw⟩ := hw
      refine m_getR hC hs hH cs5 fs5_4 (fun _ h => List.mem_cons_of_mem _ (inlX5 _ h)) (List.mem_cons_of_mem _ q_44) (fun _ h => h) k7 r14 dX5_setBundle_45 ?_
      refine lv_iconst (v := 3) hC.1 hC.2.1 dX5_setBundle_48 (by decide) ?_
      refine lv_iload_n hC.1 hC.2.1 dX5_setBundle_49 rfl (lv_at hl 2 rfl) ?_
      refine lv_imul hC.1 hC.2.1 dX5_setBundle_50 ?_
      refine lv_iload_n hC.1 hC.2.1 dX5_setBundle_51 rfl (lv_at hl 3 rfl) ?_
      obtain ⟨k15, hw⟩ := hw
      obtain ⟨i16, hw⟩ := hw
      have hw := hw _ rfl
      refine m_iast hC hs hH k15 i16 dX5_setBundle_52 (fun H locs hH => ?_)
      refine lv_iload_n hC.1 hC.2.1 dX5_setBundle_53 rfl (lv_at hl 0 rfl) ?_
      exact m_reti hC hH hrt rfl hlk (Nat.le_of_ble_eq_true rfl) (Nat.le_of_ble_eq_true rfl) dX5_setBundle_54 hw
    · have hw := hw.2 hc
      refine lv_aload_n hC.1 hC.2.1 dX5_setBundle_29 rfl (lv_at hl 0 rfl) ?_
      refine lv_iconst (v := 2) hC.1 hC.2.1 dX5_setBundle_30 (by decide) ?_
      obtain ⟨k19, hw⟩ := hw
      refine m_callVi (y := yX5_fail) (rest := []) hC hs hH hl.1 (cwV 1 hC.2.2.2.2 (gA_V q_159 q_160 q_161 q_5 q_162) rfl rfl rfl (by decide +kernel) ⟨Nat.le_of_ble_eq_true rfl, Nat.le_of_ble_eq_true rfl⟩) cs5 k19 (met_X5_fail l hl0 g _ _ _ _ _ hw) rfl rfl (Nat.le_of_ble_eq_true rfl) dX5_setBundle_31 ⟨Nat.le_of_ble_eq_true rfl, Nat.le_of_ble_eq_true rfl⟩ (m_out (fun x hx => (hnx x hx).elim) hlk (Nat.le_of_ble_eq_true rfl) (Nat.le_of_ble_eq_true rfl)) (fun r20 S1 H locs hw hH => ?_)
      refine W.widen (k := 0) (n := 0) (Nat.le_of_ble_eq_true rfl) (Nat.le_of_ble_eq_true rfl) ?_
      exact m_reti hC hH hrt rfl hlk (Nat.le_of_ble_eq_true rfl) (Nat.le_of_ble_eq_true rfl) dX5_setBundle_34 hw
  · have hw := hw.2 hc
    refine lv_aload_n hC.1 hC.2.1 dX5_setBundle_13 rfl (lv_at hl 0 rfl) ?_
    refine lv_iconst (v := 1) hC.1 hC.2.1 dX5_setBundle_14 (by decide) ?_
    obtain ⟨k22, hw⟩ := hw
    refine m_callVi (y := yX5_fail) (rest := []) hC hs hH hl.1 (cwV 1 hC.2.2.2.2 (gA_V q_159 q_160 q_161 q_5 q_162) rfl rfl rfl (by decide +kernel) ⟨Nat.le_of_ble_eq_true rfl, Nat.le_of_ble_eq_true rfl⟩) cs5 k22 (met_X5_fail l hl0 g _ _ _ _ _ hw) rfl rfl (Nat.le_of_ble_eq_true rfl) dX5_setBundle_15 ⟨Nat.le_of_ble_eq_true rfl, Nat.le_of_ble_eq_true rfl⟩ (m_out (fun x hx => (hnx x hx).elim) hlk (Nat.le_of_ble_eq_true rfl) (Nat.le_of_ble_eq_true rfl)) (fun r23 S1 H locs hw hH => ?_)
    refine W.widen (k := 0) (n := 0) (Nat.le_of_ble_eq_true rfl) (Nat.le_of_ble_eq_true rfl) ?_
    exact m_reti hC hH hrt rfl hlk (Nat.le_of_ble_eq_true rfl) (Nat.le_of_ble_eq_true rfl) dX5_setBundle_18 hw
abbrev rm_X5_addCall : Room := { frames := 3, cells := 1, slots := 4, locals := 43 }
def bk_X5_addCall_165 (z : Nat × Nat) (Q : Int32 → mmS → Prop) (X : String → mmS → Prop) (S : mmS) (x0 : Nat) (x6 : Int32) : Prop := (x0 ∈ mL S ∧ mK S x0 = 5) ∧ ∃ b2 : Nat, mR S 18 x0 = some b2 ∧ (b2 ∈ mL S ∧ mK S b2 = 7) ∧ vp_in x6 (mN S b2) ∧ ∀ S6 : mmS, S6 = sA S b2 (x6).toNatClampNeg (mI S 27 x0) → ∀ S7 : mmS, S7 = sI S6 27 x0 ((mI S6 27 x0) + (1 : Int32)) → Q ((mI S7 27 x0) - (1 : Int32)) S7
def bk_X5_addCall_116 (z : Nat × Nat) (Q : Int32 → mmS → Prop) (X : String → mmS → Prop) (K116 : mmS → Nat → Int32 → Int32 → Prop) (S : mmS) (x0 : Nat) (x2 : Int32) (x6 : Int32) : Prop := (x6 ≤ 0 → bk_X5_addCall_165 z Q X S x0 x6) ∧ (¬ x6 ≤ 0 → (x0 ∈ mL S ∧ mK S x0 = 5) ∧ ∃ b2 : Nat, mR S 17 x0 = some b2 ∧ ∃ b4 : Nat, mR S 18 x0 = some b4 ∧ (b4 ∈ mL S ∧ mK S b4 = 7) ∧ vp_in (x6 - (1 : Int32)) (mN S b4) ∧ (b2 ∈ mL S ∧ mK S b2 = 7) ∧ vp_in (((4 : Int32) * (mA S b4 (x6 - (1 : Int32)).toNatClampNeg)) + (1 : Int32)) (mN S b2) ∧ ((mA S b2 (((4 : Int32) * (mA S b4 (x6 - (1 : Int32)).toNatClampNeg)) + (1 : Int32)).toNatClampNeg) ≤ x2 → bk_X5_addCall_165 z Q X S x0 x6) ∧ (¬ (mA S b2 (((4 : Int32) * (mA S b4 (x6 - (1 : Int32)).toNatClampNeg)) + (1 : Int32)).toNatClampNeg) ≤ x2 → ∃ b10 : Nat, mR S 18 x0 = some b10 ∧ ∃ b12 : Nat, mR S 18 x0 = some b12 ∧ (b12 ∈ mL S ∧ mK S b12 = 7) ∧ vp_in (x6 - (1 : Int32)) (mN S b12) ∧ (b10 ∈ mL S ∧ mK S b10 = 7) ∧ vp_in x6 (mN S b10) ∧ ∀ S18 : mmS, S18 = sA S b10 (x6).toNatClampNeg (mA S b12 (x6 - (1 : Int32)).toNatClampNeg) → ∀ v19 : Int32, v19 = x6 + (-1) → K116 S18 x0 x2 v19))
def lp_X5_addCall_116 (z : Nat × Nat) (Q : Int32 → mmS → Prop) (X : String → mmS → Prop) : Nat → mmS → Nat → Int32 → Int32 → Prop
  | 0 => fun _ _ _ _ => False
  | n + 1 => bk_X5_addCall_116 z Q X (lp_X5_addCall_116 z Q X n)
def bk_X5_addCall_50 (z : Nat × Nat) (Q : Int32 → mmS → Prop) (X : String → mmS → Prop) (S : mmS) (x0 : Nat) : Prop := (x0 ∈ mL S ∧ mK S x0 = 5) ∧ wp_X5_fail z S x0 (2 : Int32) (fun r3 S1 => Q r3 S1) X
def wp_X5_addCall (z : Nat × Nat) (S : mmS) (p0 : Nat) (p1 : Int32) (p2 : Int32) (p3 : Int32) (p4 : Int32) (Q : Int32 → mmS → Prop) (X : String → mmS → Prop) : Prop := (p0 ∈ mL S ∧ mK S p0 = 5) ∧ ∀ S2 : mmS, S2 = sI S 23 p0 (0 : Int32) → wp_X5_isLine z S2 p0 p1 (fun r4 S3 => (¬ r4 = 0 → wp_X5_isIn z S3 p2 (0 : Int32) (43199 : Int32) (fun r6 S5 => (r6 = 0 → bk_X5_addCall_50 z Q X S5 p0) ∧ (¬ r6 = 0 → wp_X5_isIn z S5 p3 (1 : Int32) (7200 : Int32) (fun r8 S7 => (r8 = 0 → bk_X5_addCall_50 z Q X S7 p0) ∧ (¬ r8 = 0 → wp_X5_isIn z S7 p4 (0 : Int32) (2 : Int32) (fun r10 S9 => (¬ r10 = 0 → (p0 ∈ mL S9 ∧ mK S9 p0 = 5) ∧ (¬ (mI S9 27 p0) = (60 : Int32) → ∀ q12 : Nat, q12 ∉ mL S9 → ∀ S14 : mmS, S14 = sNa S9 q12 4 → vp_in (0 : Int32) (mN S14 q12) ∧ ∀ S16 : mmS, S16 = sA S14 q12 ((0 : Int32)).toNatClampNeg p1 → vp_in (1 : Int32) (mN S16 q12) ∧ ∀ S18 : mmS, S18 = sA S16 q12 ((1 : Int32)).toNatClampNeg p2 → vp_in (2 : Int32) (mN S18 q12) ∧ ∀ S20 : mmS, S20 = sA S18 q12 ((2 : Int32)).toNatClampNeg p3 → vp_in (3 : Int32) (mN S20 q12) ∧ ∀ S22 : mmS, S22 = sA S20 q12 ((3 : Int32)).toNatClampNeg p4 → ∃ b23 : Nat, mR S22 17 p0 = some b23 ∧ (b23 ∈ mL S22 ∧ mK S22 b23 = 7) ∧ (¬ (0 : Int32) < 0 ∧ ¬ ((4 : Int32) * (mI S22 27 p0)) < 0 ∧ ¬ (4 : Int32) < 0 ∧ ((0 : Int32)).toNatClampNeg + ((4 : Int32)).toNatClampNeg ≤ mN S22 q12 ∧ ((4 : Int32) * (mI S22 27 p0)).toNatClampNeg + ((4 : Int32)).toNatClampNeg ≤ mN S22 b23) ∧ ∀ S27 : mmS, S27 = sAr S22 b23 (va_cpy (mA S22 q12) (mA S22 b23) ((0 : Int32)).toNatClampNeg ((4 : Int32) * (mI S22 27 p0)).toNatClampNeg ((4 : Int32)).toNatClampNeg) → ∀ v28 : Int32, v28 = (mI S27 27 p0) → ∃ n : Nat, lp_X5_addCall_116 z Q X n S27 p0 p2 v28) ∧ ((mI S9 27 p0) = (60 : Int32) → wp_X5_fail z S9 p0 (3 : Int32) (fun r30 S29 => Q r30 S29) X)) ∧ (r10 = 0 → bk_X5_addCall_50 z Q X S9 p0)) X)) X)) X) ∧ (r4 = 0 → (p0 ∈ mL S3 ∧ mK S3 p0 = 5) ∧ wp_X5_fail z S3 p0 (1 : Int32) (fun r33 S31 => Q r33 S31) X)) X
set_option maxHeartbeats 4000000 in
set_option maxRecDepth 100000 in
theorem bw_X5_addCall_165 {p : Program} {l : Launch} {e : Env} {s : State} {m : MethodId} {args : Array Value} {below : List Frame} {meth : Method} {c : Code} {g : mG} {Q : Int32 → mmS → Prop} {X : String → mmS → Prop} (hl0 : l.stackTraces = false) (hC : CallFix p m c cX5_addCall 7 s args (wA_ yX5_addCall cX5_addCall 7 (some .int)) RX5) (hrt : meth.sig.returnType = (some .int)) (hlk : meth.locks = false) (hmn : meth.name = yX5_addCall.name) (hnx : ∀ x ∈ c.exceptionTable.toList, False) (hs : mX g s) : ∀ (S : mmS) (x0 : Nat) (x6 : Int32), bk_X5_addCall_165 g.2.2.2.2.2 Q X S x0 x6 → ∀ (H : Heap) (locs : List Loc), mH g S s H locs → ∀ ls : Array Slot, lv_has ls 7 [(0, .ref x0), (6, .int x6)] → W p l e rm_X5_addCall s m args below meth c H locs 1 4 (vx_MQ below (va_Qi Q (wO g) (mB g)) (vx_X (fun _ : mmS => True) (fun E S1 t => X E S1 ∧ wO g S1 t) (mB g)) args s rm_X5_addCall.cells rm_X5_addCall.slots (mB g)) (F0 m 165 ls []) := by
  intro S x0 x6 hw H locs hH ls hl
  unfold bk_X5_addCall_165 at hw
  refine lv_aload_n hC.1 hC.2.1 dX5_addCall_165 rfl (lv_at hl 0 rfl) ?_
  obtain ⟨k1, hw⟩ := hw
  obtain ⟨b2, r3, hw⟩ := hw
  refine m_getR hC hs hH cs5 fs5_12 (fun _ h => List.mem_cons_of_mem _ (inlX5 _ h)) (List.mem_cons_of_mem _ q_50) (fun _ h => h) k1 r3 dX5_addCall_166 ?_
  refine lv_iload hC.1 hC.2.1 dX5_addCall_169 (lv_at hl 1 rfl) ?_
  refine lv_aload_n hC.1 hC.2.1 dX5_addCall_171 rfl (lv_at hl 0 rfl) ?_
  refine m_getI hC hs hH cs5 fs5_8 (fun _ h => List.mem_cons_of_mem _ (inlX5 _ h)) (List.mem_cons_of_mem _ q_440) (fun _ h => h) k1 dX5_addCall_172 ?_
  obtain ⟨k4, hw⟩ := hw
  obtain ⟨i5, hw⟩ := hw
  have hw := hw _ rfl
  refine m_iast hC hs hH k4 i5 dX5_addCall_175 (fun H locs hH => ?_)
  refine lv_aload_n hC.1 hC.2.1 dX5_addCall_176 rfl (lv_at hl 0 rfl) ?_
  refine lv_dup hC.1 hC.2.1 dX5_addCall_177 rfl ?_
  refine m_getI hC hs hH cs5 fs5_8 (fun _ h => List.mem_cons_of_mem _ (inlX5 _ h)) (List.mem_cons_of_mem _ q_440) (fun _ h => h) k1 dX5_addCall_178 ?_
  refine lv_iconst (v := 1) hC.1 hC.2.1 dX5_addCall_181 (by decide) ?_
  refine lv_iadd hC.1 hC.2.1 dX5_addCall_182 ?_
  have hw := hw _ rfl
  refine m_putI hC hs hH cs5 fs5_8 (fun _ h => List.mem_cons_of_mem _ (inlX5 _ h)) (List.mem_cons_of_mem _ q_440) (fun _ h => h) (Or.inl rfl) rfl k1 dX5_addCall_183 (fun H locs hH => ?_)
  refine lv_aload_n hC.1 hC.2.1 dX5_addCall_186 rfl (lv_at hl 0 rfl) ?_
  refine m_getI hC hs hH cs5 fs5_8 (fun _ h => List.mem_cons_of_mem _ (inlX5 _ h)) (List.mem_cons_of_mem _ q_440) (fun _ h => h) k1 dX5_addCall_187 ?_
  refine lv_iconst (v := 1) hC.1 hC.2.1 dX5_addCall_190 (by decide) ?_
  refine lv_isub hC.1 hC.2.1 dX5_addCall_191 ?_
  exact m_reti hC hH hrt rfl hlk (Nat.le_of_ble_eq_true rfl) (Nat.le_of_ble_eq_true rfl) dX5_addCall_192 hw
set_option maxHeartbeats 4000000 in
set_option maxRecDepth 100000 in
theorem bw_X5_addCall_116 {p : Program} {l : Launch} {e : Env} {s : State} {m : MethodId} {args : Array Value} {below : List Frame} {meth : Method} {c : Code} {g : mG} {Q : Int32 → mmS → Prop} {X : String → mmS → Prop} (hl0 : l.stackTraces = false) (hC : CallFix p m c cX5_addCall 7 s args (wA_ yX5_addCall cX5_addCall 7 (some .int)) RX5) (hrt : meth.sig.returnType = (some .int)) (hlk : meth.locks = false) (hmn : meth.name = yX5_addCall.name) (hnx : ∀ x ∈ c.exceptionTable.toList, False) (hs : mX g s) {K116 : mmS → Nat → Int32 → Int32 → Prop} (hk116 : ∀ (S : mmS) (x0 : Nat) (x2 : Int32) (x6 : Int32), K116 S x0 x2 x6 → ∀ (H : Heap) (locs : List Loc), mH g S s H locs → ∀ ls : Array Slot, lv_has ls 7 [(0, .ref x0), (2, .int x2), (6, .int x6)] → W p l e rm_X5_addCall s m args below meth c H locs 1 4 (vx_MQ below (va_Qi Q (wO g) (mB g)) (vx_X (fun _ : mmS => True) (fun E S1 t => X E S1 ∧ wO g S1 t) (mB g)) args s rm_X5_addCall.cells rm_X5_addCall.slots (mB g)) (F0 m 116 ls [])) : ∀ (S : mmS) (x0 : Nat) (x2 : Int32) (x6 : Int32), bk_X5_addCall_116 g.2.2.2.2.2 Q X K116 S x0 x2 x6 → ∀ (H : Heap) (locs : List Loc), mH g S s H locs → ∀ ls : Array Slot, lv_has ls 7 [(0, .ref x0), (2, .int x2), (6, .int x6)] → W p l e rm_X5_addCall s m args below meth c H locs 1 4 (vx_MQ below (va_Qi Q (wO g) (mB g)) (vx_X (fun _ : mmS => True) (fun E S1 t => X E S1 ∧ wO g S1 t) (mB g)) args s rm_X5_addCall.cells rm_X5_addCall.slots (mB g)) (F0 m 116 ls []) := by
  intro S x0 x2 x6 hw H locs hH ls hl
  unfold bk_X5_addCall_116 at hw
  refine lv_iload hC.1 hC.2.1 dX5_addCall_116 (lv_at hl 2 rfl) ?_
  refine lv_if_le (tgt := 165) hC.1 hC.2.1 dX5_addCall_118 (by decide) (fun hc => ?_) (fun hc => ?_)
  · have hw := hw.1 hc
    exact bw_X5_addCall_165 hl0 hC hrt hlk hmn hnx hs _ _ _ hw _ _ hH _ (lv_sub hl [0, 2] rfl)
  · have hw := hw.2 hc
    refine lv_aload_n hC.1 hC.2.1 dX5_addCall_121 rfl (lv_at hl 0 rfl) ?_
    obtain ⟨k1, hw⟩ := hw
    obtain ⟨b2, r3, hw⟩ := hw
    refine m_getR hC hs hH cs5 fs5_9 (fun _ h => List.mem_cons_of_mem _ (inlX5 _ h)) (List.mem_cons_of_mem _ q_47) (fun _ h => h) k1 r3 dX5_addCall_122 ?_
    refine lv_iconst (v := 4) hC.1 hC.2.1 dX5_addCall_125 (by decide) ?_
    refine lv_aload_n hC.1 hC.2.1 dX5_addCall_126 rfl (lv_at hl 0 rfl) ?_
    obtain ⟨b4, r5, hw⟩ := hw
    refine m_getR hC hs hH cs5 fs5_12 (fun _ h => List.mem_cons_of_mem _ (inlX5 _ h)) (List.mem_cons_of_mem _ q_50) (fun _ h => h) k1 r5 dX5_addCall_127 ?_
    refine lv_iload hC.1 hC.2.1 dX5_addCall_130 (lv_at hl 2 rfl) ?_
    refine lv_iconst (v := 1) hC.1 hC.2.1 dX5_addCall_132 (by decide) ?_
    refine lv_isub hC.1 hC.2.1 dX5_addCall_133 ?_
    obtain ⟨k6, hw⟩ := hw
    obtain ⟨i7, hw⟩ := hw
    refine m_iald hC hs hH k6 i7 dX5_addCall_134 ?_
    refine lv_imul hC.1 hC.2.1 dX5_addCall_135 ?_
    refine lv_iconst (v := 1) hC.1 hC.2.1 dX5_addCall_136 (by decide) ?_
    refine lv_iadd hC.1 hC.2.1 dX5_addCall_137 ?_
    obtain ⟨k8, hw⟩ := hw
    obtain ⟨i9, hw⟩ := hw
    refine m_iald hC hs hH k8 i9 dX5_addCall_138 ?_
    refine lv_iload_n hC.1 hC.2.1 dX5_addCall_139 rfl (lv_at hl 1 rfl) ?_
    refine lv_icmp_le (tgt := 165) hC.1 hC.2.1 dX5_addCall_140 (by decide) (fun hc => ?_) (fun hc => ?_)
    · have hw := hw.1 hc
      exact bw_X5_addCall_165 hl0 hC hrt hlk hmn hnx hs _ _ _ hw _ _ hH _ (lv_sub hl [0, 2] rfl)
    · have hw := hw.2 hc
      refine lv_aload_n hC.1 hC.2.1 dX5_addCall_143 rfl (lv_at hl 0 rfl) ?_
      obtain ⟨b10, r11, hw⟩ := hw
      refine m_getR hC hs hH cs5 fs5_12 (fun _ h => List.mem_cons_of_mem _ (inlX5 _ h)) (List.mem_cons_of_mem _ q_50) (fun _ h => h) k1 r11 dX5_addCall_144 ?_
      refine lv_iload hC.1 hC.2.1 dX5_addCall_147 (lv_at hl 2 rfl) ?_
      refine lv_aload_n hC.1 hC.2.1 dX5_addCall_149 rfl (lv_at hl 0 rfl) ?_
      obtain ⟨b12, r13, hw⟩ := hw
      refine m_getR hC hs hH cs5 fs5_12 (fun _ h => List.mem_cons_of_mem _ (inlX5 _ h)) (List.mem_cons_of_mem _ q_50) (fun _ h => h) k1 r13 dX5_addCall_150 ?_
      refine lv_iload hC.1 hC.2.1 dX5_addCall_153 (lv_at hl 2 rfl) ?_
      refine lv_iconst (v := 1) hC.1 hC.2.1 dX5_addCall_155 (by decide) ?_
      refine lv_isub hC.1 hC.2.1 dX5_addCall_156 ?_
      obtain ⟨k14, hw⟩ := hw
      obtain ⟨i15, hw⟩ := hw
      refine m_iald hC hs hH k14 i15 dX5_addCall_157 ?_
      obtain ⟨k16, hw⟩ := hw
      obtain ⟨i17, hw⟩ := hw
      have hw := hw _ rfl
      refine m_iast hC hs hH k16 i17 dX5_addCall_158 (fun H locs hH => ?_)
      have hw := hw _ rfl
      refine lv_iinc (lv' := [(6, .int _), (0, .ref _), (2, .int _)]) hC.1 hC.2.1 dX5_addCall_159 hl (k := 2) rfl (rfl : (_ : Int32) + Int32.ofInt (-1) = (_ : Int32) + (-1)) (by decide) rfl (fun ls hl => ?_)
      refine lv_goto (tgt := 116) hC.1 hC.2.1 dX5_addCall_162 (by decide) ?_
      exact hk116 _ _ _ _ hw _ _ hH _ (lv_sub hl [1, 2, 0] rfl)
theorem lw_X5_addCall_116 {p : Program} {l : Launch} {e : Env} {s : State} {m : MethodId} {args : Array Value} {below : List Frame} {meth : Method} {c : Code} {g : mG} {Q : Int32 → mmS → Prop} {X : String → mmS → Prop} (hl0 : l.stackTraces = false) (hC : CallFix p m c cX5_addCall 7 s args (wA_ yX5_addCall cX5_addCall 7 (some .int)) RX5) (hrt : meth.sig.returnType = (some .int)) (hlk : meth.locks = false) (hmn : meth.name = yX5_addCall.name) (hnx : ∀ x ∈ c.exceptionTable.toList, False) (hs : mX g s) : ∀ (n : Nat) (S : mmS) (x0 : Nat) (x2 : Int32) (x6 : Int32), lp_X5_addCall_116 g.2.2.2.2.2 Q X n S x0 x2 x6 → ∀ (H : Heap) (locs : List Loc), mH g S s H locs → ∀ ls : Array Slot, lv_has ls 7 [(0, .ref x0), (2, .int x2), (6, .int x6)] → W p l e rm_X5_addCall s m args below meth c H locs 1 4 (vx_MQ below (va_Qi Q (wO g) (mB g)) (vx_X (fun _ : mmS => True) (fun E S1 t => X E S1 ∧ wO g S1 t) (mB g)) args s rm_X5_addCall.cells rm_X5_addCall.slots (mB g)) (F0 m 116 ls []) := by
  intro n
  induction n with
  | zero => intro S x0 x2 x6 hw; exact False.elim hw
  | succ n ih => exact fun S x0 x2 x6 hw => bw_X5_addCall_116 hl0 hC hrt hlk hmn hnx hs (K116 := lp_X5_addCall_116 g.2.2.2.2.2 Q X n) ih S x0 x2 x6 hw
set_option maxHeartbeats 4000000 in
set_option maxRecDepth 100000 in
theorem bw_X5_addCall_50 {p : Program} {l : Launch} {e : Env} {s : State} {m : MethodId} {args : Array Value} {below : List Frame} {meth : Method} {c : Code} {g : mG} {Q : Int32 → mmS → Prop} {X : String → mmS → Prop} (hl0 : l.stackTraces = false) (hC : CallFix p m c cX5_addCall 7 s args (wA_ yX5_addCall cX5_addCall 7 (some .int)) RX5) (hrt : meth.sig.returnType = (some .int)) (hlk : meth.locks = false) (hmn : meth.name = yX5_addCall.name) (hnx : ∀ x ∈ c.exceptionTable.toList, False) (hs : mX g s) : ∀ (S : mmS) (x0 : Nat), bk_X5_addCall_50 g.2.2.2.2.2 Q X S x0 → ∀ (H : Heap) (locs : List Loc), mH g S s H locs → ∀ ls : Array Slot, lv_has ls 7 [(0, .ref x0)] → W p l e rm_X5_addCall s m args below meth c H locs 0 0 (vx_MQ below (va_Qi Q (wO g) (mB g)) (vx_X (fun _ : mmS => True) (fun E S1 t => X E S1 ∧ wO g S1 t) (mB g)) args s rm_X5_addCall.cells rm_X5_addCall.slots (mB g)) (F0 m 50 ls []) := by
  intro S x0 hw H locs hH ls hl
  unfold bk_X5_addCall_50 at hw
  refine lv_aload_n hC.1 hC.2.1 dX5_addCall_50 rfl (lv_at hl 0 rfl) ?_
  refine lv_iconst (v := 2) hC.1 hC.2.1 dX5_addCall_51 (by decide) ?_
  obtain ⟨k2, hw⟩ := hw
  refine m_callVi (y := yX5_fail) (rest := []) hC hs hH hl.1 (cwV 1 hC.2.2.2.2 (gA_V q_159 q_160 q_161 q_5 q_162) rfl rfl rfl (by decide +kernel) ⟨Nat.le_of_ble_eq_true rfl, Nat.le_of_ble_eq_true rfl⟩) cs5 k2 (met_X5_fail l hl0 g _ _ _ _ _ hw) rfl rfl (Nat.le_of_ble_eq_true rfl) dX5_addCall_52 ⟨Nat.le_of_ble_eq_true rfl, Nat.le_of_ble_eq_true rfl⟩ (m_out (fun x hx => (hnx x hx).elim) hlk (Nat.le_of_ble_eq_true rfl) (Nat.le_of_ble_eq_true rfl)) (fun r3 S1 H locs hw hH => ?_)
  refine W.widen (k := 0) (n := 0) (Nat.le_of_ble_eq_true rfl) (Nat.le_of_ble_eq_true rfl) ?_
  exact m_reti hC hH hrt rfl hlk (Nat.le_of_ble_eq_true rfl) (Nat.le_of_ble_eq_true rfl) dX5_addCall_55 hw
set_option maxHeartbeats 4000000 in
set_option maxRecDepth 100000 in
theorem met_X5_addCall (l : Launch) (hl0 : l.stackTraces = false) (g : mG) (S : mmS) (p0 : Nat) (p1 : Int32) (p2 : Int32) (p3 : Int32) (p4 : Int32) (Q : Int32 → mmS → Prop) (X : String → mmS → Prop) (hw : wp_X5_addCall g.2.2.2.2.2 S p0 p1 p2 p3 p4 Q X) : mMi l g yX5_addCall (wA_ yX5_addCall cX5_addCall 7 (some .int)) rm_X5_addCall [.ref p0, .int p1, .int p2, .int p3, .int p4] S Q X := by
  refine m_of (y := yX5_addCall) (cc := cX5_addCall) (maxL := 7) (ret := (some .int)) (by decide) rfl (Nat.le_of_ble_eq_true rfl) ?_
  intro p e s m args below meth c ls hC hrt hlk hmn hnx hs hH hl
  have hC : CallFix p m c cX5_addCall 7 s args (wA_ yX5_addCall cX5_addCall 7 (some .int)) RX5 := hC
  have hl : lv_has ls 7 [(0, .ref p0), (1, .int p1), (2, .int p2), (3, .int p3), (4, .int p4)] := hl
  unfold wp_X5_addCall at hw
  refine lv_aload_n hC.1 hC.2.1 dX5_addCall_0 rfl (lv_at hl 0 rfl) ?_
  refine lv_iconst (v := 0) hC.1 hC.2.1 dX5_addCall_1 (by decide) ?_
  obtain ⟨k1, hw⟩ := hw
  have hw := hw _ rfl
  refine m_putI hC hs hH cs5 fs5_0 (fun _ h => List.mem_cons_of_mem _ (inlX5 _ h)) (List.mem_cons_of_mem _ q_153) (fun _ h => h) (Or.inl rfl) rfl k1 dX5_addCall_2 (fun H locs hH => ?_)
  refine lv_aload_n hC.1 hC.2.1 dX5_addCall_5 rfl (lv_at hl 0 rfl) ?_
  refine lv_iload_n hC.1 hC.2.1 dX5_addCall_6 rfl (lv_at hl 1 rfl) ?_
  refine m_callVi (y := yX5_isLine) (rest := []) hC hs hH hl.1 (cwV 1 hC.2.2.2.2 (gA_V q_388 q_389 q_390 q_5 q_391) rfl rfl rfl (by decide +kernel) ⟨Nat.le_of_ble_eq_true rfl, Nat.le_of_ble_eq_true rfl⟩) cs5 k1 (met_X5_isLine l hl0 g _ _ _ _ _ hw) rfl rfl (Nat.le_of_ble_eq_true rfl) dX5_addCall_7 ⟨Nat.le_of_ble_eq_true rfl, Nat.le_of_ble_eq_true rfl⟩ (m_out (fun x hx => (hnx x hx).elim) hlk (Nat.le_of_ble_eq_true rfl) (Nat.le_of_ble_eq_true rfl)) (fun r4 S1 H locs hw hH => ?_)
  refine W.widen (k := 0) (n := 0) (Nat.le_of_ble_eq_true rfl) (Nat.le_of_ble_eq_true rfl) ?_
  refine lv_if_ne (tgt := 19) hC.1 hC.2.1 dX5_addCall_10 (by decide) (fun hc => ?_) (fun hc => ?_)
  · have hw := hw.1 hc
    refine lv_iload_n hC.1 hC.2.1 dX5_addCall_19 rfl (lv_at hl 2 rfl) ?_
    refine lv_iconst (v := 0) hC.1 hC.2.1 dX5_addCall_20 (by decide) ?_
    refine lv_ldc hC.1 hC.2.1 hC.2.2.2.1 (hC.2.2.2.2 _ (List.mem_cons_of_mem _ q_439)) dX5_addCall_21 ?_
    refine m_callSi (y := yX5_isIn) (rest := []) hC hs hH hl.1 (va_cwS 3 hC.2.2.2.2 (gA_S q_156 q_157 q_5 q_158) rfl rfl rfl (by decide +kernel) ⟨Nat.le_of_ble_eq_true rfl, Nat.le_of_ble_eq_true rfl⟩) (met_X5_isIn l hl0 g _ _ _ _ _ _ hw) rfl rfl (Nat.le_of_ble_eq_true rfl) dX5_addCall_23 ⟨Nat.le_of_ble_eq_true rfl, Nat.le_of_ble_eq_true rfl⟩ (m_out (fun x hx => (hnx x hx).elim) hlk (Nat.le_of_ble_eq_true rfl) (Nat.le_of_ble_eq_true rfl)) (fun r6 S1 H locs hw hH => ?_)
    refine W.widen (k := 0) (n := 0) (Nat.le_of_ble_eq_true rfl) (Nat.le_of_ble_eq_true rfl) ?_
    refine lv_if_eq (tgt := 50) hC.1 hC.2.1 dX5_addCall_26 (by decide) (fun hc => ?_) (fun hc => ?_)
    · have hw := hw.1 hc
      exact bw_X5_addCall_50 hl0 hC hrt hlk hmn hnx hs _ _ hw _ _ hH _ (lv_sub hl [0] rfl)
    · have hw := hw.2 hc
      refine lv_iload_n hC.1 hC.2.1 dX5_addCall_29 rfl (lv_at hl 3 rfl) ?_
      refine lv_iconst (v := 1) hC.1 hC.2.1 dX5_addCall_30 (by decide) ?_
      refine lv_sipush (v := 7200) hC.1 hC.2.1 dX5_addCall_31 (by decide) ?_
      refine m_callSi (y := yX5_isIn) (rest := []) hC hs hH hl.1 (va_cwS 3 hC.2.2.2.2 (gA_S q_156 q_157 q_5 q_158) rfl rfl rfl (by decide +kernel) ⟨Nat.le_of_ble_eq_true rfl, Nat.le_of_ble_eq_true rfl⟩) (met_X5_isIn l hl0 g _ _ _ _ _ _ hw) rfl rfl (Nat.le_of_ble_eq_true rfl) dX5_addCall_34 ⟨Nat.le_of_ble_eq_true rfl, Nat.le_of_ble_eq_true rfl⟩ (m_out (fun x hx => (hnx x hx).elim) hlk (Nat.le_of_ble_eq_true rfl) (Nat.le_of_ble_eq_true rfl)) (fun r8 S1 H locs hw hH => ?_)
      refine W.widen (k := 0) (n := 0) (Nat.le_of_ble_eq_true rfl) (Nat.le_of_ble_eq_true rfl) ?_
      refine lv_if_eq (tgt := 50) hC.1 hC.2.1 dX5_addCall_37 (by decide) (fun hc => ?_) (fun hc => ?_)
      · have hw := hw.1 hc
        exact bw_X5_addCall_50 hl0 hC hrt hlk hmn hnx hs _ _ hw _ _ hH _ (lv_sub hl [0] rfl)
      · have hw := hw.2 hc
        refine lv_iload hC.1 hC.2.1 dX5_addCall_40 (lv_at hl 4 rfl) ?_
        refine lv_iconst (v := 0) hC.1 hC.2.1 dX5_addCall_42 (by decide) ?_
        refine lv_iconst (v := 2) hC.1 hC.2.1 dX5_addCall_43 (by decide) ?_
        refine m_callSi (y := yX5_isIn) (rest := []) hC hs hH hl.1 (va_cwS 3 hC.2.2.2.2 (gA_S q_156 q_157 q_5 q_158) rfl rfl rfl (by decide +kernel) ⟨Nat.le_of_ble_eq_true rfl, Nat.le_of_ble_eq_true rfl⟩) (met_X5_isIn l hl0 g _ _ _ _ _ _ hw) rfl rfl (Nat.le_of_ble_eq_true rfl) dX5_addCall_44 ⟨Nat.le_of_ble_eq_true rfl, Nat.le_of_ble_eq_true rfl⟩ (m_out (fun x hx => (hnx x hx).elim) hlk (Nat.le_of_ble_eq_true rfl) (Nat.le_of_ble_eq_true rfl)) (fun r10 S1 H locs hw hH => ?_)
        refine W.widen (k := 0) (n := 0) (Nat.le_of_ble_eq_true rfl) (Nat.le_of_ble_eq_true rfl) ?_
        refine lv_if_ne (tgt := 56) hC.1 hC.2.1 dX5_addCall_47 (by decide) (fun hc => ?_) (fun hc => ?_)
        · have hw := hw.1 hc
          refine lv_aload_n hC.1 hC.2.1 dX5_addCall_56 rfl (lv_at hl 0 rfl) ?_
          obtain ⟨k11, hw⟩ := hw
          refine m_getI hC hs hH cs5 fs5_8 (fun _ h => List.mem_cons_of_mem _ (inlX5 _ h)) (List.mem_cons_of_mem _ q_440) (fun _ h => h) k11 dX5_addCall_57 ?_
          refine lv_bipush (v := 60) hC.1 hC.2.1 dX5_addCall_60 (by decide) ?_
          refine lv_icmp_ne (tgt := 71) hC.1 hC.2.1 dX5_addCall_62 (by decide) (fun hc => ?_) (fun hc => ?_)
          · have hw := hw.1 hc
            refine lv_iconst (v := 4) hC.1 hC.2.1 dX5_addCall_71 (by decide) ?_
            refine m_newI (N' := 4) hC hs hH (List.mem_cons_of_mem _ q_42) (by decide) (by decide) (by decide) (Nat.le_of_ble_eq_true rfl) (Nat.le_of_ble_eq_true rfl) dX5_addCall_72 (fun q12 H f13 hH => ?_)
            have hw := hw q12 f13 _ rfl
            refine W.widen (k := 1) (n := 4) (Nat.le_of_ble_eq_true rfl) (Nat.le_of_ble_eq_true rfl) ?_
            refine lv_dup hC.1 hC.2.1 dX5_addCall_74 rfl ?_
            refine lv_iconst (v := 0) hC.1 hC.2.1 dX5_addCall_75 (by decide) ?_
            refine lv_iload_n hC.1 hC.2.1 dX5_addCall_76 rfl (lv_at hl 1 rfl) ?_
            obtain ⟨i15, hw⟩ := hw
            have hw := hw _ rfl
            refine m_iast hC hs hH mkQ i15 dX5_addCall_77 (fun H locs hH => ?_)
            refine lv_dup hC.1 hC.2.1 dX5_addCall_78 rfl ?_
            refine lv_iconst (v := 1) hC.1 hC.2.1 dX5_addCall_79 (by decide) ?_
            refine lv_iload_n hC.1 hC.2.1 dX5_addCall_80 rfl (lv_at hl 2 rfl) ?_
            obtain ⟨i17, hw⟩ := hw
            have hw := hw _ rfl
            refine m_iast hC hs hH mkQ i17 dX5_addCall_81 (fun H locs hH => ?_)
            refine lv_dup hC.1 hC.2.1 dX5_addCall_82 rfl ?_
            refine lv_iconst (v := 2) hC.1 hC.2.1 dX5_addCall_83 (by decide) ?_
            refine lv_iload_n hC.1 hC.2.1 dX5_addCall_84 rfl (lv_at hl 3 rfl) ?_
            obtain ⟨i19, hw⟩ := hw
            have hw := hw _ rfl
            refine m_iast hC hs hH mkQ i19 dX5_addCall_85 (fun H locs hH => ?_)
            refine lv_dup hC.1 hC.2.1 dX5_addCall_86 rfl ?_
            refine lv_iconst (v := 3) hC.1 hC.2.1 dX5_addCall_87 (by decide) ?_
            refine lv_iload hC.1 hC.2.1 dX5_addCall_88 (lv_at hl 4 rfl) ?_
            obtain ⟨i21, hw⟩ := hw
            have hw := hw _ rfl
            refine m_iast hC hs hH mkQ i21 dX5_addCall_90 (fun H locs hH => ?_)
            refine lv_astore (lv' := [(5, .ref _), (0, .ref _), (1, .int _), (2, .int _), (3, .int _), (4, .int _)]) hC.1 hC.2.1 dX5_addCall_91 hl (by decide) rfl (fun ls hl => ?_)
            refine lv_aload hC.1 hC.2.1 dX5_addCall_93 (lv_at hl 0 rfl) ?_
            refine lv_iconst (v := 0) hC.1 hC.2.1 dX5_addCall_95 (by decide) ?_
            refine lv_aload_n hC.1 hC.2.1 dX5_addCall_96 rfl (lv_at hl 1 rfl) ?_
            obtain ⟨b23, r24, hw⟩ := hw
            refine m_getR hC hs hH cs5 fs5_9 (fun _ h => List.mem_cons_of_mem _ (inlX5 _ h)) (List.mem_cons_of_mem _ q_47) (fun _ h => h) (mkN k11 f13) r24 dX5_addCall_97 ?_
            refine lv_iconst (v := 4) hC.1 hC.2.1 dX5_addCall_100 (by decide) ?_
            refine lv_aload_n hC.1 hC.2.1 dX5_addCall_101 rfl (lv_at hl 1 rfl) ?_
            refine m_getI hC hs hH cs5 fs5_8 (fun _ h => List.mem_cons_of_mem _ (inlX5 _ h)) (List.mem_cons_of_mem _ q_440) (fun _ h => h) (mkN k11 f13) dX5_addCall_102 ?_
            refine lv_imul hC.1 hC.2.1 dX5_addCall_105 ?_
            refine lv_iconst (v := 4) hC.1 hC.2.1 dX5_addCall_106 (by decide) ?_
            obtain ⟨k25, hw⟩ := hw
            obtain ⟨n26, hw⟩ := hw
            have hw := hw _ rfl
            refine m_copyI hC hs hH hl.1 (List.mem_cons_of_mem _ q_155) (List.mem_cons_of_mem _ q_146) (List.mem_cons_of_mem _ q_147) (List.mem_cons_of_mem _ q_148) mkQ k25 n26 (Nat.le_of_ble_eq_true rfl) (by decide) dX5_addCall_107 (fun H locs hH => ?_)
            refine lv_aload_n hC.1 hC.2.1 dX5_addCall_110 rfl (lv_at hl 1 rfl) ?_
            refine m_getI hC hs hH cs5 fs5_8 (fun _ h => List.mem_cons_of_mem _ (inlX5 _ h)) (List.mem_cons_of_mem _ q_440) (fun _ h => h) (mkN k11 f13) dX5_addCall_111 ?_
            have hw := hw _ rfl
            refine lv_istore (lv' := [(6, .int _), (5, .ref _), (0, .ref _), (1, .int _), (2, .int _), (3, .int _), (4, .int _)]) hC.1 hC.2.1 dX5_addCall_114 hl (by decide) rfl (fun ls hl => ?_)
            obtain ⟨n, hw⟩ := hw
            exact lw_X5_addCall_116 hl0 hC hrt hlk hmn hnx hs n _ _ _ _ hw _ _ hH _ (lv_sub hl [2, 4, 0] rfl)
          · have hw := hw.2 hc
            refine lv_aload_n hC.1 hC.2.1 dX5_addCall_65 rfl (lv_at hl 0 rfl) ?_
            refine lv_iconst (v := 3) hC.1 hC.2.1 dX5_addCall_66 (by decide) ?_
            refine m_callVi (y := yX5_fail) (rest := []) hC hs hH hl.1 (cwV 1 hC.2.2.2.2 (gA_V q_159 q_160 q_161 q_5 q_162) rfl rfl rfl (by decide +kernel) ⟨Nat.le_of_ble_eq_true rfl, Nat.le_of_ble_eq_true rfl⟩) cs5 k11 (met_X5_fail l hl0 g _ _ _ _ _ hw) rfl rfl (Nat.le_of_ble_eq_true rfl) dX5_addCall_67 ⟨Nat.le_of_ble_eq_true rfl, Nat.le_of_ble_eq_true rfl⟩ (m_out (fun x hx => (hnx x hx).elim) hlk (Nat.le_of_ble_eq_true rfl) (Nat.le_of_ble_eq_true rfl)) (fun r30 S1 H locs hw hH => ?_)
            refine W.widen (k := 0) (n := 0) (Nat.le_of_ble_eq_true rfl) (Nat.le_of_ble_eq_true rfl) ?_
            exact m_reti hC hH hrt rfl hlk (Nat.le_of_ble_eq_true rfl) (Nat.le_of_ble_eq_true rfl) dX5_addCall_70 hw
        · have hw := hw.2 hc
          exact bw_X5_addCall_50 hl0 hC hrt hlk hmn hnx hs _ _ hw _ _ hH _ (lv_sub hl [0] rfl)
  · have hw := hw.2 hc
    refine lv_aload_n hC.1 hC.2.1 dX5_addCall_13 rfl (lv_at hl 0 rfl) ?_
    refine lv_iconst (v := 1) hC.1 hC.2.1 dX5_addCall_14 (by decide) ?_
    obtain ⟨k32, hw⟩ := hw
    refine m_callVi (y := yX5_fail) (rest := []) hC hs hH hl.1 (cwV 1 hC.2.2.2.2 (gA_V q_159 q_160 q_161 q_5 q_162) rfl rfl rfl (by decide +kernel) ⟨Nat.le_of_ble_eq_true rfl, Nat.le_of_ble_eq_true rfl⟩) cs5 k32 (met_X5_fail l hl0 g _ _ _ _ _ hw) rfl rfl (Nat.le_of_ble_eq_true rfl) dX5_addCall_15 ⟨Nat.le_of_ble_eq_true rfl, Nat.le_of_ble_eq_true rfl⟩ (m_out (fun x hx => (hnx x hx).elim) hlk (Nat.le_of_ble_eq_true rfl) (Nat.le_of_ble_eq_true rfl)) (fun r33 S1 H locs hw hH => ?_)
    refine W.widen (k := 0) (n := 0) (Nat.le_of_ble_eq_true rfl) (Nat.le_of_ble_eq_true rfl) ?_
    exact m_reti hC hH hrt rfl hlk (Nat.le_of_ble_eq_true rfl) (Nat.le_of_ble_eq_true rfl) dX5_addCall_18 hw
abbrev rm_X5_correct : Room := { frames := 3, cells := 0, slots := 0, locals := 43 }
def wp_X5_correct (z : Nat × Nat) (S : mmS) (p0 : Nat) (p1 : Int32) (p2 : Int32) (Q : Int32 → mmS → Prop) (X : String → mmS → Prop) : Prop := (p0 ∈ mL S ∧ mK S p0 = 5) ∧ ∀ S2 : mmS, S2 = sI S 23 p0 (0 : Int32) → wp_X5_isCall z S2 p0 p1 (fun r4 S3 => (¬ r4 = 0 → wp_X5_isIn z S3 p2 (0 : Int32) (7200 : Int32) (fun r6 S5 => (¬ r6 = 0 → (p0 ∈ mL S5 ∧ mK S5 p0 = 5) ∧ ∃ b8 : Nat, mR S5 17 p0 = some b8 ∧ (b8 ∈ mL S5 ∧ mK S5 b8 = 7) ∧ vp_in (((4 : Int32) * p1) + (2 : Int32)) (mN S5 b8) ∧ ∀ v12 : Int32, v12 = (mA S5 b8 (((4 : Int32) * p1) + (2 : Int32)).toNatClampNeg) → ∃ b13 : Nat, mR S5 17 p0 = some b13 ∧ (b13 ∈ mL S5 ∧ mK S5 b13 = 7) ∧ vp_in (((4 : Int32) * p1) + (2 : Int32)) (mN S5 b13) ∧ ∀ S17 : mmS, S17 = sA S5 b13 (((4 : Int32) * p1) + (2 : Int32)).toNatClampNeg p2 → Q v12 S17) ∧ (r6 = 0 → (p0 ∈ mL S5 ∧ mK S5 p0 = 5) ∧ wp_X5_fail z S5 p0 (2 : Int32) (fun r20 S18 => Q r20 S18) X)) X) ∧ (r4 = 0 → (p0 ∈ mL S3 ∧ mK S3 p0 = 5) ∧ wp_X5_fail z S3 p0 (1 : Int32) (fun r23 S21 => Q r23 S21) X)) X
set_option maxHeartbeats 4000000 in
set_option maxRecDepth 100000 in
theorem met_X5_correct (l : Launch) (hl0 : l.stackTraces = false) (g : mG) (S : mmS) (p0 : Nat) (p1 : Int32) (p2 : Int32) (Q : Int32 → mmS → Prop) (X : String → mmS → Prop) (hw : wp_X5_correct g.2.2.2.2.2 S p0 p1 p2 Q X) : mMi l g yX5_correct (wA_ yX5_correct cX5_correct 4 (some .int)) rm_X5_correct [.ref p0, .int p1, .int p2] S Q X := by
  refine m_of (y := yX5_correct) (cc := cX5_correct) (maxL := 4) (ret := (some .int)) (by decide) rfl (Nat.le_of_ble_eq_true rfl) ?_
  intro p e s m args below meth c ls hC hrt hlk hmn hnx hs hH hl
  have hC : CallFix p m c cX5_correct 4 s args (wA_ yX5_correct cX5_correct 4 (some .int)) RX5 := hC
  have hl : lv_has ls 4 [(0, .ref p0), (1, .int p1), (2, .int p2)] := hl
  unfold wp_X5_correct at hw
  refine lv_aload_n hC.1 hC.2.1 dX5_correct_0 rfl (lv_at hl 0 rfl) ?_
  refine lv_iconst (v := 0) hC.1 hC.2.1 dX5_correct_1 (by decide) ?_
  obtain ⟨k1, hw⟩ := hw
  have hw := hw _ rfl
  refine m_putI hC hs hH cs5 fs5_0 (fun _ h => List.mem_cons_of_mem _ (inlX5 _ h)) (List.mem_cons_of_mem _ q_153) (fun _ h => h) (Or.inl rfl) rfl k1 dX5_correct_2 (fun H locs hH => ?_)
  refine lv_aload_n hC.1 hC.2.1 dX5_correct_5 rfl (lv_at hl 0 rfl) ?_
  refine lv_iload_n hC.1 hC.2.1 dX5_correct_6 rfl (lv_at hl 1 rfl) ?_
  refine m_callVi (y := yX5_isCall) (rest := []) hC hs hH hl.1 (cwV 1 hC.2.2.2.2 (gA_V q_456 q_457 q_458 q_5 q_459) rfl rfl rfl (by decide +kernel) ⟨Nat.le_of_ble_eq_true rfl, Nat.le_of_ble_eq_true rfl⟩) cs5 k1 (met_X5_isCall l hl0 g _ _ _ _ _ hw) rfl rfl (Nat.le_of_ble_eq_true rfl) dX5_correct_7 ⟨Nat.le_of_ble_eq_true rfl, Nat.le_of_ble_eq_true rfl⟩ (m_out (fun x hx => (hnx x hx).elim) hlk (Nat.le_of_ble_eq_true rfl) (Nat.le_of_ble_eq_true rfl)) (fun r4 S1 H locs hw hH => ?_)
  refine W.widen (k := 0) (n := 0) (Nat.le_of_ble_eq_true rfl) (Nat.le_of_ble_eq_true rfl) ?_
  refine lv_if_ne (tgt := 19) hC.1 hC.2.1 dX5_correct_10 (by decide) (fun hc => ?_) (fun hc => ?_)
  · have hw := hw.1 hc
    refine lv_iload_n hC.1 hC.2.1 dX5_correct_19 rfl (lv_at hl 2 rfl) ?_
    refine lv_iconst (v := 0) hC.1 hC.2.1 dX5_correct_20 (by decide) ?_
    refine lv_sipush (v := 7200) hC.1 hC.2.1 dX5_correct_21 (by decide) ?_
    refine m_callSi (y := yX5_isIn) (rest := []) hC hs hH hl.1 (va_cwS 3 hC.2.2.2.2 (gA_S q_156 q_157 q_5 q_158) rfl rfl rfl (by decide +kernel) ⟨Nat.le_of_ble_eq_true rfl, Nat.le_of_ble_eq_true rfl⟩) (met_X5_isIn l hl0 g _ _ _ _ _ _ hw) rfl rfl (Nat.le_of_ble_eq_true rfl) dX5_correct_24 ⟨Nat.le_of_ble_eq_true rfl, Nat.le_of_ble_eq_true rfl⟩ (m_out (fun x hx => (hnx x hx).elim) hlk (Nat.le_of_ble_eq_true rfl) (Nat.le_of_ble_eq_true rfl)) (fun r6 S1 H locs hw hH => ?_)
    refine W.widen (k := 0) (n := 0) (Nat.le_of_ble_eq_true rfl) (Nat.le_of_ble_eq_true rfl) ?_
    refine lv_if_ne (tgt := 36) hC.1 hC.2.1 dX5_correct_27 (by decide) (fun hc => ?_) (fun hc => ?_)
    · have hw := hw.1 hc
      refine lv_aload_n hC.1 hC.2.1 dX5_correct_36 rfl (lv_at hl 0 rfl) ?_
      obtain ⟨k7, hw⟩ := hw
      obtain ⟨b8, r9, hw⟩ := hw
      refine m_getR hC hs hH cs5 fs5_9 (fun _ h => List.mem_cons_of_mem _ (inlX5 _ h)) (List.mem_cons_of_mem _ q_47) (fun _ h => h) k7 r9 dX5_correct_37 ?_
      refine lv_iconst (v := 4) hC.1 hC.2.1 dX5_correct_40 (by decide) ?_
      refine lv_iload_n hC.1 hC.2.1 dX5_correct_41 rfl (lv_at hl 1 rfl) ?_
      refine lv_imul hC.1 hC.2.1 dX5_correct_42 ?_
      refine lv_iconst (v := 2) hC.1 hC.2.1 dX5_correct_43 (by decide) ?_
      refine lv_iadd hC.1 hC.2.1 dX5_correct_44 ?_
      obtain ⟨k10, hw⟩ := hw
      obtain ⟨i11, hw⟩ := hw
      refine m_iald hC hs hH k10 i11 dX5_correct_45 ?_
      have hw := hw _ rfl
      refine lv_istore_n (lv' := [(3, .int _), (0, .ref _), (1, .int _), (2, .int _)]) hC.1 hC.2.1 dX5_correct_46 rfl hl (by decide) rfl (fun ls hl => ?_)
      refine lv_aload_n hC.1 hC.2.1 dX5_correct_47 rfl (lv_at hl 1 rfl) ?_
      obtain ⟨b13, r14, hw⟩ := hw
      refine m_getR hC hs hH cs5 fs5_9 (fun _ h => List.mem_cons_of_mem _ (inlX5 _ h)) (List.mem_cons_of_mem _ q_47) (fun _ h => h) k7 r14 dX5_correct_48 ?_
      refine lv_iconst (v := 4) hC.1 hC.2.1 dX5_correct_51 (by decide) ?_
      refine lv_iload_n hC.1 hC.2.1 dX5_correct_52 rfl (lv_at hl 2 rfl) ?_
      refine lv_imul hC.1 hC.2.1 dX5_correct_53 ?_
      refine lv_iconst (v := 2) hC.1 hC.2.1 dX5_correct_54 (by decide) ?_
      refine lv_iadd hC.1 hC.2.1 dX5_correct_55 ?_
      refine lv_iload_n hC.1 hC.2.1 dX5_correct_56 rfl (lv_at hl 3 rfl) ?_
      obtain ⟨k15, hw⟩ := hw
      obtain ⟨i16, hw⟩ := hw
      have hw := hw _ rfl
      refine m_iast hC hs hH k15 i16 dX5_correct_57 (fun H locs hH => ?_)
      refine lv_iload_n hC.1 hC.2.1 dX5_correct_58 rfl (lv_at hl 0 rfl) ?_
      exact m_reti hC hH hrt rfl hlk (Nat.le_of_ble_eq_true rfl) (Nat.le_of_ble_eq_true rfl) dX5_correct_59 hw
    · have hw := hw.2 hc
      refine lv_aload_n hC.1 hC.2.1 dX5_correct_30 rfl (lv_at hl 0 rfl) ?_
      refine lv_iconst (v := 2) hC.1 hC.2.1 dX5_correct_31 (by decide) ?_
      obtain ⟨k19, hw⟩ := hw
      refine m_callVi (y := yX5_fail) (rest := []) hC hs hH hl.1 (cwV 1 hC.2.2.2.2 (gA_V q_159 q_160 q_161 q_5 q_162) rfl rfl rfl (by decide +kernel) ⟨Nat.le_of_ble_eq_true rfl, Nat.le_of_ble_eq_true rfl⟩) cs5 k19 (met_X5_fail l hl0 g _ _ _ _ _ hw) rfl rfl (Nat.le_of_ble_eq_true rfl) dX5_correct_32 ⟨Nat.le_of_ble_eq_true rfl, Nat.le_of_ble_eq_true rfl⟩ (m_out (fun x hx => (hnx x hx).elim) hlk (Nat.le_of_ble_eq_true rfl) (Nat.le_of_ble_eq_true rfl)) (fun r20 S1 H locs hw hH => ?_)
      refine W.widen (k := 0) (n := 0) (Nat.le_of_ble_eq_true rfl) (Nat.le_of_ble_eq_true rfl) ?_
      exact m_reti hC hH hrt rfl hlk (Nat.le_of_ble_eq_true rfl) (Nat.le_of_ble_eq_true rfl) dX5_correct_35 hw
  · have hw := hw.2 hc
    refine lv_aload_n hC.1 hC.2.1 dX5_correct_13 rfl (lv_at hl 0 rfl) ?_
    refine lv_iconst (v := 1) hC.1 hC.2.1 dX5_correct_14 (by decide) ?_
    obtain ⟨k22, hw⟩ := hw
    refine m_callVi (y := yX5_fail) (rest := []) hC hs hH hl.1 (cwV 1 hC.2.2.2.2 (gA_V q_159 q_160 q_161 q_5 q_162) rfl rfl rfl (by decide +kernel) ⟨Nat.le_of_ble_eq_true rfl, Nat.le_of_ble_eq_true rfl⟩) cs5 k22 (met_X5_fail l hl0 g _ _ _ _ _ hw) rfl rfl (Nat.le_of_ble_eq_true rfl) dX5_correct_15 ⟨Nat.le_of_ble_eq_true rfl, Nat.le_of_ble_eq_true rfl⟩ (m_out (fun x hx => (hnx x hx).elim) hlk (Nat.le_of_ble_eq_true rfl) (Nat.le_of_ble_eq_true rfl)) (fun r23 S1 H locs hw hH => ?_)
    refine W.widen (k := 0) (n := 0) (Nat.le_of_ble_eq_true rfl) (Nat.le_of_ble_eq_true rfl) ?_
    exact m_reti hC hH hrt rfl hlk (Nat.le_of_ble_eq_true rfl) (Nat.le_of_ble_eq_true rfl) dX5_correct_18 hw
abbrev rm_X5_callCount : Room := { frames := 1, cells := 0, slots := 0, locals := 0 }
def wp_X5_callCount (z : Nat × Nat) (S : mmS) (p0 : Nat) (Q : Int32 → mmS → Prop) (X : String → mmS → Prop) : Prop := (p0 ∈ mL S ∧ mK S p0 = 5) ∧ ∀ S2 : mmS, S2 = sI S 23 p0 (0 : Int32) → Q (mI S2 27 p0) S2
set_option maxHeartbeats 4000000 in
set_option maxRecDepth 100000 in
theorem met_X5_callCount (l : Launch) (hl0 : l.stackTraces = false) (g : mG) (S : mmS) (p0 : Nat) (Q : Int32 → mmS → Prop) (X : String → mmS → Prop) (hw : wp_X5_callCount g.2.2.2.2.2 S p0 Q X) : mMi l g yX5_callCount (wA_ yX5_callCount cX5_callCount 1 (some .int)) rm_X5_callCount [.ref p0] S Q X := by
  refine m_of (y := yX5_callCount) (cc := cX5_callCount) (maxL := 1) (ret := (some .int)) (by decide) rfl (Nat.le_of_ble_eq_true rfl) ?_
  intro p e s m args below meth c ls hC hrt hlk hmn hnx hs hH hl
  have hC : CallFix p m c cX5_callCount 1 s args (wA_ yX5_callCount cX5_callCount 1 (some .int)) RX5 := hC
  have hl : lv_has ls 1 [(0, .ref p0)] := hl
  unfold wp_X5_callCount at hw
  refine lv_aload_n hC.1 hC.2.1 dX5_callCount_0 rfl (lv_at hl 0 rfl) ?_
  refine lv_iconst (v := 0) hC.1 hC.2.1 dX5_callCount_1 (by decide) ?_
  obtain ⟨k1, hw⟩ := hw
  have hw := hw _ rfl
  refine m_putI hC hs hH cs5 fs5_0 (fun _ h => List.mem_cons_of_mem _ (inlX5 _ h)) (List.mem_cons_of_mem _ q_153) (fun _ h => h) (Or.inl rfl) rfl k1 dX5_callCount_2 (fun H locs hH => ?_)
  refine lv_aload_n hC.1 hC.2.1 dX5_callCount_5 rfl (lv_at hl 0 rfl) ?_
  refine m_getI hC hs hH cs5 fs5_8 (fun _ h => List.mem_cons_of_mem _ (inlX5 _ h)) (List.mem_cons_of_mem _ q_440) (fun _ h => h) k1 dX5_callCount_6 ?_
  exact m_reti hC hH hrt rfl hlk (Nat.le_of_ble_eq_true rfl) (Nat.le_of_ble_eq_true rfl) dX5_callCount_9 hw
abbrev rm_X5_callAt : Room := { frames := 2, cells := 0, slots := 0, locals := 22 }
def wp_X5_callAt (z : Nat × Nat) (S : mmS) (p0 : Nat) (p1 : Int32) (Q : Int32 → mmS → Prop) (X : String → mmS → Prop) : Prop := (p0 ∈ mL S ∧ mK S p0 = 5) ∧ ∀ S2 : mmS, S2 = sI S 23 p0 (0 : Int32) → wp_X5_isIn z S2 p1 (0 : Int32) ((mI S2 27 p0) - (1 : Int32)) (fun r4 S3 => (r4 = 0 → (p0 ∈ mL S3 ∧ mK S3 p0 = 5) ∧ wp_X5_fail z S3 p0 (1 : Int32) (fun r7 S5 => Q r7 S5) X) ∧ (¬ r4 = 0 → (p0 ∈ mL S3 ∧ mK S3 p0 = 5) ∧ ∃ b9 : Nat, mR S3 18 p0 = some b9 ∧ (b9 ∈ mL S3 ∧ mK S3 b9 = 7) ∧ vp_in p1 (mN S3 b9) ∧ Q (mA S3 b9 (p1).toNatClampNeg) S3)) X
set_option maxHeartbeats 4000000 in
set_option maxRecDepth 100000 in
theorem met_X5_callAt (l : Launch) (hl0 : l.stackTraces = false) (g : mG) (S : mmS) (p0 : Nat) (p1 : Int32) (Q : Int32 → mmS → Prop) (X : String → mmS → Prop) (hw : wp_X5_callAt g.2.2.2.2.2 S p0 p1 Q X) : mMi l g yX5_callAt (wA_ yX5_callAt cX5_callAt 2 (some .int)) rm_X5_callAt [.ref p0, .int p1] S Q X := by
  refine m_of (y := yX5_callAt) (cc := cX5_callAt) (maxL := 2) (ret := (some .int)) (by decide) rfl (Nat.le_of_ble_eq_true rfl) ?_
  intro p e s m args below meth c ls hC hrt hlk hmn hnx hs hH hl
  have hC : CallFix p m c cX5_callAt 2 s args (wA_ yX5_callAt cX5_callAt 2 (some .int)) RX5 := hC
  have hl : lv_has ls 2 [(0, .ref p0), (1, .int p1)] := hl
  unfold wp_X5_callAt at hw
  refine lv_aload_n hC.1 hC.2.1 dX5_callAt_0 rfl (lv_at hl 0 rfl) ?_
  refine lv_iconst (v := 0) hC.1 hC.2.1 dX5_callAt_1 (by decide) ?_
  obtain ⟨k1, hw⟩ := hw
  have hw := hw _ rfl
  refine m_putI hC hs hH cs5 fs5_0 (fun _ h => List.mem_cons_of_mem _ (inlX5 _ h)) (List.mem_cons_of_mem _ q_153) (fun _ h => h) (Or.inl rfl) rfl k1 dX5_callAt_2 (fun H locs hH => ?_)
  refine lv_iload_n hC.1 hC.2.1 dX5_callAt_5 rfl (lv_at hl 1 rfl) ?_
  refine lv_iconst (v := 0) hC.1 hC.2.1 dX5_callAt_6 (by decide) ?_
  refine lv_aload_n hC.1 hC.2.1 dX5_callAt_7 rfl (lv_at hl 0 rfl) ?_
  refine m_getI hC hs hH cs5 fs5_8 (fun _ h => List.mem_cons_of_mem _ (inlX5 _ h)) (List.mem_cons_of_mem _ q_440) (fun _ h => h) k1 dX5_callAt_8 ?_
  refine lv_iconst (v := 1) hC.1 hC.2.1 dX5_callAt_11 (by decide) ?_
  refine lv_isub hC.1 hC.2.1 dX5_callAt_12 ?_
  refine m_callSi (y := yX5_isIn) (rest := []) hC hs hH hl.1 (va_cwS 3 hC.2.2.2.2 (gA_S q_156 q_157 q_5 q_158) rfl rfl rfl (by decide +kernel) ⟨Nat.le_of_ble_eq_true rfl, Nat.le_of_ble_eq_true rfl⟩) (met_X5_isIn l hl0 g _ _ _ _ _ _ hw) rfl rfl (Nat.le_of_ble_eq_true rfl) dX5_callAt_13 ⟨Nat.le_of_ble_eq_true rfl, Nat.le_of_ble_eq_true rfl⟩ (m_out (fun x hx => (hnx x hx).elim) hlk (Nat.le_of_ble_eq_true rfl) (Nat.le_of_ble_eq_true rfl)) (fun r4 S1 H locs hw hH => ?_)
  refine W.widen (k := 0) (n := 0) (Nat.le_of_ble_eq_true rfl) (Nat.le_of_ble_eq_true rfl) ?_
  refine lv_if_eq (tgt := 28) hC.1 hC.2.1 dX5_callAt_16 (by decide) (fun hc => ?_) (fun hc => ?_)
  · have hw := hw.1 hc
    refine lv_aload_n hC.1 hC.2.1 dX5_callAt_28 rfl (lv_at hl 0 rfl) ?_
    refine lv_iconst (v := 1) hC.1 hC.2.1 dX5_callAt_29 (by decide) ?_
    obtain ⟨k6, hw⟩ := hw
    refine m_callVi (y := yX5_fail) (rest := []) hC hs hH hl.1 (cwV 1 hC.2.2.2.2 (gA_V q_159 q_160 q_161 q_5 q_162) rfl rfl rfl (by decide +kernel) ⟨Nat.le_of_ble_eq_true rfl, Nat.le_of_ble_eq_true rfl⟩) cs5 k6 (met_X5_fail l hl0 g _ _ _ _ _ hw) rfl rfl (Nat.le_of_ble_eq_true rfl) dX5_callAt_30 ⟨Nat.le_of_ble_eq_true rfl, Nat.le_of_ble_eq_true rfl⟩ (m_out (fun x hx => (hnx x hx).elim) hlk (Nat.le_of_ble_eq_true rfl) (Nat.le_of_ble_eq_true rfl)) (fun r7 S1 H locs hw hH => ?_)
    refine W.widen (k := 0) (n := 0) (Nat.le_of_ble_eq_true rfl) (Nat.le_of_ble_eq_true rfl) ?_
    exact m_reti hC hH hrt rfl hlk (Nat.le_of_ble_eq_true rfl) (Nat.le_of_ble_eq_true rfl) dX5_callAt_33 hw
  · have hw := hw.2 hc
    refine lv_aload_n hC.1 hC.2.1 dX5_callAt_19 rfl (lv_at hl 0 rfl) ?_
    obtain ⟨k8, hw⟩ := hw
    obtain ⟨b9, r10, hw⟩ := hw
    refine m_getR hC hs hH cs5 fs5_12 (fun _ h => List.mem_cons_of_mem _ (inlX5 _ h)) (List.mem_cons_of_mem _ q_50) (fun _ h => h) k8 r10 dX5_callAt_20 ?_
    refine lv_iload_n hC.1 hC.2.1 dX5_callAt_23 rfl (lv_at hl 1 rfl) ?_
    obtain ⟨k11, hw⟩ := hw
    obtain ⟨i12, hw⟩ := hw
    refine m_iald hC hs hH k11 i12 dX5_callAt_24 ?_
    refine lv_goto (tgt := 33) hC.1 hC.2.1 dX5_callAt_25 (by decide) ?_
    exact m_reti hC hH hrt rfl hlk (Nat.le_of_ble_eq_true rfl) (Nat.le_of_ble_eq_true rfl) dX5_callAt_33 hw
abbrev rm_X5_dayOf : Room := { frames := 1, cells := 0, slots := 0, locals := 0 }
def wp_X5_dayOf (z : Nat × Nat) (S : mmS) (p0 : Int32) (Q : Int32 → mmS → Prop) (X : String → mmS → Prop) : Prop := Q (p0 / (1440 : Int32)) S
set_option maxHeartbeats 4000000 in
set_option maxRecDepth 100000 in
theorem met_X5_dayOf (l : Launch) (hl0 : l.stackTraces = false) (g : mG) (S : mmS) (p0 : Int32) (Q : Int32 → mmS → Prop) (X : String → mmS → Prop) (hw : wp_X5_dayOf g.2.2.2.2.2 S p0 Q X) : mMi l g yX5_dayOf (wA_ yX5_dayOf cX5_dayOf 1 (some .int)) rm_X5_dayOf [.int p0] S Q X := by
  refine m_of (y := yX5_dayOf) (cc := cX5_dayOf) (maxL := 1) (ret := (some .int)) (by decide) rfl (Nat.le_of_ble_eq_true rfl) ?_
  intro p e s m args below meth c ls hC hrt hlk hmn hnx hs hH hl
  have hC : CallFix p m c cX5_dayOf 1 s args (wA_ yX5_dayOf cX5_dayOf 1 (some .int)) RX5 := hC
  have hl : lv_has ls 1 [(0, .int p0)] := hl
  unfold wp_X5_dayOf at hw
  refine lv_iload_n hC.1 hC.2.1 dX5_dayOf_0 rfl (lv_at hl 0 rfl) ?_
  refine lv_sipush (v := 1440) hC.1 hC.2.1 dX5_dayOf_1 (by decide) ?_
  refine lv_idiv hC.1 hC.2.1 dX5_dayOf_4 (by decide) ?_
  exact m_reti hC hH hrt rfl hlk (Nat.le_of_ble_eq_true rfl) (Nat.le_of_ble_eq_true rfl) dX5_dayOf_5 hw
abbrev rm_X5_isInPeak : Room := { frames := 2, cells := 0, slots := 0, locals := 22 }
def wp_X5_isInPeak (z : Nat × Nat) (S : mmS) (p0 : Nat) (p1 : Int32) (Q : Int32 → mmS → Prop) (X : String → mmS → Prop) : Prop := (p0 ∈ mL S ∧ mK S p0 = 5) ∧ ∃ b2 : Nat, mR S 17 p0 = some b2 ∧ (b2 ∈ mL S ∧ mK S b2 = 7) ∧ vp_in (((4 : Int32) * p1) + (1 : Int32)) (mN S b2) ∧ ∀ v6 : Int32, v6 = (mA S b2 (((4 : Int32) * p1) + (1 : Int32)).toNatClampNeg) → wp_X5_dayOf z S v6 (fun r8 S7 => ((5 : Int32) ≤ (r8 - r8 / (7 : Int32) * (7 : Int32)) → Q (0 : Int32) S7) ∧ (¬ (5 : Int32) ≤ (r8 - r8 / (7 : Int32) * (7 : Int32)) → (p0 ∈ mL S7 ∧ mK S7 p0 = 5) ∧ wp_X5_isIn z S7 (v6 - v6 / (1440 : Int32) * (1440 : Int32)) (mI S7 28 p0) (mI S7 29 p0) (fun r11 S10 => (r11 = 0 → Q (0 : Int32) S10) ∧ (¬ r11 = 0 → Q (1 : Int32) S10)) X)) X
set_option maxHeartbeats 4000000 in
set_option maxRecDepth 100000 in
theorem met_X5_isInPeak (l : Launch) (hl0 : l.stackTraces = false) (g : mG) (S : mmS) (p0 : Nat) (p1 : Int32) (Q : Int32 → mmS → Prop) (X : String → mmS → Prop) (hw : wp_X5_isInPeak g.2.2.2.2.2 S p0 p1 Q X) : mMi l g yX5_isInPeak (wA_ yX5_isInPeak cX5_isInPeak 3 (some .boolean)) rm_X5_isInPeak [.ref p0, .int p1] S Q X := by
  refine m_of (y := yX5_isInPeak) (cc := cX5_isInPeak) (maxL := 3) (ret := (some .boolean)) (by decide) rfl (Nat.le_of_ble_eq_true rfl) ?_
  intro p e s m args below meth c ls hC hrt hlk hmn hnx hs hH hl
  have hC : CallFix p m c cX5_isInPeak 3 s args (wA_ yX5_isInPeak cX5_isInPeak 3 (some .boolean)) RX5 := hC
  have hl : lv_has ls 3 [(0, .ref p0), (1, .int p1)] := hl
  unfold wp_X5_isInPeak at hw
  refine lv_aload_n hC.1 hC.2.1 dX5_isInPeak_0 rfl (lv_at hl 0 rfl) ?_
  obtain ⟨k1, hw⟩ := hw
  obtain ⟨b2, r3, hw⟩ := hw
  refine m_getR hC hs hH cs5 fs5_9 (fun _ h => List.mem_cons_of_mem _ (inlX5 _ h)) (List.mem_cons_of_mem _ q_47) (fun _ h => h) k1 r3 dX5_isInPeak_1 ?_
  refine lv_iconst (v := 4) hC.1 hC.2.1 dX5_isInPeak_4 (by decide) ?_
  refine lv_iload_n hC.1 hC.2.1 dX5_isInPeak_5 rfl (lv_at hl 1 rfl) ?_
  refine lv_imul hC.1 hC.2.1 dX5_isInPeak_6 ?_
  refine lv_iconst (v := 1) hC.1 hC.2.1 dX5_isInPeak_7 (by decide) ?_
  refine lv_iadd hC.1 hC.2.1 dX5_isInPeak_8 ?_
  obtain ⟨k4, hw⟩ := hw
  obtain ⟨i5, hw⟩ := hw
  refine m_iald hC hs hH k4 i5 dX5_isInPeak_9 ?_
  have hw := hw _ rfl
  refine lv_istore_n (lv' := [(2, .int _), (0, .ref _), (1, .int _)]) hC.1 hC.2.1 dX5_isInPeak_10 rfl hl (by decide) rfl (fun ls hl => ?_)
  refine lv_iload_n hC.1 hC.2.1 dX5_isInPeak_11 rfl (lv_at hl 0 rfl) ?_
  refine m_callSi (y := yX5_dayOf) (rest := []) hC hs hH hl.1 (va_cwS 1 hC.2.2.2.2 (gA_S q_495 q_496 q_5 q_497) rfl rfl rfl (by decide +kernel) ⟨Nat.le_of_ble_eq_true rfl, Nat.le_of_ble_eq_true rfl⟩) (met_X5_dayOf l hl0 g _ _ _ _ hw) rfl rfl (Nat.le_of_ble_eq_true rfl) dX5_isInPeak_12 ⟨Nat.le_of_ble_eq_true rfl, Nat.le_of_ble_eq_true rfl⟩ (m_out (fun x hx => (hnx x hx).elim) hlk (Nat.le_of_ble_eq_true rfl) (Nat.le_of_ble_eq_true rfl)) (fun r8 S1 H locs hw hH => ?_)
  refine W.widen (k := 0) (n := 0) (Nat.le_of_ble_eq_true rfl) (Nat.le_of_ble_eq_true rfl) ?_
  refine lv_bipush (v := 7) hC.1 hC.2.1 dX5_isInPeak_15 (by decide) ?_
  refine lv_irem hC.1 hC.2.1 dX5_isInPeak_17 (by decide) ?_
  refine lv_iconst (v := 5) hC.1 hC.2.1 dX5_isInPeak_18 (by decide) ?_
  refine lv_icmp_ge (tgt := 45) hC.1 hC.2.1 dX5_isInPeak_19 (by decide) (fun hc => ?_) (fun hc => ?_)
  · have hw := hw.1 hc
    refine lv_iconst (v := 0) hC.1 hC.2.1 dX5_isInPeak_45 (by decide) ?_
    exact m_reti hC hH hrt rfl hlk (Nat.le_of_ble_eq_true rfl) (Nat.le_of_ble_eq_true rfl) dX5_isInPeak_46 hw
  · have hw := hw.2 hc
    refine lv_iload_n hC.1 hC.2.1 dX5_isInPeak_22 rfl (lv_at hl 0 rfl) ?_
    refine lv_sipush (v := 1440) hC.1 hC.2.1 dX5_isInPeak_23 (by decide) ?_
    refine lv_irem hC.1 hC.2.1 dX5_isInPeak_26 (by decide) ?_
    refine lv_aload_n hC.1 hC.2.1 dX5_isInPeak_27 rfl (lv_at hl 1 rfl) ?_
    obtain ⟨k9, hw⟩ := hw
    refine m_getI hC hs hH cs5 fs5_10 (fun _ h => List.mem_cons_of_mem _ (inlX5 _ h)) (List.mem_cons_of_mem _ q_48) (fun _ h => h) k9 dX5_isInPeak_28 ?_
    refine lv_aload_n hC.1 hC.2.1 dX5_isInPeak_31 rfl (lv_at hl 1 rfl) ?_
    refine m_getI hC hs hH cs5 fs5_11 (fun _ h => List.mem_cons_of_mem _ (inlX5 _ h)) (List.mem_cons_of_mem _ q_49) (fun _ h => h) k9 dX5_isInPeak_32 ?_
    refine m_callSi (y := yX5_isIn) (rest := []) hC hs hH hl.1 (va_cwS 3 hC.2.2.2.2 (gA_S q_156 q_157 q_5 q_158) rfl rfl rfl (by decide +kernel) ⟨Nat.le_of_ble_eq_true rfl, Nat.le_of_ble_eq_true rfl⟩) (met_X5_isIn l hl0 g _ _ _ _ _ _ hw) rfl rfl (Nat.le_of_ble_eq_true rfl) dX5_isInPeak_35 ⟨Nat.le_of_ble_eq_true rfl, Nat.le_of_ble_eq_true rfl⟩ (m_out (fun x hx => (hnx x hx).elim) hlk (Nat.le_of_ble_eq_true rfl) (Nat.le_of_ble_eq_true rfl)) (fun r11 S1 H locs hw hH => ?_)
    refine W.widen (k := 0) (n := 0) (Nat.le_of_ble_eq_true rfl) (Nat.le_of_ble_eq_true rfl) ?_
    refine lv_if_eq (tgt := 45) hC.1 hC.2.1 dX5_isInPeak_38 (by decide) (fun hc => ?_) (fun hc => ?_)
    · have hw := hw.1 hc
      refine lv_iconst (v := 0) hC.1 hC.2.1 dX5_isInPeak_45 (by decide) ?_
      exact m_reti hC hH hrt rfl hlk (Nat.le_of_ble_eq_true rfl) (Nat.le_of_ble_eq_true rfl) dX5_isInPeak_46 hw
    · have hw := hw.2 hc
      refine lv_iconst (v := 1) hC.1 hC.2.1 dX5_isInPeak_41 (by decide) ?_
      refine lv_goto (tgt := 46) hC.1 hC.2.1 dX5_isInPeak_42 (by decide) ?_
      exact m_reti hC hH hrt rfl hlk (Nat.le_of_ble_eq_true rfl) (Nat.le_of_ble_eq_true rfl) dX5_isInPeak_46 hw
abbrev rm_X5_isPeak : Room := { frames := 3, cells := 0, slots := 0, locals := 44 }
def bk_X5_isPeak_14 (z : Nat × Nat) (Q : Int32 → mmS → Prop) (X : String → mmS → Prop) (S : mmS) (x0 : Nat) (x1 : Int32) (t0 : Nat) (t1 : Int32) : Prop := (t0 ∈ mL S ∧ mK S t0 = 5) ∧ ∀ S2 : mmS, S2 = sI S 23 t0 t1 → (x0 ∈ mL S2 ∧ mK S2 x0 = 5) ∧ (¬ (mI S2 23 x0) = 0 → Q (0 : Int32) S2) ∧ ((mI S2 23 x0) = 0 → wp_X5_isInPeak z S2 x0 x1 (fun r5 S4 => (r5 = 0 → Q (0 : Int32) S4) ∧ (¬ r5 = 0 → Q (1 : Int32) S4)) X)
def wp_X5_isPeak (z : Nat × Nat) (S : mmS) (p0 : Nat) (p1 : Int32) (Q : Int32 → mmS → Prop) (X : String → mmS → Prop) : Prop := (p0 ∈ mL S ∧ mK S p0 = 5) ∧ wp_X5_isCall z S p0 p1 (fun r3 S1 => (r3 = 0 → bk_X5_isPeak_14 z Q X S1 p0 p1 p0 (1 : Int32)) ∧ (¬ r3 = 0 → bk_X5_isPeak_14 z Q X S1 p0 p1 p0 (0 : Int32))) X
set_option maxHeartbeats 4000000 in
set_option maxRecDepth 100000 in
theorem bw_X5_isPeak_14 {p : Program} {l : Launch} {e : Env} {s : State} {m : MethodId} {args : Array Value} {below : List Frame} {meth : Method} {c : Code} {g : mG} {Q : Int32 → mmS → Prop} {X : String → mmS → Prop} (hl0 : l.stackTraces = false) (hC : CallFix p m c cX5_isPeak 2 s args (wA_ yX5_isPeak cX5_isPeak 2 (some .boolean)) RX5) (hrt : meth.sig.returnType = (some .boolean)) (hlk : meth.locks = false) (hmn : meth.name = yX5_isPeak.name) (hnx : ∀ x ∈ c.exceptionTable.toList, False) (hs : mX g s) : ∀ (S : mmS) (x0 : Nat) (x1 : Int32) (t0 : Nat) (t1 : Int32), bk_X5_isPeak_14 g.2.2.2.2.2 Q X S x0 x1 t0 t1 → ∀ (H : Heap) (locs : List Loc), mH g S s H locs → ∀ ls : Array Slot, lv_has ls 2 [(0, .ref x0), (1, .int x1)] → W p l e rm_X5_isPeak s m args below meth c H locs 0 0 (vx_MQ below (va_Qi Q (wO g) (mB g)) (vx_X (fun _ : mmS => True) (fun E S1 t => X E S1 ∧ wO g S1 t) (mB g)) args s rm_X5_isPeak.cells rm_X5_isPeak.slots (mB g)) (F0 m 14 ls [.int t1, .ref t0]) := by
  intro S x0 x1 t0 t1 hw H locs hH ls hl
  unfold bk_X5_isPeak_14 at hw
  obtain ⟨k1, hw⟩ := hw
  have hw := hw _ rfl
  refine m_putI hC hs hH cs5 fs5_0 (fun _ h => List.mem_cons_of_mem _ (inlX5 _ h)) (List.mem_cons_of_mem _ q_153) (fun _ h => h) (Or.inl rfl) rfl k1 dX5_isPeak_14 (fun H locs hH => ?_)
  refine lv_aload_n hC.1 hC.2.1 dX5_isPeak_17 rfl (lv_at hl 0 rfl) ?_
  obtain ⟨k3, hw⟩ := hw
  refine m_getI hC hs hH cs5 fs5_0 (fun _ h => List.mem_cons_of_mem _ (inlX5 _ h)) (List.mem_cons_of_mem _ q_153) (fun _ h => h) k3 dX5_isPeak_18 ?_
  refine lv_if_ne (tgt := 36) hC.1 hC.2.1 dX5_isPeak_21 (by decide) (fun hc => ?_) (fun hc => ?_)
  · have hw := hw.1 hc
    refine lv_iconst (v := 0) hC.1 hC.2.1 dX5_isPeak_36 (by decide) ?_
    exact m_reti hC hH hrt rfl hlk (Nat.le_of_ble_eq_true rfl) (Nat.le_of_ble_eq_true rfl) dX5_isPeak_37 hw
  · have hw := hw.2 hc
    refine lv_aload_n hC.1 hC.2.1 dX5_isPeak_24 rfl (lv_at hl 0 rfl) ?_
    refine lv_iload_n hC.1 hC.2.1 dX5_isPeak_25 rfl (lv_at hl 1 rfl) ?_
    refine m_callVi (y := yX5_isInPeak) (rest := []) hC hs hH hl.1 (cwV 1 hC.2.2.2.2 (gA_V q_491 q_492 q_493 q_5 q_494) rfl rfl rfl (by decide +kernel) ⟨Nat.le_of_ble_eq_true rfl, Nat.le_of_ble_eq_true rfl⟩) cs5 k3 (met_X5_isInPeak l hl0 g _ _ _ _ _ hw) rfl rfl (Nat.le_of_ble_eq_true rfl) dX5_isPeak_26 ⟨Nat.le_of_ble_eq_true rfl, Nat.le_of_ble_eq_true rfl⟩ (m_out (fun x hx => (hnx x hx).elim) hlk (Nat.le_of_ble_eq_true rfl) (Nat.le_of_ble_eq_true rfl)) (fun r5 S1 H locs hw hH => ?_)
    refine W.widen (k := 0) (n := 0) (Nat.le_of_ble_eq_true rfl) (Nat.le_of_ble_eq_true rfl) ?_
    refine lv_if_eq (tgt := 36) hC.1 hC.2.1 dX5_isPeak_29 (by decide) (fun hc => ?_) (fun hc => ?_)
    · have hw := hw.1 hc
      refine lv_iconst (v := 0) hC.1 hC.2.1 dX5_isPeak_36 (by decide) ?_
      exact m_reti hC hH hrt rfl hlk (Nat.le_of_ble_eq_true rfl) (Nat.le_of_ble_eq_true rfl) dX5_isPeak_37 hw
    · have hw := hw.2 hc
      refine lv_iconst (v := 1) hC.1 hC.2.1 dX5_isPeak_32 (by decide) ?_
      refine lv_goto (tgt := 37) hC.1 hC.2.1 dX5_isPeak_33 (by decide) ?_
      exact m_reti hC hH hrt rfl hlk (Nat.le_of_ble_eq_true rfl) (Nat.le_of_ble_eq_true rfl) dX5_isPeak_37 hw
set_option maxHeartbeats 4000000 in
set_option maxRecDepth 100000 in
theorem met_X5_isPeak (l : Launch) (hl0 : l.stackTraces = false) (g : mG) (S : mmS) (p0 : Nat) (p1 : Int32) (Q : Int32 → mmS → Prop) (X : String → mmS → Prop) (hw : wp_X5_isPeak g.2.2.2.2.2 S p0 p1 Q X) : mMi l g yX5_isPeak (wA_ yX5_isPeak cX5_isPeak 2 (some .boolean)) rm_X5_isPeak [.ref p0, .int p1] S Q X := by
  refine m_of (y := yX5_isPeak) (cc := cX5_isPeak) (maxL := 2) (ret := (some .boolean)) (by decide) rfl (Nat.le_of_ble_eq_true rfl) ?_
  intro p e s m args below meth c ls hC hrt hlk hmn hnx hs hH hl
  have hC : CallFix p m c cX5_isPeak 2 s args (wA_ yX5_isPeak cX5_isPeak 2 (some .boolean)) RX5 := hC
  have hl : lv_has ls 2 [(0, .ref p0), (1, .int p1)] := hl
  unfold wp_X5_isPeak at hw
  refine lv_aload_n hC.1 hC.2.1 dX5_isPeak_0 rfl (lv_at hl 0 rfl) ?_
  refine lv_aload_n hC.1 hC.2.1 dX5_isPeak_1 rfl (lv_at hl 0 rfl) ?_
  refine lv_iload_n hC.1 hC.2.1 dX5_isPeak_2 rfl (lv_at hl 1 rfl) ?_
  obtain ⟨k2, hw⟩ := hw
  refine m_callVi (y := yX5_isCall) (rest := [.ref _]) hC hs hH hl.1 (cwV 1 hC.2.2.2.2 (gA_V q_456 q_457 q_458 q_5 q_459) rfl rfl rfl (by decide +kernel) ⟨Nat.le_of_ble_eq_true rfl, Nat.le_of_ble_eq_true rfl⟩) cs5 k2 (met_X5_isCall l hl0 g _ _ _ _ _ hw) rfl rfl (Nat.le_of_ble_eq_true rfl) dX5_isPeak_3 ⟨Nat.le_of_ble_eq_true rfl, Nat.le_of_ble_eq_true rfl⟩ (m_out (fun x hx => (hnx x hx).elim) hlk (Nat.le_of_ble_eq_true rfl) (Nat.le_of_ble_eq_true rfl)) (fun r3 S1 H locs hw hH => ?_)
  refine W.widen (k := 0) (n := 0) (Nat.le_of_ble_eq_true rfl) (Nat.le_of_ble_eq_true rfl) ?_
  refine lv_if_eq (tgt := 13) hC.1 hC.2.1 dX5_isPeak_6 (by decide) (fun hc => ?_) (fun hc => ?_)
  · have hw := hw.1 hc
    refine lv_iconst (v := 1) hC.1 hC.2.1 dX5_isPeak_13 (by decide) ?_
    exact bw_X5_isPeak_14 hl0 hC hrt hlk hmn hnx hs _ _ _ _ _ hw _ _ hH _ (lv_sub hl [0, 1] rfl)
  · have hw := hw.2 hc
    refine lv_iconst (v := 0) hC.1 hC.2.1 dX5_isPeak_9 (by decide) ?_
    refine lv_goto (tgt := 14) hC.1 hC.2.1 dX5_isPeak_10 (by decide) ?_
    exact bw_X5_isPeak_14 hl0 hC hrt hlk hmn hnx hs _ _ _ _ _ hw _ _ hH _ (lv_sub hl [0, 1] rfl)
abbrev rm_X5_earlier : Room := { frames := 2, cells := 0, slots := 0, locals := 24 }
def bk_X5_earlier_144 (z : Nat × Nat) (Q : Int32 → mmS → Prop) (X : String → mmS → Prop) (K12 : mmS → Nat → Int32 → Int32 → Int32 → Int32 → Prop) (S : mmS) (x0 : Nat) (x1 : Int32) (x2 : Int32) (x3 : Int32) (x4 : Int32) : Prop := ∀ v1 : Int32, v1 = x4 + 1 → K12 S x0 x1 x2 x3 v1
def bk_X5_earlier_106 (z : Nat × Nat) (Q : Int32 → mmS → Prop) (X : String → mmS → Prop) (K12 : mmS → Nat → Int32 → Int32 → Int32 → Int32 → Prop) (S : mmS) (x0 : Nat) (x1 : Int32) (x2 : Int32) (x3 : Int32) (x4 : Int32) (x5 : Int32) (t0 : Int32) : Prop := (t0 = 0 → bk_X5_earlier_144 z Q X K12 S x0 x1 x2 x3 x4) ∧ (¬ t0 = 0 → (x0 ∈ mL S ∧ mK S x0 = 5) ∧ ∃ b2 : Nat, mR S 17 x0 = some b2 ∧ (b2 ∈ mL S ∧ mK S b2 = 7) ∧ vp_in (((4 : Int32) * x5) + (2 : Int32)) (mN S b2) ∧ (¬ (mA S b2 (((4 : Int32) * x5) + (2 : Int32)).toNatClampNeg) = 0 → ∃ b6 : Nat, mR S 19 x0 = some b6 ∧ (b6 ∈ mL S ∧ mK S b6 = 7) ∧ vp_in x5 (mN S b6) ∧ ∀ v10 : Int32, v10 = ((if x3 < (0 : Int32) then (0 : Int32) else x3) + (mA S b6 (x5).toNatClampNeg)) → bk_X5_earlier_144 z Q X K12 S x0 x1 x2 v10 x4) ∧ ((mA S b2 (((4 : Int32) * x5) + (2 : Int32)).toNatClampNeg) = 0 → bk_X5_earlier_144 z Q X K12 S x0 x1 x2 x3 x4))
def bk_X5_earlier_105 (z : Nat × Nat) (Q : Int32 → mmS → Prop) (X : String → mmS → Prop) (K12 : mmS → Nat → Int32 → Int32 → Int32 → Int32 → Prop) (S : mmS) (x0 : Nat) (x1 : Int32) (x2 : Int32) (x3 : Int32) (x4 : Int32) (x5 : Int32) : Prop := bk_X5_earlier_106 z Q X K12 S x0 x1 x2 x3 x4 x5 (0 : Int32)
def bk_X5_earlier_12 (z : Nat × Nat) (Q : Int32 → mmS → Prop) (X : String → mmS → Prop) (K12 : mmS → Nat → Int32 → Int32 → Int32 → Int32 → Prop) (S : mmS) (x0 : Nat) (x1 : Int32) (x2 : Int32) (x3 : Int32) (x4 : Int32) : Prop := (x1 ≤ x4 → Q x3 S) ∧ (¬ x1 ≤ x4 → (x0 ∈ mL S ∧ mK S x0 = 5) ∧ ∃ b2 : Nat, mR S 18 x0 = some b2 ∧ (b2 ∈ mL S ∧ mK S b2 = 7) ∧ vp_in x4 (mN S b2) ∧ ∀ v6 : Int32, v6 = (mA S b2 (x4).toNatClampNeg) → ∃ b7 : Nat, mR S 17 x0 = some b7 ∧ (b7 ∈ mL S ∧ mK S b7 = 7) ∧ vp_in ((4 : Int32) * v6) (mN S b7) ∧ ∃ b11 : Nat, mR S 17 x0 = some b11 ∧ (b11 ∈ mL S ∧ mK S b11 = 7) ∧ vp_in ((4 : Int32) * x2) (mN S b11) ∧ (¬ (mA S b7 ((4 : Int32) * v6).toNatClampNeg) = (mA S b11 ((4 : Int32) * x2).toNatClampNeg) → bk_X5_earlier_105 z Q X K12 S x0 x1 x2 x3 x4 v6) ∧ ((mA S b7 ((4 : Int32) * v6).toNatClampNeg) = (mA S b11 ((4 : Int32) * x2).toNatClampNeg) → ∃ b15 : Nat, mR S 17 x0 = some b15 ∧ (b15 ∈ mL S ∧ mK S b15 = 7) ∧ vp_in (((4 : Int32) * v6) + (3 : Int32)) (mN S b15) ∧ ∃ b19 : Nat, mR S 17 x0 = some b19 ∧ (b19 ∈ mL S ∧ mK S b19 = 7) ∧ vp_in (((4 : Int32) * x2) + (3 : Int32)) (mN S b19) ∧ (¬ (mA S b15 (((4 : Int32) * v6) + (3 : Int32)).toNatClampNeg) = (mA S b19 (((4 : Int32) * x2) + (3 : Int32)).toNatClampNeg) → bk_X5_earlier_105 z Q X K12 S x0 x1 x2 x3 x4 v6) ∧ ((mA S b15 (((4 : Int32) * v6) + (3 : Int32)).toNatClampNeg) = (mA S b19 (((4 : Int32) * x2) + (3 : Int32)).toNatClampNeg) → ∃ b23 : Nat, mR S 17 x0 = some b23 ∧ (b23 ∈ mL S ∧ mK S b23 = 7) ∧ vp_in (((4 : Int32) * v6) + (1 : Int32)) (mN S b23) ∧ wp_X5_dayOf z S (mA S b23 (((4 : Int32) * v6) + (1 : Int32)).toNatClampNeg) (fun r28 S27 => (x0 ∈ mL S27 ∧ mK S27 x0 = 5) ∧ ∃ b30 : Nat, mR S27 17 x0 = some b30 ∧ (b30 ∈ mL S27 ∧ mK S27 b30 = 7) ∧ vp_in (((4 : Int32) * x2) + (1 : Int32)) (mN S27 b30) ∧ wp_X5_dayOf z S27 (mA S27 b30 (((4 : Int32) * x2) + (1 : Int32)).toNatClampNeg) (fun r35 S34 => (¬ r28 = r35 → bk_X5_earlier_105 z Q X K12 S34 x0 x1 x2 x3 x4 v6) ∧ (r28 = r35 → bk_X5_earlier_106 z Q X K12 S34 x0 x1 x2 x3 x4 v6 (1 : Int32))) X) X)))
def lp_X5_earlier_12 (z : Nat × Nat) (Q : Int32 → mmS → Prop) (X : String → mmS → Prop) : Nat → mmS → Nat → Int32 → Int32 → Int32 → Int32 → Prop
  | 0 => fun _ _ _ _ _ _ => False
  | n + 1 => bk_X5_earlier_12 z Q X (lp_X5_earlier_12 z Q X n)
def wp_X5_earlier (z : Nat × Nat) (S : mmS) (p0 : Nat) (p1 : Int32) (Q : Int32 → mmS → Prop) (X : String → mmS → Prop) : Prop := (p0 ∈ mL S ∧ mK S p0 = 5) ∧ ∃ b2 : Nat, mR S 18 p0 = some b2 ∧ (b2 ∈ mL S ∧ mK S b2 = 7) ∧ vp_in p1 (mN S b2) ∧ ∀ v6 : Int32, v6 = (mA S b2 (p1).toNatClampNeg) → ∀ v7 : Int32, v7 = (-1 : Int32) → ∀ v8 : Int32, v8 = (0 : Int32) → ∃ n : Nat, lp_X5_earlier_12 z Q X n S p0 p1 v6 v7 v8
set_option maxHeartbeats 4000000 in
set_option maxRecDepth 100000 in
theorem bw_X5_earlier_144 {p : Program} {l : Launch} {e : Env} {s : State} {m : MethodId} {args : Array Value} {below : List Frame} {meth : Method} {c : Code} {g : mG} {Q : Int32 → mmS → Prop} {X : String → mmS → Prop} (hl0 : l.stackTraces = false) (hC : CallFix p m c cX5_earlier 7 s args (wA_ yX5_earlier cX5_earlier 7 (some .int)) RX5) (hrt : meth.sig.returnType = (some .int)) (hlk : meth.locks = false) (hmn : meth.name = yX5_earlier.name) (hnx : ∀ x ∈ c.exceptionTable.toList, False) (hs : mX g s) {K12 : mmS → Nat → Int32 → Int32 → Int32 → Int32 → Prop} (hk12 : ∀ (S : mmS) (x0 : Nat) (x1 : Int32) (x2 : Int32) (x3 : Int32) (x4 : Int32), K12 S x0 x1 x2 x3 x4 → ∀ (H : Heap) (locs : List Loc), mH g S s H locs → ∀ ls : Array Slot, lv_has ls 7 [(0, .ref x0), (1, .int x1), (2, .int x2), (3, .int x3), (4, .int x4)] → W p l e rm_X5_earlier s m args below meth c H locs 0 0 (vx_MQ below (va_Qi Q (wO g) (mB g)) (vx_X (fun _ : mmS => True) (fun E S1 t => X E S1 ∧ wO g S1 t) (mB g)) args s rm_X5_earlier.cells rm_X5_earlier.slots (mB g)) (F0 m 12 ls [])) : ∀ (S : mmS) (x0 : Nat) (x1 : Int32) (x2 : Int32) (x3 : Int32) (x4 : Int32), bk_X5_earlier_144 g.2.2.2.2.2 Q X K12 S x0 x1 x2 x3 x4 → ∀ (H : Heap) (locs : List Loc), mH g S s H locs → ∀ ls : Array Slot, lv_has ls 7 [(0, .ref x0), (1, .int x1), (2, .int x2), (3, .int x3), (4, .int x4)] → W p l e rm_X5_earlier s m args below meth c H locs 0 0 (vx_MQ below (va_Qi Q (wO g) (mB g)) (vx_X (fun _ : mmS => True) (fun E S1 t => X E S1 ∧ wO g S1 t) (mB g)) args s rm_X5_earlier.cells rm_X5_earlier.slots (mB g)) (F0 m 144 ls []) := by
  intro S x0 x1 x2 x3 x4 hw H locs hH ls hl
  unfold bk_X5_earlier_144 at hw
  have hw := hw _ rfl
  refine lv_iinc (lv' := [(4, .int _), (0, .ref _), (1, .int _), (2, .int _), (3, .int _)]) hC.1 hC.2.1 dX5_earlier_144 hl (k := 4) rfl (rfl : (_ : Int32) + Int32.ofInt 1 = (_ : Int32) + 1) (by decide) rfl (fun ls hl => ?_)
  refine lv_goto (tgt := 12) hC.1 hC.2.1 dX5_earlier_147 (by decide) ?_
  exact hk12 _ _ _ _ _ _ hw _ _ hH _ (lv_sub hl [1, 2, 3, 4, 0] rfl)
set_option maxHeartbeats 4000000 in
set_option maxRecDepth 100000 in
theorem bw_X5_earlier_106 {p : Program} {l : Launch} {e : Env} {s : State} {m : MethodId} {args : Array Value} {below : List Frame} {meth : Method} {c : Code} {g : mG} {Q : Int32 → mmS → Prop} {X : String → mmS → Prop} (hl0 : l.stackTraces = false) (hC : CallFix p m c cX5_earlier 7 s args (wA_ yX5_earlier cX5_earlier 7 (some .int)) RX5) (hrt : meth.sig.returnType = (some .int)) (hlk : meth.locks = false) (hmn : meth.name = yX5_earlier.name) (hnx : ∀ x ∈ c.exceptionTable.toList, False) (hs : mX g s) {K12 : mmS → Nat → Int32 → Int32 → Int32 → Int32 → Prop} (hk12 : ∀ (S : mmS) (x0 : Nat) (x1 : Int32) (x2 : Int32) (x3 : Int32) (x4 : Int32), K12 S x0 x1 x2 x3 x4 → ∀ (H : Heap) (locs : List Loc), mH g S s H locs → ∀ ls : Array Slot, lv_has ls 7 [(0, .ref x0), (1, .int x1), (2, .int x2), (3, .int x3), (4, .int x4)] → W p l e rm_X5_earlier s m args below meth c H locs 0 0 (vx_MQ below (va_Qi Q (wO g) (mB g)) (vx_X (fun _ : mmS => True) (fun E S1 t => X E S1 ∧ wO g S1 t) (mB g)) args s rm_X5_earlier.cells rm_X5_earlier.slots (mB g)) (F0 m 12 ls [])) : ∀ (S : mmS) (x0 : Nat) (x1 : Int32) (x2 : Int32) (x3 : Int32) (x4 : Int32) (x5 : Int32) (t0 : Int32), bk_X5_earlier_106 g.2.2.2.2.2 Q X K12 S x0 x1 x2 x3 x4 x5 t0 → ∀ (H : Heap) (locs : List Loc), mH g S s H locs → ∀ ls : Array Slot, lv_has ls 7 [(0, .ref x0), (1, .int x1), (2, .int x2), (3, .int x3), (4, .int x4), (5, .int x5)] → W p l e rm_X5_earlier s m args below meth c H locs 0 0 (vx_MQ below (va_Qi Q (wO g) (mB g)) (vx_X (fun _ : mmS => True) (fun E S1 t => X E S1 ∧ wO g S1 t) (mB g)) args s rm_X5_earlier.cells rm_X5_earlier.slots (mB g)) (F0 m 106 ls [.int t0]) := by
  intro S x0 x1 x2 x3 x4 x5 t0 hw H locs hH ls hl
  unfold bk_X5_earlier_106 at hw
  refine lv_istore (lv' := [(6, .int _), (0, .ref _), (1, .int _), (2, .int _), (3, .int _), (4, .int _), (5, .int _)]) hC.1 hC.2.1 dX5_earlier_106 hl (by decide) rfl (fun ls hl => ?_)
  refine lv_iload hC.1 hC.2.1 dX5_earlier_108 (lv_at hl 0 rfl) ?_
  refine lv_if_eq (tgt := 144) hC.1 hC.2.1 dX5_earlier_110 (by decide) (fun hc => ?_) (fun hc => ?_)
  · have hw := hw.1 hc
    exact bw_X5_earlier_144 hl0 hC hrt hlk hmn hnx hs hk12 _ _ _ _ _ _ hw _ _ hH _ (lv_sub hl [1, 2, 3, 4, 5] rfl)
  · have hw := hw.2 hc
    refine lv_aload_n hC.1 hC.2.1 dX5_earlier_113 rfl (lv_at hl 1 rfl) ?_
    obtain ⟨k1, hw⟩ := hw
    obtain ⟨b2, r3, hw⟩ := hw
    refine m_getR hC hs hH cs5 fs5_9 (fun _ h => List.mem_cons_of_mem _ (inlX5 _ h)) (List.mem_cons_of_mem _ q_47) (fun _ h => h) k1 r3 dX5_earlier_114 ?_
    refine lv_iconst (v := 4) hC.1 hC.2.1 dX5_earlier_117 (by decide) ?_
    refine lv_iload hC.1 hC.2.1 dX5_earlier_118 (lv_at hl 6 rfl) ?_
    refine lv_imul hC.1 hC.2.1 dX5_earlier_120 ?_
    refine lv_iconst (v := 2) hC.1 hC.2.1 dX5_earlier_121 (by decide) ?_
    refine lv_iadd hC.1 hC.2.1 dX5_earlier_122 ?_
    obtain ⟨k4, hw⟩ := hw
    obtain ⟨i5, hw⟩ := hw
    refine m_iald hC hs hH k4 i5 dX5_earlier_123 ?_
    refine lv_if_ne (tgt := 130) hC.1 hC.2.1 dX5_earlier_124 (by decide) (fun hc => ?_) (fun hc => ?_)
    · have hw := hw.1 hc
      refine lv_iload_n hC.1 hC.2.1 dX5_earlier_130 rfl (lv_at hl 4 rfl) ?_
      refine lv_iconst (v := 0) hC.1 hC.2.1 dX5_earlier_131 (by decide) ?_
      refine m_max hC hl.1 (List.mem_cons_of_mem _ q_522) (List.mem_cons_of_mem _ q_116) (List.mem_cons_of_mem _ q_117) (List.mem_cons_of_mem _ q_118) (Nat.le_of_ble_eq_true rfl) (Nat.le_of_ble_eq_true rfl) (Nat.le_of_ble_eq_true rfl) (Nat.le_of_ble_eq_true rfl) dX5_earlier_132 ?_
      refine lv_aload_n hC.1 hC.2.1 dX5_earlier_135 rfl (lv_at hl 1 rfl) ?_
      obtain ⟨b6, r7, hw⟩ := hw
      refine m_getR hC hs hH cs5 fs5_13 (fun _ h => List.mem_cons_of_mem _ (inlX5 _ h)) (List.mem_cons_of_mem _ q_51) (fun _ h => h) k1 r7 dX5_earlier_136 ?_
      refine lv_iload hC.1 hC.2.1 dX5_earlier_139 (lv_at hl 6 rfl) ?_
      obtain ⟨k8, hw⟩ := hw
      obtain ⟨i9, hw⟩ := hw
      refine m_iald hC hs hH k8 i9 dX5_earlier_141 ?_
      refine lv_iadd hC.1 hC.2.1 dX5_earlier_142 ?_
      have hw := hw _ rfl
      refine lv_istore_n (lv' := [(3, .int _), (6, .int _), (0, .ref _), (1, .int _), (2, .int _), (4, .int _), (5, .int _)]) hC.1 hC.2.1 dX5_earlier_143 rfl hl (by decide) rfl (fun ls hl => ?_)
      exact bw_X5_earlier_144 hl0 hC hrt hlk hmn hnx hs hk12 _ _ _ _ _ _ hw _ _ hH _ (lv_sub hl [2, 3, 4, 0, 5] rfl)
    · have hw := hw.2 hc
      refine lv_goto (tgt := 144) hC.1 hC.2.1 dX5_earlier_127 (by decide) ?_
      exact bw_X5_earlier_144 hl0 hC hrt hlk hmn hnx hs hk12 _ _ _ _ _ _ hw _ _ hH _ (lv_sub hl [1, 2, 3, 4, 5] rfl)
set_option maxHeartbeats 4000000 in
set_option maxRecDepth 100000 in
theorem bw_X5_earlier_105 {p : Program} {l : Launch} {e : Env} {s : State} {m : MethodId} {args : Array Value} {below : List Frame} {meth : Method} {c : Code} {g : mG} {Q : Int32 → mmS → Prop} {X : String → mmS → Prop} (hl0 : l.stackTraces = false) (hC : CallFix p m c cX5_earlier 7 s args (wA_ yX5_earlier cX5_earlier 7 (some .int)) RX5) (hrt : meth.sig.returnType = (some .int)) (hlk : meth.locks = false) (hmn : meth.name = yX5_earlier.name) (hnx : ∀ x ∈ c.exceptionTable.toList, False) (hs : mX g s) {K12 : mmS → Nat → Int32 → Int32 → Int32 → Int32 → Prop} (hk12 : ∀ (S : mmS) (x0 : Nat) (x1 : Int32) (x2 : Int32) (x3 : Int32) (x4 : Int32), K12 S x0 x1 x2 x3 x4 → ∀ (H : Heap) (locs : List Loc), mH g S s H locs → ∀ ls : Array Slot, lv_has ls 7 [(0, .ref x0), (1, .int x1), (2, .int x2), (3, .int x3), (4, .int x4)] → W p l e rm_X5_earlier s m args below meth c H locs 0 0 (vx_MQ below (va_Qi Q (wO g) (mB g)) (vx_X (fun _ : mmS => True) (fun E S1 t => X E S1 ∧ wO g S1 t) (mB g)) args s rm_X5_earlier.cells rm_X5_earlier.slots (mB g)) (F0 m 12 ls [])) : ∀ (S : mmS) (x0 : Nat) (x1 : Int32) (x2 : Int32) (x3 : Int32) (x4 : Int32) (x5 : Int32), bk_X5_earlier_105 g.2.2.2.2.2 Q X K12 S x0 x1 x2 x3 x4 x5 → ∀ (H : Heap) (locs : List Loc), mH g S s H locs → ∀ ls : Array Slot, lv_has ls 7 [(0, .ref x0), (1, .int x1), (2, .int x2), (3, .int x3), (4, .int x4), (5, .int x5)] → W p l e rm_X5_earlier s m args below meth c H locs 0 0 (vx_MQ below (va_Qi Q (wO g) (mB g)) (vx_X (fun _ : mmS => True) (fun E S1 t => X E S1 ∧ wO g S1 t) (mB g)) args s rm_X5_earlier.cells rm_X5_earlier.slots (mB g)) (F0 m 105 ls []) := by
  intro S x0 x1 x2 x3 x4 x5 hw H locs hH ls hl
  unfold bk_X5_earlier_105 at hw
  refine lv_iconst (v := 0) hC.1 hC.2.1 dX5_earlier_105 (by decide) ?_
  exact bw_X5_earlier_106 hl0 hC hrt hlk hmn hnx hs hk12 _ _ _ _ _ _ _ _ hw _ _ hH _ (lv_sub hl [0, 1, 2, 3, 4, 5] rfl)
set_option maxHeartbeats 4000000 in
set_option maxRecDepth 100000 in
theorem bw_X5_earlier_12 {p : Program} {l : Launch} {e : Env} {s : State} {m : MethodId} {args : Array Value} {below : List Frame} {meth : Method} {c : Code} {g : mG} {Q : Int32 → mmS → Prop} {X : String → mmS → Prop} (hl0 : l.stackTraces = false) (hC : CallFix p m c cX5_earlier 7 s args (wA_ yX5_earlier cX5_earlier 7 (some .int)) RX5) (hrt : meth.sig.returnType = (some .int)) (hlk : meth.locks = false) (hmn : meth.name = yX5_earlier.name) (hnx : ∀ x ∈ c.exceptionTable.toList, False) (hs : mX g s) {K12 : mmS → Nat → Int32 → Int32 → Int32 → Int32 → Prop} (hk12 : ∀ (S : mmS) (x0 : Nat) (x1 : Int32) (x2 : Int32) (x3 : Int32) (x4 : Int32), K12 S x0 x1 x2 x3 x4 → ∀ (H : Heap) (locs : List Loc), mH g S s H locs → ∀ ls : Array Slot, lv_has ls 7 [(0, .ref x0), (1, .int x1), (2, .int x2), (3, .int x3), (4, .int x4)] → W p l e rm_X5_earlier s m args below meth c H locs 0 0 (vx_MQ below (va_Qi Q (wO g) (mB g)) (vx_X (fun _ : mmS => True) (fun E S1 t => X E S1 ∧ wO g S1 t) (mB g)) args s rm_X5_earlier.cells rm_X5_earlier.slots (mB g)) (F0 m 12 ls [])) : ∀ (S : mmS) (x0 : Nat) (x1 : Int32) (x2 : Int32) (x3 : Int32) (x4 : Int32), bk_X5_earlier_12 g.2.2.2.2.2 Q X K12 S x0 x1 x2 x3 x4 → ∀ (H : Heap) (locs : List Loc), mH g S s H locs → ∀ ls : Array Slot, lv_has ls 7 [(0, .ref x0), (1, .int x1), (2, .int x2), (3, .int x3), (4, .int x4)] → W p l e rm_X5_earlier s m args below meth c H locs 0 0 (vx_MQ below (va_Qi Q (wO g) (mB g)) (vx_X (fun _ : mmS => True) (fun E S1 t => X E S1 ∧ wO g S1 t) (mB g)) args s rm_X5_earlier.cells rm_X5_earlier.slots (mB g)) (F0 m 12 ls []) := by
  intro S x0 x1 x2 x3 x4 hw H locs hH ls hl
  unfold bk_X5_earlier_12 at hw
  refine lv_iload hC.1 hC.2.1 dX5_earlier_12 (lv_at hl 4 rfl) ?_
  refine lv_iload_n hC.1 hC.2.1 dX5_earlier_14 rfl (lv_at hl 1 rfl) ?_
  refine lv_icmp_ge (tgt := 150) hC.1 hC.2.1 dX5_earlier_15 (by decide) (fun hc => ?_) (fun hc => ?_)
  · have hw := hw.1 hc
    refine lv_iload_n hC.1 hC.2.1 dX5_earlier_150 rfl (lv_at hl 3 rfl) ?_
    exact m_reti hC hH hrt rfl hlk (Nat.le_of_ble_eq_true rfl) (Nat.le_of_ble_eq_true rfl) dX5_earlier_151 hw
  · have hw := hw.2 hc
    refine lv_aload_n hC.1 hC.2.1 dX5_earlier_18 rfl (lv_at hl 0 rfl) ?_
    obtain ⟨k1, hw⟩ := hw
    obtain ⟨b2, r3, hw⟩ := hw
    refine m_getR hC hs hH cs5 fs5_12 (fun _ h => List.mem_cons_of_mem _ (inlX5 _ h)) (List.mem_cons_of_mem _ q_50) (fun _ h => h) k1 r3 dX5_earlier_19 ?_
    refine lv_iload hC.1 hC.2.1 dX5_earlier_22 (lv_at hl 4 rfl) ?_
    obtain ⟨k4, hw⟩ := hw
    obtain ⟨i5, hw⟩ := hw
    refine m_iald hC hs hH k4 i5 dX5_earlier_24 ?_
    have hw := hw _ rfl
    refine lv_istore (lv' := [(5, .int _), (0, .ref _), (1, .int _), (2, .int _), (3, .int _), (4, .int _)]) hC.1 hC.2.1 dX5_earlier_25 hl (by decide) rfl (fun ls hl => ?_)
    refine lv_aload_n hC.1 hC.2.1 dX5_earlier_27 rfl (lv_at hl 1 rfl) ?_
    obtain ⟨b7, r8, hw⟩ := hw
    refine m_getR hC hs hH cs5 fs5_9 (fun _ h => List.mem_cons_of_mem _ (inlX5 _ h)) (List.mem_cons_of_mem _ q_47) (fun _ h => h) k1 r8 dX5_earlier_28 ?_
    refine lv_iconst (v := 4) hC.1 hC.2.1 dX5_earlier_31 (by decide) ?_
    refine lv_iload hC.1 hC.2.1 dX5_earlier_32 (lv_at hl 0 rfl) ?_
    refine lv_imul hC.1 hC.2.1 dX5_earlier_34 ?_
    obtain ⟨k9, hw⟩ := hw
    obtain ⟨i10, hw⟩ := hw
    refine m_iald hC hs hH k9 i10 dX5_earlier_35 ?_
    refine lv_aload_n hC.1 hC.2.1 dX5_earlier_36 rfl (lv_at hl 1 rfl) ?_
    obtain ⟨b11, r12, hw⟩ := hw
    refine m_getR hC hs hH cs5 fs5_9 (fun _ h => List.mem_cons_of_mem _ (inlX5 _ h)) (List.mem_cons_of_mem _ q_47) (fun _ h => h) k1 r12 dX5_earlier_37 ?_
    refine lv_iconst (v := 4) hC.1 hC.2.1 dX5_earlier_40 (by decide) ?_
    refine lv_iload_n hC.1 hC.2.1 dX5_earlier_41 rfl (lv_at hl 3 rfl) ?_
    refine lv_imul hC.1 hC.2.1 dX5_earlier_42 ?_
    obtain ⟨k13, hw⟩ := hw
    obtain ⟨i14, hw⟩ := hw
    refine m_iald hC hs hH k13 i14 dX5_earlier_43 ?_
    refine lv_icmp_ne (tgt := 105) hC.1 hC.2.1 dX5_earlier_44 (by decide) (fun hc => ?_) (fun hc => ?_)
    · have hw := hw.1 hc
      exact bw_X5_earlier_105 hl0 hC hrt hlk hmn hnx hs hk12 _ _ _ _ _ _ _ hw _ _ hH _ (lv_sub hl [1, 2, 3, 4, 5, 0] rfl)
    · have hw := hw.2 hc
      refine lv_aload_n hC.1 hC.2.1 dX5_earlier_47 rfl (lv_at hl 1 rfl) ?_
      obtain ⟨b15, r16, hw⟩ := hw
      refine m_getR hC hs hH cs5 fs5_9 (fun _ h => List.mem_cons_of_mem _ (inlX5 _ h)) (List.mem_cons_of_mem _ q_47) (fun _ h => h) k1 r16 dX5_earlier_48 ?_
      refine lv_iconst (v := 4) hC.1 hC.2.1 dX5_earlier_51 (by decide) ?_
      refine lv_iload hC.1 hC.2.1 dX5_earlier_52 (lv_at hl 0 rfl) ?_
      refine lv_imul hC.1 hC.2.1 dX5_earlier_54 ?_
      refine lv_iconst (v := 3) hC.1 hC.2.1 dX5_earlier_55 (by decide) ?_
      refine lv_iadd hC.1 hC.2.1 dX5_earlier_56 ?_
      obtain ⟨k17, hw⟩ := hw
      obtain ⟨i18, hw⟩ := hw
      refine m_iald hC hs hH k17 i18 dX5_earlier_57 ?_
      refine lv_aload_n hC.1 hC.2.1 dX5_earlier_58 rfl (lv_at hl 1 rfl) ?_
      obtain ⟨b19, r20, hw⟩ := hw
      refine m_getR hC hs hH cs5 fs5_9 (fun _ h => List.mem_cons_of_mem _ (inlX5 _ h)) (List.mem_cons_of_mem _ q_47) (fun _ h => h) k1 r20 dX5_earlier_59 ?_
      refine lv_iconst (v := 4) hC.1 hC.2.1 dX5_earlier_62 (by decide) ?_
      refine lv_iload_n hC.1 hC.2.1 dX5_earlier_63 rfl (lv_at hl 3 rfl) ?_
      refine lv_imul hC.1 hC.2.1 dX5_earlier_64 ?_
      refine lv_iconst (v := 3) hC.1 hC.2.1 dX5_earlier_65 (by decide) ?_
      refine lv_iadd hC.1 hC.2.1 dX5_earlier_66 ?_
      obtain ⟨k21, hw⟩ := hw
      obtain ⟨i22, hw⟩ := hw
      refine m_iald hC hs hH k21 i22 dX5_earlier_67 ?_
      refine lv_icmp_ne (tgt := 105) hC.1 hC.2.1 dX5_earlier_68 (by decide) (fun hc => ?_) (fun hc => ?_)
      · have hw := hw.1 hc
        exact bw_X5_earlier_105 hl0 hC hrt hlk hmn hnx hs hk12 _ _ _ _ _ _ _ hw _ _ hH _ (lv_sub hl [1, 2, 3, 4, 5, 0] rfl)
      · have hw := hw.2 hc
        refine lv_aload_n hC.1 hC.2.1 dX5_earlier_71 rfl (lv_at hl 1 rfl) ?_
        obtain ⟨b23, r24, hw⟩ := hw
        refine m_getR hC hs hH cs5 fs5_9 (fun _ h => List.mem_cons_of_mem _ (inlX5 _ h)) (List.mem_cons_of_mem _ q_47) (fun _ h => h) k1 r24 dX5_earlier_72 ?_
        refine lv_iconst (v := 4) hC.1 hC.2.1 dX5_earlier_75 (by decide) ?_
        refine lv_iload hC.1 hC.2.1 dX5_earlier_76 (lv_at hl 0 rfl) ?_
        refine lv_imul hC.1 hC.2.1 dX5_earlier_78 ?_
        refine lv_iconst (v := 1) hC.1 hC.2.1 dX5_earlier_79 (by decide) ?_
        refine lv_iadd hC.1 hC.2.1 dX5_earlier_80 ?_
        obtain ⟨k25, hw⟩ := hw
        obtain ⟨i26, hw⟩ := hw
        refine m_iald hC hs hH k25 i26 dX5_earlier_81 ?_
        refine m_callSi (y := yX5_dayOf) (rest := []) hC hs hH hl.1 (va_cwS 1 hC.2.2.2.2 (gA_S q_495 q_496 q_5 q_497) rfl rfl rfl (by decide +kernel) ⟨Nat.le_of_ble_eq_true rfl, Nat.le_of_ble_eq_true rfl⟩) (met_X5_dayOf l hl0 g _ _ _ _ hw) rfl rfl (Nat.le_of_ble_eq_true rfl) dX5_earlier_82 ⟨Nat.le_of_ble_eq_true rfl, Nat.le_of_ble_eq_true rfl⟩ (m_out (fun x hx => (hnx x hx).elim) hlk (Nat.le_of_ble_eq_true rfl) (Nat.le_of_ble_eq_true rfl)) (fun r28 S1 H locs hw hH => ?_)
        refine W.widen (k := 0) (n := 0) (Nat.le_of_ble_eq_true rfl) (Nat.le_of_ble_eq_true rfl) ?_
        refine lv_aload_n hC.1 hC.2.1 dX5_earlier_85 rfl (lv_at hl 1 rfl) ?_
        obtain ⟨k29, hw⟩ := hw
        obtain ⟨b30, r31, hw⟩ := hw
        refine m_getR hC hs hH cs5 fs5_9 (fun _ h => List.mem_cons_of_mem _ (inlX5 _ h)) (List.mem_cons_of_mem _ q_47) (fun _ h => h) k29 r31 dX5_earlier_86 ?_
        refine lv_iconst (v := 4) hC.1 hC.2.1 dX5_earlier_89 (by decide) ?_
        refine lv_iload_n hC.1 hC.2.1 dX5_earlier_90 rfl (lv_at hl 3 rfl) ?_
        refine lv_imul hC.1 hC.2.1 dX5_earlier_91 ?_
        refine lv_iconst (v := 1) hC.1 hC.2.1 dX5_earlier_92 (by decide) ?_
        refine lv_iadd hC.1 hC.2.1 dX5_earlier_93 ?_
        obtain ⟨k32, hw⟩ := hw
        obtain ⟨i33, hw⟩ := hw
        refine m_iald hC hs hH k32 i33 dX5_earlier_94 ?_
        refine m_callSi (y := yX5_dayOf) (rest := [.int _]) hC hs hH hl.1 (va_cwS 1 hC.2.2.2.2 (gA_S q_495 q_496 q_5 q_497) rfl rfl rfl (by decide +kernel) ⟨Nat.le_of_ble_eq_true rfl, Nat.le_of_ble_eq_true rfl⟩) (met_X5_dayOf l hl0 g _ _ _ _ hw) rfl rfl (Nat.le_of_ble_eq_true rfl) dX5_earlier_95 ⟨Nat.le_of_ble_eq_true rfl, Nat.le_of_ble_eq_true rfl⟩ (m_out (fun x hx => (hnx x hx).elim) hlk (Nat.le_of_ble_eq_true rfl) (Nat.le_of_ble_eq_true rfl)) (fun r35 S1 H locs hw hH => ?_)
        refine W.widen (k := 0) (n := 0) (Nat.le_of_ble_eq_true rfl) (Nat.le_of_ble_eq_true rfl) ?_
        refine lv_icmp_ne (tgt := 105) hC.1 hC.2.1 dX5_earlier_98 (by decide) (fun hc => ?_) (fun hc => ?_)
        · have hw := hw.1 hc
          exact bw_X5_earlier_105 hl0 hC hrt hlk hmn hnx hs hk12 _ _ _ _ _ _ _ hw _ _ hH _ (lv_sub hl [1, 2, 3, 4, 5, 0] rfl)
        · have hw := hw.2 hc
          refine lv_iconst (v := 1) hC.1 hC.2.1 dX5_earlier_101 (by decide) ?_
          refine lv_goto (tgt := 106) hC.1 hC.2.1 dX5_earlier_102 (by decide) ?_
          exact bw_X5_earlier_106 hl0 hC hrt hlk hmn hnx hs hk12 _ _ _ _ _ _ _ _ hw _ _ hH _ (lv_sub hl [1, 2, 3, 4, 5, 0] rfl)
theorem lw_X5_earlier_12 {p : Program} {l : Launch} {e : Env} {s : State} {m : MethodId} {args : Array Value} {below : List Frame} {meth : Method} {c : Code} {g : mG} {Q : Int32 → mmS → Prop} {X : String → mmS → Prop} (hl0 : l.stackTraces = false) (hC : CallFix p m c cX5_earlier 7 s args (wA_ yX5_earlier cX5_earlier 7 (some .int)) RX5) (hrt : meth.sig.returnType = (some .int)) (hlk : meth.locks = false) (hmn : meth.name = yX5_earlier.name) (hnx : ∀ x ∈ c.exceptionTable.toList, False) (hs : mX g s) : ∀ (n : Nat) (S : mmS) (x0 : Nat) (x1 : Int32) (x2 : Int32) (x3 : Int32) (x4 : Int32), lp_X5_earlier_12 g.2.2.2.2.2 Q X n S x0 x1 x2 x3 x4 → ∀ (H : Heap) (locs : List Loc), mH g S s H locs → ∀ ls : Array Slot, lv_has ls 7 [(0, .ref x0), (1, .int x1), (2, .int x2), (3, .int x3), (4, .int x4)] → W p l e rm_X5_earlier s m args below meth c H locs 0 0 (vx_MQ below (va_Qi Q (wO g) (mB g)) (vx_X (fun _ : mmS => True) (fun E S1 t => X E S1 ∧ wO g S1 t) (mB g)) args s rm_X5_earlier.cells rm_X5_earlier.slots (mB g)) (F0 m 12 ls []) := by
  intro n
  induction n with
  | zero => intro S x0 x1 x2 x3 x4 hw; exact False.elim hw
  | succ n ih => exact fun S x0 x1 x2 x3 x4 hw => bw_X5_earlier_12 hl0 hC hrt hlk hmn hnx hs (K12 := lp_X5_earlier_12 g.2.2.2.2.2 Q X n) ih S x0 x1 x2 x3 x4 hw
set_option maxHeartbeats 4000000 in
set_option maxRecDepth 100000 in
theorem met_X5_earlier (l : Launch) (hl0 : l.stackTraces = false) (g : mG) (S : mmS) (p0 : Nat) (p1 : Int32) (Q : Int32 → mmS → Prop) (X : String → mmS → Prop) (hw : wp_X5_earlier g.2.2.2.2.2 S p0 p1 Q X) : mMi l g yX5_earlier (wA_ yX5_earlier cX5_earlier 7 (some .int)) rm_X5_earlier [.ref p0, .int p1] S Q X := by
  refine m_of (y := yX5_earlier) (cc := cX5_earlier) (maxL := 7) (ret := (some .int)) (by decide) rfl (Nat.le_of_ble_eq_true rfl) ?_
  intro p e s m args below meth c ls hC hrt hlk hmn hnx hs hH hl
  have hC : CallFix p m c cX5_earlier 7 s args (wA_ yX5_earlier cX5_earlier 7 (some .int)) RX5 := hC
  have hl : lv_has ls 7 [(0, .ref p0), (1, .int p1)] := hl
  unfold wp_X5_earlier at hw
  refine lv_aload_n hC.1 hC.2.1 dX5_earlier_0 rfl (lv_at hl 0 rfl) ?_
  obtain ⟨k1, hw⟩ := hw
  obtain ⟨b2, r3, hw⟩ := hw
  refine m_getR hC hs hH cs5 fs5_12 (fun _ h => List.mem_cons_of_mem _ (inlX5 _ h)) (List.mem_cons_of_mem _ q_50) (fun _ h => h) k1 r3 dX5_earlier_1 ?_
  refine lv_iload_n hC.1 hC.2.1 dX5_earlier_4 rfl (lv_at hl 1 rfl) ?_
  obtain ⟨k4, hw⟩ := hw
  obtain ⟨i5, hw⟩ := hw
  refine m_iald hC hs hH k4 i5 dX5_earlier_5 ?_
  have hw := hw _ rfl
  refine lv_istore_n (lv' := [(2, .int _), (0, .ref _), (1, .int _)]) hC.1 hC.2.1 dX5_earlier_6 rfl hl (by decide) rfl (fun ls hl => ?_)
  refine lv_iconst (v := (-1)) hC.1 hC.2.1 dX5_earlier_7 (by decide) ?_
  have hw := hw _ rfl
  refine lv_istore_n (lv' := [(3, .int _), (2, .int _), (0, .ref _), (1, .int _)]) hC.1 hC.2.1 dX5_earlier_8 rfl hl (by decide) rfl (fun ls hl => ?_)
  refine lv_iconst (v := 0) hC.1 hC.2.1 dX5_earlier_9 (by decide) ?_
  have hw := hw _ rfl
  refine lv_istore (lv' := [(4, .int _), (3, .int _), (2, .int _), (0, .ref _), (1, .int _)]) hC.1 hC.2.1 dX5_earlier_10 hl (by decide) rfl (fun ls hl => ?_)
  obtain ⟨n, hw⟩ := hw
  exact lw_X5_earlier_12 hl0 hC hrt hlk hmn hnx hs n _ _ _ _ _ _ hw _ _ hH _ (lv_sub hl [3, 4, 2, 1, 0] rfl)
abbrev rm_X5_rate : Room := { frames := 3, cells := 0, slots := 0, locals := 50 }
def bk_X5_rate_344 (z : Nat × Nat) (Q : mmS → Prop) (X : String → mmS → Prop) (S : mmS) (x0 : Nat) (x2 : Int32) (x4 : Int32) (x9 : Int32) : Prop := (x0 ∈ mL S ∧ mK S x0 = 5) ∧ ∃ b2 : Nat, mR S 19 x0 = some b2 ∧ (b2 ∈ mL S ∧ mK S b2 = 7) ∧ vp_in x2 (mN S b2) ∧ ∃ b6 : Nat, mR S 20 x0 = some b6 ∧ (b6 ∈ mL S ∧ mK S b6 = 7) ∧ vp_in x2 (mN S b6) ∧ ∀ v10 : Int32, v10 = ((mA S b2 (x2).toNatClampNeg) - (mA S b6 (x2).toNatClampNeg)) → ∃ b11 : Nat, mR S 21 x0 = some b11 ∧ ∃ b13 : Nat, mR S 22 x0 = some b13 ∧ (b13 ∈ mL S ∧ mK S b13 = 7) ∧ vp_in x2 (mN S b13) ∧ (¬ v10 = 0 → ∃ b17 : Nat, mR S 13 x0 = some b17 ∧ (b17 ∈ mL S ∧ mK S b17 = 7) ∧ vp_in x4 (mN S b17) ∧ (b11 ∈ mL S ∧ mK S b11 = 7) ∧ vp_in x2 (mN S b11) ∧ ∀ S23 : mmS, S23 = sA S b11 (x2).toNatClampNeg ((mA S b13 (x2).toNatClampNeg) + ((mA S b17 (x4).toNatClampNeg) + (((v10 * x9) + (59 : Int32)) / (60 : Int32)))) → Q S23) ∧ (v10 = 0 → (b11 ∈ mL S ∧ mK S b11 = 7) ∧ vp_in x2 (mN S b11) ∧ ∀ S26 : mmS, S26 = sA S b11 (x2).toNatClampNeg ((mA S b13 (x2).toNatClampNeg) + (0 : Int32)) → Q S26)
def bk_X5_rate_330 (z : Nat × Nat) (Q : mmS → Prop) (X : String → mmS → Prop) (S : mmS) (x0 : Nat) (x2 : Int32) (x4 : Int32) (x9 : Int32) (x10 : Int32) (x11 : Int32) : Prop := (¬ x11 = (-1 : Int32) → bk_X5_rate_344 z Q X S x0 x2 x4 x9) ∧ (x11 = (-1 : Int32) → (x0 ∈ mL S ∧ mK S x0 = 5) ∧ ∃ b2 : Nat, mR S 22 x0 = some b2 ∧ (b2 ∈ mL S ∧ mK S b2 = 7) ∧ vp_in x2 (mN S b2) ∧ ∀ S6 : mmS, S6 = sA S b2 (x2).toNatClampNeg x10 → bk_X5_rate_344 z Q X S6 x0 x2 x4 x9)
def bk_X5_rate_182 (z : Nat × Nat) (Q : mmS → Prop) (X : String → mmS → Prop) (S : mmS) (x0 : Nat) (x1 : Int32) (x2 : Int32) (x4 : Int32) (x5 : Int32) (x6 : Int32) (t0 : Int32) : Prop := (¬ x6 = 0 → (x0 ∈ mL S ∧ mK S x0 = 5) ∧ ∃ b2 : Nat, mR S 13 x0 = some b2 ∧ (b2 ∈ mL S ∧ mK S b2 = 7) ∧ vp_in ((x4 + (3 : Int32)) + ((2 : Int32) * x6)) (mN S b2) ∧ ∀ v6 : Int32, v6 = (mA S b2 ((x4 + (3 : Int32)) + ((2 : Int32) * x6)).toNatClampNeg) → ∃ b7 : Nat, mR S 13 x0 = some b7 ∧ (b7 ∈ mL S ∧ mK S b7 = 7) ∧ vp_in ((x4 + (4 : Int32)) + ((2 : Int32) * x6)) (mN S b7) ∧ ∀ v11 : Int32, v11 = (mA S b7 ((x4 + (4 : Int32)) + ((2 : Int32) * x6)).toNatClampNeg) → wp_X5_earlier z S x0 x1 (fun r13 S12 => (v11 ≤ 0 → bk_X5_rate_330 z Q X S12 x0 x2 x4 v6 v11 r13) ∧ (¬ v11 ≤ 0 → (x0 ∈ mL S12 ∧ mK S12 x0 = 5) ∧ ∃ b15 : Nat, mR S12 20 x0 = some b15 ∧ ∃ b17 : Nat, mR S12 19 x0 = some b17 ∧ (b17 ∈ mL S12 ∧ mK S12 b17 = 7) ∧ vp_in x2 (mN S12 b17) ∧ (b15 ∈ mL S12 ∧ mK S12 b15 = 7) ∧ vp_in x2 (mN S12 b15) ∧ ∀ S23 : mmS, S23 = sA S12 b15 (x2).toNatClampNeg (if (if (0 : Int32) < ((1800 : Int32) - (if r13 < (0 : Int32) then (0 : Int32) else r13)) then ((1800 : Int32) - (if r13 < (0 : Int32) then (0 : Int32) else r13)) else (0 : Int32)) < (mA S12 b17 (x2).toNatClampNeg) then (if (0 : Int32) < ((1800 : Int32) - (if r13 < (0 : Int32) then (0 : Int32) else r13)) then ((1800 : Int32) - (if r13 < (0 : Int32) then (0 : Int32) else r13)) else (0 : Int32)) else (mA S12 b17 (x2).toNatClampNeg)) → bk_X5_rate_330 z Q X S23 x0 x2 x4 v6 v11 r13)) X) ∧ (x6 = 0 → (x0 ∈ mL S ∧ mK S x0 = 5) ∧ ∃ b25 : Nat, mR S 20 x0 = some b25 ∧ ∃ b27 : Nat, mR S 23 x0 = some b27 ∧ (b27 ∈ mL S ∧ mK S b27 = 7) ∧ vp_in x5 (mN S b27) ∧ ∃ b31 : Nat, mR S 19 x0 = some b31 ∧ (b31 ∈ mL S ∧ mK S b31 = 7) ∧ vp_in x2 (mN S b31) ∧ (b25 ∈ mL S ∧ mK S b25 = 7) ∧ vp_in x2 (mN S b25) ∧ ∀ S37 : mmS, S37 = sA S b25 (x2).toNatClampNeg (if (mA S b31 (x2).toNatClampNeg) < (mA S b27 (x5).toNatClampNeg) then (mA S b31 (x2).toNatClampNeg) else (mA S b27 (x5).toNatClampNeg)) → ∃ b38 : Nat, mR S37 23 x0 = some b38 ∧ (b38 ∈ mL S37 ∧ mK S37 b38 = 7) ∧ vp_in x5 (mN S37 b38) ∧ ∃ b42 : Nat, mR S37 20 x0 = some b42 ∧ (b42 ∈ mL S37 ∧ mK S37 b42 = 7) ∧ vp_in x2 (mN S37 b42) ∧ vp_in x5 (mN S37 b38) ∧ ∀ S47 : mmS, S47 = sA S37 b38 (x5).toNatClampNeg ((mA S37 b38 (x5).toNatClampNeg) - (mA S37 b42 (x2).toNatClampNeg)) → ∃ b48 : Nat, mR S47 20 x0 = some b48 ∧ (b48 ∈ mL S47 ∧ mK S47 b48 = 7) ∧ vp_in x2 (mN S47 b48) ∧ ((mA S47 b48 (x2).toNatClampNeg) ≤ 0 → bk_X5_rate_344 z Q X S47 x0 x2 x4 t0) ∧ (¬ (mA S47 b48 (x2).toNatClampNeg) ≤ 0 → ∃ b52 : Nat, mR S47 23 x0 = some b52 ∧ (b52 ∈ mL S47 ∧ mK S47 b52 = 7) ∧ vp_in x5 (mN S47 b52) ∧ (¬ (mA S47 b52 (x5).toNatClampNeg) = 0 → bk_X5_rate_344 z Q X S47 x0 x2 x4 t0) ∧ ((mA S47 b52 (x5).toNatClampNeg) = 0 → ∃ b56 : Nat, mR S47 24 x0 = some b56 ∧ (b56 ∈ mL S47 ∧ mK S47 b56 = 7) ∧ vp_in x5 (mN S47 b56) ∧ ∀ S60 : mmS, S60 = sA S47 b56 (x5).toNatClampNeg x2 → bk_X5_rate_344 z Q X S60 x0 x2 x4 t0)))
def bk_X5_rate_152 (z : Nat × Nat) (Q : mmS → Prop) (X : String → mmS → Prop) (S : mmS) (x0 : Nat) (x1 : Int32) (x2 : Int32) (x4 : Int32) (x5 : Int32) (x6 : Int32) (t0 : Nat) (t1 : Int32) (t2 : Int32) : Prop := (t0 ∈ mL S ∧ mK S t0 = 7) ∧ vp_in t1 (mN S t0) ∧ ∀ S3 : mmS, S3 = sA S t0 (t1).toNatClampNeg t2 → (x0 ∈ mL S3 ∧ mK S3 x0 = 5) ∧ wp_X5_isInPeak z S3 x0 x2 (fun r6 S4 => (r6 = 0 → (x0 ∈ mL S4 ∧ mK S4 x0 = 5) ∧ ∃ b8 : Nat, mR S4 13 x0 = some b8 ∧ (b8 ∈ mL S4 ∧ mK S4 b8 = 7) ∧ vp_in (x4 + (2 : Int32)) (mN S4 b8) ∧ bk_X5_rate_182 z Q X S4 x0 x1 x2 x4 x5 x6 (mA S4 b8 (x4 + (2 : Int32)).toNatClampNeg)) ∧ (¬ r6 = 0 → (x0 ∈ mL S4 ∧ mK S4 x0 = 5) ∧ ∃ b13 : Nat, mR S4 13 x0 = some b13 ∧ (b13 ∈ mL S4 ∧ mK S4 b13 = 7) ∧ vp_in (x4 + (1 : Int32)) (mN S4 b13) ∧ bk_X5_rate_182 z Q X S4 x0 x1 x2 x4 x5 x6 (mA S4 b13 (x4 + (1 : Int32)).toNatClampNeg))) X
def wp_X5_rate (z : Nat × Nat) (S : mmS) (p0 : Nat) (p1 : Int32) (Q : mmS → Prop) (X : String → mmS → Prop) : Prop := (p0 ∈ mL S ∧ mK S p0 = 5) ∧ ∃ b2 : Nat, mR S 18 p0 = some b2 ∧ (b2 ∈ mL S ∧ mK S b2 = 7) ∧ vp_in p1 (mN S b2) ∧ ∀ v6 : Int32, v6 = (mA S b2 (p1).toNatClampNeg) → ∃ b7 : Nat, mR S 17 p0 = some b7 ∧ (b7 ∈ mL S ∧ mK S b7 = 7) ∧ vp_in (((4 : Int32) * v6) + (2 : Int32)) (mN S b7) ∧ ∀ v11 : Int32, v11 = (mA S b7 (((4 : Int32) * v6) + (2 : Int32)).toNatClampNeg) → ∃ b12 : Nat, mR S 19 p0 = some b12 ∧ (b12 ∈ mL S ∧ mK S b12 = 7) ∧ vp_in v6 (mN S b12) ∧ ∀ S16 : mmS, S16 = sA S b12 (v6).toNatClampNeg (0 : Int32) → ∃ b17 : Nat, mR S16 20 p0 = some b17 ∧ (b17 ∈ mL S16 ∧ mK S16 b17 = 7) ∧ vp_in v6 (mN S16 b17) ∧ ∀ S21 : mmS, S21 = sA S16 b17 (v6).toNatClampNeg (0 : Int32) → ∃ b22 : Nat, mR S21 21 p0 = some b22 ∧ (b22 ∈ mL S21 ∧ mK S21 b22 = 7) ∧ vp_in v6 (mN S21 b22) ∧ ∀ S26 : mmS, S26 = sA S21 b22 (v6).toNatClampNeg (0 : Int32) → ∃ b27 : Nat, mR S26 22 p0 = some b27 ∧ (b27 ∈ mL S26 ∧ mK S26 b27 = 7) ∧ vp_in v6 (mN S26 b27) ∧ ∀ S31 : mmS, S31 = sA S26 b27 (v6).toNatClampNeg (0 : Int32) → (¬ v11 = 0 → ∃ b32 : Nat, mR S31 16 p0 = some b32 ∧ ∃ b34 : Nat, mR S31 17 p0 = some b34 ∧ (b34 ∈ mL S31 ∧ mK S31 b34 = 7) ∧ vp_in ((4 : Int32) * v6) (mN S31 b34) ∧ (b32 ∈ mL S31 ∧ mK S31 b32 = 7) ∧ vp_in (mA S31 b34 ((4 : Int32) * v6).toNatClampNeg) (mN S31 b32) ∧ ∀ v40 : Int32, v40 = ((9 : Int32) * (mA S31 b32 (mA S31 b34 ((4 : Int32) * v6).toNatClampNeg).toNatClampNeg)) → ∃ b41 : Nat, mR S31 15 p0 = some b41 ∧ ∃ b43 : Nat, mR S31 17 p0 = some b43 ∧ (b43 ∈ mL S31 ∧ mK S31 b43 = 7) ∧ vp_in ((4 : Int32) * v6) (mN S31 b43) ∧ (b41 ∈ mL S31 ∧ mK S31 b41 = 7) ∧ vp_in (mA S31 b43 ((4 : Int32) * v6).toNatClampNeg) (mN S31 b41) ∧ ∀ v49 : Int32, v49 = (mA S31 b41 (mA S31 b43 ((4 : Int32) * v6).toNatClampNeg).toNatClampNeg) → ∃ b50 : Nat, mR S31 17 p0 = some b50 ∧ (b50 ∈ mL S31 ∧ mK S31 b50 = 7) ∧ vp_in (((4 : Int32) * v6) + (3 : Int32)) (mN S31 b50) ∧ ∀ v54 : Int32, v54 = (mA S31 b50 (((4 : Int32) * v6) + (3 : Int32)).toNatClampNeg) → ∃ b55 : Nat, mR S31 13 p0 = some b55 ∧ (b55 ∈ mL S31 ∧ mK S31 b55 = 7) ∧ vp_in (v40 + (3 : Int32)) (mN S31 b55) ∧ ∀ v59 : Int32, v59 = (mA S31 b55 (v40 + (3 : Int32)).toNatClampNeg) → ∃ b60 : Nat, mR S31 13 p0 = some b60 ∧ (b60 ∈ mL S31 ∧ mK S31 b60 = 7) ∧ vp_in (v40 + (4 : Int32)) (mN S31 b60) ∧ ∀ v64 : Int32, v64 = (mA S31 b60 (v40 + (4 : Int32)).toNatClampNeg) → ∃ b65 : Nat, mR S31 19 p0 = some b65 ∧ (v59 < v11 → ¬ v64 = 0 ∧ bk_X5_rate_152 z Q X S31 p0 p1 v6 v40 v49 v54 b65 v6 (v59 + (((((v11 - v59) + v64) - (1 : Int32)) / v64) * v64))) ∧ (¬ v59 < v11 → bk_X5_rate_152 z Q X S31 p0 p1 v6 v40 v49 v54 b65 v6 v59)) ∧ (v11 = 0 → Q S31)
set_option maxHeartbeats 4000000 in
set_option maxRecDepth 100000 in
theorem bw_X5_rate_344 {p : Program} {l : Launch} {e : Env} {s : State} {m : MethodId} {args : Array Value} {below : List Frame} {meth : Method} {c : Code} {g : mG} {Q : mmS → Prop} {X : String → mmS → Prop} (hl0 : l.stackTraces = false) (hC : CallFix p m c cX5_rate 12 s args (wA_ yX5_rate cX5_rate 12 none) RX5) (hrt : meth.sig.returnType = none) (hlk : meth.locks = false) (hmn : meth.name = yX5_rate.name) (hnx : ∀ x ∈ c.exceptionTable.toList, False) (hs : mX g s) : ∀ (S : mmS) (x0 : Nat) (x2 : Int32) (x4 : Int32) (x9 : Int32), bk_X5_rate_344 g.2.2.2.2.2 Q X S x0 x2 x4 x9 → ∀ (H : Heap) (locs : List Loc), mH g S s H locs → ∀ ls : Array Slot, lv_has ls 12 [(0, .ref x0), (2, .int x2), (4, .int x4), (9, .int x9)] → W p l e rm_X5_rate s m args below meth c H locs 0 0 (vx_MQ below (va_Qv Q (wO g) (mB g)) (vx_X (fun _ : mmS => True) (fun E S1 t => X E S1 ∧ wO g S1 t) (mB g)) args s rm_X5_rate.cells rm_X5_rate.slots (mB g)) (F0 m 344 ls []) := by
  intro S x0 x2 x4 x9 hw H locs hH ls hl
  unfold bk_X5_rate_344 at hw
  refine lv_aload_n hC.1 hC.2.1 dX5_rate_344 rfl (lv_at hl 0 rfl) ?_
  obtain ⟨k1, hw⟩ := hw
  obtain ⟨b2, r3, hw⟩ := hw
  refine m_getR hC hs hH cs5 fs5_13 (fun _ h => List.mem_cons_of_mem _ (inlX5 _ h)) (List.mem_cons_of_mem _ q_51) (fun _ h => h) k1 r3 dX5_rate_345 ?_
  refine lv_iload_n hC.1 hC.2.1 dX5_rate_348 rfl (lv_at hl 1 rfl) ?_
  obtain ⟨k4, hw⟩ := hw
  obtain ⟨i5, hw⟩ := hw
  refine m_iald hC hs hH k4 i5 dX5_rate_349 ?_
  refine lv_aload_n hC.1 hC.2.1 dX5_rate_350 rfl (lv_at hl 0 rfl) ?_
  obtain ⟨b6, r7, hw⟩ := hw
  refine m_getR hC hs hH cs5 fs5_14 (fun _ h => List.mem_cons_of_mem _ (inlX5 _ h)) (List.mem_cons_of_mem _ q_52) (fun _ h => h) k1 r7 dX5_rate_351 ?_
  refine lv_iload_n hC.1 hC.2.1 dX5_rate_354 rfl (lv_at hl 1 rfl) ?_
  obtain ⟨k8, hw⟩ := hw
  obtain ⟨i9, hw⟩ := hw
  refine m_iald hC hs hH k8 i9 dX5_rate_355 ?_
  refine lv_isub hC.1 hC.2.1 dX5_rate_356 ?_
  have hw := hw _ rfl
  refine lv_istore (lv' := [(10, .int _), (0, .ref _), (2, .int _), (4, .int _), (9, .int _)]) hC.1 hC.2.1 dX5_rate_357 hl (by decide) rfl (fun ls hl => ?_)
  refine lv_aload_n hC.1 hC.2.1 dX5_rate_359 rfl (lv_at hl 1 rfl) ?_
  obtain ⟨b11, r12, hw⟩ := hw
  refine m_getR hC hs hH cs5 fs5_15 (fun _ h => List.mem_cons_of_mem _ (inlX5 _ h)) (List.mem_cons_of_mem _ q_53) (fun _ h => h) k1 r12 dX5_rate_360 ?_
  refine lv_iload_n hC.1 hC.2.1 dX5_rate_363 rfl (lv_at hl 2 rfl) ?_
  refine lv_aload_n hC.1 hC.2.1 dX5_rate_364 rfl (lv_at hl 1 rfl) ?_
  obtain ⟨b13, r14, hw⟩ := hw
  refine m_getR hC hs hH cs5 fs5_16 (fun _ h => List.mem_cons_of_mem _ (inlX5 _ h)) (List.mem_cons_of_mem _ q_54) (fun _ h => h) k1 r14 dX5_rate_365 ?_
  refine lv_iload_n hC.1 hC.2.1 dX5_rate_368 rfl (lv_at hl 2 rfl) ?_
  obtain ⟨k15, hw⟩ := hw
  obtain ⟨i16, hw⟩ := hw
  refine m_iald hC hs hH k15 i16 dX5_rate_369 ?_
  refine lv_iload hC.1 hC.2.1 dX5_rate_370 (lv_at hl 0 rfl) ?_
  refine lv_if_ne (tgt := 379) hC.1 hC.2.1 dX5_rate_372 (by decide) (fun hc => ?_) (fun hc => ?_)
  · have hw := hw.1 hc
    refine lv_aload_n hC.1 hC.2.1 dX5_rate_379 rfl (lv_at hl 1 rfl) ?_
    obtain ⟨b17, r18, hw⟩ := hw
    refine m_getR hC hs hH cs5 fs5_2 (fun _ h => List.mem_cons_of_mem _ (inlX5 _ h)) (List.mem_cons_of_mem _ q_43) (fun _ h => h) k1 r18 dX5_rate_380 ?_
    refine lv_iload hC.1 hC.2.1 dX5_rate_383 (lv_at hl 3 rfl) ?_
    obtain ⟨k19, hw⟩ := hw
    obtain ⟨i20, hw⟩ := hw
    refine m_iald hC hs hH k19 i20 dX5_rate_385 ?_
    refine lv_iload hC.1 hC.2.1 dX5_rate_386 (lv_at hl 0 rfl) ?_
    refine lv_iload hC.1 hC.2.1 dX5_rate_388 (lv_at hl 4 rfl) ?_
    refine lv_imul hC.1 hC.2.1 dX5_rate_390 ?_
    refine lv_bipush (v := 59) hC.1 hC.2.1 dX5_rate_391 (by decide) ?_
    refine lv_iadd hC.1 hC.2.1 dX5_rate_393 ?_
    refine lv_bipush (v := 60) hC.1 hC.2.1 dX5_rate_394 (by decide) ?_
    refine lv_idiv hC.1 hC.2.1 dX5_rate_396 (by decide) ?_
    refine lv_iadd hC.1 hC.2.1 dX5_rate_397 ?_
    refine lv_iadd hC.1 hC.2.1 dX5_rate_398 ?_
    obtain ⟨k21, hw⟩ := hw
    obtain ⟨i22, hw⟩ := hw
    have hw := hw _ rfl
    refine m_iast hC hs hH k21 i22 dX5_rate_399 (fun H locs hH => ?_)
    exact m_retv hC hH hrt hlk (Nat.le_of_ble_eq_true rfl) (Nat.le_of_ble_eq_true rfl) dX5_rate_400 hw
  · have hw := hw.2 hc
    refine lv_iconst (v := 0) hC.1 hC.2.1 dX5_rate_375 (by decide) ?_
    refine lv_goto (tgt := 398) hC.1 hC.2.1 dX5_rate_376 (by decide) ?_
    refine lv_iadd hC.1 hC.2.1 dX5_rate_398 ?_
    obtain ⟨k24, hw⟩ := hw
    obtain ⟨i25, hw⟩ := hw
    have hw := hw _ rfl
    refine m_iast hC hs hH k24 i25 dX5_rate_399 (fun H locs hH => ?_)
    exact m_retv hC hH hrt hlk (Nat.le_of_ble_eq_true rfl) (Nat.le_of_ble_eq_true rfl) dX5_rate_400 hw
set_option maxHeartbeats 4000000 in
set_option maxRecDepth 100000 in
theorem bw_X5_rate_330 {p : Program} {l : Launch} {e : Env} {s : State} {m : MethodId} {args : Array Value} {below : List Frame} {meth : Method} {c : Code} {g : mG} {Q : mmS → Prop} {X : String → mmS → Prop} (hl0 : l.stackTraces = false) (hC : CallFix p m c cX5_rate 12 s args (wA_ yX5_rate cX5_rate 12 none) RX5) (hrt : meth.sig.returnType = none) (hlk : meth.locks = false) (hmn : meth.name = yX5_rate.name) (hnx : ∀ x ∈ c.exceptionTable.toList, False) (hs : mX g s) : ∀ (S : mmS) (x0 : Nat) (x2 : Int32) (x4 : Int32) (x9 : Int32) (x10 : Int32) (x11 : Int32), bk_X5_rate_330 g.2.2.2.2.2 Q X S x0 x2 x4 x9 x10 x11 → ∀ (H : Heap) (locs : List Loc), mH g S s H locs → ∀ ls : Array Slot, lv_has ls 12 [(0, .ref x0), (2, .int x2), (4, .int x4), (9, .int x9), (10, .int x10), (11, .int x11)] → W p l e rm_X5_rate s m args below meth c H locs 0 0 (vx_MQ below (va_Qv Q (wO g) (mB g)) (vx_X (fun _ : mmS => True) (fun E S1 t => X E S1 ∧ wO g S1 t) (mB g)) args s rm_X5_rate.cells rm_X5_rate.slots (mB g)) (F0 m 330 ls []) := by
  intro S x0 x2 x4 x9 x10 x11 hw H locs hH ls hl
  unfold bk_X5_rate_330 at hw
  refine lv_iload hC.1 hC.2.1 dX5_rate_330 (lv_at hl 5 rfl) ?_
  refine lv_iconst (v := (-1)) hC.1 hC.2.1 dX5_rate_332 (by decide) ?_
  refine lv_icmp_ne (tgt := 344) hC.1 hC.2.1 dX5_rate_333 (by decide) (fun hc => ?_) (fun hc => ?_)
  · have hw := hw.1 hc
    exact bw_X5_rate_344 hl0 hC hrt hlk hmn hnx hs _ _ _ _ _ hw _ _ hH _ (lv_sub hl [0, 1, 2, 3] rfl)
  · have hw := hw.2 hc
    refine lv_aload_n hC.1 hC.2.1 dX5_rate_336 rfl (lv_at hl 0 rfl) ?_
    obtain ⟨k1, hw⟩ := hw
    obtain ⟨b2, r3, hw⟩ := hw
    refine m_getR hC hs hH cs5 fs5_16 (fun _ h => List.mem_cons_of_mem _ (inlX5 _ h)) (List.mem_cons_of_mem _ q_54) (fun _ h => h) k1 r3 dX5_rate_337 ?_
    refine lv_iload_n hC.1 hC.2.1 dX5_rate_340 rfl (lv_at hl 1 rfl) ?_
    refine lv_iload hC.1 hC.2.1 dX5_rate_341 (lv_at hl 4 rfl) ?_
    obtain ⟨k4, hw⟩ := hw
    obtain ⟨i5, hw⟩ := hw
    have hw := hw _ rfl
    refine m_iast hC hs hH k4 i5 dX5_rate_343 (fun H locs hH => ?_)
    exact bw_X5_rate_344 hl0 hC hrt hlk hmn hnx hs _ _ _ _ _ hw _ _ hH _ (lv_sub hl [0, 1, 2, 3] rfl)
set_option maxHeartbeats 4000000 in
set_option maxRecDepth 100000 in
theorem bw_X5_rate_182 {p : Program} {l : Launch} {e : Env} {s : State} {m : MethodId} {args : Array Value} {below : List Frame} {meth : Method} {c : Code} {g : mG} {Q : mmS → Prop} {X : String → mmS → Prop} (hl0 : l.stackTraces = false) (hC : CallFix p m c cX5_rate 12 s args (wA_ yX5_rate cX5_rate 12 none) RX5) (hrt : meth.sig.returnType = none) (hlk : meth.locks = false) (hmn : meth.name = yX5_rate.name) (hnx : ∀ x ∈ c.exceptionTable.toList, False) (hs : mX g s) : ∀ (S : mmS) (x0 : Nat) (x1 : Int32) (x2 : Int32) (x4 : Int32) (x5 : Int32) (x6 : Int32) (t0 : Int32), bk_X5_rate_182 g.2.2.2.2.2 Q X S x0 x1 x2 x4 x5 x6 t0 → ∀ (H : Heap) (locs : List Loc), mH g S s H locs → ∀ ls : Array Slot, lv_has ls 12 [(0, .ref x0), (1, .int x1), (2, .int x2), (4, .int x4), (5, .int x5), (6, .int x6)] → W p l e rm_X5_rate s m args below meth c H locs 0 0 (vx_MQ below (va_Qv Q (wO g) (mB g)) (vx_X (fun _ : mmS => True) (fun E S1 t => X E S1 ∧ wO g S1 t) (mB g)) args s rm_X5_rate.cells rm_X5_rate.slots (mB g)) (F0 m 182 ls [.int t0]) := by
  intro S x0 x1 x2 x4 x5 x6 t0 hw H locs hH ls hl
  unfold bk_X5_rate_182 at hw
  refine lv_istore (lv' := [(9, .int _), (0, .ref _), (1, .int _), (2, .int _), (4, .int _), (5, .int _), (6, .int _)]) hC.1 hC.2.1 dX5_rate_182 hl (by decide) rfl (fun ls hl => ?_)
  refine lv_iload hC.1 hC.2.1 dX5_rate_184 (lv_at hl 6 rfl) ?_
  refine lv_if_ne (tgt := 257) hC.1 hC.2.1 dX5_rate_186 (by decide) (fun hc => ?_) (fun hc => ?_)
  · have hw := hw.1 hc
    refine lv_aload_n hC.1 hC.2.1 dX5_rate_257 rfl (lv_at hl 1 rfl) ?_
    obtain ⟨k1, hw⟩ := hw
    obtain ⟨b2, r3, hw⟩ := hw
    refine m_getR hC hs hH cs5 fs5_2 (fun _ h => List.mem_cons_of_mem _ (inlX5 _ h)) (List.mem_cons_of_mem _ q_43) (fun _ h => h) k1 r3 dX5_rate_258 ?_
    refine lv_iload hC.1 hC.2.1 dX5_rate_261 (lv_at hl 4 rfl) ?_
    refine lv_iconst (v := 3) hC.1 hC.2.1 dX5_rate_263 (by decide) ?_
    refine lv_iadd hC.1 hC.2.1 dX5_rate_264 ?_
    refine lv_iconst (v := 2) hC.1 hC.2.1 dX5_rate_265 (by decide) ?_
    refine lv_iload hC.1 hC.2.1 dX5_rate_266 (lv_at hl 6 rfl) ?_
    refine lv_imul hC.1 hC.2.1 dX5_rate_268 ?_
    refine lv_iadd hC.1 hC.2.1 dX5_rate_269 ?_
    obtain ⟨k4, hw⟩ := hw
    obtain ⟨i5, hw⟩ := hw
    refine m_iald hC hs hH k4 i5 dX5_rate_270 ?_
    have hw := hw _ rfl
    refine lv_istore (lv' := [(9, .int _), (0, .ref _), (1, .int _), (2, .int _), (4, .int _), (5, .int _), (6, .int _)]) hC.1 hC.2.1 dX5_rate_271 hl (by decide) rfl (fun ls hl => ?_)
    refine lv_aload_n hC.1 hC.2.1 dX5_rate_273 rfl (lv_at hl 1 rfl) ?_
    obtain ⟨b7, r8, hw⟩ := hw
    refine m_getR hC hs hH cs5 fs5_2 (fun _ h => List.mem_cons_of_mem _ (inlX5 _ h)) (List.mem_cons_of_mem _ q_43) (fun _ h => h) k1 r8 dX5_rate_274 ?_
    refine lv_iload hC.1 hC.2.1 dX5_rate_277 (lv_at hl 4 rfl) ?_
    refine lv_iconst (v := 4) hC.1 hC.2.1 dX5_rate_279 (by decide) ?_
    refine lv_iadd hC.1 hC.2.1 dX5_rate_280 ?_
    refine lv_iconst (v := 2) hC.1 hC.2.1 dX5_rate_281 (by decide) ?_
    refine lv_iload hC.1 hC.2.1 dX5_rate_282 (lv_at hl 6 rfl) ?_
    refine lv_imul hC.1 hC.2.1 dX5_rate_284 ?_
    refine lv_iadd hC.1 hC.2.1 dX5_rate_285 ?_
    obtain ⟨k9, hw⟩ := hw
    obtain ⟨i10, hw⟩ := hw
    refine m_iald hC hs hH k9 i10 dX5_rate_286 ?_
    have hw := hw _ rfl
    refine lv_istore (lv' := [(10, .int _), (9, .int _), (0, .ref _), (1, .int _), (2, .int _), (4, .int _), (5, .int _), (6, .int _)]) hC.1 hC.2.1 dX5_rate_287 hl (by decide) rfl (fun ls hl => ?_)
    refine lv_aload_n hC.1 hC.2.1 dX5_rate_289 rfl (lv_at hl 2 rfl) ?_
    refine lv_iload_n hC.1 hC.2.1 dX5_rate_290 rfl (lv_at hl 3 rfl) ?_
    refine m_callVi (y := yX5_earlier) (rest := []) hC hs hH hl.1 (cwV 1 hC.2.2.2.2 (gA_V q_523 q_524 q_525 q_5 q_526) rfl rfl rfl (by decide +kernel) ⟨Nat.le_of_ble_eq_true rfl, Nat.le_of_ble_eq_true rfl⟩) cs5 k1 (met_X5_earlier l hl0 g _ _ _ _ _ hw) rfl rfl (Nat.le_of_ble_eq_true rfl) dX5_rate_291 ⟨Nat.le_of_ble_eq_true rfl, Nat.le_of_ble_eq_true rfl⟩ (m_out (fun x hx => (hnx x hx).elim) hlk (Nat.le_of_ble_eq_true rfl) (Nat.le_of_ble_eq_true rfl)) (fun r13 S1 H locs hw hH => ?_)
    refine W.widen (k := 0) (n := 0) (Nat.le_of_ble_eq_true rfl) (Nat.le_of_ble_eq_true rfl) ?_
    refine lv_istore (lv' := [(11, .int _), (10, .int _), (9, .int _), (0, .ref _), (1, .int _), (2, .int _), (4, .int _), (5, .int _), (6, .int _)]) hC.1 hC.2.1 dX5_rate_294 hl (by decide) rfl (fun ls hl => ?_)
    refine lv_iload hC.1 hC.2.1 dX5_rate_296 (lv_at hl 1 rfl) ?_
    refine lv_if_le (tgt := 330) hC.1 hC.2.1 dX5_rate_298 (by decide) (fun hc => ?_) (fun hc => ?_)
    · have hw := hw.1 hc
      exact bw_X5_rate_330 hl0 hC hrt hlk hmn hnx hs _ _ _ _ _ _ _ hw _ _ hH _ (lv_sub hl [3, 5, 6, 2, 1, 0] rfl)
    · have hw := hw.2 hc
      refine lv_aload_n hC.1 hC.2.1 dX5_rate_301 rfl (lv_at hl 3 rfl) ?_
      obtain ⟨k14, hw⟩ := hw
      obtain ⟨b15, r16, hw⟩ := hw
      refine m_getR hC hs hH cs5 fs5_14 (fun _ h => List.mem_cons_of_mem _ (inlX5 _ h)) (List.mem_cons_of_mem _ q_52) (fun _ h => h) k14 r16 dX5_rate_302 ?_
      refine lv_iload_n hC.1 hC.2.1 dX5_rate_305 rfl (lv_at hl 5 rfl) ?_
      refine lv_aload_n hC.1 hC.2.1 dX5_rate_306 rfl (lv_at hl 3 rfl) ?_
      obtain ⟨b17, r18, hw⟩ := hw
      refine m_getR hC hs hH cs5 fs5_13 (fun _ h => List.mem_cons_of_mem _ (inlX5 _ h)) (List.mem_cons_of_mem _ q_51) (fun _ h => h) k14 r18 dX5_rate_307 ?_
      refine lv_iload_n hC.1 hC.2.1 dX5_rate_310 rfl (lv_at hl 5 rfl) ?_
      obtain ⟨k19, hw⟩ := hw
      obtain ⟨i20, hw⟩ := hw
      refine m_iald hC hs hH k19 i20 dX5_rate_311 ?_
      refine lv_iconst (v := 0) hC.1 hC.2.1 dX5_rate_312 (by decide) ?_
      refine lv_sipush (v := 1800) hC.1 hC.2.1 dX5_rate_313 (by decide) ?_
      refine lv_iload hC.1 hC.2.1 dX5_rate_316 (lv_at hl 0 rfl) ?_
      refine lv_iconst (v := 0) hC.1 hC.2.1 dX5_rate_318 (by decide) ?_
      refine m_max hC hl.1 (List.mem_cons_of_mem _ q_522) (List.mem_cons_of_mem _ q_116) (List.mem_cons_of_mem _ q_117) (List.mem_cons_of_mem _ q_118) (Nat.le_of_ble_eq_true rfl) (Nat.le_of_ble_eq_true rfl) (Nat.le_of_ble_eq_true rfl) (Nat.le_of_ble_eq_true rfl) dX5_rate_319 ?_
      refine lv_isub hC.1 hC.2.1 dX5_rate_322 ?_
      refine m_max hC hl.1 (List.mem_cons_of_mem _ q_522) (List.mem_cons_of_mem _ q_116) (List.mem_cons_of_mem _ q_117) (List.mem_cons_of_mem _ q_118) (Nat.le_of_ble_eq_true rfl) (Nat.le_of_ble_eq_true rfl) (Nat.le_of_ble_eq_true rfl) (Nat.le_of_ble_eq_true rfl) dX5_rate_323 ?_
      refine m_min hC hl.1 (List.mem_cons_of_mem _ q_521) (List.mem_cons_of_mem _ q_143) (List.mem_cons_of_mem _ q_117) (List.mem_cons_of_mem _ q_144) (Nat.le_of_ble_eq_true rfl) (Nat.le_of_ble_eq_true rfl) (Nat.le_of_ble_eq_true rfl) (Nat.le_of_ble_eq_true rfl) dX5_rate_326 ?_
      obtain ⟨k21, hw⟩ := hw
      obtain ⟨i22, hw⟩ := hw
      have hw := hw _ rfl
      refine m_iast hC hs hH k21 i22 dX5_rate_329 (fun H locs hH => ?_)
      exact bw_X5_rate_330 hl0 hC hrt hlk hmn hnx hs _ _ _ _ _ _ _ hw _ _ hH _ (lv_sub hl [3, 5, 6, 2, 1, 0] rfl)
  · have hw := hw.2 hc
    refine lv_aload_n hC.1 hC.2.1 dX5_rate_189 rfl (lv_at hl 1 rfl) ?_
    obtain ⟨k24, hw⟩ := hw
    obtain ⟨b25, r26, hw⟩ := hw
    refine m_getR hC hs hH cs5 fs5_14 (fun _ h => List.mem_cons_of_mem _ (inlX5 _ h)) (List.mem_cons_of_mem _ q_52) (fun _ h => h) k24 r26 dX5_rate_190 ?_
    refine lv_iload_n hC.1 hC.2.1 dX5_rate_193 rfl (lv_at hl 3 rfl) ?_
    refine lv_aload_n hC.1 hC.2.1 dX5_rate_194 rfl (lv_at hl 1 rfl) ?_
    obtain ⟨b27, r28, hw⟩ := hw
    refine m_getR hC hs hH cs5 fs5_17 (fun _ h => List.mem_cons_of_mem _ (inlX5 _ h)) (List.mem_cons_of_mem _ q_55) (fun _ h => h) k24 r28 dX5_rate_195 ?_
    refine lv_iload hC.1 hC.2.1 dX5_rate_198 (lv_at hl 5 rfl) ?_
    obtain ⟨k29, hw⟩ := hw
    obtain ⟨i30, hw⟩ := hw
    refine m_iald hC hs hH k29 i30 dX5_rate_200 ?_
    refine lv_aload_n hC.1 hC.2.1 dX5_rate_201 rfl (lv_at hl 1 rfl) ?_
    obtain ⟨b31, r32, hw⟩ := hw
    refine m_getR hC hs hH cs5 fs5_13 (fun _ h => List.mem_cons_of_mem _ (inlX5 _ h)) (List.mem_cons_of_mem _ q_51) (fun _ h => h) k24 r32 dX5_rate_202 ?_
    refine lv_iload_n hC.1 hC.2.1 dX5_rate_205 rfl (lv_at hl 3 rfl) ?_
    obtain ⟨k33, hw⟩ := hw
    obtain ⟨i34, hw⟩ := hw
    refine m_iald hC hs hH k33 i34 dX5_rate_206 ?_
    refine m_min hC hl.1 (List.mem_cons_of_mem _ q_521) (List.mem_cons_of_mem _ q_143) (List.mem_cons_of_mem _ q_117) (List.mem_cons_of_mem _ q_144) (Nat.le_of_ble_eq_true rfl) (Nat.le_of_ble_eq_true rfl) (Nat.le_of_ble_eq_true rfl) (Nat.le_of_ble_eq_true rfl) dX5_rate_207 ?_
    obtain ⟨k35, hw⟩ := hw
    obtain ⟨i36, hw⟩ := hw
    have hw := hw _ rfl
    refine m_iast hC hs hH k35 i36 dX5_rate_210 (fun H locs hH => ?_)
    refine lv_aload_n hC.1 hC.2.1 dX5_rate_211 rfl (lv_at hl 1 rfl) ?_
    obtain ⟨b38, r39, hw⟩ := hw
    refine m_getR hC hs hH cs5 fs5_17 (fun _ h => List.mem_cons_of_mem _ (inlX5 _ h)) (List.mem_cons_of_mem _ q_55) (fun _ h => h) k24 r39 dX5_rate_212 ?_
    refine lv_iload hC.1 hC.2.1 dX5_rate_215 (lv_at hl 5 rfl) ?_
    refine lv_dup2_11 hC.1 hC.2.1 dX5_rate_217 rfl rfl ?_
    obtain ⟨k40, hw⟩ := hw
    obtain ⟨i41, hw⟩ := hw
    refine m_iald hC hs hH k40 i41 dX5_rate_218 ?_
    refine lv_aload_n hC.1 hC.2.1 dX5_rate_219 rfl (lv_at hl 1 rfl) ?_
    obtain ⟨b42, r43, hw⟩ := hw
    refine m_getR hC hs hH cs5 fs5_14 (fun _ h => List.mem_cons_of_mem _ (inlX5 _ h)) (List.mem_cons_of_mem _ q_52) (fun _ h => h) k24 r43 dX5_rate_220 ?_
    refine lv_iload_n hC.1 hC.2.1 dX5_rate_223 rfl (lv_at hl 3 rfl) ?_
    obtain ⟨k44, hw⟩ := hw
    obtain ⟨i45, hw⟩ := hw
    refine m_iald hC hs hH k44 i45 dX5_rate_224 ?_
    refine lv_isub hC.1 hC.2.1 dX5_rate_225 ?_
    obtain ⟨i46, hw⟩ := hw
    have hw := hw _ rfl
    refine m_iast hC hs hH k40 i46 dX5_rate_226 (fun H locs hH => ?_)
    refine lv_aload_n hC.1 hC.2.1 dX5_rate_227 rfl (lv_at hl 1 rfl) ?_
    obtain ⟨b48, r49, hw⟩ := hw
    refine m_getR hC hs hH cs5 fs5_14 (fun _ h => List.mem_cons_of_mem _ (inlX5 _ h)) (List.mem_cons_of_mem _ q_52) (fun _ h => h) k24 r49 dX5_rate_228 ?_
    refine lv_iload_n hC.1 hC.2.1 dX5_rate_231 rfl (lv_at hl 3 rfl) ?_
    obtain ⟨k50, hw⟩ := hw
    obtain ⟨i51, hw⟩ := hw
    refine m_iald hC hs hH k50 i51 dX5_rate_232 ?_
    refine lv_if_le (tgt := 344) hC.1 hC.2.1 dX5_rate_233 (by decide) (fun hc => ?_) (fun hc => ?_)
    · have hw := hw.1 hc
      exact bw_X5_rate_344 hl0 hC hrt hlk hmn hnx hs _ _ _ _ _ hw _ _ hH _ (lv_sub hl [1, 3, 4, 0] rfl)
    · have hw := hw.2 hc
      refine lv_aload_n hC.1 hC.2.1 dX5_rate_236 rfl (lv_at hl 1 rfl) ?_
      obtain ⟨b52, r53, hw⟩ := hw
      refine m_getR hC hs hH cs5 fs5_17 (fun _ h => List.mem_cons_of_mem _ (inlX5 _ h)) (List.mem_cons_of_mem _ q_55) (fun _ h => h) k24 r53 dX5_rate_237 ?_
      refine lv_iload hC.1 hC.2.1 dX5_rate_240 (lv_at hl 5 rfl) ?_
      obtain ⟨k54, hw⟩ := hw
      obtain ⟨i55, hw⟩ := hw
      refine m_iald hC hs hH k54 i55 dX5_rate_242 ?_
      refine lv_if_ne (tgt := 344) hC.1 hC.2.1 dX5_rate_243 (by decide) (fun hc => ?_) (fun hc => ?_)
      · have hw := hw.1 hc
        exact bw_X5_rate_344 hl0 hC hrt hlk hmn hnx hs _ _ _ _ _ hw _ _ hH _ (lv_sub hl [1, 3, 4, 0] rfl)
      · have hw := hw.2 hc
        refine lv_aload_n hC.1 hC.2.1 dX5_rate_246 rfl (lv_at hl 1 rfl) ?_
        obtain ⟨b56, r57, hw⟩ := hw
        refine m_getR hC hs hH cs5 fs5_18 (fun _ h => List.mem_cons_of_mem _ (inlX5 _ h)) (List.mem_cons_of_mem _ q_56) (fun _ h => h) k24 r57 dX5_rate_247 ?_
        refine lv_iload hC.1 hC.2.1 dX5_rate_250 (lv_at hl 5 rfl) ?_
        refine lv_iload_n hC.1 hC.2.1 dX5_rate_252 rfl (lv_at hl 3 rfl) ?_
        obtain ⟨k58, hw⟩ := hw
        obtain ⟨i59, hw⟩ := hw
        have hw := hw _ rfl
        refine m_iast hC hs hH k58 i59 dX5_rate_253 (fun H locs hH => ?_)
        refine lv_goto (tgt := 344) hC.1 hC.2.1 dX5_rate_254 (by decide) ?_
        exact bw_X5_rate_344 hl0 hC hrt hlk hmn hnx hs _ _ _ _ _ hw _ _ hH _ (lv_sub hl [1, 3, 4, 0] rfl)
set_option maxHeartbeats 4000000 in
set_option maxRecDepth 100000 in
theorem bw_X5_rate_152 {p : Program} {l : Launch} {e : Env} {s : State} {m : MethodId} {args : Array Value} {below : List Frame} {meth : Method} {c : Code} {g : mG} {Q : mmS → Prop} {X : String → mmS → Prop} (hl0 : l.stackTraces = false) (hC : CallFix p m c cX5_rate 12 s args (wA_ yX5_rate cX5_rate 12 none) RX5) (hrt : meth.sig.returnType = none) (hlk : meth.locks = false) (hmn : meth.name = yX5_rate.name) (hnx : ∀ x ∈ c.exceptionTable.toList, False) (hs : mX g s) : ∀ (S : mmS) (x0 : Nat) (x1 : Int32) (x2 : Int32) (x4 : Int32) (x5 : Int32) (x6 : Int32) (t0 : Nat) (t1 : Int32) (t2 : Int32), bk_X5_rate_152 g.2.2.2.2.2 Q X S x0 x1 x2 x4 x5 x6 t0 t1 t2 → ∀ (H : Heap) (locs : List Loc), mH g S s H locs → ∀ ls : Array Slot, lv_has ls 12 [(0, .ref x0), (1, .int x1), (2, .int x2), (4, .int x4), (5, .int x5), (6, .int x6)] → W p l e rm_X5_rate s m args below meth c H locs 0 0 (vx_MQ below (va_Qv Q (wO g) (mB g)) (vx_X (fun _ : mmS => True) (fun E S1 t => X E S1 ∧ wO g S1 t) (mB g)) args s rm_X5_rate.cells rm_X5_rate.slots (mB g)) (F0 m 152 ls [.int t2, .int t1, .ref t0]) := by
  intro S x0 x1 x2 x4 x5 x6 t0 t1 t2 hw H locs hH ls hl
  unfold bk_X5_rate_152 at hw
  obtain ⟨k1, hw⟩ := hw
  obtain ⟨i2, hw⟩ := hw
  have hw := hw _ rfl
  refine m_iast hC hs hH k1 i2 dX5_rate_152 (fun H locs hH => ?_)
  refine lv_aload_n hC.1 hC.2.1 dX5_rate_153 rfl (lv_at hl 0 rfl) ?_
  refine lv_iload_n hC.1 hC.2.1 dX5_rate_154 rfl (lv_at hl 2 rfl) ?_
  obtain ⟨k5, hw⟩ := hw
  refine m_callVi (y := yX5_isInPeak) (rest := []) hC hs hH hl.1 (cwV 1 hC.2.2.2.2 (gA_V q_491 q_492 q_493 q_5 q_494) rfl rfl rfl (by decide +kernel) ⟨Nat.le_of_ble_eq_true rfl, Nat.le_of_ble_eq_true rfl⟩) cs5 k5 (met_X5_isInPeak l hl0 g _ _ _ _ _ hw) rfl rfl (Nat.le_of_ble_eq_true rfl) dX5_rate_155 ⟨Nat.le_of_ble_eq_true rfl, Nat.le_of_ble_eq_true rfl⟩ (m_out (fun x hx => (hnx x hx).elim) hlk (Nat.le_of_ble_eq_true rfl) (Nat.le_of_ble_eq_true rfl)) (fun r6 S1 H locs hw hH => ?_)
  refine W.widen (k := 0) (n := 0) (Nat.le_of_ble_eq_true rfl) (Nat.le_of_ble_eq_true rfl) ?_
  refine lv_if_eq (tgt := 173) hC.1 hC.2.1 dX5_rate_158 (by decide) (fun hc => ?_) (fun hc => ?_)
  · have hw := hw.1 hc
    refine lv_aload_n hC.1 hC.2.1 dX5_rate_173 rfl (lv_at hl 0 rfl) ?_
    obtain ⟨k7, hw⟩ := hw
    obtain ⟨b8, r9, hw⟩ := hw
    refine m_getR hC hs hH cs5 fs5_2 (fun _ h => List.mem_cons_of_mem _ (inlX5 _ h)) (List.mem_cons_of_mem _ q_43) (fun _ h => h) k7 r9 dX5_rate_174 ?_
    refine lv_iload hC.1 hC.2.1 dX5_rate_177 (lv_at hl 3 rfl) ?_
    refine lv_iconst (v := 2) hC.1 hC.2.1 dX5_rate_179 (by decide) ?_
    refine lv_iadd hC.1 hC.2.1 dX5_rate_180 ?_
    obtain ⟨k10, hw⟩ := hw
    obtain ⟨i11, hw⟩ := hw
    refine m_iald hC hs hH k10 i11 dX5_rate_181 ?_
    exact bw_X5_rate_182 hl0 hC hrt hlk hmn hnx hs _ _ _ _ _ _ _ _ hw _ _ hH _ (lv_sub hl [0, 1, 2, 3, 4, 5] rfl)
  · have hw := hw.2 hc
    refine lv_aload_n hC.1 hC.2.1 dX5_rate_161 rfl (lv_at hl 0 rfl) ?_
    obtain ⟨k12, hw⟩ := hw
    obtain ⟨b13, r14, hw⟩ := hw
    refine m_getR hC hs hH cs5 fs5_2 (fun _ h => List.mem_cons_of_mem _ (inlX5 _ h)) (List.mem_cons_of_mem _ q_43) (fun _ h => h) k12 r14 dX5_rate_162 ?_
    refine lv_iload hC.1 hC.2.1 dX5_rate_165 (lv_at hl 3 rfl) ?_
    refine lv_iconst (v := 1) hC.1 hC.2.1 dX5_rate_167 (by decide) ?_
    refine lv_iadd hC.1 hC.2.1 dX5_rate_168 ?_
    obtain ⟨k15, hw⟩ := hw
    obtain ⟨i16, hw⟩ := hw
    refine m_iald hC hs hH k15 i16 dX5_rate_169 ?_
    refine lv_goto (tgt := 182) hC.1 hC.2.1 dX5_rate_170 (by decide) ?_
    exact bw_X5_rate_182 hl0 hC hrt hlk hmn hnx hs _ _ _ _ _ _ _ _ hw _ _ hH _ (lv_sub hl [0, 1, 2, 3, 4, 5] rfl)
set_option maxHeartbeats 4000000 in
set_option maxRecDepth 100000 in
theorem met_X5_rate (l : Launch) (hl0 : l.stackTraces = false) (g : mG) (S : mmS) (p0 : Nat) (p1 : Int32) (Q : mmS → Prop) (X : String → mmS → Prop) (hw : wp_X5_rate g.2.2.2.2.2 S p0 p1 Q X) : mMv l g yX5_rate (wA_ yX5_rate cX5_rate 12 none) rm_X5_rate [.ref p0, .int p1] S Q X := by
  refine m_of (y := yX5_rate) (cc := cX5_rate) (maxL := 12) (ret := none) (by decide) rfl (Nat.le_of_ble_eq_true rfl) ?_
  intro p e s m args below meth c ls hC hrt hlk hmn hnx hs hH hl
  have hC : CallFix p m c cX5_rate 12 s args (wA_ yX5_rate cX5_rate 12 none) RX5 := hC
  have hl : lv_has ls 12 [(0, .ref p0), (1, .int p1)] := hl
  unfold wp_X5_rate at hw
  refine lv_aload_n hC.1 hC.2.1 dX5_rate_0 rfl (lv_at hl 0 rfl) ?_
  obtain ⟨k1, hw⟩ := hw
  obtain ⟨b2, r3, hw⟩ := hw
  refine m_getR hC hs hH cs5 fs5_12 (fun _ h => List.mem_cons_of_mem _ (inlX5 _ h)) (List.mem_cons_of_mem _ q_50) (fun _ h => h) k1 r3 dX5_rate_1 ?_
  refine lv_iload_n hC.1 hC.2.1 dX5_rate_4 rfl (lv_at hl 1 rfl) ?_
  obtain ⟨k4, hw⟩ := hw
  obtain ⟨i5, hw⟩ := hw
  refine m_iald hC hs hH k4 i5 dX5_rate_5 ?_
  have hw := hw _ rfl
  refine lv_istore_n (lv' := [(2, .int _), (0, .ref _), (1, .int _)]) hC.1 hC.2.1 dX5_rate_6 rfl hl (by decide) rfl (fun ls hl => ?_)
  refine lv_aload_n hC.1 hC.2.1 dX5_rate_7 rfl (lv_at hl 1 rfl) ?_
  obtain ⟨b7, r8, hw⟩ := hw
  refine m_getR hC hs hH cs5 fs5_9 (fun _ h => List.mem_cons_of_mem _ (inlX5 _ h)) (List.mem_cons_of_mem _ q_47) (fun _ h => h) k1 r8 dX5_rate_8 ?_
  refine lv_iconst (v := 4) hC.1 hC.2.1 dX5_rate_11 (by decide) ?_
  refine lv_iload_n hC.1 hC.2.1 dX5_rate_12 rfl (lv_at hl 0 rfl) ?_
  refine lv_imul hC.1 hC.2.1 dX5_rate_13 ?_
  refine lv_iconst (v := 2) hC.1 hC.2.1 dX5_rate_14 (by decide) ?_
  refine lv_iadd hC.1 hC.2.1 dX5_rate_15 ?_
  obtain ⟨k9, hw⟩ := hw
  obtain ⟨i10, hw⟩ := hw
  refine m_iald hC hs hH k9 i10 dX5_rate_16 ?_
  have hw := hw _ rfl
  refine lv_istore_n (lv' := [(3, .int _), (2, .int _), (0, .ref _), (1, .int _)]) hC.1 hC.2.1 dX5_rate_17 rfl hl (by decide) rfl (fun ls hl => ?_)
  refine lv_aload_n hC.1 hC.2.1 dX5_rate_18 rfl (lv_at hl 2 rfl) ?_
  obtain ⟨b12, r13, hw⟩ := hw
  refine m_getR hC hs hH cs5 fs5_13 (fun _ h => List.mem_cons_of_mem _ (inlX5 _ h)) (List.mem_cons_of_mem _ q_51) (fun _ h => h) k1 r13 dX5_rate_19 ?_
  refine lv_iload_n hC.1 hC.2.1 dX5_rate_22 rfl (lv_at hl 1 rfl) ?_
  refine lv_iconst (v := 0) hC.1 hC.2.1 dX5_rate_23 (by decide) ?_
  obtain ⟨k14, hw⟩ := hw
  obtain ⟨i15, hw⟩ := hw
  have hw := hw _ rfl
  refine m_iast hC hs hH k14 i15 dX5_rate_24 (fun H locs hH => ?_)
  refine lv_aload_n hC.1 hC.2.1 dX5_rate_25 rfl (lv_at hl 2 rfl) ?_
  obtain ⟨b17, r18, hw⟩ := hw
  refine m_getR hC hs hH cs5 fs5_14 (fun _ h => List.mem_cons_of_mem _ (inlX5 _ h)) (List.mem_cons_of_mem _ q_52) (fun _ h => h) k1 r18 dX5_rate_26 ?_
  refine lv_iload_n hC.1 hC.2.1 dX5_rate_29 rfl (lv_at hl 1 rfl) ?_
  refine lv_iconst (v := 0) hC.1 hC.2.1 dX5_rate_30 (by decide) ?_
  obtain ⟨k19, hw⟩ := hw
  obtain ⟨i20, hw⟩ := hw
  have hw := hw _ rfl
  refine m_iast hC hs hH k19 i20 dX5_rate_31 (fun H locs hH => ?_)
  refine lv_aload_n hC.1 hC.2.1 dX5_rate_32 rfl (lv_at hl 2 rfl) ?_
  obtain ⟨b22, r23, hw⟩ := hw
  refine m_getR hC hs hH cs5 fs5_15 (fun _ h => List.mem_cons_of_mem _ (inlX5 _ h)) (List.mem_cons_of_mem _ q_53) (fun _ h => h) k1 r23 dX5_rate_33 ?_
  refine lv_iload_n hC.1 hC.2.1 dX5_rate_36 rfl (lv_at hl 1 rfl) ?_
  refine lv_iconst (v := 0) hC.1 hC.2.1 dX5_rate_37 (by decide) ?_
  obtain ⟨k24, hw⟩ := hw
  obtain ⟨i25, hw⟩ := hw
  have hw := hw _ rfl
  refine m_iast hC hs hH k24 i25 dX5_rate_38 (fun H locs hH => ?_)
  refine lv_aload_n hC.1 hC.2.1 dX5_rate_39 rfl (lv_at hl 2 rfl) ?_
  obtain ⟨b27, r28, hw⟩ := hw
  refine m_getR hC hs hH cs5 fs5_16 (fun _ h => List.mem_cons_of_mem _ (inlX5 _ h)) (List.mem_cons_of_mem _ q_54) (fun _ h => h) k1 r28 dX5_rate_40 ?_
  refine lv_iload_n hC.1 hC.2.1 dX5_rate_43 rfl (lv_at hl 1 rfl) ?_
  refine lv_iconst (v := 0) hC.1 hC.2.1 dX5_rate_44 (by decide) ?_
  obtain ⟨k29, hw⟩ := hw
  obtain ⟨i30, hw⟩ := hw
  have hw := hw _ rfl
  refine m_iast hC hs hH k29 i30 dX5_rate_45 (fun H locs hH => ?_)
  refine lv_iload_n hC.1 hC.2.1 dX5_rate_46 rfl (lv_at hl 0 rfl) ?_
  refine lv_if_ne (tgt := 51) hC.1 hC.2.1 dX5_rate_47 (by decide) (fun hc => ?_) (fun hc => ?_)
  · have hw := hw.1 hc
    refine lv_bipush (v := 9) hC.1 hC.2.1 dX5_rate_51 (by decide) ?_
    refine lv_aload_n hC.1 hC.2.1 dX5_rate_53 rfl (lv_at hl 2 rfl) ?_
    obtain ⟨b32, r33, hw⟩ := hw
    refine m_getR hC hs hH cs5 fs5_7 (fun _ h => List.mem_cons_of_mem _ (inlX5 _ h)) (List.mem_cons_of_mem _ q_46) (fun _ h => h) k1 r33 dX5_rate_54 ?_
    refine lv_aload_n hC.1 hC.2.1 dX5_rate_57 rfl (lv_at hl 2 rfl) ?_
    obtain ⟨b34, r35, hw⟩ := hw
    refine m_getR hC hs hH cs5 fs5_9 (fun _ h => List.mem_cons_of_mem _ (inlX5 _ h)) (List.mem_cons_of_mem _ q_47) (fun _ h => h) k1 r35 dX5_rate_58 ?_
    refine lv_iconst (v := 4) hC.1 hC.2.1 dX5_rate_61 (by decide) ?_
    refine lv_iload_n hC.1 hC.2.1 dX5_rate_62 rfl (lv_at hl 1 rfl) ?_
    refine lv_imul hC.1 hC.2.1 dX5_rate_63 ?_
    obtain ⟨k36, hw⟩ := hw
    obtain ⟨i37, hw⟩ := hw
    refine m_iald hC hs hH k36 i37 dX5_rate_64 ?_
    obtain ⟨k38, hw⟩ := hw
    obtain ⟨i39, hw⟩ := hw
    refine m_iald hC hs hH k38 i39 dX5_rate_65 ?_
    refine lv_imul hC.1 hC.2.1 dX5_rate_66 ?_
    have hw := hw _ rfl
    refine lv_istore (lv' := [(4, .int _), (3, .int _), (2, .int _), (0, .ref _), (1, .int _)]) hC.1 hC.2.1 dX5_rate_67 hl (by decide) rfl (fun ls hl => ?_)
    refine lv_aload_n hC.1 hC.2.1 dX5_rate_69 rfl (lv_at hl 3 rfl) ?_
    obtain ⟨b41, r42, hw⟩ := hw
    refine m_getR hC hs hH cs5 fs5_6 (fun _ h => List.mem_cons_of_mem _ (inlX5 _ h)) (List.mem_cons_of_mem _ q_45) (fun _ h => h) k1 r42 dX5_rate_70 ?_
    refine lv_aload_n hC.1 hC.2.1 dX5_rate_73 rfl (lv_at hl 3 rfl) ?_
    obtain ⟨b43, r44, hw⟩ := hw
    refine m_getR hC hs hH cs5 fs5_9 (fun _ h => List.mem_cons_of_mem _ (inlX5 _ h)) (List.mem_cons_of_mem _ q_47) (fun _ h => h) k1 r44 dX5_rate_74 ?_
    refine lv_iconst (v := 4) hC.1 hC.2.1 dX5_rate_77 (by decide) ?_
    refine lv_iload_n hC.1 hC.2.1 dX5_rate_78 rfl (lv_at hl 2 rfl) ?_
    refine lv_imul hC.1 hC.2.1 dX5_rate_79 ?_
    obtain ⟨k45, hw⟩ := hw
    obtain ⟨i46, hw⟩ := hw
    refine m_iald hC hs hH k45 i46 dX5_rate_80 ?_
    obtain ⟨k47, hw⟩ := hw
    obtain ⟨i48, hw⟩ := hw
    refine m_iald hC hs hH k47 i48 dX5_rate_81 ?_
    have hw := hw _ rfl
    refine lv_istore (lv' := [(5, .int _), (4, .int _), (3, .int _), (2, .int _), (0, .ref _), (1, .int _)]) hC.1 hC.2.1 dX5_rate_82 hl (by decide) rfl (fun ls hl => ?_)
    refine lv_aload_n hC.1 hC.2.1 dX5_rate_84 rfl (lv_at hl 4 rfl) ?_
    obtain ⟨b50, r51, hw⟩ := hw
    refine m_getR hC hs hH cs5 fs5_9 (fun _ h => List.mem_cons_of_mem _ (inlX5 _ h)) (List.mem_cons_of_mem _ q_47) (fun _ h => h) k1 r51 dX5_rate_85 ?_
    refine lv_iconst (v := 4) hC.1 hC.2.1 dX5_rate_88 (by decide) ?_
    refine lv_iload_n hC.1 hC.2.1 dX5_rate_89 rfl (lv_at hl 3 rfl) ?_
    refine lv_imul hC.1 hC.2.1 dX5_rate_90 ?_
    refine lv_iconst (v := 3) hC.1 hC.2.1 dX5_rate_91 (by decide) ?_
    refine lv_iadd hC.1 hC.2.1 dX5_rate_92 ?_
    obtain ⟨k52, hw⟩ := hw
    obtain ⟨i53, hw⟩ := hw
    refine m_iald hC hs hH k52 i53 dX5_rate_93 ?_
    have hw := hw _ rfl
    refine lv_istore (lv' := [(6, .int _), (5, .int _), (4, .int _), (3, .int _), (2, .int _), (0, .ref _), (1, .int _)]) hC.1 hC.2.1 dX5_rate_94 hl (by decide) rfl (fun ls hl => ?_)
    refine lv_aload_n hC.1 hC.2.1 dX5_rate_96 rfl (lv_at hl 5 rfl) ?_
    obtain ⟨b55, r56, hw⟩ := hw
    refine m_getR hC hs hH cs5 fs5_2 (fun _ h => List.mem_cons_of_mem _ (inlX5 _ h)) (List.mem_cons_of_mem _ q_43) (fun _ h => h) k1 r56 dX5_rate_97 ?_
    refine lv_iload hC.1 hC.2.1 dX5_rate_100 (lv_at hl 2 rfl) ?_
    refine lv_iconst (v := 3) hC.1 hC.2.1 dX5_rate_102 (by decide) ?_
    refine lv_iadd hC.1 hC.2.1 dX5_rate_103 ?_
    obtain ⟨k57, hw⟩ := hw
    obtain ⟨i58, hw⟩ := hw
    refine m_iald hC hs hH k57 i58 dX5_rate_104 ?_
    have hw := hw _ rfl
    refine lv_istore (lv' := [(7, .int _), (6, .int _), (5, .int _), (4, .int _), (3, .int _), (2, .int _), (0, .ref _), (1, .int _)]) hC.1 hC.2.1 dX5_rate_105 hl (by decide) rfl (fun ls hl => ?_)
    refine lv_aload_n hC.1 hC.2.1 dX5_rate_107 rfl (lv_at hl 6 rfl) ?_
    obtain ⟨b60, r61, hw⟩ := hw
    refine m_getR hC hs hH cs5 fs5_2 (fun _ h => List.mem_cons_of_mem _ (inlX5 _ h)) (List.mem_cons_of_mem _ q_43) (fun _ h => h) k1 r61 dX5_rate_108 ?_
    refine lv_iload hC.1 hC.2.1 dX5_rate_111 (lv_at hl 3 rfl) ?_
    refine lv_iconst (v := 4) hC.1 hC.2.1 dX5_rate_113 (by decide) ?_
    refine lv_iadd hC.1 hC.2.1 dX5_rate_114 ?_
    obtain ⟨k62, hw⟩ := hw
    obtain ⟨i63, hw⟩ := hw
    refine m_iald hC hs hH k62 i63 dX5_rate_115 ?_
    have hw := hw _ rfl
    refine lv_istore (lv' := [(8, .int _), (7, .int _), (6, .int _), (5, .int _), (4, .int _), (3, .int _), (2, .int _), (0, .ref _), (1, .int _)]) hC.1 hC.2.1 dX5_rate_116 hl (by decide) rfl (fun ls hl => ?_)
    refine lv_aload_n hC.1 hC.2.1 dX5_rate_118 rfl (lv_at hl 7 rfl) ?_
    obtain ⟨b65, r66, hw⟩ := hw
    refine m_getR hC hs hH cs5 fs5_13 (fun _ h => List.mem_cons_of_mem _ (inlX5 _ h)) (List.mem_cons_of_mem _ q_51) (fun _ h => h) k1 r66 dX5_rate_119 ?_
    refine lv_iload_n hC.1 hC.2.1 dX5_rate_122 rfl (lv_at hl 6 rfl) ?_
    refine lv_iload_n hC.1 hC.2.1 dX5_rate_123 rfl (lv_at hl 5 rfl) ?_
    refine lv_iload hC.1 hC.2.1 dX5_rate_124 (lv_at hl 1 rfl) ?_
    refine lv_icmp_gt (tgt := 134) hC.1 hC.2.1 dX5_rate_126 (by decide) (fun hc => ?_) (fun hc => ?_)
    · have hw := hw.1 hc
      refine lv_iload hC.1 hC.2.1 dX5_rate_134 (lv_at hl 1 rfl) ?_
      refine lv_iload_n hC.1 hC.2.1 dX5_rate_136 rfl (lv_at hl 5 rfl) ?_
      refine lv_iload hC.1 hC.2.1 dX5_rate_137 (lv_at hl 1 rfl) ?_
      refine lv_isub hC.1 hC.2.1 dX5_rate_139 ?_
      refine lv_iload hC.1 hC.2.1 dX5_rate_140 (lv_at hl 0 rfl) ?_
      refine lv_iadd hC.1 hC.2.1 dX5_rate_142 ?_
      refine lv_iconst (v := 1) hC.1 hC.2.1 dX5_rate_143 (by decide) ?_
      refine lv_isub hC.1 hC.2.1 dX5_rate_144 ?_
      refine lv_iload hC.1 hC.2.1 dX5_rate_145 (lv_at hl 0 rfl) ?_
      obtain ⟨z67, hw⟩ := hw
      refine lv_idiv hC.1 hC.2.1 dX5_rate_147 z67 ?_
      refine lv_iload hC.1 hC.2.1 dX5_rate_148 (lv_at hl 0 rfl) ?_
      refine lv_imul hC.1 hC.2.1 dX5_rate_150 ?_
      refine lv_iadd hC.1 hC.2.1 dX5_rate_151 ?_
      exact bw_X5_rate_152 hl0 hC hrt hlk hmn hnx hs _ _ _ _ _ _ _ _ _ _ hw _ _ hH _ (lv_sub hl [7, 8, 6, 4, 3, 2] rfl)
    · have hw := hw.2 hc
      refine lv_iload hC.1 hC.2.1 dX5_rate_129 (lv_at hl 1 rfl) ?_
      refine lv_goto (tgt := 152) hC.1 hC.2.1 dX5_rate_131 (by decide) ?_
      exact bw_X5_rate_152 hl0 hC hrt hlk hmn hnx hs _ _ _ _ _ _ _ _ _ _ hw _ _ hH _ (lv_sub hl [7, 8, 6, 4, 3, 2] rfl)
  · have hw := hw.2 hc
    exact m_retv hC hH hrt hlk (Nat.le_of_ble_eq_true rfl) (Nat.le_of_ble_eq_true rfl) dX5_rate_50 hw
abbrev rm_X5_rateAll : Room := { frames := 4, cells := 0, slots := 0, locals := 81 }
def bk_X5_rateAll_39 (z : Nat × Nat) (Q : mmS → Prop) (X : String → mmS → Prop) (K39 : mmS → Nat → Int32 → Prop) (S : mmS) (x0 : Nat) (x1 : Int32) : Prop := (x0 ∈ mL S ∧ mK S x0 = 5) ∧ ((mI S 27 x0) ≤ x1 → Q S) ∧ (¬ (mI S 27 x0) ≤ x1 → wp_X5_rate z S x0 x1 (fun S2 => ∀ v3 : Int32, v3 = x1 + 1 → K39 S2 x0 v3) X)
def lp_X5_rateAll_39 (z : Nat × Nat) (Q : mmS → Prop) (X : String → mmS → Prop) : Nat → mmS → Nat → Int32 → Prop
  | 0 => fun _ _ _ => False
  | n + 1 => bk_X5_rateAll_39 z Q X (lp_X5_rateAll_39 z Q X n)
def bk_X5_rateAll_2 (z : Nat × Nat) (Q : mmS → Prop) (X : String → mmS → Prop) (K2 : mmS → Nat → Int32 → Prop) (S : mmS) (x0 : Nat) (x1 : Int32) : Prop := (x0 ∈ mL S ∧ mK S x0 = 5) ∧ ((mI S 25 x0) ≤ x1 → ∀ v2 : Int32, v2 = (0 : Int32) → ∃ n : Nat, lp_X5_rateAll_39 z Q X n S x0 v2) ∧ (¬ (mI S 25 x0) ≤ x1 → ∃ b3 : Nat, mR S 23 x0 = some b3 ∧ ∃ b5 : Nat, mR S 14 x0 = some b5 ∧ (b5 ∈ mL S ∧ mK S b5 = 7) ∧ vp_in ((3 : Int32) * x1) (mN S b5) ∧ (b3 ∈ mL S ∧ mK S b3 = 7) ∧ vp_in x1 (mN S b3) ∧ ∀ S11 : mmS, S11 = sA S b3 (x1).toNatClampNeg (mA S b5 ((3 : Int32) * x1).toNatClampNeg) → ∃ b12 : Nat, mR S11 24 x0 = some b12 ∧ (b12 ∈ mL S11 ∧ mK S11 b12 = 7) ∧ vp_in x1 (mN S11 b12) ∧ ∀ S16 : mmS, S16 = sA S11 b12 (x1).toNatClampNeg (-1 : Int32) → ∀ v17 : Int32, v17 = x1 + 1 → K2 S16 x0 v17)
def lp_X5_rateAll_2 (z : Nat × Nat) (Q : mmS → Prop) (X : String → mmS → Prop) : Nat → mmS → Nat → Int32 → Prop
  | 0 => fun _ _ _ => False
  | n + 1 => bk_X5_rateAll_2 z Q X (lp_X5_rateAll_2 z Q X n)
def wp_X5_rateAll (z : Nat × Nat) (S : mmS) (p0 : Nat) (Q : mmS → Prop) (X : String → mmS → Prop) : Prop := ∀ v1 : Int32, v1 = (0 : Int32) → ∃ n : Nat, lp_X5_rateAll_2 z Q X n S p0 v1
set_option maxHeartbeats 4000000 in
set_option maxRecDepth 100000 in
theorem bw_X5_rateAll_39 {p : Program} {l : Launch} {e : Env} {s : State} {m : MethodId} {args : Array Value} {below : List Frame} {meth : Method} {c : Code} {g : mG} {Q : mmS → Prop} {X : String → mmS → Prop} (hl0 : l.stackTraces = false) (hC : CallFix p m c cX5_rateAll 2 s args (wA_ yX5_rateAll cX5_rateAll 2 none) RX5) (hrt : meth.sig.returnType = none) (hlk : meth.locks = false) (hmn : meth.name = yX5_rateAll.name) (hnx : ∀ x ∈ c.exceptionTable.toList, False) (hs : mX g s) {K39 : mmS → Nat → Int32 → Prop} (hk39 : ∀ (S : mmS) (x0 : Nat) (x1 : Int32), K39 S x0 x1 → ∀ (H : Heap) (locs : List Loc), mH g S s H locs → ∀ ls : Array Slot, lv_has ls 2 [(0, .ref x0), (1, .int x1)] → W p l e rm_X5_rateAll s m args below meth c H locs 0 0 (vx_MQ below (va_Qv Q (wO g) (mB g)) (vx_X (fun _ : mmS => True) (fun E S1 t => X E S1 ∧ wO g S1 t) (mB g)) args s rm_X5_rateAll.cells rm_X5_rateAll.slots (mB g)) (F0 m 39 ls [])) : ∀ (S : mmS) (x0 : Nat) (x1 : Int32), bk_X5_rateAll_39 g.2.2.2.2.2 Q X K39 S x0 x1 → ∀ (H : Heap) (locs : List Loc), mH g S s H locs → ∀ ls : Array Slot, lv_has ls 2 [(0, .ref x0), (1, .int x1)] → W p l e rm_X5_rateAll s m args below meth c H locs 0 0 (vx_MQ below (va_Qv Q (wO g) (mB g)) (vx_X (fun _ : mmS => True) (fun E S1 t => X E S1 ∧ wO g S1 t) (mB g)) args s rm_X5_rateAll.cells rm_X5_rateAll.slots (mB g)) (F0 m 39 ls []) := by
  intro S x0 x1 hw H locs hH ls hl
  unfold bk_X5_rateAll_39 at hw
  refine lv_iload_n hC.1 hC.2.1 dX5_rateAll_39 rfl (lv_at hl 1 rfl) ?_
  refine lv_aload_n hC.1 hC.2.1 dX5_rateAll_40 rfl (lv_at hl 0 rfl) ?_
  obtain ⟨k1, hw⟩ := hw
  refine m_getI hC hs hH cs5 fs5_8 (fun _ h => List.mem_cons_of_mem _ (inlX5 _ h)) (List.mem_cons_of_mem _ q_440) (fun _ h => h) k1 dX5_rateAll_41 ?_
  refine lv_icmp_ge (tgt := 58) hC.1 hC.2.1 dX5_rateAll_44 (by decide) (fun hc => ?_) (fun hc => ?_)
  · have hw := hw.1 hc
    exact m_retv hC hH hrt hlk (Nat.le_of_ble_eq_true rfl) (Nat.le_of_ble_eq_true rfl) dX5_rateAll_58 hw
  · have hw := hw.2 hc
    refine lv_aload_n hC.1 hC.2.1 dX5_rateAll_47 rfl (lv_at hl 0 rfl) ?_
    refine lv_iload_n hC.1 hC.2.1 dX5_rateAll_48 rfl (lv_at hl 1 rfl) ?_
    refine m_callVv (y := yX5_rate) (rest := []) hC hs hH hl.1 (cwV 1 hC.2.2.2.2 (gA_V q_517 q_518 q_519 q_5 q_520) rfl rfl rfl (by decide +kernel) ⟨Nat.le_of_ble_eq_true rfl, Nat.le_of_ble_eq_true rfl⟩) cs5 k1 (met_X5_rate l hl0 g _ _ _ _ _ hw) rfl rfl (Nat.le_of_ble_eq_true rfl) dX5_rateAll_49 ⟨Nat.le_of_ble_eq_true rfl, Nat.le_of_ble_eq_true rfl⟩ (m_out (fun x hx => (hnx x hx).elim) hlk (Nat.le_of_ble_eq_true rfl) (Nat.le_of_ble_eq_true rfl)) (fun S1 H locs hw hH => ?_)
    refine W.widen (k := 0) (n := 0) (Nat.le_of_ble_eq_true rfl) (Nat.le_of_ble_eq_true rfl) ?_
    have hw := hw _ rfl
    refine lv_iinc (lv' := [(1, .int _), (0, .ref _)]) hC.1 hC.2.1 dX5_rateAll_52 hl (k := 1) rfl (rfl : (_ : Int32) + Int32.ofInt 1 = (_ : Int32) + 1) (by decide) rfl (fun ls hl => ?_)
    refine lv_goto (tgt := 39) hC.1 hC.2.1 dX5_rateAll_55 (by decide) ?_
    exact hk39 _ _ _ hw _ _ hH _ (lv_sub hl [1, 0] rfl)
theorem lw_X5_rateAll_39 {p : Program} {l : Launch} {e : Env} {s : State} {m : MethodId} {args : Array Value} {below : List Frame} {meth : Method} {c : Code} {g : mG} {Q : mmS → Prop} {X : String → mmS → Prop} (hl0 : l.stackTraces = false) (hC : CallFix p m c cX5_rateAll 2 s args (wA_ yX5_rateAll cX5_rateAll 2 none) RX5) (hrt : meth.sig.returnType = none) (hlk : meth.locks = false) (hmn : meth.name = yX5_rateAll.name) (hnx : ∀ x ∈ c.exceptionTable.toList, False) (hs : mX g s) : ∀ (n : Nat) (S : mmS) (x0 : Nat) (x1 : Int32), lp_X5_rateAll_39 g.2.2.2.2.2 Q X n S x0 x1 → ∀ (H : Heap) (locs : List Loc), mH g S s H locs → ∀ ls : Array Slot, lv_has ls 2 [(0, .ref x0), (1, .int x1)] → W p l e rm_X5_rateAll s m args below meth c H locs 0 0 (vx_MQ below (va_Qv Q (wO g) (mB g)) (vx_X (fun _ : mmS => True) (fun E S1 t => X E S1 ∧ wO g S1 t) (mB g)) args s rm_X5_rateAll.cells rm_X5_rateAll.slots (mB g)) (F0 m 39 ls []) := by
  intro n
  induction n with
  | zero => intro S x0 x1 hw; exact False.elim hw
  | succ n ih => exact fun S x0 x1 hw => bw_X5_rateAll_39 hl0 hC hrt hlk hmn hnx hs (K39 := lp_X5_rateAll_39 g.2.2.2.2.2 Q X n) ih S x0 x1 hw
set_option maxHeartbeats 4000000 in
set_option maxRecDepth 100000 in
theorem bw_X5_rateAll_2 {p : Program} {l : Launch} {e : Env} {s : State} {m : MethodId} {args : Array Value} {below : List Frame} {meth : Method} {c : Code} {g : mG} {Q : mmS → Prop} {X : String → mmS → Prop} (hl0 : l.stackTraces = false) (hC : CallFix p m c cX5_rateAll 2 s args (wA_ yX5_rateAll cX5_rateAll 2 none) RX5) (hrt : meth.sig.returnType = none) (hlk : meth.locks = false) (hmn : meth.name = yX5_rateAll.name) (hnx : ∀ x ∈ c.exceptionTable.toList, False) (hs : mX g s) {K2 : mmS → Nat → Int32 → Prop} (hk2 : ∀ (S : mmS) (x0 : Nat) (x1 : Int32), K2 S x0 x1 → ∀ (H : Heap) (locs : List Loc), mH g S s H locs → ∀ ls : Array Slot, lv_has ls 2 [(0, .ref x0), (1, .int x1)] → W p l e rm_X5_rateAll s m args below meth c H locs 0 0 (vx_MQ below (va_Qv Q (wO g) (mB g)) (vx_X (fun _ : mmS => True) (fun E S1 t => X E S1 ∧ wO g S1 t) (mB g)) args s rm_X5_rateAll.cells rm_X5_rateAll.slots (mB g)) (F0 m 2 ls [])) : ∀ (S : mmS) (x0 : Nat) (x1 : Int32), bk_X5_rateAll_2 g.2.2.2.2.2 Q X K2 S x0 x1 → ∀ (H : Heap) (locs : List Loc), mH g S s H locs → ∀ ls : Array Slot, lv_has ls 2 [(0, .ref x0), (1, .int x1)] → W p l e rm_X5_rateAll s m args below meth c H locs 0 0 (vx_MQ below (va_Qv Q (wO g) (mB g)) (vx_X (fun _ : mmS => True) (fun E S1 t => X E S1 ∧ wO g S1 t) (mB g)) args s rm_X5_rateAll.cells rm_X5_rateAll.slots (mB g)) (F0 m 2 ls []) := by
  intro S x0 x1 hw H locs hH ls hl
  unfold bk_X5_rateAll_2 at hw
  refine lv_iload_n hC.1 hC.2.1 dX5_rateAll_2 rfl (lv_at hl 1 rfl) ?_
  refine lv_aload_n hC.1 hC.2.1 dX5_rateAll_3 rfl (lv_at hl 0 rfl) ?_
  obtain ⟨k1, hw⟩ := hw
  refine m_getI hC hs hH cs5 fs5_3 (fun _ h => List.mem_cons_of_mem _ (inlX5 _ h)) (List.mem_cons_of_mem _ q_339) (fun _ h => h) k1 dX5_rateAll_4 ?_
  refine lv_icmp_ge (tgt := 37) hC.1 hC.2.1 dX5_rateAll_7 (by decide) (fun hc => ?_) (fun hc => ?_)
  · have hw := hw.1 hc
    refine lv_iconst (v := 0) hC.1 hC.2.1 dX5_rateAll_37 (by decide) ?_
    have hw := hw _ rfl
    refine lv_istore_n (lv' := [(1, .int _), (0, .ref _)]) hC.1 hC.2.1 dX5_rateAll_38 rfl hl (by decide) rfl (fun ls hl => ?_)
    obtain ⟨n, hw⟩ := hw
    exact lw_X5_rateAll_39 hl0 hC hrt hlk hmn hnx hs n _ _ _ hw _ _ hH _ (lv_sub hl [1, 0] rfl)
  · have hw := hw.2 hc
    refine lv_aload_n hC.1 hC.2.1 dX5_rateAll_10 rfl (lv_at hl 0 rfl) ?_
    obtain ⟨b3, r4, hw⟩ := hw
    refine m_getR hC hs hH cs5 fs5_17 (fun _ h => List.mem_cons_of_mem _ (inlX5 _ h)) (List.mem_cons_of_mem _ q_55) (fun _ h => h) k1 r4 dX5_rateAll_11 ?_
    refine lv_iload_n hC.1 hC.2.1 dX5_rateAll_14 rfl (lv_at hl 1 rfl) ?_
    refine lv_aload_n hC.1 hC.2.1 dX5_rateAll_15 rfl (lv_at hl 0 rfl) ?_
    obtain ⟨b5, r6, hw⟩ := hw
    refine m_getR hC hs hH cs5 fs5_4 (fun _ h => List.mem_cons_of_mem _ (inlX5 _ h)) (List.mem_cons_of_mem _ q_44) (fun _ h => h) k1 r6 dX5_rateAll_16 ?_
    refine lv_iconst (v := 3) hC.1 hC.2.1 dX5_rateAll_19 (by decide) ?_
    refine lv_iload_n hC.1 hC.2.1 dX5_rateAll_20 rfl (lv_at hl 1 rfl) ?_
    refine lv_imul hC.1 hC.2.1 dX5_rateAll_21 ?_
    obtain ⟨k7, hw⟩ := hw
    obtain ⟨i8, hw⟩ := hw
    refine m_iald hC hs hH k7 i8 dX5_rateAll_22 ?_
    obtain ⟨k9, hw⟩ := hw
    obtain ⟨i10, hw⟩ := hw
    have hw := hw _ rfl
    refine m_iast hC hs hH k9 i10 dX5_rateAll_23 (fun H locs hH => ?_)
    refine lv_aload_n hC.1 hC.2.1 dX5_rateAll_24 rfl (lv_at hl 0 rfl) ?_
    obtain ⟨b12, r13, hw⟩ := hw
    refine m_getR hC hs hH cs5 fs5_18 (fun _ h => List.mem_cons_of_mem _ (inlX5 _ h)) (List.mem_cons_of_mem _ q_56) (fun _ h => h) k1 r13 dX5_rateAll_25 ?_
    refine lv_iload_n hC.1 hC.2.1 dX5_rateAll_28 rfl (lv_at hl 1 rfl) ?_
    refine lv_iconst (v := (-1)) hC.1 hC.2.1 dX5_rateAll_29 (by decide) ?_
    obtain ⟨k14, hw⟩ := hw
    obtain ⟨i15, hw⟩ := hw
    have hw := hw _ rfl
    refine m_iast hC hs hH k14 i15 dX5_rateAll_30 (fun H locs hH => ?_)
    have hw := hw _ rfl
    refine lv_iinc (lv' := [(1, .int _), (0, .ref _)]) hC.1 hC.2.1 dX5_rateAll_31 hl (k := 1) rfl (rfl : (_ : Int32) + Int32.ofInt 1 = (_ : Int32) + 1) (by decide) rfl (fun ls hl => ?_)
    refine lv_goto (tgt := 2) hC.1 hC.2.1 dX5_rateAll_34 (by decide) ?_
    exact hk2 _ _ _ hw _ _ hH _ (lv_sub hl [1, 0] rfl)
theorem lw_X5_rateAll_2 {p : Program} {l : Launch} {e : Env} {s : State} {m : MethodId} {args : Array Value} {below : List Frame} {meth : Method} {c : Code} {g : mG} {Q : mmS → Prop} {X : String → mmS → Prop} (hl0 : l.stackTraces = false) (hC : CallFix p m c cX5_rateAll 2 s args (wA_ yX5_rateAll cX5_rateAll 2 none) RX5) (hrt : meth.sig.returnType = none) (hlk : meth.locks = false) (hmn : meth.name = yX5_rateAll.name) (hnx : ∀ x ∈ c.exceptionTable.toList, False) (hs : mX g s) : ∀ (n : Nat) (S : mmS) (x0 : Nat) (x1 : Int32), lp_X5_rateAll_2 g.2.2.2.2.2 Q X n S x0 x1 → ∀ (H : Heap) (locs : List Loc), mH g S s H locs → ∀ ls : Array Slot, lv_has ls 2 [(0, .ref x0), (1, .int x1)] → W p l e rm_X5_rateAll s m args below meth c H locs 0 0 (vx_MQ below (va_Qv Q (wO g) (mB g)) (vx_X (fun _ : mmS => True) (fun E S1 t => X E S1 ∧ wO g S1 t) (mB g)) args s rm_X5_rateAll.cells rm_X5_rateAll.slots (mB g)) (F0 m 2 ls []) := by
  intro n
  induction n with
  | zero => intro S x0 x1 hw; exact False.elim hw
  | succ n ih => exact fun S x0 x1 hw => bw_X5_rateAll_2 hl0 hC hrt hlk hmn hnx hs (K2 := lp_X5_rateAll_2 g.2.2.2.2.2 Q X n) ih S x0 x1 hw
set_option maxHeartbeats 4000000 in
set_option maxRecDepth 100000 in
theorem met_X5_rateAll (l : Launch) (hl0 : l.stackTraces = false) (g : mG) (S : mmS) (p0 : Nat) (Q : mmS → Prop) (X : String → mmS → Prop) (hw : wp_X5_rateAll g.2.2.2.2.2 S p0 Q X) : mMv l g yX5_rateAll (wA_ yX5_rateAll cX5_rateAll 2 none) rm_X5_rateAll [.ref p0] S Q X := by
  refine m_of (y := yX5_rateAll) (cc := cX5_rateAll) (maxL := 2) (ret := none) (by decide) rfl (Nat.le_of_ble_eq_true rfl) ?_
  intro p e s m args below meth c ls hC hrt hlk hmn hnx hs hH hl
  have hC : CallFix p m c cX5_rateAll 2 s args (wA_ yX5_rateAll cX5_rateAll 2 none) RX5 := hC
  have hl : lv_has ls 2 [(0, .ref p0)] := hl
  unfold wp_X5_rateAll at hw
  refine lv_iconst (v := 0) hC.1 hC.2.1 dX5_rateAll_0 (by decide) ?_
  have hw := hw _ rfl
  refine lv_istore_n (lv' := [(1, .int _), (0, .ref _)]) hC.1 hC.2.1 dX5_rateAll_1 rfl hl (by decide) rfl (fun ls hl => ?_)
  obtain ⟨n, hw⟩ := hw
  exact lw_X5_rateAll_2 hl0 hC hrt hlk hmn hnx hs n _ _ _ hw _ _ hH _ (lv_sub hl [1, 0] rfl)
abbrev rm_X5_toldOf : Room := { frames := 1, cells := 0, slots := 0, locals := 0 }
def wp_X5_toldOf (z : Nat × Nat) (S : mmS) (p0 : Nat) (p1 : Int32) (p2 : Int32) (Q : Int32 → mmS → Prop) (X : String → mmS → Prop) : Prop := (Int32.toInt p2 < 0 ∨ 3 < Int32.toInt p2 → (p0 ∈ mL S ∧ mK S p0 = 5) ∧ ∃ b2 : Nat, mR S 22 p0 = some b2 ∧ (b2 ∈ mL S ∧ mK S b2 = 7) ∧ vp_in p1 (mN S b2) ∧ Q (mA S b2 (p1).toNatClampNeg) S) ∧ (Int32.toInt p2 = 0 → (p0 ∈ mL S ∧ mK S p0 = 5) ∧ ∃ b7 : Nat, mR S 17 p0 = some b7 ∧ (b7 ∈ mL S ∧ mK S b7 = 7) ∧ vp_in (((4 : Int32) * p1) + (2 : Int32)) (mN S b7) ∧ Q (mA S b7 (((4 : Int32) * p1) + (2 : Int32)).toNatClampNeg) S) ∧ (Int32.toInt p2 = 1 → (p0 ∈ mL S ∧ mK S p0 = 5) ∧ ∃ b12 : Nat, mR S 19 p0 = some b12 ∧ (b12 ∈ mL S ∧ mK S b12 = 7) ∧ vp_in p1 (mN S b12) ∧ Q (mA S b12 (p1).toNatClampNeg) S) ∧ (Int32.toInt p2 = 2 → (p0 ∈ mL S ∧ mK S p0 = 5) ∧ ∃ b17 : Nat, mR S 20 p0 = some b17 ∧ (b17 ∈ mL S ∧ mK S b17 = 7) ∧ vp_in p1 (mN S b17) ∧ Q (mA S b17 (p1).toNatClampNeg) S) ∧ (Int32.toInt p2 = 3 → (p0 ∈ mL S ∧ mK S p0 = 5) ∧ ∃ b22 : Nat, mR S 21 p0 = some b22 ∧ (b22 ∈ mL S ∧ mK S b22 = 7) ∧ vp_in p1 (mN S b22) ∧ Q (mA S b22 (p1).toNatClampNeg) S)
set_option maxHeartbeats 4000000 in
set_option maxRecDepth 100000 in
theorem met_X5_toldOf (l : Launch) (hl0 : l.stackTraces = false) (g : mG) (S : mmS) (p0 : Nat) (p1 : Int32) (p2 : Int32) (Q : Int32 → mmS → Prop) (X : String → mmS → Prop) (hw : wp_X5_toldOf g.2.2.2.2.2 S p0 p1 p2 Q X) : mMi l g yX5_toldOf (wA_ yX5_toldOf cX5_toldOf 3 (some .int)) rm_X5_toldOf [.ref p0, .int p1, .int p2] S Q X := by
  refine m_of (y := yX5_toldOf) (cc := cX5_toldOf) (maxL := 3) (ret := (some .int)) (by decide) rfl (Nat.le_of_ble_eq_true rfl) ?_
  intro p e s m args below meth c ls hC hrt hlk hmn hnx hs hH hl
  have hC : CallFix p m c cX5_toldOf 3 s args (wA_ yX5_toldOf cX5_toldOf 3 (some .int)) RX5 := hC
  have hl : lv_has ls 3 [(0, .ref p0), (1, .int p1), (2, .int p2)] := hl
  unfold wp_X5_toldOf at hw
  refine lv_iload_n hC.1 hC.2.1 dX5_toldOf_0 rfl (lv_at hl 2 rfl) ?_
  refine m_switch hC dX5_toldOf_1 (fun hc => ?_) (fun hc1 hc2 => ?_)
  · have hw := hw.1 hc
    refine lv_tableOut (tgt := 64) hC.1 hC.2.1 dX5_toldOf_1 hc (by decide) ?_
    refine lv_aload_n hC.1 hC.2.1 dX5_toldOf_64 rfl (lv_at hl 0 rfl) ?_
    obtain ⟨k1, hw⟩ := hw
    obtain ⟨b2, r3, hw⟩ := hw
    refine m_getR hC hs hH cs5 fs5_16 (fun _ h => List.mem_cons_of_mem _ (inlX5 _ h)) (List.mem_cons_of_mem _ q_54) (fun _ h => h) k1 r3 dX5_toldOf_65 ?_
    refine lv_iload_n hC.1 hC.2.1 dX5_toldOf_68 rfl (lv_at hl 1 rfl) ?_
    obtain ⟨k4, hw⟩ := hw
    obtain ⟨i5, hw⟩ := hw
    refine m_iald hC hs hH k4 i5 dX5_toldOf_69 ?_
    exact m_reti hC hH hrt rfl hlk (Nat.le_of_ble_eq_true rfl) (Nat.le_of_ble_eq_true rfl) dX5_toldOf_70 hw
  · have hw := hw.2
    have hj : Int32.toInt _ = 0 ∨ Int32.toInt _ = 1 ∨ Int32.toInt _ = 2 ∨ Int32.toInt _ = 3 := m_cases4 hc1 hc2
    rcases hj with hj | hj | hj | hj
    · have hw := hw.1 hj
      refine lv_tableIn (off := 31) (tgt := 32) hC.1 hC.2.1 dX5_toldOf_1 (by rw [hj]; decide) (by rw [hj]; decide) (by rw [hj]; decide) (by decide) ?_
      refine lv_aload_n hC.1 hC.2.1 dX5_toldOf_32 rfl (lv_at hl 0 rfl) ?_
      obtain ⟨k6, hw⟩ := hw
      obtain ⟨b7, r8, hw⟩ := hw
      refine m_getR hC hs hH cs5 fs5_9 (fun _ h => List.mem_cons_of_mem _ (inlX5 _ h)) (List.mem_cons_of_mem _ q_47) (fun _ h => h) k6 r8 dX5_toldOf_33 ?_
      refine lv_iconst (v := 4) hC.1 hC.2.1 dX5_toldOf_36 (by decide) ?_
      refine lv_iload_n hC.1 hC.2.1 dX5_toldOf_37 rfl (lv_at hl 1 rfl) ?_
      refine lv_imul hC.1 hC.2.1 dX5_toldOf_38 ?_
      refine lv_iconst (v := 2) hC.1 hC.2.1 dX5_toldOf_39 (by decide) ?_
      refine lv_iadd hC.1 hC.2.1 dX5_toldOf_40 ?_
      obtain ⟨k9, hw⟩ := hw
      obtain ⟨i10, hw⟩ := hw
      refine m_iald hC hs hH k9 i10 dX5_toldOf_41 ?_
      exact m_reti hC hH hrt rfl hlk (Nat.le_of_ble_eq_true rfl) (Nat.le_of_ble_eq_true rfl) dX5_toldOf_42 hw
    · have hw := hw.2.1 hj
      refine lv_tableIn (off := 42) (tgt := 43) hC.1 hC.2.1 dX5_toldOf_1 (by rw [hj]; decide) (by rw [hj]; decide) (by rw [hj]; decide) (by decide) ?_
      refine lv_aload_n hC.1 hC.2.1 dX5_toldOf_43 rfl (lv_at hl 0 rfl) ?_
      obtain ⟨k11, hw⟩ := hw
      obtain ⟨b12, r13, hw⟩ := hw
      refine m_getR hC hs hH cs5 fs5_13 (fun _ h => List.mem_cons_of_mem _ (inlX5 _ h)) (List.mem_cons_of_mem _ q_51) (fun _ h => h) k11 r13 dX5_toldOf_44 ?_
      refine lv_iload_n hC.1 hC.2.1 dX5_toldOf_47 rfl (lv_at hl 1 rfl) ?_
      obtain ⟨k14, hw⟩ := hw
      obtain ⟨i15, hw⟩ := hw
      refine m_iald hC hs hH k14 i15 dX5_toldOf_48 ?_
      exact m_reti hC hH hrt rfl hlk (Nat.le_of_ble_eq_true rfl) (Nat.le_of_ble_eq_true rfl) dX5_toldOf_49 hw
    · have hw := hw.2.2.1 hj
      refine lv_tableIn (off := 49) (tgt := 50) hC.1 hC.2.1 dX5_toldOf_1 (by rw [hj]; decide) (by rw [hj]; decide) (by rw [hj]; decide) (by decide) ?_
      refine lv_aload_n hC.1 hC.2.1 dX5_toldOf_50 rfl (lv_at hl 0 rfl) ?_
      obtain ⟨k16, hw⟩ := hw
      obtain ⟨b17, r18, hw⟩ := hw
      refine m_getR hC hs hH cs5 fs5_14 (fun _ h => List.mem_cons_of_mem _ (inlX5 _ h)) (List.mem_cons_of_mem _ q_52) (fun _ h => h) k16 r18 dX5_toldOf_51 ?_
      refine lv_iload_n hC.1 hC.2.1 dX5_toldOf_54 rfl (lv_at hl 1 rfl) ?_
      obtain ⟨k19, hw⟩ := hw
      obtain ⟨i20, hw⟩ := hw
      refine m_iald hC hs hH k19 i20 dX5_toldOf_55 ?_
      exact m_reti hC hH hrt rfl hlk (Nat.le_of_ble_eq_true rfl) (Nat.le_of_ble_eq_true rfl) dX5_toldOf_56 hw
    · have hw := hw.2.2.2 hj
      refine lv_tableIn (off := 56) (tgt := 57) hC.1 hC.2.1 dX5_toldOf_1 (by rw [hj]; decide) (by rw [hj]; decide) (by rw [hj]; decide) (by decide) ?_
      refine lv_aload_n hC.1 hC.2.1 dX5_toldOf_57 rfl (lv_at hl 0 rfl) ?_
      obtain ⟨k21, hw⟩ := hw
      obtain ⟨b22, r23, hw⟩ := hw
      refine m_getR hC hs hH cs5 fs5_15 (fun _ h => List.mem_cons_of_mem _ (inlX5 _ h)) (List.mem_cons_of_mem _ q_53) (fun _ h => h) k21 r23 dX5_toldOf_58 ?_
      refine lv_iload_n hC.1 hC.2.1 dX5_toldOf_61 rfl (lv_at hl 1 rfl) ?_
      obtain ⟨k24, hw⟩ := hw
      obtain ⟨i25, hw⟩ := hw
      refine m_iald hC hs hH k24 i25 dX5_toldOf_62 ?_
      exact m_reti hC hH hrt rfl hlk (Nat.le_of_ble_eq_true rfl) (Nat.le_of_ble_eq_true rfl) dX5_toldOf_63 hw
abbrev rm_X5_told : Room := { frames := 5, cells := 0, slots := 0, locals := 102 }
def bk_X5_told_22 (z : Nat × Nat) (Q : Int32 → mmS → Prop) (X : String → mmS → Prop) (S : mmS) (x0 : Nat) : Prop := (x0 ∈ mL S ∧ mK S x0 = 5) ∧ wp_X5_fail z S x0 (1 : Int32) (fun r3 S1 => Q r3 S1) X
def wp_X5_told (z : Nat × Nat) (S : mmS) (p0 : Nat) (p1 : Int32) (p2 : Int32) (Q : Int32 → mmS → Prop) (X : String → mmS → Prop) : Prop := (p0 ∈ mL S ∧ mK S p0 = 5) ∧ ∀ S2 : mmS, S2 = sI S 23 p0 (0 : Int32) → wp_X5_isCall z S2 p0 p1 (fun r4 S3 => (r4 = 0 → bk_X5_told_22 z Q X S3 p0) ∧ (¬ r4 = 0 → wp_X5_isIn z S3 p2 (0 : Int32) (4 : Int32) (fun r6 S5 => (¬ r6 = 0 → (p0 ∈ mL S5 ∧ mK S5 p0 = 5) ∧ wp_X5_rateAll z S5 p0 (fun S7 => (p0 ∈ mL S7 ∧ mK S7 p0 = 5) ∧ wp_X5_toldOf z S7 p0 p1 p2 (fun r11 S9 => Q r11 S9) X) X) ∧ (r6 = 0 → bk_X5_told_22 z Q X S5 p0)) X)) X
set_option maxHeartbeats 4000000 in
set_option maxRecDepth 100000 in
theorem bw_X5_told_22 {p : Program} {l : Launch} {e : Env} {s : State} {m : MethodId} {args : Array Value} {below : List Frame} {meth : Method} {c : Code} {g : mG} {Q : Int32 → mmS → Prop} {X : String → mmS → Prop} (hl0 : l.stackTraces = false) (hC : CallFix p m c cX5_told 3 s args (wA_ yX5_told cX5_told 3 (some .int)) RX5) (hrt : meth.sig.returnType = (some .int)) (hlk : meth.locks = false) (hmn : meth.name = yX5_told.name) (hnx : ∀ x ∈ c.exceptionTable.toList, False) (hs : mX g s) : ∀ (S : mmS) (x0 : Nat), bk_X5_told_22 g.2.2.2.2.2 Q X S x0 → ∀ (H : Heap) (locs : List Loc), mH g S s H locs → ∀ ls : Array Slot, lv_has ls 3 [(0, .ref x0)] → W p l e rm_X5_told s m args below meth c H locs 0 0 (vx_MQ below (va_Qi Q (wO g) (mB g)) (vx_X (fun _ : mmS => True) (fun E S1 t => X E S1 ∧ wO g S1 t) (mB g)) args s rm_X5_told.cells rm_X5_told.slots (mB g)) (F0 m 22 ls []) := by
  intro S x0 hw H locs hH ls hl
  unfold bk_X5_told_22 at hw
  refine lv_aload_n hC.1 hC.2.1 dX5_told_22 rfl (lv_at hl 0 rfl) ?_
  refine lv_iconst (v := 1) hC.1 hC.2.1 dX5_told_23 (by decide) ?_
  obtain ⟨k2, hw⟩ := hw
  refine m_callVi (y := yX5_fail) (rest := []) hC hs hH hl.1 (cwV 1 hC.2.2.2.2 (gA_V q_159 q_160 q_161 q_5 q_162) rfl rfl rfl (by decide +kernel) ⟨Nat.le_of_ble_eq_true rfl, Nat.le_of_ble_eq_true rfl⟩) cs5 k2 (met_X5_fail l hl0 g _ _ _ _ _ hw) rfl rfl (Nat.le_of_ble_eq_true rfl) dX5_told_24 ⟨Nat.le_of_ble_eq_true rfl, Nat.le_of_ble_eq_true rfl⟩ (m_out (fun x hx => (hnx x hx).elim) hlk (Nat.le_of_ble_eq_true rfl) (Nat.le_of_ble_eq_true rfl)) (fun r3 S1 H locs hw hH => ?_)
  refine W.widen (k := 0) (n := 0) (Nat.le_of_ble_eq_true rfl) (Nat.le_of_ble_eq_true rfl) ?_
  exact m_reti hC hH hrt rfl hlk (Nat.le_of_ble_eq_true rfl) (Nat.le_of_ble_eq_true rfl) dX5_told_27 hw
set_option maxHeartbeats 4000000 in
set_option maxRecDepth 100000 in
theorem met_X5_told (l : Launch) (hl0 : l.stackTraces = false) (g : mG) (S : mmS) (p0 : Nat) (p1 : Int32) (p2 : Int32) (Q : Int32 → mmS → Prop) (X : String → mmS → Prop) (hw : wp_X5_told g.2.2.2.2.2 S p0 p1 p2 Q X) : mMi l g yX5_told (wA_ yX5_told cX5_told 3 (some .int)) rm_X5_told [.ref p0, .int p1, .int p2] S Q X := by
  refine m_of (y := yX5_told) (cc := cX5_told) (maxL := 3) (ret := (some .int)) (by decide) rfl (Nat.le_of_ble_eq_true rfl) ?_
  intro p e s m args below meth c ls hC hrt hlk hmn hnx hs hH hl
  have hC : CallFix p m c cX5_told 3 s args (wA_ yX5_told cX5_told 3 (some .int)) RX5 := hC
  have hl : lv_has ls 3 [(0, .ref p0), (1, .int p1), (2, .int p2)] := hl
  unfold wp_X5_told at hw
  refine lv_aload_n hC.1 hC.2.1 dX5_told_0 rfl (lv_at hl 0 rfl) ?_
  refine lv_iconst (v := 0) hC.1 hC.2.1 dX5_told_1 (by decide) ?_
  obtain ⟨k1, hw⟩ := hw
  have hw := hw _ rfl
  refine m_putI hC hs hH cs5 fs5_0 (fun _ h => List.mem_cons_of_mem _ (inlX5 _ h)) (List.mem_cons_of_mem _ q_153) (fun _ h => h) (Or.inl rfl) rfl k1 dX5_told_2 (fun H locs hH => ?_)
  refine lv_aload_n hC.1 hC.2.1 dX5_told_5 rfl (lv_at hl 0 rfl) ?_
  refine lv_iload_n hC.1 hC.2.1 dX5_told_6 rfl (lv_at hl 1 rfl) ?_
  refine m_callVi (y := yX5_isCall) (rest := []) hC hs hH hl.1 (cwV 1 hC.2.2.2.2 (gA_V q_456 q_457 q_458 q_5 q_459) rfl rfl rfl (by decide +kernel) ⟨Nat.le_of_ble_eq_true rfl, Nat.le_of_ble_eq_true rfl⟩) cs5 k1 (met_X5_isCall l hl0 g _ _ _ _ _ hw) rfl rfl (Nat.le_of_ble_eq_true rfl) dX5_told_7 ⟨Nat.le_of_ble_eq_true rfl, Nat.le_of_ble_eq_true rfl⟩ (m_out (fun x hx => (hnx x hx).elim) hlk (Nat.le_of_ble_eq_true rfl) (Nat.le_of_ble_eq_true rfl)) (fun r4 S1 H locs hw hH => ?_)
  refine W.widen (k := 0) (n := 0) (Nat.le_of_ble_eq_true rfl) (Nat.le_of_ble_eq_true rfl) ?_
  refine lv_if_eq (tgt := 22) hC.1 hC.2.1 dX5_told_10 (by decide) (fun hc => ?_) (fun hc => ?_)
  · have hw := hw.1 hc
    exact bw_X5_told_22 hl0 hC hrt hlk hmn hnx hs _ _ hw _ _ hH _ (lv_sub hl [0] rfl)
  · have hw := hw.2 hc
    refine lv_iload_n hC.1 hC.2.1 dX5_told_13 rfl (lv_at hl 2 rfl) ?_
    refine lv_iconst (v := 0) hC.1 hC.2.1 dX5_told_14 (by decide) ?_
    refine lv_iconst (v := 4) hC.1 hC.2.1 dX5_told_15 (by decide) ?_
    refine m_callSi (y := yX5_isIn) (rest := []) hC hs hH hl.1 (va_cwS 3 hC.2.2.2.2 (gA_S q_156 q_157 q_5 q_158) rfl rfl rfl (by decide +kernel) ⟨Nat.le_of_ble_eq_true rfl, Nat.le_of_ble_eq_true rfl⟩) (met_X5_isIn l hl0 g _ _ _ _ _ _ hw) rfl rfl (Nat.le_of_ble_eq_true rfl) dX5_told_16 ⟨Nat.le_of_ble_eq_true rfl, Nat.le_of_ble_eq_true rfl⟩ (m_out (fun x hx => (hnx x hx).elim) hlk (Nat.le_of_ble_eq_true rfl) (Nat.le_of_ble_eq_true rfl)) (fun r6 S1 H locs hw hH => ?_)
    refine W.widen (k := 0) (n := 0) (Nat.le_of_ble_eq_true rfl) (Nat.le_of_ble_eq_true rfl) ?_
    refine lv_if_ne (tgt := 28) hC.1 hC.2.1 dX5_told_19 (by decide) (fun hc => ?_) (fun hc => ?_)
    · have hw := hw.1 hc
      refine lv_aload_n hC.1 hC.2.1 dX5_told_28 rfl (lv_at hl 0 rfl) ?_
      obtain ⟨k8, hw⟩ := hw
      refine m_callVv (y := yX5_rateAll) (rest := []) hC hs hH hl.1 (cwV 0 hC.2.2.2.2 (gA_V q_513 q_514 q_515 q_5 q_516) rfl rfl rfl (by decide +kernel) ⟨Nat.le_of_ble_eq_true rfl, Nat.le_of_ble_eq_true rfl⟩) cs5 k8 (met_X5_rateAll l hl0 g _ _ _ _ hw) rfl rfl (Nat.le_of_ble_eq_true rfl) dX5_told_29 ⟨Nat.le_of_ble_eq_true rfl, Nat.le_of_ble_eq_true rfl⟩ (m_out (fun x hx => (hnx x hx).elim) hlk (Nat.le_of_ble_eq_true rfl) (Nat.le_of_ble_eq_true rfl)) (fun S1 H locs hw hH => ?_)
      refine W.widen (k := 0) (n := 0) (Nat.le_of_ble_eq_true rfl) (Nat.le_of_ble_eq_true rfl) ?_
      refine lv_aload_n hC.1 hC.2.1 dX5_told_32 rfl (lv_at hl 0 rfl) ?_
      refine lv_iload_n hC.1 hC.2.1 dX5_told_33 rfl (lv_at hl 1 rfl) ?_
      refine lv_iload_n hC.1 hC.2.1 dX5_told_34 rfl (lv_at hl 2 rfl) ?_
      obtain ⟨k10, hw⟩ := hw
      refine m_callVi (y := yX5_toldOf) (rest := []) hC hs hH hl.1 (cwV 2 hC.2.2.2.2 (gA_V q_527 q_528 q_529 q_5 q_530) rfl rfl rfl (by decide +kernel) ⟨Nat.le_of_ble_eq_true rfl, Nat.le_of_ble_eq_true rfl⟩) cs5 k10 (met_X5_toldOf l hl0 g _ _ _ _ _ _ hw) rfl rfl (Nat.le_of_ble_eq_true rfl) dX5_told_35 ⟨Nat.le_of_ble_eq_true rfl, Nat.le_of_ble_eq_true rfl⟩ (m_out (fun x hx => (hnx x hx).elim) hlk (Nat.le_of_ble_eq_true rfl) (Nat.le_of_ble_eq_true rfl)) (fun r11 S1 H locs hw hH => ?_)
      refine W.widen (k := 0) (n := 0) (Nat.le_of_ble_eq_true rfl) (Nat.le_of_ble_eq_true rfl) ?_
      exact m_reti hC hH hrt rfl hlk (Nat.le_of_ble_eq_true rfl) (Nat.le_of_ble_eq_true rfl) dX5_told_38 hw
    · have hw := hw.2 hc
      exact bw_X5_told_22 hl0 hC hrt hlk hmn hnx hs _ _ hw _ _ hH _ (lv_sub hl [0] rfl)
abbrev rm_X5_dearest : Room := { frames := 5, cells := 0, slots := 0, locals := 102 }
def bk_X5_dearest_53 (z : Nat × Nat) (Q : Int32 → mmS → Prop) (X : String → mmS → Prop) (K13 : mmS → Nat → Int32 → Int32 → Prop) (S : mmS) (x0 : Nat) (x1 : Int32) (x2 : Int32) : Prop := ∀ v1 : Int32, v1 = x2 + 1 → K13 S x0 x1 v1
def bk_X5_dearest_46 (z : Nat × Nat) (Q : Int32 → mmS → Prop) (X : String → mmS → Prop) (K13 : mmS → Nat → Int32 → Int32 → Prop) (S : mmS) (x0 : Nat) (x2 : Int32) : Prop := (x0 ∈ mL S ∧ mK S x0 = 5) ∧ ∃ b2 : Nat, mR S 18 x0 = some b2 ∧ (b2 ∈ mL S ∧ mK S b2 = 7) ∧ vp_in x2 (mN S b2) ∧ ∀ v6 : Int32, v6 = (mA S b2 (x2).toNatClampNeg) → bk_X5_dearest_53 z Q X K13 S x0 v6 x2
def bk_X5_dearest_13 (z : Nat × Nat) (Q : Int32 → mmS → Prop) (X : String → mmS → Prop) (K13 : mmS → Nat → Int32 → Int32 → Prop) (S : mmS) (x0 : Nat) (x1 : Int32) (x2 : Int32) : Prop := (x0 ∈ mL S ∧ mK S x0 = 5) ∧ ((mI S 27 x0) ≤ x2 → Q x1 S) ∧ (¬ (mI S 27 x0) ≤ x2 → (x1 = (-1 : Int32) → bk_X5_dearest_46 z Q X K13 S x0 x2) ∧ (¬ x1 = (-1 : Int32) → ∃ b2 : Nat, mR S 21 x0 = some b2 ∧ ∃ b4 : Nat, mR S 18 x0 = some b4 ∧ (b4 ∈ mL S ∧ mK S b4 = 7) ∧ vp_in x2 (mN S b4) ∧ (b2 ∈ mL S ∧ mK S b2 = 7) ∧ vp_in (mA S b4 (x2).toNatClampNeg) (mN S b2) ∧ ∃ b10 : Nat, mR S 21 x0 = some b10 ∧ (b10 ∈ mL S ∧ mK S b10 = 7) ∧ vp_in x1 (mN S b10) ∧ ((mA S b2 (mA S b4 (x2).toNatClampNeg).toNatClampNeg) ≤ (mA S b10 (x1).toNatClampNeg) → bk_X5_dearest_53 z Q X K13 S x0 x1 x2) ∧ (¬ (mA S b2 (mA S b4 (x2).toNatClampNeg).toNatClampNeg) ≤ (mA S b10 (x1).toNatClampNeg) → bk_X5_dearest_46 z Q X K13 S x0 x2)))
def lp_X5_dearest_13 (z : Nat × Nat) (Q : Int32 → mmS → Prop) (X : String → mmS → Prop) : Nat → mmS → Nat → Int32 → Int32 → Prop
  | 0 => fun _ _ _ _ => False
  | n + 1 => bk_X5_dearest_13 z Q X (lp_X5_dearest_13 z Q X n)
def wp_X5_dearest (z : Nat × Nat) (S : mmS) (p0 : Nat) (Q : Int32 → mmS → Prop) (X : String → mmS → Prop) : Prop := (p0 ∈ mL S ∧ mK S p0 = 5) ∧ ∀ S2 : mmS, S2 = sI S 23 p0 (0 : Int32) → wp_X5_rateAll z S2 p0 (fun S3 => ∀ v4 : Int32, v4 = (-1 : Int32) → ∀ v5 : Int32, v5 = (0 : Int32) → ∃ n : Nat, lp_X5_dearest_13 z Q X n S3 p0 v4 v5) X
set_option maxHeartbeats 4000000 in
set_option maxRecDepth 100000 in
theorem bw_X5_dearest_53 {p : Program} {l : Launch} {e : Env} {s : State} {m : MethodId} {args : Array Value} {below : List Frame} {meth : Method} {c : Code} {g : mG} {Q : Int32 → mmS → Prop} {X : String → mmS → Prop} (hl0 : l.stackTraces = false) (hC : CallFix p m c cX5_dearest 3 s args (wA_ yX5_dearest cX5_dearest 3 (some .int)) RX5) (hrt : meth.sig.returnType = (some .int)) (hlk : meth.locks = false) (hmn : meth.name = yX5_dearest.name) (hnx : ∀ x ∈ c.exceptionTable.toList, False) (hs : mX g s) {K13 : mmS → Nat → Int32 → Int32 → Prop} (hk13 : ∀ (S : mmS) (x0 : Nat) (x1 : Int32) (x2 : Int32), K13 S x0 x1 x2 → ∀ (H : Heap) (locs : List Loc), mH g S s H locs → ∀ ls : Array Slot, lv_has ls 3 [(0, .ref x0), (1, .int x1), (2, .int x2)] → W p l e rm_X5_dearest s m args below meth c H locs 0 0 (vx_MQ below (va_Qi Q (wO g) (mB g)) (vx_X (fun _ : mmS => True) (fun E S1 t => X E S1 ∧ wO g S1 t) (mB g)) args s rm_X5_dearest.cells rm_X5_dearest.slots (mB g)) (F0 m 13 ls [])) : ∀ (S : mmS) (x0 : Nat) (x1 : Int32) (x2 : Int32), bk_X5_dearest_53 g.2.2.2.2.2 Q X K13 S x0 x1 x2 → ∀ (H : Heap) (locs : List Loc), mH g S s H locs → ∀ ls : Array Slot, lv_has ls 3 [(0, .ref x0), (1, .int x1), (2, .int x2)] → W p l e rm_X5_dearest s m args below meth c H locs 0 0 (vx_MQ below (va_Qi Q (wO g) (mB g)) (vx_X (fun _ : mmS => True) (fun E S1 t => X E S1 ∧ wO g S1 t) (mB g)) args s rm_X5_dearest.cells rm_X5_dearest.slots (mB g)) (F0 m 53 ls []) := by
  intro S x0 x1 x2 hw H locs hH ls hl
  unfold bk_X5_dearest_53 at hw
  have hw := hw _ rfl
  refine lv_iinc (lv' := [(2, .int _), (0, .ref _), (1, .int _)]) hC.1 hC.2.1 dX5_dearest_53 hl (k := 2) rfl (rfl : (_ : Int32) + Int32.ofInt 1 = (_ : Int32) + 1) (by decide) rfl (fun ls hl => ?_)
  refine lv_goto (tgt := 13) hC.1 hC.2.1 dX5_dearest_56 (by decide) ?_
  exact hk13 _ _ _ _ hw _ _ hH _ (lv_sub hl [1, 2, 0] rfl)
set_option maxHeartbeats 4000000 in
set_option maxRecDepth 100000 in
theorem bw_X5_dearest_46 {p : Program} {l : Launch} {e : Env} {s : State} {m : MethodId} {args : Array Value} {below : List Frame} {meth : Method} {c : Code} {g : mG} {Q : Int32 → mmS → Prop} {X : String → mmS → Prop} (hl0 : l.stackTraces = false) (hC : CallFix p m c cX5_dearest 3 s args (wA_ yX5_dearest cX5_dearest 3 (some .int)) RX5) (hrt : meth.sig.returnType = (some .int)) (hlk : meth.locks = false) (hmn : meth.name = yX5_dearest.name) (hnx : ∀ x ∈ c.exceptionTable.toList, False) (hs : mX g s) {K13 : mmS → Nat → Int32 → Int32 → Prop} (hk13 : ∀ (S : mmS) (x0 : Nat) (x1 : Int32) (x2 : Int32), K13 S x0 x1 x2 → ∀ (H : Heap) (locs : List Loc), mH g S s H locs → ∀ ls : Array Slot, lv_has ls 3 [(0, .ref x0), (1, .int x1), (2, .int x2)] → W p l e rm_X5_dearest s m args below meth c H locs 0 0 (vx_MQ below (va_Qi Q (wO g) (mB g)) (vx_X (fun _ : mmS => True) (fun E S1 t => X E S1 ∧ wO g S1 t) (mB g)) args s rm_X5_dearest.cells rm_X5_dearest.slots (mB g)) (F0 m 13 ls [])) : ∀ (S : mmS) (x0 : Nat) (x2 : Int32), bk_X5_dearest_46 g.2.2.2.2.2 Q X K13 S x0 x2 → ∀ (H : Heap) (locs : List Loc), mH g S s H locs → ∀ ls : Array Slot, lv_has ls 3 [(0, .ref x0), (2, .int x2)] → W p l e rm_X5_dearest s m args below meth c H locs 0 0 (vx_MQ below (va_Qi Q (wO g) (mB g)) (vx_X (fun _ : mmS => True) (fun E S1 t => X E S1 ∧ wO g S1 t) (mB g)) args s rm_X5_dearest.cells rm_X5_dearest.slots (mB g)) (F0 m 46 ls []) := by
  intro S x0 x2 hw H locs hH ls hl
  unfold bk_X5_dearest_46 at hw
  refine lv_aload_n hC.1 hC.2.1 dX5_dearest_46 rfl (lv_at hl 0 rfl) ?_
  obtain ⟨k1, hw⟩ := hw
  obtain ⟨b2, r3, hw⟩ := hw
  refine m_getR hC hs hH cs5 fs5_12 (fun _ h => List.mem_cons_of_mem _ (inlX5 _ h)) (List.mem_cons_of_mem _ q_50) (fun _ h => h) k1 r3 dX5_dearest_47 ?_
  refine lv_iload_n hC.1 hC.2.1 dX5_dearest_50 rfl (lv_at hl 1 rfl) ?_
  obtain ⟨k4, hw⟩ := hw
  obtain ⟨i5, hw⟩ := hw
  refine m_iald hC hs hH k4 i5 dX5_dearest_51 ?_
  have hw := hw _ rfl
  refine lv_istore_n (lv' := [(1, .int _), (0, .ref _), (2, .int _)]) hC.1 hC.2.1 dX5_dearest_52 rfl hl (by decide) rfl (fun ls hl => ?_)
  exact bw_X5_dearest_53 hl0 hC hrt hlk hmn hnx hs hk13 _ _ _ _ hw _ _ hH _ (lv_sub hl [1, 0, 2] rfl)
set_option maxHeartbeats 4000000 in
set_option maxRecDepth 100000 in
theorem bw_X5_dearest_13 {p : Program} {l : Launch} {e : Env} {s : State} {m : MethodId} {args : Array Value} {below : List Frame} {meth : Method} {c : Code} {g : mG} {Q : Int32 → mmS → Prop} {X : String → mmS → Prop} (hl0 : l.stackTraces = false) (hC : CallFix p m c cX5_dearest 3 s args (wA_ yX5_dearest cX5_dearest 3 (some .int)) RX5) (hrt : meth.sig.returnType = (some .int)) (hlk : meth.locks = false) (hmn : meth.name = yX5_dearest.name) (hnx : ∀ x ∈ c.exceptionTable.toList, False) (hs : mX g s) {K13 : mmS → Nat → Int32 → Int32 → Prop} (hk13 : ∀ (S : mmS) (x0 : Nat) (x1 : Int32) (x2 : Int32), K13 S x0 x1 x2 → ∀ (H : Heap) (locs : List Loc), mH g S s H locs → ∀ ls : Array Slot, lv_has ls 3 [(0, .ref x0), (1, .int x1), (2, .int x2)] → W p l e rm_X5_dearest s m args below meth c H locs 0 0 (vx_MQ below (va_Qi Q (wO g) (mB g)) (vx_X (fun _ : mmS => True) (fun E S1 t => X E S1 ∧ wO g S1 t) (mB g)) args s rm_X5_dearest.cells rm_X5_dearest.slots (mB g)) (F0 m 13 ls [])) : ∀ (S : mmS) (x0 : Nat) (x1 : Int32) (x2 : Int32), bk_X5_dearest_13 g.2.2.2.2.2 Q X K13 S x0 x1 x2 → ∀ (H : Heap) (locs : List Loc), mH g S s H locs → ∀ ls : Array Slot, lv_has ls 3 [(0, .ref x0), (1, .int x1), (2, .int x2)] → W p l e rm_X5_dearest s m args below meth c H locs 0 0 (vx_MQ below (va_Qi Q (wO g) (mB g)) (vx_X (fun _ : mmS => True) (fun E S1 t => X E S1 ∧ wO g S1 t) (mB g)) args s rm_X5_dearest.cells rm_X5_dearest.slots (mB g)) (F0 m 13 ls []) := by
  intro S x0 x1 x2 hw H locs hH ls hl
  unfold bk_X5_dearest_13 at hw
  refine lv_iload_n hC.1 hC.2.1 dX5_dearest_13 rfl (lv_at hl 2 rfl) ?_
  refine lv_aload_n hC.1 hC.2.1 dX5_dearest_14 rfl (lv_at hl 0 rfl) ?_
  obtain ⟨k1, hw⟩ := hw
  refine m_getI hC hs hH cs5 fs5_8 (fun _ h => List.mem_cons_of_mem _ (inlX5 _ h)) (List.mem_cons_of_mem _ q_440) (fun _ h => h) k1 dX5_dearest_15 ?_
  refine lv_icmp_ge (tgt := 59) hC.1 hC.2.1 dX5_dearest_18 (by decide) (fun hc => ?_) (fun hc => ?_)
  · have hw := hw.1 hc
    refine lv_iload_n hC.1 hC.2.1 dX5_dearest_59 rfl (lv_at hl 1 rfl) ?_
    exact m_reti hC hH hrt rfl hlk (Nat.le_of_ble_eq_true rfl) (Nat.le_of_ble_eq_true rfl) dX5_dearest_60 hw
  · have hw := hw.2 hc
    refine lv_iload_n hC.1 hC.2.1 dX5_dearest_21 rfl (lv_at hl 1 rfl) ?_
    refine lv_iconst (v := (-1)) hC.1 hC.2.1 dX5_dearest_22 (by decide) ?_
    refine lv_icmp_eq (tgt := 46) hC.1 hC.2.1 dX5_dearest_23 (by decide) (fun hc => ?_) (fun hc => ?_)
    · have hw := hw.1 hc
      exact bw_X5_dearest_46 hl0 hC hrt hlk hmn hnx hs hk13 _ _ _ hw _ _ hH _ (lv_sub hl [0, 2] rfl)
    · have hw := hw.2 hc
      refine lv_aload_n hC.1 hC.2.1 dX5_dearest_26 rfl (lv_at hl 0 rfl) ?_
      obtain ⟨b2, r3, hw⟩ := hw
      refine m_getR hC hs hH cs5 fs5_15 (fun _ h => List.mem_cons_of_mem _ (inlX5 _ h)) (List.mem_cons_of_mem _ q_53) (fun _ h => h) k1 r3 dX5_dearest_27 ?_
      refine lv_aload_n hC.1 hC.2.1 dX5_dearest_30 rfl (lv_at hl 0 rfl) ?_
      obtain ⟨b4, r5, hw⟩ := hw
      refine m_getR hC hs hH cs5 fs5_12 (fun _ h => List.mem_cons_of_mem _ (inlX5 _ h)) (List.mem_cons_of_mem _ q_50) (fun _ h => h) k1 r5 dX5_dearest_31 ?_
      refine lv_iload_n hC.1 hC.2.1 dX5_dearest_34 rfl (lv_at hl 2 rfl) ?_
      obtain ⟨k6, hw⟩ := hw
      obtain ⟨i7, hw⟩ := hw
      refine m_iald hC hs hH k6 i7 dX5_dearest_35 ?_
      obtain ⟨k8, hw⟩ := hw
      obtain ⟨i9, hw⟩ := hw
      refine m_iald hC hs hH k8 i9 dX5_dearest_36 ?_
      refine lv_aload_n hC.1 hC.2.1 dX5_dearest_37 rfl (lv_at hl 0 rfl) ?_
      obtain ⟨b10, r11, hw⟩ := hw
      refine m_getR hC hs hH cs5 fs5_15 (fun _ h => List.mem_cons_of_mem _ (inlX5 _ h)) (List.mem_cons_of_mem _ q_53) (fun _ h => h) k1 r11 dX5_dearest_38 ?_
      refine lv_iload_n hC.1 hC.2.1 dX5_dearest_41 rfl (lv_at hl 1 rfl) ?_
      obtain ⟨k12, hw⟩ := hw
      obtain ⟨i13, hw⟩ := hw
      refine m_iald hC hs hH k12 i13 dX5_dearest_42 ?_
      refine lv_icmp_le (tgt := 53) hC.1 hC.2.1 dX5_dearest_43 (by decide) (fun hc => ?_) (fun hc => ?_)
      · have hw := hw.1 hc
        exact bw_X5_dearest_53 hl0 hC hrt hlk hmn hnx hs hk13 _ _ _ _ hw _ _ hH _ (lv_sub hl [0, 1, 2] rfl)
      · have hw := hw.2 hc
        exact bw_X5_dearest_46 hl0 hC hrt hlk hmn hnx hs hk13 _ _ _ hw _ _ hH _ (lv_sub hl [0, 2] rfl)
theorem lw_X5_dearest_13 {p : Program} {l : Launch} {e : Env} {s : State} {m : MethodId} {args : Array Value} {below : List Frame} {meth : Method} {c : Code} {g : mG} {Q : Int32 → mmS → Prop} {X : String → mmS → Prop} (hl0 : l.stackTraces = false) (hC : CallFix p m c cX5_dearest 3 s args (wA_ yX5_dearest cX5_dearest 3 (some .int)) RX5) (hrt : meth.sig.returnType = (some .int)) (hlk : meth.locks = false) (hmn : meth.name = yX5_dearest.name) (hnx : ∀ x ∈ c.exceptionTable.toList, False) (hs : mX g s) : ∀ (n : Nat) (S : mmS) (x0 : Nat) (x1 : Int32) (x2 : Int32), lp_X5_dearest_13 g.2.2.2.2.2 Q X n S x0 x1 x2 → ∀ (H : Heap) (locs : List Loc), mH g S s H locs → ∀ ls : Array Slot, lv_has ls 3 [(0, .ref x0), (1, .int x1), (2, .int x2)] → W p l e rm_X5_dearest s m args below meth c H locs 0 0 (vx_MQ below (va_Qi Q (wO g) (mB g)) (vx_X (fun _ : mmS => True) (fun E S1 t => X E S1 ∧ wO g S1 t) (mB g)) args s rm_X5_dearest.cells rm_X5_dearest.slots (mB g)) (F0 m 13 ls []) := by
  intro n
  induction n with
  | zero => intro S x0 x1 x2 hw; exact False.elim hw
  | succ n ih => exact fun S x0 x1 x2 hw => bw_X5_dearest_13 hl0 hC hrt hlk hmn hnx hs (K13 := lp_X5_dearest_13 g.2.2.2.2.2 Q X n) ih S x0 x1 x2 hw
set_option maxHeartbeats 4000000 in
set_option maxRecDepth 100000 in
theorem met_X5_dearest (l : Launch) (hl0 : l.stackTraces = false) (g : mG) (S : mmS) (p0 : Nat) (Q : Int32 → mmS → Prop) (X : String → mmS → Prop) (hw : wp_X5_dearest g.2.2.2.2.2 S p0 Q X) : mMi l g yX5_dearest (wA_ yX5_dearest cX5_dearest 3 (some .int)) rm_X5_dearest [.ref p0] S Q X := by
  refine m_of (y := yX5_dearest) (cc := cX5_dearest) (maxL := 3) (ret := (some .int)) (by decide) rfl (Nat.le_of_ble_eq_true rfl) ?_
  intro p e s m args below meth c ls hC hrt hlk hmn hnx hs hH hl
  have hC : CallFix p m c cX5_dearest 3 s args (wA_ yX5_dearest cX5_dearest 3 (some .int)) RX5 := hC
  have hl : lv_has ls 3 [(0, .ref p0)] := hl
  unfold wp_X5_dearest at hw
  refine lv_aload_n hC.1 hC.2.1 dX5_dearest_0 rfl (lv_at hl 0 rfl) ?_
  refine lv_iconst (v := 0) hC.1 hC.2.1 dX5_dearest_1 (by decide) ?_
  obtain ⟨k1, hw⟩ := hw
  have hw := hw _ rfl
  refine m_putI hC hs hH cs5 fs5_0 (fun _ h => List.mem_cons_of_mem _ (inlX5 _ h)) (List.mem_cons_of_mem _ q_153) (fun _ h => h) (Or.inl rfl) rfl k1 dX5_dearest_2 (fun H locs hH => ?_)
  refine lv_aload_n hC.1 hC.2.1 dX5_dearest_5 rfl (lv_at hl 0 rfl) ?_
  refine m_callVv (y := yX5_rateAll) (rest := []) hC hs hH hl.1 (cwV 0 hC.2.2.2.2 (gA_V q_513 q_514 q_515 q_5 q_516) rfl rfl rfl (by decide +kernel) ⟨Nat.le_of_ble_eq_true rfl, Nat.le_of_ble_eq_true rfl⟩) cs5 k1 (met_X5_rateAll l hl0 g _ _ _ _ hw) rfl rfl (Nat.le_of_ble_eq_true rfl) dX5_dearest_6 ⟨Nat.le_of_ble_eq_true rfl, Nat.le_of_ble_eq_true rfl⟩ (m_out (fun x hx => (hnx x hx).elim) hlk (Nat.le_of_ble_eq_true rfl) (Nat.le_of_ble_eq_true rfl)) (fun S1 H locs hw hH => ?_)
  refine W.widen (k := 0) (n := 0) (Nat.le_of_ble_eq_true rfl) (Nat.le_of_ble_eq_true rfl) ?_
  refine lv_iconst (v := (-1)) hC.1 hC.2.1 dX5_dearest_9 (by decide) ?_
  have hw := hw _ rfl
  refine lv_istore_n (lv' := [(1, .int _), (0, .ref _)]) hC.1 hC.2.1 dX5_dearest_10 rfl hl (by decide) rfl (fun ls hl => ?_)
  refine lv_iconst (v := 0) hC.1 hC.2.1 dX5_dearest_11 (by decide) ?_
  have hw := hw _ rfl
  refine lv_istore_n (lv' := [(2, .int _), (1, .int _), (0, .ref _)]) hC.1 hC.2.1 dX5_dearest_12 rfl hl (by decide) rfl (fun ls hl => ?_)
  obtain ⟨n, hw⟩ := hw
  exact lw_X5_dearest_13 hl0 hC hrt hlk hmn hnx hs n _ _ _ _ hw _ _ hH _ (lv_sub hl [2, 1, 0] rfl)
abbrev rm_X5_lineSumOf : Room := { frames := 1, cells := 0, slots := 0, locals := 0 }
def bk_X5_lineSumOf_35 (z : Nat × Nat) (Q : Int32 → mmS → Prop) (X : String → mmS → Prop) (K4 : mmS → Nat → Int32 → Int32 → Int32 → Prop) (S : mmS) (x0 : Nat) (x1 : Int32) (x3 : Int32) (t0 : Int32) (t1 : Int32) : Prop := ∀ v1 : Int32, v1 = (t0 + t1) → ∀ v2 : Int32, v2 = x3 + 1 → K4 S x0 x1 v1 v2
def bk_X5_lineSumOf_4 (z : Nat × Nat) (Q : Int32 → mmS → Prop) (X : String → mmS → Prop) (K4 : mmS → Nat → Int32 → Int32 → Int32 → Prop) (S : mmS) (x0 : Nat) (x1 : Int32) (x2 : Int32) (x3 : Int32) : Prop := (x0 ∈ mL S ∧ mK S x0 = 5) ∧ ((mI S 27 x0) ≤ x3 → Q x2 S) ∧ (¬ (mI S 27 x0) ≤ x3 → ∃ b2 : Nat, mR S 17 x0 = some b2 ∧ (b2 ∈ mL S ∧ mK S b2 = 7) ∧ vp_in ((4 : Int32) * x3) (mN S b2) ∧ (¬ (mA S b2 ((4 : Int32) * x3).toNatClampNeg) = x1 → bk_X5_lineSumOf_35 z Q X K4 S x0 x1 x3 x2 (0 : Int32)) ∧ ((mA S b2 ((4 : Int32) * x3).toNatClampNeg) = x1 → ∃ b6 : Nat, mR S 21 x0 = some b6 ∧ (b6 ∈ mL S ∧ mK S b6 = 7) ∧ vp_in x3 (mN S b6) ∧ bk_X5_lineSumOf_35 z Q X K4 S x0 x1 x3 x2 (mA S b6 (x3).toNatClampNeg)))
def lp_X5_lineSumOf_4 (z : Nat × Nat) (Q : Int32 → mmS → Prop) (X : String → mmS → Prop) : Nat → mmS → Nat → Int32 → Int32 → Int32 → Prop
  | 0 => fun _ _ _ _ _ => False
  | n + 1 => bk_X5_lineSumOf_4 z Q X (lp_X5_lineSumOf_4 z Q X n)
def wp_X5_lineSumOf (z : Nat × Nat) (S : mmS) (p0 : Nat) (p1 : Int32) (Q : Int32 → mmS → Prop) (X : String → mmS → Prop) : Prop := ∀ v1 : Int32, v1 = (0 : Int32) → ∀ v2 : Int32, v2 = (0 : Int32) → ∃ n : Nat, lp_X5_lineSumOf_4 z Q X n S p0 p1 v1 v2
set_option maxHeartbeats 4000000 in
set_option maxRecDepth 100000 in
theorem bw_X5_lineSumOf_35 {p : Program} {l : Launch} {e : Env} {s : State} {m : MethodId} {args : Array Value} {below : List Frame} {meth : Method} {c : Code} {g : mG} {Q : Int32 → mmS → Prop} {X : String → mmS → Prop} (hl0 : l.stackTraces = false) (hC : CallFix p m c cX5_lineSumOf 4 s args (wA_ yX5_lineSumOf cX5_lineSumOf 4 (some .int)) RX5) (hrt : meth.sig.returnType = (some .int)) (hlk : meth.locks = false) (hmn : meth.name = yX5_lineSumOf.name) (hnx : ∀ x ∈ c.exceptionTable.toList, False) (hs : mX g s) {K4 : mmS → Nat → Int32 → Int32 → Int32 → Prop} (hk4 : ∀ (S : mmS) (x0 : Nat) (x1 : Int32) (x2 : Int32) (x3 : Int32), K4 S x0 x1 x2 x3 → ∀ (H : Heap) (locs : List Loc), mH g S s H locs → ∀ ls : Array Slot, lv_has ls 4 [(0, .ref x0), (1, .int x1), (2, .int x2), (3, .int x3)] → W p l e rm_X5_lineSumOf s m args below meth c H locs 0 0 (vx_MQ below (va_Qi Q (wO g) (mB g)) (vx_X (fun _ : mmS => True) (fun E S1 t => X E S1 ∧ wO g S1 t) (mB g)) args s rm_X5_lineSumOf.cells rm_X5_lineSumOf.slots (mB g)) (F0 m 4 ls [])) : ∀ (S : mmS) (x0 : Nat) (x1 : Int32) (x3 : Int32) (t0 : Int32) (t1 : Int32), bk_X5_lineSumOf_35 g.2.2.2.2.2 Q X K4 S x0 x1 x3 t0 t1 → ∀ (H : Heap) (locs : List Loc), mH g S s H locs → ∀ ls : Array Slot, lv_has ls 4 [(0, .ref x0), (1, .int x1), (3, .int x3)] → W p l e rm_X5_lineSumOf s m args below meth c H locs 0 0 (vx_MQ below (va_Qi Q (wO g) (mB g)) (vx_X (fun _ : mmS => True) (fun E S1 t => X E S1 ∧ wO g S1 t) (mB g)) args s rm_X5_lineSumOf.cells rm_X5_lineSumOf.slots (mB g)) (F0 m 35 ls [.int t1, .int t0]) := by
  intro S x0 x1 x3 t0 t1 hw H locs hH ls hl
  unfold bk_X5_lineSumOf_35 at hw
  refine lv_iadd hC.1 hC.2.1 dX5_lineSumOf_35 ?_
  have hw := hw _ rfl
  refine lv_istore_n (lv' := [(2, .int _), (0, .ref _), (1, .int _), (3, .int _)]) hC.1 hC.2.1 dX5_lineSumOf_36 rfl hl (by decide) rfl (fun ls hl => ?_)
  have hw := hw _ rfl
  refine lv_iinc (lv' := [(3, .int _), (2, .int _), (0, .ref _), (1, .int _)]) hC.1 hC.2.1 dX5_lineSumOf_37 hl (k := 3) rfl (rfl : (_ : Int32) + Int32.ofInt 1 = (_ : Int32) + 1) (by decide) rfl (fun ls hl => ?_)
  refine lv_goto (tgt := 4) hC.1 hC.2.1 dX5_lineSumOf_40 (by decide) ?_
  exact hk4 _ _ _ _ _ hw _ _ hH _ (lv_sub hl [2, 3, 1, 0] rfl)
set_option maxHeartbeats 4000000 in
set_option maxRecDepth 100000 in
theorem bw_X5_lineSumOf_4 {p : Program} {l : Launch} {e : Env} {s : State} {m : MethodId} {args : Array Value} {below : List Frame} {meth : Method} {c : Code} {g : mG} {Q : Int32 → mmS → Prop} {X : String → mmS → Prop} (hl0 : l.stackTraces = false) (hC : CallFix p m c cX5_lineSumOf 4 s args (wA_ yX5_lineSumOf cX5_lineSumOf 4 (some .int)) RX5) (hrt : meth.sig.returnType = (some .int)) (hlk : meth.locks = false) (hmn : meth.name = yX5_lineSumOf.name) (hnx : ∀ x ∈ c.exceptionTable.toList, False) (hs : mX g s) {K4 : mmS → Nat → Int32 → Int32 → Int32 → Prop} (hk4 : ∀ (S : mmS) (x0 : Nat) (x1 : Int32) (x2 : Int32) (x3 : Int32), K4 S x0 x1 x2 x3 → ∀ (H : Heap) (locs : List Loc), mH g S s H locs → ∀ ls : Array Slot, lv_has ls 4 [(0, .ref x0), (1, .int x1), (2, .int x2), (3, .int x3)] → W p l e rm_X5_lineSumOf s m args below meth c H locs 0 0 (vx_MQ below (va_Qi Q (wO g) (mB g)) (vx_X (fun _ : mmS => True) (fun E S1 t => X E S1 ∧ wO g S1 t) (mB g)) args s rm_X5_lineSumOf.cells rm_X5_lineSumOf.slots (mB g)) (F0 m 4 ls [])) : ∀ (S : mmS) (x0 : Nat) (x1 : Int32) (x2 : Int32) (x3 : Int32), bk_X5_lineSumOf_4 g.2.2.2.2.2 Q X K4 S x0 x1 x2 x3 → ∀ (H : Heap) (locs : List Loc), mH g S s H locs → ∀ ls : Array Slot, lv_has ls 4 [(0, .ref x0), (1, .int x1), (2, .int x2), (3, .int x3)] → W p l e rm_X5_lineSumOf s m args below meth c H locs 0 0 (vx_MQ below (va_Qi Q (wO g) (mB g)) (vx_X (fun _ : mmS => True) (fun E S1 t => X E S1 ∧ wO g S1 t) (mB g)) args s rm_X5_lineSumOf.cells rm_X5_lineSumOf.slots (mB g)) (F0 m 4 ls []) := by
  intro S x0 x1 x2 x3 hw H locs hH ls hl
  unfold bk_X5_lineSumOf_4 at hw
  refine lv_iload_n hC.1 hC.2.1 dX5_lineSumOf_4 rfl (lv_at hl 3 rfl) ?_
  refine lv_aload_n hC.1 hC.2.1 dX5_lineSumOf_5 rfl (lv_at hl 0 rfl) ?_
  obtain ⟨k1, hw⟩ := hw
  refine m_getI hC hs hH cs5 fs5_8 (fun _ h => List.mem_cons_of_mem _ (inlX5 _ h)) (List.mem_cons_of_mem _ q_440) (fun _ h => h) k1 dX5_lineSumOf_6 ?_
  refine lv_icmp_ge (tgt := 43) hC.1 hC.2.1 dX5_lineSumOf_9 (by decide) (fun hc => ?_) (fun hc => ?_)
  · have hw := hw.1 hc
    refine lv_iload_n hC.1 hC.2.1 dX5_lineSumOf_43 rfl (lv_at hl 2 rfl) ?_
    exact m_reti hC hH hrt rfl hlk (Nat.le_of_ble_eq_true rfl) (Nat.le_of_ble_eq_true rfl) dX5_lineSumOf_44 hw
  · have hw := hw.2 hc
    refine lv_iload_n hC.1 hC.2.1 dX5_lineSumOf_12 rfl (lv_at hl 2 rfl) ?_
    refine lv_aload_n hC.1 hC.2.1 dX5_lineSumOf_13 rfl (lv_at hl 0 rfl) ?_
    obtain ⟨b2, r3, hw⟩ := hw
    refine m_getR hC hs hH cs5 fs5_9 (fun _ h => List.mem_cons_of_mem _ (inlX5 _ h)) (List.mem_cons_of_mem _ q_47) (fun _ h => h) k1 r3 dX5_lineSumOf_14 ?_
    refine lv_iconst (v := 4) hC.1 hC.2.1 dX5_lineSumOf_17 (by decide) ?_
    refine lv_iload_n hC.1 hC.2.1 dX5_lineSumOf_18 rfl (lv_at hl 3 rfl) ?_
    refine lv_imul hC.1 hC.2.1 dX5_lineSumOf_19 ?_
    obtain ⟨k4, hw⟩ := hw
    obtain ⟨i5, hw⟩ := hw
    refine m_iald hC hs hH k4 i5 dX5_lineSumOf_20 ?_
    refine lv_iload_n hC.1 hC.2.1 dX5_lineSumOf_21 rfl (lv_at hl 1 rfl) ?_
    refine lv_icmp_ne (tgt := 34) hC.1 hC.2.1 dX5_lineSumOf_22 (by decide) (fun hc => ?_) (fun hc => ?_)
    · have hw := hw.1 hc
      refine lv_iconst (v := 0) hC.1 hC.2.1 dX5_lineSumOf_34 (by decide) ?_
      exact bw_X5_lineSumOf_35 hl0 hC hrt hlk hmn hnx hs hk4 _ _ _ _ _ _ hw _ _ hH _ (lv_sub hl [0, 1, 3] rfl)
    · have hw := hw.2 hc
      refine lv_aload_n hC.1 hC.2.1 dX5_lineSumOf_25 rfl (lv_at hl 0 rfl) ?_
      obtain ⟨b6, r7, hw⟩ := hw
      refine m_getR hC hs hH cs5 fs5_15 (fun _ h => List.mem_cons_of_mem _ (inlX5 _ h)) (List.mem_cons_of_mem _ q_53) (fun _ h => h) k1 r7 dX5_lineSumOf_26 ?_
      refine lv_iload_n hC.1 hC.2.1 dX5_lineSumOf_29 rfl (lv_at hl 3 rfl) ?_
      obtain ⟨k8, hw⟩ := hw
      obtain ⟨i9, hw⟩ := hw
      refine m_iald hC hs hH k8 i9 dX5_lineSumOf_30 ?_
      refine lv_goto (tgt := 35) hC.1 hC.2.1 dX5_lineSumOf_31 (by decide) ?_
      exact bw_X5_lineSumOf_35 hl0 hC hrt hlk hmn hnx hs hk4 _ _ _ _ _ _ hw _ _ hH _ (lv_sub hl [0, 1, 3] rfl)
theorem lw_X5_lineSumOf_4 {p : Program} {l : Launch} {e : Env} {s : State} {m : MethodId} {args : Array Value} {below : List Frame} {meth : Method} {c : Code} {g : mG} {Q : Int32 → mmS → Prop} {X : String → mmS → Prop} (hl0 : l.stackTraces = false) (hC : CallFix p m c cX5_lineSumOf 4 s args (wA_ yX5_lineSumOf cX5_lineSumOf 4 (some .int)) RX5) (hrt : meth.sig.returnType = (some .int)) (hlk : meth.locks = false) (hmn : meth.name = yX5_lineSumOf.name) (hnx : ∀ x ∈ c.exceptionTable.toList, False) (hs : mX g s) : ∀ (n : Nat) (S : mmS) (x0 : Nat) (x1 : Int32) (x2 : Int32) (x3 : Int32), lp_X5_lineSumOf_4 g.2.2.2.2.2 Q X n S x0 x1 x2 x3 → ∀ (H : Heap) (locs : List Loc), mH g S s H locs → ∀ ls : Array Slot, lv_has ls 4 [(0, .ref x0), (1, .int x1), (2, .int x2), (3, .int x3)] → W p l e rm_X5_lineSumOf s m args below meth c H locs 0 0 (vx_MQ below (va_Qi Q (wO g) (mB g)) (vx_X (fun _ : mmS => True) (fun E S1 t => X E S1 ∧ wO g S1 t) (mB g)) args s rm_X5_lineSumOf.cells rm_X5_lineSumOf.slots (mB g)) (F0 m 4 ls []) := by
  intro n
  induction n with
  | zero => intro S x0 x1 x2 x3 hw; exact False.elim hw
  | succ n ih => exact fun S x0 x1 x2 x3 hw => bw_X5_lineSumOf_4 hl0 hC hrt hlk hmn hnx hs (K4 := lp_X5_lineSumOf_4 g.2.2.2.2.2 Q X n) ih S x0 x1 x2 x3 hw
set_option maxHeartbeats 4000000 in
set_option maxRecDepth 100000 in
theorem met_X5_lineSumOf (l : Launch) (hl0 : l.stackTraces = false) (g : mG) (S : mmS) (p0 : Nat) (p1 : Int32) (Q : Int32 → mmS → Prop) (X : String → mmS → Prop) (hw : wp_X5_lineSumOf g.2.2.2.2.2 S p0 p1 Q X) : mMi l g yX5_lineSumOf (wA_ yX5_lineSumOf cX5_lineSumOf 4 (some .int)) rm_X5_lineSumOf [.ref p0, .int p1] S Q X := by
  refine m_of (y := yX5_lineSumOf) (cc := cX5_lineSumOf) (maxL := 4) (ret := (some .int)) (by decide) rfl (Nat.le_of_ble_eq_true rfl) ?_
  intro p e s m args below meth c ls hC hrt hlk hmn hnx hs hH hl
  have hC : CallFix p m c cX5_lineSumOf 4 s args (wA_ yX5_lineSumOf cX5_lineSumOf 4 (some .int)) RX5 := hC
  have hl : lv_has ls 4 [(0, .ref p0), (1, .int p1)] := hl
  unfold wp_X5_lineSumOf at hw
  refine lv_iconst (v := 0) hC.1 hC.2.1 dX5_lineSumOf_0 (by decide) ?_
  have hw := hw _ rfl
  refine lv_istore_n (lv' := [(2, .int _), (0, .ref _), (1, .int _)]) hC.1 hC.2.1 dX5_lineSumOf_1 rfl hl (by decide) rfl (fun ls hl => ?_)
  refine lv_iconst (v := 0) hC.1 hC.2.1 dX5_lineSumOf_2 (by decide) ?_
  have hw := hw _ rfl
  refine lv_istore_n (lv' := [(3, .int _), (2, .int _), (0, .ref _), (1, .int _)]) hC.1 hC.2.1 dX5_lineSumOf_3 rfl hl (by decide) rfl (fun ls hl => ?_)
  obtain ⟨n, hw⟩ := hw
  exact lw_X5_lineSumOf_4 hl0 hC hrt hlk hmn hnx hs n _ _ _ _ _ hw _ _ hH _ (lv_sub hl [2, 3, 1, 0] rfl)
abbrev rm_X5_lineSum : Room := { frames := 5, cells := 0, slots := 0, locals := 102 }
def wp_X5_lineSum (z : Nat × Nat) (S : mmS) (p0 : Nat) (p1 : Int32) (Q : Int32 → mmS → Prop) (X : String → mmS → Prop) : Prop := (p0 ∈ mL S ∧ mK S p0 = 5) ∧ ∀ S2 : mmS, S2 = sI S 23 p0 (0 : Int32) → wp_X5_isLine z S2 p0 p1 (fun r4 S3 => (¬ r4 = 0 → (p0 ∈ mL S3 ∧ mK S3 p0 = 5) ∧ wp_X5_rateAll z S3 p0 (fun S5 => (p0 ∈ mL S5 ∧ mK S5 p0 = 5) ∧ wp_X5_lineSumOf z S5 p0 p1 (fun r9 S7 => Q r9 S7) X) X) ∧ (r4 = 0 → (p0 ∈ mL S3 ∧ mK S3 p0 = 5) ∧ wp_X5_fail z S3 p0 (1 : Int32) (fun r12 S10 => Q r12 S10) X)) X
set_option maxHeartbeats 4000000 in
set_option maxRecDepth 100000 in
theorem met_X5_lineSum (l : Launch) (hl0 : l.stackTraces = false) (g : mG) (S : mmS) (p0 : Nat) (p1 : Int32) (Q : Int32 → mmS → Prop) (X : String → mmS → Prop) (hw : wp_X5_lineSum g.2.2.2.2.2 S p0 p1 Q X) : mMi l g yX5_lineSum (wA_ yX5_lineSum cX5_lineSum 2 (some .int)) rm_X5_lineSum [.ref p0, .int p1] S Q X := by
  refine m_of (y := yX5_lineSum) (cc := cX5_lineSum) (maxL := 2) (ret := (some .int)) (by decide) rfl (Nat.le_of_ble_eq_true rfl) ?_
  intro p e s m args below meth c ls hC hrt hlk hmn hnx hs hH hl
  have hC : CallFix p m c cX5_lineSum 2 s args (wA_ yX5_lineSum cX5_lineSum 2 (some .int)) RX5 := hC
  have hl : lv_has ls 2 [(0, .ref p0), (1, .int p1)] := hl
  unfold wp_X5_lineSum at hw
  refine lv_aload_n hC.1 hC.2.1 dX5_lineSum_0 rfl (lv_at hl 0 rfl) ?_
  refine lv_iconst (v := 0) hC.1 hC.2.1 dX5_lineSum_1 (by decide) ?_
  obtain ⟨k1, hw⟩ := hw
  have hw := hw _ rfl
  refine m_putI hC hs hH cs5 fs5_0 (fun _ h => List.mem_cons_of_mem _ (inlX5 _ h)) (List.mem_cons_of_mem _ q_153) (fun _ h => h) (Or.inl rfl) rfl k1 dX5_lineSum_2 (fun H locs hH => ?_)
  refine lv_aload_n hC.1 hC.2.1 dX5_lineSum_5 rfl (lv_at hl 0 rfl) ?_
  refine lv_iload_n hC.1 hC.2.1 dX5_lineSum_6 rfl (lv_at hl 1 rfl) ?_
  refine m_callVi (y := yX5_isLine) (rest := []) hC hs hH hl.1 (cwV 1 hC.2.2.2.2 (gA_V q_388 q_389 q_390 q_5 q_391) rfl rfl rfl (by decide +kernel) ⟨Nat.le_of_ble_eq_true rfl, Nat.le_of_ble_eq_true rfl⟩) cs5 k1 (met_X5_isLine l hl0 g _ _ _ _ _ hw) rfl rfl (Nat.le_of_ble_eq_true rfl) dX5_lineSum_7 ⟨Nat.le_of_ble_eq_true rfl, Nat.le_of_ble_eq_true rfl⟩ (m_out (fun x hx => (hnx x hx).elim) hlk (Nat.le_of_ble_eq_true rfl) (Nat.le_of_ble_eq_true rfl)) (fun r4 S1 H locs hw hH => ?_)
  refine W.widen (k := 0) (n := 0) (Nat.le_of_ble_eq_true rfl) (Nat.le_of_ble_eq_true rfl) ?_
  refine lv_if_ne (tgt := 19) hC.1 hC.2.1 dX5_lineSum_10 (by decide) (fun hc => ?_) (fun hc => ?_)
  · have hw := hw.1 hc
    refine lv_aload_n hC.1 hC.2.1 dX5_lineSum_19 rfl (lv_at hl 0 rfl) ?_
    obtain ⟨k6, hw⟩ := hw
    refine m_callVv (y := yX5_rateAll) (rest := []) hC hs hH hl.1 (cwV 0 hC.2.2.2.2 (gA_V q_513 q_514 q_515 q_5 q_516) rfl rfl rfl (by decide +kernel) ⟨Nat.le_of_ble_eq_true rfl, Nat.le_of_ble_eq_true rfl⟩) cs5 k6 (met_X5_rateAll l hl0 g _ _ _ _ hw) rfl rfl (Nat.le_of_ble_eq_true rfl) dX5_lineSum_20 ⟨Nat.le_of_ble_eq_true rfl, Nat.le_of_ble_eq_true rfl⟩ (m_out (fun x hx => (hnx x hx).elim) hlk (Nat.le_of_ble_eq_true rfl) (Nat.le_of_ble_eq_true rfl)) (fun S1 H locs hw hH => ?_)
    refine W.widen (k := 0) (n := 0) (Nat.le_of_ble_eq_true rfl) (Nat.le_of_ble_eq_true rfl) ?_
    refine lv_aload_n hC.1 hC.2.1 dX5_lineSum_23 rfl (lv_at hl 0 rfl) ?_
    refine lv_iload_n hC.1 hC.2.1 dX5_lineSum_24 rfl (lv_at hl 1 rfl) ?_
    obtain ⟨k8, hw⟩ := hw
    refine m_callVi (y := yX5_lineSumOf) (rest := []) hC hs hH hl.1 (cwV 1 hC.2.2.2.2 (gA_V q_550 q_551 q_552 q_5 q_553) rfl rfl rfl (by decide +kernel) ⟨Nat.le_of_ble_eq_true rfl, Nat.le_of_ble_eq_true rfl⟩) cs5 k8 (met_X5_lineSumOf l hl0 g _ _ _ _ _ hw) rfl rfl (Nat.le_of_ble_eq_true rfl) dX5_lineSum_25 ⟨Nat.le_of_ble_eq_true rfl, Nat.le_of_ble_eq_true rfl⟩ (m_out (fun x hx => (hnx x hx).elim) hlk (Nat.le_of_ble_eq_true rfl) (Nat.le_of_ble_eq_true rfl)) (fun r9 S1 H locs hw hH => ?_)
    refine W.widen (k := 0) (n := 0) (Nat.le_of_ble_eq_true rfl) (Nat.le_of_ble_eq_true rfl) ?_
    exact m_reti hC hH hrt rfl hlk (Nat.le_of_ble_eq_true rfl) (Nat.le_of_ble_eq_true rfl) dX5_lineSum_28 hw
  · have hw := hw.2 hc
    refine lv_aload_n hC.1 hC.2.1 dX5_lineSum_13 rfl (lv_at hl 0 rfl) ?_
    refine lv_iconst (v := 1) hC.1 hC.2.1 dX5_lineSum_14 (by decide) ?_
    obtain ⟨k11, hw⟩ := hw
    refine m_callVi (y := yX5_fail) (rest := []) hC hs hH hl.1 (cwV 1 hC.2.2.2.2 (gA_V q_159 q_160 q_161 q_5 q_162) rfl rfl rfl (by decide +kernel) ⟨Nat.le_of_ble_eq_true rfl, Nat.le_of_ble_eq_true rfl⟩) cs5 k11 (met_X5_fail l hl0 g _ _ _ _ _ hw) rfl rfl (Nat.le_of_ble_eq_true rfl) dX5_lineSum_15 ⟨Nat.le_of_ble_eq_true rfl, Nat.le_of_ble_eq_true rfl⟩ (m_out (fun x hx => (hnx x hx).elim) hlk (Nat.le_of_ble_eq_true rfl) (Nat.le_of_ble_eq_true rfl)) (fun r12 S1 H locs hw hH => ?_)
    refine W.widen (k := 0) (n := 0) (Nat.le_of_ble_eq_true rfl) (Nat.le_of_ble_eq_true rfl) ?_
    exact m_reti hC hH hrt rfl hlk (Nat.le_of_ble_eq_true rfl) (Nat.le_of_ble_eq_true rfl) dX5_lineSum_18 hw
abbrev rm_X5_daySum : Room := { frames := 5, cells := 0, slots := 0, locals := 102 }
def bk_X5_daySum_65 (z : Nat × Nat) (Q : Int32 → mmS → Prop) (X : String → mmS → Prop) (K29 : mmS → Nat → Int32 → Int32 → Int32 → Prop) (S : mmS) (x0 : Nat) (x1 : Int32) (x3 : Int32) (t0 : Int32) (t1 : Int32) : Prop := ∀ v1 : Int32, v1 = (t0 + t1) → ∀ v2 : Int32, v2 = x3 + 1 → K29 S x0 x1 v1 v2
def bk_X5_daySum_29 (z : Nat × Nat) (Q : Int32 → mmS → Prop) (X : String → mmS → Prop) (K29 : mmS → Nat → Int32 → Int32 → Int32 → Prop) (S : mmS) (x0 : Nat) (x1 : Int32) (x2 : Int32) (x3 : Int32) : Prop := (x0 ∈ mL S ∧ mK S x0 = 5) ∧ ((mI S 27 x0) ≤ x3 → Q x2 S) ∧ (¬ (mI S 27 x0) ≤ x3 → ∃ b2 : Nat, mR S 17 x0 = some b2 ∧ (b2 ∈ mL S ∧ mK S b2 = 7) ∧ vp_in (((4 : Int32) * x3) + (1 : Int32)) (mN S b2) ∧ wp_X5_dayOf z S (mA S b2 (((4 : Int32) * x3) + (1 : Int32)).toNatClampNeg) (fun r7 S6 => (¬ r7 = x1 → bk_X5_daySum_65 z Q X K29 S6 x0 x1 x3 x2 (0 : Int32)) ∧ (r7 = x1 → (x0 ∈ mL S6 ∧ mK S6 x0 = 5) ∧ ∃ b9 : Nat, mR S6 21 x0 = some b9 ∧ (b9 ∈ mL S6 ∧ mK S6 b9 = 7) ∧ vp_in x3 (mN S6 b9) ∧ bk_X5_daySum_65 z Q X K29 S6 x0 x1 x3 x2 (mA S6 b9 (x3).toNatClampNeg))) X)
def lp_X5_daySum_29 (z : Nat × Nat) (Q : Int32 → mmS → Prop) (X : String → mmS → Prop) : Nat → mmS → Nat → Int32 → Int32 → Int32 → Prop
  | 0 => fun _ _ _ _ _ => False
  | n + 1 => bk_X5_daySum_29 z Q X (lp_X5_daySum_29 z Q X n)
def wp_X5_daySum (z : Nat × Nat) (S : mmS) (p0 : Nat) (p1 : Int32) (Q : Int32 → mmS → Prop) (X : String → mmS → Prop) : Prop := (p0 ∈ mL S ∧ mK S p0 = 5) ∧ ∀ S2 : mmS, S2 = sI S 23 p0 (0 : Int32) → wp_X5_isIn z S2 p1 (0 : Int32) (29 : Int32) (fun r4 S3 => (¬ r4 = 0 → (p0 ∈ mL S3 ∧ mK S3 p0 = 5) ∧ wp_X5_rateAll z S3 p0 (fun S5 => ∀ v7 : Int32, v7 = (0 : Int32) → ∀ v8 : Int32, v8 = (0 : Int32) → ∃ n : Nat, lp_X5_daySum_29 z Q X n S5 p0 p1 v7 v8) X) ∧ (r4 = 0 → (p0 ∈ mL S3 ∧ mK S3 p0 = 5) ∧ wp_X5_fail z S3 p0 (1 : Int32) (fun r11 S9 => Q r11 S9) X)) X
set_option maxHeartbeats 4000000 in
set_option maxRecDepth 100000 in
theorem bw_X5_daySum_65 {p : Program} {l : Launch} {e : Env} {s : State} {m : MethodId} {args : Array Value} {below : List Frame} {meth : Method} {c : Code} {g : mG} {Q : Int32 → mmS → Prop} {X : String → mmS → Prop} (hl0 : l.stackTraces = false) (hC : CallFix p m c cX5_daySum 4 s args (wA_ yX5_daySum cX5_daySum 4 (some .int)) RX5) (hrt : meth.sig.returnType = (some .int)) (hlk : meth.locks = false) (hmn : meth.name = yX5_daySum.name) (hnx : ∀ x ∈ c.exceptionTable.toList, False) (hs : mX g s) {K29 : mmS → Nat → Int32 → Int32 → Int32 → Prop} (hk29 : ∀ (S : mmS) (x0 : Nat) (x1 : Int32) (x2 : Int32) (x3 : Int32), K29 S x0 x1 x2 x3 → ∀ (H : Heap) (locs : List Loc), mH g S s H locs → ∀ ls : Array Slot, lv_has ls 4 [(0, .ref x0), (1, .int x1), (2, .int x2), (3, .int x3)] → W p l e rm_X5_daySum s m args below meth c H locs 0 0 (vx_MQ below (va_Qi Q (wO g) (mB g)) (vx_X (fun _ : mmS => True) (fun E S1 t => X E S1 ∧ wO g S1 t) (mB g)) args s rm_X5_daySum.cells rm_X5_daySum.slots (mB g)) (F0 m 29 ls [])) : ∀ (S : mmS) (x0 : Nat) (x1 : Int32) (x3 : Int32) (t0 : Int32) (t1 : Int32), bk_X5_daySum_65 g.2.2.2.2.2 Q X K29 S x0 x1 x3 t0 t1 → ∀ (H : Heap) (locs : List Loc), mH g S s H locs → ∀ ls : Array Slot, lv_has ls 4 [(0, .ref x0), (1, .int x1), (3, .int x3)] → W p l e rm_X5_daySum s m args below meth c H locs 0 0 (vx_MQ below (va_Qi Q (wO g) (mB g)) (vx_X (fun _ : mmS => True) (fun E S1 t => X E S1 ∧ wO g S1 t) (mB g)) args s rm_X5_daySum.cells rm_X5_daySum.slots (mB g)) (F0 m 65 ls [.int t1, .int t0]) := by
  intro S x0 x1 x3 t0 t1 hw H locs hH ls hl
  unfold bk_X5_daySum_65 at hw
  refine lv_iadd hC.1 hC.2.1 dX5_daySum_65 ?_
  have hw := hw _ rfl
  refine lv_istore_n (lv' := [(2, .int _), (0, .ref _), (1, .int _), (3, .int _)]) hC.1 hC.2.1 dX5_daySum_66 rfl hl (by decide) rfl (fun ls hl => ?_)
  have hw := hw _ rfl
  refine lv_iinc (lv' := [(3, .int _), (2, .int _), (0, .ref _), (1, .int _)]) hC.1 hC.2.1 dX5_daySum_67 hl (k := 3) rfl (rfl : (_ : Int32) + Int32.ofInt 1 = (_ : Int32) + 1) (by decide) rfl (fun ls hl => ?_)
  refine lv_goto (tgt := 29) hC.1 hC.2.1 dX5_daySum_70 (by decide) ?_
  exact hk29 _ _ _ _ _ hw _ _ hH _ (lv_sub hl [2, 3, 1, 0] rfl)
set_option maxHeartbeats 4000000 in
set_option maxRecDepth 100000 in
theorem bw_X5_daySum_29 {p : Program} {l : Launch} {e : Env} {s : State} {m : MethodId} {args : Array Value} {below : List Frame} {meth : Method} {c : Code} {g : mG} {Q : Int32 → mmS → Prop} {X : String → mmS → Prop} (hl0 : l.stackTraces = false) (hC : CallFix p m c cX5_daySum 4 s args (wA_ yX5_daySum cX5_daySum 4 (some .int)) RX5) (hrt : meth.sig.returnType = (some .int)) (hlk : meth.locks = false) (hmn : meth.name = yX5_daySum.name) (hnx : ∀ x ∈ c.exceptionTable.toList, False) (hs : mX g s) {K29 : mmS → Nat → Int32 → Int32 → Int32 → Prop} (hk29 : ∀ (S : mmS) (x0 : Nat) (x1 : Int32) (x2 : Int32) (x3 : Int32), K29 S x0 x1 x2 x3 → ∀ (H : Heap) (locs : List Loc), mH g S s H locs → ∀ ls : Array Slot, lv_has ls 4 [(0, .ref x0), (1, .int x1), (2, .int x2), (3, .int x3)] → W p l e rm_X5_daySum s m args below meth c H locs 0 0 (vx_MQ below (va_Qi Q (wO g) (mB g)) (vx_X (fun _ : mmS => True) (fun E S1 t => X E S1 ∧ wO g S1 t) (mB g)) args s rm_X5_daySum.cells rm_X5_daySum.slots (mB g)) (F0 m 29 ls [])) : ∀ (S : mmS) (x0 : Nat) (x1 : Int32) (x2 : Int32) (x3 : Int32), bk_X5_daySum_29 g.2.2.2.2.2 Q X K29 S x0 x1 x2 x3 → ∀ (H : Heap) (locs : List Loc), mH g S s H locs → ∀ ls : Array Slot, lv_has ls 4 [(0, .ref x0), (1, .int x1), (2, .int x2), (3, .int x3)] → W p l e rm_X5_daySum s m args below meth c H locs 0 0 (vx_MQ below (va_Qi Q (wO g) (mB g)) (vx_X (fun _ : mmS => True) (fun E S1 t => X E S1 ∧ wO g S1 t) (mB g)) args s rm_X5_daySum.cells rm_X5_daySum.slots (mB g)) (F0 m 29 ls []) := by
  intro S x0 x1 x2 x3 hw H locs hH ls hl
  unfold bk_X5_daySum_29 at hw
  refine lv_iload_n hC.1 hC.2.1 dX5_daySum_29 rfl (lv_at hl 3 rfl) ?_
  refine lv_aload_n hC.1 hC.2.1 dX5_daySum_30 rfl (lv_at hl 0 rfl) ?_
  obtain ⟨k1, hw⟩ := hw
  refine m_getI hC hs hH cs5 fs5_8 (fun _ h => List.mem_cons_of_mem _ (inlX5 _ h)) (List.mem_cons_of_mem _ q_440) (fun _ h => h) k1 dX5_daySum_31 ?_
  refine lv_icmp_ge (tgt := 73) hC.1 hC.2.1 dX5_daySum_34 (by decide) (fun hc => ?_) (fun hc => ?_)
  · have hw := hw.1 hc
    refine lv_iload_n hC.1 hC.2.1 dX5_daySum_73 rfl (lv_at hl 2 rfl) ?_
    exact m_reti hC hH hrt rfl hlk (Nat.le_of_ble_eq_true rfl) (Nat.le_of_ble_eq_true rfl) dX5_daySum_74 hw
  · have hw := hw.2 hc
    refine lv_iload_n hC.1 hC.2.1 dX5_daySum_37 rfl (lv_at hl 2 rfl) ?_
    refine lv_aload_n hC.1 hC.2.1 dX5_daySum_38 rfl (lv_at hl 0 rfl) ?_
    obtain ⟨b2, r3, hw⟩ := hw
    refine m_getR hC hs hH cs5 fs5_9 (fun _ h => List.mem_cons_of_mem _ (inlX5 _ h)) (List.mem_cons_of_mem _ q_47) (fun _ h => h) k1 r3 dX5_daySum_39 ?_
    refine lv_iconst (v := 4) hC.1 hC.2.1 dX5_daySum_42 (by decide) ?_
    refine lv_iload_n hC.1 hC.2.1 dX5_daySum_43 rfl (lv_at hl 3 rfl) ?_
    refine lv_imul hC.1 hC.2.1 dX5_daySum_44 ?_
    refine lv_iconst (v := 1) hC.1 hC.2.1 dX5_daySum_45 (by decide) ?_
    refine lv_iadd hC.1 hC.2.1 dX5_daySum_46 ?_
    obtain ⟨k4, hw⟩ := hw
    obtain ⟨i5, hw⟩ := hw
    refine m_iald hC hs hH k4 i5 dX5_daySum_47 ?_
    refine m_callSi (y := yX5_dayOf) (rest := [.int _]) hC hs hH hl.1 (va_cwS 1 hC.2.2.2.2 (gA_S q_495 q_496 q_5 q_497) rfl rfl rfl (by decide +kernel) ⟨Nat.le_of_ble_eq_true rfl, Nat.le_of_ble_eq_true rfl⟩) (met_X5_dayOf l hl0 g _ _ _ _ hw) rfl rfl (Nat.le_of_ble_eq_true rfl) dX5_daySum_48 ⟨Nat.le_of_ble_eq_true rfl, Nat.le_of_ble_eq_true rfl⟩ (m_out (fun x hx => (hnx x hx).elim) hlk (Nat.le_of_ble_eq_true rfl) (Nat.le_of_ble_eq_true rfl)) (fun r7 S1 H locs hw hH => ?_)
    refine W.widen (k := 0) (n := 0) (Nat.le_of_ble_eq_true rfl) (Nat.le_of_ble_eq_true rfl) ?_
    refine lv_iload_n hC.1 hC.2.1 dX5_daySum_51 rfl (lv_at hl 1 rfl) ?_
    refine lv_icmp_ne (tgt := 64) hC.1 hC.2.1 dX5_daySum_52 (by decide) (fun hc => ?_) (fun hc => ?_)
    · have hw := hw.1 hc
      refine lv_iconst (v := 0) hC.1 hC.2.1 dX5_daySum_64 (by decide) ?_
      exact bw_X5_daySum_65 hl0 hC hrt hlk hmn hnx hs hk29 _ _ _ _ _ _ hw _ _ hH _ (lv_sub hl [0, 1, 3] rfl)
    · have hw := hw.2 hc
      refine lv_aload_n hC.1 hC.2.1 dX5_daySum_55 rfl (lv_at hl 0 rfl) ?_
      obtain ⟨k8, hw⟩ := hw
      obtain ⟨b9, r10, hw⟩ := hw
      refine m_getR hC hs hH cs5 fs5_15 (fun _ h => List.mem_cons_of_mem _ (inlX5 _ h)) (List.mem_cons_of_mem _ q_53) (fun _ h => h) k8 r10 dX5_daySum_56 ?_
      refine lv_iload_n hC.1 hC.2.1 dX5_daySum_59 rfl (lv_at hl 3 rfl) ?_
      obtain ⟨k11, hw⟩ := hw
      obtain ⟨i12, hw⟩ := hw
      refine m_iald hC hs hH k11 i12 dX5_daySum_60 ?_
      refine lv_goto (tgt := 65) hC.1 hC.2.1 dX5_daySum_61 (by decide) ?_
      exact bw_X5_daySum_65 hl0 hC hrt hlk hmn hnx hs hk29 _ _ _ _ _ _ hw _ _ hH _ (lv_sub hl [0, 1, 3] rfl)
theorem lw_X5_daySum_29 {p : Program} {l : Launch} {e : Env} {s : State} {m : MethodId} {args : Array Value} {below : List Frame} {meth : Method} {c : Code} {g : mG} {Q : Int32 → mmS → Prop} {X : String → mmS → Prop} (hl0 : l.stackTraces = false) (hC : CallFix p m c cX5_daySum 4 s args (wA_ yX5_daySum cX5_daySum 4 (some .int)) RX5) (hrt : meth.sig.returnType = (some .int)) (hlk : meth.locks = false) (hmn : meth.name = yX5_daySum.name) (hnx : ∀ x ∈ c.exceptionTable.toList, False) (hs : mX g s) : ∀ (n : Nat) (S : mmS) (x0 : Nat) (x1 : Int32) (x2 : Int32) (x3 : Int32), lp_X5_daySum_29 g.2.2.2.2.2 Q X n S x0 x1 x2 x3 → ∀ (H : Heap) (locs : List Loc), mH g S s H locs → ∀ ls : Array Slot, lv_has ls 4 [(0, .ref x0), (1, .int x1), (2, .int x2), (3, .int x3)] → W p l e rm_X5_daySum s m args below meth c H locs 0 0 (vx_MQ below (va_Qi Q (wO g) (mB g)) (vx_X (fun _ : mmS => True) (fun E S1 t => X E S1 ∧ wO g S1 t) (mB g)) args s rm_X5_daySum.cells rm_X5_daySum.slots (mB g)) (F0 m 29 ls []) := by
  intro n
  induction n with
  | zero => intro S x0 x1 x2 x3 hw; exact False.elim hw
  | succ n ih => exact fun S x0 x1 x2 x3 hw => bw_X5_daySum_29 hl0 hC hrt hlk hmn hnx hs (K29 := lp_X5_daySum_29 g.2.2.2.2.2 Q X n) ih S x0 x1 x2 x3 hw
set_option maxHeartbeats 4000000 in
set_option maxRecDepth 100000 in
theorem met_X5_daySum (l : Launch) (hl0 : l.stackTraces = false) (g : mG) (S : mmS) (p0 : Nat) (p1 : Int32) (Q : Int32 → mmS → Prop) (X : String → mmS → Prop) (hw : wp_X5_daySum g.2.2.2.2.2 S p0 p1 Q X) : mMi l g yX5_daySum (wA_ yX5_daySum cX5_daySum 4 (some .int)) rm_X5_daySum [.ref p0, .int p1] S Q X := by
  refine m_of (y := yX5_daySum) (cc := cX5_daySum) (maxL := 4) (ret := (some .int)) (by decide) rfl (Nat.le_of_ble_eq_true rfl) ?_
  intro p e s m args below meth c ls hC hrt hlk hmn hnx hs hH hl
  have hC : CallFix p m c cX5_daySum 4 s args (wA_ yX5_daySum cX5_daySum 4 (some .int)) RX5 := hC
  have hl : lv_has ls 4 [(0, .ref p0), (1, .int p1)] := hl
  unfold wp_X5_daySum at hw
  refine lv_aload_n hC.1 hC.2.1 dX5_daySum_0 rfl (lv_at hl 0 rfl) ?_
  refine lv_iconst (v := 0) hC.1 hC.2.1 dX5_daySum_1 (by decide) ?_
  obtain ⟨k1, hw⟩ := hw
  have hw := hw _ rfl
  refine m_putI hC hs hH cs5 fs5_0 (fun _ h => List.mem_cons_of_mem _ (inlX5 _ h)) (List.mem_cons_of_mem _ q_153) (fun _ h => h) (Or.inl rfl) rfl k1 dX5_daySum_2 (fun H locs hH => ?_)
  refine lv_iload_n hC.1 hC.2.1 dX5_daySum_5 rfl (lv_at hl 1 rfl) ?_
  refine lv_iconst (v := 0) hC.1 hC.2.1 dX5_daySum_6 (by decide) ?_
  refine lv_bipush (v := 29) hC.1 hC.2.1 dX5_daySum_7 (by decide) ?_
  refine m_callSi (y := yX5_isIn) (rest := []) hC hs hH hl.1 (va_cwS 3 hC.2.2.2.2 (gA_S q_156 q_157 q_5 q_158) rfl rfl rfl (by decide +kernel) ⟨Nat.le_of_ble_eq_true rfl, Nat.le_of_ble_eq_true rfl⟩) (met_X5_isIn l hl0 g _ _ _ _ _ _ hw) rfl rfl (Nat.le_of_ble_eq_true rfl) dX5_daySum_9 ⟨Nat.le_of_ble_eq_true rfl, Nat.le_of_ble_eq_true rfl⟩ (m_out (fun x hx => (hnx x hx).elim) hlk (Nat.le_of_ble_eq_true rfl) (Nat.le_of_ble_eq_true rfl)) (fun r4 S1 H locs hw hH => ?_)
  refine W.widen (k := 0) (n := 0) (Nat.le_of_ble_eq_true rfl) (Nat.le_of_ble_eq_true rfl) ?_
  refine lv_if_ne (tgt := 21) hC.1 hC.2.1 dX5_daySum_12 (by decide) (fun hc => ?_) (fun hc => ?_)
  · have hw := hw.1 hc
    refine lv_aload_n hC.1 hC.2.1 dX5_daySum_21 rfl (lv_at hl 0 rfl) ?_
    obtain ⟨k6, hw⟩ := hw
    refine m_callVv (y := yX5_rateAll) (rest := []) hC hs hH hl.1 (cwV 0 hC.2.2.2.2 (gA_V q_513 q_514 q_515 q_5 q_516) rfl rfl rfl (by decide +kernel) ⟨Nat.le_of_ble_eq_true rfl, Nat.le_of_ble_eq_true rfl⟩) cs5 k6 (met_X5_rateAll l hl0 g _ _ _ _ hw) rfl rfl (Nat.le_of_ble_eq_true rfl) dX5_daySum_22 ⟨Nat.le_of_ble_eq_true rfl, Nat.le_of_ble_eq_true rfl⟩ (m_out (fun x hx => (hnx x hx).elim) hlk (Nat.le_of_ble_eq_true rfl) (Nat.le_of_ble_eq_true rfl)) (fun S1 H locs hw hH => ?_)
    refine W.widen (k := 0) (n := 0) (Nat.le_of_ble_eq_true rfl) (Nat.le_of_ble_eq_true rfl) ?_
    refine lv_iconst (v := 0) hC.1 hC.2.1 dX5_daySum_25 (by decide) ?_
    have hw := hw _ rfl
    refine lv_istore_n (lv' := [(2, .int _), (0, .ref _), (1, .int _)]) hC.1 hC.2.1 dX5_daySum_26 rfl hl (by decide) rfl (fun ls hl => ?_)
    refine lv_iconst (v := 0) hC.1 hC.2.1 dX5_daySum_27 (by decide) ?_
    have hw := hw _ rfl
    refine lv_istore_n (lv' := [(3, .int _), (2, .int _), (0, .ref _), (1, .int _)]) hC.1 hC.2.1 dX5_daySum_28 rfl hl (by decide) rfl (fun ls hl => ?_)
    obtain ⟨n, hw⟩ := hw
    exact lw_X5_daySum_29 hl0 hC hrt hlk hmn hnx hs n _ _ _ _ _ hw _ _ hH _ (lv_sub hl [2, 3, 1, 0] rfl)
  · have hw := hw.2 hc
    refine lv_aload_n hC.1 hC.2.1 dX5_daySum_15 rfl (lv_at hl 0 rfl) ?_
    refine lv_iconst (v := 1) hC.1 hC.2.1 dX5_daySum_16 (by decide) ?_
    obtain ⟨k10, hw⟩ := hw
    refine m_callVi (y := yX5_fail) (rest := []) hC hs hH hl.1 (cwV 1 hC.2.2.2.2 (gA_V q_159 q_160 q_161 q_5 q_162) rfl rfl rfl (by decide +kernel) ⟨Nat.le_of_ble_eq_true rfl, Nat.le_of_ble_eq_true rfl⟩) cs5 k10 (met_X5_fail l hl0 g _ _ _ _ _ hw) rfl rfl (Nat.le_of_ble_eq_true rfl) dX5_daySum_17 ⟨Nat.le_of_ble_eq_true rfl, Nat.le_of_ble_eq_true rfl⟩ (m_out (fun x hx => (hnx x hx).elim) hlk (Nat.le_of_ble_eq_true rfl) (Nat.le_of_ble_eq_true rfl)) (fun r11 S1 H locs hw hH => ?_)
    refine W.widen (k := 0) (n := 0) (Nat.le_of_ble_eq_true rfl) (Nat.le_of_ble_eq_true rfl) ?_
    exact m_reti hC hH hrt rfl hlk (Nat.le_of_ble_eq_true rfl) (Nat.le_of_ble_eq_true rfl) dX5_daySum_20 hw
abbrev rm_X5_sumOf : Room := { frames := 2, cells := 0, slots := 0, locals := 23 }
def bk_X5_sumOf_32 (z : Nat × Nat) (Q : Int32 → mmS → Prop) (X : String → mmS → Prop) (K4 : mmS → Nat → Int32 → Int32 → Int32 → Prop) (S : mmS) (x0 : Nat) (x1 : Int32) (x3 : Int32) (t0 : Int32) (t1 : Int32) : Prop := ∀ v1 : Int32, v1 = (t0 + t1) → ∀ v2 : Int32, v2 = x3 + 1 → K4 S x0 x1 v1 v2
def bk_X5_sumOf_4 (z : Nat × Nat) (Q : Int32 → mmS → Prop) (X : String → mmS → Prop) (K4 : mmS → Nat → Int32 → Int32 → Int32 → Prop) (S : mmS) (x0 : Nat) (x1 : Int32) (x2 : Int32) (x3 : Int32) : Prop := (x0 ∈ mL S ∧ mK S x0 = 5) ∧ ((mI S 26 x0) ≤ x3 → Q x2 S) ∧ (¬ (mI S 26 x0) ≤ x3 → ∃ b2 : Nat, mR S 15 x0 = some b2 ∧ (b2 ∈ mL S ∧ mK S b2 = 7) ∧ vp_in x3 (mN S b2) ∧ (¬ (mA S b2 (x3).toNatClampNeg) = x1 → bk_X5_sumOf_32 z Q X K4 S x0 x1 x3 x2 (0 : Int32)) ∧ ((mA S b2 (x3).toNatClampNeg) = x1 → wp_X5_lineSumOf z S x0 x3 (fun r7 S6 => bk_X5_sumOf_32 z Q X K4 S6 x0 x1 x3 x2 r7) X))
def lp_X5_sumOf_4 (z : Nat × Nat) (Q : Int32 → mmS → Prop) (X : String → mmS → Prop) : Nat → mmS → Nat → Int32 → Int32 → Int32 → Prop
  | 0 => fun _ _ _ _ _ => False
  | n + 1 => bk_X5_sumOf_4 z Q X (lp_X5_sumOf_4 z Q X n)
def wp_X5_sumOf (z : Nat × Nat) (S : mmS) (p0 : Nat) (p1 : Int32) (Q : Int32 → mmS → Prop) (X : String → mmS → Prop) : Prop := ∀ v1 : Int32, v1 = (0 : Int32) → ∀ v2 : Int32, v2 = (0 : Int32) → ∃ n : Nat, lp_X5_sumOf_4 z Q X n S p0 p1 v1 v2
set_option maxHeartbeats 4000000 in
set_option maxRecDepth 100000 in
theorem bw_X5_sumOf_32 {p : Program} {l : Launch} {e : Env} {s : State} {m : MethodId} {args : Array Value} {below : List Frame} {meth : Method} {c : Code} {g : mG} {Q : Int32 → mmS → Prop} {X : String → mmS → Prop} (hl0 : l.stackTraces = false) (hC : CallFix p m c cX5_sumOf 4 s args (wA_ yX5_sumOf cX5_sumOf 4 (some .int)) RX5) (hrt : meth.sig.returnType = (some .int)) (hlk : meth.locks = false) (hmn : meth.name = yX5_sumOf.name) (hnx : ∀ x ∈ c.exceptionTable.toList, False) (hs : mX g s) {K4 : mmS → Nat → Int32 → Int32 → Int32 → Prop} (hk4 : ∀ (S : mmS) (x0 : Nat) (x1 : Int32) (x2 : Int32) (x3 : Int32), K4 S x0 x1 x2 x3 → ∀ (H : Heap) (locs : List Loc), mH g S s H locs → ∀ ls : Array Slot, lv_has ls 4 [(0, .ref x0), (1, .int x1), (2, .int x2), (3, .int x3)] → W p l e rm_X5_sumOf s m args below meth c H locs 0 0 (vx_MQ below (va_Qi Q (wO g) (mB g)) (vx_X (fun _ : mmS => True) (fun E S1 t => X E S1 ∧ wO g S1 t) (mB g)) args s rm_X5_sumOf.cells rm_X5_sumOf.slots (mB g)) (F0 m 4 ls [])) : ∀ (S : mmS) (x0 : Nat) (x1 : Int32) (x3 : Int32) (t0 : Int32) (t1 : Int32), bk_X5_sumOf_32 g.2.2.2.2.2 Q X K4 S x0 x1 x3 t0 t1 → ∀ (H : Heap) (locs : List Loc), mH g S s H locs → ∀ ls : Array Slot, lv_has ls 4 [(0, .ref x0), (1, .int x1), (3, .int x3)] → W p l e rm_X5_sumOf s m args below meth c H locs 0 0 (vx_MQ below (va_Qi Q (wO g) (mB g)) (vx_X (fun _ : mmS => True) (fun E S1 t => X E S1 ∧ wO g S1 t) (mB g)) args s rm_X5_sumOf.cells rm_X5_sumOf.slots (mB g)) (F0 m 32 ls [.int t1, .int t0]) := by
  intro S x0 x1 x3 t0 t1 hw H locs hH ls hl
  unfold bk_X5_sumOf_32 at hw
  refine lv_iadd hC.1 hC.2.1 dX5_sumOf_32 ?_
  have hw := hw _ rfl
  refine lv_istore_n (lv' := [(2, .int _), (0, .ref _), (1, .int _), (3, .int _)]) hC.1 hC.2.1 dX5_sumOf_33 rfl hl (by decide) rfl (fun ls hl => ?_)
  have hw := hw _ rfl
  refine lv_iinc (lv' := [(3, .int _), (2, .int _), (0, .ref _), (1, .int _)]) hC.1 hC.2.1 dX5_sumOf_34 hl (k := 3) rfl (rfl : (_ : Int32) + Int32.ofInt 1 = (_ : Int32) + 1) (by decide) rfl (fun ls hl => ?_)
  refine lv_goto (tgt := 4) hC.1 hC.2.1 dX5_sumOf_37 (by decide) ?_
  exact hk4 _ _ _ _ _ hw _ _ hH _ (lv_sub hl [2, 3, 1, 0] rfl)
set_option maxHeartbeats 4000000 in
set_option maxRecDepth 100000 in
theorem bw_X5_sumOf_4 {p : Program} {l : Launch} {e : Env} {s : State} {m : MethodId} {args : Array Value} {below : List Frame} {meth : Method} {c : Code} {g : mG} {Q : Int32 → mmS → Prop} {X : String → mmS → Prop} (hl0 : l.stackTraces = false) (hC : CallFix p m c cX5_sumOf 4 s args (wA_ yX5_sumOf cX5_sumOf 4 (some .int)) RX5) (hrt : meth.sig.returnType = (some .int)) (hlk : meth.locks = false) (hmn : meth.name = yX5_sumOf.name) (hnx : ∀ x ∈ c.exceptionTable.toList, False) (hs : mX g s) {K4 : mmS → Nat → Int32 → Int32 → Int32 → Prop} (hk4 : ∀ (S : mmS) (x0 : Nat) (x1 : Int32) (x2 : Int32) (x3 : Int32), K4 S x0 x1 x2 x3 → ∀ (H : Heap) (locs : List Loc), mH g S s H locs → ∀ ls : Array Slot, lv_has ls 4 [(0, .ref x0), (1, .int x1), (2, .int x2), (3, .int x3)] → W p l e rm_X5_sumOf s m args below meth c H locs 0 0 (vx_MQ below (va_Qi Q (wO g) (mB g)) (vx_X (fun _ : mmS => True) (fun E S1 t => X E S1 ∧ wO g S1 t) (mB g)) args s rm_X5_sumOf.cells rm_X5_sumOf.slots (mB g)) (F0 m 4 ls [])) : ∀ (S : mmS) (x0 : Nat) (x1 : Int32) (x2 : Int32) (x3 : Int32), bk_X5_sumOf_4 g.2.2.2.2.2 Q X K4 S x0 x1 x2 x3 → ∀ (H : Heap) (locs : List Loc), mH g S s H locs → ∀ ls : Array Slot, lv_has ls 4 [(0, .ref x0), (1, .int x1), (2, .int x2), (3, .int x3)] → W p l e rm_X5_sumOf s m args below meth c H locs 0 0 (vx_MQ below (va_Qi Q (wO g) (mB g)) (vx_X (fun _ : mmS => True) (fun E S1 t => X E S1 ∧ wO g S1 t) (mB g)) args s rm_X5_sumOf.cells rm_X5_sumOf.slots (mB g)) (F0 m 4 ls []) := by
  intro S x0 x1 x2 x3 hw H locs hH ls hl
  unfold bk_X5_sumOf_4 at hw
  refine lv_iload_n hC.1 hC.2.1 dX5_sumOf_4 rfl (lv_at hl 3 rfl) ?_
  refine lv_aload_n hC.1 hC.2.1 dX5_sumOf_5 rfl (lv_at hl 0 rfl) ?_
  obtain ⟨k1, hw⟩ := hw
  refine m_getI hC hs hH cs5 fs5_5 (fun _ h => List.mem_cons_of_mem _ (inlX5 _ h)) (List.mem_cons_of_mem _ q_363) (fun _ h => h) k1 dX5_sumOf_6 ?_
  refine lv_icmp_ge (tgt := 40) hC.1 hC.2.1 dX5_sumOf_9 (by decide) (fun hc => ?_) (fun hc => ?_)
  · have hw := hw.1 hc
    refine lv_iload_n hC.1 hC.2.1 dX5_sumOf_40 rfl (lv_at hl 2 rfl) ?_
    exact m_reti hC hH hrt rfl hlk (Nat.le_of_ble_eq_true rfl) (Nat.le_of_ble_eq_true rfl) dX5_sumOf_41 hw
  · have hw := hw.2 hc
    refine lv_iload_n hC.1 hC.2.1 dX5_sumOf_12 rfl (lv_at hl 2 rfl) ?_
    refine lv_aload_n hC.1 hC.2.1 dX5_sumOf_13 rfl (lv_at hl 0 rfl) ?_
    obtain ⟨b2, r3, hw⟩ := hw
    refine m_getR hC hs hH cs5 fs5_6 (fun _ h => List.mem_cons_of_mem _ (inlX5 _ h)) (List.mem_cons_of_mem _ q_45) (fun _ h => h) k1 r3 dX5_sumOf_14 ?_
    refine lv_iload_n hC.1 hC.2.1 dX5_sumOf_17 rfl (lv_at hl 3 rfl) ?_
    obtain ⟨k4, hw⟩ := hw
    obtain ⟨i5, hw⟩ := hw
    refine m_iald hC hs hH k4 i5 dX5_sumOf_18 ?_
    refine lv_iload_n hC.1 hC.2.1 dX5_sumOf_19 rfl (lv_at hl 1 rfl) ?_
    refine lv_icmp_ne (tgt := 31) hC.1 hC.2.1 dX5_sumOf_20 (by decide) (fun hc => ?_) (fun hc => ?_)
    · have hw := hw.1 hc
      refine lv_iconst (v := 0) hC.1 hC.2.1 dX5_sumOf_31 (by decide) ?_
      exact bw_X5_sumOf_32 hl0 hC hrt hlk hmn hnx hs hk4 _ _ _ _ _ _ hw _ _ hH _ (lv_sub hl [0, 1, 3] rfl)
    · have hw := hw.2 hc
      refine lv_aload_n hC.1 hC.2.1 dX5_sumOf_23 rfl (lv_at hl 0 rfl) ?_
      refine lv_iload_n hC.1 hC.2.1 dX5_sumOf_24 rfl (lv_at hl 3 rfl) ?_
      refine m_callVi (y := yX5_lineSumOf) (rest := [.int _]) hC hs hH hl.1 (cwV 1 hC.2.2.2.2 (gA_V q_550 q_551 q_552 q_5 q_553) rfl rfl rfl (by decide +kernel) ⟨Nat.le_of_ble_eq_true rfl, Nat.le_of_ble_eq_true rfl⟩) cs5 k1 (met_X5_lineSumOf l hl0 g _ _ _ _ _ hw) rfl rfl (Nat.le_of_ble_eq_true rfl) dX5_sumOf_25 ⟨Nat.le_of_ble_eq_true rfl, Nat.le_of_ble_eq_true rfl⟩ (m_out (fun x hx => (hnx x hx).elim) hlk (Nat.le_of_ble_eq_true rfl) (Nat.le_of_ble_eq_true rfl)) (fun r7 S1 H locs hw hH => ?_)
      refine W.widen (k := 0) (n := 0) (Nat.le_of_ble_eq_true rfl) (Nat.le_of_ble_eq_true rfl) ?_
      refine lv_goto (tgt := 32) hC.1 hC.2.1 dX5_sumOf_28 (by decide) ?_
      exact bw_X5_sumOf_32 hl0 hC hrt hlk hmn hnx hs hk4 _ _ _ _ _ _ hw _ _ hH _ (lv_sub hl [0, 1, 3] rfl)
theorem lw_X5_sumOf_4 {p : Program} {l : Launch} {e : Env} {s : State} {m : MethodId} {args : Array Value} {below : List Frame} {meth : Method} {c : Code} {g : mG} {Q : Int32 → mmS → Prop} {X : String → mmS → Prop} (hl0 : l.stackTraces = false) (hC : CallFix p m c cX5_sumOf 4 s args (wA_ yX5_sumOf cX5_sumOf 4 (some .int)) RX5) (hrt : meth.sig.returnType = (some .int)) (hlk : meth.locks = false) (hmn : meth.name = yX5_sumOf.name) (hnx : ∀ x ∈ c.exceptionTable.toList, False) (hs : mX g s) : ∀ (n : Nat) (S : mmS) (x0 : Nat) (x1 : Int32) (x2 : Int32) (x3 : Int32), lp_X5_sumOf_4 g.2.2.2.2.2 Q X n S x0 x1 x2 x3 → ∀ (H : Heap) (locs : List Loc), mH g S s H locs → ∀ ls : Array Slot, lv_has ls 4 [(0, .ref x0), (1, .int x1), (2, .int x2), (3, .int x3)] → W p l e rm_X5_sumOf s m args below meth c H locs 0 0 (vx_MQ below (va_Qi Q (wO g) (mB g)) (vx_X (fun _ : mmS => True) (fun E S1 t => X E S1 ∧ wO g S1 t) (mB g)) args s rm_X5_sumOf.cells rm_X5_sumOf.slots (mB g)) (F0 m 4 ls []) := by
  intro n
  induction n with
  | zero => intro S x0 x1 x2 x3 hw; exact False.elim hw
  | succ n ih => exact fun S x0 x1 x2 x3 hw => bw_X5_sumOf_4 hl0 hC hrt hlk hmn hnx hs (K4 := lp_X5_sumOf_4 g.2.2.2.2.2 Q X n) ih S x0 x1 x2 x3 hw
set_option maxHeartbeats 4000000 in
set_option maxRecDepth 100000 in
theorem met_X5_sumOf (l : Launch) (hl0 : l.stackTraces = false) (g : mG) (S : mmS) (p0 : Nat) (p1 : Int32) (Q : Int32 → mmS → Prop) (X : String → mmS → Prop) (hw : wp_X5_sumOf g.2.2.2.2.2 S p0 p1 Q X) : mMi l g yX5_sumOf (wA_ yX5_sumOf cX5_sumOf 4 (some .int)) rm_X5_sumOf [.ref p0, .int p1] S Q X := by
  refine m_of (y := yX5_sumOf) (cc := cX5_sumOf) (maxL := 4) (ret := (some .int)) (by decide) rfl (Nat.le_of_ble_eq_true rfl) ?_
  intro p e s m args below meth c ls hC hrt hlk hmn hnx hs hH hl
  have hC : CallFix p m c cX5_sumOf 4 s args (wA_ yX5_sumOf cX5_sumOf 4 (some .int)) RX5 := hC
  have hl : lv_has ls 4 [(0, .ref p0), (1, .int p1)] := hl
  unfold wp_X5_sumOf at hw
  refine lv_iconst (v := 0) hC.1 hC.2.1 dX5_sumOf_0 (by decide) ?_
  have hw := hw _ rfl
  refine lv_istore_n (lv' := [(2, .int _), (0, .ref _), (1, .int _)]) hC.1 hC.2.1 dX5_sumOf_1 rfl hl (by decide) rfl (fun ls hl => ?_)
  refine lv_iconst (v := 0) hC.1 hC.2.1 dX5_sumOf_2 (by decide) ?_
  have hw := hw _ rfl
  refine lv_istore_n (lv' := [(3, .int _), (2, .int _), (0, .ref _), (1, .int _)]) hC.1 hC.2.1 dX5_sumOf_3 rfl hl (by decide) rfl (fun ls hl => ?_)
  obtain ⟨n, hw⟩ := hw
  exact lw_X5_sumOf_4 hl0 hC hrt hlk hmn hnx hs n _ _ _ _ _ hw _ _ hH _ (lv_sub hl [2, 3, 1, 0] rfl)
abbrev rm_X5_totalOf : Room := { frames := 3, cells := 0, slots := 0, locals := 46 }
def wp_X5_totalOf (z : Nat × Nat) (S : mmS) (p0 : Nat) (p1 : Int32) (Q : Int32 → mmS → Prop) (X : String → mmS → Prop) : Prop := (p0 ∈ mL S ∧ mK S p0 = 5) ∧ wp_X5_sumOf z S p0 p1 (fun r3 S1 => (p0 ∈ mL S1 ∧ mK S1 p0 = 5) ∧ ∃ b5 : Nat, mR S1 14 p0 = some b5 ∧ (b5 ∈ mL S1 ∧ mK S1 b5 = 7) ∧ vp_in (((3 : Int32) * p1) + (1 : Int32)) (mN S1 b5) ∧ ∀ v9 : Int64, v9 = (Int32.toInt64 (if (0 : Int32) < (r3 - (mA S1 b5 (((3 : Int32) * p1) + (1 : Int32)).toNatClampNeg)) then (r3 - (mA S1 b5 (((3 : Int32) * p1) + (1 : Int32)).toNatClampNeg)) else (0 : Int32))) → ∃ b10 : Nat, mR S1 14 p0 = some b10 ∧ (b10 ∈ mL S1 ∧ mK S1 b10 = 7) ∧ vp_in (((3 : Int32) * p1) + (2 : Int32)) (mN S1 b10) ∧ Q (((r3 - (Int64.toInt32 ((v9 * (Int32.toInt64 (mA S1 b10 (((3 : Int32) * p1) + (2 : Int32)).toNatClampNeg))) / (100 : Int64)))) + (5 : Int32)) / (10 : Int32)) S1) X
set_option maxHeartbeats 4000000 in
set_option maxRecDepth 100000 in
theorem met_X5_totalOf (l : Launch) (hl0 : l.stackTraces = false) (g : mG) (S : mmS) (p0 : Nat) (p1 : Int32) (Q : Int32 → mmS → Prop) (X : String → mmS → Prop) (hw : wp_X5_totalOf g.2.2.2.2.2 S p0 p1 Q X) : mMi l g yX5_totalOf (wA_ yX5_totalOf cX5_totalOf 5 (some .int)) rm_X5_totalOf [.ref p0, .int p1] S Q X := by
  refine m_of (y := yX5_totalOf) (cc := cX5_totalOf) (maxL := 5) (ret := (some .int)) (by decide) rfl (Nat.le_of_ble_eq_true rfl) ?_
  intro p e s m args below meth c ls hC hrt hlk hmn hnx hs hH hl
  have hC : CallFix p m c cX5_totalOf 5 s args (wA_ yX5_totalOf cX5_totalOf 5 (some .int)) RX5 := hC
  have hl : lv_has ls 5 [(0, .ref p0), (1, .int p1)] := hl
  unfold wp_X5_totalOf at hw
  refine lv_aload_n hC.1 hC.2.1 dX5_totalOf_0 rfl (lv_at hl 0 rfl) ?_
  refine lv_iload_n hC.1 hC.2.1 dX5_totalOf_1 rfl (lv_at hl 1 rfl) ?_
  obtain ⟨k2, hw⟩ := hw
  refine m_callVi (y := yX5_sumOf) (rest := []) hC hs hH hl.1 (cwV 1 hC.2.2.2.2 (gA_V q_576 q_577 q_578 q_5 q_579) rfl rfl rfl (by decide +kernel) ⟨Nat.le_of_ble_eq_true rfl, Nat.le_of_ble_eq_true rfl⟩) cs5 k2 (met_X5_sumOf l hl0 g _ _ _ _ _ hw) rfl rfl (Nat.le_of_ble_eq_true rfl) dX5_totalOf_2 ⟨Nat.le_of_ble_eq_true rfl, Nat.le_of_ble_eq_true rfl⟩ (m_out (fun x hx => (hnx x hx).elim) hlk (Nat.le_of_ble_eq_true rfl) (Nat.le_of_ble_eq_true rfl)) (fun r3 S1 H locs hw hH => ?_)
  refine W.widen (k := 0) (n := 0) (Nat.le_of_ble_eq_true rfl) (Nat.le_of_ble_eq_true rfl) ?_
  refine lv_istore_n (lv' := [(2, .int _), (0, .ref _), (1, .int _)]) hC.1 hC.2.1 dX5_totalOf_5 rfl hl (by decide) rfl (fun ls hl => ?_)
  refine lv_iconst (v := 0) hC.1 hC.2.1 dX5_totalOf_6 (by decide) ?_
  refine lv_iload_n hC.1 hC.2.1 dX5_totalOf_7 rfl (lv_at hl 0 rfl) ?_
  refine lv_aload_n hC.1 hC.2.1 dX5_totalOf_8 rfl (lv_at hl 1 rfl) ?_
  obtain ⟨k4, hw⟩ := hw
  obtain ⟨b5, r6, hw⟩ := hw
  refine m_getR hC hs hH cs5 fs5_4 (fun _ h => List.mem_cons_of_mem _ (inlX5 _ h)) (List.mem_cons_of_mem _ q_44) (fun _ h => h) k4 r6 dX5_totalOf_9 ?_
  refine lv_iconst (v := 3) hC.1 hC.2.1 dX5_totalOf_12 (by decide) ?_
  refine lv_iload_n hC.1 hC.2.1 dX5_totalOf_13 rfl (lv_at hl 2 rfl) ?_
  refine lv_imul hC.1 hC.2.1 dX5_totalOf_14 ?_
  refine lv_iconst (v := 1) hC.1 hC.2.1 dX5_totalOf_15 (by decide) ?_
  refine lv_iadd hC.1 hC.2.1 dX5_totalOf_16 ?_
  obtain ⟨k7, hw⟩ := hw
  obtain ⟨i8, hw⟩ := hw
  refine m_iald hC hs hH k7 i8 dX5_totalOf_17 ?_
  refine lv_isub hC.1 hC.2.1 dX5_totalOf_18 ?_
  refine m_max hC hl.1 (List.mem_cons_of_mem _ q_522) (List.mem_cons_of_mem _ q_116) (List.mem_cons_of_mem _ q_117) (List.mem_cons_of_mem _ q_118) (Nat.le_of_ble_eq_true rfl) (Nat.le_of_ble_eq_true rfl) (Nat.le_of_ble_eq_true rfl) (Nat.le_of_ble_eq_true rfl) dX5_totalOf_19 ?_
  refine lv_i2l hC.1 hC.2.1 dX5_totalOf_22 rfl ?_
  have hw := hw _ rfl
  refine lv_lstore_n (lv' := [(3, .long _), (2, .int _), (0, .ref _), (1, .int _)]) hC.1 hC.2.1 dX5_totalOf_23 rfl hl (by decide) rfl (fun ls hl => ?_)
  refine lv_iload_n hC.1 hC.2.1 dX5_totalOf_24 rfl (lv_at hl 1 rfl) ?_
  refine lv_lload_n hC.1 hC.2.1 dX5_totalOf_25 rfl (lv_at hl 0 rfl) ?_
  refine lv_aload_n hC.1 hC.2.1 dX5_totalOf_26 rfl (lv_at hl 2 rfl) ?_
  obtain ⟨b10, r11, hw⟩ := hw
  refine m_getR hC hs hH cs5 fs5_4 (fun _ h => List.mem_cons_of_mem _ (inlX5 _ h)) (List.mem_cons_of_mem _ q_44) (fun _ h => h) k4 r11 dX5_totalOf_27 ?_
  refine lv_iconst (v := 3) hC.1 hC.2.1 dX5_totalOf_30 (by decide) ?_
  refine lv_iload_n hC.1 hC.2.1 dX5_totalOf_31 rfl (lv_at hl 3 rfl) ?_
  refine lv_imul hC.1 hC.2.1 dX5_totalOf_32 ?_
  refine lv_iconst (v := 2) hC.1 hC.2.1 dX5_totalOf_33 (by decide) ?_
  refine lv_iadd hC.1 hC.2.1 dX5_totalOf_34 ?_
  obtain ⟨k12, hw⟩ := hw
  obtain ⟨i13, hw⟩ := hw
  refine m_iald hC hs hH k12 i13 dX5_totalOf_35 ?_
  refine lv_i2l hC.1 hC.2.1 dX5_totalOf_36 rfl ?_
  refine lv_lmul hC.1 hC.2.1 dX5_totalOf_37 ?_
  refine lv_ldc2 hC.1 hC.2.1 hC.2.2.2.1 (hC.2.2.2.2 _ (List.mem_cons_of_mem _ q_601)) dX5_totalOf_38 ?_
  refine lv_ldiv hC.1 hC.2.1 dX5_totalOf_41 (by decide) ?_
  refine lv_l2i hC.1 hC.2.1 dX5_totalOf_42 rfl ?_
  refine lv_isub hC.1 hC.2.1 dX5_totalOf_43 ?_
  refine lv_iconst (v := 5) hC.1 hC.2.1 dX5_totalOf_44 (by decide) ?_
  refine lv_iadd hC.1 hC.2.1 dX5_totalOf_45 ?_
  refine lv_bipush (v := 10) hC.1 hC.2.1 dX5_totalOf_46 (by decide) ?_
  refine lv_idiv hC.1 hC.2.1 dX5_totalOf_48 (by decide) ?_
  exact m_reti hC hH hrt rfl hlk (Nat.le_of_ble_eq_true rfl) (Nat.le_of_ble_eq_true rfl) dX5_totalOf_49 hw
abbrev rm_X5_sum : Room := { frames := 5, cells := 0, slots := 0, locals := 102 }
def wp_X5_sum (z : Nat × Nat) (S : mmS) (p0 : Nat) (p1 : Int32) (Q : Int32 → mmS → Prop) (X : String → mmS → Prop) : Prop := (p0 ∈ mL S ∧ mK S p0 = 5) ∧ ∀ S2 : mmS, S2 = sI S 23 p0 (0 : Int32) → wp_X5_isAccount z S2 p0 p1 (fun r4 S3 => (¬ r4 = 0 → (p0 ∈ mL S3 ∧ mK S3 p0 = 5) ∧ wp_X5_rateAll z S3 p0 (fun S5 => (p0 ∈ mL S5 ∧ mK S5 p0 = 5) ∧ wp_X5_sumOf z S5 p0 p1 (fun r9 S7 => Q r9 S7) X) X) ∧ (r4 = 0 → (p0 ∈ mL S3 ∧ mK S3 p0 = 5) ∧ wp_X5_fail z S3 p0 (1 : Int32) (fun r12 S10 => Q r12 S10) X)) X
set_option maxHeartbeats 4000000 in
set_option maxRecDepth 100000 in
theorem met_X5_sum (l : Launch) (hl0 : l.stackTraces = false) (g : mG) (S : mmS) (p0 : Nat) (p1 : Int32) (Q : Int32 → mmS → Prop) (X : String → mmS → Prop) (hw : wp_X5_sum g.2.2.2.2.2 S p0 p1 Q X) : mMi l g yX5_sum (wA_ yX5_sum cX5_sum 2 (some .int)) rm_X5_sum [.ref p0, .int p1] S Q X := by
  refine m_of (y := yX5_sum) (cc := cX5_sum) (maxL := 2) (ret := (some .int)) (by decide) rfl (Nat.le_of_ble_eq_true rfl) ?_
  intro p e s m args below meth c ls hC hrt hlk hmn hnx hs hH hl
  have hC : CallFix p m c cX5_sum 2 s args (wA_ yX5_sum cX5_sum 2 (some .int)) RX5 := hC
  have hl : lv_has ls 2 [(0, .ref p0), (1, .int p1)] := hl
  unfold wp_X5_sum at hw
  refine lv_aload_n hC.1 hC.2.1 dX5_sum_0 rfl (lv_at hl 0 rfl) ?_
  refine lv_iconst (v := 0) hC.1 hC.2.1 dX5_sum_1 (by decide) ?_
  obtain ⟨k1, hw⟩ := hw
  have hw := hw _ rfl
  refine m_putI hC hs hH cs5 fs5_0 (fun _ h => List.mem_cons_of_mem _ (inlX5 _ h)) (List.mem_cons_of_mem _ q_153) (fun _ h => h) (Or.inl rfl) rfl k1 dX5_sum_2 (fun H locs hH => ?_)
  refine lv_aload_n hC.1 hC.2.1 dX5_sum_5 rfl (lv_at hl 0 rfl) ?_
  refine lv_iload_n hC.1 hC.2.1 dX5_sum_6 rfl (lv_at hl 1 rfl) ?_
  refine m_callVi (y := yX5_isAccount) (rest := []) hC hs hH hl.1 (cwV 1 hC.2.2.2.2 (gA_V q_364 q_365 q_366 q_5 q_367) rfl rfl rfl (by decide +kernel) ⟨Nat.le_of_ble_eq_true rfl, Nat.le_of_ble_eq_true rfl⟩) cs5 k1 (met_X5_isAccount l hl0 g _ _ _ _ _ hw) rfl rfl (Nat.le_of_ble_eq_true rfl) dX5_sum_7 ⟨Nat.le_of_ble_eq_true rfl, Nat.le_of_ble_eq_true rfl⟩ (m_out (fun x hx => (hnx x hx).elim) hlk (Nat.le_of_ble_eq_true rfl) (Nat.le_of_ble_eq_true rfl)) (fun r4 S1 H locs hw hH => ?_)
  refine W.widen (k := 0) (n := 0) (Nat.le_of_ble_eq_true rfl) (Nat.le_of_ble_eq_true rfl) ?_
  refine lv_if_ne (tgt := 19) hC.1 hC.2.1 dX5_sum_10 (by decide) (fun hc => ?_) (fun hc => ?_)
  · have hw := hw.1 hc
    refine lv_aload_n hC.1 hC.2.1 dX5_sum_19 rfl (lv_at hl 0 rfl) ?_
    obtain ⟨k6, hw⟩ := hw
    refine m_callVv (y := yX5_rateAll) (rest := []) hC hs hH hl.1 (cwV 0 hC.2.2.2.2 (gA_V q_513 q_514 q_515 q_5 q_516) rfl rfl rfl (by decide +kernel) ⟨Nat.le_of_ble_eq_true rfl, Nat.le_of_ble_eq_true rfl⟩) cs5 k6 (met_X5_rateAll l hl0 g _ _ _ _ hw) rfl rfl (Nat.le_of_ble_eq_true rfl) dX5_sum_20 ⟨Nat.le_of_ble_eq_true rfl, Nat.le_of_ble_eq_true rfl⟩ (m_out (fun x hx => (hnx x hx).elim) hlk (Nat.le_of_ble_eq_true rfl) (Nat.le_of_ble_eq_true rfl)) (fun S1 H locs hw hH => ?_)
    refine W.widen (k := 0) (n := 0) (Nat.le_of_ble_eq_true rfl) (Nat.le_of_ble_eq_true rfl) ?_
    refine lv_aload_n hC.1 hC.2.1 dX5_sum_23 rfl (lv_at hl 0 rfl) ?_
    refine lv_iload_n hC.1 hC.2.1 dX5_sum_24 rfl (lv_at hl 1 rfl) ?_
    obtain ⟨k8, hw⟩ := hw
    refine m_callVi (y := yX5_sumOf) (rest := []) hC hs hH hl.1 (cwV 1 hC.2.2.2.2 (gA_V q_576 q_577 q_578 q_5 q_579) rfl rfl rfl (by decide +kernel) ⟨Nat.le_of_ble_eq_true rfl, Nat.le_of_ble_eq_true rfl⟩) cs5 k8 (met_X5_sumOf l hl0 g _ _ _ _ _ hw) rfl rfl (Nat.le_of_ble_eq_true rfl) dX5_sum_25 ⟨Nat.le_of_ble_eq_true rfl, Nat.le_of_ble_eq_true rfl⟩ (m_out (fun x hx => (hnx x hx).elim) hlk (Nat.le_of_ble_eq_true rfl) (Nat.le_of_ble_eq_true rfl)) (fun r9 S1 H locs hw hH => ?_)
    refine W.widen (k := 0) (n := 0) (Nat.le_of_ble_eq_true rfl) (Nat.le_of_ble_eq_true rfl) ?_
    exact m_reti hC hH hrt rfl hlk (Nat.le_of_ble_eq_true rfl) (Nat.le_of_ble_eq_true rfl) dX5_sum_28 hw
  · have hw := hw.2 hc
    refine lv_aload_n hC.1 hC.2.1 dX5_sum_13 rfl (lv_at hl 0 rfl) ?_
    refine lv_iconst (v := 1) hC.1 hC.2.1 dX5_sum_14 (by decide) ?_
    obtain ⟨k11, hw⟩ := hw
    refine m_callVi (y := yX5_fail) (rest := []) hC hs hH hl.1 (cwV 1 hC.2.2.2.2 (gA_V q_159 q_160 q_161 q_5 q_162) rfl rfl rfl (by decide +kernel) ⟨Nat.le_of_ble_eq_true rfl, Nat.le_of_ble_eq_true rfl⟩) cs5 k11 (met_X5_fail l hl0 g _ _ _ _ _ hw) rfl rfl (Nat.le_of_ble_eq_true rfl) dX5_sum_15 ⟨Nat.le_of_ble_eq_true rfl, Nat.le_of_ble_eq_true rfl⟩ (m_out (fun x hx => (hnx x hx).elim) hlk (Nat.le_of_ble_eq_true rfl) (Nat.le_of_ble_eq_true rfl)) (fun r12 S1 H locs hw hH => ?_)
    refine W.widen (k := 0) (n := 0) (Nat.le_of_ble_eq_true rfl) (Nat.le_of_ble_eq_true rfl) ?_
    exact m_reti hC hH hrt rfl hlk (Nat.le_of_ble_eq_true rfl) (Nat.le_of_ble_eq_true rfl) dX5_sum_18 hw
abbrev rm_X5_total : Room := { frames := 5, cells := 0, slots := 0, locals := 102 }
def wp_X5_total (z : Nat × Nat) (S : mmS) (p0 : Nat) (p1 : Int32) (Q : Int32 → mmS → Prop) (X : String → mmS → Prop) : Prop := (p0 ∈ mL S ∧ mK S p0 = 5) ∧ ∀ S2 : mmS, S2 = sI S 23 p0 (0 : Int32) → wp_X5_isAccount z S2 p0 p1 (fun r4 S3 => (¬ r4 = 0 → (p0 ∈ mL S3 ∧ mK S3 p0 = 5) ∧ wp_X5_rateAll z S3 p0 (fun S5 => (p0 ∈ mL S5 ∧ mK S5 p0 = 5) ∧ wp_X5_totalOf z S5 p0 p1 (fun r9 S7 => Q r9 S7) X) X) ∧ (r4 = 0 → (p0 ∈ mL S3 ∧ mK S3 p0 = 5) ∧ wp_X5_fail z S3 p0 (1 : Int32) (fun r12 S10 => Q r12 S10) X)) X
set_option maxHeartbeats 4000000 in
set_option maxRecDepth 100000 in
theorem met_X5_total (l : Launch) (hl0 : l.stackTraces = false) (g : mG) (S : mmS) (p0 : Nat) (p1 : Int32) (Q : Int32 → mmS → Prop) (X : String → mmS → Prop) (hw : wp_X5_total g.2.2.2.2.2 S p0 p1 Q X) : mMi l g yX5_total (wA_ yX5_total cX5_total 2 (some .int)) rm_X5_total [.ref p0, .int p1] S Q X := by
  refine m_of (y := yX5_total) (cc := cX5_total) (maxL := 2) (ret := (some .int)) (by decide) rfl (Nat.le_of_ble_eq_true rfl) ?_
  intro p e s m args below meth c ls hC hrt hlk hmn hnx hs hH hl
  have hC : CallFix p m c cX5_total 2 s args (wA_ yX5_total cX5_total 2 (some .int)) RX5 := hC
  have hl : lv_has ls 2 [(0, .ref p0), (1, .int p1)] := hl
  unfold wp_X5_total at hw
  refine lv_aload_n hC.1 hC.2.1 dX5_total_0 rfl (lv_at hl 0 rfl) ?_
  refine lv_iconst (v := 0) hC.1 hC.2.1 dX5_total_1 (by decide) ?_
  obtain ⟨k1, hw⟩ := hw
  have hw := hw _ rfl
  refine m_putI hC hs hH cs5 fs5_0 (fun _ h => List.mem_cons_of_mem _ (inlX5 _ h)) (List.mem_cons_of_mem _ q_153) (fun _ h => h) (Or.inl rfl) rfl k1 dX5_total_2 (fun H locs hH => ?_)
  refine lv_aload_n hC.1 hC.2.1 dX5_total_5 rfl (lv_at hl 0 rfl) ?_
  refine lv_iload_n hC.1 hC.2.1 dX5_total_6 rfl (lv_at hl 1 rfl) ?_
  refine m_callVi (y := yX5_isAccount) (rest := []) hC hs hH hl.1 (cwV 1 hC.2.2.2.2 (gA_V q_364 q_365 q_366 q_5 q_367) rfl rfl rfl (by decide +kernel) ⟨Nat.le_of_ble_eq_true rfl, Nat.le_of_ble_eq_true rfl⟩) cs5 k1 (met_X5_isAccount l hl0 g _ _ _ _ _ hw) rfl rfl (Nat.le_of_ble_eq_true rfl) dX5_total_7 ⟨Nat.le_of_ble_eq_true rfl, Nat.le_of_ble_eq_true rfl⟩ (m_out (fun x hx => (hnx x hx).elim) hlk (Nat.le_of_ble_eq_true rfl) (Nat.le_of_ble_eq_true rfl)) (fun r4 S1 H locs hw hH => ?_)
  refine W.widen (k := 0) (n := 0) (Nat.le_of_ble_eq_true rfl) (Nat.le_of_ble_eq_true rfl) ?_
  refine lv_if_ne (tgt := 19) hC.1 hC.2.1 dX5_total_10 (by decide) (fun hc => ?_) (fun hc => ?_)
  · have hw := hw.1 hc
    refine lv_aload_n hC.1 hC.2.1 dX5_total_19 rfl (lv_at hl 0 rfl) ?_
    obtain ⟨k6, hw⟩ := hw
    refine m_callVv (y := yX5_rateAll) (rest := []) hC hs hH hl.1 (cwV 0 hC.2.2.2.2 (gA_V q_513 q_514 q_515 q_5 q_516) rfl rfl rfl (by decide +kernel) ⟨Nat.le_of_ble_eq_true rfl, Nat.le_of_ble_eq_true rfl⟩) cs5 k6 (met_X5_rateAll l hl0 g _ _ _ _ hw) rfl rfl (Nat.le_of_ble_eq_true rfl) dX5_total_20 ⟨Nat.le_of_ble_eq_true rfl, Nat.le_of_ble_eq_true rfl⟩ (m_out (fun x hx => (hnx x hx).elim) hlk (Nat.le_of_ble_eq_true rfl) (Nat.le_of_ble_eq_true rfl)) (fun S1 H locs hw hH => ?_)
    refine W.widen (k := 0) (n := 0) (Nat.le_of_ble_eq_true rfl) (Nat.le_of_ble_eq_true rfl) ?_
    refine lv_aload_n hC.1 hC.2.1 dX5_total_23 rfl (lv_at hl 0 rfl) ?_
    refine lv_iload_n hC.1 hC.2.1 dX5_total_24 rfl (lv_at hl 1 rfl) ?_
    obtain ⟨k8, hw⟩ := hw
    refine m_callVi (y := yX5_totalOf) (rest := []) hC hs hH hl.1 (cwV 1 hC.2.2.2.2 (gA_V q_597 q_598 q_599 q_5 q_600) rfl rfl rfl (by decide +kernel) ⟨Nat.le_of_ble_eq_true rfl, Nat.le_of_ble_eq_true rfl⟩) cs5 k8 (met_X5_totalOf l hl0 g _ _ _ _ _ hw) rfl rfl (Nat.le_of_ble_eq_true rfl) dX5_total_25 ⟨Nat.le_of_ble_eq_true rfl, Nat.le_of_ble_eq_true rfl⟩ (m_out (fun x hx => (hnx x hx).elim) hlk (Nat.le_of_ble_eq_true rfl) (Nat.le_of_ble_eq_true rfl)) (fun r9 S1 H locs hw hH => ?_)
    refine W.widen (k := 0) (n := 0) (Nat.le_of_ble_eq_true rfl) (Nat.le_of_ble_eq_true rfl) ?_
    exact m_reti hC hH hrt rfl hlk (Nat.le_of_ble_eq_true rfl) (Nat.le_of_ble_eq_true rfl) dX5_total_28 hw
  · have hw := hw.2 hc
    refine lv_aload_n hC.1 hC.2.1 dX5_total_13 rfl (lv_at hl 0 rfl) ?_
    refine lv_iconst (v := 1) hC.1 hC.2.1 dX5_total_14 (by decide) ?_
    obtain ⟨k11, hw⟩ := hw
    refine m_callVi (y := yX5_fail) (rest := []) hC hs hH hl.1 (cwV 1 hC.2.2.2.2 (gA_V q_159 q_160 q_161 q_5 q_162) rfl rfl rfl (by decide +kernel) ⟨Nat.le_of_ble_eq_true rfl, Nat.le_of_ble_eq_true rfl⟩) cs5 k11 (met_X5_fail l hl0 g _ _ _ _ _ hw) rfl rfl (Nat.le_of_ble_eq_true rfl) dX5_total_15 ⟨Nat.le_of_ble_eq_true rfl, Nat.le_of_ble_eq_true rfl⟩ (m_out (fun x hx => (hnx x hx).elim) hlk (Nat.le_of_ble_eq_true rfl) (Nat.le_of_ble_eq_true rfl)) (fun r12 S1 H locs hw hH => ?_)
    refine W.widen (k := 0) (n := 0) (Nat.le_of_ble_eq_true rfl) (Nat.le_of_ble_eq_true rfl) ?_
    exact m_reti hC hH hrt rfl hlk (Nat.le_of_ble_eq_true rfl) (Nat.le_of_ble_eq_true rfl) dX5_total_18 hw
abbrev rm_X5_left : Room := { frames := 5, cells := 0, slots := 0, locals := 102 }
def wp_X5_left (z : Nat × Nat) (S : mmS) (p0 : Nat) (p1 : Int32) (Q : Int32 → mmS → Prop) (X : String → mmS → Prop) : Prop := (p0 ∈ mL S ∧ mK S p0 = 5) ∧ ∀ S2 : mmS, S2 = sI S 23 p0 (0 : Int32) → wp_X5_isAccount z S2 p0 p1 (fun r4 S3 => (¬ r4 = 0 → (p0 ∈ mL S3 ∧ mK S3 p0 = 5) ∧ wp_X5_rateAll z S3 p0 (fun S5 => (p0 ∈ mL S5 ∧ mK S5 p0 = 5) ∧ ∃ b8 : Nat, mR S5 23 p0 = some b8 ∧ (b8 ∈ mL S5 ∧ mK S5 b8 = 7) ∧ vp_in p1 (mN S5 b8) ∧ Q (mA S5 b8 (p1).toNatClampNeg) S5) X) ∧ (r4 = 0 → (p0 ∈ mL S3 ∧ mK S3 p0 = 5) ∧ wp_X5_fail z S3 p0 (1 : Int32) (fun r14 S12 => Q r14 S12) X)) X
set_option maxHeartbeats 4000000 in
set_option maxRecDepth 100000 in
theorem met_X5_left (l : Launch) (hl0 : l.stackTraces = false) (g : mG) (S : mmS) (p0 : Nat) (p1 : Int32) (Q : Int32 → mmS → Prop) (X : String → mmS → Prop) (hw : wp_X5_left g.2.2.2.2.2 S p0 p1 Q X) : mMi l g yX5_left (wA_ yX5_left cX5_left 2 (some .int)) rm_X5_left [.ref p0, .int p1] S Q X := by
  refine m_of (y := yX5_left) (cc := cX5_left) (maxL := 2) (ret := (some .int)) (by decide) rfl (Nat.le_of_ble_eq_true rfl) ?_
  intro p e s m args below meth c ls hC hrt hlk hmn hnx hs hH hl
  have hC : CallFix p m c cX5_left 2 s args (wA_ yX5_left cX5_left 2 (some .int)) RX5 := hC
  have hl : lv_has ls 2 [(0, .ref p0), (1, .int p1)] := hl
  unfold wp_X5_left at hw
  refine lv_aload_n hC.1 hC.2.1 dX5_left_0 rfl (lv_at hl 0 rfl) ?_
  refine lv_iconst (v := 0) hC.1 hC.2.1 dX5_left_1 (by decide) ?_
  obtain ⟨k1, hw⟩ := hw
  have hw := hw _ rfl
  refine m_putI hC hs hH cs5 fs5_0 (fun _ h => List.mem_cons_of_mem _ (inlX5 _ h)) (List.mem_cons_of_mem _ q_153) (fun _ h => h) (Or.inl rfl) rfl k1 dX5_left_2 (fun H locs hH => ?_)
  refine lv_aload_n hC.1 hC.2.1 dX5_left_5 rfl (lv_at hl 0 rfl) ?_
  refine lv_iload_n hC.1 hC.2.1 dX5_left_6 rfl (lv_at hl 1 rfl) ?_
  refine m_callVi (y := yX5_isAccount) (rest := []) hC hs hH hl.1 (cwV 1 hC.2.2.2.2 (gA_V q_364 q_365 q_366 q_5 q_367) rfl rfl rfl (by decide +kernel) ⟨Nat.le_of_ble_eq_true rfl, Nat.le_of_ble_eq_true rfl⟩) cs5 k1 (met_X5_isAccount l hl0 g _ _ _ _ _ hw) rfl rfl (Nat.le_of_ble_eq_true rfl) dX5_left_7 ⟨Nat.le_of_ble_eq_true rfl, Nat.le_of_ble_eq_true rfl⟩ (m_out (fun x hx => (hnx x hx).elim) hlk (Nat.le_of_ble_eq_true rfl) (Nat.le_of_ble_eq_true rfl)) (fun r4 S1 H locs hw hH => ?_)
  refine W.widen (k := 0) (n := 0) (Nat.le_of_ble_eq_true rfl) (Nat.le_of_ble_eq_true rfl) ?_
  refine lv_if_ne (tgt := 19) hC.1 hC.2.1 dX5_left_10 (by decide) (fun hc => ?_) (fun hc => ?_)
  · have hw := hw.1 hc
    refine lv_aload_n hC.1 hC.2.1 dX5_left_19 rfl (lv_at hl 0 rfl) ?_
    obtain ⟨k6, hw⟩ := hw
    refine m_callVv (y := yX5_rateAll) (rest := []) hC hs hH hl.1 (cwV 0 hC.2.2.2.2 (gA_V q_513 q_514 q_515 q_5 q_516) rfl rfl rfl (by decide +kernel) ⟨Nat.le_of_ble_eq_true rfl, Nat.le_of_ble_eq_true rfl⟩) cs5 k6 (met_X5_rateAll l hl0 g _ _ _ _ hw) rfl rfl (Nat.le_of_ble_eq_true rfl) dX5_left_20 ⟨Nat.le_of_ble_eq_true rfl, Nat.le_of_ble_eq_true rfl⟩ (m_out (fun x hx => (hnx x hx).elim) hlk (Nat.le_of_ble_eq_true rfl) (Nat.le_of_ble_eq_true rfl)) (fun S1 H locs hw hH => ?_)
    refine W.widen (k := 0) (n := 0) (Nat.le_of_ble_eq_true rfl) (Nat.le_of_ble_eq_true rfl) ?_
    refine lv_aload_n hC.1 hC.2.1 dX5_left_23 rfl (lv_at hl 0 rfl) ?_
    obtain ⟨k7, hw⟩ := hw
    obtain ⟨b8, r9, hw⟩ := hw
    refine m_getR hC hs hH cs5 fs5_17 (fun _ h => List.mem_cons_of_mem _ (inlX5 _ h)) (List.mem_cons_of_mem _ q_55) (fun _ h => h) k7 r9 dX5_left_24 ?_
    refine lv_iload_n hC.1 hC.2.1 dX5_left_27 rfl (lv_at hl 1 rfl) ?_
    obtain ⟨k10, hw⟩ := hw
    obtain ⟨i11, hw⟩ := hw
    refine m_iald hC hs hH k10 i11 dX5_left_28 ?_
    exact m_reti hC hH hrt rfl hlk (Nat.le_of_ble_eq_true rfl) (Nat.le_of_ble_eq_true rfl) dX5_left_29 hw
  · have hw := hw.2 hc
    refine lv_aload_n hC.1 hC.2.1 dX5_left_13 rfl (lv_at hl 0 rfl) ?_
    refine lv_iconst (v := 1) hC.1 hC.2.1 dX5_left_14 (by decide) ?_
    obtain ⟨k13, hw⟩ := hw
    refine m_callVi (y := yX5_fail) (rest := []) hC hs hH hl.1 (cwV 1 hC.2.2.2.2 (gA_V q_159 q_160 q_161 q_5 q_162) rfl rfl rfl (by decide +kernel) ⟨Nat.le_of_ble_eq_true rfl, Nat.le_of_ble_eq_true rfl⟩) cs5 k13 (met_X5_fail l hl0 g _ _ _ _ _ hw) rfl rfl (Nat.le_of_ble_eq_true rfl) dX5_left_15 ⟨Nat.le_of_ble_eq_true rfl, Nat.le_of_ble_eq_true rfl⟩ (m_out (fun x hx => (hnx x hx).elim) hlk (Nat.le_of_ble_eq_true rfl) (Nat.le_of_ble_eq_true rfl)) (fun r14 S1 H locs hw hH => ?_)
    refine W.widen (k := 0) (n := 0) (Nat.le_of_ble_eq_true rfl) (Nat.le_of_ble_eq_true rfl) ?_
    exact m_reti hC hH hrt rfl hlk (Nat.le_of_ble_eq_true rfl) (Nat.le_of_ble_eq_true rfl) dX5_left_18 hw
abbrev rm_X5_emptied : Room := { frames := 5, cells := 0, slots := 0, locals := 102 }
def wp_X5_emptied (z : Nat × Nat) (S : mmS) (p0 : Nat) (p1 : Int32) (Q : Int32 → mmS → Prop) (X : String → mmS → Prop) : Prop := (p0 ∈ mL S ∧ mK S p0 = 5) ∧ ∀ S2 : mmS, S2 = sI S 23 p0 (0 : Int32) → wp_X5_isAccount z S2 p0 p1 (fun r4 S3 => (¬ r4 = 0 → (p0 ∈ mL S3 ∧ mK S3 p0 = 5) ∧ wp_X5_rateAll z S3 p0 (fun S5 => (p0 ∈ mL S5 ∧ mK S5 p0 = 5) ∧ ∃ b8 : Nat, mR S5 24 p0 = some b8 ∧ (b8 ∈ mL S5 ∧ mK S5 b8 = 7) ∧ vp_in p1 (mN S5 b8) ∧ Q (mA S5 b8 (p1).toNatClampNeg) S5) X) ∧ (r4 = 0 → (p0 ∈ mL S3 ∧ mK S3 p0 = 5) ∧ wp_X5_fail z S3 p0 (1 : Int32) (fun r14 S12 => Q r14 S12) X)) X
set_option maxHeartbeats 4000000 in
set_option maxRecDepth 100000 in
theorem met_X5_emptied (l : Launch) (hl0 : l.stackTraces = false) (g : mG) (S : mmS) (p0 : Nat) (p1 : Int32) (Q : Int32 → mmS → Prop) (X : String → mmS → Prop) (hw : wp_X5_emptied g.2.2.2.2.2 S p0 p1 Q X) : mMi l g yX5_emptied (wA_ yX5_emptied cX5_emptied 2 (some .int)) rm_X5_emptied [.ref p0, .int p1] S Q X := by
  refine m_of (y := yX5_emptied) (cc := cX5_emptied) (maxL := 2) (ret := (some .int)) (by decide) rfl (Nat.le_of_ble_eq_true rfl) ?_
  intro p e s m args below meth c ls hC hrt hlk hmn hnx hs hH hl
  have hC : CallFix p m c cX5_emptied 2 s args (wA_ yX5_emptied cX5_emptied 2 (some .int)) RX5 := hC
  have hl : lv_has ls 2 [(0, .ref p0), (1, .int p1)] := hl
  unfold wp_X5_emptied at hw
  refine lv_aload_n hC.1 hC.2.1 dX5_emptied_0 rfl (lv_at hl 0 rfl) ?_
  refine lv_iconst (v := 0) hC.1 hC.2.1 dX5_emptied_1 (by decide) ?_
  obtain ⟨k1, hw⟩ := hw
  have hw := hw _ rfl
  refine m_putI hC hs hH cs5 fs5_0 (fun _ h => List.mem_cons_of_mem _ (inlX5 _ h)) (List.mem_cons_of_mem _ q_153) (fun _ h => h) (Or.inl rfl) rfl k1 dX5_emptied_2 (fun H locs hH => ?_)
  refine lv_aload_n hC.1 hC.2.1 dX5_emptied_5 rfl (lv_at hl 0 rfl) ?_
  refine lv_iload_n hC.1 hC.2.1 dX5_emptied_6 rfl (lv_at hl 1 rfl) ?_
  refine m_callVi (y := yX5_isAccount) (rest := []) hC hs hH hl.1 (cwV 1 hC.2.2.2.2 (gA_V q_364 q_365 q_366 q_5 q_367) rfl rfl rfl (by decide +kernel) ⟨Nat.le_of_ble_eq_true rfl, Nat.le_of_ble_eq_true rfl⟩) cs5 k1 (met_X5_isAccount l hl0 g _ _ _ _ _ hw) rfl rfl (Nat.le_of_ble_eq_true rfl) dX5_emptied_7 ⟨Nat.le_of_ble_eq_true rfl, Nat.le_of_ble_eq_true rfl⟩ (m_out (fun x hx => (hnx x hx).elim) hlk (Nat.le_of_ble_eq_true rfl) (Nat.le_of_ble_eq_true rfl)) (fun r4 S1 H locs hw hH => ?_)
  refine W.widen (k := 0) (n := 0) (Nat.le_of_ble_eq_true rfl) (Nat.le_of_ble_eq_true rfl) ?_
  refine lv_if_ne (tgt := 19) hC.1 hC.2.1 dX5_emptied_10 (by decide) (fun hc => ?_) (fun hc => ?_)
  · have hw := hw.1 hc
    refine lv_aload_n hC.1 hC.2.1 dX5_emptied_19 rfl (lv_at hl 0 rfl) ?_
    obtain ⟨k6, hw⟩ := hw
    refine m_callVv (y := yX5_rateAll) (rest := []) hC hs hH hl.1 (cwV 0 hC.2.2.2.2 (gA_V q_513 q_514 q_515 q_5 q_516) rfl rfl rfl (by decide +kernel) ⟨Nat.le_of_ble_eq_true rfl, Nat.le_of_ble_eq_true rfl⟩) cs5 k6 (met_X5_rateAll l hl0 g _ _ _ _ hw) rfl rfl (Nat.le_of_ble_eq_true rfl) dX5_emptied_20 ⟨Nat.le_of_ble_eq_true rfl, Nat.le_of_ble_eq_true rfl⟩ (m_out (fun x hx => (hnx x hx).elim) hlk (Nat.le_of_ble_eq_true rfl) (Nat.le_of_ble_eq_true rfl)) (fun S1 H locs hw hH => ?_)
    refine W.widen (k := 0) (n := 0) (Nat.le_of_ble_eq_true rfl) (Nat.le_of_ble_eq_true rfl) ?_
    refine lv_aload_n hC.1 hC.2.1 dX5_emptied_23 rfl (lv_at hl 0 rfl) ?_
    obtain ⟨k7, hw⟩ := hw
    obtain ⟨b8, r9, hw⟩ := hw
    refine m_getR hC hs hH cs5 fs5_18 (fun _ h => List.mem_cons_of_mem _ (inlX5 _ h)) (List.mem_cons_of_mem _ q_56) (fun _ h => h) k7 r9 dX5_emptied_24 ?_
    refine lv_iload_n hC.1 hC.2.1 dX5_emptied_27 rfl (lv_at hl 1 rfl) ?_
    obtain ⟨k10, hw⟩ := hw
    obtain ⟨i11, hw⟩ := hw
    refine m_iald hC hs hH k10 i11 dX5_emptied_28 ?_
    exact m_reti hC hH hrt rfl hlk (Nat.le_of_ble_eq_true rfl) (Nat.le_of_ble_eq_true rfl) dX5_emptied_29 hw
  · have hw := hw.2 hc
    refine lv_aload_n hC.1 hC.2.1 dX5_emptied_13 rfl (lv_at hl 0 rfl) ?_
    refine lv_iconst (v := 1) hC.1 hC.2.1 dX5_emptied_14 (by decide) ?_
    obtain ⟨k13, hw⟩ := hw
    refine m_callVi (y := yX5_fail) (rest := []) hC hs hH hl.1 (cwV 1 hC.2.2.2.2 (gA_V q_159 q_160 q_161 q_5 q_162) rfl rfl rfl (by decide +kernel) ⟨Nat.le_of_ble_eq_true rfl, Nat.le_of_ble_eq_true rfl⟩) cs5 k13 (met_X5_fail l hl0 g _ _ _ _ _ hw) rfl rfl (Nat.le_of_ble_eq_true rfl) dX5_emptied_15 ⟨Nat.le_of_ble_eq_true rfl, Nat.le_of_ble_eq_true rfl⟩ (m_out (fun x hx => (hnx x hx).elim) hlk (Nat.le_of_ble_eq_true rfl) (Nat.le_of_ble_eq_true rfl)) (fun r14 S1 H locs hw hH => ?_)
    refine W.widen (k := 0) (n := 0) (Nat.le_of_ble_eq_true rfl) (Nat.le_of_ble_eq_true rfl) ?_
    exact m_reti hC hH hrt rfl hlk (Nat.le_of_ble_eq_true rfl) (Nat.le_of_ble_eq_true rfl) dX5_emptied_18 hw
abbrev rm_X5_dayFees : Room := { frames := 5, cells := 0, slots := 0, locals := 102 }
def bk_X5_dayFees_90 (z : Nat × Nat) (Q : Int32 → mmS → Prop) (X : String → mmS → Prop) (K37 : mmS → Nat → Int32 → Int32 → Int32 → Int32 → Prop) (S : mmS) (x0 : Nat) (x1 : Int32) (x2 : Int32) (x4 : Int32) (t0 : Int32) (t1 : Int32) : Prop := ∀ v1 : Int32, v1 = (t0 + t1) → ∀ v2 : Int32, v2 = x4 + 1 → K37 S x0 x1 x2 v1 v2
def bk_X5_dayFees_89 (z : Nat × Nat) (Q : Int32 → mmS → Prop) (X : String → mmS → Prop) (K37 : mmS → Nat → Int32 → Int32 → Int32 → Int32 → Prop) (S : mmS) (x0 : Nat) (x1 : Int32) (x2 : Int32) (x4 : Int32) (t0 : Int32) : Prop := bk_X5_dayFees_90 z Q X K37 S x0 x1 x2 x4 t0 (0 : Int32)
def bk_X5_dayFees_37 (z : Nat × Nat) (Q : Int32 → mmS → Prop) (X : String → mmS → Prop) (K37 : mmS → Nat → Int32 → Int32 → Int32 → Int32 → Prop) (S : mmS) (x0 : Nat) (x1 : Int32) (x2 : Int32) (x3 : Int32) (x4 : Int32) : Prop := (x0 ∈ mL S ∧ mK S x0 = 5) ∧ ((mI S 27 x0) ≤ x4 → Q x3 S) ∧ (¬ (mI S 27 x0) ≤ x4 → ∃ b2 : Nat, mR S 17 x0 = some b2 ∧ (b2 ∈ mL S ∧ mK S b2 = 7) ∧ vp_in ((4 : Int32) * x4) (mN S b2) ∧ (¬ (mA S b2 ((4 : Int32) * x4).toNatClampNeg) = x1 → bk_X5_dayFees_89 z Q X K37 S x0 x1 x2 x4 x3) ∧ ((mA S b2 ((4 : Int32) * x4).toNatClampNeg) = x1 → ∃ b6 : Nat, mR S 17 x0 = some b6 ∧ (b6 ∈ mL S ∧ mK S b6 = 7) ∧ vp_in (((4 : Int32) * x4) + (3 : Int32)) (mN S b6) ∧ (¬ (mA S b6 (((4 : Int32) * x4) + (3 : Int32)).toNatClampNeg) = x2 → bk_X5_dayFees_89 z Q X K37 S x0 x1 x2 x4 x3) ∧ ((mA S b6 (((4 : Int32) * x4) + (3 : Int32)).toNatClampNeg) = x2 → ∃ b10 : Nat, mR S 22 x0 = some b10 ∧ (b10 ∈ mL S ∧ mK S b10 = 7) ∧ vp_in x4 (mN S b10) ∧ ((mA S b10 (x4).toNatClampNeg) ≤ 0 → bk_X5_dayFees_89 z Q X K37 S x0 x1 x2 x4 x3) ∧ (¬ (mA S b10 (x4).toNatClampNeg) ≤ 0 → bk_X5_dayFees_90 z Q X K37 S x0 x1 x2 x4 x3 (1 : Int32)))))
def lp_X5_dayFees_37 (z : Nat × Nat) (Q : Int32 → mmS → Prop) (X : String → mmS → Prop) : Nat → mmS → Nat → Int32 → Int32 → Int32 → Int32 → Prop
  | 0 => fun _ _ _ _ _ _ => False
  | n + 1 => bk_X5_dayFees_37 z Q X (lp_X5_dayFees_37 z Q X n)
def bk_X5_dayFees_22 (z : Nat × Nat) (Q : Int32 → mmS → Prop) (X : String → mmS → Prop) (S : mmS) (x0 : Nat) : Prop := (x0 ∈ mL S ∧ mK S x0 = 5) ∧ wp_X5_fail z S x0 (1 : Int32) (fun r3 S1 => Q r3 S1) X
def wp_X5_dayFees (z : Nat × Nat) (S : mmS) (p0 : Nat) (p1 : Int32) (p2 : Int32) (Q : Int32 → mmS → Prop) (X : String → mmS → Prop) : Prop := (p0 ∈ mL S ∧ mK S p0 = 5) ∧ ∀ S2 : mmS, S2 = sI S 23 p0 (0 : Int32) → wp_X5_isLine z S2 p0 p1 (fun r4 S3 => (r4 = 0 → bk_X5_dayFees_22 z Q X S3 p0) ∧ (¬ r4 = 0 → wp_X5_isIn z S3 p2 (1 : Int32) (2 : Int32) (fun r6 S5 => (¬ r6 = 0 → (p0 ∈ mL S5 ∧ mK S5 p0 = 5) ∧ wp_X5_rateAll z S5 p0 (fun S7 => ∀ v9 : Int32, v9 = (0 : Int32) → ∀ v10 : Int32, v10 = (0 : Int32) → ∃ n : Nat, lp_X5_dayFees_37 z Q X n S7 p0 p1 p2 v9 v10) X) ∧ (r6 = 0 → bk_X5_dayFees_22 z Q X S5 p0)) X)) X
set_option maxHeartbeats 4000000 in
set_option maxRecDepth 100000 in
theorem bw_X5_dayFees_90 {p : Program} {l : Launch} {e : Env} {s : State} {m : MethodId} {args : Array Value} {below : List Frame} {meth : Method} {c : Code} {g : mG} {Q : Int32 → mmS → Prop} {X : String → mmS → Prop} (hl0 : l.stackTraces = false) (hC : CallFix p m c cX5_dayFees 5 s args (wA_ yX5_dayFees cX5_dayFees 5 (some .int)) RX5) (hrt : meth.sig.returnType = (some .int)) (hlk : meth.locks = false) (hmn : meth.name = yX5_dayFees.name) (hnx : ∀ x ∈ c.exceptionTable.toList, False) (hs : mX g s) {K37 : mmS → Nat → Int32 → Int32 → Int32 → Int32 → Prop} (hk37 : ∀ (S : mmS) (x0 : Nat) (x1 : Int32) (x2 : Int32) (x3 : Int32) (x4 : Int32), K37 S x0 x1 x2 x3 x4 → ∀ (H : Heap) (locs : List Loc), mH g S s H locs → ∀ ls : Array Slot, lv_has ls 5 [(0, .ref x0), (1, .int x1), (2, .int x2), (3, .int x3), (4, .int x4)] → W p l e rm_X5_dayFees s m args below meth c H locs 0 0 (vx_MQ below (va_Qi Q (wO g) (mB g)) (vx_X (fun _ : mmS => True) (fun E S1 t => X E S1 ∧ wO g S1 t) (mB g)) args s rm_X5_dayFees.cells rm_X5_dayFees.slots (mB g)) (F0 m 37 ls [])) : ∀ (S : mmS) (x0 : Nat) (x1 : Int32) (x2 : Int32) (x4 : Int32) (t0 : Int32) (t1 : Int32), bk_X5_dayFees_90 g.2.2.2.2.2 Q X K37 S x0 x1 x2 x4 t0 t1 → ∀ (H : Heap) (locs : List Loc), mH g S s H locs → ∀ ls : Array Slot, lv_has ls 5 [(0, .ref x0), (1, .int x1), (2, .int x2), (4, .int x4)] → W p l e rm_X5_dayFees s m args below meth c H locs 0 0 (vx_MQ below (va_Qi Q (wO g) (mB g)) (vx_X (fun _ : mmS => True) (fun E S1 t => X E S1 ∧ wO g S1 t) (mB g)) args s rm_X5_dayFees.cells rm_X5_dayFees.slots (mB g)) (F0 m 90 ls [.int t1, .int t0]) := by
  intro S x0 x1 x2 x4 t0 t1 hw H locs hH ls hl
  unfold bk_X5_dayFees_90 at hw
  refine lv_iadd hC.1 hC.2.1 dX5_dayFees_90 ?_
  have hw := hw _ rfl
  refine lv_istore_n (lv' := [(3, .int _), (0, .ref _), (1, .int _), (2, .int _), (4, .int _)]) hC.1 hC.2.1 dX5_dayFees_91 rfl hl (by decide) rfl (fun ls hl => ?_)
  have hw := hw _ rfl
  refine lv_iinc (lv' := [(4, .int _), (3, .int _), (0, .ref _), (1, .int _), (2, .int _)]) hC.1 hC.2.1 dX5_dayFees_92 hl (k := 4) rfl (rfl : (_ : Int32) + Int32.ofInt 1 = (_ : Int32) + 1) (by decide) rfl (fun ls hl => ?_)
  refine lv_goto (tgt := 37) hC.1 hC.2.1 dX5_dayFees_95 (by decide) ?_
  exact hk37 _ _ _ _ _ _ hw _ _ hH _ (lv_sub hl [2, 3, 4, 1, 0] rfl)
set_option maxHeartbeats 4000000 in
set_option maxRecDepth 100000 in
theorem bw_X5_dayFees_89 {p : Program} {l : Launch} {e : Env} {s : State} {m : MethodId} {args : Array Value} {below : List Frame} {meth : Method} {c : Code} {g : mG} {Q : Int32 → mmS → Prop} {X : String → mmS → Prop} (hl0 : l.stackTraces = false) (hC : CallFix p m c cX5_dayFees 5 s args (wA_ yX5_dayFees cX5_dayFees 5 (some .int)) RX5) (hrt : meth.sig.returnType = (some .int)) (hlk : meth.locks = false) (hmn : meth.name = yX5_dayFees.name) (hnx : ∀ x ∈ c.exceptionTable.toList, False) (hs : mX g s) {K37 : mmS → Nat → Int32 → Int32 → Int32 → Int32 → Prop} (hk37 : ∀ (S : mmS) (x0 : Nat) (x1 : Int32) (x2 : Int32) (x3 : Int32) (x4 : Int32), K37 S x0 x1 x2 x3 x4 → ∀ (H : Heap) (locs : List Loc), mH g S s H locs → ∀ ls : Array Slot, lv_has ls 5 [(0, .ref x0), (1, .int x1), (2, .int x2), (3, .int x3), (4, .int x4)] → W p l e rm_X5_dayFees s m args below meth c H locs 0 0 (vx_MQ below (va_Qi Q (wO g) (mB g)) (vx_X (fun _ : mmS => True) (fun E S1 t => X E S1 ∧ wO g S1 t) (mB g)) args s rm_X5_dayFees.cells rm_X5_dayFees.slots (mB g)) (F0 m 37 ls [])) : ∀ (S : mmS) (x0 : Nat) (x1 : Int32) (x2 : Int32) (x4 : Int32) (t0 : Int32), bk_X5_dayFees_89 g.2.2.2.2.2 Q X K37 S x0 x1 x2 x4 t0 → ∀ (H : Heap) (locs : List Loc), mH g S s H locs → ∀ ls : Array Slot, lv_has ls 5 [(0, .ref x0), (1, .int x1), (2, .int x2), (4, .int x4)] → W p l e rm_X5_dayFees s m args below meth c H locs 0 0 (vx_MQ below (va_Qi Q (wO g) (mB g)) (vx_X (fun _ : mmS => True) (fun E S1 t => X E S1 ∧ wO g S1 t) (mB g)) args s rm_X5_dayFees.cells rm_X5_dayFees.slots (mB g)) (F0 m 89 ls [.int t0]) := by
  intro S x0 x1 x2 x4 t0 hw H locs hH ls hl
  unfold bk_X5_dayFees_89 at hw
  refine lv_iconst (v := 0) hC.1 hC.2.1 dX5_dayFees_89 (by decide) ?_
  exact bw_X5_dayFees_90 hl0 hC hrt hlk hmn hnx hs hk37 _ _ _ _ _ _ _ hw _ _ hH _ (lv_sub hl [0, 1, 2, 3] rfl)
set_option maxHeartbeats 4000000 in
set_option maxRecDepth 100000 in
theorem bw_X5_dayFees_37 {p : Program} {l : Launch} {e : Env} {s : State} {m : MethodId} {args : Array Value} {below : List Frame} {meth : Method} {c : Code} {g : mG} {Q : Int32 → mmS → Prop} {X : String → mmS → Prop} (hl0 : l.stackTraces = false) (hC : CallFix p m c cX5_dayFees 5 s args (wA_ yX5_dayFees cX5_dayFees 5 (some .int)) RX5) (hrt : meth.sig.returnType = (some .int)) (hlk : meth.locks = false) (hmn : meth.name = yX5_dayFees.name) (hnx : ∀ x ∈ c.exceptionTable.toList, False) (hs : mX g s) {K37 : mmS → Nat → Int32 → Int32 → Int32 → Int32 → Prop} (hk37 : ∀ (S : mmS) (x0 : Nat) (x1 : Int32) (x2 : Int32) (x3 : Int32) (x4 : Int32), K37 S x0 x1 x2 x3 x4 → ∀ (H : Heap) (locs : List Loc), mH g S s H locs → ∀ ls : Array Slot, lv_has ls 5 [(0, .ref x0), (1, .int x1), (2, .int x2), (3, .int x3), (4, .int x4)] → W p l e rm_X5_dayFees s m args below meth c H locs 0 0 (vx_MQ below (va_Qi Q (wO g) (mB g)) (vx_X (fun _ : mmS => True) (fun E S1 t => X E S1 ∧ wO g S1 t) (mB g)) args s rm_X5_dayFees.cells rm_X5_dayFees.slots (mB g)) (F0 m 37 ls [])) : ∀ (S : mmS) (x0 : Nat) (x1 : Int32) (x2 : Int32) (x3 : Int32) (x4 : Int32), bk_X5_dayFees_37 g.2.2.2.2.2 Q X K37 S x0 x1 x2 x3 x4 → ∀ (H : Heap) (locs : List Loc), mH g S s H locs → ∀ ls : Array Slot, lv_has ls 5 [(0, .ref x0), (1, .int x1), (2, .int x2), (3, .int x3), (4, .int x4)] → W p l e rm_X5_dayFees s m args below meth c H locs 0 0 (vx_MQ below (va_Qi Q (wO g) (mB g)) (vx_X (fun _ : mmS => True) (fun E S1 t => X E S1 ∧ wO g S1 t) (mB g)) args s rm_X5_dayFees.cells rm_X5_dayFees.slots (mB g)) (F0 m 37 ls []) := by
  intro S x0 x1 x2 x3 x4 hw H locs hH ls hl
  unfold bk_X5_dayFees_37 at hw
  refine lv_iload hC.1 hC.2.1 dX5_dayFees_37 (lv_at hl 4 rfl) ?_
  refine lv_aload_n hC.1 hC.2.1 dX5_dayFees_39 rfl (lv_at hl 0 rfl) ?_
  obtain ⟨k1, hw⟩ := hw
  refine m_getI hC hs hH cs5 fs5_8 (fun _ h => List.mem_cons_of_mem _ (inlX5 _ h)) (List.mem_cons_of_mem _ q_440) (fun _ h => h) k1 dX5_dayFees_40 ?_
  refine lv_icmp_ge (tgt := 98) hC.1 hC.2.1 dX5_dayFees_43 (by decide) (fun hc => ?_) (fun hc => ?_)
  · have hw := hw.1 hc
    refine lv_iload_n hC.1 hC.2.1 dX5_dayFees_98 rfl (lv_at hl 3 rfl) ?_
    exact m_reti hC hH hrt rfl hlk (Nat.le_of_ble_eq_true rfl) (Nat.le_of_ble_eq_true rfl) dX5_dayFees_99 hw
  · have hw := hw.2 hc
    refine lv_iload_n hC.1 hC.2.1 dX5_dayFees_46 rfl (lv_at hl 3 rfl) ?_
    refine lv_aload_n hC.1 hC.2.1 dX5_dayFees_47 rfl (lv_at hl 0 rfl) ?_
    obtain ⟨b2, r3, hw⟩ := hw
    refine m_getR hC hs hH cs5 fs5_9 (fun _ h => List.mem_cons_of_mem _ (inlX5 _ h)) (List.mem_cons_of_mem _ q_47) (fun _ h => h) k1 r3 dX5_dayFees_48 ?_
    refine lv_iconst (v := 4) hC.1 hC.2.1 dX5_dayFees_51 (by decide) ?_
    refine lv_iload hC.1 hC.2.1 dX5_dayFees_52 (lv_at hl 4 rfl) ?_
    refine lv_imul hC.1 hC.2.1 dX5_dayFees_54 ?_
    obtain ⟨k4, hw⟩ := hw
    obtain ⟨i5, hw⟩ := hw
    refine m_iald hC hs hH k4 i5 dX5_dayFees_55 ?_
    refine lv_iload_n hC.1 hC.2.1 dX5_dayFees_56 rfl (lv_at hl 1 rfl) ?_
    refine lv_icmp_ne (tgt := 89) hC.1 hC.2.1 dX5_dayFees_57 (by decide) (fun hc => ?_) (fun hc => ?_)
    · have hw := hw.1 hc
      exact bw_X5_dayFees_89 hl0 hC hrt hlk hmn hnx hs hk37 _ _ _ _ _ _ hw _ _ hH _ (lv_sub hl [0, 1, 2, 4] rfl)
    · have hw := hw.2 hc
      refine lv_aload_n hC.1 hC.2.1 dX5_dayFees_60 rfl (lv_at hl 0 rfl) ?_
      obtain ⟨b6, r7, hw⟩ := hw
      refine m_getR hC hs hH cs5 fs5_9 (fun _ h => List.mem_cons_of_mem _ (inlX5 _ h)) (List.mem_cons_of_mem _ q_47) (fun _ h => h) k1 r7 dX5_dayFees_61 ?_
      refine lv_iconst (v := 4) hC.1 hC.2.1 dX5_dayFees_64 (by decide) ?_
      refine lv_iload hC.1 hC.2.1 dX5_dayFees_65 (lv_at hl 4 rfl) ?_
      refine lv_imul hC.1 hC.2.1 dX5_dayFees_67 ?_
      refine lv_iconst (v := 3) hC.1 hC.2.1 dX5_dayFees_68 (by decide) ?_
      refine lv_iadd hC.1 hC.2.1 dX5_dayFees_69 ?_
      obtain ⟨k8, hw⟩ := hw
      obtain ⟨i9, hw⟩ := hw
      refine m_iald hC hs hH k8 i9 dX5_dayFees_70 ?_
      refine lv_iload_n hC.1 hC.2.1 dX5_dayFees_71 rfl (lv_at hl 2 rfl) ?_
      refine lv_icmp_ne (tgt := 89) hC.1 hC.2.1 dX5_dayFees_72 (by decide) (fun hc => ?_) (fun hc => ?_)
      · have hw := hw.1 hc
        exact bw_X5_dayFees_89 hl0 hC hrt hlk hmn hnx hs hk37 _ _ _ _ _ _ hw _ _ hH _ (lv_sub hl [0, 1, 2, 4] rfl)
      · have hw := hw.2 hc
        refine lv_aload_n hC.1 hC.2.1 dX5_dayFees_75 rfl (lv_at hl 0 rfl) ?_
        obtain ⟨b10, r11, hw⟩ := hw
        refine m_getR hC hs hH cs5 fs5_16 (fun _ h => List.mem_cons_of_mem _ (inlX5 _ h)) (List.mem_cons_of_mem _ q_54) (fun _ h => h) k1 r11 dX5_dayFees_76 ?_
        refine lv_iload hC.1 hC.2.1 dX5_dayFees_79 (lv_at hl 4 rfl) ?_
        obtain ⟨k12, hw⟩ := hw
        obtain ⟨i13, hw⟩ := hw
        refine m_iald hC hs hH k12 i13 dX5_dayFees_81 ?_
        refine lv_if_le (tgt := 89) hC.1 hC.2.1 dX5_dayFees_82 (by decide) (fun hc => ?_) (fun hc => ?_)
        · have hw := hw.1 hc
          exact bw_X5_dayFees_89 hl0 hC hrt hlk hmn hnx hs hk37 _ _ _ _ _ _ hw _ _ hH _ (lv_sub hl [0, 1, 2, 4] rfl)
        · have hw := hw.2 hc
          refine lv_iconst (v := 1) hC.1 hC.2.1 dX5_dayFees_85 (by decide) ?_
          refine lv_goto (tgt := 90) hC.1 hC.2.1 dX5_dayFees_86 (by decide) ?_
          exact bw_X5_dayFees_90 hl0 hC hrt hlk hmn hnx hs hk37 _ _ _ _ _ _ _ hw _ _ hH _ (lv_sub hl [0, 1, 2, 4] rfl)
theorem lw_X5_dayFees_37 {p : Program} {l : Launch} {e : Env} {s : State} {m : MethodId} {args : Array Value} {below : List Frame} {meth : Method} {c : Code} {g : mG} {Q : Int32 → mmS → Prop} {X : String → mmS → Prop} (hl0 : l.stackTraces = false) (hC : CallFix p m c cX5_dayFees 5 s args (wA_ yX5_dayFees cX5_dayFees 5 (some .int)) RX5) (hrt : meth.sig.returnType = (some .int)) (hlk : meth.locks = false) (hmn : meth.name = yX5_dayFees.name) (hnx : ∀ x ∈ c.exceptionTable.toList, False) (hs : mX g s) : ∀ (n : Nat) (S : mmS) (x0 : Nat) (x1 : Int32) (x2 : Int32) (x3 : Int32) (x4 : Int32), lp_X5_dayFees_37 g.2.2.2.2.2 Q X n S x0 x1 x2 x3 x4 → ∀ (H : Heap) (locs : List Loc), mH g S s H locs → ∀ ls : Array Slot, lv_has ls 5 [(0, .ref x0), (1, .int x1), (2, .int x2), (3, .int x3), (4, .int x4)] → W p l e rm_X5_dayFees s m args below meth c H locs 0 0 (vx_MQ below (va_Qi Q (wO g) (mB g)) (vx_X (fun _ : mmS => True) (fun E S1 t => X E S1 ∧ wO g S1 t) (mB g)) args s rm_X5_dayFees.cells rm_X5_dayFees.slots (mB g)) (F0 m 37 ls []) := by
  intro n
  induction n with
  | zero => intro S x0 x1 x2 x3 x4 hw; exact False.elim hw
  | succ n ih => exact fun S x0 x1 x2 x3 x4 hw => bw_X5_dayFees_37 hl0 hC hrt hlk hmn hnx hs (K37 := lp_X5_dayFees_37 g.2.2.2.2.2 Q X n) ih S x0 x1 x2 x3 x4 hw
set_option maxHeartbeats 4000000 in
set_option maxRecDepth 100000 in
theorem bw_X5_dayFees_22 {p : Program} {l : Launch} {e : Env} {s : State} {m : MethodId} {args : Array Value} {below : List Frame} {meth : Method} {c : Code} {g : mG} {Q : Int32 → mmS → Prop} {X : String → mmS → Prop} (hl0 : l.stackTraces = false) (hC : CallFix p m c cX5_dayFees 5 s args (wA_ yX5_dayFees cX5_dayFees 5 (some .int)) RX5) (hrt : meth.sig.returnType = (some .int)) (hlk : meth.locks = false) (hmn : meth.name = yX5_dayFees.name) (hnx : ∀ x ∈ c.exceptionTable.toList, False) (hs : mX g s) : ∀ (S : mmS) (x0 : Nat), bk_X5_dayFees_22 g.2.2.2.2.2 Q X S x0 → ∀ (H : Heap) (locs : List Loc), mH g S s H locs → ∀ ls : Array Slot, lv_has ls 5 [(0, .ref x0)] → W p l e rm_X5_dayFees s m args below meth c H locs 0 0 (vx_MQ below (va_Qi Q (wO g) (mB g)) (vx_X (fun _ : mmS => True) (fun E S1 t => X E S1 ∧ wO g S1 t) (mB g)) args s rm_X5_dayFees.cells rm_X5_dayFees.slots (mB g)) (F0 m 22 ls []) := by
  intro S x0 hw H locs hH ls hl
  unfold bk_X5_dayFees_22 at hw
  refine lv_aload_n hC.1 hC.2.1 dX5_dayFees_22 rfl (lv_at hl 0 rfl) ?_
  refine lv_iconst (v := 1) hC.1 hC.2.1 dX5_dayFees_23 (by decide) ?_
  obtain ⟨k2, hw⟩ := hw
  refine m_callVi (y := yX5_fail) (rest := []) hC hs hH hl.1 (cwV 1 hC.2.2.2.2 (gA_V q_159 q_160 q_161 q_5 q_162) rfl rfl rfl (by decide +kernel) ⟨Nat.le_of_ble_eq_true rfl, Nat.le_of_ble_eq_true rfl⟩) cs5 k2 (met_X5_fail l hl0 g _ _ _ _ _ hw) rfl rfl (Nat.le_of_ble_eq_true rfl) dX5_dayFees_24 ⟨Nat.le_of_ble_eq_true rfl, Nat.le_of_ble_eq_true rfl⟩ (m_out (fun x hx => (hnx x hx).elim) hlk (Nat.le_of_ble_eq_true rfl) (Nat.le_of_ble_eq_true rfl)) (fun r3 S1 H locs hw hH => ?_)
  refine W.widen (k := 0) (n := 0) (Nat.le_of_ble_eq_true rfl) (Nat.le_of_ble_eq_true rfl) ?_
  exact m_reti hC hH hrt rfl hlk (Nat.le_of_ble_eq_true rfl) (Nat.le_of_ble_eq_true rfl) dX5_dayFees_27 hw
set_option maxHeartbeats 4000000 in
set_option maxRecDepth 100000 in
theorem met_X5_dayFees (l : Launch) (hl0 : l.stackTraces = false) (g : mG) (S : mmS) (p0 : Nat) (p1 : Int32) (p2 : Int32) (Q : Int32 → mmS → Prop) (X : String → mmS → Prop) (hw : wp_X5_dayFees g.2.2.2.2.2 S p0 p1 p2 Q X) : mMi l g yX5_dayFees (wA_ yX5_dayFees cX5_dayFees 5 (some .int)) rm_X5_dayFees [.ref p0, .int p1, .int p2] S Q X := by
  refine m_of (y := yX5_dayFees) (cc := cX5_dayFees) (maxL := 5) (ret := (some .int)) (by decide) rfl (Nat.le_of_ble_eq_true rfl) ?_
  intro p e s m args below meth c ls hC hrt hlk hmn hnx hs hH hl
  have hC : CallFix p m c cX5_dayFees 5 s args (wA_ yX5_dayFees cX5_dayFees 5 (some .int)) RX5 := hC
  have hl : lv_has ls 5 [(0, .ref p0), (1, .int p1), (2, .int p2)] := hl
  unfold wp_X5_dayFees at hw
  refine lv_aload_n hC.1 hC.2.1 dX5_dayFees_0 rfl (lv_at hl 0 rfl) ?_
  refine lv_iconst (v := 0) hC.1 hC.2.1 dX5_dayFees_1 (by decide) ?_
  obtain ⟨k1, hw⟩ := hw
  have hw := hw _ rfl
  refine m_putI hC hs hH cs5 fs5_0 (fun _ h => List.mem_cons_of_mem _ (inlX5 _ h)) (List.mem_cons_of_mem _ q_153) (fun _ h => h) (Or.inl rfl) rfl k1 dX5_dayFees_2 (fun H locs hH => ?_)
  refine lv_aload_n hC.1 hC.2.1 dX5_dayFees_5 rfl (lv_at hl 0 rfl) ?_
  refine lv_iload_n hC.1 hC.2.1 dX5_dayFees_6 rfl (lv_at hl 1 rfl) ?_
  refine m_callVi (y := yX5_isLine) (rest := []) hC hs hH hl.1 (cwV 1 hC.2.2.2.2 (gA_V q_388 q_389 q_390 q_5 q_391) rfl rfl rfl (by decide +kernel) ⟨Nat.le_of_ble_eq_true rfl, Nat.le_of_ble_eq_true rfl⟩) cs5 k1 (met_X5_isLine l hl0 g _ _ _ _ _ hw) rfl rfl (Nat.le_of_ble_eq_true rfl) dX5_dayFees_7 ⟨Nat.le_of_ble_eq_true rfl, Nat.le_of_ble_eq_true rfl⟩ (m_out (fun x hx => (hnx x hx).elim) hlk (Nat.le_of_ble_eq_true rfl) (Nat.le_of_ble_eq_true rfl)) (fun r4 S1 H locs hw hH => ?_)
  refine W.widen (k := 0) (n := 0) (Nat.le_of_ble_eq_true rfl) (Nat.le_of_ble_eq_true rfl) ?_
  refine lv_if_eq (tgt := 22) hC.1 hC.2.1 dX5_dayFees_10 (by decide) (fun hc => ?_) (fun hc => ?_)
  · have hw := hw.1 hc
    exact bw_X5_dayFees_22 hl0 hC hrt hlk hmn hnx hs _ _ hw _ _ hH _ (lv_sub hl [0] rfl)
  · have hw := hw.2 hc
    refine lv_iload_n hC.1 hC.2.1 dX5_dayFees_13 rfl (lv_at hl 2 rfl) ?_
    refine lv_iconst (v := 1) hC.1 hC.2.1 dX5_dayFees_14 (by decide) ?_
    refine lv_iconst (v := 2) hC.1 hC.2.1 dX5_dayFees_15 (by decide) ?_
    refine m_callSi (y := yX5_isIn) (rest := []) hC hs hH hl.1 (va_cwS 3 hC.2.2.2.2 (gA_S q_156 q_157 q_5 q_158) rfl rfl rfl (by decide +kernel) ⟨Nat.le_of_ble_eq_true rfl, Nat.le_of_ble_eq_true rfl⟩) (met_X5_isIn l hl0 g _ _ _ _ _ _ hw) rfl rfl (Nat.le_of_ble_eq_true rfl) dX5_dayFees_16 ⟨Nat.le_of_ble_eq_true rfl, Nat.le_of_ble_eq_true rfl⟩ (m_out (fun x hx => (hnx x hx).elim) hlk (Nat.le_of_ble_eq_true rfl) (Nat.le_of_ble_eq_true rfl)) (fun r6 S1 H locs hw hH => ?_)
    refine W.widen (k := 0) (n := 0) (Nat.le_of_ble_eq_true rfl) (Nat.le_of_ble_eq_true rfl) ?_
    refine lv_if_ne (tgt := 28) hC.1 hC.2.1 dX5_dayFees_19 (by decide) (fun hc => ?_) (fun hc => ?_)
    · have hw := hw.1 hc
      refine lv_aload_n hC.1 hC.2.1 dX5_dayFees_28 rfl (lv_at hl 0 rfl) ?_
      obtain ⟨k8, hw⟩ := hw
      refine m_callVv (y := yX5_rateAll) (rest := []) hC hs hH hl.1 (cwV 0 hC.2.2.2.2 (gA_V q_513 q_514 q_515 q_5 q_516) rfl rfl rfl (by decide +kernel) ⟨Nat.le_of_ble_eq_true rfl, Nat.le_of_ble_eq_true rfl⟩) cs5 k8 (met_X5_rateAll l hl0 g _ _ _ _ hw) rfl rfl (Nat.le_of_ble_eq_true rfl) dX5_dayFees_29 ⟨Nat.le_of_ble_eq_true rfl, Nat.le_of_ble_eq_true rfl⟩ (m_out (fun x hx => (hnx x hx).elim) hlk (Nat.le_of_ble_eq_true rfl) (Nat.le_of_ble_eq_true rfl)) (fun S1 H locs hw hH => ?_)
      refine W.widen (k := 0) (n := 0) (Nat.le_of_ble_eq_true rfl) (Nat.le_of_ble_eq_true rfl) ?_
      refine lv_iconst (v := 0) hC.1 hC.2.1 dX5_dayFees_32 (by decide) ?_
      have hw := hw _ rfl
      refine lv_istore_n (lv' := [(3, .int _), (0, .ref _), (1, .int _), (2, .int _)]) hC.1 hC.2.1 dX5_dayFees_33 rfl hl (by decide) rfl (fun ls hl => ?_)
      refine lv_iconst (v := 0) hC.1 hC.2.1 dX5_dayFees_34 (by decide) ?_
      have hw := hw _ rfl
      refine lv_istore (lv' := [(4, .int _), (3, .int _), (0, .ref _), (1, .int _), (2, .int _)]) hC.1 hC.2.1 dX5_dayFees_35 hl (by decide) rfl (fun ls hl => ?_)
      obtain ⟨n, hw⟩ := hw
      exact lw_X5_dayFees_37 hl0 hC hrt hlk hmn hnx hs n _ _ _ _ _ _ hw _ _ hH _ (lv_sub hl [2, 3, 4, 1, 0] rfl)
    · have hw := hw.2 hc
      exact bw_X5_dayFees_22 hl0 hC hrt hlk hmn hnx hs _ _ hw _ _ hH _ (lv_sub hl [0] rfl)
abbrev rm_X5_with : Room := { frames := 5, cells := 0, slots := 0, locals := 102 }
def wp_X5_with (z : Nat × Nat) (S : mmS) (p0 : Nat) (p1 : Int32) (p2 : Int32) (Q : Int32 → mmS → Prop) (X : String → mmS → Prop) : Prop := (p0 ∈ mL S ∧ mK S p0 = 5) ∧ ∃ b2 : Nat, mR S 16 p0 = some b2 ∧ (b2 ∈ mL S ∧ mK S b2 = 7) ∧ vp_in p1 (mN S b2) ∧ ∀ v6 : Int32, v6 = (mA S b2 (p1).toNatClampNeg) → ∃ b7 : Nat, mR S 16 p0 = some b7 ∧ (b7 ∈ mL S ∧ mK S b7 = 7) ∧ vp_in p1 (mN S b7) ∧ ∀ S11 : mmS, S11 = sA S b7 (p1).toNatClampNeg p2 → wp_X5_rateAll z S11 p0 (fun S12 => (p0 ∈ mL S12 ∧ mK S12 p0 = 5) ∧ ∃ b14 : Nat, mR S12 16 p0 = some b14 ∧ (b14 ∈ mL S12 ∧ mK S12 b14 = 7) ∧ vp_in p1 (mN S12 b14) ∧ ∀ S18 : mmS, S18 = sA S12 b14 (p1).toNatClampNeg v6 → ∃ b19 : Nat, mR S18 15 p0 = some b19 ∧ (b19 ∈ mL S18 ∧ mK S18 b19 = 7) ∧ vp_in p1 (mN S18 b19) ∧ wp_X5_totalOf z S18 p0 (mA S18 b19 (p1).toNatClampNeg) (fun r24 S23 => Q r24 S23) X) X
set_option maxHeartbeats 4000000 in
set_option maxRecDepth 100000 in
theorem met_X5_with (l : Launch) (hl0 : l.stackTraces = false) (g : mG) (S : mmS) (p0 : Nat) (p1 : Int32) (p2 : Int32) (Q : Int32 → mmS → Prop) (X : String → mmS → Prop) (hw : wp_X5_with g.2.2.2.2.2 S p0 p1 p2 Q X) : mMi l g yX5_with (wA_ yX5_with cX5_with 4 (some .int)) rm_X5_with [.ref p0, .int p1, .int p2] S Q X := by
  refine m_of (y := yX5_with) (cc := cX5_with) (maxL := 4) (ret := (some .int)) (by decide) rfl (Nat.le_of_ble_eq_true rfl) ?_
  intro p e s m args below meth c ls hC hrt hlk hmn hnx hs hH hl
  have hC : CallFix p m c cX5_with 4 s args (wA_ yX5_with cX5_with 4 (some .int)) RX5 := hC
  have hl : lv_has ls 4 [(0, .ref p0), (1, .int p1), (2, .int p2)] := hl
  unfold wp_X5_with at hw
  refine lv_aload_n hC.1 hC.2.1 dX5_with_0 rfl (lv_at hl 0 rfl) ?_
  obtain ⟨k1, hw⟩ := hw
  obtain ⟨b2, r3, hw⟩ := hw
  refine m_getR hC hs hH cs5 fs5_7 (fun _ h => List.mem_cons_of_mem _ (inlX5 _ h)) (List.mem_cons_of_mem _ q_46) (fun _ h => h) k1 r3 dX5_with_1 ?_
  refine lv_iload_n hC.1 hC.2.1 dX5_with_4 rfl (lv_at hl 1 rfl) ?_
  obtain ⟨k4, hw⟩ := hw
  obtain ⟨i5, hw⟩ := hw
  refine m_iald hC hs hH k4 i5 dX5_with_5 ?_
  have hw := hw _ rfl
  refine lv_istore_n (lv' := [(3, .int _), (0, .ref _), (1, .int _), (2, .int _)]) hC.1 hC.2.1 dX5_with_6 rfl hl (by decide) rfl (fun ls hl => ?_)
  refine lv_aload_n hC.1 hC.2.1 dX5_with_7 rfl (lv_at hl 1 rfl) ?_
  obtain ⟨b7, r8, hw⟩ := hw
  refine m_getR hC hs hH cs5 fs5_7 (fun _ h => List.mem_cons_of_mem _ (inlX5 _ h)) (List.mem_cons_of_mem _ q_46) (fun _ h => h) k1 r8 dX5_with_8 ?_
  refine lv_iload_n hC.1 hC.2.1 dX5_with_11 rfl (lv_at hl 2 rfl) ?_
  refine lv_iload_n hC.1 hC.2.1 dX5_with_12 rfl (lv_at hl 3 rfl) ?_
  obtain ⟨k9, hw⟩ := hw
  obtain ⟨i10, hw⟩ := hw
  have hw := hw _ rfl
  refine m_iast hC hs hH k9 i10 dX5_with_13 (fun H locs hH => ?_)
  refine lv_aload_n hC.1 hC.2.1 dX5_with_14 rfl (lv_at hl 1 rfl) ?_
  refine m_callVv (y := yX5_rateAll) (rest := []) hC hs hH hl.1 (cwV 0 hC.2.2.2.2 (gA_V q_513 q_514 q_515 q_5 q_516) rfl rfl rfl (by decide +kernel) ⟨Nat.le_of_ble_eq_true rfl, Nat.le_of_ble_eq_true rfl⟩) cs5 k1 (met_X5_rateAll l hl0 g _ _ _ _ hw) rfl rfl (Nat.le_of_ble_eq_true rfl) dX5_with_15 ⟨Nat.le_of_ble_eq_true rfl, Nat.le_of_ble_eq_true rfl⟩ (m_out (fun x hx => (hnx x hx).elim) hlk (Nat.le_of_ble_eq_true rfl) (Nat.le_of_ble_eq_true rfl)) (fun S1 H locs hw hH => ?_)
  refine W.widen (k := 0) (n := 0) (Nat.le_of_ble_eq_true rfl) (Nat.le_of_ble_eq_true rfl) ?_
  refine lv_aload_n hC.1 hC.2.1 dX5_with_18 rfl (lv_at hl 1 rfl) ?_
  obtain ⟨k13, hw⟩ := hw
  obtain ⟨b14, r15, hw⟩ := hw
  refine m_getR hC hs hH cs5 fs5_7 (fun _ h => List.mem_cons_of_mem _ (inlX5 _ h)) (List.mem_cons_of_mem _ q_46) (fun _ h => h) k13 r15 dX5_with_19 ?_
  refine lv_iload_n hC.1 hC.2.1 dX5_with_22 rfl (lv_at hl 2 rfl) ?_
  refine lv_iload_n hC.1 hC.2.1 dX5_with_23 rfl (lv_at hl 0 rfl) ?_
  obtain ⟨k16, hw⟩ := hw
  obtain ⟨i17, hw⟩ := hw
  have hw := hw _ rfl
  refine m_iast hC hs hH k16 i17 dX5_with_24 (fun H locs hH => ?_)
  refine lv_aload_n hC.1 hC.2.1 dX5_with_25 rfl (lv_at hl 1 rfl) ?_
  refine lv_aload_n hC.1 hC.2.1 dX5_with_26 rfl (lv_at hl 1 rfl) ?_
  obtain ⟨b19, r20, hw⟩ := hw
  refine m_getR hC hs hH cs5 fs5_6 (fun _ h => List.mem_cons_of_mem _ (inlX5 _ h)) (List.mem_cons_of_mem _ q_45) (fun _ h => h) k13 r20 dX5_with_27 ?_
  refine lv_iload_n hC.1 hC.2.1 dX5_with_30 rfl (lv_at hl 2 rfl) ?_
  obtain ⟨k21, hw⟩ := hw
  obtain ⟨i22, hw⟩ := hw
  refine m_iald hC hs hH k21 i22 dX5_with_31 ?_
  refine m_callVi (y := yX5_totalOf) (rest := []) hC hs hH hl.1 (cwV 1 hC.2.2.2.2 (gA_V q_597 q_598 q_599 q_5 q_600) rfl rfl rfl (by decide +kernel) ⟨Nat.le_of_ble_eq_true rfl, Nat.le_of_ble_eq_true rfl⟩) cs5 k13 (met_X5_totalOf l hl0 g _ _ _ _ _ hw) rfl rfl (Nat.le_of_ble_eq_true rfl) dX5_with_32 ⟨Nat.le_of_ble_eq_true rfl, Nat.le_of_ble_eq_true rfl⟩ (m_out (fun x hx => (hnx x hx).elim) hlk (Nat.le_of_ble_eq_true rfl) (Nat.le_of_ble_eq_true rfl)) (fun r24 S1 H locs hw hH => ?_)
  refine W.widen (k := 0) (n := 0) (Nat.le_of_ble_eq_true rfl) (Nat.le_of_ble_eq_true rfl) ?_
  exact m_reti hC hH hrt rfl hlk (Nat.le_of_ble_eq_true rfl) (Nat.le_of_ble_eq_true rfl) dX5_with_35 hw
abbrev rm_X5_totalWith : Room := { frames := 6, cells := 0, slots := 0, locals := 125 }
def bk_X5_totalWith_30 (z : Nat × Nat) (Q : Int32 → mmS → Prop) (X : String → mmS → Prop) (S : mmS) (x0 : Nat) : Prop := (x0 ∈ mL S ∧ mK S x0 = 5) ∧ wp_X5_fail z S x0 (1 : Int32) (fun r3 S1 => Q r3 S1) X
def wp_X5_totalWith (z : Nat × Nat) (S : mmS) (p0 : Nat) (p1 : Int32) (p2 : Int32) (Q : Int32 → mmS → Prop) (X : String → mmS → Prop) : Prop := (p0 ∈ mL S ∧ mK S p0 = 5) ∧ ∀ S2 : mmS, S2 = sI S 23 p0 (0 : Int32) → wp_X5_isLine z S2 p0 p1 (fun r4 S3 => (r4 = 0 → bk_X5_totalWith_30 z Q X S3 p0) ∧ (¬ r4 = 0 → (p0 ∈ mL S3 ∧ mK S3 p0 = 5) ∧ wp_X5_isTariff z S3 p0 p2 (fun r7 S5 => (r7 = 0 → bk_X5_totalWith_30 z Q X S5 p0) ∧ (¬ r7 = 0 → (p0 ∈ mL S5 ∧ mK S5 p0 = 5) ∧ wp_X5_with z S5 p0 p1 p2 (fun r10 S8 => Q r10 S8) X)) X)) X
set_option maxHeartbeats 4000000 in
set_option maxRecDepth 100000 in
theorem bw_X5_totalWith_30 {p : Program} {l : Launch} {e : Env} {s : State} {m : MethodId} {args : Array Value} {below : List Frame} {meth : Method} {c : Code} {g : mG} {Q : Int32 → mmS → Prop} {X : String → mmS → Prop} (hl0 : l.stackTraces = false) (hC : CallFix p m c cX5_totalWith 3 s args (wA_ yX5_totalWith cX5_totalWith 3 (some .int)) RX5) (hrt : meth.sig.returnType = (some .int)) (hlk : meth.locks = false) (hmn : meth.name = yX5_totalWith.name) (hnx : ∀ x ∈ c.exceptionTable.toList, False) (hs : mX g s) : ∀ (S : mmS) (x0 : Nat), bk_X5_totalWith_30 g.2.2.2.2.2 Q X S x0 → ∀ (H : Heap) (locs : List Loc), mH g S s H locs → ∀ ls : Array Slot, lv_has ls 3 [(0, .ref x0)] → W p l e rm_X5_totalWith s m args below meth c H locs 0 0 (vx_MQ below (va_Qi Q (wO g) (mB g)) (vx_X (fun _ : mmS => True) (fun E S1 t => X E S1 ∧ wO g S1 t) (mB g)) args s rm_X5_totalWith.cells rm_X5_totalWith.slots (mB g)) (F0 m 30 ls []) := by
  intro S x0 hw H locs hH ls hl
  unfold bk_X5_totalWith_30 at hw
  refine lv_aload_n hC.1 hC.2.1 dX5_totalWith_30 rfl (lv_at hl 0 rfl) ?_
  refine lv_iconst (v := 1) hC.1 hC.2.1 dX5_totalWith_31 (by decide) ?_
  obtain ⟨k2, hw⟩ := hw
  refine m_callVi (y := yX5_fail) (rest := []) hC hs hH hl.1 (cwV 1 hC.2.2.2.2 (gA_V q_159 q_160 q_161 q_5 q_162) rfl rfl rfl (by decide +kernel) ⟨Nat.le_of_ble_eq_true rfl, Nat.le_of_ble_eq_true rfl⟩) cs5 k2 (met_X5_fail l hl0 g _ _ _ _ _ hw) rfl rfl (Nat.le_of_ble_eq_true rfl) dX5_totalWith_32 ⟨Nat.le_of_ble_eq_true rfl, Nat.le_of_ble_eq_true rfl⟩ (m_out (fun x hx => (hnx x hx).elim) hlk (Nat.le_of_ble_eq_true rfl) (Nat.le_of_ble_eq_true rfl)) (fun r3 S1 H locs hw hH => ?_)
  refine W.widen (k := 0) (n := 0) (Nat.le_of_ble_eq_true rfl) (Nat.le_of_ble_eq_true rfl) ?_
  exact m_reti hC hH hrt rfl hlk (Nat.le_of_ble_eq_true rfl) (Nat.le_of_ble_eq_true rfl) dX5_totalWith_35 hw
set_option maxHeartbeats 4000000 in
set_option maxRecDepth 100000 in
theorem met_X5_totalWith (l : Launch) (hl0 : l.stackTraces = false) (g : mG) (S : mmS) (p0 : Nat) (p1 : Int32) (p2 : Int32) (Q : Int32 → mmS → Prop) (X : String → mmS → Prop) (hw : wp_X5_totalWith g.2.2.2.2.2 S p0 p1 p2 Q X) : mMi l g yX5_totalWith (wA_ yX5_totalWith cX5_totalWith 3 (some .int)) rm_X5_totalWith [.ref p0, .int p1, .int p2] S Q X := by
  refine m_of (y := yX5_totalWith) (cc := cX5_totalWith) (maxL := 3) (ret := (some .int)) (by decide) rfl (Nat.le_of_ble_eq_true rfl) ?_
  intro p e s m args below meth c ls hC hrt hlk hmn hnx hs hH hl
  have hC : CallFix p m c cX5_totalWith 3 s args (wA_ yX5_totalWith cX5_totalWith 3 (some .int)) RX5 := hC
  have hl : lv_has ls 3 [(0, .ref p0), (1, .int p1), (2, .int p2)] := hl
  unfold wp_X5_totalWith at hw
  refine lv_aload_n hC.1 hC.2.1 dX5_totalWith_0 rfl (lv_at hl 0 rfl) ?_
  refine lv_iconst (v := 0) hC.1 hC.2.1 dX5_totalWith_1 (by decide) ?_
  obtain ⟨k1, hw⟩ := hw
  have hw := hw _ rfl
  refine m_putI hC hs hH cs5 fs5_0 (fun _ h => List.mem_cons_of_mem _ (inlX5 _ h)) (List.mem_cons_of_mem _ q_153) (fun _ h => h) (Or.inl rfl) rfl k1 dX5_totalWith_2 (fun H locs hH => ?_)
  refine lv_aload_n hC.1 hC.2.1 dX5_totalWith_5 rfl (lv_at hl 0 rfl) ?_
  refine lv_iload_n hC.1 hC.2.1 dX5_totalWith_6 rfl (lv_at hl 1 rfl) ?_
  refine m_callVi (y := yX5_isLine) (rest := []) hC hs hH hl.1 (cwV 1 hC.2.2.2.2 (gA_V q_388 q_389 q_390 q_5 q_391) rfl rfl rfl (by decide +kernel) ⟨Nat.le_of_ble_eq_true rfl, Nat.le_of_ble_eq_true rfl⟩) cs5 k1 (met_X5_isLine l hl0 g _ _ _ _ _ hw) rfl rfl (Nat.le_of_ble_eq_true rfl) dX5_totalWith_7 ⟨Nat.le_of_ble_eq_true rfl, Nat.le_of_ble_eq_true rfl⟩ (m_out (fun x hx => (hnx x hx).elim) hlk (Nat.le_of_ble_eq_true rfl) (Nat.le_of_ble_eq_true rfl)) (fun r4 S1 H locs hw hH => ?_)
  refine W.widen (k := 0) (n := 0) (Nat.le_of_ble_eq_true rfl) (Nat.le_of_ble_eq_true rfl) ?_
  refine lv_if_eq (tgt := 30) hC.1 hC.2.1 dX5_totalWith_10 (by decide) (fun hc => ?_) (fun hc => ?_)
  · have hw := hw.1 hc
    exact bw_X5_totalWith_30 hl0 hC hrt hlk hmn hnx hs _ _ hw _ _ hH _ (lv_sub hl [0] rfl)
  · have hw := hw.2 hc
    refine lv_aload_n hC.1 hC.2.1 dX5_totalWith_13 rfl (lv_at hl 0 rfl) ?_
    refine lv_iload_n hC.1 hC.2.1 dX5_totalWith_14 rfl (lv_at hl 2 rfl) ?_
    obtain ⟨k6, hw⟩ := hw
    refine m_callVi (y := yX5_isTariff) (rest := []) hC hs hH hl.1 (cwV 1 hC.2.2.2.2 (gA_V q_295 q_296 q_297 q_5 q_298) rfl rfl rfl (by decide +kernel) ⟨Nat.le_of_ble_eq_true rfl, Nat.le_of_ble_eq_true rfl⟩) cs5 k6 (met_X5_isTariff l hl0 g _ _ _ _ _ hw) rfl rfl (Nat.le_of_ble_eq_true rfl) dX5_totalWith_15 ⟨Nat.le_of_ble_eq_true rfl, Nat.le_of_ble_eq_true rfl⟩ (m_out (fun x hx => (hnx x hx).elim) hlk (Nat.le_of_ble_eq_true rfl) (Nat.le_of_ble_eq_true rfl)) (fun r7 S1 H locs hw hH => ?_)
    refine W.widen (k := 0) (n := 0) (Nat.le_of_ble_eq_true rfl) (Nat.le_of_ble_eq_true rfl) ?_
    refine lv_if_eq (tgt := 30) hC.1 hC.2.1 dX5_totalWith_18 (by decide) (fun hc => ?_) (fun hc => ?_)
    · have hw := hw.1 hc
      exact bw_X5_totalWith_30 hl0 hC hrt hlk hmn hnx hs _ _ hw _ _ hH _ (lv_sub hl [0] rfl)
    · have hw := hw.2 hc
      refine lv_aload_n hC.1 hC.2.1 dX5_totalWith_21 rfl (lv_at hl 0 rfl) ?_
      refine lv_iload_n hC.1 hC.2.1 dX5_totalWith_22 rfl (lv_at hl 1 rfl) ?_
      refine lv_iload_n hC.1 hC.2.1 dX5_totalWith_23 rfl (lv_at hl 2 rfl) ?_
      obtain ⟨k9, hw⟩ := hw
      refine m_callVi (y := yX5_with) (rest := []) hC hs hH hl.1 (cwV 2 hC.2.2.2.2 (gA_V q_649 q_650 q_651 q_5 q_652) rfl rfl rfl (by decide +kernel) ⟨Nat.le_of_ble_eq_true rfl, Nat.le_of_ble_eq_true rfl⟩) cs5 k9 (met_X5_with l hl0 g _ _ _ _ _ _ hw) rfl rfl (Nat.le_of_ble_eq_true rfl) dX5_totalWith_24 ⟨Nat.le_of_ble_eq_true rfl, Nat.le_of_ble_eq_true rfl⟩ (m_out (fun x hx => (hnx x hx).elim) hlk (Nat.le_of_ble_eq_true rfl) (Nat.le_of_ble_eq_true rfl)) (fun r10 S1 H locs hw hH => ?_)
      refine W.widen (k := 0) (n := 0) (Nat.le_of_ble_eq_true rfl) (Nat.le_of_ble_eq_true rfl) ?_
      refine lv_goto (tgt := 35) hC.1 hC.2.1 dX5_totalWith_27 (by decide) ?_
      exact m_reti hC hH hrt rfl hlk (Nat.le_of_ble_eq_true rfl) (Nat.le_of_ble_eq_true rfl) dX5_totalWith_35 hw
abbrev rm_X5_bestTariff : Room := { frames := 6, cells := 0, slots := 0, locals := 125 }
def bk_X5_bestTariff_48 (z : Nat × Nat) (Q : Int32 → mmS → Prop) (X : String → mmS → Prop) (K23 : mmS → Nat → Int32 → Int32 → Int32 → Prop) (S : mmS) (x0 : Nat) (x1 : Int32) (x2 : Int32) (x3 : Int32) : Prop := ∀ v1 : Int32, v1 = x3 + 1 → K23 S x0 x1 x2 v1
def bk_X5_bestTariff_23 (z : Nat × Nat) (Q : Int32 → mmS → Prop) (X : String → mmS → Prop) (K23 : mmS → Nat → Int32 → Int32 → Int32 → Prop) (S : mmS) (x0 : Nat) (x1 : Int32) (x2 : Int32) (x3 : Int32) : Prop := (x0 ∈ mL S ∧ mK S x0 = 5) ∧ ((mI S 24 x0) ≤ x3 → Q x2 S) ∧ (¬ (mI S 24 x0) ≤ x3 → wp_X5_with z S x0 x1 x3 (fun r3 S2 => (x0 ∈ mL S2 ∧ mK S2 x0 = 5) ∧ wp_X5_with z S2 x0 x1 x2 (fun r6 S4 => (r6 ≤ r3 → bk_X5_bestTariff_48 z Q X K23 S4 x0 x1 x2 x3) ∧ (¬ r6 ≤ r3 → bk_X5_bestTariff_48 z Q X K23 S4 x0 x1 x3 x3)) X) X)
def lp_X5_bestTariff_23 (z : Nat × Nat) (Q : Int32 → mmS → Prop) (X : String → mmS → Prop) : Nat → mmS → Nat → Int32 → Int32 → Int32 → Prop
  | 0 => fun _ _ _ _ _ => False
  | n + 1 => bk_X5_bestTariff_23 z Q X (lp_X5_bestTariff_23 z Q X n)
def wp_X5_bestTariff (z : Nat × Nat) (S : mmS) (p0 : Nat) (p1 : Int32) (Q : Int32 → mmS → Prop) (X : String → mmS → Prop) : Prop := (p0 ∈ mL S ∧ mK S p0 = 5) ∧ ∀ S2 : mmS, S2 = sI S 23 p0 (0 : Int32) → wp_X5_isLine z S2 p0 p1 (fun r4 S3 => (¬ r4 = 0 → ∀ v5 : Int32, v5 = (0 : Int32) → ∀ v6 : Int32, v6 = (1 : Int32) → ∃ n : Nat, lp_X5_bestTariff_23 z Q X n S3 p0 p1 v5 v6) ∧ (r4 = 0 → (p0 ∈ mL S3 ∧ mK S3 p0 = 5) ∧ wp_X5_fail z S3 p0 (1 : Int32) (fun r9 S7 => Q r9 S7) X)) X
set_option maxHeartbeats 4000000 in
set_option maxRecDepth 100000 in
theorem bw_X5_bestTariff_48 {p : Program} {l : Launch} {e : Env} {s : State} {m : MethodId} {args : Array Value} {below : List Frame} {meth : Method} {c : Code} {g : mG} {Q : Int32 → mmS → Prop} {X : String → mmS → Prop} (hl0 : l.stackTraces = false) (hC : CallFix p m c cX5_bestTariff 4 s args (wA_ yX5_bestTariff cX5_bestTariff 4 (some .int)) RX5) (hrt : meth.sig.returnType = (some .int)) (hlk : meth.locks = false) (hmn : meth.name = yX5_bestTariff.name) (hnx : ∀ x ∈ c.exceptionTable.toList, False) (hs : mX g s) {K23 : mmS → Nat → Int32 → Int32 → Int32 → Prop} (hk23 : ∀ (S : mmS) (x0 : Nat) (x1 : Int32) (x2 : Int32) (x3 : Int32), K23 S x0 x1 x2 x3 → ∀ (H : Heap) (locs : List Loc), mH g S s H locs → ∀ ls : Array Slot, lv_has ls 4 [(0, .ref x0), (1, .int x1), (2, .int x2), (3, .int x3)] → W p l e rm_X5_bestTariff s m args below meth c H locs 0 0 (vx_MQ below (va_Qi Q (wO g) (mB g)) (vx_X (fun _ : mmS => True) (fun E S1 t => X E S1 ∧ wO g S1 t) (mB g)) args s rm_X5_bestTariff.cells rm_X5_bestTariff.slots (mB g)) (F0 m 23 ls [])) : ∀ (S : mmS) (x0 : Nat) (x1 : Int32) (x2 : Int32) (x3 : Int32), bk_X5_bestTariff_48 g.2.2.2.2.2 Q X K23 S x0 x1 x2 x3 → ∀ (H : Heap) (locs : List Loc), mH g S s H locs → ∀ ls : Array Slot, lv_has ls 4 [(0, .ref x0), (1, .int x1), (2, .int x2), (3, .int x3)] → W p l e rm_X5_bestTariff s m args below meth c H locs 0 0 (vx_MQ below (va_Qi Q (wO g) (mB g)) (vx_X (fun _ : mmS => True) (fun E S1 t => X E S1 ∧ wO g S1 t) (mB g)) args s rm_X5_bestTariff.cells rm_X5_bestTariff.slots (mB g)) (F0 m 48 ls []) := by
  intro S x0 x1 x2 x3 hw H locs hH ls hl
  unfold bk_X5_bestTariff_48 at hw
  have hw := hw _ rfl
  refine lv_iinc (lv' := [(3, .int _), (0, .ref _), (1, .int _), (2, .int _)]) hC.1 hC.2.1 dX5_bestTariff_48 hl (k := 3) rfl (rfl : (_ : Int32) + Int32.ofInt 1 = (_ : Int32) + 1) (by decide) rfl (fun ls hl => ?_)
  refine lv_goto (tgt := 23) hC.1 hC.2.1 dX5_bestTariff_51 (by decide) ?_
  exact hk23 _ _ _ _ _ hw _ _ hH _ (lv_sub hl [1, 2, 3, 0] rfl)
set_option maxHeartbeats 4000000 in
set_option maxRecDepth 100000 in
theorem bw_X5_bestTariff_23 {p : Program} {l : Launch} {e : Env} {s : State} {m : MethodId} {args : Array Value} {below : List Frame} {meth : Method} {c : Code} {g : mG} {Q : Int32 → mmS → Prop} {X : String → mmS → Prop} (hl0 : l.stackTraces = false) (hC : CallFix p m c cX5_bestTariff 4 s args (wA_ yX5_bestTariff cX5_bestTariff 4 (some .int)) RX5) (hrt : meth.sig.returnType = (some .int)) (hlk : meth.locks = false) (hmn : meth.name = yX5_bestTariff.name) (hnx : ∀ x ∈ c.exceptionTable.toList, False) (hs : mX g s) {K23 : mmS → Nat → Int32 → Int32 → Int32 → Prop} (hk23 : ∀ (S : mmS) (x0 : Nat) (x1 : Int32) (x2 : Int32) (x3 : Int32), K23 S x0 x1 x2 x3 → ∀ (H : Heap) (locs : List Loc), mH g S s H locs → ∀ ls : Array Slot, lv_has ls 4 [(0, .ref x0), (1, .int x1), (2, .int x2), (3, .int x3)] → W p l e rm_X5_bestTariff s m args below meth c H locs 0 0 (vx_MQ below (va_Qi Q (wO g) (mB g)) (vx_X (fun _ : mmS => True) (fun E S1 t => X E S1 ∧ wO g S1 t) (mB g)) args s rm_X5_bestTariff.cells rm_X5_bestTariff.slots (mB g)) (F0 m 23 ls [])) : ∀ (S : mmS) (x0 : Nat) (x1 : Int32) (x2 : Int32) (x3 : Int32), bk_X5_bestTariff_23 g.2.2.2.2.2 Q X K23 S x0 x1 x2 x3 → ∀ (H : Heap) (locs : List Loc), mH g S s H locs → ∀ ls : Array Slot, lv_has ls 4 [(0, .ref x0), (1, .int x1), (2, .int x2), (3, .int x3)] → W p l e rm_X5_bestTariff s m args below meth c H locs 0 0 (vx_MQ below (va_Qi Q (wO g) (mB g)) (vx_X (fun _ : mmS => True) (fun E S1 t => X E S1 ∧ wO g S1 t) (mB g)) args s rm_X5_bestTariff.cells rm_X5_bestTariff.slots (mB g)) (F0 m 23 ls []) := by
  intro S x0 x1 x2 x3 hw H locs hH ls hl
  unfold bk_X5_bestTariff_23 at hw
  refine lv_iload_n hC.1 hC.2.1 dX5_bestTariff_23 rfl (lv_at hl 3 rfl) ?_
  refine lv_aload_n hC.1 hC.2.1 dX5_bestTariff_24 rfl (lv_at hl 0 rfl) ?_
  obtain ⟨k1, hw⟩ := hw
  refine m_getI hC hs hH cs5 fs5_1 (fun _ h => List.mem_cons_of_mem _ (inlX5 _ h)) (List.mem_cons_of_mem _ q_154) (fun _ h => h) k1 dX5_bestTariff_25 ?_
  refine lv_icmp_ge (tgt := 54) hC.1 hC.2.1 dX5_bestTariff_28 (by decide) (fun hc => ?_) (fun hc => ?_)
  · have hw := hw.1 hc
    refine lv_iload_n hC.1 hC.2.1 dX5_bestTariff_54 rfl (lv_at hl 2 rfl) ?_
    exact m_reti hC hH hrt rfl hlk (Nat.le_of_ble_eq_true rfl) (Nat.le_of_ble_eq_true rfl) dX5_bestTariff_55 hw
  · have hw := hw.2 hc
    refine lv_aload_n hC.1 hC.2.1 dX5_bestTariff_31 rfl (lv_at hl 0 rfl) ?_
    refine lv_iload_n hC.1 hC.2.1 dX5_bestTariff_32 rfl (lv_at hl 1 rfl) ?_
    refine lv_iload_n hC.1 hC.2.1 dX5_bestTariff_33 rfl (lv_at hl 3 rfl) ?_
    refine m_callVi (y := yX5_with) (rest := []) hC hs hH hl.1 (cwV 2 hC.2.2.2.2 (gA_V q_649 q_650 q_651 q_5 q_652) rfl rfl rfl (by decide +kernel) ⟨Nat.le_of_ble_eq_true rfl, Nat.le_of_ble_eq_true rfl⟩) cs5 k1 (met_X5_with l hl0 g _ _ _ _ _ _ hw) rfl rfl (Nat.le_of_ble_eq_true rfl) dX5_bestTariff_34 ⟨Nat.le_of_ble_eq_true rfl, Nat.le_of_ble_eq_true rfl⟩ (m_out (fun x hx => (hnx x hx).elim) hlk (Nat.le_of_ble_eq_true rfl) (Nat.le_of_ble_eq_true rfl)) (fun r3 S1 H locs hw hH => ?_)
    refine W.widen (k := 0) (n := 0) (Nat.le_of_ble_eq_true rfl) (Nat.le_of_ble_eq_true rfl) ?_
    refine lv_aload_n hC.1 hC.2.1 dX5_bestTariff_37 rfl (lv_at hl 0 rfl) ?_
    refine lv_iload_n hC.1 hC.2.1 dX5_bestTariff_38 rfl (lv_at hl 1 rfl) ?_
    refine lv_iload_n hC.1 hC.2.1 dX5_bestTariff_39 rfl (lv_at hl 2 rfl) ?_
    obtain ⟨k5, hw⟩ := hw
    refine m_callVi (y := yX5_with) (rest := [.int _]) hC hs hH hl.1 (cwV 2 hC.2.2.2.2 (gA_V q_649 q_650 q_651 q_5 q_652) rfl rfl rfl (by decide +kernel) ⟨Nat.le_of_ble_eq_true rfl, Nat.le_of_ble_eq_true rfl⟩) cs5 k5 (met_X5_with l hl0 g _ _ _ _ _ _ hw) rfl rfl (Nat.le_of_ble_eq_true rfl) dX5_bestTariff_40 ⟨Nat.le_of_ble_eq_true rfl, Nat.le_of_ble_eq_true rfl⟩ (m_out (fun x hx => (hnx x hx).elim) hlk (Nat.le_of_ble_eq_true rfl) (Nat.le_of_ble_eq_true rfl)) (fun r6 S1 H locs hw hH => ?_)
    refine W.widen (k := 0) (n := 0) (Nat.le_of_ble_eq_true rfl) (Nat.le_of_ble_eq_true rfl) ?_
    refine lv_icmp_ge (tgt := 48) hC.1 hC.2.1 dX5_bestTariff_43 (by decide) (fun hc => ?_) (fun hc => ?_)
    · have hw := hw.1 hc
      exact bw_X5_bestTariff_48 hl0 hC hrt hlk hmn hnx hs hk23 _ _ _ _ _ hw _ _ hH _ (lv_sub hl [0, 1, 2, 3] rfl)
    · have hw := hw.2 hc
      refine lv_iload_n hC.1 hC.2.1 dX5_bestTariff_46 rfl (lv_at hl 3 rfl) ?_
      refine lv_istore_n (lv' := [(2, .int _), (0, .ref _), (1, .int _), (3, .int _)]) hC.1 hC.2.1 dX5_bestTariff_47 rfl hl (by decide) rfl (fun ls hl => ?_)
      exact bw_X5_bestTariff_48 hl0 hC hrt hlk hmn hnx hs hk23 _ _ _ _ _ hw _ _ hH _ (lv_sub hl [1, 2, 0, 3] rfl)
theorem lw_X5_bestTariff_23 {p : Program} {l : Launch} {e : Env} {s : State} {m : MethodId} {args : Array Value} {below : List Frame} {meth : Method} {c : Code} {g : mG} {Q : Int32 → mmS → Prop} {X : String → mmS → Prop} (hl0 : l.stackTraces = false) (hC : CallFix p m c cX5_bestTariff 4 s args (wA_ yX5_bestTariff cX5_bestTariff 4 (some .int)) RX5) (hrt : meth.sig.returnType = (some .int)) (hlk : meth.locks = false) (hmn : meth.name = yX5_bestTariff.name) (hnx : ∀ x ∈ c.exceptionTable.toList, False) (hs : mX g s) : ∀ (n : Nat) (S : mmS) (x0 : Nat) (x1 : Int32) (x2 : Int32) (x3 : Int32), lp_X5_bestTariff_23 g.2.2.2.2.2 Q X n S x0 x1 x2 x3 → ∀ (H : Heap) (locs : List Loc), mH g S s H locs → ∀ ls : Array Slot, lv_has ls 4 [(0, .ref x0), (1, .int x1), (2, .int x2), (3, .int x3)] → W p l e rm_X5_bestTariff s m args below meth c H locs 0 0 (vx_MQ below (va_Qi Q (wO g) (mB g)) (vx_X (fun _ : mmS => True) (fun E S1 t => X E S1 ∧ wO g S1 t) (mB g)) args s rm_X5_bestTariff.cells rm_X5_bestTariff.slots (mB g)) (F0 m 23 ls []) := by
  intro n
  induction n with
  | zero => intro S x0 x1 x2 x3 hw; exact False.elim hw
  | succ n ih => exact fun S x0 x1 x2 x3 hw => bw_X5_bestTariff_23 hl0 hC hrt hlk hmn hnx hs (K23 := lp_X5_bestTariff_23 g.2.2.2.2.2 Q X n) ih S x0 x1 x2 x3 hw
set_option maxHeartbeats 4000000 in
set_option maxRecDepth 100000 in
theorem met_X5_bestTariff (l : Launch) (hl0 : l.stackTraces = false) (g : mG) (S : mmS) (p0 : Nat) (p1 : Int32) (Q : Int32 → mmS → Prop) (X : String → mmS → Prop) (hw : wp_X5_bestTariff g.2.2.2.2.2 S p0 p1 Q X) : mMi l g yX5_bestTariff (wA_ yX5_bestTariff cX5_bestTariff 4 (some .int)) rm_X5_bestTariff [.ref p0, .int p1] S Q X := by
  refine m_of (y := yX5_bestTariff) (cc := cX5_bestTariff) (maxL := 4) (ret := (some .int)) (by decide) rfl (Nat.le_of_ble_eq_true rfl) ?_
  intro p e s m args below meth c ls hC hrt hlk hmn hnx hs hH hl
  have hC : CallFix p m c cX5_bestTariff 4 s args (wA_ yX5_bestTariff cX5_bestTariff 4 (some .int)) RX5 := hC
  have hl : lv_has ls 4 [(0, .ref p0), (1, .int p1)] := hl
  unfold wp_X5_bestTariff at hw
  refine lv_aload_n hC.1 hC.2.1 dX5_bestTariff_0 rfl (lv_at hl 0 rfl) ?_
  refine lv_iconst (v := 0) hC.1 hC.2.1 dX5_bestTariff_1 (by decide) ?_
  obtain ⟨k1, hw⟩ := hw
  have hw := hw _ rfl
  refine m_putI hC hs hH cs5 fs5_0 (fun _ h => List.mem_cons_of_mem _ (inlX5 _ h)) (List.mem_cons_of_mem _ q_153) (fun _ h => h) (Or.inl rfl) rfl k1 dX5_bestTariff_2 (fun H locs hH => ?_)
  refine lv_aload_n hC.1 hC.2.1 dX5_bestTariff_5 rfl (lv_at hl 0 rfl) ?_
  refine lv_iload_n hC.1 hC.2.1 dX5_bestTariff_6 rfl (lv_at hl 1 rfl) ?_
  refine m_callVi (y := yX5_isLine) (rest := []) hC hs hH hl.1 (cwV 1 hC.2.2.2.2 (gA_V q_388 q_389 q_390 q_5 q_391) rfl rfl rfl (by decide +kernel) ⟨Nat.le_of_ble_eq_true rfl, Nat.le_of_ble_eq_true rfl⟩) cs5 k1 (met_X5_isLine l hl0 g _ _ _ _ _ hw) rfl rfl (Nat.le_of_ble_eq_true rfl) dX5_bestTariff_7 ⟨Nat.le_of_ble_eq_true rfl, Nat.le_of_ble_eq_true rfl⟩ (m_out (fun x hx => (hnx x hx).elim) hlk (Nat.le_of_ble_eq_true rfl) (Nat.le_of_ble_eq_true rfl)) (fun r4 S1 H locs hw hH => ?_)
  refine W.widen (k := 0) (n := 0) (Nat.le_of_ble_eq_true rfl) (Nat.le_of_ble_eq_true rfl) ?_
  refine lv_if_ne (tgt := 19) hC.1 hC.2.1 dX5_bestTariff_10 (by decide) (fun hc => ?_) (fun hc => ?_)
  · have hw := hw.1 hc
    refine lv_iconst (v := 0) hC.1 hC.2.1 dX5_bestTariff_19 (by decide) ?_
    have hw := hw _ rfl
    refine lv_istore_n (lv' := [(2, .int _), (0, .ref _), (1, .int _)]) hC.1 hC.2.1 dX5_bestTariff_20 rfl hl (by decide) rfl (fun ls hl => ?_)
    refine lv_iconst (v := 1) hC.1 hC.2.1 dX5_bestTariff_21 (by decide) ?_
    have hw := hw _ rfl
    refine lv_istore_n (lv' := [(3, .int _), (2, .int _), (0, .ref _), (1, .int _)]) hC.1 hC.2.1 dX5_bestTariff_22 rfl hl (by decide) rfl (fun ls hl => ?_)
    obtain ⟨n, hw⟩ := hw
    exact lw_X5_bestTariff_23 hl0 hC hrt hlk hmn hnx hs n _ _ _ _ _ hw _ _ hH _ (lv_sub hl [2, 3, 1, 0] rfl)
  · have hw := hw.2 hc
    refine lv_aload_n hC.1 hC.2.1 dX5_bestTariff_13 rfl (lv_at hl 0 rfl) ?_
    refine lv_iconst (v := 1) hC.1 hC.2.1 dX5_bestTariff_14 (by decide) ?_
    obtain ⟨k8, hw⟩ := hw
    refine m_callVi (y := yX5_fail) (rest := []) hC hs hH hl.1 (cwV 1 hC.2.2.2.2 (gA_V q_159 q_160 q_161 q_5 q_162) rfl rfl rfl (by decide +kernel) ⟨Nat.le_of_ble_eq_true rfl, Nat.le_of_ble_eq_true rfl⟩) cs5 k8 (met_X5_fail l hl0 g _ _ _ _ _ hw) rfl rfl (Nat.le_of_ble_eq_true rfl) dX5_bestTariff_15 ⟨Nat.le_of_ble_eq_true rfl, Nat.le_of_ble_eq_true rfl⟩ (m_out (fun x hx => (hnx x hx).elim) hlk (Nat.le_of_ble_eq_true rfl) (Nat.le_of_ble_eq_true rfl)) (fun r9 S1 H locs hw hH => ?_)
    refine W.widen (k := 0) (n := 0) (Nat.le_of_ble_eq_true rfl) (Nat.le_of_ble_eq_true rfl) ?_
    exact m_reti hC hH hrt rfl hlk (Nat.le_of_ble_eq_true rfl) (Nat.le_of_ble_eq_true rfl) dX5_bestTariff_18 hw
abbrev rm_X5_freeShare : Room := { frames := 5, cells := 0, slots := 0, locals := 102 }
def bk_X5_freeShare_15 (z : Nat × Nat) (Q : UInt64 → mmS → Prop) (X : String → mmS → Prop) (K15 : mmS → Nat → Int32 → Int32 → Int32 → Prop) (S : mmS) (x0 : Nat) (x1 : Int32) (x2 : Int32) (x3 : Int32) : Prop := (x0 ∈ mL S ∧ mK S x0 = 5) ∧ ((mI S 27 x0) ≤ x3 → (¬ x1 = 0 → vf_n64 (FP.ddiv (FP.i2d x2) (FP.i2d x1)) ∧ Q (FP.ddiv (FP.i2d x2) (FP.i2d x1)) S) ∧ (x1 = 0 → Q (FP.dconst0) S)) ∧ (¬ (mI S 27 x0) ≤ x3 → ∃ b3 : Nat, mR S 19 x0 = some b3 ∧ (b3 ∈ mL S ∧ mK S b3 = 7) ∧ vp_in x3 (mN S b3) ∧ ∀ v7 : Int32, v7 = (x1 + (mA S b3 (x3).toNatClampNeg)) → ∃ b8 : Nat, mR S 20 x0 = some b8 ∧ (b8 ∈ mL S ∧ mK S b8 = 7) ∧ vp_in x3 (mN S b8) ∧ ∀ v12 : Int32, v12 = (x2 + (mA S b8 (x3).toNatClampNeg)) → ∀ v13 : Int32, v13 = x3 + 1 → K15 S x0 v7 v12 v13)
def lp_X5_freeShare_15 (z : Nat × Nat) (Q : UInt64 → mmS → Prop) (X : String → mmS → Prop) : Nat → mmS → Nat → Int32 → Int32 → Int32 → Prop
  | 0 => fun _ _ _ _ _ => False
  | n + 1 => bk_X5_freeShare_15 z Q X (lp_X5_freeShare_15 z Q X n)
def wp_X5_freeShare (z : Nat × Nat) (S : mmS) (p0 : Nat) (Q : UInt64 → mmS → Prop) (X : String → mmS → Prop) : Prop := (p0 ∈ mL S ∧ mK S p0 = 5) ∧ ∀ S2 : mmS, S2 = sI S 23 p0 (0 : Int32) → wp_X5_rateAll z S2 p0 (fun S3 => ∀ v4 : Int32, v4 = (0 : Int32) → ∀ v5 : Int32, v5 = (0 : Int32) → ∀ v6 : Int32, v6 = (0 : Int32) → ∃ n : Nat, lp_X5_freeShare_15 z Q X n S3 p0 v4 v5 v6) X
set_option maxHeartbeats 4000000 in
set_option maxRecDepth 100000 in
theorem bw_X5_freeShare_15 {p : Program} {l : Launch} {e : Env} {s : State} {m : MethodId} {args : Array Value} {below : List Frame} {meth : Method} {c : Code} {g : mG} {Q : UInt64 → mmS → Prop} {X : String → mmS → Prop} (hl0 : l.stackTraces = false) (hC : CallFix p m c cX5_freeShare 4 s args (wA_ yX5_freeShare cX5_freeShare 4 (some .double)) RX5) (hrt : meth.sig.returnType = (some .double)) (hlk : meth.locks = false) (hmn : meth.name = yX5_freeShare.name) (hnx : ∀ x ∈ c.exceptionTable.toList, False) (hs : mX g s) {K15 : mmS → Nat → Int32 → Int32 → Int32 → Prop} (hk15 : ∀ (S : mmS) (x0 : Nat) (x1 : Int32) (x2 : Int32) (x3 : Int32), K15 S x0 x1 x2 x3 → ∀ (H : Heap) (locs : List Loc), mH g S s H locs → ∀ ls : Array Slot, lv_has ls 4 [(0, .ref x0), (1, .int x1), (2, .int x2), (3, .int x3)] → W p l e rm_X5_freeShare s m args below meth c H locs 0 0 (vx_MQ below (va_Qd Q (wO g) (mB g)) (vx_X (fun _ : mmS => True) (fun E S1 t => X E S1 ∧ wO g S1 t) (mB g)) args s rm_X5_freeShare.cells rm_X5_freeShare.slots (mB g)) (F0 m 15 ls [])) : ∀ (S : mmS) (x0 : Nat) (x1 : Int32) (x2 : Int32) (x3 : Int32), bk_X5_freeShare_15 g.2.2.2.2.2 Q X K15 S x0 x1 x2 x3 → ∀ (H : Heap) (locs : List Loc), mH g S s H locs → ∀ ls : Array Slot, lv_has ls 4 [(0, .ref x0), (1, .int x1), (2, .int x2), (3, .int x3)] → W p l e rm_X5_freeShare s m args below meth c H locs 0 0 (vx_MQ below (va_Qd Q (wO g) (mB g)) (vx_X (fun _ : mmS => True) (fun E S1 t => X E S1 ∧ wO g S1 t) (mB g)) args s rm_X5_freeShare.cells rm_X5_freeShare.slots (mB g)) (F0 m 15 ls []) := by
  intro S x0 x1 x2 x3 hw H locs hH ls hl
  unfold bk_X5_freeShare_15 at hw
  refine lv_iload_n hC.1 hC.2.1 dX5_freeShare_15 rfl (lv_at hl 3 rfl) ?_
  refine lv_aload_n hC.1 hC.2.1 dX5_freeShare_16 rfl (lv_at hl 0 rfl) ?_
  obtain ⟨k1, hw⟩ := hw
  refine m_getI hC hs hH cs5 fs5_8 (fun _ h => List.mem_cons_of_mem _ (inlX5 _ h)) (List.mem_cons_of_mem _ q_440) (fun _ h => h) k1 dX5_freeShare_17 ?_
  refine lv_icmp_ge (tgt := 47) hC.1 hC.2.1 dX5_freeShare_20 (by decide) (fun hc => ?_) (fun hc => ?_)
  · have hw := hw.1 hc
    refine lv_iload_n hC.1 hC.2.1 dX5_freeShare_47 rfl (lv_at hl 1 rfl) ?_
    refine lv_if_ne (tgt := 55) hC.1 hC.2.1 dX5_freeShare_48 (by decide) (fun hc => ?_) (fun hc => ?_)
    · have hw := hw.1 hc
      refine lv_iload_n hC.1 hC.2.1 dX5_freeShare_55 rfl (lv_at hl 2 rfl) ?_
      refine lv_i2d hC.1 hC.2.1 dX5_freeShare_56 ?_
      refine lv_iload_n hC.1 hC.2.1 dX5_freeShare_57 rfl (lv_at hl 1 rfl) ?_
      refine lv_i2d hC.1 hC.2.1 dX5_freeShare_58 ?_
      obtain ⟨z2, hw⟩ := hw
      refine lv_ddiv hC.1 hC.2.1 dX5_freeShare_59 z2 ?_
      exact m_retd hC hH hrt hlk (Nat.le_of_ble_eq_true rfl) (Nat.le_of_ble_eq_true rfl) dX5_freeShare_60 hw
    · have hw := hw.2 hc
      refine lv_dconst0 hC.1 hC.2.1 dX5_freeShare_51 ?_
      refine lv_goto (tgt := 60) hC.1 hC.2.1 dX5_freeShare_52 (by decide) ?_
      exact m_retd hC hH hrt hlk (Nat.le_of_ble_eq_true rfl) (Nat.le_of_ble_eq_true rfl) dX5_freeShare_60 hw
  · have hw := hw.2 hc
    refine lv_iload_n hC.1 hC.2.1 dX5_freeShare_23 rfl (lv_at hl 1 rfl) ?_
    refine lv_aload_n hC.1 hC.2.1 dX5_freeShare_24 rfl (lv_at hl 0 rfl) ?_
    obtain ⟨b3, r4, hw⟩ := hw
    refine m_getR hC hs hH cs5 fs5_13 (fun _ h => List.mem_cons_of_mem _ (inlX5 _ h)) (List.mem_cons_of_mem _ q_51) (fun _ h => h) k1 r4 dX5_freeShare_25 ?_
    refine lv_iload_n hC.1 hC.2.1 dX5_freeShare_28 rfl (lv_at hl 3 rfl) ?_
    obtain ⟨k5, hw⟩ := hw
    obtain ⟨i6, hw⟩ := hw
    refine m_iald hC hs hH k5 i6 dX5_freeShare_29 ?_
    refine lv_iadd hC.1 hC.2.1 dX5_freeShare_30 ?_
    have hw := hw _ rfl
    refine lv_istore_n (lv' := [(1, .int _), (0, .ref _), (2, .int _), (3, .int _)]) hC.1 hC.2.1 dX5_freeShare_31 rfl hl (by decide) rfl (fun ls hl => ?_)
    refine lv_iload_n hC.1 hC.2.1 dX5_freeShare_32 rfl (lv_at hl 2 rfl) ?_
    refine lv_aload_n hC.1 hC.2.1 dX5_freeShare_33 rfl (lv_at hl 1 rfl) ?_
    obtain ⟨b8, r9, hw⟩ := hw
    refine m_getR hC hs hH cs5 fs5_14 (fun _ h => List.mem_cons_of_mem _ (inlX5 _ h)) (List.mem_cons_of_mem _ q_52) (fun _ h => h) k1 r9 dX5_freeShare_34 ?_
    refine lv_iload_n hC.1 hC.2.1 dX5_freeShare_37 rfl (lv_at hl 3 rfl) ?_
    obtain ⟨k10, hw⟩ := hw
    obtain ⟨i11, hw⟩ := hw
    refine m_iald hC hs hH k10 i11 dX5_freeShare_38 ?_
    refine lv_iadd hC.1 hC.2.1 dX5_freeShare_39 ?_
    have hw := hw _ rfl
    refine lv_istore_n (lv' := [(2, .int _), (1, .int _), (0, .ref _), (3, .int _)]) hC.1 hC.2.1 dX5_freeShare_40 rfl hl (by decide) rfl (fun ls hl => ?_)
    have hw := hw _ rfl
    refine lv_iinc (lv' := [(3, .int _), (2, .int _), (1, .int _), (0, .ref _)]) hC.1 hC.2.1 dX5_freeShare_41 hl (k := 3) rfl (rfl : (_ : Int32) + Int32.ofInt 1 = (_ : Int32) + 1) (by decide) rfl (fun ls hl => ?_)
    refine lv_goto (tgt := 15) hC.1 hC.2.1 dX5_freeShare_44 (by decide) ?_
    exact hk15 _ _ _ _ _ hw _ _ hH _ (lv_sub hl [3, 2, 1, 0] rfl)
theorem lw_X5_freeShare_15 {p : Program} {l : Launch} {e : Env} {s : State} {m : MethodId} {args : Array Value} {below : List Frame} {meth : Method} {c : Code} {g : mG} {Q : UInt64 → mmS → Prop} {X : String → mmS → Prop} (hl0 : l.stackTraces = false) (hC : CallFix p m c cX5_freeShare 4 s args (wA_ yX5_freeShare cX5_freeShare 4 (some .double)) RX5) (hrt : meth.sig.returnType = (some .double)) (hlk : meth.locks = false) (hmn : meth.name = yX5_freeShare.name) (hnx : ∀ x ∈ c.exceptionTable.toList, False) (hs : mX g s) : ∀ (n : Nat) (S : mmS) (x0 : Nat) (x1 : Int32) (x2 : Int32) (x3 : Int32), lp_X5_freeShare_15 g.2.2.2.2.2 Q X n S x0 x1 x2 x3 → ∀ (H : Heap) (locs : List Loc), mH g S s H locs → ∀ ls : Array Slot, lv_has ls 4 [(0, .ref x0), (1, .int x1), (2, .int x2), (3, .int x3)] → W p l e rm_X5_freeShare s m args below meth c H locs 0 0 (vx_MQ below (va_Qd Q (wO g) (mB g)) (vx_X (fun _ : mmS => True) (fun E S1 t => X E S1 ∧ wO g S1 t) (mB g)) args s rm_X5_freeShare.cells rm_X5_freeShare.slots (mB g)) (F0 m 15 ls []) := by
  intro n
  induction n with
  | zero => intro S x0 x1 x2 x3 hw; exact False.elim hw
  | succ n ih => exact fun S x0 x1 x2 x3 hw => bw_X5_freeShare_15 hl0 hC hrt hlk hmn hnx hs (K15 := lp_X5_freeShare_15 g.2.2.2.2.2 Q X n) ih S x0 x1 x2 x3 hw
set_option maxHeartbeats 4000000 in
set_option maxRecDepth 100000 in
theorem met_X5_freeShare (l : Launch) (hl0 : l.stackTraces = false) (g : mG) (S : mmS) (p0 : Nat) (Q : UInt64 → mmS → Prop) (X : String → mmS → Prop) (hw : wp_X5_freeShare g.2.2.2.2.2 S p0 Q X) : mMd l g yX5_freeShare (wA_ yX5_freeShare cX5_freeShare 4 (some .double)) rm_X5_freeShare [.ref p0] S Q X := by
  refine m_of (y := yX5_freeShare) (cc := cX5_freeShare) (maxL := 4) (ret := (some .double)) (by decide) rfl (Nat.le_of_ble_eq_true rfl) ?_
  intro p e s m args below meth c ls hC hrt hlk hmn hnx hs hH hl
  have hC : CallFix p m c cX5_freeShare 4 s args (wA_ yX5_freeShare cX5_freeShare 4 (some .double)) RX5 := hC
  have hl : lv_has ls 4 [(0, .ref p0)] := hl
  unfold wp_X5_freeShare at hw
  refine lv_aload_n hC.1 hC.2.1 dX5_freeShare_0 rfl (lv_at hl 0 rfl) ?_
  refine lv_iconst (v := 0) hC.1 hC.2.1 dX5_freeShare_1 (by decide) ?_
  obtain ⟨k1, hw⟩ := hw
  have hw := hw _ rfl
  refine m_putI hC hs hH cs5 fs5_0 (fun _ h => List.mem_cons_of_mem _ (inlX5 _ h)) (List.mem_cons_of_mem _ q_153) (fun _ h => h) (Or.inl rfl) rfl k1 dX5_freeShare_2 (fun H locs hH => ?_)
  refine lv_aload_n hC.1 hC.2.1 dX5_freeShare_5 rfl (lv_at hl 0 rfl) ?_
  refine m_callVv (y := yX5_rateAll) (rest := []) hC hs hH hl.1 (cwV 0 hC.2.2.2.2 (gA_V q_513 q_514 q_515 q_5 q_516) rfl rfl rfl (by decide +kernel) ⟨Nat.le_of_ble_eq_true rfl, Nat.le_of_ble_eq_true rfl⟩) cs5 k1 (met_X5_rateAll l hl0 g _ _ _ _ hw) rfl rfl (Nat.le_of_ble_eq_true rfl) dX5_freeShare_6 ⟨Nat.le_of_ble_eq_true rfl, Nat.le_of_ble_eq_true rfl⟩ (m_out (fun x hx => (hnx x hx).elim) hlk (Nat.le_of_ble_eq_true rfl) (Nat.le_of_ble_eq_true rfl)) (fun S1 H locs hw hH => ?_)
  refine W.widen (k := 0) (n := 0) (Nat.le_of_ble_eq_true rfl) (Nat.le_of_ble_eq_true rfl) ?_
  refine lv_iconst (v := 0) hC.1 hC.2.1 dX5_freeShare_9 (by decide) ?_
  have hw := hw _ rfl
  refine lv_istore_n (lv' := [(1, .int _), (0, .ref _)]) hC.1 hC.2.1 dX5_freeShare_10 rfl hl (by decide) rfl (fun ls hl => ?_)
  refine lv_iconst (v := 0) hC.1 hC.2.1 dX5_freeShare_11 (by decide) ?_
  have hw := hw _ rfl
  refine lv_istore_n (lv' := [(2, .int _), (1, .int _), (0, .ref _)]) hC.1 hC.2.1 dX5_freeShare_12 rfl hl (by decide) rfl (fun ls hl => ?_)
  refine lv_iconst (v := 0) hC.1 hC.2.1 dX5_freeShare_13 (by decide) ?_
  have hw := hw _ rfl
  refine lv_istore_n (lv' := [(3, .int _), (2, .int _), (1, .int _), (0, .ref _)]) hC.1 hC.2.1 dX5_freeShare_14 rfl hl (by decide) rfl (fun ls hl => ?_)
  obtain ⟨n, hw⟩ := hw
  exact lw_X5_freeShare_15 hl0 hC hrt hlk hmn hnx hs n _ _ _ _ _ hw _ _ hH _ (lv_sub hl [3, 2, 1, 0] rfl)
abbrev rm_X5_digest : Room := { frames := 5, cells := 0, slots := 0, locals := 102 }
def bk_X5_digest_205 (z : Nat × Nat) (Q : Int64 → mmS → Prop) (X : String → mmS → Prop) (K180 : mmS → Nat → Int64 → Int32 → Prop) (K205 : mmS → Nat → Int64 → Int32 → Int32 → Prop) (S : mmS) (x0 : Nat) (x1 : Int64) (x3 : Int32) (x4 : Int32) : Prop := ((5 : Int32) ≤ x4 → ∀ v1 : Int32, v1 = x3 + 1 → K180 S x0 x1 v1) ∧ (¬ (5 : Int32) ≤ x4 → (x0 ∈ mL S ∧ mK S x0 = 5) ∧ ∃ b3 : Nat, mR S 18 x0 = some b3 ∧ (b3 ∈ mL S ∧ mK S b3 = 7) ∧ vp_in x3 (mN S b3) ∧ wp_X5_toldOf z S x0 (mA S b3 (x3).toNatClampNeg) x4 (fun r8 S7 => ∀ v9 : Int64, v9 = ((x1 * (31 : Int64)) + (Int32.toInt64 r8)) → ∀ v10 : Int32, v10 = x4 + 1 → K205 S7 x0 v9 x3 v10) X)
def lp_X5_digest_205 (z : Nat × Nat) (Q : Int64 → mmS → Prop) (X : String → mmS → Prop) (K180 : mmS → Nat → Int64 → Int32 → Prop) : Nat → mmS → Nat → Int64 → Int32 → Int32 → Prop
  | 0 => fun _ _ _ _ _ => False
  | n + 1 => bk_X5_digest_205 z Q X K180 (lp_X5_digest_205 z Q X K180 n)
def bk_X5_digest_180 (z : Nat × Nat) (Q : Int64 → mmS → Prop) (X : String → mmS → Prop) (K180 : mmS → Nat → Int64 → Int32 → Prop) (S : mmS) (x0 : Nat) (x1 : Int64) (x3 : Int32) : Prop := (x0 ∈ mL S ∧ mK S x0 = 5) ∧ ((mI S 27 x0) ≤ x3 → Q x1 S) ∧ (¬ (mI S 27 x0) ≤ x3 → ∃ b2 : Nat, mR S 18 x0 = some b2 ∧ (b2 ∈ mL S ∧ mK S b2 = 7) ∧ vp_in x3 (mN S b2) ∧ ∀ v6 : Int64, v6 = ((x1 * (31 : Int64)) + (Int32.toInt64 (mA S b2 (x3).toNatClampNeg))) → ∀ v7 : Int32, v7 = (0 : Int32) → ∃ n : Nat, lp_X5_digest_205 z Q X K180 n S x0 v6 x3 v7)
def lp_X5_digest_180 (z : Nat × Nat) (Q : Int64 → mmS → Prop) (X : String → mmS → Prop) : Nat → mmS → Nat → Int64 → Int32 → Prop
  | 0 => fun _ _ _ _ => False
  | n + 1 => bk_X5_digest_180 z Q X (lp_X5_digest_180 z Q X n)
def bk_X5_digest_114 (z : Nat × Nat) (Q : Int64 → mmS → Prop) (X : String → mmS → Prop) (K114 : mmS → Nat → Int64 → Int32 → Prop) (S : mmS) (x0 : Nat) (x1 : Int64) (x3 : Int32) : Prop := (x0 ∈ mL S ∧ mK S x0 = 5) ∧ ((mI S 25 x0) ≤ x3 → ∀ v2 : Int32, v2 = (0 : Int32) → ∃ n : Nat, lp_X5_digest_180 z Q X n S x0 x1 v2) ∧ (¬ (mI S 25 x0) ≤ x3 → ∃ b3 : Nat, mR S 14 x0 = some b3 ∧ (b3 ∈ mL S ∧ mK S b3 = 7) ∧ vp_in ((3 : Int32) * x3) (mN S b3) ∧ wp_X5_sumOf z S x0 x3 (fun r8 S7 => (x0 ∈ mL S7 ∧ mK S7 x0 = 5) ∧ wp_X5_totalOf z S7 x0 x3 (fun r11 S9 => (x0 ∈ mL S9 ∧ mK S9 x0 = 5) ∧ ∃ b13 : Nat, mR S9 23 x0 = some b13 ∧ (b13 ∈ mL S9 ∧ mK S9 b13 = 7) ∧ vp_in x3 (mN S9 b13) ∧ ∀ v17 : Int64, v17 = ((((((((x1 * (31 : Int64)) + (Int32.toInt64 (mA S b3 ((3 : Int32) * x3).toNatClampNeg))) * (31 : Int64)) + (Int32.toInt64 r8)) * (31 : Int64)) + (Int32.toInt64 r11)) * (31 : Int64)) + (Int32.toInt64 (mA S9 b13 (x3).toNatClampNeg))) → ∀ v18 : Int32, v18 = x3 + 1 → K114 S9 x0 v17 v18) X) X)
def lp_X5_digest_114 (z : Nat × Nat) (Q : Int64 → mmS → Prop) (X : String → mmS → Prop) : Nat → mmS → Nat → Int64 → Int32 → Prop
  | 0 => fun _ _ _ _ => False
  | n + 1 => bk_X5_digest_114 z Q X (lp_X5_digest_114 z Q X n)
def bk_X5_digest_73 (z : Nat × Nat) (Q : Int64 → mmS → Prop) (X : String → mmS → Prop) (K73 : mmS → Nat → Int64 → Int32 → Prop) (S : mmS) (x0 : Nat) (x1 : Int64) (x3 : Int32) : Prop := (x0 ∈ mL S ∧ mK S x0 = 5) ∧ ((mI S 26 x0) ≤ x3 → ∀ v2 : Int32, v2 = (0 : Int32) → ∃ n : Nat, lp_X5_digest_114 z Q X n S x0 x1 v2) ∧ (¬ (mI S 26 x0) ≤ x3 → ∃ b3 : Nat, mR S 16 x0 = some b3 ∧ (b3 ∈ mL S ∧ mK S b3 = 7) ∧ vp_in x3 (mN S b3) ∧ wp_X5_lineSumOf z S x0 x3 (fun r8 S7 => ∀ v9 : Int64, v9 = ((((x1 * (31 : Int64)) + (Int32.toInt64 (mA S b3 (x3).toNatClampNeg))) * (31 : Int64)) + (Int32.toInt64 r8)) → ∀ v10 : Int32, v10 = x3 + 1 → K73 S7 x0 v9 v10) X)
def lp_X5_digest_73 (z : Nat × Nat) (Q : Int64 → mmS → Prop) (X : String → mmS → Prop) : Nat → mmS → Nat → Int64 → Int32 → Prop
  | 0 => fun _ _ _ _ => False
  | n + 1 => bk_X5_digest_73 z Q X (lp_X5_digest_73 z Q X n)
def wp_X5_digest (z : Nat × Nat) (S : mmS) (p0 : Nat) (Q : Int64 → mmS → Prop) (X : String → mmS → Prop) : Prop := (p0 ∈ mL S ∧ mK S p0 = 5) ∧ ∀ S2 : mmS, S2 = sI S 23 p0 (0 : Int32) → wp_X5_rateAll z S2 p0 (fun S3 => (p0 ∈ mL S3 ∧ mK S3 p0 = 5) ∧ ∀ v5 : Int64, v5 = ((((((((5983 : Int64) + (Int32.toInt64 (mI S3 24 p0))) * (31 : Int64)) + (Int32.toInt64 (mI S3 25 p0))) * (31 : Int64)) + (Int32.toInt64 (mI S3 26 p0))) * (31 : Int64)) + (Int32.toInt64 (mI S3 27 p0))) → ∀ v6 : Int64, v6 = ((((v5 * (31 : Int64)) + (Int32.toInt64 (mI S3 28 p0))) * (31 : Int64)) + (Int32.toInt64 (mI S3 29 p0))) → ∀ v7 : Int32, v7 = (0 : Int32) → ∃ n : Nat, lp_X5_digest_73 z Q X n S3 p0 v6 v7) X
set_option maxHeartbeats 4000000 in
set_option maxRecDepth 100000 in
theorem bw_X5_digest_205 {p : Program} {l : Launch} {e : Env} {s : State} {m : MethodId} {args : Array Value} {below : List Frame} {meth : Method} {c : Code} {g : mG} {Q : Int64 → mmS → Prop} {X : String → mmS → Prop} (hl0 : l.stackTraces = false) (hC : CallFix p m c cX5_digest 5 s args (wA_ yX5_digest cX5_digest 5 (some .long)) RX5) (hrt : meth.sig.returnType = (some .long)) (hlk : meth.locks = false) (hmn : meth.name = yX5_digest.name) (hnx : ∀ x ∈ c.exceptionTable.toList, False) (hs : mX g s) {K180 : mmS → Nat → Int64 → Int32 → Prop} {K205 : mmS → Nat → Int64 → Int32 → Int32 → Prop} (hk180 : ∀ (S : mmS) (x0 : Nat) (x1 : Int64) (x3 : Int32), K180 S x0 x1 x3 → ∀ (H : Heap) (locs : List Loc), mH g S s H locs → ∀ ls : Array Slot, lv_has ls 5 [(0, .ref x0), (1, .long x1), (3, .int x3)] → W p l e rm_X5_digest s m args below meth c H locs 0 0 (vx_MQ below (va_Ql Q (wO g) (mB g)) (vx_X (fun _ : mmS => True) (fun E S1 t => X E S1 ∧ wO g S1 t) (mB g)) args s rm_X5_digest.cells rm_X5_digest.slots (mB g)) (F0 m 180 ls [])) (hk205 : ∀ (S : mmS) (x0 : Nat) (x1 : Int64) (x3 : Int32) (x4 : Int32), K205 S x0 x1 x3 x4 → ∀ (H : Heap) (locs : List Loc), mH g S s H locs → ∀ ls : Array Slot, lv_has ls 5 [(0, .ref x0), (1, .long x1), (3, .int x3), (4, .int x4)] → W p l e rm_X5_digest s m args below meth c H locs 0 0 (vx_MQ below (va_Ql Q (wO g) (mB g)) (vx_X (fun _ : mmS => True) (fun E S1 t => X E S1 ∧ wO g S1 t) (mB g)) args s rm_X5_digest.cells rm_X5_digest.slots (mB g)) (F0 m 205 ls [])) : ∀ (S : mmS) (x0 : Nat) (x1 : Int64) (x3 : Int32) (x4 : Int32), bk_X5_digest_205 g.2.2.2.2.2 Q X K180 K205 S x0 x1 x3 x4 → ∀ (H : Heap) (locs : List Loc), mH g S s H locs → ∀ ls : Array Slot, lv_has ls 5 [(0, .ref x0), (1, .long x1), (3, .int x3), (4, .int x4)] → W p l e rm_X5_digest s m args below meth c H locs 0 0 (vx_MQ below (va_Ql Q (wO g) (mB g)) (vx_X (fun _ : mmS => True) (fun E S1 t => X E S1 ∧ wO g S1 t) (mB g)) args s rm_X5_digest.cells rm_X5_digest.slots (mB g)) (F0 m 205 ls []) := by
  intro S x0 x1 x3 x4 hw H locs hH ls hl
  unfold bk_X5_digest_205 at hw
  refine lv_iload hC.1 hC.2.1 dX5_digest_205 (lv_at hl 3 rfl) ?_
  refine lv_iconst (v := 5) hC.1 hC.2.1 dX5_digest_207 (by decide) ?_
  refine lv_icmp_ge (tgt := 237) hC.1 hC.2.1 dX5_digest_208 (by decide) (fun hc => ?_) (fun hc => ?_)
  · have hw := hw.1 hc
    have hw := hw _ rfl
    refine lv_iinc (lv' := [(3, .int _), (0, .ref _), (1, .long _), (4, .int _)]) hC.1 hC.2.1 dX5_digest_237 hl (k := 2) rfl (rfl : (_ : Int32) + Int32.ofInt 1 = (_ : Int32) + 1) (by decide) rfl (fun ls hl => ?_)
    refine lv_goto (tgt := 180) hC.1 hC.2.1 dX5_digest_240 (by decide) ?_
    exact hk180 _ _ _ _ hw _ _ hH _ (lv_sub hl [1, 2, 0] rfl)
  · have hw := hw.2 hc
    refine lv_lload_n hC.1 hC.2.1 dX5_digest_211 rfl (lv_at hl 1 rfl) ?_
    refine lv_ldc2 hC.1 hC.2.1 hC.2.2.2.1 (hC.2.2.2.2 _ (List.mem_cons_of_mem _ q_698)) dX5_digest_212 ?_
    refine lv_lmul hC.1 hC.2.1 dX5_digest_215 ?_
    refine lv_aload_n hC.1 hC.2.1 dX5_digest_216 rfl (lv_at hl 0 rfl) ?_
    refine lv_aload_n hC.1 hC.2.1 dX5_digest_217 rfl (lv_at hl 0 rfl) ?_
    obtain ⟨k2, hw⟩ := hw
    obtain ⟨b3, r4, hw⟩ := hw
    refine m_getR hC hs hH cs5 fs5_12 (fun _ h => List.mem_cons_of_mem _ (inlX5 _ h)) (List.mem_cons_of_mem _ q_50) (fun _ h => h) k2 r4 dX5_digest_218 ?_
    refine lv_iload_n hC.1 hC.2.1 dX5_digest_221 rfl (lv_at hl 2 rfl) ?_
    obtain ⟨k5, hw⟩ := hw
    obtain ⟨i6, hw⟩ := hw
    refine m_iald hC hs hH k5 i6 dX5_digest_222 ?_
    refine lv_iload hC.1 hC.2.1 dX5_digest_223 (lv_at hl 3 rfl) ?_
    refine m_callVi (y := yX5_toldOf) (rest := [.long _]) hC hs hH hl.1 (cwV 2 hC.2.2.2.2 (gA_V q_527 q_528 q_529 q_5 q_530) rfl rfl rfl (by decide +kernel) ⟨Nat.le_of_ble_eq_true rfl, Nat.le_of_ble_eq_true rfl⟩) cs5 k2 (met_X5_toldOf l hl0 g _ _ _ _ _ _ hw) rfl rfl (Nat.le_of_ble_eq_true rfl) dX5_digest_225 ⟨Nat.le_of_ble_eq_true rfl, Nat.le_of_ble_eq_true rfl⟩ (m_out (fun x hx => (hnx x hx).elim) hlk (Nat.le_of_ble_eq_true rfl) (Nat.le_of_ble_eq_true rfl)) (fun r8 S1 H locs hw hH => ?_)
    refine W.widen (k := 0) (n := 0) (Nat.le_of_ble_eq_true rfl) (Nat.le_of_ble_eq_true rfl) ?_
    refine lv_i2l hC.1 hC.2.1 dX5_digest_228 rfl ?_
    refine lv_ladd hC.1 hC.2.1 dX5_digest_229 ?_
    have hw := hw _ rfl
    refine lv_lstore_n (lv' := [(1, .long _), (0, .ref _), (3, .int _), (4, .int _)]) hC.1 hC.2.1 dX5_digest_230 rfl hl (by decide) rfl (fun ls hl => ?_)
    have hw := hw _ rfl
    refine lv_iinc (lv' := [(4, .int _), (1, .long _), (0, .ref _), (3, .int _)]) hC.1 hC.2.1 dX5_digest_231 hl (k := 3) rfl (rfl : (_ : Int32) + Int32.ofInt 1 = (_ : Int32) + 1) (by decide) rfl (fun ls hl => ?_)
    refine lv_goto (tgt := 205) hC.1 hC.2.1 dX5_digest_234 (by decide) ?_
    exact hk205 _ _ _ _ _ hw _ _ hH _ (lv_sub hl [2, 1, 3, 0] rfl)
theorem lw_X5_digest_205 {p : Program} {l : Launch} {e : Env} {s : State} {m : MethodId} {args : Array Value} {below : List Frame} {meth : Method} {c : Code} {g : mG} {Q : Int64 → mmS → Prop} {X : String → mmS → Prop} (hl0 : l.stackTraces = false) (hC : CallFix p m c cX5_digest 5 s args (wA_ yX5_digest cX5_digest 5 (some .long)) RX5) (hrt : meth.sig.returnType = (some .long)) (hlk : meth.locks = false) (hmn : meth.name = yX5_digest.name) (hnx : ∀ x ∈ c.exceptionTable.toList, False) (hs : mX g s) {K180 : mmS → Nat → Int64 → Int32 → Prop} (hk180 : ∀ (S : mmS) (x0 : Nat) (x1 : Int64) (x3 : Int32), K180 S x0 x1 x3 → ∀ (H : Heap) (locs : List Loc), mH g S s H locs → ∀ ls : Array Slot, lv_has ls 5 [(0, .ref x0), (1, .long x1), (3, .int x3)] → W p l e rm_X5_digest s m args below meth c H locs 0 0 (vx_MQ below (va_Ql Q (wO g) (mB g)) (vx_X (fun _ : mmS => True) (fun E S1 t => X E S1 ∧ wO g S1 t) (mB g)) args s rm_X5_digest.cells rm_X5_digest.slots (mB g)) (F0 m 180 ls [])) : ∀ (n : Nat) (S : mmS) (x0 : Nat) (x1 : Int64) (x3 : Int32) (x4 : Int32), lp_X5_digest_205 g.2.2.2.2.2 Q X K180 n S x0 x1 x3 x4 → ∀ (H : Heap) (locs : List Loc), mH g S s H locs → ∀ ls : Array Slot, lv_has ls 5 [(0, .ref x0), (1, .long x1), (3, .int x3), (4, .int x4)] → W p l e rm_X5_digest s m args below meth c H locs 0 0 (vx_MQ below (va_Ql Q (wO g) (mB g)) (vx_X (fun _ : mmS => True) (fun E S1 t => X E S1 ∧ wO g S1 t) (mB g)) args s rm_X5_digest.cells rm_X5_digest.slots (mB g)) (F0 m 205 ls []) := by
  intro n
  induction n with
  | zero => intro S x0 x1 x3 x4 hw; exact False.elim hw
  | succ n ih => exact fun S x0 x1 x3 x4 hw => bw_X5_digest_205 hl0 hC hrt hlk hmn hnx hs (K180 := K180) (K205 := lp_X5_digest_205 g.2.2.2.2.2 Q X K180 n) hk180 ih S x0 x1 x3 x4 hw
set_option maxHeartbeats 4000000 in
set_option maxRecDepth 100000 in
theorem bw_X5_digest_180 {p : Program} {l : Launch} {e : Env} {s : State} {m : MethodId} {args : Array Value} {below : List Frame} {meth : Method} {c : Code} {g : mG} {Q : Int64 → mmS → Prop} {X : String → mmS → Prop} (hl0 : l.stackTraces = false) (hC : CallFix p m c cX5_digest 5 s args (wA_ yX5_digest cX5_digest 5 (some .long)) RX5) (hrt : meth.sig.returnType = (some .long)) (hlk : meth.locks = false) (hmn : meth.name = yX5_digest.name) (hnx : ∀ x ∈ c.exceptionTable.toList, False) (hs : mX g s) {K180 : mmS → Nat → Int64 → Int32 → Prop} (hk180 : ∀ (S : mmS) (x0 : Nat) (x1 : Int64) (x3 : Int32), K180 S x0 x1 x3 → ∀ (H : Heap) (locs : List Loc), mH g S s H locs → ∀ ls : Array Slot, lv_has ls 5 [(0, .ref x0), (1, .long x1), (3, .int x3)] → W p l e rm_X5_digest s m args below meth c H locs 0 0 (vx_MQ below (va_Ql Q (wO g) (mB g)) (vx_X (fun _ : mmS => True) (fun E S1 t => X E S1 ∧ wO g S1 t) (mB g)) args s rm_X5_digest.cells rm_X5_digest.slots (mB g)) (F0 m 180 ls [])) : ∀ (S : mmS) (x0 : Nat) (x1 : Int64) (x3 : Int32), bk_X5_digest_180 g.2.2.2.2.2 Q X K180 S x0 x1 x3 → ∀ (H : Heap) (locs : List Loc), mH g S s H locs → ∀ ls : Array Slot, lv_has ls 5 [(0, .ref x0), (1, .long x1), (3, .int x3)] → W p l e rm_X5_digest s m args below meth c H locs 0 0 (vx_MQ below (va_Ql Q (wO g) (mB g)) (vx_X (fun _ : mmS => True) (fun E S1 t => X E S1 ∧ wO g S1 t) (mB g)) args s rm_X5_digest.cells rm_X5_digest.slots (mB g)) (F0 m 180 ls []) := by
  intro S x0 x1 x3 hw H locs hH ls hl
  unfold bk_X5_digest_180 at hw
  refine lv_iload_n hC.1 hC.2.1 dX5_digest_180 rfl (lv_at hl 2 rfl) ?_
  refine lv_aload_n hC.1 hC.2.1 dX5_digest_181 rfl (lv_at hl 0 rfl) ?_
  obtain ⟨k1, hw⟩ := hw
  refine m_getI hC hs hH cs5 fs5_8 (fun _ h => List.mem_cons_of_mem _ (inlX5 _ h)) (List.mem_cons_of_mem _ q_440) (fun _ h => h) k1 dX5_digest_182 ?_
  refine lv_icmp_ge (tgt := 243) hC.1 hC.2.1 dX5_digest_185 (by decide) (fun hc => ?_) (fun hc => ?_)
  · have hw := hw.1 hc
    refine lv_lload_n hC.1 hC.2.1 dX5_digest_243 rfl (lv_at hl 1 rfl) ?_
    exact m_retl hC hH hrt hlk (Nat.le_of_ble_eq_true rfl) (Nat.le_of_ble_eq_true rfl) dX5_digest_244 hw
  · have hw := hw.2 hc
    refine lv_lload_n hC.1 hC.2.1 dX5_digest_188 rfl (lv_at hl 1 rfl) ?_
    refine lv_ldc2 hC.1 hC.2.1 hC.2.2.2.1 (hC.2.2.2.2 _ (List.mem_cons_of_mem _ q_698)) dX5_digest_189 ?_
    refine lv_lmul hC.1 hC.2.1 dX5_digest_192 ?_
    refine lv_aload_n hC.1 hC.2.1 dX5_digest_193 rfl (lv_at hl 0 rfl) ?_
    obtain ⟨b2, r3, hw⟩ := hw
    refine m_getR hC hs hH cs5 fs5_12 (fun _ h => List.mem_cons_of_mem _ (inlX5 _ h)) (List.mem_cons_of_mem _ q_50) (fun _ h => h) k1 r3 dX5_digest_194 ?_
    refine lv_iload_n hC.1 hC.2.1 dX5_digest_197 rfl (lv_at hl 2 rfl) ?_
    obtain ⟨k4, hw⟩ := hw
    obtain ⟨i5, hw⟩ := hw
    refine m_iald hC hs hH k4 i5 dX5_digest_198 ?_
    refine lv_i2l hC.1 hC.2.1 dX5_digest_199 rfl ?_
    refine lv_ladd hC.1 hC.2.1 dX5_digest_200 ?_
    have hw := hw _ rfl
    refine lv_lstore_n (lv' := [(1, .long _), (0, .ref _), (3, .int _)]) hC.1 hC.2.1 dX5_digest_201 rfl hl (by decide) rfl (fun ls hl => ?_)
    refine lv_iconst (v := 0) hC.1 hC.2.1 dX5_digest_202 (by decide) ?_
    have hw := hw _ rfl
    refine lv_istore (lv' := [(4, .int _), (1, .long _), (0, .ref _), (3, .int _)]) hC.1 hC.2.1 dX5_digest_203 hl (by decide) rfl (fun ls hl => ?_)
    obtain ⟨n, hw⟩ := hw
    exact lw_X5_digest_205 hl0 hC hrt hlk hmn hnx hs hk180 n _ _ _ _ _ hw _ _ hH _ (lv_sub hl [2, 1, 3, 0] rfl)
theorem lw_X5_digest_180 {p : Program} {l : Launch} {e : Env} {s : State} {m : MethodId} {args : Array Value} {below : List Frame} {meth : Method} {c : Code} {g : mG} {Q : Int64 → mmS → Prop} {X : String → mmS → Prop} (hl0 : l.stackTraces = false) (hC : CallFix p m c cX5_digest 5 s args (wA_ yX5_digest cX5_digest 5 (some .long)) RX5) (hrt : meth.sig.returnType = (some .long)) (hlk : meth.locks = false) (hmn : meth.name = yX5_digest.name) (hnx : ∀ x ∈ c.exceptionTable.toList, False) (hs : mX g s) : ∀ (n : Nat) (S : mmS) (x0 : Nat) (x1 : Int64) (x3 : Int32), lp_X5_digest_180 g.2.2.2.2.2 Q X n S x0 x1 x3 → ∀ (H : Heap) (locs : List Loc), mH g S s H locs → ∀ ls : Array Slot, lv_has ls 5 [(0, .ref x0), (1, .long x1), (3, .int x3)] → W p l e rm_X5_digest s m args below meth c H locs 0 0 (vx_MQ below (va_Ql Q (wO g) (mB g)) (vx_X (fun _ : mmS => True) (fun E S1 t => X E S1 ∧ wO g S1 t) (mB g)) args s rm_X5_digest.cells rm_X5_digest.slots (mB g)) (F0 m 180 ls []) := by
  intro n
  induction n with
  | zero => intro S x0 x1 x3 hw; exact False.elim hw
  | succ n ih => exact fun S x0 x1 x3 hw => bw_X5_digest_180 hl0 hC hrt hlk hmn hnx hs (K180 := lp_X5_digest_180 g.2.2.2.2.2 Q X n) ih S x0 x1 x3 hw
set_option maxHeartbeats 4000000 in
set_option maxRecDepth 100000 in
theorem bw_X5_digest_114 {p : Program} {l : Launch} {e : Env} {s : State} {m : MethodId} {args : Array Value} {below : List Frame} {meth : Method} {c : Code} {g : mG} {Q : Int64 → mmS → Prop} {X : String → mmS → Prop} (hl0 : l.stackTraces = false) (hC : CallFix p m c cX5_digest 5 s args (wA_ yX5_digest cX5_digest 5 (some .long)) RX5) (hrt : meth.sig.returnType = (some .long)) (hlk : meth.locks = false) (hmn : meth.name = yX5_digest.name) (hnx : ∀ x ∈ c.exceptionTable.toList, False) (hs : mX g s) {K114 : mmS → Nat → Int64 → Int32 → Prop} (hk114 : ∀ (S : mmS) (x0 : Nat) (x1 : Int64) (x3 : Int32), K114 S x0 x1 x3 → ∀ (H : Heap) (locs : List Loc), mH g S s H locs → ∀ ls : Array Slot, lv_has ls 5 [(0, .ref x0), (1, .long x1), (3, .int x3)] → W p l e rm_X5_digest s m args below meth c H locs 0 0 (vx_MQ below (va_Ql Q (wO g) (mB g)) (vx_X (fun _ : mmS => True) (fun E S1 t => X E S1 ∧ wO g S1 t) (mB g)) args s rm_X5_digest.cells rm_X5_digest.slots (mB g)) (F0 m 114 ls [])) : ∀ (S : mmS) (x0 : Nat) (x1 : Int64) (x3 : Int32), bk_X5_digest_114 g.2.2.2.2.2 Q X K114 S x0 x1 x3 → ∀ (H : Heap) (locs : List Loc), mH g S s H locs → ∀ ls : Array Slot, lv_has ls 5 [(0, .ref x0), (1, .long x1), (3, .int x3)] → W p l e rm_X5_digest s m args below meth c H locs 0 0 (vx_MQ below (va_Ql Q (wO g) (mB g)) (vx_X (fun _ : mmS => True) (fun E S1 t => X E S1 ∧ wO g S1 t) (mB g)) args s rm_X5_digest.cells rm_X5_digest.slots (mB g)) (F0 m 114 ls []) := by
  intro S x0 x1 x3 hw H locs hH ls hl
  unfold bk_X5_digest_114 at hw
  refine lv_iload_n hC.1 hC.2.1 dX5_digest_114 rfl (lv_at hl 2 rfl) ?_
  refine lv_aload_n hC.1 hC.2.1 dX5_digest_115 rfl (lv_at hl 0 rfl) ?_
  obtain ⟨k1, hw⟩ := hw
  refine m_getI hC hs hH cs5 fs5_3 (fun _ h => List.mem_cons_of_mem _ (inlX5 _ h)) (List.mem_cons_of_mem _ q_339) (fun _ h => h) k1 dX5_digest_116 ?_
  refine lv_icmp_ge (tgt := 178) hC.1 hC.2.1 dX5_digest_119 (by decide) (fun hc => ?_) (fun hc => ?_)
  · have hw := hw.1 hc
    refine lv_iconst (v := 0) hC.1 hC.2.1 dX5_digest_178 (by decide) ?_
    have hw := hw _ rfl
    refine lv_istore_n (lv' := [(3, .int _), (0, .ref _), (1, .long _)]) hC.1 hC.2.1 dX5_digest_179 rfl hl (by decide) rfl (fun ls hl => ?_)
    obtain ⟨n, hw⟩ := hw
    exact lw_X5_digest_180 hl0 hC hrt hlk hmn hnx hs n _ _ _ _ hw _ _ hH _ (lv_sub hl [1, 2, 0] rfl)
  · have hw := hw.2 hc
    refine lv_lload_n hC.1 hC.2.1 dX5_digest_122 rfl (lv_at hl 1 rfl) ?_
    refine lv_ldc2 hC.1 hC.2.1 hC.2.2.2.1 (hC.2.2.2.2 _ (List.mem_cons_of_mem _ q_698)) dX5_digest_123 ?_
    refine lv_lmul hC.1 hC.2.1 dX5_digest_126 ?_
    refine lv_aload_n hC.1 hC.2.1 dX5_digest_127 rfl (lv_at hl 0 rfl) ?_
    obtain ⟨b3, r4, hw⟩ := hw
    refine m_getR hC hs hH cs5 fs5_4 (fun _ h => List.mem_cons_of_mem _ (inlX5 _ h)) (List.mem_cons_of_mem _ q_44) (fun _ h => h) k1 r4 dX5_digest_128 ?_
    refine lv_iconst (v := 3) hC.1 hC.2.1 dX5_digest_131 (by decide) ?_
    refine lv_iload_n hC.1 hC.2.1 dX5_digest_132 rfl (lv_at hl 2 rfl) ?_
    refine lv_imul hC.1 hC.2.1 dX5_digest_133 ?_
    obtain ⟨k5, hw⟩ := hw
    obtain ⟨i6, hw⟩ := hw
    refine m_iald hC hs hH k5 i6 dX5_digest_134 ?_
    refine lv_i2l hC.1 hC.2.1 dX5_digest_135 rfl ?_
    refine lv_ladd hC.1 hC.2.1 dX5_digest_136 ?_
    refine lv_ldc2 hC.1 hC.2.1 hC.2.2.2.1 (hC.2.2.2.2 _ (List.mem_cons_of_mem _ q_698)) dX5_digest_137 ?_
    refine lv_lmul hC.1 hC.2.1 dX5_digest_140 ?_
    refine lv_aload_n hC.1 hC.2.1 dX5_digest_141 rfl (lv_at hl 0 rfl) ?_
    refine lv_iload_n hC.1 hC.2.1 dX5_digest_142 rfl (lv_at hl 2 rfl) ?_
    refine m_callVi (y := yX5_sumOf) (rest := [.long _]) hC hs hH hl.1 (cwV 1 hC.2.2.2.2 (gA_V q_576 q_577 q_578 q_5 q_579) rfl rfl rfl (by decide +kernel) ⟨Nat.le_of_ble_eq_true rfl, Nat.le_of_ble_eq_true rfl⟩) cs5 k1 (met_X5_sumOf l hl0 g _ _ _ _ _ hw) rfl rfl (Nat.le_of_ble_eq_true rfl) dX5_digest_143 ⟨Nat.le_of_ble_eq_true rfl, Nat.le_of_ble_eq_true rfl⟩ (m_out (fun x hx => (hnx x hx).elim) hlk (Nat.le_of_ble_eq_true rfl) (Nat.le_of_ble_eq_true rfl)) (fun r8 S1 H locs hw hH => ?_)
    refine W.widen (k := 0) (n := 0) (Nat.le_of_ble_eq_true rfl) (Nat.le_of_ble_eq_true rfl) ?_
    refine lv_i2l hC.1 hC.2.1 dX5_digest_146 rfl ?_
    refine lv_ladd hC.1 hC.2.1 dX5_digest_147 ?_
    refine lv_ldc2 hC.1 hC.2.1 hC.2.2.2.1 (hC.2.2.2.2 _ (List.mem_cons_of_mem _ q_698)) dX5_digest_148 ?_
    refine lv_lmul hC.1 hC.2.1 dX5_digest_151 ?_
    refine lv_aload_n hC.1 hC.2.1 dX5_digest_152 rfl (lv_at hl 0 rfl) ?_
    refine lv_iload_n hC.1 hC.2.1 dX5_digest_153 rfl (lv_at hl 2 rfl) ?_
    obtain ⟨k10, hw⟩ := hw
    refine m_callVi (y := yX5_totalOf) (rest := [.long _]) hC hs hH hl.1 (cwV 1 hC.2.2.2.2 (gA_V q_597 q_598 q_599 q_5 q_600) rfl rfl rfl (by decide +kernel) ⟨Nat.le_of_ble_eq_true rfl, Nat.le_of_ble_eq_true rfl⟩) cs5 k10 (met_X5_totalOf l hl0 g _ _ _ _ _ hw) rfl rfl (Nat.le_of_ble_eq_true rfl) dX5_digest_154 ⟨Nat.le_of_ble_eq_true rfl, Nat.le_of_ble_eq_true rfl⟩ (m_out (fun x hx => (hnx x hx).elim) hlk (Nat.le_of_ble_eq_true rfl) (Nat.le_of_ble_eq_true rfl)) (fun r11 S1 H locs hw hH => ?_)
    refine W.widen (k := 0) (n := 0) (Nat.le_of_ble_eq_true rfl) (Nat.le_of_ble_eq_true rfl) ?_
    refine lv_i2l hC.1 hC.2.1 dX5_digest_157 rfl ?_
    refine lv_ladd hC.1 hC.2.1 dX5_digest_158 ?_
    refine lv_ldc2 hC.1 hC.2.1 hC.2.2.2.1 (hC.2.2.2.2 _ (List.mem_cons_of_mem _ q_698)) dX5_digest_159 ?_
    refine lv_lmul hC.1 hC.2.1 dX5_digest_162 ?_
    refine lv_aload_n hC.1 hC.2.1 dX5_digest_163 rfl (lv_at hl 0 rfl) ?_
    obtain ⟨k12, hw⟩ := hw
    obtain ⟨b13, r14, hw⟩ := hw
    refine m_getR hC hs hH cs5 fs5_17 (fun _ h => List.mem_cons_of_mem _ (inlX5 _ h)) (List.mem_cons_of_mem _ q_55) (fun _ h => h) k12 r14 dX5_digest_164 ?_
    refine lv_iload_n hC.1 hC.2.1 dX5_digest_167 rfl (lv_at hl 2 rfl) ?_
    obtain ⟨k15, hw⟩ := hw
    obtain ⟨i16, hw⟩ := hw
    refine m_iald hC hs hH k15 i16 dX5_digest_168 ?_
    refine lv_i2l hC.1 hC.2.1 dX5_digest_169 rfl ?_
    refine lv_ladd hC.1 hC.2.1 dX5_digest_170 ?_
    have hw := hw _ rfl
    refine lv_lstore_n (lv' := [(1, .long _), (0, .ref _), (3, .int _)]) hC.1 hC.2.1 dX5_digest_171 rfl hl (by decide) rfl (fun ls hl => ?_)
    have hw := hw _ rfl
    refine lv_iinc (lv' := [(3, .int _), (1, .long _), (0, .ref _)]) hC.1 hC.2.1 dX5_digest_172 hl (k := 2) rfl (rfl : (_ : Int32) + Int32.ofInt 1 = (_ : Int32) + 1) (by decide) rfl (fun ls hl => ?_)
    refine lv_goto (tgt := 114) hC.1 hC.2.1 dX5_digest_175 (by decide) ?_
    exact hk114 _ _ _ _ hw _ _ hH _ (lv_sub hl [2, 1, 0] rfl)
theorem lw_X5_digest_114 {p : Program} {l : Launch} {e : Env} {s : State} {m : MethodId} {args : Array Value} {below : List Frame} {meth : Method} {c : Code} {g : mG} {Q : Int64 → mmS → Prop} {X : String → mmS → Prop} (hl0 : l.stackTraces = false) (hC : CallFix p m c cX5_digest 5 s args (wA_ yX5_digest cX5_digest 5 (some .long)) RX5) (hrt : meth.sig.returnType = (some .long)) (hlk : meth.locks = false) (hmn : meth.name = yX5_digest.name) (hnx : ∀ x ∈ c.exceptionTable.toList, False) (hs : mX g s) : ∀ (n : Nat) (S : mmS) (x0 : Nat) (x1 : Int64) (x3 : Int32), lp_X5_digest_114 g.2.2.2.2.2 Q X n S x0 x1 x3 → ∀ (H : Heap) (locs : List Loc), mH g S s H locs → ∀ ls : Array Slot, lv_has ls 5 [(0, .ref x0), (1, .long x1), (3, .int x3)] → W p l e rm_X5_digest s m args below meth c H locs 0 0 (vx_MQ below (va_Ql Q (wO g) (mB g)) (vx_X (fun _ : mmS => True) (fun E S1 t => X E S1 ∧ wO g S1 t) (mB g)) args s rm_X5_digest.cells rm_X5_digest.slots (mB g)) (F0 m 114 ls []) := by
  intro n
  induction n with
  | zero => intro S x0 x1 x3 hw; exact False.elim hw
  | succ n ih => exact fun S x0 x1 x3 hw => bw_X5_digest_114 hl0 hC hrt hlk hmn hnx hs (K114 := lp_X5_digest_114 g.2.2.2.2.2 Q X n) ih S x0 x1 x3 hw
set_option maxHeartbeats 4000000 in
set_option maxRecDepth 100000 in
theorem bw_X5_digest_73 {p : Program} {l : Launch} {e : Env} {s : State} {m : MethodId} {args : Array Value} {below : List Frame} {meth : Method} {c : Code} {g : mG} {Q : Int64 → mmS → Prop} {X : String → mmS → Prop} (hl0 : l.stackTraces = false) (hC : CallFix p m c cX5_digest 5 s args (wA_ yX5_digest cX5_digest 5 (some .long)) RX5) (hrt : meth.sig.returnType = (some .long)) (hlk : meth.locks = false) (hmn : meth.name = yX5_digest.name) (hnx : ∀ x ∈ c.exceptionTable.toList, False) (hs : mX g s) {K73 : mmS → Nat → Int64 → Int32 → Prop} (hk73 : ∀ (S : mmS) (x0 : Nat) (x1 : Int64) (x3 : Int32), K73 S x0 x1 x3 → ∀ (H : Heap) (locs : List Loc), mH g S s H locs → ∀ ls : Array Slot, lv_has ls 5 [(0, .ref x0), (1, .long x1), (3, .int x3)] → W p l e rm_X5_digest s m args below meth c H locs 0 0 (vx_MQ below (va_Ql Q (wO g) (mB g)) (vx_X (fun _ : mmS => True) (fun E S1 t => X E S1 ∧ wO g S1 t) (mB g)) args s rm_X5_digest.cells rm_X5_digest.slots (mB g)) (F0 m 73 ls [])) : ∀ (S : mmS) (x0 : Nat) (x1 : Int64) (x3 : Int32), bk_X5_digest_73 g.2.2.2.2.2 Q X K73 S x0 x1 x3 → ∀ (H : Heap) (locs : List Loc), mH g S s H locs → ∀ ls : Array Slot, lv_has ls 5 [(0, .ref x0), (1, .long x1), (3, .int x3)] → W p l e rm_X5_digest s m args below meth c H locs 0 0 (vx_MQ below (va_Ql Q (wO g) (mB g)) (vx_X (fun _ : mmS => True) (fun E S1 t => X E S1 ∧ wO g S1 t) (mB g)) args s rm_X5_digest.cells rm_X5_digest.slots (mB g)) (F0 m 73 ls []) := by
  intro S x0 x1 x3 hw H locs hH ls hl
  unfold bk_X5_digest_73 at hw
  refine lv_iload_n hC.1 hC.2.1 dX5_digest_73 rfl (lv_at hl 2 rfl) ?_
  refine lv_aload_n hC.1 hC.2.1 dX5_digest_74 rfl (lv_at hl 0 rfl) ?_
  obtain ⟨k1, hw⟩ := hw
  refine m_getI hC hs hH cs5 fs5_5 (fun _ h => List.mem_cons_of_mem _ (inlX5 _ h)) (List.mem_cons_of_mem _ q_363) (fun _ h => h) k1 dX5_digest_75 ?_
  refine lv_icmp_ge (tgt := 112) hC.1 hC.2.1 dX5_digest_78 (by decide) (fun hc => ?_) (fun hc => ?_)
  · have hw := hw.1 hc
    refine lv_iconst (v := 0) hC.1 hC.2.1 dX5_digest_112 (by decide) ?_
    have hw := hw _ rfl
    refine lv_istore_n (lv' := [(3, .int _), (0, .ref _), (1, .long _)]) hC.1 hC.2.1 dX5_digest_113 rfl hl (by decide) rfl (fun ls hl => ?_)
    obtain ⟨n, hw⟩ := hw
    exact lw_X5_digest_114 hl0 hC hrt hlk hmn hnx hs n _ _ _ _ hw _ _ hH _ (lv_sub hl [1, 2, 0] rfl)
  · have hw := hw.2 hc
    refine lv_lload_n hC.1 hC.2.1 dX5_digest_81 rfl (lv_at hl 1 rfl) ?_
    refine lv_ldc2 hC.1 hC.2.1 hC.2.2.2.1 (hC.2.2.2.2 _ (List.mem_cons_of_mem _ q_698)) dX5_digest_82 ?_
    refine lv_lmul hC.1 hC.2.1 dX5_digest_85 ?_
    refine lv_aload_n hC.1 hC.2.1 dX5_digest_86 rfl (lv_at hl 0 rfl) ?_
    obtain ⟨b3, r4, hw⟩ := hw
    refine m_getR hC hs hH cs5 fs5_7 (fun _ h => List.mem_cons_of_mem _ (inlX5 _ h)) (List.mem_cons_of_mem _ q_46) (fun _ h => h) k1 r4 dX5_digest_87 ?_
    refine lv_iload_n hC.1 hC.2.1 dX5_digest_90 rfl (lv_at hl 2 rfl) ?_
    obtain ⟨k5, hw⟩ := hw
    obtain ⟨i6, hw⟩ := hw
    refine m_iald hC hs hH k5 i6 dX5_digest_91 ?_
    refine lv_i2l hC.1 hC.2.1 dX5_digest_92 rfl ?_
    refine lv_ladd hC.1 hC.2.1 dX5_digest_93 ?_
    refine lv_ldc2 hC.1 hC.2.1 hC.2.2.2.1 (hC.2.2.2.2 _ (List.mem_cons_of_mem _ q_698)) dX5_digest_94 ?_
    refine lv_lmul hC.1 hC.2.1 dX5_digest_97 ?_
    refine lv_aload_n hC.1 hC.2.1 dX5_digest_98 rfl (lv_at hl 0 rfl) ?_
    refine lv_iload_n hC.1 hC.2.1 dX5_digest_99 rfl (lv_at hl 2 rfl) ?_
    refine m_callVi (y := yX5_lineSumOf) (rest := [.long _]) hC hs hH hl.1 (cwV 1 hC.2.2.2.2 (gA_V q_550 q_551 q_552 q_5 q_553) rfl rfl rfl (by decide +kernel) ⟨Nat.le_of_ble_eq_true rfl, Nat.le_of_ble_eq_true rfl⟩) cs5 k1 (met_X5_lineSumOf l hl0 g _ _ _ _ _ hw) rfl rfl (Nat.le_of_ble_eq_true rfl) dX5_digest_100 ⟨Nat.le_of_ble_eq_true rfl, Nat.le_of_ble_eq_true rfl⟩ (m_out (fun x hx => (hnx x hx).elim) hlk (Nat.le_of_ble_eq_true rfl) (Nat.le_of_ble_eq_true rfl)) (fun r8 S1 H locs hw hH => ?_)
    refine W.widen (k := 0) (n := 0) (Nat.le_of_ble_eq_true rfl) (Nat.le_of_ble_eq_true rfl) ?_
    refine lv_i2l hC.1 hC.2.1 dX5_digest_103 rfl ?_
    refine lv_ladd hC.1 hC.2.1 dX5_digest_104 ?_
    have hw := hw _ rfl
    refine lv_lstore_n (lv' := [(1, .long _), (0, .ref _), (3, .int _)]) hC.1 hC.2.1 dX5_digest_105 rfl hl (by decide) rfl (fun ls hl => ?_)
    have hw := hw _ rfl
    refine lv_iinc (lv' := [(3, .int _), (1, .long _), (0, .ref _)]) hC.1 hC.2.1 dX5_digest_106 hl (k := 2) rfl (rfl : (_ : Int32) + Int32.ofInt 1 = (_ : Int32) + 1) (by decide) rfl (fun ls hl => ?_)
    refine lv_goto (tgt := 73) hC.1 hC.2.1 dX5_digest_109 (by decide) ?_
    exact hk73 _ _ _ _ hw _ _ hH _ (lv_sub hl [2, 1, 0] rfl)
theorem lw_X5_digest_73 {p : Program} {l : Launch} {e : Env} {s : State} {m : MethodId} {args : Array Value} {below : List Frame} {meth : Method} {c : Code} {g : mG} {Q : Int64 → mmS → Prop} {X : String → mmS → Prop} (hl0 : l.stackTraces = false) (hC : CallFix p m c cX5_digest 5 s args (wA_ yX5_digest cX5_digest 5 (some .long)) RX5) (hrt : meth.sig.returnType = (some .long)) (hlk : meth.locks = false) (hmn : meth.name = yX5_digest.name) (hnx : ∀ x ∈ c.exceptionTable.toList, False) (hs : mX g s) : ∀ (n : Nat) (S : mmS) (x0 : Nat) (x1 : Int64) (x3 : Int32), lp_X5_digest_73 g.2.2.2.2.2 Q X n S x0 x1 x3 → ∀ (H : Heap) (locs : List Loc), mH g S s H locs → ∀ ls : Array Slot, lv_has ls 5 [(0, .ref x0), (1, .long x1), (3, .int x3)] → W p l e rm_X5_digest s m args below meth c H locs 0 0 (vx_MQ below (va_Ql Q (wO g) (mB g)) (vx_X (fun _ : mmS => True) (fun E S1 t => X E S1 ∧ wO g S1 t) (mB g)) args s rm_X5_digest.cells rm_X5_digest.slots (mB g)) (F0 m 73 ls []) := by
  intro n
  induction n with
  | zero => intro S x0 x1 x3 hw; exact False.elim hw
  | succ n ih => exact fun S x0 x1 x3 hw => bw_X5_digest_73 hl0 hC hrt hlk hmn hnx hs (K73 := lp_X5_digest_73 g.2.2.2.2.2 Q X n) ih S x0 x1 x3 hw
set_option maxHeartbeats 4000000 in
set_option maxRecDepth 100000 in
theorem met_X5_digest (l : Launch) (hl0 : l.stackTraces = false) (g : mG) (S : mmS) (p0 : Nat) (Q : Int64 → mmS → Prop) (X : String → mmS → Prop) (hw : wp_X5_digest g.2.2.2.2.2 S p0 Q X) : mMl l g yX5_digest (wA_ yX5_digest cX5_digest 5 (some .long)) rm_X5_digest [.ref p0] S Q X := by
  refine m_of (y := yX5_digest) (cc := cX5_digest) (maxL := 5) (ret := (some .long)) (by decide) rfl (Nat.le_of_ble_eq_true rfl) ?_
  intro p e s m args below meth c ls hC hrt hlk hmn hnx hs hH hl
  have hC : CallFix p m c cX5_digest 5 s args (wA_ yX5_digest cX5_digest 5 (some .long)) RX5 := hC
  have hl : lv_has ls 5 [(0, .ref p0)] := hl
  unfold wp_X5_digest at hw
  refine lv_aload_n hC.1 hC.2.1 dX5_digest_0 rfl (lv_at hl 0 rfl) ?_
  refine lv_iconst (v := 0) hC.1 hC.2.1 dX5_digest_1 (by decide) ?_
  obtain ⟨k1, hw⟩ := hw
  have hw := hw _ rfl
  refine m_putI hC hs hH cs5 fs5_0 (fun _ h => List.mem_cons_of_mem _ (inlX5 _ h)) (List.mem_cons_of_mem _ q_153) (fun _ h => h) (Or.inl rfl) rfl k1 dX5_digest_2 (fun H locs hH => ?_)
  refine lv_aload_n hC.1 hC.2.1 dX5_digest_5 rfl (lv_at hl 0 rfl) ?_
  refine m_callVv (y := yX5_rateAll) (rest := []) hC hs hH hl.1 (cwV 0 hC.2.2.2.2 (gA_V q_513 q_514 q_515 q_5 q_516) rfl rfl rfl (by decide +kernel) ⟨Nat.le_of_ble_eq_true rfl, Nat.le_of_ble_eq_true rfl⟩) cs5 k1 (met_X5_rateAll l hl0 g _ _ _ _ hw) rfl rfl (Nat.le_of_ble_eq_true rfl) dX5_digest_6 ⟨Nat.le_of_ble_eq_true rfl, Nat.le_of_ble_eq_true rfl⟩ (m_out (fun x hx => (hnx x hx).elim) hlk (Nat.le_of_ble_eq_true rfl) (Nat.le_of_ble_eq_true rfl)) (fun S1 H locs hw hH => ?_)
  refine W.widen (k := 0) (n := 0) (Nat.le_of_ble_eq_true rfl) (Nat.le_of_ble_eq_true rfl) ?_
  refine lv_ldc2 hC.1 hC.2.1 hC.2.2.2.1 (hC.2.2.2.2 _ (List.mem_cons_of_mem _ q_697)) dX5_digest_9 ?_
  refine lv_aload_n hC.1 hC.2.1 dX5_digest_12 rfl (lv_at hl 0 rfl) ?_
  obtain ⟨k4, hw⟩ := hw
  refine m_getI hC hs hH cs5 fs5_1 (fun _ h => List.mem_cons_of_mem _ (inlX5 _ h)) (List.mem_cons_of_mem _ q_154) (fun _ h => h) k4 dX5_digest_13 ?_
  refine lv_i2l hC.1 hC.2.1 dX5_digest_16 rfl ?_
  refine lv_ladd hC.1 hC.2.1 dX5_digest_17 ?_
  refine lv_ldc2 hC.1 hC.2.1 hC.2.2.2.1 (hC.2.2.2.2 _ (List.mem_cons_of_mem _ q_698)) dX5_digest_18 ?_
  refine lv_lmul hC.1 hC.2.1 dX5_digest_21 ?_
  refine lv_aload_n hC.1 hC.2.1 dX5_digest_22 rfl (lv_at hl 0 rfl) ?_
  refine m_getI hC hs hH cs5 fs5_3 (fun _ h => List.mem_cons_of_mem _ (inlX5 _ h)) (List.mem_cons_of_mem _ q_339) (fun _ h => h) k4 dX5_digest_23 ?_
  refine lv_i2l hC.1 hC.2.1 dX5_digest_26 rfl ?_
  refine lv_ladd hC.1 hC.2.1 dX5_digest_27 ?_
  refine lv_ldc2 hC.1 hC.2.1 hC.2.2.2.1 (hC.2.2.2.2 _ (List.mem_cons_of_mem _ q_698)) dX5_digest_28 ?_
  refine lv_lmul hC.1 hC.2.1 dX5_digest_31 ?_
  refine lv_aload_n hC.1 hC.2.1 dX5_digest_32 rfl (lv_at hl 0 rfl) ?_
  refine m_getI hC hs hH cs5 fs5_5 (fun _ h => List.mem_cons_of_mem _ (inlX5 _ h)) (List.mem_cons_of_mem _ q_363) (fun _ h => h) k4 dX5_digest_33 ?_
  refine lv_i2l hC.1 hC.2.1 dX5_digest_36 rfl ?_
  refine lv_ladd hC.1 hC.2.1 dX5_digest_37 ?_
  refine lv_ldc2 hC.1 hC.2.1 hC.2.2.2.1 (hC.2.2.2.2 _ (List.mem_cons_of_mem _ q_698)) dX5_digest_38 ?_
  refine lv_lmul hC.1 hC.2.1 dX5_digest_41 ?_
  refine lv_aload_n hC.1 hC.2.1 dX5_digest_42 rfl (lv_at hl 0 rfl) ?_
  refine m_getI hC hs hH cs5 fs5_8 (fun _ h => List.mem_cons_of_mem _ (inlX5 _ h)) (List.mem_cons_of_mem _ q_440) (fun _ h => h) k4 dX5_digest_43 ?_
  refine lv_i2l hC.1 hC.2.1 dX5_digest_46 rfl ?_
  refine lv_ladd hC.1 hC.2.1 dX5_digest_47 ?_
  have hw := hw _ rfl
  refine lv_lstore_n (lv' := [(1, .long _), (0, .ref _)]) hC.1 hC.2.1 dX5_digest_48 rfl hl (by decide) rfl (fun ls hl => ?_)
  refine lv_lload_n hC.1 hC.2.1 dX5_digest_49 rfl (lv_at hl 0 rfl) ?_
  refine lv_ldc2 hC.1 hC.2.1 hC.2.2.2.1 (hC.2.2.2.2 _ (List.mem_cons_of_mem _ q_698)) dX5_digest_50 ?_
  refine lv_lmul hC.1 hC.2.1 dX5_digest_53 ?_
  refine lv_aload_n hC.1 hC.2.1 dX5_digest_54 rfl (lv_at hl 1 rfl) ?_
  refine m_getI hC hs hH cs5 fs5_10 (fun _ h => List.mem_cons_of_mem _ (inlX5 _ h)) (List.mem_cons_of_mem _ q_48) (fun _ h => h) k4 dX5_digest_55 ?_
  refine lv_i2l hC.1 hC.2.1 dX5_digest_58 rfl ?_
  refine lv_ladd hC.1 hC.2.1 dX5_digest_59 ?_
  refine lv_ldc2 hC.1 hC.2.1 hC.2.2.2.1 (hC.2.2.2.2 _ (List.mem_cons_of_mem _ q_698)) dX5_digest_60 ?_
  refine lv_lmul hC.1 hC.2.1 dX5_digest_63 ?_
  refine lv_aload_n hC.1 hC.2.1 dX5_digest_64 rfl (lv_at hl 1 rfl) ?_
  refine m_getI hC hs hH cs5 fs5_11 (fun _ h => List.mem_cons_of_mem _ (inlX5 _ h)) (List.mem_cons_of_mem _ q_49) (fun _ h => h) k4 dX5_digest_65 ?_
  refine lv_i2l hC.1 hC.2.1 dX5_digest_68 rfl ?_
  refine lv_ladd hC.1 hC.2.1 dX5_digest_69 ?_
  have hw := hw _ rfl
  refine lv_lstore_n (lv' := [(1, .long _), (0, .ref _)]) hC.1 hC.2.1 dX5_digest_70 rfl hl (by decide) rfl (fun ls hl => ?_)
  refine lv_iconst (v := 0) hC.1 hC.2.1 dX5_digest_71 (by decide) ?_
  have hw := hw _ rfl
  refine lv_istore_n (lv' := [(3, .int _), (1, .long _), (0, .ref _)]) hC.1 hC.2.1 dX5_digest_72 rfl hl (by decide) rfl (fun ls hl => ?_)
  obtain ⟨n, hw⟩ := hw
  exact lw_X5_digest_73 hl0 hC hrt hlk hmn hnx hs n _ _ _ _ hw _ _ hH _ (lv_sub hl [2, 1, 0] rfl)
