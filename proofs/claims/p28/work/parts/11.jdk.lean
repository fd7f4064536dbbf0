/-! 11.jdk: weakest preconditions and walks, laid by wip/p28/gen.py -/
abbrev rm_Jxa1e45_init_da8c8 : Room := { frames := 1, cells := 0, slots := 0, locals := 24 }
def wp_Jxa1e45_init_da8c8 (z : Nat × Nat) (S : mmS) (p0 : Nat) (Q : mmS → Prop) (X : String → mmS → Prop) : Prop := Q S
set_option maxHeartbeats 4000000 in
set_option maxRecDepth 100000 in
theorem met_Jxa1e45_init_da8c8 (l : Launch) (hl0 : l.stackTraces = false) (g : mG) (S : mmS) (p0 : Nat) (Q : mmS → Prop) (X : String → mmS → Prop) (hX0 : ∀ (E : String) (S : mmS), ¬ X E S) (hw : wp_Jxa1e45_init_da8c8 g.2.2.2.2.2 S p0 Q X) : mMv l g yJxa1e45_init_da8c8 (wA_ yJxa1e45_init_da8c8 cJxa1e45_init_da8c8 1 none) rm_Jxa1e45_init_da8c8 [.ref p0] S Q X := by
  refine m_of (y := yJxa1e45_init_da8c8) (cc := cJxa1e45_init_da8c8) (maxL := 1) (ret := none) (by decide) rfl (Nat.le_of_ble_eq_true rfl) ?_
  intro p e s m args below meth c ls hC hrt hlk hmn hnx hs hH hl
  have hC : CallFix p m c cJxa1e45_init_da8c8 1 s args (wA_ yJxa1e45_init_da8c8 cJxa1e45_init_da8c8 1 none) RJxa1e45 := hC
  have hl : lv_has ls 1 [(0, .ref p0)] := hl
  unfold wp_Jxa1e45_init_da8c8 at hw
  refine lv_aload_n hC.1 hC.2.1 dJxa1e45_init_da8c8_0 rfl (lv_at hl 0 rfl) ?_
  refine m_objInit hC hl.1 (List.mem_cons_of_mem _ q_38) (List.mem_cons_of_mem _ q_12) (List.mem_cons_of_mem _ q_13) (Nat.le_of_ble_eq_true rfl) (Nat.le_of_ble_eq_true rfl) dJxa1e45_init_da8c8_1 ?_
  exact m_retv hC hH hrt hlk (Nat.le_of_ble_eq_true rfl) (Nat.le_of_ble_eq_true rfl) dJxa1e45_init_da8c8_4 hw
abbrev rm_Jxc12de_init_da8c8 : Room := { frames := 2, cells := 0, slots := 0, locals := 44 }
def wp_Jxc12de_init_da8c8 (z : Nat × Nat) (S : mmS) (p0 : Nat) (Q : mmS → Prop) (X : String → mmS → Prop) : Prop := wp_Jxa1e45_init_da8c8 z S p0 (fun S1 => (p0 ∈ mL S1 ∧ mK S1 p0 = 6) ∧ ∀ S3 : mmS, S3 = sI S1 30 p0 (0 : Int32) → Q S3) X
set_option maxHeartbeats 4000000 in
set_option maxRecDepth 100000 in
theorem met_Jxc12de_init_da8c8 (l : Launch) (hl0 : l.stackTraces = false) (g : mG) (S : mmS) (p0 : Nat) (Q : mmS → Prop) (X : String → mmS → Prop) (hX0 : ∀ (E : String) (S : mmS), ¬ X E S) (hw : wp_Jxc12de_init_da8c8 g.2.2.2.2.2 S p0 Q X) : mMv l g yJxc12de_init_da8c8 (wA_ yJxc12de_init_da8c8 cJxc12de_init_da8c8 1 none) rm_Jxc12de_init_da8c8 [.ref p0] S Q X := by
  refine m_of (y := yJxc12de_init_da8c8) (cc := cJxc12de_init_da8c8) (maxL := 1) (ret := none) (by decide) rfl (Nat.le_of_ble_eq_true rfl) ?_
  intro p e s m args below meth c ls hC hrt hlk hmn hnx hs hH hl
  have hC : CallFix p m c cJxc12de_init_da8c8 1 s args (wA_ yJxc12de_init_da8c8 cJxc12de_init_da8c8 1 none) RJxc12de := hC
  have hl : lv_has ls 1 [(0, .ref p0)] := hl
  unfold wp_Jxc12de_init_da8c8 at hw
  refine lv_aload_n hC.1 hC.2.1 dJxc12de_init_da8c8_0 rfl (lv_at hl 0 rfl) ?_
  refine m_callIv (y := yJxa1e45_init_da8c8) (rest := []) hC hs hH hl.1 (cwI 0 hC.2.2.2.2 (gA0 q_37) rfl rfl rfl (hC.2.2.2.2 _ (List.mem_cons_of_mem _ q_36)) (hC.2.2.2.2 _ (List.mem_cons_of_mem _ q_34)) (hC.2.2.2.2 _ (List.mem_cons_of_mem _ q_35)) rfl (by decide +kernel) ⟨Nat.le_of_ble_eq_true rfl, Nat.le_of_ble_eq_true rfl⟩) (met_Jxa1e45_init_da8c8 l hl0 g _ _ _ _ hX0 hw) rfl rfl (Nat.le_of_ble_eq_true rfl) dJxc12de_init_da8c8_1 ⟨Nat.le_of_ble_eq_true rfl, Nat.le_of_ble_eq_true rfl⟩ (fun E S1 _ _ _ _ hx => (hX0 E S1 hx).elim) (fun S1 H locs hw hH => ?_)
  refine W.widen (k := 0) (n := 0) (Nat.le_of_ble_eq_true rfl) (Nat.le_of_ble_eq_true rfl) ?_
  refine lv_aload_n hC.1 hC.2.1 dJxc12de_init_da8c8_4 rfl (lv_at hl 0 rfl) ?_
  refine lv_iconst (v := 0) hC.1 hC.2.1 dJxc12de_init_da8c8_5 (by decide) ?_
  obtain ⟨k2, hw⟩ := hw
  have hw := hw _ rfl
  refine m_putI hC hs hH cs6 fs6_0 (fun _ h => List.mem_cons_of_mem _ (inlJx4a65c _ h)) (List.mem_cons_of_mem _ q_33) (fun _ h => h) (Or.inl rfl) rfl k2 dJxc12de_init_da8c8_6 (fun H locs hH => ?_)
  exact m_retv hC hH hrt hlk (Nat.le_of_ble_eq_true rfl) (Nat.le_of_ble_eq_true rfl) dJxc12de_init_da8c8_9 hw
abbrev rm_Jx4a65c_init_da8c8 : Room := { frames := 3, cells := 0, slots := 0, locals := 64 }
def wp_Jx4a65c_init_da8c8 (z : Nat × Nat) (S : mmS) (p0 : Nat) (Q : mmS → Prop) (X : String → mmS → Prop) : Prop := wp_Jxc12de_init_da8c8 z S p0 (fun S1 => (p0 ∈ mL S1 ∧ mK S1 p0 = 6) ∧ ∀ S3 : mmS, S3 = sR S1 25 p0 (some (z.1)) → Q S3) X
set_option maxHeartbeats 4000000 in
set_option maxRecDepth 100000 in
theorem met_Jx4a65c_init_da8c8 (l : Launch) (hl0 : l.stackTraces = false) (g : mG) (S : mmS) (p0 : Nat) (Q : mmS → Prop) (X : String → mmS → Prop) (hX0 : ∀ (E : String) (S : mmS), ¬ X E S) (hw : wp_Jx4a65c_init_da8c8 g.2.2.2.2.2 S p0 Q X) : mMv l g yJx4a65c_init_da8c8 (wA_ yJx4a65c_init_da8c8 cJx4a65c_init_da8c8 1 none) rm_Jx4a65c_init_da8c8 [.ref p0] S Q X := by
  refine m_of (y := yJx4a65c_init_da8c8) (cc := cJx4a65c_init_da8c8) (maxL := 1) (ret := none) (by decide) rfl (Nat.le_of_ble_eq_true rfl) ?_
  intro p e s m args below meth c ls hC hrt hlk hmn hnx hs hH hl
  have hC : CallFix p m c cJx4a65c_init_da8c8 1 s args (wA_ yJx4a65c_init_da8c8 cJx4a65c_init_da8c8 1 none) RJx4a65c := hC
  have hl : lv_has ls 1 [(0, .ref p0)] := hl
  unfold wp_Jx4a65c_init_da8c8 at hw
  refine lv_aload_n hC.1 hC.2.1 dJx4a65c_init_da8c8_0 rfl (lv_at hl 0 rfl) ?_
  refine m_callIv (y := yJxc12de_init_da8c8) (rest := []) hC hs hH hl.1 (cwI 0 hC.2.2.2.2 (gA0 q_32) rfl rfl rfl (hC.2.2.2.2 _ (List.mem_cons_of_mem _ q_31)) (hC.2.2.2.2 _ (List.mem_cons_of_mem _ q_29)) (hC.2.2.2.2 _ (List.mem_cons_of_mem _ q_30)) rfl (by decide +kernel) ⟨Nat.le_of_ble_eq_true rfl, Nat.le_of_ble_eq_true rfl⟩) (met_Jxc12de_init_da8c8 l hl0 g _ _ _ _ hX0 hw) rfl rfl (Nat.le_of_ble_eq_true rfl) dJx4a65c_init_da8c8_1 ⟨Nat.le_of_ble_eq_true rfl, Nat.le_of_ble_eq_true rfl⟩ (fun E S1 _ _ _ _ hx => (hX0 E S1 hx).elim) (fun S1 H locs hw hH => ?_)
  refine W.widen (k := 0) (n := 0) (Nat.le_of_ble_eq_true rfl) (Nat.le_of_ble_eq_true rfl) ?_
  refine lv_aload_n hC.1 hC.2.1 dJx4a65c_init_da8c8_4 rfl (lv_at hl 0 rfl) ?_
  refine m_gets0 hC hs hH (List.mem_cons_of_mem _ q_27) (fun _ h => h) dJx4a65c_init_da8c8_5 ?_
  obtain ⟨k2, hw⟩ := hw
  have hw := hw _ rfl
  refine m_putR hC hs hH cs6 fs6_1 (fun _ h => List.mem_cons_of_mem _ (inlJx4a65c _ h)) (List.mem_cons_of_mem _ q_28) (fun _ h => h) (Or.inl rfl) rfl rfl k2 dJx4a65c_init_da8c8_8 (fun H locs hH => ?_)
  exact m_retv hC hH hrt hlk (Nat.le_of_ble_eq_true rfl) (Nat.le_of_ble_eq_true rfl) dJx4a65c_init_da8c8_11 hw
abbrev rm_Jx4a65c_size_8abf5 : Room := { frames := 1, cells := 0, slots := 0, locals := 0 }
def wp_Jx4a65c_size_8abf5 (z : Nat × Nat) (S : mmS) (p0 : Nat) (Q : Int32 → mmS → Prop) (X : String → mmS → Prop) : Prop := (p0 ∈ mL S ∧ mK S p0 = 6) ∧ Q (mI S 31 p0) S
set_option maxHeartbeats 4000000 in
set_option maxRecDepth 100000 in
theorem met_Jx4a65c_size_8abf5 (l : Launch) (hl0 : l.stackTraces = false) (g : mG) (S : mmS) (p0 : Nat) (Q : Int32 → mmS → Prop) (X : String → mmS → Prop) (hX0 : ∀ (E : String) (S : mmS), ¬ X E S) (hw : wp_Jx4a65c_size_8abf5 g.2.2.2.2.2 S p0 Q X) : mMi l g yJx4a65c_size_8abf5 (wA_ yJx4a65c_size_8abf5 cJx4a65c_size_8abf5 1 (some .int)) rm_Jx4a65c_size_8abf5 [.ref p0] S Q X := by
  refine m_of (y := yJx4a65c_size_8abf5) (cc := cJx4a65c_size_8abf5) (maxL := 1) (ret := (some .int)) (by decide) rfl (Nat.le_of_ble_eq_true rfl) ?_
  intro p e s m args below meth c ls hC hrt hlk hmn hnx hs hH hl
  have hC : CallFix p m c cJx4a65c_size_8abf5 1 s args (wA_ yJx4a65c_size_8abf5 cJx4a65c_size_8abf5 1 (some .int)) RJx4a65c := hC
  have hl : lv_has ls 1 [(0, .ref p0)] := hl
  unfold wp_Jx4a65c_size_8abf5 at hw
  refine lv_aload_n hC.1 hC.2.1 dJx4a65c_size_8abf5_0 rfl (lv_at hl 0 rfl) ?_
  obtain ⟨k1, hw⟩ := hw
  refine m_getI hC hs hH cs6 fs6_2 (fun _ h => List.mem_cons_of_mem _ (inlJx4a65c _ h)) (List.mem_cons_of_mem _ q_72) (fun _ h => h) k1 dJx4a65c_size_8abf5_1 ?_
  exact m_reti hC hH hrt rfl hlk (Nat.le_of_ble_eq_true rfl) (Nat.le_of_ble_eq_true rfl) dJx4a65c_size_8abf5_4 hw
abbrev rm_J3_checkIndex_8e157 : Room := { frames := 1, cells := 0, slots := 0, locals := 0 }
def wp_J3_checkIndex_8e157 (z : Nat × Nat) (S : mmS) (p0 : Int32) (p1 : Int32) (Q : Int32 → mmS → Prop) (X : String → mmS → Prop) : Prop := (p0 < 0 → False) ∧ (¬ p0 < 0 → (p0 < p1 → Q p0 S) ∧ (¬ p0 < p1 → False))
set_option maxHeartbeats 4000000 in
set_option maxRecDepth 100000 in
theorem met_J3_checkIndex_8e157 (l : Launch) (hl0 : l.stackTraces = false) (g : mG) (S : mmS) (p0 : Int32) (p1 : Int32) (Q : Int32 → mmS → Prop) (X : String → mmS → Prop) (hX0 : ∀ (E : String) (S : mmS), ¬ X E S) (hw : wp_J3_checkIndex_8e157 g.2.2.2.2.2 S p0 p1 Q X) : mMi l g yJ3_checkIndex_8e157 (wA_ yJ3_checkIndex_8e157 cJ3_checkIndex_8e157 3 (some .int)) rm_J3_checkIndex_8e157 [.int p0, .int p1, .null] S Q X := by
  refine m_of (y := yJ3_checkIndex_8e157) (cc := cJ3_checkIndex_8e157) (maxL := 3) (ret := (some .int)) (by decide) rfl (Nat.le_of_ble_eq_true rfl) ?_
  intro p e s m args below meth c ls hC hrt hlk hmn hnx hs hH hl
  have hC : CallFix p m c cJ3_checkIndex_8e157 3 s args (wA_ yJ3_checkIndex_8e157 cJ3_checkIndex_8e157 3 (some .int)) RJ3 := hC
  have hl : lv_has ls 3 [(0, .int p0), (1, .int p1), (2, .null)] := hl
  unfold wp_J3_checkIndex_8e157 at hw
  refine lv_iload_n hC.1 hC.2.1 dJ3_checkIndex_8e157_0 rfl (lv_at hl 0 rfl) ?_
  refine lv_if_lt (tgt := 9) hC.1 hC.2.1 dJ3_checkIndex_8e157_1 (by decide) (fun hc => ?_) (fun hc => ?_)
  · have hw := hw.1 hc
    exact False.elim hw
  · have hw := hw.2 hc
    refine lv_iload_n hC.1 hC.2.1 dJ3_checkIndex_8e157_4 rfl (lv_at hl 0 rfl) ?_
    refine lv_iload_n hC.1 hC.2.1 dJ3_checkIndex_8e157_5 rfl (lv_at hl 1 rfl) ?_
    refine lv_icmp_lt (tgt := 16) hC.1 hC.2.1 dJ3_checkIndex_8e157_6 (by decide) (fun hc => ?_) (fun hc => ?_)
    · have hw := hw.1 hc
      refine lv_iload_n hC.1 hC.2.1 dJ3_checkIndex_8e157_16 rfl (lv_at hl 0 rfl) ?_
      exact m_reti hC hH hrt rfl hlk (Nat.le_of_ble_eq_true rfl) (Nat.le_of_ble_eq_true rfl) dJ3_checkIndex_8e157_17 hw
    · have hw := hw.2 hc
      exact False.elim hw
abbrev rm_J15_checkIndex_7cf53 : Room := { frames := 2, cells := 0, slots := 0, locals := 22 }
def wp_J15_checkIndex_7cf53 (z : Nat × Nat) (S : mmS) (p0 : Int32) (p1 : Int32) (Q : Int32 → mmS → Prop) (X : String → mmS → Prop) : Prop := wp_J3_checkIndex_8e157 z S p0 p1 (fun r2 S1 => Q r2 S1) X
set_option maxHeartbeats 4000000 in
set_option maxRecDepth 100000 in
theorem met_J15_checkIndex_7cf53 (l : Launch) (hl0 : l.stackTraces = false) (g : mG) (S : mmS) (p0 : Int32) (p1 : Int32) (Q : Int32 → mmS → Prop) (X : String → mmS → Prop) (hX0 : ∀ (E : String) (S : mmS), ¬ X E S) (hw : wp_J15_checkIndex_7cf53 g.2.2.2.2.2 S p0 p1 Q X) : mMi l g yJ15_checkIndex_7cf53 (wA_ yJ15_checkIndex_7cf53 cJ15_checkIndex_7cf53 2 (some .int)) rm_J15_checkIndex_7cf53 [.int p0, .int p1] S Q X := by
  refine m_of (y := yJ15_checkIndex_7cf53) (cc := cJ15_checkIndex_7cf53) (maxL := 2) (ret := (some .int)) (by decide) rfl (Nat.le_of_ble_eq_true rfl) ?_
  intro p e s m args below meth c ls hC hrt hlk hmn hnx hs hH hl
  have hC : CallFix p m c cJ15_checkIndex_7cf53 2 s args (wA_ yJ15_checkIndex_7cf53 cJ15_checkIndex_7cf53 2 (some .int)) RJ15 := hC
  have hl : lv_has ls 2 [(0, .int p0), (1, .int p1)] := hl
  unfold wp_J15_checkIndex_7cf53 at hw
  refine lv_iload_n hC.1 hC.2.1 dJ15_checkIndex_7cf53_0 rfl (lv_at hl 0 rfl) ?_
  refine lv_iload_n hC.1 hC.2.1 dJ15_checkIndex_7cf53_1 rfl (lv_at hl 1 rfl) ?_
  refine lv_null hC.1 hC.2.1 dJ15_checkIndex_7cf53_2 ?_
  refine m_callSi (y := yJ3_checkIndex_8e157) (rest := []) hC hs hH hl.1 (va_cwS 3 hC.2.2.2.2 (gA_S q_155 q_156 q_157 q_158) rfl rfl rfl (by decide +kernel) ⟨Nat.le_of_ble_eq_true rfl, Nat.le_of_ble_eq_true rfl⟩) (met_J3_checkIndex_8e157 l hl0 g _ _ _ _ _ hX0 hw) rfl rfl (Nat.le_of_ble_eq_true rfl) dJ15_checkIndex_7cf53_3 ⟨Nat.le_of_ble_eq_true rfl, Nat.le_of_ble_eq_true rfl⟩ (fun E S1 _ _ _ _ hx => (hX0 E S1 hx).elim) (fun r2 S1 H locs hw hH => ?_)
  refine W.widen (k := 0) (n := 0) (Nat.le_of_ble_eq_true rfl) (Nat.le_of_ble_eq_true rfl) ?_
  exact m_reti hC hH hrt rfl hlk (Nat.le_of_ble_eq_true rfl) (Nat.le_of_ble_eq_true rfl) dJ15_checkIndex_7cf53_6 hw
abbrev rm_Jx4a65c_elementData_915e3 : Room := { frames := 1, cells := 0, slots := 0, locals := 0 }
def wp_Jx4a65c_elementData_915e3 (z : Nat × Nat) (S : mmS) (p0 : Nat) (p1 : Int32) (Q : Nat → mmS → Prop) (X : String → mmS → Prop) : Prop := (p0 ∈ mL S ∧ mK S p0 = 6) ∧ ∃ b2 : Nat, mR S 25 p0 = some b2 ∧ (b2 ∈ mL S ∧ mK S b2 = 8) ∧ vp_in p1 (mN S b2) ∧ ∃ b6 : Nat, mQ S b2 (p1).toNatClampNeg = some b6 ∧ Q b6 S
set_option maxHeartbeats 4000000 in
set_option maxRecDepth 100000 in
theorem met_Jx4a65c_elementData_915e3 (l : Launch) (hl0 : l.stackTraces = false) (g : mG) (S : mmS) (p0 : Nat) (p1 : Int32) (Q : Nat → mmS → Prop) (X : String → mmS → Prop) (hX0 : ∀ (E : String) (S : mmS), ¬ X E S) (hw : wp_Jx4a65c_elementData_915e3 g.2.2.2.2.2 S p0 p1 Q X) : mMq l g yJx4a65c_elementData_915e3 (wA_ yJx4a65c_elementData_915e3 cJx4a65c_elementData_915e3 2 (some (.object "java/lang/Object"))) rm_Jx4a65c_elementData_915e3 [.ref p0, .int p1] S Q X := by
  refine m_of (y := yJx4a65c_elementData_915e3) (cc := cJx4a65c_elementData_915e3) (maxL := 2) (ret := (some (.object "java/lang/Object"))) (by decide) rfl (Nat.le_of_ble_eq_true rfl) ?_
  intro p e s m args below meth c ls hC hrt hlk hmn hnx hs hH hl
  have hC : CallFix p m c cJx4a65c_elementData_915e3 2 s args (wA_ yJx4a65c_elementData_915e3 cJx4a65c_elementData_915e3 2 (some (.object "java/lang/Object"))) RJx4a65c := hC
  have hl : lv_has ls 2 [(0, .ref p0), (1, .int p1)] := hl
  unfold wp_Jx4a65c_elementData_915e3 at hw
  refine lv_aload_n hC.1 hC.2.1 dJx4a65c_elementData_915e3_0 rfl (lv_at hl 0 rfl) ?_
  obtain ⟨k1, hw⟩ := hw
  obtain ⟨b2, r3, hw⟩ := hw
  refine m_getR hC hs hH cs6 fs6_1 (fun _ h => List.mem_cons_of_mem _ (inlJx4a65c _ h)) (List.mem_cons_of_mem _ q_28) (fun _ h => h) k1 r3 dJx4a65c_elementData_915e3_1 ?_
  refine lv_iload_n hC.1 hC.2.1 dJx4a65c_elementData_915e3_4 rfl (lv_at hl 1 rfl) ?_
  obtain ⟨k4, hw⟩ := hw
  obtain ⟨i5, b6, r7, hw⟩ := hw
  refine m_qald hC hs hH k4 i5 r7 dJx4a65c_elementData_915e3_5 ?_
  exact m_retq hC hH hrt (Or.inl ⟨_, rfl⟩) hlk (Nat.le_of_ble_eq_true rfl) (Nat.le_of_ble_eq_true rfl) dJx4a65c_elementData_915e3_6 hw
abbrev rm_Jx4a65c_get_915e3 : Room := { frames := 3, cells := 0, slots := 0, locals := 43 }
def wp_Jx4a65c_get_915e3 (z : Nat × Nat) (S : mmS) (p0 : Nat) (p1 : Int32) (Q : Nat → mmS → Prop) (X : String → mmS → Prop) : Prop := (p0 ∈ mL S ∧ mK S p0 = 6) ∧ wp_J15_checkIndex_7cf53 z S p1 (mI S 31 p0) (fun r3 S2 => (p0 ∈ mL S2 ∧ mK S2 p0 = 6) ∧ wp_Jx4a65c_elementData_915e3 z S2 p0 p1 (fun r6 S4 => Q r6 S4) X) X
set_option maxHeartbeats 4000000 in
set_option maxRecDepth 100000 in
theorem met_Jx4a65c_get_915e3 (l : Launch) (hl0 : l.stackTraces = false) (g : mG) (S : mmS) (p0 : Nat) (p1 : Int32) (Q : Nat → mmS → Prop) (X : String → mmS → Prop) (hX0 : ∀ (E : String) (S : mmS), ¬ X E S) (hw : wp_Jx4a65c_get_915e3 g.2.2.2.2.2 S p0 p1 Q X) : mMq l g yJx4a65c_get_915e3 (wA_ yJx4a65c_get_915e3 cJx4a65c_get_915e3 2 (some (.object "java/lang/Object"))) rm_Jx4a65c_get_915e3 [.ref p0, .int p1] S Q X := by
  refine m_of (y := yJx4a65c_get_915e3) (cc := cJx4a65c_get_915e3) (maxL := 2) (ret := (some (.object "java/lang/Object"))) (by decide) rfl (Nat.le_of_ble_eq_true rfl) ?_
  intro p e s m args below meth c ls hC hrt hlk hmn hnx hs hH hl
  have hC : CallFix p m c cJx4a65c_get_915e3 2 s args (wA_ yJx4a65c_get_915e3 cJx4a65c_get_915e3 2 (some (.object "java/lang/Object"))) RJx4a65c := hC
  have hl : lv_has ls 2 [(0, .ref p0), (1, .int p1)] := hl
  unfold wp_Jx4a65c_get_915e3 at hw
  refine lv_iload_n hC.1 hC.2.1 dJx4a65c_get_915e3_0 rfl (lv_at hl 1 rfl) ?_
  refine lv_aload_n hC.1 hC.2.1 dJx4a65c_get_915e3_1 rfl (lv_at hl 0 rfl) ?_
  obtain ⟨k1, hw⟩ := hw
  refine m_getI hC hs hH cs6 fs6_2 (fun _ h => List.mem_cons_of_mem _ (inlJx4a65c _ h)) (List.mem_cons_of_mem _ q_72) (fun _ h => h) k1 dJx4a65c_get_915e3_2 ?_
  refine m_callSi (y := yJ15_checkIndex_7cf53) (rest := []) hC hs hH hl.1 (va_cwS 2 hC.2.2.2.2 (gA_S q_151 q_152 q_153 q_154) rfl rfl rfl (by decide +kernel) ⟨Nat.le_of_ble_eq_true rfl, Nat.le_of_ble_eq_true rfl⟩) (met_J15_checkIndex_7cf53 l hl0 g _ _ _ _ _ hX0 hw) rfl rfl (Nat.le_of_ble_eq_true rfl) dJx4a65c_get_915e3_5 ⟨Nat.le_of_ble_eq_true rfl, Nat.le_of_ble_eq_true rfl⟩ (fun E S1 _ _ _ _ hx => (hX0 E S1 hx).elim) (fun r3 S1 H locs hw hH => ?_)
  refine W.widen (k := 0) (n := 0) (Nat.le_of_ble_eq_true rfl) (Nat.le_of_ble_eq_true rfl) ?_
  refine lv_pop hC.1 hC.2.1 dJx4a65c_get_915e3_8 rfl ?_
  refine lv_aload_n hC.1 hC.2.1 dJx4a65c_get_915e3_9 rfl (lv_at hl 0 rfl) ?_
  refine lv_iload_n hC.1 hC.2.1 dJx4a65c_get_915e3_10 rfl (lv_at hl 1 rfl) ?_
  obtain ⟨k5, hw⟩ := hw
  refine m_callVq (y := yJx4a65c_elementData_915e3) (rest := []) hC hs hH hl.1 (cwV 1 hC.2.2.2.2 (gA_V q_159 q_160 q_161 q_16 q_162) rfl rfl rfl (by decide +kernel) ⟨Nat.le_of_ble_eq_true rfl, Nat.le_of_ble_eq_true rfl⟩) cs6 k5 (met_Jx4a65c_elementData_915e3 l hl0 g _ _ _ _ _ hX0 hw) rfl rfl (Nat.le_of_ble_eq_true rfl) dJx4a65c_get_915e3_11 ⟨Nat.le_of_ble_eq_true rfl, Nat.le_of_ble_eq_true rfl⟩ (fun E S1 _ _ _ _ hx => (hX0 E S1 hx).elim) (fun r6 S1 H locs hw hH => ?_)
  refine W.widen (k := 0) (n := 0) (Nat.le_of_ble_eq_true rfl) (Nat.le_of_ble_eq_true rfl) ?_
  exact m_retq hC hH hrt (Or.inl ⟨_, rfl⟩) hlk (Nat.le_of_ble_eq_true rfl) (Nat.le_of_ble_eq_true rfl) dJx4a65c_get_915e3_14 hw
abbrev rm_J8_newLength_cabcc : Room := { frames := 1, cells := 0, slots := 0, locals := 24 }
def wp_J8_newLength_cabcc (z : Nat × Nat) (S : mmS) (p0 : Int32) (p1 : Int32) (p2 : Int32) (Q : Int32 → mmS → Prop) (X : String → mmS → Prop) : Prop := ∀ v1 : Int32, v1 = (p0 + (if p1 < p2 then p2 else p1)) → (v1 ≤ (0 : Int32) → False) ∧ (¬ v1 ≤ (0 : Int32) → ((2147483639 : Int32) < v1 → False) ∧ (¬ (2147483639 : Int32) < v1 → Q v1 S))
set_option maxHeartbeats 4000000 in
set_option maxRecDepth 100000 in
theorem met_J8_newLength_cabcc (l : Launch) (hl0 : l.stackTraces = false) (g : mG) (S : mmS) (p0 : Int32) (p1 : Int32) (p2 : Int32) (Q : Int32 → mmS → Prop) (X : String → mmS → Prop) (hX0 : ∀ (E : String) (S : mmS), ¬ X E S) (hw : wp_J8_newLength_cabcc g.2.2.2.2.2 S p0 p1 p2 Q X) : mMi l g yJ8_newLength_cabcc (wA_ yJ8_newLength_cabcc cJ8_newLength_cabcc 4 (some .int)) rm_J8_newLength_cabcc [.int p0, .int p1, .int p2] S Q X := by
  refine m_of (y := yJ8_newLength_cabcc) (cc := cJ8_newLength_cabcc) (maxL := 4) (ret := (some .int)) (by decide) rfl (Nat.le_of_ble_eq_true rfl) ?_
  intro p e s m args below meth c ls hC hrt hlk hmn hnx hs hH hl
  have hC : CallFix p m c cJ8_newLength_cabcc 4 s args (wA_ yJ8_newLength_cabcc cJ8_newLength_cabcc 4 (some .int)) RJ8 := hC
  have hl : lv_has ls 4 [(0, .int p0), (1, .int p1), (2, .int p2)] := hl
  unfold wp_J8_newLength_cabcc at hw
  refine lv_iload_n hC.1 hC.2.1 dJ8_newLength_cabcc_0 rfl (lv_at hl 0 rfl) ?_
  refine lv_iload_n hC.1 hC.2.1 dJ8_newLength_cabcc_1 rfl (lv_at hl 1 rfl) ?_
  refine lv_iload_n hC.1 hC.2.1 dJ8_newLength_cabcc_2 rfl (lv_at hl 2 rfl) ?_
  refine m_max hC hl.1 (List.mem_cons_of_mem _ q_111) (List.mem_cons_of_mem _ q_104) (List.mem_cons_of_mem _ q_6) (List.mem_cons_of_mem _ q_105) (Nat.le_of_ble_eq_true rfl) (Nat.le_of_ble_eq_true rfl) (Nat.le_of_ble_eq_true rfl) (Nat.le_of_ble_eq_true rfl) dJ8_newLength_cabcc_3 ?_
  refine lv_iadd hC.1 hC.2.1 dJ8_newLength_cabcc_6 ?_
  have hw := hw _ rfl
  refine lv_istore_n (lv' := [(3, .int _), (0, .int _), (1, .int _), (2, .int _)]) hC.1 hC.2.1 dJ8_newLength_cabcc_7 rfl hl (by decide) rfl (fun ls hl => ?_)
  refine lv_iconst (v := 0) hC.1 hC.2.1 dJ8_newLength_cabcc_8 (by decide) ?_
  refine lv_iload_n hC.1 hC.2.1 dJ8_newLength_cabcc_9 rfl (lv_at hl 0 rfl) ?_
  refine lv_icmp_ge (tgt := 21) hC.1 hC.2.1 dJ8_newLength_cabcc_10 (by decide) (fun hc => ?_) (fun hc => ?_)
  · have hw := hw.1 hc
    exact False.elim hw
  · have hw := hw.2 hc
    refine lv_iload_n hC.1 hC.2.1 dJ8_newLength_cabcc_13 rfl (lv_at hl 0 rfl) ?_
    refine lv_ldc hC.1 hC.2.1 hC.2.2.2.1 (hC.2.2.2.2 _ (List.mem_cons_of_mem _ q_112)) dJ8_newLength_cabcc_14 ?_
    refine lv_icmp_gt (tgt := 21) hC.1 hC.2.1 dJ8_newLength_cabcc_16 (by decide) (fun hc => ?_) (fun hc => ?_)
    · have hw := hw.1 hc
      exact False.elim hw
    · have hw := hw.2 hc
      refine lv_iload_n hC.1 hC.2.1 dJ8_newLength_cabcc_19 rfl (lv_at hl 0 rfl) ?_
      exact m_reti hC hH hrt rfl hlk (Nat.le_of_ble_eq_true rfl) (Nat.le_of_ble_eq_true rfl) dJ8_newLength_cabcc_20 hw
abbrev rm_J7_copyOf_6403c : Room := { frames := 1, cells := 1, slots := 128, locals := 40 }
def wp_J7_copyOf_6403c (z : Nat × Nat) (S : mmS) (p0 : Nat) (p1 : Int32) (p2 : Nat) (Q : Nat → mmS → Prop) (X : String → mmS → Prop) : Prop := (¬ p2 = (z.2) → False) ∧ (p2 = (z.2) → (¬ p1 < 0 ∧ (p1).toNatClampNeg ≤ 128) ∧ ∀ q1 : Nat, q1 ∉ mL S → q1 ≠ z.1 → ∀ S3 : mmS, S3 = sNq S q1 (p1).toNatClampNeg → mLn z S3 p0 ∧ (p0 ∈ mL S3 ∧ mK S3 p0 = 8) ∧ (¬ (0 : Int32) < 0 ∧ ¬ (0 : Int32) < 0 ∧ ¬ (if p1 < (mLen z S3 p0) then p1 else (mLen z S3 p0)) < 0 ∧ ((0 : Int32)).toNatClampNeg + (if p1 < (mLen z S3 p0) then p1 else (mLen z S3 p0)).toNatClampNeg ≤ mN S3 p0 ∧ ((0 : Int32)).toNatClampNeg + (if p1 < (mLen z S3 p0) then p1 else (mLen z S3 p0)).toNatClampNeg ≤ mN S3 q1) ∧ (∀ i : Nat, i < (if p1 < (mLen z S3 p0) then p1 else (mLen z S3 p0)).toNatClampNeg → ∀ y : Nat, mQ S3 p0 (((0 : Int32)).toNatClampNeg + i) = some y → mOb S3 y) ∧ ∀ S8 : mmS, S8 = sQr S3 q1 (va_cpy (mQ S3 p0) (mQ S3 q1) ((0 : Int32)).toNatClampNeg ((0 : Int32)).toNatClampNeg (if p1 < (mLen z S3 p0) then p1 else (mLen z S3 p0)).toNatClampNeg) → Q q1 S8)
set_option maxHeartbeats 4000000 in
set_option maxRecDepth 100000 in
theorem met_J7_copyOf_6403c (l : Launch) (hl0 : l.stackTraces = false) (g : mG) (S : mmS) (p0 : Nat) (p1 : Int32) (p2 : Nat) (Q : Nat → mmS → Prop) (X : String → mmS → Prop) (hX0 : ∀ (E : String) (S : mmS), ¬ X E S) (hw : wp_J7_copyOf_6403c g.2.2.2.2.2 S p0 p1 p2 Q X) : mMq l g yJ7_copyOf_6403c (wA_ yJ7_copyOf_6403c cJ7_copyOf_6403c 4 (some (.array (.object "java/lang/Object")))) rm_J7_copyOf_6403c [.ref p0, .int p1, .ref p2] S Q X := by
  refine m_of (y := yJ7_copyOf_6403c) (cc := cJ7_copyOf_6403c) (maxL := 4) (ret := (some (.array (.object "java/lang/Object")))) (by decide) rfl (Nat.le_of_ble_eq_true rfl) ?_
  intro p e s m args below meth c ls hC hrt hlk hmn hnx hs hH hl
  have hC : CallFix p m c cJ7_copyOf_6403c 4 s args (wA_ yJ7_copyOf_6403c cJ7_copyOf_6403c 4 (some (.array (.object "java/lang/Object")))) RJ7 := hC
  have hl : lv_has ls 4 [(0, .ref p0), (1, .int p1), (2, .ref p2)] := hl
  unfold wp_J7_copyOf_6403c at hw
  refine lv_aload_n hC.1 hC.2.1 dJ7_copyOf_6403c_0 rfl (lv_at hl 2 rfl) ?_
  refine m_ldcM hC hs (List.mem_cons_of_mem _ q_127) dJ7_copyOf_6403c_1 ?_
  refine m_acmp_ne (tgt := 13) hC dJ7_copyOf_6403c_3 (by decide) (fun hc => ?_) (fun hc => ?_)
  · have hw := hw.1 hc
    exact False.elim hw
  · have hw := hw.2 hc
    refine lv_iload_n hC.1 hC.2.1 dJ7_copyOf_6403c_6 rfl (lv_at hl 1 rfl) ?_
    obtain ⟨n4, hw⟩ := hw
    refine m_newQ hC hs hH (List.mem_cons_of_mem _ q_128) n4.1 rfl (by have := n4.2; omega) (Nat.le_of_ble_eq_true rfl) (by have := n4.2; exact Nat.le_trans (Nat.add_le_add_left this _) (Nat.le_of_ble_eq_true rfl)) dJ7_copyOf_6403c_7 (fun q1 H f2 hz hH => ?_)
    refine W.widen (k := 1) (n := 128) (Nat.le_refl _) (Nat.add_le_add_left n4.2 _) ?_
    have hw := hw q1 f2 hz _ rfl
    refine lv_goto (tgt := 24) hC.1 hC.2.1 dJ7_copyOf_6403c_10 (by decide) ?_
    refine lv_astore_n (lv' := [(3, .ref _), (0, .ref _), (1, .int _), (2, .ref _)]) hC.1 hC.2.1 dJ7_copyOf_6403c_24 rfl hl (by decide) rfl (fun ls hl => ?_)
    refine lv_aload_n hC.1 hC.2.1 dJ7_copyOf_6403c_25 rfl (lv_at hl 1 rfl) ?_
    refine lv_iconst (v := 0) hC.1 hC.2.1 dJ7_copyOf_6403c_26 (by decide) ?_
    refine lv_aload_n hC.1 hC.2.1 dJ7_copyOf_6403c_27 rfl (lv_at hl 0 rfl) ?_
    refine lv_iconst (v := 0) hC.1 hC.2.1 dJ7_copyOf_6403c_28 (by decide) ?_
    refine lv_aload_n hC.1 hC.2.1 dJ7_copyOf_6403c_29 rfl (lv_at hl 1 rfl) ?_
    obtain ⟨n5, hw⟩ := hw
    refine m_alenQ hC hs hH n5 dJ7_copyOf_6403c_30 ?_
    refine lv_iload_n hC.1 hC.2.1 dJ7_copyOf_6403c_31 rfl (lv_at hl 2 rfl) ?_
    refine m_min hC hl.1 (List.mem_cons_of_mem _ q_129) (List.mem_cons_of_mem _ q_5) (List.mem_cons_of_mem _ q_6) (List.mem_cons_of_mem _ q_7) (Nat.le_of_ble_eq_true rfl) (Nat.le_of_ble_eq_true rfl) (Nat.le_of_ble_eq_true rfl) (Nat.le_of_ble_eq_true rfl) dJ7_copyOf_6403c_32 ?_
    obtain ⟨k6, hw⟩ := hw
    obtain ⟨n7, hw⟩ := hw
    obtain ⟨n9, hw⟩ := hw
    have hw := hw _ rfl
    refine m_copyQ hC hs hH hl.1 (List.mem_cons_of_mem _ q_130) (List.mem_cons_of_mem _ q_131) (List.mem_cons_of_mem _ q_132) (List.mem_cons_of_mem _ q_133) k6 mkQ n7 (fun i hi y hy => mOb_any hs hH (n9 i hi y hy)) (Nat.le_of_ble_eq_true rfl) (by decide) dJ7_copyOf_6403c_35 (fun H locs hH => ?_)
    refine lv_aload_n hC.1 hC.2.1 dJ7_copyOf_6403c_38 rfl (lv_at hl 0 rfl) ?_
    exact m_retq hC hH hrt (Or.inr ⟨_, rfl⟩) hlk (Nat.le_of_ble_eq_true rfl) (Nat.le_of_ble_eq_true rfl) dJ7_copyOf_6403c_39 hw
abbrev rm_J7_copyOf_1904c : Room := { frames := 2, cells := 1, slots := 128, locals := 63 }
def wp_J7_copyOf_1904c (z : Nat × Nat) (S : mmS) (p0 : Nat) (p1 : Int32) (Q : Nat → mmS → Prop) (X : String → mmS → Prop) : Prop := (p0 ∈ mL S ∧ mK S p0 = 8) ∧ wp_J7_copyOf_6403c z S p0 p1 (z.2) (fun r3 S2 => Q r3 S2) X
set_option maxHeartbeats 4000000 in
set_option maxRecDepth 100000 in
theorem met_J7_copyOf_1904c (l : Launch) (hl0 : l.stackTraces = false) (g : mG) (S : mmS) (p0 : Nat) (p1 : Int32) (Q : Nat → mmS → Prop) (X : String → mmS → Prop) (hX0 : ∀ (E : String) (S : mmS), ¬ X E S) (hw : wp_J7_copyOf_1904c g.2.2.2.2.2 S p0 p1 Q X) : mMq l g yJ7_copyOf_1904c (wA_ yJ7_copyOf_1904c cJ7_copyOf_1904c 2 (some (.array (.object "java/lang/Object")))) rm_J7_copyOf_1904c [.ref p0, .int p1] S Q X := by
  refine m_of (y := yJ7_copyOf_1904c) (cc := cJ7_copyOf_1904c) (maxL := 2) (ret := (some (.array (.object "java/lang/Object")))) (by decide) rfl (Nat.le_of_ble_eq_true rfl) ?_
  intro p e s m args below meth c ls hC hrt hlk hmn hnx hs hH hl
  have hC : CallFix p m c cJ7_copyOf_1904c 2 s args (wA_ yJ7_copyOf_1904c cJ7_copyOf_1904c 2 (some (.array (.object "java/lang/Object")))) RJ7 := hC
  have hl : lv_has ls 2 [(0, .ref p0), (1, .int p1)] := hl
  unfold wp_J7_copyOf_1904c at hw
  refine lv_aload_n hC.1 hC.2.1 dJ7_copyOf_1904c_0 rfl (lv_at hl 0 rfl) ?_
  refine lv_iload_n hC.1 hC.2.1 dJ7_copyOf_1904c_1 rfl (lv_at hl 1 rfl) ?_
  refine lv_aload_n hC.1 hC.2.1 dJ7_copyOf_1904c_2 rfl (lv_at hl 0 rfl) ?_
  obtain ⟨k1, hw⟩ := hw
  refine m_getC hC hs hH hl.1 (List.mem_cons_of_mem _ q_120) (List.mem_cons_of_mem _ q_121) (List.mem_cons_of_mem _ q_122) (List.mem_cons_of_mem _ q_123) k1 (Nat.le_of_ble_eq_true rfl) (Nat.le_of_ble_eq_true rfl) dJ7_copyOf_1904c_3 ?_
  refine m_callSq (y := yJ7_copyOf_6403c) (rest := []) hC hs hH hl.1 (va_cwS 3 hC.2.2.2.2 (gA_S q_124 q_125 q_118 q_126) rfl rfl rfl (by decide +kernel) ⟨Nat.le_of_ble_eq_true rfl, Nat.le_of_ble_eq_true rfl⟩) (met_J7_copyOf_6403c l hl0 g _ _ _ _ _ _ hX0 hw) rfl rfl (Nat.le_of_ble_eq_true rfl) dJ7_copyOf_1904c_6 ⟨Nat.le_of_ble_eq_true rfl, Nat.le_of_ble_eq_true rfl⟩ (fun E S1 _ _ _ _ hx => (hX0 E S1 hx).elim) (fun r3 S1 H locs hw hH => ?_)
  refine W.widen (k := 1) (n := 128) (Nat.le_of_ble_eq_true rfl) (Nat.le_of_ble_eq_true rfl) ?_
  exact m_retq hC hH hrt (Or.inr ⟨_, rfl⟩) hlk (Nat.le_of_ble_eq_true rfl) (Nat.le_of_ble_eq_true rfl) dJ7_copyOf_1904c_9 hw
abbrev rm_Jx4a65c_grow_92f84 : Room := { frames := 3, cells := 1, slots := 128, locals := 84 }
def bk_Jx4a65c_grow_92f84_20 (z : Nat × Nat) (Q : Nat → mmS → Prop) (X : String → mmS → Prop) (S : mmS) (x0 : Nat) (x1 : Int32) (x2 : Int32) : Prop := wp_J8_newLength_cabcc z S x2 (x1 - x2) (x2 >>> ((1 : Int32) &&& 31)) (fun r2 S1 => (x0 ∈ mL S1 ∧ mK S1 x0 = 6) ∧ ∃ b4 : Nat, mR S1 25 x0 = some b4 ∧ wp_J7_copyOf_1904c z S1 b4 r2 (fun r7 S6 => (x0 ∈ mL S6 ∧ mK S6 x0 = 6) ∧ ∀ S9 : mmS, S9 = sR S6 25 x0 (some r7) → Q r7 S9) X) X
def wp_Jx4a65c_grow_92f84 (z : Nat × Nat) (S : mmS) (p0 : Nat) (p1 : Int32) (Q : Nat → mmS → Prop) (X : String → mmS → Prop) : Prop := (p0 ∈ mL S ∧ mK S p0 = 6) ∧ ∃ b2 : Nat, mR S 25 p0 = some b2 ∧ mLn z S b2 ∧ ∀ v5 : Int32, v5 = (mLen z S b2) → (0 < v5 → bk_Jx4a65c_grow_92f84_20 z Q X S p0 p1 v5) ∧ (¬ 0 < v5 → ∃ b6 : Nat, mR S 25 p0 = some b6 ∧ (b6 = (z.1) → (¬ (if (10 : Int32) < p1 then p1 else (10 : Int32)) < 0 ∧ (if (10 : Int32) < p1 then p1 else (10 : Int32)).toNatClampNeg ≤ 128) ∧ ∀ q8 : Nat, q8 ∉ mL S → q8 ≠ z.1 → ∀ S10 : mmS, S10 = sNq S q8 (if (10 : Int32) < p1 then p1 else (10 : Int32)).toNatClampNeg → ∀ S12 : mmS, S12 = sR S10 25 p0 (some q8) → Q q8 S12) ∧ (¬ b6 = (z.1) → bk_Jx4a65c_grow_92f84_20 z Q X S p0 p1 v5))
set_option maxHeartbeats 4000000 in
set_option maxRecDepth 100000 in
theorem bw_Jx4a65c_grow_92f84_20 {p : Program} {l : Launch} {e : Env} {s : State} {m : MethodId} {args : Array Value} {below : List Frame} {meth : Method} {c : Code} {g : mG} {Q : Nat → mmS → Prop} {X : String → mmS → Prop} (hl0 : l.stackTraces = false) (hC : CallFix p m c cJx4a65c_grow_92f84 4 s args (wA_ yJx4a65c_grow_92f84 cJx4a65c_grow_92f84 4 (some (.array (.object "java/lang/Object")))) RJx4a65c) (hrt : meth.sig.returnType = (some (.array (.object "java/lang/Object")))) (hlk : meth.locks = false) (hmn : meth.name = yJx4a65c_grow_92f84.name) (hnx : ∀ x ∈ c.exceptionTable.toList, False) (hs : mX g s) (hX0 : ∀ (E : String) (S : mmS), ¬ X E S) : ∀ (S : mmS) (x0 : Nat) (x1 : Int32) (x2 : Int32), bk_Jx4a65c_grow_92f84_20 g.2.2.2.2.2 Q X S x0 x1 x2 → ∀ (H : Heap) (locs : List Loc), mH g S s H locs → ∀ ls : Array Slot, lv_has ls 4 [(0, .ref x0), (1, .int x1), (2, .int x2)] → W p l e rm_Jx4a65c_grow_92f84 s m args below meth c H locs 0 0 (vx_MQ below (va_Qq (fun (r : Option Nat) (S1 : mmS) => ∃ b, r = some b ∧ Q b S1) (wO g) (mB g)) (vx_X (fun _ : mmS => True) (fun E S1 t => X E S1 ∧ wO g S1 t) (mB g)) args s rm_Jx4a65c_grow_92f84.cells rm_Jx4a65c_grow_92f84.slots (mB g)) (F0 m 20 ls []) := by
  intro S x0 x1 x2 hw H locs hH ls hl
  unfold bk_Jx4a65c_grow_92f84_20 at hw
  refine lv_iload_n hC.1 hC.2.1 dJx4a65c_grow_92f84_20 rfl (lv_at hl 2 rfl) ?_
  refine lv_iload_n hC.1 hC.2.1 dJx4a65c_grow_92f84_21 rfl (lv_at hl 1 rfl) ?_
  refine lv_iload_n hC.1 hC.2.1 dJx4a65c_grow_92f84_22 rfl (lv_at hl 2 rfl) ?_
  refine lv_isub hC.1 hC.2.1 dJx4a65c_grow_92f84_23 ?_
  refine lv_iload_n hC.1 hC.2.1 dJx4a65c_grow_92f84_24 rfl (lv_at hl 2 rfl) ?_
  refine lv_iconst (v := 1) hC.1 hC.2.1 dJx4a65c_grow_92f84_25 (by decide) ?_
  refine lv_ishr hC.1 hC.2.1 dJx4a65c_grow_92f84_26 ?_
  refine m_callSi (y := yJ8_newLength_cabcc) (rest := []) hC hs hH hl.1 (va_cwS 3 hC.2.2.2.2 (gA_S q_107 q_108 q_109 q_110) rfl rfl rfl (by decide +kernel) ⟨Nat.le_of_ble_eq_true rfl, Nat.le_of_ble_eq_true rfl⟩) (met_J8_newLength_cabcc l hl0 g _ _ _ _ _ _ hX0 hw) rfl rfl (Nat.le_of_ble_eq_true rfl) dJx4a65c_grow_92f84_27 ⟨Nat.le_of_ble_eq_true rfl, Nat.le_of_ble_eq_true rfl⟩ (fun E S1 _ _ _ _ hx => (hX0 E S1 hx).elim) (fun r2 S1 H locs hw hH => ?_)
  refine W.widen (k := 0) (n := 0) (Nat.le_of_ble_eq_true rfl) (Nat.le_of_ble_eq_true rfl) ?_
  refine lv_istore_n (lv' := [(3, .int _), (0, .ref _), (1, .int _), (2, .int _)]) hC.1 hC.2.1 dJx4a65c_grow_92f84_30 rfl hl (by decide) rfl (fun ls hl => ?_)
  refine lv_aload_n hC.1 hC.2.1 dJx4a65c_grow_92f84_31 rfl (lv_at hl 1 rfl) ?_
  refine lv_aload_n hC.1 hC.2.1 dJx4a65c_grow_92f84_32 rfl (lv_at hl 1 rfl) ?_
  obtain ⟨k3, hw⟩ := hw
  obtain ⟨b4, r5, hw⟩ := hw
  refine m_getR hC hs hH cs6 fs6_1 (fun _ h => List.mem_cons_of_mem _ (inlJx4a65c _ h)) (List.mem_cons_of_mem _ q_28) (fun _ h => h) k3 r5 dJx4a65c_grow_92f84_33 ?_
  refine lv_iload_n hC.1 hC.2.1 dJx4a65c_grow_92f84_36 rfl (lv_at hl 0 rfl) ?_
  refine m_callSq (y := yJ7_copyOf_1904c) (rest := [.ref _]) hC hs hH hl.1 (va_cwS 2 hC.2.2.2.2 (gA_S q_116 q_117 q_118 q_119) rfl rfl rfl (by decide +kernel) ⟨Nat.le_of_ble_eq_true rfl, Nat.le_of_ble_eq_true rfl⟩) (met_J7_copyOf_1904c l hl0 g _ _ _ _ _ hX0 hw) rfl rfl (Nat.le_of_ble_eq_true rfl) dJx4a65c_grow_92f84_37 ⟨Nat.le_of_ble_eq_true rfl, Nat.le_of_ble_eq_true rfl⟩ (fun E S1 _ _ _ _ hx => (hX0 E S1 hx).elim) (fun r7 S1 H locs hw hH => ?_)
  refine W.widen (k := 1) (n := 128) (Nat.le_of_ble_eq_true rfl) (Nat.le_of_ble_eq_true rfl) ?_
  refine lv_dup_x1 hC.1 hC.2.1 dJx4a65c_grow_92f84_40 rfl rfl ?_
  obtain ⟨k8, hw⟩ := hw
  have hw := hw _ rfl
  refine m_putR hC hs hH cs6 fs6_1 (fun _ h => List.mem_cons_of_mem _ (inlJx4a65c _ h)) (List.mem_cons_of_mem _ q_28) (fun _ h => h) (Or.inl rfl) rfl rfl k8 dJx4a65c_grow_92f84_41 (fun H locs hH => ?_)
  exact m_retq hC hH hrt (Or.inr ⟨_, rfl⟩) hlk (Nat.le_of_ble_eq_true rfl) (Nat.le_of_ble_eq_true rfl) dJx4a65c_grow_92f84_44 hw
set_option maxHeartbeats 4000000 in
set_option maxRecDepth 100000 in
theorem met_Jx4a65c_grow_92f84 (l : Launch) (hl0 : l.stackTraces = false) (g : mG) (S : mmS) (p0 : Nat) (p1 : Int32) (Q : Nat → mmS → Prop) (X : String → mmS → Prop) (hX0 : ∀ (E : String) (S : mmS), ¬ X E S) (hw : wp_Jx4a65c_grow_92f84 g.2.2.2.2.2 S p0 p1 Q X) : mMq l g yJx4a65c_grow_92f84 (wA_ yJx4a65c_grow_92f84 cJx4a65c_grow_92f84 4 (some (.array (.object "java/lang/Object")))) rm_Jx4a65c_grow_92f84 [.ref p0, .int p1] S Q X := by
  refine m_of (y := yJx4a65c_grow_92f84) (cc := cJx4a65c_grow_92f84) (maxL := 4) (ret := (some (.array (.object "java/lang/Object")))) (by decide) rfl (Nat.le_of_ble_eq_true rfl) ?_
  intro p e s m args below meth c ls hC hrt hlk hmn hnx hs hH hl
  have hC : CallFix p m c cJx4a65c_grow_92f84 4 s args (wA_ yJx4a65c_grow_92f84 cJx4a65c_grow_92f84 4 (some (.array (.object "java/lang/Object")))) RJx4a65c := hC
  have hl : lv_has ls 4 [(0, .ref p0), (1, .int p1)] := hl
  unfold wp_Jx4a65c_grow_92f84 at hw
  refine lv_aload_n hC.1 hC.2.1 dJx4a65c_grow_92f84_0 rfl (lv_at hl 0 rfl) ?_
  obtain ⟨k1, hw⟩ := hw
  obtain ⟨b2, r3, hw⟩ := hw
  refine m_getR hC hs hH cs6 fs6_1 (fun _ h => List.mem_cons_of_mem _ (inlJx4a65c _ h)) (List.mem_cons_of_mem _ q_28) (fun _ h => h) k1 r3 dJx4a65c_grow_92f84_1 ?_
  obtain ⟨n4, hw⟩ := hw
  refine m_alenQ hC hs hH n4 dJx4a65c_grow_92f84_4 ?_
  have hw := hw _ rfl
  refine lv_istore_n (lv' := [(2, .int _), (0, .ref _), (1, .int _)]) hC.1 hC.2.1 dJx4a65c_grow_92f84_5 rfl hl (by decide) rfl (fun ls hl => ?_)
  refine lv_iload_n hC.1 hC.2.1 dJx4a65c_grow_92f84_6 rfl (lv_at hl 0 rfl) ?_
  refine lv_if_gt (tgt := 20) hC.1 hC.2.1 dJx4a65c_grow_92f84_7 (by decide) (fun hc => ?_) (fun hc => ?_)
  · have hw := hw.1 hc
    exact bw_Jx4a65c_grow_92f84_20 hl0 hC hrt hlk hmn hnx hs hX0 _ _ _ _ hw _ _ hH _ (lv_sub hl [1, 2, 0] rfl)
  · have hw := hw.2 hc
    refine lv_aload_n hC.1 hC.2.1 dJx4a65c_grow_92f84_10 rfl (lv_at hl 1 rfl) ?_
    obtain ⟨b6, r7, hw⟩ := hw
    refine m_getR hC hs hH cs6 fs6_1 (fun _ h => List.mem_cons_of_mem _ (inlJx4a65c _ h)) (List.mem_cons_of_mem _ q_28) (fun _ h => h) k1 r7 dJx4a65c_grow_92f84_11 ?_
    refine m_gets0 hC hs hH (List.mem_cons_of_mem _ q_27) (fun _ h => h) dJx4a65c_grow_92f84_14 ?_
    refine m_acmp_eq (tgt := 45) hC dJx4a65c_grow_92f84_17 (by decide) (fun hc => ?_) (fun hc => ?_)
    · have hw := hw.1 hc
      refine lv_aload_n hC.1 hC.2.1 dJx4a65c_grow_92f84_45 rfl (lv_at hl 1 rfl) ?_
      refine lv_bipush (v := 10) hC.1 hC.2.1 dJx4a65c_grow_92f84_46 (by decide) ?_
      refine lv_iload_n hC.1 hC.2.1 dJx4a65c_grow_92f84_48 rfl (lv_at hl 2 rfl) ?_
      refine m_max hC hl.1 (List.mem_cons_of_mem _ q_103) (List.mem_cons_of_mem _ q_104) (List.mem_cons_of_mem _ q_6) (List.mem_cons_of_mem _ q_105) (Nat.le_of_ble_eq_true rfl) (Nat.le_of_ble_eq_true rfl) (Nat.le_of_ble_eq_true rfl) (Nat.le_of_ble_eq_true rfl) dJx4a65c_grow_92f84_49 ?_
      obtain ⟨n11, hw⟩ := hw
      refine m_newQ hC hs hH (List.mem_cons_of_mem _ q_106) n11.1 rfl (by have := n11.2; omega) (Nat.le_of_ble_eq_true rfl) (by have := n11.2; exact Nat.le_trans (Nat.add_le_add_left this _) (Nat.le_of_ble_eq_true rfl)) dJx4a65c_grow_92f84_52 (fun q8 H f9 hz hH => ?_)
      refine W.widen (k := 1) (n := 128) (Nat.le_refl _) (Nat.add_le_add_left n11.2 _) ?_
      have hw := hw q8 f9 hz _ rfl
      refine lv_dup_x1 hC.1 hC.2.1 dJx4a65c_grow_92f84_55 rfl rfl ?_
      have hw := hw _ rfl
      refine m_putR hC hs hH cs6 fs6_1 (fun _ h => List.mem_cons_of_mem _ (inlJx4a65c _ h)) (List.mem_cons_of_mem _ q_28) (fun _ h => h) (Or.inl rfl) rfl rfl (mkN k1 f9) dJx4a65c_grow_92f84_56 (fun H locs hH => ?_)
      exact m_retq hC hH hrt (Or.inr ⟨_, rfl⟩) hlk (Nat.le_of_ble_eq_true rfl) (Nat.le_of_ble_eq_true rfl) dJx4a65c_grow_92f84_59 hw
    · have hw := hw.2 hc
      exact bw_Jx4a65c_grow_92f84_20 hl0 hC hrt hlk hmn hnx hs hX0 _ _ _ _ hw _ _ hH _ (lv_sub hl [1, 2, 0] rfl)
abbrev rm_Jx4a65c_grow_d5877 : Room := { frames := 4, cells := 1, slots := 128, locals := 107 }
def wp_Jx4a65c_grow_d5877 (z : Nat × Nat) (S : mmS) (p0 : Nat) (Q : Nat → mmS → Prop) (X : String → mmS → Prop) : Prop := (p0 ∈ mL S ∧ mK S p0 = 6) ∧ wp_Jx4a65c_grow_92f84 z S p0 ((mI S 31 p0) + (1 : Int32)) (fun r3 S2 => Q r3 S2) X
set_option maxHeartbeats 4000000 in
set_option maxRecDepth 100000 in
theorem met_Jx4a65c_grow_d5877 (l : Launch) (hl0 : l.stackTraces = false) (g : mG) (S : mmS) (p0 : Nat) (Q : Nat → mmS → Prop) (X : String → mmS → Prop) (hX0 : ∀ (E : String) (S : mmS), ¬ X E S) (hw : wp_Jx4a65c_grow_d5877 g.2.2.2.2.2 S p0 Q X) : mMq l g yJx4a65c_grow_d5877 (wA_ yJx4a65c_grow_d5877 cJx4a65c_grow_d5877 1 (some (.array (.object "java/lang/Object")))) rm_Jx4a65c_grow_d5877 [.ref p0] S Q X := by
  refine m_of (y := yJx4a65c_grow_d5877) (cc := cJx4a65c_grow_d5877) (maxL := 1) (ret := (some (.array (.object "java/lang/Object")))) (by decide) rfl (Nat.le_of_ble_eq_true rfl) ?_
  intro p e s m args below meth c ls hC hrt hlk hmn hnx hs hH hl
  have hC : CallFix p m c cJx4a65c_grow_d5877 1 s args (wA_ yJx4a65c_grow_d5877 cJx4a65c_grow_d5877 1 (some (.array (.object "java/lang/Object")))) RJx4a65c := hC
  have hl : lv_has ls 1 [(0, .ref p0)] := hl
  unfold wp_Jx4a65c_grow_d5877 at hw
  refine lv_aload_n hC.1 hC.2.1 dJx4a65c_grow_d5877_0 rfl (lv_at hl 0 rfl) ?_
  refine lv_aload_n hC.1 hC.2.1 dJx4a65c_grow_d5877_1 rfl (lv_at hl 0 rfl) ?_
  obtain ⟨k1, hw⟩ := hw
  refine m_getI hC hs hH cs6 fs6_2 (fun _ h => List.mem_cons_of_mem _ (inlJx4a65c _ h)) (List.mem_cons_of_mem _ q_72) (fun _ h => h) k1 dJx4a65c_grow_d5877_2 ?_
  refine lv_iconst (v := 1) hC.1 hC.2.1 dJx4a65c_grow_d5877_5 (by decide) ?_
  refine lv_iadd hC.1 hC.2.1 dJx4a65c_grow_d5877_6 ?_
  refine m_callVq (y := yJx4a65c_grow_92f84) (rest := []) hC hs hH hl.1 (cwV 1 hC.2.2.2.2 (gA_V q_99 q_100 q_101 q_16 q_102) rfl rfl rfl (by decide +kernel) ⟨Nat.le_of_ble_eq_true rfl, Nat.le_of_ble_eq_true rfl⟩) cs6 k1 (met_Jx4a65c_grow_92f84 l hl0 g _ _ _ _ _ hX0 hw) rfl rfl (Nat.le_of_ble_eq_true rfl) dJx4a65c_grow_d5877_7 ⟨Nat.le_of_ble_eq_true rfl, Nat.le_of_ble_eq_true rfl⟩ (fun E S1 _ _ _ _ hx => (hX0 E S1 hx).elim) (fun r3 S1 H locs hw hH => ?_)
  refine W.widen (k := 1) (n := 128) (Nat.le_of_ble_eq_true rfl) (Nat.le_of_ble_eq_true rfl) ?_
  exact m_retq hC hH hrt (Or.inr ⟨_, rfl⟩) hlk (Nat.le_of_ble_eq_true rfl) (Nat.le_of_ble_eq_true rfl) dJx4a65c_grow_d5877_10 hw
abbrev rm_Jx4a65c_add_72be8 : Room := { frames := 5, cells := 1, slots := 128, locals := 127 }
def bk_Jx4a65c_add_72be8_11 (z : Nat × Nat) (Q : mmS → Prop) (X : String → mmS → Prop) (S : mmS) (x0 : Nat) (x1 : Nat) (x2 : Nat) (x3 : Int32) : Prop := (x2 ∈ mL S ∧ mK S x2 = 8) ∧ vp_in x3 (mN S x2) ∧ mOb S x1 ∧ ∀ S4 : mmS, S4 = sQ S x2 (x3).toNatClampNeg (some x1) → (x0 ∈ mL S4 ∧ mK S4 x0 = 6) ∧ ∀ S6 : mmS, S6 = sI S4 31 x0 (x3 + (1 : Int32)) → Q S6
def wp_Jx4a65c_add_72be8 (z : Nat × Nat) (S : mmS) (p0 : Nat) (p1 : Nat) (p2 : Nat) (p3 : Int32) (Q : mmS → Prop) (X : String → mmS → Prop) : Prop := mLn z S p2 ∧ (¬ p3 = (mLen z S p2) → bk_Jx4a65c_add_72be8_11 z Q X S p0 p1 p2 p3) ∧ (p3 = (mLen z S p2) → (p0 ∈ mL S ∧ mK S p0 = 6) ∧ wp_Jx4a65c_grow_d5877 z S p0 (fun r4 S2 => bk_Jx4a65c_add_72be8_11 z Q X S2 p0 p1 r4 p3) X)
set_option maxHeartbeats 4000000 in
set_option maxRecDepth 100000 in
theorem bw_Jx4a65c_add_72be8_11 {p : Program} {l : Launch} {e : Env} {s : State} {m : MethodId} {args : Array Value} {below : List Frame} {meth : Method} {c : Code} {g : mG} {Q : mmS → Prop} {X : String → mmS → Prop} (hl0 : l.stackTraces = false) (hC : CallFix p m c cJx4a65c_add_72be8 4 s args (wA_ yJx4a65c_add_72be8 cJx4a65c_add_72be8 4 none) RJx4a65c) (hrt : meth.sig.returnType = none) (hlk : meth.locks = false) (hmn : meth.name = yJx4a65c_add_72be8.name) (hnx : ∀ x ∈ c.exceptionTable.toList, False) (hs : mX g s) (hX0 : ∀ (E : String) (S : mmS), ¬ X E S) : ∀ (S : mmS) (x0 : Nat) (x1 : Nat) (x2 : Nat) (x3 : Int32), bk_Jx4a65c_add_72be8_11 g.2.2.2.2.2 Q X S x0 x1 x2 x3 → ∀ (H : Heap) (locs : List Loc), mH g S s H locs → ∀ ls : Array Slot, lv_has ls 4 [(0, .ref x0), (1, .ref x1), (2, .ref x2), (3, .int x3)] → W p l e rm_Jx4a65c_add_72be8 s m args below meth c H locs 1 128 (vx_MQ below (va_Qv Q (wO g) (mB g)) (vx_X (fun _ : mmS => True) (fun E S1 t => X E S1 ∧ wO g S1 t) (mB g)) args s rm_Jx4a65c_add_72be8.cells rm_Jx4a65c_add_72be8.slots (mB g)) (F0 m 11 ls []) := by
  intro S x0 x1 x2 x3 hw H locs hH ls hl
  unfold bk_Jx4a65c_add_72be8_11 at hw
  refine lv_aload_n hC.1 hC.2.1 dJx4a65c_add_72be8_11 rfl (lv_at hl 2 rfl) ?_
  refine lv_iload_n hC.1 hC.2.1 dJx4a65c_add_72be8_12 rfl (lv_at hl 3 rfl) ?_
  refine lv_aload_n hC.1 hC.2.1 dJx4a65c_add_72be8_13 rfl (lv_at hl 1 rfl) ?_
  obtain ⟨k1, hw⟩ := hw
  obtain ⟨i2, o3, hw⟩ := hw
  have hw := hw _ rfl
  refine m_qast hC hs hH k1 i2 (mOb_any hs hH o3) dJx4a65c_add_72be8_14 (fun H locs hH => ?_)
  refine lv_aload_n hC.1 hC.2.1 dJx4a65c_add_72be8_15 rfl (lv_at hl 0 rfl) ?_
  refine lv_iload_n hC.1 hC.2.1 dJx4a65c_add_72be8_16 rfl (lv_at hl 3 rfl) ?_
  refine lv_iconst (v := 1) hC.1 hC.2.1 dJx4a65c_add_72be8_17 (by decide) ?_
  refine lv_iadd hC.1 hC.2.1 dJx4a65c_add_72be8_18 ?_
  obtain ⟨k5, hw⟩ := hw
  have hw := hw _ rfl
  refine m_putI hC hs hH cs6 fs6_2 (fun _ h => List.mem_cons_of_mem _ (inlJx4a65c _ h)) (List.mem_cons_of_mem _ q_72) (fun _ h => h) (Or.inl rfl) rfl k5 dJx4a65c_add_72be8_19 (fun H locs hH => ?_)
  exact m_retv hC hH hrt hlk (Nat.le_of_ble_eq_true rfl) (Nat.le_of_ble_eq_true rfl) dJx4a65c_add_72be8_22 hw
set_option maxHeartbeats 4000000 in
set_option maxRecDepth 100000 in
theorem met_Jx4a65c_add_72be8 (l : Launch) (hl0 : l.stackTraces = false) (g : mG) (S : mmS) (p0 : Nat) (p1 : Nat) (p2 : Nat) (p3 : Int32) (Q : mmS → Prop) (X : String → mmS → Prop) (hX0 : ∀ (E : String) (S : mmS), ¬ X E S) (hw : wp_Jx4a65c_add_72be8 g.2.2.2.2.2 S p0 p1 p2 p3 Q X) : mMv l g yJx4a65c_add_72be8 (wA_ yJx4a65c_add_72be8 cJx4a65c_add_72be8 4 none) rm_Jx4a65c_add_72be8 [.ref p0, .ref p1, .ref p2, .int p3] S Q X := by
  refine m_of (y := yJx4a65c_add_72be8) (cc := cJx4a65c_add_72be8) (maxL := 4) (ret := none) (by decide) rfl (Nat.le_of_ble_eq_true rfl) ?_
  intro p e s m args below meth c ls hC hrt hlk hmn hnx hs hH hl
  have hC : CallFix p m c cJx4a65c_add_72be8 4 s args (wA_ yJx4a65c_add_72be8 cJx4a65c_add_72be8 4 none) RJx4a65c := hC
  have hl : lv_has ls 4 [(0, .ref p0), (1, .ref p1), (2, .ref p2), (3, .int p3)] := hl
  unfold wp_Jx4a65c_add_72be8 at hw
  refine lv_iload_n hC.1 hC.2.1 dJx4a65c_add_72be8_0 rfl (lv_at hl 3 rfl) ?_
  refine lv_aload_n hC.1 hC.2.1 dJx4a65c_add_72be8_1 rfl (lv_at hl 2 rfl) ?_
  obtain ⟨n1, hw⟩ := hw
  refine m_alenQ hC hs hH n1 dJx4a65c_add_72be8_2 ?_
  refine lv_icmp_ne (tgt := 11) hC.1 hC.2.1 dJx4a65c_add_72be8_3 (by decide) (fun hc => ?_) (fun hc => ?_)
  · have hw := hw.1 hc
    refine W.widen (k := 1) (n := 128) (Nat.le_of_ble_eq_true rfl) (Nat.le_of_ble_eq_true rfl) ?_
    exact bw_Jx4a65c_add_72be8_11 hl0 hC hrt hlk hmn hnx hs hX0 _ _ _ _ _ hw _ _ hH _ (lv_sub hl [0, 1, 2, 3] rfl)
  · have hw := hw.2 hc
    refine lv_aload_n hC.1 hC.2.1 dJx4a65c_add_72be8_6 rfl (lv_at hl 0 rfl) ?_
    obtain ⟨k3, hw⟩ := hw
    refine m_callVq (y := yJx4a65c_grow_d5877) (rest := []) hC hs hH hl.1 (cwV 0 hC.2.2.2.2 (gA_V q_95 q_96 q_97 q_16 q_98) rfl rfl rfl (by decide +kernel) ⟨Nat.le_of_ble_eq_true rfl, Nat.le_of_ble_eq_true rfl⟩) cs6 k3 (met_Jx4a65c_grow_d5877 l hl0 g _ _ _ _ hX0 hw) rfl rfl (Nat.le_of_ble_eq_true rfl) dJx4a65c_add_72be8_7 ⟨Nat.le_of_ble_eq_true rfl, Nat.le_of_ble_eq_true rfl⟩ (fun E S1 _ _ _ _ hx => (hX0 E S1 hx).elim) (fun r4 S1 H locs hw hH => ?_)
    refine W.widen (k := 1) (n := 128) (Nat.le_of_ble_eq_true rfl) (Nat.le_of_ble_eq_true rfl) ?_
    refine lv_astore_n (lv' := [(2, .ref _), (0, .ref _), (1, .ref _), (3, .int _)]) hC.1 hC.2.1 dJx4a65c_add_72be8_10 rfl hl (by decide) rfl (fun ls hl => ?_)
    exact bw_Jx4a65c_add_72be8_11 hl0 hC hrt hlk hmn hnx hs hX0 _ _ _ _ _ hw _ _ hH _ (lv_sub hl [1, 2, 0, 3] rfl)
abbrev rm_Jx4a65c_add_9ea2d : Room := { frames := 6, cells := 1, slots := 128, locals := 150 }
def wp_Jx4a65c_add_9ea2d (z : Nat × Nat) (S : mmS) (p0 : Nat) (p1 : Nat) (Q : Int32 → mmS → Prop) (X : String → mmS → Prop) : Prop := (p0 ∈ mL S ∧ mK S p0 = 6) ∧ ∀ S2 : mmS, S2 = sI S 30 p0 ((mI S 30 p0) + (1 : Int32)) → ∃ b3 : Nat, mR S2 25 p0 = some b3 ∧ wp_Jx4a65c_add_72be8 z S2 p0 p1 b3 (mI S2 31 p0) (fun S5 => Q (1 : Int32) S5) X
set_option maxHeartbeats 4000000 in
set_option maxRecDepth 100000 in
theorem met_Jx4a65c_add_9ea2d (l : Launch) (hl0 : l.stackTraces = false) (g : mG) (S : mmS) (p0 : Nat) (p1 : Nat) (Q : Int32 → mmS → Prop) (X : String → mmS → Prop) (hX0 : ∀ (E : String) (S : mmS), ¬ X E S) (hw : wp_Jx4a65c_add_9ea2d g.2.2.2.2.2 S p0 p1 Q X) : mMi l g yJx4a65c_add_9ea2d (wA_ yJx4a65c_add_9ea2d cJx4a65c_add_9ea2d 2 (some .boolean)) rm_Jx4a65c_add_9ea2d [.ref p0, .ref p1] S Q X := by
  refine m_of (y := yJx4a65c_add_9ea2d) (cc := cJx4a65c_add_9ea2d) (maxL := 2) (ret := (some .boolean)) (by decide) rfl (Nat.le_of_ble_eq_true rfl) ?_
  intro p e s m args below meth c ls hC hrt hlk hmn hnx hs hH hl
  have hC : CallFix p m c cJx4a65c_add_9ea2d 2 s args (wA_ yJx4a65c_add_9ea2d cJx4a65c_add_9ea2d 2 (some .boolean)) RJx4a65c := hC
  have hl : lv_has ls 2 [(0, .ref p0), (1, .ref p1)] := hl
  unfold wp_Jx4a65c_add_9ea2d at hw
  refine lv_aload_n hC.1 hC.2.1 dJx4a65c_add_9ea2d_0 rfl (lv_at hl 0 rfl) ?_
  refine lv_dup hC.1 hC.2.1 dJx4a65c_add_9ea2d_1 rfl ?_
  obtain ⟨k1, hw⟩ := hw
  refine m_getI hC hs hH cs6 fs6_0 (fun _ h => List.mem_cons_of_mem _ (inlJx4a65c _ h)) (List.mem_cons_of_mem _ q_89) (u_same (hC.2.2.2.2 _ (List.mem_cons_of_mem _ q_90))) k1 dJx4a65c_add_9ea2d_2 ?_
  refine lv_iconst (v := 1) hC.1 hC.2.1 dJx4a65c_add_9ea2d_5 (by decide) ?_
  refine lv_iadd hC.1 hC.2.1 dJx4a65c_add_9ea2d_6 ?_
  have hw := hw _ rfl
  refine m_putI hC hs hH cs6 fs6_0 (fun _ h => List.mem_cons_of_mem _ (inlJx4a65c _ h)) (List.mem_cons_of_mem _ q_89) (u_same (hC.2.2.2.2 _ (List.mem_cons_of_mem _ q_90))) (Or.inl rfl) rfl k1 dJx4a65c_add_9ea2d_7 (fun H locs hH => ?_)
  refine lv_aload_n hC.1 hC.2.1 dJx4a65c_add_9ea2d_10 rfl (lv_at hl 0 rfl) ?_
  refine lv_aload_n hC.1 hC.2.1 dJx4a65c_add_9ea2d_11 rfl (lv_at hl 1 rfl) ?_
  refine lv_aload_n hC.1 hC.2.1 dJx4a65c_add_9ea2d_12 rfl (lv_at hl 0 rfl) ?_
  obtain ⟨b3, r4, hw⟩ := hw
  refine m_getR hC hs hH cs6 fs6_1 (fun _ h => List.mem_cons_of_mem _ (inlJx4a65c _ h)) (List.mem_cons_of_mem _ q_28) (fun _ h => h) k1 r4 dJx4a65c_add_9ea2d_13 ?_
  refine lv_aload_n hC.1 hC.2.1 dJx4a65c_add_9ea2d_16 rfl (lv_at hl 0 rfl) ?_
  refine m_getI hC hs hH cs6 fs6_2 (fun _ h => List.mem_cons_of_mem _ (inlJx4a65c _ h)) (List.mem_cons_of_mem _ q_72) (fun _ h => h) k1 dJx4a65c_add_9ea2d_17 ?_
  refine m_callVv (y := yJx4a65c_add_72be8) (rest := []) hC hs hH hl.1 (cwV 3 hC.2.2.2.2 (gA_V q_91 q_92 q_93 q_16 q_94) rfl rfl rfl (by decide +kernel) ⟨Nat.le_of_ble_eq_true rfl, Nat.le_of_ble_eq_true rfl⟩) cs6 k1 (met_Jx4a65c_add_72be8 l hl0 g _ _ _ _ _ _ _ hX0 hw) rfl rfl (Nat.le_of_ble_eq_true rfl) dJx4a65c_add_9ea2d_20 ⟨Nat.le_of_ble_eq_true rfl, Nat.le_of_ble_eq_true rfl⟩ (fun E S1 _ _ _ _ hx => (hX0 E S1 hx).elim) (fun S1 H locs hw hH => ?_)
  refine W.widen (k := 1) (n := 128) (Nat.le_of_ble_eq_true rfl) (Nat.le_of_ble_eq_true rfl) ?_
  refine lv_iconst (v := 1) hC.1 hC.2.1 dJx4a65c_add_9ea2d_23 (by decide) ?_
  exact m_reti hC hH hrt rfl hlk (Nat.le_of_ble_eq_true rfl) (Nat.le_of_ble_eq_true rfl) dJx4a65c_add_9ea2d_24 hw
abbrev rm_Jx4a65c_rangeCheckForAdd_d00df : Room := { frames := 1, cells := 0, slots := 0, locals := 0 }
def wp_Jx4a65c_rangeCheckForAdd_d00df (z : Nat × Nat) (S : mmS) (p0 : Nat) (p1 : Int32) (Q : mmS → Prop) (X : String → mmS → Prop) : Prop := (p0 ∈ mL S ∧ mK S p0 = 6) ∧ ((mI S 31 p0) < p1 → False) ∧ (¬ (mI S 31 p0) < p1 → (0 ≤ p1 → Q S) ∧ (¬ 0 ≤ p1 → False))
set_option maxHeartbeats 4000000 in
set_option maxRecDepth 100000 in
theorem met_Jx4a65c_rangeCheckForAdd_d00df (l : Launch) (hl0 : l.stackTraces = false) (g : mG) (S : mmS) (p0 : Nat) (p1 : Int32) (Q : mmS → Prop) (X : String → mmS → Prop) (hX0 : ∀ (E : String) (S : mmS), ¬ X E S) (hw : wp_Jx4a65c_rangeCheckForAdd_d00df g.2.2.2.2.2 S p0 p1 Q X) : mMv l g yJx4a65c_rangeCheckForAdd_d00df (wA_ yJx4a65c_rangeCheckForAdd_d00df cJx4a65c_rangeCheckForAdd_d00df 2 none) rm_Jx4a65c_rangeCheckForAdd_d00df [.ref p0, .int p1] S Q X := by
  refine m_of (y := yJx4a65c_rangeCheckForAdd_d00df) (cc := cJx4a65c_rangeCheckForAdd_d00df) (maxL := 2) (ret := none) (by decide) rfl (Nat.le_of_ble_eq_true rfl) ?_
  intro p e s m args below meth c ls hC hrt hlk hmn hnx hs hH hl
  have hC : CallFix p m c cJx4a65c_rangeCheckForAdd_d00df 2 s args (wA_ yJx4a65c_rangeCheckForAdd_d00df cJx4a65c_rangeCheckForAdd_d00df 2 none) RJx4a65c := hC
  have hl : lv_has ls 2 [(0, .ref p0), (1, .int p1)] := hl
  unfold wp_Jx4a65c_rangeCheckForAdd_d00df at hw
  refine lv_iload_n hC.1 hC.2.1 dJx4a65c_rangeCheckForAdd_d00df_0 rfl (lv_at hl 1 rfl) ?_
  refine lv_aload_n hC.1 hC.2.1 dJx4a65c_rangeCheckForAdd_d00df_1 rfl (lv_at hl 0 rfl) ?_
  obtain ⟨k1, hw⟩ := hw
  refine m_getI hC hs hH cs6 fs6_2 (fun _ h => List.mem_cons_of_mem _ (inlJx4a65c _ h)) (List.mem_cons_of_mem _ q_72) (fun _ h => h) k1 dJx4a65c_rangeCheckForAdd_d00df_2 ?_
  refine lv_icmp_gt (tgt := 12) hC.1 hC.2.1 dJx4a65c_rangeCheckForAdd_d00df_5 (by decide) (fun hc => ?_) (fun hc => ?_)
  · have hw := hw.1 hc
    exact False.elim hw
  · have hw := hw.2 hc
    refine lv_iload_n hC.1 hC.2.1 dJx4a65c_rangeCheckForAdd_d00df_8 rfl (lv_at hl 1 rfl) ?_
    refine lv_if_ge (tgt := 25) hC.1 hC.2.1 dJx4a65c_rangeCheckForAdd_d00df_9 (by decide) (fun hc => ?_) (fun hc => ?_)
    · have hw := hw.1 hc
      exact m_retv hC hH hrt hlk (Nat.le_of_ble_eq_true rfl) (Nat.le_of_ble_eq_true rfl) dJx4a65c_rangeCheckForAdd_d00df_25 hw
    · have hw := hw.2 hc
      exact False.elim hw
abbrev rm_Jx4a65c_add_7a177 : Room := { frames := 5, cells := 1, slots := 128, locals := 127 }
def bk_Jx4a65c_add_7a177_38 (z : Nat × Nat) (Q : mmS → Prop) (X : String → mmS → Prop) (S : mmS) (x0 : Nat) (x1 : Int32) (x2 : Nat) (x3 : Int32) (x4 : Nat) : Prop := (x4 ∈ mL S ∧ mK S x4 = 8) ∧ (¬ x1 < 0 ∧ ¬ (x1 + (1 : Int32)) < 0 ∧ ¬ (x3 - x1) < 0 ∧ (x1).toNatClampNeg + (x3 - x1).toNatClampNeg ≤ mN S x4 ∧ (x1 + (1 : Int32)).toNatClampNeg + (x3 - x1).toNatClampNeg ≤ mN S x4) ∧ (∀ i : Nat, i < (x3 - x1).toNatClampNeg → ∀ y : Nat, mQ S x4 ((x1).toNatClampNeg + i) = some y → mOb S y) ∧ ∀ S3 : mmS, S3 = sQr S x4 (va_cpy (mQ S x4) (mQ S x4) (x1).toNatClampNeg (x1 + (1 : Int32)).toNatClampNeg (x3 - x1).toNatClampNeg) → vp_in x1 (mN S3 x4) ∧ mOb S3 x2 ∧ ∀ S7 : mmS, S7 = sQ S3 x4 (x1).toNatClampNeg (some x2) → (x0 ∈ mL S7 ∧ mK S7 x0 = 6) ∧ ∀ S9 : mmS, S9 = sI S7 31 x0 (x3 + (1 : Int32)) → Q S9
def wp_Jx4a65c_add_7a177 (z : Nat × Nat) (S : mmS) (p0 : Nat) (p1 : Int32) (p2 : Nat) (Q : mmS → Prop) (X : String → mmS → Prop) : Prop := (p0 ∈ mL S ∧ mK S p0 = 6) ∧ wp_Jx4a65c_rangeCheckForAdd_d00df z S p0 p1 (fun S1 => (p0 ∈ mL S1 ∧ mK S1 p0 = 6) ∧ ∀ S4 : mmS, S4 = sI S1 30 p0 ((mI S1 30 p0) + (1 : Int32)) → ∀ v5 : Int32, v5 = (mI S4 31 p0) → ∃ b6 : Nat, mR S4 25 p0 = some b6 ∧ mLn z S4 b6 ∧ (¬ (mI S4 31 p0) = (mLen z S4 b6) → bk_Jx4a65c_add_7a177_38 z Q X S4 p0 p1 p2 v5 b6) ∧ ((mI S4 31 p0) = (mLen z S4 b6) → wp_Jx4a65c_grow_d5877 z S4 p0 (fun r10 S9 => bk_Jx4a65c_add_7a177_38 z Q X S9 p0 p1 p2 v5 r10) X)) X
set_option maxHeartbeats 4000000 in
set_option maxRecDepth 100000 in
theorem bw_Jx4a65c_add_7a177_38 {p : Program} {l : Launch} {e : Env} {s : State} {m : MethodId} {args : Array Value} {below : List Frame} {meth : Method} {c : Code} {g : mG} {Q : mmS → Prop} {X : String → mmS → Prop} (hl0 : l.stackTraces = false) (hC : CallFix p m c cJx4a65c_add_7a177 5 s args (wA_ yJx4a65c_add_7a177 cJx4a65c_add_7a177 5 none) RJx4a65c) (hrt : meth.sig.returnType = none) (hlk : meth.locks = false) (hmn : meth.name = yJx4a65c_add_7a177.name) (hnx : ∀ x ∈ c.exceptionTable.toList, False) (hs : mX g s) (hX0 : ∀ (E : String) (S : mmS), ¬ X E S) : ∀ (S : mmS) (x0 : Nat) (x1 : Int32) (x2 : Nat) (x3 : Int32) (x4 : Nat), bk_Jx4a65c_add_7a177_38 g.2.2.2.2.2 Q X S x0 x1 x2 x3 x4 → ∀ (H : Heap) (locs : List Loc), mH g S s H locs → ∀ ls : Array Slot, lv_has ls 5 [(0, .ref x0), (1, .int x1), (2, .ref x2), (3, .int x3), (4, .ref x4)] → W p l e rm_Jx4a65c_add_7a177 s m args below meth c H locs 1 128 (vx_MQ below (va_Qv Q (wO g) (mB g)) (vx_X (fun _ : mmS => True) (fun E S1 t => X E S1 ∧ wO g S1 t) (mB g)) args s rm_Jx4a65c_add_7a177.cells rm_Jx4a65c_add_7a177.slots (mB g)) (F0 m 38 ls []) := by
  intro S x0 x1 x2 x3 x4 hw H locs hH ls hl
  unfold bk_Jx4a65c_add_7a177_38 at hw
  refine lv_aload hC.1 hC.2.1 dJx4a65c_add_7a177_38 (lv_at hl 4 rfl) ?_
  refine lv_iload_n hC.1 hC.2.1 dJx4a65c_add_7a177_40 rfl (lv_at hl 1 rfl) ?_
  refine lv_aload hC.1 hC.2.1 dJx4a65c_add_7a177_41 (lv_at hl 4 rfl) ?_
  refine lv_iload_n hC.1 hC.2.1 dJx4a65c_add_7a177_43 rfl (lv_at hl 1 rfl) ?_
  refine lv_iconst (v := 1) hC.1 hC.2.1 dJx4a65c_add_7a177_44 (by decide) ?_
  refine lv_iadd hC.1 hC.2.1 dJx4a65c_add_7a177_45 ?_
  refine lv_iload_n hC.1 hC.2.1 dJx4a65c_add_7a177_46 rfl (lv_at hl 3 rfl) ?_
  refine lv_iload_n hC.1 hC.2.1 dJx4a65c_add_7a177_47 rfl (lv_at hl 1 rfl) ?_
  refine lv_isub hC.1 hC.2.1 dJx4a65c_add_7a177_48 ?_
  obtain ⟨k1, hw⟩ := hw
  obtain ⟨n2, hw⟩ := hw
  obtain ⟨n4, hw⟩ := hw
  have hw := hw _ rfl
  refine m_copyQ hC hs hH hl.1 (List.mem_cons_of_mem _ q_318) (List.mem_cons_of_mem _ q_131) (List.mem_cons_of_mem _ q_132) (List.mem_cons_of_mem _ q_133) k1 k1 n2 (fun i hi y hy => mOb_any hs hH (n4 i hi y hy)) (Nat.le_of_ble_eq_true rfl) (by decide) dJx4a65c_add_7a177_49 (fun H locs hH => ?_)
  refine lv_aload hC.1 hC.2.1 dJx4a65c_add_7a177_52 (lv_at hl 4 rfl) ?_
  refine lv_iload_n hC.1 hC.2.1 dJx4a65c_add_7a177_54 rfl (lv_at hl 1 rfl) ?_
  refine lv_aload_n hC.1 hC.2.1 dJx4a65c_add_7a177_55 rfl (lv_at hl 2 rfl) ?_
  obtain ⟨i5, o6, hw⟩ := hw
  have hw := hw _ rfl
  refine m_qast hC hs hH k1 i5 (mOb_any hs hH o6) dJx4a65c_add_7a177_56 (fun H locs hH => ?_)
  refine lv_aload_n hC.1 hC.2.1 dJx4a65c_add_7a177_57 rfl (lv_at hl 0 rfl) ?_
  refine lv_iload_n hC.1 hC.2.1 dJx4a65c_add_7a177_58 rfl (lv_at hl 3 rfl) ?_
  refine lv_iconst (v := 1) hC.1 hC.2.1 dJx4a65c_add_7a177_59 (by decide) ?_
  refine lv_iadd hC.1 hC.2.1 dJx4a65c_add_7a177_60 ?_
  obtain ⟨k8, hw⟩ := hw
  have hw := hw _ rfl
  refine m_putI hC hs hH cs6 fs6_2 (fun _ h => List.mem_cons_of_mem _ (inlJx4a65c _ h)) (List.mem_cons_of_mem _ q_72) (fun _ h => h) (Or.inl rfl) rfl k8 dJx4a65c_add_7a177_61 (fun H locs hH => ?_)
  exact m_retv hC hH hrt hlk (Nat.le_of_ble_eq_true rfl) (Nat.le_of_ble_eq_true rfl) dJx4a65c_add_7a177_64 hw
set_option maxHeartbeats 4000000 in
set_option maxRecDepth 100000 in
theorem met_Jx4a65c_add_7a177 (l : Launch) (hl0 : l.stackTraces = false) (g : mG) (S : mmS) (p0 : Nat) (p1 : Int32) (p2 : Nat) (Q : mmS → Prop) (X : String → mmS → Prop) (hX0 : ∀ (E : String) (S : mmS), ¬ X E S) (hw : wp_Jx4a65c_add_7a177 g.2.2.2.2.2 S p0 p1 p2 Q X) : mMv l g yJx4a65c_add_7a177 (wA_ yJx4a65c_add_7a177 cJx4a65c_add_7a177 5 none) rm_Jx4a65c_add_7a177 [.ref p0, .int p1, .ref p2] S Q X := by
  refine m_of (y := yJx4a65c_add_7a177) (cc := cJx4a65c_add_7a177) (maxL := 5) (ret := none) (by decide) rfl (Nat.le_of_ble_eq_true rfl) ?_
  intro p e s m args below meth c ls hC hrt hlk hmn hnx hs hH hl
  have hC : CallFix p m c cJx4a65c_add_7a177 5 s args (wA_ yJx4a65c_add_7a177 cJx4a65c_add_7a177 5 none) RJx4a65c := hC
  have hl : lv_has ls 5 [(0, .ref p0), (1, .int p1), (2, .ref p2)] := hl
  unfold wp_Jx4a65c_add_7a177 at hw
  refine lv_aload_n hC.1 hC.2.1 dJx4a65c_add_7a177_0 rfl (lv_at hl 0 rfl) ?_
  refine lv_iload_n hC.1 hC.2.1 dJx4a65c_add_7a177_1 rfl (lv_at hl 1 rfl) ?_
  obtain ⟨k2, hw⟩ := hw
  refine m_callVv (y := yJx4a65c_rangeCheckForAdd_d00df) (rest := []) hC hs hH hl.1 (cwV 1 hC.2.2.2.2 (gA_V q_319 q_320 q_321 q_16 q_322) rfl rfl rfl (by decide +kernel) ⟨Nat.le_of_ble_eq_true rfl, Nat.le_of_ble_eq_true rfl⟩) cs6 k2 (met_Jx4a65c_rangeCheckForAdd_d00df l hl0 g _ _ _ _ _ hX0 hw) rfl rfl (Nat.le_of_ble_eq_true rfl) dJx4a65c_add_7a177_2 ⟨Nat.le_of_ble_eq_true rfl, Nat.le_of_ble_eq_true rfl⟩ (fun E S1 _ _ _ _ hx => (hX0 E S1 hx).elim) (fun S1 H locs hw hH => ?_)
  refine W.widen (k := 0) (n := 0) (Nat.le_of_ble_eq_true rfl) (Nat.le_of_ble_eq_true rfl) ?_
  refine lv_aload_n hC.1 hC.2.1 dJx4a65c_add_7a177_5 rfl (lv_at hl 0 rfl) ?_
  refine lv_dup hC.1 hC.2.1 dJx4a65c_add_7a177_6 rfl ?_
  obtain ⟨k3, hw⟩ := hw
  refine m_getI hC hs hH cs6 fs6_0 (fun _ h => List.mem_cons_of_mem _ (inlJx4a65c _ h)) (List.mem_cons_of_mem _ q_89) (u_same (hC.2.2.2.2 _ (List.mem_cons_of_mem _ q_90))) k3 dJx4a65c_add_7a177_7 ?_
  refine lv_iconst (v := 1) hC.1 hC.2.1 dJx4a65c_add_7a177_10 (by decide) ?_
  refine lv_iadd hC.1 hC.2.1 dJx4a65c_add_7a177_11 ?_
  have hw := hw _ rfl
  refine m_putI hC hs hH cs6 fs6_0 (fun _ h => List.mem_cons_of_mem _ (inlJx4a65c _ h)) (List.mem_cons_of_mem _ q_89) (u_same (hC.2.2.2.2 _ (List.mem_cons_of_mem _ q_90))) (Or.inl rfl) rfl k3 dJx4a65c_add_7a177_12 (fun H locs hH => ?_)
  refine lv_aload_n hC.1 hC.2.1 dJx4a65c_add_7a177_15 rfl (lv_at hl 0 rfl) ?_
  refine m_getI hC hs hH cs6 fs6_2 (fun _ h => List.mem_cons_of_mem _ (inlJx4a65c _ h)) (List.mem_cons_of_mem _ q_72) (fun _ h => h) k3 dJx4a65c_add_7a177_16 ?_
  refine lv_dup hC.1 hC.2.1 dJx4a65c_add_7a177_19 rfl ?_
  have hw := hw _ rfl
  refine lv_istore_n (lv' := [(3, .int _), (0, .ref _), (1, .int _), (2, .ref _)]) hC.1 hC.2.1 dJx4a65c_add_7a177_20 rfl hl (by decide) rfl (fun ls hl => ?_)
  refine lv_aload_n hC.1 hC.2.1 dJx4a65c_add_7a177_21 rfl (lv_at hl 1 rfl) ?_
  obtain ⟨b6, r7, hw⟩ := hw
  refine m_getR hC hs hH cs6 fs6_1 (fun _ h => List.mem_cons_of_mem _ (inlJx4a65c _ h)) (List.mem_cons_of_mem _ q_28) (fun _ h => h) k3 r7 dJx4a65c_add_7a177_22 ?_
  refine lv_dup hC.1 hC.2.1 dJx4a65c_add_7a177_25 rfl ?_
  refine lv_astore (lv' := [(4, .ref _), (3, .int _), (0, .ref _), (1, .int _), (2, .ref _)]) hC.1 hC.2.1 dJx4a65c_add_7a177_26 hl (by decide) rfl (fun ls hl => ?_)
  obtain ⟨n8, hw⟩ := hw
  refine m_alenQ hC hs hH n8 dJx4a65c_add_7a177_28 ?_
  refine lv_icmp_ne (tgt := 38) hC.1 hC.2.1 dJx4a65c_add_7a177_29 (by decide) (fun hc => ?_) (fun hc => ?_)
  · have hw := hw.1 hc
    refine W.widen (k := 1) (n := 128) (Nat.le_of_ble_eq_true rfl) (Nat.le_of_ble_eq_true rfl) ?_
    exact bw_Jx4a65c_add_7a177_38 hl0 hC hrt hlk hmn hnx hs hX0 _ _ _ _ _ _ hw _ _ hH _ (lv_sub hl [2, 3, 4, 1, 0] rfl)
  · have hw := hw.2 hc
    refine lv_aload_n hC.1 hC.2.1 dJx4a65c_add_7a177_32 rfl (lv_at hl 2 rfl) ?_
    refine m_callVq (y := yJx4a65c_grow_d5877) (rest := []) hC hs hH hl.1 (cwV 0 hC.2.2.2.2 (gA_V q_95 q_96 q_97 q_16 q_98) rfl rfl rfl (by decide +kernel) ⟨Nat.le_of_ble_eq_true rfl, Nat.le_of_ble_eq_true rfl⟩) cs6 k3 (met_Jx4a65c_grow_d5877 l hl0 g _ _ _ _ hX0 hw) rfl rfl (Nat.le_of_ble_eq_true rfl) dJx4a65c_add_7a177_33 ⟨Nat.le_of_ble_eq_true rfl, Nat.le_of_ble_eq_true rfl⟩ (fun E S1 _ _ _ _ hx => (hX0 E S1 hx).elim) (fun r10 S1 H locs hw hH => ?_)
    refine W.widen (k := 1) (n := 128) (Nat.le_of_ble_eq_true rfl) (Nat.le_of_ble_eq_true rfl) ?_
    refine lv_astore (lv' := [(4, .ref _), (3, .int _), (0, .ref _), (1, .int _), (2, .ref _)]) hC.1 hC.2.1 dJx4a65c_add_7a177_36 hl (by decide) rfl (fun ls hl => ?_)
    exact bw_Jx4a65c_add_7a177_38 hl0 hC hrt hlk hmn hnx hs hX0 _ _ _ _ _ _ hw _ _ hH _ (lv_sub hl [2, 3, 4, 1, 0] rfl)
