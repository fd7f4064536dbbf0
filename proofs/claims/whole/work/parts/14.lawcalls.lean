/-! 14.lawcalls: weakest preconditions and walks, laid by wip/whole/gen.py -/
abbrev rm_L_addTariff : Room := { frames := 8, cells := 4, slots := 142, locals := 197 }
def wp_L_addTariff (z : Nat × Nat) (S : mmS) (p0 : Nat) (p1 : Int32) (p2 : Int32) (p3 : Int32) (p4 : Int32) (p5 : Int32) (p6 : Nat) (Q : Int32 → mmS → Prop) (X : String → mmS → Prop) : Prop := (p0 ∈ mL S ∧ mK S p0 = 4) ∧ wp_X4_addTariff z S p0 p1 p2 p3 p4 p5 (fun r3 S1 => (p6 ∈ mL S1 ∧ mK S1 p6 = 9) ∧ vp_in (0 : Int32) (mN S1 p6) ∧ ∀ S6 : mmS, S6 = sJ S1 p6 ((0 : Int32)).toNatClampNeg (Int32.toInt64 r3) → Q (0 : Int32) S6) (fun (E : String) (S9 : mmS) => (E = "java/lang/IllegalArgumentException" ∧ Q (1 : Int32) S9) ∨ (E = "java/lang/IllegalStateException" ∧ Q (2 : Int32) S9))
set_option maxHeartbeats 4000000 in
set_option maxRecDepth 100000 in
theorem met_L_addTariff (l : Launch) (hl0 : l.stackTraces = false) (g : mG) (S : mmS) (p0 : Nat) (p1 : Int32) (p2 : Int32) (p3 : Int32) (p4 : Int32) (p5 : Int32) (p6 : Nat) (Q : Int32 → mmS → Prop) (X : String → mmS → Prop) (hw : wp_L_addTariff g.2.2.2.2.2 S p0 p1 p2 p3 p4 p5 p6 Q X) : mMi l g yL_addTariff (wAh_ yL_addTariff cL_addTariff 8 (some .int) [(0, 16, 19, 13), (0, 16, 23, 15)]) rm_L_addTariff [.ref p0, .int p1, .int p2, .int p3, .int p4, .int p5, .ref p6] S Q X := by
  refine m_ofH (y := yL_addTariff) (cc := cL_addTariff) (maxL := 8) (ret := (some .int)) (hh := [(0, 16, 19, 13), (0, 16, 23, 15)]) (by decide) rfl (Nat.le_of_ble_eq_true rfl) ?_
  intro p e s m args below meth c ls hC hrt hlk hmn hnx hs hH hl
  have hC : CallFix p m c cL_addTariff 8 s args (wAh_ yL_addTariff cL_addTariff 8 (some .int) [(0, 16, 19, 13), (0, 16, 23, 15)]) RL := hC
  have hl : lv_has ls 8 [(0, .ref p0), (1, .int p1), (2, .int p2), (3, .int p3), (4, .int p4), (5, .int p5), (6, .ref p6)] := hl
  unfold wp_L_addTariff at hw
  refine lv_aload hC.1 hC.2.1 dL_addTariff_0 (lv_at hl 6 rfl) ?_
  refine lv_iconst (v := 0) hC.1 hC.2.1 dL_addTariff_2 (by decide) ?_
  refine lv_aload_n hC.1 hC.2.1 dL_addTariff_3 rfl (lv_at hl 0 rfl) ?_
  refine lv_iload_n hC.1 hC.2.1 dL_addTariff_4 rfl (lv_at hl 1 rfl) ?_
  refine lv_iload_n hC.1 hC.2.1 dL_addTariff_5 rfl (lv_at hl 2 rfl) ?_
  refine lv_iload_n hC.1 hC.2.1 dL_addTariff_6 rfl (lv_at hl 3 rfl) ?_
  refine lv_iload hC.1 hC.2.1 dL_addTariff_7 (lv_at hl 4 rfl) ?_
  refine lv_iload hC.1 hC.2.1 dL_addTariff_9 (lv_at hl 5 rfl) ?_
  obtain ⟨k2, hw⟩ := hw
  refine m_callVi (y := yX4_addTariff) (rest := [.int _, .ref _]) hC hs hH hl.1 (cwV 5 hC.2.2.2.2 (gA_V q_63 q_64 q_65 q_2 q_66) rfl rfl rfl (by decide +kernel) ⟨Nat.le_of_ble_eq_true rfl, Nat.le_of_ble_eq_true rfl⟩) cs4 k2 (met_X4_addTariff l hl0 g _ _ _ _ _ _ _ _ _ hw) rfl rfl (Nat.le_of_ble_eq_true rfl) dL_addTariff_11 ⟨Nat.le_of_ble_eq_true rfl, Nat.le_of_ble_eq_true rfl⟩ (fun E S9 H locs ce q9 hx hH hce hcv hcl => ?_) (fun r3 S1 H locs hw hH => ?_)
  · rcases hx with ⟨rfl, hw⟩ | ⟨rfl, hw⟩
    · refine vx_catch (own := RL) hC.2.2.2.1 [] (⟨0, 16, 19, 13⟩ : ExceptionTableEntry) [(⟨0, 16, 23, 15⟩ : ExceptionTableEntry)] (by rw [hnx]; rfl) (fun z hz => absurd hz List.not_mem_nil) (by decide) (by decide) (hC.2.2.2.2 _ (List.mem_cons_of_mem _ q_61)) (va_Nw.use rfl (hs.2.2.2.2.2.2.2.2.2.2.1 ("java/lang/IllegalArgumentException", "java/lang/IllegalArgumentException") (by decide +kernel))) hce hcv hcl ?_
      refine W.widen (k := 4) (n := 142) (Nat.le_of_ble_eq_true rfl) (Nat.le_of_ble_eq_true rfl) ?_
      refine lv_astore (lv' := [(7, .ref _), (0, .ref _), (1, .int _), (2, .int _), (3, .int _), (4, .int _), (5, .int _), (6, .ref _)]) hC.1 hC.2.1 dL_addTariff_19 hl (by decide) rfl (fun ls hl => ?_)
      refine lv_iconst (v := 1) hC.1 hC.2.1 dL_addTariff_21 (by decide) ?_
      exact m_reti hC hH hrt rfl hlk (Nat.le_of_ble_eq_true rfl) (Nat.le_of_ble_eq_true rfl) dL_addTariff_22 hw
    · refine vx_catch (own := RL) hC.2.2.2.1 [(⟨0, 16, 19, 13⟩ : ExceptionTableEntry)] (⟨0, 16, 23, 15⟩ : ExceptionTableEntry) [] (by rw [hnx]; rfl) (List.forall_mem_cons.mpr ⟨Or.inr ⟨by decide, "java/lang/IllegalArgumentException", hC.2.2.2.2 _ (List.mem_cons_of_mem _ q_61), hs.2.2.2.2.2.2.2.2.2.2.2.1 ("java/lang/IllegalStateException", "java/lang/IllegalArgumentException") (by decide +kernel)⟩, fun _ h => absurd h List.not_mem_nil⟩) (by decide) (by decide) (hC.2.2.2.2 _ (List.mem_cons_of_mem _ q_62)) (va_Nw.use rfl (hs.2.2.2.2.2.2.2.2.2.2.1 ("java/lang/IllegalStateException", "java/lang/IllegalStateException") (by decide +kernel))) hce hcv hcl ?_
      refine W.widen (k := 4) (n := 142) (Nat.le_of_ble_eq_true rfl) (Nat.le_of_ble_eq_true rfl) ?_
      refine lv_astore (lv' := [(7, .ref _), (0, .ref _), (1, .int _), (2, .int _), (3, .int _), (4, .int _), (5, .int _), (6, .ref _)]) hC.1 hC.2.1 dL_addTariff_23 hl (by decide) rfl (fun ls hl => ?_)
      refine lv_iconst (v := 2) hC.1 hC.2.1 dL_addTariff_25 (by decide) ?_
      exact m_reti hC hH hrt rfl hlk (Nat.le_of_ble_eq_true rfl) (Nat.le_of_ble_eq_true rfl) dL_addTariff_26 hw
  refine W.widen (k := 4) (n := 142) (Nat.le_of_ble_eq_true rfl) (Nat.le_of_ble_eq_true rfl) ?_
  refine lv_i2l hC.1 hC.2.1 dL_addTariff_14 rfl ?_
  obtain ⟨k4, hw⟩ := hw
  obtain ⟨i5, hw⟩ := hw
  have hw := hw _ rfl
  refine m_jast hC hs hH k4 i5 dL_addTariff_15 (fun H locs hH => ?_)
  refine lv_goto (tgt := 27) hC.1 hC.2.1 dL_addTariff_16 (by decide) ?_
  refine lv_iconst (v := 0) hC.1 hC.2.1 dL_addTariff_27 (by decide) ?_
  exact m_reti hC hH hrt rfl hlk (Nat.le_of_ble_eq_true rfl) (Nat.le_of_ble_eq_true rfl) dL_addTariff_28 hw
abbrev rm_L_setZone : Room := { frames := 8, cells := 3, slots := 18, locals := 147 }
def wp_L_setZone (z : Nat × Nat) (S : mmS) (p0 : Nat) (p1 : Int32) (p2 : Int32) (p3 : Int32) (p4 : Int32) (p5 : Nat) (Q : Int32 → mmS → Prop) (X : String → mmS → Prop) : Prop := (p0 ∈ mL S ∧ mK S p0 = 4) ∧ wp_X4_setZone z S p0 p1 p2 p3 p4 (fun r3 S1 => (p5 ∈ mL S1 ∧ mK S1 p5 = 9) ∧ vp_in (0 : Int32) (mN S1 p5) ∧ ∀ S6 : mmS, S6 = sJ S1 p5 ((0 : Int32)).toNatClampNeg (Int32.toInt64 r3) → Q (0 : Int32) S6) (fun (E : String) (S9 : mmS) => (E = "java/lang/IndexOutOfBoundsException" ∧ Q (1 : Int32) S9) ∨ (E = "java/lang/IllegalArgumentException" ∧ Q (2 : Int32) S9))
set_option maxHeartbeats 4000000 in
set_option maxRecDepth 100000 in
theorem met_L_setZone (l : Launch) (hl0 : l.stackTraces = false) (g : mG) (S : mmS) (p0 : Nat) (p1 : Int32) (p2 : Int32) (p3 : Int32) (p4 : Int32) (p5 : Nat) (Q : Int32 → mmS → Prop) (X : String → mmS → Prop) (hw : wp_L_setZone g.2.2.2.2.2 S p0 p1 p2 p3 p4 p5 Q X) : mMi l g yL_setZone (wAh_ yL_setZone cL_setZone 7 (some .int) [(0, 14, 17, 21), (0, 14, 21, 13)]) rm_L_setZone [.ref p0, .int p1, .int p2, .int p3, .int p4, .ref p5] S Q X := by
  refine m_ofH (y := yL_setZone) (cc := cL_setZone) (maxL := 7) (ret := (some .int)) (hh := [(0, 14, 17, 21), (0, 14, 21, 13)]) (by decide) rfl (Nat.le_of_ble_eq_true rfl) ?_
  intro p e s m args below meth c ls hC hrt hlk hmn hnx hs hH hl
  have hC : CallFix p m c cL_setZone 7 s args (wAh_ yL_setZone cL_setZone 7 (some .int) [(0, 14, 17, 21), (0, 14, 21, 13)]) RL := hC
  have hl : lv_has ls 7 [(0, .ref p0), (1, .int p1), (2, .int p2), (3, .int p3), (4, .int p4), (5, .ref p5)] := hl
  unfold wp_L_setZone at hw
  refine lv_aload hC.1 hC.2.1 dL_setZone_0 (lv_at hl 5 rfl) ?_
  refine lv_iconst (v := 0) hC.1 hC.2.1 dL_setZone_2 (by decide) ?_
  refine lv_aload_n hC.1 hC.2.1 dL_setZone_3 rfl (lv_at hl 0 rfl) ?_
  refine lv_iload_n hC.1 hC.2.1 dL_setZone_4 rfl (lv_at hl 1 rfl) ?_
  refine lv_iload_n hC.1 hC.2.1 dL_setZone_5 rfl (lv_at hl 2 rfl) ?_
  refine lv_iload_n hC.1 hC.2.1 dL_setZone_6 rfl (lv_at hl 3 rfl) ?_
  refine lv_iload hC.1 hC.2.1 dL_setZone_7 (lv_at hl 4 rfl) ?_
  obtain ⟨k2, hw⟩ := hw
  refine m_callVi (y := yX4_setZone) (rest := [.int _, .ref _]) hC hs hH hl.1 (cwV 4 hC.2.2.2.2 (gA_V q_171 q_172 q_173 q_2 q_174) rfl rfl rfl (by decide +kernel) ⟨Nat.le_of_ble_eq_true rfl, Nat.le_of_ble_eq_true rfl⟩) cs4 k2 (met_X4_setZone l hl0 g _ _ _ _ _ _ _ _ hw) rfl rfl (Nat.le_of_ble_eq_true rfl) dL_setZone_9 ⟨Nat.le_of_ble_eq_true rfl, Nat.le_of_ble_eq_true rfl⟩ (fun E S9 H locs ce q9 hx hH hce hcv hcl => ?_) (fun r3 S1 H locs hw hH => ?_)
  · rcases hx with ⟨rfl, hw⟩ | ⟨rfl, hw⟩
    · refine vx_catch (own := RL) hC.2.2.2.1 [] (⟨0, 14, 17, 21⟩ : ExceptionTableEntry) [(⟨0, 14, 21, 13⟩ : ExceptionTableEntry)] (by rw [hnx]; rfl) (fun z hz => absurd hz List.not_mem_nil) (by decide) (by decide) (hC.2.2.2.2 _ (List.mem_cons_of_mem _ q_170)) (va_Nw.use rfl (hs.2.2.2.2.2.2.2.2.2.2.1 ("java/lang/IndexOutOfBoundsException", "java/lang/IndexOutOfBoundsException") (by decide +kernel))) hce hcv hcl ?_
      refine W.widen (k := 3) (n := 18) (Nat.le_of_ble_eq_true rfl) (Nat.le_of_ble_eq_true rfl) ?_
      refine lv_astore (lv' := [(6, .ref _), (0, .ref _), (1, .int _), (2, .int _), (3, .int _), (4, .int _), (5, .ref _)]) hC.1 hC.2.1 dL_setZone_17 hl (by decide) rfl (fun ls hl => ?_)
      refine lv_iconst (v := 1) hC.1 hC.2.1 dL_setZone_19 (by decide) ?_
      exact m_reti hC hH hrt rfl hlk (Nat.le_of_ble_eq_true rfl) (Nat.le_of_ble_eq_true rfl) dL_setZone_20 hw
    · refine vx_catch (own := RL) hC.2.2.2.1 [(⟨0, 14, 17, 21⟩ : ExceptionTableEntry)] (⟨0, 14, 21, 13⟩ : ExceptionTableEntry) [] (by rw [hnx]; rfl) (List.forall_mem_cons.mpr ⟨Or.inr ⟨by decide, "java/lang/IndexOutOfBoundsException", hC.2.2.2.2 _ (List.mem_cons_of_mem _ q_170), hs.2.2.2.2.2.2.2.2.2.2.2.1 ("java/lang/IllegalArgumentException", "java/lang/IndexOutOfBoundsException") (by decide +kernel)⟩, fun _ h => absurd h List.not_mem_nil⟩) (by decide) (by decide) (hC.2.2.2.2 _ (List.mem_cons_of_mem _ q_61)) (va_Nw.use rfl (hs.2.2.2.2.2.2.2.2.2.2.1 ("java/lang/IllegalArgumentException", "java/lang/IllegalArgumentException") (by decide +kernel))) hce hcv hcl ?_
      refine W.widen (k := 3) (n := 18) (Nat.le_of_ble_eq_true rfl) (Nat.le_of_ble_eq_true rfl) ?_
      refine lv_astore (lv' := [(6, .ref _), (0, .ref _), (1, .int _), (2, .int _), (3, .int _), (4, .int _), (5, .ref _)]) hC.1 hC.2.1 dL_setZone_21 hl (by decide) rfl (fun ls hl => ?_)
      refine lv_iconst (v := 2) hC.1 hC.2.1 dL_setZone_23 (by decide) ?_
      exact m_reti hC hH hrt rfl hlk (Nat.le_of_ble_eq_true rfl) (Nat.le_of_ble_eq_true rfl) dL_setZone_24 hw
  refine W.widen (k := 3) (n := 18) (Nat.le_of_ble_eq_true rfl) (Nat.le_of_ble_eq_true rfl) ?_
  refine lv_i2l hC.1 hC.2.1 dL_setZone_12 rfl ?_
  obtain ⟨k4, hw⟩ := hw
  obtain ⟨i5, hw⟩ := hw
  have hw := hw _ rfl
  refine m_jast hC hs hH k4 i5 dL_setZone_13 (fun H locs hH => ?_)
  refine lv_goto (tgt := 25) hC.1 hC.2.1 dL_setZone_14 (by decide) ?_
  refine lv_iconst (v := 0) hC.1 hC.2.1 dL_setZone_25 (by decide) ?_
  exact m_reti hC hH hrt rfl hlk (Nat.le_of_ble_eq_true rfl) (Nat.le_of_ble_eq_true rfl) dL_setZone_26 hw
abbrev rm_L_setPeak : Room := { frames := 7, cells := 1, slots := 6, locals := 139 }
def wp_L_setPeak (z : Nat × Nat) (S : mmS) (p0 : Nat) (p1 : Int32) (p2 : Int32) (p3 : Nat) (Q : Int32 → mmS → Prop) (X : String → mmS → Prop) : Prop := (p0 ∈ mL S ∧ mK S p0 = 4) ∧ wp_X4_setPeak z S p0 p1 p2 (fun r3 S1 => (r3 = 0 → (p3 ∈ mL S1 ∧ mK S1 p3 = 9) ∧ vp_in (0 : Int32) (mN S1 p3) ∧ ∀ S6 : mmS, S6 = sJ S1 p3 ((0 : Int32)).toNatClampNeg (0 : Int64) → Q (0 : Int32) S6) ∧ (¬ r3 = 0 → (p3 ∈ mL S1 ∧ mK S1 p3 = 9) ∧ vp_in (0 : Int32) (mN S1 p3) ∧ ∀ S9 : mmS, S9 = sJ S1 p3 ((0 : Int32)).toNatClampNeg (1 : Int64) → Q (0 : Int32) S9)) (fun (E : String) (S9 : mmS) => (E = "java/lang/IllegalArgumentException" ∧ Q (1 : Int32) S9))
set_option maxHeartbeats 4000000 in
set_option maxRecDepth 100000 in
theorem met_L_setPeak (l : Launch) (hl0 : l.stackTraces = false) (g : mG) (S : mmS) (p0 : Nat) (p1 : Int32) (p2 : Int32) (p3 : Nat) (Q : Int32 → mmS → Prop) (X : String → mmS → Prop) (hw : wp_L_setPeak g.2.2.2.2.2 S p0 p1 p2 p3 Q X) : mMi l g yL_setPeak (wAh_ yL_setPeak cL_setPeak 5 (some .int) [(0, 17, 20, 13)]) rm_L_setPeak [.ref p0, .int p1, .int p2, .ref p3] S Q X := by
  refine m_ofH (y := yL_setPeak) (cc := cL_setPeak) (maxL := 5) (ret := (some .int)) (hh := [(0, 17, 20, 13)]) (by decide) rfl (Nat.le_of_ble_eq_true rfl) ?_
  intro p e s m args below meth c ls hC hrt hlk hmn hnx hs hH hl
  have hC : CallFix p m c cL_setPeak 5 s args (wAh_ yL_setPeak cL_setPeak 5 (some .int) [(0, 17, 20, 13)]) RL := hC
  have hl : lv_has ls 5 [(0, .ref p0), (1, .int p1), (2, .int p2), (3, .ref p3)] := hl
  unfold wp_L_setPeak at hw
  refine lv_aload_n hC.1 hC.2.1 dL_setPeak_0 rfl (lv_at hl 3 rfl) ?_
  refine lv_iconst (v := 0) hC.1 hC.2.1 dL_setPeak_1 (by decide) ?_
  refine lv_aload_n hC.1 hC.2.1 dL_setPeak_2 rfl (lv_at hl 0 rfl) ?_
  refine lv_iload_n hC.1 hC.2.1 dL_setPeak_3 rfl (lv_at hl 1 rfl) ?_
  refine lv_iload_n hC.1 hC.2.1 dL_setPeak_4 rfl (lv_at hl 2 rfl) ?_
  obtain ⟨k2, hw⟩ := hw
  refine m_callVi (y := yX4_setPeak) (rest := [.int _, .ref _]) hC hs hH hl.1 (cwV 2 hC.2.2.2.2 (gA_V q_302 q_303 q_304 q_2 q_305) rfl rfl rfl (by decide +kernel) ⟨Nat.le_of_ble_eq_true rfl, Nat.le_of_ble_eq_true rfl⟩) cs4 k2 (met_X4_setPeak l hl0 g _ _ _ _ _ _ hw) rfl rfl (Nat.le_of_ble_eq_true rfl) dL_setPeak_5 ⟨Nat.le_of_ble_eq_true rfl, Nat.le_of_ble_eq_true rfl⟩ (fun E S9 H locs ce q9 hx hH hce hcv hcl => ?_) (fun r3 S1 H locs hw hH => ?_)
  · rcases hx with ⟨rfl, hw⟩
    · refine vx_catch (own := RL) hC.2.2.2.1 [] (⟨0, 17, 20, 13⟩ : ExceptionTableEntry) [] (by rw [hnx]; rfl) (fun z hz => absurd hz List.not_mem_nil) (by decide) (by decide) (hC.2.2.2.2 _ (List.mem_cons_of_mem _ q_61)) (va_Nw.use rfl (hs.2.2.2.2.2.2.2.2.2.2.1 ("java/lang/IllegalArgumentException", "java/lang/IllegalArgumentException") (by decide +kernel))) hce hcv hcl ?_
      refine W.widen (k := 1) (n := 6) (Nat.le_of_ble_eq_true rfl) (Nat.le_of_ble_eq_true rfl) ?_
      refine lv_astore (lv' := [(4, .ref _), (0, .ref _), (1, .int _), (2, .int _), (3, .ref _)]) hC.1 hC.2.1 dL_setPeak_20 hl (by decide) rfl (fun ls hl => ?_)
      refine lv_iconst (v := 1) hC.1 hC.2.1 dL_setPeak_22 (by decide) ?_
      exact m_reti hC hH hrt rfl hlk (Nat.le_of_ble_eq_true rfl) (Nat.le_of_ble_eq_true rfl) dL_setPeak_23 hw
  refine W.widen (k := 1) (n := 6) (Nat.le_of_ble_eq_true rfl) (Nat.le_of_ble_eq_true rfl) ?_
  refine lv_if_eq (tgt := 15) hC.1 hC.2.1 dL_setPeak_8 (by decide) (fun hc => ?_) (fun hc => ?_)
  · have hw := hw.1 hc
    refine lv_lconst (v := 0) hC.1 hC.2.1 dL_setPeak_15 (by decide) ?_
    obtain ⟨k4, hw⟩ := hw
    obtain ⟨i5, hw⟩ := hw
    have hw := hw _ rfl
    refine m_jast hC hs hH k4 i5 dL_setPeak_16 (fun H locs hH => ?_)
    refine lv_goto (tgt := 24) hC.1 hC.2.1 dL_setPeak_17 (by decide) ?_
    refine lv_iconst (v := 0) hC.1 hC.2.1 dL_setPeak_24 (by decide) ?_
    exact m_reti hC hH hrt rfl hlk (Nat.le_of_ble_eq_true rfl) (Nat.le_of_ble_eq_true rfl) dL_setPeak_25 hw
  · have hw := hw.2 hc
    refine lv_lconst (v := 1) hC.1 hC.2.1 dL_setPeak_11 (by decide) ?_
    refine lv_goto (tgt := 16) hC.1 hC.2.1 dL_setPeak_12 (by decide) ?_
    obtain ⟨k7, hw⟩ := hw
    obtain ⟨i8, hw⟩ := hw
    have hw := hw _ rfl
    refine m_jast hC hs hH k7 i8 dL_setPeak_16 (fun H locs hH => ?_)
    refine lv_goto (tgt := 24) hC.1 hC.2.1 dL_setPeak_17 (by decide) ?_
    refine lv_iconst (v := 0) hC.1 hC.2.1 dL_setPeak_24 (by decide) ?_
    exact m_reti hC hH hrt rfl hlk (Nat.le_of_ble_eq_true rfl) (Nat.le_of_ble_eq_true rfl) dL_setPeak_25 hw
abbrev rm_L_addAccount : Room := { frames := 8, cells := 3, slots := 140, locals := 195 }
def wp_L_addAccount (z : Nat × Nat) (S : mmS) (p0 : Nat) (p1 : Int32) (p2 : Int32) (p3 : Int32) (p4 : Nat) (Q : Int32 → mmS → Prop) (X : String → mmS → Prop) : Prop := (p0 ∈ mL S ∧ mK S p0 = 4) ∧ wp_X4_addAccount z S p0 p1 p2 p3 (fun r3 S1 => (p4 ∈ mL S1 ∧ mK S1 p4 = 9) ∧ vp_in (0 : Int32) (mN S1 p4) ∧ ∀ S6 : mmS, S6 = sJ S1 p4 ((0 : Int32)).toNatClampNeg (Int32.toInt64 r3) → Q (0 : Int32) S6) (fun (E : String) (S9 : mmS) => (E = "java/lang/IllegalArgumentException" ∧ Q (1 : Int32) S9) ∨ (E = "java/lang/IllegalStateException" ∧ Q (2 : Int32) S9))
set_option maxHeartbeats 4000000 in
set_option maxRecDepth 100000 in
theorem met_L_addAccount (l : Launch) (hl0 : l.stackTraces = false) (g : mG) (S : mmS) (p0 : Nat) (p1 : Int32) (p2 : Int32) (p3 : Int32) (p4 : Nat) (Q : Int32 → mmS → Prop) (X : String → mmS → Prop) (hw : wp_L_addAccount g.2.2.2.2.2 S p0 p1 p2 p3 p4 Q X) : mMi l g yL_addAccount (wAh_ yL_addAccount cL_addAccount 6 (some .int) [(0, 12, 15, 13), (0, 12, 19, 15)]) rm_L_addAccount [.ref p0, .int p1, .int p2, .int p3, .ref p4] S Q X := by
  refine m_ofH (y := yL_addAccount) (cc := cL_addAccount) (maxL := 6) (ret := (some .int)) (hh := [(0, 12, 15, 13), (0, 12, 19, 15)]) (by decide) rfl (Nat.le_of_ble_eq_true rfl) ?_
  intro p e s m args below meth c ls hC hrt hlk hmn hnx hs hH hl
  have hC : CallFix p m c cL_addAccount 6 s args (wAh_ yL_addAccount cL_addAccount 6 (some .int) [(0, 12, 15, 13), (0, 12, 19, 15)]) RL := hC
  have hl : lv_has ls 6 [(0, .ref p0), (1, .int p1), (2, .int p2), (3, .int p3), (4, .ref p4)] := hl
  unfold wp_L_addAccount at hw
  refine lv_aload hC.1 hC.2.1 dL_addAccount_0 (lv_at hl 4 rfl) ?_
  refine lv_iconst (v := 0) hC.1 hC.2.1 dL_addAccount_2 (by decide) ?_
  refine lv_aload_n hC.1 hC.2.1 dL_addAccount_3 rfl (lv_at hl 0 rfl) ?_
  refine lv_iload_n hC.1 hC.2.1 dL_addAccount_4 rfl (lv_at hl 1 rfl) ?_
  refine lv_iload_n hC.1 hC.2.1 dL_addAccount_5 rfl (lv_at hl 2 rfl) ?_
  refine lv_iload_n hC.1 hC.2.1 dL_addAccount_6 rfl (lv_at hl 3 rfl) ?_
  obtain ⟨k2, hw⟩ := hw
  refine m_callVi (y := yX4_addAccount) (rest := [.int _, .ref _]) hC hs hH hl.1 (cwV 3 hC.2.2.2.2 (gA_V q_316 q_317 q_318 q_2 q_319) rfl rfl rfl (by decide +kernel) ⟨Nat.le_of_ble_eq_true rfl, Nat.le_of_ble_eq_true rfl⟩) cs4 k2 (met_X4_addAccount l hl0 g _ _ _ _ _ _ _ hw) rfl rfl (Nat.le_of_ble_eq_true rfl) dL_addAccount_7 ⟨Nat.le_of_ble_eq_true rfl, Nat.le_of_ble_eq_true rfl⟩ (fun E S9 H locs ce q9 hx hH hce hcv hcl => ?_) (fun r3 S1 H locs hw hH => ?_)
  · rcases hx with ⟨rfl, hw⟩ | ⟨rfl, hw⟩
    · refine vx_catch (own := RL) hC.2.2.2.1 [] (⟨0, 12, 15, 13⟩ : ExceptionTableEntry) [(⟨0, 12, 19, 15⟩ : ExceptionTableEntry)] (by rw [hnx]; rfl) (fun z hz => absurd hz List.not_mem_nil) (by decide) (by decide) (hC.2.2.2.2 _ (List.mem_cons_of_mem _ q_61)) (va_Nw.use rfl (hs.2.2.2.2.2.2.2.2.2.2.1 ("java/lang/IllegalArgumentException", "java/lang/IllegalArgumentException") (by decide +kernel))) hce hcv hcl ?_
      refine W.widen (k := 3) (n := 140) (Nat.le_of_ble_eq_true rfl) (Nat.le_of_ble_eq_true rfl) ?_
      refine lv_astore (lv' := [(5, .ref _), (0, .ref _), (1, .int _), (2, .int _), (3, .int _), (4, .ref _)]) hC.1 hC.2.1 dL_addAccount_15 hl (by decide) rfl (fun ls hl => ?_)
      refine lv_iconst (v := 1) hC.1 hC.2.1 dL_addAccount_17 (by decide) ?_
      exact m_reti hC hH hrt rfl hlk (Nat.le_of_ble_eq_true rfl) (Nat.le_of_ble_eq_true rfl) dL_addAccount_18 hw
    · refine vx_catch (own := RL) hC.2.2.2.1 [(⟨0, 12, 15, 13⟩ : ExceptionTableEntry)] (⟨0, 12, 19, 15⟩ : ExceptionTableEntry) [] (by rw [hnx]; rfl) (List.forall_mem_cons.mpr ⟨Or.inr ⟨by decide, "java/lang/IllegalArgumentException", hC.2.2.2.2 _ (List.mem_cons_of_mem _ q_61), hs.2.2.2.2.2.2.2.2.2.2.2.1 ("java/lang/IllegalStateException", "java/lang/IllegalArgumentException") (by decide +kernel)⟩, fun _ h => absurd h List.not_mem_nil⟩) (by decide) (by decide) (hC.2.2.2.2 _ (List.mem_cons_of_mem _ q_62)) (va_Nw.use rfl (hs.2.2.2.2.2.2.2.2.2.2.1 ("java/lang/IllegalStateException", "java/lang/IllegalStateException") (by decide +kernel))) hce hcv hcl ?_
      refine W.widen (k := 3) (n := 140) (Nat.le_of_ble_eq_true rfl) (Nat.le_of_ble_eq_true rfl) ?_
      refine lv_astore (lv' := [(5, .ref _), (0, .ref _), (1, .int _), (2, .int _), (3, .int _), (4, .ref _)]) hC.1 hC.2.1 dL_addAccount_19 hl (by decide) rfl (fun ls hl => ?_)
      refine lv_iconst (v := 2) hC.1 hC.2.1 dL_addAccount_21 (by decide) ?_
      exact m_reti hC hH hrt rfl hlk (Nat.le_of_ble_eq_true rfl) (Nat.le_of_ble_eq_true rfl) dL_addAccount_22 hw
  refine W.widen (k := 3) (n := 140) (Nat.le_of_ble_eq_true rfl) (Nat.le_of_ble_eq_true rfl) ?_
  refine lv_i2l hC.1 hC.2.1 dL_addAccount_10 rfl ?_
  obtain ⟨k4, hw⟩ := hw
  obtain ⟨i5, hw⟩ := hw
  have hw := hw _ rfl
  refine m_jast hC hs hH k4 i5 dL_addAccount_11 (fun H locs hH => ?_)
  refine lv_goto (tgt := 23) hC.1 hC.2.1 dL_addAccount_12 (by decide) ?_
  refine lv_iconst (v := 0) hC.1 hC.2.1 dL_addAccount_23 (by decide) ?_
  exact m_reti hC hH hrt rfl hlk (Nat.le_of_ble_eq_true rfl) (Nat.le_of_ble_eq_true rfl) dL_addAccount_24 hw
abbrev rm_L_addLine : Room := { frames := 8, cells := 7, slots := 155, locals := 196 }
def wp_L_addLine (z : Nat × Nat) (S : mmS) (p0 : Nat) (p1 : Int32) (p2 : Int32) (p3 : Nat) (Q : Int32 → mmS → Prop) (X : String → mmS → Prop) : Prop := (p0 ∈ mL S ∧ mK S p0 = 4) ∧ wp_X4_addLine z S p0 p1 p2 (fun r3 S1 => (p3 ∈ mL S1 ∧ mK S1 p3 = 9) ∧ vp_in (0 : Int32) (mN S1 p3) ∧ ∀ S6 : mmS, S6 = sJ S1 p3 ((0 : Int32)).toNatClampNeg (Int32.toInt64 r3) → Q (0 : Int32) S6) (fun (E : String) (S9 : mmS) => (E = "java/lang/IndexOutOfBoundsException" ∧ Q (1 : Int32) S9) ∨ (E = "java/lang/IllegalStateException" ∧ Q (2 : Int32) S9))
set_option maxHeartbeats 4000000 in
set_option maxRecDepth 100000 in
theorem met_L_addLine (l : Launch) (hl0 : l.stackTraces = false) (g : mG) (S : mmS) (p0 : Nat) (p1 : Int32) (p2 : Int32) (p3 : Nat) (Q : Int32 → mmS → Prop) (X : String → mmS → Prop) (hw : wp_L_addLine g.2.2.2.2.2 S p0 p1 p2 p3 Q X) : mMi l g yL_addLine (wAh_ yL_addLine cL_addLine 5 (some .int) [(0, 10, 13, 21), (0, 10, 17, 15)]) rm_L_addLine [.ref p0, .int p1, .int p2, .ref p3] S Q X := by
  refine m_ofH (y := yL_addLine) (cc := cL_addLine) (maxL := 5) (ret := (some .int)) (hh := [(0, 10, 13, 21), (0, 10, 17, 15)]) (by decide) rfl (Nat.le_of_ble_eq_true rfl) ?_
  intro p e s m args below meth c ls hC hrt hlk hmn hnx hs hH hl
  have hC : CallFix p m c cL_addLine 5 s args (wAh_ yL_addLine cL_addLine 5 (some .int) [(0, 10, 13, 21), (0, 10, 17, 15)]) RL := hC
  have hl : lv_has ls 5 [(0, .ref p0), (1, .int p1), (2, .int p2), (3, .ref p3)] := hl
  unfold wp_L_addLine at hw
  refine lv_aload_n hC.1 hC.2.1 dL_addLine_0 rfl (lv_at hl 3 rfl) ?_
  refine lv_iconst (v := 0) hC.1 hC.2.1 dL_addLine_1 (by decide) ?_
  refine lv_aload_n hC.1 hC.2.1 dL_addLine_2 rfl (lv_at hl 0 rfl) ?_
  refine lv_iload_n hC.1 hC.2.1 dL_addLine_3 rfl (lv_at hl 1 rfl) ?_
  refine lv_iload_n hC.1 hC.2.1 dL_addLine_4 rfl (lv_at hl 2 rfl) ?_
  obtain ⟨k2, hw⟩ := hw
  refine m_callVi (y := yX4_addLine) (rest := [.int _, .ref _]) hC hs hH hl.1 (cwV 2 hC.2.2.2.2 (gA_V q_343 q_344 q_345 q_2 q_346) rfl rfl rfl (by decide +kernel) ⟨Nat.le_of_ble_eq_true rfl, Nat.le_of_ble_eq_true rfl⟩) cs4 k2 (met_X4_addLine l hl0 g _ _ _ _ _ _ hw) rfl rfl (Nat.le_of_ble_eq_true rfl) dL_addLine_5 ⟨Nat.le_of_ble_eq_true rfl, Nat.le_of_ble_eq_true rfl⟩ (fun E S9 H locs ce q9 hx hH hce hcv hcl => ?_) (fun r3 S1 H locs hw hH => ?_)
  · rcases hx with ⟨rfl, hw⟩ | ⟨rfl, hw⟩
    · refine vx_catch (own := RL) hC.2.2.2.1 [] (⟨0, 10, 13, 21⟩ : ExceptionTableEntry) [(⟨0, 10, 17, 15⟩ : ExceptionTableEntry)] (by rw [hnx]; rfl) (fun z hz => absurd hz List.not_mem_nil) (by decide) (by decide) (hC.2.2.2.2 _ (List.mem_cons_of_mem _ q_170)) (va_Nw.use rfl (hs.2.2.2.2.2.2.2.2.2.2.1 ("java/lang/IndexOutOfBoundsException", "java/lang/IndexOutOfBoundsException") (by decide +kernel))) hce hcv hcl ?_
      refine W.widen (k := 7) (n := 155) (Nat.le_of_ble_eq_true rfl) (Nat.le_of_ble_eq_true rfl) ?_
      refine lv_astore (lv' := [(4, .ref _), (0, .ref _), (1, .int _), (2, .int _), (3, .ref _)]) hC.1 hC.2.1 dL_addLine_13 hl (by decide) rfl (fun ls hl => ?_)
      refine lv_iconst (v := 1) hC.1 hC.2.1 dL_addLine_15 (by decide) ?_
      exact m_reti hC hH hrt rfl hlk (Nat.le_of_ble_eq_true rfl) (Nat.le_of_ble_eq_true rfl) dL_addLine_16 hw
    · refine vx_catch (own := RL) hC.2.2.2.1 [(⟨0, 10, 13, 21⟩ : ExceptionTableEntry)] (⟨0, 10, 17, 15⟩ : ExceptionTableEntry) [] (by rw [hnx]; rfl) (List.forall_mem_cons.mpr ⟨Or.inr ⟨by decide, "java/lang/IndexOutOfBoundsException", hC.2.2.2.2 _ (List.mem_cons_of_mem _ q_170), hs.2.2.2.2.2.2.2.2.2.2.2.1 ("java/lang/IllegalStateException", "java/lang/IndexOutOfBoundsException") (by decide +kernel)⟩, fun _ h => absurd h List.not_mem_nil⟩) (by decide) (by decide) (hC.2.2.2.2 _ (List.mem_cons_of_mem _ q_62)) (va_Nw.use rfl (hs.2.2.2.2.2.2.2.2.2.2.1 ("java/lang/IllegalStateException", "java/lang/IllegalStateException") (by decide +kernel))) hce hcv hcl ?_
      refine W.widen (k := 7) (n := 155) (Nat.le_of_ble_eq_true rfl) (Nat.le_of_ble_eq_true rfl) ?_
      refine lv_astore (lv' := [(4, .ref _), (0, .ref _), (1, .int _), (2, .int _), (3, .ref _)]) hC.1 hC.2.1 dL_addLine_17 hl (by decide) rfl (fun ls hl => ?_)
      refine lv_iconst (v := 2) hC.1 hC.2.1 dL_addLine_19 (by decide) ?_
      exact m_reti hC hH hrt rfl hlk (Nat.le_of_ble_eq_true rfl) (Nat.le_of_ble_eq_true rfl) dL_addLine_20 hw
  refine W.widen (k := 7) (n := 155) (Nat.le_of_ble_eq_true rfl) (Nat.le_of_ble_eq_true rfl) ?_
  refine lv_i2l hC.1 hC.2.1 dL_addLine_8 rfl ?_
  obtain ⟨k4, hw⟩ := hw
  obtain ⟨i5, hw⟩ := hw
  have hw := hw _ rfl
  refine m_jast hC hs hH k4 i5 dL_addLine_9 (fun H locs hH => ?_)
  refine lv_goto (tgt := 21) hC.1 hC.2.1 dL_addLine_10 (by decide) ?_
  refine lv_iconst (v := 0) hC.1 hC.2.1 dL_addLine_21 (by decide) ?_
  exact m_reti hC hH hrt rfl hlk (Nat.le_of_ble_eq_true rfl) (Nat.le_of_ble_eq_true rfl) dL_addLine_22 hw
abbrev rm_L_setTariff : Room := { frames := 8, cells := 2, slots := 12, locals := 163 }
def wp_L_setTariff (z : Nat × Nat) (S : mmS) (p0 : Nat) (p1 : Int32) (p2 : Int32) (p3 : Nat) (Q : Int32 → mmS → Prop) (X : String → mmS → Prop) : Prop := (p0 ∈ mL S ∧ mK S p0 = 4) ∧ wp_X4_setTariff z S p0 p1 p2 (fun r3 S1 => (p3 ∈ mL S1 ∧ mK S1 p3 = 9) ∧ vp_in (0 : Int32) (mN S1 p3) ∧ ∀ S6 : mmS, S6 = sJ S1 p3 ((0 : Int32)).toNatClampNeg (Int32.toInt64 r3) → Q (0 : Int32) S6) (fun (E : String) (S9 : mmS) => (E = "java/lang/IndexOutOfBoundsException" ∧ Q (1 : Int32) S9))
set_option maxHeartbeats 4000000 in
set_option maxRecDepth 100000 in
theorem met_L_setTariff (l : Launch) (hl0 : l.stackTraces = false) (g : mG) (S : mmS) (p0 : Nat) (p1 : Int32) (p2 : Int32) (p3 : Nat) (Q : Int32 → mmS → Prop) (X : String → mmS → Prop) (hw : wp_L_setTariff g.2.2.2.2.2 S p0 p1 p2 p3 Q X) : mMi l g yL_setTariff (wAh_ yL_setTariff cL_setTariff 5 (some .int) [(0, 10, 13, 21)]) rm_L_setTariff [.ref p0, .int p1, .int p2, .ref p3] S Q X := by
  refine m_ofH (y := yL_setTariff) (cc := cL_setTariff) (maxL := 5) (ret := (some .int)) (hh := [(0, 10, 13, 21)]) (by decide) rfl (Nat.le_of_ble_eq_true rfl) ?_
  intro p e s m args below meth c ls hC hrt hlk hmn hnx hs hH hl
  have hC : CallFix p m c cL_setTariff 5 s args (wAh_ yL_setTariff cL_setTariff 5 (some .int) [(0, 10, 13, 21)]) RL := hC
  have hl : lv_has ls 5 [(0, .ref p0), (1, .int p1), (2, .int p2), (3, .ref p3)] := hl
  unfold wp_L_setTariff at hw
  refine lv_aload_n hC.1 hC.2.1 dL_setTariff_0 rfl (lv_at hl 3 rfl) ?_
  refine lv_iconst (v := 0) hC.1 hC.2.1 dL_setTariff_1 (by decide) ?_
  refine lv_aload_n hC.1 hC.2.1 dL_setTariff_2 rfl (lv_at hl 0 rfl) ?_
  refine lv_iload_n hC.1 hC.2.1 dL_setTariff_3 rfl (lv_at hl 1 rfl) ?_
  refine lv_iload_n hC.1 hC.2.1 dL_setTariff_4 rfl (lv_at hl 2 rfl) ?_
  obtain ⟨k2, hw⟩ := hw
  refine m_callVi (y := yX4_setTariff) (rest := [.int _, .ref _]) hC hs hH hl.1 (cwV 2 hC.2.2.2.2 (gA_V q_371 q_372 q_373 q_2 q_374) rfl rfl rfl (by decide +kernel) ⟨Nat.le_of_ble_eq_true rfl, Nat.le_of_ble_eq_true rfl⟩) cs4 k2 (met_X4_setTariff l hl0 g _ _ _ _ _ _ hw) rfl rfl (Nat.le_of_ble_eq_true rfl) dL_setTariff_5 ⟨Nat.le_of_ble_eq_true rfl, Nat.le_of_ble_eq_true rfl⟩ (fun E S9 H locs ce q9 hx hH hce hcv hcl => ?_) (fun r3 S1 H locs hw hH => ?_)
  · rcases hx with ⟨rfl, hw⟩
    · refine vx_catch (own := RL) hC.2.2.2.1 [] (⟨0, 10, 13, 21⟩ : ExceptionTableEntry) [] (by rw [hnx]; rfl) (fun z hz => absurd hz List.not_mem_nil) (by decide) (by decide) (hC.2.2.2.2 _ (List.mem_cons_of_mem _ q_170)) (va_Nw.use rfl (hs.2.2.2.2.2.2.2.2.2.2.1 ("java/lang/IndexOutOfBoundsException", "java/lang/IndexOutOfBoundsException") (by decide +kernel))) hce hcv hcl ?_
      refine W.widen (k := 2) (n := 12) (Nat.le_of_ble_eq_true rfl) (Nat.le_of_ble_eq_true rfl) ?_
      refine lv_astore (lv' := [(4, .ref _), (0, .ref _), (1, .int _), (2, .int _), (3, .ref _)]) hC.1 hC.2.1 dL_setTariff_13 hl (by decide) rfl (fun ls hl => ?_)
      refine lv_iconst (v := 1) hC.1 hC.2.1 dL_setTariff_15 (by decide) ?_
      exact m_reti hC hH hrt rfl hlk (Nat.le_of_ble_eq_true rfl) (Nat.le_of_ble_eq_true rfl) dL_setTariff_16 hw
  refine W.widen (k := 2) (n := 12) (Nat.le_of_ble_eq_true rfl) (Nat.le_of_ble_eq_true rfl) ?_
  refine lv_i2l hC.1 hC.2.1 dL_setTariff_8 rfl ?_
  obtain ⟨k4, hw⟩ := hw
  obtain ⟨i5, hw⟩ := hw
  have hw := hw _ rfl
  refine m_jast hC hs hH k4 i5 dL_setTariff_9 (fun H locs hH => ?_)
  refine lv_goto (tgt := 17) hC.1 hC.2.1 dL_setTariff_10 (by decide) ?_
  refine lv_iconst (v := 0) hC.1 hC.2.1 dL_setTariff_17 (by decide) ?_
  exact m_reti hC hH hrt rfl hlk (Nat.le_of_ble_eq_true rfl) (Nat.le_of_ble_eq_true rfl) dL_setTariff_18 hw
abbrev rm_L_setBundle : Room := { frames := 8, cells := 2, slots := 12, locals := 145 }
def wp_L_setBundle (z : Nat × Nat) (S : mmS) (p0 : Nat) (p1 : Int32) (p2 : Int32) (p3 : Nat) (Q : Int32 → mmS → Prop) (X : String → mmS → Prop) : Prop := (p0 ∈ mL S ∧ mK S p0 = 4) ∧ wp_X4_setBundle z S p0 p1 p2 (fun r3 S1 => (p3 ∈ mL S1 ∧ mK S1 p3 = 9) ∧ vp_in (0 : Int32) (mN S1 p3) ∧ ∀ S6 : mmS, S6 = sJ S1 p3 ((0 : Int32)).toNatClampNeg (Int32.toInt64 r3) → Q (0 : Int32) S6) (fun (E : String) (S9 : mmS) => (E = "java/lang/IndexOutOfBoundsException" ∧ Q (1 : Int32) S9) ∨ (E = "java/lang/IllegalArgumentException" ∧ Q (2 : Int32) S9))
set_option maxHeartbeats 4000000 in
set_option maxRecDepth 100000 in
theorem met_L_setBundle (l : Launch) (hl0 : l.stackTraces = false) (g : mG) (S : mmS) (p0 : Nat) (p1 : Int32) (p2 : Int32) (p3 : Nat) (Q : Int32 → mmS → Prop) (X : String → mmS → Prop) (hw : wp_L_setBundle g.2.2.2.2.2 S p0 p1 p2 p3 Q X) : mMi l g yL_setBundle (wAh_ yL_setBundle cL_setBundle 5 (some .int) [(0, 10, 13, 21), (0, 10, 17, 13)]) rm_L_setBundle [.ref p0, .int p1, .int p2, .ref p3] S Q X := by
  refine m_ofH (y := yL_setBundle) (cc := cL_setBundle) (maxL := 5) (ret := (some .int)) (hh := [(0, 10, 13, 21), (0, 10, 17, 13)]) (by decide) rfl (Nat.le_of_ble_eq_true rfl) ?_
  intro p e s m args below meth c ls hC hrt hlk hmn hnx hs hH hl
  have hC : CallFix p m c cL_setBundle 5 s args (wAh_ yL_setBundle cL_setBundle 5 (some .int) [(0, 10, 13, 21), (0, 10, 17, 13)]) RL := hC
  have hl : lv_has ls 5 [(0, .ref p0), (1, .int p1), (2, .int p2), (3, .ref p3)] := hl
  unfold wp_L_setBundle at hw
  refine lv_aload_n hC.1 hC.2.1 dL_setBundle_0 rfl (lv_at hl 3 rfl) ?_
  refine lv_iconst (v := 0) hC.1 hC.2.1 dL_setBundle_1 (by decide) ?_
  refine lv_aload_n hC.1 hC.2.1 dL_setBundle_2 rfl (lv_at hl 0 rfl) ?_
  refine lv_iload_n hC.1 hC.2.1 dL_setBundle_3 rfl (lv_at hl 1 rfl) ?_
  refine lv_iload_n hC.1 hC.2.1 dL_setBundle_4 rfl (lv_at hl 2 rfl) ?_
  obtain ⟨k2, hw⟩ := hw
  refine m_callVi (y := yX4_setBundle) (rest := [.int _, .ref _]) hC hs hH hl.1 (cwV 2 hC.2.2.2.2 (gA_V q_395 q_396 q_397 q_2 q_398) rfl rfl rfl (by decide +kernel) ⟨Nat.le_of_ble_eq_true rfl, Nat.le_of_ble_eq_true rfl⟩) cs4 k2 (met_X4_setBundle l hl0 g _ _ _ _ _ _ hw) rfl rfl (Nat.le_of_ble_eq_true rfl) dL_setBundle_5 ⟨Nat.le_of_ble_eq_true rfl, Nat.le_of_ble_eq_true rfl⟩ (fun E S9 H locs ce q9 hx hH hce hcv hcl => ?_) (fun r3 S1 H locs hw hH => ?_)
  · rcases hx with ⟨rfl, hw⟩ | ⟨rfl, hw⟩
    · refine vx_catch (own := RL) hC.2.2.2.1 [] (⟨0, 10, 13, 21⟩ : ExceptionTableEntry) [(⟨0, 10, 17, 13⟩ : ExceptionTableEntry)] (by rw [hnx]; rfl) (fun z hz => absurd hz List.not_mem_nil) (by decide) (by decide) (hC.2.2.2.2 _ (List.mem_cons_of_mem _ q_170)) (va_Nw.use rfl (hs.2.2.2.2.2.2.2.2.2.2.1 ("java/lang/IndexOutOfBoundsException", "java/lang/IndexOutOfBoundsException") (by decide +kernel))) hce hcv hcl ?_
      refine W.widen (k := 2) (n := 12) (Nat.le_of_ble_eq_true rfl) (Nat.le_of_ble_eq_true rfl) ?_
      refine lv_astore (lv' := [(4, .ref _), (0, .ref _), (1, .int _), (2, .int _), (3, .ref _)]) hC.1 hC.2.1 dL_setBundle_13 hl (by decide) rfl (fun ls hl => ?_)
      refine lv_iconst (v := 1) hC.1 hC.2.1 dL_setBundle_15 (by decide) ?_
      exact m_reti hC hH hrt rfl hlk (Nat.le_of_ble_eq_true rfl) (Nat.le_of_ble_eq_true rfl) dL_setBundle_16 hw
    · refine vx_catch (own := RL) hC.2.2.2.1 [(⟨0, 10, 13, 21⟩ : ExceptionTableEntry)] (⟨0, 10, 17, 13⟩ : ExceptionTableEntry) [] (by rw [hnx]; rfl) (List.forall_mem_cons.mpr ⟨Or.inr ⟨by decide, "java/lang/IndexOutOfBoundsException", hC.2.2.2.2 _ (List.mem_cons_of_mem _ q_170), hs.2.2.2.2.2.2.2.2.2.2.2.1 ("java/lang/IllegalArgumentException", "java/lang/IndexOutOfBoundsException") (by decide +kernel)⟩, fun _ h => absurd h List.not_mem_nil⟩) (by decide) (by decide) (hC.2.2.2.2 _ (List.mem_cons_of_mem _ q_61)) (va_Nw.use rfl (hs.2.2.2.2.2.2.2.2.2.2.1 ("java/lang/IllegalArgumentException", "java/lang/IllegalArgumentException") (by decide +kernel))) hce hcv hcl ?_
      refine W.widen (k := 2) (n := 12) (Nat.le_of_ble_eq_true rfl) (Nat.le_of_ble_eq_true rfl) ?_
      refine lv_astore (lv' := [(4, .ref _), (0, .ref _), (1, .int _), (2, .int _), (3, .ref _)]) hC.1 hC.2.1 dL_setBundle_17 hl (by decide) rfl (fun ls hl => ?_)
      refine lv_iconst (v := 2) hC.1 hC.2.1 dL_setBundle_19 (by decide) ?_
      exact m_reti hC hH hrt rfl hlk (Nat.le_of_ble_eq_true rfl) (Nat.le_of_ble_eq_true rfl) dL_setBundle_20 hw
  refine W.widen (k := 2) (n := 12) (Nat.le_of_ble_eq_true rfl) (Nat.le_of_ble_eq_true rfl) ?_
  refine lv_i2l hC.1 hC.2.1 dL_setBundle_8 rfl ?_
  obtain ⟨k4, hw⟩ := hw
  obtain ⟨i5, hw⟩ := hw
  have hw := hw _ rfl
  refine m_jast hC hs hH k4 i5 dL_setBundle_9 (fun H locs hH => ?_)
  refine lv_goto (tgt := 21) hC.1 hC.2.1 dL_setBundle_10 (by decide) ?_
  refine lv_iconst (v := 0) hC.1 hC.2.1 dL_setBundle_21 (by decide) ?_
  exact m_reti hC hH hrt rfl hlk (Nat.le_of_ble_eq_true rfl) (Nat.le_of_ble_eq_true rfl) dL_setBundle_22 hw
abbrev rm_L_addCall : Room := { frames := 8, cells := 4, slots := 271, locals := 200 }
def wp_L_addCall (z : Nat × Nat) (S : mmS) (p0 : Nat) (p1 : Int32) (p2 : Int32) (p3 : Int32) (p4 : Int32) (p5 : Nat) (Q : Int32 → mmS → Prop) (X : String → mmS → Prop) : Prop := (p0 ∈ mL S ∧ mK S p0 = 4) ∧ wp_X4_addCall z S p0 p1 p2 p3 p4 (fun r3 S1 => (p5 ∈ mL S1 ∧ mK S1 p5 = 9) ∧ vp_in (0 : Int32) (mN S1 p5) ∧ ∀ S6 : mmS, S6 = sJ S1 p5 ((0 : Int32)).toNatClampNeg (Int32.toInt64 r3) → Q (0 : Int32) S6) (fun (E : String) (S9 : mmS) => (E = "java/lang/IndexOutOfBoundsException" ∧ Q (1 : Int32) S9) ∨ (E = "java/lang/IllegalArgumentException" ∧ Q (2 : Int32) S9) ∨ (E = "java/lang/IllegalStateException" ∧ Q (3 : Int32) S9))
set_option maxHeartbeats 4000000 in
set_option maxRecDepth 100000 in
theorem met_L_addCall (l : Launch) (hl0 : l.stackTraces = false) (g : mG) (S : mmS) (p0 : Nat) (p1 : Int32) (p2 : Int32) (p3 : Int32) (p4 : Int32) (p5 : Nat) (Q : Int32 → mmS → Prop) (X : String → mmS → Prop) (hw : wp_L_addCall g.2.2.2.2.2 S p0 p1 p2 p3 p4 p5 Q X) : mMi l g yL_addCall (wAh_ yL_addCall cL_addCall 7 (some .int) [(0, 14, 17, 21), (0, 14, 21, 13), (0, 14, 25, 15)]) rm_L_addCall [.ref p0, .int p1, .int p2, .int p3, .int p4, .ref p5] S Q X := by
  refine m_ofH (y := yL_addCall) (cc := cL_addCall) (maxL := 7) (ret := (some .int)) (hh := [(0, 14, 17, 21), (0, 14, 21, 13), (0, 14, 25, 15)]) (by decide) rfl (Nat.le_of_ble_eq_true rfl) ?_
  intro p e s m args below meth c ls hC hrt hlk hmn hnx hs hH hl
  have hC : CallFix p m c cL_addCall 7 s args (wAh_ yL_addCall cL_addCall 7 (some .int) [(0, 14, 17, 21), (0, 14, 21, 13), (0, 14, 25, 15)]) RL := hC
  have hl : lv_has ls 7 [(0, .ref p0), (1, .int p1), (2, .int p2), (3, .int p3), (4, .int p4), (5, .ref p5)] := hl
  unfold wp_L_addCall at hw
  refine lv_aload hC.1 hC.2.1 dL_addCall_0 (lv_at hl 5 rfl) ?_
  refine lv_iconst (v := 0) hC.1 hC.2.1 dL_addCall_2 (by decide) ?_
  refine lv_aload_n hC.1 hC.2.1 dL_addCall_3 rfl (lv_at hl 0 rfl) ?_
  refine lv_iload_n hC.1 hC.2.1 dL_addCall_4 rfl (lv_at hl 1 rfl) ?_
  refine lv_iload_n hC.1 hC.2.1 dL_addCall_5 rfl (lv_at hl 2 rfl) ?_
  refine lv_iload_n hC.1 hC.2.1 dL_addCall_6 rfl (lv_at hl 3 rfl) ?_
  refine lv_iload hC.1 hC.2.1 dL_addCall_7 (lv_at hl 4 rfl) ?_
  obtain ⟨k2, hw⟩ := hw
  refine m_callVi (y := yX4_addCall) (rest := [.int _, .ref _]) hC hs hH hl.1 (cwV 4 hC.2.2.2.2 (gA_V q_407 q_408 q_409 q_2 q_410) rfl rfl rfl (by decide +kernel) ⟨Nat.le_of_ble_eq_true rfl, Nat.le_of_ble_eq_true rfl⟩) cs4 k2 (met_X4_addCall l hl0 g _ _ _ _ _ _ _ _ hw) rfl rfl (Nat.le_of_ble_eq_true rfl) dL_addCall_9 ⟨Nat.le_of_ble_eq_true rfl, Nat.le_of_ble_eq_true rfl⟩ (fun E S9 H locs ce q9 hx hH hce hcv hcl => ?_) (fun r3 S1 H locs hw hH => ?_)
  · rcases hx with ⟨rfl, hw⟩ | ⟨rfl, hw⟩ | ⟨rfl, hw⟩
    · refine vx_catch (own := RL) hC.2.2.2.1 [] (⟨0, 14, 17, 21⟩ : ExceptionTableEntry) [(⟨0, 14, 21, 13⟩ : ExceptionTableEntry), (⟨0, 14, 25, 15⟩ : ExceptionTableEntry)] (by rw [hnx]; rfl) (fun z hz => absurd hz List.not_mem_nil) (by decide) (by decide) (hC.2.2.2.2 _ (List.mem_cons_of_mem _ q_170)) (va_Nw.use rfl (hs.2.2.2.2.2.2.2.2.2.2.1 ("java/lang/IndexOutOfBoundsException", "java/lang/IndexOutOfBoundsException") (by decide +kernel))) hce hcv hcl ?_
      refine W.widen (k := 4) (n := 271) (Nat.le_of_ble_eq_true rfl) (Nat.le_of_ble_eq_true rfl) ?_
      refine lv_astore (lv' := [(6, .ref _), (0, .ref _), (1, .int _), (2, .int _), (3, .int _), (4, .int _), (5, .ref _)]) hC.1 hC.2.1 dL_addCall_17 hl (by decide) rfl (fun ls hl => ?_)
      refine lv_iconst (v := 1) hC.1 hC.2.1 dL_addCall_19 (by decide) ?_
      exact m_reti hC hH hrt rfl hlk (Nat.le_of_ble_eq_true rfl) (Nat.le_of_ble_eq_true rfl) dL_addCall_20 hw
    · refine vx_catch (own := RL) hC.2.2.2.1 [(⟨0, 14, 17, 21⟩ : ExceptionTableEntry)] (⟨0, 14, 21, 13⟩ : ExceptionTableEntry) [(⟨0, 14, 25, 15⟩ : ExceptionTableEntry)] (by rw [hnx]; rfl) (List.forall_mem_cons.mpr ⟨Or.inr ⟨by decide, "java/lang/IndexOutOfBoundsException", hC.2.2.2.2 _ (List.mem_cons_of_mem _ q_170), hs.2.2.2.2.2.2.2.2.2.2.2.1 ("java/lang/IllegalArgumentException", "java/lang/IndexOutOfBoundsException") (by decide +kernel)⟩, fun _ h => absurd h List.not_mem_nil⟩) (by decide) (by decide) (hC.2.2.2.2 _ (List.mem_cons_of_mem _ q_61)) (va_Nw.use rfl (hs.2.2.2.2.2.2.2.2.2.2.1 ("java/lang/IllegalArgumentException", "java/lang/IllegalArgumentException") (by decide +kernel))) hce hcv hcl ?_
      refine W.widen (k := 4) (n := 271) (Nat.le_of_ble_eq_true rfl) (Nat.le_of_ble_eq_true rfl) ?_
      refine lv_astore (lv' := [(6, .ref _), (0, .ref _), (1, .int _), (2, .int _), (3, .int _), (4, .int _), (5, .ref _)]) hC.1 hC.2.1 dL_addCall_21 hl (by decide) rfl (fun ls hl => ?_)
      refine lv_iconst (v := 2) hC.1 hC.2.1 dL_addCall_23 (by decide) ?_
      exact m_reti hC hH hrt rfl hlk (Nat.le_of_ble_eq_true rfl) (Nat.le_of_ble_eq_true rfl) dL_addCall_24 hw
    · refine vx_catch (own := RL) hC.2.2.2.1 [(⟨0, 14, 17, 21⟩ : ExceptionTableEntry), (⟨0, 14, 21, 13⟩ : ExceptionTableEntry)] (⟨0, 14, 25, 15⟩ : ExceptionTableEntry) [] (by rw [hnx]; rfl) (List.forall_mem_cons.mpr ⟨Or.inr ⟨by decide, "java/lang/IndexOutOfBoundsException", hC.2.2.2.2 _ (List.mem_cons_of_mem _ q_170), hs.2.2.2.2.2.2.2.2.2.2.2.1 ("java/lang/IllegalStateException", "java/lang/IndexOutOfBoundsException") (by decide +kernel)⟩, List.forall_mem_cons.mpr ⟨Or.inr ⟨by decide, "java/lang/IllegalArgumentException", hC.2.2.2.2 _ (List.mem_cons_of_mem _ q_61), hs.2.2.2.2.2.2.2.2.2.2.2.1 ("java/lang/IllegalStateException", "java/lang/IllegalArgumentException") (by decide +kernel)⟩, fun _ h => absurd h List.not_mem_nil⟩⟩) (by decide) (by decide) (hC.2.2.2.2 _ (List.mem_cons_of_mem _ q_62)) (va_Nw.use rfl (hs.2.2.2.2.2.2.2.2.2.2.1 ("java/lang/IllegalStateException", "java/lang/IllegalStateException") (by decide +kernel))) hce hcv hcl ?_
      refine W.widen (k := 4) (n := 271) (Nat.le_of_ble_eq_true rfl) (Nat.le_of_ble_eq_true rfl) ?_
      refine lv_astore (lv' := [(6, .ref _), (0, .ref _), (1, .int _), (2, .int _), (3, .int _), (4, .int _), (5, .ref _)]) hC.1 hC.2.1 dL_addCall_25 hl (by decide) rfl (fun ls hl => ?_)
      refine lv_iconst (v := 3) hC.1 hC.2.1 dL_addCall_27 (by decide) ?_
      exact m_reti hC hH hrt rfl hlk (Nat.le_of_ble_eq_true rfl) (Nat.le_of_ble_eq_true rfl) dL_addCall_28 hw
  refine W.widen (k := 4) (n := 271) (Nat.le_of_ble_eq_true rfl) (Nat.le_of_ble_eq_true rfl) ?_
  refine lv_i2l hC.1 hC.2.1 dL_addCall_12 rfl ?_
  obtain ⟨k4, hw⟩ := hw
  obtain ⟨i5, hw⟩ := hw
  have hw := hw _ rfl
  refine m_jast hC hs hH k4 i5 dL_addCall_13 (fun H locs hH => ?_)
  refine lv_goto (tgt := 29) hC.1 hC.2.1 dL_addCall_14 (by decide) ?_
  refine lv_iconst (v := 0) hC.1 hC.2.1 dL_addCall_29 (by decide) ?_
  exact m_reti hC hH hrt rfl hlk (Nat.le_of_ble_eq_true rfl) (Nat.le_of_ble_eq_true rfl) dL_addCall_30 hw
abbrev rm_L_correct : Room := { frames := 8, cells := 2, slots := 12, locals := 145 }
def wp_L_correct (z : Nat × Nat) (S : mmS) (p0 : Nat) (p1 : Int32) (p2 : Int32) (p3 : Nat) (Q : Int32 → mmS → Prop) (X : String → mmS → Prop) : Prop := (p0 ∈ mL S ∧ mK S p0 = 4) ∧ wp_X4_correct z S p0 p1 p2 (fun r3 S1 => (p3 ∈ mL S1 ∧ mK S1 p3 = 9) ∧ vp_in (0 : Int32) (mN S1 p3) ∧ ∀ S6 : mmS, S6 = sJ S1 p3 ((0 : Int32)).toNatClampNeg (Int32.toInt64 r3) → Q (0 : Int32) S6) (fun (E : String) (S9 : mmS) => (E = "java/lang/IndexOutOfBoundsException" ∧ Q (1 : Int32) S9) ∨ (E = "java/lang/IllegalArgumentException" ∧ Q (2 : Int32) S9))
set_option maxHeartbeats 4000000 in
set_option maxRecDepth 100000 in
theorem met_L_correct (l : Launch) (hl0 : l.stackTraces = false) (g : mG) (S : mmS) (p0 : Nat) (p1 : Int32) (p2 : Int32) (p3 : Nat) (Q : Int32 → mmS → Prop) (X : String → mmS → Prop) (hw : wp_L_correct g.2.2.2.2.2 S p0 p1 p2 p3 Q X) : mMi l g yL_correct (wAh_ yL_correct cL_correct 5 (some .int) [(0, 10, 13, 21), (0, 10, 17, 13)]) rm_L_correct [.ref p0, .int p1, .int p2, .ref p3] S Q X := by
  refine m_ofH (y := yL_correct) (cc := cL_correct) (maxL := 5) (ret := (some .int)) (hh := [(0, 10, 13, 21), (0, 10, 17, 13)]) (by decide) rfl (Nat.le_of_ble_eq_true rfl) ?_
  intro p e s m args below meth c ls hC hrt hlk hmn hnx hs hH hl
  have hC : CallFix p m c cL_correct 5 s args (wAh_ yL_correct cL_correct 5 (some .int) [(0, 10, 13, 21), (0, 10, 17, 13)]) RL := hC
  have hl : lv_has ls 5 [(0, .ref p0), (1, .int p1), (2, .int p2), (3, .ref p3)] := hl
  unfold wp_L_correct at hw
  refine lv_aload_n hC.1 hC.2.1 dL_correct_0 rfl (lv_at hl 3 rfl) ?_
  refine lv_iconst (v := 0) hC.1 hC.2.1 dL_correct_1 (by decide) ?_
  refine lv_aload_n hC.1 hC.2.1 dL_correct_2 rfl (lv_at hl 0 rfl) ?_
  refine lv_iload_n hC.1 hC.2.1 dL_correct_3 rfl (lv_at hl 1 rfl) ?_
  refine lv_iload_n hC.1 hC.2.1 dL_correct_4 rfl (lv_at hl 2 rfl) ?_
  obtain ⟨k2, hw⟩ := hw
  refine m_callVi (y := yX4_correct) (rest := [.int _, .ref _]) hC hs hH hl.1 (cwV 2 hC.2.2.2.2 (gA_V q_444 q_445 q_446 q_2 q_447) rfl rfl rfl (by decide +kernel) ⟨Nat.le_of_ble_eq_true rfl, Nat.le_of_ble_eq_true rfl⟩) cs4 k2 (met_X4_correct l hl0 g _ _ _ _ _ _ hw) rfl rfl (Nat.le_of_ble_eq_true rfl) dL_correct_5 ⟨Nat.le_of_ble_eq_true rfl, Nat.le_of_ble_eq_true rfl⟩ (fun E S9 H locs ce q9 hx hH hce hcv hcl => ?_) (fun r3 S1 H locs hw hH => ?_)
  · rcases hx with ⟨rfl, hw⟩ | ⟨rfl, hw⟩
    · refine vx_catch (own := RL) hC.2.2.2.1 [] (⟨0, 10, 13, 21⟩ : ExceptionTableEntry) [(⟨0, 10, 17, 13⟩ : ExceptionTableEntry)] (by rw [hnx]; rfl) (fun z hz => absurd hz List.not_mem_nil) (by decide) (by decide) (hC.2.2.2.2 _ (List.mem_cons_of_mem _ q_170)) (va_Nw.use rfl (hs.2.2.2.2.2.2.2.2.2.2.1 ("java/lang/IndexOutOfBoundsException", "java/lang/IndexOutOfBoundsException") (by decide +kernel))) hce hcv hcl ?_
      refine W.widen (k := 2) (n := 12) (Nat.le_of_ble_eq_true rfl) (Nat.le_of_ble_eq_true rfl) ?_
      refine lv_astore (lv' := [(4, .ref _), (0, .ref _), (1, .int _), (2, .int _), (3, .ref _)]) hC.1 hC.2.1 dL_correct_13 hl (by decide) rfl (fun ls hl => ?_)
      refine lv_iconst (v := 1) hC.1 hC.2.1 dL_correct_15 (by decide) ?_
      exact m_reti hC hH hrt rfl hlk (Nat.le_of_ble_eq_true rfl) (Nat.le_of_ble_eq_true rfl) dL_correct_16 hw
    · refine vx_catch (own := RL) hC.2.2.2.1 [(⟨0, 10, 13, 21⟩ : ExceptionTableEntry)] (⟨0, 10, 17, 13⟩ : ExceptionTableEntry) [] (by rw [hnx]; rfl) (List.forall_mem_cons.mpr ⟨Or.inr ⟨by decide, "java/lang/IndexOutOfBoundsException", hC.2.2.2.2 _ (List.mem_cons_of_mem _ q_170), hs.2.2.2.2.2.2.2.2.2.2.2.1 ("java/lang/IllegalArgumentException", "java/lang/IndexOutOfBoundsException") (by decide +kernel)⟩, fun _ h => absurd h List.not_mem_nil⟩) (by decide) (by decide) (hC.2.2.2.2 _ (List.mem_cons_of_mem _ q_61)) (va_Nw.use rfl (hs.2.2.2.2.2.2.2.2.2.2.1 ("java/lang/IllegalArgumentException", "java/lang/IllegalArgumentException") (by decide +kernel))) hce hcv hcl ?_
      refine W.widen (k := 2) (n := 12) (Nat.le_of_ble_eq_true rfl) (Nat.le_of_ble_eq_true rfl) ?_
      refine lv_astore (lv' := [(4, .ref _), (0, .ref _), (1, .int _), (2, .int _), (3, .ref _)]) hC.1 hC.2.1 dL_correct_17 hl (by decide) rfl (fun ls hl => ?_)
      refine lv_iconst (v := 2) hC.1 hC.2.1 dL_correct_19 (by decide) ?_
      exact m_reti hC hH hrt rfl hlk (Nat.le_of_ble_eq_true rfl) (Nat.le_of_ble_eq_true rfl) dL_correct_20 hw
  refine W.widen (k := 2) (n := 12) (Nat.le_of_ble_eq_true rfl) (Nat.le_of_ble_eq_true rfl) ?_
  refine lv_i2l hC.1 hC.2.1 dL_correct_8 rfl ?_
  obtain ⟨k4, hw⟩ := hw
  obtain ⟨i5, hw⟩ := hw
  have hw := hw _ rfl
  refine m_jast hC hs hH k4 i5 dL_correct_9 (fun H locs hH => ?_)
  refine lv_goto (tgt := 21) hC.1 hC.2.1 dL_correct_10 (by decide) ?_
  refine lv_iconst (v := 0) hC.1 hC.2.1 dL_correct_21 (by decide) ?_
  exact m_reti hC hH hrt rfl hlk (Nat.le_of_ble_eq_true rfl) (Nat.le_of_ble_eq_true rfl) dL_correct_22 hw
abbrev rm_L_callAt : Room := { frames := 7, cells := 1, slots := 6, locals := 121 }
def wp_L_callAt (z : Nat × Nat) (S : mmS) (p0 : Nat) (p1 : Int32) (p2 : Nat) (Q : Int32 → mmS → Prop) (X : String → mmS → Prop) : Prop := (p0 ∈ mL S ∧ mK S p0 = 4) ∧ wp_X4_callAt z S p0 p1 (fun r3 S1 => (p2 ∈ mL S1 ∧ mK S1 p2 = 9) ∧ vp_in (0 : Int32) (mN S1 p2) ∧ ∀ S6 : mmS, S6 = sJ S1 p2 ((0 : Int32)).toNatClampNeg (Int32.toInt64 r3) → Q (0 : Int32) S6) (fun (E : String) (S9 : mmS) => (E = "java/lang/IndexOutOfBoundsException" ∧ Q (1 : Int32) S9))
set_option maxHeartbeats 4000000 in
set_option maxRecDepth 100000 in
theorem met_L_callAt (l : Launch) (hl0 : l.stackTraces = false) (g : mG) (S : mmS) (p0 : Nat) (p1 : Int32) (p2 : Nat) (Q : Int32 → mmS → Prop) (X : String → mmS → Prop) (hw : wp_L_callAt g.2.2.2.2.2 S p0 p1 p2 Q X) : mMi l g yL_callAt (wAh_ yL_callAt cL_callAt 4 (some .int) [(0, 9, 12, 21)]) rm_L_callAt [.ref p0, .int p1, .ref p2] S Q X := by
  refine m_ofH (y := yL_callAt) (cc := cL_callAt) (maxL := 4) (ret := (some .int)) (hh := [(0, 9, 12, 21)]) (by decide) rfl (Nat.le_of_ble_eq_true rfl) ?_
  intro p e s m args below meth c ls hC hrt hlk hmn hnx hs hH hl
  have hC : CallFix p m c cL_callAt 4 s args (wAh_ yL_callAt cL_callAt 4 (some .int) [(0, 9, 12, 21)]) RL := hC
  have hl : lv_has ls 4 [(0, .ref p0), (1, .int p1), (2, .ref p2)] := hl
  unfold wp_L_callAt at hw
  refine lv_aload_n hC.1 hC.2.1 dL_callAt_0 rfl (lv_at hl 2 rfl) ?_
  refine lv_iconst (v := 0) hC.1 hC.2.1 dL_callAt_1 (by decide) ?_
  refine lv_aload_n hC.1 hC.2.1 dL_callAt_2 rfl (lv_at hl 0 rfl) ?_
  refine lv_iload_n hC.1 hC.2.1 dL_callAt_3 rfl (lv_at hl 1 rfl) ?_
  obtain ⟨k2, hw⟩ := hw
  refine m_callVi (y := yX4_callAt) (rest := [.int _, .ref _]) hC hs hH hl.1 (cwV 1 hC.2.2.2.2 (gA_V q_471 q_472 q_473 q_2 q_474) rfl rfl rfl (by decide +kernel) ⟨Nat.le_of_ble_eq_true rfl, Nat.le_of_ble_eq_true rfl⟩) cs4 k2 (met_X4_callAt l hl0 g _ _ _ _ _ hw) rfl rfl (Nat.le_of_ble_eq_true rfl) dL_callAt_4 ⟨Nat.le_of_ble_eq_true rfl, Nat.le_of_ble_eq_true rfl⟩ (fun E S9 H locs ce q9 hx hH hce hcv hcl => ?_) (fun r3 S1 H locs hw hH => ?_)
  · rcases hx with ⟨rfl, hw⟩
    · refine vx_catch (own := RL) hC.2.2.2.1 [] (⟨0, 9, 12, 21⟩ : ExceptionTableEntry) [] (by rw [hnx]; rfl) (fun z hz => absurd hz List.not_mem_nil) (by decide) (by decide) (hC.2.2.2.2 _ (List.mem_cons_of_mem _ q_170)) (va_Nw.use rfl (hs.2.2.2.2.2.2.2.2.2.2.1 ("java/lang/IndexOutOfBoundsException", "java/lang/IndexOutOfBoundsException") (by decide +kernel))) hce hcv hcl ?_
      refine W.widen (k := 1) (n := 6) (Nat.le_of_ble_eq_true rfl) (Nat.le_of_ble_eq_true rfl) ?_
      refine lv_astore_n (lv' := [(3, .ref _), (0, .ref _), (1, .int _), (2, .ref _)]) hC.1 hC.2.1 dL_callAt_12 rfl hl (by decide) rfl (fun ls hl => ?_)
      refine lv_iconst (v := 1) hC.1 hC.2.1 dL_callAt_13 (by decide) ?_
      exact m_reti hC hH hrt rfl hlk (Nat.le_of_ble_eq_true rfl) (Nat.le_of_ble_eq_true rfl) dL_callAt_14 hw
  refine W.widen (k := 1) (n := 6) (Nat.le_of_ble_eq_true rfl) (Nat.le_of_ble_eq_true rfl) ?_
  refine lv_i2l hC.1 hC.2.1 dL_callAt_7 rfl ?_
  obtain ⟨k4, hw⟩ := hw
  obtain ⟨i5, hw⟩ := hw
  have hw := hw _ rfl
  refine m_jast hC hs hH k4 i5 dL_callAt_8 (fun H locs hH => ?_)
  refine lv_goto (tgt := 15) hC.1 hC.2.1 dL_callAt_9 (by decide) ?_
  refine lv_iconst (v := 0) hC.1 hC.2.1 dL_callAt_15 (by decide) ?_
  exact m_reti hC hH hrt rfl hlk (Nat.le_of_ble_eq_true rfl) (Nat.le_of_ble_eq_true rfl) dL_callAt_16 hw
abbrev rm_L_isPeak : Room := { frames := 8, cells := 1, slots := 6, locals := 142 }
def wp_L_isPeak (z : Nat × Nat) (S : mmS) (p0 : Nat) (p1 : Int32) (p2 : Nat) (Q : Int32 → mmS → Prop) (X : String → mmS → Prop) : Prop := (p0 ∈ mL S ∧ mK S p0 = 4) ∧ wp_X4_isPeak z S p0 p1 (fun r3 S1 => (r3 = 0 → (p2 ∈ mL S1 ∧ mK S1 p2 = 9) ∧ vp_in (0 : Int32) (mN S1 p2) ∧ ∀ S6 : mmS, S6 = sJ S1 p2 ((0 : Int32)).toNatClampNeg (0 : Int64) → Q (0 : Int32) S6) ∧ (¬ r3 = 0 → (p2 ∈ mL S1 ∧ mK S1 p2 = 9) ∧ vp_in (0 : Int32) (mN S1 p2) ∧ ∀ S9 : mmS, S9 = sJ S1 p2 ((0 : Int32)).toNatClampNeg (1 : Int64) → Q (0 : Int32) S9)) (fun (E : String) (S9 : mmS) => (E = "java/lang/IndexOutOfBoundsException" ∧ Q (1 : Int32) S9))
set_option maxHeartbeats 4000000 in
set_option maxRecDepth 100000 in
theorem met_L_isPeak (l : Launch) (hl0 : l.stackTraces = false) (g : mG) (S : mmS) (p0 : Nat) (p1 : Int32) (p2 : Nat) (Q : Int32 → mmS → Prop) (X : String → mmS → Prop) (hw : wp_L_isPeak g.2.2.2.2.2 S p0 p1 p2 Q X) : mMi l g yL_isPeak (wAh_ yL_isPeak cL_isPeak 4 (some .int) [(0, 16, 19, 21)]) rm_L_isPeak [.ref p0, .int p1, .ref p2] S Q X := by
  refine m_ofH (y := yL_isPeak) (cc := cL_isPeak) (maxL := 4) (ret := (some .int)) (hh := [(0, 16, 19, 21)]) (by decide) rfl (Nat.le_of_ble_eq_true rfl) ?_
  intro p e s m args below meth c ls hC hrt hlk hmn hnx hs hH hl
  have hC : CallFix p m c cL_isPeak 4 s args (wAh_ yL_isPeak cL_isPeak 4 (some .int) [(0, 16, 19, 21)]) RL := hC
  have hl : lv_has ls 4 [(0, .ref p0), (1, .int p1), (2, .ref p2)] := hl
  unfold wp_L_isPeak at hw
  refine lv_aload_n hC.1 hC.2.1 dL_isPeak_0 rfl (lv_at hl 2 rfl) ?_
  refine lv_iconst (v := 0) hC.1 hC.2.1 dL_isPeak_1 (by decide) ?_
  refine lv_aload_n hC.1 hC.2.1 dL_isPeak_2 rfl (lv_at hl 0 rfl) ?_
  refine lv_iload_n hC.1 hC.2.1 dL_isPeak_3 rfl (lv_at hl 1 rfl) ?_
  obtain ⟨k2, hw⟩ := hw
  refine m_callVi (y := yX4_isPeak) (rest := [.int _, .ref _]) hC hs hH hl.1 (cwV 1 hC.2.2.2.2 (gA_V q_483 q_484 q_485 q_2 q_486) rfl rfl rfl (by decide +kernel) ⟨Nat.le_of_ble_eq_true rfl, Nat.le_of_ble_eq_true rfl⟩) cs4 k2 (met_X4_isPeak l hl0 g _ _ _ _ _ hw) rfl rfl (Nat.le_of_ble_eq_true rfl) dL_isPeak_4 ⟨Nat.le_of_ble_eq_true rfl, Nat.le_of_ble_eq_true rfl⟩ (fun E S9 H locs ce q9 hx hH hce hcv hcl => ?_) (fun r3 S1 H locs hw hH => ?_)
  · rcases hx with ⟨rfl, hw⟩
    · refine vx_catch (own := RL) hC.2.2.2.1 [] (⟨0, 16, 19, 21⟩ : ExceptionTableEntry) [] (by rw [hnx]; rfl) (fun z hz => absurd hz List.not_mem_nil) (by decide) (by decide) (hC.2.2.2.2 _ (List.mem_cons_of_mem _ q_170)) (va_Nw.use rfl (hs.2.2.2.2.2.2.2.2.2.2.1 ("java/lang/IndexOutOfBoundsException", "java/lang/IndexOutOfBoundsException") (by decide +kernel))) hce hcv hcl ?_
      refine W.widen (k := 1) (n := 6) (Nat.le_of_ble_eq_true rfl) (Nat.le_of_ble_eq_true rfl) ?_
      refine lv_astore_n (lv' := [(3, .ref _), (0, .ref _), (1, .int _), (2, .ref _)]) hC.1 hC.2.1 dL_isPeak_19 rfl hl (by decide) rfl (fun ls hl => ?_)
      refine lv_iconst (v := 1) hC.1 hC.2.1 dL_isPeak_20 (by decide) ?_
      exact m_reti hC hH hrt rfl hlk (Nat.le_of_ble_eq_true rfl) (Nat.le_of_ble_eq_true rfl) dL_isPeak_21 hw
  refine W.widen (k := 1) (n := 6) (Nat.le_of_ble_eq_true rfl) (Nat.le_of_ble_eq_true rfl) ?_
  refine lv_if_eq (tgt := 14) hC.1 hC.2.1 dL_isPeak_7 (by decide) (fun hc => ?_) (fun hc => ?_)
  · have hw := hw.1 hc
    refine lv_lconst (v := 0) hC.1 hC.2.1 dL_isPeak_14 (by decide) ?_
    obtain ⟨k4, hw⟩ := hw
    obtain ⟨i5, hw⟩ := hw
    have hw := hw _ rfl
    refine m_jast hC hs hH k4 i5 dL_isPeak_15 (fun H locs hH => ?_)
    refine lv_goto (tgt := 22) hC.1 hC.2.1 dL_isPeak_16 (by decide) ?_
    refine lv_iconst (v := 0) hC.1 hC.2.1 dL_isPeak_22 (by decide) ?_
    exact m_reti hC hH hrt rfl hlk (Nat.le_of_ble_eq_true rfl) (Nat.le_of_ble_eq_true rfl) dL_isPeak_23 hw
  · have hw := hw.2 hc
    refine lv_lconst (v := 1) hC.1 hC.2.1 dL_isPeak_10 (by decide) ?_
    refine lv_goto (tgt := 15) hC.1 hC.2.1 dL_isPeak_11 (by decide) ?_
    obtain ⟨k7, hw⟩ := hw
    obtain ⟨i8, hw⟩ := hw
    have hw := hw _ rfl
    refine m_jast hC hs hH k7 i8 dL_isPeak_15 (fun H locs hH => ?_)
    refine lv_goto (tgt := 22) hC.1 hC.2.1 dL_isPeak_16 (by decide) ?_
    refine lv_iconst (v := 0) hC.1 hC.2.1 dL_isPeak_22 (by decide) ?_
    exact m_reti hC hH hrt rfl hlk (Nat.le_of_ble_eq_true rfl) (Nat.le_of_ble_eq_true rfl) dL_isPeak_23 hw
abbrev rm_L_told : Room := { frames := 8, cells := 2, slots := 12, locals := 144 }
def wp_L_told (z : Nat × Nat) (S : mmS) (p0 : Nat) (p1 : Int32) (p2 : Int32) (p3 : Nat) (Q : Int32 → mmS → Prop) (X : String → mmS → Prop) : Prop := (p0 ∈ mL S ∧ mK S p0 = 4) ∧ wp_X4_told z S p0 p1 p2 (fun r3 S1 => (p3 ∈ mL S1 ∧ mK S1 p3 = 9) ∧ vp_in (0 : Int32) (mN S1 p3) ∧ ∀ S6 : mmS, S6 = sJ S1 p3 ((0 : Int32)).toNatClampNeg (Int32.toInt64 r3) → Q (0 : Int32) S6) (fun (E : String) (S9 : mmS) => (E = "java/lang/IndexOutOfBoundsException" ∧ Q (1 : Int32) S9))
set_option maxHeartbeats 4000000 in
set_option maxRecDepth 100000 in
theorem met_L_told (l : Launch) (hl0 : l.stackTraces = false) (g : mG) (S : mmS) (p0 : Nat) (p1 : Int32) (p2 : Int32) (p3 : Nat) (Q : Int32 → mmS → Prop) (X : String → mmS → Prop) (hw : wp_L_told g.2.2.2.2.2 S p0 p1 p2 p3 Q X) : mMi l g yL_told (wAh_ yL_told cL_told 5 (some .int) [(0, 10, 13, 21)]) rm_L_told [.ref p0, .int p1, .int p2, .ref p3] S Q X := by
  refine m_ofH (y := yL_told) (cc := cL_told) (maxL := 5) (ret := (some .int)) (hh := [(0, 10, 13, 21)]) (by decide) rfl (Nat.le_of_ble_eq_true rfl) ?_
  intro p e s m args below meth c ls hC hrt hlk hmn hnx hs hH hl
  have hC : CallFix p m c cL_told 5 s args (wAh_ yL_told cL_told 5 (some .int) [(0, 10, 13, 21)]) RL := hC
  have hl : lv_has ls 5 [(0, .ref p0), (1, .int p1), (2, .int p2), (3, .ref p3)] := hl
  unfold wp_L_told at hw
  refine lv_aload_n hC.1 hC.2.1 dL_told_0 rfl (lv_at hl 3 rfl) ?_
  refine lv_iconst (v := 0) hC.1 hC.2.1 dL_told_1 (by decide) ?_
  refine lv_aload_n hC.1 hC.2.1 dL_told_2 rfl (lv_at hl 0 rfl) ?_
  refine lv_iload_n hC.1 hC.2.1 dL_told_3 rfl (lv_at hl 1 rfl) ?_
  refine lv_iload_n hC.1 hC.2.1 dL_told_4 rfl (lv_at hl 2 rfl) ?_
  obtain ⟨k2, hw⟩ := hw
  refine m_callVi (y := yX4_told) (rest := [.int _, .ref _]) hC hs hH hl.1 (cwV 2 hC.2.2.2.2 (gA_V q_501 q_502 q_503 q_2 q_504) rfl rfl rfl (by decide +kernel) ⟨Nat.le_of_ble_eq_true rfl, Nat.le_of_ble_eq_true rfl⟩) cs4 k2 (met_X4_told l hl0 g _ _ _ _ _ _ hw) rfl rfl (Nat.le_of_ble_eq_true rfl) dL_told_5 ⟨Nat.le_of_ble_eq_true rfl, Nat.le_of_ble_eq_true rfl⟩ (fun E S9 H locs ce q9 hx hH hce hcv hcl => ?_) (fun r3 S1 H locs hw hH => ?_)
  · rcases hx with ⟨rfl, hw⟩
    · refine vx_catch (own := RL) hC.2.2.2.1 [] (⟨0, 10, 13, 21⟩ : ExceptionTableEntry) [] (by rw [hnx]; rfl) (fun z hz => absurd hz List.not_mem_nil) (by decide) (by decide) (hC.2.2.2.2 _ (List.mem_cons_of_mem _ q_170)) (va_Nw.use rfl (hs.2.2.2.2.2.2.2.2.2.2.1 ("java/lang/IndexOutOfBoundsException", "java/lang/IndexOutOfBoundsException") (by decide +kernel))) hce hcv hcl ?_
      refine W.widen (k := 2) (n := 12) (Nat.le_of_ble_eq_true rfl) (Nat.le_of_ble_eq_true rfl) ?_
      refine lv_astore (lv' := [(4, .ref _), (0, .ref _), (1, .int _), (2, .int _), (3, .ref _)]) hC.1 hC.2.1 dL_told_13 hl (by decide) rfl (fun ls hl => ?_)
      refine lv_iconst (v := 1) hC.1 hC.2.1 dL_told_15 (by decide) ?_
      exact m_reti hC hH hrt rfl hlk (Nat.le_of_ble_eq_true rfl) (Nat.le_of_ble_eq_true rfl) dL_told_16 hw
  refine W.widen (k := 2) (n := 12) (Nat.le_of_ble_eq_true rfl) (Nat.le_of_ble_eq_true rfl) ?_
  refine lv_i2l hC.1 hC.2.1 dL_told_8 rfl ?_
  obtain ⟨k4, hw⟩ := hw
  obtain ⟨i5, hw⟩ := hw
  have hw := hw _ rfl
  refine m_jast hC hs hH k4 i5 dL_told_9 (fun H locs hH => ?_)
  refine lv_goto (tgt := 17) hC.1 hC.2.1 dL_told_10 (by decide) ?_
  refine lv_iconst (v := 0) hC.1 hC.2.1 dL_told_17 (by decide) ?_
  exact m_reti hC hH hrt rfl hlk (Nat.le_of_ble_eq_true rfl) (Nat.le_of_ble_eq_true rfl) dL_told_18 hw
abbrev rm_L_lineSum : Room := { frames := 8, cells := 1, slots := 6, locals := 142 }
def wp_L_lineSum (z : Nat × Nat) (S : mmS) (p0 : Nat) (p1 : Int32) (p2 : Nat) (Q : Int32 → mmS → Prop) (X : String → mmS → Prop) : Prop := (p0 ∈ mL S ∧ mK S p0 = 4) ∧ wp_X4_lineSum z S p0 p1 (fun r3 S1 => (p2 ∈ mL S1 ∧ mK S1 p2 = 9) ∧ vp_in (0 : Int32) (mN S1 p2) ∧ ∀ S6 : mmS, S6 = sJ S1 p2 ((0 : Int32)).toNatClampNeg (Int32.toInt64 r3) → Q (0 : Int32) S6) (fun (E : String) (S9 : mmS) => (E = "java/lang/IndexOutOfBoundsException" ∧ Q (1 : Int32) S9))
set_option maxHeartbeats 4000000 in
set_option maxRecDepth 100000 in
theorem met_L_lineSum (l : Launch) (hl0 : l.stackTraces = false) (g : mG) (S : mmS) (p0 : Nat) (p1 : Int32) (p2 : Nat) (Q : Int32 → mmS → Prop) (X : String → mmS → Prop) (hw : wp_L_lineSum g.2.2.2.2.2 S p0 p1 p2 Q X) : mMi l g yL_lineSum (wAh_ yL_lineSum cL_lineSum 4 (some .int) [(0, 9, 12, 21)]) rm_L_lineSum [.ref p0, .int p1, .ref p2] S Q X := by
  refine m_ofH (y := yL_lineSum) (cc := cL_lineSum) (maxL := 4) (ret := (some .int)) (hh := [(0, 9, 12, 21)]) (by decide) rfl (Nat.le_of_ble_eq_true rfl) ?_
  intro p e s m args below meth c ls hC hrt hlk hmn hnx hs hH hl
  have hC : CallFix p m c cL_lineSum 4 s args (wAh_ yL_lineSum cL_lineSum 4 (some .int) [(0, 9, 12, 21)]) RL := hC
  have hl : lv_has ls 4 [(0, .ref p0), (1, .int p1), (2, .ref p2)] := hl
  unfold wp_L_lineSum at hw
  refine lv_aload_n hC.1 hC.2.1 dL_lineSum_0 rfl (lv_at hl 2 rfl) ?_
  refine lv_iconst (v := 0) hC.1 hC.2.1 dL_lineSum_1 (by decide) ?_
  refine lv_aload_n hC.1 hC.2.1 dL_lineSum_2 rfl (lv_at hl 0 rfl) ?_
  refine lv_iload_n hC.1 hC.2.1 dL_lineSum_3 rfl (lv_at hl 1 rfl) ?_
  obtain ⟨k2, hw⟩ := hw
  refine m_callVi (y := yX4_lineSum) (rest := [.int _, .ref _]) hC hs hH hl.1 (cwV 1 hC.2.2.2.2 (gA_V q_542 q_543 q_544 q_2 q_545) rfl rfl rfl (by decide +kernel) ⟨Nat.le_of_ble_eq_true rfl, Nat.le_of_ble_eq_true rfl⟩) cs4 k2 (met_X4_lineSum l hl0 g _ _ _ _ _ hw) rfl rfl (Nat.le_of_ble_eq_true rfl) dL_lineSum_4 ⟨Nat.le_of_ble_eq_true rfl, Nat.le_of_ble_eq_true rfl⟩ (fun E S9 H locs ce q9 hx hH hce hcv hcl => ?_) (fun r3 S1 H locs hw hH => ?_)
  · rcases hx with ⟨rfl, hw⟩
    · refine vx_catch (own := RL) hC.2.2.2.1 [] (⟨0, 9, 12, 21⟩ : ExceptionTableEntry) [] (by rw [hnx]; rfl) (fun z hz => absurd hz List.not_mem_nil) (by decide) (by decide) (hC.2.2.2.2 _ (List.mem_cons_of_mem _ q_170)) (va_Nw.use rfl (hs.2.2.2.2.2.2.2.2.2.2.1 ("java/lang/IndexOutOfBoundsException", "java/lang/IndexOutOfBoundsException") (by decide +kernel))) hce hcv hcl ?_
      refine W.widen (k := 1) (n := 6) (Nat.le_of_ble_eq_true rfl) (Nat.le_of_ble_eq_true rfl) ?_
      refine lv_astore_n (lv' := [(3, .ref _), (0, .ref _), (1, .int _), (2, .ref _)]) hC.1 hC.2.1 dL_lineSum_12 rfl hl (by decide) rfl (fun ls hl => ?_)
      refine lv_iconst (v := 1) hC.1 hC.2.1 dL_lineSum_13 (by decide) ?_
      exact m_reti hC hH hrt rfl hlk (Nat.le_of_ble_eq_true rfl) (Nat.le_of_ble_eq_true rfl) dL_lineSum_14 hw
  refine W.widen (k := 1) (n := 6) (Nat.le_of_ble_eq_true rfl) (Nat.le_of_ble_eq_true rfl) ?_
  refine lv_i2l hC.1 hC.2.1 dL_lineSum_7 rfl ?_
  obtain ⟨k4, hw⟩ := hw
  obtain ⟨i5, hw⟩ := hw
  have hw := hw _ rfl
  refine m_jast hC hs hH k4 i5 dL_lineSum_8 (fun H locs hH => ?_)
  refine lv_goto (tgt := 15) hC.1 hC.2.1 dL_lineSum_9 (by decide) ?_
  refine lv_iconst (v := 0) hC.1 hC.2.1 dL_lineSum_15 (by decide) ?_
  exact m_reti hC hH hrt rfl hlk (Nat.le_of_ble_eq_true rfl) (Nat.le_of_ble_eq_true rfl) dL_lineSum_16 hw
abbrev rm_L_daySum : Room := { frames := 7, cells := 1, slots := 6, locals := 124 }
def wp_L_daySum (z : Nat × Nat) (S : mmS) (p0 : Nat) (p1 : Int32) (p2 : Nat) (Q : Int32 → mmS → Prop) (X : String → mmS → Prop) : Prop := (p0 ∈ mL S ∧ mK S p0 = 4) ∧ wp_X4_daySum z S p0 p1 (fun r3 S1 => (p2 ∈ mL S1 ∧ mK S1 p2 = 9) ∧ vp_in (0 : Int32) (mN S1 p2) ∧ ∀ S6 : mmS, S6 = sJ S1 p2 ((0 : Int32)).toNatClampNeg (Int32.toInt64 r3) → Q (0 : Int32) S6) (fun (E : String) (S9 : mmS) => (E = "java/lang/IndexOutOfBoundsException" ∧ Q (1 : Int32) S9))
set_option maxHeartbeats 4000000 in
set_option maxRecDepth 100000 in
theorem met_L_daySum (l : Launch) (hl0 : l.stackTraces = false) (g : mG) (S : mmS) (p0 : Nat) (p1 : Int32) (p2 : Nat) (Q : Int32 → mmS → Prop) (X : String → mmS → Prop) (hw : wp_L_daySum g.2.2.2.2.2 S p0 p1 p2 Q X) : mMi l g yL_daySum (wAh_ yL_daySum cL_daySum 4 (some .int) [(0, 9, 12, 21)]) rm_L_daySum [.ref p0, .int p1, .ref p2] S Q X := by
  refine m_ofH (y := yL_daySum) (cc := cL_daySum) (maxL := 4) (ret := (some .int)) (hh := [(0, 9, 12, 21)]) (by decide) rfl (Nat.le_of_ble_eq_true rfl) ?_
  intro p e s m args below meth c ls hC hrt hlk hmn hnx hs hH hl
  have hC : CallFix p m c cL_daySum 4 s args (wAh_ yL_daySum cL_daySum 4 (some .int) [(0, 9, 12, 21)]) RL := hC
  have hl : lv_has ls 4 [(0, .ref p0), (1, .int p1), (2, .ref p2)] := hl
  unfold wp_L_daySum at hw
  refine lv_aload_n hC.1 hC.2.1 dL_daySum_0 rfl (lv_at hl 2 rfl) ?_
  refine lv_iconst (v := 0) hC.1 hC.2.1 dL_daySum_1 (by decide) ?_
  refine lv_aload_n hC.1 hC.2.1 dL_daySum_2 rfl (lv_at hl 0 rfl) ?_
  refine lv_iload_n hC.1 hC.2.1 dL_daySum_3 rfl (lv_at hl 1 rfl) ?_
  obtain ⟨k2, hw⟩ := hw
  refine m_callVi (y := yX4_daySum) (rest := [.int _, .ref _]) hC hs hH hl.1 (cwV 1 hC.2.2.2.2 (gA_V q_557 q_558 q_559 q_2 q_560) rfl rfl rfl (by decide +kernel) ⟨Nat.le_of_ble_eq_true rfl, Nat.le_of_ble_eq_true rfl⟩) cs4 k2 (met_X4_daySum l hl0 g _ _ _ _ _ hw) rfl rfl (Nat.le_of_ble_eq_true rfl) dL_daySum_4 ⟨Nat.le_of_ble_eq_true rfl, Nat.le_of_ble_eq_true rfl⟩ (fun E S9 H locs ce q9 hx hH hce hcv hcl => ?_) (fun r3 S1 H locs hw hH => ?_)
  · rcases hx with ⟨rfl, hw⟩
    · refine vx_catch (own := RL) hC.2.2.2.1 [] (⟨0, 9, 12, 21⟩ : ExceptionTableEntry) [] (by rw [hnx]; rfl) (fun z hz => absurd hz List.not_mem_nil) (by decide) (by decide) (hC.2.2.2.2 _ (List.mem_cons_of_mem _ q_170)) (va_Nw.use rfl (hs.2.2.2.2.2.2.2.2.2.2.1 ("java/lang/IndexOutOfBoundsException", "java/lang/IndexOutOfBoundsException") (by decide +kernel))) hce hcv hcl ?_
      refine W.widen (k := 1) (n := 6) (Nat.le_of_ble_eq_true rfl) (Nat.le_of_ble_eq_true rfl) ?_
      refine lv_astore_n (lv' := [(3, .ref _), (0, .ref _), (1, .int _), (2, .ref _)]) hC.1 hC.2.1 dL_daySum_12 rfl hl (by decide) rfl (fun ls hl => ?_)
      refine lv_iconst (v := 1) hC.1 hC.2.1 dL_daySum_13 (by decide) ?_
      exact m_reti hC hH hrt rfl hlk (Nat.le_of_ble_eq_true rfl) (Nat.le_of_ble_eq_true rfl) dL_daySum_14 hw
  refine W.widen (k := 1) (n := 6) (Nat.le_of_ble_eq_true rfl) (Nat.le_of_ble_eq_true rfl) ?_
  refine lv_i2l hC.1 hC.2.1 dL_daySum_7 rfl ?_
  obtain ⟨k4, hw⟩ := hw
  obtain ⟨i5, hw⟩ := hw
  have hw := hw _ rfl
  refine m_jast hC hs hH k4 i5 dL_daySum_8 (fun H locs hH => ?_)
  refine lv_goto (tgt := 15) hC.1 hC.2.1 dL_daySum_9 (by decide) ?_
  refine lv_iconst (v := 0) hC.1 hC.2.1 dL_daySum_15 (by decide) ?_
  exact m_reti hC hH hrt rfl hlk (Nat.le_of_ble_eq_true rfl) (Nat.le_of_ble_eq_true rfl) dL_daySum_16 hw
abbrev rm_L_sum : Room := { frames := 8, cells := 1, slots := 6, locals := 142 }
def wp_L_sum (z : Nat × Nat) (S : mmS) (p0 : Nat) (p1 : Int32) (p2 : Nat) (Q : Int32 → mmS → Prop) (X : String → mmS → Prop) : Prop := (p0 ∈ mL S ∧ mK S p0 = 4) ∧ wp_X4_sum z S p0 p1 (fun r3 S1 => (p2 ∈ mL S1 ∧ mK S1 p2 = 9) ∧ vp_in (0 : Int32) (mN S1 p2) ∧ ∀ S6 : mmS, S6 = sJ S1 p2 ((0 : Int32)).toNatClampNeg (Int32.toInt64 r3) → Q (0 : Int32) S6) (fun (E : String) (S9 : mmS) => (E = "java/lang/IndexOutOfBoundsException" ∧ Q (1 : Int32) S9))
set_option maxHeartbeats 4000000 in
set_option maxRecDepth 100000 in
theorem met_L_sum (l : Launch) (hl0 : l.stackTraces = false) (g : mG) (S : mmS) (p0 : Nat) (p1 : Int32) (p2 : Nat) (Q : Int32 → mmS → Prop) (X : String → mmS → Prop) (hw : wp_L_sum g.2.2.2.2.2 S p0 p1 p2 Q X) : mMi l g yL_sum (wAh_ yL_sum cL_sum 4 (some .int) [(0, 9, 12, 21)]) rm_L_sum [.ref p0, .int p1, .ref p2] S Q X := by
  refine m_ofH (y := yL_sum) (cc := cL_sum) (maxL := 4) (ret := (some .int)) (hh := [(0, 9, 12, 21)]) (by decide) rfl (Nat.le_of_ble_eq_true rfl) ?_
  intro p e s m args below meth c ls hC hrt hlk hmn hnx hs hH hl
  have hC : CallFix p m c cL_sum 4 s args (wAh_ yL_sum cL_sum 4 (some .int) [(0, 9, 12, 21)]) RL := hC
  have hl : lv_has ls 4 [(0, .ref p0), (1, .int p1), (2, .ref p2)] := hl
  unfold wp_L_sum at hw
  refine lv_aload_n hC.1 hC.2.1 dL_sum_0 rfl (lv_at hl 2 rfl) ?_
  refine lv_iconst (v := 0) hC.1 hC.2.1 dL_sum_1 (by decide) ?_
  refine lv_aload_n hC.1 hC.2.1 dL_sum_2 rfl (lv_at hl 0 rfl) ?_
  refine lv_iload_n hC.1 hC.2.1 dL_sum_3 rfl (lv_at hl 1 rfl) ?_
  obtain ⟨k2, hw⟩ := hw
  refine m_callVi (y := yX4_sum) (rest := [.int _, .ref _]) hC hs hH hl.1 (cwV 1 hC.2.2.2.2 (gA_V q_568 q_569 q_570 q_2 q_571) rfl rfl rfl (by decide +kernel) ⟨Nat.le_of_ble_eq_true rfl, Nat.le_of_ble_eq_true rfl⟩) cs4 k2 (met_X4_sum l hl0 g _ _ _ _ _ hw) rfl rfl (Nat.le_of_ble_eq_true rfl) dL_sum_4 ⟨Nat.le_of_ble_eq_true rfl, Nat.le_of_ble_eq_true rfl⟩ (fun E S9 H locs ce q9 hx hH hce hcv hcl => ?_) (fun r3 S1 H locs hw hH => ?_)
  · rcases hx with ⟨rfl, hw⟩
    · refine vx_catch (own := RL) hC.2.2.2.1 [] (⟨0, 9, 12, 21⟩ : ExceptionTableEntry) [] (by rw [hnx]; rfl) (fun z hz => absurd hz List.not_mem_nil) (by decide) (by decide) (hC.2.2.2.2 _ (List.mem_cons_of_mem _ q_170)) (va_Nw.use rfl (hs.2.2.2.2.2.2.2.2.2.2.1 ("java/lang/IndexOutOfBoundsException", "java/lang/IndexOutOfBoundsException") (by decide +kernel))) hce hcv hcl ?_
      refine W.widen (k := 1) (n := 6) (Nat.le_of_ble_eq_true rfl) (Nat.le_of_ble_eq_true rfl) ?_
      refine lv_astore_n (lv' := [(3, .ref _), (0, .ref _), (1, .int _), (2, .ref _)]) hC.1 hC.2.1 dL_sum_12 rfl hl (by decide) rfl (fun ls hl => ?_)
      refine lv_iconst (v := 1) hC.1 hC.2.1 dL_sum_13 (by decide) ?_
      exact m_reti hC hH hrt rfl hlk (Nat.le_of_ble_eq_true rfl) (Nat.le_of_ble_eq_true rfl) dL_sum_14 hw
  refine W.widen (k := 1) (n := 6) (Nat.le_of_ble_eq_true rfl) (Nat.le_of_ble_eq_true rfl) ?_
  refine lv_i2l hC.1 hC.2.1 dL_sum_7 rfl ?_
  obtain ⟨k4, hw⟩ := hw
  obtain ⟨i5, hw⟩ := hw
  have hw := hw _ rfl
  refine m_jast hC hs hH k4 i5 dL_sum_8 (fun H locs hH => ?_)
  refine lv_goto (tgt := 15) hC.1 hC.2.1 dL_sum_9 (by decide) ?_
  refine lv_iconst (v := 0) hC.1 hC.2.1 dL_sum_15 (by decide) ?_
  exact m_reti hC hH hrt rfl hlk (Nat.le_of_ble_eq_true rfl) (Nat.le_of_ble_eq_true rfl) dL_sum_16 hw
abbrev rm_L_total : Room := { frames := 8, cells := 1, slots := 6, locals := 142 }
def wp_L_total (z : Nat × Nat) (S : mmS) (p0 : Nat) (p1 : Int32) (p2 : Nat) (Q : Int32 → mmS → Prop) (X : String → mmS → Prop) : Prop := (p0 ∈ mL S ∧ mK S p0 = 4) ∧ wp_X4_total z S p0 p1 (fun r3 S1 => (p2 ∈ mL S1 ∧ mK S1 p2 = 9) ∧ vp_in (0 : Int32) (mN S1 p2) ∧ ∀ S6 : mmS, S6 = sJ S1 p2 ((0 : Int32)).toNatClampNeg (Int32.toInt64 r3) → Q (0 : Int32) S6) (fun (E : String) (S9 : mmS) => (E = "java/lang/IndexOutOfBoundsException" ∧ Q (1 : Int32) S9))
set_option maxHeartbeats 4000000 in
set_option maxRecDepth 100000 in
theorem met_L_total (l : Launch) (hl0 : l.stackTraces = false) (g : mG) (S : mmS) (p0 : Nat) (p1 : Int32) (p2 : Nat) (Q : Int32 → mmS → Prop) (X : String → mmS → Prop) (hw : wp_L_total g.2.2.2.2.2 S p0 p1 p2 Q X) : mMi l g yL_total (wAh_ yL_total cL_total 4 (some .int) [(0, 9, 12, 21)]) rm_L_total [.ref p0, .int p1, .ref p2] S Q X := by
  refine m_ofH (y := yL_total) (cc := cL_total) (maxL := 4) (ret := (some .int)) (hh := [(0, 9, 12, 21)]) (by decide) rfl (Nat.le_of_ble_eq_true rfl) ?_
  intro p e s m args below meth c ls hC hrt hlk hmn hnx hs hH hl
  have hC : CallFix p m c cL_total 4 s args (wAh_ yL_total cL_total 4 (some .int) [(0, 9, 12, 21)]) RL := hC
  have hl : lv_has ls 4 [(0, .ref p0), (1, .int p1), (2, .ref p2)] := hl
  unfold wp_L_total at hw
  refine lv_aload_n hC.1 hC.2.1 dL_total_0 rfl (lv_at hl 2 rfl) ?_
  refine lv_iconst (v := 0) hC.1 hC.2.1 dL_total_1 (by decide) ?_
  refine lv_aload_n hC.1 hC.2.1 dL_total_2 rfl (lv_at hl 0 rfl) ?_
  refine lv_iload_n hC.1 hC.2.1 dL_total_3 rfl (lv_at hl 1 rfl) ?_
  obtain ⟨k2, hw⟩ := hw
  refine m_callVi (y := yX4_total) (rest := [.int _, .ref _]) hC hs hH hl.1 (cwV 1 hC.2.2.2.2 (gA_V q_583 q_584 q_585 q_2 q_586) rfl rfl rfl (by decide +kernel) ⟨Nat.le_of_ble_eq_true rfl, Nat.le_of_ble_eq_true rfl⟩) cs4 k2 (met_X4_total l hl0 g _ _ _ _ _ hw) rfl rfl (Nat.le_of_ble_eq_true rfl) dL_total_4 ⟨Nat.le_of_ble_eq_true rfl, Nat.le_of_ble_eq_true rfl⟩ (fun E S9 H locs ce q9 hx hH hce hcv hcl => ?_) (fun r3 S1 H locs hw hH => ?_)
  · rcases hx with ⟨rfl, hw⟩
    · refine vx_catch (own := RL) hC.2.2.2.1 [] (⟨0, 9, 12, 21⟩ : ExceptionTableEntry) [] (by rw [hnx]; rfl) (fun z hz => absurd hz List.not_mem_nil) (by decide) (by decide) (hC.2.2.2.2 _ (List.mem_cons_of_mem _ q_170)) (va_Nw.use rfl (hs.2.2.2.2.2.2.2.2.2.2.1 ("java/lang/IndexOutOfBoundsException", "java/lang/IndexOutOfBoundsException") (by decide +kernel))) hce hcv hcl ?_
      refine W.widen (k := 1) (n := 6) (Nat.le_of_ble_eq_true rfl) (Nat.le_of_ble_eq_true rfl) ?_
      refine lv_astore_n (lv' := [(3, .ref _), (0, .ref _), (1, .int _), (2, .ref _)]) hC.1 hC.2.1 dL_total_12 rfl hl (by decide) rfl (fun ls hl => ?_)
      refine lv_iconst (v := 1) hC.1 hC.2.1 dL_total_13 (by decide) ?_
      exact m_reti hC hH hrt rfl hlk (Nat.le_of_ble_eq_true rfl) (Nat.le_of_ble_eq_true rfl) dL_total_14 hw
  refine W.widen (k := 1) (n := 6) (Nat.le_of_ble_eq_true rfl) (Nat.le_of_ble_eq_true rfl) ?_
  refine lv_i2l hC.1 hC.2.1 dL_total_7 rfl ?_
  obtain ⟨k4, hw⟩ := hw
  obtain ⟨i5, hw⟩ := hw
  have hw := hw _ rfl
  refine m_jast hC hs hH k4 i5 dL_total_8 (fun H locs hH => ?_)
  refine lv_goto (tgt := 15) hC.1 hC.2.1 dL_total_9 (by decide) ?_
  refine lv_iconst (v := 0) hC.1 hC.2.1 dL_total_15 (by decide) ?_
  exact m_reti hC hH hrt rfl hlk (Nat.le_of_ble_eq_true rfl) (Nat.le_of_ble_eq_true rfl) dL_total_16 hw
abbrev rm_L_left : Room := { frames := 8, cells := 1, slots := 6, locals := 142 }
def wp_L_left (z : Nat × Nat) (S : mmS) (p0 : Nat) (p1 : Int32) (p2 : Nat) (Q : Int32 → mmS → Prop) (X : String → mmS → Prop) : Prop := (p0 ∈ mL S ∧ mK S p0 = 4) ∧ wp_X4_left z S p0 p1 (fun r3 S1 => (p2 ∈ mL S1 ∧ mK S1 p2 = 9) ∧ vp_in (0 : Int32) (mN S1 p2) ∧ ∀ S6 : mmS, S6 = sJ S1 p2 ((0 : Int32)).toNatClampNeg (Int32.toInt64 r3) → Q (0 : Int32) S6) (fun (E : String) (S9 : mmS) => (E = "java/lang/IndexOutOfBoundsException" ∧ Q (1 : Int32) S9))
set_option maxHeartbeats 4000000 in
set_option maxRecDepth 100000 in
theorem met_L_left (l : Launch) (hl0 : l.stackTraces = false) (g : mG) (S : mmS) (p0 : Nat) (p1 : Int32) (p2 : Nat) (Q : Int32 → mmS → Prop) (X : String → mmS → Prop) (hw : wp_L_left g.2.2.2.2.2 S p0 p1 p2 Q X) : mMi l g yL_left (wAh_ yL_left cL_left 4 (some .int) [(0, 9, 12, 21)]) rm_L_left [.ref p0, .int p1, .ref p2] S Q X := by
  refine m_ofH (y := yL_left) (cc := cL_left) (maxL := 4) (ret := (some .int)) (hh := [(0, 9, 12, 21)]) (by decide) rfl (Nat.le_of_ble_eq_true rfl) ?_
  intro p e s m args below meth c ls hC hrt hlk hmn hnx hs hH hl
  have hC : CallFix p m c cL_left 4 s args (wAh_ yL_left cL_left 4 (some .int) [(0, 9, 12, 21)]) RL := hC
  have hl : lv_has ls 4 [(0, .ref p0), (1, .int p1), (2, .ref p2)] := hl
  unfold wp_L_left at hw
  refine lv_aload_n hC.1 hC.2.1 dL_left_0 rfl (lv_at hl 2 rfl) ?_
  refine lv_iconst (v := 0) hC.1 hC.2.1 dL_left_1 (by decide) ?_
  refine lv_aload_n hC.1 hC.2.1 dL_left_2 rfl (lv_at hl 0 rfl) ?_
  refine lv_iload_n hC.1 hC.2.1 dL_left_3 rfl (lv_at hl 1 rfl) ?_
  obtain ⟨k2, hw⟩ := hw
  refine m_callVi (y := yX4_left) (rest := [.int _, .ref _]) hC hs hH hl.1 (cwV 1 hC.2.2.2.2 (gA_V q_605 q_606 q_607 q_2 q_608) rfl rfl rfl (by decide +kernel) ⟨Nat.le_of_ble_eq_true rfl, Nat.le_of_ble_eq_true rfl⟩) cs4 k2 (met_X4_left l hl0 g _ _ _ _ _ hw) rfl rfl (Nat.le_of_ble_eq_true rfl) dL_left_4 ⟨Nat.le_of_ble_eq_true rfl, Nat.le_of_ble_eq_true rfl⟩ (fun E S9 H locs ce q9 hx hH hce hcv hcl => ?_) (fun r3 S1 H locs hw hH => ?_)
  · rcases hx with ⟨rfl, hw⟩
    · refine vx_catch (own := RL) hC.2.2.2.1 [] (⟨0, 9, 12, 21⟩ : ExceptionTableEntry) [] (by rw [hnx]; rfl) (fun z hz => absurd hz List.not_mem_nil) (by decide) (by decide) (hC.2.2.2.2 _ (List.mem_cons_of_mem _ q_170)) (va_Nw.use rfl (hs.2.2.2.2.2.2.2.2.2.2.1 ("java/lang/IndexOutOfBoundsException", "java/lang/IndexOutOfBoundsException") (by decide +kernel))) hce hcv hcl ?_
      refine W.widen (k := 1) (n := 6) (Nat.le_of_ble_eq_true rfl) (Nat.le_of_ble_eq_true rfl) ?_
      refine lv_astore_n (lv' := [(3, .ref _), (0, .ref _), (1, .int _), (2, .ref _)]) hC.1 hC.2.1 dL_left_12 rfl hl (by decide) rfl (fun ls hl => ?_)
      refine lv_iconst (v := 1) hC.1 hC.2.1 dL_left_13 (by decide) ?_
      exact m_reti hC hH hrt rfl hlk (Nat.le_of_ble_eq_true rfl) (Nat.le_of_ble_eq_true rfl) dL_left_14 hw
  refine W.widen (k := 1) (n := 6) (Nat.le_of_ble_eq_true rfl) (Nat.le_of_ble_eq_true rfl) ?_
  refine lv_i2l hC.1 hC.2.1 dL_left_7 rfl ?_
  obtain ⟨k4, hw⟩ := hw
  obtain ⟨i5, hw⟩ := hw
  have hw := hw _ rfl
  refine m_jast hC hs hH k4 i5 dL_left_8 (fun H locs hH => ?_)
  refine lv_goto (tgt := 15) hC.1 hC.2.1 dL_left_9 (by decide) ?_
  refine lv_iconst (v := 0) hC.1 hC.2.1 dL_left_15 (by decide) ?_
  exact m_reti hC hH hrt rfl hlk (Nat.le_of_ble_eq_true rfl) (Nat.le_of_ble_eq_true rfl) dL_left_16 hw
abbrev rm_L_emptied : Room := { frames := 8, cells := 1, slots := 6, locals := 142 }
def wp_L_emptied (z : Nat × Nat) (S : mmS) (p0 : Nat) (p1 : Int32) (p2 : Nat) (Q : Int32 → mmS → Prop) (X : String → mmS → Prop) : Prop := (p0 ∈ mL S ∧ mK S p0 = 4) ∧ wp_X4_emptied z S p0 p1 (fun r3 S1 => (p2 ∈ mL S1 ∧ mK S1 p2 = 9) ∧ vp_in (0 : Int32) (mN S1 p2) ∧ ∀ S6 : mmS, S6 = sJ S1 p2 ((0 : Int32)).toNatClampNeg (Int32.toInt64 r3) → Q (0 : Int32) S6) (fun (E : String) (S9 : mmS) => (E = "java/lang/IndexOutOfBoundsException" ∧ Q (1 : Int32) S9))
set_option maxHeartbeats 4000000 in
set_option maxRecDepth 100000 in
theorem met_L_emptied (l : Launch) (hl0 : l.stackTraces = false) (g : mG) (S : mmS) (p0 : Nat) (p1 : Int32) (p2 : Nat) (Q : Int32 → mmS → Prop) (X : String → mmS → Prop) (hw : wp_L_emptied g.2.2.2.2.2 S p0 p1 p2 Q X) : mMi l g yL_emptied (wAh_ yL_emptied cL_emptied 4 (some .int) [(0, 9, 12, 21)]) rm_L_emptied [.ref p0, .int p1, .ref p2] S Q X := by
  refine m_ofH (y := yL_emptied) (cc := cL_emptied) (maxL := 4) (ret := (some .int)) (hh := [(0, 9, 12, 21)]) (by decide) rfl (Nat.le_of_ble_eq_true rfl) ?_
  intro p e s m args below meth c ls hC hrt hlk hmn hnx hs hH hl
  have hC : CallFix p m c cL_emptied 4 s args (wAh_ yL_emptied cL_emptied 4 (some .int) [(0, 9, 12, 21)]) RL := hC
  have hl : lv_has ls 4 [(0, .ref p0), (1, .int p1), (2, .ref p2)] := hl
  unfold wp_L_emptied at hw
  refine lv_aload_n hC.1 hC.2.1 dL_emptied_0 rfl (lv_at hl 2 rfl) ?_
  refine lv_iconst (v := 0) hC.1 hC.2.1 dL_emptied_1 (by decide) ?_
  refine lv_aload_n hC.1 hC.2.1 dL_emptied_2 rfl (lv_at hl 0 rfl) ?_
  refine lv_iload_n hC.1 hC.2.1 dL_emptied_3 rfl (lv_at hl 1 rfl) ?_
  obtain ⟨k2, hw⟩ := hw
  refine m_callVi (y := yX4_emptied) (rest := [.int _, .ref _]) hC hs hH hl.1 (cwV 1 hC.2.2.2.2 (gA_V q_617 q_618 q_619 q_2 q_620) rfl rfl rfl (by decide +kernel) ⟨Nat.le_of_ble_eq_true rfl, Nat.le_of_ble_eq_true rfl⟩) cs4 k2 (met_X4_emptied l hl0 g _ _ _ _ _ hw) rfl rfl (Nat.le_of_ble_eq_true rfl) dL_emptied_4 ⟨Nat.le_of_ble_eq_true rfl, Nat.le_of_ble_eq_true rfl⟩ (fun E S9 H locs ce q9 hx hH hce hcv hcl => ?_) (fun r3 S1 H locs hw hH => ?_)
  · rcases hx with ⟨rfl, hw⟩
    · refine vx_catch (own := RL) hC.2.2.2.1 [] (⟨0, 9, 12, 21⟩ : ExceptionTableEntry) [] (by rw [hnx]; rfl) (fun z hz => absurd hz List.not_mem_nil) (by decide) (by decide) (hC.2.2.2.2 _ (List.mem_cons_of_mem _ q_170)) (va_Nw.use rfl (hs.2.2.2.2.2.2.2.2.2.2.1 ("java/lang/IndexOutOfBoundsException", "java/lang/IndexOutOfBoundsException") (by decide +kernel))) hce hcv hcl ?_
      refine W.widen (k := 1) (n := 6) (Nat.le_of_ble_eq_true rfl) (Nat.le_of_ble_eq_true rfl) ?_
      refine lv_astore_n (lv' := [(3, .ref _), (0, .ref _), (1, .int _), (2, .ref _)]) hC.1 hC.2.1 dL_emptied_12 rfl hl (by decide) rfl (fun ls hl => ?_)
      refine lv_iconst (v := 1) hC.1 hC.2.1 dL_emptied_13 (by decide) ?_
      exact m_reti hC hH hrt rfl hlk (Nat.le_of_ble_eq_true rfl) (Nat.le_of_ble_eq_true rfl) dL_emptied_14 hw
  refine W.widen (k := 1) (n := 6) (Nat.le_of_ble_eq_true rfl) (Nat.le_of_ble_eq_true rfl) ?_
  refine lv_i2l hC.1 hC.2.1 dL_emptied_7 rfl ?_
  obtain ⟨k4, hw⟩ := hw
  obtain ⟨i5, hw⟩ := hw
  have hw := hw _ rfl
  refine m_jast hC hs hH k4 i5 dL_emptied_8 (fun H locs hH => ?_)
  refine lv_goto (tgt := 15) hC.1 hC.2.1 dL_emptied_9 (by decide) ?_
  refine lv_iconst (v := 0) hC.1 hC.2.1 dL_emptied_15 (by decide) ?_
  exact m_reti hC hH hrt rfl hlk (Nat.le_of_ble_eq_true rfl) (Nat.le_of_ble_eq_true rfl) dL_emptied_16 hw
abbrev rm_L_dayFees : Room := { frames := 8, cells := 2, slots := 12, locals := 144 }
def wp_L_dayFees (z : Nat × Nat) (S : mmS) (p0 : Nat) (p1 : Int32) (p2 : Int32) (p3 : Nat) (Q : Int32 → mmS → Prop) (X : String → mmS → Prop) : Prop := (p0 ∈ mL S ∧ mK S p0 = 4) ∧ wp_X4_dayFees z S p0 p1 p2 (fun r3 S1 => (p3 ∈ mL S1 ∧ mK S1 p3 = 9) ∧ vp_in (0 : Int32) (mN S1 p3) ∧ ∀ S6 : mmS, S6 = sJ S1 p3 ((0 : Int32)).toNatClampNeg (Int32.toInt64 r3) → Q (0 : Int32) S6) (fun (E : String) (S9 : mmS) => (E = "java/lang/IndexOutOfBoundsException" ∧ Q (1 : Int32) S9))
set_option maxHeartbeats 4000000 in
set_option maxRecDepth 100000 in
theorem met_L_dayFees (l : Launch) (hl0 : l.stackTraces = false) (g : mG) (S : mmS) (p0 : Nat) (p1 : Int32) (p2 : Int32) (p3 : Nat) (Q : Int32 → mmS → Prop) (X : String → mmS → Prop) (hw : wp_L_dayFees g.2.2.2.2.2 S p0 p1 p2 p3 Q X) : mMi l g yL_dayFees (wAh_ yL_dayFees cL_dayFees 5 (some .int) [(0, 10, 13, 21)]) rm_L_dayFees [.ref p0, .int p1, .int p2, .ref p3] S Q X := by
  refine m_ofH (y := yL_dayFees) (cc := cL_dayFees) (maxL := 5) (ret := (some .int)) (hh := [(0, 10, 13, 21)]) (by decide) rfl (Nat.le_of_ble_eq_true rfl) ?_
  intro p e s m args below meth c ls hC hrt hlk hmn hnx hs hH hl
  have hC : CallFix p m c cL_dayFees 5 s args (wAh_ yL_dayFees cL_dayFees 5 (some .int) [(0, 10, 13, 21)]) RL := hC
  have hl : lv_has ls 5 [(0, .ref p0), (1, .int p1), (2, .int p2), (3, .ref p3)] := hl
  unfold wp_L_dayFees at hw
  refine lv_aload_n hC.1 hC.2.1 dL_dayFees_0 rfl (lv_at hl 3 rfl) ?_
  refine lv_iconst (v := 0) hC.1 hC.2.1 dL_dayFees_1 (by decide) ?_
  refine lv_aload_n hC.1 hC.2.1 dL_dayFees_2 rfl (lv_at hl 0 rfl) ?_
  refine lv_iload_n hC.1 hC.2.1 dL_dayFees_3 rfl (lv_at hl 1 rfl) ?_
  refine lv_iload_n hC.1 hC.2.1 dL_dayFees_4 rfl (lv_at hl 2 rfl) ?_
  obtain ⟨k2, hw⟩ := hw
  refine m_callVi (y := yX4_dayFees) (rest := [.int _, .ref _]) hC hs hH hl.1 (cwV 2 hC.2.2.2.2 (gA_V q_629 q_630 q_631 q_2 q_632) rfl rfl rfl (by decide +kernel) ⟨Nat.le_of_ble_eq_true rfl, Nat.le_of_ble_eq_true rfl⟩) cs4 k2 (met_X4_dayFees l hl0 g _ _ _ _ _ _ hw) rfl rfl (Nat.le_of_ble_eq_true rfl) dL_dayFees_5 ⟨Nat.le_of_ble_eq_true rfl, Nat.le_of_ble_eq_true rfl⟩ (fun E S9 H locs ce q9 hx hH hce hcv hcl => ?_) (fun r3 S1 H locs hw hH => ?_)
  · rcases hx with ⟨rfl, hw⟩
    · refine vx_catch (own := RL) hC.2.2.2.1 [] (⟨0, 10, 13, 21⟩ : ExceptionTableEntry) [] (by rw [hnx]; rfl) (fun z hz => absurd hz List.not_mem_nil) (by decide) (by decide) (hC.2.2.2.2 _ (List.mem_cons_of_mem _ q_170)) (va_Nw.use rfl (hs.2.2.2.2.2.2.2.2.2.2.1 ("java/lang/IndexOutOfBoundsException", "java/lang/IndexOutOfBoundsException") (by decide +kernel))) hce hcv hcl ?_
      refine W.widen (k := 2) (n := 12) (Nat.le_of_ble_eq_true rfl) (Nat.le_of_ble_eq_true rfl) ?_
      refine lv_astore (lv' := [(4, .ref _), (0, .ref _), (1, .int _), (2, .int _), (3, .ref _)]) hC.1 hC.2.1 dL_dayFees_13 hl (by decide) rfl (fun ls hl => ?_)
      refine lv_iconst (v := 1) hC.1 hC.2.1 dL_dayFees_15 (by decide) ?_
      exact m_reti hC hH hrt rfl hlk (Nat.le_of_ble_eq_true rfl) (Nat.le_of_ble_eq_true rfl) dL_dayFees_16 hw
  refine W.widen (k := 2) (n := 12) (Nat.le_of_ble_eq_true rfl) (Nat.le_of_ble_eq_true rfl) ?_
  refine lv_i2l hC.1 hC.2.1 dL_dayFees_8 rfl ?_
  obtain ⟨k4, hw⟩ := hw
  obtain ⟨i5, hw⟩ := hw
  have hw := hw _ rfl
  refine m_jast hC hs hH k4 i5 dL_dayFees_9 (fun H locs hH => ?_)
  refine lv_goto (tgt := 17) hC.1 hC.2.1 dL_dayFees_10 (by decide) ?_
  refine lv_iconst (v := 0) hC.1 hC.2.1 dL_dayFees_17 (by decide) ?_
  exact m_reti hC hH hrt rfl hlk (Nat.le_of_ble_eq_true rfl) (Nat.le_of_ble_eq_true rfl) dL_dayFees_18 hw
abbrev rm_L_totalWith : Room := { frames := 8, cells := 2, slots := 12, locals := 164 }
def wp_L_totalWith (z : Nat × Nat) (S : mmS) (p0 : Nat) (p1 : Int32) (p2 : Int32) (p3 : Nat) (Q : Int32 → mmS → Prop) (X : String → mmS → Prop) : Prop := (p0 ∈ mL S ∧ mK S p0 = 4) ∧ wp_X4_totalWith z S p0 p1 p2 (fun r3 S1 => (p3 ∈ mL S1 ∧ mK S1 p3 = 9) ∧ vp_in (0 : Int32) (mN S1 p3) ∧ ∀ S6 : mmS, S6 = sJ S1 p3 ((0 : Int32)).toNatClampNeg (Int32.toInt64 r3) → Q (0 : Int32) S6) (fun (E : String) (S9 : mmS) => (E = "java/lang/IndexOutOfBoundsException" ∧ Q (1 : Int32) S9))
set_option maxHeartbeats 4000000 in
set_option maxRecDepth 100000 in
theorem met_L_totalWith (l : Launch) (hl0 : l.stackTraces = false) (g : mG) (S : mmS) (p0 : Nat) (p1 : Int32) (p2 : Int32) (p3 : Nat) (Q : Int32 → mmS → Prop) (X : String → mmS → Prop) (hw : wp_L_totalWith g.2.2.2.2.2 S p0 p1 p2 p3 Q X) : mMi l g yL_totalWith (wAh_ yL_totalWith cL_totalWith 5 (some .int) [(0, 10, 13, 21)]) rm_L_totalWith [.ref p0, .int p1, .int p2, .ref p3] S Q X := by
  refine m_ofH (y := yL_totalWith) (cc := cL_totalWith) (maxL := 5) (ret := (some .int)) (hh := [(0, 10, 13, 21)]) (by decide) rfl (Nat.le_of_ble_eq_true rfl) ?_
  intro p e s m args below meth c ls hC hrt hlk hmn hnx hs hH hl
  have hC : CallFix p m c cL_totalWith 5 s args (wAh_ yL_totalWith cL_totalWith 5 (some .int) [(0, 10, 13, 21)]) RL := hC
  have hl : lv_has ls 5 [(0, .ref p0), (1, .int p1), (2, .int p2), (3, .ref p3)] := hl
  unfold wp_L_totalWith at hw
  refine lv_aload_n hC.1 hC.2.1 dL_totalWith_0 rfl (lv_at hl 3 rfl) ?_
  refine lv_iconst (v := 0) hC.1 hC.2.1 dL_totalWith_1 (by decide) ?_
  refine lv_aload_n hC.1 hC.2.1 dL_totalWith_2 rfl (lv_at hl 0 rfl) ?_
  refine lv_iload_n hC.1 hC.2.1 dL_totalWith_3 rfl (lv_at hl 1 rfl) ?_
  refine lv_iload_n hC.1 hC.2.1 dL_totalWith_4 rfl (lv_at hl 2 rfl) ?_
  obtain ⟨k2, hw⟩ := hw
  refine m_callVi (y := yX4_totalWith) (rest := [.int _, .ref _]) hC hs hH hl.1 (cwV 2 hC.2.2.2.2 (gA_V q_641 q_642 q_643 q_2 q_644) rfl rfl rfl (by decide +kernel) ⟨Nat.le_of_ble_eq_true rfl, Nat.le_of_ble_eq_true rfl⟩) cs4 k2 (met_X4_totalWith l hl0 g _ _ _ _ _ _ hw) rfl rfl (Nat.le_of_ble_eq_true rfl) dL_totalWith_5 ⟨Nat.le_of_ble_eq_true rfl, Nat.le_of_ble_eq_true rfl⟩ (fun E S9 H locs ce q9 hx hH hce hcv hcl => ?_) (fun r3 S1 H locs hw hH => ?_)
  · rcases hx with ⟨rfl, hw⟩
    · refine vx_catch (own := RL) hC.2.2.2.1 [] (⟨0, 10, 13, 21⟩ : ExceptionTableEntry) [] (by rw [hnx]; rfl) (fun z hz => absurd hz List.not_mem_nil) (by decide) (by decide) (hC.2.2.2.2 _ (List.mem_cons_of_mem _ q_170)) (va_Nw.use rfl (hs.2.2.2.2.2.2.2.2.2.2.1 ("java/lang/IndexOutOfBoundsException", "java/lang/IndexOutOfBoundsException") (by decide +kernel))) hce hcv hcl ?_
      refine W.widen (k := 2) (n := 12) (Nat.le_of_ble_eq_true rfl) (Nat.le_of_ble_eq_true rfl) ?_
      refine lv_astore (lv' := [(4, .ref _), (0, .ref _), (1, .int _), (2, .int _), (3, .ref _)]) hC.1 hC.2.1 dL_totalWith_13 hl (by decide) rfl (fun ls hl => ?_)
      refine lv_iconst (v := 1) hC.1 hC.2.1 dL_totalWith_15 (by decide) ?_
      exact m_reti hC hH hrt rfl hlk (Nat.le_of_ble_eq_true rfl) (Nat.le_of_ble_eq_true rfl) dL_totalWith_16 hw
  refine W.widen (k := 2) (n := 12) (Nat.le_of_ble_eq_true rfl) (Nat.le_of_ble_eq_true rfl) ?_
  refine lv_i2l hC.1 hC.2.1 dL_totalWith_8 rfl ?_
  obtain ⟨k4, hw⟩ := hw
  obtain ⟨i5, hw⟩ := hw
  have hw := hw _ rfl
  refine m_jast hC hs hH k4 i5 dL_totalWith_9 (fun H locs hH => ?_)
  refine lv_goto (tgt := 17) hC.1 hC.2.1 dL_totalWith_10 (by decide) ?_
  refine lv_iconst (v := 0) hC.1 hC.2.1 dL_totalWith_17 (by decide) ?_
  exact m_reti hC hH hrt rfl hlk (Nat.le_of_ble_eq_true rfl) (Nat.le_of_ble_eq_true rfl) dL_totalWith_18 hw
abbrev rm_L_bestTariff : Room := { frames := 8, cells := 1, slots := 6, locals := 165 }
def wp_L_bestTariff (z : Nat × Nat) (S : mmS) (p0 : Nat) (p1 : Int32) (p2 : Nat) (Q : Int32 → mmS → Prop) (X : String → mmS → Prop) : Prop := (p0 ∈ mL S ∧ mK S p0 = 4) ∧ wp_X4_bestTariff z S p0 p1 (fun r3 S1 => (p2 ∈ mL S1 ∧ mK S1 p2 = 9) ∧ vp_in (0 : Int32) (mN S1 p2) ∧ ∀ S6 : mmS, S6 = sJ S1 p2 ((0 : Int32)).toNatClampNeg (Int32.toInt64 r3) → Q (0 : Int32) S6) (fun (E : String) (S9 : mmS) => (E = "java/lang/IndexOutOfBoundsException" ∧ Q (1 : Int32) S9))
set_option maxHeartbeats 4000000 in
set_option maxRecDepth 100000 in
theorem met_L_bestTariff (l : Launch) (hl0 : l.stackTraces = false) (g : mG) (S : mmS) (p0 : Nat) (p1 : Int32) (p2 : Nat) (Q : Int32 → mmS → Prop) (X : String → mmS → Prop) (hw : wp_L_bestTariff g.2.2.2.2.2 S p0 p1 p2 Q X) : mMi l g yL_bestTariff (wAh_ yL_bestTariff cL_bestTariff 4 (some .int) [(0, 9, 12, 21)]) rm_L_bestTariff [.ref p0, .int p1, .ref p2] S Q X := by
  refine m_ofH (y := yL_bestTariff) (cc := cL_bestTariff) (maxL := 4) (ret := (some .int)) (hh := [(0, 9, 12, 21)]) (by decide) rfl (Nat.le_of_ble_eq_true rfl) ?_
  intro p e s m args below meth c ls hC hrt hlk hmn hnx hs hH hl
  have hC : CallFix p m c cL_bestTariff 4 s args (wAh_ yL_bestTariff cL_bestTariff 4 (some .int) [(0, 9, 12, 21)]) RL := hC
  have hl : lv_has ls 4 [(0, .ref p0), (1, .int p1), (2, .ref p2)] := hl
  unfold wp_L_bestTariff at hw
  refine lv_aload_n hC.1 hC.2.1 dL_bestTariff_0 rfl (lv_at hl 2 rfl) ?_
  refine lv_iconst (v := 0) hC.1 hC.2.1 dL_bestTariff_1 (by decide) ?_
  refine lv_aload_n hC.1 hC.2.1 dL_bestTariff_2 rfl (lv_at hl 0 rfl) ?_
  refine lv_iload_n hC.1 hC.2.1 dL_bestTariff_3 rfl (lv_at hl 1 rfl) ?_
  obtain ⟨k2, hw⟩ := hw
  refine m_callVi (y := yX4_bestTariff) (rest := [.int _, .ref _]) hC hs hH hl.1 (cwV 1 hC.2.2.2.2 (gA_V q_656 q_657 q_658 q_2 q_659) rfl rfl rfl (by decide +kernel) ⟨Nat.le_of_ble_eq_true rfl, Nat.le_of_ble_eq_true rfl⟩) cs4 k2 (met_X4_bestTariff l hl0 g _ _ _ _ _ hw) rfl rfl (Nat.le_of_ble_eq_true rfl) dL_bestTariff_4 ⟨Nat.le_of_ble_eq_true rfl, Nat.le_of_ble_eq_true rfl⟩ (fun E S9 H locs ce q9 hx hH hce hcv hcl => ?_) (fun r3 S1 H locs hw hH => ?_)
  · rcases hx with ⟨rfl, hw⟩
    · refine vx_catch (own := RL) hC.2.2.2.1 [] (⟨0, 9, 12, 21⟩ : ExceptionTableEntry) [] (by rw [hnx]; rfl) (fun z hz => absurd hz List.not_mem_nil) (by decide) (by decide) (hC.2.2.2.2 _ (List.mem_cons_of_mem _ q_170)) (va_Nw.use rfl (hs.2.2.2.2.2.2.2.2.2.2.1 ("java/lang/IndexOutOfBoundsException", "java/lang/IndexOutOfBoundsException") (by decide +kernel))) hce hcv hcl ?_
      refine W.widen (k := 1) (n := 6) (Nat.le_of_ble_eq_true rfl) (Nat.le_of_ble_eq_true rfl) ?_
      refine lv_astore_n (lv' := [(3, .ref _), (0, .ref _), (1, .int _), (2, .ref _)]) hC.1 hC.2.1 dL_bestTariff_12 rfl hl (by decide) rfl (fun ls hl => ?_)
      refine lv_iconst (v := 1) hC.1 hC.2.1 dL_bestTariff_13 (by decide) ?_
      exact m_reti hC hH hrt rfl hlk (Nat.le_of_ble_eq_true rfl) (Nat.le_of_ble_eq_true rfl) dL_bestTariff_14 hw
  refine W.widen (k := 1) (n := 6) (Nat.le_of_ble_eq_true rfl) (Nat.le_of_ble_eq_true rfl) ?_
  refine lv_i2l hC.1 hC.2.1 dL_bestTariff_7 rfl ?_
  obtain ⟨k4, hw⟩ := hw
  obtain ⟨i5, hw⟩ := hw
  have hw := hw _ rfl
  refine m_jast hC hs hH k4 i5 dL_bestTariff_8 (fun H locs hH => ?_)
  refine lv_goto (tgt := 15) hC.1 hC.2.1 dL_bestTariff_9 (by decide) ?_
  refine lv_iconst (v := 0) hC.1 hC.2.1 dL_bestTariff_15 (by decide) ?_
  exact m_reti hC hH hrt rfl hlk (Nat.le_of_ble_eq_true rfl) (Nat.le_of_ble_eq_true rfl) dL_bestTariff_16 hw
