theorem KB_tr {z A A' B} (hB : KB z A B) (a10 : A' 10 0 = A 10 0) (a12 : A' 12 0 = A 12 0) (a13 : A' 13 0 = A 13 0) : KB z A' B :=
  fun A2 w' h' m' u' S' R I b10 b12 b13 => hB A2 w' h' m' u' S' R I (b10.trans a10) (b12.trans a12) (b13.trans a13)
theorem nwA_fix {A : Nat → Nat → Nat} {k n : Nat} (hk : k < 4) {B : Nat → Nat} : nwA A k n B 10 0 = A 10 0 ∧ nwA A k n B 12 0 = A 12 0 ∧ nwA A k n B 13 0 = A 13 0 := by
  have g10 : grp 10 = 99 := rfl
  have g12 : grp 12 = 99 := rfl
  have g13 : grp 13 = 99 := rfl
  unfold nwA
  refine ⟨if_neg (fun q => by omega), if_neg (fun q => by omega), if_neg (fun q => by omega)⟩
theorem cAd_9 {h : hC} {k : Nat} (hk : k < 4) {g y T} (e : Nat) : hV (cAd h k g y T) 9 e = hV h 9 e := by
  rw [hL_V, if_neg (by omega), nwH_V, if_neg (by omega)]
theorem cAd_N {h : hC} {k : Nat} (hk : k < 3) {g y T} (W : WF h) (hb : (k = 0 → hN h 0 < 5) ∧ (k = 1 → hN h 1 < 4) ∧ (k = 2 → hN h 2 < 8)) : Wn (cAd h k g y T) := by
  have W1 := W.1
  unfold Wn at *
  obtain ⟨c0, c1, c2⟩ := hb
  have hN' : ∀ k', hN (cAd h k g y T) k' = if k' = 5 + k then hN h k + 1 else if k' = k then hN h k + 1 else hN h k' := by
    intro k'; rw [hL_N, nwH_N]
  have : k = 0 ∨ k = 1 ∨ k = 2 := by omega
  rcases this with e | e | e <;> subst e
  · have := c0 rfl
    refine ⟨?_, ?_, ?_, ?_, ?_, ?_, ?_, ?_, ?_⟩ <;> rw [hN'] <;> (try rw [hN']) <;> (repeat' split) <;> omega
  · have := c1 rfl
    refine ⟨?_, ?_, ?_, ?_, ?_, ?_, ?_, ?_, ?_⟩ <;> rw [hN'] <;> (try rw [hN']) <;> (repeat' split) <;> omega
  · have := c2 rfl
    refine ⟨?_, ?_, ?_, ?_, ?_, ?_, ?_, ?_, ?_⟩ <;> rw [hN'] <;> (try rw [hN']) <;> (repeat' split) <;> omega
theorem J_addAccount {z A w h m u S} (R : RP z A w h m u S) (I : LI h m) {p : Int32} {q : Int32} {r0 : Int32} {B : mmS → Prop} (hB : KB z A B) : wp_L_addAccount z S (A 10 0) p q r0 (A 13 0) (fun r S1 => (A 12 0 ∈ mL S1 ∧ mK S1 (A 12 0) = 5) ∧ wp_X5_addAccount z S1 (A 12 0) p q r0 (fun r2 S2 => TL z (A 12 0) (A 13 0) B r r2 S2) (fun _ _ => False)) (fun _ _ => False) := by
  obtain ⟨W, C, D⟩ := I
  have W1 := W.1
  unfold Wn at W1
  unfold wp_L_addAccount
  refine ⟨mem10 R, ?_⟩
  have e5 : hN h (5 + 1) = hN h 1 := W1.2.2.2.2.2.1
  refine c_addAccount R W (fun ok rm B0 w' g y T S' R' v0 v1 v2 v3 v4 v5 => ?_) (fun g => .inl ⟨rfl, mem12 R, m_addAccount R W C (fun q => absurd q g) (fun _ => fun m' S' R' C' F' => KB_TL R' ⟨W, C', D⟩ hB F' (fun e => absurd e (by decide))) (fun q => absurd q g)⟩)
    (fun ok rm => .inr ⟨rfl, mem12 R, m_addAccount R W C (fun _ q => absurd q rm) (fun q => absurd ok q) (fun _ _ => fun m' S' R' C' F' => KB_TL R' ⟨W, C', D⟩ hB F' (fun e => absurd e (by decide)))⟩)
  obtain ⟨a10, a12, a13⟩ := nwA_fix (A := A) (n := hN h 1) (k := 1) (by decide) (B := B0)
  have hB' := KB_tr hB a10 a12 a13
  have N := NW_of (h := h) (k := 1) (g := g) (y := y) (T := T) (by decide) e5
  have hv9 : ∀ e, e < hN h 3 → hV (cAd h 1 g y T) 9 e = hV h 9 e := fun e _ => cAd_9 (by decide) e
  have gv : ∀ f, grp (fr f) = 1 → hG (cAd h 1 g y T) f (hN h 1) = g f := fun f hf => by rw [hL_G, nwH_G, if_pos ⟨hf, rfl⟩]
  have W' : WF (cAd h 1 g y T) := WF_nw W (by decide) N hv9 (cAd_N (by decide) W ⟨fun e => absurd e (by decide), fun _ => rm, fun e => absurd e (by decide)⟩) (fun e => absurd e (by decide)) (fun _ => by rw [gv 2 rfl, v2]; exact ok.1) (fun e => absurd e (by decide))
  have D' : DR (cAd h 1 g y T) (cAd h 1 g y T) (hN (cAd h 1 g y T) 3) := DR_nw W (by decide) N hv9 D (fun _ => by rw [gv 3 rfl, gv 2 rfl, gv 4 rfl, gv 5 rfl, v2, v3, v4, v5]; exact ⟨rfl, rfl, rfl⟩) (fun e => absurd e (by decide))
  rw [← a12, ← a13]
  refine out_ok R' fun S6 R6 => ⟨mem12 R6, m_addAccount R6 W C (fun _ _ => ⟨_, N, hv9, by rw [gv 0 rfl, v0], by rw [gv 1 rfl, v1], by rw [gv 2 rfl, v2], fun m' S'' R'' C'' F'' => KB_TL R'' ⟨W', C'', D'⟩ hB' F'' (fun _ => rfl)⟩) (fun q => absurd ok q) (fun _ q => absurd rm q)⟩
theorem J_addTariff {z A w h m u S} (R : RP z A w h m u S) (I : LI h m) {p : Int32} {q : Int32} {r0 : Int32} {f0 : Int32} {x0 : Int32} {B : mmS → Prop} (hB : KB z A B) : wp_L_addTariff z S (A 10 0) p q r0 f0 x0 (A 13 0) (fun r S1 => (A 12 0 ∈ mL S1 ∧ mK S1 (A 12 0) = 5) ∧ wp_X5_addTariff z S1 (A 12 0) p q r0 f0 x0 (fun r2 S2 => TL z (A 12 0) (A 13 0) B r r2 S2) (fun _ _ => False)) (fun _ _ => False) := by
  obtain ⟨W, C, D⟩ := I
  have W1 := W.1
  unfold Wn at W1
  unfold wp_L_addTariff
  refine ⟨mem10 R, ?_⟩
  have e5 : hN h (5 + 0) = hN h 0 := W1.2.2.2.2.1
  refine c_addTariff R W (fun ok rm B0 w' g y T S' R' v15 v16 v17 v18 v19 v20 vy => ?_) (fun g => .inl ⟨rfl, mem12 R, m_addTariff R W C (fun q => absurd q g) (fun _ => fun m' S' R' C' F' => KB_TL R' ⟨W, C', D⟩ hB F' (fun e => absurd e (by decide))) (fun q => absurd q g)⟩)
    (fun ok rm => .inr ⟨rfl, mem12 R, m_addTariff R W C (fun _ q => absurd q rm) (fun q => absurd ok q) (fun _ _ => fun m' S' R' C' F' => KB_TL R' ⟨W, C', D⟩ hB F' (fun e => absurd e (by decide)))⟩)
  obtain ⟨a10, a12, a13⟩ := nwA_fix (A := A) (n := hN h 0) (k := 0) (by decide) (B := B0)
  have hB' := KB_tr hB a10 a12 a13
  have N := NW_of (h := h) (k := 0) (g := g) (y := y) (T := T) (by decide) e5
  have hv9 : ∀ e, e < hN h 3 → hV (cAd h 0 g y T) 9 e = hV h 9 e := fun e _ => cAd_9 (by decide) e
  have gv : ∀ f, grp (fr f) = 0 → hG (cAd h 0 g y T) f (hN h 0) = g f := fun f hf => by rw [hL_G, nwH_G, if_pos ⟨hf, rfl⟩]
  have yv : ∀ r j, (r = 4 ∨ r = 5) → hY (cAd h 0 g y T) r (hN h 0) j = 0 := by
    intro r j hr
    rw [hL_Y, nwH_Y, if_pos ⟨by rcases hr with e | e <;> subst e <;> rfl, rfl⟩]
    exact vy r j hr
  have z0 : nb 0 10000 := ⟨0, by omega, rfl⟩
  have W' : WF (cAd h 0 g y T) := WF_nw W (by decide) N hv9 (cAd_N (by decide) W ⟨fun _ => rm, fun e => absurd e (by decide), fun e => absurd e (by decide)⟩) (fun _ => by
    rw [gv 15 rfl, gv 16 rfl, gv 17 rfl, gv 18 rfl, gv 19 rfl, gv 20 rfl, v15, v16, v17, v18, v19, v20]
    exact ⟨rfl, ok.1, ok.2.1, ok.2.2.1, ok.2.2.2.1, ok.2.2.2.2, fun q _ => by rw [yv 4 q (.inl rfl), yv 5 q (.inr rfl)]; exact ⟨z0, z0⟩⟩) (fun e => absurd e (by decide)) (fun e => absurd e (by decide))
  have D' : DR (cAd h 0 g y T) (cAd h 0 g y T) (hN (cAd h 0 g y T) 3) := DR_nw W (by decide) N hv9 D (fun e => absurd e (by decide)) (fun e => absurd e (by decide))
  rw [← a12, ← a13]
  refine out_ok R' fun S6 R6 => ⟨mem12 R6, m_addTariff R6 W C (fun _ _ => ⟨_, N, hv9, ⟨by rw [gv 16 rfl, v16], by rw [gv 17 rfl, v17], by rw [gv 18 rfl, v18], by rw [gv 19 rfl, v19], by rw [gv 20 rfl, v20], fun q => ⟨yv 4 q (.inl rfl), yv 5 q (.inr rfl)⟩⟩, fun m' S'' R'' C'' F'' => KB_TL R'' ⟨W', C'', D'⟩ hB' F'' (fun _ => rfl)⟩) (fun q => absurd ok q) (fun _ q => absurd rm q)⟩
theorem J_addLine {z A w h m u S} (R : RP z A w h m u S) (I : LI h m) {p : Int32} {q : Int32} {B : mmS → Prop} (hB : KB z A B) : wp_L_addLine z S (A 10 0) p q (A 13 0) (fun r S1 => (A 12 0 ∈ mL S1 ∧ mK S1 (A 12 0) = 5) ∧ wp_X5_addLine z S1 (A 12 0) p q (fun r2 S2 => TL z (A 12 0) (A 13 0) B r r2 S2) (fun _ _ => False)) (fun _ _ => False) := by
  obtain ⟨W, C, D⟩ := I
  have W1 := W.1
  unfold Wn at W1
  unfold wp_L_addLine
  refine ⟨mem10 R, ?_⟩
  have e5 : hN h (5 + 2) = hN h 2 := W1.2.2.2.2.2.2.1
  refine c_addLine R W (fun a ha ea t ht et rm B0 w' g y T S' R' v14 t1 t2 vy => ?_) (fun g => .inl ⟨rfl, mem12 R, m_addLine R W C (fun a ha ea t ht et => absurd ⟨a, t, ha, ea, ht, et⟩ g) (fun _ => fun m' S' R' C' F' => KB_TL R' ⟨W, C', D⟩ hB F' (fun e => absurd e (by decide))) (fun q => absurd q g)⟩)
    (fun ok rm => .inr ⟨rfl, mem12 R, m_addLine R W C (fun _ _ _ _ _ _ q => absurd q rm) (fun q => absurd ok q) (fun _ _ => fun m' S' R' C' F' => KB_TL R' ⟨W, C', D⟩ hB F' (fun e => absurd e (by decide)))⟩)
  obtain ⟨a10, a12, a13⟩ := nwA_fix (A := A) (n := hN h 2) (k := 2) (by decide) (B := B0)
  have hB' := KB_tr hB a10 a12 a13
  have N := NW_of (h := h) (k := 2) (g := g) (y := y) (T := T) (by decide) e5
  have hv9 : ∀ e, e < hN h 3 → hV (cAd h 2 g y T) 9 e = hV h 9 e := fun e _ => cAd_9 (by decide) e
  have gv : ∀ f, grp (fr f) = 2 → hG (cAd h 2 g y T) f (hN h 2) = g f := fun f hf => by rw [hL_G, nwH_G, if_pos ⟨hf, rfl⟩]
  have yv : ∀ j, hY (cAd h 2 g y T) 6 (hN h 2) j = 0 := by
    intro j
    rw [hL_Y, nwH_Y, if_pos ⟨rfl, rfl⟩]
    exact vy j
  have vv1 : hV (cAd h 2 g y T) 1 (hN h 2) = a := by rw [hL_V, if_neg (by omega), nwH_V, if_pos ⟨by omega, rfl, rfl⟩, t1]
  have vv2 : hV (cAd h 2 g y T) 2 (hN h 2) = t := by rw [hL_V, if_neg (by omega), nwH_V, if_pos ⟨by omega, rfl, rfl⟩, t2]
  have W' : WF (cAd h 2 g y T) := WF_nw W (by decide) N hv9 (cAd_N (by decide) W ⟨fun e => absurd e (by decide), fun e => absurd e (by decide), fun _ => rm⟩) (fun e => absurd e (by decide)) (fun e => absurd e (by decide)) (fun _ => by rw [vv1, vv2]; exact ⟨ha, ht⟩)
  have D' : DR (cAd h 2 g y T) (cAd h 2 g y T) (hN (cAd h 2 g y T) 3) := DR_nw W (by decide) N hv9 D (fun e => absurd e (by decide)) (fun _ => ⟨by rw [gv 14 rfl, v14], yv⟩)
  rw [← a12, ← a13]
  refine out_ok R' fun S6 R6 => ⟨mem12 R6, m_addLine R6 W C (fun a' ha' ea' t' ht' et' _ => ?_) (fun q => absurd ⟨a, t, ha, ea, ht, et⟩ q) (fun _ q => absurd rm q)⟩
  have e1 : a' = a := (nI_eq (by omega) (by omega)).mp (ea'.symm.trans ea)
  have e2 : t' = t := (nI_eq (by omega) (by omega)).mp (et'.symm.trans et)
  subst e1; subst e2
  exact ⟨_, N, hv9, vv1, vv2, fun m' S'' R'' C'' F'' => KB_TL R'' ⟨W', C'', D'⟩ hB' F'' (fun _ => rfl)⟩
theorem J_addCall {z A w h m u S} (R : RP z A w h m u S) (I : LI h m) {p : Int32} {mi : Int32} {se : Int32} {zz : Int32} {B : mmS → Prop} (hB : KB z A B) : wp_L_addCall z S (A 10 0) p mi se zz (A 13 0) (fun r S1 => (A 12 0 ∈ mL S1 ∧ mK S1 (A 12 0) = 5) ∧ wp_X5_addCall z S1 (A 12 0) p mi se zz (fun r2 S2 => TL z (A 12 0) (A 13 0) B r r2 S2) (fun _ _ => False)) (fun _ _ => False) := by
  obtain ⟨W, C, D⟩ := I
  have W1 := W.1
  unfold Wn at W1
  unfold wp_L_addCall
  refine ⟨mem10 R, ?_⟩
  refine c_addCall R W (fun l hl el ok rm B0 w' d h' S' R' ca s' D' => ?_) (fun g => .inl ⟨rfl, mem12 R, m_addCall R W C (fun l hl el => absurd el (g l hl)) (fun _ => fun m' S' R' C' F' => KB_TL R' ⟨W, C', D⟩ hB F' (fun e => absurd e (by decide))) (fun l hl el => absurd el (g l hl)) (fun l hl el => absurd el (g l hl))⟩)
    (fun l hl el g => .inr (.inl ⟨rfl, mem12 R, m_addCall R W C (fun _ _ _ q => absurd q g) (fun q => absurd el (q l hl)) (fun _ _ _ _ => fun m' S' R' C' F' => KB_TL R' ⟨W, C', D⟩ hB F' (fun e => absurd e (by decide))) (fun _ _ _ q => absurd q g)⟩))
    (fun l hl el ok rm => .inr (.inr ⟨rfl, mem12 R, m_addCall R W C (fun _ _ _ _ q => absurd q rm) (fun q => absurd el (q l hl)) (fun _ _ _ q => absurd ok q) (fun _ _ _ _ _ => fun m' S' R' C' F' => KB_TL R' ⟨W, C', D⟩ hB F' (fun e => absurd e (by decide)))⟩))
  obtain ⟨a10, a12, a13⟩ := nwA_fix (A := A) (n := hN h 3) (k := 3) (by decide) (B := B0)
  have hB' := KB_tr hB a10 a12 a13
  rw [← a12, ← a13]
  refine out_ok R' fun S6 R6 => ⟨mem12 R6, m_addCall R6 W C (fun l' hl' el' _ _ => ?_) (fun q => absurd el (q l hl)) (fun _ _ _ q => absurd ok q) (fun _ _ _ _ q => absurd rm q)⟩
  have e1 : l' = l := (nI_eq (by omega) (by omega)).mp (el'.symm.trans el)
  subst e1
  exact ⟨d, ca, fun m' S'' R'' C'' F'' => KB_TL R'' (LI_of s' (WF_call W ca hl ok.1 ok.2.1.1 ok.2.2 rm) C'' D') hB' F'' (fun _ => rfl)⟩
/-- the comparison of a boolean -/
def TB (z : Nat × Nat) (x2 x3 : Nat) (B : mmS → Prop) (r r2 : Int32) (S2 : mmS) : Prop := (x2 ∈ mL S2 ∧ mK S2 x2 = 5) ∧ wp_X5_thrown z S2 x2 (fun r3 S3 => (r3 = r → (¬ r = 0 → B S3) ∧ (r = 0 → (x3 ∈ mL S3 ∧ mK S3 x3 = 9) ∧ vp_in (0 : Int32) (mN S3 x3) ∧ (r2 = 0 → ((lg_cmp (mJ S3 x3 ((0 : Int32)).toNatClampNeg) (0 : Int64)) = 0 → B S3) ∧ (¬ (lg_cmp (mJ S3 x3 ((0 : Int32)).toNatClampNeg) (0 : Int64)) = 0 → False)) ∧ (¬ r2 = 0 → ((lg_cmp (mJ S3 x3 ((0 : Int32)).toNatClampNeg) (1 : Int64)) = 0 → B S3) ∧ (¬ (lg_cmp (mJ S3 x3 ((0 : Int32)).toNatClampNeg) (1 : Int64)) = 0 → False)))) ∧ (¬ r3 = r → False)) (fun _ _ => False)
theorem KB_TB {z A w h m u S} (R : RP z A w h m u S) (I : LI h m) {r r2 : Int32} {B : mmS → Prop} (hB : KB z A B) (hr : hF m 23 = r) (hu : r = 0 → u = if r2 = 0 then 0 else 1) : TB z (A 12 0) (A 13 0) B r r2 S := by
  have hB := hB A w h m u S R I rfl rfl rfl
  unfold TB wp_X5_thrown
  refine ⟨mem12 R, mem12 R, ?_⟩
  rw [R.2.2.1 23 (by decide) (by decide), hr]
  refine ⟨fun _ => ⟨fun _ => hB, fun e => ⟨mem13 R, ?_, fun g => ⟨fun _ => hB, fun q => q ?_⟩, fun g => ⟨fun _ => hB, fun q => q ?_⟩⟩⟩, fun q => q rfl⟩
  · rw [R.2.2.2.2.2.1.1]; exact vin_0 (by decide)
  · rw [lit_0, R.2.2.2.2.2.1.2, hu e, if_pos g]; exact lg_self _
  · rw [lit_0, R.2.2.2.2.2.1.2, hu e, if_neg g]; exact lg_self _
theorem J_isPeak {z A w h m u S} (R : RP z A w h m u S) (I : LI h m) {p : Int32} {B : mmS → Prop} (hB : KB z A B) : wp_L_isPeak z S (A 10 0) p (A 13 0) (fun r S1 => (A 12 0 ∈ mL S1 ∧ mK S1 (A 12 0) = 5) ∧ wp_X5_isPeak z S1 (A 12 0) p (fun r2 S2 => TB z (A 12 0) (A 13 0) B r r2 S2) (fun _ _ => False)) (fun _ _ => False) := by
  obtain ⟨W, C, D⟩ := I
  have W1 := W.1
  unfold Wn at W1
  unfold wp_L_isPeak
  refine ⟨mem10 R, ?_⟩
  refine c_isPeak R W (fun i hi e => ⟨fun g => ⟨fun q => absurd q (by decide), fun _ => ?_⟩, fun g => ⟨fun _ => ?_, fun q => absurd rfl q⟩⟩) (fun g => ⟨rfl, mem12 R, m_isPeak R W C (fun i hi e => absurd e (g i hi)) (fun _ => fun m' S' R' C' F' => KB_TB R' ⟨W, C', D⟩ hB F' (fun e => absurd e (by decide)))⟩)
  · refine out_ok R fun S6 R6 => ⟨mem12 R6, m_isPeak R6 W C (fun i' hi' e' => ?_) (fun g => absurd e (g i hi))⟩
    have ei : i' = i := (nI_eq (by omega) (by omega)).mp (e'.symm.trans e)
    subst ei
    exact ⟨fun _ => fun m' S' R' C' F' => KB_TB R' ⟨W, C', D⟩ hB F' (fun _ => rfl), fun q => absurd g q⟩
  · refine out_ok R fun S6 R6 => ⟨mem12 R6, m_isPeak R6 W C (fun i' hi' e' => ?_) (fun g => absurd e (g i hi))⟩
    have ei : i' = i := (nI_eq (by omega) (by omega)).mp (e'.symm.trans e)
    subst ei
    exact ⟨fun q => absurd q g, fun _ => fun m' S' R' C' F' => KB_TB R' ⟨W, C', D⟩ hB F' (fun _ => rfl)⟩
theorem J_setPeak {z A w h m u S} (R : RP z A w h m u S) (I : LI h m) {p : Int32} {q : Int32} {B : mmS → Prop} (hB : KB z A B) : wp_L_setPeak z S (A 10 0) p q (A 13 0) (fun r S1 => (A 12 0 ∈ mL S1 ∧ mK S1 (A 12 0) = 5) ∧ wp_X5_setPeak z S1 (A 12 0) p q (fun r2 S2 => TB z (A 12 0) (A 13 0) B r r2 S2) (fun _ _ => False)) (fun _ _ => False) := by
  obtain ⟨W, C, D⟩ := I
  have W1 := W.1
  unfold Wn at W1
  unfold wp_L_setPeak
  refine ⟨mem10 R, ?_⟩
  refine c_setPeak R W (fun ok v hv h' S' R' s' D' => ?_) (fun g => ⟨rfl, mem12 R, m_setPeak R C (fun q => absurd q g) (fun _ => fun m' S' R' C' F' => KB_TB R' ⟨W, C', D⟩ hB F' (fun e => absurd e (by decide)))⟩)
  refine ⟨fun e => ?_, fun e => ?_⟩
  · refine out_ok R' fun S6 R6 => ⟨mem12 R6, m_setPeak R6 C (fun _ v' hv' => ?_) (fun q => absurd ok q)⟩
    exact fun m' S'' R'' C'' F'' => KB_TB R'' (LI_of s' (WF_peak W) C'' D') hB F'' (fun _ => by rw [hv', ← hv, if_pos e])
  · refine out_ok R' fun S6 R6 => ⟨mem12 R6, m_setPeak R6 C (fun _ v' hv' => ?_) (fun q => absurd ok q)⟩
    exact fun m' S'' R'' C'' F'' => KB_TB R'' (LI_of s' (WF_peak W) C'' D') hB F'' (fun _ => by rw [hv', ← hv, if_neg e])
