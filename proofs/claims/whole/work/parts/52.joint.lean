/-! the law's calls, one by one: class, then model, then the comparison -/
def TL (z : Nat × Nat) (x2 x3 : Nat) (B : mmS → Prop) (r r2 : Int32) (S2 : mmS) : Prop := (x2 ∈ mL S2 ∧ mK S2 x2 = 5) ∧ wp_X5_thrown z S2 x2 (fun r3 S3 => (r3 = r → (¬ r = 0 → B S3) ∧ (r = 0 → (x3 ∈ mL S3 ∧ mK S3 x3 = 9) ∧ vp_in (0 : Int32) (mN S3 x3) ∧ ((lg_cmp (mJ S3 x3 ((0 : Int32)).toNatClampNeg) (Int32.toInt64 r2)) = 0 → B S3) ∧ (¬ (lg_cmp (mJ S3 x3 ((0 : Int32)).toNatClampNeg) (Int32.toInt64 r2)) = 0 → False))) ∧ (¬ r3 = r → False)) (fun _ _ => False)
theorem lg_self (x : Int64) : lg_cmp x x = 0 := by
  unfold lg_cmp
  rw [if_neg (fun h => absurd h (Int64.lt_irrefl)), if_pos rfl]
theorem mem12 {z A w h m u S} (R : RP z A w h m u S) : A 12 0 ∈ mL S ∧ mK S (A 12 0) = 5 := ⟨(R.1 12 0 (by decide) Nat.zero_lt_one).1, (R.1 12 0 (by decide) Nat.zero_lt_one).2.1⟩
theorem mem13 {z A w h m u S} (R : RP z A w h m u S) : A 13 0 ∈ mL S ∧ mK S (A 13 0) = 9 := ⟨(R.1 13 0 (by decide) Nat.zero_lt_one).1, (R.1 13 0 (by decide) Nat.zero_lt_one).2.1⟩
theorem mem10 {z A w h m u S} (R : RP z A w h m u S) : A 10 0 ∈ mL S ∧ mK S (A 10 0) = 4 := ⟨(R.1 10 0 (by decide) Nat.zero_lt_one).1, (R.1 10 0 (by decide) Nat.zero_lt_one).2.1⟩
theorem out_ok {z A w h m u S} (R : RP z A w h m u S) {v : Int64} {P : mmS → Prop} (k : ∀ S6, RP z A w h m v S6 → P S6) : (A 13 0 ∈ mL S ∧ mK S (A 13 0) = 9) ∧ vp_in (0 : Int32) (mN S (A 13 0)) ∧ ∀ S6 : mmS, S6 = sJ S (A 13 0) ((0 : Int32)).toNatClampNeg v → P S6 := by
  refine ⟨mem13 R, ?_, ?_⟩
  · rw [R.2.2.2.2.2.1.1]; exact vin_0 (by decide)
  · exact up_J R k
theorem TL_ok {z A w h m u S} (R : RP z A w h m u S) {r r2 : Int32} {B : mmS → Prop} (hr : hF m 23 = r) (hu : r = 0 → u = Int32.toInt64 r2) (hB : B S) : TL z (A 12 0) (A 13 0) B r r2 S := by
  unfold TL wp_X5_thrown
  refine ⟨mem12 R, mem12 R, ?_⟩
  rw [R.2.2.1 23 (by decide) (by decide), hr]
  refine ⟨fun _ => ⟨fun _ => hB, fun e => ⟨mem13 R, ?_, fun _ => hB, fun q => q ?_⟩⟩, fun q => q rfl⟩
  · rw [R.2.2.2.2.2.1.1]; exact vin_0 (by decide)
  · rw [lit_0, R.2.2.2.2.2.1.2, hu e]; exact lg_self _
/-- what the law keeps -/
def KB (z : Nat × Nat) (A : Nat → Nat → Nat) (B : mmS → Prop) : Prop := ∀ A' w' h' m' u' S', RP z A' w' h' m' u' S' → LI h' m' → A' 10 0 = A 10 0 → A' 12 0 = A 12 0 → A' 13 0 = A 13 0 → B S'
theorem KB_TL {z A w h m u S} (R : RP z A w h m u S) (I : LI h m) {r r2 : Int32} {B : mmS → Prop} (hB : KB z A B) (hr : hF m 23 = r) (hu : r = 0 → u = Int32.toInt64 r2) : TL z (A 12 0) (A 13 0) B r r2 S :=
  TL_ok R hr hu (hB A w h m u S R I rfl rfl rfl)
theorem J_callAt {z A w h m u S} (R : RP z A w h m u S) (I : LI h m) {p : Int32} {B : mmS → Prop} (hB : KB z A B) : wp_L_callAt z S (A 10 0) p (A 13 0) (fun r S1 => (A 12 0 ∈ mL S1 ∧ mK S1 (A 12 0) = 5) ∧ wp_X5_callAt z S1 (A 12 0) p (fun r2 S2 => TL z (A 12 0) (A 13 0) B r r2 S2) (fun _ _ => False)) (fun _ _ => False) := by
  obtain ⟨W, C, D⟩ := I
  have W1 := W.1
  unfold Wn at W1
  unfold wp_L_callAt
  refine ⟨mem10 R, ?_⟩
  refine c_callAt R W (fun i hi e => ?_) (fun g => ⟨rfl, mem12 R, m_callAt R W C (fun i hi e => absurd e (g i hi)) (fun _ => fun m' S' R' C' F' => KB_TL R' ⟨W, C', D⟩ hB F' (fun e => absurd e (by decide)))⟩)
  refine out_ok R fun S6 R6 => ⟨mem12 R6, m_callAt R6 W C (fun i' hi' e' => ?_) (fun g => absurd e (g i hi))⟩
  have ei : i' = i := (nI_eq (by omega) (by omega)).mp (e'.symm.trans e)
  subst ei
  exact fun m' S' R' C' F' => KB_TL R' ⟨W, C', D⟩ hB F' (fun _ => rfl)
theorem J_lineSum {z A w h m u S} (R : RP z A w h m u S) (I : LI h m) {p : Int32} {B : mmS → Prop} (hB : KB z A B) : wp_L_lineSum z S (A 10 0) p (A 13 0) (fun r S1 => (A 12 0 ∈ mL S1 ∧ mK S1 (A 12 0) = 5) ∧ wp_X5_lineSum z S1 (A 12 0) p (fun r2 S2 => TL z (A 12 0) (A 13 0) B r r2 S2) (fun _ _ => False)) (fun _ _ => False) := by
  obtain ⟨W, C, D⟩ := I
  have W1 := W.1
  unfold Wn at W1
  unfold wp_L_lineSum
  refine ⟨mem10 R, ?_⟩
  refine c_lineSum R W D (fun i hi e => ?_) (fun g => ⟨rfl, mem12 R, m_lineSum R W C (fun i hi e => absurd e (g i hi)) (fun _ => fun m' S' R' C' F' => KB_TL R' ⟨W, C', D⟩ hB F' (fun e => absurd e (by decide)))⟩)
  refine out_ok R fun S6 R6 => ⟨mem12 R6, m_lineSum R6 W C (fun i' hi' e' => ?_) (fun g => absurd e (g i hi))⟩
  have ei : i' = i := (nI_eq (by omega) (by omega)).mp (e'.symm.trans e)
  subst ei
  exact fun m' S' R' C' F' => KB_TL R' ⟨W, C', D⟩ hB F' (fun _ => rfl)
theorem J_sum {z A w h m u S} (R : RP z A w h m u S) (I : LI h m) {p : Int32} {B : mmS → Prop} (hB : KB z A B) : wp_L_sum z S (A 10 0) p (A 13 0) (fun r S1 => (A 12 0 ∈ mL S1 ∧ mK S1 (A 12 0) = 5) ∧ wp_X5_sum z S1 (A 12 0) p (fun r2 S2 => TL z (A 12 0) (A 13 0) B r r2 S2) (fun _ _ => False)) (fun _ _ => False) := by
  obtain ⟨W, C, D⟩ := I
  have W1 := W.1
  unfold Wn at W1
  unfold wp_L_sum
  refine ⟨mem10 R, ?_⟩
  refine c_sum R W D (fun i hi e => ?_) (fun g => ⟨rfl, mem12 R, m_sum R W C (fun i hi e => absurd e (g i hi)) (fun _ => fun m' S' R' C' F' => KB_TL R' ⟨W, C', D⟩ hB F' (fun e => absurd e (by decide)))⟩)
  refine out_ok R fun S6 R6 => ⟨mem12 R6, m_sum R6 W C (fun i' hi' e' => ?_) (fun g => absurd e (g i hi))⟩
  have ei : i' = i := (nI_eq (by omega) (by omega)).mp (e'.symm.trans e)
  subst ei
  exact fun m' S' R' C' F' => KB_TL R' ⟨W, C', D⟩ hB F' (fun _ => rfl)
theorem J_total {z A w h m u S} (R : RP z A w h m u S) (I : LI h m) {p : Int32} {B : mmS → Prop} (hB : KB z A B) : wp_L_total z S (A 10 0) p (A 13 0) (fun r S1 => (A 12 0 ∈ mL S1 ∧ mK S1 (A 12 0) = 5) ∧ wp_X5_total z S1 (A 12 0) p (fun r2 S2 => TL z (A 12 0) (A 13 0) B r r2 S2) (fun _ _ => False)) (fun _ _ => False) := by
  obtain ⟨W, C, D⟩ := I
  have W1 := W.1
  unfold Wn at W1
  unfold wp_L_total
  refine ⟨mem10 R, ?_⟩
  refine c_total R W D (fun i hi e => ?_) (fun g => ⟨rfl, mem12 R, m_total R W C (fun i hi e => absurd e (g i hi)) (fun _ => fun m' S' R' C' F' => KB_TL R' ⟨W, C', D⟩ hB F' (fun e => absurd e (by decide)))⟩)
  refine out_ok R fun S6 R6 => ⟨mem12 R6, m_total R6 W C (fun i' hi' e' => ?_) (fun g => absurd e (g i hi))⟩
  have ei : i' = i := (nI_eq (by omega) (by omega)).mp (e'.symm.trans e)
  subst ei
  exact fun m' S' R' C' F' => KB_TL R' ⟨W, C', D⟩ hB F' (fun _ => rfl)
theorem J_left {z A w h m u S} (R : RP z A w h m u S) (I : LI h m) {p : Int32} {B : mmS → Prop} (hB : KB z A B) : wp_L_left z S (A 10 0) p (A 13 0) (fun r S1 => (A 12 0 ∈ mL S1 ∧ mK S1 (A 12 0) = 5) ∧ wp_X5_left z S1 (A 12 0) p (fun r2 S2 => TL z (A 12 0) (A 13 0) B r r2 S2) (fun _ _ => False)) (fun _ _ => False) := by
  obtain ⟨W, C, D⟩ := I
  have W1 := W.1
  unfold Wn at W1
  unfold wp_L_left
  refine ⟨mem10 R, ?_⟩
  refine c_left R W D (fun i hi e => ?_) (fun g => ⟨rfl, mem12 R, m_left R W C (fun i hi e => absurd e (g i hi)) (fun _ => fun m' S' R' C' F' => KB_TL R' ⟨W, C', D⟩ hB F' (fun e => absurd e (by decide)))⟩)
  refine out_ok R fun S6 R6 => ⟨mem12 R6, m_left R6 W C (fun i' hi' e' => ?_) (fun g => absurd e (g i hi))⟩
  have ei : i' = i := (nI_eq (by omega) (by omega)).mp (e'.symm.trans e)
  subst ei
  exact fun m' S' R' C' F' => KB_TL R' ⟨W, C', D⟩ hB F' (fun _ => rfl)
theorem J_emptied {z A w h m u S} (R : RP z A w h m u S) (I : LI h m) {p : Int32} {B : mmS → Prop} (hB : KB z A B) : wp_L_emptied z S (A 10 0) p (A 13 0) (fun r S1 => (A 12 0 ∈ mL S1 ∧ mK S1 (A 12 0) = 5) ∧ wp_X5_emptied z S1 (A 12 0) p (fun r2 S2 => TL z (A 12 0) (A 13 0) B r r2 S2) (fun _ _ => False)) (fun _ _ => False) := by
  obtain ⟨W, C, D⟩ := I
  have W1 := W.1
  unfold Wn at W1
  unfold wp_L_emptied
  refine ⟨mem10 R, ?_⟩
  refine c_emptied R W D (fun i hi e => ?_) (fun g => ⟨rfl, mem12 R, m_emptied R W C (fun i hi e => absurd e (g i hi)) (fun _ => fun m' S' R' C' F' => KB_TL R' ⟨W, C', D⟩ hB F' (fun e => absurd e (by decide)))⟩)
  refine out_ok R fun S6 R6 => ⟨mem12 R6, m_emptied R6 W C (fun i' hi' e' => ?_) (fun g => absurd e (g i hi))⟩
  have ei : i' = i := (nI_eq (by omega) (by omega)).mp (e'.symm.trans e)
  subst ei
  exact fun m' S' R' C' F' => KB_TL R' ⟨W, C', D⟩ hB F' (fun _ => rfl)
theorem J_told {z A w h m u S} (R : RP z A w h m u S) (I : LI h m) {p : Int32} {q : Int32} {B : mmS → Prop} (hB : KB z A B) : wp_L_told z S (A 10 0) p q (A 13 0) (fun r S1 => (A 12 0 ∈ mL S1 ∧ mK S1 (A 12 0) = 5) ∧ wp_X5_told z S1 (A 12 0) p q (fun r2 S2 => TL z (A 12 0) (A 13 0) B r r2 S2) (fun _ _ => False)) (fun _ _ => False) := by
  obtain ⟨W, C, D⟩ := I
  have W1 := W.1
  unfold Wn at W1
  unfold wp_L_told
  refine ⟨mem10 R, ?_⟩
  refine c_told R W (fun i hi e k hk e2 => ?_) (fun g => ⟨rfl, mem12 R, m_told R W C (fun i hi e k hk e2 => absurd ⟨i, k, hi, e, hk, e2⟩ g) (fun _ => fun m' S' R' C' F' => KB_TL R' ⟨W, C', D⟩ hB F' (fun e => absurd e (by decide)))⟩)
  refine out_ok R fun S6 R6 => ⟨mem12 R6, m_told R6 W C (fun i' hi' e' k' hk' e2' => ?_) (fun g => absurd ⟨i, k, hi, e, hk, e2⟩ g)⟩
  have ei : i' = i := (nI_eq (by omega) (by omega)).mp (e'.symm.trans e)
  have ek : k' = k := (nI_eq (by omega) (by omega)).mp (e2'.symm.trans e2)
  subst ei; subst ek
  exact fun m' S' R' C' F' => KB_TL R' ⟨W, C', D⟩ hB F' (fun _ => by rw [tl_tlc W D hi])
theorem J_dayFees {z A w h m u S} (R : RP z A w h m u S) (I : LI h m) {p : Int32} {q : Int32} {B : mmS → Prop} (hB : KB z A B) : wp_L_dayFees z S (A 10 0) p q (A 13 0) (fun r S1 => (A 12 0 ∈ mL S1 ∧ mK S1 (A 12 0) = 5) ∧ wp_X5_dayFees z S1 (A 12 0) p q (fun r2 S2 => TL z (A 12 0) (A 13 0) B r r2 S2) (fun _ _ => False)) (fun _ _ => False) := by
  obtain ⟨W, C, D⟩ := I
  have W1 := W.1
  unfold Wn at W1
  unfold wp_L_dayFees
  refine ⟨mem10 R, ?_⟩
  refine c_dayFees R W D (fun i hi e k hk e2 => ?_) (fun g => ⟨rfl, mem12 R, m_dayFees R W C (fun i hi e k hk e2 => absurd ⟨i, k, hi, e, hk, e2⟩ g) (fun _ => fun m' S' R' C' F' => KB_TL R' ⟨W, C', D⟩ hB F' (fun e => absurd e (by decide)))⟩)
  refine out_ok R fun S6 R6 => ⟨mem12 R6, m_dayFees R6 W C (fun i' hi' e' k' hk' e2' => ?_) (fun g => absurd ⟨i, k, hi, e, hk, e2⟩ g)⟩
  have ei : i' = i := (nI_eq (by omega) (by omega)).mp (e'.symm.trans e)
  have ek : k' = k := (nI_eq (by omega) (by omega)).mp (e2'.symm.trans e2)
  subst ei; subst ek
  exact fun m' S' R' C' F' => KB_TL R' ⟨W, C', D⟩ hB F' (fun _ => rfl)
theorem J_daySum {z A w h m u S} (R : RP z A w h m u S) (I : LI h m) {p : Int32} {B : mmS → Prop} (hB : KB z A B) : wp_L_daySum z S (A 10 0) p (A 13 0) (fun r S1 => (A 12 0 ∈ mL S1 ∧ mK S1 (A 12 0) = 5) ∧ wp_X5_daySum z S1 (A 12 0) p (fun r2 S2 => TL z (A 12 0) (A 13 0) B r r2 S2) (fun _ _ => False)) (fun _ _ => False) := by
  obtain ⟨W, C, D⟩ := I
  have W1 := W.1
  unfold Wn at W1
  unfold wp_L_daySum
  refine ⟨mem10 R, ?_⟩
  refine c_daySum R W D (fun g => ?_) (fun g => ⟨rfl, mem12 R, m_daySum R W C (fun q => absurd q g) (fun _ => fun m' S' R' C' F' => KB_TL R' ⟨W, C', D⟩ hB F' (fun e => absurd e (by decide)))⟩)
  refine out_ok R fun S6 R6 => ⟨mem12 R6, m_daySum R6 W C (fun _ => fun m' S' R' C' F' => KB_TL R' ⟨W, C', D⟩ hB F' (fun _ => rfl)) (fun q => absurd g q)⟩
theorem tw_st {h h' : hC} (s : ST h h') {l t : Nat} : tw h' l t = tw h l t := by
  unfold tw
  have E := CE_st (ST_V s 2 l t) (hN h 3)
  rw [s.1, s.2.1, s.2.2.1 0 rfl, s.2.2.1 1 rfl]
  have := CE_sa E (hV h 1 l) (hN h 3) (Nat.le_refl _)
  rw [this]
theorem bt_st {h h' : hC} (s : ST h h') {l : Nat} : ∀ k, bt h' l k = bt h l k
  | 0 => rfl
  | k + 1 => by rw [bt_s, bt_s, bt_st s k, tw_st s]
theorem J_totalWith {z A w h m u S} (R : RP z A w h m u S) (I : LI h m) {p : Int32} {q : Int32} {B : mmS → Prop} (hB : KB z A B) : wp_L_totalWith z S (A 10 0) p q (A 13 0) (fun r S1 => (A 12 0 ∈ mL S1 ∧ mK S1 (A 12 0) = 5) ∧ wp_X5_totalWith z S1 (A 12 0) p q (fun r2 S2 => TL z (A 12 0) (A 13 0) B r r2 S2) (fun _ _ => False)) (fun _ _ => False) := by
  obtain ⟨W, C, D⟩ := I
  have W1 := W.1
  unfold Wn at W1
  unfold wp_L_totalWith
  refine ⟨mem10 R, ?_⟩
  refine c_totalWith R W (fun l hl e t ht e2 h' S' R' s' D' => ?_) (fun g => ⟨rfl, mem12 R, m_totalWith R W C (fun i hi e k hk e2 => absurd ⟨i, k, hi, e, hk, e2⟩ g) (fun _ => fun m' S' R' C' F' => KB_TL R' ⟨W, C', D⟩ hB F' (fun e => absurd e (by decide)))⟩)
  have W' := WF_st s' W
  have C' := CM_st s' C
  have I' : DR h' h' (hN h' 3) := by rw [s'.1]; exact DR_of (DK_st s' D')
  refine out_ok R' fun S6 R6 => ⟨mem12 R6, m_totalWith R6 W' C' (fun i' hi' e' k' hk' e2' => ?_) (fun g => absurd ⟨l, t, by rw [s'.1]; exact hl, e, by rw [s'.1]; exact ht, e2⟩ g)⟩
  rw [s'.1] at hi' hk'
  have ei : i' = l := (nI_eq (by omega) (by omega)).mp (e'.symm.trans e)
  have ek : k' = t := (nI_eq (by omega) (by omega)).mp (e2'.symm.trans e2)
  subst ei; subst ek
  exact fun m' S'' R'' C'' F'' => KB_TL R'' ⟨W', C'', I'⟩ hB F'' (fun _ => by rw [tw_st s'])
theorem J_bestTariff {z A w h m u S} (R : RP z A w h m u S) (I : LI h m) {p : Int32} {B : mmS → Prop} (hB : KB z A B) : wp_L_bestTariff z S (A 10 0) p (A 13 0) (fun r S1 => (A 12 0 ∈ mL S1 ∧ mK S1 (A 12 0) = 5) ∧ wp_X5_bestTariff z S1 (A 12 0) p (fun r2 S2 => TL z (A 12 0) (A 13 0) B r r2 S2) (fun _ _ => False)) (fun _ _ => False) := by
  obtain ⟨W, C, D⟩ := I
  have W1 := W.1
  unfold Wn at W1
  unfold wp_L_bestTariff
  refine ⟨mem10 R, ?_⟩
  refine c_bestTariff R W (fun l hl e h' S' R' s' D' => ?_) (fun g => ⟨rfl, mem12 R, m_bestTariff R W C (fun i hi e => absurd e (g i hi)) (fun _ => fun m' S' R' C' F' => KB_TL R' ⟨W, C', D⟩ hB F' (fun e => absurd e (by decide)))⟩)
  have W' := WF_st s' W
  have C' := CM_st s' C
  have I' : DR h' h' (hN h' 3) := by rw [s'.1]; exact DR_of (DK_st s' D')
  refine out_ok R' fun S6 R6 => ⟨mem12 R6, m_bestTariff R6 W' C' (fun i' hi' e' => ?_) (fun g => absurd e (g l (by rw [s'.1]; exact hl)))⟩
  rw [s'.1] at hi'
  have ei : i' = l := (nI_eq (by omega) (by omega)).mp (e'.symm.trans e)
  subst ei
  exact fun m' S'' R'' C'' F'' => KB_TL R'' ⟨W', C'', I'⟩ hB F'' (fun _ => by rw [bt_st s', s'.1])
theorem J_setZone {z A w h m u S} (R : RP z A w h m u S) (I : LI h m) {p : Int32} {q : Int32} {r0 : Int32} {f0 : Int32} {B : mmS → Prop} (hB : KB z A B) : wp_L_setZone z S (A 10 0) p q r0 f0 (A 13 0) (fun r S1 => (A 12 0 ∈ mL S1 ∧ mK S1 (A 12 0) = 5) ∧ wp_X5_setZone z S1 (A 12 0) p q r0 f0 (fun r2 S2 => TL z (A 12 0) (A 13 0) B r r2 S2) (fun _ _ => False)) (fun _ _ => False) := by
  obtain ⟨W, C, D⟩ := I
  have W1 := W.1
  unfold Wn at W1
  unfold wp_L_setZone
  refine ⟨mem10 R, ?_⟩
  refine c_setZone R W (fun t ht e k hk e2 g h' S' R' s' D' => ?_) (fun g => .inl ⟨rfl, mem12 R, m_setZone R W C (fun t ht e k hk e2 _ => absurd ⟨t, k, ht, e, hk, e2⟩ g) (fun _ => fun m' S' R' C' F' => KB_TL R' ⟨W, C', D⟩ hB F' (fun e => absurd e (by decide))) (fun t ht e k hk e2 _ => absurd ⟨t, k, ht, e, hk, e2⟩ g)⟩)
    (fun t ht e k hk e2 g => .inr ⟨rfl, mem12 R, m_setZone R W C (fun _ _ _ _ _ _ q => absurd q g) (fun q => absurd ⟨t, k, ht, e, hk, e2⟩ q) (fun _ _ _ _ _ _ _ => fun m' S' R' C' F' => KB_TL R' ⟨W, C', D⟩ hB F' (fun e => absurd e (by decide)))⟩)
  refine out_ok R' fun S6 R6 => ⟨mem12 R6, m_setZone R6 W C (fun t' ht' e' k' hk' e2' _ => ?_) (fun q => absurd ⟨t, k, ht, e, hk, e2⟩ q) (fun _ _ _ _ _ _ q => absurd g q)⟩
  have ei : t' = t := (nI_eq (by omega) (by omega)).mp (e'.symm.trans e)
  have ek : k' = k := (nI_eq (by omega) (by omega)).mp (e2'.symm.trans e2)
  subst ei; subst ek
  exact fun m' S'' R'' C'' F'' => KB_TL R'' (LI_of s' (WF_zone W g.1 g.2) C'' D') hB F'' (fun _ => rfl)
theorem J_setTariff {z A w h m u S} (R : RP z A w h m u S) (I : LI h m) {p : Int32} {q : Int32} {B : mmS → Prop} (hB : KB z A B) : wp_L_setTariff z S (A 10 0) p q (A 13 0) (fun r S1 => (A 12 0 ∈ mL S1 ∧ mK S1 (A 12 0) = 5) ∧ wp_X5_setTariff z S1 (A 12 0) p q (fun r2 S2 => TL z (A 12 0) (A 13 0) B r r2 S2) (fun _ _ => False)) (fun _ _ => False) := by
  obtain ⟨W, C, D⟩ := I
  have W1 := W.1
  unfold Wn at W1
  unfold wp_L_setTariff
  refine ⟨mem10 R, ?_⟩
  refine c_setTariff R W (fun l hl e t ht e2 h' S' R' s' D' => ?_) (fun g => ⟨rfl, mem12 R, m_setTariff R W C (fun i hi e k hk e2 => absurd ⟨i, k, hi, e, hk, e2⟩ g) (fun _ => fun m' S' R' C' F' => KB_TL R' ⟨W, C', D⟩ hB F' (fun e => absurd e (by decide)))⟩)
  refine out_ok R' fun S6 R6 => ⟨mem12 R6, m_setTariff R6 W C (fun l' hl' e' t' ht' e2' => ?_) (fun q => absurd ⟨l, t, hl, e, ht, e2⟩ q)⟩
  have ei : l' = l := (nI_eq (by omega) (by omega)).mp (e'.symm.trans e)
  have ek : t' = t := (nI_eq (by omega) (by omega)).mp (e2'.symm.trans e2)
  subst ei; subst ek
  exact fun m' S'' R'' C'' F'' => KB_TL R'' (LI_of s' (WF_plan W ht) C'' D') hB F'' (fun _ => rfl)
theorem J_setBundle {z A w h m u S} (R : RP z A w h m u S) (I : LI h m) {p : Int32} {q : Int32} {B : mmS → Prop} (hB : KB z A B) : wp_L_setBundle z S (A 10 0) p q (A 13 0) (fun r S1 => (A 12 0 ∈ mL S1 ∧ mK S1 (A 12 0) = 5) ∧ wp_X5_setBundle z S1 (A 12 0) p q (fun r2 S2 => TL z (A 12 0) (A 13 0) B r r2 S2) (fun _ _ => False)) (fun _ _ => False) := by
  obtain ⟨W, C, D⟩ := I
  have W1 := W.1
  unfold Wn at W1
  unfold wp_L_setBundle
  refine ⟨mem10 R, ?_⟩
  refine c_setBundle R W (fun a ha e g h' S' R' s' D' => ?_) (fun g => .inl ⟨rfl, mem12 R, m_setBundle R W C (fun a ha e _ => absurd e (g a ha)) (fun _ => fun m' S' R' C' F' => KB_TL R' ⟨W, C', D⟩ hB F' (fun e => absurd e (by decide))) (fun a ha e _ => absurd e (g a ha))⟩)
    (fun a ha e g => .inr ⟨rfl, mem12 R, m_setBundle R W C (fun _ _ _ q => absurd q g) (fun q => absurd e (q a ha)) (fun _ _ _ _ => fun m' S' R' C' F' => KB_TL R' ⟨W, C', D⟩ hB F' (fun e => absurd e (by decide)))⟩)
  refine out_ok R' fun S6 R6 => ⟨mem12 R6, m_setBundle R6 W C (fun a' ha' e' _ => ?_) (fun q => absurd e (q a ha)) (fun _ _ _ q => absurd g q)⟩
  have ei : a' = a := (nI_eq (by omega) (by omega)).mp (e'.symm.trans e)
  subst ei
  exact fun m' S'' R'' C'' F'' => KB_TL R'' (LI_of s' (WF_bundle W g) C'' D') hB F'' (fun _ => rfl)
theorem J_correct {z A w h m u S} (R : RP z A w h m u S) (I : LI h m) {p : Int32} {q : Int32} {B : mmS → Prop} (hB : KB z A B) : wp_L_correct z S (A 10 0) p q (A 13 0) (fun r S1 => (A 12 0 ∈ mL S1 ∧ mK S1 (A 12 0) = 5) ∧ wp_X5_correct z S1 (A 12 0) p q (fun r2 S2 => TL z (A 12 0) (A 13 0) B r r2 S2) (fun _ _ => False)) (fun _ _ => False) := by
  obtain ⟨W, C, D⟩ := I
  have W1 := W.1
  unfold Wn at W1
  unfold wp_L_correct
  refine ⟨mem10 R, ?_⟩
  refine c_correct R W (fun a ha e g h' S' R' s' D' => ?_) (fun g => .inl ⟨rfl, mem12 R, m_correct R W C (fun a ha e _ => absurd e (g a ha)) (fun _ => fun m' S' R' C' F' => KB_TL R' ⟨W, C', D⟩ hB F' (fun e => absurd e (by decide))) (fun a ha e _ => absurd e (g a ha))⟩)
    (fun a ha e g => .inr ⟨rfl, mem12 R, m_correct R W C (fun _ _ _ q => absurd q g) (fun q => absurd e (q a ha)) (fun _ _ _ _ => fun m' S' R' C' F' => KB_TL R' ⟨W, C', D⟩ hB F' (fun e => absurd e (by decide)))⟩)
  refine out_ok R' fun S6 R6 => ⟨mem12 R6, m_correct R6 W C (fun a' ha' e' _ => ?_) (fun q => absurd e (q a ha)) (fun _ _ _ q => absurd g q)⟩
  have ei : a' = a := (nI_eq (by omega) (by omega)).mp (e'.symm.trans e)
  subst ei
  exact fun m' S'' R'' C'' F'' => KB_TL R'' (LI_of s' (WF_secs W g) C'' D') hB F'' (fun _ => rfl)
