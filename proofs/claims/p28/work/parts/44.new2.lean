/-! new objects: what stays -/
theorem ag_refl (S : mmS) : agr S S := ⟨fun _ h => h, fun _ _ => ⟨rfl, fun _ => rfl, fun _ => rfl, rfl, fun _ => rfl, fun _ => rfl, fun _ => rfl⟩⟩
theorem ag_No {S S1 : mmS} (h : agr S S1) {q k : Nat} (hq : q ∉ mL S) : agr S (sNo S1 q k) := by
  refine ⟨fun a ha => List.mem_append_left _ (h.1 a ha), fun a ha => ?_⟩
  have hne : ¬ a = q := fun e => hq (e ▸ ha)
  obtain ⟨b1, b2, b3, b4, b5, b6, b7⟩ := h.2 a ha
  refine ⟨?_, fun f => ?_, fun f => ?_, b4, b5, b6, b7⟩
  · show va_up (mK S1) q k a = _
    unfold va_up; rw [if_neg hne]; exact b1
  · show (if a = q then 0 else mI S1 f a) = _
    rw [if_neg hne]; exact b2 f
  · show (if a = q then none else mR S1 f a) = _
    rw [if_neg hne]; exact b3 f
theorem ag_Na {S S1 : mmS} (h : agr S S1) {q n : Nat} (hq : q ∉ mL S) : agr S (sNa S1 q n) := by
  refine ⟨fun a ha => List.mem_append_left _ (h.1 a ha), fun a ha => ?_⟩
  have hne : ¬ a = q := fun e => hq (e ▸ ha)
  obtain ⟨b1, b2, b3, b4, b5, b6, b7⟩ := h.2 a ha
  refine ⟨?_, b2, b3, ?_, fun i => ?_, b6, b7⟩
  · show va_up (mK S1) q 7 a = _
    unfold va_up; rw [if_neg hne]; exact b1
  · show va_up (mN S1) q n a = _
    unfold va_up; rw [if_neg hne]; exact b4
  · show mrw (mA S1) q (fun _ => 0) a i = _
    unfold mrw; rw [if_neg hne]; exact b5 i
theorem ag_I {S S1 : mmS} (h : agr S S1) {q f : Nat} {v : Int32} (hq : q ∉ mL S) : agr S (sI S1 f q v) := by
  refine ⟨h.1, fun a ha => ?_⟩
  have hne : ¬ a = q := fun e => hq (e ▸ ha)
  obtain ⟨b1, b2, b3, b4, b5, b6, b7⟩ := h.2 a ha
  refine ⟨b1, fun f' => ?_, b3, b4, b5, b6, b7⟩
  show mu2 (mI S1) f q v f' a = _
  unfold mu2; rw [if_neg (fun e => hne e.2)]; exact b2 f'
theorem ag_R {S S1 : mmS} (h : agr S S1) {q f : Nat} {v : Option Nat} (hq : q ∉ mL S) : agr S (sR S1 f q v) := by
  refine ⟨h.1, fun a ha => ?_⟩
  have hne : ¬ a = q := fun e => hq (e ▸ ha)
  obtain ⟨b1, b2, b3, b4, b5, b6, b7⟩ := h.2 a ha
  refine ⟨b1, b2, fun f' => ?_, b4, b5, b6, b7⟩
  show mu2 (mR S1) f q v f' a = _
  unfold mu2; rw [if_neg (fun e => hne e.2)]; exact b3 f'
theorem ag_A {S S1 : mmS} (h : agr S S1) {q i : Nat} {v : Int32} (hq : q ∉ mL S) : agr S (sA S1 q i v) := by
  refine ⟨h.1, fun a ha => ?_⟩
  have hne : ¬ a = q := fun e => hq (e ▸ ha)
  obtain ⟨b1, b2, b3, b4, b5, b6, b7⟩ := h.2 a ha
  refine ⟨b1, b2, b3, b4, fun i' => ?_, b6, b7⟩
  show mu2 (mA S1) q i v a i' = _
  unfold mu2; rw [if_neg (fun e => hne e.1)]; exact b5 i'
theorem rI_I (S f a v f' a') : mI (sI S f a v) f' a' = if f' = f ∧ a' = a then v else mI S f' a' := Eq.trans rfl rfl
theorem rI_R (S f a v) : mI (sR S f a v) = mI S := Eq.trans rfl rfl
theorem rI_Na (S a n) : mI (sNa S a n) = mI S := Eq.trans rfl rfl
theorem rI_No (S a k f b) : mI (sNo S a k) f b = if b = a then 0 else mI S f b := Eq.trans rfl rfl
theorem rR_I (S f a v) : mR (sI S f a v) = mR S := Eq.trans rfl rfl
theorem rR_R (S f a v f' a') : mR (sR S f a v) f' a' = if f' = f ∧ a' = a then v else mR S f' a' := Eq.trans rfl rfl
theorem rR_Na (S a n) : mR (sNa S a n) = mR S := Eq.trans rfl rfl
theorem rR_No (S a k f b) : mR (sNo S a k) f b = if b = a then none else mR S f b := Eq.trans rfl rfl
theorem rK_I (S f a v) : mK (sI S f a v) = mK S := Eq.trans rfl rfl
theorem rK_R (S f a v) : mK (sR S f a v) = mK S := Eq.trans rfl rfl
theorem rK_Na (S a n b) : mK (sNa S a n) b = if b = a then 7 else mK S b := Eq.trans rfl rfl
theorem rK_No (S a k b) : mK (sNo S a k) b = if b = a then k else mK S b := Eq.trans rfl rfl
theorem rL_I (S f a v) : mL (sI S f a v) = mL S := Eq.trans rfl rfl
theorem rL_R (S f a v) : mL (sR S f a v) = mL S := Eq.trans rfl rfl
theorem rL_Na (S a n) : mL (sNa S a n) = mL S ++ [a] := Eq.trans rfl rfl
theorem rL_No (S a k) : mL (sNo S a k) = mL S ++ [a] := Eq.trans rfl rfl
theorem rN_I (S f a v) : mN (sI S f a v) = mN S := Eq.trans rfl rfl
theorem rN_R (S f a v) : mN (sR S f a v) = mN S := Eq.trans rfl rfl
theorem rN_Na (S a n b) : mN (sNa S a n) b = if b = a then n else mN S b := Eq.trans rfl rfl
theorem rN_No (S a k) : mN (sNo S a k) = mN S := Eq.trans rfl rfl
theorem rA_I (S f a v) : mA (sI S f a v) = mA S := Eq.trans rfl rfl
theorem rA_R (S f a v) : mA (sR S f a v) = mA S := Eq.trans rfl rfl
theorem rA_Na (S a n b i) : mA (sNa S a n) b i = if b = a then 0 else mA S b i := Eq.trans rfl rfl
theorem rA_No (S a k) : mA (sNo S a k) = mA S := Eq.trans rfl rfl
/-- one object of group k more; the order of calls apart -/
def NW (k : Nat) (c d : hC) : Prop :=
  (∀ k', k' < 9 → hN d k' = if k' = k ∨ k' = 5 + k then hN c k' + 1 else hN c k') ∧ (∀ f i, ¬ (grp (fr f) = k ∧ i = hN c k) → hG d f i = hG c f i) ∧ (∀ r i j, ¬ (grp r = k ∧ i = hN c k) → hY d r i j = hY c r i j) ∧ (∀ f i, f < 3 → ¬ (grp (rr f) = k ∧ i = hN c k) → hV d f i = hV c f i) ∧ (∀ j e, j < 4 → e < hN c (5 + j) → hV d (5 + j) e = hV c (5 + j) e) ∧ hV d (5 + k) (hN c k) = hN c k
theorem CE_nw {c d : hC} {k : Nat} (W : WF c) (hk : k < 3) (N : NW k c d) (h9 : ∀ e, e < hN c 3 → hV d 9 e = hV c 9 e) : CE c d (hN c 3) := by
  obtain ⟨n1, n2, n3, n4, n5, n6⟩ := N
  refine ⟨n2 21 0 (fun e => by have : grp (fr 21) = 99 := rfl; omega), n2 22 0 (fun e => by have : grp (fr 22) = 99 := rfl; omega), fun e he => ?_⟩
  have ho := W.2.2.2.2.2.1 e he
  have hl := (W.2.2.2.2.1 _ ho).2.2.1
  have ha : aco c (hV c 9 e) < hN c 1 := (W.2.2.2.1 _ hl).2.1
  have ht : tfo c (hV c 9 e) < hN c 0 := (W.2.2.2.1 _ hl).2.2
  have g3 : grp 3 = 3 := rfl
  have g2 : grp 2 = 2 := rfl
  have g1 : grp 1 = 1 := rfl
  have g0 : grp 0 = 0 := rfl
  have g4 : grp 4 = 0 := rfl
  have g5 : grp 5 = 0 := rfl
  have e0 : hV d 0 (hV c 9 e) = hV c 0 (hV c 9 e) := n4 0 _ (by omega) (fun q => by have : grp (rr 0) = 3 := rfl; omega)
  have e1 : aco d (hV c 9 e) = aco c (hV c 9 e) := by
    unfold aco; rw [e0]
    exact n4 1 _ (by omega) (fun q => by have : grp (rr 1) = 2 := rfl; rw [this] at q; have := q.1; subst this; omega)
  have e2 : tfo d (hV c 9 e) = tfo c (hV c 9 e) := by
    unfold tfo; rw [e0]
    exact n4 2 _ (by omega) (fun q => by have : grp (rr 2) = 2 := rfl; rw [this] at q; have := q.1; subst this; omega)
  have tG : ∀ f, fr f = 0 → hG d f (tfo c (hV c 9 e)) = hG c f (tfo c (hV c 9 e)) := by
    intro f hf
    exact n2 f _ (fun q => by rw [hf, g0] at q; have := q.1; subst this; omega)
  refine ⟨h9 e he, n2 9 _ (fun q => by have : grp (fr 9) = 3 := rfl; omega), n2 7 _ (fun q => by have : grp (fr 7) = 3 := rfl; omega), n2 8 _ (fun q => by have : grp (fr 8) = 3 := rfl; omega), e0, e1, e2, n2 2 _ (fun q => by have : grp (fr 2) = 1 := rfl; rw [this] at q; have := q.1; subst this; omega), tG 16 rfl, tG 17 rfl, tG 18 rfl, tG 19 rfl, tG 20 rfl, fun q => ⟨?_, ?_⟩⟩
  · exact n3 4 _ _ (fun q => by rw [g4] at q; have := q.1; subst this; omega)
  · exact n3 5 _ _ (fun q => by rw [g5] at q; have := q.1; subst this; omega)
