/-! what the law does with the class, and what stays -/
theorem mem10 {z A w h m u S} (R : RP z A w h m u S) : A 10 0 ∈ mL S ∧ mK S (A 10 0) = 4 := ⟨(R.1 10 0 (by decide) Nat.zero_lt_one).1, (R.1 10 0 (by decide) Nat.zero_lt_one).2.1⟩
theorem mem11 {z A w h m u S} (R : RP z A w h m u S) {f : Nat} (hf : f < u) : A 11 f ∈ mL S ∧ mK S (A 11 f) = 7 := ⟨(R.2.2.2.2.1 f hf).1.1, (R.2.2.2.2.1 f hf).1.2.1⟩
theorem nwA_fx {A : Nat → Nat → Nat} {k n : Nat} (hk : k < 4) {B : Nat → Nat} {r i : Nat} (hr : 9 ≤ r) : nwA A k n B r i = A r i := by
  unfold nwA
  rw [if_neg]
  rintro ⟨e, -⟩
  unfold grp at e
  rw [if_neg (by omega), if_neg (by omega), if_neg (by omega), if_neg (by omega)] at e
  omega
theorem cAd_9 {h : hC} {k : Nat} (hk : k < 4) {g y T} (e : Nat) : hV (cAd h k g y T) 9 e = hV h 9 e := by
  rw [hL_V, if_neg (by omega), nwH_V, if_neg (by omega)]
theorem cAd_N {h : hC} {k : Nat} (hk : k < 3) {g y T} (W : WF h) (hb : (k = 0 → hN h 0 < 5) ∧ (k = 1 → hN h 1 < 4) ∧ (k = 2 → hN h 2 < 8)) : Wn (cAd h k g y T) := by
  have W1 := W.1
  unfold Wn at W1
  have n : ∀ k', k' < 10 → hN (cAd h k g y T) k' = if k' = 5 + k then hN h k + 1 else if k' = k then hN h k + 1 else hN h k' := by
    intro k' hk'
    rw [hL_N, nwH_N]
  unfold Wn
  rw [n 0 (by omega), n 1 (by omega), n 2 (by omega), n 3 (by omega), n 5 (by omega), n 6 (by omega), n 7 (by omega), n 8 (by omega), n 9 (by omega)]
  have : k = 0 ∨ k = 1 ∨ k = 2 := by omega
  rcases this with e | e | e <;> subst e
  · have := hb.1 rfl
    refine ⟨?_, ?_, ?_, ?_, ?_, ?_, ?_, ?_, ?_⟩ <;> simp <;> omega
  · have := hb.2.1 rfl
    refine ⟨?_, ?_, ?_, ?_, ?_, ?_, ?_, ?_, ?_⟩ <;> simp <;> omega
  · have := hb.2.2 rfl
    refine ⟨?_, ?_, ?_, ?_, ?_, ?_, ?_, ?_, ?_⟩ <;> simp <;> omega
theorem cAd_n {h : hC} {k : Nat} {g y T} {k' : Nat} (h5 : k' < 5) : hN (cAd h k g y T) k' = if k' = k then hN h k + 1 else hN h k' := by
  rw [hL_N, if_neg (by omega), nwH_N]
theorem a_addTariff {z A w h m u S} (R : RP z A w h m u S) (I : LI h) {p1 p2 p3 p4 p5 : Int32} (ok : nb p1 10000 ∧ nb p2 10000 ∧ nb p3 10000 ∧ (nb p4 300 ∧ 1 ≤ p4) ∧ (nb p5 300 ∧ 1 ≤ p5)) (rm : hN h 0 < 5) {Q : Int32 → mmS → Prop} {X : String → mmS → Prop}
    (hQ : ∀ A' w' h' S', RP z A' w' h' m u S' → LI h' → (∀ r i, 9 ≤ r → A' r i = A r i) → hN h' 0 = hN h 0 + 1 → (∀ k, 1 ≤ k → k < 4 → hN h' k = hN h k) → (∀ j, hY h' 4 (hN h 0) j = 0) → Q (nI (hN h 0)) S') : wp_X4_addTariff z S (A 10 0) p1 p2 p3 p4 p5 Q X := by
  obtain ⟨W, D⟩ := I
  have W1 := W.1
  unfold Wn at W1
  have e5 : hN h (5 + 0) = hN h 0 := W1.2.2.2.2.1
  refine c_addTariff R W (fun ok rm B0 w' g y T S' R' v15 v16 v17 v18 v19 v20 vy => ?_) (fun q => absurd ok q) (fun _ q => absurd rm q)
  have N := NW_of (h := h) (k := 0) (g := g) (y := y) (T := T) (by decide) e5
  have hv9 : ∀ e, e < hN h 3 → hV (cAd h 0 g y T) 9 e = hV h 9 e := fun e _ => cAd_9 (by decide) e
  have gv : ∀ f, grp (fr f) = 0 → hG (cAd h 0 g y T) f (hN h 0) = g f := fun f hf => by rw [hL_G, nwH_G, if_pos ⟨hf, rfl⟩]
  have yv : ∀ r j, (r = 4 ∨ r = 5) → hY (cAd h 0 g y T) r (hN h 0) j = 0 := by
    intro r j hr
    rw [hL_Y, nwH_Y, if_pos ⟨by rcases hr with e | e <;> subst e <;> rfl, rfl⟩]
    exact vy r j hr
  have z0 : nb 0 10000 := ⟨0, by omega, rfl⟩
  have W' : WF (cAd h 0 g y T) := WF_nw W (by decide) N hv9 (cAd_N (by decide) W ⟨fun _ => rm, fun e => absurd e (by decide), fun e => absurd e (by decide)⟩) (fun _ => by
    rw [gv 15 rfl, gv 16 rfl, gv 17 rfl, gv 18 rfl, gv 19 rfl, gv 20 rfl, v15, v16, v17, v18, v19, v20]
    exact ⟨rfl, ok.1, ok.2.1, ok.2.2.1, ok.2.2.2.1, ok.2.2.2.2, fun q _ => by rw [yv 4 q (.inl rfl), yv 5 q (.inr rfl)]; exact ⟨z0, z0⟩⟩) (fun e => absurd e (by decide)) (fun e => absurd e (by decide))
  have D' : DR (cAd h 0 g y T) (cAd h 0 g y T) (hN (cAd h 0 g y T) 3) := DR_nw W (by decide) N hv9 D (fun e => absurd e (by decide)) (fun e => absurd e (by decide))
  exact hQ _ _ _ _ R' ⟨W', D'⟩ (fun r i hr => nwA_fx (by decide) hr) (by rw [cAd_n (by omega), if_pos rfl]) (fun k h1 h4 => by rw [cAd_n (by omega), if_neg (by omega)]) (fun j => yv 4 j (.inl rfl))
theorem a_setZone {z A w h m u S} (R : RP z A w h m u S) (I : LI h) {t k : Nat} (ht : t < hN h 0) (hk : k = 1 ∨ k = 2) {r f : Int32} (ok : nb r 10000 ∧ nb f 10000) {Q : Int32 → mmS → Prop} {X : String → mmS → Prop}
    (hQ : ∀ h' S', RP z A w h' m u S' → LI h' → hN h' = hN h → (∀ j, j ≠ k → hY h' 4 t j = hY h 4 t j) → Q (hY h 4 t k) S') : wp_X4_setZone z S (A 10 0) (nI t) (nI k) r f Q X := by
  obtain ⟨W, D⟩ := I
  have W1 := W.1
  unfold Wn at W1
  refine c_setZone R W (fun t' ht' e k' hk' e' _ h' S' R' s' D' => ?_) (fun q => absurd ⟨t, k, ht, rfl, hk, rfl⟩ q) (fun _ _ _ _ _ _ q => absurd ok q)
  have e1 := (nI_eq (by omega) (by omega)).mp e
  have e2 := (nI_eq (by omega) (by omega)).mp e'
  subst e1; subst e2
  refine hQ h' S' R' (LI_of s' (WF_zone W ok.1 ok.2) D') s'.1 (fun j hj => ?_)
  have : hY h' 4 = hY (cZ h t k r f) 4 := s'.2.2.2.1
  rw [this]
  show hY (hsY (hsY h 4 t k r) 5 t k f) 4 t j = _
  rw [hY_sY, if_neg (fun q => absurd q.1 (by decide)), hY_sY, if_neg (fun q => hj q.2.2)]
theorem a_addAccount {z A w h m u S} (R : RP z A w h m u S) (I : LI h) {p1 p2 p3 : Int32} (ok : nb p1 100000 ∧ nb p2 1000000 ∧ nb p3 100) (rm : hN h 1 < 4) {Q : Int32 → mmS → Prop} {X : String → mmS → Prop}
    (hQ : ∀ A' w' h' S', RP z A' w' h' m u S' → LI h' → (∀ r i, 9 ≤ r → A' r i = A r i) → hN h' 1 = hN h 1 + 1 → (∀ k, k ≠ 1 → k < 4 → hN h' k = hN h k) → (∀ a, a < hN h 1 → hG h' 0 a = hG h 0 a ∧ hG h' 1 a = hG h 1 a) → hG h' 0 (hN h 1) = p2 → hG h' 1 (hN h 1) = p3 → Q (nI (hN h 1)) S') : wp_X4_addAccount z S (A 10 0) p1 p2 p3 Q X := by
  obtain ⟨W, D⟩ := I
  have W1 := W.1
  unfold Wn at W1
  have e5 : hN h (5 + 1) = hN h 1 := W1.2.2.2.2.2.1
  refine c_addAccount R W (fun ok rm B0 w' g y T S' R' v0 v1 v2 v3 v4 v5 => ?_) (fun q => absurd ok q) (fun _ q => absurd rm q)
  have N := NW_of (h := h) (k := 1) (g := g) (y := y) (T := T) (by decide) e5
  have hv9 : ∀ e, e < hN h 3 → hV (cAd h 1 g y T) 9 e = hV h 9 e := fun e _ => cAd_9 (by decide) e
  have gv : ∀ f, grp (fr f) = 1 → hG (cAd h 1 g y T) f (hN h 1) = g f := fun f hf => by rw [hL_G, nwH_G, if_pos ⟨hf, rfl⟩]
  have W' : WF (cAd h 1 g y T) := WF_nw W (by decide) N hv9 (cAd_N (by decide) W ⟨fun e => absurd e (by decide), fun _ => rm, fun e => absurd e (by decide)⟩) (fun e => absurd e (by decide)) (fun _ => by rw [gv 2 rfl, v2]; exact ok.1) (fun e => absurd e (by decide))
  have D' : DR (cAd h 1 g y T) (cAd h 1 g y T) (hN (cAd h 1 g y T) 3) := DR_nw W (by decide) N hv9 D (fun _ => by rw [gv 3 rfl, gv 2 rfl, gv 4 rfl, gv 5 rfl, v2, v3, v4, v5]; exact ⟨rfl, rfl, rfl⟩) (fun e => absurd e (by decide))
  exact hQ _ _ _ _ R' ⟨W', D'⟩ (fun r i hr => nwA_fx (by decide) hr) (by rw [cAd_n (by omega), if_pos rfl]) (fun k h1 h4 => by rw [cAd_n (by omega), if_neg h1])
    (fun a ha => ⟨by rw [hL_G, nwH_G, if_neg (fun q => by omega)], by rw [hL_G, nwH_G, if_neg (fun q => by omega)]⟩) (by rw [gv 0 rfl, v0]) (by rw [gv 1 rfl, v1])
theorem a_addLine {z A w h m u S} (R : RP z A w h m u S) (I : LI h) {a t : Nat} (ha : a < hN h 1) (ht : t < hN h 0) (rm : hN h 2 < 8) {Q : Int32 → mmS → Prop} {X : String → mmS → Prop}
    (hQ : ∀ A' w' h' S', RP z A' w' h' m u S' → LI h' → (∀ r i, 9 ≤ r → A' r i = A r i) → hN h' 2 = hN h 2 + 1 → (∀ k, k ≠ 2 → k < 4 → hN h' k = hN h k) → (∀ a, hG h' 0 a = hG h 0 a ∧ hG h' 1 a = hG h 1 a) → Q (nI (hN h 2)) S') : wp_X4_addLine z S (A 10 0) (nI a) (nI t) Q X := by
  obtain ⟨W, D⟩ := I
  have W1 := W.1
  unfold Wn at W1
  have e5 : hN h (5 + 2) = hN h 2 := W1.2.2.2.2.2.2.1
  refine c_addLine R W (fun a' ha' ea t' ht' et rm B0 w' g y T S' R' v14 t1 t2 vy => ?_) (fun q => absurd ⟨a, t, ha, rfl, ht, rfl⟩ q) (fun _ q => absurd rm q)
  have N := NW_of (h := h) (k := 2) (g := g) (y := y) (T := T) (by decide) e5
  have hv9 : ∀ e, e < hN h 3 → hV (cAd h 2 g y T) 9 e = hV h 9 e := fun e _ => cAd_9 (by decide) e
  have gv : ∀ f, grp (fr f) = 2 → hG (cAd h 2 g y T) f (hN h 2) = g f := fun f hf => by rw [hL_G, nwH_G, if_pos ⟨hf, rfl⟩]
  have yv : ∀ j, hY (cAd h 2 g y T) 6 (hN h 2) j = 0 := by
    intro j
    rw [hL_Y, nwH_Y, if_pos ⟨rfl, rfl⟩]
    exact vy j
  have vv1 : hV (cAd h 2 g y T) 1 (hN h 2) = a' := by rw [hL_V, if_neg (by omega), nwH_V, if_pos ⟨by omega, rfl, rfl⟩, t1]
  have vv2 : hV (cAd h 2 g y T) 2 (hN h 2) = t' := by rw [hL_V, if_neg (by omega), nwH_V, if_pos ⟨by omega, rfl, rfl⟩, t2]
  have W' : WF (cAd h 2 g y T) := WF_nw W (by decide) N hv9 (cAd_N (by decide) W ⟨fun e => absurd e (by decide), fun e => absurd e (by decide), fun _ => rm⟩) (fun e => absurd e (by decide)) (fun e => absurd e (by decide)) (fun _ => by rw [vv1, vv2]; exact ⟨ha', ht'⟩)
  have D' : DR (cAd h 2 g y T) (cAd h 2 g y T) (hN (cAd h 2 g y T) 3) := DR_nw W (by decide) N hv9 D (fun e => absurd e (by decide)) (fun _ => ⟨by rw [gv 14 rfl, v14], yv⟩)
  exact hQ _ _ _ _ R' ⟨W', D'⟩ (fun r i hr => nwA_fx (by decide) hr) (by rw [cAd_n (by omega), if_pos rfl]) (fun k h1 h4 => by rw [cAd_n (by omega), if_neg h1])
    (fun a => ⟨by rw [hL_G, nwH_G, if_neg (fun q => absurd q.1 (by decide))], by rw [hL_G, nwH_G, if_neg (fun q => absurd q.1 (by decide))]⟩)
theorem a_addCall {z A w h m u S} (R : RP z A w h m u S) (I : LI h) {l : Nat} {mi se zz : Int32} (hl : l < hN h 2) (ok : nb mi 43199 ∧ (nb se 7200 ∧ 1 ≤ se) ∧ nb zz 2) (rm : hN h 3 < 60) {Q : Int32 → mmS → Prop} {X : String → mmS → Prop}
    (hQ : ∀ A' w' d h' S', RP z A' w' h' m u S' → LI h' → (∀ r i, 9 ≤ r → A' r i = A r i) → CA h d l mi se zz → ST d h' → DK d h' (hN d 3) → Q (nI (hN h 3)) S') : wp_X4_addCall z S (A 10 0) (nI l) mi se zz Q X := by
  obtain ⟨W, D⟩ := I
  have W1 := W.1
  unfold Wn at W1
  refine c_addCall R W (fun l' hl' el ok rm B0 w' d h' S' R' ca s' D' => ?_) (fun q => absurd rfl (q l hl)) (fun _ _ _ q => absurd ok q) (fun _ _ _ _ q => absurd rm q)
  have e1 := (nI_eq (by omega) (by omega)).mp el
  subst e1
  exact hQ _ _ d _ _ R' (LI_of s' (WF_call W ca hl' ok.1 ok.2.1.1 ok.2.2 rm) D') (fun r i hr => nwA_fx (by decide) hr) ca s' D'
