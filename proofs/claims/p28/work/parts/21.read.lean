/-! what RP lets be read, laid by wip/p28/gen_rd.py -/
set_option maxRecDepth 20000 in
theorem rd {z A w h m u S} (R : RP z A w h m u S) :
    (∀ i, i < hN h 0 → A 0 i ∈ mL S)
    ∧ (∀ i, i < hN h 0 → mK S (A 0 i) = 3)
    ∧ (∀ i, i < hN h 1 → A 1 i ∈ mL S)
    ∧ (∀ i, i < hN h 1 → mK S (A 1 i) = 0)
    ∧ (∀ i, i < hN h 2 → A 2 i ∈ mL S)
    ∧ (∀ i, i < hN h 2 → mK S (A 2 i) = 2)
    ∧ (∀ i, i < hN h 3 → A 3 i ∈ mL S)
    ∧ (∀ i, i < hN h 3 → mK S (A 3 i) = 1)
    ∧ (∀ i, i < hN h 0 → A 4 i ∈ mL S)
    ∧ (∀ i, i < hN h 0 → mK S (A 4 i) = 7)
    ∧ (∀ i, i < hN h 0 → A 5 i ∈ mL S)
    ∧ (∀ i, i < hN h 0 → mK S (A 5 i) = 7)
    ∧ (∀ i, i < hN h 2 → A 6 i ∈ mL S)
    ∧ (∀ i, i < hN h 2 → mK S (A 6 i) = 7)
    ∧ (∀ i, i < hN h 2 → A 7 i ∈ mL S)
    ∧ (∀ i, i < hN h 2 → mK S (A 7 i) = 7)
    ∧ (∀ i, i < hN h 2 → A 8 i ∈ mL S)
    ∧ (∀ i, i < hN h 2 → mK S (A 8 i) = 7)
    ∧ (∀ i, i < 5 → A 9 i ∈ mL S)
    ∧ (∀ i, i < 5 → mK S (A 9 i) = 6)
    ∧ A 10 0 ∈ mL S
    ∧ mK S (A 10 0) = 4
    ∧ (∀ i, i < hN h 1 → mI S 0 (A 1 i) = hG h 0 i)
    ∧ (∀ i, i < hN h 1 → mI S 1 (A 1 i) = hG h 1 i)
    ∧ (∀ i, i < hN h 1 → mI S 2 (A 1 i) = hG h 2 i)
    ∧ (∀ i, i < hN h 1 → mI S 3 (A 1 i) = hG h 3 i)
    ∧ (∀ i, i < hN h 1 → mI S 4 (A 1 i) = hG h 4 i)
    ∧ (∀ i, i < hN h 1 → mI S 5 (A 1 i) = hG h 5 i)
    ∧ (∀ i, i < hN h 3 → mI S 6 (A 3 i) = hG h 6 i)
    ∧ (∀ i, i < hN h 3 → mI S 7 (A 3 i) = hG h 7 i)
    ∧ (∀ i, i < hN h 3 → mI S 8 (A 3 i) = hG h 8 i)
    ∧ (∀ i, i < hN h 3 → mI S 9 (A 3 i) = hG h 9 i)
    ∧ (∀ i, i < hN h 3 → mI S 10 (A 3 i) = hG h 10 i)
    ∧ (∀ i, i < hN h 3 → mI S 11 (A 3 i) = hG h 11 i)
    ∧ (∀ i, i < hN h 3 → mI S 12 (A 3 i) = hG h 12 i)
    ∧ (∀ i, i < hN h 3 → mI S 13 (A 3 i) = hG h 13 i)
    ∧ (∀ i, i < hN h 2 → mI S 14 (A 2 i) = hG h 14 i)
    ∧ (∀ i, i < hN h 0 → mI S 15 (A 0 i) = hG h 15 i)
    ∧ (∀ i, i < hN h 0 → mI S 16 (A 0 i) = hG h 16 i)
    ∧ (∀ i, i < hN h 0 → mI S 17 (A 0 i) = hG h 17 i)
    ∧ (∀ i, i < hN h 0 → mI S 18 (A 0 i) = hG h 18 i)
    ∧ (∀ i, i < hN h 0 → mI S 19 (A 0 i) = hG h 19 i)
    ∧ (∀ i, i < hN h 0 → mI S 20 (A 0 i) = hG h 20 i)
    ∧ mI S 21 (A 10 0) = hG h 21 0
    ∧ mI S 22 (A 10 0) = hG h 22 0
    ∧ (∀ i, i < hN h 0 → mN S (A 4 i) = 3)
    ∧ (∀ i j, i < hN h 0 → mA S (A 4 i) j = hY h 4 i j)
    ∧ (∀ i, i < hN h 0 → mN S (A 5 i) = 3)
    ∧ (∀ i j, i < hN h 0 → mA S (A 5 i) j = hY h 5 i j)
    ∧ (∀ i, i < hN h 2 → mN S (A 6 i) = 3)
    ∧ (∀ i j, i < hN h 2 → mA S (A 6 i) j = hY h 6 i j)
    ∧ (∀ i, i < hN h 2 → mN S (A 7 i) = 3)
    ∧ (∀ i j, i < hN h 2 → mA S (A 7 i) j = hY h 7 i j)
    ∧ (∀ i, i < hN h 2 → mN S (A 8 i) = 3)
    ∧ (∀ i j, i < hN h 2 → mA S (A 8 i) j = hY h 8 i j)
    ∧ (∀ f, f < u → A 11 f ∈ mL S)
    ∧ (∀ f, f < u → mK S (A 11 f) = 7)
    ∧ (0 < u → mN S (A 11 0) = 3)
    ∧ (1 < u → mN S (A 11 1) = 27)
    ∧ (2 < u → mN S (A 11 2) = 6)
    ∧ (3 < u → mN S (A 11 3) = 8)
    ∧ (4 < u → mN S (A 11 4) = 80)
    ∧ (5 < u → mN S (A 11 5) = 20)
    ∧ (∀ f j, f < u → mA S (A 11 f) j = hX m f j)
    ∧ (∀ i, i < hN h 3 → mR S 0 (A 3 i) = some (A 2 (hV h 0 i)))
    ∧ (∀ i, i < hN h 2 → mR S 1 (A 2 i) = some (A 1 (hV h 1 i)))
    ∧ (∀ i, i < hN h 2 → mR S 2 (A 2 i) = some (A 0 (hV h 2 i)))
    ∧ (∀ i, i < hN h 2 → mR S 3 (A 2 i) = some (A 6 (i)))
    ∧ (∀ i, i < hN h 2 → mR S 4 (A 2 i) = some (A 7 (i)))
    ∧ (∀ i, i < hN h 2 → mR S 5 (A 2 i) = some (A 8 (i)))
    ∧ (∀ i, i < hN h 0 → mR S 6 (A 0 i) = some (A 4 (i)))
    ∧ (∀ i, i < hN h 0 → mR S 7 (A 0 i) = some (A 5 (i)))
    ∧ mR S 8 (A 10 0) = some (A 9 0)
    ∧ mR S 9 (A 10 0) = some (A 9 1)
    ∧ mR S 10 (A 10 0) = some (A 9 2)
    ∧ mR S 11 (A 10 0) = some (A 9 3)
    ∧ mR S 12 (A 10 0) = some (A 9 4)
    ∧ mI S 31 (A 9 0) = nI (hN h 5)
    ∧ mI S 31 (A 9 1) = nI (hN h 6)
    ∧ mI S 31 (A 9 2) = nI (hN h 7)
    ∧ mI S 31 (A 9 3) = nI (hN h 8)
    ∧ mI S 31 (A 9 4) = nI (hN h 9) := by
  refine ⟨?_,
    ?_,
    ?_,
    ?_,
    ?_,
    ?_,
    ?_,
    ?_,
    ?_,
    ?_,
    ?_,
    ?_,
    ?_,
    ?_,
    ?_,
    ?_,
    ?_,
    ?_,
    ?_,
    ?_,
    ?_,
    ?_,
    ?_,
    ?_,
    ?_,
    ?_,
    ?_,
    ?_,
    ?_,
    ?_,
    ?_,
    ?_,
    ?_,
    ?_,
    ?_,
    ?_,
    ?_,
    ?_,
    ?_,
    ?_,
    ?_,
    ?_,
    ?_,
    ?_,
    ?_,
    ?_,
    ?_,
    ?_,
    ?_,
    ?_,
    ?_,
    ?_,
    ?_,
    ?_,
    ?_,
    ?_,
    ?_,
    ?_,
    ?_,
    ?_,
    ?_,
    ?_,
    ?_,
    ?_,
    ?_,
    ?_,
    ?_,
    ?_,
    ?_,
    ?_,
    ?_,
    ?_,
    ?_,
    ?_,
    ?_,
    ?_,
    ?_,
    ?_,
    ?_,
    ?_,
    ?_,
    ?_⟩
  · exact fun i hi => (R.1 0 i (by decide) hi).1
  · exact fun i hi => (R.1 0 i (by decide) hi).2.1
  · exact fun i hi => (R.1 1 i (by decide) hi).1
  · exact fun i hi => (R.1 1 i (by decide) hi).2.1
  · exact fun i hi => (R.1 2 i (by decide) hi).1
  · exact fun i hi => (R.1 2 i (by decide) hi).2.1
  · exact fun i hi => (R.1 3 i (by decide) hi).1
  · exact fun i hi => (R.1 3 i (by decide) hi).2.1
  · exact fun i hi => (R.1 4 i (by decide) hi).1
  · exact fun i hi => (R.1 4 i (by decide) hi).2.1
  · exact fun i hi => (R.1 5 i (by decide) hi).1
  · exact fun i hi => (R.1 5 i (by decide) hi).2.1
  · exact fun i hi => (R.1 6 i (by decide) hi).1
  · exact fun i hi => (R.1 6 i (by decide) hi).2.1
  · exact fun i hi => (R.1 7 i (by decide) hi).1
  · exact fun i hi => (R.1 7 i (by decide) hi).2.1
  · exact fun i hi => (R.1 8 i (by decide) hi).1
  · exact fun i hi => (R.1 8 i (by decide) hi).2.1
  · exact fun i hi => (R.1 9 i (by decide) hi).1
  · exact fun i hi => (R.1 9 i (by decide) hi).2.1
  · exact (R.1 10 0 (by decide) Nat.zero_lt_one).1
  · exact (R.1 10 0 (by decide) Nat.zero_lt_one).2.1
  · exact fun i hi => R.2.1 0 i (by decide) hi
  · exact fun i hi => R.2.1 1 i (by decide) hi
  · exact fun i hi => R.2.1 2 i (by decide) hi
  · exact fun i hi => R.2.1 3 i (by decide) hi
  · exact fun i hi => R.2.1 4 i (by decide) hi
  · exact fun i hi => R.2.1 5 i (by decide) hi
  · exact fun i hi => R.2.1 6 i (by decide) hi
  · exact fun i hi => R.2.1 7 i (by decide) hi
  · exact fun i hi => R.2.1 8 i (by decide) hi
  · exact fun i hi => R.2.1 9 i (by decide) hi
  · exact fun i hi => R.2.1 10 i (by decide) hi
  · exact fun i hi => R.2.1 11 i (by decide) hi
  · exact fun i hi => R.2.1 12 i (by decide) hi
  · exact fun i hi => R.2.1 13 i (by decide) hi
  · exact fun i hi => R.2.1 14 i (by decide) hi
  · exact fun i hi => R.2.1 15 i (by decide) hi
  · exact fun i hi => R.2.1 16 i (by decide) hi
  · exact fun i hi => R.2.1 17 i (by decide) hi
  · exact fun i hi => R.2.1 18 i (by decide) hi
  · exact fun i hi => R.2.1 19 i (by decide) hi
  · exact fun i hi => R.2.1 20 i (by decide) hi
  · exact R.2.1 21 0 (by decide) Nat.zero_lt_one
  · exact R.2.1 22 0 (by decide) Nat.zero_lt_one
  · exact fun i hi => (R.2.2.2.1 4 i (by decide) (by decide) hi).1
  · exact fun i j hi => (R.2.2.2.1 4 i (by decide) (by decide) hi).2 j
  · exact fun i hi => (R.2.2.2.1 5 i (by decide) (by decide) hi).1
  · exact fun i j hi => (R.2.2.2.1 5 i (by decide) (by decide) hi).2 j
  · exact fun i hi => (R.2.2.2.1 6 i (by decide) (by decide) hi).1
  · exact fun i j hi => (R.2.2.2.1 6 i (by decide) (by decide) hi).2 j
  · exact fun i hi => (R.2.2.2.1 7 i (by decide) (by decide) hi).1
  · exact fun i j hi => (R.2.2.2.1 7 i (by decide) (by decide) hi).2 j
  · exact fun i hi => (R.2.2.2.1 8 i (by decide) (by decide) hi).1
  · exact fun i j hi => (R.2.2.2.1 8 i (by decide) (by decide) hi).2 j
  · exact fun f hf => (R.2.2.2.2.1 f hf).1.1
  · exact fun f hf => (R.2.2.2.2.1 f hf).1.2.1
  · exact fun h0 => (R.2.2.2.2.1 0 h0).2.1
  · exact fun h0 => (R.2.2.2.2.1 1 h0).2.1
  · exact fun h0 => (R.2.2.2.2.1 2 h0).2.1
  · exact fun h0 => (R.2.2.2.2.1 3 h0).2.1
  · exact fun h0 => (R.2.2.2.2.1 4 h0).2.1
  · exact fun h0 => (R.2.2.2.2.1 5 h0).2.1
  · exact fun f j hf => (R.2.2.2.2.1 f hf).2.2 j
  · exact fun i hi => R.2.2.2.2.2.2.1 0 i (by decide) hi
  · exact fun i hi => R.2.2.2.2.2.2.1 1 i (by decide) hi
  · exact fun i hi => R.2.2.2.2.2.2.1 2 i (by decide) hi
  · exact fun i hi => R.2.2.2.2.2.2.1 3 i (by decide) hi
  · exact fun i hi => R.2.2.2.2.2.2.1 4 i (by decide) hi
  · exact fun i hi => R.2.2.2.2.2.2.1 5 i (by decide) hi
  · exact fun i hi => R.2.2.2.2.2.2.1 6 i (by decide) hi
  · exact fun i hi => R.2.2.2.2.2.2.1 7 i (by decide) hi
  · exact R.2.2.2.2.2.2.1 8 0 (by decide) Nat.zero_lt_one
  · exact R.2.2.2.2.2.2.1 9 0 (by decide) Nat.zero_lt_one
  · exact R.2.2.2.2.2.2.1 10 0 (by decide) Nat.zero_lt_one
  · exact R.2.2.2.2.2.2.1 11 0 (by decide) Nat.zero_lt_one
  · exact R.2.2.2.2.2.2.1 12 0 (by decide) Nat.zero_lt_one
  · exact (R.2.2.2.2.2.2.2 0 (by decide)).1
  · exact (R.2.2.2.2.2.2.2 1 (by decide)).1
  · exact (R.2.2.2.2.2.2.2 2 (by decide)).1
  · exact (R.2.2.2.2.2.2.2 3 (by decide)).1
  · exact (R.2.2.2.2.2.2.2 4 (by decide)).1
theorem lit_0 : ((0 : Int32)).toNatClampNeg = 0 := rfl
theorem lit_1 : ((1 : Int32)).toNatClampNeg = 1 := rfl
theorem lit_2 : ((2 : Int32)).toNatClampNeg = 2 := rfl
theorem lit_3 : ((3 : Int32)).toNatClampNeg = 3 := rfl
theorem lit_4 : ((4 : Int32)).toNatClampNeg = 4 := rfl
theorem lit_9 : ((9 : Int32)).toNatClampNeg = 9 := rfl
theorem vin_0 {n : Nat} (h : 0 < n) : vp_in (0 : Int32) n := by unfold vp_in; rw [lit_0]; intro e; rcases e with e | e; exact absurd e (by decide); omega
theorem vin_1 {n : Nat} (h : 1 < n) : vp_in (1 : Int32) n := by unfold vp_in; rw [lit_1]; intro e; rcases e with e | e; exact absurd e (by decide); omega
theorem vin_2 {n : Nat} (h : 2 < n) : vp_in (2 : Int32) n := by unfold vp_in; rw [lit_2]; intro e; rcases e with e | e; exact absurd e (by decide); omega
theorem vin_n {i n : Nat} (h : i < n) (hn : n < 2147483648) : vp_in (nI i) n := vp_in_nI h hn
theorem ncl {n : Nat} (h : n < 2147483648) : (nI n).toNatClampNeg = n := nI_clamp h
theorem nm2 (x : Nat) : (2 : Int32) * nI x = nI (2 * x) := pk_mul 2 x
theorem nm3 (x : Nat) : (3 : Int32) * nI x = nI (3 * x) := pk_mul 3 x
theorem nm4 (x : Nat) : (4 : Int32) * nI x = nI (4 * x) := pk_mul 4 x
theorem nm9 (x : Nat) : (9 : Int32) * nI x = nI (9 * x) := pk_mul 9 x
theorem na1 (x : Nat) : nI x + (1 : Int32) = nI (x + 1) := nI_add x 1
theorem na2 (x : Nat) : nI x + (2 : Int32) = nI (x + 2) := nI_add x 2
theorem na3 (x : Nat) : nI x + (3 : Int32) = nI (x + 3) := nI_add x 3
theorem na4 (x : Nat) : nI x + (4 : Int32) = nI (x + 4) := nI_add x 4
theorem na6 (x : Nat) : nI x + (6 : Int32) = nI (x + 6) := nI_add x 6
theorem ns1 {x : Nat} (h : 1 ≤ x) : nI x - (1 : Int32) = nI (x - 1) := pk_sub h
theorem nle {a b : Nat} (ha : a < 2147483648) (hb : b < 2147483648) : (nI a ≤ nI b) = (a ≤ b) := propext (nI_leI ha hb)
theorem nlt {a b : Nat} (ha : a < 2147483648) (hb : b < 2147483648) : (nI a < nI b) = (a < b) := propext (nI_ltI ha hb)
theorem neq {a b : Nat} (ha : a < 2147483648) (hb : b < 2147483648) : (nI a = nI b) = (a = b) := propext (nI_eq ha hb)
theorem hG_sG (h : hC) (f i : Nat) (v : Int32) (f' i' : Nat) : hG (hsG h f i v) f' i' = if f' = f ∧ i' = i then v else hG h f' i' := Eq.trans rfl rfl
theorem hG_sY (h : hC) (r i j : Nat) (v : Int32) : hG (hsY h r i j v) = hG h := Eq.trans rfl rfl
theorem hG_sV (h : hC) (k i v : Nat) : hG (hsV h k i v) = hG h := Eq.trans rfl rfl
theorem hG_sN (h : hC) (k n : Nat) : hG (hsN h k n) = hG h := Eq.trans rfl rfl
theorem hY_sG (h : hC) (f i : Nat) (v : Int32) : hY (hsG h f i v) = hY h := Eq.trans rfl rfl
theorem hY_sY (h : hC) (r i j : Nat) (v : Int32) (r' i' j' : Nat) : hY (hsY h r i j v) r' i' j' = if r' = r ∧ i' = i ∧ j' = j then v else hY h r' i' j' := Eq.trans rfl rfl
theorem hY_sV (h : hC) (k i v : Nat) : hY (hsV h k i v) = hY h := Eq.trans rfl rfl
theorem hY_sN (h : hC) (k n : Nat) : hY (hsN h k n) = hY h := Eq.trans rfl rfl
theorem hV_sG (h : hC) (f i : Nat) (v : Int32) : hV (hsG h f i v) = hV h := Eq.trans rfl rfl
theorem hV_sY (h : hC) (r i j : Nat) (v : Int32) : hV (hsY h r i j v) = hV h := Eq.trans rfl rfl
theorem hV_sN (h : hC) (k n : Nat) : hV (hsN h k n) = hV h := Eq.trans rfl rfl
theorem hV_sV (h : hC) (k i v : Nat) (k' i' : Nat) : hV (hsV h k i v) k' i' = if k' = k ∧ i' = i then v else hV h k' i' := Eq.trans rfl rfl
theorem hN_sG (h : hC) (f i : Nat) (v : Int32) : hN (hsG h f i v) = hN h := Eq.trans rfl rfl
theorem hN_sY (h : hC) (r i j : Nat) (v : Int32) : hN (hsY h r i j v) = hN h := Eq.trans rfl rfl
theorem hN_sV (h : hC) (k i v : Nat) : hN (hsV h k i v) = hN h := Eq.trans rfl rfl
theorem hN_sN (h : hC) (k n : Nat) (k' : Nat) : hN (hsN h k n) k' = if k' = k then n else hN h k' := Eq.trans rfl rfl
theorem hF_sX (m : hM) (f j : Nat) (v : Int32) : hF (hsX m f j v) = hF m := Eq.trans rfl rfl
theorem hF_sXr (m : hM) (f : Nat) (g : Nat → Int32) : hF (hsXr m f g) = hF m := Eq.trans rfl rfl
theorem hF_sF (m : hM) (f : Nat) (v : Int32) (f' : Nat) : hF (hsF m f v) f' = if f' = f then v else hF m f' := Eq.trans rfl rfl
theorem hX_sF (m : hM) (f : Nat) (v : Int32) : hX (hsF m f v) = hX m := Eq.trans rfl rfl
theorem hX_sX (m : hM) (f j : Nat) (v : Int32) (f' j' : Nat) : hX (hsX m f j v) f' j' = if f' = f ∧ j' = j then v else hX m f' j' := Eq.trans rfl rfl
theorem hX_sXr (m : hM) (f : Nat) (g : Nat → Int32) (f' j' : Nat) : hX (hsXr m f g) f' j' = if f' = f then g j' else hX m f' j' := Eq.trans rfl rfl
theorem up_I {z A w h m u S} (R : RP z A w h m u S) {P : mmS → Prop} {f i : Nat} {v : Int32} (hf : f ≤ 22) (hi : i < lv h (fr f)) (k : ∀ S', RP z A w (hsG h f i v) m u S' → P S') : ∀ S', S' = sI S f (A (fr f) i) v → P S' := by
  rintro S' rfl; exact k _ (RP_sI R hf hi)
theorem up_Y {z A w h m u S} (R : RP z A w h m u S) {P : mmS → Prop} {r i j : Nat} {v : Int32} (h4 : 4 ≤ r) (h8 : r ≤ 8) (hi : i < lv h r) (k : ∀ S', RP z A w (hsY h r i j v) m u S' → P S') : ∀ S', S' = sA S (A r i) j v → P S' := by
  rintro S' rfl; exact k _ (RP_sY R h4 h8 hi)
theorem up_X {z A w h m u S} (R : RP z A w h m u S) {P : mmS → Prop} {f j : Nat} {v : Int32} (hf : f < u) (k : ∀ S', RP z A w h (hsX m f j v) u S' → P S') : ∀ S', S' = sA S (A 11 f) j v → P S' := by
  rintro S' rfl; exact k _ (RP_sX R hf)
theorem up_V {z A w h m u S} (R : RP z A w h m u S) {P : mmS → Prop} {i t : Nat} (hi : i < hN h 2) (k : ∀ S', RP z A w (hsV h 2 i t) m u S' → P S') : ∀ S', S' = sR S 2 (A 2 i) (some (A 0 t)) → P S' := by
  rintro S' rfl; exact k _ (RP_sV (f := 2) R (by decide) hi)
theorem er_0 : er 0 = 0 := rfl
theorem er_1 : er 1 = 1 := rfl
theorem er_2 : er 2 = 2 := rfl
theorem er_3 : er 3 = 3 := rfl
theorem er_4 : er 4 = 3 := rfl
