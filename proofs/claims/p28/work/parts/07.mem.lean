/-! THE MEMORY: a pool of cells by address; fields as functions (field, address) ↦ value. Own work. -/
abbrev mmS : Type := List Nat × (Nat → Nat) × (Nat → Nat → Int32) × (Nat → Nat → Option Nat) × (Nat → Nat) × (Nat → Nat → Int32) × (Nat → Nat → Option Nat) × (Nat → Nat → Int64)
/-- the pool, the kinds, int fields, reference fields, lengths, int rows, reference rows, long rows -/
def mL (S : mmS) : List Nat := S.1
def mK (S : mmS) : Nat → Nat := S.2.1
def mI (S : mmS) : Nat → Nat → Int32 := S.2.2.1
def mR (S : mmS) : Nat → Nat → Option Nat := S.2.2.2.1
def mN (S : mmS) : Nat → Nat := S.2.2.2.2.1
def mA (S : mmS) : Nat → Nat → Int32 := S.2.2.2.2.2.1
def mQ (S : mmS) : Nat → Nat → Option Nat := S.2.2.2.2.2.2.1
def mJ (S : mmS) : Nat → Nat → Int64 := S.2.2.2.2.2.2.2
def mu2 {α : Type} (f : Nat → Nat → α) (k a : Nat) (v : α) : Nat → Nat → α := fun k' a' => if k' = k ∧ a' = a then v else f k' a'
def mrw {α : Type} (f : Nat → Nat → α) (a : Nat) (r : Nat → α) : Nat → Nat → α := fun a' i => if a' = a then r i else f a' i
def sI (S : mmS) (f a : Nat) (v : Int32) : mmS := (mL S, mK S, mu2 (mI S) f a v, mR S, mN S, mA S, mQ S, mJ S)
def sR (S : mmS) (f a : Nat) (v : Option Nat) : mmS := (mL S, mK S, mI S, mu2 (mR S) f a v, mN S, mA S, mQ S, mJ S)
def sA (S : mmS) (a i : Nat) (v : Int32) : mmS := (mL S, mK S, mI S, mR S, mN S, mu2 (mA S) a i v, mQ S, mJ S)
def sQ (S : mmS) (a i : Nat) (v : Option Nat) : mmS := (mL S, mK S, mI S, mR S, mN S, mA S, mu2 (mQ S) a i v, mJ S)
def sJ (S : mmS) (a i : Nat) (v : Int64) : mmS := (mL S, mK S, mI S, mR S, mN S, mA S, mQ S, mu2 (mJ S) a i v)
def sAr (S : mmS) (a : Nat) (r : Nat → Int32) : mmS := (mL S, mK S, mI S, mR S, mN S, mrw (mA S) a r, mQ S, mJ S)
def sQr (S : mmS) (a : Nat) (r : Nat → Option Nat) : mmS := (mL S, mK S, mI S, mR S, mN S, mA S, mrw (mQ S) a r, mJ S)
def sNo (S : mmS) (a k : Nat) : mmS := (mL S ++ [a], va_up (mK S) a k, fun f b => if b = a then 0 else mI S f b, fun f b => if b = a then none else mR S f b, mN S, mA S, mQ S, mJ S)
def sNa (S : mmS) (a n : Nat) : mmS := (mL S ++ [a], va_up (mK S) a 7, mI S, mR S, va_up (mN S) a n, mrw (mA S) a (fun _ => 0), mQ S, mJ S)
def sNq (S : mmS) (a n : Nat) : mmS := (mL S ++ [a], va_up (mK S) a 8, mI S, mR S, va_up (mN S) a n, mA S, mrw (mQ S) a (fun _ => none), mJ S)
def sNj (S : mmS) (a n : Nat) : mmS := (mL S ++ [a], va_up (mK S) a 9, mI S, mR S, va_up (mN S) a n, mA S, mQ S, mrw (mJ S) a (fun _ => 0))
/-- the fields of a kind: is it a reference, its number among those of its sort -/
def mFl : Nat → List (Bool × Nat)
  | 0 => [(false, 0), (false, 1), (false, 2), (false, 3), (false, 4), (false, 5)]
  | 1 => [(false, 6), (true, 0), (false, 7), (false, 8), (false, 9), (false, 10), (false, 11), (false, 12), (false, 13)]
  | 2 => [(true, 1), (true, 2), (false, 14), (true, 3), (true, 4), (true, 5)]
  | 3 => [(false, 15), (false, 16), (false, 17), (false, 18), (false, 19), (false, 20), (true, 6), (true, 7)]
  | 4 => [(true, 8), (true, 9), (true, 10), (true, 11), (true, 12), (false, 21), (false, 22)]
  | 5 => [(false, 0), (false, 1), (false, 2), (false, 3), (false, 4), (false, 5)]
  | 6 => [(false, 30), (true, 25), (false, 31)]
  | _ => []
def mF1 (S : mmS) (a : Nat) (q : Bool × Nat) : Value := if q.1 then va_rf (mR S q.2 a) else .int (mI S q.2 a)
def mF (S : mmS) (k a : Nat) : List Value := (mFl k).map (mF1 S a)
/-- base, classes, the classes of int[], Object[]; the script: its cell, its length, its ints; ArrayList's empty array, Object[].class -/
abbrev mG : Type := Nat × va_G × ClassId × ClassId × (Nat × Nat × (Nat → Int32)) × (Nat × Nat)
def mB (g : mG) : Nat → Prop := fun q => g.1 ≤ q
abbrev mT (g : mG) : List (ClassId × FieldType) := [(g.2.2.1, .int), (g.2.2.2.1, .object "java/lang/Object"), (g.2.2.1, .int)]
abbrev mCl : List vw_C := [(RX0, TX0, 6), (RX1, TX1, 9), (RX2, TX2, 6), (RX3, TX3, 8), (RX4, TX4, 7), (RX0, TX0, 6), (RJx4a65c, TJx4a65c, 3)]
def mE (g : mG) (S : mmS) (a : Nat) : va_E := if mK S a = 7 then .inl (g.2.2.1, mN S a, .inl (mA S a)) else if mK S a = 8 then .inl (g.2.2.2.1, mN S a, .inr (.inr (.inr (.inr (mQ S a))))) else if mK S a = 9 then .inl (g.2.2.1, mN S a, .inr (.inl (mJ S a))) else .inr (mK S a, mF S (mK S a) a)
def mW (g : mG) (S : mmS) : va_W := va_pl (mL S) (mE g S)
theorem mix (g : mG) (S : mmS) {a : Nat} (h : a ∈ mL S) : ∃ k : Nat, (mW g S)[k]? = some (a, mE g S a) := va_pl_get (X := []) h
theorem mE_o (g : mG) {S : mmS} {a k : Nat} (hk : mK S a = k) (h7 : k < 7) : mE g S a = .inr (k, mF S k a) := by
  unfold mE
  rw [hk, if_neg (by omega), if_neg (by omega), if_neg (by omega)]
theorem mE_7 (g : mG) {S : mmS} {a : Nat} (hk : mK S a = 7) : mE g S a = .inl (g.2.2.1, mN S a, .inl (mA S a)) := by
  unfold mE
  rw [hk, if_pos rfl]
theorem mE_8 (g : mG) {S : mmS} {a : Nat} (hk : mK S a = 8) : mE g S a = .inl (g.2.2.2.1, mN S a, .inr (.inr (.inr (.inr (mQ S a))))) := by
  unfold mE
  rw [hk, if_neg (by omega), if_pos rfl]
theorem mE_9 (g : mG) {S : mmS} {a : Nat} (hk : mK S a = 9) : mE g S a = .inl (g.2.2.1, mN S a, .inr (.inl (mJ S a))) := by
  unfold mE
  rw [hk, if_neg (by omega), if_neg (by omega), if_pos rfl]
theorem mset (g : mG) {S S' : mmS} {A : Nat → Prop} {a k : Nat} {e : va_E} (hD : va_D A (mW g S)) (h : a ∈ mL S) (hk : (mW g S)[k]? = some (a, mE g S a)) (hL : mL S' = mL S) (he : ∀ b, va_up (mE g S) a e b = mE g S' b) : (mW g S).set k (a, e) = mW g S' := by
  have h1 : (([] : va_W) ++ va_pl (mL S) (mE g S)).set k (a, e) = [] ++ va_pl (mL S) (va_up (mE g S) a e) := va_pl_set (X := []) hD h hk
  show (va_pl (mL S) (mE g S)).set k (a, e) = va_pl (mL S') (mE g S')
  rw [hL, ← va_pl_congr he]
  exact h1
theorem mpush (g : mG) {S S' : mmS} {a : Nat} {e : va_E} (h : a ∉ mL S) (hL : mL S' = mL S ++ [a]) (he : ∀ b, va_up (mE g S) a e b = mE g S' b) : mW g S ++ [(a, e)] = mW g S' := by
  show va_pl (mL S) (mE g S) ++ [(a, e)] = va_pl (mL S') (mE g S')
  rw [hL, ← va_pl_congr he]
  exact va_pl_push h
theorem mE_ne (g : mG) {S S' : mmS} {b : Nat} (h1 : mK S' b = mK S b) (h2 : mN S' b = mN S b) (h3 : mA S' b = mA S b) (h4 : mQ S' b = mQ S b) (h5 : mJ S' b = mJ S b) (h6 : ∀ f, mI S' f b = mI S f b) (h7 : ∀ f, mR S' f b = mR S f b) : mE g S b = mE g S' b := by
  have hF : mF1 S' b = mF1 S b := by
    funext q
    unfold mF1
    rw [h6, h7]
  unfold mE mF
  rw [h1, h2, h3, h4, h5, hF]
theorem mE_sI (g : mG) {S : mmS} {a k j f : Nat} {v : Int32} (hk : mK S a = k) (h7 : k < 7) (hj : (mFl k)[j]? = some (false, f)) (hu : ∀ i, (mFl k)[i]? = some (false, f) → i = j) (b : Nat) : va_up (mE g S) a (.inr (k, (mF S k a).set j (.int v))) b = mE g (sI S f a v) b := by
  by_cases hb : b = a
  · subst hb
    rw [va_up_self, mE_o g (S := sI S f b v) hk h7]
    congr 2
    apply List.ext_getElem?
    intro i
    have hlen : j < (mFl k).length := (List.getElem?_eq_some_iff.mp hj).1
    unfold mF
    rw [List.getElem?_set, List.getElem?_map, List.getElem?_map, List.length_map]
    by_cases hij : j = i
    · subst hij
      rw [if_pos rfl, if_pos hlen, hj]
      simp [mF1, sI, mI, mu2]
    · rw [if_neg hij]
      cases hq : (mFl k)[i]? with
      | none => rfl
      | some q =>
        obtain ⟨r, f2⟩ := q
        cases r
        · have hf : f2 ≠ f := fun e => hij (by subst e; exact (hu i hq).symm)
          simp [mF1, sI, mI, mu2, hf]
        · simp [mF1, sI, mR]
  · rw [va_up_ne _ _ hb]
    refine mE_ne g rfl rfl rfl rfl rfl (fun f' => ?_) (fun f' => rfl)
    show mu2 (mI S) f a v f' b = _
    simp [mu2, hb]
theorem mE_sR (g : mG) {S : mmS} {a k j f : Nat} {v : Option Nat} (hk : mK S a = k) (h7 : k < 7) (hj : (mFl k)[j]? = some (true, f)) (hu : ∀ i, (mFl k)[i]? = some (true, f) → i = j) (b : Nat) : va_up (mE g S) a (.inr (k, (mF S k a).set j (va_rf v))) b = mE g (sR S f a v) b := by
  by_cases hb : b = a
  · subst hb
    rw [va_up_self, mE_o g (S := sR S f b v) hk h7]
    congr 2
    apply List.ext_getElem?
    intro i
    have hlen : j < (mFl k).length := (List.getElem?_eq_some_iff.mp hj).1
    unfold mF
    rw [List.getElem?_set, List.getElem?_map, List.getElem?_map, List.length_map]
    by_cases hij : j = i
    · subst hij
      rw [if_pos rfl, if_pos hlen, hj]
      simp [mF1, sR, mR, mu2]
    · rw [if_neg hij]
      cases hq : (mFl k)[i]? with
      | none => rfl
      | some q =>
        obtain ⟨r, f2⟩ := q
        cases r
        · simp [mF1, sR, mI]
        · have hf : f2 ≠ f := fun e => hij (by subst e; exact (hu i hq).symm)
          simp [mF1, sR, mR, mu2, hf]
  · rw [va_up_ne _ _ hb]
    refine mE_ne g rfl rfl rfl rfl rfl (fun f' => rfl) (fun f' => ?_)
    show mu2 (mR S) f a v f' b = _
    simp [mu2, hb]
theorem mrow_self {α : Type} (f : Nat → Nat → α) (a i : Nat) (v : α) : (fun j => if j = i then v else f a j) = mu2 f a i v a := by
  funext j
  simp [mu2]
theorem mE_sA (g : mG) {S : mmS} {a i : Nat} {v : Int32} (hk : mK S a = 7) (b : Nat) : va_up (mE g S) a (.inl (g.2.2.1, mN S a, .inl (upd (mA S a) i v))) b = mE g (sA S a i v) b := by
  by_cases hb : b = a
  · subst hb
    rw [va_up_self, mE_7 g (S := sA S b i v) hk]
    have h : upd (mA S b) i v = mA (sA S b i v) b := mrow_self (mA S) b i v
    rw [h]; rfl
  · rw [va_up_ne _ _ hb]
    refine mE_ne g rfl rfl ?_ rfl rfl (fun f' => rfl) (fun f' => rfl)
    funext j
    show mu2 (mA S) a i v b j = _
    simp [mu2, hb]
theorem mE_sQ (g : mG) {S : mmS} {a i : Nat} {v : Option Nat} (hk : mK S a = 8) (b : Nat) : va_up (mE g S) a (.inl (g.2.2.2.1, mN S a, .inr (.inr (.inr (.inr (va_up (mQ S a) i v)))))) b = mE g (sQ S a i v) b := by
  by_cases hb : b = a
  · subst hb
    rw [va_up_self, mE_8 g (S := sQ S b i v) hk]
    have h : va_up (mQ S b) i v = mQ (sQ S b i v) b := mrow_self (mQ S) b i v
    rw [h]; rfl
  · rw [va_up_ne _ _ hb]
    refine mE_ne g rfl rfl rfl ?_ rfl (fun f' => rfl) (fun f' => rfl)
    funext j
    show mu2 (mQ S) a i v b j = _
    simp [mu2, hb]
theorem mE_sJ (g : mG) {S : mmS} {a i : Nat} {v : Int64} (hk : mK S a = 9) (b : Nat) : va_up (mE g S) a (.inl (g.2.2.1, mN S a, .inr (.inl (vp_updL (mJ S a) i v)))) b = mE g (sJ S a i v) b := by
  by_cases hb : b = a
  · subst hb
    rw [va_up_self, mE_9 g (S := sJ S b i v) hk]
    have h : vp_updL (mJ S b) i v = mJ (sJ S b i v) b := mrow_self (mJ S) b i v
    rw [h]; rfl
  · rw [va_up_ne _ _ hb]
    refine mE_ne g rfl rfl rfl rfl ?_ (fun f' => rfl) (fun f' => rfl)
    funext j
    show mu2 (mJ S) a i v b j = _
    simp [mu2, hb]
theorem mE_sAr (g : mG) {S : mmS} {a : Nat} {r : Nat → Int32} (hk : mK S a = 7) (b : Nat) : va_up (mE g S) a (.inl (g.2.2.1, mN S a, .inl r)) b = mE g (sAr S a r) b := by
  by_cases hb : b = a
  · subst hb
    rw [va_up_self, mE_7 g (S := sAr S b r) hk]
    have h : r = mA (sAr S b r) b := by
      funext j
      simp [mA, sAr, mrw]
    rw [← h]; rfl
  · rw [va_up_ne _ _ hb]
    refine mE_ne g rfl rfl ?_ rfl rfl (fun f' => rfl) (fun f' => rfl)
    funext j
    show mrw (mA S) a r b j = _
    simp [mrw, hb]
theorem mE_sQr (g : mG) {S : mmS} {a : Nat} {r : Nat → Option Nat} (hk : mK S a = 8) (b : Nat) : va_up (mE g S) a (.inl (g.2.2.2.1, mN S a, .inr (.inr (.inr (.inr r))))) b = mE g (sQr S a r) b := by
  by_cases hb : b = a
  · subst hb
    rw [va_up_self, mE_8 g (S := sQr S b r) hk]
    have h : r = mQ (sQr S b r) b := by
      funext j
      simp [mQ, sQr, mrw]
    rw [← h]; rfl
  · rw [va_up_ne _ _ hb]
    refine mE_ne g rfl rfl rfl ?_ rfl (fun f' => rfl) (fun f' => rfl)
    funext j
    show mrw (mQ S) a r b j = _
    simp [mrw, hb]
theorem mE_sNa (g : mG) {S : mmS} {a n : Nat} (b : Nat) : va_up (mE g S) a (.inl (g.2.2.1, n, .inl (fun _ => 0))) b = mE g (sNa S a n) b := by
  by_cases hb : b = a
  · subst hb
    have hk : mK (sNa S b n) b = 7 := va_up_self _ _ _
    rw [va_up_self, mE_7 g hk]
    have h1 : mN (sNa S b n) b = n := va_up_self _ _ _
    have h : mA (sNa S b n) b = fun _ => 0 := by
      funext j
      simp [mA, sNa, mrw]
    rw [h, h1]
  · rw [va_up_ne _ _ hb]
    refine mE_ne g (va_up_ne _ _ hb) (va_up_ne _ _ hb) ?_ rfl rfl (fun f' => rfl) (fun f' => rfl)
    funext j
    simp [mA, sNa, mrw, hb]
theorem mE_sNq (g : mG) {S : mmS} {a n : Nat} (b : Nat) : va_up (mE g S) a (.inl (g.2.2.2.1, n, .inr (.inr (.inr (.inr (fun _ => none)))))) b = mE g (sNq S a n) b := by
  by_cases hb : b = a
  · subst hb
    have hk : mK (sNq S b n) b = 8 := va_up_self _ _ _
    rw [va_up_self, mE_8 g hk]
    have h1 : mN (sNq S b n) b = n := va_up_self _ _ _
    have h : mQ (sNq S b n) b = fun _ => none := by
      funext j
      simp [mQ, sNq, mrw]
    rw [h, h1]
  · rw [va_up_ne _ _ hb]
    refine mE_ne g (va_up_ne _ _ hb) (va_up_ne _ _ hb) rfl ?_ rfl (fun f' => rfl) (fun f' => rfl)
    funext j
    simp [mQ, sNq, mrw, hb]
theorem mE_sNj (g : mG) {S : mmS} {a n : Nat} (b : Nat) : va_up (mE g S) a (.inl (g.2.2.1, n, .inr (.inl (fun _ => 0)))) b = mE g (sNj S a n) b := by
  by_cases hb : b = a
  · subst hb
    have hk : mK (sNj S b n) b = 9 := va_up_self _ _ _
    rw [va_up_self, mE_9 g hk]
    have h1 : mN (sNj S b n) b = n := va_up_self _ _ _
    have h : mJ (sNj S b n) b = fun _ => 0 := by
      funext j
      simp [mJ, sNj, mrw]
    rw [h, h1]
  · rw [va_up_ne _ _ hb]
    refine mE_ne g (va_up_ne _ _ hb) (va_up_ne _ _ hb) rfl rfl ?_ (fun f' => rfl) (fun f' => rfl)
    funext j
    simp [mJ, sNj, mrw, hb]
theorem mE_sNo (g : mG) {S : mmS} {a k : Nat} (h7 : k < 7) (b : Nat) : va_up (mE g S) a (.inr (k, (mFl k).map (fun q => if q.1 then .null else .int 0))) b = mE g (sNo S a k) b := by
  by_cases hb : b = a
  · subst hb
    have hk : mK (sNo S b k) b = k := va_up_self _ _ _
    rw [va_up_self, mE_o g hk h7]
    congr 2
    unfold mF
    apply List.map_congr_left
    intro q _
    obtain ⟨r, f⟩ := q
    cases r <;> simp [mF1, sNo, mI, mR, va_rf]
  · rw [va_up_ne _ _ hb]
    refine mE_ne g (va_up_ne _ _ hb) rfl rfl rfl rfl (fun f' => ?_) (fun f' => ?_)
    · show (if b = a then 0 else mI S f' b) = _
      rw [if_neg hb]
    · show (if b = a then none else mR S f' b) = _
      rw [if_neg hb]
