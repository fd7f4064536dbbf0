/-! OWN ROWS over the memory: the world of a state, its contracts, one row an instruction. Written by wip/p28/rows_head.py. -/
def mCa : List (String × String) := [(RX0, "java/lang/Object"), (RX1, "java/lang/Object"), (RX2, "java/lang/Object"), (RX3, "java/lang/Object"), (RX4, "java/lang/Object"), (RJx4a65c, "java/lang/Object")]
/-- what holds of the tables and of the cells that nobody writes -/
def mX (g : mG) (U : State) : Prop := g.1 ≤ U.heap.size ∧ va_K g.2.1 mCl (mT g) U ∧ True ∧ True ∧ va_Z "java/util/ArrayList" "DEFAULTCAPACITY_EMPTY_ELEMENTDATA" "[Ljava/lang/Object;" (.ref g.2.2.2.2.2.1) (mB g) U U.heap ∧ va_T (.object "java/lang/Object") g.2.2.2.2.2.1 0 (fun _ => .null) (mB g) U U.heap ∧ va_AO "java/lang/Object" U ∧ va_Mi "[Ljava/lang/Object;" g.2.2.2.2.2.2 U ∧ va_Dc U ∧ True ∧ (∀ q ∈ mCa, va_Nw (.castable q.1 q.2) U) ∧ va_X g.2.2.2.2.1.1 g.2.2.2.2.1.2.1 g.2.2.2.2.1.2.2 U U.heap ∧ g.2.2.2.2.1.1 < U.heap.size ∧ ¬ mB g g.2.2.2.2.1.1
theorem mX_x {g : mG} {s : State} (h : mX g s) : va_X g.2.2.2.2.1.1 g.2.2.2.2.1.2.1 g.2.2.2.2.1.2.2 s s.heap := h.2.2.2.2.2.2.2.2.2.2.2.1
theorem mX_l {g : mG} {s : State} (h : mX g s) : g.2.2.2.2.1.1 < s.heap.size := h.2.2.2.2.2.2.2.2.2.2.2.2.1
theorem mX_a {g : mG} {s : State} (h : mX g s) : ¬ mB g g.2.2.2.2.1.1 := h.2.2.2.2.2.2.2.2.2.2.2.2.2
theorem mX_mv {g : mG} {s U : State} {H : Heap} {locs : List Loc} (h : mX g s) (hS : va_S (mB g) s.heap H locs) (e : U.heap = H) (hW : s.WarmedH U.vm) : mX g U := by
  obtain ⟨h1, h2, h3, h4, h5, h6, h7, h8, h9, h10, h11, h12, h13⟩ := h
  subst e
  exact ⟨Nat.le_trans h1 hS.1, va_K.moved hW.alike h2, trivial, trivial, va_Z.moved hW.alike (h5.kept hS.2.1), va_T.moved hW.alike (h6.kept hS.2.1), va_AO.moved hW.alike h7, va_Mi.moved hW.alike h8, va_Dc.moved hW.alike h9, trivial, fun q hq => va_Nw.warmC hW (h11 q hq), va_X.moved hW.alike (h12.kept (hS.2.1 _ h13.1 h13.2)), Nat.lt_of_lt_of_le h13.1 hS.1, h13.2⟩
def wO (g : mG) (S : mmS) (t : State) : Prop := va_P g.2.1 mCl (mW g S) t.heap ∧ va_D (mB g) (mW g S)
def wI (g : mG) (S : mmS) (U : State) : Prop := mX g U ∧ wO g S U
def mH (g : mG) (S : mmS) (s : State) (H : Heap) (locs : List Loc) : Prop := va_P g.2.1 mCl (mW g S) H ∧ va_D (mB g) (mW g S) ∧ va_S (mB g) s.heap H locs
theorem wI_bl {g : mG} {S : mmS} {U : State} {f : JFrame} {mk : MethodId} {a : Array Value} (h : wI g S U) : wI g S (U.calling f mk a) := ⟨mX_mv h.1 (locs := []) va_S.rf (U := U.calling f mk a) rfl (State.WarmedH.refl U), h.2⟩
theorem wI_in {g : mG} {S : mmS} {s U : State} {H : Heap} {locs : List Loc} (hs : mX g s) (hH : mH g S s H locs) (e : U.heap = H) (hW : s.WarmedH U.vm) : wI g S U := ⟨mX_mv hs hH.2.2 e hW, by unfold wO; rw [e]; exact ⟨hH.1, hH.2.1⟩⟩
theorem mB_of {g : mG} {S : mmS} {s : State} {H : Heap} {locs : List Loc} (hs : mX g s) (hH : mH g S s H locs) : ∀ q, s.heap.size ≤ q → mB g q := fun q h => Nat.le_trans hs.1 h
def mCs (k : Nat) (C : String) (T : u_T) (N : Nat) (ty : Nat → FieldType) : Prop := mCl[k]? = some (C, T, N) ∧ k < 7 ∧ (∀ j, j < N → parseFieldDescriptor (T j).2.2.1 = some (ty j)) ∧ (∀ a, a < N → ∀ b, b < N → a ≠ b → (T a).2.1 ≠ (T b).2.1)
theorem cs0 : mCs 0 RX0 TX0 6 tyX0 := ⟨rfl, by decide, tyX0_ok, nmX0⟩
theorem cs1 : mCs 1 RX1 TX1 9 tyX1 := ⟨rfl, by decide, tyX1_ok, nmX1⟩
theorem cs2 : mCs 2 RX2 TX2 6 tyX2 := ⟨rfl, by decide, tyX2_ok, nmX2⟩
theorem cs3 : mCs 3 RX3 TX3 8 tyX3 := ⟨rfl, by decide, tyX3_ok, nmX3⟩
theorem cs4 : mCs 4 RX4 TX4 7 tyX4 := ⟨rfl, by decide, tyX4_ok, nmX4⟩
theorem cs5 : mCs 5 RX0 TX0 6 tyX0 := ⟨rfl, by decide, tyX0_ok, nmX0⟩
theorem cs6 : mCs 6 RJx4a65c TJx4a65c 3 tyJx4a65c := ⟨rfl, by decide, tyJx4a65c_ok, nmJx4a65c⟩
def mFs (k j : Nat) (r : Bool) (f N : Nat) : Prop := (mFl k)[j]? = some (r, f) ∧ (∀ i, (mFl k)[i]? = some (r, f) → i = j) ∧ j < N
theorem mFs_of {k j : Nat} {r : Bool} {f N : Nat} (h1 : (mFl k)[j]? = some (r, f)) (h2 : ∀ i, i < (mFl k).length → (mFl k)[i]? = some (r, f) → i = j) (h3 : j < N) : mFs k j r f N := ⟨h1, fun i hi => h2 i (List.getElem?_eq_some_iff.mp hi).1 hi, h3⟩
theorem fs0_0 : mFs 0 0 false 0 6 := mFs_of rfl (by decide) (by decide)
theorem fs0_1 : mFs 0 1 false 1 6 := mFs_of rfl (by decide) (by decide)
theorem fs0_2 : mFs 0 2 false 2 6 := mFs_of rfl (by decide) (by decide)
theorem fs0_3 : mFs 0 3 false 3 6 := mFs_of rfl (by decide) (by decide)
theorem fs0_4 : mFs 0 4 false 4 6 := mFs_of rfl (by decide) (by decide)
theorem fs0_5 : mFs 0 5 false 5 6 := mFs_of rfl (by decide) (by decide)
theorem fs1_0 : mFs 1 0 false 6 9 := mFs_of rfl (by decide) (by decide)
theorem fs1_1 : mFs 1 1 true 0 9 := mFs_of rfl (by decide) (by decide)
theorem fs1_2 : mFs 1 2 false 7 9 := mFs_of rfl (by decide) (by decide)
theorem fs1_3 : mFs 1 3 false 8 9 := mFs_of rfl (by decide) (by decide)
theorem fs1_4 : mFs 1 4 false 9 9 := mFs_of rfl (by decide) (by decide)
theorem fs1_5 : mFs 1 5 false 10 9 := mFs_of rfl (by decide) (by decide)
theorem fs1_6 : mFs 1 6 false 11 9 := mFs_of rfl (by decide) (by decide)
theorem fs1_7 : mFs 1 7 false 12 9 := mFs_of rfl (by decide) (by decide)
theorem fs1_8 : mFs 1 8 false 13 9 := mFs_of rfl (by decide) (by decide)
theorem fs2_0 : mFs 2 0 true 1 6 := mFs_of rfl (by decide) (by decide)
theorem fs2_1 : mFs 2 1 true 2 6 := mFs_of rfl (by decide) (by decide)
theorem fs2_2 : mFs 2 2 false 14 6 := mFs_of rfl (by decide) (by decide)
theorem fs2_3 : mFs 2 3 true 3 6 := mFs_of rfl (by decide) (by decide)
theorem fs2_4 : mFs 2 4 true 4 6 := mFs_of rfl (by decide) (by decide)
theorem fs2_5 : mFs 2 5 true 5 6 := mFs_of rfl (by decide) (by decide)
theorem fs3_0 : mFs 3 0 false 15 8 := mFs_of rfl (by decide) (by decide)
theorem fs3_1 : mFs 3 1 false 16 8 := mFs_of rfl (by decide) (by decide)
theorem fs3_2 : mFs 3 2 false 17 8 := mFs_of rfl (by decide) (by decide)
theorem fs3_3 : mFs 3 3 false 18 8 := mFs_of rfl (by decide) (by decide)
theorem fs3_4 : mFs 3 4 false 19 8 := mFs_of rfl (by decide) (by decide)
theorem fs3_5 : mFs 3 5 false 20 8 := mFs_of rfl (by decide) (by decide)
theorem fs3_6 : mFs 3 6 true 6 8 := mFs_of rfl (by decide) (by decide)
theorem fs3_7 : mFs 3 7 true 7 8 := mFs_of rfl (by decide) (by decide)
theorem fs4_0 : mFs 4 0 true 8 7 := mFs_of rfl (by decide) (by decide)
theorem fs4_1 : mFs 4 1 true 9 7 := mFs_of rfl (by decide) (by decide)
theorem fs4_2 : mFs 4 2 true 10 7 := mFs_of rfl (by decide) (by decide)
theorem fs4_3 : mFs 4 3 true 11 7 := mFs_of rfl (by decide) (by decide)
theorem fs4_4 : mFs 4 4 true 12 7 := mFs_of rfl (by decide) (by decide)
theorem fs4_5 : mFs 4 5 false 21 7 := mFs_of rfl (by decide) (by decide)
theorem fs4_6 : mFs 4 6 false 22 7 := mFs_of rfl (by decide) (by decide)
theorem fs5_0 : mFs 5 0 false 0 6 := mFs_of rfl (by decide) (by decide)
theorem fs5_1 : mFs 5 1 false 1 6 := mFs_of rfl (by decide) (by decide)
theorem fs5_2 : mFs 5 2 false 2 6 := mFs_of rfl (by decide) (by decide)
theorem fs5_3 : mFs 5 3 false 3 6 := mFs_of rfl (by decide) (by decide)
theorem fs5_4 : mFs 5 4 false 4 6 := mFs_of rfl (by decide) (by decide)
theorem fs5_5 : mFs 5 5 false 5 6 := mFs_of rfl (by decide) (by decide)
theorem fs6_0 : mFs 6 0 false 30 3 := mFs_of rfl (by decide) (by decide)
theorem fs6_1 : mFs 6 1 true 25 3 := mFs_of rfl (by decide) (by decide)
theorem fs6_2 : mFs 6 2 false 31 3 := mFs_of rfl (by decide) (by decide)
section MROWS
variable {p : Program} {l : Launch} {e : Env} {R : Room} {s : State} {m : MethodId} {args : Array Value} {below : List Frame} {meth : Method} {c : Code} {H : Heap} {locs : List Loc} {cells slots : Nat} {Q : State → Prop}
variable {cc : ByteArray} {nL pc : Nat} {ls : Array Slot} {rest : List Value} {Ts : List Cond} {own : String} {g : mG} {S : mmS}
theorem m_getI {C ref : String} {T : u_T} {ty : Nat → FieldType} {N k j f index a : Nat} (hC : CallFix p m c cc nL s args Ts own) (hs : mX g s) (hH : mH g S s H locs) (hcs : mCs k C T N ty) (hfs : mFs k j false f N) (hws : ∀ w ∈ u_ws C T N, w ∈ Ts) (hlink : Cond.fieldLink own index ref (T j).2.1 (T j).2.2.1 ∈ Ts) (hsame : ∀ x, s.fieldFound? (T j).1 (T j).2.1 (T j).2.2.1 = some x → s.fieldFound? ref (T j).2.1 (T j).2.2.1 = some x) (ha : a ∈ mL S ∧ mK S a = k) (hdg : decode cc pc = .ok (.getfield index, 3))
    (kk : W p l e R s m args below meth c H locs cells slots Q (F0 m (pc + 3) ls (.int (mI S f a) :: rest))) : W p l e R s m args below meth c H locs cells slots Q (F0 m pc ls (.ref a :: rest)) := by
  obtain ⟨hx, hb, -, hown, hts⟩ := hC
  obtain ⟨q0, hq⟩ := mix g S ha.1
  rw [mE_o g ha.2 hcs.2.1] at hq
  refine va_get (D := g.2.1) (cl := mCl) (tys := mT g) (v := .int (mI S f a)) hx hb hts hws hown hs.2.1 hH.1 q0 hq hcs.1 j hfs.2.2 (hts _ hlink) hsame ?_ hdg kk
  unfold mF
  rw [List.getElem?_map, hfs.1]
  rfl
theorem m_getR {C ref : String} {T : u_T} {ty : Nat → FieldType} {N k j f index a b : Nat} (hC : CallFix p m c cc nL s args Ts own) (hs : mX g s) (hH : mH g S s H locs) (hcs : mCs k C T N ty) (hfs : mFs k j true f N) (hws : ∀ w ∈ u_ws C T N, w ∈ Ts) (hlink : Cond.fieldLink own index ref (T j).2.1 (T j).2.2.1 ∈ Ts) (hsame : ∀ x, s.fieldFound? (T j).1 (T j).2.1 (T j).2.2.1 = some x → s.fieldFound? ref (T j).2.1 (T j).2.2.1 = some x) (ha : a ∈ mL S ∧ mK S a = k) (hr : mR S f a = some b) (hdg : decode cc pc = .ok (.getfield index, 3))
    (kk : W p l e R s m args below meth c H locs cells slots Q (F0 m (pc + 3) ls (.ref b :: rest))) : W p l e R s m args below meth c H locs cells slots Q (F0 m pc ls (.ref a :: rest)) := by
  obtain ⟨hx, hb, -, hown, hts⟩ := hC
  obtain ⟨q0, hq⟩ := mix g S ha.1
  rw [mE_o g ha.2 hcs.2.1] at hq
  refine va_get (D := g.2.1) (cl := mCl) (tys := mT g) (v := .ref b) hx hb hts hws hown hs.2.1 hH.1 q0 hq hcs.1 j hfs.2.2 (hts _ hlink) hsame ?_ hdg kk
  unfold mF
  rw [List.getElem?_map, hfs.1]
  show some (va_rf (mR S f a)) = _
  rw [hr]
  rfl
theorem mF_len (S : mmS) (k a : Nat) : (mF S k a).length = (mFl k).length := by simp [mF]
theorem m_putI {C ref : String} {T : u_T} {ty : Nat → FieldType} {N k j f index a : Nat} {v : Int32} (hC : CallFix p m c cc nL s args Ts own) (hs : mX g s) (hH : mH g S s H locs) (hcs : mCs k C T N ty) (hfs : mFs k j false f N) (hws : ∀ w ∈ u_ws C T N, w ∈ Ts) (hlink : Cond.fieldLink own index ref (T j).2.1 (T j).2.2.1 ∈ Ts) (hsame : ∀ x, s.fieldFound? (T j).1 (T j).2.1 (T j).2.2.1 = some x → s.fieldFound? ref (T j).2.1 (T j).2.2.1 = some x) (hfin : (T j).2.2.2 = false ∨ ((T j).2.2.2 = true ∧ meth.name = "<init>" ∧ (T j).1 = own)) (hty : ty j = .int) (ha : a ∈ mL S ∧ mK S a = k) (hdg : decode cc pc = .ok (.putfield index, 3))
    (kk : ∀ (H1 : Heap) (locs1 : List Loc), mH g (sI S f a v) s H1 locs1 → W p l e R s m args below meth c H1 locs1 cells slots Q (F0 m (pc + 3) ls rest)) : W p l e R s m args below meth c H locs cells slots Q (F0 m pc ls (.int v :: .ref a :: rest)) := by
  obtain ⟨hx, hb, -, hown, hts⟩ := hC
  obtain ⟨q0, hq0⟩ := mix g S ha.1
  have hq := hq0
  rw [mE_o g ha.2 hcs.2.1] at hq
  have hd : parseFieldDescriptor (T j).2.2.1 = some .int := by rw [hcs.2.2.1 j hfs.2.2, hty]
  have hlen : j < (mF S k a).length := by rw [mF_len]; exact (List.getElem?_eq_some_iff.mp hfs.1).1
  have he := mset g hH.2.1 ha.1 hq0 (S' := sI S f a v) rfl (mE_sI g ha.2 hcs.2.1 hfs.1 hfs.2.1)
  have fin : ∀ (H1 : Heap) (locs1 : List Loc), va_P g.2.1 mCl ((mW g S).set q0 (a, .inr (k, (mF S k a).set j (.int v)))) H1 → va_D (mB g) ((mW g S).set q0 (a, .inr (k, (mF S k a).set j (.int v)))) → va_S (mB g) s.heap H1 locs1 → W p l e R s m args below meth c H1 locs1 cells slots Q (F0 m (pc + 3) ls rest) := by
    intro H1 locs1 hP hD hS
    rw [he] at hP hD
    exact kk H1 locs1 ⟨hP, hD, hS⟩
  rcases hfin with hfin | ⟨hfin, hin, hdecl⟩
  · exact va_put (D := g.2.1) (cl := mCl) (tys := mT g) (A := mB g) (ty := .int) (v := .int v) hx hb hts hws ty hcs.2.2.1 hcs.2.2.2 hown hs.2.1 hH.1 hH.2.1 hH.2.2 q0 hq hcs.1 j hfs.2.2 (hts _ hlink) hsame hfin hd rfl rfl hlen hdg fin
  · exact va_putF (D := g.2.1) (cl := mCl) (tys := mT g) (A := mB g) (ty := .int) (v := .int v) hx hb hts hws ty hcs.2.2.1 hcs.2.2.2 hown hs.2.1 hH.1 hH.2.1 hH.2.2 q0 hq hcs.1 j hfs.2.2 (hts _ hlink) hsame hfin hin hdecl hd rfl rfl hlen hdg fin
theorem m_putR {C ref : String} {T : u_T} {ty : Nat → FieldType} {N k j f index a b : Nat} (hC : CallFix p m c cc nL s args Ts own) (hs : mX g s) (hH : mH g S s H locs) (hcs : mCs k C T N ty) (hfs : mFs k j true f N) (hws : ∀ w ∈ u_ws C T N, w ∈ Ts) (hlink : Cond.fieldLink own index ref (T j).2.1 (T j).2.2.1 ∈ Ts) (hsame : ∀ x, s.fieldFound? (T j).1 (T j).2.1 (T j).2.2.1 = some x → s.fieldFound? ref (T j).2.1 (T j).2.2.1 = some x) (hfin : (T j).2.2.2 = false ∨ ((T j).2.2.2 = true ∧ meth.name = "<init>" ∧ (T j).1 = own)) (hn : narrow (ty j) (.ref b) = .ref b) (hfit : fits (ty j) (.ref b) = true) (ha : a ∈ mL S ∧ mK S a = k) (hdg : decode cc pc = .ok (.putfield index, 3))
    (kk : ∀ (H1 : Heap) (locs1 : List Loc), mH g (sR S f a (some b)) s H1 locs1 → W p l e R s m args below meth c H1 locs1 cells slots Q (F0 m (pc + 3) ls rest)) : W p l e R s m args below meth c H locs cells slots Q (F0 m pc ls (.ref b :: .ref a :: rest)) := by
  obtain ⟨hx, hb, -, hown, hts⟩ := hC
  obtain ⟨q0, hq0⟩ := mix g S ha.1
  have hq := hq0
  rw [mE_o g ha.2 hcs.2.1] at hq
  have hd : parseFieldDescriptor (T j).2.2.1 = some (ty j) := hcs.2.2.1 j hfs.2.2
  have hlen : j < (mF S k a).length := by rw [mF_len]; exact (List.getElem?_eq_some_iff.mp hfs.1).1
  have he := mset g hH.2.1 ha.1 hq0 (S' := sR S f a (some b)) rfl (mE_sR g (v := some b) ha.2 hcs.2.1 hfs.1 hfs.2.1)
  have fin : ∀ (H1 : Heap) (locs1 : List Loc), va_P g.2.1 mCl ((mW g S).set q0 (a, .inr (k, (mF S k a).set j (.ref b)))) H1 → va_D (mB g) ((mW g S).set q0 (a, .inr (k, (mF S k a).set j (.ref b)))) → va_S (mB g) s.heap H1 locs1 → W p l e R s m args below meth c H1 locs1 cells slots Q (F0 m (pc + 3) ls rest) := by
    intro H1 locs1 hP hD hS
    have he2 : (mW g S).set q0 (a, .inr (k, (mF S k a).set j (.ref b))) = mW g (sR S f a (some b)) := he
    rw [he2] at hP hD
    exact kk H1 locs1 ⟨hP, hD, hS⟩
  rcases hfin with hfin | ⟨hfin, hin, hdecl⟩
  · exact va_put (D := g.2.1) (cl := mCl) (tys := mT g) (A := mB g) (ty := ty j) (v := .ref b) hx hb hts hws ty hcs.2.2.1 hcs.2.2.2 hown hs.2.1 hH.1 hH.2.1 hH.2.2 q0 hq hcs.1 j hfs.2.2 (hts _ hlink) hsame hfin hd hn hfit hlen hdg fin
  · exact va_putF (D := g.2.1) (cl := mCl) (tys := mT g) (A := mB g) (ty := ty j) (v := .ref b) hx hb hts hws ty hcs.2.2.1 hcs.2.2.2 hown hs.2.1 hH.1 hH.2.1 hH.2.2 q0 hq hcs.1 j hfs.2.2 (hts _ hlink) hsame hfin hin hdecl hd hn hfit hlen hdg fin
theorem m_iald {a : Nat} {i : Int32} (hC : CallFix p m c cc nL s args Ts own) (hs : mX g s) (hH : mH g S s H locs) (ha : a ∈ mL S ∧ mK S a = 7) (hin : vp_in i (mN S a)) (hdg : decode cc pc = .ok (.iaload, 1))
    (kk : W p l e R s m args below meth c H locs cells slots Q (F0 m (pc + 1) ls (.int (mA S a i.toNatClampNeg) :: rest))) : W p l e R s m args below meth c H locs cells slots Q (F0 m pc ls (.int i :: .ref a :: rest)) := by
  obtain ⟨q0, hq⟩ := mix g S ha.1
  rw [mE_7 g ha.2] at hq
  exact va_iald (D := g.2.1) (cl := mCl) (tys := mT g) hC.1 hC.2.1 hs.2.1 hH.1 q0 0 hq rfl hin hdg kk
theorem m_iast {a : Nat} {i x : Int32} (hC : CallFix p m c cc nL s args Ts own) (hs : mX g s) (hH : mH g S s H locs) (ha : a ∈ mL S ∧ mK S a = 7) (hin : vp_in i (mN S a)) (hdg : decode cc pc = .ok (.iastore, 1))
    (kk : ∀ (H1 : Heap) (locs1 : List Loc), mH g (sA S a i.toNatClampNeg x) s H1 locs1 → W p l e R s m args below meth c H1 locs1 cells slots Q (F0 m (pc + 1) ls rest)) : W p l e R s m args below meth c H locs cells slots Q (F0 m pc ls (.int x :: .int i :: .ref a :: rest)) := by
  obtain ⟨q0, hq0⟩ := mix g S ha.1
  have hq := hq0
  rw [mE_7 g ha.2] at hq
  have he := mset g hH.2.1 ha.1 hq0 (S' := sA S a i.toNatClampNeg x) rfl (mE_sA g ha.2)
  refine va_iast (D := g.2.1) (cl := mCl) (tys := mT g) (A := mB g) hC.1 hC.2.1 hs.2.1 hH.1 hH.2.1 hH.2.2 q0 0 hq rfl hin hdg (fun H1 locs1 hP hD hS => ?_)
  rw [he] at hP hD
  exact kk H1 locs1 ⟨hP, hD, hS⟩
theorem m_alen {a k : Nat} (hC : CallFix p m c cc nL s args Ts own) (hs : mX g s) (hH : mH g S s H locs) (ha : a ∈ mL S ∧ mK S a = k) (hk : k = 7 ∨ k = 8) (hdg : decode cc pc = .ok (.arraylength, 1))
    (kk : W p l e R s m args below meth c H locs cells slots Q (F0 m (pc + 1) ls (.int (nI (mN S a)) :: rest))) : W p l e R s m args below meth c H locs cells slots Q (F0 m pc ls (.ref a :: rest)) := by
  obtain ⟨q0, hq⟩ := mix g S ha.1
  rcases hk with rfl | rfl
  · rw [mE_7 g ha.2] at hq
    exact va_alen (D := g.2.1) (cl := mCl) (tys := mT g) hC.1 hC.2.1 hs.2.1 hH.1 q0 0 hq rfl rfl hdg kk
  · rw [mE_8 g ha.2] at hq
    exact va_alen (D := g.2.1) (cl := mCl) (tys := mT g) hC.1 hC.2.1 hs.2.1 hH.1 q0 1 hq rfl rfl hdg kk
/-- the length of ArrayList's own empty array -/
theorem m_alen0 (hC : CallFix p m c cc nL s args Ts own) (hs : mX g s) (hH : mH g S s H locs) (hdg : decode cc pc = .ok (.arraylength, 1))
    (kk : W p l e R s m args below meth c H locs cells slots Q (F0 m (pc + 1) ls (.int 0 :: rest))) : W p l e R s m args below meth c H locs cells slots Q (F0 m pc ls (.ref g.2.2.2.2.2.1 :: rest)) :=
  va_tlen (A := mB g) hC.1 hC.2.1 hs.2.2.2.2.2.1 hH.2.2 (v := 0) rfl hdg kk
theorem m_gets0 {index : Nat} {ref : String} (hC : CallFix p m c cc nL s args Ts own) (hs : mX g s) (hH : mH g S s H locs) (hlink : Cond.fieldLink own index ref "DEFAULTCAPACITY_EMPTY_ELEMENTDATA" "[Ljava/lang/Object;" ∈ Ts) (hsame : ∀ x, s.fieldFound? "java/util/ArrayList" "DEFAULTCAPACITY_EMPTY_ELEMENTDATA" "[Ljava/lang/Object;" = some x → s.fieldFound? ref "DEFAULTCAPACITY_EMPTY_ELEMENTDATA" "[Ljava/lang/Object;" = some x) (hdg : decode cc pc = .ok (.getstatic index, 3))
    (kk : W p l e R s m args below meth c H locs cells slots Q (F0 m (pc + 3) ls (.ref g.2.2.2.2.2.1 :: rest))) : W p l e R s m args below meth c H locs cells slots Q (F0 m pc ls rest) :=
  va_gets (A := mB g) hC.1 hC.2.1 hs.2.2.2.2.1 hH.2.2 hC.2.2.2.1 (hC.2.2.2.2 _ hlink) hsame hdg kk
theorem m_qald {a b : Nat} {i : Int32} (hC : CallFix p m c cc nL s args Ts own) (hs : mX g s) (hH : mH g S s H locs) (ha : a ∈ mL S ∧ mK S a = 8) (hin : vp_in i (mN S a)) (hv : mQ S a i.toNatClampNeg = some b) (hdg : decode cc pc = .ok (.aaload, 1))
    (kk : W p l e R s m args below meth c H locs cells slots Q (F0 m (pc + 1) ls (.ref b :: rest))) : W p l e R s m args below meth c H locs cells slots Q (F0 m pc ls (.int i :: .ref a :: rest)) := by
  obtain ⟨q0, hq⟩ := mix g S ha.1
  rw [mE_8 g ha.2] at hq
  refine va_aldq (D := g.2.1) (cl := mCl) (tys := mT g) hC.1 hC.2.1 hs.2.1 hH.1 q0 1 hq rfl hin hdg ?_
  rw [hv]
  exact kk
theorem m_any {v k : Nat} {C : String} {T : u_T} {N : Nat} {ty : Nat → FieldType} (hs : mX g s) (hH : mH g S s H locs) (hcs : mCs k C T N ty) (hca : (C, "java/lang/Object") ∈ mCa) (hv : v ∈ mL S ∧ mK S v = k) : va_Any "java/lang/Object" s H v := by
  obtain ⟨q1, hq⟩ := mix g S hv.1
  rw [mE_o g hv.2 hcs.2.1] at hq
  have h11 := hs.2.2.2.2.2.2.2.2.2.2.1
  exact va_rAny hs.2.1 hH.1 hq hcs.1 (vb_asgC (h11 _ hca))
theorem m_qast {a v : Nat} {i : Int32} (hC : CallFix p m c cc nL s args Ts own) (hs : mX g s) (hH : mH g S s H locs) (ha : a ∈ mL S ∧ mK S a = 8) (hin : vp_in i (mN S a)) (hv : va_Any "java/lang/Object" s H v) (hdg : decode cc pc = .ok (.aastore, 1))
    (kk : ∀ (H1 : Heap) (locs1 : List Loc), mH g (sQ S a i.toNatClampNeg (some v)) s H1 locs1 → W p l e R s m args below meth c H1 locs1 cells slots Q (F0 m (pc + 1) ls rest)) : W p l e R s m args below meth c H locs cells slots Q (F0 m pc ls (.ref v :: .int i :: .ref a :: rest)) := by
  obtain ⟨q0, hq0⟩ := mix g S ha.1
  have hq := hq0
  rw [mE_8 g ha.2] at hq
  have he := mset g hH.2.1 ha.1 hq0 (S' := sQ S a i.toNatClampNeg (some v)) rfl (mE_sQ g ha.2)
  refine va_astqM (D := g.2.1) (cl := mCl) (tys := mT g) (A := mB g) hC.1 hC.2.1 hs.2.1 hH.1 hH.2.1 hH.2.2 q0 1 hq rfl hv hin hdg (fun H1 locs1 hP hD hS => ?_)
  rw [he] at hP hD
  exact kk H1 locs1 ⟨hP, hD, hS⟩
theorem m_fresh {q : Nat} {x : va_E} (h : va_D (mB g) (mW g S ++ [(q, x)])) : q ∉ mL S := va_pl_fresh2 (X := []) h
theorem m_newI {n : Int32} {N' : Nat} (hC : CallFix p m c cc nL s args Ts own) (hs : mX g s) (hH : mH g S s H locs) (harr : Cond.arrayClass .int ∈ Ts) (hn : ¬ n < 0) (hN : n.toNatClampNeg = N') (hbytes : N' * 4 ≤ 536870912) (hcells : cells + 1 ≤ R.cells) (hslots : slots + N' ≤ R.slots) (hdg : decode cc pc = .ok (.newarray .int, 2))
    (kk : ∀ (q : Nat) (H1 : Heap), q ∉ mL S → mH g (sNa S q N') s H1 locs → W p l e R s m args below meth c H1 locs (cells + 1) (slots + N') Q (F0 m (pc + 2) ls (.ref q :: rest))) : W p l e R s m args below meth c H locs cells slots Q (F0 m pc ls (.int n :: rest)) := by
  refine va_newa (atype := .int) (D := g.2.1) (cl := mCl) (tys := mT g) (A := mB g) (a0 := (N', .inl (fun _ => 0))) hC.1 hC.2.1 (hC.2.2.2.2 _ harr) rfl hs.2.1 hH.1 hH.2.1 hH.2.2 (mB_of hs hH) (fun cA => rfl) hn hN hbytes hcells hslots hdg (fun q cA H1 hK hP hD hS => ?_)
  have h3 : s.vm.findClass ("[" ++ FieldType.int.toString) = some cA := (hK.2 3 (cA, .int) rfl).2
  have h0 : s.vm.findClass ("[" ++ FieldType.int.toString) = some g.2.2.1 := (hK.2 0 (g.2.2.1, .int) rfl).2
  cases h3.symm.trans h0
  have hf := m_fresh hD
  have he := mpush g hf (S' := sNa S q N') rfl (mE_sNa g)
  rw [he] at hP hD
  exact kk q H1 hf ⟨hP, hD, hS⟩
theorem m_newQ {n : Int32} {N' index : Nat} (hC : CallFix p m c cc nL s args Ts own) (hs : mX g s) (hH : mH g S s H locs) (hcl : Cond.classLink own index "java/lang/Object" ∈ Ts) (hn : ¬ n < 0) (hN : n.toNatClampNeg = N') (hbytes : N' * 4 ≤ 536870912) (hcells : cells + 1 ≤ R.cells) (hslots : slots + N' ≤ R.slots) (hdg : decode cc pc = .ok (.anewarray index, 3))
    (kk : ∀ (q : Nat) (H1 : Heap), q ∉ mL S → q ≠ g.2.2.2.2.2.1 → mH g (sNq S q N') s H1 locs → W p l e R s m args below meth c H1 locs (cells + 1) (slots + N') Q (F0 m (pc + 3) ls (.ref q :: rest))) : W p l e R s m args below meth c H locs cells slots Q (F0 m pc ls (.int n :: rest)) := by
  refine va_newq (D := g.2.1) (cl := mCl) (tys := mT g) (A := mB g) hC.1 hC.2.1 hC.2.2.2.1 (hC.2.2.2.2 _ hcl) hs.2.2.2.2.2.2.1 hs.2.1 hH.1 hH.2.1 hH.2.2 (mB_of hs hH) hn hN hbytes hcells hslots hdg (fun q cA H1 hK hP hD hS => ?_)
  have h3 := va_nmO (hK.2 3 (cA, .object "java/lang/Object") rfl).2 rfl
  have h0 := va_nmO (hK.2 1 (g.2.2.2.1, .object "java/lang/Object") rfl).2 rfl
  cases h3.symm.trans h0
  have hf := m_fresh hD
  have hq : q ≠ g.2.2.2.2.2.1 := by
    intro e
    have h1 : mB g q := hD.2 (mW g S).length (q, _) (by rw [List.getElem?_append_right (Nat.le_refl _), Nat.sub_self]; rfl)
    obtain ⟨_, -, -, -, -, -, -, h7⟩ := hs.2.2.2.2.2.1
    rw [e] at h1
    exact h7 h1
  have he := mpush g hf (S' := sNq S q N') rfl (mE_sNq g)
  rw [he] at hP hD
  exact kk q H1 hf hq ⟨hP, hD, hS⟩
theorem m_newO {C : String} {T : u_T} {ty : Nat → FieldType} {N k index : Nat} (hC : CallFix p m c cc nL s args Ts own) (hs : mX g s) (hH : mH g S s H locs) (hcs : mCs k C T N ty) (hws : ∀ w ∈ u_ws C T N, w ∈ Ts) (hcl : Cond.classLink own index C ∈ Ts) (hinst : Cond.instantiable C N ∈ Ts) (hini : Cond.initialized C ∈ Ts) (hfs : ∀ j, j < N → defaultValue (ty j) = vp_V ((mFl k).map (fun q => if q.1 then .null else .int 0)) j) (hcells : cells + 1 ≤ R.cells) (hslots : slots + N ≤ R.slots) (hdg : decode cc pc = .ok (.new index, 3))
    (kk : ∀ (q : Nat) (H1 : Heap), q ∉ mL S → mH g (sNo S q k) s H1 locs → W p l e R s m args below meth c H1 locs (cells + 1) (slots + N) Q (F0 m (pc + 3) ls (.ref q :: rest))) : W p l e R s m args below meth c H locs cells slots Q (F0 m pc ls rest) := by
  obtain ⟨hx, hb, -, hown, hts⟩ := hC
  refine va_new (D := g.2.1) (cl := mCl) (tys := mT g) (A := mB g) (ci := k) hx hb hts hws ty hcs.2.2.1 hown (hts _ hcl) (hts _ hinst) (hts _ hini) hs.2.1 hH.1 hH.2.1 hH.2.2 (mB_of hs hH) hcs.1 hfs hcells hslots hdg (fun q H1 hP hD hS => ?_)
  have hf := m_fresh hD
  have he := mpush g hf (S' := sNo S q k) rfl (mE_sNo g hcs.2.1)
  rw [he] at hP hD
  exact kk q H1 hf ⟨hP, hD, hS⟩
theorem m_cast {C : String} {T : u_T} {ty : Nat → FieldType} {N k index a : Nat} (hC : CallFix p m c cc nL s args Ts own) (hs : mX g s) (hH : mH g S s H locs) (hcs : mCs k C T N ty) (hcl : Cond.classLink own index C ∈ Ts) (ha : a ∈ mL S ∧ mK S a = k) (hdg : decode cc pc = .ok (.checkcast index, 3))
    (kk : W p l e R s m args below meth c H locs cells slots Q (F0 m (pc + 3) ls (.ref a :: rest))) : W p l e R s m args below meth c H locs cells slots Q (F0 m pc ls (.ref a :: rest)) := by
  obtain ⟨q0, hq⟩ := mix g S ha.1
  rw [mE_o g ha.2 hcs.2.1] at hq
  exact va_castS hC.1 hC.2.1 hC.2.2.2.1 (hC.2.2.2.2 _ hcl) (hs.2.1.1 k _ hcs.1).2 (va_recv hs.2.1 hH.1 hcs.1 hq) hdg kk
theorem m_copyI {a0 a1 : Nat} {sp dp n : Int32} {index : Nat} (hC : CallFix p m c cc nL s args Ts own) (hs : mX g s) (hH : mH g S s H locs) (hsz : ls.size = nL) (hlink : Cond.methodLink own index arraycopyName ∈ Ts) (hnat : Cond.native arraycopyName ∈ Ts) (hstat : Cond.static arraycopyName ∈ Ts) (hini : Cond.initialized "java/lang/System" ∈ Ts) (h0 : a0 ∈ mL S ∧ mK S a0 = 7) (h1 : a1 ∈ mL S ∧ mK S a1 = 7)
    (h2 : ¬ sp < 0 ∧ ¬ dp < 0 ∧ ¬ n < 0 ∧ sp.toNatClampNeg + n.toNatClampNeg ≤ mN S a0 ∧ dp.toNatClampNeg + n.toNatClampNeg ≤ mN S a1) (hfr : 1 ≤ R.frames) (hlo : (rest.map fun v => v.category).sum + (nativeFrameWords "java/lang/System" "arraycopy" 5 + 11) ≤ R.locals) (hdg : decode cc pc = .ok (.invokestatic index, 3))
    (kk : ∀ (H1 : Heap) (locs1 : List Loc), mH g (sAr S a1 (va_cpy (mA S a0) (mA S a1) sp.toNatClampNeg dp.toNatClampNeg n.toNatClampNeg)) s H1 locs1 → W p l e R s m args below meth c H1 locs1 cells slots Q (F0 m (pc + 3) ls rest)) : W p l e R s m args below meth c H locs cells slots Q (F0 m pc ls (.int n :: .int dp :: .ref a1 :: .int sp :: .ref a0 :: rest)) := by
  obtain ⟨q0, hq0⟩ := mix g S h0.1
  rw [mE_7 g h0.2] at hq0
  obtain ⟨q1, hq1'⟩ := mix g S h1.1
  have hq1 := hq1'
  rw [mE_7 g h1.2] at hq1
  have he := mset g hH.2.1 h1.1 hq1' (S' := sAr S a1 (va_cpy (mA S a0) (mA S a1) sp.toNatClampNeg dp.toNatClampNeg n.toNatClampNeg)) rfl (mE_sAr g h1.2)
  obtain ⟨hx, hb, hml, hown, hts⟩ := hC
  refine va_copyi (D := g.2.1) (cl := mCl) (tys := mT g) (A := mB g) hx hb (hml.trans hsz.symm) hown (hts _ hlink) (hts _ hnat) (hts _ hstat) (hts _ hini) hs.2.1 hH.1 hH.2.1 hH.2.2 q0 q1 0 0 (ty := .int) hq0 hq1 rfl rfl rfl h2.1 h2.2.1 h2.2.2.1 h2.2.2.2.1 h2.2.2.2.2 (fun _ _ => rfl) hfr hlo hdg (fun H1 locs1 hP hD hS => ?_)
  rw [he] at hP hD
  exact kk H1 locs1 ⟨hP, hD, hS⟩
theorem m_copyQ {a0 a1 : Nat} {sp dp n : Int32} {index : Nat} (hC : CallFix p m c cc nL s args Ts own) (hs : mX g s) (hH : mH g S s H locs) (hsz : ls.size = nL) (hlink : Cond.methodLink own index arraycopyName ∈ Ts) (hnat : Cond.native arraycopyName ∈ Ts) (hstat : Cond.static arraycopyName ∈ Ts) (hini : Cond.initialized "java/lang/System" ∈ Ts) (h0 : a0 ∈ mL S ∧ mK S a0 = 8) (h1 : a1 ∈ mL S ∧ mK S a1 = 8)
    (h2 : ¬ sp < 0 ∧ ¬ dp < 0 ∧ ¬ n < 0 ∧ sp.toNatClampNeg + n.toNatClampNeg ≤ mN S a0 ∧ dp.toNatClampNeg + n.toNatClampNeg ≤ mN S a1) (hel : ∀ i : Nat, i < n.toNatClampNeg → ∀ y : Nat, mQ S a0 (sp.toNatClampNeg + i) = some y → va_Any "java/lang/Object" s H y) (hfr : 1 ≤ R.frames) (hlo : (rest.map fun v => v.category).sum + (nativeFrameWords "java/lang/System" "arraycopy" 5 + 11) ≤ R.locals) (hdg : decode cc pc = .ok (.invokestatic index, 3))
    (kk : ∀ (H1 : Heap) (locs1 : List Loc), mH g (sQr S a1 (va_cpy (mQ S a0) (mQ S a1) sp.toNatClampNeg dp.toNatClampNeg n.toNatClampNeg)) s H1 locs1 → W p l e R s m args below meth c H1 locs1 cells slots Q (F0 m (pc + 3) ls rest)) : W p l e R s m args below meth c H locs cells slots Q (F0 m pc ls (.int n :: .int dp :: .ref a1 :: .int sp :: .ref a0 :: rest)) := by
  obtain ⟨q0, hq0⟩ := mix g S h0.1
  rw [mE_8 g h0.2] at hq0
  obtain ⟨q1, hq1'⟩ := mix g S h1.1
  have hq1 := hq1'
  rw [mE_8 g h1.2] at hq1
  have he := mset g hH.2.1 h1.1 hq1' (S' := sQr S a1 (va_cpy (mQ S a0) (mQ S a1) sp.toNatClampNeg dp.toNatClampNeg n.toNatClampNeg)) rfl (mE_sQr g h1.2)
  obtain ⟨hx, hb, hml, hown, hts⟩ := hC
  refine va_copyM (D := g.2.1) (cl := mCl) (tys := mT g) (A := mB g) hx hb (hml.trans hsz.symm) hown (hts _ hlink) (hts _ hnat) (hts _ hstat) (hts _ hini) hs.2.1 hH.1 hH.2.1 hH.2.2 q0 q1 1 1 hq0 hq1 rfl rfl h2.1 h2.2.1 h2.2.2.1 h2.2.2.2.1 h2.2.2.2.2 hel hfr hlo hdg (fun H1 locs1 hP hD hS => ?_)
  rw [he] at hP hD
  exact kk H1 locs1 ⟨hP, hD, hS⟩
theorem m_getC {a index : Nat} (hC : CallFix p m c cc nL s args Ts own) (hs : mX g s) (hH : mH g S s H locs) (hsz : ls.size = nL) (hlink : Cond.methodLink own index ⟨"java/lang/Object", "getClass", "()Ljava/lang/Class;"⟩ ∈ Ts) (hsel : Cond.selects "[Ljava/lang/Object;" ⟨"java/lang/Object", "getClass", "()Ljava/lang/Class;"⟩ ⟨"java/lang/Object", "getClass", "()Ljava/lang/Class;"⟩ ∈ Ts) (hinst : Cond.instanceMethod ⟨"java/lang/Object", "getClass", "()Ljava/lang/Class;"⟩ ∈ Ts) (hnat : Cond.native ⟨"java/lang/Object", "getClass", "()Ljava/lang/Class;"⟩ ∈ Ts) (ha : a ∈ mL S ∧ mK S a = 8) (hfr : 1 ≤ R.frames) (hlo : (rest.map fun v => v.category).sum + 14 ≤ R.locals) (hdg : decode cc pc = .ok (.invokevirtual index, 3))
    (kk : W p l e R s m args below meth c H locs cells slots Q (F0 m (pc + 3) ls (.ref g.2.2.2.2.2.2 :: rest))) : W p l e R s m args below meth c H locs cells slots Q (F0 m pc ls (.ref a :: rest)) := by
  obtain ⟨q0, hq⟩ := mix g S ha.1
  rw [mE_8 g ha.2] at hq
  obtain ⟨hx, hb, hml, hown, hts⟩ := hC
  have hnm := va_nmO (hs.2.1.2 1 (g.2.2.2.1, .object "java/lang/Object") rfl).2 rfl
  exact va_getC hx hb (hml.trans hsz.symm) hown (hts _ hlink) (va_Dc.use hs.2.2.2.2.2.2.2.2.1) (hts _ hsel) (hts _ hinst) (hts _ hnat) hs.2.2.2.2.2.2.2.1 ⟨_, hH.1 q0 _ hq, rfl, hnm⟩ hfr hlo hdg kk
theorem m_ldcM {index : Nat} (hC : CallFix p m c cc nL s args Ts own) (hs : mX g s) (hlink : Cond.classLink own index "[Ljava/lang/Object;" ∈ Ts) (hdg : decode cc pc = .ok (.ldc index, 2))
    (kk : W p l e R s m args below meth c H locs cells slots Q (F0 m (pc + 2) ls (.ref g.2.2.2.2.2.2 :: rest))) : W p l e R s m args below meth c H locs cells slots Q (F0 m pc ls rest) :=
  va_ldcM hC.1 hC.2.1 hC.2.2.2.1 (hC.2.2.2.2 _ hlink) hs.2.2.2.2.2.2.2.1 hdg kk
theorem m_acmp_ne {x y tgt : Nat} {off : Int} (hC : CallFix p m c cc nL s args Ts own) (hdg : decode cc pc = .ok (.if_acmp .ne off, 3)) (ht : (pc : Int) + off = (tgt : Int)) (kt : ¬ x = y → W p l e R s m args below meth c H locs cells slots Q (F0 m tgt ls rest)) (kf : x = y → W p l e R s m args below meth c H locs cells slots Q (F0 m (pc + 3) ls rest)) : W p l e R s m args below meth c H locs cells slots Q (F0 m pc ls (.ref y :: .ref x :: rest)) :=
  lv_acmp_ne (rx := some x) (ry := some y) hC.1 hC.2.1 hdg ht (fun h => kt (fun e => h (congrArg some e))) (fun h => kf (Option.some.inj h))
theorem m_acmp_eq {x y tgt : Nat} {off : Int} (hC : CallFix p m c cc nL s args Ts own) (hdg : decode cc pc = .ok (.if_acmp .eq off, 3)) (ht : (pc : Int) + off = (tgt : Int)) (kt : x = y → W p l e R s m args below meth c H locs cells slots Q (F0 m tgt ls rest)) (kf : ¬ x = y → W p l e R s m args below meth c H locs cells slots Q (F0 m (pc + 3) ls rest)) : W p l e R s m args below meth c H locs cells slots Q (F0 m pc ls (.ref y :: .ref x :: rest)) :=
  lv_acmp_eq (rx := some x) (ry := some y) hC.1 hC.2.1 hdg ht (fun h => kt (Option.some.inj h)) (fun h => kf (fun e => h (congrArg some e)))
/-- the length of a list's array: the shared empty one, or one of the pool -/
def mLn (z : Nat × Nat) (S : mmS) (a : Nat) : Prop := a = z.1 ∨ (a ≠ z.1 ∧ a ∈ mL S ∧ mK S a = 8)
def mLen (z : Nat × Nat) (S : mmS) (a : Nat) : Int32 := if a = z.1 then 0 else nI (mN S a)
theorem m_alenQ {a : Nat} (hC : CallFix p m c cc nL s args Ts own) (hs : mX g s) (hH : mH g S s H locs) (ha : mLn g.2.2.2.2.2 S a) (hdg : decode cc pc = .ok (.arraylength, 1))
    (kk : W p l e R s m args below meth c H locs cells slots Q (F0 m (pc + 1) ls (.int (mLen g.2.2.2.2.2 S a) :: rest))) : W p l e R s m args below meth c H locs cells slots Q (F0 m pc ls (.ref a :: rest)) := by
  rcases ha with rfl | ⟨hne, ha⟩
  · refine m_alen0 hC hs hH hdg ?_
    unfold mLen at kk
    rw [if_pos rfl] at kk
    exact kk
  · refine m_alen hC hs hH ha (Or.inr rfl) hdg ?_
    unfold mLen at kk
    rw [if_neg hne] at kk
    exact kk
def mOb (S : mmS) (v : Nat) : Prop := v ∈ mL S ∧ mK S v < 7
theorem mOb_any {v : Nat} (hs : mX g s) (hH : mH g S s H locs) (h : mOb S v) : va_Any "java/lang/Object" s H v := by
  obtain ⟨h1, h2⟩ := h
  have h3 : mK S v = 0 ∨ mK S v = 1 ∨ mK S v = 2 ∨ mK S v = 3 ∨ mK S v = 4 ∨ mK S v = 5 ∨ mK S v = 6 := by omega
  rcases h3 with h3 | h3 | h3 | h3 | h3 | h3 | h3
  · exact m_any hs hH cs0 (by decide +kernel) ⟨h1, h3⟩
  · exact m_any hs hH cs1 (by decide +kernel) ⟨h1, h3⟩
  · exact m_any hs hH cs2 (by decide +kernel) ⟨h1, h3⟩
  · exact m_any hs hH cs3 (by decide +kernel) ⟨h1, h3⟩
  · exact m_any hs hH cs4 (by decide +kernel) ⟨h1, h3⟩
  · exact m_any hs hH cs5 (by decide +kernel) ⟨h1, h3⟩
  · exact m_any hs hH cs6 (by decide +kernel) ⟨h1, h3⟩
def mBo (v : Int32) : Prop := narrow .boolean (.int v) = .int v
theorem mkN {L : List Nat} {K : Nat → Nat} {a k q j : Nat} (h : a ∈ L ∧ K a = k) (hq : q ∉ L) : a ∈ L ++ [q] ∧ va_up K q j a = k := ⟨List.mem_append_left _ h.1, (va_up_ne (k := q) (j := a) K j (fun e => hq (by rw [← e]; exact h.1))).trans h.2⟩
theorem mkQ {L : List Nat} {K : Nat → Nat} {q j : Nat} : q ∈ L ++ [q] ∧ va_up K q j q = j := ⟨List.mem_append_right _ List.mem_cons_self, va_up_self _ _ _⟩
theorem m_switch {x : Int32} {lo hi dflt : Int} {offs : Array Int} {len : Nat} (hC : CallFix p m c cc nL s args Ts own) (hdg : decode cc pc = .ok (.tableswitch dflt lo hi offs, len)) (k1 : (x.toInt < lo ∨ hi < x.toInt) → W p l e R s m args below meth c H locs cells slots Q (F0 m pc ls (.int x :: rest))) (k2 : ¬ x.toInt < lo → ¬ hi < x.toInt → W p l e R s m args below meth c H locs cells slots Q (F0 m pc ls (.int x :: rest))) : W p l e R s m args below meth c H locs cells slots Q (F0 m pc ls (.int x :: rest)) := by
  by_cases h1 : x.toInt < lo
  · exact k1 (Or.inl h1)
  · by_cases h2 : hi < x.toInt
    · exact k1 (Or.inr h2)
    · exact k2 h1 h2
theorem m_cases4 {z : Int} (h1 : ¬ z < 0) (h2 : ¬ 3 < z) : z = 0 ∨ z = 1 ∨ z = 2 ∨ z = 3 := by omega
theorem m_cases25 {z : Int} (h1 : ¬ z < 0) (h2 : ¬ 24 < z) : z = 0 ∨ z = 1 ∨ z = 2 ∨ z = 3 ∨ z = 4 ∨ z = 5 ∨ z = 6 ∨ z = 7 ∨ z = 8 ∨ z = 9 ∨ z = 10 ∨ z = 11 ∨ z = 12 ∨ z = 13 ∨ z = 14 ∨ z = 15 ∨ z = 16 ∨ z = 17 ∨ z = 18 ∨ z = 19 ∨ z = 20 ∨ z = 21 ∨ z = 22 ∨ z = 23 ∨ z = 24 := by omega
theorem df0 : ∀ j, j < 6 → defaultValue (tyX0 j) = vp_V ((mFl 0).map (fun q => if q.1 then .null else .int 0)) j := by decide +kernel
theorem df1 : ∀ j, j < 9 → defaultValue (tyX1 j) = vp_V ((mFl 1).map (fun q => if q.1 then .null else .int 0)) j := by decide +kernel
theorem df2 : ∀ j, j < 6 → defaultValue (tyX2 j) = vp_V ((mFl 2).map (fun q => if q.1 then .null else .int 0)) j := by decide +kernel
theorem df3 : ∀ j, j < 8 → defaultValue (tyX3 j) = vp_V ((mFl 3).map (fun q => if q.1 then .null else .int 0)) j := by decide +kernel
theorem df4 : ∀ j, j < 7 → defaultValue (tyX4 j) = vp_V ((mFl 4).map (fun q => if q.1 then .null else .int 0)) j := by decide +kernel
theorem df5 : ∀ j, j < 6 → defaultValue (tyX0 j) = vp_V ((mFl 5).map (fun q => if q.1 then .null else .int 0)) j := by decide +kernel
theorem df6 : ∀ j, j < 3 → defaultValue (tyJx4a65c j) = vp_V ((mFl 6).map (fun q => if q.1 then .null else .int 0)) j := by decide +kernel
theorem m_min {x y : Int32} {index : Nat} (hC : CallFix p m c cc nL s args Ts own) (hsz : ls.size = nL) (hlink : Cond.methodLink own index Lib.Math.min.name ∈ Ts) (hstat : Cond.static Lib.Math.min.name ∈ Ts) (hini : Cond.initialized "java/lang/Math" ∈ Ts) (hcode : Cond.code Lib.Math.min.name Lib.Math.min.code 2 (some .int) ∈ Ts) (hfr : 1 ≤ R.frames) (hlo : (rest.map fun v => v.category).sum + 13 ≤ R.locals) (hc : cells ≤ R.cells) (hsl : slots ≤ R.slots) (hdg : decode cc pc = .ok (.invokestatic index, 3))
    (kk : W p l e R s m args below meth c H locs cells slots Q (F0 m (pc + 3) ls (.int (if y < x then y else x) :: rest))) : W p l e R s m args below meth c H locs cells slots Q (F0 m pc ls (.int y :: .int x :: rest)) :=
  va_mmin hC.1 hC.2.1 (hC.2.2.1.trans hsz.symm) hC.2.2.2.1 (hC.2.2.2.2 _ hlink) (hC.2.2.2.2 _ hstat) (hC.2.2.2.2 _ hini) (hC.2.2.2.2 _ hcode) hfr hlo hc hsl hdg kk
theorem m_max {x y : Int32} {index : Nat} (hC : CallFix p m c cc nL s args Ts own) (hsz : ls.size = nL) (hlink : Cond.methodLink own index Lib.Math.max.name ∈ Ts) (hstat : Cond.static Lib.Math.max.name ∈ Ts) (hini : Cond.initialized "java/lang/Math" ∈ Ts) (hcode : Cond.code Lib.Math.max.name Lib.Math.max.code 2 (some .int) ∈ Ts) (hfr : 1 ≤ R.frames) (hlo : (rest.map fun v => v.category).sum + 13 ≤ R.locals) (hc : cells ≤ R.cells) (hsl : slots ≤ R.slots) (hdg : decode cc pc = .ok (.invokestatic index, 3))
    (kk : W p l e R s m args below meth c H locs cells slots Q (F0 m (pc + 3) ls (.int (if x < y then y else x) :: rest))) : W p l e R s m args below meth c H locs cells slots Q (F0 m pc ls (.int y :: .int x :: rest)) :=
  va_mmax hC.1 hC.2.1 (hC.2.2.1.trans hsz.symm) hC.2.2.2.1 (hC.2.2.2.2 _ hlink) (hC.2.2.2.2 _ hstat) (hC.2.2.2.2 _ hini) (hC.2.2.2.2 _ hcode) hfr hlo hc hsl hdg kk
theorem m_objInit {a index : Nat} (hC : CallFix p m c cc nL s args Ts own) (hsz : ls.size = nL) (hlink : Cond.methodLink own index objectInit ∈ Ts) (hinst : Cond.instanceMethod objectInit ∈ Ts) (hcode : Cond.code objectInit ⟨#[0xb1]⟩ 1 none ∈ Ts) (hfr : 1 ≤ R.frames) (hlo : (rest.map fun v => v.category).sum + 12 ≤ R.locals) (hdg : decode cc pc = .ok (.invokespecial index, 3))
    (kk : W p l e R s m args below meth c H locs cells slots Q (F0 m (pc + 3) ls rest)) : W p l e R s m args below meth c H locs cells slots Q (F0 m pc ls (.ref a :: rest)) :=
  W.objInit hC.1 hC.2.1 hC.2.2.2.1 (hC.2.2.2.2 _ hlink) (hC.2.2.2.2 _ hinst) (hC.2.2.2.2 _ hcode) rfl (by rw [hC.2.2.1]; exact hsz) rfl hdg hfr (by show 2 * 0 + _ + 12 ≤ _; omega) kk
end MROWS
/-- a contract: from the world of S, with the answer (and the world behind it) as Q1 says, or a throw as X1 says -/
abbrev mMi (l : Launch) (g : mG) (y : MethodName) (ws : List Cond) (rm : Room) (As : List Value) (S : mmS) (Q1 : Int32 → mmS → Prop) (X1 : String → mmS → Prop) : Prop := vx_Met l y ws rm (va_Pc As (wI g S)) (va_Qi Q1 (wO g) (mB g)) (vx_X (fun _ : mmS => True) (fun E S1 t => X1 E S1 ∧ wO g S1 t) (mB g)) rm.cells rm.slots (mB g)
/-- a contract: from the world of S, with the answer (and the world behind it) as Q1 says, or a throw as X1 says -/
abbrev mMl (l : Launch) (g : mG) (y : MethodName) (ws : List Cond) (rm : Room) (As : List Value) (S : mmS) (Q1 : Int64 → mmS → Prop) (X1 : String → mmS → Prop) : Prop := vx_Met l y ws rm (va_Pc As (wI g S)) (va_Ql Q1 (wO g) (mB g)) (vx_X (fun _ : mmS => True) (fun E S1 t => X1 E S1 ∧ wO g S1 t) (mB g)) rm.cells rm.slots (mB g)
/-- a contract: from the world of S, with the answer (and the world behind it) as Q1 says, or a throw as X1 says -/
abbrev mMd (l : Launch) (g : mG) (y : MethodName) (ws : List Cond) (rm : Room) (As : List Value) (S : mmS) (Q1 : UInt64 → mmS → Prop) (X1 : String → mmS → Prop) : Prop := vx_Met l y ws rm (va_Pc As (wI g S)) (va_Qd Q1 (wO g) (mB g)) (vx_X (fun _ : mmS => True) (fun E S1 t => X1 E S1 ∧ wO g S1 t) (mB g)) rm.cells rm.slots (mB g)
/-- a contract: from the world of S, with the answer (and the world behind it) as Q1 says, or a throw as X1 says -/
abbrev mMv (l : Launch) (g : mG) (y : MethodName) (ws : List Cond) (rm : Room) (As : List Value) (S : mmS) (Q1 : mmS → Prop) (X1 : String → mmS → Prop) : Prop := vx_Met l y ws rm (va_Pc As (wI g S)) (va_Qv Q1 (wO g) (mB g)) (vx_X (fun _ : mmS => True) (fun E S1 t => X1 E S1 ∧ wO g S1 t) (mB g)) rm.cells rm.slots (mB g)
/-- a contract: from the world of S, with the answer (and the world behind it) as Q1 says, or a throw as X1 says -/
abbrev mMq (l : Launch) (g : mG) (y : MethodName) (ws : List Cond) (rm : Room) (As : List Value) (S : mmS) (Q1 : Nat → mmS → Prop) (X1 : String → mmS → Prop) : Prop := vx_Met l y ws rm (va_Pc As (wI g S)) (va_Qq (fun (r : Option Nat) (S1 : mmS) => ∃ b, r = some b ∧ Q1 b S1) (wO g) (mB g)) (vx_X (fun _ : mmS => True) (fun E S1 t => X1 E S1 ∧ wO g S1 t) (mB g)) rm.cells rm.slots (mB g)
section MCALL
variable {p : Program} {l : Launch} {e : Env} {R : Room} {s : State} {m : MethodId} {args : Array Value} {below : List Frame} {meth : Method} {c : Code} {H : Heap} {locs : List Loc} {cells slots : Nat} {Q : State → Prop}
variable {cc bytes : ByteArray} {nL pc n maxL index : Nat} {ls : Array Slot} {rest st As : List Value} {Ts ws : List Cond} {own C : String} {g : mG} {S : mmS} {y : MethodName} {rm : Room} {ret : Option FieldType} {X1 : String → mmS → Prop}
theorem m_pcbl {As : List Value} : FrameBlind (va_Pc As (wI g S)) := fun a U f mk h => ⟨h.1, wI_bl h.2⟩
theorem m_back {S1 : mmS} {t : State} {H1 : Heap} {locs1 : List Loc} (ht : t.heap = H1) (hO : wO g S1 t) (hS : va_S (mB g) s.heap H1 locs1) : mH g S1 s H1 locs1 := by
  unfold wO at hO
  rw [ht] at hO
  exact ⟨hO.1, hO.2, hS⟩
theorem m_recv {b k : Nat} {T : u_T} {N : Nat} {ty : Nat → FieldType} (hs : mX g s) (hH : mH g S s H locs) (hcs : mCs k C T N ty) (hb : b ∈ mL S ∧ mK S b = k) : ∃ cell : Cell, H[b]? = some cell ∧ cell.vm.isStatics = false ∧ s.vm.findClass C = some cell.cls := by
  obtain ⟨q0, hq⟩ := mix g S hb.1
  rw [mE_o g hb.2 hcs.2.1] at hq
  exact va_recv hs.2.1 hH.1 hcs.1 hq
abbrev mKx (p : Program) (l : Launch) (e : Env) (R : Room) (s : State) (m : MethodId) (args : Array Value) (below : List Frame) (meth : Method) (c : Code) (cells slots : Nat) (Q : State → Prop) (g : mG) (X1 : String → mmS → Prop) (fr : JFrame) : Prop :=
  ∀ (E : String) (S1 : mmS) (H1 : Heap) (locs1 : List Loc) (ce : Cell) (q9 : Addr), X1 E S1 → mH g S1 s H1 locs1 → H1[q9]? = some ce → ce.vm = .none → s.vm.findClass E = some ce.cls → vx_W p l e R s m args below meth c H1 locs1 cells slots Q fr q9
theorem mKx_no {fr : JFrame} {k n : Nat} : mKx p l e R s m args below meth c k n Q g (fun _ _ => False) fr := fun _ _ _ _ _ _ h => h.elim
theorem m_callVi {Q1 : Int32 → mmS → Prop} (hC : CallFix p m c cc nL s args Ts own) (hs : mX g s) (hH : mH g S s H locs) (hsz : ls.size = nL) (cw : CallW R s args own C index y bytes maxL ret ws rm rm.cells rm.slots n) {b k : Nat} {T : u_T} {N : Nat} {ty : Nat → FieldType} (hcs : mCs k C T N ty) (hb : b ∈ mL S ∧ mK S b = k) (hM : mMi l g y ws rm (.ref b :: As) S Q1 X1) (hn : As.length = n) (hst : st = As.reverse ++ .ref b :: rest) (hW : (rest.map fun v => v.category).sum ≤ 8) (hdg : decode cc pc = .ok (.invokevirtual index, 3)) (hf : cells + rm.cells ≤ R.cells ∧ slots + rm.slots ≤ R.slots)
    (kx : mKx p l e R s m args below meth c (cells + rm.cells) (slots + rm.slots) Q g X1 (F0 m pc ls rest)) (kk : ∀ (r : Int32) (S1 : mmS) (H1 : Heap) (locs1 : List Loc), Q1 r S1 → mH g S1 s H1 locs1 → W p l e R s m args below meth c H1 locs1 (cells + rm.cells) (slots + rm.slots) Q (F0 m (pc + 3) ls (.int r :: rest))) : W p l e R s m args below meth c H locs cells slots Q (F0 m pc ls st) := by
  subst hst
  refine vx_calli (A1 := mB g) (AX := mB g) (vx_runV (As := As) (rest := rest) hC hM cw ⟨m_pcbl, m_recv hs hH hcs hb, fun U hU hW => ⟨rfl, wI_in hs hH hU hW⟩⟩ rfl hn hsz rfl (lv_room hW) hdg hf) hH.2.2 (fun _ _ h => h) (fun _ h => h) (fun _ _ h => h) (fun E ce q9 S1 t H1 locs1 ht hvm _ hx hz hk hS hce hcv hcl => kx E S1 H1 locs1 ce q9 hx.1 (m_back ht hx.2 hS) hce hcv hcl) ?_
  exact fun r S1 t H1 locs1 ht hvm hp hO hz hk hS => kk r S1 H1 locs1 hp (m_back ht hO hS)
theorem m_callSi {Q1 : Int32 → mmS → Prop} (hC : CallFix p m c cc nL s args Ts own) (hs : mX g s) (hH : mH g S s H locs) (hsz : ls.size = nL) (cw : CallB R s args own index y bytes maxL ret ws rm rm.cells rm.slots n ∧ (Cond.static y).before args s = true) (hM : mMi l g y ws rm (As) S Q1 X1) (hn : As.length = n) (hst : st = As.reverse ++ rest) (hW : (rest.map fun v => v.category).sum ≤ 8) (hdg : decode cc pc = .ok (.invokestatic index, 3)) (hf : cells + rm.cells ≤ R.cells ∧ slots + rm.slots ≤ R.slots)
    (kx : mKx p l e R s m args below meth c (cells + rm.cells) (slots + rm.slots) Q g X1 (F0 m pc ls rest)) (kk : ∀ (r : Int32) (S1 : mmS) (H1 : Heap) (locs1 : List Loc), Q1 r S1 → mH g S1 s H1 locs1 → W p l e R s m args below meth c H1 locs1 (cells + rm.cells) (slots + rm.slots) Q (F0 m (pc + 3) ls (.int r :: rest))) : W p l e R s m args below meth c H locs cells slots Q (F0 m pc ls st) := by
  subst hst
  refine vx_calli (A1 := mB g) (AX := mB g) (vx_runS (As := As) (rest := rest) hC hM cw ⟨m_pcbl, fun U hU hW => ⟨rfl, wI_in hs hH hU hW⟩⟩ rfl hn hsz rfl (lv_room hW) hdg hf) hH.2.2 (fun _ _ h => h) (fun _ h => h) (fun _ _ h => h) (fun E ce q9 S1 t H1 locs1 ht hvm _ hx hz hk hS hce hcv hcl => kx E S1 H1 locs1 ce q9 hx.1 (m_back ht hx.2 hS) hce hcv hcl) ?_
  exact fun r S1 t H1 locs1 ht hvm hp hO hz hk hS => kk r S1 H1 locs1 hp (m_back ht hO hS)
theorem m_callXi {Q1 : Int32 → mmS → Prop} (hC : CallFix p m c cc nL s args Ts own) (hs : mX g s) (hH : mH g S s H locs) (hsz : ls.size = nL) {hh : List (Nat × Nat × Nat × Nat)} (cw : vx_CSW R s args own index y bytes maxL ret hh ws rm rm.cells rm.slots n) (hM : mMi l g y ws rm (As) S Q1 X1) (hn : As.length = n) (hst : st = As.reverse ++ rest) (hW : (rest.map fun v => v.category).sum ≤ 8) (hdg : decode cc pc = .ok (.invokestatic index, 3)) (hf : cells + rm.cells ≤ R.cells ∧ slots + rm.slots ≤ R.slots)
    (kx : mKx p l e R s m args below meth c (cells + rm.cells) (slots + rm.slots) Q g X1 (F0 m pc ls rest)) (kk : ∀ (r : Int32) (S1 : mmS) (H1 : Heap) (locs1 : List Loc), Q1 r S1 → mH g S1 s H1 locs1 → W p l e R s m args below meth c H1 locs1 (cells + rm.cells) (slots + rm.slots) Q (F0 m (pc + 3) ls (.int r :: rest))) : W p l e R s m args below meth c H locs cells slots Q (F0 m pc ls st) := by
  subst hst
  refine vx_calli (A1 := mB g) (AX := mB g) (vx_runSX (As := As) (rest := rest) hC hM cw ⟨m_pcbl, fun U hU hW => ⟨rfl, wI_in hs hH hU hW⟩⟩ rfl hn hsz rfl (lv_room hW) hdg hf) hH.2.2 (fun _ _ h => h) (fun _ h => h) (fun _ _ h => h) (fun E ce q9 S1 t H1 locs1 ht hvm _ hx hz hk hS hce hcv hcl => kx E S1 H1 locs1 ce q9 hx.1 (m_back ht hx.2 hS) hce hcv hcl) ?_
  exact fun r S1 t H1 locs1 ht hvm hp hO hz hk hS => kk r S1 H1 locs1 hp (m_back ht hO hS)
theorem m_callVl {Q1 : Int64 → mmS → Prop} (hC : CallFix p m c cc nL s args Ts own) (hs : mX g s) (hH : mH g S s H locs) (hsz : ls.size = nL) (cw : CallW R s args own C index y bytes maxL ret ws rm rm.cells rm.slots n) {b k : Nat} {T : u_T} {N : Nat} {ty : Nat → FieldType} (hcs : mCs k C T N ty) (hb : b ∈ mL S ∧ mK S b = k) (hM : mMl l g y ws rm (.ref b :: As) S Q1 X1) (hn : As.length = n) (hst : st = As.reverse ++ .ref b :: rest) (hW : (rest.map fun v => v.category).sum ≤ 8) (hdg : decode cc pc = .ok (.invokevirtual index, 3)) (hf : cells + rm.cells ≤ R.cells ∧ slots + rm.slots ≤ R.slots)
    (kx : mKx p l e R s m args below meth c (cells + rm.cells) (slots + rm.slots) Q g X1 (F0 m pc ls rest)) (kk : ∀ (r : Int64) (S1 : mmS) (H1 : Heap) (locs1 : List Loc), Q1 r S1 → mH g S1 s H1 locs1 → W p l e R s m args below meth c H1 locs1 (cells + rm.cells) (slots + rm.slots) Q (F0 m (pc + 3) ls (.long r :: rest))) : W p l e R s m args below meth c H locs cells slots Q (F0 m pc ls st) := by
  subst hst
  refine vx_calll (A1 := mB g) (AX := mB g) (vx_runV (As := As) (rest := rest) hC hM cw ⟨m_pcbl, m_recv hs hH hcs hb, fun U hU hW => ⟨rfl, wI_in hs hH hU hW⟩⟩ rfl hn hsz rfl (lv_room hW) hdg hf) hH.2.2 (fun _ _ h => h) (fun _ h => h) (fun _ _ h => h) (fun E ce q9 S1 t H1 locs1 ht hvm _ hx hz hk hS hce hcv hcl => kx E S1 H1 locs1 ce q9 hx.1 (m_back ht hx.2 hS) hce hcv hcl) ?_
  exact fun r S1 t H1 locs1 ht hvm hp hO hz hk hS => kk r S1 H1 locs1 hp (m_back ht hO hS)
theorem m_callSl {Q1 : Int64 → mmS → Prop} (hC : CallFix p m c cc nL s args Ts own) (hs : mX g s) (hH : mH g S s H locs) (hsz : ls.size = nL) (cw : CallB R s args own index y bytes maxL ret ws rm rm.cells rm.slots n ∧ (Cond.static y).before args s = true) (hM : mMl l g y ws rm (As) S Q1 X1) (hn : As.length = n) (hst : st = As.reverse ++ rest) (hW : (rest.map fun v => v.category).sum ≤ 8) (hdg : decode cc pc = .ok (.invokestatic index, 3)) (hf : cells + rm.cells ≤ R.cells ∧ slots + rm.slots ≤ R.slots)
    (kx : mKx p l e R s m args below meth c (cells + rm.cells) (slots + rm.slots) Q g X1 (F0 m pc ls rest)) (kk : ∀ (r : Int64) (S1 : mmS) (H1 : Heap) (locs1 : List Loc), Q1 r S1 → mH g S1 s H1 locs1 → W p l e R s m args below meth c H1 locs1 (cells + rm.cells) (slots + rm.slots) Q (F0 m (pc + 3) ls (.long r :: rest))) : W p l e R s m args below meth c H locs cells slots Q (F0 m pc ls st) := by
  subst hst
  refine vx_calll (A1 := mB g) (AX := mB g) (vx_runS (As := As) (rest := rest) hC hM cw ⟨m_pcbl, fun U hU hW => ⟨rfl, wI_in hs hH hU hW⟩⟩ rfl hn hsz rfl (lv_room hW) hdg hf) hH.2.2 (fun _ _ h => h) (fun _ h => h) (fun _ _ h => h) (fun E ce q9 S1 t H1 locs1 ht hvm _ hx hz hk hS hce hcv hcl => kx E S1 H1 locs1 ce q9 hx.1 (m_back ht hx.2 hS) hce hcv hcl) ?_
  exact fun r S1 t H1 locs1 ht hvm hp hO hz hk hS => kk r S1 H1 locs1 hp (m_back ht hO hS)
theorem m_callVd {Q1 : UInt64 → mmS → Prop} (hC : CallFix p m c cc nL s args Ts own) (hs : mX g s) (hH : mH g S s H locs) (hsz : ls.size = nL) (cw : CallW R s args own C index y bytes maxL ret ws rm rm.cells rm.slots n) {b k : Nat} {T : u_T} {N : Nat} {ty : Nat → FieldType} (hcs : mCs k C T N ty) (hb : b ∈ mL S ∧ mK S b = k) (hM : mMd l g y ws rm (.ref b :: As) S Q1 X1) (hn : As.length = n) (hst : st = As.reverse ++ .ref b :: rest) (hW : (rest.map fun v => v.category).sum ≤ 8) (hdg : decode cc pc = .ok (.invokevirtual index, 3)) (hf : cells + rm.cells ≤ R.cells ∧ slots + rm.slots ≤ R.slots)
    (kx : mKx p l e R s m args below meth c (cells + rm.cells) (slots + rm.slots) Q g X1 (F0 m pc ls rest)) (kk : ∀ (r : UInt64) (S1 : mmS) (H1 : Heap) (locs1 : List Loc), Q1 r S1 → mH g S1 s H1 locs1 → W p l e R s m args below meth c H1 locs1 (cells + rm.cells) (slots + rm.slots) Q (F0 m (pc + 3) ls (.double r :: rest))) : W p l e R s m args below meth c H locs cells slots Q (F0 m pc ls st) := by
  subst hst
  refine vx_calld (A1 := mB g) (AX := mB g) (vx_runV (As := As) (rest := rest) hC hM cw ⟨m_pcbl, m_recv hs hH hcs hb, fun U hU hW => ⟨rfl, wI_in hs hH hU hW⟩⟩ rfl hn hsz rfl (lv_room hW) hdg hf) hH.2.2 (fun _ _ h => h) (fun _ h => h) (fun _ _ h => h) (fun E ce q9 S1 t H1 locs1 ht hvm _ hx hz hk hS hce hcv hcl => kx E S1 H1 locs1 ce q9 hx.1 (m_back ht hx.2 hS) hce hcv hcl) ?_
  exact fun r S1 t H1 locs1 ht hvm hp hO hz hk hS => kk r S1 H1 locs1 hp (m_back ht hO hS)
theorem m_callSd {Q1 : UInt64 → mmS → Prop} (hC : CallFix p m c cc nL s args Ts own) (hs : mX g s) (hH : mH g S s H locs) (hsz : ls.size = nL) (cw : CallB R s args own index y bytes maxL ret ws rm rm.cells rm.slots n ∧ (Cond.static y).before args s = true) (hM : mMd l g y ws rm (As) S Q1 X1) (hn : As.length = n) (hst : st = As.reverse ++ rest) (hW : (rest.map fun v => v.category).sum ≤ 8) (hdg : decode cc pc = .ok (.invokestatic index, 3)) (hf : cells + rm.cells ≤ R.cells ∧ slots + rm.slots ≤ R.slots)
    (kx : mKx p l e R s m args below meth c (cells + rm.cells) (slots + rm.slots) Q g X1 (F0 m pc ls rest)) (kk : ∀ (r : UInt64) (S1 : mmS) (H1 : Heap) (locs1 : List Loc), Q1 r S1 → mH g S1 s H1 locs1 → W p l e R s m args below meth c H1 locs1 (cells + rm.cells) (slots + rm.slots) Q (F0 m (pc + 3) ls (.double r :: rest))) : W p l e R s m args below meth c H locs cells slots Q (F0 m pc ls st) := by
  subst hst
  refine vx_calld (A1 := mB g) (AX := mB g) (vx_runS (As := As) (rest := rest) hC hM cw ⟨m_pcbl, fun U hU hW => ⟨rfl, wI_in hs hH hU hW⟩⟩ rfl hn hsz rfl (lv_room hW) hdg hf) hH.2.2 (fun _ _ h => h) (fun _ h => h) (fun _ _ h => h) (fun E ce q9 S1 t H1 locs1 ht hvm _ hx hz hk hS hce hcv hcl => kx E S1 H1 locs1 ce q9 hx.1 (m_back ht hx.2 hS) hce hcv hcl) ?_
  exact fun r S1 t H1 locs1 ht hvm hp hO hz hk hS => kk r S1 H1 locs1 hp (m_back ht hO hS)
theorem m_callVv {Q1 : mmS → Prop} (hC : CallFix p m c cc nL s args Ts own) (hs : mX g s) (hH : mH g S s H locs) (hsz : ls.size = nL) (cw : CallW R s args own C index y bytes maxL ret ws rm rm.cells rm.slots n) {b k : Nat} {T : u_T} {N : Nat} {ty : Nat → FieldType} (hcs : mCs k C T N ty) (hb : b ∈ mL S ∧ mK S b = k) (hM : mMv l g y ws rm (.ref b :: As) S Q1 X1) (hn : As.length = n) (hst : st = As.reverse ++ .ref b :: rest) (hW : (rest.map fun v => v.category).sum ≤ 8) (hdg : decode cc pc = .ok (.invokevirtual index, 3)) (hf : cells + rm.cells ≤ R.cells ∧ slots + rm.slots ≤ R.slots)
    (kx : mKx p l e R s m args below meth c (cells + rm.cells) (slots + rm.slots) Q g X1 (F0 m pc ls rest)) (kk : ∀ (S1 : mmS) (H1 : Heap) (locs1 : List Loc), Q1 S1 → mH g S1 s H1 locs1 → W p l e R s m args below meth c H1 locs1 (cells + rm.cells) (slots + rm.slots) Q (F0 m (pc + 3) ls rest)) : W p l e R s m args below meth c H locs cells slots Q (F0 m pc ls st) := by
  subst hst
  refine vx_callv (A1 := mB g) (AX := mB g) (vx_runV (As := As) (rest := rest) hC hM cw ⟨m_pcbl, m_recv hs hH hcs hb, fun U hU hW => ⟨rfl, wI_in hs hH hU hW⟩⟩ rfl hn hsz rfl (lv_room hW) hdg hf) hH.2.2 (fun _ _ h => h) (fun _ h => h) (fun _ _ h => h) (fun E ce q9 S1 t H1 locs1 ht hvm _ hx hz hk hS hce hcv hcl => kx E S1 H1 locs1 ce q9 hx.1 (m_back ht hx.2 hS) hce hcv hcl) ?_
  exact fun S1 t H1 locs1 ht hvm hp hO hz hk hS => kk S1 H1 locs1 hp (m_back ht hO hS)
theorem m_callSv {Q1 : mmS → Prop} (hC : CallFix p m c cc nL s args Ts own) (hs : mX g s) (hH : mH g S s H locs) (hsz : ls.size = nL) (cw : CallB R s args own index y bytes maxL ret ws rm rm.cells rm.slots n ∧ (Cond.static y).before args s = true) (hM : mMv l g y ws rm (As) S Q1 X1) (hn : As.length = n) (hst : st = As.reverse ++ rest) (hW : (rest.map fun v => v.category).sum ≤ 8) (hdg : decode cc pc = .ok (.invokestatic index, 3)) (hf : cells + rm.cells ≤ R.cells ∧ slots + rm.slots ≤ R.slots)
    (kx : mKx p l e R s m args below meth c (cells + rm.cells) (slots + rm.slots) Q g X1 (F0 m pc ls rest)) (kk : ∀ (S1 : mmS) (H1 : Heap) (locs1 : List Loc), Q1 S1 → mH g S1 s H1 locs1 → W p l e R s m args below meth c H1 locs1 (cells + rm.cells) (slots + rm.slots) Q (F0 m (pc + 3) ls rest)) : W p l e R s m args below meth c H locs cells slots Q (F0 m pc ls st) := by
  subst hst
  refine vx_callv (A1 := mB g) (AX := mB g) (vx_runS (As := As) (rest := rest) hC hM cw ⟨m_pcbl, fun U hU hW => ⟨rfl, wI_in hs hH hU hW⟩⟩ rfl hn hsz rfl (lv_room hW) hdg hf) hH.2.2 (fun _ _ h => h) (fun _ h => h) (fun _ _ h => h) (fun E ce q9 S1 t H1 locs1 ht hvm _ hx hz hk hS hce hcv hcl => kx E S1 H1 locs1 ce q9 hx.1 (m_back ht hx.2 hS) hce hcv hcl) ?_
  exact fun S1 t H1 locs1 ht hvm hp hO hz hk hS => kk S1 H1 locs1 hp (m_back ht hO hS)
theorem m_callIv {Q1 : mmS → Prop} (hC : CallFix p m c cc nL s args Ts own) (hs : mX g s) (hH : mH g S s H locs) (hsz : ls.size = nL) (cw : CallB R s args own index y bytes maxL none ws rm rm.cells rm.slots n ∧ y.name = "<init>" ∧ (Cond.instanceMethod y).before args s = true) {b : Nat} (hM : mMv l g y ws rm (.ref b :: As) S Q1 X1) (hn : As.length = n) (hst : st = As.reverse ++ .ref b :: rest) (hW : (rest.map fun v => v.category).sum ≤ 8) (hdg : decode cc pc = .ok (.invokespecial index, 3)) (hf : cells + rm.cells ≤ R.cells ∧ slots + rm.slots ≤ R.slots)
    (kx : mKx p l e R s m args below meth c (cells + rm.cells) (slots + rm.slots) Q g X1 (F0 m pc ls rest)) (kk : ∀ (S1 : mmS) (H1 : Heap) (locs1 : List Loc), Q1 S1 → mH g S1 s H1 locs1 → W p l e R s m args below meth c H1 locs1 (cells + rm.cells) (slots + rm.slots) Q (F0 m (pc + 3) ls rest)) : W p l e R s m args below meth c H locs cells slots Q (F0 m pc ls st) := by
  subst hst
  refine vx_callv (A1 := mB g) (AX := mB g) (vx_runI (As := As) (rest := rest) (b := b) hC hM cw ⟨m_pcbl, fun U hU hW => ⟨rfl, wI_in hs hH hU hW⟩⟩ rfl hn hsz rfl (lv_room hW) hdg hf) hH.2.2 (fun _ _ h => h) (fun _ h => h) (fun _ _ h => h) (fun E ce q9 S1 t H1 locs1 ht hvm _ hx hz hk hS hce hcv hcl => kx E S1 H1 locs1 ce q9 hx.1 (m_back ht hx.2 hS) hce hcv hcl) ?_
  exact fun S1 t H1 locs1 ht hvm hp hO hz hk hS => kk S1 H1 locs1 hp (m_back ht hO hS)
theorem m_callVq {Q1 : Nat → mmS → Prop} (hC : CallFix p m c cc nL s args Ts own) (hs : mX g s) (hH : mH g S s H locs) (hsz : ls.size = nL) (cw : CallW R s args own C index y bytes maxL ret ws rm rm.cells rm.slots n) {b k : Nat} {T : u_T} {N : Nat} {ty : Nat → FieldType} (hcs : mCs k C T N ty) (hb : b ∈ mL S ∧ mK S b = k) (hM : mMq l g y ws rm (.ref b :: As) S Q1 X1) (hn : As.length = n) (hst : st = As.reverse ++ .ref b :: rest) (hW : (rest.map fun v => v.category).sum ≤ 8) (hdg : decode cc pc = .ok (.invokevirtual index, 3)) (hf : cells + rm.cells ≤ R.cells ∧ slots + rm.slots ≤ R.slots)
    (kx : mKx p l e R s m args below meth c (cells + rm.cells) (slots + rm.slots) Q g X1 (F0 m pc ls rest)) (kk : ∀ (r : Nat) (S1 : mmS) (H1 : Heap) (locs1 : List Loc), Q1 r S1 → mH g S1 s H1 locs1 → W p l e R s m args below meth c H1 locs1 (cells + rm.cells) (slots + rm.slots) Q (F0 m (pc + 3) ls (.ref r :: rest))) : W p l e R s m args below meth c H locs cells slots Q (F0 m pc ls st) := by
  subst hst
  refine vx_callq (A1 := mB g) (AX := mB g) (vx_runV (As := As) (rest := rest) hC hM cw ⟨m_pcbl, m_recv hs hH hcs hb, fun U hU hW => ⟨rfl, wI_in hs hH hU hW⟩⟩ rfl hn hsz rfl (lv_room hW) hdg hf) hH.2.2 (fun _ _ h => h) (fun _ h => h) (fun _ _ h => h) (fun E ce q9 S1 t H1 locs1 ht hvm _ hx hz hk hS hce hcv hcl => kx E S1 H1 locs1 ce q9 hx.1 (m_back ht hx.2 hS) hce hcv hcl) ?_
  intro r S1 t H1 locs1 ht hvm hp hO hz hk hS
  obtain ⟨b, rfl, hq⟩ := hp
  exact kk b S1 H1 locs1 hq (m_back ht hO hS)
theorem m_callSq {Q1 : Nat → mmS → Prop} (hC : CallFix p m c cc nL s args Ts own) (hs : mX g s) (hH : mH g S s H locs) (hsz : ls.size = nL) (cw : CallB R s args own index y bytes maxL ret ws rm rm.cells rm.slots n ∧ (Cond.static y).before args s = true) (hM : mMq l g y ws rm (As) S Q1 X1) (hn : As.length = n) (hst : st = As.reverse ++ rest) (hW : (rest.map fun v => v.category).sum ≤ 8) (hdg : decode cc pc = .ok (.invokestatic index, 3)) (hf : cells + rm.cells ≤ R.cells ∧ slots + rm.slots ≤ R.slots)
    (kx : mKx p l e R s m args below meth c (cells + rm.cells) (slots + rm.slots) Q g X1 (F0 m pc ls rest)) (kk : ∀ (r : Nat) (S1 : mmS) (H1 : Heap) (locs1 : List Loc), Q1 r S1 → mH g S1 s H1 locs1 → W p l e R s m args below meth c H1 locs1 (cells + rm.cells) (slots + rm.slots) Q (F0 m (pc + 3) ls (.ref r :: rest))) : W p l e R s m args below meth c H locs cells slots Q (F0 m pc ls st) := by
  subst hst
  refine vx_callq (A1 := mB g) (AX := mB g) (vx_runS (As := As) (rest := rest) hC hM cw ⟨m_pcbl, fun U hU hW => ⟨rfl, wI_in hs hH hU hW⟩⟩ rfl hn hsz rfl (lv_room hW) hdg hf) hH.2.2 (fun _ _ h => h) (fun _ h => h) (fun _ _ h => h) (fun E ce q9 S1 t H1 locs1 ht hvm _ hx hz hk hS hce hcv hcl => kx E S1 H1 locs1 ce q9 hx.1 (m_back ht hx.2 hS) hce hcv hcl) ?_
  intro r S1 t H1 locs1 ht hvm hp hO hz hk hS
  obtain ⟨b, rfl, hq⟩ := hp
  exact kk b S1 H1 locs1 hq (m_back ht hO hS)
/-- a throw out of a call, not caught here -/
theorem m_out {k n mc ms : Nat} {Qc : Array Value → State → Outcome → State → Prop} (hnx : ∀ x ∈ c.exceptionTable.toList, covers x pc = false) (hlk : meth.locks = false) (h1 : k ≤ mc) (h2 : n ≤ ms) : mKx p l e R s m args below meth c k n (vx_MQ below Qc (vx_X (fun _ : mmS => True) (fun E S1 t => X1 E S1 ∧ wO g S1 t) (mB g)) args s mc ms (mB g)) g X1 (F0 m pc ls rest) := by
  intro E S1 H1 locs1 ce q9 hx hH hce hcv hcl
  refine vx_out hnx hlk hce hcv hcl (fun t ht hW => ⟨S1, trivial, ⟨hx, ?_⟩, hH.2.2.F ht⟩) hH.2.2.2.2 h1 h2
  unfold wO
  rw [ht]
  exact ⟨hH.1, hH.2.1⟩
theorem m_reti {v : Int32} {mc ms : Nat} {Q1 : Int32 → mmS → Prop} {XC : String → State → State → Prop} (hC : CallFix p m c cc nL s args Ts own) (hH : mH g S s H locs) {ft : FieldType} (hr : meth.sig.returnType = some ft) (hn : narrow ft (.int v) = .int v) (hlk : meth.locks = false) (h1 : cells ≤ mc) (h2 : slots ≤ ms) (hdg : decode cc pc = .ok (.ireturn, 1)) (hq : Q1 v S) : W p l e R s m args below meth c H locs cells slots (vx_MQ below (va_Qi Q1 (wO g) (mB g)) XC args s mc ms (mB g)) (F0 m pc ls [.int v]) := by
  refine W.widen h1 h2 (vx_ret ?_)
  exact W.zret hC.1 hC.2.1 hr hn (fun t ht hW => ⟨⟨v, S, rfl, hq, by unfold wO; rw [ht]; exact ⟨hH.1, hH.2.1⟩⟩, hH.2.2.F ht⟩) hH.2.2.2.2 hdg hlk
theorem m_retl {v : Int64} {mc ms : Nat} {Q1 : Int64 → mmS → Prop} {XC : String → State → State → Prop} (hC : CallFix p m c cc nL s args Ts own) (hH : mH g S s H locs) (hr : meth.sig.returnType = some .long) (hlk : meth.locks = false) (h1 : cells ≤ mc) (h2 : slots ≤ ms) (hdg : decode cc pc = .ok (.lreturn, 1)) (hq : Q1 v S) : W p l e R s m args below meth c H locs cells slots (vx_MQ below (va_Ql Q1 (wO g) (mB g)) XC args s mc ms (mB g)) (F0 m pc ls [.long v]) := by
  refine W.widen h1 h2 (vx_ret ?_)
  exact W.lret hC.1 hC.2.1 hr (fun t ht hW => ⟨⟨v, S, rfl, hq, by unfold wO; rw [ht]; exact ⟨hH.1, hH.2.1⟩⟩, hH.2.2.F ht⟩) hH.2.2.2.2 hdg hlk
theorem m_retd {v : UInt64} {mc ms : Nat} {Q1 : UInt64 → mmS → Prop} {XC : String → State → State → Prop} (hC : CallFix p m c cc nL s args Ts own) (hH : mH g S s H locs) (hr : meth.sig.returnType = some .double) (hlk : meth.locks = false) (h1 : cells ≤ mc) (h2 : slots ≤ ms) (hdg : decode cc pc = .ok (.dreturn, 1)) (hq : Q1 v S) : W p l e R s m args below meth c H locs cells slots (vx_MQ below (va_Qd Q1 (wO g) (mB g)) XC args s mc ms (mB g)) (F0 m pc ls [.double v]) := by
  refine W.widen h1 h2 (vx_ret ?_)
  exact W.dret hC.1 hC.2.1 hr (fun t ht hW => ⟨⟨v, S, rfl, hq, by unfold wO; rw [ht]; exact ⟨hH.1, hH.2.1⟩⟩, hH.2.2.F ht⟩) hH.2.2.2.2 hdg hlk
theorem m_retv {mc ms : Nat} {Q1 : mmS → Prop} {XC : String → State → State → Prop} (hC : CallFix p m c cc nL s args Ts own) (hH : mH g S s H locs) (hr : meth.sig.returnType = none) (hlk : meth.locks = false) (h1 : cells ≤ mc) (h2 : slots ≤ ms) (hdg : decode cc pc = .ok (.return_, 1)) (hq : Q1 S) : W p l e R s m args below meth c H locs cells slots (vx_MQ below (va_Qv Q1 (wO g) (mB g)) XC args s mc ms (mB g)) (F0 m pc ls []) := by
  refine W.widen h1 h2 (vx_ret ?_)
  exact W.vret hC.1 hC.2.1 hr (fun t ht hW => ⟨⟨S, rfl, hq, by unfold wO; rw [ht]; exact ⟨hH.1, hH.2.1⟩⟩, hH.2.2.F ht⟩) hH.2.2.2.2 hdg hlk
theorem m_retq {b mc ms : Nat} {rt : FieldType} {Q1 : Nat → mmS → Prop} {XC : String → State → State → Prop} (hC : CallFix p m c cc nL s args Ts own) (hH : mH g S s H locs) (hr : meth.sig.returnType = some rt) (hrt : (∃ n, rt = .object n) ∨ ∃ t, rt = .array t) (hlk : meth.locks = false) (h1 : cells ≤ mc) (h2 : slots ≤ ms) (hdg : decode cc pc = .ok (.areturn, 1)) (hq : Q1 b S) : W p l e R s m args below meth c H locs cells slots (vx_MQ below (va_Qq (fun (r : Option Nat) (S1 : mmS) => ∃ b, r = some b ∧ Q1 b S1) (wO g) (mB g)) XC args s mc ms (mB g)) (F0 m pc ls [.ref b]) := by
  refine W.widen h1 h2 (vx_ret ?_)
  exact W.aret hC.1 hC.2.1 hr hrt (Or.inr ⟨b, rfl⟩) (fun t ht hW => ⟨⟨some b, S, rfl, ⟨b, rfl, hq⟩, by unfold wO; rw [ht]; exact ⟨hH.1, hH.2.1⟩⟩, hH.2.2.F ht⟩) hH.2.2.2.2 hdg hlk
/-- a contract out of a walk of the body -/
theorem m_of {ws' : List Cond} {Qc : Array Value → State → Outcome → State → Prop} {XC : String → State → State → Prop} (hy : plainName y.cls = true) (hw : ws = Cond.code y cc maxL ret :: ws') (hn : (lg_sl As).length ≤ maxL)
    (body : ∀ (p : Program) (e : Env) (s : State) (m : MethodId) (args : Array Value) (below : List Frame) (meth : Method) (c : Code) (ls : Array Slot), CallFix p m c cc maxL s args ws y.cls → meth.sig.returnType = ret → meth.locks = false → meth.name = y.name → (∀ x ∈ c.exceptionTable.toList, False) → mX g s → mH g S s s.heap [] → lv_has ls maxL (lv_args 0 As) → W p l e rm s m args below meth c s.heap [] 0 0 (vx_MQ below Qc XC args s rm.cells rm.slots (mB g)) (F0 m 0 ls [])) : vx_Met l y ws rm (va_Pc As (wI g S)) Qc XC rm.cells rm.slots (mB g) := by
  refine vx_ofW (cc := cc) (maxL := maxL) (ret := ret) hy hw ?_
  intro p e s m args below meth c s₁ B hml hnx hv
  obtain ⟨rfl, hX, hP, hD⟩ := hv
  have hts := atoms_spec (ws := ws) B.pre
  have hown : s.vm.findClass y.cls = some m.cls := findClass_of_methodNamed B.named
  have hl := lv_entry As (n := maxL) hn
  rw [lg_entry_eq]
  generalize (lg_sl As ++ List.replicate (maxL - (lg_sl As).length) Slot.unset).toArray = ls at hl ⊢
  exact body p e s m _ below meth c ls ⟨B.exec, B.bytes, hml, hown, hts⟩ B.returns B.notSynchronized (name_of_methodNamed B.named B.method).1 hnx hX ⟨hP, hD, va_S.rf⟩ hl
theorem m_ofH {ws' : List Cond} {hh : List (Nat × Nat × Nat × Nat)} {Qc : Array Value → State → Outcome → State → Prop} {XC : String → State → State → Prop} (hy : plainName y.cls = true) (hw : ws = Cond.codeWith y cc maxL ret hh :: ws') (hn : (lg_sl As).length ≤ maxL)
    (body : ∀ (p : Program) (e : Env) (s : State) (m : MethodId) (args : Array Value) (below : List Frame) (meth : Method) (c : Code) (ls : Array Slot), CallFix p m c cc maxL s args ws y.cls → meth.sig.returnType = ret → meth.locks = false → meth.name = y.name → c.exceptionTable.toList = tableOf hh → mX g s → mH g S s s.heap [] → lv_has ls maxL (lv_args 0 As) → W p l e rm s m args below meth c s.heap [] 0 0 (vx_MQ below Qc XC args s rm.cells rm.slots (mB g)) (F0 m 0 ls [])) : vx_Met l y ws rm (va_Pc As (wI g S)) Qc XC rm.cells rm.slots (mB g) := by
  refine vx_ofWH (cc := cc) (maxL := maxL) (ret := ret) (hh := hh) hy hw ?_
  intro p e s m args below meth c s₁ B hml hv
  obtain ⟨rfl, hX, hP, hD⟩ := hv
  have hts := atoms_spec (ws := ws) B.pre
  have hown : s.vm.findClass y.cls = some m.cls := findClass_of_methodNamed B.named
  have hnx : c.exceptionTable.toList = tableOf hh := vx_table (x := y) B (hts (Cond.codeWith y cc maxL ret hh) (by rw [hw]; exact List.mem_cons_self))
  have hl := lv_entry As (n := maxL) hn
  rw [lg_entry_eq]
  generalize (lg_sl As ++ List.replicate (maxL - (lg_sl As).length) Slot.unset).toArray = ls at hl ⊢
  exact body p e s m _ below meth c ls ⟨B.exec, B.bytes, hml, hown, hts⟩ B.returns B.notSynchronized (name_of_methodNamed B.named B.method).1 hnx hX ⟨hP, hD, va_S.rf⟩ hl
end MCALL
abbrev wA_ (y : MethodName) (cc : ByteArray) (n : Nat) (r : Option FieldType) : List Cond := Cond.code y cc n r :: wsL_law
abbrev wAh_ (y : MethodName) (cc : ByteArray) (n : Nat) (r : Option FieldType) (hh : List (Nat × Nat × Nat × Nat)) : List Cond := Cond.codeWith y cc n r hh :: wsL_law
theorem wA_good : wsL_law.all goodWord = true := by decide +kernel
theorem wA_gw : ∀ w ∈ wsL_law, ((w.onTables && w.keeps) = true ∨ ∃ ty, w = .arrayClass ty) := fun w h => good_of_word (List.all_eq_true.mp wA_good w h)
theorem gA1 {w0 : Cond} {ws : List Cond} (h : ∀ w ∈ ws, w ∈ wsL_law) : GoodIn (w0 :: wsL_law) ws := fun w hw => ⟨List.mem_cons_of_mem _ (h w hw), wA_gw w (h w hw)⟩
theorem gA0 {w0 : Cond} {y : MethodName} {b : ByteArray} {n : Nat} {r : Option FieldType} (h5 : Cond.code y b n r ∈ wsL_law) : GoodIn (w0 :: wsL_law) (wA_ y b n r) := gA1 (List.forall_mem_cons.mpr ⟨h5, fun _ h => h⟩)
theorem gA_V {w0 : Cond} {own C : String} {idx : Nat} {y : MethodName} {b : ByteArray} {n : Nat} {r : Option FieldType} (h1 : Cond.methodLink own idx y ∈ wsL_law) (h2 : Cond.instanceMethod y ∈ wsL_law) (h3 : Cond.selects C y y ∈ wsL_law) (h4 : Cond.initialized C ∈ wsL_law) (h5 : Cond.code y b n r ∈ wsL_law) : GoodIn (w0 :: wsL_law) (wsV own idx C y (wA_ y b n r)) := goodIn_app (gA1 (List.forall_mem_cons.mpr ⟨h1, List.forall_mem_cons.mpr ⟨h2, List.forall_mem_cons.mpr ⟨h3, List.forall_mem_cons.mpr ⟨h4, fun _ h => absurd h List.not_mem_nil⟩⟩⟩⟩)) (gA0 h5)
theorem gA_S {w0 : Cond} {own : String} {idx : Nat} {y : MethodName} {b : ByteArray} {n : Nat} {r : Option FieldType} (h1 : Cond.methodLink own idx y ∈ wsL_law) (h2 : Cond.static y ∈ wsL_law) (h4 : Cond.initialized y.cls ∈ wsL_law) (h5 : Cond.code y b n r ∈ wsL_law) : GoodIn (w0 :: wsL_law) (va_wsS own idx y (wA_ y b n r)) := goodIn_app (gA1 (List.forall_mem_cons.mpr ⟨h1, List.forall_mem_cons.mpr ⟨h2, List.forall_mem_cons.mpr ⟨h4, fun _ h => absurd h List.not_mem_nil⟩⟩⟩)) (gA0 h5)
theorem gA_SW {w0 : Cond} {own : String} {idx : Nat} {y : MethodName} {b : ByteArray} {n : Nat} {r : Option FieldType} {hh : List (Nat × Nat × Nat × Nat)} (h1 : Cond.methodLink own idx y ∈ wsL_law) (h2 : Cond.static y ∈ wsL_law) (h4 : Cond.initialized y.cls ∈ wsL_law) (h5 : Cond.codeWith y b n r hh ∈ wsL_law) : GoodIn (w0 :: wsL_law) (va_wsS own idx y (wAh_ y b n r hh)) := goodIn_app (gA1 (List.forall_mem_cons.mpr ⟨h1, List.forall_mem_cons.mpr ⟨h2, List.forall_mem_cons.mpr ⟨h4, fun _ h => absurd h List.not_mem_nil⟩⟩⟩)) (gA1 (List.forall_mem_cons.mpr ⟨h5, fun _ h => h⟩))
