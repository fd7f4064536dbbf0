/-! THE START: what the Statement gives at the law's entry is what the walk wants (mX) -/
theorem st_cast : ∀ q ∈ mCa, Cond.castable q.1 q.2 ∈ lw_tbl := by decide +kernel
theorem st_tab : ∀ w ∈ [Cond.arrayClass .int, Cond.arrayOver (.object "java/lang/Object"), Cond.declares ⟨"java/lang/Object", "getClass", "()Ljava/lang/Class;"⟩, Cond.laysStatic "java/util/ArrayList" "DEFAULTCAPACITY_EMPTY_ELEMENTDATA" "[Ljava/lang/Object;", Cond.initialized "java/util/ArrayList", Cond.instantiable RX0 6, Cond.instantiable RX1 9, Cond.instantiable RX2 6, Cond.instantiable RX3 8, Cond.instantiable RX4 7, Cond.instantiable RJx4a65c 3], w ∈ lw_tbl := by decide +kernel
theorem st_nar : ∀ w ∈ [Cond.arrayOf (.static "java/util/ArrayList" "DEFAULTCAPACITY_EMPTY_ELEMENTDATA" "[Ljava/lang/Object;") (.object "java/lang/Object"), Cond.eq (.length (.static "java/util/ArrayList" "DEFAULTCAPACITY_EMPTY_ELEMENTDATA" "[Ljava/lang/Object;")) (.int 0), Cond.isRef (.mirror "[Ljava/lang/Object;")], w ∈ flatC (Jvm.Cond.and given_1 narrow_1) := by decide +kernel
theorem st_arrI {args : Array Value} {s : State} (h : (Cond.arrayClass .int).before args s = true) : ∃ c : ClassId, ArrOfT s c .int ∧ va_RA s c .int := by
  obtain ⟨c, k, comp, h1, h2, h3⟩ := Cond.arrayClass_spec h
  exact ⟨c, fun n z => ⟨fun k h => (by cases h), k, h2, comp, h3⟩, h1⟩
theorem st_arrQ {args : Array Value} {s : State} {C : String} (h : (Cond.arrayOver (.object C)).before args s = true) : ∃ c : ClassId, ArrOfT s c (.object C) ∧ va_RA s c (.object C) := by
  obtain ⟨comp, c, k, h1, h2, h3, h4, h5⟩ := Cond.arrayOver_spec h
  exact ⟨c, fun n z => ⟨fun k h => (by cases h), k, h3, comp, h4⟩, k, comp, h3, h4, h1, h5⟩
theorem st_mX {s : State} {b L : Nat} {xs : Nat → Int32} (hts : ∀ w ∈ lw_tbl, w.before #[Value.ref b] s = true) (hgv : (Jvm.Cond.and given_1 narrow_1).before #[Value.ref b] s = true) (hX : va_X b L xs s s.heap) (hbl : b < s.heap.size) : ∃ g : mG, g.1 = s.heap.size ∧ g.2.2.2.2.1 = (b, L, xs) ∧ mX g s := by
  have hf : ∀ w ∈ flatC (Jvm.Cond.and given_1 narrow_1), w.before #[Value.ref b] s = true := flat_of_before _ hgv
  have ht : ∀ (w : Cond), w ∈ [Cond.arrayClass .int, Cond.arrayOver (.object "java/lang/Object"), Cond.declares ⟨"java/lang/Object", "getClass", "()Ljava/lang/Class;"⟩, Cond.laysStatic "java/util/ArrayList" "DEFAULTCAPACITY_EMPTY_ELEMENTDATA" "[Ljava/lang/Object;", Cond.initialized "java/util/ArrayList", Cond.instantiable RX0 6, Cond.instantiable RX1 9, Cond.instantiable RX2 6, Cond.instantiable RX3 8, Cond.instantiable RX4 7, Cond.instantiable RJx4a65c 3] → w.before #[Value.ref b] s = true := fun w hw => hts w (st_tab w hw)
  have hn : ∀ (w : Cond), w ∈ [Cond.arrayOf (.static "java/util/ArrayList" "DEFAULTCAPACITY_EMPTY_ELEMENTDATA" "[Ljava/lang/Object;") (.object "java/lang/Object"), Cond.eq (.length (.static "java/util/ArrayList" "DEFAULTCAPACITY_EMPTY_ELEMENTDATA" "[Ljava/lang/Object;")) (.int 0), Cond.isRef (.mirror "[Ljava/lang/Object;")] → w.before #[Value.ref b] s = true := fun w hw => hf w (st_nar w hw)
  have t := List.forall_mem_cons.mp ht
  have t1 := t.1
  have t := List.forall_mem_cons.mp t.2
  have t3 := t.1
  have t := List.forall_mem_cons.mp t.2
  have t4 := t.1
  have t := List.forall_mem_cons.mp t.2
  have t7 := t.1
  have t := List.forall_mem_cons.mp t.2
  have t9 := t.1
  have t := List.forall_mem_cons.mp t.2
  have j0 := t.1
  have t := List.forall_mem_cons.mp t.2
  have j1 := t.1
  have t := List.forall_mem_cons.mp t.2
  have j2 := t.1
  have t := List.forall_mem_cons.mp t.2
  have j3 := t.1
  have t := List.forall_mem_cons.mp t.2
  have j4 := t.1
  have t := List.forall_mem_cons.mp t.2
  have j6 := t.1
  have n := List.forall_mem_cons.mp hn
  have n3 := n.1
  have n := List.forall_mem_cons.mp n.2
  have n4 := n.1
  have n := List.forall_mem_cons.mp n.2
  have n5 := n.1
  clear ht hn t n
  have hA : ∀ a : Nat, a < s.heap.size → ¬ (fun q : Nat => s.heap.size ≤ q) a := fun a h => Nat.not_le.mpr h
  obtain ⟨c0, i0, k0⟩ := u_known (C := RX0) (T := TX0) (N := 6) (n := 6) hts inX0 j0
  obtain ⟨c1, i1, k1⟩ := u_known (C := RX1) (T := TX1) (N := 9) (n := 9) hts inX1 j1
  obtain ⟨c2, i2, k2⟩ := u_known (C := RX2) (T := TX2) (N := 6) (n := 6) hts inX2 j2
  obtain ⟨c3, i3, k3⟩ := u_known (C := RX3) (T := TX3) (N := 8) (n := 8) hts inX3 j3
  obtain ⟨c4, i4, k4⟩ := u_known (C := RX4) (T := TX4) (N := 7) (n := 7) hts inX4 j4
  obtain ⟨c6, i6, k6⟩ := u_known (C := RJx4a65c) (T := TJx4a65c) (N := 3) (n := 3) hts inJx4a65c j6
  obtain ⟨dC, dI, hKc⟩ : ∃ (dC : Nat → ClassId) (dI : Nat → Nat → Nat), ∀ (k : Nat) (q : vw_C), mCl[k]? = some q → u_Kn s q.1 q.2.1 q.2.2 (dC k) (dI k) := by
    refine ⟨fun k => if k = 0 then c0 else if k = 1 then c1 else if k = 2 then c2 else if k = 3 then c3 else if k = 4 then c4 else if k = 5 then c0 else c6, fun k => if k = 0 then i0 else if k = 1 then i1 else if k = 2 then i2 else if k = 3 then i3 else if k = 4 then i4 else if k = 5 then i0 else i6, ?_⟩
    intro k q hq
    match k, hq with
    | 0, hq => cases hq; exact k0
    | 1, hq => cases hq; exact k1
    | 2, hq => cases hq; exact k2
    | 3, hq => cases hq; exact k3
    | 4, hq => cases hq; exact k4
    | 5, hq => cases hq; exact k0
    | 6, hq => cases hq; exact k6
    | k + 7, hq => simp [mCl] at hq
  obtain ⟨cI, aI, rI⟩ := st_arrI t1
  obtain ⟨cQ, aQ, rQ⟩ := st_arrQ t3
  obtain ⟨ea, e1, e2⟩ := va_Tof (N := 0) (f := fun _ => .null) (A := fun q : Nat => s.heap.size ≤ q) (by decide) n3 (va_eqt n4) (fun j h => absurd h (Nat.not_lt_zero j)) hA
  obtain ⟨mi, e3⟩ := va_Mi.of n5
  refine ⟨(s.heap.size, (dC, dI), cI, cQ, (b, L, xs), (ea, mi)), rfl, rfl, Nat.le_refl _, ⟨hKc, ?_⟩, trivial, trivial, va_Zof t7 t9 e1 hA, e2, va_AO.of t3, e3, va_Dc.of t4, trivial, ?_, hX, hbl, hA b hbl⟩
  · intro k q hq
    match k, hq with
    | 0, hq => cases hq; exact ⟨aI, rI⟩
    | 1, hq => cases hq; exact ⟨aQ, rQ⟩
    | 2, hq => cases hq; exact ⟨aI, rI⟩
    | k + 3, hq => simp [mT] at hq
  · exact fun q hq => va_Nw.of rfl (hts _ (st_cast q hq))
