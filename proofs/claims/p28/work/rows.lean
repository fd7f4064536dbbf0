section
/-! the library's own, named first: a round reads it over the whole library then -/
theorem lb_mag (v : Int32) : (FP.i2d v).toNat % 2 ^ 63 < 1056 * 2 ^ 52 := Jvm.FP.Core.i2d_mag v
end
section
-- ===== PART A: goes FIRST, ahead of the names: the tables' words, and 'selects' of the private methods out of them =====
/-- a private method of a class that the tables say can be made, by its rows of tables_1 -/
def lw_okq (q : MethodName × Nat) : Prop := (q.1.cls ≠ "java/lang/invoke/MethodHandle" ∧ q.1.cls ≠ "java/lang/invoke/VarHandle") ∧ Cond.instantiable q.1.cls q.2 ∈ tables_1 ∧ Cond.privateMethod q.1 ∈ tables_1 ∧ Cond.instanceMethod q.1 ∈ tables_1
theorem lw_p0 : lw_okq (⟨"PhoneRater", "findLine", "(I)LPhoneRater$Line;"⟩, 7) := ⟨⟨by decide +kernel, by decide +kernel⟩, List.mem_of_getElem? (i := 22) (by decide +kernel), List.mem_of_getElem? (i := 82) (by decide +kernel), List.mem_of_getElem? (i := 83) (by decide +kernel)⟩
theorem lw_p1 : lw_okq (⟨"java/lang/Throwable", "fillInStackTrace", "(I)Ljava/lang/Throwable;"⟩, 6) := ⟨⟨by decide +kernel, by decide +kernel⟩, List.mem_of_getElem? (i := 128) (by decide +kernel), List.mem_of_getElem? (i := 126) (by decide +kernel), List.mem_of_getElem? (i := 127) (by decide +kernel)⟩
theorem lw_p2 : lw_okq (⟨"java/util/ArrayList", "add", "(Ljava/lang/Object;[Ljava/lang/Object;I)V"⟩, 3) := ⟨⟨by decide +kernel, by decide +kernel⟩, List.mem_of_getElem? (i := 30) (by decide +kernel), List.mem_of_getElem? (i := 260) (by decide +kernel), List.mem_of_getElem? (i := 261) (by decide +kernel)⟩
theorem lw_p3 : lw_okq (⟨"java/util/ArrayList", "grow", "()[Ljava/lang/Object;"⟩, 3) := ⟨⟨by decide +kernel, by decide +kernel⟩, List.mem_of_getElem? (i := 30) (by decide +kernel), List.mem_of_getElem? (i := 264) (by decide +kernel), List.mem_of_getElem? (i := 265) (by decide +kernel)⟩
theorem lw_p4 : lw_okq (⟨"java/util/ArrayList", "grow", "(I)[Ljava/lang/Object;"⟩, 3) := ⟨⟨by decide +kernel, by decide +kernel⟩, List.mem_of_getElem? (i := 30) (by decide +kernel), List.mem_of_getElem? (i := 268) (by decide +kernel), List.mem_of_getElem? (i := 269) (by decide +kernel)⟩
theorem lw_p5 : lw_okq (⟨"PhoneRater", "putInOrder", "(LPhoneRater$Call;)V"⟩, 7) := ⟨⟨by decide +kernel, by decide +kernel⟩, List.mem_of_getElem? (i := 22) (by decide +kernel), List.mem_of_getElem? (i := 312) (by decide +kernel), List.mem_of_getElem? (i := 313) (by decide +kernel)⟩
theorem lw_p6 : lw_okq (⟨"java/util/ArrayList", "rangeCheckForAdd", "(I)V"⟩, 3) := ⟨⟨by decide +kernel, by decide +kernel⟩, List.mem_of_getElem? (i := 30) (by decide +kernel), List.mem_of_getElem? (i := 320) (by decide +kernel), List.mem_of_getElem? (i := 321) (by decide +kernel)⟩
theorem lw_p7 : lw_okq (⟨"PhoneRater", "rateAll", "()V"⟩, 7) := ⟨⟨by decide +kernel, by decide +kernel⟩, List.mem_of_getElem? (i := 22) (by decide +kernel), List.mem_of_getElem? (i := 325) (by decide +kernel), List.mem_of_getElem? (i := 326) (by decide +kernel)⟩
theorem lw_p8 : lw_okq (⟨"PhoneRater", "rate", "(LPhoneRater$Call;)V"⟩, 7) := ⟨⟨by decide +kernel, by decide +kernel⟩, List.mem_of_getElem? (i := 22) (by decide +kernel), List.mem_of_getElem? (i := 342) (by decide +kernel), List.mem_of_getElem? (i := 343) (by decide +kernel)⟩
theorem lw_p9 : lw_okq (⟨"PhoneRater", "beginsInPeak", "(LPhoneRater$Call;)Z"⟩, 7) := ⟨⟨by decide +kernel, by decide +kernel⟩, List.mem_of_getElem? (i := 22) (by decide +kernel), List.mem_of_getElem? (i := 355) (by decide +kernel), List.mem_of_getElem? (i := 356) (by decide +kernel)⟩
theorem lw_p10 : lw_okq (⟨"PhoneRater", "findCall", "(I)LPhoneRater$Call;"⟩, 7) := ⟨⟨by decide +kernel, by decide +kernel⟩, List.mem_of_getElem? (i := 22) (by decide +kernel), List.mem_of_getElem? (i := 388) (by decide +kernel), List.mem_of_getElem? (i := 389) (by decide +kernel)⟩
theorem lw_p11 : lw_okq (⟨"PhoneRater", "findAccount", "(I)LPhoneRater$Account;"⟩, 7) := ⟨⟨by decide +kernel, by decide +kernel⟩, List.mem_of_getElem? (i := 22) (by decide +kernel), List.mem_of_getElem? (i := 415) (by decide +kernel), List.mem_of_getElem? (i := 416) (by decide +kernel)⟩
theorem lw_p12 : lw_okq (⟨"PhoneRater", "findTariff", "(I)LPhoneRater$Tariff;"⟩, 7) := ⟨⟨by decide +kernel, by decide +kernel⟩, List.mem_of_getElem? (i := 22) (by decide +kernel), List.mem_of_getElem? (i := 495) (by decide +kernel), List.mem_of_getElem? (i := 496) (by decide +kernel)⟩
def lw_privs_1 : List (MethodName × Nat) := [(⟨"PhoneRater", "findLine", "(I)LPhoneRater$Line;"⟩, 7), (⟨"java/lang/Throwable", "fillInStackTrace", "(I)Ljava/lang/Throwable;"⟩, 6), (⟨"java/util/ArrayList", "add", "(Ljava/lang/Object;[Ljava/lang/Object;I)V"⟩, 3), (⟨"java/util/ArrayList", "grow", "()[Ljava/lang/Object;"⟩, 3), (⟨"java/util/ArrayList", "grow", "(I)[Ljava/lang/Object;"⟩, 3), (⟨"PhoneRater", "putInOrder", "(LPhoneRater$Call;)V"⟩, 7), (⟨"java/util/ArrayList", "rangeCheckForAdd", "(I)V"⟩, 3), (⟨"PhoneRater", "rateAll", "()V"⟩, 7), (⟨"PhoneRater", "rate", "(LPhoneRater$Call;)V"⟩, 7), (⟨"PhoneRater", "beginsInPeak", "(LPhoneRater$Call;)Z"⟩, 7), (⟨"PhoneRater", "findCall", "(I)LPhoneRater$Call;"⟩, 7), (⟨"PhoneRater", "findAccount", "(I)LPhoneRater$Account;"⟩, 7), (⟨"PhoneRater", "findTariff", "(I)LPhoneRater$Tariff;"⟩, 7)]
theorem lw_r1 : ∀ q ∈ lw_privs_1, lw_okq q := List.forall_mem_cons.mpr ⟨lw_p0, List.forall_mem_cons.mpr ⟨lw_p1, List.forall_mem_cons.mpr ⟨lw_p2, List.forall_mem_cons.mpr ⟨lw_p3, List.forall_mem_cons.mpr ⟨lw_p4, List.forall_mem_cons.mpr ⟨lw_p5, List.forall_mem_cons.mpr ⟨lw_p6, List.forall_mem_cons.mpr ⟨lw_p7, List.forall_mem_cons.mpr ⟨lw_p8, List.forall_mem_cons.mpr ⟨lw_p9, List.forall_mem_cons.mpr ⟨lw_p10, List.forall_mem_cons.mpr ⟨lw_p11, List.forall_mem_cons.mpr ⟨lw_p12, fun _ h => absurd h List.not_mem_nil⟩⟩⟩⟩⟩⟩⟩⟩⟩⟩⟩⟩⟩
def lw_privs : List (MethodName × Nat) := lw_privs_1
def lw_tbl : List Cond := k2_sels lw_privs ++ tables_1
theorem lw_privs_ok : ∀ q ∈ lw_privs, lw_okq q := lw_r1
/-- the streams that the claim lets the run draw from -/
abbrev lw_cs : List Choice := [Jvm.Choice.named "NaN.bits"]
theorem lw_bits : nanBits ∈ lw_cs := by first | decide | exact List.mem_cons_self | simp [lw_cs, nanBits]
end
section
/-! ===== BEGIN words of one list among another's, by their places ===== -/
theorem goodIn_r {big : List Cond} (ws : List Cond) (ps : List Nat) (hp : ws = ps.filterMap (fun i => big[i]?)) (h : ws.all goodWord = true) : GoodIn big ws := by
  intro w hw
  have h1 := List.all_eq_true.mp h w hw
  rw [hp] at hw
  obtain ⟨i, -, hi⟩ := List.mem_filterMap.mp hw
  have hm : w ∈ big := by first | exact List.mem_of_getElem? hi | exact List.getElem?_mem hi
  exact ⟨hm, good_of_word h1⟩
theorem goodIn_app {big a b : List Cond} (ha : GoodIn big a) (hb : GoodIn big b) : GoodIn big (a ++ b) := fun w h => (List.mem_append.mp h).elim (ha w) (hb w)
theorem goodIn_ca {big a b : List Cond} {c : Cond} (ha : GoodIn big (c :: a)) (hb : GoodIn big b) : GoodIn big (c :: (a ++ b)) := fun w h => (List.mem_cons.mp h).elim (fun e => ha w (List.mem_cons.mpr (Or.inl e))) (fun h => (List.mem_append.mp h).elim (fun h => ha w (List.mem_cons.mpr (Or.inr h))) (hb w))
theorem goodIn_sub {big ws : List Cond} (hm : ∀ w ∈ ws, w ∈ big) (h : ws.all goodWord = true) : GoodIn big ws := fun w hw => ⟨hm w hw, good_of_word (List.all_eq_true.mp h w hw)⟩
/-! ===== END ===== -/

/-! ===== BEGIN exceptions that leave a method, and their catching by the caller (launches without stack traces) ===== -/
section VXA
/-! The laws vx_back, vx_callV, vx_callS, vx_callSW, vx_throw0, vx_throwS follow proofs of the library, with one case more: JvmDerived/Free/Laws.lean (Back.of_free), Shelf42/LK1.lean (callV, callS), Shelf/KitTraced.lean (throwNew0V, throwNewS). -/
/-- where a method has thrown q: the class by its name, the cell, what was written, the world -/
def vx_T (XC : String → State → State → Prop) (st : State) (q : Addr) (t : State) (mc ms : Nat) (free : Addr → Prop) : Prop :=
  ∃ (E : String) (ce : Cell) (L : List Loc), XC E st t ∧ t.heap[q]? = some ce ∧ ce.vm = .none ∧ st.vm.findClass E = some ce.cls ∧ st.WarmedH t.vm ∧ st.sameButNew ({ t with vm := st.vm } : State) L mc ms ∧ ∀ z ∈ L, free z.base
def vx_Q (Qc : Array Value → State → Outcome → State → Prop) (XC : String → State → State → Prop) (mc ms : Nat) (free : Addr → Prop) : Array Value → State → Outcome → State → Prop := fun a st o t =>
  (Qc a st o t ∧ ∃ L, FrameEnd st o t L mc ms ∧ ∀ q ∈ L, free q.base) ∨ ∃ q, o = .threw q ∧ vx_T XC st q t mc ms free
/-- a callee that returns or throws -/
def vx_Met (l : Launch) (y : MethodName) (ws : List Cond) (rm : Room) (Pc : Array Value → State → Prop) (Qc : Array Value → State → Outcome → State → Prop) (XC : String → State → State → Prop) (mc ms : Nat) (free : Addr → Prop) : Prop :=
  MetFree l y (headSpec ws rm) Pc (fun _ _ _ _ _ => True) (vx_Q Qc XC mc ms free)
def vx_Post (XC : String → State → State → Prop) (mc ms : Nat) (free : Addr → Prop) : Pt → Array Value → Addr → Pt → Prop := fun A a q B =>
  ∃ (g : JFrame) (mk : MethodId) (t : State) (L : List Loc) (E : String) (ce : Cell), B.U.heap = t.heap ∧ B.U.vm = t.vm ∧ XC E (A.U.calling g mk a) t ∧ t.heap[q]? = some ce ∧ ce.vm = .none ∧ A.U.vm.findClass E = some ce.cls ∧ B.locs = A.locs ++ L ∧ (∀ z ∈ L, free z.base) ∧ B.cells = A.cells + mc ∧ B.slots = A.slots + ms
def vx_Back (l : Launch) (R : Room) (p : Program) (e : Env) (below : List Frame) (s : State) (sargs : Array Value) (y : MethodName) (len W9 : Nat)
    (Pre : Pt → Array Value → Prop) (Post : Pt → Array Value → Option Value → Pt → Prop) (PostX : Pt → Array Value → Addr → Pt → Prop) : Prop :=
  ∀ (m : MethodId) (meth : Method) (c : Code) (A : Pt) (g : JFrame) (ig : Instr) (mk : MethodId) (a : Array Value),
    Stand p l e R s m sargs below meth c A.U A.locs A.cells A.slots → g.method = m → g.locals.size = c.maxLocals → decode c.code g.pc = .ok (ig, len) →
    2 * g.monitorRoom + (g.stack.map fun v => v.category).sum ≤ W9 → A.U.methodNamed? y = some mk → Pre A a →
    (∃ (v : Option Value) (B : Pt), Stand p l e R s m sargs below meth c B.U B.locs B.cells B.slots ∧ Post A a v B ∧
      Steps p.tables e below (doInvoke e (A.U.setTop g) [] mk a).1 (B.U.setTop { g with pc := g.pc + len, stack := v.toList ++ g.stack })) ∨
    (∃ (q : Addr) (B : Pt), Stand p l e R s m sargs below meth c B.U B.locs B.cells B.slots ∧ PostX A a q B ∧
      Steps p.tables e below (doInvoke e (A.U.setTop g) [] mk a).1 ((B.U.setTop g).pushFrame (.throwing q)))
section Payer
variable {l : Launch} {R : Room} {p : Program} {e : Env} {below : List Frame} {s : State} {sargs : Array Value} {y : MethodName} {len W9 : Nat}
theorem vx_back {ws : List Cond} {rm : Room} {Pc : Array Value → State → Prop} {Qc : Array Value → State → Outcome → State → Prop} {XC : String → State → State → Prop} {mc ms : Nat} {free : Addr → Prop} {bytes : ByteArray} {maxL : Nat} {ret : Option FieldType}
    (hM : vx_Met l y ws rm Pc Qc XC mc ms free) (hblind : FrameBlind Pc) (hrc : rm.cells = mc) (hrs : rm.slots = ms)
    (hframes : rm.frames + 1 ≤ R.frames) (hlocals : W9 + (maxL + 11) + rm.locals ≤ R.locals)
    (hws : ∀ w ∈ ws, ∀ a' U, s.WarmedH U.vm → w.before a' U = true) (hcode : Cond.code y bytes maxL ret ∈ ws) (hinit : ∀ a' U, s.WarmedH U.vm → (Cond.initialized y.cls).before a' U = true) :
    vx_Back l R p e below s sargs y len W9 (PreOf R mc ms Pc) (PostOf Qc mc ms free) (vx_Post XC mc ms free) := by
  intro m meth c A g ig mk a X hg hsize hdg hW hn hp
  have h1 : (headSpec ws rm).pre.before a A.U = true := atoms_intro fun w hw => hws w hw _ _ X.warmed
  have h2 : (Cond.code y bytes maxL ret).before a A.U = true := hws _ hcode _ _ X.warmed
  have h3 : (Cond.initialized y.cls).before a A.U = true := hinit _ _ X.warmed
  have h4 : A.cells + (headSpec ws rm).room.cells ≤ R.cells := by rw [show (headSpec ws rm).room.cells = mc from hrc]; exact hp.1
  have h5 : A.slots + (headSpec ws rm).room.slots ≤ R.slots := by rw [show (headSpec ws rm).room.slots = ms from hrs]; exact hp.2.1
  have hPc : Pc a (A.U.calling g mk a) := hblind _ _ _ _ hp.2.2
  obtain ⟨U, Ls, c0, s0⟩ := A
  dsimp only [Pt.U, Pt.locs, Pt.cells, Pt.slots] at h1 h2 h3 h4 h5 X hn hPc ⊢
  obtain ⟨methY, cY, hmY, hcY, -, hlY, -, -, -, -⟩ := Cond.code_spec hn h2
  obtain ⟨kY, hkY, -⟩ := className_of_methodNamed hn
  have hinitY : kY.init = .initialized := Cond.initialized_spec (findClass_of_methodNamed hn) hkY h3
  have h : At U g.method c below := by rw [hg]; exact X.here
  have hlocals9 : W9 + (maxL + 11) + (headSpec ws rm).room.locals ≤ R.locals := hlocals
  have happ : (headSpec ws rm).appliesLoose y e.platform (U.calling g mk a) = true :=
    Spec.appliesLoose_calling (g := g) h hdg hn hkY hinitY
      (X.room_calling (g := g) (R' := (headSpec ws rm).room) hsize hmY hcY hframes (by rw [hlY]; omega) h4 h5) h1
  obtain ⟨mid, hmid⟩ := h.above
  have hfr : (U.setTop g).frames = (.java g :: mid) ++ below := by rw [State.frames_setTop' g h.top, hmid]; rfl
  obtain ⟨o, s₂, hsteps, -, hend, hq⟩ := Steps.callFree hM p X.admits X.cas X.clock (acts := []) hfr happ hPc trivial
  have hq' : vx_Q Qc XC mc ms free a (U.calling g mk a) o s₂ := hq
  rw [State.frames_setTop' g h.top] at hend
  obtain ⟨g₀, hg0⟩ := Option.isSome_iff_exists.mp h.top
  obtain ⟨r, hr⟩ := State.topJava?_eq_some.mp hg0
  have hr' : (({ U with heap := s₂.heap, slotsUsed := s₂.slotsUsed } : State).setVm s₂.vm).frames = .java g₀ :: r := hr
  rcases hq' with ⟨hqc, L, hfe, hL⟩ | ⟨q, rfl, E, ce, L, hx, hce, hcv, hcl, hW₂, hsm, hL⟩
  · obtain ⟨⟨v, rfl⟩, hW₂, e2, q2, q3, q4, q5, q6⟩ := id hfe
    have e3 : s₂ = ({ (U.calling g mk a).setFrames s₂.frames with heap := s₂.heap, slotsUsed := s₂.slotsUsed } : State).setVm s₂.vm := by
      have : s₂ = ({ s₂ with vm := (U.calling g mk a).vm } : State).setVm s₂.vm := rfl
      rw [e2] at this
      exact this
    obtain ⟨c₂, i₂, len₂, hc₂, hd₂, hf₂⟩ := hend
    have hW' : U.WarmedH s₂.vm := hW₂
    have hcc : c₂ = c := by
      have h1 : s₂.code? g.method = U.code? g.method := by
        rw [State.code?_eq, State.code?_eq, hW'.alike.method?]
      exact Option.some.inj (hc₂.symm.trans (h1.trans h.code))
    subst hcc
    have hlen : len₂ = len := by rw [hdg] at hd₂; cases hd₂; rfl
    subst hlen
    have hs₂ : s₂ = (({ U with heap := s₂.heap, slotsUsed := s₂.slotsUsed } : State).setVm s₂.vm).setTop { g with pc := g.pc + len₂, stack := v.toList ++ g.stack } := by
      refine e3.trans ?_
      rw [hf₂, State.calling_eq h.top, State.setFrames_setFrames, State.setTop_of_frames _ hr', hr]
      rfl
    have hsame : U.sameButNew ({ U with heap := s₂.heap, slotsUsed := s₂.slotsUsed } : State) L mc ms := by
      refine ⟨?_, q2, q3, q4, q5, q6⟩
      obtain ⟨t, ht, -⟩ := State.frames_cons hr
      show ({ U with heap := s₂.heap, slotsUsed := s₂.slotsUsed } : State) = { U.setFrames U.frames with heap := s₂.heap, slotsUsed := s₂.slotsUsed }
      rw [State.setFrames_self ht]
    subst hg
    refine Or.inl ⟨v, ⟨(({ U with heap := s₂.heap, slotsUsed := s₂.slotsUsed } : State).setVm s₂.vm), Ls ++ L, c0 + mc, s0 + ms⟩,
      ⟨X.admits, X.cas, X.clock, X.frames, X.room, X.hears, X.method, X.code, (X.here.setHeapUsed s₂.heap s₂.slotsUsed).setVm hW'.alike, X.tail, State.WarmedH.trans X.warmed hW', X.limits, X.bytes, X.same.trans (hsame.setVm s.vm)⟩,
      ⟨g, mk, s₂, L, rfl, rfl, hqc, rfl, hL, rfl, rfl⟩, ?_⟩
    show Steps p.tables e below _ ((({ U with heap := s₂.heap, slotsUsed := s₂.slotsUsed } : State).setVm s₂.vm).setTop { g with pc := g.pc + len₂, stack := v.toList ++ g.stack })
    rw [← hs₂]
    exact hsteps
  · obtain ⟨e2, q2, q3, q4, q5, q6⟩ := id hsm
    have e3 : s₂ = ({ (U.calling g mk a).setFrames s₂.frames with heap := s₂.heap, slotsUsed := s₂.slotsUsed } : State).setVm s₂.vm := by
      have : s₂ = ({ s₂ with vm := (U.calling g mk a).vm } : State).setVm s₂.vm := rfl
      rw [e2] at this
      exact this
    have hf₂ : s₂.frames = .throwing q :: .java g :: U.frames.tail := hend
    have hW' : U.WarmedH s₂.vm := hW₂
    have hs₂ : s₂ = ((({ U with heap := s₂.heap, slotsUsed := s₂.slotsUsed } : State).setVm s₂.vm).setTop g).pushFrame (.throwing q) := by
      refine e3.trans ?_
      rw [hf₂, State.calling_eq h.top, State.setFrames_setFrames, State.pushFrame, State.frames_setTop _ hr', State.setTop_of_frames _ hr', State.setFrames_setFrames, hr]
      rfl
    have hsame : U.sameButNew ({ U with heap := s₂.heap, slotsUsed := s₂.slotsUsed } : State) L mc ms := by
      refine ⟨?_, q2, q3, q4, q5, q6⟩
      obtain ⟨t, ht, -⟩ := State.frames_cons hr
      show ({ U with heap := s₂.heap, slotsUsed := s₂.slotsUsed } : State) = { U.setFrames U.frames with heap := s₂.heap, slotsUsed := s₂.slotsUsed }
      rw [State.setFrames_self ht]
    subst hg
    refine Or.inr ⟨q, ⟨(({ U with heap := s₂.heap, slotsUsed := s₂.slotsUsed } : State).setVm s₂.vm), Ls ++ L, c0 + mc, s0 + ms⟩,
      ⟨X.admits, X.cas, X.clock, X.frames, X.room, X.hears, X.method, X.code, (X.here.setHeapUsed s₂.heap s₂.slotsUsed).setVm hW'.alike, X.tail, State.WarmedH.trans X.warmed hW', X.limits, X.bytes, X.same.trans (hsame.setVm s.vm)⟩,
      ⟨g, mk, s₂, L, E, ce, rfl, rfl, hx, hce, hcv, hcl, rfl, hL, rfl, rfl⟩, ?_⟩
    show Steps p.tables e below _ (((({ U with heap := s₂.heap, slotsUsed := s₂.slotsUsed } : State).setVm s₂.vm).setTop g).pushFrame (.throwing q))
    rw [← hs₂]
    exact hsteps
end Payer
section Calls
variable {p : Program} {l : Launch} {e : Env} {R : Room} {s : State} {m : MethodId} {args : Array Value} {below : List Frame} {meth : Method} {c : Code} {T : State} {locs : List Loc} {cells slots : Nat}
theorem vx_callV (X : Stand p l e R s m args below meth c T locs cells slots) (hexec : p.tables.exec = Jvm.exec) {own C : String} {index : Nat} {y : MethodName} {bytes : ByteArray} {maxL : Nat} {ret : Option FieldType}
    (hown : s.vm.findClass own = some m.cls) (hlink : (Cond.methodLink own index y).before args s = true) (hinst : (Cond.instanceMethod y).before args s = true) (hsel : (Cond.selects C y y).before args s = true)
    (hcode : (Cond.code y bytes maxL ret).before args s = true) (hy : y.cls ≠ "java/lang/invoke/MethodHandle" ∧ y.cls ≠ "java/lang/invoke/VarHandle")
    {W9 : Nat} {Pre : Pt → Array Value → Prop} {Post : Pt → Array Value → Option Value → Pt → Prop} {PostX : Pt → Array Value → Addr → Pt → Prop} (hK : vx_Back l R p e below s args y 3 W9 Pre Post PostX)
    {b : Addr} {cellB : Cell} (hcell : T.heap[b]? = some cellB) (hobj : cellB.vm.isStatics = false) (hcls : s.vm.findClass C = some cellB.cls)
    {g : JFrame} (hg : g.method = m) (hsize : g.locals.size = c.maxLocals) {argsL rest : List Value} (hlen : ∀ sig, parseMethodDescriptor y.desc = some sig → argsL.length = sig.parameters.length)
    (hstack : g.stack = argsL.reverse ++ .ref b :: rest) (hW : 2 * g.monitorRoom + (rest.map fun v => v.category).sum ≤ W9) (hdg : decode c.code g.pc = .ok (.invokevirtual index, 3))
    (hpre : ∀ vm₁, s.WarmedH vm₁ → Pre ⟨T.setVm vm₁, locs, cells, slots⟩ (Value.ref b :: argsL).toArray) :
    (∃ (v : Option Value) (vm₁ : Vm) (B : Pt), s.WarmedH vm₁ ∧ Stand p l e R s m args below meth c B.U B.locs B.cells B.slots ∧ Post ⟨T.setVm vm₁, locs, cells, slots⟩ (Value.ref b :: argsL).toArray v B ∧
      ∀ target, Steps p.tables e below (B.U.setTop { g with pc := g.pc + 3, stack := v.toList ++ rest }) target → Steps p.tables e below (T.setTop g) target) ∨
    (∃ (q : Addr) (vm₁ : Vm) (B : Pt), s.WarmedH vm₁ ∧ Stand p l e R s m args below meth c B.U B.locs B.cells B.slots ∧ PostX ⟨T.setVm vm₁, locs, cells, slots⟩ (Value.ref b :: argsL).toArray q B ∧
      Steps p.tables e below (T.setTop g) ((B.U.setTop { g with stack := rest }).pushFrame (.throwing q))) := by
  obtain ⟨mk, methM, hnamed, hmethM, hstM, habM⟩ := Cond.instanceMethod_spec hinst
  obtain ⟨methM', cM, hmethM', -, -, -, -, -, -, hsigM⟩ := Cond.code_spec hnamed hcode
  cases hmethM.symm.trans hmethM'
  obtain ⟨c2, r2, m2, q1, q2, q3, q4, kP, hkP, hkPi⟩ := Cond.selects_spec hsel
  cases hcls.symm.trans q1
  cases (State.methodFound?_of_named hnamed hy).symm.trans q2
  cases hnamed.symm.trans q3
  have hselP : selectMethod e.platform s.vm cellB.cls mk = .method mk := by rw [Launch.admits_selectMethod X.admits]; exact q4
  obtain ⟨vm₁, X₁, hstep₁⟩ := X.invokevirtual hexec hown hlink hnamed hmethM hstM hkP hkPi hy (a := b) (cell := cellB) hcell
    (fun z h => by rw [h] at hobj; cases hobj) hselP hmethM habM hkP hkPi (g := g) hg (argsL := argsL) (rest := rest) (hlen _ hsigM) hstack hdg
  rcases hK m meth c ⟨T.setVm vm₁, locs, cells, slots⟩ { g with stack := rest } (.invokevirtual index) mk (Value.ref b :: argsL).toArray X₁ hg hsize hdg hW (X₁.named hnamed) (hpre vm₁ X₁.warmed) with ⟨v, B, X', hpost, hsteps⟩ | ⟨q, B, X', hpost, hsteps⟩
  · exact Or.inl ⟨v, vm₁, B, X₁.warmed, X', hpost, fun target h => hstep₁ _ fun acts => by rw [doInvoke_state]; exact hsteps.trans h⟩
  · exact Or.inr ⟨q, vm₁, B, X₁.warmed, X', hpost, hstep₁ _ fun acts => by rw [doInvoke_state]; exact hsteps⟩
theorem vx_callS (X : Stand p l e R s m args below meth c T locs cells slots) (hexec : p.tables.exec = Jvm.exec) {own : String} {index : Nat} {y : MethodName} {bytes : ByteArray} {maxL : Nat} {ret : Option FieldType}
    (hown : s.vm.findClass own = some m.cls) (hlink : (Cond.methodLink own index y).before args s = true) (hstat : (Cond.static y).before args s = true) (hinit : (Cond.initialized y.cls).before args s = true)
    (hcode : (Cond.code y bytes maxL ret).before args s = true) (hy : y.cls ≠ "java/lang/invoke/MethodHandle" ∧ y.cls ≠ "java/lang/invoke/VarHandle")
    {W9 : Nat} {Pre : Pt → Array Value → Prop} {Post : Pt → Array Value → Option Value → Pt → Prop} {PostX : Pt → Array Value → Addr → Pt → Prop} (hK : vx_Back l R p e below s args y 3 W9 Pre Post PostX)
    {g : JFrame} (hg : g.method = m) (hsize : g.locals.size = c.maxLocals) {argsL rest : List Value} (hlen : ∀ sig, parseMethodDescriptor y.desc = some sig → argsL.length = sig.parameters.length)
    (hstack : g.stack = argsL.reverse ++ rest) (hW : 2 * g.monitorRoom + (rest.map fun v => v.category).sum ≤ W9) (hdg : decode c.code g.pc = .ok (.invokestatic index, 3))
    (hpre : ∀ vm₁, s.WarmedH vm₁ → Pre ⟨T.setVm vm₁, locs, cells, slots⟩ argsL.toArray) :
    (∃ (v : Option Value) (vm₁ : Vm) (B : Pt), s.WarmedH vm₁ ∧ Stand p l e R s m args below meth c B.U B.locs B.cells B.slots ∧ Post ⟨T.setVm vm₁, locs, cells, slots⟩ argsL.toArray v B ∧
      ∀ target, Steps p.tables e below (B.U.setTop { g with pc := g.pc + 3, stack := v.toList ++ rest }) target → Steps p.tables e below (T.setTop g) target) ∨
    (∃ (q : Addr) (vm₁ : Vm) (B : Pt), s.WarmedH vm₁ ∧ Stand p l e R s m args below meth c B.U B.locs B.cells B.slots ∧ PostX ⟨T.setVm vm₁, locs, cells, slots⟩ argsL.toArray q B ∧
      Steps p.tables e below (T.setTop g) ((B.U.setTop { g with stack := rest }).pushFrame (.throwing q))) := by
  obtain ⟨mk, hnamed⟩ := Cond.code_named hcode
  obtain ⟨methM, cM, hmethM, -, -, -, -, -, -, hsigM⟩ := Cond.code_spec hnamed hcode
  have hstatic : methM.isStatic = true := Cond.static_spec hnamed hmethM hstat
  obtain ⟨kP, hkP, -⟩ := className_of_methodNamed hnamed
  have hinitP : kP.init = .initialized := Cond.initialized_spec (findClass_of_methodNamed hnamed) hkP hinit
  obtain ⟨vm₁, X₁, hstep₁⟩ := X.invokestatic hexec hown hlink hnamed hmethM hstatic hkP hinitP hy (g := g) hg (argsL := argsL) (rest := rest) (hlen _ hsigM) hstack hdg
  rcases hK m meth c ⟨T.setVm vm₁, locs, cells, slots⟩ { g with stack := rest } (.invokestatic index) mk argsL.toArray X₁ hg hsize hdg hW (X₁.named hnamed) (hpre vm₁ X₁.warmed) with ⟨v, B, X', hpost, hsteps⟩ | ⟨q, B, X', hpost, hsteps⟩
  · exact Or.inl ⟨v, vm₁, B, X₁.warmed, X', hpost, fun target h => hstep₁ _ fun acts => by rw [doInvoke_state]; exact hsteps.trans h⟩
  · exact Or.inr ⟨q, vm₁, B, X₁.warmed, X', hpost, hstep₁ _ fun acts => by rw [doInvoke_state]; exact hsteps⟩
end Calls
theorem vx_cls {s : State} {T : State} {vm₁ : Vm} {E : String} {k : ClassId} (hW : s.WarmedH vm₁) (h : (T.setVm vm₁).vm.findClass E = some k) : s.vm.findClass E = some k := by
  have h1 : vm₁.findClass E = some k := h
  rw [hW.alike.findClass] at h1
  exact h1
/-- the method's frame g, with q thrown over it -/
def vx_W (p : Program) (l : Launch) (e : Env) (R : Room) (s : State) (m : MethodId) (args : Array Value) (below : List Frame) (meth : Method) (c : Code) (H : Heap) (locs : List Loc) (cells slots : Nat) (Q : State → Prop) (g : JFrame) (q : Addr) : Prop :=
  ∀ T : State, T.heap = H → Stand p l e R s m args below meth c T locs cells slots → ∃ t, Steps p.tables e below ((T.setTop g).pushFrame (.throwing q)) t ∧ Q t
def vx_Run (p : Program) (l : Launch) (e : Env) (R : Room) (s : State) (m : MethodId) (args : Array Value) (below : List Frame) (meth : Method) (c : Code) (H : Heap) (locs : List Loc) (cells slots mc ms : Nat) (g : JFrame) (rest : List Value) (Qa : State → Outcome → State → Prop) (XC : String → State → State → Prop) (free : Addr → Prop) : Prop :=
  ∀ T : State, T.heap = H → Stand p l e R s m args below meth c T locs cells slots →
    (∃ (v : Option Value) (st₀ t T' : State) (L : List Loc), st₀.heap = H ∧ Stand p l e R s m args below meth c T' (locs ++ L) (cells + mc) (slots + ms) ∧ (∀ q ∈ L, free q.base) ∧ T'.heap = t.heap ∧ T'.vm = t.vm ∧ Qa st₀ (.returned v) t ∧
      Goes p e below T g T' { g with pc := g.pc + 3, stack := v.toList ++ rest }) ∨
    (∃ (q : Addr) (st₀ t T' : State) (L : List Loc) (E : String) (ce : Cell), st₀.heap = H ∧ Stand p l e R s m args below meth c T' (locs ++ L) (cells + mc) (slots + ms) ∧ (∀ z ∈ L, free z.base) ∧ T'.heap = t.heap ∧ T'.vm = t.vm ∧ XC E st₀ t ∧ t.heap[q]? = some ce ∧ ce.vm = .none ∧ s.vm.findClass E = some ce.cls ∧
      Steps p.tables e below (T.setTop g) ((T'.setTop { g with stack := rest }).pushFrame (.throwing q)))
def vx_X {S : Type} (px : S → Prop) (B : String → S → State → Prop) (A : Nat → Prop) : String → State → State → Prop := fun E st t => ∃ u : S, px u ∧ B E u t ∧ va_F A st t
section Runs
variable {p : Program} {l : Launch} {e : Env} {R : Room} {s : State} {m : MethodId} {args : Array Value} {below : List Frame} {meth : Method} {c : Code} {H : Heap} {locs : List Loc} {cells slots : Nat}
variable {y : MethodName} {bytes cc : ByteArray} {maxL nL mc ms n index : Nat} {ret : Option FieldType} {ws : List Cond} {rm : Room} {Pc : Array Value → State → Prop} {Qc : Array Value → State → Outcome → State → Prop} {XC : String → State → State → Prop} {free : Addr → Prop} {Ts : List Cond} {own C : String} {b : Addr} {As rest : List Value} {g : JFrame}
theorem vx_callBack (cb : CallB R s args own index y bytes maxL ret ws rm mc ms n) (hM : vx_Met l y ws rm Pc Qc XC mc ms free) (hbl : FrameBlind Pc) : vx_Back l R p e below s args y 3 8 (PreOf R mc ms Pc) (PostOf Qc mc ms free) (vx_Post XC mc ms free) := by
  obtain ⟨hrc, hrs, hfr, hlo, hws, hcw, -, hini, -⟩ := cb
  exact vx_back (bytes := bytes) (maxL := maxL) (ret := ret) hM hbl hrc hrs hfr hlo hws hcw (fun a' U hW => word_at hW (Or.inl (by first | rfl | simp [Cond.onTables, Cond.keeps, Cond.steady])) hini)
theorem vx_runV (S : CallFix p m c cc nL s args Ts own) (hM : vx_Met l y ws rm Pc Qc XC mc ms free) (cw : CallW R s args own C index y bytes maxL ret ws rm mc ms n) (hp : PreV s H C b Pc As)
    (hg : g.method = m) (hn : As.length = n) (hsize : g.locals.size = nL) (hstack : g.stack = As.reverse ++ .ref b :: rest) (hW : 2 * g.monitorRoom + (rest.map fun v => v.category).sum ≤ 8) (hdg : decode cc g.pc = .ok (.invokevirtual index, 3)) (hf : cells + mc ≤ R.cells ∧ slots + ms ≤ R.slots) :
    vx_Run p l e R s m args below meth c H locs cells slots mc ms g rest (Qc (Value.ref b :: As).toArray) XC free := by
  have hK : vx_Back l R p e below s args y 3 8 (PreOf R mc ms Pc) (PostOf Qc mc ms free) (vx_Post XC mc ms free) := vx_callBack cw.1 hM hp.1
  obtain ⟨⟨-, -, -, -, -, -, hcode, -, hy, hlen, hl⟩, hin, hse⟩ := cw
  obtain ⟨hx, hb, hml, ho, -⟩ := S
  obtain ⟨-, ⟨cellB, hcB, hoB, hclB⟩, hPc⟩ := hp
  intro T hT X
  rcases vx_callV X hx (C := C) (bytes := bytes) (maxL := maxL) (ret := ret) ho hl hin hse hcode hy hK (by rw [hT]; exact hcB) hoB hclB hg (hsize.trans hml.symm) (argsL := As) (rest := rest) (fun sig h => hn.trans (hlen sig h)) hstack hW (by rw [hb]; exact hdg)
    (fun vm₁ hW₁ => ⟨hf.1, hf.2, hPc (T.setVm vm₁) hT hW₁⟩) with ⟨v, vm₁, ⟨U', l2, c2, s2⟩, hW₁, X', ⟨g', mk, t, L, e1, e2, hq, h1, hL, h2, h3⟩, st⟩ | ⟨q, vm₁, ⟨U', l2, c2, s2⟩, hW₁, X', ⟨g', mk, t, L, E, ce, e1, e2, hq, hce, hcv, hcl, h1, hL, h2, h3⟩, st⟩
  · dsimp only [Pt.U, Pt.locs, Pt.cells, Pt.slots] at X' e1 e2 h1 h2 h3 st
    subst h1; subst h2; subst h3
    exact Or.inl ⟨v, (T.setVm vm₁).calling g' mk (Value.ref b :: As).toArray, t, U', L, hT, X', hL, e1, e2, hq, st⟩
  · dsimp only [Pt.U, Pt.locs, Pt.cells, Pt.slots] at X' e1 e2 h1 h2 h3 st hcl
    subst h1; subst h2; subst h3
    exact Or.inr ⟨q, (T.setVm vm₁).calling g' mk (Value.ref b :: As).toArray, t, U', L, E, ce, hT, X', hL, e1, e2, hq, hce, hcv, vx_cls hW₁ hcl, st⟩
theorem vx_runS (S : CallFix p m c cc nL s args Ts own) (hM : vx_Met l y ws rm Pc Qc XC mc ms free) (cw : CallB R s args own index y bytes maxL ret ws rm mc ms n ∧ (Cond.static y).before args s = true) (hp : PreS s H Pc As)
    (hg : g.method = m) (hn : As.length = n) (hsize : g.locals.size = nL) (hstack : g.stack = As.reverse ++ rest) (hW : 2 * g.monitorRoom + (rest.map fun v => v.category).sum ≤ 8) (hdg : decode cc g.pc = .ok (.invokestatic index, 3)) (hf : cells + mc ≤ R.cells ∧ slots + ms ≤ R.slots) :
    vx_Run p l e R s m args below meth c H locs cells slots mc ms g rest (Qc As.toArray) XC free := by
  have hK : vx_Back l R p e below s args y 3 8 (PreOf R mc ms Pc) (PostOf Qc mc ms free) (vx_Post XC mc ms free) := vx_callBack cw.1 hM hp.1
  obtain ⟨⟨-, -, -, -, -, -, hcode, hini, hy, hlen, hl⟩, hstt⟩ := cw
  obtain ⟨hx, hb, hml, ho, -⟩ := S
  intro T hT X
  rcases vx_callS X hx (bytes := bytes) (maxL := maxL) (ret := ret) ho hl hstt hini hcode hy hK hg (hsize.trans hml.symm) (argsL := As) (rest := rest) (fun sig h => hn.trans (hlen sig h)) hstack hW (by rw [hb]; exact hdg)
    (fun vm₁ hW₁ => ⟨hf.1, hf.2, hp.2 (T.setVm vm₁) hT hW₁⟩) with ⟨v, vm₁, ⟨U', l2, c2, s2⟩, hW₁, X', ⟨g', mk, t, L, e1, e2, hq, h1, hL, h2, h3⟩, st⟩ | ⟨q, vm₁, ⟨U', l2, c2, s2⟩, hW₁, X', ⟨g', mk, t, L, E, ce, e1, e2, hq, hce, hcv, hcl, h1, hL, h2, h3⟩, st⟩
  · dsimp only [Pt.U, Pt.locs, Pt.cells, Pt.slots] at X' e1 e2 h1 h2 h3 st
    subst h1; subst h2; subst h3
    exact Or.inl ⟨v, (T.setVm vm₁).calling g' mk As.toArray, t, U', L, hT, X', hL, e1, e2, hq, st⟩
  · dsimp only [Pt.U, Pt.locs, Pt.cells, Pt.slots] at X' e1 e2 h1 h2 h3 st hcl
    subst h1; subst h2; subst h3
    exact Or.inr ⟨q, (T.setVm vm₁).calling g' mk As.toArray, t, U', L, E, ce, hT, X', hL, e1, e2, hq, hce, hcv, vx_cls hW₁ hcl, st⟩
end Runs
section Rows
variable {p : Program} {l : Launch} {e : Env} {R : Room} {s : State} {m : MethodId} {args : Array Value} {below : List Frame} {meth : Method} {c : Code} {H : Heap} {locs : List Loc} {cells slots : Nat} {Q : State → Prop}
variable {mc ms : Nat} {free : Addr → Prop} {A0 A1 : Nat → Prop} {H0 : Heap} {a : Array Value} {pc : Nat} {ls : Array Slot} {st0 rest : List Value}
theorem vx_keep {st₀ t T' : State} {L : List Loc} (h0 : st₀.heap = H) (e1 : T'.heap = t.heap) (hS : va_S A0 H0 H locs) (hA : ∀ q, q < H.size → A1 q → A0 q) (hf : ∀ q, free q → A0 q) (hL : ∀ q ∈ L, free q.base) (hF : va_F A1 st₀ t) :
    H.size ≤ T'.heap.size ∧ (∀ q : Nat, q < H.size → ¬ A1 q → T'.heap[q]? = H[q]?) ∧ va_S A0 H0 T'.heap (locs ++ L) := by
  obtain ⟨hz, hk⟩ := hF
  rw [h0] at hz hk
  exact ⟨by rw [e1]; exact hz, fun q h1 h2 => by rw [e1]; exact hk q h1 h2,
    ⟨Nat.le_trans hS.1 (by rw [e1]; exact hz), fun q h1 h2 => by rw [e1, hk q (Nat.lt_of_lt_of_le h1 hS.1) (fun z => h2 (hA q (Nat.lt_of_lt_of_le h1 hS.1) z))]; exact hS.2.1 q h1 h2, fun q hq => by
      rcases List.mem_append.mp hq with h | h
      · exact hS.2.2 q h
      · exact hf _ (hL q h)⟩⟩
theorem vx_calli {S SX : Type} {post : Int32 → S → Prop} {px : SX → Prop} {B : S → State → Prop} {BX : String → SX → State → Prop} {AX : Nat → Prop} (hr : vx_Run p l e R s m args below meth c H locs cells slots mc ms (F0 m pc ls st0) rest (va_Qi post B A1 a) (vx_X px BX AX) free) (hS : va_S A0 H0 H locs) (hA : ∀ q, q < H.size → A1 q → A0 q) (hf : ∀ q, free q → A0 q) (hAX : ∀ q, q < H.size → AX q → A0 q)
    (kx : ∀ (E : String) (ce : Cell) (q9 : Addr) (u : SX) (t : State) (H1 : Heap) (locs1 : List Loc), t.heap = H1 → s.vm.Alike t.vm → px u → BX E u t → H.size ≤ H1.size → (∀ q : Nat, q < H.size → ¬ AX q → H1[q]? = H[q]?) → va_S A0 H0 H1 locs1 → H1[q9]? = some ce → ce.vm = .none → s.vm.findClass E = some ce.cls → vx_W p l e R s m args below meth c H1 locs1 (cells + mc) (slots + ms) Q (F0 m pc ls rest) q9)
    (kk : ∀ (r : Int32) (u : S) (t : State) (H1 : Heap) (locs1 : List Loc), t.heap = H1 → s.vm.Alike t.vm → post r u → B u t → H.size ≤ H1.size → (∀ q : Nat, q < H.size → ¬ A1 q → H1[q]? = H[q]?) → va_S A0 H0 H1 locs1 → W p l e R s m args below meth c H1 locs1 (cells + mc) (slots + ms) Q (F0 m (pc + 3) ls (.int r :: rest))) : W p l e R s m args below meth c H locs cells slots Q (F0 m pc ls st0) := by
  intro T hT X
  rcases hr T hT X with ⟨v, st₀, t, T', L, h0, X', hL, e1, e2, ⟨⟨r, u, hv, hp, hb⟩, hF⟩, st⟩ | ⟨q, st₀, t, T', L, E, ce, h0, X', hL, e1, e2, ⟨u, hp, hb, hF⟩, hce, hcv, hcl, st⟩
  · cases hv
    obtain ⟨k1, k2, k3⟩ := vx_keep h0 e1 hS hA hf hL hF
    obtain ⟨t2, a1, b1⟩ := kk r u t T'.heap (locs ++ L) e1.symm (by rw [← e2]; exact X'.warmed.alike) hp hb k1 k2 k3 T' rfl X'
    exact ⟨t2, st t2 a1, b1⟩
  · obtain ⟨k1, k2, k3⟩ := vx_keep h0 e1 hS hAX hf hL hF
    obtain ⟨t2, a1, b1⟩ := kx E ce q u t T'.heap (locs ++ L) e1.symm (by rw [← e2]; exact X'.warmed.alike) hp hb k1 k2 k3 (by rw [e1]; exact hce) hcv hcl T' rfl X'
    exact ⟨t2, st.trans a1, b1⟩
theorem vx_calll {S SX : Type} {post : Int64 → S → Prop} {px : SX → Prop} {B : S → State → Prop} {BX : String → SX → State → Prop} {AX : Nat → Prop} (hr : vx_Run p l e R s m args below meth c H locs cells slots mc ms (F0 m pc ls st0) rest (va_Ql post B A1 a) (vx_X px BX AX) free) (hS : va_S A0 H0 H locs) (hA : ∀ q, q < H.size → A1 q → A0 q) (hf : ∀ q, free q → A0 q) (hAX : ∀ q, q < H.size → AX q → A0 q)
    (kx : ∀ (E : String) (ce : Cell) (q9 : Addr) (u : SX) (t : State) (H1 : Heap) (locs1 : List Loc), t.heap = H1 → s.vm.Alike t.vm → px u → BX E u t → H.size ≤ H1.size → (∀ q : Nat, q < H.size → ¬ AX q → H1[q]? = H[q]?) → va_S A0 H0 H1 locs1 → H1[q9]? = some ce → ce.vm = .none → s.vm.findClass E = some ce.cls → vx_W p l e R s m args below meth c H1 locs1 (cells + mc) (slots + ms) Q (F0 m pc ls rest) q9)
    (kk : ∀ (r : Int64) (u : S) (t : State) (H1 : Heap) (locs1 : List Loc), t.heap = H1 → s.vm.Alike t.vm → post r u → B u t → H.size ≤ H1.size → (∀ q : Nat, q < H.size → ¬ A1 q → H1[q]? = H[q]?) → va_S A0 H0 H1 locs1 → W p l e R s m args below meth c H1 locs1 (cells + mc) (slots + ms) Q (F0 m (pc + 3) ls (.long r :: rest))) : W p l e R s m args below meth c H locs cells slots Q (F0 m pc ls st0) := by
  intro T hT X
  rcases hr T hT X with ⟨v, st₀, t, T', L, h0, X', hL, e1, e2, ⟨⟨r, u, hv, hp, hb⟩, hF⟩, st⟩ | ⟨q, st₀, t, T', L, E, ce, h0, X', hL, e1, e2, ⟨u, hp, hb, hF⟩, hce, hcv, hcl, st⟩
  · cases hv
    obtain ⟨k1, k2, k3⟩ := vx_keep h0 e1 hS hA hf hL hF
    obtain ⟨t2, a1, b1⟩ := kk r u t T'.heap (locs ++ L) e1.symm (by rw [← e2]; exact X'.warmed.alike) hp hb k1 k2 k3 T' rfl X'
    exact ⟨t2, st t2 a1, b1⟩
  · obtain ⟨k1, k2, k3⟩ := vx_keep h0 e1 hS hAX hf hL hF
    obtain ⟨t2, a1, b1⟩ := kx E ce q u t T'.heap (locs ++ L) e1.symm (by rw [← e2]; exact X'.warmed.alike) hp hb k1 k2 k3 (by rw [e1]; exact hce) hcv hcl T' rfl X'
    exact ⟨t2, st.trans a1, b1⟩
theorem vx_callf {S SX : Type} {post : UInt32 → S → Prop} {px : SX → Prop} {B : S → State → Prop} {BX : String → SX → State → Prop} {AX : Nat → Prop} (hr : vx_Run p l e R s m args below meth c H locs cells slots mc ms (F0 m pc ls st0) rest (va_Qf post B A1 a) (vx_X px BX AX) free) (hS : va_S A0 H0 H locs) (hA : ∀ q, q < H.size → A1 q → A0 q) (hf : ∀ q, free q → A0 q) (hAX : ∀ q, q < H.size → AX q → A0 q)
    (kx : ∀ (E : String) (ce : Cell) (q9 : Addr) (u : SX) (t : State) (H1 : Heap) (locs1 : List Loc), t.heap = H1 → s.vm.Alike t.vm → px u → BX E u t → H.size ≤ H1.size → (∀ q : Nat, q < H.size → ¬ AX q → H1[q]? = H[q]?) → va_S A0 H0 H1 locs1 → H1[q9]? = some ce → ce.vm = .none → s.vm.findClass E = some ce.cls → vx_W p l e R s m args below meth c H1 locs1 (cells + mc) (slots + ms) Q (F0 m pc ls rest) q9)
    (kk : ∀ (r : UInt32) (u : S) (t : State) (H1 : Heap) (locs1 : List Loc), t.heap = H1 → s.vm.Alike t.vm → post r u → B u t → H.size ≤ H1.size → (∀ q : Nat, q < H.size → ¬ A1 q → H1[q]? = H[q]?) → va_S A0 H0 H1 locs1 → W p l e R s m args below meth c H1 locs1 (cells + mc) (slots + ms) Q (F0 m (pc + 3) ls (.float r :: rest))) : W p l e R s m args below meth c H locs cells slots Q (F0 m pc ls st0) := by
  intro T hT X
  rcases hr T hT X with ⟨v, st₀, t, T', L, h0, X', hL, e1, e2, ⟨⟨r, u, hv, hp, hb⟩, hF⟩, st⟩ | ⟨q, st₀, t, T', L, E, ce, h0, X', hL, e1, e2, ⟨u, hp, hb, hF⟩, hce, hcv, hcl, st⟩
  · cases hv
    obtain ⟨k1, k2, k3⟩ := vx_keep h0 e1 hS hA hf hL hF
    obtain ⟨t2, a1, b1⟩ := kk r u t T'.heap (locs ++ L) e1.symm (by rw [← e2]; exact X'.warmed.alike) hp hb k1 k2 k3 T' rfl X'
    exact ⟨t2, st t2 a1, b1⟩
  · obtain ⟨k1, k2, k3⟩ := vx_keep h0 e1 hS hAX hf hL hF
    obtain ⟨t2, a1, b1⟩ := kx E ce q u t T'.heap (locs ++ L) e1.symm (by rw [← e2]; exact X'.warmed.alike) hp hb k1 k2 k3 (by rw [e1]; exact hce) hcv hcl T' rfl X'
    exact ⟨t2, st.trans a1, b1⟩
theorem vx_calld {S SX : Type} {post : UInt64 → S → Prop} {px : SX → Prop} {B : S → State → Prop} {BX : String → SX → State → Prop} {AX : Nat → Prop} (hr : vx_Run p l e R s m args below meth c H locs cells slots mc ms (F0 m pc ls st0) rest (va_Qd post B A1 a) (vx_X px BX AX) free) (hS : va_S A0 H0 H locs) (hA : ∀ q, q < H.size → A1 q → A0 q) (hf : ∀ q, free q → A0 q) (hAX : ∀ q, q < H.size → AX q → A0 q)
    (kx : ∀ (E : String) (ce : Cell) (q9 : Addr) (u : SX) (t : State) (H1 : Heap) (locs1 : List Loc), t.heap = H1 → s.vm.Alike t.vm → px u → BX E u t → H.size ≤ H1.size → (∀ q : Nat, q < H.size → ¬ AX q → H1[q]? = H[q]?) → va_S A0 H0 H1 locs1 → H1[q9]? = some ce → ce.vm = .none → s.vm.findClass E = some ce.cls → vx_W p l e R s m args below meth c H1 locs1 (cells + mc) (slots + ms) Q (F0 m pc ls rest) q9)
    (kk : ∀ (r : UInt64) (u : S) (t : State) (H1 : Heap) (locs1 : List Loc), t.heap = H1 → s.vm.Alike t.vm → post r u → B u t → H.size ≤ H1.size → (∀ q : Nat, q < H.size → ¬ A1 q → H1[q]? = H[q]?) → va_S A0 H0 H1 locs1 → W p l e R s m args below meth c H1 locs1 (cells + mc) (slots + ms) Q (F0 m (pc + 3) ls (.double r :: rest))) : W p l e R s m args below meth c H locs cells slots Q (F0 m pc ls st0) := by
  intro T hT X
  rcases hr T hT X with ⟨v, st₀, t, T', L, h0, X', hL, e1, e2, ⟨⟨r, u, hv, hp, hb⟩, hF⟩, st⟩ | ⟨q, st₀, t, T', L, E, ce, h0, X', hL, e1, e2, ⟨u, hp, hb, hF⟩, hce, hcv, hcl, st⟩
  · cases hv
    obtain ⟨k1, k2, k3⟩ := vx_keep h0 e1 hS hA hf hL hF
    obtain ⟨t2, a1, b1⟩ := kk r u t T'.heap (locs ++ L) e1.symm (by rw [← e2]; exact X'.warmed.alike) hp hb k1 k2 k3 T' rfl X'
    exact ⟨t2, st t2 a1, b1⟩
  · obtain ⟨k1, k2, k3⟩ := vx_keep h0 e1 hS hAX hf hL hF
    obtain ⟨t2, a1, b1⟩ := kx E ce q u t T'.heap (locs ++ L) e1.symm (by rw [← e2]; exact X'.warmed.alike) hp hb k1 k2 k3 (by rw [e1]; exact hce) hcv hcl T' rfl X'
    exact ⟨t2, st.trans a1, b1⟩
theorem vx_callv {S SX : Type} {post : S → Prop} {px : SX → Prop} {B : S → State → Prop} {BX : String → SX → State → Prop} {AX : Nat → Prop} (hr : vx_Run p l e R s m args below meth c H locs cells slots mc ms (F0 m pc ls st0) rest (va_Qv post B A1 a) (vx_X px BX AX) free) (hS : va_S A0 H0 H locs) (hA : ∀ q, q < H.size → A1 q → A0 q) (hf : ∀ q, free q → A0 q) (hAX : ∀ q, q < H.size → AX q → A0 q)
    (kx : ∀ (E : String) (ce : Cell) (q9 : Addr) (u : SX) (t : State) (H1 : Heap) (locs1 : List Loc), t.heap = H1 → s.vm.Alike t.vm → px u → BX E u t → H.size ≤ H1.size → (∀ q : Nat, q < H.size → ¬ AX q → H1[q]? = H[q]?) → va_S A0 H0 H1 locs1 → H1[q9]? = some ce → ce.vm = .none → s.vm.findClass E = some ce.cls → vx_W p l e R s m args below meth c H1 locs1 (cells + mc) (slots + ms) Q (F0 m pc ls rest) q9)
    (kk : ∀ (u : S) (t : State) (H1 : Heap) (locs1 : List Loc), t.heap = H1 → s.vm.Alike t.vm → post u → B u t → H.size ≤ H1.size → (∀ q : Nat, q < H.size → ¬ A1 q → H1[q]? = H[q]?) → va_S A0 H0 H1 locs1 → W p l e R s m args below meth c H1 locs1 (cells + mc) (slots + ms) Q (F0 m (pc + 3) ls (rest))) : W p l e R s m args below meth c H locs cells slots Q (F0 m pc ls st0) := by
  intro T hT X
  rcases hr T hT X with ⟨v, st₀, t, T', L, h0, X', hL, e1, e2, ⟨⟨u, hv, hp, hb⟩, hF⟩, st⟩ | ⟨q, st₀, t, T', L, E, ce, h0, X', hL, e1, e2, ⟨u, hp, hb, hF⟩, hce, hcv, hcl, st⟩
  · cases hv
    obtain ⟨k1, k2, k3⟩ := vx_keep h0 e1 hS hA hf hL hF
    obtain ⟨t2, a1, b1⟩ := kk u t T'.heap (locs ++ L) e1.symm (by rw [← e2]; exact X'.warmed.alike) hp hb k1 k2 k3 T' rfl X'
    exact ⟨t2, st t2 a1, b1⟩
  · obtain ⟨k1, k2, k3⟩ := vx_keep h0 e1 hS hAX hf hL hF
    obtain ⟨t2, a1, b1⟩ := kx E ce q u t T'.heap (locs ++ L) e1.symm (by rw [← e2]; exact X'.warmed.alike) hp hb k1 k2 k3 (by rw [e1]; exact hce) hcv hcl T' rfl X'
    exact ⟨t2, st.trans a1, b1⟩
/-- caught by the row x of this method's table; the rows ahead don't take it -/
theorem vx_catch {own name : String} {E : String} {ce : Cell} {q : Addr} (hown : s.vm.findClass own = some m.cls) (pre : List ExceptionTableEntry) (x : ExceptionTableEntry) (suf : List ExceptionTableEntry) (hsplit : c.exceptionTable.toList = pre ++ x :: suf)
    (hpass : ∀ z ∈ pre, covers z pc = false ∨ (z.catchType ≠ 0 ∧ ∃ nm : String, (Cond.classLink own z.catchType nm).before args s = true ∧ va_Nc E nm s)) (hx : covers x pc = true) (h0 : x.catchType ≠ 0)
    (hlink : (Cond.classLink own x.catchType name).before args s = true) (hcast : (Cond.castable E name).before args s = true) (hcell : H[q]? = some ce) (hv : ce.vm = .none) (hcl : s.vm.findClass E = some ce.cls)
    (kk : W p l e R s m args below meth c H locs cells slots Q (F0 m x.handlerPc ls [.ref q])) : vx_W p l e R s m args below meth c H locs cells slots Q (F0 m pc ls rest) q := by
  intro T hT X
  have hpl : e.platform.magicAccessors = ({} : Platform).magicAccessors := by rw [X.admits.platform]
  obtain ⟨c3, c4, hc3, hc4, hasg⟩ := Cond.castable_spec hcast
  cases Option.some.inj (hc3.symm.trans hcl)
  obtain ⟨c5, hc5, hcl5⟩ := Cond.classLink_spec hown hlink e.platform hpl
  cases Option.some.inj (hc4.symm.trans hc5)
  obtain ⟨vm', X', st⟩ := X.thenCaughtThrough q (g := F0 m pc ls rest) rfl (Steps.refl _) (by rw [hT]; exact hcell) (by rw [hv]; rfl) (by obtain ⟨k9, h9, -⟩ := Vm.findClass_spec hcl; exact ⟨k9, h9⟩) pre x suf hsplit
    (fun z hz => by
      rcases hpass z hz with h | ⟨hz0, nm, hl1, hn1⟩
      · exact Or.inl h
      · obtain ⟨c6, hc6, hcl6⟩ := Cond.classLink_spec hown hl1 e.platform hpl
        obtain ⟨a8, b8, h1, h2, h3⟩ := hn1
        cases Option.some.inj (h1.symm.trans hcl)
        cases Option.some.inj (h2.symm.trans hc6)
        exact Or.inr ⟨hz0, _, hcl6, h3⟩) hx (Or.inr ⟨h0, c4, hcl5, hasg⟩)
  obtain ⟨t, a1, b1⟩ := kk (T.setVm vm') hT X'
  exact ⟨t, st.trans a1, b1⟩
end Rows
section Ends
variable {p : Program} {l : Launch} {e : Env} {R : Room} {s : State} {m : MethodId} {args : Array Value} {below : List Frame} {meth : Method} {c : Code} {H : Heap} {locs : List Loc} {cells slots : Nat} {Q : State → Prop}
variable {mc ms : Nat} {free : Addr → Prop} {A0 A1 : Nat → Prop} {H0 : Heap} {a : Array Value} {ls : Array Slot} {st0 rest : List Value}
variable {Qc : Array Value → State → Outcome → State → Prop} {XC : String → State → State → Prop}
/-- what a body that may throw owes at its end -/
def vx_MQ (below : List Frame) (Qc : Array Value → State → Outcome → State → Prop) (XC : String → State → State → Prop) (a : Array Value) (s : State) (mc ms : Nat) (free : Addr → Prop) : State → Prop := fun t =>
  ∃ o, t.status = .running ∧ Ended t below o ∧ vx_Q Qc XC mc ms free a s o t
theorem vx_ret {g : JFrame} {mc ms : Nat} (k : W p l e R s m args below meth c H locs cells slots (MQ below Qc args s mc ms free) g) : W p l e R s m args below meth c H locs cells slots (vx_MQ below Qc XC args s mc ms free) g := by
  intro T hT X
  obtain ⟨t, a1, o, b1, b2, b3, b4⟩ := k T hT X
  exact ⟨t, a1, o, b1, b2, Or.inl ⟨b3, b4⟩⟩
/-- not caught here: it goes on to the caller -/
theorem vx_widen {g : JFrame} {q : Addr} {k n : Nat} (h1 : cells ≤ k) (h2 : slots ≤ n) (kk : vx_W p l e R s m args below meth c H locs k n Q g q) : vx_W p l e R s m args below meth c H locs cells slots Q g q := fun T hT X => kk T hT (stand_widen X h1 h2)
theorem vx_out {pc : Nat} {E : String} {ce : Cell} {q : Addr} {mc ms : Nat} (hout : ∀ x ∈ c.exceptionTable.toList, covers x pc = false) (hlocks : meth.locks = false) (hcell : H[q]? = some ce) (hv : ce.vm = .none) (hcl : s.vm.findClass E = some ce.cls)
    (hx : ∀ t : State, t.heap = H → s.vm.Alike t.vm → XC E s t) (hf : ∀ z ∈ locs, free z.base) (hc : cells ≤ mc) (hs : slots ≤ ms) :
    vx_W p l e R s m args below meth c H locs cells slots (vx_MQ below Qc XC args s mc ms free) (F0 m pc ls rest) q := by
  intro T hT X
  obtain ⟨st1, hrun, hend, hW, hsm⟩ := X.leaveThrown q (g := F0 m pc ls rest) rfl rfl rfl hout hlocks
  have hcell9 : (T.setFrames (.throwing q :: below)).heap[q]? = some ce := by
    show T.heap[q]? = some ce
    rw [hT]; exact hcell
  exact ⟨_, st1, .threw q, hrun, hend, Or.inr ⟨q, rfl, E, ce, locs, hx _ hT hW.alike, hcell9, hv, hcl, hW, hsm.mono hc hs, hf⟩⟩
theorem vx_frame {U : State} {k n : Nat} (h : s.sameButNew ({ U with vm := s.vm } : State) locs k n) : s.heap.size ≤ U.heap.size ∧ ∀ q : Nat, q < s.heap.size → (∀ z ∈ locs, z.base ≠ q) → U.heap[q]? = s.heap[q]? := by
  obtain ⟨-, h2, -, -, -, h6⟩ := h
  refine ⟨h2, fun q hq hz => ?_⟩
  obtain ⟨c9, e1, e2, e3, e4⟩ := h6 q _ (Array.getElem?_eq_getElem hq)
  have hs : c9.slots = (s.heap[q]).slots := Array.ext_getElem? fun i => e4 i fun hm => hz _ hm rfl
  have h9 : c9 = s.heap[q] := by
    rw [hs] at e2
    exact e2
  have e5 : U.heap[q]? = some c9 := e1
  rw [e5, h9, Array.getElem?_eq_getElem hq]
/-- the words of a throw but the four that speak of the heap -/
def vx_no (w : Cond) : Bool := decide (w ≠ .isRef (.static Bundle.tN "UNASSIGNED_STACK" Bundle.steD)) && decide (w ≠ .isRef (.static Bundle.tN "SUPPRESSED_SENTINEL" Bundle.listD)) && decide (w ≠ .laysStatic Bundle.tN "UNASSIGNED_STACK" Bundle.steD) && decide (w ≠ .laysStatic Bundle.tN "SUPPRESSED_SENTINEL" Bundle.listD)
def vx_at0 (own : String) (ic : Nat) (X : String) (names : List String) : List Cond := (Bundle.ownAtoms0 own ic X names).filter vx_no
def vx_atS (own : String) (ic : Nat) (X : String) (names : List String) : List Cond := (Bundle.ownAtoms own ic X names).filter vx_no
/-- a word that the tables alone decide, or a good one -/
def vx_ot (w : Cond) : Bool := w.onTables || goodWord w
theorem vx_ot_at {args a' : Array Value} {s U : State} {w : Cond} (hW : s.WarmedH U.vm) (hvm : s.vm = U.vm) (hg : vx_ot w = true) (h : w.before args s = true) : w.before a' U = true := by
  simp only [vx_ot, Bool.or_eq_true] at hg
  rcases hg with hg | hg
  · exact va_tabs hg hvm h
  · exact word_at hW (good_of_word hg) h
/-- a list's words: the good ones out of the method's own list, the others by premises of their own -/
theorem vx_hat {args : Array Value} {s : State} {L B : List Cond} (h1 : ∀ w ∈ L.filter goodWord, w.before args s = true) (h2 : ∀ w ∈ L.filter (fun w => !goodWord w), w ∈ B) (h3 : ∀ w ∈ B, w.before args s = true) : ∀ w ∈ L, w.before args s = true := by
  intro w hw
  by_cases g : goodWord w = true
  · exact h1 w (List.mem_filter.mpr ⟨hw, g⟩)
  · refine h3 w (h2 w (List.mem_filter.mpr ⟨hw, ?_⟩))
    show (!goodWord w) = true
    cases hgw : goodWord w
    · rfl
    · exact absurd hgw g
theorem vx_c {args : Array Value} {s : State} {w : Cond} {B : List Cond} (h : w.before args s = true) (t : ∀ w ∈ B, w.before args s = true) : ∀ w' ∈ w :: B, w'.before args s = true := fun w' h' => (List.mem_cons.mp h').elim (fun e => by rw [e]; exact h) (t w')
theorem vx_n {args : Array Value} {s : State} : ∀ w ∈ ([] : List Cond), w.before args s = true := fun _ h => nomatch h
theorem vx_own {args : Array Value} {s : State} {L : List Cond} (h1 : ∀ w ∈ L.filter vx_no, w.before args s = true)
    (hU : (Cond.isRef (.static Bundle.tN "UNASSIGNED_STACK" Bundle.steD)).before args s = true) (hN : (Cond.isRef (.static Bundle.tN "SUPPRESSED_SENTINEL" Bundle.listD)).before args s = true)
    (lU : (Cond.laysStatic Bundle.tN "UNASSIGNED_STACK" Bundle.steD).before args s = true) (lN : (Cond.laysStatic Bundle.tN "SUPPRESSED_SENTINEL" Bundle.listD).before args s = true) : ∀ w ∈ L, w.before args s = true := by
  intro w hw
  by_cases e1 : w = .isRef (.static Bundle.tN "UNASSIGNED_STACK" Bundle.steD)
  · rw [e1]; exact hU
  · by_cases e2 : w = .isRef (.static Bundle.tN "SUPPRESSED_SENTINEL" Bundle.listD)
    · rw [e2]; exact hN
    · by_cases e3 : w = .laysStatic Bundle.tN "UNASSIGNED_STACK" Bundle.steD
      · rw [e3]; exact lU
      · by_cases e4 : w = .laysStatic Bundle.tN "SUPPRESSED_SENTINEL" Bundle.listD
        · rw [e4]; exact lN
        · exact h1 w (List.mem_filter.mpr ⟨hw, by unfold vx_no; rw [decide_eq_true e1, decide_eq_true e2, decide_eq_true e3, decide_eq_true e4]; rfl⟩)
/-- where a static field lies, its class's statics cell in H -/
def vx_L (C n d : String) (A : Nat → Prop) (U : State) (H : Heap) : Prop := ∃ (c : ClassId) (k : Class) (i : Nat) (f : Field) (a : Nat) (cell : Cell), U.vm.findClass C = some c ∧ U.fieldFound? C n d = some (c, k, i, f) ∧ f.isStatic = true ∧ k.statics = some a ∧ H[a]? = some cell ∧ cell.vm.isStatics = true ∧ cell.cls = c ∧ f.slot < cell.slots.size ∧ k.staticTypes[f.slot]? = some f.type ∧ ¬ A a
theorem vx_L.moved {C n d : String} {A : Nat → Prop} {u U : State} {H : Heap} (hvm : u.vm.Alike U.vm) (h : vx_L C n d A u H) : vx_L C n d A U H := by
  obtain ⟨c, k, i, f, a, cell, h1, h2, h3, h4, h5, h6, h7, h8, h9, h10⟩ := h
  obtain ⟨k', hi', he⟩ := State.fieldFound?_setVm hvm h2
  exact ⟨c, k', i, f, a, cell, by rw [hvm.findClass]; exact h1, hi', h3, by rw [he]; exact h4, h5, h6, h7, h8, by rw [he]; exact h9, h10⟩
theorem vx_L.kept {C n d : String} {A : Nat → Prop} {U : State} {H H1 : Heap} (h : vx_L C n d A U H) (hq : ∀ a : Nat, a < H.size → ¬ A a → H1[a]? = H[a]?) : vx_L C n d A U H1 := by
  obtain ⟨c, k, i, f, a, cell, h1, h2, h3, h4, h5, h6, h7, h8, h9, h10⟩ := h
  exact ⟨c, k, i, f, a, cell, h1, h2, h3, h4, by rw [hq a (Array.getElem?_eq_some_iff.mp h5).1 h10]; exact h5, h6, h7, h8, h9, h10⟩
theorem vx_L.narrow {C n d : String} {A B : Nat → Prop} {U : State} {H : Heap} (h : vx_L C n d A U H) (hAB : ∀ q, B q → A q) : vx_L C n d B U H := by
  obtain ⟨c, k, i, f, a, cell, h1, h2, h3, h4, h5, h6, h7, h8, h9, h10⟩ := h
  exact ⟨c, k, i, f, a, cell, h1, h2, h3, h4, h5, h6, h7, h8, h9, fun z => h10 (hAB _ z)⟩
theorem vx_L.word {C n d : String} {A : Nat → Prop} {s : State} {args : Array Value} (h : vx_L C n d A s s.heap) : (Cond.laysStatic C n d).before args s = true := by
  obtain ⟨c, k, i, f, a, cell, h1, h2, h3, h4, h5, h6, h7, h8, h9, -⟩ := h
  show (Cond.laysStatic C n d).holds args s none s [] = true
  exact Cond.laysStatic_of h1 h2 h3 h4 h5 h6 h7 h8 h9
/-- .. and what it holds: null or some reference -/
def vx_Zq (C n d : String) (A : Nat → Prop) (U : State) (H : Heap) : Prop := va_Zq C n d A U H ∧ vx_L C n d A U H
theorem vx_Zq.moved {C n d : String} {A : Nat → Prop} {u U : State} {H : Heap} (hvm : u.vm.Alike U.vm) (h : vx_Zq C n d A u H) : vx_Zq C n d A U H := ⟨va_Zq.moved hvm h.1, vx_L.moved hvm h.2⟩
theorem vx_Zq.kept {C n d : String} {A : Nat → Prop} {U : State} {H H1 : Heap} (h : vx_Zq C n d A U H) (hq : ∀ a : Nat, a < H.size → ¬ A a → H1[a]? = H[a]?) : vx_Zq C n d A U H1 := ⟨va_Zq.kept h.1 hq, vx_L.kept h.2 hq⟩
theorem vx_Zq.narrow {C n d : String} {A B : Nat → Prop} {U : State} {H : Heap} (h : vx_Zq C n d A U H) (hAB : ∀ q, B q → A q) : vx_Zq C n d B U H := ⟨va_Zq.narrow h.1 hAB, vx_L.narrow h.2 hAB⟩
theorem vx_Zqof {args : Array Value} {s : State} {C n d : String} {A : Nat → Prop} (hl : (Cond.laysStatic C n d).before args s = true) (hini : (Cond.initialized C).before args s = true) (h : (Cond.isRef (.static C n d)).before args s = true) (hA : ∀ a : Nat, a < s.heap.size → ¬ A a) : vx_Zq C n d A s s.heap := by
  refine ⟨va_Zqof hl hini h hA, ?_⟩
  obtain ⟨c, k, i, f, a, cell, h1, h2, h3, h4, h5, h6, h7, h8, h9⟩ := Cond.laysStatic_spec hl
  exact ⟨c, k, i, f, a, cell, h1, h2, h3, h4, h5, h6, h7, h8, h9, hA a (Array.getElem?_eq_some_iff.mp h5).1⟩
theorem vx_isRef {C n d : String} {v : Value} {A : Nat → Prop} {s : State} {args : Array Value} (h : va_Z C n d v A s s.heap) (hv : v.isRef = true) : (Cond.isRef (.static C n d)).before args s = true := by
  obtain ⟨cf, kf, fi, f, a, cell, h1, h2, h3, h4, h5, h6, h7, -⟩ := h
  have he : (Term.static C n d).eval args s none [] s = some v := by
    simp [Term.eval, State.fieldNamed?, h1, h2, h4, h5, h6, h7]
  simp only [Cond.before, Cond.holds, Cond.value, he]
  cases v <;> simp_all [Value.isRef]
theorem vx_isRefq {C n d : String} {A : Nat → Prop} {s : State} {args : Array Value} (h : va_Zq C n d A s s.heap) : (Cond.isRef (.static C n d)).before args s = true := by
  rcases h with h | ⟨t, h⟩
  · exact vx_isRef h rfl
  · exact vx_isRef h rfl
/-- the same frame, seen from here: as if the method were called anew in this heap -/
theorem vx_rebase {T : State} (X : Stand p l e R s m args below meth c T locs cells slots) {R' : Room} (hf : R'.frames ≤ R.frames) (hl : R'.locals ≤ R.locals) (hc : cells + R'.cells ≤ R.cells) (hs : slots + R'.slots ≤ R.slots) :
    Stand p l e R' ((T.setVm s.vm).setFrames (.invoking m args :: below)) m args below meth c T [] 0 0 := by
  have htop : (T.setVm s.vm).topJava?.isSome := X.here.top
  have hF : ((T.setVm s.vm).setFrames (.invoking m args :: below)).frames = .invoking m args :: below := State.frames_setFrames _ (State.cur_lt_of_top htop)
  obtain ⟨g₀, hg0⟩ := Option.isSome_iff_exists.mp htop
  obtain ⟨r, hr⟩ := State.topJava?_eq_some.mp hg0
  have hl9 : e.platform.stackLimits (T.setVm s.vm).me = e.platform.stackLimits s.me := X.limits
  have hb9 : (T.setVm s.vm).me.stackBytes = s.me.stackBytes := X.bytes
  refine ⟨X.admits, X.cas, X.clock, hF, ?_, X.hears, X.method, X.code, X.here, X.tail, X.warmed, ?_, ?_, ?_⟩
  · have h := X.room
    have hU : ((T.setVm s.vm).setFrames (.invoking m args :: below)).localsInUse = s.localsInUse := by
      rw [State.localsInUse_invoking hF (meth := meth) (c := c) X.method X.code, State.localsInUse_invoking X.frames X.method X.code]
    simp only [State.hasRoom, Bool.and_eq_true, decide_eq_true_eq] at h ⊢
    obtain ⟨⟨⟨⟨h1, h2, h3, h4, h5, h6⟩, h7⟩, h8⟩, h9⟩ := h
    rw [X.frames, List.length_cons] at h2 h3
    have q1 := X.heapSize
    have q2 := X.used
    simp only [hF, hU, List.length_cons, State.stackLimits_setFrames, State.stackBytes_setFrames, hl9, hb9]
    refine ⟨⟨⟨⟨by omega, by omega, by omega, by omega, by omega, h6⟩, ?_⟩, ?_⟩, X.book⟩
    · show T.heap.size + R'.cells ≤ e.platform.maxCells
      omega
    · show T.slotsUsed + R'.slots ≤ e.platform.maxSlots
      omega
  · rw [State.stackLimits_setFrames]; rfl
  · rw [State.stackBytes_setFrames]; rfl
  · refine ⟨?_, Nat.le_refl _, Nat.le_refl _, ?_, ?_, fun a c9 h9 => ⟨c9, h9, rfl, rfl, fun _ _ => rfl⟩⟩
    · obtain ⟨t, ht, -⟩ := State.frames_cons hr
      show T.setVm s.vm = { ((T.setVm s.vm).setFrames (.invoking m args :: below)).setFrames (T.setVm s.vm).frames with heap := T.heap, slotsUsed := T.slotsUsed }
      rw [State.setFrames_setFrames, State.setFrames_self ht]
      rfl
    · show T.slotsUsed = T.slotsUsed + ((T.heap.toList.drop T.heap.size).map (·.slots.size)).sum
      rw [List.drop_eq_nil_of_le (Nat.le_of_eq Array.length_toList)]
      rfl
    · show ((T.heap.toList.drop T.heap.size).map (·.slots.size)).sum ≤ 0
      rw [List.drop_eq_nil_of_le (Nat.le_of_eq Array.length_toList)]
      exact Nat.le_refl _
/-- 'throw new E()': new; dup; invokespecial; athrow -/
theorem vx_throw0 {cc : ByteArray} {pc : Nat} (hexec : p.tables.exec = Jvm.exec) (hb : c.code = cc) (hl : l.stackTraces = false) {own cls : String} {names : List String} {ik ic mc ms : Nat} {A : Nat → Prop}
    (hown : s.vm.findClass own = some m.cls) (hcls : Bundle.fit cls = true) (hnames : ∀ n ∈ names, Bundle.fit n = true)
    (hk : (Cond.classLink own ik cls).before args s = true) (hini : (Cond.initialized cls).before args s = true) (hat : ∀ w ∈ vx_at0 own ic cls names, w.before args s = true)
    (hgood : ∀ w ∈ Cond.classLink own ik cls :: Cond.initialized cls :: vx_at0 own ic cls names, vx_ot w = true)
    (hU : vx_Zq Bundle.tN "UNASSIGNED_STACK" Bundle.steD A s s.heap) (hN : vx_Zq Bundle.tN "SUPPRESSED_SENTINEL" Bundle.listD A s s.heap) (hS : va_S A s.heap H locs) (hsize : ls.size = c.maxLocals)
    (d0 : decode cc pc = .ok (.new ik, 3)) (d3 : decode cc (pc + 3) = .ok (.dup, 1)) (d4 : decode cc (pc + 4) = .ok (.invokespecial ic, 3)) (d7 : decode cc (pc + 7) = .ok (.athrow, 1))
    (hout : ∀ x ∈ c.exceptionTable.toList, covers x (pc + 7) = false)
    (hRframes : names.length + 3 < R.frames) (hRlocals : (rest.map fun v => v.category).sum + (13 * (names.length + 1) + 42) ≤ R.locals) (hRcells : cells + 1 ≤ R.cells) (hRslots : slots + 6 ≤ R.slots) (hlocks : meth.locks = false)
    (hx : ∀ t : State, s.vm.Alike t.vm → H.size ≤ t.heap.size → (∀ q : Nat, q < H.size → t.heap[q]? = H[q]?) → XC cls s t)
    (hf : ∀ z ∈ locs, free z.base) (hc : cells + 1 ≤ mc) (hs : slots + 6 ≤ ms) :
    W p l e R s m args below meth c H locs cells slots (vx_MQ below Qc XC args s mc ms free) (F0 m pc ls rest) := by
  intro T hT X
  have htr : e.platform.stackTraces = false := (show e.platform.stackTraces = l.stackTraces by rw [X.admits.platform]).trans hl
  have Y := vx_rebase X (R' := { frames := R.frames, locals := R.locals, cells := 1, slots := 6 }) (Nat.le_refl _) (Nat.le_refl _) hRcells hRslots
  obtain ⟨s', hA⟩ : ∃ z, z = (T.setVm s.vm).setFrames (.invoking m args :: below) := ⟨_, rfl⟩
  rw [← hA] at Y
  have hvm : s'.vm = s.vm := by rw [hA]; rfl
  have hhp : s'.heap = H := by rw [hA]; exact hT
  have hW0 : s.WarmedH s'.vm := by rw [hvm]; exact State.WarmedH.refl s
  have hat' : ∀ w ∈ vx_at0 own ic cls names, w.before args s' = true := fun w hw => vx_ot_at hW0 hvm.symm (hgood w (List.mem_cons_of_mem _ (List.mem_cons_of_mem _ hw))) (hat w hw)
  have hk' : (Cond.classLink own ik cls).before args s' = true := vx_ot_at hW0 hvm.symm (hgood _ List.mem_cons_self) hk
  have hini' : (Cond.initialized cls).before args s' = true := vx_ot_at hW0 hvm.symm (hgood _ (List.mem_cons_of_mem _ List.mem_cons_self)) hini
  have hU' : vx_Zq Bundle.tN "UNASSIGNED_STACK" Bundle.steD A s' s'.heap := by rw [hhp]; exact vx_Zq.moved hW0.alike (hU.kept hS.2.1)
  have hN' : vx_Zq Bundle.tN "SUPPRESSED_SENTINEL" Bundle.listD A s' s'.heap := by rw [hhp]; exact vx_Zq.moved hW0.alike (hN.kept hS.2.1)
  have h : ∀ w ∈ Bundle.ownAtoms0 own ic cls names, w.before args s' = true := vx_own hat' (vx_isRefq hU'.1) (vx_isRefq hN'.1) hU'.2.word hN'.2.word
  have hown' : s'.vm.findClass own = some m.cls := by rw [hvm]; exact hown
  have hins : (Cond.instantiable cls 6).before args s' = true := h _ (by simp [Bundle.ownAtoms0])
  obtain ⟨vm₁, cX, kX, hfX, hkX, -, -, X₁, st1⟩ := Y.newCold hexec (own := own) (C := cls) (index := ik) (n := 6) hown' hk' hins hini'
    (g := F0 m pc ls rest) rfl (by rw [hb]; exact d0) (Nat.le_refl _) (Nat.le_refl _)
  generalize hT1 : (T.setVm vm₁).pushCell { cls := cX, slots := kX.instanceTypes.map defaultValue, vm := .none } = T1 at X₁ st1
  have hcat : (Value.ref T.heap.size).category = 1 := rfl
  have hcellA : T1.heap[T.heap.size]? = some (freshCell cX kX) := by rw [← hT1]; exact State.heap_pushCell_size _ _
  have d3' : decode c.code (pc + 3) = .ok (.dup, 1) := by rw [hb]; exact d3
  obtain ⟨U, hsteps, hrun, hend, hW, hsame, ce, hce, hO⟩ := X₁.ctorThrow0 hexec htr (own := own) (cls := cls) (names := names) (ic := ic) hown' hcls hnames h (fun x hx => nomatch hx) hfX hkX hcellA (by rw [hhp, hT]; exact Nat.le_refl _)
    (g := { method := m, pc := pc + 4, locals := ls, stack := .ref T.heap.size :: .ref T.heap.size :: rest, locked := none }) rfl hsize rfl rfl (rest := rest) rfl
    (by rw [hb]; exact d4) (by rw [hb]; exact d7) hout hRframes (by simp only [List.map_cons, List.sum_cons, hcat]; omega) hlocks
  obtain ⟨f1, f2⟩ := vx_frame hsame
  rw [hhp] at f1 f2
  have hWs : s.WarmedH U.vm := State.WarmedH.trans hW0 hW
  have hcl : s.vm.findClass cls = some ce.cls := by
    have h9 := hO.cls
    rw [hvm] at h9
    exact h9
  have hall : s.sameButNew ({ U with vm := s.vm } : State) locs mc ms := by
    subst hA
    obtain ⟨e1, e2⟩ := hsame
    rw [State.setFrames_setFrames] at e1
    have h2 : (T.setVm s.vm).sameButNew ({ U with vm := s.vm } : State) [] (0 + 1) (0 + 6) := ⟨e1, e2⟩
    have h3 := X.same.trans h2
    rw [List.append_nil] at h3
    exact h3.mono hc hs
  refine ⟨U, ?_, .threw T.heap.size, hrun, hend, Or.inr ⟨T.heap.size, rfl, cls, ce, locs, hx U hWs.alike f1 (fun q hq => f2 q hq (fun z hz => nomatch hz)), hce, hO.vm, hcl, hWs, hall, hf⟩⟩
  refine st1 _ ?_
  show Steps p.tables e below (T1.setTop { method := m, pc := pc + 3, locals := ls, stack := .ref T.heap.size :: rest, locked := none }) _
  jvm_step X₁.here [X₁.here.top, hexec, d3', Value.category]
  exact hsteps
/-- 'throw new E("text")': new; dup; ldc; invokespecial; athrow -/
theorem vx_throwS {cc : ByteArray} {pc : Nat} (hexec : p.tables.exec = Jvm.exec) (hb : c.code = cc) (hl : l.stackTraces = false) {own cls text : String} {names : List String} {ik is ic mc ms sa : Nat} {A : Nat → Prop}
    (hown : s.vm.findClass own = some m.cls) (hcls : Bundle.fit cls = true) (hnames : ∀ n ∈ names, Bundle.fit n = true)
    (hk : (Cond.classLink own ik cls).before args s = true) (hini : (Cond.initialized cls).before args s = true) (hstr : vk_R own is text sa s) (hat : ∀ w ∈ vx_atS own ic cls names, w.before args s = true)
    (hgood : ∀ w ∈ Cond.classLink own ik cls :: Cond.initialized cls :: vx_atS own ic cls names, vx_ot w = true)
    (hU : vx_Zq Bundle.tN "UNASSIGNED_STACK" Bundle.steD A s s.heap) (hN : vx_Zq Bundle.tN "SUPPRESSED_SENTINEL" Bundle.listD A s s.heap) (hS : va_S A s.heap H locs) (hsize : ls.size = c.maxLocals)
    (d0 : decode cc pc = .ok (.new ik, 3)) (d3 : decode cc (pc + 3) = .ok (.dup, 1)) (d4 : decode cc (pc + 4) = .ok (.ldc is, 2)) (d6 : decode cc (pc + 6) = .ok (.invokespecial ic, 3)) (d9 : decode cc (pc + 9) = .ok (.athrow, 1))
    (hout : ∀ x ∈ c.exceptionTable.toList, covers x (pc + 9) = false)
    (hRframes : names.length + 3 < R.frames) (hRlocals : (rest.map fun v => v.category).sum + (13 * (names.length + 1) + 43) ≤ R.locals) (hRcells : cells + 1 ≤ R.cells) (hRslots : slots + 6 ≤ R.slots) (hlocks : meth.locks = false)
    (hx : ∀ t : State, s.vm.Alike t.vm → H.size ≤ t.heap.size → (∀ q : Nat, q < H.size → t.heap[q]? = H[q]?) → XC cls s t)
    (hf : ∀ z ∈ locs, free z.base) (hc : cells + 1 ≤ mc) (hs : slots + 6 ≤ ms) :
    W p l e R s m args below meth c H locs cells slots (vx_MQ below Qc XC args s mc ms free) (F0 m pc ls rest) := by
  intro T hT X
  have htr : e.platform.stackTraces = false := (show e.platform.stackTraces = l.stackTraces by rw [X.admits.platform]).trans hl
  have Y := vx_rebase X (R' := { frames := R.frames, locals := R.locals, cells := 1, slots := 6 }) (Nat.le_refl _) (Nat.le_refl _) hRcells hRslots
  obtain ⟨s', hA⟩ : ∃ z, z = (T.setVm s.vm).setFrames (.invoking m args :: below) := ⟨_, rfl⟩
  rw [← hA] at Y
  have hvm : s'.vm = s.vm := by rw [hA]; rfl
  have hhp : s'.heap = H := by rw [hA]; exact hT
  have hW0 : s.WarmedH s'.vm := by rw [hvm]; exact State.WarmedH.refl s
  have hat' : ∀ w ∈ vx_atS own ic cls names, w.before args s' = true := fun w hw => vx_ot_at hW0 hvm.symm (hgood w (List.mem_cons_of_mem _ (List.mem_cons_of_mem _ hw))) (hat w hw)
  have hk' : (Cond.classLink own ik cls).before args s' = true := vx_ot_at hW0 hvm.symm (hgood _ List.mem_cons_self) hk
  have hini' : (Cond.initialized cls).before args s' = true := vx_ot_at hW0 hvm.symm (hgood _ (List.mem_cons_of_mem _ List.mem_cons_self)) hini
  have hU' : vx_Zq Bundle.tN "UNASSIGNED_STACK" Bundle.steD A s' s'.heap := by rw [hhp]; exact vx_Zq.moved hW0.alike (hU.kept hS.2.1)
  have hN' : vx_Zq Bundle.tN "SUPPRESSED_SENTINEL" Bundle.listD A s' s'.heap := by rw [hhp]; exact vx_Zq.moved hW0.alike (hN.kept hS.2.1)
  have h : ∀ w ∈ Bundle.ownAtoms own ic cls names, w.before args s' = true := vx_own hat' (vx_isRefq hU'.1) (vx_isRefq hN'.1) hU'.2.word hN'.2.word
  have hown' : s'.vm.findClass own = some m.cls := by rw [hvm]; exact hown
  have hins : (Cond.instantiable cls 6).before args s' = true := h _ (by simp [Bundle.ownAtoms])
  obtain ⟨vm₁, cX, kX, hfX, hkX, -, -, X₁, st1⟩ := Y.newCold hexec (own := own) (C := cls) (index := ik) (n := 6) hown' hk' hins hini'
    (g := F0 m pc ls rest) rfl (by rw [hb]; exact d0) (Nat.le_refl _) (Nat.le_refl _)
  generalize hT1 : (T.setVm vm₁).pushCell { cls := cX, slots := kX.instanceTypes.map defaultValue, vm := .none } = T1 at X₁ st1
  have hcat : (Value.ref T.heap.size).category = 1 := rfl
  have hcellA : T1.heap[T.heap.size]? = some (freshCell cX kX) := by rw [← hT1]; exact State.heap_pushCell_size _ _
  have d3' : decode c.code (pc + 3) = .ok (.dup, 1) := by rw [hb]; exact d3
  have d4' : decode c.code (pc + 4) = .ok (.ldc is, 2) := by rw [hb]; exact d4
  have hstr' : vk_R own is text sa s' := vk_R.warm hW0 hstr
  obtain ⟨U, hsteps, hrun, hend, hW, hsame, ce, hce, hO⟩ := X₁.ctorThrowS hexec htr (own := own) (cls := cls) (names := names) (ic := ic) hown' hcls hnames h (fun x hx => nomatch hx) hfX hkX hcellA (by rw [hhp, hT]; exact Nat.le_refl _) (msg := .ref sa) rfl
    (g := { method := m, pc := pc + 6, locals := ls, stack := .ref sa :: .ref T.heap.size :: .ref T.heap.size :: rest, locked := none }) rfl hsize rfl rfl (rest := rest) rfl
    (by rw [hb]; exact d6) (by rw [hb]; exact d9) hout hRframes (by simp only [List.map_cons, List.sum_cons, hcat]; omega) hlocks
  obtain ⟨f1, f2⟩ := vx_frame hsame
  rw [hhp] at f1 f2
  have hWs : s.WarmedH U.vm := State.WarmedH.trans hW0 hW
  have hcl : s.vm.findClass cls = some ce.cls := by
    have h9 := hO.cls
    rw [hvm] at h9
    exact h9
  have hall : s.sameButNew ({ U with vm := s.vm } : State) locs mc ms := by
    subst hA
    obtain ⟨e1, e2⟩ := hsame
    rw [State.setFrames_setFrames] at e1
    have h2 : (T.setVm s.vm).sameButNew ({ U with vm := s.vm } : State) [] (0 + 1) (0 + 6) := ⟨e1, e2⟩
    have h3 := X.same.trans h2
    rw [List.append_nil] at h3
    exact h3.mono hc hs
  refine ⟨U, ?_, .threw T.heap.size, hrun, hend, Or.inr ⟨T.heap.size, rfl, cls, ce, locs, hx U hWs.alike f1 (fun q hq => f2 q hq (fun z hz => nomatch hz)), hce, hO.vm, hcl, hWs, hall, hf⟩⟩
  refine st1 _ ?_
  show Steps p.tables e below (T1.setTop { method := m, pc := pc + 3, locals := ls, stack := .ref T.heap.size :: rest, locked := none }) _
  jvm_step X₁.here [X₁.here.top, hexec, d3', Value.category]
  exact X₁.ldcString hexec (own := own) (text := text) (index := is) (a := sa) hown' hstr'.1 hstr'.2
    (g := { method := m, pc := pc + 4, locals := ls, stack := .ref T.heap.size :: .ref T.heap.size :: rest, locked := none }) rfl d4' _ hsteps
/-- 'throw new E("text")', the text by a wide index -/
theorem vx_throwSW {cc : ByteArray} {pc : Nat} (hexec : p.tables.exec = Jvm.exec) (hb : c.code = cc) (hl : l.stackTraces = false) {own cls text : String} {names : List String} {ik is ic mc ms sa : Nat} {A : Nat → Prop}
    (hown : s.vm.findClass own = some m.cls) (hcls : Bundle.fit cls = true) (hnames : ∀ n ∈ names, Bundle.fit n = true)
    (hk : (Cond.classLink own ik cls).before args s = true) (hini : (Cond.initialized cls).before args s = true) (hstr : vk_R own is text sa s) (hat : ∀ w ∈ vx_atS own ic cls names, w.before args s = true)
    (hgood : ∀ w ∈ Cond.classLink own ik cls :: Cond.initialized cls :: vx_atS own ic cls names, vx_ot w = true)
    (hU : vx_Zq Bundle.tN "UNASSIGNED_STACK" Bundle.steD A s s.heap) (hN : vx_Zq Bundle.tN "SUPPRESSED_SENTINEL" Bundle.listD A s s.heap) (hS : va_S A s.heap H locs) (hsize : ls.size = c.maxLocals)
    (d0 : decode cc pc = .ok (.new ik, 3)) (d3 : decode cc (pc + 3) = .ok (.dup, 1)) (d4 : decode cc (pc + 4) = .ok (.ldc_w is, 3)) (d7 : decode cc (pc + 7) = .ok (.invokespecial ic, 3)) (d10 : decode cc (pc + 10) = .ok (.athrow, 1))
    (hout : ∀ x ∈ c.exceptionTable.toList, covers x (pc + 10) = false)
    (hRframes : names.length + 3 < R.frames) (hRlocals : (rest.map fun v => v.category).sum + (13 * (names.length + 1) + 43) ≤ R.locals) (hRcells : cells + 1 ≤ R.cells) (hRslots : slots + 6 ≤ R.slots) (hlocks : meth.locks = false)
    (hx : ∀ t : State, s.vm.Alike t.vm → H.size ≤ t.heap.size → (∀ q : Nat, q < H.size → t.heap[q]? = H[q]?) → XC cls s t)
    (hf : ∀ z ∈ locs, free z.base) (hc : cells + 1 ≤ mc) (hs : slots + 6 ≤ ms) :
    W p l e R s m args below meth c H locs cells slots (vx_MQ below Qc XC args s mc ms free) (F0 m pc ls rest) := by
  intro T hT X
  have htr : e.platform.stackTraces = false := (show e.platform.stackTraces = l.stackTraces by rw [X.admits.platform]).trans hl
  have Y := vx_rebase X (R' := { frames := R.frames, locals := R.locals, cells := 1, slots := 6 }) (Nat.le_refl _) (Nat.le_refl _) hRcells hRslots
  obtain ⟨s', hA⟩ : ∃ z, z = (T.setVm s.vm).setFrames (.invoking m args :: below) := ⟨_, rfl⟩
  rw [← hA] at Y
  have hvm : s'.vm = s.vm := by rw [hA]; rfl
  have hhp : s'.heap = H := by rw [hA]; exact hT
  have hW0 : s.WarmedH s'.vm := by rw [hvm]; exact State.WarmedH.refl s
  have hat' : ∀ w ∈ vx_atS own ic cls names, w.before args s' = true := fun w hw => vx_ot_at hW0 hvm.symm (hgood w (List.mem_cons_of_mem _ (List.mem_cons_of_mem _ hw))) (hat w hw)
  have hk' : (Cond.classLink own ik cls).before args s' = true := vx_ot_at hW0 hvm.symm (hgood _ List.mem_cons_self) hk
  have hini' : (Cond.initialized cls).before args s' = true := vx_ot_at hW0 hvm.symm (hgood _ (List.mem_cons_of_mem _ List.mem_cons_self)) hini
  have hU' : vx_Zq Bundle.tN "UNASSIGNED_STACK" Bundle.steD A s' s'.heap := by rw [hhp]; exact vx_Zq.moved hW0.alike (hU.kept hS.2.1)
  have hN' : vx_Zq Bundle.tN "SUPPRESSED_SENTINEL" Bundle.listD A s' s'.heap := by rw [hhp]; exact vx_Zq.moved hW0.alike (hN.kept hS.2.1)
  have h : ∀ w ∈ Bundle.ownAtoms own ic cls names, w.before args s' = true := vx_own hat' (vx_isRefq hU'.1) (vx_isRefq hN'.1) hU'.2.word hN'.2.word
  have hown' : s'.vm.findClass own = some m.cls := by rw [hvm]; exact hown
  have hins : (Cond.instantiable cls 6).before args s' = true := h _ (by simp [Bundle.ownAtoms])
  obtain ⟨vm₁, cX, kX, hfX, hkX, -, -, X₁, st1⟩ := Y.newCold hexec (own := own) (C := cls) (index := ik) (n := 6) hown' hk' hins hini'
    (g := F0 m pc ls rest) rfl (by rw [hb]; exact d0) (Nat.le_refl _) (Nat.le_refl _)
  generalize hT1 : (T.setVm vm₁).pushCell { cls := cX, slots := kX.instanceTypes.map defaultValue, vm := .none } = T1 at X₁ st1
  have hcat : (Value.ref T.heap.size).category = 1 := rfl
  have hcellA : T1.heap[T.heap.size]? = some (freshCell cX kX) := by rw [← hT1]; exact State.heap_pushCell_size _ _
  have d3' : decode c.code (pc + 3) = .ok (.dup, 1) := by rw [hb]; exact d3
  have d4' : decode c.code (pc + 4) = .ok (.ldc_w is, 3) := by rw [hb]; exact d4
  have hstr' : vk_R own is text sa s' := vk_R.warm hW0 hstr
  obtain ⟨U, hsteps, hrun, hend, hW, hsame, ce, hce, hO⟩ := X₁.ctorThrowS hexec htr (own := own) (cls := cls) (names := names) (ic := ic) hown' hcls hnames h (fun x hx => nomatch hx) hfX hkX hcellA (by rw [hhp, hT]; exact Nat.le_refl _) (msg := .ref sa) rfl
    (g := { method := m, pc := pc + 7, locals := ls, stack := .ref sa :: .ref T.heap.size :: .ref T.heap.size :: rest, locked := none }) rfl hsize rfl rfl (rest := rest) rfl
    (by rw [hb]; exact d7) (by rw [hb]; exact d10) hout hRframes (by simp only [List.map_cons, List.sum_cons, hcat]; omega) hlocks
  obtain ⟨f1, f2⟩ := vx_frame hsame
  rw [hhp] at f1 f2
  have hWs : s.WarmedH U.vm := State.WarmedH.trans hW0 hW
  have hcl : s.vm.findClass cls = some ce.cls := by
    have h9 := hO.cls
    rw [hvm] at h9
    exact h9
  have hall : s.sameButNew ({ U with vm := s.vm } : State) locs mc ms := by
    subst hA
    obtain ⟨e1, e2⟩ := hsame
    rw [State.setFrames_setFrames] at e1
    have h2 : (T.setVm s.vm).sameButNew ({ U with vm := s.vm } : State) [] (0 + 1) (0 + 6) := ⟨e1, e2⟩
    have h3 := X.same.trans h2
    rw [List.append_nil] at h3
    exact h3.mono hc hs
  refine ⟨U, ?_, .threw T.heap.size, hrun, hend, Or.inr ⟨T.heap.size, rfl, cls, ce, locs, hx U hWs.alike f1 (fun q hq => f2 q hq (fun z hz => nomatch hz)), hce, hO.vm, hcl, hWs, hall, hf⟩⟩
  refine st1 _ ?_
  show Steps p.tables e below (T1.setTop { method := m, pc := pc + 3, locals := ls, stack := .ref T.heap.size :: rest, locked := none }) _
  jvm_step X₁.here [X₁.here.top, hexec, d3', Value.category]
  exact X₁.ldcStringW hexec (own := own) (text := text) (index := is) (a := sa) hown' hstr'.1 hstr'.2
    (g := { method := m, pc := pc + 4, locals := ls, stack := .ref T.heap.size :: .ref T.heap.size :: rest, locked := none }) rfl d4' _ hsteps
end Ends
section Bodies
variable {l : Launch}
theorem vx_ofW {y : MethodName} {ws ws' : List Cond} {rm : Room} {Pc : Array Value → State → Prop} {Qc : Array Value → State → Outcome → State → Prop} {XC : String → State → State → Prop} {mc ms : Nat} {free : Addr → Prop} {cc : ByteArray} {maxL : Nat} {ret : Option FieldType}
    (hy : plainName y.cls = true) (hw : ws = Cond.code y cc maxL ret :: ws')
    (body : ∀ p e s m args below meth c s₁, BodyLoose p l y (headSpec ws rm) cc maxL ret e s m args below meth c s₁ → c.maxLocals = maxL → (∀ x ∈ c.exceptionTable.toList, False) → Pc args s →
      W p l e (headSpec ws rm).room s m args below meth c s.heap [] 0 0 (vx_MQ below Qc XC args s mc ms free) (entryFrame m args maxL)) : vx_Met l y ws rm Pc Qc XC mc ms free := by
  refine MetFree.of_bodyS (code := cc) (maxLocals := maxL) (ret := ret) hy ?_ ?_
  · intro args s m h hn
    obtain ⟨meth, c, h1, h2, h3, h4, h5, h6, -, -⟩ := Cond.code_spec hn (atoms_spec (ws := ws) h _ (by rw [hw]; exact List.mem_cons_self))
    exact ⟨meth, c, h1, h2, h3, h4, h5, h6⟩
  · intro p e s m args below meth c s₁ B hml hP _
    have hh0 : s₁.heap = s.heap := by rw [B.state]; rfl
    have ht : ∀ x ∈ c.exceptionTable.toList, False := by
      obtain ⟨meth9, c9, h1, h2, -, -, -, -, h7, -⟩ := Cond.code_spec B.named (atoms_spec (ws := ws) B.pre _ (by rw [hw]; exact List.mem_cons_self))
      cases Option.some.inj (h1.symm.trans B.method)
      cases Option.some.inj (h2.symm.trans (Stand.of_body B).code)
      intro x hx
      rw [Array.isEmpty_iff.mp h7] at hx
      cases hx
    obtain ⟨t, a1, o, b1, b2, b3⟩ := body p e s m args below meth c s₁ B hml ht hP s₁ hh0 (Stand.of_body B)
    exact ⟨t, o, a1, b1, b2, b3⟩
/-- the table of a body with handlers -/
theorem vx_table {p : Program} {x y : MethodName} {S : Spec} {cc bytes : ByteArray} {maxL maxL' : Nat} {ret ret' : Option FieldType} {e : Env} {s s₁ : State} {m : MethodId} {args : Array Value} {below : List Frame} {meth : Method} {c : Code} {hh : List (Nat × Nat × Nat × Nat)}
    (B : BodyLoose p l y S cc maxL ret e s m args below meth c s₁) (h : (Cond.codeWith y bytes maxL' ret' hh).before args s = true) : c.exceptionTable.toList = tableOf hh := by
  obtain ⟨m9, meth9, c9, hn9, h1, h2, -, -, h6, -⟩ := Cond.codeWith_spec h
  cases Option.some.inj (hn9.symm.trans B.named)
  cases Option.some.inj (h1.symm.trans B.method)
  cases Option.some.inj (h2.symm.trans (Stand.of_body B).code)
  rw [← h6, table_eq]
end Bodies
end VXA
/-! ===== END ===== -/
/-! ===== BEGIN a static call of a method with an exception table ===== -/
section VXS
variable {p : Program} {l : Launch} {e : Env} {R : Room} {s : State} {m : MethodId} {args : Array Value} {below : List Frame} {meth : Method} {c : Code} {T : State} {H : Heap} {locs : List Loc} {cells slots : Nat}
abbrev vx_CSW (R : Room) (s : State) (args : Array Value) (own : String) (index : Nat) (y : MethodName) (bytes : ByteArray) (maxL : Nat) (ret : Option FieldType) (hh : List (Nat × Nat × Nat × Nat)) (ws : List Cond) (rm : Room) (mc ms n : Nat) : Prop :=
  (rm.cells = mc ∧ rm.slots = ms ∧ rm.frames + 1 ≤ R.frames ∧ 8 + (maxL + 11) + rm.locals ≤ R.locals ∧ (∀ w ∈ ws, ∀ (a' : Array Value) (U : State), s.WarmedH U.vm → w.before a' U = true) ∧ Cond.codeWith y bytes maxL ret hh ∈ ws) ∧
  (Cond.codeWith y bytes maxL ret hh).before args s = true ∧ (Cond.initialized y.cls).before args s = true ∧ (y.cls ≠ "java/lang/invoke/MethodHandle" ∧ y.cls ≠ "java/lang/invoke/VarHandle") ∧
  (∀ sig, parseMethodDescriptor y.desc = some sig → n = sig.parameters.length) ∧ (Cond.methodLink own index y).before args s = true ∧ (Cond.static y).before args s = true
theorem vx_cwSW {own : String} {index maxL mc ms : Nat} {y : MethodName} {bytes : ByteArray} {ret : Option FieldType} {hh : List (Nat × Nat × Nat × Nat)} {Ts ws ws' : List Cond} {rm : Room} (n : Nat) (ht : ∀ w ∈ Ts, w.before args s = true) (hT : GoodIn Ts (va_wsS own index y ws)) (hw : ws = Cond.codeWith y bytes maxL ret hh :: ws') (hrc : rm.cells = mc) (hrs : rm.slots = ms)
    (hd : y.cls ≠ "java/lang/invoke/MethodHandle" ∧ y.cls ≠ "java/lang/invoke/VarHandle" ∧ (parseMethodDescriptor y.desc).map (fun d => d.parameters.length) = some n) (hR : rm.frames + 1 ≤ R.frames ∧ 8 + (maxL + 11) + rm.locals ≤ R.locals) :
    vx_CSW R s args own index y bytes maxL ret hh ws rm mc ms n := by
  have ok : ∀ w ∈ va_wsS own index y ws, w.before args s = true := fun w h => ht w (hT w h).1
  have hG : GoodIn Ts ws := fun w h => hT w (by unfold va_wsS; exact List.mem_append_right _ h)
  have hc : Cond.codeWith y bytes maxL ret hh ∈ ws := by rw [hw]; exact List.mem_cons_self
  refine ⟨⟨hrc, hrs, hR.1, hR.2, pay_in ht hG, hc⟩, ht _ (hG _ hc).1, ok _ (by simp [va_wsS]), ⟨hd.1, hd.2.1⟩, fun sig h => ?_, ok _ (by simp [va_wsS]), ok _ (by simp [va_wsS])⟩
  have h2 := hd.2.2
  rw [h] at h2
  exact (Option.some.inj h2).symm
theorem vx_callSW (X : Stand p l e R s m args below meth c T locs cells slots) (hexec : p.tables.exec = Jvm.exec) {own : String} {index : Nat} {y : MethodName} {bytes : ByteArray} {maxL : Nat} {ret : Option FieldType} {hh : List (Nat × Nat × Nat × Nat)}
    (hown : s.vm.findClass own = some m.cls) (hlink : (Cond.methodLink own index y).before args s = true) (hstat : (Cond.static y).before args s = true) (hinit : (Cond.initialized y.cls).before args s = true)
    (hcode : (Cond.codeWith y bytes maxL ret hh).before args s = true) (hy : y.cls ≠ "java/lang/invoke/MethodHandle" ∧ y.cls ≠ "java/lang/invoke/VarHandle")
    {W9 : Nat} {Pre : Pt → Array Value → Prop} {Post : Pt → Array Value → Option Value → Pt → Prop} (hK : Back l R p e below s args y 3 W9 Pre Post)
    {g : JFrame} (hg : g.method = m) (hsize : g.locals.size = c.maxLocals) {argsL rest : List Value} (hlen : ∀ sig, parseMethodDescriptor y.desc = some sig → argsL.length = sig.parameters.length)
    (hstack : g.stack = argsL.reverse ++ rest) (hW : 2 * g.monitorRoom + (rest.map fun v => v.category).sum ≤ W9) (hdg : decode c.code g.pc = .ok (.invokestatic index, 3))
    (hpre : ∀ vm₁, s.WarmedH vm₁ → Pre ⟨T.setVm vm₁, locs, cells, slots⟩ argsL.toArray) :
    ∃ (v : Option Value) (vm₁ : Vm) (B : Pt), s.WarmedH vm₁ ∧ Stand p l e R s m args below meth c B.U B.locs B.cells B.slots ∧ Post ⟨T.setVm vm₁, locs, cells, slots⟩ argsL.toArray v B ∧
      ∀ target, Steps p.tables e below (B.U.setTop { g with pc := g.pc + 3, stack := v.toList ++ rest }) target → Steps p.tables e below (T.setTop g) target := by
  obtain ⟨mk, methM, cM, hnamed, hmethM, -, -, -, -, -, -, hsigM⟩ := Cond.codeWith_spec hcode
  have hstatic : methM.isStatic = true := Cond.static_spec hnamed hmethM hstat
  obtain ⟨kP, hkP, -⟩ := className_of_methodNamed hnamed
  have hinitP : kP.init = .initialized := Cond.initialized_spec (findClass_of_methodNamed hnamed) hkP hinit
  obtain ⟨vm₁, X₁, hstep₁⟩ := X.invokestatic hexec hown hlink hnamed hmethM hstatic hkP hinitP hy (g := g) hg (argsL := argsL) (rest := rest) (hlen _ hsigM) hstack hdg
  obtain ⟨v, B, X', hpost, hsteps⟩ := hK m meth c ⟨T.setVm vm₁, locs, cells, slots⟩ { g with stack := rest } (.invokestatic index) mk argsL.toArray X₁ hg hsize hdg hW (X₁.named hnamed) (hpre vm₁ X₁.warmed)
  exact ⟨v, vm₁, B, X₁.warmed, X', hpost, fun target h => hstep₁ _ fun acts => by rw [doInvoke_state]; exact hsteps.trans h⟩
theorem vx_runSW {y : MethodName} {bytes cc : ByteArray} {maxL nL mc ms n index : Nat} {ret : Option FieldType} {hh : List (Nat × Nat × Nat × Nat)} {ws : List Cond} {rm : Room} {Pc : Array Value → State → Prop} {Qc : Array Value → State → Outcome → State → Prop} {free : Addr → Prop} {Ts : List Cond} {own : String} {As rest : List Value} {g : JFrame}
    (S : CallFix p m c cc nL s args Ts own) (hM : Met l y ws rm Pc Qc mc ms free) (cw : vx_CSW R s args own index y bytes maxL ret hh ws rm mc ms n) (hp : PreS s H Pc As)
    (hg : g.method = m) (hn : As.length = n) (hsize : g.locals.size = nL) (hstack : g.stack = As.reverse ++ rest) (hW : 2 * g.monitorRoom + (rest.map fun v => v.category).sum ≤ 8) (hdg : decode cc g.pc = .ok (.invokestatic index, 3)) (hf : cells + mc ≤ R.cells ∧ slots + ms ≤ R.slots) :
    va_Run p l e R s m args below meth c H locs cells slots mc ms g rest (Qc As.toArray) (free) := by
  obtain ⟨⟨hrc, hrs, hfr, hlo, hws, hcw⟩, hcode, hini, hy, hlen, hl, hstt⟩ := cw
  have hK : Back l R p e below s args y 3 8 (PreOf R mc ms Pc) (PostOf Qc mc ms free) := va_backW (hh := hh) (bytes := bytes) (maxL := maxL) (ret := ret) hM hp.1 hrc hrs hfr hlo hws hcw (fun a' U hW => word_at hW (Or.inl (by first | rfl | simp [Cond.onTables, Cond.keeps, Cond.steady])) hini)
  obtain ⟨hx, hb, hml, ho, -⟩ := S
  intro T hT X
  obtain ⟨v, vm₁, ⟨U', l2, c2, s2⟩, hW₁, X', ⟨g', mk, t, L, e1, e2, hq, h1, hL, h2, h3⟩, st⟩ := vx_callSW X hx (hh := hh) (bytes := bytes) (maxL := maxL) (ret := ret) ho hl hstt hini hcode hy hK hg (hsize.trans hml.symm) (argsL := As) (rest := rest) (fun sig h => hn.trans (hlen sig h)) hstack hW (by rw [hb]; exact hdg)
    (fun vm₁ hW₁ => ⟨hf.1, hf.2, hp.2 (T.setVm vm₁) hT hW₁⟩)
  dsimp only [Pt.U, Pt.locs, Pt.cells, Pt.slots] at X' e1 e2 h1 h2 h3 st
  subst h1; subst h2; subst h3
  exact ⟨v, (T.setVm vm₁).calling g' mk As.toArray, t, U', L, hT, X', hL, e1, e2, hq, st⟩
/-- not caught here, past rows that name other classes: it goes on to the caller -/
theorem vx_outP {p : Program} {l : Launch} {e : Env} {R : Room} {s : State} {m : MethodId} {args : Array Value} {below : List Frame} {meth : Method} {c : Code} {H : Heap} {locs : List Loc} {cells slots : Nat} {free : Addr → Prop} {ls : Array Slot} {rest : List Value} {Qc : Array Value → State → Outcome → State → Prop} {XC : String → State → State → Prop}
    {pc : Nat} {own E : String} {ce : Cell} {q : Addr} {mc ms : Nat} (hown : s.vm.findClass own = some m.cls) (hlocks : meth.locks = false)
    (hpass : ∀ z ∈ c.exceptionTable.toList, covers z pc = false ∨ (z.catchType ≠ 0 ∧ ∃ nm : String, (Cond.classLink own z.catchType nm).before args s = true ∧ va_Nc E nm s)) (hcell : H[q]? = some ce) (hv : ce.vm = .none) (hcl : s.vm.findClass E = some ce.cls)
    (hx : ∀ t : State, t.heap = H → s.vm.Alike t.vm → XC E s t) (hf : ∀ z ∈ locs, free z.base) (hc : cells ≤ mc) (hs : slots ≤ ms) :
    vx_W p l e R s m args below meth c H locs cells slots (vx_MQ below Qc XC args s mc ms free) (F0 m pc ls rest) q := by
  intro T hT X
  have hpl : e.platform.magicAccessors = ({} : Platform).magicAccessors := by rw [X.admits.platform]
  obtain ⟨vm', hW', X', st⟩ := X.outThrough hlocks q (g := F0 m pc ls rest) rfl rfl rfl (cell := ce) (by rw [hT]; exact hcell) (by rw [hv]; rfl)
    (by obtain ⟨k9, h9, -⟩ := Vm.findClass_spec hcl; exact ⟨k9, h9⟩) (fun z hz => by
      rcases hpass z hz with h | ⟨hz0, nm, hl1, hn1⟩
      · exact Or.inl h
      · obtain ⟨c6, hc6, hcl6⟩ := Cond.classLink_spec hown hl1 e.platform hpl
        obtain ⟨a8, b8, h1, h2, h3⟩ := hn1
        cases Option.some.inj (h1.symm.trans hcl)
        cases Option.some.inj (h2.symm.trans hc6)
        exact Or.inr ⟨hz0, _, hcl6, h3⟩)
  obtain ⟨g₀, hfr⟩ := X'.frames_eq
  have hcell9 : ((T.setVm vm').setFrames (.throwing q :: below)).heap[q]? = some ce := by
    show T.heap[q]? = some ce
    rw [hT]; exact hcell
  have hend : Ended ((T.setVm vm').setFrames (.throwing q :: below)) below (.threw q) := State.frames_setFrames _ (State.cur_lt_of_frames hfr)
  refine ⟨(T.setVm vm').setFrames (.throwing q :: below), ?_, .threw q, X'.here.running, hend, Or.inr ⟨q, rfl, E, ce, locs, hx _ hT (X'.ends _).1.alike, hcell9, hv, hcl, (X'.ends _).1, (X'.ends _).2.mono hc hs, hf⟩⟩
  rw [X.pushThrowing_eq]
  exact st
/-- a thing of a world lies in the heap -/
theorem vx_lt {D : va_G} {cl : List vw_C} {ws : va_W} {H1 : Heap} (h : va_P D cl ws H1) {k : Nat} {q : Nat × va_E} (hk : ws[k]? = some q) : q.1 < H1.size := (h k q hk).lt
end VXS
/-! ===== END ===== -/
/-! ===== BEGIN methods with a table of their own: called by a name, returning or throwing ===== -/
section VXH
/-! vx_backW, vx_callVX, vx_callSX, vx_callVW, vx_runVW, vx_runVX, vx_runSX, vx_ofWH follow the same proofs as their sisters above (Free/Laws.lean, Shelf42/LK1.lean); vx_outP calls Shelf42/NT130.lean (outThrough). -/
section
variable {l : Launch} {R : Room} {p : Program} {e : Env} {below : List Frame} {s : State} {sargs : Array Value} {y : MethodName} {len W9 : Nat}
theorem vx_backW {ws : List Cond} {rm : Room} {Pc : Array Value → State → Prop} {Qc : Array Value → State → Outcome → State → Prop} {XC : String → State → State → Prop} {mc ms : Nat} {free : Addr → Prop} {bytes : ByteArray} {maxL : Nat} {ret : Option FieldType} {hh : List (Nat × Nat × Nat × Nat)}
    (hM : vx_Met l y ws rm Pc Qc XC mc ms free) (hblind : FrameBlind Pc) (hrc : rm.cells = mc) (hrs : rm.slots = ms)
    (hframes : rm.frames + 1 ≤ R.frames) (hlocals : W9 + (maxL + 11) + rm.locals ≤ R.locals)
    (hws : ∀ w ∈ ws, ∀ a' U, s.WarmedH U.vm → w.before a' U = true) (hcode : Cond.codeWith y bytes maxL ret hh ∈ ws) (hinit : ∀ a' U, s.WarmedH U.vm → (Cond.initialized y.cls).before a' U = true) :
    vx_Back l R p e below s sargs y len W9 (PreOf R mc ms Pc) (PostOf Qc mc ms free) (vx_Post XC mc ms free) := by
  intro m meth c A g ig mk a X hg hsize hdg hW hn hp
  have h1 : (headSpec ws rm).pre.before a A.U = true := atoms_intro fun w hw => hws w hw _ _ X.warmed
  have h2 : (Cond.codeWith y bytes maxL ret hh).before a A.U = true := hws _ hcode _ _ X.warmed
  have h3 : (Cond.initialized y.cls).before a A.U = true := hinit _ _ X.warmed
  have h4 : A.cells + (headSpec ws rm).room.cells ≤ R.cells := by rw [show (headSpec ws rm).room.cells = mc from hrc]; exact hp.1
  have h5 : A.slots + (headSpec ws rm).room.slots ≤ R.slots := by rw [show (headSpec ws rm).room.slots = ms from hrs]; exact hp.2.1
  have hPc : Pc a (A.U.calling g mk a) := hblind _ _ _ _ hp.2.2
  obtain ⟨U, Ls, c0, s0⟩ := A
  dsimp only [Pt.U, Pt.locs, Pt.cells, Pt.slots] at h1 h2 h3 h4 h5 X hn hPc ⊢
  obtain ⟨m9, methY, cY, hn9, hmY, hcY, -, hlY, -⟩ := Cond.codeWith_spec h2
  cases Option.some.inj (hn9.symm.trans hn)
  obtain ⟨kY, hkY, -⟩ := className_of_methodNamed hn
  have hinitY : kY.init = .initialized := Cond.initialized_spec (findClass_of_methodNamed hn) hkY h3
  have h : At U g.method c below := by rw [hg]; exact X.here
  have hlocals9 : W9 + (maxL + 11) + (headSpec ws rm).room.locals ≤ R.locals := hlocals
  have happ : (headSpec ws rm).appliesLoose y e.platform (U.calling g mk a) = true :=
    Spec.appliesLoose_calling (g := g) h hdg hn hkY hinitY
      (X.room_calling (g := g) (R' := (headSpec ws rm).room) hsize hmY hcY hframes (by rw [hlY]; omega) h4 h5) h1
  obtain ⟨mid, hmid⟩ := h.above
  have hfr : (U.setTop g).frames = (.java g :: mid) ++ below := by rw [State.frames_setTop' g h.top, hmid]; rfl
  obtain ⟨o, s₂, hsteps, -, hend, hq⟩ := Steps.callFree hM p X.admits X.cas X.clock (acts := []) hfr happ hPc trivial
  have hq' : vx_Q Qc XC mc ms free a (U.calling g mk a) o s₂ := hq
  rw [State.frames_setTop' g h.top] at hend
  obtain ⟨g₀, hg0⟩ := Option.isSome_iff_exists.mp h.top
  obtain ⟨r, hr⟩ := State.topJava?_eq_some.mp hg0
  have hr' : (({ U with heap := s₂.heap, slotsUsed := s₂.slotsUsed } : State).setVm s₂.vm).frames = .java g₀ :: r := hr
  rcases hq' with ⟨hqc, L, hfe, hL⟩ | ⟨q, rfl, E, ce, L, hx, hce, hcv, hcl, hW₂, hsm, hL⟩
  · obtain ⟨⟨v, rfl⟩, hW₂, e2, q2, q3, q4, q5, q6⟩ := id hfe
    have e3 : s₂ = ({ (U.calling g mk a).setFrames s₂.frames with heap := s₂.heap, slotsUsed := s₂.slotsUsed } : State).setVm s₂.vm := by
      have : s₂ = ({ s₂ with vm := (U.calling g mk a).vm } : State).setVm s₂.vm := rfl
      rw [e2] at this
      exact this
    obtain ⟨c₂, i₂, len₂, hc₂, hd₂, hf₂⟩ := hend
    have hW' : U.WarmedH s₂.vm := hW₂
    have hcc : c₂ = c := by
      have h1 : s₂.code? g.method = U.code? g.method := by
        rw [State.code?_eq, State.code?_eq, hW'.alike.method?]
      exact Option.some.inj (hc₂.symm.trans (h1.trans h.code))
    subst hcc
    have hlen : len₂ = len := by rw [hdg] at hd₂; cases hd₂; rfl
    subst hlen
    have hs₂ : s₂ = (({ U with heap := s₂.heap, slotsUsed := s₂.slotsUsed } : State).setVm s₂.vm).setTop { g with pc := g.pc + len₂, stack := v.toList ++ g.stack } := by
      refine e3.trans ?_
      rw [hf₂, State.calling_eq h.top, State.setFrames_setFrames, State.setTop_of_frames _ hr', hr]
      rfl
    have hsame : U.sameButNew ({ U with heap := s₂.heap, slotsUsed := s₂.slotsUsed } : State) L mc ms := by
      refine ⟨?_, q2, q3, q4, q5, q6⟩
      obtain ⟨t, ht, -⟩ := State.frames_cons hr
      show ({ U with heap := s₂.heap, slotsUsed := s₂.slotsUsed } : State) = { U.setFrames U.frames with heap := s₂.heap, slotsUsed := s₂.slotsUsed }
      rw [State.setFrames_self ht]
    subst hg
    refine Or.inl ⟨v, ⟨(({ U with heap := s₂.heap, slotsUsed := s₂.slotsUsed } : State).setVm s₂.vm), Ls ++ L, c0 + mc, s0 + ms⟩,
      ⟨X.admits, X.cas, X.clock, X.frames, X.room, X.hears, X.method, X.code, (X.here.setHeapUsed s₂.heap s₂.slotsUsed).setVm hW'.alike, X.tail, State.WarmedH.trans X.warmed hW', X.limits, X.bytes, X.same.trans (hsame.setVm s.vm)⟩,
      ⟨g, mk, s₂, L, rfl, rfl, hqc, rfl, hL, rfl, rfl⟩, ?_⟩
    show Steps p.tables e below _ ((({ U with heap := s₂.heap, slotsUsed := s₂.slotsUsed } : State).setVm s₂.vm).setTop { g with pc := g.pc + len₂, stack := v.toList ++ g.stack })
    rw [← hs₂]
    exact hsteps
  · obtain ⟨e2, q2, q3, q4, q5, q6⟩ := id hsm
    have e3 : s₂ = ({ (U.calling g mk a).setFrames s₂.frames with heap := s₂.heap, slotsUsed := s₂.slotsUsed } : State).setVm s₂.vm := by
      have : s₂ = ({ s₂ with vm := (U.calling g mk a).vm } : State).setVm s₂.vm := rfl
      rw [e2] at this
      exact this
    have hf₂ : s₂.frames = .throwing q :: .java g :: U.frames.tail := hend
    have hW' : U.WarmedH s₂.vm := hW₂
    have hs₂ : s₂ = ((({ U with heap := s₂.heap, slotsUsed := s₂.slotsUsed } : State).setVm s₂.vm).setTop g).pushFrame (.throwing q) := by
      refine e3.trans ?_
      rw [hf₂, State.calling_eq h.top, State.setFrames_setFrames, State.pushFrame, State.frames_setTop _ hr', State.setTop_of_frames _ hr', State.setFrames_setFrames, hr]
      rfl
    have hsame : U.sameButNew ({ U with heap := s₂.heap, slotsUsed := s₂.slotsUsed } : State) L mc ms := by
      refine ⟨?_, q2, q3, q4, q5, q6⟩
      obtain ⟨t, ht, -⟩ := State.frames_cons hr
      show ({ U with heap := s₂.heap, slotsUsed := s₂.slotsUsed } : State) = { U.setFrames U.frames with heap := s₂.heap, slotsUsed := s₂.slotsUsed }
      rw [State.setFrames_self ht]
    subst hg
    refine Or.inr ⟨q, ⟨(({ U with heap := s₂.heap, slotsUsed := s₂.slotsUsed } : State).setVm s₂.vm), Ls ++ L, c0 + mc, s0 + ms⟩,
      ⟨X.admits, X.cas, X.clock, X.frames, X.room, X.hears, X.method, X.code, (X.here.setHeapUsed s₂.heap s₂.slotsUsed).setVm hW'.alike, X.tail, State.WarmedH.trans X.warmed hW', X.limits, X.bytes, X.same.trans (hsame.setVm s.vm)⟩,
      ⟨g, mk, s₂, L, E, ce, rfl, rfl, hx, hce, hcv, hcl, rfl, hL, rfl, rfl⟩, ?_⟩
    show Steps p.tables e below _ (((({ U with heap := s₂.heap, slotsUsed := s₂.slotsUsed } : State).setVm s₂.vm).setTop g).pushFrame (.throwing q))
    rw [← hs₂]
    exact hsteps
end
variable {p : Program} {l : Launch} {e : Env} {R : Room} {s : State} {m : MethodId} {args : Array Value} {below : List Frame} {meth : Method} {c : Code} {T : State} {H : Heap} {locs : List Loc} {cells slots : Nat}
theorem vx_callVX (X : Stand p l e R s m args below meth c T locs cells slots) (hexec : p.tables.exec = Jvm.exec) {own C : String} {index : Nat} {y : MethodName} {bytes : ByteArray} {maxL : Nat} {ret : Option FieldType} {hh : List (Nat × Nat × Nat × Nat)}
    (hown : s.vm.findClass own = some m.cls) (hlink : (Cond.methodLink own index y).before args s = true) (hinst : (Cond.instanceMethod y).before args s = true) (hsel : (Cond.selects C y y).before args s = true)
    (hcode : (Cond.codeWith y bytes maxL ret hh).before args s = true) (hy : y.cls ≠ "java/lang/invoke/MethodHandle" ∧ y.cls ≠ "java/lang/invoke/VarHandle")
    {W9 : Nat} {Pre : Pt → Array Value → Prop} {Post : Pt → Array Value → Option Value → Pt → Prop} {PostX : Pt → Array Value → Addr → Pt → Prop} (hK : vx_Back l R p e below s args y 3 W9 Pre Post PostX)
    {b : Addr} {cellB : Cell} (hcell : T.heap[b]? = some cellB) (hobj : cellB.vm.isStatics = false) (hcls : s.vm.findClass C = some cellB.cls)
    {g : JFrame} (hg : g.method = m) (hsize : g.locals.size = c.maxLocals) {argsL rest : List Value} (hlen : ∀ sig, parseMethodDescriptor y.desc = some sig → argsL.length = sig.parameters.length)
    (hstack : g.stack = argsL.reverse ++ .ref b :: rest) (hW : 2 * g.monitorRoom + (rest.map fun v => v.category).sum ≤ W9) (hdg : decode c.code g.pc = .ok (.invokevirtual index, 3))
    (hpre : ∀ vm₁, s.WarmedH vm₁ → Pre ⟨T.setVm vm₁, locs, cells, slots⟩ (Value.ref b :: argsL).toArray) :
    (∃ (v : Option Value) (vm₁ : Vm) (B : Pt), s.WarmedH vm₁ ∧ Stand p l e R s m args below meth c B.U B.locs B.cells B.slots ∧ Post ⟨T.setVm vm₁, locs, cells, slots⟩ (Value.ref b :: argsL).toArray v B ∧
      ∀ target, Steps p.tables e below (B.U.setTop { g with pc := g.pc + 3, stack := v.toList ++ rest }) target → Steps p.tables e below (T.setTop g) target) ∨
    (∃ (q : Addr) (vm₁ : Vm) (B : Pt), s.WarmedH vm₁ ∧ Stand p l e R s m args below meth c B.U B.locs B.cells B.slots ∧ PostX ⟨T.setVm vm₁, locs, cells, slots⟩ (Value.ref b :: argsL).toArray q B ∧
      Steps p.tables e below (T.setTop g) ((B.U.setTop { g with stack := rest }).pushFrame (.throwing q))) := by
  obtain ⟨mk, methM, hnamed, hmethM, hstM, habM⟩ := Cond.instanceMethod_spec hinst
  obtain ⟨m8, methM', cM, hn8, hmethM', -, -, -, -, -, -, hsigM⟩ := Cond.codeWith_spec hcode
  cases Option.some.inj (hn8.symm.trans hnamed)
  cases hmethM.symm.trans hmethM'
  obtain ⟨c2, r2, m2, q1, q2, q3, q4, kP, hkP, hkPi⟩ := Cond.selects_spec hsel
  cases hcls.symm.trans q1
  cases (State.methodFound?_of_named hnamed hy).symm.trans q2
  cases hnamed.symm.trans q3
  have hselP : selectMethod e.platform s.vm cellB.cls mk = .method mk := by rw [Launch.admits_selectMethod X.admits]; exact q4
  obtain ⟨vm₁, X₁, hstep₁⟩ := X.invokevirtual hexec hown hlink hnamed hmethM hstM hkP hkPi hy (a := b) (cell := cellB) hcell
    (fun z h => by rw [h] at hobj; cases hobj) hselP hmethM habM hkP hkPi (g := g) hg (argsL := argsL) (rest := rest) (hlen _ hsigM) hstack hdg
  rcases hK m meth c ⟨T.setVm vm₁, locs, cells, slots⟩ { g with stack := rest } (.invokevirtual index) mk (Value.ref b :: argsL).toArray X₁ hg hsize hdg hW (X₁.named hnamed) (hpre vm₁ X₁.warmed) with ⟨v, B, X', hpost, hsteps⟩ | ⟨q, B, X', hpost, hsteps⟩
  · exact Or.inl ⟨v, vm₁, B, X₁.warmed, X', hpost, fun target h => hstep₁ _ fun acts => by rw [doInvoke_state]; exact hsteps.trans h⟩
  · exact Or.inr ⟨q, vm₁, B, X₁.warmed, X', hpost, hstep₁ _ fun acts => by rw [doInvoke_state]; exact hsteps⟩
theorem vx_callSX (X : Stand p l e R s m args below meth c T locs cells slots) (hexec : p.tables.exec = Jvm.exec) {own : String} {index : Nat} {y : MethodName} {bytes : ByteArray} {maxL : Nat} {ret : Option FieldType} {hh : List (Nat × Nat × Nat × Nat)}
    (hown : s.vm.findClass own = some m.cls) (hlink : (Cond.methodLink own index y).before args s = true) (hstat : (Cond.static y).before args s = true) (hinit : (Cond.initialized y.cls).before args s = true)
    (hcode : (Cond.codeWith y bytes maxL ret hh).before args s = true) (hy : y.cls ≠ "java/lang/invoke/MethodHandle" ∧ y.cls ≠ "java/lang/invoke/VarHandle")
    {W9 : Nat} {Pre : Pt → Array Value → Prop} {Post : Pt → Array Value → Option Value → Pt → Prop} {PostX : Pt → Array Value → Addr → Pt → Prop} (hK : vx_Back l R p e below s args y 3 W9 Pre Post PostX)
    {g : JFrame} (hg : g.method = m) (hsize : g.locals.size = c.maxLocals) {argsL rest : List Value} (hlen : ∀ sig, parseMethodDescriptor y.desc = some sig → argsL.length = sig.parameters.length)
    (hstack : g.stack = argsL.reverse ++ rest) (hW : 2 * g.monitorRoom + (rest.map fun v => v.category).sum ≤ W9) (hdg : decode c.code g.pc = .ok (.invokestatic index, 3))
    (hpre : ∀ vm₁, s.WarmedH vm₁ → Pre ⟨T.setVm vm₁, locs, cells, slots⟩ argsL.toArray) :
    (∃ (v : Option Value) (vm₁ : Vm) (B : Pt), s.WarmedH vm₁ ∧ Stand p l e R s m args below meth c B.U B.locs B.cells B.slots ∧ Post ⟨T.setVm vm₁, locs, cells, slots⟩ argsL.toArray v B ∧
      ∀ target, Steps p.tables e below (B.U.setTop { g with pc := g.pc + 3, stack := v.toList ++ rest }) target → Steps p.tables e below (T.setTop g) target) ∨
    (∃ (q : Addr) (vm₁ : Vm) (B : Pt), s.WarmedH vm₁ ∧ Stand p l e R s m args below meth c B.U B.locs B.cells B.slots ∧ PostX ⟨T.setVm vm₁, locs, cells, slots⟩ argsL.toArray q B ∧
      Steps p.tables e below (T.setTop g) ((B.U.setTop { g with stack := rest }).pushFrame (.throwing q))) := by
  obtain ⟨mk, methM, cM, hnamed, hmethM, -, -, -, -, -, -, hsigM⟩ := Cond.codeWith_spec hcode
  have hstatic : methM.isStatic = true := Cond.static_spec hnamed hmethM hstat
  obtain ⟨kP, hkP, -⟩ := className_of_methodNamed hnamed
  have hinitP : kP.init = .initialized := Cond.initialized_spec (findClass_of_methodNamed hnamed) hkP hinit
  obtain ⟨vm₁, X₁, hstep₁⟩ := X.invokestatic hexec hown hlink hnamed hmethM hstatic hkP hinitP hy (g := g) hg (argsL := argsL) (rest := rest) (hlen _ hsigM) hstack hdg
  rcases hK m meth c ⟨T.setVm vm₁, locs, cells, slots⟩ { g with stack := rest } (.invokestatic index) mk argsL.toArray X₁ hg hsize hdg hW (X₁.named hnamed) (hpre vm₁ X₁.warmed) with ⟨v, B, X', hpost, hsteps⟩ | ⟨q, B, X', hpost, hsteps⟩
  · exact Or.inl ⟨v, vm₁, B, X₁.warmed, X', hpost, fun target h => hstep₁ _ fun acts => by rw [doInvoke_state]; exact hsteps.trans h⟩
  · exact Or.inr ⟨q, vm₁, B, X₁.warmed, X', hpost, hstep₁ _ fun acts => by rw [doInvoke_state]; exact hsteps⟩
theorem vx_callVW (X : Stand p l e R s m args below meth c T locs cells slots) (hexec : p.tables.exec = Jvm.exec) {own C : String} {index : Nat} {y : MethodName} {bytes : ByteArray} {maxL : Nat} {ret : Option FieldType} {hh : List (Nat × Nat × Nat × Nat)}
    (hown : s.vm.findClass own = some m.cls) (hlink : (Cond.methodLink own index y).before args s = true) (hinst : (Cond.instanceMethod y).before args s = true) (hsel : (Cond.selects C y y).before args s = true)
    (hcode : (Cond.codeWith y bytes maxL ret hh).before args s = true) (hy : y.cls ≠ "java/lang/invoke/MethodHandle" ∧ y.cls ≠ "java/lang/invoke/VarHandle")
    {W9 : Nat} {Pre : Pt → Array Value → Prop} {Post : Pt → Array Value → Option Value → Pt → Prop} (hK : Back l R p e below s args y 3 W9 Pre Post)
    {b : Addr} {cellB : Cell} (hcell : T.heap[b]? = some cellB) (hobj : cellB.vm.isStatics = false) (hcls : s.vm.findClass C = some cellB.cls)
    {g : JFrame} (hg : g.method = m) (hsize : g.locals.size = c.maxLocals) {argsL rest : List Value} (hlen : ∀ sig, parseMethodDescriptor y.desc = some sig → argsL.length = sig.parameters.length)
    (hstack : g.stack = argsL.reverse ++ .ref b :: rest) (hW : 2 * g.monitorRoom + (rest.map fun v => v.category).sum ≤ W9) (hdg : decode c.code g.pc = .ok (.invokevirtual index, 3))
    (hpre : ∀ vm₁, s.WarmedH vm₁ → Pre ⟨T.setVm vm₁, locs, cells, slots⟩ (Value.ref b :: argsL).toArray) :
    ∃ (v : Option Value) (vm₁ : Vm) (B : Pt), s.WarmedH vm₁ ∧ Stand p l e R s m args below meth c B.U B.locs B.cells B.slots ∧ Post ⟨T.setVm vm₁, locs, cells, slots⟩ (Value.ref b :: argsL).toArray v B ∧
      ∀ target, Steps p.tables e below (B.U.setTop { g with pc := g.pc + 3, stack := v.toList ++ rest }) target → Steps p.tables e below (T.setTop g) target := by
  obtain ⟨mk, methM, hnamed, hmethM, hstM, habM⟩ := Cond.instanceMethod_spec hinst
  obtain ⟨m8, methM', cM, hn8, hmethM', -, -, -, -, -, -, hsigM⟩ := Cond.codeWith_spec hcode
  cases Option.some.inj (hn8.symm.trans hnamed)
  cases hmethM.symm.trans hmethM'
  obtain ⟨c2, r2, m2, q1, q2, q3, q4, kP, hkP, hkPi⟩ := Cond.selects_spec hsel
  cases hcls.symm.trans q1
  cases (State.methodFound?_of_named hnamed hy).symm.trans q2
  cases hnamed.symm.trans q3
  have hselP : selectMethod e.platform s.vm cellB.cls mk = .method mk := by rw [Launch.admits_selectMethod X.admits]; exact q4
  obtain ⟨vm₁, X₁, hstep₁⟩ := X.invokevirtual hexec hown hlink hnamed hmethM hstM hkP hkPi hy (a := b) (cell := cellB) hcell
    (fun z h => by rw [h] at hobj; cases hobj) hselP hmethM habM hkP hkPi (g := g) hg (argsL := argsL) (rest := rest) (hlen _ hsigM) hstack hdg
  obtain ⟨v, B, X', hpost, hsteps⟩ := hK m meth c ⟨T.setVm vm₁, locs, cells, slots⟩ { g with stack := rest } (.invokevirtual index) mk (Value.ref b :: argsL).toArray X₁ hg hsize hdg hW (X₁.named hnamed) (hpre vm₁ X₁.warmed)
  exact ⟨v, vm₁, B, X₁.warmed, X', hpost, fun target h => hstep₁ _ fun acts => by rw [doInvoke_state]; exact hsteps.trans h⟩
abbrev vx_CVW (R : Room) (s : State) (args : Array Value) (own C : String) (index : Nat) (y : MethodName) (bytes : ByteArray) (maxL : Nat) (ret : Option FieldType) (hh : List (Nat × Nat × Nat × Nat)) (ws : List Cond) (rm : Room) (mc ms n : Nat) : Prop :=
  (rm.cells = mc ∧ rm.slots = ms ∧ rm.frames + 1 ≤ R.frames ∧ 8 + (maxL + 11) + rm.locals ≤ R.locals ∧ (∀ w ∈ ws, ∀ (a' : Array Value) (U : State), s.WarmedH U.vm → w.before a' U = true) ∧ Cond.codeWith y bytes maxL ret hh ∈ ws) ∧
  (Cond.codeWith y bytes maxL ret hh).before args s = true ∧ (Cond.initialized y.cls).before args s = true ∧ (y.cls ≠ "java/lang/invoke/MethodHandle" ∧ y.cls ≠ "java/lang/invoke/VarHandle") ∧
  (∀ sig, parseMethodDescriptor y.desc = some sig → n = sig.parameters.length) ∧ (Cond.methodLink own index y).before args s = true ∧ (Cond.instanceMethod y).before args s = true ∧ (Cond.selects C y y).before args s = true
theorem vx_cwVW {own C : String} {index maxL mc ms : Nat} {y : MethodName} {bytes : ByteArray} {ret : Option FieldType} {hh : List (Nat × Nat × Nat × Nat)} {Ts ws ws' : List Cond} {rm : Room} (n : Nat) (ht : ∀ w ∈ Ts, w.before args s = true) (hT : GoodIn Ts (wsV own index C y ws)) (hw : ws = Cond.codeWith y bytes maxL ret hh :: ws') (hrc : rm.cells = mc) (hrs : rm.slots = ms)
    (hd : y.cls = C ∧ y.cls ≠ "java/lang/invoke/MethodHandle" ∧ y.cls ≠ "java/lang/invoke/VarHandle" ∧ (parseMethodDescriptor y.desc).map (fun d => d.parameters.length) = some n) (hR : rm.frames + 1 ≤ R.frames ∧ 8 + (maxL + 11) + rm.locals ≤ R.locals) :
    vx_CVW R s args own C index y bytes maxL ret hh ws rm mc ms n := by
  obtain ⟨hC, hd⟩ := hd
  subst hC
  have ok : ∀ w ∈ wsV own index y.cls y ws, w.before args s = true := fun w h => ht w (hT w h).1
  have hG : GoodIn Ts ws := fun w h => hT w (by unfold wsV; exact List.mem_append_right _ h)
  have hc : Cond.codeWith y bytes maxL ret hh ∈ ws := by rw [hw]; exact List.mem_cons_self
  refine ⟨⟨hrc, hrs, hR.1, hR.2, pay_in ht hG, hc⟩, ht _ (hG _ hc).1, ok _ (by simp [wsV]), ⟨hd.1, hd.2.1⟩, fun sig h => ?_, ok _ (by simp [wsV]), ok _ (by simp [wsV]), ok _ (by simp [wsV])⟩
  have h2 := hd.2.2
  rw [h] at h2
  exact (Option.some.inj h2).symm
theorem vx_runVW {y : MethodName} {bytes cc : ByteArray} {maxL nL mc ms n index : Nat} {ret : Option FieldType} {hh : List (Nat × Nat × Nat × Nat)} {ws : List Cond} {rm : Room} {Pc : Array Value → State → Prop} {Qc : Array Value → State → Outcome → State → Prop} {free : Addr → Prop} {Ts : List Cond} {own C : String} {b : Addr} {As rest : List Value} {g : JFrame}
    (S : CallFix p m c cc nL s args Ts own) (hM : Met l y ws rm Pc Qc mc ms free) (cw : vx_CVW R s args own C index y bytes maxL ret hh ws rm mc ms n) (hp : PreV s H C b Pc As)
    (hg : g.method = m) (hn : As.length = n) (hsize : g.locals.size = nL) (hstack : g.stack = As.reverse ++ .ref b :: rest) (hW : 2 * g.monitorRoom + (rest.map fun v => v.category).sum ≤ 8) (hdg : decode cc g.pc = .ok (.invokevirtual index, 3)) (hf : cells + mc ≤ R.cells ∧ slots + ms ≤ R.slots) :
    va_Run p l e R s m args below meth c H locs cells slots mc ms g rest (Qc (Value.ref b :: As).toArray) free := by
  obtain ⟨⟨hrc, hrs, hfr, hlo, hws, hcw⟩, hcode, hini, hy, hlen, hl, hin, hse⟩ := cw
  have hK : Back l R p e below s args y 3 8 (PreOf R mc ms Pc) (PostOf Qc mc ms free) := va_backW (hh := hh) (bytes := bytes) (maxL := maxL) (ret := ret) hM hp.1 hrc hrs hfr hlo hws hcw (fun a' U hW => word_at hW (Or.inl (by first | rfl | simp [Cond.onTables, Cond.keeps, Cond.steady])) hini)
  obtain ⟨hx, hb, hml, ho, -⟩ := S
  obtain ⟨-, ⟨cellB, hcB, hoB, hclB⟩, hPc⟩ := hp
  intro T hT X
  obtain ⟨v, vm₁, ⟨U', l2, c2, s2⟩, hW₁, X', ⟨g', mk, t, L, e1, e2, hq, h1, hL, h2, h3⟩, st⟩ := vx_callVW X hx (C := C) (hh := hh) (bytes := bytes) (maxL := maxL) (ret := ret) ho hl hin hse hcode hy hK (by rw [hT]; exact hcB) hoB hclB hg (hsize.trans hml.symm) (argsL := As) (rest := rest) (fun sig h => hn.trans (hlen sig h)) hstack hW (by rw [hb]; exact hdg)
    (fun vm₁ hW₁ => ⟨hf.1, hf.2, hPc (T.setVm vm₁) hT hW₁⟩)
  dsimp only [Pt.U, Pt.locs, Pt.cells, Pt.slots] at X' e1 e2 h1 h2 h3 st
  subst h1; subst h2; subst h3
  exact ⟨v, (T.setVm vm₁).calling g' mk (Value.ref b :: As).toArray, t, U', L, hT, X', hL, e1, e2, hq, st⟩
section
variable {y : MethodName} {bytes cc : ByteArray} {maxL nL mc ms n index : Nat} {ret : Option FieldType} {ws : List Cond} {rm : Room} {Pc : Array Value → State → Prop} {Qc : Array Value → State → Outcome → State → Prop} {XC : String → State → State → Prop} {free : Addr → Prop} {Ts : List Cond} {own C : String} {b : Addr} {As rest : List Value} {g : JFrame}
theorem vx_runVX {hh : List (Nat × Nat × Nat × Nat)} (S : CallFix p m c cc nL s args Ts own) (hM : vx_Met l y ws rm Pc Qc XC mc ms free) (cw : vx_CVW R s args own C index y bytes maxL ret hh ws rm mc ms n) (hp : PreV s H C b Pc As)
    (hg : g.method = m) (hn : As.length = n) (hsize : g.locals.size = nL) (hstack : g.stack = As.reverse ++ .ref b :: rest) (hW : 2 * g.monitorRoom + (rest.map fun v => v.category).sum ≤ 8) (hdg : decode cc g.pc = .ok (.invokevirtual index, 3)) (hf : cells + mc ≤ R.cells ∧ slots + ms ≤ R.slots) :
    vx_Run p l e R s m args below meth c H locs cells slots mc ms g rest (Qc (Value.ref b :: As).toArray) XC free := by
  obtain ⟨⟨hrc, hrs, hfr, hlo, hws, hcw⟩, hcode, hini, hy, hlen, hl, hin, hse⟩ := cw
  have hK : vx_Back l R p e below s args y 3 8 (PreOf R mc ms Pc) (PostOf Qc mc ms free) (vx_Post XC mc ms free) := vx_backW (hh := hh) (bytes := bytes) (maxL := maxL) (ret := ret) hM hp.1 hrc hrs hfr hlo hws hcw (fun a' U hW => word_at hW (Or.inl (by first | rfl | simp [Cond.onTables, Cond.keeps, Cond.steady])) hini)
  obtain ⟨hx, hb, hml, ho, -⟩ := S
  obtain ⟨-, ⟨cellB, hcB, hoB, hclB⟩, hPc⟩ := hp
  intro T hT X
  rcases vx_callVX X hx (C := C) (hh := hh) (bytes := bytes) (maxL := maxL) (ret := ret) ho hl hin hse hcode hy hK (by rw [hT]; exact hcB) hoB hclB hg (hsize.trans hml.symm) (argsL := As) (rest := rest) (fun sig h => hn.trans (hlen sig h)) hstack hW (by rw [hb]; exact hdg)
    (fun vm₁ hW₁ => ⟨hf.1, hf.2, hPc (T.setVm vm₁) hT hW₁⟩) with ⟨v, vm₁, ⟨U', l2, c2, s2⟩, hW₁, X', ⟨g', mk, t, L, e1, e2, hq, h1, hL, h2, h3⟩, st⟩ | ⟨q, vm₁, ⟨U', l2, c2, s2⟩, hW₁, X', ⟨g', mk, t, L, E, ce, e1, e2, hq, hce, hcv, hcl, h1, hL, h2, h3⟩, st⟩
  · dsimp only [Pt.U, Pt.locs, Pt.cells, Pt.slots] at X' e1 e2 h1 h2 h3 st
    subst h1; subst h2; subst h3
    exact Or.inl ⟨v, (T.setVm vm₁).calling g' mk (Value.ref b :: As).toArray, t, U', L, hT, X', hL, e1, e2, hq, st⟩
  · dsimp only [Pt.U, Pt.locs, Pt.cells, Pt.slots] at X' e1 e2 h1 h2 h3 st hcl
    subst h1; subst h2; subst h3
    exact Or.inr ⟨q, (T.setVm vm₁).calling g' mk (Value.ref b :: As).toArray, t, U', L, E, ce, hT, X', hL, e1, e2, hq, hce, hcv, vx_cls hW₁ hcl, st⟩
theorem vx_runSX {hh : List (Nat × Nat × Nat × Nat)} (S : CallFix p m c cc nL s args Ts own) (hM : vx_Met l y ws rm Pc Qc XC mc ms free) (cw : vx_CSW R s args own index y bytes maxL ret hh ws rm mc ms n) (hp : PreS s H Pc As)
    (hg : g.method = m) (hn : As.length = n) (hsize : g.locals.size = nL) (hstack : g.stack = As.reverse ++ rest) (hW : 2 * g.monitorRoom + (rest.map fun v => v.category).sum ≤ 8) (hdg : decode cc g.pc = .ok (.invokestatic index, 3)) (hf : cells + mc ≤ R.cells ∧ slots + ms ≤ R.slots) :
    vx_Run p l e R s m args below meth c H locs cells slots mc ms g rest (Qc As.toArray) XC free := by
  obtain ⟨⟨hrc, hrs, hfr, hlo, hws, hcw⟩, hcode, hini, hy, hlen, hl, hstt⟩ := cw
  have hK : vx_Back l R p e below s args y 3 8 (PreOf R mc ms Pc) (PostOf Qc mc ms free) (vx_Post XC mc ms free) := vx_backW (hh := hh) (bytes := bytes) (maxL := maxL) (ret := ret) hM hp.1 hrc hrs hfr hlo hws hcw (fun a' U hW => word_at hW (Or.inl (by first | rfl | simp [Cond.onTables, Cond.keeps, Cond.steady])) hini)
  obtain ⟨hx, hb, hml, ho, -⟩ := S
  intro T hT X
  rcases vx_callSX X hx (hh := hh) (bytes := bytes) (maxL := maxL) (ret := ret) ho hl hstt hini hcode hy hK hg (hsize.trans hml.symm) (argsL := As) (rest := rest) (fun sig h => hn.trans (hlen sig h)) hstack hW (by rw [hb]; exact hdg)
    (fun vm₁ hW₁ => ⟨hf.1, hf.2, hp.2 (T.setVm vm₁) hT hW₁⟩) with ⟨v, vm₁, ⟨U', l2, c2, s2⟩, hW₁, X', ⟨g', mk, t, L, e1, e2, hq, h1, hL, h2, h3⟩, st⟩ | ⟨q, vm₁, ⟨U', l2, c2, s2⟩, hW₁, X', ⟨g', mk, t, L, E, ce, e1, e2, hq, hce, hcv, hcl, h1, hL, h2, h3⟩, st⟩
  · dsimp only [Pt.U, Pt.locs, Pt.cells, Pt.slots] at X' e1 e2 h1 h2 h3 st
    subst h1; subst h2; subst h3
    exact Or.inl ⟨v, (T.setVm vm₁).calling g' mk As.toArray, t, U', L, hT, X', hL, e1, e2, hq, st⟩
  · dsimp only [Pt.U, Pt.locs, Pt.cells, Pt.slots] at X' e1 e2 h1 h2 h3 st hcl
    subst h1; subst h2; subst h3
    exact Or.inr ⟨q, (T.setVm vm₁).calling g' mk As.toArray, t, U', L, E, ce, hT, X', hL, e1, e2, hq, hce, hcv, vx_cls hW₁ hcl, st⟩
end
end VXH
theorem vx_ofWH {l : Launch} {y : MethodName} {ws ws' : List Cond} {rm : Room} {Pc : Array Value → State → Prop} {Qc : Array Value → State → Outcome → State → Prop} {XC : String → State → State → Prop} {mc ms : Nat} {free : Addr → Prop} {cc : ByteArray} {maxL : Nat} {ret : Option FieldType} {hh : List (Nat × Nat × Nat × Nat)}
    (hy : plainName y.cls = true) (hw : ws = Cond.codeWith y cc maxL ret hh :: ws')
    (body : ∀ p e s m args below meth c s₁, BodyLoose p l y (headSpec ws rm) cc maxL ret e s m args below meth c s₁ → c.maxLocals = maxL → Pc args s →
      W p l e (headSpec ws rm).room s m args below meth c s.heap [] 0 0 (vx_MQ below Qc XC args s mc ms free) (entryFrame m args maxL)) : vx_Met l y ws rm Pc Qc XC mc ms free := by
  refine MetFree.of_bodyS (code := cc) (maxLocals := maxL) (ret := ret) hy ?_ ?_
  · intro args s m h hn
    obtain ⟨m9, meth, c, hn9, h1, h2, h3, h4, -, h5, h6, -⟩ := Cond.codeWith_spec (atoms_spec (ws := ws) h _ (by rw [hw]; exact List.mem_cons_self))
    cases hn.symm.trans hn9
    exact ⟨meth, c, h1, h2, h3, h4, h5, h6⟩
  · intro p e s m args below meth c s₁ B hml hP _
    have hh0 : s₁.heap = s.heap := by rw [B.state]; rfl
    obtain ⟨t, a1, o, b1, b2, b3⟩ := body p e s m args below meth c s₁ B hml hP s₁ hh0 (Stand.of_body B)
    exact ⟨t, o, a1, b1, b2, b3⟩
/-! ===== END ===== -/
end
section
/-! ===== BEGIN printed: names, fields, word lists, decode rows ===== -/
def RX0 : String := "PhoneRater$Account"
def TX0 : u_T := fun k => match k with
  | 0 => ("PhoneRater$Account", "threshold", "I", true)
  | 1 => ("PhoneRater$Account", "percent", "I", true)
  | 2 => ("PhoneRater$Account", "bundle", "I", false)
  | 3 => ("PhoneRater$Account", "unused", "I", false)
  | 4 => ("PhoneRater$Account", "emptier", "I", false)
  | _ => ("PhoneRater$Account", "prices", "I", false)
def tyX0 : Nat → FieldType := fun k => match k with
  | 0 => .int
  | 1 => .int
  | 2 => .int
  | 3 => .int
  | 4 => .int
  | _ => .int
abbrev wsX00 : List Cond := u_ws RX0 TX0 6
theorem nmX0 : ∀ a, a < 6 → ∀ b, b < 6 → a ≠ b → (TX0 a).2.1 ≠ (TX0 b).2.1 := by decide +kernel
theorem tyX0_ok : ∀ k, k < 6 → parseFieldDescriptor (TX0 k).2.2.1 = some (tyX0 k) := by decide +kernel
abbrev cX0_init : ByteArray := prog_2_method_1_code
def yX0_init : MethodName := ⟨RX0, "<init>", "(III)V"⟩
abbrev cX0_forgetRating : ByteArray := prog_2_method_2_code
def yX0_forgetRating : MethodName := ⟨RX0, "forgetRating", "()V"⟩
abbrev cX0_takeFromBundle : ByteArray := prog_2_method_3_code
def yX0_takeFromBundle : MethodName := ⟨RX0, "takeFromBundle", "(LPhoneRater$Call;)I"⟩
abbrev cX0_cents : ByteArray := prog_2_method_4_code
def yX0_cents : MethodName := ⟨RX0, "cents", "()I"⟩
def RX1 : String := "PhoneRater$Call"
def TX1 : u_T := fun k => match k with
  | 0 => ("PhoneRater$Call", "number", "I", true)
  | 1 => ("PhoneRater$Call", "line", "LPhoneRater$Line;", true)
  | 2 => ("PhoneRater$Call", "minute", "I", true)
  | 3 => ("PhoneRater$Call", "zone", "I", true)
  | 4 => ("PhoneRater$Call", "seconds", "I", false)
  | 5 => ("PhoneRater$Call", "billed", "I", false)
  | 6 => ("PhoneRater$Call", "free", "I", false)
  | 7 => ("PhoneRater$Call", "price", "I", false)
  | _ => ("PhoneRater$Call", "dayFee", "I", false)
def tyX1 : Nat → FieldType := fun k => match k with
  | 0 => .int
  | 1 => .object "PhoneRater$Line"
  | 2 => .int
  | 3 => .int
  | 4 => .int
  | 5 => .int
  | 6 => .int
  | 7 => .int
  | _ => .int
abbrev wsX10 : List Cond := u_ws RX1 TX1 9
theorem nmX1 : ∀ a, a < 9 → ∀ b, b < 9 → a ≠ b → (TX1 a).2.1 ≠ (TX1 b).2.1 := by decide +kernel
theorem tyX1_ok : ∀ k, k < 9 → parseFieldDescriptor (TX1 k).2.2.1 = some (tyX1 k) := by decide +kernel
abbrev cX1_init : ByteArray := prog_3_method_1_code
def yX1_init : MethodName := ⟨RX1, "<init>", "(ILPhoneRater$Line;III)V"⟩
abbrev cX1_day : ByteArray := prog_3_method_2_code
def yX1_day : MethodName := ⟨RX1, "day", "()I"⟩
abbrev cX1_forgetRating : ByteArray := prog_3_method_3_code
def yX1_forgetRating : MethodName := ⟨RX1, "forgetRating", "()V"⟩
abbrev cX1_tell : ByteArray := prog_3_method_4_code
def yX1_tell : MethodName := ⟨RX1, "tell", "(I)I"⟩
def RX2 : String := "PhoneRater$Line"
def TX2 : u_T := fun k => match k with
  | 0 => ("PhoneRater$Line", "account", "LPhoneRater$Account;", true)
  | 1 => ("PhoneRater$Line", "tariff", "LPhoneRater$Tariff;", false)
  | 2 => ("PhoneRater$Line", "prices", "I", false)
  | 3 => ("PhoneRater$Line", "feesPaid", "[I", true)
  | 4 => ("PhoneRater$Line", "lastFeeDay", "[I", true)
  | _ => ("PhoneRater$Line", "freeOfDay", "[I", true)
def tyX2 : Nat → FieldType := fun k => match k with
  | 0 => .object "PhoneRater$Account"
  | 1 => .object "PhoneRater$Tariff"
  | 2 => .int
  | 3 => .array .int
  | 4 => .array .int
  | _ => .array .int
abbrev wsX20 : List Cond := u_ws RX2 TX2 6
theorem nmX2 : ∀ a, a < 6 → ∀ b, b < 6 → a ≠ b → (TX2 a).2.1 ≠ (TX2 b).2.1 := by decide +kernel
theorem tyX2_ok : ∀ k, k < 6 → parseFieldDescriptor (TX2 k).2.2.1 = some (tyX2 k) := by decide +kernel
abbrev cX2_init : ByteArray := prog_4_method_1_code
def yX2_init : MethodName := ⟨RX2, "<init>", "(LPhoneRater$Account;LPhoneRater$Tariff;)V"⟩
abbrev cX2_forgetRating : ByteArray := prog_4_method_2_code
def yX2_forgetRating : MethodName := ⟨RX2, "forgetRating", "()V"⟩
abbrev cX2_beginsFeeDay : ByteArray := prog_4_method_3_code
def yX2_beginsFeeDay : MethodName := ⟨RX2, "beginsFeeDay", "(II)Z"⟩
abbrev cX2_takeFreeOfDay : ByteArray := prog_4_method_4_code
def yX2_takeFreeOfDay : MethodName := ⟨RX2, "takeFreeOfDay", "(II)I"⟩
def RX3 : String := "PhoneRater$Tariff"
def TX3 : u_T := fun k => match k with
  | 0 => ("PhoneRater$Tariff", "number", "I", true)
  | 1 => ("PhoneRater$Tariff", "connection", "I", true)
  | 2 => ("PhoneRater$Tariff", "peak", "I", true)
  | 3 => ("PhoneRater$Tariff", "other", "I", true)
  | 4 => ("PhoneRater$Tariff", "first", "I", true)
  | 5 => ("PhoneRater$Tariff", "next", "I", true)
  | 6 => ("PhoneRater$Tariff", "zoneRate", "[I", true)
  | _ => ("PhoneRater$Tariff", "zoneDayFee", "[I", true)
def tyX3 : Nat → FieldType := fun k => match k with
  | 0 => .int
  | 1 => .int
  | 2 => .int
  | 3 => .int
  | 4 => .int
  | 5 => .int
  | 6 => .array .int
  | _ => .array .int
abbrev wsX30 : List Cond := u_ws RX3 TX3 8
theorem nmX3 : ∀ a, a < 8 → ∀ b, b < 8 → a ≠ b → (TX3 a).2.1 ≠ (TX3 b).2.1 := by decide +kernel
theorem tyX3_ok : ∀ k, k < 8 → parseFieldDescriptor (TX3 k).2.2.1 = some (tyX3 k) := by decide +kernel
abbrev cX3_init : ByteArray := prog_5_method_1_code
def yX3_init : MethodName := ⟨RX3, "<init>", "(IIIIII)V"⟩
abbrev cX3_billedFor : ByteArray := prog_5_method_2_code
def yX3_billedFor : MethodName := ⟨RX3, "billedFor", "(I)I"⟩
abbrev cX3_chargeFor : ByteArray := prog_5_method_3_code
def yX3_chargeFor : MethodName := ⟨RX3, "chargeFor", "(II)I"⟩
def RX4 : String := "PhoneRater"
def TX4 : u_T := fun k => match k with
  | 0 => ("PhoneRater", "tariffs", "Ljava/util/ArrayList;", true)
  | 1 => ("PhoneRater", "accounts", "Ljava/util/ArrayList;", true)
  | 2 => ("PhoneRater", "lines", "Ljava/util/ArrayList;", true)
  | 3 => ("PhoneRater", "calls", "Ljava/util/ArrayList;", true)
  | 4 => ("PhoneRater", "ordered", "Ljava/util/ArrayList;", true)
  | 5 => ("PhoneRater", "firstOfPeak", "I", false)
  | _ => ("PhoneRater", "lastOfPeak", "I", false)
def tyX4 : Nat → FieldType := fun k => match k with
  | 0 => .object "java/util/ArrayList"
  | 1 => .object "java/util/ArrayList"
  | 2 => .object "java/util/ArrayList"
  | 3 => .object "java/util/ArrayList"
  | 4 => .object "java/util/ArrayList"
  | 5 => .int
  | _ => .int
abbrev wsX40 : List Cond := u_ws RX4 TX4 7
theorem nmX4 : ∀ a, a < 7 → ∀ b, b < 7 → a ≠ b → (TX4 a).2.1 ≠ (TX4 b).2.1 := by decide +kernel
theorem tyX4_ok : ∀ k, k < 7 → parseFieldDescriptor (TX4 k).2.2.1 = some (tyX4 k) := by decide +kernel
abbrev cX4_init : ByteArray := prog_1_method_1_code
def yX4_init : MethodName := ⟨RX4, "<init>", "()V"⟩
abbrev cX4_addTariff : ByteArray := prog_1_method_2_code
def yX4_addTariff : MethodName := ⟨RX4, "addTariff", "(IIIII)I"⟩
abbrev cX4_setZone : ByteArray := prog_1_method_3_code
def yX4_setZone : MethodName := ⟨RX4, "setZone", "(IIII)I"⟩
abbrev cX4_addAccount : ByteArray := prog_1_method_5_code
def yX4_addAccount : MethodName := ⟨RX4, "addAccount", "(III)I"⟩
abbrev cX4_addLine : ByteArray := prog_1_method_6_code
def yX4_addLine : MethodName := ⟨RX4, "addLine", "(II)I"⟩
abbrev cX4_addCall : ByteArray := prog_1_method_9_code
def yX4_addCall : MethodName := ⟨RX4, "addCall", "(IIII)I"⟩
abbrev cX4_callCount : ByteArray := prog_1_method_11_code
def yX4_callCount : MethodName := ⟨RX4, "callCount", "()I"⟩
abbrev cX4_callAt : ByteArray := prog_1_method_12_code
def yX4_callAt : MethodName := ⟨RX4, "callAt", "(I)I"⟩
abbrev cX4_told : ByteArray := prog_1_method_14_code
def yX4_told : MethodName := ⟨RX4, "told", "(II)I"⟩
abbrev cX4_dearest : ByteArray := prog_1_method_15_code
def yX4_dearest : MethodName := ⟨RX4, "dearest", "()I"⟩
abbrev cX4_lineSum : ByteArray := prog_1_method_16_code
def yX4_lineSum : MethodName := ⟨RX4, "lineSum", "(I)I"⟩
abbrev cX4_daySum : ByteArray := prog_1_method_17_code
def yX4_daySum : MethodName := ⟨RX4, "daySum", "(I)I"⟩
abbrev cX4_sum : ByteArray := prog_1_method_18_code
def yX4_sum : MethodName := ⟨RX4, "sum", "(I)I"⟩
abbrev cX4_total : ByteArray := prog_1_method_19_code
def yX4_total : MethodName := ⟨RX4, "total", "(I)I"⟩
abbrev cX4_freeShare : ByteArray := prog_1_method_25_code
def yX4_freeShare : MethodName := ⟨RX4, "freeShare", "()D"⟩
abbrev cX4_putInOrder : ByteArray := prog_1_method_31_code
def yX4_putInOrder : MethodName := ⟨RX4, "putInOrder", "(LPhoneRater$Call;)V"⟩
abbrev cX4_rateAll : ByteArray := prog_1_method_33_code
def yX4_rateAll : MethodName := ⟨RX4, "rateAll", "()V"⟩
abbrev cX4_rate : ByteArray := prog_1_method_34_code
def yX4_rate : MethodName := ⟨RX4, "rate", "(LPhoneRater$Call;)V"⟩
abbrev cX4_rateDayFee : ByteArray := prog_1_method_35_code
def yX4_rateDayFee : MethodName := ⟨RX4, "rateDayFee", "(LPhoneRater$Call;)V"⟩
abbrev cX4_beginsInPeak : ByteArray := prog_1_method_36_code
def yX4_beginsInPeak : MethodName := ⟨RX4, "beginsInPeak", "(LPhoneRater$Call;)Z"⟩
abbrev cX4_findTariff : ByteArray := prog_1_method_37_code
def yX4_findTariff : MethodName := ⟨RX4, "findTariff", "(I)LPhoneRater$Tariff;"⟩
abbrev cX4_findAccount : ByteArray := prog_1_method_38_code
def yX4_findAccount : MethodName := ⟨RX4, "findAccount", "(I)LPhoneRater$Account;"⟩
abbrev cX4_findLine : ByteArray := prog_1_method_39_code
def yX4_findLine : MethodName := ⟨RX4, "findLine", "(I)LPhoneRater$Line;"⟩
abbrev cX4_findCall : ByteArray := prog_1_method_40_code
def yX4_findCall : MethodName := ⟨RX4, "findCall", "(I)LPhoneRater$Call;"⟩
abbrev cX4_checkAbroad : ByteArray := prog_1_method_41_code
def yX4_checkAbroad : MethodName := ⟨RX4, "checkAbroad", "(I)V"⟩
abbrev cX4_checkBundle : ByteArray := prog_1_method_42_code
def yX4_checkBundle : MethodName := ⟨RX4, "checkBundle", "(I)V"⟩
abbrev cX4_isMoney : ByteArray := prog_1_method_44_code
def yX4_isMoney : MethodName := ⟨RX4, "isMoney", "(I)Z"⟩
abbrev cX4_isWithin : ByteArray := prog_1_method_45_code
def yX4_isWithin : MethodName := ⟨RX4, "isWithin", "(III)Z"⟩
def RX5 : String := "PhoneRaterModel"
def TX5 : u_T := fun k => match k with
  | _ => ("", "", "", false)
def tyX5 : Nat → FieldType := fun k => match k with
  | _ => .int
abbrev wsX50 : List Cond := u_ws RX5 TX5 0
theorem nmX5 : ∀ a, a < 0 → ∀ b, b < 0 → a ≠ b → (TX5 a).2.1 ≠ (TX5 b).2.1 := by decide +kernel
theorem tyX5_ok : ∀ k, k < 0 → parseFieldDescriptor (TX5 k).2.2.1 = some (tyX5 k) := by decide +kernel
def RJx145de : String := "java/io/Serializable"
def TJx145de : u_T := fun k => match k with
  | _ => ("", "", "", false)
def tyJx145de : Nat → FieldType := fun k => match k with
  | _ => .int
abbrev wsJx145de0 : List Cond := u_ws RJx145de TJx145de 0
theorem nmJx145de : ∀ a, a < 0 → ∀ b, b < 0 → a ≠ b → (TJx145de a).2.1 ≠ (TJx145de b).2.1 := by decide +kernel
theorem tyJx145de_ok : ∀ k, k < 0 → parseFieldDescriptor (TJx145de k).2.2.1 = some (tyJx145de k) := by decide +kernel
def RJx8e188 : String := "java/lang/Cloneable"
def TJx8e188 : u_T := fun k => match k with
  | _ => ("", "", "", false)
def tyJx8e188 : Nat → FieldType := fun k => match k with
  | _ => .int
abbrev wsJx8e1880 : List Cond := u_ws RJx8e188 TJx8e188 0
theorem nmJx8e188 : ∀ a, a < 0 → ∀ b, b < 0 → a ≠ b → (TJx8e188 a).2.1 ≠ (TJx8e188 b).2.1 := by decide +kernel
theorem tyJx8e188_ok : ∀ k, k < 0 → parseFieldDescriptor (TJx8e188 k).2.2.1 = some (tyJx8e188 k) := by decide +kernel
def RJxab1ab : String := "java/lang/Iterable"
def TJxab1ab : u_T := fun k => match k with
  | _ => ("", "", "", false)
def tyJxab1ab : Nat → FieldType := fun k => match k with
  | _ => .int
abbrev wsJxab1ab0 : List Cond := u_ws RJxab1ab TJxab1ab 0
theorem nmJxab1ab : ∀ a, a < 0 → ∀ b, b < 0 → a ≠ b → (TJxab1ab a).2.1 ≠ (TJxab1ab b).2.1 := by decide +kernel
theorem tyJxab1ab_ok : ∀ k, k < 0 → parseFieldDescriptor (TJxab1ab k).2.2.1 = some (tyJxab1ab k) := by decide +kernel
def RJ9 : String := "java/lang/Math"
def TJ9 : u_T := fun k => match k with
  | _ => ("", "", "", false)
def tyJ9 : Nat → FieldType := fun k => match k with
  | _ => .int
abbrev wsJ90 : List Cond := u_ws RJ9 TJ9 0
theorem nmJ9 : ∀ a, a < 0 → ∀ b, b < 0 → a ≠ b → (TJ9 a).2.1 ≠ (TJ9 b).2.1 := by decide +kernel
theorem tyJ9_ok : ∀ k, k < 0 → parseFieldDescriptor (TJ9 k).2.2.1 = some (tyJ9 k) := by decide +kernel
abbrev cJ9_max_7cf53 : ByteArray := prog_15_method_65_code
def yJ9_max_7cf53 : MethodName := ⟨RJ9, "max", "(II)I"⟩
abbrev cJ9_min_7cf53 : ByteArray := prog_15_method_69_code
def yJ9_min_7cf53 : MethodName := ⟨RJ9, "min", "(II)I"⟩
def RJ0 : String := "java/lang/String"
def TJ0 : u_T := fun k => match k with
  | _ => ("", "", "", false)
def tyJ0 : Nat → FieldType := fun k => match k with
  | _ => .int
abbrev wsJ00 : List Cond := u_ws RJ0 TJ0 0
theorem nmJ0 : ∀ a, a < 0 → ∀ b, b < 0 → a ≠ b → (TJ0 a).2.1 ≠ (TJ0 b).2.1 := by decide +kernel
theorem tyJ0_ok : ∀ k, k < 0 → parseFieldDescriptor (TJ0 k).2.2.1 = some (tyJ0 k) := by decide +kernel
def RJ10 : String := "java/lang/System"
def TJ10 : u_T := fun k => match k with
  | _ => ("", "", "", false)
def tyJ10 : Nat → FieldType := fun k => match k with
  | _ => .int
abbrev wsJ100 : List Cond := u_ws RJ10 TJ10 0
theorem nmJ10 : ∀ a, a < 0 → ∀ b, b < 0 → a ≠ b → (TJ10 a).2.1 ≠ (TJ10 b).2.1 := by decide +kernel
theorem tyJ10_ok : ∀ k, k < 0 → parseFieldDescriptor (TJ10 k).2.2.1 = some (tyJ10 k) := by decide +kernel
def RJxa1e45 : String := "java/util/AbstractCollection"
def TJxa1e45 : u_T := fun k => match k with
  | _ => ("", "", "", false)
def tyJxa1e45 : Nat → FieldType := fun k => match k with
  | _ => .int
abbrev wsJxa1e450 : List Cond := u_ws RJxa1e45 TJxa1e45 0
theorem nmJxa1e45 : ∀ a, a < 0 → ∀ b, b < 0 → a ≠ b → (TJxa1e45 a).2.1 ≠ (TJxa1e45 b).2.1 := by decide +kernel
theorem tyJxa1e45_ok : ∀ k, k < 0 → parseFieldDescriptor (TJxa1e45 k).2.2.1 = some (tyJxa1e45 k) := by decide +kernel
abbrev cJxa1e45_init_da8c8 : ByteArray := prog_20_method_1_code
def yJxa1e45_init_da8c8 : MethodName := ⟨RJxa1e45, "<init>", "()V"⟩
def RJxc12de : String := "java/util/AbstractList"
def TJxc12de : u_T := fun k => match k with
  | _ => ("", "", "", false)
def tyJxc12de : Nat → FieldType := fun k => match k with
  | _ => .int
abbrev wsJxc12de0 : List Cond := u_ws RJxc12de TJxc12de 0
theorem nmJxc12de : ∀ a, a < 0 → ∀ b, b < 0 → a ≠ b → (TJxc12de a).2.1 ≠ (TJxc12de b).2.1 := by decide +kernel
theorem tyJxc12de_ok : ∀ k, k < 0 → parseFieldDescriptor (TJxc12de k).2.2.1 = some (tyJxc12de k) := by decide +kernel
abbrev cJxc12de_init_da8c8 : ByteArray := prog_21_method_1_code
def yJxc12de_init_da8c8 : MethodName := ⟨RJxc12de, "<init>", "()V"⟩
def RJx4a65c : String := "java/util/ArrayList"
def TJx4a65c : u_T := fun k => match k with
  | 0 => ("java/util/AbstractList", "modCount", "I", false)
  | 1 => ("java/util/ArrayList", "elementData", "[Ljava/lang/Object;", false)
  | _ => ("java/util/ArrayList", "size", "I", false)
def tyJx4a65c : Nat → FieldType := fun k => match k with
  | 0 => .int
  | 1 => .array (.object "java/lang/Object")
  | _ => .int
abbrev wsJx4a65c0 : List Cond := u_ws RJx4a65c TJx4a65c 3
theorem nmJx4a65c : ∀ a, a < 3 → ∀ b, b < 3 → a ≠ b → (TJx4a65c a).2.1 ≠ (TJx4a65c b).2.1 := by decide +kernel
theorem tyJx4a65c_ok : ∀ k, k < 3 → parseFieldDescriptor (TJx4a65c k).2.2.1 = some (tyJx4a65c k) := by decide +kernel
abbrev cJx4a65c_init_da8c8 : ByteArray := prog_22_method_2_code
def yJx4a65c_init_da8c8 : MethodName := ⟨RJx4a65c, "<init>", "()V"⟩
abbrev cJx4a65c_grow_92f84 : ByteArray := prog_22_method_6_code
def yJx4a65c_grow_92f84 : MethodName := ⟨RJx4a65c, "grow", "(I)[Ljava/lang/Object;"⟩
abbrev cJx4a65c_grow_d5877 : ByteArray := prog_22_method_7_code
def yJx4a65c_grow_d5877 : MethodName := ⟨RJx4a65c, "grow", "()[Ljava/lang/Object;"⟩
abbrev cJx4a65c_size_8abf5 : ByteArray := prog_22_method_8_code
def yJx4a65c_size_8abf5 : MethodName := ⟨RJx4a65c, "size", "()I"⟩
abbrev cJx4a65c_elementData_915e3 : ByteArray := prog_22_method_18_code
def yJx4a65c_elementData_915e3 : MethodName := ⟨RJx4a65c, "elementData", "(I)Ljava/lang/Object;"⟩
abbrev cJx4a65c_get_915e3 : ByteArray := prog_22_method_20_code
def yJx4a65c_get_915e3 : MethodName := ⟨RJx4a65c, "get", "(I)Ljava/lang/Object;"⟩
abbrev cJx4a65c_add_72be8 : ByteArray := prog_22_method_24_code
def yJx4a65c_add_72be8 : MethodName := ⟨RJx4a65c, "add", "(Ljava/lang/Object;[Ljava/lang/Object;I)V"⟩
abbrev cJx4a65c_add_9ea2d : ByteArray := prog_22_method_25_code
def yJx4a65c_add_9ea2d : MethodName := ⟨RJx4a65c, "add", "(Ljava/lang/Object;)Z"⟩
abbrev cJx4a65c_add_7a177 : ByteArray := prog_22_method_26_code
def yJx4a65c_add_7a177 : MethodName := ⟨RJx4a65c, "add", "(ILjava/lang/Object;)V"⟩
abbrev cJx4a65c_rangeCheckForAdd_d00df : ByteArray := prog_22_method_45_code
def yJx4a65c_rangeCheckForAdd_d00df : MethodName := ⟨RJx4a65c, "rangeCheckForAdd", "(I)V"⟩
def RJ7 : String := "java/util/Arrays"
def TJ7 : u_T := fun k => match k with
  | _ => ("", "", "", false)
def tyJ7 : Nat → FieldType := fun k => match k with
  | _ => .int
abbrev wsJ70 : List Cond := u_ws RJ7 TJ7 0
theorem nmJ7 : ∀ a, a < 0 → ∀ b, b < 0 → a ≠ b → (TJ7 a).2.1 ≠ (TJ7 b).2.1 := by decide +kernel
theorem tyJ7_ok : ∀ k, k < 0 → parseFieldDescriptor (TJ7 k).2.2.1 = some (tyJ7 k) := by decide +kernel
abbrev cJ7_copyOf_1904c : ByteArray := prog_23_method_119_code
def yJ7_copyOf_1904c : MethodName := ⟨RJ7, "copyOf", "([Ljava/lang/Object;I)[Ljava/lang/Object;"⟩
abbrev cJ7_copyOf_6403c : ByteArray := prog_23_method_120_code
def yJ7_copyOf_6403c : MethodName := ⟨RJ7, "copyOf", "([Ljava/lang/Object;ILjava/lang/Class;)[Ljava/lang/Object;"⟩
def RJx5ef63 : String := "java/util/Collection"
def TJx5ef63 : u_T := fun k => match k with
  | _ => ("", "", "", false)
def tyJx5ef63 : Nat → FieldType := fun k => match k with
  | _ => .int
abbrev wsJx5ef630 : List Cond := u_ws RJx5ef63 TJx5ef63 0
theorem nmJx5ef63 : ∀ a, a < 0 → ∀ b, b < 0 → a ≠ b → (TJx5ef63 a).2.1 ≠ (TJx5ef63 b).2.1 := by decide +kernel
theorem tyJx5ef63_ok : ∀ k, k < 0 → parseFieldDescriptor (TJx5ef63 k).2.2.1 = some (tyJx5ef63 k) := by decide +kernel
def RJxbd725 : String := "java/util/List"
def TJxbd725 : u_T := fun k => match k with
  | _ => ("", "", "", false)
def tyJxbd725 : Nat → FieldType := fun k => match k with
  | _ => .int
abbrev wsJxbd7250 : List Cond := u_ws RJxbd725 TJxbd725 0
theorem nmJxbd725 : ∀ a, a < 0 → ∀ b, b < 0 → a ≠ b → (TJxbd725 a).2.1 ≠ (TJxbd725 b).2.1 := by decide +kernel
theorem tyJxbd725_ok : ∀ k, k < 0 → parseFieldDescriptor (TJxbd725 k).2.2.1 = some (tyJxbd725 k) := by decide +kernel
def RJ15 : String := "java/util/Objects"
def TJ15 : u_T := fun k => match k with
  | _ => ("", "", "", false)
def tyJ15 : Nat → FieldType := fun k => match k with
  | _ => .int
abbrev wsJ150 : List Cond := u_ws RJ15 TJ15 0
theorem nmJ15 : ∀ a, a < 0 → ∀ b, b < 0 → a ≠ b → (TJ15 a).2.1 ≠ (TJ15 b).2.1 := by decide +kernel
theorem tyJ15_ok : ∀ k, k < 0 → parseFieldDescriptor (TJ15 k).2.2.1 = some (tyJ15 k) := by decide +kernel
abbrev cJ15_checkIndex_7cf53 : ByteArray := prog_26_method_17_code
def yJ15_checkIndex_7cf53 : MethodName := ⟨RJ15, "checkIndex", "(II)I"⟩
def RJxf0a74 : String := "java/util/RandomAccess"
def TJxf0a74 : u_T := fun k => match k with
  | _ => ("", "", "", false)
def tyJxf0a74 : Nat → FieldType := fun k => match k with
  | _ => .int
abbrev wsJxf0a740 : List Cond := u_ws RJxf0a74 TJxf0a74 0
theorem nmJxf0a74 : ∀ a, a < 0 → ∀ b, b < 0 → a ≠ b → (TJxf0a74 a).2.1 ≠ (TJxf0a74 b).2.1 := by decide +kernel
theorem tyJxf0a74_ok : ∀ k, k < 0 → parseFieldDescriptor (TJxf0a74 k).2.2.1 = some (tyJxf0a74 k) := by decide +kernel
def RJxa66e6 : String := "java/util/SequencedCollection"
def TJxa66e6 : u_T := fun k => match k with
  | _ => ("", "", "", false)
def tyJxa66e6 : Nat → FieldType := fun k => match k with
  | _ => .int
abbrev wsJxa66e60 : List Cond := u_ws RJxa66e6 TJxa66e6 0
theorem nmJxa66e6 : ∀ a, a < 0 → ∀ b, b < 0 → a ≠ b → (TJxa66e6 a).2.1 ≠ (TJxa66e6 b).2.1 := by decide +kernel
theorem tyJxa66e6_ok : ∀ k, k < 0 → parseFieldDescriptor (TJxa66e6 k).2.2.1 = some (tyJxa66e6 k) := by decide +kernel
def RJ8 : String := "jdk/internal/util/ArraysSupport"
def TJ8 : u_T := fun k => match k with
  | _ => ("", "", "", false)
def tyJ8 : Nat → FieldType := fun k => match k with
  | _ => .int
abbrev wsJ80 : List Cond := u_ws RJ8 TJ8 0
theorem nmJ8 : ∀ a, a < 0 → ∀ b, b < 0 → a ≠ b → (TJ8 a).2.1 ≠ (TJ8 b).2.1 := by decide +kernel
theorem tyJ8_ok : ∀ k, k < 0 → parseFieldDescriptor (TJ8 k).2.2.1 = some (tyJ8 k) := by decide +kernel
abbrev cJ8_newLength_cabcc : ByteArray := prog_29_method_27_code
def yJ8_newLength_cabcc : MethodName := ⟨RJ8, "newLength", "(III)I"⟩
abbrev cJ8_hugeLength_7cf53 : ByteArray := prog_29_method_28_code
def yJ8_hugeLength_7cf53 : MethodName := ⟨RJ8, "hugeLength", "(II)I"⟩
def RJ3 : String := "jdk/internal/util/Preconditions"
def TJ3 : u_T := fun k => match k with
  | _ => ("", "", "", false)
def tyJ3 : Nat → FieldType := fun k => match k with
  | _ => .int
abbrev wsJ30 : List Cond := u_ws RJ3 TJ3 0
theorem nmJ3 : ∀ a, a < 0 → ∀ b, b < 0 → a ≠ b → (TJ3 a).2.1 ≠ (TJ3 b).2.1 := by decide +kernel
theorem tyJ3_ok : ∀ k, k < 0 → parseFieldDescriptor (TJ3 k).2.2.1 = some (tyJ3 k) := by decide +kernel
abbrev cJ3_checkIndex_8e157 : ByteArray := prog_30_method_11_code
def yJ3_checkIndex_8e157 : MethodName := ⟨RJ3, "checkIndex", "(IILjava/util/function/BiFunction;)I"⟩
def RL : String := "PhoneRaterLaw"
abbrev cL_below : ByteArray := method_2_code
def yL_below : MethodName := ⟨RL, "below", "(II)I"⟩
abbrev cL_cell : ByteArray := method_3_code
def yL_cell : MethodName := ⟨RL, "cell", "([II)I"⟩
abbrev cL_build : ByteArray := method_4_code
def yL_build : MethodName := ⟨RL, "build", "(LPhoneRater;[II[I[I[I[I)Z"⟩
abbrev cL_call : ByteArray := method_5_code
def yL_call : MethodName := ⟨RL, "call", "(LPhoneRater;[IIII[I)I"⟩
abbrev cL_law : ByteArray := code
def yL_law : MethodName := ⟨RL, "law", "([I)Z"⟩
def wsL_law0_r1 : List Cond := [Cond.classLink RL 20 RX4, Cond.instantiable RX4 7, Cond.initialized RX4, Cond.arrayClass .int, Cond.methodLink RL 80 Lib.Math.min.name, Cond.static Lib.Math.min.name, Cond.initialized "java/lang/Math", Cond.code Lib.Math.min.name Lib.Math.min.code 2 (some .int), Cond.methodLink RL 52 yX4_init, Cond.instanceMethod yX4_init, Cond.code yX4_init cX4_init 1 none, Cond.methodLink RX4 1 objectInit, Cond.instanceMethod objectInit, Cond.code objectInit ⟨#[0xb1]⟩ 1 none, Cond.classLink RX4 7 RJx4a65c, Cond.instantiable RJx4a65c 3, Cond.initialized RJx4a65c, Cond.fieldLink RX4 10 "PhoneRater" "tariffs" "Ljava/util/ArrayList;", Cond.fieldLink RX4 16 "PhoneRater" "accounts" "Ljava/util/ArrayList;", Cond.fieldLink RX4 19 "PhoneRater" "lines" "Ljava/util/ArrayList;", Cond.fieldLink RX4 22 "PhoneRater" "calls" "Ljava/util/ArrayList;", Cond.fieldLink RX4 25 "PhoneRater" "ordered" "Ljava/util/ArrayList;", Cond.fieldLink RX4 28 "PhoneRater" "firstOfPeak" "I", Cond.fieldLink RX4 32 "PhoneRater" "lastOfPeak" "I"]
def wsL_law0_r2 : List Cond := [Cond.methodLink RX4 9 yJx4a65c_init_da8c8, Cond.instanceMethod yJx4a65c_init_da8c8, Cond.code yJx4a65c_init_da8c8 cJx4a65c_init_da8c8 1 none, Cond.fieldLink RJx4a65c 39 "java/util/ArrayList" "DEFAULTCAPACITY_EMPTY_ELEMENTDATA" "[Ljava/lang/Object;", Cond.fieldLink RJx4a65c 9 "java/util/ArrayList" "elementData" "[Ljava/lang/Object;", Cond.methodLink RJx4a65c 1 yJxc12de_init_da8c8, Cond.instanceMethod yJxc12de_init_da8c8, Cond.initialized RJxc12de, Cond.code yJxc12de_init_da8c8 cJxc12de_init_da8c8 1 none, Cond.fieldLink RJxc12de 7 "java/util/AbstractList" "modCount" "I", Cond.methodLink RJxc12de 1 yJxa1e45_init_da8c8, Cond.instanceMethod yJxa1e45_init_da8c8, Cond.initialized RJxa1e45, Cond.code yJxa1e45_init_da8c8 cJxa1e45_init_da8c8 1 none, Cond.methodLink RJxa1e45 1 objectInit, Cond.methodLink RL 53 yL_build, Cond.static yL_build, Cond.initialized RL, Cond.code yL_build cL_build 11 (some .boolean), Cond.methodLink RL 9 yL_cell, Cond.static yL_cell, Cond.code yL_cell cL_cell 2 (some .int), Cond.constant RL 8 (790386105), Cond.methodLink RL 15 yL_below]
def wsL_law0_r3 : List Cond := [Cond.static yL_below, Cond.code yL_below cL_below 2 (some .int), Cond.constant RL 7 (2147483647), Cond.methodLink RL 19 yX4_addTariff, Cond.instanceMethod yX4_addTariff, Cond.selects RX4 yX4_addTariff yX4_addTariff, Cond.code yX4_addTariff cX4_addTariff 7 (some .int), Cond.classLink RX4 39 "java/lang/IllegalArgumentException", Cond.initialized "java/lang/IllegalArgumentException", Cond.classLink RX4 56 "java/lang/IllegalStateException", Cond.initialized "java/lang/IllegalStateException", Cond.classLink RX4 61 RX3, Cond.instantiable RX3 8, Cond.initialized RX3, Cond.methodLink RX4 35 yX4_isMoney, Cond.static yX4_isMoney, Cond.code yX4_isMoney cX4_isMoney 1 (some .boolean), Cond.methodLink RX4 46 yX4_isWithin, Cond.static yX4_isWithin, Cond.code yX4_isWithin cX4_isWithin 3 (some .boolean), Cond.methodLink RX4 52 yJx4a65c_size_8abf5, Cond.instanceMethod yJx4a65c_size_8abf5, Cond.selects RJx4a65c yJx4a65c_size_8abf5 yJx4a65c_size_8abf5, Cond.code yJx4a65c_size_8abf5 cJx4a65c_size_8abf5 1 (some .int)]
def wsL_law0_r4 : List Cond := [Cond.fieldLink RJx4a65c 48 "java/util/ArrayList" "size" "I", Cond.methodLink RX4 63 yX3_init, Cond.instanceMethod yX3_init, Cond.code yX3_init cX3_init 7 none, Cond.methodLink RX3 3 objectInit, Cond.fieldLink RX3 9 "PhoneRater$Tariff" "zoneRate" "[I", Cond.fieldLink RX3 15 "PhoneRater$Tariff" "zoneDayFee" "[I", Cond.fieldLink RX3 18 "PhoneRater$Tariff" "number" "I", Cond.fieldLink RX3 22 "PhoneRater$Tariff" "connection" "I", Cond.fieldLink RX3 25 "PhoneRater$Tariff" "peak" "I", Cond.fieldLink RX3 28 "PhoneRater$Tariff" "other" "I", Cond.fieldLink RX3 31 "PhoneRater$Tariff" "first" "I", Cond.fieldLink RX3 34 "PhoneRater$Tariff" "next" "I", Cond.methodLink RX4 66 yJx4a65c_add_9ea2d, Cond.instanceMethod yJx4a65c_add_9ea2d, Cond.selects RJx4a65c yJx4a65c_add_9ea2d yJx4a65c_add_9ea2d, Cond.code yJx4a65c_add_9ea2d cJx4a65c_add_9ea2d 2 (some .boolean), Cond.fieldLink RJx4a65c 63 "java/util/ArrayList" "modCount" "I", Cond.sameField "java/util/ArrayList" "java/util/AbstractList" "modCount" "I", Cond.methodLink RJx4a65c 131 yJx4a65c_add_72be8, Cond.instanceMethod yJx4a65c_add_72be8, Cond.selects RJx4a65c yJx4a65c_add_72be8 yJx4a65c_add_72be8, Cond.code yJx4a65c_add_72be8 cJx4a65c_add_72be8 4 none, Cond.methodLink RJx4a65c 129 yJx4a65c_grow_d5877]
def wsL_law0_r5 : List Cond := [Cond.instanceMethod yJx4a65c_grow_d5877, Cond.selects RJx4a65c yJx4a65c_grow_d5877 yJx4a65c_grow_d5877, Cond.code yJx4a65c_grow_d5877 cJx4a65c_grow_d5877 1 (some (.array (.object "java/lang/Object"))), Cond.methodLink RJx4a65c 69 yJx4a65c_grow_92f84, Cond.instanceMethod yJx4a65c_grow_92f84, Cond.selects RJx4a65c yJx4a65c_grow_92f84 yJx4a65c_grow_92f84, Cond.code yJx4a65c_grow_92f84 cJx4a65c_grow_92f84 4 (some (.array (.object "java/lang/Object"))), Cond.methodLink RJx4a65c 79 Lib.Math.max.name, Cond.static Lib.Math.max.name, Cond.code Lib.Math.max.name Lib.Math.max.code 2 (some .int), Cond.classLink RJx4a65c 7 "java/lang/Object", Cond.methodLink RJx4a65c 73 yJ8_newLength_cabcc, Cond.static yJ8_newLength_cabcc, Cond.initialized RJ8, Cond.code yJ8_newLength_cabcc cJ8_newLength_cabcc 4 (some .int), Cond.methodLink RJ8 194 Lib.Math.max.name, Cond.constant RJ8 200 (2147483639), Cond.methodLink RJ8 201 yJ8_hugeLength_7cf53, Cond.static yJ8_hugeLength_7cf53, Cond.code yJ8_hugeLength_7cf53 cJ8_hugeLength_7cf53 3 (some .int), Cond.methodLink RJx4a65c 66 yJ7_copyOf_1904c, Cond.static yJ7_copyOf_1904c, Cond.initialized RJ7, Cond.code yJ7_copyOf_1904c cJ7_copyOf_1904c 2 (some (.array (.object "java/lang/Object")))]
def wsL_law0_r6 : List Cond := [Cond.methodLink RJ7 86 ⟨"java/lang/Object", "getClass", "()Ljava/lang/Class;"⟩, Cond.selects "[Ljava/lang/Object;" ⟨"java/lang/Object", "getClass", "()Ljava/lang/Class;"⟩ ⟨"java/lang/Object", "getClass", "()Ljava/lang/Class;"⟩, Cond.instanceMethod ⟨"java/lang/Object", "getClass", "()Ljava/lang/Class;"⟩, Cond.native ⟨"java/lang/Object", "getClass", "()Ljava/lang/Class;"⟩, Cond.methodLink RJ7 300 yJ7_copyOf_6403c, Cond.static yJ7_copyOf_6403c, Cond.code yJ7_copyOf_6403c cJ7_copyOf_6403c 4 (some (.array (.object "java/lang/Object"))), Cond.classLink RJ7 110 "[Ljava/lang/Object;", Cond.classLink RJ7 2 "java/lang/Object", Cond.methodLink RJ7 304 Lib.Math.min.name, Cond.methodLink RJ7 150 arraycopyName, Cond.native arraycopyName, Cond.static arraycopyName, Cond.initialized "java/lang/System", Cond.methodLink RL 25 yX4_setZone, Cond.instanceMethod yX4_setZone, Cond.selects RX4 yX4_setZone yX4_setZone, Cond.code yX4_setZone cX4_setZone 7 (some .int), Cond.fieldLink RX4 80 "PhoneRater$Tariff" "zoneRate" "[I", Cond.fieldLink RX4 84 "PhoneRater$Tariff" "zoneDayFee" "[I", Cond.methodLink RX4 70 yX4_findTariff, Cond.instanceMethod yX4_findTariff, Cond.selects RX4 yX4_findTariff yX4_findTariff, Cond.code yX4_findTariff cX4_findTariff 2 (some (.object "PhoneRater$Tariff"))]
def wsL_law0_r7 : List Cond := [Cond.classLink RX4 166 "java/lang/IndexOutOfBoundsException", Cond.initialized "java/lang/IndexOutOfBoundsException", Cond.classLink RX4 61 "PhoneRater$Tariff", Cond.methodLink RX4 171 yJx4a65c_get_915e3, Cond.instanceMethod yJx4a65c_get_915e3, Cond.selects RJx4a65c yJx4a65c_get_915e3 yJx4a65c_get_915e3, Cond.code yJx4a65c_get_915e3 cJx4a65c_get_915e3 2 (some (.object "java/lang/Object")), Cond.methodLink RJx4a65c 118 yJ15_checkIndex_7cf53, Cond.static yJ15_checkIndex_7cf53, Cond.initialized RJ15, Cond.code yJ15_checkIndex_7cf53 cJ15_checkIndex_7cf53 2 (some .int), Cond.methodLink RJ15 105 yJ3_checkIndex_8e157, Cond.static yJ3_checkIndex_8e157, Cond.initialized RJ3, Cond.code yJ3_checkIndex_8e157 cJ3_checkIndex_8e157 3 (some .int), Cond.methodLink RJx4a65c 123 yJx4a65c_elementData_915e3, Cond.instanceMethod yJx4a65c_elementData_915e3, Cond.selects RJx4a65c yJx4a65c_elementData_915e3 yJx4a65c_elementData_915e3, Cond.code yJx4a65c_elementData_915e3 cJx4a65c_elementData_915e3 2 (some (.object "java/lang/Object")), Cond.methodLink RX4 74 yX4_checkAbroad, Cond.static yX4_checkAbroad, Cond.code yX4_checkAbroad cX4_checkAbroad 1 none, Cond.methodLink RX4 87 yX4_rateAll, Cond.instanceMethod yX4_rateAll]
def wsL_law0_r8 : List Cond := [Cond.selects RX4 yX4_rateAll yX4_rateAll, Cond.code yX4_rateAll cX4_rateAll 3 none, Cond.classLink RX4 105 "PhoneRater$Account", Cond.classLink RX4 116 "PhoneRater$Line", Cond.classLink RX4 148 "PhoneRater$Call", Cond.fieldLink RX4 163 "PhoneRater$Call" "seconds" "I", Cond.methodLink RX4 244 yX0_forgetRating, Cond.instanceMethod yX0_forgetRating, Cond.selects RX0 yX0_forgetRating yX0_forgetRating, Cond.initialized RX0, Cond.code yX0_forgetRating cX0_forgetRating 1 none, Cond.fieldLink RX0 9 "PhoneRater$Account" "bundle" "I", Cond.fieldLink RX0 21 "PhoneRater$Account" "unused" "I", Cond.fieldLink RX0 24 "PhoneRater$Account" "emptier" "I", Cond.fieldLink RX0 27 "PhoneRater$Account" "prices" "I", Cond.methodLink RX4 247 yX2_forgetRating, Cond.instanceMethod yX2_forgetRating, Cond.selects RX2 yX2_forgetRating yX2_forgetRating, Cond.initialized RX2, Cond.code yX2_forgetRating cX2_forgetRating 2 none, Cond.fieldLink RX2 29 "PhoneRater$Line" "prices" "I", Cond.fieldLink RX2 9 "PhoneRater$Line" "feesPaid" "[I", Cond.fieldLink RX2 15 "PhoneRater$Line" "lastFeeDay" "[I", Cond.methodLink RX4 248 yX1_forgetRating]
def wsL_law0_r9 : List Cond := [Cond.instanceMethod yX1_forgetRating, Cond.selects RX1 yX1_forgetRating yX1_forgetRating, Cond.initialized RX1, Cond.code yX1_forgetRating cX1_forgetRating 1 none, Cond.fieldLink RX1 28 "PhoneRater$Call" "billed" "I", Cond.fieldLink RX1 31 "PhoneRater$Call" "free" "I", Cond.fieldLink RX1 34 "PhoneRater$Call" "price" "I", Cond.fieldLink RX1 37 "PhoneRater$Call" "dayFee" "I", Cond.methodLink RX4 249 yX4_rate, Cond.instanceMethod yX4_rate, Cond.selects RX4 yX4_rate yX4_rate, Cond.code yX4_rate cX4_rate 5 none, Cond.fieldLink RX4 252 "PhoneRater$Call" "line" "LPhoneRater$Line;", Cond.fieldLink RX4 125 "PhoneRater$Line" "tariff" "LPhoneRater$Tariff;", Cond.fieldLink RX4 217 "PhoneRater$Call" "billed" "I", Cond.fieldLink RX4 259 "PhoneRater$Call" "zone" "I", Cond.fieldLink RX4 210 "PhoneRater$Line" "account" "LPhoneRater$Account;", Cond.fieldLink RX4 214 "PhoneRater$Call" "free" "I", Cond.fieldLink RX4 266 "PhoneRater$Tariff" "peak" "I", Cond.fieldLink RX4 269 "PhoneRater$Tariff" "other" "I", Cond.fieldLink RX4 275 "PhoneRater$Call" "dayFee" "I", Cond.fieldLink RX4 186 "PhoneRater$Call" "price" "I", Cond.fieldLink RX4 189 "PhoneRater$Line" "prices" "I", Cond.fieldLink RX4 197 "PhoneRater$Account" "prices" "I"]
def wsL_law0_r10 : List Cond := [Cond.methodLink RX4 256 yX3_billedFor, Cond.instanceMethod yX3_billedFor, Cond.selects RX3 yX3_billedFor yX3_billedFor, Cond.code yX3_billedFor cX3_billedFor 3 (some .int), Cond.methodLink RX4 262 yX0_takeFromBundle, Cond.instanceMethod yX0_takeFromBundle, Cond.selects RX0 yX0_takeFromBundle yX0_takeFromBundle, Cond.code yX0_takeFromBundle cX0_takeFromBundle 3 (some .int), Cond.fieldLink RX0 30 "PhoneRater$Call" "billed" "I", Cond.methodLink RX0 35 Lib.Math.min.name, Cond.fieldLink RX0 41 "PhoneRater$Call" "number" "I", Cond.methodLink RX4 176 yX4_beginsInPeak, Cond.instanceMethod yX4_beginsInPeak, Cond.selects RX4 yX4_beginsInPeak yX4_beginsInPeak, Cond.code yX4_beginsInPeak cX4_beginsInPeak 4 (some .boolean), Cond.fieldLink RX4 238 "PhoneRater$Call" "minute" "I", Cond.methodLink RX4 194 yX1_day, Cond.instanceMethod yX1_day, Cond.selects RX1 yX1_day yX1_day, Cond.code yX1_day cX1_day 1 (some .int), Cond.fieldLink RX1 19 "PhoneRater$Call" "minute" "I", Cond.methodLink RX4 272 yX4_rateDayFee, Cond.static yX4_rateDayFee, Cond.code yX4_rateDayFee cX4_rateDayFee 4 none]
def wsL_law0_r11 : List Cond := [Cond.methodLink RX4 282 yX2_beginsFeeDay, Cond.instanceMethod yX2_beginsFeeDay, Cond.selects RX2 yX2_beginsFeeDay yX2_beginsFeeDay, Cond.code yX2_beginsFeeDay cX2_beginsFeeDay 3 (some .boolean), Cond.fieldLink RX2 18 "PhoneRater$Line" "freeOfDay" "[I", Cond.methodLink RX4 286 yX2_takeFreeOfDay, Cond.instanceMethod yX2_takeFreeOfDay, Cond.selects RX2 yX2_takeFreeOfDay yX2_takeFreeOfDay, Cond.code yX2_takeFreeOfDay cX2_takeFreeOfDay 4 (some .int), Cond.methodLink RX2 33 Lib.Math.min.name, Cond.methodLink RX4 278 yX3_chargeFor, Cond.instanceMethod yX3_chargeFor, Cond.selects RX3 yX3_chargeFor yX3_chargeFor, Cond.code yX3_chargeFor cX3_chargeFor 3 (some .int), Cond.methodLink RL 29 yX4_addAccount, Cond.instanceMethod yX4_addAccount, Cond.selects RX4 yX4_addAccount yX4_addAccount, Cond.code yX4_addAccount cX4_addAccount 5 (some .int), Cond.constant RX4 98 (1000000), Cond.classLink RX4 105 RX0, Cond.instantiable RX0 6, Cond.methodLink RX4 95 yX4_checkBundle, Cond.static yX4_checkBundle, Cond.code yX4_checkBundle cX4_checkBundle 1 none]
def wsL_law0_r12 : List Cond := [Cond.constant RX4 299 (100000), Cond.methodLink RX4 107 yX0_init, Cond.instanceMethod yX0_init, Cond.code yX0_init cX0_init 4 none, Cond.methodLink RX0 3 objectInit, Cond.fieldLink RX0 15 "PhoneRater$Account" "threshold" "I", Cond.fieldLink RX0 18 "PhoneRater$Account" "percent" "I", Cond.methodLink RL 33 yX4_addLine, Cond.instanceMethod yX4_addLine, Cond.selects RX4 yX4_addLine yX4_addLine, Cond.code yX4_addLine cX4_addLine 6 (some .int), Cond.classLink RX4 116 RX2, Cond.instantiable RX2 6, Cond.methodLink RX4 110 yX4_findAccount, Cond.instanceMethod yX4_findAccount, Cond.selects RX4 yX4_findAccount yX4_findAccount, Cond.code yX4_findAccount cX4_findAccount 2 (some (.object "PhoneRater$Account")), Cond.methodLink RX4 118 yX2_init, Cond.instanceMethod yX2_init, Cond.code yX2_init cX2_init 3 none, Cond.methodLink RX2 3 objectInit, Cond.fieldLink RX2 21 "PhoneRater$Line" "account" "LPhoneRater$Account;", Cond.fieldLink RX2 25 "PhoneRater$Line" "tariff" "LPhoneRater$Tariff;", Cond.methodLink RL 57 yL_call]
def wsL_law0_r13 : List Cond := [Cond.static yL_call, Cond.code yL_call cL_call 9 (some .int), Cond.constant RL 36 (43200), Cond.methodLink RL 37 yX4_addCall, Cond.instanceMethod yX4_addCall, Cond.selects RX4 yX4_addCall yX4_addCall, Cond.code yX4_addCall cX4_addCall 8 (some .int), Cond.constant RX4 139 (43199), Cond.classLink RX4 148 RX1, Cond.instantiable RX1 9, Cond.methodLink RX4 121 yX4_findLine, Cond.instanceMethod yX4_findLine, Cond.selects RX4 yX4_findLine yX4_findLine, Cond.code yX4_findLine cX4_findLine 2 (some (.object "PhoneRater$Line")), Cond.methodLink RX4 150 yX1_init, Cond.instanceMethod yX1_init, Cond.code yX1_init cX1_init 6 none, Cond.methodLink RX1 3 objectInit, Cond.fieldLink RX1 9 "PhoneRater$Call" "number" "I", Cond.fieldLink RX1 15 "PhoneRater$Call" "line" "LPhoneRater$Line;", Cond.fieldLink RX1 22 "PhoneRater$Call" "seconds" "I", Cond.fieldLink RX1 25 "PhoneRater$Call" "zone" "I", Cond.methodLink RX4 153 yX4_putInOrder, Cond.instanceMethod yX4_putInOrder]
def wsL_law0_r14 : List Cond := [Cond.selects RX4 yX4_putInOrder yX4_putInOrder, Cond.code yX4_putInOrder cX4_putInOrder 3 none, Cond.methodLink RX4 241 yJx4a65c_add_7a177, Cond.instanceMethod yJx4a65c_add_7a177, Cond.selects RJx4a65c yJx4a65c_add_7a177 yJx4a65c_add_7a177, Cond.code yJx4a65c_add_7a177 cJx4a65c_add_7a177 5 none, Cond.methodLink RJx4a65c 112 arraycopyName, Cond.methodLink RJx4a65c 135 yJx4a65c_rangeCheckForAdd_d00df, Cond.instanceMethod yJx4a65c_rangeCheckForAdd_d00df, Cond.selects RJx4a65c yJx4a65c_rangeCheckForAdd_d00df yJx4a65c_rangeCheckForAdd_d00df, Cond.code yJx4a65c_rangeCheckForAdd_d00df cJx4a65c_rangeCheckForAdd_d00df 2 none, Cond.methodLink RL 40 yX4_callCount, Cond.instanceMethod yX4_callCount, Cond.selects RX4 yX4_callCount yX4_callCount, Cond.code yX4_callCount cX4_callCount 1 (some .int), Cond.methodLink RL 61 yX4_told, Cond.instanceMethod yX4_told, Cond.selects RX4 yX4_told yX4_told, Cond.code yX4_told cX4_told 4 (some .int), Cond.methodLink RX4 157 yX4_findCall, Cond.instanceMethod yX4_findCall, Cond.selects RX4 yX4_findCall yX4_findCall, Cond.code yX4_findCall cX4_findCall 2 (some (.object "PhoneRater$Call")), Cond.methodLink RX4 182 yX1_tell]
def wsL_law0_r15 : List Cond := [Cond.instanceMethod yX1_tell, Cond.selects RX1 yX1_tell yX1_tell, Cond.code yX1_tell cX1_tell 2 (some .int), Cond.methodLink RL 64 yX4_callAt, Cond.instanceMethod yX4_callAt, Cond.selects RX4 yX4_callAt yX4_callAt, Cond.code yX4_callAt cX4_callAt 2 (some .int), Cond.fieldLink RX4 175 "PhoneRater$Call" "number" "I", Cond.methodLink RL 68 yX4_lineSum, Cond.instanceMethod yX4_lineSum, Cond.selects RX4 yX4_lineSum yX4_lineSum, Cond.code yX4_lineSum cX4_lineSum 2 (some .int), Cond.methodLink RL 71 yX4_daySum, Cond.instanceMethod yX4_daySum, Cond.selects RX4 yX4_daySum yX4_daySum, Cond.code yX4_daySum cX4_daySum 5 (some .int), Cond.methodLink RL 74 yX4_sum, Cond.instanceMethod yX4_sum, Cond.selects RX4 yX4_sum yX4_sum, Cond.code yX4_sum cX4_sum 2 (some .int), Cond.methodLink RL 77 yX4_total, Cond.instanceMethod yX4_total, Cond.selects RX4 yX4_total yX4_total, Cond.code yX4_total cX4_total 2 (some .int)]
def wsL_law0_r16 : List Cond := [Cond.methodLink RX4 198 yX0_cents, Cond.instanceMethod yX0_cents, Cond.selects RX0 yX0_cents yX0_cents, Cond.code yX0_cents cX0_cents 4 (some .int), Cond.methodLink RX0 44 Lib.Math.max.name, Cond.constantLong RX0 47 (100), Cond.methodLink RL 85 yX4_dearest, Cond.instanceMethod yX4_dearest, Cond.selects RX4 yX4_dearest yX4_dearest, Cond.code yX4_dearest cX4_dearest 5 (some .int), Cond.methodLink RL 88 yX4_freeShare, Cond.instanceMethod yX4_freeShare, Cond.selects RX4 yX4_freeShare yX4_freeShare, Cond.code yX4_freeShare cX4_freeShare 5 (some .double)]
def wsL_law0 : List Cond := (wsL_law0_r1 ++ (wsL_law0_r2 ++ (wsL_law0_r3 ++ (wsL_law0_r4 ++ (wsL_law0_r5 ++ (wsL_law0_r6 ++ (wsL_law0_r7 ++ (wsL_law0_r8 ++ (wsL_law0_r9 ++ (wsL_law0_r10 ++ (wsL_law0_r11 ++ (wsL_law0_r12 ++ (wsL_law0_r13 ++ (wsL_law0_r14 ++ (wsL_law0_r15 ++ wsL_law0_r16))))))))))))))) ++ wsX40 ++ wsJx4a65c0 ++ wsX30 ++ wsX10 ++ wsX00 ++ wsX20 ++ ([] : List Cond)
def wsL_law : List Cond := wsL_law0 ++ (vx_atS RX4 43 "java/lang/IllegalArgumentException" ["java/lang/RuntimeException", "java/lang/Exception"]).filter goodWord ++ (vx_atS RX4 60 "java/lang/IllegalStateException" ["java/lang/RuntimeException", "java/lang/Exception"]).filter goodWord ++ (vx_atS RX4 170 "java/lang/IndexOutOfBoundsException" ["java/lang/RuntimeException", "java/lang/Exception"]).filter goodWord
theorem inlX0 : ∀ w ∈ wsX00, w ∈ wsL_law := fun _ h => List.mem_append_left _ (List.mem_append_left _ (List.mem_append_left _ (List.mem_append_left _ (List.mem_append_left _ (List.mem_append_right _ h)))))
theorem inlX1 : ∀ w ∈ wsX10, w ∈ wsL_law := fun _ h => List.mem_append_left _ (List.mem_append_left _ (List.mem_append_left _ (List.mem_append_left _ (List.mem_append_left _ (List.mem_append_left _ (List.mem_append_right _ h))))))
theorem inlX2 : ∀ w ∈ wsX20, w ∈ wsL_law := fun _ h => List.mem_append_left _ (List.mem_append_left _ (List.mem_append_left _ (List.mem_append_left _ (List.mem_append_right _ h))))
theorem inlX3 : ∀ w ∈ wsX30, w ∈ wsL_law := fun _ h => List.mem_append_left _ (List.mem_append_left _ (List.mem_append_left _ (List.mem_append_left _ (List.mem_append_left _ (List.mem_append_left _ (List.mem_append_left _ (List.mem_append_right _ h)))))))
theorem inlX4 : ∀ w ∈ wsX40, w ∈ wsL_law := fun _ h => List.mem_append_left _ (List.mem_append_left _ (List.mem_append_left _ (List.mem_append_left _ (List.mem_append_left _ (List.mem_append_left _ (List.mem_append_left _ (List.mem_append_left _ (List.mem_append_left _ (List.mem_append_right _ h)))))))))
theorem inlJx4a65c : ∀ w ∈ wsJx4a65c0, w ∈ wsL_law := fun _ h => List.mem_append_left _ (List.mem_append_left _ (List.mem_append_left _ (List.mem_append_left _ (List.mem_append_left _ (List.mem_append_left _ (List.mem_append_left _ (List.mem_append_left _ (List.mem_append_right _ h))))))))
abbrev vwCl : List vw_C := [(RJx4a65c, TJx4a65c, 3), (RX0, TX0, 6), (RX1, TX1, 9), (RX2, TX2, 6), (RX3, TX3, 8), (RX4, TX4, 7)]
end
section
theorem dX0_init_0 : decode cX0_init 0 = .ok (.aload_n 0, 1) := by decide +kernel
theorem dX0_init_1 : decode cX0_init 1 = .ok (.invokespecial 3, 3) := by decide +kernel
theorem dX0_init_4 : decode cX0_init 4 = .ok (.aload_n 0, 1) := by decide +kernel
theorem dX0_init_5 : decode cX0_init 5 = .ok (.iload_n 1, 1) := by decide +kernel
theorem dX0_init_6 : decode cX0_init 6 = .ok (.putfield 9, 3) := by decide +kernel
theorem dX0_init_9 : decode cX0_init 9 = .ok (.aload_n 0, 1) := by decide +kernel
theorem dX0_init_10 : decode cX0_init 10 = .ok (.iload_n 2, 1) := by decide +kernel
theorem dX0_init_11 : decode cX0_init 11 = .ok (.putfield 15, 3) := by decide +kernel
theorem dX0_init_14 : decode cX0_init 14 = .ok (.aload_n 0, 1) := by decide +kernel
theorem dX0_init_15 : decode cX0_init 15 = .ok (.iload_n 3, 1) := by decide +kernel
theorem dX0_init_16 : decode cX0_init 16 = .ok (.putfield 18, 3) := by decide +kernel
theorem dX0_init_19 : decode cX0_init 19 = .ok (.aload_n 0, 1) := by decide +kernel
theorem dX0_init_20 : decode cX0_init 20 = .ok (.iload_n 1, 1) := by decide +kernel
theorem dX0_init_21 : decode cX0_init 21 = .ok (.putfield 21, 3) := by decide +kernel
theorem dX0_init_24 : decode cX0_init 24 = .ok (.aload_n 0, 1) := by decide +kernel
theorem dX0_init_25 : decode cX0_init 25 = .ok (.iconst (-1), 1) := by decide +kernel
theorem dX0_init_26 : decode cX0_init 26 = .ok (.putfield 24, 3) := by decide +kernel
theorem dX0_init_29 : decode cX0_init 29 = .ok (.return_, 1) := by decide +kernel
theorem dX0_forgetRating_0 : decode cX0_forgetRating 0 = .ok (.aload_n 0, 1) := by decide +kernel
theorem dX0_forgetRating_1 : decode cX0_forgetRating 1 = .ok (.aload_n 0, 1) := by decide +kernel
theorem dX0_forgetRating_2 : decode cX0_forgetRating 2 = .ok (.getfield 9, 3) := by decide +kernel
theorem dX0_forgetRating_5 : decode cX0_forgetRating 5 = .ok (.putfield 21, 3) := by decide +kernel
theorem dX0_forgetRating_8 : decode cX0_forgetRating 8 = .ok (.aload_n 0, 1) := by decide +kernel
theorem dX0_forgetRating_9 : decode cX0_forgetRating 9 = .ok (.iconst (-1), 1) := by decide +kernel
theorem dX0_forgetRating_10 : decode cX0_forgetRating 10 = .ok (.putfield 24, 3) := by decide +kernel
theorem dX0_forgetRating_13 : decode cX0_forgetRating 13 = .ok (.aload_n 0, 1) := by decide +kernel
theorem dX0_forgetRating_14 : decode cX0_forgetRating 14 = .ok (.iconst 0, 1) := by decide +kernel
theorem dX0_forgetRating_15 : decode cX0_forgetRating 15 = .ok (.putfield 27, 3) := by decide +kernel
theorem dX0_forgetRating_18 : decode cX0_forgetRating 18 = .ok (.return_, 1) := by decide +kernel
theorem dX0_takeFromBundle_0 : decode cX0_takeFromBundle 0 = .ok (.aload_n 0, 1) := by decide +kernel
theorem dX0_takeFromBundle_1 : decode cX0_takeFromBundle 1 = .ok (.getfield 21, 3) := by decide +kernel
theorem dX0_takeFromBundle_4 : decode cX0_takeFromBundle 4 = .ok (.aload_n 1, 1) := by decide +kernel
theorem dX0_takeFromBundle_5 : decode cX0_takeFromBundle 5 = .ok (.getfield 30, 3) := by decide +kernel
theorem dX0_takeFromBundle_8 : decode cX0_takeFromBundle 8 = .ok (.invokestatic 35, 3) := by decide +kernel
theorem dX0_takeFromBundle_11 : decode cX0_takeFromBundle 11 = .ok (.istore_n 2, 1) := by decide +kernel
theorem dX0_takeFromBundle_12 : decode cX0_takeFromBundle 12 = .ok (.aload_n 0, 1) := by decide +kernel
theorem dX0_takeFromBundle_13 : decode cX0_takeFromBundle 13 = .ok (.dup, 1) := by decide +kernel
theorem dX0_takeFromBundle_14 : decode cX0_takeFromBundle 14 = .ok (.getfield 21, 3) := by decide +kernel
theorem dX0_takeFromBundle_17 : decode cX0_takeFromBundle 17 = .ok (.iload_n 2, 1) := by decide +kernel
theorem dX0_takeFromBundle_18 : decode cX0_takeFromBundle 18 = .ok (.isub, 1) := by decide +kernel
theorem dX0_takeFromBundle_19 : decode cX0_takeFromBundle 19 = .ok (.putfield 21, 3) := by decide +kernel
theorem dX0_takeFromBundle_22 : decode cX0_takeFromBundle 22 = .ok (.iload_n 2, 1) := by decide +kernel
theorem dX0_takeFromBundle_23 : decode cX0_takeFromBundle 23 = .ok (.ifCond .le 18, 3) := by decide +kernel
theorem dX0_takeFromBundle_26 : decode cX0_takeFromBundle 26 = .ok (.aload_n 0, 1) := by decide +kernel
theorem dX0_takeFromBundle_27 : decode cX0_takeFromBundle 27 = .ok (.getfield 21, 3) := by decide +kernel
theorem dX0_takeFromBundle_30 : decode cX0_takeFromBundle 30 = .ok (.ifCond .ne 11, 3) := by decide +kernel
theorem dX0_takeFromBundle_33 : decode cX0_takeFromBundle 33 = .ok (.aload_n 0, 1) := by decide +kernel
theorem dX0_takeFromBundle_34 : decode cX0_takeFromBundle 34 = .ok (.aload_n 1, 1) := by decide +kernel
theorem dX0_takeFromBundle_35 : decode cX0_takeFromBundle 35 = .ok (.getfield 41, 3) := by decide +kernel
theorem dX0_takeFromBundle_38 : decode cX0_takeFromBundle 38 = .ok (.putfield 24, 3) := by decide +kernel
theorem dX0_takeFromBundle_41 : decode cX0_takeFromBundle 41 = .ok (.iload_n 2, 1) := by decide +kernel
theorem dX0_takeFromBundle_42 : decode cX0_takeFromBundle 42 = .ok (.ireturn, 1) := by decide +kernel
theorem dX0_cents_0 : decode cX0_cents 0 = .ok (.iconst 0, 1) := by decide +kernel
theorem dX0_cents_1 : decode cX0_cents 1 = .ok (.aload_n 0, 1) := by decide +kernel
theorem dX0_cents_2 : decode cX0_cents 2 = .ok (.getfield 27, 3) := by decide +kernel
theorem dX0_cents_5 : decode cX0_cents 5 = .ok (.aload_n 0, 1) := by decide +kernel
theorem dX0_cents_6 : decode cX0_cents 6 = .ok (.getfield 15, 3) := by decide +kernel
theorem dX0_cents_9 : decode cX0_cents 9 = .ok (.isub, 1) := by decide +kernel
theorem dX0_cents_10 : decode cX0_cents 10 = .ok (.invokestatic 44, 3) := by decide +kernel
theorem dX0_cents_13 : decode cX0_cents 13 = .ok (.i2l, 1) := by decide +kernel
theorem dX0_cents_14 : decode cX0_cents 14 = .ok (.lstore_n 1, 1) := by decide +kernel
theorem dX0_cents_15 : decode cX0_cents 15 = .ok (.lload_n 1, 1) := by decide +kernel
theorem dX0_cents_16 : decode cX0_cents 16 = .ok (.aload_n 0, 1) := by decide +kernel
theorem dX0_cents_17 : decode cX0_cents 17 = .ok (.getfield 18, 3) := by decide +kernel
theorem dX0_cents_20 : decode cX0_cents 20 = .ok (.i2l, 1) := by decide +kernel
theorem dX0_cents_21 : decode cX0_cents 21 = .ok (.lmul, 1) := by decide +kernel
theorem dX0_cents_22 : decode cX0_cents 22 = .ok (.ldc2_w 47, 3) := by decide +kernel
theorem dX0_cents_25 : decode cX0_cents 25 = .ok (.ldiv, 1) := by decide +kernel
theorem dX0_cents_26 : decode cX0_cents 26 = .ok (.l2i, 1) := by decide +kernel
theorem dX0_cents_27 : decode cX0_cents 27 = .ok (.istore_n 3, 1) := by decide +kernel
theorem dX0_cents_28 : decode cX0_cents 28 = .ok (.aload_n 0, 1) := by decide +kernel
theorem dX0_cents_29 : decode cX0_cents 29 = .ok (.getfield 27, 3) := by decide +kernel
theorem dX0_cents_32 : decode cX0_cents 32 = .ok (.iload_n 3, 1) := by decide +kernel
theorem dX0_cents_33 : decode cX0_cents 33 = .ok (.isub, 1) := by decide +kernel
theorem dX0_cents_34 : decode cX0_cents 34 = .ok (.iconst 5, 1) := by decide +kernel
theorem dX0_cents_35 : decode cX0_cents 35 = .ok (.iadd, 1) := by decide +kernel
theorem dX0_cents_36 : decode cX0_cents 36 = .ok (.bipush 10, 2) := by decide +kernel
theorem dX0_cents_38 : decode cX0_cents 38 = .ok (.idiv, 1) := by decide +kernel
theorem dX0_cents_39 : decode cX0_cents 39 = .ok (.ireturn, 1) := by decide +kernel
theorem dX1_init_0 : decode cX1_init 0 = .ok (.aload_n 0, 1) := by decide +kernel
theorem dX1_init_1 : decode cX1_init 1 = .ok (.invokespecial 3, 3) := by decide +kernel
theorem dX1_init_4 : decode cX1_init 4 = .ok (.aload_n 0, 1) := by decide +kernel
theorem dX1_init_5 : decode cX1_init 5 = .ok (.iload_n 1, 1) := by decide +kernel
theorem dX1_init_6 : decode cX1_init 6 = .ok (.putfield 9, 3) := by decide +kernel
theorem dX1_init_9 : decode cX1_init 9 = .ok (.aload_n 0, 1) := by decide +kernel
theorem dX1_init_10 : decode cX1_init 10 = .ok (.aload_n 2, 1) := by decide +kernel
theorem dX1_init_11 : decode cX1_init 11 = .ok (.putfield 15, 3) := by decide +kernel
theorem dX1_init_14 : decode cX1_init 14 = .ok (.aload_n 0, 1) := by decide +kernel
theorem dX1_init_15 : decode cX1_init 15 = .ok (.iload_n 3, 1) := by decide +kernel
theorem dX1_init_16 : decode cX1_init 16 = .ok (.putfield 19, 3) := by decide +kernel
theorem dX1_init_19 : decode cX1_init 19 = .ok (.aload_n 0, 1) := by decide +kernel
theorem dX1_init_20 : decode cX1_init 20 = .ok (.iload 4, 2) := by decide +kernel
theorem dX1_init_22 : decode cX1_init 22 = .ok (.putfield 22, 3) := by decide +kernel
theorem dX1_init_25 : decode cX1_init 25 = .ok (.aload_n 0, 1) := by decide +kernel
theorem dX1_init_26 : decode cX1_init 26 = .ok (.iload 5, 2) := by decide +kernel
theorem dX1_init_28 : decode cX1_init 28 = .ok (.putfield 25, 3) := by decide +kernel
theorem dX1_init_31 : decode cX1_init 31 = .ok (.return_, 1) := by decide +kernel
theorem dX1_day_0 : decode cX1_day 0 = .ok (.aload_n 0, 1) := by decide +kernel
theorem dX1_day_1 : decode cX1_day 1 = .ok (.getfield 19, 3) := by decide +kernel
theorem dX1_day_4 : decode cX1_day 4 = .ok (.sipush 1440, 3) := by decide +kernel
theorem dX1_day_7 : decode cX1_day 7 = .ok (.idiv, 1) := by decide +kernel
theorem dX1_day_8 : decode cX1_day 8 = .ok (.ireturn, 1) := by decide +kernel
theorem dX1_forgetRating_0 : decode cX1_forgetRating 0 = .ok (.aload_n 0, 1) := by decide +kernel
theorem dX1_forgetRating_1 : decode cX1_forgetRating 1 = .ok (.iconst 0, 1) := by decide +kernel
theorem dX1_forgetRating_2 : decode cX1_forgetRating 2 = .ok (.putfield 28, 3) := by decide +kernel
theorem dX1_forgetRating_5 : decode cX1_forgetRating 5 = .ok (.aload_n 0, 1) := by decide +kernel
theorem dX1_forgetRating_6 : decode cX1_forgetRating 6 = .ok (.iconst 0, 1) := by decide +kernel
theorem dX1_forgetRating_7 : decode cX1_forgetRating 7 = .ok (.putfield 31, 3) := by decide +kernel
theorem dX1_forgetRating_10 : decode cX1_forgetRating 10 = .ok (.aload_n 0, 1) := by decide +kernel
theorem dX1_forgetRating_11 : decode cX1_forgetRating 11 = .ok (.iconst 0, 1) := by decide +kernel
theorem dX1_forgetRating_12 : decode cX1_forgetRating 12 = .ok (.putfield 34, 3) := by decide +kernel
theorem dX1_forgetRating_15 : decode cX1_forgetRating 15 = .ok (.aload_n 0, 1) := by decide +kernel
theorem dX1_forgetRating_16 : decode cX1_forgetRating 16 = .ok (.iconst 0, 1) := by decide +kernel
theorem dX1_forgetRating_17 : decode cX1_forgetRating 17 = .ok (.putfield 37, 3) := by decide +kernel
theorem dX1_forgetRating_20 : decode cX1_forgetRating 20 = .ok (.return_, 1) := by decide +kernel
theorem dX1_tell_0 : decode cX1_tell 0 = .ok (.iload_n 1, 1) := by decide +kernel
theorem dX1_tell_1 : decode cX1_tell 1 = .ok (.tableswitch 51 0 3 #[31, 36, 41, 46], 31) := by decide +kernel
theorem dX1_tell_32 : decode cX1_tell 32 = .ok (.aload_n 0, 1) := by decide +kernel
theorem dX1_tell_33 : decode cX1_tell 33 = .ok (.getfield 22, 3) := by decide +kernel
theorem dX1_tell_36 : decode cX1_tell 36 = .ok (.ireturn, 1) := by decide +kernel
theorem dX1_tell_37 : decode cX1_tell 37 = .ok (.aload_n 0, 1) := by decide +kernel
theorem dX1_tell_38 : decode cX1_tell 38 = .ok (.getfield 28, 3) := by decide +kernel
theorem dX1_tell_41 : decode cX1_tell 41 = .ok (.ireturn, 1) := by decide +kernel
theorem dX1_tell_42 : decode cX1_tell 42 = .ok (.aload_n 0, 1) := by decide +kernel
theorem dX1_tell_43 : decode cX1_tell 43 = .ok (.getfield 31, 3) := by decide +kernel
theorem dX1_tell_46 : decode cX1_tell 46 = .ok (.ireturn, 1) := by decide +kernel
theorem dX1_tell_47 : decode cX1_tell 47 = .ok (.aload_n 0, 1) := by decide +kernel
theorem dX1_tell_48 : decode cX1_tell 48 = .ok (.getfield 34, 3) := by decide +kernel
theorem dX1_tell_51 : decode cX1_tell 51 = .ok (.ireturn, 1) := by decide +kernel
theorem dX1_tell_52 : decode cX1_tell 52 = .ok (.aload_n 0, 1) := by decide +kernel
theorem dX1_tell_53 : decode cX1_tell 53 = .ok (.getfield 37, 3) := by decide +kernel
theorem dX1_tell_56 : decode cX1_tell 56 = .ok (.ireturn, 1) := by decide +kernel
theorem dX2_init_0 : decode cX2_init 0 = .ok (.aload_n 0, 1) := by decide +kernel
theorem dX2_init_1 : decode cX2_init 1 = .ok (.invokespecial 3, 3) := by decide +kernel
theorem dX2_init_4 : decode cX2_init 4 = .ok (.aload_n 0, 1) := by decide +kernel
theorem dX2_init_5 : decode cX2_init 5 = .ok (.iconst 3, 1) := by decide +kernel
theorem dX2_init_6 : decode cX2_init 6 = .ok (.newarray .int, 2) := by decide +kernel
theorem dX2_init_8 : decode cX2_init 8 = .ok (.putfield 9, 3) := by decide +kernel
theorem dX2_init_11 : decode cX2_init 11 = .ok (.aload_n 0, 1) := by decide +kernel
theorem dX2_init_12 : decode cX2_init 12 = .ok (.iconst 3, 1) := by decide +kernel
theorem dX2_init_13 : decode cX2_init 13 = .ok (.newarray .int, 2) := by decide +kernel
theorem dX2_init_15 : decode cX2_init 15 = .ok (.putfield 15, 3) := by decide +kernel
theorem dX2_init_18 : decode cX2_init 18 = .ok (.aload_n 0, 1) := by decide +kernel
theorem dX2_init_19 : decode cX2_init 19 = .ok (.iconst 3, 1) := by decide +kernel
theorem dX2_init_20 : decode cX2_init 20 = .ok (.newarray .int, 2) := by decide +kernel
theorem dX2_init_22 : decode cX2_init 22 = .ok (.putfield 18, 3) := by decide +kernel
theorem dX2_init_25 : decode cX2_init 25 = .ok (.aload_n 0, 1) := by decide +kernel
theorem dX2_init_26 : decode cX2_init 26 = .ok (.aload_n 1, 1) := by decide +kernel
theorem dX2_init_27 : decode cX2_init 27 = .ok (.putfield 21, 3) := by decide +kernel
theorem dX2_init_30 : decode cX2_init 30 = .ok (.aload_n 0, 1) := by decide +kernel
theorem dX2_init_31 : decode cX2_init 31 = .ok (.aload_n 2, 1) := by decide +kernel
theorem dX2_init_32 : decode cX2_init 32 = .ok (.putfield 25, 3) := by decide +kernel
theorem dX2_init_35 : decode cX2_init 35 = .ok (.return_, 1) := by decide +kernel
theorem dX2_forgetRating_0 : decode cX2_forgetRating 0 = .ok (.aload_n 0, 1) := by decide +kernel
theorem dX2_forgetRating_1 : decode cX2_forgetRating 1 = .ok (.iconst 0, 1) := by decide +kernel
theorem dX2_forgetRating_2 : decode cX2_forgetRating 2 = .ok (.putfield 29, 3) := by decide +kernel
theorem dX2_forgetRating_5 : decode cX2_forgetRating 5 = .ok (.iconst 1, 1) := by decide +kernel
theorem dX2_forgetRating_6 : decode cX2_forgetRating 6 = .ok (.istore_n 1, 1) := by decide +kernel
theorem dX2_forgetRating_7 : decode cX2_forgetRating 7 = .ok (.iload_n 1, 1) := by decide +kernel
theorem dX2_forgetRating_8 : decode cX2_forgetRating 8 = .ok (.iconst 3, 1) := by decide +kernel
theorem dX2_forgetRating_9 : decode cX2_forgetRating 9 = .ok (.if_icmp .ge 23, 3) := by decide +kernel
theorem dX2_forgetRating_12 : decode cX2_forgetRating 12 = .ok (.aload_n 0, 1) := by decide +kernel
theorem dX2_forgetRating_13 : decode cX2_forgetRating 13 = .ok (.getfield 9, 3) := by decide +kernel
theorem dX2_forgetRating_16 : decode cX2_forgetRating 16 = .ok (.iload_n 1, 1) := by decide +kernel
theorem dX2_forgetRating_17 : decode cX2_forgetRating 17 = .ok (.iconst 0, 1) := by decide +kernel
theorem dX2_forgetRating_18 : decode cX2_forgetRating 18 = .ok (.iastore, 1) := by decide +kernel
theorem dX2_forgetRating_19 : decode cX2_forgetRating 19 = .ok (.aload_n 0, 1) := by decide +kernel
theorem dX2_forgetRating_20 : decode cX2_forgetRating 20 = .ok (.getfield 15, 3) := by decide +kernel
theorem dX2_forgetRating_23 : decode cX2_forgetRating 23 = .ok (.iload_n 1, 1) := by decide +kernel
theorem dX2_forgetRating_24 : decode cX2_forgetRating 24 = .ok (.iconst (-1), 1) := by decide +kernel
theorem dX2_forgetRating_25 : decode cX2_forgetRating 25 = .ok (.iastore, 1) := by decide +kernel
theorem dX2_forgetRating_26 : decode cX2_forgetRating 26 = .ok (.iinc 1 1, 3) := by decide +kernel
theorem dX2_forgetRating_29 : decode cX2_forgetRating 29 = .ok (.goto (-22), 3) := by decide +kernel
theorem dX2_forgetRating_32 : decode cX2_forgetRating 32 = .ok (.return_, 1) := by decide +kernel
theorem dX2_beginsFeeDay_0 : decode cX2_beginsFeeDay 0 = .ok (.aload_n 0, 1) := by decide +kernel
theorem dX2_beginsFeeDay_1 : decode cX2_beginsFeeDay 1 = .ok (.getfield 15, 3) := by decide +kernel
theorem dX2_beginsFeeDay_4 : decode cX2_beginsFeeDay 4 = .ok (.iload_n 1, 1) := by decide +kernel
theorem dX2_beginsFeeDay_5 : decode cX2_beginsFeeDay 5 = .ok (.iaload, 1) := by decide +kernel
theorem dX2_beginsFeeDay_6 : decode cX2_beginsFeeDay 6 = .ok (.iload_n 2, 1) := by decide +kernel
theorem dX2_beginsFeeDay_7 : decode cX2_beginsFeeDay 7 = .ok (.if_icmp .ne 5, 3) := by decide +kernel
theorem dX2_beginsFeeDay_10 : decode cX2_beginsFeeDay 10 = .ok (.iconst 0, 1) := by decide +kernel
theorem dX2_beginsFeeDay_11 : decode cX2_beginsFeeDay 11 = .ok (.ireturn, 1) := by decide +kernel
theorem dX2_beginsFeeDay_12 : decode cX2_beginsFeeDay 12 = .ok (.aload_n 0, 1) := by decide +kernel
theorem dX2_beginsFeeDay_13 : decode cX2_beginsFeeDay 13 = .ok (.getfield 15, 3) := by decide +kernel
theorem dX2_beginsFeeDay_16 : decode cX2_beginsFeeDay 16 = .ok (.iload_n 1, 1) := by decide +kernel
theorem dX2_beginsFeeDay_17 : decode cX2_beginsFeeDay 17 = .ok (.iload_n 2, 1) := by decide +kernel
theorem dX2_beginsFeeDay_18 : decode cX2_beginsFeeDay 18 = .ok (.iastore, 1) := by decide +kernel
theorem dX2_beginsFeeDay_19 : decode cX2_beginsFeeDay 19 = .ok (.aload_n 0, 1) := by decide +kernel
theorem dX2_beginsFeeDay_20 : decode cX2_beginsFeeDay 20 = .ok (.getfield 18, 3) := by decide +kernel
theorem dX2_beginsFeeDay_23 : decode cX2_beginsFeeDay 23 = .ok (.iload_n 1, 1) := by decide +kernel
theorem dX2_beginsFeeDay_24 : decode cX2_beginsFeeDay 24 = .ok (.sipush 1800, 3) := by decide +kernel
theorem dX2_beginsFeeDay_27 : decode cX2_beginsFeeDay 27 = .ok (.iastore, 1) := by decide +kernel
theorem dX2_beginsFeeDay_28 : decode cX2_beginsFeeDay 28 = .ok (.aload_n 0, 1) := by decide +kernel
theorem dX2_beginsFeeDay_29 : decode cX2_beginsFeeDay 29 = .ok (.getfield 9, 3) := by decide +kernel
theorem dX2_beginsFeeDay_32 : decode cX2_beginsFeeDay 32 = .ok (.iload_n 1, 1) := by decide +kernel
theorem dX2_beginsFeeDay_33 : decode cX2_beginsFeeDay 33 = .ok (.dup2, 1) := by decide +kernel
theorem dX2_beginsFeeDay_34 : decode cX2_beginsFeeDay 34 = .ok (.iaload, 1) := by decide +kernel
theorem dX2_beginsFeeDay_35 : decode cX2_beginsFeeDay 35 = .ok (.iconst 1, 1) := by decide +kernel
theorem dX2_beginsFeeDay_36 : decode cX2_beginsFeeDay 36 = .ok (.iadd, 1) := by decide +kernel
theorem dX2_beginsFeeDay_37 : decode cX2_beginsFeeDay 37 = .ok (.iastore, 1) := by decide +kernel
theorem dX2_beginsFeeDay_38 : decode cX2_beginsFeeDay 38 = .ok (.iconst 1, 1) := by decide +kernel
theorem dX2_beginsFeeDay_39 : decode cX2_beginsFeeDay 39 = .ok (.ireturn, 1) := by decide +kernel
theorem dX2_takeFreeOfDay_0 : decode cX2_takeFreeOfDay 0 = .ok (.aload_n 0, 1) := by decide +kernel
theorem dX2_takeFreeOfDay_1 : decode cX2_takeFreeOfDay 1 = .ok (.getfield 18, 3) := by decide +kernel
theorem dX2_takeFreeOfDay_4 : decode cX2_takeFreeOfDay 4 = .ok (.iload_n 1, 1) := by decide +kernel
theorem dX2_takeFreeOfDay_5 : decode cX2_takeFreeOfDay 5 = .ok (.iaload, 1) := by decide +kernel
theorem dX2_takeFreeOfDay_6 : decode cX2_takeFreeOfDay 6 = .ok (.iload_n 2, 1) := by decide +kernel
theorem dX2_takeFreeOfDay_7 : decode cX2_takeFreeOfDay 7 = .ok (.invokestatic 33, 3) := by decide +kernel
theorem dX2_takeFreeOfDay_10 : decode cX2_takeFreeOfDay 10 = .ok (.istore_n 3, 1) := by decide +kernel
theorem dX2_takeFreeOfDay_11 : decode cX2_takeFreeOfDay 11 = .ok (.aload_n 0, 1) := by decide +kernel
theorem dX2_takeFreeOfDay_12 : decode cX2_takeFreeOfDay 12 = .ok (.getfield 18, 3) := by decide +kernel
theorem dX2_takeFreeOfDay_15 : decode cX2_takeFreeOfDay 15 = .ok (.iload_n 1, 1) := by decide +kernel
theorem dX2_takeFreeOfDay_16 : decode cX2_takeFreeOfDay 16 = .ok (.dup2, 1) := by decide +kernel
theorem dX2_takeFreeOfDay_17 : decode cX2_takeFreeOfDay 17 = .ok (.iaload, 1) := by decide +kernel
theorem dX2_takeFreeOfDay_18 : decode cX2_takeFreeOfDay 18 = .ok (.iload_n 3, 1) := by decide +kernel
theorem dX2_takeFreeOfDay_19 : decode cX2_takeFreeOfDay 19 = .ok (.isub, 1) := by decide +kernel
theorem dX2_takeFreeOfDay_20 : decode cX2_takeFreeOfDay 20 = .ok (.iastore, 1) := by decide +kernel
theorem dX2_takeFreeOfDay_21 : decode cX2_takeFreeOfDay 21 = .ok (.iload_n 3, 1) := by decide +kernel
theorem dX2_takeFreeOfDay_22 : decode cX2_takeFreeOfDay 22 = .ok (.ireturn, 1) := by decide +kernel
theorem dX3_init_0 : decode cX3_init 0 = .ok (.aload_n 0, 1) := by decide +kernel
theorem dX3_init_1 : decode cX3_init 1 = .ok (.invokespecial 3, 3) := by decide +kernel
theorem dX3_init_4 : decode cX3_init 4 = .ok (.aload_n 0, 1) := by decide +kernel
theorem dX3_init_5 : decode cX3_init 5 = .ok (.iconst 3, 1) := by decide +kernel
theorem dX3_init_6 : decode cX3_init 6 = .ok (.newarray .int, 2) := by decide +kernel
theorem dX3_init_8 : decode cX3_init 8 = .ok (.putfield 9, 3) := by decide +kernel
theorem dX3_init_11 : decode cX3_init 11 = .ok (.aload_n 0, 1) := by decide +kernel
theorem dX3_init_12 : decode cX3_init 12 = .ok (.iconst 3, 1) := by decide +kernel
theorem dX3_init_13 : decode cX3_init 13 = .ok (.newarray .int, 2) := by decide +kernel
theorem dX3_init_15 : decode cX3_init 15 = .ok (.putfield 15, 3) := by decide +kernel
theorem dX3_init_18 : decode cX3_init 18 = .ok (.aload_n 0, 1) := by decide +kernel
theorem dX3_init_19 : decode cX3_init 19 = .ok (.iload_n 1, 1) := by decide +kernel
theorem dX3_init_20 : decode cX3_init 20 = .ok (.putfield 18, 3) := by decide +kernel
theorem dX3_init_23 : decode cX3_init 23 = .ok (.aload_n 0, 1) := by decide +kernel
theorem dX3_init_24 : decode cX3_init 24 = .ok (.iload_n 2, 1) := by decide +kernel
theorem dX3_init_25 : decode cX3_init 25 = .ok (.putfield 22, 3) := by decide +kernel
theorem dX3_init_28 : decode cX3_init 28 = .ok (.aload_n 0, 1) := by decide +kernel
theorem dX3_init_29 : decode cX3_init 29 = .ok (.iload_n 3, 1) := by decide +kernel
theorem dX3_init_30 : decode cX3_init 30 = .ok (.putfield 25, 3) := by decide +kernel
theorem dX3_init_33 : decode cX3_init 33 = .ok (.aload_n 0, 1) := by decide +kernel
theorem dX3_init_34 : decode cX3_init 34 = .ok (.iload 4, 2) := by decide +kernel
theorem dX3_init_36 : decode cX3_init 36 = .ok (.putfield 28, 3) := by decide +kernel
theorem dX3_init_39 : decode cX3_init 39 = .ok (.aload_n 0, 1) := by decide +kernel
theorem dX3_init_40 : decode cX3_init 40 = .ok (.iload 5, 2) := by decide +kernel
theorem dX3_init_42 : decode cX3_init 42 = .ok (.putfield 31, 3) := by decide +kernel
theorem dX3_init_45 : decode cX3_init 45 = .ok (.aload_n 0, 1) := by decide +kernel
theorem dX3_init_46 : decode cX3_init 46 = .ok (.iload 6, 2) := by decide +kernel
theorem dX3_init_48 : decode cX3_init 48 = .ok (.putfield 34, 3) := by decide +kernel
theorem dX3_init_51 : decode cX3_init 51 = .ok (.return_, 1) := by decide +kernel
theorem dX3_billedFor_0 : decode cX3_billedFor 0 = .ok (.iload_n 1, 1) := by decide +kernel
theorem dX3_billedFor_1 : decode cX3_billedFor 1 = .ok (.aload_n 0, 1) := by decide +kernel
theorem dX3_billedFor_2 : decode cX3_billedFor 2 = .ok (.getfield 31, 3) := by decide +kernel
theorem dX3_billedFor_5 : decode cX3_billedFor 5 = .ok (.if_icmp .le 11, 3) := by decide +kernel
theorem dX3_billedFor_8 : decode cX3_billedFor 8 = .ok (.aload_n 0, 1) := by decide +kernel
theorem dX3_billedFor_9 : decode cX3_billedFor 9 = .ok (.getfield 34, 3) := by decide +kernel
theorem dX3_billedFor_12 : decode cX3_billedFor 12 = .ok (.iconst 1, 1) := by decide +kernel
theorem dX3_billedFor_13 : decode cX3_billedFor 13 = .ok (.if_icmp .ge 8, 3) := by decide +kernel
theorem dX3_billedFor_16 : decode cX3_billedFor 16 = .ok (.aload_n 0, 1) := by decide +kernel
theorem dX3_billedFor_17 : decode cX3_billedFor 17 = .ok (.getfield 31, 3) := by decide +kernel
theorem dX3_billedFor_20 : decode cX3_billedFor 20 = .ok (.ireturn, 1) := by decide +kernel
theorem dX3_billedFor_21 : decode cX3_billedFor 21 = .ok (.iload_n 1, 1) := by decide +kernel
theorem dX3_billedFor_22 : decode cX3_billedFor 22 = .ok (.aload_n 0, 1) := by decide +kernel
theorem dX3_billedFor_23 : decode cX3_billedFor 23 = .ok (.getfield 31, 3) := by decide +kernel
theorem dX3_billedFor_26 : decode cX3_billedFor 26 = .ok (.isub, 1) := by decide +kernel
theorem dX3_billedFor_27 : decode cX3_billedFor 27 = .ok (.aload_n 0, 1) := by decide +kernel
theorem dX3_billedFor_28 : decode cX3_billedFor 28 = .ok (.getfield 34, 3) := by decide +kernel
theorem dX3_billedFor_31 : decode cX3_billedFor 31 = .ok (.iadd, 1) := by decide +kernel
theorem dX3_billedFor_32 : decode cX3_billedFor 32 = .ok (.iconst 1, 1) := by decide +kernel
theorem dX3_billedFor_33 : decode cX3_billedFor 33 = .ok (.isub, 1) := by decide +kernel
theorem dX3_billedFor_34 : decode cX3_billedFor 34 = .ok (.aload_n 0, 1) := by decide +kernel
theorem dX3_billedFor_35 : decode cX3_billedFor 35 = .ok (.getfield 34, 3) := by decide +kernel
theorem dX3_billedFor_38 : decode cX3_billedFor 38 = .ok (.idiv, 1) := by decide +kernel
theorem dX3_billedFor_39 : decode cX3_billedFor 39 = .ok (.istore_n 2, 1) := by decide +kernel
theorem dX3_billedFor_40 : decode cX3_billedFor 40 = .ok (.aload_n 0, 1) := by decide +kernel
theorem dX3_billedFor_41 : decode cX3_billedFor 41 = .ok (.getfield 31, 3) := by decide +kernel
theorem dX3_billedFor_44 : decode cX3_billedFor 44 = .ok (.iload_n 2, 1) := by decide +kernel
theorem dX3_billedFor_45 : decode cX3_billedFor 45 = .ok (.aload_n 0, 1) := by decide +kernel
theorem dX3_billedFor_46 : decode cX3_billedFor 46 = .ok (.getfield 34, 3) := by decide +kernel
theorem dX3_billedFor_49 : decode cX3_billedFor 49 = .ok (.imul, 1) := by decide +kernel
theorem dX3_billedFor_50 : decode cX3_billedFor 50 = .ok (.iadd, 1) := by decide +kernel
theorem dX3_billedFor_51 : decode cX3_billedFor 51 = .ok (.ireturn, 1) := by decide +kernel
theorem dX3_chargeFor_0 : decode cX3_chargeFor 0 = .ok (.iload_n 1, 1) := by decide +kernel
theorem dX3_chargeFor_1 : decode cX3_chargeFor 1 = .ok (.ifCond .gt 5, 3) := by decide +kernel
theorem dX3_chargeFor_4 : decode cX3_chargeFor 4 = .ok (.iconst 0, 1) := by decide +kernel
theorem dX3_chargeFor_5 : decode cX3_chargeFor 5 = .ok (.ireturn, 1) := by decide +kernel
theorem dX3_chargeFor_6 : decode cX3_chargeFor 6 = .ok (.aload_n 0, 1) := by decide +kernel
theorem dX3_chargeFor_7 : decode cX3_chargeFor 7 = .ok (.getfield 22, 3) := by decide +kernel
theorem dX3_chargeFor_10 : decode cX3_chargeFor 10 = .ok (.iload_n 1, 1) := by decide +kernel
theorem dX3_chargeFor_11 : decode cX3_chargeFor 11 = .ok (.iload_n 2, 1) := by decide +kernel
theorem dX3_chargeFor_12 : decode cX3_chargeFor 12 = .ok (.imul, 1) := by decide +kernel
theorem dX3_chargeFor_13 : decode cX3_chargeFor 13 = .ok (.bipush 60, 2) := by decide +kernel
theorem dX3_chargeFor_15 : decode cX3_chargeFor 15 = .ok (.iadd, 1) := by decide +kernel
theorem dX3_chargeFor_16 : decode cX3_chargeFor 16 = .ok (.iconst 1, 1) := by decide +kernel
theorem dX3_chargeFor_17 : decode cX3_chargeFor 17 = .ok (.isub, 1) := by decide +kernel
theorem dX3_chargeFor_18 : decode cX3_chargeFor 18 = .ok (.bipush 60, 2) := by decide +kernel
theorem dX3_chargeFor_20 : decode cX3_chargeFor 20 = .ok (.idiv, 1) := by decide +kernel
theorem dX3_chargeFor_21 : decode cX3_chargeFor 21 = .ok (.iadd, 1) := by decide +kernel
theorem dX3_chargeFor_22 : decode cX3_chargeFor 22 = .ok (.ireturn, 1) := by decide +kernel
theorem dX4_init_0 : decode cX4_init 0 = .ok (.aload_n 0, 1) := by decide +kernel
theorem dX4_init_1 : decode cX4_init 1 = .ok (.invokespecial 1, 3) := by decide +kernel
theorem dX4_init_4 : decode cX4_init 4 = .ok (.aload_n 0, 1) := by decide +kernel
theorem dX4_init_5 : decode cX4_init 5 = .ok (.new 7, 3) := by decide +kernel
theorem dX4_init_8 : decode cX4_init 8 = .ok (.dup, 1) := by decide +kernel
theorem dX4_init_9 : decode cX4_init 9 = .ok (.invokespecial 9, 3) := by decide +kernel
theorem dX4_init_12 : decode cX4_init 12 = .ok (.putfield 10, 3) := by decide +kernel
theorem dX4_init_15 : decode cX4_init 15 = .ok (.aload_n 0, 1) := by decide +kernel
theorem dX4_init_16 : decode cX4_init 16 = .ok (.new 7, 3) := by decide +kernel
theorem dX4_init_19 : decode cX4_init 19 = .ok (.dup, 1) := by decide +kernel
theorem dX4_init_20 : decode cX4_init 20 = .ok (.invokespecial 9, 3) := by decide +kernel
theorem dX4_init_23 : decode cX4_init 23 = .ok (.putfield 16, 3) := by decide +kernel
theorem dX4_init_26 : decode cX4_init 26 = .ok (.aload_n 0, 1) := by decide +kernel
theorem dX4_init_27 : decode cX4_init 27 = .ok (.new 7, 3) := by decide +kernel
theorem dX4_init_30 : decode cX4_init 30 = .ok (.dup, 1) := by decide +kernel
theorem dX4_init_31 : decode cX4_init 31 = .ok (.invokespecial 9, 3) := by decide +kernel
theorem dX4_init_34 : decode cX4_init 34 = .ok (.putfield 19, 3) := by decide +kernel
theorem dX4_init_37 : decode cX4_init 37 = .ok (.aload_n 0, 1) := by decide +kernel
theorem dX4_init_38 : decode cX4_init 38 = .ok (.new 7, 3) := by decide +kernel
theorem dX4_init_41 : decode cX4_init 41 = .ok (.dup, 1) := by decide +kernel
theorem dX4_init_42 : decode cX4_init 42 = .ok (.invokespecial 9, 3) := by decide +kernel
theorem dX4_init_45 : decode cX4_init 45 = .ok (.putfield 22, 3) := by decide +kernel
theorem dX4_init_48 : decode cX4_init 48 = .ok (.aload_n 0, 1) := by decide +kernel
theorem dX4_init_49 : decode cX4_init 49 = .ok (.new 7, 3) := by decide +kernel
theorem dX4_init_52 : decode cX4_init 52 = .ok (.dup, 1) := by decide +kernel
theorem dX4_init_53 : decode cX4_init 53 = .ok (.invokespecial 9, 3) := by decide +kernel
theorem dX4_init_56 : decode cX4_init 56 = .ok (.putfield 25, 3) := by decide +kernel
theorem dX4_init_59 : decode cX4_init 59 = .ok (.aload_n 0, 1) := by decide +kernel
theorem dX4_init_60 : decode cX4_init 60 = .ok (.sipush 480, 3) := by decide +kernel
theorem dX4_init_63 : decode cX4_init 63 = .ok (.putfield 28, 3) := by decide +kernel
theorem dX4_init_66 : decode cX4_init 66 = .ok (.aload_n 0, 1) := by decide +kernel
theorem dX4_init_67 : decode cX4_init 67 = .ok (.sipush 1079, 3) := by decide +kernel
theorem dX4_init_70 : decode cX4_init 70 = .ok (.putfield 32, 3) := by decide +kernel
theorem dX4_init_73 : decode cX4_init 73 = .ok (.return_, 1) := by decide +kernel
theorem dX4_addTariff_0 : decode cX4_addTariff 0 = .ok (.iload_n 1, 1) := by decide +kernel
theorem dX4_addTariff_1 : decode cX4_addTariff 1 = .ok (.invokestatic 35, 3) := by decide +kernel
theorem dX4_addTariff_4 : decode cX4_addTariff 4 = .ok (.ifCond .eq 17, 3) := by decide +kernel
theorem dX4_addTariff_7 : decode cX4_addTariff 7 = .ok (.iload_n 2, 1) := by decide +kernel
theorem dX4_addTariff_8 : decode cX4_addTariff 8 = .ok (.invokestatic 35, 3) := by decide +kernel
theorem dX4_addTariff_11 : decode cX4_addTariff 11 = .ok (.ifCond .eq 10, 3) := by decide +kernel
theorem dX4_addTariff_14 : decode cX4_addTariff 14 = .ok (.iload_n 3, 1) := by decide +kernel
theorem dX4_addTariff_15 : decode cX4_addTariff 15 = .ok (.invokestatic 35, 3) := by decide +kernel
theorem dX4_addTariff_18 : decode cX4_addTariff 18 = .ok (.ifCond .ne 13, 3) := by decide +kernel
theorem dX4_addTariff_21 : decode cX4_addTariff 21 = .ok (.new 39, 3) := by decide +kernel
theorem dX4_addTariff_24 : decode cX4_addTariff 24 = .ok (.dup, 1) := by decide +kernel
theorem dX4_addTariff_25 : decode cX4_addTariff 25 = .ok (.ldc 41, 2) := by decide +kernel
theorem dX4_addTariff_27 : decode cX4_addTariff 27 = .ok (.invokespecial 43, 3) := by decide +kernel
theorem dX4_addTariff_30 : decode cX4_addTariff 30 = .ok (.athrow, 1) := by decide +kernel
theorem dX4_addTariff_31 : decode cX4_addTariff 31 = .ok (.iload 4, 2) := by decide +kernel
theorem dX4_addTariff_33 : decode cX4_addTariff 33 = .ok (.iconst 1, 1) := by decide +kernel
theorem dX4_addTariff_34 : decode cX4_addTariff 34 = .ok (.sipush 300, 3) := by decide +kernel
theorem dX4_addTariff_37 : decode cX4_addTariff 37 = .ok (.invokestatic 46, 3) := by decide +kernel
theorem dX4_addTariff_40 : decode cX4_addTariff 40 = .ok (.ifCond .eq 15, 3) := by decide +kernel
theorem dX4_addTariff_43 : decode cX4_addTariff 43 = .ok (.iload 5, 2) := by decide +kernel
theorem dX4_addTariff_45 : decode cX4_addTariff 45 = .ok (.iconst 1, 1) := by decide +kernel
theorem dX4_addTariff_46 : decode cX4_addTariff 46 = .ok (.sipush 300, 3) := by decide +kernel
theorem dX4_addTariff_49 : decode cX4_addTariff 49 = .ok (.invokestatic 46, 3) := by decide +kernel
theorem dX4_addTariff_52 : decode cX4_addTariff 52 = .ok (.ifCond .ne 13, 3) := by decide +kernel
theorem dX4_addTariff_55 : decode cX4_addTariff 55 = .ok (.new 39, 3) := by decide +kernel
theorem dX4_addTariff_58 : decode cX4_addTariff 58 = .ok (.dup, 1) := by decide +kernel
theorem dX4_addTariff_59 : decode cX4_addTariff 59 = .ok (.ldc 50, 2) := by decide +kernel
theorem dX4_addTariff_61 : decode cX4_addTariff 61 = .ok (.invokespecial 43, 3) := by decide +kernel
theorem dX4_addTariff_64 : decode cX4_addTariff 64 = .ok (.athrow, 1) := by decide +kernel
theorem dX4_addTariff_65 : decode cX4_addTariff 65 = .ok (.aload_n 0, 1) := by decide +kernel
theorem dX4_addTariff_66 : decode cX4_addTariff 66 = .ok (.getfield 10, 3) := by decide +kernel
theorem dX4_addTariff_69 : decode cX4_addTariff 69 = .ok (.invokevirtual 52, 3) := by decide +kernel
theorem dX4_addTariff_72 : decode cX4_addTariff 72 = .ok (.istore 6, 2) := by decide +kernel
theorem dX4_addTariff_74 : decode cX4_addTariff 74 = .ok (.iload 6, 2) := by decide +kernel
theorem dX4_addTariff_76 : decode cX4_addTariff 76 = .ok (.iconst 5, 1) := by decide +kernel
theorem dX4_addTariff_77 : decode cX4_addTariff 77 = .ok (.if_icmp .lt 13, 3) := by decide +kernel
theorem dX4_addTariff_80 : decode cX4_addTariff 80 = .ok (.new 56, 3) := by decide +kernel
theorem dX4_addTariff_83 : decode cX4_addTariff 83 = .ok (.dup, 1) := by decide +kernel
theorem dX4_addTariff_84 : decode cX4_addTariff 84 = .ok (.ldc 58, 2) := by decide +kernel
theorem dX4_addTariff_86 : decode cX4_addTariff 86 = .ok (.invokespecial 60, 3) := by decide +kernel
theorem dX4_addTariff_89 : decode cX4_addTariff 89 = .ok (.athrow, 1) := by decide +kernel
theorem dX4_addTariff_90 : decode cX4_addTariff 90 = .ok (.aload_n 0, 1) := by decide +kernel
theorem dX4_addTariff_91 : decode cX4_addTariff 91 = .ok (.getfield 10, 3) := by decide +kernel
theorem dX4_addTariff_94 : decode cX4_addTariff 94 = .ok (.new 61, 3) := by decide +kernel
theorem dX4_addTariff_97 : decode cX4_addTariff 97 = .ok (.dup, 1) := by decide +kernel
theorem dX4_addTariff_98 : decode cX4_addTariff 98 = .ok (.iload 6, 2) := by decide +kernel
theorem dX4_addTariff_100 : decode cX4_addTariff 100 = .ok (.iload_n 1, 1) := by decide +kernel
theorem dX4_addTariff_101 : decode cX4_addTariff 101 = .ok (.iload_n 2, 1) := by decide +kernel
theorem dX4_addTariff_102 : decode cX4_addTariff 102 = .ok (.iload_n 3, 1) := by decide +kernel
theorem dX4_addTariff_103 : decode cX4_addTariff 103 = .ok (.iload 4, 2) := by decide +kernel
theorem dX4_addTariff_105 : decode cX4_addTariff 105 = .ok (.iload 5, 2) := by decide +kernel
theorem dX4_addTariff_107 : decode cX4_addTariff 107 = .ok (.invokespecial 63, 3) := by decide +kernel
theorem dX4_addTariff_110 : decode cX4_addTariff 110 = .ok (.invokevirtual 66, 3) := by decide +kernel
theorem dX4_addTariff_113 : decode cX4_addTariff 113 = .ok (.pop, 1) := by decide +kernel
theorem dX4_addTariff_114 : decode cX4_addTariff 114 = .ok (.iload 6, 2) := by decide +kernel
theorem dX4_addTariff_116 : decode cX4_addTariff 116 = .ok (.ireturn, 1) := by decide +kernel
theorem dX4_setZone_0 : decode cX4_setZone 0 = .ok (.aload_n 0, 1) := by decide +kernel
theorem dX4_setZone_1 : decode cX4_setZone 1 = .ok (.iload_n 1, 1) := by decide +kernel
theorem dX4_setZone_2 : decode cX4_setZone 2 = .ok (.invokevirtual 70, 3) := by decide +kernel
theorem dX4_setZone_5 : decode cX4_setZone 5 = .ok (.astore 5, 2) := by decide +kernel
theorem dX4_setZone_7 : decode cX4_setZone 7 = .ok (.iload_n 2, 1) := by decide +kernel
theorem dX4_setZone_8 : decode cX4_setZone 8 = .ok (.invokestatic 74, 3) := by decide +kernel
theorem dX4_setZone_11 : decode cX4_setZone 11 = .ok (.iload_n 3, 1) := by decide +kernel
theorem dX4_setZone_12 : decode cX4_setZone 12 = .ok (.invokestatic 35, 3) := by decide +kernel
theorem dX4_setZone_15 : decode cX4_setZone 15 = .ok (.ifCond .eq 11, 3) := by decide +kernel
theorem dX4_setZone_18 : decode cX4_setZone 18 = .ok (.iload 4, 2) := by decide +kernel
theorem dX4_setZone_20 : decode cX4_setZone 20 = .ok (.invokestatic 35, 3) := by decide +kernel
theorem dX4_setZone_23 : decode cX4_setZone 23 = .ok (.ifCond .ne 13, 3) := by decide +kernel
theorem dX4_setZone_26 : decode cX4_setZone 26 = .ok (.new 39, 3) := by decide +kernel
theorem dX4_setZone_29 : decode cX4_setZone 29 = .ok (.dup, 1) := by decide +kernel
theorem dX4_setZone_30 : decode cX4_setZone 30 = .ok (.ldc 78, 2) := by decide +kernel
theorem dX4_setZone_32 : decode cX4_setZone 32 = .ok (.invokespecial 43, 3) := by decide +kernel
theorem dX4_setZone_35 : decode cX4_setZone 35 = .ok (.athrow, 1) := by decide +kernel
theorem dX4_setZone_36 : decode cX4_setZone 36 = .ok (.aload 5, 2) := by decide +kernel
theorem dX4_setZone_38 : decode cX4_setZone 38 = .ok (.getfield 80, 3) := by decide +kernel
theorem dX4_setZone_41 : decode cX4_setZone 41 = .ok (.iload_n 2, 1) := by decide +kernel
theorem dX4_setZone_42 : decode cX4_setZone 42 = .ok (.iaload, 1) := by decide +kernel
theorem dX4_setZone_43 : decode cX4_setZone 43 = .ok (.istore 6, 2) := by decide +kernel
theorem dX4_setZone_45 : decode cX4_setZone 45 = .ok (.aload 5, 2) := by decide +kernel
theorem dX4_setZone_47 : decode cX4_setZone 47 = .ok (.getfield 80, 3) := by decide +kernel
theorem dX4_setZone_50 : decode cX4_setZone 50 = .ok (.iload_n 2, 1) := by decide +kernel
theorem dX4_setZone_51 : decode cX4_setZone 51 = .ok (.iload_n 3, 1) := by decide +kernel
theorem dX4_setZone_52 : decode cX4_setZone 52 = .ok (.iastore, 1) := by decide +kernel
theorem dX4_setZone_53 : decode cX4_setZone 53 = .ok (.aload 5, 2) := by decide +kernel
theorem dX4_setZone_55 : decode cX4_setZone 55 = .ok (.getfield 84, 3) := by decide +kernel
theorem dX4_setZone_58 : decode cX4_setZone 58 = .ok (.iload_n 2, 1) := by decide +kernel
theorem dX4_setZone_59 : decode cX4_setZone 59 = .ok (.iload 4, 2) := by decide +kernel
theorem dX4_setZone_61 : decode cX4_setZone 61 = .ok (.iastore, 1) := by decide +kernel
theorem dX4_setZone_62 : decode cX4_setZone 62 = .ok (.aload_n 0, 1) := by decide +kernel
theorem dX4_setZone_63 : decode cX4_setZone 63 = .ok (.invokevirtual 87, 3) := by decide +kernel
theorem dX4_setZone_66 : decode cX4_setZone 66 = .ok (.iload 6, 2) := by decide +kernel
theorem dX4_setZone_68 : decode cX4_setZone 68 = .ok (.ireturn, 1) := by decide +kernel
theorem dX4_addAccount_0 : decode cX4_addAccount 0 = .ok (.iload_n 1, 1) := by decide +kernel
theorem dX4_addAccount_1 : decode cX4_addAccount 1 = .ok (.invokestatic 95, 3) := by decide +kernel
theorem dX4_addAccount_4 : decode cX4_addAccount 4 = .ok (.iload_n 2, 1) := by decide +kernel
theorem dX4_addAccount_5 : decode cX4_addAccount 5 = .ok (.iconst 0, 1) := by decide +kernel
theorem dX4_addAccount_6 : decode cX4_addAccount 6 = .ok (.ldc 98, 2) := by decide +kernel
theorem dX4_addAccount_8 : decode cX4_addAccount 8 = .ok (.invokestatic 46, 3) := by decide +kernel
theorem dX4_addAccount_11 : decode cX4_addAccount 11 = .ok (.ifCond .ne 13, 3) := by decide +kernel
theorem dX4_addAccount_14 : decode cX4_addAccount 14 = .ok (.new 39, 3) := by decide +kernel
theorem dX4_addAccount_17 : decode cX4_addAccount 17 = .ok (.dup, 1) := by decide +kernel
theorem dX4_addAccount_18 : decode cX4_addAccount 18 = .ok (.ldc 99, 2) := by decide +kernel
theorem dX4_addAccount_20 : decode cX4_addAccount 20 = .ok (.invokespecial 43, 3) := by decide +kernel
theorem dX4_addAccount_23 : decode cX4_addAccount 23 = .ok (.athrow, 1) := by decide +kernel
theorem dX4_addAccount_24 : decode cX4_addAccount 24 = .ok (.iload_n 3, 1) := by decide +kernel
theorem dX4_addAccount_25 : decode cX4_addAccount 25 = .ok (.iconst 0, 1) := by decide +kernel
theorem dX4_addAccount_26 : decode cX4_addAccount 26 = .ok (.bipush 100, 2) := by decide +kernel
theorem dX4_addAccount_28 : decode cX4_addAccount 28 = .ok (.invokestatic 46, 3) := by decide +kernel
theorem dX4_addAccount_31 : decode cX4_addAccount 31 = .ok (.ifCond .ne 13, 3) := by decide +kernel
theorem dX4_addAccount_34 : decode cX4_addAccount 34 = .ok (.new 39, 3) := by decide +kernel
theorem dX4_addAccount_37 : decode cX4_addAccount 37 = .ok (.dup, 1) := by decide +kernel
theorem dX4_addAccount_38 : decode cX4_addAccount 38 = .ok (.ldc 101, 2) := by decide +kernel
theorem dX4_addAccount_40 : decode cX4_addAccount 40 = .ok (.invokespecial 43, 3) := by decide +kernel
theorem dX4_addAccount_43 : decode cX4_addAccount 43 = .ok (.athrow, 1) := by decide +kernel
theorem dX4_addAccount_44 : decode cX4_addAccount 44 = .ok (.aload_n 0, 1) := by decide +kernel
theorem dX4_addAccount_45 : decode cX4_addAccount 45 = .ok (.getfield 16, 3) := by decide +kernel
theorem dX4_addAccount_48 : decode cX4_addAccount 48 = .ok (.invokevirtual 52, 3) := by decide +kernel
theorem dX4_addAccount_51 : decode cX4_addAccount 51 = .ok (.istore 4, 2) := by decide +kernel
theorem dX4_addAccount_53 : decode cX4_addAccount 53 = .ok (.iload 4, 2) := by decide +kernel
theorem dX4_addAccount_55 : decode cX4_addAccount 55 = .ok (.iconst 4, 1) := by decide +kernel
theorem dX4_addAccount_56 : decode cX4_addAccount 56 = .ok (.if_icmp .lt 13, 3) := by decide +kernel
theorem dX4_addAccount_59 : decode cX4_addAccount 59 = .ok (.new 56, 3) := by decide +kernel
theorem dX4_addAccount_62 : decode cX4_addAccount 62 = .ok (.dup, 1) := by decide +kernel
theorem dX4_addAccount_63 : decode cX4_addAccount 63 = .ok (.ldc 103, 2) := by decide +kernel
theorem dX4_addAccount_65 : decode cX4_addAccount 65 = .ok (.invokespecial 60, 3) := by decide +kernel
theorem dX4_addAccount_68 : decode cX4_addAccount 68 = .ok (.athrow, 1) := by decide +kernel
theorem dX4_addAccount_69 : decode cX4_addAccount 69 = .ok (.aload_n 0, 1) := by decide +kernel
theorem dX4_addAccount_70 : decode cX4_addAccount 70 = .ok (.getfield 16, 3) := by decide +kernel
theorem dX4_addAccount_73 : decode cX4_addAccount 73 = .ok (.new 105, 3) := by decide +kernel
theorem dX4_addAccount_76 : decode cX4_addAccount 76 = .ok (.dup, 1) := by decide +kernel
theorem dX4_addAccount_77 : decode cX4_addAccount 77 = .ok (.iload_n 1, 1) := by decide +kernel
theorem dX4_addAccount_78 : decode cX4_addAccount 78 = .ok (.iload_n 2, 1) := by decide +kernel
theorem dX4_addAccount_79 : decode cX4_addAccount 79 = .ok (.iload_n 3, 1) := by decide +kernel
theorem dX4_addAccount_80 : decode cX4_addAccount 80 = .ok (.invokespecial 107, 3) := by decide +kernel
theorem dX4_addAccount_83 : decode cX4_addAccount 83 = .ok (.invokevirtual 66, 3) := by decide +kernel
theorem dX4_addAccount_86 : decode cX4_addAccount 86 = .ok (.pop, 1) := by decide +kernel
theorem dX4_addAccount_87 : decode cX4_addAccount 87 = .ok (.iload 4, 2) := by decide +kernel
theorem dX4_addAccount_89 : decode cX4_addAccount 89 = .ok (.ireturn, 1) := by decide +kernel
theorem dX4_addLine_0 : decode cX4_addLine 0 = .ok (.aload_n 0, 1) := by decide +kernel
theorem dX4_addLine_1 : decode cX4_addLine 1 = .ok (.iload_n 1, 1) := by decide +kernel
theorem dX4_addLine_2 : decode cX4_addLine 2 = .ok (.invokevirtual 110, 3) := by decide +kernel
theorem dX4_addLine_5 : decode cX4_addLine 5 = .ok (.astore_n 3, 1) := by decide +kernel
theorem dX4_addLine_6 : decode cX4_addLine 6 = .ok (.aload_n 0, 1) := by decide +kernel
theorem dX4_addLine_7 : decode cX4_addLine 7 = .ok (.iload_n 2, 1) := by decide +kernel
theorem dX4_addLine_8 : decode cX4_addLine 8 = .ok (.invokevirtual 70, 3) := by decide +kernel
theorem dX4_addLine_11 : decode cX4_addLine 11 = .ok (.astore 4, 2) := by decide +kernel
theorem dX4_addLine_13 : decode cX4_addLine 13 = .ok (.aload_n 0, 1) := by decide +kernel
theorem dX4_addLine_14 : decode cX4_addLine 14 = .ok (.getfield 19, 3) := by decide +kernel
theorem dX4_addLine_17 : decode cX4_addLine 17 = .ok (.invokevirtual 52, 3) := by decide +kernel
theorem dX4_addLine_20 : decode cX4_addLine 20 = .ok (.istore 5, 2) := by decide +kernel
theorem dX4_addLine_22 : decode cX4_addLine 22 = .ok (.iload 5, 2) := by decide +kernel
theorem dX4_addLine_24 : decode cX4_addLine 24 = .ok (.bipush 8, 2) := by decide +kernel
theorem dX4_addLine_26 : decode cX4_addLine 26 = .ok (.if_icmp .lt 13, 3) := by decide +kernel
theorem dX4_addLine_29 : decode cX4_addLine 29 = .ok (.new 56, 3) := by decide +kernel
theorem dX4_addLine_32 : decode cX4_addLine 32 = .ok (.dup, 1) := by decide +kernel
theorem dX4_addLine_33 : decode cX4_addLine 33 = .ok (.ldc 114, 2) := by decide +kernel
theorem dX4_addLine_35 : decode cX4_addLine 35 = .ok (.invokespecial 60, 3) := by decide +kernel
theorem dX4_addLine_38 : decode cX4_addLine 38 = .ok (.athrow, 1) := by decide +kernel
theorem dX4_addLine_39 : decode cX4_addLine 39 = .ok (.aload_n 0, 1) := by decide +kernel
theorem dX4_addLine_40 : decode cX4_addLine 40 = .ok (.getfield 19, 3) := by decide +kernel
theorem dX4_addLine_43 : decode cX4_addLine 43 = .ok (.new 116, 3) := by decide +kernel
theorem dX4_addLine_46 : decode cX4_addLine 46 = .ok (.dup, 1) := by decide +kernel
theorem dX4_addLine_47 : decode cX4_addLine 47 = .ok (.aload_n 3, 1) := by decide +kernel
theorem dX4_addLine_48 : decode cX4_addLine 48 = .ok (.aload 4, 2) := by decide +kernel
theorem dX4_addLine_50 : decode cX4_addLine 50 = .ok (.invokespecial 118, 3) := by decide +kernel
theorem dX4_addLine_53 : decode cX4_addLine 53 = .ok (.invokevirtual 66, 3) := by decide +kernel
theorem dX4_addLine_56 : decode cX4_addLine 56 = .ok (.pop, 1) := by decide +kernel
theorem dX4_addLine_57 : decode cX4_addLine 57 = .ok (.iload 5, 2) := by decide +kernel
theorem dX4_addLine_59 : decode cX4_addLine 59 = .ok (.ireturn, 1) := by decide +kernel
theorem dX4_addCall_0 : decode cX4_addCall 0 = .ok (.aload_n 0, 1) := by decide +kernel
theorem dX4_addCall_1 : decode cX4_addCall 1 = .ok (.iload_n 1, 1) := by decide +kernel
theorem dX4_addCall_2 : decode cX4_addCall 2 = .ok (.invokevirtual 121, 3) := by decide +kernel
theorem dX4_addCall_5 : decode cX4_addCall 5 = .ok (.astore 5, 2) := by decide +kernel
theorem dX4_addCall_7 : decode cX4_addCall 7 = .ok (.iload_n 2, 1) := by decide +kernel
theorem dX4_addCall_8 : decode cX4_addCall 8 = .ok (.iconst 0, 1) := by decide +kernel
theorem dX4_addCall_9 : decode cX4_addCall 9 = .ok (.ldc 139, 2) := by decide +kernel
theorem dX4_addCall_11 : decode cX4_addCall 11 = .ok (.invokestatic 46, 3) := by decide +kernel
theorem dX4_addCall_14 : decode cX4_addCall 14 = .ok (.ifCond .ne 13, 3) := by decide +kernel
theorem dX4_addCall_17 : decode cX4_addCall 17 = .ok (.new 39, 3) := by decide +kernel
theorem dX4_addCall_20 : decode cX4_addCall 20 = .ok (.dup, 1) := by decide +kernel
theorem dX4_addCall_21 : decode cX4_addCall 21 = .ok (.ldc 140, 2) := by decide +kernel
theorem dX4_addCall_23 : decode cX4_addCall 23 = .ok (.invokespecial 43, 3) := by decide +kernel
theorem dX4_addCall_26 : decode cX4_addCall 26 = .ok (.athrow, 1) := by decide +kernel
theorem dX4_addCall_27 : decode cX4_addCall 27 = .ok (.iload_n 3, 1) := by decide +kernel
theorem dX4_addCall_28 : decode cX4_addCall 28 = .ok (.iconst 1, 1) := by decide +kernel
theorem dX4_addCall_29 : decode cX4_addCall 29 = .ok (.sipush 7200, 3) := by decide +kernel
theorem dX4_addCall_32 : decode cX4_addCall 32 = .ok (.invokestatic 46, 3) := by decide +kernel
theorem dX4_addCall_35 : decode cX4_addCall 35 = .ok (.ifCond .ne 13, 3) := by decide +kernel
theorem dX4_addCall_38 : decode cX4_addCall 38 = .ok (.new 39, 3) := by decide +kernel
theorem dX4_addCall_41 : decode cX4_addCall 41 = .ok (.dup, 1) := by decide +kernel
theorem dX4_addCall_42 : decode cX4_addCall 42 = .ok (.ldc 142, 2) := by decide +kernel
theorem dX4_addCall_44 : decode cX4_addCall 44 = .ok (.invokespecial 43, 3) := by decide +kernel
theorem dX4_addCall_47 : decode cX4_addCall 47 = .ok (.athrow, 1) := by decide +kernel
theorem dX4_addCall_48 : decode cX4_addCall 48 = .ok (.iload 4, 2) := by decide +kernel
theorem dX4_addCall_50 : decode cX4_addCall 50 = .ok (.iconst 0, 1) := by decide +kernel
theorem dX4_addCall_51 : decode cX4_addCall 51 = .ok (.iconst 2, 1) := by decide +kernel
theorem dX4_addCall_52 : decode cX4_addCall 52 = .ok (.invokestatic 46, 3) := by decide +kernel
theorem dX4_addCall_55 : decode cX4_addCall 55 = .ok (.ifCond .ne 13, 3) := by decide +kernel
theorem dX4_addCall_58 : decode cX4_addCall 58 = .ok (.new 39, 3) := by decide +kernel
theorem dX4_addCall_61 : decode cX4_addCall 61 = .ok (.dup, 1) := by decide +kernel
theorem dX4_addCall_62 : decode cX4_addCall 62 = .ok (.ldc 144, 2) := by decide +kernel
theorem dX4_addCall_64 : decode cX4_addCall 64 = .ok (.invokespecial 43, 3) := by decide +kernel
theorem dX4_addCall_67 : decode cX4_addCall 67 = .ok (.athrow, 1) := by decide +kernel
theorem dX4_addCall_68 : decode cX4_addCall 68 = .ok (.aload_n 0, 1) := by decide +kernel
theorem dX4_addCall_69 : decode cX4_addCall 69 = .ok (.getfield 22, 3) := by decide +kernel
theorem dX4_addCall_72 : decode cX4_addCall 72 = .ok (.invokevirtual 52, 3) := by decide +kernel
theorem dX4_addCall_75 : decode cX4_addCall 75 = .ok (.istore 6, 2) := by decide +kernel
theorem dX4_addCall_77 : decode cX4_addCall 77 = .ok (.iload 6, 2) := by decide +kernel
theorem dX4_addCall_79 : decode cX4_addCall 79 = .ok (.bipush 60, 2) := by decide +kernel
theorem dX4_addCall_81 : decode cX4_addCall 81 = .ok (.if_icmp .lt 13, 3) := by decide +kernel
theorem dX4_addCall_84 : decode cX4_addCall 84 = .ok (.new 56, 3) := by decide +kernel
theorem dX4_addCall_87 : decode cX4_addCall 87 = .ok (.dup, 1) := by decide +kernel
theorem dX4_addCall_88 : decode cX4_addCall 88 = .ok (.ldc 146, 2) := by decide +kernel
theorem dX4_addCall_90 : decode cX4_addCall 90 = .ok (.invokespecial 60, 3) := by decide +kernel
theorem dX4_addCall_93 : decode cX4_addCall 93 = .ok (.athrow, 1) := by decide +kernel
theorem dX4_addCall_94 : decode cX4_addCall 94 = .ok (.new 148, 3) := by decide +kernel
theorem dX4_addCall_97 : decode cX4_addCall 97 = .ok (.dup, 1) := by decide +kernel
theorem dX4_addCall_98 : decode cX4_addCall 98 = .ok (.iload 6, 2) := by decide +kernel
theorem dX4_addCall_100 : decode cX4_addCall 100 = .ok (.aload 5, 2) := by decide +kernel
theorem dX4_addCall_102 : decode cX4_addCall 102 = .ok (.iload_n 2, 1) := by decide +kernel
theorem dX4_addCall_103 : decode cX4_addCall 103 = .ok (.iload_n 3, 1) := by decide +kernel
theorem dX4_addCall_104 : decode cX4_addCall 104 = .ok (.iload 4, 2) := by decide +kernel
theorem dX4_addCall_106 : decode cX4_addCall 106 = .ok (.invokespecial 150, 3) := by decide +kernel
theorem dX4_addCall_109 : decode cX4_addCall 109 = .ok (.astore 7, 2) := by decide +kernel
theorem dX4_addCall_111 : decode cX4_addCall 111 = .ok (.aload_n 0, 1) := by decide +kernel
theorem dX4_addCall_112 : decode cX4_addCall 112 = .ok (.getfield 22, 3) := by decide +kernel
theorem dX4_addCall_115 : decode cX4_addCall 115 = .ok (.aload 7, 2) := by decide +kernel
theorem dX4_addCall_117 : decode cX4_addCall 117 = .ok (.invokevirtual 66, 3) := by decide +kernel
theorem dX4_addCall_120 : decode cX4_addCall 120 = .ok (.pop, 1) := by decide +kernel
theorem dX4_addCall_121 : decode cX4_addCall 121 = .ok (.aload_n 0, 1) := by decide +kernel
theorem dX4_addCall_122 : decode cX4_addCall 122 = .ok (.aload 7, 2) := by decide +kernel
theorem dX4_addCall_124 : decode cX4_addCall 124 = .ok (.invokevirtual 153, 3) := by decide +kernel
theorem dX4_addCall_127 : decode cX4_addCall 127 = .ok (.aload_n 0, 1) := by decide +kernel
theorem dX4_addCall_128 : decode cX4_addCall 128 = .ok (.invokevirtual 87, 3) := by decide +kernel
theorem dX4_addCall_131 : decode cX4_addCall 131 = .ok (.iload 6, 2) := by decide +kernel
theorem dX4_addCall_133 : decode cX4_addCall 133 = .ok (.ireturn, 1) := by decide +kernel
theorem dX4_callCount_0 : decode cX4_callCount 0 = .ok (.aload_n 0, 1) := by decide +kernel
theorem dX4_callCount_1 : decode cX4_callCount 1 = .ok (.getfield 22, 3) := by decide +kernel
theorem dX4_callCount_4 : decode cX4_callCount 4 = .ok (.invokevirtual 52, 3) := by decide +kernel
theorem dX4_callCount_7 : decode cX4_callCount 7 = .ok (.ireturn, 1) := by decide +kernel
theorem dX4_callAt_0 : decode cX4_callAt 0 = .ok (.iload_n 1, 1) := by decide +kernel
theorem dX4_callAt_1 : decode cX4_callAt 1 = .ok (.ifCond .lt 14, 3) := by decide +kernel
theorem dX4_callAt_4 : decode cX4_callAt 4 = .ok (.iload_n 1, 1) := by decide +kernel
theorem dX4_callAt_5 : decode cX4_callAt 5 = .ok (.aload_n 0, 1) := by decide +kernel
theorem dX4_callAt_6 : decode cX4_callAt 6 = .ok (.getfield 25, 3) := by decide +kernel
theorem dX4_callAt_9 : decode cX4_callAt 9 = .ok (.invokevirtual 52, 3) := by decide +kernel
theorem dX4_callAt_12 : decode cX4_callAt 12 = .ok (.if_icmp .lt 13, 3) := by decide +kernel
theorem dX4_callAt_15 : decode cX4_callAt 15 = .ok (.new 166, 3) := by decide +kernel
theorem dX4_callAt_18 : decode cX4_callAt 18 = .ok (.dup, 1) := by decide +kernel
theorem dX4_callAt_19 : decode cX4_callAt 19 = .ok (.ldc 168, 2) := by decide +kernel
theorem dX4_callAt_21 : decode cX4_callAt 21 = .ok (.invokespecial 170, 3) := by decide +kernel
theorem dX4_callAt_24 : decode cX4_callAt 24 = .ok (.athrow, 1) := by decide +kernel
theorem dX4_callAt_25 : decode cX4_callAt 25 = .ok (.aload_n 0, 1) := by decide +kernel
theorem dX4_callAt_26 : decode cX4_callAt 26 = .ok (.getfield 25, 3) := by decide +kernel
theorem dX4_callAt_29 : decode cX4_callAt 29 = .ok (.iload_n 1, 1) := by decide +kernel
theorem dX4_callAt_30 : decode cX4_callAt 30 = .ok (.invokevirtual 171, 3) := by decide +kernel
theorem dX4_callAt_33 : decode cX4_callAt 33 = .ok (.checkcast 148, 3) := by decide +kernel
theorem dX4_callAt_36 : decode cX4_callAt 36 = .ok (.getfield 175, 3) := by decide +kernel
theorem dX4_callAt_39 : decode cX4_callAt 39 = .ok (.ireturn, 1) := by decide +kernel
theorem dX4_told_0 : decode cX4_told 0 = .ok (.aload_n 0, 1) := by decide +kernel
theorem dX4_told_1 : decode cX4_told 1 = .ok (.iload_n 1, 1) := by decide +kernel
theorem dX4_told_2 : decode cX4_told 2 = .ok (.invokevirtual 157, 3) := by decide +kernel
theorem dX4_told_5 : decode cX4_told 5 = .ok (.astore_n 3, 1) := by decide +kernel
theorem dX4_told_6 : decode cX4_told 6 = .ok (.iload_n 2, 1) := by decide +kernel
theorem dX4_told_7 : decode cX4_told 7 = .ok (.iconst 0, 1) := by decide +kernel
theorem dX4_told_8 : decode cX4_told 8 = .ok (.iconst 4, 1) := by decide +kernel
theorem dX4_told_9 : decode cX4_told 9 = .ok (.invokestatic 46, 3) := by decide +kernel
theorem dX4_told_12 : decode cX4_told 12 = .ok (.ifCond .ne 13, 3) := by decide +kernel
theorem dX4_told_15 : decode cX4_told 15 = .ok (.new 166, 3) := by decide +kernel
theorem dX4_told_18 : decode cX4_told 18 = .ok (.dup, 1) := by decide +kernel
theorem dX4_told_19 : decode cX4_told 19 = .ok (.ldc 180, 2) := by decide +kernel
theorem dX4_told_21 : decode cX4_told 21 = .ok (.invokespecial 170, 3) := by decide +kernel
theorem dX4_told_24 : decode cX4_told 24 = .ok (.athrow, 1) := by decide +kernel
theorem dX4_told_25 : decode cX4_told 25 = .ok (.aload_n 3, 1) := by decide +kernel
theorem dX4_told_26 : decode cX4_told 26 = .ok (.iload_n 2, 1) := by decide +kernel
theorem dX4_told_27 : decode cX4_told 27 = .ok (.invokevirtual 182, 3) := by decide +kernel
theorem dX4_told_30 : decode cX4_told 30 = .ok (.ireturn, 1) := by decide +kernel
theorem dX4_dearest_0 : decode cX4_dearest 0 = .ok (.iconst (-1), 1) := by decide +kernel
theorem dX4_dearest_1 : decode cX4_dearest 1 = .ok (.istore_n 1, 1) := by decide +kernel
theorem dX4_dearest_2 : decode cX4_dearest 2 = .ok (.iconst (-1), 1) := by decide +kernel
theorem dX4_dearest_3 : decode cX4_dearest 3 = .ok (.istore_n 2, 1) := by decide +kernel
theorem dX4_dearest_4 : decode cX4_dearest 4 = .ok (.iconst 0, 1) := by decide +kernel
theorem dX4_dearest_5 : decode cX4_dearest 5 = .ok (.istore_n 3, 1) := by decide +kernel
theorem dX4_dearest_6 : decode cX4_dearest 6 = .ok (.iload_n 3, 1) := by decide +kernel
theorem dX4_dearest_7 : decode cX4_dearest 7 = .ok (.aload_n 0, 1) := by decide +kernel
theorem dX4_dearest_8 : decode cX4_dearest 8 = .ok (.getfield 25, 3) := by decide +kernel
theorem dX4_dearest_11 : decode cX4_dearest 11 = .ok (.invokevirtual 52, 3) := by decide +kernel
theorem dX4_dearest_14 : decode cX4_dearest 14 = .ok (.if_icmp .ge 43, 3) := by decide +kernel
theorem dX4_dearest_17 : decode cX4_dearest 17 = .ok (.aload_n 0, 1) := by decide +kernel
theorem dX4_dearest_18 : decode cX4_dearest 18 = .ok (.getfield 25, 3) := by decide +kernel
theorem dX4_dearest_21 : decode cX4_dearest 21 = .ok (.iload_n 3, 1) := by decide +kernel
theorem dX4_dearest_22 : decode cX4_dearest 22 = .ok (.invokevirtual 171, 3) := by decide +kernel
theorem dX4_dearest_25 : decode cX4_dearest 25 = .ok (.checkcast 148, 3) := by decide +kernel
theorem dX4_dearest_28 : decode cX4_dearest 28 = .ok (.astore 4, 2) := by decide +kernel
theorem dX4_dearest_30 : decode cX4_dearest 30 = .ok (.aload 4, 2) := by decide +kernel
theorem dX4_dearest_32 : decode cX4_dearest 32 = .ok (.getfield 186, 3) := by decide +kernel
theorem dX4_dearest_35 : decode cX4_dearest 35 = .ok (.iload_n 2, 1) := by decide +kernel
theorem dX4_dearest_36 : decode cX4_dearest 36 = .ok (.if_icmp .le 15, 3) := by decide +kernel
theorem dX4_dearest_39 : decode cX4_dearest 39 = .ok (.aload 4, 2) := by decide +kernel
theorem dX4_dearest_41 : decode cX4_dearest 41 = .ok (.getfield 186, 3) := by decide +kernel
theorem dX4_dearest_44 : decode cX4_dearest 44 = .ok (.istore_n 2, 1) := by decide +kernel
theorem dX4_dearest_45 : decode cX4_dearest 45 = .ok (.aload 4, 2) := by decide +kernel
theorem dX4_dearest_47 : decode cX4_dearest 47 = .ok (.getfield 175, 3) := by decide +kernel
theorem dX4_dearest_50 : decode cX4_dearest 50 = .ok (.istore_n 1, 1) := by decide +kernel
theorem dX4_dearest_51 : decode cX4_dearest 51 = .ok (.iinc 3 1, 3) := by decide +kernel
theorem dX4_dearest_54 : decode cX4_dearest 54 = .ok (.goto (-48), 3) := by decide +kernel
theorem dX4_dearest_57 : decode cX4_dearest 57 = .ok (.iload_n 1, 1) := by decide +kernel
theorem dX4_dearest_58 : decode cX4_dearest 58 = .ok (.ireturn, 1) := by decide +kernel
theorem dX4_lineSum_0 : decode cX4_lineSum 0 = .ok (.aload_n 0, 1) := by decide +kernel
theorem dX4_lineSum_1 : decode cX4_lineSum 1 = .ok (.iload_n 1, 1) := by decide +kernel
theorem dX4_lineSum_2 : decode cX4_lineSum 2 = .ok (.invokevirtual 121, 3) := by decide +kernel
theorem dX4_lineSum_5 : decode cX4_lineSum 5 = .ok (.getfield 189, 3) := by decide +kernel
theorem dX4_lineSum_8 : decode cX4_lineSum 8 = .ok (.ireturn, 1) := by decide +kernel
theorem dX4_daySum_0 : decode cX4_daySum 0 = .ok (.iload_n 1, 1) := by decide +kernel
theorem dX4_daySum_1 : decode cX4_daySum 1 = .ok (.ifCond .lt 9, 3) := by decide +kernel
theorem dX4_daySum_4 : decode cX4_daySum 4 = .ok (.iload_n 1, 1) := by decide +kernel
theorem dX4_daySum_5 : decode cX4_daySum 5 = .ok (.bipush 30, 2) := by decide +kernel
theorem dX4_daySum_7 : decode cX4_daySum 7 = .ok (.if_icmp .lt 13, 3) := by decide +kernel
theorem dX4_daySum_10 : decode cX4_daySum 10 = .ok (.new 166, 3) := by decide +kernel
theorem dX4_daySum_13 : decode cX4_daySum 13 = .ok (.dup, 1) := by decide +kernel
theorem dX4_daySum_14 : decode cX4_daySum 14 = .ok (.ldc 192, 2) := by decide +kernel
theorem dX4_daySum_16 : decode cX4_daySum 16 = .ok (.invokespecial 170, 3) := by decide +kernel
theorem dX4_daySum_19 : decode cX4_daySum 19 = .ok (.athrow, 1) := by decide +kernel
theorem dX4_daySum_20 : decode cX4_daySum 20 = .ok (.iconst 0, 1) := by decide +kernel
theorem dX4_daySum_21 : decode cX4_daySum 21 = .ok (.istore_n 2, 1) := by decide +kernel
theorem dX4_daySum_22 : decode cX4_daySum 22 = .ok (.iconst 0, 1) := by decide +kernel
theorem dX4_daySum_23 : decode cX4_daySum 23 = .ok (.istore_n 3, 1) := by decide +kernel
theorem dX4_daySum_24 : decode cX4_daySum 24 = .ok (.iload_n 3, 1) := by decide +kernel
theorem dX4_daySum_25 : decode cX4_daySum 25 = .ok (.aload_n 0, 1) := by decide +kernel
theorem dX4_daySum_26 : decode cX4_daySum 26 = .ok (.getfield 22, 3) := by decide +kernel
theorem dX4_daySum_29 : decode cX4_daySum 29 = .ok (.invokevirtual 52, 3) := by decide +kernel
theorem dX4_daySum_32 : decode cX4_daySum 32 = .ok (.if_icmp .ge 39, 3) := by decide +kernel
theorem dX4_daySum_35 : decode cX4_daySum 35 = .ok (.aload_n 0, 1) := by decide +kernel
theorem dX4_daySum_36 : decode cX4_daySum 36 = .ok (.getfield 22, 3) := by decide +kernel
theorem dX4_daySum_39 : decode cX4_daySum 39 = .ok (.iload_n 3, 1) := by decide +kernel
theorem dX4_daySum_40 : decode cX4_daySum 40 = .ok (.invokevirtual 171, 3) := by decide +kernel
theorem dX4_daySum_43 : decode cX4_daySum 43 = .ok (.checkcast 148, 3) := by decide +kernel
theorem dX4_daySum_46 : decode cX4_daySum 46 = .ok (.astore 4, 2) := by decide +kernel
theorem dX4_daySum_48 : decode cX4_daySum 48 = .ok (.aload 4, 2) := by decide +kernel
theorem dX4_daySum_50 : decode cX4_daySum 50 = .ok (.invokevirtual 194, 3) := by decide +kernel
theorem dX4_daySum_53 : decode cX4_daySum 53 = .ok (.iload_n 1, 1) := by decide +kernel
theorem dX4_daySum_54 : decode cX4_daySum 54 = .ok (.if_icmp .ne 11, 3) := by decide +kernel
theorem dX4_daySum_57 : decode cX4_daySum 57 = .ok (.iload_n 2, 1) := by decide +kernel
theorem dX4_daySum_58 : decode cX4_daySum 58 = .ok (.aload 4, 2) := by decide +kernel
theorem dX4_daySum_60 : decode cX4_daySum 60 = .ok (.getfield 186, 3) := by decide +kernel
theorem dX4_daySum_63 : decode cX4_daySum 63 = .ok (.iadd, 1) := by decide +kernel
theorem dX4_daySum_64 : decode cX4_daySum 64 = .ok (.istore_n 2, 1) := by decide +kernel
theorem dX4_daySum_65 : decode cX4_daySum 65 = .ok (.iinc 3 1, 3) := by decide +kernel
theorem dX4_daySum_68 : decode cX4_daySum 68 = .ok (.goto (-44), 3) := by decide +kernel
theorem dX4_daySum_71 : decode cX4_daySum 71 = .ok (.iload_n 2, 1) := by decide +kernel
theorem dX4_daySum_72 : decode cX4_daySum 72 = .ok (.ireturn, 1) := by decide +kernel
theorem dX4_sum_0 : decode cX4_sum 0 = .ok (.aload_n 0, 1) := by decide +kernel
theorem dX4_sum_1 : decode cX4_sum 1 = .ok (.iload_n 1, 1) := by decide +kernel
theorem dX4_sum_2 : decode cX4_sum 2 = .ok (.invokevirtual 110, 3) := by decide +kernel
theorem dX4_sum_5 : decode cX4_sum 5 = .ok (.getfield 197, 3) := by decide +kernel
theorem dX4_sum_8 : decode cX4_sum 8 = .ok (.ireturn, 1) := by decide +kernel
theorem dX4_total_0 : decode cX4_total 0 = .ok (.aload_n 0, 1) := by decide +kernel
theorem dX4_total_1 : decode cX4_total 1 = .ok (.iload_n 1, 1) := by decide +kernel
theorem dX4_total_2 : decode cX4_total 2 = .ok (.invokevirtual 110, 3) := by decide +kernel
theorem dX4_total_5 : decode cX4_total 5 = .ok (.invokevirtual 198, 3) := by decide +kernel
theorem dX4_total_8 : decode cX4_total 8 = .ok (.ireturn, 1) := by decide +kernel
theorem dX4_freeShare_0 : decode cX4_freeShare 0 = .ok (.iconst 0, 1) := by decide +kernel
theorem dX4_freeShare_1 : decode cX4_freeShare 1 = .ok (.istore_n 1, 1) := by decide +kernel
theorem dX4_freeShare_2 : decode cX4_freeShare 2 = .ok (.iconst 0, 1) := by decide +kernel
theorem dX4_freeShare_3 : decode cX4_freeShare 3 = .ok (.istore_n 2, 1) := by decide +kernel
theorem dX4_freeShare_4 : decode cX4_freeShare 4 = .ok (.iconst 0, 1) := by decide +kernel
theorem dX4_freeShare_5 : decode cX4_freeShare 5 = .ok (.istore_n 3, 1) := by decide +kernel
theorem dX4_freeShare_6 : decode cX4_freeShare 6 = .ok (.iload_n 3, 1) := by decide +kernel
theorem dX4_freeShare_7 : decode cX4_freeShare 7 = .ok (.aload_n 0, 1) := by decide +kernel
theorem dX4_freeShare_8 : decode cX4_freeShare 8 = .ok (.getfield 22, 3) := by decide +kernel
theorem dX4_freeShare_11 : decode cX4_freeShare 11 = .ok (.invokevirtual 52, 3) := by decide +kernel
theorem dX4_freeShare_14 : decode cX4_freeShare 14 = .ok (.if_icmp .ge 38, 3) := by decide +kernel
theorem dX4_freeShare_17 : decode cX4_freeShare 17 = .ok (.aload_n 0, 1) := by decide +kernel
theorem dX4_freeShare_18 : decode cX4_freeShare 18 = .ok (.getfield 22, 3) := by decide +kernel
theorem dX4_freeShare_21 : decode cX4_freeShare 21 = .ok (.iload_n 3, 1) := by decide +kernel
theorem dX4_freeShare_22 : decode cX4_freeShare 22 = .ok (.invokevirtual 171, 3) := by decide +kernel
theorem dX4_freeShare_25 : decode cX4_freeShare 25 = .ok (.checkcast 148, 3) := by decide +kernel
theorem dX4_freeShare_28 : decode cX4_freeShare 28 = .ok (.astore 4, 2) := by decide +kernel
theorem dX4_freeShare_30 : decode cX4_freeShare 30 = .ok (.iload_n 1, 1) := by decide +kernel
theorem dX4_freeShare_31 : decode cX4_freeShare 31 = .ok (.aload 4, 2) := by decide +kernel
theorem dX4_freeShare_33 : decode cX4_freeShare 33 = .ok (.getfield 214, 3) := by decide +kernel
theorem dX4_freeShare_36 : decode cX4_freeShare 36 = .ok (.iadd, 1) := by decide +kernel
theorem dX4_freeShare_37 : decode cX4_freeShare 37 = .ok (.istore_n 1, 1) := by decide +kernel
theorem dX4_freeShare_38 : decode cX4_freeShare 38 = .ok (.iload_n 2, 1) := by decide +kernel
theorem dX4_freeShare_39 : decode cX4_freeShare 39 = .ok (.aload 4, 2) := by decide +kernel
theorem dX4_freeShare_41 : decode cX4_freeShare 41 = .ok (.getfield 217, 3) := by decide +kernel
theorem dX4_freeShare_44 : decode cX4_freeShare 44 = .ok (.iadd, 1) := by decide +kernel
theorem dX4_freeShare_45 : decode cX4_freeShare 45 = .ok (.istore_n 2, 1) := by decide +kernel
theorem dX4_freeShare_46 : decode cX4_freeShare 46 = .ok (.iinc 3 1, 3) := by decide +kernel
theorem dX4_freeShare_49 : decode cX4_freeShare 49 = .ok (.goto (-43), 3) := by decide +kernel
theorem dX4_freeShare_52 : decode cX4_freeShare 52 = .ok (.iload_n 2, 1) := by decide +kernel
theorem dX4_freeShare_53 : decode cX4_freeShare 53 = .ok (.ifCond .ne 5, 3) := by decide +kernel
theorem dX4_freeShare_56 : decode cX4_freeShare 56 = .ok (.dconst 0, 1) := by decide +kernel
theorem dX4_freeShare_57 : decode cX4_freeShare 57 = .ok (.dreturn, 1) := by decide +kernel
theorem dX4_freeShare_58 : decode cX4_freeShare 58 = .ok (.iload_n 1, 1) := by decide +kernel
theorem dX4_freeShare_59 : decode cX4_freeShare 59 = .ok (.i2d, 1) := by decide +kernel
theorem dX4_freeShare_60 : decode cX4_freeShare 60 = .ok (.iload_n 2, 1) := by decide +kernel
theorem dX4_freeShare_61 : decode cX4_freeShare 61 = .ok (.i2d, 1) := by decide +kernel
theorem dX4_freeShare_62 : decode cX4_freeShare 62 = .ok (.ddiv, 1) := by decide +kernel
theorem dX4_freeShare_63 : decode cX4_freeShare 63 = .ok (.dreturn, 1) := by decide +kernel
theorem dX4_putInOrder_0 : decode cX4_putInOrder 0 = .ok (.iconst 0, 1) := by decide +kernel
theorem dX4_putInOrder_1 : decode cX4_putInOrder 1 = .ok (.istore_n 2, 1) := by decide +kernel
theorem dX4_putInOrder_2 : decode cX4_putInOrder 2 = .ok (.iload_n 2, 1) := by decide +kernel
theorem dX4_putInOrder_3 : decode cX4_putInOrder 3 = .ok (.aload_n 0, 1) := by decide +kernel
theorem dX4_putInOrder_4 : decode cX4_putInOrder 4 = .ok (.getfield 25, 3) := by decide +kernel
theorem dX4_putInOrder_7 : decode cX4_putInOrder 7 = .ok (.invokevirtual 52, 3) := by decide +kernel
theorem dX4_putInOrder_10 : decode cX4_putInOrder 10 = .ok (.if_icmp .ge 30, 3) := by decide +kernel
theorem dX4_putInOrder_13 : decode cX4_putInOrder 13 = .ok (.aload_n 0, 1) := by decide +kernel
theorem dX4_putInOrder_14 : decode cX4_putInOrder 14 = .ok (.getfield 25, 3) := by decide +kernel
theorem dX4_putInOrder_17 : decode cX4_putInOrder 17 = .ok (.iload_n 2, 1) := by decide +kernel
theorem dX4_putInOrder_18 : decode cX4_putInOrder 18 = .ok (.invokevirtual 171, 3) := by decide +kernel
theorem dX4_putInOrder_21 : decode cX4_putInOrder 21 = .ok (.checkcast 148, 3) := by decide +kernel
theorem dX4_putInOrder_24 : decode cX4_putInOrder 24 = .ok (.getfield 238, 3) := by decide +kernel
theorem dX4_putInOrder_27 : decode cX4_putInOrder 27 = .ok (.aload_n 1, 1) := by decide +kernel
theorem dX4_putInOrder_28 : decode cX4_putInOrder 28 = .ok (.getfield 238, 3) := by decide +kernel
theorem dX4_putInOrder_31 : decode cX4_putInOrder 31 = .ok (.if_icmp .gt 9, 3) := by decide +kernel
theorem dX4_putInOrder_34 : decode cX4_putInOrder 34 = .ok (.iinc 2 1, 3) := by decide +kernel
theorem dX4_putInOrder_37 : decode cX4_putInOrder 37 = .ok (.goto (-35), 3) := by decide +kernel
theorem dX4_putInOrder_40 : decode cX4_putInOrder 40 = .ok (.aload_n 0, 1) := by decide +kernel
theorem dX4_putInOrder_41 : decode cX4_putInOrder 41 = .ok (.getfield 25, 3) := by decide +kernel
theorem dX4_putInOrder_44 : decode cX4_putInOrder 44 = .ok (.iload_n 2, 1) := by decide +kernel
theorem dX4_putInOrder_45 : decode cX4_putInOrder 45 = .ok (.aload_n 1, 1) := by decide +kernel
theorem dX4_putInOrder_46 : decode cX4_putInOrder 46 = .ok (.invokevirtual 241, 3) := by decide +kernel
theorem dX4_putInOrder_49 : decode cX4_putInOrder 49 = .ok (.return_, 1) := by decide +kernel
theorem dX4_rateAll_0 : decode cX4_rateAll 0 = .ok (.iconst 0, 1) := by decide +kernel
theorem dX4_rateAll_1 : decode cX4_rateAll 1 = .ok (.istore_n 1, 1) := by decide +kernel
theorem dX4_rateAll_2 : decode cX4_rateAll 2 = .ok (.iload_n 1, 1) := by decide +kernel
theorem dX4_rateAll_3 : decode cX4_rateAll 3 = .ok (.aload_n 0, 1) := by decide +kernel
theorem dX4_rateAll_4 : decode cX4_rateAll 4 = .ok (.getfield 16, 3) := by decide +kernel
theorem dX4_rateAll_7 : decode cX4_rateAll 7 = .ok (.invokevirtual 52, 3) := by decide +kernel
theorem dX4_rateAll_10 : decode cX4_rateAll 10 = .ok (.if_icmp .ge 23, 3) := by decide +kernel
theorem dX4_rateAll_13 : decode cX4_rateAll 13 = .ok (.aload_n 0, 1) := by decide +kernel
theorem dX4_rateAll_14 : decode cX4_rateAll 14 = .ok (.getfield 16, 3) := by decide +kernel
theorem dX4_rateAll_17 : decode cX4_rateAll 17 = .ok (.iload_n 1, 1) := by decide +kernel
theorem dX4_rateAll_18 : decode cX4_rateAll 18 = .ok (.invokevirtual 171, 3) := by decide +kernel
theorem dX4_rateAll_21 : decode cX4_rateAll 21 = .ok (.checkcast 105, 3) := by decide +kernel
theorem dX4_rateAll_24 : decode cX4_rateAll 24 = .ok (.invokevirtual 244, 3) := by decide +kernel
theorem dX4_rateAll_27 : decode cX4_rateAll 27 = .ok (.iinc 1 1, 3) := by decide +kernel
theorem dX4_rateAll_30 : decode cX4_rateAll 30 = .ok (.goto (-28), 3) := by decide +kernel
theorem dX4_rateAll_33 : decode cX4_rateAll 33 = .ok (.iconst 0, 1) := by decide +kernel
theorem dX4_rateAll_34 : decode cX4_rateAll 34 = .ok (.istore_n 1, 1) := by decide +kernel
theorem dX4_rateAll_35 : decode cX4_rateAll 35 = .ok (.iload_n 1, 1) := by decide +kernel
theorem dX4_rateAll_36 : decode cX4_rateAll 36 = .ok (.aload_n 0, 1) := by decide +kernel
theorem dX4_rateAll_37 : decode cX4_rateAll 37 = .ok (.getfield 19, 3) := by decide +kernel
theorem dX4_rateAll_40 : decode cX4_rateAll 40 = .ok (.invokevirtual 52, 3) := by decide +kernel
theorem dX4_rateAll_43 : decode cX4_rateAll 43 = .ok (.if_icmp .ge 23, 3) := by decide +kernel
theorem dX4_rateAll_46 : decode cX4_rateAll 46 = .ok (.aload_n 0, 1) := by decide +kernel
theorem dX4_rateAll_47 : decode cX4_rateAll 47 = .ok (.getfield 19, 3) := by decide +kernel
theorem dX4_rateAll_50 : decode cX4_rateAll 50 = .ok (.iload_n 1, 1) := by decide +kernel
theorem dX4_rateAll_51 : decode cX4_rateAll 51 = .ok (.invokevirtual 171, 3) := by decide +kernel
theorem dX4_rateAll_54 : decode cX4_rateAll 54 = .ok (.checkcast 116, 3) := by decide +kernel
theorem dX4_rateAll_57 : decode cX4_rateAll 57 = .ok (.invokevirtual 247, 3) := by decide +kernel
theorem dX4_rateAll_60 : decode cX4_rateAll 60 = .ok (.iinc 1 1, 3) := by decide +kernel
theorem dX4_rateAll_63 : decode cX4_rateAll 63 = .ok (.goto (-28), 3) := by decide +kernel
theorem dX4_rateAll_66 : decode cX4_rateAll 66 = .ok (.iconst 0, 1) := by decide +kernel
theorem dX4_rateAll_67 : decode cX4_rateAll 67 = .ok (.istore_n 1, 1) := by decide +kernel
theorem dX4_rateAll_68 : decode cX4_rateAll 68 = .ok (.iload_n 1, 1) := by decide +kernel
theorem dX4_rateAll_69 : decode cX4_rateAll 69 = .ok (.aload_n 0, 1) := by decide +kernel
theorem dX4_rateAll_70 : decode cX4_rateAll 70 = .ok (.getfield 25, 3) := by decide +kernel
theorem dX4_rateAll_73 : decode cX4_rateAll 73 = .ok (.invokevirtual 52, 3) := by decide +kernel
theorem dX4_rateAll_76 : decode cX4_rateAll 76 = .ok (.if_icmp .ge 37, 3) := by decide +kernel
theorem dX4_rateAll_79 : decode cX4_rateAll 79 = .ok (.aload_n 0, 1) := by decide +kernel
theorem dX4_rateAll_80 : decode cX4_rateAll 80 = .ok (.getfield 25, 3) := by decide +kernel
theorem dX4_rateAll_83 : decode cX4_rateAll 83 = .ok (.iload_n 1, 1) := by decide +kernel
theorem dX4_rateAll_84 : decode cX4_rateAll 84 = .ok (.invokevirtual 171, 3) := by decide +kernel
theorem dX4_rateAll_87 : decode cX4_rateAll 87 = .ok (.checkcast 148, 3) := by decide +kernel
theorem dX4_rateAll_90 : decode cX4_rateAll 90 = .ok (.astore_n 2, 1) := by decide +kernel
theorem dX4_rateAll_91 : decode cX4_rateAll 91 = .ok (.aload_n 2, 1) := by decide +kernel
theorem dX4_rateAll_92 : decode cX4_rateAll 92 = .ok (.invokevirtual 248, 3) := by decide +kernel
theorem dX4_rateAll_95 : decode cX4_rateAll 95 = .ok (.aload_n 2, 1) := by decide +kernel
theorem dX4_rateAll_96 : decode cX4_rateAll 96 = .ok (.getfield 163, 3) := by decide +kernel
theorem dX4_rateAll_99 : decode cX4_rateAll 99 = .ok (.ifCond .le 8, 3) := by decide +kernel
theorem dX4_rateAll_102 : decode cX4_rateAll 102 = .ok (.aload_n 0, 1) := by decide +kernel
theorem dX4_rateAll_103 : decode cX4_rateAll 103 = .ok (.aload_n 2, 1) := by decide +kernel
theorem dX4_rateAll_104 : decode cX4_rateAll 104 = .ok (.invokevirtual 249, 3) := by decide +kernel
theorem dX4_rateAll_107 : decode cX4_rateAll 107 = .ok (.iinc 1 1, 3) := by decide +kernel
theorem dX4_rateAll_110 : decode cX4_rateAll 110 = .ok (.goto (-42), 3) := by decide +kernel
theorem dX4_rateAll_113 : decode cX4_rateAll 113 = .ok (.return_, 1) := by decide +kernel
theorem dX4_rate_0 : decode cX4_rate 0 = .ok (.aload_n 1, 1) := by decide +kernel
theorem dX4_rate_1 : decode cX4_rate 1 = .ok (.getfield 252, 3) := by decide +kernel
theorem dX4_rate_4 : decode cX4_rate 4 = .ok (.astore_n 2, 1) := by decide +kernel
theorem dX4_rate_5 : decode cX4_rate 5 = .ok (.aload_n 2, 1) := by decide +kernel
theorem dX4_rate_6 : decode cX4_rate 6 = .ok (.getfield 125, 3) := by decide +kernel
theorem dX4_rate_9 : decode cX4_rate 9 = .ok (.astore_n 3, 1) := by decide +kernel
theorem dX4_rate_10 : decode cX4_rate 10 = .ok (.aload_n 1, 1) := by decide +kernel
theorem dX4_rate_11 : decode cX4_rate 11 = .ok (.aload_n 3, 1) := by decide +kernel
theorem dX4_rate_12 : decode cX4_rate 12 = .ok (.aload_n 1, 1) := by decide +kernel
theorem dX4_rate_13 : decode cX4_rate 13 = .ok (.getfield 163, 3) := by decide +kernel
theorem dX4_rate_16 : decode cX4_rate 16 = .ok (.invokevirtual 256, 3) := by decide +kernel
theorem dX4_rate_19 : decode cX4_rate 19 = .ok (.putfield 217, 3) := by decide +kernel
theorem dX4_rate_22 : decode cX4_rate 22 = .ok (.aload_n 1, 1) := by decide +kernel
theorem dX4_rate_23 : decode cX4_rate 23 = .ok (.getfield 259, 3) := by decide +kernel
theorem dX4_rate_26 : decode cX4_rate 26 = .ok (.ifCond .ne 39, 3) := by decide +kernel
theorem dX4_rate_29 : decode cX4_rate 29 = .ok (.aload_n 1, 1) := by decide +kernel
theorem dX4_rate_30 : decode cX4_rate 30 = .ok (.aload_n 2, 1) := by decide +kernel
theorem dX4_rate_31 : decode cX4_rate 31 = .ok (.getfield 210, 3) := by decide +kernel
theorem dX4_rate_34 : decode cX4_rate 34 = .ok (.aload_n 1, 1) := by decide +kernel
theorem dX4_rate_35 : decode cX4_rate 35 = .ok (.invokevirtual 262, 3) := by decide +kernel
theorem dX4_rate_38 : decode cX4_rate 38 = .ok (.putfield 214, 3) := by decide +kernel
theorem dX4_rate_41 : decode cX4_rate 41 = .ok (.aload_n 0, 1) := by decide +kernel
theorem dX4_rate_42 : decode cX4_rate 42 = .ok (.aload_n 1, 1) := by decide +kernel
theorem dX4_rate_43 : decode cX4_rate 43 = .ok (.invokevirtual 176, 3) := by decide +kernel
theorem dX4_rate_46 : decode cX4_rate 46 = .ok (.ifCond .eq 10, 3) := by decide +kernel
theorem dX4_rate_49 : decode cX4_rate 49 = .ok (.aload_n 3, 1) := by decide +kernel
theorem dX4_rate_50 : decode cX4_rate 50 = .ok (.getfield 266, 3) := by decide +kernel
theorem dX4_rate_53 : decode cX4_rate 53 = .ok (.goto 7, 3) := by decide +kernel
theorem dX4_rate_56 : decode cX4_rate 56 = .ok (.aload_n 3, 1) := by decide +kernel
theorem dX4_rate_57 : decode cX4_rate 57 = .ok (.getfield 269, 3) := by decide +kernel
theorem dX4_rate_60 : decode cX4_rate 60 = .ok (.istore 4, 2) := by decide +kernel
theorem dX4_rate_62 : decode cX4_rate 62 = .ok (.goto 18, 3) := by decide +kernel
theorem dX4_rate_65 : decode cX4_rate 65 = .ok (.aload_n 1, 1) := by decide +kernel
theorem dX4_rate_66 : decode cX4_rate 66 = .ok (.invokestatic 272, 3) := by decide +kernel
theorem dX4_rate_69 : decode cX4_rate 69 = .ok (.aload_n 3, 1) := by decide +kernel
theorem dX4_rate_70 : decode cX4_rate 70 = .ok (.getfield 80, 3) := by decide +kernel
theorem dX4_rate_73 : decode cX4_rate 73 = .ok (.aload_n 1, 1) := by decide +kernel
theorem dX4_rate_74 : decode cX4_rate 74 = .ok (.getfield 259, 3) := by decide +kernel
theorem dX4_rate_77 : decode cX4_rate 77 = .ok (.iaload, 1) := by decide +kernel
theorem dX4_rate_78 : decode cX4_rate 78 = .ok (.istore 4, 2) := by decide +kernel
theorem dX4_rate_80 : decode cX4_rate 80 = .ok (.aload_n 1, 1) := by decide +kernel
theorem dX4_rate_81 : decode cX4_rate 81 = .ok (.aload_n 1, 1) := by decide +kernel
theorem dX4_rate_82 : decode cX4_rate 82 = .ok (.getfield 275, 3) := by decide +kernel
theorem dX4_rate_85 : decode cX4_rate 85 = .ok (.aload_n 3, 1) := by decide +kernel
theorem dX4_rate_86 : decode cX4_rate 86 = .ok (.aload_n 1, 1) := by decide +kernel
theorem dX4_rate_87 : decode cX4_rate 87 = .ok (.getfield 217, 3) := by decide +kernel
theorem dX4_rate_90 : decode cX4_rate 90 = .ok (.aload_n 1, 1) := by decide +kernel
theorem dX4_rate_91 : decode cX4_rate 91 = .ok (.getfield 214, 3) := by decide +kernel
theorem dX4_rate_94 : decode cX4_rate 94 = .ok (.isub, 1) := by decide +kernel
theorem dX4_rate_95 : decode cX4_rate 95 = .ok (.iload 4, 2) := by decide +kernel
theorem dX4_rate_97 : decode cX4_rate 97 = .ok (.invokevirtual 278, 3) := by decide +kernel
theorem dX4_rate_100 : decode cX4_rate 100 = .ok (.iadd, 1) := by decide +kernel
theorem dX4_rate_101 : decode cX4_rate 101 = .ok (.putfield 186, 3) := by decide +kernel
theorem dX4_rate_104 : decode cX4_rate 104 = .ok (.aload_n 2, 1) := by decide +kernel
theorem dX4_rate_105 : decode cX4_rate 105 = .ok (.dup, 1) := by decide +kernel
theorem dX4_rate_106 : decode cX4_rate 106 = .ok (.getfield 189, 3) := by decide +kernel
theorem dX4_rate_109 : decode cX4_rate 109 = .ok (.aload_n 1, 1) := by decide +kernel
theorem dX4_rate_110 : decode cX4_rate 110 = .ok (.getfield 186, 3) := by decide +kernel
theorem dX4_rate_113 : decode cX4_rate 113 = .ok (.iadd, 1) := by decide +kernel
theorem dX4_rate_114 : decode cX4_rate 114 = .ok (.putfield 189, 3) := by decide +kernel
theorem dX4_rate_117 : decode cX4_rate 117 = .ok (.aload_n 2, 1) := by decide +kernel
theorem dX4_rate_118 : decode cX4_rate 118 = .ok (.getfield 210, 3) := by decide +kernel
theorem dX4_rate_121 : decode cX4_rate 121 = .ok (.dup, 1) := by decide +kernel
theorem dX4_rate_122 : decode cX4_rate 122 = .ok (.getfield 197, 3) := by decide +kernel
theorem dX4_rate_125 : decode cX4_rate 125 = .ok (.aload_n 1, 1) := by decide +kernel
theorem dX4_rate_126 : decode cX4_rate 126 = .ok (.getfield 186, 3) := by decide +kernel
theorem dX4_rate_129 : decode cX4_rate 129 = .ok (.iadd, 1) := by decide +kernel
theorem dX4_rate_130 : decode cX4_rate 130 = .ok (.putfield 197, 3) := by decide +kernel
theorem dX4_rate_133 : decode cX4_rate 133 = .ok (.return_, 1) := by decide +kernel
theorem dX4_rateDayFee_0 : decode cX4_rateDayFee 0 = .ok (.aload_n 0, 1) := by decide +kernel
theorem dX4_rateDayFee_1 : decode cX4_rateDayFee 1 = .ok (.getfield 252, 3) := by decide +kernel
theorem dX4_rateDayFee_4 : decode cX4_rateDayFee 4 = .ok (.astore_n 1, 1) := by decide +kernel
theorem dX4_rateDayFee_5 : decode cX4_rateDayFee 5 = .ok (.aload_n 0, 1) := by decide +kernel
theorem dX4_rateDayFee_6 : decode cX4_rateDayFee 6 = .ok (.getfield 259, 3) := by decide +kernel
theorem dX4_rateDayFee_9 : decode cX4_rateDayFee 9 = .ok (.istore_n 2, 1) := by decide +kernel
theorem dX4_rateDayFee_10 : decode cX4_rateDayFee 10 = .ok (.aload_n 1, 1) := by decide +kernel
theorem dX4_rateDayFee_11 : decode cX4_rateDayFee 11 = .ok (.getfield 125, 3) := by decide +kernel
theorem dX4_rateDayFee_14 : decode cX4_rateDayFee 14 = .ok (.getfield 84, 3) := by decide +kernel
theorem dX4_rateDayFee_17 : decode cX4_rateDayFee 17 = .ok (.iload_n 2, 1) := by decide +kernel
theorem dX4_rateDayFee_18 : decode cX4_rateDayFee 18 = .ok (.iaload, 1) := by decide +kernel
theorem dX4_rateDayFee_19 : decode cX4_rateDayFee 19 = .ok (.istore_n 3, 1) := by decide +kernel
theorem dX4_rateDayFee_20 : decode cX4_rateDayFee 20 = .ok (.iload_n 3, 1) := by decide +kernel
theorem dX4_rateDayFee_21 : decode cX4_rateDayFee 21 = .ok (.ifCond .ne 4, 3) := by decide +kernel
theorem dX4_rateDayFee_24 : decode cX4_rateDayFee 24 = .ok (.return_, 1) := by decide +kernel
theorem dX4_rateDayFee_25 : decode cX4_rateDayFee 25 = .ok (.aload_n 1, 1) := by decide +kernel
theorem dX4_rateDayFee_26 : decode cX4_rateDayFee 26 = .ok (.iload_n 2, 1) := by decide +kernel
theorem dX4_rateDayFee_27 : decode cX4_rateDayFee 27 = .ok (.aload_n 0, 1) := by decide +kernel
theorem dX4_rateDayFee_28 : decode cX4_rateDayFee 28 = .ok (.invokevirtual 194, 3) := by decide +kernel
theorem dX4_rateDayFee_31 : decode cX4_rateDayFee 31 = .ok (.invokevirtual 282, 3) := by decide +kernel
theorem dX4_rateDayFee_34 : decode cX4_rateDayFee 34 = .ok (.ifCond .eq 8, 3) := by decide +kernel
theorem dX4_rateDayFee_37 : decode cX4_rateDayFee 37 = .ok (.aload_n 0, 1) := by decide +kernel
theorem dX4_rateDayFee_38 : decode cX4_rateDayFee 38 = .ok (.iload_n 3, 1) := by decide +kernel
theorem dX4_rateDayFee_39 : decode cX4_rateDayFee 39 = .ok (.putfield 275, 3) := by decide +kernel
theorem dX4_rateDayFee_42 : decode cX4_rateDayFee 42 = .ok (.aload_n 0, 1) := by decide +kernel
theorem dX4_rateDayFee_43 : decode cX4_rateDayFee 43 = .ok (.aload_n 1, 1) := by decide +kernel
theorem dX4_rateDayFee_44 : decode cX4_rateDayFee 44 = .ok (.iload_n 2, 1) := by decide +kernel
theorem dX4_rateDayFee_45 : decode cX4_rateDayFee 45 = .ok (.aload_n 0, 1) := by decide +kernel
theorem dX4_rateDayFee_46 : decode cX4_rateDayFee 46 = .ok (.getfield 217, 3) := by decide +kernel
theorem dX4_rateDayFee_49 : decode cX4_rateDayFee 49 = .ok (.invokevirtual 286, 3) := by decide +kernel
theorem dX4_rateDayFee_52 : decode cX4_rateDayFee 52 = .ok (.putfield 214, 3) := by decide +kernel
theorem dX4_rateDayFee_55 : decode cX4_rateDayFee 55 = .ok (.return_, 1) := by decide +kernel
theorem dX4_beginsInPeak_0 : decode cX4_beginsInPeak 0 = .ok (.aload_n 1, 1) := by decide +kernel
theorem dX4_beginsInPeak_1 : decode cX4_beginsInPeak 1 = .ok (.getfield 238, 3) := by decide +kernel
theorem dX4_beginsInPeak_4 : decode cX4_beginsInPeak 4 = .ok (.sipush 1440, 3) := by decide +kernel
theorem dX4_beginsInPeak_7 : decode cX4_beginsInPeak 7 = .ok (.irem, 1) := by decide +kernel
theorem dX4_beginsInPeak_8 : decode cX4_beginsInPeak 8 = .ok (.istore_n 2, 1) := by decide +kernel
theorem dX4_beginsInPeak_9 : decode cX4_beginsInPeak 9 = .ok (.aload_n 1, 1) := by decide +kernel
theorem dX4_beginsInPeak_10 : decode cX4_beginsInPeak 10 = .ok (.invokevirtual 194, 3) := by decide +kernel
theorem dX4_beginsInPeak_13 : decode cX4_beginsInPeak 13 = .ok (.bipush 7, 2) := by decide +kernel
theorem dX4_beginsInPeak_15 : decode cX4_beginsInPeak 15 = .ok (.irem, 1) := by decide +kernel
theorem dX4_beginsInPeak_16 : decode cX4_beginsInPeak 16 = .ok (.iconst 5, 1) := by decide +kernel
theorem dX4_beginsInPeak_17 : decode cX4_beginsInPeak 17 = .ok (.if_icmp .lt 7, 3) := by decide +kernel
theorem dX4_beginsInPeak_20 : decode cX4_beginsInPeak 20 = .ok (.iconst 1, 1) := by decide +kernel
theorem dX4_beginsInPeak_21 : decode cX4_beginsInPeak 21 = .ok (.goto 4, 3) := by decide +kernel
theorem dX4_beginsInPeak_24 : decode cX4_beginsInPeak 24 = .ok (.iconst 0, 1) := by decide +kernel
theorem dX4_beginsInPeak_25 : decode cX4_beginsInPeak 25 = .ok (.istore_n 3, 1) := by decide +kernel
theorem dX4_beginsInPeak_26 : decode cX4_beginsInPeak 26 = .ok (.iload_n 3, 1) := by decide +kernel
theorem dX4_beginsInPeak_27 : decode cX4_beginsInPeak 27 = .ok (.ifCond .ne 22, 3) := by decide +kernel
theorem dX4_beginsInPeak_30 : decode cX4_beginsInPeak 30 = .ok (.iload_n 2, 1) := by decide +kernel
theorem dX4_beginsInPeak_31 : decode cX4_beginsInPeak 31 = .ok (.aload_n 0, 1) := by decide +kernel
theorem dX4_beginsInPeak_32 : decode cX4_beginsInPeak 32 = .ok (.getfield 28, 3) := by decide +kernel
theorem dX4_beginsInPeak_35 : decode cX4_beginsInPeak 35 = .ok (.aload_n 0, 1) := by decide +kernel
theorem dX4_beginsInPeak_36 : decode cX4_beginsInPeak 36 = .ok (.getfield 32, 3) := by decide +kernel
theorem dX4_beginsInPeak_39 : decode cX4_beginsInPeak 39 = .ok (.invokestatic 46, 3) := by decide +kernel
theorem dX4_beginsInPeak_42 : decode cX4_beginsInPeak 42 = .ok (.ifCond .eq 7, 3) := by decide +kernel
theorem dX4_beginsInPeak_45 : decode cX4_beginsInPeak 45 = .ok (.iconst 1, 1) := by decide +kernel
theorem dX4_beginsInPeak_46 : decode cX4_beginsInPeak 46 = .ok (.goto 4, 3) := by decide +kernel
theorem dX4_beginsInPeak_49 : decode cX4_beginsInPeak 49 = .ok (.iconst 0, 1) := by decide +kernel
theorem dX4_beginsInPeak_50 : decode cX4_beginsInPeak 50 = .ok (.ireturn, 1) := by decide +kernel
theorem dX4_findTariff_0 : decode cX4_findTariff 0 = .ok (.iload_n 1, 1) := by decide +kernel
theorem dX4_findTariff_1 : decode cX4_findTariff 1 = .ok (.ifCond .lt 14, 3) := by decide +kernel
theorem dX4_findTariff_4 : decode cX4_findTariff 4 = .ok (.iload_n 1, 1) := by decide +kernel
theorem dX4_findTariff_5 : decode cX4_findTariff 5 = .ok (.aload_n 0, 1) := by decide +kernel
theorem dX4_findTariff_6 : decode cX4_findTariff 6 = .ok (.getfield 10, 3) := by decide +kernel
theorem dX4_findTariff_9 : decode cX4_findTariff 9 = .ok (.invokevirtual 52, 3) := by decide +kernel
theorem dX4_findTariff_12 : decode cX4_findTariff 12 = .ok (.if_icmp .lt 14, 3) := by decide +kernel
theorem dX4_findTariff_15 : decode cX4_findTariff 15 = .ok (.new 166, 3) := by decide +kernel
theorem dX4_findTariff_18 : decode cX4_findTariff 18 = .ok (.dup, 1) := by decide +kernel
theorem dX4_findTariff_19 : decode cX4_findTariff 19 = .ok (.ldc_w 289, 3) := by decide +kernel
theorem dX4_findTariff_22 : decode cX4_findTariff 22 = .ok (.invokespecial 170, 3) := by decide +kernel
theorem dX4_findTariff_25 : decode cX4_findTariff 25 = .ok (.athrow, 1) := by decide +kernel
theorem dX4_findTariff_26 : decode cX4_findTariff 26 = .ok (.aload_n 0, 1) := by decide +kernel
theorem dX4_findTariff_27 : decode cX4_findTariff 27 = .ok (.getfield 10, 3) := by decide +kernel
theorem dX4_findTariff_30 : decode cX4_findTariff 30 = .ok (.iload_n 1, 1) := by decide +kernel
theorem dX4_findTariff_31 : decode cX4_findTariff 31 = .ok (.invokevirtual 171, 3) := by decide +kernel
theorem dX4_findTariff_34 : decode cX4_findTariff 34 = .ok (.checkcast 61, 3) := by decide +kernel
theorem dX4_findTariff_37 : decode cX4_findTariff 37 = .ok (.areturn, 1) := by decide +kernel
theorem dX4_findAccount_0 : decode cX4_findAccount 0 = .ok (.iload_n 1, 1) := by decide +kernel
theorem dX4_findAccount_1 : decode cX4_findAccount 1 = .ok (.ifCond .lt 14, 3) := by decide +kernel
theorem dX4_findAccount_4 : decode cX4_findAccount 4 = .ok (.iload_n 1, 1) := by decide +kernel
theorem dX4_findAccount_5 : decode cX4_findAccount 5 = .ok (.aload_n 0, 1) := by decide +kernel
theorem dX4_findAccount_6 : decode cX4_findAccount 6 = .ok (.getfield 16, 3) := by decide +kernel
theorem dX4_findAccount_9 : decode cX4_findAccount 9 = .ok (.invokevirtual 52, 3) := by decide +kernel
theorem dX4_findAccount_12 : decode cX4_findAccount 12 = .ok (.if_icmp .lt 14, 3) := by decide +kernel
theorem dX4_findAccount_15 : decode cX4_findAccount 15 = .ok (.new 166, 3) := by decide +kernel
theorem dX4_findAccount_18 : decode cX4_findAccount 18 = .ok (.dup, 1) := by decide +kernel
theorem dX4_findAccount_19 : decode cX4_findAccount 19 = .ok (.ldc_w 291, 3) := by decide +kernel
theorem dX4_findAccount_22 : decode cX4_findAccount 22 = .ok (.invokespecial 170, 3) := by decide +kernel
theorem dX4_findAccount_25 : decode cX4_findAccount 25 = .ok (.athrow, 1) := by decide +kernel
theorem dX4_findAccount_26 : decode cX4_findAccount 26 = .ok (.aload_n 0, 1) := by decide +kernel
theorem dX4_findAccount_27 : decode cX4_findAccount 27 = .ok (.getfield 16, 3) := by decide +kernel
theorem dX4_findAccount_30 : decode cX4_findAccount 30 = .ok (.iload_n 1, 1) := by decide +kernel
theorem dX4_findAccount_31 : decode cX4_findAccount 31 = .ok (.invokevirtual 171, 3) := by decide +kernel
theorem dX4_findAccount_34 : decode cX4_findAccount 34 = .ok (.checkcast 105, 3) := by decide +kernel
theorem dX4_findAccount_37 : decode cX4_findAccount 37 = .ok (.areturn, 1) := by decide +kernel
theorem dX4_findLine_0 : decode cX4_findLine 0 = .ok (.iload_n 1, 1) := by decide +kernel
theorem dX4_findLine_1 : decode cX4_findLine 1 = .ok (.ifCond .lt 14, 3) := by decide +kernel
theorem dX4_findLine_4 : decode cX4_findLine 4 = .ok (.iload_n 1, 1) := by decide +kernel
theorem dX4_findLine_5 : decode cX4_findLine 5 = .ok (.aload_n 0, 1) := by decide +kernel
theorem dX4_findLine_6 : decode cX4_findLine 6 = .ok (.getfield 19, 3) := by decide +kernel
theorem dX4_findLine_9 : decode cX4_findLine 9 = .ok (.invokevirtual 52, 3) := by decide +kernel
theorem dX4_findLine_12 : decode cX4_findLine 12 = .ok (.if_icmp .lt 14, 3) := by decide +kernel
theorem dX4_findLine_15 : decode cX4_findLine 15 = .ok (.new 166, 3) := by decide +kernel
theorem dX4_findLine_18 : decode cX4_findLine 18 = .ok (.dup, 1) := by decide +kernel
theorem dX4_findLine_19 : decode cX4_findLine 19 = .ok (.ldc_w 293, 3) := by decide +kernel
theorem dX4_findLine_22 : decode cX4_findLine 22 = .ok (.invokespecial 170, 3) := by decide +kernel
theorem dX4_findLine_25 : decode cX4_findLine 25 = .ok (.athrow, 1) := by decide +kernel
theorem dX4_findLine_26 : decode cX4_findLine 26 = .ok (.aload_n 0, 1) := by decide +kernel
theorem dX4_findLine_27 : decode cX4_findLine 27 = .ok (.getfield 19, 3) := by decide +kernel
theorem dX4_findLine_30 : decode cX4_findLine 30 = .ok (.iload_n 1, 1) := by decide +kernel
theorem dX4_findLine_31 : decode cX4_findLine 31 = .ok (.invokevirtual 171, 3) := by decide +kernel
theorem dX4_findLine_34 : decode cX4_findLine 34 = .ok (.checkcast 116, 3) := by decide +kernel
theorem dX4_findLine_37 : decode cX4_findLine 37 = .ok (.areturn, 1) := by decide +kernel
theorem dX4_findCall_0 : decode cX4_findCall 0 = .ok (.iload_n 1, 1) := by decide +kernel
theorem dX4_findCall_1 : decode cX4_findCall 1 = .ok (.ifCond .lt 14, 3) := by decide +kernel
theorem dX4_findCall_4 : decode cX4_findCall 4 = .ok (.iload_n 1, 1) := by decide +kernel
theorem dX4_findCall_5 : decode cX4_findCall 5 = .ok (.aload_n 0, 1) := by decide +kernel
theorem dX4_findCall_6 : decode cX4_findCall 6 = .ok (.getfield 22, 3) := by decide +kernel
theorem dX4_findCall_9 : decode cX4_findCall 9 = .ok (.invokevirtual 52, 3) := by decide +kernel
theorem dX4_findCall_12 : decode cX4_findCall 12 = .ok (.if_icmp .lt 14, 3) := by decide +kernel
theorem dX4_findCall_15 : decode cX4_findCall 15 = .ok (.new 166, 3) := by decide +kernel
theorem dX4_findCall_18 : decode cX4_findCall 18 = .ok (.dup, 1) := by decide +kernel
theorem dX4_findCall_19 : decode cX4_findCall 19 = .ok (.ldc_w 295, 3) := by decide +kernel
theorem dX4_findCall_22 : decode cX4_findCall 22 = .ok (.invokespecial 170, 3) := by decide +kernel
theorem dX4_findCall_25 : decode cX4_findCall 25 = .ok (.athrow, 1) := by decide +kernel
theorem dX4_findCall_26 : decode cX4_findCall 26 = .ok (.aload_n 0, 1) := by decide +kernel
theorem dX4_findCall_27 : decode cX4_findCall 27 = .ok (.getfield 22, 3) := by decide +kernel
theorem dX4_findCall_30 : decode cX4_findCall 30 = .ok (.iload_n 1, 1) := by decide +kernel
theorem dX4_findCall_31 : decode cX4_findCall 31 = .ok (.invokevirtual 171, 3) := by decide +kernel
theorem dX4_findCall_34 : decode cX4_findCall 34 = .ok (.checkcast 148, 3) := by decide +kernel
theorem dX4_findCall_37 : decode cX4_findCall 37 = .ok (.areturn, 1) := by decide +kernel
theorem dX4_checkAbroad_0 : decode cX4_checkAbroad 0 = .ok (.iload_n 0, 1) := by decide +kernel
theorem dX4_checkAbroad_1 : decode cX4_checkAbroad 1 = .ok (.iconst 1, 1) := by decide +kernel
theorem dX4_checkAbroad_2 : decode cX4_checkAbroad 2 = .ok (.iconst 2, 1) := by decide +kernel
theorem dX4_checkAbroad_3 : decode cX4_checkAbroad 3 = .ok (.invokestatic 46, 3) := by decide +kernel
theorem dX4_checkAbroad_6 : decode cX4_checkAbroad 6 = .ok (.ifCond .ne 14, 3) := by decide +kernel
theorem dX4_checkAbroad_9 : decode cX4_checkAbroad 9 = .ok (.new 166, 3) := by decide +kernel
theorem dX4_checkAbroad_12 : decode cX4_checkAbroad 12 = .ok (.dup, 1) := by decide +kernel
theorem dX4_checkAbroad_13 : decode cX4_checkAbroad 13 = .ok (.ldc_w 297, 3) := by decide +kernel
theorem dX4_checkAbroad_16 : decode cX4_checkAbroad 16 = .ok (.invokespecial 170, 3) := by decide +kernel
theorem dX4_checkAbroad_19 : decode cX4_checkAbroad 19 = .ok (.athrow, 1) := by decide +kernel
theorem dX4_checkAbroad_20 : decode cX4_checkAbroad 20 = .ok (.return_, 1) := by decide +kernel
theorem dX4_checkBundle_0 : decode cX4_checkBundle 0 = .ok (.iload_n 0, 1) := by decide +kernel
theorem dX4_checkBundle_1 : decode cX4_checkBundle 1 = .ok (.iconst 0, 1) := by decide +kernel
theorem dX4_checkBundle_2 : decode cX4_checkBundle 2 = .ok (.ldc_w 299, 3) := by decide +kernel
theorem dX4_checkBundle_5 : decode cX4_checkBundle 5 = .ok (.invokestatic 46, 3) := by decide +kernel
theorem dX4_checkBundle_8 : decode cX4_checkBundle 8 = .ok (.ifCond .ne 14, 3) := by decide +kernel
theorem dX4_checkBundle_11 : decode cX4_checkBundle 11 = .ok (.new 39, 3) := by decide +kernel
theorem dX4_checkBundle_14 : decode cX4_checkBundle 14 = .ok (.dup, 1) := by decide +kernel
theorem dX4_checkBundle_15 : decode cX4_checkBundle 15 = .ok (.ldc_w 300, 3) := by decide +kernel
theorem dX4_checkBundle_18 : decode cX4_checkBundle 18 = .ok (.invokespecial 43, 3) := by decide +kernel
theorem dX4_checkBundle_21 : decode cX4_checkBundle 21 = .ok (.athrow, 1) := by decide +kernel
theorem dX4_checkBundle_22 : decode cX4_checkBundle 22 = .ok (.return_, 1) := by decide +kernel
theorem dX4_isMoney_0 : decode cX4_isMoney 0 = .ok (.iload_n 0, 1) := by decide +kernel
theorem dX4_isMoney_1 : decode cX4_isMoney 1 = .ok (.iconst 0, 1) := by decide +kernel
theorem dX4_isMoney_2 : decode cX4_isMoney 2 = .ok (.sipush 10000, 3) := by decide +kernel
theorem dX4_isMoney_5 : decode cX4_isMoney 5 = .ok (.invokestatic 46, 3) := by decide +kernel
theorem dX4_isMoney_8 : decode cX4_isMoney 8 = .ok (.ireturn, 1) := by decide +kernel
theorem dX4_isWithin_0 : decode cX4_isWithin 0 = .ok (.iload_n 0, 1) := by decide +kernel
theorem dX4_isWithin_1 : decode cX4_isWithin 1 = .ok (.iload_n 1, 1) := by decide +kernel
theorem dX4_isWithin_2 : decode cX4_isWithin 2 = .ok (.if_icmp .lt 12, 3) := by decide +kernel
theorem dX4_isWithin_5 : decode cX4_isWithin 5 = .ok (.iload_n 0, 1) := by decide +kernel
theorem dX4_isWithin_6 : decode cX4_isWithin 6 = .ok (.iload_n 2, 1) := by decide +kernel
theorem dX4_isWithin_7 : decode cX4_isWithin 7 = .ok (.if_icmp .gt 7, 3) := by decide +kernel
theorem dX4_isWithin_10 : decode cX4_isWithin 10 = .ok (.iconst 1, 1) := by decide +kernel
theorem dX4_isWithin_11 : decode cX4_isWithin 11 = .ok (.goto 4, 3) := by decide +kernel
theorem dX4_isWithin_14 : decode cX4_isWithin 14 = .ok (.iconst 0, 1) := by decide +kernel
theorem dX4_isWithin_15 : decode cX4_isWithin 15 = .ok (.ireturn, 1) := by decide +kernel
theorem dJx4a65c_init_da8c8_0 : decode cJx4a65c_init_da8c8 0 = .ok (.aload_n 0, 1) := by decide +kernel
theorem dJx4a65c_init_da8c8_1 : decode cJx4a65c_init_da8c8 1 = .ok (.invokespecial 1, 3) := by decide +kernel
theorem dJx4a65c_init_da8c8_4 : decode cJx4a65c_init_da8c8 4 = .ok (.aload_n 0, 1) := by decide +kernel
theorem dJx4a65c_init_da8c8_5 : decode cJx4a65c_init_da8c8 5 = .ok (.getstatic 39, 3) := by decide +kernel
theorem dJx4a65c_init_da8c8_8 : decode cJx4a65c_init_da8c8 8 = .ok (.putfield 9, 3) := by decide +kernel
theorem dJx4a65c_init_da8c8_11 : decode cJx4a65c_init_da8c8 11 = .ok (.return_, 1) := by decide +kernel
theorem dJx4a65c_grow_92f84_0 : decode cJx4a65c_grow_92f84 0 = .ok (.aload_n 0, 1) := by decide +kernel
theorem dJx4a65c_grow_92f84_1 : decode cJx4a65c_grow_92f84 1 = .ok (.getfield 9, 3) := by decide +kernel
theorem dJx4a65c_grow_92f84_4 : decode cJx4a65c_grow_92f84 4 = .ok (.arraylength, 1) := by decide +kernel
theorem dJx4a65c_grow_92f84_5 : decode cJx4a65c_grow_92f84 5 = .ok (.istore_n 2, 1) := by decide +kernel
theorem dJx4a65c_grow_92f84_6 : decode cJx4a65c_grow_92f84 6 = .ok (.iload_n 2, 1) := by decide +kernel
theorem dJx4a65c_grow_92f84_7 : decode cJx4a65c_grow_92f84 7 = .ok (.ifCond .gt 13, 3) := by decide +kernel
theorem dJx4a65c_grow_92f84_10 : decode cJx4a65c_grow_92f84 10 = .ok (.aload_n 0, 1) := by decide +kernel
theorem dJx4a65c_grow_92f84_11 : decode cJx4a65c_grow_92f84 11 = .ok (.getfield 9, 3) := by decide +kernel
theorem dJx4a65c_grow_92f84_14 : decode cJx4a65c_grow_92f84 14 = .ok (.getstatic 39, 3) := by decide +kernel
theorem dJx4a65c_grow_92f84_17 : decode cJx4a65c_grow_92f84 17 = .ok (.if_acmp .eq 28, 3) := by decide +kernel
theorem dJx4a65c_grow_92f84_20 : decode cJx4a65c_grow_92f84 20 = .ok (.iload_n 2, 1) := by decide +kernel
theorem dJx4a65c_grow_92f84_21 : decode cJx4a65c_grow_92f84 21 = .ok (.iload_n 1, 1) := by decide +kernel
theorem dJx4a65c_grow_92f84_22 : decode cJx4a65c_grow_92f84 22 = .ok (.iload_n 2, 1) := by decide +kernel
theorem dJx4a65c_grow_92f84_23 : decode cJx4a65c_grow_92f84 23 = .ok (.isub, 1) := by decide +kernel
theorem dJx4a65c_grow_92f84_24 : decode cJx4a65c_grow_92f84 24 = .ok (.iload_n 2, 1) := by decide +kernel
theorem dJx4a65c_grow_92f84_25 : decode cJx4a65c_grow_92f84 25 = .ok (.iconst 1, 1) := by decide +kernel
theorem dJx4a65c_grow_92f84_26 : decode cJx4a65c_grow_92f84 26 = .ok (.ishr, 1) := by decide +kernel
theorem dJx4a65c_grow_92f84_27 : decode cJx4a65c_grow_92f84 27 = .ok (.invokestatic 73, 3) := by decide +kernel
theorem dJx4a65c_grow_92f84_30 : decode cJx4a65c_grow_92f84 30 = .ok (.istore_n 3, 1) := by decide +kernel
theorem dJx4a65c_grow_92f84_31 : decode cJx4a65c_grow_92f84 31 = .ok (.aload_n 0, 1) := by decide +kernel
theorem dJx4a65c_grow_92f84_32 : decode cJx4a65c_grow_92f84 32 = .ok (.aload_n 0, 1) := by decide +kernel
theorem dJx4a65c_grow_92f84_33 : decode cJx4a65c_grow_92f84 33 = .ok (.getfield 9, 3) := by decide +kernel
theorem dJx4a65c_grow_92f84_36 : decode cJx4a65c_grow_92f84 36 = .ok (.iload_n 3, 1) := by decide +kernel
theorem dJx4a65c_grow_92f84_37 : decode cJx4a65c_grow_92f84 37 = .ok (.invokestatic 66, 3) := by decide +kernel
theorem dJx4a65c_grow_92f84_40 : decode cJx4a65c_grow_92f84 40 = .ok (.dup_x1, 1) := by decide +kernel
theorem dJx4a65c_grow_92f84_41 : decode cJx4a65c_grow_92f84 41 = .ok (.putfield 9, 3) := by decide +kernel
theorem dJx4a65c_grow_92f84_44 : decode cJx4a65c_grow_92f84 44 = .ok (.areturn, 1) := by decide +kernel
theorem dJx4a65c_grow_92f84_45 : decode cJx4a65c_grow_92f84 45 = .ok (.aload_n 0, 1) := by decide +kernel
theorem dJx4a65c_grow_92f84_46 : decode cJx4a65c_grow_92f84 46 = .ok (.bipush 10, 2) := by decide +kernel
theorem dJx4a65c_grow_92f84_48 : decode cJx4a65c_grow_92f84 48 = .ok (.iload_n 1, 1) := by decide +kernel
theorem dJx4a65c_grow_92f84_49 : decode cJx4a65c_grow_92f84 49 = .ok (.invokestatic 79, 3) := by decide +kernel
theorem dJx4a65c_grow_92f84_52 : decode cJx4a65c_grow_92f84 52 = .ok (.anewarray 7, 3) := by decide +kernel
theorem dJx4a65c_grow_92f84_55 : decode cJx4a65c_grow_92f84 55 = .ok (.dup_x1, 1) := by decide +kernel
theorem dJx4a65c_grow_92f84_56 : decode cJx4a65c_grow_92f84 56 = .ok (.putfield 9, 3) := by decide +kernel
theorem dJx4a65c_grow_92f84_59 : decode cJx4a65c_grow_92f84 59 = .ok (.areturn, 1) := by decide +kernel
theorem dJx4a65c_grow_d5877_0 : decode cJx4a65c_grow_d5877 0 = .ok (.aload_n 0, 1) := by decide +kernel
theorem dJx4a65c_grow_d5877_1 : decode cJx4a65c_grow_d5877 1 = .ok (.aload_n 0, 1) := by decide +kernel
theorem dJx4a65c_grow_d5877_2 : decode cJx4a65c_grow_d5877 2 = .ok (.getfield 48, 3) := by decide +kernel
theorem dJx4a65c_grow_d5877_5 : decode cJx4a65c_grow_d5877 5 = .ok (.iconst 1, 1) := by decide +kernel
theorem dJx4a65c_grow_d5877_6 : decode cJx4a65c_grow_d5877 6 = .ok (.iadd, 1) := by decide +kernel
theorem dJx4a65c_grow_d5877_7 : decode cJx4a65c_grow_d5877 7 = .ok (.invokevirtual 69, 3) := by decide +kernel
theorem dJx4a65c_grow_d5877_10 : decode cJx4a65c_grow_d5877 10 = .ok (.areturn, 1) := by decide +kernel
theorem dJx4a65c_size_8abf5_0 : decode cJx4a65c_size_8abf5 0 = .ok (.aload_n 0, 1) := by decide +kernel
theorem dJx4a65c_size_8abf5_1 : decode cJx4a65c_size_8abf5 1 = .ok (.getfield 48, 3) := by decide +kernel
theorem dJx4a65c_size_8abf5_4 : decode cJx4a65c_size_8abf5 4 = .ok (.ireturn, 1) := by decide +kernel
theorem dJx4a65c_elementData_915e3_0 : decode cJx4a65c_elementData_915e3 0 = .ok (.aload_n 0, 1) := by decide +kernel
theorem dJx4a65c_elementData_915e3_1 : decode cJx4a65c_elementData_915e3 1 = .ok (.getfield 9, 3) := by decide +kernel
theorem dJx4a65c_elementData_915e3_4 : decode cJx4a65c_elementData_915e3 4 = .ok (.iload_n 1, 1) := by decide +kernel
theorem dJx4a65c_elementData_915e3_5 : decode cJx4a65c_elementData_915e3 5 = .ok (.aaload, 1) := by decide +kernel
theorem dJx4a65c_elementData_915e3_6 : decode cJx4a65c_elementData_915e3 6 = .ok (.areturn, 1) := by decide +kernel
theorem dJx4a65c_get_915e3_0 : decode cJx4a65c_get_915e3 0 = .ok (.iload_n 1, 1) := by decide +kernel
theorem dJx4a65c_get_915e3_1 : decode cJx4a65c_get_915e3 1 = .ok (.aload_n 0, 1) := by decide +kernel
theorem dJx4a65c_get_915e3_2 : decode cJx4a65c_get_915e3 2 = .ok (.getfield 48, 3) := by decide +kernel
theorem dJx4a65c_get_915e3_5 : decode cJx4a65c_get_915e3 5 = .ok (.invokestatic 118, 3) := by decide +kernel
theorem dJx4a65c_get_915e3_8 : decode cJx4a65c_get_915e3 8 = .ok (.pop, 1) := by decide +kernel
theorem dJx4a65c_get_915e3_9 : decode cJx4a65c_get_915e3 9 = .ok (.aload_n 0, 1) := by decide +kernel
theorem dJx4a65c_get_915e3_10 : decode cJx4a65c_get_915e3 10 = .ok (.iload_n 1, 1) := by decide +kernel
theorem dJx4a65c_get_915e3_11 : decode cJx4a65c_get_915e3 11 = .ok (.invokevirtual 123, 3) := by decide +kernel
theorem dJx4a65c_get_915e3_14 : decode cJx4a65c_get_915e3 14 = .ok (.areturn, 1) := by decide +kernel
theorem dJx4a65c_add_72be8_0 : decode cJx4a65c_add_72be8 0 = .ok (.iload_n 3, 1) := by decide +kernel
theorem dJx4a65c_add_72be8_1 : decode cJx4a65c_add_72be8 1 = .ok (.aload_n 2, 1) := by decide +kernel
theorem dJx4a65c_add_72be8_2 : decode cJx4a65c_add_72be8 2 = .ok (.arraylength, 1) := by decide +kernel
theorem dJx4a65c_add_72be8_3 : decode cJx4a65c_add_72be8 3 = .ok (.if_icmp .ne 8, 3) := by decide +kernel
theorem dJx4a65c_add_72be8_6 : decode cJx4a65c_add_72be8 6 = .ok (.aload_n 0, 1) := by decide +kernel
theorem dJx4a65c_add_72be8_7 : decode cJx4a65c_add_72be8 7 = .ok (.invokevirtual 129, 3) := by decide +kernel
theorem dJx4a65c_add_72be8_10 : decode cJx4a65c_add_72be8 10 = .ok (.astore_n 2, 1) := by decide +kernel
theorem dJx4a65c_add_72be8_11 : decode cJx4a65c_add_72be8 11 = .ok (.aload_n 2, 1) := by decide +kernel
theorem dJx4a65c_add_72be8_12 : decode cJx4a65c_add_72be8 12 = .ok (.iload_n 3, 1) := by decide +kernel
theorem dJx4a65c_add_72be8_13 : decode cJx4a65c_add_72be8 13 = .ok (.aload_n 1, 1) := by decide +kernel
theorem dJx4a65c_add_72be8_14 : decode cJx4a65c_add_72be8 14 = .ok (.aastore, 1) := by decide +kernel
theorem dJx4a65c_add_72be8_15 : decode cJx4a65c_add_72be8 15 = .ok (.aload_n 0, 1) := by decide +kernel
theorem dJx4a65c_add_72be8_16 : decode cJx4a65c_add_72be8 16 = .ok (.iload_n 3, 1) := by decide +kernel
theorem dJx4a65c_add_72be8_17 : decode cJx4a65c_add_72be8 17 = .ok (.iconst 1, 1) := by decide +kernel
theorem dJx4a65c_add_72be8_18 : decode cJx4a65c_add_72be8 18 = .ok (.iadd, 1) := by decide +kernel
theorem dJx4a65c_add_72be8_19 : decode cJx4a65c_add_72be8 19 = .ok (.putfield 48, 3) := by decide +kernel
theorem dJx4a65c_add_72be8_22 : decode cJx4a65c_add_72be8 22 = .ok (.return_, 1) := by decide +kernel
theorem dJx4a65c_add_9ea2d_0 : decode cJx4a65c_add_9ea2d 0 = .ok (.aload_n 0, 1) := by decide +kernel
theorem dJx4a65c_add_9ea2d_1 : decode cJx4a65c_add_9ea2d 1 = .ok (.dup, 1) := by decide +kernel
theorem dJx4a65c_add_9ea2d_2 : decode cJx4a65c_add_9ea2d 2 = .ok (.getfield 63, 3) := by decide +kernel
theorem dJx4a65c_add_9ea2d_5 : decode cJx4a65c_add_9ea2d 5 = .ok (.iconst 1, 1) := by decide +kernel
theorem dJx4a65c_add_9ea2d_6 : decode cJx4a65c_add_9ea2d 6 = .ok (.iadd, 1) := by decide +kernel
theorem dJx4a65c_add_9ea2d_7 : decode cJx4a65c_add_9ea2d 7 = .ok (.putfield 63, 3) := by decide +kernel
theorem dJx4a65c_add_9ea2d_10 : decode cJx4a65c_add_9ea2d 10 = .ok (.aload_n 0, 1) := by decide +kernel
theorem dJx4a65c_add_9ea2d_11 : decode cJx4a65c_add_9ea2d 11 = .ok (.aload_n 1, 1) := by decide +kernel
theorem dJx4a65c_add_9ea2d_12 : decode cJx4a65c_add_9ea2d 12 = .ok (.aload_n 0, 1) := by decide +kernel
theorem dJx4a65c_add_9ea2d_13 : decode cJx4a65c_add_9ea2d 13 = .ok (.getfield 9, 3) := by decide +kernel
theorem dJx4a65c_add_9ea2d_16 : decode cJx4a65c_add_9ea2d 16 = .ok (.aload_n 0, 1) := by decide +kernel
theorem dJx4a65c_add_9ea2d_17 : decode cJx4a65c_add_9ea2d 17 = .ok (.getfield 48, 3) := by decide +kernel
theorem dJx4a65c_add_9ea2d_20 : decode cJx4a65c_add_9ea2d 20 = .ok (.invokevirtual 131, 3) := by decide +kernel
theorem dJx4a65c_add_9ea2d_23 : decode cJx4a65c_add_9ea2d 23 = .ok (.iconst 1, 1) := by decide +kernel
theorem dJx4a65c_add_9ea2d_24 : decode cJx4a65c_add_9ea2d 24 = .ok (.ireturn, 1) := by decide +kernel
theorem dJx4a65c_add_7a177_0 : decode cJx4a65c_add_7a177 0 = .ok (.aload_n 0, 1) := by decide +kernel
theorem dJx4a65c_add_7a177_1 : decode cJx4a65c_add_7a177 1 = .ok (.iload_n 1, 1) := by decide +kernel
theorem dJx4a65c_add_7a177_2 : decode cJx4a65c_add_7a177 2 = .ok (.invokevirtual 135, 3) := by decide +kernel
theorem dJx4a65c_add_7a177_5 : decode cJx4a65c_add_7a177 5 = .ok (.aload_n 0, 1) := by decide +kernel
theorem dJx4a65c_add_7a177_6 : decode cJx4a65c_add_7a177 6 = .ok (.dup, 1) := by decide +kernel
theorem dJx4a65c_add_7a177_7 : decode cJx4a65c_add_7a177 7 = .ok (.getfield 63, 3) := by decide +kernel
theorem dJx4a65c_add_7a177_10 : decode cJx4a65c_add_7a177 10 = .ok (.iconst 1, 1) := by decide +kernel
theorem dJx4a65c_add_7a177_11 : decode cJx4a65c_add_7a177 11 = .ok (.iadd, 1) := by decide +kernel
theorem dJx4a65c_add_7a177_12 : decode cJx4a65c_add_7a177 12 = .ok (.putfield 63, 3) := by decide +kernel
theorem dJx4a65c_add_7a177_15 : decode cJx4a65c_add_7a177 15 = .ok (.aload_n 0, 1) := by decide +kernel
theorem dJx4a65c_add_7a177_16 : decode cJx4a65c_add_7a177 16 = .ok (.getfield 48, 3) := by decide +kernel
theorem dJx4a65c_add_7a177_19 : decode cJx4a65c_add_7a177 19 = .ok (.dup, 1) := by decide +kernel
theorem dJx4a65c_add_7a177_20 : decode cJx4a65c_add_7a177 20 = .ok (.istore_n 3, 1) := by decide +kernel
theorem dJx4a65c_add_7a177_21 : decode cJx4a65c_add_7a177 21 = .ok (.aload_n 0, 1) := by decide +kernel
theorem dJx4a65c_add_7a177_22 : decode cJx4a65c_add_7a177 22 = .ok (.getfield 9, 3) := by decide +kernel
theorem dJx4a65c_add_7a177_25 : decode cJx4a65c_add_7a177 25 = .ok (.dup, 1) := by decide +kernel
theorem dJx4a65c_add_7a177_26 : decode cJx4a65c_add_7a177 26 = .ok (.astore 4, 2) := by decide +kernel
theorem dJx4a65c_add_7a177_28 : decode cJx4a65c_add_7a177 28 = .ok (.arraylength, 1) := by decide +kernel
theorem dJx4a65c_add_7a177_29 : decode cJx4a65c_add_7a177 29 = .ok (.if_icmp .ne 9, 3) := by decide +kernel
theorem dJx4a65c_add_7a177_32 : decode cJx4a65c_add_7a177 32 = .ok (.aload_n 0, 1) := by decide +kernel
theorem dJx4a65c_add_7a177_33 : decode cJx4a65c_add_7a177 33 = .ok (.invokevirtual 129, 3) := by decide +kernel
theorem dJx4a65c_add_7a177_36 : decode cJx4a65c_add_7a177 36 = .ok (.astore 4, 2) := by decide +kernel
theorem dJx4a65c_add_7a177_38 : decode cJx4a65c_add_7a177 38 = .ok (.aload 4, 2) := by decide +kernel
theorem dJx4a65c_add_7a177_40 : decode cJx4a65c_add_7a177 40 = .ok (.iload_n 1, 1) := by decide +kernel
theorem dJx4a65c_add_7a177_41 : decode cJx4a65c_add_7a177 41 = .ok (.aload 4, 2) := by decide +kernel
theorem dJx4a65c_add_7a177_43 : decode cJx4a65c_add_7a177 43 = .ok (.iload_n 1, 1) := by decide +kernel
theorem dJx4a65c_add_7a177_44 : decode cJx4a65c_add_7a177 44 = .ok (.iconst 1, 1) := by decide +kernel
theorem dJx4a65c_add_7a177_45 : decode cJx4a65c_add_7a177 45 = .ok (.iadd, 1) := by decide +kernel
theorem dJx4a65c_add_7a177_46 : decode cJx4a65c_add_7a177 46 = .ok (.iload_n 3, 1) := by decide +kernel
theorem dJx4a65c_add_7a177_47 : decode cJx4a65c_add_7a177 47 = .ok (.iload_n 1, 1) := by decide +kernel
theorem dJx4a65c_add_7a177_48 : decode cJx4a65c_add_7a177 48 = .ok (.isub, 1) := by decide +kernel
theorem dJx4a65c_add_7a177_49 : decode cJx4a65c_add_7a177 49 = .ok (.invokestatic 112, 3) := by decide +kernel
theorem dJx4a65c_add_7a177_52 : decode cJx4a65c_add_7a177 52 = .ok (.aload 4, 2) := by decide +kernel
theorem dJx4a65c_add_7a177_54 : decode cJx4a65c_add_7a177 54 = .ok (.iload_n 1, 1) := by decide +kernel
theorem dJx4a65c_add_7a177_55 : decode cJx4a65c_add_7a177 55 = .ok (.aload_n 2, 1) := by decide +kernel
theorem dJx4a65c_add_7a177_56 : decode cJx4a65c_add_7a177 56 = .ok (.aastore, 1) := by decide +kernel
theorem dJx4a65c_add_7a177_57 : decode cJx4a65c_add_7a177 57 = .ok (.aload_n 0, 1) := by decide +kernel
theorem dJx4a65c_add_7a177_58 : decode cJx4a65c_add_7a177 58 = .ok (.iload_n 3, 1) := by decide +kernel
theorem dJx4a65c_add_7a177_59 : decode cJx4a65c_add_7a177 59 = .ok (.iconst 1, 1) := by decide +kernel
theorem dJx4a65c_add_7a177_60 : decode cJx4a65c_add_7a177 60 = .ok (.iadd, 1) := by decide +kernel
theorem dJx4a65c_add_7a177_61 : decode cJx4a65c_add_7a177 61 = .ok (.putfield 48, 3) := by decide +kernel
theorem dJx4a65c_add_7a177_64 : decode cJx4a65c_add_7a177 64 = .ok (.return_, 1) := by decide +kernel
theorem dJx4a65c_rangeCheckForAdd_d00df_0 : decode cJx4a65c_rangeCheckForAdd_d00df 0 = .ok (.iload_n 1, 1) := by decide +kernel
theorem dJx4a65c_rangeCheckForAdd_d00df_1 : decode cJx4a65c_rangeCheckForAdd_d00df 1 = .ok (.aload_n 0, 1) := by decide +kernel
theorem dJx4a65c_rangeCheckForAdd_d00df_2 : decode cJx4a65c_rangeCheckForAdd_d00df 2 = .ok (.getfield 48, 3) := by decide +kernel
theorem dJx4a65c_rangeCheckForAdd_d00df_5 : decode cJx4a65c_rangeCheckForAdd_d00df 5 = .ok (.if_icmp .gt 7, 3) := by decide +kernel
theorem dJx4a65c_rangeCheckForAdd_d00df_8 : decode cJx4a65c_rangeCheckForAdd_d00df 8 = .ok (.iload_n 1, 1) := by decide +kernel
theorem dJx4a65c_rangeCheckForAdd_d00df_9 : decode cJx4a65c_rangeCheckForAdd_d00df 9 = .ok (.ifCond .ge 16, 3) := by decide +kernel
theorem dJx4a65c_rangeCheckForAdd_d00df_12 : decode cJx4a65c_rangeCheckForAdd_d00df 12 = .ok (.new 187, 3) := by decide +kernel
theorem dJx4a65c_rangeCheckForAdd_d00df_15 : decode cJx4a65c_rangeCheckForAdd_d00df 15 = .ok (.dup, 1) := by decide +kernel
theorem dJx4a65c_rangeCheckForAdd_d00df_16 : decode cJx4a65c_rangeCheckForAdd_d00df 16 = .ok (.aload_n 0, 1) := by decide +kernel
theorem dJx4a65c_rangeCheckForAdd_d00df_17 : decode cJx4a65c_rangeCheckForAdd_d00df 17 = .ok (.iload_n 1, 1) := by decide +kernel
theorem dJx4a65c_rangeCheckForAdd_d00df_18 : decode cJx4a65c_rangeCheckForAdd_d00df 18 = .ok (.invokevirtual 198, 3) := by decide +kernel
theorem dJx4a65c_rangeCheckForAdd_d00df_21 : decode cJx4a65c_rangeCheckForAdd_d00df 21 = .ok (.invokespecial 193, 3) := by decide +kernel
theorem dJx4a65c_rangeCheckForAdd_d00df_24 : decode cJx4a65c_rangeCheckForAdd_d00df 24 = .ok (.athrow, 1) := by decide +kernel
theorem dJx4a65c_rangeCheckForAdd_d00df_25 : decode cJx4a65c_rangeCheckForAdd_d00df 25 = .ok (.return_, 1) := by decide +kernel
theorem dJxc12de_init_da8c8_0 : decode cJxc12de_init_da8c8 0 = .ok (.aload_n 0, 1) := by decide +kernel
theorem dJxc12de_init_da8c8_1 : decode cJxc12de_init_da8c8 1 = .ok (.invokespecial 1, 3) := by decide +kernel
theorem dJxc12de_init_da8c8_4 : decode cJxc12de_init_da8c8 4 = .ok (.aload_n 0, 1) := by decide +kernel
theorem dJxc12de_init_da8c8_5 : decode cJxc12de_init_da8c8 5 = .ok (.iconst 0, 1) := by decide +kernel
theorem dJxc12de_init_da8c8_6 : decode cJxc12de_init_da8c8 6 = .ok (.putfield 7, 3) := by decide +kernel
theorem dJxc12de_init_da8c8_9 : decode cJxc12de_init_da8c8 9 = .ok (.return_, 1) := by decide +kernel
theorem dJxa1e45_init_da8c8_0 : decode cJxa1e45_init_da8c8 0 = .ok (.aload_n 0, 1) := by decide +kernel
theorem dJxa1e45_init_da8c8_1 : decode cJxa1e45_init_da8c8 1 = .ok (.invokespecial 1, 3) := by decide +kernel
theorem dJxa1e45_init_da8c8_4 : decode cJxa1e45_init_da8c8 4 = .ok (.return_, 1) := by decide +kernel
theorem dJ15_checkIndex_7cf53_0 : decode cJ15_checkIndex_7cf53 0 = .ok (.iload_n 0, 1) := by decide +kernel
theorem dJ15_checkIndex_7cf53_1 : decode cJ15_checkIndex_7cf53 1 = .ok (.iload_n 1, 1) := by decide +kernel
theorem dJ15_checkIndex_7cf53_2 : decode cJ15_checkIndex_7cf53 2 = .ok (.aconst_null, 1) := by decide +kernel
theorem dJ15_checkIndex_7cf53_3 : decode cJ15_checkIndex_7cf53 3 = .ok (.invokestatic 105, 3) := by decide +kernel
theorem dJ15_checkIndex_7cf53_6 : decode cJ15_checkIndex_7cf53 6 = .ok (.ireturn, 1) := by decide +kernel
theorem dJ3_checkIndex_8e157_0 : decode cJ3_checkIndex_8e157 0 = .ok (.iload_n 0, 1) := by decide +kernel
theorem dJ3_checkIndex_8e157_1 : decode cJ3_checkIndex_8e157 1 = .ok (.ifCond .lt 8, 3) := by decide +kernel
theorem dJ3_checkIndex_8e157_4 : decode cJ3_checkIndex_8e157 4 = .ok (.iload_n 0, 1) := by decide +kernel
theorem dJ3_checkIndex_8e157_5 : decode cJ3_checkIndex_8e157 5 = .ok (.iload_n 1, 1) := by decide +kernel
theorem dJ3_checkIndex_8e157_6 : decode cJ3_checkIndex_8e157 6 = .ok (.if_icmp .lt 10, 3) := by decide +kernel
theorem dJ3_checkIndex_8e157_9 : decode cJ3_checkIndex_8e157 9 = .ok (.aload_n 2, 1) := by decide +kernel
theorem dJ3_checkIndex_8e157_10 : decode cJ3_checkIndex_8e157 10 = .ok (.iload_n 0, 1) := by decide +kernel
theorem dJ3_checkIndex_8e157_11 : decode cJ3_checkIndex_8e157 11 = .ok (.iload_n 1, 1) := by decide +kernel
theorem dJ3_checkIndex_8e157_12 : decode cJ3_checkIndex_8e157 12 = .ok (.invokestatic 95, 3) := by decide +kernel
theorem dJ3_checkIndex_8e157_15 : decode cJ3_checkIndex_8e157 15 = .ok (.athrow, 1) := by decide +kernel
theorem dJ3_checkIndex_8e157_16 : decode cJ3_checkIndex_8e157 16 = .ok (.iload_n 0, 1) := by decide +kernel
theorem dJ3_checkIndex_8e157_17 : decode cJ3_checkIndex_8e157 17 = .ok (.ireturn, 1) := by decide +kernel
theorem dJ8_newLength_cabcc_0 : decode cJ8_newLength_cabcc 0 = .ok (.iload_n 0, 1) := by decide +kernel
theorem dJ8_newLength_cabcc_1 : decode cJ8_newLength_cabcc 1 = .ok (.iload_n 1, 1) := by decide +kernel
theorem dJ8_newLength_cabcc_2 : decode cJ8_newLength_cabcc 2 = .ok (.iload_n 2, 1) := by decide +kernel
theorem dJ8_newLength_cabcc_3 : decode cJ8_newLength_cabcc 3 = .ok (.invokestatic 194, 3) := by decide +kernel
theorem dJ8_newLength_cabcc_6 : decode cJ8_newLength_cabcc 6 = .ok (.iadd, 1) := by decide +kernel
theorem dJ8_newLength_cabcc_7 : decode cJ8_newLength_cabcc 7 = .ok (.istore_n 3, 1) := by decide +kernel
theorem dJ8_newLength_cabcc_8 : decode cJ8_newLength_cabcc 8 = .ok (.iconst 0, 1) := by decide +kernel
theorem dJ8_newLength_cabcc_9 : decode cJ8_newLength_cabcc 9 = .ok (.iload_n 3, 1) := by decide +kernel
theorem dJ8_newLength_cabcc_10 : decode cJ8_newLength_cabcc 10 = .ok (.if_icmp .ge 11, 3) := by decide +kernel
theorem dJ8_newLength_cabcc_13 : decode cJ8_newLength_cabcc 13 = .ok (.iload_n 3, 1) := by decide +kernel
theorem dJ8_newLength_cabcc_14 : decode cJ8_newLength_cabcc 14 = .ok (.ldc 200, 2) := by decide +kernel
theorem dJ8_newLength_cabcc_16 : decode cJ8_newLength_cabcc 16 = .ok (.if_icmp .gt 5, 3) := by decide +kernel
theorem dJ8_newLength_cabcc_19 : decode cJ8_newLength_cabcc 19 = .ok (.iload_n 3, 1) := by decide +kernel
theorem dJ8_newLength_cabcc_20 : decode cJ8_newLength_cabcc 20 = .ok (.ireturn, 1) := by decide +kernel
theorem dJ8_newLength_cabcc_21 : decode cJ8_newLength_cabcc 21 = .ok (.iload_n 0, 1) := by decide +kernel
theorem dJ8_newLength_cabcc_22 : decode cJ8_newLength_cabcc 22 = .ok (.iload_n 1, 1) := by decide +kernel
theorem dJ8_newLength_cabcc_23 : decode cJ8_newLength_cabcc 23 = .ok (.invokestatic 201, 3) := by decide +kernel
theorem dJ8_newLength_cabcc_26 : decode cJ8_newLength_cabcc 26 = .ok (.ireturn, 1) := by decide +kernel
theorem dJ7_copyOf_1904c_0 : decode cJ7_copyOf_1904c 0 = .ok (.aload_n 0, 1) := by decide +kernel
theorem dJ7_copyOf_1904c_1 : decode cJ7_copyOf_1904c 1 = .ok (.iload_n 1, 1) := by decide +kernel
theorem dJ7_copyOf_1904c_2 : decode cJ7_copyOf_1904c 2 = .ok (.aload_n 0, 1) := by decide +kernel
theorem dJ7_copyOf_1904c_3 : decode cJ7_copyOf_1904c 3 = .ok (.invokevirtual 86, 3) := by decide +kernel
theorem dJ7_copyOf_1904c_6 : decode cJ7_copyOf_1904c 6 = .ok (.invokestatic 300, 3) := by decide +kernel
theorem dJ7_copyOf_1904c_9 : decode cJ7_copyOf_1904c 9 = .ok (.areturn, 1) := by decide +kernel
theorem dJ7_copyOf_6403c_0 : decode cJ7_copyOf_6403c 0 = .ok (.aload_n 2, 1) := by decide +kernel
theorem dJ7_copyOf_6403c_1 : decode cJ7_copyOf_6403c 1 = .ok (.ldc 110, 2) := by decide +kernel
theorem dJ7_copyOf_6403c_3 : decode cJ7_copyOf_6403c 3 = .ok (.if_acmp .ne 10, 3) := by decide +kernel
theorem dJ7_copyOf_6403c_6 : decode cJ7_copyOf_6403c 6 = .ok (.iload_n 1, 1) := by decide +kernel
theorem dJ7_copyOf_6403c_7 : decode cJ7_copyOf_6403c 7 = .ok (.anewarray 2, 3) := by decide +kernel
theorem dJ7_copyOf_6403c_10 : decode cJ7_copyOf_6403c 10 = .ok (.goto 14, 3) := by decide +kernel
theorem dJ7_copyOf_6403c_13 : decode cJ7_copyOf_6403c 13 = .ok (.aload_n 2, 1) := by decide +kernel
theorem dJ7_copyOf_6403c_14 : decode cJ7_copyOf_6403c 14 = .ok (.invokevirtual 90, 3) := by decide +kernel
theorem dJ7_copyOf_6403c_17 : decode cJ7_copyOf_6403c 17 = .ok (.iload_n 1, 1) := by decide +kernel
theorem dJ7_copyOf_6403c_18 : decode cJ7_copyOf_6403c 18 = .ok (.invokestatic 95, 3) := by decide +kernel
theorem dJ7_copyOf_6403c_21 : decode cJ7_copyOf_6403c 21 = .ok (.checkcast 110, 3) := by decide +kernel
theorem dJ7_copyOf_6403c_24 : decode cJ7_copyOf_6403c 24 = .ok (.astore_n 3, 1) := by decide +kernel
theorem dJ7_copyOf_6403c_25 : decode cJ7_copyOf_6403c 25 = .ok (.aload_n 0, 1) := by decide +kernel
theorem dJ7_copyOf_6403c_26 : decode cJ7_copyOf_6403c 26 = .ok (.iconst 0, 1) := by decide +kernel
theorem dJ7_copyOf_6403c_27 : decode cJ7_copyOf_6403c 27 = .ok (.aload_n 3, 1) := by decide +kernel
theorem dJ7_copyOf_6403c_28 : decode cJ7_copyOf_6403c 28 = .ok (.iconst 0, 1) := by decide +kernel
theorem dJ7_copyOf_6403c_29 : decode cJ7_copyOf_6403c 29 = .ok (.aload_n 0, 1) := by decide +kernel
theorem dJ7_copyOf_6403c_30 : decode cJ7_copyOf_6403c 30 = .ok (.arraylength, 1) := by decide +kernel
theorem dJ7_copyOf_6403c_31 : decode cJ7_copyOf_6403c 31 = .ok (.iload_n 1, 1) := by decide +kernel
theorem dJ7_copyOf_6403c_32 : decode cJ7_copyOf_6403c 32 = .ok (.invokestatic 304, 3) := by decide +kernel
theorem dJ7_copyOf_6403c_35 : decode cJ7_copyOf_6403c 35 = .ok (.invokestatic 150, 3) := by decide +kernel
theorem dJ7_copyOf_6403c_38 : decode cJ7_copyOf_6403c 38 = .ok (.aload_n 3, 1) := by decide +kernel
theorem dJ7_copyOf_6403c_39 : decode cJ7_copyOf_6403c 39 = .ok (.areturn, 1) := by decide +kernel
end
section
theorem dL_below_0 : decode cL_below 0 = .ok (.iload_n 0, 1) := by decide +kernel
theorem dL_below_1 : decode cL_below 1 = .ok (.ldc 7, 2) := by decide +kernel
theorem dL_below_3 : decode cL_below 3 = .ok (.iand, 1) := by decide +kernel
theorem dL_below_4 : decode cL_below 4 = .ok (.iload_n 1, 1) := by decide +kernel
theorem dL_below_5 : decode cL_below 5 = .ok (.irem, 1) := by decide +kernel
theorem dL_below_6 : decode cL_below 6 = .ok (.ireturn, 1) := by decide +kernel
theorem dL_cell_0 : decode cL_cell 0 = .ok (.iload_n 1, 1) := by decide +kernel
theorem dL_cell_1 : decode cL_cell 1 = .ok (.aload_n 0, 1) := by decide +kernel
theorem dL_cell_2 : decode cL_cell 2 = .ok (.arraylength, 1) := by decide +kernel
theorem dL_cell_3 : decode cL_cell 3 = .ok (.if_icmp .ge 9, 3) := by decide +kernel
theorem dL_cell_6 : decode cL_cell 6 = .ok (.aload_n 0, 1) := by decide +kernel
theorem dL_cell_7 : decode cL_cell 7 = .ok (.iload_n 1, 1) := by decide +kernel
theorem dL_cell_8 : decode cL_cell 8 = .ok (.iaload, 1) := by decide +kernel
theorem dL_cell_9 : decode cL_cell 9 = .ok (.goto 9, 3) := by decide +kernel
theorem dL_cell_12 : decode cL_cell 12 = .ok (.ldc 8, 2) := by decide +kernel
theorem dL_cell_14 : decode cL_cell 14 = .ok (.iload_n 1, 1) := by decide +kernel
theorem dL_cell_15 : decode cL_cell 15 = .ok (.iconst 3, 1) := by decide +kernel
theorem dL_cell_16 : decode cL_cell 16 = .ok (.iadd, 1) := by decide +kernel
theorem dL_cell_17 : decode cL_cell 17 = .ok (.imul, 1) := by decide +kernel
theorem dL_cell_18 : decode cL_cell 18 = .ok (.ireturn, 1) := by decide +kernel
theorem dL_build_0 : decode cL_build 0 = .ok (.aload_n 3, 1) := by decide +kernel
theorem dL_build_1 : decode cL_build 1 = .ok (.iconst 0, 1) := by decide +kernel
theorem dL_build_2 : decode cL_build 2 = .ok (.iconst 1, 1) := by decide +kernel
theorem dL_build_3 : decode cL_build 3 = .ok (.aload_n 1, 1) := by decide +kernel
theorem dL_build_4 : decode cL_build 4 = .ok (.iload_n 2, 1) := by decide +kernel
theorem dL_build_5 : decode cL_build 5 = .ok (.invokestatic 9, 3) := by decide +kernel
theorem dL_build_8 : decode cL_build 8 = .ok (.iconst 3, 1) := by decide +kernel
theorem dL_build_9 : decode cL_build 9 = .ok (.invokestatic 15, 3) := by decide +kernel
theorem dL_build_12 : decode cL_build 12 = .ok (.iadd, 1) := by decide +kernel
theorem dL_build_13 : decode cL_build 13 = .ok (.iastore, 1) := by decide +kernel
theorem dL_build_14 : decode cL_build 14 = .ok (.iconst 0, 1) := by decide +kernel
theorem dL_build_15 : decode cL_build 15 = .ok (.istore 7, 2) := by decide +kernel
theorem dL_build_17 : decode cL_build 17 = .ok (.iload 7, 2) := by decide +kernel
theorem dL_build_19 : decode cL_build 19 = .ok (.aload_n 3, 1) := by decide +kernel
theorem dL_build_20 : decode cL_build 20 = .ok (.iconst 0, 1) := by decide +kernel
theorem dL_build_21 : decode cL_build 21 = .ok (.iaload, 1) := by decide +kernel
theorem dL_build_22 : decode cL_build 22 = .ok (.if_icmp .ge 342, 3) := by decide +kernel
theorem dL_build_25 : decode cL_build 25 = .ok (.aload_n 1, 1) := by decide +kernel
theorem dL_build_26 : decode cL_build 26 = .ok (.iload_n 2, 1) := by decide +kernel
theorem dL_build_27 : decode cL_build 27 = .ok (.iconst 1, 1) := by decide +kernel
theorem dL_build_28 : decode cL_build 28 = .ok (.iadd, 1) := by decide +kernel
theorem dL_build_29 : decode cL_build 29 = .ok (.iload 7, 2) := by decide +kernel
theorem dL_build_31 : decode cL_build 31 = .ok (.iadd, 1) := by decide +kernel
theorem dL_build_32 : decode cL_build 32 = .ok (.invokestatic 9, 3) := by decide +kernel
theorem dL_build_35 : decode cL_build 35 = .ok (.istore 8, 2) := by decide +kernel
theorem dL_build_37 : decode cL_build 37 = .ok (.iconst 5, 1) := by decide +kernel
theorem dL_build_38 : decode cL_build 38 = .ok (.newarray .int, 2) := by decide +kernel
theorem dL_build_40 : decode cL_build 40 = .ok (.dup, 1) := by decide +kernel
theorem dL_build_41 : decode cL_build 41 = .ok (.iconst 0, 1) := by decide +kernel
theorem dL_build_42 : decode cL_build 42 = .ok (.iconst 1, 1) := by decide +kernel
theorem dL_build_43 : decode cL_build 43 = .ok (.iastore, 1) := by decide +kernel
theorem dL_build_44 : decode cL_build 44 = .ok (.dup, 1) := by decide +kernel
theorem dL_build_45 : decode cL_build 45 = .ok (.iconst 1, 1) := by decide +kernel
theorem dL_build_46 : decode cL_build 46 = .ok (.bipush 60, 2) := by decide +kernel
theorem dL_build_48 : decode cL_build 48 = .ok (.iastore, 1) := by decide +kernel
theorem dL_build_49 : decode cL_build 49 = .ok (.dup, 1) := by decide +kernel
theorem dL_build_50 : decode cL_build 50 = .ok (.iconst 2, 1) := by decide +kernel
theorem dL_build_51 : decode cL_build 51 = .ok (.bipush 30, 2) := by decide +kernel
theorem dL_build_53 : decode cL_build 53 = .ok (.iastore, 1) := by decide +kernel
theorem dL_build_54 : decode cL_build 54 = .ok (.dup, 1) := by decide +kernel
theorem dL_build_55 : decode cL_build 55 = .ok (.iconst 3, 1) := by decide +kernel
theorem dL_build_56 : decode cL_build 56 = .ok (.bipush 10, 2) := by decide +kernel
theorem dL_build_58 : decode cL_build 58 = .ok (.iastore, 1) := by decide +kernel
theorem dL_build_59 : decode cL_build 59 = .ok (.dup, 1) := by decide +kernel
theorem dL_build_60 : decode cL_build 60 = .ok (.iconst 4, 1) := by decide +kernel
theorem dL_build_61 : decode cL_build 61 = .ok (.sipush 300, 3) := by decide +kernel
theorem dL_build_64 : decode cL_build 64 = .ok (.iastore, 1) := by decide +kernel
theorem dL_build_65 : decode cL_build 65 = .ok (.astore 9, 2) := by decide +kernel
theorem dL_build_67 : decode cL_build 67 = .ok (.aload 4, 2) := by decide +kernel
theorem dL_build_69 : decode cL_build 69 = .ok (.bipush 9, 2) := by decide +kernel
theorem dL_build_71 : decode cL_build 71 = .ok (.iload 7, 2) := by decide +kernel
theorem dL_build_73 : decode cL_build 73 = .ok (.imul, 1) := by decide +kernel
theorem dL_build_74 : decode cL_build 74 = .ok (.bipush 10, 2) := by decide +kernel
theorem dL_build_76 : decode cL_build 76 = .ok (.iload 8, 2) := by decide +kernel
theorem dL_build_78 : decode cL_build 78 = .ok (.bipush 9, 2) := by decide +kernel
theorem dL_build_80 : decode cL_build 80 = .ok (.invokestatic 15, 3) := by decide +kernel
theorem dL_build_83 : decode cL_build 83 = .ok (.imul, 1) := by decide +kernel
theorem dL_build_84 : decode cL_build 84 = .ok (.iastore, 1) := by decide +kernel
theorem dL_build_85 : decode cL_build 85 = .ok (.aload 4, 2) := by decide +kernel
theorem dL_build_87 : decode cL_build 87 = .ok (.bipush 9, 2) := by decide +kernel
theorem dL_build_89 : decode cL_build 89 = .ok (.iload 7, 2) := by decide +kernel
theorem dL_build_91 : decode cL_build 91 = .ok (.imul, 1) := by decide +kernel
theorem dL_build_92 : decode cL_build 92 = .ok (.iconst 1, 1) := by decide +kernel
theorem dL_build_93 : decode cL_build 93 = .ok (.iadd, 1) := by decide +kernel
theorem dL_build_94 : decode cL_build 94 = .ok (.iload 8, 2) := by decide +kernel
theorem dL_build_96 : decode cL_build 96 = .ok (.iconst 3, 1) := by decide +kernel
theorem dL_build_97 : decode cL_build 97 = .ok (.ishr, 1) := by decide +kernel
theorem dL_build_98 : decode cL_build 98 = .ok (.sipush 200, 3) := by decide +kernel
theorem dL_build_101 : decode cL_build 101 = .ok (.invokestatic 15, 3) := by decide +kernel
theorem dL_build_104 : decode cL_build 104 = .ok (.iastore, 1) := by decide +kernel
theorem dL_build_105 : decode cL_build 105 = .ok (.aload 4, 2) := by decide +kernel
theorem dL_build_107 : decode cL_build 107 = .ok (.bipush 9, 2) := by decide +kernel
theorem dL_build_109 : decode cL_build 109 = .ok (.iload 7, 2) := by decide +kernel
theorem dL_build_111 : decode cL_build 111 = .ok (.imul, 1) := by decide +kernel
theorem dL_build_112 : decode cL_build 112 = .ok (.iconst 2, 1) := by decide +kernel
theorem dL_build_113 : decode cL_build 113 = .ok (.iadd, 1) := by decide +kernel
theorem dL_build_114 : decode cL_build 114 = .ok (.iload 8, 2) := by decide +kernel
theorem dL_build_116 : decode cL_build 116 = .ok (.bipush 6, 2) := by decide +kernel
theorem dL_build_118 : decode cL_build 118 = .ok (.ishr, 1) := by decide +kernel
theorem dL_build_119 : decode cL_build 119 = .ok (.bipush 100, 2) := by decide +kernel
theorem dL_build_121 : decode cL_build 121 = .ok (.invokestatic 15, 3) := by decide +kernel
theorem dL_build_124 : decode cL_build 124 = .ok (.iastore, 1) := by decide +kernel
theorem dL_build_125 : decode cL_build 125 = .ok (.aload 4, 2) := by decide +kernel
theorem dL_build_127 : decode cL_build 127 = .ok (.bipush 9, 2) := by decide +kernel
theorem dL_build_129 : decode cL_build 129 = .ok (.iload 7, 2) := by decide +kernel
theorem dL_build_131 : decode cL_build 131 = .ok (.imul, 1) := by decide +kernel
theorem dL_build_132 : decode cL_build 132 = .ok (.iconst 3, 1) := by decide +kernel
theorem dL_build_133 : decode cL_build 133 = .ok (.iadd, 1) := by decide +kernel
theorem dL_build_134 : decode cL_build 134 = .ok (.aload 9, 2) := by decide +kernel
theorem dL_build_136 : decode cL_build 136 = .ok (.iload 8, 2) := by decide +kernel
theorem dL_build_138 : decode cL_build 138 = .ok (.bipush 9, 2) := by decide +kernel
theorem dL_build_140 : decode cL_build 140 = .ok (.ishr, 1) := by decide +kernel
theorem dL_build_141 : decode cL_build 141 = .ok (.iconst 5, 1) := by decide +kernel
theorem dL_build_142 : decode cL_build 142 = .ok (.invokestatic 15, 3) := by decide +kernel
theorem dL_build_145 : decode cL_build 145 = .ok (.iaload, 1) := by decide +kernel
theorem dL_build_146 : decode cL_build 146 = .ok (.iastore, 1) := by decide +kernel
theorem dL_build_147 : decode cL_build 147 = .ok (.aload 4, 2) := by decide +kernel
theorem dL_build_149 : decode cL_build 149 = .ok (.bipush 9, 2) := by decide +kernel
theorem dL_build_151 : decode cL_build 151 = .ok (.iload 7, 2) := by decide +kernel
theorem dL_build_153 : decode cL_build 153 = .ok (.imul, 1) := by decide +kernel
theorem dL_build_154 : decode cL_build 154 = .ok (.iconst 4, 1) := by decide +kernel
theorem dL_build_155 : decode cL_build 155 = .ok (.iadd, 1) := by decide +kernel
theorem dL_build_156 : decode cL_build 156 = .ok (.aload 9, 2) := by decide +kernel
theorem dL_build_158 : decode cL_build 158 = .ok (.iload 8, 2) := by decide +kernel
theorem dL_build_160 : decode cL_build 160 = .ok (.bipush 12, 2) := by decide +kernel
theorem dL_build_162 : decode cL_build 162 = .ok (.ishr, 1) := by decide +kernel
theorem dL_build_163 : decode cL_build 163 = .ok (.iconst 5, 1) := by decide +kernel
theorem dL_build_164 : decode cL_build 164 = .ok (.invokestatic 15, 3) := by decide +kernel
theorem dL_build_167 : decode cL_build 167 = .ok (.iaload, 1) := by decide +kernel
theorem dL_build_168 : decode cL_build 168 = .ok (.iastore, 1) := by decide +kernel
theorem dL_build_169 : decode cL_build 169 = .ok (.aload_n 0, 1) := by decide +kernel
theorem dL_build_170 : decode cL_build 170 = .ok (.aload 4, 2) := by decide +kernel
theorem dL_build_172 : decode cL_build 172 = .ok (.bipush 9, 2) := by decide +kernel
theorem dL_build_174 : decode cL_build 174 = .ok (.iload 7, 2) := by decide +kernel
theorem dL_build_176 : decode cL_build 176 = .ok (.imul, 1) := by decide +kernel
theorem dL_build_177 : decode cL_build 177 = .ok (.iaload, 1) := by decide +kernel
theorem dL_build_178 : decode cL_build 178 = .ok (.aload 4, 2) := by decide +kernel
theorem dL_build_180 : decode cL_build 180 = .ok (.bipush 9, 2) := by decide +kernel
theorem dL_build_182 : decode cL_build 182 = .ok (.iload 7, 2) := by decide +kernel
theorem dL_build_184 : decode cL_build 184 = .ok (.imul, 1) := by decide +kernel
theorem dL_build_185 : decode cL_build 185 = .ok (.iconst 1, 1) := by decide +kernel
theorem dL_build_186 : decode cL_build 186 = .ok (.iadd, 1) := by decide +kernel
theorem dL_build_187 : decode cL_build 187 = .ok (.iaload, 1) := by decide +kernel
theorem dL_build_188 : decode cL_build 188 = .ok (.aload 4, 2) := by decide +kernel
theorem dL_build_190 : decode cL_build 190 = .ok (.bipush 9, 2) := by decide +kernel
theorem dL_build_192 : decode cL_build 192 = .ok (.iload 7, 2) := by decide +kernel
theorem dL_build_194 : decode cL_build 194 = .ok (.imul, 1) := by decide +kernel
theorem dL_build_195 : decode cL_build 195 = .ok (.iconst 2, 1) := by decide +kernel
theorem dL_build_196 : decode cL_build 196 = .ok (.iadd, 1) := by decide +kernel
theorem dL_build_197 : decode cL_build 197 = .ok (.iaload, 1) := by decide +kernel
theorem dL_build_198 : decode cL_build 198 = .ok (.aload 4, 2) := by decide +kernel
theorem dL_build_200 : decode cL_build 200 = .ok (.bipush 9, 2) := by decide +kernel
theorem dL_build_202 : decode cL_build 202 = .ok (.iload 7, 2) := by decide +kernel
theorem dL_build_204 : decode cL_build 204 = .ok (.imul, 1) := by decide +kernel
theorem dL_build_205 : decode cL_build 205 = .ok (.iconst 3, 1) := by decide +kernel
theorem dL_build_206 : decode cL_build 206 = .ok (.iadd, 1) := by decide +kernel
theorem dL_build_207 : decode cL_build 207 = .ok (.iaload, 1) := by decide +kernel
theorem dL_build_208 : decode cL_build 208 = .ok (.aload 4, 2) := by decide +kernel
theorem dL_build_210 : decode cL_build 210 = .ok (.bipush 9, 2) := by decide +kernel
theorem dL_build_212 : decode cL_build 212 = .ok (.iload 7, 2) := by decide +kernel
theorem dL_build_214 : decode cL_build 214 = .ok (.imul, 1) := by decide +kernel
theorem dL_build_215 : decode cL_build 215 = .ok (.iconst 4, 1) := by decide +kernel
theorem dL_build_216 : decode cL_build 216 = .ok (.iadd, 1) := by decide +kernel
theorem dL_build_217 : decode cL_build 217 = .ok (.iaload, 1) := by decide +kernel
theorem dL_build_218 : decode cL_build 218 = .ok (.invokevirtual 19, 3) := by decide +kernel
theorem dL_build_221 : decode cL_build 221 = .ok (.iload 7, 2) := by decide +kernel
theorem dL_build_223 : decode cL_build 223 = .ok (.if_icmp .eq 5, 3) := by decide +kernel
theorem dL_build_226 : decode cL_build 226 = .ok (.iconst 0, 1) := by decide +kernel
theorem dL_build_227 : decode cL_build 227 = .ok (.ireturn, 1) := by decide +kernel
theorem dL_build_228 : decode cL_build 228 = .ok (.iconst 1, 1) := by decide +kernel
theorem dL_build_229 : decode cL_build 229 = .ok (.istore 10, 2) := by decide +kernel
theorem dL_build_231 : decode cL_build 231 = .ok (.iload 10, 2) := by decide +kernel
theorem dL_build_233 : decode cL_build 233 = .ok (.iconst 3, 1) := by decide +kernel
theorem dL_build_234 : decode cL_build 234 = .ok (.if_icmp .ge 124, 3) := by decide +kernel
theorem dL_build_237 : decode cL_build 237 = .ok (.aload 4, 2) := by decide +kernel
theorem dL_build_239 : decode cL_build 239 = .ok (.bipush 9, 2) := by decide +kernel
theorem dL_build_241 : decode cL_build 241 = .ok (.iload 7, 2) := by decide +kernel
theorem dL_build_243 : decode cL_build 243 = .ok (.imul, 1) := by decide +kernel
theorem dL_build_244 : decode cL_build 244 = .ok (.iconst 3, 1) := by decide +kernel
theorem dL_build_245 : decode cL_build 245 = .ok (.iadd, 1) := by decide +kernel
theorem dL_build_246 : decode cL_build 246 = .ok (.iconst 2, 1) := by decide +kernel
theorem dL_build_247 : decode cL_build 247 = .ok (.iload 10, 2) := by decide +kernel
theorem dL_build_249 : decode cL_build 249 = .ok (.imul, 1) := by decide +kernel
theorem dL_build_250 : decode cL_build 250 = .ok (.iadd, 1) := by decide +kernel
theorem dL_build_251 : decode cL_build 251 = .ok (.iload 8, 2) := by decide +kernel
theorem dL_build_253 : decode cL_build 253 = .ok (.iconst 5, 1) := by decide +kernel
theorem dL_build_254 : decode cL_build 254 = .ok (.iload 10, 2) := by decide +kernel
theorem dL_build_256 : decode cL_build 256 = .ok (.imul, 1) := by decide +kernel
theorem dL_build_257 : decode cL_build 257 = .ok (.ishr, 1) := by decide +kernel
theorem dL_build_258 : decode cL_build 258 = .ok (.sipush 700, 3) := by decide +kernel
theorem dL_build_261 : decode cL_build 261 = .ok (.invokestatic 15, 3) := by decide +kernel
theorem dL_build_264 : decode cL_build 264 = .ok (.iastore, 1) := by decide +kernel
theorem dL_build_265 : decode cL_build 265 = .ok (.aload 4, 2) := by decide +kernel
theorem dL_build_267 : decode cL_build 267 = .ok (.bipush 9, 2) := by decide +kernel
theorem dL_build_269 : decode cL_build 269 = .ok (.iload 7, 2) := by decide +kernel
theorem dL_build_271 : decode cL_build 271 = .ok (.imul, 1) := by decide +kernel
theorem dL_build_272 : decode cL_build 272 = .ok (.iconst 4, 1) := by decide +kernel
theorem dL_build_273 : decode cL_build 273 = .ok (.iadd, 1) := by decide +kernel
theorem dL_build_274 : decode cL_build 274 = .ok (.iconst 2, 1) := by decide +kernel
theorem dL_build_275 : decode cL_build 275 = .ok (.iload 10, 2) := by decide +kernel
theorem dL_build_277 : decode cL_build 277 = .ok (.imul, 1) := by decide +kernel
theorem dL_build_278 : decode cL_build 278 = .ok (.iadd, 1) := by decide +kernel
theorem dL_build_279 : decode cL_build 279 = .ok (.iload 8, 2) := by decide +kernel
theorem dL_build_281 : decode cL_build 281 = .ok (.bipush 10, 2) := by decide +kernel
theorem dL_build_283 : decode cL_build 283 = .ok (.iload 10, 2) := by decide +kernel
theorem dL_build_285 : decode cL_build 285 = .ok (.iadd, 1) := by decide +kernel
theorem dL_build_286 : decode cL_build 286 = .ok (.ishr, 1) := by decide +kernel
theorem dL_build_287 : decode cL_build 287 = .ok (.iconst 2, 1) := by decide +kernel
theorem dL_build_288 : decode cL_build 288 = .ok (.invokestatic 15, 3) := by decide +kernel
theorem dL_build_291 : decode cL_build 291 = .ok (.bipush 100, 2) := by decide +kernel
theorem dL_build_293 : decode cL_build 293 = .ok (.imul, 1) := by decide +kernel
theorem dL_build_294 : decode cL_build 294 = .ok (.iload 8, 2) := by decide +kernel
theorem dL_build_296 : decode cL_build 296 = .ok (.bipush 13, 2) := by decide +kernel
theorem dL_build_298 : decode cL_build 298 = .ok (.iload 10, 2) := by decide +kernel
theorem dL_build_300 : decode cL_build 300 = .ok (.iadd, 1) := by decide +kernel
theorem dL_build_301 : decode cL_build 301 = .ok (.ishr, 1) := by decide +kernel
theorem dL_build_302 : decode cL_build 302 = .ok (.bipush 30, 2) := by decide +kernel
theorem dL_build_304 : decode cL_build 304 = .ok (.invokestatic 15, 3) := by decide +kernel
theorem dL_build_307 : decode cL_build 307 = .ok (.imul, 1) := by decide +kernel
theorem dL_build_308 : decode cL_build 308 = .ok (.iastore, 1) := by decide +kernel
theorem dL_build_309 : decode cL_build 309 = .ok (.aload_n 0, 1) := by decide +kernel
theorem dL_build_310 : decode cL_build 310 = .ok (.iload 7, 2) := by decide +kernel
theorem dL_build_312 : decode cL_build 312 = .ok (.iload 10, 2) := by decide +kernel
theorem dL_build_314 : decode cL_build 314 = .ok (.aload 4, 2) := by decide +kernel
theorem dL_build_316 : decode cL_build 316 = .ok (.bipush 9, 2) := by decide +kernel
theorem dL_build_318 : decode cL_build 318 = .ok (.iload 7, 2) := by decide +kernel
theorem dL_build_320 : decode cL_build 320 = .ok (.imul, 1) := by decide +kernel
theorem dL_build_321 : decode cL_build 321 = .ok (.iconst 3, 1) := by decide +kernel
theorem dL_build_322 : decode cL_build 322 = .ok (.iadd, 1) := by decide +kernel
theorem dL_build_323 : decode cL_build 323 = .ok (.iconst 2, 1) := by decide +kernel
theorem dL_build_324 : decode cL_build 324 = .ok (.iload 10, 2) := by decide +kernel
theorem dL_build_326 : decode cL_build 326 = .ok (.imul, 1) := by decide +kernel
theorem dL_build_327 : decode cL_build 327 = .ok (.iadd, 1) := by decide +kernel
theorem dL_build_328 : decode cL_build 328 = .ok (.iaload, 1) := by decide +kernel
theorem dL_build_329 : decode cL_build 329 = .ok (.aload 4, 2) := by decide +kernel
theorem dL_build_331 : decode cL_build 331 = .ok (.bipush 9, 2) := by decide +kernel
theorem dL_build_333 : decode cL_build 333 = .ok (.iload 7, 2) := by decide +kernel
theorem dL_build_335 : decode cL_build 335 = .ok (.imul, 1) := by decide +kernel
theorem dL_build_336 : decode cL_build 336 = .ok (.iconst 4, 1) := by decide +kernel
theorem dL_build_337 : decode cL_build 337 = .ok (.iadd, 1) := by decide +kernel
theorem dL_build_338 : decode cL_build 338 = .ok (.iconst 2, 1) := by decide +kernel
theorem dL_build_339 : decode cL_build 339 = .ok (.iload 10, 2) := by decide +kernel
theorem dL_build_341 : decode cL_build 341 = .ok (.imul, 1) := by decide +kernel
theorem dL_build_342 : decode cL_build 342 = .ok (.iadd, 1) := by decide +kernel
theorem dL_build_343 : decode cL_build 343 = .ok (.iaload, 1) := by decide +kernel
theorem dL_build_344 : decode cL_build 344 = .ok (.invokevirtual 25, 3) := by decide +kernel
theorem dL_build_347 : decode cL_build 347 = .ok (.ifCond .eq 5, 3) := by decide +kernel
theorem dL_build_350 : decode cL_build 350 = .ok (.iconst 0, 1) := by decide +kernel
theorem dL_build_351 : decode cL_build 351 = .ok (.ireturn, 1) := by decide +kernel
theorem dL_build_352 : decode cL_build 352 = .ok (.iinc 10 1, 3) := by decide +kernel
theorem dL_build_355 : decode cL_build 355 = .ok (.goto (-124), 3) := by decide +kernel
theorem dL_build_358 : decode cL_build 358 = .ok (.iinc 7 1, 3) := by decide +kernel
theorem dL_build_361 : decode cL_build 361 = .ok (.goto (-344), 3) := by decide +kernel
theorem dL_build_364 : decode cL_build 364 = .ok (.aload_n 3, 1) := by decide +kernel
theorem dL_build_365 : decode cL_build 365 = .ok (.iconst 1, 1) := by decide +kernel
theorem dL_build_366 : decode cL_build 366 = .ok (.iconst 1, 1) := by decide +kernel
theorem dL_build_367 : decode cL_build 367 = .ok (.aload_n 1, 1) := by decide +kernel
theorem dL_build_368 : decode cL_build 368 = .ok (.iload_n 2, 1) := by decide +kernel
theorem dL_build_369 : decode cL_build 369 = .ok (.invokestatic 9, 3) := by decide +kernel
theorem dL_build_372 : decode cL_build 372 = .ok (.iconst 3, 1) := by decide +kernel
theorem dL_build_373 : decode cL_build 373 = .ok (.ishr, 1) := by decide +kernel
theorem dL_build_374 : decode cL_build 374 = .ok (.iconst 2, 1) := by decide +kernel
theorem dL_build_375 : decode cL_build 375 = .ok (.invokestatic 15, 3) := by decide +kernel
theorem dL_build_378 : decode cL_build 378 = .ok (.iadd, 1) := by decide +kernel
theorem dL_build_379 : decode cL_build 379 = .ok (.iastore, 1) := by decide +kernel
theorem dL_build_380 : decode cL_build 380 = .ok (.iconst 0, 1) := by decide +kernel
theorem dL_build_381 : decode cL_build 381 = .ok (.istore 7, 2) := by decide +kernel
theorem dL_build_383 : decode cL_build 383 = .ok (.iload 7, 2) := by decide +kernel
theorem dL_build_385 : decode cL_build 385 = .ok (.aload_n 3, 1) := by decide +kernel
theorem dL_build_386 : decode cL_build 386 = .ok (.iconst 1, 1) := by decide +kernel
theorem dL_build_387 : decode cL_build 387 = .ok (.iaload, 1) := by decide +kernel
theorem dL_build_388 : decode cL_build 388 = .ok (.if_icmp .ge 142, 3) := by decide +kernel
theorem dL_build_391 : decode cL_build 391 = .ok (.aload_n 1, 1) := by decide +kernel
theorem dL_build_392 : decode cL_build 392 = .ok (.iload_n 2, 1) := by decide +kernel
theorem dL_build_393 : decode cL_build 393 = .ok (.iconst 4, 1) := by decide +kernel
theorem dL_build_394 : decode cL_build 394 = .ok (.iadd, 1) := by decide +kernel
theorem dL_build_395 : decode cL_build 395 = .ok (.iload 7, 2) := by decide +kernel
theorem dL_build_397 : decode cL_build 397 = .ok (.iadd, 1) := by decide +kernel
theorem dL_build_398 : decode cL_build 398 = .ok (.invokestatic 9, 3) := by decide +kernel
theorem dL_build_401 : decode cL_build 401 = .ok (.istore 8, 2) := by decide +kernel
theorem dL_build_403 : decode cL_build 403 = .ok (.aload 5, 2) := by decide +kernel
theorem dL_build_405 : decode cL_build 405 = .ok (.iconst 3, 1) := by decide +kernel
theorem dL_build_406 : decode cL_build 406 = .ok (.iload 7, 2) := by decide +kernel
theorem dL_build_408 : decode cL_build 408 = .ok (.imul, 1) := by decide +kernel
theorem dL_build_409 : decode cL_build 409 = .ok (.iload 8, 2) := by decide +kernel
theorem dL_build_411 : decode cL_build 411 = .ok (.iconst 3, 1) := by decide +kernel
theorem dL_build_412 : decode cL_build 412 = .ok (.invokestatic 15, 3) := by decide +kernel
theorem dL_build_415 : decode cL_build 415 = .ok (.ifCond .ne 7, 3) := by decide +kernel
theorem dL_build_418 : decode cL_build 418 = .ok (.iconst 0, 1) := by decide +kernel
theorem dL_build_419 : decode cL_build 419 = .ok (.goto 13, 3) := by decide +kernel
theorem dL_build_422 : decode cL_build 422 = .ok (.iload 8, 2) := by decide +kernel
theorem dL_build_424 : decode cL_build 424 = .ok (.iconst 2, 1) := by decide +kernel
theorem dL_build_425 : decode cL_build 425 = .ok (.ishr, 1) := by decide +kernel
theorem dL_build_426 : decode cL_build 426 = .ok (.sipush 2500, 3) := by decide +kernel
theorem dL_build_429 : decode cL_build 429 = .ok (.invokestatic 15, 3) := by decide +kernel
theorem dL_build_432 : decode cL_build 432 = .ok (.iastore, 1) := by decide +kernel
theorem dL_build_433 : decode cL_build 433 = .ok (.aload 5, 2) := by decide +kernel
theorem dL_build_435 : decode cL_build 435 = .ok (.iconst 3, 1) := by decide +kernel
theorem dL_build_436 : decode cL_build 436 = .ok (.iload 7, 2) := by decide +kernel
theorem dL_build_438 : decode cL_build 438 = .ok (.imul, 1) := by decide +kernel
theorem dL_build_439 : decode cL_build 439 = .ok (.iconst 1, 1) := by decide +kernel
theorem dL_build_440 : decode cL_build 440 = .ok (.iadd, 1) := by decide +kernel
theorem dL_build_441 : decode cL_build 441 = .ok (.iload 8, 2) := by decide +kernel
theorem dL_build_443 : decode cL_build 443 = .ok (.iconst 5, 1) := by decide +kernel
theorem dL_build_444 : decode cL_build 444 = .ok (.ishr, 1) := by decide +kernel
theorem dL_build_445 : decode cL_build 445 = .ok (.sipush 3000, 3) := by decide +kernel
theorem dL_build_448 : decode cL_build 448 = .ok (.invokestatic 15, 3) := by decide +kernel
theorem dL_build_451 : decode cL_build 451 = .ok (.iastore, 1) := by decide +kernel
theorem dL_build_452 : decode cL_build 452 = .ok (.aload 5, 2) := by decide +kernel
theorem dL_build_454 : decode cL_build 454 = .ok (.iconst 3, 1) := by decide +kernel
theorem dL_build_455 : decode cL_build 455 = .ok (.iload 7, 2) := by decide +kernel
theorem dL_build_457 : decode cL_build 457 = .ok (.imul, 1) := by decide +kernel
theorem dL_build_458 : decode cL_build 458 = .ok (.iconst 2, 1) := by decide +kernel
theorem dL_build_459 : decode cL_build 459 = .ok (.iadd, 1) := by decide +kernel
theorem dL_build_460 : decode cL_build 460 = .ok (.iload 8, 2) := by decide +kernel
theorem dL_build_462 : decode cL_build 462 = .ok (.bipush 8, 2) := by decide +kernel
theorem dL_build_464 : decode cL_build 464 = .ok (.ishr, 1) := by decide +kernel
theorem dL_build_465 : decode cL_build 465 = .ok (.iconst 3, 1) := by decide +kernel
theorem dL_build_466 : decode cL_build 466 = .ok (.invokestatic 15, 3) := by decide +kernel
theorem dL_build_469 : decode cL_build 469 = .ok (.ifCond .ne 16, 3) := by decide +kernel
theorem dL_build_472 : decode cL_build 472 = .ok (.iload 8, 2) := by decide +kernel
theorem dL_build_474 : decode cL_build 474 = .ok (.bipush 10, 2) := by decide +kernel
theorem dL_build_476 : decode cL_build 476 = .ok (.ishr, 1) := by decide +kernel
theorem dL_build_477 : decode cL_build 477 = .ok (.bipush 101, 2) := by decide +kernel
theorem dL_build_479 : decode cL_build 479 = .ok (.invokestatic 15, 3) := by decide +kernel
theorem dL_build_482 : decode cL_build 482 = .ok (.goto 5, 3) := by decide +kernel
theorem dL_build_485 : decode cL_build 485 = .ok (.bipush 10, 2) := by decide +kernel
theorem dL_build_487 : decode cL_build 487 = .ok (.iastore, 1) := by decide +kernel
theorem dL_build_488 : decode cL_build 488 = .ok (.aload_n 0, 1) := by decide +kernel
theorem dL_build_489 : decode cL_build 489 = .ok (.aload 5, 2) := by decide +kernel
theorem dL_build_491 : decode cL_build 491 = .ok (.iconst 3, 1) := by decide +kernel
theorem dL_build_492 : decode cL_build 492 = .ok (.iload 7, 2) := by decide +kernel
theorem dL_build_494 : decode cL_build 494 = .ok (.imul, 1) := by decide +kernel
theorem dL_build_495 : decode cL_build 495 = .ok (.iaload, 1) := by decide +kernel
theorem dL_build_496 : decode cL_build 496 = .ok (.aload 5, 2) := by decide +kernel
theorem dL_build_498 : decode cL_build 498 = .ok (.iconst 3, 1) := by decide +kernel
theorem dL_build_499 : decode cL_build 499 = .ok (.iload 7, 2) := by decide +kernel
theorem dL_build_501 : decode cL_build 501 = .ok (.imul, 1) := by decide +kernel
theorem dL_build_502 : decode cL_build 502 = .ok (.iconst 1, 1) := by decide +kernel
theorem dL_build_503 : decode cL_build 503 = .ok (.iadd, 1) := by decide +kernel
theorem dL_build_504 : decode cL_build 504 = .ok (.iaload, 1) := by decide +kernel
theorem dL_build_505 : decode cL_build 505 = .ok (.aload 5, 2) := by decide +kernel
theorem dL_build_507 : decode cL_build 507 = .ok (.iconst 3, 1) := by decide +kernel
theorem dL_build_508 : decode cL_build 508 = .ok (.iload 7, 2) := by decide +kernel
theorem dL_build_510 : decode cL_build 510 = .ok (.imul, 1) := by decide +kernel
theorem dL_build_511 : decode cL_build 511 = .ok (.iconst 2, 1) := by decide +kernel
theorem dL_build_512 : decode cL_build 512 = .ok (.iadd, 1) := by decide +kernel
theorem dL_build_513 : decode cL_build 513 = .ok (.iaload, 1) := by decide +kernel
theorem dL_build_514 : decode cL_build 514 = .ok (.invokevirtual 29, 3) := by decide +kernel
theorem dL_build_517 : decode cL_build 517 = .ok (.iload 7, 2) := by decide +kernel
theorem dL_build_519 : decode cL_build 519 = .ok (.if_icmp .eq 5, 3) := by decide +kernel
theorem dL_build_522 : decode cL_build 522 = .ok (.iconst 0, 1) := by decide +kernel
theorem dL_build_523 : decode cL_build 523 = .ok (.ireturn, 1) := by decide +kernel
theorem dL_build_524 : decode cL_build 524 = .ok (.iinc 7 1, 3) := by decide +kernel
theorem dL_build_527 : decode cL_build 527 = .ok (.goto (-144), 3) := by decide +kernel
theorem dL_build_530 : decode cL_build 530 = .ok (.aload_n 3, 1) := by decide +kernel
theorem dL_build_531 : decode cL_build 531 = .ok (.iconst 2, 1) := by decide +kernel
theorem dL_build_532 : decode cL_build 532 = .ok (.iconst 1, 1) := by decide +kernel
theorem dL_build_533 : decode cL_build 533 = .ok (.aload_n 1, 1) := by decide +kernel
theorem dL_build_534 : decode cL_build 534 = .ok (.iload_n 2, 1) := by decide +kernel
theorem dL_build_535 : decode cL_build 535 = .ok (.invokestatic 9, 3) := by decide +kernel
theorem dL_build_538 : decode cL_build 538 = .ok (.bipush 6, 2) := by decide +kernel
theorem dL_build_540 : decode cL_build 540 = .ok (.ishr, 1) := by decide +kernel
theorem dL_build_541 : decode cL_build 541 = .ok (.iconst 4, 1) := by decide +kernel
theorem dL_build_542 : decode cL_build 542 = .ok (.invokestatic 15, 3) := by decide +kernel
theorem dL_build_545 : decode cL_build 545 = .ok (.iadd, 1) := by decide +kernel
theorem dL_build_546 : decode cL_build 546 = .ok (.iastore, 1) := by decide +kernel
theorem dL_build_547 : decode cL_build 547 = .ok (.iconst 0, 1) := by decide +kernel
theorem dL_build_548 : decode cL_build 548 = .ok (.istore 7, 2) := by decide +kernel
theorem dL_build_550 : decode cL_build 550 = .ok (.iload 7, 2) := by decide +kernel
theorem dL_build_552 : decode cL_build 552 = .ok (.aload_n 3, 1) := by decide +kernel
theorem dL_build_553 : decode cL_build 553 = .ok (.iconst 2, 1) := by decide +kernel
theorem dL_build_554 : decode cL_build 554 = .ok (.iaload, 1) := by decide +kernel
theorem dL_build_555 : decode cL_build 555 = .ok (.if_icmp .ge 88, 3) := by decide +kernel
theorem dL_build_558 : decode cL_build 558 = .ok (.aload 6, 2) := by decide +kernel
theorem dL_build_560 : decode cL_build 560 = .ok (.iconst 2, 1) := by decide +kernel
theorem dL_build_561 : decode cL_build 561 = .ok (.iload 7, 2) := by decide +kernel
theorem dL_build_563 : decode cL_build 563 = .ok (.imul, 1) := by decide +kernel
theorem dL_build_564 : decode cL_build 564 = .ok (.aload_n 1, 1) := by decide +kernel
theorem dL_build_565 : decode cL_build 565 = .ok (.iload_n 2, 1) := by decide +kernel
theorem dL_build_566 : decode cL_build 566 = .ok (.invokestatic 9, 3) := by decide +kernel
theorem dL_build_569 : decode cL_build 569 = .ok (.bipush 8, 2) := by decide +kernel
theorem dL_build_571 : decode cL_build 571 = .ok (.iload 7, 2) := by decide +kernel
theorem dL_build_573 : decode cL_build 573 = .ok (.iadd, 1) := by decide +kernel
theorem dL_build_574 : decode cL_build 574 = .ok (.ishr, 1) := by decide +kernel
theorem dL_build_575 : decode cL_build 575 = .ok (.aload_n 3, 1) := by decide +kernel
theorem dL_build_576 : decode cL_build 576 = .ok (.iconst 1, 1) := by decide +kernel
theorem dL_build_577 : decode cL_build 577 = .ok (.iaload, 1) := by decide +kernel
theorem dL_build_578 : decode cL_build 578 = .ok (.invokestatic 15, 3) := by decide +kernel
theorem dL_build_581 : decode cL_build 581 = .ok (.iastore, 1) := by decide +kernel
theorem dL_build_582 : decode cL_build 582 = .ok (.aload 6, 2) := by decide +kernel
theorem dL_build_584 : decode cL_build 584 = .ok (.iconst 2, 1) := by decide +kernel
theorem dL_build_585 : decode cL_build 585 = .ok (.iload 7, 2) := by decide +kernel
theorem dL_build_587 : decode cL_build 587 = .ok (.imul, 1) := by decide +kernel
theorem dL_build_588 : decode cL_build 588 = .ok (.iconst 1, 1) := by decide +kernel
theorem dL_build_589 : decode cL_build 589 = .ok (.iadd, 1) := by decide +kernel
theorem dL_build_590 : decode cL_build 590 = .ok (.aload_n 1, 1) := by decide +kernel
theorem dL_build_591 : decode cL_build 591 = .ok (.iload_n 2, 1) := by decide +kernel
theorem dL_build_592 : decode cL_build 592 = .ok (.invokestatic 9, 3) := by decide +kernel
theorem dL_build_595 : decode cL_build 595 = .ok (.bipush 12, 2) := by decide +kernel
theorem dL_build_597 : decode cL_build 597 = .ok (.iconst 2, 1) := by decide +kernel
theorem dL_build_598 : decode cL_build 598 = .ok (.iload 7, 2) := by decide +kernel
theorem dL_build_600 : decode cL_build 600 = .ok (.imul, 1) := by decide +kernel
theorem dL_build_601 : decode cL_build 601 = .ok (.iadd, 1) := by decide +kernel
theorem dL_build_602 : decode cL_build 602 = .ok (.ishr, 1) := by decide +kernel
theorem dL_build_603 : decode cL_build 603 = .ok (.aload_n 3, 1) := by decide +kernel
theorem dL_build_604 : decode cL_build 604 = .ok (.iconst 0, 1) := by decide +kernel
theorem dL_build_605 : decode cL_build 605 = .ok (.iaload, 1) := by decide +kernel
theorem dL_build_606 : decode cL_build 606 = .ok (.invokestatic 15, 3) := by decide +kernel
theorem dL_build_609 : decode cL_build 609 = .ok (.iastore, 1) := by decide +kernel
theorem dL_build_610 : decode cL_build 610 = .ok (.aload_n 0, 1) := by decide +kernel
theorem dL_build_611 : decode cL_build 611 = .ok (.aload 6, 2) := by decide +kernel
theorem dL_build_613 : decode cL_build 613 = .ok (.iconst 2, 1) := by decide +kernel
theorem dL_build_614 : decode cL_build 614 = .ok (.iload 7, 2) := by decide +kernel
theorem dL_build_616 : decode cL_build 616 = .ok (.imul, 1) := by decide +kernel
theorem dL_build_617 : decode cL_build 617 = .ok (.iaload, 1) := by decide +kernel
theorem dL_build_618 : decode cL_build 618 = .ok (.aload 6, 2) := by decide +kernel
theorem dL_build_620 : decode cL_build 620 = .ok (.iconst 2, 1) := by decide +kernel
theorem dL_build_621 : decode cL_build 621 = .ok (.iload 7, 2) := by decide +kernel
theorem dL_build_623 : decode cL_build 623 = .ok (.imul, 1) := by decide +kernel
theorem dL_build_624 : decode cL_build 624 = .ok (.iconst 1, 1) := by decide +kernel
theorem dL_build_625 : decode cL_build 625 = .ok (.iadd, 1) := by decide +kernel
theorem dL_build_626 : decode cL_build 626 = .ok (.iaload, 1) := by decide +kernel
theorem dL_build_627 : decode cL_build 627 = .ok (.invokevirtual 33, 3) := by decide +kernel
theorem dL_build_630 : decode cL_build 630 = .ok (.iload 7, 2) := by decide +kernel
theorem dL_build_632 : decode cL_build 632 = .ok (.if_icmp .eq 5, 3) := by decide +kernel
theorem dL_build_635 : decode cL_build 635 = .ok (.iconst 0, 1) := by decide +kernel
theorem dL_build_636 : decode cL_build 636 = .ok (.ireturn, 1) := by decide +kernel
theorem dL_build_637 : decode cL_build 637 = .ok (.iinc 7 1, 3) := by decide +kernel
theorem dL_build_640 : decode cL_build 640 = .ok (.goto (-90), 3) := by decide +kernel
theorem dL_build_643 : decode cL_build 643 = .ok (.iconst 1, 1) := by decide +kernel
theorem dL_build_644 : decode cL_build 644 = .ok (.ireturn, 1) := by decide +kernel
theorem dL_call_0 : decode cL_call 0 = .ok (.aload_n 1, 1) := by decide +kernel
theorem dL_call_1 : decode cL_call 1 = .ok (.iload_n 2, 1) := by decide +kernel
theorem dL_call_2 : decode cL_call 2 = .ok (.invokestatic 9, 3) := by decide +kernel
theorem dL_call_5 : decode cL_call 5 = .ok (.iload_n 3, 1) := by decide +kernel
theorem dL_call_6 : decode cL_call 6 = .ok (.iconst 1, 1) := by decide +kernel
theorem dL_call_7 : decode cL_call 7 = .ok (.iadd, 1) := by decide +kernel
theorem dL_call_8 : decode cL_call 8 = .ok (.invokestatic 15, 3) := by decide +kernel
theorem dL_call_11 : decode cL_call 11 = .ok (.istore 6, 2) := by decide +kernel
theorem dL_call_13 : decode cL_call 13 = .ok (.iconst 0, 1) := by decide +kernel
theorem dL_call_14 : decode cL_call 14 = .ok (.istore 7, 2) := by decide +kernel
theorem dL_call_16 : decode cL_call 16 = .ok (.iload 7, 2) := by decide +kernel
theorem dL_call_18 : decode cL_call 18 = .ok (.iload 6, 2) := by decide +kernel
theorem dL_call_20 : decode cL_call 20 = .ok (.if_icmp .ge 242, 3) := by decide +kernel
theorem dL_call_23 : decode cL_call 23 = .ok (.aload_n 1, 1) := by decide +kernel
theorem dL_call_24 : decode cL_call 24 = .ok (.iload_n 2, 1) := by decide +kernel
theorem dL_call_25 : decode cL_call 25 = .ok (.iconst 1, 1) := by decide +kernel
theorem dL_call_26 : decode cL_call 26 = .ok (.iadd, 1) := by decide +kernel
theorem dL_call_27 : decode cL_call 27 = .ok (.iload 7, 2) := by decide +kernel
theorem dL_call_29 : decode cL_call 29 = .ok (.bipush 7, 2) := by decide +kernel
theorem dL_call_31 : decode cL_call 31 = .ok (.irem, 1) := by decide +kernel
theorem dL_call_32 : decode cL_call 32 = .ok (.iadd, 1) := by decide +kernel
theorem dL_call_33 : decode cL_call 33 = .ok (.invokestatic 9, 3) := by decide +kernel
theorem dL_call_36 : decode cL_call 36 = .ok (.iload 7, 2) := by decide +kernel
theorem dL_call_38 : decode cL_call 38 = .ok (.bipush 7, 2) := by decide +kernel
theorem dL_call_40 : decode cL_call 40 = .ok (.idiv, 1) := by decide +kernel
theorem dL_call_41 : decode cL_call 41 = .ok (.iconst 5, 1) := by decide +kernel
theorem dL_call_42 : decode cL_call 42 = .ok (.imul, 1) := by decide +kernel
theorem dL_call_43 : decode cL_call 43 = .ok (.ishr, 1) := by decide +kernel
theorem dL_call_44 : decode cL_call 44 = .ok (.iload 7, 2) := by decide +kernel
theorem dL_call_46 : decode cL_call 46 = .ok (.sipush 1009, 3) := by decide +kernel
theorem dL_call_49 : decode cL_call 49 = .ok (.imul, 1) := by decide +kernel
theorem dL_call_50 : decode cL_call 50 = .ok (.ixor, 1) := by decide +kernel
theorem dL_call_51 : decode cL_call 51 = .ok (.istore 8, 2) := by decide +kernel
theorem dL_call_53 : decode cL_call 53 = .ok (.aload 5, 2) := by decide +kernel
theorem dL_call_55 : decode cL_call 55 = .ok (.iconst 4, 1) := by decide +kernel
theorem dL_call_56 : decode cL_call 56 = .ok (.iload 7, 2) := by decide +kernel
theorem dL_call_58 : decode cL_call 58 = .ok (.imul, 1) := by decide +kernel
theorem dL_call_59 : decode cL_call 59 = .ok (.iload 8, 2) := by decide +kernel
theorem dL_call_61 : decode cL_call 61 = .ok (.iload 4, 2) := by decide +kernel
theorem dL_call_63 : decode cL_call 63 = .ok (.invokestatic 15, 3) := by decide +kernel
theorem dL_call_66 : decode cL_call 66 = .ok (.iastore, 1) := by decide +kernel
theorem dL_call_67 : decode cL_call 67 = .ok (.aload 5, 2) := by decide +kernel
theorem dL_call_69 : decode cL_call 69 = .ok (.iconst 4, 1) := by decide +kernel
theorem dL_call_70 : decode cL_call 70 = .ok (.iload 7, 2) := by decide +kernel
theorem dL_call_72 : decode cL_call 72 = .ok (.imul, 1) := by decide +kernel
theorem dL_call_73 : decode cL_call 73 = .ok (.iconst 1, 1) := by decide +kernel
theorem dL_call_74 : decode cL_call 74 = .ok (.iadd, 1) := by decide +kernel
theorem dL_call_75 : decode cL_call 75 = .ok (.iload 8, 2) := by decide +kernel
theorem dL_call_77 : decode cL_call 77 = .ok (.iconst 2, 1) := by decide +kernel
theorem dL_call_78 : decode cL_call 78 = .ok (.ishr, 1) := by decide +kernel
theorem dL_call_79 : decode cL_call 79 = .ok (.iconst 3, 1) := by decide +kernel
theorem dL_call_80 : decode cL_call 80 = .ok (.invokestatic 15, 3) := by decide +kernel
theorem dL_call_83 : decode cL_call 83 = .ok (.ifCond .le 35, 3) := by decide +kernel
theorem dL_call_86 : decode cL_call 86 = .ok (.sipush 1440, 3) := by decide +kernel
theorem dL_call_89 : decode cL_call 89 = .ok (.iload 8, 2) := by decide +kernel
theorem dL_call_91 : decode cL_call 91 = .ok (.iconst 3, 1) := by decide +kernel
theorem dL_call_92 : decode cL_call 92 = .ok (.ishr, 1) := by decide +kernel
theorem dL_call_93 : decode cL_call 93 = .ok (.iconst 3, 1) := by decide +kernel
theorem dL_call_94 : decode cL_call 94 = .ok (.invokestatic 15, 3) := by decide +kernel
theorem dL_call_97 : decode cL_call 97 = .ok (.imul, 1) := by decide +kernel
theorem dL_call_98 : decode cL_call 98 = .ok (.sipush 400, 3) := by decide +kernel
theorem dL_call_101 : decode cL_call 101 = .ok (.iadd, 1) := by decide +kernel
theorem dL_call_102 : decode cL_call 102 = .ok (.bipush 30, 2) := by decide +kernel
theorem dL_call_104 : decode cL_call 104 = .ok (.iload 8, 2) := by decide +kernel
theorem dL_call_106 : decode cL_call 106 = .ok (.iconst 5, 1) := by decide +kernel
theorem dL_call_107 : decode cL_call 107 = .ok (.ishr, 1) := by decide +kernel
theorem dL_call_108 : decode cL_call 108 = .ok (.bipush 30, 2) := by decide +kernel
theorem dL_call_110 : decode cL_call 110 = .ok (.invokestatic 15, 3) := by decide +kernel
theorem dL_call_113 : decode cL_call 113 = .ok (.imul, 1) := by decide +kernel
theorem dL_call_114 : decode cL_call 114 = .ok (.iadd, 1) := by decide +kernel
theorem dL_call_115 : decode cL_call 115 = .ok (.goto 12, 3) := by decide +kernel
theorem dL_call_118 : decode cL_call 118 = .ok (.iload 8, 2) := by decide +kernel
theorem dL_call_120 : decode cL_call 120 = .ok (.iconst 3, 1) := by decide +kernel
theorem dL_call_121 : decode cL_call 121 = .ok (.ishr, 1) := by decide +kernel
theorem dL_call_122 : decode cL_call 122 = .ok (.ldc 36, 2) := by decide +kernel
theorem dL_call_124 : decode cL_call 124 = .ok (.invokestatic 15, 3) := by decide +kernel
theorem dL_call_127 : decode cL_call 127 = .ok (.iastore, 1) := by decide +kernel
theorem dL_call_128 : decode cL_call 128 = .ok (.aload 5, 2) := by decide +kernel
theorem dL_call_130 : decode cL_call 130 = .ok (.iconst 4, 1) := by decide +kernel
theorem dL_call_131 : decode cL_call 131 = .ok (.iload 7, 2) := by decide +kernel
theorem dL_call_133 : decode cL_call 133 = .ok (.imul, 1) := by decide +kernel
theorem dL_call_134 : decode cL_call 134 = .ok (.iconst 2, 1) := by decide +kernel
theorem dL_call_135 : decode cL_call 135 = .ok (.iadd, 1) := by decide +kernel
theorem dL_call_136 : decode cL_call 136 = .ok (.iconst 1, 1) := by decide +kernel
theorem dL_call_137 : decode cL_call 137 = .ok (.iload 8, 2) := by decide +kernel
theorem dL_call_139 : decode cL_call 139 = .ok (.iconst 4, 1) := by decide +kernel
theorem dL_call_140 : decode cL_call 140 = .ok (.ishr, 1) := by decide +kernel
theorem dL_call_141 : decode cL_call 141 = .ok (.iconst 2, 1) := by decide +kernel
theorem dL_call_142 : decode cL_call 142 = .ok (.invokestatic 15, 3) := by decide +kernel
theorem dL_call_145 : decode cL_call 145 = .ok (.ifCond .ne 17, 3) := by decide +kernel
theorem dL_call_148 : decode cL_call 148 = .ok (.iload 8, 2) := by decide +kernel
theorem dL_call_150 : decode cL_call 150 = .ok (.bipush 6, 2) := by decide +kernel
theorem dL_call_152 : decode cL_call 152 = .ok (.ishr, 1) := by decide +kernel
theorem dL_call_153 : decode cL_call 153 = .ok (.sipush 200, 3) := by decide +kernel
theorem dL_call_156 : decode cL_call 156 = .ok (.invokestatic 15, 3) := by decide +kernel
theorem dL_call_159 : decode cL_call 159 = .ok (.goto 14, 3) := by decide +kernel
theorem dL_call_162 : decode cL_call 162 = .ok (.iload 8, 2) := by decide +kernel
theorem dL_call_164 : decode cL_call 164 = .ok (.bipush 6, 2) := by decide +kernel
theorem dL_call_166 : decode cL_call 166 = .ok (.ishr, 1) := by decide +kernel
theorem dL_call_167 : decode cL_call 167 = .ok (.sipush 1900, 3) := by decide +kernel
theorem dL_call_170 : decode cL_call 170 = .ok (.invokestatic 15, 3) := by decide +kernel
theorem dL_call_173 : decode cL_call 173 = .ok (.iadd, 1) := by decide +kernel
theorem dL_call_174 : decode cL_call 174 = .ok (.iastore, 1) := by decide +kernel
theorem dL_call_175 : decode cL_call 175 = .ok (.aload 5, 2) := by decide +kernel
theorem dL_call_177 : decode cL_call 177 = .ok (.iconst 4, 1) := by decide +kernel
theorem dL_call_178 : decode cL_call 178 = .ok (.iload 7, 2) := by decide +kernel
theorem dL_call_180 : decode cL_call 180 = .ok (.imul, 1) := by decide +kernel
theorem dL_call_181 : decode cL_call 181 = .ok (.iconst 3, 1) := by decide +kernel
theorem dL_call_182 : decode cL_call 182 = .ok (.iadd, 1) := by decide +kernel
theorem dL_call_183 : decode cL_call 183 = .ok (.iload 8, 2) := by decide +kernel
theorem dL_call_185 : decode cL_call 185 = .ok (.bipush 8, 2) := by decide +kernel
theorem dL_call_187 : decode cL_call 187 = .ok (.ishr, 1) := by decide +kernel
theorem dL_call_188 : decode cL_call 188 = .ok (.iconst 2, 1) := by decide +kernel
theorem dL_call_189 : decode cL_call 189 = .ok (.invokestatic 15, 3) := by decide +kernel
theorem dL_call_192 : decode cL_call 192 = .ok (.ifCond .ne 7, 3) := by decide +kernel
theorem dL_call_195 : decode cL_call 195 = .ok (.iconst 0, 1) := by decide +kernel
theorem dL_call_196 : decode cL_call 196 = .ok (.goto 14, 3) := by decide +kernel
theorem dL_call_199 : decode cL_call 199 = .ok (.iconst 1, 1) := by decide +kernel
theorem dL_call_200 : decode cL_call 200 = .ok (.iload 8, 2) := by decide +kernel
theorem dL_call_202 : decode cL_call 202 = .ok (.bipush 9, 2) := by decide +kernel
theorem dL_call_204 : decode cL_call 204 = .ok (.ishr, 1) := by decide +kernel
theorem dL_call_205 : decode cL_call 205 = .ok (.iconst 2, 1) := by decide +kernel
theorem dL_call_206 : decode cL_call 206 = .ok (.invokestatic 15, 3) := by decide +kernel
theorem dL_call_209 : decode cL_call 209 = .ok (.iadd, 1) := by decide +kernel
theorem dL_call_210 : decode cL_call 210 = .ok (.iastore, 1) := by decide +kernel
theorem dL_call_211 : decode cL_call 211 = .ok (.aload_n 0, 1) := by decide +kernel
theorem dL_call_212 : decode cL_call 212 = .ok (.aload 5, 2) := by decide +kernel
theorem dL_call_214 : decode cL_call 214 = .ok (.iconst 4, 1) := by decide +kernel
theorem dL_call_215 : decode cL_call 215 = .ok (.iload 7, 2) := by decide +kernel
theorem dL_call_217 : decode cL_call 217 = .ok (.imul, 1) := by decide +kernel
theorem dL_call_218 : decode cL_call 218 = .ok (.iaload, 1) := by decide +kernel
theorem dL_call_219 : decode cL_call 219 = .ok (.aload 5, 2) := by decide +kernel
theorem dL_call_221 : decode cL_call 221 = .ok (.iconst 4, 1) := by decide +kernel
theorem dL_call_222 : decode cL_call 222 = .ok (.iload 7, 2) := by decide +kernel
theorem dL_call_224 : decode cL_call 224 = .ok (.imul, 1) := by decide +kernel
theorem dL_call_225 : decode cL_call 225 = .ok (.iconst 1, 1) := by decide +kernel
theorem dL_call_226 : decode cL_call 226 = .ok (.iadd, 1) := by decide +kernel
theorem dL_call_227 : decode cL_call 227 = .ok (.iaload, 1) := by decide +kernel
theorem dL_call_228 : decode cL_call 228 = .ok (.aload 5, 2) := by decide +kernel
theorem dL_call_230 : decode cL_call 230 = .ok (.iconst 4, 1) := by decide +kernel
theorem dL_call_231 : decode cL_call 231 = .ok (.iload 7, 2) := by decide +kernel
theorem dL_call_233 : decode cL_call 233 = .ok (.imul, 1) := by decide +kernel
theorem dL_call_234 : decode cL_call 234 = .ok (.iconst 2, 1) := by decide +kernel
theorem dL_call_235 : decode cL_call 235 = .ok (.iadd, 1) := by decide +kernel
theorem dL_call_236 : decode cL_call 236 = .ok (.iaload, 1) := by decide +kernel
theorem dL_call_237 : decode cL_call 237 = .ok (.aload 5, 2) := by decide +kernel
theorem dL_call_239 : decode cL_call 239 = .ok (.iconst 4, 1) := by decide +kernel
theorem dL_call_240 : decode cL_call 240 = .ok (.iload 7, 2) := by decide +kernel
theorem dL_call_242 : decode cL_call 242 = .ok (.imul, 1) := by decide +kernel
theorem dL_call_243 : decode cL_call 243 = .ok (.iconst 3, 1) := by decide +kernel
theorem dL_call_244 : decode cL_call 244 = .ok (.iadd, 1) := by decide +kernel
theorem dL_call_245 : decode cL_call 245 = .ok (.iaload, 1) := by decide +kernel
theorem dL_call_246 : decode cL_call 246 = .ok (.invokevirtual 37, 3) := by decide +kernel
theorem dL_call_249 : decode cL_call 249 = .ok (.iload 7, 2) := by decide +kernel
theorem dL_call_251 : decode cL_call 251 = .ok (.if_icmp .eq 5, 3) := by decide +kernel
theorem dL_call_254 : decode cL_call 254 = .ok (.iconst (-1), 1) := by decide +kernel
theorem dL_call_255 : decode cL_call 255 = .ok (.ireturn, 1) := by decide +kernel
theorem dL_call_256 : decode cL_call 256 = .ok (.iinc 7 1, 3) := by decide +kernel
theorem dL_call_259 : decode cL_call 259 = .ok (.goto (-243), 3) := by decide +kernel
theorem dL_call_262 : decode cL_call 262 = .ok (.aload_n 0, 1) := by decide +kernel
theorem dL_call_263 : decode cL_call 263 = .ok (.invokevirtual 40, 3) := by decide +kernel
theorem dL_call_266 : decode cL_call 266 = .ok (.iload 6, 2) := by decide +kernel
theorem dL_call_268 : decode cL_call 268 = .ok (.if_icmp .ne 8, 3) := by decide +kernel
theorem dL_call_271 : decode cL_call 271 = .ok (.iload 6, 2) := by decide +kernel
theorem dL_call_273 : decode cL_call 273 = .ok (.goto 4, 3) := by decide +kernel
theorem dL_call_276 : decode cL_call 276 = .ok (.iconst (-1), 1) := by decide +kernel
theorem dL_call_277 : decode cL_call 277 = .ok (.ireturn, 1) := by decide +kernel
theorem dL_law_0 : decode cL_law 0 = .ok (.new 20, 3) := by decide +kernel
theorem dL_law_3 : decode cL_law 3 = .ok (.dup, 1) := by decide +kernel
theorem dL_law_4 : decode cL_law 4 = .ok (.invokespecial 52, 3) := by decide +kernel
theorem dL_law_7 : decode cL_law 7 = .ok (.astore_n 1, 1) := by decide +kernel
theorem dL_law_8 : decode cL_law 8 = .ok (.iconst 3, 1) := by decide +kernel
theorem dL_law_9 : decode cL_law 9 = .ok (.newarray .int, 2) := by decide +kernel
theorem dL_law_11 : decode cL_law 11 = .ok (.astore_n 2, 1) := by decide +kernel
theorem dL_law_12 : decode cL_law 12 = .ok (.bipush 27, 2) := by decide +kernel
theorem dL_law_14 : decode cL_law 14 = .ok (.newarray .int, 2) := by decide +kernel
theorem dL_law_16 : decode cL_law 16 = .ok (.astore_n 3, 1) := by decide +kernel
theorem dL_law_17 : decode cL_law 17 = .ok (.bipush 6, 2) := by decide +kernel
theorem dL_law_19 : decode cL_law 19 = .ok (.newarray .int, 2) := by decide +kernel
theorem dL_law_21 : decode cL_law 21 = .ok (.astore 4, 2) := by decide +kernel
theorem dL_law_23 : decode cL_law 23 = .ok (.bipush 8, 2) := by decide +kernel
theorem dL_law_25 : decode cL_law 25 = .ok (.newarray .int, 2) := by decide +kernel
theorem dL_law_27 : decode cL_law 27 = .ok (.astore 5, 2) := by decide +kernel
theorem dL_law_29 : decode cL_law 29 = .ok (.bipush 80, 2) := by decide +kernel
theorem dL_law_31 : decode cL_law 31 = .ok (.newarray .int, 2) := by decide +kernel
theorem dL_law_33 : decode cL_law 33 = .ok (.astore 6, 2) := by decide +kernel
theorem dL_law_35 : decode cL_law 35 = .ok (.aload_n 1, 1) := by decide +kernel
theorem dL_law_36 : decode cL_law 36 = .ok (.aload_n 0, 1) := by decide +kernel
theorem dL_law_37 : decode cL_law 37 = .ok (.iconst 0, 1) := by decide +kernel
theorem dL_law_38 : decode cL_law 38 = .ok (.aload_n 2, 1) := by decide +kernel
theorem dL_law_39 : decode cL_law 39 = .ok (.aload_n 3, 1) := by decide +kernel
theorem dL_law_40 : decode cL_law 40 = .ok (.aload 4, 2) := by decide +kernel
theorem dL_law_42 : decode cL_law 42 = .ok (.aload 5, 2) := by decide +kernel
theorem dL_law_44 : decode cL_law 44 = .ok (.invokestatic 53, 3) := by decide +kernel
theorem dL_law_47 : decode cL_law 47 = .ok (.ifCond .ne 5, 3) := by decide +kernel
theorem dL_law_50 : decode cL_law 50 = .ok (.iconst 0, 1) := by decide +kernel
theorem dL_law_51 : decode cL_law 51 = .ok (.ireturn, 1) := by decide +kernel
theorem dL_law_52 : decode cL_law 52 = .ok (.aload_n 1, 1) := by decide +kernel
theorem dL_law_53 : decode cL_law 53 = .ok (.aload_n 0, 1) := by decide +kernel
theorem dL_law_54 : decode cL_law 54 = .ok (.bipush 7, 2) := by decide +kernel
theorem dL_law_56 : decode cL_law 56 = .ok (.bipush 14, 2) := by decide +kernel
theorem dL_law_58 : decode cL_law 58 = .ok (.aload_n 2, 1) := by decide +kernel
theorem dL_law_59 : decode cL_law 59 = .ok (.iconst 2, 1) := by decide +kernel
theorem dL_law_60 : decode cL_law 60 = .ok (.iaload, 1) := by decide +kernel
theorem dL_law_61 : decode cL_law 61 = .ok (.aload 6, 2) := by decide +kernel
theorem dL_law_63 : decode cL_law 63 = .ok (.invokestatic 57, 3) := by decide +kernel
theorem dL_law_66 : decode cL_law 66 = .ok (.istore 7, 2) := by decide +kernel
theorem dL_law_68 : decode cL_law 68 = .ok (.iload 7, 2) := by decide +kernel
theorem dL_law_70 : decode cL_law 70 = .ok (.ifCond .ge 5, 3) := by decide +kernel
theorem dL_law_73 : decode cL_law 73 = .ok (.iconst 0, 1) := by decide +kernel
theorem dL_law_74 : decode cL_law 74 = .ok (.ireturn, 1) := by decide +kernel
theorem dL_law_75 : decode cL_law 75 = .ok (.bipush 20, 2) := by decide +kernel
theorem dL_law_77 : decode cL_law 77 = .ok (.newarray .int, 2) := by decide +kernel
theorem dL_law_79 : decode cL_law 79 = .ok (.astore 8, 2) := by decide +kernel
theorem dL_law_81 : decode cL_law 81 = .ok (.iconst 0, 1) := by decide +kernel
theorem dL_law_82 : decode cL_law 82 = .ok (.istore 9, 2) := by decide +kernel
theorem dL_law_84 : decode cL_law 84 = .ok (.iload 9, 2) := by decide +kernel
theorem dL_law_86 : decode cL_law 86 = .ok (.iload 7, 2) := by decide +kernel
theorem dL_law_88 : decode cL_law 88 = .ok (.if_icmp .ge 21, 3) := by decide +kernel
theorem dL_law_91 : decode cL_law 91 = .ok (.aload 8, 2) := by decide +kernel
theorem dL_law_93 : decode cL_law 93 = .ok (.iload 9, 2) := by decide +kernel
theorem dL_law_95 : decode cL_law 95 = .ok (.aload_n 1, 1) := by decide +kernel
theorem dL_law_96 : decode cL_law 96 = .ok (.iload 9, 2) := by decide +kernel
theorem dL_law_98 : decode cL_law 98 = .ok (.iconst 3, 1) := by decide +kernel
theorem dL_law_99 : decode cL_law 99 = .ok (.invokevirtual 61, 3) := by decide +kernel
theorem dL_law_102 : decode cL_law 102 = .ok (.iastore, 1) := by decide +kernel
theorem dL_law_103 : decode cL_law 103 = .ok (.iinc 9 1, 3) := by decide +kernel
theorem dL_law_106 : decode cL_law 106 = .ok (.goto (-22), 3) := by decide +kernel
theorem dL_law_109 : decode cL_law 109 = .ok (.iconst 0, 1) := by decide +kernel
theorem dL_law_110 : decode cL_law 110 = .ok (.istore 9, 2) := by decide +kernel
theorem dL_law_112 : decode cL_law 112 = .ok (.iload 9, 2) := by decide +kernel
theorem dL_law_114 : decode cL_law 114 = .ok (.iconst 4, 1) := by decide +kernel
theorem dL_law_115 : decode cL_law 115 = .ok (.if_icmp .ge 263, 3) := by decide +kernel
theorem dL_law_118 : decode cL_law 118 = .ok (.aload_n 0, 1) := by decide +kernel
theorem dL_law_119 : decode cL_law 119 = .ok (.bipush 15, 2) := by decide +kernel
theorem dL_law_121 : decode cL_law 121 = .ok (.iload 9, 2) := by decide +kernel
theorem dL_law_123 : decode cL_law 123 = .ok (.iadd, 1) := by decide +kernel
theorem dL_law_124 : decode cL_law 124 = .ok (.invokestatic 9, 3) := by decide +kernel
theorem dL_law_127 : decode cL_law 127 = .ok (.istore 10, 2) := by decide +kernel
theorem dL_law_129 : decode cL_law 129 = .ok (.sipush 1440, 3) := by decide +kernel
theorem dL_law_132 : decode cL_law 132 = .ok (.iload 10, 2) := by decide +kernel
theorem dL_law_134 : decode cL_law 134 = .ok (.iconst 3, 1) := by decide +kernel
theorem dL_law_135 : decode cL_law 135 = .ok (.invokestatic 15, 3) := by decide +kernel
theorem dL_law_138 : decode cL_law 138 = .ok (.imul, 1) := by decide +kernel
theorem dL_law_139 : decode cL_law 139 = .ok (.iload 10, 2) := by decide +kernel
theorem dL_law_141 : decode cL_law 141 = .ok (.iconst 4, 1) := by decide +kernel
theorem dL_law_142 : decode cL_law 142 = .ok (.ishr, 1) := by decide +kernel
theorem dL_law_143 : decode cL_law 143 = .ok (.sipush 1440, 3) := by decide +kernel
theorem dL_law_146 : decode cL_law 146 = .ok (.invokestatic 15, 3) := by decide +kernel
theorem dL_law_149 : decode cL_law 149 = .ok (.iadd, 1) := by decide +kernel
theorem dL_law_150 : decode cL_law 150 = .ok (.istore 11, 2) := by decide +kernel
theorem dL_law_152 : decode cL_law 152 = .ok (.aload_n 1, 1) := by decide +kernel
theorem dL_law_153 : decode cL_law 153 = .ok (.iload 10, 2) := by decide +kernel
theorem dL_law_155 : decode cL_law 155 = .ok (.iconst 2, 1) := by decide +kernel
theorem dL_law_156 : decode cL_law 156 = .ok (.ishr, 1) := by decide +kernel
theorem dL_law_157 : decode cL_law 157 = .ok (.aload_n 2, 1) := by decide +kernel
theorem dL_law_158 : decode cL_law 158 = .ok (.iconst 2, 1) := by decide +kernel
theorem dL_law_159 : decode cL_law 159 = .ok (.iaload, 1) := by decide +kernel
theorem dL_law_160 : decode cL_law 160 = .ok (.invokestatic 15, 3) := by decide +kernel
theorem dL_law_163 : decode cL_law 163 = .ok (.iload 11, 2) := by decide +kernel
theorem dL_law_165 : decode cL_law 165 = .ok (.iconst 1, 1) := by decide +kernel
theorem dL_law_166 : decode cL_law 166 = .ok (.iload 10, 2) := by decide +kernel
theorem dL_law_168 : decode cL_law 168 = .ok (.bipush 6, 2) := by decide +kernel
theorem dL_law_170 : decode cL_law 170 = .ok (.ishr, 1) := by decide +kernel
theorem dL_law_171 : decode cL_law 171 = .ok (.sipush 1500, 3) := by decide +kernel
theorem dL_law_174 : decode cL_law 174 = .ok (.invokestatic 15, 3) := by decide +kernel
theorem dL_law_177 : decode cL_law 177 = .ok (.iadd, 1) := by decide +kernel
theorem dL_law_178 : decode cL_law 178 = .ok (.iload 10, 2) := by decide +kernel
theorem dL_law_180 : decode cL_law 180 = .ok (.bipush 8, 2) := by decide +kernel
theorem dL_law_182 : decode cL_law 182 = .ok (.ishr, 1) := by decide +kernel
theorem dL_law_183 : decode cL_law 183 = .ok (.iconst 3, 1) := by decide +kernel
theorem dL_law_184 : decode cL_law 184 = .ok (.invokestatic 15, 3) := by decide +kernel
theorem dL_law_187 : decode cL_law 187 = .ok (.invokevirtual 37, 3) := by decide +kernel
theorem dL_law_190 : decode cL_law 190 = .ok (.istore 12, 2) := by decide +kernel
theorem dL_law_192 : decode cL_law 192 = .ok (.iload 12, 2) := by decide +kernel
theorem dL_law_194 : decode cL_law 194 = .ok (.iload 7, 2) := by decide +kernel
theorem dL_law_196 : decode cL_law 196 = .ok (.if_icmp .eq 5, 3) := by decide +kernel
theorem dL_law_199 : decode cL_law 199 = .ok (.iconst 0, 1) := by decide +kernel
theorem dL_law_200 : decode cL_law 200 = .ok (.ireturn, 1) := by decide +kernel
theorem dL_law_201 : decode cL_law 201 = .ok (.aload 6, 2) := by decide +kernel
theorem dL_law_203 : decode cL_law 203 = .ok (.iconst 4, 1) := by decide +kernel
theorem dL_law_204 : decode cL_law 204 = .ok (.iload 12, 2) := by decide +kernel
theorem dL_law_206 : decode cL_law 206 = .ok (.imul, 1) := by decide +kernel
theorem dL_law_207 : decode cL_law 207 = .ok (.iconst 1, 1) := by decide +kernel
theorem dL_law_208 : decode cL_law 208 = .ok (.iadd, 1) := by decide +kernel
theorem dL_law_209 : decode cL_law 209 = .ok (.iload 11, 2) := by decide +kernel
theorem dL_law_211 : decode cL_law 211 = .ok (.iastore, 1) := by decide +kernel
theorem dL_law_212 : decode cL_law 212 = .ok (.iinc 7 1, 3) := by decide +kernel
theorem dL_law_215 : decode cL_law 215 = .ok (.iconst 0, 1) := by decide +kernel
theorem dL_law_216 : decode cL_law 216 = .ok (.istore 13, 2) := by decide +kernel
theorem dL_law_218 : decode cL_law 218 = .ok (.iload 13, 2) := by decide +kernel
theorem dL_law_220 : decode cL_law 220 = .ok (.iload 12, 2) := by decide +kernel
theorem dL_law_222 : decode cL_law 222 = .ok (.if_icmp .ge 51, 3) := by decide +kernel
theorem dL_law_225 : decode cL_law 225 = .ok (.aload_n 1, 1) := by decide +kernel
theorem dL_law_226 : decode cL_law 226 = .ok (.iload 13, 2) := by decide +kernel
theorem dL_law_228 : decode cL_law 228 = .ok (.iconst 3, 1) := by decide +kernel
theorem dL_law_229 : decode cL_law 229 = .ok (.invokevirtual 61, 3) := by decide +kernel
theorem dL_law_232 : decode cL_law 232 = .ok (.istore 14, 2) := by decide +kernel
theorem dL_law_234 : decode cL_law 234 = .ok (.aload 6, 2) := by decide +kernel
theorem dL_law_236 : decode cL_law 236 = .ok (.iconst 4, 1) := by decide +kernel
theorem dL_law_237 : decode cL_law 237 = .ok (.iload 13, 2) := by decide +kernel
theorem dL_law_239 : decode cL_law 239 = .ok (.imul, 1) := by decide +kernel
theorem dL_law_240 : decode cL_law 240 = .ok (.iconst 1, 1) := by decide +kernel
theorem dL_law_241 : decode cL_law 241 = .ok (.iadd, 1) := by decide +kernel
theorem dL_law_242 : decode cL_law 242 = .ok (.iaload, 1) := by decide +kernel
theorem dL_law_243 : decode cL_law 243 = .ok (.iload 11, 2) := by decide +kernel
theorem dL_law_245 : decode cL_law 245 = .ok (.if_icmp .gt 15, 3) := by decide +kernel
theorem dL_law_248 : decode cL_law 248 = .ok (.iload 14, 2) := by decide +kernel
theorem dL_law_250 : decode cL_law 250 = .ok (.aload 8, 2) := by decide +kernel
theorem dL_law_252 : decode cL_law 252 = .ok (.iload 13, 2) := by decide +kernel
theorem dL_law_254 : decode cL_law 254 = .ok (.iaload, 1) := by decide +kernel
theorem dL_law_255 : decode cL_law 255 = .ok (.if_icmp .eq 5, 3) := by decide +kernel
theorem dL_law_258 : decode cL_law 258 = .ok (.iconst 0, 1) := by decide +kernel
theorem dL_law_259 : decode cL_law 259 = .ok (.ireturn, 1) := by decide +kernel
theorem dL_law_260 : decode cL_law 260 = .ok (.aload 8, 2) := by decide +kernel
theorem dL_law_262 : decode cL_law 262 = .ok (.iload 13, 2) := by decide +kernel
theorem dL_law_264 : decode cL_law 264 = .ok (.iload 14, 2) := by decide +kernel
theorem dL_law_266 : decode cL_law 266 = .ok (.iastore, 1) := by decide +kernel
theorem dL_law_267 : decode cL_law 267 = .ok (.iinc 13 1, 3) := by decide +kernel
theorem dL_law_270 : decode cL_law 270 = .ok (.goto (-52), 3) := by decide +kernel
theorem dL_law_273 : decode cL_law 273 = .ok (.aload 8, 2) := by decide +kernel
theorem dL_law_275 : decode cL_law 275 = .ok (.iload 12, 2) := by decide +kernel
theorem dL_law_277 : decode cL_law 277 = .ok (.aload_n 1, 1) := by decide +kernel
theorem dL_law_278 : decode cL_law 278 = .ok (.iload 12, 2) := by decide +kernel
theorem dL_law_280 : decode cL_law 280 = .ok (.iconst 3, 1) := by decide +kernel
theorem dL_law_281 : decode cL_law 281 = .ok (.invokevirtual 61, 3) := by decide +kernel
theorem dL_law_284 : decode cL_law 284 = .ok (.iastore, 1) := by decide +kernel
theorem dL_law_285 : decode cL_law 285 = .ok (.iconst (-1), 1) := by decide +kernel
theorem dL_law_286 : decode cL_law 286 = .ok (.istore 13, 2) := by decide +kernel
theorem dL_law_288 : decode cL_law 288 = .ok (.iconst 0, 1) := by decide +kernel
theorem dL_law_289 : decode cL_law 289 = .ok (.istore 14, 2) := by decide +kernel
theorem dL_law_291 : decode cL_law 291 = .ok (.iload 14, 2) := by decide +kernel
theorem dL_law_293 : decode cL_law 293 = .ok (.iload 7, 2) := by decide +kernel
theorem dL_law_295 : decode cL_law 295 = .ok (.if_icmp .ge 77, 3) := by decide +kernel
theorem dL_law_298 : decode cL_law 298 = .ok (.aload_n 1, 1) := by decide +kernel
theorem dL_law_299 : decode cL_law 299 = .ok (.iload 14, 2) := by decide +kernel
theorem dL_law_301 : decode cL_law 301 = .ok (.invokevirtual 64, 3) := by decide +kernel
theorem dL_law_304 : decode cL_law 304 = .ok (.istore 15, 2) := by decide +kernel
theorem dL_law_306 : decode cL_law 306 = .ok (.iload 13, 2) := by decide +kernel
theorem dL_law_308 : decode cL_law 308 = .ok (.ifCond .lt 54, 3) := by decide +kernel
theorem dL_law_311 : decode cL_law 311 = .ok (.aload 6, 2) := by decide +kernel
theorem dL_law_313 : decode cL_law 313 = .ok (.iconst 4, 1) := by decide +kernel
theorem dL_law_314 : decode cL_law 314 = .ok (.iload 15, 2) := by decide +kernel
theorem dL_law_316 : decode cL_law 316 = .ok (.imul, 1) := by decide +kernel
theorem dL_law_317 : decode cL_law 317 = .ok (.iconst 1, 1) := by decide +kernel
theorem dL_law_318 : decode cL_law 318 = .ok (.iadd, 1) := by decide +kernel
theorem dL_law_319 : decode cL_law 319 = .ok (.iaload, 1) := by decide +kernel
theorem dL_law_320 : decode cL_law 320 = .ok (.aload 6, 2) := by decide +kernel
theorem dL_law_322 : decode cL_law 322 = .ok (.iconst 4, 1) := by decide +kernel
theorem dL_law_323 : decode cL_law 323 = .ok (.iload 13, 2) := by decide +kernel
theorem dL_law_325 : decode cL_law 325 = .ok (.imul, 1) := by decide +kernel
theorem dL_law_326 : decode cL_law 326 = .ok (.iconst 1, 1) := by decide +kernel
theorem dL_law_327 : decode cL_law 327 = .ok (.iadd, 1) := by decide +kernel
theorem dL_law_328 : decode cL_law 328 = .ok (.iaload, 1) := by decide +kernel
theorem dL_law_329 : decode cL_law 329 = .ok (.if_icmp .lt 31, 3) := by decide +kernel
theorem dL_law_332 : decode cL_law 332 = .ok (.aload 6, 2) := by decide +kernel
theorem dL_law_334 : decode cL_law 334 = .ok (.iconst 4, 1) := by decide +kernel
theorem dL_law_335 : decode cL_law 335 = .ok (.iload 15, 2) := by decide +kernel
theorem dL_law_337 : decode cL_law 337 = .ok (.imul, 1) := by decide +kernel
theorem dL_law_338 : decode cL_law 338 = .ok (.iconst 1, 1) := by decide +kernel
theorem dL_law_339 : decode cL_law 339 = .ok (.iadd, 1) := by decide +kernel
theorem dL_law_340 : decode cL_law 340 = .ok (.iaload, 1) := by decide +kernel
theorem dL_law_341 : decode cL_law 341 = .ok (.aload 6, 2) := by decide +kernel
theorem dL_law_343 : decode cL_law 343 = .ok (.iconst 4, 1) := by decide +kernel
theorem dL_law_344 : decode cL_law 344 = .ok (.iload 13, 2) := by decide +kernel
theorem dL_law_346 : decode cL_law 346 = .ok (.imul, 1) := by decide +kernel
theorem dL_law_347 : decode cL_law 347 = .ok (.iconst 1, 1) := by decide +kernel
theorem dL_law_348 : decode cL_law 348 = .ok (.iadd, 1) := by decide +kernel
theorem dL_law_349 : decode cL_law 349 = .ok (.iaload, 1) := by decide +kernel
theorem dL_law_350 : decode cL_law 350 = .ok (.if_icmp .ne 12, 3) := by decide +kernel
theorem dL_law_353 : decode cL_law 353 = .ok (.iload 15, 2) := by decide +kernel
theorem dL_law_355 : decode cL_law 355 = .ok (.iload 13, 2) := by decide +kernel
theorem dL_law_357 : decode cL_law 357 = .ok (.if_icmp .ge 5, 3) := by decide +kernel
theorem dL_law_360 : decode cL_law 360 = .ok (.iconst 0, 1) := by decide +kernel
theorem dL_law_361 : decode cL_law 361 = .ok (.ireturn, 1) := by decide +kernel
theorem dL_law_362 : decode cL_law 362 = .ok (.iload 15, 2) := by decide +kernel
theorem dL_law_364 : decode cL_law 364 = .ok (.istore 13, 2) := by decide +kernel
theorem dL_law_366 : decode cL_law 366 = .ok (.iinc 14 1, 3) := by decide +kernel
theorem dL_law_369 : decode cL_law 369 = .ok (.goto (-78), 3) := by decide +kernel
theorem dL_law_372 : decode cL_law 372 = .ok (.iinc 9 1, 3) := by decide +kernel
theorem dL_law_375 : decode cL_law 375 = .ok (.goto (-263), 3) := by decide +kernel
theorem dL_law_378 : decode cL_law 378 = .ok (.iconst 0, 1) := by decide +kernel
theorem dL_law_379 : decode cL_law 379 = .ok (.istore 9, 2) := by decide +kernel
theorem dL_law_381 : decode cL_law 381 = .ok (.iconst 0, 1) := by decide +kernel
theorem dL_law_382 : decode cL_law 382 = .ok (.istore 10, 2) := by decide +kernel
theorem dL_law_384 : decode cL_law 384 = .ok (.iload 10, 2) := by decide +kernel
theorem dL_law_386 : decode cL_law 386 = .ok (.iload 7, 2) := by decide +kernel
theorem dL_law_388 : decode cL_law 388 = .ok (.if_icmp .ge 19, 3) := by decide +kernel
theorem dL_law_391 : decode cL_law 391 = .ok (.iload 9, 2) := by decide +kernel
theorem dL_law_393 : decode cL_law 393 = .ok (.aload 8, 2) := by decide +kernel
theorem dL_law_395 : decode cL_law 395 = .ok (.iload 10, 2) := by decide +kernel
theorem dL_law_397 : decode cL_law 397 = .ok (.iaload, 1) := by decide +kernel
theorem dL_law_398 : decode cL_law 398 = .ok (.iadd, 1) := by decide +kernel
theorem dL_law_399 : decode cL_law 399 = .ok (.istore 9, 2) := by decide +kernel
theorem dL_law_401 : decode cL_law 401 = .ok (.iinc 10 1, 3) := by decide +kernel
theorem dL_law_404 : decode cL_law 404 = .ok (.goto (-20), 3) := by decide +kernel
theorem dL_law_407 : decode cL_law 407 = .ok (.iconst 0, 1) := by decide +kernel
theorem dL_law_408 : decode cL_law 408 = .ok (.istore 10, 2) := by decide +kernel
theorem dL_law_410 : decode cL_law 410 = .ok (.iconst 0, 1) := by decide +kernel
theorem dL_law_411 : decode cL_law 411 = .ok (.istore 11, 2) := by decide +kernel
theorem dL_law_413 : decode cL_law 413 = .ok (.iload 11, 2) := by decide +kernel
theorem dL_law_415 : decode cL_law 415 = .ok (.aload_n 2, 1) := by decide +kernel
theorem dL_law_416 : decode cL_law 416 = .ok (.iconst 2, 1) := by decide +kernel
theorem dL_law_417 : decode cL_law 417 = .ok (.iaload, 1) := by decide +kernel
theorem dL_law_418 : decode cL_law 418 = .ok (.if_icmp .ge 20, 3) := by decide +kernel
theorem dL_law_421 : decode cL_law 421 = .ok (.iload 10, 2) := by decide +kernel
theorem dL_law_423 : decode cL_law 423 = .ok (.aload_n 1, 1) := by decide +kernel
theorem dL_law_424 : decode cL_law 424 = .ok (.iload 11, 2) := by decide +kernel
theorem dL_law_426 : decode cL_law 426 = .ok (.invokevirtual 68, 3) := by decide +kernel
theorem dL_law_429 : decode cL_law 429 = .ok (.iadd, 1) := by decide +kernel
theorem dL_law_430 : decode cL_law 430 = .ok (.istore 10, 2) := by decide +kernel
theorem dL_law_432 : decode cL_law 432 = .ok (.iinc 11 1, 3) := by decide +kernel
theorem dL_law_435 : decode cL_law 435 = .ok (.goto (-22), 3) := by decide +kernel
theorem dL_law_438 : decode cL_law 438 = .ok (.iconst 0, 1) := by decide +kernel
theorem dL_law_439 : decode cL_law 439 = .ok (.istore 11, 2) := by decide +kernel
theorem dL_law_441 : decode cL_law 441 = .ok (.iconst 0, 1) := by decide +kernel
theorem dL_law_442 : decode cL_law 442 = .ok (.istore 12, 2) := by decide +kernel
theorem dL_law_444 : decode cL_law 444 = .ok (.iload 12, 2) := by decide +kernel
theorem dL_law_446 : decode cL_law 446 = .ok (.bipush 30, 2) := by decide +kernel
theorem dL_law_448 : decode cL_law 448 = .ok (.if_icmp .ge 20, 3) := by decide +kernel
theorem dL_law_451 : decode cL_law 451 = .ok (.iload 11, 2) := by decide +kernel
theorem dL_law_453 : decode cL_law 453 = .ok (.aload_n 1, 1) := by decide +kernel
theorem dL_law_454 : decode cL_law 454 = .ok (.iload 12, 2) := by decide +kernel
theorem dL_law_456 : decode cL_law 456 = .ok (.invokevirtual 71, 3) := by decide +kernel
theorem dL_law_459 : decode cL_law 459 = .ok (.iadd, 1) := by decide +kernel
theorem dL_law_460 : decode cL_law 460 = .ok (.istore 11, 2) := by decide +kernel
theorem dL_law_462 : decode cL_law 462 = .ok (.iinc 12 1, 3) := by decide +kernel
theorem dL_law_465 : decode cL_law 465 = .ok (.goto (-21), 3) := by decide +kernel
theorem dL_law_468 : decode cL_law 468 = .ok (.iconst 0, 1) := by decide +kernel
theorem dL_law_469 : decode cL_law 469 = .ok (.istore 12, 2) := by decide +kernel
theorem dL_law_471 : decode cL_law 471 = .ok (.iconst 0, 1) := by decide +kernel
theorem dL_law_472 : decode cL_law 472 = .ok (.istore 13, 2) := by decide +kernel
theorem dL_law_474 : decode cL_law 474 = .ok (.iload 13, 2) := by decide +kernel
theorem dL_law_476 : decode cL_law 476 = .ok (.aload_n 2, 1) := by decide +kernel
theorem dL_law_477 : decode cL_law 477 = .ok (.iconst 1, 1) := by decide +kernel
theorem dL_law_478 : decode cL_law 478 = .ok (.iaload, 1) := by decide +kernel
theorem dL_law_479 : decode cL_law 479 = .ok (.if_icmp .ge 96, 3) := by decide +kernel
theorem dL_law_482 : decode cL_law 482 = .ok (.aload_n 1, 1) := by decide +kernel
theorem dL_law_483 : decode cL_law 483 = .ok (.iload 13, 2) := by decide +kernel
theorem dL_law_485 : decode cL_law 485 = .ok (.invokevirtual 74, 3) := by decide +kernel
theorem dL_law_488 : decode cL_law 488 = .ok (.istore 14, 2) := by decide +kernel
theorem dL_law_490 : decode cL_law 490 = .ok (.iload 12, 2) := by decide +kernel
theorem dL_law_492 : decode cL_law 492 = .ok (.iload 14, 2) := by decide +kernel
theorem dL_law_494 : decode cL_law 494 = .ok (.iadd, 1) := by decide +kernel
theorem dL_law_495 : decode cL_law 495 = .ok (.istore 12, 2) := by decide +kernel
theorem dL_law_497 : decode cL_law 497 = .ok (.aload_n 1, 1) := by decide +kernel
theorem dL_law_498 : decode cL_law 498 = .ok (.iload 13, 2) := by decide +kernel
theorem dL_law_500 : decode cL_law 500 = .ok (.invokevirtual 77, 3) := by decide +kernel
theorem dL_law_503 : decode cL_law 503 = .ok (.istore 15, 2) := by decide +kernel
theorem dL_law_505 : decode cL_law 505 = .ok (.bipush 10, 2) := by decide +kernel
theorem dL_law_507 : decode cL_law 507 = .ok (.iload 15, 2) := by decide +kernel
theorem dL_law_509 : decode cL_law 509 = .ok (.imul, 1) := by decide +kernel
theorem dL_law_510 : decode cL_law 510 = .ok (.iload 14, 2) := by decide +kernel
theorem dL_law_512 : decode cL_law 512 = .ok (.iconst 5, 1) := by decide +kernel
theorem dL_law_513 : decode cL_law 513 = .ok (.iadd, 1) := by decide +kernel
theorem dL_law_514 : decode cL_law 514 = .ok (.if_icmp .gt 53, 3) := by decide +kernel
theorem dL_law_517 : decode cL_law 517 = .ok (.iload 14, 2) := by decide +kernel
theorem dL_law_519 : decode cL_law 519 = .ok (.aload 4, 2) := by decide +kernel
theorem dL_law_521 : decode cL_law 521 = .ok (.iconst 3, 1) := by decide +kernel
theorem dL_law_522 : decode cL_law 522 = .ok (.iload 13, 2) := by decide +kernel
theorem dL_law_524 : decode cL_law 524 = .ok (.imul, 1) := by decide +kernel
theorem dL_law_525 : decode cL_law 525 = .ok (.iconst 1, 1) := by decide +kernel
theorem dL_law_526 : decode cL_law 526 = .ok (.iadd, 1) := by decide +kernel
theorem dL_law_527 : decode cL_law 527 = .ok (.iaload, 1) := by decide +kernel
theorem dL_law_528 : decode cL_law 528 = .ok (.if_icmp .gt 15, 3) := by decide +kernel
theorem dL_law_531 : decode cL_law 531 = .ok (.iload 15, 2) := by decide +kernel
theorem dL_law_533 : decode cL_law 533 = .ok (.iload 14, 2) := by decide +kernel
theorem dL_law_535 : decode cL_law 535 = .ok (.iconst 5, 1) := by decide +kernel
theorem dL_law_536 : decode cL_law 536 = .ok (.iadd, 1) := by decide +kernel
theorem dL_law_537 : decode cL_law 537 = .ok (.bipush 10, 2) := by decide +kernel
theorem dL_law_539 : decode cL_law 539 = .ok (.idiv, 1) := by decide +kernel
theorem dL_law_540 : decode cL_law 540 = .ok (.if_icmp .ne 27, 3) := by decide +kernel
theorem dL_law_543 : decode cL_law 543 = .ok (.bipush 10, 2) := by decide +kernel
theorem dL_law_545 : decode cL_law 545 = .ok (.iload 15, 2) := by decide +kernel
theorem dL_law_547 : decode cL_law 547 = .ok (.imul, 1) := by decide +kernel
theorem dL_law_548 : decode cL_law 548 = .ok (.iload 14, 2) := by decide +kernel
theorem dL_law_550 : decode cL_law 550 = .ok (.aload 4, 2) := by decide +kernel
theorem dL_law_552 : decode cL_law 552 = .ok (.iconst 3, 1) := by decide +kernel
theorem dL_law_553 : decode cL_law 553 = .ok (.iload 13, 2) := by decide +kernel
theorem dL_law_555 : decode cL_law 555 = .ok (.imul, 1) := by decide +kernel
theorem dL_law_556 : decode cL_law 556 = .ok (.iconst 1, 1) := by decide +kernel
theorem dL_law_557 : decode cL_law 557 = .ok (.iadd, 1) := by decide +kernel
theorem dL_law_558 : decode cL_law 558 = .ok (.iaload, 1) := by decide +kernel
theorem dL_law_559 : decode cL_law 559 = .ok (.invokestatic 80, 3) := by decide +kernel
theorem dL_law_562 : decode cL_law 562 = .ok (.iconst 5, 1) := by decide +kernel
theorem dL_law_563 : decode cL_law 563 = .ok (.isub, 1) := by decide +kernel
theorem dL_law_564 : decode cL_law 564 = .ok (.if_icmp .ge 5, 3) := by decide +kernel
theorem dL_law_567 : decode cL_law 567 = .ok (.iconst 0, 1) := by decide +kernel
theorem dL_law_568 : decode cL_law 568 = .ok (.ireturn, 1) := by decide +kernel
theorem dL_law_569 : decode cL_law 569 = .ok (.iinc 13 1, 3) := by decide +kernel
theorem dL_law_572 : decode cL_law 572 = .ok (.goto (-98), 3) := by decide +kernel
theorem dL_law_575 : decode cL_law 575 = .ok (.aload_n 1, 1) := by decide +kernel
theorem dL_law_576 : decode cL_law 576 = .ok (.invokevirtual 85, 3) := by decide +kernel
theorem dL_law_579 : decode cL_law 579 = .ok (.istore 13, 2) := by decide +kernel
theorem dL_law_581 : decode cL_law 581 = .ok (.iconst 0, 1) := by decide +kernel
theorem dL_law_582 : decode cL_law 582 = .ok (.istore 14, 2) := by decide +kernel
theorem dL_law_584 : decode cL_law 584 = .ok (.iload 14, 2) := by decide +kernel
theorem dL_law_586 : decode cL_law 586 = .ok (.iload 7, 2) := by decide +kernel
theorem dL_law_588 : decode cL_law 588 = .ok (.if_icmp .ge 24, 3) := by decide +kernel
theorem dL_law_591 : decode cL_law 591 = .ok (.aload 8, 2) := by decide +kernel
theorem dL_law_593 : decode cL_law 593 = .ok (.iload 14, 2) := by decide +kernel
theorem dL_law_595 : decode cL_law 595 = .ok (.iaload, 1) := by decide +kernel
theorem dL_law_596 : decode cL_law 596 = .ok (.aload 8, 2) := by decide +kernel
theorem dL_law_598 : decode cL_law 598 = .ok (.iload 13, 2) := by decide +kernel
theorem dL_law_600 : decode cL_law 600 = .ok (.iaload, 1) := by decide +kernel
theorem dL_law_601 : decode cL_law 601 = .ok (.if_icmp .le 5, 3) := by decide +kernel
theorem dL_law_604 : decode cL_law 604 = .ok (.iconst 0, 1) := by decide +kernel
theorem dL_law_605 : decode cL_law 605 = .ok (.ireturn, 1) := by decide +kernel
theorem dL_law_606 : decode cL_law 606 = .ok (.iinc 14 1, 3) := by decide +kernel
theorem dL_law_609 : decode cL_law 609 = .ok (.goto (-25), 3) := by decide +kernel
theorem dL_law_612 : decode cL_law 612 = .ok (.iload 9, 2) := by decide +kernel
theorem dL_law_614 : decode cL_law 614 = .ok (.iload 10, 2) := by decide +kernel
theorem dL_law_616 : decode cL_law 616 = .ok (.if_icmp .ne 39, 3) := by decide +kernel
theorem dL_law_619 : decode cL_law 619 = .ok (.iload 9, 2) := by decide +kernel
theorem dL_law_621 : decode cL_law 621 = .ok (.iload 11, 2) := by decide +kernel
theorem dL_law_623 : decode cL_law 623 = .ok (.if_icmp .ne 32, 3) := by decide +kernel
theorem dL_law_626 : decode cL_law 626 = .ok (.iload 9, 2) := by decide +kernel
theorem dL_law_628 : decode cL_law 628 = .ok (.iload 12, 2) := by decide +kernel
theorem dL_law_630 : decode cL_law 630 = .ok (.if_icmp .ne 25, 3) := by decide +kernel
theorem dL_law_633 : decode cL_law 633 = .ok (.aload_n 1, 1) := by decide +kernel
theorem dL_law_634 : decode cL_law 634 = .ok (.invokevirtual 88, 3) := by decide +kernel
theorem dL_law_637 : decode cL_law 637 = .ok (.dconst 0, 1) := by decide +kernel
theorem dL_law_638 : decode cL_law 638 = .ok (.dcmp .l, 1) := by decide +kernel
theorem dL_law_639 : decode cL_law 639 = .ok (.ifCond .lt 16, 3) := by decide +kernel
theorem dL_law_642 : decode cL_law 642 = .ok (.aload_n 1, 1) := by decide +kernel
theorem dL_law_643 : decode cL_law 643 = .ok (.invokevirtual 88, 3) := by decide +kernel
theorem dL_law_646 : decode cL_law 646 = .ok (.dconst 1, 1) := by decide +kernel
theorem dL_law_647 : decode cL_law 647 = .ok (.dcmp .g, 1) := by decide +kernel
theorem dL_law_648 : decode cL_law 648 = .ok (.ifCond .gt 7, 3) := by decide +kernel
theorem dL_law_651 : decode cL_law 651 = .ok (.iconst 1, 1) := by decide +kernel
theorem dL_law_652 : decode cL_law 652 = .ok (.goto 4, 3) := by decide +kernel
theorem dL_law_655 : decode cL_law 655 = .ok (.iconst 0, 1) := by decide +kernel
theorem dL_law_656 : decode cL_law 656 = .ok (.ireturn, 1) := by decide +kernel
end
section
/-! ===== BEGIN a constructor that throws (launches without stack traces) ===== -/
section VXIA
variable {p : Program} {l : Launch} {e : Env} {R : Room} {s : State} {m : MethodId} {args : Array Value} {below : List Frame} {meth : Method} {c : Code} {T : State} {locs : List Loc} {cells slots : Nat}
theorem vx_callI (X : Stand p l e R s m args below meth c T locs cells slots) (hexec : p.tables.exec = Jvm.exec) {own : String} {index : Nat} {y : MethodName} {bytes : ByteArray} {maxL : Nat}
    (hown : s.vm.findClass own = some m.cls) (hy1 : y.name = "<init>") (hlink : (Cond.methodLink own index y).before args s = true) (hinst : (Cond.instanceMethod y).before args s = true)
    (hcode : (Cond.code y bytes maxL none).before args s = true) (hy : y.cls ≠ "java/lang/invoke/MethodHandle" ∧ y.cls ≠ "java/lang/invoke/VarHandle")
    {W9 : Nat} {Pre : Pt → Array Value → Prop} {Post : Pt → Array Value → Option Value → Pt → Prop} {PostX : Pt → Array Value → Addr → Pt → Prop} (hK : vx_Back l R p e below s args y 3 W9 Pre Post PostX)
    {g : JFrame} (hg : g.method = m) (hsize : g.locals.size = c.maxLocals) {a : Addr} {argsL rest : List Value} (hlen : ∀ sig, parseMethodDescriptor y.desc = some sig → argsL.length = sig.parameters.length)
    (hstack : g.stack = argsL.reverse ++ .ref a :: rest) (hW : 2 * g.monitorRoom + (rest.map fun v => v.category).sum ≤ W9) (hdg : decode c.code g.pc = .ok (.invokespecial index, 3))
    (hpre : ∀ vm₁, s.WarmedH vm₁ → Pre ⟨T.setVm vm₁, locs, cells, slots⟩ (Value.ref a :: argsL).toArray) :
    (∃ (v : Option Value) (vm₁ : Vm) (B : Pt), s.WarmedH vm₁ ∧ Stand p l e R s m args below meth c B.U B.locs B.cells B.slots ∧ Post ⟨T.setVm vm₁, locs, cells, slots⟩ (Value.ref a :: argsL).toArray v B ∧
      ∀ target, Steps p.tables e below (B.U.setTop { g with pc := g.pc + 3, stack := v.toList ++ rest }) target → Steps p.tables e below (T.setTop g) target) ∨
    (∃ (q : Addr) (vm₁ : Vm) (B : Pt), s.WarmedH vm₁ ∧ Stand p l e R s m args below meth c B.U B.locs B.cells B.slots ∧ PostX ⟨T.setVm vm₁, locs, cells, slots⟩ (Value.ref a :: argsL).toArray q B ∧
      Steps p.tables e below (T.setTop g) ((B.U.setTop { g with stack := rest }).pushFrame (.throwing q))) := by
  subst hg
  have hpl : e.platform.magicAccessors = ({} : Platform).magicAccessors := by rw [X.admits.platform]
  obtain ⟨mk, methM, cM, kP, vm₁, hnamed, hmethM, hcodeM, -, hlocalsM, -, hkP, -, hW₁, hstep₁⟩ := Steps.initColdArgs (e := e) X.here hexec X.warmed hpl hown hy1 hy hlink hinst hcode (f := g) rfl hlen hstack hdg
  have X₁ := X.noted hW₁
  rcases hK g.method meth c ⟨T.setVm vm₁, locs, cells, slots⟩ { g with stack := rest } (.invokespecial index) mk (Value.ref a :: argsL).toArray X₁ rfl hsize hdg hW (X₁.named hnamed) (hpre vm₁ X₁.warmed) with ⟨v, B, X', hpost, hsteps⟩ | ⟨q, B, X', hpost, hsteps⟩
  · exact Or.inl ⟨v, vm₁, B, X₁.warmed, X', hpost, fun target h => hstep₁ _ fun acts => by rw [doInvoke_state]; exact hsteps.trans h⟩
  · exact Or.inr ⟨q, vm₁, B, X₁.warmed, X', hpost, hstep₁ _ fun acts => by rw [doInvoke_state]; exact hsteps⟩
end VXIA
section VXIB
variable {p : Program} {l : Launch} {e : Env} {R : Room} {s : State} {m : MethodId} {args : Array Value} {below : List Frame} {meth : Method} {c : Code} {H : Heap} {locs : List Loc} {cells slots : Nat}
variable {y : MethodName} {bytes cc : ByteArray} {maxL nL mc ms n index : Nat} {ret : Option FieldType} {ws : List Cond} {rm : Room} {Pc : Array Value → State → Prop} {Qc : Array Value → State → Outcome → State → Prop} {XC : String → State → State → Prop} {free : Addr → Prop} {Ts : List Cond} {own C : String} {b : Addr} {As rest : List Value} {g : JFrame}
theorem vx_runI (S : CallFix p m c cc nL s args Ts own) (hM : vx_Met l y ws rm Pc Qc XC mc ms free) (cw : CallB R s args own index y bytes maxL none ws rm mc ms n ∧ y.name = "<init>" ∧ (Cond.instanceMethod y).before args s = true) (hp : PreS s H Pc (.ref b :: As))
    (hg : g.method = m) (hn : As.length = n) (hsize : g.locals.size = nL) (hstack : g.stack = As.reverse ++ .ref b :: rest) (hW : 2 * g.monitorRoom + (rest.map fun v => v.category).sum ≤ 8) (hdg : decode cc g.pc = .ok (.invokespecial index, 3)) (hf : cells + mc ≤ R.cells ∧ slots + ms ≤ R.slots) :
    vx_Run p l e R s m args below meth c H locs cells slots mc ms g rest (Qc (Value.ref b :: As).toArray) XC free := by
  have hK : vx_Back l R p e below s args y 3 8 (PreOf R mc ms Pc) (PostOf Qc mc ms free) (vx_Post XC mc ms free) := vx_callBack cw.1 hM hp.1
  obtain ⟨⟨-, -, -, -, -, -, hcode, -, hy, hlen, hl⟩, hy1, hin⟩ := cw
  obtain ⟨hx, hb, hml, ho, -⟩ := S
  have hPc := hp.2
  intro T hT X
  rcases vx_callI X hx (bytes := bytes) (maxL := maxL) ho hy1 hl hin hcode hy hK hg (hsize.trans hml.symm) (a := b) (argsL := As) (rest := rest) (fun sig h => hn.trans (hlen sig h)) hstack hW (by rw [hb]; exact hdg)
    (fun vm₁ hW₁ => ⟨hf.1, hf.2, hPc (T.setVm vm₁) hT hW₁⟩) with ⟨v, vm₁, ⟨U', l2, c2, s2⟩, hW₁, X', ⟨g', mk, t, L, e1, e2, hq, h1, hL, h2, h3⟩, st⟩ | ⟨q, vm₁, ⟨U', l2, c2, s2⟩, hW₁, X', ⟨g', mk, t, L, E, ce, e1, e2, hq, hce, hcv, hcl, h1, hL, h2, h3⟩, st⟩
  · dsimp only [Pt.U, Pt.locs, Pt.cells, Pt.slots] at X' e1 e2 h1 h2 h3 st
    subst h1; subst h2; subst h3
    exact Or.inl ⟨v, (T.setVm vm₁).calling g' mk (Value.ref b :: As).toArray, t, U', L, hT, X', hL, e1, e2, hq, st⟩
  · dsimp only [Pt.U, Pt.locs, Pt.cells, Pt.slots] at X' e1 e2 h1 h2 h3 st hcl
    subst h1; subst h2; subst h3
    exact Or.inr ⟨q, (T.setVm vm₁).calling g' mk (Value.ref b :: As).toArray, t, U', L, E, ce, hT, X', hL, e1, e2, hq, hce, hcv, vx_cls hW₁ hcl, st⟩
end VXIB
/-! ===== END ===== -/
/-! ===== BEGIN .. of methods that hand back an object of the pool ===== -/
section
variable {p : Program} {l : Launch} {e : Env} {R : Room} {s : State} {m : MethodId} {args : Array Value} {below : List Frame} {meth : Method} {c : Code} {H : Heap} {locs : List Loc} {cells slots : Nat} {Q : State → Prop}
variable {mc ms : Nat} {free : Addr → Prop} {A0 A1 : Nat → Prop} {H0 : Heap} {a : Array Value} {pc : Nat} {ls : Array Slot} {st0 rest : List Value}
theorem vx_callq {S SX : Type} {post : Option Nat → S → Prop} {px : SX → Prop} {B : S → State → Prop} {BX : String → SX → State → Prop} {AX : Nat → Prop} (hr : vx_Run p l e R s m args below meth c H locs cells slots mc ms (F0 m pc ls st0) rest (va_Qq post B A1 a) (vx_X px BX AX) free) (hS : va_S A0 H0 H locs) (hA : ∀ q, q < H.size → A1 q → A0 q) (hf : ∀ q, free q → A0 q) (hAX : ∀ q, q < H.size → AX q → A0 q)
    (kx : ∀ (E : String) (ce : Cell) (q9 : Addr) (u : SX) (t : State) (H1 : Heap) (locs1 : List Loc), t.heap = H1 → s.vm.Alike t.vm → px u → BX E u t → H.size ≤ H1.size → (∀ q : Nat, q < H.size → ¬ AX q → H1[q]? = H[q]?) → va_S A0 H0 H1 locs1 → H1[q9]? = some ce → ce.vm = .none → s.vm.findClass E = some ce.cls → vx_W p l e R s m args below meth c H1 locs1 (cells + mc) (slots + ms) Q (F0 m pc ls rest) q9)
    (kk : ∀ (r : Option Nat) (u : S) (t : State) (H1 : Heap) (locs1 : List Loc), t.heap = H1 → s.vm.Alike t.vm → post r u → B u t → H.size ≤ H1.size → (∀ q : Nat, q < H.size → ¬ A1 q → H1[q]? = H[q]?) → va_S A0 H0 H1 locs1 → W p l e R s m args below meth c H1 locs1 (cells + mc) (slots + ms) Q (F0 m (pc + 3) ls (va_rf r :: rest))) : W p l e R s m args below meth c H locs cells slots Q (F0 m pc ls st0) := by
  intro T hT X
  rcases hr T hT X with ⟨v, st₀, t, T', L, h0, X', hL, e1, e2, ⟨⟨r, u, hv, hp, hb⟩, hF⟩, st⟩ | ⟨q, st₀, t, T', L, E, ce, h0, X', hL, e1, e2, ⟨u, hp, hb, hF⟩, hce, hcv, hcl, st⟩
  · cases hv
    obtain ⟨k1, k2, k3⟩ := vx_keep h0 e1 hS hA hf hL hF
    obtain ⟨t2, a1, b1⟩ := kk r u t T'.heap (locs ++ L) e1.symm (by rw [← e2]; exact X'.warmed.alike) hp hb k1 k2 k3 T' rfl X'
    exact ⟨t2, st t2 a1, b1⟩
  · obtain ⟨k1, k2, k3⟩ := vx_keep h0 e1 hS hAX hf hL hF
    obtain ⟨t2, a1, b1⟩ := kx E ce q u t T'.heap (locs ++ L) e1.symm (by rw [← e2]; exact X'.warmed.alike) hp hb k1 k2 k3 (by rw [e1]; exact hce) hcv hcl T' rfl X'
    exact ⟨t2, st.trans a1, b1⟩
end
/-! ===== END ===== -/
end
section
/-! THE MEMORY: a pool of cells by address; fields as functions (field, address) ↦ value. Own work. -/
abbrev mmS : Type := List Nat × (Nat → Nat) × (Nat → Nat → Int32) × (Nat → Nat → Option Nat) × (Nat → Nat) × (Nat → Nat → Int32) × (Nat → Nat → Option Nat) × (Nat → Nat → Int64)
/-- the pool, the kinds, int fields, reference fields, lengths, int rows, reference rows, long rows -/
def mL (S : mmS) : List Nat := S.1
def mK (S : mmS) : Nat → Nat := S.2.1
def mI (S : mmS) : Nat → Nat → Int32 := S.2.2.1
def mR (S : mmS) : Nat → Nat → Option Nat := S.2.2.2.1
def mN (S : mmS) : Nat → Nat := S.2.2.2.2.1
def mA (S : mmS) : Nat → Nat → Int32 := S.2.2.2.2.2.1
def mQ (S : mmS) : Nat → Nat → Option Nat := S.2.2.2.2.2.2.1
def mJ (S : mmS) : Nat → Nat → Int64 := S.2.2.2.2.2.2.2
def mu2 {α : Type} (f : Nat → Nat → α) (k a : Nat) (v : α) : Nat → Nat → α := fun k' a' => if k' = k ∧ a' = a then v else f k' a'
def mrw {α : Type} (f : Nat → Nat → α) (a : Nat) (r : Nat → α) : Nat → Nat → α := fun a' i => if a' = a then r i else f a' i
def sI (S : mmS) (f a : Nat) (v : Int32) : mmS := (mL S, mK S, mu2 (mI S) f a v, mR S, mN S, mA S, mQ S, mJ S)
def sR (S : mmS) (f a : Nat) (v : Option Nat) : mmS := (mL S, mK S, mI S, mu2 (mR S) f a v, mN S, mA S, mQ S, mJ S)
def sA (S : mmS) (a i : Nat) (v : Int32) : mmS := (mL S, mK S, mI S, mR S, mN S, mu2 (mA S) a i v, mQ S, mJ S)
def sQ (S : mmS) (a i : Nat) (v : Option Nat) : mmS := (mL S, mK S, mI S, mR S, mN S, mA S, mu2 (mQ S) a i v, mJ S)
def sJ (S : mmS) (a i : Nat) (v : Int64) : mmS := (mL S, mK S, mI S, mR S, mN S, mA S, mQ S, mu2 (mJ S) a i v)
def sAr (S : mmS) (a : Nat) (r : Nat → Int32) : mmS := (mL S, mK S, mI S, mR S, mN S, mrw (mA S) a r, mQ S, mJ S)
def sQr (S : mmS) (a : Nat) (r : Nat → Option Nat) : mmS := (mL S, mK S, mI S, mR S, mN S, mA S, mrw (mQ S) a r, mJ S)
def sNo (S : mmS) (a k : Nat) : mmS := (mL S ++ [a], va_up (mK S) a k, fun f b => if b = a then 0 else mI S f b, fun f b => if b = a then none else mR S f b, mN S, mA S, mQ S, mJ S)
def sNa (S : mmS) (a n : Nat) : mmS := (mL S ++ [a], va_up (mK S) a 7, mI S, mR S, va_up (mN S) a n, mrw (mA S) a (fun _ => 0), mQ S, mJ S)
def sNq (S : mmS) (a n : Nat) : mmS := (mL S ++ [a], va_up (mK S) a 8, mI S, mR S, va_up (mN S) a n, mA S, mrw (mQ S) a (fun _ => none), mJ S)
def sNj (S : mmS) (a n : Nat) : mmS := (mL S ++ [a], va_up (mK S) a 9, mI S, mR S, va_up (mN S) a n, mA S, mQ S, mrw (mJ S) a (fun _ => 0))
/-- the fields of a kind: is it a reference, its number among those of its sort -/
def mFl : Nat → List (Bool × Nat)
  | 0 => [(false, 0), (false, 1), (false, 2), (false, 3), (false, 4), (false, 5)]
  | 1 => [(false, 6), (true, 0), (false, 7), (false, 8), (false, 9), (false, 10), (false, 11), (false, 12), (false, 13)]
  | 2 => [(true, 1), (true, 2), (false, 14), (true, 3), (true, 4), (true, 5)]
  | 3 => [(false, 15), (false, 16), (false, 17), (false, 18), (false, 19), (false, 20), (true, 6), (true, 7)]
  | 4 => [(true, 8), (true, 9), (true, 10), (true, 11), (true, 12), (false, 21), (false, 22)]
  | 5 => [(false, 0), (false, 1), (false, 2), (false, 3), (false, 4), (false, 5)]
  | 6 => [(false, 30), (true, 25), (false, 31)]
  | _ => []
def mF1 (S : mmS) (a : Nat) (q : Bool × Nat) : Value := if q.1 then va_rf (mR S q.2 a) else .int (mI S q.2 a)
def mF (S : mmS) (k a : Nat) : List Value := (mFl k).map (mF1 S a)
/-- base, classes, the classes of int[], Object[]; the script: its cell, its length, its ints; ArrayList's empty array, Object[].class -/
abbrev mG : Type := Nat × va_G × ClassId × ClassId × (Nat × Nat × (Nat → Int32)) × (Nat × Nat)
def mB (g : mG) : Nat → Prop := fun q => g.1 ≤ q
abbrev mT (g : mG) : List (ClassId × FieldType) := [(g.2.2.1, .int), (g.2.2.2.1, .object "java/lang/Object"), (g.2.2.1, .int)]
abbrev mCl : List vw_C := [(RX0, TX0, 6), (RX1, TX1, 9), (RX2, TX2, 6), (RX3, TX3, 8), (RX4, TX4, 7), (RX0, TX0, 6), (RJx4a65c, TJx4a65c, 3)]
def mE (g : mG) (S : mmS) (a : Nat) : va_E := if mK S a = 7 then .inl (g.2.2.1, mN S a, .inl (mA S a)) else if mK S a = 8 then .inl (g.2.2.2.1, mN S a, .inr (.inr (.inr (.inr (mQ S a))))) else if mK S a = 9 then .inl (g.2.2.1, mN S a, .inr (.inl (mJ S a))) else .inr (mK S a, mF S (mK S a) a)
def mW (g : mG) (S : mmS) : va_W := va_pl (mL S) (mE g S)
theorem mix (g : mG) (S : mmS) {a : Nat} (h : a ∈ mL S) : ∃ k : Nat, (mW g S)[k]? = some (a, mE g S a) := va_pl_get (X := []) h
theorem mE_o (g : mG) {S : mmS} {a k : Nat} (hk : mK S a = k) (h7 : k < 7) : mE g S a = .inr (k, mF S k a) := by
  unfold mE
  rw [hk, if_neg (by omega), if_neg (by omega), if_neg (by omega)]
theorem mE_7 (g : mG) {S : mmS} {a : Nat} (hk : mK S a = 7) : mE g S a = .inl (g.2.2.1, mN S a, .inl (mA S a)) := by
  unfold mE
  rw [hk, if_pos rfl]
theorem mE_8 (g : mG) {S : mmS} {a : Nat} (hk : mK S a = 8) : mE g S a = .inl (g.2.2.2.1, mN S a, .inr (.inr (.inr (.inr (mQ S a))))) := by
  unfold mE
  rw [hk, if_neg (by omega), if_pos rfl]
theorem mE_9 (g : mG) {S : mmS} {a : Nat} (hk : mK S a = 9) : mE g S a = .inl (g.2.2.1, mN S a, .inr (.inl (mJ S a))) := by
  unfold mE
  rw [hk, if_neg (by omega), if_neg (by omega), if_pos rfl]
theorem mset (g : mG) {S S' : mmS} {A : Nat → Prop} {a k : Nat} {e : va_E} (hD : va_D A (mW g S)) (h : a ∈ mL S) (hk : (mW g S)[k]? = some (a, mE g S a)) (hL : mL S' = mL S) (he : ∀ b, va_up (mE g S) a e b = mE g S' b) : (mW g S).set k (a, e) = mW g S' := by
  have h1 : (([] : va_W) ++ va_pl (mL S) (mE g S)).set k (a, e) = [] ++ va_pl (mL S) (va_up (mE g S) a e) := va_pl_set (X := []) hD h hk
  show (va_pl (mL S) (mE g S)).set k (a, e) = va_pl (mL S') (mE g S')
  rw [hL, ← va_pl_congr he]
  exact h1
theorem mpush (g : mG) {S S' : mmS} {a : Nat} {e : va_E} (h : a ∉ mL S) (hL : mL S' = mL S ++ [a]) (he : ∀ b, va_up (mE g S) a e b = mE g S' b) : mW g S ++ [(a, e)] = mW g S' := by
  show va_pl (mL S) (mE g S) ++ [(a, e)] = va_pl (mL S') (mE g S')
  rw [hL, ← va_pl_congr he]
  exact va_pl_push h
theorem mE_ne (g : mG) {S S' : mmS} {b : Nat} (h1 : mK S' b = mK S b) (h2 : mN S' b = mN S b) (h3 : mA S' b = mA S b) (h4 : mQ S' b = mQ S b) (h5 : mJ S' b = mJ S b) (h6 : ∀ f, mI S' f b = mI S f b) (h7 : ∀ f, mR S' f b = mR S f b) : mE g S b = mE g S' b := by
  have hF : mF1 S' b = mF1 S b := by
    funext q
    unfold mF1
    rw [h6, h7]
  unfold mE mF
  rw [h1, h2, h3, h4, h5, hF]
theorem mE_sI (g : mG) {S : mmS} {a k j f : Nat} {v : Int32} (hk : mK S a = k) (h7 : k < 7) (hj : (mFl k)[j]? = some (false, f)) (hu : ∀ i, (mFl k)[i]? = some (false, f) → i = j) (b : Nat) : va_up (mE g S) a (.inr (k, (mF S k a).set j (.int v))) b = mE g (sI S f a v) b := by
  by_cases hb : b = a
  · subst hb
    rw [va_up_self, mE_o g (S := sI S f b v) hk h7]
    congr 2
    apply List.ext_getElem?
    intro i
    have hlen : j < (mFl k).length := (List.getElem?_eq_some_iff.mp hj).1
    unfold mF
    rw [List.getElem?_set, List.getElem?_map, List.getElem?_map, List.length_map]
    by_cases hij : j = i
    · subst hij
      rw [if_pos rfl, if_pos hlen, hj]
      simp [mF1, sI, mI, mu2]
    · rw [if_neg hij]
      cases hq : (mFl k)[i]? with
      | none => rfl
      | some q =>
        obtain ⟨r, f2⟩ := q
        cases r
        · have hf : f2 ≠ f := fun e => hij (by subst e; exact (hu i hq).symm)
          simp [mF1, sI, mI, mu2, hf]
        · simp [mF1, sI, mR]
  · rw [va_up_ne _ _ hb]
    refine mE_ne g rfl rfl rfl rfl rfl (fun f' => ?_) (fun f' => rfl)
    show mu2 (mI S) f a v f' b = _
    simp [mu2, hb]
theorem mE_sR (g : mG) {S : mmS} {a k j f : Nat} {v : Option Nat} (hk : mK S a = k) (h7 : k < 7) (hj : (mFl k)[j]? = some (true, f)) (hu : ∀ i, (mFl k)[i]? = some (true, f) → i = j) (b : Nat) : va_up (mE g S) a (.inr (k, (mF S k a).set j (va_rf v))) b = mE g (sR S f a v) b := by
  by_cases hb : b = a
  · subst hb
    rw [va_up_self, mE_o g (S := sR S f b v) hk h7]
    congr 2
    apply List.ext_getElem?
    intro i
    have hlen : j < (mFl k).length := (List.getElem?_eq_some_iff.mp hj).1
    unfold mF
    rw [List.getElem?_set, List.getElem?_map, List.getElem?_map, List.length_map]
    by_cases hij : j = i
    · subst hij
      rw [if_pos rfl, if_pos hlen, hj]
      simp [mF1, sR, mR, mu2]
    · rw [if_neg hij]
      cases hq : (mFl k)[i]? with
      | none => rfl
      | some q =>
        obtain ⟨r, f2⟩ := q
        cases r
        · simp [mF1, sR, mI]
        · have hf : f2 ≠ f := fun e => hij (by subst e; exact (hu i hq).symm)
          simp [mF1, sR, mR, mu2, hf]
  · rw [va_up_ne _ _ hb]
    refine mE_ne g rfl rfl rfl rfl rfl (fun f' => rfl) (fun f' => ?_)
    show mu2 (mR S) f a v f' b = _
    simp [mu2, hb]
theorem mrow_self {α : Type} (f : Nat → Nat → α) (a i : Nat) (v : α) : (fun j => if j = i then v else f a j) = mu2 f a i v a := by
  funext j
  simp [mu2]
theorem mE_sA (g : mG) {S : mmS} {a i : Nat} {v : Int32} (hk : mK S a = 7) (b : Nat) : va_up (mE g S) a (.inl (g.2.2.1, mN S a, .inl (upd (mA S a) i v))) b = mE g (sA S a i v) b := by
  by_cases hb : b = a
  · subst hb
    rw [va_up_self, mE_7 g (S := sA S b i v) hk]
    have h : upd (mA S b) i v = mA (sA S b i v) b := mrow_self (mA S) b i v
    rw [h]; rfl
  · rw [va_up_ne _ _ hb]
    refine mE_ne g rfl rfl ?_ rfl rfl (fun f' => rfl) (fun f' => rfl)
    funext j
    show mu2 (mA S) a i v b j = _
    simp [mu2, hb]
theorem mE_sQ (g : mG) {S : mmS} {a i : Nat} {v : Option Nat} (hk : mK S a = 8) (b : Nat) : va_up (mE g S) a (.inl (g.2.2.2.1, mN S a, .inr (.inr (.inr (.inr (va_up (mQ S a) i v)))))) b = mE g (sQ S a i v) b := by
  by_cases hb : b = a
  · subst hb
    rw [va_up_self, mE_8 g (S := sQ S b i v) hk]
    have h : va_up (mQ S b) i v = mQ (sQ S b i v) b := mrow_self (mQ S) b i v
    rw [h]; rfl
  · rw [va_up_ne _ _ hb]
    refine mE_ne g rfl rfl rfl ?_ rfl (fun f' => rfl) (fun f' => rfl)
    funext j
    show mu2 (mQ S) a i v b j = _
    simp [mu2, hb]
theorem mE_sJ (g : mG) {S : mmS} {a i : Nat} {v : Int64} (hk : mK S a = 9) (b : Nat) : va_up (mE g S) a (.inl (g.2.2.1, mN S a, .inr (.inl (vp_updL (mJ S a) i v)))) b = mE g (sJ S a i v) b := by
  by_cases hb : b = a
  · subst hb
    rw [va_up_self, mE_9 g (S := sJ S b i v) hk]
    have h : vp_updL (mJ S b) i v = mJ (sJ S b i v) b := mrow_self (mJ S) b i v
    rw [h]; rfl
  · rw [va_up_ne _ _ hb]
    refine mE_ne g rfl rfl rfl rfl ?_ (fun f' => rfl) (fun f' => rfl)
    funext j
    show mu2 (mJ S) a i v b j = _
    simp [mu2, hb]
theorem mE_sAr (g : mG) {S : mmS} {a : Nat} {r : Nat → Int32} (hk : mK S a = 7) (b : Nat) : va_up (mE g S) a (.inl (g.2.2.1, mN S a, .inl r)) b = mE g (sAr S a r) b := by
  by_cases hb : b = a
  · subst hb
    rw [va_up_self, mE_7 g (S := sAr S b r) hk]
    have h : r = mA (sAr S b r) b := by
      funext j
      simp [mA, sAr, mrw]
    rw [← h]; rfl
  · rw [va_up_ne _ _ hb]
    refine mE_ne g rfl rfl ?_ rfl rfl (fun f' => rfl) (fun f' => rfl)
    funext j
    show mrw (mA S) a r b j = _
    simp [mrw, hb]
theorem mE_sQr (g : mG) {S : mmS} {a : Nat} {r : Nat → Option Nat} (hk : mK S a = 8) (b : Nat) : va_up (mE g S) a (.inl (g.2.2.2.1, mN S a, .inr (.inr (.inr (.inr r))))) b = mE g (sQr S a r) b := by
  by_cases hb : b = a
  · subst hb
    rw [va_up_self, mE_8 g (S := sQr S b r) hk]
    have h : r = mQ (sQr S b r) b := by
      funext j
      simp [mQ, sQr, mrw]
    rw [← h]; rfl
  · rw [va_up_ne _ _ hb]
    refine mE_ne g rfl rfl rfl ?_ rfl (fun f' => rfl) (fun f' => rfl)
    funext j
    show mrw (mQ S) a r b j = _
    simp [mrw, hb]
theorem mE_sNa (g : mG) {S : mmS} {a n : Nat} (b : Nat) : va_up (mE g S) a (.inl (g.2.2.1, n, .inl (fun _ => 0))) b = mE g (sNa S a n) b := by
  by_cases hb : b = a
  · subst hb
    have hk : mK (sNa S b n) b = 7 := va_up_self _ _ _
    rw [va_up_self, mE_7 g hk]
    have h1 : mN (sNa S b n) b = n := va_up_self _ _ _
    have h : mA (sNa S b n) b = fun _ => 0 := by
      funext j
      simp [mA, sNa, mrw]
    rw [h, h1]
  · rw [va_up_ne _ _ hb]
    refine mE_ne g (va_up_ne _ _ hb) (va_up_ne _ _ hb) ?_ rfl rfl (fun f' => rfl) (fun f' => rfl)
    funext j
    simp [mA, sNa, mrw, hb]
theorem mE_sNq (g : mG) {S : mmS} {a n : Nat} (b : Nat) : va_up (mE g S) a (.inl (g.2.2.2.1, n, .inr (.inr (.inr (.inr (fun _ => none)))))) b = mE g (sNq S a n) b := by
  by_cases hb : b = a
  · subst hb
    have hk : mK (sNq S b n) b = 8 := va_up_self _ _ _
    rw [va_up_self, mE_8 g hk]
    have h1 : mN (sNq S b n) b = n := va_up_self _ _ _
    have h : mQ (sNq S b n) b = fun _ => none := by
      funext j
      simp [mQ, sNq, mrw]
    rw [h, h1]
  · rw [va_up_ne _ _ hb]
    refine mE_ne g (va_up_ne _ _ hb) (va_up_ne _ _ hb) rfl ?_ rfl (fun f' => rfl) (fun f' => rfl)
    funext j
    simp [mQ, sNq, mrw, hb]
theorem mE_sNj (g : mG) {S : mmS} {a n : Nat} (b : Nat) : va_up (mE g S) a (.inl (g.2.2.1, n, .inr (.inl (fun _ => 0)))) b = mE g (sNj S a n) b := by
  by_cases hb : b = a
  · subst hb
    have hk : mK (sNj S b n) b = 9 := va_up_self _ _ _
    rw [va_up_self, mE_9 g hk]
    have h1 : mN (sNj S b n) b = n := va_up_self _ _ _
    have h : mJ (sNj S b n) b = fun _ => 0 := by
      funext j
      simp [mJ, sNj, mrw]
    rw [h, h1]
  · rw [va_up_ne _ _ hb]
    refine mE_ne g (va_up_ne _ _ hb) (va_up_ne _ _ hb) rfl rfl ?_ (fun f' => rfl) (fun f' => rfl)
    funext j
    simp [mJ, sNj, mrw, hb]
theorem mE_sNo (g : mG) {S : mmS} {a k : Nat} (h7 : k < 7) (b : Nat) : va_up (mE g S) a (.inr (k, (mFl k).map (fun q => if q.1 then .null else .int 0))) b = mE g (sNo S a k) b := by
  by_cases hb : b = a
  · subst hb
    have hk : mK (sNo S b k) b = k := va_up_self _ _ _
    rw [va_up_self, mE_o g hk h7]
    congr 2
    unfold mF
    apply List.map_congr_left
    intro q _
    obtain ⟨r, f⟩ := q
    cases r <;> simp [mF1, sNo, mI, mR, va_rf]
  · rw [va_up_ne _ _ hb]
    refine mE_ne g (va_up_ne _ _ hb) rfl rfl rfl rfl (fun f' => ?_) (fun f' => ?_)
    · show (if b = a then 0 else mI S f' b) = _
      rw [if_neg hb]
    · show (if b = a then none else mR S f' b) = _
      rw [if_neg hb]
end
section
/-! OWN ROWS over the memory: the world of a state, its contracts, one row an instruction. Written by wip/p28/rows_head.py. -/
def mCa : List (String × String) := [(RX0, "java/lang/Object"), (RX1, "java/lang/Object"), (RX2, "java/lang/Object"), (RX3, "java/lang/Object"), (RX4, "java/lang/Object"), (RJx4a65c, "java/lang/Object")]
/-- what holds of the tables and of the cells that nobody writes -/
def mX (g : mG) (U : State) : Prop := g.1 ≤ U.heap.size ∧ va_K g.2.1 mCl (mT g) U ∧ True ∧ True ∧ va_Z "java/util/ArrayList" "DEFAULTCAPACITY_EMPTY_ELEMENTDATA" "[Ljava/lang/Object;" (.ref g.2.2.2.2.2.1) (mB g) U U.heap ∧ va_T (.object "java/lang/Object") g.2.2.2.2.2.1 0 (fun _ => .null) (mB g) U U.heap ∧ va_AO "java/lang/Object" U ∧ va_Mi "[Ljava/lang/Object;" g.2.2.2.2.2.2 U ∧ va_Dc U ∧ True ∧ (∀ q ∈ mCa, va_Nw (.castable q.1 q.2) U) ∧ va_X g.2.2.2.2.1.1 g.2.2.2.2.1.2.1 g.2.2.2.2.1.2.2 U U.heap ∧ g.2.2.2.2.1.1 < U.heap.size ∧ ¬ mB g g.2.2.2.2.1.1
theorem mX_x {g : mG} {s : State} (h : mX g s) : va_X g.2.2.2.2.1.1 g.2.2.2.2.1.2.1 g.2.2.2.2.1.2.2 s s.heap := h.2.2.2.2.2.2.2.2.2.2.2.1
theorem mX_l {g : mG} {s : State} (h : mX g s) : g.2.2.2.2.1.1 < s.heap.size := h.2.2.2.2.2.2.2.2.2.2.2.2.1
theorem mX_a {g : mG} {s : State} (h : mX g s) : ¬ mB g g.2.2.2.2.1.1 := h.2.2.2.2.2.2.2.2.2.2.2.2.2
theorem mX_mv {g : mG} {s U : State} {H : Heap} {locs : List Loc} (h : mX g s) (hS : va_S (mB g) s.heap H locs) (e : U.heap = H) (hW : s.WarmedH U.vm) : mX g U := by
  obtain ⟨h1, h2, h3, h4, h5, h6, h7, h8, h9, h10, h11, h12, h13⟩ := h
  subst e
  exact ⟨Nat.le_trans h1 hS.1, va_K.moved hW.alike h2, trivial, trivial, va_Z.moved hW.alike (h5.kept hS.2.1), va_T.moved hW.alike (h6.kept hS.2.1), va_AO.moved hW.alike h7, va_Mi.moved hW.alike h8, va_Dc.moved hW.alike h9, trivial, fun q hq => va_Nw.warmC hW (h11 q hq), va_X.moved hW.alike (h12.kept (hS.2.1 _ h13.1 h13.2)), Nat.lt_of_lt_of_le h13.1 hS.1, h13.2⟩
def wO (g : mG) (S : mmS) (t : State) : Prop := va_P g.2.1 mCl (mW g S) t.heap ∧ va_D (mB g) (mW g S)
def wI (g : mG) (S : mmS) (U : State) : Prop := mX g U ∧ wO g S U
def mH (g : mG) (S : mmS) (s : State) (H : Heap) (locs : List Loc) : Prop := va_P g.2.1 mCl (mW g S) H ∧ va_D (mB g) (mW g S) ∧ va_S (mB g) s.heap H locs
theorem wI_bl {g : mG} {S : mmS} {U : State} {f : JFrame} {mk : MethodId} {a : Array Value} (h : wI g S U) : wI g S (U.calling f mk a) := ⟨mX_mv h.1 (locs := []) va_S.rf (U := U.calling f mk a) rfl (State.WarmedH.refl U), h.2⟩
theorem wI_in {g : mG} {S : mmS} {s U : State} {H : Heap} {locs : List Loc} (hs : mX g s) (hH : mH g S s H locs) (e : U.heap = H) (hW : s.WarmedH U.vm) : wI g S U := ⟨mX_mv hs hH.2.2 e hW, by unfold wO; rw [e]; exact ⟨hH.1, hH.2.1⟩⟩
theorem mB_of {g : mG} {S : mmS} {s : State} {H : Heap} {locs : List Loc} (hs : mX g s) (hH : mH g S s H locs) : ∀ q, s.heap.size ≤ q → mB g q := fun q h => Nat.le_trans hs.1 h
def mCs (k : Nat) (C : String) (T : u_T) (N : Nat) (ty : Nat → FieldType) : Prop := mCl[k]? = some (C, T, N) ∧ k < 7 ∧ (∀ j, j < N → parseFieldDescriptor (T j).2.2.1 = some (ty j)) ∧ (∀ a, a < N → ∀ b, b < N → a ≠ b → (T a).2.1 ≠ (T b).2.1)
theorem cs0 : mCs 0 RX0 TX0 6 tyX0 := ⟨rfl, by decide, tyX0_ok, nmX0⟩
theorem cs1 : mCs 1 RX1 TX1 9 tyX1 := ⟨rfl, by decide, tyX1_ok, nmX1⟩
theorem cs2 : mCs 2 RX2 TX2 6 tyX2 := ⟨rfl, by decide, tyX2_ok, nmX2⟩
theorem cs3 : mCs 3 RX3 TX3 8 tyX3 := ⟨rfl, by decide, tyX3_ok, nmX3⟩
theorem cs4 : mCs 4 RX4 TX4 7 tyX4 := ⟨rfl, by decide, tyX4_ok, nmX4⟩
theorem cs5 : mCs 5 RX0 TX0 6 tyX0 := ⟨rfl, by decide, tyX0_ok, nmX0⟩
theorem cs6 : mCs 6 RJx4a65c TJx4a65c 3 tyJx4a65c := ⟨rfl, by decide, tyJx4a65c_ok, nmJx4a65c⟩
def mFs (k j : Nat) (r : Bool) (f N : Nat) : Prop := (mFl k)[j]? = some (r, f) ∧ (∀ i, (mFl k)[i]? = some (r, f) → i = j) ∧ j < N
theorem mFs_of {k j : Nat} {r : Bool} {f N : Nat} (h1 : (mFl k)[j]? = some (r, f)) (h2 : ∀ i, i < (mFl k).length → (mFl k)[i]? = some (r, f) → i = j) (h3 : j < N) : mFs k j r f N := ⟨h1, fun i hi => h2 i (List.getElem?_eq_some_iff.mp hi).1 hi, h3⟩
theorem fs0_0 : mFs 0 0 false 0 6 := mFs_of rfl (by decide) (by decide)
theorem fs0_1 : mFs 0 1 false 1 6 := mFs_of rfl (by decide) (by decide)
theorem fs0_2 : mFs 0 2 false 2 6 := mFs_of rfl (by decide) (by decide)
theorem fs0_3 : mFs 0 3 false 3 6 := mFs_of rfl (by decide) (by decide)
theorem fs0_4 : mFs 0 4 false 4 6 := mFs_of rfl (by decide) (by decide)
theorem fs0_5 : mFs 0 5 false 5 6 := mFs_of rfl (by decide) (by decide)
theorem fs1_0 : mFs 1 0 false 6 9 := mFs_of rfl (by decide) (by decide)
theorem fs1_1 : mFs 1 1 true 0 9 := mFs_of rfl (by decide) (by decide)
theorem fs1_2 : mFs 1 2 false 7 9 := mFs_of rfl (by decide) (by decide)
theorem fs1_3 : mFs 1 3 false 8 9 := mFs_of rfl (by decide) (by decide)
theorem fs1_4 : mFs 1 4 false 9 9 := mFs_of rfl (by decide) (by decide)
theorem fs1_5 : mFs 1 5 false 10 9 := mFs_of rfl (by decide) (by decide)
theorem fs1_6 : mFs 1 6 false 11 9 := mFs_of rfl (by decide) (by decide)
theorem fs1_7 : mFs 1 7 false 12 9 := mFs_of rfl (by decide) (by decide)
theorem fs1_8 : mFs 1 8 false 13 9 := mFs_of rfl (by decide) (by decide)
theorem fs2_0 : mFs 2 0 true 1 6 := mFs_of rfl (by decide) (by decide)
theorem fs2_1 : mFs 2 1 true 2 6 := mFs_of rfl (by decide) (by decide)
theorem fs2_2 : mFs 2 2 false 14 6 := mFs_of rfl (by decide) (by decide)
theorem fs2_3 : mFs 2 3 true 3 6 := mFs_of rfl (by decide) (by decide)
theorem fs2_4 : mFs 2 4 true 4 6 := mFs_of rfl (by decide) (by decide)
theorem fs2_5 : mFs 2 5 true 5 6 := mFs_of rfl (by decide) (by decide)
theorem fs3_0 : mFs 3 0 false 15 8 := mFs_of rfl (by decide) (by decide)
theorem fs3_1 : mFs 3 1 false 16 8 := mFs_of rfl (by decide) (by decide)
theorem fs3_2 : mFs 3 2 false 17 8 := mFs_of rfl (by decide) (by decide)
theorem fs3_3 : mFs 3 3 false 18 8 := mFs_of rfl (by decide) (by decide)
theorem fs3_4 : mFs 3 4 false 19 8 := mFs_of rfl (by decide) (by decide)
theorem fs3_5 : mFs 3 5 false 20 8 := mFs_of rfl (by decide) (by decide)
theorem fs3_6 : mFs 3 6 true 6 8 := mFs_of rfl (by decide) (by decide)
theorem fs3_7 : mFs 3 7 true 7 8 := mFs_of rfl (by decide) (by decide)
theorem fs4_0 : mFs 4 0 true 8 7 := mFs_of rfl (by decide) (by decide)
theorem fs4_1 : mFs 4 1 true 9 7 := mFs_of rfl (by decide) (by decide)
theorem fs4_2 : mFs 4 2 true 10 7 := mFs_of rfl (by decide) (by decide)
theorem fs4_3 : mFs 4 3 true 11 7 := mFs_of rfl (by decide) (by decide)
theorem fs4_4 : mFs 4 4 true 12 7 := mFs_of rfl (by decide) (by decide)
theorem fs4_5 : mFs 4 5 false 21 7 := mFs_of rfl (by decide) (by decide)
theorem fs4_6 : mFs 4 6 false 22 7 := mFs_of rfl (by decide) (by decide)
theorem fs5_0 : mFs 5 0 false 0 6 := mFs_of rfl (by decide) (by decide)
theorem fs5_1 : mFs 5 1 false 1 6 := mFs_of rfl (by decide) (by decide)
theorem fs5_2 : mFs 5 2 false 2 6 := mFs_of rfl (by decide) (by decide)
theorem fs5_3 : mFs 5 3 false 3 6 := mFs_of rfl (by decide) (by decide)
theorem fs5_4 : mFs 5 4 false 4 6 := mFs_of rfl (by decide) (by decide)
theorem fs5_5 : mFs 5 5 false 5 6 := mFs_of rfl (by decide) (by decide)
theorem fs6_0 : mFs 6 0 false 30 3 := mFs_of rfl (by decide) (by decide)
theorem fs6_1 : mFs 6 1 true 25 3 := mFs_of rfl (by decide) (by decide)
theorem fs6_2 : mFs 6 2 false 31 3 := mFs_of rfl (by decide) (by decide)
section MROWS
variable {p : Program} {l : Launch} {e : Env} {R : Room} {s : State} {m : MethodId} {args : Array Value} {below : List Frame} {meth : Method} {c : Code} {H : Heap} {locs : List Loc} {cells slots : Nat} {Q : State → Prop}
variable {cc : ByteArray} {nL pc : Nat} {ls : Array Slot} {rest : List Value} {Ts : List Cond} {own : String} {g : mG} {S : mmS}
theorem m_getI {C ref : String} {T : u_T} {ty : Nat → FieldType} {N k j f index a : Nat} (hC : CallFix p m c cc nL s args Ts own) (hs : mX g s) (hH : mH g S s H locs) (hcs : mCs k C T N ty) (hfs : mFs k j false f N) (hws : ∀ w ∈ u_ws C T N, w ∈ Ts) (hlink : Cond.fieldLink own index ref (T j).2.1 (T j).2.2.1 ∈ Ts) (hsame : ∀ x, s.fieldFound? (T j).1 (T j).2.1 (T j).2.2.1 = some x → s.fieldFound? ref (T j).2.1 (T j).2.2.1 = some x) (ha : a ∈ mL S ∧ mK S a = k) (hdg : decode cc pc = .ok (.getfield index, 3))
    (kk : W p l e R s m args below meth c H locs cells slots Q (F0 m (pc + 3) ls (.int (mI S f a) :: rest))) : W p l e R s m args below meth c H locs cells slots Q (F0 m pc ls (.ref a :: rest)) := by
  obtain ⟨hx, hb, -, hown, hts⟩ := hC
  obtain ⟨q0, hq⟩ := mix g S ha.1
  rw [mE_o g ha.2 hcs.2.1] at hq
  refine va_get (D := g.2.1) (cl := mCl) (tys := mT g) (v := .int (mI S f a)) hx hb hts hws hown hs.2.1 hH.1 q0 hq hcs.1 j hfs.2.2 (hts _ hlink) hsame ?_ hdg kk
  unfold mF
  rw [List.getElem?_map, hfs.1]
  rfl
theorem m_getR {C ref : String} {T : u_T} {ty : Nat → FieldType} {N k j f index a b : Nat} (hC : CallFix p m c cc nL s args Ts own) (hs : mX g s) (hH : mH g S s H locs) (hcs : mCs k C T N ty) (hfs : mFs k j true f N) (hws : ∀ w ∈ u_ws C T N, w ∈ Ts) (hlink : Cond.fieldLink own index ref (T j).2.1 (T j).2.2.1 ∈ Ts) (hsame : ∀ x, s.fieldFound? (T j).1 (T j).2.1 (T j).2.2.1 = some x → s.fieldFound? ref (T j).2.1 (T j).2.2.1 = some x) (ha : a ∈ mL S ∧ mK S a = k) (hr : mR S f a = some b) (hdg : decode cc pc = .ok (.getfield index, 3))
    (kk : W p l e R s m args below meth c H locs cells slots Q (F0 m (pc + 3) ls (.ref b :: rest))) : W p l e R s m args below meth c H locs cells slots Q (F0 m pc ls (.ref a :: rest)) := by
  obtain ⟨hx, hb, -, hown, hts⟩ := hC
  obtain ⟨q0, hq⟩ := mix g S ha.1
  rw [mE_o g ha.2 hcs.2.1] at hq
  refine va_get (D := g.2.1) (cl := mCl) (tys := mT g) (v := .ref b) hx hb hts hws hown hs.2.1 hH.1 q0 hq hcs.1 j hfs.2.2 (hts _ hlink) hsame ?_ hdg kk
  unfold mF
  rw [List.getElem?_map, hfs.1]
  show some (va_rf (mR S f a)) = _
  rw [hr]
  rfl
theorem mF_len (S : mmS) (k a : Nat) : (mF S k a).length = (mFl k).length := by simp [mF]
theorem m_putI {C ref : String} {T : u_T} {ty : Nat → FieldType} {N k j f index a : Nat} {v : Int32} (hC : CallFix p m c cc nL s args Ts own) (hs : mX g s) (hH : mH g S s H locs) (hcs : mCs k C T N ty) (hfs : mFs k j false f N) (hws : ∀ w ∈ u_ws C T N, w ∈ Ts) (hlink : Cond.fieldLink own index ref (T j).2.1 (T j).2.2.1 ∈ Ts) (hsame : ∀ x, s.fieldFound? (T j).1 (T j).2.1 (T j).2.2.1 = some x → s.fieldFound? ref (T j).2.1 (T j).2.2.1 = some x) (hfin : (T j).2.2.2 = false ∨ ((T j).2.2.2 = true ∧ meth.name = "<init>" ∧ (T j).1 = own)) (hty : ty j = .int) (ha : a ∈ mL S ∧ mK S a = k) (hdg : decode cc pc = .ok (.putfield index, 3))
    (kk : ∀ (H1 : Heap) (locs1 : List Loc), mH g (sI S f a v) s H1 locs1 → W p l e R s m args below meth c H1 locs1 cells slots Q (F0 m (pc + 3) ls rest)) : W p l e R s m args below meth c H locs cells slots Q (F0 m pc ls (.int v :: .ref a :: rest)) := by
  obtain ⟨hx, hb, -, hown, hts⟩ := hC
  obtain ⟨q0, hq0⟩ := mix g S ha.1
  have hq := hq0
  rw [mE_o g ha.2 hcs.2.1] at hq
  have hd : parseFieldDescriptor (T j).2.2.1 = some .int := by rw [hcs.2.2.1 j hfs.2.2, hty]
  have hlen : j < (mF S k a).length := by rw [mF_len]; exact (List.getElem?_eq_some_iff.mp hfs.1).1
  have he := mset g hH.2.1 ha.1 hq0 (S' := sI S f a v) rfl (mE_sI g ha.2 hcs.2.1 hfs.1 hfs.2.1)
  have fin : ∀ (H1 : Heap) (locs1 : List Loc), va_P g.2.1 mCl ((mW g S).set q0 (a, .inr (k, (mF S k a).set j (.int v)))) H1 → va_D (mB g) ((mW g S).set q0 (a, .inr (k, (mF S k a).set j (.int v)))) → va_S (mB g) s.heap H1 locs1 → W p l e R s m args below meth c H1 locs1 cells slots Q (F0 m (pc + 3) ls rest) := by
    intro H1 locs1 hP hD hS
    rw [he] at hP hD
    exact kk H1 locs1 ⟨hP, hD, hS⟩
  rcases hfin with hfin | ⟨hfin, hin, hdecl⟩
  · exact va_put (D := g.2.1) (cl := mCl) (tys := mT g) (A := mB g) (ty := .int) (v := .int v) hx hb hts hws ty hcs.2.2.1 hcs.2.2.2 hown hs.2.1 hH.1 hH.2.1 hH.2.2 q0 hq hcs.1 j hfs.2.2 (hts _ hlink) hsame hfin hd rfl rfl hlen hdg fin
  · exact va_putF (D := g.2.1) (cl := mCl) (tys := mT g) (A := mB g) (ty := .int) (v := .int v) hx hb hts hws ty hcs.2.2.1 hcs.2.2.2 hown hs.2.1 hH.1 hH.2.1 hH.2.2 q0 hq hcs.1 j hfs.2.2 (hts _ hlink) hsame hfin hin hdecl hd rfl rfl hlen hdg fin
theorem m_putR {C ref : String} {T : u_T} {ty : Nat → FieldType} {N k j f index a b : Nat} (hC : CallFix p m c cc nL s args Ts own) (hs : mX g s) (hH : mH g S s H locs) (hcs : mCs k C T N ty) (hfs : mFs k j true f N) (hws : ∀ w ∈ u_ws C T N, w ∈ Ts) (hlink : Cond.fieldLink own index ref (T j).2.1 (T j).2.2.1 ∈ Ts) (hsame : ∀ x, s.fieldFound? (T j).1 (T j).2.1 (T j).2.2.1 = some x → s.fieldFound? ref (T j).2.1 (T j).2.2.1 = some x) (hfin : (T j).2.2.2 = false ∨ ((T j).2.2.2 = true ∧ meth.name = "<init>" ∧ (T j).1 = own)) (hn : narrow (ty j) (.ref b) = .ref b) (hfit : fits (ty j) (.ref b) = true) (ha : a ∈ mL S ∧ mK S a = k) (hdg : decode cc pc = .ok (.putfield index, 3))
    (kk : ∀ (H1 : Heap) (locs1 : List Loc), mH g (sR S f a (some b)) s H1 locs1 → W p l e R s m args below meth c H1 locs1 cells slots Q (F0 m (pc + 3) ls rest)) : W p l e R s m args below meth c H locs cells slots Q (F0 m pc ls (.ref b :: .ref a :: rest)) := by
  obtain ⟨hx, hb, -, hown, hts⟩ := hC
  obtain ⟨q0, hq0⟩ := mix g S ha.1
  have hq := hq0
  rw [mE_o g ha.2 hcs.2.1] at hq
  have hd : parseFieldDescriptor (T j).2.2.1 = some (ty j) := hcs.2.2.1 j hfs.2.2
  have hlen : j < (mF S k a).length := by rw [mF_len]; exact (List.getElem?_eq_some_iff.mp hfs.1).1
  have he := mset g hH.2.1 ha.1 hq0 (S' := sR S f a (some b)) rfl (mE_sR g (v := some b) ha.2 hcs.2.1 hfs.1 hfs.2.1)
  have fin : ∀ (H1 : Heap) (locs1 : List Loc), va_P g.2.1 mCl ((mW g S).set q0 (a, .inr (k, (mF S k a).set j (.ref b)))) H1 → va_D (mB g) ((mW g S).set q0 (a, .inr (k, (mF S k a).set j (.ref b)))) → va_S (mB g) s.heap H1 locs1 → W p l e R s m args below meth c H1 locs1 cells slots Q (F0 m (pc + 3) ls rest) := by
    intro H1 locs1 hP hD hS
    have he2 : (mW g S).set q0 (a, .inr (k, (mF S k a).set j (.ref b))) = mW g (sR S f a (some b)) := he
    rw [he2] at hP hD
    exact kk H1 locs1 ⟨hP, hD, hS⟩
  rcases hfin with hfin | ⟨hfin, hin, hdecl⟩
  · exact va_put (D := g.2.1) (cl := mCl) (tys := mT g) (A := mB g) (ty := ty j) (v := .ref b) hx hb hts hws ty hcs.2.2.1 hcs.2.2.2 hown hs.2.1 hH.1 hH.2.1 hH.2.2 q0 hq hcs.1 j hfs.2.2 (hts _ hlink) hsame hfin hd hn hfit hlen hdg fin
  · exact va_putF (D := g.2.1) (cl := mCl) (tys := mT g) (A := mB g) (ty := ty j) (v := .ref b) hx hb hts hws ty hcs.2.2.1 hcs.2.2.2 hown hs.2.1 hH.1 hH.2.1 hH.2.2 q0 hq hcs.1 j hfs.2.2 (hts _ hlink) hsame hfin hin hdecl hd hn hfit hlen hdg fin
theorem m_iald {a : Nat} {i : Int32} (hC : CallFix p m c cc nL s args Ts own) (hs : mX g s) (hH : mH g S s H locs) (ha : a ∈ mL S ∧ mK S a = 7) (hin : vp_in i (mN S a)) (hdg : decode cc pc = .ok (.iaload, 1))
    (kk : W p l e R s m args below meth c H locs cells slots Q (F0 m (pc + 1) ls (.int (mA S a i.toNatClampNeg) :: rest))) : W p l e R s m args below meth c H locs cells slots Q (F0 m pc ls (.int i :: .ref a :: rest)) := by
  obtain ⟨q0, hq⟩ := mix g S ha.1
  rw [mE_7 g ha.2] at hq
  exact va_iald (D := g.2.1) (cl := mCl) (tys := mT g) hC.1 hC.2.1 hs.2.1 hH.1 q0 0 hq rfl hin hdg kk
theorem m_iast {a : Nat} {i x : Int32} (hC : CallFix p m c cc nL s args Ts own) (hs : mX g s) (hH : mH g S s H locs) (ha : a ∈ mL S ∧ mK S a = 7) (hin : vp_in i (mN S a)) (hdg : decode cc pc = .ok (.iastore, 1))
    (kk : ∀ (H1 : Heap) (locs1 : List Loc), mH g (sA S a i.toNatClampNeg x) s H1 locs1 → W p l e R s m args below meth c H1 locs1 cells slots Q (F0 m (pc + 1) ls rest)) : W p l e R s m args below meth c H locs cells slots Q (F0 m pc ls (.int x :: .int i :: .ref a :: rest)) := by
  obtain ⟨q0, hq0⟩ := mix g S ha.1
  have hq := hq0
  rw [mE_7 g ha.2] at hq
  have he := mset g hH.2.1 ha.1 hq0 (S' := sA S a i.toNatClampNeg x) rfl (mE_sA g ha.2)
  refine va_iast (D := g.2.1) (cl := mCl) (tys := mT g) (A := mB g) hC.1 hC.2.1 hs.2.1 hH.1 hH.2.1 hH.2.2 q0 0 hq rfl hin hdg (fun H1 locs1 hP hD hS => ?_)
  rw [he] at hP hD
  exact kk H1 locs1 ⟨hP, hD, hS⟩
theorem m_alen {a k : Nat} (hC : CallFix p m c cc nL s args Ts own) (hs : mX g s) (hH : mH g S s H locs) (ha : a ∈ mL S ∧ mK S a = k) (hk : k = 7 ∨ k = 8) (hdg : decode cc pc = .ok (.arraylength, 1))
    (kk : W p l e R s m args below meth c H locs cells slots Q (F0 m (pc + 1) ls (.int (nI (mN S a)) :: rest))) : W p l e R s m args below meth c H locs cells slots Q (F0 m pc ls (.ref a :: rest)) := by
  obtain ⟨q0, hq⟩ := mix g S ha.1
  rcases hk with rfl | rfl
  · rw [mE_7 g ha.2] at hq
    exact va_alen (D := g.2.1) (cl := mCl) (tys := mT g) hC.1 hC.2.1 hs.2.1 hH.1 q0 0 hq rfl rfl hdg kk
  · rw [mE_8 g ha.2] at hq
    exact va_alen (D := g.2.1) (cl := mCl) (tys := mT g) hC.1 hC.2.1 hs.2.1 hH.1 q0 1 hq rfl rfl hdg kk
/-- the length of ArrayList's own empty array -/
theorem m_alen0 (hC : CallFix p m c cc nL s args Ts own) (hs : mX g s) (hH : mH g S s H locs) (hdg : decode cc pc = .ok (.arraylength, 1))
    (kk : W p l e R s m args below meth c H locs cells slots Q (F0 m (pc + 1) ls (.int 0 :: rest))) : W p l e R s m args below meth c H locs cells slots Q (F0 m pc ls (.ref g.2.2.2.2.2.1 :: rest)) :=
  va_tlen (A := mB g) hC.1 hC.2.1 hs.2.2.2.2.2.1 hH.2.2 (v := 0) rfl hdg kk
theorem m_gets0 {index : Nat} {ref : String} (hC : CallFix p m c cc nL s args Ts own) (hs : mX g s) (hH : mH g S s H locs) (hlink : Cond.fieldLink own index ref "DEFAULTCAPACITY_EMPTY_ELEMENTDATA" "[Ljava/lang/Object;" ∈ Ts) (hsame : ∀ x, s.fieldFound? "java/util/ArrayList" "DEFAULTCAPACITY_EMPTY_ELEMENTDATA" "[Ljava/lang/Object;" = some x → s.fieldFound? ref "DEFAULTCAPACITY_EMPTY_ELEMENTDATA" "[Ljava/lang/Object;" = some x) (hdg : decode cc pc = .ok (.getstatic index, 3))
    (kk : W p l e R s m args below meth c H locs cells slots Q (F0 m (pc + 3) ls (.ref g.2.2.2.2.2.1 :: rest))) : W p l e R s m args below meth c H locs cells slots Q (F0 m pc ls rest) :=
  va_gets (A := mB g) hC.1 hC.2.1 hs.2.2.2.2.1 hH.2.2 hC.2.2.2.1 (hC.2.2.2.2 _ hlink) hsame hdg kk
theorem m_qald {a b : Nat} {i : Int32} (hC : CallFix p m c cc nL s args Ts own) (hs : mX g s) (hH : mH g S s H locs) (ha : a ∈ mL S ∧ mK S a = 8) (hin : vp_in i (mN S a)) (hv : mQ S a i.toNatClampNeg = some b) (hdg : decode cc pc = .ok (.aaload, 1))
    (kk : W p l e R s m args below meth c H locs cells slots Q (F0 m (pc + 1) ls (.ref b :: rest))) : W p l e R s m args below meth c H locs cells slots Q (F0 m pc ls (.int i :: .ref a :: rest)) := by
  obtain ⟨q0, hq⟩ := mix g S ha.1
  rw [mE_8 g ha.2] at hq
  refine va_aldq (D := g.2.1) (cl := mCl) (tys := mT g) hC.1 hC.2.1 hs.2.1 hH.1 q0 1 hq rfl hin hdg ?_
  rw [hv]
  exact kk
theorem m_any {v k : Nat} {C : String} {T : u_T} {N : Nat} {ty : Nat → FieldType} (hs : mX g s) (hH : mH g S s H locs) (hcs : mCs k C T N ty) (hca : (C, "java/lang/Object") ∈ mCa) (hv : v ∈ mL S ∧ mK S v = k) : va_Any "java/lang/Object" s H v := by
  obtain ⟨q1, hq⟩ := mix g S hv.1
  rw [mE_o g hv.2 hcs.2.1] at hq
  have h11 := hs.2.2.2.2.2.2.2.2.2.2.1
  exact va_rAny hs.2.1 hH.1 hq hcs.1 (vb_asgC (h11 _ hca))
theorem m_qast {a v : Nat} {i : Int32} (hC : CallFix p m c cc nL s args Ts own) (hs : mX g s) (hH : mH g S s H locs) (ha : a ∈ mL S ∧ mK S a = 8) (hin : vp_in i (mN S a)) (hv : va_Any "java/lang/Object" s H v) (hdg : decode cc pc = .ok (.aastore, 1))
    (kk : ∀ (H1 : Heap) (locs1 : List Loc), mH g (sQ S a i.toNatClampNeg (some v)) s H1 locs1 → W p l e R s m args below meth c H1 locs1 cells slots Q (F0 m (pc + 1) ls rest)) : W p l e R s m args below meth c H locs cells slots Q (F0 m pc ls (.ref v :: .int i :: .ref a :: rest)) := by
  obtain ⟨q0, hq0⟩ := mix g S ha.1
  have hq := hq0
  rw [mE_8 g ha.2] at hq
  have he := mset g hH.2.1 ha.1 hq0 (S' := sQ S a i.toNatClampNeg (some v)) rfl (mE_sQ g ha.2)
  refine va_astqM (D := g.2.1) (cl := mCl) (tys := mT g) (A := mB g) hC.1 hC.2.1 hs.2.1 hH.1 hH.2.1 hH.2.2 q0 1 hq rfl hv hin hdg (fun H1 locs1 hP hD hS => ?_)
  rw [he] at hP hD
  exact kk H1 locs1 ⟨hP, hD, hS⟩
theorem m_fresh {q : Nat} {x : va_E} (h : va_D (mB g) (mW g S ++ [(q, x)])) : q ∉ mL S := va_pl_fresh2 (X := []) h
theorem m_newI {n : Int32} {N' : Nat} (hC : CallFix p m c cc nL s args Ts own) (hs : mX g s) (hH : mH g S s H locs) (harr : Cond.arrayClass .int ∈ Ts) (hn : ¬ n < 0) (hN : n.toNatClampNeg = N') (hbytes : N' * 4 ≤ 536870912) (hcells : cells + 1 ≤ R.cells) (hslots : slots + N' ≤ R.slots) (hdg : decode cc pc = .ok (.newarray .int, 2))
    (kk : ∀ (q : Nat) (H1 : Heap), q ∉ mL S → mH g (sNa S q N') s H1 locs → W p l e R s m args below meth c H1 locs (cells + 1) (slots + N') Q (F0 m (pc + 2) ls (.ref q :: rest))) : W p l e R s m args below meth c H locs cells slots Q (F0 m pc ls (.int n :: rest)) := by
  refine va_newa (atype := .int) (D := g.2.1) (cl := mCl) (tys := mT g) (A := mB g) (a0 := (N', .inl (fun _ => 0))) hC.1 hC.2.1 (hC.2.2.2.2 _ harr) rfl hs.2.1 hH.1 hH.2.1 hH.2.2 (mB_of hs hH) (fun cA => rfl) hn hN hbytes hcells hslots hdg (fun q cA H1 hK hP hD hS => ?_)
  have h3 : s.vm.findClass ("[" ++ FieldType.int.toString) = some cA := (hK.2 3 (cA, .int) rfl).2
  have h0 : s.vm.findClass ("[" ++ FieldType.int.toString) = some g.2.2.1 := (hK.2 0 (g.2.2.1, .int) rfl).2
  cases h3.symm.trans h0
  have hf := m_fresh hD
  have he := mpush g hf (S' := sNa S q N') rfl (mE_sNa g)
  rw [he] at hP hD
  exact kk q H1 hf ⟨hP, hD, hS⟩
theorem m_newQ {n : Int32} {N' index : Nat} (hC : CallFix p m c cc nL s args Ts own) (hs : mX g s) (hH : mH g S s H locs) (hcl : Cond.classLink own index "java/lang/Object" ∈ Ts) (hn : ¬ n < 0) (hN : n.toNatClampNeg = N') (hbytes : N' * 4 ≤ 536870912) (hcells : cells + 1 ≤ R.cells) (hslots : slots + N' ≤ R.slots) (hdg : decode cc pc = .ok (.anewarray index, 3))
    (kk : ∀ (q : Nat) (H1 : Heap), q ∉ mL S → q ≠ g.2.2.2.2.2.1 → mH g (sNq S q N') s H1 locs → W p l e R s m args below meth c H1 locs (cells + 1) (slots + N') Q (F0 m (pc + 3) ls (.ref q :: rest))) : W p l e R s m args below meth c H locs cells slots Q (F0 m pc ls (.int n :: rest)) := by
  refine va_newq (D := g.2.1) (cl := mCl) (tys := mT g) (A := mB g) hC.1 hC.2.1 hC.2.2.2.1 (hC.2.2.2.2 _ hcl) hs.2.2.2.2.2.2.1 hs.2.1 hH.1 hH.2.1 hH.2.2 (mB_of hs hH) hn hN hbytes hcells hslots hdg (fun q cA H1 hK hP hD hS => ?_)
  have h3 := va_nmO (hK.2 3 (cA, .object "java/lang/Object") rfl).2 rfl
  have h0 := va_nmO (hK.2 1 (g.2.2.2.1, .object "java/lang/Object") rfl).2 rfl
  cases h3.symm.trans h0
  have hf := m_fresh hD
  have hq : q ≠ g.2.2.2.2.2.1 := by
    intro e
    have h1 : mB g q := hD.2 (mW g S).length (q, _) (by rw [List.getElem?_append_right (Nat.le_refl _), Nat.sub_self]; rfl)
    obtain ⟨_, -, -, -, -, -, -, h7⟩ := hs.2.2.2.2.2.1
    rw [e] at h1
    exact h7 h1
  have he := mpush g hf (S' := sNq S q N') rfl (mE_sNq g)
  rw [he] at hP hD
  exact kk q H1 hf hq ⟨hP, hD, hS⟩
theorem m_newO {C : String} {T : u_T} {ty : Nat → FieldType} {N k index : Nat} (hC : CallFix p m c cc nL s args Ts own) (hs : mX g s) (hH : mH g S s H locs) (hcs : mCs k C T N ty) (hws : ∀ w ∈ u_ws C T N, w ∈ Ts) (hcl : Cond.classLink own index C ∈ Ts) (hinst : Cond.instantiable C N ∈ Ts) (hini : Cond.initialized C ∈ Ts) (hfs : ∀ j, j < N → defaultValue (ty j) = vp_V ((mFl k).map (fun q => if q.1 then .null else .int 0)) j) (hcells : cells + 1 ≤ R.cells) (hslots : slots + N ≤ R.slots) (hdg : decode cc pc = .ok (.new index, 3))
    (kk : ∀ (q : Nat) (H1 : Heap), q ∉ mL S → mH g (sNo S q k) s H1 locs → W p l e R s m args below meth c H1 locs (cells + 1) (slots + N) Q (F0 m (pc + 3) ls (.ref q :: rest))) : W p l e R s m args below meth c H locs cells slots Q (F0 m pc ls rest) := by
  obtain ⟨hx, hb, -, hown, hts⟩ := hC
  refine va_new (D := g.2.1) (cl := mCl) (tys := mT g) (A := mB g) (ci := k) hx hb hts hws ty hcs.2.2.1 hown (hts _ hcl) (hts _ hinst) (hts _ hini) hs.2.1 hH.1 hH.2.1 hH.2.2 (mB_of hs hH) hcs.1 hfs hcells hslots hdg (fun q H1 hP hD hS => ?_)
  have hf := m_fresh hD
  have he := mpush g hf (S' := sNo S q k) rfl (mE_sNo g hcs.2.1)
  rw [he] at hP hD
  exact kk q H1 hf ⟨hP, hD, hS⟩
theorem m_cast {C : String} {T : u_T} {ty : Nat → FieldType} {N k index a : Nat} (hC : CallFix p m c cc nL s args Ts own) (hs : mX g s) (hH : mH g S s H locs) (hcs : mCs k C T N ty) (hcl : Cond.classLink own index C ∈ Ts) (ha : a ∈ mL S ∧ mK S a = k) (hdg : decode cc pc = .ok (.checkcast index, 3))
    (kk : W p l e R s m args below meth c H locs cells slots Q (F0 m (pc + 3) ls (.ref a :: rest))) : W p l e R s m args below meth c H locs cells slots Q (F0 m pc ls (.ref a :: rest)) := by
  obtain ⟨q0, hq⟩ := mix g S ha.1
  rw [mE_o g ha.2 hcs.2.1] at hq
  exact va_castS hC.1 hC.2.1 hC.2.2.2.1 (hC.2.2.2.2 _ hcl) (hs.2.1.1 k _ hcs.1).2 (va_recv hs.2.1 hH.1 hcs.1 hq) hdg kk
theorem m_copyI {a0 a1 : Nat} {sp dp n : Int32} {index : Nat} (hC : CallFix p m c cc nL s args Ts own) (hs : mX g s) (hH : mH g S s H locs) (hsz : ls.size = nL) (hlink : Cond.methodLink own index arraycopyName ∈ Ts) (hnat : Cond.native arraycopyName ∈ Ts) (hstat : Cond.static arraycopyName ∈ Ts) (hini : Cond.initialized "java/lang/System" ∈ Ts) (h0 : a0 ∈ mL S ∧ mK S a0 = 7) (h1 : a1 ∈ mL S ∧ mK S a1 = 7)
    (h2 : ¬ sp < 0 ∧ ¬ dp < 0 ∧ ¬ n < 0 ∧ sp.toNatClampNeg + n.toNatClampNeg ≤ mN S a0 ∧ dp.toNatClampNeg + n.toNatClampNeg ≤ mN S a1) (hfr : 1 ≤ R.frames) (hlo : (rest.map fun v => v.category).sum + (nativeFrameWords "java/lang/System" "arraycopy" 5 + 11) ≤ R.locals) (hdg : decode cc pc = .ok (.invokestatic index, 3))
    (kk : ∀ (H1 : Heap) (locs1 : List Loc), mH g (sAr S a1 (va_cpy (mA S a0) (mA S a1) sp.toNatClampNeg dp.toNatClampNeg n.toNatClampNeg)) s H1 locs1 → W p l e R s m args below meth c H1 locs1 cells slots Q (F0 m (pc + 3) ls rest)) : W p l e R s m args below meth c H locs cells slots Q (F0 m pc ls (.int n :: .int dp :: .ref a1 :: .int sp :: .ref a0 :: rest)) := by
  obtain ⟨q0, hq0⟩ := mix g S h0.1
  rw [mE_7 g h0.2] at hq0
  obtain ⟨q1, hq1'⟩ := mix g S h1.1
  have hq1 := hq1'
  rw [mE_7 g h1.2] at hq1
  have he := mset g hH.2.1 h1.1 hq1' (S' := sAr S a1 (va_cpy (mA S a0) (mA S a1) sp.toNatClampNeg dp.toNatClampNeg n.toNatClampNeg)) rfl (mE_sAr g h1.2)
  obtain ⟨hx, hb, hml, hown, hts⟩ := hC
  refine va_copyi (D := g.2.1) (cl := mCl) (tys := mT g) (A := mB g) hx hb (hml.trans hsz.symm) hown (hts _ hlink) (hts _ hnat) (hts _ hstat) (hts _ hini) hs.2.1 hH.1 hH.2.1 hH.2.2 q0 q1 0 0 (ty := .int) hq0 hq1 rfl rfl rfl h2.1 h2.2.1 h2.2.2.1 h2.2.2.2.1 h2.2.2.2.2 (fun _ _ => rfl) hfr hlo hdg (fun H1 locs1 hP hD hS => ?_)
  rw [he] at hP hD
  exact kk H1 locs1 ⟨hP, hD, hS⟩
theorem m_copyQ {a0 a1 : Nat} {sp dp n : Int32} {index : Nat} (hC : CallFix p m c cc nL s args Ts own) (hs : mX g s) (hH : mH g S s H locs) (hsz : ls.size = nL) (hlink : Cond.methodLink own index arraycopyName ∈ Ts) (hnat : Cond.native arraycopyName ∈ Ts) (hstat : Cond.static arraycopyName ∈ Ts) (hini : Cond.initialized "java/lang/System" ∈ Ts) (h0 : a0 ∈ mL S ∧ mK S a0 = 8) (h1 : a1 ∈ mL S ∧ mK S a1 = 8)
    (h2 : ¬ sp < 0 ∧ ¬ dp < 0 ∧ ¬ n < 0 ∧ sp.toNatClampNeg + n.toNatClampNeg ≤ mN S a0 ∧ dp.toNatClampNeg + n.toNatClampNeg ≤ mN S a1) (hel : ∀ i : Nat, i < n.toNatClampNeg → ∀ y : Nat, mQ S a0 (sp.toNatClampNeg + i) = some y → va_Any "java/lang/Object" s H y) (hfr : 1 ≤ R.frames) (hlo : (rest.map fun v => v.category).sum + (nativeFrameWords "java/lang/System" "arraycopy" 5 + 11) ≤ R.locals) (hdg : decode cc pc = .ok (.invokestatic index, 3))
    (kk : ∀ (H1 : Heap) (locs1 : List Loc), mH g (sQr S a1 (va_cpy (mQ S a0) (mQ S a1) sp.toNatClampNeg dp.toNatClampNeg n.toNatClampNeg)) s H1 locs1 → W p l e R s m args below meth c H1 locs1 cells slots Q (F0 m (pc + 3) ls rest)) : W p l e R s m args below meth c H locs cells slots Q (F0 m pc ls (.int n :: .int dp :: .ref a1 :: .int sp :: .ref a0 :: rest)) := by
  obtain ⟨q0, hq0⟩ := mix g S h0.1
  rw [mE_8 g h0.2] at hq0
  obtain ⟨q1, hq1'⟩ := mix g S h1.1
  have hq1 := hq1'
  rw [mE_8 g h1.2] at hq1
  have he := mset g hH.2.1 h1.1 hq1' (S' := sQr S a1 (va_cpy (mQ S a0) (mQ S a1) sp.toNatClampNeg dp.toNatClampNeg n.toNatClampNeg)) rfl (mE_sQr g h1.2)
  obtain ⟨hx, hb, hml, hown, hts⟩ := hC
  refine va_copyM (D := g.2.1) (cl := mCl) (tys := mT g) (A := mB g) hx hb (hml.trans hsz.symm) hown (hts _ hlink) (hts _ hnat) (hts _ hstat) (hts _ hini) hs.2.1 hH.1 hH.2.1 hH.2.2 q0 q1 1 1 hq0 hq1 rfl rfl h2.1 h2.2.1 h2.2.2.1 h2.2.2.2.1 h2.2.2.2.2 hel hfr hlo hdg (fun H1 locs1 hP hD hS => ?_)
  rw [he] at hP hD
  exact kk H1 locs1 ⟨hP, hD, hS⟩
theorem m_getC {a index : Nat} (hC : CallFix p m c cc nL s args Ts own) (hs : mX g s) (hH : mH g S s H locs) (hsz : ls.size = nL) (hlink : Cond.methodLink own index ⟨"java/lang/Object", "getClass", "()Ljava/lang/Class;"⟩ ∈ Ts) (hsel : Cond.selects "[Ljava/lang/Object;" ⟨"java/lang/Object", "getClass", "()Ljava/lang/Class;"⟩ ⟨"java/lang/Object", "getClass", "()Ljava/lang/Class;"⟩ ∈ Ts) (hinst : Cond.instanceMethod ⟨"java/lang/Object", "getClass", "()Ljava/lang/Class;"⟩ ∈ Ts) (hnat : Cond.native ⟨"java/lang/Object", "getClass", "()Ljava/lang/Class;"⟩ ∈ Ts) (ha : a ∈ mL S ∧ mK S a = 8) (hfr : 1 ≤ R.frames) (hlo : (rest.map fun v => v.category).sum + 14 ≤ R.locals) (hdg : decode cc pc = .ok (.invokevirtual index, 3))
    (kk : W p l e R s m args below meth c H locs cells slots Q (F0 m (pc + 3) ls (.ref g.2.2.2.2.2.2 :: rest))) : W p l e R s m args below meth c H locs cells slots Q (F0 m pc ls (.ref a :: rest)) := by
  obtain ⟨q0, hq⟩ := mix g S ha.1
  rw [mE_8 g ha.2] at hq
  obtain ⟨hx, hb, hml, hown, hts⟩ := hC
  have hnm := va_nmO (hs.2.1.2 1 (g.2.2.2.1, .object "java/lang/Object") rfl).2 rfl
  exact va_getC hx hb (hml.trans hsz.symm) hown (hts _ hlink) (va_Dc.use hs.2.2.2.2.2.2.2.2.1) (hts _ hsel) (hts _ hinst) (hts _ hnat) hs.2.2.2.2.2.2.2.1 ⟨_, hH.1 q0 _ hq, rfl, hnm⟩ hfr hlo hdg kk
theorem m_ldcM {index : Nat} (hC : CallFix p m c cc nL s args Ts own) (hs : mX g s) (hlink : Cond.classLink own index "[Ljava/lang/Object;" ∈ Ts) (hdg : decode cc pc = .ok (.ldc index, 2))
    (kk : W p l e R s m args below meth c H locs cells slots Q (F0 m (pc + 2) ls (.ref g.2.2.2.2.2.2 :: rest))) : W p l e R s m args below meth c H locs cells slots Q (F0 m pc ls rest) :=
  va_ldcM hC.1 hC.2.1 hC.2.2.2.1 (hC.2.2.2.2 _ hlink) hs.2.2.2.2.2.2.2.1 hdg kk
theorem m_acmp_ne {x y tgt : Nat} {off : Int} (hC : CallFix p m c cc nL s args Ts own) (hdg : decode cc pc = .ok (.if_acmp .ne off, 3)) (ht : (pc : Int) + off = (tgt : Int)) (kt : ¬ x = y → W p l e R s m args below meth c H locs cells slots Q (F0 m tgt ls rest)) (kf : x = y → W p l e R s m args below meth c H locs cells slots Q (F0 m (pc + 3) ls rest)) : W p l e R s m args below meth c H locs cells slots Q (F0 m pc ls (.ref y :: .ref x :: rest)) :=
  lv_acmp_ne (rx := some x) (ry := some y) hC.1 hC.2.1 hdg ht (fun h => kt (fun e => h (congrArg some e))) (fun h => kf (Option.some.inj h))
theorem m_acmp_eq {x y tgt : Nat} {off : Int} (hC : CallFix p m c cc nL s args Ts own) (hdg : decode cc pc = .ok (.if_acmp .eq off, 3)) (ht : (pc : Int) + off = (tgt : Int)) (kt : x = y → W p l e R s m args below meth c H locs cells slots Q (F0 m tgt ls rest)) (kf : ¬ x = y → W p l e R s m args below meth c H locs cells slots Q (F0 m (pc + 3) ls rest)) : W p l e R s m args below meth c H locs cells slots Q (F0 m pc ls (.ref y :: .ref x :: rest)) :=
  lv_acmp_eq (rx := some x) (ry := some y) hC.1 hC.2.1 hdg ht (fun h => kt (Option.some.inj h)) (fun h => kf (fun e => h (congrArg some e)))
/-- the length of a list's array: the shared empty one, or one of the pool -/
def mLn (z : Nat × Nat) (S : mmS) (a : Nat) : Prop := a = z.1 ∨ (a ≠ z.1 ∧ a ∈ mL S ∧ mK S a = 8)
def mLen (z : Nat × Nat) (S : mmS) (a : Nat) : Int32 := if a = z.1 then 0 else nI (mN S a)
theorem m_alenQ {a : Nat} (hC : CallFix p m c cc nL s args Ts own) (hs : mX g s) (hH : mH g S s H locs) (ha : mLn g.2.2.2.2.2 S a) (hdg : decode cc pc = .ok (.arraylength, 1))
    (kk : W p l e R s m args below meth c H locs cells slots Q (F0 m (pc + 1) ls (.int (mLen g.2.2.2.2.2 S a) :: rest))) : W p l e R s m args below meth c H locs cells slots Q (F0 m pc ls (.ref a :: rest)) := by
  rcases ha with rfl | ⟨hne, ha⟩
  · refine m_alen0 hC hs hH hdg ?_
    unfold mLen at kk
    rw [if_pos rfl] at kk
    exact kk
  · refine m_alen hC hs hH ha (Or.inr rfl) hdg ?_
    unfold mLen at kk
    rw [if_neg hne] at kk
    exact kk
def mOb (S : mmS) (v : Nat) : Prop := v ∈ mL S ∧ mK S v < 7
theorem mOb_any {v : Nat} (hs : mX g s) (hH : mH g S s H locs) (h : mOb S v) : va_Any "java/lang/Object" s H v := by
  obtain ⟨h1, h2⟩ := h
  have h3 : mK S v = 0 ∨ mK S v = 1 ∨ mK S v = 2 ∨ mK S v = 3 ∨ mK S v = 4 ∨ mK S v = 5 ∨ mK S v = 6 := by omega
  rcases h3 with h3 | h3 | h3 | h3 | h3 | h3 | h3
  · exact m_any hs hH cs0 (by decide +kernel) ⟨h1, h3⟩
  · exact m_any hs hH cs1 (by decide +kernel) ⟨h1, h3⟩
  · exact m_any hs hH cs2 (by decide +kernel) ⟨h1, h3⟩
  · exact m_any hs hH cs3 (by decide +kernel) ⟨h1, h3⟩
  · exact m_any hs hH cs4 (by decide +kernel) ⟨h1, h3⟩
  · exact m_any hs hH cs5 (by decide +kernel) ⟨h1, h3⟩
  · exact m_any hs hH cs6 (by decide +kernel) ⟨h1, h3⟩
def mBo (v : Int32) : Prop := narrow .boolean (.int v) = .int v
theorem mkN {L : List Nat} {K : Nat → Nat} {a k q j : Nat} (h : a ∈ L ∧ K a = k) (hq : q ∉ L) : a ∈ L ++ [q] ∧ va_up K q j a = k := ⟨List.mem_append_left _ h.1, (va_up_ne (k := q) (j := a) K j (fun e => hq (by rw [← e]; exact h.1))).trans h.2⟩
theorem mkQ {L : List Nat} {K : Nat → Nat} {q j : Nat} : q ∈ L ++ [q] ∧ va_up K q j q = j := ⟨List.mem_append_right _ List.mem_cons_self, va_up_self _ _ _⟩
theorem m_switch {x : Int32} {lo hi dflt : Int} {offs : Array Int} {len : Nat} (hC : CallFix p m c cc nL s args Ts own) (hdg : decode cc pc = .ok (.tableswitch dflt lo hi offs, len)) (k1 : (x.toInt < lo ∨ hi < x.toInt) → W p l e R s m args below meth c H locs cells slots Q (F0 m pc ls (.int x :: rest))) (k2 : ¬ x.toInt < lo → ¬ hi < x.toInt → W p l e R s m args below meth c H locs cells slots Q (F0 m pc ls (.int x :: rest))) : W p l e R s m args below meth c H locs cells slots Q (F0 m pc ls (.int x :: rest)) := by
  by_cases h1 : x.toInt < lo
  · exact k1 (Or.inl h1)
  · by_cases h2 : hi < x.toInt
    · exact k1 (Or.inr h2)
    · exact k2 h1 h2
theorem m_cases4 {z : Int} (h1 : ¬ z < 0) (h2 : ¬ 3 < z) : z = 0 ∨ z = 1 ∨ z = 2 ∨ z = 3 := by omega
theorem m_cases25 {z : Int} (h1 : ¬ z < 0) (h2 : ¬ 24 < z) : z = 0 ∨ z = 1 ∨ z = 2 ∨ z = 3 ∨ z = 4 ∨ z = 5 ∨ z = 6 ∨ z = 7 ∨ z = 8 ∨ z = 9 ∨ z = 10 ∨ z = 11 ∨ z = 12 ∨ z = 13 ∨ z = 14 ∨ z = 15 ∨ z = 16 ∨ z = 17 ∨ z = 18 ∨ z = 19 ∨ z = 20 ∨ z = 21 ∨ z = 22 ∨ z = 23 ∨ z = 24 := by omega
theorem df0 : ∀ j, j < 6 → defaultValue (tyX0 j) = vp_V ((mFl 0).map (fun q => if q.1 then .null else .int 0)) j := by decide +kernel
theorem df1 : ∀ j, j < 9 → defaultValue (tyX1 j) = vp_V ((mFl 1).map (fun q => if q.1 then .null else .int 0)) j := by decide +kernel
theorem df2 : ∀ j, j < 6 → defaultValue (tyX2 j) = vp_V ((mFl 2).map (fun q => if q.1 then .null else .int 0)) j := by decide +kernel
theorem df3 : ∀ j, j < 8 → defaultValue (tyX3 j) = vp_V ((mFl 3).map (fun q => if q.1 then .null else .int 0)) j := by decide +kernel
theorem df4 : ∀ j, j < 7 → defaultValue (tyX4 j) = vp_V ((mFl 4).map (fun q => if q.1 then .null else .int 0)) j := by decide +kernel
theorem df5 : ∀ j, j < 6 → defaultValue (tyX0 j) = vp_V ((mFl 5).map (fun q => if q.1 then .null else .int 0)) j := by decide +kernel
theorem df6 : ∀ j, j < 3 → defaultValue (tyJx4a65c j) = vp_V ((mFl 6).map (fun q => if q.1 then .null else .int 0)) j := by decide +kernel
theorem m_min {x y : Int32} {index : Nat} (hC : CallFix p m c cc nL s args Ts own) (hsz : ls.size = nL) (hlink : Cond.methodLink own index Lib.Math.min.name ∈ Ts) (hstat : Cond.static Lib.Math.min.name ∈ Ts) (hini : Cond.initialized "java/lang/Math" ∈ Ts) (hcode : Cond.code Lib.Math.min.name Lib.Math.min.code 2 (some .int) ∈ Ts) (hfr : 1 ≤ R.frames) (hlo : (rest.map fun v => v.category).sum + 13 ≤ R.locals) (hc : cells ≤ R.cells) (hsl : slots ≤ R.slots) (hdg : decode cc pc = .ok (.invokestatic index, 3))
    (kk : W p l e R s m args below meth c H locs cells slots Q (F0 m (pc + 3) ls (.int (if y < x then y else x) :: rest))) : W p l e R s m args below meth c H locs cells slots Q (F0 m pc ls (.int y :: .int x :: rest)) :=
  va_mmin hC.1 hC.2.1 (hC.2.2.1.trans hsz.symm) hC.2.2.2.1 (hC.2.2.2.2 _ hlink) (hC.2.2.2.2 _ hstat) (hC.2.2.2.2 _ hini) (hC.2.2.2.2 _ hcode) hfr hlo hc hsl hdg kk
theorem m_max {x y : Int32} {index : Nat} (hC : CallFix p m c cc nL s args Ts own) (hsz : ls.size = nL) (hlink : Cond.methodLink own index Lib.Math.max.name ∈ Ts) (hstat : Cond.static Lib.Math.max.name ∈ Ts) (hini : Cond.initialized "java/lang/Math" ∈ Ts) (hcode : Cond.code Lib.Math.max.name Lib.Math.max.code 2 (some .int) ∈ Ts) (hfr : 1 ≤ R.frames) (hlo : (rest.map fun v => v.category).sum + 13 ≤ R.locals) (hc : cells ≤ R.cells) (hsl : slots ≤ R.slots) (hdg : decode cc pc = .ok (.invokestatic index, 3))
    (kk : W p l e R s m args below meth c H locs cells slots Q (F0 m (pc + 3) ls (.int (if x < y then y else x) :: rest))) : W p l e R s m args below meth c H locs cells slots Q (F0 m pc ls (.int y :: .int x :: rest)) :=
  va_mmax hC.1 hC.2.1 (hC.2.2.1.trans hsz.symm) hC.2.2.2.1 (hC.2.2.2.2 _ hlink) (hC.2.2.2.2 _ hstat) (hC.2.2.2.2 _ hini) (hC.2.2.2.2 _ hcode) hfr hlo hc hsl hdg kk
theorem m_objInit {a index : Nat} (hC : CallFix p m c cc nL s args Ts own) (hsz : ls.size = nL) (hlink : Cond.methodLink own index objectInit ∈ Ts) (hinst : Cond.instanceMethod objectInit ∈ Ts) (hcode : Cond.code objectInit ⟨#[0xb1]⟩ 1 none ∈ Ts) (hfr : 1 ≤ R.frames) (hlo : (rest.map fun v => v.category).sum + 12 ≤ R.locals) (hdg : decode cc pc = .ok (.invokespecial index, 3))
    (kk : W p l e R s m args below meth c H locs cells slots Q (F0 m (pc + 3) ls rest)) : W p l e R s m args below meth c H locs cells slots Q (F0 m pc ls (.ref a :: rest)) :=
  W.objInit hC.1 hC.2.1 hC.2.2.2.1 (hC.2.2.2.2 _ hlink) (hC.2.2.2.2 _ hinst) (hC.2.2.2.2 _ hcode) rfl (by rw [hC.2.2.1]; exact hsz) rfl hdg hfr (by show 2 * 0 + _ + 12 ≤ _; omega) kk
end MROWS
/-- a contract: from the world of S, with the answer (and the world behind it) as Q1 says, or a throw as X1 says -/
abbrev mMi (l : Launch) (g : mG) (y : MethodName) (ws : List Cond) (rm : Room) (As : List Value) (S : mmS) (Q1 : Int32 → mmS → Prop) (X1 : String → mmS → Prop) : Prop := vx_Met l y ws rm (va_Pc As (wI g S)) (va_Qi Q1 (wO g) (mB g)) (vx_X (fun _ : mmS => True) (fun E S1 t => X1 E S1 ∧ wO g S1 t) (mB g)) rm.cells rm.slots (mB g)
/-- a contract: from the world of S, with the answer (and the world behind it) as Q1 says, or a throw as X1 says -/
abbrev mMl (l : Launch) (g : mG) (y : MethodName) (ws : List Cond) (rm : Room) (As : List Value) (S : mmS) (Q1 : Int64 → mmS → Prop) (X1 : String → mmS → Prop) : Prop := vx_Met l y ws rm (va_Pc As (wI g S)) (va_Ql Q1 (wO g) (mB g)) (vx_X (fun _ : mmS => True) (fun E S1 t => X1 E S1 ∧ wO g S1 t) (mB g)) rm.cells rm.slots (mB g)
/-- a contract: from the world of S, with the answer (and the world behind it) as Q1 says, or a throw as X1 says -/
abbrev mMd (l : Launch) (g : mG) (y : MethodName) (ws : List Cond) (rm : Room) (As : List Value) (S : mmS) (Q1 : UInt64 → mmS → Prop) (X1 : String → mmS → Prop) : Prop := vx_Met l y ws rm (va_Pc As (wI g S)) (va_Qd Q1 (wO g) (mB g)) (vx_X (fun _ : mmS => True) (fun E S1 t => X1 E S1 ∧ wO g S1 t) (mB g)) rm.cells rm.slots (mB g)
/-- a contract: from the world of S, with the answer (and the world behind it) as Q1 says, or a throw as X1 says -/
abbrev mMv (l : Launch) (g : mG) (y : MethodName) (ws : List Cond) (rm : Room) (As : List Value) (S : mmS) (Q1 : mmS → Prop) (X1 : String → mmS → Prop) : Prop := vx_Met l y ws rm (va_Pc As (wI g S)) (va_Qv Q1 (wO g) (mB g)) (vx_X (fun _ : mmS => True) (fun E S1 t => X1 E S1 ∧ wO g S1 t) (mB g)) rm.cells rm.slots (mB g)
/-- a contract: from the world of S, with the answer (and the world behind it) as Q1 says, or a throw as X1 says -/
abbrev mMq (l : Launch) (g : mG) (y : MethodName) (ws : List Cond) (rm : Room) (As : List Value) (S : mmS) (Q1 : Nat → mmS → Prop) (X1 : String → mmS → Prop) : Prop := vx_Met l y ws rm (va_Pc As (wI g S)) (va_Qq (fun (r : Option Nat) (S1 : mmS) => ∃ b, r = some b ∧ Q1 b S1) (wO g) (mB g)) (vx_X (fun _ : mmS => True) (fun E S1 t => X1 E S1 ∧ wO g S1 t) (mB g)) rm.cells rm.slots (mB g)
section MCALL
variable {p : Program} {l : Launch} {e : Env} {R : Room} {s : State} {m : MethodId} {args : Array Value} {below : List Frame} {meth : Method} {c : Code} {H : Heap} {locs : List Loc} {cells slots : Nat} {Q : State → Prop}
variable {cc bytes : ByteArray} {nL pc n maxL index : Nat} {ls : Array Slot} {rest st As : List Value} {Ts ws : List Cond} {own C : String} {g : mG} {S : mmS} {y : MethodName} {rm : Room} {ret : Option FieldType} {X1 : String → mmS → Prop}
theorem m_pcbl {As : List Value} : FrameBlind (va_Pc As (wI g S)) := fun a U f mk h => ⟨h.1, wI_bl h.2⟩
theorem m_back {S1 : mmS} {t : State} {H1 : Heap} {locs1 : List Loc} (ht : t.heap = H1) (hO : wO g S1 t) (hS : va_S (mB g) s.heap H1 locs1) : mH g S1 s H1 locs1 := by
  unfold wO at hO
  rw [ht] at hO
  exact ⟨hO.1, hO.2, hS⟩
theorem m_recv {b k : Nat} {T : u_T} {N : Nat} {ty : Nat → FieldType} (hs : mX g s) (hH : mH g S s H locs) (hcs : mCs k C T N ty) (hb : b ∈ mL S ∧ mK S b = k) : ∃ cell : Cell, H[b]? = some cell ∧ cell.vm.isStatics = false ∧ s.vm.findClass C = some cell.cls := by
  obtain ⟨q0, hq⟩ := mix g S hb.1
  rw [mE_o g hb.2 hcs.2.1] at hq
  exact va_recv hs.2.1 hH.1 hcs.1 hq
abbrev mKx (p : Program) (l : Launch) (e : Env) (R : Room) (s : State) (m : MethodId) (args : Array Value) (below : List Frame) (meth : Method) (c : Code) (cells slots : Nat) (Q : State → Prop) (g : mG) (X1 : String → mmS → Prop) (fr : JFrame) : Prop :=
  ∀ (E : String) (S1 : mmS) (H1 : Heap) (locs1 : List Loc) (ce : Cell) (q9 : Addr), X1 E S1 → mH g S1 s H1 locs1 → H1[q9]? = some ce → ce.vm = .none → s.vm.findClass E = some ce.cls → vx_W p l e R s m args below meth c H1 locs1 cells slots Q fr q9
theorem mKx_no {fr : JFrame} {k n : Nat} : mKx p l e R s m args below meth c k n Q g (fun _ _ => False) fr := fun _ _ _ _ _ _ h => h.elim
theorem m_callVi {Q1 : Int32 → mmS → Prop} (hC : CallFix p m c cc nL s args Ts own) (hs : mX g s) (hH : mH g S s H locs) (hsz : ls.size = nL) (cw : CallW R s args own C index y bytes maxL ret ws rm rm.cells rm.slots n) {b k : Nat} {T : u_T} {N : Nat} {ty : Nat → FieldType} (hcs : mCs k C T N ty) (hb : b ∈ mL S ∧ mK S b = k) (hM : mMi l g y ws rm (.ref b :: As) S Q1 X1) (hn : As.length = n) (hst : st = As.reverse ++ .ref b :: rest) (hW : (rest.map fun v => v.category).sum ≤ 8) (hdg : decode cc pc = .ok (.invokevirtual index, 3)) (hf : cells + rm.cells ≤ R.cells ∧ slots + rm.slots ≤ R.slots)
    (kx : mKx p l e R s m args below meth c (cells + rm.cells) (slots + rm.slots) Q g X1 (F0 m pc ls rest)) (kk : ∀ (r : Int32) (S1 : mmS) (H1 : Heap) (locs1 : List Loc), Q1 r S1 → mH g S1 s H1 locs1 → W p l e R s m args below meth c H1 locs1 (cells + rm.cells) (slots + rm.slots) Q (F0 m (pc + 3) ls (.int r :: rest))) : W p l e R s m args below meth c H locs cells slots Q (F0 m pc ls st) := by
  subst hst
  refine vx_calli (A1 := mB g) (AX := mB g) (vx_runV (As := As) (rest := rest) hC hM cw ⟨m_pcbl, m_recv hs hH hcs hb, fun U hU hW => ⟨rfl, wI_in hs hH hU hW⟩⟩ rfl hn hsz rfl (lv_room hW) hdg hf) hH.2.2 (fun _ _ h => h) (fun _ h => h) (fun _ _ h => h) (fun E ce q9 S1 t H1 locs1 ht hvm _ hx hz hk hS hce hcv hcl => kx E S1 H1 locs1 ce q9 hx.1 (m_back ht hx.2 hS) hce hcv hcl) ?_
  exact fun r S1 t H1 locs1 ht hvm hp hO hz hk hS => kk r S1 H1 locs1 hp (m_back ht hO hS)
theorem m_callSi {Q1 : Int32 → mmS → Prop} (hC : CallFix p m c cc nL s args Ts own) (hs : mX g s) (hH : mH g S s H locs) (hsz : ls.size = nL) (cw : CallB R s args own index y bytes maxL ret ws rm rm.cells rm.slots n ∧ (Cond.static y).before args s = true) (hM : mMi l g y ws rm (As) S Q1 X1) (hn : As.length = n) (hst : st = As.reverse ++ rest) (hW : (rest.map fun v => v.category).sum ≤ 8) (hdg : decode cc pc = .ok (.invokestatic index, 3)) (hf : cells + rm.cells ≤ R.cells ∧ slots + rm.slots ≤ R.slots)
    (kx : mKx p l e R s m args below meth c (cells + rm.cells) (slots + rm.slots) Q g X1 (F0 m pc ls rest)) (kk : ∀ (r : Int32) (S1 : mmS) (H1 : Heap) (locs1 : List Loc), Q1 r S1 → mH g S1 s H1 locs1 → W p l e R s m args below meth c H1 locs1 (cells + rm.cells) (slots + rm.slots) Q (F0 m (pc + 3) ls (.int r :: rest))) : W p l e R s m args below meth c H locs cells slots Q (F0 m pc ls st) := by
  subst hst
  refine vx_calli (A1 := mB g) (AX := mB g) (vx_runS (As := As) (rest := rest) hC hM cw ⟨m_pcbl, fun U hU hW => ⟨rfl, wI_in hs hH hU hW⟩⟩ rfl hn hsz rfl (lv_room hW) hdg hf) hH.2.2 (fun _ _ h => h) (fun _ h => h) (fun _ _ h => h) (fun E ce q9 S1 t H1 locs1 ht hvm _ hx hz hk hS hce hcv hcl => kx E S1 H1 locs1 ce q9 hx.1 (m_back ht hx.2 hS) hce hcv hcl) ?_
  exact fun r S1 t H1 locs1 ht hvm hp hO hz hk hS => kk r S1 H1 locs1 hp (m_back ht hO hS)
theorem m_callXi {Q1 : Int32 → mmS → Prop} (hC : CallFix p m c cc nL s args Ts own) (hs : mX g s) (hH : mH g S s H locs) (hsz : ls.size = nL) {hh : List (Nat × Nat × Nat × Nat)} (cw : vx_CSW R s args own index y bytes maxL ret hh ws rm rm.cells rm.slots n) (hM : mMi l g y ws rm (As) S Q1 X1) (hn : As.length = n) (hst : st = As.reverse ++ rest) (hW : (rest.map fun v => v.category).sum ≤ 8) (hdg : decode cc pc = .ok (.invokestatic index, 3)) (hf : cells + rm.cells ≤ R.cells ∧ slots + rm.slots ≤ R.slots)
    (kx : mKx p l e R s m args below meth c (cells + rm.cells) (slots + rm.slots) Q g X1 (F0 m pc ls rest)) (kk : ∀ (r : Int32) (S1 : mmS) (H1 : Heap) (locs1 : List Loc), Q1 r S1 → mH g S1 s H1 locs1 → W p l e R s m args below meth c H1 locs1 (cells + rm.cells) (slots + rm.slots) Q (F0 m (pc + 3) ls (.int r :: rest))) : W p l e R s m args below meth c H locs cells slots Q (F0 m pc ls st) := by
  subst hst
  refine vx_calli (A1 := mB g) (AX := mB g) (vx_runSX (As := As) (rest := rest) hC hM cw ⟨m_pcbl, fun U hU hW => ⟨rfl, wI_in hs hH hU hW⟩⟩ rfl hn hsz rfl (lv_room hW) hdg hf) hH.2.2 (fun _ _ h => h) (fun _ h => h) (fun _ _ h => h) (fun E ce q9 S1 t H1 locs1 ht hvm _ hx hz hk hS hce hcv hcl => kx E S1 H1 locs1 ce q9 hx.1 (m_back ht hx.2 hS) hce hcv hcl) ?_
  exact fun r S1 t H1 locs1 ht hvm hp hO hz hk hS => kk r S1 H1 locs1 hp (m_back ht hO hS)
theorem m_callVl {Q1 : Int64 → mmS → Prop} (hC : CallFix p m c cc nL s args Ts own) (hs : mX g s) (hH : mH g S s H locs) (hsz : ls.size = nL) (cw : CallW R s args own C index y bytes maxL ret ws rm rm.cells rm.slots n) {b k : Nat} {T : u_T} {N : Nat} {ty : Nat → FieldType} (hcs : mCs k C T N ty) (hb : b ∈ mL S ∧ mK S b = k) (hM : mMl l g y ws rm (.ref b :: As) S Q1 X1) (hn : As.length = n) (hst : st = As.reverse ++ .ref b :: rest) (hW : (rest.map fun v => v.category).sum ≤ 8) (hdg : decode cc pc = .ok (.invokevirtual index, 3)) (hf : cells + rm.cells ≤ R.cells ∧ slots + rm.slots ≤ R.slots)
    (kx : mKx p l e R s m args below meth c (cells + rm.cells) (slots + rm.slots) Q g X1 (F0 m pc ls rest)) (kk : ∀ (r : Int64) (S1 : mmS) (H1 : Heap) (locs1 : List Loc), Q1 r S1 → mH g S1 s H1 locs1 → W p l e R s m args below meth c H1 locs1 (cells + rm.cells) (slots + rm.slots) Q (F0 m (pc + 3) ls (.long r :: rest))) : W p l e R s m args below meth c H locs cells slots Q (F0 m pc ls st) := by
  subst hst
  refine vx_calll (A1 := mB g) (AX := mB g) (vx_runV (As := As) (rest := rest) hC hM cw ⟨m_pcbl, m_recv hs hH hcs hb, fun U hU hW => ⟨rfl, wI_in hs hH hU hW⟩⟩ rfl hn hsz rfl (lv_room hW) hdg hf) hH.2.2 (fun _ _ h => h) (fun _ h => h) (fun _ _ h => h) (fun E ce q9 S1 t H1 locs1 ht hvm _ hx hz hk hS hce hcv hcl => kx E S1 H1 locs1 ce q9 hx.1 (m_back ht hx.2 hS) hce hcv hcl) ?_
  exact fun r S1 t H1 locs1 ht hvm hp hO hz hk hS => kk r S1 H1 locs1 hp (m_back ht hO hS)
theorem m_callSl {Q1 : Int64 → mmS → Prop} (hC : CallFix p m c cc nL s args Ts own) (hs : mX g s) (hH : mH g S s H locs) (hsz : ls.size = nL) (cw : CallB R s args own index y bytes maxL ret ws rm rm.cells rm.slots n ∧ (Cond.static y).before args s = true) (hM : mMl l g y ws rm (As) S Q1 X1) (hn : As.length = n) (hst : st = As.reverse ++ rest) (hW : (rest.map fun v => v.category).sum ≤ 8) (hdg : decode cc pc = .ok (.invokestatic index, 3)) (hf : cells + rm.cells ≤ R.cells ∧ slots + rm.slots ≤ R.slots)
    (kx : mKx p l e R s m args below meth c (cells + rm.cells) (slots + rm.slots) Q g X1 (F0 m pc ls rest)) (kk : ∀ (r : Int64) (S1 : mmS) (H1 : Heap) (locs1 : List Loc), Q1 r S1 → mH g S1 s H1 locs1 → W p l e R s m args below meth c H1 locs1 (cells + rm.cells) (slots + rm.slots) Q (F0 m (pc + 3) ls (.long r :: rest))) : W p l e R s m args below meth c H locs cells slots Q (F0 m pc ls st) := by
  subst hst
  refine vx_calll (A1 := mB g) (AX := mB g) (vx_runS (As := As) (rest := rest) hC hM cw ⟨m_pcbl, fun U hU hW => ⟨rfl, wI_in hs hH hU hW⟩⟩ rfl hn hsz rfl (lv_room hW) hdg hf) hH.2.2 (fun _ _ h => h) (fun _ h => h) (fun _ _ h => h) (fun E ce q9 S1 t H1 locs1 ht hvm _ hx hz hk hS hce hcv hcl => kx E S1 H1 locs1 ce q9 hx.1 (m_back ht hx.2 hS) hce hcv hcl) ?_
  exact fun r S1 t H1 locs1 ht hvm hp hO hz hk hS => kk r S1 H1 locs1 hp (m_back ht hO hS)
theorem m_callVd {Q1 : UInt64 → mmS → Prop} (hC : CallFix p m c cc nL s args Ts own) (hs : mX g s) (hH : mH g S s H locs) (hsz : ls.size = nL) (cw : CallW R s args own C index y bytes maxL ret ws rm rm.cells rm.slots n) {b k : Nat} {T : u_T} {N : Nat} {ty : Nat → FieldType} (hcs : mCs k C T N ty) (hb : b ∈ mL S ∧ mK S b = k) (hM : mMd l g y ws rm (.ref b :: As) S Q1 X1) (hn : As.length = n) (hst : st = As.reverse ++ .ref b :: rest) (hW : (rest.map fun v => v.category).sum ≤ 8) (hdg : decode cc pc = .ok (.invokevirtual index, 3)) (hf : cells + rm.cells ≤ R.cells ∧ slots + rm.slots ≤ R.slots)
    (kx : mKx p l e R s m args below meth c (cells + rm.cells) (slots + rm.slots) Q g X1 (F0 m pc ls rest)) (kk : ∀ (r : UInt64) (S1 : mmS) (H1 : Heap) (locs1 : List Loc), Q1 r S1 → mH g S1 s H1 locs1 → W p l e R s m args below meth c H1 locs1 (cells + rm.cells) (slots + rm.slots) Q (F0 m (pc + 3) ls (.double r :: rest))) : W p l e R s m args below meth c H locs cells slots Q (F0 m pc ls st) := by
  subst hst
  refine vx_calld (A1 := mB g) (AX := mB g) (vx_runV (As := As) (rest := rest) hC hM cw ⟨m_pcbl, m_recv hs hH hcs hb, fun U hU hW => ⟨rfl, wI_in hs hH hU hW⟩⟩ rfl hn hsz rfl (lv_room hW) hdg hf) hH.2.2 (fun _ _ h => h) (fun _ h => h) (fun _ _ h => h) (fun E ce q9 S1 t H1 locs1 ht hvm _ hx hz hk hS hce hcv hcl => kx E S1 H1 locs1 ce q9 hx.1 (m_back ht hx.2 hS) hce hcv hcl) ?_
  exact fun r S1 t H1 locs1 ht hvm hp hO hz hk hS => kk r S1 H1 locs1 hp (m_back ht hO hS)
theorem m_callSd {Q1 : UInt64 → mmS → Prop} (hC : CallFix p m c cc nL s args Ts own) (hs : mX g s) (hH : mH g S s H locs) (hsz : ls.size = nL) (cw : CallB R s args own index y bytes maxL ret ws rm rm.cells rm.slots n ∧ (Cond.static y).before args s = true) (hM : mMd l g y ws rm (As) S Q1 X1) (hn : As.length = n) (hst : st = As.reverse ++ rest) (hW : (rest.map fun v => v.category).sum ≤ 8) (hdg : decode cc pc = .ok (.invokestatic index, 3)) (hf : cells + rm.cells ≤ R.cells ∧ slots + rm.slots ≤ R.slots)
    (kx : mKx p l e R s m args below meth c (cells + rm.cells) (slots + rm.slots) Q g X1 (F0 m pc ls rest)) (kk : ∀ (r : UInt64) (S1 : mmS) (H1 : Heap) (locs1 : List Loc), Q1 r S1 → mH g S1 s H1 locs1 → W p l e R s m args below meth c H1 locs1 (cells + rm.cells) (slots + rm.slots) Q (F0 m (pc + 3) ls (.double r :: rest))) : W p l e R s m args below meth c H locs cells slots Q (F0 m pc ls st) := by
  subst hst
  refine vx_calld (A1 := mB g) (AX := mB g) (vx_runS (As := As) (rest := rest) hC hM cw ⟨m_pcbl, fun U hU hW => ⟨rfl, wI_in hs hH hU hW⟩⟩ rfl hn hsz rfl (lv_room hW) hdg hf) hH.2.2 (fun _ _ h => h) (fun _ h => h) (fun _ _ h => h) (fun E ce q9 S1 t H1 locs1 ht hvm _ hx hz hk hS hce hcv hcl => kx E S1 H1 locs1 ce q9 hx.1 (m_back ht hx.2 hS) hce hcv hcl) ?_
  exact fun r S1 t H1 locs1 ht hvm hp hO hz hk hS => kk r S1 H1 locs1 hp (m_back ht hO hS)
theorem m_callVv {Q1 : mmS → Prop} (hC : CallFix p m c cc nL s args Ts own) (hs : mX g s) (hH : mH g S s H locs) (hsz : ls.size = nL) (cw : CallW R s args own C index y bytes maxL ret ws rm rm.cells rm.slots n) {b k : Nat} {T : u_T} {N : Nat} {ty : Nat → FieldType} (hcs : mCs k C T N ty) (hb : b ∈ mL S ∧ mK S b = k) (hM : mMv l g y ws rm (.ref b :: As) S Q1 X1) (hn : As.length = n) (hst : st = As.reverse ++ .ref b :: rest) (hW : (rest.map fun v => v.category).sum ≤ 8) (hdg : decode cc pc = .ok (.invokevirtual index, 3)) (hf : cells + rm.cells ≤ R.cells ∧ slots + rm.slots ≤ R.slots)
    (kx : mKx p l e R s m args below meth c (cells + rm.cells) (slots + rm.slots) Q g X1 (F0 m pc ls rest)) (kk : ∀ (S1 : mmS) (H1 : Heap) (locs1 : List Loc), Q1 S1 → mH g S1 s H1 locs1 → W p l e R s m args below meth c H1 locs1 (cells + rm.cells) (slots + rm.slots) Q (F0 m (pc + 3) ls rest)) : W p l e R s m args below meth c H locs cells slots Q (F0 m pc ls st) := by
  subst hst
  refine vx_callv (A1 := mB g) (AX := mB g) (vx_runV (As := As) (rest := rest) hC hM cw ⟨m_pcbl, m_recv hs hH hcs hb, fun U hU hW => ⟨rfl, wI_in hs hH hU hW⟩⟩ rfl hn hsz rfl (lv_room hW) hdg hf) hH.2.2 (fun _ _ h => h) (fun _ h => h) (fun _ _ h => h) (fun E ce q9 S1 t H1 locs1 ht hvm _ hx hz hk hS hce hcv hcl => kx E S1 H1 locs1 ce q9 hx.1 (m_back ht hx.2 hS) hce hcv hcl) ?_
  exact fun S1 t H1 locs1 ht hvm hp hO hz hk hS => kk S1 H1 locs1 hp (m_back ht hO hS)
theorem m_callSv {Q1 : mmS → Prop} (hC : CallFix p m c cc nL s args Ts own) (hs : mX g s) (hH : mH g S s H locs) (hsz : ls.size = nL) (cw : CallB R s args own index y bytes maxL ret ws rm rm.cells rm.slots n ∧ (Cond.static y).before args s = true) (hM : mMv l g y ws rm (As) S Q1 X1) (hn : As.length = n) (hst : st = As.reverse ++ rest) (hW : (rest.map fun v => v.category).sum ≤ 8) (hdg : decode cc pc = .ok (.invokestatic index, 3)) (hf : cells + rm.cells ≤ R.cells ∧ slots + rm.slots ≤ R.slots)
    (kx : mKx p l e R s m args below meth c (cells + rm.cells) (slots + rm.slots) Q g X1 (F0 m pc ls rest)) (kk : ∀ (S1 : mmS) (H1 : Heap) (locs1 : List Loc), Q1 S1 → mH g S1 s H1 locs1 → W p l e R s m args below meth c H1 locs1 (cells + rm.cells) (slots + rm.slots) Q (F0 m (pc + 3) ls rest)) : W p l e R s m args below meth c H locs cells slots Q (F0 m pc ls st) := by
  subst hst
  refine vx_callv (A1 := mB g) (AX := mB g) (vx_runS (As := As) (rest := rest) hC hM cw ⟨m_pcbl, fun U hU hW => ⟨rfl, wI_in hs hH hU hW⟩⟩ rfl hn hsz rfl (lv_room hW) hdg hf) hH.2.2 (fun _ _ h => h) (fun _ h => h) (fun _ _ h => h) (fun E ce q9 S1 t H1 locs1 ht hvm _ hx hz hk hS hce hcv hcl => kx E S1 H1 locs1 ce q9 hx.1 (m_back ht hx.2 hS) hce hcv hcl) ?_
  exact fun S1 t H1 locs1 ht hvm hp hO hz hk hS => kk S1 H1 locs1 hp (m_back ht hO hS)
theorem m_callIv {Q1 : mmS → Prop} (hC : CallFix p m c cc nL s args Ts own) (hs : mX g s) (hH : mH g S s H locs) (hsz : ls.size = nL) (cw : CallB R s args own index y bytes maxL none ws rm rm.cells rm.slots n ∧ y.name = "<init>" ∧ (Cond.instanceMethod y).before args s = true) {b : Nat} (hM : mMv l g y ws rm (.ref b :: As) S Q1 X1) (hn : As.length = n) (hst : st = As.reverse ++ .ref b :: rest) (hW : (rest.map fun v => v.category).sum ≤ 8) (hdg : decode cc pc = .ok (.invokespecial index, 3)) (hf : cells + rm.cells ≤ R.cells ∧ slots + rm.slots ≤ R.slots)
    (kx : mKx p l e R s m args below meth c (cells + rm.cells) (slots + rm.slots) Q g X1 (F0 m pc ls rest)) (kk : ∀ (S1 : mmS) (H1 : Heap) (locs1 : List Loc), Q1 S1 → mH g S1 s H1 locs1 → W p l e R s m args below meth c H1 locs1 (cells + rm.cells) (slots + rm.slots) Q (F0 m (pc + 3) ls rest)) : W p l e R s m args below meth c H locs cells slots Q (F0 m pc ls st) := by
  subst hst
  refine vx_callv (A1 := mB g) (AX := mB g) (vx_runI (As := As) (rest := rest) (b := b) hC hM cw ⟨m_pcbl, fun U hU hW => ⟨rfl, wI_in hs hH hU hW⟩⟩ rfl hn hsz rfl (lv_room hW) hdg hf) hH.2.2 (fun _ _ h => h) (fun _ h => h) (fun _ _ h => h) (fun E ce q9 S1 t H1 locs1 ht hvm _ hx hz hk hS hce hcv hcl => kx E S1 H1 locs1 ce q9 hx.1 (m_back ht hx.2 hS) hce hcv hcl) ?_
  exact fun S1 t H1 locs1 ht hvm hp hO hz hk hS => kk S1 H1 locs1 hp (m_back ht hO hS)
theorem m_callVq {Q1 : Nat → mmS → Prop} (hC : CallFix p m c cc nL s args Ts own) (hs : mX g s) (hH : mH g S s H locs) (hsz : ls.size = nL) (cw : CallW R s args own C index y bytes maxL ret ws rm rm.cells rm.slots n) {b k : Nat} {T : u_T} {N : Nat} {ty : Nat → FieldType} (hcs : mCs k C T N ty) (hb : b ∈ mL S ∧ mK S b = k) (hM : mMq l g y ws rm (.ref b :: As) S Q1 X1) (hn : As.length = n) (hst : st = As.reverse ++ .ref b :: rest) (hW : (rest.map fun v => v.category).sum ≤ 8) (hdg : decode cc pc = .ok (.invokevirtual index, 3)) (hf : cells + rm.cells ≤ R.cells ∧ slots + rm.slots ≤ R.slots)
    (kx : mKx p l e R s m args below meth c (cells + rm.cells) (slots + rm.slots) Q g X1 (F0 m pc ls rest)) (kk : ∀ (r : Nat) (S1 : mmS) (H1 : Heap) (locs1 : List Loc), Q1 r S1 → mH g S1 s H1 locs1 → W p l e R s m args below meth c H1 locs1 (cells + rm.cells) (slots + rm.slots) Q (F0 m (pc + 3) ls (.ref r :: rest))) : W p l e R s m args below meth c H locs cells slots Q (F0 m pc ls st) := by
  subst hst
  refine vx_callq (A1 := mB g) (AX := mB g) (vx_runV (As := As) (rest := rest) hC hM cw ⟨m_pcbl, m_recv hs hH hcs hb, fun U hU hW => ⟨rfl, wI_in hs hH hU hW⟩⟩ rfl hn hsz rfl (lv_room hW) hdg hf) hH.2.2 (fun _ _ h => h) (fun _ h => h) (fun _ _ h => h) (fun E ce q9 S1 t H1 locs1 ht hvm _ hx hz hk hS hce hcv hcl => kx E S1 H1 locs1 ce q9 hx.1 (m_back ht hx.2 hS) hce hcv hcl) ?_
  intro r S1 t H1 locs1 ht hvm hp hO hz hk hS
  obtain ⟨b, rfl, hq⟩ := hp
  exact kk b S1 H1 locs1 hq (m_back ht hO hS)
theorem m_callSq {Q1 : Nat → mmS → Prop} (hC : CallFix p m c cc nL s args Ts own) (hs : mX g s) (hH : mH g S s H locs) (hsz : ls.size = nL) (cw : CallB R s args own index y bytes maxL ret ws rm rm.cells rm.slots n ∧ (Cond.static y).before args s = true) (hM : mMq l g y ws rm (As) S Q1 X1) (hn : As.length = n) (hst : st = As.reverse ++ rest) (hW : (rest.map fun v => v.category).sum ≤ 8) (hdg : decode cc pc = .ok (.invokestatic index, 3)) (hf : cells + rm.cells ≤ R.cells ∧ slots + rm.slots ≤ R.slots)
    (kx : mKx p l e R s m args below meth c (cells + rm.cells) (slots + rm.slots) Q g X1 (F0 m pc ls rest)) (kk : ∀ (r : Nat) (S1 : mmS) (H1 : Heap) (locs1 : List Loc), Q1 r S1 → mH g S1 s H1 locs1 → W p l e R s m args below meth c H1 locs1 (cells + rm.cells) (slots + rm.slots) Q (F0 m (pc + 3) ls (.ref r :: rest))) : W p l e R s m args below meth c H locs cells slots Q (F0 m pc ls st) := by
  subst hst
  refine vx_callq (A1 := mB g) (AX := mB g) (vx_runS (As := As) (rest := rest) hC hM cw ⟨m_pcbl, fun U hU hW => ⟨rfl, wI_in hs hH hU hW⟩⟩ rfl hn hsz rfl (lv_room hW) hdg hf) hH.2.2 (fun _ _ h => h) (fun _ h => h) (fun _ _ h => h) (fun E ce q9 S1 t H1 locs1 ht hvm _ hx hz hk hS hce hcv hcl => kx E S1 H1 locs1 ce q9 hx.1 (m_back ht hx.2 hS) hce hcv hcl) ?_
  intro r S1 t H1 locs1 ht hvm hp hO hz hk hS
  obtain ⟨b, rfl, hq⟩ := hp
  exact kk b S1 H1 locs1 hq (m_back ht hO hS)
/-- a throw out of a call, not caught here -/
theorem m_out {k n mc ms : Nat} {Qc : Array Value → State → Outcome → State → Prop} (hnx : ∀ x ∈ c.exceptionTable.toList, covers x pc = false) (hlk : meth.locks = false) (h1 : k ≤ mc) (h2 : n ≤ ms) : mKx p l e R s m args below meth c k n (vx_MQ below Qc (vx_X (fun _ : mmS => True) (fun E S1 t => X1 E S1 ∧ wO g S1 t) (mB g)) args s mc ms (mB g)) g X1 (F0 m pc ls rest) := by
  intro E S1 H1 locs1 ce q9 hx hH hce hcv hcl
  refine vx_out hnx hlk hce hcv hcl (fun t ht hW => ⟨S1, trivial, ⟨hx, ?_⟩, hH.2.2.F ht⟩) hH.2.2.2.2 h1 h2
  unfold wO
  rw [ht]
  exact ⟨hH.1, hH.2.1⟩
theorem m_reti {v : Int32} {mc ms : Nat} {Q1 : Int32 → mmS → Prop} {XC : String → State → State → Prop} (hC : CallFix p m c cc nL s args Ts own) (hH : mH g S s H locs) {ft : FieldType} (hr : meth.sig.returnType = some ft) (hn : narrow ft (.int v) = .int v) (hlk : meth.locks = false) (h1 : cells ≤ mc) (h2 : slots ≤ ms) (hdg : decode cc pc = .ok (.ireturn, 1)) (hq : Q1 v S) : W p l e R s m args below meth c H locs cells slots (vx_MQ below (va_Qi Q1 (wO g) (mB g)) XC args s mc ms (mB g)) (F0 m pc ls [.int v]) := by
  refine W.widen h1 h2 (vx_ret ?_)
  exact W.zret hC.1 hC.2.1 hr hn (fun t ht hW => ⟨⟨v, S, rfl, hq, by unfold wO; rw [ht]; exact ⟨hH.1, hH.2.1⟩⟩, hH.2.2.F ht⟩) hH.2.2.2.2 hdg hlk
theorem m_retl {v : Int64} {mc ms : Nat} {Q1 : Int64 → mmS → Prop} {XC : String → State → State → Prop} (hC : CallFix p m c cc nL s args Ts own) (hH : mH g S s H locs) (hr : meth.sig.returnType = some .long) (hlk : meth.locks = false) (h1 : cells ≤ mc) (h2 : slots ≤ ms) (hdg : decode cc pc = .ok (.lreturn, 1)) (hq : Q1 v S) : W p l e R s m args below meth c H locs cells slots (vx_MQ below (va_Ql Q1 (wO g) (mB g)) XC args s mc ms (mB g)) (F0 m pc ls [.long v]) := by
  refine W.widen h1 h2 (vx_ret ?_)
  exact W.lret hC.1 hC.2.1 hr (fun t ht hW => ⟨⟨v, S, rfl, hq, by unfold wO; rw [ht]; exact ⟨hH.1, hH.2.1⟩⟩, hH.2.2.F ht⟩) hH.2.2.2.2 hdg hlk
theorem m_retd {v : UInt64} {mc ms : Nat} {Q1 : UInt64 → mmS → Prop} {XC : String → State → State → Prop} (hC : CallFix p m c cc nL s args Ts own) (hH : mH g S s H locs) (hr : meth.sig.returnType = some .double) (hlk : meth.locks = false) (h1 : cells ≤ mc) (h2 : slots ≤ ms) (hdg : decode cc pc = .ok (.dreturn, 1)) (hq : Q1 v S) : W p l e R s m args below meth c H locs cells slots (vx_MQ below (va_Qd Q1 (wO g) (mB g)) XC args s mc ms (mB g)) (F0 m pc ls [.double v]) := by
  refine W.widen h1 h2 (vx_ret ?_)
  exact W.dret hC.1 hC.2.1 hr (fun t ht hW => ⟨⟨v, S, rfl, hq, by unfold wO; rw [ht]; exact ⟨hH.1, hH.2.1⟩⟩, hH.2.2.F ht⟩) hH.2.2.2.2 hdg hlk
theorem m_retv {mc ms : Nat} {Q1 : mmS → Prop} {XC : String → State → State → Prop} (hC : CallFix p m c cc nL s args Ts own) (hH : mH g S s H locs) (hr : meth.sig.returnType = none) (hlk : meth.locks = false) (h1 : cells ≤ mc) (h2 : slots ≤ ms) (hdg : decode cc pc = .ok (.return_, 1)) (hq : Q1 S) : W p l e R s m args below meth c H locs cells slots (vx_MQ below (va_Qv Q1 (wO g) (mB g)) XC args s mc ms (mB g)) (F0 m pc ls []) := by
  refine W.widen h1 h2 (vx_ret ?_)
  exact W.vret hC.1 hC.2.1 hr (fun t ht hW => ⟨⟨S, rfl, hq, by unfold wO; rw [ht]; exact ⟨hH.1, hH.2.1⟩⟩, hH.2.2.F ht⟩) hH.2.2.2.2 hdg hlk
theorem m_retq {b mc ms : Nat} {rt : FieldType} {Q1 : Nat → mmS → Prop} {XC : String → State → State → Prop} (hC : CallFix p m c cc nL s args Ts own) (hH : mH g S s H locs) (hr : meth.sig.returnType = some rt) (hrt : (∃ n, rt = .object n) ∨ ∃ t, rt = .array t) (hlk : meth.locks = false) (h1 : cells ≤ mc) (h2 : slots ≤ ms) (hdg : decode cc pc = .ok (.areturn, 1)) (hq : Q1 b S) : W p l e R s m args below meth c H locs cells slots (vx_MQ below (va_Qq (fun (r : Option Nat) (S1 : mmS) => ∃ b, r = some b ∧ Q1 b S1) (wO g) (mB g)) XC args s mc ms (mB g)) (F0 m pc ls [.ref b]) := by
  refine W.widen h1 h2 (vx_ret ?_)
  exact W.aret hC.1 hC.2.1 hr hrt (Or.inr ⟨b, rfl⟩) (fun t ht hW => ⟨⟨some b, S, rfl, ⟨b, rfl, hq⟩, by unfold wO; rw [ht]; exact ⟨hH.1, hH.2.1⟩⟩, hH.2.2.F ht⟩) hH.2.2.2.2 hdg hlk
/-- a contract out of a walk of the body -/
theorem m_of {ws' : List Cond} {Qc : Array Value → State → Outcome → State → Prop} {XC : String → State → State → Prop} (hy : plainName y.cls = true) (hw : ws = Cond.code y cc maxL ret :: ws') (hn : (lg_sl As).length ≤ maxL)
    (body : ∀ (p : Program) (e : Env) (s : State) (m : MethodId) (args : Array Value) (below : List Frame) (meth : Method) (c : Code) (ls : Array Slot), CallFix p m c cc maxL s args ws y.cls → meth.sig.returnType = ret → meth.locks = false → meth.name = y.name → (∀ x ∈ c.exceptionTable.toList, False) → mX g s → mH g S s s.heap [] → lv_has ls maxL (lv_args 0 As) → W p l e rm s m args below meth c s.heap [] 0 0 (vx_MQ below Qc XC args s rm.cells rm.slots (mB g)) (F0 m 0 ls [])) : vx_Met l y ws rm (va_Pc As (wI g S)) Qc XC rm.cells rm.slots (mB g) := by
  refine vx_ofW (cc := cc) (maxL := maxL) (ret := ret) hy hw ?_
  intro p e s m args below meth c s₁ B hml hnx hv
  obtain ⟨rfl, hX, hP, hD⟩ := hv
  have hts := atoms_spec (ws := ws) B.pre
  have hown : s.vm.findClass y.cls = some m.cls := findClass_of_methodNamed B.named
  have hl := lv_entry As (n := maxL) hn
  rw [lg_entry_eq]
  generalize (lg_sl As ++ List.replicate (maxL - (lg_sl As).length) Slot.unset).toArray = ls at hl ⊢
  exact body p e s m _ below meth c ls ⟨B.exec, B.bytes, hml, hown, hts⟩ B.returns B.notSynchronized (name_of_methodNamed B.named B.method).1 hnx hX ⟨hP, hD, va_S.rf⟩ hl
theorem m_ofH {ws' : List Cond} {hh : List (Nat × Nat × Nat × Nat)} {Qc : Array Value → State → Outcome → State → Prop} {XC : String → State → State → Prop} (hy : plainName y.cls = true) (hw : ws = Cond.codeWith y cc maxL ret hh :: ws') (hn : (lg_sl As).length ≤ maxL)
    (body : ∀ (p : Program) (e : Env) (s : State) (m : MethodId) (args : Array Value) (below : List Frame) (meth : Method) (c : Code) (ls : Array Slot), CallFix p m c cc maxL s args ws y.cls → meth.sig.returnType = ret → meth.locks = false → meth.name = y.name → c.exceptionTable.toList = tableOf hh → mX g s → mH g S s s.heap [] → lv_has ls maxL (lv_args 0 As) → W p l e rm s m args below meth c s.heap [] 0 0 (vx_MQ below Qc XC args s rm.cells rm.slots (mB g)) (F0 m 0 ls [])) : vx_Met l y ws rm (va_Pc As (wI g S)) Qc XC rm.cells rm.slots (mB g) := by
  refine vx_ofWH (cc := cc) (maxL := maxL) (ret := ret) (hh := hh) hy hw ?_
  intro p e s m args below meth c s₁ B hml hv
  obtain ⟨rfl, hX, hP, hD⟩ := hv
  have hts := atoms_spec (ws := ws) B.pre
  have hown : s.vm.findClass y.cls = some m.cls := findClass_of_methodNamed B.named
  have hnx : c.exceptionTable.toList = tableOf hh := vx_table (x := y) B (hts (Cond.codeWith y cc maxL ret hh) (by rw [hw]; exact List.mem_cons_self))
  have hl := lv_entry As (n := maxL) hn
  rw [lg_entry_eq]
  generalize (lg_sl As ++ List.replicate (maxL - (lg_sl As).length) Slot.unset).toArray = ls at hl ⊢
  exact body p e s m _ below meth c ls ⟨B.exec, B.bytes, hml, hown, hts⟩ B.returns B.notSynchronized (name_of_methodNamed B.named B.method).1 hnx hX ⟨hP, hD, va_S.rf⟩ hl
end MCALL
abbrev wA_ (y : MethodName) (cc : ByteArray) (n : Nat) (r : Option FieldType) : List Cond := Cond.code y cc n r :: wsL_law
abbrev wAh_ (y : MethodName) (cc : ByteArray) (n : Nat) (r : Option FieldType) (hh : List (Nat × Nat × Nat × Nat)) : List Cond := Cond.codeWith y cc n r hh :: wsL_law
theorem wA_good : wsL_law.all goodWord = true := by decide +kernel
theorem wA_gw : ∀ w ∈ wsL_law, ((w.onTables && w.keeps) = true ∨ ∃ ty, w = .arrayClass ty) := fun w h => good_of_word (List.all_eq_true.mp wA_good w h)
theorem gA1 {w0 : Cond} {ws : List Cond} (h : ∀ w ∈ ws, w ∈ wsL_law) : GoodIn (w0 :: wsL_law) ws := fun w hw => ⟨List.mem_cons_of_mem _ (h w hw), wA_gw w (h w hw)⟩
theorem gA0 {w0 : Cond} {y : MethodName} {b : ByteArray} {n : Nat} {r : Option FieldType} (h5 : Cond.code y b n r ∈ wsL_law) : GoodIn (w0 :: wsL_law) (wA_ y b n r) := gA1 (List.forall_mem_cons.mpr ⟨h5, fun _ h => h⟩)
theorem gA_V {w0 : Cond} {own C : String} {idx : Nat} {y : MethodName} {b : ByteArray} {n : Nat} {r : Option FieldType} (h1 : Cond.methodLink own idx y ∈ wsL_law) (h2 : Cond.instanceMethod y ∈ wsL_law) (h3 : Cond.selects C y y ∈ wsL_law) (h4 : Cond.initialized C ∈ wsL_law) (h5 : Cond.code y b n r ∈ wsL_law) : GoodIn (w0 :: wsL_law) (wsV own idx C y (wA_ y b n r)) := goodIn_app (gA1 (List.forall_mem_cons.mpr ⟨h1, List.forall_mem_cons.mpr ⟨h2, List.forall_mem_cons.mpr ⟨h3, List.forall_mem_cons.mpr ⟨h4, fun _ h => absurd h List.not_mem_nil⟩⟩⟩⟩)) (gA0 h5)
theorem gA_S {w0 : Cond} {own : String} {idx : Nat} {y : MethodName} {b : ByteArray} {n : Nat} {r : Option FieldType} (h1 : Cond.methodLink own idx y ∈ wsL_law) (h2 : Cond.static y ∈ wsL_law) (h4 : Cond.initialized y.cls ∈ wsL_law) (h5 : Cond.code y b n r ∈ wsL_law) : GoodIn (w0 :: wsL_law) (va_wsS own idx y (wA_ y b n r)) := goodIn_app (gA1 (List.forall_mem_cons.mpr ⟨h1, List.forall_mem_cons.mpr ⟨h2, List.forall_mem_cons.mpr ⟨h4, fun _ h => absurd h List.not_mem_nil⟩⟩⟩)) (gA0 h5)
theorem gA_SW {w0 : Cond} {own : String} {idx : Nat} {y : MethodName} {b : ByteArray} {n : Nat} {r : Option FieldType} {hh : List (Nat × Nat × Nat × Nat)} (h1 : Cond.methodLink own idx y ∈ wsL_law) (h2 : Cond.static y ∈ wsL_law) (h4 : Cond.initialized y.cls ∈ wsL_law) (h5 : Cond.codeWith y b n r hh ∈ wsL_law) : GoodIn (w0 :: wsL_law) (va_wsS own idx y (wAh_ y b n r hh)) := goodIn_app (gA1 (List.forall_mem_cons.mpr ⟨h1, List.forall_mem_cons.mpr ⟨h2, List.forall_mem_cons.mpr ⟨h4, fun _ h => absurd h List.not_mem_nil⟩⟩⟩)) (gA1 (List.forall_mem_cons.mpr ⟨h5, fun _ h => h⟩))
end
section
theorem zz_last : True := trivial
end
