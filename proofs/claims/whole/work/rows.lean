section
-- ===== PART A: goes FIRST, ahead of the names: the tables' words, and 'selects' of the private methods out of them =====
/-- a private method of a class that the tables say can be made, by its rows of tables_1 -/
def lw_okq (q : MethodName × Nat) : Prop := (q.1.cls ≠ "java/lang/invoke/MethodHandle" ∧ q.1.cls ≠ "java/lang/invoke/VarHandle") ∧ Cond.instantiable q.1.cls q.2 ∈ tables_1 ∧ Cond.privateMethod q.1 ∈ tables_1 ∧ Cond.instanceMethod q.1 ∈ tables_1
theorem lw_p0 : lw_okq (⟨"PhoneRater", "mixLines", "(J)J"⟩, 7) := ⟨⟨by decide +kernel, by decide +kernel⟩, List.mem_of_getElem? (i := 30) (by decide +kernel), List.mem_of_getElem? (i := 126) (by decide +kernel), List.mem_of_getElem? (i := 127) (by decide +kernel)⟩
theorem lw_p1 : lw_okq (⟨"PhoneRater", "mixAccounts", "(J)J"⟩, 7) := ⟨⟨by decide +kernel, by decide +kernel⟩, List.mem_of_getElem? (i := 30) (by decide +kernel), List.mem_of_getElem? (i := 131) (by decide +kernel), List.mem_of_getElem? (i := 132) (by decide +kernel)⟩
theorem lw_p2 : lw_okq (⟨"PhoneRater", "mixCalls", "(J)J"⟩, 7) := ⟨⟨by decide +kernel, by decide +kernel⟩, List.mem_of_getElem? (i := 30) (by decide +kernel), List.mem_of_getElem? (i := 144) (by decide +kernel), List.mem_of_getElem? (i := 145) (by decide +kernel)⟩
theorem lw_p3 : lw_okq (⟨"java/lang/Throwable", "fillInStackTrace", "(I)Ljava/lang/Throwable;"⟩, 6) := ⟨⟨by decide +kernel, by decide +kernel⟩, List.mem_of_getElem? (i := 205) (by decide +kernel), List.mem_of_getElem? (i := 203) (by decide +kernel), List.mem_of_getElem? (i := 204) (by decide +kernel)⟩
theorem lw_p4 : lw_okq (⟨"java/util/ArrayList", "add", "(Ljava/lang/Object;[Ljava/lang/Object;I)V"⟩, 3) := ⟨⟨by decide +kernel, by decide +kernel⟩, List.mem_of_getElem? (i := 38) (by decide +kernel), List.mem_of_getElem? (i := 293) (by decide +kernel), List.mem_of_getElem? (i := 294) (by decide +kernel)⟩
theorem lw_p5 : lw_okq (⟨"java/util/ArrayList", "grow", "()[Ljava/lang/Object;"⟩, 3) := ⟨⟨by decide +kernel, by decide +kernel⟩, List.mem_of_getElem? (i := 38) (by decide +kernel), List.mem_of_getElem? (i := 297) (by decide +kernel), List.mem_of_getElem? (i := 298) (by decide +kernel)⟩
theorem lw_p6 : lw_okq (⟨"java/util/ArrayList", "grow", "(I)[Ljava/lang/Object;"⟩, 3) := ⟨⟨by decide +kernel, by decide +kernel⟩, List.mem_of_getElem? (i := 38) (by decide +kernel), List.mem_of_getElem? (i := 301) (by decide +kernel), List.mem_of_getElem? (i := 302) (by decide +kernel)⟩
theorem lw_p7 : lw_okq (⟨"PhoneRater", "findTariff", "(I)LPhoneRater$Tariff;"⟩, 7) := ⟨⟨by decide +kernel, by decide +kernel⟩, List.mem_of_getElem? (i := 30) (by decide +kernel), List.mem_of_getElem? (i := 354) (by decide +kernel), List.mem_of_getElem? (i := 355) (by decide +kernel)⟩
theorem lw_p8 : lw_okq (⟨"PhoneRater", "rateAll", "()V"⟩, 7) := ⟨⟨by decide +kernel, by decide +kernel⟩, List.mem_of_getElem? (i := 30) (by decide +kernel), List.mem_of_getElem? (i := 379) (by decide +kernel), List.mem_of_getElem? (i := 380) (by decide +kernel)⟩
theorem lw_p9 : lw_okq (⟨"PhoneRater", "rate", "(LPhoneRater$Call;)V"⟩, 7) := ⟨⟨by decide +kernel, by decide +kernel⟩, List.mem_of_getElem? (i := 30) (by decide +kernel), List.mem_of_getElem? (i := 395) (by decide +kernel), List.mem_of_getElem? (i := 396) (by decide +kernel)⟩
theorem lw_p10 : lw_okq (⟨"PhoneRater", "beginsInPeak", "(LPhoneRater$Call;)Z"⟩, 7) := ⟨⟨by decide +kernel, by decide +kernel⟩, List.mem_of_getElem? (i := 30) (by decide +kernel), List.mem_of_getElem? (i := 408) (by decide +kernel), List.mem_of_getElem? (i := 409) (by decide +kernel)⟩
theorem lw_p11 : lw_okq (⟨"PhoneRater", "findAccount", "(I)LPhoneRater$Account;"⟩, 7) := ⟨⟨by decide +kernel, by decide +kernel⟩, List.mem_of_getElem? (i := 30) (by decide +kernel), List.mem_of_getElem? (i := 494) (by decide +kernel), List.mem_of_getElem? (i := 495) (by decide +kernel)⟩
theorem lw_p12 : lw_okq (⟨"PhoneRater", "findLine", "(I)LPhoneRater$Line;"⟩, 7) := ⟨⟨by decide +kernel, by decide +kernel⟩, List.mem_of_getElem? (i := 30) (by decide +kernel), List.mem_of_getElem? (i := 535) (by decide +kernel), List.mem_of_getElem? (i := 536) (by decide +kernel)⟩
theorem lw_p13 : lw_okq (⟨"PhoneRater", "giveTariff", "(LPhoneRater$Line;LPhoneRater$Tariff;)V"⟩, 7) := ⟨⟨by decide +kernel, by decide +kernel⟩, List.mem_of_getElem? (i := 30) (by decide +kernel), List.mem_of_getElem? (i := 540) (by decide +kernel), List.mem_of_getElem? (i := 541) (by decide +kernel)⟩
theorem lw_p14 : lw_okq (⟨"PhoneRater", "putInOrder", "(LPhoneRater$Call;)V"⟩, 7) := ⟨⟨by decide +kernel, by decide +kernel⟩, List.mem_of_getElem? (i := 30) (by decide +kernel), List.mem_of_getElem? (i := 607) (by decide +kernel), List.mem_of_getElem? (i := 608) (by decide +kernel)⟩
theorem lw_p15 : lw_okq (⟨"java/util/ArrayList", "rangeCheckForAdd", "(I)V"⟩, 3) := ⟨⟨by decide +kernel, by decide +kernel⟩, List.mem_of_getElem? (i := 38) (by decide +kernel), List.mem_of_getElem? (i := 615) (by decide +kernel), List.mem_of_getElem? (i := 616) (by decide +kernel)⟩
def lw_privs_1 : List (MethodName × Nat) := [(⟨"PhoneRater", "mixLines", "(J)J"⟩, 7), (⟨"PhoneRater", "mixAccounts", "(J)J"⟩, 7), (⟨"PhoneRater", "mixCalls", "(J)J"⟩, 7), (⟨"java/lang/Throwable", "fillInStackTrace", "(I)Ljava/lang/Throwable;"⟩, 6), (⟨"java/util/ArrayList", "add", "(Ljava/lang/Object;[Ljava/lang/Object;I)V"⟩, 3), (⟨"java/util/ArrayList", "grow", "()[Ljava/lang/Object;"⟩, 3), (⟨"java/util/ArrayList", "grow", "(I)[Ljava/lang/Object;"⟩, 3), (⟨"PhoneRater", "findTariff", "(I)LPhoneRater$Tariff;"⟩, 7), (⟨"PhoneRater", "rateAll", "()V"⟩, 7), (⟨"PhoneRater", "rate", "(LPhoneRater$Call;)V"⟩, 7), (⟨"PhoneRater", "beginsInPeak", "(LPhoneRater$Call;)Z"⟩, 7), (⟨"PhoneRater", "findAccount", "(I)LPhoneRater$Account;"⟩, 7), (⟨"PhoneRater", "findLine", "(I)LPhoneRater$Line;"⟩, 7), (⟨"PhoneRater", "giveTariff", "(LPhoneRater$Line;LPhoneRater$Tariff;)V"⟩, 7), (⟨"PhoneRater", "putInOrder", "(LPhoneRater$Call;)V"⟩, 7), (⟨"java/util/ArrayList", "rangeCheckForAdd", "(I)V"⟩, 3)]
theorem lw_r1 : ∀ q ∈ lw_privs_1, lw_okq q := List.forall_mem_cons.mpr ⟨lw_p0, List.forall_mem_cons.mpr ⟨lw_p1, List.forall_mem_cons.mpr ⟨lw_p2, List.forall_mem_cons.mpr ⟨lw_p3, List.forall_mem_cons.mpr ⟨lw_p4, List.forall_mem_cons.mpr ⟨lw_p5, List.forall_mem_cons.mpr ⟨lw_p6, List.forall_mem_cons.mpr ⟨lw_p7, List.forall_mem_cons.mpr ⟨lw_p8, List.forall_mem_cons.mpr ⟨lw_p9, List.forall_mem_cons.mpr ⟨lw_p10, List.forall_mem_cons.mpr ⟨lw_p11, List.forall_mem_cons.mpr ⟨lw_p12, List.forall_mem_cons.mpr ⟨lw_p13, List.forall_mem_cons.mpr ⟨lw_p14, List.forall_mem_cons.mpr ⟨lw_p15, fun _ h => absurd h List.not_mem_nil⟩⟩⟩⟩⟩⟩⟩⟩⟩⟩⟩⟩⟩⟩⟩⟩
theorem lw_p16 : lw_okq (⟨"java/util/ArrayList", "outOfBoundsMsg", "(I)Ljava/lang/String;"⟩, 3) := ⟨⟨by decide +kernel, by decide +kernel⟩, List.mem_of_getElem? (i := 38) (by decide +kernel), List.mem_of_getElem? (i := 620) (by decide +kernel), List.mem_of_getElem? (i := 621) (by decide +kernel)⟩
theorem lw_p17 : lw_okq (⟨"PhoneRater", "findCall", "(I)LPhoneRater$Call;"⟩, 7) := ⟨⟨by decide +kernel, by decide +kernel⟩, List.mem_of_getElem? (i := 30) (by decide +kernel), List.mem_of_getElem? (i := 864) (by decide +kernel), List.mem_of_getElem? (i := 865) (by decide +kernel)⟩
theorem lw_p18 : lw_okq (⟨"PhoneRaterModel", "fail", "(I)I"⟩, 19) := ⟨⟨by decide +kernel, by decide +kernel⟩, List.mem_of_getElem? (i := 957) (by decide +kernel), List.mem_of_getElem? (i := 1032) (by decide +kernel), List.mem_of_getElem? (i := 1033) (by decide +kernel)⟩
theorem lw_p19 : lw_okq (⟨"PhoneRaterModel", "isTariff", "(I)Z"⟩, 19) := ⟨⟨by decide +kernel, by decide +kernel⟩, List.mem_of_getElem? (i := 957) (by decide +kernel), List.mem_of_getElem? (i := 1041) (by decide +kernel), List.mem_of_getElem? (i := 1042) (by decide +kernel)⟩
theorem lw_p20 : lw_okq (⟨"PhoneRaterModel", "isAccount", "(I)Z"⟩, 19) := ⟨⟨by decide +kernel, by decide +kernel⟩, List.mem_of_getElem? (i := 957) (by decide +kernel), List.mem_of_getElem? (i := 1059) (by decide +kernel), List.mem_of_getElem? (i := 1060) (by decide +kernel)⟩
theorem lw_p21 : lw_okq (⟨"PhoneRaterModel", "isLine", "(I)Z"⟩, 19) := ⟨⟨by decide +kernel, by decide +kernel⟩, List.mem_of_getElem? (i := 957) (by decide +kernel), List.mem_of_getElem? (i := 1067) (by decide +kernel), List.mem_of_getElem? (i := 1068) (by decide +kernel)⟩
theorem lw_p22 : lw_okq (⟨"PhoneRaterModel", "isCall", "(I)Z"⟩, 19) := ⟨⟨by decide +kernel, by decide +kernel⟩, List.mem_of_getElem? (i := 957) (by decide +kernel), List.mem_of_getElem? (i := 1084) (by decide +kernel), List.mem_of_getElem? (i := 1085) (by decide +kernel)⟩
theorem lw_p23 : lw_okq (⟨"PhoneRaterModel", "isInPeak", "(I)Z"⟩, 19) := ⟨⟨by decide +kernel, by decide +kernel⟩, List.mem_of_getElem? (i := 957) (by decide +kernel), List.mem_of_getElem? (i := 1100) (by decide +kernel), List.mem_of_getElem? (i := 1101) (by decide +kernel)⟩
theorem lw_p24 : lw_okq (⟨"PhoneRaterModel", "rateAll", "()V"⟩, 19) := ⟨⟨by decide +kernel, by decide +kernel⟩, List.mem_of_getElem? (i := 957) (by decide +kernel), List.mem_of_getElem? (i := 1111) (by decide +kernel), List.mem_of_getElem? (i := 1112) (by decide +kernel)⟩
theorem lw_p25 : lw_okq (⟨"PhoneRaterModel", "rate", "(I)V"⟩, 19) := ⟨⟨by decide +kernel, by decide +kernel⟩, List.mem_of_getElem? (i := 957) (by decide +kernel), List.mem_of_getElem? (i := 1115) (by decide +kernel), List.mem_of_getElem? (i := 1116) (by decide +kernel)⟩
theorem lw_p26 : lw_okq (⟨"PhoneRaterModel", "earlier", "(I)I"⟩, 19) := ⟨⟨by decide +kernel, by decide +kernel⟩, List.mem_of_getElem? (i := 957) (by decide +kernel), List.mem_of_getElem? (i := 1120) (by decide +kernel), List.mem_of_getElem? (i := 1121) (by decide +kernel)⟩
theorem lw_p27 : lw_okq (⟨"PhoneRaterModel", "toldOf", "(II)I"⟩, 19) := ⟨⟨by decide +kernel, by decide +kernel⟩, List.mem_of_getElem? (i := 957) (by decide +kernel), List.mem_of_getElem? (i := 1125) (by decide +kernel), List.mem_of_getElem? (i := 1126) (by decide +kernel)⟩
theorem lw_p28 : lw_okq (⟨"PhoneRaterModel", "lineSumOf", "(I)I"⟩, 19) := ⟨⟨by decide +kernel, by decide +kernel⟩, List.mem_of_getElem? (i := 957) (by decide +kernel), List.mem_of_getElem? (i := 1137) (by decide +kernel), List.mem_of_getElem? (i := 1138) (by decide +kernel)⟩
theorem lw_p29 : lw_okq (⟨"PhoneRaterModel", "sumOf", "(I)I"⟩, 19) := ⟨⟨by decide +kernel, by decide +kernel⟩, List.mem_of_getElem? (i := 957) (by decide +kernel), List.mem_of_getElem? (i := 1149) (by decide +kernel), List.mem_of_getElem? (i := 1150) (by decide +kernel)⟩
theorem lw_p30 : lw_okq (⟨"PhoneRaterModel", "totalOf", "(I)I"⟩, 19) := ⟨⟨by decide +kernel, by decide +kernel⟩, List.mem_of_getElem? (i := 957) (by decide +kernel), List.mem_of_getElem? (i := 1157) (by decide +kernel), List.mem_of_getElem? (i := 1158) (by decide +kernel)⟩
theorem lw_p31 : lw_okq (⟨"PhoneRaterModel", "with", "(II)I"⟩, 19) := ⟨⟨by decide +kernel, by decide +kernel⟩, List.mem_of_getElem? (i := 957) (by decide +kernel), List.mem_of_getElem? (i := 1178) (by decide +kernel), List.mem_of_getElem? (i := 1179) (by decide +kernel)⟩
def lw_privs_2 : List (MethodName × Nat) := [(⟨"java/util/ArrayList", "outOfBoundsMsg", "(I)Ljava/lang/String;"⟩, 3), (⟨"PhoneRater", "findCall", "(I)LPhoneRater$Call;"⟩, 7), (⟨"PhoneRaterModel", "fail", "(I)I"⟩, 19), (⟨"PhoneRaterModel", "isTariff", "(I)Z"⟩, 19), (⟨"PhoneRaterModel", "isAccount", "(I)Z"⟩, 19), (⟨"PhoneRaterModel", "isLine", "(I)Z"⟩, 19), (⟨"PhoneRaterModel", "isCall", "(I)Z"⟩, 19), (⟨"PhoneRaterModel", "isInPeak", "(I)Z"⟩, 19), (⟨"PhoneRaterModel", "rateAll", "()V"⟩, 19), (⟨"PhoneRaterModel", "rate", "(I)V"⟩, 19), (⟨"PhoneRaterModel", "earlier", "(I)I"⟩, 19), (⟨"PhoneRaterModel", "toldOf", "(II)I"⟩, 19), (⟨"PhoneRaterModel", "lineSumOf", "(I)I"⟩, 19), (⟨"PhoneRaterModel", "sumOf", "(I)I"⟩, 19), (⟨"PhoneRaterModel", "totalOf", "(I)I"⟩, 19), (⟨"PhoneRaterModel", "with", "(II)I"⟩, 19)]
theorem lw_r2 : ∀ q ∈ lw_privs_2, lw_okq q := List.forall_mem_cons.mpr ⟨lw_p16, List.forall_mem_cons.mpr ⟨lw_p17, List.forall_mem_cons.mpr ⟨lw_p18, List.forall_mem_cons.mpr ⟨lw_p19, List.forall_mem_cons.mpr ⟨lw_p20, List.forall_mem_cons.mpr ⟨lw_p21, List.forall_mem_cons.mpr ⟨lw_p22, List.forall_mem_cons.mpr ⟨lw_p23, List.forall_mem_cons.mpr ⟨lw_p24, List.forall_mem_cons.mpr ⟨lw_p25, List.forall_mem_cons.mpr ⟨lw_p26, List.forall_mem_cons.mpr ⟨lw_p27, List.forall_mem_cons.mpr ⟨lw_p28, List.forall_mem_cons.mpr ⟨lw_p29, List.forall_mem_cons.mpr ⟨lw_p30, List.forall_mem_cons.mpr ⟨lw_p31, fun _ h => absurd h List.not_mem_nil⟩⟩⟩⟩⟩⟩⟩⟩⟩⟩⟩⟩⟩⟩⟩⟩
def lw_privs : List (MethodName × Nat) := lw_privs_1 ++ (lw_privs_2)
def lw_tbl : List Cond := k2_sels lw_privs ++ tables_1
theorem lw_privs_ok : ∀ q ∈ lw_privs, lw_okq q := by
  show ∀ q ∈ lw_privs_1 ++ (lw_privs_2), lw_okq q
  exact List.forall_mem_append.mpr ⟨lw_r1, lw_r2⟩
/-- the streams that the claim lets the run draw from -/
abbrev lw_cs : List Choice := [Jvm.Choice.named "NaN.bits"]
theorem lw_bits : nanBits ∈ lw_cs := by first | decide | exact List.mem_cons_self | simp [lw_cs, nanBits]
end
section
/-! ===== BEGIN words of one list among another's, by their places ===== -/
theorem goodIn_r {big : List Cond} (ws : List Cond) (ps : List Nat) (hp : ws = ps.filterMap (fun i => big[i]?)) (h : ws.all goodWord = true) : GoodIn big ws := by
  intro w hw
  have h1 := List.all_eq_true.mp h w hw
  rw [hp] at hw
  obtain ⟨i, -, hi⟩ := List.mem_filterMap.mp hw
  have hm : w ∈ big := by first | exact List.mem_of_getElem? hi | exact List.getElem?_mem hi
  exact ⟨hm, good_of_word h1⟩
theorem goodIn_app {big a b : List Cond} (ha : GoodIn big a) (hb : GoodIn big b) : GoodIn big (a ++ b) := fun w h => (List.mem_append.mp h).elim (ha w) (hb w)
theorem goodIn_ca {big a b : List Cond} {c : Cond} (ha : GoodIn big (c :: a)) (hb : GoodIn big b) : GoodIn big (c :: (a ++ b)) := fun w h => (List.mem_cons.mp h).elim (fun e => ha w (List.mem_cons.mpr (Or.inl e))) (fun h => (List.mem_append.mp h).elim (fun h => ha w (List.mem_cons.mpr (Or.inr h))) (hb w))
theorem goodIn_sub {big ws : List Cond} (hm : ∀ w ∈ ws, w ∈ big) (h : ws.all goodWord = true) : GoodIn big ws := fun w hw => ⟨hm w hw, good_of_word (List.all_eq_true.mp h w hw)⟩
/-! ===== END ===== -/

/-! ===== BEGIN exceptions that leave a method, and their catching by the caller (launches without stack traces) ===== -/
section VXA
/-! The laws vx_back, vx_callV, vx_callS, vx_callSW, vx_throw0, vx_throwS follow proofs of the library, with one case more: JvmDerived/Free/Laws.lean (Back.of_free), Shelf42/LK1.lean (callV, callS), Shelf/KitTraced.lean (throwNew0V, throwNewS). -/
/-- where a method has thrown q: the class by its name, the cell, what was written, the world -/
def vx_T (XC : String → State → State → Prop) (st : State) (q : Addr) (t : State) (mc ms : Nat) (free : Addr → Prop) : Prop :=
  ∃ (E : String) (ce : Cell) (L : List Loc), XC E st t ∧ t.heap[q]? = some ce ∧ ce.vm = .none ∧ st.vm.findClass E = some ce.cls ∧ st.WarmedH t.vm ∧ st.sameButNew ({ t with vm := st.vm } : State) L mc ms ∧ ∀ z ∈ L, free z.base
def vx_Q (Qc : Array Value → State → Outcome → State → Prop) (XC : String → State → State → Prop) (mc ms : Nat) (free : Addr → Prop) : Array Value → State → Outcome → State → Prop := fun a st o t =>
  (Qc a st o t ∧ ∃ L, FrameEnd st o t L mc ms ∧ ∀ q ∈ L, free q.base) ∨ ∃ q, o = .threw q ∧ vx_T XC st q t mc ms free
/-- a callee that returns or throws -/
def vx_Met (l : Launch) (y : MethodName) (ws : List Cond) (rm : Room) (Pc : Array Value → State → Prop) (Qc : Array Value → State → Outcome → State → Prop) (XC : String → State → State → Prop) (mc ms : Nat) (free : Addr → Prop) : Prop :=
  MetFree l y (headSpec ws rm) Pc (fun _ _ _ _ _ => True) (vx_Q Qc XC mc ms free)
def vx_Post (XC : String → State → State → Prop) (mc ms : Nat) (free : Addr → Prop) : Pt → Array Value → Addr → Pt → Prop := fun A a q B =>
  ∃ (g : JFrame) (mk : MethodId) (t : State) (L : List Loc) (E : String) (ce : Cell), B.U.heap = t.heap ∧ B.U.vm = t.vm ∧ XC E (A.U.calling g mk a) t ∧ t.heap[q]? = some ce ∧ ce.vm = .none ∧ A.U.vm.findClass E = some ce.cls ∧ B.locs = A.locs ++ L ∧ (∀ z ∈ L, free z.base) ∧ B.cells = A.cells + mc ∧ B.slots = A.slots + ms
def vx_Back (l : Launch) (R : Room) (p : Program) (e : Env) (below : List Frame) (s : State) (sargs : Array Value) (y : MethodName) (len W9 : Nat)
    (Pre : Pt → Array Value → Prop) (Post : Pt → Array Value → Option Value → Pt → Prop) (PostX : Pt → Array Value → Addr → Pt → Prop) : Prop :=
  ∀ (m : MethodId) (meth : Method) (c : Code) (A : Pt) (g : JFrame) (ig : Instr) (mk : MethodId) (a : Array Value),
    Stand p l e R s m sargs below meth c A.U A.locs A.cells A.slots → g.method = m → g.locals.size = c.maxLocals → decode c.code g.pc = .ok (ig, len) →
    2 * g.monitorRoom + (g.stack.map fun v => v.category).sum ≤ W9 → A.U.methodNamed? y = some mk → Pre A a →
    (∃ (v : Option Value) (B : Pt), Stand p l e R s m sargs below meth c B.U B.locs B.cells B.slots ∧ Post A a v B ∧
      Steps p.tables e below (doInvoke e (A.U.setTop g) [] mk a).1 (B.U.setTop { g with pc := g.pc + len, stack := v.toList ++ g.stack })) ∨
    (∃ (q : Addr) (B : Pt), Stand p l e R s m sargs below meth c B.U B.locs B.cells B.slots ∧ PostX A a q B ∧
      Steps p.tables e below (doInvoke e (A.U.setTop g) [] mk a).1 ((B.U.setTop g).pushFrame (.throwing q)))
section Payer
variable {l : Launch} {R : Room} {p : Program} {e : Env} {below : List Frame} {s : State} {sargs : Array Value} {y : MethodName} {len W9 : Nat}
theorem vx_back {ws : List Cond} {rm : Room} {Pc : Array Value → State → Prop} {Qc : Array Value → State → Outcome → State → Prop} {XC : String → State → State → Prop} {mc ms : Nat} {free : Addr → Prop} {bytes : ByteArray} {maxL : Nat} {ret : Option FieldType}
    (hM : vx_Met l y ws rm Pc Qc XC mc ms free) (hblind : FrameBlind Pc) (hrc : rm.cells = mc) (hrs : rm.slots = ms)
    (hframes : rm.frames + 1 ≤ R.frames) (hlocals : W9 + (maxL + 11) + rm.locals ≤ R.locals)
    (hws : ∀ w ∈ ws, ∀ a' U, s.WarmedH U.vm → w.before a' U = true) (hcode : Cond.code y bytes maxL ret ∈ ws) (hinit : ∀ a' U, s.WarmedH U.vm → (Cond.initialized y.cls).before a' U = true) :
    vx_Back l R p e below s sargs y len W9 (PreOf R mc ms Pc) (PostOf Qc mc ms free) (vx_Post XC mc ms free) := by
  intro m meth c A g ig mk a X hg hsize hdg hW hn hp
  have h1 : (headSpec ws rm).pre.before a A.U = true := atoms_intro fun w hw => hws w hw _ _ X.warmed
  have h2 : (Cond.code y bytes maxL ret).before a A.U = true := hws _ hcode _ _ X.warmed
  have h3 : (Cond.initialized y.cls).before a A.U = true := hinit _ _ X.warmed
  have h4 : A.cells + (headSpec ws rm).room.cells ≤ R.cells := by rw [show (headSpec ws rm).room.cells = mc from hrc]; exact hp.1
  have h5 : A.slots + (headSpec ws rm).room.slots ≤ R.slots := by rw [show (headSpec ws rm).room.slots = ms from hrs]; exact hp.2.1
  have hPc : Pc a (A.U.calling g mk a) := hblind _ _ _ _ hp.2.2
  obtain ⟨U, Ls, c0, s0⟩ := A
  dsimp only [Pt.U, Pt.locs, Pt.cells, Pt.slots] at h1 h2 h3 h4 h5 X hn hPc ⊢
  obtain ⟨methY, cY, hmY, hcY, -, hlY, -, -, -, -⟩ := Cond.code_spec hn h2
  obtain ⟨kY, hkY, -⟩ := className_of_methodNamed hn
  have hinitY : kY.init = .initialized := Cond.initialized_spec (findClass_of_methodNamed hn) hkY h3
  have h : At U g.method c below := by rw [hg]; exact X.here
  have hlocals9 : W9 + (maxL + 11) + (headSpec ws rm).room.locals ≤ R.locals := hlocals
  have happ : (headSpec ws rm).appliesLoose y e.platform (U.calling g mk a) = true :=
    Spec.appliesLoose_calling (g := g) h hdg hn hkY hinitY
      (X.room_calling (g := g) (R' := (headSpec ws rm).room) hsize hmY hcY hframes (by rw [hlY]; omega) h4 h5) h1
  obtain ⟨mid, hmid⟩ := h.above
  have hfr : (U.setTop g).frames = (.java g :: mid) ++ below := by rw [State.frames_setTop' g h.top, hmid]; rfl
  obtain ⟨o, s₂, hsteps, -, hend, hq⟩ := Steps.callFree hM p X.admits X.cas X.clock (acts := []) hfr happ hPc trivial
  have hq' : vx_Q Qc XC mc ms free a (U.calling g mk a) o s₂ := hq
  rw [State.frames_setTop' g h.top] at hend
  obtain ⟨g₀, hg0⟩ := Option.isSome_iff_exists.mp h.top
  obtain ⟨r, hr⟩ := State.topJava?_eq_some.mp hg0
  have hr' : (({ U with heap := s₂.heap, slotsUsed := s₂.slotsUsed } : State).setVm s₂.vm).frames = .java g₀ :: r := hr
  rcases hq' with ⟨hqc, L, hfe, hL⟩ | ⟨q, rfl, E, ce, L, hx, hce, hcv, hcl, hW₂, hsm, hL⟩
  · obtain ⟨⟨v, rfl⟩, hW₂, e2, q2, q3, q4, q5, q6⟩ := id hfe
    have e3 : s₂ = ({ (U.calling g mk a).setFrames s₂.frames with heap := s₂.heap, slotsUsed := s₂.slotsUsed } : State).setVm s₂.vm := by
      have : s₂ = ({ s₂ with vm := (U.calling g mk a).vm } : State).setVm s₂.vm := rfl
      rw [e2] at this
      exact this
    obtain ⟨c₂, i₂, len₂, hc₂, hd₂, hf₂⟩ := hend
    have hW' : U.WarmedH s₂.vm := hW₂
    have hcc : c₂ = c := by
      have h1 : s₂.code? g.method = U.code? g.method := by
        rw [State.code?_eq, State.code?_eq, hW'.alike.method?]
      exact Option.some.inj (hc₂.symm.trans (h1.trans h.code))
    subst hcc
    have hlen : len₂ = len := by rw [hdg] at hd₂; cases hd₂; rfl
    subst hlen
    have hs₂ : s₂ = (({ U with heap := s₂.heap, slotsUsed := s₂.slotsUsed } : State).setVm s₂.vm).setTop { g with pc := g.pc + len₂, stack := v.toList ++ g.stack } := by
      refine e3.trans ?_
      rw [hf₂, State.calling_eq h.top, State.setFrames_setFrames, State.setTop_of_frames _ hr', hr]
      rfl
    have hsame : U.sameButNew ({ U with heap := s₂.heap, slotsUsed := s₂.slotsUsed } : State) L mc ms := by
      refine ⟨?_, q2, q3, q4, q5, q6⟩
      obtain ⟨t, ht, -⟩ := State.frames_cons hr
      show ({ U with heap := s₂.heap, slotsUsed := s₂.slotsUsed } : State) = { U.setFrames U.frames with heap := s₂.heap, slotsUsed := s₂.slotsUsed }
      rw [State.setFrames_self ht]
    subst hg
    refine Or.inl ⟨v, ⟨(({ U with heap := s₂.heap, slotsUsed := s₂.slotsUsed } : State).setVm s₂.vm), Ls ++ L, c0 + mc, s0 + ms⟩,
      ⟨X.admits, X.cas, X.clock, X.frames, X.room, X.hears, X.method, X.code, (X.here.setHeapUsed s₂.heap s₂.slotsUsed).setVm hW'.alike, X.tail, State.WarmedH.trans X.warmed hW', X.limits, X.bytes, X.same.trans (hsame.setVm s.vm)⟩,
      ⟨g, mk, s₂, L, rfl, rfl, hqc, rfl, hL, rfl, rfl⟩, ?_⟩
    show Steps p.tables e below _ ((({ U with heap := s₂.heap, slotsUsed := s₂.slotsUsed } : State).setVm s₂.vm).setTop { g with pc := g.pc + len₂, stack := v.toList ++ g.stack })
    rw [← hs₂]
    exact hsteps
  · obtain ⟨e2, q2, q3, q4, q5, q6⟩ := id hsm
    have e3 : s₂ = ({ (U.calling g mk a).setFrames s₂.frames with heap := s₂.heap, slotsUsed := s₂.slotsUsed } : State).setVm s₂.vm := by
      have : s₂ = ({ s₂ with vm := (U.calling g mk a).vm } : State).setVm s₂.vm := rfl
      rw [e2] at this
      exact this
    have hf₂ : s₂.frames = .throwing q :: .java g :: U.frames.tail := hend
    have hW' : U.WarmedH s₂.vm := hW₂
    have hs₂ : s₂ = ((({ U with heap := s₂.heap, slotsUsed := s₂.slotsUsed } : State).setVm s₂.vm).setTop g).pushFrame (.throwing q) := by
      refine e3.trans ?_
      rw [hf₂, State.calling_eq h.top, State.setFrames_setFrames, State.pushFrame, State.frames_setTop _ hr', State.setTop_of_frames _ hr', State.setFrames_setFrames, hr]
      rfl
    have hsame : U.sameButNew ({ U with heap := s₂.heap, slotsUsed := s₂.slotsUsed } : State) L mc ms := by
      refine ⟨?_, q2, q3, q4, q5, q6⟩
      obtain ⟨t, ht, -⟩ := State.frames_cons hr
      show ({ U with heap := s₂.heap, slotsUsed := s₂.slotsUsed } : State) = { U.setFrames U.frames with heap := s₂.heap, slotsUsed := s₂.slotsUsed }
      rw [State.setFrames_self ht]
    subst hg
    refine Or.inr ⟨q, ⟨(({ U with heap := s₂.heap, slotsUsed := s₂.slotsUsed } : State).setVm s₂.vm), Ls ++ L, c0 + mc, s0 + ms⟩,
      ⟨X.admits, X.cas, X.clock, X.frames, X.room, X.hears, X.method, X.code, (X.here.setHeapUsed s₂.heap s₂.slotsUsed).setVm hW'.alike, X.tail, State.WarmedH.trans X.warmed hW', X.limits, X.bytes, X.same.trans (hsame.setVm s.vm)⟩,
      ⟨g, mk, s₂, L, E, ce, rfl, rfl, hx, hce, hcv, hcl, rfl, hL, rfl, rfl⟩, ?_⟩
    show Steps p.tables e below _ (((({ U with heap := s₂.heap, slotsUsed := s₂.slotsUsed } : State).setVm s₂.vm).setTop g).pushFrame (.throwing q))
    rw [← hs₂]
    exact hsteps
end Payer
section Calls
variable {p : Program} {l : Launch} {e : Env} {R : Room} {s : State} {m : MethodId} {args : Array Value} {below : List Frame} {meth : Method} {c : Code} {T : State} {locs : List Loc} {cells slots : Nat}
theorem vx_callV (X : Stand p l e R s m args below meth c T locs cells slots) (hexec : p.tables.exec = Jvm.exec) {own C : String} {index : Nat} {y : MethodName} {bytes : ByteArray} {maxL : Nat} {ret : Option FieldType}
    (hown : s.vm.findClass own = some m.cls) (hlink : (Cond.methodLink own index y).before args s = true) (hinst : (Cond.instanceMethod y).before args s = true) (hsel : (Cond.selects C y y).before args s = true)
    (hcode : (Cond.code y bytes maxL ret).before args s = true) (hy : y.cls ≠ "java/lang/invoke/MethodHandle" ∧ y.cls ≠ "java/lang/invoke/VarHandle")
    {W9 : Nat} {Pre : Pt → Array Value → Prop} {Post : Pt → Array Value → Option Value → Pt → Prop} {PostX : Pt → Array Value → Addr → Pt → Prop} (hK : vx_Back l R p e below s args y 3 W9 Pre Post PostX)
    {b : Addr} {cellB : Cell} (hcell : T.heap[b]? = some cellB) (hobj : cellB.vm.isStatics = false) (hcls : s.vm.findClass C = some cellB.cls)
    {g : JFrame} (hg : g.method = m) (hsize : g.locals.size = c.maxLocals) {argsL rest : List Value} (hlen : ∀ sig, parseMethodDescriptor y.desc = some sig → argsL.length = sig.parameters.length)
    (hstack : g.stack = argsL.reverse ++ .ref b :: rest) (hW : 2 * g.monitorRoom + (rest.map fun v => v.category).sum ≤ W9) (hdg : decode c.code g.pc = .ok (.invokevirtual index, 3))
    (hpre : ∀ vm₁, s.WarmedH vm₁ → Pre ⟨T.setVm vm₁, locs, cells, slots⟩ (Value.ref b :: argsL).toArray) :
    (∃ (v : Option Value) (vm₁ : Vm) (B : Pt), s.WarmedH vm₁ ∧ Stand p l e R s m args below meth c B.U B.locs B.cells B.slots ∧ Post ⟨T.setVm vm₁, locs, cells, slots⟩ (Value.ref b :: argsL).toArray v B ∧
      ∀ target, Steps p.tables e below (B.U.setTop { g with pc := g.pc + 3, stack := v.toList ++ rest }) target → Steps p.tables e below (T.setTop g) target) ∨
    (∃ (q : Addr) (vm₁ : Vm) (B : Pt), s.WarmedH vm₁ ∧ Stand p l e R s m args below meth c B.U B.locs B.cells B.slots ∧ PostX ⟨T.setVm vm₁, locs, cells, slots⟩ (Value.ref b :: argsL).toArray q B ∧
      Steps p.tables e below (T.setTop g) ((B.U.setTop { g with stack := rest }).pushFrame (.throwing q))) := by
  obtain ⟨mk, methM, hnamed, hmethM, hstM, habM⟩ := Cond.instanceMethod_spec hinst
  obtain ⟨methM', cM, hmethM', -, -, -, -, -, -, hsigM⟩ := Cond.code_spec hnamed hcode
  cases hmethM.symm.trans hmethM'
  obtain ⟨c2, r2, m2, q1, q2, q3, q4, kP, hkP, hkPi⟩ := Cond.selects_spec hsel
  cases hcls.symm.trans q1
  cases (State.methodFound?_of_named hnamed hy).symm.trans q2
  cases hnamed.symm.trans q3
  have hselP : selectMethod e.platform s.vm cellB.cls mk = .method mk := by rw [Launch.admits_selectMethod X.admits]; exact q4
  obtain ⟨vm₁, X₁, hstep₁⟩ := X.invokevirtual hexec hown hlink hnamed hmethM hstM hkP hkPi hy (a := b) (cell := cellB) hcell
    (fun z h => by rw [h] at hobj; cases hobj) hselP hmethM habM hkP hkPi (g := g) hg (argsL := argsL) (rest := rest) (hlen _ hsigM) hstack hdg
  rcases hK m meth c ⟨T.setVm vm₁, locs, cells, slots⟩ { g with stack := rest } (.invokevirtual index) mk (Value.ref b :: argsL).toArray X₁ hg hsize hdg hW (X₁.named hnamed) (hpre vm₁ X₁.warmed) with ⟨v, B, X', hpost, hsteps⟩ | ⟨q, B, X', hpost, hsteps⟩
  · exact Or.inl ⟨v, vm₁, B, X₁.warmed, X', hpost, fun target h => hstep₁ _ fun acts => by rw [doInvoke_state]; exact hsteps.trans h⟩
  · exact Or.inr ⟨q, vm₁, B, X₁.warmed, X', hpost, hstep₁ _ fun acts => by rw [doInvoke_state]; exact hsteps⟩
theorem vx_callS (X : Stand p l e R s m args below meth c T locs cells slots) (hexec : p.tables.exec = Jvm.exec) {own : String} {index : Nat} {y : MethodName} {bytes : ByteArray} {maxL : Nat} {ret : Option FieldType}
    (hown : s.vm.findClass own = some m.cls) (hlink : (Cond.methodLink own index y).before args s = true) (hstat : (Cond.static y).before args s = true) (hinit : (Cond.initialized y.cls).before args s = true)
    (hcode : (Cond.code y bytes maxL ret).before args s = true) (hy : y.cls ≠ "java/lang/invoke/MethodHandle" ∧ y.cls ≠ "java/lang/invoke/VarHandle")
    {W9 : Nat} {Pre : Pt → Array Value → Prop} {Post : Pt → Array Value → Option Value → Pt → Prop} {PostX : Pt → Array Value → Addr → Pt → Prop} (hK : vx_Back l R p e below s args y 3 W9 Pre Post PostX)
    {g : JFrame} (hg : g.method = m) (hsize : g.locals.size = c.maxLocals) {argsL rest : List Value} (hlen : ∀ sig, parseMethodDescriptor y.desc = some sig → argsL.length = sig.parameters.length)
    (hstack : g.stack = argsL.reverse ++ rest) (hW : 2 * g.monitorRoom + (rest.map fun v => v.category).sum ≤ W9) (hdg : decode c.code g.pc = .ok (.invokestatic index, 3))
    (hpre : ∀ vm₁, s.WarmedH vm₁ → Pre ⟨T.setVm vm₁, locs, cells, slots⟩ argsL.toArray) :
    (∃ (v : Option Value) (vm₁ : Vm) (B : Pt), s.WarmedH vm₁ ∧ Stand p l e R s m args below meth c B.U B.locs B.cells B.slots ∧ Post ⟨T.setVm vm₁, locs, cells, slots⟩ argsL.toArray v B ∧
      ∀ target, Steps p.tables e below (B.U.setTop { g with pc := g.pc + 3, stack := v.toList ++ rest }) target → Steps p.tables e below (T.setTop g) target) ∨
    (∃ (q : Addr) (vm₁ : Vm) (B : Pt), s.WarmedH vm₁ ∧ Stand p l e R s m args below meth c B.U B.locs B.cells B.slots ∧ PostX ⟨T.setVm vm₁, locs, cells, slots⟩ argsL.toArray q B ∧
      Steps p.tables e below (T.setTop g) ((B.U.setTop { g with stack := rest }).pushFrame (.throwing q))) := by
  obtain ⟨mk, hnamed⟩ := Cond.code_named hcode
  obtain ⟨methM, cM, hmethM, -, -, -, -, -, -, hsigM⟩ := Cond.code_spec hnamed hcode
  have hstatic : methM.isStatic = true := Cond.static_spec hnamed hmethM hstat
  obtain ⟨kP, hkP, -⟩ := className_of_methodNamed hnamed
  have hinitP : kP.init = .initialized := Cond.initialized_spec (findClass_of_methodNamed hnamed) hkP hinit
  obtain ⟨vm₁, X₁, hstep₁⟩ := X.invokestatic hexec hown hlink hnamed hmethM hstatic hkP hinitP hy (g := g) hg (argsL := argsL) (rest := rest) (hlen _ hsigM) hstack hdg
  rcases hK m meth c ⟨T.setVm vm₁, locs, cells, slots⟩ { g with stack := rest } (.invokestatic index) mk argsL.toArray X₁ hg hsize hdg hW (X₁.named hnamed) (hpre vm₁ X₁.warmed) with ⟨v, B, X', hpost, hsteps⟩ | ⟨q, B, X', hpost, hsteps⟩
  · exact Or.inl ⟨v, vm₁, B, X₁.warmed, X', hpost, fun target h => hstep₁ _ fun acts => by rw [doInvoke_state]; exact hsteps.trans h⟩
  · exact Or.inr ⟨q, vm₁, B, X₁.warmed, X', hpost, hstep₁ _ fun acts => by rw [doInvoke_state]; exact hsteps⟩
end Calls
theorem vx_cls {s : State} {T : State} {vm₁ : Vm} {E : String} {k : ClassId} (hW : s.WarmedH vm₁) (h : (T.setVm vm₁).vm.findClass E = some k) : s.vm.findClass E = some k := by
  have h1 : vm₁.findClass E = some k := h
  rw [hW.alike.findClass] at h1
  exact h1
/-- the method's frame g, with q thrown over it -/
def vx_W (p : Program) (l : Launch) (e : Env) (R : Room) (s : State) (m : MethodId) (args : Array Value) (below : List Frame) (meth : Method) (c : Code) (H : Heap) (locs : List Loc) (cells slots : Nat) (Q : State → Prop) (g : JFrame) (q : Addr) : Prop :=
  ∀ T : State, T.heap = H → Stand p l e R s m args below meth c T locs cells slots → ∃ t, Steps p.tables e below ((T.setTop g).pushFrame (.throwing q)) t ∧ Q t
def vx_Run (p : Program) (l : Launch) (e : Env) (R : Room) (s : State) (m : MethodId) (args : Array Value) (below : List Frame) (meth : Method) (c : Code) (H : Heap) (locs : List Loc) (cells slots mc ms : Nat) (g : JFrame) (rest : List Value) (Qa : State → Outcome → State → Prop) (XC : String → State → State → Prop) (free : Addr → Prop) : Prop :=
  ∀ T : State, T.heap = H → Stand p l e R s m args below meth c T locs cells slots →
    (∃ (v : Option Value) (st₀ t T' : State) (L : List Loc), st₀.heap = H ∧ Stand p l e R s m args below meth c T' (locs ++ L) (cells + mc) (slots + ms) ∧ (∀ q ∈ L, free q.base) ∧ T'.heap = t.heap ∧ T'.vm = t.vm ∧ Qa st₀ (.returned v) t ∧
      Goes p e below T g T' { g with pc := g.pc + 3, stack := v.toList ++ rest }) ∨
    (∃ (q : Addr) (st₀ t T' : State) (L : List Loc) (E : String) (ce : Cell), st₀.heap = H ∧ Stand p l e R s m args below meth c T' (locs ++ L) (cells + mc) (slots + ms) ∧ (∀ z ∈ L, free z.base) ∧ T'.heap = t.heap ∧ T'.vm = t.vm ∧ XC E st₀ t ∧ t.heap[q]? = some ce ∧ ce.vm = .none ∧ s.vm.findClass E = some ce.cls ∧
      Steps p.tables e below (T.setTop g) ((T'.setTop { g with stack := rest }).pushFrame (.throwing q)))
def vx_X {S : Type} (px : S → Prop) (B : String → S → State → Prop) (A : Nat → Prop) : String → State → State → Prop := fun E st t => ∃ u : S, px u ∧ B E u t ∧ va_F A st t
section Runs
variable {p : Program} {l : Launch} {e : Env} {R : Room} {s : State} {m : MethodId} {args : Array Value} {below : List Frame} {meth : Method} {c : Code} {H : Heap} {locs : List Loc} {cells slots : Nat}
variable {y : MethodName} {bytes cc : ByteArray} {maxL nL mc ms n index : Nat} {ret : Option FieldType} {ws : List Cond} {rm : Room} {Pc : Array Value → State → Prop} {Qc : Array Value → State → Outcome → State → Prop} {XC : String → State → State → Prop} {free : Addr → Prop} {Ts : List Cond} {own C : String} {b : Addr} {As rest : List Value} {g : JFrame}
theorem vx_callBack (cb : CallB R s args own index y bytes maxL ret ws rm mc ms n) (hM : vx_Met l y ws rm Pc Qc XC mc ms free) (hbl : FrameBlind Pc) : vx_Back l R p e below s args y 3 8 (PreOf R mc ms Pc) (PostOf Qc mc ms free) (vx_Post XC mc ms free) := by
  obtain ⟨hrc, hrs, hfr, hlo, hws, hcw, -, hini, -⟩ := cb
  exact vx_back (bytes := bytes) (maxL := maxL) (ret := ret) hM hbl hrc hrs hfr hlo hws hcw (fun a' U hW => word_at hW (Or.inl (by first | rfl | simp [Cond.onTables, Cond.keeps, Cond.steady])) hini)
theorem vx_runV (S : CallFix p m c cc nL s args Ts own) (hM : vx_Met l y ws rm Pc Qc XC mc ms free) (cw : CallW R s args own C index y bytes maxL ret ws rm mc ms n) (hp : PreV s H C b Pc As)
    (hg : g.method = m) (hn : As.length = n) (hsize : g.locals.size = nL) (hstack : g.stack = As.reverse ++ .ref b :: rest) (hW : 2 * g.monitorRoom + (rest.map fun v => v.category).sum ≤ 8) (hdg : decode cc g.pc = .ok (.invokevirtual index, 3)) (hf : cells + mc ≤ R.cells ∧ slots + ms ≤ R.slots) :
    vx_Run p l e R s m args below meth c H locs cells slots mc ms g rest (Qc (Value.ref b :: As).toArray) XC free := by
  have hK : vx_Back l R p e below s args y 3 8 (PreOf R mc ms Pc) (PostOf Qc mc ms free) (vx_Post XC mc ms free) := vx_callBack cw.1 hM hp.1
  obtain ⟨⟨-, -, -, -, -, -, hcode, -, hy, hlen, hl⟩, hin, hse⟩ := cw
  obtain ⟨hx, hb, hml, ho, -⟩ := S
  obtain ⟨-, ⟨cellB, hcB, hoB, hclB⟩, hPc⟩ := hp
  intro T hT X
  rcases vx_callV X hx (C := C) (bytes := bytes) (maxL := maxL) (ret := ret) ho hl hin hse hcode hy hK (by rw [hT]; exact hcB) hoB hclB hg (hsize.trans hml.symm) (argsL := As) (rest := rest) (fun sig h => hn.trans (hlen sig h)) hstack hW (by rw [hb]; exact hdg)
    (fun vm₁ hW₁ => ⟨hf.1, hf.2, hPc (T.setVm vm₁) hT hW₁⟩) with ⟨v, vm₁, ⟨U', l2, c2, s2⟩, hW₁, X', ⟨g', mk, t, L, e1, e2, hq, h1, hL, h2, h3⟩, st⟩ | ⟨q, vm₁, ⟨U', l2, c2, s2⟩, hW₁, X', ⟨g', mk, t, L, E, ce, e1, e2, hq, hce, hcv, hcl, h1, hL, h2, h3⟩, st⟩
  · dsimp only [Pt.U, Pt.locs, Pt.cells, Pt.slots] at X' e1 e2 h1 h2 h3 st
    subst h1; subst h2; subst h3
    exact Or.inl ⟨v, (T.setVm vm₁).calling g' mk (Value.ref b :: As).toArray, t, U', L, hT, X', hL, e1, e2, hq, st⟩
  · dsimp only [Pt.U, Pt.locs, Pt.cells, Pt.slots] at X' e1 e2 h1 h2 h3 st hcl
    subst h1; subst h2; subst h3
    exact Or.inr ⟨q, (T.setVm vm₁).calling g' mk (Value.ref b :: As).toArray, t, U', L, E, ce, hT, X', hL, e1, e2, hq, hce, hcv, vx_cls hW₁ hcl, st⟩
theorem vx_runS (S : CallFix p m c cc nL s args Ts own) (hM : vx_Met l y ws rm Pc Qc XC mc ms free) (cw : CallB R s args own index y bytes maxL ret ws rm mc ms n ∧ (Cond.static y).before args s = true) (hp : PreS s H Pc As)
    (hg : g.method = m) (hn : As.length = n) (hsize : g.locals.size = nL) (hstack : g.stack = As.reverse ++ rest) (hW : 2 * g.monitorRoom + (rest.map fun v => v.category).sum ≤ 8) (hdg : decode cc g.pc = .ok (.invokestatic index, 3)) (hf : cells + mc ≤ R.cells ∧ slots + ms ≤ R.slots) :
    vx_Run p l e R s m args below meth c H locs cells slots mc ms g rest (Qc As.toArray) XC free := by
  have hK : vx_Back l R p e below s args y 3 8 (PreOf R mc ms Pc) (PostOf Qc mc ms free) (vx_Post XC mc ms free) := vx_callBack cw.1 hM hp.1
  obtain ⟨⟨-, -, -, -, -, -, hcode, hini, hy, hlen, hl⟩, hstt⟩ := cw
  obtain ⟨hx, hb, hml, ho, -⟩ := S
  intro T hT X
  rcases vx_callS X hx (bytes := bytes) (maxL := maxL) (ret := ret) ho hl hstt hini hcode hy hK hg (hsize.trans hml.symm) (argsL := As) (rest := rest) (fun sig h => hn.trans (hlen sig h)) hstack hW (by rw [hb]; exact hdg)
    (fun vm₁ hW₁ => ⟨hf.1, hf.2, hp.2 (T.setVm vm₁) hT hW₁⟩) with ⟨v, vm₁, ⟨U', l2, c2, s2⟩, hW₁, X', ⟨g', mk, t, L, e1, e2, hq, h1, hL, h2, h3⟩, st⟩ | ⟨q, vm₁, ⟨U', l2, c2, s2⟩, hW₁, X', ⟨g', mk, t, L, E, ce, e1, e2, hq, hce, hcv, hcl, h1, hL, h2, h3⟩, st⟩
  · dsimp only [Pt.U, Pt.locs, Pt.cells, Pt.slots] at X' e1 e2 h1 h2 h3 st
    subst h1; subst h2; subst h3
    exact Or.inl ⟨v, (T.setVm vm₁).calling g' mk As.toArray, t, U', L, hT, X', hL, e1, e2, hq, st⟩
  · dsimp only [Pt.U, Pt.locs, Pt.cells, Pt.slots] at X' e1 e2 h1 h2 h3 st hcl
    subst h1; subst h2; subst h3
    exact Or.inr ⟨q, (T.setVm vm₁).calling g' mk As.toArray, t, U', L, E, ce, hT, X', hL, e1, e2, hq, hce, hcv, vx_cls hW₁ hcl, st⟩
end Runs
section Rows
variable {p : Program} {l : Launch} {e : Env} {R : Room} {s : State} {m : MethodId} {args : Array Value} {below : List Frame} {meth : Method} {c : Code} {H : Heap} {locs : List Loc} {cells slots : Nat} {Q : State → Prop}
variable {mc ms : Nat} {free : Addr → Prop} {A0 A1 : Nat → Prop} {H0 : Heap} {a : Array Value} {pc : Nat} {ls : Array Slot} {st0 rest : List Value}
theorem vx_keep {st₀ t T' : State} {L : List Loc} (h0 : st₀.heap = H) (e1 : T'.heap = t.heap) (hS : va_S A0 H0 H locs) (hA : ∀ q, q < H.size → A1 q → A0 q) (hf : ∀ q, free q → A0 q) (hL : ∀ q ∈ L, free q.base) (hF : va_F A1 st₀ t) :
    H.size ≤ T'.heap.size ∧ (∀ q : Nat, q < H.size → ¬ A1 q → T'.heap[q]? = H[q]?) ∧ va_S A0 H0 T'.heap (locs ++ L) := by
  obtain ⟨hz, hk⟩ := hF
  rw [h0] at hz hk
  exact ⟨by rw [e1]; exact hz, fun q h1 h2 => by rw [e1]; exact hk q h1 h2,
    ⟨Nat.le_trans hS.1 (by rw [e1]; exact hz), fun q h1 h2 => by rw [e1, hk q (Nat.lt_of_lt_of_le h1 hS.1) (fun z => h2 (hA q (Nat.lt_of_lt_of_le h1 hS.1) z))]; exact hS.2.1 q h1 h2, fun q hq => by
      rcases List.mem_append.mp hq with h | h
      · exact hS.2.2 q h
      · exact hf _ (hL q h)⟩⟩
theorem vx_calli {S SX : Type} {post : Int32 → S → Prop} {px : SX → Prop} {B : S → State → Prop} {BX : String → SX → State → Prop} {AX : Nat → Prop} (hr : vx_Run p l e R s m args below meth c H locs cells slots mc ms (F0 m pc ls st0) rest (va_Qi post B A1 a) (vx_X px BX AX) free) (hS : va_S A0 H0 H locs) (hA : ∀ q, q < H.size → A1 q → A0 q) (hf : ∀ q, free q → A0 q) (hAX : ∀ q, q < H.size → AX q → A0 q)
    (kx : ∀ (E : String) (ce : Cell) (q9 : Addr) (u : SX) (t : State) (H1 : Heap) (locs1 : List Loc), t.heap = H1 → s.vm.Alike t.vm → px u → BX E u t → H.size ≤ H1.size → (∀ q : Nat, q < H.size → ¬ AX q → H1[q]? = H[q]?) → va_S A0 H0 H1 locs1 → H1[q9]? = some ce → ce.vm = .none → s.vm.findClass E = some ce.cls → vx_W p l e R s m args below meth c H1 locs1 (cells + mc) (slots + ms) Q (F0 m pc ls rest) q9)
    (kk : ∀ (r : Int32) (u : S) (t : State) (H1 : Heap) (locs1 : List Loc), t.heap = H1 → s.vm.Alike t.vm → post r u → B u t → H.size ≤ H1.size → (∀ q : Nat, q < H.size → ¬ A1 q → H1[q]? = H[q]?) → va_S A0 H0 H1 locs1 → W p l e R s m args below meth c H1 locs1 (cells + mc) (slots + ms) Q (F0 m (pc + 3) ls (.int r :: rest))) : W p l e R s m args below meth c H locs cells slots Q (F0 m pc ls st0) := by
  intro T hT X
  rcases hr T hT X with ⟨v, st₀, t, T', L, h0, X', hL, e1, e2, ⟨⟨r, u, hv, hp, hb⟩, hF⟩, st⟩ | ⟨q, st₀, t, T', L, E, ce, h0, X', hL, e1, e2, ⟨u, hp, hb, hF⟩, hce, hcv, hcl, st⟩
  · cases hv
    obtain ⟨k1, k2, k3⟩ := vx_keep h0 e1 hS hA hf hL hF
    obtain ⟨t2, a1, b1⟩ := kk r u t T'.heap (locs ++ L) e1.symm (by rw [← e2]; exact X'.warmed.alike) hp hb k1 k2 k3 T' rfl X'
    exact ⟨t2, st t2 a1, b1⟩
  · obtain ⟨k1, k2, k3⟩ := vx_keep h0 e1 hS hAX hf hL hF
    obtain ⟨t2, a1, b1⟩ := kx E ce q u t T'.heap (locs ++ L) e1.symm (by rw [← e2]; exact X'.warmed.alike) hp hb k1 k2 k3 (by rw [e1]; exact hce) hcv hcl T' rfl X'
    exact ⟨t2, st.trans a1, b1⟩
theorem vx_calll {S SX : Type} {post : Int64 → S → Prop} {px : SX → Prop} {B : S → State → Prop} {BX : String → SX → State → Prop} {AX : Nat → Prop} (hr : vx_Run p l e R s m args below meth c H locs cells slots mc ms (F0 m pc ls st0) rest (va_Ql post B A1 a) (vx_X px BX AX) free) (hS : va_S A0 H0 H locs) (hA : ∀ q, q < H.size → A1 q → A0 q) (hf : ∀ q, free q → A0 q) (hAX : ∀ q, q < H.size → AX q → A0 q)
    (kx : ∀ (E : String) (ce : Cell) (q9 : Addr) (u : SX) (t : State) (H1 : Heap) (locs1 : List Loc), t.heap = H1 → s.vm.Alike t.vm → px u → BX E u t → H.size ≤ H1.size → (∀ q : Nat, q < H.size → ¬ AX q → H1[q]? = H[q]?) → va_S A0 H0 H1 locs1 → H1[q9]? = some ce → ce.vm = .none → s.vm.findClass E = some ce.cls → vx_W p l e R s m args below meth c H1 locs1 (cells + mc) (slots + ms) Q (F0 m pc ls rest) q9)
    (kk : ∀ (r : Int64) (u : S) (t : State) (H1 : Heap) (locs1 : List Loc), t.heap = H1 → s.vm.Alike t.vm → post r u → B u t → H.size ≤ H1.size → (∀ q : Nat, q < H.size → ¬ A1 q → H1[q]? = H[q]?) → va_S A0 H0 H1 locs1 → W p l e R s m args below meth c H1 locs1 (cells + mc) (slots + ms) Q (F0 m (pc + 3) ls (.long r :: rest))) : W p l e R s m args below meth c H locs cells slots Q (F0 m pc ls st0) := by
  intro T hT X
  rcases hr T hT X with ⟨v, st₀, t, T', L, h0, X', hL, e1, e2, ⟨⟨r, u, hv, hp, hb⟩, hF⟩, st⟩ | ⟨q, st₀, t, T', L, E, ce, h0, X', hL, e1, e2, ⟨u, hp, hb, hF⟩, hce, hcv, hcl, st⟩
  · cases hv
    obtain ⟨k1, k2, k3⟩ := vx_keep h0 e1 hS hA hf hL hF
    obtain ⟨t2, a1, b1⟩ := kk r u t T'.heap (locs ++ L) e1.symm (by rw [← e2]; exact X'.warmed.alike) hp hb k1 k2 k3 T' rfl X'
    exact ⟨t2, st t2 a1, b1⟩
  · obtain ⟨k1, k2, k3⟩ := vx_keep h0 e1 hS hAX hf hL hF
    obtain ⟨t2, a1, b1⟩ := kx E ce q u t T'.heap (locs ++ L) e1.symm (by rw [← e2]; exact X'.warmed.alike) hp hb k1 k2 k3 (by rw [e1]; exact hce) hcv hcl T' rfl X'
    exact ⟨t2, st.trans a1, b1⟩
theorem vx_callf {S SX : Type} {post : UInt32 → S → Prop} {px : SX → Prop} {B : S → State → Prop} {BX : String → SX → State → Prop} {AX : Nat → Prop} (hr : vx_Run p l e R s m args below meth c H locs cells slots mc ms (F0 m pc ls st0) rest (va_Qf post B A1 a) (vx_X px BX AX) free) (hS : va_S A0 H0 H locs) (hA : ∀ q, q < H.size → A1 q → A0 q) (hf : ∀ q, free q → A0 q) (hAX : ∀ q, q < H.size → AX q → A0 q)
    (kx : ∀ (E : String) (ce : Cell) (q9 : Addr) (u : SX) (t : State) (H1 : Heap) (locs1 : List Loc), t.heap = H1 → s.vm.Alike t.vm → px u → BX E u t → H.size ≤ H1.size → (∀ q : Nat, q < H.size → ¬ AX q → H1[q]? = H[q]?) → va_S A0 H0 H1 locs1 → H1[q9]? = some ce → ce.vm = .none → s.vm.findClass E = some ce.cls → vx_W p l e R s m args below meth c H1 locs1 (cells + mc) (slots + ms) Q (F0 m pc ls rest) q9)
    (kk : ∀ (r : UInt32) (u : S) (t : State) (H1 : Heap) (locs1 : List Loc), t.heap = H1 → s.vm.Alike t.vm → post r u → B u t → H.size ≤ H1.size → (∀ q : Nat, q < H.size → ¬ A1 q → H1[q]? = H[q]?) → va_S A0 H0 H1 locs1 → W p l e R s m args below meth c H1 locs1 (cells + mc) (slots + ms) Q (F0 m (pc + 3) ls (.float r :: rest))) : W p l e R s m args below meth c H locs cells slots Q (F0 m pc ls st0) := by
  intro T hT X
  rcases hr T hT X with ⟨v, st₀, t, T', L, h0, X', hL, e1, e2, ⟨⟨r, u, hv, hp, hb⟩, hF⟩, st⟩ | ⟨q, st₀, t, T', L, E, ce, h0, X', hL, e1, e2, ⟨u, hp, hb, hF⟩, hce, hcv, hcl, st⟩
  · cases hv
    obtain ⟨k1, k2, k3⟩ := vx_keep h0 e1 hS hA hf hL hF
    obtain ⟨t2, a1, b1⟩ := kk r u t T'.heap (locs ++ L) e1.symm (by rw [← e2]; exact X'.warmed.alike) hp hb k1 k2 k3 T' rfl X'
    exact ⟨t2, st t2 a1, b1⟩
  · obtain ⟨k1, k2, k3⟩ := vx_keep h0 e1 hS hAX hf hL hF
    obtain ⟨t2, a1, b1⟩ := kx E ce q u t T'.heap (locs ++ L) e1.symm (by rw [← e2]; exact X'.warmed.alike) hp hb k1 k2 k3 (by rw [e1]; exact hce) hcv hcl T' rfl X'
    exact ⟨t2, st.trans a1, b1⟩
theorem vx_calld {S SX : Type} {post : UInt64 → S → Prop} {px : SX → Prop} {B : S → State → Prop} {BX : String → SX → State → Prop} {AX : Nat → Prop} (hr : vx_Run p l e R s m args below meth c H locs cells slots mc ms (F0 m pc ls st0) rest (va_Qd post B A1 a) (vx_X px BX AX) free) (hS : va_S A0 H0 H locs) (hA : ∀ q, q < H.size → A1 q → A0 q) (hf : ∀ q, free q → A0 q) (hAX : ∀ q, q < H.size → AX q → A0 q)
    (kx : ∀ (E : String) (ce : Cell) (q9 : Addr) (u : SX) (t : State) (H1 : Heap) (locs1 : List Loc), t.heap = H1 → s.vm.Alike t.vm → px u → BX E u t → H.size ≤ H1.size → (∀ q : Nat, q < H.size → ¬ AX q → H1[q]? = H[q]?) → va_S A0 H0 H1 locs1 → H1[q9]? = some ce → ce.vm = .none → s.vm.findClass E = some ce.cls → vx_W p l e R s m args below meth c H1 locs1 (cells + mc) (slots + ms) Q (F0 m pc ls rest) q9)
    (kk : ∀ (r : UInt64) (u : S) (t : State) (H1 : Heap) (locs1 : List Loc), t.heap = H1 → s.vm.Alike t.vm → post r u → B u t → H.size ≤ H1.size → (∀ q : Nat, q < H.size → ¬ A1 q → H1[q]? = H[q]?) → va_S A0 H0 H1 locs1 → W p l e R s m args below meth c H1 locs1 (cells + mc) (slots + ms) Q (F0 m (pc + 3) ls (.double r :: rest))) : W p l e R s m args below meth c H locs cells slots Q (F0 m pc ls st0) := by
  intro T hT X
  rcases hr T hT X with ⟨v, st₀, t, T', L, h0, X', hL, e1, e2, ⟨⟨r, u, hv, hp, hb⟩, hF⟩, st⟩ | ⟨q, st₀, t, T', L, E, ce, h0, X', hL, e1, e2, ⟨u, hp, hb, hF⟩, hce, hcv, hcl, st⟩
  · cases hv
    obtain ⟨k1, k2, k3⟩ := vx_keep h0 e1 hS hA hf hL hF
    obtain ⟨t2, a1, b1⟩ := kk r u t T'.heap (locs ++ L) e1.symm (by rw [← e2]; exact X'.warmed.alike) hp hb k1 k2 k3 T' rfl X'
    exact ⟨t2, st t2 a1, b1⟩
  · obtain ⟨k1, k2, k3⟩ := vx_keep h0 e1 hS hAX hf hL hF
    obtain ⟨t2, a1, b1⟩ := kx E ce q u t T'.heap (locs ++ L) e1.symm (by rw [← e2]; exact X'.warmed.alike) hp hb k1 k2 k3 (by rw [e1]; exact hce) hcv hcl T' rfl X'
    exact ⟨t2, st.trans a1, b1⟩
theorem vx_callv {S SX : Type} {post : S → Prop} {px : SX → Prop} {B : S → State → Prop} {BX : String → SX → State → Prop} {AX : Nat → Prop} (hr : vx_Run p l e R s m args below meth c H locs cells slots mc ms (F0 m pc ls st0) rest (va_Qv post B A1 a) (vx_X px BX AX) free) (hS : va_S A0 H0 H locs) (hA : ∀ q, q < H.size → A1 q → A0 q) (hf : ∀ q, free q → A0 q) (hAX : ∀ q, q < H.size → AX q → A0 q)
    (kx : ∀ (E : String) (ce : Cell) (q9 : Addr) (u : SX) (t : State) (H1 : Heap) (locs1 : List Loc), t.heap = H1 → s.vm.Alike t.vm → px u → BX E u t → H.size ≤ H1.size → (∀ q : Nat, q < H.size → ¬ AX q → H1[q]? = H[q]?) → va_S A0 H0 H1 locs1 → H1[q9]? = some ce → ce.vm = .none → s.vm.findClass E = some ce.cls → vx_W p l e R s m args below meth c H1 locs1 (cells + mc) (slots + ms) Q (F0 m pc ls rest) q9)
    (kk : ∀ (u : S) (t : State) (H1 : Heap) (locs1 : List Loc), t.heap = H1 → s.vm.Alike t.vm → post u → B u t → H.size ≤ H1.size → (∀ q : Nat, q < H.size → ¬ A1 q → H1[q]? = H[q]?) → va_S A0 H0 H1 locs1 → W p l e R s m args below meth c H1 locs1 (cells + mc) (slots + ms) Q (F0 m (pc + 3) ls (rest))) : W p l e R s m args below meth c H locs cells slots Q (F0 m pc ls st0) := by
  intro T hT X
  rcases hr T hT X with ⟨v, st₀, t, T', L, h0, X', hL, e1, e2, ⟨⟨u, hv, hp, hb⟩, hF⟩, st⟩ | ⟨q, st₀, t, T', L, E, ce, h0, X', hL, e1, e2, ⟨u, hp, hb, hF⟩, hce, hcv, hcl, st⟩
  · cases hv
    obtain ⟨k1, k2, k3⟩ := vx_keep h0 e1 hS hA hf hL hF
    obtain ⟨t2, a1, b1⟩ := kk u t T'.heap (locs ++ L) e1.symm (by rw [← e2]; exact X'.warmed.alike) hp hb k1 k2 k3 T' rfl X'
    exact ⟨t2, st t2 a1, b1⟩
  · obtain ⟨k1, k2, k3⟩ := vx_keep h0 e1 hS hAX hf hL hF
    obtain ⟨t2, a1, b1⟩ := kx E ce q u t T'.heap (locs ++ L) e1.symm (by rw [← e2]; exact X'.warmed.alike) hp hb k1 k2 k3 (by rw [e1]; exact hce) hcv hcl T' rfl X'
    exact ⟨t2, st.trans a1, b1⟩
/-- caught by the row x of this method's table; the rows ahead don't take it -/
theorem vx_catch {own name : String} {E : String} {ce : Cell} {q : Addr} (hown : s.vm.findClass own = some m.cls) (pre : List ExceptionTableEntry) (x : ExceptionTableEntry) (suf : List ExceptionTableEntry) (hsplit : c.exceptionTable.toList = pre ++ x :: suf)
    (hpass : ∀ z ∈ pre, covers z pc = false ∨ (z.catchType ≠ 0 ∧ ∃ nm : String, (Cond.classLink own z.catchType nm).before args s = true ∧ va_Nc E nm s)) (hx : covers x pc = true) (h0 : x.catchType ≠ 0)
    (hlink : (Cond.classLink own x.catchType name).before args s = true) (hcast : (Cond.castable E name).before args s = true) (hcell : H[q]? = some ce) (hv : ce.vm = .none) (hcl : s.vm.findClass E = some ce.cls)
    (kk : W p l e R s m args below meth c H locs cells slots Q (F0 m x.handlerPc ls [.ref q])) : vx_W p l e R s m args below meth c H locs cells slots Q (F0 m pc ls rest) q := by
  intro T hT X
  have hpl : e.platform.magicAccessors = ({} : Platform).magicAccessors := by rw [X.admits.platform]
  obtain ⟨c3, c4, hc3, hc4, hasg⟩ := Cond.castable_spec hcast
  cases Option.some.inj (hc3.symm.trans hcl)
  obtain ⟨c5, hc5, hcl5⟩ := Cond.classLink_spec hown hlink e.platform hpl
  cases Option.some.inj (hc4.symm.trans hc5)
  obtain ⟨vm', X', st⟩ := X.thenCaughtThrough q (g := F0 m pc ls rest) rfl (Steps.refl _) (by rw [hT]; exact hcell) (by rw [hv]; rfl) (by obtain ⟨k9, h9, -⟩ := Vm.findClass_spec hcl; exact ⟨k9, h9⟩) pre x suf hsplit
    (fun z hz => by
      rcases hpass z hz with h | ⟨hz0, nm, hl1, hn1⟩
      · exact Or.inl h
      · obtain ⟨c6, hc6, hcl6⟩ := Cond.classLink_spec hown hl1 e.platform hpl
        obtain ⟨a8, b8, h1, h2, h3⟩ := hn1
        cases Option.some.inj (h1.symm.trans hcl)
        cases Option.some.inj (h2.symm.trans hc6)
        exact Or.inr ⟨hz0, _, hcl6, h3⟩) hx (Or.inr ⟨h0, c4, hcl5, hasg⟩)
  obtain ⟨t, a1, b1⟩ := kk (T.setVm vm') hT X'
  exact ⟨t, st.trans a1, b1⟩
end Rows
section Ends
variable {p : Program} {l : Launch} {e : Env} {R : Room} {s : State} {m : MethodId} {args : Array Value} {below : List Frame} {meth : Method} {c : Code} {H : Heap} {locs : List Loc} {cells slots : Nat} {Q : State → Prop}
variable {mc ms : Nat} {free : Addr → Prop} {A0 A1 : Nat → Prop} {H0 : Heap} {a : Array Value} {ls : Array Slot} {st0 rest : List Value}
variable {Qc : Array Value → State → Outcome → State → Prop} {XC : String → State → State → Prop}
/-- what a body that may throw owes at its end -/
def vx_MQ (below : List Frame) (Qc : Array Value → State → Outcome → State → Prop) (XC : String → State → State → Prop) (a : Array Value) (s : State) (mc ms : Nat) (free : Addr → Prop) : State → Prop := fun t =>
  ∃ o, t.status = .running ∧ Ended t below o ∧ vx_Q Qc XC mc ms free a s o t
theorem vx_ret {g : JFrame} {mc ms : Nat} (k : W p l e R s m args below meth c H locs cells slots (MQ below Qc args s mc ms free) g) : W p l e R s m args below meth c H locs cells slots (vx_MQ below Qc XC args s mc ms free) g := by
  intro T hT X
  obtain ⟨t, a1, o, b1, b2, b3, b4⟩ := k T hT X
  exact ⟨t, a1, o, b1, b2, Or.inl ⟨b3, b4⟩⟩
/-- not caught here: it goes on to the caller -/
theorem vx_widen {g : JFrame} {q : Addr} {k n : Nat} (h1 : cells ≤ k) (h2 : slots ≤ n) (kk : vx_W p l e R s m args below meth c H locs k n Q g q) : vx_W p l e R s m args below meth c H locs cells slots Q g q := fun T hT X => kk T hT (stand_widen X h1 h2)
theorem vx_out {pc : Nat} {E : String} {ce : Cell} {q : Addr} {mc ms : Nat} (hout : ∀ x ∈ c.exceptionTable.toList, covers x pc = false) (hlocks : meth.locks = false) (hcell : H[q]? = some ce) (hv : ce.vm = .none) (hcl : s.vm.findClass E = some ce.cls)
    (hx : ∀ t : State, t.heap = H → s.vm.Alike t.vm → XC E s t) (hf : ∀ z ∈ locs, free z.base) (hc : cells ≤ mc) (hs : slots ≤ ms) :
    vx_W p l e R s m args below meth c H locs cells slots (vx_MQ below Qc XC args s mc ms free) (F0 m pc ls rest) q := by
  intro T hT X
  obtain ⟨st1, hrun, hend, hW, hsm⟩ := X.leaveThrown q (g := F0 m pc ls rest) rfl rfl rfl hout hlocks
  have hcell9 : (T.setFrames (.throwing q :: below)).heap[q]? = some ce := by
    show T.heap[q]? = some ce
    rw [hT]; exact hcell
  exact ⟨_, st1, .threw q, hrun, hend, Or.inr ⟨q, rfl, E, ce, locs, hx _ hT hW.alike, hcell9, hv, hcl, hW, hsm.mono hc hs, hf⟩⟩
theorem vx_frame {U : State} {k n : Nat} (h : s.sameButNew ({ U with vm := s.vm } : State) locs k n) : s.heap.size ≤ U.heap.size ∧ ∀ q : Nat, q < s.heap.size → (∀ z ∈ locs, z.base ≠ q) → U.heap[q]? = s.heap[q]? := by
  obtain ⟨-, h2, -, -, -, h6⟩ := h
  refine ⟨h2, fun q hq hz => ?_⟩
  obtain ⟨c9, e1, e2, e3, e4⟩ := h6 q _ (Array.getElem?_eq_getElem hq)
  have hs : c9.slots = (s.heap[q]).slots := Array.ext_getElem? fun i => e4 i fun hm => hz _ hm rfl
  have h9 : c9 = s.heap[q] := by
    rw [hs] at e2
    exact e2
  have e5 : U.heap[q]? = some c9 := e1
  rw [e5, h9, Array.getElem?_eq_getElem hq]
/-- the words of a throw but the four that speak of the heap -/
def vx_no (w : Cond) : Bool := decide (w ≠ .isRef (.static Bundle.tN "UNASSIGNED_STACK" Bundle.steD)) && decide (w ≠ .isRef (.static Bundle.tN "SUPPRESSED_SENTINEL" Bundle.listD)) && decide (w ≠ .laysStatic Bundle.tN "UNASSIGNED_STACK" Bundle.steD) && decide (w ≠ .laysStatic Bundle.tN "SUPPRESSED_SENTINEL" Bundle.listD)
def vx_at0 (own : String) (ic : Nat) (X : String) (names : List String) : List Cond := (Bundle.ownAtoms0 own ic X names).filter vx_no
def vx_atS (own : String) (ic : Nat) (X : String) (names : List String) : List Cond := (Bundle.ownAtoms own ic X names).filter vx_no
/-- a word that the tables alone decide, or a good one -/
def vx_ot (w : Cond) : Bool := w.onTables || goodWord w
theorem vx_ot_at {args a' : Array Value} {s U : State} {w : Cond} (hW : s.WarmedH U.vm) (hvm : s.vm = U.vm) (hg : vx_ot w = true) (h : w.before args s = true) : w.before a' U = true := by
  simp only [vx_ot, Bool.or_eq_true] at hg
  rcases hg with hg | hg
  · exact va_tabs hg hvm h
  · exact word_at hW (good_of_word hg) h
/-- a list's words: the good ones out of the method's own list, the others by premises of their own -/
theorem vx_hat {args : Array Value} {s : State} {L B : List Cond} (h1 : ∀ w ∈ L.filter goodWord, w.before args s = true) (h2 : ∀ w ∈ L.filter (fun w => !goodWord w), w ∈ B) (h3 : ∀ w ∈ B, w.before args s = true) : ∀ w ∈ L, w.before args s = true := by
  intro w hw
  by_cases g : goodWord w = true
  · exact h1 w (List.mem_filter.mpr ⟨hw, g⟩)
  · refine h3 w (h2 w (List.mem_filter.mpr ⟨hw, ?_⟩))
    show (!goodWord w) = true
    cases hgw : goodWord w
    · rfl
    · exact absurd hgw g
theorem vx_c {args : Array Value} {s : State} {w : Cond} {B : List Cond} (h : w.before args s = true) (t : ∀ w ∈ B, w.before args s = true) : ∀ w' ∈ w :: B, w'.before args s = true := fun w' h' => (List.mem_cons.mp h').elim (fun e => by rw [e]; exact h) (t w')
theorem vx_n {args : Array Value} {s : State} : ∀ w ∈ ([] : List Cond), w.before args s = true := fun _ h => nomatch h
theorem vx_own {args : Array Value} {s : State} {L : List Cond} (h1 : ∀ w ∈ L.filter vx_no, w.before args s = true)
    (hU : (Cond.isRef (.static Bundle.tN "UNASSIGNED_STACK" Bundle.steD)).before args s = true) (hN : (Cond.isRef (.static Bundle.tN "SUPPRESSED_SENTINEL" Bundle.listD)).before args s = true)
    (lU : (Cond.laysStatic Bundle.tN "UNASSIGNED_STACK" Bundle.steD).before args s = true) (lN : (Cond.laysStatic Bundle.tN "SUPPRESSED_SENTINEL" Bundle.listD).before args s = true) : ∀ w ∈ L, w.before args s = true := by
  intro w hw
  by_cases e1 : w = .isRef (.static Bundle.tN "UNASSIGNED_STACK" Bundle.steD)
  · rw [e1]; exact hU
  · by_cases e2 : w = .isRef (.static Bundle.tN "SUPPRESSED_SENTINEL" Bundle.listD)
    · rw [e2]; exact hN
    · by_cases e3 : w = .laysStatic Bundle.tN "UNASSIGNED_STACK" Bundle.steD
      · rw [e3]; exact lU
      · by_cases e4 : w = .laysStatic Bundle.tN "SUPPRESSED_SENTINEL" Bundle.listD
        · rw [e4]; exact lN
        · exact h1 w (List.mem_filter.mpr ⟨hw, by unfold vx_no; rw [decide_eq_true e1, decide_eq_true e2, decide_eq_true e3, decide_eq_true e4]; rfl⟩)
/-- where a static field lies, its class's statics cell in H -/
def vx_L (C n d : String) (A : Nat → Prop) (U : State) (H : Heap) : Prop := ∃ (c : ClassId) (k : Class) (i : Nat) (f : Field) (a : Nat) (cell : Cell), U.vm.findClass C = some c ∧ U.fieldFound? C n d = some (c, k, i, f) ∧ f.isStatic = true ∧ k.statics = some a ∧ H[a]? = some cell ∧ cell.vm.isStatics = true ∧ cell.cls = c ∧ f.slot < cell.slots.size ∧ k.staticTypes[f.slot]? = some f.type ∧ ¬ A a
theorem vx_L.moved {C n d : String} {A : Nat → Prop} {u U : State} {H : Heap} (hvm : u.vm.Alike U.vm) (h : vx_L C n d A u H) : vx_L C n d A U H := by
  obtain ⟨c, k, i, f, a, cell, h1, h2, h3, h4, h5, h6, h7, h8, h9, h10⟩ := h
  obtain ⟨k', hi', he⟩ := State.fieldFound?_setVm hvm h2
  exact ⟨c, k', i, f, a, cell, by rw [hvm.findClass]; exact h1, hi', h3, by rw [he]; exact h4, h5, h6, h7, h8, by rw [he]; exact h9, h10⟩
theorem vx_L.kept {C n d : String} {A : Nat → Prop} {U : State} {H H1 : Heap} (h : vx_L C n d A U H) (hq : ∀ a : Nat, a < H.size → ¬ A a → H1[a]? = H[a]?) : vx_L C n d A U H1 := by
  obtain ⟨c, k, i, f, a, cell, h1, h2, h3, h4, h5, h6, h7, h8, h9, h10⟩ := h
  exact ⟨c, k, i, f, a, cell, h1, h2, h3, h4, by rw [hq a (Array.getElem?_eq_some_iff.mp h5).1 h10]; exact h5, h6, h7, h8, h9, h10⟩
theorem vx_L.narrow {C n d : String} {A B : Nat → Prop} {U : State} {H : Heap} (h : vx_L C n d A U H) (hAB : ∀ q, B q → A q) : vx_L C n d B U H := by
  obtain ⟨c, k, i, f, a, cell, h1, h2, h3, h4, h5, h6, h7, h8, h9, h10⟩ := h
  exact ⟨c, k, i, f, a, cell, h1, h2, h3, h4, h5, h6, h7, h8, h9, fun z => h10 (hAB _ z)⟩
theorem vx_L.word {C n d : String} {A : Nat → Prop} {s : State} {args : Array Value} (h : vx_L C n d A s s.heap) : (Cond.laysStatic C n d).before args s = true := by
  obtain ⟨c, k, i, f, a, cell, h1, h2, h3, h4, h5, h6, h7, h8, h9, -⟩ := h
  show (Cond.laysStatic C n d).holds args s none s [] = true
  exact Cond.laysStatic_of h1 h2 h3 h4 h5 h6 h7 h8 h9
/-- .. and what it holds: null or some reference -/
def vx_Zq (C n d : String) (A : Nat → Prop) (U : State) (H : Heap) : Prop := va_Zq C n d A U H ∧ vx_L C n d A U H
theorem vx_Zq.moved {C n d : String} {A : Nat → Prop} {u U : State} {H : Heap} (hvm : u.vm.Alike U.vm) (h : vx_Zq C n d A u H) : vx_Zq C n d A U H := ⟨va_Zq.moved hvm h.1, vx_L.moved hvm h.2⟩
theorem vx_Zq.kept {C n d : String} {A : Nat → Prop} {U : State} {H H1 : Heap} (h : vx_Zq C n d A U H) (hq : ∀ a : Nat, a < H.size → ¬ A a → H1[a]? = H[a]?) : vx_Zq C n d A U H1 := ⟨va_Zq.kept h.1 hq, vx_L.kept h.2 hq⟩
theorem vx_Zq.narrow {C n d : String} {A B : Nat → Prop} {U : State} {H : Heap} (h : vx_Zq C n d A U H) (hAB : ∀ q, B q → A q) : vx_Zq C n d B U H := ⟨va_Zq.narrow h.1 hAB, vx_L.narrow h.2 hAB⟩
theorem vx_Zqof {args : Array Value} {s : State} {C n d : String} {A : Nat → Prop} (hl : (Cond.laysStatic C n d).before args s = true) (hini : (Cond.initialized C).before args s = true) (h : (Cond.isRef (.static C n d)).before args s = true) (hA : ∀ a : Nat, a < s.heap.size → ¬ A a) : vx_Zq C n d A s s.heap := by
  refine ⟨va_Zqof hl hini h hA, ?_⟩
  obtain ⟨c, k, i, f, a, cell, h1, h2, h3, h4, h5, h6, h7, h8, h9⟩ := Cond.laysStatic_spec hl
  exact ⟨c, k, i, f, a, cell, h1, h2, h3, h4, h5, h6, h7, h8, h9, hA a (Array.getElem?_eq_some_iff.mp h5).1⟩
theorem vx_isRef {C n d : String} {v : Value} {A : Nat → Prop} {s : State} {args : Array Value} (h : va_Z C n d v A s s.heap) (hv : v.isRef = true) : (Cond.isRef (.static C n d)).before args s = true := by
  obtain ⟨cf, kf, fi, f, a, cell, h1, h2, h3, h4, h5, h6, h7, -⟩ := h
  have he : (Term.static C n d).eval args s none [] s = some v := by
    simp [Term.eval, State.fieldNamed?, h1, h2, h4, h5, h6, h7]
  simp only [Cond.before, Cond.holds, Cond.value, he]
  cases v <;> simp_all [Value.isRef]
theorem vx_isRefq {C n d : String} {A : Nat → Prop} {s : State} {args : Array Value} (h : va_Zq C n d A s s.heap) : (Cond.isRef (.static C n d)).before args s = true := by
  rcases h with h | ⟨t, h⟩
  · exact vx_isRef h rfl
  · exact vx_isRef h rfl
/-- the same frame, seen from here: as if the method were called anew in this heap -/
theorem vx_rebase {T : State} (X : Stand p l e R s m args below meth c T locs cells slots) {R' : Room} (hf : R'.frames ≤ R.frames) (hl : R'.locals ≤ R.locals) (hc : cells + R'.cells ≤ R.cells) (hs : slots + R'.slots ≤ R.slots) :
    Stand p l e R' ((T.setVm s.vm).setFrames (.invoking m args :: below)) m args below meth c T [] 0 0 := by
  have htop : (T.setVm s.vm).topJava?.isSome := X.here.top
  have hF : ((T.setVm s.vm).setFrames (.invoking m args :: below)).frames = .invoking m args :: below := State.frames_setFrames _ (State.cur_lt_of_top htop)
  obtain ⟨g₀, hg0⟩ := Option.isSome_iff_exists.mp htop
  obtain ⟨r, hr⟩ := State.topJava?_eq_some.mp hg0
  have hl9 : e.platform.stackLimits (T.setVm s.vm).me = e.platform.stackLimits s.me := X.limits
  have hb9 : (T.setVm s.vm).me.stackBytes = s.me.stackBytes := X.bytes
  refine ⟨X.admits, X.cas, X.clock, hF, ?_, X.hears, X.method, X.code, X.here, X.tail, X.warmed, ?_, ?_, ?_⟩
  · have h := X.room
    have hU : ((T.setVm s.vm).setFrames (.invoking m args :: below)).localsInUse = s.localsInUse := by
      rw [State.localsInUse_invoking hF (meth := meth) (c := c) X.method X.code, State.localsInUse_invoking X.frames X.method X.code]
    simp only [State.hasRoom, Bool.and_eq_true, decide_eq_true_eq] at h ⊢
    obtain ⟨⟨⟨⟨h1, h2, h3, h4, h5, h6⟩, h7⟩, h8⟩, h9⟩ := h
    rw [X.frames, List.length_cons] at h2 h3
    have q1 := X.heapSize
    have q2 := X.used
    simp only [hF, hU, List.length_cons, State.stackLimits_setFrames, State.stackBytes_setFrames, hl9, hb9]
    refine ⟨⟨⟨⟨by omega, by omega, by omega, by omega, by omega, h6⟩, ?_⟩, ?_⟩, X.book⟩
    · show T.heap.size + R'.cells ≤ e.platform.maxCells
      omega
    · show T.slotsUsed + R'.slots ≤ e.platform.maxSlots
      omega
  · rw [State.stackLimits_setFrames]; rfl
  · rw [State.stackBytes_setFrames]; rfl
  · refine ⟨?_, Nat.le_refl _, Nat.le_refl _, ?_, ?_, fun a c9 h9 => ⟨c9, h9, rfl, rfl, fun _ _ => rfl⟩⟩
    · obtain ⟨t, ht, -⟩ := State.frames_cons hr
      show T.setVm s.vm = { ((T.setVm s.vm).setFrames (.invoking m args :: below)).setFrames (T.setVm s.vm).frames with heap := T.heap, slotsUsed := T.slotsUsed }
      rw [State.setFrames_setFrames, State.setFrames_self ht]
      rfl
    · show T.slotsUsed = T.slotsUsed + ((T.heap.toList.drop T.heap.size).map (·.slots.size)).sum
      rw [List.drop_eq_nil_of_le (Nat.le_of_eq Array.length_toList)]
      rfl
    · show ((T.heap.toList.drop T.heap.size).map (·.slots.size)).sum ≤ 0
      rw [List.drop_eq_nil_of_le (Nat.le_of_eq Array.length_toList)]
      exact Nat.le_refl _
/-- 'throw new E()': new; dup; invokespecial; athrow -/
theorem vx_throw0 {cc : ByteArray} {pc : Nat} (hexec : p.tables.exec = Jvm.exec) (hb : c.code = cc) (hl : l.stackTraces = false) {own cls : String} {names : List String} {ik ic mc ms : Nat} {A : Nat → Prop}
    (hown : s.vm.findClass own = some m.cls) (hcls : Bundle.fit cls = true) (hnames : ∀ n ∈ names, Bundle.fit n = true)
    (hk : (Cond.classLink own ik cls).before args s = true) (hini : (Cond.initialized cls).before args s = true) (hat : ∀ w ∈ vx_at0 own ic cls names, w.before args s = true)
    (hgood : ∀ w ∈ Cond.classLink own ik cls :: Cond.initialized cls :: vx_at0 own ic cls names, vx_ot w = true)
    (hU : vx_Zq Bundle.tN "UNASSIGNED_STACK" Bundle.steD A s s.heap) (hN : vx_Zq Bundle.tN "SUPPRESSED_SENTINEL" Bundle.listD A s s.heap) (hS : va_S A s.heap H locs) (hsize : ls.size = c.maxLocals)
    (d0 : decode cc pc = .ok (.new ik, 3)) (d3 : decode cc (pc + 3) = .ok (.dup, 1)) (d4 : decode cc (pc + 4) = .ok (.invokespecial ic, 3)) (d7 : decode cc (pc + 7) = .ok (.athrow, 1))
    (hout : ∀ x ∈ c.exceptionTable.toList, covers x (pc + 7) = false)
    (hRframes : names.length + 3 < R.frames) (hRlocals : (rest.map fun v => v.category).sum + (13 * (names.length + 1) + 42) ≤ R.locals) (hRcells : cells + 1 ≤ R.cells) (hRslots : slots + 6 ≤ R.slots) (hlocks : meth.locks = false)
    (hx : ∀ t : State, s.vm.Alike t.vm → H.size ≤ t.heap.size → (∀ q : Nat, q < H.size → t.heap[q]? = H[q]?) → XC cls s t)
    (hf : ∀ z ∈ locs, free z.base) (hc : cells + 1 ≤ mc) (hs : slots + 6 ≤ ms) :
    W p l e R s m args below meth c H locs cells slots (vx_MQ below Qc XC args s mc ms free) (F0 m pc ls rest) := by
  intro T hT X
  have htr : e.platform.stackTraces = false := (show e.platform.stackTraces = l.stackTraces by rw [X.admits.platform]).trans hl
  have Y := vx_rebase X (R' := { frames := R.frames, locals := R.locals, cells := 1, slots := 6 }) (Nat.le_refl _) (Nat.le_refl _) hRcells hRslots
  obtain ⟨s', hA⟩ : ∃ z, z = (T.setVm s.vm).setFrames (.invoking m args :: below) := ⟨_, rfl⟩
  rw [← hA] at Y
  have hvm : s'.vm = s.vm := by rw [hA]; rfl
  have hhp : s'.heap = H := by rw [hA]; exact hT
  have hW0 : s.WarmedH s'.vm := by rw [hvm]; exact State.WarmedH.refl s
  have hat' : ∀ w ∈ vx_at0 own ic cls names, w.before args s' = true := fun w hw => vx_ot_at hW0 hvm.symm (hgood w (List.mem_cons_of_mem _ (List.mem_cons_of_mem _ hw))) (hat w hw)
  have hk' : (Cond.classLink own ik cls).before args s' = true := vx_ot_at hW0 hvm.symm (hgood _ List.mem_cons_self) hk
  have hini' : (Cond.initialized cls).before args s' = true := vx_ot_at hW0 hvm.symm (hgood _ (List.mem_cons_of_mem _ List.mem_cons_self)) hini
  have hU' : vx_Zq Bundle.tN "UNASSIGNED_STACK" Bundle.steD A s' s'.heap := by rw [hhp]; exact vx_Zq.moved hW0.alike (hU.kept hS.2.1)
  have hN' : vx_Zq Bundle.tN "SUPPRESSED_SENTINEL" Bundle.listD A s' s'.heap := by rw [hhp]; exact vx_Zq.moved hW0.alike (hN.kept hS.2.1)
  have h : ∀ w ∈ Bundle.ownAtoms0 own ic cls names, w.before args s' = true := vx_own hat' (vx_isRefq hU'.1) (vx_isRefq hN'.1) hU'.2.word hN'.2.word
  have hown' : s'.vm.findClass own = some m.cls := by rw [hvm]; exact hown
  have hins : (Cond.instantiable cls 6).before args s' = true := h _ (by simp [Bundle.ownAtoms0])
  obtain ⟨vm₁, cX, kX, hfX, hkX, -, -, X₁, st1⟩ := Y.newCold hexec (own := own) (C := cls) (index := ik) (n := 6) hown' hk' hins hini'
    (g := F0 m pc ls rest) rfl (by rw [hb]; exact d0) (Nat.le_refl _) (Nat.le_refl _)
  generalize hT1 : (T.setVm vm₁).pushCell { cls := cX, slots := kX.instanceTypes.map defaultValue, vm := .none } = T1 at X₁ st1
  have hcat : (Value.ref T.heap.size).category = 1 := rfl
  have hcellA : T1.heap[T.heap.size]? = some (freshCell cX kX) := by rw [← hT1]; exact State.heap_pushCell_size _ _
  have d3' : decode c.code (pc + 3) = .ok (.dup, 1) := by rw [hb]; exact d3
  obtain ⟨U, hsteps, hrun, hend, hW, hsame, ce, hce, hO⟩ := X₁.ctorThrow0 hexec htr (own := own) (cls := cls) (names := names) (ic := ic) hown' hcls hnames h (fun x hx => nomatch hx) hfX hkX hcellA (by rw [hhp, hT]; exact Nat.le_refl _)
    (g := { method := m, pc := pc + 4, locals := ls, stack := .ref T.heap.size :: .ref T.heap.size :: rest, locked := none }) rfl hsize rfl rfl (rest := rest) rfl
    (by rw [hb]; exact d4) (by rw [hb]; exact d7) hout hRframes (by simp only [List.map_cons, List.sum_cons, hcat]; omega) hlocks
  obtain ⟨f1, f2⟩ := vx_frame hsame
  rw [hhp] at f1 f2
  have hWs : s.WarmedH U.vm := State.WarmedH.trans hW0 hW
  have hcl : s.vm.findClass cls = some ce.cls := by
    have h9 := hO.cls
    rw [hvm] at h9
    exact h9
  have hall : s.sameButNew ({ U with vm := s.vm } : State) locs mc ms := by
    subst hA
    obtain ⟨e1, e2⟩ := hsame
    rw [State.setFrames_setFrames] at e1
    have h2 : (T.setVm s.vm).sameButNew ({ U with vm := s.vm } : State) [] (0 + 1) (0 + 6) := ⟨e1, e2⟩
    have h3 := X.same.trans h2
    rw [List.append_nil] at h3
    exact h3.mono hc hs
  refine ⟨U, ?_, .threw T.heap.size, hrun, hend, Or.inr ⟨T.heap.size, rfl, cls, ce, locs, hx U hWs.alike f1 (fun q hq => f2 q hq (fun z hz => nomatch hz)), hce, hO.vm, hcl, hWs, hall, hf⟩⟩
  refine st1 _ ?_
  show Steps p.tables e below (T1.setTop { method := m, pc := pc + 3, locals := ls, stack := .ref T.heap.size :: rest, locked := none }) _
  jvm_step X₁.here [X₁.here.top, hexec, d3', Value.category]
  exact hsteps
/-- 'throw new E("text")': new; dup; ldc; invokespecial; athrow -/
theorem vx_throwS {cc : ByteArray} {pc : Nat} (hexec : p.tables.exec = Jvm.exec) (hb : c.code = cc) (hl : l.stackTraces = false) {own cls text : String} {names : List String} {ik is ic mc ms sa : Nat} {A : Nat → Prop}
    (hown : s.vm.findClass own = some m.cls) (hcls : Bundle.fit cls = true) (hnames : ∀ n ∈ names, Bundle.fit n = true)
    (hk : (Cond.classLink own ik cls).before args s = true) (hini : (Cond.initialized cls).before args s = true) (hstr : vk_R own is text sa s) (hat : ∀ w ∈ vx_atS own ic cls names, w.before args s = true)
    (hgood : ∀ w ∈ Cond.classLink own ik cls :: Cond.initialized cls :: vx_atS own ic cls names, vx_ot w = true)
    (hU : vx_Zq Bundle.tN "UNASSIGNED_STACK" Bundle.steD A s s.heap) (hN : vx_Zq Bundle.tN "SUPPRESSED_SENTINEL" Bundle.listD A s s.heap) (hS : va_S A s.heap H locs) (hsize : ls.size = c.maxLocals)
    (d0 : decode cc pc = .ok (.new ik, 3)) (d3 : decode cc (pc + 3) = .ok (.dup, 1)) (d4 : decode cc (pc + 4) = .ok (.ldc is, 2)) (d6 : decode cc (pc + 6) = .ok (.invokespecial ic, 3)) (d9 : decode cc (pc + 9) = .ok (.athrow, 1))
    (hout : ∀ x ∈ c.exceptionTable.toList, covers x (pc + 9) = false)
    (hRframes : names.length + 3 < R.frames) (hRlocals : (rest.map fun v => v.category).sum + (13 * (names.length + 1) + 43) ≤ R.locals) (hRcells : cells + 1 ≤ R.cells) (hRslots : slots + 6 ≤ R.slots) (hlocks : meth.locks = false)
    (hx : ∀ t : State, s.vm.Alike t.vm → H.size ≤ t.heap.size → (∀ q : Nat, q < H.size → t.heap[q]? = H[q]?) → XC cls s t)
    (hf : ∀ z ∈ locs, free z.base) (hc : cells + 1 ≤ mc) (hs : slots + 6 ≤ ms) :
    W p l e R s m args below meth c H locs cells slots (vx_MQ below Qc XC args s mc ms free) (F0 m pc ls rest) := by
  intro T hT X
  have htr : e.platform.stackTraces = false := (show e.platform.stackTraces = l.stackTraces by rw [X.admits.platform]).trans hl
  have Y := vx_rebase X (R' := { frames := R.frames, locals := R.locals, cells := 1, slots := 6 }) (Nat.le_refl _) (Nat.le_refl _) hRcells hRslots
  obtain ⟨s', hA⟩ : ∃ z, z = (T.setVm s.vm).setFrames (.invoking m args :: below) := ⟨_, rfl⟩
  rw [← hA] at Y
  have hvm : s'.vm = s.vm := by rw [hA]; rfl
  have hhp : s'.heap = H := by rw [hA]; exact hT
  have hW0 : s.WarmedH s'.vm := by rw [hvm]; exact State.WarmedH.refl s
  have hat' : ∀ w ∈ vx_atS own ic cls names, w.before args s' = true := fun w hw => vx_ot_at hW0 hvm.symm (hgood w (List.mem_cons_of_mem _ (List.mem_cons_of_mem _ hw))) (hat w hw)
  have hk' : (Cond.classLink own ik cls).before args s' = true := vx_ot_at hW0 hvm.symm (hgood _ List.mem_cons_self) hk
  have hini' : (Cond.initialized cls).before args s' = true := vx_ot_at hW0 hvm.symm (hgood _ (List.mem_cons_of_mem _ List.mem_cons_self)) hini
  have hU' : vx_Zq Bundle.tN "UNASSIGNED_STACK" Bundle.steD A s' s'.heap := by rw [hhp]; exact vx_Zq.moved hW0.alike (hU.kept hS.2.1)
  have hN' : vx_Zq Bundle.tN "SUPPRESSED_SENTINEL" Bundle.listD A s' s'.heap := by rw [hhp]; exact vx_Zq.moved hW0.alike (hN.kept hS.2.1)
  have h : ∀ w ∈ Bundle.ownAtoms own ic cls names, w.before args s' = true := vx_own hat' (vx_isRefq hU'.1) (vx_isRefq hN'.1) hU'.2.word hN'.2.word
  have hown' : s'.vm.findClass own = some m.cls := by rw [hvm]; exact hown
  have hins : (Cond.instantiable cls 6).before args s' = true := h _ (by simp [Bundle.ownAtoms])
  obtain ⟨vm₁, cX, kX, hfX, hkX, -, -, X₁, st1⟩ := Y.newCold hexec (own := own) (C := cls) (index := ik) (n := 6) hown' hk' hins hini'
    (g := F0 m pc ls rest) rfl (by rw [hb]; exact d0) (Nat.le_refl _) (Nat.le_refl _)
  generalize hT1 : (T.setVm vm₁).pushCell { cls := cX, slots := kX.instanceTypes.map defaultValue, vm := .none } = T1 at X₁ st1
  have hcat : (Value.ref T.heap.size).category = 1 := rfl
  have hcellA : T1.heap[T.heap.size]? = some (freshCell cX kX) := by rw [← hT1]; exact State.heap_pushCell_size _ _
  have d3' : decode c.code (pc + 3) = .ok (.dup, 1) := by rw [hb]; exact d3
  have d4' : decode c.code (pc + 4) = .ok (.ldc is, 2) := by rw [hb]; exact d4
  have hstr' : vk_R own is text sa s' := vk_R.warm hW0 hstr
  obtain ⟨U, hsteps, hrun, hend, hW, hsame, ce, hce, hO⟩ := X₁.ctorThrowS hexec htr (own := own) (cls := cls) (names := names) (ic := ic) hown' hcls hnames h (fun x hx => nomatch hx) hfX hkX hcellA (by rw [hhp, hT]; exact Nat.le_refl _) (msg := .ref sa) rfl
    (g := { method := m, pc := pc + 6, locals := ls, stack := .ref sa :: .ref T.heap.size :: .ref T.heap.size :: rest, locked := none }) rfl hsize rfl rfl (rest := rest) rfl
    (by rw [hb]; exact d6) (by rw [hb]; exact d9) hout hRframes (by simp only [List.map_cons, List.sum_cons, hcat]; omega) hlocks
  obtain ⟨f1, f2⟩ := vx_frame hsame
  rw [hhp] at f1 f2
  have hWs : s.WarmedH U.vm := State.WarmedH.trans hW0 hW
  have hcl : s.vm.findClass cls = some ce.cls := by
    have h9 := hO.cls
    rw [hvm] at h9
    exact h9
  have hall : s.sameButNew ({ U with vm := s.vm } : State) locs mc ms := by
    subst hA
    obtain ⟨e1, e2⟩ := hsame
    rw [State.setFrames_setFrames] at e1
    have h2 : (T.setVm s.vm).sameButNew ({ U with vm := s.vm } : State) [] (0 + 1) (0 + 6) := ⟨e1, e2⟩
    have h3 := X.same.trans h2
    rw [List.append_nil] at h3
    exact h3.mono hc hs
  refine ⟨U, ?_, .threw T.heap.size, hrun, hend, Or.inr ⟨T.heap.size, rfl, cls, ce, locs, hx U hWs.alike f1 (fun q hq => f2 q hq (fun z hz => nomatch hz)), hce, hO.vm, hcl, hWs, hall, hf⟩⟩
  refine st1 _ ?_
  show Steps p.tables e below (T1.setTop { method := m, pc := pc + 3, locals := ls, stack := .ref T.heap.size :: rest, locked := none }) _
  jvm_step X₁.here [X₁.here.top, hexec, d3', Value.category]
  exact X₁.ldcString hexec (own := own) (text := text) (index := is) (a := sa) hown' hstr'.1 hstr'.2
    (g := { method := m, pc := pc + 4, locals := ls, stack := .ref T.heap.size :: .ref T.heap.size :: rest, locked := none }) rfl d4' _ hsteps
/-- 'throw new E("text")', the text by a wide index -/
theorem vx_throwSW {cc : ByteArray} {pc : Nat} (hexec : p.tables.exec = Jvm.exec) (hb : c.code = cc) (hl : l.stackTraces = false) {own cls text : String} {names : List String} {ik is ic mc ms sa : Nat} {A : Nat → Prop}
    (hown : s.vm.findClass own = some m.cls) (hcls : Bundle.fit cls = true) (hnames : ∀ n ∈ names, Bundle.fit n = true)
    (hk : (Cond.classLink own ik cls).before args s = true) (hini : (Cond.initialized cls).before args s = true) (hstr : vk_R own is text sa s) (hat : ∀ w ∈ vx_atS own ic cls names, w.before args s = true)
    (hgood : ∀ w ∈ Cond.classLink own ik cls :: Cond.initialized cls :: vx_atS own ic cls names, vx_ot w = true)
    (hU : vx_Zq Bundle.tN "UNASSIGNED_STACK" Bundle.steD A s s.heap) (hN : vx_Zq Bundle.tN "SUPPRESSED_SENTINEL" Bundle.listD A s s.heap) (hS : va_S A s.heap H locs) (hsize : ls.size = c.maxLocals)
    (d0 : decode cc pc = .ok (.new ik, 3)) (d3 : decode cc (pc + 3) = .ok (.dup, 1)) (d4 : decode cc (pc + 4) = .ok (.ldc_w is, 3)) (d7 : decode cc (pc + 7) = .ok (.invokespecial ic, 3)) (d10 : decode cc (pc + 10) = .ok (.athrow, 1))
    (hout : ∀ x ∈ c.exceptionTable.toList, covers x (pc + 10) = false)
    (hRframes : names.length + 3 < R.frames) (hRlocals : (rest.map fun v => v.category).sum + (13 * (names.length + 1) + 43) ≤ R.locals) (hRcells : cells + 1 ≤ R.cells) (hRslots : slots + 6 ≤ R.slots) (hlocks : meth.locks = false)
    (hx : ∀ t : State, s.vm.Alike t.vm → H.size ≤ t.heap.size → (∀ q : Nat, q < H.size → t.heap[q]? = H[q]?) → XC cls s t)
    (hf : ∀ z ∈ locs, free z.base) (hc : cells + 1 ≤ mc) (hs : slots + 6 ≤ ms) :
    W p l e R s m args below meth c H locs cells slots (vx_MQ below Qc XC args s mc ms free) (F0 m pc ls rest) := by
  intro T hT X
  have htr : e.platform.stackTraces = false := (show e.platform.stackTraces = l.stackTraces by rw [X.admits.platform]).trans hl
  have Y := vx_rebase X (R' := { frames := R.frames, locals := R.locals, cells := 1, slots := 6 }) (Nat.le_refl _) (Nat.le_refl _) hRcells hRslots
  obtain ⟨s', hA⟩ : ∃ z, z = (T.setVm s.vm).setFrames (.invoking m args :: below) := ⟨_, rfl⟩
  rw [← hA] at Y
  have hvm : s'.vm = s.vm := by rw [hA]; rfl
  have hhp : s'.heap = H := by rw [hA]; exact hT
  have hW0 : s.WarmedH s'.vm := by rw [hvm]; exact State.WarmedH.refl s
  have hat' : ∀ w ∈ vx_atS own ic cls names, w.before args s' = true := fun w hw => vx_ot_at hW0 hvm.symm (hgood w (List.mem_cons_of_mem _ (List.mem_cons_of_mem _ hw))) (hat w hw)
  have hk' : (Cond.classLink own ik cls).before args s' = true := vx_ot_at hW0 hvm.symm (hgood _ List.mem_cons_self) hk
  have hini' : (Cond.initialized cls).before args s' = true := vx_ot_at hW0 hvm.symm (hgood _ (List.mem_cons_of_mem _ List.mem_cons_self)) hini
  have hU' : vx_Zq Bundle.tN "UNASSIGNED_STACK" Bundle.steD A s' s'.heap := by rw [hhp]; exact vx_Zq.moved hW0.alike (hU.kept hS.2.1)
  have hN' : vx_Zq Bundle.tN "SUPPRESSED_SENTINEL" Bundle.listD A s' s'.heap := by rw [hhp]; exact vx_Zq.moved hW0.alike (hN.kept hS.2.1)
  have h : ∀ w ∈ Bundle.ownAtoms own ic cls names, w.before args s' = true := vx_own hat' (vx_isRefq hU'.1) (vx_isRefq hN'.1) hU'.2.word hN'.2.word
  have hown' : s'.vm.findClass own = some m.cls := by rw [hvm]; exact hown
  have hins : (Cond.instantiable cls 6).before args s' = true := h _ (by simp [Bundle.ownAtoms])
  obtain ⟨vm₁, cX, kX, hfX, hkX, -, -, X₁, st1⟩ := Y.newCold hexec (own := own) (C := cls) (index := ik) (n := 6) hown' hk' hins hini'
    (g := F0 m pc ls rest) rfl (by rw [hb]; exact d0) (Nat.le_refl _) (Nat.le_refl _)
  generalize hT1 : (T.setVm vm₁).pushCell { cls := cX, slots := kX.instanceTypes.map defaultValue, vm := .none } = T1 at X₁ st1
  have hcat : (Value.ref T.heap.size).category = 1 := rfl
  have hcellA : T1.heap[T.heap.size]? = some (freshCell cX kX) := by rw [← hT1]; exact State.heap_pushCell_size _ _
  have d3' : decode c.code (pc + 3) = .ok (.dup, 1) := by rw [hb]; exact d3
  have d4' : decode c.code (pc + 4) = .ok (.ldc_w is, 3) := by rw [hb]; exact d4
  have hstr' : vk_R own is text sa s' := vk_R.warm hW0 hstr
  obtain ⟨U, hsteps, hrun, hend, hW, hsame, ce, hce, hO⟩ := X₁.ctorThrowS hexec htr (own := own) (cls := cls) (names := names) (ic := ic) hown' hcls hnames h (fun x hx => nomatch hx) hfX hkX hcellA (by rw [hhp, hT]; exact Nat.le_refl _) (msg := .ref sa) rfl
    (g := { method := m, pc := pc + 7, locals := ls, stack := .ref sa :: .ref T.heap.size :: .ref T.heap.size :: rest, locked := none }) rfl hsize rfl rfl (rest := rest) rfl
    (by rw [hb]; exact d7) (by rw [hb]; exact d10) hout hRframes (by simp only [List.map_cons, List.sum_cons, hcat]; omega) hlocks
  obtain ⟨f1, f2⟩ := vx_frame hsame
  rw [hhp] at f1 f2
  have hWs : s.WarmedH U.vm := State.WarmedH.trans hW0 hW
  have hcl : s.vm.findClass cls = some ce.cls := by
    have h9 := hO.cls
    rw [hvm] at h9
    exact h9
  have hall : s.sameButNew ({ U with vm := s.vm } : State) locs mc ms := by
    subst hA
    obtain ⟨e1, e2⟩ := hsame
    rw [State.setFrames_setFrames] at e1
    have h2 : (T.setVm s.vm).sameButNew ({ U with vm := s.vm } : State) [] (0 + 1) (0 + 6) := ⟨e1, e2⟩
    have h3 := X.same.trans h2
    rw [List.append_nil] at h3
    exact h3.mono hc hs
  refine ⟨U, ?_, .threw T.heap.size, hrun, hend, Or.inr ⟨T.heap.size, rfl, cls, ce, locs, hx U hWs.alike f1 (fun q hq => f2 q hq (fun z hz => nomatch hz)), hce, hO.vm, hcl, hWs, hall, hf⟩⟩
  refine st1 _ ?_
  show Steps p.tables e below (T1.setTop { method := m, pc := pc + 3, locals := ls, stack := .ref T.heap.size :: rest, locked := none }) _
  jvm_step X₁.here [X₁.here.top, hexec, d3', Value.category]
  exact X₁.ldcStringW hexec (own := own) (text := text) (index := is) (a := sa) hown' hstr'.1 hstr'.2
    (g := { method := m, pc := pc + 4, locals := ls, stack := .ref T.heap.size :: .ref T.heap.size :: rest, locked := none }) rfl d4' _ hsteps
end Ends
section Bodies
variable {l : Launch}
theorem vx_ofW {y : MethodName} {ws ws' : List Cond} {rm : Room} {Pc : Array Value → State → Prop} {Qc : Array Value → State → Outcome → State → Prop} {XC : String → State → State → Prop} {mc ms : Nat} {free : Addr → Prop} {cc : ByteArray} {maxL : Nat} {ret : Option FieldType}
    (hy : plainName y.cls = true) (hw : ws = Cond.code y cc maxL ret :: ws')
    (body : ∀ p e s m args below meth c s₁, BodyLoose p l y (headSpec ws rm) cc maxL ret e s m args below meth c s₁ → c.maxLocals = maxL → (∀ x ∈ c.exceptionTable.toList, False) → Pc args s →
      W p l e (headSpec ws rm).room s m args below meth c s.heap [] 0 0 (vx_MQ below Qc XC args s mc ms free) (entryFrame m args maxL)) : vx_Met l y ws rm Pc Qc XC mc ms free := by
  refine MetFree.of_bodyS (code := cc) (maxLocals := maxL) (ret := ret) hy ?_ ?_
  · intro args s m h hn
    obtain ⟨meth, c, h1, h2, h3, h4, h5, h6, -, -⟩ := Cond.code_spec hn (atoms_spec (ws := ws) h _ (by rw [hw]; exact List.mem_cons_self))
    exact ⟨meth, c, h1, h2, h3, h4, h5, h6⟩
  · intro p e s m args below meth c s₁ B hml hP _
    have hh0 : s₁.heap = s.heap := by rw [B.state]; rfl
    have ht : ∀ x ∈ c.exceptionTable.toList, False := by
      obtain ⟨meth9, c9, h1, h2, -, -, -, -, h7, -⟩ := Cond.code_spec B.named (atoms_spec (ws := ws) B.pre _ (by rw [hw]; exact List.mem_cons_self))
      cases Option.some.inj (h1.symm.trans B.method)
      cases Option.some.inj (h2.symm.trans (Stand.of_body B).code)
      intro x hx
      rw [Array.isEmpty_iff.mp h7] at hx
      cases hx
    obtain ⟨t, a1, o, b1, b2, b3⟩ := body p e s m args below meth c s₁ B hml ht hP s₁ hh0 (Stand.of_body B)
    exact ⟨t, o, a1, b1, b2, b3⟩
/-- the table of a body with handlers -/
theorem vx_table {p : Program} {x y : MethodName} {S : Spec} {cc bytes : ByteArray} {maxL maxL' : Nat} {ret ret' : Option FieldType} {e : Env} {s s₁ : State} {m : MethodId} {args : Array Value} {below : List Frame} {meth : Method} {c : Code} {hh : List (Nat × Nat × Nat × Nat)}
    (B : BodyLoose p l y S cc maxL ret e s m args below meth c s₁) (h : (Cond.codeWith y bytes maxL' ret' hh).before args s = true) : c.exceptionTable.toList = tableOf hh := by
  obtain ⟨m9, meth9, c9, hn9, h1, h2, -, -, h6, -⟩ := Cond.codeWith_spec h
  cases Option.some.inj (hn9.symm.trans B.named)
  cases Option.some.inj (h1.symm.trans B.method)
  cases Option.some.inj (h2.symm.trans (Stand.of_body B).code)
  rw [← h6, table_eq]
end Bodies
end VXA
/-! ===== END ===== -/
/-! ===== BEGIN a static call of a method with an exception table ===== -/
section VXS
variable {p : Program} {l : Launch} {e : Env} {R : Room} {s : State} {m : MethodId} {args : Array Value} {below : List Frame} {meth : Method} {c : Code} {T : State} {H : Heap} {locs : List Loc} {cells slots : Nat}
abbrev vx_CSW (R : Room) (s : State) (args : Array Value) (own : String) (index : Nat) (y : MethodName) (bytes : ByteArray) (maxL : Nat) (ret : Option FieldType) (hh : List (Nat × Nat × Nat × Nat)) (ws : List Cond) (rm : Room) (mc ms n : Nat) : Prop :=
  (rm.cells = mc ∧ rm.slots = ms ∧ rm.frames + 1 ≤ R.frames ∧ 8 + (maxL + 11) + rm.locals ≤ R.locals ∧ (∀ w ∈ ws, ∀ (a' : Array Value) (U : State), s.WarmedH U.vm → w.before a' U = true) ∧ Cond.codeWith y bytes maxL ret hh ∈ ws) ∧
  (Cond.codeWith y bytes maxL ret hh).before args s = true ∧ (Cond.initialized y.cls).before args s = true ∧ (y.cls ≠ "java/lang/invoke/MethodHandle" ∧ y.cls ≠ "java/lang/invoke/VarHandle") ∧
  (∀ sig, parseMethodDescriptor y.desc = some sig → n = sig.parameters.length) ∧ (Cond.methodLink own index y).before args s = true ∧ (Cond.static y).before args s = true
theorem vx_cwSW {own : String} {index maxL mc ms : Nat} {y : MethodName} {bytes : ByteArray} {ret : Option FieldType} {hh : List (Nat × Nat × Nat × Nat)} {Ts ws ws' : List Cond} {rm : Room} (n : Nat) (ht : ∀ w ∈ Ts, w.before args s = true) (hT : GoodIn Ts (va_wsS own index y ws)) (hw : ws = Cond.codeWith y bytes maxL ret hh :: ws') (hrc : rm.cells = mc) (hrs : rm.slots = ms)
    (hd : y.cls ≠ "java/lang/invoke/MethodHandle" ∧ y.cls ≠ "java/lang/invoke/VarHandle" ∧ (parseMethodDescriptor y.desc).map (fun d => d.parameters.length) = some n) (hR : rm.frames + 1 ≤ R.frames ∧ 8 + (maxL + 11) + rm.locals ≤ R.locals) :
    vx_CSW R s args own index y bytes maxL ret hh ws rm mc ms n := by
  have ok : ∀ w ∈ va_wsS own index y ws, w.before args s = true := fun w h => ht w (hT w h).1
  have hG : GoodIn Ts ws := fun w h => hT w (by unfold va_wsS; exact List.mem_append_right _ h)
  have hc : Cond.codeWith y bytes maxL ret hh ∈ ws := by rw [hw]; exact List.mem_cons_self
  refine ⟨⟨hrc, hrs, hR.1, hR.2, pay_in ht hG, hc⟩, ht _ (hG _ hc).1, ok _ (by simp [va_wsS]), ⟨hd.1, hd.2.1⟩, fun sig h => ?_, ok _ (by simp [va_wsS]), ok _ (by simp [va_wsS])⟩
  have h2 := hd.2.2
  rw [h] at h2
  exact (Option.some.inj h2).symm
theorem vx_callSW (X : Stand p l e R s m args below meth c T locs cells slots) (hexec : p.tables.exec = Jvm.exec) {own : String} {index : Nat} {y : MethodName} {bytes : ByteArray} {maxL : Nat} {ret : Option FieldType} {hh : List (Nat × Nat × Nat × Nat)}
    (hown : s.vm.findClass own = some m.cls) (hlink : (Cond.methodLink own index y).before args s = true) (hstat : (Cond.static y).before args s = true) (hinit : (Cond.initialized y.cls).before args s = true)
    (hcode : (Cond.codeWith y bytes maxL ret hh).before args s = true) (hy : y.cls ≠ "java/lang/invoke/MethodHandle" ∧ y.cls ≠ "java/lang/invoke/VarHandle")
    {W9 : Nat} {Pre : Pt → Array Value → Prop} {Post : Pt → Array Value → Option Value → Pt → Prop} (hK : Back l R p e below s args y 3 W9 Pre Post)
    {g : JFrame} (hg : g.method = m) (hsize : g.locals.size = c.maxLocals) {argsL rest : List Value} (hlen : ∀ sig, parseMethodDescriptor y.desc = some sig → argsL.length = sig.parameters.length)
    (hstack : g.stack = argsL.reverse ++ rest) (hW : 2 * g.monitorRoom + (rest.map fun v => v.category).sum ≤ W9) (hdg : decode c.code g.pc = .ok (.invokestatic index, 3))
    (hpre : ∀ vm₁, s.WarmedH vm₁ → Pre ⟨T.setVm vm₁, locs, cells, slots⟩ argsL.toArray) :
    ∃ (v : Option Value) (vm₁ : Vm) (B : Pt), s.WarmedH vm₁ ∧ Stand p l e R s m args below meth c B.U B.locs B.cells B.slots ∧ Post ⟨T.setVm vm₁, locs, cells, slots⟩ argsL.toArray v B ∧
      ∀ target, Steps p.tables e below (B.U.setTop { g with pc := g.pc + 3, stack := v.toList ++ rest }) target → Steps p.tables e below (T.setTop g) target := by
  obtain ⟨mk, methM, cM, hnamed, hmethM, -, -, -, -, -, -, hsigM⟩ := Cond.codeWith_spec hcode
  have hstatic : methM.isStatic = true := Cond.static_spec hnamed hmethM hstat
  obtain ⟨kP, hkP, -⟩ := className_of_methodNamed hnamed
  have hinitP : kP.init = .initialized := Cond.initialized_spec (findClass_of_methodNamed hnamed) hkP hinit
  obtain ⟨vm₁, X₁, hstep₁⟩ := X.invokestatic hexec hown hlink hnamed hmethM hstatic hkP hinitP hy (g := g) hg (argsL := argsL) (rest := rest) (hlen _ hsigM) hstack hdg
  obtain ⟨v, B, X', hpost, hsteps⟩ := hK m meth c ⟨T.setVm vm₁, locs, cells, slots⟩ { g with stack := rest } (.invokestatic index) mk argsL.toArray X₁ hg hsize hdg hW (X₁.named hnamed) (hpre vm₁ X₁.warmed)
  exact ⟨v, vm₁, B, X₁.warmed, X', hpost, fun target h => hstep₁ _ fun acts => by rw [doInvoke_state]; exact hsteps.trans h⟩
theorem vx_runSW {y : MethodName} {bytes cc : ByteArray} {maxL nL mc ms n index : Nat} {ret : Option FieldType} {hh : List (Nat × Nat × Nat × Nat)} {ws : List Cond} {rm : Room} {Pc : Array Value → State → Prop} {Qc : Array Value → State → Outcome → State → Prop} {free : Addr → Prop} {Ts : List Cond} {own : String} {As rest : List Value} {g : JFrame}
    (S : CallFix p m c cc nL s args Ts own) (hM : Met l y ws rm Pc Qc mc ms free) (cw : vx_CSW R s args own index y bytes maxL ret hh ws rm mc ms n) (hp : PreS s H Pc As)
    (hg : g.method = m) (hn : As.length = n) (hsize : g.locals.size = nL) (hstack : g.stack = As.reverse ++ rest) (hW : 2 * g.monitorRoom + (rest.map fun v => v.category).sum ≤ 8) (hdg : decode cc g.pc = .ok (.invokestatic index, 3)) (hf : cells + mc ≤ R.cells ∧ slots + ms ≤ R.slots) :
    va_Run p l e R s m args below meth c H locs cells slots mc ms g rest (Qc As.toArray) (free) := by
  obtain ⟨⟨hrc, hrs, hfr, hlo, hws, hcw⟩, hcode, hini, hy, hlen, hl, hstt⟩ := cw
  have hK : Back l R p e below s args y 3 8 (PreOf R mc ms Pc) (PostOf Qc mc ms free) := va_backW (hh := hh) (bytes := bytes) (maxL := maxL) (ret := ret) hM hp.1 hrc hrs hfr hlo hws hcw (fun a' U hW => word_at hW (Or.inl (by first | rfl | simp [Cond.onTables, Cond.keeps, Cond.steady])) hini)
  obtain ⟨hx, hb, hml, ho, -⟩ := S
  intro T hT X
  obtain ⟨v, vm₁, ⟨U', l2, c2, s2⟩, hW₁, X', ⟨g', mk, t, L, e1, e2, hq, h1, hL, h2, h3⟩, st⟩ := vx_callSW X hx (hh := hh) (bytes := bytes) (maxL := maxL) (ret := ret) ho hl hstt hini hcode hy hK hg (hsize.trans hml.symm) (argsL := As) (rest := rest) (fun sig h => hn.trans (hlen sig h)) hstack hW (by rw [hb]; exact hdg)
    (fun vm₁ hW₁ => ⟨hf.1, hf.2, hp.2 (T.setVm vm₁) hT hW₁⟩)
  dsimp only [Pt.U, Pt.locs, Pt.cells, Pt.slots] at X' e1 e2 h1 h2 h3 st
  subst h1; subst h2; subst h3
  exact ⟨v, (T.setVm vm₁).calling g' mk As.toArray, t, U', L, hT, X', hL, e1, e2, hq, st⟩
/-- not caught here, past rows that name other classes: it goes on to the caller -/
theorem vx_outP {p : Program} {l : Launch} {e : Env} {R : Room} {s : State} {m : MethodId} {args : Array Value} {below : List Frame} {meth : Method} {c : Code} {H : Heap} {locs : List Loc} {cells slots : Nat} {free : Addr → Prop} {ls : Array Slot} {rest : List Value} {Qc : Array Value → State → Outcome → State → Prop} {XC : String → State → State → Prop}
    {pc : Nat} {own E : String} {ce : Cell} {q : Addr} {mc ms : Nat} (hown : s.vm.findClass own = some m.cls) (hlocks : meth.locks = false)
    (hpass : ∀ z ∈ c.exceptionTable.toList, covers z pc = false ∨ (z.catchType ≠ 0 ∧ ∃ nm : String, (Cond.classLink own z.catchType nm).before args s = true ∧ va_Nc E nm s)) (hcell : H[q]? = some ce) (hv : ce.vm = .none) (hcl : s.vm.findClass E = some ce.cls)
    (hx : ∀ t : State, t.heap = H → s.vm.Alike t.vm → XC E s t) (hf : ∀ z ∈ locs, free z.base) (hc : cells ≤ mc) (hs : slots ≤ ms) :
    vx_W p l e R s m args below meth c H locs cells slots (vx_MQ below Qc XC args s mc ms free) (F0 m pc ls rest) q := by
  intro T hT X
  have hpl : e.platform.magicAccessors = ({} : Platform).magicAccessors := by rw [X.admits.platform]
  obtain ⟨vm', hW', X', st⟩ := X.outThrough hlocks q (g := F0 m pc ls rest) rfl rfl rfl (cell := ce) (by rw [hT]; exact hcell) (by rw [hv]; rfl)
    (by obtain ⟨k9, h9, -⟩ := Vm.findClass_spec hcl; exact ⟨k9, h9⟩) (fun z hz => by
      rcases hpass z hz with h | ⟨hz0, nm, hl1, hn1⟩
      · exact Or.inl h
      · obtain ⟨c6, hc6, hcl6⟩ := Cond.classLink_spec hown hl1 e.platform hpl
        obtain ⟨a8, b8, h1, h2, h3⟩ := hn1
        cases Option.some.inj (h1.symm.trans hcl)
        cases Option.some.inj (h2.symm.trans hc6)
        exact Or.inr ⟨hz0, _, hcl6, h3⟩)
  obtain ⟨g₀, hfr⟩ := X'.frames_eq
  have hcell9 : ((T.setVm vm').setFrames (.throwing q :: below)).heap[q]? = some ce := by
    show T.heap[q]? = some ce
    rw [hT]; exact hcell
  have hend : Ended ((T.setVm vm').setFrames (.throwing q :: below)) below (.threw q) := State.frames_setFrames _ (State.cur_lt_of_frames hfr)
  refine ⟨(T.setVm vm').setFrames (.throwing q :: below), ?_, .threw q, X'.here.running, hend, Or.inr ⟨q, rfl, E, ce, locs, hx _ hT (X'.ends _).1.alike, hcell9, hv, hcl, (X'.ends _).1, (X'.ends _).2.mono hc hs, hf⟩⟩
  rw [X.pushThrowing_eq]
  exact st
/-- a thing of a world lies in the heap -/
theorem vx_lt {D : va_G} {cl : List vw_C} {ws : va_W} {H1 : Heap} (h : va_P D cl ws H1) {k : Nat} {q : Nat × va_E} (hk : ws[k]? = some q) : q.1 < H1.size := (h k q hk).lt
end VXS
/-! ===== END ===== -/
/-! ===== BEGIN methods with a table of their own: called by a name, returning or throwing ===== -/
section VXH
/-! vx_backW, vx_callVX, vx_callSX, vx_callVW, vx_runVW, vx_runVX, vx_runSX, vx_ofWH follow the same proofs as their sisters above (Free/Laws.lean, Shelf42/LK1.lean); vx_outP calls Shelf42/NT130.lean (outThrough). -/
section
variable {l : Launch} {R : Room} {p : Program} {e : Env} {below : List Frame} {s : State} {sargs : Array Value} {y : MethodName} {len W9 : Nat}
theorem vx_backW {ws : List Cond} {rm : Room} {Pc : Array Value → State → Prop} {Qc : Array Value → State → Outcome → State → Prop} {XC : String → State → State → Prop} {mc ms : Nat} {free : Addr → Prop} {bytes : ByteArray} {maxL : Nat} {ret : Option FieldType} {hh : List (Nat × Nat × Nat × Nat)}
    (hM : vx_Met l y ws rm Pc Qc XC mc ms free) (hblind : FrameBlind Pc) (hrc : rm.cells = mc) (hrs : rm.slots = ms)
    (hframes : rm.frames + 1 ≤ R.frames) (hlocals : W9 + (maxL + 11) + rm.locals ≤ R.locals)
    (hws : ∀ w ∈ ws, ∀ a' U, s.WarmedH U.vm → w.before a' U = true) (hcode : Cond.codeWith y bytes maxL ret hh ∈ ws) (hinit : ∀ a' U, s.WarmedH U.vm → (Cond.initialized y.cls).before a' U = true) :
    vx_Back l R p e below s sargs y len W9 (PreOf R mc ms Pc) (PostOf Qc mc ms free) (vx_Post XC mc ms free) := by
  intro m meth c A g ig mk a X hg hsize hdg hW hn hp
  have h1 : (headSpec ws rm).pre.before a A.U = true := atoms_intro fun w hw => hws w hw _ _ X.warmed
  have h2 : (Cond.codeWith y bytes maxL ret hh).before a A.U = true := hws _ hcode _ _ X.warmed
  have h3 : (Cond.initialized y.cls).before a A.U = true := hinit _ _ X.warmed
  have h4 : A.cells + (headSpec ws rm).room.cells ≤ R.cells := by rw [show (headSpec ws rm).room.cells = mc from hrc]; exact hp.1
  have h5 : A.slots + (headSpec ws rm).room.slots ≤ R.slots := by rw [show (headSpec ws rm).room.slots = ms from hrs]; exact hp.2.1
  have hPc : Pc a (A.U.calling g mk a) := hblind _ _ _ _ hp.2.2
  obtain ⟨U, Ls, c0, s0⟩ := A
  dsimp only [Pt.U, Pt.locs, Pt.cells, Pt.slots] at h1 h2 h3 h4 h5 X hn hPc ⊢
  obtain ⟨m9, methY, cY, hn9, hmY, hcY, -, hlY, -⟩ := Cond.codeWith_spec h2
  cases Option.some.inj (hn9.symm.trans hn)
  obtain ⟨kY, hkY, -⟩ := className_of_methodNamed hn
  have hinitY : kY.init = .initialized := Cond.initialized_spec (findClass_of_methodNamed hn) hkY h3
  have h : At U g.method c below := by rw [hg]; exact X.here
  have hlocals9 : W9 + (maxL + 11) + (headSpec ws rm).room.locals ≤ R.locals := hlocals
  have happ : (headSpec ws rm).appliesLoose y e.platform (U.calling g mk a) = true :=
    Spec.appliesLoose_calling (g := g) h hdg hn hkY hinitY
      (X.room_calling (g := g) (R' := (headSpec ws rm).room) hsize hmY hcY hframes (by rw [hlY]; omega) h4 h5) h1
  obtain ⟨mid, hmid⟩ := h.above
  have hfr : (U.setTop g).frames = (.java g :: mid) ++ below := by rw [State.frames_setTop' g h.top, hmid]; rfl
  obtain ⟨o, s₂, hsteps, -, hend, hq⟩ := Steps.callFree hM p X.admits X.cas X.clock (acts := []) hfr happ hPc trivial
  have hq' : vx_Q Qc XC mc ms free a (U.calling g mk a) o s₂ := hq
  rw [State.frames_setTop' g h.top] at hend
  obtain ⟨g₀, hg0⟩ := Option.isSome_iff_exists.mp h.top
  obtain ⟨r, hr⟩ := State.topJava?_eq_some.mp hg0
  have hr' : (({ U with heap := s₂.heap, slotsUsed := s₂.slotsUsed } : State).setVm s₂.vm).frames = .java g₀ :: r := hr
  rcases hq' with ⟨hqc, L, hfe, hL⟩ | ⟨q, rfl, E, ce, L, hx, hce, hcv, hcl, hW₂, hsm, hL⟩
  · obtain ⟨⟨v, rfl⟩, hW₂, e2, q2, q3, q4, q5, q6⟩ := id hfe
    have e3 : s₂ = ({ (U.calling g mk a).setFrames s₂.frames with heap := s₂.heap, slotsUsed := s₂.slotsUsed } : State).setVm s₂.vm := by
      have : s₂ = ({ s₂ with vm := (U.calling g mk a).vm } : State).setVm s₂.vm := rfl
      rw [e2] at this
      exact this
    obtain ⟨c₂, i₂, len₂, hc₂, hd₂, hf₂⟩ := hend
    have hW' : U.WarmedH s₂.vm := hW₂
    have hcc : c₂ = c := by
      have h1 : s₂.code? g.method = U.code? g.method := by
        rw [State.code?_eq, State.code?_eq, hW'.alike.method?]
      exact Option.some.inj (hc₂.symm.trans (h1.trans h.code))
    subst hcc
    have hlen : len₂ = len := by rw [hdg] at hd₂; cases hd₂; rfl
    subst hlen
    have hs₂ : s₂ = (({ U with heap := s₂.heap, slotsUsed := s₂.slotsUsed } : State).setVm s₂.vm).setTop { g with pc := g.pc + len₂, stack := v.toList ++ g.stack } := by
      refine e3.trans ?_
      rw [hf₂, State.calling_eq h.top, State.setFrames_setFrames, State.setTop_of_frames _ hr', hr]
      rfl
    have hsame : U.sameButNew ({ U with heap := s₂.heap, slotsUsed := s₂.slotsUsed } : State) L mc ms := by
      refine ⟨?_, q2, q3, q4, q5, q6⟩
      obtain ⟨t, ht, -⟩ := State.frames_cons hr
      show ({ U with heap := s₂.heap, slotsUsed := s₂.slotsUsed } : State) = { U.setFrames U.frames with heap := s₂.heap, slotsUsed := s₂.slotsUsed }
      rw [State.setFrames_self ht]
    subst hg
    refine Or.inl ⟨v, ⟨(({ U with heap := s₂.heap, slotsUsed := s₂.slotsUsed } : State).setVm s₂.vm), Ls ++ L, c0 + mc, s0 + ms⟩,
      ⟨X.admits, X.cas, X.clock, X.frames, X.room, X.hears, X.method, X.code, (X.here.setHeapUsed s₂.heap s₂.slotsUsed).setVm hW'.alike, X.tail, State.WarmedH.trans X.warmed hW', X.limits, X.bytes, X.same.trans (hsame.setVm s.vm)⟩,
      ⟨g, mk, s₂, L, rfl, rfl, hqc, rfl, hL, rfl, rfl⟩, ?_⟩
    show Steps p.tables e below _ ((({ U with heap := s₂.heap, slotsUsed := s₂.slotsUsed } : State).setVm s₂.vm).setTop { g with pc := g.pc + len₂, stack := v.toList ++ g.stack })
    rw [← hs₂]
    exact hsteps
  · obtain ⟨e2, q2, q3, q4, q5, q6⟩ := id hsm
    have e3 : s₂ = ({ (U.calling g mk a).setFrames s₂.frames with heap := s₂.heap, slotsUsed := s₂.slotsUsed } : State).setVm s₂.vm := by
      have : s₂ = ({ s₂ with vm := (U.calling g mk a).vm } : State).setVm s₂.vm := rfl
      rw [e2] at this
      exact this
    have hf₂ : s₂.frames = .throwing q :: .java g :: U.frames.tail := hend
    have hW' : U.WarmedH s₂.vm := hW₂
    have hs₂ : s₂ = ((({ U with heap := s₂.heap, slotsUsed := s₂.slotsUsed } : State).setVm s₂.vm).setTop g).pushFrame (.throwing q) := by
      refine e3.trans ?_
      rw [hf₂, State.calling_eq h.top, State.setFrames_setFrames, State.pushFrame, State.frames_setTop _ hr', State.setTop_of_frames _ hr', State.setFrames_setFrames, hr]
      rfl
    have hsame : U.sameButNew ({ U with heap := s₂.heap, slotsUsed := s₂.slotsUsed } : State) L mc ms := by
      refine ⟨?_, q2, q3, q4, q5, q6⟩
      obtain ⟨t, ht, -⟩ := State.frames_cons hr
      show ({ U with heap := s₂.heap, slotsUsed := s₂.slotsUsed } : State) = { U.setFrames U.frames with heap := s₂.heap, slotsUsed := s₂.slotsUsed }
      rw [State.setFrames_self ht]
    subst hg
    refine Or.inr ⟨q, ⟨(({ U with heap := s₂.heap, slotsUsed := s₂.slotsUsed } : State).setVm s₂.vm), Ls ++ L, c0 + mc, s0 + ms⟩,
      ⟨X.admits, X.cas, X.clock, X.frames, X.room, X.hears, X.method, X.code, (X.here.setHeapUsed s₂.heap s₂.slotsUsed).setVm hW'.alike, X.tail, State.WarmedH.trans X.warmed hW', X.limits, X.bytes, X.same.trans (hsame.setVm s.vm)⟩,
      ⟨g, mk, s₂, L, E, ce, rfl, rfl, hx, hce, hcv, hcl, rfl, hL, rfl, rfl⟩, ?_⟩
    show Steps p.tables e below _ (((({ U with heap := s₂.heap, slotsUsed := s₂.slotsUsed } : State).setVm s₂.vm).setTop g).pushFrame (.throwing q))
    rw [← hs₂]
    exact hsteps
end
variable {p : Program} {l : Launch} {e : Env} {R : Room} {s : State} {m : MethodId} {args : Array Value} {below : List Frame} {meth : Method} {c : Code} {T : State} {H : Heap} {locs : List Loc} {cells slots : Nat}
theorem vx_callVX (X : Stand p l e R s m args below meth c T locs cells slots) (hexec : p.tables.exec = Jvm.exec) {own C : String} {index : Nat} {y : MethodName} {bytes : ByteArray} {maxL : Nat} {ret : Option FieldType} {hh : List (Nat × Nat × Nat × Nat)}
    (hown : s.vm.findClass own = some m.cls) (hlink : (Cond.methodLink own index y).before args s = true) (hinst : (Cond.instanceMethod y).before args s = true) (hsel : (Cond.selects C y y).before args s = true)
    (hcode : (Cond.codeWith y bytes maxL ret hh).before args s = true) (hy : y.cls ≠ "java/lang/invoke/MethodHandle" ∧ y.cls ≠ "java/lang/invoke/VarHandle")
    {W9 : Nat} {Pre : Pt → Array Value → Prop} {Post : Pt → Array Value → Option Value → Pt → Prop} {PostX : Pt → Array Value → Addr → Pt → Prop} (hK : vx_Back l R p e below s args y 3 W9 Pre Post PostX)
    {b : Addr} {cellB : Cell} (hcell : T.heap[b]? = some cellB) (hobj : cellB.vm.isStatics = false) (hcls : s.vm.findClass C = some cellB.cls)
    {g : JFrame} (hg : g.method = m) (hsize : g.locals.size = c.maxLocals) {argsL rest : List Value} (hlen : ∀ sig, parseMethodDescriptor y.desc = some sig → argsL.length = sig.parameters.length)
    (hstack : g.stack = argsL.reverse ++ .ref b :: rest) (hW : 2 * g.monitorRoom + (rest.map fun v => v.category).sum ≤ W9) (hdg : decode c.code g.pc = .ok (.invokevirtual index, 3))
    (hpre : ∀ vm₁, s.WarmedH vm₁ → Pre ⟨T.setVm vm₁, locs, cells, slots⟩ (Value.ref b :: argsL).toArray) :
    (∃ (v : Option Value) (vm₁ : Vm) (B : Pt), s.WarmedH vm₁ ∧ Stand p l e R s m args below meth c B.U B.locs B.cells B.slots ∧ Post ⟨T.setVm vm₁, locs, cells, slots⟩ (Value.ref b :: argsL).toArray v B ∧
      ∀ target, Steps p.tables e below (B.U.setTop { g with pc := g.pc + 3, stack := v.toList ++ rest }) target → Steps p.tables e below (T.setTop g) target) ∨
    (∃ (q : Addr) (vm₁ : Vm) (B : Pt), s.WarmedH vm₁ ∧ Stand p l e R s m args below meth c B.U B.locs B.cells B.slots ∧ PostX ⟨T.setVm vm₁, locs, cells, slots⟩ (Value.ref b :: argsL).toArray q B ∧
      Steps p.tables e below (T.setTop g) ((B.U.setTop { g with stack := rest }).pushFrame (.throwing q))) := by
  obtain ⟨mk, methM, hnamed, hmethM, hstM, habM⟩ := Cond.instanceMethod_spec hinst
  obtain ⟨m8, methM', cM, hn8, hmethM', -, -, -, -, -, -, hsigM⟩ := Cond.codeWith_spec hcode
  cases Option.some.inj (hn8.symm.trans hnamed)
  cases hmethM.symm.trans hmethM'
  obtain ⟨c2, r2, m2, q1, q2, q3, q4, kP, hkP, hkPi⟩ := Cond.selects_spec hsel
  cases hcls.symm.trans q1
  cases (State.methodFound?_of_named hnamed hy).symm.trans q2
  cases hnamed.symm.trans q3
  have hselP : selectMethod e.platform s.vm cellB.cls mk = .method mk := by rw [Launch.admits_selectMethod X.admits]; exact q4
  obtain ⟨vm₁, X₁, hstep₁⟩ := X.invokevirtual hexec hown hlink hnamed hmethM hstM hkP hkPi hy (a := b) (cell := cellB) hcell
    (fun z h => by rw [h] at hobj; cases hobj) hselP hmethM habM hkP hkPi (g := g) hg (argsL := argsL) (rest := rest) (hlen _ hsigM) hstack hdg
  rcases hK m meth c ⟨T.setVm vm₁, locs, cells, slots⟩ { g with stack := rest } (.invokevirtual index) mk (Value.ref b :: argsL).toArray X₁ hg hsize hdg hW (X₁.named hnamed) (hpre vm₁ X₁.warmed) with ⟨v, B, X', hpost, hsteps⟩ | ⟨q, B, X', hpost, hsteps⟩
  · exact Or.inl ⟨v, vm₁, B, X₁.warmed, X', hpost, fun target h => hstep₁ _ fun acts => by rw [doInvoke_state]; exact hsteps.trans h⟩
  · exact Or.inr ⟨q, vm₁, B, X₁.warmed, X', hpost, hstep₁ _ fun acts => by rw [doInvoke_state]; exact hsteps⟩
theorem vx_callSX (X : Stand p l e R s m args below meth c T locs cells slots) (hexec : p.tables.exec = Jvm.exec) {own : String} {index : Nat} {y : MethodName} {bytes : ByteArray} {maxL : Nat} {ret : Option FieldType} {hh : List (Nat × Nat × Nat × Nat)}
    (hown : s.vm.findClass own = some m.cls) (hlink : (Cond.methodLink own index y).before args s = true) (hstat : (Cond.static y).before args s = true) (hinit : (Cond.initialized y.cls).before args s = true)
    (hcode : (Cond.codeWith y bytes maxL ret hh).before args s = true) (hy : y.cls ≠ "java/lang/invoke/MethodHandle" ∧ y.cls ≠ "java/lang/invoke/VarHandle")
    {W9 : Nat} {Pre : Pt → Array Value → Prop} {Post : Pt → Array Value → Option Value → Pt → Prop} {PostX : Pt → Array Value → Addr → Pt → Prop} (hK : vx_Back l R p e below s args y 3 W9 Pre Post PostX)
    {g : JFrame} (hg : g.method = m) (hsize : g.locals.size = c.maxLocals) {argsL rest : List Value} (hlen : ∀ sig, parseMethodDescriptor y.desc = some sig → argsL.length = sig.parameters.length)
    (hstack : g.stack = argsL.reverse ++ rest) (hW : 2 * g.monitorRoom + (rest.map fun v => v.category).sum ≤ W9) (hdg : decode c.code g.pc = .ok (.invokestatic index, 3))
    (hpre : ∀ vm₁, s.WarmedH vm₁ → Pre ⟨T.setVm vm₁, locs, cells, slots⟩ argsL.toArray) :
    (∃ (v : Option Value) (vm₁ : Vm) (B : Pt), s.WarmedH vm₁ ∧ Stand p l e R s m args below meth c B.U B.locs B.cells B.slots ∧ Post ⟨T.setVm vm₁, locs, cells, slots⟩ argsL.toArray v B ∧
      ∀ target, Steps p.tables e below (B.U.setTop { g with pc := g.pc + 3, stack := v.toList ++ rest }) target → Steps p.tables e below (T.setTop g) target) ∨
    (∃ (q : Addr) (vm₁ : Vm) (B : Pt), s.WarmedH vm₁ ∧ Stand p l e R s m args below meth c B.U B.locs B.cells B.slots ∧ PostX ⟨T.setVm vm₁, locs, cells, slots⟩ argsL.toArray q B ∧
      Steps p.tables e below (T.setTop g) ((B.U.setTop { g with stack := rest }).pushFrame (.throwing q))) := by
  obtain ⟨mk, methM, cM, hnamed, hmethM, -, -, -, -, -, -, hsigM⟩ := Cond.codeWith_spec hcode
  have hstatic : methM.isStatic = true := Cond.static_spec hnamed hmethM hstat
  obtain ⟨kP, hkP, -⟩ := className_of_methodNamed hnamed
  have hinitP : kP.init = .initialized := Cond.initialized_spec (findClass_of_methodNamed hnamed) hkP hinit
  obtain ⟨vm₁, X₁, hstep₁⟩ := X.invokestatic hexec hown hlink hnamed hmethM hstatic hkP hinitP hy (g := g) hg (argsL := argsL) (rest := rest) (hlen _ hsigM) hstack hdg
  rcases hK m meth c ⟨T.setVm vm₁, locs, cells, slots⟩ { g with stack := rest } (.invokestatic index) mk argsL.toArray X₁ hg hsize hdg hW (X₁.named hnamed) (hpre vm₁ X₁.warmed) with ⟨v, B, X', hpost, hsteps⟩ | ⟨q, B, X', hpost, hsteps⟩
  · exact Or.inl ⟨v, vm₁, B, X₁.warmed, X', hpost, fun target h => hstep₁ _ fun acts => by rw [doInvoke_state]; exact hsteps.trans h⟩
  · exact Or.inr ⟨q, vm₁, B, X₁.warmed, X', hpost, hstep₁ _ fun acts => by rw [doInvoke_state]; exact hsteps⟩
theorem vx_callVW (X : Stand p l e R s m args below meth c T locs cells slots) (hexec : p.tables.exec = Jvm.exec) {own C : String} {index : Nat} {y : MethodName} {bytes : ByteArray} {maxL : Nat} {ret : Option FieldType} {hh : List (Nat × Nat × Nat × Nat)}
    (hown : s.vm.findClass own = some m.cls) (hlink : (Cond.methodLink own index y).before args s = true) (hinst : (Cond.instanceMethod y).before args s = true) (hsel : (Cond.selects C y y).before args s = true)
    (hcode : (Cond.codeWith y bytes maxL ret hh).before args s = true) (hy : y.cls ≠ "java/lang/invoke/MethodHandle" ∧ y.cls ≠ "java/lang/invoke/VarHandle")
    {W9 : Nat} {Pre : Pt → Array Value → Prop} {Post : Pt → Array Value → Option Value → Pt → Prop} (hK : Back l R p e below s args y 3 W9 Pre Post)
    {b : Addr} {cellB : Cell} (hcell : T.heap[b]? = some cellB) (hobj : cellB.vm.isStatics = false) (hcls : s.vm.findClass C = some cellB.cls)
    {g : JFrame} (hg : g.method = m) (hsize : g.locals.size = c.maxLocals) {argsL rest : List Value} (hlen : ∀ sig, parseMethodDescriptor y.desc = some sig → argsL.length = sig.parameters.length)
    (hstack : g.stack = argsL.reverse ++ .ref b :: rest) (hW : 2 * g.monitorRoom + (rest.map fun v => v.category).sum ≤ W9) (hdg : decode c.code g.pc = .ok (.invokevirtual index, 3))
    (hpre : ∀ vm₁, s.WarmedH vm₁ → Pre ⟨T.setVm vm₁, locs, cells, slots⟩ (Value.ref b :: argsL).toArray) :
    ∃ (v : Option Value) (vm₁ : Vm) (B : Pt), s.WarmedH vm₁ ∧ Stand p l e R s m args below meth c B.U B.locs B.cells B.slots ∧ Post ⟨T.setVm vm₁, locs, cells, slots⟩ (Value.ref b :: argsL).toArray v B ∧
      ∀ target, Steps p.tables e below (B.U.setTop { g with pc := g.pc + 3, stack := v.toList ++ rest }) target → Steps p.tables e below (T.setTop g) target := by
  obtain ⟨mk, methM, hnamed, hmethM, hstM, habM⟩ := Cond.instanceMethod_spec hinst
  obtain ⟨m8, methM', cM, hn8, hmethM', -, -, -, -, -, -, hsigM⟩ := Cond.codeWith_spec hcode
  cases Option.some.inj (hn8.symm.trans hnamed)
  cases hmethM.symm.trans hmethM'
  obtain ⟨c2, r2, m2, q1, q2, q3, q4, kP, hkP, hkPi⟩ := Cond.selects_spec hsel
  cases hcls.symm.trans q1
  cases (State.methodFound?_of_named hnamed hy).symm.trans q2
  cases hnamed.symm.trans q3
  have hselP : selectMethod e.platform s.vm cellB.cls mk = .method mk := by rw [Launch.admits_selectMethod X.admits]; exact q4
  obtain ⟨vm₁, X₁, hstep₁⟩ := X.invokevirtual hexec hown hlink hnamed hmethM hstM hkP hkPi hy (a := b) (cell := cellB) hcell
    (fun z h => by rw [h] at hobj; cases hobj) hselP hmethM habM hkP hkPi (g := g) hg (argsL := argsL) (rest := rest) (hlen _ hsigM) hstack hdg
  obtain ⟨v, B, X', hpost, hsteps⟩ := hK m meth c ⟨T.setVm vm₁, locs, cells, slots⟩ { g with stack := rest } (.invokevirtual index) mk (Value.ref b :: argsL).toArray X₁ hg hsize hdg hW (X₁.named hnamed) (hpre vm₁ X₁.warmed)
  exact ⟨v, vm₁, B, X₁.warmed, X', hpost, fun target h => hstep₁ _ fun acts => by rw [doInvoke_state]; exact hsteps.trans h⟩
abbrev vx_CVW (R : Room) (s : State) (args : Array Value) (own C : String) (index : Nat) (y : MethodName) (bytes : ByteArray) (maxL : Nat) (ret : Option FieldType) (hh : List (Nat × Nat × Nat × Nat)) (ws : List Cond) (rm : Room) (mc ms n : Nat) : Prop :=
  (rm.cells = mc ∧ rm.slots = ms ∧ rm.frames + 1 ≤ R.frames ∧ 8 + (maxL + 11) + rm.locals ≤ R.locals ∧ (∀ w ∈ ws, ∀ (a' : Array Value) (U : State), s.WarmedH U.vm → w.before a' U = true) ∧ Cond.codeWith y bytes maxL ret hh ∈ ws) ∧
  (Cond.codeWith y bytes maxL ret hh).before args s = true ∧ (Cond.initialized y.cls).before args s = true ∧ (y.cls ≠ "java/lang/invoke/MethodHandle" ∧ y.cls ≠ "java/lang/invoke/VarHandle") ∧
  (∀ sig, parseMethodDescriptor y.desc = some sig → n = sig.parameters.length) ∧ (Cond.methodLink own index y).before args s = true ∧ (Cond.instanceMethod y).before args s = true ∧ (Cond.selects C y y).before args s = true
theorem vx_cwVW {own C : String} {index maxL mc ms : Nat} {y : MethodName} {bytes : ByteArray} {ret : Option FieldType} {hh : List (Nat × Nat × Nat × Nat)} {Ts ws ws' : List Cond} {rm : Room} (n : Nat) (ht : ∀ w ∈ Ts, w.before args s = true) (hT : GoodIn Ts (wsV own index C y ws)) (hw : ws = Cond.codeWith y bytes maxL ret hh :: ws') (hrc : rm.cells = mc) (hrs : rm.slots = ms)
    (hd : y.cls = C ∧ y.cls ≠ "java/lang/invoke/MethodHandle" ∧ y.cls ≠ "java/lang/invoke/VarHandle" ∧ (parseMethodDescriptor y.desc).map (fun d => d.parameters.length) = some n) (hR : rm.frames + 1 ≤ R.frames ∧ 8 + (maxL + 11) + rm.locals ≤ R.locals) :
    vx_CVW R s args own C index y bytes maxL ret hh ws rm mc ms n := by
  obtain ⟨hC, hd⟩ := hd
  subst hC
  have ok : ∀ w ∈ wsV own index y.cls y ws, w.before args s = true := fun w h => ht w (hT w h).1
  have hG : GoodIn Ts ws := fun w h => hT w (by unfold wsV; exact List.mem_append_right _ h)
  have hc : Cond.codeWith y bytes maxL ret hh ∈ ws := by rw [hw]; exact List.mem_cons_self
  refine ⟨⟨hrc, hrs, hR.1, hR.2, pay_in ht hG, hc⟩, ht _ (hG _ hc).1, ok _ (by simp [wsV]), ⟨hd.1, hd.2.1⟩, fun sig h => ?_, ok _ (by simp [wsV]), ok _ (by simp [wsV]), ok _ (by simp [wsV])⟩
  have h2 := hd.2.2
  rw [h] at h2
  exact (Option.some.inj h2).symm
theorem vx_runVW {y : MethodName} {bytes cc : ByteArray} {maxL nL mc ms n index : Nat} {ret : Option FieldType} {hh : List (Nat × Nat × Nat × Nat)} {ws : List Cond} {rm : Room} {Pc : Array Value → State → Prop} {Qc : Array Value → State → Outcome → State → Prop} {free : Addr → Prop} {Ts : List Cond} {own C : String} {b : Addr} {As rest : List Value} {g : JFrame}
    (S : CallFix p m c cc nL s args Ts own) (hM : Met l y ws rm Pc Qc mc ms free) (cw : vx_CVW R s args own C index y bytes maxL ret hh ws rm mc ms n) (hp : PreV s H C b Pc As)
    (hg : g.method = m) (hn : As.length = n) (hsize : g.locals.size = nL) (hstack : g.stack = As.reverse ++ .ref b :: rest) (hW : 2 * g.monitorRoom + (rest.map fun v => v.category).sum ≤ 8) (hdg : decode cc g.pc = .ok (.invokevirtual index, 3)) (hf : cells + mc ≤ R.cells ∧ slots + ms ≤ R.slots) :
    va_Run p l e R s m args below meth c H locs cells slots mc ms g rest (Qc (Value.ref b :: As).toArray) free := by
  obtain ⟨⟨hrc, hrs, hfr, hlo, hws, hcw⟩, hcode, hini, hy, hlen, hl, hin, hse⟩ := cw
  have hK : Back l R p e below s args y 3 8 (PreOf R mc ms Pc) (PostOf Qc mc ms free) := va_backW (hh := hh) (bytes := bytes) (maxL := maxL) (ret := ret) hM hp.1 hrc hrs hfr hlo hws hcw (fun a' U hW => word_at hW (Or.inl (by first | rfl | simp [Cond.onTables, Cond.keeps, Cond.steady])) hini)
  obtain ⟨hx, hb, hml, ho, -⟩ := S
  obtain ⟨-, ⟨cellB, hcB, hoB, hclB⟩, hPc⟩ := hp
  intro T hT X
  obtain ⟨v, vm₁, ⟨U', l2, c2, s2⟩, hW₁, X', ⟨g', mk, t, L, e1, e2, hq, h1, hL, h2, h3⟩, st⟩ := vx_callVW X hx (C := C) (hh := hh) (bytes := bytes) (maxL := maxL) (ret := ret) ho hl hin hse hcode hy hK (by rw [hT]; exact hcB) hoB hclB hg (hsize.trans hml.symm) (argsL := As) (rest := rest) (fun sig h => hn.trans (hlen sig h)) hstack hW (by rw [hb]; exact hdg)
    (fun vm₁ hW₁ => ⟨hf.1, hf.2, hPc (T.setVm vm₁) hT hW₁⟩)
  dsimp only [Pt.U, Pt.locs, Pt.cells, Pt.slots] at X' e1 e2 h1 h2 h3 st
  subst h1; subst h2; subst h3
  exact ⟨v, (T.setVm vm₁).calling g' mk (Value.ref b :: As).toArray, t, U', L, hT, X', hL, e1, e2, hq, st⟩
section
variable {y : MethodName} {bytes cc : ByteArray} {maxL nL mc ms n index : Nat} {ret : Option FieldType} {ws : List Cond} {rm : Room} {Pc : Array Value → State → Prop} {Qc : Array Value → State → Outcome → State → Prop} {XC : String → State → State → Prop} {free : Addr → Prop} {Ts : List Cond} {own C : String} {b : Addr} {As rest : List Value} {g : JFrame}
theorem vx_runVX {hh : List (Nat × Nat × Nat × Nat)} (S : CallFix p m c cc nL s args Ts own) (hM : vx_Met l y ws rm Pc Qc XC mc ms free) (cw : vx_CVW R s args own C index y bytes maxL ret hh ws rm mc ms n) (hp : PreV s H C b Pc As)
    (hg : g.method = m) (hn : As.length = n) (hsize : g.locals.size = nL) (hstack : g.stack = As.reverse ++ .ref b :: rest) (hW : 2 * g.monitorRoom + (rest.map fun v => v.category).sum ≤ 8) (hdg : decode cc g.pc = .ok (.invokevirtual index, 3)) (hf : cells + mc ≤ R.cells ∧ slots + ms ≤ R.slots) :
    vx_Run p l e R s m args below meth c H locs cells slots mc ms g rest (Qc (Value.ref b :: As).toArray) XC free := by
  obtain ⟨⟨hrc, hrs, hfr, hlo, hws, hcw⟩, hcode, hini, hy, hlen, hl, hin, hse⟩ := cw
  have hK : vx_Back l R p e below s args y 3 8 (PreOf R mc ms Pc) (PostOf Qc mc ms free) (vx_Post XC mc ms free) := vx_backW (hh := hh) (bytes := bytes) (maxL := maxL) (ret := ret) hM hp.1 hrc hrs hfr hlo hws hcw (fun a' U hW => word_at hW (Or.inl (by first | rfl | simp [Cond.onTables, Cond.keeps, Cond.steady])) hini)
  obtain ⟨hx, hb, hml, ho, -⟩ := S
  obtain ⟨-, ⟨cellB, hcB, hoB, hclB⟩, hPc⟩ := hp
  intro T hT X
  rcases vx_callVX X hx (C := C) (hh := hh) (bytes := bytes) (maxL := maxL) (ret := ret) ho hl hin hse hcode hy hK (by rw [hT]; exact hcB) hoB hclB hg (hsize.trans hml.symm) (argsL := As) (rest := rest) (fun sig h => hn.trans (hlen sig h)) hstack hW (by rw [hb]; exact hdg)
    (fun vm₁ hW₁ => ⟨hf.1, hf.2, hPc (T.setVm vm₁) hT hW₁⟩) with ⟨v, vm₁, ⟨U', l2, c2, s2⟩, hW₁, X', ⟨g', mk, t, L, e1, e2, hq, h1, hL, h2, h3⟩, st⟩ | ⟨q, vm₁, ⟨U', l2, c2, s2⟩, hW₁, X', ⟨g', mk, t, L, E, ce, e1, e2, hq, hce, hcv, hcl, h1, hL, h2, h3⟩, st⟩
  · dsimp only [Pt.U, Pt.locs, Pt.cells, Pt.slots] at X' e1 e2 h1 h2 h3 st
    subst h1; subst h2; subst h3
    exact Or.inl ⟨v, (T.setVm vm₁).calling g' mk (Value.ref b :: As).toArray, t, U', L, hT, X', hL, e1, e2, hq, st⟩
  · dsimp only [Pt.U, Pt.locs, Pt.cells, Pt.slots] at X' e1 e2 h1 h2 h3 st hcl
    subst h1; subst h2; subst h3
    exact Or.inr ⟨q, (T.setVm vm₁).calling g' mk (Value.ref b :: As).toArray, t, U', L, E, ce, hT, X', hL, e1, e2, hq, hce, hcv, vx_cls hW₁ hcl, st⟩
theorem vx_runSX {hh : List (Nat × Nat × Nat × Nat)} (S : CallFix p m c cc nL s args Ts own) (hM : vx_Met l y ws rm Pc Qc XC mc ms free) (cw : vx_CSW R s args own index y bytes maxL ret hh ws rm mc ms n) (hp : PreS s H Pc As)
    (hg : g.method = m) (hn : As.length = n) (hsize : g.locals.size = nL) (hstack : g.stack = As.reverse ++ rest) (hW : 2 * g.monitorRoom + (rest.map fun v => v.category).sum ≤ 8) (hdg : decode cc g.pc = .ok (.invokestatic index, 3)) (hf : cells + mc ≤ R.cells ∧ slots + ms ≤ R.slots) :
    vx_Run p l e R s m args below meth c H locs cells slots mc ms g rest (Qc As.toArray) XC free := by
  obtain ⟨⟨hrc, hrs, hfr, hlo, hws, hcw⟩, hcode, hini, hy, hlen, hl, hstt⟩ := cw
  have hK : vx_Back l R p e below s args y 3 8 (PreOf R mc ms Pc) (PostOf Qc mc ms free) (vx_Post XC mc ms free) := vx_backW (hh := hh) (bytes := bytes) (maxL := maxL) (ret := ret) hM hp.1 hrc hrs hfr hlo hws hcw (fun a' U hW => word_at hW (Or.inl (by first | rfl | simp [Cond.onTables, Cond.keeps, Cond.steady])) hini)
  obtain ⟨hx, hb, hml, ho, -⟩ := S
  intro T hT X
  rcases vx_callSX X hx (hh := hh) (bytes := bytes) (maxL := maxL) (ret := ret) ho hl hstt hini hcode hy hK hg (hsize.trans hml.symm) (argsL := As) (rest := rest) (fun sig h => hn.trans (hlen sig h)) hstack hW (by rw [hb]; exact hdg)
    (fun vm₁ hW₁ => ⟨hf.1, hf.2, hp.2 (T.setVm vm₁) hT hW₁⟩) with ⟨v, vm₁, ⟨U', l2, c2, s2⟩, hW₁, X', ⟨g', mk, t, L, e1, e2, hq, h1, hL, h2, h3⟩, st⟩ | ⟨q, vm₁, ⟨U', l2, c2, s2⟩, hW₁, X', ⟨g', mk, t, L, E, ce, e1, e2, hq, hce, hcv, hcl, h1, hL, h2, h3⟩, st⟩
  · dsimp only [Pt.U, Pt.locs, Pt.cells, Pt.slots] at X' e1 e2 h1 h2 h3 st
    subst h1; subst h2; subst h3
    exact Or.inl ⟨v, (T.setVm vm₁).calling g' mk As.toArray, t, U', L, hT, X', hL, e1, e2, hq, st⟩
  · dsimp only [Pt.U, Pt.locs, Pt.cells, Pt.slots] at X' e1 e2 h1 h2 h3 st hcl
    subst h1; subst h2; subst h3
    exact Or.inr ⟨q, (T.setVm vm₁).calling g' mk As.toArray, t, U', L, E, ce, hT, X', hL, e1, e2, hq, hce, hcv, vx_cls hW₁ hcl, st⟩
end
end VXH
theorem vx_ofWH {l : Launch} {y : MethodName} {ws ws' : List Cond} {rm : Room} {Pc : Array Value → State → Prop} {Qc : Array Value → State → Outcome → State → Prop} {XC : String → State → State → Prop} {mc ms : Nat} {free : Addr → Prop} {cc : ByteArray} {maxL : Nat} {ret : Option FieldType} {hh : List (Nat × Nat × Nat × Nat)}
    (hy : plainName y.cls = true) (hw : ws = Cond.codeWith y cc maxL ret hh :: ws')
    (body : ∀ p e s m args below meth c s₁, BodyLoose p l y (headSpec ws rm) cc maxL ret e s m args below meth c s₁ → c.maxLocals = maxL → Pc args s →
      W p l e (headSpec ws rm).room s m args below meth c s.heap [] 0 0 (vx_MQ below Qc XC args s mc ms free) (entryFrame m args maxL)) : vx_Met l y ws rm Pc Qc XC mc ms free := by
  refine MetFree.of_bodyS (code := cc) (maxLocals := maxL) (ret := ret) hy ?_ ?_
  · intro args s m h hn
    obtain ⟨m9, meth, c, hn9, h1, h2, h3, h4, -, h5, h6, -⟩ := Cond.codeWith_spec (atoms_spec (ws := ws) h _ (by rw [hw]; exact List.mem_cons_self))
    cases hn.symm.trans hn9
    exact ⟨meth, c, h1, h2, h3, h4, h5, h6⟩
  · intro p e s m args below meth c s₁ B hml hP _
    have hh0 : s₁.heap = s.heap := by rw [B.state]; rfl
    obtain ⟨t, a1, o, b1, b2, b3⟩ := body p e s m args below meth c s₁ B hml hP s₁ hh0 (Stand.of_body B)
    exact ⟨t, o, a1, b1, b2, b3⟩
/-! ===== END ===== -/
end
section
/-! ===== BEGIN printed: names, fields, word lists, decode rows ===== -/
def RX0 : String := "PhoneRater$Account"
def TX0 : u_T := fun k => match k with
  | 0 => ("PhoneRater$Account", "threshold", "I", true)
  | 1 => ("PhoneRater$Account", "percent", "I", true)
  | 2 => ("PhoneRater$Account", "bundle", "I", false)
  | 3 => ("PhoneRater$Account", "unused", "I", false)
  | 4 => ("PhoneRater$Account", "emptier", "I", false)
  | _ => ("PhoneRater$Account", "prices", "I", false)
def tyX0 : Nat → FieldType := fun k => match k with
  | 0 => .int
  | 1 => .int
  | 2 => .int
  | 3 => .int
  | 4 => .int
  | _ => .int
abbrev wsX00 : List Cond := u_ws RX0 TX0 6
theorem nmX0 : ∀ a, a < 6 → ∀ b, b < 6 → a ≠ b → (TX0 a).2.1 ≠ (TX0 b).2.1 := by decide +kernel
theorem tyX0_ok : ∀ k, k < 6 → parseFieldDescriptor (TX0 k).2.2.1 = some (tyX0 k) := by decide +kernel
abbrev cX0_init : ByteArray := prog_2_method_1_code
def yX0_init : MethodName := ⟨RX0, "<init>", "(III)V"⟩
abbrev cX0_forgetRating : ByteArray := prog_2_method_2_code
def yX0_forgetRating : MethodName := ⟨RX0, "forgetRating", "()V"⟩
abbrev cX0_takeFromBundle : ByteArray := prog_2_method_3_code
def yX0_takeFromBundle : MethodName := ⟨RX0, "takeFromBundle", "(LPhoneRater$Call;)I"⟩
abbrev cX0_cents : ByteArray := prog_2_method_4_code
def yX0_cents : MethodName := ⟨RX0, "cents", "()I"⟩
def RX1 : String := "PhoneRater$Call"
def TX1 : u_T := fun k => match k with
  | 0 => ("PhoneRater$Call", "number", "I", true)
  | 1 => ("PhoneRater$Call", "line", "LPhoneRater$Line;", true)
  | 2 => ("PhoneRater$Call", "minute", "I", true)
  | 3 => ("PhoneRater$Call", "zone", "I", true)
  | 4 => ("PhoneRater$Call", "seconds", "I", false)
  | 5 => ("PhoneRater$Call", "billed", "I", false)
  | 6 => ("PhoneRater$Call", "free", "I", false)
  | 7 => ("PhoneRater$Call", "price", "I", false)
  | _ => ("PhoneRater$Call", "dayFee", "I", false)
def tyX1 : Nat → FieldType := fun k => match k with
  | 0 => .int
  | 1 => .object "PhoneRater$Line"
  | 2 => .int
  | 3 => .int
  | 4 => .int
  | 5 => .int
  | 6 => .int
  | 7 => .int
  | _ => .int
abbrev wsX10 : List Cond := u_ws RX1 TX1 9
theorem nmX1 : ∀ a, a < 9 → ∀ b, b < 9 → a ≠ b → (TX1 a).2.1 ≠ (TX1 b).2.1 := by decide +kernel
theorem tyX1_ok : ∀ k, k < 9 → parseFieldDescriptor (TX1 k).2.2.1 = some (tyX1 k) := by decide +kernel
abbrev cX1_init : ByteArray := prog_3_method_1_code
def yX1_init : MethodName := ⟨RX1, "<init>", "(ILPhoneRater$Line;III)V"⟩
abbrev cX1_day : ByteArray := prog_3_method_2_code
def yX1_day : MethodName := ⟨RX1, "day", "()I"⟩
abbrev cX1_forgetRating : ByteArray := prog_3_method_3_code
def yX1_forgetRating : MethodName := ⟨RX1, "forgetRating", "()V"⟩
abbrev cX1_tell : ByteArray := prog_3_method_4_code
def yX1_tell : MethodName := ⟨RX1, "tell", "(I)I"⟩
def RX2 : String := "PhoneRater$Line"
def TX2 : u_T := fun k => match k with
  | 0 => ("PhoneRater$Line", "account", "LPhoneRater$Account;", true)
  | 1 => ("PhoneRater$Line", "tariff", "LPhoneRater$Tariff;", false)
  | 2 => ("PhoneRater$Line", "prices", "I", false)
  | 3 => ("PhoneRater$Line", "feesPaid", "[I", true)
  | 4 => ("PhoneRater$Line", "lastFeeDay", "[I", true)
  | _ => ("PhoneRater$Line", "freeOfDay", "[I", true)
def tyX2 : Nat → FieldType := fun k => match k with
  | 0 => .object "PhoneRater$Account"
  | 1 => .object "PhoneRater$Tariff"
  | 2 => .int
  | 3 => .array .int
  | 4 => .array .int
  | _ => .array .int
abbrev wsX20 : List Cond := u_ws RX2 TX2 6
theorem nmX2 : ∀ a, a < 6 → ∀ b, b < 6 → a ≠ b → (TX2 a).2.1 ≠ (TX2 b).2.1 := by decide +kernel
theorem tyX2_ok : ∀ k, k < 6 → parseFieldDescriptor (TX2 k).2.2.1 = some (tyX2 k) := by decide +kernel
abbrev cX2_init : ByteArray := prog_4_method_1_code
def yX2_init : MethodName := ⟨RX2, "<init>", "(LPhoneRater$Account;LPhoneRater$Tariff;)V"⟩
abbrev cX2_forgetRating : ByteArray := prog_4_method_2_code
def yX2_forgetRating : MethodName := ⟨RX2, "forgetRating", "()V"⟩
abbrev cX2_beginsFeeDay : ByteArray := prog_4_method_3_code
def yX2_beginsFeeDay : MethodName := ⟨RX2, "beginsFeeDay", "(II)Z"⟩
abbrev cX2_takeFreeOfDay : ByteArray := prog_4_method_4_code
def yX2_takeFreeOfDay : MethodName := ⟨RX2, "takeFreeOfDay", "(II)I"⟩
def RX3 : String := "PhoneRater$Tariff"
def TX3 : u_T := fun k => match k with
  | 0 => ("PhoneRater$Tariff", "number", "I", true)
  | 1 => ("PhoneRater$Tariff", "connection", "I", true)
  | 2 => ("PhoneRater$Tariff", "peak", "I", true)
  | 3 => ("PhoneRater$Tariff", "other", "I", true)
  | 4 => ("PhoneRater$Tariff", "first", "I", true)
  | 5 => ("PhoneRater$Tariff", "next", "I", true)
  | 6 => ("PhoneRater$Tariff", "zoneRate", "[I", true)
  | _ => ("PhoneRater$Tariff", "zoneDayFee", "[I", true)
def tyX3 : Nat → FieldType := fun k => match k with
  | 0 => .int
  | 1 => .int
  | 2 => .int
  | 3 => .int
  | 4 => .int
  | 5 => .int
  | 6 => .array .int
  | _ => .array .int
abbrev wsX30 : List Cond := u_ws RX3 TX3 8
theorem nmX3 : ∀ a, a < 8 → ∀ b, b < 8 → a ≠ b → (TX3 a).2.1 ≠ (TX3 b).2.1 := by decide +kernel
theorem tyX3_ok : ∀ k, k < 8 → parseFieldDescriptor (TX3 k).2.2.1 = some (tyX3 k) := by decide +kernel
abbrev cX3_init : ByteArray := prog_5_method_1_code
def yX3_init : MethodName := ⟨RX3, "<init>", "(IIIIII)V"⟩
abbrev cX3_billedFor : ByteArray := prog_5_method_2_code
def yX3_billedFor : MethodName := ⟨RX3, "billedFor", "(I)I"⟩
abbrev cX3_chargeFor : ByteArray := prog_5_method_3_code
def yX3_chargeFor : MethodName := ⟨RX3, "chargeFor", "(II)I"⟩
def RX4 : String := "PhoneRater"
def TX4 : u_T := fun k => match k with
  | 0 => ("PhoneRater", "tariffs", "Ljava/util/ArrayList;", true)
  | 1 => ("PhoneRater", "accounts", "Ljava/util/ArrayList;", true)
  | 2 => ("PhoneRater", "lines", "Ljava/util/ArrayList;", true)
  | 3 => ("PhoneRater", "calls", "Ljava/util/ArrayList;", true)
  | 4 => ("PhoneRater", "ordered", "Ljava/util/ArrayList;", true)
  | 5 => ("PhoneRater", "firstOfPeak", "I", false)
  | _ => ("PhoneRater", "lastOfPeak", "I", false)
def tyX4 : Nat → FieldType := fun k => match k with
  | 0 => .object "java/util/ArrayList"
  | 1 => .object "java/util/ArrayList"
  | 2 => .object "java/util/ArrayList"
  | 3 => .object "java/util/ArrayList"
  | 4 => .object "java/util/ArrayList"
  | 5 => .int
  | _ => .int
abbrev wsX40 : List Cond := u_ws RX4 TX4 7
theorem nmX4 : ∀ a, a < 7 → ∀ b, b < 7 → a ≠ b → (TX4 a).2.1 ≠ (TX4 b).2.1 := by decide +kernel
theorem tyX4_ok : ∀ k, k < 7 → parseFieldDescriptor (TX4 k).2.2.1 = some (tyX4 k) := by decide +kernel
abbrev cX4_init : ByteArray := prog_1_method_1_code
def yX4_init : MethodName := ⟨RX4, "<init>", "()V"⟩
abbrev cX4_addTariff : ByteArray := prog_1_method_2_code
def yX4_addTariff : MethodName := ⟨RX4, "addTariff", "(IIIII)I"⟩
abbrev cX4_setZone : ByteArray := prog_1_method_3_code
def yX4_setZone : MethodName := ⟨RX4, "setZone", "(IIII)I"⟩
abbrev cX4_setPeak : ByteArray := prog_1_method_4_code
def yX4_setPeak : MethodName := ⟨RX4, "setPeak", "(II)Z"⟩
abbrev cX4_addAccount : ByteArray := prog_1_method_5_code
def yX4_addAccount : MethodName := ⟨RX4, "addAccount", "(III)I"⟩
abbrev cX4_addLine : ByteArray := prog_1_method_6_code
def yX4_addLine : MethodName := ⟨RX4, "addLine", "(II)I"⟩
abbrev cX4_setTariff : ByteArray := prog_1_method_7_code
def yX4_setTariff : MethodName := ⟨RX4, "setTariff", "(II)I"⟩
abbrev cX4_setBundle : ByteArray := prog_1_method_8_code
def yX4_setBundle : MethodName := ⟨RX4, "setBundle", "(II)I"⟩
abbrev cX4_addCall : ByteArray := prog_1_method_9_code
def yX4_addCall : MethodName := ⟨RX4, "addCall", "(IIII)I"⟩
abbrev cX4_correct : ByteArray := prog_1_method_10_code
def yX4_correct : MethodName := ⟨RX4, "correct", "(II)I"⟩
abbrev cX4_callCount : ByteArray := prog_1_method_11_code
def yX4_callCount : MethodName := ⟨RX4, "callCount", "()I"⟩
abbrev cX4_callAt : ByteArray := prog_1_method_12_code
def yX4_callAt : MethodName := ⟨RX4, "callAt", "(I)I"⟩
abbrev cX4_isPeak : ByteArray := prog_1_method_13_code
def yX4_isPeak : MethodName := ⟨RX4, "isPeak", "(I)Z"⟩
abbrev cX4_told : ByteArray := prog_1_method_14_code
def yX4_told : MethodName := ⟨RX4, "told", "(II)I"⟩
abbrev cX4_dearest : ByteArray := prog_1_method_15_code
def yX4_dearest : MethodName := ⟨RX4, "dearest", "()I"⟩
abbrev cX4_lineSum : ByteArray := prog_1_method_16_code
def yX4_lineSum : MethodName := ⟨RX4, "lineSum", "(I)I"⟩
abbrev cX4_daySum : ByteArray := prog_1_method_17_code
def yX4_daySum : MethodName := ⟨RX4, "daySum", "(I)I"⟩
abbrev cX4_sum : ByteArray := prog_1_method_18_code
def yX4_sum : MethodName := ⟨RX4, "sum", "(I)I"⟩
abbrev cX4_total : ByteArray := prog_1_method_19_code
def yX4_total : MethodName := ⟨RX4, "total", "(I)I"⟩
abbrev cX4_left : ByteArray := prog_1_method_20_code
def yX4_left : MethodName := ⟨RX4, "left", "(I)I"⟩
abbrev cX4_emptied : ByteArray := prog_1_method_21_code
def yX4_emptied : MethodName := ⟨RX4, "emptied", "(I)I"⟩
abbrev cX4_dayFees : ByteArray := prog_1_method_22_code
def yX4_dayFees : MethodName := ⟨RX4, "dayFees", "(II)I"⟩
abbrev cX4_totalWith : ByteArray := prog_1_method_23_code
def yX4_totalWith : MethodName := ⟨RX4, "totalWith", "(II)I"⟩
abbrev cX4_bestTariff : ByteArray := prog_1_method_24_code
def yX4_bestTariff : MethodName := ⟨RX4, "bestTariff", "(I)I"⟩
abbrev cX4_freeShare : ByteArray := prog_1_method_25_code
def yX4_freeShare : MethodName := ⟨RX4, "freeShare", "()D"⟩
abbrev cX4_digest : ByteArray := prog_1_method_26_code
def yX4_digest : MethodName := ⟨RX4, "digest", "()J"⟩
abbrev cX4_mixLines : ByteArray := prog_1_method_27_code
def yX4_mixLines : MethodName := ⟨RX4, "mixLines", "(J)J"⟩
abbrev cX4_mixAccounts : ByteArray := prog_1_method_28_code
def yX4_mixAccounts : MethodName := ⟨RX4, "mixAccounts", "(J)J"⟩
abbrev cX4_mixCalls : ByteArray := prog_1_method_29_code
def yX4_mixCalls : MethodName := ⟨RX4, "mixCalls", "(J)J"⟩
abbrev cX4_mix : ByteArray := prog_1_method_30_code
def yX4_mix : MethodName := ⟨RX4, "mix", "(JI)J"⟩
abbrev cX4_putInOrder : ByteArray := prog_1_method_31_code
def yX4_putInOrder : MethodName := ⟨RX4, "putInOrder", "(LPhoneRater$Call;)V"⟩
abbrev cX4_giveTariff : ByteArray := prog_1_method_32_code
def yX4_giveTariff : MethodName := ⟨RX4, "giveTariff", "(LPhoneRater$Line;LPhoneRater$Tariff;)V"⟩
abbrev cX4_rateAll : ByteArray := prog_1_method_33_code
def yX4_rateAll : MethodName := ⟨RX4, "rateAll", "()V"⟩
abbrev cX4_rate : ByteArray := prog_1_method_34_code
def yX4_rate : MethodName := ⟨RX4, "rate", "(LPhoneRater$Call;)V"⟩
abbrev cX4_rateDayFee : ByteArray := prog_1_method_35_code
def yX4_rateDayFee : MethodName := ⟨RX4, "rateDayFee", "(LPhoneRater$Call;)V"⟩
abbrev cX4_beginsInPeak : ByteArray := prog_1_method_36_code
def yX4_beginsInPeak : MethodName := ⟨RX4, "beginsInPeak", "(LPhoneRater$Call;)Z"⟩
abbrev cX4_findTariff : ByteArray := prog_1_method_37_code
def yX4_findTariff : MethodName := ⟨RX4, "findTariff", "(I)LPhoneRater$Tariff;"⟩
abbrev cX4_findAccount : ByteArray := prog_1_method_38_code
def yX4_findAccount : MethodName := ⟨RX4, "findAccount", "(I)LPhoneRater$Account;"⟩
abbrev cX4_findLine : ByteArray := prog_1_method_39_code
def yX4_findLine : MethodName := ⟨RX4, "findLine", "(I)LPhoneRater$Line;"⟩
abbrev cX4_findCall : ByteArray := prog_1_method_40_code
def yX4_findCall : MethodName := ⟨RX4, "findCall", "(I)LPhoneRater$Call;"⟩
abbrev cX4_checkAbroad : ByteArray := prog_1_method_41_code
def yX4_checkAbroad : MethodName := ⟨RX4, "checkAbroad", "(I)V"⟩
abbrev cX4_checkBundle : ByteArray := prog_1_method_42_code
def yX4_checkBundle : MethodName := ⟨RX4, "checkBundle", "(I)V"⟩
abbrev cX4_isMinuteOfDay : ByteArray := prog_1_method_43_code
def yX4_isMinuteOfDay : MethodName := ⟨RX4, "isMinuteOfDay", "(I)Z"⟩
abbrev cX4_isMoney : ByteArray := prog_1_method_44_code
def yX4_isMoney : MethodName := ⟨RX4, "isMoney", "(I)Z"⟩
abbrev cX4_isWithin : ByteArray := prog_1_method_45_code
def yX4_isWithin : MethodName := ⟨RX4, "isWithin", "(III)Z"⟩
def RX5 : String := "PhoneRaterModel"
def TX5 : u_T := fun k => match k with
  | 0 => ("PhoneRaterModel", "thrown", "I", false)
  | 1 => ("PhoneRaterModel", "tariffs", "I", false)
  | 2 => ("PhoneRaterModel", "table", "[I", true)
  | 3 => ("PhoneRaterModel", "accounts", "I", false)
  | 4 => ("PhoneRaterModel", "terms", "[I", true)
  | 5 => ("PhoneRaterModel", "lines", "I", false)
  | 6 => ("PhoneRaterModel", "owners", "[I", true)
  | 7 => ("PhoneRaterModel", "plans", "[I", true)
  | 8 => ("PhoneRaterModel", "calls", "I", false)
  | 9 => ("PhoneRaterModel", "log", "[I", true)
  | 10 => ("PhoneRaterModel", "peakFirst", "I", false)
  | 11 => ("PhoneRaterModel", "peakLast", "I", false)
  | 12 => ("PhoneRaterModel", "order", "[I", true)
  | 13 => ("PhoneRaterModel", "billed", "[I", true)
  | 14 => ("PhoneRaterModel", "free", "[I", true)
  | 15 => ("PhoneRaterModel", "prices", "[I", true)
  | 16 => ("PhoneRaterModel", "fees", "[I", true)
  | 17 => ("PhoneRaterModel", "left", "[I", true)
  | _ => ("PhoneRaterModel", "emptied", "[I", true)
def tyX5 : Nat → FieldType := fun k => match k with
  | 0 => .int
  | 1 => .int
  | 2 => .array .int
  | 3 => .int
  | 4 => .array .int
  | 5 => .int
  | 6 => .array .int
  | 7 => .array .int
  | 8 => .int
  | 9 => .array .int
  | 10 => .int
  | 11 => .int
  | 12 => .array .int
  | 13 => .array .int
  | 14 => .array .int
  | 15 => .array .int
  | 16 => .array .int
  | 17 => .array .int
  | _ => .array .int
abbrev wsX50 : List Cond := u_ws RX5 TX5 19
theorem nmX5 : ∀ a, a < 19 → ∀ b, b < 19 → a ≠ b → (TX5 a).2.1 ≠ (TX5 b).2.1 := by decide +kernel
theorem tyX5_ok : ∀ k, k < 19 → parseFieldDescriptor (TX5 k).2.2.1 = some (tyX5 k) := by decide +kernel
abbrev cX5_init : ByteArray := prog_7_method_1_code
def yX5_init : MethodName := ⟨RX5, "<init>", "()V"⟩
abbrev cX5_thrown : ByteArray := prog_7_method_2_code
def yX5_thrown : MethodName := ⟨RX5, "thrown", "()I"⟩
abbrev cX5_fail : ByteArray := prog_7_method_3_code
def yX5_fail : MethodName := ⟨RX5, "fail", "(I)I"⟩
abbrev cX5_isIn : ByteArray := prog_7_method_4_code
def yX5_isIn : MethodName := ⟨RX5, "isIn", "(III)Z"⟩
abbrev cX5_isTariff : ByteArray := prog_7_method_5_code
def yX5_isTariff : MethodName := ⟨RX5, "isTariff", "(I)Z"⟩
abbrev cX5_isAccount : ByteArray := prog_7_method_6_code
def yX5_isAccount : MethodName := ⟨RX5, "isAccount", "(I)Z"⟩
abbrev cX5_isLine : ByteArray := prog_7_method_7_code
def yX5_isLine : MethodName := ⟨RX5, "isLine", "(I)Z"⟩
abbrev cX5_isCall : ByteArray := prog_7_method_8_code
def yX5_isCall : MethodName := ⟨RX5, "isCall", "(I)Z"⟩
abbrev cX5_addTariff : ByteArray := prog_7_method_9_code
def yX5_addTariff : MethodName := ⟨RX5, "addTariff", "(IIIII)I"⟩
abbrev cX5_setZone : ByteArray := prog_7_method_10_code
def yX5_setZone : MethodName := ⟨RX5, "setZone", "(IIII)I"⟩
abbrev cX5_setPeak : ByteArray := prog_7_method_11_code
def yX5_setPeak : MethodName := ⟨RX5, "setPeak", "(II)Z"⟩
abbrev cX5_addAccount : ByteArray := prog_7_method_12_code
def yX5_addAccount : MethodName := ⟨RX5, "addAccount", "(III)I"⟩
abbrev cX5_addLine : ByteArray := prog_7_method_13_code
def yX5_addLine : MethodName := ⟨RX5, "addLine", "(II)I"⟩
abbrev cX5_setTariff : ByteArray := prog_7_method_14_code
def yX5_setTariff : MethodName := ⟨RX5, "setTariff", "(II)I"⟩
abbrev cX5_setBundle : ByteArray := prog_7_method_15_code
def yX5_setBundle : MethodName := ⟨RX5, "setBundle", "(II)I"⟩
abbrev cX5_addCall : ByteArray := prog_7_method_16_code
def yX5_addCall : MethodName := ⟨RX5, "addCall", "(IIII)I"⟩
abbrev cX5_correct : ByteArray := prog_7_method_17_code
def yX5_correct : MethodName := ⟨RX5, "correct", "(II)I"⟩
abbrev cX5_callCount : ByteArray := prog_7_method_18_code
def yX5_callCount : MethodName := ⟨RX5, "callCount", "()I"⟩
abbrev cX5_callAt : ByteArray := prog_7_method_19_code
def yX5_callAt : MethodName := ⟨RX5, "callAt", "(I)I"⟩
abbrev cX5_dayOf : ByteArray := prog_7_method_20_code
def yX5_dayOf : MethodName := ⟨RX5, "dayOf", "(I)I"⟩
abbrev cX5_isInPeak : ByteArray := prog_7_method_21_code
def yX5_isInPeak : MethodName := ⟨RX5, "isInPeak", "(I)Z"⟩
abbrev cX5_isPeak : ByteArray := prog_7_method_22_code
def yX5_isPeak : MethodName := ⟨RX5, "isPeak", "(I)Z"⟩
abbrev cX5_earlier : ByteArray := prog_7_method_23_code
def yX5_earlier : MethodName := ⟨RX5, "earlier", "(I)I"⟩
abbrev cX5_rate : ByteArray := prog_7_method_24_code
def yX5_rate : MethodName := ⟨RX5, "rate", "(I)V"⟩
abbrev cX5_rateAll : ByteArray := prog_7_method_25_code
def yX5_rateAll : MethodName := ⟨RX5, "rateAll", "()V"⟩
abbrev cX5_told : ByteArray := prog_7_method_26_code
def yX5_told : MethodName := ⟨RX5, "told", "(II)I"⟩
abbrev cX5_toldOf : ByteArray := prog_7_method_27_code
def yX5_toldOf : MethodName := ⟨RX5, "toldOf", "(II)I"⟩
abbrev cX5_dearest : ByteArray := prog_7_method_28_code
def yX5_dearest : MethodName := ⟨RX5, "dearest", "()I"⟩
abbrev cX5_lineSumOf : ByteArray := prog_7_method_29_code
def yX5_lineSumOf : MethodName := ⟨RX5, "lineSumOf", "(I)I"⟩
abbrev cX5_lineSum : ByteArray := prog_7_method_30_code
def yX5_lineSum : MethodName := ⟨RX5, "lineSum", "(I)I"⟩
abbrev cX5_daySum : ByteArray := prog_7_method_31_code
def yX5_daySum : MethodName := ⟨RX5, "daySum", "(I)I"⟩
abbrev cX5_sumOf : ByteArray := prog_7_method_32_code
def yX5_sumOf : MethodName := ⟨RX5, "sumOf", "(I)I"⟩
abbrev cX5_totalOf : ByteArray := prog_7_method_33_code
def yX5_totalOf : MethodName := ⟨RX5, "totalOf", "(I)I"⟩
abbrev cX5_sum : ByteArray := prog_7_method_34_code
def yX5_sum : MethodName := ⟨RX5, "sum", "(I)I"⟩
abbrev cX5_total : ByteArray := prog_7_method_35_code
def yX5_total : MethodName := ⟨RX5, "total", "(I)I"⟩
abbrev cX5_left : ByteArray := prog_7_method_36_code
def yX5_left : MethodName := ⟨RX5, "left", "(I)I"⟩
abbrev cX5_emptied : ByteArray := prog_7_method_37_code
def yX5_emptied : MethodName := ⟨RX5, "emptied", "(I)I"⟩
abbrev cX5_dayFees : ByteArray := prog_7_method_38_code
def yX5_dayFees : MethodName := ⟨RX5, "dayFees", "(II)I"⟩
abbrev cX5_with : ByteArray := prog_7_method_39_code
def yX5_with : MethodName := ⟨RX5, "with", "(II)I"⟩
abbrev cX5_totalWith : ByteArray := prog_7_method_40_code
def yX5_totalWith : MethodName := ⟨RX5, "totalWith", "(II)I"⟩
abbrev cX5_bestTariff : ByteArray := prog_7_method_41_code
def yX5_bestTariff : MethodName := ⟨RX5, "bestTariff", "(I)I"⟩
abbrev cX5_freeShare : ByteArray := prog_7_method_42_code
def yX5_freeShare : MethodName := ⟨RX5, "freeShare", "()D"⟩
abbrev cX5_digest : ByteArray := prog_7_method_43_code
def yX5_digest : MethodName := ⟨RX5, "digest", "()J"⟩
def RJx145de : String := "java/io/Serializable"
def TJx145de : u_T := fun k => match k with
  | _ => ("", "", "", false)
def tyJx145de : Nat → FieldType := fun k => match k with
  | _ => .int
abbrev wsJx145de0 : List Cond := u_ws RJx145de TJx145de 0
theorem nmJx145de : ∀ a, a < 0 → ∀ b, b < 0 → a ≠ b → (TJx145de a).2.1 ≠ (TJx145de b).2.1 := by decide +kernel
theorem tyJx145de_ok : ∀ k, k < 0 → parseFieldDescriptor (TJx145de k).2.2.1 = some (tyJx145de k) := by decide +kernel
def RJ5 : String := "java/lang/AbstractStringBuilder"
def TJ5 : u_T := fun k => match k with
  | _ => ("", "", "", false)
def tyJ5 : Nat → FieldType := fun k => match k with
  | _ => .int
abbrev wsJ50 : List Cond := u_ws RJ5 TJ5 0
theorem nmJ5 : ∀ a, a < 0 → ∀ b, b < 0 → a ≠ b → (TJ5 a).2.1 ≠ (TJ5 b).2.1 := by decide +kernel
theorem tyJ5_ok : ∀ k, k < 0 → parseFieldDescriptor (TJ5 k).2.2.1 = some (tyJ5 k) := by decide +kernel
abbrev cJ5_init_d00df : ByteArray := prog_9_method_2_code
def yJ5_init_d00df : MethodName := ⟨RJ5, "<init>", "(I)V"⟩
abbrev cJ5_length_8abf5 : ByteArray := prog_9_method_6_code
def yJ5_length_8abf5 : MethodName := ⟨RJ5, "length", "()I"⟩
abbrev cJ5_ensureCapacityInternal_d00df : ByteArray := prog_9_method_9_code
def yJ5_ensureCapacityInternal_d00df : MethodName := ⟨RJ5, "ensureCapacityInternal", "(I)V"⟩
abbrev cJ5_newCapacity_0f7a4 : ByteArray := prog_9_method_10_code
def yJ5_newCapacity_0f7a4 : MethodName := ⟨RJ5, "newCapacity", "(I)I"⟩
abbrev cJ5_inflate_da8c8 : ByteArray := prog_9_method_11_code
def yJ5_inflate_da8c8 : MethodName := ⟨RJ5, "inflate", "()V"⟩
abbrev cJ5_append_cf1ce : ByteArray := prog_9_method_22_code
def yJ5_append_cf1ce : MethodName := ⟨RJ5, "append", "(Ljava/lang/String;)Ljava/lang/AbstractStringBuilder;"⟩
abbrev cJ5_appendNull_278bc : ByteArray := prog_9_method_26_code
def yJ5_appendNull_278bc : MethodName := ⟨RJ5, "appendNull", "()Ljava/lang/AbstractStringBuilder;"⟩
abbrev cJ5_append_c97b9 : ByteArray := prog_9_method_32_code
def yJ5_append_c97b9 : MethodName := ⟨RJ5, "append", "(I)Ljava/lang/AbstractStringBuilder;"⟩
abbrev cJ5_getValue_6d5f1 : ByteArray := prog_9_method_64_code
def yJ5_getValue_6d5f1 : MethodName := ⟨RJ5, "getValue", "()[B"⟩
abbrev cJ5_isLatin1_aae02 : ByteArray := prog_9_method_68_code
def yJ5_isLatin1_aae02 : MethodName := ⟨RJ5, "isLatin1", "()Z"⟩
abbrev cJ5_inflateIfNeededFor_a7421 : ByteArray := prog_9_method_71_code
def yJ5_inflateIfNeededFor_a7421 : MethodName := ⟨RJ5, "inflateIfNeededFor", "(Ljava/lang/String;)V"⟩
abbrev cJ5_putStringAt_47b60 : ByteArray := prog_9_method_73_code
def yJ5_putStringAt_47b60 : MethodName := ⟨RJ5, "putStringAt", "(ILjava/lang/String;)V"⟩
def RJx2cfe8 : String := "java/lang/Appendable"
def TJx2cfe8 : u_T := fun k => match k with
  | _ => ("", "", "", false)
def tyJx2cfe8 : Nat → FieldType := fun k => match k with
  | _ => .int
abbrev wsJx2cfe80 : List Cond := u_ws RJx2cfe8 TJx2cfe8 0
theorem nmJx2cfe8 : ∀ a, a < 0 → ∀ b, b < 0 → a ≠ b → (TJx2cfe8 a).2.1 ≠ (TJx2cfe8 b).2.1 := by decide +kernel
theorem tyJx2cfe8_ok : ∀ k, k < 0 → parseFieldDescriptor (TJx2cfe8 k).2.2.1 = some (tyJx2cfe8 k) := by decide +kernel
def RJx9f9b0 : String := "java/lang/CharSequence"
def TJx9f9b0 : u_T := fun k => match k with
  | _ => ("", "", "", false)
def tyJx9f9b0 : Nat → FieldType := fun k => match k with
  | _ => .int
abbrev wsJx9f9b00 : List Cond := u_ws RJx9f9b0 TJx9f9b0 0
theorem nmJx9f9b0 : ∀ a, a < 0 → ∀ b, b < 0 → a ≠ b → (TJx9f9b0 a).2.1 ≠ (TJx9f9b0 b).2.1 := by decide +kernel
theorem tyJx9f9b0_ok : ∀ k, k < 0 → parseFieldDescriptor (TJx9f9b0 k).2.2.1 = some (tyJx9f9b0 k) := by decide +kernel
def RJx8e188 : String := "java/lang/Cloneable"
def TJx8e188 : u_T := fun k => match k with
  | _ => ("", "", "", false)
def tyJx8e188 : Nat → FieldType := fun k => match k with
  | _ => .int
abbrev wsJx8e1880 : List Cond := u_ws RJx8e188 TJx8e188 0
theorem nmJx8e188 : ∀ a, a < 0 → ∀ b, b < 0 → a ≠ b → (TJx8e188 a).2.1 ≠ (TJx8e188 b).2.1 := by decide +kernel
theorem tyJx8e188_ok : ∀ k, k < 0 → parseFieldDescriptor (TJx8e188 k).2.2.1 = some (tyJx8e188 k) := by decide +kernel
def RJxb160c : String := "java/lang/Comparable"
def TJxb160c : u_T := fun k => match k with
  | _ => ("", "", "", false)
def tyJxb160c : Nat → FieldType := fun k => match k with
  | _ => .int
abbrev wsJxb160c0 : List Cond := u_ws RJxb160c TJxb160c 0
theorem nmJxb160c : ∀ a, a < 0 → ∀ b, b < 0 → a ≠ b → (TJxb160c a).2.1 ≠ (TJxb160c b).2.1 := by decide +kernel
theorem tyJxb160c_ok : ∀ k, k < 0 → parseFieldDescriptor (TJxb160c k).2.2.1 = some (tyJxb160c k) := by decide +kernel
def RJ6 : String := "java/lang/Integer"
def TJ6 : u_T := fun k => match k with
  | _ => ("", "", "", false)
def tyJ6 : Nat → FieldType := fun k => match k with
  | _ => .int
abbrev wsJ60 : List Cond := u_ws RJ6 TJ6 0
theorem nmJ6 : ∀ a, a < 0 → ∀ b, b < 0 → a ≠ b → (TJ6 a).2.1 ≠ (TJ6 b).2.1 := by decide +kernel
theorem tyJ6_ok : ∀ k, k < 0 → parseFieldDescriptor (TJ6 k).2.2.1 = some (tyJ6 k) := by decide +kernel
abbrev cJ6_getChars_ba4f3 : ByteArray := prog_18_method_12_code
def yJ6_getChars_ba4f3 : MethodName := ⟨RJ6, "getChars", "(II[B)I"⟩
abbrev cJ6_stringSize_0f7a4 : ByteArray := prog_18_method_13_code
def yJ6_stringSize_0f7a4 : MethodName := ⟨RJ6, "stringSize", "(I)I"⟩
def RJxab1ab : String := "java/lang/Iterable"
def TJxab1ab : u_T := fun k => match k with
  | _ => ("", "", "", false)
def tyJxab1ab : Nat → FieldType := fun k => match k with
  | _ => .int
abbrev wsJxab1ab0 : List Cond := u_ws RJxab1ab TJxab1ab 0
theorem nmJxab1ab : ∀ a, a < 0 → ∀ b, b < 0 → a ≠ b → (TJxab1ab a).2.1 ≠ (TJxab1ab b).2.1 := by decide +kernel
theorem tyJxab1ab_ok : ∀ k, k < 0 → parseFieldDescriptor (TJxab1ab k).2.2.1 = some (tyJxab1ab k) := by decide +kernel
def RJ9 : String := "java/lang/Math"
def TJ9 : u_T := fun k => match k with
  | _ => ("", "", "", false)
def tyJ9 : Nat → FieldType := fun k => match k with
  | _ => .int
abbrev wsJ90 : List Cond := u_ws RJ9 TJ9 0
theorem nmJ9 : ∀ a, a < 0 → ∀ b, b < 0 → a ≠ b → (TJ9 a).2.1 ≠ (TJ9 b).2.1 := by decide +kernel
theorem tyJ9_ok : ∀ k, k < 0 → parseFieldDescriptor (TJ9 k).2.2.1 = some (tyJ9 k) := by decide +kernel
abbrev cJ9_max_7cf53 : ByteArray := prog_20_method_65_code
def yJ9_max_7cf53 : MethodName := ⟨RJ9, "max", "(II)I"⟩
abbrev cJ9_min_7cf53 : ByteArray := prog_20_method_69_code
def yJ9_min_7cf53 : MethodName := ⟨RJ9, "min", "(II)I"⟩
def RJxd2413 : String := "java/lang/Number"
def TJxd2413 : u_T := fun k => match k with
  | _ => ("", "", "", false)
def tyJxd2413 : Nat → FieldType := fun k => match k with
  | _ => .int
abbrev wsJxd24130 : List Cond := u_ws RJxd2413 TJxd2413 0
theorem nmJxd2413 : ∀ a, a < 0 → ∀ b, b < 0 → a ≠ b → (TJxd2413 a).2.1 ≠ (TJxd2413 b).2.1 := by decide +kernel
theorem tyJxd2413_ok : ∀ k, k < 0 → parseFieldDescriptor (TJxd2413 k).2.2.1 = some (tyJxd2413 k) := by decide +kernel
def RJ0 : String := "java/lang/String"
def TJ0 : u_T := fun k => match k with
  | 0 => ("java/lang/String", "value", "[B", true)
  | 1 => ("java/lang/String", "coder", "B", true)
  | 2 => ("java/lang/String", "hash", "I", false)
  | _ => ("java/lang/String", "hashIsZero", "Z", false)
def tyJ0 : Nat → FieldType := fun k => match k with
  | 0 => .array .byte
  | 1 => .byte
  | 2 => .int
  | _ => .boolean
abbrev wsJ00 : List Cond := u_ws RJ0 TJ0 4
theorem nmJ0 : ∀ a, a < 4 → ∀ b, b < 4 → a ≠ b → (TJ0 a).2.1 ≠ (TJ0 b).2.1 := by decide +kernel
theorem tyJ0_ok : ∀ k, k < 4 → parseFieldDescriptor (TJ0 k).2.2.1 = some (tyJ0 k) := by decide +kernel
abbrev cJ0_init_81219 : ByteArray := prog_23_method_53_code
def yJ0_init_81219 : MethodName := ⟨RJ0, "<init>", "(Ljava/lang/StringBuilder;)V"⟩
abbrev cJ0_length_8abf5 : ByteArray := prog_23_method_54_code
def yJ0_length_8abf5 : MethodName := ⟨RJ0, "length", "()I"⟩
abbrev cJ0_getBytes_840e7 : ByteArray := prog_23_method_147_code
def yJ0_getBytes_840e7 : MethodName := ⟨RJ0, "getBytes", "([BIB)V"⟩
abbrev cJ0_init_db425 : ByteArray := prog_23_method_150_code
def yJ0_init_db425 : MethodName := ⟨RJ0, "<init>", "(Ljava/lang/AbstractStringBuilder;Ljava/lang/Void;)V"⟩
abbrev cJ0_coder_7d493 : ByteArray := prog_23_method_152_code
def yJ0_coder_7d493 : MethodName := ⟨RJ0, "coder", "()B"⟩
abbrev cJ0_checkBoundsOffCount_cabcc : ByteArray := prog_23_method_157_code
def yJ0_checkBoundsOffCount_cabcc : MethodName := ⟨RJ0, "checkBoundsOffCount", "(III)I"⟩
abbrev cJ0_checkBoundsBeginEnd_23922 : ByteArray := prog_23_method_158_code
def yJ0_checkBoundsBeginEnd_23922 : MethodName := ⟨RJ0, "checkBoundsBeginEnd", "(III)V"⟩
def RJ4 : String := "java/lang/StringBuilder"
def TJ4 : u_T := fun k => match k with
  | 0 => ("java/lang/AbstractStringBuilder", "value", "[B", false)
  | 1 => ("java/lang/AbstractStringBuilder", "coder", "B", false)
  | 2 => ("java/lang/AbstractStringBuilder", "maybeLatin1", "Z", false)
  | _ => ("java/lang/AbstractStringBuilder", "count", "I", false)
def tyJ4 : Nat → FieldType := fun k => match k with
  | 0 => .array .byte
  | 1 => .byte
  | 2 => .boolean
  | _ => .int
abbrev wsJ40 : List Cond := u_ws RJ4 TJ4 4
theorem nmJ4 : ∀ a, a < 4 → ∀ b, b < 4 → a ≠ b → (TJ4 a).2.1 ≠ (TJ4 b).2.1 := by decide +kernel
theorem tyJ4_ok : ∀ k, k < 4 → parseFieldDescriptor (TJ4 k).2.2.1 = some (tyJ4 k) := by decide +kernel
abbrev cJ4_init_da8c8 : ByteArray := prog_24_method_1_code
def yJ4_init_da8c8 : MethodName := ⟨RJ4, "<init>", "()V"⟩
abbrev cJ4_append_15ec4 : ByteArray := prog_24_method_7_code
def yJ4_append_15ec4 : MethodName := ⟨RJ4, "append", "(Ljava/lang/String;)Ljava/lang/StringBuilder;"⟩
abbrev cJ4_append_bf812 : ByteArray := prog_24_method_15_code
def yJ4_append_bf812 : MethodName := ⟨RJ4, "append", "(I)Ljava/lang/StringBuilder;"⟩
abbrev cJ4_toString_0e30d : ByteArray := prog_24_method_42_code
def yJ4_toString_0e30d : MethodName := ⟨RJ4, "toString", "()Ljava/lang/String;"⟩
abbrev cJ4_length_8abf5 : ByteArray := prog_24_method_93_code
def yJ4_length_8abf5 : MethodName := ⟨RJ4, "length", "()I"⟩
def RJ1 : String := "java/lang/StringLatin1"
def TJ1 : u_T := fun k => match k with
  | _ => ("", "", "", false)
def tyJ1 : Nat → FieldType := fun k => match k with
  | _ => .int
abbrev wsJ10 : List Cond := u_ws RJ1 TJ1 0
theorem nmJ1 : ∀ a, a < 0 → ∀ b, b < 0 → a ≠ b → (TJ1 a).2.1 ≠ (TJ1 b).2.1 := by decide +kernel
theorem tyJ1_ok : ∀ k, k < 0 → parseFieldDescriptor (TJ1 k).2.2.1 = some (tyJ1 k) := by decide +kernel
abbrev cJ1_inflate_0e8fd : ByteArray := prog_25_method_50_code
def yJ1_inflate_0e8fd : MethodName := ⟨RJ1, "inflate", "([BI[BII)V"⟩
def RJ2 : String := "java/lang/StringUTF16"
def TJ2 : u_T := fun k => match k with
  | _ => ("", "", "", false)
def tyJ2 : Nat → FieldType := fun k => match k with
  | _ => .int
abbrev wsJ20 : List Cond := u_ws RJ2 TJ2 0
theorem nmJ2 : ∀ a, a < 0 → ∀ b, b < 0 → a ≠ b → (TJ2 a).2.1 ≠ (TJ2 b).2.1 := by decide +kernel
theorem tyJ2_ok : ∀ k, k < 0 → parseFieldDescriptor (TJ2 k).2.2.1 = some (tyJ2 k) := by decide +kernel
abbrev cJ2_newBytesFor_77867 : ByteArray := prog_26_method_2_code
def yJ2_newBytesFor_77867 : MethodName := ⟨RJ2, "newBytesFor", "(I)[B"⟩
abbrev cJ2_newBytesLength_0f7a4 : ByteArray := prog_26_method_3_code
def yJ2_newBytesLength_0f7a4 : MethodName := ⟨RJ2, "newBytesLength", "(I)I"⟩
abbrev cJ2_putChar_b72d1 : ByteArray := prog_26_method_4_code
def yJ2_putChar_b72d1 : MethodName := ⟨RJ2, "putChar", "([BII)V"⟩
abbrev cJ2_getChar_3b067 : ByteArray := prog_26_method_5_code
def yJ2_getChar_3b067 : MethodName := ⟨RJ2, "getChar", "([BI)C"⟩
abbrev cJ2_length_9d52b : ByteArray := prog_26_method_6_code
def yJ2_length_9d52b : MethodName := ⟨RJ2, "length", "([B)I"⟩
abbrev cJ2_coderFromArrayLen_85cad : ByteArray := prog_26_method_15_code
def yJ2_coderFromArrayLen_85cad : MethodName := ⟨RJ2, "coderFromArrayLen", "([BI)B"⟩
abbrev cJ2_compress_39247 : ByteArray := prog_26_method_17_code
def yJ2_compress_39247 : MethodName := ⟨RJ2, "compress", "([BII)[B"⟩
abbrev cJ2_compress_5af95 : ByteArray := prog_26_method_22_code
def yJ2_compress_5af95 : MethodName := ⟨RJ2, "compress", "([BI[BII)I"⟩
abbrev cJ2_getChars_46870 : ByteArray := prog_26_method_77_code
def yJ2_getChars_46870 : MethodName := ⟨RJ2, "getChars", "(III[B)I"⟩
abbrev cJ2_putCharsAt_cd4e5 : ByteArray := prog_26_method_81_code
def yJ2_putCharsAt_cd4e5 : MethodName := ⟨RJ2, "putCharsAt", "([BICCCC)I"⟩
abbrev cJ2_inflate_0e8fd : ByteArray := prog_26_method_86_code
def yJ2_inflate_0e8fd : MethodName := ⟨RJ2, "inflate", "([BI[BII)V"⟩
abbrev cJ2_getChars_ba4f3 : ByteArray := prog_26_method_89_code
def yJ2_getChars_ba4f3 : MethodName := ⟨RJ2, "getChars", "(II[B)I"⟩
abbrev cJ2_checkBoundsBeginEnd_d044e : ByteArray := prog_26_method_93_code
def yJ2_checkBoundsBeginEnd_d044e : MethodName := ⟨RJ2, "checkBoundsBeginEnd", "(II[B)V"⟩
abbrev cJ2_checkBoundsOffCount_d044e : ByteArray := prog_26_method_94_code
def yJ2_checkBoundsOffCount_d044e : MethodName := ⟨RJ2, "checkBoundsOffCount", "(II[B)V"⟩
def RJ10 : String := "java/lang/System"
def TJ10 : u_T := fun k => match k with
  | _ => ("", "", "", false)
def tyJ10 : Nat → FieldType := fun k => match k with
  | _ => .int
abbrev wsJ100 : List Cond := u_ws RJ10 TJ10 0
theorem nmJ10 : ∀ a, a < 0 → ∀ b, b < 0 → a ≠ b → (TJ10 a).2.1 ≠ (TJ10 b).2.1 := by decide +kernel
theorem tyJ10_ok : ∀ k, k < 0 → parseFieldDescriptor (TJ10 k).2.2.1 = some (tyJ10 k) := by decide +kernel
def RJxfd54e : String := "java/lang/constant/Constable"
def TJxfd54e : u_T := fun k => match k with
  | _ => ("", "", "", false)
def tyJxfd54e : Nat → FieldType := fun k => match k with
  | _ => .int
abbrev wsJxfd54e0 : List Cond := u_ws RJxfd54e TJxfd54e 0
theorem nmJxfd54e : ∀ a, a < 0 → ∀ b, b < 0 → a ≠ b → (TJxfd54e a).2.1 ≠ (TJxfd54e b).2.1 := by decide +kernel
theorem tyJxfd54e_ok : ∀ k, k < 0 → parseFieldDescriptor (TJxfd54e k).2.2.1 = some (tyJxfd54e k) := by decide +kernel
def RJx3cf43 : String := "java/lang/constant/ConstantDesc"
def TJx3cf43 : u_T := fun k => match k with
  | _ => ("", "", "", false)
def tyJx3cf43 : Nat → FieldType := fun k => match k with
  | _ => .int
abbrev wsJx3cf430 : List Cond := u_ws RJx3cf43 TJx3cf43 0
theorem nmJx3cf43 : ∀ a, a < 0 → ∀ b, b < 0 → a ≠ b → (TJx3cf43 a).2.1 ≠ (TJx3cf43 b).2.1 := by decide +kernel
theorem tyJx3cf43_ok : ∀ k, k < 0 → parseFieldDescriptor (TJx3cf43 k).2.2.1 = some (tyJx3cf43 k) := by decide +kernel
def RJxa1e45 : String := "java/util/AbstractCollection"
def TJxa1e45 : u_T := fun k => match k with
  | _ => ("", "", "", false)
def tyJxa1e45 : Nat → FieldType := fun k => match k with
  | _ => .int
abbrev wsJxa1e450 : List Cond := u_ws RJxa1e45 TJxa1e45 0
theorem nmJxa1e45 : ∀ a, a < 0 → ∀ b, b < 0 → a ≠ b → (TJxa1e45 a).2.1 ≠ (TJxa1e45 b).2.1 := by decide +kernel
theorem tyJxa1e45_ok : ∀ k, k < 0 → parseFieldDescriptor (TJxa1e45 k).2.2.1 = some (tyJxa1e45 k) := by decide +kernel
abbrev cJxa1e45_init_da8c8 : ByteArray := prog_31_method_1_code
def yJxa1e45_init_da8c8 : MethodName := ⟨RJxa1e45, "<init>", "()V"⟩
def RJxc12de : String := "java/util/AbstractList"
def TJxc12de : u_T := fun k => match k with
  | _ => ("", "", "", false)
def tyJxc12de : Nat → FieldType := fun k => match k with
  | _ => .int
abbrev wsJxc12de0 : List Cond := u_ws RJxc12de TJxc12de 0
theorem nmJxc12de : ∀ a, a < 0 → ∀ b, b < 0 → a ≠ b → (TJxc12de a).2.1 ≠ (TJxc12de b).2.1 := by decide +kernel
theorem tyJxc12de_ok : ∀ k, k < 0 → parseFieldDescriptor (TJxc12de k).2.2.1 = some (tyJxc12de k) := by decide +kernel
abbrev cJxc12de_init_da8c8 : ByteArray := prog_32_method_1_code
def yJxc12de_init_da8c8 : MethodName := ⟨RJxc12de, "<init>", "()V"⟩
def RJx4a65c : String := "java/util/ArrayList"
def TJx4a65c : u_T := fun k => match k with
  | 0 => ("java/util/AbstractList", "modCount", "I", false)
  | 1 => ("java/util/ArrayList", "elementData", "[Ljava/lang/Object;", false)
  | _ => ("java/util/ArrayList", "size", "I", false)
def tyJx4a65c : Nat → FieldType := fun k => match k with
  | 0 => .int
  | 1 => .array (.object "java/lang/Object")
  | _ => .int
abbrev wsJx4a65c0 : List Cond := u_ws RJx4a65c TJx4a65c 3
theorem nmJx4a65c : ∀ a, a < 3 → ∀ b, b < 3 → a ≠ b → (TJx4a65c a).2.1 ≠ (TJx4a65c b).2.1 := by decide +kernel
theorem tyJx4a65c_ok : ∀ k, k < 3 → parseFieldDescriptor (TJx4a65c k).2.2.1 = some (tyJx4a65c k) := by decide +kernel
abbrev cJx4a65c_init_da8c8 : ByteArray := prog_33_method_2_code
def yJx4a65c_init_da8c8 : MethodName := ⟨RJx4a65c, "<init>", "()V"⟩
abbrev cJx4a65c_grow_92f84 : ByteArray := prog_33_method_6_code
def yJx4a65c_grow_92f84 : MethodName := ⟨RJx4a65c, "grow", "(I)[Ljava/lang/Object;"⟩
abbrev cJx4a65c_grow_d5877 : ByteArray := prog_33_method_7_code
def yJx4a65c_grow_d5877 : MethodName := ⟨RJx4a65c, "grow", "()[Ljava/lang/Object;"⟩
abbrev cJx4a65c_size_8abf5 : ByteArray := prog_33_method_8_code
def yJx4a65c_size_8abf5 : MethodName := ⟨RJx4a65c, "size", "()I"⟩
abbrev cJx4a65c_elementData_915e3 : ByteArray := prog_33_method_18_code
def yJx4a65c_elementData_915e3 : MethodName := ⟨RJx4a65c, "elementData", "(I)Ljava/lang/Object;"⟩
abbrev cJx4a65c_get_915e3 : ByteArray := prog_33_method_20_code
def yJx4a65c_get_915e3 : MethodName := ⟨RJx4a65c, "get", "(I)Ljava/lang/Object;"⟩
abbrev cJx4a65c_add_72be8 : ByteArray := prog_33_method_24_code
def yJx4a65c_add_72be8 : MethodName := ⟨RJx4a65c, "add", "(Ljava/lang/Object;[Ljava/lang/Object;I)V"⟩
abbrev cJx4a65c_add_9ea2d : ByteArray := prog_33_method_25_code
def yJx4a65c_add_9ea2d : MethodName := ⟨RJx4a65c, "add", "(Ljava/lang/Object;)Z"⟩
abbrev cJx4a65c_add_7a177 : ByteArray := prog_33_method_26_code
def yJx4a65c_add_7a177 : MethodName := ⟨RJx4a65c, "add", "(ILjava/lang/Object;)V"⟩
abbrev cJx4a65c_rangeCheckForAdd_d00df : ByteArray := prog_33_method_45_code
def yJx4a65c_rangeCheckForAdd_d00df : MethodName := ⟨RJx4a65c, "rangeCheckForAdd", "(I)V"⟩
abbrev cJx4a65c_outOfBoundsMsg_b52d3 : ByteArray := prog_33_method_46_code
def yJx4a65c_outOfBoundsMsg_b52d3 : MethodName := ⟨RJx4a65c, "outOfBoundsMsg", "(I)Ljava/lang/String;"⟩
def RJ7 : String := "java/util/Arrays"
def TJ7 : u_T := fun k => match k with
  | _ => ("", "", "", false)
def tyJ7 : Nat → FieldType := fun k => match k with
  | _ => .int
abbrev wsJ70 : List Cond := u_ws RJ7 TJ7 0
theorem nmJ7 : ∀ a, a < 0 → ∀ b, b < 0 → a ≠ b → (TJ7 a).2.1 ≠ (TJ7 b).2.1 := by decide +kernel
theorem tyJ7_ok : ∀ k, k < 0 → parseFieldDescriptor (TJ7 k).2.2.1 = some (tyJ7 k) := by decide +kernel
abbrev cJ7_copyOf_1904c : ByteArray := prog_34_method_119_code
def yJ7_copyOf_1904c : MethodName := ⟨RJ7, "copyOf", "([Ljava/lang/Object;I)[Ljava/lang/Object;"⟩
abbrev cJ7_copyOf_6403c : ByteArray := prog_34_method_120_code
def yJ7_copyOf_6403c : MethodName := ⟨RJ7, "copyOf", "([Ljava/lang/Object;ILjava/lang/Class;)[Ljava/lang/Object;"⟩
abbrev cJ7_copyOf_9075b : ByteArray := prog_34_method_121_code
def yJ7_copyOf_9075b : MethodName := ⟨RJ7, "copyOf", "([BI)[B"⟩
abbrev cJ7_checkLength_df160 : ByteArray := prog_34_method_131_code
def yJ7_checkLength_df160 : MethodName := ⟨RJ7, "checkLength", "(II)V"⟩
abbrev cJ7_copyOfRange_39247 : ByteArray := prog_34_method_132_code
def yJ7_copyOfRange_39247 : MethodName := ⟨RJ7, "copyOfRange", "([BII)[B"⟩
abbrev cJ7_copyOfRangeByte_39247 : ByteArray := prog_34_method_133_code
def yJ7_copyOfRangeByte_39247 : MethodName := ⟨RJ7, "copyOfRangeByte", "([BII)[B"⟩
def RJx5ef63 : String := "java/util/Collection"
def TJx5ef63 : u_T := fun k => match k with
  | _ => ("", "", "", false)
def tyJx5ef63 : Nat → FieldType := fun k => match k with
  | _ => .int
abbrev wsJx5ef630 : List Cond := u_ws RJx5ef63 TJx5ef63 0
theorem nmJx5ef63 : ∀ a, a < 0 → ∀ b, b < 0 → a ≠ b → (TJx5ef63 a).2.1 ≠ (TJx5ef63 b).2.1 := by decide +kernel
theorem tyJx5ef63_ok : ∀ k, k < 0 → parseFieldDescriptor (TJx5ef63 k).2.2.1 = some (tyJx5ef63 k) := by decide +kernel
def RJxbd725 : String := "java/util/List"
def TJxbd725 : u_T := fun k => match k with
  | _ => ("", "", "", false)
def tyJxbd725 : Nat → FieldType := fun k => match k with
  | _ => .int
abbrev wsJxbd7250 : List Cond := u_ws RJxbd725 TJxbd725 0
theorem nmJxbd725 : ∀ a, a < 0 → ∀ b, b < 0 → a ≠ b → (TJxbd725 a).2.1 ≠ (TJxbd725 b).2.1 := by decide +kernel
theorem tyJxbd725_ok : ∀ k, k < 0 → parseFieldDescriptor (TJxbd725 k).2.2.1 = some (tyJxbd725 k) := by decide +kernel
def RJ15 : String := "java/util/Objects"
def TJ15 : u_T := fun k => match k with
  | _ => ("", "", "", false)
def tyJ15 : Nat → FieldType := fun k => match k with
  | _ => .int
abbrev wsJ150 : List Cond := u_ws RJ15 TJ15 0
theorem nmJ15 : ∀ a, a < 0 → ∀ b, b < 0 → a ≠ b → (TJ15 a).2.1 ≠ (TJ15 b).2.1 := by decide +kernel
theorem tyJ15_ok : ∀ k, k < 0 → parseFieldDescriptor (TJ15 k).2.2.1 = some (tyJ15 k) := by decide +kernel
abbrev cJ15_checkIndex_7cf53 : ByteArray := prog_37_method_17_code
def yJ15_checkIndex_7cf53 : MethodName := ⟨RJ15, "checkIndex", "(II)I"⟩
def RJxf0a74 : String := "java/util/RandomAccess"
def TJxf0a74 : u_T := fun k => match k with
  | _ => ("", "", "", false)
def tyJxf0a74 : Nat → FieldType := fun k => match k with
  | _ => .int
abbrev wsJxf0a740 : List Cond := u_ws RJxf0a74 TJxf0a74 0
theorem nmJxf0a74 : ∀ a, a < 0 → ∀ b, b < 0 → a ≠ b → (TJxf0a74 a).2.1 ≠ (TJxf0a74 b).2.1 := by decide +kernel
theorem tyJxf0a74_ok : ∀ k, k < 0 → parseFieldDescriptor (TJxf0a74 k).2.2.1 = some (tyJxf0a74 k) := by decide +kernel
def RJxa66e6 : String := "java/util/SequencedCollection"
def TJxa66e6 : u_T := fun k => match k with
  | _ => ("", "", "", false)
def tyJxa66e6 : Nat → FieldType := fun k => match k with
  | _ => .int
abbrev wsJxa66e60 : List Cond := u_ws RJxa66e6 TJxa66e6 0
theorem nmJxa66e6 : ∀ a, a < 0 → ∀ b, b < 0 → a ≠ b → (TJxa66e6 a).2.1 ≠ (TJxa66e6 b).2.1 := by decide +kernel
theorem tyJxa66e6_ok : ∀ k, k < 0 → parseFieldDescriptor (TJxa66e6 k).2.2.1 = some (tyJxa66e6 k) := by decide +kernel
def RJ8 : String := "jdk/internal/util/ArraysSupport"
def TJ8 : u_T := fun k => match k with
  | _ => ("", "", "", false)
def tyJ8 : Nat → FieldType := fun k => match k with
  | _ => .int
abbrev wsJ80 : List Cond := u_ws RJ8 TJ8 0
theorem nmJ8 : ∀ a, a < 0 → ∀ b, b < 0 → a ≠ b → (TJ8 a).2.1 ≠ (TJ8 b).2.1 := by decide +kernel
theorem tyJ8_ok : ∀ k, k < 0 → parseFieldDescriptor (TJ8 k).2.2.1 = some (tyJ8 k) := by decide +kernel
abbrev cJ8_newLength_cabcc : ByteArray := prog_40_method_27_code
def yJ8_newLength_cabcc : MethodName := ⟨RJ8, "newLength", "(III)I"⟩
abbrev cJ8_hugeLength_7cf53 : ByteArray := prog_40_method_28_code
def yJ8_hugeLength_7cf53 : MethodName := ⟨RJ8, "hugeLength", "(II)I"⟩
def RJ3 : String := "jdk/internal/util/Preconditions"
def TJ3 : u_T := fun k => match k with
  | _ => ("", "", "", false)
def tyJ3 : Nat → FieldType := fun k => match k with
  | _ => .int
abbrev wsJ30 : List Cond := u_ws RJ3 TJ3 0
theorem nmJ3 : ∀ a, a < 0 → ∀ b, b < 0 → a ≠ b → (TJ3 a).2.1 ≠ (TJ3 b).2.1 := by decide +kernel
theorem tyJ3_ok : ∀ k, k < 0 → parseFieldDescriptor (TJ3 k).2.2.1 = some (tyJ3 k) := by decide +kernel
abbrev cJ3_checkIndex_8e157 : ByteArray := prog_41_method_11_code
def yJ3_checkIndex_8e157 : MethodName := ⟨RJ3, "checkIndex", "(IILjava/util/function/BiFunction;)I"⟩
abbrev cJ3_checkFromToIndex_8c36e : ByteArray := prog_41_method_12_code
def yJ3_checkFromToIndex_8c36e : MethodName := ⟨RJ3, "checkFromToIndex", "(IIILjava/util/function/BiFunction;)I"⟩
abbrev cJ3_checkFromIndexSize_8c36e : ByteArray := prog_41_method_13_code
def yJ3_checkFromIndexSize_8c36e : MethodName := ⟨RJ3, "checkFromIndexSize", "(IIILjava/util/function/BiFunction;)I"⟩
def RL : String := "PhoneRaterLaw"
abbrev cL_addTariff : ByteArray := method_3_code
def yL_addTariff : MethodName := ⟨RL, "addTariff", "(LPhoneRater;IIIII[J)I"⟩
abbrev cL_setZone : ByteArray := method_4_code
def yL_setZone : MethodName := ⟨RL, "setZone", "(LPhoneRater;IIII[J)I"⟩
abbrev cL_setPeak : ByteArray := method_5_code
def yL_setPeak : MethodName := ⟨RL, "setPeak", "(LPhoneRater;II[J)I"⟩
abbrev cL_addAccount : ByteArray := method_6_code
def yL_addAccount : MethodName := ⟨RL, "addAccount", "(LPhoneRater;III[J)I"⟩
abbrev cL_addLine : ByteArray := method_7_code
def yL_addLine : MethodName := ⟨RL, "addLine", "(LPhoneRater;II[J)I"⟩
abbrev cL_setTariff : ByteArray := method_8_code
def yL_setTariff : MethodName := ⟨RL, "setTariff", "(LPhoneRater;II[J)I"⟩
abbrev cL_setBundle : ByteArray := method_9_code
def yL_setBundle : MethodName := ⟨RL, "setBundle", "(LPhoneRater;II[J)I"⟩
abbrev cL_addCall : ByteArray := method_10_code
def yL_addCall : MethodName := ⟨RL, "addCall", "(LPhoneRater;IIII[J)I"⟩
abbrev cL_correct : ByteArray := method_11_code
def yL_correct : MethodName := ⟨RL, "correct", "(LPhoneRater;II[J)I"⟩
abbrev cL_callAt : ByteArray := method_12_code
def yL_callAt : MethodName := ⟨RL, "callAt", "(LPhoneRater;I[J)I"⟩
abbrev cL_isPeak : ByteArray := method_13_code
def yL_isPeak : MethodName := ⟨RL, "isPeak", "(LPhoneRater;I[J)I"⟩
abbrev cL_told : ByteArray := method_14_code
def yL_told : MethodName := ⟨RL, "told", "(LPhoneRater;II[J)I"⟩
abbrev cL_lineSum : ByteArray := method_15_code
def yL_lineSum : MethodName := ⟨RL, "lineSum", "(LPhoneRater;I[J)I"⟩
abbrev cL_daySum : ByteArray := method_16_code
def yL_daySum : MethodName := ⟨RL, "daySum", "(LPhoneRater;I[J)I"⟩
abbrev cL_sum : ByteArray := method_17_code
def yL_sum : MethodName := ⟨RL, "sum", "(LPhoneRater;I[J)I"⟩
abbrev cL_total : ByteArray := method_18_code
def yL_total : MethodName := ⟨RL, "total", "(LPhoneRater;I[J)I"⟩
abbrev cL_left : ByteArray := method_19_code
def yL_left : MethodName := ⟨RL, "left", "(LPhoneRater;I[J)I"⟩
abbrev cL_emptied : ByteArray := method_20_code
def yL_emptied : MethodName := ⟨RL, "emptied", "(LPhoneRater;I[J)I"⟩
abbrev cL_dayFees : ByteArray := method_21_code
def yL_dayFees : MethodName := ⟨RL, "dayFees", "(LPhoneRater;II[J)I"⟩
abbrev cL_totalWith : ByteArray := method_22_code
def yL_totalWith : MethodName := ⟨RL, "totalWith", "(LPhoneRater;II[J)I"⟩
abbrev cL_bestTariff : ByteArray := method_23_code
def yL_bestTariff : MethodName := ⟨RL, "bestTariff", "(LPhoneRater;I[J)I"⟩
abbrev cL_law : ByteArray := code
def yL_law : MethodName := ⟨RL, "law", "([I)Z"⟩
def wsL_law0_r1 : List Cond := [Cond.classLink RL 8 RX4, Cond.instantiable RX4 7, Cond.initialized RX4, Cond.classLink RL 86 RX5, Cond.instantiable RX5 19, Cond.initialized RX5, Cond.arrayClass .long, Cond.methodLink RL 85 yX4_init, Cond.instanceMethod yX4_init, Cond.code yX4_init cX4_init 1 none, Cond.methodLink RX4 1 objectInit, Cond.instanceMethod objectInit, Cond.code objectInit ⟨#[0xb1]⟩ 1 none, Cond.classLink RX4 7 RJx4a65c, Cond.instantiable RJx4a65c 3, Cond.initialized RJx4a65c, Cond.fieldLink RX4 10 "PhoneRater" "tariffs" "Ljava/util/ArrayList;", Cond.fieldLink RX4 16 "PhoneRater" "accounts" "Ljava/util/ArrayList;", Cond.fieldLink RX4 19 "PhoneRater" "lines" "Ljava/util/ArrayList;", Cond.fieldLink RX4 22 "PhoneRater" "calls" "Ljava/util/ArrayList;", Cond.fieldLink RX4 25 "PhoneRater" "ordered" "Ljava/util/ArrayList;", Cond.fieldLink RX4 28 "PhoneRater" "firstOfPeak" "I", Cond.fieldLink RX4 32 "PhoneRater" "lastOfPeak" "I", Cond.methodLink RX4 9 yJx4a65c_init_da8c8]
def wsL_law0_r2 : List Cond := [Cond.instanceMethod yJx4a65c_init_da8c8, Cond.code yJx4a65c_init_da8c8 cJx4a65c_init_da8c8 1 none, Cond.fieldLink RJx4a65c 39 "java/util/ArrayList" "DEFAULTCAPACITY_EMPTY_ELEMENTDATA" "[Ljava/lang/Object;", Cond.fieldLink RJx4a65c 9 "java/util/ArrayList" "elementData" "[Ljava/lang/Object;", Cond.methodLink RJx4a65c 1 yJxc12de_init_da8c8, Cond.instanceMethod yJxc12de_init_da8c8, Cond.initialized RJxc12de, Cond.code yJxc12de_init_da8c8 cJxc12de_init_da8c8 1 none, Cond.fieldLink RJxc12de 7 "java/util/AbstractList" "modCount" "I", Cond.methodLink RJxc12de 1 yJxa1e45_init_da8c8, Cond.instanceMethod yJxa1e45_init_da8c8, Cond.initialized RJxa1e45, Cond.code yJxa1e45_init_da8c8 cJxa1e45_init_da8c8 1 none, Cond.methodLink RJxa1e45 1 objectInit, Cond.methodLink RL 88 yX5_init, Cond.instanceMethod yX5_init, Cond.code yX5_init cX5_init 1 none, Cond.methodLink RX5 1 objectInit, Cond.arrayClass .int, Cond.fieldLink RX5 9 "PhoneRaterModel" "table" "[I", Cond.fieldLink RX5 13 "PhoneRaterModel" "terms" "[I", Cond.fieldLink RX5 16 "PhoneRaterModel" "owners" "[I", Cond.fieldLink RX5 19 "PhoneRaterModel" "plans" "[I", Cond.fieldLink RX5 22 "PhoneRaterModel" "log" "[I"]
def wsL_law0_r3 : List Cond := [Cond.fieldLink RX5 25 "PhoneRaterModel" "peakFirst" "I", Cond.fieldLink RX5 29 "PhoneRaterModel" "peakLast" "I", Cond.fieldLink RX5 32 "PhoneRaterModel" "order" "[I", Cond.fieldLink RX5 35 "PhoneRaterModel" "billed" "[I", Cond.fieldLink RX5 38 "PhoneRaterModel" "free" "[I", Cond.fieldLink RX5 41 "PhoneRaterModel" "prices" "[I", Cond.fieldLink RX5 44 "PhoneRaterModel" "fees" "[I", Cond.fieldLink RX5 47 "PhoneRaterModel" "left" "[I", Cond.fieldLink RX5 50 "PhoneRaterModel" "emptied" "[I", Cond.methodLink RL 89 yL_addTariff, Cond.static yL_addTariff, Cond.initialized RL, Cond.codeWith yL_addTariff cL_addTariff 8 (some .int) [(0, 16, 19, 13), (0, 16, 23, 15)], Cond.classLink RL 13 "java/lang/IllegalArgumentException", Cond.classLink RL 15 "java/lang/IllegalStateException", Cond.methodLink RL 7 yX4_addTariff, Cond.instanceMethod yX4_addTariff, Cond.selects RX4 yX4_addTariff yX4_addTariff, Cond.code yX4_addTariff cX4_addTariff 7 (some .int), Cond.classLink RX4 39 "java/lang/IllegalArgumentException", Cond.initialized "java/lang/IllegalArgumentException", Cond.classLink RX4 56 "java/lang/IllegalStateException", Cond.initialized "java/lang/IllegalStateException", Cond.classLink RX4 61 RX3]
def wsL_law0_r4 : List Cond := [Cond.instantiable RX3 8, Cond.initialized RX3, Cond.methodLink RX4 35 yX4_isMoney, Cond.static yX4_isMoney, Cond.code yX4_isMoney cX4_isMoney 1 (some .boolean), Cond.methodLink RX4 46 yX4_isWithin, Cond.static yX4_isWithin, Cond.code yX4_isWithin cX4_isWithin 3 (some .boolean), Cond.methodLink RX4 52 yJx4a65c_size_8abf5, Cond.instanceMethod yJx4a65c_size_8abf5, Cond.selects RJx4a65c yJx4a65c_size_8abf5 yJx4a65c_size_8abf5, Cond.code yJx4a65c_size_8abf5 cJx4a65c_size_8abf5 1 (some .int), Cond.fieldLink RJx4a65c 48 "java/util/ArrayList" "size" "I", Cond.methodLink RX4 63 yX3_init, Cond.instanceMethod yX3_init, Cond.code yX3_init cX3_init 7 none, Cond.methodLink RX3 3 objectInit, Cond.fieldLink RX3 9 "PhoneRater$Tariff" "zoneRate" "[I", Cond.fieldLink RX3 15 "PhoneRater$Tariff" "zoneDayFee" "[I", Cond.fieldLink RX3 18 "PhoneRater$Tariff" "number" "I", Cond.fieldLink RX3 22 "PhoneRater$Tariff" "connection" "I", Cond.fieldLink RX3 25 "PhoneRater$Tariff" "peak" "I", Cond.fieldLink RX3 28 "PhoneRater$Tariff" "other" "I", Cond.fieldLink RX3 31 "PhoneRater$Tariff" "first" "I"]
def wsL_law0_r5 : List Cond := [Cond.fieldLink RX3 34 "PhoneRater$Tariff" "next" "I", Cond.methodLink RX4 66 yJx4a65c_add_9ea2d, Cond.instanceMethod yJx4a65c_add_9ea2d, Cond.selects RJx4a65c yJx4a65c_add_9ea2d yJx4a65c_add_9ea2d, Cond.code yJx4a65c_add_9ea2d cJx4a65c_add_9ea2d 2 (some .boolean), Cond.fieldLink RJx4a65c 63 "java/util/ArrayList" "modCount" "I", Cond.sameField "java/util/ArrayList" "java/util/AbstractList" "modCount" "I", Cond.methodLink RJx4a65c 131 yJx4a65c_add_72be8, Cond.instanceMethod yJx4a65c_add_72be8, Cond.selects RJx4a65c yJx4a65c_add_72be8 yJx4a65c_add_72be8, Cond.code yJx4a65c_add_72be8 cJx4a65c_add_72be8 4 none, Cond.methodLink RJx4a65c 129 yJx4a65c_grow_d5877, Cond.instanceMethod yJx4a65c_grow_d5877, Cond.selects RJx4a65c yJx4a65c_grow_d5877 yJx4a65c_grow_d5877, Cond.code yJx4a65c_grow_d5877 cJx4a65c_grow_d5877 1 (some (.array (.object "java/lang/Object"))), Cond.methodLink RJx4a65c 69 yJx4a65c_grow_92f84, Cond.instanceMethod yJx4a65c_grow_92f84, Cond.selects RJx4a65c yJx4a65c_grow_92f84 yJx4a65c_grow_92f84, Cond.code yJx4a65c_grow_92f84 cJx4a65c_grow_92f84 4 (some (.array (.object "java/lang/Object"))), Cond.methodLink RJx4a65c 79 Lib.Math.max.name, Cond.static Lib.Math.max.name, Cond.initialized "java/lang/Math", Cond.code Lib.Math.max.name Lib.Math.max.code 2 (some .int), Cond.classLink RJx4a65c 7 "java/lang/Object"]
def wsL_law0_r6 : List Cond := [Cond.methodLink RJx4a65c 73 yJ8_newLength_cabcc, Cond.static yJ8_newLength_cabcc, Cond.initialized RJ8, Cond.code yJ8_newLength_cabcc cJ8_newLength_cabcc 4 (some .int), Cond.methodLink RJ8 194 Lib.Math.max.name, Cond.constant RJ8 200 (2147483639), Cond.methodLink RJ8 201 yJ8_hugeLength_7cf53, Cond.static yJ8_hugeLength_7cf53, Cond.code yJ8_hugeLength_7cf53 cJ8_hugeLength_7cf53 3 (some .int), Cond.methodLink RJx4a65c 66 yJ7_copyOf_1904c, Cond.static yJ7_copyOf_1904c, Cond.initialized RJ7, Cond.code yJ7_copyOf_1904c cJ7_copyOf_1904c 2 (some (.array (.object "java/lang/Object"))), Cond.methodLink RJ7 86 ⟨"java/lang/Object", "getClass", "()Ljava/lang/Class;"⟩, Cond.selects "[Ljava/lang/Object;" ⟨"java/lang/Object", "getClass", "()Ljava/lang/Class;"⟩ ⟨"java/lang/Object", "getClass", "()Ljava/lang/Class;"⟩, Cond.instanceMethod ⟨"java/lang/Object", "getClass", "()Ljava/lang/Class;"⟩, Cond.native ⟨"java/lang/Object", "getClass", "()Ljava/lang/Class;"⟩, Cond.methodLink RJ7 300 yJ7_copyOf_6403c, Cond.static yJ7_copyOf_6403c, Cond.code yJ7_copyOf_6403c cJ7_copyOf_6403c 4 (some (.array (.object "java/lang/Object"))), Cond.classLink RJ7 110 "[Ljava/lang/Object;", Cond.classLink RJ7 2 "java/lang/Object", Cond.methodLink RJ7 304 Lib.Math.min.name, Cond.static Lib.Math.min.name]
def wsL_law0_r7 : List Cond := [Cond.code Lib.Math.min.name Lib.Math.min.code 2 (some .int), Cond.methodLink RJ7 150 arraycopyName, Cond.native arraycopyName, Cond.static arraycopyName, Cond.initialized "java/lang/System", Cond.methodLink RL 94 yX5_addTariff, Cond.instanceMethod yX5_addTariff, Cond.selects RX5 yX5_addTariff yX5_addTariff, Cond.code yX5_addTariff cX5_addTariff 7 (some .int), Cond.fieldLink RX5 53 "PhoneRaterModel" "thrown" "I", Cond.fieldLink RX5 56 "PhoneRaterModel" "tariffs" "I", Cond.methodLink RX5 76 arraycopyName, Cond.methodLink RX5 59 yX5_isIn, Cond.static yX5_isIn, Cond.code yX5_isIn cX5_isIn 3 (some .boolean), Cond.methodLink RX5 72 yX5_fail, Cond.instanceMethod yX5_fail, Cond.selects RX5 yX5_fail yX5_fail, Cond.code yX5_fail cX5_fail 2 (some .int), Cond.methodLink RL 95 yX5_thrown, Cond.instanceMethod yX5_thrown, Cond.selects RX5 yX5_thrown yX5_thrown, Cond.code yX5_thrown cX5_thrown 1 (some .int), Cond.methodLink RL 99 yL_setZone]
def wsL_law0_r8 : List Cond := [Cond.static yL_setZone, Cond.codeWith yL_setZone cL_setZone 7 (some .int) [(0, 14, 17, 21), (0, 14, 21, 13)], Cond.classLink RL 21 "java/lang/IndexOutOfBoundsException", Cond.methodLink RL 17 yX4_setZone, Cond.instanceMethod yX4_setZone, Cond.selects RX4 yX4_setZone yX4_setZone, Cond.code yX4_setZone cX4_setZone 7 (some .int), Cond.fieldLink RX4 80 "PhoneRater$Tariff" "zoneRate" "[I", Cond.fieldLink RX4 84 "PhoneRater$Tariff" "zoneDayFee" "[I", Cond.methodLink RX4 70 yX4_findTariff, Cond.instanceMethod yX4_findTariff, Cond.selects RX4 yX4_findTariff yX4_findTariff, Cond.code yX4_findTariff cX4_findTariff 2 (some (.object "PhoneRater$Tariff")), Cond.classLink RX4 166 "java/lang/IndexOutOfBoundsException", Cond.initialized "java/lang/IndexOutOfBoundsException", Cond.classLink RX4 61 "PhoneRater$Tariff", Cond.methodLink RX4 171 yJx4a65c_get_915e3, Cond.instanceMethod yJx4a65c_get_915e3, Cond.selects RJx4a65c yJx4a65c_get_915e3 yJx4a65c_get_915e3, Cond.code yJx4a65c_get_915e3 cJx4a65c_get_915e3 2 (some (.object "java/lang/Object")), Cond.methodLink RJx4a65c 118 yJ15_checkIndex_7cf53, Cond.static yJ15_checkIndex_7cf53, Cond.initialized RJ15, Cond.code yJ15_checkIndex_7cf53 cJ15_checkIndex_7cf53 2 (some .int)]
def wsL_law0_r9 : List Cond := [Cond.methodLink RJ15 105 yJ3_checkIndex_8e157, Cond.static yJ3_checkIndex_8e157, Cond.initialized RJ3, Cond.code yJ3_checkIndex_8e157 cJ3_checkIndex_8e157 3 (some .int), Cond.methodLink RJx4a65c 123 yJx4a65c_elementData_915e3, Cond.instanceMethod yJx4a65c_elementData_915e3, Cond.selects RJx4a65c yJx4a65c_elementData_915e3 yJx4a65c_elementData_915e3, Cond.code yJx4a65c_elementData_915e3 cJx4a65c_elementData_915e3 2 (some (.object "java/lang/Object")), Cond.methodLink RX4 74 yX4_checkAbroad, Cond.static yX4_checkAbroad, Cond.code yX4_checkAbroad cX4_checkAbroad 1 none, Cond.methodLink RX4 87 yX4_rateAll, Cond.instanceMethod yX4_rateAll, Cond.selects RX4 yX4_rateAll yX4_rateAll, Cond.code yX4_rateAll cX4_rateAll 3 none, Cond.classLink RX4 105 "PhoneRater$Account", Cond.classLink RX4 116 "PhoneRater$Line", Cond.classLink RX4 148 "PhoneRater$Call", Cond.fieldLink RX4 163 "PhoneRater$Call" "seconds" "I", Cond.methodLink RX4 244 yX0_forgetRating, Cond.instanceMethod yX0_forgetRating, Cond.selects RX0 yX0_forgetRating yX0_forgetRating, Cond.initialized RX0, Cond.code yX0_forgetRating cX0_forgetRating 1 none]
def wsL_law0_r10 : List Cond := [Cond.fieldLink RX0 9 "PhoneRater$Account" "bundle" "I", Cond.fieldLink RX0 21 "PhoneRater$Account" "unused" "I", Cond.fieldLink RX0 24 "PhoneRater$Account" "emptier" "I", Cond.fieldLink RX0 27 "PhoneRater$Account" "prices" "I", Cond.methodLink RX4 247 yX2_forgetRating, Cond.instanceMethod yX2_forgetRating, Cond.selects RX2 yX2_forgetRating yX2_forgetRating, Cond.initialized RX2, Cond.code yX2_forgetRating cX2_forgetRating 2 none, Cond.fieldLink RX2 29 "PhoneRater$Line" "prices" "I", Cond.fieldLink RX2 9 "PhoneRater$Line" "feesPaid" "[I", Cond.fieldLink RX2 15 "PhoneRater$Line" "lastFeeDay" "[I", Cond.methodLink RX4 248 yX1_forgetRating, Cond.instanceMethod yX1_forgetRating, Cond.selects RX1 yX1_forgetRating yX1_forgetRating, Cond.initialized RX1, Cond.code yX1_forgetRating cX1_forgetRating 1 none, Cond.fieldLink RX1 28 "PhoneRater$Call" "billed" "I", Cond.fieldLink RX1 31 "PhoneRater$Call" "free" "I", Cond.fieldLink RX1 34 "PhoneRater$Call" "price" "I", Cond.fieldLink RX1 37 "PhoneRater$Call" "dayFee" "I", Cond.methodLink RX4 249 yX4_rate, Cond.instanceMethod yX4_rate, Cond.selects RX4 yX4_rate yX4_rate]
def wsL_law0_r11 : List Cond := [Cond.code yX4_rate cX4_rate 5 none, Cond.fieldLink RX4 252 "PhoneRater$Call" "line" "LPhoneRater$Line;", Cond.fieldLink RX4 125 "PhoneRater$Line" "tariff" "LPhoneRater$Tariff;", Cond.fieldLink RX4 217 "PhoneRater$Call" "billed" "I", Cond.fieldLink RX4 259 "PhoneRater$Call" "zone" "I", Cond.fieldLink RX4 210 "PhoneRater$Line" "account" "LPhoneRater$Account;", Cond.fieldLink RX4 214 "PhoneRater$Call" "free" "I", Cond.fieldLink RX4 266 "PhoneRater$Tariff" "peak" "I", Cond.fieldLink RX4 269 "PhoneRater$Tariff" "other" "I", Cond.fieldLink RX4 275 "PhoneRater$Call" "dayFee" "I", Cond.fieldLink RX4 186 "PhoneRater$Call" "price" "I", Cond.fieldLink RX4 189 "PhoneRater$Line" "prices" "I", Cond.fieldLink RX4 197 "PhoneRater$Account" "prices" "I", Cond.methodLink RX4 256 yX3_billedFor, Cond.instanceMethod yX3_billedFor, Cond.selects RX3 yX3_billedFor yX3_billedFor, Cond.code yX3_billedFor cX3_billedFor 3 (some .int), Cond.methodLink RX4 262 yX0_takeFromBundle, Cond.instanceMethod yX0_takeFromBundle, Cond.selects RX0 yX0_takeFromBundle yX0_takeFromBundle, Cond.code yX0_takeFromBundle cX0_takeFromBundle 3 (some .int), Cond.fieldLink RX0 30 "PhoneRater$Call" "billed" "I", Cond.methodLink RX0 35 Lib.Math.min.name, Cond.fieldLink RX0 41 "PhoneRater$Call" "number" "I"]
def wsL_law0_r12 : List Cond := [Cond.methodLink RX4 176 yX4_beginsInPeak, Cond.instanceMethod yX4_beginsInPeak, Cond.selects RX4 yX4_beginsInPeak yX4_beginsInPeak, Cond.code yX4_beginsInPeak cX4_beginsInPeak 4 (some .boolean), Cond.fieldLink RX4 238 "PhoneRater$Call" "minute" "I", Cond.methodLink RX4 194 yX1_day, Cond.instanceMethod yX1_day, Cond.selects RX1 yX1_day yX1_day, Cond.code yX1_day cX1_day 1 (some .int), Cond.fieldLink RX1 19 "PhoneRater$Call" "minute" "I", Cond.methodLink RX4 272 yX4_rateDayFee, Cond.static yX4_rateDayFee, Cond.code yX4_rateDayFee cX4_rateDayFee 4 none, Cond.methodLink RX4 282 yX2_beginsFeeDay, Cond.instanceMethod yX2_beginsFeeDay, Cond.selects RX2 yX2_beginsFeeDay yX2_beginsFeeDay, Cond.code yX2_beginsFeeDay cX2_beginsFeeDay 3 (some .boolean), Cond.fieldLink RX2 18 "PhoneRater$Line" "freeOfDay" "[I", Cond.methodLink RX4 286 yX2_takeFreeOfDay, Cond.instanceMethod yX2_takeFreeOfDay, Cond.selects RX2 yX2_takeFreeOfDay yX2_takeFreeOfDay, Cond.code yX2_takeFreeOfDay cX2_takeFreeOfDay 4 (some .int), Cond.methodLink RX2 33 Lib.Math.min.name, Cond.methodLink RX4 278 yX3_chargeFor]
def wsL_law0_r13 : List Cond := [Cond.instanceMethod yX3_chargeFor, Cond.selects RX3 yX3_chargeFor yX3_chargeFor, Cond.code yX3_chargeFor cX3_chargeFor 3 (some .int), Cond.methodLink RL 102 yX5_setZone, Cond.instanceMethod yX5_setZone, Cond.selects RX5 yX5_setZone yX5_setZone, Cond.code yX5_setZone cX5_setZone 7 (some .int), Cond.methodLink RX5 82 yX5_isTariff, Cond.instanceMethod yX5_isTariff, Cond.selects RX5 yX5_isTariff yX5_isTariff, Cond.code yX5_isTariff cX5_isTariff 2 (some .boolean), Cond.methodLink RL 103 yL_setPeak, Cond.static yL_setPeak, Cond.codeWith yL_setPeak cL_setPeak 5 (some .int) [(0, 17, 20, 13)], Cond.methodLink RL 23 yX4_setPeak, Cond.instanceMethod yX4_setPeak, Cond.selects RX4 yX4_setPeak yX4_setPeak, Cond.code yX4_setPeak cX4_setPeak 4 (some .boolean), Cond.methodLink RX4 90 yX4_isMinuteOfDay, Cond.static yX4_isMinuteOfDay, Cond.code yX4_isMinuteOfDay cX4_isMinuteOfDay 1 (some .boolean), Cond.methodLink RL 106 yX5_setPeak, Cond.instanceMethod yX5_setPeak, Cond.selects RX5 yX5_setPeak yX5_setPeak]
def wsL_law0_r14 : List Cond := [Cond.code yX5_setPeak cX5_setPeak 4 (some .boolean), Cond.methodLink RL 107 yL_addAccount, Cond.static yL_addAccount, Cond.codeWith yL_addAccount cL_addAccount 6 (some .int) [(0, 12, 15, 13), (0, 12, 19, 15)], Cond.methodLink RL 27 yX4_addAccount, Cond.instanceMethod yX4_addAccount, Cond.selects RX4 yX4_addAccount yX4_addAccount, Cond.code yX4_addAccount cX4_addAccount 5 (some .int), Cond.constant RX4 98 (1000000), Cond.classLink RX4 105 RX0, Cond.instantiable RX0 6, Cond.methodLink RX4 95 yX4_checkBundle, Cond.static yX4_checkBundle, Cond.code yX4_checkBundle cX4_checkBundle 1 none, Cond.constant RX4 299 (100000), Cond.methodLink RX4 107 yX0_init, Cond.instanceMethod yX0_init, Cond.code yX0_init cX0_init 4 none, Cond.methodLink RX0 3 objectInit, Cond.fieldLink RX0 15 "PhoneRater$Account" "threshold" "I", Cond.fieldLink RX0 18 "PhoneRater$Account" "percent" "I", Cond.methodLink RL 110 yX5_addAccount, Cond.instanceMethod yX5_addAccount, Cond.selects RX5 yX5_addAccount yX5_addAccount]
def wsL_law0_r15 : List Cond := [Cond.code yX5_addAccount cX5_addAccount 4 (some .int), Cond.constant RX5 86 (100000), Cond.constant RX5 87 (1000000), Cond.fieldLink RX5 63 "PhoneRaterModel" "accounts" "I", Cond.methodLink RL 111 yL_addLine, Cond.static yL_addLine, Cond.codeWith yL_addLine cL_addLine 5 (some .int) [(0, 10, 13, 21), (0, 10, 17, 15)], Cond.methodLink RL 31 yX4_addLine, Cond.instanceMethod yX4_addLine, Cond.selects RX4 yX4_addLine yX4_addLine, Cond.code yX4_addLine cX4_addLine 6 (some .int), Cond.classLink RX4 116 RX2, Cond.instantiable RX2 6, Cond.methodLink RX4 110 yX4_findAccount, Cond.instanceMethod yX4_findAccount, Cond.selects RX4 yX4_findAccount yX4_findAccount, Cond.code yX4_findAccount cX4_findAccount 2 (some (.object "PhoneRater$Account")), Cond.methodLink RX4 118 yX2_init, Cond.instanceMethod yX2_init, Cond.code yX2_init cX2_init 3 none, Cond.methodLink RX2 3 objectInit, Cond.fieldLink RX2 21 "PhoneRater$Line" "account" "LPhoneRater$Account;", Cond.fieldLink RX2 25 "PhoneRater$Line" "tariff" "LPhoneRater$Tariff;", Cond.methodLink RL 113 yX5_addLine]
def wsL_law0_r16 : List Cond := [Cond.instanceMethod yX5_addLine, Cond.selects RX5 yX5_addLine yX5_addLine, Cond.code yX5_addLine cX5_addLine 3 (some .int), Cond.fieldLink RX5 66 "PhoneRaterModel" "lines" "I", Cond.methodLink RX5 88 yX5_isAccount, Cond.instanceMethod yX5_isAccount, Cond.selects RX5 yX5_isAccount yX5_isAccount, Cond.code yX5_isAccount cX5_isAccount 2 (some .boolean), Cond.methodLink RL 114 yL_setTariff, Cond.static yL_setTariff, Cond.codeWith yL_setTariff cL_setTariff 5 (some .int) [(0, 10, 13, 21)], Cond.methodLink RL 35 yX4_setTariff, Cond.instanceMethod yX4_setTariff, Cond.selects RX4 yX4_setTariff yX4_setTariff, Cond.code yX4_setTariff cX4_setTariff 6 (some .int), Cond.fieldLink RX4 129 "PhoneRater$Tariff" "number" "I", Cond.methodLink RX4 121 yX4_findLine, Cond.instanceMethod yX4_findLine, Cond.selects RX4 yX4_findLine yX4_findLine, Cond.code yX4_findLine cX4_findLine 2 (some (.object "PhoneRater$Line")), Cond.methodLink RX4 132 yX4_giveTariff, Cond.instanceMethod yX4_giveTariff, Cond.selects RX4 yX4_giveTariff yX4_giveTariff, Cond.code yX4_giveTariff cX4_giveTariff 3 none]
def wsL_law0_r17 : List Cond := [Cond.methodLink RL 116 yX5_setTariff, Cond.instanceMethod yX5_setTariff, Cond.selects RX5 yX5_setTariff yX5_setTariff, Cond.code yX5_setTariff cX5_setTariff 4 (some .int), Cond.methodLink RX5 91 yX5_isLine, Cond.instanceMethod yX5_isLine, Cond.selects RX5 yX5_isLine yX5_isLine, Cond.code yX5_isLine cX5_isLine 2 (some .boolean), Cond.methodLink RL 117 yL_setBundle, Cond.static yL_setBundle, Cond.codeWith yL_setBundle cL_setBundle 5 (some .int) [(0, 10, 13, 21), (0, 10, 17, 13)], Cond.methodLink RL 38 yX4_setBundle, Cond.instanceMethod yX4_setBundle, Cond.selects RX4 yX4_setBundle yX4_setBundle, Cond.code yX4_setBundle cX4_setBundle 5 (some .int), Cond.fieldLink RX4 136 "PhoneRater$Account" "bundle" "I", Cond.methodLink RL 119 yX5_setBundle, Cond.instanceMethod yX5_setBundle, Cond.selects RX5 yX5_setBundle yX5_setBundle, Cond.code yX5_setBundle cX5_setBundle 4 (some .int), Cond.methodLink RL 120 yL_addCall, Cond.static yL_addCall, Cond.codeWith yL_addCall cL_addCall 7 (some .int) [(0, 14, 17, 21), (0, 14, 21, 13), (0, 14, 25, 15)], Cond.methodLink RL 41 yX4_addCall]
def wsL_law0_r18 : List Cond := [Cond.instanceMethod yX4_addCall, Cond.selects RX4 yX4_addCall yX4_addCall, Cond.code yX4_addCall cX4_addCall 8 (some .int), Cond.constant RX4 139 (43199), Cond.classLink RX4 148 RX1, Cond.instantiable RX1 9, Cond.methodLink RX4 150 yX1_init, Cond.instanceMethod yX1_init, Cond.code yX1_init cX1_init 6 none, Cond.methodLink RX1 3 objectInit, Cond.fieldLink RX1 9 "PhoneRater$Call" "number" "I", Cond.fieldLink RX1 15 "PhoneRater$Call" "line" "LPhoneRater$Line;", Cond.fieldLink RX1 22 "PhoneRater$Call" "seconds" "I", Cond.fieldLink RX1 25 "PhoneRater$Call" "zone" "I", Cond.methodLink RX4 153 yX4_putInOrder, Cond.instanceMethod yX4_putInOrder, Cond.selects RX4 yX4_putInOrder yX4_putInOrder, Cond.code yX4_putInOrder cX4_putInOrder 3 none, Cond.methodLink RX4 241 yJx4a65c_add_7a177, Cond.instanceMethod yJx4a65c_add_7a177, Cond.selects RJx4a65c yJx4a65c_add_7a177 yJx4a65c_add_7a177, Cond.code yJx4a65c_add_7a177 cJx4a65c_add_7a177 5 none, Cond.methodLink RJx4a65c 112 arraycopyName, Cond.methodLink RJx4a65c 135 yJx4a65c_rangeCheckForAdd_d00df]
def wsL_law0_r19 : List Cond := [Cond.instanceMethod yJx4a65c_rangeCheckForAdd_d00df, Cond.selects RJx4a65c yJx4a65c_rangeCheckForAdd_d00df yJx4a65c_rangeCheckForAdd_d00df, Cond.code yJx4a65c_rangeCheckForAdd_d00df cJx4a65c_rangeCheckForAdd_d00df 2 none, Cond.methodLink RL 122 yX5_addCall, Cond.instanceMethod yX5_addCall, Cond.selects RX5 yX5_addCall yX5_addCall, Cond.code yX5_addCall cX5_addCall 7 (some .int), Cond.constant RX5 94 (43199), Cond.fieldLink RX5 69 "PhoneRaterModel" "calls" "I", Cond.methodLink RL 123 yL_correct, Cond.static yL_correct, Cond.codeWith yL_correct cL_correct 5 (some .int) [(0, 10, 13, 21), (0, 10, 17, 13)], Cond.methodLink RL 44 yX4_correct, Cond.instanceMethod yX4_correct, Cond.selects RX4 yX4_correct yX4_correct, Cond.code yX4_correct cX4_correct 5 (some .int), Cond.methodLink RX4 157 yX4_findCall, Cond.instanceMethod yX4_findCall, Cond.selects RX4 yX4_findCall yX4_findCall, Cond.code yX4_findCall cX4_findCall 2 (some (.object "PhoneRater$Call")), Cond.methodLink RL 125 yX5_correct, Cond.instanceMethod yX5_correct, Cond.selects RX5 yX5_correct yX5_correct, Cond.code yX5_correct cX5_correct 4 (some .int)]
def wsL_law0_r20 : List Cond := [Cond.methodLink RX5 95 yX5_isCall, Cond.instanceMethod yX5_isCall, Cond.selects RX5 yX5_isCall yX5_isCall, Cond.code yX5_isCall cX5_isCall 2 (some .boolean), Cond.methodLink RL 126 yX4_callCount, Cond.instanceMethod yX4_callCount, Cond.selects RX4 yX4_callCount yX4_callCount, Cond.code yX4_callCount cX4_callCount 1 (some .int), Cond.methodLink RL 129 yX5_callCount, Cond.instanceMethod yX5_callCount, Cond.selects RX5 yX5_callCount yX5_callCount, Cond.code yX5_callCount cX5_callCount 1 (some .int), Cond.methodLink RL 130 yL_callAt, Cond.static yL_callAt, Cond.codeWith yL_callAt cL_callAt 4 (some .int) [(0, 9, 12, 21)], Cond.methodLink RL 47 yX4_callAt, Cond.instanceMethod yX4_callAt, Cond.selects RX4 yX4_callAt yX4_callAt, Cond.code yX4_callAt cX4_callAt 2 (some .int), Cond.fieldLink RX4 175 "PhoneRater$Call" "number" "I", Cond.methodLink RL 133 yX5_callAt, Cond.instanceMethod yX5_callAt, Cond.selects RX5 yX5_callAt yX5_callAt, Cond.code yX5_callAt cX5_callAt 2 (some .int)]
def wsL_law0_r21 : List Cond := [Cond.methodLink RL 134 yL_isPeak, Cond.static yL_isPeak, Cond.codeWith yL_isPeak cL_isPeak 4 (some .int) [(0, 16, 19, 21)], Cond.methodLink RL 51 yX4_isPeak, Cond.instanceMethod yX4_isPeak, Cond.selects RX4 yX4_isPeak yX4_isPeak, Cond.code yX4_isPeak cX4_isPeak 2 (some .boolean), Cond.methodLink RL 136 yX5_isPeak, Cond.instanceMethod yX5_isPeak, Cond.selects RX5 yX5_isPeak yX5_isPeak, Cond.code yX5_isPeak cX5_isPeak 2 (some .boolean), Cond.methodLink RX5 101 yX5_isInPeak, Cond.instanceMethod yX5_isInPeak, Cond.selects RX5 yX5_isInPeak yX5_isInPeak, Cond.code yX5_isInPeak cX5_isInPeak 3 (some .boolean), Cond.methodLink RX5 98 yX5_dayOf, Cond.static yX5_dayOf, Cond.code yX5_dayOf cX5_dayOf 1 (some .int), Cond.methodLink RL 137 yL_told, Cond.static yL_told, Cond.codeWith yL_told cL_told 5 (some .int) [(0, 10, 13, 21)], Cond.methodLink RL 55 yX4_told, Cond.instanceMethod yX4_told, Cond.selects RX4 yX4_told yX4_told]
def wsL_law0_r22 : List Cond := [Cond.code yX4_told cX4_told 4 (some .int), Cond.methodLink RX4 182 yX1_tell, Cond.instanceMethod yX1_tell, Cond.selects RX1 yX1_tell yX1_tell, Cond.code yX1_tell cX1_tell 2 (some .int), Cond.methodLink RL 139 yX5_told, Cond.instanceMethod yX5_told, Cond.selects RX5 yX5_told yX5_told, Cond.code yX5_told cX5_told 3 (some .int), Cond.methodLink RX5 120 yX5_rateAll, Cond.instanceMethod yX5_rateAll, Cond.selects RX5 yX5_rateAll yX5_rateAll, Cond.code yX5_rateAll cX5_rateAll 2 none, Cond.methodLink RX5 116 yX5_rate, Cond.instanceMethod yX5_rate, Cond.selects RX5 yX5_rate yX5_rate, Cond.code yX5_rate cX5_rate 12 none, Cond.methodLink RX5 110 Lib.Math.min.name, Cond.methodLink RX5 104 Lib.Math.max.name, Cond.methodLink RX5 113 yX5_earlier, Cond.instanceMethod yX5_earlier, Cond.selects RX5 yX5_earlier yX5_earlier, Cond.code yX5_earlier cX5_earlier 7 (some .int), Cond.methodLink RX5 123 yX5_toldOf]
def wsL_law0_r23 : List Cond := [Cond.instanceMethod yX5_toldOf, Cond.selects RX5 yX5_toldOf yX5_toldOf, Cond.code yX5_toldOf cX5_toldOf 3 (some .int), Cond.methodLink RL 140 yX4_dearest, Cond.instanceMethod yX4_dearest, Cond.selects RX4 yX4_dearest yX4_dearest, Cond.code yX4_dearest cX4_dearest 5 (some .int), Cond.methodLink RL 143 yX5_dearest, Cond.instanceMethod yX5_dearest, Cond.selects RX5 yX5_dearest yX5_dearest, Cond.code yX5_dearest cX5_dearest 3 (some .int), Cond.methodLink RL 144 yL_lineSum, Cond.static yL_lineSum, Cond.codeWith yL_lineSum cL_lineSum 4 (some .int) [(0, 9, 12, 21)], Cond.methodLink RL 58 yX4_lineSum, Cond.instanceMethod yX4_lineSum, Cond.selects RX4 yX4_lineSum yX4_lineSum, Cond.code yX4_lineSum cX4_lineSum 2 (some .int), Cond.methodLink RL 146 yX5_lineSum, Cond.instanceMethod yX5_lineSum, Cond.selects RX5 yX5_lineSum yX5_lineSum, Cond.code yX5_lineSum cX5_lineSum 2 (some .int), Cond.methodLink RX5 126 yX5_lineSumOf, Cond.instanceMethod yX5_lineSumOf]
def wsL_law0_r24 : List Cond := [Cond.selects RX5 yX5_lineSumOf yX5_lineSumOf, Cond.code yX5_lineSumOf cX5_lineSumOf 4 (some .int), Cond.methodLink RL 147 yL_daySum, Cond.static yL_daySum, Cond.codeWith yL_daySum cL_daySum 4 (some .int) [(0, 9, 12, 21)], Cond.methodLink RL 61 yX4_daySum, Cond.instanceMethod yX4_daySum, Cond.selects RX4 yX4_daySum yX4_daySum, Cond.code yX4_daySum cX4_daySum 5 (some .int), Cond.methodLink RL 149 yX5_daySum, Cond.instanceMethod yX5_daySum, Cond.selects RX5 yX5_daySum yX5_daySum, Cond.code yX5_daySum cX5_daySum 4 (some .int), Cond.methodLink RL 150 yL_sum, Cond.static yL_sum, Cond.codeWith yL_sum cL_sum 4 (some .int) [(0, 9, 12, 21)], Cond.methodLink RL 64 yX4_sum, Cond.instanceMethod yX4_sum, Cond.selects RX4 yX4_sum yX4_sum, Cond.code yX4_sum cX4_sum 2 (some .int), Cond.methodLink RL 152 yX5_sum, Cond.instanceMethod yX5_sum, Cond.selects RX5 yX5_sum yX5_sum, Cond.code yX5_sum cX5_sum 2 (some .int)]
def wsL_law0_r25 : List Cond := [Cond.methodLink RX5 129 yX5_sumOf, Cond.instanceMethod yX5_sumOf, Cond.selects RX5 yX5_sumOf yX5_sumOf, Cond.code yX5_sumOf cX5_sumOf 4 (some .int), Cond.methodLink RL 153 yL_total, Cond.static yL_total, Cond.codeWith yL_total cL_total 4 (some .int) [(0, 9, 12, 21)], Cond.methodLink RL 67 yX4_total, Cond.instanceMethod yX4_total, Cond.selects RX4 yX4_total yX4_total, Cond.code yX4_total cX4_total 2 (some .int), Cond.methodLink RX4 198 yX0_cents, Cond.instanceMethod yX0_cents, Cond.selects RX0 yX0_cents yX0_cents, Cond.code yX0_cents cX0_cents 4 (some .int), Cond.methodLink RX0 44 Lib.Math.max.name, Cond.constantLong RX0 47 (100), Cond.methodLink RL 155 yX5_total, Cond.instanceMethod yX5_total, Cond.selects RX5 yX5_total yX5_total, Cond.code yX5_total cX5_total 2 (some .int), Cond.methodLink RX5 134 yX5_totalOf, Cond.instanceMethod yX5_totalOf, Cond.selects RX5 yX5_totalOf yX5_totalOf]
def wsL_law0_r26 : List Cond := [Cond.code yX5_totalOf cX5_totalOf 5 (some .int), Cond.constantLong RX5 132 (100), Cond.methodLink RL 156 yL_left, Cond.static yL_left, Cond.codeWith yL_left cL_left 4 (some .int) [(0, 9, 12, 21)], Cond.methodLink RL 70 yX4_left, Cond.instanceMethod yX4_left, Cond.selects RX4 yX4_left yX4_left, Cond.code yX4_left cX4_left 2 (some .int), Cond.fieldLink RX4 201 "PhoneRater$Account" "unused" "I", Cond.methodLink RL 158 yX5_left, Cond.instanceMethod yX5_left, Cond.selects RX5 yX5_left yX5_left, Cond.code yX5_left cX5_left 2 (some .int), Cond.methodLink RL 159 yL_emptied, Cond.static yL_emptied, Cond.codeWith yL_emptied cL_emptied 4 (some .int) [(0, 9, 12, 21)], Cond.methodLink RL 73 yX4_emptied, Cond.instanceMethod yX4_emptied, Cond.selects RX4 yX4_emptied yX4_emptied, Cond.code yX4_emptied cX4_emptied 2 (some .int), Cond.fieldLink RX4 204 "PhoneRater$Account" "emptier" "I", Cond.methodLink RL 161 yX5_emptied, Cond.instanceMethod yX5_emptied]
def wsL_law0_r27 : List Cond := [Cond.selects RX5 yX5_emptied yX5_emptied, Cond.code yX5_emptied cX5_emptied 2 (some .int), Cond.methodLink RL 162 yL_dayFees, Cond.static yL_dayFees, Cond.codeWith yL_dayFees cL_dayFees 5 (some .int) [(0, 10, 13, 21)], Cond.methodLink RL 76 yX4_dayFees, Cond.instanceMethod yX4_dayFees, Cond.selects RX4 yX4_dayFees yX4_dayFees, Cond.code yX4_dayFees cX4_dayFees 4 (some .int), Cond.fieldLink RX4 207 "PhoneRater$Line" "feesPaid" "[I", Cond.methodLink RL 164 yX5_dayFees, Cond.instanceMethod yX5_dayFees, Cond.selects RX5 yX5_dayFees yX5_dayFees, Cond.code yX5_dayFees cX5_dayFees 5 (some .int), Cond.methodLink RL 165 yL_totalWith, Cond.static yL_totalWith, Cond.codeWith yL_totalWith cL_totalWith 5 (some .int) [(0, 10, 13, 21)], Cond.methodLink RL 79 yX4_totalWith, Cond.instanceMethod yX4_totalWith, Cond.selects RX4 yX4_totalWith yX4_totalWith, Cond.code yX4_totalWith cX4_totalWith 7 (some .int), Cond.methodLink RL 167 yX5_totalWith, Cond.instanceMethod yX5_totalWith, Cond.selects RX5 yX5_totalWith yX5_totalWith]
def wsL_law0_r28 : List Cond := [Cond.code yX5_totalWith cX5_totalWith 3 (some .int), Cond.methodLink RX5 137 yX5_with, Cond.instanceMethod yX5_with, Cond.selects RX5 yX5_with yX5_with, Cond.code yX5_with cX5_with 4 (some .int), Cond.methodLink RL 168 yL_bestTariff, Cond.static yL_bestTariff, Cond.codeWith yL_bestTariff cL_bestTariff 4 (some .int) [(0, 9, 12, 21)], Cond.methodLink RL 82 yX4_bestTariff, Cond.instanceMethod yX4_bestTariff, Cond.selects RX4 yX4_bestTariff yX4_bestTariff, Cond.code yX4_bestTariff cX4_bestTariff 8 (some .int), Cond.methodLink RL 170 yX5_bestTariff, Cond.instanceMethod yX5_bestTariff, Cond.selects RX5 yX5_bestTariff yX5_bestTariff, Cond.code yX5_bestTariff cX5_bestTariff 4 (some .int), Cond.methodLink RL 171 yX4_freeShare, Cond.instanceMethod yX4_freeShare, Cond.selects RX4 yX4_freeShare yX4_freeShare, Cond.code yX4_freeShare cX4_freeShare 5 (some .double), Cond.methodLink RL 175 yX5_freeShare, Cond.instanceMethod yX5_freeShare, Cond.selects RX5 yX5_freeShare yX5_freeShare, Cond.code yX5_freeShare cX5_freeShare 4 (some .double)]
def wsL_law0_r29 : List Cond := [Cond.methodLink RL 176 yX4_digest, Cond.instanceMethod yX4_digest, Cond.selects RX4 yX4_digest yX4_digest, Cond.code yX4_digest cX4_digest 3 (some .long), Cond.constantLong RX4 220 (193), Cond.methodLink RX4 222 yX4_mix, Cond.static yX4_mix, Cond.code yX4_mix cX4_mix 3 (some .long), Cond.constantLong RX4 236 (31), Cond.methodLink RX4 226 yX4_mixLines, Cond.instanceMethod yX4_mixLines, Cond.selects RX4 yX4_mixLines yX4_mixLines, Cond.code yX4_mixLines cX4_mixLines 7 (some .long), Cond.methodLink RX4 230 yX4_mixAccounts, Cond.instanceMethod yX4_mixAccounts, Cond.selects RX4 yX4_mixAccounts yX4_mixAccounts, Cond.code yX4_mixAccounts cX4_mixAccounts 7 (some .long), Cond.methodLink RX4 233 yX4_mixCalls, Cond.instanceMethod yX4_mixCalls, Cond.selects RX4 yX4_mixCalls yX4_mixCalls, Cond.code yX4_mixCalls cX4_mixCalls 8 (some .long), Cond.methodLink RL 180 yX5_digest, Cond.instanceMethod yX5_digest, Cond.selects RX5 yX5_digest yX5_digest]
def wsL_law0_r30 : List Cond := [Cond.code yX5_digest cX5_digest 5 (some .long), Cond.constantLong RX5 140 (5983), Cond.constantLong RX5 142 (31)]
def wsL_law0 : List Cond := (wsL_law0_r1 ++ (wsL_law0_r2 ++ (wsL_law0_r3 ++ (wsL_law0_r4 ++ (wsL_law0_r5 ++ (wsL_law0_r6 ++ (wsL_law0_r7 ++ (wsL_law0_r8 ++ (wsL_law0_r9 ++ (wsL_law0_r10 ++ (wsL_law0_r11 ++ (wsL_law0_r12 ++ (wsL_law0_r13 ++ (wsL_law0_r14 ++ (wsL_law0_r15 ++ (wsL_law0_r16 ++ (wsL_law0_r17 ++ (wsL_law0_r18 ++ (wsL_law0_r19 ++ (wsL_law0_r20 ++ (wsL_law0_r21 ++ (wsL_law0_r22 ++ (wsL_law0_r23 ++ (wsL_law0_r24 ++ (wsL_law0_r25 ++ (wsL_law0_r26 ++ (wsL_law0_r27 ++ (wsL_law0_r28 ++ (wsL_law0_r29 ++ wsL_law0_r30))))))))))))))))))))))))))))) ++ wsX40 ++ wsX50 ++ wsJx4a65c0 ++ wsX30 ++ wsX10 ++ wsX00 ++ wsX20 ++ ([] : List Cond)
def wsL_law : List Cond := wsL_law0 ++ (vx_atS RX4 43 "java/lang/IllegalArgumentException" ["java/lang/RuntimeException", "java/lang/Exception"]).filter goodWord ++ (vx_atS RX4 60 "java/lang/IllegalStateException" ["java/lang/RuntimeException", "java/lang/Exception"]).filter goodWord ++ (vx_atS RX4 170 "java/lang/IndexOutOfBoundsException" ["java/lang/RuntimeException", "java/lang/Exception"]).filter goodWord
theorem inlX0 : ∀ w ∈ wsX00, w ∈ wsL_law := fun _ h => List.mem_append_left _ (List.mem_append_left _ (List.mem_append_left _ (List.mem_append_left _ (List.mem_append_left _ (List.mem_append_right _ h)))))
theorem inlX1 : ∀ w ∈ wsX10, w ∈ wsL_law := fun _ h => List.mem_append_left _ (List.mem_append_left _ (List.mem_append_left _ (List.mem_append_left _ (List.mem_append_left _ (List.mem_append_left _ (List.mem_append_right _ h))))))
theorem inlX2 : ∀ w ∈ wsX20, w ∈ wsL_law := fun _ h => List.mem_append_left _ (List.mem_append_left _ (List.mem_append_left _ (List.mem_append_left _ (List.mem_append_right _ h))))
theorem inlX3 : ∀ w ∈ wsX30, w ∈ wsL_law := fun _ h => List.mem_append_left _ (List.mem_append_left _ (List.mem_append_left _ (List.mem_append_left _ (List.mem_append_left _ (List.mem_append_left _ (List.mem_append_left _ (List.mem_append_right _ h)))))))
theorem inlX4 : ∀ w ∈ wsX40, w ∈ wsL_law := fun _ h => List.mem_append_left _ (List.mem_append_left _ (List.mem_append_left _ (List.mem_append_left _ (List.mem_append_left _ (List.mem_append_left _ (List.mem_append_left _ (List.mem_append_left _ (List.mem_append_left _ (List.mem_append_left _ (List.mem_append_right _ h))))))))))
theorem inlX5 : ∀ w ∈ wsX50, w ∈ wsL_law := fun _ h => List.mem_append_left _ (List.mem_append_left _ (List.mem_append_left _ (List.mem_append_left _ (List.mem_append_left _ (List.mem_append_left _ (List.mem_append_left _ (List.mem_append_left _ (List.mem_append_left _ (List.mem_append_right _ h)))))))))
theorem inlJx4a65c : ∀ w ∈ wsJx4a65c0, w ∈ wsL_law := fun _ h => List.mem_append_left _ (List.mem_append_left _ (List.mem_append_left _ (List.mem_append_left _ (List.mem_append_left _ (List.mem_append_left _ (List.mem_append_left _ (List.mem_append_left _ (List.mem_append_right _ h))))))))
abbrev vwCl : List vw_C := [(RJ0, TJ0, 4), (RJ4, TJ4, 4), (RJx4a65c, TJx4a65c, 3), (RX0, TX0, 6), (RX1, TX1, 9), (RX2, TX2, 6), (RX3, TX3, 8), (RX4, TX4, 7), (RX5, TX5, 19)]
end
section
theorem dX0_init_0 : decode cX0_init 0 = .ok (.aload_n 0, 1) := by decide +kernel
theorem dX0_init_1 : decode cX0_init 1 = .ok (.invokespecial 3, 3) := by decide +kernel
theorem dX0_init_4 : decode cX0_init 4 = .ok (.aload_n 0, 1) := by decide +kernel
theorem dX0_init_5 : decode cX0_init 5 = .ok (.iload_n 1, 1) := by decide +kernel
theorem dX0_init_6 : decode cX0_init 6 = .ok (.putfield 9, 3) := by decide +kernel
theorem dX0_init_9 : decode cX0_init 9 = .ok (.aload_n 0, 1) := by decide +kernel
theorem dX0_init_10 : decode cX0_init 10 = .ok (.iload_n 2, 1) := by decide +kernel
theorem dX0_init_11 : decode cX0_init 11 = .ok (.putfield 15, 3) := by decide +kernel
theorem dX0_init_14 : decode cX0_init 14 = .ok (.aload_n 0, 1) := by decide +kernel
theorem dX0_init_15 : decode cX0_init 15 = .ok (.iload_n 3, 1) := by decide +kernel
theorem dX0_init_16 : decode cX0_init 16 = .ok (.putfield 18, 3) := by decide +kernel
theorem dX0_init_19 : decode cX0_init 19 = .ok (.aload_n 0, 1) := by decide +kernel
theorem dX0_init_20 : decode cX0_init 20 = .ok (.iload_n 1, 1) := by decide +kernel
theorem dX0_init_21 : decode cX0_init 21 = .ok (.putfield 21, 3) := by decide +kernel
theorem dX0_init_24 : decode cX0_init 24 = .ok (.aload_n 0, 1) := by decide +kernel
theorem dX0_init_25 : decode cX0_init 25 = .ok (.iconst (-1), 1) := by decide +kernel
theorem dX0_init_26 : decode cX0_init 26 = .ok (.putfield 24, 3) := by decide +kernel
theorem dX0_init_29 : decode cX0_init 29 = .ok (.return_, 1) := by decide +kernel
theorem dX0_forgetRating_0 : decode cX0_forgetRating 0 = .ok (.aload_n 0, 1) := by decide +kernel
theorem dX0_forgetRating_1 : decode cX0_forgetRating 1 = .ok (.aload_n 0, 1) := by decide +kernel
theorem dX0_forgetRating_2 : decode cX0_forgetRating 2 = .ok (.getfield 9, 3) := by decide +kernel
theorem dX0_forgetRating_5 : decode cX0_forgetRating 5 = .ok (.putfield 21, 3) := by decide +kernel
theorem dX0_forgetRating_8 : decode cX0_forgetRating 8 = .ok (.aload_n 0, 1) := by decide +kernel
theorem dX0_forgetRating_9 : decode cX0_forgetRating 9 = .ok (.iconst (-1), 1) := by decide +kernel
theorem dX0_forgetRating_10 : decode cX0_forgetRating 10 = .ok (.putfield 24, 3) := by decide +kernel
theorem dX0_forgetRating_13 : decode cX0_forgetRating 13 = .ok (.aload_n 0, 1) := by decide +kernel
theorem dX0_forgetRating_14 : decode cX0_forgetRating 14 = .ok (.iconst 0, 1) := by decide +kernel
theorem dX0_forgetRating_15 : decode cX0_forgetRating 15 = .ok (.putfield 27, 3) := by decide +kernel
theorem dX0_forgetRating_18 : decode cX0_forgetRating 18 = .ok (.return_, 1) := by decide +kernel
theorem dX0_takeFromBundle_0 : decode cX0_takeFromBundle 0 = .ok (.aload_n 0, 1) := by decide +kernel
theorem dX0_takeFromBundle_1 : decode cX0_takeFromBundle 1 = .ok (.getfield 21, 3) := by decide +kernel
theorem dX0_takeFromBundle_4 : decode cX0_takeFromBundle 4 = .ok (.aload_n 1, 1) := by decide +kernel
theorem dX0_takeFromBundle_5 : decode cX0_takeFromBundle 5 = .ok (.getfield 30, 3) := by decide +kernel
theorem dX0_takeFromBundle_8 : decode cX0_takeFromBundle 8 = .ok (.invokestatic 35, 3) := by decide +kernel
theorem dX0_takeFromBundle_11 : decode cX0_takeFromBundle 11 = .ok (.istore_n 2, 1) := by decide +kernel
theorem dX0_takeFromBundle_12 : decode cX0_takeFromBundle 12 = .ok (.aload_n 0, 1) := by decide +kernel
theorem dX0_takeFromBundle_13 : decode cX0_takeFromBundle 13 = .ok (.dup, 1) := by decide +kernel
theorem dX0_takeFromBundle_14 : decode cX0_takeFromBundle 14 = .ok (.getfield 21, 3) := by decide +kernel
theorem dX0_takeFromBundle_17 : decode cX0_takeFromBundle 17 = .ok (.iload_n 2, 1) := by decide +kernel
theorem dX0_takeFromBundle_18 : decode cX0_takeFromBundle 18 = .ok (.isub, 1) := by decide +kernel
theorem dX0_takeFromBundle_19 : decode cX0_takeFromBundle 19 = .ok (.putfield 21, 3) := by decide +kernel
theorem dX0_takeFromBundle_22 : decode cX0_takeFromBundle 22 = .ok (.iload_n 2, 1) := by decide +kernel
theorem dX0_takeFromBundle_23 : decode cX0_takeFromBundle 23 = .ok (.ifCond .le 18, 3) := by decide +kernel
theorem dX0_takeFromBundle_26 : decode cX0_takeFromBundle 26 = .ok (.aload_n 0, 1) := by decide +kernel
theorem dX0_takeFromBundle_27 : decode cX0_takeFromBundle 27 = .ok (.getfield 21, 3) := by decide +kernel
theorem dX0_takeFromBundle_30 : decode cX0_takeFromBundle 30 = .ok (.ifCond .ne 11, 3) := by decide +kernel
theorem dX0_takeFromBundle_33 : decode cX0_takeFromBundle 33 = .ok (.aload_n 0, 1) := by decide +kernel
theorem dX0_takeFromBundle_34 : decode cX0_takeFromBundle 34 = .ok (.aload_n 1, 1) := by decide +kernel
theorem dX0_takeFromBundle_35 : decode cX0_takeFromBundle 35 = .ok (.getfield 41, 3) := by decide +kernel
theorem dX0_takeFromBundle_38 : decode cX0_takeFromBundle 38 = .ok (.putfield 24, 3) := by decide +kernel
theorem dX0_takeFromBundle_41 : decode cX0_takeFromBundle 41 = .ok (.iload_n 2, 1) := by decide +kernel
theorem dX0_takeFromBundle_42 : decode cX0_takeFromBundle 42 = .ok (.ireturn, 1) := by decide +kernel
theorem dX0_cents_0 : decode cX0_cents 0 = .ok (.iconst 0, 1) := by decide +kernel
theorem dX0_cents_1 : decode cX0_cents 1 = .ok (.aload_n 0, 1) := by decide +kernel
theorem dX0_cents_2 : decode cX0_cents 2 = .ok (.getfield 27, 3) := by decide +kernel
theorem dX0_cents_5 : decode cX0_cents 5 = .ok (.aload_n 0, 1) := by decide +kernel
theorem dX0_cents_6 : decode cX0_cents 6 = .ok (.getfield 15, 3) := by decide +kernel
theorem dX0_cents_9 : decode cX0_cents 9 = .ok (.isub, 1) := by decide +kernel
theorem dX0_cents_10 : decode cX0_cents 10 = .ok (.invokestatic 44, 3) := by decide +kernel
theorem dX0_cents_13 : decode cX0_cents 13 = .ok (.i2l, 1) := by decide +kernel
theorem dX0_cents_14 : decode cX0_cents 14 = .ok (.lstore_n 1, 1) := by decide +kernel
theorem dX0_cents_15 : decode cX0_cents 15 = .ok (.lload_n 1, 1) := by decide +kernel
theorem dX0_cents_16 : decode cX0_cents 16 = .ok (.aload_n 0, 1) := by decide +kernel
theorem dX0_cents_17 : decode cX0_cents 17 = .ok (.getfield 18, 3) := by decide +kernel
theorem dX0_cents_20 : decode cX0_cents 20 = .ok (.i2l, 1) := by decide +kernel
theorem dX0_cents_21 : decode cX0_cents 21 = .ok (.lmul, 1) := by decide +kernel
theorem dX0_cents_22 : decode cX0_cents 22 = .ok (.ldc2_w 47, 3) := by decide +kernel
theorem dX0_cents_25 : decode cX0_cents 25 = .ok (.ldiv, 1) := by decide +kernel
theorem dX0_cents_26 : decode cX0_cents 26 = .ok (.l2i, 1) := by decide +kernel
theorem dX0_cents_27 : decode cX0_cents 27 = .ok (.istore_n 3, 1) := by decide +kernel
theorem dX0_cents_28 : decode cX0_cents 28 = .ok (.aload_n 0, 1) := by decide +kernel
theorem dX0_cents_29 : decode cX0_cents 29 = .ok (.getfield 27, 3) := by decide +kernel
theorem dX0_cents_32 : decode cX0_cents 32 = .ok (.iload_n 3, 1) := by decide +kernel
theorem dX0_cents_33 : decode cX0_cents 33 = .ok (.isub, 1) := by decide +kernel
theorem dX0_cents_34 : decode cX0_cents 34 = .ok (.iconst 5, 1) := by decide +kernel
theorem dX0_cents_35 : decode cX0_cents 35 = .ok (.iadd, 1) := by decide +kernel
theorem dX0_cents_36 : decode cX0_cents 36 = .ok (.bipush 10, 2) := by decide +kernel
theorem dX0_cents_38 : decode cX0_cents 38 = .ok (.idiv, 1) := by decide +kernel
theorem dX0_cents_39 : decode cX0_cents 39 = .ok (.ireturn, 1) := by decide +kernel
theorem dX1_init_0 : decode cX1_init 0 = .ok (.aload_n 0, 1) := by decide +kernel
theorem dX1_init_1 : decode cX1_init 1 = .ok (.invokespecial 3, 3) := by decide +kernel
theorem dX1_init_4 : decode cX1_init 4 = .ok (.aload_n 0, 1) := by decide +kernel
theorem dX1_init_5 : decode cX1_init 5 = .ok (.iload_n 1, 1) := by decide +kernel
theorem dX1_init_6 : decode cX1_init 6 = .ok (.putfield 9, 3) := by decide +kernel
theorem dX1_init_9 : decode cX1_init 9 = .ok (.aload_n 0, 1) := by decide +kernel
theorem dX1_init_10 : decode cX1_init 10 = .ok (.aload_n 2, 1) := by decide +kernel
theorem dX1_init_11 : decode cX1_init 11 = .ok (.putfield 15, 3) := by decide +kernel
theorem dX1_init_14 : decode cX1_init 14 = .ok (.aload_n 0, 1) := by decide +kernel
theorem dX1_init_15 : decode cX1_init 15 = .ok (.iload_n 3, 1) := by decide +kernel
theorem dX1_init_16 : decode cX1_init 16 = .ok (.putfield 19, 3) := by decide +kernel
theorem dX1_init_19 : decode cX1_init 19 = .ok (.aload_n 0, 1) := by decide +kernel
theorem dX1_init_20 : decode cX1_init 20 = .ok (.iload 4, 2) := by decide +kernel
theorem dX1_init_22 : decode cX1_init 22 = .ok (.putfield 22, 3) := by decide +kernel
theorem dX1_init_25 : decode cX1_init 25 = .ok (.aload_n 0, 1) := by decide +kernel
theorem dX1_init_26 : decode cX1_init 26 = .ok (.iload 5, 2) := by decide +kernel
theorem dX1_init_28 : decode cX1_init 28 = .ok (.putfield 25, 3) := by decide +kernel
theorem dX1_init_31 : decode cX1_init 31 = .ok (.return_, 1) := by decide +kernel
theorem dX1_day_0 : decode cX1_day 0 = .ok (.aload_n 0, 1) := by decide +kernel
theorem dX1_day_1 : decode cX1_day 1 = .ok (.getfield 19, 3) := by decide +kernel
theorem dX1_day_4 : decode cX1_day 4 = .ok (.sipush 1440, 3) := by decide +kernel
theorem dX1_day_7 : decode cX1_day 7 = .ok (.idiv, 1) := by decide +kernel
theorem dX1_day_8 : decode cX1_day 8 = .ok (.ireturn, 1) := by decide +kernel
theorem dX1_forgetRating_0 : decode cX1_forgetRating 0 = .ok (.aload_n 0, 1) := by decide +kernel
theorem dX1_forgetRating_1 : decode cX1_forgetRating 1 = .ok (.iconst 0, 1) := by decide +kernel
theorem dX1_forgetRating_2 : decode cX1_forgetRating 2 = .ok (.putfield 28, 3) := by decide +kernel
theorem dX1_forgetRating_5 : decode cX1_forgetRating 5 = .ok (.aload_n 0, 1) := by decide +kernel
theorem dX1_forgetRating_6 : decode cX1_forgetRating 6 = .ok (.iconst 0, 1) := by decide +kernel
theorem dX1_forgetRating_7 : decode cX1_forgetRating 7 = .ok (.putfield 31, 3) := by decide +kernel
theorem dX1_forgetRating_10 : decode cX1_forgetRating 10 = .ok (.aload_n 0, 1) := by decide +kernel
theorem dX1_forgetRating_11 : decode cX1_forgetRating 11 = .ok (.iconst 0, 1) := by decide +kernel
theorem dX1_forgetRating_12 : decode cX1_forgetRating 12 = .ok (.putfield 34, 3) := by decide +kernel
theorem dX1_forgetRating_15 : decode cX1_forgetRating 15 = .ok (.aload_n 0, 1) := by decide +kernel
theorem dX1_forgetRating_16 : decode cX1_forgetRating 16 = .ok (.iconst 0, 1) := by decide +kernel
theorem dX1_forgetRating_17 : decode cX1_forgetRating 17 = .ok (.putfield 37, 3) := by decide +kernel
theorem dX1_forgetRating_20 : decode cX1_forgetRating 20 = .ok (.return_, 1) := by decide +kernel
theorem dX1_tell_0 : decode cX1_tell 0 = .ok (.iload_n 1, 1) := by decide +kernel
theorem dX1_tell_1 : decode cX1_tell 1 = .ok (.tableswitch 51 0 3 #[31, 36, 41, 46], 31) := by decide +kernel
theorem dX1_tell_32 : decode cX1_tell 32 = .ok (.aload_n 0, 1) := by decide +kernel
theorem dX1_tell_33 : decode cX1_tell 33 = .ok (.getfield 22, 3) := by decide +kernel
theorem dX1_tell_36 : decode cX1_tell 36 = .ok (.ireturn, 1) := by decide +kernel
theorem dX1_tell_37 : decode cX1_tell 37 = .ok (.aload_n 0, 1) := by decide +kernel
theorem dX1_tell_38 : decode cX1_tell 38 = .ok (.getfield 28, 3) := by decide +kernel
theorem dX1_tell_41 : decode cX1_tell 41 = .ok (.ireturn, 1) := by decide +kernel
theorem dX1_tell_42 : decode cX1_tell 42 = .ok (.aload_n 0, 1) := by decide +kernel
theorem dX1_tell_43 : decode cX1_tell 43 = .ok (.getfield 31, 3) := by decide +kernel
theorem dX1_tell_46 : decode cX1_tell 46 = .ok (.ireturn, 1) := by decide +kernel
theorem dX1_tell_47 : decode cX1_tell 47 = .ok (.aload_n 0, 1) := by decide +kernel
theorem dX1_tell_48 : decode cX1_tell 48 = .ok (.getfield 34, 3) := by decide +kernel
theorem dX1_tell_51 : decode cX1_tell 51 = .ok (.ireturn, 1) := by decide +kernel
theorem dX1_tell_52 : decode cX1_tell 52 = .ok (.aload_n 0, 1) := by decide +kernel
theorem dX1_tell_53 : decode cX1_tell 53 = .ok (.getfield 37, 3) := by decide +kernel
theorem dX1_tell_56 : decode cX1_tell 56 = .ok (.ireturn, 1) := by decide +kernel
theorem dX2_init_0 : decode cX2_init 0 = .ok (.aload_n 0, 1) := by decide +kernel
theorem dX2_init_1 : decode cX2_init 1 = .ok (.invokespecial 3, 3) := by decide +kernel
theorem dX2_init_4 : decode cX2_init 4 = .ok (.aload_n 0, 1) := by decide +kernel
theorem dX2_init_5 : decode cX2_init 5 = .ok (.iconst 3, 1) := by decide +kernel
theorem dX2_init_6 : decode cX2_init 6 = .ok (.newarray .int, 2) := by decide +kernel
theorem dX2_init_8 : decode cX2_init 8 = .ok (.putfield 9, 3) := by decide +kernel
theorem dX2_init_11 : decode cX2_init 11 = .ok (.aload_n 0, 1) := by decide +kernel
theorem dX2_init_12 : decode cX2_init 12 = .ok (.iconst 3, 1) := by decide +kernel
theorem dX2_init_13 : decode cX2_init 13 = .ok (.newarray .int, 2) := by decide +kernel
theorem dX2_init_15 : decode cX2_init 15 = .ok (.putfield 15, 3) := by decide +kernel
theorem dX2_init_18 : decode cX2_init 18 = .ok (.aload_n 0, 1) := by decide +kernel
theorem dX2_init_19 : decode cX2_init 19 = .ok (.iconst 3, 1) := by decide +kernel
theorem dX2_init_20 : decode cX2_init 20 = .ok (.newarray .int, 2) := by decide +kernel
theorem dX2_init_22 : decode cX2_init 22 = .ok (.putfield 18, 3) := by decide +kernel
theorem dX2_init_25 : decode cX2_init 25 = .ok (.aload_n 0, 1) := by decide +kernel
theorem dX2_init_26 : decode cX2_init 26 = .ok (.aload_n 1, 1) := by decide +kernel
theorem dX2_init_27 : decode cX2_init 27 = .ok (.putfield 21, 3) := by decide +kernel
theorem dX2_init_30 : decode cX2_init 30 = .ok (.aload_n 0, 1) := by decide +kernel
theorem dX2_init_31 : decode cX2_init 31 = .ok (.aload_n 2, 1) := by decide +kernel
theorem dX2_init_32 : decode cX2_init 32 = .ok (.putfield 25, 3) := by decide +kernel
theorem dX2_init_35 : decode cX2_init 35 = .ok (.return_, 1) := by decide +kernel
theorem dX2_forgetRating_0 : decode cX2_forgetRating 0 = .ok (.aload_n 0, 1) := by decide +kernel
theorem dX2_forgetRating_1 : decode cX2_forgetRating 1 = .ok (.iconst 0, 1) := by decide +kernel
theorem dX2_forgetRating_2 : decode cX2_forgetRating 2 = .ok (.putfield 29, 3) := by decide +kernel
theorem dX2_forgetRating_5 : decode cX2_forgetRating 5 = .ok (.iconst 1, 1) := by decide +kernel
theorem dX2_forgetRating_6 : decode cX2_forgetRating 6 = .ok (.istore_n 1, 1) := by decide +kernel
theorem dX2_forgetRating_7 : decode cX2_forgetRating 7 = .ok (.iload_n 1, 1) := by decide +kernel
theorem dX2_forgetRating_8 : decode cX2_forgetRating 8 = .ok (.iconst 3, 1) := by decide +kernel
theorem dX2_forgetRating_9 : decode cX2_forgetRating 9 = .ok (.if_icmp .ge 23, 3) := by decide +kernel
theorem dX2_forgetRating_12 : decode cX2_forgetRating 12 = .ok (.aload_n 0, 1) := by decide +kernel
theorem dX2_forgetRating_13 : decode cX2_forgetRating 13 = .ok (.getfield 9, 3) := by decide +kernel
theorem dX2_forgetRating_16 : decode cX2_forgetRating 16 = .ok (.iload_n 1, 1) := by decide +kernel
theorem dX2_forgetRating_17 : decode cX2_forgetRating 17 = .ok (.iconst 0, 1) := by decide +kernel
theorem dX2_forgetRating_18 : decode cX2_forgetRating 18 = .ok (.iastore, 1) := by decide +kernel
theorem dX2_forgetRating_19 : decode cX2_forgetRating 19 = .ok (.aload_n 0, 1) := by decide +kernel
theorem dX2_forgetRating_20 : decode cX2_forgetRating 20 = .ok (.getfield 15, 3) := by decide +kernel
theorem dX2_forgetRating_23 : decode cX2_forgetRating 23 = .ok (.iload_n 1, 1) := by decide +kernel
theorem dX2_forgetRating_24 : decode cX2_forgetRating 24 = .ok (.iconst (-1), 1) := by decide +kernel
theorem dX2_forgetRating_25 : decode cX2_forgetRating 25 = .ok (.iastore, 1) := by decide +kernel
theorem dX2_forgetRating_26 : decode cX2_forgetRating 26 = .ok (.iinc 1 1, 3) := by decide +kernel
theorem dX2_forgetRating_29 : decode cX2_forgetRating 29 = .ok (.goto (-22), 3) := by decide +kernel
theorem dX2_forgetRating_32 : decode cX2_forgetRating 32 = .ok (.return_, 1) := by decide +kernel
theorem dX2_beginsFeeDay_0 : decode cX2_beginsFeeDay 0 = .ok (.aload_n 0, 1) := by decide +kernel
theorem dX2_beginsFeeDay_1 : decode cX2_beginsFeeDay 1 = .ok (.getfield 15, 3) := by decide +kernel
theorem dX2_beginsFeeDay_4 : decode cX2_beginsFeeDay 4 = .ok (.iload_n 1, 1) := by decide +kernel
theorem dX2_beginsFeeDay_5 : decode cX2_beginsFeeDay 5 = .ok (.iaload, 1) := by decide +kernel
theorem dX2_beginsFeeDay_6 : decode cX2_beginsFeeDay 6 = .ok (.iload_n 2, 1) := by decide +kernel
theorem dX2_beginsFeeDay_7 : decode cX2_beginsFeeDay 7 = .ok (.if_icmp .ne 5, 3) := by decide +kernel
theorem dX2_beginsFeeDay_10 : decode cX2_beginsFeeDay 10 = .ok (.iconst 0, 1) := by decide +kernel
theorem dX2_beginsFeeDay_11 : decode cX2_beginsFeeDay 11 = .ok (.ireturn, 1) := by decide +kernel
theorem dX2_beginsFeeDay_12 : decode cX2_beginsFeeDay 12 = .ok (.aload_n 0, 1) := by decide +kernel
theorem dX2_beginsFeeDay_13 : decode cX2_beginsFeeDay 13 = .ok (.getfield 15, 3) := by decide +kernel
theorem dX2_beginsFeeDay_16 : decode cX2_beginsFeeDay 16 = .ok (.iload_n 1, 1) := by decide +kernel
theorem dX2_beginsFeeDay_17 : decode cX2_beginsFeeDay 17 = .ok (.iload_n 2, 1) := by decide +kernel
theorem dX2_beginsFeeDay_18 : decode cX2_beginsFeeDay 18 = .ok (.iastore, 1) := by decide +kernel
theorem dX2_beginsFeeDay_19 : decode cX2_beginsFeeDay 19 = .ok (.aload_n 0, 1) := by decide +kernel
theorem dX2_beginsFeeDay_20 : decode cX2_beginsFeeDay 20 = .ok (.getfield 18, 3) := by decide +kernel
theorem dX2_beginsFeeDay_23 : decode cX2_beginsFeeDay 23 = .ok (.iload_n 1, 1) := by decide +kernel
theorem dX2_beginsFeeDay_24 : decode cX2_beginsFeeDay 24 = .ok (.sipush 1800, 3) := by decide +kernel
theorem dX2_beginsFeeDay_27 : decode cX2_beginsFeeDay 27 = .ok (.iastore, 1) := by decide +kernel
theorem dX2_beginsFeeDay_28 : decode cX2_beginsFeeDay 28 = .ok (.aload_n 0, 1) := by decide +kernel
theorem dX2_beginsFeeDay_29 : decode cX2_beginsFeeDay 29 = .ok (.getfield 9, 3) := by decide +kernel
theorem dX2_beginsFeeDay_32 : decode cX2_beginsFeeDay 32 = .ok (.iload_n 1, 1) := by decide +kernel
theorem dX2_beginsFeeDay_33 : decode cX2_beginsFeeDay 33 = .ok (.dup2, 1) := by decide +kernel
theorem dX2_beginsFeeDay_34 : decode cX2_beginsFeeDay 34 = .ok (.iaload, 1) := by decide +kernel
theorem dX2_beginsFeeDay_35 : decode cX2_beginsFeeDay 35 = .ok (.iconst 1, 1) := by decide +kernel
theorem dX2_beginsFeeDay_36 : decode cX2_beginsFeeDay 36 = .ok (.iadd, 1) := by decide +kernel
theorem dX2_beginsFeeDay_37 : decode cX2_beginsFeeDay 37 = .ok (.iastore, 1) := by decide +kernel
theorem dX2_beginsFeeDay_38 : decode cX2_beginsFeeDay 38 = .ok (.iconst 1, 1) := by decide +kernel
theorem dX2_beginsFeeDay_39 : decode cX2_beginsFeeDay 39 = .ok (.ireturn, 1) := by decide +kernel
theorem dX2_takeFreeOfDay_0 : decode cX2_takeFreeOfDay 0 = .ok (.aload_n 0, 1) := by decide +kernel
theorem dX2_takeFreeOfDay_1 : decode cX2_takeFreeOfDay 1 = .ok (.getfield 18, 3) := by decide +kernel
theorem dX2_takeFreeOfDay_4 : decode cX2_takeFreeOfDay 4 = .ok (.iload_n 1, 1) := by decide +kernel
theorem dX2_takeFreeOfDay_5 : decode cX2_takeFreeOfDay 5 = .ok (.iaload, 1) := by decide +kernel
theorem dX2_takeFreeOfDay_6 : decode cX2_takeFreeOfDay 6 = .ok (.iload_n 2, 1) := by decide +kernel
theorem dX2_takeFreeOfDay_7 : decode cX2_takeFreeOfDay 7 = .ok (.invokestatic 33, 3) := by decide +kernel
theorem dX2_takeFreeOfDay_10 : decode cX2_takeFreeOfDay 10 = .ok (.istore_n 3, 1) := by decide +kernel
theorem dX2_takeFreeOfDay_11 : decode cX2_takeFreeOfDay 11 = .ok (.aload_n 0, 1) := by decide +kernel
theorem dX2_takeFreeOfDay_12 : decode cX2_takeFreeOfDay 12 = .ok (.getfield 18, 3) := by decide +kernel
theorem dX2_takeFreeOfDay_15 : decode cX2_takeFreeOfDay 15 = .ok (.iload_n 1, 1) := by decide +kernel
theorem dX2_takeFreeOfDay_16 : decode cX2_takeFreeOfDay 16 = .ok (.dup2, 1) := by decide +kernel
theorem dX2_takeFreeOfDay_17 : decode cX2_takeFreeOfDay 17 = .ok (.iaload, 1) := by decide +kernel
theorem dX2_takeFreeOfDay_18 : decode cX2_takeFreeOfDay 18 = .ok (.iload_n 3, 1) := by decide +kernel
theorem dX2_takeFreeOfDay_19 : decode cX2_takeFreeOfDay 19 = .ok (.isub, 1) := by decide +kernel
theorem dX2_takeFreeOfDay_20 : decode cX2_takeFreeOfDay 20 = .ok (.iastore, 1) := by decide +kernel
theorem dX2_takeFreeOfDay_21 : decode cX2_takeFreeOfDay 21 = .ok (.iload_n 3, 1) := by decide +kernel
theorem dX2_takeFreeOfDay_22 : decode cX2_takeFreeOfDay 22 = .ok (.ireturn, 1) := by decide +kernel
theorem dX3_init_0 : decode cX3_init 0 = .ok (.aload_n 0, 1) := by decide +kernel
theorem dX3_init_1 : decode cX3_init 1 = .ok (.invokespecial 3, 3) := by decide +kernel
theorem dX3_init_4 : decode cX3_init 4 = .ok (.aload_n 0, 1) := by decide +kernel
theorem dX3_init_5 : decode cX3_init 5 = .ok (.iconst 3, 1) := by decide +kernel
theorem dX3_init_6 : decode cX3_init 6 = .ok (.newarray .int, 2) := by decide +kernel
theorem dX3_init_8 : decode cX3_init 8 = .ok (.putfield 9, 3) := by decide +kernel
theorem dX3_init_11 : decode cX3_init 11 = .ok (.aload_n 0, 1) := by decide +kernel
theorem dX3_init_12 : decode cX3_init 12 = .ok (.iconst 3, 1) := by decide +kernel
theorem dX3_init_13 : decode cX3_init 13 = .ok (.newarray .int, 2) := by decide +kernel
theorem dX3_init_15 : decode cX3_init 15 = .ok (.putfield 15, 3) := by decide +kernel
theorem dX3_init_18 : decode cX3_init 18 = .ok (.aload_n 0, 1) := by decide +kernel
theorem dX3_init_19 : decode cX3_init 19 = .ok (.iload_n 1, 1) := by decide +kernel
theorem dX3_init_20 : decode cX3_init 20 = .ok (.putfield 18, 3) := by decide +kernel
theorem dX3_init_23 : decode cX3_init 23 = .ok (.aload_n 0, 1) := by decide +kernel
theorem dX3_init_24 : decode cX3_init 24 = .ok (.iload_n 2, 1) := by decide +kernel
theorem dX3_init_25 : decode cX3_init 25 = .ok (.putfield 22, 3) := by decide +kernel
theorem dX3_init_28 : decode cX3_init 28 = .ok (.aload_n 0, 1) := by decide +kernel
theorem dX3_init_29 : decode cX3_init 29 = .ok (.iload_n 3, 1) := by decide +kernel
theorem dX3_init_30 : decode cX3_init 30 = .ok (.putfield 25, 3) := by decide +kernel
theorem dX3_init_33 : decode cX3_init 33 = .ok (.aload_n 0, 1) := by decide +kernel
theorem dX3_init_34 : decode cX3_init 34 = .ok (.iload 4, 2) := by decide +kernel
theorem dX3_init_36 : decode cX3_init 36 = .ok (.putfield 28, 3) := by decide +kernel
theorem dX3_init_39 : decode cX3_init 39 = .ok (.aload_n 0, 1) := by decide +kernel
theorem dX3_init_40 : decode cX3_init 40 = .ok (.iload 5, 2) := by decide +kernel
theorem dX3_init_42 : decode cX3_init 42 = .ok (.putfield 31, 3) := by decide +kernel
theorem dX3_init_45 : decode cX3_init 45 = .ok (.aload_n 0, 1) := by decide +kernel
theorem dX3_init_46 : decode cX3_init 46 = .ok (.iload 6, 2) := by decide +kernel
theorem dX3_init_48 : decode cX3_init 48 = .ok (.putfield 34, 3) := by decide +kernel
theorem dX3_init_51 : decode cX3_init 51 = .ok (.return_, 1) := by decide +kernel
theorem dX3_billedFor_0 : decode cX3_billedFor 0 = .ok (.iload_n 1, 1) := by decide +kernel
theorem dX3_billedFor_1 : decode cX3_billedFor 1 = .ok (.aload_n 0, 1) := by decide +kernel
theorem dX3_billedFor_2 : decode cX3_billedFor 2 = .ok (.getfield 31, 3) := by decide +kernel
theorem dX3_billedFor_5 : decode cX3_billedFor 5 = .ok (.if_icmp .le 11, 3) := by decide +kernel
theorem dX3_billedFor_8 : decode cX3_billedFor 8 = .ok (.aload_n 0, 1) := by decide +kernel
theorem dX3_billedFor_9 : decode cX3_billedFor 9 = .ok (.getfield 34, 3) := by decide +kernel
theorem dX3_billedFor_12 : decode cX3_billedFor 12 = .ok (.iconst 1, 1) := by decide +kernel
theorem dX3_billedFor_13 : decode cX3_billedFor 13 = .ok (.if_icmp .ge 8, 3) := by decide +kernel
theorem dX3_billedFor_16 : decode cX3_billedFor 16 = .ok (.aload_n 0, 1) := by decide +kernel
theorem dX3_billedFor_17 : decode cX3_billedFor 17 = .ok (.getfield 31, 3) := by decide +kernel
theorem dX3_billedFor_20 : decode cX3_billedFor 20 = .ok (.ireturn, 1) := by decide +kernel
theorem dX3_billedFor_21 : decode cX3_billedFor 21 = .ok (.iload_n 1, 1) := by decide +kernel
theorem dX3_billedFor_22 : decode cX3_billedFor 22 = .ok (.aload_n 0, 1) := by decide +kernel
theorem dX3_billedFor_23 : decode cX3_billedFor 23 = .ok (.getfield 31, 3) := by decide +kernel
theorem dX3_billedFor_26 : decode cX3_billedFor 26 = .ok (.isub, 1) := by decide +kernel
theorem dX3_billedFor_27 : decode cX3_billedFor 27 = .ok (.aload_n 0, 1) := by decide +kernel
theorem dX3_billedFor_28 : decode cX3_billedFor 28 = .ok (.getfield 34, 3) := by decide +kernel
theorem dX3_billedFor_31 : decode cX3_billedFor 31 = .ok (.iadd, 1) := by decide +kernel
theorem dX3_billedFor_32 : decode cX3_billedFor 32 = .ok (.iconst 1, 1) := by decide +kernel
theorem dX3_billedFor_33 : decode cX3_billedFor 33 = .ok (.isub, 1) := by decide +kernel
theorem dX3_billedFor_34 : decode cX3_billedFor 34 = .ok (.aload_n 0, 1) := by decide +kernel
theorem dX3_billedFor_35 : decode cX3_billedFor 35 = .ok (.getfield 34, 3) := by decide +kernel
theorem dX3_billedFor_38 : decode cX3_billedFor 38 = .ok (.idiv, 1) := by decide +kernel
theorem dX3_billedFor_39 : decode cX3_billedFor 39 = .ok (.istore_n 2, 1) := by decide +kernel
theorem dX3_billedFor_40 : decode cX3_billedFor 40 = .ok (.aload_n 0, 1) := by decide +kernel
theorem dX3_billedFor_41 : decode cX3_billedFor 41 = .ok (.getfield 31, 3) := by decide +kernel
theorem dX3_billedFor_44 : decode cX3_billedFor 44 = .ok (.iload_n 2, 1) := by decide +kernel
theorem dX3_billedFor_45 : decode cX3_billedFor 45 = .ok (.aload_n 0, 1) := by decide +kernel
theorem dX3_billedFor_46 : decode cX3_billedFor 46 = .ok (.getfield 34, 3) := by decide +kernel
theorem dX3_billedFor_49 : decode cX3_billedFor 49 = .ok (.imul, 1) := by decide +kernel
theorem dX3_billedFor_50 : decode cX3_billedFor 50 = .ok (.iadd, 1) := by decide +kernel
theorem dX3_billedFor_51 : decode cX3_billedFor 51 = .ok (.ireturn, 1) := by decide +kernel
theorem dX3_chargeFor_0 : decode cX3_chargeFor 0 = .ok (.iload_n 1, 1) := by decide +kernel
theorem dX3_chargeFor_1 : decode cX3_chargeFor 1 = .ok (.ifCond .gt 5, 3) := by decide +kernel
theorem dX3_chargeFor_4 : decode cX3_chargeFor 4 = .ok (.iconst 0, 1) := by decide +kernel
theorem dX3_chargeFor_5 : decode cX3_chargeFor 5 = .ok (.ireturn, 1) := by decide +kernel
theorem dX3_chargeFor_6 : decode cX3_chargeFor 6 = .ok (.aload_n 0, 1) := by decide +kernel
theorem dX3_chargeFor_7 : decode cX3_chargeFor 7 = .ok (.getfield 22, 3) := by decide +kernel
theorem dX3_chargeFor_10 : decode cX3_chargeFor 10 = .ok (.iload_n 1, 1) := by decide +kernel
theorem dX3_chargeFor_11 : decode cX3_chargeFor 11 = .ok (.iload_n 2, 1) := by decide +kernel
theorem dX3_chargeFor_12 : decode cX3_chargeFor 12 = .ok (.imul, 1) := by decide +kernel
theorem dX3_chargeFor_13 : decode cX3_chargeFor 13 = .ok (.bipush 60, 2) := by decide +kernel
theorem dX3_chargeFor_15 : decode cX3_chargeFor 15 = .ok (.iadd, 1) := by decide +kernel
theorem dX3_chargeFor_16 : decode cX3_chargeFor 16 = .ok (.iconst 1, 1) := by decide +kernel
theorem dX3_chargeFor_17 : decode cX3_chargeFor 17 = .ok (.isub, 1) := by decide +kernel
theorem dX3_chargeFor_18 : decode cX3_chargeFor 18 = .ok (.bipush 60, 2) := by decide +kernel
theorem dX3_chargeFor_20 : decode cX3_chargeFor 20 = .ok (.idiv, 1) := by decide +kernel
theorem dX3_chargeFor_21 : decode cX3_chargeFor 21 = .ok (.iadd, 1) := by decide +kernel
theorem dX3_chargeFor_22 : decode cX3_chargeFor 22 = .ok (.ireturn, 1) := by decide +kernel
theorem dX4_init_0 : decode cX4_init 0 = .ok (.aload_n 0, 1) := by decide +kernel
theorem dX4_init_1 : decode cX4_init 1 = .ok (.invokespecial 1, 3) := by decide +kernel
theorem dX4_init_4 : decode cX4_init 4 = .ok (.aload_n 0, 1) := by decide +kernel
theorem dX4_init_5 : decode cX4_init 5 = .ok (.new 7, 3) := by decide +kernel
theorem dX4_init_8 : decode cX4_init 8 = .ok (.dup, 1) := by decide +kernel
theorem dX4_init_9 : decode cX4_init 9 = .ok (.invokespecial 9, 3) := by decide +kernel
theorem dX4_init_12 : decode cX4_init 12 = .ok (.putfield 10, 3) := by decide +kernel
theorem dX4_init_15 : decode cX4_init 15 = .ok (.aload_n 0, 1) := by decide +kernel
theorem dX4_init_16 : decode cX4_init 16 = .ok (.new 7, 3) := by decide +kernel
theorem dX4_init_19 : decode cX4_init 19 = .ok (.dup, 1) := by decide +kernel
theorem dX4_init_20 : decode cX4_init 20 = .ok (.invokespecial 9, 3) := by decide +kernel
theorem dX4_init_23 : decode cX4_init 23 = .ok (.putfield 16, 3) := by decide +kernel
theorem dX4_init_26 : decode cX4_init 26 = .ok (.aload_n 0, 1) := by decide +kernel
theorem dX4_init_27 : decode cX4_init 27 = .ok (.new 7, 3) := by decide +kernel
theorem dX4_init_30 : decode cX4_init 30 = .ok (.dup, 1) := by decide +kernel
theorem dX4_init_31 : decode cX4_init 31 = .ok (.invokespecial 9, 3) := by decide +kernel
theorem dX4_init_34 : decode cX4_init 34 = .ok (.putfield 19, 3) := by decide +kernel
theorem dX4_init_37 : decode cX4_init 37 = .ok (.aload_n 0, 1) := by decide +kernel
theorem dX4_init_38 : decode cX4_init 38 = .ok (.new 7, 3) := by decide +kernel
theorem dX4_init_41 : decode cX4_init 41 = .ok (.dup, 1) := by decide +kernel
theorem dX4_init_42 : decode cX4_init 42 = .ok (.invokespecial 9, 3) := by decide +kernel
theorem dX4_init_45 : decode cX4_init 45 = .ok (.putfield 22, 3) := by decide +kernel
theorem dX4_init_48 : decode cX4_init 48 = .ok (.aload_n 0, 1) := by decide +kernel
theorem dX4_init_49 : decode cX4_init 49 = .ok (.new 7, 3) := by decide +kernel
theorem dX4_init_52 : decode cX4_init 52 = .ok (.dup, 1) := by decide +kernel
theorem dX4_init_53 : decode cX4_init 53 = .ok (.invokespecial 9, 3) := by decide +kernel
theorem dX4_init_56 : decode cX4_init 56 = .ok (.putfield 25, 3) := by decide +kernel
theorem dX4_init_59 : decode cX4_init 59 = .ok (.aload_n 0, 1) := by decide +kernel
theorem dX4_init_60 : decode cX4_init 60 = .ok (.sipush 480, 3) := by decide +kernel
theorem dX4_init_63 : decode cX4_init 63 = .ok (.putfield 28, 3) := by decide +kernel
theorem dX4_init_66 : decode cX4_init 66 = .ok (.aload_n 0, 1) := by decide +kernel
theorem dX4_init_67 : decode cX4_init 67 = .ok (.sipush 1079, 3) := by decide +kernel
theorem dX4_init_70 : decode cX4_init 70 = .ok (.putfield 32, 3) := by decide +kernel
theorem dX4_init_73 : decode cX4_init 73 = .ok (.return_, 1) := by decide +kernel
theorem dX4_addTariff_0 : decode cX4_addTariff 0 = .ok (.iload_n 1, 1) := by decide +kernel
theorem dX4_addTariff_1 : decode cX4_addTariff 1 = .ok (.invokestatic 35, 3) := by decide +kernel
theorem dX4_addTariff_4 : decode cX4_addTariff 4 = .ok (.ifCond .eq 17, 3) := by decide +kernel
theorem dX4_addTariff_7 : decode cX4_addTariff 7 = .ok (.iload_n 2, 1) := by decide +kernel
theorem dX4_addTariff_8 : decode cX4_addTariff 8 = .ok (.invokestatic 35, 3) := by decide +kernel
theorem dX4_addTariff_11 : decode cX4_addTariff 11 = .ok (.ifCond .eq 10, 3) := by decide +kernel
theorem dX4_addTariff_14 : decode cX4_addTariff 14 = .ok (.iload_n 3, 1) := by decide +kernel
theorem dX4_addTariff_15 : decode cX4_addTariff 15 = .ok (.invokestatic 35, 3) := by decide +kernel
theorem dX4_addTariff_18 : decode cX4_addTariff 18 = .ok (.ifCond .ne 13, 3) := by decide +kernel
theorem dX4_addTariff_21 : decode cX4_addTariff 21 = .ok (.new 39, 3) := by decide +kernel
theorem dX4_addTariff_24 : decode cX4_addTariff 24 = .ok (.dup, 1) := by decide +kernel
theorem dX4_addTariff_25 : decode cX4_addTariff 25 = .ok (.ldc 41, 2) := by decide +kernel
theorem dX4_addTariff_27 : decode cX4_addTariff 27 = .ok (.invokespecial 43, 3) := by decide +kernel
theorem dX4_addTariff_30 : decode cX4_addTariff 30 = .ok (.athrow, 1) := by decide +kernel
theorem dX4_addTariff_31 : decode cX4_addTariff 31 = .ok (.iload 4, 2) := by decide +kernel
theorem dX4_addTariff_33 : decode cX4_addTariff 33 = .ok (.iconst 1, 1) := by decide +kernel
theorem dX4_addTariff_34 : decode cX4_addTariff 34 = .ok (.sipush 300, 3) := by decide +kernel
theorem dX4_addTariff_37 : decode cX4_addTariff 37 = .ok (.invokestatic 46, 3) := by decide +kernel
theorem dX4_addTariff_40 : decode cX4_addTariff 40 = .ok (.ifCond .eq 15, 3) := by decide +kernel
theorem dX4_addTariff_43 : decode cX4_addTariff 43 = .ok (.iload 5, 2) := by decide +kernel
theorem dX4_addTariff_45 : decode cX4_addTariff 45 = .ok (.iconst 1, 1) := by decide +kernel
theorem dX4_addTariff_46 : decode cX4_addTariff 46 = .ok (.sipush 300, 3) := by decide +kernel
theorem dX4_addTariff_49 : decode cX4_addTariff 49 = .ok (.invokestatic 46, 3) := by decide +kernel
theorem dX4_addTariff_52 : decode cX4_addTariff 52 = .ok (.ifCond .ne 13, 3) := by decide +kernel
theorem dX4_addTariff_55 : decode cX4_addTariff 55 = .ok (.new 39, 3) := by decide +kernel
theorem dX4_addTariff_58 : decode cX4_addTariff 58 = .ok (.dup, 1) := by decide +kernel
theorem dX4_addTariff_59 : decode cX4_addTariff 59 = .ok (.ldc 50, 2) := by decide +kernel
theorem dX4_addTariff_61 : decode cX4_addTariff 61 = .ok (.invokespecial 43, 3) := by decide +kernel
theorem dX4_addTariff_64 : decode cX4_addTariff 64 = .ok (.athrow, 1) := by decide +kernel
theorem dX4_addTariff_65 : decode cX4_addTariff 65 = .ok (.aload_n 0, 1) := by decide +kernel
theorem dX4_addTariff_66 : decode cX4_addTariff 66 = .ok (.getfield 10, 3) := by decide +kernel
theorem dX4_addTariff_69 : decode cX4_addTariff 69 = .ok (.invokevirtual 52, 3) := by decide +kernel
theorem dX4_addTariff_72 : decode cX4_addTariff 72 = .ok (.istore 6, 2) := by decide +kernel
theorem dX4_addTariff_74 : decode cX4_addTariff 74 = .ok (.iload 6, 2) := by decide +kernel
theorem dX4_addTariff_76 : decode cX4_addTariff 76 = .ok (.iconst 5, 1) := by decide +kernel
theorem dX4_addTariff_77 : decode cX4_addTariff 77 = .ok (.if_icmp .lt 13, 3) := by decide +kernel
theorem dX4_addTariff_80 : decode cX4_addTariff 80 = .ok (.new 56, 3) := by decide +kernel
theorem dX4_addTariff_83 : decode cX4_addTariff 83 = .ok (.dup, 1) := by decide +kernel
theorem dX4_addTariff_84 : decode cX4_addTariff 84 = .ok (.ldc 58, 2) := by decide +kernel
theorem dX4_addTariff_86 : decode cX4_addTariff 86 = .ok (.invokespecial 60, 3) := by decide +kernel
theorem dX4_addTariff_89 : decode cX4_addTariff 89 = .ok (.athrow, 1) := by decide +kernel
theorem dX4_addTariff_90 : decode cX4_addTariff 90 = .ok (.aload_n 0, 1) := by decide +kernel
theorem dX4_addTariff_91 : decode cX4_addTariff 91 = .ok (.getfield 10, 3) := by decide +kernel
theorem dX4_addTariff_94 : decode cX4_addTariff 94 = .ok (.new 61, 3) := by decide +kernel
theorem dX4_addTariff_97 : decode cX4_addTariff 97 = .ok (.dup, 1) := by decide +kernel
theorem dX4_addTariff_98 : decode cX4_addTariff 98 = .ok (.iload 6, 2) := by decide +kernel
theorem dX4_addTariff_100 : decode cX4_addTariff 100 = .ok (.iload_n 1, 1) := by decide +kernel
theorem dX4_addTariff_101 : decode cX4_addTariff 101 = .ok (.iload_n 2, 1) := by decide +kernel
theorem dX4_addTariff_102 : decode cX4_addTariff 102 = .ok (.iload_n 3, 1) := by decide +kernel
theorem dX4_addTariff_103 : decode cX4_addTariff 103 = .ok (.iload 4, 2) := by decide +kernel
theorem dX4_addTariff_105 : decode cX4_addTariff 105 = .ok (.iload 5, 2) := by decide +kernel
theorem dX4_addTariff_107 : decode cX4_addTariff 107 = .ok (.invokespecial 63, 3) := by decide +kernel
theorem dX4_addTariff_110 : decode cX4_addTariff 110 = .ok (.invokevirtual 66, 3) := by decide +kernel
theorem dX4_addTariff_113 : decode cX4_addTariff 113 = .ok (.pop, 1) := by decide +kernel
theorem dX4_addTariff_114 : decode cX4_addTariff 114 = .ok (.iload 6, 2) := by decide +kernel
theorem dX4_addTariff_116 : decode cX4_addTariff 116 = .ok (.ireturn, 1) := by decide +kernel
theorem dX4_setZone_0 : decode cX4_setZone 0 = .ok (.aload_n 0, 1) := by decide +kernel
theorem dX4_setZone_1 : decode cX4_setZone 1 = .ok (.iload_n 1, 1) := by decide +kernel
theorem dX4_setZone_2 : decode cX4_setZone 2 = .ok (.invokevirtual 70, 3) := by decide +kernel
theorem dX4_setZone_5 : decode cX4_setZone 5 = .ok (.astore 5, 2) := by decide +kernel
theorem dX4_setZone_7 : decode cX4_setZone 7 = .ok (.iload_n 2, 1) := by decide +kernel
theorem dX4_setZone_8 : decode cX4_setZone 8 = .ok (.invokestatic 74, 3) := by decide +kernel
theorem dX4_setZone_11 : decode cX4_setZone 11 = .ok (.iload_n 3, 1) := by decide +kernel
theorem dX4_setZone_12 : decode cX4_setZone 12 = .ok (.invokestatic 35, 3) := by decide +kernel
theorem dX4_setZone_15 : decode cX4_setZone 15 = .ok (.ifCond .eq 11, 3) := by decide +kernel
theorem dX4_setZone_18 : decode cX4_setZone 18 = .ok (.iload 4, 2) := by decide +kernel
theorem dX4_setZone_20 : decode cX4_setZone 20 = .ok (.invokestatic 35, 3) := by decide +kernel
theorem dX4_setZone_23 : decode cX4_setZone 23 = .ok (.ifCond .ne 13, 3) := by decide +kernel
theorem dX4_setZone_26 : decode cX4_setZone 26 = .ok (.new 39, 3) := by decide +kernel
theorem dX4_setZone_29 : decode cX4_setZone 29 = .ok (.dup, 1) := by decide +kernel
theorem dX4_setZone_30 : decode cX4_setZone 30 = .ok (.ldc 78, 2) := by decide +kernel
theorem dX4_setZone_32 : decode cX4_setZone 32 = .ok (.invokespecial 43, 3) := by decide +kernel
theorem dX4_setZone_35 : decode cX4_setZone 35 = .ok (.athrow, 1) := by decide +kernel
theorem dX4_setZone_36 : decode cX4_setZone 36 = .ok (.aload 5, 2) := by decide +kernel
theorem dX4_setZone_38 : decode cX4_setZone 38 = .ok (.getfield 80, 3) := by decide +kernel
theorem dX4_setZone_41 : decode cX4_setZone 41 = .ok (.iload_n 2, 1) := by decide +kernel
theorem dX4_setZone_42 : decode cX4_setZone 42 = .ok (.iaload, 1) := by decide +kernel
theorem dX4_setZone_43 : decode cX4_setZone 43 = .ok (.istore 6, 2) := by decide +kernel
theorem dX4_setZone_45 : decode cX4_setZone 45 = .ok (.aload 5, 2) := by decide +kernel
theorem dX4_setZone_47 : decode cX4_setZone 47 = .ok (.getfield 80, 3) := by decide +kernel
theorem dX4_setZone_50 : decode cX4_setZone 50 = .ok (.iload_n 2, 1) := by decide +kernel
theorem dX4_setZone_51 : decode cX4_setZone 51 = .ok (.iload_n 3, 1) := by decide +kernel
theorem dX4_setZone_52 : decode cX4_setZone 52 = .ok (.iastore, 1) := by decide +kernel
theorem dX4_setZone_53 : decode cX4_setZone 53 = .ok (.aload 5, 2) := by decide +kernel
theorem dX4_setZone_55 : decode cX4_setZone 55 = .ok (.getfield 84, 3) := by decide +kernel
theorem dX4_setZone_58 : decode cX4_setZone 58 = .ok (.iload_n 2, 1) := by decide +kernel
theorem dX4_setZone_59 : decode cX4_setZone 59 = .ok (.iload 4, 2) := by decide +kernel
theorem dX4_setZone_61 : decode cX4_setZone 61 = .ok (.iastore, 1) := by decide +kernel
theorem dX4_setZone_62 : decode cX4_setZone 62 = .ok (.aload_n 0, 1) := by decide +kernel
theorem dX4_setZone_63 : decode cX4_setZone 63 = .ok (.invokevirtual 87, 3) := by decide +kernel
theorem dX4_setZone_66 : decode cX4_setZone 66 = .ok (.iload 6, 2) := by decide +kernel
theorem dX4_setZone_68 : decode cX4_setZone 68 = .ok (.ireturn, 1) := by decide +kernel
theorem dX4_setPeak_0 : decode cX4_setPeak 0 = .ok (.iload_n 1, 1) := by decide +kernel
theorem dX4_setPeak_1 : decode cX4_setPeak 1 = .ok (.invokestatic 90, 3) := by decide +kernel
theorem dX4_setPeak_4 : decode cX4_setPeak 4 = .ok (.ifCond .eq 15, 3) := by decide +kernel
theorem dX4_setPeak_7 : decode cX4_setPeak 7 = .ok (.iload_n 2, 1) := by decide +kernel
theorem dX4_setPeak_8 : decode cX4_setPeak 8 = .ok (.invokestatic 90, 3) := by decide +kernel
theorem dX4_setPeak_11 : decode cX4_setPeak 11 = .ok (.ifCond .eq 8, 3) := by decide +kernel
theorem dX4_setPeak_14 : decode cX4_setPeak 14 = .ok (.iload_n 2, 1) := by decide +kernel
theorem dX4_setPeak_15 : decode cX4_setPeak 15 = .ok (.iload_n 1, 1) := by decide +kernel
theorem dX4_setPeak_16 : decode cX4_setPeak 16 = .ok (.if_icmp .ge 13, 3) := by decide +kernel
theorem dX4_setPeak_19 : decode cX4_setPeak 19 = .ok (.new 39, 3) := by decide +kernel
theorem dX4_setPeak_22 : decode cX4_setPeak 22 = .ok (.dup, 1) := by decide +kernel
theorem dX4_setPeak_23 : decode cX4_setPeak 23 = .ok (.ldc 93, 2) := by decide +kernel
theorem dX4_setPeak_25 : decode cX4_setPeak 25 = .ok (.invokespecial 43, 3) := by decide +kernel
theorem dX4_setPeak_28 : decode cX4_setPeak 28 = .ok (.athrow, 1) := by decide +kernel
theorem dX4_setPeak_29 : decode cX4_setPeak 29 = .ok (.iload_n 1, 1) := by decide +kernel
theorem dX4_setPeak_30 : decode cX4_setPeak 30 = .ok (.aload_n 0, 1) := by decide +kernel
theorem dX4_setPeak_31 : decode cX4_setPeak 31 = .ok (.getfield 28, 3) := by decide +kernel
theorem dX4_setPeak_34 : decode cX4_setPeak 34 = .ok (.if_icmp .ne 11, 3) := by decide +kernel
theorem dX4_setPeak_37 : decode cX4_setPeak 37 = .ok (.iload_n 2, 1) := by decide +kernel
theorem dX4_setPeak_38 : decode cX4_setPeak 38 = .ok (.aload_n 0, 1) := by decide +kernel
theorem dX4_setPeak_39 : decode cX4_setPeak 39 = .ok (.getfield 32, 3) := by decide +kernel
theorem dX4_setPeak_42 : decode cX4_setPeak 42 = .ok (.if_icmp .eq 7, 3) := by decide +kernel
theorem dX4_setPeak_45 : decode cX4_setPeak 45 = .ok (.iconst 1, 1) := by decide +kernel
theorem dX4_setPeak_46 : decode cX4_setPeak 46 = .ok (.goto 4, 3) := by decide +kernel
theorem dX4_setPeak_49 : decode cX4_setPeak 49 = .ok (.iconst 0, 1) := by decide +kernel
theorem dX4_setPeak_50 : decode cX4_setPeak 50 = .ok (.istore_n 3, 1) := by decide +kernel
theorem dX4_setPeak_51 : decode cX4_setPeak 51 = .ok (.aload_n 0, 1) := by decide +kernel
theorem dX4_setPeak_52 : decode cX4_setPeak 52 = .ok (.iload_n 1, 1) := by decide +kernel
theorem dX4_setPeak_53 : decode cX4_setPeak 53 = .ok (.putfield 28, 3) := by decide +kernel
theorem dX4_setPeak_56 : decode cX4_setPeak 56 = .ok (.aload_n 0, 1) := by decide +kernel
theorem dX4_setPeak_57 : decode cX4_setPeak 57 = .ok (.iload_n 2, 1) := by decide +kernel
theorem dX4_setPeak_58 : decode cX4_setPeak 58 = .ok (.putfield 32, 3) := by decide +kernel
theorem dX4_setPeak_61 : decode cX4_setPeak 61 = .ok (.aload_n 0, 1) := by decide +kernel
theorem dX4_setPeak_62 : decode cX4_setPeak 62 = .ok (.invokevirtual 87, 3) := by decide +kernel
theorem dX4_setPeak_65 : decode cX4_setPeak 65 = .ok (.iload_n 3, 1) := by decide +kernel
theorem dX4_setPeak_66 : decode cX4_setPeak 66 = .ok (.ireturn, 1) := by decide +kernel
theorem dX4_addAccount_0 : decode cX4_addAccount 0 = .ok (.iload_n 1, 1) := by decide +kernel
theorem dX4_addAccount_1 : decode cX4_addAccount 1 = .ok (.invokestatic 95, 3) := by decide +kernel
theorem dX4_addAccount_4 : decode cX4_addAccount 4 = .ok (.iload_n 2, 1) := by decide +kernel
theorem dX4_addAccount_5 : decode cX4_addAccount 5 = .ok (.iconst 0, 1) := by decide +kernel
theorem dX4_addAccount_6 : decode cX4_addAccount 6 = .ok (.ldc 98, 2) := by decide +kernel
theorem dX4_addAccount_8 : decode cX4_addAccount 8 = .ok (.invokestatic 46, 3) := by decide +kernel
theorem dX4_addAccount_11 : decode cX4_addAccount 11 = .ok (.ifCond .ne 13, 3) := by decide +kernel
theorem dX4_addAccount_14 : decode cX4_addAccount 14 = .ok (.new 39, 3) := by decide +kernel
theorem dX4_addAccount_17 : decode cX4_addAccount 17 = .ok (.dup, 1) := by decide +kernel
theorem dX4_addAccount_18 : decode cX4_addAccount 18 = .ok (.ldc 99, 2) := by decide +kernel
theorem dX4_addAccount_20 : decode cX4_addAccount 20 = .ok (.invokespecial 43, 3) := by decide +kernel
theorem dX4_addAccount_23 : decode cX4_addAccount 23 = .ok (.athrow, 1) := by decide +kernel
theorem dX4_addAccount_24 : decode cX4_addAccount 24 = .ok (.iload_n 3, 1) := by decide +kernel
theorem dX4_addAccount_25 : decode cX4_addAccount 25 = .ok (.iconst 0, 1) := by decide +kernel
theorem dX4_addAccount_26 : decode cX4_addAccount 26 = .ok (.bipush 100, 2) := by decide +kernel
theorem dX4_addAccount_28 : decode cX4_addAccount 28 = .ok (.invokestatic 46, 3) := by decide +kernel
theorem dX4_addAccount_31 : decode cX4_addAccount 31 = .ok (.ifCond .ne 13, 3) := by decide +kernel
theorem dX4_addAccount_34 : decode cX4_addAccount 34 = .ok (.new 39, 3) := by decide +kernel
theorem dX4_addAccount_37 : decode cX4_addAccount 37 = .ok (.dup, 1) := by decide +kernel
theorem dX4_addAccount_38 : decode cX4_addAccount 38 = .ok (.ldc 101, 2) := by decide +kernel
theorem dX4_addAccount_40 : decode cX4_addAccount 40 = .ok (.invokespecial 43, 3) := by decide +kernel
theorem dX4_addAccount_43 : decode cX4_addAccount 43 = .ok (.athrow, 1) := by decide +kernel
theorem dX4_addAccount_44 : decode cX4_addAccount 44 = .ok (.aload_n 0, 1) := by decide +kernel
theorem dX4_addAccount_45 : decode cX4_addAccount 45 = .ok (.getfield 16, 3) := by decide +kernel
theorem dX4_addAccount_48 : decode cX4_addAccount 48 = .ok (.invokevirtual 52, 3) := by decide +kernel
theorem dX4_addAccount_51 : decode cX4_addAccount 51 = .ok (.istore 4, 2) := by decide +kernel
theorem dX4_addAccount_53 : decode cX4_addAccount 53 = .ok (.iload 4, 2) := by decide +kernel
theorem dX4_addAccount_55 : decode cX4_addAccount 55 = .ok (.iconst 4, 1) := by decide +kernel
theorem dX4_addAccount_56 : decode cX4_addAccount 56 = .ok (.if_icmp .lt 13, 3) := by decide +kernel
theorem dX4_addAccount_59 : decode cX4_addAccount 59 = .ok (.new 56, 3) := by decide +kernel
theorem dX4_addAccount_62 : decode cX4_addAccount 62 = .ok (.dup, 1) := by decide +kernel
theorem dX4_addAccount_63 : decode cX4_addAccount 63 = .ok (.ldc 103, 2) := by decide +kernel
theorem dX4_addAccount_65 : decode cX4_addAccount 65 = .ok (.invokespecial 60, 3) := by decide +kernel
theorem dX4_addAccount_68 : decode cX4_addAccount 68 = .ok (.athrow, 1) := by decide +kernel
theorem dX4_addAccount_69 : decode cX4_addAccount 69 = .ok (.aload_n 0, 1) := by decide +kernel
theorem dX4_addAccount_70 : decode cX4_addAccount 70 = .ok (.getfield 16, 3) := by decide +kernel
theorem dX4_addAccount_73 : decode cX4_addAccount 73 = .ok (.new 105, 3) := by decide +kernel
theorem dX4_addAccount_76 : decode cX4_addAccount 76 = .ok (.dup, 1) := by decide +kernel
theorem dX4_addAccount_77 : decode cX4_addAccount 77 = .ok (.iload_n 1, 1) := by decide +kernel
theorem dX4_addAccount_78 : decode cX4_addAccount 78 = .ok (.iload_n 2, 1) := by decide +kernel
theorem dX4_addAccount_79 : decode cX4_addAccount 79 = .ok (.iload_n 3, 1) := by decide +kernel
theorem dX4_addAccount_80 : decode cX4_addAccount 80 = .ok (.invokespecial 107, 3) := by decide +kernel
theorem dX4_addAccount_83 : decode cX4_addAccount 83 = .ok (.invokevirtual 66, 3) := by decide +kernel
theorem dX4_addAccount_86 : decode cX4_addAccount 86 = .ok (.pop, 1) := by decide +kernel
theorem dX4_addAccount_87 : decode cX4_addAccount 87 = .ok (.iload 4, 2) := by decide +kernel
theorem dX4_addAccount_89 : decode cX4_addAccount 89 = .ok (.ireturn, 1) := by decide +kernel
theorem dX4_addLine_0 : decode cX4_addLine 0 = .ok (.aload_n 0, 1) := by decide +kernel
theorem dX4_addLine_1 : decode cX4_addLine 1 = .ok (.iload_n 1, 1) := by decide +kernel
theorem dX4_addLine_2 : decode cX4_addLine 2 = .ok (.invokevirtual 110, 3) := by decide +kernel
theorem dX4_addLine_5 : decode cX4_addLine 5 = .ok (.astore_n 3, 1) := by decide +kernel
theorem dX4_addLine_6 : decode cX4_addLine 6 = .ok (.aload_n 0, 1) := by decide +kernel
theorem dX4_addLine_7 : decode cX4_addLine 7 = .ok (.iload_n 2, 1) := by decide +kernel
theorem dX4_addLine_8 : decode cX4_addLine 8 = .ok (.invokevirtual 70, 3) := by decide +kernel
theorem dX4_addLine_11 : decode cX4_addLine 11 = .ok (.astore 4, 2) := by decide +kernel
theorem dX4_addLine_13 : decode cX4_addLine 13 = .ok (.aload_n 0, 1) := by decide +kernel
theorem dX4_addLine_14 : decode cX4_addLine 14 = .ok (.getfield 19, 3) := by decide +kernel
theorem dX4_addLine_17 : decode cX4_addLine 17 = .ok (.invokevirtual 52, 3) := by decide +kernel
theorem dX4_addLine_20 : decode cX4_addLine 20 = .ok (.istore 5, 2) := by decide +kernel
theorem dX4_addLine_22 : decode cX4_addLine 22 = .ok (.iload 5, 2) := by decide +kernel
theorem dX4_addLine_24 : decode cX4_addLine 24 = .ok (.bipush 8, 2) := by decide +kernel
theorem dX4_addLine_26 : decode cX4_addLine 26 = .ok (.if_icmp .lt 13, 3) := by decide +kernel
theorem dX4_addLine_29 : decode cX4_addLine 29 = .ok (.new 56, 3) := by decide +kernel
theorem dX4_addLine_32 : decode cX4_addLine 32 = .ok (.dup, 1) := by decide +kernel
theorem dX4_addLine_33 : decode cX4_addLine 33 = .ok (.ldc 114, 2) := by decide +kernel
theorem dX4_addLine_35 : decode cX4_addLine 35 = .ok (.invokespecial 60, 3) := by decide +kernel
theorem dX4_addLine_38 : decode cX4_addLine 38 = .ok (.athrow, 1) := by decide +kernel
theorem dX4_addLine_39 : decode cX4_addLine 39 = .ok (.aload_n 0, 1) := by decide +kernel
theorem dX4_addLine_40 : decode cX4_addLine 40 = .ok (.getfield 19, 3) := by decide +kernel
theorem dX4_addLine_43 : decode cX4_addLine 43 = .ok (.new 116, 3) := by decide +kernel
theorem dX4_addLine_46 : decode cX4_addLine 46 = .ok (.dup, 1) := by decide +kernel
theorem dX4_addLine_47 : decode cX4_addLine 47 = .ok (.aload_n 3, 1) := by decide +kernel
theorem dX4_addLine_48 : decode cX4_addLine 48 = .ok (.aload 4, 2) := by decide +kernel
theorem dX4_addLine_50 : decode cX4_addLine 50 = .ok (.invokespecial 118, 3) := by decide +kernel
theorem dX4_addLine_53 : decode cX4_addLine 53 = .ok (.invokevirtual 66, 3) := by decide +kernel
theorem dX4_addLine_56 : decode cX4_addLine 56 = .ok (.pop, 1) := by decide +kernel
theorem dX4_addLine_57 : decode cX4_addLine 57 = .ok (.iload 5, 2) := by decide +kernel
theorem dX4_addLine_59 : decode cX4_addLine 59 = .ok (.ireturn, 1) := by decide +kernel
theorem dX4_setTariff_0 : decode cX4_setTariff 0 = .ok (.aload_n 0, 1) := by decide +kernel
theorem dX4_setTariff_1 : decode cX4_setTariff 1 = .ok (.iload_n 1, 1) := by decide +kernel
theorem dX4_setTariff_2 : decode cX4_setTariff 2 = .ok (.invokevirtual 121, 3) := by decide +kernel
theorem dX4_setTariff_5 : decode cX4_setTariff 5 = .ok (.astore_n 3, 1) := by decide +kernel
theorem dX4_setTariff_6 : decode cX4_setTariff 6 = .ok (.aload_n 0, 1) := by decide +kernel
theorem dX4_setTariff_7 : decode cX4_setTariff 7 = .ok (.iload_n 2, 1) := by decide +kernel
theorem dX4_setTariff_8 : decode cX4_setTariff 8 = .ok (.invokevirtual 70, 3) := by decide +kernel
theorem dX4_setTariff_11 : decode cX4_setTariff 11 = .ok (.astore 4, 2) := by decide +kernel
theorem dX4_setTariff_13 : decode cX4_setTariff 13 = .ok (.aload_n 3, 1) := by decide +kernel
theorem dX4_setTariff_14 : decode cX4_setTariff 14 = .ok (.getfield 125, 3) := by decide +kernel
theorem dX4_setTariff_17 : decode cX4_setTariff 17 = .ok (.getfield 129, 3) := by decide +kernel
theorem dX4_setTariff_20 : decode cX4_setTariff 20 = .ok (.istore 5, 2) := by decide +kernel
theorem dX4_setTariff_22 : decode cX4_setTariff 22 = .ok (.aload_n 0, 1) := by decide +kernel
theorem dX4_setTariff_23 : decode cX4_setTariff 23 = .ok (.aload_n 3, 1) := by decide +kernel
theorem dX4_setTariff_24 : decode cX4_setTariff 24 = .ok (.aload 4, 2) := by decide +kernel
theorem dX4_setTariff_26 : decode cX4_setTariff 26 = .ok (.invokevirtual 132, 3) := by decide +kernel
theorem dX4_setTariff_29 : decode cX4_setTariff 29 = .ok (.iload 5, 2) := by decide +kernel
theorem dX4_setTariff_31 : decode cX4_setTariff 31 = .ok (.ireturn, 1) := by decide +kernel
theorem dX4_setBundle_0 : decode cX4_setBundle 0 = .ok (.aload_n 0, 1) := by decide +kernel
theorem dX4_setBundle_1 : decode cX4_setBundle 1 = .ok (.iload_n 1, 1) := by decide +kernel
theorem dX4_setBundle_2 : decode cX4_setBundle 2 = .ok (.invokevirtual 110, 3) := by decide +kernel
theorem dX4_setBundle_5 : decode cX4_setBundle 5 = .ok (.astore_n 3, 1) := by decide +kernel
theorem dX4_setBundle_6 : decode cX4_setBundle 6 = .ok (.iload_n 2, 1) := by decide +kernel
theorem dX4_setBundle_7 : decode cX4_setBundle 7 = .ok (.invokestatic 95, 3) := by decide +kernel
theorem dX4_setBundle_10 : decode cX4_setBundle 10 = .ok (.aload_n 3, 1) := by decide +kernel
theorem dX4_setBundle_11 : decode cX4_setBundle 11 = .ok (.getfield 136, 3) := by decide +kernel
theorem dX4_setBundle_14 : decode cX4_setBundle 14 = .ok (.istore 4, 2) := by decide +kernel
theorem dX4_setBundle_16 : decode cX4_setBundle 16 = .ok (.aload_n 3, 1) := by decide +kernel
theorem dX4_setBundle_17 : decode cX4_setBundle 17 = .ok (.iload_n 2, 1) := by decide +kernel
theorem dX4_setBundle_18 : decode cX4_setBundle 18 = .ok (.putfield 136, 3) := by decide +kernel
theorem dX4_setBundle_21 : decode cX4_setBundle 21 = .ok (.aload_n 0, 1) := by decide +kernel
theorem dX4_setBundle_22 : decode cX4_setBundle 22 = .ok (.invokevirtual 87, 3) := by decide +kernel
theorem dX4_setBundle_25 : decode cX4_setBundle 25 = .ok (.iload 4, 2) := by decide +kernel
theorem dX4_setBundle_27 : decode cX4_setBundle 27 = .ok (.ireturn, 1) := by decide +kernel
theorem dX4_addCall_0 : decode cX4_addCall 0 = .ok (.aload_n 0, 1) := by decide +kernel
theorem dX4_addCall_1 : decode cX4_addCall 1 = .ok (.iload_n 1, 1) := by decide +kernel
theorem dX4_addCall_2 : decode cX4_addCall 2 = .ok (.invokevirtual 121, 3) := by decide +kernel
theorem dX4_addCall_5 : decode cX4_addCall 5 = .ok (.astore 5, 2) := by decide +kernel
theorem dX4_addCall_7 : decode cX4_addCall 7 = .ok (.iload_n 2, 1) := by decide +kernel
theorem dX4_addCall_8 : decode cX4_addCall 8 = .ok (.iconst 0, 1) := by decide +kernel
theorem dX4_addCall_9 : decode cX4_addCall 9 = .ok (.ldc 139, 2) := by decide +kernel
theorem dX4_addCall_11 : decode cX4_addCall 11 = .ok (.invokestatic 46, 3) := by decide +kernel
theorem dX4_addCall_14 : decode cX4_addCall 14 = .ok (.ifCond .ne 13, 3) := by decide +kernel
theorem dX4_addCall_17 : decode cX4_addCall 17 = .ok (.new 39, 3) := by decide +kernel
theorem dX4_addCall_20 : decode cX4_addCall 20 = .ok (.dup, 1) := by decide +kernel
theorem dX4_addCall_21 : decode cX4_addCall 21 = .ok (.ldc 140, 2) := by decide +kernel
theorem dX4_addCall_23 : decode cX4_addCall 23 = .ok (.invokespecial 43, 3) := by decide +kernel
theorem dX4_addCall_26 : decode cX4_addCall 26 = .ok (.athrow, 1) := by decide +kernel
theorem dX4_addCall_27 : decode cX4_addCall 27 = .ok (.iload_n 3, 1) := by decide +kernel
theorem dX4_addCall_28 : decode cX4_addCall 28 = .ok (.iconst 1, 1) := by decide +kernel
theorem dX4_addCall_29 : decode cX4_addCall 29 = .ok (.sipush 7200, 3) := by decide +kernel
theorem dX4_addCall_32 : decode cX4_addCall 32 = .ok (.invokestatic 46, 3) := by decide +kernel
theorem dX4_addCall_35 : decode cX4_addCall 35 = .ok (.ifCond .ne 13, 3) := by decide +kernel
theorem dX4_addCall_38 : decode cX4_addCall 38 = .ok (.new 39, 3) := by decide +kernel
theorem dX4_addCall_41 : decode cX4_addCall 41 = .ok (.dup, 1) := by decide +kernel
theorem dX4_addCall_42 : decode cX4_addCall 42 = .ok (.ldc 142, 2) := by decide +kernel
theorem dX4_addCall_44 : decode cX4_addCall 44 = .ok (.invokespecial 43, 3) := by decide +kernel
theorem dX4_addCall_47 : decode cX4_addCall 47 = .ok (.athrow, 1) := by decide +kernel
theorem dX4_addCall_48 : decode cX4_addCall 48 = .ok (.iload 4, 2) := by decide +kernel
theorem dX4_addCall_50 : decode cX4_addCall 50 = .ok (.iconst 0, 1) := by decide +kernel
theorem dX4_addCall_51 : decode cX4_addCall 51 = .ok (.iconst 2, 1) := by decide +kernel
theorem dX4_addCall_52 : decode cX4_addCall 52 = .ok (.invokestatic 46, 3) := by decide +kernel
theorem dX4_addCall_55 : decode cX4_addCall 55 = .ok (.ifCond .ne 13, 3) := by decide +kernel
theorem dX4_addCall_58 : decode cX4_addCall 58 = .ok (.new 39, 3) := by decide +kernel
theorem dX4_addCall_61 : decode cX4_addCall 61 = .ok (.dup, 1) := by decide +kernel
theorem dX4_addCall_62 : decode cX4_addCall 62 = .ok (.ldc 144, 2) := by decide +kernel
theorem dX4_addCall_64 : decode cX4_addCall 64 = .ok (.invokespecial 43, 3) := by decide +kernel
theorem dX4_addCall_67 : decode cX4_addCall 67 = .ok (.athrow, 1) := by decide +kernel
theorem dX4_addCall_68 : decode cX4_addCall 68 = .ok (.aload_n 0, 1) := by decide +kernel
theorem dX4_addCall_69 : decode cX4_addCall 69 = .ok (.getfield 22, 3) := by decide +kernel
theorem dX4_addCall_72 : decode cX4_addCall 72 = .ok (.invokevirtual 52, 3) := by decide +kernel
theorem dX4_addCall_75 : decode cX4_addCall 75 = .ok (.istore 6, 2) := by decide +kernel
theorem dX4_addCall_77 : decode cX4_addCall 77 = .ok (.iload 6, 2) := by decide +kernel
theorem dX4_addCall_79 : decode cX4_addCall 79 = .ok (.bipush 60, 2) := by decide +kernel
theorem dX4_addCall_81 : decode cX4_addCall 81 = .ok (.if_icmp .lt 13, 3) := by decide +kernel
theorem dX4_addCall_84 : decode cX4_addCall 84 = .ok (.new 56, 3) := by decide +kernel
theorem dX4_addCall_87 : decode cX4_addCall 87 = .ok (.dup, 1) := by decide +kernel
theorem dX4_addCall_88 : decode cX4_addCall 88 = .ok (.ldc 146, 2) := by decide +kernel
theorem dX4_addCall_90 : decode cX4_addCall 90 = .ok (.invokespecial 60, 3) := by decide +kernel
theorem dX4_addCall_93 : decode cX4_addCall 93 = .ok (.athrow, 1) := by decide +kernel
theorem dX4_addCall_94 : decode cX4_addCall 94 = .ok (.new 148, 3) := by decide +kernel
theorem dX4_addCall_97 : decode cX4_addCall 97 = .ok (.dup, 1) := by decide +kernel
theorem dX4_addCall_98 : decode cX4_addCall 98 = .ok (.iload 6, 2) := by decide +kernel
theorem dX4_addCall_100 : decode cX4_addCall 100 = .ok (.aload 5, 2) := by decide +kernel
theorem dX4_addCall_102 : decode cX4_addCall 102 = .ok (.iload_n 2, 1) := by decide +kernel
theorem dX4_addCall_103 : decode cX4_addCall 103 = .ok (.iload_n 3, 1) := by decide +kernel
theorem dX4_addCall_104 : decode cX4_addCall 104 = .ok (.iload 4, 2) := by decide +kernel
theorem dX4_addCall_106 : decode cX4_addCall 106 = .ok (.invokespecial 150, 3) := by decide +kernel
theorem dX4_addCall_109 : decode cX4_addCall 109 = .ok (.astore 7, 2) := by decide +kernel
theorem dX4_addCall_111 : decode cX4_addCall 111 = .ok (.aload_n 0, 1) := by decide +kernel
theorem dX4_addCall_112 : decode cX4_addCall 112 = .ok (.getfield 22, 3) := by decide +kernel
theorem dX4_addCall_115 : decode cX4_addCall 115 = .ok (.aload 7, 2) := by decide +kernel
theorem dX4_addCall_117 : decode cX4_addCall 117 = .ok (.invokevirtual 66, 3) := by decide +kernel
theorem dX4_addCall_120 : decode cX4_addCall 120 = .ok (.pop, 1) := by decide +kernel
theorem dX4_addCall_121 : decode cX4_addCall 121 = .ok (.aload_n 0, 1) := by decide +kernel
theorem dX4_addCall_122 : decode cX4_addCall 122 = .ok (.aload 7, 2) := by decide +kernel
theorem dX4_addCall_124 : decode cX4_addCall 124 = .ok (.invokevirtual 153, 3) := by decide +kernel
theorem dX4_addCall_127 : decode cX4_addCall 127 = .ok (.aload_n 0, 1) := by decide +kernel
theorem dX4_addCall_128 : decode cX4_addCall 128 = .ok (.invokevirtual 87, 3) := by decide +kernel
theorem dX4_addCall_131 : decode cX4_addCall 131 = .ok (.iload 6, 2) := by decide +kernel
theorem dX4_addCall_133 : decode cX4_addCall 133 = .ok (.ireturn, 1) := by decide +kernel
theorem dX4_correct_0 : decode cX4_correct 0 = .ok (.aload_n 0, 1) := by decide +kernel
theorem dX4_correct_1 : decode cX4_correct 1 = .ok (.iload_n 1, 1) := by decide +kernel
theorem dX4_correct_2 : decode cX4_correct 2 = .ok (.invokevirtual 157, 3) := by decide +kernel
theorem dX4_correct_5 : decode cX4_correct 5 = .ok (.astore_n 3, 1) := by decide +kernel
theorem dX4_correct_6 : decode cX4_correct 6 = .ok (.iload_n 2, 1) := by decide +kernel
theorem dX4_correct_7 : decode cX4_correct 7 = .ok (.iconst 0, 1) := by decide +kernel
theorem dX4_correct_8 : decode cX4_correct 8 = .ok (.sipush 7200, 3) := by decide +kernel
theorem dX4_correct_11 : decode cX4_correct 11 = .ok (.invokestatic 46, 3) := by decide +kernel
theorem dX4_correct_14 : decode cX4_correct 14 = .ok (.ifCond .ne 13, 3) := by decide +kernel
theorem dX4_correct_17 : decode cX4_correct 17 = .ok (.new 39, 3) := by decide +kernel
theorem dX4_correct_20 : decode cX4_correct 20 = .ok (.dup, 1) := by decide +kernel
theorem dX4_correct_21 : decode cX4_correct 21 = .ok (.ldc 161, 2) := by decide +kernel
theorem dX4_correct_23 : decode cX4_correct 23 = .ok (.invokespecial 43, 3) := by decide +kernel
theorem dX4_correct_26 : decode cX4_correct 26 = .ok (.athrow, 1) := by decide +kernel
theorem dX4_correct_27 : decode cX4_correct 27 = .ok (.aload_n 3, 1) := by decide +kernel
theorem dX4_correct_28 : decode cX4_correct 28 = .ok (.getfield 163, 3) := by decide +kernel
theorem dX4_correct_31 : decode cX4_correct 31 = .ok (.istore 4, 2) := by decide +kernel
theorem dX4_correct_33 : decode cX4_correct 33 = .ok (.aload_n 3, 1) := by decide +kernel
theorem dX4_correct_34 : decode cX4_correct 34 = .ok (.iload_n 2, 1) := by decide +kernel
theorem dX4_correct_35 : decode cX4_correct 35 = .ok (.putfield 163, 3) := by decide +kernel
theorem dX4_correct_38 : decode cX4_correct 38 = .ok (.aload_n 0, 1) := by decide +kernel
theorem dX4_correct_39 : decode cX4_correct 39 = .ok (.invokevirtual 87, 3) := by decide +kernel
theorem dX4_correct_42 : decode cX4_correct 42 = .ok (.iload 4, 2) := by decide +kernel
theorem dX4_correct_44 : decode cX4_correct 44 = .ok (.ireturn, 1) := by decide +kernel
theorem dX4_callCount_0 : decode cX4_callCount 0 = .ok (.aload_n 0, 1) := by decide +kernel
theorem dX4_callCount_1 : decode cX4_callCount 1 = .ok (.getfield 22, 3) := by decide +kernel
theorem dX4_callCount_4 : decode cX4_callCount 4 = .ok (.invokevirtual 52, 3) := by decide +kernel
theorem dX4_callCount_7 : decode cX4_callCount 7 = .ok (.ireturn, 1) := by decide +kernel
theorem dX4_callAt_0 : decode cX4_callAt 0 = .ok (.iload_n 1, 1) := by decide +kernel
theorem dX4_callAt_1 : decode cX4_callAt 1 = .ok (.ifCond .lt 14, 3) := by decide +kernel
theorem dX4_callAt_4 : decode cX4_callAt 4 = .ok (.iload_n 1, 1) := by decide +kernel
theorem dX4_callAt_5 : decode cX4_callAt 5 = .ok (.aload_n 0, 1) := by decide +kernel
theorem dX4_callAt_6 : decode cX4_callAt 6 = .ok (.getfield 25, 3) := by decide +kernel
theorem dX4_callAt_9 : decode cX4_callAt 9 = .ok (.invokevirtual 52, 3) := by decide +kernel
theorem dX4_callAt_12 : decode cX4_callAt 12 = .ok (.if_icmp .lt 13, 3) := by decide +kernel
theorem dX4_callAt_15 : decode cX4_callAt 15 = .ok (.new 166, 3) := by decide +kernel
theorem dX4_callAt_18 : decode cX4_callAt 18 = .ok (.dup, 1) := by decide +kernel
theorem dX4_callAt_19 : decode cX4_callAt 19 = .ok (.ldc 168, 2) := by decide +kernel
theorem dX4_callAt_21 : decode cX4_callAt 21 = .ok (.invokespecial 170, 3) := by decide +kernel
theorem dX4_callAt_24 : decode cX4_callAt 24 = .ok (.athrow, 1) := by decide +kernel
theorem dX4_callAt_25 : decode cX4_callAt 25 = .ok (.aload_n 0, 1) := by decide +kernel
theorem dX4_callAt_26 : decode cX4_callAt 26 = .ok (.getfield 25, 3) := by decide +kernel
theorem dX4_callAt_29 : decode cX4_callAt 29 = .ok (.iload_n 1, 1) := by decide +kernel
theorem dX4_callAt_30 : decode cX4_callAt 30 = .ok (.invokevirtual 171, 3) := by decide +kernel
theorem dX4_callAt_33 : decode cX4_callAt 33 = .ok (.checkcast 148, 3) := by decide +kernel
theorem dX4_callAt_36 : decode cX4_callAt 36 = .ok (.getfield 175, 3) := by decide +kernel
theorem dX4_callAt_39 : decode cX4_callAt 39 = .ok (.ireturn, 1) := by decide +kernel
theorem dX4_isPeak_0 : decode cX4_isPeak 0 = .ok (.aload_n 0, 1) := by decide +kernel
theorem dX4_isPeak_1 : decode cX4_isPeak 1 = .ok (.aload_n 0, 1) := by decide +kernel
theorem dX4_isPeak_2 : decode cX4_isPeak 2 = .ok (.iload_n 1, 1) := by decide +kernel
theorem dX4_isPeak_3 : decode cX4_isPeak 3 = .ok (.invokevirtual 157, 3) := by decide +kernel
theorem dX4_isPeak_6 : decode cX4_isPeak 6 = .ok (.invokevirtual 176, 3) := by decide +kernel
theorem dX4_isPeak_9 : decode cX4_isPeak 9 = .ok (.ireturn, 1) := by decide +kernel
theorem dX4_told_0 : decode cX4_told 0 = .ok (.aload_n 0, 1) := by decide +kernel
theorem dX4_told_1 : decode cX4_told 1 = .ok (.iload_n 1, 1) := by decide +kernel
theorem dX4_told_2 : decode cX4_told 2 = .ok (.invokevirtual 157, 3) := by decide +kernel
theorem dX4_told_5 : decode cX4_told 5 = .ok (.astore_n 3, 1) := by decide +kernel
theorem dX4_told_6 : decode cX4_told 6 = .ok (.iload_n 2, 1) := by decide +kernel
theorem dX4_told_7 : decode cX4_told 7 = .ok (.iconst 0, 1) := by decide +kernel
theorem dX4_told_8 : decode cX4_told 8 = .ok (.iconst 4, 1) := by decide +kernel
theorem dX4_told_9 : decode cX4_told 9 = .ok (.invokestatic 46, 3) := by decide +kernel
theorem dX4_told_12 : decode cX4_told 12 = .ok (.ifCond .ne 13, 3) := by decide +kernel
theorem dX4_told_15 : decode cX4_told 15 = .ok (.new 166, 3) := by decide +kernel
theorem dX4_told_18 : decode cX4_told 18 = .ok (.dup, 1) := by decide +kernel
theorem dX4_told_19 : decode cX4_told 19 = .ok (.ldc 180, 2) := by decide +kernel
theorem dX4_told_21 : decode cX4_told 21 = .ok (.invokespecial 170, 3) := by decide +kernel
theorem dX4_told_24 : decode cX4_told 24 = .ok (.athrow, 1) := by decide +kernel
theorem dX4_told_25 : decode cX4_told 25 = .ok (.aload_n 3, 1) := by decide +kernel
theorem dX4_told_26 : decode cX4_told 26 = .ok (.iload_n 2, 1) := by decide +kernel
theorem dX4_told_27 : decode cX4_told 27 = .ok (.invokevirtual 182, 3) := by decide +kernel
theorem dX4_told_30 : decode cX4_told 30 = .ok (.ireturn, 1) := by decide +kernel
theorem dX4_dearest_0 : decode cX4_dearest 0 = .ok (.iconst (-1), 1) := by decide +kernel
theorem dX4_dearest_1 : decode cX4_dearest 1 = .ok (.istore_n 1, 1) := by decide +kernel
theorem dX4_dearest_2 : decode cX4_dearest 2 = .ok (.iconst (-1), 1) := by decide +kernel
theorem dX4_dearest_3 : decode cX4_dearest 3 = .ok (.istore_n 2, 1) := by decide +kernel
theorem dX4_dearest_4 : decode cX4_dearest 4 = .ok (.iconst 0, 1) := by decide +kernel
theorem dX4_dearest_5 : decode cX4_dearest 5 = .ok (.istore_n 3, 1) := by decide +kernel
theorem dX4_dearest_6 : decode cX4_dearest 6 = .ok (.iload_n 3, 1) := by decide +kernel
theorem dX4_dearest_7 : decode cX4_dearest 7 = .ok (.aload_n 0, 1) := by decide +kernel
theorem dX4_dearest_8 : decode cX4_dearest 8 = .ok (.getfield 25, 3) := by decide +kernel
theorem dX4_dearest_11 : decode cX4_dearest 11 = .ok (.invokevirtual 52, 3) := by decide +kernel
theorem dX4_dearest_14 : decode cX4_dearest 14 = .ok (.if_icmp .ge 43, 3) := by decide +kernel
theorem dX4_dearest_17 : decode cX4_dearest 17 = .ok (.aload_n 0, 1) := by decide +kernel
theorem dX4_dearest_18 : decode cX4_dearest 18 = .ok (.getfield 25, 3) := by decide +kernel
theorem dX4_dearest_21 : decode cX4_dearest 21 = .ok (.iload_n 3, 1) := by decide +kernel
theorem dX4_dearest_22 : decode cX4_dearest 22 = .ok (.invokevirtual 171, 3) := by decide +kernel
theorem dX4_dearest_25 : decode cX4_dearest 25 = .ok (.checkcast 148, 3) := by decide +kernel
theorem dX4_dearest_28 : decode cX4_dearest 28 = .ok (.astore 4, 2) := by decide +kernel
theorem dX4_dearest_30 : decode cX4_dearest 30 = .ok (.aload 4, 2) := by decide +kernel
theorem dX4_dearest_32 : decode cX4_dearest 32 = .ok (.getfield 186, 3) := by decide +kernel
theorem dX4_dearest_35 : decode cX4_dearest 35 = .ok (.iload_n 2, 1) := by decide +kernel
theorem dX4_dearest_36 : decode cX4_dearest 36 = .ok (.if_icmp .le 15, 3) := by decide +kernel
theorem dX4_dearest_39 : decode cX4_dearest 39 = .ok (.aload 4, 2) := by decide +kernel
theorem dX4_dearest_41 : decode cX4_dearest 41 = .ok (.getfield 186, 3) := by decide +kernel
theorem dX4_dearest_44 : decode cX4_dearest 44 = .ok (.istore_n 2, 1) := by decide +kernel
theorem dX4_dearest_45 : decode cX4_dearest 45 = .ok (.aload 4, 2) := by decide +kernel
theorem dX4_dearest_47 : decode cX4_dearest 47 = .ok (.getfield 175, 3) := by decide +kernel
theorem dX4_dearest_50 : decode cX4_dearest 50 = .ok (.istore_n 1, 1) := by decide +kernel
theorem dX4_dearest_51 : decode cX4_dearest 51 = .ok (.iinc 3 1, 3) := by decide +kernel
theorem dX4_dearest_54 : decode cX4_dearest 54 = .ok (.goto (-48), 3) := by decide +kernel
theorem dX4_dearest_57 : decode cX4_dearest 57 = .ok (.iload_n 1, 1) := by decide +kernel
theorem dX4_dearest_58 : decode cX4_dearest 58 = .ok (.ireturn, 1) := by decide +kernel
theorem dX4_lineSum_0 : decode cX4_lineSum 0 = .ok (.aload_n 0, 1) := by decide +kernel
theorem dX4_lineSum_1 : decode cX4_lineSum 1 = .ok (.iload_n 1, 1) := by decide +kernel
theorem dX4_lineSum_2 : decode cX4_lineSum 2 = .ok (.invokevirtual 121, 3) := by decide +kernel
theorem dX4_lineSum_5 : decode cX4_lineSum 5 = .ok (.getfield 189, 3) := by decide +kernel
theorem dX4_lineSum_8 : decode cX4_lineSum 8 = .ok (.ireturn, 1) := by decide +kernel
theorem dX4_daySum_0 : decode cX4_daySum 0 = .ok (.iload_n 1, 1) := by decide +kernel
theorem dX4_daySum_1 : decode cX4_daySum 1 = .ok (.ifCond .lt 9, 3) := by decide +kernel
theorem dX4_daySum_4 : decode cX4_daySum 4 = .ok (.iload_n 1, 1) := by decide +kernel
theorem dX4_daySum_5 : decode cX4_daySum 5 = .ok (.bipush 30, 2) := by decide +kernel
theorem dX4_daySum_7 : decode cX4_daySum 7 = .ok (.if_icmp .lt 13, 3) := by decide +kernel
theorem dX4_daySum_10 : decode cX4_daySum 10 = .ok (.new 166, 3) := by decide +kernel
theorem dX4_daySum_13 : decode cX4_daySum 13 = .ok (.dup, 1) := by decide +kernel
theorem dX4_daySum_14 : decode cX4_daySum 14 = .ok (.ldc 192, 2) := by decide +kernel
theorem dX4_daySum_16 : decode cX4_daySum 16 = .ok (.invokespecial 170, 3) := by decide +kernel
theorem dX4_daySum_19 : decode cX4_daySum 19 = .ok (.athrow, 1) := by decide +kernel
theorem dX4_daySum_20 : decode cX4_daySum 20 = .ok (.iconst 0, 1) := by decide +kernel
theorem dX4_daySum_21 : decode cX4_daySum 21 = .ok (.istore_n 2, 1) := by decide +kernel
theorem dX4_daySum_22 : decode cX4_daySum 22 = .ok (.iconst 0, 1) := by decide +kernel
theorem dX4_daySum_23 : decode cX4_daySum 23 = .ok (.istore_n 3, 1) := by decide +kernel
theorem dX4_daySum_24 : decode cX4_daySum 24 = .ok (.iload_n 3, 1) := by decide +kernel
theorem dX4_daySum_25 : decode cX4_daySum 25 = .ok (.aload_n 0, 1) := by decide +kernel
theorem dX4_daySum_26 : decode cX4_daySum 26 = .ok (.getfield 22, 3) := by decide +kernel
theorem dX4_daySum_29 : decode cX4_daySum 29 = .ok (.invokevirtual 52, 3) := by decide +kernel
theorem dX4_daySum_32 : decode cX4_daySum 32 = .ok (.if_icmp .ge 39, 3) := by decide +kernel
theorem dX4_daySum_35 : decode cX4_daySum 35 = .ok (.aload_n 0, 1) := by decide +kernel
theorem dX4_daySum_36 : decode cX4_daySum 36 = .ok (.getfield 22, 3) := by decide +kernel
theorem dX4_daySum_39 : decode cX4_daySum 39 = .ok (.iload_n 3, 1) := by decide +kernel
theorem dX4_daySum_40 : decode cX4_daySum 40 = .ok (.invokevirtual 171, 3) := by decide +kernel
theorem dX4_daySum_43 : decode cX4_daySum 43 = .ok (.checkcast 148, 3) := by decide +kernel
theorem dX4_daySum_46 : decode cX4_daySum 46 = .ok (.astore 4, 2) := by decide +kernel
theorem dX4_daySum_48 : decode cX4_daySum 48 = .ok (.aload 4, 2) := by decide +kernel
theorem dX4_daySum_50 : decode cX4_daySum 50 = .ok (.invokevirtual 194, 3) := by decide +kernel
theorem dX4_daySum_53 : decode cX4_daySum 53 = .ok (.iload_n 1, 1) := by decide +kernel
theorem dX4_daySum_54 : decode cX4_daySum 54 = .ok (.if_icmp .ne 11, 3) := by decide +kernel
theorem dX4_daySum_57 : decode cX4_daySum 57 = .ok (.iload_n 2, 1) := by decide +kernel
theorem dX4_daySum_58 : decode cX4_daySum 58 = .ok (.aload 4, 2) := by decide +kernel
theorem dX4_daySum_60 : decode cX4_daySum 60 = .ok (.getfield 186, 3) := by decide +kernel
theorem dX4_daySum_63 : decode cX4_daySum 63 = .ok (.iadd, 1) := by decide +kernel
theorem dX4_daySum_64 : decode cX4_daySum 64 = .ok (.istore_n 2, 1) := by decide +kernel
theorem dX4_daySum_65 : decode cX4_daySum 65 = .ok (.iinc 3 1, 3) := by decide +kernel
theorem dX4_daySum_68 : decode cX4_daySum 68 = .ok (.goto (-44), 3) := by decide +kernel
theorem dX4_daySum_71 : decode cX4_daySum 71 = .ok (.iload_n 2, 1) := by decide +kernel
theorem dX4_daySum_72 : decode cX4_daySum 72 = .ok (.ireturn, 1) := by decide +kernel
theorem dX4_sum_0 : decode cX4_sum 0 = .ok (.aload_n 0, 1) := by decide +kernel
theorem dX4_sum_1 : decode cX4_sum 1 = .ok (.iload_n 1, 1) := by decide +kernel
theorem dX4_sum_2 : decode cX4_sum 2 = .ok (.invokevirtual 110, 3) := by decide +kernel
theorem dX4_sum_5 : decode cX4_sum 5 = .ok (.getfield 197, 3) := by decide +kernel
theorem dX4_sum_8 : decode cX4_sum 8 = .ok (.ireturn, 1) := by decide +kernel
theorem dX4_total_0 : decode cX4_total 0 = .ok (.aload_n 0, 1) := by decide +kernel
theorem dX4_total_1 : decode cX4_total 1 = .ok (.iload_n 1, 1) := by decide +kernel
theorem dX4_total_2 : decode cX4_total 2 = .ok (.invokevirtual 110, 3) := by decide +kernel
theorem dX4_total_5 : decode cX4_total 5 = .ok (.invokevirtual 198, 3) := by decide +kernel
theorem dX4_total_8 : decode cX4_total 8 = .ok (.ireturn, 1) := by decide +kernel
theorem dX4_left_0 : decode cX4_left 0 = .ok (.aload_n 0, 1) := by decide +kernel
theorem dX4_left_1 : decode cX4_left 1 = .ok (.iload_n 1, 1) := by decide +kernel
theorem dX4_left_2 : decode cX4_left 2 = .ok (.invokevirtual 110, 3) := by decide +kernel
theorem dX4_left_5 : decode cX4_left 5 = .ok (.getfield 201, 3) := by decide +kernel
theorem dX4_left_8 : decode cX4_left 8 = .ok (.ireturn, 1) := by decide +kernel
theorem dX4_emptied_0 : decode cX4_emptied 0 = .ok (.aload_n 0, 1) := by decide +kernel
theorem dX4_emptied_1 : decode cX4_emptied 1 = .ok (.iload_n 1, 1) := by decide +kernel
theorem dX4_emptied_2 : decode cX4_emptied 2 = .ok (.invokevirtual 110, 3) := by decide +kernel
theorem dX4_emptied_5 : decode cX4_emptied 5 = .ok (.getfield 204, 3) := by decide +kernel
theorem dX4_emptied_8 : decode cX4_emptied 8 = .ok (.ireturn, 1) := by decide +kernel
theorem dX4_dayFees_0 : decode cX4_dayFees 0 = .ok (.aload_n 0, 1) := by decide +kernel
theorem dX4_dayFees_1 : decode cX4_dayFees 1 = .ok (.iload_n 1, 1) := by decide +kernel
theorem dX4_dayFees_2 : decode cX4_dayFees 2 = .ok (.invokevirtual 121, 3) := by decide +kernel
theorem dX4_dayFees_5 : decode cX4_dayFees 5 = .ok (.astore_n 3, 1) := by decide +kernel
theorem dX4_dayFees_6 : decode cX4_dayFees 6 = .ok (.iload_n 2, 1) := by decide +kernel
theorem dX4_dayFees_7 : decode cX4_dayFees 7 = .ok (.invokestatic 74, 3) := by decide +kernel
theorem dX4_dayFees_10 : decode cX4_dayFees 10 = .ok (.aload_n 3, 1) := by decide +kernel
theorem dX4_dayFees_11 : decode cX4_dayFees 11 = .ok (.getfield 207, 3) := by decide +kernel
theorem dX4_dayFees_14 : decode cX4_dayFees 14 = .ok (.iload_n 2, 1) := by decide +kernel
theorem dX4_dayFees_15 : decode cX4_dayFees 15 = .ok (.iaload, 1) := by decide +kernel
theorem dX4_dayFees_16 : decode cX4_dayFees 16 = .ok (.ireturn, 1) := by decide +kernel
theorem dX4_totalWith_0 : decode cX4_totalWith 0 = .ok (.aload_n 0, 1) := by decide +kernel
theorem dX4_totalWith_1 : decode cX4_totalWith 1 = .ok (.iload_n 1, 1) := by decide +kernel
theorem dX4_totalWith_2 : decode cX4_totalWith 2 = .ok (.invokevirtual 121, 3) := by decide +kernel
theorem dX4_totalWith_5 : decode cX4_totalWith 5 = .ok (.astore_n 3, 1) := by decide +kernel
theorem dX4_totalWith_6 : decode cX4_totalWith 6 = .ok (.aload_n 0, 1) := by decide +kernel
theorem dX4_totalWith_7 : decode cX4_totalWith 7 = .ok (.iload_n 2, 1) := by decide +kernel
theorem dX4_totalWith_8 : decode cX4_totalWith 8 = .ok (.invokevirtual 70, 3) := by decide +kernel
theorem dX4_totalWith_11 : decode cX4_totalWith 11 = .ok (.astore 4, 2) := by decide +kernel
theorem dX4_totalWith_13 : decode cX4_totalWith 13 = .ok (.aload_n 3, 1) := by decide +kernel
theorem dX4_totalWith_14 : decode cX4_totalWith 14 = .ok (.getfield 125, 3) := by decide +kernel
theorem dX4_totalWith_17 : decode cX4_totalWith 17 = .ok (.astore 5, 2) := by decide +kernel
theorem dX4_totalWith_19 : decode cX4_totalWith 19 = .ok (.aload_n 0, 1) := by decide +kernel
theorem dX4_totalWith_20 : decode cX4_totalWith 20 = .ok (.aload_n 3, 1) := by decide +kernel
theorem dX4_totalWith_21 : decode cX4_totalWith 21 = .ok (.aload 4, 2) := by decide +kernel
theorem dX4_totalWith_23 : decode cX4_totalWith 23 = .ok (.invokevirtual 132, 3) := by decide +kernel
theorem dX4_totalWith_26 : decode cX4_totalWith 26 = .ok (.aload_n 3, 1) := by decide +kernel
theorem dX4_totalWith_27 : decode cX4_totalWith 27 = .ok (.getfield 210, 3) := by decide +kernel
theorem dX4_totalWith_30 : decode cX4_totalWith 30 = .ok (.invokevirtual 198, 3) := by decide +kernel
theorem dX4_totalWith_33 : decode cX4_totalWith 33 = .ok (.istore 6, 2) := by decide +kernel
theorem dX4_totalWith_35 : decode cX4_totalWith 35 = .ok (.aload_n 0, 1) := by decide +kernel
theorem dX4_totalWith_36 : decode cX4_totalWith 36 = .ok (.aload_n 3, 1) := by decide +kernel
theorem dX4_totalWith_37 : decode cX4_totalWith 37 = .ok (.aload 5, 2) := by decide +kernel
theorem dX4_totalWith_39 : decode cX4_totalWith 39 = .ok (.invokevirtual 132, 3) := by decide +kernel
theorem dX4_totalWith_42 : decode cX4_totalWith 42 = .ok (.iload 6, 2) := by decide +kernel
theorem dX4_totalWith_44 : decode cX4_totalWith 44 = .ok (.ireturn, 1) := by decide +kernel
theorem dX4_bestTariff_0 : decode cX4_bestTariff 0 = .ok (.aload_n 0, 1) := by decide +kernel
theorem dX4_bestTariff_1 : decode cX4_bestTariff 1 = .ok (.iload_n 1, 1) := by decide +kernel
theorem dX4_bestTariff_2 : decode cX4_bestTariff 2 = .ok (.invokevirtual 121, 3) := by decide +kernel
theorem dX4_bestTariff_5 : decode cX4_bestTariff 5 = .ok (.astore_n 2, 1) := by decide +kernel
theorem dX4_bestTariff_6 : decode cX4_bestTariff 6 = .ok (.aload_n 2, 1) := by decide +kernel
theorem dX4_bestTariff_7 : decode cX4_bestTariff 7 = .ok (.getfield 125, 3) := by decide +kernel
theorem dX4_bestTariff_10 : decode cX4_bestTariff 10 = .ok (.astore_n 3, 1) := by decide +kernel
theorem dX4_bestTariff_11 : decode cX4_bestTariff 11 = .ok (.iconst (-1), 1) := by decide +kernel
theorem dX4_bestTariff_12 : decode cX4_bestTariff 12 = .ok (.istore 4, 2) := by decide +kernel
theorem dX4_bestTariff_14 : decode cX4_bestTariff 14 = .ok (.iconst 0, 1) := by decide +kernel
theorem dX4_bestTariff_15 : decode cX4_bestTariff 15 = .ok (.istore 5, 2) := by decide +kernel
theorem dX4_bestTariff_17 : decode cX4_bestTariff 17 = .ok (.iconst 0, 1) := by decide +kernel
theorem dX4_bestTariff_18 : decode cX4_bestTariff 18 = .ok (.istore 6, 2) := by decide +kernel
theorem dX4_bestTariff_20 : decode cX4_bestTariff 20 = .ok (.iload 6, 2) := by decide +kernel
theorem dX4_bestTariff_22 : decode cX4_bestTariff 22 = .ok (.aload_n 0, 1) := by decide +kernel
theorem dX4_bestTariff_23 : decode cX4_bestTariff 23 = .ok (.getfield 10, 3) := by decide +kernel
theorem dX4_bestTariff_26 : decode cX4_bestTariff 26 = .ok (.invokevirtual 52, 3) := by decide +kernel
theorem dX4_bestTariff_29 : decode cX4_bestTariff 29 = .ok (.if_icmp .ge 56, 3) := by decide +kernel
theorem dX4_bestTariff_32 : decode cX4_bestTariff 32 = .ok (.aload_n 0, 1) := by decide +kernel
theorem dX4_bestTariff_33 : decode cX4_bestTariff 33 = .ok (.aload_n 2, 1) := by decide +kernel
theorem dX4_bestTariff_34 : decode cX4_bestTariff 34 = .ok (.aload_n 0, 1) := by decide +kernel
theorem dX4_bestTariff_35 : decode cX4_bestTariff 35 = .ok (.getfield 10, 3) := by decide +kernel
theorem dX4_bestTariff_38 : decode cX4_bestTariff 38 = .ok (.iload 6, 2) := by decide +kernel
theorem dX4_bestTariff_40 : decode cX4_bestTariff 40 = .ok (.invokevirtual 171, 3) := by decide +kernel
theorem dX4_bestTariff_43 : decode cX4_bestTariff 43 = .ok (.checkcast 61, 3) := by decide +kernel
theorem dX4_bestTariff_46 : decode cX4_bestTariff 46 = .ok (.invokevirtual 132, 3) := by decide +kernel
theorem dX4_bestTariff_49 : decode cX4_bestTariff 49 = .ok (.aload_n 2, 1) := by decide +kernel
theorem dX4_bestTariff_50 : decode cX4_bestTariff 50 = .ok (.getfield 210, 3) := by decide +kernel
theorem dX4_bestTariff_53 : decode cX4_bestTariff 53 = .ok (.invokevirtual 198, 3) := by decide +kernel
theorem dX4_bestTariff_56 : decode cX4_bestTariff 56 = .ok (.istore 7, 2) := by decide +kernel
theorem dX4_bestTariff_58 : decode cX4_bestTariff 58 = .ok (.iload 4, 2) := by decide +kernel
theorem dX4_bestTariff_60 : decode cX4_bestTariff 60 = .ok (.iconst (-1), 1) := by decide +kernel
theorem dX4_bestTariff_61 : decode cX4_bestTariff 61 = .ok (.if_icmp .eq 10, 3) := by decide +kernel
theorem dX4_bestTariff_64 : decode cX4_bestTariff 64 = .ok (.iload 7, 2) := by decide +kernel
theorem dX4_bestTariff_66 : decode cX4_bestTariff 66 = .ok (.iload 5, 2) := by decide +kernel
theorem dX4_bestTariff_68 : decode cX4_bestTariff 68 = .ok (.if_icmp .ge 11, 3) := by decide +kernel
theorem dX4_bestTariff_71 : decode cX4_bestTariff 71 = .ok (.iload 6, 2) := by decide +kernel
theorem dX4_bestTariff_73 : decode cX4_bestTariff 73 = .ok (.istore 4, 2) := by decide +kernel
theorem dX4_bestTariff_75 : decode cX4_bestTariff 75 = .ok (.iload 7, 2) := by decide +kernel
theorem dX4_bestTariff_77 : decode cX4_bestTariff 77 = .ok (.istore 5, 2) := by decide +kernel
theorem dX4_bestTariff_79 : decode cX4_bestTariff 79 = .ok (.iinc 6 1, 3) := by decide +kernel
theorem dX4_bestTariff_82 : decode cX4_bestTariff 82 = .ok (.goto (-62), 3) := by decide +kernel
theorem dX4_bestTariff_85 : decode cX4_bestTariff 85 = .ok (.aload_n 0, 1) := by decide +kernel
theorem dX4_bestTariff_86 : decode cX4_bestTariff 86 = .ok (.aload_n 2, 1) := by decide +kernel
theorem dX4_bestTariff_87 : decode cX4_bestTariff 87 = .ok (.aload_n 3, 1) := by decide +kernel
theorem dX4_bestTariff_88 : decode cX4_bestTariff 88 = .ok (.invokevirtual 132, 3) := by decide +kernel
theorem dX4_bestTariff_91 : decode cX4_bestTariff 91 = .ok (.iload 4, 2) := by decide +kernel
theorem dX4_bestTariff_93 : decode cX4_bestTariff 93 = .ok (.ireturn, 1) := by decide +kernel
theorem dX4_freeShare_0 : decode cX4_freeShare 0 = .ok (.iconst 0, 1) := by decide +kernel
theorem dX4_freeShare_1 : decode cX4_freeShare 1 = .ok (.istore_n 1, 1) := by decide +kernel
theorem dX4_freeShare_2 : decode cX4_freeShare 2 = .ok (.iconst 0, 1) := by decide +kernel
theorem dX4_freeShare_3 : decode cX4_freeShare 3 = .ok (.istore_n 2, 1) := by decide +kernel
theorem dX4_freeShare_4 : decode cX4_freeShare 4 = .ok (.iconst 0, 1) := by decide +kernel
theorem dX4_freeShare_5 : decode cX4_freeShare 5 = .ok (.istore_n 3, 1) := by decide +kernel
theorem dX4_freeShare_6 : decode cX4_freeShare 6 = .ok (.iload_n 3, 1) := by decide +kernel
theorem dX4_freeShare_7 : decode cX4_freeShare 7 = .ok (.aload_n 0, 1) := by decide +kernel
theorem dX4_freeShare_8 : decode cX4_freeShare 8 = .ok (.getfield 22, 3) := by decide +kernel
theorem dX4_freeShare_11 : decode cX4_freeShare 11 = .ok (.invokevirtual 52, 3) := by decide +kernel
theorem dX4_freeShare_14 : decode cX4_freeShare 14 = .ok (.if_icmp .ge 38, 3) := by decide +kernel
theorem dX4_freeShare_17 : decode cX4_freeShare 17 = .ok (.aload_n 0, 1) := by decide +kernel
theorem dX4_freeShare_18 : decode cX4_freeShare 18 = .ok (.getfield 22, 3) := by decide +kernel
theorem dX4_freeShare_21 : decode cX4_freeShare 21 = .ok (.iload_n 3, 1) := by decide +kernel
theorem dX4_freeShare_22 : decode cX4_freeShare 22 = .ok (.invokevirtual 171, 3) := by decide +kernel
theorem dX4_freeShare_25 : decode cX4_freeShare 25 = .ok (.checkcast 148, 3) := by decide +kernel
theorem dX4_freeShare_28 : decode cX4_freeShare 28 = .ok (.astore 4, 2) := by decide +kernel
theorem dX4_freeShare_30 : decode cX4_freeShare 30 = .ok (.iload_n 1, 1) := by decide +kernel
theorem dX4_freeShare_31 : decode cX4_freeShare 31 = .ok (.aload 4, 2) := by decide +kernel
theorem dX4_freeShare_33 : decode cX4_freeShare 33 = .ok (.getfield 214, 3) := by decide +kernel
theorem dX4_freeShare_36 : decode cX4_freeShare 36 = .ok (.iadd, 1) := by decide +kernel
theorem dX4_freeShare_37 : decode cX4_freeShare 37 = .ok (.istore_n 1, 1) := by decide +kernel
theorem dX4_freeShare_38 : decode cX4_freeShare 38 = .ok (.iload_n 2, 1) := by decide +kernel
theorem dX4_freeShare_39 : decode cX4_freeShare 39 = .ok (.aload 4, 2) := by decide +kernel
theorem dX4_freeShare_41 : decode cX4_freeShare 41 = .ok (.getfield 217, 3) := by decide +kernel
theorem dX4_freeShare_44 : decode cX4_freeShare 44 = .ok (.iadd, 1) := by decide +kernel
theorem dX4_freeShare_45 : decode cX4_freeShare 45 = .ok (.istore_n 2, 1) := by decide +kernel
theorem dX4_freeShare_46 : decode cX4_freeShare 46 = .ok (.iinc 3 1, 3) := by decide +kernel
theorem dX4_freeShare_49 : decode cX4_freeShare 49 = .ok (.goto (-43), 3) := by decide +kernel
theorem dX4_freeShare_52 : decode cX4_freeShare 52 = .ok (.iload_n 2, 1) := by decide +kernel
theorem dX4_freeShare_53 : decode cX4_freeShare 53 = .ok (.ifCond .ne 5, 3) := by decide +kernel
theorem dX4_freeShare_56 : decode cX4_freeShare 56 = .ok (.dconst 0, 1) := by decide +kernel
theorem dX4_freeShare_57 : decode cX4_freeShare 57 = .ok (.dreturn, 1) := by decide +kernel
theorem dX4_freeShare_58 : decode cX4_freeShare 58 = .ok (.iload_n 1, 1) := by decide +kernel
theorem dX4_freeShare_59 : decode cX4_freeShare 59 = .ok (.i2d, 1) := by decide +kernel
theorem dX4_freeShare_60 : decode cX4_freeShare 60 = .ok (.iload_n 2, 1) := by decide +kernel
theorem dX4_freeShare_61 : decode cX4_freeShare 61 = .ok (.i2d, 1) := by decide +kernel
theorem dX4_freeShare_62 : decode cX4_freeShare 62 = .ok (.ddiv, 1) := by decide +kernel
theorem dX4_freeShare_63 : decode cX4_freeShare 63 = .ok (.dreturn, 1) := by decide +kernel
theorem dX4_digest_0 : decode cX4_digest 0 = .ok (.ldc2_w 220, 3) := by decide +kernel
theorem dX4_digest_3 : decode cX4_digest 3 = .ok (.lstore_n 1, 1) := by decide +kernel
theorem dX4_digest_4 : decode cX4_digest 4 = .ok (.lload_n 1, 1) := by decide +kernel
theorem dX4_digest_5 : decode cX4_digest 5 = .ok (.aload_n 0, 1) := by decide +kernel
theorem dX4_digest_6 : decode cX4_digest 6 = .ok (.getfield 10, 3) := by decide +kernel
theorem dX4_digest_9 : decode cX4_digest 9 = .ok (.invokevirtual 52, 3) := by decide +kernel
theorem dX4_digest_12 : decode cX4_digest 12 = .ok (.invokestatic 222, 3) := by decide +kernel
theorem dX4_digest_15 : decode cX4_digest 15 = .ok (.lstore_n 1, 1) := by decide +kernel
theorem dX4_digest_16 : decode cX4_digest 16 = .ok (.lload_n 1, 1) := by decide +kernel
theorem dX4_digest_17 : decode cX4_digest 17 = .ok (.aload_n 0, 1) := by decide +kernel
theorem dX4_digest_18 : decode cX4_digest 18 = .ok (.getfield 16, 3) := by decide +kernel
theorem dX4_digest_21 : decode cX4_digest 21 = .ok (.invokevirtual 52, 3) := by decide +kernel
theorem dX4_digest_24 : decode cX4_digest 24 = .ok (.invokestatic 222, 3) := by decide +kernel
theorem dX4_digest_27 : decode cX4_digest 27 = .ok (.lstore_n 1, 1) := by decide +kernel
theorem dX4_digest_28 : decode cX4_digest 28 = .ok (.lload_n 1, 1) := by decide +kernel
theorem dX4_digest_29 : decode cX4_digest 29 = .ok (.aload_n 0, 1) := by decide +kernel
theorem dX4_digest_30 : decode cX4_digest 30 = .ok (.getfield 19, 3) := by decide +kernel
theorem dX4_digest_33 : decode cX4_digest 33 = .ok (.invokevirtual 52, 3) := by decide +kernel
theorem dX4_digest_36 : decode cX4_digest 36 = .ok (.invokestatic 222, 3) := by decide +kernel
theorem dX4_digest_39 : decode cX4_digest 39 = .ok (.lstore_n 1, 1) := by decide +kernel
theorem dX4_digest_40 : decode cX4_digest 40 = .ok (.lload_n 1, 1) := by decide +kernel
theorem dX4_digest_41 : decode cX4_digest 41 = .ok (.aload_n 0, 1) := by decide +kernel
theorem dX4_digest_42 : decode cX4_digest 42 = .ok (.getfield 22, 3) := by decide +kernel
theorem dX4_digest_45 : decode cX4_digest 45 = .ok (.invokevirtual 52, 3) := by decide +kernel
theorem dX4_digest_48 : decode cX4_digest 48 = .ok (.invokestatic 222, 3) := by decide +kernel
theorem dX4_digest_51 : decode cX4_digest 51 = .ok (.lstore_n 1, 1) := by decide +kernel
theorem dX4_digest_52 : decode cX4_digest 52 = .ok (.lload_n 1, 1) := by decide +kernel
theorem dX4_digest_53 : decode cX4_digest 53 = .ok (.aload_n 0, 1) := by decide +kernel
theorem dX4_digest_54 : decode cX4_digest 54 = .ok (.getfield 28, 3) := by decide +kernel
theorem dX4_digest_57 : decode cX4_digest 57 = .ok (.invokestatic 222, 3) := by decide +kernel
theorem dX4_digest_60 : decode cX4_digest 60 = .ok (.lstore_n 1, 1) := by decide +kernel
theorem dX4_digest_61 : decode cX4_digest 61 = .ok (.lload_n 1, 1) := by decide +kernel
theorem dX4_digest_62 : decode cX4_digest 62 = .ok (.aload_n 0, 1) := by decide +kernel
theorem dX4_digest_63 : decode cX4_digest 63 = .ok (.getfield 32, 3) := by decide +kernel
theorem dX4_digest_66 : decode cX4_digest 66 = .ok (.invokestatic 222, 3) := by decide +kernel
theorem dX4_digest_69 : decode cX4_digest 69 = .ok (.lstore_n 1, 1) := by decide +kernel
theorem dX4_digest_70 : decode cX4_digest 70 = .ok (.aload_n 0, 1) := by decide +kernel
theorem dX4_digest_71 : decode cX4_digest 71 = .ok (.lload_n 1, 1) := by decide +kernel
theorem dX4_digest_72 : decode cX4_digest 72 = .ok (.invokevirtual 226, 3) := by decide +kernel
theorem dX4_digest_75 : decode cX4_digest 75 = .ok (.lstore_n 1, 1) := by decide +kernel
theorem dX4_digest_76 : decode cX4_digest 76 = .ok (.aload_n 0, 1) := by decide +kernel
theorem dX4_digest_77 : decode cX4_digest 77 = .ok (.lload_n 1, 1) := by decide +kernel
theorem dX4_digest_78 : decode cX4_digest 78 = .ok (.invokevirtual 230, 3) := by decide +kernel
theorem dX4_digest_81 : decode cX4_digest 81 = .ok (.lstore_n 1, 1) := by decide +kernel
theorem dX4_digest_82 : decode cX4_digest 82 = .ok (.aload_n 0, 1) := by decide +kernel
theorem dX4_digest_83 : decode cX4_digest 83 = .ok (.lload_n 1, 1) := by decide +kernel
theorem dX4_digest_84 : decode cX4_digest 84 = .ok (.invokevirtual 233, 3) := by decide +kernel
theorem dX4_digest_87 : decode cX4_digest 87 = .ok (.lreturn, 1) := by decide +kernel
theorem dX4_mixLines_0 : decode cX4_mixLines 0 = .ok (.lload_n 1, 1) := by decide +kernel
theorem dX4_mixLines_1 : decode cX4_mixLines 1 = .ok (.lstore_n 3, 1) := by decide +kernel
theorem dX4_mixLines_2 : decode cX4_mixLines 2 = .ok (.iconst 0, 1) := by decide +kernel
theorem dX4_mixLines_3 : decode cX4_mixLines 3 = .ok (.istore 5, 2) := by decide +kernel
theorem dX4_mixLines_5 : decode cX4_mixLines 5 = .ok (.iload 5, 2) := by decide +kernel
theorem dX4_mixLines_7 : decode cX4_mixLines 7 = .ok (.aload_n 0, 1) := by decide +kernel
theorem dX4_mixLines_8 : decode cX4_mixLines 8 = .ok (.getfield 19, 3) := by decide +kernel
theorem dX4_mixLines_11 : decode cX4_mixLines 11 = .ok (.invokevirtual 52, 3) := by decide +kernel
theorem dX4_mixLines_14 : decode cX4_mixLines 14 = .ok (.if_icmp .ge 46, 3) := by decide +kernel
theorem dX4_mixLines_17 : decode cX4_mixLines 17 = .ok (.aload_n 0, 1) := by decide +kernel
theorem dX4_mixLines_18 : decode cX4_mixLines 18 = .ok (.getfield 19, 3) := by decide +kernel
theorem dX4_mixLines_21 : decode cX4_mixLines 21 = .ok (.iload 5, 2) := by decide +kernel
theorem dX4_mixLines_23 : decode cX4_mixLines 23 = .ok (.invokevirtual 171, 3) := by decide +kernel
theorem dX4_mixLines_26 : decode cX4_mixLines 26 = .ok (.checkcast 116, 3) := by decide +kernel
theorem dX4_mixLines_29 : decode cX4_mixLines 29 = .ok (.astore 6, 2) := by decide +kernel
theorem dX4_mixLines_31 : decode cX4_mixLines 31 = .ok (.lload_n 3, 1) := by decide +kernel
theorem dX4_mixLines_32 : decode cX4_mixLines 32 = .ok (.aload 6, 2) := by decide +kernel
theorem dX4_mixLines_34 : decode cX4_mixLines 34 = .ok (.getfield 125, 3) := by decide +kernel
theorem dX4_mixLines_37 : decode cX4_mixLines 37 = .ok (.getfield 129, 3) := by decide +kernel
theorem dX4_mixLines_40 : decode cX4_mixLines 40 = .ok (.invokestatic 222, 3) := by decide +kernel
theorem dX4_mixLines_43 : decode cX4_mixLines 43 = .ok (.lstore_n 3, 1) := by decide +kernel
theorem dX4_mixLines_44 : decode cX4_mixLines 44 = .ok (.lload_n 3, 1) := by decide +kernel
theorem dX4_mixLines_45 : decode cX4_mixLines 45 = .ok (.aload 6, 2) := by decide +kernel
theorem dX4_mixLines_47 : decode cX4_mixLines 47 = .ok (.getfield 189, 3) := by decide +kernel
theorem dX4_mixLines_50 : decode cX4_mixLines 50 = .ok (.invokestatic 222, 3) := by decide +kernel
theorem dX4_mixLines_53 : decode cX4_mixLines 53 = .ok (.lstore_n 3, 1) := by decide +kernel
theorem dX4_mixLines_54 : decode cX4_mixLines 54 = .ok (.iinc 5 1, 3) := by decide +kernel
theorem dX4_mixLines_57 : decode cX4_mixLines 57 = .ok (.goto (-52), 3) := by decide +kernel
theorem dX4_mixLines_60 : decode cX4_mixLines 60 = .ok (.lload_n 3, 1) := by decide +kernel
theorem dX4_mixLines_61 : decode cX4_mixLines 61 = .ok (.lreturn, 1) := by decide +kernel
theorem dX4_mixAccounts_0 : decode cX4_mixAccounts 0 = .ok (.lload_n 1, 1) := by decide +kernel
theorem dX4_mixAccounts_1 : decode cX4_mixAccounts 1 = .ok (.lstore_n 3, 1) := by decide +kernel
theorem dX4_mixAccounts_2 : decode cX4_mixAccounts 2 = .ok (.iconst 0, 1) := by decide +kernel
theorem dX4_mixAccounts_3 : decode cX4_mixAccounts 3 = .ok (.istore 5, 2) := by decide +kernel
theorem dX4_mixAccounts_5 : decode cX4_mixAccounts 5 = .ok (.iload 5, 2) := by decide +kernel
theorem dX4_mixAccounts_7 : decode cX4_mixAccounts 7 = .ok (.aload_n 0, 1) := by decide +kernel
theorem dX4_mixAccounts_8 : decode cX4_mixAccounts 8 = .ok (.getfield 16, 3) := by decide +kernel
theorem dX4_mixAccounts_11 : decode cX4_mixAccounts 11 = .ok (.invokevirtual 52, 3) := by decide +kernel
theorem dX4_mixAccounts_14 : decode cX4_mixAccounts 14 = .ok (.if_icmp .ge 63, 3) := by decide +kernel
theorem dX4_mixAccounts_17 : decode cX4_mixAccounts 17 = .ok (.aload_n 0, 1) := by decide +kernel
theorem dX4_mixAccounts_18 : decode cX4_mixAccounts 18 = .ok (.getfield 16, 3) := by decide +kernel
theorem dX4_mixAccounts_21 : decode cX4_mixAccounts 21 = .ok (.iload 5, 2) := by decide +kernel
theorem dX4_mixAccounts_23 : decode cX4_mixAccounts 23 = .ok (.invokevirtual 171, 3) := by decide +kernel
theorem dX4_mixAccounts_26 : decode cX4_mixAccounts 26 = .ok (.checkcast 105, 3) := by decide +kernel
theorem dX4_mixAccounts_29 : decode cX4_mixAccounts 29 = .ok (.astore 6, 2) := by decide +kernel
theorem dX4_mixAccounts_31 : decode cX4_mixAccounts 31 = .ok (.lload_n 3, 1) := by decide +kernel
theorem dX4_mixAccounts_32 : decode cX4_mixAccounts 32 = .ok (.aload 6, 2) := by decide +kernel
theorem dX4_mixAccounts_34 : decode cX4_mixAccounts 34 = .ok (.getfield 136, 3) := by decide +kernel
theorem dX4_mixAccounts_37 : decode cX4_mixAccounts 37 = .ok (.invokestatic 222, 3) := by decide +kernel
theorem dX4_mixAccounts_40 : decode cX4_mixAccounts 40 = .ok (.lstore_n 3, 1) := by decide +kernel
theorem dX4_mixAccounts_41 : decode cX4_mixAccounts 41 = .ok (.lload_n 3, 1) := by decide +kernel
theorem dX4_mixAccounts_42 : decode cX4_mixAccounts 42 = .ok (.aload 6, 2) := by decide +kernel
theorem dX4_mixAccounts_44 : decode cX4_mixAccounts 44 = .ok (.getfield 197, 3) := by decide +kernel
theorem dX4_mixAccounts_47 : decode cX4_mixAccounts 47 = .ok (.invokestatic 222, 3) := by decide +kernel
theorem dX4_mixAccounts_50 : decode cX4_mixAccounts 50 = .ok (.lstore_n 3, 1) := by decide +kernel
theorem dX4_mixAccounts_51 : decode cX4_mixAccounts 51 = .ok (.lload_n 3, 1) := by decide +kernel
theorem dX4_mixAccounts_52 : decode cX4_mixAccounts 52 = .ok (.aload 6, 2) := by decide +kernel
theorem dX4_mixAccounts_54 : decode cX4_mixAccounts 54 = .ok (.invokevirtual 198, 3) := by decide +kernel
theorem dX4_mixAccounts_57 : decode cX4_mixAccounts 57 = .ok (.invokestatic 222, 3) := by decide +kernel
theorem dX4_mixAccounts_60 : decode cX4_mixAccounts 60 = .ok (.lstore_n 3, 1) := by decide +kernel
theorem dX4_mixAccounts_61 : decode cX4_mixAccounts 61 = .ok (.lload_n 3, 1) := by decide +kernel
theorem dX4_mixAccounts_62 : decode cX4_mixAccounts 62 = .ok (.aload 6, 2) := by decide +kernel
theorem dX4_mixAccounts_64 : decode cX4_mixAccounts 64 = .ok (.getfield 201, 3) := by decide +kernel
theorem dX4_mixAccounts_67 : decode cX4_mixAccounts 67 = .ok (.invokestatic 222, 3) := by decide +kernel
theorem dX4_mixAccounts_70 : decode cX4_mixAccounts 70 = .ok (.lstore_n 3, 1) := by decide +kernel
theorem dX4_mixAccounts_71 : decode cX4_mixAccounts 71 = .ok (.iinc 5 1, 3) := by decide +kernel
theorem dX4_mixAccounts_74 : decode cX4_mixAccounts 74 = .ok (.goto (-69), 3) := by decide +kernel
theorem dX4_mixAccounts_77 : decode cX4_mixAccounts 77 = .ok (.lload_n 3, 1) := by decide +kernel
theorem dX4_mixAccounts_78 : decode cX4_mixAccounts 78 = .ok (.lreturn, 1) := by decide +kernel
theorem dX4_mixCalls_0 : decode cX4_mixCalls 0 = .ok (.lload_n 1, 1) := by decide +kernel
theorem dX4_mixCalls_1 : decode cX4_mixCalls 1 = .ok (.lstore_n 3, 1) := by decide +kernel
theorem dX4_mixCalls_2 : decode cX4_mixCalls 2 = .ok (.iconst 0, 1) := by decide +kernel
theorem dX4_mixCalls_3 : decode cX4_mixCalls 3 = .ok (.istore 5, 2) := by decide +kernel
theorem dX4_mixCalls_5 : decode cX4_mixCalls 5 = .ok (.iload 5, 2) := by decide +kernel
theorem dX4_mixCalls_7 : decode cX4_mixCalls 7 = .ok (.aload_n 0, 1) := by decide +kernel
theorem dX4_mixCalls_8 : decode cX4_mixCalls 8 = .ok (.getfield 25, 3) := by decide +kernel
theorem dX4_mixCalls_11 : decode cX4_mixCalls 11 = .ok (.invokevirtual 52, 3) := by decide +kernel
theorem dX4_mixCalls_14 : decode cX4_mixCalls 14 = .ok (.if_icmp .ge 60, 3) := by decide +kernel
theorem dX4_mixCalls_17 : decode cX4_mixCalls 17 = .ok (.aload_n 0, 1) := by decide +kernel
theorem dX4_mixCalls_18 : decode cX4_mixCalls 18 = .ok (.getfield 25, 3) := by decide +kernel
theorem dX4_mixCalls_21 : decode cX4_mixCalls 21 = .ok (.iload 5, 2) := by decide +kernel
theorem dX4_mixCalls_23 : decode cX4_mixCalls 23 = .ok (.invokevirtual 171, 3) := by decide +kernel
theorem dX4_mixCalls_26 : decode cX4_mixCalls 26 = .ok (.checkcast 148, 3) := by decide +kernel
theorem dX4_mixCalls_29 : decode cX4_mixCalls 29 = .ok (.astore 6, 2) := by decide +kernel
theorem dX4_mixCalls_31 : decode cX4_mixCalls 31 = .ok (.lload_n 3, 1) := by decide +kernel
theorem dX4_mixCalls_32 : decode cX4_mixCalls 32 = .ok (.aload 6, 2) := by decide +kernel
theorem dX4_mixCalls_34 : decode cX4_mixCalls 34 = .ok (.getfield 175, 3) := by decide +kernel
theorem dX4_mixCalls_37 : decode cX4_mixCalls 37 = .ok (.invokestatic 222, 3) := by decide +kernel
theorem dX4_mixCalls_40 : decode cX4_mixCalls 40 = .ok (.lstore_n 3, 1) := by decide +kernel
theorem dX4_mixCalls_41 : decode cX4_mixCalls 41 = .ok (.iconst 0, 1) := by decide +kernel
theorem dX4_mixCalls_42 : decode cX4_mixCalls 42 = .ok (.istore 7, 2) := by decide +kernel
theorem dX4_mixCalls_44 : decode cX4_mixCalls 44 = .ok (.iload 7, 2) := by decide +kernel
theorem dX4_mixCalls_46 : decode cX4_mixCalls 46 = .ok (.iconst 4, 1) := by decide +kernel
theorem dX4_mixCalls_47 : decode cX4_mixCalls 47 = .ok (.if_icmp .gt 21, 3) := by decide +kernel
theorem dX4_mixCalls_50 : decode cX4_mixCalls 50 = .ok (.lload_n 3, 1) := by decide +kernel
theorem dX4_mixCalls_51 : decode cX4_mixCalls 51 = .ok (.aload 6, 2) := by decide +kernel
theorem dX4_mixCalls_53 : decode cX4_mixCalls 53 = .ok (.iload 7, 2) := by decide +kernel
theorem dX4_mixCalls_55 : decode cX4_mixCalls 55 = .ok (.invokevirtual 182, 3) := by decide +kernel
theorem dX4_mixCalls_58 : decode cX4_mixCalls 58 = .ok (.invokestatic 222, 3) := by decide +kernel
theorem dX4_mixCalls_61 : decode cX4_mixCalls 61 = .ok (.lstore_n 3, 1) := by decide +kernel
theorem dX4_mixCalls_62 : decode cX4_mixCalls 62 = .ok (.iinc 7 1, 3) := by decide +kernel
theorem dX4_mixCalls_65 : decode cX4_mixCalls 65 = .ok (.goto (-21), 3) := by decide +kernel
theorem dX4_mixCalls_68 : decode cX4_mixCalls 68 = .ok (.iinc 5 1, 3) := by decide +kernel
theorem dX4_mixCalls_71 : decode cX4_mixCalls 71 = .ok (.goto (-66), 3) := by decide +kernel
theorem dX4_mixCalls_74 : decode cX4_mixCalls 74 = .ok (.lload_n 3, 1) := by decide +kernel
theorem dX4_mixCalls_75 : decode cX4_mixCalls 75 = .ok (.lreturn, 1) := by decide +kernel
theorem dX4_mix_0 : decode cX4_mix 0 = .ok (.lload_n 0, 1) := by decide +kernel
theorem dX4_mix_1 : decode cX4_mix 1 = .ok (.ldc2_w 236, 3) := by decide +kernel
theorem dX4_mix_4 : decode cX4_mix 4 = .ok (.lmul, 1) := by decide +kernel
theorem dX4_mix_5 : decode cX4_mix 5 = .ok (.iload_n 2, 1) := by decide +kernel
theorem dX4_mix_6 : decode cX4_mix 6 = .ok (.i2l, 1) := by decide +kernel
theorem dX4_mix_7 : decode cX4_mix 7 = .ok (.ladd, 1) := by decide +kernel
theorem dX4_mix_8 : decode cX4_mix 8 = .ok (.lreturn, 1) := by decide +kernel
theorem dX4_putInOrder_0 : decode cX4_putInOrder 0 = .ok (.iconst 0, 1) := by decide +kernel
theorem dX4_putInOrder_1 : decode cX4_putInOrder 1 = .ok (.istore_n 2, 1) := by decide +kernel
theorem dX4_putInOrder_2 : decode cX4_putInOrder 2 = .ok (.iload_n 2, 1) := by decide +kernel
theorem dX4_putInOrder_3 : decode cX4_putInOrder 3 = .ok (.aload_n 0, 1) := by decide +kernel
theorem dX4_putInOrder_4 : decode cX4_putInOrder 4 = .ok (.getfield 25, 3) := by decide +kernel
theorem dX4_putInOrder_7 : decode cX4_putInOrder 7 = .ok (.invokevirtual 52, 3) := by decide +kernel
theorem dX4_putInOrder_10 : decode cX4_putInOrder 10 = .ok (.if_icmp .ge 30, 3) := by decide +kernel
theorem dX4_putInOrder_13 : decode cX4_putInOrder 13 = .ok (.aload_n 0, 1) := by decide +kernel
theorem dX4_putInOrder_14 : decode cX4_putInOrder 14 = .ok (.getfield 25, 3) := by decide +kernel
theorem dX4_putInOrder_17 : decode cX4_putInOrder 17 = .ok (.iload_n 2, 1) := by decide +kernel
theorem dX4_putInOrder_18 : decode cX4_putInOrder 18 = .ok (.invokevirtual 171, 3) := by decide +kernel
theorem dX4_putInOrder_21 : decode cX4_putInOrder 21 = .ok (.checkcast 148, 3) := by decide +kernel
theorem dX4_putInOrder_24 : decode cX4_putInOrder 24 = .ok (.getfield 238, 3) := by decide +kernel
theorem dX4_putInOrder_27 : decode cX4_putInOrder 27 = .ok (.aload_n 1, 1) := by decide +kernel
theorem dX4_putInOrder_28 : decode cX4_putInOrder 28 = .ok (.getfield 238, 3) := by decide +kernel
theorem dX4_putInOrder_31 : decode cX4_putInOrder 31 = .ok (.if_icmp .gt 9, 3) := by decide +kernel
theorem dX4_putInOrder_34 : decode cX4_putInOrder 34 = .ok (.iinc 2 1, 3) := by decide +kernel
theorem dX4_putInOrder_37 : decode cX4_putInOrder 37 = .ok (.goto (-35), 3) := by decide +kernel
theorem dX4_putInOrder_40 : decode cX4_putInOrder 40 = .ok (.aload_n 0, 1) := by decide +kernel
theorem dX4_putInOrder_41 : decode cX4_putInOrder 41 = .ok (.getfield 25, 3) := by decide +kernel
theorem dX4_putInOrder_44 : decode cX4_putInOrder 44 = .ok (.iload_n 2, 1) := by decide +kernel
theorem dX4_putInOrder_45 : decode cX4_putInOrder 45 = .ok (.aload_n 1, 1) := by decide +kernel
theorem dX4_putInOrder_46 : decode cX4_putInOrder 46 = .ok (.invokevirtual 241, 3) := by decide +kernel
theorem dX4_putInOrder_49 : decode cX4_putInOrder 49 = .ok (.return_, 1) := by decide +kernel
theorem dX4_giveTariff_0 : decode cX4_giveTariff 0 = .ok (.aload_n 1, 1) := by decide +kernel
theorem dX4_giveTariff_1 : decode cX4_giveTariff 1 = .ok (.aload_n 2, 1) := by decide +kernel
theorem dX4_giveTariff_2 : decode cX4_giveTariff 2 = .ok (.putfield 125, 3) := by decide +kernel
theorem dX4_giveTariff_5 : decode cX4_giveTariff 5 = .ok (.aload_n 0, 1) := by decide +kernel
theorem dX4_giveTariff_6 : decode cX4_giveTariff 6 = .ok (.invokevirtual 87, 3) := by decide +kernel
theorem dX4_giveTariff_9 : decode cX4_giveTariff 9 = .ok (.return_, 1) := by decide +kernel
theorem dX4_rateAll_0 : decode cX4_rateAll 0 = .ok (.iconst 0, 1) := by decide +kernel
theorem dX4_rateAll_1 : decode cX4_rateAll 1 = .ok (.istore_n 1, 1) := by decide +kernel
theorem dX4_rateAll_2 : decode cX4_rateAll 2 = .ok (.iload_n 1, 1) := by decide +kernel
theorem dX4_rateAll_3 : decode cX4_rateAll 3 = .ok (.aload_n 0, 1) := by decide +kernel
theorem dX4_rateAll_4 : decode cX4_rateAll 4 = .ok (.getfield 16, 3) := by decide +kernel
theorem dX4_rateAll_7 : decode cX4_rateAll 7 = .ok (.invokevirtual 52, 3) := by decide +kernel
theorem dX4_rateAll_10 : decode cX4_rateAll 10 = .ok (.if_icmp .ge 23, 3) := by decide +kernel
theorem dX4_rateAll_13 : decode cX4_rateAll 13 = .ok (.aload_n 0, 1) := by decide +kernel
theorem dX4_rateAll_14 : decode cX4_rateAll 14 = .ok (.getfield 16, 3) := by decide +kernel
theorem dX4_rateAll_17 : decode cX4_rateAll 17 = .ok (.iload_n 1, 1) := by decide +kernel
theorem dX4_rateAll_18 : decode cX4_rateAll 18 = .ok (.invokevirtual 171, 3) := by decide +kernel
theorem dX4_rateAll_21 : decode cX4_rateAll 21 = .ok (.checkcast 105, 3) := by decide +kernel
theorem dX4_rateAll_24 : decode cX4_rateAll 24 = .ok (.invokevirtual 244, 3) := by decide +kernel
theorem dX4_rateAll_27 : decode cX4_rateAll 27 = .ok (.iinc 1 1, 3) := by decide +kernel
theorem dX4_rateAll_30 : decode cX4_rateAll 30 = .ok (.goto (-28), 3) := by decide +kernel
theorem dX4_rateAll_33 : decode cX4_rateAll 33 = .ok (.iconst 0, 1) := by decide +kernel
theorem dX4_rateAll_34 : decode cX4_rateAll 34 = .ok (.istore_n 1, 1) := by decide +kernel
theorem dX4_rateAll_35 : decode cX4_rateAll 35 = .ok (.iload_n 1, 1) := by decide +kernel
theorem dX4_rateAll_36 : decode cX4_rateAll 36 = .ok (.aload_n 0, 1) := by decide +kernel
theorem dX4_rateAll_37 : decode cX4_rateAll 37 = .ok (.getfield 19, 3) := by decide +kernel
theorem dX4_rateAll_40 : decode cX4_rateAll 40 = .ok (.invokevirtual 52, 3) := by decide +kernel
theorem dX4_rateAll_43 : decode cX4_rateAll 43 = .ok (.if_icmp .ge 23, 3) := by decide +kernel
theorem dX4_rateAll_46 : decode cX4_rateAll 46 = .ok (.aload_n 0, 1) := by decide +kernel
theorem dX4_rateAll_47 : decode cX4_rateAll 47 = .ok (.getfield 19, 3) := by decide +kernel
theorem dX4_rateAll_50 : decode cX4_rateAll 50 = .ok (.iload_n 1, 1) := by decide +kernel
theorem dX4_rateAll_51 : decode cX4_rateAll 51 = .ok (.invokevirtual 171, 3) := by decide +kernel
theorem dX4_rateAll_54 : decode cX4_rateAll 54 = .ok (.checkcast 116, 3) := by decide +kernel
theorem dX4_rateAll_57 : decode cX4_rateAll 57 = .ok (.invokevirtual 247, 3) := by decide +kernel
theorem dX4_rateAll_60 : decode cX4_rateAll 60 = .ok (.iinc 1 1, 3) := by decide +kernel
theorem dX4_rateAll_63 : decode cX4_rateAll 63 = .ok (.goto (-28), 3) := by decide +kernel
theorem dX4_rateAll_66 : decode cX4_rateAll 66 = .ok (.iconst 0, 1) := by decide +kernel
theorem dX4_rateAll_67 : decode cX4_rateAll 67 = .ok (.istore_n 1, 1) := by decide +kernel
theorem dX4_rateAll_68 : decode cX4_rateAll 68 = .ok (.iload_n 1, 1) := by decide +kernel
theorem dX4_rateAll_69 : decode cX4_rateAll 69 = .ok (.aload_n 0, 1) := by decide +kernel
theorem dX4_rateAll_70 : decode cX4_rateAll 70 = .ok (.getfield 25, 3) := by decide +kernel
theorem dX4_rateAll_73 : decode cX4_rateAll 73 = .ok (.invokevirtual 52, 3) := by decide +kernel
theorem dX4_rateAll_76 : decode cX4_rateAll 76 = .ok (.if_icmp .ge 37, 3) := by decide +kernel
theorem dX4_rateAll_79 : decode cX4_rateAll 79 = .ok (.aload_n 0, 1) := by decide +kernel
theorem dX4_rateAll_80 : decode cX4_rateAll 80 = .ok (.getfield 25, 3) := by decide +kernel
theorem dX4_rateAll_83 : decode cX4_rateAll 83 = .ok (.iload_n 1, 1) := by decide +kernel
theorem dX4_rateAll_84 : decode cX4_rateAll 84 = .ok (.invokevirtual 171, 3) := by decide +kernel
theorem dX4_rateAll_87 : decode cX4_rateAll 87 = .ok (.checkcast 148, 3) := by decide +kernel
theorem dX4_rateAll_90 : decode cX4_rateAll 90 = .ok (.astore_n 2, 1) := by decide +kernel
theorem dX4_rateAll_91 : decode cX4_rateAll 91 = .ok (.aload_n 2, 1) := by decide +kernel
theorem dX4_rateAll_92 : decode cX4_rateAll 92 = .ok (.invokevirtual 248, 3) := by decide +kernel
theorem dX4_rateAll_95 : decode cX4_rateAll 95 = .ok (.aload_n 2, 1) := by decide +kernel
theorem dX4_rateAll_96 : decode cX4_rateAll 96 = .ok (.getfield 163, 3) := by decide +kernel
theorem dX4_rateAll_99 : decode cX4_rateAll 99 = .ok (.ifCond .le 8, 3) := by decide +kernel
theorem dX4_rateAll_102 : decode cX4_rateAll 102 = .ok (.aload_n 0, 1) := by decide +kernel
theorem dX4_rateAll_103 : decode cX4_rateAll 103 = .ok (.aload_n 2, 1) := by decide +kernel
theorem dX4_rateAll_104 : decode cX4_rateAll 104 = .ok (.invokevirtual 249, 3) := by decide +kernel
theorem dX4_rateAll_107 : decode cX4_rateAll 107 = .ok (.iinc 1 1, 3) := by decide +kernel
theorem dX4_rateAll_110 : decode cX4_rateAll 110 = .ok (.goto (-42), 3) := by decide +kernel
theorem dX4_rateAll_113 : decode cX4_rateAll 113 = .ok (.return_, 1) := by decide +kernel
theorem dX4_rate_0 : decode cX4_rate 0 = .ok (.aload_n 1, 1) := by decide +kernel
theorem dX4_rate_1 : decode cX4_rate 1 = .ok (.getfield 252, 3) := by decide +kernel
theorem dX4_rate_4 : decode cX4_rate 4 = .ok (.astore_n 2, 1) := by decide +kernel
theorem dX4_rate_5 : decode cX4_rate 5 = .ok (.aload_n 2, 1) := by decide +kernel
theorem dX4_rate_6 : decode cX4_rate 6 = .ok (.getfield 125, 3) := by decide +kernel
theorem dX4_rate_9 : decode cX4_rate 9 = .ok (.astore_n 3, 1) := by decide +kernel
theorem dX4_rate_10 : decode cX4_rate 10 = .ok (.aload_n 1, 1) := by decide +kernel
theorem dX4_rate_11 : decode cX4_rate 11 = .ok (.aload_n 3, 1) := by decide +kernel
theorem dX4_rate_12 : decode cX4_rate 12 = .ok (.aload_n 1, 1) := by decide +kernel
theorem dX4_rate_13 : decode cX4_rate 13 = .ok (.getfield 163, 3) := by decide +kernel
theorem dX4_rate_16 : decode cX4_rate 16 = .ok (.invokevirtual 256, 3) := by decide +kernel
theorem dX4_rate_19 : decode cX4_rate 19 = .ok (.putfield 217, 3) := by decide +kernel
theorem dX4_rate_22 : decode cX4_rate 22 = .ok (.aload_n 1, 1) := by decide +kernel
theorem dX4_rate_23 : decode cX4_rate 23 = .ok (.getfield 259, 3) := by decide +kernel
theorem dX4_rate_26 : decode cX4_rate 26 = .ok (.ifCond .ne 39, 3) := by decide +kernel
theorem dX4_rate_29 : decode cX4_rate 29 = .ok (.aload_n 1, 1) := by decide +kernel
theorem dX4_rate_30 : decode cX4_rate 30 = .ok (.aload_n 2, 1) := by decide +kernel
theorem dX4_rate_31 : decode cX4_rate 31 = .ok (.getfield 210, 3) := by decide +kernel
theorem dX4_rate_34 : decode cX4_rate 34 = .ok (.aload_n 1, 1) := by decide +kernel
theorem dX4_rate_35 : decode cX4_rate 35 = .ok (.invokevirtual 262, 3) := by decide +kernel
theorem dX4_rate_38 : decode cX4_rate 38 = .ok (.putfield 214, 3) := by decide +kernel
theorem dX4_rate_41 : decode cX4_rate 41 = .ok (.aload_n 0, 1) := by decide +kernel
theorem dX4_rate_42 : decode cX4_rate 42 = .ok (.aload_n 1, 1) := by decide +kernel
theorem dX4_rate_43 : decode cX4_rate 43 = .ok (.invokevirtual 176, 3) := by decide +kernel
theorem dX4_rate_46 : decode cX4_rate 46 = .ok (.ifCond .eq 10, 3) := by decide +kernel
theorem dX4_rate_49 : decode cX4_rate 49 = .ok (.aload_n 3, 1) := by decide +kernel
theorem dX4_rate_50 : decode cX4_rate 50 = .ok (.getfield 266, 3) := by decide +kernel
theorem dX4_rate_53 : decode cX4_rate 53 = .ok (.goto 7, 3) := by decide +kernel
theorem dX4_rate_56 : decode cX4_rate 56 = .ok (.aload_n 3, 1) := by decide +kernel
theorem dX4_rate_57 : decode cX4_rate 57 = .ok (.getfield 269, 3) := by decide +kernel
theorem dX4_rate_60 : decode cX4_rate 60 = .ok (.istore 4, 2) := by decide +kernel
theorem dX4_rate_62 : decode cX4_rate 62 = .ok (.goto 18, 3) := by decide +kernel
theorem dX4_rate_65 : decode cX4_rate 65 = .ok (.aload_n 1, 1) := by decide +kernel
theorem dX4_rate_66 : decode cX4_rate 66 = .ok (.invokestatic 272, 3) := by decide +kernel
theorem dX4_rate_69 : decode cX4_rate 69 = .ok (.aload_n 3, 1) := by decide +kernel
theorem dX4_rate_70 : decode cX4_rate 70 = .ok (.getfield 80, 3) := by decide +kernel
theorem dX4_rate_73 : decode cX4_rate 73 = .ok (.aload_n 1, 1) := by decide +kernel
theorem dX4_rate_74 : decode cX4_rate 74 = .ok (.getfield 259, 3) := by decide +kernel
theorem dX4_rate_77 : decode cX4_rate 77 = .ok (.iaload, 1) := by decide +kernel
theorem dX4_rate_78 : decode cX4_rate 78 = .ok (.istore 4, 2) := by decide +kernel
theorem dX4_rate_80 : decode cX4_rate 80 = .ok (.aload_n 1, 1) := by decide +kernel
theorem dX4_rate_81 : decode cX4_rate 81 = .ok (.aload_n 1, 1) := by decide +kernel
theorem dX4_rate_82 : decode cX4_rate 82 = .ok (.getfield 275, 3) := by decide +kernel
theorem dX4_rate_85 : decode cX4_rate 85 = .ok (.aload_n 3, 1) := by decide +kernel
theorem dX4_rate_86 : decode cX4_rate 86 = .ok (.aload_n 1, 1) := by decide +kernel
theorem dX4_rate_87 : decode cX4_rate 87 = .ok (.getfield 217, 3) := by decide +kernel
theorem dX4_rate_90 : decode cX4_rate 90 = .ok (.aload_n 1, 1) := by decide +kernel
theorem dX4_rate_91 : decode cX4_rate 91 = .ok (.getfield 214, 3) := by decide +kernel
theorem dX4_rate_94 : decode cX4_rate 94 = .ok (.isub, 1) := by decide +kernel
theorem dX4_rate_95 : decode cX4_rate 95 = .ok (.iload 4, 2) := by decide +kernel
theorem dX4_rate_97 : decode cX4_rate 97 = .ok (.invokevirtual 278, 3) := by decide +kernel
theorem dX4_rate_100 : decode cX4_rate 100 = .ok (.iadd, 1) := by decide +kernel
theorem dX4_rate_101 : decode cX4_rate 101 = .ok (.putfield 186, 3) := by decide +kernel
theorem dX4_rate_104 : decode cX4_rate 104 = .ok (.aload_n 2, 1) := by decide +kernel
theorem dX4_rate_105 : decode cX4_rate 105 = .ok (.dup, 1) := by decide +kernel
theorem dX4_rate_106 : decode cX4_rate 106 = .ok (.getfield 189, 3) := by decide +kernel
theorem dX4_rate_109 : decode cX4_rate 109 = .ok (.aload_n 1, 1) := by decide +kernel
theorem dX4_rate_110 : decode cX4_rate 110 = .ok (.getfield 186, 3) := by decide +kernel
theorem dX4_rate_113 : decode cX4_rate 113 = .ok (.iadd, 1) := by decide +kernel
theorem dX4_rate_114 : decode cX4_rate 114 = .ok (.putfield 189, 3) := by decide +kernel
theorem dX4_rate_117 : decode cX4_rate 117 = .ok (.aload_n 2, 1) := by decide +kernel
theorem dX4_rate_118 : decode cX4_rate 118 = .ok (.getfield 210, 3) := by decide +kernel
theorem dX4_rate_121 : decode cX4_rate 121 = .ok (.dup, 1) := by decide +kernel
theorem dX4_rate_122 : decode cX4_rate 122 = .ok (.getfield 197, 3) := by decide +kernel
theorem dX4_rate_125 : decode cX4_rate 125 = .ok (.aload_n 1, 1) := by decide +kernel
theorem dX4_rate_126 : decode cX4_rate 126 = .ok (.getfield 186, 3) := by decide +kernel
theorem dX4_rate_129 : decode cX4_rate 129 = .ok (.iadd, 1) := by decide +kernel
theorem dX4_rate_130 : decode cX4_rate 130 = .ok (.putfield 197, 3) := by decide +kernel
theorem dX4_rate_133 : decode cX4_rate 133 = .ok (.return_, 1) := by decide +kernel
theorem dX4_rateDayFee_0 : decode cX4_rateDayFee 0 = .ok (.aload_n 0, 1) := by decide +kernel
theorem dX4_rateDayFee_1 : decode cX4_rateDayFee 1 = .ok (.getfield 252, 3) := by decide +kernel
theorem dX4_rateDayFee_4 : decode cX4_rateDayFee 4 = .ok (.astore_n 1, 1) := by decide +kernel
theorem dX4_rateDayFee_5 : decode cX4_rateDayFee 5 = .ok (.aload_n 0, 1) := by decide +kernel
theorem dX4_rateDayFee_6 : decode cX4_rateDayFee 6 = .ok (.getfield 259, 3) := by decide +kernel
theorem dX4_rateDayFee_9 : decode cX4_rateDayFee 9 = .ok (.istore_n 2, 1) := by decide +kernel
theorem dX4_rateDayFee_10 : decode cX4_rateDayFee 10 = .ok (.aload_n 1, 1) := by decide +kernel
theorem dX4_rateDayFee_11 : decode cX4_rateDayFee 11 = .ok (.getfield 125, 3) := by decide +kernel
theorem dX4_rateDayFee_14 : decode cX4_rateDayFee 14 = .ok (.getfield 84, 3) := by decide +kernel
theorem dX4_rateDayFee_17 : decode cX4_rateDayFee 17 = .ok (.iload_n 2, 1) := by decide +kernel
theorem dX4_rateDayFee_18 : decode cX4_rateDayFee 18 = .ok (.iaload, 1) := by decide +kernel
theorem dX4_rateDayFee_19 : decode cX4_rateDayFee 19 = .ok (.istore_n 3, 1) := by decide +kernel
theorem dX4_rateDayFee_20 : decode cX4_rateDayFee 20 = .ok (.iload_n 3, 1) := by decide +kernel
theorem dX4_rateDayFee_21 : decode cX4_rateDayFee 21 = .ok (.ifCond .ne 4, 3) := by decide +kernel
theorem dX4_rateDayFee_24 : decode cX4_rateDayFee 24 = .ok (.return_, 1) := by decide +kernel
theorem dX4_rateDayFee_25 : decode cX4_rateDayFee 25 = .ok (.aload_n 1, 1) := by decide +kernel
theorem dX4_rateDayFee_26 : decode cX4_rateDayFee 26 = .ok (.iload_n 2, 1) := by decide +kernel
theorem dX4_rateDayFee_27 : decode cX4_rateDayFee 27 = .ok (.aload_n 0, 1) := by decide +kernel
theorem dX4_rateDayFee_28 : decode cX4_rateDayFee 28 = .ok (.invokevirtual 194, 3) := by decide +kernel
theorem dX4_rateDayFee_31 : decode cX4_rateDayFee 31 = .ok (.invokevirtual 282, 3) := by decide +kernel
theorem dX4_rateDayFee_34 : decode cX4_rateDayFee 34 = .ok (.ifCond .eq 8, 3) := by decide +kernel
theorem dX4_rateDayFee_37 : decode cX4_rateDayFee 37 = .ok (.aload_n 0, 1) := by decide +kernel
theorem dX4_rateDayFee_38 : decode cX4_rateDayFee 38 = .ok (.iload_n 3, 1) := by decide +kernel
theorem dX4_rateDayFee_39 : decode cX4_rateDayFee 39 = .ok (.putfield 275, 3) := by decide +kernel
theorem dX4_rateDayFee_42 : decode cX4_rateDayFee 42 = .ok (.aload_n 0, 1) := by decide +kernel
theorem dX4_rateDayFee_43 : decode cX4_rateDayFee 43 = .ok (.aload_n 1, 1) := by decide +kernel
theorem dX4_rateDayFee_44 : decode cX4_rateDayFee 44 = .ok (.iload_n 2, 1) := by decide +kernel
theorem dX4_rateDayFee_45 : decode cX4_rateDayFee 45 = .ok (.aload_n 0, 1) := by decide +kernel
theorem dX4_rateDayFee_46 : decode cX4_rateDayFee 46 = .ok (.getfield 217, 3) := by decide +kernel
theorem dX4_rateDayFee_49 : decode cX4_rateDayFee 49 = .ok (.invokevirtual 286, 3) := by decide +kernel
theorem dX4_rateDayFee_52 : decode cX4_rateDayFee 52 = .ok (.putfield 214, 3) := by decide +kernel
theorem dX4_rateDayFee_55 : decode cX4_rateDayFee 55 = .ok (.return_, 1) := by decide +kernel
theorem dX4_beginsInPeak_0 : decode cX4_beginsInPeak 0 = .ok (.aload_n 1, 1) := by decide +kernel
theorem dX4_beginsInPeak_1 : decode cX4_beginsInPeak 1 = .ok (.getfield 238, 3) := by decide +kernel
theorem dX4_beginsInPeak_4 : decode cX4_beginsInPeak 4 = .ok (.sipush 1440, 3) := by decide +kernel
theorem dX4_beginsInPeak_7 : decode cX4_beginsInPeak 7 = .ok (.irem, 1) := by decide +kernel
theorem dX4_beginsInPeak_8 : decode cX4_beginsInPeak 8 = .ok (.istore_n 2, 1) := by decide +kernel
theorem dX4_beginsInPeak_9 : decode cX4_beginsInPeak 9 = .ok (.aload_n 1, 1) := by decide +kernel
theorem dX4_beginsInPeak_10 : decode cX4_beginsInPeak 10 = .ok (.invokevirtual 194, 3) := by decide +kernel
theorem dX4_beginsInPeak_13 : decode cX4_beginsInPeak 13 = .ok (.bipush 7, 2) := by decide +kernel
theorem dX4_beginsInPeak_15 : decode cX4_beginsInPeak 15 = .ok (.irem, 1) := by decide +kernel
theorem dX4_beginsInPeak_16 : decode cX4_beginsInPeak 16 = .ok (.iconst 5, 1) := by decide +kernel
theorem dX4_beginsInPeak_17 : decode cX4_beginsInPeak 17 = .ok (.if_icmp .lt 7, 3) := by decide +kernel
theorem dX4_beginsInPeak_20 : decode cX4_beginsInPeak 20 = .ok (.iconst 1, 1) := by decide +kernel
theorem dX4_beginsInPeak_21 : decode cX4_beginsInPeak 21 = .ok (.goto 4, 3) := by decide +kernel
theorem dX4_beginsInPeak_24 : decode cX4_beginsInPeak 24 = .ok (.iconst 0, 1) := by decide +kernel
theorem dX4_beginsInPeak_25 : decode cX4_beginsInPeak 25 = .ok (.istore_n 3, 1) := by decide +kernel
theorem dX4_beginsInPeak_26 : decode cX4_beginsInPeak 26 = .ok (.iload_n 3, 1) := by decide +kernel
theorem dX4_beginsInPeak_27 : decode cX4_beginsInPeak 27 = .ok (.ifCond .ne 22, 3) := by decide +kernel
theorem dX4_beginsInPeak_30 : decode cX4_beginsInPeak 30 = .ok (.iload_n 2, 1) := by decide +kernel
theorem dX4_beginsInPeak_31 : decode cX4_beginsInPeak 31 = .ok (.aload_n 0, 1) := by decide +kernel
theorem dX4_beginsInPeak_32 : decode cX4_beginsInPeak 32 = .ok (.getfield 28, 3) := by decide +kernel
theorem dX4_beginsInPeak_35 : decode cX4_beginsInPeak 35 = .ok (.aload_n 0, 1) := by decide +kernel
theorem dX4_beginsInPeak_36 : decode cX4_beginsInPeak 36 = .ok (.getfield 32, 3) := by decide +kernel
theorem dX4_beginsInPeak_39 : decode cX4_beginsInPeak 39 = .ok (.invokestatic 46, 3) := by decide +kernel
theorem dX4_beginsInPeak_42 : decode cX4_beginsInPeak 42 = .ok (.ifCond .eq 7, 3) := by decide +kernel
theorem dX4_beginsInPeak_45 : decode cX4_beginsInPeak 45 = .ok (.iconst 1, 1) := by decide +kernel
theorem dX4_beginsInPeak_46 : decode cX4_beginsInPeak 46 = .ok (.goto 4, 3) := by decide +kernel
theorem dX4_beginsInPeak_49 : decode cX4_beginsInPeak 49 = .ok (.iconst 0, 1) := by decide +kernel
theorem dX4_beginsInPeak_50 : decode cX4_beginsInPeak 50 = .ok (.ireturn, 1) := by decide +kernel
theorem dX4_findTariff_0 : decode cX4_findTariff 0 = .ok (.iload_n 1, 1) := by decide +kernel
theorem dX4_findTariff_1 : decode cX4_findTariff 1 = .ok (.ifCond .lt 14, 3) := by decide +kernel
theorem dX4_findTariff_4 : decode cX4_findTariff 4 = .ok (.iload_n 1, 1) := by decide +kernel
theorem dX4_findTariff_5 : decode cX4_findTariff 5 = .ok (.aload_n 0, 1) := by decide +kernel
theorem dX4_findTariff_6 : decode cX4_findTariff 6 = .ok (.getfield 10, 3) := by decide +kernel
theorem dX4_findTariff_9 : decode cX4_findTariff 9 = .ok (.invokevirtual 52, 3) := by decide +kernel
theorem dX4_findTariff_12 : decode cX4_findTariff 12 = .ok (.if_icmp .lt 14, 3) := by decide +kernel
theorem dX4_findTariff_15 : decode cX4_findTariff 15 = .ok (.new 166, 3) := by decide +kernel
theorem dX4_findTariff_18 : decode cX4_findTariff 18 = .ok (.dup, 1) := by decide +kernel
theorem dX4_findTariff_19 : decode cX4_findTariff 19 = .ok (.ldc_w 289, 3) := by decide +kernel
theorem dX4_findTariff_22 : decode cX4_findTariff 22 = .ok (.invokespecial 170, 3) := by decide +kernel
theorem dX4_findTariff_25 : decode cX4_findTariff 25 = .ok (.athrow, 1) := by decide +kernel
theorem dX4_findTariff_26 : decode cX4_findTariff 26 = .ok (.aload_n 0, 1) := by decide +kernel
theorem dX4_findTariff_27 : decode cX4_findTariff 27 = .ok (.getfield 10, 3) := by decide +kernel
theorem dX4_findTariff_30 : decode cX4_findTariff 30 = .ok (.iload_n 1, 1) := by decide +kernel
theorem dX4_findTariff_31 : decode cX4_findTariff 31 = .ok (.invokevirtual 171, 3) := by decide +kernel
theorem dX4_findTariff_34 : decode cX4_findTariff 34 = .ok (.checkcast 61, 3) := by decide +kernel
theorem dX4_findTariff_37 : decode cX4_findTariff 37 = .ok (.areturn, 1) := by decide +kernel
theorem dX4_findAccount_0 : decode cX4_findAccount 0 = .ok (.iload_n 1, 1) := by decide +kernel
theorem dX4_findAccount_1 : decode cX4_findAccount 1 = .ok (.ifCond .lt 14, 3) := by decide +kernel
theorem dX4_findAccount_4 : decode cX4_findAccount 4 = .ok (.iload_n 1, 1) := by decide +kernel
theorem dX4_findAccount_5 : decode cX4_findAccount 5 = .ok (.aload_n 0, 1) := by decide +kernel
theorem dX4_findAccount_6 : decode cX4_findAccount 6 = .ok (.getfield 16, 3) := by decide +kernel
theorem dX4_findAccount_9 : decode cX4_findAccount 9 = .ok (.invokevirtual 52, 3) := by decide +kernel
theorem dX4_findAccount_12 : decode cX4_findAccount 12 = .ok (.if_icmp .lt 14, 3) := by decide +kernel
theorem dX4_findAccount_15 : decode cX4_findAccount 15 = .ok (.new 166, 3) := by decide +kernel
theorem dX4_findAccount_18 : decode cX4_findAccount 18 = .ok (.dup, 1) := by decide +kernel
theorem dX4_findAccount_19 : decode cX4_findAccount 19 = .ok (.ldc_w 291, 3) := by decide +kernel
theorem dX4_findAccount_22 : decode cX4_findAccount 22 = .ok (.invokespecial 170, 3) := by decide +kernel
theorem dX4_findAccount_25 : decode cX4_findAccount 25 = .ok (.athrow, 1) := by decide +kernel
theorem dX4_findAccount_26 : decode cX4_findAccount 26 = .ok (.aload_n 0, 1) := by decide +kernel
theorem dX4_findAccount_27 : decode cX4_findAccount 27 = .ok (.getfield 16, 3) := by decide +kernel
theorem dX4_findAccount_30 : decode cX4_findAccount 30 = .ok (.iload_n 1, 1) := by decide +kernel
theorem dX4_findAccount_31 : decode cX4_findAccount 31 = .ok (.invokevirtual 171, 3) := by decide +kernel
theorem dX4_findAccount_34 : decode cX4_findAccount 34 = .ok (.checkcast 105, 3) := by decide +kernel
theorem dX4_findAccount_37 : decode cX4_findAccount 37 = .ok (.areturn, 1) := by decide +kernel
theorem dX4_findLine_0 : decode cX4_findLine 0 = .ok (.iload_n 1, 1) := by decide +kernel
theorem dX4_findLine_1 : decode cX4_findLine 1 = .ok (.ifCond .lt 14, 3) := by decide +kernel
theorem dX4_findLine_4 : decode cX4_findLine 4 = .ok (.iload_n 1, 1) := by decide +kernel
theorem dX4_findLine_5 : decode cX4_findLine 5 = .ok (.aload_n 0, 1) := by decide +kernel
theorem dX4_findLine_6 : decode cX4_findLine 6 = .ok (.getfield 19, 3) := by decide +kernel
theorem dX4_findLine_9 : decode cX4_findLine 9 = .ok (.invokevirtual 52, 3) := by decide +kernel
theorem dX4_findLine_12 : decode cX4_findLine 12 = .ok (.if_icmp .lt 14, 3) := by decide +kernel
theorem dX4_findLine_15 : decode cX4_findLine 15 = .ok (.new 166, 3) := by decide +kernel
theorem dX4_findLine_18 : decode cX4_findLine 18 = .ok (.dup, 1) := by decide +kernel
theorem dX4_findLine_19 : decode cX4_findLine 19 = .ok (.ldc_w 293, 3) := by decide +kernel
theorem dX4_findLine_22 : decode cX4_findLine 22 = .ok (.invokespecial 170, 3) := by decide +kernel
theorem dX4_findLine_25 : decode cX4_findLine 25 = .ok (.athrow, 1) := by decide +kernel
theorem dX4_findLine_26 : decode cX4_findLine 26 = .ok (.aload_n 0, 1) := by decide +kernel
theorem dX4_findLine_27 : decode cX4_findLine 27 = .ok (.getfield 19, 3) := by decide +kernel
theorem dX4_findLine_30 : decode cX4_findLine 30 = .ok (.iload_n 1, 1) := by decide +kernel
theorem dX4_findLine_31 : decode cX4_findLine 31 = .ok (.invokevirtual 171, 3) := by decide +kernel
theorem dX4_findLine_34 : decode cX4_findLine 34 = .ok (.checkcast 116, 3) := by decide +kernel
theorem dX4_findLine_37 : decode cX4_findLine 37 = .ok (.areturn, 1) := by decide +kernel
theorem dX4_findCall_0 : decode cX4_findCall 0 = .ok (.iload_n 1, 1) := by decide +kernel
theorem dX4_findCall_1 : decode cX4_findCall 1 = .ok (.ifCond .lt 14, 3) := by decide +kernel
theorem dX4_findCall_4 : decode cX4_findCall 4 = .ok (.iload_n 1, 1) := by decide +kernel
theorem dX4_findCall_5 : decode cX4_findCall 5 = .ok (.aload_n 0, 1) := by decide +kernel
theorem dX4_findCall_6 : decode cX4_findCall 6 = .ok (.getfield 22, 3) := by decide +kernel
theorem dX4_findCall_9 : decode cX4_findCall 9 = .ok (.invokevirtual 52, 3) := by decide +kernel
theorem dX4_findCall_12 : decode cX4_findCall 12 = .ok (.if_icmp .lt 14, 3) := by decide +kernel
theorem dX4_findCall_15 : decode cX4_findCall 15 = .ok (.new 166, 3) := by decide +kernel
theorem dX4_findCall_18 : decode cX4_findCall 18 = .ok (.dup, 1) := by decide +kernel
theorem dX4_findCall_19 : decode cX4_findCall 19 = .ok (.ldc_w 295, 3) := by decide +kernel
theorem dX4_findCall_22 : decode cX4_findCall 22 = .ok (.invokespecial 170, 3) := by decide +kernel
theorem dX4_findCall_25 : decode cX4_findCall 25 = .ok (.athrow, 1) := by decide +kernel
theorem dX4_findCall_26 : decode cX4_findCall 26 = .ok (.aload_n 0, 1) := by decide +kernel
theorem dX4_findCall_27 : decode cX4_findCall 27 = .ok (.getfield 22, 3) := by decide +kernel
theorem dX4_findCall_30 : decode cX4_findCall 30 = .ok (.iload_n 1, 1) := by decide +kernel
theorem dX4_findCall_31 : decode cX4_findCall 31 = .ok (.invokevirtual 171, 3) := by decide +kernel
theorem dX4_findCall_34 : decode cX4_findCall 34 = .ok (.checkcast 148, 3) := by decide +kernel
theorem dX4_findCall_37 : decode cX4_findCall 37 = .ok (.areturn, 1) := by decide +kernel
theorem dX4_checkAbroad_0 : decode cX4_checkAbroad 0 = .ok (.iload_n 0, 1) := by decide +kernel
theorem dX4_checkAbroad_1 : decode cX4_checkAbroad 1 = .ok (.iconst 1, 1) := by decide +kernel
theorem dX4_checkAbroad_2 : decode cX4_checkAbroad 2 = .ok (.iconst 2, 1) := by decide +kernel
theorem dX4_checkAbroad_3 : decode cX4_checkAbroad 3 = .ok (.invokestatic 46, 3) := by decide +kernel
theorem dX4_checkAbroad_6 : decode cX4_checkAbroad 6 = .ok (.ifCond .ne 14, 3) := by decide +kernel
theorem dX4_checkAbroad_9 : decode cX4_checkAbroad 9 = .ok (.new 166, 3) := by decide +kernel
theorem dX4_checkAbroad_12 : decode cX4_checkAbroad 12 = .ok (.dup, 1) := by decide +kernel
theorem dX4_checkAbroad_13 : decode cX4_checkAbroad 13 = .ok (.ldc_w 297, 3) := by decide +kernel
theorem dX4_checkAbroad_16 : decode cX4_checkAbroad 16 = .ok (.invokespecial 170, 3) := by decide +kernel
theorem dX4_checkAbroad_19 : decode cX4_checkAbroad 19 = .ok (.athrow, 1) := by decide +kernel
theorem dX4_checkAbroad_20 : decode cX4_checkAbroad 20 = .ok (.return_, 1) := by decide +kernel
theorem dX4_checkBundle_0 : decode cX4_checkBundle 0 = .ok (.iload_n 0, 1) := by decide +kernel
theorem dX4_checkBundle_1 : decode cX4_checkBundle 1 = .ok (.iconst 0, 1) := by decide +kernel
theorem dX4_checkBundle_2 : decode cX4_checkBundle 2 = .ok (.ldc_w 299, 3) := by decide +kernel
theorem dX4_checkBundle_5 : decode cX4_checkBundle 5 = .ok (.invokestatic 46, 3) := by decide +kernel
theorem dX4_checkBundle_8 : decode cX4_checkBundle 8 = .ok (.ifCond .ne 14, 3) := by decide +kernel
theorem dX4_checkBundle_11 : decode cX4_checkBundle 11 = .ok (.new 39, 3) := by decide +kernel
theorem dX4_checkBundle_14 : decode cX4_checkBundle 14 = .ok (.dup, 1) := by decide +kernel
theorem dX4_checkBundle_15 : decode cX4_checkBundle 15 = .ok (.ldc_w 300, 3) := by decide +kernel
theorem dX4_checkBundle_18 : decode cX4_checkBundle 18 = .ok (.invokespecial 43, 3) := by decide +kernel
theorem dX4_checkBundle_21 : decode cX4_checkBundle 21 = .ok (.athrow, 1) := by decide +kernel
theorem dX4_checkBundle_22 : decode cX4_checkBundle 22 = .ok (.return_, 1) := by decide +kernel
theorem dX4_isMinuteOfDay_0 : decode cX4_isMinuteOfDay 0 = .ok (.iload_n 0, 1) := by decide +kernel
theorem dX4_isMinuteOfDay_1 : decode cX4_isMinuteOfDay 1 = .ok (.iconst 0, 1) := by decide +kernel
theorem dX4_isMinuteOfDay_2 : decode cX4_isMinuteOfDay 2 = .ok (.sipush 1439, 3) := by decide +kernel
theorem dX4_isMinuteOfDay_5 : decode cX4_isMinuteOfDay 5 = .ok (.invokestatic 46, 3) := by decide +kernel
theorem dX4_isMinuteOfDay_8 : decode cX4_isMinuteOfDay 8 = .ok (.ireturn, 1) := by decide +kernel
theorem dX4_isMoney_0 : decode cX4_isMoney 0 = .ok (.iload_n 0, 1) := by decide +kernel
theorem dX4_isMoney_1 : decode cX4_isMoney 1 = .ok (.iconst 0, 1) := by decide +kernel
theorem dX4_isMoney_2 : decode cX4_isMoney 2 = .ok (.sipush 10000, 3) := by decide +kernel
theorem dX4_isMoney_5 : decode cX4_isMoney 5 = .ok (.invokestatic 46, 3) := by decide +kernel
theorem dX4_isMoney_8 : decode cX4_isMoney 8 = .ok (.ireturn, 1) := by decide +kernel
theorem dX4_isWithin_0 : decode cX4_isWithin 0 = .ok (.iload_n 0, 1) := by decide +kernel
theorem dX4_isWithin_1 : decode cX4_isWithin 1 = .ok (.iload_n 1, 1) := by decide +kernel
theorem dX4_isWithin_2 : decode cX4_isWithin 2 = .ok (.if_icmp .lt 12, 3) := by decide +kernel
theorem dX4_isWithin_5 : decode cX4_isWithin 5 = .ok (.iload_n 0, 1) := by decide +kernel
theorem dX4_isWithin_6 : decode cX4_isWithin 6 = .ok (.iload_n 2, 1) := by decide +kernel
theorem dX4_isWithin_7 : decode cX4_isWithin 7 = .ok (.if_icmp .gt 7, 3) := by decide +kernel
theorem dX4_isWithin_10 : decode cX4_isWithin 10 = .ok (.iconst 1, 1) := by decide +kernel
theorem dX4_isWithin_11 : decode cX4_isWithin 11 = .ok (.goto 4, 3) := by decide +kernel
theorem dX4_isWithin_14 : decode cX4_isWithin 14 = .ok (.iconst 0, 1) := by decide +kernel
theorem dX4_isWithin_15 : decode cX4_isWithin 15 = .ok (.ireturn, 1) := by decide +kernel
theorem dJx4a65c_init_da8c8_0 : decode cJx4a65c_init_da8c8 0 = .ok (.aload_n 0, 1) := by decide +kernel
theorem dJx4a65c_init_da8c8_1 : decode cJx4a65c_init_da8c8 1 = .ok (.invokespecial 1, 3) := by decide +kernel
theorem dJx4a65c_init_da8c8_4 : decode cJx4a65c_init_da8c8 4 = .ok (.aload_n 0, 1) := by decide +kernel
theorem dJx4a65c_init_da8c8_5 : decode cJx4a65c_init_da8c8 5 = .ok (.getstatic 39, 3) := by decide +kernel
theorem dJx4a65c_init_da8c8_8 : decode cJx4a65c_init_da8c8 8 = .ok (.putfield 9, 3) := by decide +kernel
theorem dJx4a65c_init_da8c8_11 : decode cJx4a65c_init_da8c8 11 = .ok (.return_, 1) := by decide +kernel
theorem dJx4a65c_grow_92f84_0 : decode cJx4a65c_grow_92f84 0 = .ok (.aload_n 0, 1) := by decide +kernel
theorem dJx4a65c_grow_92f84_1 : decode cJx4a65c_grow_92f84 1 = .ok (.getfield 9, 3) := by decide +kernel
theorem dJx4a65c_grow_92f84_4 : decode cJx4a65c_grow_92f84 4 = .ok (.arraylength, 1) := by decide +kernel
theorem dJx4a65c_grow_92f84_5 : decode cJx4a65c_grow_92f84 5 = .ok (.istore_n 2, 1) := by decide +kernel
theorem dJx4a65c_grow_92f84_6 : decode cJx4a65c_grow_92f84 6 = .ok (.iload_n 2, 1) := by decide +kernel
theorem dJx4a65c_grow_92f84_7 : decode cJx4a65c_grow_92f84 7 = .ok (.ifCond .gt 13, 3) := by decide +kernel
theorem dJx4a65c_grow_92f84_10 : decode cJx4a65c_grow_92f84 10 = .ok (.aload_n 0, 1) := by decide +kernel
theorem dJx4a65c_grow_92f84_11 : decode cJx4a65c_grow_92f84 11 = .ok (.getfield 9, 3) := by decide +kernel
theorem dJx4a65c_grow_92f84_14 : decode cJx4a65c_grow_92f84 14 = .ok (.getstatic 39, 3) := by decide +kernel
theorem dJx4a65c_grow_92f84_17 : decode cJx4a65c_grow_92f84 17 = .ok (.if_acmp .eq 28, 3) := by decide +kernel
theorem dJx4a65c_grow_92f84_20 : decode cJx4a65c_grow_92f84 20 = .ok (.iload_n 2, 1) := by decide +kernel
theorem dJx4a65c_grow_92f84_21 : decode cJx4a65c_grow_92f84 21 = .ok (.iload_n 1, 1) := by decide +kernel
theorem dJx4a65c_grow_92f84_22 : decode cJx4a65c_grow_92f84 22 = .ok (.iload_n 2, 1) := by decide +kernel
theorem dJx4a65c_grow_92f84_23 : decode cJx4a65c_grow_92f84 23 = .ok (.isub, 1) := by decide +kernel
theorem dJx4a65c_grow_92f84_24 : decode cJx4a65c_grow_92f84 24 = .ok (.iload_n 2, 1) := by decide +kernel
theorem dJx4a65c_grow_92f84_25 : decode cJx4a65c_grow_92f84 25 = .ok (.iconst 1, 1) := by decide +kernel
theorem dJx4a65c_grow_92f84_26 : decode cJx4a65c_grow_92f84 26 = .ok (.ishr, 1) := by decide +kernel
theorem dJx4a65c_grow_92f84_27 : decode cJx4a65c_grow_92f84 27 = .ok (.invokestatic 73, 3) := by decide +kernel
theorem dJx4a65c_grow_92f84_30 : decode cJx4a65c_grow_92f84 30 = .ok (.istore_n 3, 1) := by decide +kernel
theorem dJx4a65c_grow_92f84_31 : decode cJx4a65c_grow_92f84 31 = .ok (.aload_n 0, 1) := by decide +kernel
theorem dJx4a65c_grow_92f84_32 : decode cJx4a65c_grow_92f84 32 = .ok (.aload_n 0, 1) := by decide +kernel
theorem dJx4a65c_grow_92f84_33 : decode cJx4a65c_grow_92f84 33 = .ok (.getfield 9, 3) := by decide +kernel
theorem dJx4a65c_grow_92f84_36 : decode cJx4a65c_grow_92f84 36 = .ok (.iload_n 3, 1) := by decide +kernel
theorem dJx4a65c_grow_92f84_37 : decode cJx4a65c_grow_92f84 37 = .ok (.invokestatic 66, 3) := by decide +kernel
theorem dJx4a65c_grow_92f84_40 : decode cJx4a65c_grow_92f84 40 = .ok (.dup_x1, 1) := by decide +kernel
theorem dJx4a65c_grow_92f84_41 : decode cJx4a65c_grow_92f84 41 = .ok (.putfield 9, 3) := by decide +kernel
theorem dJx4a65c_grow_92f84_44 : decode cJx4a65c_grow_92f84 44 = .ok (.areturn, 1) := by decide +kernel
theorem dJx4a65c_grow_92f84_45 : decode cJx4a65c_grow_92f84 45 = .ok (.aload_n 0, 1) := by decide +kernel
theorem dJx4a65c_grow_92f84_46 : decode cJx4a65c_grow_92f84 46 = .ok (.bipush 10, 2) := by decide +kernel
theorem dJx4a65c_grow_92f84_48 : decode cJx4a65c_grow_92f84 48 = .ok (.iload_n 1, 1) := by decide +kernel
theorem dJx4a65c_grow_92f84_49 : decode cJx4a65c_grow_92f84 49 = .ok (.invokestatic 79, 3) := by decide +kernel
theorem dJx4a65c_grow_92f84_52 : decode cJx4a65c_grow_92f84 52 = .ok (.anewarray 7, 3) := by decide +kernel
theorem dJx4a65c_grow_92f84_55 : decode cJx4a65c_grow_92f84 55 = .ok (.dup_x1, 1) := by decide +kernel
theorem dJx4a65c_grow_92f84_56 : decode cJx4a65c_grow_92f84 56 = .ok (.putfield 9, 3) := by decide +kernel
theorem dJx4a65c_grow_92f84_59 : decode cJx4a65c_grow_92f84 59 = .ok (.areturn, 1) := by decide +kernel
theorem dJx4a65c_grow_d5877_0 : decode cJx4a65c_grow_d5877 0 = .ok (.aload_n 0, 1) := by decide +kernel
theorem dJx4a65c_grow_d5877_1 : decode cJx4a65c_grow_d5877 1 = .ok (.aload_n 0, 1) := by decide +kernel
theorem dJx4a65c_grow_d5877_2 : decode cJx4a65c_grow_d5877 2 = .ok (.getfield 48, 3) := by decide +kernel
theorem dJx4a65c_grow_d5877_5 : decode cJx4a65c_grow_d5877 5 = .ok (.iconst 1, 1) := by decide +kernel
theorem dJx4a65c_grow_d5877_6 : decode cJx4a65c_grow_d5877 6 = .ok (.iadd, 1) := by decide +kernel
theorem dJx4a65c_grow_d5877_7 : decode cJx4a65c_grow_d5877 7 = .ok (.invokevirtual 69, 3) := by decide +kernel
theorem dJx4a65c_grow_d5877_10 : decode cJx4a65c_grow_d5877 10 = .ok (.areturn, 1) := by decide +kernel
theorem dJx4a65c_size_8abf5_0 : decode cJx4a65c_size_8abf5 0 = .ok (.aload_n 0, 1) := by decide +kernel
theorem dJx4a65c_size_8abf5_1 : decode cJx4a65c_size_8abf5 1 = .ok (.getfield 48, 3) := by decide +kernel
theorem dJx4a65c_size_8abf5_4 : decode cJx4a65c_size_8abf5 4 = .ok (.ireturn, 1) := by decide +kernel
theorem dJx4a65c_elementData_915e3_0 : decode cJx4a65c_elementData_915e3 0 = .ok (.aload_n 0, 1) := by decide +kernel
theorem dJx4a65c_elementData_915e3_1 : decode cJx4a65c_elementData_915e3 1 = .ok (.getfield 9, 3) := by decide +kernel
theorem dJx4a65c_elementData_915e3_4 : decode cJx4a65c_elementData_915e3 4 = .ok (.iload_n 1, 1) := by decide +kernel
theorem dJx4a65c_elementData_915e3_5 : decode cJx4a65c_elementData_915e3 5 = .ok (.aaload, 1) := by decide +kernel
theorem dJx4a65c_elementData_915e3_6 : decode cJx4a65c_elementData_915e3 6 = .ok (.areturn, 1) := by decide +kernel
theorem dJx4a65c_get_915e3_0 : decode cJx4a65c_get_915e3 0 = .ok (.iload_n 1, 1) := by decide +kernel
theorem dJx4a65c_get_915e3_1 : decode cJx4a65c_get_915e3 1 = .ok (.aload_n 0, 1) := by decide +kernel
theorem dJx4a65c_get_915e3_2 : decode cJx4a65c_get_915e3 2 = .ok (.getfield 48, 3) := by decide +kernel
theorem dJx4a65c_get_915e3_5 : decode cJx4a65c_get_915e3 5 = .ok (.invokestatic 118, 3) := by decide +kernel
theorem dJx4a65c_get_915e3_8 : decode cJx4a65c_get_915e3 8 = .ok (.pop, 1) := by decide +kernel
theorem dJx4a65c_get_915e3_9 : decode cJx4a65c_get_915e3 9 = .ok (.aload_n 0, 1) := by decide +kernel
theorem dJx4a65c_get_915e3_10 : decode cJx4a65c_get_915e3 10 = .ok (.iload_n 1, 1) := by decide +kernel
theorem dJx4a65c_get_915e3_11 : decode cJx4a65c_get_915e3 11 = .ok (.invokevirtual 123, 3) := by decide +kernel
theorem dJx4a65c_get_915e3_14 : decode cJx4a65c_get_915e3 14 = .ok (.areturn, 1) := by decide +kernel
theorem dJx4a65c_add_72be8_0 : decode cJx4a65c_add_72be8 0 = .ok (.iload_n 3, 1) := by decide +kernel
theorem dJx4a65c_add_72be8_1 : decode cJx4a65c_add_72be8 1 = .ok (.aload_n 2, 1) := by decide +kernel
theorem dJx4a65c_add_72be8_2 : decode cJx4a65c_add_72be8 2 = .ok (.arraylength, 1) := by decide +kernel
theorem dJx4a65c_add_72be8_3 : decode cJx4a65c_add_72be8 3 = .ok (.if_icmp .ne 8, 3) := by decide +kernel
theorem dJx4a65c_add_72be8_6 : decode cJx4a65c_add_72be8 6 = .ok (.aload_n 0, 1) := by decide +kernel
theorem dJx4a65c_add_72be8_7 : decode cJx4a65c_add_72be8 7 = .ok (.invokevirtual 129, 3) := by decide +kernel
theorem dJx4a65c_add_72be8_10 : decode cJx4a65c_add_72be8 10 = .ok (.astore_n 2, 1) := by decide +kernel
theorem dJx4a65c_add_72be8_11 : decode cJx4a65c_add_72be8 11 = .ok (.aload_n 2, 1) := by decide +kernel
theorem dJx4a65c_add_72be8_12 : decode cJx4a65c_add_72be8 12 = .ok (.iload_n 3, 1) := by decide +kernel
theorem dJx4a65c_add_72be8_13 : decode cJx4a65c_add_72be8 13 = .ok (.aload_n 1, 1) := by decide +kernel
theorem dJx4a65c_add_72be8_14 : decode cJx4a65c_add_72be8 14 = .ok (.aastore, 1) := by decide +kernel
theorem dJx4a65c_add_72be8_15 : decode cJx4a65c_add_72be8 15 = .ok (.aload_n 0, 1) := by decide +kernel
theorem dJx4a65c_add_72be8_16 : decode cJx4a65c_add_72be8 16 = .ok (.iload_n 3, 1) := by decide +kernel
theorem dJx4a65c_add_72be8_17 : decode cJx4a65c_add_72be8 17 = .ok (.iconst 1, 1) := by decide +kernel
theorem dJx4a65c_add_72be8_18 : decode cJx4a65c_add_72be8 18 = .ok (.iadd, 1) := by decide +kernel
theorem dJx4a65c_add_72be8_19 : decode cJx4a65c_add_72be8 19 = .ok (.putfield 48, 3) := by decide +kernel
theorem dJx4a65c_add_72be8_22 : decode cJx4a65c_add_72be8 22 = .ok (.return_, 1) := by decide +kernel
theorem dJx4a65c_add_9ea2d_0 : decode cJx4a65c_add_9ea2d 0 = .ok (.aload_n 0, 1) := by decide +kernel
theorem dJx4a65c_add_9ea2d_1 : decode cJx4a65c_add_9ea2d 1 = .ok (.dup, 1) := by decide +kernel
theorem dJx4a65c_add_9ea2d_2 : decode cJx4a65c_add_9ea2d 2 = .ok (.getfield 63, 3) := by decide +kernel
theorem dJx4a65c_add_9ea2d_5 : decode cJx4a65c_add_9ea2d 5 = .ok (.iconst 1, 1) := by decide +kernel
theorem dJx4a65c_add_9ea2d_6 : decode cJx4a65c_add_9ea2d 6 = .ok (.iadd, 1) := by decide +kernel
theorem dJx4a65c_add_9ea2d_7 : decode cJx4a65c_add_9ea2d 7 = .ok (.putfield 63, 3) := by decide +kernel
theorem dJx4a65c_add_9ea2d_10 : decode cJx4a65c_add_9ea2d 10 = .ok (.aload_n 0, 1) := by decide +kernel
theorem dJx4a65c_add_9ea2d_11 : decode cJx4a65c_add_9ea2d 11 = .ok (.aload_n 1, 1) := by decide +kernel
theorem dJx4a65c_add_9ea2d_12 : decode cJx4a65c_add_9ea2d 12 = .ok (.aload_n 0, 1) := by decide +kernel
theorem dJx4a65c_add_9ea2d_13 : decode cJx4a65c_add_9ea2d 13 = .ok (.getfield 9, 3) := by decide +kernel
theorem dJx4a65c_add_9ea2d_16 : decode cJx4a65c_add_9ea2d 16 = .ok (.aload_n 0, 1) := by decide +kernel
theorem dJx4a65c_add_9ea2d_17 : decode cJx4a65c_add_9ea2d 17 = .ok (.getfield 48, 3) := by decide +kernel
theorem dJx4a65c_add_9ea2d_20 : decode cJx4a65c_add_9ea2d 20 = .ok (.invokevirtual 131, 3) := by decide +kernel
theorem dJx4a65c_add_9ea2d_23 : decode cJx4a65c_add_9ea2d 23 = .ok (.iconst 1, 1) := by decide +kernel
theorem dJx4a65c_add_9ea2d_24 : decode cJx4a65c_add_9ea2d 24 = .ok (.ireturn, 1) := by decide +kernel
theorem dJx4a65c_add_7a177_0 : decode cJx4a65c_add_7a177 0 = .ok (.aload_n 0, 1) := by decide +kernel
theorem dJx4a65c_add_7a177_1 : decode cJx4a65c_add_7a177 1 = .ok (.iload_n 1, 1) := by decide +kernel
theorem dJx4a65c_add_7a177_2 : decode cJx4a65c_add_7a177 2 = .ok (.invokevirtual 135, 3) := by decide +kernel
theorem dJx4a65c_add_7a177_5 : decode cJx4a65c_add_7a177 5 = .ok (.aload_n 0, 1) := by decide +kernel
theorem dJx4a65c_add_7a177_6 : decode cJx4a65c_add_7a177 6 = .ok (.dup, 1) := by decide +kernel
theorem dJx4a65c_add_7a177_7 : decode cJx4a65c_add_7a177 7 = .ok (.getfield 63, 3) := by decide +kernel
theorem dJx4a65c_add_7a177_10 : decode cJx4a65c_add_7a177 10 = .ok (.iconst 1, 1) := by decide +kernel
theorem dJx4a65c_add_7a177_11 : decode cJx4a65c_add_7a177 11 = .ok (.iadd, 1) := by decide +kernel
theorem dJx4a65c_add_7a177_12 : decode cJx4a65c_add_7a177 12 = .ok (.putfield 63, 3) := by decide +kernel
theorem dJx4a65c_add_7a177_15 : decode cJx4a65c_add_7a177 15 = .ok (.aload_n 0, 1) := by decide +kernel
theorem dJx4a65c_add_7a177_16 : decode cJx4a65c_add_7a177 16 = .ok (.getfield 48, 3) := by decide +kernel
theorem dJx4a65c_add_7a177_19 : decode cJx4a65c_add_7a177 19 = .ok (.dup, 1) := by decide +kernel
theorem dJx4a65c_add_7a177_20 : decode cJx4a65c_add_7a177 20 = .ok (.istore_n 3, 1) := by decide +kernel
theorem dJx4a65c_add_7a177_21 : decode cJx4a65c_add_7a177 21 = .ok (.aload_n 0, 1) := by decide +kernel
theorem dJx4a65c_add_7a177_22 : decode cJx4a65c_add_7a177 22 = .ok (.getfield 9, 3) := by decide +kernel
theorem dJx4a65c_add_7a177_25 : decode cJx4a65c_add_7a177 25 = .ok (.dup, 1) := by decide +kernel
theorem dJx4a65c_add_7a177_26 : decode cJx4a65c_add_7a177 26 = .ok (.astore 4, 2) := by decide +kernel
theorem dJx4a65c_add_7a177_28 : decode cJx4a65c_add_7a177 28 = .ok (.arraylength, 1) := by decide +kernel
theorem dJx4a65c_add_7a177_29 : decode cJx4a65c_add_7a177 29 = .ok (.if_icmp .ne 9, 3) := by decide +kernel
theorem dJx4a65c_add_7a177_32 : decode cJx4a65c_add_7a177 32 = .ok (.aload_n 0, 1) := by decide +kernel
theorem dJx4a65c_add_7a177_33 : decode cJx4a65c_add_7a177 33 = .ok (.invokevirtual 129, 3) := by decide +kernel
theorem dJx4a65c_add_7a177_36 : decode cJx4a65c_add_7a177 36 = .ok (.astore 4, 2) := by decide +kernel
theorem dJx4a65c_add_7a177_38 : decode cJx4a65c_add_7a177 38 = .ok (.aload 4, 2) := by decide +kernel
theorem dJx4a65c_add_7a177_40 : decode cJx4a65c_add_7a177 40 = .ok (.iload_n 1, 1) := by decide +kernel
theorem dJx4a65c_add_7a177_41 : decode cJx4a65c_add_7a177 41 = .ok (.aload 4, 2) := by decide +kernel
theorem dJx4a65c_add_7a177_43 : decode cJx4a65c_add_7a177 43 = .ok (.iload_n 1, 1) := by decide +kernel
theorem dJx4a65c_add_7a177_44 : decode cJx4a65c_add_7a177 44 = .ok (.iconst 1, 1) := by decide +kernel
theorem dJx4a65c_add_7a177_45 : decode cJx4a65c_add_7a177 45 = .ok (.iadd, 1) := by decide +kernel
theorem dJx4a65c_add_7a177_46 : decode cJx4a65c_add_7a177 46 = .ok (.iload_n 3, 1) := by decide +kernel
theorem dJx4a65c_add_7a177_47 : decode cJx4a65c_add_7a177 47 = .ok (.iload_n 1, 1) := by decide +kernel
theorem dJx4a65c_add_7a177_48 : decode cJx4a65c_add_7a177 48 = .ok (.isub, 1) := by decide +kernel
theorem dJx4a65c_add_7a177_49 : decode cJx4a65c_add_7a177 49 = .ok (.invokestatic 112, 3) := by decide +kernel
theorem dJx4a65c_add_7a177_52 : decode cJx4a65c_add_7a177 52 = .ok (.aload 4, 2) := by decide +kernel
theorem dJx4a65c_add_7a177_54 : decode cJx4a65c_add_7a177 54 = .ok (.iload_n 1, 1) := by decide +kernel
theorem dJx4a65c_add_7a177_55 : decode cJx4a65c_add_7a177 55 = .ok (.aload_n 2, 1) := by decide +kernel
theorem dJx4a65c_add_7a177_56 : decode cJx4a65c_add_7a177 56 = .ok (.aastore, 1) := by decide +kernel
theorem dJx4a65c_add_7a177_57 : decode cJx4a65c_add_7a177 57 = .ok (.aload_n 0, 1) := by decide +kernel
theorem dJx4a65c_add_7a177_58 : decode cJx4a65c_add_7a177 58 = .ok (.iload_n 3, 1) := by decide +kernel
theorem dJx4a65c_add_7a177_59 : decode cJx4a65c_add_7a177 59 = .ok (.iconst 1, 1) := by decide +kernel
theorem dJx4a65c_add_7a177_60 : decode cJx4a65c_add_7a177 60 = .ok (.iadd, 1) := by decide +kernel
theorem dJx4a65c_add_7a177_61 : decode cJx4a65c_add_7a177 61 = .ok (.putfield 48, 3) := by decide +kernel
theorem dJx4a65c_add_7a177_64 : decode cJx4a65c_add_7a177 64 = .ok (.return_, 1) := by decide +kernel
theorem dJx4a65c_rangeCheckForAdd_d00df_0 : decode cJx4a65c_rangeCheckForAdd_d00df 0 = .ok (.iload_n 1, 1) := by decide +kernel
theorem dJx4a65c_rangeCheckForAdd_d00df_1 : decode cJx4a65c_rangeCheckForAdd_d00df 1 = .ok (.aload_n 0, 1) := by decide +kernel
theorem dJx4a65c_rangeCheckForAdd_d00df_2 : decode cJx4a65c_rangeCheckForAdd_d00df 2 = .ok (.getfield 48, 3) := by decide +kernel
theorem dJx4a65c_rangeCheckForAdd_d00df_5 : decode cJx4a65c_rangeCheckForAdd_d00df 5 = .ok (.if_icmp .gt 7, 3) := by decide +kernel
theorem dJx4a65c_rangeCheckForAdd_d00df_8 : decode cJx4a65c_rangeCheckForAdd_d00df 8 = .ok (.iload_n 1, 1) := by decide +kernel
theorem dJx4a65c_rangeCheckForAdd_d00df_9 : decode cJx4a65c_rangeCheckForAdd_d00df 9 = .ok (.ifCond .ge 16, 3) := by decide +kernel
theorem dJx4a65c_rangeCheckForAdd_d00df_12 : decode cJx4a65c_rangeCheckForAdd_d00df 12 = .ok (.new 187, 3) := by decide +kernel
theorem dJx4a65c_rangeCheckForAdd_d00df_15 : decode cJx4a65c_rangeCheckForAdd_d00df 15 = .ok (.dup, 1) := by decide +kernel
theorem dJx4a65c_rangeCheckForAdd_d00df_16 : decode cJx4a65c_rangeCheckForAdd_d00df 16 = .ok (.aload_n 0, 1) := by decide +kernel
theorem dJx4a65c_rangeCheckForAdd_d00df_17 : decode cJx4a65c_rangeCheckForAdd_d00df 17 = .ok (.iload_n 1, 1) := by decide +kernel
theorem dJx4a65c_rangeCheckForAdd_d00df_18 : decode cJx4a65c_rangeCheckForAdd_d00df 18 = .ok (.invokevirtual 198, 3) := by decide +kernel
theorem dJx4a65c_rangeCheckForAdd_d00df_21 : decode cJx4a65c_rangeCheckForAdd_d00df 21 = .ok (.invokespecial 193, 3) := by decide +kernel
theorem dJx4a65c_rangeCheckForAdd_d00df_24 : decode cJx4a65c_rangeCheckForAdd_d00df 24 = .ok (.athrow, 1) := by decide +kernel
theorem dJx4a65c_rangeCheckForAdd_d00df_25 : decode cJx4a65c_rangeCheckForAdd_d00df 25 = .ok (.return_, 1) := by decide +kernel
theorem dJxc12de_init_da8c8_0 : decode cJxc12de_init_da8c8 0 = .ok (.aload_n 0, 1) := by decide +kernel
theorem dJxc12de_init_da8c8_1 : decode cJxc12de_init_da8c8 1 = .ok (.invokespecial 1, 3) := by decide +kernel
theorem dJxc12de_init_da8c8_4 : decode cJxc12de_init_da8c8 4 = .ok (.aload_n 0, 1) := by decide +kernel
theorem dJxc12de_init_da8c8_5 : decode cJxc12de_init_da8c8 5 = .ok (.iconst 0, 1) := by decide +kernel
theorem dJxc12de_init_da8c8_6 : decode cJxc12de_init_da8c8 6 = .ok (.putfield 7, 3) := by decide +kernel
theorem dJxc12de_init_da8c8_9 : decode cJxc12de_init_da8c8 9 = .ok (.return_, 1) := by decide +kernel
theorem dJxa1e45_init_da8c8_0 : decode cJxa1e45_init_da8c8 0 = .ok (.aload_n 0, 1) := by decide +kernel
theorem dJxa1e45_init_da8c8_1 : decode cJxa1e45_init_da8c8 1 = .ok (.invokespecial 1, 3) := by decide +kernel
theorem dJxa1e45_init_da8c8_4 : decode cJxa1e45_init_da8c8 4 = .ok (.return_, 1) := by decide +kernel
theorem dJ15_checkIndex_7cf53_0 : decode cJ15_checkIndex_7cf53 0 = .ok (.iload_n 0, 1) := by decide +kernel
theorem dJ15_checkIndex_7cf53_1 : decode cJ15_checkIndex_7cf53 1 = .ok (.iload_n 1, 1) := by decide +kernel
theorem dJ15_checkIndex_7cf53_2 : decode cJ15_checkIndex_7cf53 2 = .ok (.aconst_null, 1) := by decide +kernel
theorem dJ15_checkIndex_7cf53_3 : decode cJ15_checkIndex_7cf53 3 = .ok (.invokestatic 105, 3) := by decide +kernel
theorem dJ15_checkIndex_7cf53_6 : decode cJ15_checkIndex_7cf53 6 = .ok (.ireturn, 1) := by decide +kernel
theorem dJ3_checkIndex_8e157_0 : decode cJ3_checkIndex_8e157 0 = .ok (.iload_n 0, 1) := by decide +kernel
theorem dJ3_checkIndex_8e157_1 : decode cJ3_checkIndex_8e157 1 = .ok (.ifCond .lt 8, 3) := by decide +kernel
theorem dJ3_checkIndex_8e157_4 : decode cJ3_checkIndex_8e157 4 = .ok (.iload_n 0, 1) := by decide +kernel
theorem dJ3_checkIndex_8e157_5 : decode cJ3_checkIndex_8e157 5 = .ok (.iload_n 1, 1) := by decide +kernel
theorem dJ3_checkIndex_8e157_6 : decode cJ3_checkIndex_8e157 6 = .ok (.if_icmp .lt 10, 3) := by decide +kernel
theorem dJ3_checkIndex_8e157_9 : decode cJ3_checkIndex_8e157 9 = .ok (.aload_n 2, 1) := by decide +kernel
theorem dJ3_checkIndex_8e157_10 : decode cJ3_checkIndex_8e157 10 = .ok (.iload_n 0, 1) := by decide +kernel
theorem dJ3_checkIndex_8e157_11 : decode cJ3_checkIndex_8e157 11 = .ok (.iload_n 1, 1) := by decide +kernel
theorem dJ3_checkIndex_8e157_12 : decode cJ3_checkIndex_8e157 12 = .ok (.invokestatic 95, 3) := by decide +kernel
theorem dJ3_checkIndex_8e157_15 : decode cJ3_checkIndex_8e157 15 = .ok (.athrow, 1) := by decide +kernel
theorem dJ3_checkIndex_8e157_16 : decode cJ3_checkIndex_8e157 16 = .ok (.iload_n 0, 1) := by decide +kernel
theorem dJ3_checkIndex_8e157_17 : decode cJ3_checkIndex_8e157 17 = .ok (.ireturn, 1) := by decide +kernel
theorem dJ3_checkFromToIndex_8c36e_0 : decode cJ3_checkFromToIndex_8c36e 0 = .ok (.iload_n 0, 1) := by decide +kernel
theorem dJ3_checkFromToIndex_8c36e_1 : decode cJ3_checkFromToIndex_8c36e 1 = .ok (.ifCond .lt 13, 3) := by decide +kernel
theorem dJ3_checkFromToIndex_8c36e_4 : decode cJ3_checkFromToIndex_8c36e 4 = .ok (.iload_n 0, 1) := by decide +kernel
theorem dJ3_checkFromToIndex_8c36e_5 : decode cJ3_checkFromToIndex_8c36e 5 = .ok (.iload_n 1, 1) := by decide +kernel
theorem dJ3_checkFromToIndex_8c36e_6 : decode cJ3_checkFromToIndex_8c36e 6 = .ok (.if_icmp .gt 8, 3) := by decide +kernel
theorem dJ3_checkFromToIndex_8c36e_9 : decode cJ3_checkFromToIndex_8c36e 9 = .ok (.iload_n 1, 1) := by decide +kernel
theorem dJ3_checkFromToIndex_8c36e_10 : decode cJ3_checkFromToIndex_8c36e 10 = .ok (.iload_n 2, 1) := by decide +kernel
theorem dJ3_checkFromToIndex_8c36e_11 : decode cJ3_checkFromToIndex_8c36e 11 = .ok (.if_icmp .le 11, 3) := by decide +kernel
theorem dJ3_checkFromToIndex_8c36e_14 : decode cJ3_checkFromToIndex_8c36e 14 = .ok (.aload_n 3, 1) := by decide +kernel
theorem dJ3_checkFromToIndex_8c36e_15 : decode cJ3_checkFromToIndex_8c36e 15 = .ok (.iload_n 0, 1) := by decide +kernel
theorem dJ3_checkFromToIndex_8c36e_16 : decode cJ3_checkFromToIndex_8c36e 16 = .ok (.iload_n 1, 1) := by decide +kernel
theorem dJ3_checkFromToIndex_8c36e_17 : decode cJ3_checkFromToIndex_8c36e 17 = .ok (.iload_n 2, 1) := by decide +kernel
theorem dJ3_checkFromToIndex_8c36e_18 : decode cJ3_checkFromToIndex_8c36e 18 = .ok (.invokestatic 99, 3) := by decide +kernel
theorem dJ3_checkFromToIndex_8c36e_21 : decode cJ3_checkFromToIndex_8c36e 21 = .ok (.athrow, 1) := by decide +kernel
theorem dJ3_checkFromToIndex_8c36e_22 : decode cJ3_checkFromToIndex_8c36e 22 = .ok (.iload_n 0, 1) := by decide +kernel
theorem dJ3_checkFromToIndex_8c36e_23 : decode cJ3_checkFromToIndex_8c36e 23 = .ok (.ireturn, 1) := by decide +kernel
theorem dJ3_checkFromIndexSize_8c36e_0 : decode cJ3_checkFromIndexSize_8c36e 0 = .ok (.iload_n 2, 1) := by decide +kernel
theorem dJ3_checkFromIndexSize_8c36e_1 : decode cJ3_checkFromIndexSize_8c36e 1 = .ok (.iload_n 0, 1) := by decide +kernel
theorem dJ3_checkFromIndexSize_8c36e_2 : decode cJ3_checkFromIndexSize_8c36e 2 = .ok (.ior, 1) := by decide +kernel
theorem dJ3_checkFromIndexSize_8c36e_3 : decode cJ3_checkFromIndexSize_8c36e 3 = .ok (.iload_n 1, 1) := by decide +kernel
theorem dJ3_checkFromIndexSize_8c36e_4 : decode cJ3_checkFromIndexSize_8c36e 4 = .ok (.ior, 1) := by decide +kernel
theorem dJ3_checkFromIndexSize_8c36e_5 : decode cJ3_checkFromIndexSize_8c36e 5 = .ok (.ifCond .lt 10, 3) := by decide +kernel
theorem dJ3_checkFromIndexSize_8c36e_8 : decode cJ3_checkFromIndexSize_8c36e 8 = .ok (.iload_n 1, 1) := by decide +kernel
theorem dJ3_checkFromIndexSize_8c36e_9 : decode cJ3_checkFromIndexSize_8c36e 9 = .ok (.iload_n 2, 1) := by decide +kernel
theorem dJ3_checkFromIndexSize_8c36e_10 : decode cJ3_checkFromIndexSize_8c36e 10 = .ok (.iload_n 0, 1) := by decide +kernel
theorem dJ3_checkFromIndexSize_8c36e_11 : decode cJ3_checkFromIndexSize_8c36e 11 = .ok (.isub, 1) := by decide +kernel
theorem dJ3_checkFromIndexSize_8c36e_12 : decode cJ3_checkFromIndexSize_8c36e 12 = .ok (.if_icmp .le 11, 3) := by decide +kernel
theorem dJ3_checkFromIndexSize_8c36e_15 : decode cJ3_checkFromIndexSize_8c36e 15 = .ok (.aload_n 3, 1) := by decide +kernel
theorem dJ3_checkFromIndexSize_8c36e_16 : decode cJ3_checkFromIndexSize_8c36e 16 = .ok (.iload_n 0, 1) := by decide +kernel
theorem dJ3_checkFromIndexSize_8c36e_17 : decode cJ3_checkFromIndexSize_8c36e 17 = .ok (.iload_n 1, 1) := by decide +kernel
theorem dJ3_checkFromIndexSize_8c36e_18 : decode cJ3_checkFromIndexSize_8c36e 18 = .ok (.iload_n 2, 1) := by decide +kernel
theorem dJ3_checkFromIndexSize_8c36e_19 : decode cJ3_checkFromIndexSize_8c36e 19 = .ok (.invokestatic 103, 3) := by decide +kernel
theorem dJ3_checkFromIndexSize_8c36e_22 : decode cJ3_checkFromIndexSize_8c36e 22 = .ok (.athrow, 1) := by decide +kernel
theorem dJ3_checkFromIndexSize_8c36e_23 : decode cJ3_checkFromIndexSize_8c36e 23 = .ok (.iload_n 0, 1) := by decide +kernel
theorem dJ3_checkFromIndexSize_8c36e_24 : decode cJ3_checkFromIndexSize_8c36e 24 = .ok (.ireturn, 1) := by decide +kernel
theorem dJ8_newLength_cabcc_0 : decode cJ8_newLength_cabcc 0 = .ok (.iload_n 0, 1) := by decide +kernel
theorem dJ8_newLength_cabcc_1 : decode cJ8_newLength_cabcc 1 = .ok (.iload_n 1, 1) := by decide +kernel
theorem dJ8_newLength_cabcc_2 : decode cJ8_newLength_cabcc 2 = .ok (.iload_n 2, 1) := by decide +kernel
theorem dJ8_newLength_cabcc_3 : decode cJ8_newLength_cabcc 3 = .ok (.invokestatic 194, 3) := by decide +kernel
theorem dJ8_newLength_cabcc_6 : decode cJ8_newLength_cabcc 6 = .ok (.iadd, 1) := by decide +kernel
theorem dJ8_newLength_cabcc_7 : decode cJ8_newLength_cabcc 7 = .ok (.istore_n 3, 1) := by decide +kernel
theorem dJ8_newLength_cabcc_8 : decode cJ8_newLength_cabcc 8 = .ok (.iconst 0, 1) := by decide +kernel
theorem dJ8_newLength_cabcc_9 : decode cJ8_newLength_cabcc 9 = .ok (.iload_n 3, 1) := by decide +kernel
theorem dJ8_newLength_cabcc_10 : decode cJ8_newLength_cabcc 10 = .ok (.if_icmp .ge 11, 3) := by decide +kernel
theorem dJ8_newLength_cabcc_13 : decode cJ8_newLength_cabcc 13 = .ok (.iload_n 3, 1) := by decide +kernel
theorem dJ8_newLength_cabcc_14 : decode cJ8_newLength_cabcc 14 = .ok (.ldc 200, 2) := by decide +kernel
theorem dJ8_newLength_cabcc_16 : decode cJ8_newLength_cabcc 16 = .ok (.if_icmp .gt 5, 3) := by decide +kernel
theorem dJ8_newLength_cabcc_19 : decode cJ8_newLength_cabcc 19 = .ok (.iload_n 3, 1) := by decide +kernel
theorem dJ8_newLength_cabcc_20 : decode cJ8_newLength_cabcc 20 = .ok (.ireturn, 1) := by decide +kernel
theorem dJ8_newLength_cabcc_21 : decode cJ8_newLength_cabcc 21 = .ok (.iload_n 0, 1) := by decide +kernel
theorem dJ8_newLength_cabcc_22 : decode cJ8_newLength_cabcc 22 = .ok (.iload_n 1, 1) := by decide +kernel
theorem dJ8_newLength_cabcc_23 : decode cJ8_newLength_cabcc 23 = .ok (.invokestatic 201, 3) := by decide +kernel
theorem dJ8_newLength_cabcc_26 : decode cJ8_newLength_cabcc 26 = .ok (.ireturn, 1) := by decide +kernel
theorem dJ7_copyOf_1904c_0 : decode cJ7_copyOf_1904c 0 = .ok (.aload_n 0, 1) := by decide +kernel
theorem dJ7_copyOf_1904c_1 : decode cJ7_copyOf_1904c 1 = .ok (.iload_n 1, 1) := by decide +kernel
theorem dJ7_copyOf_1904c_2 : decode cJ7_copyOf_1904c 2 = .ok (.aload_n 0, 1) := by decide +kernel
theorem dJ7_copyOf_1904c_3 : decode cJ7_copyOf_1904c 3 = .ok (.invokevirtual 86, 3) := by decide +kernel
theorem dJ7_copyOf_1904c_6 : decode cJ7_copyOf_1904c 6 = .ok (.invokestatic 300, 3) := by decide +kernel
theorem dJ7_copyOf_1904c_9 : decode cJ7_copyOf_1904c 9 = .ok (.areturn, 1) := by decide +kernel
theorem dJ7_copyOf_6403c_0 : decode cJ7_copyOf_6403c 0 = .ok (.aload_n 2, 1) := by decide +kernel
theorem dJ7_copyOf_6403c_1 : decode cJ7_copyOf_6403c 1 = .ok (.ldc 110, 2) := by decide +kernel
theorem dJ7_copyOf_6403c_3 : decode cJ7_copyOf_6403c 3 = .ok (.if_acmp .ne 10, 3) := by decide +kernel
theorem dJ7_copyOf_6403c_6 : decode cJ7_copyOf_6403c 6 = .ok (.iload_n 1, 1) := by decide +kernel
theorem dJ7_copyOf_6403c_7 : decode cJ7_copyOf_6403c 7 = .ok (.anewarray 2, 3) := by decide +kernel
theorem dJ7_copyOf_6403c_10 : decode cJ7_copyOf_6403c 10 = .ok (.goto 14, 3) := by decide +kernel
theorem dJ7_copyOf_6403c_13 : decode cJ7_copyOf_6403c 13 = .ok (.aload_n 2, 1) := by decide +kernel
theorem dJ7_copyOf_6403c_14 : decode cJ7_copyOf_6403c 14 = .ok (.invokevirtual 90, 3) := by decide +kernel
theorem dJ7_copyOf_6403c_17 : decode cJ7_copyOf_6403c 17 = .ok (.iload_n 1, 1) := by decide +kernel
theorem dJ7_copyOf_6403c_18 : decode cJ7_copyOf_6403c 18 = .ok (.invokestatic 95, 3) := by decide +kernel
theorem dJ7_copyOf_6403c_21 : decode cJ7_copyOf_6403c 21 = .ok (.checkcast 110, 3) := by decide +kernel
theorem dJ7_copyOf_6403c_24 : decode cJ7_copyOf_6403c 24 = .ok (.astore_n 3, 1) := by decide +kernel
theorem dJ7_copyOf_6403c_25 : decode cJ7_copyOf_6403c 25 = .ok (.aload_n 0, 1) := by decide +kernel
theorem dJ7_copyOf_6403c_26 : decode cJ7_copyOf_6403c 26 = .ok (.iconst 0, 1) := by decide +kernel
theorem dJ7_copyOf_6403c_27 : decode cJ7_copyOf_6403c 27 = .ok (.aload_n 3, 1) := by decide +kernel
theorem dJ7_copyOf_6403c_28 : decode cJ7_copyOf_6403c 28 = .ok (.iconst 0, 1) := by decide +kernel
theorem dJ7_copyOf_6403c_29 : decode cJ7_copyOf_6403c 29 = .ok (.aload_n 0, 1) := by decide +kernel
theorem dJ7_copyOf_6403c_30 : decode cJ7_copyOf_6403c 30 = .ok (.arraylength, 1) := by decide +kernel
theorem dJ7_copyOf_6403c_31 : decode cJ7_copyOf_6403c 31 = .ok (.iload_n 1, 1) := by decide +kernel
theorem dJ7_copyOf_6403c_32 : decode cJ7_copyOf_6403c 32 = .ok (.invokestatic 304, 3) := by decide +kernel
theorem dJ7_copyOf_6403c_35 : decode cJ7_copyOf_6403c 35 = .ok (.invokestatic 150, 3) := by decide +kernel
theorem dJ7_copyOf_6403c_38 : decode cJ7_copyOf_6403c 38 = .ok (.aload_n 3, 1) := by decide +kernel
theorem dJ7_copyOf_6403c_39 : decode cJ7_copyOf_6403c 39 = .ok (.areturn, 1) := by decide +kernel
end
section
theorem dX5_init_0 : decode cX5_init 0 = .ok (.aload_n 0, 1) := by decide +kernel
theorem dX5_init_1 : decode cX5_init 1 = .ok (.invokespecial 1, 3) := by decide +kernel
theorem dX5_init_4 : decode cX5_init 4 = .ok (.aload_n 0, 1) := by decide +kernel
theorem dX5_init_5 : decode cX5_init 5 = .ok (.bipush 45, 2) := by decide +kernel
theorem dX5_init_7 : decode cX5_init 7 = .ok (.newarray .int, 2) := by decide +kernel
theorem dX5_init_9 : decode cX5_init 9 = .ok (.putfield 9, 3) := by decide +kernel
theorem dX5_init_12 : decode cX5_init 12 = .ok (.aload_n 0, 1) := by decide +kernel
theorem dX5_init_13 : decode cX5_init 13 = .ok (.bipush 12, 2) := by decide +kernel
theorem dX5_init_15 : decode cX5_init 15 = .ok (.newarray .int, 2) := by decide +kernel
theorem dX5_init_17 : decode cX5_init 17 = .ok (.putfield 13, 3) := by decide +kernel
theorem dX5_init_20 : decode cX5_init 20 = .ok (.aload_n 0, 1) := by decide +kernel
theorem dX5_init_21 : decode cX5_init 21 = .ok (.bipush 8, 2) := by decide +kernel
theorem dX5_init_23 : decode cX5_init 23 = .ok (.newarray .int, 2) := by decide +kernel
theorem dX5_init_25 : decode cX5_init 25 = .ok (.putfield 16, 3) := by decide +kernel
theorem dX5_init_28 : decode cX5_init 28 = .ok (.aload_n 0, 1) := by decide +kernel
theorem dX5_init_29 : decode cX5_init 29 = .ok (.bipush 8, 2) := by decide +kernel
theorem dX5_init_31 : decode cX5_init 31 = .ok (.newarray .int, 2) := by decide +kernel
theorem dX5_init_33 : decode cX5_init 33 = .ok (.putfield 19, 3) := by decide +kernel
theorem dX5_init_36 : decode cX5_init 36 = .ok (.aload_n 0, 1) := by decide +kernel
theorem dX5_init_37 : decode cX5_init 37 = .ok (.sipush 240, 3) := by decide +kernel
theorem dX5_init_40 : decode cX5_init 40 = .ok (.newarray .int, 2) := by decide +kernel
theorem dX5_init_42 : decode cX5_init 42 = .ok (.putfield 22, 3) := by decide +kernel
theorem dX5_init_45 : decode cX5_init 45 = .ok (.aload_n 0, 1) := by decide +kernel
theorem dX5_init_46 : decode cX5_init 46 = .ok (.sipush 480, 3) := by decide +kernel
theorem dX5_init_49 : decode cX5_init 49 = .ok (.putfield 25, 3) := by decide +kernel
theorem dX5_init_52 : decode cX5_init 52 = .ok (.aload_n 0, 1) := by decide +kernel
theorem dX5_init_53 : decode cX5_init 53 = .ok (.sipush 1079, 3) := by decide +kernel
theorem dX5_init_56 : decode cX5_init 56 = .ok (.putfield 29, 3) := by decide +kernel
theorem dX5_init_59 : decode cX5_init 59 = .ok (.aload_n 0, 1) := by decide +kernel
theorem dX5_init_60 : decode cX5_init 60 = .ok (.bipush 60, 2) := by decide +kernel
theorem dX5_init_62 : decode cX5_init 62 = .ok (.newarray .int, 2) := by decide +kernel
theorem dX5_init_64 : decode cX5_init 64 = .ok (.putfield 32, 3) := by decide +kernel
theorem dX5_init_67 : decode cX5_init 67 = .ok (.aload_n 0, 1) := by decide +kernel
theorem dX5_init_68 : decode cX5_init 68 = .ok (.bipush 60, 2) := by decide +kernel
theorem dX5_init_70 : decode cX5_init 70 = .ok (.newarray .int, 2) := by decide +kernel
theorem dX5_init_72 : decode cX5_init 72 = .ok (.putfield 35, 3) := by decide +kernel
theorem dX5_init_75 : decode cX5_init 75 = .ok (.aload_n 0, 1) := by decide +kernel
theorem dX5_init_76 : decode cX5_init 76 = .ok (.bipush 60, 2) := by decide +kernel
theorem dX5_init_78 : decode cX5_init 78 = .ok (.newarray .int, 2) := by decide +kernel
theorem dX5_init_80 : decode cX5_init 80 = .ok (.putfield 38, 3) := by decide +kernel
theorem dX5_init_83 : decode cX5_init 83 = .ok (.aload_n 0, 1) := by decide +kernel
theorem dX5_init_84 : decode cX5_init 84 = .ok (.bipush 60, 2) := by decide +kernel
theorem dX5_init_86 : decode cX5_init 86 = .ok (.newarray .int, 2) := by decide +kernel
theorem dX5_init_88 : decode cX5_init 88 = .ok (.putfield 41, 3) := by decide +kernel
theorem dX5_init_91 : decode cX5_init 91 = .ok (.aload_n 0, 1) := by decide +kernel
theorem dX5_init_92 : decode cX5_init 92 = .ok (.bipush 60, 2) := by decide +kernel
theorem dX5_init_94 : decode cX5_init 94 = .ok (.newarray .int, 2) := by decide +kernel
theorem dX5_init_96 : decode cX5_init 96 = .ok (.putfield 44, 3) := by decide +kernel
theorem dX5_init_99 : decode cX5_init 99 = .ok (.aload_n 0, 1) := by decide +kernel
theorem dX5_init_100 : decode cX5_init 100 = .ok (.iconst 4, 1) := by decide +kernel
theorem dX5_init_101 : decode cX5_init 101 = .ok (.newarray .int, 2) := by decide +kernel
theorem dX5_init_103 : decode cX5_init 103 = .ok (.putfield 47, 3) := by decide +kernel
theorem dX5_init_106 : decode cX5_init 106 = .ok (.aload_n 0, 1) := by decide +kernel
theorem dX5_init_107 : decode cX5_init 107 = .ok (.iconst 4, 1) := by decide +kernel
theorem dX5_init_108 : decode cX5_init 108 = .ok (.newarray .int, 2) := by decide +kernel
theorem dX5_init_110 : decode cX5_init 110 = .ok (.putfield 50, 3) := by decide +kernel
theorem dX5_init_113 : decode cX5_init 113 = .ok (.return_, 1) := by decide +kernel
theorem dX5_thrown_0 : decode cX5_thrown 0 = .ok (.aload_n 0, 1) := by decide +kernel
theorem dX5_thrown_1 : decode cX5_thrown 1 = .ok (.getfield 53, 3) := by decide +kernel
theorem dX5_thrown_4 : decode cX5_thrown 4 = .ok (.ireturn, 1) := by decide +kernel
theorem dX5_fail_0 : decode cX5_fail 0 = .ok (.aload_n 0, 1) := by decide +kernel
theorem dX5_fail_1 : decode cX5_fail 1 = .ok (.iload_n 1, 1) := by decide +kernel
theorem dX5_fail_2 : decode cX5_fail 2 = .ok (.putfield 53, 3) := by decide +kernel
theorem dX5_fail_5 : decode cX5_fail 5 = .ok (.iconst 0, 1) := by decide +kernel
theorem dX5_fail_6 : decode cX5_fail 6 = .ok (.ireturn, 1) := by decide +kernel
theorem dX5_isIn_0 : decode cX5_isIn 0 = .ok (.iload_n 0, 1) := by decide +kernel
theorem dX5_isIn_1 : decode cX5_isIn 1 = .ok (.iload_n 1, 1) := by decide +kernel
theorem dX5_isIn_2 : decode cX5_isIn 2 = .ok (.if_icmp .lt 12, 3) := by decide +kernel
theorem dX5_isIn_5 : decode cX5_isIn 5 = .ok (.iload_n 0, 1) := by decide +kernel
theorem dX5_isIn_6 : decode cX5_isIn 6 = .ok (.iload_n 2, 1) := by decide +kernel
theorem dX5_isIn_7 : decode cX5_isIn 7 = .ok (.if_icmp .gt 7, 3) := by decide +kernel
theorem dX5_isIn_10 : decode cX5_isIn 10 = .ok (.iconst 1, 1) := by decide +kernel
theorem dX5_isIn_11 : decode cX5_isIn 11 = .ok (.goto 4, 3) := by decide +kernel
theorem dX5_isIn_14 : decode cX5_isIn 14 = .ok (.iconst 0, 1) := by decide +kernel
theorem dX5_isIn_15 : decode cX5_isIn 15 = .ok (.ireturn, 1) := by decide +kernel
theorem dX5_isTariff_0 : decode cX5_isTariff 0 = .ok (.iload_n 1, 1) := by decide +kernel
theorem dX5_isTariff_1 : decode cX5_isTariff 1 = .ok (.iconst 0, 1) := by decide +kernel
theorem dX5_isTariff_2 : decode cX5_isTariff 2 = .ok (.aload_n 0, 1) := by decide +kernel
theorem dX5_isTariff_3 : decode cX5_isTariff 3 = .ok (.getfield 56, 3) := by decide +kernel
theorem dX5_isTariff_6 : decode cX5_isTariff 6 = .ok (.iconst 1, 1) := by decide +kernel
theorem dX5_isTariff_7 : decode cX5_isTariff 7 = .ok (.isub, 1) := by decide +kernel
theorem dX5_isTariff_8 : decode cX5_isTariff 8 = .ok (.invokestatic 59, 3) := by decide +kernel
theorem dX5_isTariff_11 : decode cX5_isTariff 11 = .ok (.ireturn, 1) := by decide +kernel
theorem dX5_isAccount_0 : decode cX5_isAccount 0 = .ok (.iload_n 1, 1) := by decide +kernel
theorem dX5_isAccount_1 : decode cX5_isAccount 1 = .ok (.iconst 0, 1) := by decide +kernel
theorem dX5_isAccount_2 : decode cX5_isAccount 2 = .ok (.aload_n 0, 1) := by decide +kernel
theorem dX5_isAccount_3 : decode cX5_isAccount 3 = .ok (.getfield 63, 3) := by decide +kernel
theorem dX5_isAccount_6 : decode cX5_isAccount 6 = .ok (.iconst 1, 1) := by decide +kernel
theorem dX5_isAccount_7 : decode cX5_isAccount 7 = .ok (.isub, 1) := by decide +kernel
theorem dX5_isAccount_8 : decode cX5_isAccount 8 = .ok (.invokestatic 59, 3) := by decide +kernel
theorem dX5_isAccount_11 : decode cX5_isAccount 11 = .ok (.ireturn, 1) := by decide +kernel
theorem dX5_isLine_0 : decode cX5_isLine 0 = .ok (.iload_n 1, 1) := by decide +kernel
theorem dX5_isLine_1 : decode cX5_isLine 1 = .ok (.iconst 0, 1) := by decide +kernel
theorem dX5_isLine_2 : decode cX5_isLine 2 = .ok (.aload_n 0, 1) := by decide +kernel
theorem dX5_isLine_3 : decode cX5_isLine 3 = .ok (.getfield 66, 3) := by decide +kernel
theorem dX5_isLine_6 : decode cX5_isLine 6 = .ok (.iconst 1, 1) := by decide +kernel
theorem dX5_isLine_7 : decode cX5_isLine 7 = .ok (.isub, 1) := by decide +kernel
theorem dX5_isLine_8 : decode cX5_isLine 8 = .ok (.invokestatic 59, 3) := by decide +kernel
theorem dX5_isLine_11 : decode cX5_isLine 11 = .ok (.ireturn, 1) := by decide +kernel
theorem dX5_isCall_0 : decode cX5_isCall 0 = .ok (.iload_n 1, 1) := by decide +kernel
theorem dX5_isCall_1 : decode cX5_isCall 1 = .ok (.iconst 0, 1) := by decide +kernel
theorem dX5_isCall_2 : decode cX5_isCall 2 = .ok (.aload_n 0, 1) := by decide +kernel
theorem dX5_isCall_3 : decode cX5_isCall 3 = .ok (.getfield 69, 3) := by decide +kernel
theorem dX5_isCall_6 : decode cX5_isCall 6 = .ok (.iconst 1, 1) := by decide +kernel
theorem dX5_isCall_7 : decode cX5_isCall 7 = .ok (.isub, 1) := by decide +kernel
theorem dX5_isCall_8 : decode cX5_isCall 8 = .ok (.invokestatic 59, 3) := by decide +kernel
theorem dX5_isCall_11 : decode cX5_isCall 11 = .ok (.ireturn, 1) := by decide +kernel
theorem dX5_addTariff_0 : decode cX5_addTariff 0 = .ok (.aload_n 0, 1) := by decide +kernel
theorem dX5_addTariff_1 : decode cX5_addTariff 1 = .ok (.iconst 0, 1) := by decide +kernel
theorem dX5_addTariff_2 : decode cX5_addTariff 2 = .ok (.putfield 53, 3) := by decide +kernel
theorem dX5_addTariff_5 : decode cX5_addTariff 5 = .ok (.iload_n 1, 1) := by decide +kernel
theorem dX5_addTariff_6 : decode cX5_addTariff 6 = .ok (.iconst 0, 1) := by decide +kernel
theorem dX5_addTariff_7 : decode cX5_addTariff 7 = .ok (.sipush 10000, 3) := by decide +kernel
theorem dX5_addTariff_10 : decode cX5_addTariff 10 = .ok (.invokestatic 59, 3) := by decide +kernel
theorem dX5_addTariff_13 : decode cX5_addTariff 13 = .ok (.ifCond .eq 49, 3) := by decide +kernel
theorem dX5_addTariff_16 : decode cX5_addTariff 16 = .ok (.iload_n 2, 1) := by decide +kernel
theorem dX5_addTariff_17 : decode cX5_addTariff 17 = .ok (.iconst 0, 1) := by decide +kernel
theorem dX5_addTariff_18 : decode cX5_addTariff 18 = .ok (.sipush 10000, 3) := by decide +kernel
theorem dX5_addTariff_21 : decode cX5_addTariff 21 = .ok (.invokestatic 59, 3) := by decide +kernel
theorem dX5_addTariff_24 : decode cX5_addTariff 24 = .ok (.ifCond .eq 38, 3) := by decide +kernel
theorem dX5_addTariff_27 : decode cX5_addTariff 27 = .ok (.iload_n 3, 1) := by decide +kernel
theorem dX5_addTariff_28 : decode cX5_addTariff 28 = .ok (.iconst 0, 1) := by decide +kernel
theorem dX5_addTariff_29 : decode cX5_addTariff 29 = .ok (.sipush 10000, 3) := by decide +kernel
theorem dX5_addTariff_32 : decode cX5_addTariff 32 = .ok (.invokestatic 59, 3) := by decide +kernel
theorem dX5_addTariff_35 : decode cX5_addTariff 35 = .ok (.ifCond .eq 27, 3) := by decide +kernel
theorem dX5_addTariff_38 : decode cX5_addTariff 38 = .ok (.iload 4, 2) := by decide +kernel
theorem dX5_addTariff_40 : decode cX5_addTariff 40 = .ok (.iconst 1, 1) := by decide +kernel
theorem dX5_addTariff_41 : decode cX5_addTariff 41 = .ok (.sipush 300, 3) := by decide +kernel
theorem dX5_addTariff_44 : decode cX5_addTariff 44 = .ok (.invokestatic 59, 3) := by decide +kernel
theorem dX5_addTariff_47 : decode cX5_addTariff 47 = .ok (.ifCond .eq 15, 3) := by decide +kernel
theorem dX5_addTariff_50 : decode cX5_addTariff 50 = .ok (.iload 5, 2) := by decide +kernel
theorem dX5_addTariff_52 : decode cX5_addTariff 52 = .ok (.iconst 1, 1) := by decide +kernel
theorem dX5_addTariff_53 : decode cX5_addTariff 53 = .ok (.sipush 300, 3) := by decide +kernel
theorem dX5_addTariff_56 : decode cX5_addTariff 56 = .ok (.invokestatic 59, 3) := by decide +kernel
theorem dX5_addTariff_59 : decode cX5_addTariff 59 = .ok (.ifCond .ne 9, 3) := by decide +kernel
theorem dX5_addTariff_62 : decode cX5_addTariff 62 = .ok (.aload_n 0, 1) := by decide +kernel
theorem dX5_addTariff_63 : decode cX5_addTariff 63 = .ok (.iconst 1, 1) := by decide +kernel
theorem dX5_addTariff_64 : decode cX5_addTariff 64 = .ok (.invokevirtual 72, 3) := by decide +kernel
theorem dX5_addTariff_67 : decode cX5_addTariff 67 = .ok (.ireturn, 1) := by decide +kernel
theorem dX5_addTariff_68 : decode cX5_addTariff 68 = .ok (.aload_n 0, 1) := by decide +kernel
theorem dX5_addTariff_69 : decode cX5_addTariff 69 = .ok (.getfield 56, 3) := by decide +kernel
theorem dX5_addTariff_72 : decode cX5_addTariff 72 = .ok (.iconst 5, 1) := by decide +kernel
theorem dX5_addTariff_73 : decode cX5_addTariff 73 = .ok (.if_icmp .ne 9, 3) := by decide +kernel
theorem dX5_addTariff_76 : decode cX5_addTariff 76 = .ok (.aload_n 0, 1) := by decide +kernel
theorem dX5_addTariff_77 : decode cX5_addTariff 77 = .ok (.iconst 2, 1) := by decide +kernel
theorem dX5_addTariff_78 : decode cX5_addTariff 78 = .ok (.invokevirtual 72, 3) := by decide +kernel
theorem dX5_addTariff_81 : decode cX5_addTariff 81 = .ok (.ireturn, 1) := by decide +kernel
theorem dX5_addTariff_82 : decode cX5_addTariff 82 = .ok (.bipush 9, 2) := by decide +kernel
theorem dX5_addTariff_84 : decode cX5_addTariff 84 = .ok (.newarray .int, 2) := by decide +kernel
theorem dX5_addTariff_86 : decode cX5_addTariff 86 = .ok (.dup, 1) := by decide +kernel
theorem dX5_addTariff_87 : decode cX5_addTariff 87 = .ok (.iconst 0, 1) := by decide +kernel
theorem dX5_addTariff_88 : decode cX5_addTariff 88 = .ok (.iload_n 1, 1) := by decide +kernel
theorem dX5_addTariff_89 : decode cX5_addTariff 89 = .ok (.iastore, 1) := by decide +kernel
theorem dX5_addTariff_90 : decode cX5_addTariff 90 = .ok (.dup, 1) := by decide +kernel
theorem dX5_addTariff_91 : decode cX5_addTariff 91 = .ok (.iconst 1, 1) := by decide +kernel
theorem dX5_addTariff_92 : decode cX5_addTariff 92 = .ok (.iload_n 2, 1) := by decide +kernel
theorem dX5_addTariff_93 : decode cX5_addTariff 93 = .ok (.iastore, 1) := by decide +kernel
theorem dX5_addTariff_94 : decode cX5_addTariff 94 = .ok (.dup, 1) := by decide +kernel
theorem dX5_addTariff_95 : decode cX5_addTariff 95 = .ok (.iconst 2, 1) := by decide +kernel
theorem dX5_addTariff_96 : decode cX5_addTariff 96 = .ok (.iload_n 3, 1) := by decide +kernel
theorem dX5_addTariff_97 : decode cX5_addTariff 97 = .ok (.iastore, 1) := by decide +kernel
theorem dX5_addTariff_98 : decode cX5_addTariff 98 = .ok (.dup, 1) := by decide +kernel
theorem dX5_addTariff_99 : decode cX5_addTariff 99 = .ok (.iconst 3, 1) := by decide +kernel
theorem dX5_addTariff_100 : decode cX5_addTariff 100 = .ok (.iload 4, 2) := by decide +kernel
theorem dX5_addTariff_102 : decode cX5_addTariff 102 = .ok (.iastore, 1) := by decide +kernel
theorem dX5_addTariff_103 : decode cX5_addTariff 103 = .ok (.dup, 1) := by decide +kernel
theorem dX5_addTariff_104 : decode cX5_addTariff 104 = .ok (.iconst 4, 1) := by decide +kernel
theorem dX5_addTariff_105 : decode cX5_addTariff 105 = .ok (.iload 5, 2) := by decide +kernel
theorem dX5_addTariff_107 : decode cX5_addTariff 107 = .ok (.iastore, 1) := by decide +kernel
theorem dX5_addTariff_108 : decode cX5_addTariff 108 = .ok (.dup, 1) := by decide +kernel
theorem dX5_addTariff_109 : decode cX5_addTariff 109 = .ok (.iconst 5, 1) := by decide +kernel
theorem dX5_addTariff_110 : decode cX5_addTariff 110 = .ok (.iconst 0, 1) := by decide +kernel
theorem dX5_addTariff_111 : decode cX5_addTariff 111 = .ok (.iastore, 1) := by decide +kernel
theorem dX5_addTariff_112 : decode cX5_addTariff 112 = .ok (.dup, 1) := by decide +kernel
theorem dX5_addTariff_113 : decode cX5_addTariff 113 = .ok (.bipush 6, 2) := by decide +kernel
theorem dX5_addTariff_115 : decode cX5_addTariff 115 = .ok (.iconst 0, 1) := by decide +kernel
theorem dX5_addTariff_116 : decode cX5_addTariff 116 = .ok (.iastore, 1) := by decide +kernel
theorem dX5_addTariff_117 : decode cX5_addTariff 117 = .ok (.dup, 1) := by decide +kernel
theorem dX5_addTariff_118 : decode cX5_addTariff 118 = .ok (.bipush 7, 2) := by decide +kernel
theorem dX5_addTariff_120 : decode cX5_addTariff 120 = .ok (.iconst 0, 1) := by decide +kernel
theorem dX5_addTariff_121 : decode cX5_addTariff 121 = .ok (.iastore, 1) := by decide +kernel
theorem dX5_addTariff_122 : decode cX5_addTariff 122 = .ok (.dup, 1) := by decide +kernel
theorem dX5_addTariff_123 : decode cX5_addTariff 123 = .ok (.bipush 8, 2) := by decide +kernel
theorem dX5_addTariff_125 : decode cX5_addTariff 125 = .ok (.iconst 0, 1) := by decide +kernel
theorem dX5_addTariff_126 : decode cX5_addTariff 126 = .ok (.iastore, 1) := by decide +kernel
theorem dX5_addTariff_127 : decode cX5_addTariff 127 = .ok (.astore 6, 2) := by decide +kernel
theorem dX5_addTariff_129 : decode cX5_addTariff 129 = .ok (.aload 6, 2) := by decide +kernel
theorem dX5_addTariff_131 : decode cX5_addTariff 131 = .ok (.iconst 0, 1) := by decide +kernel
theorem dX5_addTariff_132 : decode cX5_addTariff 132 = .ok (.aload_n 0, 1) := by decide +kernel
theorem dX5_addTariff_133 : decode cX5_addTariff 133 = .ok (.getfield 9, 3) := by decide +kernel
theorem dX5_addTariff_136 : decode cX5_addTariff 136 = .ok (.bipush 9, 2) := by decide +kernel
theorem dX5_addTariff_138 : decode cX5_addTariff 138 = .ok (.aload_n 0, 1) := by decide +kernel
theorem dX5_addTariff_139 : decode cX5_addTariff 139 = .ok (.getfield 56, 3) := by decide +kernel
theorem dX5_addTariff_142 : decode cX5_addTariff 142 = .ok (.imul, 1) := by decide +kernel
theorem dX5_addTariff_143 : decode cX5_addTariff 143 = .ok (.bipush 9, 2) := by decide +kernel
theorem dX5_addTariff_145 : decode cX5_addTariff 145 = .ok (.invokestatic 76, 3) := by decide +kernel
theorem dX5_addTariff_148 : decode cX5_addTariff 148 = .ok (.aload_n 0, 1) := by decide +kernel
theorem dX5_addTariff_149 : decode cX5_addTariff 149 = .ok (.dup, 1) := by decide +kernel
theorem dX5_addTariff_150 : decode cX5_addTariff 150 = .ok (.getfield 56, 3) := by decide +kernel
theorem dX5_addTariff_153 : decode cX5_addTariff 153 = .ok (.iconst 1, 1) := by decide +kernel
theorem dX5_addTariff_154 : decode cX5_addTariff 154 = .ok (.iadd, 1) := by decide +kernel
theorem dX5_addTariff_155 : decode cX5_addTariff 155 = .ok (.putfield 56, 3) := by decide +kernel
theorem dX5_addTariff_158 : decode cX5_addTariff 158 = .ok (.aload_n 0, 1) := by decide +kernel
theorem dX5_addTariff_159 : decode cX5_addTariff 159 = .ok (.getfield 56, 3) := by decide +kernel
theorem dX5_addTariff_162 : decode cX5_addTariff 162 = .ok (.iconst 1, 1) := by decide +kernel
theorem dX5_addTariff_163 : decode cX5_addTariff 163 = .ok (.isub, 1) := by decide +kernel
theorem dX5_addTariff_164 : decode cX5_addTariff 164 = .ok (.ireturn, 1) := by decide +kernel
theorem dX5_setZone_0 : decode cX5_setZone 0 = .ok (.aload_n 0, 1) := by decide +kernel
theorem dX5_setZone_1 : decode cX5_setZone 1 = .ok (.iconst 0, 1) := by decide +kernel
theorem dX5_setZone_2 : decode cX5_setZone 2 = .ok (.putfield 53, 3) := by decide +kernel
theorem dX5_setZone_5 : decode cX5_setZone 5 = .ok (.aload_n 0, 1) := by decide +kernel
theorem dX5_setZone_6 : decode cX5_setZone 6 = .ok (.iload_n 1, 1) := by decide +kernel
theorem dX5_setZone_7 : decode cX5_setZone 7 = .ok (.invokevirtual 82, 3) := by decide +kernel
theorem dX5_setZone_10 : decode cX5_setZone 10 = .ok (.ifCond .eq 12, 3) := by decide +kernel
theorem dX5_setZone_13 : decode cX5_setZone 13 = .ok (.iload_n 2, 1) := by decide +kernel
theorem dX5_setZone_14 : decode cX5_setZone 14 = .ok (.iconst 1, 1) := by decide +kernel
theorem dX5_setZone_15 : decode cX5_setZone 15 = .ok (.iconst 2, 1) := by decide +kernel
theorem dX5_setZone_16 : decode cX5_setZone 16 = .ok (.invokestatic 59, 3) := by decide +kernel
theorem dX5_setZone_19 : decode cX5_setZone 19 = .ok (.ifCond .ne 9, 3) := by decide +kernel
theorem dX5_setZone_22 : decode cX5_setZone 22 = .ok (.aload_n 0, 1) := by decide +kernel
theorem dX5_setZone_23 : decode cX5_setZone 23 = .ok (.iconst 1, 1) := by decide +kernel
theorem dX5_setZone_24 : decode cX5_setZone 24 = .ok (.invokevirtual 72, 3) := by decide +kernel
theorem dX5_setZone_27 : decode cX5_setZone 27 = .ok (.ireturn, 1) := by decide +kernel
theorem dX5_setZone_28 : decode cX5_setZone 28 = .ok (.iload_n 3, 1) := by decide +kernel
theorem dX5_setZone_29 : decode cX5_setZone 29 = .ok (.iconst 0, 1) := by decide +kernel
theorem dX5_setZone_30 : decode cX5_setZone 30 = .ok (.sipush 10000, 3) := by decide +kernel
theorem dX5_setZone_33 : decode cX5_setZone 33 = .ok (.invokestatic 59, 3) := by decide +kernel
theorem dX5_setZone_36 : decode cX5_setZone 36 = .ok (.ifCond .eq 15, 3) := by decide +kernel
theorem dX5_setZone_39 : decode cX5_setZone 39 = .ok (.iload 4, 2) := by decide +kernel
theorem dX5_setZone_41 : decode cX5_setZone 41 = .ok (.iconst 0, 1) := by decide +kernel
theorem dX5_setZone_42 : decode cX5_setZone 42 = .ok (.sipush 10000, 3) := by decide +kernel
theorem dX5_setZone_45 : decode cX5_setZone 45 = .ok (.invokestatic 59, 3) := by decide +kernel
theorem dX5_setZone_48 : decode cX5_setZone 48 = .ok (.ifCond .ne 9, 3) := by decide +kernel
theorem dX5_setZone_51 : decode cX5_setZone 51 = .ok (.aload_n 0, 1) := by decide +kernel
theorem dX5_setZone_52 : decode cX5_setZone 52 = .ok (.iconst 2, 1) := by decide +kernel
theorem dX5_setZone_53 : decode cX5_setZone 53 = .ok (.invokevirtual 72, 3) := by decide +kernel
theorem dX5_setZone_56 : decode cX5_setZone 56 = .ok (.ireturn, 1) := by decide +kernel
theorem dX5_setZone_57 : decode cX5_setZone 57 = .ok (.bipush 9, 2) := by decide +kernel
theorem dX5_setZone_59 : decode cX5_setZone 59 = .ok (.iload_n 1, 1) := by decide +kernel
theorem dX5_setZone_60 : decode cX5_setZone 60 = .ok (.imul, 1) := by decide +kernel
theorem dX5_setZone_61 : decode cX5_setZone 61 = .ok (.iconst 3, 1) := by decide +kernel
theorem dX5_setZone_62 : decode cX5_setZone 62 = .ok (.iadd, 1) := by decide +kernel
theorem dX5_setZone_63 : decode cX5_setZone 63 = .ok (.iconst 2, 1) := by decide +kernel
theorem dX5_setZone_64 : decode cX5_setZone 64 = .ok (.iload_n 2, 1) := by decide +kernel
theorem dX5_setZone_65 : decode cX5_setZone 65 = .ok (.imul, 1) := by decide +kernel
theorem dX5_setZone_66 : decode cX5_setZone 66 = .ok (.iadd, 1) := by decide +kernel
theorem dX5_setZone_67 : decode cX5_setZone 67 = .ok (.istore 5, 2) := by decide +kernel
theorem dX5_setZone_69 : decode cX5_setZone 69 = .ok (.aload_n 0, 1) := by decide +kernel
theorem dX5_setZone_70 : decode cX5_setZone 70 = .ok (.getfield 9, 3) := by decide +kernel
theorem dX5_setZone_73 : decode cX5_setZone 73 = .ok (.iload 5, 2) := by decide +kernel
theorem dX5_setZone_75 : decode cX5_setZone 75 = .ok (.iaload, 1) := by decide +kernel
theorem dX5_setZone_76 : decode cX5_setZone 76 = .ok (.istore 6, 2) := by decide +kernel
theorem dX5_setZone_78 : decode cX5_setZone 78 = .ok (.aload_n 0, 1) := by decide +kernel
theorem dX5_setZone_79 : decode cX5_setZone 79 = .ok (.getfield 9, 3) := by decide +kernel
theorem dX5_setZone_82 : decode cX5_setZone 82 = .ok (.iload 5, 2) := by decide +kernel
theorem dX5_setZone_84 : decode cX5_setZone 84 = .ok (.iload_n 3, 1) := by decide +kernel
theorem dX5_setZone_85 : decode cX5_setZone 85 = .ok (.iastore, 1) := by decide +kernel
theorem dX5_setZone_86 : decode cX5_setZone 86 = .ok (.aload_n 0, 1) := by decide +kernel
theorem dX5_setZone_87 : decode cX5_setZone 87 = .ok (.getfield 9, 3) := by decide +kernel
theorem dX5_setZone_90 : decode cX5_setZone 90 = .ok (.iload 5, 2) := by decide +kernel
theorem dX5_setZone_92 : decode cX5_setZone 92 = .ok (.iconst 1, 1) := by decide +kernel
theorem dX5_setZone_93 : decode cX5_setZone 93 = .ok (.iadd, 1) := by decide +kernel
theorem dX5_setZone_94 : decode cX5_setZone 94 = .ok (.iload 4, 2) := by decide +kernel
theorem dX5_setZone_96 : decode cX5_setZone 96 = .ok (.iastore, 1) := by decide +kernel
theorem dX5_setZone_97 : decode cX5_setZone 97 = .ok (.iload 6, 2) := by decide +kernel
theorem dX5_setZone_99 : decode cX5_setZone 99 = .ok (.ireturn, 1) := by decide +kernel
theorem dX5_setPeak_0 : decode cX5_setPeak 0 = .ok (.aload_n 0, 1) := by decide +kernel
theorem dX5_setPeak_1 : decode cX5_setPeak 1 = .ok (.iload_n 1, 1) := by decide +kernel
theorem dX5_setPeak_2 : decode cX5_setPeak 2 = .ok (.iconst 0, 1) := by decide +kernel
theorem dX5_setPeak_3 : decode cX5_setPeak 3 = .ok (.sipush 1439, 3) := by decide +kernel
theorem dX5_setPeak_6 : decode cX5_setPeak 6 = .ok (.invokestatic 59, 3) := by decide +kernel
theorem dX5_setPeak_9 : decode cX5_setPeak 9 = .ok (.ifCond .eq 18, 3) := by decide +kernel
theorem dX5_setPeak_12 : decode cX5_setPeak 12 = .ok (.iload_n 2, 1) := by decide +kernel
theorem dX5_setPeak_13 : decode cX5_setPeak 13 = .ok (.iload_n 1, 1) := by decide +kernel
theorem dX5_setPeak_14 : decode cX5_setPeak 14 = .ok (.sipush 1439, 3) := by decide +kernel
theorem dX5_setPeak_17 : decode cX5_setPeak 17 = .ok (.invokestatic 59, 3) := by decide +kernel
theorem dX5_setPeak_20 : decode cX5_setPeak 20 = .ok (.ifCond .eq 7, 3) := by decide +kernel
theorem dX5_setPeak_23 : decode cX5_setPeak 23 = .ok (.iconst 0, 1) := by decide +kernel
theorem dX5_setPeak_24 : decode cX5_setPeak 24 = .ok (.goto 4, 3) := by decide +kernel
theorem dX5_setPeak_27 : decode cX5_setPeak 27 = .ok (.iconst 1, 1) := by decide +kernel
theorem dX5_setPeak_28 : decode cX5_setPeak 28 = .ok (.putfield 53, 3) := by decide +kernel
theorem dX5_setPeak_31 : decode cX5_setPeak 31 = .ok (.aload_n 0, 1) := by decide +kernel
theorem dX5_setPeak_32 : decode cX5_setPeak 32 = .ok (.getfield 53, 3) := by decide +kernel
theorem dX5_setPeak_35 : decode cX5_setPeak 35 = .ok (.ifCond .eq 5, 3) := by decide +kernel
theorem dX5_setPeak_38 : decode cX5_setPeak 38 = .ok (.iconst 0, 1) := by decide +kernel
theorem dX5_setPeak_39 : decode cX5_setPeak 39 = .ok (.ireturn, 1) := by decide +kernel
theorem dX5_setPeak_40 : decode cX5_setPeak 40 = .ok (.iload_n 1, 1) := by decide +kernel
theorem dX5_setPeak_41 : decode cX5_setPeak 41 = .ok (.aload_n 0, 1) := by decide +kernel
theorem dX5_setPeak_42 : decode cX5_setPeak 42 = .ok (.getfield 25, 3) := by decide +kernel
theorem dX5_setPeak_45 : decode cX5_setPeak 45 = .ok (.if_icmp .ne 11, 3) := by decide +kernel
theorem dX5_setPeak_48 : decode cX5_setPeak 48 = .ok (.iload_n 2, 1) := by decide +kernel
theorem dX5_setPeak_49 : decode cX5_setPeak 49 = .ok (.aload_n 0, 1) := by decide +kernel
theorem dX5_setPeak_50 : decode cX5_setPeak 50 = .ok (.getfield 29, 3) := by decide +kernel
theorem dX5_setPeak_53 : decode cX5_setPeak 53 = .ok (.if_icmp .eq 7, 3) := by decide +kernel
theorem dX5_setPeak_56 : decode cX5_setPeak 56 = .ok (.iconst 1, 1) := by decide +kernel
theorem dX5_setPeak_57 : decode cX5_setPeak 57 = .ok (.goto 4, 3) := by decide +kernel
theorem dX5_setPeak_60 : decode cX5_setPeak 60 = .ok (.iconst 0, 1) := by decide +kernel
theorem dX5_setPeak_61 : decode cX5_setPeak 61 = .ok (.istore_n 3, 1) := by decide +kernel
theorem dX5_setPeak_62 : decode cX5_setPeak 62 = .ok (.aload_n 0, 1) := by decide +kernel
theorem dX5_setPeak_63 : decode cX5_setPeak 63 = .ok (.iload_n 1, 1) := by decide +kernel
theorem dX5_setPeak_64 : decode cX5_setPeak 64 = .ok (.putfield 25, 3) := by decide +kernel
theorem dX5_setPeak_67 : decode cX5_setPeak 67 = .ok (.aload_n 0, 1) := by decide +kernel
theorem dX5_setPeak_68 : decode cX5_setPeak 68 = .ok (.iload_n 2, 1) := by decide +kernel
theorem dX5_setPeak_69 : decode cX5_setPeak 69 = .ok (.putfield 29, 3) := by decide +kernel
theorem dX5_setPeak_72 : decode cX5_setPeak 72 = .ok (.iload_n 3, 1) := by decide +kernel
theorem dX5_setPeak_73 : decode cX5_setPeak 73 = .ok (.ireturn, 1) := by decide +kernel
theorem dX5_addAccount_0 : decode cX5_addAccount 0 = .ok (.aload_n 0, 1) := by decide +kernel
theorem dX5_addAccount_1 : decode cX5_addAccount 1 = .ok (.iconst 0, 1) := by decide +kernel
theorem dX5_addAccount_2 : decode cX5_addAccount 2 = .ok (.putfield 53, 3) := by decide +kernel
theorem dX5_addAccount_5 : decode cX5_addAccount 5 = .ok (.iload_n 1, 1) := by decide +kernel
theorem dX5_addAccount_6 : decode cX5_addAccount 6 = .ok (.iconst 0, 1) := by decide +kernel
theorem dX5_addAccount_7 : decode cX5_addAccount 7 = .ok (.ldc 86, 2) := by decide +kernel
theorem dX5_addAccount_9 : decode cX5_addAccount 9 = .ok (.invokestatic 59, 3) := by decide +kernel
theorem dX5_addAccount_12 : decode cX5_addAccount 12 = .ok (.ifCond .eq 23, 3) := by decide +kernel
theorem dX5_addAccount_15 : decode cX5_addAccount 15 = .ok (.iload_n 2, 1) := by decide +kernel
theorem dX5_addAccount_16 : decode cX5_addAccount 16 = .ok (.iconst 0, 1) := by decide +kernel
theorem dX5_addAccount_17 : decode cX5_addAccount 17 = .ok (.ldc 87, 2) := by decide +kernel
theorem dX5_addAccount_19 : decode cX5_addAccount 19 = .ok (.invokestatic 59, 3) := by decide +kernel
theorem dX5_addAccount_22 : decode cX5_addAccount 22 = .ok (.ifCond .eq 13, 3) := by decide +kernel
theorem dX5_addAccount_25 : decode cX5_addAccount 25 = .ok (.iload_n 3, 1) := by decide +kernel
theorem dX5_addAccount_26 : decode cX5_addAccount 26 = .ok (.iconst 0, 1) := by decide +kernel
theorem dX5_addAccount_27 : decode cX5_addAccount 27 = .ok (.bipush 100, 2) := by decide +kernel
theorem dX5_addAccount_29 : decode cX5_addAccount 29 = .ok (.invokestatic 59, 3) := by decide +kernel
theorem dX5_addAccount_32 : decode cX5_addAccount 32 = .ok (.ifCond .ne 9, 3) := by decide +kernel
theorem dX5_addAccount_35 : decode cX5_addAccount 35 = .ok (.aload_n 0, 1) := by decide +kernel
theorem dX5_addAccount_36 : decode cX5_addAccount 36 = .ok (.iconst 1, 1) := by decide +kernel
theorem dX5_addAccount_37 : decode cX5_addAccount 37 = .ok (.invokevirtual 72, 3) := by decide +kernel
theorem dX5_addAccount_40 : decode cX5_addAccount 40 = .ok (.ireturn, 1) := by decide +kernel
theorem dX5_addAccount_41 : decode cX5_addAccount 41 = .ok (.aload_n 0, 1) := by decide +kernel
theorem dX5_addAccount_42 : decode cX5_addAccount 42 = .ok (.getfield 63, 3) := by decide +kernel
theorem dX5_addAccount_45 : decode cX5_addAccount 45 = .ok (.iconst 4, 1) := by decide +kernel
theorem dX5_addAccount_46 : decode cX5_addAccount 46 = .ok (.if_icmp .ne 9, 3) := by decide +kernel
theorem dX5_addAccount_49 : decode cX5_addAccount 49 = .ok (.aload_n 0, 1) := by decide +kernel
theorem dX5_addAccount_50 : decode cX5_addAccount 50 = .ok (.iconst 2, 1) := by decide +kernel
theorem dX5_addAccount_51 : decode cX5_addAccount 51 = .ok (.invokevirtual 72, 3) := by decide +kernel
theorem dX5_addAccount_54 : decode cX5_addAccount 54 = .ok (.ireturn, 1) := by decide +kernel
theorem dX5_addAccount_55 : decode cX5_addAccount 55 = .ok (.aload_n 0, 1) := by decide +kernel
theorem dX5_addAccount_56 : decode cX5_addAccount 56 = .ok (.getfield 13, 3) := by decide +kernel
theorem dX5_addAccount_59 : decode cX5_addAccount 59 = .ok (.iconst 3, 1) := by decide +kernel
theorem dX5_addAccount_60 : decode cX5_addAccount 60 = .ok (.aload_n 0, 1) := by decide +kernel
theorem dX5_addAccount_61 : decode cX5_addAccount 61 = .ok (.getfield 63, 3) := by decide +kernel
theorem dX5_addAccount_64 : decode cX5_addAccount 64 = .ok (.imul, 1) := by decide +kernel
theorem dX5_addAccount_65 : decode cX5_addAccount 65 = .ok (.iload_n 1, 1) := by decide +kernel
theorem dX5_addAccount_66 : decode cX5_addAccount 66 = .ok (.iastore, 1) := by decide +kernel
theorem dX5_addAccount_67 : decode cX5_addAccount 67 = .ok (.aload_n 0, 1) := by decide +kernel
theorem dX5_addAccount_68 : decode cX5_addAccount 68 = .ok (.getfield 13, 3) := by decide +kernel
theorem dX5_addAccount_71 : decode cX5_addAccount 71 = .ok (.iconst 3, 1) := by decide +kernel
theorem dX5_addAccount_72 : decode cX5_addAccount 72 = .ok (.aload_n 0, 1) := by decide +kernel
theorem dX5_addAccount_73 : decode cX5_addAccount 73 = .ok (.getfield 63, 3) := by decide +kernel
theorem dX5_addAccount_76 : decode cX5_addAccount 76 = .ok (.imul, 1) := by decide +kernel
theorem dX5_addAccount_77 : decode cX5_addAccount 77 = .ok (.iconst 1, 1) := by decide +kernel
theorem dX5_addAccount_78 : decode cX5_addAccount 78 = .ok (.iadd, 1) := by decide +kernel
theorem dX5_addAccount_79 : decode cX5_addAccount 79 = .ok (.iload_n 2, 1) := by decide +kernel
theorem dX5_addAccount_80 : decode cX5_addAccount 80 = .ok (.iastore, 1) := by decide +kernel
theorem dX5_addAccount_81 : decode cX5_addAccount 81 = .ok (.aload_n 0, 1) := by decide +kernel
theorem dX5_addAccount_82 : decode cX5_addAccount 82 = .ok (.getfield 13, 3) := by decide +kernel
theorem dX5_addAccount_85 : decode cX5_addAccount 85 = .ok (.iconst 3, 1) := by decide +kernel
theorem dX5_addAccount_86 : decode cX5_addAccount 86 = .ok (.aload_n 0, 1) := by decide +kernel
theorem dX5_addAccount_87 : decode cX5_addAccount 87 = .ok (.getfield 63, 3) := by decide +kernel
theorem dX5_addAccount_90 : decode cX5_addAccount 90 = .ok (.imul, 1) := by decide +kernel
theorem dX5_addAccount_91 : decode cX5_addAccount 91 = .ok (.iconst 2, 1) := by decide +kernel
theorem dX5_addAccount_92 : decode cX5_addAccount 92 = .ok (.iadd, 1) := by decide +kernel
theorem dX5_addAccount_93 : decode cX5_addAccount 93 = .ok (.iload_n 3, 1) := by decide +kernel
theorem dX5_addAccount_94 : decode cX5_addAccount 94 = .ok (.iastore, 1) := by decide +kernel
theorem dX5_addAccount_95 : decode cX5_addAccount 95 = .ok (.aload_n 0, 1) := by decide +kernel
theorem dX5_addAccount_96 : decode cX5_addAccount 96 = .ok (.dup, 1) := by decide +kernel
theorem dX5_addAccount_97 : decode cX5_addAccount 97 = .ok (.getfield 63, 3) := by decide +kernel
theorem dX5_addAccount_100 : decode cX5_addAccount 100 = .ok (.iconst 1, 1) := by decide +kernel
theorem dX5_addAccount_101 : decode cX5_addAccount 101 = .ok (.iadd, 1) := by decide +kernel
theorem dX5_addAccount_102 : decode cX5_addAccount 102 = .ok (.putfield 63, 3) := by decide +kernel
theorem dX5_addAccount_105 : decode cX5_addAccount 105 = .ok (.aload_n 0, 1) := by decide +kernel
theorem dX5_addAccount_106 : decode cX5_addAccount 106 = .ok (.getfield 63, 3) := by decide +kernel
theorem dX5_addAccount_109 : decode cX5_addAccount 109 = .ok (.iconst 1, 1) := by decide +kernel
theorem dX5_addAccount_110 : decode cX5_addAccount 110 = .ok (.isub, 1) := by decide +kernel
theorem dX5_addAccount_111 : decode cX5_addAccount 111 = .ok (.ireturn, 1) := by decide +kernel
theorem dX5_addLine_0 : decode cX5_addLine 0 = .ok (.aload_n 0, 1) := by decide +kernel
theorem dX5_addLine_1 : decode cX5_addLine 1 = .ok (.iconst 0, 1) := by decide +kernel
theorem dX5_addLine_2 : decode cX5_addLine 2 = .ok (.putfield 53, 3) := by decide +kernel
theorem dX5_addLine_5 : decode cX5_addLine 5 = .ok (.aload_n 0, 1) := by decide +kernel
theorem dX5_addLine_6 : decode cX5_addLine 6 = .ok (.iload_n 1, 1) := by decide +kernel
theorem dX5_addLine_7 : decode cX5_addLine 7 = .ok (.invokevirtual 88, 3) := by decide +kernel
theorem dX5_addLine_10 : decode cX5_addLine 10 = .ok (.ifCond .eq 11, 3) := by decide +kernel
theorem dX5_addLine_13 : decode cX5_addLine 13 = .ok (.aload_n 0, 1) := by decide +kernel
theorem dX5_addLine_14 : decode cX5_addLine 14 = .ok (.iload_n 2, 1) := by decide +kernel
theorem dX5_addLine_15 : decode cX5_addLine 15 = .ok (.invokevirtual 82, 3) := by decide +kernel
theorem dX5_addLine_18 : decode cX5_addLine 18 = .ok (.ifCond .ne 9, 3) := by decide +kernel
theorem dX5_addLine_21 : decode cX5_addLine 21 = .ok (.aload_n 0, 1) := by decide +kernel
theorem dX5_addLine_22 : decode cX5_addLine 22 = .ok (.iconst 1, 1) := by decide +kernel
theorem dX5_addLine_23 : decode cX5_addLine 23 = .ok (.invokevirtual 72, 3) := by decide +kernel
theorem dX5_addLine_26 : decode cX5_addLine 26 = .ok (.ireturn, 1) := by decide +kernel
theorem dX5_addLine_27 : decode cX5_addLine 27 = .ok (.aload_n 0, 1) := by decide +kernel
theorem dX5_addLine_28 : decode cX5_addLine 28 = .ok (.getfield 66, 3) := by decide +kernel
theorem dX5_addLine_31 : decode cX5_addLine 31 = .ok (.bipush 8, 2) := by decide +kernel
theorem dX5_addLine_33 : decode cX5_addLine 33 = .ok (.if_icmp .ne 9, 3) := by decide +kernel
theorem dX5_addLine_36 : decode cX5_addLine 36 = .ok (.aload_n 0, 1) := by decide +kernel
theorem dX5_addLine_37 : decode cX5_addLine 37 = .ok (.iconst 2, 1) := by decide +kernel
theorem dX5_addLine_38 : decode cX5_addLine 38 = .ok (.invokevirtual 72, 3) := by decide +kernel
theorem dX5_addLine_41 : decode cX5_addLine 41 = .ok (.ireturn, 1) := by decide +kernel
theorem dX5_addLine_42 : decode cX5_addLine 42 = .ok (.aload_n 0, 1) := by decide +kernel
theorem dX5_addLine_43 : decode cX5_addLine 43 = .ok (.getfield 16, 3) := by decide +kernel
theorem dX5_addLine_46 : decode cX5_addLine 46 = .ok (.aload_n 0, 1) := by decide +kernel
theorem dX5_addLine_47 : decode cX5_addLine 47 = .ok (.getfield 66, 3) := by decide +kernel
theorem dX5_addLine_50 : decode cX5_addLine 50 = .ok (.iload_n 1, 1) := by decide +kernel
theorem dX5_addLine_51 : decode cX5_addLine 51 = .ok (.iastore, 1) := by decide +kernel
theorem dX5_addLine_52 : decode cX5_addLine 52 = .ok (.aload_n 0, 1) := by decide +kernel
theorem dX5_addLine_53 : decode cX5_addLine 53 = .ok (.getfield 19, 3) := by decide +kernel
theorem dX5_addLine_56 : decode cX5_addLine 56 = .ok (.aload_n 0, 1) := by decide +kernel
theorem dX5_addLine_57 : decode cX5_addLine 57 = .ok (.getfield 66, 3) := by decide +kernel
theorem dX5_addLine_60 : decode cX5_addLine 60 = .ok (.iload_n 2, 1) := by decide +kernel
theorem dX5_addLine_61 : decode cX5_addLine 61 = .ok (.iastore, 1) := by decide +kernel
theorem dX5_addLine_62 : decode cX5_addLine 62 = .ok (.aload_n 0, 1) := by decide +kernel
theorem dX5_addLine_63 : decode cX5_addLine 63 = .ok (.dup, 1) := by decide +kernel
theorem dX5_addLine_64 : decode cX5_addLine 64 = .ok (.getfield 66, 3) := by decide +kernel
theorem dX5_addLine_67 : decode cX5_addLine 67 = .ok (.iconst 1, 1) := by decide +kernel
theorem dX5_addLine_68 : decode cX5_addLine 68 = .ok (.iadd, 1) := by decide +kernel
theorem dX5_addLine_69 : decode cX5_addLine 69 = .ok (.putfield 66, 3) := by decide +kernel
theorem dX5_addLine_72 : decode cX5_addLine 72 = .ok (.aload_n 0, 1) := by decide +kernel
theorem dX5_addLine_73 : decode cX5_addLine 73 = .ok (.getfield 66, 3) := by decide +kernel
theorem dX5_addLine_76 : decode cX5_addLine 76 = .ok (.iconst 1, 1) := by decide +kernel
theorem dX5_addLine_77 : decode cX5_addLine 77 = .ok (.isub, 1) := by decide +kernel
theorem dX5_addLine_78 : decode cX5_addLine 78 = .ok (.ireturn, 1) := by decide +kernel
theorem dX5_setTariff_0 : decode cX5_setTariff 0 = .ok (.aload_n 0, 1) := by decide +kernel
theorem dX5_setTariff_1 : decode cX5_setTariff 1 = .ok (.iconst 0, 1) := by decide +kernel
theorem dX5_setTariff_2 : decode cX5_setTariff 2 = .ok (.putfield 53, 3) := by decide +kernel
theorem dX5_setTariff_5 : decode cX5_setTariff 5 = .ok (.aload_n 0, 1) := by decide +kernel
theorem dX5_setTariff_6 : decode cX5_setTariff 6 = .ok (.iload_n 1, 1) := by decide +kernel
theorem dX5_setTariff_7 : decode cX5_setTariff 7 = .ok (.invokevirtual 91, 3) := by decide +kernel
theorem dX5_setTariff_10 : decode cX5_setTariff 10 = .ok (.ifCond .eq 11, 3) := by decide +kernel
theorem dX5_setTariff_13 : decode cX5_setTariff 13 = .ok (.aload_n 0, 1) := by decide +kernel
theorem dX5_setTariff_14 : decode cX5_setTariff 14 = .ok (.iload_n 2, 1) := by decide +kernel
theorem dX5_setTariff_15 : decode cX5_setTariff 15 = .ok (.invokevirtual 82, 3) := by decide +kernel
theorem dX5_setTariff_18 : decode cX5_setTariff 18 = .ok (.ifCond .ne 9, 3) := by decide +kernel
theorem dX5_setTariff_21 : decode cX5_setTariff 21 = .ok (.aload_n 0, 1) := by decide +kernel
theorem dX5_setTariff_22 : decode cX5_setTariff 22 = .ok (.iconst 1, 1) := by decide +kernel
theorem dX5_setTariff_23 : decode cX5_setTariff 23 = .ok (.invokevirtual 72, 3) := by decide +kernel
theorem dX5_setTariff_26 : decode cX5_setTariff 26 = .ok (.ireturn, 1) := by decide +kernel
theorem dX5_setTariff_27 : decode cX5_setTariff 27 = .ok (.aload_n 0, 1) := by decide +kernel
theorem dX5_setTariff_28 : decode cX5_setTariff 28 = .ok (.getfield 19, 3) := by decide +kernel
theorem dX5_setTariff_31 : decode cX5_setTariff 31 = .ok (.iload_n 1, 1) := by decide +kernel
theorem dX5_setTariff_32 : decode cX5_setTariff 32 = .ok (.iaload, 1) := by decide +kernel
theorem dX5_setTariff_33 : decode cX5_setTariff 33 = .ok (.istore_n 3, 1) := by decide +kernel
theorem dX5_setTariff_34 : decode cX5_setTariff 34 = .ok (.aload_n 0, 1) := by decide +kernel
theorem dX5_setTariff_35 : decode cX5_setTariff 35 = .ok (.getfield 19, 3) := by decide +kernel
theorem dX5_setTariff_38 : decode cX5_setTariff 38 = .ok (.iload_n 1, 1) := by decide +kernel
theorem dX5_setTariff_39 : decode cX5_setTariff 39 = .ok (.iload_n 2, 1) := by decide +kernel
theorem dX5_setTariff_40 : decode cX5_setTariff 40 = .ok (.iastore, 1) := by decide +kernel
theorem dX5_setTariff_41 : decode cX5_setTariff 41 = .ok (.iload_n 3, 1) := by decide +kernel
theorem dX5_setTariff_42 : decode cX5_setTariff 42 = .ok (.ireturn, 1) := by decide +kernel
theorem dX5_setBundle_0 : decode cX5_setBundle 0 = .ok (.aload_n 0, 1) := by decide +kernel
theorem dX5_setBundle_1 : decode cX5_setBundle 1 = .ok (.iconst 0, 1) := by decide +kernel
theorem dX5_setBundle_2 : decode cX5_setBundle 2 = .ok (.putfield 53, 3) := by decide +kernel
theorem dX5_setBundle_5 : decode cX5_setBundle 5 = .ok (.aload_n 0, 1) := by decide +kernel
theorem dX5_setBundle_6 : decode cX5_setBundle 6 = .ok (.iload_n 1, 1) := by decide +kernel
theorem dX5_setBundle_7 : decode cX5_setBundle 7 = .ok (.invokevirtual 88, 3) := by decide +kernel
theorem dX5_setBundle_10 : decode cX5_setBundle 10 = .ok (.ifCond .ne 9, 3) := by decide +kernel
theorem dX5_setBundle_13 : decode cX5_setBundle 13 = .ok (.aload_n 0, 1) := by decide +kernel
theorem dX5_setBundle_14 : decode cX5_setBundle 14 = .ok (.iconst 1, 1) := by decide +kernel
theorem dX5_setBundle_15 : decode cX5_setBundle 15 = .ok (.invokevirtual 72, 3) := by decide +kernel
theorem dX5_setBundle_18 : decode cX5_setBundle 18 = .ok (.ireturn, 1) := by decide +kernel
theorem dX5_setBundle_19 : decode cX5_setBundle 19 = .ok (.iload_n 2, 1) := by decide +kernel
theorem dX5_setBundle_20 : decode cX5_setBundle 20 = .ok (.iconst 0, 1) := by decide +kernel
theorem dX5_setBundle_21 : decode cX5_setBundle 21 = .ok (.ldc 86, 2) := by decide +kernel
theorem dX5_setBundle_23 : decode cX5_setBundle 23 = .ok (.invokestatic 59, 3) := by decide +kernel
theorem dX5_setBundle_26 : decode cX5_setBundle 26 = .ok (.ifCond .ne 9, 3) := by decide +kernel
theorem dX5_setBundle_29 : decode cX5_setBundle 29 = .ok (.aload_n 0, 1) := by decide +kernel
theorem dX5_setBundle_30 : decode cX5_setBundle 30 = .ok (.iconst 2, 1) := by decide +kernel
theorem dX5_setBundle_31 : decode cX5_setBundle 31 = .ok (.invokevirtual 72, 3) := by decide +kernel
theorem dX5_setBundle_34 : decode cX5_setBundle 34 = .ok (.ireturn, 1) := by decide +kernel
theorem dX5_setBundle_35 : decode cX5_setBundle 35 = .ok (.aload_n 0, 1) := by decide +kernel
theorem dX5_setBundle_36 : decode cX5_setBundle 36 = .ok (.getfield 13, 3) := by decide +kernel
theorem dX5_setBundle_39 : decode cX5_setBundle 39 = .ok (.iconst 3, 1) := by decide +kernel
theorem dX5_setBundle_40 : decode cX5_setBundle 40 = .ok (.iload_n 1, 1) := by decide +kernel
theorem dX5_setBundle_41 : decode cX5_setBundle 41 = .ok (.imul, 1) := by decide +kernel
theorem dX5_setBundle_42 : decode cX5_setBundle 42 = .ok (.iaload, 1) := by decide +kernel
theorem dX5_setBundle_43 : decode cX5_setBundle 43 = .ok (.istore_n 3, 1) := by decide +kernel
theorem dX5_setBundle_44 : decode cX5_setBundle 44 = .ok (.aload_n 0, 1) := by decide +kernel
theorem dX5_setBundle_45 : decode cX5_setBundle 45 = .ok (.getfield 13, 3) := by decide +kernel
theorem dX5_setBundle_48 : decode cX5_setBundle 48 = .ok (.iconst 3, 1) := by decide +kernel
theorem dX5_setBundle_49 : decode cX5_setBundle 49 = .ok (.iload_n 1, 1) := by decide +kernel
theorem dX5_setBundle_50 : decode cX5_setBundle 50 = .ok (.imul, 1) := by decide +kernel
theorem dX5_setBundle_51 : decode cX5_setBundle 51 = .ok (.iload_n 2, 1) := by decide +kernel
theorem dX5_setBundle_52 : decode cX5_setBundle 52 = .ok (.iastore, 1) := by decide +kernel
theorem dX5_setBundle_53 : decode cX5_setBundle 53 = .ok (.iload_n 3, 1) := by decide +kernel
theorem dX5_setBundle_54 : decode cX5_setBundle 54 = .ok (.ireturn, 1) := by decide +kernel
theorem dX5_addCall_0 : decode cX5_addCall 0 = .ok (.aload_n 0, 1) := by decide +kernel
theorem dX5_addCall_1 : decode cX5_addCall 1 = .ok (.iconst 0, 1) := by decide +kernel
theorem dX5_addCall_2 : decode cX5_addCall 2 = .ok (.putfield 53, 3) := by decide +kernel
theorem dX5_addCall_5 : decode cX5_addCall 5 = .ok (.aload_n 0, 1) := by decide +kernel
theorem dX5_addCall_6 : decode cX5_addCall 6 = .ok (.iload_n 1, 1) := by decide +kernel
theorem dX5_addCall_7 : decode cX5_addCall 7 = .ok (.invokevirtual 91, 3) := by decide +kernel
theorem dX5_addCall_10 : decode cX5_addCall 10 = .ok (.ifCond .ne 9, 3) := by decide +kernel
theorem dX5_addCall_13 : decode cX5_addCall 13 = .ok (.aload_n 0, 1) := by decide +kernel
theorem dX5_addCall_14 : decode cX5_addCall 14 = .ok (.iconst 1, 1) := by decide +kernel
theorem dX5_addCall_15 : decode cX5_addCall 15 = .ok (.invokevirtual 72, 3) := by decide +kernel
theorem dX5_addCall_18 : decode cX5_addCall 18 = .ok (.ireturn, 1) := by decide +kernel
theorem dX5_addCall_19 : decode cX5_addCall 19 = .ok (.iload_n 2, 1) := by decide +kernel
theorem dX5_addCall_20 : decode cX5_addCall 20 = .ok (.iconst 0, 1) := by decide +kernel
theorem dX5_addCall_21 : decode cX5_addCall 21 = .ok (.ldc 94, 2) := by decide +kernel
theorem dX5_addCall_23 : decode cX5_addCall 23 = .ok (.invokestatic 59, 3) := by decide +kernel
theorem dX5_addCall_26 : decode cX5_addCall 26 = .ok (.ifCond .eq 24, 3) := by decide +kernel
theorem dX5_addCall_29 : decode cX5_addCall 29 = .ok (.iload_n 3, 1) := by decide +kernel
theorem dX5_addCall_30 : decode cX5_addCall 30 = .ok (.iconst 1, 1) := by decide +kernel
theorem dX5_addCall_31 : decode cX5_addCall 31 = .ok (.sipush 7200, 3) := by decide +kernel
theorem dX5_addCall_34 : decode cX5_addCall 34 = .ok (.invokestatic 59, 3) := by decide +kernel
theorem dX5_addCall_37 : decode cX5_addCall 37 = .ok (.ifCond .eq 13, 3) := by decide +kernel
theorem dX5_addCall_40 : decode cX5_addCall 40 = .ok (.iload 4, 2) := by decide +kernel
theorem dX5_addCall_42 : decode cX5_addCall 42 = .ok (.iconst 0, 1) := by decide +kernel
theorem dX5_addCall_43 : decode cX5_addCall 43 = .ok (.iconst 2, 1) := by decide +kernel
theorem dX5_addCall_44 : decode cX5_addCall 44 = .ok (.invokestatic 59, 3) := by decide +kernel
theorem dX5_addCall_47 : decode cX5_addCall 47 = .ok (.ifCond .ne 9, 3) := by decide +kernel
theorem dX5_addCall_50 : decode cX5_addCall 50 = .ok (.aload_n 0, 1) := by decide +kernel
theorem dX5_addCall_51 : decode cX5_addCall 51 = .ok (.iconst 2, 1) := by decide +kernel
theorem dX5_addCall_52 : decode cX5_addCall 52 = .ok (.invokevirtual 72, 3) := by decide +kernel
theorem dX5_addCall_55 : decode cX5_addCall 55 = .ok (.ireturn, 1) := by decide +kernel
theorem dX5_addCall_56 : decode cX5_addCall 56 = .ok (.aload_n 0, 1) := by decide +kernel
theorem dX5_addCall_57 : decode cX5_addCall 57 = .ok (.getfield 69, 3) := by decide +kernel
theorem dX5_addCall_60 : decode cX5_addCall 60 = .ok (.bipush 60, 2) := by decide +kernel
theorem dX5_addCall_62 : decode cX5_addCall 62 = .ok (.if_icmp .ne 9, 3) := by decide +kernel
theorem dX5_addCall_65 : decode cX5_addCall 65 = .ok (.aload_n 0, 1) := by decide +kernel
theorem dX5_addCall_66 : decode cX5_addCall 66 = .ok (.iconst 3, 1) := by decide +kernel
theorem dX5_addCall_67 : decode cX5_addCall 67 = .ok (.invokevirtual 72, 3) := by decide +kernel
theorem dX5_addCall_70 : decode cX5_addCall 70 = .ok (.ireturn, 1) := by decide +kernel
theorem dX5_addCall_71 : decode cX5_addCall 71 = .ok (.iconst 4, 1) := by decide +kernel
theorem dX5_addCall_72 : decode cX5_addCall 72 = .ok (.newarray .int, 2) := by decide +kernel
theorem dX5_addCall_74 : decode cX5_addCall 74 = .ok (.dup, 1) := by decide +kernel
theorem dX5_addCall_75 : decode cX5_addCall 75 = .ok (.iconst 0, 1) := by decide +kernel
theorem dX5_addCall_76 : decode cX5_addCall 76 = .ok (.iload_n 1, 1) := by decide +kernel
theorem dX5_addCall_77 : decode cX5_addCall 77 = .ok (.iastore, 1) := by decide +kernel
theorem dX5_addCall_78 : decode cX5_addCall 78 = .ok (.dup, 1) := by decide +kernel
theorem dX5_addCall_79 : decode cX5_addCall 79 = .ok (.iconst 1, 1) := by decide +kernel
theorem dX5_addCall_80 : decode cX5_addCall 80 = .ok (.iload_n 2, 1) := by decide +kernel
theorem dX5_addCall_81 : decode cX5_addCall 81 = .ok (.iastore, 1) := by decide +kernel
theorem dX5_addCall_82 : decode cX5_addCall 82 = .ok (.dup, 1) := by decide +kernel
theorem dX5_addCall_83 : decode cX5_addCall 83 = .ok (.iconst 2, 1) := by decide +kernel
theorem dX5_addCall_84 : decode cX5_addCall 84 = .ok (.iload_n 3, 1) := by decide +kernel
theorem dX5_addCall_85 : decode cX5_addCall 85 = .ok (.iastore, 1) := by decide +kernel
theorem dX5_addCall_86 : decode cX5_addCall 86 = .ok (.dup, 1) := by decide +kernel
theorem dX5_addCall_87 : decode cX5_addCall 87 = .ok (.iconst 3, 1) := by decide +kernel
theorem dX5_addCall_88 : decode cX5_addCall 88 = .ok (.iload 4, 2) := by decide +kernel
theorem dX5_addCall_90 : decode cX5_addCall 90 = .ok (.iastore, 1) := by decide +kernel
theorem dX5_addCall_91 : decode cX5_addCall 91 = .ok (.astore 5, 2) := by decide +kernel
theorem dX5_addCall_93 : decode cX5_addCall 93 = .ok (.aload 5, 2) := by decide +kernel
theorem dX5_addCall_95 : decode cX5_addCall 95 = .ok (.iconst 0, 1) := by decide +kernel
theorem dX5_addCall_96 : decode cX5_addCall 96 = .ok (.aload_n 0, 1) := by decide +kernel
theorem dX5_addCall_97 : decode cX5_addCall 97 = .ok (.getfield 22, 3) := by decide +kernel
theorem dX5_addCall_100 : decode cX5_addCall 100 = .ok (.iconst 4, 1) := by decide +kernel
theorem dX5_addCall_101 : decode cX5_addCall 101 = .ok (.aload_n 0, 1) := by decide +kernel
theorem dX5_addCall_102 : decode cX5_addCall 102 = .ok (.getfield 69, 3) := by decide +kernel
theorem dX5_addCall_105 : decode cX5_addCall 105 = .ok (.imul, 1) := by decide +kernel
theorem dX5_addCall_106 : decode cX5_addCall 106 = .ok (.iconst 4, 1) := by decide +kernel
theorem dX5_addCall_107 : decode cX5_addCall 107 = .ok (.invokestatic 76, 3) := by decide +kernel
theorem dX5_addCall_110 : decode cX5_addCall 110 = .ok (.aload_n 0, 1) := by decide +kernel
theorem dX5_addCall_111 : decode cX5_addCall 111 = .ok (.getfield 69, 3) := by decide +kernel
theorem dX5_addCall_114 : decode cX5_addCall 114 = .ok (.istore 6, 2) := by decide +kernel
theorem dX5_addCall_116 : decode cX5_addCall 116 = .ok (.iload 6, 2) := by decide +kernel
theorem dX5_addCall_118 : decode cX5_addCall 118 = .ok (.ifCond .le 47, 3) := by decide +kernel
theorem dX5_addCall_121 : decode cX5_addCall 121 = .ok (.aload_n 0, 1) := by decide +kernel
theorem dX5_addCall_122 : decode cX5_addCall 122 = .ok (.getfield 22, 3) := by decide +kernel
theorem dX5_addCall_125 : decode cX5_addCall 125 = .ok (.iconst 4, 1) := by decide +kernel
theorem dX5_addCall_126 : decode cX5_addCall 126 = .ok (.aload_n 0, 1) := by decide +kernel
theorem dX5_addCall_127 : decode cX5_addCall 127 = .ok (.getfield 32, 3) := by decide +kernel
theorem dX5_addCall_130 : decode cX5_addCall 130 = .ok (.iload 6, 2) := by decide +kernel
theorem dX5_addCall_132 : decode cX5_addCall 132 = .ok (.iconst 1, 1) := by decide +kernel
theorem dX5_addCall_133 : decode cX5_addCall 133 = .ok (.isub, 1) := by decide +kernel
theorem dX5_addCall_134 : decode cX5_addCall 134 = .ok (.iaload, 1) := by decide +kernel
theorem dX5_addCall_135 : decode cX5_addCall 135 = .ok (.imul, 1) := by decide +kernel
theorem dX5_addCall_136 : decode cX5_addCall 136 = .ok (.iconst 1, 1) := by decide +kernel
theorem dX5_addCall_137 : decode cX5_addCall 137 = .ok (.iadd, 1) := by decide +kernel
theorem dX5_addCall_138 : decode cX5_addCall 138 = .ok (.iaload, 1) := by decide +kernel
theorem dX5_addCall_139 : decode cX5_addCall 139 = .ok (.iload_n 2, 1) := by decide +kernel
theorem dX5_addCall_140 : decode cX5_addCall 140 = .ok (.if_icmp .le 25, 3) := by decide +kernel
theorem dX5_addCall_143 : decode cX5_addCall 143 = .ok (.aload_n 0, 1) := by decide +kernel
theorem dX5_addCall_144 : decode cX5_addCall 144 = .ok (.getfield 32, 3) := by decide +kernel
theorem dX5_addCall_147 : decode cX5_addCall 147 = .ok (.iload 6, 2) := by decide +kernel
theorem dX5_addCall_149 : decode cX5_addCall 149 = .ok (.aload_n 0, 1) := by decide +kernel
theorem dX5_addCall_150 : decode cX5_addCall 150 = .ok (.getfield 32, 3) := by decide +kernel
theorem dX5_addCall_153 : decode cX5_addCall 153 = .ok (.iload 6, 2) := by decide +kernel
theorem dX5_addCall_155 : decode cX5_addCall 155 = .ok (.iconst 1, 1) := by decide +kernel
theorem dX5_addCall_156 : decode cX5_addCall 156 = .ok (.isub, 1) := by decide +kernel
theorem dX5_addCall_157 : decode cX5_addCall 157 = .ok (.iaload, 1) := by decide +kernel
theorem dX5_addCall_158 : decode cX5_addCall 158 = .ok (.iastore, 1) := by decide +kernel
theorem dX5_addCall_159 : decode cX5_addCall 159 = .ok (.iinc 6 (-1), 3) := by decide +kernel
theorem dX5_addCall_162 : decode cX5_addCall 162 = .ok (.goto (-46), 3) := by decide +kernel
theorem dX5_addCall_165 : decode cX5_addCall 165 = .ok (.aload_n 0, 1) := by decide +kernel
theorem dX5_addCall_166 : decode cX5_addCall 166 = .ok (.getfield 32, 3) := by decide +kernel
theorem dX5_addCall_169 : decode cX5_addCall 169 = .ok (.iload 6, 2) := by decide +kernel
theorem dX5_addCall_171 : decode cX5_addCall 171 = .ok (.aload_n 0, 1) := by decide +kernel
theorem dX5_addCall_172 : decode cX5_addCall 172 = .ok (.getfield 69, 3) := by decide +kernel
theorem dX5_addCall_175 : decode cX5_addCall 175 = .ok (.iastore, 1) := by decide +kernel
theorem dX5_addCall_176 : decode cX5_addCall 176 = .ok (.aload_n 0, 1) := by decide +kernel
theorem dX5_addCall_177 : decode cX5_addCall 177 = .ok (.dup, 1) := by decide +kernel
theorem dX5_addCall_178 : decode cX5_addCall 178 = .ok (.getfield 69, 3) := by decide +kernel
theorem dX5_addCall_181 : decode cX5_addCall 181 = .ok (.iconst 1, 1) := by decide +kernel
theorem dX5_addCall_182 : decode cX5_addCall 182 = .ok (.iadd, 1) := by decide +kernel
theorem dX5_addCall_183 : decode cX5_addCall 183 = .ok (.putfield 69, 3) := by decide +kernel
theorem dX5_addCall_186 : decode cX5_addCall 186 = .ok (.aload_n 0, 1) := by decide +kernel
theorem dX5_addCall_187 : decode cX5_addCall 187 = .ok (.getfield 69, 3) := by decide +kernel
theorem dX5_addCall_190 : decode cX5_addCall 190 = .ok (.iconst 1, 1) := by decide +kernel
theorem dX5_addCall_191 : decode cX5_addCall 191 = .ok (.isub, 1) := by decide +kernel
theorem dX5_addCall_192 : decode cX5_addCall 192 = .ok (.ireturn, 1) := by decide +kernel
theorem dX5_correct_0 : decode cX5_correct 0 = .ok (.aload_n 0, 1) := by decide +kernel
theorem dX5_correct_1 : decode cX5_correct 1 = .ok (.iconst 0, 1) := by decide +kernel
theorem dX5_correct_2 : decode cX5_correct 2 = .ok (.putfield 53, 3) := by decide +kernel
theorem dX5_correct_5 : decode cX5_correct 5 = .ok (.aload_n 0, 1) := by decide +kernel
theorem dX5_correct_6 : decode cX5_correct 6 = .ok (.iload_n 1, 1) := by decide +kernel
theorem dX5_correct_7 : decode cX5_correct 7 = .ok (.invokevirtual 95, 3) := by decide +kernel
theorem dX5_correct_10 : decode cX5_correct 10 = .ok (.ifCond .ne 9, 3) := by decide +kernel
theorem dX5_correct_13 : decode cX5_correct 13 = .ok (.aload_n 0, 1) := by decide +kernel
theorem dX5_correct_14 : decode cX5_correct 14 = .ok (.iconst 1, 1) := by decide +kernel
theorem dX5_correct_15 : decode cX5_correct 15 = .ok (.invokevirtual 72, 3) := by decide +kernel
theorem dX5_correct_18 : decode cX5_correct 18 = .ok (.ireturn, 1) := by decide +kernel
theorem dX5_correct_19 : decode cX5_correct 19 = .ok (.iload_n 2, 1) := by decide +kernel
theorem dX5_correct_20 : decode cX5_correct 20 = .ok (.iconst 0, 1) := by decide +kernel
theorem dX5_correct_21 : decode cX5_correct 21 = .ok (.sipush 7200, 3) := by decide +kernel
theorem dX5_correct_24 : decode cX5_correct 24 = .ok (.invokestatic 59, 3) := by decide +kernel
theorem dX5_correct_27 : decode cX5_correct 27 = .ok (.ifCond .ne 9, 3) := by decide +kernel
theorem dX5_correct_30 : decode cX5_correct 30 = .ok (.aload_n 0, 1) := by decide +kernel
theorem dX5_correct_31 : decode cX5_correct 31 = .ok (.iconst 2, 1) := by decide +kernel
theorem dX5_correct_32 : decode cX5_correct 32 = .ok (.invokevirtual 72, 3) := by decide +kernel
theorem dX5_correct_35 : decode cX5_correct 35 = .ok (.ireturn, 1) := by decide +kernel
theorem dX5_correct_36 : decode cX5_correct 36 = .ok (.aload_n 0, 1) := by decide +kernel
theorem dX5_correct_37 : decode cX5_correct 37 = .ok (.getfield 22, 3) := by decide +kernel
theorem dX5_correct_40 : decode cX5_correct 40 = .ok (.iconst 4, 1) := by decide +kernel
theorem dX5_correct_41 : decode cX5_correct 41 = .ok (.iload_n 1, 1) := by decide +kernel
theorem dX5_correct_42 : decode cX5_correct 42 = .ok (.imul, 1) := by decide +kernel
theorem dX5_correct_43 : decode cX5_correct 43 = .ok (.iconst 2, 1) := by decide +kernel
theorem dX5_correct_44 : decode cX5_correct 44 = .ok (.iadd, 1) := by decide +kernel
theorem dX5_correct_45 : decode cX5_correct 45 = .ok (.iaload, 1) := by decide +kernel
theorem dX5_correct_46 : decode cX5_correct 46 = .ok (.istore_n 3, 1) := by decide +kernel
theorem dX5_correct_47 : decode cX5_correct 47 = .ok (.aload_n 0, 1) := by decide +kernel
theorem dX5_correct_48 : decode cX5_correct 48 = .ok (.getfield 22, 3) := by decide +kernel
theorem dX5_correct_51 : decode cX5_correct 51 = .ok (.iconst 4, 1) := by decide +kernel
theorem dX5_correct_52 : decode cX5_correct 52 = .ok (.iload_n 1, 1) := by decide +kernel
theorem dX5_correct_53 : decode cX5_correct 53 = .ok (.imul, 1) := by decide +kernel
theorem dX5_correct_54 : decode cX5_correct 54 = .ok (.iconst 2, 1) := by decide +kernel
theorem dX5_correct_55 : decode cX5_correct 55 = .ok (.iadd, 1) := by decide +kernel
theorem dX5_correct_56 : decode cX5_correct 56 = .ok (.iload_n 2, 1) := by decide +kernel
theorem dX5_correct_57 : decode cX5_correct 57 = .ok (.iastore, 1) := by decide +kernel
theorem dX5_correct_58 : decode cX5_correct 58 = .ok (.iload_n 3, 1) := by decide +kernel
theorem dX5_correct_59 : decode cX5_correct 59 = .ok (.ireturn, 1) := by decide +kernel
theorem dX5_callCount_0 : decode cX5_callCount 0 = .ok (.aload_n 0, 1) := by decide +kernel
theorem dX5_callCount_1 : decode cX5_callCount 1 = .ok (.iconst 0, 1) := by decide +kernel
theorem dX5_callCount_2 : decode cX5_callCount 2 = .ok (.putfield 53, 3) := by decide +kernel
theorem dX5_callCount_5 : decode cX5_callCount 5 = .ok (.aload_n 0, 1) := by decide +kernel
theorem dX5_callCount_6 : decode cX5_callCount 6 = .ok (.getfield 69, 3) := by decide +kernel
theorem dX5_callCount_9 : decode cX5_callCount 9 = .ok (.ireturn, 1) := by decide +kernel
theorem dX5_callAt_0 : decode cX5_callAt 0 = .ok (.aload_n 0, 1) := by decide +kernel
theorem dX5_callAt_1 : decode cX5_callAt 1 = .ok (.iconst 0, 1) := by decide +kernel
theorem dX5_callAt_2 : decode cX5_callAt 2 = .ok (.putfield 53, 3) := by decide +kernel
theorem dX5_callAt_5 : decode cX5_callAt 5 = .ok (.iload_n 1, 1) := by decide +kernel
theorem dX5_callAt_6 : decode cX5_callAt 6 = .ok (.iconst 0, 1) := by decide +kernel
theorem dX5_callAt_7 : decode cX5_callAt 7 = .ok (.aload_n 0, 1) := by decide +kernel
theorem dX5_callAt_8 : decode cX5_callAt 8 = .ok (.getfield 69, 3) := by decide +kernel
theorem dX5_callAt_11 : decode cX5_callAt 11 = .ok (.iconst 1, 1) := by decide +kernel
theorem dX5_callAt_12 : decode cX5_callAt 12 = .ok (.isub, 1) := by decide +kernel
theorem dX5_callAt_13 : decode cX5_callAt 13 = .ok (.invokestatic 59, 3) := by decide +kernel
theorem dX5_callAt_16 : decode cX5_callAt 16 = .ok (.ifCond .eq 12, 3) := by decide +kernel
theorem dX5_callAt_19 : decode cX5_callAt 19 = .ok (.aload_n 0, 1) := by decide +kernel
theorem dX5_callAt_20 : decode cX5_callAt 20 = .ok (.getfield 32, 3) := by decide +kernel
theorem dX5_callAt_23 : decode cX5_callAt 23 = .ok (.iload_n 1, 1) := by decide +kernel
theorem dX5_callAt_24 : decode cX5_callAt 24 = .ok (.iaload, 1) := by decide +kernel
theorem dX5_callAt_25 : decode cX5_callAt 25 = .ok (.goto 8, 3) := by decide +kernel
theorem dX5_callAt_28 : decode cX5_callAt 28 = .ok (.aload_n 0, 1) := by decide +kernel
theorem dX5_callAt_29 : decode cX5_callAt 29 = .ok (.iconst 1, 1) := by decide +kernel
theorem dX5_callAt_30 : decode cX5_callAt 30 = .ok (.invokevirtual 72, 3) := by decide +kernel
theorem dX5_callAt_33 : decode cX5_callAt 33 = .ok (.ireturn, 1) := by decide +kernel
theorem dX5_dayOf_0 : decode cX5_dayOf 0 = .ok (.iload_n 0, 1) := by decide +kernel
theorem dX5_dayOf_1 : decode cX5_dayOf 1 = .ok (.sipush 1440, 3) := by decide +kernel
theorem dX5_dayOf_4 : decode cX5_dayOf 4 = .ok (.idiv, 1) := by decide +kernel
theorem dX5_dayOf_5 : decode cX5_dayOf 5 = .ok (.ireturn, 1) := by decide +kernel
theorem dX5_isInPeak_0 : decode cX5_isInPeak 0 = .ok (.aload_n 0, 1) := by decide +kernel
theorem dX5_isInPeak_1 : decode cX5_isInPeak 1 = .ok (.getfield 22, 3) := by decide +kernel
theorem dX5_isInPeak_4 : decode cX5_isInPeak 4 = .ok (.iconst 4, 1) := by decide +kernel
theorem dX5_isInPeak_5 : decode cX5_isInPeak 5 = .ok (.iload_n 1, 1) := by decide +kernel
theorem dX5_isInPeak_6 : decode cX5_isInPeak 6 = .ok (.imul, 1) := by decide +kernel
theorem dX5_isInPeak_7 : decode cX5_isInPeak 7 = .ok (.iconst 1, 1) := by decide +kernel
theorem dX5_isInPeak_8 : decode cX5_isInPeak 8 = .ok (.iadd, 1) := by decide +kernel
theorem dX5_isInPeak_9 : decode cX5_isInPeak 9 = .ok (.iaload, 1) := by decide +kernel
theorem dX5_isInPeak_10 : decode cX5_isInPeak 10 = .ok (.istore_n 2, 1) := by decide +kernel
theorem dX5_isInPeak_11 : decode cX5_isInPeak 11 = .ok (.iload_n 2, 1) := by decide +kernel
theorem dX5_isInPeak_12 : decode cX5_isInPeak 12 = .ok (.invokestatic 98, 3) := by decide +kernel
theorem dX5_isInPeak_15 : decode cX5_isInPeak 15 = .ok (.bipush 7, 2) := by decide +kernel
theorem dX5_isInPeak_17 : decode cX5_isInPeak 17 = .ok (.irem, 1) := by decide +kernel
theorem dX5_isInPeak_18 : decode cX5_isInPeak 18 = .ok (.iconst 5, 1) := by decide +kernel
theorem dX5_isInPeak_19 : decode cX5_isInPeak 19 = .ok (.if_icmp .ge 26, 3) := by decide +kernel
theorem dX5_isInPeak_22 : decode cX5_isInPeak 22 = .ok (.iload_n 2, 1) := by decide +kernel
theorem dX5_isInPeak_23 : decode cX5_isInPeak 23 = .ok (.sipush 1440, 3) := by decide +kernel
theorem dX5_isInPeak_26 : decode cX5_isInPeak 26 = .ok (.irem, 1) := by decide +kernel
theorem dX5_isInPeak_27 : decode cX5_isInPeak 27 = .ok (.aload_n 0, 1) := by decide +kernel
theorem dX5_isInPeak_28 : decode cX5_isInPeak 28 = .ok (.getfield 25, 3) := by decide +kernel
theorem dX5_isInPeak_31 : decode cX5_isInPeak 31 = .ok (.aload_n 0, 1) := by decide +kernel
theorem dX5_isInPeak_32 : decode cX5_isInPeak 32 = .ok (.getfield 29, 3) := by decide +kernel
theorem dX5_isInPeak_35 : decode cX5_isInPeak 35 = .ok (.invokestatic 59, 3) := by decide +kernel
theorem dX5_isInPeak_38 : decode cX5_isInPeak 38 = .ok (.ifCond .eq 7, 3) := by decide +kernel
theorem dX5_isInPeak_41 : decode cX5_isInPeak 41 = .ok (.iconst 1, 1) := by decide +kernel
theorem dX5_isInPeak_42 : decode cX5_isInPeak 42 = .ok (.goto 4, 3) := by decide +kernel
theorem dX5_isInPeak_45 : decode cX5_isInPeak 45 = .ok (.iconst 0, 1) := by decide +kernel
theorem dX5_isInPeak_46 : decode cX5_isInPeak 46 = .ok (.ireturn, 1) := by decide +kernel
theorem dX5_isPeak_0 : decode cX5_isPeak 0 = .ok (.aload_n 0, 1) := by decide +kernel
theorem dX5_isPeak_1 : decode cX5_isPeak 1 = .ok (.aload_n 0, 1) := by decide +kernel
theorem dX5_isPeak_2 : decode cX5_isPeak 2 = .ok (.iload_n 1, 1) := by decide +kernel
theorem dX5_isPeak_3 : decode cX5_isPeak 3 = .ok (.invokevirtual 95, 3) := by decide +kernel
theorem dX5_isPeak_6 : decode cX5_isPeak 6 = .ok (.ifCond .eq 7, 3) := by decide +kernel
theorem dX5_isPeak_9 : decode cX5_isPeak 9 = .ok (.iconst 0, 1) := by decide +kernel
theorem dX5_isPeak_10 : decode cX5_isPeak 10 = .ok (.goto 4, 3) := by decide +kernel
theorem dX5_isPeak_13 : decode cX5_isPeak 13 = .ok (.iconst 1, 1) := by decide +kernel
theorem dX5_isPeak_14 : decode cX5_isPeak 14 = .ok (.putfield 53, 3) := by decide +kernel
theorem dX5_isPeak_17 : decode cX5_isPeak 17 = .ok (.aload_n 0, 1) := by decide +kernel
theorem dX5_isPeak_18 : decode cX5_isPeak 18 = .ok (.getfield 53, 3) := by decide +kernel
theorem dX5_isPeak_21 : decode cX5_isPeak 21 = .ok (.ifCond .ne 15, 3) := by decide +kernel
theorem dX5_isPeak_24 : decode cX5_isPeak 24 = .ok (.aload_n 0, 1) := by decide +kernel
theorem dX5_isPeak_25 : decode cX5_isPeak 25 = .ok (.iload_n 1, 1) := by decide +kernel
theorem dX5_isPeak_26 : decode cX5_isPeak 26 = .ok (.invokevirtual 101, 3) := by decide +kernel
theorem dX5_isPeak_29 : decode cX5_isPeak 29 = .ok (.ifCond .eq 7, 3) := by decide +kernel
theorem dX5_isPeak_32 : decode cX5_isPeak 32 = .ok (.iconst 1, 1) := by decide +kernel
theorem dX5_isPeak_33 : decode cX5_isPeak 33 = .ok (.goto 4, 3) := by decide +kernel
theorem dX5_isPeak_36 : decode cX5_isPeak 36 = .ok (.iconst 0, 1) := by decide +kernel
theorem dX5_isPeak_37 : decode cX5_isPeak 37 = .ok (.ireturn, 1) := by decide +kernel
theorem dX5_earlier_0 : decode cX5_earlier 0 = .ok (.aload_n 0, 1) := by decide +kernel
theorem dX5_earlier_1 : decode cX5_earlier 1 = .ok (.getfield 32, 3) := by decide +kernel
theorem dX5_earlier_4 : decode cX5_earlier 4 = .ok (.iload_n 1, 1) := by decide +kernel
theorem dX5_earlier_5 : decode cX5_earlier 5 = .ok (.iaload, 1) := by decide +kernel
theorem dX5_earlier_6 : decode cX5_earlier 6 = .ok (.istore_n 2, 1) := by decide +kernel
theorem dX5_earlier_7 : decode cX5_earlier 7 = .ok (.iconst (-1), 1) := by decide +kernel
theorem dX5_earlier_8 : decode cX5_earlier 8 = .ok (.istore_n 3, 1) := by decide +kernel
theorem dX5_earlier_9 : decode cX5_earlier 9 = .ok (.iconst 0, 1) := by decide +kernel
theorem dX5_earlier_10 : decode cX5_earlier 10 = .ok (.istore 4, 2) := by decide +kernel
theorem dX5_earlier_12 : decode cX5_earlier 12 = .ok (.iload 4, 2) := by decide +kernel
theorem dX5_earlier_14 : decode cX5_earlier 14 = .ok (.iload_n 1, 1) := by decide +kernel
theorem dX5_earlier_15 : decode cX5_earlier 15 = .ok (.if_icmp .ge 135, 3) := by decide +kernel
theorem dX5_earlier_18 : decode cX5_earlier 18 = .ok (.aload_n 0, 1) := by decide +kernel
theorem dX5_earlier_19 : decode cX5_earlier 19 = .ok (.getfield 32, 3) := by decide +kernel
theorem dX5_earlier_22 : decode cX5_earlier 22 = .ok (.iload 4, 2) := by decide +kernel
theorem dX5_earlier_24 : decode cX5_earlier 24 = .ok (.iaload, 1) := by decide +kernel
theorem dX5_earlier_25 : decode cX5_earlier 25 = .ok (.istore 5, 2) := by decide +kernel
theorem dX5_earlier_27 : decode cX5_earlier 27 = .ok (.aload_n 0, 1) := by decide +kernel
theorem dX5_earlier_28 : decode cX5_earlier 28 = .ok (.getfield 22, 3) := by decide +kernel
theorem dX5_earlier_31 : decode cX5_earlier 31 = .ok (.iconst 4, 1) := by decide +kernel
theorem dX5_earlier_32 : decode cX5_earlier 32 = .ok (.iload 5, 2) := by decide +kernel
theorem dX5_earlier_34 : decode cX5_earlier 34 = .ok (.imul, 1) := by decide +kernel
theorem dX5_earlier_35 : decode cX5_earlier 35 = .ok (.iaload, 1) := by decide +kernel
theorem dX5_earlier_36 : decode cX5_earlier 36 = .ok (.aload_n 0, 1) := by decide +kernel
theorem dX5_earlier_37 : decode cX5_earlier 37 = .ok (.getfield 22, 3) := by decide +kernel
theorem dX5_earlier_40 : decode cX5_earlier 40 = .ok (.iconst 4, 1) := by decide +kernel
theorem dX5_earlier_41 : decode cX5_earlier 41 = .ok (.iload_n 2, 1) := by decide +kernel
theorem dX5_earlier_42 : decode cX5_earlier 42 = .ok (.imul, 1) := by decide +kernel
theorem dX5_earlier_43 : decode cX5_earlier 43 = .ok (.iaload, 1) := by decide +kernel
theorem dX5_earlier_44 : decode cX5_earlier 44 = .ok (.if_icmp .ne 61, 3) := by decide +kernel
theorem dX5_earlier_47 : decode cX5_earlier 47 = .ok (.aload_n 0, 1) := by decide +kernel
theorem dX5_earlier_48 : decode cX5_earlier 48 = .ok (.getfield 22, 3) := by decide +kernel
theorem dX5_earlier_51 : decode cX5_earlier 51 = .ok (.iconst 4, 1) := by decide +kernel
theorem dX5_earlier_52 : decode cX5_earlier 52 = .ok (.iload 5, 2) := by decide +kernel
theorem dX5_earlier_54 : decode cX5_earlier 54 = .ok (.imul, 1) := by decide +kernel
theorem dX5_earlier_55 : decode cX5_earlier 55 = .ok (.iconst 3, 1) := by decide +kernel
theorem dX5_earlier_56 : decode cX5_earlier 56 = .ok (.iadd, 1) := by decide +kernel
theorem dX5_earlier_57 : decode cX5_earlier 57 = .ok (.iaload, 1) := by decide +kernel
theorem dX5_earlier_58 : decode cX5_earlier 58 = .ok (.aload_n 0, 1) := by decide +kernel
theorem dX5_earlier_59 : decode cX5_earlier 59 = .ok (.getfield 22, 3) := by decide +kernel
theorem dX5_earlier_62 : decode cX5_earlier 62 = .ok (.iconst 4, 1) := by decide +kernel
theorem dX5_earlier_63 : decode cX5_earlier 63 = .ok (.iload_n 2, 1) := by decide +kernel
theorem dX5_earlier_64 : decode cX5_earlier 64 = .ok (.imul, 1) := by decide +kernel
theorem dX5_earlier_65 : decode cX5_earlier 65 = .ok (.iconst 3, 1) := by decide +kernel
theorem dX5_earlier_66 : decode cX5_earlier 66 = .ok (.iadd, 1) := by decide +kernel
theorem dX5_earlier_67 : decode cX5_earlier 67 = .ok (.iaload, 1) := by decide +kernel
theorem dX5_earlier_68 : decode cX5_earlier 68 = .ok (.if_icmp .ne 37, 3) := by decide +kernel
theorem dX5_earlier_71 : decode cX5_earlier 71 = .ok (.aload_n 0, 1) := by decide +kernel
theorem dX5_earlier_72 : decode cX5_earlier 72 = .ok (.getfield 22, 3) := by decide +kernel
theorem dX5_earlier_75 : decode cX5_earlier 75 = .ok (.iconst 4, 1) := by decide +kernel
theorem dX5_earlier_76 : decode cX5_earlier 76 = .ok (.iload 5, 2) := by decide +kernel
theorem dX5_earlier_78 : decode cX5_earlier 78 = .ok (.imul, 1) := by decide +kernel
theorem dX5_earlier_79 : decode cX5_earlier 79 = .ok (.iconst 1, 1) := by decide +kernel
theorem dX5_earlier_80 : decode cX5_earlier 80 = .ok (.iadd, 1) := by decide +kernel
theorem dX5_earlier_81 : decode cX5_earlier 81 = .ok (.iaload, 1) := by decide +kernel
theorem dX5_earlier_82 : decode cX5_earlier 82 = .ok (.invokestatic 98, 3) := by decide +kernel
theorem dX5_earlier_85 : decode cX5_earlier 85 = .ok (.aload_n 0, 1) := by decide +kernel
theorem dX5_earlier_86 : decode cX5_earlier 86 = .ok (.getfield 22, 3) := by decide +kernel
theorem dX5_earlier_89 : decode cX5_earlier 89 = .ok (.iconst 4, 1) := by decide +kernel
theorem dX5_earlier_90 : decode cX5_earlier 90 = .ok (.iload_n 2, 1) := by decide +kernel
theorem dX5_earlier_91 : decode cX5_earlier 91 = .ok (.imul, 1) := by decide +kernel
theorem dX5_earlier_92 : decode cX5_earlier 92 = .ok (.iconst 1, 1) := by decide +kernel
theorem dX5_earlier_93 : decode cX5_earlier 93 = .ok (.iadd, 1) := by decide +kernel
theorem dX5_earlier_94 : decode cX5_earlier 94 = .ok (.iaload, 1) := by decide +kernel
theorem dX5_earlier_95 : decode cX5_earlier 95 = .ok (.invokestatic 98, 3) := by decide +kernel
theorem dX5_earlier_98 : decode cX5_earlier 98 = .ok (.if_icmp .ne 7, 3) := by decide +kernel
theorem dX5_earlier_101 : decode cX5_earlier 101 = .ok (.iconst 1, 1) := by decide +kernel
theorem dX5_earlier_102 : decode cX5_earlier 102 = .ok (.goto 4, 3) := by decide +kernel
theorem dX5_earlier_105 : decode cX5_earlier 105 = .ok (.iconst 0, 1) := by decide +kernel
theorem dX5_earlier_106 : decode cX5_earlier 106 = .ok (.istore 6, 2) := by decide +kernel
theorem dX5_earlier_108 : decode cX5_earlier 108 = .ok (.iload 6, 2) := by decide +kernel
theorem dX5_earlier_110 : decode cX5_earlier 110 = .ok (.ifCond .eq 34, 3) := by decide +kernel
theorem dX5_earlier_113 : decode cX5_earlier 113 = .ok (.aload_n 0, 1) := by decide +kernel
theorem dX5_earlier_114 : decode cX5_earlier 114 = .ok (.getfield 22, 3) := by decide +kernel
theorem dX5_earlier_117 : decode cX5_earlier 117 = .ok (.iconst 4, 1) := by decide +kernel
theorem dX5_earlier_118 : decode cX5_earlier 118 = .ok (.iload 5, 2) := by decide +kernel
theorem dX5_earlier_120 : decode cX5_earlier 120 = .ok (.imul, 1) := by decide +kernel
theorem dX5_earlier_121 : decode cX5_earlier 121 = .ok (.iconst 2, 1) := by decide +kernel
theorem dX5_earlier_122 : decode cX5_earlier 122 = .ok (.iadd, 1) := by decide +kernel
theorem dX5_earlier_123 : decode cX5_earlier 123 = .ok (.iaload, 1) := by decide +kernel
theorem dX5_earlier_124 : decode cX5_earlier 124 = .ok (.ifCond .ne 6, 3) := by decide +kernel
theorem dX5_earlier_127 : decode cX5_earlier 127 = .ok (.goto 17, 3) := by decide +kernel
theorem dX5_earlier_130 : decode cX5_earlier 130 = .ok (.iload_n 3, 1) := by decide +kernel
theorem dX5_earlier_131 : decode cX5_earlier 131 = .ok (.iconst 0, 1) := by decide +kernel
theorem dX5_earlier_132 : decode cX5_earlier 132 = .ok (.invokestatic 104, 3) := by decide +kernel
theorem dX5_earlier_135 : decode cX5_earlier 135 = .ok (.aload_n 0, 1) := by decide +kernel
theorem dX5_earlier_136 : decode cX5_earlier 136 = .ok (.getfield 35, 3) := by decide +kernel
theorem dX5_earlier_139 : decode cX5_earlier 139 = .ok (.iload 5, 2) := by decide +kernel
theorem dX5_earlier_141 : decode cX5_earlier 141 = .ok (.iaload, 1) := by decide +kernel
theorem dX5_earlier_142 : decode cX5_earlier 142 = .ok (.iadd, 1) := by decide +kernel
theorem dX5_earlier_143 : decode cX5_earlier 143 = .ok (.istore_n 3, 1) := by decide +kernel
theorem dX5_earlier_144 : decode cX5_earlier 144 = .ok (.iinc 4 1, 3) := by decide +kernel
theorem dX5_earlier_147 : decode cX5_earlier 147 = .ok (.goto (-135), 3) := by decide +kernel
theorem dX5_earlier_150 : decode cX5_earlier 150 = .ok (.iload_n 3, 1) := by decide +kernel
theorem dX5_earlier_151 : decode cX5_earlier 151 = .ok (.ireturn, 1) := by decide +kernel
theorem dX5_rate_0 : decode cX5_rate 0 = .ok (.aload_n 0, 1) := by decide +kernel
theorem dX5_rate_1 : decode cX5_rate 1 = .ok (.getfield 32, 3) := by decide +kernel
theorem dX5_rate_4 : decode cX5_rate 4 = .ok (.iload_n 1, 1) := by decide +kernel
theorem dX5_rate_5 : decode cX5_rate 5 = .ok (.iaload, 1) := by decide +kernel
theorem dX5_rate_6 : decode cX5_rate 6 = .ok (.istore_n 2, 1) := by decide +kernel
theorem dX5_rate_7 : decode cX5_rate 7 = .ok (.aload_n 0, 1) := by decide +kernel
theorem dX5_rate_8 : decode cX5_rate 8 = .ok (.getfield 22, 3) := by decide +kernel
theorem dX5_rate_11 : decode cX5_rate 11 = .ok (.iconst 4, 1) := by decide +kernel
theorem dX5_rate_12 : decode cX5_rate 12 = .ok (.iload_n 2, 1) := by decide +kernel
theorem dX5_rate_13 : decode cX5_rate 13 = .ok (.imul, 1) := by decide +kernel
theorem dX5_rate_14 : decode cX5_rate 14 = .ok (.iconst 2, 1) := by decide +kernel
theorem dX5_rate_15 : decode cX5_rate 15 = .ok (.iadd, 1) := by decide +kernel
theorem dX5_rate_16 : decode cX5_rate 16 = .ok (.iaload, 1) := by decide +kernel
theorem dX5_rate_17 : decode cX5_rate 17 = .ok (.istore_n 3, 1) := by decide +kernel
theorem dX5_rate_18 : decode cX5_rate 18 = .ok (.aload_n 0, 1) := by decide +kernel
theorem dX5_rate_19 : decode cX5_rate 19 = .ok (.getfield 35, 3) := by decide +kernel
theorem dX5_rate_22 : decode cX5_rate 22 = .ok (.iload_n 2, 1) := by decide +kernel
theorem dX5_rate_23 : decode cX5_rate 23 = .ok (.iconst 0, 1) := by decide +kernel
theorem dX5_rate_24 : decode cX5_rate 24 = .ok (.iastore, 1) := by decide +kernel
theorem dX5_rate_25 : decode cX5_rate 25 = .ok (.aload_n 0, 1) := by decide +kernel
theorem dX5_rate_26 : decode cX5_rate 26 = .ok (.getfield 38, 3) := by decide +kernel
theorem dX5_rate_29 : decode cX5_rate 29 = .ok (.iload_n 2, 1) := by decide +kernel
theorem dX5_rate_30 : decode cX5_rate 30 = .ok (.iconst 0, 1) := by decide +kernel
theorem dX5_rate_31 : decode cX5_rate 31 = .ok (.iastore, 1) := by decide +kernel
theorem dX5_rate_32 : decode cX5_rate 32 = .ok (.aload_n 0, 1) := by decide +kernel
theorem dX5_rate_33 : decode cX5_rate 33 = .ok (.getfield 41, 3) := by decide +kernel
theorem dX5_rate_36 : decode cX5_rate 36 = .ok (.iload_n 2, 1) := by decide +kernel
theorem dX5_rate_37 : decode cX5_rate 37 = .ok (.iconst 0, 1) := by decide +kernel
theorem dX5_rate_38 : decode cX5_rate 38 = .ok (.iastore, 1) := by decide +kernel
theorem dX5_rate_39 : decode cX5_rate 39 = .ok (.aload_n 0, 1) := by decide +kernel
theorem dX5_rate_40 : decode cX5_rate 40 = .ok (.getfield 44, 3) := by decide +kernel
theorem dX5_rate_43 : decode cX5_rate 43 = .ok (.iload_n 2, 1) := by decide +kernel
theorem dX5_rate_44 : decode cX5_rate 44 = .ok (.iconst 0, 1) := by decide +kernel
theorem dX5_rate_45 : decode cX5_rate 45 = .ok (.iastore, 1) := by decide +kernel
theorem dX5_rate_46 : decode cX5_rate 46 = .ok (.iload_n 3, 1) := by decide +kernel
theorem dX5_rate_47 : decode cX5_rate 47 = .ok (.ifCond .ne 4, 3) := by decide +kernel
theorem dX5_rate_50 : decode cX5_rate 50 = .ok (.return_, 1) := by decide +kernel
theorem dX5_rate_51 : decode cX5_rate 51 = .ok (.bipush 9, 2) := by decide +kernel
theorem dX5_rate_53 : decode cX5_rate 53 = .ok (.aload_n 0, 1) := by decide +kernel
theorem dX5_rate_54 : decode cX5_rate 54 = .ok (.getfield 19, 3) := by decide +kernel
theorem dX5_rate_57 : decode cX5_rate 57 = .ok (.aload_n 0, 1) := by decide +kernel
theorem dX5_rate_58 : decode cX5_rate 58 = .ok (.getfield 22, 3) := by decide +kernel
theorem dX5_rate_61 : decode cX5_rate 61 = .ok (.iconst 4, 1) := by decide +kernel
theorem dX5_rate_62 : decode cX5_rate 62 = .ok (.iload_n 2, 1) := by decide +kernel
theorem dX5_rate_63 : decode cX5_rate 63 = .ok (.imul, 1) := by decide +kernel
theorem dX5_rate_64 : decode cX5_rate 64 = .ok (.iaload, 1) := by decide +kernel
theorem dX5_rate_65 : decode cX5_rate 65 = .ok (.iaload, 1) := by decide +kernel
theorem dX5_rate_66 : decode cX5_rate 66 = .ok (.imul, 1) := by decide +kernel
theorem dX5_rate_67 : decode cX5_rate 67 = .ok (.istore 4, 2) := by decide +kernel
theorem dX5_rate_69 : decode cX5_rate 69 = .ok (.aload_n 0, 1) := by decide +kernel
theorem dX5_rate_70 : decode cX5_rate 70 = .ok (.getfield 16, 3) := by decide +kernel
theorem dX5_rate_73 : decode cX5_rate 73 = .ok (.aload_n 0, 1) := by decide +kernel
theorem dX5_rate_74 : decode cX5_rate 74 = .ok (.getfield 22, 3) := by decide +kernel
theorem dX5_rate_77 : decode cX5_rate 77 = .ok (.iconst 4, 1) := by decide +kernel
theorem dX5_rate_78 : decode cX5_rate 78 = .ok (.iload_n 2, 1) := by decide +kernel
theorem dX5_rate_79 : decode cX5_rate 79 = .ok (.imul, 1) := by decide +kernel
theorem dX5_rate_80 : decode cX5_rate 80 = .ok (.iaload, 1) := by decide +kernel
theorem dX5_rate_81 : decode cX5_rate 81 = .ok (.iaload, 1) := by decide +kernel
theorem dX5_rate_82 : decode cX5_rate 82 = .ok (.istore 5, 2) := by decide +kernel
theorem dX5_rate_84 : decode cX5_rate 84 = .ok (.aload_n 0, 1) := by decide +kernel
theorem dX5_rate_85 : decode cX5_rate 85 = .ok (.getfield 22, 3) := by decide +kernel
theorem dX5_rate_88 : decode cX5_rate 88 = .ok (.iconst 4, 1) := by decide +kernel
theorem dX5_rate_89 : decode cX5_rate 89 = .ok (.iload_n 2, 1) := by decide +kernel
theorem dX5_rate_90 : decode cX5_rate 90 = .ok (.imul, 1) := by decide +kernel
theorem dX5_rate_91 : decode cX5_rate 91 = .ok (.iconst 3, 1) := by decide +kernel
theorem dX5_rate_92 : decode cX5_rate 92 = .ok (.iadd, 1) := by decide +kernel
theorem dX5_rate_93 : decode cX5_rate 93 = .ok (.iaload, 1) := by decide +kernel
theorem dX5_rate_94 : decode cX5_rate 94 = .ok (.istore 6, 2) := by decide +kernel
theorem dX5_rate_96 : decode cX5_rate 96 = .ok (.aload_n 0, 1) := by decide +kernel
theorem dX5_rate_97 : decode cX5_rate 97 = .ok (.getfield 9, 3) := by decide +kernel
theorem dX5_rate_100 : decode cX5_rate 100 = .ok (.iload 4, 2) := by decide +kernel
theorem dX5_rate_102 : decode cX5_rate 102 = .ok (.iconst 3, 1) := by decide +kernel
theorem dX5_rate_103 : decode cX5_rate 103 = .ok (.iadd, 1) := by decide +kernel
theorem dX5_rate_104 : decode cX5_rate 104 = .ok (.iaload, 1) := by decide +kernel
theorem dX5_rate_105 : decode cX5_rate 105 = .ok (.istore 7, 2) := by decide +kernel
theorem dX5_rate_107 : decode cX5_rate 107 = .ok (.aload_n 0, 1) := by decide +kernel
theorem dX5_rate_108 : decode cX5_rate 108 = .ok (.getfield 9, 3) := by decide +kernel
theorem dX5_rate_111 : decode cX5_rate 111 = .ok (.iload 4, 2) := by decide +kernel
theorem dX5_rate_113 : decode cX5_rate 113 = .ok (.iconst 4, 1) := by decide +kernel
theorem dX5_rate_114 : decode cX5_rate 114 = .ok (.iadd, 1) := by decide +kernel
theorem dX5_rate_115 : decode cX5_rate 115 = .ok (.iaload, 1) := by decide +kernel
theorem dX5_rate_116 : decode cX5_rate 116 = .ok (.istore 8, 2) := by decide +kernel
theorem dX5_rate_118 : decode cX5_rate 118 = .ok (.aload_n 0, 1) := by decide +kernel
theorem dX5_rate_119 : decode cX5_rate 119 = .ok (.getfield 35, 3) := by decide +kernel
theorem dX5_rate_122 : decode cX5_rate 122 = .ok (.iload_n 2, 1) := by decide +kernel
theorem dX5_rate_123 : decode cX5_rate 123 = .ok (.iload_n 3, 1) := by decide +kernel
theorem dX5_rate_124 : decode cX5_rate 124 = .ok (.iload 7, 2) := by decide +kernel
theorem dX5_rate_126 : decode cX5_rate 126 = .ok (.if_icmp .gt 8, 3) := by decide +kernel
theorem dX5_rate_129 : decode cX5_rate 129 = .ok (.iload 7, 2) := by decide +kernel
theorem dX5_rate_131 : decode cX5_rate 131 = .ok (.goto 21, 3) := by decide +kernel
theorem dX5_rate_134 : decode cX5_rate 134 = .ok (.iload 7, 2) := by decide +kernel
theorem dX5_rate_136 : decode cX5_rate 136 = .ok (.iload_n 3, 1) := by decide +kernel
theorem dX5_rate_137 : decode cX5_rate 137 = .ok (.iload 7, 2) := by decide +kernel
theorem dX5_rate_139 : decode cX5_rate 139 = .ok (.isub, 1) := by decide +kernel
theorem dX5_rate_140 : decode cX5_rate 140 = .ok (.iload 8, 2) := by decide +kernel
theorem dX5_rate_142 : decode cX5_rate 142 = .ok (.iadd, 1) := by decide +kernel
theorem dX5_rate_143 : decode cX5_rate 143 = .ok (.iconst 1, 1) := by decide +kernel
theorem dX5_rate_144 : decode cX5_rate 144 = .ok (.isub, 1) := by decide +kernel
theorem dX5_rate_145 : decode cX5_rate 145 = .ok (.iload 8, 2) := by decide +kernel
theorem dX5_rate_147 : decode cX5_rate 147 = .ok (.idiv, 1) := by decide +kernel
theorem dX5_rate_148 : decode cX5_rate 148 = .ok (.iload 8, 2) := by decide +kernel
theorem dX5_rate_150 : decode cX5_rate 150 = .ok (.imul, 1) := by decide +kernel
theorem dX5_rate_151 : decode cX5_rate 151 = .ok (.iadd, 1) := by decide +kernel
theorem dX5_rate_152 : decode cX5_rate 152 = .ok (.iastore, 1) := by decide +kernel
theorem dX5_rate_153 : decode cX5_rate 153 = .ok (.aload_n 0, 1) := by decide +kernel
theorem dX5_rate_154 : decode cX5_rate 154 = .ok (.iload_n 2, 1) := by decide +kernel
theorem dX5_rate_155 : decode cX5_rate 155 = .ok (.invokevirtual 101, 3) := by decide +kernel
theorem dX5_rate_158 : decode cX5_rate 158 = .ok (.ifCond .eq 15, 3) := by decide +kernel
theorem dX5_rate_161 : decode cX5_rate 161 = .ok (.aload_n 0, 1) := by decide +kernel
theorem dX5_rate_162 : decode cX5_rate 162 = .ok (.getfield 9, 3) := by decide +kernel
theorem dX5_rate_165 : decode cX5_rate 165 = .ok (.iload 4, 2) := by decide +kernel
theorem dX5_rate_167 : decode cX5_rate 167 = .ok (.iconst 1, 1) := by decide +kernel
theorem dX5_rate_168 : decode cX5_rate 168 = .ok (.iadd, 1) := by decide +kernel
theorem dX5_rate_169 : decode cX5_rate 169 = .ok (.iaload, 1) := by decide +kernel
theorem dX5_rate_170 : decode cX5_rate 170 = .ok (.goto 12, 3) := by decide +kernel
theorem dX5_rate_173 : decode cX5_rate 173 = .ok (.aload_n 0, 1) := by decide +kernel
theorem dX5_rate_174 : decode cX5_rate 174 = .ok (.getfield 9, 3) := by decide +kernel
theorem dX5_rate_177 : decode cX5_rate 177 = .ok (.iload 4, 2) := by decide +kernel
theorem dX5_rate_179 : decode cX5_rate 179 = .ok (.iconst 2, 1) := by decide +kernel
theorem dX5_rate_180 : decode cX5_rate 180 = .ok (.iadd, 1) := by decide +kernel
theorem dX5_rate_181 : decode cX5_rate 181 = .ok (.iaload, 1) := by decide +kernel
theorem dX5_rate_182 : decode cX5_rate 182 = .ok (.istore 9, 2) := by decide +kernel
theorem dX5_rate_184 : decode cX5_rate 184 = .ok (.iload 6, 2) := by decide +kernel
theorem dX5_rate_186 : decode cX5_rate 186 = .ok (.ifCond .ne 71, 3) := by decide +kernel
theorem dX5_rate_189 : decode cX5_rate 189 = .ok (.aload_n 0, 1) := by decide +kernel
theorem dX5_rate_190 : decode cX5_rate 190 = .ok (.getfield 38, 3) := by decide +kernel
theorem dX5_rate_193 : decode cX5_rate 193 = .ok (.iload_n 2, 1) := by decide +kernel
theorem dX5_rate_194 : decode cX5_rate 194 = .ok (.aload_n 0, 1) := by decide +kernel
theorem dX5_rate_195 : decode cX5_rate 195 = .ok (.getfield 47, 3) := by decide +kernel
theorem dX5_rate_198 : decode cX5_rate 198 = .ok (.iload 5, 2) := by decide +kernel
theorem dX5_rate_200 : decode cX5_rate 200 = .ok (.iaload, 1) := by decide +kernel
theorem dX5_rate_201 : decode cX5_rate 201 = .ok (.aload_n 0, 1) := by decide +kernel
theorem dX5_rate_202 : decode cX5_rate 202 = .ok (.getfield 35, 3) := by decide +kernel
theorem dX5_rate_205 : decode cX5_rate 205 = .ok (.iload_n 2, 1) := by decide +kernel
theorem dX5_rate_206 : decode cX5_rate 206 = .ok (.iaload, 1) := by decide +kernel
theorem dX5_rate_207 : decode cX5_rate 207 = .ok (.invokestatic 110, 3) := by decide +kernel
theorem dX5_rate_210 : decode cX5_rate 210 = .ok (.iastore, 1) := by decide +kernel
theorem dX5_rate_211 : decode cX5_rate 211 = .ok (.aload_n 0, 1) := by decide +kernel
theorem dX5_rate_212 : decode cX5_rate 212 = .ok (.getfield 47, 3) := by decide +kernel
theorem dX5_rate_215 : decode cX5_rate 215 = .ok (.iload 5, 2) := by decide +kernel
theorem dX5_rate_217 : decode cX5_rate 217 = .ok (.dup2, 1) := by decide +kernel
theorem dX5_rate_218 : decode cX5_rate 218 = .ok (.iaload, 1) := by decide +kernel
theorem dX5_rate_219 : decode cX5_rate 219 = .ok (.aload_n 0, 1) := by decide +kernel
theorem dX5_rate_220 : decode cX5_rate 220 = .ok (.getfield 38, 3) := by decide +kernel
theorem dX5_rate_223 : decode cX5_rate 223 = .ok (.iload_n 2, 1) := by decide +kernel
theorem dX5_rate_224 : decode cX5_rate 224 = .ok (.iaload, 1) := by decide +kernel
theorem dX5_rate_225 : decode cX5_rate 225 = .ok (.isub, 1) := by decide +kernel
theorem dX5_rate_226 : decode cX5_rate 226 = .ok (.iastore, 1) := by decide +kernel
theorem dX5_rate_227 : decode cX5_rate 227 = .ok (.aload_n 0, 1) := by decide +kernel
theorem dX5_rate_228 : decode cX5_rate 228 = .ok (.getfield 38, 3) := by decide +kernel
theorem dX5_rate_231 : decode cX5_rate 231 = .ok (.iload_n 2, 1) := by decide +kernel
theorem dX5_rate_232 : decode cX5_rate 232 = .ok (.iaload, 1) := by decide +kernel
theorem dX5_rate_233 : decode cX5_rate 233 = .ok (.ifCond .le 111, 3) := by decide +kernel
theorem dX5_rate_236 : decode cX5_rate 236 = .ok (.aload_n 0, 1) := by decide +kernel
theorem dX5_rate_237 : decode cX5_rate 237 = .ok (.getfield 47, 3) := by decide +kernel
theorem dX5_rate_240 : decode cX5_rate 240 = .ok (.iload 5, 2) := by decide +kernel
theorem dX5_rate_242 : decode cX5_rate 242 = .ok (.iaload, 1) := by decide +kernel
theorem dX5_rate_243 : decode cX5_rate 243 = .ok (.ifCond .ne 101, 3) := by decide +kernel
theorem dX5_rate_246 : decode cX5_rate 246 = .ok (.aload_n 0, 1) := by decide +kernel
theorem dX5_rate_247 : decode cX5_rate 247 = .ok (.getfield 50, 3) := by decide +kernel
theorem dX5_rate_250 : decode cX5_rate 250 = .ok (.iload 5, 2) := by decide +kernel
theorem dX5_rate_252 : decode cX5_rate 252 = .ok (.iload_n 2, 1) := by decide +kernel
theorem dX5_rate_253 : decode cX5_rate 253 = .ok (.iastore, 1) := by decide +kernel
theorem dX5_rate_254 : decode cX5_rate 254 = .ok (.goto 90, 3) := by decide +kernel
theorem dX5_rate_257 : decode cX5_rate 257 = .ok (.aload_n 0, 1) := by decide +kernel
theorem dX5_rate_258 : decode cX5_rate 258 = .ok (.getfield 9, 3) := by decide +kernel
theorem dX5_rate_261 : decode cX5_rate 261 = .ok (.iload 4, 2) := by decide +kernel
theorem dX5_rate_263 : decode cX5_rate 263 = .ok (.iconst 3, 1) := by decide +kernel
theorem dX5_rate_264 : decode cX5_rate 264 = .ok (.iadd, 1) := by decide +kernel
theorem dX5_rate_265 : decode cX5_rate 265 = .ok (.iconst 2, 1) := by decide +kernel
theorem dX5_rate_266 : decode cX5_rate 266 = .ok (.iload 6, 2) := by decide +kernel
theorem dX5_rate_268 : decode cX5_rate 268 = .ok (.imul, 1) := by decide +kernel
theorem dX5_rate_269 : decode cX5_rate 269 = .ok (.iadd, 1) := by decide +kernel
theorem dX5_rate_270 : decode cX5_rate 270 = .ok (.iaload, 1) := by decide +kernel
theorem dX5_rate_271 : decode cX5_rate 271 = .ok (.istore 9, 2) := by decide +kernel
theorem dX5_rate_273 : decode cX5_rate 273 = .ok (.aload_n 0, 1) := by decide +kernel
theorem dX5_rate_274 : decode cX5_rate 274 = .ok (.getfield 9, 3) := by decide +kernel
theorem dX5_rate_277 : decode cX5_rate 277 = .ok (.iload 4, 2) := by decide +kernel
theorem dX5_rate_279 : decode cX5_rate 279 = .ok (.iconst 4, 1) := by decide +kernel
theorem dX5_rate_280 : decode cX5_rate 280 = .ok (.iadd, 1) := by decide +kernel
theorem dX5_rate_281 : decode cX5_rate 281 = .ok (.iconst 2, 1) := by decide +kernel
theorem dX5_rate_282 : decode cX5_rate 282 = .ok (.iload 6, 2) := by decide +kernel
theorem dX5_rate_284 : decode cX5_rate 284 = .ok (.imul, 1) := by decide +kernel
theorem dX5_rate_285 : decode cX5_rate 285 = .ok (.iadd, 1) := by decide +kernel
theorem dX5_rate_286 : decode cX5_rate 286 = .ok (.iaload, 1) := by decide +kernel
theorem dX5_rate_287 : decode cX5_rate 287 = .ok (.istore 10, 2) := by decide +kernel
theorem dX5_rate_289 : decode cX5_rate 289 = .ok (.aload_n 0, 1) := by decide +kernel
theorem dX5_rate_290 : decode cX5_rate 290 = .ok (.iload_n 1, 1) := by decide +kernel
theorem dX5_rate_291 : decode cX5_rate 291 = .ok (.invokevirtual 113, 3) := by decide +kernel
theorem dX5_rate_294 : decode cX5_rate 294 = .ok (.istore 11, 2) := by decide +kernel
theorem dX5_rate_296 : decode cX5_rate 296 = .ok (.iload 10, 2) := by decide +kernel
theorem dX5_rate_298 : decode cX5_rate 298 = .ok (.ifCond .le 32, 3) := by decide +kernel
theorem dX5_rate_301 : decode cX5_rate 301 = .ok (.aload_n 0, 1) := by decide +kernel
theorem dX5_rate_302 : decode cX5_rate 302 = .ok (.getfield 38, 3) := by decide +kernel
theorem dX5_rate_305 : decode cX5_rate 305 = .ok (.iload_n 2, 1) := by decide +kernel
theorem dX5_rate_306 : decode cX5_rate 306 = .ok (.aload_n 0, 1) := by decide +kernel
theorem dX5_rate_307 : decode cX5_rate 307 = .ok (.getfield 35, 3) := by decide +kernel
theorem dX5_rate_310 : decode cX5_rate 310 = .ok (.iload_n 2, 1) := by decide +kernel
theorem dX5_rate_311 : decode cX5_rate 311 = .ok (.iaload, 1) := by decide +kernel
theorem dX5_rate_312 : decode cX5_rate 312 = .ok (.iconst 0, 1) := by decide +kernel
theorem dX5_rate_313 : decode cX5_rate 313 = .ok (.sipush 1800, 3) := by decide +kernel
theorem dX5_rate_316 : decode cX5_rate 316 = .ok (.iload 11, 2) := by decide +kernel
theorem dX5_rate_318 : decode cX5_rate 318 = .ok (.iconst 0, 1) := by decide +kernel
theorem dX5_rate_319 : decode cX5_rate 319 = .ok (.invokestatic 104, 3) := by decide +kernel
theorem dX5_rate_322 : decode cX5_rate 322 = .ok (.isub, 1) := by decide +kernel
theorem dX5_rate_323 : decode cX5_rate 323 = .ok (.invokestatic 104, 3) := by decide +kernel
theorem dX5_rate_326 : decode cX5_rate 326 = .ok (.invokestatic 110, 3) := by decide +kernel
theorem dX5_rate_329 : decode cX5_rate 329 = .ok (.iastore, 1) := by decide +kernel
theorem dX5_rate_330 : decode cX5_rate 330 = .ok (.iload 11, 2) := by decide +kernel
theorem dX5_rate_332 : decode cX5_rate 332 = .ok (.iconst (-1), 1) := by decide +kernel
theorem dX5_rate_333 : decode cX5_rate 333 = .ok (.if_icmp .ne 11, 3) := by decide +kernel
theorem dX5_rate_336 : decode cX5_rate 336 = .ok (.aload_n 0, 1) := by decide +kernel
theorem dX5_rate_337 : decode cX5_rate 337 = .ok (.getfield 44, 3) := by decide +kernel
theorem dX5_rate_340 : decode cX5_rate 340 = .ok (.iload_n 2, 1) := by decide +kernel
theorem dX5_rate_341 : decode cX5_rate 341 = .ok (.iload 10, 2) := by decide +kernel
theorem dX5_rate_343 : decode cX5_rate 343 = .ok (.iastore, 1) := by decide +kernel
theorem dX5_rate_344 : decode cX5_rate 344 = .ok (.aload_n 0, 1) := by decide +kernel
theorem dX5_rate_345 : decode cX5_rate 345 = .ok (.getfield 35, 3) := by decide +kernel
theorem dX5_rate_348 : decode cX5_rate 348 = .ok (.iload_n 2, 1) := by decide +kernel
theorem dX5_rate_349 : decode cX5_rate 349 = .ok (.iaload, 1) := by decide +kernel
theorem dX5_rate_350 : decode cX5_rate 350 = .ok (.aload_n 0, 1) := by decide +kernel
theorem dX5_rate_351 : decode cX5_rate 351 = .ok (.getfield 38, 3) := by decide +kernel
theorem dX5_rate_354 : decode cX5_rate 354 = .ok (.iload_n 2, 1) := by decide +kernel
theorem dX5_rate_355 : decode cX5_rate 355 = .ok (.iaload, 1) := by decide +kernel
theorem dX5_rate_356 : decode cX5_rate 356 = .ok (.isub, 1) := by decide +kernel
theorem dX5_rate_357 : decode cX5_rate 357 = .ok (.istore 10, 2) := by decide +kernel
theorem dX5_rate_359 : decode cX5_rate 359 = .ok (.aload_n 0, 1) := by decide +kernel
theorem dX5_rate_360 : decode cX5_rate 360 = .ok (.getfield 41, 3) := by decide +kernel
theorem dX5_rate_363 : decode cX5_rate 363 = .ok (.iload_n 2, 1) := by decide +kernel
theorem dX5_rate_364 : decode cX5_rate 364 = .ok (.aload_n 0, 1) := by decide +kernel
theorem dX5_rate_365 : decode cX5_rate 365 = .ok (.getfield 44, 3) := by decide +kernel
theorem dX5_rate_368 : decode cX5_rate 368 = .ok (.iload_n 2, 1) := by decide +kernel
theorem dX5_rate_369 : decode cX5_rate 369 = .ok (.iaload, 1) := by decide +kernel
theorem dX5_rate_370 : decode cX5_rate 370 = .ok (.iload 10, 2) := by decide +kernel
theorem dX5_rate_372 : decode cX5_rate 372 = .ok (.ifCond .ne 7, 3) := by decide +kernel
theorem dX5_rate_375 : decode cX5_rate 375 = .ok (.iconst 0, 1) := by decide +kernel
theorem dX5_rate_376 : decode cX5_rate 376 = .ok (.goto 22, 3) := by decide +kernel
theorem dX5_rate_379 : decode cX5_rate 379 = .ok (.aload_n 0, 1) := by decide +kernel
theorem dX5_rate_380 : decode cX5_rate 380 = .ok (.getfield 9, 3) := by decide +kernel
theorem dX5_rate_383 : decode cX5_rate 383 = .ok (.iload 4, 2) := by decide +kernel
theorem dX5_rate_385 : decode cX5_rate 385 = .ok (.iaload, 1) := by decide +kernel
theorem dX5_rate_386 : decode cX5_rate 386 = .ok (.iload 10, 2) := by decide +kernel
theorem dX5_rate_388 : decode cX5_rate 388 = .ok (.iload 9, 2) := by decide +kernel
theorem dX5_rate_390 : decode cX5_rate 390 = .ok (.imul, 1) := by decide +kernel
theorem dX5_rate_391 : decode cX5_rate 391 = .ok (.bipush 59, 2) := by decide +kernel
theorem dX5_rate_393 : decode cX5_rate 393 = .ok (.iadd, 1) := by decide +kernel
theorem dX5_rate_394 : decode cX5_rate 394 = .ok (.bipush 60, 2) := by decide +kernel
theorem dX5_rate_396 : decode cX5_rate 396 = .ok (.idiv, 1) := by decide +kernel
theorem dX5_rate_397 : decode cX5_rate 397 = .ok (.iadd, 1) := by decide +kernel
theorem dX5_rate_398 : decode cX5_rate 398 = .ok (.iadd, 1) := by decide +kernel
theorem dX5_rate_399 : decode cX5_rate 399 = .ok (.iastore, 1) := by decide +kernel
theorem dX5_rate_400 : decode cX5_rate 400 = .ok (.return_, 1) := by decide +kernel
theorem dX5_rateAll_0 : decode cX5_rateAll 0 = .ok (.iconst 0, 1) := by decide +kernel
theorem dX5_rateAll_1 : decode cX5_rateAll 1 = .ok (.istore_n 1, 1) := by decide +kernel
theorem dX5_rateAll_2 : decode cX5_rateAll 2 = .ok (.iload_n 1, 1) := by decide +kernel
theorem dX5_rateAll_3 : decode cX5_rateAll 3 = .ok (.aload_n 0, 1) := by decide +kernel
theorem dX5_rateAll_4 : decode cX5_rateAll 4 = .ok (.getfield 63, 3) := by decide +kernel
theorem dX5_rateAll_7 : decode cX5_rateAll 7 = .ok (.if_icmp .ge 30, 3) := by decide +kernel
theorem dX5_rateAll_10 : decode cX5_rateAll 10 = .ok (.aload_n 0, 1) := by decide +kernel
theorem dX5_rateAll_11 : decode cX5_rateAll 11 = .ok (.getfield 47, 3) := by decide +kernel
theorem dX5_rateAll_14 : decode cX5_rateAll 14 = .ok (.iload_n 1, 1) := by decide +kernel
theorem dX5_rateAll_15 : decode cX5_rateAll 15 = .ok (.aload_n 0, 1) := by decide +kernel
theorem dX5_rateAll_16 : decode cX5_rateAll 16 = .ok (.getfield 13, 3) := by decide +kernel
theorem dX5_rateAll_19 : decode cX5_rateAll 19 = .ok (.iconst 3, 1) := by decide +kernel
theorem dX5_rateAll_20 : decode cX5_rateAll 20 = .ok (.iload_n 1, 1) := by decide +kernel
theorem dX5_rateAll_21 : decode cX5_rateAll 21 = .ok (.imul, 1) := by decide +kernel
theorem dX5_rateAll_22 : decode cX5_rateAll 22 = .ok (.iaload, 1) := by decide +kernel
theorem dX5_rateAll_23 : decode cX5_rateAll 23 = .ok (.iastore, 1) := by decide +kernel
theorem dX5_rateAll_24 : decode cX5_rateAll 24 = .ok (.aload_n 0, 1) := by decide +kernel
theorem dX5_rateAll_25 : decode cX5_rateAll 25 = .ok (.getfield 50, 3) := by decide +kernel
theorem dX5_rateAll_28 : decode cX5_rateAll 28 = .ok (.iload_n 1, 1) := by decide +kernel
theorem dX5_rateAll_29 : decode cX5_rateAll 29 = .ok (.iconst (-1), 1) := by decide +kernel
theorem dX5_rateAll_30 : decode cX5_rateAll 30 = .ok (.iastore, 1) := by decide +kernel
theorem dX5_rateAll_31 : decode cX5_rateAll 31 = .ok (.iinc 1 1, 3) := by decide +kernel
theorem dX5_rateAll_34 : decode cX5_rateAll 34 = .ok (.goto (-32), 3) := by decide +kernel
theorem dX5_rateAll_37 : decode cX5_rateAll 37 = .ok (.iconst 0, 1) := by decide +kernel
theorem dX5_rateAll_38 : decode cX5_rateAll 38 = .ok (.istore_n 1, 1) := by decide +kernel
theorem dX5_rateAll_39 : decode cX5_rateAll 39 = .ok (.iload_n 1, 1) := by decide +kernel
theorem dX5_rateAll_40 : decode cX5_rateAll 40 = .ok (.aload_n 0, 1) := by decide +kernel
theorem dX5_rateAll_41 : decode cX5_rateAll 41 = .ok (.getfield 69, 3) := by decide +kernel
theorem dX5_rateAll_44 : decode cX5_rateAll 44 = .ok (.if_icmp .ge 14, 3) := by decide +kernel
theorem dX5_rateAll_47 : decode cX5_rateAll 47 = .ok (.aload_n 0, 1) := by decide +kernel
theorem dX5_rateAll_48 : decode cX5_rateAll 48 = .ok (.iload_n 1, 1) := by decide +kernel
theorem dX5_rateAll_49 : decode cX5_rateAll 49 = .ok (.invokevirtual 116, 3) := by decide +kernel
theorem dX5_rateAll_52 : decode cX5_rateAll 52 = .ok (.iinc 1 1, 3) := by decide +kernel
theorem dX5_rateAll_55 : decode cX5_rateAll 55 = .ok (.goto (-16), 3) := by decide +kernel
theorem dX5_rateAll_58 : decode cX5_rateAll 58 = .ok (.return_, 1) := by decide +kernel
theorem dX5_told_0 : decode cX5_told 0 = .ok (.aload_n 0, 1) := by decide +kernel
theorem dX5_told_1 : decode cX5_told 1 = .ok (.iconst 0, 1) := by decide +kernel
theorem dX5_told_2 : decode cX5_told 2 = .ok (.putfield 53, 3) := by decide +kernel
theorem dX5_told_5 : decode cX5_told 5 = .ok (.aload_n 0, 1) := by decide +kernel
theorem dX5_told_6 : decode cX5_told 6 = .ok (.iload_n 1, 1) := by decide +kernel
theorem dX5_told_7 : decode cX5_told 7 = .ok (.invokevirtual 95, 3) := by decide +kernel
theorem dX5_told_10 : decode cX5_told 10 = .ok (.ifCond .eq 12, 3) := by decide +kernel
theorem dX5_told_13 : decode cX5_told 13 = .ok (.iload_n 2, 1) := by decide +kernel
theorem dX5_told_14 : decode cX5_told 14 = .ok (.iconst 0, 1) := by decide +kernel
theorem dX5_told_15 : decode cX5_told 15 = .ok (.iconst 4, 1) := by decide +kernel
theorem dX5_told_16 : decode cX5_told 16 = .ok (.invokestatic 59, 3) := by decide +kernel
theorem dX5_told_19 : decode cX5_told 19 = .ok (.ifCond .ne 9, 3) := by decide +kernel
theorem dX5_told_22 : decode cX5_told 22 = .ok (.aload_n 0, 1) := by decide +kernel
theorem dX5_told_23 : decode cX5_told 23 = .ok (.iconst 1, 1) := by decide +kernel
theorem dX5_told_24 : decode cX5_told 24 = .ok (.invokevirtual 72, 3) := by decide +kernel
theorem dX5_told_27 : decode cX5_told 27 = .ok (.ireturn, 1) := by decide +kernel
theorem dX5_told_28 : decode cX5_told 28 = .ok (.aload_n 0, 1) := by decide +kernel
theorem dX5_told_29 : decode cX5_told 29 = .ok (.invokevirtual 120, 3) := by decide +kernel
theorem dX5_told_32 : decode cX5_told 32 = .ok (.aload_n 0, 1) := by decide +kernel
theorem dX5_told_33 : decode cX5_told 33 = .ok (.iload_n 1, 1) := by decide +kernel
theorem dX5_told_34 : decode cX5_told 34 = .ok (.iload_n 2, 1) := by decide +kernel
theorem dX5_told_35 : decode cX5_told 35 = .ok (.invokevirtual 123, 3) := by decide +kernel
theorem dX5_told_38 : decode cX5_told 38 = .ok (.ireturn, 1) := by decide +kernel
theorem dX5_toldOf_0 : decode cX5_toldOf 0 = .ok (.iload_n 2, 1) := by decide +kernel
theorem dX5_toldOf_1 : decode cX5_toldOf 1 = .ok (.tableswitch 63 0 3 #[31, 42, 49, 56], 31) := by decide +kernel
theorem dX5_toldOf_32 : decode cX5_toldOf 32 = .ok (.aload_n 0, 1) := by decide +kernel
theorem dX5_toldOf_33 : decode cX5_toldOf 33 = .ok (.getfield 22, 3) := by decide +kernel
theorem dX5_toldOf_36 : decode cX5_toldOf 36 = .ok (.iconst 4, 1) := by decide +kernel
theorem dX5_toldOf_37 : decode cX5_toldOf 37 = .ok (.iload_n 1, 1) := by decide +kernel
theorem dX5_toldOf_38 : decode cX5_toldOf 38 = .ok (.imul, 1) := by decide +kernel
theorem dX5_toldOf_39 : decode cX5_toldOf 39 = .ok (.iconst 2, 1) := by decide +kernel
theorem dX5_toldOf_40 : decode cX5_toldOf 40 = .ok (.iadd, 1) := by decide +kernel
theorem dX5_toldOf_41 : decode cX5_toldOf 41 = .ok (.iaload, 1) := by decide +kernel
theorem dX5_toldOf_42 : decode cX5_toldOf 42 = .ok (.ireturn, 1) := by decide +kernel
theorem dX5_toldOf_43 : decode cX5_toldOf 43 = .ok (.aload_n 0, 1) := by decide +kernel
theorem dX5_toldOf_44 : decode cX5_toldOf 44 = .ok (.getfield 35, 3) := by decide +kernel
theorem dX5_toldOf_47 : decode cX5_toldOf 47 = .ok (.iload_n 1, 1) := by decide +kernel
theorem dX5_toldOf_48 : decode cX5_toldOf 48 = .ok (.iaload, 1) := by decide +kernel
theorem dX5_toldOf_49 : decode cX5_toldOf 49 = .ok (.ireturn, 1) := by decide +kernel
theorem dX5_toldOf_50 : decode cX5_toldOf 50 = .ok (.aload_n 0, 1) := by decide +kernel
theorem dX5_toldOf_51 : decode cX5_toldOf 51 = .ok (.getfield 38, 3) := by decide +kernel
theorem dX5_toldOf_54 : decode cX5_toldOf 54 = .ok (.iload_n 1, 1) := by decide +kernel
theorem dX5_toldOf_55 : decode cX5_toldOf 55 = .ok (.iaload, 1) := by decide +kernel
theorem dX5_toldOf_56 : decode cX5_toldOf 56 = .ok (.ireturn, 1) := by decide +kernel
theorem dX5_toldOf_57 : decode cX5_toldOf 57 = .ok (.aload_n 0, 1) := by decide +kernel
theorem dX5_toldOf_58 : decode cX5_toldOf 58 = .ok (.getfield 41, 3) := by decide +kernel
theorem dX5_toldOf_61 : decode cX5_toldOf 61 = .ok (.iload_n 1, 1) := by decide +kernel
theorem dX5_toldOf_62 : decode cX5_toldOf 62 = .ok (.iaload, 1) := by decide +kernel
theorem dX5_toldOf_63 : decode cX5_toldOf 63 = .ok (.ireturn, 1) := by decide +kernel
theorem dX5_toldOf_64 : decode cX5_toldOf 64 = .ok (.aload_n 0, 1) := by decide +kernel
theorem dX5_toldOf_65 : decode cX5_toldOf 65 = .ok (.getfield 44, 3) := by decide +kernel
theorem dX5_toldOf_68 : decode cX5_toldOf 68 = .ok (.iload_n 1, 1) := by decide +kernel
theorem dX5_toldOf_69 : decode cX5_toldOf 69 = .ok (.iaload, 1) := by decide +kernel
theorem dX5_toldOf_70 : decode cX5_toldOf 70 = .ok (.ireturn, 1) := by decide +kernel
theorem dX5_dearest_0 : decode cX5_dearest 0 = .ok (.aload_n 0, 1) := by decide +kernel
theorem dX5_dearest_1 : decode cX5_dearest 1 = .ok (.iconst 0, 1) := by decide +kernel
theorem dX5_dearest_2 : decode cX5_dearest 2 = .ok (.putfield 53, 3) := by decide +kernel
theorem dX5_dearest_5 : decode cX5_dearest 5 = .ok (.aload_n 0, 1) := by decide +kernel
theorem dX5_dearest_6 : decode cX5_dearest 6 = .ok (.invokevirtual 120, 3) := by decide +kernel
theorem dX5_dearest_9 : decode cX5_dearest 9 = .ok (.iconst (-1), 1) := by decide +kernel
theorem dX5_dearest_10 : decode cX5_dearest 10 = .ok (.istore_n 1, 1) := by decide +kernel
theorem dX5_dearest_11 : decode cX5_dearest 11 = .ok (.iconst 0, 1) := by decide +kernel
theorem dX5_dearest_12 : decode cX5_dearest 12 = .ok (.istore_n 2, 1) := by decide +kernel
theorem dX5_dearest_13 : decode cX5_dearest 13 = .ok (.iload_n 2, 1) := by decide +kernel
theorem dX5_dearest_14 : decode cX5_dearest 14 = .ok (.aload_n 0, 1) := by decide +kernel
theorem dX5_dearest_15 : decode cX5_dearest 15 = .ok (.getfield 69, 3) := by decide +kernel
theorem dX5_dearest_18 : decode cX5_dearest 18 = .ok (.if_icmp .ge 41, 3) := by decide +kernel
theorem dX5_dearest_21 : decode cX5_dearest 21 = .ok (.iload_n 1, 1) := by decide +kernel
theorem dX5_dearest_22 : decode cX5_dearest 22 = .ok (.iconst (-1), 1) := by decide +kernel
theorem dX5_dearest_23 : decode cX5_dearest 23 = .ok (.if_icmp .eq 23, 3) := by decide +kernel
theorem dX5_dearest_26 : decode cX5_dearest 26 = .ok (.aload_n 0, 1) := by decide +kernel
theorem dX5_dearest_27 : decode cX5_dearest 27 = .ok (.getfield 41, 3) := by decide +kernel
theorem dX5_dearest_30 : decode cX5_dearest 30 = .ok (.aload_n 0, 1) := by decide +kernel
theorem dX5_dearest_31 : decode cX5_dearest 31 = .ok (.getfield 32, 3) := by decide +kernel
theorem dX5_dearest_34 : decode cX5_dearest 34 = .ok (.iload_n 2, 1) := by decide +kernel
theorem dX5_dearest_35 : decode cX5_dearest 35 = .ok (.iaload, 1) := by decide +kernel
theorem dX5_dearest_36 : decode cX5_dearest 36 = .ok (.iaload, 1) := by decide +kernel
theorem dX5_dearest_37 : decode cX5_dearest 37 = .ok (.aload_n 0, 1) := by decide +kernel
theorem dX5_dearest_38 : decode cX5_dearest 38 = .ok (.getfield 41, 3) := by decide +kernel
theorem dX5_dearest_41 : decode cX5_dearest 41 = .ok (.iload_n 1, 1) := by decide +kernel
theorem dX5_dearest_42 : decode cX5_dearest 42 = .ok (.iaload, 1) := by decide +kernel
theorem dX5_dearest_43 : decode cX5_dearest 43 = .ok (.if_icmp .le 10, 3) := by decide +kernel
theorem dX5_dearest_46 : decode cX5_dearest 46 = .ok (.aload_n 0, 1) := by decide +kernel
theorem dX5_dearest_47 : decode cX5_dearest 47 = .ok (.getfield 32, 3) := by decide +kernel
theorem dX5_dearest_50 : decode cX5_dearest 50 = .ok (.iload_n 2, 1) := by decide +kernel
theorem dX5_dearest_51 : decode cX5_dearest 51 = .ok (.iaload, 1) := by decide +kernel
theorem dX5_dearest_52 : decode cX5_dearest 52 = .ok (.istore_n 1, 1) := by decide +kernel
theorem dX5_dearest_53 : decode cX5_dearest 53 = .ok (.iinc 2 1, 3) := by decide +kernel
theorem dX5_dearest_56 : decode cX5_dearest 56 = .ok (.goto (-43), 3) := by decide +kernel
theorem dX5_dearest_59 : decode cX5_dearest 59 = .ok (.iload_n 1, 1) := by decide +kernel
theorem dX5_dearest_60 : decode cX5_dearest 60 = .ok (.ireturn, 1) := by decide +kernel
theorem dX5_lineSumOf_0 : decode cX5_lineSumOf 0 = .ok (.iconst 0, 1) := by decide +kernel
theorem dX5_lineSumOf_1 : decode cX5_lineSumOf 1 = .ok (.istore_n 2, 1) := by decide +kernel
theorem dX5_lineSumOf_2 : decode cX5_lineSumOf 2 = .ok (.iconst 0, 1) := by decide +kernel
theorem dX5_lineSumOf_3 : decode cX5_lineSumOf 3 = .ok (.istore_n 3, 1) := by decide +kernel
theorem dX5_lineSumOf_4 : decode cX5_lineSumOf 4 = .ok (.iload_n 3, 1) := by decide +kernel
theorem dX5_lineSumOf_5 : decode cX5_lineSumOf 5 = .ok (.aload_n 0, 1) := by decide +kernel
theorem dX5_lineSumOf_6 : decode cX5_lineSumOf 6 = .ok (.getfield 69, 3) := by decide +kernel
theorem dX5_lineSumOf_9 : decode cX5_lineSumOf 9 = .ok (.if_icmp .ge 34, 3) := by decide +kernel
theorem dX5_lineSumOf_12 : decode cX5_lineSumOf 12 = .ok (.iload_n 2, 1) := by decide +kernel
theorem dX5_lineSumOf_13 : decode cX5_lineSumOf 13 = .ok (.aload_n 0, 1) := by decide +kernel
theorem dX5_lineSumOf_14 : decode cX5_lineSumOf 14 = .ok (.getfield 22, 3) := by decide +kernel
theorem dX5_lineSumOf_17 : decode cX5_lineSumOf 17 = .ok (.iconst 4, 1) := by decide +kernel
theorem dX5_lineSumOf_18 : decode cX5_lineSumOf 18 = .ok (.iload_n 3, 1) := by decide +kernel
theorem dX5_lineSumOf_19 : decode cX5_lineSumOf 19 = .ok (.imul, 1) := by decide +kernel
theorem dX5_lineSumOf_20 : decode cX5_lineSumOf 20 = .ok (.iaload, 1) := by decide +kernel
theorem dX5_lineSumOf_21 : decode cX5_lineSumOf 21 = .ok (.iload_n 1, 1) := by decide +kernel
theorem dX5_lineSumOf_22 : decode cX5_lineSumOf 22 = .ok (.if_icmp .ne 12, 3) := by decide +kernel
theorem dX5_lineSumOf_25 : decode cX5_lineSumOf 25 = .ok (.aload_n 0, 1) := by decide +kernel
theorem dX5_lineSumOf_26 : decode cX5_lineSumOf 26 = .ok (.getfield 41, 3) := by decide +kernel
theorem dX5_lineSumOf_29 : decode cX5_lineSumOf 29 = .ok (.iload_n 3, 1) := by decide +kernel
theorem dX5_lineSumOf_30 : decode cX5_lineSumOf 30 = .ok (.iaload, 1) := by decide +kernel
theorem dX5_lineSumOf_31 : decode cX5_lineSumOf 31 = .ok (.goto 4, 3) := by decide +kernel
theorem dX5_lineSumOf_34 : decode cX5_lineSumOf 34 = .ok (.iconst 0, 1) := by decide +kernel
theorem dX5_lineSumOf_35 : decode cX5_lineSumOf 35 = .ok (.iadd, 1) := by decide +kernel
theorem dX5_lineSumOf_36 : decode cX5_lineSumOf 36 = .ok (.istore_n 2, 1) := by decide +kernel
theorem dX5_lineSumOf_37 : decode cX5_lineSumOf 37 = .ok (.iinc 3 1, 3) := by decide +kernel
theorem dX5_lineSumOf_40 : decode cX5_lineSumOf 40 = .ok (.goto (-36), 3) := by decide +kernel
theorem dX5_lineSumOf_43 : decode cX5_lineSumOf 43 = .ok (.iload_n 2, 1) := by decide +kernel
theorem dX5_lineSumOf_44 : decode cX5_lineSumOf 44 = .ok (.ireturn, 1) := by decide +kernel
theorem dX5_lineSum_0 : decode cX5_lineSum 0 = .ok (.aload_n 0, 1) := by decide +kernel
theorem dX5_lineSum_1 : decode cX5_lineSum 1 = .ok (.iconst 0, 1) := by decide +kernel
theorem dX5_lineSum_2 : decode cX5_lineSum 2 = .ok (.putfield 53, 3) := by decide +kernel
theorem dX5_lineSum_5 : decode cX5_lineSum 5 = .ok (.aload_n 0, 1) := by decide +kernel
theorem dX5_lineSum_6 : decode cX5_lineSum 6 = .ok (.iload_n 1, 1) := by decide +kernel
theorem dX5_lineSum_7 : decode cX5_lineSum 7 = .ok (.invokevirtual 91, 3) := by decide +kernel
theorem dX5_lineSum_10 : decode cX5_lineSum 10 = .ok (.ifCond .ne 9, 3) := by decide +kernel
theorem dX5_lineSum_13 : decode cX5_lineSum 13 = .ok (.aload_n 0, 1) := by decide +kernel
theorem dX5_lineSum_14 : decode cX5_lineSum 14 = .ok (.iconst 1, 1) := by decide +kernel
theorem dX5_lineSum_15 : decode cX5_lineSum 15 = .ok (.invokevirtual 72, 3) := by decide +kernel
theorem dX5_lineSum_18 : decode cX5_lineSum 18 = .ok (.ireturn, 1) := by decide +kernel
theorem dX5_lineSum_19 : decode cX5_lineSum 19 = .ok (.aload_n 0, 1) := by decide +kernel
theorem dX5_lineSum_20 : decode cX5_lineSum 20 = .ok (.invokevirtual 120, 3) := by decide +kernel
theorem dX5_lineSum_23 : decode cX5_lineSum 23 = .ok (.aload_n 0, 1) := by decide +kernel
theorem dX5_lineSum_24 : decode cX5_lineSum 24 = .ok (.iload_n 1, 1) := by decide +kernel
theorem dX5_lineSum_25 : decode cX5_lineSum 25 = .ok (.invokevirtual 126, 3) := by decide +kernel
theorem dX5_lineSum_28 : decode cX5_lineSum 28 = .ok (.ireturn, 1) := by decide +kernel
theorem dX5_daySum_0 : decode cX5_daySum 0 = .ok (.aload_n 0, 1) := by decide +kernel
theorem dX5_daySum_1 : decode cX5_daySum 1 = .ok (.iconst 0, 1) := by decide +kernel
theorem dX5_daySum_2 : decode cX5_daySum 2 = .ok (.putfield 53, 3) := by decide +kernel
theorem dX5_daySum_5 : decode cX5_daySum 5 = .ok (.iload_n 1, 1) := by decide +kernel
theorem dX5_daySum_6 : decode cX5_daySum 6 = .ok (.iconst 0, 1) := by decide +kernel
theorem dX5_daySum_7 : decode cX5_daySum 7 = .ok (.bipush 29, 2) := by decide +kernel
theorem dX5_daySum_9 : decode cX5_daySum 9 = .ok (.invokestatic 59, 3) := by decide +kernel
theorem dX5_daySum_12 : decode cX5_daySum 12 = .ok (.ifCond .ne 9, 3) := by decide +kernel
theorem dX5_daySum_15 : decode cX5_daySum 15 = .ok (.aload_n 0, 1) := by decide +kernel
theorem dX5_daySum_16 : decode cX5_daySum 16 = .ok (.iconst 1, 1) := by decide +kernel
theorem dX5_daySum_17 : decode cX5_daySum 17 = .ok (.invokevirtual 72, 3) := by decide +kernel
theorem dX5_daySum_20 : decode cX5_daySum 20 = .ok (.ireturn, 1) := by decide +kernel
theorem dX5_daySum_21 : decode cX5_daySum 21 = .ok (.aload_n 0, 1) := by decide +kernel
theorem dX5_daySum_22 : decode cX5_daySum 22 = .ok (.invokevirtual 120, 3) := by decide +kernel
theorem dX5_daySum_25 : decode cX5_daySum 25 = .ok (.iconst 0, 1) := by decide +kernel
theorem dX5_daySum_26 : decode cX5_daySum 26 = .ok (.istore_n 2, 1) := by decide +kernel
theorem dX5_daySum_27 : decode cX5_daySum 27 = .ok (.iconst 0, 1) := by decide +kernel
theorem dX5_daySum_28 : decode cX5_daySum 28 = .ok (.istore_n 3, 1) := by decide +kernel
theorem dX5_daySum_29 : decode cX5_daySum 29 = .ok (.iload_n 3, 1) := by decide +kernel
theorem dX5_daySum_30 : decode cX5_daySum 30 = .ok (.aload_n 0, 1) := by decide +kernel
theorem dX5_daySum_31 : decode cX5_daySum 31 = .ok (.getfield 69, 3) := by decide +kernel
theorem dX5_daySum_34 : decode cX5_daySum 34 = .ok (.if_icmp .ge 39, 3) := by decide +kernel
theorem dX5_daySum_37 : decode cX5_daySum 37 = .ok (.iload_n 2, 1) := by decide +kernel
theorem dX5_daySum_38 : decode cX5_daySum 38 = .ok (.aload_n 0, 1) := by decide +kernel
theorem dX5_daySum_39 : decode cX5_daySum 39 = .ok (.getfield 22, 3) := by decide +kernel
theorem dX5_daySum_42 : decode cX5_daySum 42 = .ok (.iconst 4, 1) := by decide +kernel
theorem dX5_daySum_43 : decode cX5_daySum 43 = .ok (.iload_n 3, 1) := by decide +kernel
theorem dX5_daySum_44 : decode cX5_daySum 44 = .ok (.imul, 1) := by decide +kernel
theorem dX5_daySum_45 : decode cX5_daySum 45 = .ok (.iconst 1, 1) := by decide +kernel
theorem dX5_daySum_46 : decode cX5_daySum 46 = .ok (.iadd, 1) := by decide +kernel
theorem dX5_daySum_47 : decode cX5_daySum 47 = .ok (.iaload, 1) := by decide +kernel
theorem dX5_daySum_48 : decode cX5_daySum 48 = .ok (.invokestatic 98, 3) := by decide +kernel
theorem dX5_daySum_51 : decode cX5_daySum 51 = .ok (.iload_n 1, 1) := by decide +kernel
theorem dX5_daySum_52 : decode cX5_daySum 52 = .ok (.if_icmp .ne 12, 3) := by decide +kernel
theorem dX5_daySum_55 : decode cX5_daySum 55 = .ok (.aload_n 0, 1) := by decide +kernel
theorem dX5_daySum_56 : decode cX5_daySum 56 = .ok (.getfield 41, 3) := by decide +kernel
theorem dX5_daySum_59 : decode cX5_daySum 59 = .ok (.iload_n 3, 1) := by decide +kernel
theorem dX5_daySum_60 : decode cX5_daySum 60 = .ok (.iaload, 1) := by decide +kernel
theorem dX5_daySum_61 : decode cX5_daySum 61 = .ok (.goto 4, 3) := by decide +kernel
theorem dX5_daySum_64 : decode cX5_daySum 64 = .ok (.iconst 0, 1) := by decide +kernel
theorem dX5_daySum_65 : decode cX5_daySum 65 = .ok (.iadd, 1) := by decide +kernel
theorem dX5_daySum_66 : decode cX5_daySum 66 = .ok (.istore_n 2, 1) := by decide +kernel
theorem dX5_daySum_67 : decode cX5_daySum 67 = .ok (.iinc 3 1, 3) := by decide +kernel
theorem dX5_daySum_70 : decode cX5_daySum 70 = .ok (.goto (-41), 3) := by decide +kernel
theorem dX5_daySum_73 : decode cX5_daySum 73 = .ok (.iload_n 2, 1) := by decide +kernel
theorem dX5_daySum_74 : decode cX5_daySum 74 = .ok (.ireturn, 1) := by decide +kernel
theorem dX5_sumOf_0 : decode cX5_sumOf 0 = .ok (.iconst 0, 1) := by decide +kernel
theorem dX5_sumOf_1 : decode cX5_sumOf 1 = .ok (.istore_n 2, 1) := by decide +kernel
theorem dX5_sumOf_2 : decode cX5_sumOf 2 = .ok (.iconst 0, 1) := by decide +kernel
theorem dX5_sumOf_3 : decode cX5_sumOf 3 = .ok (.istore_n 3, 1) := by decide +kernel
theorem dX5_sumOf_4 : decode cX5_sumOf 4 = .ok (.iload_n 3, 1) := by decide +kernel
theorem dX5_sumOf_5 : decode cX5_sumOf 5 = .ok (.aload_n 0, 1) := by decide +kernel
theorem dX5_sumOf_6 : decode cX5_sumOf 6 = .ok (.getfield 66, 3) := by decide +kernel
theorem dX5_sumOf_9 : decode cX5_sumOf 9 = .ok (.if_icmp .ge 31, 3) := by decide +kernel
theorem dX5_sumOf_12 : decode cX5_sumOf 12 = .ok (.iload_n 2, 1) := by decide +kernel
theorem dX5_sumOf_13 : decode cX5_sumOf 13 = .ok (.aload_n 0, 1) := by decide +kernel
theorem dX5_sumOf_14 : decode cX5_sumOf 14 = .ok (.getfield 16, 3) := by decide +kernel
theorem dX5_sumOf_17 : decode cX5_sumOf 17 = .ok (.iload_n 3, 1) := by decide +kernel
theorem dX5_sumOf_18 : decode cX5_sumOf 18 = .ok (.iaload, 1) := by decide +kernel
theorem dX5_sumOf_19 : decode cX5_sumOf 19 = .ok (.iload_n 1, 1) := by decide +kernel
theorem dX5_sumOf_20 : decode cX5_sumOf 20 = .ok (.if_icmp .ne 11, 3) := by decide +kernel
theorem dX5_sumOf_23 : decode cX5_sumOf 23 = .ok (.aload_n 0, 1) := by decide +kernel
theorem dX5_sumOf_24 : decode cX5_sumOf 24 = .ok (.iload_n 3, 1) := by decide +kernel
theorem dX5_sumOf_25 : decode cX5_sumOf 25 = .ok (.invokevirtual 126, 3) := by decide +kernel
theorem dX5_sumOf_28 : decode cX5_sumOf 28 = .ok (.goto 4, 3) := by decide +kernel
theorem dX5_sumOf_31 : decode cX5_sumOf 31 = .ok (.iconst 0, 1) := by decide +kernel
theorem dX5_sumOf_32 : decode cX5_sumOf 32 = .ok (.iadd, 1) := by decide +kernel
theorem dX5_sumOf_33 : decode cX5_sumOf 33 = .ok (.istore_n 2, 1) := by decide +kernel
theorem dX5_sumOf_34 : decode cX5_sumOf 34 = .ok (.iinc 3 1, 3) := by decide +kernel
theorem dX5_sumOf_37 : decode cX5_sumOf 37 = .ok (.goto (-33), 3) := by decide +kernel
theorem dX5_sumOf_40 : decode cX5_sumOf 40 = .ok (.iload_n 2, 1) := by decide +kernel
theorem dX5_sumOf_41 : decode cX5_sumOf 41 = .ok (.ireturn, 1) := by decide +kernel
theorem dX5_totalOf_0 : decode cX5_totalOf 0 = .ok (.aload_n 0, 1) := by decide +kernel
theorem dX5_totalOf_1 : decode cX5_totalOf 1 = .ok (.iload_n 1, 1) := by decide +kernel
theorem dX5_totalOf_2 : decode cX5_totalOf 2 = .ok (.invokevirtual 129, 3) := by decide +kernel
theorem dX5_totalOf_5 : decode cX5_totalOf 5 = .ok (.istore_n 2, 1) := by decide +kernel
theorem dX5_totalOf_6 : decode cX5_totalOf 6 = .ok (.iconst 0, 1) := by decide +kernel
theorem dX5_totalOf_7 : decode cX5_totalOf 7 = .ok (.iload_n 2, 1) := by decide +kernel
theorem dX5_totalOf_8 : decode cX5_totalOf 8 = .ok (.aload_n 0, 1) := by decide +kernel
theorem dX5_totalOf_9 : decode cX5_totalOf 9 = .ok (.getfield 13, 3) := by decide +kernel
theorem dX5_totalOf_12 : decode cX5_totalOf 12 = .ok (.iconst 3, 1) := by decide +kernel
theorem dX5_totalOf_13 : decode cX5_totalOf 13 = .ok (.iload_n 1, 1) := by decide +kernel
theorem dX5_totalOf_14 : decode cX5_totalOf 14 = .ok (.imul, 1) := by decide +kernel
theorem dX5_totalOf_15 : decode cX5_totalOf 15 = .ok (.iconst 1, 1) := by decide +kernel
theorem dX5_totalOf_16 : decode cX5_totalOf 16 = .ok (.iadd, 1) := by decide +kernel
theorem dX5_totalOf_17 : decode cX5_totalOf 17 = .ok (.iaload, 1) := by decide +kernel
theorem dX5_totalOf_18 : decode cX5_totalOf 18 = .ok (.isub, 1) := by decide +kernel
theorem dX5_totalOf_19 : decode cX5_totalOf 19 = .ok (.invokestatic 104, 3) := by decide +kernel
theorem dX5_totalOf_22 : decode cX5_totalOf 22 = .ok (.i2l, 1) := by decide +kernel
theorem dX5_totalOf_23 : decode cX5_totalOf 23 = .ok (.lstore_n 3, 1) := by decide +kernel
theorem dX5_totalOf_24 : decode cX5_totalOf 24 = .ok (.iload_n 2, 1) := by decide +kernel
theorem dX5_totalOf_25 : decode cX5_totalOf 25 = .ok (.lload_n 3, 1) := by decide +kernel
theorem dX5_totalOf_26 : decode cX5_totalOf 26 = .ok (.aload_n 0, 1) := by decide +kernel
theorem dX5_totalOf_27 : decode cX5_totalOf 27 = .ok (.getfield 13, 3) := by decide +kernel
theorem dX5_totalOf_30 : decode cX5_totalOf 30 = .ok (.iconst 3, 1) := by decide +kernel
theorem dX5_totalOf_31 : decode cX5_totalOf 31 = .ok (.iload_n 1, 1) := by decide +kernel
theorem dX5_totalOf_32 : decode cX5_totalOf 32 = .ok (.imul, 1) := by decide +kernel
theorem dX5_totalOf_33 : decode cX5_totalOf 33 = .ok (.iconst 2, 1) := by decide +kernel
theorem dX5_totalOf_34 : decode cX5_totalOf 34 = .ok (.iadd, 1) := by decide +kernel
theorem dX5_totalOf_35 : decode cX5_totalOf 35 = .ok (.iaload, 1) := by decide +kernel
theorem dX5_totalOf_36 : decode cX5_totalOf 36 = .ok (.i2l, 1) := by decide +kernel
theorem dX5_totalOf_37 : decode cX5_totalOf 37 = .ok (.lmul, 1) := by decide +kernel
theorem dX5_totalOf_38 : decode cX5_totalOf 38 = .ok (.ldc2_w 132, 3) := by decide +kernel
theorem dX5_totalOf_41 : decode cX5_totalOf 41 = .ok (.ldiv, 1) := by decide +kernel
theorem dX5_totalOf_42 : decode cX5_totalOf 42 = .ok (.l2i, 1) := by decide +kernel
theorem dX5_totalOf_43 : decode cX5_totalOf 43 = .ok (.isub, 1) := by decide +kernel
theorem dX5_totalOf_44 : decode cX5_totalOf 44 = .ok (.iconst 5, 1) := by decide +kernel
theorem dX5_totalOf_45 : decode cX5_totalOf 45 = .ok (.iadd, 1) := by decide +kernel
theorem dX5_totalOf_46 : decode cX5_totalOf 46 = .ok (.bipush 10, 2) := by decide +kernel
theorem dX5_totalOf_48 : decode cX5_totalOf 48 = .ok (.idiv, 1) := by decide +kernel
theorem dX5_totalOf_49 : decode cX5_totalOf 49 = .ok (.ireturn, 1) := by decide +kernel
theorem dX5_sum_0 : decode cX5_sum 0 = .ok (.aload_n 0, 1) := by decide +kernel
theorem dX5_sum_1 : decode cX5_sum 1 = .ok (.iconst 0, 1) := by decide +kernel
theorem dX5_sum_2 : decode cX5_sum 2 = .ok (.putfield 53, 3) := by decide +kernel
theorem dX5_sum_5 : decode cX5_sum 5 = .ok (.aload_n 0, 1) := by decide +kernel
theorem dX5_sum_6 : decode cX5_sum 6 = .ok (.iload_n 1, 1) := by decide +kernel
theorem dX5_sum_7 : decode cX5_sum 7 = .ok (.invokevirtual 88, 3) := by decide +kernel
theorem dX5_sum_10 : decode cX5_sum 10 = .ok (.ifCond .ne 9, 3) := by decide +kernel
theorem dX5_sum_13 : decode cX5_sum 13 = .ok (.aload_n 0, 1) := by decide +kernel
theorem dX5_sum_14 : decode cX5_sum 14 = .ok (.iconst 1, 1) := by decide +kernel
theorem dX5_sum_15 : decode cX5_sum 15 = .ok (.invokevirtual 72, 3) := by decide +kernel
theorem dX5_sum_18 : decode cX5_sum 18 = .ok (.ireturn, 1) := by decide +kernel
theorem dX5_sum_19 : decode cX5_sum 19 = .ok (.aload_n 0, 1) := by decide +kernel
theorem dX5_sum_20 : decode cX5_sum 20 = .ok (.invokevirtual 120, 3) := by decide +kernel
theorem dX5_sum_23 : decode cX5_sum 23 = .ok (.aload_n 0, 1) := by decide +kernel
theorem dX5_sum_24 : decode cX5_sum 24 = .ok (.iload_n 1, 1) := by decide +kernel
theorem dX5_sum_25 : decode cX5_sum 25 = .ok (.invokevirtual 129, 3) := by decide +kernel
theorem dX5_sum_28 : decode cX5_sum 28 = .ok (.ireturn, 1) := by decide +kernel
theorem dX5_total_0 : decode cX5_total 0 = .ok (.aload_n 0, 1) := by decide +kernel
theorem dX5_total_1 : decode cX5_total 1 = .ok (.iconst 0, 1) := by decide +kernel
theorem dX5_total_2 : decode cX5_total 2 = .ok (.putfield 53, 3) := by decide +kernel
theorem dX5_total_5 : decode cX5_total 5 = .ok (.aload_n 0, 1) := by decide +kernel
theorem dX5_total_6 : decode cX5_total 6 = .ok (.iload_n 1, 1) := by decide +kernel
theorem dX5_total_7 : decode cX5_total 7 = .ok (.invokevirtual 88, 3) := by decide +kernel
theorem dX5_total_10 : decode cX5_total 10 = .ok (.ifCond .ne 9, 3) := by decide +kernel
theorem dX5_total_13 : decode cX5_total 13 = .ok (.aload_n 0, 1) := by decide +kernel
theorem dX5_total_14 : decode cX5_total 14 = .ok (.iconst 1, 1) := by decide +kernel
theorem dX5_total_15 : decode cX5_total 15 = .ok (.invokevirtual 72, 3) := by decide +kernel
theorem dX5_total_18 : decode cX5_total 18 = .ok (.ireturn, 1) := by decide +kernel
theorem dX5_total_19 : decode cX5_total 19 = .ok (.aload_n 0, 1) := by decide +kernel
theorem dX5_total_20 : decode cX5_total 20 = .ok (.invokevirtual 120, 3) := by decide +kernel
theorem dX5_total_23 : decode cX5_total 23 = .ok (.aload_n 0, 1) := by decide +kernel
theorem dX5_total_24 : decode cX5_total 24 = .ok (.iload_n 1, 1) := by decide +kernel
theorem dX5_total_25 : decode cX5_total 25 = .ok (.invokevirtual 134, 3) := by decide +kernel
theorem dX5_total_28 : decode cX5_total 28 = .ok (.ireturn, 1) := by decide +kernel
theorem dX5_left_0 : decode cX5_left 0 = .ok (.aload_n 0, 1) := by decide +kernel
theorem dX5_left_1 : decode cX5_left 1 = .ok (.iconst 0, 1) := by decide +kernel
theorem dX5_left_2 : decode cX5_left 2 = .ok (.putfield 53, 3) := by decide +kernel
theorem dX5_left_5 : decode cX5_left 5 = .ok (.aload_n 0, 1) := by decide +kernel
theorem dX5_left_6 : decode cX5_left 6 = .ok (.iload_n 1, 1) := by decide +kernel
theorem dX5_left_7 : decode cX5_left 7 = .ok (.invokevirtual 88, 3) := by decide +kernel
theorem dX5_left_10 : decode cX5_left 10 = .ok (.ifCond .ne 9, 3) := by decide +kernel
theorem dX5_left_13 : decode cX5_left 13 = .ok (.aload_n 0, 1) := by decide +kernel
theorem dX5_left_14 : decode cX5_left 14 = .ok (.iconst 1, 1) := by decide +kernel
theorem dX5_left_15 : decode cX5_left 15 = .ok (.invokevirtual 72, 3) := by decide +kernel
theorem dX5_left_18 : decode cX5_left 18 = .ok (.ireturn, 1) := by decide +kernel
theorem dX5_left_19 : decode cX5_left 19 = .ok (.aload_n 0, 1) := by decide +kernel
theorem dX5_left_20 : decode cX5_left 20 = .ok (.invokevirtual 120, 3) := by decide +kernel
theorem dX5_left_23 : decode cX5_left 23 = .ok (.aload_n 0, 1) := by decide +kernel
theorem dX5_left_24 : decode cX5_left 24 = .ok (.getfield 47, 3) := by decide +kernel
theorem dX5_left_27 : decode cX5_left 27 = .ok (.iload_n 1, 1) := by decide +kernel
theorem dX5_left_28 : decode cX5_left 28 = .ok (.iaload, 1) := by decide +kernel
theorem dX5_left_29 : decode cX5_left 29 = .ok (.ireturn, 1) := by decide +kernel
theorem dX5_emptied_0 : decode cX5_emptied 0 = .ok (.aload_n 0, 1) := by decide +kernel
theorem dX5_emptied_1 : decode cX5_emptied 1 = .ok (.iconst 0, 1) := by decide +kernel
theorem dX5_emptied_2 : decode cX5_emptied 2 = .ok (.putfield 53, 3) := by decide +kernel
theorem dX5_emptied_5 : decode cX5_emptied 5 = .ok (.aload_n 0, 1) := by decide +kernel
theorem dX5_emptied_6 : decode cX5_emptied 6 = .ok (.iload_n 1, 1) := by decide +kernel
theorem dX5_emptied_7 : decode cX5_emptied 7 = .ok (.invokevirtual 88, 3) := by decide +kernel
theorem dX5_emptied_10 : decode cX5_emptied 10 = .ok (.ifCond .ne 9, 3) := by decide +kernel
theorem dX5_emptied_13 : decode cX5_emptied 13 = .ok (.aload_n 0, 1) := by decide +kernel
theorem dX5_emptied_14 : decode cX5_emptied 14 = .ok (.iconst 1, 1) := by decide +kernel
theorem dX5_emptied_15 : decode cX5_emptied 15 = .ok (.invokevirtual 72, 3) := by decide +kernel
theorem dX5_emptied_18 : decode cX5_emptied 18 = .ok (.ireturn, 1) := by decide +kernel
theorem dX5_emptied_19 : decode cX5_emptied 19 = .ok (.aload_n 0, 1) := by decide +kernel
theorem dX5_emptied_20 : decode cX5_emptied 20 = .ok (.invokevirtual 120, 3) := by decide +kernel
theorem dX5_emptied_23 : decode cX5_emptied 23 = .ok (.aload_n 0, 1) := by decide +kernel
theorem dX5_emptied_24 : decode cX5_emptied 24 = .ok (.getfield 50, 3) := by decide +kernel
theorem dX5_emptied_27 : decode cX5_emptied 27 = .ok (.iload_n 1, 1) := by decide +kernel
theorem dX5_emptied_28 : decode cX5_emptied 28 = .ok (.iaload, 1) := by decide +kernel
theorem dX5_emptied_29 : decode cX5_emptied 29 = .ok (.ireturn, 1) := by decide +kernel
theorem dX5_dayFees_0 : decode cX5_dayFees 0 = .ok (.aload_n 0, 1) := by decide +kernel
theorem dX5_dayFees_1 : decode cX5_dayFees 1 = .ok (.iconst 0, 1) := by decide +kernel
theorem dX5_dayFees_2 : decode cX5_dayFees 2 = .ok (.putfield 53, 3) := by decide +kernel
theorem dX5_dayFees_5 : decode cX5_dayFees 5 = .ok (.aload_n 0, 1) := by decide +kernel
theorem dX5_dayFees_6 : decode cX5_dayFees 6 = .ok (.iload_n 1, 1) := by decide +kernel
theorem dX5_dayFees_7 : decode cX5_dayFees 7 = .ok (.invokevirtual 91, 3) := by decide +kernel
theorem dX5_dayFees_10 : decode cX5_dayFees 10 = .ok (.ifCond .eq 12, 3) := by decide +kernel
theorem dX5_dayFees_13 : decode cX5_dayFees 13 = .ok (.iload_n 2, 1) := by decide +kernel
theorem dX5_dayFees_14 : decode cX5_dayFees 14 = .ok (.iconst 1, 1) := by decide +kernel
theorem dX5_dayFees_15 : decode cX5_dayFees 15 = .ok (.iconst 2, 1) := by decide +kernel
theorem dX5_dayFees_16 : decode cX5_dayFees 16 = .ok (.invokestatic 59, 3) := by decide +kernel
theorem dX5_dayFees_19 : decode cX5_dayFees 19 = .ok (.ifCond .ne 9, 3) := by decide +kernel
theorem dX5_dayFees_22 : decode cX5_dayFees 22 = .ok (.aload_n 0, 1) := by decide +kernel
theorem dX5_dayFees_23 : decode cX5_dayFees 23 = .ok (.iconst 1, 1) := by decide +kernel
theorem dX5_dayFees_24 : decode cX5_dayFees 24 = .ok (.invokevirtual 72, 3) := by decide +kernel
theorem dX5_dayFees_27 : decode cX5_dayFees 27 = .ok (.ireturn, 1) := by decide +kernel
theorem dX5_dayFees_28 : decode cX5_dayFees 28 = .ok (.aload_n 0, 1) := by decide +kernel
theorem dX5_dayFees_29 : decode cX5_dayFees 29 = .ok (.invokevirtual 120, 3) := by decide +kernel
theorem dX5_dayFees_32 : decode cX5_dayFees 32 = .ok (.iconst 0, 1) := by decide +kernel
theorem dX5_dayFees_33 : decode cX5_dayFees 33 = .ok (.istore_n 3, 1) := by decide +kernel
theorem dX5_dayFees_34 : decode cX5_dayFees 34 = .ok (.iconst 0, 1) := by decide +kernel
theorem dX5_dayFees_35 : decode cX5_dayFees 35 = .ok (.istore 4, 2) := by decide +kernel
theorem dX5_dayFees_37 : decode cX5_dayFees 37 = .ok (.iload 4, 2) := by decide +kernel
theorem dX5_dayFees_39 : decode cX5_dayFees 39 = .ok (.aload_n 0, 1) := by decide +kernel
theorem dX5_dayFees_40 : decode cX5_dayFees 40 = .ok (.getfield 69, 3) := by decide +kernel
theorem dX5_dayFees_43 : decode cX5_dayFees 43 = .ok (.if_icmp .ge 55, 3) := by decide +kernel
theorem dX5_dayFees_46 : decode cX5_dayFees 46 = .ok (.iload_n 3, 1) := by decide +kernel
theorem dX5_dayFees_47 : decode cX5_dayFees 47 = .ok (.aload_n 0, 1) := by decide +kernel
theorem dX5_dayFees_48 : decode cX5_dayFees 48 = .ok (.getfield 22, 3) := by decide +kernel
theorem dX5_dayFees_51 : decode cX5_dayFees 51 = .ok (.iconst 4, 1) := by decide +kernel
theorem dX5_dayFees_52 : decode cX5_dayFees 52 = .ok (.iload 4, 2) := by decide +kernel
theorem dX5_dayFees_54 : decode cX5_dayFees 54 = .ok (.imul, 1) := by decide +kernel
theorem dX5_dayFees_55 : decode cX5_dayFees 55 = .ok (.iaload, 1) := by decide +kernel
theorem dX5_dayFees_56 : decode cX5_dayFees 56 = .ok (.iload_n 1, 1) := by decide +kernel
theorem dX5_dayFees_57 : decode cX5_dayFees 57 = .ok (.if_icmp .ne 32, 3) := by decide +kernel
theorem dX5_dayFees_60 : decode cX5_dayFees 60 = .ok (.aload_n 0, 1) := by decide +kernel
theorem dX5_dayFees_61 : decode cX5_dayFees 61 = .ok (.getfield 22, 3) := by decide +kernel
theorem dX5_dayFees_64 : decode cX5_dayFees 64 = .ok (.iconst 4, 1) := by decide +kernel
theorem dX5_dayFees_65 : decode cX5_dayFees 65 = .ok (.iload 4, 2) := by decide +kernel
theorem dX5_dayFees_67 : decode cX5_dayFees 67 = .ok (.imul, 1) := by decide +kernel
theorem dX5_dayFees_68 : decode cX5_dayFees 68 = .ok (.iconst 3, 1) := by decide +kernel
theorem dX5_dayFees_69 : decode cX5_dayFees 69 = .ok (.iadd, 1) := by decide +kernel
theorem dX5_dayFees_70 : decode cX5_dayFees 70 = .ok (.iaload, 1) := by decide +kernel
theorem dX5_dayFees_71 : decode cX5_dayFees 71 = .ok (.iload_n 2, 1) := by decide +kernel
theorem dX5_dayFees_72 : decode cX5_dayFees 72 = .ok (.if_icmp .ne 17, 3) := by decide +kernel
theorem dX5_dayFees_75 : decode cX5_dayFees 75 = .ok (.aload_n 0, 1) := by decide +kernel
theorem dX5_dayFees_76 : decode cX5_dayFees 76 = .ok (.getfield 44, 3) := by decide +kernel
theorem dX5_dayFees_79 : decode cX5_dayFees 79 = .ok (.iload 4, 2) := by decide +kernel
theorem dX5_dayFees_81 : decode cX5_dayFees 81 = .ok (.iaload, 1) := by decide +kernel
theorem dX5_dayFees_82 : decode cX5_dayFees 82 = .ok (.ifCond .le 7, 3) := by decide +kernel
theorem dX5_dayFees_85 : decode cX5_dayFees 85 = .ok (.iconst 1, 1) := by decide +kernel
theorem dX5_dayFees_86 : decode cX5_dayFees 86 = .ok (.goto 4, 3) := by decide +kernel
theorem dX5_dayFees_89 : decode cX5_dayFees 89 = .ok (.iconst 0, 1) := by decide +kernel
theorem dX5_dayFees_90 : decode cX5_dayFees 90 = .ok (.iadd, 1) := by decide +kernel
theorem dX5_dayFees_91 : decode cX5_dayFees 91 = .ok (.istore_n 3, 1) := by decide +kernel
theorem dX5_dayFees_92 : decode cX5_dayFees 92 = .ok (.iinc 4 1, 3) := by decide +kernel
theorem dX5_dayFees_95 : decode cX5_dayFees 95 = .ok (.goto (-58), 3) := by decide +kernel
theorem dX5_dayFees_98 : decode cX5_dayFees 98 = .ok (.iload_n 3, 1) := by decide +kernel
theorem dX5_dayFees_99 : decode cX5_dayFees 99 = .ok (.ireturn, 1) := by decide +kernel
theorem dX5_with_0 : decode cX5_with 0 = .ok (.aload_n 0, 1) := by decide +kernel
theorem dX5_with_1 : decode cX5_with 1 = .ok (.getfield 19, 3) := by decide +kernel
theorem dX5_with_4 : decode cX5_with 4 = .ok (.iload_n 1, 1) := by decide +kernel
theorem dX5_with_5 : decode cX5_with 5 = .ok (.iaload, 1) := by decide +kernel
theorem dX5_with_6 : decode cX5_with 6 = .ok (.istore_n 3, 1) := by decide +kernel
theorem dX5_with_7 : decode cX5_with 7 = .ok (.aload_n 0, 1) := by decide +kernel
theorem dX5_with_8 : decode cX5_with 8 = .ok (.getfield 19, 3) := by decide +kernel
theorem dX5_with_11 : decode cX5_with 11 = .ok (.iload_n 1, 1) := by decide +kernel
theorem dX5_with_12 : decode cX5_with 12 = .ok (.iload_n 2, 1) := by decide +kernel
theorem dX5_with_13 : decode cX5_with 13 = .ok (.iastore, 1) := by decide +kernel
theorem dX5_with_14 : decode cX5_with 14 = .ok (.aload_n 0, 1) := by decide +kernel
theorem dX5_with_15 : decode cX5_with 15 = .ok (.invokevirtual 120, 3) := by decide +kernel
theorem dX5_with_18 : decode cX5_with 18 = .ok (.aload_n 0, 1) := by decide +kernel
theorem dX5_with_19 : decode cX5_with 19 = .ok (.getfield 19, 3) := by decide +kernel
theorem dX5_with_22 : decode cX5_with 22 = .ok (.iload_n 1, 1) := by decide +kernel
theorem dX5_with_23 : decode cX5_with 23 = .ok (.iload_n 3, 1) := by decide +kernel
theorem dX5_with_24 : decode cX5_with 24 = .ok (.iastore, 1) := by decide +kernel
theorem dX5_with_25 : decode cX5_with 25 = .ok (.aload_n 0, 1) := by decide +kernel
theorem dX5_with_26 : decode cX5_with 26 = .ok (.aload_n 0, 1) := by decide +kernel
theorem dX5_with_27 : decode cX5_with 27 = .ok (.getfield 16, 3) := by decide +kernel
theorem dX5_with_30 : decode cX5_with 30 = .ok (.iload_n 1, 1) := by decide +kernel
theorem dX5_with_31 : decode cX5_with 31 = .ok (.iaload, 1) := by decide +kernel
theorem dX5_with_32 : decode cX5_with 32 = .ok (.invokevirtual 134, 3) := by decide +kernel
theorem dX5_with_35 : decode cX5_with 35 = .ok (.ireturn, 1) := by decide +kernel
theorem dX5_totalWith_0 : decode cX5_totalWith 0 = .ok (.aload_n 0, 1) := by decide +kernel
theorem dX5_totalWith_1 : decode cX5_totalWith 1 = .ok (.iconst 0, 1) := by decide +kernel
theorem dX5_totalWith_2 : decode cX5_totalWith 2 = .ok (.putfield 53, 3) := by decide +kernel
theorem dX5_totalWith_5 : decode cX5_totalWith 5 = .ok (.aload_n 0, 1) := by decide +kernel
theorem dX5_totalWith_6 : decode cX5_totalWith 6 = .ok (.iload_n 1, 1) := by decide +kernel
theorem dX5_totalWith_7 : decode cX5_totalWith 7 = .ok (.invokevirtual 91, 3) := by decide +kernel
theorem dX5_totalWith_10 : decode cX5_totalWith 10 = .ok (.ifCond .eq 20, 3) := by decide +kernel
theorem dX5_totalWith_13 : decode cX5_totalWith 13 = .ok (.aload_n 0, 1) := by decide +kernel
theorem dX5_totalWith_14 : decode cX5_totalWith 14 = .ok (.iload_n 2, 1) := by decide +kernel
theorem dX5_totalWith_15 : decode cX5_totalWith 15 = .ok (.invokevirtual 82, 3) := by decide +kernel
theorem dX5_totalWith_18 : decode cX5_totalWith 18 = .ok (.ifCond .eq 12, 3) := by decide +kernel
theorem dX5_totalWith_21 : decode cX5_totalWith 21 = .ok (.aload_n 0, 1) := by decide +kernel
theorem dX5_totalWith_22 : decode cX5_totalWith 22 = .ok (.iload_n 1, 1) := by decide +kernel
theorem dX5_totalWith_23 : decode cX5_totalWith 23 = .ok (.iload_n 2, 1) := by decide +kernel
theorem dX5_totalWith_24 : decode cX5_totalWith 24 = .ok (.invokevirtual 137, 3) := by decide +kernel
theorem dX5_totalWith_27 : decode cX5_totalWith 27 = .ok (.goto 8, 3) := by decide +kernel
theorem dX5_totalWith_30 : decode cX5_totalWith 30 = .ok (.aload_n 0, 1) := by decide +kernel
theorem dX5_totalWith_31 : decode cX5_totalWith 31 = .ok (.iconst 1, 1) := by decide +kernel
theorem dX5_totalWith_32 : decode cX5_totalWith 32 = .ok (.invokevirtual 72, 3) := by decide +kernel
theorem dX5_totalWith_35 : decode cX5_totalWith 35 = .ok (.ireturn, 1) := by decide +kernel
theorem dX5_bestTariff_0 : decode cX5_bestTariff 0 = .ok (.aload_n 0, 1) := by decide +kernel
theorem dX5_bestTariff_1 : decode cX5_bestTariff 1 = .ok (.iconst 0, 1) := by decide +kernel
theorem dX5_bestTariff_2 : decode cX5_bestTariff 2 = .ok (.putfield 53, 3) := by decide +kernel
theorem dX5_bestTariff_5 : decode cX5_bestTariff 5 = .ok (.aload_n 0, 1) := by decide +kernel
theorem dX5_bestTariff_6 : decode cX5_bestTariff 6 = .ok (.iload_n 1, 1) := by decide +kernel
theorem dX5_bestTariff_7 : decode cX5_bestTariff 7 = .ok (.invokevirtual 91, 3) := by decide +kernel
theorem dX5_bestTariff_10 : decode cX5_bestTariff 10 = .ok (.ifCond .ne 9, 3) := by decide +kernel
theorem dX5_bestTariff_13 : decode cX5_bestTariff 13 = .ok (.aload_n 0, 1) := by decide +kernel
theorem dX5_bestTariff_14 : decode cX5_bestTariff 14 = .ok (.iconst 1, 1) := by decide +kernel
theorem dX5_bestTariff_15 : decode cX5_bestTariff 15 = .ok (.invokevirtual 72, 3) := by decide +kernel
theorem dX5_bestTariff_18 : decode cX5_bestTariff 18 = .ok (.ireturn, 1) := by decide +kernel
theorem dX5_bestTariff_19 : decode cX5_bestTariff 19 = .ok (.iconst 0, 1) := by decide +kernel
theorem dX5_bestTariff_20 : decode cX5_bestTariff 20 = .ok (.istore_n 2, 1) := by decide +kernel
theorem dX5_bestTariff_21 : decode cX5_bestTariff 21 = .ok (.iconst 1, 1) := by decide +kernel
theorem dX5_bestTariff_22 : decode cX5_bestTariff 22 = .ok (.istore_n 3, 1) := by decide +kernel
theorem dX5_bestTariff_23 : decode cX5_bestTariff 23 = .ok (.iload_n 3, 1) := by decide +kernel
theorem dX5_bestTariff_24 : decode cX5_bestTariff 24 = .ok (.aload_n 0, 1) := by decide +kernel
theorem dX5_bestTariff_25 : decode cX5_bestTariff 25 = .ok (.getfield 56, 3) := by decide +kernel
theorem dX5_bestTariff_28 : decode cX5_bestTariff 28 = .ok (.if_icmp .ge 26, 3) := by decide +kernel
theorem dX5_bestTariff_31 : decode cX5_bestTariff 31 = .ok (.aload_n 0, 1) := by decide +kernel
theorem dX5_bestTariff_32 : decode cX5_bestTariff 32 = .ok (.iload_n 1, 1) := by decide +kernel
theorem dX5_bestTariff_33 : decode cX5_bestTariff 33 = .ok (.iload_n 3, 1) := by decide +kernel
theorem dX5_bestTariff_34 : decode cX5_bestTariff 34 = .ok (.invokevirtual 137, 3) := by decide +kernel
theorem dX5_bestTariff_37 : decode cX5_bestTariff 37 = .ok (.aload_n 0, 1) := by decide +kernel
theorem dX5_bestTariff_38 : decode cX5_bestTariff 38 = .ok (.iload_n 1, 1) := by decide +kernel
theorem dX5_bestTariff_39 : decode cX5_bestTariff 39 = .ok (.iload_n 2, 1) := by decide +kernel
theorem dX5_bestTariff_40 : decode cX5_bestTariff 40 = .ok (.invokevirtual 137, 3) := by decide +kernel
theorem dX5_bestTariff_43 : decode cX5_bestTariff 43 = .ok (.if_icmp .ge 5, 3) := by decide +kernel
theorem dX5_bestTariff_46 : decode cX5_bestTariff 46 = .ok (.iload_n 3, 1) := by decide +kernel
theorem dX5_bestTariff_47 : decode cX5_bestTariff 47 = .ok (.istore_n 2, 1) := by decide +kernel
theorem dX5_bestTariff_48 : decode cX5_bestTariff 48 = .ok (.iinc 3 1, 3) := by decide +kernel
theorem dX5_bestTariff_51 : decode cX5_bestTariff 51 = .ok (.goto (-28), 3) := by decide +kernel
theorem dX5_bestTariff_54 : decode cX5_bestTariff 54 = .ok (.iload_n 2, 1) := by decide +kernel
theorem dX5_bestTariff_55 : decode cX5_bestTariff 55 = .ok (.ireturn, 1) := by decide +kernel
theorem dX5_freeShare_0 : decode cX5_freeShare 0 = .ok (.aload_n 0, 1) := by decide +kernel
theorem dX5_freeShare_1 : decode cX5_freeShare 1 = .ok (.iconst 0, 1) := by decide +kernel
theorem dX5_freeShare_2 : decode cX5_freeShare 2 = .ok (.putfield 53, 3) := by decide +kernel
theorem dX5_freeShare_5 : decode cX5_freeShare 5 = .ok (.aload_n 0, 1) := by decide +kernel
theorem dX5_freeShare_6 : decode cX5_freeShare 6 = .ok (.invokevirtual 120, 3) := by decide +kernel
theorem dX5_freeShare_9 : decode cX5_freeShare 9 = .ok (.iconst 0, 1) := by decide +kernel
theorem dX5_freeShare_10 : decode cX5_freeShare 10 = .ok (.istore_n 1, 1) := by decide +kernel
theorem dX5_freeShare_11 : decode cX5_freeShare 11 = .ok (.iconst 0, 1) := by decide +kernel
theorem dX5_freeShare_12 : decode cX5_freeShare 12 = .ok (.istore_n 2, 1) := by decide +kernel
theorem dX5_freeShare_13 : decode cX5_freeShare 13 = .ok (.iconst 0, 1) := by decide +kernel
theorem dX5_freeShare_14 : decode cX5_freeShare 14 = .ok (.istore_n 3, 1) := by decide +kernel
theorem dX5_freeShare_15 : decode cX5_freeShare 15 = .ok (.iload_n 3, 1) := by decide +kernel
theorem dX5_freeShare_16 : decode cX5_freeShare 16 = .ok (.aload_n 0, 1) := by decide +kernel
theorem dX5_freeShare_17 : decode cX5_freeShare 17 = .ok (.getfield 69, 3) := by decide +kernel
theorem dX5_freeShare_20 : decode cX5_freeShare 20 = .ok (.if_icmp .ge 27, 3) := by decide +kernel
theorem dX5_freeShare_23 : decode cX5_freeShare 23 = .ok (.iload_n 1, 1) := by decide +kernel
theorem dX5_freeShare_24 : decode cX5_freeShare 24 = .ok (.aload_n 0, 1) := by decide +kernel
theorem dX5_freeShare_25 : decode cX5_freeShare 25 = .ok (.getfield 35, 3) := by decide +kernel
theorem dX5_freeShare_28 : decode cX5_freeShare 28 = .ok (.iload_n 3, 1) := by decide +kernel
theorem dX5_freeShare_29 : decode cX5_freeShare 29 = .ok (.iaload, 1) := by decide +kernel
theorem dX5_freeShare_30 : decode cX5_freeShare 30 = .ok (.iadd, 1) := by decide +kernel
theorem dX5_freeShare_31 : decode cX5_freeShare 31 = .ok (.istore_n 1, 1) := by decide +kernel
theorem dX5_freeShare_32 : decode cX5_freeShare 32 = .ok (.iload_n 2, 1) := by decide +kernel
theorem dX5_freeShare_33 : decode cX5_freeShare 33 = .ok (.aload_n 0, 1) := by decide +kernel
theorem dX5_freeShare_34 : decode cX5_freeShare 34 = .ok (.getfield 38, 3) := by decide +kernel
theorem dX5_freeShare_37 : decode cX5_freeShare 37 = .ok (.iload_n 3, 1) := by decide +kernel
theorem dX5_freeShare_38 : decode cX5_freeShare 38 = .ok (.iaload, 1) := by decide +kernel
theorem dX5_freeShare_39 : decode cX5_freeShare 39 = .ok (.iadd, 1) := by decide +kernel
theorem dX5_freeShare_40 : decode cX5_freeShare 40 = .ok (.istore_n 2, 1) := by decide +kernel
theorem dX5_freeShare_41 : decode cX5_freeShare 41 = .ok (.iinc 3 1, 3) := by decide +kernel
theorem dX5_freeShare_44 : decode cX5_freeShare 44 = .ok (.goto (-29), 3) := by decide +kernel
theorem dX5_freeShare_47 : decode cX5_freeShare 47 = .ok (.iload_n 1, 1) := by decide +kernel
theorem dX5_freeShare_48 : decode cX5_freeShare 48 = .ok (.ifCond .ne 7, 3) := by decide +kernel
theorem dX5_freeShare_51 : decode cX5_freeShare 51 = .ok (.dconst 0, 1) := by decide +kernel
theorem dX5_freeShare_52 : decode cX5_freeShare 52 = .ok (.goto 8, 3) := by decide +kernel
theorem dX5_freeShare_55 : decode cX5_freeShare 55 = .ok (.iload_n 2, 1) := by decide +kernel
theorem dX5_freeShare_56 : decode cX5_freeShare 56 = .ok (.i2d, 1) := by decide +kernel
theorem dX5_freeShare_57 : decode cX5_freeShare 57 = .ok (.iload_n 1, 1) := by decide +kernel
theorem dX5_freeShare_58 : decode cX5_freeShare 58 = .ok (.i2d, 1) := by decide +kernel
theorem dX5_freeShare_59 : decode cX5_freeShare 59 = .ok (.ddiv, 1) := by decide +kernel
theorem dX5_freeShare_60 : decode cX5_freeShare 60 = .ok (.dreturn, 1) := by decide +kernel
theorem dX5_digest_0 : decode cX5_digest 0 = .ok (.aload_n 0, 1) := by decide +kernel
theorem dX5_digest_1 : decode cX5_digest 1 = .ok (.iconst 0, 1) := by decide +kernel
theorem dX5_digest_2 : decode cX5_digest 2 = .ok (.putfield 53, 3) := by decide +kernel
theorem dX5_digest_5 : decode cX5_digest 5 = .ok (.aload_n 0, 1) := by decide +kernel
theorem dX5_digest_6 : decode cX5_digest 6 = .ok (.invokevirtual 120, 3) := by decide +kernel
theorem dX5_digest_9 : decode cX5_digest 9 = .ok (.ldc2_w 140, 3) := by decide +kernel
theorem dX5_digest_12 : decode cX5_digest 12 = .ok (.aload_n 0, 1) := by decide +kernel
theorem dX5_digest_13 : decode cX5_digest 13 = .ok (.getfield 56, 3) := by decide +kernel
theorem dX5_digest_16 : decode cX5_digest 16 = .ok (.i2l, 1) := by decide +kernel
theorem dX5_digest_17 : decode cX5_digest 17 = .ok (.ladd, 1) := by decide +kernel
theorem dX5_digest_18 : decode cX5_digest 18 = .ok (.ldc2_w 142, 3) := by decide +kernel
theorem dX5_digest_21 : decode cX5_digest 21 = .ok (.lmul, 1) := by decide +kernel
theorem dX5_digest_22 : decode cX5_digest 22 = .ok (.aload_n 0, 1) := by decide +kernel
theorem dX5_digest_23 : decode cX5_digest 23 = .ok (.getfield 63, 3) := by decide +kernel
theorem dX5_digest_26 : decode cX5_digest 26 = .ok (.i2l, 1) := by decide +kernel
theorem dX5_digest_27 : decode cX5_digest 27 = .ok (.ladd, 1) := by decide +kernel
theorem dX5_digest_28 : decode cX5_digest 28 = .ok (.ldc2_w 142, 3) := by decide +kernel
theorem dX5_digest_31 : decode cX5_digest 31 = .ok (.lmul, 1) := by decide +kernel
theorem dX5_digest_32 : decode cX5_digest 32 = .ok (.aload_n 0, 1) := by decide +kernel
theorem dX5_digest_33 : decode cX5_digest 33 = .ok (.getfield 66, 3) := by decide +kernel
theorem dX5_digest_36 : decode cX5_digest 36 = .ok (.i2l, 1) := by decide +kernel
theorem dX5_digest_37 : decode cX5_digest 37 = .ok (.ladd, 1) := by decide +kernel
theorem dX5_digest_38 : decode cX5_digest 38 = .ok (.ldc2_w 142, 3) := by decide +kernel
theorem dX5_digest_41 : decode cX5_digest 41 = .ok (.lmul, 1) := by decide +kernel
theorem dX5_digest_42 : decode cX5_digest 42 = .ok (.aload_n 0, 1) := by decide +kernel
theorem dX5_digest_43 : decode cX5_digest 43 = .ok (.getfield 69, 3) := by decide +kernel
theorem dX5_digest_46 : decode cX5_digest 46 = .ok (.i2l, 1) := by decide +kernel
theorem dX5_digest_47 : decode cX5_digest 47 = .ok (.ladd, 1) := by decide +kernel
theorem dX5_digest_48 : decode cX5_digest 48 = .ok (.lstore_n 1, 1) := by decide +kernel
theorem dX5_digest_49 : decode cX5_digest 49 = .ok (.lload_n 1, 1) := by decide +kernel
theorem dX5_digest_50 : decode cX5_digest 50 = .ok (.ldc2_w 142, 3) := by decide +kernel
theorem dX5_digest_53 : decode cX5_digest 53 = .ok (.lmul, 1) := by decide +kernel
theorem dX5_digest_54 : decode cX5_digest 54 = .ok (.aload_n 0, 1) := by decide +kernel
theorem dX5_digest_55 : decode cX5_digest 55 = .ok (.getfield 25, 3) := by decide +kernel
theorem dX5_digest_58 : decode cX5_digest 58 = .ok (.i2l, 1) := by decide +kernel
theorem dX5_digest_59 : decode cX5_digest 59 = .ok (.ladd, 1) := by decide +kernel
theorem dX5_digest_60 : decode cX5_digest 60 = .ok (.ldc2_w 142, 3) := by decide +kernel
theorem dX5_digest_63 : decode cX5_digest 63 = .ok (.lmul, 1) := by decide +kernel
theorem dX5_digest_64 : decode cX5_digest 64 = .ok (.aload_n 0, 1) := by decide +kernel
theorem dX5_digest_65 : decode cX5_digest 65 = .ok (.getfield 29, 3) := by decide +kernel
theorem dX5_digest_68 : decode cX5_digest 68 = .ok (.i2l, 1) := by decide +kernel
theorem dX5_digest_69 : decode cX5_digest 69 = .ok (.ladd, 1) := by decide +kernel
theorem dX5_digest_70 : decode cX5_digest 70 = .ok (.lstore_n 1, 1) := by decide +kernel
theorem dX5_digest_71 : decode cX5_digest 71 = .ok (.iconst 0, 1) := by decide +kernel
theorem dX5_digest_72 : decode cX5_digest 72 = .ok (.istore_n 3, 1) := by decide +kernel
theorem dX5_digest_73 : decode cX5_digest 73 = .ok (.iload_n 3, 1) := by decide +kernel
theorem dX5_digest_74 : decode cX5_digest 74 = .ok (.aload_n 0, 1) := by decide +kernel
theorem dX5_digest_75 : decode cX5_digest 75 = .ok (.getfield 66, 3) := by decide +kernel
theorem dX5_digest_78 : decode cX5_digest 78 = .ok (.if_icmp .ge 34, 3) := by decide +kernel
theorem dX5_digest_81 : decode cX5_digest 81 = .ok (.lload_n 1, 1) := by decide +kernel
theorem dX5_digest_82 : decode cX5_digest 82 = .ok (.ldc2_w 142, 3) := by decide +kernel
theorem dX5_digest_85 : decode cX5_digest 85 = .ok (.lmul, 1) := by decide +kernel
theorem dX5_digest_86 : decode cX5_digest 86 = .ok (.aload_n 0, 1) := by decide +kernel
theorem dX5_digest_87 : decode cX5_digest 87 = .ok (.getfield 19, 3) := by decide +kernel
theorem dX5_digest_90 : decode cX5_digest 90 = .ok (.iload_n 3, 1) := by decide +kernel
theorem dX5_digest_91 : decode cX5_digest 91 = .ok (.iaload, 1) := by decide +kernel
theorem dX5_digest_92 : decode cX5_digest 92 = .ok (.i2l, 1) := by decide +kernel
theorem dX5_digest_93 : decode cX5_digest 93 = .ok (.ladd, 1) := by decide +kernel
theorem dX5_digest_94 : decode cX5_digest 94 = .ok (.ldc2_w 142, 3) := by decide +kernel
theorem dX5_digest_97 : decode cX5_digest 97 = .ok (.lmul, 1) := by decide +kernel
theorem dX5_digest_98 : decode cX5_digest 98 = .ok (.aload_n 0, 1) := by decide +kernel
theorem dX5_digest_99 : decode cX5_digest 99 = .ok (.iload_n 3, 1) := by decide +kernel
theorem dX5_digest_100 : decode cX5_digest 100 = .ok (.invokevirtual 126, 3) := by decide +kernel
theorem dX5_digest_103 : decode cX5_digest 103 = .ok (.i2l, 1) := by decide +kernel
theorem dX5_digest_104 : decode cX5_digest 104 = .ok (.ladd, 1) := by decide +kernel
theorem dX5_digest_105 : decode cX5_digest 105 = .ok (.lstore_n 1, 1) := by decide +kernel
theorem dX5_digest_106 : decode cX5_digest 106 = .ok (.iinc 3 1, 3) := by decide +kernel
theorem dX5_digest_109 : decode cX5_digest 109 = .ok (.goto (-36), 3) := by decide +kernel
theorem dX5_digest_112 : decode cX5_digest 112 = .ok (.iconst 0, 1) := by decide +kernel
theorem dX5_digest_113 : decode cX5_digest 113 = .ok (.istore_n 3, 1) := by decide +kernel
theorem dX5_digest_114 : decode cX5_digest 114 = .ok (.iload_n 3, 1) := by decide +kernel
theorem dX5_digest_115 : decode cX5_digest 115 = .ok (.aload_n 0, 1) := by decide +kernel
theorem dX5_digest_116 : decode cX5_digest 116 = .ok (.getfield 63, 3) := by decide +kernel
theorem dX5_digest_119 : decode cX5_digest 119 = .ok (.if_icmp .ge 59, 3) := by decide +kernel
theorem dX5_digest_122 : decode cX5_digest 122 = .ok (.lload_n 1, 1) := by decide +kernel
theorem dX5_digest_123 : decode cX5_digest 123 = .ok (.ldc2_w 142, 3) := by decide +kernel
theorem dX5_digest_126 : decode cX5_digest 126 = .ok (.lmul, 1) := by decide +kernel
theorem dX5_digest_127 : decode cX5_digest 127 = .ok (.aload_n 0, 1) := by decide +kernel
theorem dX5_digest_128 : decode cX5_digest 128 = .ok (.getfield 13, 3) := by decide +kernel
theorem dX5_digest_131 : decode cX5_digest 131 = .ok (.iconst 3, 1) := by decide +kernel
theorem dX5_digest_132 : decode cX5_digest 132 = .ok (.iload_n 3, 1) := by decide +kernel
theorem dX5_digest_133 : decode cX5_digest 133 = .ok (.imul, 1) := by decide +kernel
theorem dX5_digest_134 : decode cX5_digest 134 = .ok (.iaload, 1) := by decide +kernel
theorem dX5_digest_135 : decode cX5_digest 135 = .ok (.i2l, 1) := by decide +kernel
theorem dX5_digest_136 : decode cX5_digest 136 = .ok (.ladd, 1) := by decide +kernel
theorem dX5_digest_137 : decode cX5_digest 137 = .ok (.ldc2_w 142, 3) := by decide +kernel
theorem dX5_digest_140 : decode cX5_digest 140 = .ok (.lmul, 1) := by decide +kernel
theorem dX5_digest_141 : decode cX5_digest 141 = .ok (.aload_n 0, 1) := by decide +kernel
theorem dX5_digest_142 : decode cX5_digest 142 = .ok (.iload_n 3, 1) := by decide +kernel
theorem dX5_digest_143 : decode cX5_digest 143 = .ok (.invokevirtual 129, 3) := by decide +kernel
theorem dX5_digest_146 : decode cX5_digest 146 = .ok (.i2l, 1) := by decide +kernel
theorem dX5_digest_147 : decode cX5_digest 147 = .ok (.ladd, 1) := by decide +kernel
theorem dX5_digest_148 : decode cX5_digest 148 = .ok (.ldc2_w 142, 3) := by decide +kernel
theorem dX5_digest_151 : decode cX5_digest 151 = .ok (.lmul, 1) := by decide +kernel
theorem dX5_digest_152 : decode cX5_digest 152 = .ok (.aload_n 0, 1) := by decide +kernel
theorem dX5_digest_153 : decode cX5_digest 153 = .ok (.iload_n 3, 1) := by decide +kernel
theorem dX5_digest_154 : decode cX5_digest 154 = .ok (.invokevirtual 134, 3) := by decide +kernel
theorem dX5_digest_157 : decode cX5_digest 157 = .ok (.i2l, 1) := by decide +kernel
theorem dX5_digest_158 : decode cX5_digest 158 = .ok (.ladd, 1) := by decide +kernel
theorem dX5_digest_159 : decode cX5_digest 159 = .ok (.ldc2_w 142, 3) := by decide +kernel
theorem dX5_digest_162 : decode cX5_digest 162 = .ok (.lmul, 1) := by decide +kernel
theorem dX5_digest_163 : decode cX5_digest 163 = .ok (.aload_n 0, 1) := by decide +kernel
theorem dX5_digest_164 : decode cX5_digest 164 = .ok (.getfield 47, 3) := by decide +kernel
theorem dX5_digest_167 : decode cX5_digest 167 = .ok (.iload_n 3, 1) := by decide +kernel
theorem dX5_digest_168 : decode cX5_digest 168 = .ok (.iaload, 1) := by decide +kernel
theorem dX5_digest_169 : decode cX5_digest 169 = .ok (.i2l, 1) := by decide +kernel
theorem dX5_digest_170 : decode cX5_digest 170 = .ok (.ladd, 1) := by decide +kernel
theorem dX5_digest_171 : decode cX5_digest 171 = .ok (.lstore_n 1, 1) := by decide +kernel
theorem dX5_digest_172 : decode cX5_digest 172 = .ok (.iinc 3 1, 3) := by decide +kernel
theorem dX5_digest_175 : decode cX5_digest 175 = .ok (.goto (-61), 3) := by decide +kernel
theorem dX5_digest_178 : decode cX5_digest 178 = .ok (.iconst 0, 1) := by decide +kernel
theorem dX5_digest_179 : decode cX5_digest 179 = .ok (.istore_n 3, 1) := by decide +kernel
theorem dX5_digest_180 : decode cX5_digest 180 = .ok (.iload_n 3, 1) := by decide +kernel
theorem dX5_digest_181 : decode cX5_digest 181 = .ok (.aload_n 0, 1) := by decide +kernel
theorem dX5_digest_182 : decode cX5_digest 182 = .ok (.getfield 69, 3) := by decide +kernel
theorem dX5_digest_185 : decode cX5_digest 185 = .ok (.if_icmp .ge 58, 3) := by decide +kernel
theorem dX5_digest_188 : decode cX5_digest 188 = .ok (.lload_n 1, 1) := by decide +kernel
theorem dX5_digest_189 : decode cX5_digest 189 = .ok (.ldc2_w 142, 3) := by decide +kernel
theorem dX5_digest_192 : decode cX5_digest 192 = .ok (.lmul, 1) := by decide +kernel
theorem dX5_digest_193 : decode cX5_digest 193 = .ok (.aload_n 0, 1) := by decide +kernel
theorem dX5_digest_194 : decode cX5_digest 194 = .ok (.getfield 32, 3) := by decide +kernel
theorem dX5_digest_197 : decode cX5_digest 197 = .ok (.iload_n 3, 1) := by decide +kernel
theorem dX5_digest_198 : decode cX5_digest 198 = .ok (.iaload, 1) := by decide +kernel
theorem dX5_digest_199 : decode cX5_digest 199 = .ok (.i2l, 1) := by decide +kernel
theorem dX5_digest_200 : decode cX5_digest 200 = .ok (.ladd, 1) := by decide +kernel
theorem dX5_digest_201 : decode cX5_digest 201 = .ok (.lstore_n 1, 1) := by decide +kernel
theorem dX5_digest_202 : decode cX5_digest 202 = .ok (.iconst 0, 1) := by decide +kernel
theorem dX5_digest_203 : decode cX5_digest 203 = .ok (.istore 4, 2) := by decide +kernel
theorem dX5_digest_205 : decode cX5_digest 205 = .ok (.iload 4, 2) := by decide +kernel
theorem dX5_digest_207 : decode cX5_digest 207 = .ok (.iconst 5, 1) := by decide +kernel
theorem dX5_digest_208 : decode cX5_digest 208 = .ok (.if_icmp .ge 29, 3) := by decide +kernel
theorem dX5_digest_211 : decode cX5_digest 211 = .ok (.lload_n 1, 1) := by decide +kernel
theorem dX5_digest_212 : decode cX5_digest 212 = .ok (.ldc2_w 142, 3) := by decide +kernel
theorem dX5_digest_215 : decode cX5_digest 215 = .ok (.lmul, 1) := by decide +kernel
theorem dX5_digest_216 : decode cX5_digest 216 = .ok (.aload_n 0, 1) := by decide +kernel
theorem dX5_digest_217 : decode cX5_digest 217 = .ok (.aload_n 0, 1) := by decide +kernel
theorem dX5_digest_218 : decode cX5_digest 218 = .ok (.getfield 32, 3) := by decide +kernel
theorem dX5_digest_221 : decode cX5_digest 221 = .ok (.iload_n 3, 1) := by decide +kernel
theorem dX5_digest_222 : decode cX5_digest 222 = .ok (.iaload, 1) := by decide +kernel
theorem dX5_digest_223 : decode cX5_digest 223 = .ok (.iload 4, 2) := by decide +kernel
theorem dX5_digest_225 : decode cX5_digest 225 = .ok (.invokevirtual 123, 3) := by decide +kernel
theorem dX5_digest_228 : decode cX5_digest 228 = .ok (.i2l, 1) := by decide +kernel
theorem dX5_digest_229 : decode cX5_digest 229 = .ok (.ladd, 1) := by decide +kernel
theorem dX5_digest_230 : decode cX5_digest 230 = .ok (.lstore_n 1, 1) := by decide +kernel
theorem dX5_digest_231 : decode cX5_digest 231 = .ok (.iinc 4 1, 3) := by decide +kernel
theorem dX5_digest_234 : decode cX5_digest 234 = .ok (.goto (-29), 3) := by decide +kernel
theorem dX5_digest_237 : decode cX5_digest 237 = .ok (.iinc 3 1, 3) := by decide +kernel
theorem dX5_digest_240 : decode cX5_digest 240 = .ok (.goto (-60), 3) := by decide +kernel
theorem dX5_digest_243 : decode cX5_digest 243 = .ok (.lload_n 1, 1) := by decide +kernel
theorem dX5_digest_244 : decode cX5_digest 244 = .ok (.lreturn, 1) := by decide +kernel
end
section
theorem dL_addTariff_0 : decode cL_addTariff 0 = .ok (.aload 6, 2) := by decide +kernel
theorem dL_addTariff_2 : decode cL_addTariff 2 = .ok (.iconst 0, 1) := by decide +kernel
theorem dL_addTariff_3 : decode cL_addTariff 3 = .ok (.aload_n 0, 1) := by decide +kernel
theorem dL_addTariff_4 : decode cL_addTariff 4 = .ok (.iload_n 1, 1) := by decide +kernel
theorem dL_addTariff_5 : decode cL_addTariff 5 = .ok (.iload_n 2, 1) := by decide +kernel
theorem dL_addTariff_6 : decode cL_addTariff 6 = .ok (.iload_n 3, 1) := by decide +kernel
theorem dL_addTariff_7 : decode cL_addTariff 7 = .ok (.iload 4, 2) := by decide +kernel
theorem dL_addTariff_9 : decode cL_addTariff 9 = .ok (.iload 5, 2) := by decide +kernel
theorem dL_addTariff_11 : decode cL_addTariff 11 = .ok (.invokevirtual 7, 3) := by decide +kernel
theorem dL_addTariff_14 : decode cL_addTariff 14 = .ok (.i2l, 1) := by decide +kernel
theorem dL_addTariff_15 : decode cL_addTariff 15 = .ok (.lastore, 1) := by decide +kernel
theorem dL_addTariff_16 : decode cL_addTariff 16 = .ok (.goto 11, 3) := by decide +kernel
theorem dL_addTariff_19 : decode cL_addTariff 19 = .ok (.astore 7, 2) := by decide +kernel
theorem dL_addTariff_21 : decode cL_addTariff 21 = .ok (.iconst 1, 1) := by decide +kernel
theorem dL_addTariff_22 : decode cL_addTariff 22 = .ok (.ireturn, 1) := by decide +kernel
theorem dL_addTariff_23 : decode cL_addTariff 23 = .ok (.astore 7, 2) := by decide +kernel
theorem dL_addTariff_25 : decode cL_addTariff 25 = .ok (.iconst 2, 1) := by decide +kernel
theorem dL_addTariff_26 : decode cL_addTariff 26 = .ok (.ireturn, 1) := by decide +kernel
theorem dL_addTariff_27 : decode cL_addTariff 27 = .ok (.iconst 0, 1) := by decide +kernel
theorem dL_addTariff_28 : decode cL_addTariff 28 = .ok (.ireturn, 1) := by decide +kernel
theorem dL_setZone_0 : decode cL_setZone 0 = .ok (.aload 5, 2) := by decide +kernel
theorem dL_setZone_2 : decode cL_setZone 2 = .ok (.iconst 0, 1) := by decide +kernel
theorem dL_setZone_3 : decode cL_setZone 3 = .ok (.aload_n 0, 1) := by decide +kernel
theorem dL_setZone_4 : decode cL_setZone 4 = .ok (.iload_n 1, 1) := by decide +kernel
theorem dL_setZone_5 : decode cL_setZone 5 = .ok (.iload_n 2, 1) := by decide +kernel
theorem dL_setZone_6 : decode cL_setZone 6 = .ok (.iload_n 3, 1) := by decide +kernel
theorem dL_setZone_7 : decode cL_setZone 7 = .ok (.iload 4, 2) := by decide +kernel
theorem dL_setZone_9 : decode cL_setZone 9 = .ok (.invokevirtual 17, 3) := by decide +kernel
theorem dL_setZone_12 : decode cL_setZone 12 = .ok (.i2l, 1) := by decide +kernel
theorem dL_setZone_13 : decode cL_setZone 13 = .ok (.lastore, 1) := by decide +kernel
theorem dL_setZone_14 : decode cL_setZone 14 = .ok (.goto 11, 3) := by decide +kernel
theorem dL_setZone_17 : decode cL_setZone 17 = .ok (.astore 6, 2) := by decide +kernel
theorem dL_setZone_19 : decode cL_setZone 19 = .ok (.iconst 1, 1) := by decide +kernel
theorem dL_setZone_20 : decode cL_setZone 20 = .ok (.ireturn, 1) := by decide +kernel
theorem dL_setZone_21 : decode cL_setZone 21 = .ok (.astore 6, 2) := by decide +kernel
theorem dL_setZone_23 : decode cL_setZone 23 = .ok (.iconst 2, 1) := by decide +kernel
theorem dL_setZone_24 : decode cL_setZone 24 = .ok (.ireturn, 1) := by decide +kernel
theorem dL_setZone_25 : decode cL_setZone 25 = .ok (.iconst 0, 1) := by decide +kernel
theorem dL_setZone_26 : decode cL_setZone 26 = .ok (.ireturn, 1) := by decide +kernel
theorem dL_setPeak_0 : decode cL_setPeak 0 = .ok (.aload_n 3, 1) := by decide +kernel
theorem dL_setPeak_1 : decode cL_setPeak 1 = .ok (.iconst 0, 1) := by decide +kernel
theorem dL_setPeak_2 : decode cL_setPeak 2 = .ok (.aload_n 0, 1) := by decide +kernel
theorem dL_setPeak_3 : decode cL_setPeak 3 = .ok (.iload_n 1, 1) := by decide +kernel
theorem dL_setPeak_4 : decode cL_setPeak 4 = .ok (.iload_n 2, 1) := by decide +kernel
theorem dL_setPeak_5 : decode cL_setPeak 5 = .ok (.invokevirtual 23, 3) := by decide +kernel
theorem dL_setPeak_8 : decode cL_setPeak 8 = .ok (.ifCond .eq 7, 3) := by decide +kernel
theorem dL_setPeak_11 : decode cL_setPeak 11 = .ok (.lconst 1, 1) := by decide +kernel
theorem dL_setPeak_12 : decode cL_setPeak 12 = .ok (.goto 4, 3) := by decide +kernel
theorem dL_setPeak_15 : decode cL_setPeak 15 = .ok (.lconst 0, 1) := by decide +kernel
theorem dL_setPeak_16 : decode cL_setPeak 16 = .ok (.lastore, 1) := by decide +kernel
theorem dL_setPeak_17 : decode cL_setPeak 17 = .ok (.goto 7, 3) := by decide +kernel
theorem dL_setPeak_20 : decode cL_setPeak 20 = .ok (.astore 4, 2) := by decide +kernel
theorem dL_setPeak_22 : decode cL_setPeak 22 = .ok (.iconst 1, 1) := by decide +kernel
theorem dL_setPeak_23 : decode cL_setPeak 23 = .ok (.ireturn, 1) := by decide +kernel
theorem dL_setPeak_24 : decode cL_setPeak 24 = .ok (.iconst 0, 1) := by decide +kernel
theorem dL_setPeak_25 : decode cL_setPeak 25 = .ok (.ireturn, 1) := by decide +kernel
theorem dL_addAccount_0 : decode cL_addAccount 0 = .ok (.aload 4, 2) := by decide +kernel
theorem dL_addAccount_2 : decode cL_addAccount 2 = .ok (.iconst 0, 1) := by decide +kernel
theorem dL_addAccount_3 : decode cL_addAccount 3 = .ok (.aload_n 0, 1) := by decide +kernel
theorem dL_addAccount_4 : decode cL_addAccount 4 = .ok (.iload_n 1, 1) := by decide +kernel
theorem dL_addAccount_5 : decode cL_addAccount 5 = .ok (.iload_n 2, 1) := by decide +kernel
theorem dL_addAccount_6 : decode cL_addAccount 6 = .ok (.iload_n 3, 1) := by decide +kernel
theorem dL_addAccount_7 : decode cL_addAccount 7 = .ok (.invokevirtual 27, 3) := by decide +kernel
theorem dL_addAccount_10 : decode cL_addAccount 10 = .ok (.i2l, 1) := by decide +kernel
theorem dL_addAccount_11 : decode cL_addAccount 11 = .ok (.lastore, 1) := by decide +kernel
theorem dL_addAccount_12 : decode cL_addAccount 12 = .ok (.goto 11, 3) := by decide +kernel
theorem dL_addAccount_15 : decode cL_addAccount 15 = .ok (.astore 5, 2) := by decide +kernel
theorem dL_addAccount_17 : decode cL_addAccount 17 = .ok (.iconst 1, 1) := by decide +kernel
theorem dL_addAccount_18 : decode cL_addAccount 18 = .ok (.ireturn, 1) := by decide +kernel
theorem dL_addAccount_19 : decode cL_addAccount 19 = .ok (.astore 5, 2) := by decide +kernel
theorem dL_addAccount_21 : decode cL_addAccount 21 = .ok (.iconst 2, 1) := by decide +kernel
theorem dL_addAccount_22 : decode cL_addAccount 22 = .ok (.ireturn, 1) := by decide +kernel
theorem dL_addAccount_23 : decode cL_addAccount 23 = .ok (.iconst 0, 1) := by decide +kernel
theorem dL_addAccount_24 : decode cL_addAccount 24 = .ok (.ireturn, 1) := by decide +kernel
theorem dL_addLine_0 : decode cL_addLine 0 = .ok (.aload_n 3, 1) := by decide +kernel
theorem dL_addLine_1 : decode cL_addLine 1 = .ok (.iconst 0, 1) := by decide +kernel
theorem dL_addLine_2 : decode cL_addLine 2 = .ok (.aload_n 0, 1) := by decide +kernel
theorem dL_addLine_3 : decode cL_addLine 3 = .ok (.iload_n 1, 1) := by decide +kernel
theorem dL_addLine_4 : decode cL_addLine 4 = .ok (.iload_n 2, 1) := by decide +kernel
theorem dL_addLine_5 : decode cL_addLine 5 = .ok (.invokevirtual 31, 3) := by decide +kernel
theorem dL_addLine_8 : decode cL_addLine 8 = .ok (.i2l, 1) := by decide +kernel
theorem dL_addLine_9 : decode cL_addLine 9 = .ok (.lastore, 1) := by decide +kernel
theorem dL_addLine_10 : decode cL_addLine 10 = .ok (.goto 11, 3) := by decide +kernel
theorem dL_addLine_13 : decode cL_addLine 13 = .ok (.astore 4, 2) := by decide +kernel
theorem dL_addLine_15 : decode cL_addLine 15 = .ok (.iconst 1, 1) := by decide +kernel
theorem dL_addLine_16 : decode cL_addLine 16 = .ok (.ireturn, 1) := by decide +kernel
theorem dL_addLine_17 : decode cL_addLine 17 = .ok (.astore 4, 2) := by decide +kernel
theorem dL_addLine_19 : decode cL_addLine 19 = .ok (.iconst 2, 1) := by decide +kernel
theorem dL_addLine_20 : decode cL_addLine 20 = .ok (.ireturn, 1) := by decide +kernel
theorem dL_addLine_21 : decode cL_addLine 21 = .ok (.iconst 0, 1) := by decide +kernel
theorem dL_addLine_22 : decode cL_addLine 22 = .ok (.ireturn, 1) := by decide +kernel
theorem dL_setTariff_0 : decode cL_setTariff 0 = .ok (.aload_n 3, 1) := by decide +kernel
theorem dL_setTariff_1 : decode cL_setTariff 1 = .ok (.iconst 0, 1) := by decide +kernel
theorem dL_setTariff_2 : decode cL_setTariff 2 = .ok (.aload_n 0, 1) := by decide +kernel
theorem dL_setTariff_3 : decode cL_setTariff 3 = .ok (.iload_n 1, 1) := by decide +kernel
theorem dL_setTariff_4 : decode cL_setTariff 4 = .ok (.iload_n 2, 1) := by decide +kernel
theorem dL_setTariff_5 : decode cL_setTariff 5 = .ok (.invokevirtual 35, 3) := by decide +kernel
theorem dL_setTariff_8 : decode cL_setTariff 8 = .ok (.i2l, 1) := by decide +kernel
theorem dL_setTariff_9 : decode cL_setTariff 9 = .ok (.lastore, 1) := by decide +kernel
theorem dL_setTariff_10 : decode cL_setTariff 10 = .ok (.goto 7, 3) := by decide +kernel
theorem dL_setTariff_13 : decode cL_setTariff 13 = .ok (.astore 4, 2) := by decide +kernel
theorem dL_setTariff_15 : decode cL_setTariff 15 = .ok (.iconst 1, 1) := by decide +kernel
theorem dL_setTariff_16 : decode cL_setTariff 16 = .ok (.ireturn, 1) := by decide +kernel
theorem dL_setTariff_17 : decode cL_setTariff 17 = .ok (.iconst 0, 1) := by decide +kernel
theorem dL_setTariff_18 : decode cL_setTariff 18 = .ok (.ireturn, 1) := by decide +kernel
theorem dL_setBundle_0 : decode cL_setBundle 0 = .ok (.aload_n 3, 1) := by decide +kernel
theorem dL_setBundle_1 : decode cL_setBundle 1 = .ok (.iconst 0, 1) := by decide +kernel
theorem dL_setBundle_2 : decode cL_setBundle 2 = .ok (.aload_n 0, 1) := by decide +kernel
theorem dL_setBundle_3 : decode cL_setBundle 3 = .ok (.iload_n 1, 1) := by decide +kernel
theorem dL_setBundle_4 : decode cL_setBundle 4 = .ok (.iload_n 2, 1) := by decide +kernel
theorem dL_setBundle_5 : decode cL_setBundle 5 = .ok (.invokevirtual 38, 3) := by decide +kernel
theorem dL_setBundle_8 : decode cL_setBundle 8 = .ok (.i2l, 1) := by decide +kernel
theorem dL_setBundle_9 : decode cL_setBundle 9 = .ok (.lastore, 1) := by decide +kernel
theorem dL_setBundle_10 : decode cL_setBundle 10 = .ok (.goto 11, 3) := by decide +kernel
theorem dL_setBundle_13 : decode cL_setBundle 13 = .ok (.astore 4, 2) := by decide +kernel
theorem dL_setBundle_15 : decode cL_setBundle 15 = .ok (.iconst 1, 1) := by decide +kernel
theorem dL_setBundle_16 : decode cL_setBundle 16 = .ok (.ireturn, 1) := by decide +kernel
theorem dL_setBundle_17 : decode cL_setBundle 17 = .ok (.astore 4, 2) := by decide +kernel
theorem dL_setBundle_19 : decode cL_setBundle 19 = .ok (.iconst 2, 1) := by decide +kernel
theorem dL_setBundle_20 : decode cL_setBundle 20 = .ok (.ireturn, 1) := by decide +kernel
theorem dL_setBundle_21 : decode cL_setBundle 21 = .ok (.iconst 0, 1) := by decide +kernel
theorem dL_setBundle_22 : decode cL_setBundle 22 = .ok (.ireturn, 1) := by decide +kernel
theorem dL_addCall_0 : decode cL_addCall 0 = .ok (.aload 5, 2) := by decide +kernel
theorem dL_addCall_2 : decode cL_addCall 2 = .ok (.iconst 0, 1) := by decide +kernel
theorem dL_addCall_3 : decode cL_addCall 3 = .ok (.aload_n 0, 1) := by decide +kernel
theorem dL_addCall_4 : decode cL_addCall 4 = .ok (.iload_n 1, 1) := by decide +kernel
theorem dL_addCall_5 : decode cL_addCall 5 = .ok (.iload_n 2, 1) := by decide +kernel
theorem dL_addCall_6 : decode cL_addCall 6 = .ok (.iload_n 3, 1) := by decide +kernel
theorem dL_addCall_7 : decode cL_addCall 7 = .ok (.iload 4, 2) := by decide +kernel
theorem dL_addCall_9 : decode cL_addCall 9 = .ok (.invokevirtual 41, 3) := by decide +kernel
theorem dL_addCall_12 : decode cL_addCall 12 = .ok (.i2l, 1) := by decide +kernel
theorem dL_addCall_13 : decode cL_addCall 13 = .ok (.lastore, 1) := by decide +kernel
theorem dL_addCall_14 : decode cL_addCall 14 = .ok (.goto 15, 3) := by decide +kernel
theorem dL_addCall_17 : decode cL_addCall 17 = .ok (.astore 6, 2) := by decide +kernel
theorem dL_addCall_19 : decode cL_addCall 19 = .ok (.iconst 1, 1) := by decide +kernel
theorem dL_addCall_20 : decode cL_addCall 20 = .ok (.ireturn, 1) := by decide +kernel
theorem dL_addCall_21 : decode cL_addCall 21 = .ok (.astore 6, 2) := by decide +kernel
theorem dL_addCall_23 : decode cL_addCall 23 = .ok (.iconst 2, 1) := by decide +kernel
theorem dL_addCall_24 : decode cL_addCall 24 = .ok (.ireturn, 1) := by decide +kernel
theorem dL_addCall_25 : decode cL_addCall 25 = .ok (.astore 6, 2) := by decide +kernel
theorem dL_addCall_27 : decode cL_addCall 27 = .ok (.iconst 3, 1) := by decide +kernel
theorem dL_addCall_28 : decode cL_addCall 28 = .ok (.ireturn, 1) := by decide +kernel
theorem dL_addCall_29 : decode cL_addCall 29 = .ok (.iconst 0, 1) := by decide +kernel
theorem dL_addCall_30 : decode cL_addCall 30 = .ok (.ireturn, 1) := by decide +kernel
theorem dL_correct_0 : decode cL_correct 0 = .ok (.aload_n 3, 1) := by decide +kernel
theorem dL_correct_1 : decode cL_correct 1 = .ok (.iconst 0, 1) := by decide +kernel
theorem dL_correct_2 : decode cL_correct 2 = .ok (.aload_n 0, 1) := by decide +kernel
theorem dL_correct_3 : decode cL_correct 3 = .ok (.iload_n 1, 1) := by decide +kernel
theorem dL_correct_4 : decode cL_correct 4 = .ok (.iload_n 2, 1) := by decide +kernel
theorem dL_correct_5 : decode cL_correct 5 = .ok (.invokevirtual 44, 3) := by decide +kernel
theorem dL_correct_8 : decode cL_correct 8 = .ok (.i2l, 1) := by decide +kernel
theorem dL_correct_9 : decode cL_correct 9 = .ok (.lastore, 1) := by decide +kernel
theorem dL_correct_10 : decode cL_correct 10 = .ok (.goto 11, 3) := by decide +kernel
theorem dL_correct_13 : decode cL_correct 13 = .ok (.astore 4, 2) := by decide +kernel
theorem dL_correct_15 : decode cL_correct 15 = .ok (.iconst 1, 1) := by decide +kernel
theorem dL_correct_16 : decode cL_correct 16 = .ok (.ireturn, 1) := by decide +kernel
theorem dL_correct_17 : decode cL_correct 17 = .ok (.astore 4, 2) := by decide +kernel
theorem dL_correct_19 : decode cL_correct 19 = .ok (.iconst 2, 1) := by decide +kernel
theorem dL_correct_20 : decode cL_correct 20 = .ok (.ireturn, 1) := by decide +kernel
theorem dL_correct_21 : decode cL_correct 21 = .ok (.iconst 0, 1) := by decide +kernel
theorem dL_correct_22 : decode cL_correct 22 = .ok (.ireturn, 1) := by decide +kernel
theorem dL_callAt_0 : decode cL_callAt 0 = .ok (.aload_n 2, 1) := by decide +kernel
theorem dL_callAt_1 : decode cL_callAt 1 = .ok (.iconst 0, 1) := by decide +kernel
theorem dL_callAt_2 : decode cL_callAt 2 = .ok (.aload_n 0, 1) := by decide +kernel
theorem dL_callAt_3 : decode cL_callAt 3 = .ok (.iload_n 1, 1) := by decide +kernel
theorem dL_callAt_4 : decode cL_callAt 4 = .ok (.invokevirtual 47, 3) := by decide +kernel
theorem dL_callAt_7 : decode cL_callAt 7 = .ok (.i2l, 1) := by decide +kernel
theorem dL_callAt_8 : decode cL_callAt 8 = .ok (.lastore, 1) := by decide +kernel
theorem dL_callAt_9 : decode cL_callAt 9 = .ok (.goto 6, 3) := by decide +kernel
theorem dL_callAt_12 : decode cL_callAt 12 = .ok (.astore_n 3, 1) := by decide +kernel
theorem dL_callAt_13 : decode cL_callAt 13 = .ok (.iconst 1, 1) := by decide +kernel
theorem dL_callAt_14 : decode cL_callAt 14 = .ok (.ireturn, 1) := by decide +kernel
theorem dL_callAt_15 : decode cL_callAt 15 = .ok (.iconst 0, 1) := by decide +kernel
theorem dL_callAt_16 : decode cL_callAt 16 = .ok (.ireturn, 1) := by decide +kernel
theorem dL_isPeak_0 : decode cL_isPeak 0 = .ok (.aload_n 2, 1) := by decide +kernel
theorem dL_isPeak_1 : decode cL_isPeak 1 = .ok (.iconst 0, 1) := by decide +kernel
theorem dL_isPeak_2 : decode cL_isPeak 2 = .ok (.aload_n 0, 1) := by decide +kernel
theorem dL_isPeak_3 : decode cL_isPeak 3 = .ok (.iload_n 1, 1) := by decide +kernel
theorem dL_isPeak_4 : decode cL_isPeak 4 = .ok (.invokevirtual 51, 3) := by decide +kernel
theorem dL_isPeak_7 : decode cL_isPeak 7 = .ok (.ifCond .eq 7, 3) := by decide +kernel
theorem dL_isPeak_10 : decode cL_isPeak 10 = .ok (.lconst 1, 1) := by decide +kernel
theorem dL_isPeak_11 : decode cL_isPeak 11 = .ok (.goto 4, 3) := by decide +kernel
theorem dL_isPeak_14 : decode cL_isPeak 14 = .ok (.lconst 0, 1) := by decide +kernel
theorem dL_isPeak_15 : decode cL_isPeak 15 = .ok (.lastore, 1) := by decide +kernel
theorem dL_isPeak_16 : decode cL_isPeak 16 = .ok (.goto 6, 3) := by decide +kernel
theorem dL_isPeak_19 : decode cL_isPeak 19 = .ok (.astore_n 3, 1) := by decide +kernel
theorem dL_isPeak_20 : decode cL_isPeak 20 = .ok (.iconst 1, 1) := by decide +kernel
theorem dL_isPeak_21 : decode cL_isPeak 21 = .ok (.ireturn, 1) := by decide +kernel
theorem dL_isPeak_22 : decode cL_isPeak 22 = .ok (.iconst 0, 1) := by decide +kernel
theorem dL_isPeak_23 : decode cL_isPeak 23 = .ok (.ireturn, 1) := by decide +kernel
theorem dL_told_0 : decode cL_told 0 = .ok (.aload_n 3, 1) := by decide +kernel
theorem dL_told_1 : decode cL_told 1 = .ok (.iconst 0, 1) := by decide +kernel
theorem dL_told_2 : decode cL_told 2 = .ok (.aload_n 0, 1) := by decide +kernel
theorem dL_told_3 : decode cL_told 3 = .ok (.iload_n 1, 1) := by decide +kernel
theorem dL_told_4 : decode cL_told 4 = .ok (.iload_n 2, 1) := by decide +kernel
theorem dL_told_5 : decode cL_told 5 = .ok (.invokevirtual 55, 3) := by decide +kernel
theorem dL_told_8 : decode cL_told 8 = .ok (.i2l, 1) := by decide +kernel
theorem dL_told_9 : decode cL_told 9 = .ok (.lastore, 1) := by decide +kernel
theorem dL_told_10 : decode cL_told 10 = .ok (.goto 7, 3) := by decide +kernel
theorem dL_told_13 : decode cL_told 13 = .ok (.astore 4, 2) := by decide +kernel
theorem dL_told_15 : decode cL_told 15 = .ok (.iconst 1, 1) := by decide +kernel
theorem dL_told_16 : decode cL_told 16 = .ok (.ireturn, 1) := by decide +kernel
theorem dL_told_17 : decode cL_told 17 = .ok (.iconst 0, 1) := by decide +kernel
theorem dL_told_18 : decode cL_told 18 = .ok (.ireturn, 1) := by decide +kernel
theorem dL_lineSum_0 : decode cL_lineSum 0 = .ok (.aload_n 2, 1) := by decide +kernel
theorem dL_lineSum_1 : decode cL_lineSum 1 = .ok (.iconst 0, 1) := by decide +kernel
theorem dL_lineSum_2 : decode cL_lineSum 2 = .ok (.aload_n 0, 1) := by decide +kernel
theorem dL_lineSum_3 : decode cL_lineSum 3 = .ok (.iload_n 1, 1) := by decide +kernel
theorem dL_lineSum_4 : decode cL_lineSum 4 = .ok (.invokevirtual 58, 3) := by decide +kernel
theorem dL_lineSum_7 : decode cL_lineSum 7 = .ok (.i2l, 1) := by decide +kernel
theorem dL_lineSum_8 : decode cL_lineSum 8 = .ok (.lastore, 1) := by decide +kernel
theorem dL_lineSum_9 : decode cL_lineSum 9 = .ok (.goto 6, 3) := by decide +kernel
theorem dL_lineSum_12 : decode cL_lineSum 12 = .ok (.astore_n 3, 1) := by decide +kernel
theorem dL_lineSum_13 : decode cL_lineSum 13 = .ok (.iconst 1, 1) := by decide +kernel
theorem dL_lineSum_14 : decode cL_lineSum 14 = .ok (.ireturn, 1) := by decide +kernel
theorem dL_lineSum_15 : decode cL_lineSum 15 = .ok (.iconst 0, 1) := by decide +kernel
theorem dL_lineSum_16 : decode cL_lineSum 16 = .ok (.ireturn, 1) := by decide +kernel
theorem dL_daySum_0 : decode cL_daySum 0 = .ok (.aload_n 2, 1) := by decide +kernel
theorem dL_daySum_1 : decode cL_daySum 1 = .ok (.iconst 0, 1) := by decide +kernel
theorem dL_daySum_2 : decode cL_daySum 2 = .ok (.aload_n 0, 1) := by decide +kernel
theorem dL_daySum_3 : decode cL_daySum 3 = .ok (.iload_n 1, 1) := by decide +kernel
theorem dL_daySum_4 : decode cL_daySum 4 = .ok (.invokevirtual 61, 3) := by decide +kernel
theorem dL_daySum_7 : decode cL_daySum 7 = .ok (.i2l, 1) := by decide +kernel
theorem dL_daySum_8 : decode cL_daySum 8 = .ok (.lastore, 1) := by decide +kernel
theorem dL_daySum_9 : decode cL_daySum 9 = .ok (.goto 6, 3) := by decide +kernel
theorem dL_daySum_12 : decode cL_daySum 12 = .ok (.astore_n 3, 1) := by decide +kernel
theorem dL_daySum_13 : decode cL_daySum 13 = .ok (.iconst 1, 1) := by decide +kernel
theorem dL_daySum_14 : decode cL_daySum 14 = .ok (.ireturn, 1) := by decide +kernel
theorem dL_daySum_15 : decode cL_daySum 15 = .ok (.iconst 0, 1) := by decide +kernel
theorem dL_daySum_16 : decode cL_daySum 16 = .ok (.ireturn, 1) := by decide +kernel
theorem dL_sum_0 : decode cL_sum 0 = .ok (.aload_n 2, 1) := by decide +kernel
theorem dL_sum_1 : decode cL_sum 1 = .ok (.iconst 0, 1) := by decide +kernel
theorem dL_sum_2 : decode cL_sum 2 = .ok (.aload_n 0, 1) := by decide +kernel
theorem dL_sum_3 : decode cL_sum 3 = .ok (.iload_n 1, 1) := by decide +kernel
theorem dL_sum_4 : decode cL_sum 4 = .ok (.invokevirtual 64, 3) := by decide +kernel
theorem dL_sum_7 : decode cL_sum 7 = .ok (.i2l, 1) := by decide +kernel
theorem dL_sum_8 : decode cL_sum 8 = .ok (.lastore, 1) := by decide +kernel
theorem dL_sum_9 : decode cL_sum 9 = .ok (.goto 6, 3) := by decide +kernel
theorem dL_sum_12 : decode cL_sum 12 = .ok (.astore_n 3, 1) := by decide +kernel
theorem dL_sum_13 : decode cL_sum 13 = .ok (.iconst 1, 1) := by decide +kernel
theorem dL_sum_14 : decode cL_sum 14 = .ok (.ireturn, 1) := by decide +kernel
theorem dL_sum_15 : decode cL_sum 15 = .ok (.iconst 0, 1) := by decide +kernel
theorem dL_sum_16 : decode cL_sum 16 = .ok (.ireturn, 1) := by decide +kernel
theorem dL_total_0 : decode cL_total 0 = .ok (.aload_n 2, 1) := by decide +kernel
theorem dL_total_1 : decode cL_total 1 = .ok (.iconst 0, 1) := by decide +kernel
theorem dL_total_2 : decode cL_total 2 = .ok (.aload_n 0, 1) := by decide +kernel
theorem dL_total_3 : decode cL_total 3 = .ok (.iload_n 1, 1) := by decide +kernel
theorem dL_total_4 : decode cL_total 4 = .ok (.invokevirtual 67, 3) := by decide +kernel
theorem dL_total_7 : decode cL_total 7 = .ok (.i2l, 1) := by decide +kernel
theorem dL_total_8 : decode cL_total 8 = .ok (.lastore, 1) := by decide +kernel
theorem dL_total_9 : decode cL_total 9 = .ok (.goto 6, 3) := by decide +kernel
theorem dL_total_12 : decode cL_total 12 = .ok (.astore_n 3, 1) := by decide +kernel
theorem dL_total_13 : decode cL_total 13 = .ok (.iconst 1, 1) := by decide +kernel
theorem dL_total_14 : decode cL_total 14 = .ok (.ireturn, 1) := by decide +kernel
theorem dL_total_15 : decode cL_total 15 = .ok (.iconst 0, 1) := by decide +kernel
theorem dL_total_16 : decode cL_total 16 = .ok (.ireturn, 1) := by decide +kernel
theorem dL_left_0 : decode cL_left 0 = .ok (.aload_n 2, 1) := by decide +kernel
theorem dL_left_1 : decode cL_left 1 = .ok (.iconst 0, 1) := by decide +kernel
theorem dL_left_2 : decode cL_left 2 = .ok (.aload_n 0, 1) := by decide +kernel
theorem dL_left_3 : decode cL_left 3 = .ok (.iload_n 1, 1) := by decide +kernel
theorem dL_left_4 : decode cL_left 4 = .ok (.invokevirtual 70, 3) := by decide +kernel
theorem dL_left_7 : decode cL_left 7 = .ok (.i2l, 1) := by decide +kernel
theorem dL_left_8 : decode cL_left 8 = .ok (.lastore, 1) := by decide +kernel
theorem dL_left_9 : decode cL_left 9 = .ok (.goto 6, 3) := by decide +kernel
theorem dL_left_12 : decode cL_left 12 = .ok (.astore_n 3, 1) := by decide +kernel
theorem dL_left_13 : decode cL_left 13 = .ok (.iconst 1, 1) := by decide +kernel
theorem dL_left_14 : decode cL_left 14 = .ok (.ireturn, 1) := by decide +kernel
theorem dL_left_15 : decode cL_left 15 = .ok (.iconst 0, 1) := by decide +kernel
theorem dL_left_16 : decode cL_left 16 = .ok (.ireturn, 1) := by decide +kernel
theorem dL_emptied_0 : decode cL_emptied 0 = .ok (.aload_n 2, 1) := by decide +kernel
theorem dL_emptied_1 : decode cL_emptied 1 = .ok (.iconst 0, 1) := by decide +kernel
theorem dL_emptied_2 : decode cL_emptied 2 = .ok (.aload_n 0, 1) := by decide +kernel
theorem dL_emptied_3 : decode cL_emptied 3 = .ok (.iload_n 1, 1) := by decide +kernel
theorem dL_emptied_4 : decode cL_emptied 4 = .ok (.invokevirtual 73, 3) := by decide +kernel
theorem dL_emptied_7 : decode cL_emptied 7 = .ok (.i2l, 1) := by decide +kernel
theorem dL_emptied_8 : decode cL_emptied 8 = .ok (.lastore, 1) := by decide +kernel
theorem dL_emptied_9 : decode cL_emptied 9 = .ok (.goto 6, 3) := by decide +kernel
theorem dL_emptied_12 : decode cL_emptied 12 = .ok (.astore_n 3, 1) := by decide +kernel
theorem dL_emptied_13 : decode cL_emptied 13 = .ok (.iconst 1, 1) := by decide +kernel
theorem dL_emptied_14 : decode cL_emptied 14 = .ok (.ireturn, 1) := by decide +kernel
theorem dL_emptied_15 : decode cL_emptied 15 = .ok (.iconst 0, 1) := by decide +kernel
theorem dL_emptied_16 : decode cL_emptied 16 = .ok (.ireturn, 1) := by decide +kernel
theorem dL_dayFees_0 : decode cL_dayFees 0 = .ok (.aload_n 3, 1) := by decide +kernel
theorem dL_dayFees_1 : decode cL_dayFees 1 = .ok (.iconst 0, 1) := by decide +kernel
theorem dL_dayFees_2 : decode cL_dayFees 2 = .ok (.aload_n 0, 1) := by decide +kernel
theorem dL_dayFees_3 : decode cL_dayFees 3 = .ok (.iload_n 1, 1) := by decide +kernel
theorem dL_dayFees_4 : decode cL_dayFees 4 = .ok (.iload_n 2, 1) := by decide +kernel
theorem dL_dayFees_5 : decode cL_dayFees 5 = .ok (.invokevirtual 76, 3) := by decide +kernel
theorem dL_dayFees_8 : decode cL_dayFees 8 = .ok (.i2l, 1) := by decide +kernel
theorem dL_dayFees_9 : decode cL_dayFees 9 = .ok (.lastore, 1) := by decide +kernel
theorem dL_dayFees_10 : decode cL_dayFees 10 = .ok (.goto 7, 3) := by decide +kernel
theorem dL_dayFees_13 : decode cL_dayFees 13 = .ok (.astore 4, 2) := by decide +kernel
theorem dL_dayFees_15 : decode cL_dayFees 15 = .ok (.iconst 1, 1) := by decide +kernel
theorem dL_dayFees_16 : decode cL_dayFees 16 = .ok (.ireturn, 1) := by decide +kernel
theorem dL_dayFees_17 : decode cL_dayFees 17 = .ok (.iconst 0, 1) := by decide +kernel
theorem dL_dayFees_18 : decode cL_dayFees 18 = .ok (.ireturn, 1) := by decide +kernel
theorem dL_totalWith_0 : decode cL_totalWith 0 = .ok (.aload_n 3, 1) := by decide +kernel
theorem dL_totalWith_1 : decode cL_totalWith 1 = .ok (.iconst 0, 1) := by decide +kernel
theorem dL_totalWith_2 : decode cL_totalWith 2 = .ok (.aload_n 0, 1) := by decide +kernel
theorem dL_totalWith_3 : decode cL_totalWith 3 = .ok (.iload_n 1, 1) := by decide +kernel
theorem dL_totalWith_4 : decode cL_totalWith 4 = .ok (.iload_n 2, 1) := by decide +kernel
theorem dL_totalWith_5 : decode cL_totalWith 5 = .ok (.invokevirtual 79, 3) := by decide +kernel
theorem dL_totalWith_8 : decode cL_totalWith 8 = .ok (.i2l, 1) := by decide +kernel
theorem dL_totalWith_9 : decode cL_totalWith 9 = .ok (.lastore, 1) := by decide +kernel
theorem dL_totalWith_10 : decode cL_totalWith 10 = .ok (.goto 7, 3) := by decide +kernel
theorem dL_totalWith_13 : decode cL_totalWith 13 = .ok (.astore 4, 2) := by decide +kernel
theorem dL_totalWith_15 : decode cL_totalWith 15 = .ok (.iconst 1, 1) := by decide +kernel
theorem dL_totalWith_16 : decode cL_totalWith 16 = .ok (.ireturn, 1) := by decide +kernel
theorem dL_totalWith_17 : decode cL_totalWith 17 = .ok (.iconst 0, 1) := by decide +kernel
theorem dL_totalWith_18 : decode cL_totalWith 18 = .ok (.ireturn, 1) := by decide +kernel
theorem dL_bestTariff_0 : decode cL_bestTariff 0 = .ok (.aload_n 2, 1) := by decide +kernel
theorem dL_bestTariff_1 : decode cL_bestTariff 1 = .ok (.iconst 0, 1) := by decide +kernel
theorem dL_bestTariff_2 : decode cL_bestTariff 2 = .ok (.aload_n 0, 1) := by decide +kernel
theorem dL_bestTariff_3 : decode cL_bestTariff 3 = .ok (.iload_n 1, 1) := by decide +kernel
theorem dL_bestTariff_4 : decode cL_bestTariff 4 = .ok (.invokevirtual 82, 3) := by decide +kernel
theorem dL_bestTariff_7 : decode cL_bestTariff 7 = .ok (.i2l, 1) := by decide +kernel
theorem dL_bestTariff_8 : decode cL_bestTariff 8 = .ok (.lastore, 1) := by decide +kernel
theorem dL_bestTariff_9 : decode cL_bestTariff 9 = .ok (.goto 6, 3) := by decide +kernel
theorem dL_bestTariff_12 : decode cL_bestTariff 12 = .ok (.astore_n 3, 1) := by decide +kernel
theorem dL_bestTariff_13 : decode cL_bestTariff 13 = .ok (.iconst 1, 1) := by decide +kernel
theorem dL_bestTariff_14 : decode cL_bestTariff 14 = .ok (.ireturn, 1) := by decide +kernel
theorem dL_bestTariff_15 : decode cL_bestTariff 15 = .ok (.iconst 0, 1) := by decide +kernel
theorem dL_bestTariff_16 : decode cL_bestTariff 16 = .ok (.ireturn, 1) := by decide +kernel
theorem dL_law_0 : decode cL_law 0 = .ok (.new 8, 3) := by decide +kernel
theorem dL_law_3 : decode cL_law 3 = .ok (.dup, 1) := by decide +kernel
theorem dL_law_4 : decode cL_law 4 = .ok (.invokespecial 85, 3) := by decide +kernel
theorem dL_law_7 : decode cL_law 7 = .ok (.astore_n 1, 1) := by decide +kernel
theorem dL_law_8 : decode cL_law 8 = .ok (.new 86, 3) := by decide +kernel
theorem dL_law_11 : decode cL_law 11 = .ok (.dup, 1) := by decide +kernel
theorem dL_law_12 : decode cL_law 12 = .ok (.invokespecial 88, 3) := by decide +kernel
theorem dL_law_15 : decode cL_law 15 = .ok (.astore_n 2, 1) := by decide +kernel
theorem dL_law_16 : decode cL_law 16 = .ok (.iconst 1, 1) := by decide +kernel
theorem dL_law_17 : decode cL_law 17 = .ok (.newarray .long, 2) := by decide +kernel
theorem dL_law_19 : decode cL_law 19 = .ok (.astore_n 3, 1) := by decide +kernel
theorem dL_law_20 : decode cL_law 20 = .ok (.iconst 0, 1) := by decide +kernel
theorem dL_law_21 : decode cL_law 21 = .ok (.istore 4, 2) := by decide +kernel
theorem dL_law_23 : decode cL_law 23 = .ok (.iload 4, 2) := by decide +kernel
theorem dL_law_25 : decode cL_law 25 = .ok (.aload_n 0, 1) := by decide +kernel
theorem dL_law_26 : decode cL_law 26 = .ok (.arraylength, 1) := by decide +kernel
theorem dL_law_27 : decode cL_law 27 = .ok (.bipush 6, 2) := by decide +kernel
theorem dL_law_29 : decode cL_law 29 = .ok (.isub, 1) := by decide +kernel
theorem dL_law_30 : decode cL_law 30 = .ok (.if_icmp .gt 1643, 3) := by decide +kernel
theorem dL_law_33 : decode cL_law 33 = .ok (.aload_n 0, 1) := by decide +kernel
theorem dL_law_34 : decode cL_law 34 = .ok (.iload 4, 2) := by decide +kernel
theorem dL_law_36 : decode cL_law 36 = .ok (.iaload, 1) := by decide +kernel
theorem dL_law_37 : decode cL_law 37 = .ok (.bipush 31, 2) := by decide +kernel
theorem dL_law_39 : decode cL_law 39 = .ok (.iand, 1) := by decide +kernel
theorem dL_law_40 : decode cL_law 40 = .ok (.tableswitch 1627 0 24 #[116, 220, 312, 387, 467, 535, 603, 671, 763, 831, 844, 900, 963, 1031, 1044, 1100, 1156, 1212, 1268, 1324, 1380, 1448, 1516, 1572, 1613], 116) := by decide +kernel
theorem dL_law_156 : decode cL_law 156 = .ok (.aload_n 1, 1) := by decide +kernel
theorem dL_law_157 : decode cL_law 157 = .ok (.aload_n 0, 1) := by decide +kernel
theorem dL_law_158 : decode cL_law 158 = .ok (.iload 4, 2) := by decide +kernel
theorem dL_law_160 : decode cL_law 160 = .ok (.iconst 1, 1) := by decide +kernel
theorem dL_law_161 : decode cL_law 161 = .ok (.iadd, 1) := by decide +kernel
theorem dL_law_162 : decode cL_law 162 = .ok (.iaload, 1) := by decide +kernel
theorem dL_law_163 : decode cL_law 163 = .ok (.aload_n 0, 1) := by decide +kernel
theorem dL_law_164 : decode cL_law 164 = .ok (.iload 4, 2) := by decide +kernel
theorem dL_law_166 : decode cL_law 166 = .ok (.iconst 2, 1) := by decide +kernel
theorem dL_law_167 : decode cL_law 167 = .ok (.iadd, 1) := by decide +kernel
theorem dL_law_168 : decode cL_law 168 = .ok (.iaload, 1) := by decide +kernel
theorem dL_law_169 : decode cL_law 169 = .ok (.aload_n 0, 1) := by decide +kernel
theorem dL_law_170 : decode cL_law 170 = .ok (.iload 4, 2) := by decide +kernel
theorem dL_law_172 : decode cL_law 172 = .ok (.iconst 3, 1) := by decide +kernel
theorem dL_law_173 : decode cL_law 173 = .ok (.iadd, 1) := by decide +kernel
theorem dL_law_174 : decode cL_law 174 = .ok (.iaload, 1) := by decide +kernel
theorem dL_law_175 : decode cL_law 175 = .ok (.aload_n 0, 1) := by decide +kernel
theorem dL_law_176 : decode cL_law 176 = .ok (.iload 4, 2) := by decide +kernel
theorem dL_law_178 : decode cL_law 178 = .ok (.iconst 4, 1) := by decide +kernel
theorem dL_law_179 : decode cL_law 179 = .ok (.iadd, 1) := by decide +kernel
theorem dL_law_180 : decode cL_law 180 = .ok (.iaload, 1) := by decide +kernel
theorem dL_law_181 : decode cL_law 181 = .ok (.aload_n 0, 1) := by decide +kernel
theorem dL_law_182 : decode cL_law 182 = .ok (.iload 4, 2) := by decide +kernel
theorem dL_law_184 : decode cL_law 184 = .ok (.iconst 5, 1) := by decide +kernel
theorem dL_law_185 : decode cL_law 185 = .ok (.iadd, 1) := by decide +kernel
theorem dL_law_186 : decode cL_law 186 = .ok (.iaload, 1) := by decide +kernel
theorem dL_law_187 : decode cL_law 187 = .ok (.aload_n 3, 1) := by decide +kernel
theorem dL_law_188 : decode cL_law 188 = .ok (.invokestatic 89, 3) := by decide +kernel
theorem dL_law_191 : decode cL_law 191 = .ok (.istore 5, 2) := by decide +kernel
theorem dL_law_193 : decode cL_law 193 = .ok (.aload_n 2, 1) := by decide +kernel
theorem dL_law_194 : decode cL_law 194 = .ok (.aload_n 0, 1) := by decide +kernel
theorem dL_law_195 : decode cL_law 195 = .ok (.iload 4, 2) := by decide +kernel
theorem dL_law_197 : decode cL_law 197 = .ok (.iconst 1, 1) := by decide +kernel
theorem dL_law_198 : decode cL_law 198 = .ok (.iadd, 1) := by decide +kernel
theorem dL_law_199 : decode cL_law 199 = .ok (.iaload, 1) := by decide +kernel
theorem dL_law_200 : decode cL_law 200 = .ok (.aload_n 0, 1) := by decide +kernel
theorem dL_law_201 : decode cL_law 201 = .ok (.iload 4, 2) := by decide +kernel
theorem dL_law_203 : decode cL_law 203 = .ok (.iconst 2, 1) := by decide +kernel
theorem dL_law_204 : decode cL_law 204 = .ok (.iadd, 1) := by decide +kernel
theorem dL_law_205 : decode cL_law 205 = .ok (.iaload, 1) := by decide +kernel
theorem dL_law_206 : decode cL_law 206 = .ok (.aload_n 0, 1) := by decide +kernel
theorem dL_law_207 : decode cL_law 207 = .ok (.iload 4, 2) := by decide +kernel
theorem dL_law_209 : decode cL_law 209 = .ok (.iconst 3, 1) := by decide +kernel
theorem dL_law_210 : decode cL_law 210 = .ok (.iadd, 1) := by decide +kernel
theorem dL_law_211 : decode cL_law 211 = .ok (.iaload, 1) := by decide +kernel
theorem dL_law_212 : decode cL_law 212 = .ok (.aload_n 0, 1) := by decide +kernel
theorem dL_law_213 : decode cL_law 213 = .ok (.iload 4, 2) := by decide +kernel
theorem dL_law_215 : decode cL_law 215 = .ok (.iconst 4, 1) := by decide +kernel
theorem dL_law_216 : decode cL_law 216 = .ok (.iadd, 1) := by decide +kernel
theorem dL_law_217 : decode cL_law 217 = .ok (.iaload, 1) := by decide +kernel
theorem dL_law_218 : decode cL_law 218 = .ok (.aload_n 0, 1) := by decide +kernel
theorem dL_law_219 : decode cL_law 219 = .ok (.iload 4, 2) := by decide +kernel
theorem dL_law_221 : decode cL_law 221 = .ok (.iconst 5, 1) := by decide +kernel
theorem dL_law_222 : decode cL_law 222 = .ok (.iadd, 1) := by decide +kernel
theorem dL_law_223 : decode cL_law 223 = .ok (.iaload, 1) := by decide +kernel
theorem dL_law_224 : decode cL_law 224 = .ok (.invokevirtual 94, 3) := by decide +kernel
theorem dL_law_227 : decode cL_law 227 = .ok (.istore 6, 2) := by decide +kernel
theorem dL_law_229 : decode cL_law 229 = .ok (.aload_n 2, 1) := by decide +kernel
theorem dL_law_230 : decode cL_law 230 = .ok (.invokevirtual 95, 3) := by decide +kernel
theorem dL_law_233 : decode cL_law 233 = .ok (.iload 5, 2) := by decide +kernel
theorem dL_law_235 : decode cL_law 235 = .ok (.if_icmp .eq 5, 3) := by decide +kernel
theorem dL_law_238 : decode cL_law 238 = .ok (.iconst 0, 1) := by decide +kernel
theorem dL_law_239 : decode cL_law 239 = .ok (.ireturn, 1) := by decide +kernel
theorem dL_law_240 : decode cL_law 240 = .ok (.iload 5, 2) := by decide +kernel
theorem dL_law_242 : decode cL_law 242 = .ok (.ifCond .ne 15, 3) := by decide +kernel
theorem dL_law_245 : decode cL_law 245 = .ok (.aload_n 3, 1) := by decide +kernel
theorem dL_law_246 : decode cL_law 246 = .ok (.iconst 0, 1) := by decide +kernel
theorem dL_law_247 : decode cL_law 247 = .ok (.laload, 1) := by decide +kernel
theorem dL_law_248 : decode cL_law 248 = .ok (.iload 6, 2) := by decide +kernel
theorem dL_law_250 : decode cL_law 250 = .ok (.i2l, 1) := by decide +kernel
theorem dL_law_251 : decode cL_law 251 = .ok (.lcmp, 1) := by decide +kernel
theorem dL_law_252 : decode cL_law 252 = .ok (.ifCond .eq 5, 3) := by decide +kernel
theorem dL_law_255 : decode cL_law 255 = .ok (.iconst 0, 1) := by decide +kernel
theorem dL_law_256 : decode cL_law 256 = .ok (.ireturn, 1) := by decide +kernel
theorem dL_law_257 : decode cL_law 257 = .ok (.goto 1410, 3) := by decide +kernel
theorem dL_law_260 : decode cL_law 260 = .ok (.aload_n 1, 1) := by decide +kernel
theorem dL_law_261 : decode cL_law 261 = .ok (.aload_n 0, 1) := by decide +kernel
theorem dL_law_262 : decode cL_law 262 = .ok (.iload 4, 2) := by decide +kernel
theorem dL_law_264 : decode cL_law 264 = .ok (.iconst 1, 1) := by decide +kernel
theorem dL_law_265 : decode cL_law 265 = .ok (.iadd, 1) := by decide +kernel
theorem dL_law_266 : decode cL_law 266 = .ok (.iaload, 1) := by decide +kernel
theorem dL_law_267 : decode cL_law 267 = .ok (.aload_n 0, 1) := by decide +kernel
theorem dL_law_268 : decode cL_law 268 = .ok (.iload 4, 2) := by decide +kernel
theorem dL_law_270 : decode cL_law 270 = .ok (.iconst 2, 1) := by decide +kernel
theorem dL_law_271 : decode cL_law 271 = .ok (.iadd, 1) := by decide +kernel
theorem dL_law_272 : decode cL_law 272 = .ok (.iaload, 1) := by decide +kernel
theorem dL_law_273 : decode cL_law 273 = .ok (.aload_n 0, 1) := by decide +kernel
theorem dL_law_274 : decode cL_law 274 = .ok (.iload 4, 2) := by decide +kernel
theorem dL_law_276 : decode cL_law 276 = .ok (.iconst 3, 1) := by decide +kernel
theorem dL_law_277 : decode cL_law 277 = .ok (.iadd, 1) := by decide +kernel
theorem dL_law_278 : decode cL_law 278 = .ok (.iaload, 1) := by decide +kernel
theorem dL_law_279 : decode cL_law 279 = .ok (.aload_n 0, 1) := by decide +kernel
theorem dL_law_280 : decode cL_law 280 = .ok (.iload 4, 2) := by decide +kernel
theorem dL_law_282 : decode cL_law 282 = .ok (.iconst 4, 1) := by decide +kernel
theorem dL_law_283 : decode cL_law 283 = .ok (.iadd, 1) := by decide +kernel
theorem dL_law_284 : decode cL_law 284 = .ok (.iaload, 1) := by decide +kernel
theorem dL_law_285 : decode cL_law 285 = .ok (.aload_n 3, 1) := by decide +kernel
theorem dL_law_286 : decode cL_law 286 = .ok (.invokestatic 99, 3) := by decide +kernel
theorem dL_law_289 : decode cL_law 289 = .ok (.istore 5, 2) := by decide +kernel
theorem dL_law_291 : decode cL_law 291 = .ok (.aload_n 2, 1) := by decide +kernel
theorem dL_law_292 : decode cL_law 292 = .ok (.aload_n 0, 1) := by decide +kernel
theorem dL_law_293 : decode cL_law 293 = .ok (.iload 4, 2) := by decide +kernel
theorem dL_law_295 : decode cL_law 295 = .ok (.iconst 1, 1) := by decide +kernel
theorem dL_law_296 : decode cL_law 296 = .ok (.iadd, 1) := by decide +kernel
theorem dL_law_297 : decode cL_law 297 = .ok (.iaload, 1) := by decide +kernel
theorem dL_law_298 : decode cL_law 298 = .ok (.aload_n 0, 1) := by decide +kernel
theorem dL_law_299 : decode cL_law 299 = .ok (.iload 4, 2) := by decide +kernel
theorem dL_law_301 : decode cL_law 301 = .ok (.iconst 2, 1) := by decide +kernel
theorem dL_law_302 : decode cL_law 302 = .ok (.iadd, 1) := by decide +kernel
theorem dL_law_303 : decode cL_law 303 = .ok (.iaload, 1) := by decide +kernel
theorem dL_law_304 : decode cL_law 304 = .ok (.aload_n 0, 1) := by decide +kernel
theorem dL_law_305 : decode cL_law 305 = .ok (.iload 4, 2) := by decide +kernel
theorem dL_law_307 : decode cL_law 307 = .ok (.iconst 3, 1) := by decide +kernel
theorem dL_law_308 : decode cL_law 308 = .ok (.iadd, 1) := by decide +kernel
theorem dL_law_309 : decode cL_law 309 = .ok (.iaload, 1) := by decide +kernel
theorem dL_law_310 : decode cL_law 310 = .ok (.aload_n 0, 1) := by decide +kernel
theorem dL_law_311 : decode cL_law 311 = .ok (.iload 4, 2) := by decide +kernel
theorem dL_law_313 : decode cL_law 313 = .ok (.iconst 4, 1) := by decide +kernel
theorem dL_law_314 : decode cL_law 314 = .ok (.iadd, 1) := by decide +kernel
theorem dL_law_315 : decode cL_law 315 = .ok (.iaload, 1) := by decide +kernel
theorem dL_law_316 : decode cL_law 316 = .ok (.invokevirtual 102, 3) := by decide +kernel
theorem dL_law_319 : decode cL_law 319 = .ok (.istore 6, 2) := by decide +kernel
theorem dL_law_321 : decode cL_law 321 = .ok (.aload_n 2, 1) := by decide +kernel
theorem dL_law_322 : decode cL_law 322 = .ok (.invokevirtual 95, 3) := by decide +kernel
theorem dL_law_325 : decode cL_law 325 = .ok (.iload 5, 2) := by decide +kernel
theorem dL_law_327 : decode cL_law 327 = .ok (.if_icmp .eq 5, 3) := by decide +kernel
theorem dL_law_330 : decode cL_law 330 = .ok (.iconst 0, 1) := by decide +kernel
theorem dL_law_331 : decode cL_law 331 = .ok (.ireturn, 1) := by decide +kernel
theorem dL_law_332 : decode cL_law 332 = .ok (.iload 5, 2) := by decide +kernel
theorem dL_law_334 : decode cL_law 334 = .ok (.ifCond .ne 15, 3) := by decide +kernel
theorem dL_law_337 : decode cL_law 337 = .ok (.aload_n 3, 1) := by decide +kernel
theorem dL_law_338 : decode cL_law 338 = .ok (.iconst 0, 1) := by decide +kernel
theorem dL_law_339 : decode cL_law 339 = .ok (.laload, 1) := by decide +kernel
theorem dL_law_340 : decode cL_law 340 = .ok (.iload 6, 2) := by decide +kernel
theorem dL_law_342 : decode cL_law 342 = .ok (.i2l, 1) := by decide +kernel
theorem dL_law_343 : decode cL_law 343 = .ok (.lcmp, 1) := by decide +kernel
theorem dL_law_344 : decode cL_law 344 = .ok (.ifCond .eq 5, 3) := by decide +kernel
theorem dL_law_347 : decode cL_law 347 = .ok (.iconst 0, 1) := by decide +kernel
theorem dL_law_348 : decode cL_law 348 = .ok (.ireturn, 1) := by decide +kernel
theorem dL_law_349 : decode cL_law 349 = .ok (.goto 1318, 3) := by decide +kernel
theorem dL_law_352 : decode cL_law 352 = .ok (.aload_n 1, 1) := by decide +kernel
theorem dL_law_353 : decode cL_law 353 = .ok (.aload_n 0, 1) := by decide +kernel
theorem dL_law_354 : decode cL_law 354 = .ok (.iload 4, 2) := by decide +kernel
theorem dL_law_356 : decode cL_law 356 = .ok (.iconst 1, 1) := by decide +kernel
theorem dL_law_357 : decode cL_law 357 = .ok (.iadd, 1) := by decide +kernel
theorem dL_law_358 : decode cL_law 358 = .ok (.iaload, 1) := by decide +kernel
theorem dL_law_359 : decode cL_law 359 = .ok (.aload_n 0, 1) := by decide +kernel
theorem dL_law_360 : decode cL_law 360 = .ok (.iload 4, 2) := by decide +kernel
theorem dL_law_362 : decode cL_law 362 = .ok (.iconst 2, 1) := by decide +kernel
theorem dL_law_363 : decode cL_law 363 = .ok (.iadd, 1) := by decide +kernel
theorem dL_law_364 : decode cL_law 364 = .ok (.iaload, 1) := by decide +kernel
theorem dL_law_365 : decode cL_law 365 = .ok (.aload_n 3, 1) := by decide +kernel
theorem dL_law_366 : decode cL_law 366 = .ok (.invokestatic 103, 3) := by decide +kernel
theorem dL_law_369 : decode cL_law 369 = .ok (.istore 5, 2) := by decide +kernel
theorem dL_law_371 : decode cL_law 371 = .ok (.aload_n 2, 1) := by decide +kernel
theorem dL_law_372 : decode cL_law 372 = .ok (.aload_n 0, 1) := by decide +kernel
theorem dL_law_373 : decode cL_law 373 = .ok (.iload 4, 2) := by decide +kernel
theorem dL_law_375 : decode cL_law 375 = .ok (.iconst 1, 1) := by decide +kernel
theorem dL_law_376 : decode cL_law 376 = .ok (.iadd, 1) := by decide +kernel
theorem dL_law_377 : decode cL_law 377 = .ok (.iaload, 1) := by decide +kernel
theorem dL_law_378 : decode cL_law 378 = .ok (.aload_n 0, 1) := by decide +kernel
theorem dL_law_379 : decode cL_law 379 = .ok (.iload 4, 2) := by decide +kernel
theorem dL_law_381 : decode cL_law 381 = .ok (.iconst 2, 1) := by decide +kernel
theorem dL_law_382 : decode cL_law 382 = .ok (.iadd, 1) := by decide +kernel
theorem dL_law_383 : decode cL_law 383 = .ok (.iaload, 1) := by decide +kernel
theorem dL_law_384 : decode cL_law 384 = .ok (.invokevirtual 106, 3) := by decide +kernel
theorem dL_law_387 : decode cL_law 387 = .ok (.istore 6, 2) := by decide +kernel
theorem dL_law_389 : decode cL_law 389 = .ok (.aload_n 2, 1) := by decide +kernel
theorem dL_law_390 : decode cL_law 390 = .ok (.invokevirtual 95, 3) := by decide +kernel
theorem dL_law_393 : decode cL_law 393 = .ok (.iload 5, 2) := by decide +kernel
theorem dL_law_395 : decode cL_law 395 = .ok (.if_icmp .eq 5, 3) := by decide +kernel
theorem dL_law_398 : decode cL_law 398 = .ok (.iconst 0, 1) := by decide +kernel
theorem dL_law_399 : decode cL_law 399 = .ok (.ireturn, 1) := by decide +kernel
theorem dL_law_400 : decode cL_law 400 = .ok (.iload 5, 2) := by decide +kernel
theorem dL_law_402 : decode cL_law 402 = .ok (.ifCond .ne 22, 3) := by decide +kernel
theorem dL_law_405 : decode cL_law 405 = .ok (.aload_n 3, 1) := by decide +kernel
theorem dL_law_406 : decode cL_law 406 = .ok (.iconst 0, 1) := by decide +kernel
theorem dL_law_407 : decode cL_law 407 = .ok (.laload, 1) := by decide +kernel
theorem dL_law_408 : decode cL_law 408 = .ok (.iload 6, 2) := by decide +kernel
theorem dL_law_410 : decode cL_law 410 = .ok (.ifCond .eq 7, 3) := by decide +kernel
theorem dL_law_413 : decode cL_law 413 = .ok (.lconst 1, 1) := by decide +kernel
theorem dL_law_414 : decode cL_law 414 = .ok (.goto 4, 3) := by decide +kernel
theorem dL_law_417 : decode cL_law 417 = .ok (.lconst 0, 1) := by decide +kernel
theorem dL_law_418 : decode cL_law 418 = .ok (.lcmp, 1) := by decide +kernel
theorem dL_law_419 : decode cL_law 419 = .ok (.ifCond .eq 5, 3) := by decide +kernel
theorem dL_law_422 : decode cL_law 422 = .ok (.iconst 0, 1) := by decide +kernel
theorem dL_law_423 : decode cL_law 423 = .ok (.ireturn, 1) := by decide +kernel
theorem dL_law_424 : decode cL_law 424 = .ok (.goto 1243, 3) := by decide +kernel
theorem dL_law_427 : decode cL_law 427 = .ok (.aload_n 1, 1) := by decide +kernel
theorem dL_law_428 : decode cL_law 428 = .ok (.aload_n 0, 1) := by decide +kernel
theorem dL_law_429 : decode cL_law 429 = .ok (.iload 4, 2) := by decide +kernel
theorem dL_law_431 : decode cL_law 431 = .ok (.iconst 1, 1) := by decide +kernel
theorem dL_law_432 : decode cL_law 432 = .ok (.iadd, 1) := by decide +kernel
theorem dL_law_433 : decode cL_law 433 = .ok (.iaload, 1) := by decide +kernel
theorem dL_law_434 : decode cL_law 434 = .ok (.aload_n 0, 1) := by decide +kernel
theorem dL_law_435 : decode cL_law 435 = .ok (.iload 4, 2) := by decide +kernel
theorem dL_law_437 : decode cL_law 437 = .ok (.iconst 2, 1) := by decide +kernel
theorem dL_law_438 : decode cL_law 438 = .ok (.iadd, 1) := by decide +kernel
theorem dL_law_439 : decode cL_law 439 = .ok (.iaload, 1) := by decide +kernel
theorem dL_law_440 : decode cL_law 440 = .ok (.aload_n 0, 1) := by decide +kernel
theorem dL_law_441 : decode cL_law 441 = .ok (.iload 4, 2) := by decide +kernel
theorem dL_law_443 : decode cL_law 443 = .ok (.iconst 3, 1) := by decide +kernel
theorem dL_law_444 : decode cL_law 444 = .ok (.iadd, 1) := by decide +kernel
theorem dL_law_445 : decode cL_law 445 = .ok (.iaload, 1) := by decide +kernel
theorem dL_law_446 : decode cL_law 446 = .ok (.aload_n 3, 1) := by decide +kernel
theorem dL_law_447 : decode cL_law 447 = .ok (.invokestatic 107, 3) := by decide +kernel
theorem dL_law_450 : decode cL_law 450 = .ok (.istore 5, 2) := by decide +kernel
theorem dL_law_452 : decode cL_law 452 = .ok (.aload_n 2, 1) := by decide +kernel
theorem dL_law_453 : decode cL_law 453 = .ok (.aload_n 0, 1) := by decide +kernel
theorem dL_law_454 : decode cL_law 454 = .ok (.iload 4, 2) := by decide +kernel
theorem dL_law_456 : decode cL_law 456 = .ok (.iconst 1, 1) := by decide +kernel
theorem dL_law_457 : decode cL_law 457 = .ok (.iadd, 1) := by decide +kernel
theorem dL_law_458 : decode cL_law 458 = .ok (.iaload, 1) := by decide +kernel
theorem dL_law_459 : decode cL_law 459 = .ok (.aload_n 0, 1) := by decide +kernel
theorem dL_law_460 : decode cL_law 460 = .ok (.iload 4, 2) := by decide +kernel
theorem dL_law_462 : decode cL_law 462 = .ok (.iconst 2, 1) := by decide +kernel
theorem dL_law_463 : decode cL_law 463 = .ok (.iadd, 1) := by decide +kernel
theorem dL_law_464 : decode cL_law 464 = .ok (.iaload, 1) := by decide +kernel
theorem dL_law_465 : decode cL_law 465 = .ok (.aload_n 0, 1) := by decide +kernel
theorem dL_law_466 : decode cL_law 466 = .ok (.iload 4, 2) := by decide +kernel
theorem dL_law_468 : decode cL_law 468 = .ok (.iconst 3, 1) := by decide +kernel
theorem dL_law_469 : decode cL_law 469 = .ok (.iadd, 1) := by decide +kernel
theorem dL_law_470 : decode cL_law 470 = .ok (.iaload, 1) := by decide +kernel
theorem dL_law_471 : decode cL_law 471 = .ok (.invokevirtual 110, 3) := by decide +kernel
theorem dL_law_474 : decode cL_law 474 = .ok (.istore 6, 2) := by decide +kernel
theorem dL_law_476 : decode cL_law 476 = .ok (.aload_n 2, 1) := by decide +kernel
theorem dL_law_477 : decode cL_law 477 = .ok (.invokevirtual 95, 3) := by decide +kernel
theorem dL_law_480 : decode cL_law 480 = .ok (.iload 5, 2) := by decide +kernel
theorem dL_law_482 : decode cL_law 482 = .ok (.if_icmp .eq 5, 3) := by decide +kernel
theorem dL_law_485 : decode cL_law 485 = .ok (.iconst 0, 1) := by decide +kernel
theorem dL_law_486 : decode cL_law 486 = .ok (.ireturn, 1) := by decide +kernel
theorem dL_law_487 : decode cL_law 487 = .ok (.iload 5, 2) := by decide +kernel
theorem dL_law_489 : decode cL_law 489 = .ok (.ifCond .ne 15, 3) := by decide +kernel
theorem dL_law_492 : decode cL_law 492 = .ok (.aload_n 3, 1) := by decide +kernel
theorem dL_law_493 : decode cL_law 493 = .ok (.iconst 0, 1) := by decide +kernel
theorem dL_law_494 : decode cL_law 494 = .ok (.laload, 1) := by decide +kernel
theorem dL_law_495 : decode cL_law 495 = .ok (.iload 6, 2) := by decide +kernel
theorem dL_law_497 : decode cL_law 497 = .ok (.i2l, 1) := by decide +kernel
theorem dL_law_498 : decode cL_law 498 = .ok (.lcmp, 1) := by decide +kernel
theorem dL_law_499 : decode cL_law 499 = .ok (.ifCond .eq 5, 3) := by decide +kernel
theorem dL_law_502 : decode cL_law 502 = .ok (.iconst 0, 1) := by decide +kernel
theorem dL_law_503 : decode cL_law 503 = .ok (.ireturn, 1) := by decide +kernel
theorem dL_law_504 : decode cL_law 504 = .ok (.goto 1163, 3) := by decide +kernel
theorem dL_law_507 : decode cL_law 507 = .ok (.aload_n 1, 1) := by decide +kernel
theorem dL_law_508 : decode cL_law 508 = .ok (.aload_n 0, 1) := by decide +kernel
theorem dL_law_509 : decode cL_law 509 = .ok (.iload 4, 2) := by decide +kernel
theorem dL_law_511 : decode cL_law 511 = .ok (.iconst 1, 1) := by decide +kernel
theorem dL_law_512 : decode cL_law 512 = .ok (.iadd, 1) := by decide +kernel
theorem dL_law_513 : decode cL_law 513 = .ok (.iaload, 1) := by decide +kernel
theorem dL_law_514 : decode cL_law 514 = .ok (.aload_n 0, 1) := by decide +kernel
theorem dL_law_515 : decode cL_law 515 = .ok (.iload 4, 2) := by decide +kernel
theorem dL_law_517 : decode cL_law 517 = .ok (.iconst 2, 1) := by decide +kernel
theorem dL_law_518 : decode cL_law 518 = .ok (.iadd, 1) := by decide +kernel
theorem dL_law_519 : decode cL_law 519 = .ok (.iaload, 1) := by decide +kernel
theorem dL_law_520 : decode cL_law 520 = .ok (.aload_n 3, 1) := by decide +kernel
theorem dL_law_521 : decode cL_law 521 = .ok (.invokestatic 111, 3) := by decide +kernel
theorem dL_law_524 : decode cL_law 524 = .ok (.istore 5, 2) := by decide +kernel
theorem dL_law_526 : decode cL_law 526 = .ok (.aload_n 2, 1) := by decide +kernel
theorem dL_law_527 : decode cL_law 527 = .ok (.aload_n 0, 1) := by decide +kernel
theorem dL_law_528 : decode cL_law 528 = .ok (.iload 4, 2) := by decide +kernel
theorem dL_law_530 : decode cL_law 530 = .ok (.iconst 1, 1) := by decide +kernel
theorem dL_law_531 : decode cL_law 531 = .ok (.iadd, 1) := by decide +kernel
theorem dL_law_532 : decode cL_law 532 = .ok (.iaload, 1) := by decide +kernel
theorem dL_law_533 : decode cL_law 533 = .ok (.aload_n 0, 1) := by decide +kernel
theorem dL_law_534 : decode cL_law 534 = .ok (.iload 4, 2) := by decide +kernel
theorem dL_law_536 : decode cL_law 536 = .ok (.iconst 2, 1) := by decide +kernel
theorem dL_law_537 : decode cL_law 537 = .ok (.iadd, 1) := by decide +kernel
theorem dL_law_538 : decode cL_law 538 = .ok (.iaload, 1) := by decide +kernel
theorem dL_law_539 : decode cL_law 539 = .ok (.invokevirtual 113, 3) := by decide +kernel
theorem dL_law_542 : decode cL_law 542 = .ok (.istore 6, 2) := by decide +kernel
theorem dL_law_544 : decode cL_law 544 = .ok (.aload_n 2, 1) := by decide +kernel
theorem dL_law_545 : decode cL_law 545 = .ok (.invokevirtual 95, 3) := by decide +kernel
theorem dL_law_548 : decode cL_law 548 = .ok (.iload 5, 2) := by decide +kernel
theorem dL_law_550 : decode cL_law 550 = .ok (.if_icmp .eq 5, 3) := by decide +kernel
theorem dL_law_553 : decode cL_law 553 = .ok (.iconst 0, 1) := by decide +kernel
theorem dL_law_554 : decode cL_law 554 = .ok (.ireturn, 1) := by decide +kernel
theorem dL_law_555 : decode cL_law 555 = .ok (.iload 5, 2) := by decide +kernel
theorem dL_law_557 : decode cL_law 557 = .ok (.ifCond .ne 15, 3) := by decide +kernel
theorem dL_law_560 : decode cL_law 560 = .ok (.aload_n 3, 1) := by decide +kernel
theorem dL_law_561 : decode cL_law 561 = .ok (.iconst 0, 1) := by decide +kernel
theorem dL_law_562 : decode cL_law 562 = .ok (.laload, 1) := by decide +kernel
theorem dL_law_563 : decode cL_law 563 = .ok (.iload 6, 2) := by decide +kernel
theorem dL_law_565 : decode cL_law 565 = .ok (.i2l, 1) := by decide +kernel
theorem dL_law_566 : decode cL_law 566 = .ok (.lcmp, 1) := by decide +kernel
theorem dL_law_567 : decode cL_law 567 = .ok (.ifCond .eq 5, 3) := by decide +kernel
theorem dL_law_570 : decode cL_law 570 = .ok (.iconst 0, 1) := by decide +kernel
theorem dL_law_571 : decode cL_law 571 = .ok (.ireturn, 1) := by decide +kernel
theorem dL_law_572 : decode cL_law 572 = .ok (.goto 1095, 3) := by decide +kernel
theorem dL_law_575 : decode cL_law 575 = .ok (.aload_n 1, 1) := by decide +kernel
theorem dL_law_576 : decode cL_law 576 = .ok (.aload_n 0, 1) := by decide +kernel
theorem dL_law_577 : decode cL_law 577 = .ok (.iload 4, 2) := by decide +kernel
theorem dL_law_579 : decode cL_law 579 = .ok (.iconst 1, 1) := by decide +kernel
theorem dL_law_580 : decode cL_law 580 = .ok (.iadd, 1) := by decide +kernel
theorem dL_law_581 : decode cL_law 581 = .ok (.iaload, 1) := by decide +kernel
theorem dL_law_582 : decode cL_law 582 = .ok (.aload_n 0, 1) := by decide +kernel
theorem dL_law_583 : decode cL_law 583 = .ok (.iload 4, 2) := by decide +kernel
theorem dL_law_585 : decode cL_law 585 = .ok (.iconst 2, 1) := by decide +kernel
theorem dL_law_586 : decode cL_law 586 = .ok (.iadd, 1) := by decide +kernel
theorem dL_law_587 : decode cL_law 587 = .ok (.iaload, 1) := by decide +kernel
theorem dL_law_588 : decode cL_law 588 = .ok (.aload_n 3, 1) := by decide +kernel
theorem dL_law_589 : decode cL_law 589 = .ok (.invokestatic 114, 3) := by decide +kernel
theorem dL_law_592 : decode cL_law 592 = .ok (.istore 5, 2) := by decide +kernel
theorem dL_law_594 : decode cL_law 594 = .ok (.aload_n 2, 1) := by decide +kernel
theorem dL_law_595 : decode cL_law 595 = .ok (.aload_n 0, 1) := by decide +kernel
theorem dL_law_596 : decode cL_law 596 = .ok (.iload 4, 2) := by decide +kernel
theorem dL_law_598 : decode cL_law 598 = .ok (.iconst 1, 1) := by decide +kernel
theorem dL_law_599 : decode cL_law 599 = .ok (.iadd, 1) := by decide +kernel
theorem dL_law_600 : decode cL_law 600 = .ok (.iaload, 1) := by decide +kernel
theorem dL_law_601 : decode cL_law 601 = .ok (.aload_n 0, 1) := by decide +kernel
theorem dL_law_602 : decode cL_law 602 = .ok (.iload 4, 2) := by decide +kernel
theorem dL_law_604 : decode cL_law 604 = .ok (.iconst 2, 1) := by decide +kernel
theorem dL_law_605 : decode cL_law 605 = .ok (.iadd, 1) := by decide +kernel
theorem dL_law_606 : decode cL_law 606 = .ok (.iaload, 1) := by decide +kernel
theorem dL_law_607 : decode cL_law 607 = .ok (.invokevirtual 116, 3) := by decide +kernel
theorem dL_law_610 : decode cL_law 610 = .ok (.istore 6, 2) := by decide +kernel
theorem dL_law_612 : decode cL_law 612 = .ok (.aload_n 2, 1) := by decide +kernel
theorem dL_law_613 : decode cL_law 613 = .ok (.invokevirtual 95, 3) := by decide +kernel
theorem dL_law_616 : decode cL_law 616 = .ok (.iload 5, 2) := by decide +kernel
theorem dL_law_618 : decode cL_law 618 = .ok (.if_icmp .eq 5, 3) := by decide +kernel
theorem dL_law_621 : decode cL_law 621 = .ok (.iconst 0, 1) := by decide +kernel
theorem dL_law_622 : decode cL_law 622 = .ok (.ireturn, 1) := by decide +kernel
theorem dL_law_623 : decode cL_law 623 = .ok (.iload 5, 2) := by decide +kernel
theorem dL_law_625 : decode cL_law 625 = .ok (.ifCond .ne 15, 3) := by decide +kernel
theorem dL_law_628 : decode cL_law 628 = .ok (.aload_n 3, 1) := by decide +kernel
theorem dL_law_629 : decode cL_law 629 = .ok (.iconst 0, 1) := by decide +kernel
theorem dL_law_630 : decode cL_law 630 = .ok (.laload, 1) := by decide +kernel
theorem dL_law_631 : decode cL_law 631 = .ok (.iload 6, 2) := by decide +kernel
theorem dL_law_633 : decode cL_law 633 = .ok (.i2l, 1) := by decide +kernel
theorem dL_law_634 : decode cL_law 634 = .ok (.lcmp, 1) := by decide +kernel
theorem dL_law_635 : decode cL_law 635 = .ok (.ifCond .eq 5, 3) := by decide +kernel
theorem dL_law_638 : decode cL_law 638 = .ok (.iconst 0, 1) := by decide +kernel
theorem dL_law_639 : decode cL_law 639 = .ok (.ireturn, 1) := by decide +kernel
theorem dL_law_640 : decode cL_law 640 = .ok (.goto 1027, 3) := by decide +kernel
theorem dL_law_643 : decode cL_law 643 = .ok (.aload_n 1, 1) := by decide +kernel
theorem dL_law_644 : decode cL_law 644 = .ok (.aload_n 0, 1) := by decide +kernel
theorem dL_law_645 : decode cL_law 645 = .ok (.iload 4, 2) := by decide +kernel
theorem dL_law_647 : decode cL_law 647 = .ok (.iconst 1, 1) := by decide +kernel
theorem dL_law_648 : decode cL_law 648 = .ok (.iadd, 1) := by decide +kernel
theorem dL_law_649 : decode cL_law 649 = .ok (.iaload, 1) := by decide +kernel
theorem dL_law_650 : decode cL_law 650 = .ok (.aload_n 0, 1) := by decide +kernel
theorem dL_law_651 : decode cL_law 651 = .ok (.iload 4, 2) := by decide +kernel
theorem dL_law_653 : decode cL_law 653 = .ok (.iconst 2, 1) := by decide +kernel
theorem dL_law_654 : decode cL_law 654 = .ok (.iadd, 1) := by decide +kernel
theorem dL_law_655 : decode cL_law 655 = .ok (.iaload, 1) := by decide +kernel
theorem dL_law_656 : decode cL_law 656 = .ok (.aload_n 3, 1) := by decide +kernel
theorem dL_law_657 : decode cL_law 657 = .ok (.invokestatic 117, 3) := by decide +kernel
theorem dL_law_660 : decode cL_law 660 = .ok (.istore 5, 2) := by decide +kernel
theorem dL_law_662 : decode cL_law 662 = .ok (.aload_n 2, 1) := by decide +kernel
theorem dL_law_663 : decode cL_law 663 = .ok (.aload_n 0, 1) := by decide +kernel
theorem dL_law_664 : decode cL_law 664 = .ok (.iload 4, 2) := by decide +kernel
theorem dL_law_666 : decode cL_law 666 = .ok (.iconst 1, 1) := by decide +kernel
theorem dL_law_667 : decode cL_law 667 = .ok (.iadd, 1) := by decide +kernel
theorem dL_law_668 : decode cL_law 668 = .ok (.iaload, 1) := by decide +kernel
theorem dL_law_669 : decode cL_law 669 = .ok (.aload_n 0, 1) := by decide +kernel
theorem dL_law_670 : decode cL_law 670 = .ok (.iload 4, 2) := by decide +kernel
theorem dL_law_672 : decode cL_law 672 = .ok (.iconst 2, 1) := by decide +kernel
theorem dL_law_673 : decode cL_law 673 = .ok (.iadd, 1) := by decide +kernel
theorem dL_law_674 : decode cL_law 674 = .ok (.iaload, 1) := by decide +kernel
theorem dL_law_675 : decode cL_law 675 = .ok (.invokevirtual 119, 3) := by decide +kernel
theorem dL_law_678 : decode cL_law 678 = .ok (.istore 6, 2) := by decide +kernel
theorem dL_law_680 : decode cL_law 680 = .ok (.aload_n 2, 1) := by decide +kernel
theorem dL_law_681 : decode cL_law 681 = .ok (.invokevirtual 95, 3) := by decide +kernel
theorem dL_law_684 : decode cL_law 684 = .ok (.iload 5, 2) := by decide +kernel
theorem dL_law_686 : decode cL_law 686 = .ok (.if_icmp .eq 5, 3) := by decide +kernel
theorem dL_law_689 : decode cL_law 689 = .ok (.iconst 0, 1) := by decide +kernel
theorem dL_law_690 : decode cL_law 690 = .ok (.ireturn, 1) := by decide +kernel
theorem dL_law_691 : decode cL_law 691 = .ok (.iload 5, 2) := by decide +kernel
theorem dL_law_693 : decode cL_law 693 = .ok (.ifCond .ne 15, 3) := by decide +kernel
theorem dL_law_696 : decode cL_law 696 = .ok (.aload_n 3, 1) := by decide +kernel
theorem dL_law_697 : decode cL_law 697 = .ok (.iconst 0, 1) := by decide +kernel
theorem dL_law_698 : decode cL_law 698 = .ok (.laload, 1) := by decide +kernel
theorem dL_law_699 : decode cL_law 699 = .ok (.iload 6, 2) := by decide +kernel
theorem dL_law_701 : decode cL_law 701 = .ok (.i2l, 1) := by decide +kernel
theorem dL_law_702 : decode cL_law 702 = .ok (.lcmp, 1) := by decide +kernel
theorem dL_law_703 : decode cL_law 703 = .ok (.ifCond .eq 5, 3) := by decide +kernel
theorem dL_law_706 : decode cL_law 706 = .ok (.iconst 0, 1) := by decide +kernel
theorem dL_law_707 : decode cL_law 707 = .ok (.ireturn, 1) := by decide +kernel
theorem dL_law_708 : decode cL_law 708 = .ok (.goto 959, 3) := by decide +kernel
theorem dL_law_711 : decode cL_law 711 = .ok (.aload_n 1, 1) := by decide +kernel
theorem dL_law_712 : decode cL_law 712 = .ok (.aload_n 0, 1) := by decide +kernel
theorem dL_law_713 : decode cL_law 713 = .ok (.iload 4, 2) := by decide +kernel
theorem dL_law_715 : decode cL_law 715 = .ok (.iconst 1, 1) := by decide +kernel
theorem dL_law_716 : decode cL_law 716 = .ok (.iadd, 1) := by decide +kernel
theorem dL_law_717 : decode cL_law 717 = .ok (.iaload, 1) := by decide +kernel
theorem dL_law_718 : decode cL_law 718 = .ok (.aload_n 0, 1) := by decide +kernel
theorem dL_law_719 : decode cL_law 719 = .ok (.iload 4, 2) := by decide +kernel
theorem dL_law_721 : decode cL_law 721 = .ok (.iconst 2, 1) := by decide +kernel
theorem dL_law_722 : decode cL_law 722 = .ok (.iadd, 1) := by decide +kernel
theorem dL_law_723 : decode cL_law 723 = .ok (.iaload, 1) := by decide +kernel
theorem dL_law_724 : decode cL_law 724 = .ok (.aload_n 0, 1) := by decide +kernel
theorem dL_law_725 : decode cL_law 725 = .ok (.iload 4, 2) := by decide +kernel
theorem dL_law_727 : decode cL_law 727 = .ok (.iconst 3, 1) := by decide +kernel
theorem dL_law_728 : decode cL_law 728 = .ok (.iadd, 1) := by decide +kernel
theorem dL_law_729 : decode cL_law 729 = .ok (.iaload, 1) := by decide +kernel
theorem dL_law_730 : decode cL_law 730 = .ok (.aload_n 0, 1) := by decide +kernel
theorem dL_law_731 : decode cL_law 731 = .ok (.iload 4, 2) := by decide +kernel
theorem dL_law_733 : decode cL_law 733 = .ok (.iconst 4, 1) := by decide +kernel
theorem dL_law_734 : decode cL_law 734 = .ok (.iadd, 1) := by decide +kernel
theorem dL_law_735 : decode cL_law 735 = .ok (.iaload, 1) := by decide +kernel
theorem dL_law_736 : decode cL_law 736 = .ok (.aload_n 3, 1) := by decide +kernel
theorem dL_law_737 : decode cL_law 737 = .ok (.invokestatic 120, 3) := by decide +kernel
theorem dL_law_740 : decode cL_law 740 = .ok (.istore 5, 2) := by decide +kernel
theorem dL_law_742 : decode cL_law 742 = .ok (.aload_n 2, 1) := by decide +kernel
theorem dL_law_743 : decode cL_law 743 = .ok (.aload_n 0, 1) := by decide +kernel
theorem dL_law_744 : decode cL_law 744 = .ok (.iload 4, 2) := by decide +kernel
theorem dL_law_746 : decode cL_law 746 = .ok (.iconst 1, 1) := by decide +kernel
theorem dL_law_747 : decode cL_law 747 = .ok (.iadd, 1) := by decide +kernel
theorem dL_law_748 : decode cL_law 748 = .ok (.iaload, 1) := by decide +kernel
theorem dL_law_749 : decode cL_law 749 = .ok (.aload_n 0, 1) := by decide +kernel
theorem dL_law_750 : decode cL_law 750 = .ok (.iload 4, 2) := by decide +kernel
theorem dL_law_752 : decode cL_law 752 = .ok (.iconst 2, 1) := by decide +kernel
theorem dL_law_753 : decode cL_law 753 = .ok (.iadd, 1) := by decide +kernel
theorem dL_law_754 : decode cL_law 754 = .ok (.iaload, 1) := by decide +kernel
theorem dL_law_755 : decode cL_law 755 = .ok (.aload_n 0, 1) := by decide +kernel
theorem dL_law_756 : decode cL_law 756 = .ok (.iload 4, 2) := by decide +kernel
theorem dL_law_758 : decode cL_law 758 = .ok (.iconst 3, 1) := by decide +kernel
theorem dL_law_759 : decode cL_law 759 = .ok (.iadd, 1) := by decide +kernel
theorem dL_law_760 : decode cL_law 760 = .ok (.iaload, 1) := by decide +kernel
theorem dL_law_761 : decode cL_law 761 = .ok (.aload_n 0, 1) := by decide +kernel
theorem dL_law_762 : decode cL_law 762 = .ok (.iload 4, 2) := by decide +kernel
theorem dL_law_764 : decode cL_law 764 = .ok (.iconst 4, 1) := by decide +kernel
theorem dL_law_765 : decode cL_law 765 = .ok (.iadd, 1) := by decide +kernel
theorem dL_law_766 : decode cL_law 766 = .ok (.iaload, 1) := by decide +kernel
theorem dL_law_767 : decode cL_law 767 = .ok (.invokevirtual 122, 3) := by decide +kernel
theorem dL_law_770 : decode cL_law 770 = .ok (.istore 6, 2) := by decide +kernel
theorem dL_law_772 : decode cL_law 772 = .ok (.aload_n 2, 1) := by decide +kernel
theorem dL_law_773 : decode cL_law 773 = .ok (.invokevirtual 95, 3) := by decide +kernel
theorem dL_law_776 : decode cL_law 776 = .ok (.iload 5, 2) := by decide +kernel
theorem dL_law_778 : decode cL_law 778 = .ok (.if_icmp .eq 5, 3) := by decide +kernel
theorem dL_law_781 : decode cL_law 781 = .ok (.iconst 0, 1) := by decide +kernel
theorem dL_law_782 : decode cL_law 782 = .ok (.ireturn, 1) := by decide +kernel
theorem dL_law_783 : decode cL_law 783 = .ok (.iload 5, 2) := by decide +kernel
theorem dL_law_785 : decode cL_law 785 = .ok (.ifCond .ne 15, 3) := by decide +kernel
theorem dL_law_788 : decode cL_law 788 = .ok (.aload_n 3, 1) := by decide +kernel
theorem dL_law_789 : decode cL_law 789 = .ok (.iconst 0, 1) := by decide +kernel
theorem dL_law_790 : decode cL_law 790 = .ok (.laload, 1) := by decide +kernel
theorem dL_law_791 : decode cL_law 791 = .ok (.iload 6, 2) := by decide +kernel
theorem dL_law_793 : decode cL_law 793 = .ok (.i2l, 1) := by decide +kernel
theorem dL_law_794 : decode cL_law 794 = .ok (.lcmp, 1) := by decide +kernel
theorem dL_law_795 : decode cL_law 795 = .ok (.ifCond .eq 5, 3) := by decide +kernel
theorem dL_law_798 : decode cL_law 798 = .ok (.iconst 0, 1) := by decide +kernel
theorem dL_law_799 : decode cL_law 799 = .ok (.ireturn, 1) := by decide +kernel
theorem dL_law_800 : decode cL_law 800 = .ok (.goto 867, 3) := by decide +kernel
theorem dL_law_803 : decode cL_law 803 = .ok (.aload_n 1, 1) := by decide +kernel
theorem dL_law_804 : decode cL_law 804 = .ok (.aload_n 0, 1) := by decide +kernel
theorem dL_law_805 : decode cL_law 805 = .ok (.iload 4, 2) := by decide +kernel
theorem dL_law_807 : decode cL_law 807 = .ok (.iconst 1, 1) := by decide +kernel
theorem dL_law_808 : decode cL_law 808 = .ok (.iadd, 1) := by decide +kernel
theorem dL_law_809 : decode cL_law 809 = .ok (.iaload, 1) := by decide +kernel
theorem dL_law_810 : decode cL_law 810 = .ok (.aload_n 0, 1) := by decide +kernel
theorem dL_law_811 : decode cL_law 811 = .ok (.iload 4, 2) := by decide +kernel
theorem dL_law_813 : decode cL_law 813 = .ok (.iconst 2, 1) := by decide +kernel
theorem dL_law_814 : decode cL_law 814 = .ok (.iadd, 1) := by decide +kernel
theorem dL_law_815 : decode cL_law 815 = .ok (.iaload, 1) := by decide +kernel
theorem dL_law_816 : decode cL_law 816 = .ok (.aload_n 3, 1) := by decide +kernel
theorem dL_law_817 : decode cL_law 817 = .ok (.invokestatic 123, 3) := by decide +kernel
theorem dL_law_820 : decode cL_law 820 = .ok (.istore 5, 2) := by decide +kernel
theorem dL_law_822 : decode cL_law 822 = .ok (.aload_n 2, 1) := by decide +kernel
theorem dL_law_823 : decode cL_law 823 = .ok (.aload_n 0, 1) := by decide +kernel
theorem dL_law_824 : decode cL_law 824 = .ok (.iload 4, 2) := by decide +kernel
theorem dL_law_826 : decode cL_law 826 = .ok (.iconst 1, 1) := by decide +kernel
theorem dL_law_827 : decode cL_law 827 = .ok (.iadd, 1) := by decide +kernel
theorem dL_law_828 : decode cL_law 828 = .ok (.iaload, 1) := by decide +kernel
theorem dL_law_829 : decode cL_law 829 = .ok (.aload_n 0, 1) := by decide +kernel
theorem dL_law_830 : decode cL_law 830 = .ok (.iload 4, 2) := by decide +kernel
theorem dL_law_832 : decode cL_law 832 = .ok (.iconst 2, 1) := by decide +kernel
theorem dL_law_833 : decode cL_law 833 = .ok (.iadd, 1) := by decide +kernel
theorem dL_law_834 : decode cL_law 834 = .ok (.iaload, 1) := by decide +kernel
theorem dL_law_835 : decode cL_law 835 = .ok (.invokevirtual 125, 3) := by decide +kernel
theorem dL_law_838 : decode cL_law 838 = .ok (.istore 6, 2) := by decide +kernel
theorem dL_law_840 : decode cL_law 840 = .ok (.aload_n 2, 1) := by decide +kernel
theorem dL_law_841 : decode cL_law 841 = .ok (.invokevirtual 95, 3) := by decide +kernel
theorem dL_law_844 : decode cL_law 844 = .ok (.iload 5, 2) := by decide +kernel
theorem dL_law_846 : decode cL_law 846 = .ok (.if_icmp .eq 5, 3) := by decide +kernel
theorem dL_law_849 : decode cL_law 849 = .ok (.iconst 0, 1) := by decide +kernel
theorem dL_law_850 : decode cL_law 850 = .ok (.ireturn, 1) := by decide +kernel
theorem dL_law_851 : decode cL_law 851 = .ok (.iload 5, 2) := by decide +kernel
theorem dL_law_853 : decode cL_law 853 = .ok (.ifCond .ne 15, 3) := by decide +kernel
theorem dL_law_856 : decode cL_law 856 = .ok (.aload_n 3, 1) := by decide +kernel
theorem dL_law_857 : decode cL_law 857 = .ok (.iconst 0, 1) := by decide +kernel
theorem dL_law_858 : decode cL_law 858 = .ok (.laload, 1) := by decide +kernel
theorem dL_law_859 : decode cL_law 859 = .ok (.iload 6, 2) := by decide +kernel
theorem dL_law_861 : decode cL_law 861 = .ok (.i2l, 1) := by decide +kernel
theorem dL_law_862 : decode cL_law 862 = .ok (.lcmp, 1) := by decide +kernel
theorem dL_law_863 : decode cL_law 863 = .ok (.ifCond .eq 5, 3) := by decide +kernel
theorem dL_law_866 : decode cL_law 866 = .ok (.iconst 0, 1) := by decide +kernel
theorem dL_law_867 : decode cL_law 867 = .ok (.ireturn, 1) := by decide +kernel
theorem dL_law_868 : decode cL_law 868 = .ok (.goto 799, 3) := by decide +kernel
theorem dL_law_871 : decode cL_law 871 = .ok (.aload_n 1, 1) := by decide +kernel
theorem dL_law_872 : decode cL_law 872 = .ok (.invokevirtual 126, 3) := by decide +kernel
theorem dL_law_875 : decode cL_law 875 = .ok (.aload_n 2, 1) := by decide +kernel
theorem dL_law_876 : decode cL_law 876 = .ok (.invokevirtual 129, 3) := by decide +kernel
theorem dL_law_879 : decode cL_law 879 = .ok (.if_icmp .eq 788, 3) := by decide +kernel
theorem dL_law_882 : decode cL_law 882 = .ok (.iconst 0, 1) := by decide +kernel
theorem dL_law_883 : decode cL_law 883 = .ok (.ireturn, 1) := by decide +kernel
theorem dL_law_884 : decode cL_law 884 = .ok (.aload_n 1, 1) := by decide +kernel
theorem dL_law_885 : decode cL_law 885 = .ok (.aload_n 0, 1) := by decide +kernel
theorem dL_law_886 : decode cL_law 886 = .ok (.iload 4, 2) := by decide +kernel
theorem dL_law_888 : decode cL_law 888 = .ok (.iconst 1, 1) := by decide +kernel
theorem dL_law_889 : decode cL_law 889 = .ok (.iadd, 1) := by decide +kernel
theorem dL_law_890 : decode cL_law 890 = .ok (.iaload, 1) := by decide +kernel
theorem dL_law_891 : decode cL_law 891 = .ok (.aload_n 3, 1) := by decide +kernel
theorem dL_law_892 : decode cL_law 892 = .ok (.invokestatic 130, 3) := by decide +kernel
theorem dL_law_895 : decode cL_law 895 = .ok (.istore 5, 2) := by decide +kernel
theorem dL_law_897 : decode cL_law 897 = .ok (.aload_n 2, 1) := by decide +kernel
theorem dL_law_898 : decode cL_law 898 = .ok (.aload_n 0, 1) := by decide +kernel
theorem dL_law_899 : decode cL_law 899 = .ok (.iload 4, 2) := by decide +kernel
theorem dL_law_901 : decode cL_law 901 = .ok (.iconst 1, 1) := by decide +kernel
theorem dL_law_902 : decode cL_law 902 = .ok (.iadd, 1) := by decide +kernel
theorem dL_law_903 : decode cL_law 903 = .ok (.iaload, 1) := by decide +kernel
theorem dL_law_904 : decode cL_law 904 = .ok (.invokevirtual 133, 3) := by decide +kernel
theorem dL_law_907 : decode cL_law 907 = .ok (.istore 6, 2) := by decide +kernel
theorem dL_law_909 : decode cL_law 909 = .ok (.aload_n 2, 1) := by decide +kernel
theorem dL_law_910 : decode cL_law 910 = .ok (.invokevirtual 95, 3) := by decide +kernel
theorem dL_law_913 : decode cL_law 913 = .ok (.iload 5, 2) := by decide +kernel
theorem dL_law_915 : decode cL_law 915 = .ok (.if_icmp .eq 5, 3) := by decide +kernel
theorem dL_law_918 : decode cL_law 918 = .ok (.iconst 0, 1) := by decide +kernel
theorem dL_law_919 : decode cL_law 919 = .ok (.ireturn, 1) := by decide +kernel
theorem dL_law_920 : decode cL_law 920 = .ok (.iload 5, 2) := by decide +kernel
theorem dL_law_922 : decode cL_law 922 = .ok (.ifCond .ne 15, 3) := by decide +kernel
theorem dL_law_925 : decode cL_law 925 = .ok (.aload_n 3, 1) := by decide +kernel
theorem dL_law_926 : decode cL_law 926 = .ok (.iconst 0, 1) := by decide +kernel
theorem dL_law_927 : decode cL_law 927 = .ok (.laload, 1) := by decide +kernel
theorem dL_law_928 : decode cL_law 928 = .ok (.iload 6, 2) := by decide +kernel
theorem dL_law_930 : decode cL_law 930 = .ok (.i2l, 1) := by decide +kernel
theorem dL_law_931 : decode cL_law 931 = .ok (.lcmp, 1) := by decide +kernel
theorem dL_law_932 : decode cL_law 932 = .ok (.ifCond .eq 5, 3) := by decide +kernel
theorem dL_law_935 : decode cL_law 935 = .ok (.iconst 0, 1) := by decide +kernel
theorem dL_law_936 : decode cL_law 936 = .ok (.ireturn, 1) := by decide +kernel
theorem dL_law_937 : decode cL_law 937 = .ok (.goto 730, 3) := by decide +kernel
theorem dL_law_940 : decode cL_law 940 = .ok (.aload_n 1, 1) := by decide +kernel
theorem dL_law_941 : decode cL_law 941 = .ok (.aload_n 0, 1) := by decide +kernel
theorem dL_law_942 : decode cL_law 942 = .ok (.iload 4, 2) := by decide +kernel
theorem dL_law_944 : decode cL_law 944 = .ok (.iconst 1, 1) := by decide +kernel
theorem dL_law_945 : decode cL_law 945 = .ok (.iadd, 1) := by decide +kernel
theorem dL_law_946 : decode cL_law 946 = .ok (.iaload, 1) := by decide +kernel
theorem dL_law_947 : decode cL_law 947 = .ok (.aload_n 3, 1) := by decide +kernel
theorem dL_law_948 : decode cL_law 948 = .ok (.invokestatic 134, 3) := by decide +kernel
theorem dL_law_951 : decode cL_law 951 = .ok (.istore 5, 2) := by decide +kernel
theorem dL_law_953 : decode cL_law 953 = .ok (.aload_n 2, 1) := by decide +kernel
theorem dL_law_954 : decode cL_law 954 = .ok (.aload_n 0, 1) := by decide +kernel
theorem dL_law_955 : decode cL_law 955 = .ok (.iload 4, 2) := by decide +kernel
theorem dL_law_957 : decode cL_law 957 = .ok (.iconst 1, 1) := by decide +kernel
theorem dL_law_958 : decode cL_law 958 = .ok (.iadd, 1) := by decide +kernel
theorem dL_law_959 : decode cL_law 959 = .ok (.iaload, 1) := by decide +kernel
theorem dL_law_960 : decode cL_law 960 = .ok (.invokevirtual 136, 3) := by decide +kernel
theorem dL_law_963 : decode cL_law 963 = .ok (.istore 6, 2) := by decide +kernel
theorem dL_law_965 : decode cL_law 965 = .ok (.aload_n 2, 1) := by decide +kernel
theorem dL_law_966 : decode cL_law 966 = .ok (.invokevirtual 95, 3) := by decide +kernel
theorem dL_law_969 : decode cL_law 969 = .ok (.iload 5, 2) := by decide +kernel
theorem dL_law_971 : decode cL_law 971 = .ok (.if_icmp .eq 5, 3) := by decide +kernel
theorem dL_law_974 : decode cL_law 974 = .ok (.iconst 0, 1) := by decide +kernel
theorem dL_law_975 : decode cL_law 975 = .ok (.ireturn, 1) := by decide +kernel
theorem dL_law_976 : decode cL_law 976 = .ok (.iload 5, 2) := by decide +kernel
theorem dL_law_978 : decode cL_law 978 = .ok (.ifCond .ne 22, 3) := by decide +kernel
theorem dL_law_981 : decode cL_law 981 = .ok (.aload_n 3, 1) := by decide +kernel
theorem dL_law_982 : decode cL_law 982 = .ok (.iconst 0, 1) := by decide +kernel
theorem dL_law_983 : decode cL_law 983 = .ok (.laload, 1) := by decide +kernel
theorem dL_law_984 : decode cL_law 984 = .ok (.iload 6, 2) := by decide +kernel
theorem dL_law_986 : decode cL_law 986 = .ok (.ifCond .eq 7, 3) := by decide +kernel
theorem dL_law_989 : decode cL_law 989 = .ok (.lconst 1, 1) := by decide +kernel
theorem dL_law_990 : decode cL_law 990 = .ok (.goto 4, 3) := by decide +kernel
theorem dL_law_993 : decode cL_law 993 = .ok (.lconst 0, 1) := by decide +kernel
theorem dL_law_994 : decode cL_law 994 = .ok (.lcmp, 1) := by decide +kernel
theorem dL_law_995 : decode cL_law 995 = .ok (.ifCond .eq 5, 3) := by decide +kernel
theorem dL_law_998 : decode cL_law 998 = .ok (.iconst 0, 1) := by decide +kernel
theorem dL_law_999 : decode cL_law 999 = .ok (.ireturn, 1) := by decide +kernel
theorem dL_law_1000 : decode cL_law 1000 = .ok (.goto 667, 3) := by decide +kernel
theorem dL_law_1003 : decode cL_law 1003 = .ok (.aload_n 1, 1) := by decide +kernel
theorem dL_law_1004 : decode cL_law 1004 = .ok (.aload_n 0, 1) := by decide +kernel
theorem dL_law_1005 : decode cL_law 1005 = .ok (.iload 4, 2) := by decide +kernel
theorem dL_law_1007 : decode cL_law 1007 = .ok (.iconst 1, 1) := by decide +kernel
theorem dL_law_1008 : decode cL_law 1008 = .ok (.iadd, 1) := by decide +kernel
theorem dL_law_1009 : decode cL_law 1009 = .ok (.iaload, 1) := by decide +kernel
theorem dL_law_1010 : decode cL_law 1010 = .ok (.aload_n 0, 1) := by decide +kernel
theorem dL_law_1011 : decode cL_law 1011 = .ok (.iload 4, 2) := by decide +kernel
theorem dL_law_1013 : decode cL_law 1013 = .ok (.iconst 2, 1) := by decide +kernel
theorem dL_law_1014 : decode cL_law 1014 = .ok (.iadd, 1) := by decide +kernel
theorem dL_law_1015 : decode cL_law 1015 = .ok (.iaload, 1) := by decide +kernel
theorem dL_law_1016 : decode cL_law 1016 = .ok (.aload_n 3, 1) := by decide +kernel
theorem dL_law_1017 : decode cL_law 1017 = .ok (.invokestatic 137, 3) := by decide +kernel
theorem dL_law_1020 : decode cL_law 1020 = .ok (.istore 5, 2) := by decide +kernel
theorem dL_law_1022 : decode cL_law 1022 = .ok (.aload_n 2, 1) := by decide +kernel
theorem dL_law_1023 : decode cL_law 1023 = .ok (.aload_n 0, 1) := by decide +kernel
theorem dL_law_1024 : decode cL_law 1024 = .ok (.iload 4, 2) := by decide +kernel
theorem dL_law_1026 : decode cL_law 1026 = .ok (.iconst 1, 1) := by decide +kernel
theorem dL_law_1027 : decode cL_law 1027 = .ok (.iadd, 1) := by decide +kernel
theorem dL_law_1028 : decode cL_law 1028 = .ok (.iaload, 1) := by decide +kernel
theorem dL_law_1029 : decode cL_law 1029 = .ok (.aload_n 0, 1) := by decide +kernel
theorem dL_law_1030 : decode cL_law 1030 = .ok (.iload 4, 2) := by decide +kernel
theorem dL_law_1032 : decode cL_law 1032 = .ok (.iconst 2, 1) := by decide +kernel
theorem dL_law_1033 : decode cL_law 1033 = .ok (.iadd, 1) := by decide +kernel
theorem dL_law_1034 : decode cL_law 1034 = .ok (.iaload, 1) := by decide +kernel
theorem dL_law_1035 : decode cL_law 1035 = .ok (.invokevirtual 139, 3) := by decide +kernel
theorem dL_law_1038 : decode cL_law 1038 = .ok (.istore 6, 2) := by decide +kernel
theorem dL_law_1040 : decode cL_law 1040 = .ok (.aload_n 2, 1) := by decide +kernel
theorem dL_law_1041 : decode cL_law 1041 = .ok (.invokevirtual 95, 3) := by decide +kernel
theorem dL_law_1044 : decode cL_law 1044 = .ok (.iload 5, 2) := by decide +kernel
theorem dL_law_1046 : decode cL_law 1046 = .ok (.if_icmp .eq 5, 3) := by decide +kernel
theorem dL_law_1049 : decode cL_law 1049 = .ok (.iconst 0, 1) := by decide +kernel
theorem dL_law_1050 : decode cL_law 1050 = .ok (.ireturn, 1) := by decide +kernel
theorem dL_law_1051 : decode cL_law 1051 = .ok (.iload 5, 2) := by decide +kernel
theorem dL_law_1053 : decode cL_law 1053 = .ok (.ifCond .ne 15, 3) := by decide +kernel
theorem dL_law_1056 : decode cL_law 1056 = .ok (.aload_n 3, 1) := by decide +kernel
theorem dL_law_1057 : decode cL_law 1057 = .ok (.iconst 0, 1) := by decide +kernel
theorem dL_law_1058 : decode cL_law 1058 = .ok (.laload, 1) := by decide +kernel
theorem dL_law_1059 : decode cL_law 1059 = .ok (.iload 6, 2) := by decide +kernel
theorem dL_law_1061 : decode cL_law 1061 = .ok (.i2l, 1) := by decide +kernel
theorem dL_law_1062 : decode cL_law 1062 = .ok (.lcmp, 1) := by decide +kernel
theorem dL_law_1063 : decode cL_law 1063 = .ok (.ifCond .eq 5, 3) := by decide +kernel
theorem dL_law_1066 : decode cL_law 1066 = .ok (.iconst 0, 1) := by decide +kernel
theorem dL_law_1067 : decode cL_law 1067 = .ok (.ireturn, 1) := by decide +kernel
theorem dL_law_1068 : decode cL_law 1068 = .ok (.goto 599, 3) := by decide +kernel
theorem dL_law_1071 : decode cL_law 1071 = .ok (.aload_n 1, 1) := by decide +kernel
theorem dL_law_1072 : decode cL_law 1072 = .ok (.invokevirtual 140, 3) := by decide +kernel
theorem dL_law_1075 : decode cL_law 1075 = .ok (.aload_n 2, 1) := by decide +kernel
theorem dL_law_1076 : decode cL_law 1076 = .ok (.invokevirtual 143, 3) := by decide +kernel
theorem dL_law_1079 : decode cL_law 1079 = .ok (.if_icmp .eq 588, 3) := by decide +kernel
theorem dL_law_1082 : decode cL_law 1082 = .ok (.iconst 0, 1) := by decide +kernel
theorem dL_law_1083 : decode cL_law 1083 = .ok (.ireturn, 1) := by decide +kernel
theorem dL_law_1084 : decode cL_law 1084 = .ok (.aload_n 1, 1) := by decide +kernel
theorem dL_law_1085 : decode cL_law 1085 = .ok (.aload_n 0, 1) := by decide +kernel
theorem dL_law_1086 : decode cL_law 1086 = .ok (.iload 4, 2) := by decide +kernel
theorem dL_law_1088 : decode cL_law 1088 = .ok (.iconst 1, 1) := by decide +kernel
theorem dL_law_1089 : decode cL_law 1089 = .ok (.iadd, 1) := by decide +kernel
theorem dL_law_1090 : decode cL_law 1090 = .ok (.iaload, 1) := by decide +kernel
theorem dL_law_1091 : decode cL_law 1091 = .ok (.aload_n 3, 1) := by decide +kernel
theorem dL_law_1092 : decode cL_law 1092 = .ok (.invokestatic 144, 3) := by decide +kernel
theorem dL_law_1095 : decode cL_law 1095 = .ok (.istore 5, 2) := by decide +kernel
theorem dL_law_1097 : decode cL_law 1097 = .ok (.aload_n 2, 1) := by decide +kernel
theorem dL_law_1098 : decode cL_law 1098 = .ok (.aload_n 0, 1) := by decide +kernel
theorem dL_law_1099 : decode cL_law 1099 = .ok (.iload 4, 2) := by decide +kernel
theorem dL_law_1101 : decode cL_law 1101 = .ok (.iconst 1, 1) := by decide +kernel
theorem dL_law_1102 : decode cL_law 1102 = .ok (.iadd, 1) := by decide +kernel
theorem dL_law_1103 : decode cL_law 1103 = .ok (.iaload, 1) := by decide +kernel
theorem dL_law_1104 : decode cL_law 1104 = .ok (.invokevirtual 146, 3) := by decide +kernel
theorem dL_law_1107 : decode cL_law 1107 = .ok (.istore 6, 2) := by decide +kernel
theorem dL_law_1109 : decode cL_law 1109 = .ok (.aload_n 2, 1) := by decide +kernel
theorem dL_law_1110 : decode cL_law 1110 = .ok (.invokevirtual 95, 3) := by decide +kernel
theorem dL_law_1113 : decode cL_law 1113 = .ok (.iload 5, 2) := by decide +kernel
theorem dL_law_1115 : decode cL_law 1115 = .ok (.if_icmp .eq 5, 3) := by decide +kernel
theorem dL_law_1118 : decode cL_law 1118 = .ok (.iconst 0, 1) := by decide +kernel
theorem dL_law_1119 : decode cL_law 1119 = .ok (.ireturn, 1) := by decide +kernel
theorem dL_law_1120 : decode cL_law 1120 = .ok (.iload 5, 2) := by decide +kernel
theorem dL_law_1122 : decode cL_law 1122 = .ok (.ifCond .ne 15, 3) := by decide +kernel
theorem dL_law_1125 : decode cL_law 1125 = .ok (.aload_n 3, 1) := by decide +kernel
theorem dL_law_1126 : decode cL_law 1126 = .ok (.iconst 0, 1) := by decide +kernel
theorem dL_law_1127 : decode cL_law 1127 = .ok (.laload, 1) := by decide +kernel
theorem dL_law_1128 : decode cL_law 1128 = .ok (.iload 6, 2) := by decide +kernel
theorem dL_law_1130 : decode cL_law 1130 = .ok (.i2l, 1) := by decide +kernel
theorem dL_law_1131 : decode cL_law 1131 = .ok (.lcmp, 1) := by decide +kernel
theorem dL_law_1132 : decode cL_law 1132 = .ok (.ifCond .eq 5, 3) := by decide +kernel
theorem dL_law_1135 : decode cL_law 1135 = .ok (.iconst 0, 1) := by decide +kernel
theorem dL_law_1136 : decode cL_law 1136 = .ok (.ireturn, 1) := by decide +kernel
theorem dL_law_1137 : decode cL_law 1137 = .ok (.goto 530, 3) := by decide +kernel
theorem dL_law_1140 : decode cL_law 1140 = .ok (.aload_n 1, 1) := by decide +kernel
theorem dL_law_1141 : decode cL_law 1141 = .ok (.aload_n 0, 1) := by decide +kernel
theorem dL_law_1142 : decode cL_law 1142 = .ok (.iload 4, 2) := by decide +kernel
theorem dL_law_1144 : decode cL_law 1144 = .ok (.iconst 1, 1) := by decide +kernel
theorem dL_law_1145 : decode cL_law 1145 = .ok (.iadd, 1) := by decide +kernel
theorem dL_law_1146 : decode cL_law 1146 = .ok (.iaload, 1) := by decide +kernel
theorem dL_law_1147 : decode cL_law 1147 = .ok (.aload_n 3, 1) := by decide +kernel
theorem dL_law_1148 : decode cL_law 1148 = .ok (.invokestatic 147, 3) := by decide +kernel
theorem dL_law_1151 : decode cL_law 1151 = .ok (.istore 5, 2) := by decide +kernel
theorem dL_law_1153 : decode cL_law 1153 = .ok (.aload_n 2, 1) := by decide +kernel
theorem dL_law_1154 : decode cL_law 1154 = .ok (.aload_n 0, 1) := by decide +kernel
theorem dL_law_1155 : decode cL_law 1155 = .ok (.iload 4, 2) := by decide +kernel
theorem dL_law_1157 : decode cL_law 1157 = .ok (.iconst 1, 1) := by decide +kernel
theorem dL_law_1158 : decode cL_law 1158 = .ok (.iadd, 1) := by decide +kernel
theorem dL_law_1159 : decode cL_law 1159 = .ok (.iaload, 1) := by decide +kernel
theorem dL_law_1160 : decode cL_law 1160 = .ok (.invokevirtual 149, 3) := by decide +kernel
theorem dL_law_1163 : decode cL_law 1163 = .ok (.istore 6, 2) := by decide +kernel
theorem dL_law_1165 : decode cL_law 1165 = .ok (.aload_n 2, 1) := by decide +kernel
theorem dL_law_1166 : decode cL_law 1166 = .ok (.invokevirtual 95, 3) := by decide +kernel
theorem dL_law_1169 : decode cL_law 1169 = .ok (.iload 5, 2) := by decide +kernel
theorem dL_law_1171 : decode cL_law 1171 = .ok (.if_icmp .eq 5, 3) := by decide +kernel
theorem dL_law_1174 : decode cL_law 1174 = .ok (.iconst 0, 1) := by decide +kernel
theorem dL_law_1175 : decode cL_law 1175 = .ok (.ireturn, 1) := by decide +kernel
theorem dL_law_1176 : decode cL_law 1176 = .ok (.iload 5, 2) := by decide +kernel
theorem dL_law_1178 : decode cL_law 1178 = .ok (.ifCond .ne 15, 3) := by decide +kernel
theorem dL_law_1181 : decode cL_law 1181 = .ok (.aload_n 3, 1) := by decide +kernel
theorem dL_law_1182 : decode cL_law 1182 = .ok (.iconst 0, 1) := by decide +kernel
theorem dL_law_1183 : decode cL_law 1183 = .ok (.laload, 1) := by decide +kernel
theorem dL_law_1184 : decode cL_law 1184 = .ok (.iload 6, 2) := by decide +kernel
theorem dL_law_1186 : decode cL_law 1186 = .ok (.i2l, 1) := by decide +kernel
theorem dL_law_1187 : decode cL_law 1187 = .ok (.lcmp, 1) := by decide +kernel
theorem dL_law_1188 : decode cL_law 1188 = .ok (.ifCond .eq 5, 3) := by decide +kernel
theorem dL_law_1191 : decode cL_law 1191 = .ok (.iconst 0, 1) := by decide +kernel
theorem dL_law_1192 : decode cL_law 1192 = .ok (.ireturn, 1) := by decide +kernel
theorem dL_law_1193 : decode cL_law 1193 = .ok (.goto 474, 3) := by decide +kernel
theorem dL_law_1196 : decode cL_law 1196 = .ok (.aload_n 1, 1) := by decide +kernel
theorem dL_law_1197 : decode cL_law 1197 = .ok (.aload_n 0, 1) := by decide +kernel
theorem dL_law_1198 : decode cL_law 1198 = .ok (.iload 4, 2) := by decide +kernel
theorem dL_law_1200 : decode cL_law 1200 = .ok (.iconst 1, 1) := by decide +kernel
theorem dL_law_1201 : decode cL_law 1201 = .ok (.iadd, 1) := by decide +kernel
theorem dL_law_1202 : decode cL_law 1202 = .ok (.iaload, 1) := by decide +kernel
theorem dL_law_1203 : decode cL_law 1203 = .ok (.aload_n 3, 1) := by decide +kernel
theorem dL_law_1204 : decode cL_law 1204 = .ok (.invokestatic 150, 3) := by decide +kernel
theorem dL_law_1207 : decode cL_law 1207 = .ok (.istore 5, 2) := by decide +kernel
theorem dL_law_1209 : decode cL_law 1209 = .ok (.aload_n 2, 1) := by decide +kernel
theorem dL_law_1210 : decode cL_law 1210 = .ok (.aload_n 0, 1) := by decide +kernel
theorem dL_law_1211 : decode cL_law 1211 = .ok (.iload 4, 2) := by decide +kernel
theorem dL_law_1213 : decode cL_law 1213 = .ok (.iconst 1, 1) := by decide +kernel
theorem dL_law_1214 : decode cL_law 1214 = .ok (.iadd, 1) := by decide +kernel
theorem dL_law_1215 : decode cL_law 1215 = .ok (.iaload, 1) := by decide +kernel
theorem dL_law_1216 : decode cL_law 1216 = .ok (.invokevirtual 152, 3) := by decide +kernel
theorem dL_law_1219 : decode cL_law 1219 = .ok (.istore 6, 2) := by decide +kernel
theorem dL_law_1221 : decode cL_law 1221 = .ok (.aload_n 2, 1) := by decide +kernel
theorem dL_law_1222 : decode cL_law 1222 = .ok (.invokevirtual 95, 3) := by decide +kernel
theorem dL_law_1225 : decode cL_law 1225 = .ok (.iload 5, 2) := by decide +kernel
theorem dL_law_1227 : decode cL_law 1227 = .ok (.if_icmp .eq 5, 3) := by decide +kernel
theorem dL_law_1230 : decode cL_law 1230 = .ok (.iconst 0, 1) := by decide +kernel
theorem dL_law_1231 : decode cL_law 1231 = .ok (.ireturn, 1) := by decide +kernel
theorem dL_law_1232 : decode cL_law 1232 = .ok (.iload 5, 2) := by decide +kernel
theorem dL_law_1234 : decode cL_law 1234 = .ok (.ifCond .ne 15, 3) := by decide +kernel
theorem dL_law_1237 : decode cL_law 1237 = .ok (.aload_n 3, 1) := by decide +kernel
theorem dL_law_1238 : decode cL_law 1238 = .ok (.iconst 0, 1) := by decide +kernel
theorem dL_law_1239 : decode cL_law 1239 = .ok (.laload, 1) := by decide +kernel
theorem dL_law_1240 : decode cL_law 1240 = .ok (.iload 6, 2) := by decide +kernel
theorem dL_law_1242 : decode cL_law 1242 = .ok (.i2l, 1) := by decide +kernel
theorem dL_law_1243 : decode cL_law 1243 = .ok (.lcmp, 1) := by decide +kernel
theorem dL_law_1244 : decode cL_law 1244 = .ok (.ifCond .eq 5, 3) := by decide +kernel
theorem dL_law_1247 : decode cL_law 1247 = .ok (.iconst 0, 1) := by decide +kernel
theorem dL_law_1248 : decode cL_law 1248 = .ok (.ireturn, 1) := by decide +kernel
theorem dL_law_1249 : decode cL_law 1249 = .ok (.goto 418, 3) := by decide +kernel
theorem dL_law_1252 : decode cL_law 1252 = .ok (.aload_n 1, 1) := by decide +kernel
theorem dL_law_1253 : decode cL_law 1253 = .ok (.aload_n 0, 1) := by decide +kernel
theorem dL_law_1254 : decode cL_law 1254 = .ok (.iload 4, 2) := by decide +kernel
theorem dL_law_1256 : decode cL_law 1256 = .ok (.iconst 1, 1) := by decide +kernel
theorem dL_law_1257 : decode cL_law 1257 = .ok (.iadd, 1) := by decide +kernel
theorem dL_law_1258 : decode cL_law 1258 = .ok (.iaload, 1) := by decide +kernel
theorem dL_law_1259 : decode cL_law 1259 = .ok (.aload_n 3, 1) := by decide +kernel
theorem dL_law_1260 : decode cL_law 1260 = .ok (.invokestatic 153, 3) := by decide +kernel
theorem dL_law_1263 : decode cL_law 1263 = .ok (.istore 5, 2) := by decide +kernel
theorem dL_law_1265 : decode cL_law 1265 = .ok (.aload_n 2, 1) := by decide +kernel
theorem dL_law_1266 : decode cL_law 1266 = .ok (.aload_n 0, 1) := by decide +kernel
theorem dL_law_1267 : decode cL_law 1267 = .ok (.iload 4, 2) := by decide +kernel
theorem dL_law_1269 : decode cL_law 1269 = .ok (.iconst 1, 1) := by decide +kernel
theorem dL_law_1270 : decode cL_law 1270 = .ok (.iadd, 1) := by decide +kernel
theorem dL_law_1271 : decode cL_law 1271 = .ok (.iaload, 1) := by decide +kernel
theorem dL_law_1272 : decode cL_law 1272 = .ok (.invokevirtual 155, 3) := by decide +kernel
theorem dL_law_1275 : decode cL_law 1275 = .ok (.istore 6, 2) := by decide +kernel
theorem dL_law_1277 : decode cL_law 1277 = .ok (.aload_n 2, 1) := by decide +kernel
theorem dL_law_1278 : decode cL_law 1278 = .ok (.invokevirtual 95, 3) := by decide +kernel
theorem dL_law_1281 : decode cL_law 1281 = .ok (.iload 5, 2) := by decide +kernel
theorem dL_law_1283 : decode cL_law 1283 = .ok (.if_icmp .eq 5, 3) := by decide +kernel
theorem dL_law_1286 : decode cL_law 1286 = .ok (.iconst 0, 1) := by decide +kernel
theorem dL_law_1287 : decode cL_law 1287 = .ok (.ireturn, 1) := by decide +kernel
theorem dL_law_1288 : decode cL_law 1288 = .ok (.iload 5, 2) := by decide +kernel
theorem dL_law_1290 : decode cL_law 1290 = .ok (.ifCond .ne 15, 3) := by decide +kernel
theorem dL_law_1293 : decode cL_law 1293 = .ok (.aload_n 3, 1) := by decide +kernel
theorem dL_law_1294 : decode cL_law 1294 = .ok (.iconst 0, 1) := by decide +kernel
theorem dL_law_1295 : decode cL_law 1295 = .ok (.laload, 1) := by decide +kernel
theorem dL_law_1296 : decode cL_law 1296 = .ok (.iload 6, 2) := by decide +kernel
theorem dL_law_1298 : decode cL_law 1298 = .ok (.i2l, 1) := by decide +kernel
theorem dL_law_1299 : decode cL_law 1299 = .ok (.lcmp, 1) := by decide +kernel
theorem dL_law_1300 : decode cL_law 1300 = .ok (.ifCond .eq 5, 3) := by decide +kernel
theorem dL_law_1303 : decode cL_law 1303 = .ok (.iconst 0, 1) := by decide +kernel
theorem dL_law_1304 : decode cL_law 1304 = .ok (.ireturn, 1) := by decide +kernel
theorem dL_law_1305 : decode cL_law 1305 = .ok (.goto 362, 3) := by decide +kernel
theorem dL_law_1308 : decode cL_law 1308 = .ok (.aload_n 1, 1) := by decide +kernel
theorem dL_law_1309 : decode cL_law 1309 = .ok (.aload_n 0, 1) := by decide +kernel
theorem dL_law_1310 : decode cL_law 1310 = .ok (.iload 4, 2) := by decide +kernel
theorem dL_law_1312 : decode cL_law 1312 = .ok (.iconst 1, 1) := by decide +kernel
theorem dL_law_1313 : decode cL_law 1313 = .ok (.iadd, 1) := by decide +kernel
theorem dL_law_1314 : decode cL_law 1314 = .ok (.iaload, 1) := by decide +kernel
theorem dL_law_1315 : decode cL_law 1315 = .ok (.aload_n 3, 1) := by decide +kernel
theorem dL_law_1316 : decode cL_law 1316 = .ok (.invokestatic 156, 3) := by decide +kernel
theorem dL_law_1319 : decode cL_law 1319 = .ok (.istore 5, 2) := by decide +kernel
theorem dL_law_1321 : decode cL_law 1321 = .ok (.aload_n 2, 1) := by decide +kernel
theorem dL_law_1322 : decode cL_law 1322 = .ok (.aload_n 0, 1) := by decide +kernel
theorem dL_law_1323 : decode cL_law 1323 = .ok (.iload 4, 2) := by decide +kernel
theorem dL_law_1325 : decode cL_law 1325 = .ok (.iconst 1, 1) := by decide +kernel
theorem dL_law_1326 : decode cL_law 1326 = .ok (.iadd, 1) := by decide +kernel
theorem dL_law_1327 : decode cL_law 1327 = .ok (.iaload, 1) := by decide +kernel
theorem dL_law_1328 : decode cL_law 1328 = .ok (.invokevirtual 158, 3) := by decide +kernel
theorem dL_law_1331 : decode cL_law 1331 = .ok (.istore 6, 2) := by decide +kernel
theorem dL_law_1333 : decode cL_law 1333 = .ok (.aload_n 2, 1) := by decide +kernel
theorem dL_law_1334 : decode cL_law 1334 = .ok (.invokevirtual 95, 3) := by decide +kernel
theorem dL_law_1337 : decode cL_law 1337 = .ok (.iload 5, 2) := by decide +kernel
theorem dL_law_1339 : decode cL_law 1339 = .ok (.if_icmp .eq 5, 3) := by decide +kernel
theorem dL_law_1342 : decode cL_law 1342 = .ok (.iconst 0, 1) := by decide +kernel
theorem dL_law_1343 : decode cL_law 1343 = .ok (.ireturn, 1) := by decide +kernel
theorem dL_law_1344 : decode cL_law 1344 = .ok (.iload 5, 2) := by decide +kernel
theorem dL_law_1346 : decode cL_law 1346 = .ok (.ifCond .ne 15, 3) := by decide +kernel
theorem dL_law_1349 : decode cL_law 1349 = .ok (.aload_n 3, 1) := by decide +kernel
theorem dL_law_1350 : decode cL_law 1350 = .ok (.iconst 0, 1) := by decide +kernel
theorem dL_law_1351 : decode cL_law 1351 = .ok (.laload, 1) := by decide +kernel
theorem dL_law_1352 : decode cL_law 1352 = .ok (.iload 6, 2) := by decide +kernel
theorem dL_law_1354 : decode cL_law 1354 = .ok (.i2l, 1) := by decide +kernel
theorem dL_law_1355 : decode cL_law 1355 = .ok (.lcmp, 1) := by decide +kernel
theorem dL_law_1356 : decode cL_law 1356 = .ok (.ifCond .eq 5, 3) := by decide +kernel
theorem dL_law_1359 : decode cL_law 1359 = .ok (.iconst 0, 1) := by decide +kernel
theorem dL_law_1360 : decode cL_law 1360 = .ok (.ireturn, 1) := by decide +kernel
theorem dL_law_1361 : decode cL_law 1361 = .ok (.goto 306, 3) := by decide +kernel
theorem dL_law_1364 : decode cL_law 1364 = .ok (.aload_n 1, 1) := by decide +kernel
theorem dL_law_1365 : decode cL_law 1365 = .ok (.aload_n 0, 1) := by decide +kernel
theorem dL_law_1366 : decode cL_law 1366 = .ok (.iload 4, 2) := by decide +kernel
theorem dL_law_1368 : decode cL_law 1368 = .ok (.iconst 1, 1) := by decide +kernel
theorem dL_law_1369 : decode cL_law 1369 = .ok (.iadd, 1) := by decide +kernel
theorem dL_law_1370 : decode cL_law 1370 = .ok (.iaload, 1) := by decide +kernel
theorem dL_law_1371 : decode cL_law 1371 = .ok (.aload_n 3, 1) := by decide +kernel
theorem dL_law_1372 : decode cL_law 1372 = .ok (.invokestatic 159, 3) := by decide +kernel
theorem dL_law_1375 : decode cL_law 1375 = .ok (.istore 5, 2) := by decide +kernel
theorem dL_law_1377 : decode cL_law 1377 = .ok (.aload_n 2, 1) := by decide +kernel
theorem dL_law_1378 : decode cL_law 1378 = .ok (.aload_n 0, 1) := by decide +kernel
theorem dL_law_1379 : decode cL_law 1379 = .ok (.iload 4, 2) := by decide +kernel
theorem dL_law_1381 : decode cL_law 1381 = .ok (.iconst 1, 1) := by decide +kernel
theorem dL_law_1382 : decode cL_law 1382 = .ok (.iadd, 1) := by decide +kernel
theorem dL_law_1383 : decode cL_law 1383 = .ok (.iaload, 1) := by decide +kernel
theorem dL_law_1384 : decode cL_law 1384 = .ok (.invokevirtual 161, 3) := by decide +kernel
theorem dL_law_1387 : decode cL_law 1387 = .ok (.istore 6, 2) := by decide +kernel
theorem dL_law_1389 : decode cL_law 1389 = .ok (.aload_n 2, 1) := by decide +kernel
theorem dL_law_1390 : decode cL_law 1390 = .ok (.invokevirtual 95, 3) := by decide +kernel
theorem dL_law_1393 : decode cL_law 1393 = .ok (.iload 5, 2) := by decide +kernel
theorem dL_law_1395 : decode cL_law 1395 = .ok (.if_icmp .eq 5, 3) := by decide +kernel
theorem dL_law_1398 : decode cL_law 1398 = .ok (.iconst 0, 1) := by decide +kernel
theorem dL_law_1399 : decode cL_law 1399 = .ok (.ireturn, 1) := by decide +kernel
theorem dL_law_1400 : decode cL_law 1400 = .ok (.iload 5, 2) := by decide +kernel
theorem dL_law_1402 : decode cL_law 1402 = .ok (.ifCond .ne 15, 3) := by decide +kernel
theorem dL_law_1405 : decode cL_law 1405 = .ok (.aload_n 3, 1) := by decide +kernel
theorem dL_law_1406 : decode cL_law 1406 = .ok (.iconst 0, 1) := by decide +kernel
theorem dL_law_1407 : decode cL_law 1407 = .ok (.laload, 1) := by decide +kernel
theorem dL_law_1408 : decode cL_law 1408 = .ok (.iload 6, 2) := by decide +kernel
theorem dL_law_1410 : decode cL_law 1410 = .ok (.i2l, 1) := by decide +kernel
theorem dL_law_1411 : decode cL_law 1411 = .ok (.lcmp, 1) := by decide +kernel
theorem dL_law_1412 : decode cL_law 1412 = .ok (.ifCond .eq 5, 3) := by decide +kernel
theorem dL_law_1415 : decode cL_law 1415 = .ok (.iconst 0, 1) := by decide +kernel
theorem dL_law_1416 : decode cL_law 1416 = .ok (.ireturn, 1) := by decide +kernel
theorem dL_law_1417 : decode cL_law 1417 = .ok (.goto 250, 3) := by decide +kernel
theorem dL_law_1420 : decode cL_law 1420 = .ok (.aload_n 1, 1) := by decide +kernel
theorem dL_law_1421 : decode cL_law 1421 = .ok (.aload_n 0, 1) := by decide +kernel
theorem dL_law_1422 : decode cL_law 1422 = .ok (.iload 4, 2) := by decide +kernel
theorem dL_law_1424 : decode cL_law 1424 = .ok (.iconst 1, 1) := by decide +kernel
theorem dL_law_1425 : decode cL_law 1425 = .ok (.iadd, 1) := by decide +kernel
theorem dL_law_1426 : decode cL_law 1426 = .ok (.iaload, 1) := by decide +kernel
theorem dL_law_1427 : decode cL_law 1427 = .ok (.aload_n 0, 1) := by decide +kernel
theorem dL_law_1428 : decode cL_law 1428 = .ok (.iload 4, 2) := by decide +kernel
theorem dL_law_1430 : decode cL_law 1430 = .ok (.iconst 2, 1) := by decide +kernel
theorem dL_law_1431 : decode cL_law 1431 = .ok (.iadd, 1) := by decide +kernel
theorem dL_law_1432 : decode cL_law 1432 = .ok (.iaload, 1) := by decide +kernel
theorem dL_law_1433 : decode cL_law 1433 = .ok (.aload_n 3, 1) := by decide +kernel
theorem dL_law_1434 : decode cL_law 1434 = .ok (.invokestatic 162, 3) := by decide +kernel
theorem dL_law_1437 : decode cL_law 1437 = .ok (.istore 5, 2) := by decide +kernel
theorem dL_law_1439 : decode cL_law 1439 = .ok (.aload_n 2, 1) := by decide +kernel
theorem dL_law_1440 : decode cL_law 1440 = .ok (.aload_n 0, 1) := by decide +kernel
theorem dL_law_1441 : decode cL_law 1441 = .ok (.iload 4, 2) := by decide +kernel
theorem dL_law_1443 : decode cL_law 1443 = .ok (.iconst 1, 1) := by decide +kernel
theorem dL_law_1444 : decode cL_law 1444 = .ok (.iadd, 1) := by decide +kernel
theorem dL_law_1445 : decode cL_law 1445 = .ok (.iaload, 1) := by decide +kernel
theorem dL_law_1446 : decode cL_law 1446 = .ok (.aload_n 0, 1) := by decide +kernel
theorem dL_law_1447 : decode cL_law 1447 = .ok (.iload 4, 2) := by decide +kernel
theorem dL_law_1449 : decode cL_law 1449 = .ok (.iconst 2, 1) := by decide +kernel
theorem dL_law_1450 : decode cL_law 1450 = .ok (.iadd, 1) := by decide +kernel
theorem dL_law_1451 : decode cL_law 1451 = .ok (.iaload, 1) := by decide +kernel
theorem dL_law_1452 : decode cL_law 1452 = .ok (.invokevirtual 164, 3) := by decide +kernel
theorem dL_law_1455 : decode cL_law 1455 = .ok (.istore 6, 2) := by decide +kernel
theorem dL_law_1457 : decode cL_law 1457 = .ok (.aload_n 2, 1) := by decide +kernel
theorem dL_law_1458 : decode cL_law 1458 = .ok (.invokevirtual 95, 3) := by decide +kernel
theorem dL_law_1461 : decode cL_law 1461 = .ok (.iload 5, 2) := by decide +kernel
theorem dL_law_1463 : decode cL_law 1463 = .ok (.if_icmp .eq 5, 3) := by decide +kernel
theorem dL_law_1466 : decode cL_law 1466 = .ok (.iconst 0, 1) := by decide +kernel
theorem dL_law_1467 : decode cL_law 1467 = .ok (.ireturn, 1) := by decide +kernel
theorem dL_law_1468 : decode cL_law 1468 = .ok (.iload 5, 2) := by decide +kernel
theorem dL_law_1470 : decode cL_law 1470 = .ok (.ifCond .ne 15, 3) := by decide +kernel
theorem dL_law_1473 : decode cL_law 1473 = .ok (.aload_n 3, 1) := by decide +kernel
theorem dL_law_1474 : decode cL_law 1474 = .ok (.iconst 0, 1) := by decide +kernel
theorem dL_law_1475 : decode cL_law 1475 = .ok (.laload, 1) := by decide +kernel
theorem dL_law_1476 : decode cL_law 1476 = .ok (.iload 6, 2) := by decide +kernel
theorem dL_law_1478 : decode cL_law 1478 = .ok (.i2l, 1) := by decide +kernel
theorem dL_law_1479 : decode cL_law 1479 = .ok (.lcmp, 1) := by decide +kernel
theorem dL_law_1480 : decode cL_law 1480 = .ok (.ifCond .eq 5, 3) := by decide +kernel
theorem dL_law_1483 : decode cL_law 1483 = .ok (.iconst 0, 1) := by decide +kernel
theorem dL_law_1484 : decode cL_law 1484 = .ok (.ireturn, 1) := by decide +kernel
theorem dL_law_1485 : decode cL_law 1485 = .ok (.goto 182, 3) := by decide +kernel
theorem dL_law_1488 : decode cL_law 1488 = .ok (.aload_n 1, 1) := by decide +kernel
theorem dL_law_1489 : decode cL_law 1489 = .ok (.aload_n 0, 1) := by decide +kernel
theorem dL_law_1490 : decode cL_law 1490 = .ok (.iload 4, 2) := by decide +kernel
theorem dL_law_1492 : decode cL_law 1492 = .ok (.iconst 1, 1) := by decide +kernel
theorem dL_law_1493 : decode cL_law 1493 = .ok (.iadd, 1) := by decide +kernel
theorem dL_law_1494 : decode cL_law 1494 = .ok (.iaload, 1) := by decide +kernel
theorem dL_law_1495 : decode cL_law 1495 = .ok (.aload_n 0, 1) := by decide +kernel
theorem dL_law_1496 : decode cL_law 1496 = .ok (.iload 4, 2) := by decide +kernel
theorem dL_law_1498 : decode cL_law 1498 = .ok (.iconst 2, 1) := by decide +kernel
theorem dL_law_1499 : decode cL_law 1499 = .ok (.iadd, 1) := by decide +kernel
theorem dL_law_1500 : decode cL_law 1500 = .ok (.iaload, 1) := by decide +kernel
theorem dL_law_1501 : decode cL_law 1501 = .ok (.aload_n 3, 1) := by decide +kernel
theorem dL_law_1502 : decode cL_law 1502 = .ok (.invokestatic 165, 3) := by decide +kernel
theorem dL_law_1505 : decode cL_law 1505 = .ok (.istore 5, 2) := by decide +kernel
theorem dL_law_1507 : decode cL_law 1507 = .ok (.aload_n 2, 1) := by decide +kernel
theorem dL_law_1508 : decode cL_law 1508 = .ok (.aload_n 0, 1) := by decide +kernel
theorem dL_law_1509 : decode cL_law 1509 = .ok (.iload 4, 2) := by decide +kernel
theorem dL_law_1511 : decode cL_law 1511 = .ok (.iconst 1, 1) := by decide +kernel
theorem dL_law_1512 : decode cL_law 1512 = .ok (.iadd, 1) := by decide +kernel
theorem dL_law_1513 : decode cL_law 1513 = .ok (.iaload, 1) := by decide +kernel
theorem dL_law_1514 : decode cL_law 1514 = .ok (.aload_n 0, 1) := by decide +kernel
theorem dL_law_1515 : decode cL_law 1515 = .ok (.iload 4, 2) := by decide +kernel
theorem dL_law_1517 : decode cL_law 1517 = .ok (.iconst 2, 1) := by decide +kernel
theorem dL_law_1518 : decode cL_law 1518 = .ok (.iadd, 1) := by decide +kernel
theorem dL_law_1519 : decode cL_law 1519 = .ok (.iaload, 1) := by decide +kernel
theorem dL_law_1520 : decode cL_law 1520 = .ok (.invokevirtual 167, 3) := by decide +kernel
theorem dL_law_1523 : decode cL_law 1523 = .ok (.istore 6, 2) := by decide +kernel
theorem dL_law_1525 : decode cL_law 1525 = .ok (.aload_n 2, 1) := by decide +kernel
theorem dL_law_1526 : decode cL_law 1526 = .ok (.invokevirtual 95, 3) := by decide +kernel
theorem dL_law_1529 : decode cL_law 1529 = .ok (.iload 5, 2) := by decide +kernel
theorem dL_law_1531 : decode cL_law 1531 = .ok (.if_icmp .eq 5, 3) := by decide +kernel
theorem dL_law_1534 : decode cL_law 1534 = .ok (.iconst 0, 1) := by decide +kernel
theorem dL_law_1535 : decode cL_law 1535 = .ok (.ireturn, 1) := by decide +kernel
theorem dL_law_1536 : decode cL_law 1536 = .ok (.iload 5, 2) := by decide +kernel
theorem dL_law_1538 : decode cL_law 1538 = .ok (.ifCond .ne 15, 3) := by decide +kernel
theorem dL_law_1541 : decode cL_law 1541 = .ok (.aload_n 3, 1) := by decide +kernel
theorem dL_law_1542 : decode cL_law 1542 = .ok (.iconst 0, 1) := by decide +kernel
theorem dL_law_1543 : decode cL_law 1543 = .ok (.laload, 1) := by decide +kernel
theorem dL_law_1544 : decode cL_law 1544 = .ok (.iload 6, 2) := by decide +kernel
theorem dL_law_1546 : decode cL_law 1546 = .ok (.i2l, 1) := by decide +kernel
theorem dL_law_1547 : decode cL_law 1547 = .ok (.lcmp, 1) := by decide +kernel
theorem dL_law_1548 : decode cL_law 1548 = .ok (.ifCond .eq 5, 3) := by decide +kernel
theorem dL_law_1551 : decode cL_law 1551 = .ok (.iconst 0, 1) := by decide +kernel
theorem dL_law_1552 : decode cL_law 1552 = .ok (.ireturn, 1) := by decide +kernel
theorem dL_law_1553 : decode cL_law 1553 = .ok (.goto 114, 3) := by decide +kernel
theorem dL_law_1556 : decode cL_law 1556 = .ok (.aload_n 1, 1) := by decide +kernel
theorem dL_law_1557 : decode cL_law 1557 = .ok (.aload_n 0, 1) := by decide +kernel
theorem dL_law_1558 : decode cL_law 1558 = .ok (.iload 4, 2) := by decide +kernel
theorem dL_law_1560 : decode cL_law 1560 = .ok (.iconst 1, 1) := by decide +kernel
theorem dL_law_1561 : decode cL_law 1561 = .ok (.iadd, 1) := by decide +kernel
theorem dL_law_1562 : decode cL_law 1562 = .ok (.iaload, 1) := by decide +kernel
theorem dL_law_1563 : decode cL_law 1563 = .ok (.aload_n 3, 1) := by decide +kernel
theorem dL_law_1564 : decode cL_law 1564 = .ok (.invokestatic 168, 3) := by decide +kernel
theorem dL_law_1567 : decode cL_law 1567 = .ok (.istore 5, 2) := by decide +kernel
theorem dL_law_1569 : decode cL_law 1569 = .ok (.aload_n 2, 1) := by decide +kernel
theorem dL_law_1570 : decode cL_law 1570 = .ok (.aload_n 0, 1) := by decide +kernel
theorem dL_law_1571 : decode cL_law 1571 = .ok (.iload 4, 2) := by decide +kernel
theorem dL_law_1573 : decode cL_law 1573 = .ok (.iconst 1, 1) := by decide +kernel
theorem dL_law_1574 : decode cL_law 1574 = .ok (.iadd, 1) := by decide +kernel
theorem dL_law_1575 : decode cL_law 1575 = .ok (.iaload, 1) := by decide +kernel
theorem dL_law_1576 : decode cL_law 1576 = .ok (.invokevirtual 170, 3) := by decide +kernel
theorem dL_law_1579 : decode cL_law 1579 = .ok (.istore 6, 2) := by decide +kernel
theorem dL_law_1581 : decode cL_law 1581 = .ok (.aload_n 2, 1) := by decide +kernel
theorem dL_law_1582 : decode cL_law 1582 = .ok (.invokevirtual 95, 3) := by decide +kernel
theorem dL_law_1585 : decode cL_law 1585 = .ok (.iload 5, 2) := by decide +kernel
theorem dL_law_1587 : decode cL_law 1587 = .ok (.if_icmp .eq 5, 3) := by decide +kernel
theorem dL_law_1590 : decode cL_law 1590 = .ok (.iconst 0, 1) := by decide +kernel
theorem dL_law_1591 : decode cL_law 1591 = .ok (.ireturn, 1) := by decide +kernel
theorem dL_law_1592 : decode cL_law 1592 = .ok (.iload 5, 2) := by decide +kernel
theorem dL_law_1594 : decode cL_law 1594 = .ok (.ifCond .ne 15, 3) := by decide +kernel
theorem dL_law_1597 : decode cL_law 1597 = .ok (.aload_n 3, 1) := by decide +kernel
theorem dL_law_1598 : decode cL_law 1598 = .ok (.iconst 0, 1) := by decide +kernel
theorem dL_law_1599 : decode cL_law 1599 = .ok (.laload, 1) := by decide +kernel
theorem dL_law_1600 : decode cL_law 1600 = .ok (.iload 6, 2) := by decide +kernel
theorem dL_law_1602 : decode cL_law 1602 = .ok (.i2l, 1) := by decide +kernel
theorem dL_law_1603 : decode cL_law 1603 = .ok (.lcmp, 1) := by decide +kernel
theorem dL_law_1604 : decode cL_law 1604 = .ok (.ifCond .eq 5, 3) := by decide +kernel
theorem dL_law_1607 : decode cL_law 1607 = .ok (.iconst 0, 1) := by decide +kernel
theorem dL_law_1608 : decode cL_law 1608 = .ok (.ireturn, 1) := by decide +kernel
theorem dL_law_1609 : decode cL_law 1609 = .ok (.goto 58, 3) := by decide +kernel
theorem dL_law_1612 : decode cL_law 1612 = .ok (.aload_n 1, 1) := by decide +kernel
theorem dL_law_1613 : decode cL_law 1613 = .ok (.invokevirtual 171, 3) := by decide +kernel
theorem dL_law_1616 : decode cL_law 1616 = .ok (.dstore 5, 2) := by decide +kernel
theorem dL_law_1618 : decode cL_law 1618 = .ok (.aload_n 2, 1) := by decide +kernel
theorem dL_law_1619 : decode cL_law 1619 = .ok (.invokevirtual 175, 3) := by decide +kernel
theorem dL_law_1622 : decode cL_law 1622 = .ok (.dstore 7, 2) := by decide +kernel
theorem dL_law_1624 : decode cL_law 1624 = .ok (.dload 5, 2) := by decide +kernel
theorem dL_law_1626 : decode cL_law 1626 = .ok (.dload 7, 2) := by decide +kernel
theorem dL_law_1628 : decode cL_law 1628 = .ok (.dcmp .l, 1) := by decide +kernel
theorem dL_law_1629 : decode cL_law 1629 = .ok (.ifCond .eq 21, 3) := by decide +kernel
theorem dL_law_1632 : decode cL_law 1632 = .ok (.dload 5, 2) := by decide +kernel
theorem dL_law_1634 : decode cL_law 1634 = .ok (.dload 5, 2) := by decide +kernel
theorem dL_law_1636 : decode cL_law 1636 = .ok (.dcmp .l, 1) := by decide +kernel
theorem dL_law_1637 : decode cL_law 1637 = .ok (.ifCond .eq 11, 3) := by decide +kernel
theorem dL_law_1640 : decode cL_law 1640 = .ok (.dload 7, 2) := by decide +kernel
theorem dL_law_1642 : decode cL_law 1642 = .ok (.dload 7, 2) := by decide +kernel
theorem dL_law_1644 : decode cL_law 1644 = .ok (.dcmp .l, 1) := by decide +kernel
theorem dL_law_1645 : decode cL_law 1645 = .ok (.ifCond .ne 5, 3) := by decide +kernel
theorem dL_law_1648 : decode cL_law 1648 = .ok (.iconst 0, 1) := by decide +kernel
theorem dL_law_1649 : decode cL_law 1649 = .ok (.ireturn, 1) := by decide +kernel
theorem dL_law_1650 : decode cL_law 1650 = .ok (.goto 17, 3) := by decide +kernel
theorem dL_law_1653 : decode cL_law 1653 = .ok (.aload_n 1, 1) := by decide +kernel
theorem dL_law_1654 : decode cL_law 1654 = .ok (.invokevirtual 176, 3) := by decide +kernel
theorem dL_law_1657 : decode cL_law 1657 = .ok (.aload_n 2, 1) := by decide +kernel
theorem dL_law_1658 : decode cL_law 1658 = .ok (.invokevirtual 180, 3) := by decide +kernel
theorem dL_law_1661 : decode cL_law 1661 = .ok (.lcmp, 1) := by decide +kernel
theorem dL_law_1662 : decode cL_law 1662 = .ok (.ifCond .eq 5, 3) := by decide +kernel
theorem dL_law_1665 : decode cL_law 1665 = .ok (.iconst 0, 1) := by decide +kernel
theorem dL_law_1666 : decode cL_law 1666 = .ok (.ireturn, 1) := by decide +kernel
theorem dL_law_1667 : decode cL_law 1667 = .ok (.iinc 4 6, 3) := by decide +kernel
theorem dL_law_1670 : decode cL_law 1670 = .ok (.goto (-1647), 3) := by decide +kernel
theorem dL_law_1673 : decode cL_law 1673 = .ok (.iconst 1, 1) := by decide +kernel
theorem dL_law_1674 : decode cL_law 1674 = .ok (.ireturn, 1) := by decide +kernel
end
section
/-! ===== BEGIN a constructor that throws (launches without stack traces) ===== -/
section VXIA
variable {p : Program} {l : Launch} {e : Env} {R : Room} {s : State} {m : MethodId} {args : Array Value} {below : List Frame} {meth : Method} {c : Code} {T : State} {locs : List Loc} {cells slots : Nat}
theorem vx_callI (X : Stand p l e R s m args below meth c T locs cells slots) (hexec : p.tables.exec = Jvm.exec) {own : String} {index : Nat} {y : MethodName} {bytes : ByteArray} {maxL : Nat}
    (hown : s.vm.findClass own = some m.cls) (hy1 : y.name = "<init>") (hlink : (Cond.methodLink own index y).before args s = true) (hinst : (Cond.instanceMethod y).before args s = true)
    (hcode : (Cond.code y bytes maxL none).before args s = true) (hy : y.cls ≠ "java/lang/invoke/MethodHandle" ∧ y.cls ≠ "java/lang/invoke/VarHandle")
    {W9 : Nat} {Pre : Pt → Array Value → Prop} {Post : Pt → Array Value → Option Value → Pt → Prop} {PostX : Pt → Array Value → Addr → Pt → Prop} (hK : vx_Back l R p e below s args y 3 W9 Pre Post PostX)
    {g : JFrame} (hg : g.method = m) (hsize : g.locals.size = c.maxLocals) {a : Addr} {argsL rest : List Value} (hlen : ∀ sig, parseMethodDescriptor y.desc = some sig → argsL.length = sig.parameters.length)
    (hstack : g.stack = argsL.reverse ++ .ref a :: rest) (hW : 2 * g.monitorRoom + (rest.map fun v => v.category).sum ≤ W9) (hdg : decode c.code g.pc = .ok (.invokespecial index, 3))
    (hpre : ∀ vm₁, s.WarmedH vm₁ → Pre ⟨T.setVm vm₁, locs, cells, slots⟩ (Value.ref a :: argsL).toArray) :
    (∃ (v : Option Value) (vm₁ : Vm) (B : Pt), s.WarmedH vm₁ ∧ Stand p l e R s m args below meth c B.U B.locs B.cells B.slots ∧ Post ⟨T.setVm vm₁, locs, cells, slots⟩ (Value.ref a :: argsL).toArray v B ∧
      ∀ target, Steps p.tables e below (B.U.setTop { g with pc := g.pc + 3, stack := v.toList ++ rest }) target → Steps p.tables e below (T.setTop g) target) ∨
    (∃ (q : Addr) (vm₁ : Vm) (B : Pt), s.WarmedH vm₁ ∧ Stand p l e R s m args below meth c B.U B.locs B.cells B.slots ∧ PostX ⟨T.setVm vm₁, locs, cells, slots⟩ (Value.ref a :: argsL).toArray q B ∧
      Steps p.tables e below (T.setTop g) ((B.U.setTop { g with stack := rest }).pushFrame (.throwing q))) := by
  subst hg
  have hpl : e.platform.magicAccessors = ({} : Platform).magicAccessors := by rw [X.admits.platform]
  obtain ⟨mk, methM, cM, kP, vm₁, hnamed, hmethM, hcodeM, -, hlocalsM, -, hkP, -, hW₁, hstep₁⟩ := Steps.initColdArgs (e := e) X.here hexec X.warmed hpl hown hy1 hy hlink hinst hcode (f := g) rfl hlen hstack hdg
  have X₁ := X.noted hW₁
  rcases hK g.method meth c ⟨T.setVm vm₁, locs, cells, slots⟩ { g with stack := rest } (.invokespecial index) mk (Value.ref a :: argsL).toArray X₁ rfl hsize hdg hW (X₁.named hnamed) (hpre vm₁ X₁.warmed) with ⟨v, B, X', hpost, hsteps⟩ | ⟨q, B, X', hpost, hsteps⟩
  · exact Or.inl ⟨v, vm₁, B, X₁.warmed, X', hpost, fun target h => hstep₁ _ fun acts => by rw [doInvoke_state]; exact hsteps.trans h⟩
  · exact Or.inr ⟨q, vm₁, B, X₁.warmed, X', hpost, hstep₁ _ fun acts => by rw [doInvoke_state]; exact hsteps⟩
end VXIA
section VXIB
variable {p : Program} {l : Launch} {e : Env} {R : Room} {s : State} {m : MethodId} {args : Array Value} {below : List Frame} {meth : Method} {c : Code} {H : Heap} {locs : List Loc} {cells slots : Nat}
variable {y : MethodName} {bytes cc : ByteArray} {maxL nL mc ms n index : Nat} {ret : Option FieldType} {ws : List Cond} {rm : Room} {Pc : Array Value → State → Prop} {Qc : Array Value → State → Outcome → State → Prop} {XC : String → State → State → Prop} {free : Addr → Prop} {Ts : List Cond} {own C : String} {b : Addr} {As rest : List Value} {g : JFrame}
theorem vx_runI (S : CallFix p m c cc nL s args Ts own) (hM : vx_Met l y ws rm Pc Qc XC mc ms free) (cw : CallB R s args own index y bytes maxL none ws rm mc ms n ∧ y.name = "<init>" ∧ (Cond.instanceMethod y).before args s = true) (hp : PreS s H Pc (.ref b :: As))
    (hg : g.method = m) (hn : As.length = n) (hsize : g.locals.size = nL) (hstack : g.stack = As.reverse ++ .ref b :: rest) (hW : 2 * g.monitorRoom + (rest.map fun v => v.category).sum ≤ 8) (hdg : decode cc g.pc = .ok (.invokespecial index, 3)) (hf : cells + mc ≤ R.cells ∧ slots + ms ≤ R.slots) :
    vx_Run p l e R s m args below meth c H locs cells slots mc ms g rest (Qc (Value.ref b :: As).toArray) XC free := by
  have hK : vx_Back l R p e below s args y 3 8 (PreOf R mc ms Pc) (PostOf Qc mc ms free) (vx_Post XC mc ms free) := vx_callBack cw.1 hM hp.1
  obtain ⟨⟨-, -, -, -, -, -, hcode, -, hy, hlen, hl⟩, hy1, hin⟩ := cw
  obtain ⟨hx, hb, hml, ho, -⟩ := S
  have hPc := hp.2
  intro T hT X
  rcases vx_callI X hx (bytes := bytes) (maxL := maxL) ho hy1 hl hin hcode hy hK hg (hsize.trans hml.symm) (a := b) (argsL := As) (rest := rest) (fun sig h => hn.trans (hlen sig h)) hstack hW (by rw [hb]; exact hdg)
    (fun vm₁ hW₁ => ⟨hf.1, hf.2, hPc (T.setVm vm₁) hT hW₁⟩) with ⟨v, vm₁, ⟨U', l2, c2, s2⟩, hW₁, X', ⟨g', mk, t, L, e1, e2, hq, h1, hL, h2, h3⟩, st⟩ | ⟨q, vm₁, ⟨U', l2, c2, s2⟩, hW₁, X', ⟨g', mk, t, L, E, ce, e1, e2, hq, hce, hcv, hcl, h1, hL, h2, h3⟩, st⟩
  · dsimp only [Pt.U, Pt.locs, Pt.cells, Pt.slots] at X' e1 e2 h1 h2 h3 st
    subst h1; subst h2; subst h3
    exact Or.inl ⟨v, (T.setVm vm₁).calling g' mk (Value.ref b :: As).toArray, t, U', L, hT, X', hL, e1, e2, hq, st⟩
  · dsimp only [Pt.U, Pt.locs, Pt.cells, Pt.slots] at X' e1 e2 h1 h2 h3 st hcl
    subst h1; subst h2; subst h3
    exact Or.inr ⟨q, (T.setVm vm₁).calling g' mk (Value.ref b :: As).toArray, t, U', L, E, ce, hT, X', hL, e1, e2, hq, hce, hcv, vx_cls hW₁ hcl, st⟩
end VXIB
/-! ===== END ===== -/
/-! ===== BEGIN .. of methods that hand back an object of the pool ===== -/
section
variable {p : Program} {l : Launch} {e : Env} {R : Room} {s : State} {m : MethodId} {args : Array Value} {below : List Frame} {meth : Method} {c : Code} {H : Heap} {locs : List Loc} {cells slots : Nat} {Q : State → Prop}
variable {mc ms : Nat} {free : Addr → Prop} {A0 A1 : Nat → Prop} {H0 : Heap} {a : Array Value} {pc : Nat} {ls : Array Slot} {st0 rest : List Value}
theorem vx_callq {S SX : Type} {post : Option Nat → S → Prop} {px : SX → Prop} {B : S → State → Prop} {BX : String → SX → State → Prop} {AX : Nat → Prop} (hr : vx_Run p l e R s m args below meth c H locs cells slots mc ms (F0 m pc ls st0) rest (va_Qq post B A1 a) (vx_X px BX AX) free) (hS : va_S A0 H0 H locs) (hA : ∀ q, q < H.size → A1 q → A0 q) (hf : ∀ q, free q → A0 q) (hAX : ∀ q, q < H.size → AX q → A0 q)
    (kx : ∀ (E : String) (ce : Cell) (q9 : Addr) (u : SX) (t : State) (H1 : Heap) (locs1 : List Loc), t.heap = H1 → s.vm.Alike t.vm → px u → BX E u t → H.size ≤ H1.size → (∀ q : Nat, q < H.size → ¬ AX q → H1[q]? = H[q]?) → va_S A0 H0 H1 locs1 → H1[q9]? = some ce → ce.vm = .none → s.vm.findClass E = some ce.cls → vx_W p l e R s m args below meth c H1 locs1 (cells + mc) (slots + ms) Q (F0 m pc ls rest) q9)
    (kk : ∀ (r : Option Nat) (u : S) (t : State) (H1 : Heap) (locs1 : List Loc), t.heap = H1 → s.vm.Alike t.vm → post r u → B u t → H.size ≤ H1.size → (∀ q : Nat, q < H.size → ¬ A1 q → H1[q]? = H[q]?) → va_S A0 H0 H1 locs1 → W p l e R s m args below meth c H1 locs1 (cells + mc) (slots + ms) Q (F0 m (pc + 3) ls (va_rf r :: rest))) : W p l e R s m args below meth c H locs cells slots Q (F0 m pc ls st0) := by
  intro T hT X
  rcases hr T hT X with ⟨v, st₀, t, T', L, h0, X', hL, e1, e2, ⟨⟨r, u, hv, hp, hb⟩, hF⟩, st⟩ | ⟨q, st₀, t, T', L, E, ce, h0, X', hL, e1, e2, ⟨u, hp, hb, hF⟩, hce, hcv, hcl, st⟩
  · cases hv
    obtain ⟨k1, k2, k3⟩ := vx_keep h0 e1 hS hA hf hL hF
    obtain ⟨t2, a1, b1⟩ := kk r u t T'.heap (locs ++ L) e1.symm (by rw [← e2]; exact X'.warmed.alike) hp hb k1 k2 k3 T' rfl X'
    exact ⟨t2, st t2 a1, b1⟩
  · obtain ⟨k1, k2, k3⟩ := vx_keep h0 e1 hS hAX hf hL hF
    obtain ⟨t2, a1, b1⟩ := kx E ce q u t T'.heap (locs ++ L) e1.symm (by rw [← e2]; exact X'.warmed.alike) hp hb k1 k2 k3 (by rw [e1]; exact hce) hcv hcl T' rfl X'
    exact ⟨t2, st.trans a1, b1⟩
end
/-! ===== END ===== -/
end
section
/-! THE MEMORY: a pool of cells by address; fields as functions (field, address) ↦ value. Own work. -/
abbrev mmS : Type := List Nat × (Nat → Nat) × (Nat → Nat → Int32) × (Nat → Nat → Option Nat) × (Nat → Nat) × (Nat → Nat → Int32) × (Nat → Nat → Option Nat) × (Nat → Nat → Int64)
/-- the pool, the kinds, int fields, reference fields, lengths, int rows, reference rows, long rows -/
def mL (S : mmS) : List Nat := S.1
def mK (S : mmS) : Nat → Nat := S.2.1
def mI (S : mmS) : Nat → Nat → Int32 := S.2.2.1
def mR (S : mmS) : Nat → Nat → Option Nat := S.2.2.2.1
def mN (S : mmS) : Nat → Nat := S.2.2.2.2.1
def mA (S : mmS) : Nat → Nat → Int32 := S.2.2.2.2.2.1
def mQ (S : mmS) : Nat → Nat → Option Nat := S.2.2.2.2.2.2.1
def mJ (S : mmS) : Nat → Nat → Int64 := S.2.2.2.2.2.2.2
def mu2 {α : Type} (f : Nat → Nat → α) (k a : Nat) (v : α) : Nat → Nat → α := fun k' a' => if k' = k ∧ a' = a then v else f k' a'
def mrw {α : Type} (f : Nat → Nat → α) (a : Nat) (r : Nat → α) : Nat → Nat → α := fun a' i => if a' = a then r i else f a' i
def sI (S : mmS) (f a : Nat) (v : Int32) : mmS := (mL S, mK S, mu2 (mI S) f a v, mR S, mN S, mA S, mQ S, mJ S)
def sR (S : mmS) (f a : Nat) (v : Option Nat) : mmS := (mL S, mK S, mI S, mu2 (mR S) f a v, mN S, mA S, mQ S, mJ S)
def sA (S : mmS) (a i : Nat) (v : Int32) : mmS := (mL S, mK S, mI S, mR S, mN S, mu2 (mA S) a i v, mQ S, mJ S)
def sQ (S : mmS) (a i : Nat) (v : Option Nat) : mmS := (mL S, mK S, mI S, mR S, mN S, mA S, mu2 (mQ S) a i v, mJ S)
def sJ (S : mmS) (a i : Nat) (v : Int64) : mmS := (mL S, mK S, mI S, mR S, mN S, mA S, mQ S, mu2 (mJ S) a i v)
def sAr (S : mmS) (a : Nat) (r : Nat → Int32) : mmS := (mL S, mK S, mI S, mR S, mN S, mrw (mA S) a r, mQ S, mJ S)
def sQr (S : mmS) (a : Nat) (r : Nat → Option Nat) : mmS := (mL S, mK S, mI S, mR S, mN S, mA S, mrw (mQ S) a r, mJ S)
def sNo (S : mmS) (a k : Nat) : mmS := (mL S ++ [a], va_up (mK S) a k, fun f b => if b = a then 0 else mI S f b, fun f b => if b = a then none else mR S f b, mN S, mA S, mQ S, mJ S)
def sNa (S : mmS) (a n : Nat) : mmS := (mL S ++ [a], va_up (mK S) a 7, mI S, mR S, va_up (mN S) a n, mrw (mA S) a (fun _ => 0), mQ S, mJ S)
def sNq (S : mmS) (a n : Nat) : mmS := (mL S ++ [a], va_up (mK S) a 8, mI S, mR S, va_up (mN S) a n, mA S, mrw (mQ S) a (fun _ => none), mJ S)
def sNj (S : mmS) (a n : Nat) : mmS := (mL S ++ [a], va_up (mK S) a 9, mI S, mR S, va_up (mN S) a n, mA S, mQ S, mrw (mJ S) a (fun _ => 0))
/-- the fields of a kind: is it a reference, its number among those of its sort -/
def mFl : Nat → List (Bool × Nat)
  | 0 => [(false, 0), (false, 1), (false, 2), (false, 3), (false, 4), (false, 5)]
  | 1 => [(false, 6), (true, 0), (false, 7), (false, 8), (false, 9), (false, 10), (false, 11), (false, 12), (false, 13)]
  | 2 => [(true, 1), (true, 2), (false, 14), (true, 3), (true, 4), (true, 5)]
  | 3 => [(false, 15), (false, 16), (false, 17), (false, 18), (false, 19), (false, 20), (true, 6), (true, 7)]
  | 4 => [(true, 8), (true, 9), (true, 10), (true, 11), (true, 12), (false, 21), (false, 22)]
  | 5 => [(false, 23), (false, 24), (true, 13), (false, 25), (true, 14), (false, 26), (true, 15), (true, 16), (false, 27), (true, 17), (false, 28), (false, 29), (true, 18), (true, 19), (true, 20), (true, 21), (true, 22), (true, 23), (true, 24)]
  | 6 => [(false, 30), (true, 25), (false, 31)]
  | _ => []
def mF1 (S : mmS) (a : Nat) (q : Bool × Nat) : Value := if q.1 then va_rf (mR S q.2 a) else .int (mI S q.2 a)
def mF (S : mmS) (k a : Nat) : List Value := (mFl k).map (mF1 S a)
/-- base, classes, the classes of int[], Object[], long[]; ArrayList's empty array, Object[].class -/
abbrev mG : Type := Nat × va_G × ClassId × ClassId × ClassId × (Nat × Nat)
def mB (g : mG) : Nat → Prop := fun q => g.1 ≤ q
abbrev mT (g : mG) : List (ClassId × FieldType) := [(g.2.2.1, .int), (g.2.2.2.1, .object "java/lang/Object"), (g.2.2.2.2.1, .long)]
abbrev mCl : List vw_C := [(RX0, TX0, 6), (RX1, TX1, 9), (RX2, TX2, 6), (RX3, TX3, 8), (RX4, TX4, 7), (RX5, TX5, 19), (RJx4a65c, TJx4a65c, 3)]
def mE (g : mG) (S : mmS) (a : Nat) : va_E := if mK S a = 7 then .inl (g.2.2.1, mN S a, .inl (mA S a)) else if mK S a = 8 then .inl (g.2.2.2.1, mN S a, .inr (.inr (.inr (.inr (mQ S a))))) else if mK S a = 9 then .inl (g.2.2.2.2.1, mN S a, .inr (.inl (mJ S a))) else .inr (mK S a, mF S (mK S a) a)
def mW (g : mG) (S : mmS) : va_W := va_pl (mL S) (mE g S)
theorem mix (g : mG) (S : mmS) {a : Nat} (h : a ∈ mL S) : ∃ k : Nat, (mW g S)[k]? = some (a, mE g S a) := va_pl_get (X := []) h
theorem mE_o (g : mG) {S : mmS} {a k : Nat} (hk : mK S a = k) (h7 : k < 7) : mE g S a = .inr (k, mF S k a) := by
  unfold mE
  rw [hk, if_neg (by omega), if_neg (by omega), if_neg (by omega)]
theorem mE_7 (g : mG) {S : mmS} {a : Nat} (hk : mK S a = 7) : mE g S a = .inl (g.2.2.1, mN S a, .inl (mA S a)) := by
  unfold mE
  rw [hk, if_pos rfl]
theorem mE_8 (g : mG) {S : mmS} {a : Nat} (hk : mK S a = 8) : mE g S a = .inl (g.2.2.2.1, mN S a, .inr (.inr (.inr (.inr (mQ S a))))) := by
  unfold mE
  rw [hk, if_neg (by omega), if_pos rfl]
theorem mE_9 (g : mG) {S : mmS} {a : Nat} (hk : mK S a = 9) : mE g S a = .inl (g.2.2.2.2.1, mN S a, .inr (.inl (mJ S a))) := by
  unfold mE
  rw [hk, if_neg (by omega), if_neg (by omega), if_pos rfl]
theorem mset (g : mG) {S S' : mmS} {A : Nat → Prop} {a k : Nat} {e : va_E} (hD : va_D A (mW g S)) (h : a ∈ mL S) (hk : (mW g S)[k]? = some (a, mE g S a)) (hL : mL S' = mL S) (he : ∀ b, va_up (mE g S) a e b = mE g S' b) : (mW g S).set k (a, e) = mW g S' := by
  have h1 : (([] : va_W) ++ va_pl (mL S) (mE g S)).set k (a, e) = [] ++ va_pl (mL S) (va_up (mE g S) a e) := va_pl_set (X := []) hD h hk
  show (va_pl (mL S) (mE g S)).set k (a, e) = va_pl (mL S') (mE g S')
  rw [hL, ← va_pl_congr he]
  exact h1
theorem mpush (g : mG) {S S' : mmS} {a : Nat} {e : va_E} (h : a ∉ mL S) (hL : mL S' = mL S ++ [a]) (he : ∀ b, va_up (mE g S) a e b = mE g S' b) : mW g S ++ [(a, e)] = mW g S' := by
  show va_pl (mL S) (mE g S) ++ [(a, e)] = va_pl (mL S') (mE g S')
  rw [hL, ← va_pl_congr he]
  exact va_pl_push h
theorem mE_ne (g : mG) {S S' : mmS} {b : Nat} (h1 : mK S' b = mK S b) (h2 : mN S' b = mN S b) (h3 : mA S' b = mA S b) (h4 : mQ S' b = mQ S b) (h5 : mJ S' b = mJ S b) (h6 : ∀ f, mI S' f b = mI S f b) (h7 : ∀ f, mR S' f b = mR S f b) : mE g S b = mE g S' b := by
  have hF : mF1 S' b = mF1 S b := by
    funext q
    unfold mF1
    rw [h6, h7]
  unfold mE mF
  rw [h1, h2, h3, h4, h5, hF]
theorem mE_sI (g : mG) {S : mmS} {a k j f : Nat} {v : Int32} (hk : mK S a = k) (h7 : k < 7) (hj : (mFl k)[j]? = some (false, f)) (hu : ∀ i, (mFl k)[i]? = some (false, f) → i = j) (b : Nat) : va_up (mE g S) a (.inr (k, (mF S k a).set j (.int v))) b = mE g (sI S f a v) b := by
  by_cases hb : b = a
  · subst hb
    rw [va_up_self, mE_o g (S := sI S f b v) hk h7]
    congr 2
    apply List.ext_getElem?
    intro i
    have hlen : j < (mFl k).length := (List.getElem?_eq_some_iff.mp hj).1
    unfold mF
    rw [List.getElem?_set, List.getElem?_map, List.getElem?_map, List.length_map]
    by_cases hij : j = i
    · subst hij
      rw [if_pos rfl, if_pos hlen, hj]
      simp [mF1, sI, mI, mu2]
    · rw [if_neg hij]
      cases hq : (mFl k)[i]? with
      | none => rfl
      | some q =>
        obtain ⟨r, f2⟩ := q
        cases r
        · have hf : f2 ≠ f := fun e => hij (by subst e; exact (hu i hq).symm)
          simp [mF1, sI, mI, mu2, hf]
        · simp [mF1, sI, mR]
  · rw [va_up_ne _ _ hb]
    refine mE_ne g rfl rfl rfl rfl rfl (fun f' => ?_) (fun f' => rfl)
    show mu2 (mI S) f a v f' b = _
    simp [mu2, hb]
theorem mE_sR (g : mG) {S : mmS} {a k j f : Nat} {v : Option Nat} (hk : mK S a = k) (h7 : k < 7) (hj : (mFl k)[j]? = some (true, f)) (hu : ∀ i, (mFl k)[i]? = some (true, f) → i = j) (b : Nat) : va_up (mE g S) a (.inr (k, (mF S k a).set j (va_rf v))) b = mE g (sR S f a v) b := by
  by_cases hb : b = a
  · subst hb
    rw [va_up_self, mE_o g (S := sR S f b v) hk h7]
    congr 2
    apply List.ext_getElem?
    intro i
    have hlen : j < (mFl k).length := (List.getElem?_eq_some_iff.mp hj).1
    unfold mF
    rw [List.getElem?_set, List.getElem?_map, List.getElem?_map, List.length_map]
    by_cases hij : j = i
    · subst hij
      rw [if_pos rfl, if_pos hlen, hj]
      simp [mF1, sR, mR, mu2]
    · rw [if_neg hij]
      cases hq : (mFl k)[i]? with
      | none => rfl
      | some q =>
        obtain ⟨r, f2⟩ := q
        cases r
        · simp [mF1, sR, mI]
        · have hf : f2 ≠ f := fun e => hij (by subst e; exact (hu i hq).symm)
          simp [mF1, sR, mR, mu2, hf]
  · rw [va_up_ne _ _ hb]
    refine mE_ne g rfl rfl rfl rfl rfl (fun f' => rfl) (fun f' => ?_)
    show mu2 (mR S) f a v f' b = _
    simp [mu2, hb]
theorem mrow_self {α : Type} (f : Nat → Nat → α) (a i : Nat) (v : α) : (fun j => if j = i then v else f a j) = mu2 f a i v a := by
  funext j
  simp [mu2]
theorem mE_sA (g : mG) {S : mmS} {a i : Nat} {v : Int32} (hk : mK S a = 7) (b : Nat) : va_up (mE g S) a (.inl (g.2.2.1, mN S a, .inl (upd (mA S a) i v))) b = mE g (sA S a i v) b := by
  by_cases hb : b = a
  · subst hb
    rw [va_up_self, mE_7 g (S := sA S b i v) hk]
    have h : upd (mA S b) i v = mA (sA S b i v) b := mrow_self (mA S) b i v
    rw [h]; rfl
  · rw [va_up_ne _ _ hb]
    refine mE_ne g rfl rfl ?_ rfl rfl (fun f' => rfl) (fun f' => rfl)
    funext j
    show mu2 (mA S) a i v b j = _
    simp [mu2, hb]
theorem mE_sQ (g : mG) {S : mmS} {a i : Nat} {v : Option Nat} (hk : mK S a = 8) (b : Nat) : va_up (mE g S) a (.inl (g.2.2.2.1, mN S a, .inr (.inr (.inr (.inr (va_up (mQ S a) i v)))))) b = mE g (sQ S a i v) b := by
  by_cases hb : b = a
  · subst hb
    rw [va_up_self, mE_8 g (S := sQ S b i v) hk]
    have h : va_up (mQ S b) i v = mQ (sQ S b i v) b := mrow_self (mQ S) b i v
    rw [h]; rfl
  · rw [va_up_ne _ _ hb]
    refine mE_ne g rfl rfl rfl ?_ rfl (fun f' => rfl) (fun f' => rfl)
    funext j
    show mu2 (mQ S) a i v b j = _
    simp [mu2, hb]
theorem mE_sJ (g : mG) {S : mmS} {a i : Nat} {v : Int64} (hk : mK S a = 9) (b : Nat) : va_up (mE g S) a (.inl (g.2.2.2.2.1, mN S a, .inr (.inl (vp_updL (mJ S a) i v)))) b = mE g (sJ S a i v) b := by
  by_cases hb : b = a
  · subst hb
    rw [va_up_self, mE_9 g (S := sJ S b i v) hk]
    have h : vp_updL (mJ S b) i v = mJ (sJ S b i v) b := mrow_self (mJ S) b i v
    rw [h]; rfl
  · rw [va_up_ne _ _ hb]
    refine mE_ne g rfl rfl rfl rfl ?_ (fun f' => rfl) (fun f' => rfl)
    funext j
    show mu2 (mJ S) a i v b j = _
    simp [mu2, hb]
theorem mE_sAr (g : mG) {S : mmS} {a : Nat} {r : Nat → Int32} (hk : mK S a = 7) (b : Nat) : va_up (mE g S) a (.inl (g.2.2.1, mN S a, .inl r)) b = mE g (sAr S a r) b := by
  by_cases hb : b = a
  · subst hb
    rw [va_up_self, mE_7 g (S := sAr S b r) hk]
    have h : r = mA (sAr S b r) b := by
      funext j
      simp [mA, sAr, mrw]
    rw [← h]; rfl
  · rw [va_up_ne _ _ hb]
    refine mE_ne g rfl rfl ?_ rfl rfl (fun f' => rfl) (fun f' => rfl)
    funext j
    show mrw (mA S) a r b j = _
    simp [mrw, hb]
theorem mE_sQr (g : mG) {S : mmS} {a : Nat} {r : Nat → Option Nat} (hk : mK S a = 8) (b : Nat) : va_up (mE g S) a (.inl (g.2.2.2.1, mN S a, .inr (.inr (.inr (.inr r))))) b = mE g (sQr S a r) b := by
  by_cases hb : b = a
  · subst hb
    rw [va_up_self, mE_8 g (S := sQr S b r) hk]
    have h : r = mQ (sQr S b r) b := by
      funext j
      simp [mQ, sQr, mrw]
    rw [← h]; rfl
  · rw [va_up_ne _ _ hb]
    refine mE_ne g rfl rfl rfl ?_ rfl (fun f' => rfl) (fun f' => rfl)
    funext j
    show mrw (mQ S) a r b j = _
    simp [mrw, hb]
theorem mE_sNa (g : mG) {S : mmS} {a n : Nat} (b : Nat) : va_up (mE g S) a (.inl (g.2.2.1, n, .inl (fun _ => 0))) b = mE g (sNa S a n) b := by
  by_cases hb : b = a
  · subst hb
    have hk : mK (sNa S b n) b = 7 := va_up_self _ _ _
    rw [va_up_self, mE_7 g hk]
    have h1 : mN (sNa S b n) b = n := va_up_self _ _ _
    have h : mA (sNa S b n) b = fun _ => 0 := by
      funext j
      simp [mA, sNa, mrw]
    rw [h, h1]
  · rw [va_up_ne _ _ hb]
    refine mE_ne g (va_up_ne _ _ hb) (va_up_ne _ _ hb) ?_ rfl rfl (fun f' => rfl) (fun f' => rfl)
    funext j
    simp [mA, sNa, mrw, hb]
theorem mE_sNq (g : mG) {S : mmS} {a n : Nat} (b : Nat) : va_up (mE g S) a (.inl (g.2.2.2.1, n, .inr (.inr (.inr (.inr (fun _ => none)))))) b = mE g (sNq S a n) b := by
  by_cases hb : b = a
  · subst hb
    have hk : mK (sNq S b n) b = 8 := va_up_self _ _ _
    rw [va_up_self, mE_8 g hk]
    have h1 : mN (sNq S b n) b = n := va_up_self _ _ _
    have h : mQ (sNq S b n) b = fun _ => none := by
      funext j
      simp [mQ, sNq, mrw]
    rw [h, h1]
  · rw [va_up_ne _ _ hb]
    refine mE_ne g (va_up_ne _ _ hb) (va_up_ne _ _ hb) rfl ?_ rfl (fun f' => rfl) (fun f' => rfl)
    funext j
    simp [mQ, sNq, mrw, hb]
theorem mE_sNj (g : mG) {S : mmS} {a n : Nat} (b : Nat) : va_up (mE g S) a (.inl (g.2.2.2.2.1, n, .inr (.inl (fun _ => 0)))) b = mE g (sNj S a n) b := by
  by_cases hb : b = a
  · subst hb
    have hk : mK (sNj S b n) b = 9 := va_up_self _ _ _
    rw [va_up_self, mE_9 g hk]
    have h1 : mN (sNj S b n) b = n := va_up_self _ _ _
    have h : mJ (sNj S b n) b = fun _ => 0 := by
      funext j
      simp [mJ, sNj, mrw]
    rw [h, h1]
  · rw [va_up_ne _ _ hb]
    refine mE_ne g (va_up_ne _ _ hb) (va_up_ne _ _ hb) rfl rfl ?_ (fun f' => rfl) (fun f' => rfl)
    funext j
    simp [mJ, sNj, mrw, hb]
theorem mE_sNo (g : mG) {S : mmS} {a k : Nat} (h7 : k < 7) (b : Nat) : va_up (mE g S) a (.inr (k, (mFl k).map (fun q => if q.1 then .null else .int 0))) b = mE g (sNo S a k) b := by
  by_cases hb : b = a
  · subst hb
    have hk : mK (sNo S b k) b = k := va_up_self _ _ _
    rw [va_up_self, mE_o g hk h7]
    congr 2
    unfold mF
    apply List.map_congr_left
    intro q _
    obtain ⟨r, f⟩ := q
    cases r <;> simp [mF1, sNo, mI, mR, va_rf]
  · rw [va_up_ne _ _ hb]
    refine mE_ne g (va_up_ne _ _ hb) rfl rfl rfl rfl (fun f' => ?_) (fun f' => ?_)
    · show (if b = a then 0 else mI S f' b) = _
      rw [if_neg hb]
    · show (if b = a then none else mR S f' b) = _
      rw [if_neg hb]
end
section
/-! OWN ROWS over the memory: the world of a state, its contracts, one row an instruction. Written by wip/whole/rows_head.py. -/
def mSt : List (Nat × String) := [(41, "a fee or a rate is not 0 to 10000"), (50, "an interval is not 1 to 300"), (58, "there are 5 tariffs"), (78, "a rate or a day fee is not 0 to 10000"), (93, "no peak of a day"), (99, "the threshold is not 0 to 1000000"), (101, "the percentage is not 0 to 100"), (103, "there are 4 accounts"), (114, "there are 8 lines"), (140, "the beginning is not 0 to 43199"), (142, "the seconds are not 1 to 7200"), (144, "the zone is not 0 to 2"), (146, "there are 60 calls"), (161, "the seconds are not 0 to 7200"), (168, "no such index"), (180, "nothing of this number is told"), (192, "no such day"), (289, "no such tariff"), (291, "no such account"), (293, "no such line"), (295, "no such call"), (297, "no such zone abroad"), (300, "the bundle is not 0 to 100000")]
def mCa : List (String × String) := [("java/lang/IllegalArgumentException", "java/lang/IllegalArgumentException"), ("java/lang/IllegalStateException", "java/lang/IllegalStateException"), ("java/lang/IndexOutOfBoundsException", "java/lang/IndexOutOfBoundsException"), (RX0, "java/lang/Object"), (RX1, "java/lang/Object"), (RX2, "java/lang/Object"), (RX3, "java/lang/Object"), (RX4, "java/lang/Object"), (RX5, "java/lang/Object"), (RJx4a65c, "java/lang/Object")]
def mNc : List (String × String) := [("java/lang/IllegalStateException", "java/lang/IllegalArgumentException"), ("java/lang/IllegalArgumentException", "java/lang/IndexOutOfBoundsException"), ("java/lang/IllegalStateException", "java/lang/IndexOutOfBoundsException")]
def mDe : List MethodName := [Bundle.initS "java/lang/RuntimeException", Bundle.initS "java/lang/Exception", Bundle.initS Bundle.tN]
/-- what holds of the tables and of the cells that nobody writes -/
def mX (g : mG) (U : State) : Prop := g.1 ≤ U.heap.size ∧ va_K g.2.1 mCl (mT g) U ∧ vx_Zq Bundle.tN "UNASSIGNED_STACK" Bundle.steD (mB g) U U.heap ∧ vx_Zq Bundle.tN "SUPPRESSED_SENTINEL" Bundle.listD (mB g) U U.heap ∧ va_Z "java/util/ArrayList" "DEFAULTCAPACITY_EMPTY_ELEMENTDATA" "[Ljava/lang/Object;" (.ref g.2.2.2.2.2.1) (mB g) U U.heap ∧ va_T (.object "java/lang/Object") g.2.2.2.2.2.1 0 (fun _ => .null) (mB g) U U.heap ∧ va_AO "java/lang/Object" U ∧ va_Mi "[Ljava/lang/Object;" g.2.2.2.2.2.2 U ∧ va_Dc U ∧ (∀ q ∈ mSt, ∃ a, vk_R RX4 q.1 q.2 a U) ∧ (∀ q ∈ mCa, va_Nw (.castable q.1 q.2) U) ∧ (∀ q ∈ mNc, va_Nc q.1 q.2 U) ∧ ∀ q ∈ mDe, va_Nw (.declares q) U
theorem mX_mv {g : mG} {s U : State} {H : Heap} {locs : List Loc} (h : mX g s) (hS : va_S (mB g) s.heap H locs) (e : U.heap = H) (hW : s.WarmedH U.vm) : mX g U := by
  obtain ⟨h1, h2, h3, h4, h5, h6, h7, h8, h9, h10, h11, h12, h13⟩ := h
  subst e
  exact ⟨Nat.le_trans h1 hS.1, va_K.moved hW.alike h2, vx_Zq.moved hW.alike (h3.kept hS.2.1), vx_Zq.moved hW.alike (h4.kept hS.2.1), va_Z.moved hW.alike (h5.kept hS.2.1), va_T.moved hW.alike (h6.kept hS.2.1), va_AO.moved hW.alike h7, va_Mi.moved hW.alike h8, va_Dc.moved hW.alike h9, fun q hq => (h10 q hq).elim fun a ha => ⟨a, vk_R.warm hW ha⟩, fun q hq => va_Nw.warmC hW (h11 q hq), fun q hq => va_Nc.moved hW.alike (h12 q hq), fun q hq => va_Nw.warmD hW (h13 q hq)⟩
def wO (g : mG) (S : mmS) (t : State) : Prop := va_P g.2.1 mCl (mW g S) t.heap ∧ va_D (mB g) (mW g S)
def wI (g : mG) (S : mmS) (U : State) : Prop := mX g U ∧ wO g S U
def mH (g : mG) (S : mmS) (s : State) (H : Heap) (locs : List Loc) : Prop := va_P g.2.1 mCl (mW g S) H ∧ va_D (mB g) (mW g S) ∧ va_S (mB g) s.heap H locs
theorem wI_bl {g : mG} {S : mmS} {U : State} {f : JFrame} {mk : MethodId} {a : Array Value} (h : wI g S U) : wI g S (U.calling f mk a) := ⟨mX_mv h.1 (locs := []) va_S.rf (U := U.calling f mk a) rfl (State.WarmedH.refl U), h.2⟩
theorem wI_in {g : mG} {S : mmS} {s U : State} {H : Heap} {locs : List Loc} (hs : mX g s) (hH : mH g S s H locs) (e : U.heap = H) (hW : s.WarmedH U.vm) : wI g S U := ⟨mX_mv hs hH.2.2 e hW, by unfold wO; rw [e]; exact ⟨hH.1, hH.2.1⟩⟩
theorem mB_of {g : mG} {S : mmS} {s : State} {H : Heap} {locs : List Loc} (hs : mX g s) (hH : mH g S s H locs) : ∀ q, s.heap.size ≤ q → mB g q := fun q h => Nat.le_trans hs.1 h
def mCs (k : Nat) (C : String) (T : u_T) (N : Nat) (ty : Nat → FieldType) : Prop := mCl[k]? = some (C, T, N) ∧ k < 7 ∧ (∀ j, j < N → parseFieldDescriptor (T j).2.2.1 = some (ty j)) ∧ (∀ a, a < N → ∀ b, b < N → a ≠ b → (T a).2.1 ≠ (T b).2.1)
theorem cs0 : mCs 0 RX0 TX0 6 tyX0 := ⟨rfl, by decide, tyX0_ok, nmX0⟩
theorem cs1 : mCs 1 RX1 TX1 9 tyX1 := ⟨rfl, by decide, tyX1_ok, nmX1⟩
theorem cs2 : mCs 2 RX2 TX2 6 tyX2 := ⟨rfl, by decide, tyX2_ok, nmX2⟩
theorem cs3 : mCs 3 RX3 TX3 8 tyX3 := ⟨rfl, by decide, tyX3_ok, nmX3⟩
theorem cs4 : mCs 4 RX4 TX4 7 tyX4 := ⟨rfl, by decide, tyX4_ok, nmX4⟩
theorem cs5 : mCs 5 RX5 TX5 19 tyX5 := ⟨rfl, by decide, tyX5_ok, nmX5⟩
theorem cs6 : mCs 6 RJx4a65c TJx4a65c 3 tyJx4a65c := ⟨rfl, by decide, tyJx4a65c_ok, nmJx4a65c⟩
def mFs (k j : Nat) (r : Bool) (f N : Nat) : Prop := (mFl k)[j]? = some (r, f) ∧ (∀ i, (mFl k)[i]? = some (r, f) → i = j) ∧ j < N
theorem mFs_of {k j : Nat} {r : Bool} {f N : Nat} (h1 : (mFl k)[j]? = some (r, f)) (h2 : ∀ i, i < (mFl k).length → (mFl k)[i]? = some (r, f) → i = j) (h3 : j < N) : mFs k j r f N := ⟨h1, fun i hi => h2 i (List.getElem?_eq_some_iff.mp hi).1 hi, h3⟩
theorem fs0_0 : mFs 0 0 false 0 6 := mFs_of rfl (by decide) (by decide)
theorem fs0_1 : mFs 0 1 false 1 6 := mFs_of rfl (by decide) (by decide)
theorem fs0_2 : mFs 0 2 false 2 6 := mFs_of rfl (by decide) (by decide)
theorem fs0_3 : mFs 0 3 false 3 6 := mFs_of rfl (by decide) (by decide)
theorem fs0_4 : mFs 0 4 false 4 6 := mFs_of rfl (by decide) (by decide)
theorem fs0_5 : mFs 0 5 false 5 6 := mFs_of rfl (by decide) (by decide)
theorem fs1_0 : mFs 1 0 false 6 9 := mFs_of rfl (by decide) (by decide)
theorem fs1_1 : mFs 1 1 true 0 9 := mFs_of rfl (by decide) (by decide)
theorem fs1_2 : mFs 1 2 false 7 9 := mFs_of rfl (by decide) (by decide)
theorem fs1_3 : mFs 1 3 false 8 9 := mFs_of rfl (by decide) (by decide)
theorem fs1_4 : mFs 1 4 false 9 9 := mFs_of rfl (by decide) (by decide)
theorem fs1_5 : mFs 1 5 false 10 9 := mFs_of rfl (by decide) (by decide)
theorem fs1_6 : mFs 1 6 false 11 9 := mFs_of rfl (by decide) (by decide)
theorem fs1_7 : mFs 1 7 false 12 9 := mFs_of rfl (by decide) (by decide)
theorem fs1_8 : mFs 1 8 false 13 9 := mFs_of rfl (by decide) (by decide)
theorem fs2_0 : mFs 2 0 true 1 6 := mFs_of rfl (by decide) (by decide)
theorem fs2_1 : mFs 2 1 true 2 6 := mFs_of rfl (by decide) (by decide)
theorem fs2_2 : mFs 2 2 false 14 6 := mFs_of rfl (by decide) (by decide)
theorem fs2_3 : mFs 2 3 true 3 6 := mFs_of rfl (by decide) (by decide)
theorem fs2_4 : mFs 2 4 true 4 6 := mFs_of rfl (by decide) (by decide)
theorem fs2_5 : mFs 2 5 true 5 6 := mFs_of rfl (by decide) (by decide)
theorem fs3_0 : mFs 3 0 false 15 8 := mFs_of rfl (by decide) (by decide)
theorem fs3_1 : mFs 3 1 false 16 8 := mFs_of rfl (by decide) (by decide)
theorem fs3_2 : mFs 3 2 false 17 8 := mFs_of rfl (by decide) (by decide)
theorem fs3_3 : mFs 3 3 false 18 8 := mFs_of rfl (by decide) (by decide)
theorem fs3_4 : mFs 3 4 false 19 8 := mFs_of rfl (by decide) (by decide)
theorem fs3_5 : mFs 3 5 false 20 8 := mFs_of rfl (by decide) (by decide)
theorem fs3_6 : mFs 3 6 true 6 8 := mFs_of rfl (by decide) (by decide)
theorem fs3_7 : mFs 3 7 true 7 8 := mFs_of rfl (by decide) (by decide)
theorem fs4_0 : mFs 4 0 true 8 7 := mFs_of rfl (by decide) (by decide)
theorem fs4_1 : mFs 4 1 true 9 7 := mFs_of rfl (by decide) (by decide)
theorem fs4_2 : mFs 4 2 true 10 7 := mFs_of rfl (by decide) (by decide)
theorem fs4_3 : mFs 4 3 true 11 7 := mFs_of rfl (by decide) (by decide)
theorem fs4_4 : mFs 4 4 true 12 7 := mFs_of rfl (by decide) (by decide)
theorem fs4_5 : mFs 4 5 false 21 7 := mFs_of rfl (by decide) (by decide)
theorem fs4_6 : mFs 4 6 false 22 7 := mFs_of rfl (by decide) (by decide)
theorem fs5_0 : mFs 5 0 false 23 19 := mFs_of rfl (by decide) (by decide)
theorem fs5_1 : mFs 5 1 false 24 19 := mFs_of rfl (by decide) (by decide)
theorem fs5_2 : mFs 5 2 true 13 19 := mFs_of rfl (by decide) (by decide)
theorem fs5_3 : mFs 5 3 false 25 19 := mFs_of rfl (by decide) (by decide)
theorem fs5_4 : mFs 5 4 true 14 19 := mFs_of rfl (by decide) (by decide)
theorem fs5_5 : mFs 5 5 false 26 19 := mFs_of rfl (by decide) (by decide)
theorem fs5_6 : mFs 5 6 true 15 19 := mFs_of rfl (by decide) (by decide)
theorem fs5_7 : mFs 5 7 true 16 19 := mFs_of rfl (by decide) (by decide)
theorem fs5_8 : mFs 5 8 false 27 19 := mFs_of rfl (by decide) (by decide)
theorem fs5_9 : mFs 5 9 true 17 19 := mFs_of rfl (by decide) (by decide)
theorem fs5_10 : mFs 5 10 false 28 19 := mFs_of rfl (by decide) (by decide)
theorem fs5_11 : mFs 5 11 false 29 19 := mFs_of rfl (by decide) (by decide)
theorem fs5_12 : mFs 5 12 true 18 19 := mFs_of rfl (by decide) (by decide)
theorem fs5_13 : mFs 5 13 true 19 19 := mFs_of rfl (by decide) (by decide)
theorem fs5_14 : mFs 5 14 true 20 19 := mFs_of rfl (by decide) (by decide)
theorem fs5_15 : mFs 5 15 true 21 19 := mFs_of rfl (by decide) (by decide)
theorem fs5_16 : mFs 5 16 true 22 19 := mFs_of rfl (by decide) (by decide)
theorem fs5_17 : mFs 5 17 true 23 19 := mFs_of rfl (by decide) (by decide)
theorem fs5_18 : mFs 5 18 true 24 19 := mFs_of rfl (by decide) (by decide)
theorem fs6_0 : mFs 6 0 false 30 3 := mFs_of rfl (by decide) (by decide)
theorem fs6_1 : mFs 6 1 true 25 3 := mFs_of rfl (by decide) (by decide)
theorem fs6_2 : mFs 6 2 false 31 3 := mFs_of rfl (by decide) (by decide)
section MROWS
variable {p : Program} {l : Launch} {e : Env} {R : Room} {s : State} {m : MethodId} {args : Array Value} {below : List Frame} {meth : Method} {c : Code} {H : Heap} {locs : List Loc} {cells slots : Nat} {Q : State → Prop}
variable {cc : ByteArray} {nL pc : Nat} {ls : Array Slot} {rest : List Value} {Ts : List Cond} {own : String} {g : mG} {S : mmS}
theorem m_getI {C ref : String} {T : u_T} {ty : Nat → FieldType} {N k j f index a : Nat} (hC : CallFix p m c cc nL s args Ts own) (hs : mX g s) (hH : mH g S s H locs) (hcs : mCs k C T N ty) (hfs : mFs k j false f N) (hws : ∀ w ∈ u_ws C T N, w ∈ Ts) (hlink : Cond.fieldLink own index ref (T j).2.1 (T j).2.2.1 ∈ Ts) (hsame : ∀ x, s.fieldFound? (T j).1 (T j).2.1 (T j).2.2.1 = some x → s.fieldFound? ref (T j).2.1 (T j).2.2.1 = some x) (ha : a ∈ mL S ∧ mK S a = k) (hdg : decode cc pc = .ok (.getfield index, 3))
    (kk : W p l e R s m args below meth c H locs cells slots Q (F0 m (pc + 3) ls (.int (mI S f a) :: rest))) : W p l e R s m args below meth c H locs cells slots Q (F0 m pc ls (.ref a :: rest)) := by
  obtain ⟨hx, hb, -, hown, hts⟩ := hC
  obtain ⟨q0, hq⟩ := mix g S ha.1
  rw [mE_o g ha.2 hcs.2.1] at hq
  refine va_get (D := g.2.1) (cl := mCl) (tys := mT g) (v := .int (mI S f a)) hx hb hts hws hown hs.2.1 hH.1 q0 hq hcs.1 j hfs.2.2 (hts _ hlink) hsame ?_ hdg kk
  unfold mF
  rw [List.getElem?_map, hfs.1]
  rfl
theorem m_getR {C ref : String} {T : u_T} {ty : Nat → FieldType} {N k j f index a b : Nat} (hC : CallFix p m c cc nL s args Ts own) (hs : mX g s) (hH : mH g S s H locs) (hcs : mCs k C T N ty) (hfs : mFs k j true f N) (hws : ∀ w ∈ u_ws C T N, w ∈ Ts) (hlink : Cond.fieldLink own index ref (T j).2.1 (T j).2.2.1 ∈ Ts) (hsame : ∀ x, s.fieldFound? (T j).1 (T j).2.1 (T j).2.2.1 = some x → s.fieldFound? ref (T j).2.1 (T j).2.2.1 = some x) (ha : a ∈ mL S ∧ mK S a = k) (hr : mR S f a = some b) (hdg : decode cc pc = .ok (.getfield index, 3))
    (kk : W p l e R s m args below meth c H locs cells slots Q (F0 m (pc + 3) ls (.ref b :: rest))) : W p l e R s m args below meth c H locs cells slots Q (F0 m pc ls (.ref a :: rest)) := by
  obtain ⟨hx, hb, -, hown, hts⟩ := hC
  obtain ⟨q0, hq⟩ := mix g S ha.1
  rw [mE_o g ha.2 hcs.2.1] at hq
  refine va_get (D := g.2.1) (cl := mCl) (tys := mT g) (v := .ref b) hx hb hts hws hown hs.2.1 hH.1 q0 hq hcs.1 j hfs.2.2 (hts _ hlink) hsame ?_ hdg kk
  unfold mF
  rw [List.getElem?_map, hfs.1]
  show some (va_rf (mR S f a)) = _
  rw [hr]
  rfl
theorem mF_len (S : mmS) (k a : Nat) : (mF S k a).length = (mFl k).length := by simp [mF]
theorem m_putI {C ref : String} {T : u_T} {ty : Nat → FieldType} {N k j f index a : Nat} {v : Int32} (hC : CallFix p m c cc nL s args Ts own) (hs : mX g s) (hH : mH g S s H locs) (hcs : mCs k C T N ty) (hfs : mFs k j false f N) (hws : ∀ w ∈ u_ws C T N, w ∈ Ts) (hlink : Cond.fieldLink own index ref (T j).2.1 (T j).2.2.1 ∈ Ts) (hsame : ∀ x, s.fieldFound? (T j).1 (T j).2.1 (T j).2.2.1 = some x → s.fieldFound? ref (T j).2.1 (T j).2.2.1 = some x) (hfin : (T j).2.2.2 = false ∨ ((T j).2.2.2 = true ∧ meth.name = "<init>" ∧ (T j).1 = own)) (hty : ty j = .int) (ha : a ∈ mL S ∧ mK S a = k) (hdg : decode cc pc = .ok (.putfield index, 3))
    (kk : ∀ (H1 : Heap) (locs1 : List Loc), mH g (sI S f a v) s H1 locs1 → W p l e R s m args below meth c H1 locs1 cells slots Q (F0 m (pc + 3) ls rest)) : W p l e R s m args below meth c H locs cells slots Q (F0 m pc ls (.int v :: .ref a :: rest)) := by
  obtain ⟨hx, hb, -, hown, hts⟩ := hC
  obtain ⟨q0, hq0⟩ := mix g S ha.1
  have hq := hq0
  rw [mE_o g ha.2 hcs.2.1] at hq
  have hd : parseFieldDescriptor (T j).2.2.1 = some .int := by rw [hcs.2.2.1 j hfs.2.2, hty]
  have hlen : j < (mF S k a).length := by rw [mF_len]; exact (List.getElem?_eq_some_iff.mp hfs.1).1
  have he := mset g hH.2.1 ha.1 hq0 (S' := sI S f a v) rfl (mE_sI g ha.2 hcs.2.1 hfs.1 hfs.2.1)
  have fin : ∀ (H1 : Heap) (locs1 : List Loc), va_P g.2.1 mCl ((mW g S).set q0 (a, .inr (k, (mF S k a).set j (.int v)))) H1 → va_D (mB g) ((mW g S).set q0 (a, .inr (k, (mF S k a).set j (.int v)))) → va_S (mB g) s.heap H1 locs1 → W p l e R s m args below meth c H1 locs1 cells slots Q (F0 m (pc + 3) ls rest) := by
    intro H1 locs1 hP hD hS
    rw [he] at hP hD
    exact kk H1 locs1 ⟨hP, hD, hS⟩
  rcases hfin with hfin | ⟨hfin, hin, hdecl⟩
  · exact va_put (D := g.2.1) (cl := mCl) (tys := mT g) (A := mB g) (ty := .int) (v := .int v) hx hb hts hws ty hcs.2.2.1 hcs.2.2.2 hown hs.2.1 hH.1 hH.2.1 hH.2.2 q0 hq hcs.1 j hfs.2.2 (hts _ hlink) hsame hfin hd rfl rfl hlen hdg fin
  · exact va_putF (D := g.2.1) (cl := mCl) (tys := mT g) (A := mB g) (ty := .int) (v := .int v) hx hb hts hws ty hcs.2.2.1 hcs.2.2.2 hown hs.2.1 hH.1 hH.2.1 hH.2.2 q0 hq hcs.1 j hfs.2.2 (hts _ hlink) hsame hfin hin hdecl hd rfl rfl hlen hdg fin
theorem m_putR {C ref : String} {T : u_T} {ty : Nat → FieldType} {N k j f index a b : Nat} (hC : CallFix p m c cc nL s args Ts own) (hs : mX g s) (hH : mH g S s H locs) (hcs : mCs k C T N ty) (hfs : mFs k j true f N) (hws : ∀ w ∈ u_ws C T N, w ∈ Ts) (hlink : Cond.fieldLink own index ref (T j).2.1 (T j).2.2.1 ∈ Ts) (hsame : ∀ x, s.fieldFound? (T j).1 (T j).2.1 (T j).2.2.1 = some x → s.fieldFound? ref (T j).2.1 (T j).2.2.1 = some x) (hfin : (T j).2.2.2 = false ∨ ((T j).2.2.2 = true ∧ meth.name = "<init>" ∧ (T j).1 = own)) (hn : narrow (ty j) (.ref b) = .ref b) (hfit : fits (ty j) (.ref b) = true) (ha : a ∈ mL S ∧ mK S a = k) (hdg : decode cc pc = .ok (.putfield index, 3))
    (kk : ∀ (H1 : Heap) (locs1 : List Loc), mH g (sR S f a (some b)) s H1 locs1 → W p l e R s m args below meth c H1 locs1 cells slots Q (F0 m (pc + 3) ls rest)) : W p l e R s m args below meth c H locs cells slots Q (F0 m pc ls (.ref b :: .ref a :: rest)) := by
  obtain ⟨hx, hb, -, hown, hts⟩ := hC
  obtain ⟨q0, hq0⟩ := mix g S ha.1
  have hq := hq0
  rw [mE_o g ha.2 hcs.2.1] at hq
  have hd : parseFieldDescriptor (T j).2.2.1 = some (ty j) := hcs.2.2.1 j hfs.2.2
  have hlen : j < (mF S k a).length := by rw [mF_len]; exact (List.getElem?_eq_some_iff.mp hfs.1).1
  have he := mset g hH.2.1 ha.1 hq0 (S' := sR S f a (some b)) rfl (mE_sR g (v := some b) ha.2 hcs.2.1 hfs.1 hfs.2.1)
  have fin : ∀ (H1 : Heap) (locs1 : List Loc), va_P g.2.1 mCl ((mW g S).set q0 (a, .inr (k, (mF S k a).set j (.ref b)))) H1 → va_D (mB g) ((mW g S).set q0 (a, .inr (k, (mF S k a).set j (.ref b)))) → va_S (mB g) s.heap H1 locs1 → W p l e R s m args below meth c H1 locs1 cells slots Q (F0 m (pc + 3) ls rest) := by
    intro H1 locs1 hP hD hS
    have he2 : (mW g S).set q0 (a, .inr (k, (mF S k a).set j (.ref b))) = mW g (sR S f a (some b)) := he
    rw [he2] at hP hD
    exact kk H1 locs1 ⟨hP, hD, hS⟩
  rcases hfin with hfin | ⟨hfin, hin, hdecl⟩
  · exact va_put (D := g.2.1) (cl := mCl) (tys := mT g) (A := mB g) (ty := ty j) (v := .ref b) hx hb hts hws ty hcs.2.2.1 hcs.2.2.2 hown hs.2.1 hH.1 hH.2.1 hH.2.2 q0 hq hcs.1 j hfs.2.2 (hts _ hlink) hsame hfin hd hn hfit hlen hdg fin
  · exact va_putF (D := g.2.1) (cl := mCl) (tys := mT g) (A := mB g) (ty := ty j) (v := .ref b) hx hb hts hws ty hcs.2.2.1 hcs.2.2.2 hown hs.2.1 hH.1 hH.2.1 hH.2.2 q0 hq hcs.1 j hfs.2.2 (hts _ hlink) hsame hfin hin hdecl hd hn hfit hlen hdg fin
theorem m_iald {a : Nat} {i : Int32} (hC : CallFix p m c cc nL s args Ts own) (hs : mX g s) (hH : mH g S s H locs) (ha : a ∈ mL S ∧ mK S a = 7) (hin : vp_in i (mN S a)) (hdg : decode cc pc = .ok (.iaload, 1))
    (kk : W p l e R s m args below meth c H locs cells slots Q (F0 m (pc + 1) ls (.int (mA S a i.toNatClampNeg) :: rest))) : W p l e R s m args below meth c H locs cells slots Q (F0 m pc ls (.int i :: .ref a :: rest)) := by
  obtain ⟨q0, hq⟩ := mix g S ha.1
  rw [mE_7 g ha.2] at hq
  exact va_iald (D := g.2.1) (cl := mCl) (tys := mT g) hC.1 hC.2.1 hs.2.1 hH.1 q0 0 hq rfl hin hdg kk
theorem m_iast {a : Nat} {i x : Int32} (hC : CallFix p m c cc nL s args Ts own) (hs : mX g s) (hH : mH g S s H locs) (ha : a ∈ mL S ∧ mK S a = 7) (hin : vp_in i (mN S a)) (hdg : decode cc pc = .ok (.iastore, 1))
    (kk : ∀ (H1 : Heap) (locs1 : List Loc), mH g (sA S a i.toNatClampNeg x) s H1 locs1 → W p l e R s m args below meth c H1 locs1 cells slots Q (F0 m (pc + 1) ls rest)) : W p l e R s m args below meth c H locs cells slots Q (F0 m pc ls (.int x :: .int i :: .ref a :: rest)) := by
  obtain ⟨q0, hq0⟩ := mix g S ha.1
  have hq := hq0
  rw [mE_7 g ha.2] at hq
  have he := mset g hH.2.1 ha.1 hq0 (S' := sA S a i.toNatClampNeg x) rfl (mE_sA g ha.2)
  refine va_iast (D := g.2.1) (cl := mCl) (tys := mT g) (A := mB g) hC.1 hC.2.1 hs.2.1 hH.1 hH.2.1 hH.2.2 q0 0 hq rfl hin hdg (fun H1 locs1 hP hD hS => ?_)
  rw [he] at hP hD
  exact kk H1 locs1 ⟨hP, hD, hS⟩
theorem m_jald {a : Nat} {i : Int32} (hC : CallFix p m c cc nL s args Ts own) (hs : mX g s) (hH : mH g S s H locs) (ha : a ∈ mL S ∧ mK S a = 9) (hin : vp_in i (mN S a)) (hdg : decode cc pc = .ok (.laload, 1))
    (kk : W p l e R s m args below meth c H locs cells slots Q (F0 m (pc + 1) ls (.long (mJ S a i.toNatClampNeg) :: rest))) : W p l e R s m args below meth c H locs cells slots Q (F0 m pc ls (.int i :: .ref a :: rest)) := by
  obtain ⟨q0, hq⟩ := mix g S ha.1
  rw [mE_9 g ha.2] at hq
  exact va_lald (D := g.2.1) (cl := mCl) (tys := mT g) hC.1 hC.2.1 hs.2.1 hH.1 q0 2 hq rfl hin hdg kk
theorem m_jast {a : Nat} {i : Int32} {x : Int64} (hC : CallFix p m c cc nL s args Ts own) (hs : mX g s) (hH : mH g S s H locs) (ha : a ∈ mL S ∧ mK S a = 9) (hin : vp_in i (mN S a)) (hdg : decode cc pc = .ok (.lastore, 1))
    (kk : ∀ (H1 : Heap) (locs1 : List Loc), mH g (sJ S a i.toNatClampNeg x) s H1 locs1 → W p l e R s m args below meth c H1 locs1 cells slots Q (F0 m (pc + 1) ls rest)) : W p l e R s m args below meth c H locs cells slots Q (F0 m pc ls (.long x :: .int i :: .ref a :: rest)) := by
  obtain ⟨q0, hq0⟩ := mix g S ha.1
  have hq := hq0
  rw [mE_9 g ha.2] at hq
  have he := mset g hH.2.1 ha.1 hq0 (S' := sJ S a i.toNatClampNeg x) rfl (mE_sJ g ha.2)
  refine va_last (D := g.2.1) (cl := mCl) (tys := mT g) (A := mB g) hC.1 hC.2.1 hs.2.1 hH.1 hH.2.1 hH.2.2 q0 2 hq rfl hin hdg (fun H1 locs1 hP hD hS => ?_)
  rw [he] at hP hD
  exact kk H1 locs1 ⟨hP, hD, hS⟩
theorem m_alen {a k : Nat} (hC : CallFix p m c cc nL s args Ts own) (hs : mX g s) (hH : mH g S s H locs) (ha : a ∈ mL S ∧ mK S a = k) (hk : k = 7 ∨ k = 8 ∨ k = 9) (hdg : decode cc pc = .ok (.arraylength, 1))
    (kk : W p l e R s m args below meth c H locs cells slots Q (F0 m (pc + 1) ls (.int (nI (mN S a)) :: rest))) : W p l e R s m args below meth c H locs cells slots Q (F0 m pc ls (.ref a :: rest)) := by
  obtain ⟨q0, hq⟩ := mix g S ha.1
  rcases hk with rfl | rfl | rfl
  · rw [mE_7 g ha.2] at hq
    exact va_alen (D := g.2.1) (cl := mCl) (tys := mT g) hC.1 hC.2.1 hs.2.1 hH.1 q0 0 hq rfl rfl hdg kk
  · rw [mE_8 g ha.2] at hq
    exact va_alen (D := g.2.1) (cl := mCl) (tys := mT g) hC.1 hC.2.1 hs.2.1 hH.1 q0 1 hq rfl rfl hdg kk
  · rw [mE_9 g ha.2] at hq
    exact va_alen (D := g.2.1) (cl := mCl) (tys := mT g) hC.1 hC.2.1 hs.2.1 hH.1 q0 2 hq rfl rfl hdg kk
/-- the length of ArrayList's own empty array -/
theorem m_alen0 (hC : CallFix p m c cc nL s args Ts own) (hs : mX g s) (hH : mH g S s H locs) (hdg : decode cc pc = .ok (.arraylength, 1))
    (kk : W p l e R s m args below meth c H locs cells slots Q (F0 m (pc + 1) ls (.int 0 :: rest))) : W p l e R s m args below meth c H locs cells slots Q (F0 m pc ls (.ref g.2.2.2.2.2.1 :: rest)) :=
  va_tlen (A := mB g) hC.1 hC.2.1 hs.2.2.2.2.2.1 hH.2.2 (v := 0) rfl hdg kk
theorem m_gets0 {index : Nat} {ref : String} (hC : CallFix p m c cc nL s args Ts own) (hs : mX g s) (hH : mH g S s H locs) (hlink : Cond.fieldLink own index ref "DEFAULTCAPACITY_EMPTY_ELEMENTDATA" "[Ljava/lang/Object;" ∈ Ts) (hsame : ∀ x, s.fieldFound? "java/util/ArrayList" "DEFAULTCAPACITY_EMPTY_ELEMENTDATA" "[Ljava/lang/Object;" = some x → s.fieldFound? ref "DEFAULTCAPACITY_EMPTY_ELEMENTDATA" "[Ljava/lang/Object;" = some x) (hdg : decode cc pc = .ok (.getstatic index, 3))
    (kk : W p l e R s m args below meth c H locs cells slots Q (F0 m (pc + 3) ls (.ref g.2.2.2.2.2.1 :: rest))) : W p l e R s m args below meth c H locs cells slots Q (F0 m pc ls rest) :=
  va_gets (A := mB g) hC.1 hC.2.1 hs.2.2.2.2.1 hH.2.2 hC.2.2.2.1 (hC.2.2.2.2 _ hlink) hsame hdg kk
theorem m_qald {a b : Nat} {i : Int32} (hC : CallFix p m c cc nL s args Ts own) (hs : mX g s) (hH : mH g S s H locs) (ha : a ∈ mL S ∧ mK S a = 8) (hin : vp_in i (mN S a)) (hv : mQ S a i.toNatClampNeg = some b) (hdg : decode cc pc = .ok (.aaload, 1))
    (kk : W p l e R s m args below meth c H locs cells slots Q (F0 m (pc + 1) ls (.ref b :: rest))) : W p l e R s m args below meth c H locs cells slots Q (F0 m pc ls (.int i :: .ref a :: rest)) := by
  obtain ⟨q0, hq⟩ := mix g S ha.1
  rw [mE_8 g ha.2] at hq
  refine va_aldq (D := g.2.1) (cl := mCl) (tys := mT g) hC.1 hC.2.1 hs.2.1 hH.1 q0 1 hq rfl hin hdg ?_
  rw [hv]
  exact kk
theorem m_any {v k : Nat} {C : String} {T : u_T} {N : Nat} {ty : Nat → FieldType} (hs : mX g s) (hH : mH g S s H locs) (hcs : mCs k C T N ty) (hca : (C, "java/lang/Object") ∈ mCa) (hv : v ∈ mL S ∧ mK S v = k) : va_Any "java/lang/Object" s H v := by
  obtain ⟨q1, hq⟩ := mix g S hv.1
  rw [mE_o g hv.2 hcs.2.1] at hq
  have h11 := hs.2.2.2.2.2.2.2.2.2.2.1
  exact va_rAny hs.2.1 hH.1 hq hcs.1 (vb_asgC (h11 _ hca))
theorem m_qast {a v : Nat} {i : Int32} (hC : CallFix p m c cc nL s args Ts own) (hs : mX g s) (hH : mH g S s H locs) (ha : a ∈ mL S ∧ mK S a = 8) (hin : vp_in i (mN S a)) (hv : va_Any "java/lang/Object" s H v) (hdg : decode cc pc = .ok (.aastore, 1))
    (kk : ∀ (H1 : Heap) (locs1 : List Loc), mH g (sQ S a i.toNatClampNeg (some v)) s H1 locs1 → W p l e R s m args below meth c H1 locs1 cells slots Q (F0 m (pc + 1) ls rest)) : W p l e R s m args below meth c H locs cells slots Q (F0 m pc ls (.ref v :: .int i :: .ref a :: rest)) := by
  obtain ⟨q0, hq0⟩ := mix g S ha.1
  have hq := hq0
  rw [mE_8 g ha.2] at hq
  have he := mset g hH.2.1 ha.1 hq0 (S' := sQ S a i.toNatClampNeg (some v)) rfl (mE_sQ g ha.2)
  refine va_astqM (D := g.2.1) (cl := mCl) (tys := mT g) (A := mB g) hC.1 hC.2.1 hs.2.1 hH.1 hH.2.1 hH.2.2 q0 1 hq rfl hv hin hdg (fun H1 locs1 hP hD hS => ?_)
  rw [he] at hP hD
  exact kk H1 locs1 ⟨hP, hD, hS⟩
theorem m_fresh {q : Nat} {x : va_E} (h : va_D (mB g) (mW g S ++ [(q, x)])) : q ∉ mL S := va_pl_fresh2 (X := []) h
theorem m_newI {n : Int32} {N' : Nat} (hC : CallFix p m c cc nL s args Ts own) (hs : mX g s) (hH : mH g S s H locs) (harr : Cond.arrayClass .int ∈ Ts) (hn : ¬ n < 0) (hN : n.toNatClampNeg = N') (hbytes : N' * 4 ≤ 536870912) (hcells : cells + 1 ≤ R.cells) (hslots : slots + N' ≤ R.slots) (hdg : decode cc pc = .ok (.newarray .int, 2))
    (kk : ∀ (q : Nat) (H1 : Heap), q ∉ mL S → mH g (sNa S q N') s H1 locs → W p l e R s m args below meth c H1 locs (cells + 1) (slots + N') Q (F0 m (pc + 2) ls (.ref q :: rest))) : W p l e R s m args below meth c H locs cells slots Q (F0 m pc ls (.int n :: rest)) := by
  refine va_newa (atype := .int) (D := g.2.1) (cl := mCl) (tys := mT g) (A := mB g) (a0 := (N', .inl (fun _ => 0))) hC.1 hC.2.1 (hC.2.2.2.2 _ harr) rfl hs.2.1 hH.1 hH.2.1 hH.2.2 (mB_of hs hH) (fun cA => rfl) hn hN hbytes hcells hslots hdg (fun q cA H1 hK hP hD hS => ?_)
  have h3 : s.vm.findClass ("[" ++ FieldType.int.toString) = some cA := (hK.2 3 (cA, .int) rfl).2
  have h0 : s.vm.findClass ("[" ++ FieldType.int.toString) = some g.2.2.1 := (hK.2 0 (g.2.2.1, .int) rfl).2
  cases h3.symm.trans h0
  have hf := m_fresh hD
  have he := mpush g hf (S' := sNa S q N') rfl (mE_sNa g)
  rw [he] at hP hD
  exact kk q H1 hf ⟨hP, hD, hS⟩
theorem m_newJ {n : Int32} {N' : Nat} (hC : CallFix p m c cc nL s args Ts own) (hs : mX g s) (hH : mH g S s H locs) (harr : Cond.arrayClass .long ∈ Ts) (hn : ¬ n < 0) (hN : n.toNatClampNeg = N') (hbytes : N' * 8 ≤ 536870912) (hcells : cells + 1 ≤ R.cells) (hslots : slots + N' ≤ R.slots) (hdg : decode cc pc = .ok (.newarray .long, 2))
    (kk : ∀ (q : Nat) (H1 : Heap), q ∉ mL S → mH g (sNj S q N') s H1 locs → W p l e R s m args below meth c H1 locs (cells + 1) (slots + N') Q (F0 m (pc + 2) ls (.ref q :: rest))) : W p l e R s m args below meth c H locs cells slots Q (F0 m pc ls (.int n :: rest)) := by
  refine va_newa (atype := .long) (D := g.2.1) (cl := mCl) (tys := mT g) (A := mB g) (a0 := (N', .inr (.inl (fun _ => 0)))) hC.1 hC.2.1 (hC.2.2.2.2 _ harr) rfl hs.2.1 hH.1 hH.2.1 hH.2.2 (mB_of hs hH) (fun cA => rfl) hn hN hbytes hcells hslots hdg (fun q cA H1 hK hP hD hS => ?_)
  have h3 : s.vm.findClass ("[" ++ FieldType.long.toString) = some cA := (hK.2 3 (cA, .long) rfl).2
  have h0 : s.vm.findClass ("[" ++ FieldType.long.toString) = some g.2.2.2.2.1 := (hK.2 2 (g.2.2.2.2.1, .long) rfl).2
  cases h3.symm.trans h0
  have hf := m_fresh hD
  have he := mpush g hf (S' := sNj S q N') rfl (mE_sNj g)
  rw [he] at hP hD
  exact kk q H1 hf ⟨hP, hD, hS⟩
theorem m_newQ {n : Int32} {N' index : Nat} (hC : CallFix p m c cc nL s args Ts own) (hs : mX g s) (hH : mH g S s H locs) (hcl : Cond.classLink own index "java/lang/Object" ∈ Ts) (hn : ¬ n < 0) (hN : n.toNatClampNeg = N') (hbytes : N' * 4 ≤ 536870912) (hcells : cells + 1 ≤ R.cells) (hslots : slots + N' ≤ R.slots) (hdg : decode cc pc = .ok (.anewarray index, 3))
    (kk : ∀ (q : Nat) (H1 : Heap), q ∉ mL S → mH g (sNq S q N') s H1 locs → W p l e R s m args below meth c H1 locs (cells + 1) (slots + N') Q (F0 m (pc + 3) ls (.ref q :: rest))) : W p l e R s m args below meth c H locs cells slots Q (F0 m pc ls (.int n :: rest)) := by
  refine va_newq (D := g.2.1) (cl := mCl) (tys := mT g) (A := mB g) hC.1 hC.2.1 hC.2.2.2.1 (hC.2.2.2.2 _ hcl) hs.2.2.2.2.2.2.1 hs.2.1 hH.1 hH.2.1 hH.2.2 (mB_of hs hH) hn hN hbytes hcells hslots hdg (fun q cA H1 hK hP hD hS => ?_)
  have h3 := va_nmO (hK.2 3 (cA, .object "java/lang/Object") rfl).2 rfl
  have h0 := va_nmO (hK.2 1 (g.2.2.2.1, .object "java/lang/Object") rfl).2 rfl
  cases h3.symm.trans h0
  have hf := m_fresh hD
  have he := mpush g hf (S' := sNq S q N') rfl (mE_sNq g)
  rw [he] at hP hD
  exact kk q H1 hf ⟨hP, hD, hS⟩
theorem m_newO {C : String} {T : u_T} {ty : Nat → FieldType} {N k index : Nat} (hC : CallFix p m c cc nL s args Ts own) (hs : mX g s) (hH : mH g S s H locs) (hcs : mCs k C T N ty) (hws : ∀ w ∈ u_ws C T N, w ∈ Ts) (hcl : Cond.classLink own index C ∈ Ts) (hinst : Cond.instantiable C N ∈ Ts) (hini : Cond.initialized C ∈ Ts) (hfs : ∀ j, j < N → defaultValue (ty j) = vp_V ((mFl k).map (fun q => if q.1 then .null else .int 0)) j) (hcells : cells + 1 ≤ R.cells) (hslots : slots + N ≤ R.slots) (hdg : decode cc pc = .ok (.new index, 3))
    (kk : ∀ (q : Nat) (H1 : Heap), q ∉ mL S → mH g (sNo S q k) s H1 locs → W p l e R s m args below meth c H1 locs (cells + 1) (slots + N) Q (F0 m (pc + 3) ls (.ref q :: rest))) : W p l e R s m args below meth c H locs cells slots Q (F0 m pc ls rest) := by
  obtain ⟨hx, hb, -, hown, hts⟩ := hC
  refine va_new (D := g.2.1) (cl := mCl) (tys := mT g) (A := mB g) (ci := k) hx hb hts hws ty hcs.2.2.1 hown (hts _ hcl) (hts _ hinst) (hts _ hini) hs.2.1 hH.1 hH.2.1 hH.2.2 (mB_of hs hH) hcs.1 hfs hcells hslots hdg (fun q H1 hP hD hS => ?_)
  have hf := m_fresh hD
  have he := mpush g hf (S' := sNo S q k) rfl (mE_sNo g hcs.2.1)
  rw [he] at hP hD
  exact kk q H1 hf ⟨hP, hD, hS⟩
theorem m_cast {C : String} {T : u_T} {ty : Nat → FieldType} {N k index a : Nat} (hC : CallFix p m c cc nL s args Ts own) (hs : mX g s) (hH : mH g S s H locs) (hcs : mCs k C T N ty) (hcl : Cond.classLink own index C ∈ Ts) (ha : a ∈ mL S ∧ mK S a = k) (hdg : decode cc pc = .ok (.checkcast index, 3))
    (kk : W p l e R s m args below meth c H locs cells slots Q (F0 m (pc + 3) ls (.ref a :: rest))) : W p l e R s m args below meth c H locs cells slots Q (F0 m pc ls (.ref a :: rest)) := by
  obtain ⟨q0, hq⟩ := mix g S ha.1
  rw [mE_o g ha.2 hcs.2.1] at hq
  exact va_castS hC.1 hC.2.1 hC.2.2.2.1 (hC.2.2.2.2 _ hcl) (hs.2.1.1 k _ hcs.1).2 (va_recv hs.2.1 hH.1 hcs.1 hq) hdg kk
theorem m_copyI {a0 a1 : Nat} {sp dp n : Int32} {index : Nat} (hC : CallFix p m c cc nL s args Ts own) (hs : mX g s) (hH : mH g S s H locs) (hsz : ls.size = nL) (hlink : Cond.methodLink own index arraycopyName ∈ Ts) (hnat : Cond.native arraycopyName ∈ Ts) (hstat : Cond.static arraycopyName ∈ Ts) (hini : Cond.initialized "java/lang/System" ∈ Ts) (h0 : a0 ∈ mL S ∧ mK S a0 = 7) (h1 : a1 ∈ mL S ∧ mK S a1 = 7)
    (h2 : ¬ sp < 0 ∧ ¬ dp < 0 ∧ ¬ n < 0 ∧ sp.toNatClampNeg + n.toNatClampNeg ≤ mN S a0 ∧ dp.toNatClampNeg + n.toNatClampNeg ≤ mN S a1) (hfr : 1 ≤ R.frames) (hlo : (rest.map fun v => v.category).sum + (nativeFrameWords "java/lang/System" "arraycopy" 5 + 11) ≤ R.locals) (hdg : decode cc pc = .ok (.invokestatic index, 3))
    (kk : ∀ (H1 : Heap) (locs1 : List Loc), mH g (sAr S a1 (va_cpy (mA S a0) (mA S a1) sp.toNatClampNeg dp.toNatClampNeg n.toNatClampNeg)) s H1 locs1 → W p l e R s m args below meth c H1 locs1 cells slots Q (F0 m (pc + 3) ls rest)) : W p l e R s m args below meth c H locs cells slots Q (F0 m pc ls (.int n :: .int dp :: .ref a1 :: .int sp :: .ref a0 :: rest)) := by
  obtain ⟨q0, hq0⟩ := mix g S h0.1
  rw [mE_7 g h0.2] at hq0
  obtain ⟨q1, hq1'⟩ := mix g S h1.1
  have hq1 := hq1'
  rw [mE_7 g h1.2] at hq1
  have he := mset g hH.2.1 h1.1 hq1' (S' := sAr S a1 (va_cpy (mA S a0) (mA S a1) sp.toNatClampNeg dp.toNatClampNeg n.toNatClampNeg)) rfl (mE_sAr g h1.2)
  obtain ⟨hx, hb, hml, hown, hts⟩ := hC
  refine va_copyi (D := g.2.1) (cl := mCl) (tys := mT g) (A := mB g) hx hb (hml.trans hsz.symm) hown (hts _ hlink) (hts _ hnat) (hts _ hstat) (hts _ hini) hs.2.1 hH.1 hH.2.1 hH.2.2 q0 q1 0 0 (ty := .int) hq0 hq1 rfl rfl rfl h2.1 h2.2.1 h2.2.2.1 h2.2.2.2.1 h2.2.2.2.2 (fun _ _ => rfl) hfr hlo hdg (fun H1 locs1 hP hD hS => ?_)
  rw [he] at hP hD
  exact kk H1 locs1 ⟨hP, hD, hS⟩
theorem m_copyQ {a0 a1 : Nat} {sp dp n : Int32} {index : Nat} (hC : CallFix p m c cc nL s args Ts own) (hs : mX g s) (hH : mH g S s H locs) (hsz : ls.size = nL) (hlink : Cond.methodLink own index arraycopyName ∈ Ts) (hnat : Cond.native arraycopyName ∈ Ts) (hstat : Cond.static arraycopyName ∈ Ts) (hini : Cond.initialized "java/lang/System" ∈ Ts) (h0 : a0 ∈ mL S ∧ mK S a0 = 8) (h1 : a1 ∈ mL S ∧ mK S a1 = 8)
    (h2 : ¬ sp < 0 ∧ ¬ dp < 0 ∧ ¬ n < 0 ∧ sp.toNatClampNeg + n.toNatClampNeg ≤ mN S a0 ∧ dp.toNatClampNeg + n.toNatClampNeg ≤ mN S a1) (hel : ∀ i : Nat, i < n.toNatClampNeg → ∀ y : Nat, mQ S a0 (sp.toNatClampNeg + i) = some y → va_Any "java/lang/Object" s H y) (hfr : 1 ≤ R.frames) (hlo : (rest.map fun v => v.category).sum + (nativeFrameWords "java/lang/System" "arraycopy" 5 + 11) ≤ R.locals) (hdg : decode cc pc = .ok (.invokestatic index, 3))
    (kk : ∀ (H1 : Heap) (locs1 : List Loc), mH g (sQr S a1 (va_cpy (mQ S a0) (mQ S a1) sp.toNatClampNeg dp.toNatClampNeg n.toNatClampNeg)) s H1 locs1 → W p l e R s m args below meth c H1 locs1 cells slots Q (F0 m (pc + 3) ls rest)) : W p l e R s m args below meth c H locs cells slots Q (F0 m pc ls (.int n :: .int dp :: .ref a1 :: .int sp :: .ref a0 :: rest)) := by
  obtain ⟨q0, hq0⟩ := mix g S h0.1
  rw [mE_8 g h0.2] at hq0
  obtain ⟨q1, hq1'⟩ := mix g S h1.1
  have hq1 := hq1'
  rw [mE_8 g h1.2] at hq1
  have he := mset g hH.2.1 h1.1 hq1' (S' := sQr S a1 (va_cpy (mQ S a0) (mQ S a1) sp.toNatClampNeg dp.toNatClampNeg n.toNatClampNeg)) rfl (mE_sQr g h1.2)
  obtain ⟨hx, hb, hml, hown, hts⟩ := hC
  refine va_copyM (D := g.2.1) (cl := mCl) (tys := mT g) (A := mB g) hx hb (hml.trans hsz.symm) hown (hts _ hlink) (hts _ hnat) (hts _ hstat) (hts _ hini) hs.2.1 hH.1 hH.2.1 hH.2.2 q0 q1 1 1 hq0 hq1 rfl rfl h2.1 h2.2.1 h2.2.2.1 h2.2.2.2.1 h2.2.2.2.2 hel hfr hlo hdg (fun H1 locs1 hP hD hS => ?_)
  rw [he] at hP hD
  exact kk H1 locs1 ⟨hP, hD, hS⟩
theorem m_getC {a index : Nat} (hC : CallFix p m c cc nL s args Ts own) (hs : mX g s) (hH : mH g S s H locs) (hsz : ls.size = nL) (hlink : Cond.methodLink own index ⟨"java/lang/Object", "getClass", "()Ljava/lang/Class;"⟩ ∈ Ts) (hsel : Cond.selects "[Ljava/lang/Object;" ⟨"java/lang/Object", "getClass", "()Ljava/lang/Class;"⟩ ⟨"java/lang/Object", "getClass", "()Ljava/lang/Class;"⟩ ∈ Ts) (hinst : Cond.instanceMethod ⟨"java/lang/Object", "getClass", "()Ljava/lang/Class;"⟩ ∈ Ts) (hnat : Cond.native ⟨"java/lang/Object", "getClass", "()Ljava/lang/Class;"⟩ ∈ Ts) (ha : a ∈ mL S ∧ mK S a = 8) (hfr : 1 ≤ R.frames) (hlo : (rest.map fun v => v.category).sum + 14 ≤ R.locals) (hdg : decode cc pc = .ok (.invokevirtual index, 3))
    (kk : W p l e R s m args below meth c H locs cells slots Q (F0 m (pc + 3) ls (.ref g.2.2.2.2.2.2 :: rest))) : W p l e R s m args below meth c H locs cells slots Q (F0 m pc ls (.ref a :: rest)) := by
  obtain ⟨q0, hq⟩ := mix g S ha.1
  rw [mE_8 g ha.2] at hq
  obtain ⟨hx, hb, hml, hown, hts⟩ := hC
  have hnm := va_nmO (hs.2.1.2 1 (g.2.2.2.1, .object "java/lang/Object") rfl).2 rfl
  exact va_getC hx hb (hml.trans hsz.symm) hown (hts _ hlink) (va_Dc.use hs.2.2.2.2.2.2.2.2.1) (hts _ hsel) (hts _ hinst) (hts _ hnat) hs.2.2.2.2.2.2.2.1 ⟨_, hH.1 q0 _ hq, rfl, hnm⟩ hfr hlo hdg kk
theorem m_ldcM {index : Nat} (hC : CallFix p m c cc nL s args Ts own) (hs : mX g s) (hlink : Cond.classLink own index "[Ljava/lang/Object;" ∈ Ts) (hdg : decode cc pc = .ok (.ldc index, 2))
    (kk : W p l e R s m args below meth c H locs cells slots Q (F0 m (pc + 2) ls (.ref g.2.2.2.2.2.2 :: rest))) : W p l e R s m args below meth c H locs cells slots Q (F0 m pc ls rest) :=
  va_ldcM hC.1 hC.2.1 hC.2.2.2.1 (hC.2.2.2.2 _ hlink) hs.2.2.2.2.2.2.2.1 hdg kk
theorem m_acmp_ne {x y tgt : Nat} {off : Int} (hC : CallFix p m c cc nL s args Ts own) (hdg : decode cc pc = .ok (.if_acmp .ne off, 3)) (ht : (pc : Int) + off = (tgt : Int)) (kt : ¬ x = y → W p l e R s m args below meth c H locs cells slots Q (F0 m tgt ls rest)) (kf : x = y → W p l e R s m args below meth c H locs cells slots Q (F0 m (pc + 3) ls rest)) : W p l e R s m args below meth c H locs cells slots Q (F0 m pc ls (.ref y :: .ref x :: rest)) :=
  lv_acmp_ne (rx := some x) (ry := some y) hC.1 hC.2.1 hdg ht (fun h => kt (fun e => h (congrArg some e))) (fun h => kf (Option.some.inj h))
theorem m_acmp_eq {x y tgt : Nat} {off : Int} (hC : CallFix p m c cc nL s args Ts own) (hdg : decode cc pc = .ok (.if_acmp .eq off, 3)) (ht : (pc : Int) + off = (tgt : Int)) (kt : x = y → W p l e R s m args below meth c H locs cells slots Q (F0 m tgt ls rest)) (kf : ¬ x = y → W p l e R s m args below meth c H locs cells slots Q (F0 m (pc + 3) ls rest)) : W p l e R s m args below meth c H locs cells slots Q (F0 m pc ls (.ref y :: .ref x :: rest)) :=
  lv_acmp_eq (rx := some x) (ry := some y) hC.1 hC.2.1 hdg ht (fun h => kt (Option.some.inj h)) (fun h => kf (fun e => h (congrArg some e)))
/-- the length of a list's array: the shared empty one, or one of the pool -/
def mLn (z : Nat × Nat) (S : mmS) (a : Nat) : Prop := a = z.1 ∨ (a ≠ z.1 ∧ a ∈ mL S ∧ mK S a = 8)
def mLen (z : Nat × Nat) (S : mmS) (a : Nat) : Int32 := if a = z.1 then 0 else nI (mN S a)
theorem m_alenQ {a : Nat} (hC : CallFix p m c cc nL s args Ts own) (hs : mX g s) (hH : mH g S s H locs) (ha : mLn g.2.2.2.2.2 S a) (hdg : decode cc pc = .ok (.arraylength, 1))
    (kk : W p l e R s m args below meth c H locs cells slots Q (F0 m (pc + 1) ls (.int (mLen g.2.2.2.2.2 S a) :: rest))) : W p l e R s m args below meth c H locs cells slots Q (F0 m pc ls (.ref a :: rest)) := by
  rcases ha with rfl | ⟨hne, ha⟩
  · refine m_alen0 hC hs hH hdg ?_
    unfold mLen at kk
    rw [if_pos rfl] at kk
    exact kk
  · refine m_alen hC hs hH ha (Or.inr (Or.inl rfl)) hdg ?_
    unfold mLen at kk
    rw [if_neg hne] at kk
    exact kk
def mOb (S : mmS) (v : Nat) : Prop := v ∈ mL S ∧ mK S v < 7
theorem mOb_any {v : Nat} (hs : mX g s) (hH : mH g S s H locs) (h : mOb S v) : va_Any "java/lang/Object" s H v := by
  obtain ⟨h1, h2⟩ := h
  have h3 : mK S v = 0 ∨ mK S v = 1 ∨ mK S v = 2 ∨ mK S v = 3 ∨ mK S v = 4 ∨ mK S v = 5 ∨ mK S v = 6 := by omega
  rcases h3 with h3 | h3 | h3 | h3 | h3 | h3 | h3
  · exact m_any hs hH cs0 (by decide +kernel) ⟨h1, h3⟩
  · exact m_any hs hH cs1 (by decide +kernel) ⟨h1, h3⟩
  · exact m_any hs hH cs2 (by decide +kernel) ⟨h1, h3⟩
  · exact m_any hs hH cs3 (by decide +kernel) ⟨h1, h3⟩
  · exact m_any hs hH cs4 (by decide +kernel) ⟨h1, h3⟩
  · exact m_any hs hH cs5 (by decide +kernel) ⟨h1, h3⟩
  · exact m_any hs hH cs6 (by decide +kernel) ⟨h1, h3⟩
def mBo (v : Int32) : Prop := narrow .boolean (.int v) = .int v
theorem mkN {L : List Nat} {K : Nat → Nat} {a k q j : Nat} (h : a ∈ L ∧ K a = k) (hq : q ∉ L) : a ∈ L ++ [q] ∧ va_up K q j a = k := ⟨List.mem_append_left _ h.1, (va_up_ne (k := q) (j := a) K j (fun e => hq (by rw [← e]; exact h.1))).trans h.2⟩
theorem mkQ {L : List Nat} {K : Nat → Nat} {q j : Nat} : q ∈ L ++ [q] ∧ va_up K q j q = j := ⟨List.mem_append_right _ List.mem_cons_self, va_up_self _ _ _⟩
theorem m_switch {x : Int32} {lo hi dflt : Int} {offs : Array Int} {len : Nat} (hC : CallFix p m c cc nL s args Ts own) (hdg : decode cc pc = .ok (.tableswitch dflt lo hi offs, len)) (k1 : (x.toInt < lo ∨ hi < x.toInt) → W p l e R s m args below meth c H locs cells slots Q (F0 m pc ls (.int x :: rest))) (k2 : ¬ x.toInt < lo → ¬ hi < x.toInt → W p l e R s m args below meth c H locs cells slots Q (F0 m pc ls (.int x :: rest))) : W p l e R s m args below meth c H locs cells slots Q (F0 m pc ls (.int x :: rest)) := by
  by_cases h1 : x.toInt < lo
  · exact k1 (Or.inl h1)
  · by_cases h2 : hi < x.toInt
    · exact k1 (Or.inr h2)
    · exact k2 h1 h2
theorem m_cases4 {z : Int} (h1 : ¬ z < 0) (h2 : ¬ 3 < z) : z = 0 ∨ z = 1 ∨ z = 2 ∨ z = 3 := by omega
theorem m_cases25 {z : Int} (h1 : ¬ z < 0) (h2 : ¬ 24 < z) : z = 0 ∨ z = 1 ∨ z = 2 ∨ z = 3 ∨ z = 4 ∨ z = 5 ∨ z = 6 ∨ z = 7 ∨ z = 8 ∨ z = 9 ∨ z = 10 ∨ z = 11 ∨ z = 12 ∨ z = 13 ∨ z = 14 ∨ z = 15 ∨ z = 16 ∨ z = 17 ∨ z = 18 ∨ z = 19 ∨ z = 20 ∨ z = 21 ∨ z = 22 ∨ z = 23 ∨ z = 24 := by omega
theorem df0 : ∀ j, j < 6 → defaultValue (tyX0 j) = vp_V ((mFl 0).map (fun q => if q.1 then .null else .int 0)) j := by decide +kernel
theorem df1 : ∀ j, j < 9 → defaultValue (tyX1 j) = vp_V ((mFl 1).map (fun q => if q.1 then .null else .int 0)) j := by decide +kernel
theorem df2 : ∀ j, j < 6 → defaultValue (tyX2 j) = vp_V ((mFl 2).map (fun q => if q.1 then .null else .int 0)) j := by decide +kernel
theorem df3 : ∀ j, j < 8 → defaultValue (tyX3 j) = vp_V ((mFl 3).map (fun q => if q.1 then .null else .int 0)) j := by decide +kernel
theorem df4 : ∀ j, j < 7 → defaultValue (tyX4 j) = vp_V ((mFl 4).map (fun q => if q.1 then .null else .int 0)) j := by decide +kernel
theorem df5 : ∀ j, j < 19 → defaultValue (tyX5 j) = vp_V ((mFl 5).map (fun q => if q.1 then .null else .int 0)) j := by decide +kernel
theorem df6 : ∀ j, j < 3 → defaultValue (tyJx4a65c j) = vp_V ((mFl 6).map (fun q => if q.1 then .null else .int 0)) j := by decide +kernel
theorem m_min {x y : Int32} {index : Nat} (hC : CallFix p m c cc nL s args Ts own) (hsz : ls.size = nL) (hlink : Cond.methodLink own index Lib.Math.min.name ∈ Ts) (hstat : Cond.static Lib.Math.min.name ∈ Ts) (hini : Cond.initialized "java/lang/Math" ∈ Ts) (hcode : Cond.code Lib.Math.min.name Lib.Math.min.code 2 (some .int) ∈ Ts) (hfr : 1 ≤ R.frames) (hlo : (rest.map fun v => v.category).sum + 13 ≤ R.locals) (hc : cells ≤ R.cells) (hsl : slots ≤ R.slots) (hdg : decode cc pc = .ok (.invokestatic index, 3))
    (kk : W p l e R s m args below meth c H locs cells slots Q (F0 m (pc + 3) ls (.int (if y < x then y else x) :: rest))) : W p l e R s m args below meth c H locs cells slots Q (F0 m pc ls (.int y :: .int x :: rest)) :=
  va_mmin hC.1 hC.2.1 (hC.2.2.1.trans hsz.symm) hC.2.2.2.1 (hC.2.2.2.2 _ hlink) (hC.2.2.2.2 _ hstat) (hC.2.2.2.2 _ hini) (hC.2.2.2.2 _ hcode) hfr hlo hc hsl hdg kk
theorem m_max {x y : Int32} {index : Nat} (hC : CallFix p m c cc nL s args Ts own) (hsz : ls.size = nL) (hlink : Cond.methodLink own index Lib.Math.max.name ∈ Ts) (hstat : Cond.static Lib.Math.max.name ∈ Ts) (hini : Cond.initialized "java/lang/Math" ∈ Ts) (hcode : Cond.code Lib.Math.max.name Lib.Math.max.code 2 (some .int) ∈ Ts) (hfr : 1 ≤ R.frames) (hlo : (rest.map fun v => v.category).sum + 13 ≤ R.locals) (hc : cells ≤ R.cells) (hsl : slots ≤ R.slots) (hdg : decode cc pc = .ok (.invokestatic index, 3))
    (kk : W p l e R s m args below meth c H locs cells slots Q (F0 m (pc + 3) ls (.int (if x < y then y else x) :: rest))) : W p l e R s m args below meth c H locs cells slots Q (F0 m pc ls (.int y :: .int x :: rest)) :=
  va_mmax hC.1 hC.2.1 (hC.2.2.1.trans hsz.symm) hC.2.2.2.1 (hC.2.2.2.2 _ hlink) (hC.2.2.2.2 _ hstat) (hC.2.2.2.2 _ hini) (hC.2.2.2.2 _ hcode) hfr hlo hc hsl hdg kk
theorem m_objInit {a index : Nat} (hC : CallFix p m c cc nL s args Ts own) (hsz : ls.size = nL) (hlink : Cond.methodLink own index objectInit ∈ Ts) (hinst : Cond.instanceMethod objectInit ∈ Ts) (hcode : Cond.code objectInit ⟨#[0xb1]⟩ 1 none ∈ Ts) (hfr : 1 ≤ R.frames) (hlo : (rest.map fun v => v.category).sum + 12 ≤ R.locals) (hdg : decode cc pc = .ok (.invokespecial index, 3))
    (kk : W p l e R s m args below meth c H locs cells slots Q (F0 m (pc + 3) ls rest)) : W p l e R s m args below meth c H locs cells slots Q (F0 m pc ls (.ref a :: rest)) :=
  W.objInit hC.1 hC.2.1 hC.2.2.2.1 (hC.2.2.2.2 _ hlink) (hC.2.2.2.2 _ hinst) (hC.2.2.2.2 _ hcode) rfl (by rw [hC.2.2.1]; exact hsz) rfl hdg hfr (by show 2 * 0 + _ + 12 ≤ _; omega) kk
end MROWS
/-- a contract: from the world of S, with the answer (and the world behind it) as Q1 says, or a throw as X1 says -/
abbrev mMi (l : Launch) (g : mG) (y : MethodName) (ws : List Cond) (rm : Room) (As : List Value) (S : mmS) (Q1 : Int32 → mmS → Prop) (X1 : String → mmS → Prop) : Prop := vx_Met l y ws rm (va_Pc As (wI g S)) (va_Qi Q1 (wO g) (mB g)) (vx_X (fun _ : mmS => True) (fun E S1 t => X1 E S1 ∧ wO g S1 t) (mB g)) rm.cells rm.slots (mB g)
/-- a contract: from the world of S, with the answer (and the world behind it) as Q1 says, or a throw as X1 says -/
abbrev mMl (l : Launch) (g : mG) (y : MethodName) (ws : List Cond) (rm : Room) (As : List Value) (S : mmS) (Q1 : Int64 → mmS → Prop) (X1 : String → mmS → Prop) : Prop := vx_Met l y ws rm (va_Pc As (wI g S)) (va_Ql Q1 (wO g) (mB g)) (vx_X (fun _ : mmS => True) (fun E S1 t => X1 E S1 ∧ wO g S1 t) (mB g)) rm.cells rm.slots (mB g)
/-- a contract: from the world of S, with the answer (and the world behind it) as Q1 says, or a throw as X1 says -/
abbrev mMd (l : Launch) (g : mG) (y : MethodName) (ws : List Cond) (rm : Room) (As : List Value) (S : mmS) (Q1 : UInt64 → mmS → Prop) (X1 : String → mmS → Prop) : Prop := vx_Met l y ws rm (va_Pc As (wI g S)) (va_Qd Q1 (wO g) (mB g)) (vx_X (fun _ : mmS => True) (fun E S1 t => X1 E S1 ∧ wO g S1 t) (mB g)) rm.cells rm.slots (mB g)
/-- a contract: from the world of S, with the answer (and the world behind it) as Q1 says, or a throw as X1 says -/
abbrev mMv (l : Launch) (g : mG) (y : MethodName) (ws : List Cond) (rm : Room) (As : List Value) (S : mmS) (Q1 : mmS → Prop) (X1 : String → mmS → Prop) : Prop := vx_Met l y ws rm (va_Pc As (wI g S)) (va_Qv Q1 (wO g) (mB g)) (vx_X (fun _ : mmS => True) (fun E S1 t => X1 E S1 ∧ wO g S1 t) (mB g)) rm.cells rm.slots (mB g)
/-- a contract: from the world of S, with the answer (and the world behind it) as Q1 says, or a throw as X1 says -/
abbrev mMq (l : Launch) (g : mG) (y : MethodName) (ws : List Cond) (rm : Room) (As : List Value) (S : mmS) (Q1 : Nat → mmS → Prop) (X1 : String → mmS → Prop) : Prop := vx_Met l y ws rm (va_Pc As (wI g S)) (va_Qq (fun (r : Option Nat) (S1 : mmS) => ∃ b, r = some b ∧ Q1 b S1) (wO g) (mB g)) (vx_X (fun _ : mmS => True) (fun E S1 t => X1 E S1 ∧ wO g S1 t) (mB g)) rm.cells rm.slots (mB g)
section MCALL
variable {p : Program} {l : Launch} {e : Env} {R : Room} {s : State} {m : MethodId} {args : Array Value} {below : List Frame} {meth : Method} {c : Code} {H : Heap} {locs : List Loc} {cells slots : Nat} {Q : State → Prop}
variable {cc bytes : ByteArray} {nL pc n maxL index : Nat} {ls : Array Slot} {rest st As : List Value} {Ts ws : List Cond} {own C : String} {g : mG} {S : mmS} {y : MethodName} {rm : Room} {ret : Option FieldType} {X1 : String → mmS → Prop}
theorem m_pcbl {As : List Value} : FrameBlind (va_Pc As (wI g S)) := fun a U f mk h => ⟨h.1, wI_bl h.2⟩
theorem m_back {S1 : mmS} {t : State} {H1 : Heap} {locs1 : List Loc} (ht : t.heap = H1) (hO : wO g S1 t) (hS : va_S (mB g) s.heap H1 locs1) : mH g S1 s H1 locs1 := by
  unfold wO at hO
  rw [ht] at hO
  exact ⟨hO.1, hO.2, hS⟩
theorem m_recv {b k : Nat} {T : u_T} {N : Nat} {ty : Nat → FieldType} (hs : mX g s) (hH : mH g S s H locs) (hcs : mCs k C T N ty) (hb : b ∈ mL S ∧ mK S b = k) : ∃ cell : Cell, H[b]? = some cell ∧ cell.vm.isStatics = false ∧ s.vm.findClass C = some cell.cls := by
  obtain ⟨q0, hq⟩ := mix g S hb.1
  rw [mE_o g hb.2 hcs.2.1] at hq
  exact va_recv hs.2.1 hH.1 hcs.1 hq
abbrev mKx (p : Program) (l : Launch) (e : Env) (R : Room) (s : State) (m : MethodId) (args : Array Value) (below : List Frame) (meth : Method) (c : Code) (cells slots : Nat) (Q : State → Prop) (g : mG) (X1 : String → mmS → Prop) (fr : JFrame) : Prop :=
  ∀ (E : String) (S1 : mmS) (H1 : Heap) (locs1 : List Loc) (ce : Cell) (q9 : Addr), X1 E S1 → mH g S1 s H1 locs1 → H1[q9]? = some ce → ce.vm = .none → s.vm.findClass E = some ce.cls → vx_W p l e R s m args below meth c H1 locs1 cells slots Q fr q9
theorem mKx_no {fr : JFrame} {k n : Nat} : mKx p l e R s m args below meth c k n Q g (fun _ _ => False) fr := fun _ _ _ _ _ _ h => h.elim
theorem m_callVi {Q1 : Int32 → mmS → Prop} (hC : CallFix p m c cc nL s args Ts own) (hs : mX g s) (hH : mH g S s H locs) (hsz : ls.size = nL) (cw : CallW R s args own C index y bytes maxL ret ws rm rm.cells rm.slots n) {b k : Nat} {T : u_T} {N : Nat} {ty : Nat → FieldType} (hcs : mCs k C T N ty) (hb : b ∈ mL S ∧ mK S b = k) (hM : mMi l g y ws rm (.ref b :: As) S Q1 X1) (hn : As.length = n) (hst : st = As.reverse ++ .ref b :: rest) (hW : (rest.map fun v => v.category).sum ≤ 8) (hdg : decode cc pc = .ok (.invokevirtual index, 3)) (hf : cells + rm.cells ≤ R.cells ∧ slots + rm.slots ≤ R.slots)
    (kx : mKx p l e R s m args below meth c (cells + rm.cells) (slots + rm.slots) Q g X1 (F0 m pc ls rest)) (kk : ∀ (r : Int32) (S1 : mmS) (H1 : Heap) (locs1 : List Loc), Q1 r S1 → mH g S1 s H1 locs1 → W p l e R s m args below meth c H1 locs1 (cells + rm.cells) (slots + rm.slots) Q (F0 m (pc + 3) ls (.int r :: rest))) : W p l e R s m args below meth c H locs cells slots Q (F0 m pc ls st) := by
  subst hst
  refine vx_calli (A1 := mB g) (AX := mB g) (vx_runV (As := As) (rest := rest) hC hM cw ⟨m_pcbl, m_recv hs hH hcs hb, fun U hU hW => ⟨rfl, wI_in hs hH hU hW⟩⟩ rfl hn hsz rfl (lv_room hW) hdg hf) hH.2.2 (fun _ _ h => h) (fun _ h => h) (fun _ _ h => h) (fun E ce q9 S1 t H1 locs1 ht hvm _ hx hz hk hS hce hcv hcl => kx E S1 H1 locs1 ce q9 hx.1 (m_back ht hx.2 hS) hce hcv hcl) ?_
  exact fun r S1 t H1 locs1 ht hvm hp hO hz hk hS => kk r S1 H1 locs1 hp (m_back ht hO hS)
theorem m_callSi {Q1 : Int32 → mmS → Prop} (hC : CallFix p m c cc nL s args Ts own) (hs : mX g s) (hH : mH g S s H locs) (hsz : ls.size = nL) (cw : CallB R s args own index y bytes maxL ret ws rm rm.cells rm.slots n ∧ (Cond.static y).before args s = true) (hM : mMi l g y ws rm (As) S Q1 X1) (hn : As.length = n) (hst : st = As.reverse ++ rest) (hW : (rest.map fun v => v.category).sum ≤ 8) (hdg : decode cc pc = .ok (.invokestatic index, 3)) (hf : cells + rm.cells ≤ R.cells ∧ slots + rm.slots ≤ R.slots)
    (kx : mKx p l e R s m args below meth c (cells + rm.cells) (slots + rm.slots) Q g X1 (F0 m pc ls rest)) (kk : ∀ (r : Int32) (S1 : mmS) (H1 : Heap) (locs1 : List Loc), Q1 r S1 → mH g S1 s H1 locs1 → W p l e R s m args below meth c H1 locs1 (cells + rm.cells) (slots + rm.slots) Q (F0 m (pc + 3) ls (.int r :: rest))) : W p l e R s m args below meth c H locs cells slots Q (F0 m pc ls st) := by
  subst hst
  refine vx_calli (A1 := mB g) (AX := mB g) (vx_runS (As := As) (rest := rest) hC hM cw ⟨m_pcbl, fun U hU hW => ⟨rfl, wI_in hs hH hU hW⟩⟩ rfl hn hsz rfl (lv_room hW) hdg hf) hH.2.2 (fun _ _ h => h) (fun _ h => h) (fun _ _ h => h) (fun E ce q9 S1 t H1 locs1 ht hvm _ hx hz hk hS hce hcv hcl => kx E S1 H1 locs1 ce q9 hx.1 (m_back ht hx.2 hS) hce hcv hcl) ?_
  exact fun r S1 t H1 locs1 ht hvm hp hO hz hk hS => kk r S1 H1 locs1 hp (m_back ht hO hS)
theorem m_callXi {Q1 : Int32 → mmS → Prop} (hC : CallFix p m c cc nL s args Ts own) (hs : mX g s) (hH : mH g S s H locs) (hsz : ls.size = nL) {hh : List (Nat × Nat × Nat × Nat)} (cw : vx_CSW R s args own index y bytes maxL ret hh ws rm rm.cells rm.slots n) (hM : mMi l g y ws rm (As) S Q1 X1) (hn : As.length = n) (hst : st = As.reverse ++ rest) (hW : (rest.map fun v => v.category).sum ≤ 8) (hdg : decode cc pc = .ok (.invokestatic index, 3)) (hf : cells + rm.cells ≤ R.cells ∧ slots + rm.slots ≤ R.slots)
    (kx : mKx p l e R s m args below meth c (cells + rm.cells) (slots + rm.slots) Q g X1 (F0 m pc ls rest)) (kk : ∀ (r : Int32) (S1 : mmS) (H1 : Heap) (locs1 : List Loc), Q1 r S1 → mH g S1 s H1 locs1 → W p l e R s m args below meth c H1 locs1 (cells + rm.cells) (slots + rm.slots) Q (F0 m (pc + 3) ls (.int r :: rest))) : W p l e R s m args below meth c H locs cells slots Q (F0 m pc ls st) := by
  subst hst
  refine vx_calli (A1 := mB g) (AX := mB g) (vx_runSX (As := As) (rest := rest) hC hM cw ⟨m_pcbl, fun U hU hW => ⟨rfl, wI_in hs hH hU hW⟩⟩ rfl hn hsz rfl (lv_room hW) hdg hf) hH.2.2 (fun _ _ h => h) (fun _ h => h) (fun _ _ h => h) (fun E ce q9 S1 t H1 locs1 ht hvm _ hx hz hk hS hce hcv hcl => kx E S1 H1 locs1 ce q9 hx.1 (m_back ht hx.2 hS) hce hcv hcl) ?_
  exact fun r S1 t H1 locs1 ht hvm hp hO hz hk hS => kk r S1 H1 locs1 hp (m_back ht hO hS)
theorem m_callVl {Q1 : Int64 → mmS → Prop} (hC : CallFix p m c cc nL s args Ts own) (hs : mX g s) (hH : mH g S s H locs) (hsz : ls.size = nL) (cw : CallW R s args own C index y bytes maxL ret ws rm rm.cells rm.slots n) {b k : Nat} {T : u_T} {N : Nat} {ty : Nat → FieldType} (hcs : mCs k C T N ty) (hb : b ∈ mL S ∧ mK S b = k) (hM : mMl l g y ws rm (.ref b :: As) S Q1 X1) (hn : As.length = n) (hst : st = As.reverse ++ .ref b :: rest) (hW : (rest.map fun v => v.category).sum ≤ 8) (hdg : decode cc pc = .ok (.invokevirtual index, 3)) (hf : cells + rm.cells ≤ R.cells ∧ slots + rm.slots ≤ R.slots)
    (kx : mKx p l e R s m args below meth c (cells + rm.cells) (slots + rm.slots) Q g X1 (F0 m pc ls rest)) (kk : ∀ (r : Int64) (S1 : mmS) (H1 : Heap) (locs1 : List Loc), Q1 r S1 → mH g S1 s H1 locs1 → W p l e R s m args below meth c H1 locs1 (cells + rm.cells) (slots + rm.slots) Q (F0 m (pc + 3) ls (.long r :: rest))) : W p l e R s m args below meth c H locs cells slots Q (F0 m pc ls st) := by
  subst hst
  refine vx_calll (A1 := mB g) (AX := mB g) (vx_runV (As := As) (rest := rest) hC hM cw ⟨m_pcbl, m_recv hs hH hcs hb, fun U hU hW => ⟨rfl, wI_in hs hH hU hW⟩⟩ rfl hn hsz rfl (lv_room hW) hdg hf) hH.2.2 (fun _ _ h => h) (fun _ h => h) (fun _ _ h => h) (fun E ce q9 S1 t H1 locs1 ht hvm _ hx hz hk hS hce hcv hcl => kx E S1 H1 locs1 ce q9 hx.1 (m_back ht hx.2 hS) hce hcv hcl) ?_
  exact fun r S1 t H1 locs1 ht hvm hp hO hz hk hS => kk r S1 H1 locs1 hp (m_back ht hO hS)
theorem m_callSl {Q1 : Int64 → mmS → Prop} (hC : CallFix p m c cc nL s args Ts own) (hs : mX g s) (hH : mH g S s H locs) (hsz : ls.size = nL) (cw : CallB R s args own index y bytes maxL ret ws rm rm.cells rm.slots n ∧ (Cond.static y).before args s = true) (hM : mMl l g y ws rm (As) S Q1 X1) (hn : As.length = n) (hst : st = As.reverse ++ rest) (hW : (rest.map fun v => v.category).sum ≤ 8) (hdg : decode cc pc = .ok (.invokestatic index, 3)) (hf : cells + rm.cells ≤ R.cells ∧ slots + rm.slots ≤ R.slots)
    (kx : mKx p l e R s m args below meth c (cells + rm.cells) (slots + rm.slots) Q g X1 (F0 m pc ls rest)) (kk : ∀ (r : Int64) (S1 : mmS) (H1 : Heap) (locs1 : List Loc), Q1 r S1 → mH g S1 s H1 locs1 → W p l e R s m args below meth c H1 locs1 (cells + rm.cells) (slots + rm.slots) Q (F0 m (pc + 3) ls (.long r :: rest))) : W p l e R s m args below meth c H locs cells slots Q (F0 m pc ls st) := by
  subst hst
  refine vx_calll (A1 := mB g) (AX := mB g) (vx_runS (As := As) (rest := rest) hC hM cw ⟨m_pcbl, fun U hU hW => ⟨rfl, wI_in hs hH hU hW⟩⟩ rfl hn hsz rfl (lv_room hW) hdg hf) hH.2.2 (fun _ _ h => h) (fun _ h => h) (fun _ _ h => h) (fun E ce q9 S1 t H1 locs1 ht hvm _ hx hz hk hS hce hcv hcl => kx E S1 H1 locs1 ce q9 hx.1 (m_back ht hx.2 hS) hce hcv hcl) ?_
  exact fun r S1 t H1 locs1 ht hvm hp hO hz hk hS => kk r S1 H1 locs1 hp (m_back ht hO hS)
theorem m_callVd {Q1 : UInt64 → mmS → Prop} (hC : CallFix p m c cc nL s args Ts own) (hs : mX g s) (hH : mH g S s H locs) (hsz : ls.size = nL) (cw : CallW R s args own C index y bytes maxL ret ws rm rm.cells rm.slots n) {b k : Nat} {T : u_T} {N : Nat} {ty : Nat → FieldType} (hcs : mCs k C T N ty) (hb : b ∈ mL S ∧ mK S b = k) (hM : mMd l g y ws rm (.ref b :: As) S Q1 X1) (hn : As.length = n) (hst : st = As.reverse ++ .ref b :: rest) (hW : (rest.map fun v => v.category).sum ≤ 8) (hdg : decode cc pc = .ok (.invokevirtual index, 3)) (hf : cells + rm.cells ≤ R.cells ∧ slots + rm.slots ≤ R.slots)
    (kx : mKx p l e R s m args below meth c (cells + rm.cells) (slots + rm.slots) Q g X1 (F0 m pc ls rest)) (kk : ∀ (r : UInt64) (S1 : mmS) (H1 : Heap) (locs1 : List Loc), Q1 r S1 → mH g S1 s H1 locs1 → W p l e R s m args below meth c H1 locs1 (cells + rm.cells) (slots + rm.slots) Q (F0 m (pc + 3) ls (.double r :: rest))) : W p l e R s m args below meth c H locs cells slots Q (F0 m pc ls st) := by
  subst hst
  refine vx_calld (A1 := mB g) (AX := mB g) (vx_runV (As := As) (rest := rest) hC hM cw ⟨m_pcbl, m_recv hs hH hcs hb, fun U hU hW => ⟨rfl, wI_in hs hH hU hW⟩⟩ rfl hn hsz rfl (lv_room hW) hdg hf) hH.2.2 (fun _ _ h => h) (fun _ h => h) (fun _ _ h => h) (fun E ce q9 S1 t H1 locs1 ht hvm _ hx hz hk hS hce hcv hcl => kx E S1 H1 locs1 ce q9 hx.1 (m_back ht hx.2 hS) hce hcv hcl) ?_
  exact fun r S1 t H1 locs1 ht hvm hp hO hz hk hS => kk r S1 H1 locs1 hp (m_back ht hO hS)
theorem m_callSd {Q1 : UInt64 → mmS → Prop} (hC : CallFix p m c cc nL s args Ts own) (hs : mX g s) (hH : mH g S s H locs) (hsz : ls.size = nL) (cw : CallB R s args own index y bytes maxL ret ws rm rm.cells rm.slots n ∧ (Cond.static y).before args s = true) (hM : mMd l g y ws rm (As) S Q1 X1) (hn : As.length = n) (hst : st = As.reverse ++ rest) (hW : (rest.map fun v => v.category).sum ≤ 8) (hdg : decode cc pc = .ok (.invokestatic index, 3)) (hf : cells + rm.cells ≤ R.cells ∧ slots + rm.slots ≤ R.slots)
    (kx : mKx p l e R s m args below meth c (cells + rm.cells) (slots + rm.slots) Q g X1 (F0 m pc ls rest)) (kk : ∀ (r : UInt64) (S1 : mmS) (H1 : Heap) (locs1 : List Loc), Q1 r S1 → mH g S1 s H1 locs1 → W p l e R s m args below meth c H1 locs1 (cells + rm.cells) (slots + rm.slots) Q (F0 m (pc + 3) ls (.double r :: rest))) : W p l e R s m args below meth c H locs cells slots Q (F0 m pc ls st) := by
  subst hst
  refine vx_calld (A1 := mB g) (AX := mB g) (vx_runS (As := As) (rest := rest) hC hM cw ⟨m_pcbl, fun U hU hW => ⟨rfl, wI_in hs hH hU hW⟩⟩ rfl hn hsz rfl (lv_room hW) hdg hf) hH.2.2 (fun _ _ h => h) (fun _ h => h) (fun _ _ h => h) (fun E ce q9 S1 t H1 locs1 ht hvm _ hx hz hk hS hce hcv hcl => kx E S1 H1 locs1 ce q9 hx.1 (m_back ht hx.2 hS) hce hcv hcl) ?_
  exact fun r S1 t H1 locs1 ht hvm hp hO hz hk hS => kk r S1 H1 locs1 hp (m_back ht hO hS)
theorem m_callVv {Q1 : mmS → Prop} (hC : CallFix p m c cc nL s args Ts own) (hs : mX g s) (hH : mH g S s H locs) (hsz : ls.size = nL) (cw : CallW R s args own C index y bytes maxL ret ws rm rm.cells rm.slots n) {b k : Nat} {T : u_T} {N : Nat} {ty : Nat → FieldType} (hcs : mCs k C T N ty) (hb : b ∈ mL S ∧ mK S b = k) (hM : mMv l g y ws rm (.ref b :: As) S Q1 X1) (hn : As.length = n) (hst : st = As.reverse ++ .ref b :: rest) (hW : (rest.map fun v => v.category).sum ≤ 8) (hdg : decode cc pc = .ok (.invokevirtual index, 3)) (hf : cells + rm.cells ≤ R.cells ∧ slots + rm.slots ≤ R.slots)
    (kx : mKx p l e R s m args below meth c (cells + rm.cells) (slots + rm.slots) Q g X1 (F0 m pc ls rest)) (kk : ∀ (S1 : mmS) (H1 : Heap) (locs1 : List Loc), Q1 S1 → mH g S1 s H1 locs1 → W p l e R s m args below meth c H1 locs1 (cells + rm.cells) (slots + rm.slots) Q (F0 m (pc + 3) ls rest)) : W p l e R s m args below meth c H locs cells slots Q (F0 m pc ls st) := by
  subst hst
  refine vx_callv (A1 := mB g) (AX := mB g) (vx_runV (As := As) (rest := rest) hC hM cw ⟨m_pcbl, m_recv hs hH hcs hb, fun U hU hW => ⟨rfl, wI_in hs hH hU hW⟩⟩ rfl hn hsz rfl (lv_room hW) hdg hf) hH.2.2 (fun _ _ h => h) (fun _ h => h) (fun _ _ h => h) (fun E ce q9 S1 t H1 locs1 ht hvm _ hx hz hk hS hce hcv hcl => kx E S1 H1 locs1 ce q9 hx.1 (m_back ht hx.2 hS) hce hcv hcl) ?_
  exact fun S1 t H1 locs1 ht hvm hp hO hz hk hS => kk S1 H1 locs1 hp (m_back ht hO hS)
theorem m_callSv {Q1 : mmS → Prop} (hC : CallFix p m c cc nL s args Ts own) (hs : mX g s) (hH : mH g S s H locs) (hsz : ls.size = nL) (cw : CallB R s args own index y bytes maxL ret ws rm rm.cells rm.slots n ∧ (Cond.static y).before args s = true) (hM : mMv l g y ws rm (As) S Q1 X1) (hn : As.length = n) (hst : st = As.reverse ++ rest) (hW : (rest.map fun v => v.category).sum ≤ 8) (hdg : decode cc pc = .ok (.invokestatic index, 3)) (hf : cells + rm.cells ≤ R.cells ∧ slots + rm.slots ≤ R.slots)
    (kx : mKx p l e R s m args below meth c (cells + rm.cells) (slots + rm.slots) Q g X1 (F0 m pc ls rest)) (kk : ∀ (S1 : mmS) (H1 : Heap) (locs1 : List Loc), Q1 S1 → mH g S1 s H1 locs1 → W p l e R s m args below meth c H1 locs1 (cells + rm.cells) (slots + rm.slots) Q (F0 m (pc + 3) ls rest)) : W p l e R s m args below meth c H locs cells slots Q (F0 m pc ls st) := by
  subst hst
  refine vx_callv (A1 := mB g) (AX := mB g) (vx_runS (As := As) (rest := rest) hC hM cw ⟨m_pcbl, fun U hU hW => ⟨rfl, wI_in hs hH hU hW⟩⟩ rfl hn hsz rfl (lv_room hW) hdg hf) hH.2.2 (fun _ _ h => h) (fun _ h => h) (fun _ _ h => h) (fun E ce q9 S1 t H1 locs1 ht hvm _ hx hz hk hS hce hcv hcl => kx E S1 H1 locs1 ce q9 hx.1 (m_back ht hx.2 hS) hce hcv hcl) ?_
  exact fun S1 t H1 locs1 ht hvm hp hO hz hk hS => kk S1 H1 locs1 hp (m_back ht hO hS)
theorem m_callIv {Q1 : mmS → Prop} (hC : CallFix p m c cc nL s args Ts own) (hs : mX g s) (hH : mH g S s H locs) (hsz : ls.size = nL) (cw : CallB R s args own index y bytes maxL none ws rm rm.cells rm.slots n ∧ y.name = "<init>" ∧ (Cond.instanceMethod y).before args s = true) {b : Nat} (hM : mMv l g y ws rm (.ref b :: As) S Q1 X1) (hn : As.length = n) (hst : st = As.reverse ++ .ref b :: rest) (hW : (rest.map fun v => v.category).sum ≤ 8) (hdg : decode cc pc = .ok (.invokespecial index, 3)) (hf : cells + rm.cells ≤ R.cells ∧ slots + rm.slots ≤ R.slots)
    (kx : mKx p l e R s m args below meth c (cells + rm.cells) (slots + rm.slots) Q g X1 (F0 m pc ls rest)) (kk : ∀ (S1 : mmS) (H1 : Heap) (locs1 : List Loc), Q1 S1 → mH g S1 s H1 locs1 → W p l e R s m args below meth c H1 locs1 (cells + rm.cells) (slots + rm.slots) Q (F0 m (pc + 3) ls rest)) : W p l e R s m args below meth c H locs cells slots Q (F0 m pc ls st) := by
  subst hst
  refine vx_callv (A1 := mB g) (AX := mB g) (vx_runI (As := As) (rest := rest) (b := b) hC hM cw ⟨m_pcbl, fun U hU hW => ⟨rfl, wI_in hs hH hU hW⟩⟩ rfl hn hsz rfl (lv_room hW) hdg hf) hH.2.2 (fun _ _ h => h) (fun _ h => h) (fun _ _ h => h) (fun E ce q9 S1 t H1 locs1 ht hvm _ hx hz hk hS hce hcv hcl => kx E S1 H1 locs1 ce q9 hx.1 (m_back ht hx.2 hS) hce hcv hcl) ?_
  exact fun S1 t H1 locs1 ht hvm hp hO hz hk hS => kk S1 H1 locs1 hp (m_back ht hO hS)
theorem m_callVq {Q1 : Nat → mmS → Prop} (hC : CallFix p m c cc nL s args Ts own) (hs : mX g s) (hH : mH g S s H locs) (hsz : ls.size = nL) (cw : CallW R s args own C index y bytes maxL ret ws rm rm.cells rm.slots n) {b k : Nat} {T : u_T} {N : Nat} {ty : Nat → FieldType} (hcs : mCs k C T N ty) (hb : b ∈ mL S ∧ mK S b = k) (hM : mMq l g y ws rm (.ref b :: As) S Q1 X1) (hn : As.length = n) (hst : st = As.reverse ++ .ref b :: rest) (hW : (rest.map fun v => v.category).sum ≤ 8) (hdg : decode cc pc = .ok (.invokevirtual index, 3)) (hf : cells + rm.cells ≤ R.cells ∧ slots + rm.slots ≤ R.slots)
    (kx : mKx p l e R s m args below meth c (cells + rm.cells) (slots + rm.slots) Q g X1 (F0 m pc ls rest)) (kk : ∀ (r : Nat) (S1 : mmS) (H1 : Heap) (locs1 : List Loc), Q1 r S1 → mH g S1 s H1 locs1 → W p l e R s m args below meth c H1 locs1 (cells + rm.cells) (slots + rm.slots) Q (F0 m (pc + 3) ls (.ref r :: rest))) : W p l e R s m args below meth c H locs cells slots Q (F0 m pc ls st) := by
  subst hst
  refine vx_callq (A1 := mB g) (AX := mB g) (vx_runV (As := As) (rest := rest) hC hM cw ⟨m_pcbl, m_recv hs hH hcs hb, fun U hU hW => ⟨rfl, wI_in hs hH hU hW⟩⟩ rfl hn hsz rfl (lv_room hW) hdg hf) hH.2.2 (fun _ _ h => h) (fun _ h => h) (fun _ _ h => h) (fun E ce q9 S1 t H1 locs1 ht hvm _ hx hz hk hS hce hcv hcl => kx E S1 H1 locs1 ce q9 hx.1 (m_back ht hx.2 hS) hce hcv hcl) ?_
  intro r S1 t H1 locs1 ht hvm hp hO hz hk hS
  obtain ⟨b, rfl, hq⟩ := hp
  exact kk b S1 H1 locs1 hq (m_back ht hO hS)
theorem m_callSq {Q1 : Nat → mmS → Prop} (hC : CallFix p m c cc nL s args Ts own) (hs : mX g s) (hH : mH g S s H locs) (hsz : ls.size = nL) (cw : CallB R s args own index y bytes maxL ret ws rm rm.cells rm.slots n ∧ (Cond.static y).before args s = true) (hM : mMq l g y ws rm (As) S Q1 X1) (hn : As.length = n) (hst : st = As.reverse ++ rest) (hW : (rest.map fun v => v.category).sum ≤ 8) (hdg : decode cc pc = .ok (.invokestatic index, 3)) (hf : cells + rm.cells ≤ R.cells ∧ slots + rm.slots ≤ R.slots)
    (kx : mKx p l e R s m args below meth c (cells + rm.cells) (slots + rm.slots) Q g X1 (F0 m pc ls rest)) (kk : ∀ (r : Nat) (S1 : mmS) (H1 : Heap) (locs1 : List Loc), Q1 r S1 → mH g S1 s H1 locs1 → W p l e R s m args below meth c H1 locs1 (cells + rm.cells) (slots + rm.slots) Q (F0 m (pc + 3) ls (.ref r :: rest))) : W p l e R s m args below meth c H locs cells slots Q (F0 m pc ls st) := by
  subst hst
  refine vx_callq (A1 := mB g) (AX := mB g) (vx_runS (As := As) (rest := rest) hC hM cw ⟨m_pcbl, fun U hU hW => ⟨rfl, wI_in hs hH hU hW⟩⟩ rfl hn hsz rfl (lv_room hW) hdg hf) hH.2.2 (fun _ _ h => h) (fun _ h => h) (fun _ _ h => h) (fun E ce q9 S1 t H1 locs1 ht hvm _ hx hz hk hS hce hcv hcl => kx E S1 H1 locs1 ce q9 hx.1 (m_back ht hx.2 hS) hce hcv hcl) ?_
  intro r S1 t H1 locs1 ht hvm hp hO hz hk hS
  obtain ⟨b, rfl, hq⟩ := hp
  exact kk b S1 H1 locs1 hq (m_back ht hO hS)
/-- a throw out of a call, not caught here -/
theorem m_out {k n mc ms : Nat} {Qc : Array Value → State → Outcome → State → Prop} (hnx : ∀ x ∈ c.exceptionTable.toList, covers x pc = false) (hlk : meth.locks = false) (h1 : k ≤ mc) (h2 : n ≤ ms) : mKx p l e R s m args below meth c k n (vx_MQ below Qc (vx_X (fun _ : mmS => True) (fun E S1 t => X1 E S1 ∧ wO g S1 t) (mB g)) args s mc ms (mB g)) g X1 (F0 m pc ls rest) := by
  intro E S1 H1 locs1 ce q9 hx hH hce hcv hcl
  refine vx_out hnx hlk hce hcv hcl (fun t ht hW => ⟨S1, trivial, ⟨hx, ?_⟩, hH.2.2.F ht⟩) hH.2.2.2.2 h1 h2
  unfold wO
  rw [ht]
  exact ⟨hH.1, hH.2.1⟩
theorem m_throwS {cls text : String} {names : List String} {ik is ic mc ms : Nat} {Qc : Array Value → State → Outcome → State → Prop} (hC : CallFix p m c cc nL s args Ts own) (hs : mX g s) (hH : mH g S s H locs) (hl : l.stackTraces = false) (hsz : ls.size = nL) (hown : own = RX4) (hcls : Bundle.fit cls = true) (hnames : ∀ n ∈ names, Bundle.fit n = true) (hk : Cond.classLink own ik cls ∈ Ts) (hini : Cond.initialized cls ∈ Ts) (hstr : (is, text) ∈ mSt) (hat : ∀ w ∈ (vx_atS own ic cls names).filter goodWord, w ∈ Ts) (hbad : ∀ w ∈ (vx_atS own ic cls names).filter (fun w => !goodWord w), w ∈ [Cond.castable cls cls, Cond.declares (Bundle.initS "java/lang/RuntimeException"), Cond.declares (Bundle.initS "java/lang/Exception"), Cond.declares (Bundle.initS Bundle.tN)]) (hca : (cls, cls) ∈ mCa)
    (hgood : ∀ w ∈ Cond.classLink own ik cls :: Cond.initialized cls :: vx_atS own ic cls names, vx_ot w = true) (hnx : ∀ x ∈ c.exceptionTable.toList, False) (hlk : meth.locks = false)
    (d0 : decode cc pc = .ok (.new ik, 3)) (d3 : decode cc (pc + 3) = .ok (.dup, 1)) (d4 : decode cc (pc + 4) = .ok (.ldc is, 2)) (d6 : decode cc (pc + 6) = .ok (.invokespecial ic, 3)) (d9 : decode cc (pc + 9) = .ok (.athrow, 1))
    (hRf : names.length + 3 < R.frames) (hRl : (rest.map fun v => v.category).sum + (13 * (names.length + 1) + 43) ≤ R.locals) (hRc : cells + 1 ≤ R.cells) (hRs : slots + 6 ≤ R.slots) (hc : cells + 1 ≤ mc) (hsl : slots + 6 ≤ ms) (hq : X1 cls S) :
    W p l e R s m args below meth c H locs cells slots (vx_MQ below Qc (vx_X (fun _ : mmS => True) (fun E S1 t => X1 E S1 ∧ wO g S1 t) (mB g)) args s mc ms (mB g)) (F0 m pc ls rest) := by
  obtain ⟨hx, hb, hml, ho, hts⟩ := hC
  have hs0 := hs
  obtain ⟨-, -, hU, hN, -, -, -, -, -, hst, hcas, -, hde⟩ := hs0
  obtain ⟨sa, hsa⟩ := hst _ hstr
  subst hown
  have hat1 : ∀ w ∈ vx_atS RX4 ic cls names, w.before args s = true := vx_hat (fun w h => hts w (hat w h)) hbad (vx_c (va_Nw.use rfl (hcas _ hca)) (vx_c (va_Nw.use rfl (hde _ (by decide +kernel))) (vx_c (va_Nw.use rfl (hde _ (by decide +kernel))) (vx_c (va_Nw.use rfl (hde _ (by decide +kernel))) vx_n))))
  refine vx_throwS (A := mB g) hx hb hl ho hcls hnames (hts _ hk) (hts _ hini) hsa hat1 hgood hU hN hH.2.2 (hsz.trans hml.symm) d0 d3 d4 d6 d9 (fun x hx => (hnx x hx).elim) hRf hRl hRc hRs hlk ?_ hH.2.2.2.2 hc hsl
  intro t hW hz hk2
  refine ⟨S, trivial, ⟨hq, ?_, hH.2.1⟩, Nat.le_trans hH.2.2.1 hz, fun q h1 h2 => (hk2 q (Nat.lt_of_lt_of_le h1 hH.2.2.1)).trans (hH.2.2.2.1 q h1 h2)⟩
  exact hH.1.kept (fun k q hk => hk2 q.1 (hH.1 k q hk).lt)
theorem m_throwSW {cls text : String} {names : List String} {ik is ic mc ms : Nat} {Qc : Array Value → State → Outcome → State → Prop} (hC : CallFix p m c cc nL s args Ts own) (hs : mX g s) (hH : mH g S s H locs) (hl : l.stackTraces = false) (hsz : ls.size = nL) (hown : own = RX4) (hcls : Bundle.fit cls = true) (hnames : ∀ n ∈ names, Bundle.fit n = true) (hk : Cond.classLink own ik cls ∈ Ts) (hini : Cond.initialized cls ∈ Ts) (hstr : (is, text) ∈ mSt) (hat : ∀ w ∈ (vx_atS own ic cls names).filter goodWord, w ∈ Ts) (hbad : ∀ w ∈ (vx_atS own ic cls names).filter (fun w => !goodWord w), w ∈ [Cond.castable cls cls, Cond.declares (Bundle.initS "java/lang/RuntimeException"), Cond.declares (Bundle.initS "java/lang/Exception"), Cond.declares (Bundle.initS Bundle.tN)]) (hca : (cls, cls) ∈ mCa)
    (hgood : ∀ w ∈ Cond.classLink own ik cls :: Cond.initialized cls :: vx_atS own ic cls names, vx_ot w = true) (hnx : ∀ x ∈ c.exceptionTable.toList, False) (hlk : meth.locks = false)
    (d0 : decode cc pc = .ok (.new ik, 3)) (d3 : decode cc (pc + 3) = .ok (.dup, 1)) (d4 : decode cc (pc + 4) = .ok (.ldc_w is, 3)) (d6 : decode cc (pc + 7) = .ok (.invokespecial ic, 3)) (d9 : decode cc (pc + 10) = .ok (.athrow, 1))
    (hRf : names.length + 3 < R.frames) (hRl : (rest.map fun v => v.category).sum + (13 * (names.length + 1) + 43) ≤ R.locals) (hRc : cells + 1 ≤ R.cells) (hRs : slots + 6 ≤ R.slots) (hc : cells + 1 ≤ mc) (hsl : slots + 6 ≤ ms) (hq : X1 cls S) :
    W p l e R s m args below meth c H locs cells slots (vx_MQ below Qc (vx_X (fun _ : mmS => True) (fun E S1 t => X1 E S1 ∧ wO g S1 t) (mB g)) args s mc ms (mB g)) (F0 m pc ls rest) := by
  obtain ⟨hx, hb, hml, ho, hts⟩ := hC
  have hs0 := hs
  obtain ⟨-, -, hU, hN, -, -, -, -, -, hst, hcas, -, hde⟩ := hs0
  obtain ⟨sa, hsa⟩ := hst _ hstr
  subst hown
  have hat1 : ∀ w ∈ vx_atS RX4 ic cls names, w.before args s = true := vx_hat (fun w h => hts w (hat w h)) hbad (vx_c (va_Nw.use rfl (hcas _ hca)) (vx_c (va_Nw.use rfl (hde _ (by decide +kernel))) (vx_c (va_Nw.use rfl (hde _ (by decide +kernel))) (vx_c (va_Nw.use rfl (hde _ (by decide +kernel))) vx_n))))
  refine vx_throwSW (A := mB g) hx hb hl ho hcls hnames (hts _ hk) (hts _ hini) hsa hat1 hgood hU hN hH.2.2 (hsz.trans hml.symm) d0 d3 d4 d6 d9 (fun x hx => (hnx x hx).elim) hRf hRl hRc hRs hlk ?_ hH.2.2.2.2 hc hsl
  intro t hW hz hk2
  refine ⟨S, trivial, ⟨hq, ?_, hH.2.1⟩, Nat.le_trans hH.2.2.1 hz, fun q h1 h2 => (hk2 q (Nat.lt_of_lt_of_le h1 hH.2.2.1)).trans (hH.2.2.2.1 q h1 h2)⟩
  exact hH.1.kept (fun k q hk => hk2 q.1 (hH.1 k q hk).lt)
theorem m_reti {v : Int32} {mc ms : Nat} {Q1 : Int32 → mmS → Prop} {XC : String → State → State → Prop} (hC : CallFix p m c cc nL s args Ts own) (hH : mH g S s H locs) {ft : FieldType} (hr : meth.sig.returnType = some ft) (hn : narrow ft (.int v) = .int v) (hlk : meth.locks = false) (h1 : cells ≤ mc) (h2 : slots ≤ ms) (hdg : decode cc pc = .ok (.ireturn, 1)) (hq : Q1 v S) : W p l e R s m args below meth c H locs cells slots (vx_MQ below (va_Qi Q1 (wO g) (mB g)) XC args s mc ms (mB g)) (F0 m pc ls [.int v]) := by
  refine W.widen h1 h2 (vx_ret ?_)
  exact W.zret hC.1 hC.2.1 hr hn (fun t ht hW => ⟨⟨v, S, rfl, hq, by unfold wO; rw [ht]; exact ⟨hH.1, hH.2.1⟩⟩, hH.2.2.F ht⟩) hH.2.2.2.2 hdg hlk
theorem m_retl {v : Int64} {mc ms : Nat} {Q1 : Int64 → mmS → Prop} {XC : String → State → State → Prop} (hC : CallFix p m c cc nL s args Ts own) (hH : mH g S s H locs) (hr : meth.sig.returnType = some .long) (hlk : meth.locks = false) (h1 : cells ≤ mc) (h2 : slots ≤ ms) (hdg : decode cc pc = .ok (.lreturn, 1)) (hq : Q1 v S) : W p l e R s m args below meth c H locs cells slots (vx_MQ below (va_Ql Q1 (wO g) (mB g)) XC args s mc ms (mB g)) (F0 m pc ls [.long v]) := by
  refine W.widen h1 h2 (vx_ret ?_)
  exact W.lret hC.1 hC.2.1 hr (fun t ht hW => ⟨⟨v, S, rfl, hq, by unfold wO; rw [ht]; exact ⟨hH.1, hH.2.1⟩⟩, hH.2.2.F ht⟩) hH.2.2.2.2 hdg hlk
theorem m_retd {v : UInt64} {mc ms : Nat} {Q1 : UInt64 → mmS → Prop} {XC : String → State → State → Prop} (hC : CallFix p m c cc nL s args Ts own) (hH : mH g S s H locs) (hr : meth.sig.returnType = some .double) (hlk : meth.locks = false) (h1 : cells ≤ mc) (h2 : slots ≤ ms) (hdg : decode cc pc = .ok (.dreturn, 1)) (hq : Q1 v S) : W p l e R s m args below meth c H locs cells slots (vx_MQ below (va_Qd Q1 (wO g) (mB g)) XC args s mc ms (mB g)) (F0 m pc ls [.double v]) := by
  refine W.widen h1 h2 (vx_ret ?_)
  exact W.dret hC.1 hC.2.1 hr (fun t ht hW => ⟨⟨v, S, rfl, hq, by unfold wO; rw [ht]; exact ⟨hH.1, hH.2.1⟩⟩, hH.2.2.F ht⟩) hH.2.2.2.2 hdg hlk
theorem m_retv {mc ms : Nat} {Q1 : mmS → Prop} {XC : String → State → State → Prop} (hC : CallFix p m c cc nL s args Ts own) (hH : mH g S s H locs) (hr : meth.sig.returnType = none) (hlk : meth.locks = false) (h1 : cells ≤ mc) (h2 : slots ≤ ms) (hdg : decode cc pc = .ok (.return_, 1)) (hq : Q1 S) : W p l e R s m args below meth c H locs cells slots (vx_MQ below (va_Qv Q1 (wO g) (mB g)) XC args s mc ms (mB g)) (F0 m pc ls []) := by
  refine W.widen h1 h2 (vx_ret ?_)
  exact W.vret hC.1 hC.2.1 hr (fun t ht hW => ⟨⟨S, rfl, hq, by unfold wO; rw [ht]; exact ⟨hH.1, hH.2.1⟩⟩, hH.2.2.F ht⟩) hH.2.2.2.2 hdg hlk
theorem m_retq {b mc ms : Nat} {rt : FieldType} {Q1 : Nat → mmS → Prop} {XC : String → State → State → Prop} (hC : CallFix p m c cc nL s args Ts own) (hH : mH g S s H locs) (hr : meth.sig.returnType = some rt) (hrt : (∃ n, rt = .object n) ∨ ∃ t, rt = .array t) (hlk : meth.locks = false) (h1 : cells ≤ mc) (h2 : slots ≤ ms) (hdg : decode cc pc = .ok (.areturn, 1)) (hq : Q1 b S) : W p l e R s m args below meth c H locs cells slots (vx_MQ below (va_Qq (fun (r : Option Nat) (S1 : mmS) => ∃ b, r = some b ∧ Q1 b S1) (wO g) (mB g)) XC args s mc ms (mB g)) (F0 m pc ls [.ref b]) := by
  refine W.widen h1 h2 (vx_ret ?_)
  exact W.aret hC.1 hC.2.1 hr hrt (Or.inr ⟨b, rfl⟩) (fun t ht hW => ⟨⟨some b, S, rfl, ⟨b, rfl, hq⟩, by unfold wO; rw [ht]; exact ⟨hH.1, hH.2.1⟩⟩, hH.2.2.F ht⟩) hH.2.2.2.2 hdg hlk
/-- a contract out of a walk of the body -/
theorem m_of {ws' : List Cond} {Qc : Array Value → State → Outcome → State → Prop} {XC : String → State → State → Prop} (hy : plainName y.cls = true) (hw : ws = Cond.code y cc maxL ret :: ws') (hn : (lg_sl As).length ≤ maxL)
    (body : ∀ (p : Program) (e : Env) (s : State) (m : MethodId) (args : Array Value) (below : List Frame) (meth : Method) (c : Code) (ls : Array Slot), CallFix p m c cc maxL s args ws y.cls → meth.sig.returnType = ret → meth.locks = false → meth.name = y.name → (∀ x ∈ c.exceptionTable.toList, False) → mX g s → mH g S s s.heap [] → lv_has ls maxL (lv_args 0 As) → W p l e rm s m args below meth c s.heap [] 0 0 (vx_MQ below Qc XC args s rm.cells rm.slots (mB g)) (F0 m 0 ls [])) : vx_Met l y ws rm (va_Pc As (wI g S)) Qc XC rm.cells rm.slots (mB g) := by
  refine vx_ofW (cc := cc) (maxL := maxL) (ret := ret) hy hw ?_
  intro p e s m args below meth c s₁ B hml hnx hv
  obtain ⟨rfl, hX, hP, hD⟩ := hv
  have hts := atoms_spec (ws := ws) B.pre
  have hown : s.vm.findClass y.cls = some m.cls := findClass_of_methodNamed B.named
  have hl := lv_entry As (n := maxL) hn
  rw [lg_entry_eq]
  generalize (lg_sl As ++ List.replicate (maxL - (lg_sl As).length) Slot.unset).toArray = ls at hl ⊢
  exact body p e s m _ below meth c ls ⟨B.exec, B.bytes, hml, hown, hts⟩ B.returns B.notSynchronized (name_of_methodNamed B.named B.method).1 hnx hX ⟨hP, hD, va_S.rf⟩ hl
end MCALL
abbrev wA_ (y : MethodName) (cc : ByteArray) (n : Nat) (r : Option FieldType) : List Cond := Cond.code y cc n r :: wsL_law
abbrev wAh_ (y : MethodName) (cc : ByteArray) (n : Nat) (r : Option FieldType) (hh : List (Nat × Nat × Nat × Nat)) : List Cond := Cond.codeWith y cc n r hh :: wsL_law
theorem wA_good : wsL_law.all goodWord = true := by decide +kernel
theorem wA_gw : ∀ w ∈ wsL_law, ((w.onTables && w.keeps) = true ∨ ∃ ty, w = .arrayClass ty) := fun w h => good_of_word (List.all_eq_true.mp wA_good w h)
theorem gA1 {w0 : Cond} {ws : List Cond} (h : ∀ w ∈ ws, w ∈ wsL_law) : GoodIn (w0 :: wsL_law) ws := fun w hw => ⟨List.mem_cons_of_mem _ (h w hw), wA_gw w (h w hw)⟩
theorem gA0 {w0 : Cond} {y : MethodName} {b : ByteArray} {n : Nat} {r : Option FieldType} (h5 : Cond.code y b n r ∈ wsL_law) : GoodIn (w0 :: wsL_law) (wA_ y b n r) := gA1 (List.forall_mem_cons.mpr ⟨h5, fun _ h => h⟩)
theorem gA_V {w0 : Cond} {own C : String} {idx : Nat} {y : MethodName} {b : ByteArray} {n : Nat} {r : Option FieldType} (h1 : Cond.methodLink own idx y ∈ wsL_law) (h2 : Cond.instanceMethod y ∈ wsL_law) (h3 : Cond.selects C y y ∈ wsL_law) (h4 : Cond.initialized C ∈ wsL_law) (h5 : Cond.code y b n r ∈ wsL_law) : GoodIn (w0 :: wsL_law) (wsV own idx C y (wA_ y b n r)) := goodIn_app (gA1 (List.forall_mem_cons.mpr ⟨h1, List.forall_mem_cons.mpr ⟨h2, List.forall_mem_cons.mpr ⟨h3, List.forall_mem_cons.mpr ⟨h4, fun _ h => absurd h List.not_mem_nil⟩⟩⟩⟩)) (gA0 h5)
theorem gA_S {w0 : Cond} {own : String} {idx : Nat} {y : MethodName} {b : ByteArray} {n : Nat} {r : Option FieldType} (h1 : Cond.methodLink own idx y ∈ wsL_law) (h2 : Cond.static y ∈ wsL_law) (h4 : Cond.initialized y.cls ∈ wsL_law) (h5 : Cond.code y b n r ∈ wsL_law) : GoodIn (w0 :: wsL_law) (va_wsS own idx y (wA_ y b n r)) := goodIn_app (gA1 (List.forall_mem_cons.mpr ⟨h1, List.forall_mem_cons.mpr ⟨h2, List.forall_mem_cons.mpr ⟨h4, fun _ h => absurd h List.not_mem_nil⟩⟩⟩)) (gA0 h5)
theorem gA_SW {w0 : Cond} {own : String} {idx : Nat} {y : MethodName} {b : ByteArray} {n : Nat} {r : Option FieldType} {hh : List (Nat × Nat × Nat × Nat)} (h1 : Cond.methodLink own idx y ∈ wsL_law) (h2 : Cond.static y ∈ wsL_law) (h4 : Cond.initialized y.cls ∈ wsL_law) (h5 : Cond.codeWith y b n r hh ∈ wsL_law) : GoodIn (w0 :: wsL_law) (va_wsS own idx y (wAh_ y b n r hh)) := goodIn_app (gA1 (List.forall_mem_cons.mpr ⟨h1, List.forall_mem_cons.mpr ⟨h2, List.forall_mem_cons.mpr ⟨h4, fun _ h => absurd h List.not_mem_nil⟩⟩⟩)) (gA1 (List.forall_mem_cons.mpr ⟨h5, fun _ h => h⟩))
theorem atIAE : ∀ w ∈ (vx_atS RX4 43 "java/lang/IllegalArgumentException" ["java/lang/RuntimeException", "java/lang/Exception"]).filter goodWord, w ∈ wsL_law := fun w h => List.mem_append_left _ (List.mem_append_left _ (List.mem_append_right _ h))
theorem atISE : ∀ w ∈ (vx_atS RX4 60 "java/lang/IllegalStateException" ["java/lang/RuntimeException", "java/lang/Exception"]).filter goodWord, w ∈ wsL_law := fun w h => List.mem_append_left _ (List.mem_append_right _ h)
theorem atIOB : ∀ w ∈ (vx_atS RX4 170 "java/lang/IndexOutOfBoundsException" ["java/lang/RuntimeException", "java/lang/Exception"]).filter goodWord, w ∈ wsL_law := fun w h => List.mem_append_right _ h
theorem bdIAE : ∀ w ∈ (vx_atS RX4 43 "java/lang/IllegalArgumentException" ["java/lang/RuntimeException", "java/lang/Exception"]).filter (fun w => !goodWord w), w ∈ [Cond.castable "java/lang/IllegalArgumentException" "java/lang/IllegalArgumentException", Cond.declares (Bundle.initS "java/lang/RuntimeException"), Cond.declares (Bundle.initS "java/lang/Exception"), Cond.declares (Bundle.initS Bundle.tN)] := by decide +kernel
theorem bdISE : ∀ w ∈ (vx_atS RX4 60 "java/lang/IllegalStateException" ["java/lang/RuntimeException", "java/lang/Exception"]).filter (fun w => !goodWord w), w ∈ [Cond.castable "java/lang/IllegalStateException" "java/lang/IllegalStateException", Cond.declares (Bundle.initS "java/lang/RuntimeException"), Cond.declares (Bundle.initS "java/lang/Exception"), Cond.declares (Bundle.initS Bundle.tN)] := by decide +kernel
theorem bdIOB : ∀ w ∈ (vx_atS RX4 170 "java/lang/IndexOutOfBoundsException" ["java/lang/RuntimeException", "java/lang/Exception"]).filter (fun w => !goodWord w), w ∈ [Cond.castable "java/lang/IndexOutOfBoundsException" "java/lang/IndexOutOfBoundsException", Cond.declares (Bundle.initS "java/lang/RuntimeException"), Cond.declares (Bundle.initS "java/lang/Exception"), Cond.declares (Bundle.initS Bundle.tN)] := by decide +kernel
theorem gdIAE : ∀ w ∈ Cond.classLink RX4 39 "java/lang/IllegalArgumentException" :: Cond.initialized "java/lang/IllegalArgumentException" :: vx_atS RX4 43 "java/lang/IllegalArgumentException" ["java/lang/RuntimeException", "java/lang/Exception"], vx_ot w = true := by decide +kernel
theorem gdISE : ∀ w ∈ Cond.classLink RX4 56 "java/lang/IllegalStateException" :: Cond.initialized "java/lang/IllegalStateException" :: vx_atS RX4 60 "java/lang/IllegalStateException" ["java/lang/RuntimeException", "java/lang/Exception"], vx_ot w = true := by decide +kernel
theorem gdIOB : ∀ w ∈ Cond.classLink RX4 166 "java/lang/IndexOutOfBoundsException" :: Cond.initialized "java/lang/IndexOutOfBoundsException" :: vx_atS RX4 170 "java/lang/IndexOutOfBoundsException" ["java/lang/RuntimeException", "java/lang/Exception"], vx_ot w = true := by decide +kernel
end
section
/-! words of the one list, by their places -/
theorem q_2 : Cond.initialized RX4 ∈ wsL_law := List.mem_of_getElem? (i := 2) (by decide +kernel)
theorem q_5 : Cond.initialized RX5 ∈ wsL_law := List.mem_of_getElem? (i := 5) (by decide +kernel)
theorem q_10 : Cond.methodLink RX4 1 objectInit ∈ wsL_law := List.mem_of_getElem? (i := 10) (by decide +kernel)
theorem q_11 : Cond.instanceMethod objectInit ∈ wsL_law := List.mem_of_getElem? (i := 11) (by decide +kernel)
theorem q_12 : Cond.code objectInit ⟨#[0xb1]⟩ 1 none ∈ wsL_law := List.mem_of_getElem? (i := 12) (by decide +kernel)
theorem q_13 : Cond.classLink RX4 7 RJx4a65c ∈ wsL_law := List.mem_of_getElem? (i := 13) (by decide +kernel)
theorem q_14 : Cond.instantiable RJx4a65c 3 ∈ wsL_law := List.mem_of_getElem? (i := 14) (by decide +kernel)
theorem q_15 : Cond.initialized RJx4a65c ∈ wsL_law := List.mem_of_getElem? (i := 15) (by decide +kernel)
theorem q_16 : Cond.fieldLink RX4 10 "PhoneRater" "tariffs" "Ljava/util/ArrayList;" ∈ wsL_law := List.mem_of_getElem? (i := 16) (by decide +kernel)
theorem q_17 : Cond.fieldLink RX4 16 "PhoneRater" "accounts" "Ljava/util/ArrayList;" ∈ wsL_law := List.mem_of_getElem? (i := 17) (by decide +kernel)
theorem q_18 : Cond.fieldLink RX4 19 "PhoneRater" "lines" "Ljava/util/ArrayList;" ∈ wsL_law := List.mem_of_getElem? (i := 18) (by decide +kernel)
theorem q_19 : Cond.fieldLink RX4 22 "PhoneRater" "calls" "Ljava/util/ArrayList;" ∈ wsL_law := List.mem_of_getElem? (i := 19) (by decide +kernel)
theorem q_20 : Cond.fieldLink RX4 25 "PhoneRater" "ordered" "Ljava/util/ArrayList;" ∈ wsL_law := List.mem_of_getElem? (i := 20) (by decide +kernel)
theorem q_21 : Cond.fieldLink RX4 28 "PhoneRater" "firstOfPeak" "I" ∈ wsL_law := List.mem_of_getElem? (i := 21) (by decide +kernel)
theorem q_22 : Cond.fieldLink RX4 32 "PhoneRater" "lastOfPeak" "I" ∈ wsL_law := List.mem_of_getElem? (i := 22) (by decide +kernel)
theorem q_23 : Cond.methodLink RX4 9 yJx4a65c_init_da8c8 ∈ wsL_law := List.mem_of_getElem? (i := 23) (by decide +kernel)
theorem q_24 : Cond.instanceMethod yJx4a65c_init_da8c8 ∈ wsL_law := List.mem_of_getElem? (i := 24) (by decide +kernel)
theorem q_25 : Cond.code yJx4a65c_init_da8c8 cJx4a65c_init_da8c8 1 none ∈ wsL_law := List.mem_of_getElem? (i := 25) (by decide +kernel)
theorem q_26 : Cond.fieldLink RJx4a65c 39 "java/util/ArrayList" "DEFAULTCAPACITY_EMPTY_ELEMENTDATA" "[Ljava/lang/Object;" ∈ wsL_law := List.mem_of_getElem? (i := 26) (by decide +kernel)
theorem q_27 : Cond.fieldLink RJx4a65c 9 "java/util/ArrayList" "elementData" "[Ljava/lang/Object;" ∈ wsL_law := List.mem_of_getElem? (i := 27) (by decide +kernel)
theorem q_28 : Cond.methodLink RJx4a65c 1 yJxc12de_init_da8c8 ∈ wsL_law := List.mem_of_getElem? (i := 28) (by decide +kernel)
theorem q_29 : Cond.instanceMethod yJxc12de_init_da8c8 ∈ wsL_law := List.mem_of_getElem? (i := 29) (by decide +kernel)
theorem q_30 : Cond.initialized RJxc12de ∈ wsL_law := List.mem_of_getElem? (i := 30) (by decide +kernel)
theorem q_31 : Cond.code yJxc12de_init_da8c8 cJxc12de_init_da8c8 1 none ∈ wsL_law := List.mem_of_getElem? (i := 31) (by decide +kernel)
theorem q_32 : Cond.fieldLink RJxc12de 7 "java/util/AbstractList" "modCount" "I" ∈ wsL_law := List.mem_of_getElem? (i := 32) (by decide +kernel)
theorem q_33 : Cond.methodLink RJxc12de 1 yJxa1e45_init_da8c8 ∈ wsL_law := List.mem_of_getElem? (i := 33) (by decide +kernel)
theorem q_34 : Cond.instanceMethod yJxa1e45_init_da8c8 ∈ wsL_law := List.mem_of_getElem? (i := 34) (by decide +kernel)
theorem q_35 : Cond.initialized RJxa1e45 ∈ wsL_law := List.mem_of_getElem? (i := 35) (by decide +kernel)
theorem q_36 : Cond.code yJxa1e45_init_da8c8 cJxa1e45_init_da8c8 1 none ∈ wsL_law := List.mem_of_getElem? (i := 36) (by decide +kernel)
theorem q_37 : Cond.methodLink RJxa1e45 1 objectInit ∈ wsL_law := List.mem_of_getElem? (i := 37) (by decide +kernel)
theorem q_41 : Cond.methodLink RX5 1 objectInit ∈ wsL_law := List.mem_of_getElem? (i := 41) (by decide +kernel)
theorem q_42 : Cond.arrayClass .int ∈ wsL_law := List.mem_of_getElem? (i := 42) (by decide +kernel)
theorem q_43 : Cond.fieldLink RX5 9 "PhoneRaterModel" "table" "[I" ∈ wsL_law := List.mem_of_getElem? (i := 43) (by decide +kernel)
theorem q_44 : Cond.fieldLink RX5 13 "PhoneRaterModel" "terms" "[I" ∈ wsL_law := List.mem_of_getElem? (i := 44) (by decide +kernel)
theorem q_45 : Cond.fieldLink RX5 16 "PhoneRaterModel" "owners" "[I" ∈ wsL_law := List.mem_of_getElem? (i := 45) (by decide +kernel)
theorem q_46 : Cond.fieldLink RX5 19 "PhoneRaterModel" "plans" "[I" ∈ wsL_law := List.mem_of_getElem? (i := 46) (by decide +kernel)
theorem q_47 : Cond.fieldLink RX5 22 "PhoneRaterModel" "log" "[I" ∈ wsL_law := List.mem_of_getElem? (i := 47) (by decide +kernel)
theorem q_48 : Cond.fieldLink RX5 25 "PhoneRaterModel" "peakFirst" "I" ∈ wsL_law := List.mem_of_getElem? (i := 48) (by decide +kernel)
theorem q_49 : Cond.fieldLink RX5 29 "PhoneRaterModel" "peakLast" "I" ∈ wsL_law := List.mem_of_getElem? (i := 49) (by decide +kernel)
theorem q_50 : Cond.fieldLink RX5 32 "PhoneRaterModel" "order" "[I" ∈ wsL_law := List.mem_of_getElem? (i := 50) (by decide +kernel)
theorem q_51 : Cond.fieldLink RX5 35 "PhoneRaterModel" "billed" "[I" ∈ wsL_law := List.mem_of_getElem? (i := 51) (by decide +kernel)
theorem q_52 : Cond.fieldLink RX5 38 "PhoneRaterModel" "free" "[I" ∈ wsL_law := List.mem_of_getElem? (i := 52) (by decide +kernel)
theorem q_53 : Cond.fieldLink RX5 41 "PhoneRaterModel" "prices" "[I" ∈ wsL_law := List.mem_of_getElem? (i := 53) (by decide +kernel)
theorem q_54 : Cond.fieldLink RX5 44 "PhoneRaterModel" "fees" "[I" ∈ wsL_law := List.mem_of_getElem? (i := 54) (by decide +kernel)
theorem q_55 : Cond.fieldLink RX5 47 "PhoneRaterModel" "left" "[I" ∈ wsL_law := List.mem_of_getElem? (i := 55) (by decide +kernel)
theorem q_56 : Cond.fieldLink RX5 50 "PhoneRaterModel" "emptied" "[I" ∈ wsL_law := List.mem_of_getElem? (i := 56) (by decide +kernel)
theorem q_67 : Cond.classLink RX4 39 "java/lang/IllegalArgumentException" ∈ wsL_law := List.mem_of_getElem? (i := 67) (by decide +kernel)
theorem q_68 : Cond.initialized "java/lang/IllegalArgumentException" ∈ wsL_law := List.mem_of_getElem? (i := 68) (by decide +kernel)
theorem q_69 : Cond.classLink RX4 56 "java/lang/IllegalStateException" ∈ wsL_law := List.mem_of_getElem? (i := 69) (by decide +kernel)
theorem q_70 : Cond.initialized "java/lang/IllegalStateException" ∈ wsL_law := List.mem_of_getElem? (i := 70) (by decide +kernel)
theorem q_71 : Cond.classLink RX4 61 RX3 ∈ wsL_law := List.mem_of_getElem? (i := 71) (by decide +kernel)
theorem q_72 : Cond.instantiable RX3 8 ∈ wsL_law := List.mem_of_getElem? (i := 72) (by decide +kernel)
theorem q_73 : Cond.initialized RX3 ∈ wsL_law := List.mem_of_getElem? (i := 73) (by decide +kernel)
theorem q_74 : Cond.methodLink RX4 35 yX4_isMoney ∈ wsL_law := List.mem_of_getElem? (i := 74) (by decide +kernel)
theorem q_75 : Cond.static yX4_isMoney ∈ wsL_law := List.mem_of_getElem? (i := 75) (by decide +kernel)
theorem q_76 : Cond.code yX4_isMoney cX4_isMoney 1 (some .boolean) ∈ wsL_law := List.mem_of_getElem? (i := 76) (by decide +kernel)
theorem q_77 : Cond.methodLink RX4 46 yX4_isWithin ∈ wsL_law := List.mem_of_getElem? (i := 77) (by decide +kernel)
theorem q_78 : Cond.static yX4_isWithin ∈ wsL_law := List.mem_of_getElem? (i := 78) (by decide +kernel)
theorem q_79 : Cond.code yX4_isWithin cX4_isWithin 3 (some .boolean) ∈ wsL_law := List.mem_of_getElem? (i := 79) (by decide +kernel)
theorem q_80 : Cond.methodLink RX4 52 yJx4a65c_size_8abf5 ∈ wsL_law := List.mem_of_getElem? (i := 80) (by decide +kernel)
theorem q_81 : Cond.instanceMethod yJx4a65c_size_8abf5 ∈ wsL_law := List.mem_of_getElem? (i := 81) (by decide +kernel)
theorem q_82 : Cond.selects RJx4a65c yJx4a65c_size_8abf5 yJx4a65c_size_8abf5 ∈ wsL_law := List.mem_of_getElem? (i := 82) (by decide +kernel)
theorem q_83 : Cond.code yJx4a65c_size_8abf5 cJx4a65c_size_8abf5 1 (some .int) ∈ wsL_law := List.mem_of_getElem? (i := 83) (by decide +kernel)
theorem q_84 : Cond.fieldLink RJx4a65c 48 "java/util/ArrayList" "size" "I" ∈ wsL_law := List.mem_of_getElem? (i := 84) (by decide +kernel)
theorem q_85 : Cond.methodLink RX4 63 yX3_init ∈ wsL_law := List.mem_of_getElem? (i := 85) (by decide +kernel)
theorem q_86 : Cond.instanceMethod yX3_init ∈ wsL_law := List.mem_of_getElem? (i := 86) (by decide +kernel)
theorem q_87 : Cond.code yX3_init cX3_init 7 none ∈ wsL_law := List.mem_of_getElem? (i := 87) (by decide +kernel)
theorem q_88 : Cond.methodLink RX3 3 objectInit ∈ wsL_law := List.mem_of_getElem? (i := 88) (by decide +kernel)
theorem q_89 : Cond.fieldLink RX3 9 "PhoneRater$Tariff" "zoneRate" "[I" ∈ wsL_law := List.mem_of_getElem? (i := 89) (by decide +kernel)
theorem q_90 : Cond.fieldLink RX3 15 "PhoneRater$Tariff" "zoneDayFee" "[I" ∈ wsL_law := List.mem_of_getElem? (i := 90) (by decide +kernel)
theorem q_91 : Cond.fieldLink RX3 18 "PhoneRater$Tariff" "number" "I" ∈ wsL_law := List.mem_of_getElem? (i := 91) (by decide +kernel)
theorem q_92 : Cond.fieldLink RX3 22 "PhoneRater$Tariff" "connection" "I" ∈ wsL_law := List.mem_of_getElem? (i := 92) (by decide +kernel)
theorem q_93 : Cond.fieldLink RX3 25 "PhoneRater$Tariff" "peak" "I" ∈ wsL_law := List.mem_of_getElem? (i := 93) (by decide +kernel)
theorem q_94 : Cond.fieldLink RX3 28 "PhoneRater$Tariff" "other" "I" ∈ wsL_law := List.mem_of_getElem? (i := 94) (by decide +kernel)
theorem q_95 : Cond.fieldLink RX3 31 "PhoneRater$Tariff" "first" "I" ∈ wsL_law := List.mem_of_getElem? (i := 95) (by decide +kernel)
theorem q_96 : Cond.fieldLink RX3 34 "PhoneRater$Tariff" "next" "I" ∈ wsL_law := List.mem_of_getElem? (i := 96) (by decide +kernel)
theorem q_97 : Cond.methodLink RX4 66 yJx4a65c_add_9ea2d ∈ wsL_law := List.mem_of_getElem? (i := 97) (by decide +kernel)
theorem q_98 : Cond.instanceMethod yJx4a65c_add_9ea2d ∈ wsL_law := List.mem_of_getElem? (i := 98) (by decide +kernel)
theorem q_99 : Cond.selects RJx4a65c yJx4a65c_add_9ea2d yJx4a65c_add_9ea2d ∈ wsL_law := List.mem_of_getElem? (i := 99) (by decide +kernel)
theorem q_100 : Cond.code yJx4a65c_add_9ea2d cJx4a65c_add_9ea2d 2 (some .boolean) ∈ wsL_law := List.mem_of_getElem? (i := 100) (by decide +kernel)
theorem q_101 : Cond.fieldLink RJx4a65c 63 "java/util/ArrayList" "modCount" "I" ∈ wsL_law := List.mem_of_getElem? (i := 101) (by decide +kernel)
theorem q_102 : Cond.sameField "java/util/ArrayList" "java/util/AbstractList" "modCount" "I" ∈ wsL_law := List.mem_of_getElem? (i := 102) (by decide +kernel)
theorem q_103 : Cond.methodLink RJx4a65c 131 yJx4a65c_add_72be8 ∈ wsL_law := List.mem_of_getElem? (i := 103) (by decide +kernel)
theorem q_104 : Cond.instanceMethod yJx4a65c_add_72be8 ∈ wsL_law := List.mem_of_getElem? (i := 104) (by decide +kernel)
theorem q_105 : Cond.selects RJx4a65c yJx4a65c_add_72be8 yJx4a65c_add_72be8 ∈ wsL_law := List.mem_of_getElem? (i := 105) (by decide +kernel)
theorem q_106 : Cond.code yJx4a65c_add_72be8 cJx4a65c_add_72be8 4 none ∈ wsL_law := List.mem_of_getElem? (i := 106) (by decide +kernel)
theorem q_107 : Cond.methodLink RJx4a65c 129 yJx4a65c_grow_d5877 ∈ wsL_law := List.mem_of_getElem? (i := 107) (by decide +kernel)
theorem q_108 : Cond.instanceMethod yJx4a65c_grow_d5877 ∈ wsL_law := List.mem_of_getElem? (i := 108) (by decide +kernel)
theorem q_109 : Cond.selects RJx4a65c yJx4a65c_grow_d5877 yJx4a65c_grow_d5877 ∈ wsL_law := List.mem_of_getElem? (i := 109) (by decide +kernel)
theorem q_110 : Cond.code yJx4a65c_grow_d5877 cJx4a65c_grow_d5877 1 (some (.array (.object "java/lang/Object"))) ∈ wsL_law := List.mem_of_getElem? (i := 110) (by decide +kernel)
theorem q_111 : Cond.methodLink RJx4a65c 69 yJx4a65c_grow_92f84 ∈ wsL_law := List.mem_of_getElem? (i := 111) (by decide +kernel)
theorem q_112 : Cond.instanceMethod yJx4a65c_grow_92f84 ∈ wsL_law := List.mem_of_getElem? (i := 112) (by decide +kernel)
theorem q_113 : Cond.selects RJx4a65c yJx4a65c_grow_92f84 yJx4a65c_grow_92f84 ∈ wsL_law := List.mem_of_getElem? (i := 113) (by decide +kernel)
theorem q_114 : Cond.code yJx4a65c_grow_92f84 cJx4a65c_grow_92f84 4 (some (.array (.object "java/lang/Object"))) ∈ wsL_law := List.mem_of_getElem? (i := 114) (by decide +kernel)
theorem q_115 : Cond.methodLink RJx4a65c 79 Lib.Math.max.name ∈ wsL_law := List.mem_of_getElem? (i := 115) (by decide +kernel)
theorem q_116 : Cond.static Lib.Math.max.name ∈ wsL_law := List.mem_of_getElem? (i := 116) (by decide +kernel)
theorem q_117 : Cond.initialized "java/lang/Math" ∈ wsL_law := List.mem_of_getElem? (i := 117) (by decide +kernel)
theorem q_118 : Cond.code Lib.Math.max.name Lib.Math.max.code 2 (some .int) ∈ wsL_law := List.mem_of_getElem? (i := 118) (by decide +kernel)
theorem q_119 : Cond.classLink RJx4a65c 7 "java/lang/Object" ∈ wsL_law := List.mem_of_getElem? (i := 119) (by decide +kernel)
theorem q_120 : Cond.methodLink RJx4a65c 73 yJ8_newLength_cabcc ∈ wsL_law := List.mem_of_getElem? (i := 120) (by decide +kernel)
theorem q_121 : Cond.static yJ8_newLength_cabcc ∈ wsL_law := List.mem_of_getElem? (i := 121) (by decide +kernel)
theorem q_122 : Cond.initialized RJ8 ∈ wsL_law := List.mem_of_getElem? (i := 122) (by decide +kernel)
theorem q_123 : Cond.code yJ8_newLength_cabcc cJ8_newLength_cabcc 4 (some .int) ∈ wsL_law := List.mem_of_getElem? (i := 123) (by decide +kernel)
theorem q_124 : Cond.methodLink RJ8 194 Lib.Math.max.name ∈ wsL_law := List.mem_of_getElem? (i := 124) (by decide +kernel)
theorem q_125 : Cond.constant RJ8 200 (2147483639) ∈ wsL_law := List.mem_of_getElem? (i := 125) (by decide +kernel)
theorem q_129 : Cond.methodLink RJx4a65c 66 yJ7_copyOf_1904c ∈ wsL_law := List.mem_of_getElem? (i := 129) (by decide +kernel)
theorem q_130 : Cond.static yJ7_copyOf_1904c ∈ wsL_law := List.mem_of_getElem? (i := 130) (by decide +kernel)
theorem q_131 : Cond.initialized RJ7 ∈ wsL_law := List.mem_of_getElem? (i := 131) (by decide +kernel)
theorem q_132 : Cond.code yJ7_copyOf_1904c cJ7_copyOf_1904c 2 (some (.array (.object "java/lang/Object"))) ∈ wsL_law := List.mem_of_getElem? (i := 132) (by decide +kernel)
theorem q_133 : Cond.methodLink RJ7 86 ⟨"java/lang/Object", "getClass", "()Ljava/lang/Class;"⟩ ∈ wsL_law := List.mem_of_getElem? (i := 133) (by decide +kernel)
theorem q_134 : Cond.selects "[Ljava/lang/Object;" ⟨"java/lang/Object", "getClass", "()Ljava/lang/Class;"⟩ ⟨"java/lang/Object", "getClass", "()Ljava/lang/Class;"⟩ ∈ wsL_law := List.mem_of_getElem? (i := 134) (by decide +kernel)
theorem q_135 : Cond.instanceMethod ⟨"java/lang/Object", "getClass", "()Ljava/lang/Class;"⟩ ∈ wsL_law := List.mem_of_getElem? (i := 135) (by decide +kernel)
theorem q_136 : Cond.native ⟨"java/lang/Object", "getClass", "()Ljava/lang/Class;"⟩ ∈ wsL_law := List.mem_of_getElem? (i := 136) (by decide +kernel)
theorem q_137 : Cond.methodLink RJ7 300 yJ7_copyOf_6403c ∈ wsL_law := List.mem_of_getElem? (i := 137) (by decide +kernel)
theorem q_138 : Cond.static yJ7_copyOf_6403c ∈ wsL_law := List.mem_of_getElem? (i := 138) (by decide +kernel)
theorem q_139 : Cond.code yJ7_copyOf_6403c cJ7_copyOf_6403c 4 (some (.array (.object "java/lang/Object"))) ∈ wsL_law := List.mem_of_getElem? (i := 139) (by decide +kernel)
theorem q_140 : Cond.classLink RJ7 110 "[Ljava/lang/Object;" ∈ wsL_law := List.mem_of_getElem? (i := 140) (by decide +kernel)
theorem q_141 : Cond.classLink RJ7 2 "java/lang/Object" ∈ wsL_law := List.mem_of_getElem? (i := 141) (by decide +kernel)
theorem q_142 : Cond.methodLink RJ7 304 Lib.Math.min.name ∈ wsL_law := List.mem_of_getElem? (i := 142) (by decide +kernel)
theorem q_143 : Cond.static Lib.Math.min.name ∈ wsL_law := List.mem_of_getElem? (i := 143) (by decide +kernel)
theorem q_144 : Cond.code Lib.Math.min.name Lib.Math.min.code 2 (some .int) ∈ wsL_law := List.mem_of_getElem? (i := 144) (by decide +kernel)
theorem q_145 : Cond.methodLink RJ7 150 arraycopyName ∈ wsL_law := List.mem_of_getElem? (i := 145) (by decide +kernel)
theorem q_146 : Cond.native arraycopyName ∈ wsL_law := List.mem_of_getElem? (i := 146) (by decide +kernel)
theorem q_147 : Cond.static arraycopyName ∈ wsL_law := List.mem_of_getElem? (i := 147) (by decide +kernel)
theorem q_148 : Cond.initialized "java/lang/System" ∈ wsL_law := List.mem_of_getElem? (i := 148) (by decide +kernel)
theorem q_153 : Cond.fieldLink RX5 53 "PhoneRaterModel" "thrown" "I" ∈ wsL_law := List.mem_of_getElem? (i := 153) (by decide +kernel)
theorem q_154 : Cond.fieldLink RX5 56 "PhoneRaterModel" "tariffs" "I" ∈ wsL_law := List.mem_of_getElem? (i := 154) (by decide +kernel)
theorem q_155 : Cond.methodLink RX5 76 arraycopyName ∈ wsL_law := List.mem_of_getElem? (i := 155) (by decide +kernel)
theorem q_156 : Cond.methodLink RX5 59 yX5_isIn ∈ wsL_law := List.mem_of_getElem? (i := 156) (by decide +kernel)
theorem q_157 : Cond.static yX5_isIn ∈ wsL_law := List.mem_of_getElem? (i := 157) (by decide +kernel)
theorem q_158 : Cond.code yX5_isIn cX5_isIn 3 (some .boolean) ∈ wsL_law := List.mem_of_getElem? (i := 158) (by decide +kernel)
theorem q_159 : Cond.methodLink RX5 72 yX5_fail ∈ wsL_law := List.mem_of_getElem? (i := 159) (by decide +kernel)
theorem q_160 : Cond.instanceMethod yX5_fail ∈ wsL_law := List.mem_of_getElem? (i := 160) (by decide +kernel)
theorem q_161 : Cond.selects RX5 yX5_fail yX5_fail ∈ wsL_law := List.mem_of_getElem? (i := 161) (by decide +kernel)
theorem q_162 : Cond.code yX5_fail cX5_fail 2 (some .int) ∈ wsL_law := List.mem_of_getElem? (i := 162) (by decide +kernel)
theorem q_175 : Cond.fieldLink RX4 80 "PhoneRater$Tariff" "zoneRate" "[I" ∈ wsL_law := List.mem_of_getElem? (i := 175) (by decide +kernel)
theorem q_176 : Cond.fieldLink RX4 84 "PhoneRater$Tariff" "zoneDayFee" "[I" ∈ wsL_law := List.mem_of_getElem? (i := 176) (by decide +kernel)
theorem q_177 : Cond.methodLink RX4 70 yX4_findTariff ∈ wsL_law := List.mem_of_getElem? (i := 177) (by decide +kernel)
theorem q_178 : Cond.instanceMethod yX4_findTariff ∈ wsL_law := List.mem_of_getElem? (i := 178) (by decide +kernel)
theorem q_179 : Cond.selects RX4 yX4_findTariff yX4_findTariff ∈ wsL_law := List.mem_of_getElem? (i := 179) (by decide +kernel)
theorem q_180 : Cond.code yX4_findTariff cX4_findTariff 2 (some (.object "PhoneRater$Tariff")) ∈ wsL_law := List.mem_of_getElem? (i := 180) (by decide +kernel)
theorem q_181 : Cond.classLink RX4 166 "java/lang/IndexOutOfBoundsException" ∈ wsL_law := List.mem_of_getElem? (i := 181) (by decide +kernel)
theorem q_182 : Cond.initialized "java/lang/IndexOutOfBoundsException" ∈ wsL_law := List.mem_of_getElem? (i := 182) (by decide +kernel)
theorem q_184 : Cond.methodLink RX4 171 yJx4a65c_get_915e3 ∈ wsL_law := List.mem_of_getElem? (i := 184) (by decide +kernel)
theorem q_185 : Cond.instanceMethod yJx4a65c_get_915e3 ∈ wsL_law := List.mem_of_getElem? (i := 185) (by decide +kernel)
theorem q_186 : Cond.selects RJx4a65c yJx4a65c_get_915e3 yJx4a65c_get_915e3 ∈ wsL_law := List.mem_of_getElem? (i := 186) (by decide +kernel)
theorem q_187 : Cond.code yJx4a65c_get_915e3 cJx4a65c_get_915e3 2 (some (.object "java/lang/Object")) ∈ wsL_law := List.mem_of_getElem? (i := 187) (by decide +kernel)
theorem q_188 : Cond.methodLink RJx4a65c 118 yJ15_checkIndex_7cf53 ∈ wsL_law := List.mem_of_getElem? (i := 188) (by decide +kernel)
theorem q_189 : Cond.static yJ15_checkIndex_7cf53 ∈ wsL_law := List.mem_of_getElem? (i := 189) (by decide +kernel)
theorem q_190 : Cond.initialized RJ15 ∈ wsL_law := List.mem_of_getElem? (i := 190) (by decide +kernel)
theorem q_191 : Cond.code yJ15_checkIndex_7cf53 cJ15_checkIndex_7cf53 2 (some .int) ∈ wsL_law := List.mem_of_getElem? (i := 191) (by decide +kernel)
theorem q_192 : Cond.methodLink RJ15 105 yJ3_checkIndex_8e157 ∈ wsL_law := List.mem_of_getElem? (i := 192) (by decide +kernel)
theorem q_193 : Cond.static yJ3_checkIndex_8e157 ∈ wsL_law := List.mem_of_getElem? (i := 193) (by decide +kernel)
theorem q_194 : Cond.initialized RJ3 ∈ wsL_law := List.mem_of_getElem? (i := 194) (by decide +kernel)
theorem q_195 : Cond.code yJ3_checkIndex_8e157 cJ3_checkIndex_8e157 3 (some .int) ∈ wsL_law := List.mem_of_getElem? (i := 195) (by decide +kernel)
theorem q_196 : Cond.methodLink RJx4a65c 123 yJx4a65c_elementData_915e3 ∈ wsL_law := List.mem_of_getElem? (i := 196) (by decide +kernel)
theorem q_197 : Cond.instanceMethod yJx4a65c_elementData_915e3 ∈ wsL_law := List.mem_of_getElem? (i := 197) (by decide +kernel)
theorem q_198 : Cond.selects RJx4a65c yJx4a65c_elementData_915e3 yJx4a65c_elementData_915e3 ∈ wsL_law := List.mem_of_getElem? (i := 198) (by decide +kernel)
theorem q_199 : Cond.code yJx4a65c_elementData_915e3 cJx4a65c_elementData_915e3 2 (some (.object "java/lang/Object")) ∈ wsL_law := List.mem_of_getElem? (i := 199) (by decide +kernel)
theorem q_200 : Cond.methodLink RX4 74 yX4_checkAbroad ∈ wsL_law := List.mem_of_getElem? (i := 200) (by decide +kernel)
theorem q_201 : Cond.static yX4_checkAbroad ∈ wsL_law := List.mem_of_getElem? (i := 201) (by decide +kernel)
theorem q_202 : Cond.code yX4_checkAbroad cX4_checkAbroad 1 none ∈ wsL_law := List.mem_of_getElem? (i := 202) (by decide +kernel)
theorem q_203 : Cond.methodLink RX4 87 yX4_rateAll ∈ wsL_law := List.mem_of_getElem? (i := 203) (by decide +kernel)
theorem q_204 : Cond.instanceMethod yX4_rateAll ∈ wsL_law := List.mem_of_getElem? (i := 204) (by decide +kernel)
theorem q_205 : Cond.selects RX4 yX4_rateAll yX4_rateAll ∈ wsL_law := List.mem_of_getElem? (i := 205) (by decide +kernel)
theorem q_206 : Cond.code yX4_rateAll cX4_rateAll 3 none ∈ wsL_law := List.mem_of_getElem? (i := 206) (by decide +kernel)
theorem q_207 : Cond.classLink RX4 105 "PhoneRater$Account" ∈ wsL_law := List.mem_of_getElem? (i := 207) (by decide +kernel)
theorem q_208 : Cond.classLink RX4 116 "PhoneRater$Line" ∈ wsL_law := List.mem_of_getElem? (i := 208) (by decide +kernel)
theorem q_209 : Cond.classLink RX4 148 "PhoneRater$Call" ∈ wsL_law := List.mem_of_getElem? (i := 209) (by decide +kernel)
theorem q_210 : Cond.fieldLink RX4 163 "PhoneRater$Call" "seconds" "I" ∈ wsL_law := List.mem_of_getElem? (i := 210) (by decide +kernel)
theorem q_211 : Cond.methodLink RX4 244 yX0_forgetRating ∈ wsL_law := List.mem_of_getElem? (i := 211) (by decide +kernel)
theorem q_212 : Cond.instanceMethod yX0_forgetRating ∈ wsL_law := List.mem_of_getElem? (i := 212) (by decide +kernel)
theorem q_213 : Cond.selects RX0 yX0_forgetRating yX0_forgetRating ∈ wsL_law := List.mem_of_getElem? (i := 213) (by decide +kernel)
theorem q_214 : Cond.initialized RX0 ∈ wsL_law := List.mem_of_getElem? (i := 214) (by decide +kernel)
theorem q_215 : Cond.code yX0_forgetRating cX0_forgetRating 1 none ∈ wsL_law := List.mem_of_getElem? (i := 215) (by decide +kernel)
theorem q_216 : Cond.fieldLink RX0 9 "PhoneRater$Account" "bundle" "I" ∈ wsL_law := List.mem_of_getElem? (i := 216) (by decide +kernel)
theorem q_217 : Cond.fieldLink RX0 21 "PhoneRater$Account" "unused" "I" ∈ wsL_law := List.mem_of_getElem? (i := 217) (by decide +kernel)
theorem q_218 : Cond.fieldLink RX0 24 "PhoneRater$Account" "emptier" "I" ∈ wsL_law := List.mem_of_getElem? (i := 218) (by decide +kernel)
theorem q_219 : Cond.fieldLink RX0 27 "PhoneRater$Account" "prices" "I" ∈ wsL_law := List.mem_of_getElem? (i := 219) (by decide +kernel)
theorem q_220 : Cond.methodLink RX4 247 yX2_forgetRating ∈ wsL_law := List.mem_of_getElem? (i := 220) (by decide +kernel)
theorem q_221 : Cond.instanceMethod yX2_forgetRating ∈ wsL_law := List.mem_of_getElem? (i := 221) (by decide +kernel)
theorem q_222 : Cond.selects RX2 yX2_forgetRating yX2_forgetRating ∈ wsL_law := List.mem_of_getElem? (i := 222) (by decide +kernel)
theorem q_223 : Cond.initialized RX2 ∈ wsL_law := List.mem_of_getElem? (i := 223) (by decide +kernel)
theorem q_224 : Cond.code yX2_forgetRating cX2_forgetRating 2 none ∈ wsL_law := List.mem_of_getElem? (i := 224) (by decide +kernel)
theorem q_225 : Cond.fieldLink RX2 29 "PhoneRater$Line" "prices" "I" ∈ wsL_law := List.mem_of_getElem? (i := 225) (by decide +kernel)
theorem q_226 : Cond.fieldLink RX2 9 "PhoneRater$Line" "feesPaid" "[I" ∈ wsL_law := List.mem_of_getElem? (i := 226) (by decide +kernel)
theorem q_227 : Cond.fieldLink RX2 15 "PhoneRater$Line" "lastFeeDay" "[I" ∈ wsL_law := List.mem_of_getElem? (i := 227) (by decide +kernel)
theorem q_228 : Cond.methodLink RX4 248 yX1_forgetRating ∈ wsL_law := List.mem_of_getElem? (i := 228) (by decide +kernel)
theorem q_229 : Cond.instanceMethod yX1_forgetRating ∈ wsL_law := List.mem_of_getElem? (i := 229) (by decide +kernel)
theorem q_230 : Cond.selects RX1 yX1_forgetRating yX1_forgetRating ∈ wsL_law := List.mem_of_getElem? (i := 230) (by decide +kernel)
theorem q_231 : Cond.initialized RX1 ∈ wsL_law := List.mem_of_getElem? (i := 231) (by decide +kernel)
theorem q_232 : Cond.code yX1_forgetRating cX1_forgetRating 1 none ∈ wsL_law := List.mem_of_getElem? (i := 232) (by decide +kernel)
theorem q_233 : Cond.fieldLink RX1 28 "PhoneRater$Call" "billed" "I" ∈ wsL_law := List.mem_of_getElem? (i := 233) (by decide +kernel)
theorem q_234 : Cond.fieldLink RX1 31 "PhoneRater$Call" "free" "I" ∈ wsL_law := List.mem_of_getElem? (i := 234) (by decide +kernel)
theorem q_235 : Cond.fieldLink RX1 34 "PhoneRater$Call" "price" "I" ∈ wsL_law := List.mem_of_getElem? (i := 235) (by decide +kernel)
theorem q_236 : Cond.fieldLink RX1 37 "PhoneRater$Call" "dayFee" "I" ∈ wsL_law := List.mem_of_getElem? (i := 236) (by decide +kernel)
theorem q_237 : Cond.methodLink RX4 249 yX4_rate ∈ wsL_law := List.mem_of_getElem? (i := 237) (by decide +kernel)
theorem q_238 : Cond.instanceMethod yX4_rate ∈ wsL_law := List.mem_of_getElem? (i := 238) (by decide +kernel)
theorem q_239 : Cond.selects RX4 yX4_rate yX4_rate ∈ wsL_law := List.mem_of_getElem? (i := 239) (by decide +kernel)
theorem q_240 : Cond.code yX4_rate cX4_rate 5 none ∈ wsL_law := List.mem_of_getElem? (i := 240) (by decide +kernel)
theorem q_241 : Cond.fieldLink RX4 252 "PhoneRater$Call" "line" "LPhoneRater$Line;" ∈ wsL_law := List.mem_of_getElem? (i := 241) (by decide +kernel)
theorem q_242 : Cond.fieldLink RX4 125 "PhoneRater$Line" "tariff" "LPhoneRater$Tariff;" ∈ wsL_law := List.mem_of_getElem? (i := 242) (by decide +kernel)
theorem q_243 : Cond.fieldLink RX4 217 "PhoneRater$Call" "billed" "I" ∈ wsL_law := List.mem_of_getElem? (i := 243) (by decide +kernel)
theorem q_244 : Cond.fieldLink RX4 259 "PhoneRater$Call" "zone" "I" ∈ wsL_law := List.mem_of_getElem? (i := 244) (by decide +kernel)
theorem q_245 : Cond.fieldLink RX4 210 "PhoneRater$Line" "account" "LPhoneRater$Account;" ∈ wsL_law := List.mem_of_getElem? (i := 245) (by decide +kernel)
theorem q_246 : Cond.fieldLink RX4 214 "PhoneRater$Call" "free" "I" ∈ wsL_law := List.mem_of_getElem? (i := 246) (by decide +kernel)
theorem q_247 : Cond.fieldLink RX4 266 "PhoneRater$Tariff" "peak" "I" ∈ wsL_law := List.mem_of_getElem? (i := 247) (by decide +kernel)
theorem q_248 : Cond.fieldLink RX4 269 "PhoneRater$Tariff" "other" "I" ∈ wsL_law := List.mem_of_getElem? (i := 248) (by decide +kernel)
theorem q_249 : Cond.fieldLink RX4 275 "PhoneRater$Call" "dayFee" "I" ∈ wsL_law := List.mem_of_getElem? (i := 249) (by decide +kernel)
theorem q_250 : Cond.fieldLink RX4 186 "PhoneRater$Call" "price" "I" ∈ wsL_law := List.mem_of_getElem? (i := 250) (by decide +kernel)
theorem q_251 : Cond.fieldLink RX4 189 "PhoneRater$Line" "prices" "I" ∈ wsL_law := List.mem_of_getElem? (i := 251) (by decide +kernel)
theorem q_252 : Cond.fieldLink RX4 197 "PhoneRater$Account" "prices" "I" ∈ wsL_law := List.mem_of_getElem? (i := 252) (by decide +kernel)
theorem q_253 : Cond.methodLink RX4 256 yX3_billedFor ∈ wsL_law := List.mem_of_getElem? (i := 253) (by decide +kernel)
theorem q_254 : Cond.instanceMethod yX3_billedFor ∈ wsL_law := List.mem_of_getElem? (i := 254) (by decide +kernel)
theorem q_255 : Cond.selects RX3 yX3_billedFor yX3_billedFor ∈ wsL_law := List.mem_of_getElem? (i := 255) (by decide +kernel)
theorem q_256 : Cond.code yX3_billedFor cX3_billedFor 3 (some .int) ∈ wsL_law := List.mem_of_getElem? (i := 256) (by decide +kernel)
theorem q_257 : Cond.methodLink RX4 262 yX0_takeFromBundle ∈ wsL_law := List.mem_of_getElem? (i := 257) (by decide +kernel)
theorem q_258 : Cond.instanceMethod yX0_takeFromBundle ∈ wsL_law := List.mem_of_getElem? (i := 258) (by decide +kernel)
theorem q_259 : Cond.selects RX0 yX0_takeFromBundle yX0_takeFromBundle ∈ wsL_law := List.mem_of_getElem? (i := 259) (by decide +kernel)
theorem q_260 : Cond.code yX0_takeFromBundle cX0_takeFromBundle 3 (some .int) ∈ wsL_law := List.mem_of_getElem? (i := 260) (by decide +kernel)
theorem q_261 : Cond.fieldLink RX0 30 "PhoneRater$Call" "billed" "I" ∈ wsL_law := List.mem_of_getElem? (i := 261) (by decide +kernel)
theorem q_262 : Cond.methodLink RX0 35 Lib.Math.min.name ∈ wsL_law := List.mem_of_getElem? (i := 262) (by decide +kernel)
theorem q_263 : Cond.fieldLink RX0 41 "PhoneRater$Call" "number" "I" ∈ wsL_law := List.mem_of_getElem? (i := 263) (by decide +kernel)
theorem q_264 : Cond.methodLink RX4 176 yX4_beginsInPeak ∈ wsL_law := List.mem_of_getElem? (i := 264) (by decide +kernel)
theorem q_265 : Cond.instanceMethod yX4_beginsInPeak ∈ wsL_law := List.mem_of_getElem? (i := 265) (by decide +kernel)
theorem q_266 : Cond.selects RX4 yX4_beginsInPeak yX4_beginsInPeak ∈ wsL_law := List.mem_of_getElem? (i := 266) (by decide +kernel)
theorem q_267 : Cond.code yX4_beginsInPeak cX4_beginsInPeak 4 (some .boolean) ∈ wsL_law := List.mem_of_getElem? (i := 267) (by decide +kernel)
theorem q_268 : Cond.fieldLink RX4 238 "PhoneRater$Call" "minute" "I" ∈ wsL_law := List.mem_of_getElem? (i := 268) (by decide +kernel)
theorem q_269 : Cond.methodLink RX4 194 yX1_day ∈ wsL_law := List.mem_of_getElem? (i := 269) (by decide +kernel)
theorem q_270 : Cond.instanceMethod yX1_day ∈ wsL_law := List.mem_of_getElem? (i := 270) (by decide +kernel)
theorem q_271 : Cond.selects RX1 yX1_day yX1_day ∈ wsL_law := List.mem_of_getElem? (i := 271) (by decide +kernel)
theorem q_272 : Cond.code yX1_day cX1_day 1 (some .int) ∈ wsL_law := List.mem_of_getElem? (i := 272) (by decide +kernel)
theorem q_273 : Cond.fieldLink RX1 19 "PhoneRater$Call" "minute" "I" ∈ wsL_law := List.mem_of_getElem? (i := 273) (by decide +kernel)
theorem q_274 : Cond.methodLink RX4 272 yX4_rateDayFee ∈ wsL_law := List.mem_of_getElem? (i := 274) (by decide +kernel)
theorem q_275 : Cond.static yX4_rateDayFee ∈ wsL_law := List.mem_of_getElem? (i := 275) (by decide +kernel)
theorem q_276 : Cond.code yX4_rateDayFee cX4_rateDayFee 4 none ∈ wsL_law := List.mem_of_getElem? (i := 276) (by decide +kernel)
theorem q_277 : Cond.methodLink RX4 282 yX2_beginsFeeDay ∈ wsL_law := List.mem_of_getElem? (i := 277) (by decide +kernel)
theorem q_278 : Cond.instanceMethod yX2_beginsFeeDay ∈ wsL_law := List.mem_of_getElem? (i := 278) (by decide +kernel)
theorem q_279 : Cond.selects RX2 yX2_beginsFeeDay yX2_beginsFeeDay ∈ wsL_law := List.mem_of_getElem? (i := 279) (by decide +kernel)
theorem q_280 : Cond.code yX2_beginsFeeDay cX2_beginsFeeDay 3 (some .boolean) ∈ wsL_law := List.mem_of_getElem? (i := 280) (by decide +kernel)
theorem q_281 : Cond.fieldLink RX2 18 "PhoneRater$Line" "freeOfDay" "[I" ∈ wsL_law := List.mem_of_getElem? (i := 281) (by decide +kernel)
theorem q_282 : Cond.methodLink RX4 286 yX2_takeFreeOfDay ∈ wsL_law := List.mem_of_getElem? (i := 282) (by decide +kernel)
theorem q_283 : Cond.instanceMethod yX2_takeFreeOfDay ∈ wsL_law := List.mem_of_getElem? (i := 283) (by decide +kernel)
theorem q_284 : Cond.selects RX2 yX2_takeFreeOfDay yX2_takeFreeOfDay ∈ wsL_law := List.mem_of_getElem? (i := 284) (by decide +kernel)
theorem q_285 : Cond.code yX2_takeFreeOfDay cX2_takeFreeOfDay 4 (some .int) ∈ wsL_law := List.mem_of_getElem? (i := 285) (by decide +kernel)
theorem q_286 : Cond.methodLink RX2 33 Lib.Math.min.name ∈ wsL_law := List.mem_of_getElem? (i := 286) (by decide +kernel)
theorem q_287 : Cond.methodLink RX4 278 yX3_chargeFor ∈ wsL_law := List.mem_of_getElem? (i := 287) (by decide +kernel)
theorem q_288 : Cond.instanceMethod yX3_chargeFor ∈ wsL_law := List.mem_of_getElem? (i := 288) (by decide +kernel)
theorem q_289 : Cond.selects RX3 yX3_chargeFor yX3_chargeFor ∈ wsL_law := List.mem_of_getElem? (i := 289) (by decide +kernel)
theorem q_290 : Cond.code yX3_chargeFor cX3_chargeFor 3 (some .int) ∈ wsL_law := List.mem_of_getElem? (i := 290) (by decide +kernel)
theorem q_295 : Cond.methodLink RX5 82 yX5_isTariff ∈ wsL_law := List.mem_of_getElem? (i := 295) (by decide +kernel)
theorem q_296 : Cond.instanceMethod yX5_isTariff ∈ wsL_law := List.mem_of_getElem? (i := 296) (by decide +kernel)
theorem q_297 : Cond.selects RX5 yX5_isTariff yX5_isTariff ∈ wsL_law := List.mem_of_getElem? (i := 297) (by decide +kernel)
theorem q_298 : Cond.code yX5_isTariff cX5_isTariff 2 (some .boolean) ∈ wsL_law := List.mem_of_getElem? (i := 298) (by decide +kernel)
theorem q_306 : Cond.methodLink RX4 90 yX4_isMinuteOfDay ∈ wsL_law := List.mem_of_getElem? (i := 306) (by decide +kernel)
theorem q_307 : Cond.static yX4_isMinuteOfDay ∈ wsL_law := List.mem_of_getElem? (i := 307) (by decide +kernel)
theorem q_308 : Cond.code yX4_isMinuteOfDay cX4_isMinuteOfDay 1 (some .boolean) ∈ wsL_law := List.mem_of_getElem? (i := 308) (by decide +kernel)
theorem q_320 : Cond.constant RX4 98 (1000000) ∈ wsL_law := List.mem_of_getElem? (i := 320) (by decide +kernel)
theorem q_322 : Cond.instantiable RX0 6 ∈ wsL_law := List.mem_of_getElem? (i := 322) (by decide +kernel)
theorem q_323 : Cond.methodLink RX4 95 yX4_checkBundle ∈ wsL_law := List.mem_of_getElem? (i := 323) (by decide +kernel)
theorem q_324 : Cond.static yX4_checkBundle ∈ wsL_law := List.mem_of_getElem? (i := 324) (by decide +kernel)
theorem q_325 : Cond.code yX4_checkBundle cX4_checkBundle 1 none ∈ wsL_law := List.mem_of_getElem? (i := 325) (by decide +kernel)
theorem q_326 : Cond.constant RX4 299 (100000) ∈ wsL_law := List.mem_of_getElem? (i := 326) (by decide +kernel)
theorem q_327 : Cond.methodLink RX4 107 yX0_init ∈ wsL_law := List.mem_of_getElem? (i := 327) (by decide +kernel)
theorem q_328 : Cond.instanceMethod yX0_init ∈ wsL_law := List.mem_of_getElem? (i := 328) (by decide +kernel)
theorem q_329 : Cond.code yX0_init cX0_init 4 none ∈ wsL_law := List.mem_of_getElem? (i := 329) (by decide +kernel)
theorem q_330 : Cond.methodLink RX0 3 objectInit ∈ wsL_law := List.mem_of_getElem? (i := 330) (by decide +kernel)
theorem q_331 : Cond.fieldLink RX0 15 "PhoneRater$Account" "threshold" "I" ∈ wsL_law := List.mem_of_getElem? (i := 331) (by decide +kernel)
theorem q_332 : Cond.fieldLink RX0 18 "PhoneRater$Account" "percent" "I" ∈ wsL_law := List.mem_of_getElem? (i := 332) (by decide +kernel)
theorem q_337 : Cond.constant RX5 86 (100000) ∈ wsL_law := List.mem_of_getElem? (i := 337) (by decide +kernel)
theorem q_338 : Cond.constant RX5 87 (1000000) ∈ wsL_law := List.mem_of_getElem? (i := 338) (by decide +kernel)
theorem q_339 : Cond.fieldLink RX5 63 "PhoneRaterModel" "accounts" "I" ∈ wsL_law := List.mem_of_getElem? (i := 339) (by decide +kernel)
theorem q_348 : Cond.instantiable RX2 6 ∈ wsL_law := List.mem_of_getElem? (i := 348) (by decide +kernel)
theorem q_349 : Cond.methodLink RX4 110 yX4_findAccount ∈ wsL_law := List.mem_of_getElem? (i := 349) (by decide +kernel)
theorem q_350 : Cond.instanceMethod yX4_findAccount ∈ wsL_law := List.mem_of_getElem? (i := 350) (by decide +kernel)
theorem q_351 : Cond.selects RX4 yX4_findAccount yX4_findAccount ∈ wsL_law := List.mem_of_getElem? (i := 351) (by decide +kernel)
theorem q_352 : Cond.code yX4_findAccount cX4_findAccount 2 (some (.object "PhoneRater$Account")) ∈ wsL_law := List.mem_of_getElem? (i := 352) (by decide +kernel)
theorem q_353 : Cond.methodLink RX4 118 yX2_init ∈ wsL_law := List.mem_of_getElem? (i := 353) (by decide +kernel)
theorem q_354 : Cond.instanceMethod yX2_init ∈ wsL_law := List.mem_of_getElem? (i := 354) (by decide +kernel)
theorem q_355 : Cond.code yX2_init cX2_init 3 none ∈ wsL_law := List.mem_of_getElem? (i := 355) (by decide +kernel)
theorem q_356 : Cond.methodLink RX2 3 objectInit ∈ wsL_law := List.mem_of_getElem? (i := 356) (by decide +kernel)
theorem q_357 : Cond.fieldLink RX2 21 "PhoneRater$Line" "account" "LPhoneRater$Account;" ∈ wsL_law := List.mem_of_getElem? (i := 357) (by decide +kernel)
theorem q_358 : Cond.fieldLink RX2 25 "PhoneRater$Line" "tariff" "LPhoneRater$Tariff;" ∈ wsL_law := List.mem_of_getElem? (i := 358) (by decide +kernel)
theorem q_363 : Cond.fieldLink RX5 66 "PhoneRaterModel" "lines" "I" ∈ wsL_law := List.mem_of_getElem? (i := 363) (by decide +kernel)
theorem q_364 : Cond.methodLink RX5 88 yX5_isAccount ∈ wsL_law := List.mem_of_getElem? (i := 364) (by decide +kernel)
theorem q_365 : Cond.instanceMethod yX5_isAccount ∈ wsL_law := List.mem_of_getElem? (i := 365) (by decide +kernel)
theorem q_366 : Cond.selects RX5 yX5_isAccount yX5_isAccount ∈ wsL_law := List.mem_of_getElem? (i := 366) (by decide +kernel)
theorem q_367 : Cond.code yX5_isAccount cX5_isAccount 2 (some .boolean) ∈ wsL_law := List.mem_of_getElem? (i := 367) (by decide +kernel)
theorem q_375 : Cond.fieldLink RX4 129 "PhoneRater$Tariff" "number" "I" ∈ wsL_law := List.mem_of_getElem? (i := 375) (by decide +kernel)
theorem q_376 : Cond.methodLink RX4 121 yX4_findLine ∈ wsL_law := List.mem_of_getElem? (i := 376) (by decide +kernel)
theorem q_377 : Cond.instanceMethod yX4_findLine ∈ wsL_law := List.mem_of_getElem? (i := 377) (by decide +kernel)
theorem q_378 : Cond.selects RX4 yX4_findLine yX4_findLine ∈ wsL_law := List.mem_of_getElem? (i := 378) (by decide +kernel)
theorem q_379 : Cond.code yX4_findLine cX4_findLine 2 (some (.object "PhoneRater$Line")) ∈ wsL_law := List.mem_of_getElem? (i := 379) (by decide +kernel)
theorem q_380 : Cond.methodLink RX4 132 yX4_giveTariff ∈ wsL_law := List.mem_of_getElem? (i := 380) (by decide +kernel)
theorem q_381 : Cond.instanceMethod yX4_giveTariff ∈ wsL_law := List.mem_of_getElem? (i := 381) (by decide +kernel)
theorem q_382 : Cond.selects RX4 yX4_giveTariff yX4_giveTariff ∈ wsL_law := List.mem_of_getElem? (i := 382) (by decide +kernel)
theorem q_383 : Cond.code yX4_giveTariff cX4_giveTariff 3 none ∈ wsL_law := List.mem_of_getElem? (i := 383) (by decide +kernel)
theorem q_388 : Cond.methodLink RX5 91 yX5_isLine ∈ wsL_law := List.mem_of_getElem? (i := 388) (by decide +kernel)
theorem q_389 : Cond.instanceMethod yX5_isLine ∈ wsL_law := List.mem_of_getElem? (i := 389) (by decide +kernel)
theorem q_390 : Cond.selects RX5 yX5_isLine yX5_isLine ∈ wsL_law := List.mem_of_getElem? (i := 390) (by decide +kernel)
theorem q_391 : Cond.code yX5_isLine cX5_isLine 2 (some .boolean) ∈ wsL_law := List.mem_of_getElem? (i := 391) (by decide +kernel)
theorem q_399 : Cond.fieldLink RX4 136 "PhoneRater$Account" "bundle" "I" ∈ wsL_law := List.mem_of_getElem? (i := 399) (by decide +kernel)
theorem q_411 : Cond.constant RX4 139 (43199) ∈ wsL_law := List.mem_of_getElem? (i := 411) (by decide +kernel)
theorem q_413 : Cond.instantiable RX1 9 ∈ wsL_law := List.mem_of_getElem? (i := 413) (by decide +kernel)
theorem q_414 : Cond.methodLink RX4 150 yX1_init ∈ wsL_law := List.mem_of_getElem? (i := 414) (by decide +kernel)
theorem q_415 : Cond.instanceMethod yX1_init ∈ wsL_law := List.mem_of_getElem? (i := 415) (by decide +kernel)
theorem q_416 : Cond.code yX1_init cX1_init 6 none ∈ wsL_law := List.mem_of_getElem? (i := 416) (by decide +kernel)
theorem q_417 : Cond.methodLink RX1 3 objectInit ∈ wsL_law := List.mem_of_getElem? (i := 417) (by decide +kernel)
theorem q_418 : Cond.fieldLink RX1 9 "PhoneRater$Call" "number" "I" ∈ wsL_law := List.mem_of_getElem? (i := 418) (by decide +kernel)
theorem q_419 : Cond.fieldLink RX1 15 "PhoneRater$Call" "line" "LPhoneRater$Line;" ∈ wsL_law := List.mem_of_getElem? (i := 419) (by decide +kernel)
theorem q_420 : Cond.fieldLink RX1 22 "PhoneRater$Call" "seconds" "I" ∈ wsL_law := List.mem_of_getElem? (i := 420) (by decide +kernel)
theorem q_421 : Cond.fieldLink RX1 25 "PhoneRater$Call" "zone" "I" ∈ wsL_law := List.mem_of_getElem? (i := 421) (by decide +kernel)
theorem q_422 : Cond.methodLink RX4 153 yX4_putInOrder ∈ wsL_law := List.mem_of_getElem? (i := 422) (by decide +kernel)
theorem q_423 : Cond.instanceMethod yX4_putInOrder ∈ wsL_law := List.mem_of_getElem? (i := 423) (by decide +kernel)
theorem q_424 : Cond.selects RX4 yX4_putInOrder yX4_putInOrder ∈ wsL_law := List.mem_of_getElem? (i := 424) (by decide +kernel)
theorem q_425 : Cond.code yX4_putInOrder cX4_putInOrder 3 none ∈ wsL_law := List.mem_of_getElem? (i := 425) (by decide +kernel)
theorem q_426 : Cond.methodLink RX4 241 yJx4a65c_add_7a177 ∈ wsL_law := List.mem_of_getElem? (i := 426) (by decide +kernel)
theorem q_427 : Cond.instanceMethod yJx4a65c_add_7a177 ∈ wsL_law := List.mem_of_getElem? (i := 427) (by decide +kernel)
theorem q_428 : Cond.selects RJx4a65c yJx4a65c_add_7a177 yJx4a65c_add_7a177 ∈ wsL_law := List.mem_of_getElem? (i := 428) (by decide +kernel)
theorem q_429 : Cond.code yJx4a65c_add_7a177 cJx4a65c_add_7a177 5 none ∈ wsL_law := List.mem_of_getElem? (i := 429) (by decide +kernel)
theorem q_430 : Cond.methodLink RJx4a65c 112 arraycopyName ∈ wsL_law := List.mem_of_getElem? (i := 430) (by decide +kernel)
theorem q_431 : Cond.methodLink RJx4a65c 135 yJx4a65c_rangeCheckForAdd_d00df ∈ wsL_law := List.mem_of_getElem? (i := 431) (by decide +kernel)
theorem q_432 : Cond.instanceMethod yJx4a65c_rangeCheckForAdd_d00df ∈ wsL_law := List.mem_of_getElem? (i := 432) (by decide +kernel)
theorem q_433 : Cond.selects RJx4a65c yJx4a65c_rangeCheckForAdd_d00df yJx4a65c_rangeCheckForAdd_d00df ∈ wsL_law := List.mem_of_getElem? (i := 433) (by decide +kernel)
theorem q_434 : Cond.code yJx4a65c_rangeCheckForAdd_d00df cJx4a65c_rangeCheckForAdd_d00df 2 none ∈ wsL_law := List.mem_of_getElem? (i := 434) (by decide +kernel)
theorem q_439 : Cond.constant RX5 94 (43199) ∈ wsL_law := List.mem_of_getElem? (i := 439) (by decide +kernel)
theorem q_440 : Cond.fieldLink RX5 69 "PhoneRaterModel" "calls" "I" ∈ wsL_law := List.mem_of_getElem? (i := 440) (by decide +kernel)
theorem q_448 : Cond.methodLink RX4 157 yX4_findCall ∈ wsL_law := List.mem_of_getElem? (i := 448) (by decide +kernel)
theorem q_449 : Cond.instanceMethod yX4_findCall ∈ wsL_law := List.mem_of_getElem? (i := 449) (by decide +kernel)
theorem q_450 : Cond.selects RX4 yX4_findCall yX4_findCall ∈ wsL_law := List.mem_of_getElem? (i := 450) (by decide +kernel)
theorem q_451 : Cond.code yX4_findCall cX4_findCall 2 (some (.object "PhoneRater$Call")) ∈ wsL_law := List.mem_of_getElem? (i := 451) (by decide +kernel)
theorem q_456 : Cond.methodLink RX5 95 yX5_isCall ∈ wsL_law := List.mem_of_getElem? (i := 456) (by decide +kernel)
theorem q_457 : Cond.instanceMethod yX5_isCall ∈ wsL_law := List.mem_of_getElem? (i := 457) (by decide +kernel)
theorem q_458 : Cond.selects RX5 yX5_isCall yX5_isCall ∈ wsL_law := List.mem_of_getElem? (i := 458) (by decide +kernel)
theorem q_459 : Cond.code yX5_isCall cX5_isCall 2 (some .boolean) ∈ wsL_law := List.mem_of_getElem? (i := 459) (by decide +kernel)
theorem q_475 : Cond.fieldLink RX4 175 "PhoneRater$Call" "number" "I" ∈ wsL_law := List.mem_of_getElem? (i := 475) (by decide +kernel)
theorem q_491 : Cond.methodLink RX5 101 yX5_isInPeak ∈ wsL_law := List.mem_of_getElem? (i := 491) (by decide +kernel)
theorem q_492 : Cond.instanceMethod yX5_isInPeak ∈ wsL_law := List.mem_of_getElem? (i := 492) (by decide +kernel)
theorem q_493 : Cond.selects RX5 yX5_isInPeak yX5_isInPeak ∈ wsL_law := List.mem_of_getElem? (i := 493) (by decide +kernel)
theorem q_494 : Cond.code yX5_isInPeak cX5_isInPeak 3 (some .boolean) ∈ wsL_law := List.mem_of_getElem? (i := 494) (by decide +kernel)
theorem q_495 : Cond.methodLink RX5 98 yX5_dayOf ∈ wsL_law := List.mem_of_getElem? (i := 495) (by decide +kernel)
theorem q_496 : Cond.static yX5_dayOf ∈ wsL_law := List.mem_of_getElem? (i := 496) (by decide +kernel)
theorem q_497 : Cond.code yX5_dayOf cX5_dayOf 1 (some .int) ∈ wsL_law := List.mem_of_getElem? (i := 497) (by decide +kernel)
theorem q_505 : Cond.methodLink RX4 182 yX1_tell ∈ wsL_law := List.mem_of_getElem? (i := 505) (by decide +kernel)
theorem q_506 : Cond.instanceMethod yX1_tell ∈ wsL_law := List.mem_of_getElem? (i := 506) (by decide +kernel)
theorem q_507 : Cond.selects RX1 yX1_tell yX1_tell ∈ wsL_law := List.mem_of_getElem? (i := 507) (by decide +kernel)
theorem q_508 : Cond.code yX1_tell cX1_tell 2 (some .int) ∈ wsL_law := List.mem_of_getElem? (i := 508) (by decide +kernel)
theorem q_513 : Cond.methodLink RX5 120 yX5_rateAll ∈ wsL_law := List.mem_of_getElem? (i := 513) (by decide +kernel)
theorem q_514 : Cond.instanceMethod yX5_rateAll ∈ wsL_law := List.mem_of_getElem? (i := 514) (by decide +kernel)
theorem q_515 : Cond.selects RX5 yX5_rateAll yX5_rateAll ∈ wsL_law := List.mem_of_getElem? (i := 515) (by decide +kernel)
theorem q_516 : Cond.code yX5_rateAll cX5_rateAll 2 none ∈ wsL_law := List.mem_of_getElem? (i := 516) (by decide +kernel)
theorem q_517 : Cond.methodLink RX5 116 yX5_rate ∈ wsL_law := List.mem_of_getElem? (i := 517) (by decide +kernel)
theorem q_518 : Cond.instanceMethod yX5_rate ∈ wsL_law := List.mem_of_getElem? (i := 518) (by decide +kernel)
theorem q_519 : Cond.selects RX5 yX5_rate yX5_rate ∈ wsL_law := List.mem_of_getElem? (i := 519) (by decide +kernel)
theorem q_520 : Cond.code yX5_rate cX5_rate 12 none ∈ wsL_law := List.mem_of_getElem? (i := 520) (by decide +kernel)
theorem q_521 : Cond.methodLink RX5 110 Lib.Math.min.name ∈ wsL_law := List.mem_of_getElem? (i := 521) (by decide +kernel)
theorem q_522 : Cond.methodLink RX5 104 Lib.Math.max.name ∈ wsL_law := List.mem_of_getElem? (i := 522) (by decide +kernel)
theorem q_523 : Cond.methodLink RX5 113 yX5_earlier ∈ wsL_law := List.mem_of_getElem? (i := 523) (by decide +kernel)
theorem q_524 : Cond.instanceMethod yX5_earlier ∈ wsL_law := List.mem_of_getElem? (i := 524) (by decide +kernel)
theorem q_525 : Cond.selects RX5 yX5_earlier yX5_earlier ∈ wsL_law := List.mem_of_getElem? (i := 525) (by decide +kernel)
theorem q_526 : Cond.code yX5_earlier cX5_earlier 7 (some .int) ∈ wsL_law := List.mem_of_getElem? (i := 526) (by decide +kernel)
theorem q_527 : Cond.methodLink RX5 123 yX5_toldOf ∈ wsL_law := List.mem_of_getElem? (i := 527) (by decide +kernel)
theorem q_528 : Cond.instanceMethod yX5_toldOf ∈ wsL_law := List.mem_of_getElem? (i := 528) (by decide +kernel)
theorem q_529 : Cond.selects RX5 yX5_toldOf yX5_toldOf ∈ wsL_law := List.mem_of_getElem? (i := 529) (by decide +kernel)
theorem q_530 : Cond.code yX5_toldOf cX5_toldOf 3 (some .int) ∈ wsL_law := List.mem_of_getElem? (i := 530) (by decide +kernel)
theorem q_550 : Cond.methodLink RX5 126 yX5_lineSumOf ∈ wsL_law := List.mem_of_getElem? (i := 550) (by decide +kernel)
theorem q_551 : Cond.instanceMethod yX5_lineSumOf ∈ wsL_law := List.mem_of_getElem? (i := 551) (by decide +kernel)
theorem q_552 : Cond.selects RX5 yX5_lineSumOf yX5_lineSumOf ∈ wsL_law := List.mem_of_getElem? (i := 552) (by decide +kernel)
theorem q_553 : Cond.code yX5_lineSumOf cX5_lineSumOf 4 (some .int) ∈ wsL_law := List.mem_of_getElem? (i := 553) (by decide +kernel)
theorem q_576 : Cond.methodLink RX5 129 yX5_sumOf ∈ wsL_law := List.mem_of_getElem? (i := 576) (by decide +kernel)
theorem q_577 : Cond.instanceMethod yX5_sumOf ∈ wsL_law := List.mem_of_getElem? (i := 577) (by decide +kernel)
theorem q_578 : Cond.selects RX5 yX5_sumOf yX5_sumOf ∈ wsL_law := List.mem_of_getElem? (i := 578) (by decide +kernel)
theorem q_579 : Cond.code yX5_sumOf cX5_sumOf 4 (some .int) ∈ wsL_law := List.mem_of_getElem? (i := 579) (by decide +kernel)
theorem q_587 : Cond.methodLink RX4 198 yX0_cents ∈ wsL_law := List.mem_of_getElem? (i := 587) (by decide +kernel)
theorem q_588 : Cond.instanceMethod yX0_cents ∈ wsL_law := List.mem_of_getElem? (i := 588) (by decide +kernel)
theorem q_589 : Cond.selects RX0 yX0_cents yX0_cents ∈ wsL_law := List.mem_of_getElem? (i := 589) (by decide +kernel)
theorem q_590 : Cond.code yX0_cents cX0_cents 4 (some .int) ∈ wsL_law := List.mem_of_getElem? (i := 590) (by decide +kernel)
theorem q_591 : Cond.methodLink RX0 44 Lib.Math.max.name ∈ wsL_law := List.mem_of_getElem? (i := 591) (by decide +kernel)
theorem q_592 : Cond.constantLong RX0 47 (100) ∈ wsL_law := List.mem_of_getElem? (i := 592) (by decide +kernel)
theorem q_597 : Cond.methodLink RX5 134 yX5_totalOf ∈ wsL_law := List.mem_of_getElem? (i := 597) (by decide +kernel)
theorem q_598 : Cond.instanceMethod yX5_totalOf ∈ wsL_law := List.mem_of_getElem? (i := 598) (by decide +kernel)
theorem q_599 : Cond.selects RX5 yX5_totalOf yX5_totalOf ∈ wsL_law := List.mem_of_getElem? (i := 599) (by decide +kernel)
theorem q_600 : Cond.code yX5_totalOf cX5_totalOf 5 (some .int) ∈ wsL_law := List.mem_of_getElem? (i := 600) (by decide +kernel)
theorem q_601 : Cond.constantLong RX5 132 (100) ∈ wsL_law := List.mem_of_getElem? (i := 601) (by decide +kernel)
theorem q_609 : Cond.fieldLink RX4 201 "PhoneRater$Account" "unused" "I" ∈ wsL_law := List.mem_of_getElem? (i := 609) (by decide +kernel)
theorem q_621 : Cond.fieldLink RX4 204 "PhoneRater$Account" "emptier" "I" ∈ wsL_law := List.mem_of_getElem? (i := 621) (by decide +kernel)
theorem q_633 : Cond.fieldLink RX4 207 "PhoneRater$Line" "feesPaid" "[I" ∈ wsL_law := List.mem_of_getElem? (i := 633) (by decide +kernel)
theorem q_649 : Cond.methodLink RX5 137 yX5_with ∈ wsL_law := List.mem_of_getElem? (i := 649) (by decide +kernel)
theorem q_650 : Cond.instanceMethod yX5_with ∈ wsL_law := List.mem_of_getElem? (i := 650) (by decide +kernel)
theorem q_651 : Cond.selects RX5 yX5_with yX5_with ∈ wsL_law := List.mem_of_getElem? (i := 651) (by decide +kernel)
theorem q_652 : Cond.code yX5_with cX5_with 4 (some .int) ∈ wsL_law := List.mem_of_getElem? (i := 652) (by decide +kernel)
theorem q_676 : Cond.constantLong RX4 220 (193) ∈ wsL_law := List.mem_of_getElem? (i := 676) (by decide +kernel)
theorem q_677 : Cond.methodLink RX4 222 yX4_mix ∈ wsL_law := List.mem_of_getElem? (i := 677) (by decide +kernel)
theorem q_678 : Cond.static yX4_mix ∈ wsL_law := List.mem_of_getElem? (i := 678) (by decide +kernel)
theorem q_679 : Cond.code yX4_mix cX4_mix 3 (some .long) ∈ wsL_law := List.mem_of_getElem? (i := 679) (by decide +kernel)
theorem q_680 : Cond.constantLong RX4 236 (31) ∈ wsL_law := List.mem_of_getElem? (i := 680) (by decide +kernel)
theorem q_681 : Cond.methodLink RX4 226 yX4_mixLines ∈ wsL_law := List.mem_of_getElem? (i := 681) (by decide +kernel)
theorem q_682 : Cond.instanceMethod yX4_mixLines ∈ wsL_law := List.mem_of_getElem? (i := 682) (by decide +kernel)
theorem q_683 : Cond.selects RX4 yX4_mixLines yX4_mixLines ∈ wsL_law := List.mem_of_getElem? (i := 683) (by decide +kernel)
theorem q_684 : Cond.code yX4_mixLines cX4_mixLines 7 (some .long) ∈ wsL_law := List.mem_of_getElem? (i := 684) (by decide +kernel)
theorem q_685 : Cond.methodLink RX4 230 yX4_mixAccounts ∈ wsL_law := List.mem_of_getElem? (i := 685) (by decide +kernel)
theorem q_686 : Cond.instanceMethod yX4_mixAccounts ∈ wsL_law := List.mem_of_getElem? (i := 686) (by decide +kernel)
theorem q_687 : Cond.selects RX4 yX4_mixAccounts yX4_mixAccounts ∈ wsL_law := List.mem_of_getElem? (i := 687) (by decide +kernel)
theorem q_688 : Cond.code yX4_mixAccounts cX4_mixAccounts 7 (some .long) ∈ wsL_law := List.mem_of_getElem? (i := 688) (by decide +kernel)
theorem q_689 : Cond.methodLink RX4 233 yX4_mixCalls ∈ wsL_law := List.mem_of_getElem? (i := 689) (by decide +kernel)
theorem q_690 : Cond.instanceMethod yX4_mixCalls ∈ wsL_law := List.mem_of_getElem? (i := 690) (by decide +kernel)
theorem q_691 : Cond.selects RX4 yX4_mixCalls yX4_mixCalls ∈ wsL_law := List.mem_of_getElem? (i := 691) (by decide +kernel)
theorem q_692 : Cond.code yX4_mixCalls cX4_mixCalls 8 (some .long) ∈ wsL_law := List.mem_of_getElem? (i := 692) (by decide +kernel)
theorem q_697 : Cond.constantLong RX5 140 (5983) ∈ wsL_law := List.mem_of_getElem? (i := 697) (by decide +kernel)
theorem q_698 : Cond.constantLong RX5 142 (31) ∈ wsL_law := List.mem_of_getElem? (i := 698) (by decide +kernel)
end
section
/-! 10.leaves: weakest preconditions and walks, laid by wip/whole/gen.py -/
abbrev rm_X0_init : Room := { frames := 1, cells := 0, slots := 0, locals := 24 }
def wp_X0_init (z : Nat × Nat) (S : mmS) (p0 : Nat) (p1 : Int32) (p2 : Int32) (p3 : Int32) (Q : mmS → Prop) (X : String → mmS → Prop) : Prop := (p0 ∈ mL S ∧ mK S p0 = 0) ∧ ∀ S2 : mmS, S2 = sI S 2 p0 p1 → ∀ S3 : mmS, S3 = sI S2 0 p0 p2 → ∀ S4 : mmS, S4 = sI S3 1 p0 p3 → ∀ S5 : mmS, S5 = sI S4 3 p0 p1 → ∀ S6 : mmS, S6 = sI S5 4 p0 (-1 : Int32) → Q S6
set_option maxHeartbeats 4000000 in
set_option maxRecDepth 100000 in
theorem met_X0_init (l : Launch) (hl0 : l.stackTraces = false) (g : mG) (S : mmS) (p0 : Nat) (p1 : Int32) (p2 : Int32) (p3 : Int32) (Q : mmS → Prop) (X : String → mmS → Prop) (hw : wp_X0_init g.2.2.2.2.2 S p0 p1 p2 p3 Q X) : mMv l g yX0_init (wA_ yX0_init cX0_init 4 none) rm_X0_init [.ref p0, .int p1, .int p2, .int p3] S Q X := by
  refine m_of (y := yX0_init) (cc := cX0_init) (maxL := 4) (ret := none) (by decide) rfl (Nat.le_of_ble_eq_true rfl) ?_
  intro p e s m args below meth c ls hC hrt hlk hmn hnx hs hH hl
  have hC : CallFix p m c cX0_init 4 s args (wA_ yX0_init cX0_init 4 none) RX0 := hC
  have hl : lv_has ls 4 [(0, .ref p0), (1, .int p1), (2, .int p2), (3, .int p3)] := hl
  unfold wp_X0_init at hw
  refine lv_aload_n hC.1 hC.2.1 dX0_init_0 rfl (lv_at hl 0 rfl) ?_
  refine m_objInit hC hl.1 (List.mem_cons_of_mem _ q_330) (List.mem_cons_of_mem _ q_11) (List.mem_cons_of_mem _ q_12) (Nat.le_of_ble_eq_true rfl) (Nat.le_of_ble_eq_true rfl) dX0_init_1 ?_
  refine lv_aload_n hC.1 hC.2.1 dX0_init_4 rfl (lv_at hl 0 rfl) ?_
  refine lv_iload_n hC.1 hC.2.1 dX0_init_5 rfl (lv_at hl 1 rfl) ?_
  obtain ⟨k1, hw⟩ := hw
  have hw := hw _ rfl
  refine m_putI hC hs hH cs0 fs0_2 (fun _ h => List.mem_cons_of_mem _ (inlX0 _ h)) (List.mem_cons_of_mem _ q_216) (fun _ h => h) (Or.inl rfl) rfl k1 dX0_init_6 (fun H locs hH => ?_)
  refine lv_aload_n hC.1 hC.2.1 dX0_init_9 rfl (lv_at hl 0 rfl) ?_
  refine lv_iload_n hC.1 hC.2.1 dX0_init_10 rfl (lv_at hl 2 rfl) ?_
  have hw := hw _ rfl
  refine m_putI hC hs hH cs0 fs0_0 (fun _ h => List.mem_cons_of_mem _ (inlX0 _ h)) (List.mem_cons_of_mem _ q_331) (fun _ h => h) (Or.inr ⟨rfl, hmn, rfl⟩) rfl k1 dX0_init_11 (fun H locs hH => ?_)
  refine lv_aload_n hC.1 hC.2.1 dX0_init_14 rfl (lv_at hl 0 rfl) ?_
  refine lv_iload_n hC.1 hC.2.1 dX0_init_15 rfl (lv_at hl 3 rfl) ?_
  have hw := hw _ rfl
  refine m_putI hC hs hH cs0 fs0_1 (fun _ h => List.mem_cons_of_mem _ (inlX0 _ h)) (List.mem_cons_of_mem _ q_332) (fun _ h => h) (Or.inr ⟨rfl, hmn, rfl⟩) rfl k1 dX0_init_16 (fun H locs hH => ?_)
  refine lv_aload_n hC.1 hC.2.1 dX0_init_19 rfl (lv_at hl 0 rfl) ?_
  refine lv_iload_n hC.1 hC.2.1 dX0_init_20 rfl (lv_at hl 1 rfl) ?_
  have hw := hw _ rfl
  refine m_putI hC hs hH cs0 fs0_3 (fun _ h => List.mem_cons_of_mem _ (inlX0 _ h)) (List.mem_cons_of_mem _ q_217) (fun _ h => h) (Or.inl rfl) rfl k1 dX0_init_21 (fun H locs hH => ?_)
  refine lv_aload_n hC.1 hC.2.1 dX0_init_24 rfl (lv_at hl 0 rfl) ?_
  refine lv_iconst (v := (-1)) hC.1 hC.2.1 dX0_init_25 (by decide) ?_
  have hw := hw _ rfl
  refine m_putI hC hs hH cs0 fs0_4 (fun _ h => List.mem_cons_of_mem _ (inlX0 _ h)) (List.mem_cons_of_mem _ q_218) (fun _ h => h) (Or.inl rfl) rfl k1 dX0_init_26 (fun H locs hH => ?_)
  exact m_retv hC hH hrt hlk (Nat.le_of_ble_eq_true rfl) (Nat.le_of_ble_eq_true rfl) dX0_init_29 hw
abbrev rm_X0_forgetRating : Room := { frames := 1, cells := 0, slots := 0, locals := 0 }
def wp_X0_forgetRating (z : Nat × Nat) (S : mmS) (p0 : Nat) (Q : mmS → Prop) (X : String → mmS → Prop) : Prop := (p0 ∈ mL S ∧ mK S p0 = 0) ∧ ∀ S2 : mmS, S2 = sI S 3 p0 (mI S 2 p0) → ∀ S3 : mmS, S3 = sI S2 4 p0 (-1 : Int32) → ∀ S4 : mmS, S4 = sI S3 5 p0 (0 : Int32) → Q S4
set_option maxHeartbeats 4000000 in
set_option maxRecDepth 100000 in
theorem met_X0_forgetRating (l : Launch) (hl0 : l.stackTraces = false) (g : mG) (S : mmS) (p0 : Nat) (Q : mmS → Prop) (X : String → mmS → Prop) (hw : wp_X0_forgetRating g.2.2.2.2.2 S p0 Q X) : mMv l g yX0_forgetRating (wA_ yX0_forgetRating cX0_forgetRating 1 none) rm_X0_forgetRating [.ref p0] S Q X := by
  refine m_of (y := yX0_forgetRating) (cc := cX0_forgetRating) (maxL := 1) (ret := none) (by decide) rfl (Nat.le_of_ble_eq_true rfl) ?_
  intro p e s m args below meth c ls hC hrt hlk hmn hnx hs hH hl
  have hC : CallFix p m c cX0_forgetRating 1 s args (wA_ yX0_forgetRating cX0_forgetRating 1 none) RX0 := hC
  have hl : lv_has ls 1 [(0, .ref p0)] := hl
  unfold wp_X0_forgetRating at hw
  refine lv_aload_n hC.1 hC.2.1 dX0_forgetRating_0 rfl (lv_at hl 0 rfl) ?_
  refine lv_aload_n hC.1 hC.2.1 dX0_forgetRating_1 rfl (lv_at hl 0 rfl) ?_
  obtain ⟨k1, hw⟩ := hw
  refine m_getI hC hs hH cs0 fs0_2 (fun _ h => List.mem_cons_of_mem _ (inlX0 _ h)) (List.mem_cons_of_mem _ q_216) (fun _ h => h) k1 dX0_forgetRating_2 ?_
  have hw := hw _ rfl
  refine m_putI hC hs hH cs0 fs0_3 (fun _ h => List.mem_cons_of_mem _ (inlX0 _ h)) (List.mem_cons_of_mem _ q_217) (fun _ h => h) (Or.inl rfl) rfl k1 dX0_forgetRating_5 (fun H locs hH => ?_)
  refine lv_aload_n hC.1 hC.2.1 dX0_forgetRating_8 rfl (lv_at hl 0 rfl) ?_
  refine lv_iconst (v := (-1)) hC.1 hC.2.1 dX0_forgetRating_9 (by decide) ?_
  have hw := hw _ rfl
  refine m_putI hC hs hH cs0 fs0_4 (fun _ h => List.mem_cons_of_mem _ (inlX0 _ h)) (List.mem_cons_of_mem _ q_218) (fun _ h => h) (Or.inl rfl) rfl k1 dX0_forgetRating_10 (fun H locs hH => ?_)
  refine lv_aload_n hC.1 hC.2.1 dX0_forgetRating_13 rfl (lv_at hl 0 rfl) ?_
  refine lv_iconst (v := 0) hC.1 hC.2.1 dX0_forgetRating_14 (by decide) ?_
  have hw := hw _ rfl
  refine m_putI hC hs hH cs0 fs0_5 (fun _ h => List.mem_cons_of_mem _ (inlX0 _ h)) (List.mem_cons_of_mem _ q_219) (fun _ h => h) (Or.inl rfl) rfl k1 dX0_forgetRating_15 (fun H locs hH => ?_)
  exact m_retv hC hH hrt hlk (Nat.le_of_ble_eq_true rfl) (Nat.le_of_ble_eq_true rfl) dX0_forgetRating_18 hw
abbrev rm_X0_takeFromBundle : Room := { frames := 1, cells := 0, slots := 0, locals := 24 }
def wp_X0_takeFromBundle (z : Nat × Nat) (S : mmS) (p0 : Nat) (p1 : Nat) (Q : Int32 → mmS → Prop) (X : String → mmS → Prop) : Prop := (p0 ∈ mL S ∧ mK S p0 = 0) ∧ (p1 ∈ mL S ∧ mK S p1 = 1) ∧ ∀ v3 : Int32, v3 = (if (mI S 10 p1) < (mI S 3 p0) then (mI S 10 p1) else (mI S 3 p0)) → ∀ S4 : mmS, S4 = sI S 3 p0 ((mI S 3 p0) - v3) → (v3 ≤ 0 → Q v3 S4) ∧ (¬ v3 ≤ 0 → (¬ (mI S4 3 p0) = 0 → Q v3 S4) ∧ ((mI S4 3 p0) = 0 → ∀ S5 : mmS, S5 = sI S4 4 p0 (mI S4 6 p1) → Q v3 S5))
set_option maxHeartbeats 4000000 in
set_option maxRecDepth 100000 in
theorem met_X0_takeFromBundle (l : Launch) (hl0 : l.stackTraces = false) (g : mG) (S : mmS) (p0 : Nat) (p1 : Nat) (Q : Int32 → mmS → Prop) (X : String → mmS → Prop) (hw : wp_X0_takeFromBundle g.2.2.2.2.2 S p0 p1 Q X) : mMi l g yX0_takeFromBundle (wA_ yX0_takeFromBundle cX0_takeFromBundle 3 (some .int)) rm_X0_takeFromBundle [.ref p0, .ref p1] S Q X := by
  refine m_of (y := yX0_takeFromBundle) (cc := cX0_takeFromBundle) (maxL := 3) (ret := (some .int)) (by decide) rfl (Nat.le_of_ble_eq_true rfl) ?_
  intro p e s m args below meth c ls hC hrt hlk hmn hnx hs hH hl
  have hC : CallFix p m c cX0_takeFromBundle 3 s args (wA_ yX0_takeFromBundle cX0_takeFromBundle 3 (some .int)) RX0 := hC
  have hl : lv_has ls 3 [(0, .ref p0), (1, .ref p1)] := hl
  unfold wp_X0_takeFromBundle at hw
  refine lv_aload_n hC.1 hC.2.1 dX0_takeFromBundle_0 rfl (lv_at hl 0 rfl) ?_
  obtain ⟨k1, hw⟩ := hw
  refine m_getI hC hs hH cs0 fs0_3 (fun _ h => List.mem_cons_of_mem _ (inlX0 _ h)) (List.mem_cons_of_mem _ q_217) (fun _ h => h) k1 dX0_takeFromBundle_1 ?_
  refine lv_aload_n hC.1 hC.2.1 dX0_takeFromBundle_4 rfl (lv_at hl 1 rfl) ?_
  obtain ⟨k2, hw⟩ := hw
  refine m_getI hC hs hH cs1 fs1_5 (fun _ h => List.mem_cons_of_mem _ (inlX1 _ h)) (List.mem_cons_of_mem _ q_261) (fun _ h => h) k2 dX0_takeFromBundle_5 ?_
  refine m_min hC hl.1 (List.mem_cons_of_mem _ q_262) (List.mem_cons_of_mem _ q_143) (List.mem_cons_of_mem _ q_117) (List.mem_cons_of_mem _ q_144) (Nat.le_of_ble_eq_true rfl) (Nat.le_of_ble_eq_true rfl) (Nat.le_of_ble_eq_true rfl) (Nat.le_of_ble_eq_true rfl) dX0_takeFromBundle_8 ?_
  have hw := hw _ rfl
  refine lv_istore_n (lv' := [(2, .int _), (0, .ref _), (1, .ref _)]) hC.1 hC.2.1 dX0_takeFromBundle_11 rfl hl (by decide) rfl (fun ls hl => ?_)
  refine lv_aload_n hC.1 hC.2.1 dX0_takeFromBundle_12 rfl (lv_at hl 1 rfl) ?_
  refine lv_dup hC.1 hC.2.1 dX0_takeFromBundle_13 rfl ?_
  refine m_getI hC hs hH cs0 fs0_3 (fun _ h => List.mem_cons_of_mem _ (inlX0 _ h)) (List.mem_cons_of_mem _ q_217) (fun _ h => h) k1 dX0_takeFromBundle_14 ?_
  refine lv_iload_n hC.1 hC.2.1 dX0_takeFromBundle_17 rfl (lv_at hl 0 rfl) ?_
  refine lv_isub hC.1 hC.2.1 dX0_takeFromBundle_18 ?_
  have hw := hw _ rfl
  refine m_putI hC hs hH cs0 fs0_3 (fun _ h => List.mem_cons_of_mem _ (inlX0 _ h)) (List.mem_cons_of_mem _ q_217) (fun _ h => h) (Or.inl rfl) rfl k1 dX0_takeFromBundle_19 (fun H locs hH => ?_)
  refine lv_iload_n hC.1 hC.2.1 dX0_takeFromBundle_22 rfl (lv_at hl 0 rfl) ?_
  refine lv_if_le (tgt := 41) hC.1 hC.2.1 dX0_takeFromBundle_23 (by decide) (fun hc => ?_) (fun hc => ?_)
  · have hw := hw.1 hc
    refine lv_iload_n hC.1 hC.2.1 dX0_takeFromBundle_41 rfl (lv_at hl 0 rfl) ?_
    exact m_reti hC hH hrt rfl hlk (Nat.le_of_ble_eq_true rfl) (Nat.le_of_ble_eq_true rfl) dX0_takeFromBundle_42 hw
  · have hw := hw.2 hc
    refine lv_aload_n hC.1 hC.2.1 dX0_takeFromBundle_26 rfl (lv_at hl 1 rfl) ?_
    refine m_getI hC hs hH cs0 fs0_3 (fun _ h => List.mem_cons_of_mem _ (inlX0 _ h)) (List.mem_cons_of_mem _ q_217) (fun _ h => h) k1 dX0_takeFromBundle_27 ?_
    refine lv_if_ne (tgt := 41) hC.1 hC.2.1 dX0_takeFromBundle_30 (by decide) (fun hc => ?_) (fun hc => ?_)
    · have hw := hw.1 hc
      refine lv_iload_n hC.1 hC.2.1 dX0_takeFromBundle_41 rfl (lv_at hl 0 rfl) ?_
      exact m_reti hC hH hrt rfl hlk (Nat.le_of_ble_eq_true rfl) (Nat.le_of_ble_eq_true rfl) dX0_takeFromBundle_42 hw
    · have hw := hw.2 hc
      refine lv_aload_n hC.1 hC.2.1 dX0_takeFromBundle_33 rfl (lv_at hl 1 rfl) ?_
      refine lv_aload_n hC.1 hC.2.1 dX0_takeFromBundle_34 rfl (lv_at hl 2 rfl) ?_
      refine m_getI hC hs hH cs1 fs1_0 (fun _ h => List.mem_cons_of_mem _ (inlX1 _ h)) (List.mem_cons_of_mem _ q_263) (fun _ h => h) k2 dX0_takeFromBundle_35 ?_
      have hw := hw _ rfl
      refine m_putI hC hs hH cs0 fs0_4 (fun _ h => List.mem_cons_of_mem _ (inlX0 _ h)) (List.mem_cons_of_mem _ q_218) (fun _ h => h) (Or.inl rfl) rfl k1 dX0_takeFromBundle_38 (fun H locs hH => ?_)
      refine lv_iload_n hC.1 hC.2.1 dX0_takeFromBundle_41 rfl (lv_at hl 0 rfl) ?_
      exact m_reti hC hH hrt rfl hlk (Nat.le_of_ble_eq_true rfl) (Nat.le_of_ble_eq_true rfl) dX0_takeFromBundle_42 hw
abbrev rm_X0_cents : Room := { frames := 1, cells := 0, slots := 0, locals := 24 }
def wp_X0_cents (z : Nat × Nat) (S : mmS) (p0 : Nat) (Q : Int32 → mmS → Prop) (X : String → mmS → Prop) : Prop := (p0 ∈ mL S ∧ mK S p0 = 0) ∧ ∀ v2 : Int64, v2 = (Int32.toInt64 (if (0 : Int32) < ((mI S 5 p0) - (mI S 0 p0)) then ((mI S 5 p0) - (mI S 0 p0)) else (0 : Int32))) → ∀ v3 : Int32, v3 = (Int64.toInt32 ((v2 * (Int32.toInt64 (mI S 1 p0))) / (100 : Int64))) → Q ((((mI S 5 p0) - v3) + (5 : Int32)) / (10 : Int32)) S
set_option maxHeartbeats 4000000 in
set_option maxRecDepth 100000 in
theorem met_X0_cents (l : Launch) (hl0 : l.stackTraces = false) (g : mG) (S : mmS) (p0 : Nat) (Q : Int32 → mmS → Prop) (X : String → mmS → Prop) (hw : wp_X0_cents g.2.2.2.2.2 S p0 Q X) : mMi l g yX0_cents (wA_ yX0_cents cX0_cents 4 (some .int)) rm_X0_cents [.ref p0] S Q X := by
  refine m_of (y := yX0_cents) (cc := cX0_cents) (maxL := 4) (ret := (some .int)) (by decide) rfl (Nat.le_of_ble_eq_true rfl) ?_
  intro p e s m args below meth c ls hC hrt hlk hmn hnx hs hH hl
  have hC : CallFix p m c cX0_cents 4 s args (wA_ yX0_cents cX0_cents 4 (some .int)) RX0 := hC
  have hl : lv_has ls 4 [(0, .ref p0)] := hl
  unfold wp_X0_cents at hw
  refine lv_iconst (v := 0) hC.1 hC.2.1 dX0_cents_0 (by decide) ?_
  refine lv_aload_n hC.1 hC.2.1 dX0_cents_1 rfl (lv_at hl 0 rfl) ?_
  obtain ⟨k1, hw⟩ := hw
  refine m_getI hC hs hH cs0 fs0_5 (fun _ h => List.mem_cons_of_mem _ (inlX0 _ h)) (List.mem_cons_of_mem _ q_219) (fun _ h => h) k1 dX0_cents_2 ?_
  refine lv_aload_n hC.1 hC.2.1 dX0_cents_5 rfl (lv_at hl 0 rfl) ?_
  refine m_getI hC hs hH cs0 fs0_0 (fun _ h => List.mem_cons_of_mem _ (inlX0 _ h)) (List.mem_cons_of_mem _ q_331) (fun _ h => h) k1 dX0_cents_6 ?_
  refine lv_isub hC.1 hC.2.1 dX0_cents_9 ?_
  refine m_max hC hl.1 (List.mem_cons_of_mem _ q_591) (List.mem_cons_of_mem _ q_116) (List.mem_cons_of_mem _ q_117) (List.mem_cons_of_mem _ q_118) (Nat.le_of_ble_eq_true rfl) (Nat.le_of_ble_eq_true rfl) (Nat.le_of_ble_eq_true rfl) (Nat.le_of_ble_eq_true rfl) dX0_cents_10 ?_
  refine lv_i2l hC.1 hC.2.1 dX0_cents_13 rfl ?_
  have hw := hw _ rfl
  refine lv_lstore_n (lv' := [(1, .long _), (0, .ref _)]) hC.1 hC.2.1 dX0_cents_14 rfl hl (by decide) rfl (fun ls hl => ?_)
  refine lv_lload_n hC.1 hC.2.1 dX0_cents_15 rfl (lv_at hl 0 rfl) ?_
  refine lv_aload_n hC.1 hC.2.1 dX0_cents_16 rfl (lv_at hl 1 rfl) ?_
  refine m_getI hC hs hH cs0 fs0_1 (fun _ h => List.mem_cons_of_mem _ (inlX0 _ h)) (List.mem_cons_of_mem _ q_332) (fun _ h => h) k1 dX0_cents_17 ?_
  refine lv_i2l hC.1 hC.2.1 dX0_cents_20 rfl ?_
  refine lv_lmul hC.1 hC.2.1 dX0_cents_21 ?_
  refine lv_ldc2 hC.1 hC.2.1 hC.2.2.2.1 (hC.2.2.2.2 _ (List.mem_cons_of_mem _ q_592)) dX0_cents_22 ?_
  refine lv_ldiv hC.1 hC.2.1 dX0_cents_25 (by decide) ?_
  refine lv_l2i hC.1 hC.2.1 dX0_cents_26 rfl ?_
  have hw := hw _ rfl
  refine lv_istore_n (lv' := [(3, .int _), (1, .long _), (0, .ref _)]) hC.1 hC.2.1 dX0_cents_27 rfl hl (by decide) rfl (fun ls hl => ?_)
  refine lv_aload_n hC.1 hC.2.1 dX0_cents_28 rfl (lv_at hl 2 rfl) ?_
  refine m_getI hC hs hH cs0 fs0_5 (fun _ h => List.mem_cons_of_mem _ (inlX0 _ h)) (List.mem_cons_of_mem _ q_219) (fun _ h => h) k1 dX0_cents_29 ?_
  refine lv_iload_n hC.1 hC.2.1 dX0_cents_32 rfl (lv_at hl 0 rfl) ?_
  refine lv_isub hC.1 hC.2.1 dX0_cents_33 ?_
  refine lv_iconst (v := 5) hC.1 hC.2.1 dX0_cents_34 (by decide) ?_
  refine lv_iadd hC.1 hC.2.1 dX0_cents_35 ?_
  refine lv_bipush (v := 10) hC.1 hC.2.1 dX0_cents_36 (by decide) ?_
  refine lv_idiv hC.1 hC.2.1 dX0_cents_38 (by decide) ?_
  exact m_reti hC hH hrt rfl hlk (Nat.le_of_ble_eq_true rfl) (Nat.le_of_ble_eq_true rfl) dX0_cents_39 hw
abbrev rm_X1_init : Room := { frames := 1, cells := 0, slots := 0, locals := 24 }
def wp_X1_init (z : Nat × Nat) (S : mmS) (p0 : Nat) (p1 : Int32) (p2 : Nat) (p3 : Int32) (p4 : Int32) (p5 : Int32) (Q : mmS → Prop) (X : String → mmS → Prop) : Prop := (p0 ∈ mL S ∧ mK S p0 = 1) ∧ ∀ S2 : mmS, S2 = sI S 6 p0 p1 → ∀ S3 : mmS, S3 = sR S2 0 p0 (some p2) → ∀ S4 : mmS, S4 = sI S3 7 p0 p3 → ∀ S5 : mmS, S5 = sI S4 9 p0 p4 → ∀ S6 : mmS, S6 = sI S5 8 p0 p5 → Q S6
set_option maxHeartbeats 4000000 in
set_option maxRecDepth 100000 in
theorem met_X1_init (l : Launch) (hl0 : l.stackTraces = false) (g : mG) (S : mmS) (p0 : Nat) (p1 : Int32) (p2 : Nat) (p3 : Int32) (p4 : Int32) (p5 : Int32) (Q : mmS → Prop) (X : String → mmS → Prop) (hw : wp_X1_init g.2.2.2.2.2 S p0 p1 p2 p3 p4 p5 Q X) : mMv l g yX1_init (wA_ yX1_init cX1_init 6 none) rm_X1_init [.ref p0, .int p1, .ref p2, .int p3, .int p4, .int p5] S Q X := by
  refine m_of (y := yX1_init) (cc := cX1_init) (maxL := 6) (ret := none) (by decide) rfl (Nat.le_of_ble_eq_true rfl) ?_
  intro p e s m args below meth c ls hC hrt hlk hmn hnx hs hH hl
  have hC : CallFix p m c cX1_init 6 s args (wA_ yX1_init cX1_init 6 none) RX1 := hC
  have hl : lv_has ls 6 [(0, .ref p0), (1, .int p1), (2, .ref p2), (3, .int p3), (4, .int p4), (5, .int p5)] := hl
  unfold wp_X1_init at hw
  refine lv_aload_n hC.1 hC.2.1 dX1_init_0 rfl (lv_at hl 0 rfl) ?_
  refine m_objInit hC hl.1 (List.mem_cons_of_mem _ q_417) (List.mem_cons_of_mem _ q_11) (List.mem_cons_of_mem _ q_12) (Nat.le_of_ble_eq_true rfl) (Nat.le_of_ble_eq_true rfl) dX1_init_1 ?_
  refine lv_aload_n hC.1 hC.2.1 dX1_init_4 rfl (lv_at hl 0 rfl) ?_
  refine lv_iload_n hC.1 hC.2.1 dX1_init_5 rfl (lv_at hl 1 rfl) ?_
  obtain ⟨k1, hw⟩ := hw
  have hw := hw _ rfl
  refine m_putI hC hs hH cs1 fs1_0 (fun _ h => List.mem_cons_of_mem _ (inlX1 _ h)) (List.mem_cons_of_mem _ q_418) (fun _ h => h) (Or.inr ⟨rfl, hmn, rfl⟩) rfl k1 dX1_init_6 (fun H locs hH => ?_)
  refine lv_aload_n hC.1 hC.2.1 dX1_init_9 rfl (lv_at hl 0 rfl) ?_
  refine lv_aload_n hC.1 hC.2.1 dX1_init_10 rfl (lv_at hl 2 rfl) ?_
  have hw := hw _ rfl
  refine m_putR hC hs hH cs1 fs1_1 (fun _ h => List.mem_cons_of_mem _ (inlX1 _ h)) (List.mem_cons_of_mem _ q_419) (fun _ h => h) (Or.inr ⟨rfl, hmn, rfl⟩) rfl rfl k1 dX1_init_11 (fun H locs hH => ?_)
  refine lv_aload_n hC.1 hC.2.1 dX1_init_14 rfl (lv_at hl 0 rfl) ?_
  refine lv_iload_n hC.1 hC.2.1 dX1_init_15 rfl (lv_at hl 3 rfl) ?_
  have hw := hw _ rfl
  refine m_putI hC hs hH cs1 fs1_2 (fun _ h => List.mem_cons_of_mem _ (inlX1 _ h)) (List.mem_cons_of_mem _ q_273) (fun _ h => h) (Or.inr ⟨rfl, hmn, rfl⟩) rfl k1 dX1_init_16 (fun H locs hH => ?_)
  refine lv_aload_n hC.1 hC.2.1 dX1_init_19 rfl (lv_at hl 0 rfl) ?_
  refine lv_iload hC.1 hC.2.1 dX1_init_20 (lv_at hl 4 rfl) ?_
  have hw := hw _ rfl
  refine m_putI hC hs hH cs1 fs1_4 (fun _ h => List.mem_cons_of_mem _ (inlX1 _ h)) (List.mem_cons_of_mem _ q_420) (fun _ h => h) (Or.inl rfl) rfl k1 dX1_init_22 (fun H locs hH => ?_)
  refine lv_aload_n hC.1 hC.2.1 dX1_init_25 rfl (lv_at hl 0 rfl) ?_
  refine lv_iload hC.1 hC.2.1 dX1_init_26 (lv_at hl 5 rfl) ?_
  have hw := hw _ rfl
  refine m_putI hC hs hH cs1 fs1_3 (fun _ h => List.mem_cons_of_mem _ (inlX1 _ h)) (List.mem_cons_of_mem _ q_421) (fun _ h => h) (Or.inr ⟨rfl, hmn, rfl⟩) rfl k1 dX1_init_28 (fun H locs hH => ?_)
  exact m_retv hC hH hrt hlk (Nat.le_of_ble_eq_true rfl) (Nat.le_of_ble_eq_true rfl) dX1_init_31 hw
abbrev rm_X1_day : Room := { frames := 1, cells := 0, slots := 0, locals := 0 }
def wp_X1_day (z : Nat × Nat) (S : mmS) (p0 : Nat) (Q : Int32 → mmS → Prop) (X : String → mmS → Prop) : Prop := (p0 ∈ mL S ∧ mK S p0 = 1) ∧ Q ((mI S 7 p0) / (1440 : Int32)) S
set_option maxHeartbeats 4000000 in
set_option maxRecDepth 100000 in
theorem met_X1_day (l : Launch) (hl0 : l.stackTraces = false) (g : mG) (S : mmS) (p0 : Nat) (Q : Int32 → mmS → Prop) (X : String → mmS → Prop) (hw : wp_X1_day g.2.2.2.2.2 S p0 Q X) : mMi l g yX1_day (wA_ yX1_day cX1_day 1 (some .int)) rm_X1_day [.ref p0] S Q X := by
  refine m_of (y := yX1_day) (cc := cX1_day) (maxL := 1) (ret := (some .int)) (by decide) rfl (Nat.le_of_ble_eq_true rfl) ?_
  intro p e s m args below meth c ls hC hrt hlk hmn hnx hs hH hl
  have hC : CallFix p m c cX1_day 1 s args (wA_ yX1_day cX1_day 1 (some .int)) RX1 := hC
  have hl : lv_has ls 1 [(0, .ref p0)] := hl
  unfold wp_X1_day at hw
  refine lv_aload_n hC.1 hC.2.1 dX1_day_0 rfl (lv_at hl 0 rfl) ?_
  obtain ⟨k1, hw⟩ := hw
  refine m_getI hC hs hH cs1 fs1_2 (fun _ h => List.mem_cons_of_mem _ (inlX1 _ h)) (List.mem_cons_of_mem _ q_273) (fun _ h => h) k1 dX1_day_1 ?_
  refine lv_sipush (v := 1440) hC.1 hC.2.1 dX1_day_4 (by decide) ?_
  refine lv_idiv hC.1 hC.2.1 dX1_day_7 (by decide) ?_
  exact m_reti hC hH hrt rfl hlk (Nat.le_of_ble_eq_true rfl) (Nat.le_of_ble_eq_true rfl) dX1_day_8 hw
abbrev rm_X1_forgetRating : Room := { frames := 1, cells := 0, slots := 0, locals := 0 }
def wp_X1_forgetRating (z : Nat × Nat) (S : mmS) (p0 : Nat) (Q : mmS → Prop) (X : String → mmS → Prop) : Prop := (p0 ∈ mL S ∧ mK S p0 = 1) ∧ ∀ S2 : mmS, S2 = sI S 10 p0 (0 : Int32) → ∀ S3 : mmS, S3 = sI S2 11 p0 (0 : Int32) → ∀ S4 : mmS, S4 = sI S3 12 p0 (0 : Int32) → ∀ S5 : mmS, S5 = sI S4 13 p0 (0 : Int32) → Q S5
set_option maxHeartbeats 4000000 in
set_option maxRecDepth 100000 in
theorem met_X1_forgetRating (l : Launch) (hl0 : l.stackTraces = false) (g : mG) (S : mmS) (p0 : Nat) (Q : mmS → Prop) (X : String → mmS → Prop) (hw : wp_X1_forgetRating g.2.2.2.2.2 S p0 Q X) : mMv l g yX1_forgetRating (wA_ yX1_forgetRating cX1_forgetRating 1 none) rm_X1_forgetRating [.ref p0] S Q X := by
  refine m_of (y := yX1_forgetRating) (cc := cX1_forgetRating) (maxL := 1) (ret := none) (by decide) rfl (Nat.le_of_ble_eq_true rfl) ?_
  intro p e s m args below meth c ls hC hrt hlk hmn hnx hs hH hl
  have hC : CallFix p m c cX1_forgetRating 1 s args (wA_ yX1_forgetRating cX1_forgetRating 1 none) RX1 := hC
  have hl : lv_has ls 1 [(0, .ref p0)] := hl
  unfold wp_X1_forgetRating at hw
  refine lv_aload_n hC.1 hC.2.1 dX1_forgetRating_0 rfl (lv_at hl 0 rfl) ?_
  refine lv_iconst (v := 0) hC.1 hC.2.1 dX1_forgetRating_1 (by decide) ?_
  obtain ⟨k1, hw⟩ := hw
  have hw := hw _ rfl
  refine m_putI hC hs hH cs1 fs1_5 (fun _ h => List.mem_cons_of_mem _ (inlX1 _ h)) (List.mem_cons_of_mem _ q_233) (fun _ h => h) (Or.inl rfl) rfl k1 dX1_forgetRating_2 (fun H locs hH => ?_)
  refine lv_aload_n hC.1 hC.2.1 dX1_forgetRating_5 rfl (lv_at hl 0 rfl) ?_
  refine lv_iconst (v := 0) hC.1 hC.2.1 dX1_forgetRating_6 (by decide) ?_
  have hw := hw _ rfl
  refine m_putI hC hs hH cs1 fs1_6 (fun _ h => List.mem_cons_of_mem _ (inlX1 _ h)) (List.mem_cons_of_mem _ q_234) (fun _ h => h) (Or.inl rfl) rfl k1 dX1_forgetRating_7 (fun H locs hH => ?_)
  refine lv_aload_n hC.1 hC.2.1 dX1_forgetRating_10 rfl (lv_at hl 0 rfl) ?_
  refine lv_iconst (v := 0) hC.1 hC.2.1 dX1_forgetRating_11 (by decide) ?_
  have hw := hw _ rfl
  refine m_putI hC hs hH cs1 fs1_7 (fun _ h => List.mem_cons_of_mem _ (inlX1 _ h)) (List.mem_cons_of_mem _ q_235) (fun _ h => h) (Or.inl rfl) rfl k1 dX1_forgetRating_12 (fun H locs hH => ?_)
  refine lv_aload_n hC.1 hC.2.1 dX1_forgetRating_15 rfl (lv_at hl 0 rfl) ?_
  refine lv_iconst (v := 0) hC.1 hC.2.1 dX1_forgetRating_16 (by decide) ?_
  have hw := hw _ rfl
  refine m_putI hC hs hH cs1 fs1_8 (fun _ h => List.mem_cons_of_mem _ (inlX1 _ h)) (List.mem_cons_of_mem _ q_236) (fun _ h => h) (Or.inl rfl) rfl k1 dX1_forgetRating_17 (fun H locs hH => ?_)
  exact m_retv hC hH hrt hlk (Nat.le_of_ble_eq_true rfl) (Nat.le_of_ble_eq_true rfl) dX1_forgetRating_20 hw
abbrev rm_X1_tell : Room := { frames := 1, cells := 0, slots := 0, locals := 0 }
def wp_X1_tell (z : Nat × Nat) (S : mmS) (p0 : Nat) (p1 : Int32) (Q : Int32 → mmS → Prop) (X : String → mmS → Prop) : Prop := (Int32.toInt p1 < 0 ∨ 3 < Int32.toInt p1 → (p0 ∈ mL S ∧ mK S p0 = 1) ∧ Q (mI S 13 p0) S) ∧ (Int32.toInt p1 = 0 → (p0 ∈ mL S ∧ mK S p0 = 1) ∧ Q (mI S 9 p0) S) ∧ (Int32.toInt p1 = 1 → (p0 ∈ mL S ∧ mK S p0 = 1) ∧ Q (mI S 10 p0) S) ∧ (Int32.toInt p1 = 2 → (p0 ∈ mL S ∧ mK S p0 = 1) ∧ Q (mI S 11 p0) S) ∧ (Int32.toInt p1 = 3 → (p0 ∈ mL S ∧ mK S p0 = 1) ∧ Q (mI S 12 p0) S)
set_option maxHeartbeats 4000000 in
set_option maxRecDepth 100000 in
theorem met_X1_tell (l : Launch) (hl0 : l.stackTraces = false) (g : mG) (S : mmS) (p0 : Nat) (p1 : Int32) (Q : Int32 → mmS → Prop) (X : String → mmS → Prop) (hw : wp_X1_tell g.2.2.2.2.2 S p0 p1 Q X) : mMi l g yX1_tell (wA_ yX1_tell cX1_tell 2 (some .int)) rm_X1_tell [.ref p0, .int p1] S Q X := by
  refine m_of (y := yX1_tell) (cc := cX1_tell) (maxL := 2) (ret := (some .int)) (by decide) rfl (Nat.le_of_ble_eq_true rfl) ?_
  intro p e s m args below meth c ls hC hrt hlk hmn hnx hs hH hl
  have hC : CallFix p m c cX1_tell 2 s args (wA_ yX1_tell cX1_tell 2 (some .int)) RX1 := hC
  have hl : lv_has ls 2 [(0, .ref p0), (1, .int p1)] := hl
  unfold wp_X1_tell at hw
  refine lv_iload_n hC.1 hC.2.1 dX1_tell_0 rfl (lv_at hl 1 rfl) ?_
  refine m_switch hC dX1_tell_1 (fun hc => ?_) (fun hc1 hc2 => ?_)
  · have hw := hw.1 hc
    refine lv_tableOut (tgt := 52) hC.1 hC.2.1 dX1_tell_1 hc (by decide) ?_
    refine lv_aload_n hC.1 hC.2.1 dX1_tell_52 rfl (lv_at hl 0 rfl) ?_
    obtain ⟨k1, hw⟩ := hw
    refine m_getI hC hs hH cs1 fs1_8 (fun _ h => List.mem_cons_of_mem _ (inlX1 _ h)) (List.mem_cons_of_mem _ q_236) (fun _ h => h) k1 dX1_tell_53 ?_
    exact m_reti hC hH hrt rfl hlk (Nat.le_of_ble_eq_true rfl) (Nat.le_of_ble_eq_true rfl) dX1_tell_56 hw
  · have hw := hw.2
    have hj : Int32.toInt _ = 0 ∨ Int32.toInt _ = 1 ∨ Int32.toInt _ = 2 ∨ Int32.toInt _ = 3 := m_cases4 hc1 hc2
    rcases hj with hj | hj | hj | hj
    · have hw := hw.1 hj
      refine lv_tableIn (off := 31) (tgt := 32) hC.1 hC.2.1 dX1_tell_1 (by rw [hj]; decide) (by rw [hj]; decide) (by rw [hj]; decide) (by decide) ?_
      refine lv_aload_n hC.1 hC.2.1 dX1_tell_32 rfl (lv_at hl 0 rfl) ?_
      obtain ⟨k2, hw⟩ := hw
      refine m_getI hC hs hH cs1 fs1_4 (fun _ h => List.mem_cons_of_mem _ (inlX1 _ h)) (List.mem_cons_of_mem _ q_420) (fun _ h => h) k2 dX1_tell_33 ?_
      exact m_reti hC hH hrt rfl hlk (Nat.le_of_ble_eq_true rfl) (Nat.le_of_ble_eq_true rfl) dX1_tell_36 hw
    · have hw := hw.2.1 hj
      refine lv_tableIn (off := 36) (tgt := 37) hC.1 hC.2.1 dX1_tell_1 (by rw [hj]; decide) (by rw [hj]; decide) (by rw [hj]; decide) (by decide) ?_
      refine lv_aload_n hC.1 hC.2.1 dX1_tell_37 rfl (lv_at hl 0 rfl) ?_
      obtain ⟨k3, hw⟩ := hw
      refine m_getI hC hs hH cs1 fs1_5 (fun _ h => List.mem_cons_of_mem _ (inlX1 _ h)) (List.mem_cons_of_mem _ q_233) (fun _ h => h) k3 dX1_tell_38 ?_
      exact m_reti hC hH hrt rfl hlk (Nat.le_of_ble_eq_true rfl) (Nat.le_of_ble_eq_true rfl) dX1_tell_41 hw
    · have hw := hw.2.2.1 hj
      refine lv_tableIn (off := 41) (tgt := 42) hC.1 hC.2.1 dX1_tell_1 (by rw [hj]; decide) (by rw [hj]; decide) (by rw [hj]; decide) (by decide) ?_
      refine lv_aload_n hC.1 hC.2.1 dX1_tell_42 rfl (lv_at hl 0 rfl) ?_
      obtain ⟨k4, hw⟩ := hw
      refine m_getI hC hs hH cs1 fs1_6 (fun _ h => List.mem_cons_of_mem _ (inlX1 _ h)) (List.mem_cons_of_mem _ q_234) (fun _ h => h) k4 dX1_tell_43 ?_
      exact m_reti hC hH hrt rfl hlk (Nat.le_of_ble_eq_true rfl) (Nat.le_of_ble_eq_true rfl) dX1_tell_46 hw
    · have hw := hw.2.2.2 hj
      refine lv_tableIn (off := 46) (tgt := 47) hC.1 hC.2.1 dX1_tell_1 (by rw [hj]; decide) (by rw [hj]; decide) (by rw [hj]; decide) (by decide) ?_
      refine lv_aload_n hC.1 hC.2.1 dX1_tell_47 rfl (lv_at hl 0 rfl) ?_
      obtain ⟨k5, hw⟩ := hw
      refine m_getI hC hs hH cs1 fs1_7 (fun _ h => List.mem_cons_of_mem _ (inlX1 _ h)) (List.mem_cons_of_mem _ q_235) (fun _ h => h) k5 dX1_tell_48 ?_
      exact m_reti hC hH hrt rfl hlk (Nat.le_of_ble_eq_true rfl) (Nat.le_of_ble_eq_true rfl) dX1_tell_51 hw
abbrev rm_X2_init : Room := { frames := 1, cells := 3, slots := 9, locals := 24 }
def wp_X2_init (z : Nat × Nat) (S : mmS) (p0 : Nat) (p1 : Nat) (p2 : Nat) (Q : mmS → Prop) (X : String → mmS → Prop) : Prop := ∀ q1 : Nat, q1 ∉ mL S → ∀ S3 : mmS, S3 = sNa S q1 3 → (p0 ∈ mL S3 ∧ mK S3 p0 = 2) ∧ ∀ S5 : mmS, S5 = sR S3 3 p0 (some q1) → ∀ q6 : Nat, q6 ∉ mL S5 → ∀ S8 : mmS, S8 = sNa S5 q6 3 → ∀ S9 : mmS, S9 = sR S8 4 p0 (some q6) → ∀ q10 : Nat, q10 ∉ mL S9 → ∀ S12 : mmS, S12 = sNa S9 q10 3 → ∀ S13 : mmS, S13 = sR S12 5 p0 (some q10) → ∀ S14 : mmS, S14 = sR S13 1 p0 (some p1) → ∀ S15 : mmS, S15 = sR S14 2 p0 (some p2) → Q S15
set_option maxHeartbeats 4000000 in
set_option maxRecDepth 100000 in
theorem met_X2_init (l : Launch) (hl0 : l.stackTraces = false) (g : mG) (S : mmS) (p0 : Nat) (p1 : Nat) (p2 : Nat) (Q : mmS → Prop) (X : String → mmS → Prop) (hw : wp_X2_init g.2.2.2.2.2 S p0 p1 p2 Q X) : mMv l g yX2_init (wA_ yX2_init cX2_init 3 none) rm_X2_init [.ref p0, .ref p1, .ref p2] S Q X := by
  refine m_of (y := yX2_init) (cc := cX2_init) (maxL := 3) (ret := none) (by decide) rfl (Nat.le_of_ble_eq_true rfl) ?_
  intro p e s m args below meth c ls hC hrt hlk hmn hnx hs hH hl
  have hC : CallFix p m c cX2_init 3 s args (wA_ yX2_init cX2_init 3 none) RX2 := hC
  have hl : lv_has ls 3 [(0, .ref p0), (1, .ref p1), (2, .ref p2)] := hl
  unfold wp_X2_init at hw
  refine lv_aload_n hC.1 hC.2.1 dX2_init_0 rfl (lv_at hl 0 rfl) ?_
  refine m_objInit hC hl.1 (List.mem_cons_of_mem _ q_356) (List.mem_cons_of_mem _ q_11) (List.mem_cons_of_mem _ q_12) (Nat.le_of_ble_eq_true rfl) (Nat.le_of_ble_eq_true rfl) dX2_init_1 ?_
  refine lv_aload_n hC.1 hC.2.1 dX2_init_4 rfl (lv_at hl 0 rfl) ?_
  refine lv_iconst (v := 3) hC.1 hC.2.1 dX2_init_5 (by decide) ?_
  refine m_newI (N' := 3) hC hs hH (List.mem_cons_of_mem _ q_42) (by decide) (by decide) (by decide) (Nat.le_of_ble_eq_true rfl) (Nat.le_of_ble_eq_true rfl) dX2_init_6 (fun q1 H f2 hH => ?_)
  have hw := hw q1 f2 _ rfl
  refine W.widen (k := 1) (n := 3) (Nat.le_of_ble_eq_true rfl) (Nat.le_of_ble_eq_true rfl) ?_
  obtain ⟨k4, hw⟩ := hw
  have hw := hw _ rfl
  refine m_putR hC hs hH cs2 fs2_3 (fun _ h => List.mem_cons_of_mem _ (inlX2 _ h)) (List.mem_cons_of_mem _ q_226) (fun _ h => h) (Or.inr ⟨rfl, hmn, rfl⟩) rfl rfl k4 dX2_init_8 (fun H locs hH => ?_)
  refine lv_aload_n hC.1 hC.2.1 dX2_init_11 rfl (lv_at hl 0 rfl) ?_
  refine lv_iconst (v := 3) hC.1 hC.2.1 dX2_init_12 (by decide) ?_
  refine m_newI (N' := 3) hC hs hH (List.mem_cons_of_mem _ q_42) (by decide) (by decide) (by decide) (Nat.le_of_ble_eq_true rfl) (Nat.le_of_ble_eq_true rfl) dX2_init_13 (fun q6 H f7 hH => ?_)
  have hw := hw q6 f7 _ rfl
  refine W.widen (k := 2) (n := 6) (Nat.le_of_ble_eq_true rfl) (Nat.le_of_ble_eq_true rfl) ?_
  have hw := hw _ rfl
  refine m_putR hC hs hH cs2 fs2_4 (fun _ h => List.mem_cons_of_mem _ (inlX2 _ h)) (List.mem_cons_of_mem _ q_227) (fun _ h => h) (Or.inr ⟨rfl, hmn, rfl⟩) rfl rfl (mkN k4 f7) dX2_init_15 (fun H locs hH => ?_)
  refine lv_aload_n hC.1 hC.2.1 dX2_init_18 rfl (lv_at hl 0 rfl) ?_
  refine lv_iconst (v := 3) hC.1 hC.2.1 dX2_init_19 (by decide) ?_
  refine m_newI (N' := 3) hC hs hH (List.mem_cons_of_mem _ q_42) (by decide) (by decide) (by decide) (Nat.le_of_ble_eq_true rfl) (Nat.le_of_ble_eq_true rfl) dX2_init_20 (fun q10 H f11 hH => ?_)
  have hw := hw q10 f11 _ rfl
  refine W.widen (k := 3) (n := 9) (Nat.le_of_ble_eq_true rfl) (Nat.le_of_ble_eq_true rfl) ?_
  have hw := hw _ rfl
  refine m_putR hC hs hH cs2 fs2_5 (fun _ h => List.mem_cons_of_mem _ (inlX2 _ h)) (List.mem_cons_of_mem _ q_281) (fun _ h => h) (Or.inr ⟨rfl, hmn, rfl⟩) rfl rfl (mkN (mkN k4 f7) f11) dX2_init_22 (fun H locs hH => ?_)
  refine lv_aload_n hC.1 hC.2.1 dX2_init_25 rfl (lv_at hl 0 rfl) ?_
  refine lv_aload_n hC.1 hC.2.1 dX2_init_26 rfl (lv_at hl 1 rfl) ?_
  have hw := hw _ rfl
  refine m_putR hC hs hH cs2 fs2_0 (fun _ h => List.mem_cons_of_mem _ (inlX2 _ h)) (List.mem_cons_of_mem _ q_357) (fun _ h => h) (Or.inr ⟨rfl, hmn, rfl⟩) rfl rfl (mkN (mkN k4 f7) f11) dX2_init_27 (fun H locs hH => ?_)
  refine lv_aload_n hC.1 hC.2.1 dX2_init_30 rfl (lv_at hl 0 rfl) ?_
  refine lv_aload_n hC.1 hC.2.1 dX2_init_31 rfl (lv_at hl 2 rfl) ?_
  have hw := hw _ rfl
  refine m_putR hC hs hH cs2 fs2_1 (fun _ h => List.mem_cons_of_mem _ (inlX2 _ h)) (List.mem_cons_of_mem _ q_358) (fun _ h => h) (Or.inl rfl) rfl rfl (mkN (mkN k4 f7) f11) dX2_init_32 (fun H locs hH => ?_)
  exact m_retv hC hH hrt hlk (Nat.le_of_ble_eq_true rfl) (Nat.le_of_ble_eq_true rfl) dX2_init_35 hw
abbrev rm_X2_forgetRating : Room := { frames := 1, cells := 0, slots := 0, locals := 0 }
def bk_X2_forgetRating_7 (z : Nat × Nat) (Q : mmS → Prop) (X : String → mmS → Prop) (K7 : mmS → Nat → Int32 → Prop) (S : mmS) (x0 : Nat) (x1 : Int32) : Prop := ((3 : Int32) ≤ x1 → Q S) ∧ (¬ (3 : Int32) ≤ x1 → (x0 ∈ mL S ∧ mK S x0 = 2) ∧ ∃ b2 : Nat, mR S 3 x0 = some b2 ∧ (b2 ∈ mL S ∧ mK S b2 = 7) ∧ vp_in x1 (mN S b2) ∧ ∀ S6 : mmS, S6 = sA S b2 (x1).toNatClampNeg (0 : Int32) → ∃ b7 : Nat, mR S6 4 x0 = some b7 ∧ (b7 ∈ mL S6 ∧ mK S6 b7 = 7) ∧ vp_in x1 (mN S6 b7) ∧ ∀ S11 : mmS, S11 = sA S6 b7 (x1).toNatClampNeg (-1 : Int32) → ∀ v12 : Int32, v12 = x1 + 1 → K7 S11 x0 v12)
def lp_X2_forgetRating_7 (z : Nat × Nat) (Q : mmS → Prop) (X : String → mmS → Prop) : Nat → mmS → Nat → Int32 → Prop
  | 0 => fun _ _ _ => False
  | n + 1 => bk_X2_forgetRating_7 z Q X (lp_X2_forgetRating_7 z Q X n)
def wp_X2_forgetRating (z : Nat × Nat) (S : mmS) (p0 : Nat) (Q : mmS → Prop) (X : String → mmS → Prop) : Prop := (p0 ∈ mL S ∧ mK S p0 = 2) ∧ ∀ S2 : mmS, S2 = sI S 14 p0 (0 : Int32) → ∀ v3 : Int32, v3 = (1 : Int32) → ∃ n : Nat, lp_X2_forgetRating_7 z Q X n S2 p0 v3
set_option maxHeartbeats 4000000 in
set_option maxRecDepth 100000 in
theorem bw_X2_forgetRating_7 {p : Program} {l : Launch} {e : Env} {s : State} {m : MethodId} {args : Array Value} {below : List Frame} {meth : Method} {c : Code} {g : mG} {Q : mmS → Prop} {X : String → mmS → Prop} (hl0 : l.stackTraces = false) (hC : CallFix p m c cX2_forgetRating 2 s args (wA_ yX2_forgetRating cX2_forgetRating 2 none) RX2) (hrt : meth.sig.returnType = none) (hlk : meth.locks = false) (hmn : meth.name = yX2_forgetRating.name) (hnx : ∀ x ∈ c.exceptionTable.toList, False) (hs : mX g s) {K7 : mmS → Nat → Int32 → Prop} (hk7 : ∀ (S : mmS) (x0 : Nat) (x1 : Int32), K7 S x0 x1 → ∀ (H : Heap) (locs : List Loc), mH g S s H locs → ∀ ls : Array Slot, lv_has ls 2 [(0, .ref x0), (1, .int x1)] → W p l e rm_X2_forgetRating s m args below meth c H locs 0 0 (vx_MQ below (va_Qv Q (wO g) (mB g)) (vx_X (fun _ : mmS => True) (fun E S1 t => X E S1 ∧ wO g S1 t) (mB g)) args s rm_X2_forgetRating.cells rm_X2_forgetRating.slots (mB g)) (F0 m 7 ls [])) : ∀ (S : mmS) (x0 : Nat) (x1 : Int32), bk_X2_forgetRating_7 g.2.2.2.2.2 Q X K7 S x0 x1 → ∀ (H : Heap) (locs : List Loc), mH g S s H locs → ∀ ls : Array Slot, lv_has ls 2 [(0, .ref x0), (1, .int x1)] → W p l e rm_X2_forgetRating s m args below meth c H locs 0 0 (vx_MQ below (va_Qv Q (wO g) (mB g)) (vx_X (fun _ : mmS => True) (fun E S1 t => X E S1 ∧ wO g S1 t) (mB g)) args s rm_X2_forgetRating.cells rm_X2_forgetRating.slots (mB g)) (F0 m 7 ls []) := by
  intro S x0 x1 hw H locs hH ls hl
  unfold bk_X2_forgetRating_7 at hw
  refine lv_iload_n hC.1 hC.2.1 dX2_forgetRating_7 rfl (lv_at hl 1 rfl) ?_
  refine lv_iconst (v := 3) hC.1 hC.2.1 dX2_forgetRating_8 (by decide) ?_
  refine lv_icmp_ge (tgt := 32) hC.1 hC.2.1 dX2_forgetRating_9 (by decide) (fun hc => ?_) (fun hc => ?_)
  · have hw := hw.1 hc
    exact m_retv hC hH hrt hlk (Nat.le_of_ble_eq_true rfl) (Nat.le_of_ble_eq_true rfl) dX2_forgetRating_32 hw
  · have hw := hw.2 hc
    refine lv_aload_n hC.1 hC.2.1 dX2_forgetRating_12 rfl (lv_at hl 0 rfl) ?_
    obtain ⟨k1, hw⟩ := hw
    obtain ⟨b2, r3, hw⟩ := hw
    refine m_getR hC hs hH cs2 fs2_3 (fun _ h => List.mem_cons_of_mem _ (inlX2 _ h)) (List.mem_cons_of_mem _ q_226) (fun _ h => h) k1 r3 dX2_forgetRating_13 ?_
    refine lv_iload_n hC.1 hC.2.1 dX2_forgetRating_16 rfl (lv_at hl 1 rfl) ?_
    refine lv_iconst (v := 0) hC.1 hC.2.1 dX2_forgetRating_17 (by decide) ?_
    obtain ⟨k4, hw⟩ := hw
    obtain ⟨i5, hw⟩ := hw
    have hw := hw _ rfl
    refine m_iast hC hs hH k4 i5 dX2_forgetRating_18 (fun H locs hH => ?_)
    refine lv_aload_n hC.1 hC.2.1 dX2_forgetRating_19 rfl (lv_at hl 0 rfl) ?_
    obtain ⟨b7, r8, hw⟩ := hw
    refine m_getR hC hs hH cs2 fs2_4 (fun _ h => List.mem_cons_of_mem _ (inlX2 _ h)) (List.mem_cons_of_mem _ q_227) (fun _ h => h) k1 r8 dX2_forgetRating_20 ?_
    refine lv_iload_n hC.1 hC.2.1 dX2_forgetRating_23 rfl (lv_at hl 1 rfl) ?_
    refine lv_iconst (v := (-1)) hC.1 hC.2.1 dX2_forgetRating_24 (by decide) ?_
    obtain ⟨k9, hw⟩ := hw
    obtain ⟨i10, hw⟩ := hw
    have hw := hw _ rfl
    refine m_iast hC hs hH k9 i10 dX2_forgetRating_25 (fun H locs hH => ?_)
    have hw := hw _ rfl
    refine lv_iinc (lv' := [(1, .int _), (0, .ref _)]) hC.1 hC.2.1 dX2_forgetRating_26 hl (k := 1) rfl (rfl : (_ : Int32) + Int32.ofInt 1 = (_ : Int32) + 1) (by decide) rfl (fun ls hl => ?_)
    refine lv_goto (tgt := 7) hC.1 hC.2.1 dX2_forgetRating_29 (by decide) ?_
    exact hk7 _ _ _ hw _ _ hH _ (lv_sub hl [1, 0] rfl)
theorem lw_X2_forgetRating_7 {p : Program} {l : Launch} {e : Env} {s : State} {m : MethodId} {args : Array Value} {below : List Frame} {meth : Method} {c : Code} {g : mG} {Q : mmS → Prop} {X : String → mmS → Prop} (hl0 : l.stackTraces = false) (hC : CallFix p m c cX2_forgetRating 2 s args (wA_ yX2_forgetRating cX2_forgetRating 2 none) RX2) (hrt : meth.sig.returnType = none) (hlk : meth.locks = false) (hmn : meth.name = yX2_forgetRating.name) (hnx : ∀ x ∈ c.exceptionTable.toList, False) (hs : mX g s) : ∀ (n : Nat) (S : mmS) (x0 : Nat) (x1 : Int32), lp_X2_forgetRating_7 g.2.2.2.2.2 Q X n S x0 x1 → ∀ (H : Heap) (locs : List Loc), mH g S s H locs → ∀ ls : Array Slot, lv_has ls 2 [(0, .ref x0), (1, .int x1)] → W p l e rm_X2_forgetRating s m args below meth c H locs 0 0 (vx_MQ below (va_Qv Q (wO g) (mB g)) (vx_X (fun _ : mmS => True) (fun E S1 t => X E S1 ∧ wO g S1 t) (mB g)) args s rm_X2_forgetRating.cells rm_X2_forgetRating.slots (mB g)) (F0 m 7 ls []) := by
  intro n
  induction n with
  | zero => intro S x0 x1 hw; exact False.elim hw
  | succ n ih => exact fun S x0 x1 hw => bw_X2_forgetRating_7 hl0 hC hrt hlk hmn hnx hs (K7 := lp_X2_forgetRating_7 g.2.2.2.2.2 Q X n) ih S x0 x1 hw
set_option maxHeartbeats 4000000 in
set_option maxRecDepth 100000 in
theorem met_X2_forgetRating (l : Launch) (hl0 : l.stackTraces = false) (g : mG) (S : mmS) (p0 : Nat) (Q : mmS → Prop) (X : String → mmS → Prop) (hw : wp_X2_forgetRating g.2.2.2.2.2 S p0 Q X) : mMv l g yX2_forgetRating (wA_ yX2_forgetRating cX2_forgetRating 2 none) rm_X2_forgetRating [.ref p0] S Q X := by
  refine m_of (y := yX2_forgetRating) (cc := cX2_forgetRating) (maxL := 2) (ret := none) (by decide) rfl (Nat.le_of_ble_eq_true rfl) ?_
  intro p e s m args below meth c ls hC hrt hlk hmn hnx hs hH hl
  have hC : CallFix p m c cX2_forgetRating 2 s args (wA_ yX2_forgetRating cX2_forgetRating 2 none) RX2 := hC
  have hl : lv_has ls 2 [(0, .ref p0)] := hl
  unfold wp_X2_forgetRating at hw
  refine lv_aload_n hC.1 hC.2.1 dX2_forgetRating_0 rfl (lv_at hl 0 rfl) ?_
  refine lv_iconst (v := 0) hC.1 hC.2.1 dX2_forgetRating_1 (by decide) ?_
  obtain ⟨k1, hw⟩ := hw
  have hw := hw _ rfl
  refine m_putI hC hs hH cs2 fs2_2 (fun _ h => List.mem_cons_of_mem _ (inlX2 _ h)) (List.mem_cons_of_mem _ q_225) (fun _ h => h) (Or.inl rfl) rfl k1 dX2_forgetRating_2 (fun H locs hH => ?_)
  refine lv_iconst (v := 1) hC.1 hC.2.1 dX2_forgetRating_5 (by decide) ?_
  have hw := hw _ rfl
  refine lv_istore_n (lv' := [(1, .int _), (0, .ref _)]) hC.1 hC.2.1 dX2_forgetRating_6 rfl hl (by decide) rfl (fun ls hl => ?_)
  obtain ⟨n, hw⟩ := hw
  exact lw_X2_forgetRating_7 hl0 hC hrt hlk hmn hnx hs n _ _ _ hw _ _ hH _ (lv_sub hl [1, 0] rfl)
abbrev rm_X2_beginsFeeDay : Room := { frames := 1, cells := 0, slots := 0, locals := 0 }
def wp_X2_beginsFeeDay (z : Nat × Nat) (S : mmS) (p0 : Nat) (p1 : Int32) (p2 : Int32) (Q : Int32 → mmS → Prop) (X : String → mmS → Prop) : Prop := (p0 ∈ mL S ∧ mK S p0 = 2) ∧ ∃ b2 : Nat, mR S 4 p0 = some b2 ∧ (b2 ∈ mL S ∧ mK S b2 = 7) ∧ vp_in p1 (mN S b2) ∧ (¬ (mA S b2 (p1).toNatClampNeg) = p2 → ∃ b6 : Nat, mR S 4 p0 = some b6 ∧ (b6 ∈ mL S ∧ mK S b6 = 7) ∧ vp_in p1 (mN S b6) ∧ ∀ S10 : mmS, S10 = sA S b6 (p1).toNatClampNeg p2 → ∃ b11 : Nat, mR S10 5 p0 = some b11 ∧ (b11 ∈ mL S10 ∧ mK S10 b11 = 7) ∧ vp_in p1 (mN S10 b11) ∧ ∀ S15 : mmS, S15 = sA S10 b11 (p1).toNatClampNeg (1800 : Int32) → ∃ b16 : Nat, mR S15 3 p0 = some b16 ∧ (b16 ∈ mL S15 ∧ mK S15 b16 = 7) ∧ vp_in p1 (mN S15 b16) ∧ vp_in p1 (mN S15 b16) ∧ ∀ S21 : mmS, S21 = sA S15 b16 (p1).toNatClampNeg ((mA S15 b16 (p1).toNatClampNeg) + (1 : Int32)) → Q (1 : Int32) S21) ∧ ((mA S b2 (p1).toNatClampNeg) = p2 → Q (0 : Int32) S)
set_option maxHeartbeats 4000000 in
set_option maxRecDepth 100000 in
theorem met_X2_beginsFeeDay (l : Launch) (hl0 : l.stackTraces = false) (g : mG) (S : mmS) (p0 : Nat) (p1 : Int32) (p2 : Int32) (Q : Int32 → mmS → Prop) (X : String → mmS → Prop) (hw : wp_X2_beginsFeeDay g.2.2.2.2.2 S p0 p1 p2 Q X) : mMi l g yX2_beginsFeeDay (wA_ yX2_beginsFeeDay cX2_beginsFeeDay 3 (some .boolean)) rm_X2_beginsFeeDay [.ref p0, .int p1, .int p2] S Q X := by
  refine m_of (y := yX2_beginsFeeDay) (cc := cX2_beginsFeeDay) (maxL := 3) (ret := (some .boolean)) (by decide) rfl (Nat.le_of_ble_eq_true rfl) ?_
  intro p e s m args below meth c ls hC hrt hlk hmn hnx hs hH hl
  have hC : CallFix p m c cX2_beginsFeeDay 3 s args (wA_ yX2_beginsFeeDay cX2_beginsFeeDay 3 (some .boolean)) RX2 := hC
  have hl : lv_has ls 3 [(0, .ref p0), (1, .int p1), (2, .int p2)] := hl
  unfold wp_X2_beginsFeeDay at hw
  refine lv_aload_n hC.1 hC.2.1 dX2_beginsFeeDay_0 rfl (lv_at hl 0 rfl) ?_
  obtain ⟨k1, hw⟩ := hw
  obtain ⟨b2, r3, hw⟩ := hw
  refine m_getR hC hs hH cs2 fs2_4 (fun _ h => List.mem_cons_of_mem _ (inlX2 _ h)) (List.mem_cons_of_mem _ q_227) (fun _ h => h) k1 r3 dX2_beginsFeeDay_1 ?_
  refine lv_iload_n hC.1 hC.2.1 dX2_beginsFeeDay_4 rfl (lv_at hl 1 rfl) ?_
  obtain ⟨k4, hw⟩ := hw
  obtain ⟨i5, hw⟩ := hw
  refine m_iald hC hs hH k4 i5 dX2_beginsFeeDay_5 ?_
  refine lv_iload_n hC.1 hC.2.1 dX2_beginsFeeDay_6 rfl (lv_at hl 2 rfl) ?_
  refine lv_icmp_ne (tgt := 12) hC.1 hC.2.1 dX2_beginsFeeDay_7 (by decide) (fun hc => ?_) (fun hc => ?_)
  · have hw := hw.1 hc
    refine lv_aload_n hC.1 hC.2.1 dX2_beginsFeeDay_12 rfl (lv_at hl 0 rfl) ?_
    obtain ⟨b6, r7, hw⟩ := hw
    refine m_getR hC hs hH cs2 fs2_4 (fun _ h => List.mem_cons_of_mem _ (inlX2 _ h)) (List.mem_cons_of_mem _ q_227) (fun _ h => h) k1 r7 dX2_beginsFeeDay_13 ?_
    refine lv_iload_n hC.1 hC.2.1 dX2_beginsFeeDay_16 rfl (lv_at hl 1 rfl) ?_
    refine lv_iload_n hC.1 hC.2.1 dX2_beginsFeeDay_17 rfl (lv_at hl 2 rfl) ?_
    obtain ⟨k8, hw⟩ := hw
    obtain ⟨i9, hw⟩ := hw
    have hw := hw _ rfl
    refine m_iast hC hs hH k8 i9 dX2_beginsFeeDay_18 (fun H locs hH => ?_)
    refine lv_aload_n hC.1 hC.2.1 dX2_beginsFeeDay_19 rfl (lv_at hl 0 rfl) ?_
    obtain ⟨b11, r12, hw⟩ := hw
    refine m_getR hC hs hH cs2 fs2_5 (fun _ h => List.mem_cons_of_mem _ (inlX2 _ h)) (List.mem_cons_of_mem _ q_281) (fun _ h => h) k1 r12 dX2_beginsFeeDay_20 ?_
    refine lv_iload_n hC.1 hC.2.1 dX2_beginsFeeDay_23 rfl (lv_at hl 1 rfl) ?_
    refine lv_sipush (v := 1800) hC.1 hC.2.1 dX2_beginsFeeDay_24 (by decide) ?_
    obtain ⟨k13, hw⟩ := hw
    obtain ⟨i14, hw⟩ := hw
    have hw := hw _ rfl
    refine m_iast hC hs hH k13 i14 dX2_beginsFeeDay_27 (fun H locs hH => ?_)
    refine lv_aload_n hC.1 hC.2.1 dX2_beginsFeeDay_28 rfl (lv_at hl 0 rfl) ?_
    obtain ⟨b16, r17, hw⟩ := hw
    refine m_getR hC hs hH cs2 fs2_3 (fun _ h => List.mem_cons_of_mem _ (inlX2 _ h)) (List.mem_cons_of_mem _ q_226) (fun _ h => h) k1 r17 dX2_beginsFeeDay_29 ?_
    refine lv_iload_n hC.1 hC.2.1 dX2_beginsFeeDay_32 rfl (lv_at hl 1 rfl) ?_
    refine lv_dup2_11 hC.1 hC.2.1 dX2_beginsFeeDay_33 rfl rfl ?_
    obtain ⟨k18, hw⟩ := hw
    obtain ⟨i19, hw⟩ := hw
    refine m_iald hC hs hH k18 i19 dX2_beginsFeeDay_34 ?_
    refine lv_iconst (v := 1) hC.1 hC.2.1 dX2_beginsFeeDay_35 (by decide) ?_
    refine lv_iadd hC.1 hC.2.1 dX2_beginsFeeDay_36 ?_
    obtain ⟨i20, hw⟩ := hw
    have hw := hw _ rfl
    refine m_iast hC hs hH k18 i20 dX2_beginsFeeDay_37 (fun H locs hH => ?_)
    refine lv_iconst (v := 1) hC.1 hC.2.1 dX2_beginsFeeDay_38 (by decide) ?_
    exact m_reti hC hH hrt rfl hlk (Nat.le_of_ble_eq_true rfl) (Nat.le_of_ble_eq_true rfl) dX2_beginsFeeDay_39 hw
  · have hw := hw.2 hc
    refine lv_iconst (v := 0) hC.1 hC.2.1 dX2_beginsFeeDay_10 (by decide) ?_
    exact m_reti hC hH hrt rfl hlk (Nat.le_of_ble_eq_true rfl) (Nat.le_of_ble_eq_true rfl) dX2_beginsFeeDay_11 hw
abbrev rm_X2_takeFreeOfDay : Room := { frames := 1, cells := 0, slots := 0, locals := 24 }
def wp_X2_takeFreeOfDay (z : Nat × Nat) (S : mmS) (p0 : Nat) (p1 : Int32) (p2 : Int32) (Q : Int32 → mmS → Prop) (X : String → mmS → Prop) : Prop := (p0 ∈ mL S ∧ mK S p0 = 2) ∧ ∃ b2 : Nat, mR S 5 p0 = some b2 ∧ (b2 ∈ mL S ∧ mK S b2 = 7) ∧ vp_in p1 (mN S b2) ∧ ∀ v6 : Int32, v6 = (if p2 < (mA S b2 (p1).toNatClampNeg) then p2 else (mA S b2 (p1).toNatClampNeg)) → ∃ b7 : Nat, mR S 5 p0 = some b7 ∧ (b7 ∈ mL S ∧ mK S b7 = 7) ∧ vp_in p1 (mN S b7) ∧ vp_in p1 (mN S b7) ∧ ∀ S12 : mmS, S12 = sA S b7 (p1).toNatClampNeg ((mA S b7 (p1).toNatClampNeg) - v6) → Q v6 S12
set_option maxHeartbeats 4000000 in
set_option maxRecDepth 100000 in
theorem met_X2_takeFreeOfDay (l : Launch) (hl0 : l.stackTraces = false) (g : mG) (S : mmS) (p0 : Nat) (p1 : Int32) (p2 : Int32) (Q : Int32 → mmS → Prop) (X : String → mmS → Prop) (hw : wp_X2_takeFreeOfDay g.2.2.2.2.2 S p0 p1 p2 Q X) : mMi l g yX2_takeFreeOfDay (wA_ yX2_takeFreeOfDay cX2_takeFreeOfDay 4 (some .int)) rm_X2_takeFreeOfDay [.ref p0, .int p1, .int p2] S Q X := by
  refine m_of (y := yX2_takeFreeOfDay) (cc := cX2_takeFreeOfDay) (maxL := 4) (ret := (some .int)) (by decide) rfl (Nat.le_of_ble_eq_true rfl) ?_
  intro p e s m args below meth c ls hC hrt hlk hmn hnx hs hH hl
  have hC : CallFix p m c cX2_takeFreeOfDay 4 s args (wA_ yX2_takeFreeOfDay cX2_takeFreeOfDay 4 (some .int)) RX2 := hC
  have hl : lv_has ls 4 [(0, .ref p0), (1, .int p1), (2, .int p2)] := hl
  unfold wp_X2_takeFreeOfDay at hw
  refine lv_aload_n hC.1 hC.2.1 dX2_takeFreeOfDay_0 rfl (lv_at hl 0 rfl) ?_
  obtain ⟨k1, hw⟩ := hw
  obtain ⟨b2, r3, hw⟩ := hw
  refine m_getR hC hs hH cs2 fs2_5 (fun _ h => List.mem_cons_of_mem _ (inlX2 _ h)) (List.mem_cons_of_mem _ q_281) (fun _ h => h) k1 r3 dX2_takeFreeOfDay_1 ?_
  refine lv_iload_n hC.1 hC.2.1 dX2_takeFreeOfDay_4 rfl (lv_at hl 1 rfl) ?_
  obtain ⟨k4, hw⟩ := hw
  obtain ⟨i5, hw⟩ := hw
  refine m_iald hC hs hH k4 i5 dX2_takeFreeOfDay_5 ?_
  refine lv_iload_n hC.1 hC.2.1 dX2_takeFreeOfDay_6 rfl (lv_at hl 2 rfl) ?_
  refine m_min hC hl.1 (List.mem_cons_of_mem _ q_286) (List.mem_cons_of_mem _ q_143) (List.mem_cons_of_mem _ q_117) (List.mem_cons_of_mem _ q_144) (Nat.le_of_ble_eq_true rfl) (Nat.le_of_ble_eq_true rfl) (Nat.le_of_ble_eq_true rfl) (Nat.le_of_ble_eq_true rfl) dX2_takeFreeOfDay_7 ?_
  have hw := hw _ rfl
  refine lv_istore_n (lv' := [(3, .int _), (0, .ref _), (1, .int _), (2, .int _)]) hC.1 hC.2.1 dX2_takeFreeOfDay_10 rfl hl (by decide) rfl (fun ls hl => ?_)
  refine lv_aload_n hC.1 hC.2.1 dX2_takeFreeOfDay_11 rfl (lv_at hl 1 rfl) ?_
  obtain ⟨b7, r8, hw⟩ := hw
  refine m_getR hC hs hH cs2 fs2_5 (fun _ h => List.mem_cons_of_mem _ (inlX2 _ h)) (List.mem_cons_of_mem _ q_281) (fun _ h => h) k1 r8 dX2_takeFreeOfDay_12 ?_
  refine lv_iload_n hC.1 hC.2.1 dX2_takeFreeOfDay_15 rfl (lv_at hl 2 rfl) ?_
  refine lv_dup2_11 hC.1 hC.2.1 dX2_takeFreeOfDay_16 rfl rfl ?_
  obtain ⟨k9, hw⟩ := hw
  obtain ⟨i10, hw⟩ := hw
  refine m_iald hC hs hH k9 i10 dX2_takeFreeOfDay_17 ?_
  refine lv_iload_n hC.1 hC.2.1 dX2_takeFreeOfDay_18 rfl (lv_at hl 0 rfl) ?_
  refine lv_isub hC.1 hC.2.1 dX2_takeFreeOfDay_19 ?_
  obtain ⟨i11, hw⟩ := hw
  have hw := hw _ rfl
  refine m_iast hC hs hH k9 i11 dX2_takeFreeOfDay_20 (fun H locs hH => ?_)
  refine lv_iload_n hC.1 hC.2.1 dX2_takeFreeOfDay_21 rfl (lv_at hl 0 rfl) ?_
  exact m_reti hC hH hrt rfl hlk (Nat.le_of_ble_eq_true rfl) (Nat.le_of_ble_eq_true rfl) dX2_takeFreeOfDay_22 hw
abbrev rm_X3_init : Room := { frames := 1, cells := 2, slots := 6, locals := 24 }
def wp_X3_init (z : Nat × Nat) (S : mmS) (p0 : Nat) (p1 : Int32) (p2 : Int32) (p3 : Int32) (p4 : Int32) (p5 : Int32) (p6 : Int32) (Q : mmS → Prop) (X : String → mmS → Prop) : Prop := ∀ q1 : Nat, q1 ∉ mL S → ∀ S3 : mmS, S3 = sNa S q1 3 → (p0 ∈ mL S3 ∧ mK S3 p0 = 3) ∧ ∀ S5 : mmS, S5 = sR S3 6 p0 (some q1) → ∀ q6 : Nat, q6 ∉ mL S5 → ∀ S8 : mmS, S8 = sNa S5 q6 3 → ∀ S9 : mmS, S9 = sR S8 7 p0 (some q6) → ∀ S10 : mmS, S10 = sI S9 15 p0 p1 → ∀ S11 : mmS, S11 = sI S10 16 p0 p2 → ∀ S12 : mmS, S12 = sI S11 17 p0 p3 → ∀ S13 : mmS, S13 = sI S12 18 p0 p4 → ∀ S14 : mmS, S14 = sI S13 19 p0 p5 → ∀ S15 : mmS, S15 = sI S14 20 p0 p6 → Q S15
set_option maxHeartbeats 4000000 in
set_option maxRecDepth 100000 in
theorem met_X3_init (l : Launch) (hl0 : l.stackTraces = false) (g : mG) (S : mmS) (p0 : Nat) (p1 : Int32) (p2 : Int32) (p3 : Int32) (p4 : Int32) (p5 : Int32) (p6 : Int32) (Q : mmS → Prop) (X : String → mmS → Prop) (hw : wp_X3_init g.2.2.2.2.2 S p0 p1 p2 p3 p4 p5 p6 Q X) : mMv l g yX3_init (wA_ yX3_init cX3_init 7 none) rm_X3_init [.ref p0, .int p1, .int p2, .int p3, .int p4, .int p5, .int p6] S Q X := by
  refine m_of (y := yX3_init) (cc := cX3_init) (maxL := 7) (ret := none) (by decide) rfl (Nat.le_of_ble_eq_true rfl) ?_
  intro p e s m args below meth c ls hC hrt hlk hmn hnx hs hH hl
  have hC : CallFix p m c cX3_init 7 s args (wA_ yX3_init cX3_init 7 none) RX3 := hC
  have hl : lv_has ls 7 [(0, .ref p0), (1, .int p1), (2, .int p2), (3, .int p3), (4, .int p4), (5, .int p5), (6, .int p6)] := hl
  unfold wp_X3_init at hw
  refine lv_aload_n hC.1 hC.2.1 dX3_init_0 rfl (lv_at hl 0 rfl) ?_
  refine m_objInit hC hl.1 (List.mem_cons_of_mem _ q_88) (List.mem_cons_of_mem _ q_11) (List.mem_cons_of_mem _ q_12) (Nat.le_of_ble_eq_true rfl) (Nat.le_of_ble_eq_true rfl) dX3_init_1 ?_
  refine lv_aload_n hC.1 hC.2.1 dX3_init_4 rfl (lv_at hl 0 rfl) ?_
  refine lv_iconst (v := 3) hC.1 hC.2.1 dX3_init_5 (by decide) ?_
  refine m_newI (N' := 3) hC hs hH (List.mem_cons_of_mem _ q_42) (by decide) (by decide) (by decide) (Nat.le_of_ble_eq_true rfl) (Nat.le_of_ble_eq_true rfl) dX3_init_6 (fun q1 H f2 hH => ?_)
  have hw := hw q1 f2 _ rfl
  refine W.widen (k := 1) (n := 3) (Nat.le_of_ble_eq_true rfl) (Nat.le_of_ble_eq_true rfl) ?_
  obtain ⟨k4, hw⟩ := hw
  have hw := hw _ rfl
  refine m_putR hC hs hH cs3 fs3_6 (fun _ h => List.mem_cons_of_mem _ (inlX3 _ h)) (List.mem_cons_of_mem _ q_89) (fun _ h => h) (Or.inr ⟨rfl, hmn, rfl⟩) rfl rfl k4 dX3_init_8 (fun H locs hH => ?_)
  refine lv_aload_n hC.1 hC.2.1 dX3_init_11 rfl (lv_at hl 0 rfl) ?_
  refine lv_iconst (v := 3) hC.1 hC.2.1 dX3_init_12 (by decide) ?_
  refine m_newI (N' := 3) hC hs hH (List.mem_cons_of_mem _ q_42) (by decide) (by decide) (by decide) (Nat.le_of_ble_eq_true rfl) (Nat.le_of_ble_eq_true rfl) dX3_init_13 (fun q6 H f7 hH => ?_)
  have hw := hw q6 f7 _ rfl
  refine W.widen (k := 2) (n := 6) (Nat.le_of_ble_eq_true rfl) (Nat.le_of_ble_eq_true rfl) ?_
  have hw := hw _ rfl
  refine m_putR hC hs hH cs3 fs3_7 (fun _ h => List.mem_cons_of_mem _ (inlX3 _ h)) (List.mem_cons_of_mem _ q_90) (fun _ h => h) (Or.inr ⟨rfl, hmn, rfl⟩) rfl rfl (mkN k4 f7) dX3_init_15 (fun H locs hH => ?_)
  refine lv_aload_n hC.1 hC.2.1 dX3_init_18 rfl (lv_at hl 0 rfl) ?_
  refine lv_iload_n hC.1 hC.2.1 dX3_init_19 rfl (lv_at hl 1 rfl) ?_
  have hw := hw _ rfl
  refine m_putI hC hs hH cs3 fs3_0 (fun _ h => List.mem_cons_of_mem _ (inlX3 _ h)) (List.mem_cons_of_mem _ q_91) (fun _ h => h) (Or.inr ⟨rfl, hmn, rfl⟩) rfl (mkN k4 f7) dX3_init_20 (fun H locs hH => ?_)
  refine lv_aload_n hC.1 hC.2.1 dX3_init_23 rfl (lv_at hl 0 rfl) ?_
  refine lv_iload_n hC.1 hC.2.1 dX3_init_24 rfl (lv_at hl 2 rfl) ?_
  have hw := hw _ rfl
  refine m_putI hC hs hH cs3 fs3_1 (fun _ h => List.mem_cons_of_mem _ (inlX3 _ h)) (List.mem_cons_of_mem _ q_92) (fun _ h => h) (Or.inr ⟨rfl, hmn, rfl⟩) rfl (mkN k4 f7) dX3_init_25 (fun H locs hH => ?_)
  refine lv_aload_n hC.1 hC.2.1 dX3_init_28 rfl (lv_at hl 0 rfl) ?_
  refine lv_iload_n hC.1 hC.2.1 dX3_init_29 rfl (lv_at hl 3 rfl) ?_
  have hw := hw _ rfl
  refine m_putI hC hs hH cs3 fs3_2 (fun _ h => List.mem_cons_of_mem _ (inlX3 _ h)) (List.mem_cons_of_mem _ q_93) (fun _ h => h) (Or.inr ⟨rfl, hmn, rfl⟩) rfl (mkN k4 f7) dX3_init_30 (fun H locs hH => ?_)
  refine lv_aload_n hC.1 hC.2.1 dX3_init_33 rfl (lv_at hl 0 rfl) ?_
  refine lv_iload hC.1 hC.2.1 dX3_init_34 (lv_at hl 4 rfl) ?_
  have hw := hw _ rfl
  refine m_putI hC hs hH cs3 fs3_3 (fun _ h => List.mem_cons_of_mem _ (inlX3 _ h)) (List.mem_cons_of_mem _ q_94) (fun _ h => h) (Or.inr ⟨rfl, hmn, rfl⟩) rfl (mkN k4 f7) dX3_init_36 (fun H locs hH => ?_)
  refine lv_aload_n hC.1 hC.2.1 dX3_init_39 rfl (lv_at hl 0 rfl) ?_
  refine lv_iload hC.1 hC.2.1 dX3_init_40 (lv_at hl 5 rfl) ?_
  have hw := hw _ rfl
  refine m_putI hC hs hH cs3 fs3_4 (fun _ h => List.mem_cons_of_mem _ (inlX3 _ h)) (List.mem_cons_of_mem _ q_95) (fun _ h => h) (Or.inr ⟨rfl, hmn, rfl⟩) rfl (mkN k4 f7) dX3_init_42 (fun H locs hH => ?_)
  refine lv_aload_n hC.1 hC.2.1 dX3_init_45 rfl (lv_at hl 0 rfl) ?_
  refine lv_iload hC.1 hC.2.1 dX3_init_46 (lv_at hl 6 rfl) ?_
  have hw := hw _ rfl
  refine m_putI hC hs hH cs3 fs3_5 (fun _ h => List.mem_cons_of_mem _ (inlX3 _ h)) (List.mem_cons_of_mem _ q_96) (fun _ h => h) (Or.inr ⟨rfl, hmn, rfl⟩) rfl (mkN k4 f7) dX3_init_48 (fun H locs hH => ?_)
  exact m_retv hC hH hrt hlk (Nat.le_of_ble_eq_true rfl) (Nat.le_of_ble_eq_true rfl) dX3_init_51 hw
abbrev rm_X3_billedFor : Room := { frames := 1, cells := 0, slots := 0, locals := 0 }
def wp_X3_billedFor (z : Nat × Nat) (S : mmS) (p0 : Nat) (p1 : Int32) (Q : Int32 → mmS → Prop) (X : String → mmS → Prop) : Prop := (p0 ∈ mL S ∧ mK S p0 = 3) ∧ (p1 ≤ (mI S 19 p0) → Q (mI S 19 p0) S) ∧ (¬ p1 ≤ (mI S 19 p0) → ((1 : Int32) ≤ (mI S 20 p0) → ¬ (mI S 20 p0) = 0 ∧ ∀ v3 : Int32, v3 = ((((p1 - (mI S 19 p0)) + (mI S 20 p0)) - (1 : Int32)) / (mI S 20 p0)) → Q ((mI S 19 p0) + (v3 * (mI S 20 p0))) S) ∧ (¬ (1 : Int32) ≤ (mI S 20 p0) → Q (mI S 19 p0) S))
set_option maxHeartbeats 4000000 in
set_option maxRecDepth 100000 in
theorem met_X3_billedFor (l : Launch) (hl0 : l.stackTraces = false) (g : mG) (S : mmS) (p0 : Nat) (p1 : Int32) (Q : Int32 → mmS → Prop) (X : String → mmS → Prop) (hw : wp_X3_billedFor g.2.2.2.2.2 S p0 p1 Q X) : mMi l g yX3_billedFor (wA_ yX3_billedFor cX3_billedFor 3 (some .int)) rm_X3_billedFor [.ref p0, .int p1] S Q X := by
  refine m_of (y := yX3_billedFor) (cc := cX3_billedFor) (maxL := 3) (ret := (some .int)) (by decide) rfl (Nat.le_of_ble_eq_true rfl) ?_
  intro p e s m args below meth c ls hC hrt hlk hmn hnx hs hH hl
  have hC : CallFix p m c cX3_billedFor 3 s args (wA_ yX3_billedFor cX3_billedFor 3 (some .int)) RX3 := hC
  have hl : lv_has ls 3 [(0, .ref p0), (1, .int p1)] := hl
  unfold wp_X3_billedFor at hw
  refine lv_iload_n hC.1 hC.2.1 dX3_billedFor_0 rfl (lv_at hl 1 rfl) ?_
  refine lv_aload_n hC.1 hC.2.1 dX3_billedFor_1 rfl (lv_at hl 0 rfl) ?_
  obtain ⟨k1, hw⟩ := hw
  refine m_getI hC hs hH cs3 fs3_4 (fun _ h => List.mem_cons_of_mem _ (inlX3 _ h)) (List.mem_cons_of_mem _ q_95) (fun _ h => h) k1 dX3_billedFor_2 ?_
  refine lv_icmp_le (tgt := 16) hC.1 hC.2.1 dX3_billedFor_5 (by decide) (fun hc => ?_) (fun hc => ?_)
  · have hw := hw.1 hc
    refine lv_aload_n hC.1 hC.2.1 dX3_billedFor_16 rfl (lv_at hl 0 rfl) ?_
    refine m_getI hC hs hH cs3 fs3_4 (fun _ h => List.mem_cons_of_mem _ (inlX3 _ h)) (List.mem_cons_of_mem _ q_95) (fun _ h => h) k1 dX3_billedFor_17 ?_
    exact m_reti hC hH hrt rfl hlk (Nat.le_of_ble_eq_true rfl) (Nat.le_of_ble_eq_true rfl) dX3_billedFor_20 hw
  · have hw := hw.2 hc
    refine lv_aload_n hC.1 hC.2.1 dX3_billedFor_8 rfl (lv_at hl 0 rfl) ?_
    refine m_getI hC hs hH cs3 fs3_5 (fun _ h => List.mem_cons_of_mem _ (inlX3 _ h)) (List.mem_cons_of_mem _ q_96) (fun _ h => h) k1 dX3_billedFor_9 ?_
    refine lv_iconst (v := 1) hC.1 hC.2.1 dX3_billedFor_12 (by decide) ?_
    refine lv_icmp_ge (tgt := 21) hC.1 hC.2.1 dX3_billedFor_13 (by decide) (fun hc => ?_) (fun hc => ?_)
    · have hw := hw.1 hc
      refine lv_iload_n hC.1 hC.2.1 dX3_billedFor_21 rfl (lv_at hl 1 rfl) ?_
      refine lv_aload_n hC.1 hC.2.1 dX3_billedFor_22 rfl (lv_at hl 0 rfl) ?_
      refine m_getI hC hs hH cs3 fs3_4 (fun _ h => List.mem_cons_of_mem _ (inlX3 _ h)) (List.mem_cons_of_mem _ q_95) (fun _ h => h) k1 dX3_billedFor_23 ?_
      refine lv_isub hC.1 hC.2.1 dX3_billedFor_26 ?_
      refine lv_aload_n hC.1 hC.2.1 dX3_billedFor_27 rfl (lv_at hl 0 rfl) ?_
      refine m_getI hC hs hH cs3 fs3_5 (fun _ h => List.mem_cons_of_mem _ (inlX3 _ h)) (List.mem_cons_of_mem _ q_96) (fun _ h => h) k1 dX3_billedFor_28 ?_
      refine lv_iadd hC.1 hC.2.1 dX3_billedFor_31 ?_
      refine lv_iconst (v := 1) hC.1 hC.2.1 dX3_billedFor_32 (by decide) ?_
      refine lv_isub hC.1 hC.2.1 dX3_billedFor_33 ?_
      refine lv_aload_n hC.1 hC.2.1 dX3_billedFor_34 rfl (lv_at hl 0 rfl) ?_
      refine m_getI hC hs hH cs3 fs3_5 (fun _ h => List.mem_cons_of_mem _ (inlX3 _ h)) (List.mem_cons_of_mem _ q_96) (fun _ h => h) k1 dX3_billedFor_35 ?_
      obtain ⟨z2, hw⟩ := hw
      refine lv_idiv hC.1 hC.2.1 dX3_billedFor_38 z2 ?_
      have hw := hw _ rfl
      refine lv_istore_n (lv' := [(2, .int _), (0, .ref _), (1, .int _)]) hC.1 hC.2.1 dX3_billedFor_39 rfl hl (by decide) rfl (fun ls hl => ?_)
      refine lv_aload_n hC.1 hC.2.1 dX3_billedFor_40 rfl (lv_at hl 1 rfl) ?_
      refine m_getI hC hs hH cs3 fs3_4 (fun _ h => List.mem_cons_of_mem _ (inlX3 _ h)) (List.mem_cons_of_mem _ q_95) (fun _ h => h) k1 dX3_billedFor_41 ?_
      refine lv_iload_n hC.1 hC.2.1 dX3_billedFor_44 rfl (lv_at hl 0 rfl) ?_
      refine lv_aload_n hC.1 hC.2.1 dX3_billedFor_45 rfl (lv_at hl 1 rfl) ?_
      refine m_getI hC hs hH cs3 fs3_5 (fun _ h => List.mem_cons_of_mem _ (inlX3 _ h)) (List.mem_cons_of_mem _ q_96) (fun _ h => h) k1 dX3_billedFor_46 ?_
      refine lv_imul hC.1 hC.2.1 dX3_billedFor_49 ?_
      refine lv_iadd hC.1 hC.2.1 dX3_billedFor_50 ?_
      exact m_reti hC hH hrt rfl hlk (Nat.le_of_ble_eq_true rfl) (Nat.le_of_ble_eq_true rfl) dX3_billedFor_51 hw
    · have hw := hw.2 hc
      refine lv_aload_n hC.1 hC.2.1 dX3_billedFor_16 rfl (lv_at hl 0 rfl) ?_
      refine m_getI hC hs hH cs3 fs3_4 (fun _ h => List.mem_cons_of_mem _ (inlX3 _ h)) (List.mem_cons_of_mem _ q_95) (fun _ h => h) k1 dX3_billedFor_17 ?_
      exact m_reti hC hH hrt rfl hlk (Nat.le_of_ble_eq_true rfl) (Nat.le_of_ble_eq_true rfl) dX3_billedFor_20 hw
abbrev rm_X3_chargeFor : Room := { frames := 1, cells := 0, slots := 0, locals := 0 }
def wp_X3_chargeFor (z : Nat × Nat) (S : mmS) (p0 : Nat) (p1 : Int32) (p2 : Int32) (Q : Int32 → mmS → Prop) (X : String → mmS → Prop) : Prop := (0 < p1 → (p0 ∈ mL S ∧ mK S p0 = 3) ∧ Q ((mI S 16 p0) + ((((p1 * p2) + (60 : Int32)) - (1 : Int32)) / (60 : Int32))) S) ∧ (¬ 0 < p1 → Q (0 : Int32) S)
set_option maxHeartbeats 4000000 in
set_option maxRecDepth 100000 in
theorem met_X3_chargeFor (l : Launch) (hl0 : l.stackTraces = false) (g : mG) (S : mmS) (p0 : Nat) (p1 : Int32) (p2 : Int32) (Q : Int32 → mmS → Prop) (X : String → mmS → Prop) (hw : wp_X3_chargeFor g.2.2.2.2.2 S p0 p1 p2 Q X) : mMi l g yX3_chargeFor (wA_ yX3_chargeFor cX3_chargeFor 3 (some .int)) rm_X3_chargeFor [.ref p0, .int p1, .int p2] S Q X := by
  refine m_of (y := yX3_chargeFor) (cc := cX3_chargeFor) (maxL := 3) (ret := (some .int)) (by decide) rfl (Nat.le_of_ble_eq_true rfl) ?_
  intro p e s m args below meth c ls hC hrt hlk hmn hnx hs hH hl
  have hC : CallFix p m c cX3_chargeFor 3 s args (wA_ yX3_chargeFor cX3_chargeFor 3 (some .int)) RX3 := hC
  have hl : lv_has ls 3 [(0, .ref p0), (1, .int p1), (2, .int p2)] := hl
  unfold wp_X3_chargeFor at hw
  refine lv_iload_n hC.1 hC.2.1 dX3_chargeFor_0 rfl (lv_at hl 1 rfl) ?_
  refine lv_if_gt (tgt := 6) hC.1 hC.2.1 dX3_chargeFor_1 (by decide) (fun hc => ?_) (fun hc => ?_)
  · have hw := hw.1 hc
    refine lv_aload_n hC.1 hC.2.1 dX3_chargeFor_6 rfl (lv_at hl 0 rfl) ?_
    obtain ⟨k1, hw⟩ := hw
    refine m_getI hC hs hH cs3 fs3_1 (fun _ h => List.mem_cons_of_mem _ (inlX3 _ h)) (List.mem_cons_of_mem _ q_92) (fun _ h => h) k1 dX3_chargeFor_7 ?_
    refine lv_iload_n hC.1 hC.2.1 dX3_chargeFor_10 rfl (lv_at hl 1 rfl) ?_
    refine lv_iload_n hC.1 hC.2.1 dX3_chargeFor_11 rfl (lv_at hl 2 rfl) ?_
    refine lv_imul hC.1 hC.2.1 dX3_chargeFor_12 ?_
    refine lv_bipush (v := 60) hC.1 hC.2.1 dX3_chargeFor_13 (by decide) ?_
    refine lv_iadd hC.1 hC.2.1 dX3_chargeFor_15 ?_
    refine lv_iconst (v := 1) hC.1 hC.2.1 dX3_chargeFor_16 (by decide) ?_
    refine lv_isub hC.1 hC.2.1 dX3_chargeFor_17 ?_
    refine lv_bipush (v := 60) hC.1 hC.2.1 dX3_chargeFor_18 (by decide) ?_
    refine lv_idiv hC.1 hC.2.1 dX3_chargeFor_20 (by decide) ?_
    refine lv_iadd hC.1 hC.2.1 dX3_chargeFor_21 ?_
    exact m_reti hC hH hrt rfl hlk (Nat.le_of_ble_eq_true rfl) (Nat.le_of_ble_eq_true rfl) dX3_chargeFor_22 hw
  · have hw := hw.2 hc
    refine lv_iconst (v := 0) hC.1 hC.2.1 dX3_chargeFor_4 (by decide) ?_
    exact m_reti hC hH hrt rfl hlk (Nat.le_of_ble_eq_true rfl) (Nat.le_of_ble_eq_true rfl) dX3_chargeFor_5 hw
end
section
/-! 11.jdk: weakest preconditions and walks, laid by wip/whole/gen.py -/
abbrev rm_Jxa1e45_init_da8c8 : Room := { frames := 1, cells := 0, slots := 0, locals := 24 }
def wp_Jxa1e45_init_da8c8 (z : Nat × Nat) (S : mmS) (p0 : Nat) (Q : mmS → Prop) (X : String → mmS → Prop) : Prop := Q S
set_option maxHeartbeats 4000000 in
set_option maxRecDepth 100000 in
theorem met_Jxa1e45_init_da8c8 (l : Launch) (hl0 : l.stackTraces = false) (g : mG) (S : mmS) (p0 : Nat) (Q : mmS → Prop) (X : String → mmS → Prop) (hw : wp_Jxa1e45_init_da8c8 g.2.2.2.2.2 S p0 Q X) : mMv l g yJxa1e45_init_da8c8 (wA_ yJxa1e45_init_da8c8 cJxa1e45_init_da8c8 1 none) rm_Jxa1e45_init_da8c8 [.ref p0] S Q X := by
  refine m_of (y := yJxa1e45_init_da8c8) (cc := cJxa1e45_init_da8c8) (maxL := 1) (ret := none) (by decide) rfl (Nat.le_of_ble_eq_true rfl) ?_
  intro p e s m args below meth c ls hC hrt hlk hmn hnx hs hH hl
  have hC : CallFix p m c cJxa1e45_init_da8c8 1 s args (wA_ yJxa1e45_init_da8c8 cJxa1e45_init_da8c8 1 none) RJxa1e45 := hC
  have hl : lv_has ls 1 [(0, .ref p0)] := hl
  unfold wp_Jxa1e45_init_da8c8 at hw
  refine lv_aload_n hC.1 hC.2.1 dJxa1e45_init_da8c8_0 rfl (lv_at hl 0 rfl) ?_
  refine m_objInit hC hl.1 (List.mem_cons_of_mem _ q_37) (List.mem_cons_of_mem _ q_11) (List.mem_cons_of_mem _ q_12) (Nat.le_of_ble_eq_true rfl) (Nat.le_of_ble_eq_true rfl) dJxa1e45_init_da8c8_1 ?_
  exact m_retv hC hH hrt hlk (Nat.le_of_ble_eq_true rfl) (Nat.le_of_ble_eq_true rfl) dJxa1e45_init_da8c8_4 hw
abbrev rm_Jxc12de_init_da8c8 : Room := { frames := 2, cells := 0, slots := 0, locals := 44 }
def wp_Jxc12de_init_da8c8 (z : Nat × Nat) (S : mmS) (p0 : Nat) (Q : mmS → Prop) (X : String → mmS → Prop) : Prop := wp_Jxa1e45_init_da8c8 z S p0 (fun S1 => (p0 ∈ mL S1 ∧ mK S1 p0 = 6) ∧ ∀ S3 : mmS, S3 = sI S1 30 p0 (0 : Int32) → Q S3) X
set_option maxHeartbeats 4000000 in
set_option maxRecDepth 100000 in
theorem met_Jxc12de_init_da8c8 (l : Launch) (hl0 : l.stackTraces = false) (g : mG) (S : mmS) (p0 : Nat) (Q : mmS → Prop) (X : String → mmS → Prop) (hw : wp_Jxc12de_init_da8c8 g.2.2.2.2.2 S p0 Q X) : mMv l g yJxc12de_init_da8c8 (wA_ yJxc12de_init_da8c8 cJxc12de_init_da8c8 1 none) rm_Jxc12de_init_da8c8 [.ref p0] S Q X := by
  refine m_of (y := yJxc12de_init_da8c8) (cc := cJxc12de_init_da8c8) (maxL := 1) (ret := none) (by decide) rfl (Nat.le_of_ble_eq_true rfl) ?_
  intro p e s m args below meth c ls hC hrt hlk hmn hnx hs hH hl
  have hC : CallFix p m c cJxc12de_init_da8c8 1 s args (wA_ yJxc12de_init_da8c8 cJxc12de_init_da8c8 1 none) RJxc12de := hC
  have hl : lv_has ls 1 [(0, .ref p0)] := hl
  unfold wp_Jxc12de_init_da8c8 at hw
  refine lv_aload_n hC.1 hC.2.1 dJxc12de_init_da8c8_0 rfl (lv_at hl 0 rfl) ?_
  refine m_callIv (y := yJxa1e45_init_da8c8) (rest := []) hC hs hH hl.1 (cwI 0 hC.2.2.2.2 (gA0 q_36) rfl rfl rfl (hC.2.2.2.2 _ (List.mem_cons_of_mem _ q_35)) (hC.2.2.2.2 _ (List.mem_cons_of_mem _ q_33)) (hC.2.2.2.2 _ (List.mem_cons_of_mem _ q_34)) rfl (by decide +kernel) ⟨Nat.le_of_ble_eq_true rfl, Nat.le_of_ble_eq_true rfl⟩) (met_Jxa1e45_init_da8c8 l hl0 g _ _ _ _ hw) rfl rfl (Nat.le_of_ble_eq_true rfl) dJxc12de_init_da8c8_1 ⟨Nat.le_of_ble_eq_true rfl, Nat.le_of_ble_eq_true rfl⟩ (m_out (fun x hx => (hnx x hx).elim) hlk (Nat.le_of_ble_eq_true rfl) (Nat.le_of_ble_eq_true rfl)) (fun S1 H locs hw hH => ?_)
  refine W.widen (k := 0) (n := 0) (Nat.le_of_ble_eq_true rfl) (Nat.le_of_ble_eq_true rfl) ?_
  refine lv_aload_n hC.1 hC.2.1 dJxc12de_init_da8c8_4 rfl (lv_at hl 0 rfl) ?_
  refine lv_iconst (v := 0) hC.1 hC.2.1 dJxc12de_init_da8c8_5 (by decide) ?_
  obtain ⟨k2, hw⟩ := hw
  have hw := hw _ rfl
  refine m_putI hC hs hH cs6 fs6_0 (fun _ h => List.mem_cons_of_mem _ (inlJx4a65c _ h)) (List.mem_cons_of_mem _ q_32) (fun _ h => h) (Or.inl rfl) rfl k2 dJxc12de_init_da8c8_6 (fun H locs hH => ?_)
  exact m_retv hC hH hrt hlk (Nat.le_of_ble_eq_true rfl) (Nat.le_of_ble_eq_true rfl) dJxc12de_init_da8c8_9 hw
abbrev rm_Jx4a65c_init_da8c8 : Room := { frames := 3, cells := 0, slots := 0, locals := 64 }
def wp_Jx4a65c_init_da8c8 (z : Nat × Nat) (S : mmS) (p0 : Nat) (Q : mmS → Prop) (X : String → mmS → Prop) : Prop := wp_Jxc12de_init_da8c8 z S p0 (fun S1 => (p0 ∈ mL S1 ∧ mK S1 p0 = 6) ∧ ∀ S3 : mmS, S3 = sR S1 25 p0 (some (z.1)) → Q S3) X
set_option maxHeartbeats 4000000 in
set_option maxRecDepth 100000 in
theorem met_Jx4a65c_init_da8c8 (l : Launch) (hl0 : l.stackTraces = false) (g : mG) (S : mmS) (p0 : Nat) (Q : mmS → Prop) (X : String → mmS → Prop) (hw : wp_Jx4a65c_init_da8c8 g.2.2.2.2.2 S p0 Q X) : mMv l g yJx4a65c_init_da8c8 (wA_ yJx4a65c_init_da8c8 cJx4a65c_init_da8c8 1 none) rm_Jx4a65c_init_da8c8 [.ref p0] S Q X := by
  refine m_of (y := yJx4a65c_init_da8c8) (cc := cJx4a65c_init_da8c8) (maxL := 1) (ret := none) (by decide) rfl (Nat.le_of_ble_eq_true rfl) ?_
  intro p e s m args below meth c ls hC hrt hlk hmn hnx hs hH hl
  have hC : CallFix p m c cJx4a65c_init_da8c8 1 s args (wA_ yJx4a65c_init_da8c8 cJx4a65c_init_da8c8 1 none) RJx4a65c := hC
  have hl : lv_has ls 1 [(0, .ref p0)] := hl
  unfold wp_Jx4a65c_init_da8c8 at hw
  refine lv_aload_n hC.1 hC.2.1 dJx4a65c_init_da8c8_0 rfl (lv_at hl 0 rfl) ?_
  refine m_callIv (y := yJxc12de_init_da8c8) (rest := []) hC hs hH hl.1 (cwI 0 hC.2.2.2.2 (gA0 q_31) rfl rfl rfl (hC.2.2.2.2 _ (List.mem_cons_of_mem _ q_30)) (hC.2.2.2.2 _ (List.mem_cons_of_mem _ q_28)) (hC.2.2.2.2 _ (List.mem_cons_of_mem _ q_29)) rfl (by decide +kernel) ⟨Nat.le_of_ble_eq_true rfl, Nat.le_of_ble_eq_true rfl⟩) (met_Jxc12de_init_da8c8 l hl0 g _ _ _ _ hw) rfl rfl (Nat.le_of_ble_eq_true rfl) dJx4a65c_init_da8c8_1 ⟨Nat.le_of_ble_eq_true rfl, Nat.le_of_ble_eq_true rfl⟩ (m_out (fun x hx => (hnx x hx).elim) hlk (Nat.le_of_ble_eq_true rfl) (Nat.le_of_ble_eq_true rfl)) (fun S1 H locs hw hH => ?_)
  refine W.widen (k := 0) (n := 0) (Nat.le_of_ble_eq_true rfl) (Nat.le_of_ble_eq_true rfl) ?_
  refine lv_aload_n hC.1 hC.2.1 dJx4a65c_init_da8c8_4 rfl (lv_at hl 0 rfl) ?_
  refine m_gets0 hC hs hH (List.mem_cons_of_mem _ q_26) (fun _ h => h) dJx4a65c_init_da8c8_5 ?_
  obtain ⟨k2, hw⟩ := hw
  have hw := hw _ rfl
  refine m_putR hC hs hH cs6 fs6_1 (fun _ h => List.mem_cons_of_mem _ (inlJx4a65c _ h)) (List.mem_cons_of_mem _ q_27) (fun _ h => h) (Or.inl rfl) rfl rfl k2 dJx4a65c_init_da8c8_8 (fun H locs hH => ?_)
  exact m_retv hC hH hrt hlk (Nat.le_of_ble_eq_true rfl) (Nat.le_of_ble_eq_true rfl) dJx4a65c_init_da8c8_11 hw
abbrev rm_Jx4a65c_size_8abf5 : Room := { frames := 1, cells := 0, slots := 0, locals := 0 }
def wp_Jx4a65c_size_8abf5 (z : Nat × Nat) (S : mmS) (p0 : Nat) (Q : Int32 → mmS → Prop) (X : String → mmS → Prop) : Prop := (p0 ∈ mL S ∧ mK S p0 = 6) ∧ Q (mI S 31 p0) S
set_option maxHeartbeats 4000000 in
set_option maxRecDepth 100000 in
theorem met_Jx4a65c_size_8abf5 (l : Launch) (hl0 : l.stackTraces = false) (g : mG) (S : mmS) (p0 : Nat) (Q : Int32 → mmS → Prop) (X : String → mmS → Prop) (hw : wp_Jx4a65c_size_8abf5 g.2.2.2.2.2 S p0 Q X) : mMi l g yJx4a65c_size_8abf5 (wA_ yJx4a65c_size_8abf5 cJx4a65c_size_8abf5 1 (some .int)) rm_Jx4a65c_size_8abf5 [.ref p0] S Q X := by
  refine m_of (y := yJx4a65c_size_8abf5) (cc := cJx4a65c_size_8abf5) (maxL := 1) (ret := (some .int)) (by decide) rfl (Nat.le_of_ble_eq_true rfl) ?_
  intro p e s m args below meth c ls hC hrt hlk hmn hnx hs hH hl
  have hC : CallFix p m c cJx4a65c_size_8abf5 1 s args (wA_ yJx4a65c_size_8abf5 cJx4a65c_size_8abf5 1 (some .int)) RJx4a65c := hC
  have hl : lv_has ls 1 [(0, .ref p0)] := hl
  unfold wp_Jx4a65c_size_8abf5 at hw
  refine lv_aload_n hC.1 hC.2.1 dJx4a65c_size_8abf5_0 rfl (lv_at hl 0 rfl) ?_
  obtain ⟨k1, hw⟩ := hw
  refine m_getI hC hs hH cs6 fs6_2 (fun _ h => List.mem_cons_of_mem _ (inlJx4a65c _ h)) (List.mem_cons_of_mem _ q_84) (fun _ h => h) k1 dJx4a65c_size_8abf5_1 ?_
  exact m_reti hC hH hrt rfl hlk (Nat.le_of_ble_eq_true rfl) (Nat.le_of_ble_eq_true rfl) dJx4a65c_size_8abf5_4 hw
abbrev rm_J3_checkIndex_8e157 : Room := { frames := 1, cells := 0, slots := 0, locals := 0 }
def wp_J3_checkIndex_8e157 (z : Nat × Nat) (S : mmS) (p0 : Int32) (p1 : Int32) (Q : Int32 → mmS → Prop) (X : String → mmS → Prop) : Prop := (p0 < 0 → False) ∧ (¬ p0 < 0 → (p0 < p1 → Q p0 S) ∧ (¬ p0 < p1 → False))
set_option maxHeartbeats 4000000 in
set_option maxRecDepth 100000 in
theorem met_J3_checkIndex_8e157 (l : Launch) (hl0 : l.stackTraces = false) (g : mG) (S : mmS) (p0 : Int32) (p1 : Int32) (Q : Int32 → mmS → Prop) (X : String → mmS → Prop) (hw : wp_J3_checkIndex_8e157 g.2.2.2.2.2 S p0 p1 Q X) : mMi l g yJ3_checkIndex_8e157 (wA_ yJ3_checkIndex_8e157 cJ3_checkIndex_8e157 3 (some .int)) rm_J3_checkIndex_8e157 [.int p0, .int p1, .null] S Q X := by
  refine m_of (y := yJ3_checkIndex_8e157) (cc := cJ3_checkIndex_8e157) (maxL := 3) (ret := (some .int)) (by decide) rfl (Nat.le_of_ble_eq_true rfl) ?_
  intro p e s m args below meth c ls hC hrt hlk hmn hnx hs hH hl
  have hC : CallFix p m c cJ3_checkIndex_8e157 3 s args (wA_ yJ3_checkIndex_8e157 cJ3_checkIndex_8e157 3 (some .int)) RJ3 := hC
  have hl : lv_has ls 3 [(0, .int p0), (1, .int p1), (2, .null)] := hl
  unfold wp_J3_checkIndex_8e157 at hw
  refine lv_iload_n hC.1 hC.2.1 dJ3_checkIndex_8e157_0 rfl (lv_at hl 0 rfl) ?_
  refine lv_if_lt (tgt := 9) hC.1 hC.2.1 dJ3_checkIndex_8e157_1 (by decide) (fun hc => ?_) (fun hc => ?_)
  · have hw := hw.1 hc
    exact False.elim hw
  · have hw := hw.2 hc
    refine lv_iload_n hC.1 hC.2.1 dJ3_checkIndex_8e157_4 rfl (lv_at hl 0 rfl) ?_
    refine lv_iload_n hC.1 hC.2.1 dJ3_checkIndex_8e157_5 rfl (lv_at hl 1 rfl) ?_
    refine lv_icmp_lt (tgt := 16) hC.1 hC.2.1 dJ3_checkIndex_8e157_6 (by decide) (fun hc => ?_) (fun hc => ?_)
    · have hw := hw.1 hc
      refine lv_iload_n hC.1 hC.2.1 dJ3_checkIndex_8e157_16 rfl (lv_at hl 0 rfl) ?_
      exact m_reti hC hH hrt rfl hlk (Nat.le_of_ble_eq_true rfl) (Nat.le_of_ble_eq_true rfl) dJ3_checkIndex_8e157_17 hw
    · have hw := hw.2 hc
      exact False.elim hw
abbrev rm_J15_checkIndex_7cf53 : Room := { frames := 2, cells := 0, slots := 0, locals := 22 }
def wp_J15_checkIndex_7cf53 (z : Nat × Nat) (S : mmS) (p0 : Int32) (p1 : Int32) (Q : Int32 → mmS → Prop) (X : String → mmS → Prop) : Prop := wp_J3_checkIndex_8e157 z S p0 p1 (fun r2 S1 => Q r2 S1) X
set_option maxHeartbeats 4000000 in
set_option maxRecDepth 100000 in
theorem met_J15_checkIndex_7cf53 (l : Launch) (hl0 : l.stackTraces = false) (g : mG) (S : mmS) (p0 : Int32) (p1 : Int32) (Q : Int32 → mmS → Prop) (X : String → mmS → Prop) (hw : wp_J15_checkIndex_7cf53 g.2.2.2.2.2 S p0 p1 Q X) : mMi l g yJ15_checkIndex_7cf53 (wA_ yJ15_checkIndex_7cf53 cJ15_checkIndex_7cf53 2 (some .int)) rm_J15_checkIndex_7cf53 [.int p0, .int p1] S Q X := by
  refine m_of (y := yJ15_checkIndex_7cf53) (cc := cJ15_checkIndex_7cf53) (maxL := 2) (ret := (some .int)) (by decide) rfl (Nat.le_of_ble_eq_true rfl) ?_
  intro p e s m args below meth c ls hC hrt hlk hmn hnx hs hH hl
  have hC : CallFix p m c cJ15_checkIndex_7cf53 2 s args (wA_ yJ15_checkIndex_7cf53 cJ15_checkIndex_7cf53 2 (some .int)) RJ15 := hC
  have hl : lv_has ls 2 [(0, .int p0), (1, .int p1)] := hl
  unfold wp_J15_checkIndex_7cf53 at hw
  refine lv_iload_n hC.1 hC.2.1 dJ15_checkIndex_7cf53_0 rfl (lv_at hl 0 rfl) ?_
  refine lv_iload_n hC.1 hC.2.1 dJ15_checkIndex_7cf53_1 rfl (lv_at hl 1 rfl) ?_
  refine lv_null hC.1 hC.2.1 dJ15_checkIndex_7cf53_2 ?_
  refine m_callSi (y := yJ3_checkIndex_8e157) (rest := []) hC hs hH hl.1 (va_cwS 3 hC.2.2.2.2 (gA_S q_192 q_193 q_194 q_195) rfl rfl rfl (by decide +kernel) ⟨Nat.le_of_ble_eq_true rfl, Nat.le_of_ble_eq_true rfl⟩) (met_J3_checkIndex_8e157 l hl0 g _ _ _ _ _ hw) rfl rfl (Nat.le_of_ble_eq_true rfl) dJ15_checkIndex_7cf53_3 ⟨Nat.le_of_ble_eq_true rfl, Nat.le_of_ble_eq_true rfl⟩ (m_out (fun x hx => (hnx x hx).elim) hlk (Nat.le_of_ble_eq_true rfl) (Nat.le_of_ble_eq_true rfl)) (fun r2 S1 H locs hw hH => ?_)
  refine W.widen (k := 0) (n := 0) (Nat.le_of_ble_eq_true rfl) (Nat.le_of_ble_eq_true rfl) ?_
  exact m_reti hC hH hrt rfl hlk (Nat.le_of_ble_eq_true rfl) (Nat.le_of_ble_eq_true rfl) dJ15_checkIndex_7cf53_6 hw
abbrev rm_Jx4a65c_elementData_915e3 : Room := { frames := 1, cells := 0, slots := 0, locals := 0 }
def wp_Jx4a65c_elementData_915e3 (z : Nat × Nat) (S : mmS) (p0 : Nat) (p1 : Int32) (Q : Nat → mmS → Prop) (X : String → mmS → Prop) : Prop := (p0 ∈ mL S ∧ mK S p0 = 6) ∧ ∃ b2 : Nat, mR S 25 p0 = some b2 ∧ (b2 ∈ mL S ∧ mK S b2 = 8) ∧ vp_in p1 (mN S b2) ∧ ∃ b6 : Nat, mQ S b2 (p1).toNatClampNeg = some b6 ∧ Q b6 S
set_option maxHeartbeats 4000000 in
set_option maxRecDepth 100000 in
theorem met_Jx4a65c_elementData_915e3 (l : Launch) (hl0 : l.stackTraces = false) (g : mG) (S : mmS) (p0 : Nat) (p1 : Int32) (Q : Nat → mmS → Prop) (X : String → mmS → Prop) (hw : wp_Jx4a65c_elementData_915e3 g.2.2.2.2.2 S p0 p1 Q X) : mMq l g yJx4a65c_elementData_915e3 (wA_ yJx4a65c_elementData_915e3 cJx4a65c_elementData_915e3 2 (some (.object "java/lang/Object"))) rm_Jx4a65c_elementData_915e3 [.ref p0, .int p1] S Q X := by
  refine m_of (y := yJx4a65c_elementData_915e3) (cc := cJx4a65c_elementData_915e3) (maxL := 2) (ret := (some (.object "java/lang/Object"))) (by decide) rfl (Nat.le_of_ble_eq_true rfl) ?_
  intro p e s m args below meth c ls hC hrt hlk hmn hnx hs hH hl
  have hC : CallFix p m c cJx4a65c_elementData_915e3 2 s args (wA_ yJx4a65c_elementData_915e3 cJx4a65c_elementData_915e3 2 (some (.object "java/lang/Object"))) RJx4a65c := hC
  have hl : lv_has ls 2 [(0, .ref p0), (1, .int p1)] := hl
  unfold wp_Jx4a65c_elementData_915e3 at hw
  refine lv_aload_n hC.1 hC.2.1 dJx4a65c_elementData_915e3_0 rfl (lv_at hl 0 rfl) ?_
  obtain ⟨k1, hw⟩ := hw
  obtain ⟨b2, r3, hw⟩ := hw
  refine m_getR hC hs hH cs6 fs6_1 (fun _ h => List.mem_cons_of_mem _ (inlJx4a65c _ h)) (List.mem_cons_of_mem _ q_27) (fun _ h => h) k1 r3 dJx4a65c_elementData_915e3_1 ?_
  refine lv_iload_n hC.1 hC.2.1 dJx4a65c_elementData_915e3_4 rfl (lv_at hl 1 rfl) ?_
  obtain ⟨k4, hw⟩ := hw
  obtain ⟨i5, b6, r7, hw⟩ := hw
  refine m_qald hC hs hH k4 i5 r7 dJx4a65c_elementData_915e3_5 ?_
  exact m_retq hC hH hrt (Or.inl ⟨_, rfl⟩) hlk (Nat.le_of_ble_eq_true rfl) (Nat.le_of_ble_eq_true rfl) dJx4a65c_elementData_915e3_6 hw
abbrev rm_Jx4a65c_get_915e3 : Room := { frames := 3, cells := 0, slots := 0, locals := 43 }
def wp_Jx4a65c_get_915e3 (z : Nat × Nat) (S : mmS) (p0 : Nat) (p1 : Int32) (Q : Nat → mmS → Prop) (X : String → mmS → Prop) : Prop := (p0 ∈ mL S ∧ mK S p0 = 6) ∧ wp_J15_checkIndex_7cf53 z S p1 (mI S 31 p0) (fun r3 S2 => (p0 ∈ mL S2 ∧ mK S2 p0 = 6) ∧ wp_Jx4a65c_elementData_915e3 z S2 p0 p1 (fun r6 S4 => Q r6 S4) X) X
set_option maxHeartbeats 4000000 in
set_option maxRecDepth 100000 in
theorem met_Jx4a65c_get_915e3 (l : Launch) (hl0 : l.stackTraces = false) (g : mG) (S : mmS) (p0 : Nat) (p1 : Int32) (Q : Nat → mmS → Prop) (X : String → mmS → Prop) (hw : wp_Jx4a65c_get_915e3 g.2.2.2.2.2 S p0 p1 Q X) : mMq l g yJx4a65c_get_915e3 (wA_ yJx4a65c_get_915e3 cJx4a65c_get_915e3 2 (some (.object "java/lang/Object"))) rm_Jx4a65c_get_915e3 [.ref p0, .int p1] S Q X := by
  refine m_of (y := yJx4a65c_get_915e3) (cc := cJx4a65c_get_915e3) (maxL := 2) (ret := (some (.object "java/lang/Object"))) (by decide) rfl (Nat.le_of_ble_eq_true rfl) ?_
  intro p e s m args below meth c ls hC hrt hlk hmn hnx hs hH hl
  have hC : CallFix p m c cJx4a65c_get_915e3 2 s args (wA_ yJx4a65c_get_915e3 cJx4a65c_get_915e3 2 (some (.object "java/lang/Object"))) RJx4a65c := hC
  have hl : lv_has ls 2 [(0, .ref p0), (1, .int p1)] := hl
  unfold wp_Jx4a65c_get_915e3 at hw
  refine lv_iload_n hC.1 hC.2.1 dJx4a65c_get_915e3_0 rfl (lv_at hl 1 rfl) ?_
  refine lv_aload_n hC.1 hC.2.1 dJx4a65c_get_915e3_1 rfl (lv_at hl 0 rfl) ?_
  obtain ⟨k1, hw⟩ := hw
  refine m_getI hC hs hH cs6 fs6_2 (fun _ h => List.mem_cons_of_mem _ (inlJx4a65c _ h)) (List.mem_cons_of_mem _ q_84) (fun _ h => h) k1 dJx4a65c_get_915e3_2 ?_
  refine m_callSi (y := yJ15_checkIndex_7cf53) (rest := []) hC hs hH hl.1 (va_cwS 2 hC.2.2.2.2 (gA_S q_188 q_189 q_190 q_191) rfl rfl rfl (by decide +kernel) ⟨Nat.le_of_ble_eq_true rfl, Nat.le_of_ble_eq_true rfl⟩) (met_J15_checkIndex_7cf53 l hl0 g _ _ _ _ _ hw) rfl rfl (Nat.le_of_ble_eq_true rfl) dJx4a65c_get_915e3_5 ⟨Nat.le_of_ble_eq_true rfl, Nat.le_of_ble_eq_true rfl⟩ (m_out (fun x hx => (hnx x hx).elim) hlk (Nat.le_of_ble_eq_true rfl) (Nat.le_of_ble_eq_true rfl)) (fun r3 S1 H locs hw hH => ?_)
  refine W.widen (k := 0) (n := 0) (Nat.le_of_ble_eq_true rfl) (Nat.le_of_ble_eq_true rfl) ?_
  refine lv_pop hC.1 hC.2.1 dJx4a65c_get_915e3_8 rfl ?_
  refine lv_aload_n hC.1 hC.2.1 dJx4a65c_get_915e3_9 rfl (lv_at hl 0 rfl) ?_
  refine lv_iload_n hC.1 hC.2.1 dJx4a65c_get_915e3_10 rfl (lv_at hl 1 rfl) ?_
  obtain ⟨k5, hw⟩ := hw
  refine m_callVq (y := yJx4a65c_elementData_915e3) (rest := []) hC hs hH hl.1 (cwV 1 hC.2.2.2.2 (gA_V q_196 q_197 q_198 q_15 q_199) rfl rfl rfl (by decide +kernel) ⟨Nat.le_of_ble_eq_true rfl, Nat.le_of_ble_eq_true rfl⟩) cs6 k5 (met_Jx4a65c_elementData_915e3 l hl0 g _ _ _ _ _ hw) rfl rfl (Nat.le_of_ble_eq_true rfl) dJx4a65c_get_915e3_11 ⟨Nat.le_of_ble_eq_true rfl, Nat.le_of_ble_eq_true rfl⟩ (m_out (fun x hx => (hnx x hx).elim) hlk (Nat.le_of_ble_eq_true rfl) (Nat.le_of_ble_eq_true rfl)) (fun r6 S1 H locs hw hH => ?_)
  refine W.widen (k := 0) (n := 0) (Nat.le_of_ble_eq_true rfl) (Nat.le_of_ble_eq_true rfl) ?_
  exact m_retq hC hH hrt (Or.inl ⟨_, rfl⟩) hlk (Nat.le_of_ble_eq_true rfl) (Nat.le_of_ble_eq_true rfl) dJx4a65c_get_915e3_14 hw
abbrev rm_J8_newLength_cabcc : Room := { frames := 1, cells := 0, slots := 0, locals := 24 }
def wp_J8_newLength_cabcc (z : Nat × Nat) (S : mmS) (p0 : Int32) (p1 : Int32) (p2 : Int32) (Q : Int32 → mmS → Prop) (X : String → mmS → Prop) : Prop := ∀ v1 : Int32, v1 = (p0 + (if p1 < p2 then p2 else p1)) → (v1 ≤ (0 : Int32) → False) ∧ (¬ v1 ≤ (0 : Int32) → ((2147483639 : Int32) < v1 → False) ∧ (¬ (2147483639 : Int32) < v1 → Q v1 S))
set_option maxHeartbeats 4000000 in
set_option maxRecDepth 100000 in
theorem met_J8_newLength_cabcc (l : Launch) (hl0 : l.stackTraces = false) (g : mG) (S : mmS) (p0 : Int32) (p1 : Int32) (p2 : Int32) (Q : Int32 → mmS → Prop) (X : String → mmS → Prop) (hw : wp_J8_newLength_cabcc g.2.2.2.2.2 S p0 p1 p2 Q X) : mMi l g yJ8_newLength_cabcc (wA_ yJ8_newLength_cabcc cJ8_newLength_cabcc 4 (some .int)) rm_J8_newLength_cabcc [.int p0, .int p1, .int p2] S Q X := by
  refine m_of (y := yJ8_newLength_cabcc) (cc := cJ8_newLength_cabcc) (maxL := 4) (ret := (some .int)) (by decide) rfl (Nat.le_of_ble_eq_true rfl) ?_
  intro p e s m args below meth c ls hC hrt hlk hmn hnx hs hH hl
  have hC : CallFix p m c cJ8_newLength_cabcc 4 s args (wA_ yJ8_newLength_cabcc cJ8_newLength_cabcc 4 (some .int)) RJ8 := hC
  have hl : lv_has ls 4 [(0, .int p0), (1, .int p1), (2, .int p2)] := hl
  unfold wp_J8_newLength_cabcc at hw
  refine lv_iload_n hC.1 hC.2.1 dJ8_newLength_cabcc_0 rfl (lv_at hl 0 rfl) ?_
  refine lv_iload_n hC.1 hC.2.1 dJ8_newLength_cabcc_1 rfl (lv_at hl 1 rfl) ?_
  refine lv_iload_n hC.1 hC.2.1 dJ8_newLength_cabcc_2 rfl (lv_at hl 2 rfl) ?_
  refine m_max hC hl.1 (List.mem_cons_of_mem _ q_124) (List.mem_cons_of_mem _ q_116) (List.mem_cons_of_mem _ q_117) (List.mem_cons_of_mem _ q_118) (Nat.le_of_ble_eq_true rfl) (Nat.le_of_ble_eq_true rfl) (Nat.le_of_ble_eq_true rfl) (Nat.le_of_ble_eq_true rfl) dJ8_newLength_cabcc_3 ?_
  refine lv_iadd hC.1 hC.2.1 dJ8_newLength_cabcc_6 ?_
  have hw := hw _ rfl
  refine lv_istore_n (lv' := [(3, .int _), (0, .int _), (1, .int _), (2, .int _)]) hC.1 hC.2.1 dJ8_newLength_cabcc_7 rfl hl (by decide) rfl (fun ls hl => ?_)
  refine lv_iconst (v := 0) hC.1 hC.2.1 dJ8_newLength_cabcc_8 (by decide) ?_
  refine lv_iload_n hC.1 hC.2.1 dJ8_newLength_cabcc_9 rfl (lv_at hl 0 rfl) ?_
  refine lv_icmp_ge (tgt := 21) hC.1 hC.2.1 dJ8_newLength_cabcc_10 (by decide) (fun hc => ?_) (fun hc => ?_)
  · have hw := hw.1 hc
    exact False.elim hw
  · have hw := hw.2 hc
    refine lv_iload_n hC.1 hC.2.1 dJ8_newLength_cabcc_13 rfl (lv_at hl 0 rfl) ?_
    refine lv_ldc hC.1 hC.2.1 hC.2.2.2.1 (hC.2.2.2.2 _ (List.mem_cons_of_mem _ q_125)) dJ8_newLength_cabcc_14 ?_
    refine lv_icmp_gt (tgt := 21) hC.1 hC.2.1 dJ8_newLength_cabcc_16 (by decide) (fun hc => ?_) (fun hc => ?_)
    · have hw := hw.1 hc
      exact False.elim hw
    · have hw := hw.2 hc
      refine lv_iload_n hC.1 hC.2.1 dJ8_newLength_cabcc_19 rfl (lv_at hl 0 rfl) ?_
      exact m_reti hC hH hrt rfl hlk (Nat.le_of_ble_eq_true rfl) (Nat.le_of_ble_eq_true rfl) dJ8_newLength_cabcc_20 hw
abbrev rm_J7_copyOf_6403c : Room := { frames := 1, cells := 1, slots := 128, locals := 40 }
def wp_J7_copyOf_6403c (z : Nat × Nat) (S : mmS) (p0 : Nat) (p1 : Int32) (p2 : Nat) (Q : Nat → mmS → Prop) (X : String → mmS → Prop) : Prop := (¬ p2 = (z.2) → False) ∧ (p2 = (z.2) → (¬ p1 < 0 ∧ (p1).toNatClampNeg ≤ 128) ∧ ∀ q1 : Nat, q1 ∉ mL S → ∀ S3 : mmS, S3 = sNq S q1 (p1).toNatClampNeg → mLn z S3 p0 ∧ (p0 ∈ mL S3 ∧ mK S3 p0 = 8) ∧ (¬ (0 : Int32) < 0 ∧ ¬ (0 : Int32) < 0 ∧ ¬ (if p1 < (mLen z S3 p0) then p1 else (mLen z S3 p0)) < 0 ∧ ((0 : Int32)).toNatClampNeg + (if p1 < (mLen z S3 p0) then p1 else (mLen z S3 p0)).toNatClampNeg ≤ mN S3 p0 ∧ ((0 : Int32)).toNatClampNeg + (if p1 < (mLen z S3 p0) then p1 else (mLen z S3 p0)).toNatClampNeg ≤ mN S3 q1) ∧ (∀ i : Nat, i < (if p1 < (mLen z S3 p0) then p1 else (mLen z S3 p0)).toNatClampNeg → ∀ y : Nat, mQ S3 p0 (((0 : Int32)).toNatClampNeg + i) = some y → mOb S3 y) ∧ ∀ S8 : mmS, S8 = sQr S3 q1 (va_cpy (mQ S3 p0) (mQ S3 q1) ((0 : Int32)).toNatClampNeg ((0 : Int32)).toNatClampNeg (if p1 < (mLen z S3 p0) then p1 else (mLen z S3 p0)).toNatClampNeg) → Q q1 S8)
set_option maxHeartbeats 4000000 in
set_option maxRecDepth 100000 in
theorem met_J7_copyOf_6403c (l : Launch) (hl0 : l.stackTraces = false) (g : mG) (S : mmS) (p0 : Nat) (p1 : Int32) (p2 : Nat) (Q : Nat → mmS → Prop) (X : String → mmS → Prop) (hw : wp_J7_copyOf_6403c g.2.2.2.2.2 S p0 p1 p2 Q X) : mMq l g yJ7_copyOf_6403c (wA_ yJ7_copyOf_6403c cJ7_copyOf_6403c 4 (some (.array (.object "java/lang/Object")))) rm_J7_copyOf_6403c [.ref p0, .int p1, .ref p2] S Q X := by
  refine m_of (y := yJ7_copyOf_6403c) (cc := cJ7_copyOf_6403c) (maxL := 4) (ret := (some (.array (.object "java/lang/Object")))) (by decide) rfl (Nat.le_of_ble_eq_true rfl) ?_
  intro p e s m args below meth c ls hC hrt hlk hmn hnx hs hH hl
  have hC : CallFix p m c cJ7_copyOf_6403c 4 s args (wA_ yJ7_copyOf_6403c cJ7_copyOf_6403c 4 (some (.array (.object "java/lang/Object")))) RJ7 := hC
  have hl : lv_has ls 4 [(0, .ref p0), (1, .int p1), (2, .ref p2)] := hl
  unfold wp_J7_copyOf_6403c at hw
  refine lv_aload_n hC.1 hC.2.1 dJ7_copyOf_6403c_0 rfl (lv_at hl 2 rfl) ?_
  refine m_ldcM hC hs (List.mem_cons_of_mem _ q_140) dJ7_copyOf_6403c_1 ?_
  refine m_acmp_ne (tgt := 13) hC dJ7_copyOf_6403c_3 (by decide) (fun hc => ?_) (fun hc => ?_)
  · have hw := hw.1 hc
    exact False.elim hw
  · have hw := hw.2 hc
    refine lv_iload_n hC.1 hC.2.1 dJ7_copyOf_6403c_6 rfl (lv_at hl 1 rfl) ?_
    obtain ⟨n4, hw⟩ := hw
    refine m_newQ hC hs hH (List.mem_cons_of_mem _ q_141) n4.1 rfl (by have := n4.2; omega) (Nat.le_of_ble_eq_true rfl) (by have := n4.2; exact Nat.le_trans (Nat.add_le_add_left this _) (Nat.le_of_ble_eq_true rfl)) dJ7_copyOf_6403c_7 (fun q1 H f2 hH => ?_)
    refine W.widen (k := 1) (n := 128) (Nat.le_refl _) (Nat.add_le_add_left n4.2 _) ?_
    have hw := hw q1 f2 _ rfl
    refine lv_goto (tgt := 24) hC.1 hC.2.1 dJ7_copyOf_6403c_10 (by decide) ?_
    refine lv_astore_n (lv' := [(3, .ref _), (0, .ref _), (1, .int _), (2, .ref _)]) hC.1 hC.2.1 dJ7_copyOf_6403c_24 rfl hl (by decide) rfl (fun ls hl => ?_)
    refine lv_aload_n hC.1 hC.2.1 dJ7_copyOf_6403c_25 rfl (lv_at hl 1 rfl) ?_
    refine lv_iconst (v := 0) hC.1 hC.2.1 dJ7_copyOf_6403c_26 (by decide) ?_
    refine lv_aload_n hC.1 hC.2.1 dJ7_copyOf_6403c_27 rfl (lv_at hl 0 rfl) ?_
    refine lv_iconst (v := 0) hC.1 hC.2.1 dJ7_copyOf_6403c_28 (by decide) ?_
    refine lv_aload_n hC.1 hC.2.1 dJ7_copyOf_6403c_29 rfl (lv_at hl 1 rfl) ?_
    obtain ⟨n5, hw⟩ := hw
    refine m_alenQ hC hs hH n5 dJ7_copyOf_6403c_30 ?_
    refine lv_iload_n hC.1 hC.2.1 dJ7_copyOf_6403c_31 rfl (lv_at hl 2 rfl) ?_
    refine m_min hC hl.1 (List.mem_cons_of_mem _ q_142) (List.mem_cons_of_mem _ q_143) (List.mem_cons_of_mem _ q_117) (List.mem_cons_of_mem _ q_144) (Nat.le_of_ble_eq_true rfl) (Nat.le_of_ble_eq_true rfl) (Nat.le_of_ble_eq_true rfl) (Nat.le_of_ble_eq_true rfl) dJ7_copyOf_6403c_32 ?_
    obtain ⟨k6, hw⟩ := hw
    obtain ⟨n7, hw⟩ := hw
    obtain ⟨n9, hw⟩ := hw
    have hw := hw _ rfl
    refine m_copyQ hC hs hH hl.1 (List.mem_cons_of_mem _ q_145) (List.mem_cons_of_mem _ q_146) (List.mem_cons_of_mem _ q_147) (List.mem_cons_of_mem _ q_148) k6 mkQ n7 (fun i hi y hy => mOb_any hs hH (n9 i hi y hy)) (Nat.le_of_ble_eq_true rfl) (by decide) dJ7_copyOf_6403c_35 (fun H locs hH => ?_)
    refine lv_aload_n hC.1 hC.2.1 dJ7_copyOf_6403c_38 rfl (lv_at hl 0 rfl) ?_
    exact m_retq hC hH hrt (Or.inr ⟨_, rfl⟩) hlk (Nat.le_of_ble_eq_true rfl) (Nat.le_of_ble_eq_true rfl) dJ7_copyOf_6403c_39 hw
abbrev rm_J7_copyOf_1904c : Room := { frames := 2, cells := 1, slots := 128, locals := 63 }
def wp_J7_copyOf_1904c (z : Nat × Nat) (S : mmS) (p0 : Nat) (p1 : Int32) (Q : Nat → mmS → Prop) (X : String → mmS → Prop) : Prop := (p0 ∈ mL S ∧ mK S p0 = 8) ∧ wp_J7_copyOf_6403c z S p0 p1 (z.2) (fun r3 S2 => Q r3 S2) X
set_option maxHeartbeats 4000000 in
set_option maxRecDepth 100000 in
theorem met_J7_copyOf_1904c (l : Launch) (hl0 : l.stackTraces = false) (g : mG) (S : mmS) (p0 : Nat) (p1 : Int32) (Q : Nat → mmS → Prop) (X : String → mmS → Prop) (hw : wp_J7_copyOf_1904c g.2.2.2.2.2 S p0 p1 Q X) : mMq l g yJ7_copyOf_1904c (wA_ yJ7_copyOf_1904c cJ7_copyOf_1904c 2 (some (.array (.object "java/lang/Object")))) rm_J7_copyOf_1904c [.ref p0, .int p1] S Q X := by
  refine m_of (y := yJ7_copyOf_1904c) (cc := cJ7_copyOf_1904c) (maxL := 2) (ret := (some (.array (.object "java/lang/Object")))) (by decide) rfl (Nat.le_of_ble_eq_true rfl) ?_
  intro p e s m args below meth c ls hC hrt hlk hmn hnx hs hH hl
  have hC : CallFix p m c cJ7_copyOf_1904c 2 s args (wA_ yJ7_copyOf_1904c cJ7_copyOf_1904c 2 (some (.array (.object "java/lang/Object")))) RJ7 := hC
  have hl : lv_has ls 2 [(0, .ref p0), (1, .int p1)] := hl
  unfold wp_J7_copyOf_1904c at hw
  refine lv_aload_n hC.1 hC.2.1 dJ7_copyOf_1904c_0 rfl (lv_at hl 0 rfl) ?_
  refine lv_iload_n hC.1 hC.2.1 dJ7_copyOf_1904c_1 rfl (lv_at hl 1 rfl) ?_
  refine lv_aload_n hC.1 hC.2.1 dJ7_copyOf_1904c_2 rfl (lv_at hl 0 rfl) ?_
  obtain ⟨k1, hw⟩ := hw
  refine m_getC hC hs hH hl.1 (List.mem_cons_of_mem _ q_133) (List.mem_cons_of_mem _ q_134) (List.mem_cons_of_mem _ q_135) (List.mem_cons_of_mem _ q_136) k1 (Nat.le_of_ble_eq_true rfl) (Nat.le_of_ble_eq_true rfl) dJ7_copyOf_1904c_3 ?_
  refine m_callSq (y := yJ7_copyOf_6403c) (rest := []) hC hs hH hl.1 (va_cwS 3 hC.2.2.2.2 (gA_S q_137 q_138 q_131 q_139) rfl rfl rfl (by decide +kernel) ⟨Nat.le_of_ble_eq_true rfl, Nat.le_of_ble_eq_true rfl⟩) (met_J7_copyOf_6403c l hl0 g _ _ _ _ _ _ hw) rfl rfl (Nat.le_of_ble_eq_true rfl) dJ7_copyOf_1904c_6 ⟨Nat.le_of_ble_eq_true rfl, Nat.le_of_ble_eq_true rfl⟩ (m_out (fun x hx => (hnx x hx).elim) hlk (Nat.le_of_ble_eq_true rfl) (Nat.le_of_ble_eq_true rfl)) (fun r3 S1 H locs hw hH => ?_)
  refine W.widen (k := 1) (n := 128) (Nat.le_of_ble_eq_true rfl) (Nat.le_of_ble_eq_true rfl) ?_
  exact m_retq hC hH hrt (Or.inr ⟨_, rfl⟩) hlk (Nat.le_of_ble_eq_true rfl) (Nat.le_of_ble_eq_true rfl) dJ7_copyOf_1904c_9 hw
abbrev rm_Jx4a65c_grow_92f84 : Room := { frames := 3, cells := 1, slots := 128, locals := 84 }
def bk_Jx4a65c_grow_92f84_20 (z : Nat × Nat) (Q : Nat → mmS → Prop) (X : String → mmS → Prop) (S : mmS) (x0 : Nat) (x1 : Int32) (x2 : Int32) : Prop := wp_J8_newLength_cabcc z S x2 (x1 - x2) (x2 >>> ((1 : Int32) &&& 31)) (fun r2 S1 => (x0 ∈ mL S1 ∧ mK S1 x0 = 6) ∧ ∃ b4 : Nat, mR S1 25 x0 = some b4 ∧ wp_J7_copyOf_1904c z S1 b4 r2 (fun r7 S6 => (x0 ∈ mL S6 ∧ mK S6 x0 = 6) ∧ ∀ S9 : mmS, S9 = sR S6 25 x0 (some r7) → Q r7 S9) X) X
def wp_Jx4a65c_grow_92f84 (z : Nat × Nat) (S : mmS) (p0 : Nat) (p1 : Int32) (Q : Nat → mmS → Prop) (X : String → mmS → Prop) : Prop := (p0 ∈ mL S ∧ mK S p0 = 6) ∧ ∃ b2 : Nat, mR S 25 p0 = some b2 ∧ mLn z S b2 ∧ ∀ v5 : Int32, v5 = (mLen z S b2) → (0 < v5 → bk_Jx4a65c_grow_92f84_20 z Q X S p0 p1 v5) ∧ (¬ 0 < v5 → ∃ b6 : Nat, mR S 25 p0 = some b6 ∧ (b6 = (z.1) → (¬ (if (10 : Int32) < p1 then p1 else (10 : Int32)) < 0 ∧ (if (10 : Int32) < p1 then p1 else (10 : Int32)).toNatClampNeg ≤ 128) ∧ ∀ q8 : Nat, q8 ∉ mL S → ∀ S10 : mmS, S10 = sNq S q8 (if (10 : Int32) < p1 then p1 else (10 : Int32)).toNatClampNeg → ∀ S12 : mmS, S12 = sR S10 25 p0 (some q8) → Q q8 S12) ∧ (¬ b6 = (z.1) → bk_Jx4a65c_grow_92f84_20 z Q X S p0 p1 v5))
set_option maxHeartbeats 4000000 in
set_option maxRecDepth 100000 in
theorem bw_Jx4a65c_grow_92f84_20 {p : Program} {l : Launch} {e : Env} {s : State} {m : MethodId} {args : Array Value} {below : List Frame} {meth : Method} {c : Code} {g : mG} {Q : Nat → mmS → Prop} {X : String → mmS → Prop} (hl0 : l.stackTraces = false) (hC : CallFix p m c cJx4a65c_grow_92f84 4 s args (wA_ yJx4a65c_grow_92f84 cJx4a65c_grow_92f84 4 (some (.array (.object "java/lang/Object")))) RJx4a65c) (hrt : meth.sig.returnType = (some (.array (.object "java/lang/Object")))) (hlk : meth.locks = false) (hmn : meth.name = yJx4a65c_grow_92f84.name) (hnx : ∀ x ∈ c.exceptionTable.toList, False) (hs : mX g s) : ∀ (S : mmS) (x0 : Nat) (x1 : Int32) (x2 : Int32), bk_Jx4a65c_grow_92f84_20 g.2.2.2.2.2 Q X S x0 x1 x2 → ∀ (H : Heap) (locs : List Loc), mH g S s H locs → ∀ ls : Array Slot, lv_has ls 4 [(0, .ref x0), (1, .int x1), (2, .int x2)] → W p l e rm_Jx4a65c_grow_92f84 s m args below meth c H locs 0 0 (vx_MQ below (va_Qq (fun (r : Option Nat) (S1 : mmS) => ∃ b, r = some b ∧ Q b S1) (wO g) (mB g)) (vx_X (fun _ : mmS => True) (fun E S1 t => X E S1 ∧ wO g S1 t) (mB g)) args s rm_Jx4a65c_grow_92f84.cells rm_Jx4a65c_grow_92f84.slots (mB g)) (F0 m 20 ls []) := by
  intro S x0 x1 x2 hw H locs hH ls hl
  unfold bk_Jx4a65c_grow_92f84_20 at hw
  refine lv_iload_n hC.1 hC.2.1 dJx4a65c_grow_92f84_20 rfl (lv_at hl 2 rfl) ?_
  refine lv_iload_n hC.1 hC.2.1 dJx4a65c_grow_92f84_21 rfl (lv_at hl 1 rfl) ?_
  refine lv_iload_n hC.1 hC.2.1 dJx4a65c_grow_92f84_22 rfl (lv_at hl 2 rfl) ?_
  refine lv_isub hC.1 hC.2.1 dJx4a65c_grow_92f84_23 ?_
  refine lv_iload_n hC.1 hC.2.1 dJx4a65c_grow_92f84_24 rfl (lv_at hl 2 rfl) ?_
  refine lv_iconst (v := 1) hC.1 hC.2.1 dJx4a65c_grow_92f84_25 (by decide) ?_
  refine lv_ishr hC.1 hC.2.1 dJx4a65c_grow_92f84_26 ?_
  refine m_callSi (y := yJ8_newLength_cabcc) (rest := []) hC hs hH hl.1 (va_cwS 3 hC.2.2.2.2 (gA_S q_120 q_121 q_122 q_123) rfl rfl rfl (by decide +kernel) ⟨Nat.le_of_ble_eq_true rfl, Nat.le_of_ble_eq_true rfl⟩) (met_J8_newLength_cabcc l hl0 g _ _ _ _ _ _ hw) rfl rfl (Nat.le_of_ble_eq_true rfl) dJx4a65c_grow_92f84_27 ⟨Nat.le_of_ble_eq_true rfl, Nat.le_of_ble_eq_true rfl⟩ (m_out (fun x hx => (hnx x hx).elim) hlk (Nat.le_of_ble_eq_true rfl) (Nat.le_of_ble_eq_true rfl)) (fun r2 S1 H locs hw hH => ?_)
  refine W.widen (k := 0) (n := 0) (Nat.le_of_ble_eq_true rfl) (Nat.le_of_ble_eq_true rfl) ?_
  refine lv_istore_n (lv' := [(3, .int _), (0, .ref _), (1, .int _), (2, .int _)]) hC.1 hC.2.1 dJx4a65c_grow_92f84_30 rfl hl (by decide) rfl (fun ls hl => ?_)
  refine lv_aload_n hC.1 hC.2.1 dJx4a65c_grow_92f84_31 rfl (lv_at hl 1 rfl) ?_
  refine lv_aload_n hC.1 hC.2.1 dJx4a65c_grow_92f84_32 rfl (lv_at hl 1 rfl) ?_
  obtain ⟨k3, hw⟩ := hw
  obtain ⟨b4, r5, hw⟩ := hw
  refine m_getR hC hs hH cs6 fs6_1 (fun _ h => List.mem_cons_of_mem _ (inlJx4a65c _ h)) (List.mem_cons_of_mem _ q_27) (fun _ h => h) k3 r5 dJx4a65c_grow_92f84_33 ?_
  refine lv_iload_n hC.1 hC.2.1 dJx4a65c_grow_92f84_36 rfl (lv_at hl 0 rfl) ?_
  refine m_callSq (y := yJ7_copyOf_1904c) (rest := [.ref _]) hC hs hH hl.1 (va_cwS 2 hC.2.2.2.2 (gA_S q_129 q_130 q_131 q_132) rfl rfl rfl (by decide +kernel) ⟨Nat.le_of_ble_eq_true rfl, Nat.le_of_ble_eq_true rfl⟩) (met_J7_copyOf_1904c l hl0 g _ _ _ _ _ hw) rfl rfl (Nat.le_of_ble_eq_true rfl) dJx4a65c_grow_92f84_37 ⟨Nat.le_of_ble_eq_true rfl, Nat.le_of_ble_eq_true rfl⟩ (m_out (fun x hx => (hnx x hx).elim) hlk (Nat.le_of_ble_eq_true rfl) (Nat.le_of_ble_eq_true rfl)) (fun r7 S1 H locs hw hH => ?_)
  refine W.widen (k := 1) (n := 128) (Nat.le_of_ble_eq_true rfl) (Nat.le_of_ble_eq_true rfl) ?_
  refine lv_dup_x1 hC.1 hC.2.1 dJx4a65c_grow_92f84_40 rfl rfl ?_
  obtain ⟨k8, hw⟩ := hw
  have hw := hw _ rfl
  refine m_putR hC hs hH cs6 fs6_1 (fun _ h => List.mem_cons_of_mem _ (inlJx4a65c _ h)) (List.mem_cons_of_mem _ q_27) (fun _ h => h) (Or.inl rfl) rfl rfl k8 dJx4a65c_grow_92f84_41 (fun H locs hH => ?_)
  exact m_retq hC hH hrt (Or.inr ⟨_, rfl⟩) hlk (Nat.le_of_ble_eq_true rfl) (Nat.le_of_ble_eq_true rfl) dJx4a65c_grow_92f84_44 hw
set_option maxHeartbeats 4000000 in
set_option maxRecDepth 100000 in
theorem met_Jx4a65c_grow_92f84 (l : Launch) (hl0 : l.stackTraces = false) (g : mG) (S : mmS) (p0 : Nat) (p1 : Int32) (Q : Nat → mmS → Prop) (X : String → mmS → Prop) (hw : wp_Jx4a65c_grow_92f84 g.2.2.2.2.2 S p0 p1 Q X) : mMq l g yJx4a65c_grow_92f84 (wA_ yJx4a65c_grow_92f84 cJx4a65c_grow_92f84 4 (some (.array (.object "java/lang/Object")))) rm_Jx4a65c_grow_92f84 [.ref p0, .int p1] S Q X := by
  refine m_of (y := yJx4a65c_grow_92f84) (cc := cJx4a65c_grow_92f84) (maxL := 4) (ret := (some (.array (.object "java/lang/Object")))) (by decide) rfl (Nat.le_of_ble_eq_true rfl) ?_
  intro p e s m args below meth c ls hC hrt hlk hmn hnx hs hH hl
  have hC : CallFix p m c cJx4a65c_grow_92f84 4 s args (wA_ yJx4a65c_grow_92f84 cJx4a65c_grow_92f84 4 (some (.array (.object "java/lang/Object")))) RJx4a65c := hC
  have hl : lv_has ls 4 [(0, .ref p0), (1, .int p1)] := hl
  unfold wp_Jx4a65c_grow_92f84 at hw
  refine lv_aload_n hC.1 hC.2.1 dJx4a65c_grow_92f84_0 rfl (lv_at hl 0 rfl) ?_
  obtain ⟨k1, hw⟩ := hw
  obtain ⟨b2, r3, hw⟩ := hw
  refine m_getR hC hs hH cs6 fs6_1 (fun _ h => List.mem_cons_of_mem _ (inlJx4a65c _ h)) (List.mem_cons_of_mem _ q_27) (fun _ h => h) k1 r3 dJx4a65c_grow_92f84_1 ?_
  obtain ⟨n4, hw⟩ := hw
  refine m_alenQ hC hs hH n4 dJx4a65c_grow_92f84_4 ?_
  have hw := hw _ rfl
  refine lv_istore_n (lv' := [(2, .int _), (0, .ref _), (1, .int _)]) hC.1 hC.2.1 dJx4a65c_grow_92f84_5 rfl hl (by decide) rfl (fun ls hl => ?_)
  refine lv_iload_n hC.1 hC.2.1 dJx4a65c_grow_92f84_6 rfl (lv_at hl 0 rfl) ?_
  refine lv_if_gt (tgt := 20) hC.1 hC.2.1 dJx4a65c_grow_92f84_7 (by decide) (fun hc => ?_) (fun hc => ?_)
  · have hw := hw.1 hc
    exact bw_Jx4a65c_grow_92f84_20 hl0 hC hrt hlk hmn hnx hs _ _ _ _ hw _ _ hH _ (lv_sub hl [1, 2, 0] rfl)
  · have hw := hw.2 hc
    refine lv_aload_n hC.1 hC.2.1 dJx4a65c_grow_92f84_10 rfl (lv_at hl 1 rfl) ?_
    obtain ⟨b6, r7, hw⟩ := hw
    refine m_getR hC hs hH cs6 fs6_1 (fun _ h => List.mem_cons_of_mem _ (inlJx4a65c _ h)) (List.mem_cons_of_mem _ q_27) (fun _ h => h) k1 r7 dJx4a65c_grow_92f84_11 ?_
    refine m_gets0 hC hs hH (List.mem_cons_of_mem _ q_26) (fun _ h => h) dJx4a65c_grow_92f84_14 ?_
    refine m_acmp_eq (tgt := 45) hC dJx4a65c_grow_92f84_17 (by decide) (fun hc => ?_) (fun hc => ?_)
    · have hw := hw.1 hc
      refine lv_aload_n hC.1 hC.2.1 dJx4a65c_grow_92f84_45 rfl (lv_at hl 1 rfl) ?_
      refine lv_bipush (v := 10) hC.1 hC.2.1 dJx4a65c_grow_92f84_46 (by decide) ?_
      refine lv_iload_n hC.1 hC.2.1 dJx4a65c_grow_92f84_48 rfl (lv_at hl 2 rfl) ?_
      refine m_max hC hl.1 (List.mem_cons_of_mem _ q_115) (List.mem_cons_of_mem _ q_116) (List.mem_cons_of_mem _ q_117) (List.mem_cons_of_mem _ q_118) (Nat.le_of_ble_eq_true rfl) (Nat.le_of_ble_eq_true rfl) (Nat.le_of_ble_eq_true rfl) (Nat.le_of_ble_eq_true rfl) dJx4a65c_grow_92f84_49 ?_
      obtain ⟨n11, hw⟩ := hw
      refine m_newQ hC hs hH (List.mem_cons_of_mem _ q_119) n11.1 rfl (by have := n11.2; omega) (Nat.le_of_ble_eq_true rfl) (by have := n11.2; exact Nat.le_trans (Nat.add_le_add_left this _) (Nat.le_of_ble_eq_true rfl)) dJx4a65c_grow_92f84_52 (fun q8 H f9 hH => ?_)
      refine W.widen (k := 1) (n := 128) (Nat.le_refl _) (Nat.add_le_add_left n11.2 _) ?_
      have hw := hw q8 f9 _ rfl
      refine lv_dup_x1 hC.1 hC.2.1 dJx4a65c_grow_92f84_55 rfl rfl ?_
      have hw := hw _ rfl
      refine m_putR hC hs hH cs6 fs6_1 (fun _ h => List.mem_cons_of_mem _ (inlJx4a65c _ h)) (List.mem_cons_of_mem _ q_27) (fun _ h => h) (Or.inl rfl) rfl rfl (mkN k1 f9) dJx4a65c_grow_92f84_56 (fun H locs hH => ?_)
      exact m_retq hC hH hrt (Or.inr ⟨_, rfl⟩) hlk (Nat.le_of_ble_eq_true rfl) (Nat.le_of_ble_eq_true rfl) dJx4a65c_grow_92f84_59 hw
    · have hw := hw.2 hc
      exact bw_Jx4a65c_grow_92f84_20 hl0 hC hrt hlk hmn hnx hs _ _ _ _ hw _ _ hH _ (lv_sub hl [1, 2, 0] rfl)
abbrev rm_Jx4a65c_grow_d5877 : Room := { frames := 4, cells := 1, slots := 128, locals := 107 }
def wp_Jx4a65c_grow_d5877 (z : Nat × Nat) (S : mmS) (p0 : Nat) (Q : Nat → mmS → Prop) (X : String → mmS → Prop) : Prop := (p0 ∈ mL S ∧ mK S p0 = 6) ∧ wp_Jx4a65c_grow_92f84 z S p0 ((mI S 31 p0) + (1 : Int32)) (fun r3 S2 => Q r3 S2) X
set_option maxHeartbeats 4000000 in
set_option maxRecDepth 100000 in
theorem met_Jx4a65c_grow_d5877 (l : Launch) (hl0 : l.stackTraces = false) (g : mG) (S : mmS) (p0 : Nat) (Q : Nat → mmS → Prop) (X : String → mmS → Prop) (hw : wp_Jx4a65c_grow_d5877 g.2.2.2.2.2 S p0 Q X) : mMq l g yJx4a65c_grow_d5877 (wA_ yJx4a65c_grow_d5877 cJx4a65c_grow_d5877 1 (some (.array (.object "java/lang/Object")))) rm_Jx4a65c_grow_d5877 [.ref p0] S Q X := by
  refine m_of (y := yJx4a65c_grow_d5877) (cc := cJx4a65c_grow_d5877) (maxL := 1) (ret := (some (.array (.object "java/lang/Object")))) (by decide) rfl (Nat.le_of_ble_eq_true rfl) ?_
  intro p e s m args below meth c ls hC hrt hlk hmn hnx hs hH hl
  have hC : CallFix p m c cJx4a65c_grow_d5877 1 s args (wA_ yJx4a65c_grow_d5877 cJx4a65c_grow_d5877 1 (some (.array (.object "java/lang/Object")))) RJx4a65c := hC
  have hl : lv_has ls 1 [(0, .ref p0)] := hl
  unfold wp_Jx4a65c_grow_d5877 at hw
  refine lv_aload_n hC.1 hC.2.1 dJx4a65c_grow_d5877_0 rfl (lv_at hl 0 rfl) ?_
  refine lv_aload_n hC.1 hC.2.1 dJx4a65c_grow_d5877_1 rfl (lv_at hl 0 rfl) ?_
  obtain ⟨k1, hw⟩ := hw
  refine m_getI hC hs hH cs6 fs6_2 (fun _ h => List.mem_cons_of_mem _ (inlJx4a65c _ h)) (List.mem_cons_of_mem _ q_84) (fun _ h => h) k1 dJx4a65c_grow_d5877_2 ?_
  refine lv_iconst (v := 1) hC.1 hC.2.1 dJx4a65c_grow_d5877_5 (by decide) ?_
  refine lv_iadd hC.1 hC.2.1 dJx4a65c_grow_d5877_6 ?_
  refine m_callVq (y := yJx4a65c_grow_92f84) (rest := []) hC hs hH hl.1 (cwV 1 hC.2.2.2.2 (gA_V q_111 q_112 q_113 q_15 q_114) rfl rfl rfl (by decide +kernel) ⟨Nat.le_of_ble_eq_true rfl, Nat.le_of_ble_eq_true rfl⟩) cs6 k1 (met_Jx4a65c_grow_92f84 l hl0 g _ _ _ _ _ hw) rfl rfl (Nat.le_of_ble_eq_true rfl) dJx4a65c_grow_d5877_7 ⟨Nat.le_of_ble_eq_true rfl, Nat.le_of_ble_eq_true rfl⟩ (m_out (fun x hx => (hnx x hx).elim) hlk (Nat.le_of_ble_eq_true rfl) (Nat.le_of_ble_eq_true rfl)) (fun r3 S1 H locs hw hH => ?_)
  refine W.widen (k := 1) (n := 128) (Nat.le_of_ble_eq_true rfl) (Nat.le_of_ble_eq_true rfl) ?_
  exact m_retq hC hH hrt (Or.inr ⟨_, rfl⟩) hlk (Nat.le_of_ble_eq_true rfl) (Nat.le_of_ble_eq_true rfl) dJx4a65c_grow_d5877_10 hw
abbrev rm_Jx4a65c_add_72be8 : Room := { frames := 5, cells := 1, slots := 128, locals := 127 }
def bk_Jx4a65c_add_72be8_11 (z : Nat × Nat) (Q : mmS → Prop) (X : String → mmS → Prop) (S : mmS) (x0 : Nat) (x1 : Nat) (x2 : Nat) (x3 : Int32) : Prop := (x2 ∈ mL S ∧ mK S x2 = 8) ∧ vp_in x3 (mN S x2) ∧ mOb S x1 ∧ ∀ S4 : mmS, S4 = sQ S x2 (x3).toNatClampNeg (some x1) → (x0 ∈ mL S4 ∧ mK S4 x0 = 6) ∧ ∀ S6 : mmS, S6 = sI S4 31 x0 (x3 + (1 : Int32)) → Q S6
def wp_Jx4a65c_add_72be8 (z : Nat × Nat) (S : mmS) (p0 : Nat) (p1 : Nat) (p2 : Nat) (p3 : Int32) (Q : mmS → Prop) (X : String → mmS → Prop) : Prop := mLn z S p2 ∧ (¬ p3 = (mLen z S p2) → bk_Jx4a65c_add_72be8_11 z Q X S p0 p1 p2 p3) ∧ (p3 = (mLen z S p2) → (p0 ∈ mL S ∧ mK S p0 = 6) ∧ wp_Jx4a65c_grow_d5877 z S p0 (fun r4 S2 => bk_Jx4a65c_add_72be8_11 z Q X S2 p0 p1 r4 p3) X)
set_option maxHeartbeats 4000000 in
set_option maxRecDepth 100000 in
theorem bw_Jx4a65c_add_72be8_11 {p : Program} {l : Launch} {e : Env} {s : State} {m : MethodId} {args : Array Value} {below : List Frame} {meth : Method} {c : Code} {g : mG} {Q : mmS → Prop} {X : String → mmS → Prop} (hl0 : l.stackTraces = false) (hC : CallFix p m c cJx4a65c_add_72be8 4 s args (wA_ yJx4a65c_add_72be8 cJx4a65c_add_72be8 4 none) RJx4a65c) (hrt : meth.sig.returnType = none) (hlk : meth.locks = false) (hmn : meth.name = yJx4a65c_add_72be8.name) (hnx : ∀ x ∈ c.exceptionTable.toList, False) (hs : mX g s) : ∀ (S : mmS) (x0 : Nat) (x1 : Nat) (x2 : Nat) (x3 : Int32), bk_Jx4a65c_add_72be8_11 g.2.2.2.2.2 Q X S x0 x1 x2 x3 → ∀ (H : Heap) (locs : List Loc), mH g S s H locs → ∀ ls : Array Slot, lv_has ls 4 [(0, .ref x0), (1, .ref x1), (2, .ref x2), (3, .int x3)] → W p l e rm_Jx4a65c_add_72be8 s m args below meth c H locs 1 128 (vx_MQ below (va_Qv Q (wO g) (mB g)) (vx_X (fun _ : mmS => True) (fun E S1 t => X E S1 ∧ wO g S1 t) (mB g)) args s rm_Jx4a65c_add_72be8.cells rm_Jx4a65c_add_72be8.slots (mB g)) (F0 m 11 ls []) := by
  intro S x0 x1 x2 x3 hw H locs hH ls hl
  unfold bk_Jx4a65c_add_72be8_11 at hw
  refine lv_aload_n hC.1 hC.2.1 dJx4a65c_add_72be8_11 rfl (lv_at hl 2 rfl) ?_
  refine lv_iload_n hC.1 hC.2.1 dJx4a65c_add_72be8_12 rfl (lv_at hl 3 rfl) ?_
  refine lv_aload_n hC.1 hC.2.1 dJx4a65c_add_72be8_13 rfl (lv_at hl 1 rfl) ?_
  obtain ⟨k1, hw⟩ := hw
  obtain ⟨i2, o3, hw⟩ := hw
  have hw := hw _ rfl
  refine m_qast hC hs hH k1 i2 (mOb_any hs hH o3) dJx4a65c_add_72be8_14 (fun H locs hH => ?_)
  refine lv_aload_n hC.1 hC.2.1 dJx4a65c_add_72be8_15 rfl (lv_at hl 0 rfl) ?_
  refine lv_iload_n hC.1 hC.2.1 dJx4a65c_add_72be8_16 rfl (lv_at hl 3 rfl) ?_
  refine lv_iconst (v := 1) hC.1 hC.2.1 dJx4a65c_add_72be8_17 (by decide) ?_
  refine lv_iadd hC.1 hC.2.1 dJx4a65c_add_72be8_18 ?_
  obtain ⟨k5, hw⟩ := hw
  have hw := hw _ rfl
  refine m_putI hC hs hH cs6 fs6_2 (fun _ h => List.mem_cons_of_mem _ (inlJx4a65c _ h)) (List.mem_cons_of_mem _ q_84) (fun _ h => h) (Or.inl rfl) rfl k5 dJx4a65c_add_72be8_19 (fun H locs hH => ?_)
  exact m_retv hC hH hrt hlk (Nat.le_of_ble_eq_true rfl) (Nat.le_of_ble_eq_true rfl) dJx4a65c_add_72be8_22 hw
set_option maxHeartbeats 4000000 in
set_option maxRecDepth 100000 in
theorem met_Jx4a65c_add_72be8 (l : Launch) (hl0 : l.stackTraces = false) (g : mG) (S : mmS) (p0 : Nat) (p1 : Nat) (p2 : Nat) (p3 : Int32) (Q : mmS → Prop) (X : String → mmS → Prop) (hw : wp_Jx4a65c_add_72be8 g.2.2.2.2.2 S p0 p1 p2 p3 Q X) : mMv l g yJx4a65c_add_72be8 (wA_ yJx4a65c_add_72be8 cJx4a65c_add_72be8 4 none) rm_Jx4a65c_add_72be8 [.ref p0, .ref p1, .ref p2, .int p3] S Q X := by
  refine m_of (y := yJx4a65c_add_72be8) (cc := cJx4a65c_add_72be8) (maxL := 4) (ret := none) (by decide) rfl (Nat.le_of_ble_eq_true rfl) ?_
  intro p e s m args below meth c ls hC hrt hlk hmn hnx hs hH hl
  have hC : CallFix p m c cJx4a65c_add_72be8 4 s args (wA_ yJx4a65c_add_72be8 cJx4a65c_add_72be8 4 none) RJx4a65c := hC
  have hl : lv_has ls 4 [(0, .ref p0), (1, .ref p1), (2, .ref p2), (3, .int p3)] := hl
  unfold wp_Jx4a65c_add_72be8 at hw
  refine lv_iload_n hC.1 hC.2.1 dJx4a65c_add_72be8_0 rfl (lv_at hl 3 rfl) ?_
  refine lv_aload_n hC.1 hC.2.1 dJx4a65c_add_72be8_1 rfl (lv_at hl 2 rfl) ?_
  obtain ⟨n1, hw⟩ := hw
  refine m_alenQ hC hs hH n1 dJx4a65c_add_72be8_2 ?_
  refine lv_icmp_ne (tgt := 11) hC.1 hC.2.1 dJx4a65c_add_72be8_3 (by decide) (fun hc => ?_) (fun hc => ?_)
  · have hw := hw.1 hc
    refine W.widen (k := 1) (n := 128) (Nat.le_of_ble_eq_true rfl) (Nat.le_of_ble_eq_true rfl) ?_
    exact bw_Jx4a65c_add_72be8_11 hl0 hC hrt hlk hmn hnx hs _ _ _ _ _ hw _ _ hH _ (lv_sub hl [0, 1, 2, 3] rfl)
  · have hw := hw.2 hc
    refine lv_aload_n hC.1 hC.2.1 dJx4a65c_add_72be8_6 rfl (lv_at hl 0 rfl) ?_
    obtain ⟨k3, hw⟩ := hw
    refine m_callVq (y := yJx4a65c_grow_d5877) (rest := []) hC hs hH hl.1 (cwV 0 hC.2.2.2.2 (gA_V q_107 q_108 q_109 q_15 q_110) rfl rfl rfl (by decide +kernel) ⟨Nat.le_of_ble_eq_true rfl, Nat.le_of_ble_eq_true rfl⟩) cs6 k3 (met_Jx4a65c_grow_d5877 l hl0 g _ _ _ _ hw) rfl rfl (Nat.le_of_ble_eq_true rfl) dJx4a65c_add_72be8_7 ⟨Nat.le_of_ble_eq_true rfl, Nat.le_of_ble_eq_true rfl⟩ (m_out (fun x hx => (hnx x hx).elim) hlk (Nat.le_of_ble_eq_true rfl) (Nat.le_of_ble_eq_true rfl)) (fun r4 S1 H locs hw hH => ?_)
    refine W.widen (k := 1) (n := 128) (Nat.le_of_ble_eq_true rfl) (Nat.le_of_ble_eq_true rfl) ?_
    refine lv_astore_n (lv' := [(2, .ref _), (0, .ref _), (1, .ref _), (3, .int _)]) hC.1 hC.2.1 dJx4a65c_add_72be8_10 rfl hl (by decide) rfl (fun ls hl => ?_)
    exact bw_Jx4a65c_add_72be8_11 hl0 hC hrt hlk hmn hnx hs _ _ _ _ _ hw _ _ hH _ (lv_sub hl [1, 2, 0, 3] rfl)
abbrev rm_Jx4a65c_add_9ea2d : Room := { frames := 6, cells := 1, slots := 128, locals := 150 }
def wp_Jx4a65c_add_9ea2d (z : Nat × Nat) (S : mmS) (p0 : Nat) (p1 : Nat) (Q : Int32 → mmS → Prop) (X : String → mmS → Prop) : Prop := (p0 ∈ mL S ∧ mK S p0 = 6) ∧ ∀ S2 : mmS, S2 = sI S 30 p0 ((mI S 30 p0) + (1 : Int32)) → ∃ b3 : Nat, mR S2 25 p0 = some b3 ∧ wp_Jx4a65c_add_72be8 z S2 p0 p1 b3 (mI S2 31 p0) (fun S5 => Q (1 : Int32) S5) X
set_option maxHeartbeats 4000000 in
set_option maxRecDepth 100000 in
theorem met_Jx4a65c_add_9ea2d (l : Launch) (hl0 : l.stackTraces = false) (g : mG) (S : mmS) (p0 : Nat) (p1 : Nat) (Q : Int32 → mmS → Prop) (X : String → mmS → Prop) (hw : wp_Jx4a65c_add_9ea2d g.2.2.2.2.2 S p0 p1 Q X) : mMi l g yJx4a65c_add_9ea2d (wA_ yJx4a65c_add_9ea2d cJx4a65c_add_9ea2d 2 (some .boolean)) rm_Jx4a65c_add_9ea2d [.ref p0, .ref p1] S Q X := by
  refine m_of (y := yJx4a65c_add_9ea2d) (cc := cJx4a65c_add_9ea2d) (maxL := 2) (ret := (some .boolean)) (by decide) rfl (Nat.le_of_ble_eq_true rfl) ?_
  intro p e s m args below meth c ls hC hrt hlk hmn hnx hs hH hl
  have hC : CallFix p m c cJx4a65c_add_9ea2d 2 s args (wA_ yJx4a65c_add_9ea2d cJx4a65c_add_9ea2d 2 (some .boolean)) RJx4a65c := hC
  have hl : lv_has ls 2 [(0, .ref p0), (1, .ref p1)] := hl
  unfold wp_Jx4a65c_add_9ea2d at hw
  refine lv_aload_n hC.1 hC.2.1 dJx4a65c_add_9ea2d_0 rfl (lv_at hl 0 rfl) ?_
  refine lv_dup hC.1 hC.2.1 dJx4a65c_add_9ea2d_1 rfl ?_
  obtain ⟨k1, hw⟩ := hw
  refine m_getI hC hs hH cs6 fs6_0 (fun _ h => List.mem_cons_of_mem _ (inlJx4a65c _ h)) (List.mem_cons_of_mem _ q_101) (u_same (hC.2.2.2.2 _ (List.mem_cons_of_mem _ q_102))) k1 dJx4a65c_add_9ea2d_2 ?_
  refine lv_iconst (v := 1) hC.1 hC.2.1 dJx4a65c_add_9ea2d_5 (by decide) ?_
  refine lv_iadd hC.1 hC.2.1 dJx4a65c_add_9ea2d_6 ?_
  have hw := hw _ rfl
  refine m_putI hC hs hH cs6 fs6_0 (fun _ h => List.mem_cons_of_mem _ (inlJx4a65c _ h)) (List.mem_cons_of_mem _ q_101) (u_same (hC.2.2.2.2 _ (List.mem_cons_of_mem _ q_102))) (Or.inl rfl) rfl k1 dJx4a65c_add_9ea2d_7 (fun H locs hH => ?_)
  refine lv_aload_n hC.1 hC.2.1 dJx4a65c_add_9ea2d_10 rfl (lv_at hl 0 rfl) ?_
  refine lv_aload_n hC.1 hC.2.1 dJx4a65c_add_9ea2d_11 rfl (lv_at hl 1 rfl) ?_
  refine lv_aload_n hC.1 hC.2.1 dJx4a65c_add_9ea2d_12 rfl (lv_at hl 0 rfl) ?_
  obtain ⟨b3, r4, hw⟩ := hw
  refine m_getR hC hs hH cs6 fs6_1 (fun _ h => List.mem_cons_of_mem _ (inlJx4a65c _ h)) (List.mem_cons_of_mem _ q_27) (fun _ h => h) k1 r4 dJx4a65c_add_9ea2d_13 ?_
  refine lv_aload_n hC.1 hC.2.1 dJx4a65c_add_9ea2d_16 rfl (lv_at hl 0 rfl) ?_
  refine m_getI hC hs hH cs6 fs6_2 (fun _ h => List.mem_cons_of_mem _ (inlJx4a65c _ h)) (List.mem_cons_of_mem _ q_84) (fun _ h => h) k1 dJx4a65c_add_9ea2d_17 ?_
  refine m_callVv (y := yJx4a65c_add_72be8) (rest := []) hC hs hH hl.1 (cwV 3 hC.2.2.2.2 (gA_V q_103 q_104 q_105 q_15 q_106) rfl rfl rfl (by decide +kernel) ⟨Nat.le_of_ble_eq_true rfl, Nat.le_of_ble_eq_true rfl⟩) cs6 k1 (met_Jx4a65c_add_72be8 l hl0 g _ _ _ _ _ _ _ hw) rfl rfl (Nat.le_of_ble_eq_true rfl) dJx4a65c_add_9ea2d_20 ⟨Nat.le_of_ble_eq_true rfl, Nat.le_of_ble_eq_true rfl⟩ (m_out (fun x hx => (hnx x hx).elim) hlk (Nat.le_of_ble_eq_true rfl) (Nat.le_of_ble_eq_true rfl)) (fun S1 H locs hw hH => ?_)
  refine W.widen (k := 1) (n := 128) (Nat.le_of_ble_eq_true rfl) (Nat.le_of_ble_eq_true rfl) ?_
  refine lv_iconst (v := 1) hC.1 hC.2.1 dJx4a65c_add_9ea2d_23 (by decide) ?_
  exact m_reti hC hH hrt rfl hlk (Nat.le_of_ble_eq_true rfl) (Nat.le_of_ble_eq_true rfl) dJx4a65c_add_9ea2d_24 hw
abbrev rm_Jx4a65c_rangeCheckForAdd_d00df : Room := { frames := 1, cells := 0, slots := 0, locals := 0 }
def wp_Jx4a65c_rangeCheckForAdd_d00df (z : Nat × Nat) (S : mmS) (p0 : Nat) (p1 : Int32) (Q : mmS → Prop) (X : String → mmS → Prop) : Prop := (p0 ∈ mL S ∧ mK S p0 = 6) ∧ ((mI S 31 p0) < p1 → False) ∧ (¬ (mI S 31 p0) < p1 → (0 ≤ p1 → Q S) ∧ (¬ 0 ≤ p1 → False))
set_option maxHeartbeats 4000000 in
set_option maxRecDepth 100000 in
theorem met_Jx4a65c_rangeCheckForAdd_d00df (l : Launch) (hl0 : l.stackTraces = false) (g : mG) (S : mmS) (p0 : Nat) (p1 : Int32) (Q : mmS → Prop) (X : String → mmS → Prop) (hw : wp_Jx4a65c_rangeCheckForAdd_d00df g.2.2.2.2.2 S p0 p1 Q X) : mMv l g yJx4a65c_rangeCheckForAdd_d00df (wA_ yJx4a65c_rangeCheckForAdd_d00df cJx4a65c_rangeCheckForAdd_d00df 2 none) rm_Jx4a65c_rangeCheckForAdd_d00df [.ref p0, .int p1] S Q X := by
  refine m_of (y := yJx4a65c_rangeCheckForAdd_d00df) (cc := cJx4a65c_rangeCheckForAdd_d00df) (maxL := 2) (ret := none) (by decide) rfl (Nat.le_of_ble_eq_true rfl) ?_
  intro p e s m args below meth c ls hC hrt hlk hmn hnx hs hH hl
  have hC : CallFix p m c cJx4a65c_rangeCheckForAdd_d00df 2 s args (wA_ yJx4a65c_rangeCheckForAdd_d00df cJx4a65c_rangeCheckForAdd_d00df 2 none) RJx4a65c := hC
  have hl : lv_has ls 2 [(0, .ref p0), (1, .int p1)] := hl
  unfold wp_Jx4a65c_rangeCheckForAdd_d00df at hw
  refine lv_iload_n hC.1 hC.2.1 dJx4a65c_rangeCheckForAdd_d00df_0 rfl (lv_at hl 1 rfl) ?_
  refine lv_aload_n hC.1 hC.2.1 dJx4a65c_rangeCheckForAdd_d00df_1 rfl (lv_at hl 0 rfl) ?_
  obtain ⟨k1, hw⟩ := hw
  refine m_getI hC hs hH cs6 fs6_2 (fun _ h => List.mem_cons_of_mem _ (inlJx4a65c _ h)) (List.mem_cons_of_mem _ q_84) (fun _ h => h) k1 dJx4a65c_rangeCheckForAdd_d00df_2 ?_
  refine lv_icmp_gt (tgt := 12) hC.1 hC.2.1 dJx4a65c_rangeCheckForAdd_d00df_5 (by decide) (fun hc => ?_) (fun hc => ?_)
  · have hw := hw.1 hc
    exact False.elim hw
  · have hw := hw.2 hc
    refine lv_iload_n hC.1 hC.2.1 dJx4a65c_rangeCheckForAdd_d00df_8 rfl (lv_at hl 1 rfl) ?_
    refine lv_if_ge (tgt := 25) hC.1 hC.2.1 dJx4a65c_rangeCheckForAdd_d00df_9 (by decide) (fun hc => ?_) (fun hc => ?_)
    · have hw := hw.1 hc
      exact m_retv hC hH hrt hlk (Nat.le_of_ble_eq_true rfl) (Nat.le_of_ble_eq_true rfl) dJx4a65c_rangeCheckForAdd_d00df_25 hw
    · have hw := hw.2 hc
      exact False.elim hw
abbrev rm_Jx4a65c_add_7a177 : Room := { frames := 5, cells := 1, slots := 128, locals := 127 }
def bk_Jx4a65c_add_7a177_38 (z : Nat × Nat) (Q : mmS → Prop) (X : String → mmS → Prop) (S : mmS) (x0 : Nat) (x1 : Int32) (x2 : Nat) (x3 : Int32) (x4 : Nat) : Prop := (x4 ∈ mL S ∧ mK S x4 = 8) ∧ (¬ x1 < 0 ∧ ¬ (x1 + (1 : Int32)) < 0 ∧ ¬ (x3 - x1) < 0 ∧ (x1).toNatClampNeg + (x3 - x1).toNatClampNeg ≤ mN S x4 ∧ (x1 + (1 : Int32)).toNatClampNeg + (x3 - x1).toNatClampNeg ≤ mN S x4) ∧ (∀ i : Nat, i < (x3 - x1).toNatClampNeg → ∀ y : Nat, mQ S x4 ((x1).toNatClampNeg + i) = some y → mOb S y) ∧ ∀ S3 : mmS, S3 = sQr S x4 (va_cpy (mQ S x4) (mQ S x4) (x1).toNatClampNeg (x1 + (1 : Int32)).toNatClampNeg (x3 - x1).toNatClampNeg) → vp_in x1 (mN S3 x4) ∧ mOb S3 x2 ∧ ∀ S7 : mmS, S7 = sQ S3 x4 (x1).toNatClampNeg (some x2) → (x0 ∈ mL S7 ∧ mK S7 x0 = 6) ∧ ∀ S9 : mmS, S9 = sI S7 31 x0 (x3 + (1 : Int32)) → Q S9
def wp_Jx4a65c_add_7a177 (z : Nat × Nat) (S : mmS) (p0 : Nat) (p1 : Int32) (p2 : Nat) (Q : mmS → Prop) (X : String → mmS → Prop) : Prop := (p0 ∈ mL S ∧ mK S p0 = 6) ∧ wp_Jx4a65c_rangeCheckForAdd_d00df z S p0 p1 (fun S1 => (p0 ∈ mL S1 ∧ mK S1 p0 = 6) ∧ ∀ S4 : mmS, S4 = sI S1 30 p0 ((mI S1 30 p0) + (1 : Int32)) → ∀ v5 : Int32, v5 = (mI S4 31 p0) → ∃ b6 : Nat, mR S4 25 p0 = some b6 ∧ mLn z S4 b6 ∧ (¬ (mI S4 31 p0) = (mLen z S4 b6) → bk_Jx4a65c_add_7a177_38 z Q X S4 p0 p1 p2 v5 b6) ∧ ((mI S4 31 p0) = (mLen z S4 b6) → wp_Jx4a65c_grow_d5877 z S4 p0 (fun r10 S9 => bk_Jx4a65c_add_7a177_38 z Q X S9 p0 p1 p2 v5 r10) X)) X
set_option maxHeartbeats 4000000 in
set_option maxRecDepth 100000 in
theorem bw_Jx4a65c_add_7a177_38 {p : Program} {l : Launch} {e : Env} {s : State} {m : MethodId} {args : Array Value} {below : List Frame} {meth : Method} {c : Code} {g : mG} {Q : mmS → Prop} {X : String → mmS → Prop} (hl0 : l.stackTraces = false) (hC : CallFix p m c cJx4a65c_add_7a177 5 s args (wA_ yJx4a65c_add_7a177 cJx4a65c_add_7a177 5 none) RJx4a65c) (hrt : meth.sig.returnType = none) (hlk : meth.locks = false) (hmn : meth.name = yJx4a65c_add_7a177.name) (hnx : ∀ x ∈ c.exceptionTable.toList, False) (hs : mX g s) : ∀ (S : mmS) (x0 : Nat) (x1 : Int32) (x2 : Nat) (x3 : Int32) (x4 : Nat), bk_Jx4a65c_add_7a177_38 g.2.2.2.2.2 Q X S x0 x1 x2 x3 x4 → ∀ (H : Heap) (locs : List Loc), mH g S s H locs → ∀ ls : Array Slot, lv_has ls 5 [(0, .ref x0), (1, .int x1), (2, .ref x2), (3, .int x3), (4, .ref x4)] → W p l e rm_Jx4a65c_add_7a177 s m args below meth c H locs 1 128 (vx_MQ below (va_Qv Q (wO g) (mB g)) (vx_X (fun _ : mmS => True) (fun E S1 t => X E S1 ∧ wO g S1 t) (mB g)) args s rm_Jx4a65c_add_7a177.cells rm_Jx4a65c_add_7a177.slots (mB g)) (F0 m 38 ls []) := by
  intro S x0 x1 x2 x3 x4 hw H locs hH ls hl
  unfold bk_Jx4a65c_add_7a177_38 at hw
  refine lv_aload hC.1 hC.2.1 dJx4a65c_add_7a177_38 (lv_at hl 4 rfl) ?_
  refine lv_iload_n hC.1 hC.2.1 dJx4a65c_add_7a177_40 rfl (lv_at hl 1 rfl) ?_
  refine lv_aload hC.1 hC.2.1 dJx4a65c_add_7a177_41 (lv_at hl 4 rfl) ?_
  refine lv_iload_n hC.1 hC.2.1 dJx4a65c_add_7a177_43 rfl (lv_at hl 1 rfl) ?_
  refine lv_iconst (v := 1) hC.1 hC.2.1 dJx4a65c_add_7a177_44 (by decide) ?_
  refine lv_iadd hC.1 hC.2.1 dJx4a65c_add_7a177_45 ?_
  refine lv_iload_n hC.1 hC.2.1 dJx4a65c_add_7a177_46 rfl (lv_at hl 3 rfl) ?_
  refine lv_iload_n hC.1 hC.2.1 dJx4a65c_add_7a177_47 rfl (lv_at hl 1 rfl) ?_
  refine lv_isub hC.1 hC.2.1 dJx4a65c_add_7a177_48 ?_
  obtain ⟨k1, hw⟩ := hw
  obtain ⟨n2, hw⟩ := hw
  obtain ⟨n4, hw⟩ := hw
  have hw := hw _ rfl
  refine m_copyQ hC hs hH hl.1 (List.mem_cons_of_mem _ q_430) (List.mem_cons_of_mem _ q_146) (List.mem_cons_of_mem _ q_147) (List.mem_cons_of_mem _ q_148) k1 k1 n2 (fun i hi y hy => mOb_any hs hH (n4 i hi y hy)) (Nat.le_of_ble_eq_true rfl) (by decide) dJx4a65c_add_7a177_49 (fun H locs hH => ?_)
  refine lv_aload hC.1 hC.2.1 dJx4a65c_add_7a177_52 (lv_at hl 4 rfl) ?_
  refine lv_iload_n hC.1 hC.2.1 dJx4a65c_add_7a177_54 rfl (lv_at hl 1 rfl) ?_
  refine lv_aload_n hC.1 hC.2.1 dJx4a65c_add_7a177_55 rfl (lv_at hl 2 rfl) ?_
  obtain ⟨i5, o6, hw⟩ := hw
  have hw := hw _ rfl
  refine m_qast hC hs hH k1 i5 (mOb_any hs hH o6) dJx4a65c_add_7a177_56 (fun H locs hH => ?_)
  refine lv_aload_n hC.1 hC.2.1 dJx4a65c_add_7a177_57 rfl (lv_at hl 0 rfl) ?_
  refine lv_iload_n hC.1 hC.2.1 dJx4a65c_add_7a177_58 rfl (lv_at hl 3 rfl) ?_
  refine lv_iconst (v := 1) hC.1 hC.2.1 dJx4a65c_add_7a177_59 (by decide) ?_
  refine lv_iadd hC.1 hC.2.1 dJx4a65c_add_7a177_60 ?_
  obtain ⟨k8, hw⟩ := hw
  have hw := hw _ rfl
  refine m_putI hC hs hH cs6 fs6_2 (fun _ h => List.mem_cons_of_mem _ (inlJx4a65c _ h)) (List.mem_cons_of_mem _ q_84) (fun _ h => h) (Or.inl rfl) rfl k8 dJx4a65c_add_7a177_61 (fun H locs hH => ?_)
  exact m_retv hC hH hrt hlk (Nat.le_of_ble_eq_true rfl) (Nat.le_of_ble_eq_true rfl) dJx4a65c_add_7a177_64 hw
set_option maxHeartbeats 4000000 in
set_option maxRecDepth 100000 in
theorem met_Jx4a65c_add_7a177 (l : Launch) (hl0 : l.stackTraces = false) (g : mG) (S : mmS) (p0 : Nat) (p1 : Int32) (p2 : Nat) (Q : mmS → Prop) (X : String → mmS → Prop) (hw : wp_Jx4a65c_add_7a177 g.2.2.2.2.2 S p0 p1 p2 Q X) : mMv l g yJx4a65c_add_7a177 (wA_ yJx4a65c_add_7a177 cJx4a65c_add_7a177 5 none) rm_Jx4a65c_add_7a177 [.ref p0, .int p1, .ref p2] S Q X := by
  refine m_of (y := yJx4a65c_add_7a177) (cc := cJx4a65c_add_7a177) (maxL := 5) (ret := none) (by decide) rfl (Nat.le_of_ble_eq_true rfl) ?_
  intro p e s m args below meth c ls hC hrt hlk hmn hnx hs hH hl
  have hC : CallFix p m c cJx4a65c_add_7a177 5 s args (wA_ yJx4a65c_add_7a177 cJx4a65c_add_7a177 5 none) RJx4a65c := hC
  have hl : lv_has ls 5 [(0, .ref p0), (1, .int p1), (2, .ref p2)] := hl
  unfold wp_Jx4a65c_add_7a177 at hw
  refine lv_aload_n hC.1 hC.2.1 dJx4a65c_add_7a177_0 rfl (lv_at hl 0 rfl) ?_
  refine lv_iload_n hC.1 hC.2.1 dJx4a65c_add_7a177_1 rfl (lv_at hl 1 rfl) ?_
  obtain ⟨k2, hw⟩ := hw
  refine m_callVv (y := yJx4a65c_rangeCheckForAdd_d00df) (rest := []) hC hs hH hl.1 (cwV 1 hC.2.2.2.2 (gA_V q_431 q_432 q_433 q_15 q_434) rfl rfl rfl (by decide +kernel) ⟨Nat.le_of_ble_eq_true rfl, Nat.le_of_ble_eq_true rfl⟩) cs6 k2 (met_Jx4a65c_rangeCheckForAdd_d00df l hl0 g _ _ _ _ _ hw) rfl rfl (Nat.le_of_ble_eq_true rfl) dJx4a65c_add_7a177_2 ⟨Nat.le_of_ble_eq_true rfl, Nat.le_of_ble_eq_true rfl⟩ (m_out (fun x hx => (hnx x hx).elim) hlk (Nat.le_of_ble_eq_true rfl) (Nat.le_of_ble_eq_true rfl)) (fun S1 H locs hw hH => ?_)
  refine W.widen (k := 0) (n := 0) (Nat.le_of_ble_eq_true rfl) (Nat.le_of_ble_eq_true rfl) ?_
  refine lv_aload_n hC.1 hC.2.1 dJx4a65c_add_7a177_5 rfl (lv_at hl 0 rfl) ?_
  refine lv_dup hC.1 hC.2.1 dJx4a65c_add_7a177_6 rfl ?_
  obtain ⟨k3, hw⟩ := hw
  refine m_getI hC hs hH cs6 fs6_0 (fun _ h => List.mem_cons_of_mem _ (inlJx4a65c _ h)) (List.mem_cons_of_mem _ q_101) (u_same (hC.2.2.2.2 _ (List.mem_cons_of_mem _ q_102))) k3 dJx4a65c_add_7a177_7 ?_
  refine lv_iconst (v := 1) hC.1 hC.2.1 dJx4a65c_add_7a177_10 (by decide) ?_
  refine lv_iadd hC.1 hC.2.1 dJx4a65c_add_7a177_11 ?_
  have hw := hw _ rfl
  refine m_putI hC hs hH cs6 fs6_0 (fun _ h => List.mem_cons_of_mem _ (inlJx4a65c _ h)) (List.mem_cons_of_mem _ q_101) (u_same (hC.2.2.2.2 _ (List.mem_cons_of_mem _ q_102))) (Or.inl rfl) rfl k3 dJx4a65c_add_7a177_12 (fun H locs hH => ?_)
  refine lv_aload_n hC.1 hC.2.1 dJx4a65c_add_7a177_15 rfl (lv_at hl 0 rfl) ?_
  refine m_getI hC hs hH cs6 fs6_2 (fun _ h => List.mem_cons_of_mem _ (inlJx4a65c _ h)) (List.mem_cons_of_mem _ q_84) (fun _ h => h) k3 dJx4a65c_add_7a177_16 ?_
  refine lv_dup hC.1 hC.2.1 dJx4a65c_add_7a177_19 rfl ?_
  have hw := hw _ rfl
  refine lv_istore_n (lv' := [(3, .int _), (0, .ref _), (1, .int _), (2, .ref _)]) hC.1 hC.2.1 dJx4a65c_add_7a177_20 rfl hl (by decide) rfl (fun ls hl => ?_)
  refine lv_aload_n hC.1 hC.2.1 dJx4a65c_add_7a177_21 rfl (lv_at hl 1 rfl) ?_
  obtain ⟨b6, r7, hw⟩ := hw
  refine m_getR hC hs hH cs6 fs6_1 (fun _ h => List.mem_cons_of_mem _ (inlJx4a65c _ h)) (List.mem_cons_of_mem _ q_27) (fun _ h => h) k3 r7 dJx4a65c_add_7a177_22 ?_
  refine lv_dup hC.1 hC.2.1 dJx4a65c_add_7a177_25 rfl ?_
  refine lv_astore (lv' := [(4, .ref _), (3, .int _), (0, .ref _), (1, .int _), (2, .ref _)]) hC.1 hC.2.1 dJx4a65c_add_7a177_26 hl (by decide) rfl (fun ls hl => ?_)
  obtain ⟨n8, hw⟩ := hw
  refine m_alenQ hC hs hH n8 dJx4a65c_add_7a177_28 ?_
  refine lv_icmp_ne (tgt := 38) hC.1 hC.2.1 dJx4a65c_add_7a177_29 (by decide) (fun hc => ?_) (fun hc => ?_)
  · have hw := hw.1 hc
    refine W.widen (k := 1) (n := 128) (Nat.le_of_ble_eq_true rfl) (Nat.le_of_ble_eq_true rfl) ?_
    exact bw_Jx4a65c_add_7a177_38 hl0 hC hrt hlk hmn hnx hs _ _ _ _ _ _ hw _ _ hH _ (lv_sub hl [2, 3, 4, 1, 0] rfl)
  · have hw := hw.2 hc
    refine lv_aload_n hC.1 hC.2.1 dJx4a65c_add_7a177_32 rfl (lv_at hl 2 rfl) ?_
    refine m_callVq (y := yJx4a65c_grow_d5877) (rest := []) hC hs hH hl.1 (cwV 0 hC.2.2.2.2 (gA_V q_107 q_108 q_109 q_15 q_110) rfl rfl rfl (by decide +kernel) ⟨Nat.le_of_ble_eq_true rfl, Nat.le_of_ble_eq_true rfl⟩) cs6 k3 (met_Jx4a65c_grow_d5877 l hl0 g _ _ _ _ hw) rfl rfl (Nat.le_of_ble_eq_true rfl) dJx4a65c_add_7a177_33 ⟨Nat.le_of_ble_eq_true rfl, Nat.le_of_ble_eq_true rfl⟩ (m_out (fun x hx => (hnx x hx).elim) hlk (Nat.le_of_ble_eq_true rfl) (Nat.le_of_ble_eq_true rfl)) (fun r10 S1 H locs hw hH => ?_)
    refine W.widen (k := 1) (n := 128) (Nat.le_of_ble_eq_true rfl) (Nat.le_of_ble_eq_true rfl) ?_
    refine lv_astore (lv' := [(4, .ref _), (3, .int _), (0, .ref _), (1, .int _), (2, .ref _)]) hC.1 hC.2.1 dJx4a65c_add_7a177_36 hl (by decide) rfl (fun ls hl => ?_)
    exact bw_Jx4a65c_add_7a177_38 hl0 hC hrt hlk hmn hnx hs _ _ _ _ _ _ hw _ _ hH _ (lv_sub hl [2, 3, 4, 1, 0] rfl)
end
