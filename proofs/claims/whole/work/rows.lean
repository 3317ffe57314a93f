section
-- ===== PART A: goes FIRST, ahead of the names: the tables' words, and 'selects' of the private methods out of them =====
/-- a private method of a class that the tables say can be made, by its rows of tables_1 -/
def lw_okq (q : MethodName × Nat) : Prop := (q.1.cls ≠ "java/lang/invoke/MethodHandle" ∧ q.1.cls ≠ "java/lang/invoke/VarHandle") ∧ Cond.instantiable q.1.cls q.2 ∈ tables_1 ∧ Cond.privateMethod q.1 ∈ tables_1 ∧ Cond.instanceMethod q.1 ∈ tables_1
theorem lw_p0 : lw_okq (⟨"java/lang/Throwable", "fillInStackTrace", "(I)Ljava/lang/Throwable;"⟩, 6) := ⟨⟨by decide +kernel, by decide +kernel⟩, List.mem_of_getElem? (i := 160) (by decide +kernel), List.mem_of_getElem? (i := 158) (by decide +kernel), List.mem_of_getElem? (i := 159) (by decide +kernel)⟩
theorem lw_p1 : lw_okq (⟨"MouldDesk", "resinOf", "(I)LMouldDesk$Resin;"⟩, 14) := ⟨⟨by decide +kernel, by decide +kernel⟩, List.mem_of_getElem? (i := 23) (by decide +kernel), List.mem_of_getElem? (i := 250) (by decide +kernel), List.mem_of_getElem? (i := 251) (by decide +kernel)⟩
theorem lw_p2 : lw_okq (⟨"MouldDesk", "lotOf", "(I)LMouldDesk$Lot;"⟩, 14) := ⟨⟨by decide +kernel, by decide +kernel⟩, List.mem_of_getElem? (i := 23) (by decide +kernel), List.mem_of_getElem? (i := 303) (by decide +kernel), List.mem_of_getElem? (i := 304) (by decide +kernel)⟩
theorem lw_p3 : lw_okq (⟨"MouldDesk", "mouldOf", "(I)LMouldDesk$Mould;"⟩, 14) := ⟨⟨by decide +kernel, by decide +kernel⟩, List.mem_of_getElem? (i := 23) (by decide +kernel), List.mem_of_getElem? (i := 423) (by decide +kernel), List.mem_of_getElem? (i := 424) (by decide +kernel)⟩
theorem lw_p4 : lw_okq (⟨"MouldDesk", "machineOf", "(I)LMouldDesk$Machine;"⟩, 14) := ⟨⟨by decide +kernel, by decide +kernel⟩, List.mem_of_getElem? (i := 23) (by decide +kernel), List.mem_of_getElem? (i := 513) (by decide +kernel), List.mem_of_getElem? (i := 514) (by decide +kernel)⟩
theorem lw_p5 : lw_okq (⟨"MouldDesk", "orderOf", "(I)LMouldDesk$Order;"⟩, 14) := ⟨⟨by decide +kernel, by decide +kernel⟩, List.mem_of_getElem? (i := 23) (by decide +kernel), List.mem_of_getElem? (i := 542) (by decide +kernel), List.mem_of_getElem? (i := 543) (by decide +kernel)⟩
theorem lw_p6 : lw_okq (⟨"MouldDesk", "passOneHour", "()I"⟩, 14) := ⟨⟨by decide +kernel, by decide +kernel⟩, List.mem_of_getElem? (i := 23) (by decide +kernel), List.mem_of_getElem? (i := 666) (by decide +kernel), List.mem_of_getElem? (i := 667) (by decide +kernel)⟩
theorem lw_p7 : lw_okq (⟨"MouldDesk", "workOneHour", "(LMouldDesk$Machine;)I"⟩, 14) := ⟨⟨by decide +kernel, by decide +kernel⟩, List.mem_of_getElem? (i := 23) (by decide +kernel), List.mem_of_getElem? (i := 670) (by decide +kernel), List.mem_of_getElem? (i := 671) (by decide +kernel)⟩
theorem lw_p8 : lw_okq (⟨"MouldDesk", "makeShot", "(LMouldDesk$Order;)Z"⟩, 14) := ⟨⟨by decide +kernel, by decide +kernel⟩, List.mem_of_getElem? (i := 23) (by decide +kernel), List.mem_of_getElem? (i := 674) (by decide +kernel), List.mem_of_getElem? (i := 675) (by decide +kernel)⟩
theorem lw_p9 : lw_okq (⟨"MouldDeskModel", "isResin", "(I)Z"⟩, 34) := ⟨⟨by decide +kernel, by decide +kernel⟩, List.mem_of_getElem? (i := 729) (by decide +kernel), List.mem_of_getElem? (i := 859) (by decide +kernel), List.mem_of_getElem? (i := 860) (by decide +kernel)⟩
theorem lw_p10 : lw_okq (⟨"MouldDeskModel", "isLot", "(I)Z"⟩, 34) := ⟨⟨by decide +kernel, by decide +kernel⟩, List.mem_of_getElem? (i := 729) (by decide +kernel), List.mem_of_getElem? (i := 868) (by decide +kernel), List.mem_of_getElem? (i := 869) (by decide +kernel)⟩
theorem lw_p11 : lw_okq (⟨"MouldDeskModel", "leaves", "(I)V"⟩, 34) := ⟨⟨by decide +kernel, by decide +kernel⟩, List.mem_of_getElem? (i := 729) (by decide +kernel), List.mem_of_getElem? (i := 872) (by decide +kernel), List.mem_of_getElem? (i := 873) (by decide +kernel)⟩
theorem lw_p12 : lw_okq (⟨"MouldDeskModel", "toDry", "(I)I"⟩, 34) := ⟨⟨by decide +kernel, by decide +kernel⟩, List.mem_of_getElem? (i := 729) (by decide +kernel), List.mem_of_getElem? (i := 884) (by decide +kernel), List.mem_of_getElem? (i := 885) (by decide +kernel)⟩
theorem lw_p13 : lw_okq (⟨"MouldDeskModel", "dryOf", "(I)I"⟩, 34) := ⟨⟨by decide +kernel, by decide +kernel⟩, List.mem_of_getElem? (i := 729) (by decide +kernel), List.mem_of_getElem? (i := 893) (by decide +kernel), List.mem_of_getElem? (i := 894) (by decide +kernel)⟩
theorem lw_p14 : lw_okq (⟨"MouldDeskModel", "isCavity", "(II)Z"⟩, 34) := ⟨⟨by decide +kernel, by decide +kernel⟩, List.mem_of_getElem? (i := 729) (by decide +kernel), List.mem_of_getElem? (i := 909) (by decide +kernel), List.mem_of_getElem? (i := 910) (by decide +kernel)⟩
theorem lw_p15 : lw_okq (⟨"MouldDeskModel", "isMould", "(I)Z"⟩, 34) := ⟨⟨by decide +kernel, by decide +kernel⟩, List.mem_of_getElem? (i := 729) (by decide +kernel), List.mem_of_getElem? (i := 913) (by decide +kernel), List.mem_of_getElem? (i := 914) (by decide +kernel)⟩
def lw_privs_1 : List (MethodName × Nat) := [(⟨"java/lang/Throwable", "fillInStackTrace", "(I)Ljava/lang/Throwable;"⟩, 6), (⟨"MouldDesk", "resinOf", "(I)LMouldDesk$Resin;"⟩, 14), (⟨"MouldDesk", "lotOf", "(I)LMouldDesk$Lot;"⟩, 14), (⟨"MouldDesk", "mouldOf", "(I)LMouldDesk$Mould;"⟩, 14), (⟨"MouldDesk", "machineOf", "(I)LMouldDesk$Machine;"⟩, 14), (⟨"MouldDesk", "orderOf", "(I)LMouldDesk$Order;"⟩, 14), (⟨"MouldDesk", "passOneHour", "()I"⟩, 14), (⟨"MouldDesk", "workOneHour", "(LMouldDesk$Machine;)I"⟩, 14), (⟨"MouldDesk", "makeShot", "(LMouldDesk$Order;)Z"⟩, 14), (⟨"MouldDeskModel", "isResin", "(I)Z"⟩, 34), (⟨"MouldDeskModel", "isLot", "(I)Z"⟩, 34), (⟨"MouldDeskModel", "leaves", "(I)V"⟩, 34), (⟨"MouldDeskModel", "toDry", "(I)I"⟩, 34), (⟨"MouldDeskModel", "dryOf", "(I)I"⟩, 34), (⟨"MouldDeskModel", "isCavity", "(II)Z"⟩, 34), (⟨"MouldDeskModel", "isMould", "(I)Z"⟩, 34)]
theorem lw_r1 : ∀ q ∈ lw_privs_1, lw_okq q := List.forall_mem_cons.mpr ⟨lw_p0, List.forall_mem_cons.mpr ⟨lw_p1, List.forall_mem_cons.mpr ⟨lw_p2, List.forall_mem_cons.mpr ⟨lw_p3, List.forall_mem_cons.mpr ⟨lw_p4, List.forall_mem_cons.mpr ⟨lw_p5, List.forall_mem_cons.mpr ⟨lw_p6, List.forall_mem_cons.mpr ⟨lw_p7, List.forall_mem_cons.mpr ⟨lw_p8, List.forall_mem_cons.mpr ⟨lw_p9, List.forall_mem_cons.mpr ⟨lw_p10, List.forall_mem_cons.mpr ⟨lw_p11, List.forall_mem_cons.mpr ⟨lw_p12, List.forall_mem_cons.mpr ⟨lw_p13, List.forall_mem_cons.mpr ⟨lw_p14, List.forall_mem_cons.mpr ⟨lw_p15, fun _ h => absurd h List.not_mem_nil⟩⟩⟩⟩⟩⟩⟩⟩⟩⟩⟩⟩⟩⟩⟩⟩
theorem lw_p16 : lw_okq (⟨"MouldDeskModel", "fails", "(II)V"⟩, 34) := ⟨⟨by decide +kernel, by decide +kernel⟩, List.mem_of_getElem? (i := 729) (by decide +kernel), List.mem_of_getElem? (i := 917) (by decide +kernel), List.mem_of_getElem? (i := 918) (by decide +kernel)⟩
theorem lw_p17 : lw_okq (⟨"MouldDeskModel", "open", "(I)I"⟩, 34) := ⟨⟨by decide +kernel, by decide +kernel⟩, List.mem_of_getElem? (i := 729) (by decide +kernel), List.mem_of_getElem? (i := 925) (by decide +kernel), List.mem_of_getElem? (i := 926) (by decide +kernel)⟩
theorem lw_p18 : lw_okq (⟨"MouldDeskModel", "isMounted", "(I)Z"⟩, 34) := ⟨⟨by decide +kernel, by decide +kernel⟩, List.mem_of_getElem? (i := 729) (by decide +kernel), List.mem_of_getElem? (i := 933) (by decide +kernel), List.mem_of_getElem? (i := 934) (by decide +kernel)⟩
theorem lw_p19 : lw_okq (⟨"MouldDeskModel", "raises", "(I)I"⟩, 34) := ⟨⟨by decide +kernel, by decide +kernel⟩, List.mem_of_getElem? (i := 729) (by decide +kernel), List.mem_of_getElem? (i := 941) (by decide +kernel), List.mem_of_getElem? (i := 942) (by decide +kernel)⟩
theorem lw_p20 : lw_okq (⟨"MouldDeskModel", "isMachine", "(I)Z"⟩, 34) := ⟨⟨by decide +kernel, by decide +kernel⟩, List.mem_of_getElem? (i := 729) (by decide +kernel), List.mem_of_getElem? (i := 953) (by decide +kernel), List.mem_of_getElem? (i := 954) (by decide +kernel)⟩
theorem lw_p21 : lw_okq (⟨"MouldDeskModel", "isOrder", "(I)Z"⟩, 34) := ⟨⟨by decide +kernel, by decide +kernel⟩, List.mem_of_getElem? (i := 729) (by decide +kernel), List.mem_of_getElem? (i := 961) (by decide +kernel), List.mem_of_getElem? (i := 962) (by decide +kernel)⟩
theorem lw_p22 : lw_okq (⟨"MouldDeskModel", "hour", "()I"⟩, 34) := ⟨⟨by decide +kernel, by decide +kernel⟩, List.mem_of_getElem? (i := 729) (by decide +kernel), List.mem_of_getElem? (i := 998) (by decide +kernel), List.mem_of_getElem? (i := 999) (by decide +kernel)⟩
theorem lw_p23 : lw_okq (⟨"MouldDeskModel", "shoots", "(I)I"⟩, 34) := ⟨⟨by decide +kernel, by decide +kernel⟩, List.mem_of_getElem? (i := 729) (by decide +kernel), List.mem_of_getElem? (i := 1002) (by decide +kernel), List.mem_of_getElem? (i := 1003) (by decide +kernel)⟩
theorem lw_p24 : lw_okq (⟨"MouldDeskModel", "takes", "(II)V"⟩, 34) := ⟨⟨by decide +kernel, by decide +kernel⟩, List.mem_of_getElem? (i := 729) (by decide +kernel), List.mem_of_getElem? (i := 1007) (by decide +kernel), List.mem_of_getElem? (i := 1008) (by decide +kernel)⟩
def lw_privs_2 : List (MethodName × Nat) := [(⟨"MouldDeskModel", "fails", "(II)V"⟩, 34), (⟨"MouldDeskModel", "open", "(I)I"⟩, 34), (⟨"MouldDeskModel", "isMounted", "(I)Z"⟩, 34), (⟨"MouldDeskModel", "raises", "(I)I"⟩, 34), (⟨"MouldDeskModel", "isMachine", "(I)Z"⟩, 34), (⟨"MouldDeskModel", "isOrder", "(I)Z"⟩, 34), (⟨"MouldDeskModel", "hour", "()I"⟩, 34), (⟨"MouldDeskModel", "shoots", "(I)I"⟩, 34), (⟨"MouldDeskModel", "takes", "(II)V"⟩, 34)]
theorem lw_r2 : ∀ q ∈ lw_privs_2, lw_okq q := List.forall_mem_cons.mpr ⟨lw_p16, List.forall_mem_cons.mpr ⟨lw_p17, List.forall_mem_cons.mpr ⟨lw_p18, List.forall_mem_cons.mpr ⟨lw_p19, List.forall_mem_cons.mpr ⟨lw_p20, List.forall_mem_cons.mpr ⟨lw_p21, List.forall_mem_cons.mpr ⟨lw_p22, List.forall_mem_cons.mpr ⟨lw_p23, List.forall_mem_cons.mpr ⟨lw_p24, fun _ h => absurd h List.not_mem_nil⟩⟩⟩⟩⟩⟩⟩⟩⟩
def lw_privs : List (MethodName × Nat) := lw_privs_1 ++ (lw_privs_2)
def lw_tbl : List Cond := k2_sels lw_privs ++ tables_1
theorem lw_privs_ok : ∀ q ∈ lw_privs, lw_okq q := by
  show ∀ q ∈ lw_privs_1 ++ (lw_privs_2), lw_okq q
  exact List.forall_mem_append.mpr ⟨lw_r1, lw_r2⟩
/-- the streams that the claim lets the run draw from -/
abbrev lw_cs : List Choice := [Jvm.Choice.named "NaN.bits"]
theorem lw_bits : nanBits ∈ lw_cs := by first | decide | exact List.mem_cons_self | simp [lw_cs, nanBits]

/-! ===== BEGIN exceptions that leave a method, and their catching by the caller (launches without stack traces) ===== -/
section VXA
/-! The laws vx_back, vx_callV, vx_callS, vx_callSW, vx_throw0, vx_throwS follow proofs of the library, with one case more: JvmDerived/Free/Laws.lean (Back.of_free), Shelf42/LK1.lean (callV, callS), Shelf/KitTraced.lean (throwNew0V, throwNewS). -/
/-- where a method has thrown q: the class by its name, the cell, what was written, the world -/
def vx_T (XC : String → State → State → Prop) (st : State) (q : Addr) (t : State) (mc ms : Nat) (free : Addr → Prop) : Prop :=
  ∃ (E : String) (ce : Cell) (L : List Loc), XC E st t ∧ t.heap[q]? = some ce ∧ ce.vm = .none ∧ st.vm.findClass E = some ce.cls ∧ st.WarmedH t.vm ∧ st.sameButNew ({ t with vm := st.vm } : State) L mc ms ∧ ∀ z ∈ L, free z.base
def vx_Q (Qc : Array Value → State → Outcome → State → Prop) (XC : String → State → State → Prop) (mc ms : Nat) (free : Addr → Prop) : Array Value → State → Outcome → State → Prop := fun a st o t =>
  (Qc a st o t ∧ ∃ L, FrameEnd st o t L mc ms ∧ ∀ q ∈ L, free q.base) ∨ ∃ q, o = .threw q ∧ vx_T XC st q t mc ms free
/-- a callee that returns or throws -/
def vx_Met (l : Launch) (y : MethodName) (ws : List Cond) (rm : Room) (Pc : Array Value → State → Prop) (Qc : Array Value → State → Outcome → State → Prop) (XC : String → State → State → Prop) (mc ms : Nat) (free : Addr → Prop) : Prop :=
  MetFree l y (headSpec ws rm) Pc (fun _ _ _ _ _ => True) (vx_Q Qc XC mc ms free)
def vx_Post (XC : String → State → State → Prop) (mc ms : Nat) (free : Addr → Prop) : Pt → Array Value → Addr → Pt → Prop := fun A a q B =>
  ∃ (g : JFrame) (mk : MethodId) (t : State) (L : List Loc) (E : String) (ce : Cell), B.U.heap = t.heap ∧ B.U.vm = t.vm ∧ XC E (A.U.calling g mk a) t ∧ t.heap[q]? = some ce ∧ ce.vm = .none ∧ A.U.vm.findClass E = some ce.cls ∧ B.locs = A.locs ++ L ∧ (∀ z ∈ L, free z.base) ∧ B.cells = A.cells + mc ∧ B.slots = A.slots + ms
def vx_Back (l : Launch) (R : Room) (p : Program) (e : Env) (below : List Frame) (s : State) (sargs : Array Value) (y : MethodName) (len W9 : Nat)
    (Pre : Pt → Array Value → Prop) (Post : Pt → Array Value → Option Value → Pt → Prop) (PostX : Pt → Array Value → Addr → Pt → Prop) : Prop :=
  ∀ (m : MethodId) (meth : Method) (c : Code) (A : Pt) (g : JFrame) (ig : Instr) (mk : MethodId) (a : Array Value),
    Stand p l e R s m sargs below meth c A.U A.locs A.cells A.slots → g.method = m → g.locals.size = c.maxLocals → decode c.code g.pc = .ok (ig, len) →
    2 * g.monitorRoom + (g.stack.map fun v => v.category).sum ≤ W9 → A.U.methodNamed? y = some mk → Pre A a →
    (∃ (v : Option Value) (B : Pt), Stand p l e R s m sargs below meth c B.U B.locs B.cells B.slots ∧ Post A a v B ∧
      Steps p.tables e below (doInvoke e (A.U.setTop g) [] mk a).1 (B.U.setTop { g with pc := g.pc + len, stack := v.toList ++ g.stack })) ∨
    (∃ (q : Addr) (B : Pt), Stand p l e R s m sargs below meth c B.U B.locs B.cells B.slots ∧ PostX A a q B ∧
      Steps p.tables e below (doInvoke e (A.U.setTop g) [] mk a).1 ((B.U.setTop g).pushFrame (.throwing q)))
section Payer
variable {l : Launch} {R : Room} {p : Program} {e : Env} {below : List Frame} {s : State} {sargs : Array Value} {y : MethodName} {len W9 : Nat}
theorem vx_back {ws : List Cond} {rm : Room} {Pc : Array Value → State → Prop} {Qc : Array Value → State → Outcome → State → Prop} {XC : String → State → State → Prop} {mc ms : Nat} {free : Addr → Prop} {bytes : ByteArray} {maxL : Nat} {ret : Option FieldType}
    (hM : vx_Met l y ws rm Pc Qc XC mc ms free) (hblind : FrameBlind Pc) (hrc : rm.cells = mc) (hrs : rm.slots = ms)
    (hframes : rm.frames + 1 ≤ R.frames) (hlocals : W9 + (maxL + 11) + rm.locals ≤ R.locals)
    (hws : ∀ w ∈ ws, ∀ a' U, s.WarmedH U.vm → w.before a' U = true) (hcode : Cond.code y bytes maxL ret ∈ ws) (hinit : ∀ a' U, s.WarmedH U.vm → (Cond.initialized y.cls).before a' U = true) :
    vx_Back l R p e below s sargs y len W9 (PreOf R mc ms Pc) (PostOf Qc mc ms free) (vx_Post XC mc ms free) := by
  intro m meth c A g ig mk a X hg hsize hdg hW hn hp
  have h1 : (headSpec ws rm).pre.before a A.U = true := atoms_intro fun w hw => hws w hw _ _ X.warmed
  have h2 : (Cond.code y bytes maxL ret).before a A.U = true := hws _ hcode _ _ X.warmed
  have h3 : (Cond.initialized y.cls).before a A.U = true := hinit _ _ X.warmed
  have h4 : A.cells + (headSpec ws rm).room.cells ≤ R.cells := by rw [show (headSpec ws rm).room.cells = mc from hrc]; exact hp.1
  have h5 : A.slots + (headSpec ws rm).room.slots ≤ R.slots := by rw [show (headSpec ws rm).room.slots = ms from hrs]; exact hp.2.1
  have hPc : Pc a (A.U.calling g mk a) := hblind _ _ _ _ hp.2.2
  obtain ⟨U, Ls, c0, s0⟩ := A
  dsimp only [Pt.U, Pt.locs, Pt.cells, Pt.slots] at h1 h2 h3 h4 h5 X hn hPc ⊢
  obtain ⟨methY, cY, hmY, hcY, -, hlY, -, -, -, -⟩ := Cond.code_spec hn h2
  obtain ⟨kY, hkY, -⟩ := className_of_methodNamed hn
  have hinitY : kY.init = .initialized := Cond.initialized_spec (findClass_of_methodNamed hn) hkY h3
  have h : At U g.method c below := by rw [hg]; exact X.here
  have hlocals9 : W9 + (maxL + 11) + (headSpec ws rm).room.locals ≤ R.locals := hlocals
  have happ : (headSpec ws rm).appliesLoose y e.platform (U.calling g mk a) = true :=
    Spec.appliesLoose_calling (g := g) h hdg hn hkY hinitY
      (X.room_calling (g := g) (R' := (headSpec ws rm).room) hsize hmY hcY hframes (by rw [hlY]; omega) h4 h5) h1
  obtain ⟨mid, hmid⟩ := h.above
  have hfr : (U.setTop g).frames = (.java g :: mid) ++ below := by rw [State.frames_setTop' g h.top, hmid]; rfl
  obtain ⟨o, s₂, hsteps, -, hend, hq⟩ := Steps.callFree hM p X.admits X.cas X.clock (acts := []) hfr happ hPc trivial
  have hq' : vx_Q Qc XC mc ms free a (U.calling g mk a) o s₂ := hq
  rw [State.frames_setTop' g h.top] at hend
  obtain ⟨g₀, hg0⟩ := Option.isSome_iff_exists.mp h.top
  obtain ⟨r, hr⟩ := State.topJava?_eq_some.mp hg0
  have hr' : (({ U with heap := s₂.heap, slotsUsed := s₂.slotsUsed } : State).setVm s₂.vm).frames = .java g₀ :: r := hr
  rcases hq' with ⟨hqc, L, hfe, hL⟩ | ⟨q, rfl, E, ce, L, hx, hce, hcv, hcl, hW₂, hsm, hL⟩
  · obtain ⟨⟨v, rfl⟩, hW₂, e2, q2, q3, q4, q5, q6⟩ := id hfe
    have e3 : s₂ = ({ (U.calling g mk a).setFrames s₂.frames with heap := s₂.heap, slotsUsed := s₂.slotsUsed } : State).setVm s₂.vm := by
      have : s₂ = ({ s₂ with vm := (U.calling g mk a).vm } : State).setVm s₂.vm := rfl
      rw [e2] at this
      exact this
    obtain ⟨c₂, i₂, len₂, hc₂, hd₂, hf₂⟩ := hend
    have hW' : U.WarmedH s₂.vm := hW₂
    have hcc : c₂ = c := by
      have h1 : s₂.code? g.method = U.code? g.method := by
        rw [State.code?_eq, State.code?_eq, hW'.alike.method?]
      exact Option.some.inj (hc₂.symm.trans (h1.trans h.code))
    subst hcc
    have hlen : len₂ = len := by rw [hdg] at hd₂; cases hd₂; rfl
    subst hlen
    have hs₂ : s₂ = (({ U with heap := s₂.heap, slotsUsed := s₂.slotsUsed } : State).setVm s₂.vm).setTop { g with pc := g.pc + len₂, stack := v.toList ++ g.stack } := by
      refine e3.trans ?_
      rw [hf₂, State.calling_eq h.top, State.setFrames_setFrames, State.setTop_of_frames _ hr', hr]
      rfl
    have hsame : U.sameButNew ({ U with heap := s₂.heap, slotsUsed := s₂.slotsUsed } : State) L mc ms := by
      refine ⟨?_, q2, q3, q4, q5, q6⟩
      obtain ⟨t, ht, -⟩ := State.frames_cons hr
      show ({ U with heap := s₂.heap, slotsUsed := s₂.slotsUsed } : State) = { U.setFrames U.frames with heap := s₂.heap, slotsUsed := s₂.slotsUsed }
      rw [State.setFrames_self ht]
    subst hg
    refine Or.inl ⟨v, ⟨(({ U with heap := s₂.heap, slotsUsed := s₂.slotsUsed } : State).setVm s₂.vm), Ls ++ L, c0 + mc, s0 + ms⟩,
      ⟨X.admits, X.cas, X.clock, X.frames, X.room, X.hears, X.method, X.code, (X.here.setHeapUsed s₂.heap s₂.slotsUsed).setVm hW'.alike, X.tail, State.WarmedH.trans X.warmed hW', X.limits, X.bytes, X.same.trans (hsame.setVm s.vm)⟩,
      ⟨g, mk, s₂, L, rfl, rfl, hqc, rfl, hL, rfl, rfl⟩, ?_⟩
    show Steps p.tables e below _ ((({ U with heap := s₂.heap, slotsUsed := s₂.slotsUsed } : State).setVm s₂.vm).setTop { g with pc := g.pc + len₂, stack := v.toList ++ g.stack })
    rw [← hs₂]
    exact hsteps
  · obtain ⟨e2, q2, q3, q4, q5, q6⟩ := id hsm
    have e3 : s₂ = ({ (U.calling g mk a).setFrames s₂.frames with heap := s₂.heap, slotsUsed := s₂.slotsUsed } : State).setVm s₂.vm := by
      have : s₂ = ({ s₂ with vm := (U.calling g mk a).vm } : State).setVm s₂.vm := rfl
      rw [e2] at this
      exact this
    have hf₂ : s₂.frames = .throwing q :: .java g :: U.frames.tail := hend
    have hW' : U.WarmedH s₂.vm := hW₂
    have hs₂ : s₂ = ((({ U with heap := s₂.heap, slotsUsed := s₂.slotsUsed } : State).setVm s₂.vm).setTop g).pushFrame (.throwing q) := by
      refine e3.trans ?_
      rw [hf₂, State.calling_eq h.top, State.setFrames_setFrames, State.pushFrame, State.frames_setTop _ hr', State.setTop_of_frames _ hr', State.setFrames_setFrames, hr]
      rfl
    have hsame : U.sameButNew ({ U with heap := s₂.heap, slotsUsed := s₂.slotsUsed } : State) L mc ms := by
      refine ⟨?_, q2, q3, q4, q5, q6⟩
      obtain ⟨t, ht, -⟩ := State.frames_cons hr
      show ({ U with heap := s₂.heap, slotsUsed := s₂.slotsUsed } : State) = { U.setFrames U.frames with heap := s₂.heap, slotsUsed := s₂.slotsUsed }
      rw [State.setFrames_self ht]
    subst hg
    refine Or.inr ⟨q, ⟨(({ U with heap := s₂.heap, slotsUsed := s₂.slotsUsed } : State).setVm s₂.vm), Ls ++ L, c0 + mc, s0 + ms⟩,
      ⟨X.admits, X.cas, X.clock, X.frames, X.room, X.hears, X.method, X.code, (X.here.setHeapUsed s₂.heap s₂.slotsUsed).setVm hW'.alike, X.tail, State.WarmedH.trans X.warmed hW', X.limits, X.bytes, X.same.trans (hsame.setVm s.vm)⟩,
      ⟨g, mk, s₂, L, E, ce, rfl, rfl, hx, hce, hcv, hcl, rfl, hL, rfl, rfl⟩, ?_⟩
    show Steps p.tables e below _ (((({ U with heap := s₂.heap, slotsUsed := s₂.slotsUsed } : State).setVm s₂.vm).setTop g).pushFrame (.throwing q))
    rw [← hs₂]
    exact hsteps
end Payer
section Calls
variable {p : Program} {l : Launch} {e : Env} {R : Room} {s : State} {m : MethodId} {args : Array Value} {below : List Frame} {meth : Method} {c : Code} {T : State} {locs : List Loc} {cells slots : Nat}
theorem vx_callV (X : Stand p l e R s m args below meth c T locs cells slots) (hexec : p.tables.exec = Jvm.exec) {own C : String} {index : Nat} {y : MethodName} {bytes : ByteArray} {maxL : Nat} {ret : Option FieldType}
    (hown : s.vm.findClass own = some m.cls) (hlink : (Cond.methodLink own index y).before args s = true) (hinst : (Cond.instanceMethod y).before args s = true) (hsel : (Cond.selects C y y).before args s = true)
    (hcode : (Cond.code y bytes maxL ret).before args s = true) (hy : y.cls ≠ "java/lang/invoke/MethodHandle" ∧ y.cls ≠ "java/lang/invoke/VarHandle")
    {W9 : Nat} {Pre : Pt → Array Value → Prop} {Post : Pt → Array Value → Option Value → Pt → Prop} {PostX : Pt → Array Value → Addr → Pt → Prop} (hK : vx_Back l R p e below s args y 3 W9 Pre Post PostX)
    {b : Addr} {cellB : Cell} (hcell : T.heap[b]? = some cellB) (hobj : cellB.vm.isStatics = false) (hcls : s.vm.findClass C = some cellB.cls)
    {g : JFrame} (hg : g.method = m) (hsize : g.locals.size = c.maxLocals) {argsL rest : List Value} (hlen : ∀ sig, parseMethodDescriptor y.desc = some sig → argsL.length = sig.parameters.length)
    (hstack : g.stack = argsL.reverse ++ .ref b :: rest) (hW : 2 * g.monitorRoom + (rest.map fun v => v.category).sum ≤ W9) (hdg : decode c.code g.pc = .ok (.invokevirtual index, 3))
    (hpre : ∀ vm₁, s.WarmedH vm₁ → Pre ⟨T.setVm vm₁, locs, cells, slots⟩ (Value.ref b :: argsL).toArray) :
    (∃ (v : Option Value) (vm₁ : Vm) (B : Pt), s.WarmedH vm₁ ∧ Stand p l e R s m args below meth c B.U B.locs B.cells B.slots ∧ Post ⟨T.setVm vm₁, locs, cells, slots⟩ (Value.ref b :: argsL).toArray v B ∧
      ∀ target, Steps p.tables e below (B.U.setTop { g with pc := g.pc + 3, stack := v.toList ++ rest }) target → Steps p.tables e below (T.setTop g) target) ∨
    (∃ (q : Addr) (vm₁ : Vm) (B : Pt), s.WarmedH vm₁ ∧ Stand p l e R s m args below meth c B.U B.locs B.cells B.slots ∧ PostX ⟨T.setVm vm₁, locs, cells, slots⟩ (Value.ref b :: argsL).toArray q B ∧
      Steps p.tables e below (T.setTop g) ((B.U.setTop { g with stack := rest }).pushFrame (.throwing q))) := by
  obtain ⟨mk, methM, hnamed, hmethM, hstM, habM⟩ := Cond.instanceMethod_spec hinst
  obtain ⟨methM', cM, hmethM', -, -, -, -, -, -, hsigM⟩ := Cond.code_spec hnamed hcode
  cases hmethM.symm.trans hmethM'
  obtain ⟨c2, r2, m2, q1, q2, q3, q4, kP, hkP, hkPi⟩ := Cond.selects_spec hsel
  cases hcls.symm.trans q1
  cases (State.methodFound?_of_named hnamed hy).symm.trans q2
  cases hnamed.symm.trans q3
  have hselP : selectMethod e.platform s.vm cellB.cls mk = .method mk := by rw [Launch.admits_selectMethod X.admits]; exact q4
  obtain ⟨vm₁, X₁, hstep₁⟩ := X.invokevirtual hexec hown hlink hnamed hmethM hstM hkP hkPi hy (a := b) (cell := cellB) hcell
    (fun z h => by rw [h] at hobj; cases hobj) hselP hmethM habM hkP hkPi (g := g) hg (argsL := argsL) (rest := rest) (hlen _ hsigM) hstack hdg
  rcases hK m meth c ⟨T.setVm vm₁, locs, cells, slots⟩ { g with stack := rest } (.invokevirtual index) mk (Value.ref b :: argsL).toArray X₁ hg hsize hdg hW (X₁.named hnamed) (hpre vm₁ X₁.warmed) with ⟨v, B, X', hpost, hsteps⟩ | ⟨q, B, X', hpost, hsteps⟩
  · exact Or.inl ⟨v, vm₁, B, X₁.warmed, X', hpost, fun target h => hstep₁ _ fun acts => by rw [doInvoke_state]; exact hsteps.trans h⟩
  · exact Or.inr ⟨q, vm₁, B, X₁.warmed, X', hpost, hstep₁ _ fun acts => by rw [doInvoke_state]; exact hsteps⟩
theorem vx_callS (X : Stand p l e R s m args below meth c T locs cells slots) (hexec : p.tables.exec = Jvm.exec) {own : String} {index : Nat} {y : MethodName} {bytes : ByteArray} {maxL : Nat} {ret : Option FieldType}
    (hown : s.vm.findClass own = some m.cls) (hlink : (Cond.methodLink own index y).before args s = true) (hstat : (Cond.static y).before args s = true) (hinit : (Cond.initialized y.cls).before args s = true)
    (hcode : (Cond.code y bytes maxL ret).before args s = true) (hy : y.cls ≠ "java/lang/invoke/MethodHandle" ∧ y.cls ≠ "java/lang/invoke/VarHandle")
    {W9 : Nat} {Pre : Pt → Array Value → Prop} {Post : Pt → Array Value → Option Value → Pt → Prop} {PostX : Pt → Array Value → Addr → Pt → Prop} (hK : vx_Back l R p e below s args y 3 W9 Pre Post PostX)
    {g : JFrame} (hg : g.method = m) (hsize : g.locals.size = c.maxLocals) {argsL rest : List Value} (hlen : ∀ sig, parseMethodDescriptor y.desc = some sig → argsL.length = sig.parameters.length)
    (hstack : g.stack = argsL.reverse ++ rest) (hW : 2 * g.monitorRoom + (rest.map fun v => v.category).sum ≤ W9) (hdg : decode c.code g.pc = .ok (.invokestatic index, 3))
    (hpre : ∀ vm₁, s.WarmedH vm₁ → Pre ⟨T.setVm vm₁, locs, cells, slots⟩ argsL.toArray) :
    (∃ (v : Option Value) (vm₁ : Vm) (B : Pt), s.WarmedH vm₁ ∧ Stand p l e R s m args below meth c B.U B.locs B.cells B.slots ∧ Post ⟨T.setVm vm₁, locs, cells, slots⟩ argsL.toArray v B ∧
      ∀ target, Steps p.tables e below (B.U.setTop { g with pc := g.pc + 3, stack := v.toList ++ rest }) target → Steps p.tables e below (T.setTop g) target) ∨
    (∃ (q : Addr) (vm₁ : Vm) (B : Pt), s.WarmedH vm₁ ∧ Stand p l e R s m args below meth c B.U B.locs B.cells B.slots ∧ PostX ⟨T.setVm vm₁, locs, cells, slots⟩ argsL.toArray q B ∧
      Steps p.tables e below (T.setTop g) ((B.U.setTop { g with stack := rest }).pushFrame (.throwing q))) := by
  obtain ⟨mk, hnamed⟩ := Cond.code_named hcode
  obtain ⟨methM, cM, hmethM, -, -, -, -, -, -, hsigM⟩ := Cond.code_spec hnamed hcode
  have hstatic : methM.isStatic = true := Cond.static_spec hnamed hmethM hstat
  obtain ⟨kP, hkP, -⟩ := className_of_methodNamed hnamed
  have hinitP : kP.init = .initialized := Cond.initialized_spec (findClass_of_methodNamed hnamed) hkP hinit
  obtain ⟨vm₁, X₁, hstep₁⟩ := X.invokestatic hexec hown hlink hnamed hmethM hstatic hkP hinitP hy (g := g) hg (argsL := argsL) (rest := rest) (hlen _ hsigM) hstack hdg
  rcases hK m meth c ⟨T.setVm vm₁, locs, cells, slots⟩ { g with stack := rest } (.invokestatic index) mk argsL.toArray X₁ hg hsize hdg hW (X₁.named hnamed) (hpre vm₁ X₁.warmed) with ⟨v, B, X', hpost, hsteps⟩ | ⟨q, B, X', hpost, hsteps⟩
  · exact Or.inl ⟨v, vm₁, B, X₁.warmed, X', hpost, fun target h => hstep₁ _ fun acts => by rw [doInvoke_state]; exact hsteps.trans h⟩
  · exact Or.inr ⟨q, vm₁, B, X₁.warmed, X', hpost, hstep₁ _ fun acts => by rw [doInvoke_state]; exact hsteps⟩
end Calls
theorem vx_cls {s : State} {T : State} {vm₁ : Vm} {E : String} {k : ClassId} (hW : s.WarmedH vm₁) (h : (T.setVm vm₁).vm.findClass E = some k) : s.vm.findClass E = some k := by
  have h1 : vm₁.findClass E = some k := h
  rw [hW.alike.findClass] at h1
  exact h1
/-- the method's frame g, with q thrown over it -/
def vx_W (p : Program) (l : Launch) (e : Env) (R : Room) (s : State) (m : MethodId) (args : Array Value) (below : List Frame) (meth : Method) (c : Code) (H : Heap) (locs : List Loc) (cells slots : Nat) (Q : State → Prop) (g : JFrame) (q : Addr) : Prop :=
  ∀ T : State, T.heap = H → Stand p l e R s m args below meth c T locs cells slots → ∃ t, Steps p.tables e below ((T.setTop g).pushFrame (.throwing q)) t ∧ Q t
def vx_Run (p : Program) (l : Launch) (e : Env) (R : Room) (s : State) (m : MethodId) (args : Array Value) (below : List Frame) (meth : Method) (c : Code) (H : Heap) (locs : List Loc) (cells slots mc ms : Nat) (g : JFrame) (rest : List Value) (Qa : State → Outcome → State → Prop) (XC : String → State → State → Prop) (free : Addr → Prop) : Prop :=
  ∀ T : State, T.heap = H → Stand p l e R s m args below meth c T locs cells slots →
    (∃ (v : Option Value) (st₀ t T' : State) (L : List Loc), st₀.heap = H ∧ Stand p l e R s m args below meth c T' (locs ++ L) (cells + mc) (slots + ms) ∧ (∀ q ∈ L, free q.base) ∧ T'.heap = t.heap ∧ T'.vm = t.vm ∧ Qa st₀ (.returned v) t ∧
      Goes p e below T g T' { g with pc := g.pc + 3, stack := v.toList ++ rest }) ∨
    (∃ (q : Addr) (st₀ t T' : State) (L : List Loc) (E : String) (ce : Cell), st₀.heap = H ∧ Stand p l e R s m args below meth c T' (locs ++ L) (cells + mc) (slots + ms) ∧ (∀ z ∈ L, free z.base) ∧ T'.heap = t.heap ∧ T'.vm = t.vm ∧ XC E st₀ t ∧ t.heap[q]? = some ce ∧ ce.vm = .none ∧ s.vm.findClass E = some ce.cls ∧
      Steps p.tables e below (T.setTop g) ((T'.setTop { g with stack := rest }).pushFrame (.throwing q)))
def vx_X {S : Type} (px : S → Prop) (B : String → S → State → Prop) (A : Nat → Prop) : String → State → State → Prop := fun E st t => ∃ u : S, px u ∧ B E u t ∧ va_F A st t
section Runs
variable {p : Program} {l : Launch} {e : Env} {R : Room} {s : State} {m : MethodId} {args : Array Value} {below : List Frame} {meth : Method} {c : Code} {H : Heap} {locs : List Loc} {cells slots : Nat}
variable {y : MethodName} {bytes cc : ByteArray} {maxL nL mc ms n index : Nat} {ret : Option FieldType} {ws : List Cond} {rm : Room} {Pc : Array Value → State → Prop} {Qc : Array Value → State → Outcome → State → Prop} {XC : String → State → State → Prop} {free : Addr → Prop} {Ts : List Cond} {own C : String} {b : Addr} {As rest : List Value} {g : JFrame}
theorem vx_callBack (cb : CallB R s args own index y bytes maxL ret ws rm mc ms n) (hM : vx_Met l y ws rm Pc Qc XC mc ms free) (hbl : FrameBlind Pc) : vx_Back l R p e below s args y 3 8 (PreOf R mc ms Pc) (PostOf Qc mc ms free) (vx_Post XC mc ms free) := by
  obtain ⟨hrc, hrs, hfr, hlo, hws, hcw, -, hini, -⟩ := cb
  exact vx_back (bytes := bytes) (maxL := maxL) (ret := ret) hM hbl hrc hrs hfr hlo hws hcw (fun a' U hW => word_at hW (Or.inl (by first | rfl | simp [Cond.onTables, Cond.keeps, Cond.steady])) hini)
theorem vx_runV (S : CallFix p m c cc nL s args Ts own) (hM : vx_Met l y ws rm Pc Qc XC mc ms free) (cw : CallW R s args own C index y bytes maxL ret ws rm mc ms n) (hp : PreV s H C b Pc As)
    (hg : g.method = m) (hn : As.length = n) (hsize : g.locals.size = nL) (hstack : g.stack = As.reverse ++ .ref b :: rest) (hW : 2 * g.monitorRoom + (rest.map fun v => v.category).sum ≤ 8) (hdg : decode cc g.pc = .ok (.invokevirtual index, 3)) (hf : cells + mc ≤ R.cells ∧ slots + ms ≤ R.slots) :
    vx_Run p l e R s m args below meth c H locs cells slots mc ms g rest (Qc (Value.ref b :: As).toArray) XC free := by
  have hK : vx_Back l R p e below s args y 3 8 (PreOf R mc ms Pc) (PostOf Qc mc ms free) (vx_Post XC mc ms free) := vx_callBack cw.1 hM hp.1
  obtain ⟨⟨-, -, -, -, -, -, hcode, -, hy, hlen, hl⟩, hin, hse⟩ := cw
  obtain ⟨hx, hb, hml, ho, -⟩ := S
  obtain ⟨-, ⟨cellB, hcB, hoB, hclB⟩, hPc⟩ := hp
  intro T hT X
  rcases vx_callV X hx (C := C) (bytes := bytes) (maxL := maxL) (ret := ret) ho hl hin hse hcode hy hK (by rw [hT]; exact hcB) hoB hclB hg (hsize.trans hml.symm) (argsL := As) (rest := rest) (fun sig h => hn.trans (hlen sig h)) hstack hW (by rw [hb]; exact hdg)
    (fun vm₁ hW₁ => ⟨hf.1, hf.2, hPc (T.setVm vm₁) hT hW₁⟩) with ⟨v, vm₁, ⟨U', l2, c2, s2⟩, hW₁, X', ⟨g', mk, t, L, e1, e2, hq, h1, hL, h2, h3⟩, st⟩ | ⟨q, vm₁, ⟨U', l2, c2, s2⟩, hW₁, X', ⟨g', mk, t, L, E, ce, e1, e2, hq, hce, hcv, hcl, h1, hL, h2, h3⟩, st⟩
  · dsimp only [Pt.U, Pt.locs, Pt.cells, Pt.slots] at X' e1 e2 h1 h2 h3 st
    subst h1; subst h2; subst h3
    exact Or.inl ⟨v, (T.setVm vm₁).calling g' mk (Value.ref b :: As).toArray, t, U', L, hT, X', hL, e1, e2, hq, st⟩
  · dsimp only [Pt.U, Pt.locs, Pt.cells, Pt.slots] at X' e1 e2 h1 h2 h3 st hcl
    subst h1; subst h2; subst h3
    exact Or.inr ⟨q, (T.setVm vm₁).calling g' mk (Value.ref b :: As).toArray, t, U', L, E, ce, hT, X', hL, e1, e2, hq, hce, hcv, vx_cls hW₁ hcl, st⟩
theorem vx_runS (S : CallFix p m c cc nL s args Ts own) (hM : vx_Met l y ws rm Pc Qc XC mc ms free) (cw : CallB R s args own index y bytes maxL ret ws rm mc ms n ∧ (Cond.static y).before args s = true) (hp : PreS s H Pc As)
    (hg : g.method = m) (hn : As.length = n) (hsize : g.locals.size = nL) (hstack : g.stack = As.reverse ++ rest) (hW : 2 * g.monitorRoom + (rest.map fun v => v.category).sum ≤ 8) (hdg : decode cc g.pc = .ok (.invokestatic index, 3)) (hf : cells + mc ≤ R.cells ∧ slots + ms ≤ R.slots) :
    vx_Run p l e R s m args below meth c H locs cells slots mc ms g rest (Qc As.toArray) XC free := by
  have hK : vx_Back l R p e below s args y 3 8 (PreOf R mc ms Pc) (PostOf Qc mc ms free) (vx_Post XC mc ms free) := vx_callBack cw.1 hM hp.1
  obtain ⟨⟨-, -, -, -, -, -, hcode, hini, hy, hlen, hl⟩, hstt⟩ := cw
  obtain ⟨hx, hb, hml, ho, -⟩ := S
  intro T hT X
  rcases vx_callS X hx (bytes := bytes) (maxL := maxL) (ret := ret) ho hl hstt hini hcode hy hK hg (hsize.trans hml.symm) (argsL := As) (rest := rest) (fun sig h => hn.trans (hlen sig h)) hstack hW (by rw [hb]; exact hdg)
    (fun vm₁ hW₁ => ⟨hf.1, hf.2, hp.2 (T.setVm vm₁) hT hW₁⟩) with ⟨v, vm₁, ⟨U', l2, c2, s2⟩, hW₁, X', ⟨g', mk, t, L, e1, e2, hq, h1, hL, h2, h3⟩, st⟩ | ⟨q, vm₁, ⟨U', l2, c2, s2⟩, hW₁, X', ⟨g', mk, t, L, E, ce, e1, e2, hq, hce, hcv, hcl, h1, hL, h2, h3⟩, st⟩
  · dsimp only [Pt.U, Pt.locs, Pt.cells, Pt.slots] at X' e1 e2 h1 h2 h3 st
    subst h1; subst h2; subst h3
    exact Or.inl ⟨v, (T.setVm vm₁).calling g' mk As.toArray, t, U', L, hT, X', hL, e1, e2, hq, st⟩
  · dsimp only [Pt.U, Pt.locs, Pt.cells, Pt.slots] at X' e1 e2 h1 h2 h3 st hcl
    subst h1; subst h2; subst h3
    exact Or.inr ⟨q, (T.setVm vm₁).calling g' mk As.toArray, t, U', L, E, ce, hT, X', hL, e1, e2, hq, hce, hcv, vx_cls hW₁ hcl, st⟩
end Runs
section Rows
variable {p : Program} {l : Launch} {e : Env} {R : Room} {s : State} {m : MethodId} {args : Array Value} {below : List Frame} {meth : Method} {c : Code} {H : Heap} {locs : List Loc} {cells slots : Nat} {Q : State → Prop}
variable {mc ms : Nat} {free : Addr → Prop} {A0 A1 : Nat → Prop} {H0 : Heap} {a : Array Value} {pc : Nat} {ls : Array Slot} {st0 rest : List Value}
theorem vx_keep {st₀ t T' : State} {L : List Loc} (h0 : st₀.heap = H) (e1 : T'.heap = t.heap) (hS : va_S A0 H0 H locs) (hA : ∀ q, q < H.size → A1 q → A0 q) (hf : ∀ q, free q → A0 q) (hL : ∀ q ∈ L, free q.base) (hF : va_F A1 st₀ t) :
    H.size ≤ T'.heap.size ∧ (∀ q : Nat, q < H.size → ¬ A1 q → T'.heap[q]? = H[q]?) ∧ va_S A0 H0 T'.heap (locs ++ L) := by
  obtain ⟨hz, hk⟩ := hF
  rw [h0] at hz hk
  exact ⟨by rw [e1]; exact hz, fun q h1 h2 => by rw [e1]; exact hk q h1 h2,
    ⟨Nat.le_trans hS.1 (by rw [e1]; exact hz), fun q h1 h2 => by rw [e1, hk q (Nat.lt_of_lt_of_le h1 hS.1) (fun z => h2 (hA q (Nat.lt_of_lt_of_le h1 hS.1) z))]; exact hS.2.1 q h1 h2, fun q hq => by
      rcases List.mem_append.mp hq with h | h
      · exact hS.2.2 q h
      · exact hf _ (hL q h)⟩⟩
theorem vx_calli {S SX : Type} {post : Int32 → S → Prop} {px : SX → Prop} {B : S → State → Prop} {BX : String → SX → State → Prop} {AX : Nat → Prop} (hr : vx_Run p l e R s m args below meth c H locs cells slots mc ms (F0 m pc ls st0) rest (va_Qi post B A1 a) (vx_X px BX AX) free) (hS : va_S A0 H0 H locs) (hA : ∀ q, q < H.size → A1 q → A0 q) (hf : ∀ q, free q → A0 q) (hAX : ∀ q, q < H.size → AX q → A0 q)
    (kx : ∀ (E : String) (ce : Cell) (q9 : Addr) (u : SX) (t : State) (H1 : Heap) (locs1 : List Loc), t.heap = H1 → s.vm.Alike t.vm → px u → BX E u t → H.size ≤ H1.size → (∀ q : Nat, q < H.size → ¬ AX q → H1[q]? = H[q]?) → va_S A0 H0 H1 locs1 → H1[q9]? = some ce → ce.vm = .none → s.vm.findClass E = some ce.cls → vx_W p l e R s m args below meth c H1 locs1 (cells + mc) (slots + ms) Q (F0 m pc ls rest) q9)
    (kk : ∀ (r : Int32) (u : S) (t : State) (H1 : Heap) (locs1 : List Loc), t.heap = H1 → s.vm.Alike t.vm → post r u → B u t → H.size ≤ H1.size → (∀ q : Nat, q < H.size → ¬ A1 q → H1[q]? = H[q]?) → va_S A0 H0 H1 locs1 → W p l e R s m args below meth c H1 locs1 (cells + mc) (slots + ms) Q (F0 m (pc + 3) ls (.int r :: rest))) : W p l e R s m args below meth c H locs cells slots Q (F0 m pc ls st0) := by
  intro T hT X
  rcases hr T hT X with ⟨v, st₀, t, T', L, h0, X', hL, e1, e2, ⟨⟨r, u, hv, hp, hb⟩, hF⟩, st⟩ | ⟨q, st₀, t, T', L, E, ce, h0, X', hL, e1, e2, ⟨u, hp, hb, hF⟩, hce, hcv, hcl, st⟩
  · cases hv
    obtain ⟨k1, k2, k3⟩ := vx_keep h0 e1 hS hA hf hL hF
    obtain ⟨t2, a1, b1⟩ := kk r u t T'.heap (locs ++ L) e1.symm (by rw [← e2]; exact X'.warmed.alike) hp hb k1 k2 k3 T' rfl X'
    exact ⟨t2, st t2 a1, b1⟩
  · obtain ⟨k1, k2, k3⟩ := vx_keep h0 e1 hS hAX hf hL hF
    obtain ⟨t2, a1, b1⟩ := kx E ce q u t T'.heap (locs ++ L) e1.symm (by rw [← e2]; exact X'.warmed.alike) hp hb k1 k2 k3 (by rw [e1]; exact hce) hcv hcl T' rfl X'
    exact ⟨t2, st.trans a1, b1⟩
theorem vx_calll {S SX : Type} {post : Int64 → S → Prop} {px : SX → Prop} {B : S → State → Prop} {BX : String → SX → State → Prop} {AX : Nat → Prop} (hr : vx_Run p l e R s m args below meth c H locs cells slots mc ms (F0 m pc ls st0) rest (va_Ql post B A1 a) (vx_X px BX AX) free) (hS : va_S A0 H0 H locs) (hA : ∀ q, q < H.size → A1 q → A0 q) (hf : ∀ q, free q → A0 q) (hAX : ∀ q, q < H.size → AX q → A0 q)
    (kx : ∀ (E : String) (ce : Cell) (q9 : Addr) (u : SX) (t : State) (H1 : Heap) (locs1 : List Loc), t.heap = H1 → s.vm.Alike t.vm → px u → BX E u t → H.size ≤ H1.size → (∀ q : Nat, q < H.size → ¬ AX q → H1[q]? = H[q]?) → va_S A0 H0 H1 locs1 → H1[q9]? = some ce → ce.vm = .none → s.vm.findClass E = some ce.cls → vx_W p l e R s m args below meth c H1 locs1 (cells + mc) (slots + ms) Q (F0 m pc ls rest) q9)
    (kk : ∀ (r : Int64) (u : S) (t : State) (H1 : Heap) (locs1 : List Loc), t.heap = H1 → s.vm.Alike t.vm → post r u → B u t → H.size ≤ H1.size → (∀ q : Nat, q < H.size → ¬ A1 q → H1[q]? = H[q]?) → va_S A0 H0 H1 locs1 → W p l e R s m args below meth c H1 locs1 (cells + mc) (slots + ms) Q (F0 m (pc + 3) ls (.long r :: rest))) : W p l e R s m args below meth c H locs cells slots Q (F0 m pc ls st0) := by
  intro T hT X
  rcases hr T hT X with ⟨v, st₀, t, T', L, h0, X', hL, e1, e2, ⟨⟨r, u, hv, hp, hb⟩, hF⟩, st⟩ | ⟨q, st₀, t, T', L, E, ce, h0, X', hL, e1, e2, ⟨u, hp, hb, hF⟩, hce, hcv, hcl, st⟩
  · cases hv
    obtain ⟨k1, k2, k3⟩ := vx_keep h0 e1 hS hA hf hL hF
    obtain ⟨t2, a1, b1⟩ := kk r u t T'.heap (locs ++ L) e1.symm (by rw [← e2]; exact X'.warmed.alike) hp hb k1 k2 k3 T' rfl X'
    exact ⟨t2, st t2 a1, b1⟩
  · obtain ⟨k1, k2, k3⟩ := vx_keep h0 e1 hS hAX hf hL hF
    obtain ⟨t2, a1, b1⟩ := kx E ce q u t T'.heap (locs ++ L) e1.symm (by rw [← e2]; exact X'.warmed.alike) hp hb k1 k2 k3 (by rw [e1]; exact hce) hcv hcl T' rfl X'
    exact ⟨t2, st.trans a1, b1⟩
theorem vx_callf {S SX : Type} {post : UInt32 → S → Prop} {px : SX → Prop} {B : S → State → Prop} {BX : String → SX → State → Prop} {AX : Nat → Prop} (hr : vx_Run p l e R s m args below meth c H locs cells slots mc ms (F0 m pc ls st0) rest (va_Qf post B A1 a) (vx_X px BX AX) free) (hS : va_S A0 H0 H locs) (hA : ∀ q, q < H.size → A1 q → A0 q) (hf : ∀ q, free q → A0 q) (hAX : ∀ q, q < H.size → AX q → A0 q)
    (kx : ∀ (E : String) (ce : Cell) (q9 : Addr) (u : SX) (t : State) (H1 : Heap) (locs1 : List Loc), t.heap = H1 → s.vm.Alike t.vm → px u → BX E u t → H.size ≤ H1.size → (∀ q : Nat, q < H.size → ¬ AX q → H1[q]? = H[q]?) → va_S A0 H0 H1 locs1 → H1[q9]? = some ce → ce.vm = .none → s.vm.findClass E = some ce.cls → vx_W p l e R s m args below meth c H1 locs1 (cells + mc) (slots + ms) Q (F0 m pc ls rest) q9)
    (kk : ∀ (r : UInt32) (u : S) (t : State) (H1 : Heap) (locs1 : List Loc), t.heap = H1 → s.vm.Alike t.vm → post r u → B u t → H.size ≤ H1.size → (∀ q : Nat, q < H.size → ¬ A1 q → H1[q]? = H[q]?) → va_S A0 H0 H1 locs1 → W p l e R s m args below meth c H1 locs1 (cells + mc) (slots + ms) Q (F0 m (pc + 3) ls (.float r :: rest))) : W p l e R s m args below meth c H locs cells slots Q (F0 m pc ls st0) := by
  intro T hT X
  rcases hr T hT X with ⟨v, st₀, t, T', L, h0, X', hL, e1, e2, ⟨⟨r, u, hv, hp, hb⟩, hF⟩, st⟩ | ⟨q, st₀, t, T', L, E, ce, h0, X', hL, e1, e2, ⟨u, hp, hb, hF⟩, hce, hcv, hcl, st⟩
  · cases hv
    obtain ⟨k1, k2, k3⟩ := vx_keep h0 e1 hS hA hf hL hF
    obtain ⟨t2, a1, b1⟩ := kk r u t T'.heap (locs ++ L) e1.symm (by rw [← e2]; exact X'.warmed.alike) hp hb k1 k2 k3 T' rfl X'
    exact ⟨t2, st t2 a1, b1⟩
  · obtain ⟨k1, k2, k3⟩ := vx_keep h0 e1 hS hAX hf hL hF
    obtain ⟨t2, a1, b1⟩ := kx E ce q u t T'.heap (locs ++ L) e1.symm (by rw [← e2]; exact X'.warmed.alike) hp hb k1 k2 k3 (by rw [e1]; exact hce) hcv hcl T' rfl X'
    exact ⟨t2, st.trans a1, b1⟩
theorem vx_calld {S SX : Type} {post : UInt64 → S → Prop} {px : SX → Prop} {B : S → State → Prop} {BX : String → SX → State → Prop} {AX : Nat → Prop} (hr : vx_Run p l e R s m args below meth c H locs cells slots mc ms (F0 m pc ls st0) rest (va_Qd post B A1 a) (vx_X px BX AX) free) (hS : va_S A0 H0 H locs) (hA : ∀ q, q < H.size → A1 q → A0 q) (hf : ∀ q, free q → A0 q) (hAX : ∀ q, q < H.size → AX q → A0 q)
    (kx : ∀ (E : String) (ce : Cell) (q9 : Addr) (u : SX) (t : State) (H1 : Heap) (locs1 : List Loc), t.heap = H1 → s.vm.Alike t.vm → px u → BX E u t → H.size ≤ H1.size → (∀ q : Nat, q < H.size → ¬ AX q → H1[q]? = H[q]?) → va_S A0 H0 H1 locs1 → H1[q9]? = some ce → ce.vm = .none → s.vm.findClass E = some ce.cls → vx_W p l e R s m args below meth c H1 locs1 (cells + mc) (slots + ms) Q (F0 m pc ls rest) q9)
    (kk : ∀ (r : UInt64) (u : S) (t : State) (H1 : Heap) (locs1 : List Loc), t.heap = H1 → s.vm.Alike t.vm → post r u → B u t → H.size ≤ H1.size → (∀ q : Nat, q < H.size → ¬ A1 q → H1[q]? = H[q]?) → va_S A0 H0 H1 locs1 → W p l e R s m args below meth c H1 locs1 (cells + mc) (slots + ms) Q (F0 m (pc + 3) ls (.double r :: rest))) : W p l e R s m args below meth c H locs cells slots Q (F0 m pc ls st0) := by
  intro T hT X
  rcases hr T hT X with ⟨v, st₀, t, T', L, h0, X', hL, e1, e2, ⟨⟨r, u, hv, hp, hb⟩, hF⟩, st⟩ | ⟨q, st₀, t, T', L, E, ce, h0, X', hL, e1, e2, ⟨u, hp, hb, hF⟩, hce, hcv, hcl, st⟩
  · cases hv
    obtain ⟨k1, k2, k3⟩ := vx_keep h0 e1 hS hA hf hL hF
    obtain ⟨t2, a1, b1⟩ := kk r u t T'.heap (locs ++ L) e1.symm (by rw [← e2]; exact X'.warmed.alike) hp hb k1 k2 k3 T' rfl X'
    exact ⟨t2, st t2 a1, b1⟩
  · obtain ⟨k1, k2, k3⟩ := vx_keep h0 e1 hS hAX hf hL hF
    obtain ⟨t2, a1, b1⟩ := kx E ce q u t T'.heap (locs ++ L) e1.symm (by rw [← e2]; exact X'.warmed.alike) hp hb k1 k2 k3 (by rw [e1]; exact hce) hcv hcl T' rfl X'
    exact ⟨t2, st.trans a1, b1⟩
theorem vx_callv {S SX : Type} {post : S → Prop} {px : SX → Prop} {B : S → State → Prop} {BX : String → SX → State → Prop} {AX : Nat → Prop} (hr : vx_Run p l e R s m args below meth c H locs cells slots mc ms (F0 m pc ls st0) rest (va_Qv post B A1 a) (vx_X px BX AX) free) (hS : va_S A0 H0 H locs) (hA : ∀ q, q < H.size → A1 q → A0 q) (hf : ∀ q, free q → A0 q) (hAX : ∀ q, q < H.size → AX q → A0 q)
    (kx : ∀ (E : String) (ce : Cell) (q9 : Addr) (u : SX) (t : State) (H1 : Heap) (locs1 : List Loc), t.heap = H1 → s.vm.Alike t.vm → px u → BX E u t → H.size ≤ H1.size → (∀ q : Nat, q < H.size → ¬ AX q → H1[q]? = H[q]?) → va_S A0 H0 H1 locs1 → H1[q9]? = some ce → ce.vm = .none → s.vm.findClass E = some ce.cls → vx_W p l e R s m args below meth c H1 locs1 (cells + mc) (slots + ms) Q (F0 m pc ls rest) q9)
    (kk : ∀ (u : S) (t : State) (H1 : Heap) (locs1 : List Loc), t.heap = H1 → s.vm.Alike t.vm → post u → B u t → H.size ≤ H1.size → (∀ q : Nat, q < H.size → ¬ A1 q → H1[q]? = H[q]?) → va_S A0 H0 H1 locs1 → W p l e R s m args below meth c H1 locs1 (cells + mc) (slots + ms) Q (F0 m (pc + 3) ls (rest))) : W p l e R s m args below meth c H locs cells slots Q (F0 m pc ls st0) := by
  intro T hT X
  rcases hr T hT X with ⟨v, st₀, t, T', L, h0, X', hL, e1, e2, ⟨⟨u, hv, hp, hb⟩, hF⟩, st⟩ | ⟨q, st₀, t, T', L, E, ce, h0, X', hL, e1, e2, ⟨u, hp, hb, hF⟩, hce, hcv, hcl, st⟩
  · cases hv
    obtain ⟨k1, k2, k3⟩ := vx_keep h0 e1 hS hA hf hL hF
    obtain ⟨t2, a1, b1⟩ := kk u t T'.heap (locs ++ L) e1.symm (by rw [← e2]; exact X'.warmed.alike) hp hb k1 k2 k3 T' rfl X'
    exact ⟨t2, st t2 a1, b1⟩
  · obtain ⟨k1, k2, k3⟩ := vx_keep h0 e1 hS hAX hf hL hF
    obtain ⟨t2, a1, b1⟩ := kx E ce q u t T'.heap (locs ++ L) e1.symm (by rw [← e2]; exact X'.warmed.alike) hp hb k1 k2 k3 (by rw [e1]; exact hce) hcv hcl T' rfl X'
    exact ⟨t2, st.trans a1, b1⟩
/-- caught by the row x of this method's table; the rows ahead don't take it -/
theorem vx_catch {own name : String} {E : String} {ce : Cell} {q : Addr} (hown : s.vm.findClass own = some m.cls) (pre : List ExceptionTableEntry) (x : ExceptionTableEntry) (suf : List ExceptionTableEntry) (hsplit : c.exceptionTable.toList = pre ++ x :: suf)
    (hpass : ∀ z ∈ pre, covers z pc = false ∨ (z.catchType ≠ 0 ∧ ∃ nm : String, (Cond.classLink own z.catchType nm).before args s = true ∧ va_Nc E nm s)) (hx : covers x pc = true) (h0 : x.catchType ≠ 0)
    (hlink : (Cond.classLink own x.catchType name).before args s = true) (hcast : (Cond.castable E name).before args s = true) (hcell : H[q]? = some ce) (hv : ce.vm = .none) (hcl : s.vm.findClass E = some ce.cls)
    (kk : W p l e R s m args below meth c H locs cells slots Q (F0 m x.handlerPc ls [.ref q])) : vx_W p l e R s m args below meth c H locs cells slots Q (F0 m pc ls rest) q := by
  intro T hT X
  have hpl : e.platform.magicAccessors = ({} : Platform).magicAccessors := by rw [X.admits.platform]
  obtain ⟨c3, c4, hc3, hc4, hasg⟩ := Cond.castable_spec hcast
  cases Option.some.inj (hc3.symm.trans hcl)
  obtain ⟨c5, hc5, hcl5⟩ := Cond.classLink_spec hown hlink e.platform hpl
  cases Option.some.inj (hc4.symm.trans hc5)
  obtain ⟨vm', X', st⟩ := X.thenCaughtThrough q (g := F0 m pc ls rest) rfl (Steps.refl _) (by rw [hT]; exact hcell) (by rw [hv]; rfl) (by obtain ⟨k9, h9, -⟩ := Vm.findClass_spec hcl; exact ⟨k9, h9⟩) pre x suf hsplit
    (fun z hz => by
      rcases hpass z hz with h | ⟨hz0, nm, hl1, hn1⟩
      · exact Or.inl h
      · obtain ⟨c6, hc6, hcl6⟩ := Cond.classLink_spec hown hl1 e.platform hpl
        obtain ⟨a8, b8, h1, h2, h3⟩ := hn1
        cases Option.some.inj (h1.symm.trans hcl)
        cases Option.some.inj (h2.symm.trans hc6)
        exact Or.inr ⟨hz0, _, hcl6, h3⟩) hx (Or.inr ⟨h0, c4, hcl5, hasg⟩)
  obtain ⟨t, a1, b1⟩ := kk (T.setVm vm') hT X'
  exact ⟨t, st.trans a1, b1⟩
end Rows
section Ends
variable {p : Program} {l : Launch} {e : Env} {R : Room} {s : State} {m : MethodId} {args : Array Value} {below : List Frame} {meth : Method} {c : Code} {H : Heap} {locs : List Loc} {cells slots : Nat} {Q : State → Prop}
variable {mc ms : Nat} {free : Addr → Prop} {A0 A1 : Nat → Prop} {H0 : Heap} {a : Array Value} {ls : Array Slot} {st0 rest : List Value}
variable {Qc : Array Value → State → Outcome → State → Prop} {XC : String → State → State → Prop}
/-- what a body that may throw owes at its end -/
def vx_MQ (below : List Frame) (Qc : Array Value → State → Outcome → State → Prop) (XC : String → State → State → Prop) (a : Array Value) (s : State) (mc ms : Nat) (free : Addr → Prop) : State → Prop := fun t =>
  ∃ o, t.status = .running ∧ Ended t below o ∧ vx_Q Qc XC mc ms free a s o t
theorem vx_ret {g : JFrame} {mc ms : Nat} (k : W p l e R s m args below meth c H locs cells slots (MQ below Qc args s mc ms free) g) : W p l e R s m args below meth c H locs cells slots (vx_MQ below Qc XC args s mc ms free) g := by
  intro T hT X
  obtain ⟨t, a1, o, b1, b2, b3, b4⟩ := k T hT X
  exact ⟨t, a1, o, b1, b2, Or.inl ⟨b3, b4⟩⟩
/-- not caught here: it goes on to the caller -/
theorem vx_widen {g : JFrame} {q : Addr} {k n : Nat} (h1 : cells ≤ k) (h2 : slots ≤ n) (kk : vx_W p l e R s m args below meth c H locs k n Q g q) : vx_W p l e R s m args below meth c H locs cells slots Q g q := fun T hT X => kk T hT (stand_widen X h1 h2)
theorem vx_out {pc : Nat} {E : String} {ce : Cell} {q : Addr} {mc ms : Nat} (hout : ∀ x ∈ c.exceptionTable.toList, covers x pc = false) (hlocks : meth.locks = false) (hcell : H[q]? = some ce) (hv : ce.vm = .none) (hcl : s.vm.findClass E = some ce.cls)
    (hx : ∀ t : State, t.heap = H → s.vm.Alike t.vm → XC E s t) (hf : ∀ z ∈ locs, free z.base) (hc : cells ≤ mc) (hs : slots ≤ ms) :
    vx_W p l e R s m args below meth c H locs cells slots (vx_MQ below Qc XC args s mc ms free) (F0 m pc ls rest) q := by
  intro T hT X
  obtain ⟨st1, hrun, hend, hW, hsm⟩ := X.leaveThrown q (g := F0 m pc ls rest) rfl rfl rfl hout hlocks
  have hcell9 : (T.setFrames (.throwing q :: below)).heap[q]? = some ce := by
    show T.heap[q]? = some ce
    rw [hT]; exact hcell
  exact ⟨_, st1, .threw q, hrun, hend, Or.inr ⟨q, rfl, E, ce, locs, hx _ hT hW.alike, hcell9, hv, hcl, hW, hsm.mono hc hs, hf⟩⟩
theorem vx_frame {U : State} {k n : Nat} (h : s.sameButNew ({ U with vm := s.vm } : State) locs k n) : s.heap.size ≤ U.heap.size ∧ ∀ q : Nat, q < s.heap.size → (∀ z ∈ locs, z.base ≠ q) → U.heap[q]? = s.heap[q]? := by
  obtain ⟨-, h2, -, -, -, h6⟩ := h
  refine ⟨h2, fun q hq hz => ?_⟩
  obtain ⟨c9, e1, e2, e3, e4⟩ := h6 q _ (Array.getElem?_eq_getElem hq)
  have hs : c9.slots = (s.heap[q]).slots := Array.ext_getElem? fun i => e4 i fun hm => hz _ hm rfl
  have h9 : c9 = s.heap[q] := by
    rw [hs] at e2
    exact e2
  have e5 : U.heap[q]? = some c9 := e1
  rw [e5, h9, Array.getElem?_eq_getElem hq]
/-- the words of a throw but the four that speak of the heap -/
def vx_no (w : Cond) : Bool := decide (w ≠ .isRef (.static Bundle.tN "UNASSIGNED_STACK" Bundle.steD)) && decide (w ≠ .isRef (.static Bundle.tN "SUPPRESSED_SENTINEL" Bundle.listD)) && decide (w ≠ .laysStatic Bundle.tN "UNASSIGNED_STACK" Bundle.steD) && decide (w ≠ .laysStatic Bundle.tN "SUPPRESSED_SENTINEL" Bundle.listD)
def vx_at0 (own : String) (ic : Nat) (X : String) (names : List String) : List Cond := (Bundle.ownAtoms0 own ic X names).filter vx_no
def vx_atS (own : String) (ic : Nat) (X : String) (names : List String) : List Cond := (Bundle.ownAtoms own ic X names).filter vx_no
/-- a word that the tables alone decide, or a good one -/
def vx_ot (w : Cond) : Bool := w.onTables || goodWord w
theorem vx_ot_at {args a' : Array Value} {s U : State} {w : Cond} (hW : s.WarmedH U.vm) (hvm : s.vm = U.vm) (hg : vx_ot w = true) (h : w.before args s = true) : w.before a' U = true := by
  simp only [vx_ot, Bool.or_eq_true] at hg
  rcases hg with hg | hg
  · exact va_tabs hg hvm h
  · exact word_at hW (good_of_word hg) h
/-- a list's words: the good ones out of the method's own list, the others by premises of their own -/
theorem vx_hat {args : Array Value} {s : State} {L B : List Cond} (h1 : ∀ w ∈ L.filter goodWord, w.before args s = true) (h2 : ∀ w ∈ L.filter (fun w => !goodWord w), w ∈ B) (h3 : ∀ w ∈ B, w.before args s = true) : ∀ w ∈ L, w.before args s = true := by
  intro w hw
  by_cases g : goodWord w = true
  · exact h1 w (List.mem_filter.mpr ⟨hw, g⟩)
  · refine h3 w (h2 w (List.mem_filter.mpr ⟨hw, ?_⟩))
    show (!goodWord w) = true
    cases hgw : goodWord w
    · rfl
    · exact absurd hgw g
theorem vx_c {args : Array Value} {s : State} {w : Cond} {B : List Cond} (h : w.before args s = true) (t : ∀ w ∈ B, w.before args s = true) : ∀ w' ∈ w :: B, w'.before args s = true := fun w' h' => (List.mem_cons.mp h').elim (fun e => by rw [e]; exact h) (t w')
theorem vx_n {args : Array Value} {s : State} : ∀ w ∈ ([] : List Cond), w.before args s = true := fun _ h => nomatch h
theorem vx_own {args : Array Value} {s : State} {L : List Cond} (h1 : ∀ w ∈ L.filter vx_no, w.before args s = true)
    (hU : (Cond.isRef (.static Bundle.tN "UNASSIGNED_STACK" Bundle.steD)).before args s = true) (hN : (Cond.isRef (.static Bundle.tN "SUPPRESSED_SENTINEL" Bundle.listD)).before args s = true)
    (lU : (Cond.laysStatic Bundle.tN "UNASSIGNED_STACK" Bundle.steD).before args s = true) (lN : (Cond.laysStatic Bundle.tN "SUPPRESSED_SENTINEL" Bundle.listD).before args s = true) : ∀ w ∈ L, w.before args s = true := by
  intro w hw
  by_cases e1 : w = .isRef (.static Bundle.tN "UNASSIGNED_STACK" Bundle.steD)
  · rw [e1]; exact hU
  · by_cases e2 : w = .isRef (.static Bundle.tN "SUPPRESSED_SENTINEL" Bundle.listD)
    · rw [e2]; exact hN
    · by_cases e3 : w = .laysStatic Bundle.tN "UNASSIGNED_STACK" Bundle.steD
      · rw [e3]; exact lU
      · by_cases e4 : w = .laysStatic Bundle.tN "SUPPRESSED_SENTINEL" Bundle.listD
        · rw [e4]; exact lN
        · exact h1 w (List.mem_filter.mpr ⟨hw, by unfold vx_no; rw [decide_eq_true e1, decide_eq_true e2, decide_eq_true e3, decide_eq_true e4]; rfl⟩)
/-- where a static field lies, its class's statics cell in H -/
def vx_L (C n d : String) (A : Nat → Prop) (U : State) (H : Heap) : Prop := ∃ (c : ClassId) (k : Class) (i : Nat) (f : Field) (a : Nat) (cell : Cell), U.vm.findClass C = some c ∧ U.fieldFound? C n d = some (c, k, i, f) ∧ f.isStatic = true ∧ k.statics = some a ∧ H[a]? = some cell ∧ cell.vm.isStatics = true ∧ cell.cls = c ∧ f.slot < cell.slots.size ∧ k.staticTypes[f.slot]? = some f.type ∧ ¬ A a
theorem vx_L.moved {C n d : String} {A : Nat → Prop} {u U : State} {H : Heap} (hvm : u.vm.Alike U.vm) (h : vx_L C n d A u H) : vx_L C n d A U H := by
  obtain ⟨c, k, i, f, a, cell, h1, h2, h3, h4, h5, h6, h7, h8, h9, h10⟩ := h
  obtain ⟨k', hi', he⟩ := State.fieldFound?_setVm hvm h2
  exact ⟨c, k', i, f, a, cell, by rw [hvm.findClass]; exact h1, hi', h3, by rw [he]; exact h4, h5, h6, h7, h8, by rw [he]; exact h9, h10⟩
theorem vx_L.kept {C n d : String} {A : Nat → Prop} {U : State} {H H1 : Heap} (h : vx_L C n d A U H) (hq : ∀ a : Nat, a < H.size → ¬ A a → H1[a]? = H[a]?) : vx_L C n d A U H1 := by
  obtain ⟨c, k, i, f, a, cell, h1, h2, h3, h4, h5, h6, h7, h8, h9, h10⟩ := h
  exact ⟨c, k, i, f, a, cell, h1, h2, h3, h4, by rw [hq a (Array.getElem?_eq_some_iff.mp h5).1 h10]; exact h5, h6, h7, h8, h9, h10⟩
theorem vx_L.narrow {C n d : String} {A B : Nat → Prop} {U : State} {H : Heap} (h : vx_L C n d A U H) (hAB : ∀ q, B q → A q) : vx_L C n d B U H := by
  obtain ⟨c, k, i, f, a, cell, h1, h2, h3, h4, h5, h6, h7, h8, h9, h10⟩ := h
  exact ⟨c, k, i, f, a, cell, h1, h2, h3, h4, h5, h6, h7, h8, h9, fun z => h10 (hAB _ z)⟩
theorem vx_L.word {C n d : String} {A : Nat → Prop} {s : State} {args : Array Value} (h : vx_L C n d A s s.heap) : (Cond.laysStatic C n d).before args s = true := by
  obtain ⟨c, k, i, f, a, cell, h1, h2, h3, h4, h5, h6, h7, h8, h9, -⟩ := h
  show (Cond.laysStatic C n d).holds args s none s [] = true
  exact Cond.laysStatic_of h1 h2 h3 h4 h5 h6 h7 h8 h9
/-- .. and what it holds: null or some reference -/
def vx_Zq (C n d : String) (A : Nat → Prop) (U : State) (H : Heap) : Prop := va_Zq C n d A U H ∧ vx_L C n d A U H
theorem vx_Zq.moved {C n d : String} {A : Nat → Prop} {u U : State} {H : Heap} (hvm : u.vm.Alike U.vm) (h : vx_Zq C n d A u H) : vx_Zq C n d A U H := ⟨va_Zq.moved hvm h.1, vx_L.moved hvm h.2⟩
theorem vx_Zq.kept {C n d : String} {A : Nat → Prop} {U : State} {H H1 : Heap} (h : vx_Zq C n d A U H) (hq : ∀ a : Nat, a < H.size → ¬ A a → H1[a]? = H[a]?) : vx_Zq C n d A U H1 := ⟨va_Zq.kept h.1 hq, vx_L.kept h.2 hq⟩
theorem vx_Zq.narrow {C n d : String} {A B : Nat → Prop} {U : State} {H : Heap} (h : vx_Zq C n d A U H) (hAB : ∀ q, B q → A q) : vx_Zq C n d B U H := ⟨va_Zq.narrow h.1 hAB, vx_L.narrow h.2 hAB⟩
theorem vx_Zqof {args : Array Value} {s : State} {C n d : String} {A : Nat → Prop} (hl : (Cond.laysStatic C n d).before args s = true) (hini : (Cond.initialized C).before args s = true) (h : (Cond.isRef (.static C n d)).before args s = true) (hA : ∀ a : Nat, a < s.heap.size → ¬ A a) : vx_Zq C n d A s s.heap := by
  refine ⟨va_Zqof hl hini h hA, ?_⟩
  obtain ⟨c, k, i, f, a, cell, h1, h2, h3, h4, h5, h6, h7, h8, h9⟩ := Cond.laysStatic_spec hl
  exact ⟨c, k, i, f, a, cell, h1, h2, h3, h4, h5, h6, h7, h8, h9, hA a (Array.getElem?_eq_some_iff.mp h5).1⟩
theorem vx_isRef {C n d : String} {v : Value} {A : Nat → Prop} {s : State} {args : Array Value} (h : va_Z C n d v A s s.heap) (hv : v.isRef = true) : (Cond.isRef (.static C n d)).before args s = true := by
  obtain ⟨cf, kf, fi, f, a, cell, h1, h2, h3, h4, h5, h6, h7, -⟩ := h
  have he : (Term.static C n d).eval args s none [] s = some v := by
    simp [Term.eval, State.fieldNamed?, h1, h2, h4, h5, h6, h7]
  simp only [Cond.before, Cond.holds, Cond.value, he]
  cases v <;> simp_all [Value.isRef]
theorem vx_isRefq {C n d : String} {A : Nat → Prop} {s : State} {args : Array Value} (h : va_Zq C n d A s s.heap) : (Cond.isRef (.static C n d)).before args s = true := by
  rcases h with h | ⟨t, h⟩
  · exact vx_isRef h rfl
  · exact vx_isRef h rfl
/-- the same frame, seen from here: as if the method were called anew in this heap -/
theorem vx_rebase {T : State} (X : Stand p l e R s m args below meth c T locs cells slots) {R' : Room} (hf : R'.frames ≤ R.frames) (hl : R'.locals ≤ R.locals) (hc : cells + R'.cells ≤ R.cells) (hs : slots + R'.slots ≤ R.slots) :
    Stand p l e R' ((T.setVm s.vm).setFrames (.invoking m args :: below)) m args below meth c T [] 0 0 := by
  have htop : (T.setVm s.vm).topJava?.isSome := X.here.top
  have hF : ((T.setVm s.vm).setFrames (.invoking m args :: below)).frames = .invoking m args :: below := State.frames_setFrames _ (State.cur_lt_of_top htop)
  obtain ⟨g₀, hg0⟩ := Option.isSome_iff_exists.mp htop
  obtain ⟨r, hr⟩ := State.topJava?_eq_some.mp hg0
  have hl9 : e.platform.stackLimits (T.setVm s.vm).me = e.platform.stackLimits s.me := X.limits
  have hb9 : (T.setVm s.vm).me.stackBytes = s.me.stackBytes := X.bytes
  refine ⟨X.admits, X.cas, X.clock, hF, ?_, X.hears, X.method, X.code, X.here, X.tail, X.warmed, ?_, ?_, ?_⟩
  · have h := X.room
    have hU : ((T.setVm s.vm).setFrames (.invoking m args :: below)).localsInUse = s.localsInUse := by
      rw [State.localsInUse_invoking hF (meth := meth) (c := c) X.method X.code, State.localsInUse_invoking X.frames X.method X.code]
    simp only [State.hasRoom, Bool.and_eq_true, decide_eq_true_eq] at h ⊢
    obtain ⟨⟨⟨⟨h1, h2, h3, h4, h5, h6⟩, h7⟩, h8⟩, h9⟩ := h
    rw [X.frames, List.length_cons] at h2 h3
    have q1 := X.heapSize
    have q2 := X.used
    simp only [hF, hU, List.length_cons, State.stackLimits_setFrames, State.stackBytes_setFrames, hl9, hb9]
    refine ⟨⟨⟨⟨by omega, by omega, by omega, by omega, by omega, h6⟩, ?_⟩, ?_⟩, X.book⟩
    · show T.heap.size + R'.cells ≤ e.platform.maxCells
      omega
    · show T.slotsUsed + R'.slots ≤ e.platform.maxSlots
      omega
  · rw [State.stackLimits_setFrames]; rfl
  · rw [State.stackBytes_setFrames]; rfl
  · refine ⟨?_, Nat.le_refl _, Nat.le_refl _, ?_, ?_, fun a c9 h9 => ⟨c9, h9, rfl, rfl, fun _ _ => rfl⟩⟩
    · obtain ⟨t, ht, -⟩ := State.frames_cons hr
      show T.setVm s.vm = { ((T.setVm s.vm).setFrames (.invoking m args :: below)).setFrames (T.setVm s.vm).frames with heap := T.heap, slotsUsed := T.slotsUsed }
      rw [State.setFrames_setFrames, State.setFrames_self ht]
      rfl
    · show T.slotsUsed = T.slotsUsed + ((T.heap.toList.drop T.heap.size).map (·.slots.size)).sum
      rw [List.drop_eq_nil_of_le (Nat.le_of_eq Array.length_toList)]
      rfl
    · show ((T.heap.toList.drop T.heap.size).map (·.slots.size)).sum ≤ 0
      rw [List.drop_eq_nil_of_le (Nat.le_of_eq Array.length_toList)]
      exact Nat.le_refl _
/-- 'throw new E()': new; dup; invokespecial; athrow -/
theorem vx_throw0 {cc : ByteArray} {pc : Nat} (hexec : p.tables.exec = Jvm.exec) (hb : c.code = cc) (hl : l.stackTraces = false) {own cls : String} {names : List String} {ik ic mc ms : Nat} {A : Nat → Prop}
    (hown : s.vm.findClass own = some m.cls) (hcls : Bundle.fit cls = true) (hnames : ∀ n ∈ names, Bundle.fit n = true)
    (hk : (Cond.classLink own ik cls).before args s = true) (hini : (Cond.initialized cls).before args s = true) (hat : ∀ w ∈ vx_at0 own ic cls names, w.before args s = true)
    (hgood : ∀ w ∈ Cond.classLink own ik cls :: Cond.initialized cls :: vx_at0 own ic cls names, vx_ot w = true)
    (hU : vx_Zq Bundle.tN "UNASSIGNED_STACK" Bundle.steD A s s.heap) (hN : vx_Zq Bundle.tN "SUPPRESSED_SENTINEL" Bundle.listD A s s.heap) (hS : va_S A s.heap H locs) (hsize : ls.size = c.maxLocals)
    (d0 : decode cc pc = .ok (.new ik, 3)) (d3 : decode cc (pc + 3) = .ok (.dup, 1)) (d4 : decode cc (pc + 4) = .ok (.invokespecial ic, 3)) (d7 : decode cc (pc + 7) = .ok (.athrow, 1))
    (hout : ∀ x ∈ c.exceptionTable.toList, covers x (pc + 7) = false)
    (hRframes : names.length + 3 < R.frames) (hRlocals : (rest.map fun v => v.category).sum + (13 * (names.length + 1) + 42) ≤ R.locals) (hRcells : cells + 1 ≤ R.cells) (hRslots : slots + 6 ≤ R.slots) (hlocks : meth.locks = false)
    (hx : ∀ t : State, s.vm.Alike t.vm → H.size ≤ t.heap.size → (∀ q : Nat, q < H.size → t.heap[q]? = H[q]?) → XC cls s t)
    (hf : ∀ z ∈ locs, free z.base) (hc : cells + 1 ≤ mc) (hs : slots + 6 ≤ ms) :
    W p l e R s m args below meth c H locs cells slots (vx_MQ below Qc XC args s mc ms free) (F0 m pc ls rest) := by
  intro T hT X
  have htr : e.platform.stackTraces = false := (show e.platform.stackTraces = l.stackTraces by rw [X.admits.platform]).trans hl
  have Y := vx_rebase X (R' := { frames := R.frames, locals := R.locals, cells := 1, slots := 6 }) (Nat.le_refl _) (Nat.le_refl _) hRcells hRslots
  obtain ⟨s', hA⟩ : ∃ z, z = (T.setVm s.vm).setFrames (.invoking m args :: below) := ⟨_, rfl⟩
  rw [← hA] at Y
  have hvm : s'.vm = s.vm := by rw [hA]; rfl
  have hhp : s'.heap = H := by rw [hA]; exact hT
  have hW0 : s.WarmedH s'.vm := by rw [hvm]; exact State.WarmedH.refl s
  have hat' : ∀ w ∈ vx_at0 own ic cls names, w.before args s' = true := fun w hw => vx_ot_at hW0 hvm.symm (hgood w (List.mem_cons_of_mem _ (List.mem_cons_of_mem _ hw))) (hat w hw)
  have hk' : (Cond.classLink own ik cls).before args s' = true := vx_ot_at hW0 hvm.symm (hgood _ List.mem_cons_self) hk
  have hini' : (Cond.initialized cls).before args s' = true := vx_ot_at hW0 hvm.symm (hgood _ (List.mem_cons_of_mem _ List.mem_cons_self)) hini
  have hU' : vx_Zq Bundle.tN "UNASSIGNED_STACK" Bundle.steD A s' s'.heap := by rw [hhp]; exact vx_Zq.moved hW0.alike (hU.kept hS.2.1)
  have hN' : vx_Zq Bundle.tN "SUPPRESSED_SENTINEL" Bundle.listD A s' s'.heap := by rw [hhp]; exact vx_Zq.moved hW0.alike (hN.kept hS.2.1)
  have h : ∀ w ∈ Bundle.ownAtoms0 own ic cls names, w.before args s' = true := vx_own hat' (vx_isRefq hU'.1) (vx_isRefq hN'.1) hU'.2.word hN'.2.word
  have hown' : s'.vm.findClass own = some m.cls := by rw [hvm]; exact hown
  have hins : (Cond.instantiable cls 6).before args s' = true := h _ (by simp [Bundle.ownAtoms0])
  obtain ⟨vm₁, cX, kX, hfX, hkX, -, -, X₁, st1⟩ := Y.newCold hexec (own := own) (C := cls) (index := ik) (n := 6) hown' hk' hins hini'
    (g := F0 m pc ls rest) rfl (by rw [hb]; exact d0) (Nat.le_refl _) (Nat.le_refl _)
  generalize hT1 : (T.setVm vm₁).pushCell { cls := cX, slots := kX.instanceTypes.map defaultValue, vm := .none } = T1 at X₁ st1
  have hcat : (Value.ref T.heap.size).category = 1 := rfl
  have hcellA : T1.heap[T.heap.size]? = some (freshCell cX kX) := by rw [← hT1]; exact State.heap_pushCell_size _ _
  have d3' : decode c.code (pc + 3) = .ok (.dup, 1) := by rw [hb]; exact d3
  obtain ⟨U, hsteps, hrun, hend, hW, hsame, ce, hce, hO⟩ := X₁.ctorThrow0 hexec htr (own := own) (cls := cls) (names := names) (ic := ic) hown' hcls hnames h (fun x hx => nomatch hx) hfX hkX hcellA (by rw [hhp, hT]; exact Nat.le_refl _)
    (g := { method := m, pc := pc + 4, locals := ls, stack := .ref T.heap.size :: .ref T.heap.size :: rest, locked := none }) rfl hsize rfl rfl (rest := rest) rfl
    (by rw [hb]; exact d4) (by rw [hb]; exact d7) hout hRframes (by simp only [List.map_cons, List.sum_cons, hcat]; omega) hlocks
  obtain ⟨f1, f2⟩ := vx_frame hsame
  rw [hhp] at f1 f2
  have hWs : s.WarmedH U.vm := State.WarmedH.trans hW0 hW
  have hcl : s.vm.findClass cls = some ce.cls := by
    have h9 := hO.cls
    rw [hvm] at h9
    exact h9
  have hall : s.sameButNew ({ U with vm := s.vm } : State) locs mc ms := by
    subst hA
    obtain ⟨e1, e2⟩ := hsame
    rw [State.setFrames_setFrames] at e1
    have h2 : (T.setVm s.vm).sameButNew ({ U with vm := s.vm } : State) [] (0 + 1) (0 + 6) := ⟨e1, e2⟩
    have h3 := X.same.trans h2
    rw [List.append_nil] at h3
    exact h3.mono hc hs
  refine ⟨U, ?_, .threw T.heap.size, hrun, hend, Or.inr ⟨T.heap.size, rfl, cls, ce, locs, hx U hWs.alike f1 (fun q hq => f2 q hq (fun z hz => nomatch hz)), hce, hO.vm, hcl, hWs, hall, hf⟩⟩
  refine st1 _ ?_
  show Steps p.tables e below (T1.setTop { method := m, pc := pc + 3, locals := ls, stack := .ref T.heap.size :: rest, locked := none }) _
  jvm_step X₁.here [X₁.here.top, hexec, d3', Value.category]
  exact hsteps
/-- 'throw new E("text")': new; dup; ldc; invokespecial; athrow -/
theorem vx_throwS {cc : ByteArray} {pc : Nat} (hexec : p.tables.exec = Jvm.exec) (hb : c.code = cc) (hl : l.stackTraces = false) {own cls text : String} {names : List String} {ik is ic mc ms sa : Nat} {A : Nat → Prop}
    (hown : s.vm.findClass own = some m.cls) (hcls : Bundle.fit cls = true) (hnames : ∀ n ∈ names, Bundle.fit n = true)
    (hk : (Cond.classLink own ik cls).before args s = true) (hini : (Cond.initialized cls).before args s = true) (hstr : vk_R own is text sa s) (hat : ∀ w ∈ vx_atS own ic cls names, w.before args s = true)
    (hgood : ∀ w ∈ Cond.classLink own ik cls :: Cond.initialized cls :: vx_atS own ic cls names, vx_ot w = true)
    (hU : vx_Zq Bundle.tN "UNASSIGNED_STACK" Bundle.steD A s s.heap) (hN : vx_Zq Bundle.tN "SUPPRESSED_SENTINEL" Bundle.listD A s s.heap) (hS : va_S A s.heap H locs) (hsize : ls.size = c.maxLocals)
    (d0 : decode cc pc = .ok (.new ik, 3)) (d3 : decode cc (pc + 3) = .ok (.dup, 1)) (d4 : decode cc (pc + 4) = .ok (.ldc is, 2)) (d6 : decode cc (pc + 6) = .ok (.invokespecial ic, 3)) (d9 : decode cc (pc + 9) = .ok (.athrow, 1))
    (hout : ∀ x ∈ c.exceptionTable.toList, covers x (pc + 9) = false)
    (hRframes : names.length + 3 < R.frames) (hRlocals : (rest.map fun v => v.category).sum + (13 * (names.length + 1) + 43) ≤ R.locals) (hRcells : cells + 1 ≤ R.cells) (hRslots : slots + 6 ≤ R.slots) (hlocks : meth.locks = false)
    (hx : ∀ t : State, s.vm.Alike t.vm → H.size ≤ t.heap.size → (∀ q : Nat, q < H.size → t.heap[q]? = H[q]?) → XC cls s t)
    (hf : ∀ z ∈ locs, free z.base) (hc : cells + 1 ≤ mc) (hs : slots + 6 ≤ ms) :
    W p l e R s m args below meth c H locs cells slots (vx_MQ below Qc XC args s mc ms free) (F0 m pc ls rest) := by
  intro T hT X
  have htr : e.platform.stackTraces = false := (show e.platform.stackTraces = l.stackTraces by rw [X.admits.platform]).trans hl
  have Y := vx_rebase X (R' := { frames := R.frames, locals := R.locals, cells := 1, slots := 6 }) (Nat.le_refl _) (Nat.le_refl _) hRcells hRslots
  obtain ⟨s', hA⟩ : ∃ z, z = (T.setVm s.vm).setFrames (.invoking m args :: below) := ⟨_, rfl⟩
  rw [← hA] at Y
  have hvm : s'.vm = s.vm := by rw [hA]; rfl
  have hhp : s'.heap = H := by rw [hA]; exact hT
  have hW0 : s.WarmedH s'.vm := by rw [hvm]; exact State.WarmedH.refl s
  have hat' : ∀ w ∈ vx_atS own ic cls names, w.before args s' = true := fun w hw => vx_ot_at hW0 hvm.symm (hgood w (List.mem_cons_of_mem _ (List.mem_cons_of_mem _ hw))) (hat w hw)
  have hk' : (Cond.classLink own ik cls).before args s' = true := vx_ot_at hW0 hvm.symm (hgood _ List.mem_cons_self) hk
  have hini' : (Cond.initialized cls).before args s' = true := vx_ot_at hW0 hvm.symm (hgood _ (List.mem_cons_of_mem _ List.mem_cons_self)) hini
  have hU' : vx_Zq Bundle.tN "UNASSIGNED_STACK" Bundle.steD A s' s'.heap := by rw [hhp]; exact vx_Zq.moved hW0.alike (hU.kept hS.2.1)
  have hN' : vx_Zq Bundle.tN "SUPPRESSED_SENTINEL" Bundle.listD A s' s'.heap := by rw [hhp]; exact vx_Zq.moved hW0.alike (hN.kept hS.2.1)
  have h : ∀ w ∈ Bundle.ownAtoms own ic cls names, w.before args s' = true := vx_own hat' (vx_isRefq hU'.1) (vx_isRefq hN'.1) hU'.2.word hN'.2.word
  have hown' : s'.vm.findClass own = some m.cls := by rw [hvm]; exact hown
  have hins : (Cond.instantiable cls 6).before args s' = true := h _ (by simp [Bundle.ownAtoms])
  obtain ⟨vm₁, cX, kX, hfX, hkX, -, -, X₁, st1⟩ := Y.newCold hexec (own := own) (C := cls) (index := ik) (n := 6) hown' hk' hins hini'
    (g := F0 m pc ls rest) rfl (by rw [hb]; exact d0) (Nat.le_refl _) (Nat.le_refl _)
  generalize hT1 : (T.setVm vm₁).pushCell { cls := cX, slots := kX.instanceTypes.map defaultValue, vm := .none } = T1 at X₁ st1
  have hcat : (Value.ref T.heap.size).category = 1 := rfl
  have hcellA : T1.heap[T.heap.size]? = some (freshCell cX kX) := by rw [← hT1]; exact State.heap_pushCell_size _ _
  have d3' : decode c.code (pc + 3) = .ok (.dup, 1) := by rw [hb]; exact d3
  have d4' : decode c.code (pc + 4) = .ok (.ldc is, 2) := by rw [hb]; exact d4
  have hstr' : vk_R own is text sa s' := vk_R.warm hW0 hstr
  obtain ⟨U, hsteps, hrun, hend, hW, hsame, ce, hce, hO⟩ := X₁.ctorThrowS hexec htr (own := own) (cls := cls) (names := names) (ic := ic) hown' hcls hnames h (fun x hx => nomatch hx) hfX hkX hcellA (by rw [hhp, hT]; exact Nat.le_refl _) (msg := .ref sa) rfl
    (g := { method := m, pc := pc + 6, locals := ls, stack := .ref sa :: .ref T.heap.size :: .ref T.heap.size :: rest, locked := none }) rfl hsize rfl rfl (rest := rest) rfl
    (by rw [hb]; exact d6) (by rw [hb]; exact d9) hout hRframes (by simp only [List.map_cons, List.sum_cons, hcat]; omega) hlocks
  obtain ⟨f1, f2⟩ := vx_frame hsame
  rw [hhp] at f1 f2
  have hWs : s.WarmedH U.vm := State.WarmedH.trans hW0 hW
  have hcl : s.vm.findClass cls = some ce.cls := by
    have h9 := hO.cls
    rw [hvm] at h9
    exact h9
  have hall : s.sameButNew ({ U with vm := s.vm } : State) locs mc ms := by
    subst hA
    obtain ⟨e1, e2⟩ := hsame
    rw [State.setFrames_setFrames] at e1
    have h2 : (T.setVm s.vm).sameButNew ({ U with vm := s.vm } : State) [] (0 + 1) (0 + 6) := ⟨e1, e2⟩
    have h3 := X.same.trans h2
    rw [List.append_nil] at h3
    exact h3.mono hc hs
  refine ⟨U, ?_, .threw T.heap.size, hrun, hend, Or.inr ⟨T.heap.size, rfl, cls, ce, locs, hx U hWs.alike f1 (fun q hq => f2 q hq (fun z hz => nomatch hz)), hce, hO.vm, hcl, hWs, hall, hf⟩⟩
  refine st1 _ ?_
  show Steps p.tables e below (T1.setTop { method := m, pc := pc + 3, locals := ls, stack := .ref T.heap.size :: rest, locked := none }) _
  jvm_step X₁.here [X₁.here.top, hexec, d3', Value.category]
  exact X₁.ldcString hexec (own := own) (text := text) (index := is) (a := sa) hown' hstr'.1 hstr'.2
    (g := { method := m, pc := pc + 4, locals := ls, stack := .ref T.heap.size :: .ref T.heap.size :: rest, locked := none }) rfl d4' _ hsteps
/-- 'throw new E("text")', the text by a wide index -/
theorem vx_throwSW {cc : ByteArray} {pc : Nat} (hexec : p.tables.exec = Jvm.exec) (hb : c.code = cc) (hl : l.stackTraces = false) {own cls text : String} {names : List String} {ik is ic mc ms sa : Nat} {A : Nat → Prop}
    (hown : s.vm.findClass own = some m.cls) (hcls : Bundle.fit cls = true) (hnames : ∀ n ∈ names, Bundle.fit n = true)
    (hk : (Cond.classLink own ik cls).before args s = true) (hini : (Cond.initialized cls).before args s = true) (hstr : vk_R own is text sa s) (hat : ∀ w ∈ vx_atS own ic cls names, w.before args s = true)
    (hgood : ∀ w ∈ Cond.classLink own ik cls :: Cond.initialized cls :: vx_atS own ic cls names, vx_ot w = true)
    (hU : vx_Zq Bundle.tN "UNASSIGNED_STACK" Bundle.steD A s s.heap) (hN : vx_Zq Bundle.tN "SUPPRESSED_SENTINEL" Bundle.listD A s s.heap) (hS : va_S A s.heap H locs) (hsize : ls.size = c.maxLocals)
    (d0 : decode cc pc = .ok (.new ik, 3)) (d3 : decode cc (pc + 3) = .ok (.dup, 1)) (d4 : decode cc (pc + 4) = .ok (.ldc_w is, 3)) (d7 : decode cc (pc + 7) = .ok (.invokespecial ic, 3)) (d10 : decode cc (pc + 10) = .ok (.athrow, 1))
    (hout : ∀ x ∈ c.exceptionTable.toList, covers x (pc + 10) = false)
    (hRframes : names.length + 3 < R.frames) (hRlocals : (rest.map fun v => v.category).sum + (13 * (names.length + 1) + 43) ≤ R.locals) (hRcells : cells + 1 ≤ R.cells) (hRslots : slots + 6 ≤ R.slots) (hlocks : meth.locks = false)
    (hx : ∀ t : State, s.vm.Alike t.vm → H.size ≤ t.heap.size → (∀ q : Nat, q < H.size → t.heap[q]? = H[q]?) → XC cls s t)
    (hf : ∀ z ∈ locs, free z.base) (hc : cells + 1 ≤ mc) (hs : slots + 6 ≤ ms) :
    W p l e R s m args below meth c H locs cells slots (vx_MQ below Qc XC args s mc ms free) (F0 m pc ls rest) := by
  intro T hT X
  have htr : e.platform.stackTraces = false := (show e.platform.stackTraces = l.stackTraces by rw [X.admits.platform]).trans hl
  have Y := vx_rebase X (R' := { frames := R.frames, locals := R.locals, cells := 1, slots := 6 }) (Nat.le_refl _) (Nat.le_refl _) hRcells hRslots
  obtain ⟨s', hA⟩ : ∃ z, z = (T.setVm s.vm).setFrames (.invoking m args :: below) := ⟨_, rfl⟩
  rw [← hA] at Y
  have hvm : s'.vm = s.vm := by rw [hA]; rfl
  have hhp : s'.heap = H := by rw [hA]; exact hT
  have hW0 : s.WarmedH s'.vm := by rw [hvm]; exact State.WarmedH.refl s
  have hat' : ∀ w ∈ vx_atS own ic cls names, w.before args s' = true := fun w hw => vx_ot_at hW0 hvm.symm (hgood w (List.mem_cons_of_mem _ (List.mem_cons_of_mem _ hw))) (hat w hw)
  have hk' : (Cond.classLink own ik cls).before args s' = true := vx_ot_at hW0 hvm.symm (hgood _ List.mem_cons_self) hk
  have hini' : (Cond.initialized cls).before args s' = true := vx_ot_at hW0 hvm.symm (hgood _ (List.mem_cons_of_mem _ List.mem_cons_self)) hini
  have hU' : vx_Zq Bundle.tN "UNASSIGNED_STACK" Bundle.steD A s' s'.heap := by rw [hhp]; exact vx_Zq.moved hW0.alike (hU.kept hS.2.1)
  have hN' : vx_Zq Bundle.tN "SUPPRESSED_SENTINEL" Bundle.listD A s' s'.heap := by rw [hhp]; exact vx_Zq.moved hW0.alike (hN.kept hS.2.1)
  have h : ∀ w ∈ Bundle.ownAtoms own ic cls names, w.before args s' = true := vx_own hat' (vx_isRefq hU'.1) (vx_isRefq hN'.1) hU'.2.word hN'.2.word
  have hown' : s'.vm.findClass own = some m.cls := by rw [hvm]; exact hown
  have hins : (Cond.instantiable cls 6).before args s' = true := h _ (by simp [Bundle.ownAtoms])
  obtain ⟨vm₁, cX, kX, hfX, hkX, -, -, X₁, st1⟩ := Y.newCold hexec (own := own) (C := cls) (index := ik) (n := 6) hown' hk' hins hini'
    (g := F0 m pc ls rest) rfl (by rw [hb]; exact d0) (Nat.le_refl _) (Nat.le_refl _)
  generalize hT1 : (T.setVm vm₁).pushCell { cls := cX, slots := kX.instanceTypes.map defaultValue, vm := .none } = T1 at X₁ st1
  have hcat : (Value.ref T.heap.size).category = 1 := rfl
  have hcellA : T1.heap[T.heap.size]? = some (freshCell cX kX) := by rw [← hT1]; exact State.heap_pushCell_size _ _
  have d3' : decode c.code (pc + 3) = .ok (.dup, 1) := by rw [hb]; exact d3
  have d4' : decode c.code (pc + 4) = .ok (.ldc_w is, 3) := by rw [hb]; exact d4
  have hstr' : vk_R own is text sa s' := vk_R.warm hW0 hstr
  obtain ⟨U, hsteps, hrun, hend, hW, hsame, ce, hce, hO⟩ := X₁.ctorThrowS hexec htr (own := own) (cls := cls) (names := names) (ic := ic) hown' hcls hnames h (fun x hx => nomatch hx) hfX hkX hcellA (by rw [hhp, hT]; exact Nat.le_refl _) (msg := .ref sa) rfl
    (g := { method := m, pc := pc + 7, locals := ls, stack := .ref sa :: .ref T.heap.size :: .ref T.heap.size :: rest, locked := none }) rfl hsize rfl rfl (rest := rest) rfl
    (by rw [hb]; exact d7) (by rw [hb]; exact d10) hout hRframes (by simp only [List.map_cons, List.sum_cons, hcat]; omega) hlocks
  obtain ⟨f1, f2⟩ := vx_frame hsame
  rw [hhp] at f1 f2
  have hWs : s.WarmedH U.vm := State.WarmedH.trans hW0 hW
  have hcl : s.vm.findClass cls = some ce.cls := by
    have h9 := hO.cls
    rw [hvm] at h9
    exact h9
  have hall : s.sameButNew ({ U with vm := s.vm } : State) locs mc ms := by
    subst hA
    obtain ⟨e1, e2⟩ := hsame
    rw [State.setFrames_setFrames] at e1
    have h2 : (T.setVm s.vm).sameButNew ({ U with vm := s.vm } : State) [] (0 + 1) (0 + 6) := ⟨e1, e2⟩
    have h3 := X.same.trans h2
    rw [List.append_nil] at h3
    exact h3.mono hc hs
  refine ⟨U, ?_, .threw T.heap.size, hrun, hend, Or.inr ⟨T.heap.size, rfl, cls, ce, locs, hx U hWs.alike f1 (fun q hq => f2 q hq (fun z hz => nomatch hz)), hce, hO.vm, hcl, hWs, hall, hf⟩⟩
  refine st1 _ ?_
  show Steps p.tables e below (T1.setTop { method := m, pc := pc + 3, locals := ls, stack := .ref T.heap.size :: rest, locked := none }) _
  jvm_step X₁.here [X₁.here.top, hexec, d3', Value.category]
  exact X₁.ldcStringW hexec (own := own) (text := text) (index := is) (a := sa) hown' hstr'.1 hstr'.2
    (g := { method := m, pc := pc + 4, locals := ls, stack := .ref T.heap.size :: .ref T.heap.size :: rest, locked := none }) rfl d4' _ hsteps
end Ends
section Bodies
variable {l : Launch}
theorem vx_ofW {y : MethodName} {ws ws' : List Cond} {rm : Room} {Pc : Array Value → State → Prop} {Qc : Array Value → State → Outcome → State → Prop} {XC : String → State → State → Prop} {mc ms : Nat} {free : Addr → Prop} {cc : ByteArray} {maxL : Nat} {ret : Option FieldType}
    (hy : plainName y.cls = true) (hw : ws = Cond.code y cc maxL ret :: ws')
    (body : ∀ p e s m args below meth c s₁, BodyLoose p l y (headSpec ws rm) cc maxL ret e s m args below meth c s₁ → c.maxLocals = maxL → (∀ x ∈ c.exceptionTable.toList, False) → Pc args s →
      W p l e (headSpec ws rm).room s m args below meth c s.heap [] 0 0 (vx_MQ below Qc XC args s mc ms free) (entryFrame m args maxL)) : vx_Met l y ws rm Pc Qc XC mc ms free := by
  refine MetFree.of_bodyS (code := cc) (maxLocals := maxL) (ret := ret) hy ?_ ?_
  · intro args s m h hn
    obtain ⟨meth, c, h1, h2, h3, h4, h5, h6, -, -⟩ := Cond.code_spec hn (atoms_spec (ws := ws) h _ (by rw [hw]; exact List.mem_cons_self))
    exact ⟨meth, c, h1, h2, h3, h4, h5, h6⟩
  · intro p e s m args below meth c s₁ B hml hP _
    have hh0 : s₁.heap = s.heap := by rw [B.state]; rfl
    have ht : ∀ x ∈ c.exceptionTable.toList, False := by
      obtain ⟨meth9, c9, h1, h2, -, -, -, -, h7, -⟩ := Cond.code_spec B.named (atoms_spec (ws := ws) B.pre _ (by rw [hw]; exact List.mem_cons_self))
      cases Option.some.inj (h1.symm.trans B.method)
      cases Option.some.inj (h2.symm.trans (Stand.of_body B).code)
      intro x hx
      rw [Array.isEmpty_iff.mp h7] at hx
      cases hx
    obtain ⟨t, a1, o, b1, b2, b3⟩ := body p e s m args below meth c s₁ B hml ht hP s₁ hh0 (Stand.of_body B)
    exact ⟨t, o, a1, b1, b2, b3⟩
/-- the table of a body with handlers -/
theorem vx_table {p : Program} {x y : MethodName} {S : Spec} {cc bytes : ByteArray} {maxL maxL' : Nat} {ret ret' : Option FieldType} {e : Env} {s s₁ : State} {m : MethodId} {args : Array Value} {below : List Frame} {meth : Method} {c : Code} {hh : List (Nat × Nat × Nat × Nat)}
    (B : BodyLoose p l y S cc maxL ret e s m args below meth c s₁) (h : (Cond.codeWith y bytes maxL' ret' hh).before args s = true) : c.exceptionTable.toList = tableOf hh := by
  obtain ⟨m9, meth9, c9, hn9, h1, h2, -, -, h6, -⟩ := Cond.codeWith_spec h
  cases Option.some.inj (hn9.symm.trans B.named)
  cases Option.some.inj (h1.symm.trans B.method)
  cases Option.some.inj (h2.symm.trans (Stand.of_body B).code)
  rw [← h6, table_eq]
end Bodies
end VXA
/-! ===== END ===== -/
/-! ===== BEGIN a static call of a method with an exception table ===== -/
section VXS
variable {p : Program} {l : Launch} {e : Env} {R : Room} {s : State} {m : MethodId} {args : Array Value} {below : List Frame} {meth : Method} {c : Code} {T : State} {H : Heap} {locs : List Loc} {cells slots : Nat}
abbrev vx_CSW (R : Room) (s : State) (args : Array Value) (own : String) (index : Nat) (y : MethodName) (bytes : ByteArray) (maxL : Nat) (ret : Option FieldType) (hh : List (Nat × Nat × Nat × Nat)) (ws : List Cond) (rm : Room) (mc ms n : Nat) : Prop :=
  (rm.cells = mc ∧ rm.slots = ms ∧ rm.frames + 1 ≤ R.frames ∧ 8 + (maxL + 11) + rm.locals ≤ R.locals ∧ (∀ w ∈ ws, ∀ (a' : Array Value) (U : State), s.WarmedH U.vm → w.before a' U = true) ∧ Cond.codeWith y bytes maxL ret hh ∈ ws) ∧
  (Cond.codeWith y bytes maxL ret hh).before args s = true ∧ (Cond.initialized y.cls).before args s = true ∧ (y.cls ≠ "java/lang/invoke/MethodHandle" ∧ y.cls ≠ "java/lang/invoke/VarHandle") ∧
  (∀ sig, parseMethodDescriptor y.desc = some sig → n = sig.parameters.length) ∧ (Cond.methodLink own index y).before args s = true ∧ (Cond.static y).before args s = true
theorem vx_cwSW {own : String} {index maxL mc ms : Nat} {y : MethodName} {bytes : ByteArray} {ret : Option FieldType} {hh : List (Nat × Nat × Nat × Nat)} {Ts ws ws' : List Cond} {rm : Room} (n : Nat) (ht : ∀ w ∈ Ts, w.before args s = true) (hT : GoodIn Ts (va_wsS own index y ws)) (hw : ws = Cond.codeWith y bytes maxL ret hh :: ws') (hrc : rm.cells = mc) (hrs : rm.slots = ms)
    (hd : y.cls ≠ "java/lang/invoke/MethodHandle" ∧ y.cls ≠ "java/lang/invoke/VarHandle" ∧ (parseMethodDescriptor y.desc).map (fun d => d.parameters.length) = some n) (hR : rm.frames + 1 ≤ R.frames ∧ 8 + (maxL + 11) + rm.locals ≤ R.locals) :
    vx_CSW R s args own index y bytes maxL ret hh ws rm mc ms n := by
  have ok : ∀ w ∈ va_wsS own index y ws, w.before args s = true := fun w h => ht w (hT w h).1
  have hG : GoodIn Ts ws := fun w h => hT w (by unfold va_wsS; exact List.mem_append_right _ h)
  have hc : Cond.codeWith y bytes maxL ret hh ∈ ws := by rw [hw]; exact List.mem_cons_self
  refine ⟨⟨hrc, hrs, hR.1, hR.2, pay_in ht hG, hc⟩, ht _ (hG _ hc).1, ok _ (by simp [va_wsS]), ⟨hd.1, hd.2.1⟩, fun sig h => ?_, ok _ (by simp [va_wsS]), ok _ (by simp [va_wsS])⟩
  have h2 := hd.2.2
  rw [h] at h2
  exact (Option.some.inj h2).symm
theorem vx_callSW (X : Stand p l e R s m args below meth c T locs cells slots) (hexec : p.tables.exec = Jvm.exec) {own : String} {index : Nat} {y : MethodName} {bytes : ByteArray} {maxL : Nat} {ret : Option FieldType} {hh : List (Nat × Nat × Nat × Nat)}
    (hown : s.vm.findClass own = some m.cls) (hlink : (Cond.methodLink own index y).before args s = true) (hstat : (Cond.static y).before args s = true) (hinit : (Cond.initialized y.cls).before args s = true)
    (hcode : (Cond.codeWith y bytes maxL ret hh).before args s = true) (hy : y.cls ≠ "java/lang/invoke/MethodHandle" ∧ y.cls ≠ "java/lang/invoke/VarHandle")
    {W9 : Nat} {Pre : Pt → Array Value → Prop} {Post : Pt → Array Value → Option Value → Pt → Prop} (hK : Back l R p e below s args y 3 W9 Pre Post)
    {g : JFrame} (hg : g.method = m) (hsize : g.locals.size = c.maxLocals) {argsL rest : List Value} (hlen : ∀ sig, parseMethodDescriptor y.desc = some sig → argsL.length = sig.parameters.length)
    (hstack : g.stack = argsL.reverse ++ rest) (hW : 2 * g.monitorRoom + (rest.map fun v => v.category).sum ≤ W9) (hdg : decode c.code g.pc = .ok (.invokestatic index, 3))
    (hpre : ∀ vm₁, s.WarmedH vm₁ → Pre ⟨T.setVm vm₁, locs, cells, slots⟩ argsL.toArray) :
    ∃ (v : Option Value) (vm₁ : Vm) (B : Pt), s.WarmedH vm₁ ∧ Stand p l e R s m args below meth c B.U B.locs B.cells B.slots ∧ Post ⟨T.setVm vm₁, locs, cells, slots⟩ argsL.toArray v B ∧
      ∀ target, Steps p.tables e below (B.U.setTop { g with pc := g.pc + 3, stack := v.toList ++ rest }) target → Steps p.tables e below (T.setTop g) target := by
  obtain ⟨mk, methM, cM, hnamed, hmethM, -, -, -, -, -, -, hsigM⟩ := Cond.codeWith_spec hcode
  have hstatic : methM.isStatic = true := Cond.static_spec hnamed hmethM hstat
  obtain ⟨kP, hkP, -⟩ := className_of_methodNamed hnamed
  have hinitP : kP.init = .initialized := Cond.initialized_spec (findClass_of_methodNamed hnamed) hkP hinit
  obtain ⟨vm₁, X₁, hstep₁⟩ := X.invokestatic hexec hown hlink hnamed hmethM hstatic hkP hinitP hy (g := g) hg (argsL := argsL) (rest := rest) (hlen _ hsigM) hstack hdg
  obtain ⟨v, B, X', hpost, hsteps⟩ := hK m meth c ⟨T.setVm vm₁, locs, cells, slots⟩ { g with stack := rest } (.invokestatic index) mk argsL.toArray X₁ hg hsize hdg hW (X₁.named hnamed) (hpre vm₁ X₁.warmed)
  exact ⟨v, vm₁, B, X₁.warmed, X', hpost, fun target h => hstep₁ _ fun acts => by rw [doInvoke_state]; exact hsteps.trans h⟩
theorem vx_runSW {y : MethodName} {bytes cc : ByteArray} {maxL nL mc ms n index : Nat} {ret : Option FieldType} {hh : List (Nat × Nat × Nat × Nat)} {ws : List Cond} {rm : Room} {Pc : Array Value → State → Prop} {Qc : Array Value → State → Outcome → State → Prop} {free : Addr → Prop} {Ts : List Cond} {own : String} {As rest : List Value} {g : JFrame}
    (S : CallFix p m c cc nL s args Ts own) (hM : Met l y ws rm Pc Qc mc ms free) (cw : vx_CSW R s args own index y bytes maxL ret hh ws rm mc ms n) (hp : PreS s H Pc As)
    (hg : g.method = m) (hn : As.length = n) (hsize : g.locals.size = nL) (hstack : g.stack = As.reverse ++ rest) (hW : 2 * g.monitorRoom + (rest.map fun v => v.category).sum ≤ 8) (hdg : decode cc g.pc = .ok (.invokestatic index, 3)) (hf : cells + mc ≤ R.cells ∧ slots + ms ≤ R.slots) :
    va_Run p l e R s m args below meth c H locs cells slots mc ms g rest (Qc As.toArray) (free) := by
  obtain ⟨⟨hrc, hrs, hfr, hlo, hws, hcw⟩, hcode, hini, hy, hlen, hl, hstt⟩ := cw
  have hK : Back l R p e below s args y 3 8 (PreOf R mc ms Pc) (PostOf Qc mc ms free) := va_backW (hh := hh) (bytes := bytes) (maxL := maxL) (ret := ret) hM hp.1 hrc hrs hfr hlo hws hcw (fun a' U hW => word_at hW (Or.inl (by first | rfl | simp [Cond.onTables, Cond.keeps, Cond.steady])) hini)
  obtain ⟨hx, hb, hml, ho, -⟩ := S
  intro T hT X
  obtain ⟨v, vm₁, ⟨U', l2, c2, s2⟩, hW₁, X', ⟨g', mk, t, L, e1, e2, hq, h1, hL, h2, h3⟩, st⟩ := vx_callSW X hx (hh := hh) (bytes := bytes) (maxL := maxL) (ret := ret) ho hl hstt hini hcode hy hK hg (hsize.trans hml.symm) (argsL := As) (rest := rest) (fun sig h => hn.trans (hlen sig h)) hstack hW (by rw [hb]; exact hdg)
    (fun vm₁ hW₁ => ⟨hf.1, hf.2, hp.2 (T.setVm vm₁) hT hW₁⟩)
  dsimp only [Pt.U, Pt.locs, Pt.cells, Pt.slots] at X' e1 e2 h1 h2 h3 st
  subst h1; subst h2; subst h3
  exact ⟨v, (T.setVm vm₁).calling g' mk As.toArray, t, U', L, hT, X', hL, e1, e2, hq, st⟩
/-- not caught here, past rows that name other classes: it goes on to the caller -/
theorem vx_outP {p : Program} {l : Launch} {e : Env} {R : Room} {s : State} {m : MethodId} {args : Array Value} {below : List Frame} {meth : Method} {c : Code} {H : Heap} {locs : List Loc} {cells slots : Nat} {free : Addr → Prop} {ls : Array Slot} {rest : List Value} {Qc : Array Value → State → Outcome → State → Prop} {XC : String → State → State → Prop}
    {pc : Nat} {own E : String} {ce : Cell} {q : Addr} {mc ms : Nat} (hown : s.vm.findClass own = some m.cls) (hlocks : meth.locks = false)
    (hpass : ∀ z ∈ c.exceptionTable.toList, covers z pc = false ∨ (z.catchType ≠ 0 ∧ ∃ nm : String, (Cond.classLink own z.catchType nm).before args s = true ∧ va_Nc E nm s)) (hcell : H[q]? = some ce) (hv : ce.vm = .none) (hcl : s.vm.findClass E = some ce.cls)
    (hx : ∀ t : State, t.heap = H → s.vm.Alike t.vm → XC E s t) (hf : ∀ z ∈ locs, free z.base) (hc : cells ≤ mc) (hs : slots ≤ ms) :
    vx_W p l e R s m args below meth c H locs cells slots (vx_MQ below Qc XC args s mc ms free) (F0 m pc ls rest) q := by
  intro T hT X
  have hpl : e.platform.magicAccessors = ({} : Platform).magicAccessors := by rw [X.admits.platform]
  obtain ⟨vm', hW', X', st⟩ := X.outThrough hlocks q (g := F0 m pc ls rest) rfl rfl rfl (cell := ce) (by rw [hT]; exact hcell) (by rw [hv]; rfl)
    (by obtain ⟨k9, h9, -⟩ := Vm.findClass_spec hcl; exact ⟨k9, h9⟩) (fun z hz => by
      rcases hpass z hz with h | ⟨hz0, nm, hl1, hn1⟩
      · exact Or.inl h
      · obtain ⟨c6, hc6, hcl6⟩ := Cond.classLink_spec hown hl1 e.platform hpl
        obtain ⟨a8, b8, h1, h2, h3⟩ := hn1
        cases Option.some.inj (h1.symm.trans hcl)
        cases Option.some.inj (h2.symm.trans hc6)
        exact Or.inr ⟨hz0, _, hcl6, h3⟩)
  obtain ⟨g₀, hfr⟩ := X'.frames_eq
  have hcell9 : ((T.setVm vm').setFrames (.throwing q :: below)).heap[q]? = some ce := by
    show T.heap[q]? = some ce
    rw [hT]; exact hcell
  have hend : Ended ((T.setVm vm').setFrames (.throwing q :: below)) below (.threw q) := State.frames_setFrames _ (State.cur_lt_of_frames hfr)
  refine ⟨(T.setVm vm').setFrames (.throwing q :: below), ?_, .threw q, X'.here.running, hend, Or.inr ⟨q, rfl, E, ce, locs, hx _ hT (X'.ends _).1.alike, hcell9, hv, hcl, (X'.ends _).1, (X'.ends _).2.mono hc hs, hf⟩⟩
  rw [X.pushThrowing_eq]
  exact st
/-- a thing of a world lies in the heap -/
theorem vx_lt {D : va_G} {cl : List vw_C} {ws : va_W} {H1 : Heap} (h : va_P D cl ws H1) {k : Nat} {q : Nat × va_E} (hk : ws[k]? = some q) : q.1 < H1.size := (h k q hk).lt
end VXS
/-! ===== END ===== -/
/-! ===== BEGIN methods with a table of their own: called by a name, returning or throwing ===== -/
section VXH
/-! vx_backW, vx_callVX, vx_callSX, vx_callVW, vx_runVW, vx_runVX, vx_runSX, vx_ofWH follow the same proofs as their sisters above (Free/Laws.lean, Shelf42/LK1.lean); vx_outP calls Shelf42/NT130.lean (outThrough). -/
section
variable {l : Launch} {R : Room} {p : Program} {e : Env} {below : List Frame} {s : State} {sargs : Array Value} {y : MethodName} {len W9 : Nat}
theorem vx_backW {ws : List Cond} {rm : Room} {Pc : Array Value → State → Prop} {Qc : Array Value → State → Outcome → State → Prop} {XC : String → State → State → Prop} {mc ms : Nat} {free : Addr → Prop} {bytes : ByteArray} {maxL : Nat} {ret : Option FieldType} {hh : List (Nat × Nat × Nat × Nat)}
    (hM : vx_Met l y ws rm Pc Qc XC mc ms free) (hblind : FrameBlind Pc) (hrc : rm.cells = mc) (hrs : rm.slots = ms)
    (hframes : rm.frames + 1 ≤ R.frames) (hlocals : W9 + (maxL + 11) + rm.locals ≤ R.locals)
    (hws : ∀ w ∈ ws, ∀ a' U, s.WarmedH U.vm → w.before a' U = true) (hcode : Cond.codeWith y bytes maxL ret hh ∈ ws) (hinit : ∀ a' U, s.WarmedH U.vm → (Cond.initialized y.cls).before a' U = true) :
    vx_Back l R p e below s sargs y len W9 (PreOf R mc ms Pc) (PostOf Qc mc ms free) (vx_Post XC mc ms free) := by
  intro m meth c A g ig mk a X hg hsize hdg hW hn hp
  have h1 : (headSpec ws rm).pre.before a A.U = true := atoms_intro fun w hw => hws w hw _ _ X.warmed
  have h2 : (Cond.codeWith y bytes maxL ret hh).before a A.U = true := hws _ hcode _ _ X.warmed
  have h3 : (Cond.initialized y.cls).before a A.U = true := hinit _ _ X.warmed
  have h4 : A.cells + (headSpec ws rm).room.cells ≤ R.cells := by rw [show (headSpec ws rm).room.cells = mc from hrc]; exact hp.1
  have h5 : A.slots + (headSpec ws rm).room.slots ≤ R.slots := by rw [show (headSpec ws rm).room.slots = ms from hrs]; exact hp.2.1
  have hPc : Pc a (A.U.calling g mk a) := hblind _ _ _ _ hp.2.2
  obtain ⟨U, Ls, c0, s0⟩ := A
  dsimp only [Pt.U, Pt.locs, Pt.cells, Pt.slots] at h1 h2 h3 h4 h5 X hn hPc ⊢
  obtain ⟨m9, methY, cY, hn9, hmY, hcY, -, hlY, -⟩ := Cond.codeWith_spec h2
  cases Option.some.inj (hn9.symm.trans hn)
  obtain ⟨kY, hkY, -⟩ := className_of_methodNamed hn
  have hinitY : kY.init = .initialized := Cond.initialized_spec (findClass_of_methodNamed hn) hkY h3
  have h : At U g.method c below := by rw [hg]; exact X.here
  have hlocals9 : W9 + (maxL + 11) + (headSpec ws rm).room.locals ≤ R.locals := hlocals
  have happ : (headSpec ws rm).appliesLoose y e.platform (U.calling g mk a) = true :=
    Spec.appliesLoose_calling (g := g) h hdg hn hkY hinitY
      (X.room_calling (g := g) (R' := (headSpec ws rm).room) hsize hmY hcY hframes (by rw [hlY]; omega) h4 h5) h1
  obtain ⟨mid, hmid⟩ := h.above
  have hfr : (U.setTop g).frames = (.java g :: mid) ++ below := by rw [State.frames_setTop' g h.top, hmid]; rfl
  obtain ⟨o, s₂, hsteps, -, hend, hq⟩ := Steps.callFree hM p X.admits X.cas X.clock (acts := []) hfr happ hPc trivial
  have hq' : vx_Q Qc XC mc ms free a (U.calling g mk a) o s₂ := hq
  rw [State.frames_setTop' g h.top] at hend
  obtain ⟨g₀, hg0⟩ := Option.isSome_iff_exists.mp h.top
  obtain ⟨r, hr⟩ := State.topJava?_eq_some.mp hg0
  have hr' : (({ U with heap := s₂.heap, slotsUsed := s₂.slotsUsed } : State).setVm s₂.vm).frames = .java g₀ :: r := hr
  rcases hq' with ⟨hqc, L, hfe, hL⟩ | ⟨q, rfl, E, ce, L, hx, hce, hcv, hcl, hW₂, hsm, hL⟩
  · obtain ⟨⟨v, rfl⟩, hW₂, e2, q2, q3, q4, q5, q6⟩ := id hfe
    have e3 : s₂ = ({ (U.calling g mk a).setFrames s₂.frames with heap := s₂.heap, slotsUsed := s₂.slotsUsed } : State).setVm s₂.vm := by
      have : s₂ = ({ s₂ with vm := (U.calling g mk a).vm } : State).setVm s₂.vm := rfl
      rw [e2] at this
      exact this
    obtain ⟨c₂, i₂, len₂, hc₂, hd₂, hf₂⟩ := hend
    have hW' : U.WarmedH s₂.vm := hW₂
    have hcc : c₂ = c := by
      have h1 : s₂.code? g.method = U.code? g.method := by
        rw [State.code?_eq, State.code?_eq, hW'.alike.method?]
      exact Option.some.inj (hc₂.symm.trans (h1.trans h.code))
    subst hcc
    have hlen : len₂ = len := by rw [hdg] at hd₂; cases hd₂; rfl
    subst hlen
    have hs₂ : s₂ = (({ U with heap := s₂.heap, slotsUsed := s₂.slotsUsed } : State).setVm s₂.vm).setTop { g with pc := g.pc + len₂, stack := v.toList ++ g.stack } := by
      refine e3.trans ?_
      rw [hf₂, State.calling_eq h.top, State.setFrames_setFrames, State.setTop_of_frames _ hr', hr]
      rfl
    have hsame : U.sameButNew ({ U with heap := s₂.heap, slotsUsed := s₂.slotsUsed } : State) L mc ms := by
      refine ⟨?_, q2, q3, q4, q5, q6⟩
      obtain ⟨t, ht, -⟩ := State.frames_cons hr
      show ({ U with heap := s₂.heap, slotsUsed := s₂.slotsUsed } : State) = { U.setFrames U.frames with heap := s₂.heap, slotsUsed := s₂.slotsUsed }
      rw [State.setFrames_self ht]
    subst hg
    refine Or.inl ⟨v, ⟨(({ U with heap := s₂.heap, slotsUsed := s₂.slotsUsed } : State).setVm s₂.vm), Ls ++ L, c0 + mc, s0 + ms⟩,
      ⟨X.admits, X.cas, X.clock, X.frames, X.room, X.hears, X.method, X.code, (X.here.setHeapUsed s₂.heap s₂.slotsUsed).setVm hW'.alike, X.tail, State.WarmedH.trans X.warmed hW', X.limits, X.bytes, X.same.trans (hsame.setVm s.vm)⟩,
      ⟨g, mk, s₂, L, rfl, rfl, hqc, rfl, hL, rfl, rfl⟩, ?_⟩
    show Steps p.tables e below _ ((({ U with heap := s₂.heap, slotsUsed := s₂.slotsUsed } : State).setVm s₂.vm).setTop { g with pc := g.pc + len₂, stack := v.toList ++ g.stack })
    rw [← hs₂]
    exact hsteps
  · obtain ⟨e2, q2, q3, q4, q5, q6⟩ := id hsm
    have e3 : s₂ = ({ (U.calling g mk a).setFrames s₂.frames with heap := s₂.heap, slotsUsed := s₂.slotsUsed } : State).setVm s₂.vm := by
      have : s₂ = ({ s₂ with vm := (U.calling g mk a).vm } : State).setVm s₂.vm := rfl
      rw [e2] at this
      exact this
    have hf₂ : s₂.frames = .throwing q :: .java g :: U.frames.tail := hend
    have hW' : U.WarmedH s₂.vm := hW₂
    have hs₂ : s₂ = ((({ U with heap := s₂.heap, slotsUsed := s₂.slotsUsed } : State).setVm s₂.vm).setTop g).pushFrame (.throwing q) := by
      refine e3.trans ?_
      rw [hf₂, State.calling_eq h.top, State.setFrames_setFrames, State.pushFrame, State.frames_setTop _ hr', State.setTop_of_frames _ hr', State.setFrames_setFrames, hr]
      rfl
    have hsame : U.sameButNew ({ U with heap := s₂.heap, slotsUsed := s₂.slotsUsed } : State) L mc ms := by
      refine ⟨?_, q2, q3, q4, q5, q6⟩
      obtain ⟨t, ht, -⟩ := State.frames_cons hr
      show ({ U with heap := s₂.heap, slotsUsed := s₂.slotsUsed } : State) = { U.setFrames U.frames with heap := s₂.heap, slotsUsed := s₂.slotsUsed }
      rw [State.setFrames_self ht]
    subst hg
    refine Or.inr ⟨q, ⟨(({ U with heap := s₂.heap, slotsUsed := s₂.slotsUsed } : State).setVm s₂.vm), Ls ++ L, c0 + mc, s0 + ms⟩,
      ⟨X.admits, X.cas, X.clock, X.frames, X.room, X.hears, X.method, X.code, (X.here.setHeapUsed s₂.heap s₂.slotsUsed).setVm hW'.alike, X.tail, State.WarmedH.trans X.warmed hW', X.limits, X.bytes, X.same.trans (hsame.setVm s.vm)⟩,
      ⟨g, mk, s₂, L, E, ce, rfl, rfl, hx, hce, hcv, hcl, rfl, hL, rfl, rfl⟩, ?_⟩
    show Steps p.tables e below _ (((({ U with heap := s₂.heap, slotsUsed := s₂.slotsUsed } : State).setVm s₂.vm).setTop g).pushFrame (.throwing q))
    rw [← hs₂]
    exact hsteps
end
variable {p : Program} {l : Launch} {e : Env} {R : Room} {s : State} {m : MethodId} {args : Array Value} {below : List Frame} {meth : Method} {c : Code} {T : State} {H : Heap} {locs : List Loc} {cells slots : Nat}
theorem vx_callVX (X : Stand p l e R s m args below meth c T locs cells slots) (hexec : p.tables.exec = Jvm.exec) {own C : String} {index : Nat} {y : MethodName} {bytes : ByteArray} {maxL : Nat} {ret : Option FieldType} {hh : List (Nat × Nat × Nat × Nat)}
    (hown : s.vm.findClass own = some m.cls) (hlink : (Cond.methodLink own index y).before args s = true) (hinst : (Cond.instanceMethod y).before args s = true) (hsel : (Cond.selects C y y).before args s = true)
    (hcode : (Cond.codeWith y bytes maxL ret hh).before args s = true) (hy : y.cls ≠ "java/lang/invoke/MethodHandle" ∧ y.cls ≠ "java/lang/invoke/VarHandle")
    {W9 : Nat} {Pre : Pt → Array Value → Prop} {Post : Pt → Array Value → Option Value → Pt → Prop} {PostX : Pt → Array Value → Addr → Pt → Prop} (hK : vx_Back l R p e below s args y 3 W9 Pre Post PostX)
    {b : Addr} {cellB : Cell} (hcell : T.heap[b]? = some cellB) (hobj : cellB.vm.isStatics = false) (hcls : s.vm.findClass C = some cellB.cls)
    {g : JFrame} (hg : g.method = m) (hsize : g.locals.size = c.maxLocals) {argsL rest : List Value} (hlen : ∀ sig, parseMethodDescriptor y.desc = some sig → argsL.length = sig.parameters.length)
    (hstack : g.stack = argsL.reverse ++ .ref b :: rest) (hW : 2 * g.monitorRoom + (rest.map fun v => v.category).sum ≤ W9) (hdg : decode c.code g.pc = .ok (.invokevirtual index, 3))
    (hpre : ∀ vm₁, s.WarmedH vm₁ → Pre ⟨T.setVm vm₁, locs, cells, slots⟩ (Value.ref b :: argsL).toArray) :
    (∃ (v : Option Value) (vm₁ : Vm) (B : Pt), s.WarmedH vm₁ ∧ Stand p l e R s m args below meth c B.U B.locs B.cells B.slots ∧ Post ⟨T.setVm vm₁, locs, cells, slots⟩ (Value.ref b :: argsL).toArray v B ∧
      ∀ target, Steps p.tables e below (B.U.setTop { g with pc := g.pc + 3, stack := v.toList ++ rest }) target → Steps p.tables e below (T.setTop g) target) ∨
    (∃ (q : Addr) (vm₁ : Vm) (B : Pt), s.WarmedH vm₁ ∧ Stand p l e R s m args below meth c B.U B.locs B.cells B.slots ∧ PostX ⟨T.setVm vm₁, locs, cells, slots⟩ (Value.ref b :: argsL).toArray q B ∧
      Steps p.tables e below (T.setTop g) ((B.U.setTop { g with stack := rest }).pushFrame (.throwing q))) := by
  obtain ⟨mk, methM, hnamed, hmethM, hstM, habM⟩ := Cond.instanceMethod_spec hinst
  obtain ⟨m8, methM', cM, hn8, hmethM', -, -, -, -, -, -, hsigM⟩ := Cond.codeWith_spec hcode
  cases Option.some.inj (hn8.symm.trans hnamed)
  cases hmethM.symm.trans hmethM'
  obtain ⟨c2, r2, m2, q1, q2, q3, q4, kP, hkP, hkPi⟩ := Cond.selects_spec hsel
  cases hcls.symm.trans q1
  cases (State.methodFound?_of_named hnamed hy).symm.trans q2
  cases hnamed.symm.trans q3
  have hselP : selectMethod e.platform s.vm cellB.cls mk = .method mk := by rw [Launch.admits_selectMethod X.admits]; exact q4
  obtain ⟨vm₁, X₁, hstep₁⟩ := X.invokevirtual hexec hown hlink hnamed hmethM hstM hkP hkPi hy (a := b) (cell := cellB) hcell
    (fun z h => by rw [h] at hobj; cases hobj) hselP hmethM habM hkP hkPi (g := g) hg (argsL := argsL) (rest := rest) (hlen _ hsigM) hstack hdg
  rcases hK m meth c ⟨T.setVm vm₁, locs, cells, slots⟩ { g with stack := rest } (.invokevirtual index) mk (Value.ref b :: argsL).toArray X₁ hg hsize hdg hW (X₁.named hnamed) (hpre vm₁ X₁.warmed) with ⟨v, B, X', hpost, hsteps⟩ | ⟨q, B, X', hpost, hsteps⟩
  · exact Or.inl ⟨v, vm₁, B, X₁.warmed, X', hpost, fun target h => hstep₁ _ fun acts => by rw [doInvoke_state]; exact hsteps.trans h⟩
  · exact Or.inr ⟨q, vm₁, B, X₁.warmed, X', hpost, hstep₁ _ fun acts => by rw [doInvoke_state]; exact hsteps⟩
theorem vx_callSX (X : Stand p l e R s m args below meth c T locs cells slots) (hexec : p.tables.exec = Jvm.exec) {own : String} {index : Nat} {y : MethodName} {bytes : ByteArray} {maxL : Nat} {ret : Option FieldType} {hh : List (Nat × Nat × Nat × Nat)}
    (hown : s.vm.findClass own = some m.cls) (hlink : (Cond.methodLink own index y).before args s = true) (hstat : (Cond.static y).before args s = true) (hinit : (Cond.initialized y.cls).before args s = true)
    (hcode : (Cond.codeWith y bytes maxL ret hh).before args s = true) (hy : y.cls ≠ "java/lang/invoke/MethodHandle" ∧ y.cls ≠ "java/lang/invoke/VarHandle")
    {W9 : Nat} {Pre : Pt → Array Value → Prop} {Post : Pt → Array Value → Option Value → Pt → Prop} {PostX : Pt → Array Value → Addr → Pt → Prop} (hK : vx_Back l R p e below s args y 3 W9 Pre Post PostX)
    {g : JFrame} (hg : g.method = m) (hsize : g.locals.size = c.maxLocals) {argsL rest : List Value} (hlen : ∀ sig, parseMethodDescriptor y.desc = some sig → argsL.length = sig.parameters.length)
    (hstack : g.stack = argsL.reverse ++ rest) (hW : 2 * g.monitorRoom + (rest.map fun v => v.category).sum ≤ W9) (hdg : decode c.code g.pc = .ok (.invokestatic index, 3))
    (hpre : ∀ vm₁, s.WarmedH vm₁ → Pre ⟨T.setVm vm₁, locs, cells, slots⟩ argsL.toArray) :
    (∃ (v : Option Value) (vm₁ : Vm) (B : Pt), s.WarmedH vm₁ ∧ Stand p l e R s m args below meth c B.U B.locs B.cells B.slots ∧ Post ⟨T.setVm vm₁, locs, cells, slots⟩ argsL.toArray v B ∧
      ∀ target, Steps p.tables e below (B.U.setTop { g with pc := g.pc + 3, stack := v.toList ++ rest }) target → Steps p.tables e below (T.setTop g) target) ∨
    (∃ (q : Addr) (vm₁ : Vm) (B : Pt), s.WarmedH vm₁ ∧ Stand p l e R s m args below meth c B.U B.locs B.cells B.slots ∧ PostX ⟨T.setVm vm₁, locs, cells, slots⟩ argsL.toArray q B ∧
      Steps p.tables e below (T.setTop g) ((B.U.setTop { g with stack := rest }).pushFrame (.throwing q))) := by
  obtain ⟨mk, methM, cM, hnamed, hmethM, -, -, -, -, -, -, hsigM⟩ := Cond.codeWith_spec hcode
  have hstatic : methM.isStatic = true := Cond.static_spec hnamed hmethM hstat
  obtain ⟨kP, hkP, -⟩ := className_of_methodNamed hnamed
  have hinitP : kP.init = .initialized := Cond.initialized_spec (findClass_of_methodNamed hnamed) hkP hinit
  obtain ⟨vm₁, X₁, hstep₁⟩ := X.invokestatic hexec hown hlink hnamed hmethM hstatic hkP hinitP hy (g := g) hg (argsL := argsL) (rest := rest) (hlen _ hsigM) hstack hdg
  rcases hK m meth c ⟨T.setVm vm₁, locs, cells, slots⟩ { g with stack := rest } (.invokestatic index) mk argsL.toArray X₁ hg hsize hdg hW (X₁.named hnamed) (hpre vm₁ X₁.warmed) with ⟨v, B, X', hpost, hsteps⟩ | ⟨q, B, X', hpost, hsteps⟩
  · exact Or.inl ⟨v, vm₁, B, X₁.warmed, X', hpost, fun target h => hstep₁ _ fun acts => by rw [doInvoke_state]; exact hsteps.trans h⟩
  · exact Or.inr ⟨q, vm₁, B, X₁.warmed, X', hpost, hstep₁ _ fun acts => by rw [doInvoke_state]; exact hsteps⟩
theorem vx_callVW (X : Stand p l e R s m args below meth c T locs cells slots) (hexec : p.tables.exec = Jvm.exec) {own C : String} {index : Nat} {y : MethodName} {bytes : ByteArray} {maxL : Nat} {ret : Option FieldType} {hh : List (Nat × Nat × Nat × Nat)}
    (hown : s.vm.findClass own = some m.cls) (hlink : (Cond.methodLink own index y).before args s = true) (hinst : (Cond.instanceMethod y).before args s = true) (hsel : (Cond.selects C y y).before args s = true)
    (hcode : (Cond.codeWith y bytes maxL ret hh).before args s = true) (hy : y.cls ≠ "java/lang/invoke/MethodHandle" ∧ y.cls ≠ "java/lang/invoke/VarHandle")
    {W9 : Nat} {Pre : Pt → Array Value → Prop} {Post : Pt → Array Value → Option Value → Pt → Prop} (hK : Back l R p e below s args y 3 W9 Pre Post)
    {b : Addr} {cellB : Cell} (hcell : T.heap[b]? = some cellB) (hobj : cellB.vm.isStatics = false) (hcls : s.vm.findClass C = some cellB.cls)
    {g : JFrame} (hg : g.method = m) (hsize : g.locals.size = c.maxLocals) {argsL rest : List Value} (hlen : ∀ sig, parseMethodDescriptor y.desc = some sig → argsL.length = sig.parameters.length)
    (hstack : g.stack = argsL.reverse ++ .ref b :: rest) (hW : 2 * g.monitorRoom + (rest.map fun v => v.category).sum ≤ W9) (hdg : decode c.code g.pc = .ok (.invokevirtual index, 3))
    (hpre : ∀ vm₁, s.WarmedH vm₁ → Pre ⟨T.setVm vm₁, locs, cells, slots⟩ (Value.ref b :: argsL).toArray) :
    ∃ (v : Option Value) (vm₁ : Vm) (B : Pt), s.WarmedH vm₁ ∧ Stand p l e R s m args below meth c B.U B.locs B.cells B.slots ∧ Post ⟨T.setVm vm₁, locs, cells, slots⟩ (Value.ref b :: argsL).toArray v B ∧
      ∀ target, Steps p.tables e below (B.U.setTop { g with pc := g.pc + 3, stack := v.toList ++ rest }) target → Steps p.tables e below (T.setTop g) target := by
  obtain ⟨mk, methM, hnamed, hmethM, hstM, habM⟩ := Cond.instanceMethod_spec hinst
  obtain ⟨m8, methM', cM, hn8, hmethM', -, -, -, -, -, -, hsigM⟩ := Cond.codeWith_spec hcode
  cases Option.some.inj (hn8.symm.trans hnamed)
  cases hmethM.symm.trans hmethM'
  obtain ⟨c2, r2, m2, q1, q2, q3, q4, kP, hkP, hkPi⟩ := Cond.selects_spec hsel
  cases hcls.symm.trans q1
  cases (State.methodFound?_of_named hnamed hy).symm.trans q2
  cases hnamed.symm.trans q3
  have hselP : selectMethod e.platform s.vm cellB.cls mk = .method mk := by rw [Launch.admits_selectMethod X.admits]; exact q4
  obtain ⟨vm₁, X₁, hstep₁⟩ := X.invokevirtual hexec hown hlink hnamed hmethM hstM hkP hkPi hy (a := b) (cell := cellB) hcell
    (fun z h => by rw [h] at hobj; cases hobj) hselP hmethM habM hkP hkPi (g := g) hg (argsL := argsL) (rest := rest) (hlen _ hsigM) hstack hdg
  obtain ⟨v, B, X', hpost, hsteps⟩ := hK m meth c ⟨T.setVm vm₁, locs, cells, slots⟩ { g with stack := rest } (.invokevirtual index) mk (Value.ref b :: argsL).toArray X₁ hg hsize hdg hW (X₁.named hnamed) (hpre vm₁ X₁.warmed)
  exact ⟨v, vm₁, B, X₁.warmed, X', hpost, fun target h => hstep₁ _ fun acts => by rw [doInvoke_state]; exact hsteps.trans h⟩
abbrev vx_CVW (R : Room) (s : State) (args : Array Value) (own C : String) (index : Nat) (y : MethodName) (bytes : ByteArray) (maxL : Nat) (ret : Option FieldType) (hh : List (Nat × Nat × Nat × Nat)) (ws : List Cond) (rm : Room) (mc ms n : Nat) : Prop :=
  (rm.cells = mc ∧ rm.slots = ms ∧ rm.frames + 1 ≤ R.frames ∧ 8 + (maxL + 11) + rm.locals ≤ R.locals ∧ (∀ w ∈ ws, ∀ (a' : Array Value) (U : State), s.WarmedH U.vm → w.before a' U = true) ∧ Cond.codeWith y bytes maxL ret hh ∈ ws) ∧
  (Cond.codeWith y bytes maxL ret hh).before args s = true ∧ (Cond.initialized y.cls).before args s = true ∧ (y.cls ≠ "java/lang/invoke/MethodHandle" ∧ y.cls ≠ "java/lang/invoke/VarHandle") ∧
  (∀ sig, parseMethodDescriptor y.desc = some sig → n = sig.parameters.length) ∧ (Cond.methodLink own index y).before args s = true ∧ (Cond.instanceMethod y).before args s = true ∧ (Cond.selects C y y).before args s = true
theorem vx_cwVW {own C : String} {index maxL mc ms : Nat} {y : MethodName} {bytes : ByteArray} {ret : Option FieldType} {hh : List (Nat × Nat × Nat × Nat)} {Ts ws ws' : List Cond} {rm : Room} (n : Nat) (ht : ∀ w ∈ Ts, w.before args s = true) (hT : GoodIn Ts (wsV own index C y ws)) (hw : ws = Cond.codeWith y bytes maxL ret hh :: ws') (hrc : rm.cells = mc) (hrs : rm.slots = ms)
    (hd : y.cls = C ∧ y.cls ≠ "java/lang/invoke/MethodHandle" ∧ y.cls ≠ "java/lang/invoke/VarHandle" ∧ (parseMethodDescriptor y.desc).map (fun d => d.parameters.length) = some n) (hR : rm.frames + 1 ≤ R.frames ∧ 8 + (maxL + 11) + rm.locals ≤ R.locals) :
    vx_CVW R s args own C index y bytes maxL ret hh ws rm mc ms n := by
  obtain ⟨hC, hd⟩ := hd
  subst hC
  have ok : ∀ w ∈ wsV own index y.cls y ws, w.before args s = true := fun w h => ht w (hT w h).1
  have hG : GoodIn Ts ws := fun w h => hT w (by unfold wsV; exact List.mem_append_right _ h)
  have hc : Cond.codeWith y bytes maxL ret hh ∈ ws := by rw [hw]; exact List.mem_cons_self
  refine ⟨⟨hrc, hrs, hR.1, hR.2, pay_in ht hG, hc⟩, ht _ (hG _ hc).1, ok _ (by simp [wsV]), ⟨hd.1, hd.2.1⟩, fun sig h => ?_, ok _ (by simp [wsV]), ok _ (by simp [wsV]), ok _ (by simp [wsV])⟩
  have h2 := hd.2.2
  rw [h] at h2
  exact (Option.some.inj h2).symm
theorem vx_runVW {y : MethodName} {bytes cc : ByteArray} {maxL nL mc ms n index : Nat} {ret : Option FieldType} {hh : List (Nat × Nat × Nat × Nat)} {ws : List Cond} {rm : Room} {Pc : Array Value → State → Prop} {Qc : Array Value → State → Outcome → State → Prop} {free : Addr → Prop} {Ts : List Cond} {own C : String} {b : Addr} {As rest : List Value} {g : JFrame}
    (S : CallFix p m c cc nL s args Ts own) (hM : Met l y ws rm Pc Qc mc ms free) (cw : vx_CVW R s args own C index y bytes maxL ret hh ws rm mc ms n) (hp : PreV s H C b Pc As)
    (hg : g.method = m) (hn : As.length = n) (hsize : g.locals.size = nL) (hstack : g.stack = As.reverse ++ .ref b :: rest) (hW : 2 * g.monitorRoom + (rest.map fun v => v.category).sum ≤ 8) (hdg : decode cc g.pc = .ok (.invokevirtual index, 3)) (hf : cells + mc ≤ R.cells ∧ slots + ms ≤ R.slots) :
    va_Run p l e R s m args below meth c H locs cells slots mc ms g rest (Qc (Value.ref b :: As).toArray) free := by
  obtain ⟨⟨hrc, hrs, hfr, hlo, hws, hcw⟩, hcode, hini, hy, hlen, hl, hin, hse⟩ := cw
  have hK : Back l R p e below s args y 3 8 (PreOf R mc ms Pc) (PostOf Qc mc ms free) := va_backW (hh := hh) (bytes := bytes) (maxL := maxL) (ret := ret) hM hp.1 hrc hrs hfr hlo hws hcw (fun a' U hW => word_at hW (Or.inl (by first | rfl | simp [Cond.onTables, Cond.keeps, Cond.steady])) hini)
  obtain ⟨hx, hb, hml, ho, -⟩ := S
  obtain ⟨-, ⟨cellB, hcB, hoB, hclB⟩, hPc⟩ := hp
  intro T hT X
  obtain ⟨v, vm₁, ⟨U', l2, c2, s2⟩, hW₁, X', ⟨g', mk, t, L, e1, e2, hq, h1, hL, h2, h3⟩, st⟩ := vx_callVW X hx (C := C) (hh := hh) (bytes := bytes) (maxL := maxL) (ret := ret) ho hl hin hse hcode hy hK (by rw [hT]; exact hcB) hoB hclB hg (hsize.trans hml.symm) (argsL := As) (rest := rest) (fun sig h => hn.trans (hlen sig h)) hstack hW (by rw [hb]; exact hdg)
    (fun vm₁ hW₁ => ⟨hf.1, hf.2, hPc (T.setVm vm₁) hT hW₁⟩)
  dsimp only [Pt.U, Pt.locs, Pt.cells, Pt.slots] at X' e1 e2 h1 h2 h3 st
  subst h1; subst h2; subst h3
  exact ⟨v, (T.setVm vm₁).calling g' mk (Value.ref b :: As).toArray, t, U', L, hT, X', hL, e1, e2, hq, st⟩
section
variable {y : MethodName} {bytes cc : ByteArray} {maxL nL mc ms n index : Nat} {ret : Option FieldType} {ws : List Cond} {rm : Room} {Pc : Array Value → State → Prop} {Qc : Array Value → State → Outcome → State → Prop} {XC : String → State → State → Prop} {free : Addr → Prop} {Ts : List Cond} {own C : String} {b : Addr} {As rest : List Value} {g : JFrame}
theorem vx_runVX {hh : List (Nat × Nat × Nat × Nat)} (S : CallFix p m c cc nL s args Ts own) (hM : vx_Met l y ws rm Pc Qc XC mc ms free) (cw : vx_CVW R s args own C index y bytes maxL ret hh ws rm mc ms n) (hp : PreV s H C b Pc As)
    (hg : g.method = m) (hn : As.length = n) (hsize : g.locals.size = nL) (hstack : g.stack = As.reverse ++ .ref b :: rest) (hW : 2 * g.monitorRoom + (rest.map fun v => v.category).sum ≤ 8) (hdg : decode cc g.pc = .ok (.invokevirtual index, 3)) (hf : cells + mc ≤ R.cells ∧ slots + ms ≤ R.slots) :
    vx_Run p l e R s m args below meth c H locs cells slots mc ms g rest (Qc (Value.ref b :: As).toArray) XC free := by
  obtain ⟨⟨hrc, hrs, hfr, hlo, hws, hcw⟩, hcode, hini, hy, hlen, hl, hin, hse⟩ := cw
  have hK : vx_Back l R p e below s args y 3 8 (PreOf R mc ms Pc) (PostOf Qc mc ms free) (vx_Post XC mc ms free) := vx_backW (hh := hh) (bytes := bytes) (maxL := maxL) (ret := ret) hM hp.1 hrc hrs hfr hlo hws hcw (fun a' U hW => word_at hW (Or.inl (by first | rfl | simp [Cond.onTables, Cond.keeps, Cond.steady])) hini)
  obtain ⟨hx, hb, hml, ho, -⟩ := S
  obtain ⟨-, ⟨cellB, hcB, hoB, hclB⟩, hPc⟩ := hp
  intro T hT X
  rcases vx_callVX X hx (C := C) (hh := hh) (bytes := bytes) (maxL := maxL) (ret := ret) ho hl hin hse hcode hy hK (by rw [hT]; exact hcB) hoB hclB hg (hsize.trans hml.symm) (argsL := As) (rest := rest) (fun sig h => hn.trans (hlen sig h)) hstack hW (by rw [hb]; exact hdg)
    (fun vm₁ hW₁ => ⟨hf.1, hf.2, hPc (T.setVm vm₁) hT hW₁⟩) with ⟨v, vm₁, ⟨U', l2, c2, s2⟩, hW₁, X', ⟨g', mk, t, L, e1, e2, hq, h1, hL, h2, h3⟩, st⟩ | ⟨q, vm₁, ⟨U', l2, c2, s2⟩, hW₁, X', ⟨g', mk, t, L, E, ce, e1, e2, hq, hce, hcv, hcl, h1, hL, h2, h3⟩, st⟩
  · dsimp only [Pt.U, Pt.locs, Pt.cells, Pt.slots] at X' e1 e2 h1 h2 h3 st
    subst h1; subst h2; subst h3
    exact Or.inl ⟨v, (T.setVm vm₁).calling g' mk (Value.ref b :: As).toArray, t, U', L, hT, X', hL, e1, e2, hq, st⟩
  · dsimp only [Pt.U, Pt.locs, Pt.cells, Pt.slots] at X' e1 e2 h1 h2 h3 st hcl
    subst h1; subst h2; subst h3
    exact Or.inr ⟨q, (T.setVm vm₁).calling g' mk (Value.ref b :: As).toArray, t, U', L, E, ce, hT, X', hL, e1, e2, hq, hce, hcv, vx_cls hW₁ hcl, st⟩
theorem vx_runSX {hh : List (Nat × Nat × Nat × Nat)} (S : CallFix p m c cc nL s args Ts own) (hM : vx_Met l y ws rm Pc Qc XC mc ms free) (cw : vx_CSW R s args own index y bytes maxL ret hh ws rm mc ms n) (hp : PreS s H Pc As)
    (hg : g.method = m) (hn : As.length = n) (hsize : g.locals.size = nL) (hstack : g.stack = As.reverse ++ rest) (hW : 2 * g.monitorRoom + (rest.map fun v => v.category).sum ≤ 8) (hdg : decode cc g.pc = .ok (.invokestatic index, 3)) (hf : cells + mc ≤ R.cells ∧ slots + ms ≤ R.slots) :
    vx_Run p l e R s m args below meth c H locs cells slots mc ms g rest (Qc As.toArray) XC free := by
  obtain ⟨⟨hrc, hrs, hfr, hlo, hws, hcw⟩, hcode, hini, hy, hlen, hl, hstt⟩ := cw
  have hK : vx_Back l R p e below s args y 3 8 (PreOf R mc ms Pc) (PostOf Qc mc ms free) (vx_Post XC mc ms free) := vx_backW (hh := hh) (bytes := bytes) (maxL := maxL) (ret := ret) hM hp.1 hrc hrs hfr hlo hws hcw (fun a' U hW => word_at hW (Or.inl (by first | rfl | simp [Cond.onTables, Cond.keeps, Cond.steady])) hini)
  obtain ⟨hx, hb, hml, ho, -⟩ := S
  intro T hT X
  rcases vx_callSX X hx (hh := hh) (bytes := bytes) (maxL := maxL) (ret := ret) ho hl hstt hini hcode hy hK hg (hsize.trans hml.symm) (argsL := As) (rest := rest) (fun sig h => hn.trans (hlen sig h)) hstack hW (by rw [hb]; exact hdg)
    (fun vm₁ hW₁ => ⟨hf.1, hf.2, hp.2 (T.setVm vm₁) hT hW₁⟩) with ⟨v, vm₁, ⟨U', l2, c2, s2⟩, hW₁, X', ⟨g', mk, t, L, e1, e2, hq, h1, hL, h2, h3⟩, st⟩ | ⟨q, vm₁, ⟨U', l2, c2, s2⟩, hW₁, X', ⟨g', mk, t, L, E, ce, e1, e2, hq, hce, hcv, hcl, h1, hL, h2, h3⟩, st⟩
  · dsimp only [Pt.U, Pt.locs, Pt.cells, Pt.slots] at X' e1 e2 h1 h2 h3 st
    subst h1; subst h2; subst h3
    exact Or.inl ⟨v, (T.setVm vm₁).calling g' mk As.toArray, t, U', L, hT, X', hL, e1, e2, hq, st⟩
  · dsimp only [Pt.U, Pt.locs, Pt.cells, Pt.slots] at X' e1 e2 h1 h2 h3 st hcl
    subst h1; subst h2; subst h3
    exact Or.inr ⟨q, (T.setVm vm₁).calling g' mk As.toArray, t, U', L, E, ce, hT, X', hL, e1, e2, hq, hce, hcv, vx_cls hW₁ hcl, st⟩
end
end VXH
theorem vx_ofWH {l : Launch} {y : MethodName} {ws ws' : List Cond} {rm : Room} {Pc : Array Value → State → Prop} {Qc : Array Value → State → Outcome → State → Prop} {XC : String → State → State → Prop} {mc ms : Nat} {free : Addr → Prop} {cc : ByteArray} {maxL : Nat} {ret : Option FieldType} {hh : List (Nat × Nat × Nat × Nat)}
    (hy : plainName y.cls = true) (hw : ws = Cond.codeWith y cc maxL ret hh :: ws')
    (body : ∀ p e s m args below meth c s₁, BodyLoose p l y (headSpec ws rm) cc maxL ret e s m args below meth c s₁ → c.maxLocals = maxL → Pc args s →
      W p l e (headSpec ws rm).room s m args below meth c s.heap [] 0 0 (vx_MQ below Qc XC args s mc ms free) (entryFrame m args maxL)) : vx_Met l y ws rm Pc Qc XC mc ms free := by
  refine MetFree.of_bodyS (code := cc) (maxLocals := maxL) (ret := ret) hy ?_ ?_
  · intro args s m h hn
    obtain ⟨m9, meth, c, hn9, h1, h2, h3, h4, -, h5, h6, -⟩ := Cond.codeWith_spec (atoms_spec (ws := ws) h _ (by rw [hw]; exact List.mem_cons_self))
    cases hn.symm.trans hn9
    exact ⟨meth, c, h1, h2, h3, h4, h5, h6⟩
  · intro p e s m args below meth c s₁ B hml hP _
    have hh0 : s₁.heap = s.heap := by rw [B.state]; rfl
    obtain ⟨t, a1, o, b1, b2, b3⟩ := body p e s m args below meth c s₁ B hml hP s₁ hh0 (Stand.of_body B)
    exact ⟨t, o, a1, b1, b2, b3⟩
/-! ===== END ===== -/
end
section
def RX0 : String := "MouldDesk$Cavity"
def TX0 : u_T := fun k => match k with
  | 0 => ("MouldDesk$Cavity", "blocked", "Z", false)
  | 1 => ("MouldDesk$Cavity", "made", "I", false)
  | _ => ("MouldDesk$Cavity", "life", "I", false)
def tyX0 : Nat → FieldType := fun k => match k with
  | 0 => .boolean
  | 1 => .int
  | _ => .int
abbrev wsX00 : List Cond := u_ws RX0 TX0 3
theorem nmX0 : ∀ a, a < 3 → ∀ b, b < 3 → a ≠ b → (TX0 a).2.1 ≠ (TX0 b).2.1 := by decide +kernel
theorem tyX0_ok : ∀ k, k < 3 → parseFieldDescriptor (TX0 k).2.2.1 = some (tyX0 k) := by decide +kernel
abbrev cX0_init : ByteArray := prog_2_method_1_code
def yX0_init : MethodName := ⟨RX0, "<init>", "()V"⟩
abbrev cX0_failIfWorn : ByteArray := prog_2_method_2_code
def yX0_failIfWorn : MethodName := ⟨RX0, "failIfWorn", "()V"⟩
def RX1 : String := "MouldDesk$Dryer"
def TX1 : u_T := fun k => match k with
  | 0 => ("MouldDesk$Dryer", "row", "[LMouldDesk$Lot;", true)
  | _ => ("MouldDesk$Dryer", "count", "I", false)
def tyX1 : Nat → FieldType := fun k => match k with
  | 0 => .array (.object "MouldDesk$Lot")
  | _ => .int
abbrev wsX10 : List Cond := u_ws RX1 TX1 2
theorem nmX1 : ∀ a, a < 2 → ∀ b, b < 2 → a ≠ b → (TX1 a).2.1 ≠ (TX1 b).2.1 := by decide +kernel
theorem tyX1_ok : ∀ k, k < 2 → parseFieldDescriptor (TX1 k).2.2.1 = some (tyX1 k) := by decide +kernel
abbrev cX1_init : ByteArray := prog_3_method_1_code
def yX1_init : MethodName := ⟨RX1, "<init>", "()V"⟩
abbrev cX1_isFull : ByteArray := prog_3_method_2_code
def yX1_isFull : MethodName := ⟨RX1, "isFull", "()Z"⟩
abbrev cX1_find : ByteArray := prog_3_method_3_code
def yX1_find : MethodName := ⟨RX1, "find", "(I)LMouldDesk$Lot;"⟩
abbrev cX1_put : ByteArray := prog_3_method_4_code
def yX1_put : MethodName := ⟨RX1, "put", "(LMouldDesk$Lot;)V"⟩
abbrev cX1_takeOut : ByteArray := prog_3_method_5_code
def yX1_takeOut : MethodName := ⟨RX1, "takeOut", "(I)V"⟩
abbrev cX1_dryGrams : ByteArray := prog_3_method_6_code
def yX1_dryGrams : MethodName := ⟨RX1, "dryGrams", "(LMouldDesk$Resin;)I"⟩
abbrev cX1_draw : ByteArray := prog_3_method_7_code
def yX1_draw : MethodName := ⟨RX1, "draw", "(LMouldDesk$Resin;I)V"⟩
abbrev cX1_dryOneHour : ByteArray := prog_3_method_8_code
def yX1_dryOneHour : MethodName := ⟨RX1, "dryOneHour", "()V"⟩
def RX2 : String := "MouldDesk$Lot"
def TX2 : u_T := fun k => match k with
  | 0 => ("MouldDesk$Lot", "resin", "LMouldDesk$Resin;", true)
  | 1 => ("MouldDesk$Lot", "grams", "I", false)
  | _ => ("MouldDesk$Lot", "hoursDried", "I", false)
def tyX2 : Nat → FieldType := fun k => match k with
  | 0 => .object "MouldDesk$Resin"
  | 1 => .int
  | _ => .int
abbrev wsX20 : List Cond := u_ws RX2 TX2 3
theorem nmX2 : ∀ a, a < 3 → ∀ b, b < 3 → a ≠ b → (TX2 a).2.1 ≠ (TX2 b).2.1 := by decide +kernel
theorem tyX2_ok : ∀ k, k < 3 → parseFieldDescriptor (TX2 k).2.2.1 = some (tyX2 k) := by decide +kernel
abbrev cX2_init : ByteArray := prog_4_method_1_code
def yX2_init : MethodName := ⟨RX2, "<init>", "(LMouldDesk$Resin;I)V"⟩
abbrev cX2_hoursLeft : ByteArray := prog_4_method_2_code
def yX2_hoursLeft : MethodName := ⟨RX2, "hoursLeft", "()I"⟩
abbrev cX2_isDryOf : ByteArray := prog_4_method_3_code
def yX2_isDryOf : MethodName := ⟨RX2, "isDryOf", "(LMouldDesk$Resin;)Z"⟩
def RX3 : String := "MouldDesk$Machine"
def TX3 : u_T := fun k => match k with
  | 0 => ("MouldDesk$Machine", "force", "I", true)
  | 1 => ("MouldDesk$Machine", "mould", "LMouldDesk$Mould;", false)
  | _ => ("MouldDesk$Machine", "work", "LMouldDesk$Order;", false)
def tyX3 : Nat → FieldType := fun k => match k with
  | 0 => .int
  | 1 => .object "MouldDesk$Mould"
  | _ => .object "MouldDesk$Order"
abbrev wsX30 : List Cond := u_ws RX3 TX3 3
theorem nmX3 : ∀ a, a < 3 → ∀ b, b < 3 → a ≠ b → (TX3 a).2.1 ≠ (TX3 b).2.1 := by decide +kernel
theorem tyX3_ok : ∀ k, k < 3 → parseFieldDescriptor (TX3 k).2.2.1 = some (tyX3 k) := by decide +kernel
abbrev cX3_init : ByteArray := prog_5_method_1_code
def yX3_init : MethodName := ⟨RX3, "<init>", "(I)V"⟩
def RX4 : String := "MouldDesk$Mould"
def TX4 : u_T := fun k => match k with
  | 0 => ("MouldDesk$Mould", "number", "I", true)
  | 1 => ("MouldDesk$Mould", "cavities", "[LMouldDesk$Cavity;", true)
  | 2 => ("MouldDesk$Mould", "part", "I", true)
  | 3 => ("MouldDesk$Mould", "sprue", "I", true)
  | 4 => ("MouldDesk$Mould", "force", "I", true)
  | 5 => ("MouldDesk$Mould", "cycle", "I", true)
  | _ => ("MouldDesk$Mould", "mounted", "Z", false)
def tyX4 : Nat → FieldType := fun k => match k with
  | 0 => .int
  | 1 => .array (.object "MouldDesk$Cavity")
  | 2 => .int
  | 3 => .int
  | 4 => .int
  | 5 => .int
  | _ => .boolean
abbrev wsX40 : List Cond := u_ws RX4 TX4 7
theorem nmX4 : ∀ a, a < 7 → ∀ b, b < 7 → a ≠ b → (TX4 a).2.1 ≠ (TX4 b).2.1 := by decide +kernel
theorem tyX4_ok : ∀ k, k < 7 → parseFieldDescriptor (TX4 k).2.2.1 = some (tyX4 k) := by decide +kernel
abbrev cX4_init : ByteArray := prog_6_method_1_code
def yX4_init : MethodName := ⟨RX4, "<init>", "(IIIIII)V"⟩
abbrev cX4_openCavities : ByteArray := prog_6_method_2_code
def yX4_openCavities : MethodName := ⟨RX4, "openCavities", "()I"⟩
abbrev cX4_makeParts : ByteArray := prog_6_method_3_code
def yX4_makeParts : MethodName := ⟨RX4, "makeParts", "()V"⟩
abbrev cX4_shotsOfHour : ByteArray := prog_6_method_4_code
def yX4_shotsOfHour : MethodName := ⟨RX4, "shotsOfHour", "()I"⟩
def RX5 : String := "MouldDesk$Order"
def TX5 : u_T := fun k => match k with
  | 0 => ("MouldDesk$Order", "mould", "LMouldDesk$Mould;", true)
  | 1 => ("MouldDesk$Order", "resin", "LMouldDesk$Resin;", true)
  | 2 => ("MouldDesk$Order", "share", "I", true)
  | 3 => ("MouldDesk$Order", "regrindOfShots", "[I", true)
  | 4 => ("MouldDesk$Order", "lacking", "I", false)
  | 5 => ("MouldDesk$Order", "shotCount", "I", false)
  | 6 => ("MouldDesk$Order", "regrindKept", "J", false)
  | _ => ("MouldDesk$Order", "topShare", "I", false)
def tyX5 : Nat → FieldType := fun k => match k with
  | 0 => .object "MouldDesk$Mould"
  | 1 => .object "MouldDesk$Resin"
  | 2 => .int
  | 3 => .array .int
  | 4 => .int
  | 5 => .int
  | 6 => .long
  | _ => .int
abbrev wsX50 : List Cond := u_ws RX5 TX5 8
theorem nmX5 : ∀ a, a < 8 → ∀ b, b < 8 → a ≠ b → (TX5 a).2.1 ≠ (TX5 b).2.1 := by decide +kernel
theorem tyX5_ok : ∀ k, k < 8 → parseFieldDescriptor (TX5 k).2.2.1 = some (tyX5 k) := by decide +kernel
abbrev cX5_init : ByteArray := prog_7_method_1_code
def yX5_init : MethodName := ⟨RX5, "<init>", "(LMouldDesk$Mould;LMouldDesk$Resin;II)V"⟩
abbrev cX5_isOpen : ByteArray := prog_7_method_2_code
def yX5_isOpen : MethodName := ⟨RX5, "isOpen", "()Z"⟩
abbrev cX5_keepShot : ByteArray := prog_7_method_3_code
def yX5_keepShot : MethodName := ⟨RX5, "keepShot", "(III)V"⟩
abbrev cX5_regrindAdded : ByteArray := prog_7_method_4_code
def yX5_regrindAdded : MethodName := ⟨RX5, "regrindAdded", "()J"⟩
def RX6 : String := "MouldDesk$Resin"
def TX6 : u_T := fun k => match k with
  | 0 => ("MouldDesk$Resin", "hoursOfDrying", "I", true)
  | _ => ("MouldDesk$Resin", "regrindGrams", "I", false)
def tyX6 : Nat → FieldType := fun k => match k with
  | 0 => .int
  | _ => .int
abbrev wsX60 : List Cond := u_ws RX6 TX6 2
theorem nmX6 : ∀ a, a < 2 → ∀ b, b < 2 → a ≠ b → (TX6 a).2.1 ≠ (TX6 b).2.1 := by decide +kernel
theorem tyX6_ok : ∀ k, k < 2 → parseFieldDescriptor (TX6 k).2.2.1 = some (tyX6 k) := by decide +kernel
abbrev cX6_init : ByteArray := prog_8_method_1_code
def yX6_init : MethodName := ⟨RX6, "<init>", "(I)V"⟩
def RX7 : String := "MouldDesk"
def TX7 : u_T := fun k => match k with
  | 0 => ("MouldDesk", "resins", "[LMouldDesk$Resin;", true)
  | 1 => ("MouldDesk", "resinCount", "I", false)
  | 2 => ("MouldDesk", "moulds", "[LMouldDesk$Mould;", true)
  | 3 => ("MouldDesk", "mouldCount", "I", false)
  | 4 => ("MouldDesk", "machines", "[LMouldDesk$Machine;", true)
  | 5 => ("MouldDesk", "machineCount", "I", false)
  | 6 => ("MouldDesk", "orders", "[LMouldDesk$Order;", true)
  | 7 => ("MouldDesk", "orderCount", "I", false)
  | 8 => ("MouldDesk", "dryer", "LMouldDesk$Dryer;", true)
  | 9 => ("MouldDesk", "hoursPassed", "I", false)
  | 10 => ("MouldDesk", "allShots", "I", false)
  | 11 => ("MouldDesk", "allParts", "I", false)
  | 12 => ("MouldDesk", "allGrams", "J", false)
  | _ => ("MouldDesk", "allRegrind", "J", false)
def tyX7 : Nat → FieldType := fun k => match k with
  | 0 => .array (.object "MouldDesk$Resin")
  | 1 => .int
  | 2 => .array (.object "MouldDesk$Mould")
  | 3 => .int
  | 4 => .array (.object "MouldDesk$Machine")
  | 5 => .int
  | 6 => .array (.object "MouldDesk$Order")
  | 7 => .int
  | 8 => .object "MouldDesk$Dryer"
  | 9 => .int
  | 10 => .int
  | 11 => .int
  | 12 => .long
  | _ => .long
abbrev wsX70 : List Cond := u_ws RX7 TX7 14
theorem nmX7 : ∀ a, a < 14 → ∀ b, b < 14 → a ≠ b → (TX7 a).2.1 ≠ (TX7 b).2.1 := by decide +kernel
theorem tyX7_ok : ∀ k, k < 14 → parseFieldDescriptor (TX7 k).2.2.1 = some (tyX7 k) := by decide +kernel
abbrev cX7_init : ByteArray := prog_1_method_1_code
def yX7_init : MethodName := ⟨RX7, "<init>", "()V"⟩
abbrev cX7_addResin : ByteArray := prog_1_method_2_code
def yX7_addResin : MethodName := ⟨RX7, "addResin", "(I)I"⟩
abbrev cX7_fill : ByteArray := prog_1_method_3_code
def yX7_fill : MethodName := ⟨RX7, "fill", "(II)I"⟩
abbrev cX7_empty : ByteArray := prog_1_method_4_code
def yX7_empty : MethodName := ⟨RX7, "empty", "(I)I"⟩
abbrev cX7_lots : ByteArray := prog_1_method_5_code
def yX7_lots : MethodName := ⟨RX7, "lots", "()I"⟩
abbrev cX7_hoursToDry : ByteArray := prog_1_method_6_code
def yX7_hoursToDry : MethodName := ⟨RX7, "hoursToDry", "(I)I"⟩
abbrev cX7_dry : ByteArray := prog_1_method_7_code
def yX7_dry : MethodName := ⟨RX7, "dry", "(I)I"⟩
abbrev cX7_regrind : ByteArray := prog_1_method_8_code
def yX7_regrind : MethodName := ⟨RX7, "regrind", "(I)I"⟩
abbrev cX7_addMould : ByteArray := prog_1_method_9_code
def yX7_addMould : MethodName := ⟨RX7, "addMould", "(IIIII)I"⟩
abbrev cX7_setLife : ByteArray := prog_1_method_10_code
def yX7_setLife : MethodName := ⟨RX7, "setLife", "(III)I"⟩
abbrev cX7_block : ByteArray := prog_1_method_11_code
def yX7_block : MethodName := ⟨RX7, "block", "(II)I"⟩
abbrev cX7_repair : ByteArray := prog_1_method_12_code
def yX7_repair : MethodName := ⟨RX7, "repair", "(II)I"⟩
abbrev cX7_nextOpen : ByteArray := prog_1_method_13_code
def yX7_nextOpen : MethodName := ⟨RX7, "nextOpen", "(II)I"⟩
abbrev cX7_addMachine : ByteArray := prog_1_method_14_code
def yX7_addMachine : MethodName := ⟨RX7, "addMachine", "(I)I"⟩
abbrev cX7_mount : ByteArray := prog_1_method_15_code
def yX7_mount : MethodName := ⟨RX7, "mount", "(II)I"⟩
abbrev cX7_run : ByteArray := prog_1_method_16_code
def yX7_run : MethodName := ⟨RX7, "run", "(II)I"⟩
abbrev cX7_order : ByteArray := prog_1_method_17_code
def yX7_order : MethodName := ⟨RX7, "order", "(IIII)I"⟩
abbrev cX7_lacks : ByteArray := prog_1_method_18_code
def yX7_lacks : MethodName := ⟨RX7, "lacks", "(I)I"⟩
abbrev cX7_hoursNeeded : ByteArray := prog_1_method_19_code
def yX7_hoursNeeded : MethodName := ⟨RX7, "hoursNeeded", "(I)I"⟩
abbrev cX7_shots : ByteArray := prog_1_method_20_code
def yX7_shots : MethodName := ⟨RX7, "shots", "(I)I"⟩
abbrev cX7_regrindIn : ByteArray := prog_1_method_21_code
def yX7_regrindIn : MethodName := ⟨RX7, "regrindIn", "(I)J"⟩
abbrev cX7_regrindByShots : ByteArray := prog_1_method_22_code
def yX7_regrindByShots : MethodName := ⟨RX7, "regrindByShots", "(I)J"⟩
abbrev cX7_greatestShare : ByteArray := prog_1_method_23_code
def yX7_greatestShare : MethodName := ⟨RX7, "greatestShare", "(I)I"⟩
abbrev cX7_pass : ByteArray := prog_1_method_24_code
def yX7_pass : MethodName := ⟨RX7, "pass", "(I)I"⟩
abbrev cX7_hours : ByteArray := prog_1_method_25_code
def yX7_hours : MethodName := ⟨RX7, "hours", "()I"⟩
abbrev cX7_regrindShare : ByteArray := prog_1_method_26_code
def yX7_regrindShare : MethodName := ⟨RX7, "regrindShare", "()F"⟩
abbrev cX7_meanParts : ByteArray := prog_1_method_27_code
def yX7_meanParts : MethodName := ⟨RX7, "meanParts", "()D"⟩
abbrev cX7_requireRange : ByteArray := prog_1_method_28_code
def yX7_requireRange : MethodName := ⟨RX7, "requireRange", "(III)V"⟩
abbrev cX7_resinOf : ByteArray := prog_1_method_29_code
def yX7_resinOf : MethodName := ⟨RX7, "resinOf", "(I)LMouldDesk$Resin;"⟩
abbrev cX7_lotOf : ByteArray := prog_1_method_30_code
def yX7_lotOf : MethodName := ⟨RX7, "lotOf", "(I)LMouldDesk$Lot;"⟩
abbrev cX7_mouldOf : ByteArray := prog_1_method_31_code
def yX7_mouldOf : MethodName := ⟨RX7, "mouldOf", "(I)LMouldDesk$Mould;"⟩
abbrev cX7_cavityOf : ByteArray := prog_1_method_32_code
def yX7_cavityOf : MethodName := ⟨RX7, "cavityOf", "(LMouldDesk$Mould;I)LMouldDesk$Cavity;"⟩
abbrev cX7_machineOf : ByteArray := prog_1_method_33_code
def yX7_machineOf : MethodName := ⟨RX7, "machineOf", "(I)LMouldDesk$Machine;"⟩
abbrev cX7_orderOf : ByteArray := prog_1_method_34_code
def yX7_orderOf : MethodName := ⟨RX7, "orderOf", "(I)LMouldDesk$Order;"⟩
abbrev cX7_dividedUp : ByteArray := prog_1_method_35_code
def yX7_dividedUp : MethodName := ⟨RX7, "dividedUp", "(II)I"⟩
abbrev cX7_passOneHour : ByteArray := prog_1_method_36_code
def yX7_passOneHour : MethodName := ⟨RX7, "passOneHour", "()I"⟩
abbrev cX7_workOneHour : ByteArray := prog_1_method_37_code
def yX7_workOneHour : MethodName := ⟨RX7, "workOneHour", "(LMouldDesk$Machine;)I"⟩
abbrev cX7_makeShot : ByteArray := prog_1_method_38_code
def yX7_makeShot : MethodName := ⟨RX7, "makeShot", "(LMouldDesk$Order;)Z"⟩
def RX8 : String := "MouldDeskModel"
def TX8 : u_T := fun k => match k with
  | 0 => ("MouldDeskModel", "dryings", "[I", true)
  | 1 => ("MouldDeskModel", "regrinds", "[I", true)
  | 2 => ("MouldDeskModel", "resins", "I", false)
  | 3 => ("MouldDeskModel", "lotResins", "[I", true)
  | 4 => ("MouldDeskModel", "lotGrams", "[I", true)
  | 5 => ("MouldDeskModel", "lotHours", "[I", true)
  | 6 => ("MouldDeskModel", "lots", "I", false)
  | 7 => ("MouldDeskModel", "cavities", "[I", true)
  | 8 => ("MouldDeskModel", "partGrams", "[I", true)
  | 9 => ("MouldDeskModel", "sprues", "[I", true)
  | 10 => ("MouldDeskModel", "forces", "[I", true)
  | 11 => ("MouldDeskModel", "cycles", "[I", true)
  | 12 => ("MouldDeskModel", "isBlocked", "[[Z", true)
  | 13 => ("MouldDeskModel", "lives", "[[I", true)
  | 14 => ("MouldDeskModel", "made", "[[I", true)
  | 15 => ("MouldDeskModel", "moulds", "I", false)
  | 16 => ("MouldDeskModel", "machineForces", "[I", true)
  | 17 => ("MouldDeskModel", "mounted", "[I", true)
  | 18 => ("MouldDeskModel", "running", "[I", true)
  | 19 => ("MouldDeskModel", "machines", "I", false)
  | 20 => ("MouldDeskModel", "orderMoulds", "[I", true)
  | 21 => ("MouldDeskModel", "orderResins", "[I", true)
  | 22 => ("MouldDeskModel", "lacking", "[I", true)
  | 23 => ("MouldDeskModel", "shares", "[I", true)
  | 24 => ("MouldDeskModel", "shots", "[I", true)
  | 25 => ("MouldDeskModel", "regrindIn", "[J", true)
  | 26 => ("MouldDeskModel", "greatest", "[I", true)
  | 27 => ("MouldDeskModel", "orders", "I", false)
  | 28 => ("MouldDeskModel", "hours", "I", false)
  | 29 => ("MouldDeskModel", "allShots", "I", false)
  | 30 => ("MouldDeskModel", "allParts", "I", false)
  | 31 => ("MouldDeskModel", "allGrams", "J", false)
  | 32 => ("MouldDeskModel", "allRegrind", "J", false)
  | _ => ("MouldDeskModel", "thrown", "I", false)
def tyX8 : Nat → FieldType := fun k => match k with
  | 0 => .array .int
  | 1 => .array .int
  | 2 => .int
  | 3 => .array .int
  | 4 => .array .int
  | 5 => .array .int
  | 6 => .int
  | 7 => .array .int
  | 8 => .array .int
  | 9 => .array .int
  | 10 => .array .int
  | 11 => .array .int
  | 12 => .array (.array .boolean)
  | 13 => .array (.array .int)
  | 14 => .array (.array .int)
  | 15 => .int
  | 16 => .array .int
  | 17 => .array .int
  | 18 => .array .int
  | 19 => .int
  | 20 => .array .int
  | 21 => .array .int
  | 22 => .array .int
  | 23 => .array .int
  | 24 => .array .int
  | 25 => .array .long
  | 26 => .array .int
  | 27 => .int
  | 28 => .int
  | 29 => .int
  | 30 => .int
  | 31 => .long
  | 32 => .long
  | _ => .int
abbrev wsX80 : List Cond := u_ws RX8 TX8 34
theorem nmX8 : ∀ a, a < 34 → ∀ b, b < 34 → a ≠ b → (TX8 a).2.1 ≠ (TX8 b).2.1 := by decide +kernel
theorem tyX8_ok : ∀ k, k < 34 → parseFieldDescriptor (TX8 k).2.2.1 = some (tyX8 k) := by decide +kernel
abbrev cX8_init : ByteArray := prog_10_method_1_code
def yX8_init : MethodName := ⟨RX8, "<init>", "()V"⟩
abbrev cX8_thrown : ByteArray := prog_10_method_2_code
def yX8_thrown : MethodName := ⟨RX8, "thrown", "()I"⟩
abbrev cX8_raises : ByteArray := prog_10_method_3_code
def yX8_raises : MethodName := ⟨RX8, "raises", "(I)I"⟩
abbrev cX8_in : ByteArray := prog_10_method_4_code
def yX8_in : MethodName := ⟨RX8, "in", "(III)Z"⟩
abbrev cX8_isResin : ByteArray := prog_10_method_5_code
def yX8_isResin : MethodName := ⟨RX8, "isResin", "(I)Z"⟩
abbrev cX8_isLot : ByteArray := prog_10_method_6_code
def yX8_isLot : MethodName := ⟨RX8, "isLot", "(I)Z"⟩
abbrev cX8_isMould : ByteArray := prog_10_method_7_code
def yX8_isMould : MethodName := ⟨RX8, "isMould", "(I)Z"⟩
abbrev cX8_isCavity : ByteArray := prog_10_method_8_code
def yX8_isCavity : MethodName := ⟨RX8, "isCavity", "(II)Z"⟩
abbrev cX8_isMachine : ByteArray := prog_10_method_9_code
def yX8_isMachine : MethodName := ⟨RX8, "isMachine", "(I)Z"⟩
abbrev cX8_isOrder : ByteArray := prog_10_method_10_code
def yX8_isOrder : MethodName := ⟨RX8, "isOrder", "(I)Z"⟩
abbrev cX8_addResin : ByteArray := prog_10_method_11_code
def yX8_addResin : MethodName := ⟨RX8, "addResin", "(I)I"⟩
abbrev cX8_fill : ByteArray := prog_10_method_12_code
def yX8_fill : MethodName := ⟨RX8, "fill", "(II)I"⟩
abbrev cX8_leaves : ByteArray := prog_10_method_13_code
def yX8_leaves : MethodName := ⟨RX8, "leaves", "(I)V"⟩
abbrev cX8_empty : ByteArray := prog_10_method_14_code
def yX8_empty : MethodName := ⟨RX8, "empty", "(I)I"⟩
abbrev cX8_lots : ByteArray := prog_10_method_15_code
def yX8_lots : MethodName := ⟨RX8, "lots", "()I"⟩
abbrev cX8_toDry : ByteArray := prog_10_method_16_code
def yX8_toDry : MethodName := ⟨RX8, "toDry", "(I)I"⟩
abbrev cX8_hoursToDry : ByteArray := prog_10_method_17_code
def yX8_hoursToDry : MethodName := ⟨RX8, "hoursToDry", "(I)I"⟩
abbrev cX8_dryOf : ByteArray := prog_10_method_18_code
def yX8_dryOf : MethodName := ⟨RX8, "dryOf", "(I)I"⟩
abbrev cX8_dry : ByteArray := prog_10_method_19_code
def yX8_dry : MethodName := ⟨RX8, "dry", "(I)I"⟩
abbrev cX8_regrind : ByteArray := prog_10_method_20_code
def yX8_regrind : MethodName := ⟨RX8, "regrind", "(I)I"⟩
abbrev cX8_addMould : ByteArray := prog_10_method_21_code
def yX8_addMould : MethodName := ⟨RX8, "addMould", "(IIIII)I"⟩
abbrev cX8_fails : ByteArray := prog_10_method_22_code
def yX8_fails : MethodName := ⟨RX8, "fails", "(II)V"⟩
abbrev cX8_setLife : ByteArray := prog_10_method_23_code
def yX8_setLife : MethodName := ⟨RX8, "setLife", "(III)I"⟩
abbrev cX8_open : ByteArray := prog_10_method_24_code
def yX8_open : MethodName := ⟨RX8, "open", "(I)I"⟩
abbrev cX8_block : ByteArray := prog_10_method_25_code
def yX8_block : MethodName := ⟨RX8, "block", "(II)I"⟩
abbrev cX8_isMounted : ByteArray := prog_10_method_26_code
def yX8_isMounted : MethodName := ⟨RX8, "isMounted", "(I)Z"⟩
abbrev cX8_repair : ByteArray := prog_10_method_27_code
def yX8_repair : MethodName := ⟨RX8, "repair", "(II)I"⟩
abbrev cX8_nextOpen : ByteArray := prog_10_method_28_code
def yX8_nextOpen : MethodName := ⟨RX8, "nextOpen", "(II)I"⟩
abbrev cX8_addMachine : ByteArray := prog_10_method_29_code
def yX8_addMachine : MethodName := ⟨RX8, "addMachine", "(I)I"⟩
abbrev cX8_mount : ByteArray := prog_10_method_30_code
def yX8_mount : MethodName := ⟨RX8, "mount", "(II)I"⟩
abbrev cX8_run : ByteArray := prog_10_method_31_code
def yX8_run : MethodName := ⟨RX8, "run", "(II)I"⟩
abbrev cX8_order : ByteArray := prog_10_method_32_code
def yX8_order : MethodName := ⟨RX8, "order", "(IIII)I"⟩
abbrev cX8_lacks : ByteArray := prog_10_method_33_code
def yX8_lacks : MethodName := ⟨RX8, "lacks", "(I)I"⟩
abbrev cX8_hoursNeeded : ByteArray := prog_10_method_34_code
def yX8_hoursNeeded : MethodName := ⟨RX8, "hoursNeeded", "(I)I"⟩
abbrev cX8_shots : ByteArray := prog_10_method_35_code
def yX8_shots : MethodName := ⟨RX8, "shots", "(I)I"⟩
abbrev cX8_regrindIn : ByteArray := prog_10_method_36_code
def yX8_regrindIn : MethodName := ⟨RX8, "regrindIn", "(I)J"⟩
abbrev cX8_regrindByShots : ByteArray := prog_10_method_37_code
def yX8_regrindByShots : MethodName := ⟨RX8, "regrindByShots", "(I)J"⟩
abbrev cX8_greatestShare : ByteArray := prog_10_method_38_code
def yX8_greatestShare : MethodName := ⟨RX8, "greatestShare", "(I)I"⟩
abbrev cX8_takes : ByteArray := prog_10_method_39_code
def yX8_takes : MethodName := ⟨RX8, "takes", "(II)V"⟩
abbrev cX8_shoots : ByteArray := prog_10_method_40_code
def yX8_shoots : MethodName := ⟨RX8, "shoots", "(I)I"⟩
abbrev cX8_hour : ByteArray := prog_10_method_41_code
def yX8_hour : MethodName := ⟨RX8, "hour", "()I"⟩
abbrev cX8_pass : ByteArray := prog_10_method_42_code
def yX8_pass : MethodName := ⟨RX8, "pass", "(I)I"⟩
abbrev cX8_hours : ByteArray := prog_10_method_43_code
def yX8_hours : MethodName := ⟨RX8, "hours", "()I"⟩
abbrev cX8_regrindShare : ByteArray := prog_10_method_44_code
def yX8_regrindShare : MethodName := ⟨RX8, "regrindShare", "()F"⟩
abbrev cX8_meanParts : ByteArray := prog_10_method_45_code
def yX8_meanParts : MethodName := ⟨RX8, "meanParts", "()D"⟩
def RL : String := "MouldDeskLaw"
abbrev cL_addResin : ByteArray := method_3_code
def yL_addResin : MethodName := ⟨RL, "addResin", "(LMouldDesk;I[J)I"⟩
abbrev cL_fill : ByteArray := method_4_code
def yL_fill : MethodName := ⟨RL, "fill", "(LMouldDesk;II[J)I"⟩
abbrev cL_empty : ByteArray := method_5_code
def yL_empty : MethodName := ⟨RL, "empty", "(LMouldDesk;I[J)I"⟩
abbrev cL_hoursToDry : ByteArray := method_6_code
def yL_hoursToDry : MethodName := ⟨RL, "hoursToDry", "(LMouldDesk;I[J)I"⟩
abbrev cL_dry : ByteArray := method_7_code
def yL_dry : MethodName := ⟨RL, "dry", "(LMouldDesk;I[J)I"⟩
abbrev cL_regrind : ByteArray := method_8_code
def yL_regrind : MethodName := ⟨RL, "regrind", "(LMouldDesk;I[J)I"⟩
abbrev cL_addMould : ByteArray := method_9_code
def yL_addMould : MethodName := ⟨RL, "addMould", "(LMouldDesk;IIIII[J)I"⟩
abbrev cL_setLife : ByteArray := method_10_code
def yL_setLife : MethodName := ⟨RL, "setLife", "(LMouldDesk;III[J)I"⟩
abbrev cL_block : ByteArray := method_11_code
def yL_block : MethodName := ⟨RL, "block", "(LMouldDesk;II[J)I"⟩
abbrev cL_repair : ByteArray := method_12_code
def yL_repair : MethodName := ⟨RL, "repair", "(LMouldDesk;II[J)I"⟩
abbrev cL_nextOpen : ByteArray := method_13_code
def yL_nextOpen : MethodName := ⟨RL, "nextOpen", "(LMouldDesk;II[J)I"⟩
abbrev cL_addMachine : ByteArray := method_14_code
def yL_addMachine : MethodName := ⟨RL, "addMachine", "(LMouldDesk;I[J)I"⟩
abbrev cL_mount : ByteArray := method_15_code
def yL_mount : MethodName := ⟨RL, "mount", "(LMouldDesk;II[J)I"⟩
abbrev cL_run : ByteArray := method_16_code
def yL_run : MethodName := ⟨RL, "run", "(LMouldDesk;II[J)I"⟩
abbrev cL_order : ByteArray := method_17_code
def yL_order : MethodName := ⟨RL, "order", "(LMouldDesk;IIII[J)I"⟩
abbrev cL_lacks : ByteArray := method_18_code
def yL_lacks : MethodName := ⟨RL, "lacks", "(LMouldDesk;I[J)I"⟩
abbrev cL_hoursNeeded : ByteArray := method_19_code
def yL_hoursNeeded : MethodName := ⟨RL, "hoursNeeded", "(LMouldDesk;I[J)I"⟩
abbrev cL_shots : ByteArray := method_20_code
def yL_shots : MethodName := ⟨RL, "shots", "(LMouldDesk;I[J)I"⟩
abbrev cL_regrindIn : ByteArray := method_21_code
def yL_regrindIn : MethodName := ⟨RL, "regrindIn", "(LMouldDesk;I[J)I"⟩
abbrev cL_regrindByShots : ByteArray := method_22_code
def yL_regrindByShots : MethodName := ⟨RL, "regrindByShots", "(LMouldDesk;I[J)I"⟩
abbrev cL_greatestShare : ByteArray := method_23_code
def yL_greatestShare : MethodName := ⟨RL, "greatestShare", "(LMouldDesk;I[J)I"⟩
abbrev cL_pass : ByteArray := method_24_code
def yL_pass : MethodName := ⟨RL, "pass", "(LMouldDesk;I[J)I"⟩
abbrev cL_regrindShare : ByteArray := method_25_code
def yL_regrindShare : MethodName := ⟨RL, "regrindShare", "(LMouldDesk;[D)I"⟩
abbrev cL_meanParts : ByteArray := method_26_code
def yL_meanParts : MethodName := ⟨RL, "meanParts", "(LMouldDesk;[D)I"⟩
abbrev cL_law : ByteArray := code
def yL_law : MethodName := ⟨RL, "law", "([I)Z"⟩
end
section
theorem dX0_init_0 : decode cX0_init 0 = .ok (.aload_n 0, 1) := by decide +kernel
theorem dX0_init_1 : decode cX0_init 1 = .ok (.invokespecial 3, 3) := by decide +kernel
theorem dX0_init_4 : decode cX0_init 4 = .ok (.aload_n 0, 1) := by decide +kernel
theorem dX0_init_5 : decode cX0_init 5 = .ok (.sipush 9999, 3) := by decide +kernel
theorem dX0_init_8 : decode cX0_init 8 = .ok (.putfield 9, 3) := by decide +kernel
theorem dX0_init_11 : decode cX0_init 11 = .ok (.return_, 1) := by decide +kernel
theorem dX0_failIfWorn_0 : decode cX0_failIfWorn 0 = .ok (.aload_n 0, 1) := by decide +kernel
theorem dX0_failIfWorn_1 : decode cX0_failIfWorn 1 = .ok (.getfield 15, 3) := by decide +kernel
theorem dX0_failIfWorn_4 : decode cX0_failIfWorn 4 = .ok (.aload_n 0, 1) := by decide +kernel
theorem dX0_failIfWorn_5 : decode cX0_failIfWorn 5 = .ok (.getfield 9, 3) := by decide +kernel
theorem dX0_failIfWorn_8 : decode cX0_failIfWorn 8 = .ok (.if_icmp .lt 8, 3) := by decide +kernel
theorem dX0_failIfWorn_11 : decode cX0_failIfWorn 11 = .ok (.aload_n 0, 1) := by decide +kernel
theorem dX0_failIfWorn_12 : decode cX0_failIfWorn 12 = .ok (.iconst 1, 1) := by decide +kernel
theorem dX0_failIfWorn_13 : decode cX0_failIfWorn 13 = .ok (.putfield 18, 3) := by decide +kernel
theorem dX0_failIfWorn_16 : decode cX0_failIfWorn 16 = .ok (.return_, 1) := by decide +kernel
theorem dX1_init_0 : decode cX1_init 0 = .ok (.aload_n 0, 1) := by decide +kernel
theorem dX1_init_1 : decode cX1_init 1 = .ok (.invokespecial 3, 3) := by decide +kernel
theorem dX1_init_4 : decode cX1_init 4 = .ok (.aload_n 0, 1) := by decide +kernel
theorem dX1_init_5 : decode cX1_init 5 = .ok (.iconst 3, 1) := by decide +kernel
theorem dX1_init_6 : decode cX1_init 6 = .ok (.anewarray 9, 3) := by decide +kernel
theorem dX1_init_9 : decode cX1_init 9 = .ok (.putfield 11, 3) := by decide +kernel
theorem dX1_init_12 : decode cX1_init 12 = .ok (.return_, 1) := by decide +kernel
theorem dX1_isFull_0 : decode cX1_isFull 0 = .ok (.aload_n 0, 1) := by decide +kernel
theorem dX1_isFull_1 : decode cX1_isFull 1 = .ok (.getfield 17, 3) := by decide +kernel
theorem dX1_isFull_4 : decode cX1_isFull 4 = .ok (.aload_n 0, 1) := by decide +kernel
theorem dX1_isFull_5 : decode cX1_isFull 5 = .ok (.getfield 11, 3) := by decide +kernel
theorem dX1_isFull_8 : decode cX1_isFull 8 = .ok (.arraylength, 1) := by decide +kernel
theorem dX1_isFull_9 : decode cX1_isFull 9 = .ok (.if_icmp .lt 7, 3) := by decide +kernel
theorem dX1_isFull_12 : decode cX1_isFull 12 = .ok (.iconst 1, 1) := by decide +kernel
theorem dX1_isFull_13 : decode cX1_isFull 13 = .ok (.goto 4, 3) := by decide +kernel
theorem dX1_isFull_16 : decode cX1_isFull 16 = .ok (.iconst 0, 1) := by decide +kernel
theorem dX1_isFull_17 : decode cX1_isFull 17 = .ok (.ireturn, 1) := by decide +kernel
theorem dX1_find_0 : decode cX1_find 0 = .ok (.iload_n 1, 1) := by decide +kernel
theorem dX1_find_1 : decode cX1_find 1 = .ok (.ifCond .lt 12, 3) := by decide +kernel
theorem dX1_find_4 : decode cX1_find 4 = .ok (.iload_n 1, 1) := by decide +kernel
theorem dX1_find_5 : decode cX1_find 5 = .ok (.aload_n 0, 1) := by decide +kernel
theorem dX1_find_6 : decode cX1_find 6 = .ok (.getfield 11, 3) := by decide +kernel
theorem dX1_find_9 : decode cX1_find 9 = .ok (.arraylength, 1) := by decide +kernel
theorem dX1_find_10 : decode cX1_find 10 = .ok (.if_icmp .lt 7, 3) := by decide +kernel
theorem dX1_find_13 : decode cX1_find 13 = .ok (.aconst_null, 1) := by decide +kernel
theorem dX1_find_14 : decode cX1_find 14 = .ok (.goto 9, 3) := by decide +kernel
theorem dX1_find_17 : decode cX1_find 17 = .ok (.aload_n 0, 1) := by decide +kernel
theorem dX1_find_18 : decode cX1_find 18 = .ok (.getfield 11, 3) := by decide +kernel
theorem dX1_find_21 : decode cX1_find 21 = .ok (.iload_n 1, 1) := by decide +kernel
theorem dX1_find_22 : decode cX1_find 22 = .ok (.aaload, 1) := by decide +kernel
theorem dX1_find_23 : decode cX1_find 23 = .ok (.areturn, 1) := by decide +kernel
theorem dX1_put_0 : decode cX1_put 0 = .ok (.aload_n 0, 1) := by decide +kernel
theorem dX1_put_1 : decode cX1_put 1 = .ok (.getfield 17, 3) := by decide +kernel
theorem dX1_put_4 : decode cX1_put 4 = .ok (.ifCond .lt 35, 3) := by decide +kernel
theorem dX1_put_7 : decode cX1_put 7 = .ok (.aload_n 0, 1) := by decide +kernel
theorem dX1_put_8 : decode cX1_put 8 = .ok (.getfield 17, 3) := by decide +kernel
theorem dX1_put_11 : decode cX1_put 11 = .ok (.aload_n 0, 1) := by decide +kernel
theorem dX1_put_12 : decode cX1_put 12 = .ok (.getfield 11, 3) := by decide +kernel
theorem dX1_put_15 : decode cX1_put 15 = .ok (.arraylength, 1) := by decide +kernel
theorem dX1_put_16 : decode cX1_put 16 = .ok (.if_icmp .ge 23, 3) := by decide +kernel
theorem dX1_put_19 : decode cX1_put 19 = .ok (.aload_n 0, 1) := by decide +kernel
theorem dX1_put_20 : decode cX1_put 20 = .ok (.getfield 11, 3) := by decide +kernel
theorem dX1_put_23 : decode cX1_put 23 = .ok (.aload_n 0, 1) := by decide +kernel
theorem dX1_put_24 : decode cX1_put 24 = .ok (.getfield 17, 3) := by decide +kernel
theorem dX1_put_27 : decode cX1_put 27 = .ok (.aload_n 1, 1) := by decide +kernel
theorem dX1_put_28 : decode cX1_put 28 = .ok (.aastore, 1) := by decide +kernel
theorem dX1_put_29 : decode cX1_put 29 = .ok (.aload_n 0, 1) := by decide +kernel
theorem dX1_put_30 : decode cX1_put 30 = .ok (.dup, 1) := by decide +kernel
theorem dX1_put_31 : decode cX1_put 31 = .ok (.getfield 17, 3) := by decide +kernel
theorem dX1_put_34 : decode cX1_put 34 = .ok (.iconst 1, 1) := by decide +kernel
theorem dX1_put_35 : decode cX1_put 35 = .ok (.iadd, 1) := by decide +kernel
theorem dX1_put_36 : decode cX1_put 36 = .ok (.putfield 17, 3) := by decide +kernel
theorem dX1_put_39 : decode cX1_put 39 = .ok (.return_, 1) := by decide +kernel
theorem dX1_takeOut_0 : decode cX1_takeOut 0 = .ok (.aload_n 0, 1) := by decide +kernel
theorem dX1_takeOut_1 : decode cX1_takeOut 1 = .ok (.getfield 11, 3) := by decide +kernel
theorem dX1_takeOut_4 : decode cX1_takeOut 4 = .ok (.arraylength, 1) := by decide +kernel
theorem dX1_takeOut_5 : decode cX1_takeOut 5 = .ok (.iconst 1, 1) := by decide +kernel
theorem dX1_takeOut_6 : decode cX1_takeOut 6 = .ok (.isub, 1) := by decide +kernel
theorem dX1_takeOut_7 : decode cX1_takeOut 7 = .ok (.istore_n 2, 1) := by decide +kernel
theorem dX1_takeOut_8 : decode cX1_takeOut 8 = .ok (.iload_n 1, 1) := by decide +kernel
theorem dX1_takeOut_9 : decode cX1_takeOut 9 = .ok (.ifCond .lt 8, 3) := by decide +kernel
theorem dX1_takeOut_12 : decode cX1_takeOut 12 = .ok (.iload_n 1, 1) := by decide +kernel
theorem dX1_takeOut_13 : decode cX1_takeOut 13 = .ok (.iload_n 2, 1) := by decide +kernel
theorem dX1_takeOut_14 : decode cX1_takeOut 14 = .ok (.if_icmp .le 4, 3) := by decide +kernel
theorem dX1_takeOut_17 : decode cX1_takeOut 17 = .ok (.return_, 1) := by decide +kernel
theorem dX1_takeOut_18 : decode cX1_takeOut 18 = .ok (.iload_n 1, 1) := by decide +kernel
theorem dX1_takeOut_19 : decode cX1_takeOut 19 = .ok (.istore_n 3, 1) := by decide +kernel
theorem dX1_takeOut_20 : decode cX1_takeOut 20 = .ok (.iload_n 3, 1) := by decide +kernel
theorem dX1_takeOut_21 : decode cX1_takeOut 21 = .ok (.iload_n 2, 1) := by decide +kernel
theorem dX1_takeOut_22 : decode cX1_takeOut 22 = .ok (.if_icmp .ge 23, 3) := by decide +kernel
theorem dX1_takeOut_25 : decode cX1_takeOut 25 = .ok (.aload_n 0, 1) := by decide +kernel
theorem dX1_takeOut_26 : decode cX1_takeOut 26 = .ok (.getfield 11, 3) := by decide +kernel
theorem dX1_takeOut_29 : decode cX1_takeOut 29 = .ok (.iload_n 3, 1) := by decide +kernel
theorem dX1_takeOut_30 : decode cX1_takeOut 30 = .ok (.aload_n 0, 1) := by decide +kernel
theorem dX1_takeOut_31 : decode cX1_takeOut 31 = .ok (.getfield 11, 3) := by decide +kernel
theorem dX1_takeOut_34 : decode cX1_takeOut 34 = .ok (.iload_n 3, 1) := by decide +kernel
theorem dX1_takeOut_35 : decode cX1_takeOut 35 = .ok (.iconst 1, 1) := by decide +kernel
theorem dX1_takeOut_36 : decode cX1_takeOut 36 = .ok (.iadd, 1) := by decide +kernel
theorem dX1_takeOut_37 : decode cX1_takeOut 37 = .ok (.aaload, 1) := by decide +kernel
theorem dX1_takeOut_38 : decode cX1_takeOut 38 = .ok (.aastore, 1) := by decide +kernel
theorem dX1_takeOut_39 : decode cX1_takeOut 39 = .ok (.iinc 3 1, 3) := by decide +kernel
theorem dX1_takeOut_42 : decode cX1_takeOut 42 = .ok (.goto (-22), 3) := by decide +kernel
theorem dX1_takeOut_45 : decode cX1_takeOut 45 = .ok (.aload_n 0, 1) := by decide +kernel
theorem dX1_takeOut_46 : decode cX1_takeOut 46 = .ok (.getfield 11, 3) := by decide +kernel
theorem dX1_takeOut_49 : decode cX1_takeOut 49 = .ok (.iload_n 2, 1) := by decide +kernel
theorem dX1_takeOut_50 : decode cX1_takeOut 50 = .ok (.aconst_null, 1) := by decide +kernel
theorem dX1_takeOut_51 : decode cX1_takeOut 51 = .ok (.aastore, 1) := by decide +kernel
theorem dX1_takeOut_52 : decode cX1_takeOut 52 = .ok (.aload_n 0, 1) := by decide +kernel
theorem dX1_takeOut_53 : decode cX1_takeOut 53 = .ok (.dup, 1) := by decide +kernel
theorem dX1_takeOut_54 : decode cX1_takeOut 54 = .ok (.getfield 17, 3) := by decide +kernel
theorem dX1_takeOut_57 : decode cX1_takeOut 57 = .ok (.iconst 1, 1) := by decide +kernel
theorem dX1_takeOut_58 : decode cX1_takeOut 58 = .ok (.isub, 1) := by decide +kernel
theorem dX1_takeOut_59 : decode cX1_takeOut 59 = .ok (.putfield 17, 3) := by decide +kernel
theorem dX1_takeOut_62 : decode cX1_takeOut 62 = .ok (.return_, 1) := by decide +kernel
theorem dX1_dryGrams_0 : decode cX1_dryGrams 0 = .ok (.iconst 0, 1) := by decide +kernel
theorem dX1_dryGrams_1 : decode cX1_dryGrams 1 = .ok (.istore_n 2, 1) := by decide +kernel
theorem dX1_dryGrams_2 : decode cX1_dryGrams 2 = .ok (.iconst 0, 1) := by decide +kernel
theorem dX1_dryGrams_3 : decode cX1_dryGrams 3 = .ok (.istore_n 3, 1) := by decide +kernel
theorem dX1_dryGrams_4 : decode cX1_dryGrams 4 = .ok (.iload_n 3, 1) := by decide +kernel
theorem dX1_dryGrams_5 : decode cX1_dryGrams 5 = .ok (.aload_n 0, 1) := by decide +kernel
theorem dX1_dryGrams_6 : decode cX1_dryGrams 6 = .ok (.getfield 11, 3) := by decide +kernel
theorem dX1_dryGrams_9 : decode cX1_dryGrams 9 = .ok (.arraylength, 1) := by decide +kernel
theorem dX1_dryGrams_10 : decode cX1_dryGrams 10 = .ok (.if_icmp .ge 39, 3) := by decide +kernel
theorem dX1_dryGrams_13 : decode cX1_dryGrams 13 = .ok (.aload_n 0, 1) := by decide +kernel
theorem dX1_dryGrams_14 : decode cX1_dryGrams 14 = .ok (.getfield 11, 3) := by decide +kernel
theorem dX1_dryGrams_17 : decode cX1_dryGrams 17 = .ok (.iload_n 3, 1) := by decide +kernel
theorem dX1_dryGrams_18 : decode cX1_dryGrams 18 = .ok (.aaload, 1) := by decide +kernel
theorem dX1_dryGrams_19 : decode cX1_dryGrams 19 = .ok (.astore 4, 2) := by decide +kernel
theorem dX1_dryGrams_21 : decode cX1_dryGrams 21 = .ok (.aload 4, 2) := by decide +kernel
theorem dX1_dryGrams_23 : decode cX1_dryGrams 23 = .ok (.ifnull 20, 3) := by decide +kernel
theorem dX1_dryGrams_26 : decode cX1_dryGrams 26 = .ok (.aload 4, 2) := by decide +kernel
theorem dX1_dryGrams_28 : decode cX1_dryGrams 28 = .ok (.aload_n 1, 1) := by decide +kernel
theorem dX1_dryGrams_29 : decode cX1_dryGrams 29 = .ok (.invokevirtual 21, 3) := by decide +kernel
theorem dX1_dryGrams_32 : decode cX1_dryGrams 32 = .ok (.ifCond .eq 11, 3) := by decide +kernel
theorem dX1_dryGrams_35 : decode cX1_dryGrams 35 = .ok (.iload_n 2, 1) := by decide +kernel
theorem dX1_dryGrams_36 : decode cX1_dryGrams 36 = .ok (.aload 4, 2) := by decide +kernel
theorem dX1_dryGrams_38 : decode cX1_dryGrams 38 = .ok (.getfield 25, 3) := by decide +kernel
theorem dX1_dryGrams_41 : decode cX1_dryGrams 41 = .ok (.iadd, 1) := by decide +kernel
theorem dX1_dryGrams_42 : decode cX1_dryGrams 42 = .ok (.istore_n 2, 1) := by decide +kernel
theorem dX1_dryGrams_43 : decode cX1_dryGrams 43 = .ok (.iinc 3 1, 3) := by decide +kernel
theorem dX1_dryGrams_46 : decode cX1_dryGrams 46 = .ok (.goto (-42), 3) := by decide +kernel
theorem dX1_dryGrams_49 : decode cX1_dryGrams 49 = .ok (.iload_n 2, 1) := by decide +kernel
theorem dX1_dryGrams_50 : decode cX1_dryGrams 50 = .ok (.ireturn, 1) := by decide +kernel
theorem dX1_draw_0 : decode cX1_draw 0 = .ok (.iload_n 2, 1) := by decide +kernel
theorem dX1_draw_1 : decode cX1_draw 1 = .ok (.istore_n 3, 1) := by decide +kernel
theorem dX1_draw_2 : decode cX1_draw 2 = .ok (.iconst 0, 1) := by decide +kernel
theorem dX1_draw_3 : decode cX1_draw 3 = .ok (.istore 4, 2) := by decide +kernel
theorem dX1_draw_5 : decode cX1_draw 5 = .ok (.iload 4, 2) := by decide +kernel
theorem dX1_draw_7 : decode cX1_draw 7 = .ok (.aload_n 0, 1) := by decide +kernel
theorem dX1_draw_8 : decode cX1_draw 8 = .ok (.getfield 11, 3) := by decide +kernel
theorem dX1_draw_11 : decode cX1_draw 11 = .ok (.arraylength, 1) := by decide +kernel
theorem dX1_draw_12 : decode cX1_draw 12 = .ok (.if_icmp .ge 60, 3) := by decide +kernel
theorem dX1_draw_15 : decode cX1_draw 15 = .ok (.aload_n 0, 1) := by decide +kernel
theorem dX1_draw_16 : decode cX1_draw 16 = .ok (.getfield 11, 3) := by decide +kernel
theorem dX1_draw_19 : decode cX1_draw 19 = .ok (.iload 4, 2) := by decide +kernel
theorem dX1_draw_21 : decode cX1_draw 21 = .ok (.aaload, 1) := by decide +kernel
theorem dX1_draw_22 : decode cX1_draw 22 = .ok (.astore 5, 2) := by decide +kernel
theorem dX1_draw_24 : decode cX1_draw 24 = .ok (.aload 5, 2) := by decide +kernel
theorem dX1_draw_26 : decode cX1_draw 26 = .ok (.ifnull 40, 3) := by decide +kernel
theorem dX1_draw_29 : decode cX1_draw 29 = .ok (.aload 5, 2) := by decide +kernel
theorem dX1_draw_31 : decode cX1_draw 31 = .ok (.aload_n 1, 1) := by decide +kernel
theorem dX1_draw_32 : decode cX1_draw 32 = .ok (.invokevirtual 21, 3) := by decide +kernel
theorem dX1_draw_35 : decode cX1_draw 35 = .ok (.ifCond .eq 31, 3) := by decide +kernel
theorem dX1_draw_38 : decode cX1_draw 38 = .ok (.iload_n 3, 1) := by decide +kernel
theorem dX1_draw_39 : decode cX1_draw 39 = .ok (.aload 5, 2) := by decide +kernel
theorem dX1_draw_41 : decode cX1_draw 41 = .ok (.getfield 25, 3) := by decide +kernel
theorem dX1_draw_44 : decode cX1_draw 44 = .ok (.invokestatic 28, 3) := by decide +kernel
theorem dX1_draw_47 : decode cX1_draw 47 = .ok (.istore 6, 2) := by decide +kernel
theorem dX1_draw_49 : decode cX1_draw 49 = .ok (.aload 5, 2) := by decide +kernel
theorem dX1_draw_51 : decode cX1_draw 51 = .ok (.dup, 1) := by decide +kernel
theorem dX1_draw_52 : decode cX1_draw 52 = .ok (.getfield 25, 3) := by decide +kernel
theorem dX1_draw_55 : decode cX1_draw 55 = .ok (.iload 6, 2) := by decide +kernel
theorem dX1_draw_57 : decode cX1_draw 57 = .ok (.isub, 1) := by decide +kernel
theorem dX1_draw_58 : decode cX1_draw 58 = .ok (.putfield 25, 3) := by decide +kernel
theorem dX1_draw_61 : decode cX1_draw 61 = .ok (.iload_n 3, 1) := by decide +kernel
theorem dX1_draw_62 : decode cX1_draw 62 = .ok (.iload 6, 2) := by decide +kernel
theorem dX1_draw_64 : decode cX1_draw 64 = .ok (.isub, 1) := by decide +kernel
theorem dX1_draw_65 : decode cX1_draw 65 = .ok (.istore_n 3, 1) := by decide +kernel
theorem dX1_draw_66 : decode cX1_draw 66 = .ok (.iinc 4 1, 3) := by decide +kernel
theorem dX1_draw_69 : decode cX1_draw 69 = .ok (.goto (-64), 3) := by decide +kernel
theorem dX1_draw_72 : decode cX1_draw 72 = .ok (.return_, 1) := by decide +kernel
theorem dX1_dryOneHour_0 : decode cX1_dryOneHour 0 = .ok (.aload_n 0, 1) := by decide +kernel
theorem dX1_dryOneHour_1 : decode cX1_dryOneHour 1 = .ok (.getfield 11, 3) := by decide +kernel
theorem dX1_dryOneHour_4 : decode cX1_dryOneHour 4 = .ok (.arraylength, 1) := by decide +kernel
theorem dX1_dryOneHour_5 : decode cX1_dryOneHour 5 = .ok (.iconst 1, 1) := by decide +kernel
theorem dX1_dryOneHour_6 : decode cX1_dryOneHour 6 = .ok (.isub, 1) := by decide +kernel
theorem dX1_dryOneHour_7 : decode cX1_dryOneHour 7 = .ok (.istore_n 1, 1) := by decide +kernel
theorem dX1_dryOneHour_8 : decode cX1_dryOneHour 8 = .ok (.iload_n 1, 1) := by decide +kernel
theorem dX1_dryOneHour_9 : decode cX1_dryOneHour 9 = .ok (.ifCond .lt 43, 3) := by decide +kernel
theorem dX1_dryOneHour_12 : decode cX1_dryOneHour 12 = .ok (.aload_n 0, 1) := by decide +kernel
theorem dX1_dryOneHour_13 : decode cX1_dryOneHour 13 = .ok (.getfield 11, 3) := by decide +kernel
theorem dX1_dryOneHour_16 : decode cX1_dryOneHour 16 = .ok (.iload_n 1, 1) := by decide +kernel
theorem dX1_dryOneHour_17 : decode cX1_dryOneHour 17 = .ok (.aaload, 1) := by decide +kernel
theorem dX1_dryOneHour_18 : decode cX1_dryOneHour 18 = .ok (.astore_n 2, 1) := by decide +kernel
theorem dX1_dryOneHour_19 : decode cX1_dryOneHour 19 = .ok (.aload_n 2, 1) := by decide +kernel
theorem dX1_dryOneHour_20 : decode cX1_dryOneHour 20 = .ok (.ifnull 26, 3) := by decide +kernel
theorem dX1_dryOneHour_23 : decode cX1_dryOneHour 23 = .ok (.aload_n 2, 1) := by decide +kernel
theorem dX1_dryOneHour_24 : decode cX1_dryOneHour 24 = .ok (.dup, 1) := by decide +kernel
theorem dX1_dryOneHour_25 : decode cX1_dryOneHour 25 = .ok (.getfield 34, 3) := by decide +kernel
theorem dX1_dryOneHour_28 : decode cX1_dryOneHour 28 = .ok (.iconst 1, 1) := by decide +kernel
theorem dX1_dryOneHour_29 : decode cX1_dryOneHour 29 = .ok (.iadd, 1) := by decide +kernel
theorem dX1_dryOneHour_30 : decode cX1_dryOneHour 30 = .ok (.putfield 34, 3) := by decide +kernel
theorem dX1_dryOneHour_33 : decode cX1_dryOneHour 33 = .ok (.aload_n 2, 1) := by decide +kernel
theorem dX1_dryOneHour_34 : decode cX1_dryOneHour 34 = .ok (.getfield 25, 3) := by decide +kernel
theorem dX1_dryOneHour_37 : decode cX1_dryOneHour 37 = .ok (.iconst 1, 1) := by decide +kernel
theorem dX1_dryOneHour_38 : decode cX1_dryOneHour 38 = .ok (.if_icmp .ge 8, 3) := by decide +kernel
theorem dX1_dryOneHour_41 : decode cX1_dryOneHour 41 = .ok (.aload_n 0, 1) := by decide +kernel
theorem dX1_dryOneHour_42 : decode cX1_dryOneHour 42 = .ok (.iload_n 1, 1) := by decide +kernel
theorem dX1_dryOneHour_43 : decode cX1_dryOneHour 43 = .ok (.invokevirtual 37, 3) := by decide +kernel
theorem dX1_dryOneHour_46 : decode cX1_dryOneHour 46 = .ok (.iinc 1 (-1), 3) := by decide +kernel
theorem dX1_dryOneHour_49 : decode cX1_dryOneHour 49 = .ok (.goto (-41), 3) := by decide +kernel
theorem dX1_dryOneHour_52 : decode cX1_dryOneHour 52 = .ok (.return_, 1) := by decide +kernel
theorem dX2_init_0 : decode cX2_init 0 = .ok (.aload_n 0, 1) := by decide +kernel
theorem dX2_init_1 : decode cX2_init 1 = .ok (.invokespecial 1, 3) := by decide +kernel
theorem dX2_init_4 : decode cX2_init 4 = .ok (.aload_n 0, 1) := by decide +kernel
theorem dX2_init_5 : decode cX2_init 5 = .ok (.aload_n 1, 1) := by decide +kernel
theorem dX2_init_6 : decode cX2_init 6 = .ok (.putfield 7, 3) := by decide +kernel
theorem dX2_init_9 : decode cX2_init 9 = .ok (.aload_n 0, 1) := by decide +kernel
theorem dX2_init_10 : decode cX2_init 10 = .ok (.iload_n 2, 1) := by decide +kernel
theorem dX2_init_11 : decode cX2_init 11 = .ok (.putfield 13, 3) := by decide +kernel
theorem dX2_init_14 : decode cX2_init 14 = .ok (.return_, 1) := by decide +kernel
theorem dX2_hoursLeft_0 : decode cX2_hoursLeft 0 = .ok (.aload_n 0, 1) := by decide +kernel
theorem dX2_hoursLeft_1 : decode cX2_hoursLeft 1 = .ok (.getfield 7, 3) := by decide +kernel
theorem dX2_hoursLeft_4 : decode cX2_hoursLeft 4 = .ok (.getfield 17, 3) := by decide +kernel
theorem dX2_hoursLeft_7 : decode cX2_hoursLeft 7 = .ok (.aload_n 0, 1) := by decide +kernel
theorem dX2_hoursLeft_8 : decode cX2_hoursLeft 8 = .ok (.getfield 22, 3) := by decide +kernel
theorem dX2_hoursLeft_11 : decode cX2_hoursLeft 11 = .ok (.isub, 1) := by decide +kernel
theorem dX2_hoursLeft_12 : decode cX2_hoursLeft 12 = .ok (.iconst 0, 1) := by decide +kernel
theorem dX2_hoursLeft_13 : decode cX2_hoursLeft 13 = .ok (.invokestatic 25, 3) := by decide +kernel
theorem dX2_hoursLeft_16 : decode cX2_hoursLeft 16 = .ok (.ireturn, 1) := by decide +kernel
theorem dX2_isDryOf_0 : decode cX2_isDryOf 0 = .ok (.aload_n 0, 1) := by decide +kernel
theorem dX2_isDryOf_1 : decode cX2_isDryOf 1 = .ok (.getfield 7, 3) := by decide +kernel
theorem dX2_isDryOf_4 : decode cX2_isDryOf 4 = .ok (.aload_n 1, 1) := by decide +kernel
theorem dX2_isDryOf_5 : decode cX2_isDryOf 5 = .ok (.if_acmp .ne 14, 3) := by decide +kernel
theorem dX2_isDryOf_8 : decode cX2_isDryOf 8 = .ok (.aload_n 0, 1) := by decide +kernel
theorem dX2_isDryOf_9 : decode cX2_isDryOf 9 = .ok (.invokevirtual 31, 3) := by decide +kernel
theorem dX2_isDryOf_12 : decode cX2_isDryOf 12 = .ok (.ifCond .ne 7, 3) := by decide +kernel
theorem dX2_isDryOf_15 : decode cX2_isDryOf 15 = .ok (.iconst 1, 1) := by decide +kernel
theorem dX2_isDryOf_16 : decode cX2_isDryOf 16 = .ok (.goto 4, 3) := by decide +kernel
theorem dX2_isDryOf_19 : decode cX2_isDryOf 19 = .ok (.iconst 0, 1) := by decide +kernel
theorem dX2_isDryOf_20 : decode cX2_isDryOf 20 = .ok (.ireturn, 1) := by decide +kernel
theorem dX3_init_0 : decode cX3_init 0 = .ok (.aload_n 0, 1) := by decide +kernel
theorem dX3_init_1 : decode cX3_init 1 = .ok (.invokespecial 1, 3) := by decide +kernel
theorem dX3_init_4 : decode cX3_init 4 = .ok (.aload_n 0, 1) := by decide +kernel
theorem dX3_init_5 : decode cX3_init 5 = .ok (.iload_n 1, 1) := by decide +kernel
theorem dX3_init_6 : decode cX3_init 6 = .ok (.putfield 7, 3) := by decide +kernel
theorem dX3_init_9 : decode cX3_init 9 = .ok (.return_, 1) := by decide +kernel
theorem dX4_init_0 : decode cX4_init 0 = .ok (.aload_n 0, 1) := by decide +kernel
theorem dX4_init_1 : decode cX4_init 1 = .ok (.invokespecial 3, 3) := by decide +kernel
theorem dX4_init_4 : decode cX4_init 4 = .ok (.aload_n 0, 1) := by decide +kernel
theorem dX4_init_5 : decode cX4_init 5 = .ok (.iload_n 1, 1) := by decide +kernel
theorem dX4_init_6 : decode cX4_init 6 = .ok (.putfield 9, 3) := by decide +kernel
theorem dX4_init_9 : decode cX4_init 9 = .ok (.aload_n 0, 1) := by decide +kernel
theorem dX4_init_10 : decode cX4_init 10 = .ok (.iload_n 3, 1) := by decide +kernel
theorem dX4_init_11 : decode cX4_init 11 = .ok (.putfield 15, 3) := by decide +kernel
theorem dX4_init_14 : decode cX4_init 14 = .ok (.aload_n 0, 1) := by decide +kernel
theorem dX4_init_15 : decode cX4_init 15 = .ok (.iload 4, 2) := by decide +kernel
theorem dX4_init_17 : decode cX4_init 17 = .ok (.putfield 18, 3) := by decide +kernel
theorem dX4_init_20 : decode cX4_init 20 = .ok (.aload_n 0, 1) := by decide +kernel
theorem dX4_init_21 : decode cX4_init 21 = .ok (.iload 5, 2) := by decide +kernel
theorem dX4_init_23 : decode cX4_init 23 = .ok (.putfield 21, 3) := by decide +kernel
theorem dX4_init_26 : decode cX4_init 26 = .ok (.aload_n 0, 1) := by decide +kernel
theorem dX4_init_27 : decode cX4_init 27 = .ok (.iload 6, 2) := by decide +kernel
theorem dX4_init_29 : decode cX4_init 29 = .ok (.putfield 24, 3) := by decide +kernel
theorem dX4_init_32 : decode cX4_init 32 = .ok (.aload_n 0, 1) := by decide +kernel
theorem dX4_init_33 : decode cX4_init 33 = .ok (.iload_n 2, 1) := by decide +kernel
theorem dX4_init_34 : decode cX4_init 34 = .ok (.iconst 0, 1) := by decide +kernel
theorem dX4_init_35 : decode cX4_init 35 = .ok (.invokestatic 27, 3) := by decide +kernel
theorem dX4_init_38 : decode cX4_init 38 = .ok (.anewarray 33, 3) := by decide +kernel
theorem dX4_init_41 : decode cX4_init 41 = .ok (.putfield 35, 3) := by decide +kernel
theorem dX4_init_44 : decode cX4_init 44 = .ok (.iconst 0, 1) := by decide +kernel
theorem dX4_init_45 : decode cX4_init 45 = .ok (.istore 7, 2) := by decide +kernel
theorem dX4_init_47 : decode cX4_init 47 = .ok (.iload 7, 2) := by decide +kernel
theorem dX4_init_49 : decode cX4_init 49 = .ok (.aload_n 0, 1) := by decide +kernel
theorem dX4_init_50 : decode cX4_init 50 = .ok (.getfield 35, 3) := by decide +kernel
theorem dX4_init_53 : decode cX4_init 53 = .ok (.arraylength, 1) := by decide +kernel
theorem dX4_init_54 : decode cX4_init 54 = .ok (.if_icmp .ge 23, 3) := by decide +kernel
theorem dX4_init_57 : decode cX4_init 57 = .ok (.aload_n 0, 1) := by decide +kernel
theorem dX4_init_58 : decode cX4_init 58 = .ok (.getfield 35, 3) := by decide +kernel
theorem dX4_init_61 : decode cX4_init 61 = .ok (.iload 7, 2) := by decide +kernel
theorem dX4_init_63 : decode cX4_init 63 = .ok (.new 33, 3) := by decide +kernel
theorem dX4_init_66 : decode cX4_init 66 = .ok (.dup, 1) := by decide +kernel
theorem dX4_init_67 : decode cX4_init 67 = .ok (.invokespecial 39, 3) := by decide +kernel
theorem dX4_init_70 : decode cX4_init 70 = .ok (.aastore, 1) := by decide +kernel
theorem dX4_init_71 : decode cX4_init 71 = .ok (.iinc 7 1, 3) := by decide +kernel
theorem dX4_init_74 : decode cX4_init 74 = .ok (.goto (-27), 3) := by decide +kernel
theorem dX4_init_77 : decode cX4_init 77 = .ok (.return_, 1) := by decide +kernel
theorem dX4_openCavities_0 : decode cX4_openCavities 0 = .ok (.iconst 0, 1) := by decide +kernel
theorem dX4_openCavities_1 : decode cX4_openCavities 1 = .ok (.istore_n 1, 1) := by decide +kernel
theorem dX4_openCavities_2 : decode cX4_openCavities 2 = .ok (.iconst 0, 1) := by decide +kernel
theorem dX4_openCavities_3 : decode cX4_openCavities 3 = .ok (.istore_n 2, 1) := by decide +kernel
theorem dX4_openCavities_4 : decode cX4_openCavities 4 = .ok (.iload_n 2, 1) := by decide +kernel
theorem dX4_openCavities_5 : decode cX4_openCavities 5 = .ok (.aload_n 0, 1) := by decide +kernel
theorem dX4_openCavities_6 : decode cX4_openCavities 6 = .ok (.getfield 35, 3) := by decide +kernel
theorem dX4_openCavities_9 : decode cX4_openCavities 9 = .ok (.arraylength, 1) := by decide +kernel
theorem dX4_openCavities_10 : decode cX4_openCavities 10 = .ok (.if_icmp .ge 30, 3) := by decide +kernel
theorem dX4_openCavities_13 : decode cX4_openCavities 13 = .ok (.aload_n 0, 1) := by decide +kernel
theorem dX4_openCavities_14 : decode cX4_openCavities 14 = .ok (.getfield 35, 3) := by decide +kernel
theorem dX4_openCavities_17 : decode cX4_openCavities 17 = .ok (.iload_n 2, 1) := by decide +kernel
theorem dX4_openCavities_18 : decode cX4_openCavities 18 = .ok (.aaload, 1) := by decide +kernel
theorem dX4_openCavities_19 : decode cX4_openCavities 19 = .ok (.astore_n 3, 1) := by decide +kernel
theorem dX4_openCavities_20 : decode cX4_openCavities 20 = .ok (.aload_n 3, 1) := by decide +kernel
theorem dX4_openCavities_21 : decode cX4_openCavities 21 = .ok (.ifnull 13, 3) := by decide +kernel
theorem dX4_openCavities_24 : decode cX4_openCavities 24 = .ok (.aload_n 3, 1) := by decide +kernel
theorem dX4_openCavities_25 : decode cX4_openCavities 25 = .ok (.getfield 40, 3) := by decide +kernel
theorem dX4_openCavities_28 : decode cX4_openCavities 28 = .ok (.ifCond .ne 6, 3) := by decide +kernel
theorem dX4_openCavities_31 : decode cX4_openCavities 31 = .ok (.iinc 1 1, 3) := by decide +kernel
theorem dX4_openCavities_34 : decode cX4_openCavities 34 = .ok (.iinc 2 1, 3) := by decide +kernel
theorem dX4_openCavities_37 : decode cX4_openCavities 37 = .ok (.goto (-33), 3) := by decide +kernel
theorem dX4_openCavities_40 : decode cX4_openCavities 40 = .ok (.iload_n 1, 1) := by decide +kernel
theorem dX4_openCavities_41 : decode cX4_openCavities 41 = .ok (.ireturn, 1) := by decide +kernel
theorem dX4_makeParts_0 : decode cX4_makeParts 0 = .ok (.iconst 0, 1) := by decide +kernel
theorem dX4_makeParts_1 : decode cX4_makeParts 1 = .ok (.istore_n 1, 1) := by decide +kernel
theorem dX4_makeParts_2 : decode cX4_makeParts 2 = .ok (.iload_n 1, 1) := by decide +kernel
theorem dX4_makeParts_3 : decode cX4_makeParts 3 = .ok (.aload_n 0, 1) := by decide +kernel
theorem dX4_makeParts_4 : decode cX4_makeParts 4 = .ok (.getfield 35, 3) := by decide +kernel
theorem dX4_makeParts_7 : decode cX4_makeParts 7 = .ok (.arraylength, 1) := by decide +kernel
theorem dX4_makeParts_8 : decode cX4_makeParts 8 = .ok (.if_icmp .ge 41, 3) := by decide +kernel
theorem dX4_makeParts_11 : decode cX4_makeParts 11 = .ok (.aload_n 0, 1) := by decide +kernel
theorem dX4_makeParts_12 : decode cX4_makeParts 12 = .ok (.getfield 35, 3) := by decide +kernel
theorem dX4_makeParts_15 : decode cX4_makeParts 15 = .ok (.iload_n 1, 1) := by decide +kernel
theorem dX4_makeParts_16 : decode cX4_makeParts 16 = .ok (.aaload, 1) := by decide +kernel
theorem dX4_makeParts_17 : decode cX4_makeParts 17 = .ok (.astore_n 2, 1) := by decide +kernel
theorem dX4_makeParts_18 : decode cX4_makeParts 18 = .ok (.aload_n 2, 1) := by decide +kernel
theorem dX4_makeParts_19 : decode cX4_makeParts 19 = .ok (.ifnull 24, 3) := by decide +kernel
theorem dX4_makeParts_22 : decode cX4_makeParts 22 = .ok (.aload_n 2, 1) := by decide +kernel
theorem dX4_makeParts_23 : decode cX4_makeParts 23 = .ok (.getfield 40, 3) := by decide +kernel
theorem dX4_makeParts_26 : decode cX4_makeParts 26 = .ok (.ifCond .ne 17, 3) := by decide +kernel
theorem dX4_makeParts_29 : decode cX4_makeParts 29 = .ok (.aload_n 2, 1) := by decide +kernel
theorem dX4_makeParts_30 : decode cX4_makeParts 30 = .ok (.dup, 1) := by decide +kernel
theorem dX4_makeParts_31 : decode cX4_makeParts 31 = .ok (.getfield 44, 3) := by decide +kernel
theorem dX4_makeParts_34 : decode cX4_makeParts 34 = .ok (.iconst 1, 1) := by decide +kernel
theorem dX4_makeParts_35 : decode cX4_makeParts 35 = .ok (.iadd, 1) := by decide +kernel
theorem dX4_makeParts_36 : decode cX4_makeParts 36 = .ok (.putfield 44, 3) := by decide +kernel
theorem dX4_makeParts_39 : decode cX4_makeParts 39 = .ok (.aload_n 2, 1) := by decide +kernel
theorem dX4_makeParts_40 : decode cX4_makeParts 40 = .ok (.invokevirtual 47, 3) := by decide +kernel
theorem dX4_makeParts_43 : decode cX4_makeParts 43 = .ok (.iinc 1 1, 3) := by decide +kernel
theorem dX4_makeParts_46 : decode cX4_makeParts 46 = .ok (.goto (-44), 3) := by decide +kernel
theorem dX4_makeParts_49 : decode cX4_makeParts 49 = .ok (.return_, 1) := by decide +kernel
theorem dX4_shotsOfHour_0 : decode cX4_shotsOfHour 0 = .ok (.aload_n 0, 1) := by decide +kernel
theorem dX4_shotsOfHour_1 : decode cX4_shotsOfHour 1 = .ok (.getfield 24, 3) := by decide +kernel
theorem dX4_shotsOfHour_4 : decode cX4_shotsOfHour 4 = .ok (.iconst 1, 1) := by decide +kernel
theorem dX4_shotsOfHour_5 : decode cX4_shotsOfHour 5 = .ok (.if_icmp .ge 7, 3) := by decide +kernel
theorem dX4_shotsOfHour_8 : decode cX4_shotsOfHour 8 = .ok (.iconst 0, 1) := by decide +kernel
theorem dX4_shotsOfHour_9 : decode cX4_shotsOfHour 9 = .ok (.goto 11, 3) := by decide +kernel
theorem dX4_shotsOfHour_12 : decode cX4_shotsOfHour 12 = .ok (.sipush 3600, 3) := by decide +kernel
theorem dX4_shotsOfHour_15 : decode cX4_shotsOfHour 15 = .ok (.aload_n 0, 1) := by decide +kernel
theorem dX4_shotsOfHour_16 : decode cX4_shotsOfHour 16 = .ok (.getfield 24, 3) := by decide +kernel
theorem dX4_shotsOfHour_19 : decode cX4_shotsOfHour 19 = .ok (.idiv, 1) := by decide +kernel
theorem dX4_shotsOfHour_20 : decode cX4_shotsOfHour 20 = .ok (.ireturn, 1) := by decide +kernel
theorem dX5_init_0 : decode cX5_init 0 = .ok (.aload_n 0, 1) := by decide +kernel
theorem dX5_init_1 : decode cX5_init 1 = .ok (.invokespecial 3, 3) := by decide +kernel
theorem dX5_init_4 : decode cX5_init 4 = .ok (.aload_n 0, 1) := by decide +kernel
theorem dX5_init_5 : decode cX5_init 5 = .ok (.aload_n 1, 1) := by decide +kernel
theorem dX5_init_6 : decode cX5_init 6 = .ok (.putfield 9, 3) := by decide +kernel
theorem dX5_init_9 : decode cX5_init 9 = .ok (.aload_n 0, 1) := by decide +kernel
theorem dX5_init_10 : decode cX5_init 10 = .ok (.aload_n 2, 1) := by decide +kernel
theorem dX5_init_11 : decode cX5_init 11 = .ok (.putfield 15, 3) := by decide +kernel
theorem dX5_init_14 : decode cX5_init 14 = .ok (.aload_n 0, 1) := by decide +kernel
theorem dX5_init_15 : decode cX5_init 15 = .ok (.iload 4, 2) := by decide +kernel
theorem dX5_init_17 : decode cX5_init 17 = .ok (.putfield 19, 3) := by decide +kernel
theorem dX5_init_20 : decode cX5_init 20 = .ok (.aload_n 0, 1) := by decide +kernel
theorem dX5_init_21 : decode cX5_init 21 = .ok (.iload_n 3, 1) := by decide +kernel
theorem dX5_init_22 : decode cX5_init 22 = .ok (.putfield 23, 3) := by decide +kernel
theorem dX5_init_25 : decode cX5_init 25 = .ok (.aload_n 0, 1) := by decide +kernel
theorem dX5_init_26 : decode cX5_init 26 = .ok (.iload_n 3, 1) := by decide +kernel
theorem dX5_init_27 : decode cX5_init 27 = .ok (.iconst 0, 1) := by decide +kernel
theorem dX5_init_28 : decode cX5_init 28 = .ok (.invokestatic 26, 3) := by decide +kernel
theorem dX5_init_31 : decode cX5_init 31 = .ok (.newarray .int, 2) := by decide +kernel
theorem dX5_init_33 : decode cX5_init 33 = .ok (.putfield 32, 3) := by decide +kernel
theorem dX5_init_36 : decode cX5_init 36 = .ok (.return_, 1) := by decide +kernel
theorem dX5_isOpen_0 : decode cX5_isOpen 0 = .ok (.aload_n 0, 1) := by decide +kernel
theorem dX5_isOpen_1 : decode cX5_isOpen 1 = .ok (.getfield 23, 3) := by decide +kernel
theorem dX5_isOpen_4 : decode cX5_isOpen 4 = .ok (.ifCond .le 7, 3) := by decide +kernel
theorem dX5_isOpen_7 : decode cX5_isOpen 7 = .ok (.iconst 1, 1) := by decide +kernel
theorem dX5_isOpen_8 : decode cX5_isOpen 8 = .ok (.goto 4, 3) := by decide +kernel
theorem dX5_isOpen_11 : decode cX5_isOpen 11 = .ok (.iconst 0, 1) := by decide +kernel
theorem dX5_isOpen_12 : decode cX5_isOpen 12 = .ok (.ireturn, 1) := by decide +kernel
theorem dX5_keepShot_0 : decode cX5_keepShot 0 = .ok (.aload_n 0, 1) := by decide +kernel
theorem dX5_keepShot_1 : decode cX5_keepShot 1 = .ok (.dup, 1) := by decide +kernel
theorem dX5_keepShot_2 : decode cX5_keepShot 2 = .ok (.getfield 23, 3) := by decide +kernel
theorem dX5_keepShot_5 : decode cX5_keepShot 5 = .ok (.iload_n 1, 1) := by decide +kernel
theorem dX5_keepShot_6 : decode cX5_keepShot 6 = .ok (.isub, 1) := by decide +kernel
theorem dX5_keepShot_7 : decode cX5_keepShot 7 = .ok (.putfield 23, 3) := by decide +kernel
theorem dX5_keepShot_10 : decode cX5_keepShot 10 = .ok (.aload_n 0, 1) := by decide +kernel
theorem dX5_keepShot_11 : decode cX5_keepShot 11 = .ok (.getfield 36, 3) := by decide +kernel
theorem dX5_keepShot_14 : decode cX5_keepShot 14 = .ok (.ifCond .lt 35, 3) := by decide +kernel
theorem dX5_keepShot_17 : decode cX5_keepShot 17 = .ok (.aload_n 0, 1) := by decide +kernel
theorem dX5_keepShot_18 : decode cX5_keepShot 18 = .ok (.getfield 36, 3) := by decide +kernel
theorem dX5_keepShot_21 : decode cX5_keepShot 21 = .ok (.aload_n 0, 1) := by decide +kernel
theorem dX5_keepShot_22 : decode cX5_keepShot 22 = .ok (.getfield 32, 3) := by decide +kernel
theorem dX5_keepShot_25 : decode cX5_keepShot 25 = .ok (.arraylength, 1) := by decide +kernel
theorem dX5_keepShot_26 : decode cX5_keepShot 26 = .ok (.if_icmp .ge 23, 3) := by decide +kernel
theorem dX5_keepShot_29 : decode cX5_keepShot 29 = .ok (.aload_n 0, 1) := by decide +kernel
theorem dX5_keepShot_30 : decode cX5_keepShot 30 = .ok (.getfield 32, 3) := by decide +kernel
theorem dX5_keepShot_33 : decode cX5_keepShot 33 = .ok (.aload_n 0, 1) := by decide +kernel
theorem dX5_keepShot_34 : decode cX5_keepShot 34 = .ok (.getfield 36, 3) := by decide +kernel
theorem dX5_keepShot_37 : decode cX5_keepShot 37 = .ok (.iload_n 2, 1) := by decide +kernel
theorem dX5_keepShot_38 : decode cX5_keepShot 38 = .ok (.iastore, 1) := by decide +kernel
theorem dX5_keepShot_39 : decode cX5_keepShot 39 = .ok (.aload_n 0, 1) := by decide +kernel
theorem dX5_keepShot_40 : decode cX5_keepShot 40 = .ok (.dup, 1) := by decide +kernel
theorem dX5_keepShot_41 : decode cX5_keepShot 41 = .ok (.getfield 36, 3) := by decide +kernel
theorem dX5_keepShot_44 : decode cX5_keepShot 44 = .ok (.iconst 1, 1) := by decide +kernel
theorem dX5_keepShot_45 : decode cX5_keepShot 45 = .ok (.iadd, 1) := by decide +kernel
theorem dX5_keepShot_46 : decode cX5_keepShot 46 = .ok (.putfield 36, 3) := by decide +kernel
theorem dX5_keepShot_49 : decode cX5_keepShot 49 = .ok (.aload_n 0, 1) := by decide +kernel
theorem dX5_keepShot_50 : decode cX5_keepShot 50 = .ok (.dup, 1) := by decide +kernel
theorem dX5_keepShot_51 : decode cX5_keepShot 51 = .ok (.getfield 39, 3) := by decide +kernel
theorem dX5_keepShot_54 : decode cX5_keepShot 54 = .ok (.iload_n 2, 1) := by decide +kernel
theorem dX5_keepShot_55 : decode cX5_keepShot 55 = .ok (.i2l, 1) := by decide +kernel
theorem dX5_keepShot_56 : decode cX5_keepShot 56 = .ok (.ladd, 1) := by decide +kernel
theorem dX5_keepShot_57 : decode cX5_keepShot 57 = .ok (.putfield 39, 3) := by decide +kernel
theorem dX5_keepShot_60 : decode cX5_keepShot 60 = .ok (.iload_n 3, 1) := by decide +kernel
theorem dX5_keepShot_61 : decode cX5_keepShot 61 = .ok (.ifCond .le 20, 3) := by decide +kernel
theorem dX5_keepShot_64 : decode cX5_keepShot 64 = .ok (.aload_n 0, 1) := by decide +kernel
theorem dX5_keepShot_65 : decode cX5_keepShot 65 = .ok (.aload_n 0, 1) := by decide +kernel
theorem dX5_keepShot_66 : decode cX5_keepShot 66 = .ok (.getfield 43, 3) := by decide +kernel
theorem dX5_keepShot_69 : decode cX5_keepShot 69 = .ok (.iload_n 2, 1) := by decide +kernel
theorem dX5_keepShot_70 : decode cX5_keepShot 70 = .ok (.bipush 100, 2) := by decide +kernel
theorem dX5_keepShot_72 : decode cX5_keepShot 72 = .ok (.imul, 1) := by decide +kernel
theorem dX5_keepShot_73 : decode cX5_keepShot 73 = .ok (.iload_n 3, 1) := by decide +kernel
theorem dX5_keepShot_74 : decode cX5_keepShot 74 = .ok (.idiv, 1) := by decide +kernel
theorem dX5_keepShot_75 : decode cX5_keepShot 75 = .ok (.invokestatic 26, 3) := by decide +kernel
theorem dX5_keepShot_78 : decode cX5_keepShot 78 = .ok (.putfield 43, 3) := by decide +kernel
theorem dX5_keepShot_81 : decode cX5_keepShot 81 = .ok (.return_, 1) := by decide +kernel
theorem dX5_regrindAdded_0 : decode cX5_regrindAdded 0 = .ok (.lconst 0, 1) := by decide +kernel
theorem dX5_regrindAdded_1 : decode cX5_regrindAdded 1 = .ok (.lstore_n 1, 1) := by decide +kernel
theorem dX5_regrindAdded_2 : decode cX5_regrindAdded 2 = .ok (.aload_n 0, 1) := by decide +kernel
theorem dX5_regrindAdded_3 : decode cX5_regrindAdded 3 = .ok (.getfield 36, 3) := by decide +kernel
theorem dX5_regrindAdded_6 : decode cX5_regrindAdded 6 = .ok (.aload_n 0, 1) := by decide +kernel
theorem dX5_regrindAdded_7 : decode cX5_regrindAdded 7 = .ok (.getfield 32, 3) := by decide +kernel
theorem dX5_regrindAdded_10 : decode cX5_regrindAdded 10 = .ok (.arraylength, 1) := by decide +kernel
theorem dX5_regrindAdded_11 : decode cX5_regrindAdded 11 = .ok (.invokestatic 46, 3) := by decide +kernel
theorem dX5_regrindAdded_14 : decode cX5_regrindAdded 14 = .ok (.istore_n 3, 1) := by decide +kernel
theorem dX5_regrindAdded_15 : decode cX5_regrindAdded 15 = .ok (.iconst 0, 1) := by decide +kernel
theorem dX5_regrindAdded_16 : decode cX5_regrindAdded 16 = .ok (.istore 4, 2) := by decide +kernel
theorem dX5_regrindAdded_18 : decode cX5_regrindAdded 18 = .ok (.iload 4, 2) := by decide +kernel
theorem dX5_regrindAdded_20 : decode cX5_regrindAdded 20 = .ok (.iload_n 3, 1) := by decide +kernel
theorem dX5_regrindAdded_21 : decode cX5_regrindAdded 21 = .ok (.if_icmp .ge 20, 3) := by decide +kernel
theorem dX5_regrindAdded_24 : decode cX5_regrindAdded 24 = .ok (.lload_n 1, 1) := by decide +kernel
theorem dX5_regrindAdded_25 : decode cX5_regrindAdded 25 = .ok (.aload_n 0, 1) := by decide +kernel
theorem dX5_regrindAdded_26 : decode cX5_regrindAdded 26 = .ok (.getfield 32, 3) := by decide +kernel
theorem dX5_regrindAdded_29 : decode cX5_regrindAdded 29 = .ok (.iload 4, 2) := by decide +kernel
theorem dX5_regrindAdded_31 : decode cX5_regrindAdded 31 = .ok (.iaload, 1) := by decide +kernel
theorem dX5_regrindAdded_32 : decode cX5_regrindAdded 32 = .ok (.i2l, 1) := by decide +kernel
theorem dX5_regrindAdded_33 : decode cX5_regrindAdded 33 = .ok (.ladd, 1) := by decide +kernel
theorem dX5_regrindAdded_34 : decode cX5_regrindAdded 34 = .ok (.lstore_n 1, 1) := by decide +kernel
theorem dX5_regrindAdded_35 : decode cX5_regrindAdded 35 = .ok (.iinc 4 1, 3) := by decide +kernel
theorem dX5_regrindAdded_38 : decode cX5_regrindAdded 38 = .ok (.goto (-20), 3) := by decide +kernel
theorem dX5_regrindAdded_41 : decode cX5_regrindAdded 41 = .ok (.lload_n 1, 1) := by decide +kernel
theorem dX5_regrindAdded_42 : decode cX5_regrindAdded 42 = .ok (.lreturn, 1) := by decide +kernel
theorem dX6_init_0 : decode cX6_init 0 = .ok (.aload_n 0, 1) := by decide +kernel
theorem dX6_init_1 : decode cX6_init 1 = .ok (.invokespecial 1, 3) := by decide +kernel
theorem dX6_init_4 : decode cX6_init 4 = .ok (.aload_n 0, 1) := by decide +kernel
theorem dX6_init_5 : decode cX6_init 5 = .ok (.iload_n 1, 1) := by decide +kernel
theorem dX6_init_6 : decode cX6_init 6 = .ok (.putfield 7, 3) := by decide +kernel
theorem dX6_init_9 : decode cX6_init 9 = .ok (.return_, 1) := by decide +kernel
end
section
theorem dX7_init_0 : decode cX7_init 0 = .ok (.aload_n 0, 1) := by decide +kernel
theorem dX7_init_1 : decode cX7_init 1 = .ok (.invokespecial 1, 3) := by decide +kernel
theorem dX7_init_4 : decode cX7_init 4 = .ok (.aload_n 0, 1) := by decide +kernel
theorem dX7_init_5 : decode cX7_init 5 = .ok (.iconst 4, 1) := by decide +kernel
theorem dX7_init_6 : decode cX7_init 6 = .ok (.anewarray 9, 3) := by decide +kernel
theorem dX7_init_9 : decode cX7_init 9 = .ok (.putfield 11, 3) := by decide +kernel
theorem dX7_init_12 : decode cX7_init 12 = .ok (.aload_n 0, 1) := by decide +kernel
theorem dX7_init_13 : decode cX7_init 13 = .ok (.iconst 5, 1) := by decide +kernel
theorem dX7_init_14 : decode cX7_init 14 = .ok (.anewarray 15, 3) := by decide +kernel
theorem dX7_init_17 : decode cX7_init 17 = .ok (.putfield 17, 3) := by decide +kernel
theorem dX7_init_20 : decode cX7_init 20 = .ok (.aload_n 0, 1) := by decide +kernel
theorem dX7_init_21 : decode cX7_init 21 = .ok (.iconst 3, 1) := by decide +kernel
theorem dX7_init_22 : decode cX7_init 22 = .ok (.anewarray 21, 3) := by decide +kernel
theorem dX7_init_25 : decode cX7_init 25 = .ok (.putfield 23, 3) := by decide +kernel
theorem dX7_init_28 : decode cX7_init 28 = .ok (.aload_n 0, 1) := by decide +kernel
theorem dX7_init_29 : decode cX7_init 29 = .ok (.bipush 8, 2) := by decide +kernel
theorem dX7_init_31 : decode cX7_init 31 = .ok (.anewarray 27, 3) := by decide +kernel
theorem dX7_init_34 : decode cX7_init 34 = .ok (.putfield 29, 3) := by decide +kernel
theorem dX7_init_37 : decode cX7_init 37 = .ok (.aload_n 0, 1) := by decide +kernel
theorem dX7_init_38 : decode cX7_init 38 = .ok (.new 33, 3) := by decide +kernel
theorem dX7_init_41 : decode cX7_init 41 = .ok (.dup, 1) := by decide +kernel
theorem dX7_init_42 : decode cX7_init 42 = .ok (.invokespecial 35, 3) := by decide +kernel
theorem dX7_init_45 : decode cX7_init 45 = .ok (.putfield 36, 3) := by decide +kernel
theorem dX7_init_48 : decode cX7_init 48 = .ok (.return_, 1) := by decide +kernel
theorem dX7_addResin_0 : decode cX7_addResin 0 = .ok (.iload_n 1, 1) := by decide +kernel
theorem dX7_addResin_1 : decode cX7_addResin 1 = .ok (.iconst 0, 1) := by decide +kernel
theorem dX7_addResin_2 : decode cX7_addResin 2 = .ok (.bipush 9, 2) := by decide +kernel
theorem dX7_addResin_4 : decode cX7_addResin 4 = .ok (.invokestatic 40, 3) := by decide +kernel
theorem dX7_addResin_7 : decode cX7_addResin 7 = .ok (.aload_n 0, 1) := by decide +kernel
theorem dX7_addResin_8 : decode cX7_addResin 8 = .ok (.getfield 44, 3) := by decide +kernel
theorem dX7_addResin_11 : decode cX7_addResin 11 = .ok (.istore_n 2, 1) := by decide +kernel
theorem dX7_addResin_12 : decode cX7_addResin 12 = .ok (.iload_n 2, 1) := by decide +kernel
theorem dX7_addResin_13 : decode cX7_addResin 13 = .ok (.ifCond .lt 12, 3) := by decide +kernel
theorem dX7_addResin_16 : decode cX7_addResin 16 = .ok (.iload_n 2, 1) := by decide +kernel
theorem dX7_addResin_17 : decode cX7_addResin 17 = .ok (.aload_n 0, 1) := by decide +kernel
theorem dX7_addResin_18 : decode cX7_addResin 18 = .ok (.getfield 11, 3) := by decide +kernel
theorem dX7_addResin_21 : decode cX7_addResin 21 = .ok (.arraylength, 1) := by decide +kernel
theorem dX7_addResin_22 : decode cX7_addResin 22 = .ok (.if_icmp .lt 13, 3) := by decide +kernel
theorem dX7_addResin_25 : decode cX7_addResin 25 = .ok (.new 48, 3) := by decide +kernel
theorem dX7_addResin_28 : decode cX7_addResin 28 = .ok (.dup, 1) := by decide +kernel
theorem dX7_addResin_29 : decode cX7_addResin 29 = .ok (.ldc 50, 2) := by decide +kernel
theorem dX7_addResin_31 : decode cX7_addResin 31 = .ok (.invokespecial 52, 3) := by decide +kernel
theorem dX7_addResin_34 : decode cX7_addResin 34 = .ok (.athrow, 1) := by decide +kernel
theorem dX7_addResin_35 : decode cX7_addResin 35 = .ok (.aload_n 0, 1) := by decide +kernel
theorem dX7_addResin_36 : decode cX7_addResin 36 = .ok (.getfield 11, 3) := by decide +kernel
theorem dX7_addResin_39 : decode cX7_addResin 39 = .ok (.iload_n 2, 1) := by decide +kernel
theorem dX7_addResin_40 : decode cX7_addResin 40 = .ok (.new 9, 3) := by decide +kernel
theorem dX7_addResin_43 : decode cX7_addResin 43 = .ok (.dup, 1) := by decide +kernel
theorem dX7_addResin_44 : decode cX7_addResin 44 = .ok (.iload_n 1, 1) := by decide +kernel
theorem dX7_addResin_45 : decode cX7_addResin 45 = .ok (.invokespecial 55, 3) := by decide +kernel
theorem dX7_addResin_48 : decode cX7_addResin 48 = .ok (.aastore, 1) := by decide +kernel
theorem dX7_addResin_49 : decode cX7_addResin 49 = .ok (.aload_n 0, 1) := by decide +kernel
theorem dX7_addResin_50 : decode cX7_addResin 50 = .ok (.iload_n 2, 1) := by decide +kernel
theorem dX7_addResin_51 : decode cX7_addResin 51 = .ok (.iconst 1, 1) := by decide +kernel
theorem dX7_addResin_52 : decode cX7_addResin 52 = .ok (.iadd, 1) := by decide +kernel
theorem dX7_addResin_53 : decode cX7_addResin 53 = .ok (.putfield 44, 3) := by decide +kernel
theorem dX7_addResin_56 : decode cX7_addResin 56 = .ok (.iload_n 2, 1) := by decide +kernel
theorem dX7_addResin_57 : decode cX7_addResin 57 = .ok (.ireturn, 1) := by decide +kernel
theorem dX7_fill_0 : decode cX7_fill 0 = .ok (.aload_n 0, 1) := by decide +kernel
theorem dX7_fill_1 : decode cX7_fill 1 = .ok (.iload_n 1, 1) := by decide +kernel
theorem dX7_fill_2 : decode cX7_fill 2 = .ok (.invokevirtual 58, 3) := by decide +kernel
theorem dX7_fill_5 : decode cX7_fill 5 = .ok (.astore_n 3, 1) := by decide +kernel
theorem dX7_fill_6 : decode cX7_fill 6 = .ok (.iload_n 2, 1) := by decide +kernel
theorem dX7_fill_7 : decode cX7_fill 7 = .ok (.iconst 1, 1) := by decide +kernel
theorem dX7_fill_8 : decode cX7_fill 8 = .ok (.ldc 62, 2) := by decide +kernel
theorem dX7_fill_10 : decode cX7_fill 10 = .ok (.invokestatic 40, 3) := by decide +kernel
theorem dX7_fill_13 : decode cX7_fill 13 = .ok (.aload_n 0, 1) := by decide +kernel
theorem dX7_fill_14 : decode cX7_fill 14 = .ok (.getfield 36, 3) := by decide +kernel
theorem dX7_fill_17 : decode cX7_fill 17 = .ok (.invokevirtual 63, 3) := by decide +kernel
theorem dX7_fill_20 : decode cX7_fill 20 = .ok (.ifCond .eq 13, 3) := by decide +kernel
theorem dX7_fill_23 : decode cX7_fill 23 = .ok (.new 48, 3) := by decide +kernel
theorem dX7_fill_26 : decode cX7_fill 26 = .ok (.dup, 1) := by decide +kernel
theorem dX7_fill_27 : decode cX7_fill 27 = .ok (.ldc 67, 2) := by decide +kernel
theorem dX7_fill_29 : decode cX7_fill 29 = .ok (.invokespecial 52, 3) := by decide +kernel
theorem dX7_fill_32 : decode cX7_fill 32 = .ok (.athrow, 1) := by decide +kernel
theorem dX7_fill_33 : decode cX7_fill 33 = .ok (.aload_n 0, 1) := by decide +kernel
theorem dX7_fill_34 : decode cX7_fill 34 = .ok (.getfield 36, 3) := by decide +kernel
theorem dX7_fill_37 : decode cX7_fill 37 = .ok (.new 69, 3) := by decide +kernel
theorem dX7_fill_40 : decode cX7_fill 40 = .ok (.dup, 1) := by decide +kernel
theorem dX7_fill_41 : decode cX7_fill 41 = .ok (.aload_n 3, 1) := by decide +kernel
theorem dX7_fill_42 : decode cX7_fill 42 = .ok (.iload_n 2, 1) := by decide +kernel
theorem dX7_fill_43 : decode cX7_fill 43 = .ok (.invokespecial 71, 3) := by decide +kernel
theorem dX7_fill_46 : decode cX7_fill 46 = .ok (.invokevirtual 74, 3) := by decide +kernel
theorem dX7_fill_49 : decode cX7_fill 49 = .ok (.aload_n 0, 1) := by decide +kernel
theorem dX7_fill_50 : decode cX7_fill 50 = .ok (.getfield 36, 3) := by decide +kernel
theorem dX7_fill_53 : decode cX7_fill 53 = .ok (.getfield 78, 3) := by decide +kernel
theorem dX7_fill_56 : decode cX7_fill 56 = .ok (.ireturn, 1) := by decide +kernel
theorem dX7_empty_0 : decode cX7_empty 0 = .ok (.aload_n 0, 1) := by decide +kernel
theorem dX7_empty_1 : decode cX7_empty 1 = .ok (.iload_n 1, 1) := by decide +kernel
theorem dX7_empty_2 : decode cX7_empty 2 = .ok (.invokevirtual 81, 3) := by decide +kernel
theorem dX7_empty_5 : decode cX7_empty 5 = .ok (.getfield 85, 3) := by decide +kernel
theorem dX7_empty_8 : decode cX7_empty 8 = .ok (.istore_n 2, 1) := by decide +kernel
theorem dX7_empty_9 : decode cX7_empty 9 = .ok (.aload_n 0, 1) := by decide +kernel
theorem dX7_empty_10 : decode cX7_empty 10 = .ok (.getfield 36, 3) := by decide +kernel
theorem dX7_empty_13 : decode cX7_empty 13 = .ok (.iload_n 1, 1) := by decide +kernel
theorem dX7_empty_14 : decode cX7_empty 14 = .ok (.invokevirtual 88, 3) := by decide +kernel
theorem dX7_empty_17 : decode cX7_empty 17 = .ok (.iload_n 2, 1) := by decide +kernel
theorem dX7_empty_18 : decode cX7_empty 18 = .ok (.ireturn, 1) := by decide +kernel
theorem dX7_lots_0 : decode cX7_lots 0 = .ok (.aload_n 0, 1) := by decide +kernel
theorem dX7_lots_1 : decode cX7_lots 1 = .ok (.getfield 36, 3) := by decide +kernel
theorem dX7_lots_4 : decode cX7_lots 4 = .ok (.getfield 78, 3) := by decide +kernel
theorem dX7_lots_7 : decode cX7_lots 7 = .ok (.ireturn, 1) := by decide +kernel
theorem dX7_hoursToDry_0 : decode cX7_hoursToDry 0 = .ok (.aload_n 0, 1) := by decide +kernel
theorem dX7_hoursToDry_1 : decode cX7_hoursToDry 1 = .ok (.iload_n 1, 1) := by decide +kernel
theorem dX7_hoursToDry_2 : decode cX7_hoursToDry 2 = .ok (.invokevirtual 81, 3) := by decide +kernel
theorem dX7_hoursToDry_5 : decode cX7_hoursToDry 5 = .ok (.invokevirtual 91, 3) := by decide +kernel
theorem dX7_hoursToDry_8 : decode cX7_hoursToDry 8 = .ok (.ireturn, 1) := by decide +kernel
theorem dX7_dry_0 : decode cX7_dry 0 = .ok (.aload_n 0, 1) := by decide +kernel
theorem dX7_dry_1 : decode cX7_dry 1 = .ok (.getfield 36, 3) := by decide +kernel
theorem dX7_dry_4 : decode cX7_dry 4 = .ok (.aload_n 0, 1) := by decide +kernel
theorem dX7_dry_5 : decode cX7_dry 5 = .ok (.iload_n 1, 1) := by decide +kernel
theorem dX7_dry_6 : decode cX7_dry 6 = .ok (.invokevirtual 58, 3) := by decide +kernel
theorem dX7_dry_9 : decode cX7_dry 9 = .ok (.invokevirtual 95, 3) := by decide +kernel
theorem dX7_dry_12 : decode cX7_dry 12 = .ok (.ireturn, 1) := by decide +kernel
theorem dX7_regrind_0 : decode cX7_regrind 0 = .ok (.aload_n 0, 1) := by decide +kernel
theorem dX7_regrind_1 : decode cX7_regrind 1 = .ok (.iload_n 1, 1) := by decide +kernel
theorem dX7_regrind_2 : decode cX7_regrind 2 = .ok (.invokevirtual 58, 3) := by decide +kernel
theorem dX7_regrind_5 : decode cX7_regrind 5 = .ok (.getfield 99, 3) := by decide +kernel
theorem dX7_regrind_8 : decode cX7_regrind 8 = .ok (.ireturn, 1) := by decide +kernel
theorem dX7_addMould_0 : decode cX7_addMould 0 = .ok (.iload_n 1, 1) := by decide +kernel
theorem dX7_addMould_1 : decode cX7_addMould 1 = .ok (.iconst 1, 1) := by decide +kernel
theorem dX7_addMould_2 : decode cX7_addMould 2 = .ok (.bipush 8, 2) := by decide +kernel
theorem dX7_addMould_4 : decode cX7_addMould 4 = .ok (.invokestatic 40, 3) := by decide +kernel
theorem dX7_addMould_7 : decode cX7_addMould 7 = .ok (.iload_n 2, 1) := by decide +kernel
theorem dX7_addMould_8 : decode cX7_addMould 8 = .ok (.iconst 1, 1) := by decide +kernel
theorem dX7_addMould_9 : decode cX7_addMould 9 = .ok (.sipush 200, 3) := by decide +kernel
theorem dX7_addMould_12 : decode cX7_addMould 12 = .ok (.invokestatic 40, 3) := by decide +kernel
theorem dX7_addMould_15 : decode cX7_addMould 15 = .ok (.iload_n 3, 1) := by decide +kernel
theorem dX7_addMould_16 : decode cX7_addMould 16 = .ok (.iconst 0, 1) := by decide +kernel
theorem dX7_addMould_17 : decode cX7_addMould 17 = .ok (.sipush 200, 3) := by decide +kernel
theorem dX7_addMould_20 : decode cX7_addMould 20 = .ok (.invokestatic 40, 3) := by decide +kernel
theorem dX7_addMould_23 : decode cX7_addMould 23 = .ok (.iload 4, 2) := by decide +kernel
theorem dX7_addMould_25 : decode cX7_addMould 25 = .ok (.iconst 1, 1) := by decide +kernel
theorem dX7_addMould_26 : decode cX7_addMould 26 = .ok (.sipush 999, 3) := by decide +kernel
theorem dX7_addMould_29 : decode cX7_addMould 29 = .ok (.invokestatic 40, 3) := by decide +kernel
theorem dX7_addMould_32 : decode cX7_addMould 32 = .ok (.iload 5, 2) := by decide +kernel
theorem dX7_addMould_34 : decode cX7_addMould 34 = .ok (.bipush 60, 2) := by decide +kernel
theorem dX7_addMould_36 : decode cX7_addMould 36 = .ok (.sipush 3600, 3) := by decide +kernel
theorem dX7_addMould_39 : decode cX7_addMould 39 = .ok (.invokestatic 40, 3) := by decide +kernel
theorem dX7_addMould_42 : decode cX7_addMould 42 = .ok (.aload_n 0, 1) := by decide +kernel
theorem dX7_addMould_43 : decode cX7_addMould 43 = .ok (.getfield 102, 3) := by decide +kernel
theorem dX7_addMould_46 : decode cX7_addMould 46 = .ok (.istore 6, 2) := by decide +kernel
theorem dX7_addMould_48 : decode cX7_addMould 48 = .ok (.iload 6, 2) := by decide +kernel
theorem dX7_addMould_50 : decode cX7_addMould 50 = .ok (.ifCond .lt 13, 3) := by decide +kernel
theorem dX7_addMould_53 : decode cX7_addMould 53 = .ok (.iload 6, 2) := by decide +kernel
theorem dX7_addMould_55 : decode cX7_addMould 55 = .ok (.aload_n 0, 1) := by decide +kernel
theorem dX7_addMould_56 : decode cX7_addMould 56 = .ok (.getfield 17, 3) := by decide +kernel
theorem dX7_addMould_59 : decode cX7_addMould 59 = .ok (.arraylength, 1) := by decide +kernel
theorem dX7_addMould_60 : decode cX7_addMould 60 = .ok (.if_icmp .lt 13, 3) := by decide +kernel
theorem dX7_addMould_63 : decode cX7_addMould 63 = .ok (.new 48, 3) := by decide +kernel
theorem dX7_addMould_66 : decode cX7_addMould 66 = .ok (.dup, 1) := by decide +kernel
theorem dX7_addMould_67 : decode cX7_addMould 67 = .ok (.ldc 105, 2) := by decide +kernel
theorem dX7_addMould_69 : decode cX7_addMould 69 = .ok (.invokespecial 52, 3) := by decide +kernel
theorem dX7_addMould_72 : decode cX7_addMould 72 = .ok (.athrow, 1) := by decide +kernel
theorem dX7_addMould_73 : decode cX7_addMould 73 = .ok (.aload_n 0, 1) := by decide +kernel
theorem dX7_addMould_74 : decode cX7_addMould 74 = .ok (.getfield 17, 3) := by decide +kernel
theorem dX7_addMould_77 : decode cX7_addMould 77 = .ok (.iload 6, 2) := by decide +kernel
theorem dX7_addMould_79 : decode cX7_addMould 79 = .ok (.new 15, 3) := by decide +kernel
theorem dX7_addMould_82 : decode cX7_addMould 82 = .ok (.dup, 1) := by decide +kernel
theorem dX7_addMould_83 : decode cX7_addMould 83 = .ok (.iload 6, 2) := by decide +kernel
theorem dX7_addMould_85 : decode cX7_addMould 85 = .ok (.iload_n 1, 1) := by decide +kernel
theorem dX7_addMould_86 : decode cX7_addMould 86 = .ok (.iload_n 2, 1) := by decide +kernel
theorem dX7_addMould_87 : decode cX7_addMould 87 = .ok (.iload_n 3, 1) := by decide +kernel
theorem dX7_addMould_88 : decode cX7_addMould 88 = .ok (.iload 4, 2) := by decide +kernel
theorem dX7_addMould_90 : decode cX7_addMould 90 = .ok (.iload 5, 2) := by decide +kernel
theorem dX7_addMould_92 : decode cX7_addMould 92 = .ok (.invokespecial 107, 3) := by decide +kernel
theorem dX7_addMould_95 : decode cX7_addMould 95 = .ok (.aastore, 1) := by decide +kernel
theorem dX7_addMould_96 : decode cX7_addMould 96 = .ok (.aload_n 0, 1) := by decide +kernel
theorem dX7_addMould_97 : decode cX7_addMould 97 = .ok (.iload 6, 2) := by decide +kernel
theorem dX7_addMould_99 : decode cX7_addMould 99 = .ok (.iconst 1, 1) := by decide +kernel
theorem dX7_addMould_100 : decode cX7_addMould 100 = .ok (.iadd, 1) := by decide +kernel
theorem dX7_addMould_101 : decode cX7_addMould 101 = .ok (.putfield 102, 3) := by decide +kernel
theorem dX7_addMould_104 : decode cX7_addMould 104 = .ok (.iload 6, 2) := by decide +kernel
theorem dX7_addMould_106 : decode cX7_addMould 106 = .ok (.ireturn, 1) := by decide +kernel
theorem dX7_setLife_0 : decode cX7_setLife 0 = .ok (.aload_n 0, 1) := by decide +kernel
theorem dX7_setLife_1 : decode cX7_setLife 1 = .ok (.iload_n 1, 1) := by decide +kernel
theorem dX7_setLife_2 : decode cX7_setLife 2 = .ok (.invokevirtual 110, 3) := by decide +kernel
theorem dX7_setLife_5 : decode cX7_setLife 5 = .ok (.iload_n 2, 1) := by decide +kernel
theorem dX7_setLife_6 : decode cX7_setLife 6 = .ok (.invokestatic 114, 3) := by decide +kernel
theorem dX7_setLife_9 : decode cX7_setLife 9 = .ok (.astore 4, 2) := by decide +kernel
theorem dX7_setLife_11 : decode cX7_setLife 11 = .ok (.iload_n 3, 1) := by decide +kernel
theorem dX7_setLife_12 : decode cX7_setLife 12 = .ok (.iconst 1, 1) := by decide +kernel
theorem dX7_setLife_13 : decode cX7_setLife 13 = .ok (.sipush 9999, 3) := by decide +kernel
theorem dX7_setLife_16 : decode cX7_setLife 16 = .ok (.invokestatic 40, 3) := by decide +kernel
theorem dX7_setLife_19 : decode cX7_setLife 19 = .ok (.aload 4, 2) := by decide +kernel
theorem dX7_setLife_21 : decode cX7_setLife 21 = .ok (.iload_n 3, 1) := by decide +kernel
theorem dX7_setLife_22 : decode cX7_setLife 22 = .ok (.putfield 118, 3) := by decide +kernel
theorem dX7_setLife_25 : decode cX7_setLife 25 = .ok (.aload 4, 2) := by decide +kernel
theorem dX7_setLife_27 : decode cX7_setLife 27 = .ok (.invokevirtual 123, 3) := by decide +kernel
theorem dX7_setLife_30 : decode cX7_setLife 30 = .ok (.aload 4, 2) := by decide +kernel
theorem dX7_setLife_32 : decode cX7_setLife 32 = .ok (.getfield 126, 3) := by decide +kernel
theorem dX7_setLife_35 : decode cX7_setLife 35 = .ok (.ireturn, 1) := by decide +kernel
theorem dX7_block_0 : decode cX7_block 0 = .ok (.aload_n 0, 1) := by decide +kernel
theorem dX7_block_1 : decode cX7_block 1 = .ok (.iload_n 1, 1) := by decide +kernel
theorem dX7_block_2 : decode cX7_block 2 = .ok (.invokevirtual 110, 3) := by decide +kernel
theorem dX7_block_5 : decode cX7_block 5 = .ok (.astore_n 3, 1) := by decide +kernel
theorem dX7_block_6 : decode cX7_block 6 = .ok (.aload_n 3, 1) := by decide +kernel
theorem dX7_block_7 : decode cX7_block 7 = .ok (.iload_n 2, 1) := by decide +kernel
theorem dX7_block_8 : decode cX7_block 8 = .ok (.invokestatic 114, 3) := by decide +kernel
theorem dX7_block_11 : decode cX7_block 11 = .ok (.astore 4, 2) := by decide +kernel
theorem dX7_block_13 : decode cX7_block 13 = .ok (.aload 4, 2) := by decide +kernel
theorem dX7_block_15 : decode cX7_block 15 = .ok (.getfield 129, 3) := by decide +kernel
theorem dX7_block_18 : decode cX7_block 18 = .ok (.ifCond .eq 13, 3) := by decide +kernel
theorem dX7_block_21 : decode cX7_block 21 = .ok (.new 48, 3) := by decide +kernel
theorem dX7_block_24 : decode cX7_block 24 = .ok (.dup, 1) := by decide +kernel
theorem dX7_block_25 : decode cX7_block 25 = .ok (.ldc 133, 2) := by decide +kernel
theorem dX7_block_27 : decode cX7_block 27 = .ok (.invokespecial 52, 3) := by decide +kernel
theorem dX7_block_30 : decode cX7_block 30 = .ok (.athrow, 1) := by decide +kernel
theorem dX7_block_31 : decode cX7_block 31 = .ok (.aload 4, 2) := by decide +kernel
theorem dX7_block_33 : decode cX7_block 33 = .ok (.iconst 1, 1) := by decide +kernel
theorem dX7_block_34 : decode cX7_block 34 = .ok (.putfield 129, 3) := by decide +kernel
theorem dX7_block_37 : decode cX7_block 37 = .ok (.aload_n 3, 1) := by decide +kernel
theorem dX7_block_38 : decode cX7_block 38 = .ok (.invokevirtual 135, 3) := by decide +kernel
theorem dX7_block_41 : decode cX7_block 41 = .ok (.ireturn, 1) := by decide +kernel
theorem dX7_repair_0 : decode cX7_repair 0 = .ok (.aload_n 0, 1) := by decide +kernel
theorem dX7_repair_1 : decode cX7_repair 1 = .ok (.iload_n 1, 1) := by decide +kernel
theorem dX7_repair_2 : decode cX7_repair 2 = .ok (.invokevirtual 110, 3) := by decide +kernel
theorem dX7_repair_5 : decode cX7_repair 5 = .ok (.astore_n 3, 1) := by decide +kernel
theorem dX7_repair_6 : decode cX7_repair 6 = .ok (.aload_n 3, 1) := by decide +kernel
theorem dX7_repair_7 : decode cX7_repair 7 = .ok (.iload_n 2, 1) := by decide +kernel
theorem dX7_repair_8 : decode cX7_repair 8 = .ok (.invokestatic 114, 3) := by decide +kernel
theorem dX7_repair_11 : decode cX7_repair 11 = .ok (.astore 4, 2) := by decide +kernel
theorem dX7_repair_13 : decode cX7_repair 13 = .ok (.aload 4, 2) := by decide +kernel
theorem dX7_repair_15 : decode cX7_repair 15 = .ok (.getfield 129, 3) := by decide +kernel
theorem dX7_repair_18 : decode cX7_repair 18 = .ok (.ifCond .eq 10, 3) := by decide +kernel
theorem dX7_repair_21 : decode cX7_repair 21 = .ok (.aload_n 3, 1) := by decide +kernel
theorem dX7_repair_22 : decode cX7_repair 22 = .ok (.getfield 138, 3) := by decide +kernel
theorem dX7_repair_25 : decode cX7_repair 25 = .ok (.ifCond .eq 13, 3) := by decide +kernel
theorem dX7_repair_28 : decode cX7_repair 28 = .ok (.new 48, 3) := by decide +kernel
theorem dX7_repair_31 : decode cX7_repair 31 = .ok (.dup, 1) := by decide +kernel
theorem dX7_repair_32 : decode cX7_repair 32 = .ok (.ldc 141, 2) := by decide +kernel
theorem dX7_repair_34 : decode cX7_repair 34 = .ok (.invokespecial 52, 3) := by decide +kernel
theorem dX7_repair_37 : decode cX7_repair 37 = .ok (.athrow, 1) := by decide +kernel
theorem dX7_repair_38 : decode cX7_repair 38 = .ok (.aload 4, 2) := by decide +kernel
theorem dX7_repair_40 : decode cX7_repair 40 = .ok (.iconst 0, 1) := by decide +kernel
theorem dX7_repair_41 : decode cX7_repair 41 = .ok (.putfield 129, 3) := by decide +kernel
theorem dX7_repair_44 : decode cX7_repair 44 = .ok (.aload 4, 2) := by decide +kernel
theorem dX7_repair_46 : decode cX7_repair 46 = .ok (.iconst 0, 1) := by decide +kernel
theorem dX7_repair_47 : decode cX7_repair 47 = .ok (.putfield 126, 3) := by decide +kernel
theorem dX7_repair_50 : decode cX7_repair 50 = .ok (.aload_n 3, 1) := by decide +kernel
theorem dX7_repair_51 : decode cX7_repair 51 = .ok (.invokevirtual 135, 3) := by decide +kernel
theorem dX7_repair_54 : decode cX7_repair 54 = .ok (.ireturn, 1) := by decide +kernel
theorem dX7_nextOpen_0 : decode cX7_nextOpen 0 = .ok (.aload_n 0, 1) := by decide +kernel
theorem dX7_nextOpen_1 : decode cX7_nextOpen 1 = .ok (.iload_n 1, 1) := by decide +kernel
theorem dX7_nextOpen_2 : decode cX7_nextOpen 2 = .ok (.invokevirtual 110, 3) := by decide +kernel
theorem dX7_nextOpen_5 : decode cX7_nextOpen 5 = .ok (.getfield 143, 3) := by decide +kernel
theorem dX7_nextOpen_8 : decode cX7_nextOpen 8 = .ok (.astore_n 3, 1) := by decide +kernel
theorem dX7_nextOpen_9 : decode cX7_nextOpen 9 = .ok (.iload_n 2, 1) := by decide +kernel
theorem dX7_nextOpen_10 : decode cX7_nextOpen 10 = .ok (.iconst 0, 1) := by decide +kernel
theorem dX7_nextOpen_11 : decode cX7_nextOpen 11 = .ok (.invokestatic 147, 3) := by decide +kernel
theorem dX7_nextOpen_14 : decode cX7_nextOpen 14 = .ok (.istore 4, 2) := by decide +kernel
theorem dX7_nextOpen_16 : decode cX7_nextOpen 16 = .ok (.iload 4, 2) := by decide +kernel
theorem dX7_nextOpen_18 : decode cX7_nextOpen 18 = .ok (.aload_n 3, 1) := by decide +kernel
theorem dX7_nextOpen_19 : decode cX7_nextOpen 19 = .ok (.arraylength, 1) := by decide +kernel
theorem dX7_nextOpen_20 : decode cX7_nextOpen 20 = .ok (.if_icmp .ge 31, 3) := by decide +kernel
theorem dX7_nextOpen_23 : decode cX7_nextOpen 23 = .ok (.aload_n 3, 1) := by decide +kernel
theorem dX7_nextOpen_24 : decode cX7_nextOpen 24 = .ok (.iload 4, 2) := by decide +kernel
theorem dX7_nextOpen_26 : decode cX7_nextOpen 26 = .ok (.aaload, 1) := by decide +kernel
theorem dX7_nextOpen_27 : decode cX7_nextOpen 27 = .ok (.astore 5, 2) := by decide +kernel
theorem dX7_nextOpen_29 : decode cX7_nextOpen 29 = .ok (.aload 5, 2) := by decide +kernel
theorem dX7_nextOpen_31 : decode cX7_nextOpen 31 = .ok (.ifnull 14, 3) := by decide +kernel
theorem dX7_nextOpen_34 : decode cX7_nextOpen 34 = .ok (.aload 5, 2) := by decide +kernel
theorem dX7_nextOpen_36 : decode cX7_nextOpen 36 = .ok (.getfield 129, 3) := by decide +kernel
theorem dX7_nextOpen_39 : decode cX7_nextOpen 39 = .ok (.ifCond .ne 6, 3) := by decide +kernel
theorem dX7_nextOpen_42 : decode cX7_nextOpen 42 = .ok (.iload 4, 2) := by decide +kernel
theorem dX7_nextOpen_44 : decode cX7_nextOpen 44 = .ok (.ireturn, 1) := by decide +kernel
theorem dX7_nextOpen_45 : decode cX7_nextOpen 45 = .ok (.iinc 4 1, 3) := by decide +kernel
theorem dX7_nextOpen_48 : decode cX7_nextOpen 48 = .ok (.goto (-32), 3) := by decide +kernel
theorem dX7_nextOpen_51 : decode cX7_nextOpen 51 = .ok (.new 153, 3) := by decide +kernel
theorem dX7_nextOpen_54 : decode cX7_nextOpen 54 = .ok (.dup, 1) := by decide +kernel
theorem dX7_nextOpen_55 : decode cX7_nextOpen 55 = .ok (.ldc 155, 2) := by decide +kernel
theorem dX7_nextOpen_57 : decode cX7_nextOpen 57 = .ok (.invokespecial 157, 3) := by decide +kernel
theorem dX7_nextOpen_60 : decode cX7_nextOpen 60 = .ok (.athrow, 1) := by decide +kernel
theorem dX7_addMachine_0 : decode cX7_addMachine 0 = .ok (.iload_n 1, 1) := by decide +kernel
theorem dX7_addMachine_1 : decode cX7_addMachine 1 = .ok (.iconst 1, 1) := by decide +kernel
theorem dX7_addMachine_2 : decode cX7_addMachine 2 = .ok (.sipush 999, 3) := by decide +kernel
theorem dX7_addMachine_5 : decode cX7_addMachine 5 = .ok (.invokestatic 40, 3) := by decide +kernel
theorem dX7_addMachine_8 : decode cX7_addMachine 8 = .ok (.aload_n 0, 1) := by decide +kernel
theorem dX7_addMachine_9 : decode cX7_addMachine 9 = .ok (.getfield 158, 3) := by decide +kernel
theorem dX7_addMachine_12 : decode cX7_addMachine 12 = .ok (.istore_n 2, 1) := by decide +kernel
theorem dX7_addMachine_13 : decode cX7_addMachine 13 = .ok (.iload_n 2, 1) := by decide +kernel
theorem dX7_addMachine_14 : decode cX7_addMachine 14 = .ok (.ifCond .lt 12, 3) := by decide +kernel
theorem dX7_addMachine_17 : decode cX7_addMachine 17 = .ok (.iload_n 2, 1) := by decide +kernel
theorem dX7_addMachine_18 : decode cX7_addMachine 18 = .ok (.aload_n 0, 1) := by decide +kernel
theorem dX7_addMachine_19 : decode cX7_addMachine 19 = .ok (.getfield 23, 3) := by decide +kernel
theorem dX7_addMachine_22 : decode cX7_addMachine 22 = .ok (.arraylength, 1) := by decide +kernel
theorem dX7_addMachine_23 : decode cX7_addMachine 23 = .ok (.if_icmp .lt 13, 3) := by decide +kernel
theorem dX7_addMachine_26 : decode cX7_addMachine 26 = .ok (.new 48, 3) := by decide +kernel
theorem dX7_addMachine_29 : decode cX7_addMachine 29 = .ok (.dup, 1) := by decide +kernel
theorem dX7_addMachine_30 : decode cX7_addMachine 30 = .ok (.ldc 161, 2) := by decide +kernel
theorem dX7_addMachine_32 : decode cX7_addMachine 32 = .ok (.invokespecial 52, 3) := by decide +kernel
theorem dX7_addMachine_35 : decode cX7_addMachine 35 = .ok (.athrow, 1) := by decide +kernel
theorem dX7_addMachine_36 : decode cX7_addMachine 36 = .ok (.aload_n 0, 1) := by decide +kernel
theorem dX7_addMachine_37 : decode cX7_addMachine 37 = .ok (.getfield 23, 3) := by decide +kernel
theorem dX7_addMachine_40 : decode cX7_addMachine 40 = .ok (.iload_n 2, 1) := by decide +kernel
theorem dX7_addMachine_41 : decode cX7_addMachine 41 = .ok (.new 21, 3) := by decide +kernel
theorem dX7_addMachine_44 : decode cX7_addMachine 44 = .ok (.dup, 1) := by decide +kernel
theorem dX7_addMachine_45 : decode cX7_addMachine 45 = .ok (.iload_n 1, 1) := by decide +kernel
theorem dX7_addMachine_46 : decode cX7_addMachine 46 = .ok (.invokespecial 163, 3) := by decide +kernel
theorem dX7_addMachine_49 : decode cX7_addMachine 49 = .ok (.aastore, 1) := by decide +kernel
theorem dX7_addMachine_50 : decode cX7_addMachine 50 = .ok (.aload_n 0, 1) := by decide +kernel
theorem dX7_addMachine_51 : decode cX7_addMachine 51 = .ok (.iload_n 2, 1) := by decide +kernel
theorem dX7_addMachine_52 : decode cX7_addMachine 52 = .ok (.iconst 1, 1) := by decide +kernel
theorem dX7_addMachine_53 : decode cX7_addMachine 53 = .ok (.iadd, 1) := by decide +kernel
theorem dX7_addMachine_54 : decode cX7_addMachine 54 = .ok (.putfield 158, 3) := by decide +kernel
theorem dX7_addMachine_57 : decode cX7_addMachine 57 = .ok (.iload_n 2, 1) := by decide +kernel
theorem dX7_addMachine_58 : decode cX7_addMachine 58 = .ok (.ireturn, 1) := by decide +kernel
theorem dX7_mount_0 : decode cX7_mount 0 = .ok (.aload_n 0, 1) := by decide +kernel
theorem dX7_mount_1 : decode cX7_mount 1 = .ok (.iload_n 1, 1) := by decide +kernel
theorem dX7_mount_2 : decode cX7_mount 2 = .ok (.invokevirtual 164, 3) := by decide +kernel
theorem dX7_mount_5 : decode cX7_mount 5 = .ok (.astore_n 3, 1) := by decide +kernel
theorem dX7_mount_6 : decode cX7_mount 6 = .ok (.aload_n 0, 1) := by decide +kernel
theorem dX7_mount_7 : decode cX7_mount 7 = .ok (.iload_n 2, 1) := by decide +kernel
theorem dX7_mount_8 : decode cX7_mount 8 = .ok (.invokevirtual 110, 3) := by decide +kernel
theorem dX7_mount_11 : decode cX7_mount 11 = .ok (.astore 4, 2) := by decide +kernel
theorem dX7_mount_13 : decode cX7_mount 13 = .ok (.aload 4, 2) := by decide +kernel
theorem dX7_mount_15 : decode cX7_mount 15 = .ok (.getfield 168, 3) := by decide +kernel
theorem dX7_mount_18 : decode cX7_mount 18 = .ok (.aload_n 3, 1) := by decide +kernel
theorem dX7_mount_19 : decode cX7_mount 19 = .ok (.getfield 171, 3) := by decide +kernel
theorem dX7_mount_22 : decode cX7_mount 22 = .ok (.if_icmp .le 13, 3) := by decide +kernel
theorem dX7_mount_25 : decode cX7_mount 25 = .ok (.new 172, 3) := by decide +kernel
theorem dX7_mount_28 : decode cX7_mount 28 = .ok (.dup, 1) := by decide +kernel
theorem dX7_mount_29 : decode cX7_mount 29 = .ok (.ldc 174, 2) := by decide +kernel
theorem dX7_mount_31 : decode cX7_mount 31 = .ok (.invokespecial 176, 3) := by decide +kernel
theorem dX7_mount_34 : decode cX7_mount 34 = .ok (.athrow, 1) := by decide +kernel
theorem dX7_mount_35 : decode cX7_mount 35 = .ok (.aload 4, 2) := by decide +kernel
theorem dX7_mount_37 : decode cX7_mount 37 = .ok (.getfield 138, 3) := by decide +kernel
theorem dX7_mount_40 : decode cX7_mount 40 = .ok (.ifCond .eq 13, 3) := by decide +kernel
theorem dX7_mount_43 : decode cX7_mount 43 = .ok (.new 48, 3) := by decide +kernel
theorem dX7_mount_46 : decode cX7_mount 46 = .ok (.dup, 1) := by decide +kernel
theorem dX7_mount_47 : decode cX7_mount 47 = .ok (.ldc 177, 2) := by decide +kernel
theorem dX7_mount_49 : decode cX7_mount 49 = .ok (.invokespecial 52, 3) := by decide +kernel
theorem dX7_mount_52 : decode cX7_mount 52 = .ok (.athrow, 1) := by decide +kernel
theorem dX7_mount_53 : decode cX7_mount 53 = .ok (.aload_n 3, 1) := by decide +kernel
theorem dX7_mount_54 : decode cX7_mount 54 = .ok (.getfield 179, 3) := by decide +kernel
theorem dX7_mount_57 : decode cX7_mount 57 = .ok (.astore 5, 2) := by decide +kernel
theorem dX7_mount_59 : decode cX7_mount 59 = .ok (.aload_n 3, 1) := by decide +kernel
theorem dX7_mount_60 : decode cX7_mount 60 = .ok (.aload 4, 2) := by decide +kernel
theorem dX7_mount_62 : decode cX7_mount 62 = .ok (.putfield 179, 3) := by decide +kernel
theorem dX7_mount_65 : decode cX7_mount 65 = .ok (.aload_n 3, 1) := by decide +kernel
theorem dX7_mount_66 : decode cX7_mount 66 = .ok (.aconst_null, 1) := by decide +kernel
theorem dX7_mount_67 : decode cX7_mount 67 = .ok (.putfield 183, 3) := by decide +kernel
theorem dX7_mount_70 : decode cX7_mount 70 = .ok (.aload 4, 2) := by decide +kernel
theorem dX7_mount_72 : decode cX7_mount 72 = .ok (.iconst 1, 1) := by decide +kernel
theorem dX7_mount_73 : decode cX7_mount 73 = .ok (.putfield 138, 3) := by decide +kernel
theorem dX7_mount_76 : decode cX7_mount 76 = .ok (.aload 5, 2) := by decide +kernel
theorem dX7_mount_78 : decode cX7_mount 78 = .ok (.ifnonnull 5, 3) := by decide +kernel
theorem dX7_mount_81 : decode cX7_mount 81 = .ok (.iconst (-1), 1) := by decide +kernel
theorem dX7_mount_82 : decode cX7_mount 82 = .ok (.ireturn, 1) := by decide +kernel
theorem dX7_mount_83 : decode cX7_mount 83 = .ok (.aload 5, 2) := by decide +kernel
theorem dX7_mount_85 : decode cX7_mount 85 = .ok (.iconst 0, 1) := by decide +kernel
theorem dX7_mount_86 : decode cX7_mount 86 = .ok (.putfield 138, 3) := by decide +kernel
theorem dX7_mount_89 : decode cX7_mount 89 = .ok (.aload 5, 2) := by decide +kernel
theorem dX7_mount_91 : decode cX7_mount 91 = .ok (.getfield 187, 3) := by decide +kernel
theorem dX7_mount_94 : decode cX7_mount 94 = .ok (.ireturn, 1) := by decide +kernel
theorem dX7_run_0 : decode cX7_run 0 = .ok (.aload_n 0, 1) := by decide +kernel
theorem dX7_run_1 : decode cX7_run 1 = .ok (.iload_n 1, 1) := by decide +kernel
theorem dX7_run_2 : decode cX7_run 2 = .ok (.invokevirtual 164, 3) := by decide +kernel
theorem dX7_run_5 : decode cX7_run 5 = .ok (.astore_n 3, 1) := by decide +kernel
theorem dX7_run_6 : decode cX7_run 6 = .ok (.aload_n 0, 1) := by decide +kernel
theorem dX7_run_7 : decode cX7_run 7 = .ok (.iload_n 2, 1) := by decide +kernel
theorem dX7_run_8 : decode cX7_run 8 = .ok (.invokevirtual 190, 3) := by decide +kernel
theorem dX7_run_11 : decode cX7_run 11 = .ok (.astore 4, 2) := by decide +kernel
theorem dX7_run_13 : decode cX7_run 13 = .ok (.aload_n 3, 1) := by decide +kernel
theorem dX7_run_14 : decode cX7_run 14 = .ok (.getfield 179, 3) := by decide +kernel
theorem dX7_run_17 : decode cX7_run 17 = .ok (.aload 4, 2) := by decide +kernel
theorem dX7_run_19 : decode cX7_run 19 = .ok (.getfield 194, 3) := by decide +kernel
theorem dX7_run_22 : decode cX7_run 22 = .ok (.if_acmp .eq 13, 3) := by decide +kernel
theorem dX7_run_25 : decode cX7_run 25 = .ok (.new 172, 3) := by decide +kernel
theorem dX7_run_28 : decode cX7_run 28 = .ok (.dup, 1) := by decide +kernel
theorem dX7_run_29 : decode cX7_run 29 = .ok (.ldc 195, 2) := by decide +kernel
theorem dX7_run_31 : decode cX7_run 31 = .ok (.invokespecial 176, 3) := by decide +kernel
theorem dX7_run_34 : decode cX7_run 34 = .ok (.athrow, 1) := by decide +kernel
theorem dX7_run_35 : decode cX7_run 35 = .ok (.aload 4, 2) := by decide +kernel
theorem dX7_run_37 : decode cX7_run 37 = .ok (.invokevirtual 197, 3) := by decide +kernel
theorem dX7_run_40 : decode cX7_run 40 = .ok (.ifCond .ne 13, 3) := by decide +kernel
theorem dX7_run_43 : decode cX7_run 43 = .ok (.new 48, 3) := by decide +kernel
theorem dX7_run_46 : decode cX7_run 46 = .ok (.dup, 1) := by decide +kernel
theorem dX7_run_47 : decode cX7_run 47 = .ok (.ldc 200, 2) := by decide +kernel
theorem dX7_run_49 : decode cX7_run 49 = .ok (.invokespecial 52, 3) := by decide +kernel
theorem dX7_run_52 : decode cX7_run 52 = .ok (.athrow, 1) := by decide +kernel
theorem dX7_run_53 : decode cX7_run 53 = .ok (.aload_n 3, 1) := by decide +kernel
theorem dX7_run_54 : decode cX7_run 54 = .ok (.aload 4, 2) := by decide +kernel
theorem dX7_run_56 : decode cX7_run 56 = .ok (.putfield 183, 3) := by decide +kernel
theorem dX7_run_59 : decode cX7_run 59 = .ok (.aload 4, 2) := by decide +kernel
theorem dX7_run_61 : decode cX7_run 61 = .ok (.getfield 194, 3) := by decide +kernel
theorem dX7_run_64 : decode cX7_run 64 = .ok (.invokevirtual 202, 3) := by decide +kernel
theorem dX7_run_67 : decode cX7_run 67 = .ok (.ireturn, 1) := by decide +kernel
theorem dX7_order_0 : decode cX7_order 0 = .ok (.aload_n 0, 1) := by decide +kernel
theorem dX7_order_1 : decode cX7_order 1 = .ok (.iload_n 1, 1) := by decide +kernel
theorem dX7_order_2 : decode cX7_order 2 = .ok (.invokevirtual 110, 3) := by decide +kernel
theorem dX7_order_5 : decode cX7_order 5 = .ok (.astore 5, 2) := by decide +kernel
theorem dX7_order_7 : decode cX7_order 7 = .ok (.aload_n 0, 1) := by decide +kernel
theorem dX7_order_8 : decode cX7_order 8 = .ok (.iload_n 2, 1) := by decide +kernel
theorem dX7_order_9 : decode cX7_order 9 = .ok (.invokevirtual 58, 3) := by decide +kernel
theorem dX7_order_12 : decode cX7_order 12 = .ok (.astore 6, 2) := by decide +kernel
theorem dX7_order_14 : decode cX7_order 14 = .ok (.iload_n 3, 1) := by decide +kernel
theorem dX7_order_15 : decode cX7_order 15 = .ok (.iconst 1, 1) := by decide +kernel
theorem dX7_order_16 : decode cX7_order 16 = .ok (.sipush 5000, 3) := by decide +kernel
theorem dX7_order_19 : decode cX7_order 19 = .ok (.invokestatic 40, 3) := by decide +kernel
theorem dX7_order_22 : decode cX7_order 22 = .ok (.iload 4, 2) := by decide +kernel
theorem dX7_order_24 : decode cX7_order 24 = .ok (.iconst 0, 1) := by decide +kernel
theorem dX7_order_25 : decode cX7_order 25 = .ok (.bipush 50, 2) := by decide +kernel
theorem dX7_order_27 : decode cX7_order 27 = .ok (.invokestatic 40, 3) := by decide +kernel
theorem dX7_order_30 : decode cX7_order 30 = .ok (.aload_n 0, 1) := by decide +kernel
theorem dX7_order_31 : decode cX7_order 31 = .ok (.getfield 205, 3) := by decide +kernel
theorem dX7_order_34 : decode cX7_order 34 = .ok (.istore 7, 2) := by decide +kernel
theorem dX7_order_36 : decode cX7_order 36 = .ok (.iload 7, 2) := by decide +kernel
theorem dX7_order_38 : decode cX7_order 38 = .ok (.ifCond .lt 13, 3) := by decide +kernel
theorem dX7_order_41 : decode cX7_order 41 = .ok (.iload 7, 2) := by decide +kernel
theorem dX7_order_43 : decode cX7_order 43 = .ok (.aload_n 0, 1) := by decide +kernel
theorem dX7_order_44 : decode cX7_order 44 = .ok (.getfield 29, 3) := by decide +kernel
theorem dX7_order_47 : decode cX7_order 47 = .ok (.arraylength, 1) := by decide +kernel
theorem dX7_order_48 : decode cX7_order 48 = .ok (.if_icmp .lt 13, 3) := by decide +kernel
theorem dX7_order_51 : decode cX7_order 51 = .ok (.new 48, 3) := by decide +kernel
theorem dX7_order_54 : decode cX7_order 54 = .ok (.dup, 1) := by decide +kernel
theorem dX7_order_55 : decode cX7_order 55 = .ok (.ldc 208, 2) := by decide +kernel
theorem dX7_order_57 : decode cX7_order 57 = .ok (.invokespecial 52, 3) := by decide +kernel
theorem dX7_order_60 : decode cX7_order 60 = .ok (.athrow, 1) := by decide +kernel
theorem dX7_order_61 : decode cX7_order 61 = .ok (.aload_n 0, 1) := by decide +kernel
theorem dX7_order_62 : decode cX7_order 62 = .ok (.getfield 29, 3) := by decide +kernel
theorem dX7_order_65 : decode cX7_order 65 = .ok (.iload 7, 2) := by decide +kernel
theorem dX7_order_67 : decode cX7_order 67 = .ok (.new 27, 3) := by decide +kernel
theorem dX7_order_70 : decode cX7_order 70 = .ok (.dup, 1) := by decide +kernel
theorem dX7_order_71 : decode cX7_order 71 = .ok (.aload 5, 2) := by decide +kernel
theorem dX7_order_73 : decode cX7_order 73 = .ok (.aload 6, 2) := by decide +kernel
theorem dX7_order_75 : decode cX7_order 75 = .ok (.iload_n 3, 1) := by decide +kernel
theorem dX7_order_76 : decode cX7_order 76 = .ok (.iload 4, 2) := by decide +kernel
theorem dX7_order_78 : decode cX7_order 78 = .ok (.invokespecial 210, 3) := by decide +kernel
theorem dX7_order_81 : decode cX7_order 81 = .ok (.aastore, 1) := by decide +kernel
theorem dX7_order_82 : decode cX7_order 82 = .ok (.aload_n 0, 1) := by decide +kernel
theorem dX7_order_83 : decode cX7_order 83 = .ok (.iload 7, 2) := by decide +kernel
theorem dX7_order_85 : decode cX7_order 85 = .ok (.iconst 1, 1) := by decide +kernel
theorem dX7_order_86 : decode cX7_order 86 = .ok (.iadd, 1) := by decide +kernel
theorem dX7_order_87 : decode cX7_order 87 = .ok (.putfield 205, 3) := by decide +kernel
theorem dX7_order_90 : decode cX7_order 90 = .ok (.iload 7, 2) := by decide +kernel
theorem dX7_order_92 : decode cX7_order 92 = .ok (.ireturn, 1) := by decide +kernel
theorem dX7_lacks_0 : decode cX7_lacks 0 = .ok (.aload_n 0, 1) := by decide +kernel
theorem dX7_lacks_1 : decode cX7_lacks 1 = .ok (.iload_n 1, 1) := by decide +kernel
theorem dX7_lacks_2 : decode cX7_lacks 2 = .ok (.invokevirtual 190, 3) := by decide +kernel
theorem dX7_lacks_5 : decode cX7_lacks 5 = .ok (.getfield 213, 3) := by decide +kernel
theorem dX7_lacks_8 : decode cX7_lacks 8 = .ok (.ireturn, 1) := by decide +kernel
theorem dX7_hoursNeeded_0 : decode cX7_hoursNeeded 0 = .ok (.aload_n 0, 1) := by decide +kernel
theorem dX7_hoursNeeded_1 : decode cX7_hoursNeeded 1 = .ok (.iload_n 1, 1) := by decide +kernel
theorem dX7_hoursNeeded_2 : decode cX7_hoursNeeded 2 = .ok (.invokevirtual 190, 3) := by decide +kernel
theorem dX7_hoursNeeded_5 : decode cX7_hoursNeeded 5 = .ok (.astore_n 2, 1) := by decide +kernel
theorem dX7_hoursNeeded_6 : decode cX7_hoursNeeded 6 = .ok (.aload_n 2, 1) := by decide +kernel
theorem dX7_hoursNeeded_7 : decode cX7_hoursNeeded 7 = .ok (.invokevirtual 197, 3) := by decide +kernel
theorem dX7_hoursNeeded_10 : decode cX7_hoursNeeded 10 = .ok (.ifCond .ne 5, 3) := by decide +kernel
theorem dX7_hoursNeeded_13 : decode cX7_hoursNeeded 13 = .ok (.iconst 0, 1) := by decide +kernel
theorem dX7_hoursNeeded_14 : decode cX7_hoursNeeded 14 = .ok (.ireturn, 1) := by decide +kernel
theorem dX7_hoursNeeded_15 : decode cX7_hoursNeeded 15 = .ok (.aload_n 2, 1) := by decide +kernel
theorem dX7_hoursNeeded_16 : decode cX7_hoursNeeded 16 = .ok (.getfield 194, 3) := by decide +kernel
theorem dX7_hoursNeeded_19 : decode cX7_hoursNeeded 19 = .ok (.invokevirtual 135, 3) := by decide +kernel
theorem dX7_hoursNeeded_22 : decode cX7_hoursNeeded 22 = .ok (.istore_n 3, 1) := by decide +kernel
theorem dX7_hoursNeeded_23 : decode cX7_hoursNeeded 23 = .ok (.iload_n 3, 1) := by decide +kernel
theorem dX7_hoursNeeded_24 : decode cX7_hoursNeeded 24 = .ok (.iconst 1, 1) := by decide +kernel
theorem dX7_hoursNeeded_25 : decode cX7_hoursNeeded 25 = .ok (.if_icmp .ge 13, 3) := by decide +kernel
theorem dX7_hoursNeeded_28 : decode cX7_hoursNeeded 28 = .ok (.new 153, 3) := by decide +kernel
theorem dX7_hoursNeeded_31 : decode cX7_hoursNeeded 31 = .ok (.dup, 1) := by decide +kernel
theorem dX7_hoursNeeded_32 : decode cX7_hoursNeeded 32 = .ok (.ldc 216, 2) := by decide +kernel
theorem dX7_hoursNeeded_34 : decode cX7_hoursNeeded 34 = .ok (.invokespecial 157, 3) := by decide +kernel
theorem dX7_hoursNeeded_37 : decode cX7_hoursNeeded 37 = .ok (.athrow, 1) := by decide +kernel
theorem dX7_hoursNeeded_38 : decode cX7_hoursNeeded 38 = .ok (.aload_n 2, 1) := by decide +kernel
theorem dX7_hoursNeeded_39 : decode cX7_hoursNeeded 39 = .ok (.getfield 213, 3) := by decide +kernel
theorem dX7_hoursNeeded_42 : decode cX7_hoursNeeded 42 = .ok (.iload_n 3, 1) := by decide +kernel
theorem dX7_hoursNeeded_43 : decode cX7_hoursNeeded 43 = .ok (.invokestatic 218, 3) := by decide +kernel
theorem dX7_hoursNeeded_46 : decode cX7_hoursNeeded 46 = .ok (.aload_n 2, 1) := by decide +kernel
theorem dX7_hoursNeeded_47 : decode cX7_hoursNeeded 47 = .ok (.getfield 194, 3) := by decide +kernel
theorem dX7_hoursNeeded_50 : decode cX7_hoursNeeded 50 = .ok (.invokevirtual 202, 3) := by decide +kernel
theorem dX7_hoursNeeded_53 : decode cX7_hoursNeeded 53 = .ok (.invokestatic 218, 3) := by decide +kernel
theorem dX7_hoursNeeded_56 : decode cX7_hoursNeeded 56 = .ok (.ireturn, 1) := by decide +kernel
theorem dX7_shots_0 : decode cX7_shots 0 = .ok (.aload_n 0, 1) := by decide +kernel
theorem dX7_shots_1 : decode cX7_shots 1 = .ok (.iload_n 1, 1) := by decide +kernel
theorem dX7_shots_2 : decode cX7_shots 2 = .ok (.invokevirtual 190, 3) := by decide +kernel
theorem dX7_shots_5 : decode cX7_shots 5 = .ok (.getfield 221, 3) := by decide +kernel
theorem dX7_shots_8 : decode cX7_shots 8 = .ok (.ireturn, 1) := by decide +kernel
theorem dX7_regrindIn_0 : decode cX7_regrindIn 0 = .ok (.aload_n 0, 1) := by decide +kernel
theorem dX7_regrindIn_1 : decode cX7_regrindIn 1 = .ok (.iload_n 1, 1) := by decide +kernel
theorem dX7_regrindIn_2 : decode cX7_regrindIn 2 = .ok (.invokevirtual 190, 3) := by decide +kernel
theorem dX7_regrindIn_5 : decode cX7_regrindIn 5 = .ok (.getfield 224, 3) := by decide +kernel
theorem dX7_regrindIn_8 : decode cX7_regrindIn 8 = .ok (.lreturn, 1) := by decide +kernel
theorem dX7_regrindByShots_0 : decode cX7_regrindByShots 0 = .ok (.aload_n 0, 1) := by decide +kernel
theorem dX7_regrindByShots_1 : decode cX7_regrindByShots 1 = .ok (.iload_n 1, 1) := by decide +kernel
theorem dX7_regrindByShots_2 : decode cX7_regrindByShots 2 = .ok (.invokevirtual 190, 3) := by decide +kernel
theorem dX7_regrindByShots_5 : decode cX7_regrindByShots 5 = .ok (.invokevirtual 228, 3) := by decide +kernel
theorem dX7_regrindByShots_8 : decode cX7_regrindByShots 8 = .ok (.lreturn, 1) := by decide +kernel
theorem dX7_greatestShare_0 : decode cX7_greatestShare 0 = .ok (.aload_n 0, 1) := by decide +kernel
theorem dX7_greatestShare_1 : decode cX7_greatestShare 1 = .ok (.iload_n 1, 1) := by decide +kernel
theorem dX7_greatestShare_2 : decode cX7_greatestShare 2 = .ok (.invokevirtual 190, 3) := by decide +kernel
theorem dX7_greatestShare_5 : decode cX7_greatestShare 5 = .ok (.astore_n 2, 1) := by decide +kernel
theorem dX7_greatestShare_6 : decode cX7_greatestShare 6 = .ok (.aload_n 2, 1) := by decide +kernel
theorem dX7_greatestShare_7 : decode cX7_greatestShare 7 = .ok (.getfield 221, 3) := by decide +kernel
theorem dX7_greatestShare_10 : decode cX7_greatestShare 10 = .ok (.iconst 1, 1) := by decide +kernel
theorem dX7_greatestShare_11 : decode cX7_greatestShare 11 = .ok (.if_icmp .ge 13, 3) := by decide +kernel
theorem dX7_greatestShare_14 : decode cX7_greatestShare 14 = .ok (.new 153, 3) := by decide +kernel
theorem dX7_greatestShare_17 : decode cX7_greatestShare 17 = .ok (.dup, 1) := by decide +kernel
theorem dX7_greatestShare_18 : decode cX7_greatestShare 18 = .ok (.ldc 232, 2) := by decide +kernel
theorem dX7_greatestShare_20 : decode cX7_greatestShare 20 = .ok (.invokespecial 157, 3) := by decide +kernel
theorem dX7_greatestShare_23 : decode cX7_greatestShare 23 = .ok (.athrow, 1) := by decide +kernel
theorem dX7_greatestShare_24 : decode cX7_greatestShare 24 = .ok (.aload_n 2, 1) := by decide +kernel
theorem dX7_greatestShare_25 : decode cX7_greatestShare 25 = .ok (.getfield 234, 3) := by decide +kernel
theorem dX7_greatestShare_28 : decode cX7_greatestShare 28 = .ok (.ireturn, 1) := by decide +kernel
theorem dX7_pass_0 : decode cX7_pass 0 = .ok (.iload_n 1, 1) := by decide +kernel
theorem dX7_pass_1 : decode cX7_pass 1 = .ok (.iconst 1, 1) := by decide +kernel
theorem dX7_pass_2 : decode cX7_pass 2 = .ok (.bipush 24, 2) := by decide +kernel
theorem dX7_pass_4 : decode cX7_pass 4 = .ok (.invokestatic 40, 3) := by decide +kernel
theorem dX7_pass_7 : decode cX7_pass 7 = .ok (.aload_n 0, 1) := by decide +kernel
theorem dX7_pass_8 : decode cX7_pass 8 = .ok (.getfield 237, 3) := by decide +kernel
theorem dX7_pass_11 : decode cX7_pass 11 = .ok (.iload_n 1, 1) := by decide +kernel
theorem dX7_pass_12 : decode cX7_pass 12 = .ok (.iadd, 1) := by decide +kernel
theorem dX7_pass_13 : decode cX7_pass 13 = .ok (.sipush 300, 3) := by decide +kernel
theorem dX7_pass_16 : decode cX7_pass 16 = .ok (.if_icmp .le 13, 3) := by decide +kernel
theorem dX7_pass_19 : decode cX7_pass 19 = .ok (.new 48, 3) := by decide +kernel
theorem dX7_pass_22 : decode cX7_pass 22 = .ok (.dup, 1) := by decide +kernel
theorem dX7_pass_23 : decode cX7_pass 23 = .ok (.ldc 240, 2) := by decide +kernel
theorem dX7_pass_25 : decode cX7_pass 25 = .ok (.invokespecial 52, 3) := by decide +kernel
theorem dX7_pass_28 : decode cX7_pass 28 = .ok (.athrow, 1) := by decide +kernel
theorem dX7_pass_29 : decode cX7_pass 29 = .ok (.iconst 0, 1) := by decide +kernel
theorem dX7_pass_30 : decode cX7_pass 30 = .ok (.istore_n 2, 1) := by decide +kernel
theorem dX7_pass_31 : decode cX7_pass 31 = .ok (.iconst 0, 1) := by decide +kernel
theorem dX7_pass_32 : decode cX7_pass 32 = .ok (.istore_n 3, 1) := by decide +kernel
theorem dX7_pass_33 : decode cX7_pass 33 = .ok (.iload_n 3, 1) := by decide +kernel
theorem dX7_pass_34 : decode cX7_pass 34 = .ok (.iload_n 1, 1) := by decide +kernel
theorem dX7_pass_35 : decode cX7_pass 35 = .ok (.if_icmp .ge 16, 3) := by decide +kernel
theorem dX7_pass_38 : decode cX7_pass 38 = .ok (.iload_n 2, 1) := by decide +kernel
theorem dX7_pass_39 : decode cX7_pass 39 = .ok (.aload_n 0, 1) := by decide +kernel
theorem dX7_pass_40 : decode cX7_pass 40 = .ok (.invokevirtual 242, 3) := by decide +kernel
theorem dX7_pass_43 : decode cX7_pass 43 = .ok (.iadd, 1) := by decide +kernel
theorem dX7_pass_44 : decode cX7_pass 44 = .ok (.istore_n 2, 1) := by decide +kernel
theorem dX7_pass_45 : decode cX7_pass 45 = .ok (.iinc 3 1, 3) := by decide +kernel
theorem dX7_pass_48 : decode cX7_pass 48 = .ok (.goto (-15), 3) := by decide +kernel
theorem dX7_pass_51 : decode cX7_pass 51 = .ok (.iload_n 2, 1) := by decide +kernel
theorem dX7_pass_52 : decode cX7_pass 52 = .ok (.ireturn, 1) := by decide +kernel
theorem dX7_hours_0 : decode cX7_hours 0 = .ok (.aload_n 0, 1) := by decide +kernel
theorem dX7_hours_1 : decode cX7_hours 1 = .ok (.getfield 237, 3) := by decide +kernel
theorem dX7_hours_4 : decode cX7_hours 4 = .ok (.ireturn, 1) := by decide +kernel
theorem dX7_regrindShare_0 : decode cX7_regrindShare 0 = .ok (.aload_n 0, 1) := by decide +kernel
theorem dX7_regrindShare_1 : decode cX7_regrindShare 1 = .ok (.getfield 245, 3) := by decide +kernel
theorem dX7_regrindShare_4 : decode cX7_regrindShare 4 = .ok (.lconst 1, 1) := by decide +kernel
theorem dX7_regrindShare_5 : decode cX7_regrindShare 5 = .ok (.lcmp, 1) := by decide +kernel
theorem dX7_regrindShare_6 : decode cX7_regrindShare 6 = .ok (.ifCond .ge 13, 3) := by decide +kernel
theorem dX7_regrindShare_9 : decode cX7_regrindShare 9 = .ok (.new 248, 3) := by decide +kernel
theorem dX7_regrindShare_12 : decode cX7_regrindShare 12 = .ok (.dup, 1) := by decide +kernel
theorem dX7_regrindShare_13 : decode cX7_regrindShare 13 = .ok (.ldc 250, 2) := by decide +kernel
theorem dX7_regrindShare_15 : decode cX7_regrindShare 15 = .ok (.invokespecial 252, 3) := by decide +kernel
theorem dX7_regrindShare_18 : decode cX7_regrindShare 18 = .ok (.athrow, 1) := by decide +kernel
theorem dX7_regrindShare_19 : decode cX7_regrindShare 19 = .ok (.aload_n 0, 1) := by decide +kernel
theorem dX7_regrindShare_20 : decode cX7_regrindShare 20 = .ok (.getfield 253, 3) := by decide +kernel
theorem dX7_regrindShare_23 : decode cX7_regrindShare 23 = .ok (.l2f, 1) := by decide +kernel
theorem dX7_regrindShare_24 : decode cX7_regrindShare 24 = .ok (.aload_n 0, 1) := by decide +kernel
theorem dX7_regrindShare_25 : decode cX7_regrindShare 25 = .ok (.getfield 245, 3) := by decide +kernel
theorem dX7_regrindShare_28 : decode cX7_regrindShare 28 = .ok (.l2f, 1) := by decide +kernel
theorem dX7_regrindShare_29 : decode cX7_regrindShare 29 = .ok (.fdiv, 1) := by decide +kernel
theorem dX7_regrindShare_30 : decode cX7_regrindShare 30 = .ok (.freturn, 1) := by decide +kernel
theorem dX7_meanParts_0 : decode cX7_meanParts 0 = .ok (.aload_n 0, 1) := by decide +kernel
theorem dX7_meanParts_1 : decode cX7_meanParts 1 = .ok (.getfield 256, 3) := by decide +kernel
theorem dX7_meanParts_4 : decode cX7_meanParts 4 = .ok (.iconst 1, 1) := by decide +kernel
theorem dX7_meanParts_5 : decode cX7_meanParts 5 = .ok (.if_icmp .ge 13, 3) := by decide +kernel
theorem dX7_meanParts_8 : decode cX7_meanParts 8 = .ok (.new 248, 3) := by decide +kernel
theorem dX7_meanParts_11 : decode cX7_meanParts 11 = .ok (.dup, 1) := by decide +kernel
theorem dX7_meanParts_12 : decode cX7_meanParts 12 = .ok (.ldc 250, 2) := by decide +kernel
theorem dX7_meanParts_14 : decode cX7_meanParts 14 = .ok (.invokespecial 252, 3) := by decide +kernel
theorem dX7_meanParts_17 : decode cX7_meanParts 17 = .ok (.athrow, 1) := by decide +kernel
theorem dX7_meanParts_18 : decode cX7_meanParts 18 = .ok (.aload_n 0, 1) := by decide +kernel
theorem dX7_meanParts_19 : decode cX7_meanParts 19 = .ok (.getfield 259, 3) := by decide +kernel
theorem dX7_meanParts_22 : decode cX7_meanParts 22 = .ok (.i2d, 1) := by decide +kernel
theorem dX7_meanParts_23 : decode cX7_meanParts 23 = .ok (.aload_n 0, 1) := by decide +kernel
theorem dX7_meanParts_24 : decode cX7_meanParts 24 = .ok (.getfield 256, 3) := by decide +kernel
theorem dX7_meanParts_27 : decode cX7_meanParts 27 = .ok (.i2d, 1) := by decide +kernel
theorem dX7_meanParts_28 : decode cX7_meanParts 28 = .ok (.ddiv, 1) := by decide +kernel
theorem dX7_meanParts_29 : decode cX7_meanParts 29 = .ok (.dreturn, 1) := by decide +kernel
theorem dX7_requireRange_0 : decode cX7_requireRange 0 = .ok (.iload_n 0, 1) := by decide +kernel
theorem dX7_requireRange_1 : decode cX7_requireRange 1 = .ok (.iload_n 1, 1) := by decide +kernel
theorem dX7_requireRange_2 : decode cX7_requireRange 2 = .ok (.if_icmp .lt 8, 3) := by decide +kernel
theorem dX7_requireRange_5 : decode cX7_requireRange 5 = .ok (.iload_n 0, 1) := by decide +kernel
theorem dX7_requireRange_6 : decode cX7_requireRange 6 = .ok (.iload_n 2, 1) := by decide +kernel
theorem dX7_requireRange_7 : decode cX7_requireRange 7 = .ok (.if_icmp .le 14, 3) := by decide +kernel
theorem dX7_requireRange_10 : decode cX7_requireRange 10 = .ok (.new 262, 3) := by decide +kernel
theorem dX7_requireRange_13 : decode cX7_requireRange 13 = .ok (.dup, 1) := by decide +kernel
theorem dX7_requireRange_14 : decode cX7_requireRange 14 = .ok (.ldc_w 264, 3) := by decide +kernel
theorem dX7_requireRange_17 : decode cX7_requireRange 17 = .ok (.invokespecial 266, 3) := by decide +kernel
theorem dX7_requireRange_20 : decode cX7_requireRange 20 = .ok (.athrow, 1) := by decide +kernel
theorem dX7_requireRange_21 : decode cX7_requireRange 21 = .ok (.return_, 1) := by decide +kernel
theorem dX7_resinOf_0 : decode cX7_resinOf 0 = .ok (.iload_n 1, 1) := by decide +kernel
theorem dX7_resinOf_1 : decode cX7_resinOf 1 = .ok (.ifCond .lt 12, 3) := by decide +kernel
theorem dX7_resinOf_4 : decode cX7_resinOf 4 = .ok (.iload_n 1, 1) := by decide +kernel
theorem dX7_resinOf_5 : decode cX7_resinOf 5 = .ok (.aload_n 0, 1) := by decide +kernel
theorem dX7_resinOf_6 : decode cX7_resinOf 6 = .ok (.getfield 11, 3) := by decide +kernel
theorem dX7_resinOf_9 : decode cX7_resinOf 9 = .ok (.arraylength, 1) := by decide +kernel
theorem dX7_resinOf_10 : decode cX7_resinOf 10 = .ok (.if_icmp .lt 7, 3) := by decide +kernel
theorem dX7_resinOf_13 : decode cX7_resinOf 13 = .ok (.aconst_null, 1) := by decide +kernel
theorem dX7_resinOf_14 : decode cX7_resinOf 14 = .ok (.goto 9, 3) := by decide +kernel
theorem dX7_resinOf_17 : decode cX7_resinOf 17 = .ok (.aload_n 0, 1) := by decide +kernel
theorem dX7_resinOf_18 : decode cX7_resinOf 18 = .ok (.getfield 11, 3) := by decide +kernel
theorem dX7_resinOf_21 : decode cX7_resinOf 21 = .ok (.iload_n 1, 1) := by decide +kernel
theorem dX7_resinOf_22 : decode cX7_resinOf 22 = .ok (.aaload, 1) := by decide +kernel
theorem dX7_resinOf_23 : decode cX7_resinOf 23 = .ok (.astore_n 2, 1) := by decide +kernel
theorem dX7_resinOf_24 : decode cX7_resinOf 24 = .ok (.aload_n 2, 1) := by decide +kernel
theorem dX7_resinOf_25 : decode cX7_resinOf 25 = .ok (.ifnonnull 14, 3) := by decide +kernel
theorem dX7_resinOf_28 : decode cX7_resinOf 28 = .ok (.new 267, 3) := by decide +kernel
theorem dX7_resinOf_31 : decode cX7_resinOf 31 = .ok (.dup, 1) := by decide +kernel
theorem dX7_resinOf_32 : decode cX7_resinOf 32 = .ok (.ldc_w 269, 3) := by decide +kernel
theorem dX7_resinOf_35 : decode cX7_resinOf 35 = .ok (.invokespecial 271, 3) := by decide +kernel
theorem dX7_resinOf_38 : decode cX7_resinOf 38 = .ok (.athrow, 1) := by decide +kernel
theorem dX7_resinOf_39 : decode cX7_resinOf 39 = .ok (.aload_n 2, 1) := by decide +kernel
theorem dX7_resinOf_40 : decode cX7_resinOf 40 = .ok (.areturn, 1) := by decide +kernel
theorem dX7_lotOf_0 : decode cX7_lotOf 0 = .ok (.aload_n 0, 1) := by decide +kernel
theorem dX7_lotOf_1 : decode cX7_lotOf 1 = .ok (.getfield 36, 3) := by decide +kernel
theorem dX7_lotOf_4 : decode cX7_lotOf 4 = .ok (.iload_n 1, 1) := by decide +kernel
theorem dX7_lotOf_5 : decode cX7_lotOf 5 = .ok (.invokevirtual 272, 3) := by decide +kernel
theorem dX7_lotOf_8 : decode cX7_lotOf 8 = .ok (.astore_n 2, 1) := by decide +kernel
theorem dX7_lotOf_9 : decode cX7_lotOf 9 = .ok (.aload_n 2, 1) := by decide +kernel
theorem dX7_lotOf_10 : decode cX7_lotOf 10 = .ok (.ifnonnull 14, 3) := by decide +kernel
theorem dX7_lotOf_13 : decode cX7_lotOf 13 = .ok (.new 267, 3) := by decide +kernel
theorem dX7_lotOf_16 : decode cX7_lotOf 16 = .ok (.dup, 1) := by decide +kernel
theorem dX7_lotOf_17 : decode cX7_lotOf 17 = .ok (.ldc_w 275, 3) := by decide +kernel
theorem dX7_lotOf_20 : decode cX7_lotOf 20 = .ok (.invokespecial 271, 3) := by decide +kernel
theorem dX7_lotOf_23 : decode cX7_lotOf 23 = .ok (.athrow, 1) := by decide +kernel
theorem dX7_lotOf_24 : decode cX7_lotOf 24 = .ok (.aload_n 2, 1) := by decide +kernel
theorem dX7_lotOf_25 : decode cX7_lotOf 25 = .ok (.areturn, 1) := by decide +kernel
theorem dX7_mouldOf_0 : decode cX7_mouldOf 0 = .ok (.iload_n 1, 1) := by decide +kernel
theorem dX7_mouldOf_1 : decode cX7_mouldOf 1 = .ok (.ifCond .lt 12, 3) := by decide +kernel
theorem dX7_mouldOf_4 : decode cX7_mouldOf 4 = .ok (.iload_n 1, 1) := by decide +kernel
theorem dX7_mouldOf_5 : decode cX7_mouldOf 5 = .ok (.aload_n 0, 1) := by decide +kernel
theorem dX7_mouldOf_6 : decode cX7_mouldOf 6 = .ok (.getfield 17, 3) := by decide +kernel
theorem dX7_mouldOf_9 : decode cX7_mouldOf 9 = .ok (.arraylength, 1) := by decide +kernel
theorem dX7_mouldOf_10 : decode cX7_mouldOf 10 = .ok (.if_icmp .lt 7, 3) := by decide +kernel
theorem dX7_mouldOf_13 : decode cX7_mouldOf 13 = .ok (.aconst_null, 1) := by decide +kernel
theorem dX7_mouldOf_14 : decode cX7_mouldOf 14 = .ok (.goto 9, 3) := by decide +kernel
theorem dX7_mouldOf_17 : decode cX7_mouldOf 17 = .ok (.aload_n 0, 1) := by decide +kernel
theorem dX7_mouldOf_18 : decode cX7_mouldOf 18 = .ok (.getfield 17, 3) := by decide +kernel
theorem dX7_mouldOf_21 : decode cX7_mouldOf 21 = .ok (.iload_n 1, 1) := by decide +kernel
theorem dX7_mouldOf_22 : decode cX7_mouldOf 22 = .ok (.aaload, 1) := by decide +kernel
theorem dX7_mouldOf_23 : decode cX7_mouldOf 23 = .ok (.astore_n 2, 1) := by decide +kernel
theorem dX7_mouldOf_24 : decode cX7_mouldOf 24 = .ok (.aload_n 2, 1) := by decide +kernel
theorem dX7_mouldOf_25 : decode cX7_mouldOf 25 = .ok (.ifnonnull 14, 3) := by decide +kernel
theorem dX7_mouldOf_28 : decode cX7_mouldOf 28 = .ok (.new 267, 3) := by decide +kernel
theorem dX7_mouldOf_31 : decode cX7_mouldOf 31 = .ok (.dup, 1) := by decide +kernel
theorem dX7_mouldOf_32 : decode cX7_mouldOf 32 = .ok (.ldc_w 277, 3) := by decide +kernel
theorem dX7_mouldOf_35 : decode cX7_mouldOf 35 = .ok (.invokespecial 271, 3) := by decide +kernel
theorem dX7_mouldOf_38 : decode cX7_mouldOf 38 = .ok (.athrow, 1) := by decide +kernel
theorem dX7_mouldOf_39 : decode cX7_mouldOf 39 = .ok (.aload_n 2, 1) := by decide +kernel
theorem dX7_mouldOf_40 : decode cX7_mouldOf 40 = .ok (.areturn, 1) := by decide +kernel
theorem dX7_cavityOf_0 : decode cX7_cavityOf 0 = .ok (.aload_n 0, 1) := by decide +kernel
theorem dX7_cavityOf_1 : decode cX7_cavityOf 1 = .ok (.getfield 143, 3) := by decide +kernel
theorem dX7_cavityOf_4 : decode cX7_cavityOf 4 = .ok (.astore_n 2, 1) := by decide +kernel
theorem dX7_cavityOf_5 : decode cX7_cavityOf 5 = .ok (.iload_n 1, 1) := by decide +kernel
theorem dX7_cavityOf_6 : decode cX7_cavityOf 6 = .ok (.ifCond .lt 9, 3) := by decide +kernel
theorem dX7_cavityOf_9 : decode cX7_cavityOf 9 = .ok (.iload_n 1, 1) := by decide +kernel
theorem dX7_cavityOf_10 : decode cX7_cavityOf 10 = .ok (.aload_n 2, 1) := by decide +kernel
theorem dX7_cavityOf_11 : decode cX7_cavityOf 11 = .ok (.arraylength, 1) := by decide +kernel
theorem dX7_cavityOf_12 : decode cX7_cavityOf 12 = .ok (.if_icmp .lt 7, 3) := by decide +kernel
theorem dX7_cavityOf_15 : decode cX7_cavityOf 15 = .ok (.aconst_null, 1) := by decide +kernel
theorem dX7_cavityOf_16 : decode cX7_cavityOf 16 = .ok (.goto 6, 3) := by decide +kernel
theorem dX7_cavityOf_19 : decode cX7_cavityOf 19 = .ok (.aload_n 2, 1) := by decide +kernel
theorem dX7_cavityOf_20 : decode cX7_cavityOf 20 = .ok (.iload_n 1, 1) := by decide +kernel
theorem dX7_cavityOf_21 : decode cX7_cavityOf 21 = .ok (.aaload, 1) := by decide +kernel
theorem dX7_cavityOf_22 : decode cX7_cavityOf 22 = .ok (.astore_n 3, 1) := by decide +kernel
theorem dX7_cavityOf_23 : decode cX7_cavityOf 23 = .ok (.aload_n 3, 1) := by decide +kernel
theorem dX7_cavityOf_24 : decode cX7_cavityOf 24 = .ok (.ifnonnull 14, 3) := by decide +kernel
theorem dX7_cavityOf_27 : decode cX7_cavityOf 27 = .ok (.new 267, 3) := by decide +kernel
theorem dX7_cavityOf_30 : decode cX7_cavityOf 30 = .ok (.dup, 1) := by decide +kernel
theorem dX7_cavityOf_31 : decode cX7_cavityOf 31 = .ok (.ldc_w 279, 3) := by decide +kernel
theorem dX7_cavityOf_34 : decode cX7_cavityOf 34 = .ok (.invokespecial 271, 3) := by decide +kernel
theorem dX7_cavityOf_37 : decode cX7_cavityOf 37 = .ok (.athrow, 1) := by decide +kernel
theorem dX7_cavityOf_38 : decode cX7_cavityOf 38 = .ok (.aload_n 3, 1) := by decide +kernel
theorem dX7_cavityOf_39 : decode cX7_cavityOf 39 = .ok (.areturn, 1) := by decide +kernel
theorem dX7_machineOf_0 : decode cX7_machineOf 0 = .ok (.iload_n 1, 1) := by decide +kernel
theorem dX7_machineOf_1 : decode cX7_machineOf 1 = .ok (.ifCond .lt 12, 3) := by decide +kernel
theorem dX7_machineOf_4 : decode cX7_machineOf 4 = .ok (.iload_n 1, 1) := by decide +kernel
theorem dX7_machineOf_5 : decode cX7_machineOf 5 = .ok (.aload_n 0, 1) := by decide +kernel
theorem dX7_machineOf_6 : decode cX7_machineOf 6 = .ok (.getfield 23, 3) := by decide +kernel
theorem dX7_machineOf_9 : decode cX7_machineOf 9 = .ok (.arraylength, 1) := by decide +kernel
theorem dX7_machineOf_10 : decode cX7_machineOf 10 = .ok (.if_icmp .lt 7, 3) := by decide +kernel
theorem dX7_machineOf_13 : decode cX7_machineOf 13 = .ok (.aconst_null, 1) := by decide +kernel
theorem dX7_machineOf_14 : decode cX7_machineOf 14 = .ok (.goto 9, 3) := by decide +kernel
theorem dX7_machineOf_17 : decode cX7_machineOf 17 = .ok (.aload_n 0, 1) := by decide +kernel
theorem dX7_machineOf_18 : decode cX7_machineOf 18 = .ok (.getfield 23, 3) := by decide +kernel
theorem dX7_machineOf_21 : decode cX7_machineOf 21 = .ok (.iload_n 1, 1) := by decide +kernel
theorem dX7_machineOf_22 : decode cX7_machineOf 22 = .ok (.aaload, 1) := by decide +kernel
theorem dX7_machineOf_23 : decode cX7_machineOf 23 = .ok (.astore_n 2, 1) := by decide +kernel
theorem dX7_machineOf_24 : decode cX7_machineOf 24 = .ok (.aload_n 2, 1) := by decide +kernel
theorem dX7_machineOf_25 : decode cX7_machineOf 25 = .ok (.ifnonnull 14, 3) := by decide +kernel
theorem dX7_machineOf_28 : decode cX7_machineOf 28 = .ok (.new 267, 3) := by decide +kernel
theorem dX7_machineOf_31 : decode cX7_machineOf 31 = .ok (.dup, 1) := by decide +kernel
theorem dX7_machineOf_32 : decode cX7_machineOf 32 = .ok (.ldc_w 281, 3) := by decide +kernel
theorem dX7_machineOf_35 : decode cX7_machineOf 35 = .ok (.invokespecial 271, 3) := by decide +kernel
theorem dX7_machineOf_38 : decode cX7_machineOf 38 = .ok (.athrow, 1) := by decide +kernel
theorem dX7_machineOf_39 : decode cX7_machineOf 39 = .ok (.aload_n 2, 1) := by decide +kernel
theorem dX7_machineOf_40 : decode cX7_machineOf 40 = .ok (.areturn, 1) := by decide +kernel
theorem dX7_orderOf_0 : decode cX7_orderOf 0 = .ok (.iload_n 1, 1) := by decide +kernel
theorem dX7_orderOf_1 : decode cX7_orderOf 1 = .ok (.ifCond .lt 12, 3) := by decide +kernel
theorem dX7_orderOf_4 : decode cX7_orderOf 4 = .ok (.iload_n 1, 1) := by decide +kernel
theorem dX7_orderOf_5 : decode cX7_orderOf 5 = .ok (.aload_n 0, 1) := by decide +kernel
theorem dX7_orderOf_6 : decode cX7_orderOf 6 = .ok (.getfield 29, 3) := by decide +kernel
theorem dX7_orderOf_9 : decode cX7_orderOf 9 = .ok (.arraylength, 1) := by decide +kernel
theorem dX7_orderOf_10 : decode cX7_orderOf 10 = .ok (.if_icmp .lt 7, 3) := by decide +kernel
theorem dX7_orderOf_13 : decode cX7_orderOf 13 = .ok (.aconst_null, 1) := by decide +kernel
theorem dX7_orderOf_14 : decode cX7_orderOf 14 = .ok (.goto 9, 3) := by decide +kernel
theorem dX7_orderOf_17 : decode cX7_orderOf 17 = .ok (.aload_n 0, 1) := by decide +kernel
theorem dX7_orderOf_18 : decode cX7_orderOf 18 = .ok (.getfield 29, 3) := by decide +kernel
theorem dX7_orderOf_21 : decode cX7_orderOf 21 = .ok (.iload_n 1, 1) := by decide +kernel
theorem dX7_orderOf_22 : decode cX7_orderOf 22 = .ok (.aaload, 1) := by decide +kernel
theorem dX7_orderOf_23 : decode cX7_orderOf 23 = .ok (.astore_n 2, 1) := by decide +kernel
theorem dX7_orderOf_24 : decode cX7_orderOf 24 = .ok (.aload_n 2, 1) := by decide +kernel
theorem dX7_orderOf_25 : decode cX7_orderOf 25 = .ok (.ifnonnull 14, 3) := by decide +kernel
theorem dX7_orderOf_28 : decode cX7_orderOf 28 = .ok (.new 267, 3) := by decide +kernel
theorem dX7_orderOf_31 : decode cX7_orderOf 31 = .ok (.dup, 1) := by decide +kernel
theorem dX7_orderOf_32 : decode cX7_orderOf 32 = .ok (.ldc_w 283, 3) := by decide +kernel
theorem dX7_orderOf_35 : decode cX7_orderOf 35 = .ok (.invokespecial 271, 3) := by decide +kernel
theorem dX7_orderOf_38 : decode cX7_orderOf 38 = .ok (.athrow, 1) := by decide +kernel
theorem dX7_orderOf_39 : decode cX7_orderOf 39 = .ok (.aload_n 2, 1) := by decide +kernel
theorem dX7_orderOf_40 : decode cX7_orderOf 40 = .ok (.areturn, 1) := by decide +kernel
theorem dX7_dividedUp_0 : decode cX7_dividedUp 0 = .ok (.iload_n 1, 1) := by decide +kernel
theorem dX7_dividedUp_1 : decode cX7_dividedUp 1 = .ok (.iconst 1, 1) := by decide +kernel
theorem dX7_dividedUp_2 : decode cX7_dividedUp 2 = .ok (.if_icmp .ge 7, 3) := by decide +kernel
theorem dX7_dividedUp_5 : decode cX7_dividedUp 5 = .ok (.iconst 0, 1) := by decide +kernel
theorem dX7_dividedUp_6 : decode cX7_dividedUp 6 = .ok (.goto 10, 3) := by decide +kernel
theorem dX7_dividedUp_9 : decode cX7_dividedUp 9 = .ok (.iload_n 0, 1) := by decide +kernel
theorem dX7_dividedUp_10 : decode cX7_dividedUp 10 = .ok (.iload_n 1, 1) := by decide +kernel
theorem dX7_dividedUp_11 : decode cX7_dividedUp 11 = .ok (.iadd, 1) := by decide +kernel
theorem dX7_dividedUp_12 : decode cX7_dividedUp 12 = .ok (.iconst 1, 1) := by decide +kernel
theorem dX7_dividedUp_13 : decode cX7_dividedUp 13 = .ok (.isub, 1) := by decide +kernel
theorem dX7_dividedUp_14 : decode cX7_dividedUp 14 = .ok (.iload_n 1, 1) := by decide +kernel
theorem dX7_dividedUp_15 : decode cX7_dividedUp 15 = .ok (.idiv, 1) := by decide +kernel
theorem dX7_dividedUp_16 : decode cX7_dividedUp 16 = .ok (.ireturn, 1) := by decide +kernel
theorem dX7_passOneHour_0 : decode cX7_passOneHour 0 = .ok (.iconst 0, 1) := by decide +kernel
theorem dX7_passOneHour_1 : decode cX7_passOneHour 1 = .ok (.istore_n 1, 1) := by decide +kernel
theorem dX7_passOneHour_2 : decode cX7_passOneHour 2 = .ok (.iconst 0, 1) := by decide +kernel
theorem dX7_passOneHour_3 : decode cX7_passOneHour 3 = .ok (.istore_n 2, 1) := by decide +kernel
theorem dX7_passOneHour_4 : decode cX7_passOneHour 4 = .ok (.iload_n 2, 1) := by decide +kernel
theorem dX7_passOneHour_5 : decode cX7_passOneHour 5 = .ok (.aload_n 0, 1) := by decide +kernel
theorem dX7_passOneHour_6 : decode cX7_passOneHour 6 = .ok (.getfield 23, 3) := by decide +kernel
theorem dX7_passOneHour_9 : decode cX7_passOneHour 9 = .ok (.arraylength, 1) := by decide +kernel
theorem dX7_passOneHour_10 : decode cX7_passOneHour 10 = .ok (.if_icmp .ge 28, 3) := by decide +kernel
theorem dX7_passOneHour_13 : decode cX7_passOneHour 13 = .ok (.aload_n 0, 1) := by decide +kernel
theorem dX7_passOneHour_14 : decode cX7_passOneHour 14 = .ok (.getfield 23, 3) := by decide +kernel
theorem dX7_passOneHour_17 : decode cX7_passOneHour 17 = .ok (.iload_n 2, 1) := by decide +kernel
theorem dX7_passOneHour_18 : decode cX7_passOneHour 18 = .ok (.aaload, 1) := by decide +kernel
theorem dX7_passOneHour_19 : decode cX7_passOneHour 19 = .ok (.astore_n 3, 1) := by decide +kernel
theorem dX7_passOneHour_20 : decode cX7_passOneHour 20 = .ok (.aload_n 3, 1) := by decide +kernel
theorem dX7_passOneHour_21 : decode cX7_passOneHour 21 = .ok (.ifnull 11, 3) := by decide +kernel
theorem dX7_passOneHour_24 : decode cX7_passOneHour 24 = .ok (.iload_n 1, 1) := by decide +kernel
theorem dX7_passOneHour_25 : decode cX7_passOneHour 25 = .ok (.aload_n 0, 1) := by decide +kernel
theorem dX7_passOneHour_26 : decode cX7_passOneHour 26 = .ok (.aload_n 3, 1) := by decide +kernel
theorem dX7_passOneHour_27 : decode cX7_passOneHour 27 = .ok (.invokevirtual 285, 3) := by decide +kernel
theorem dX7_passOneHour_30 : decode cX7_passOneHour 30 = .ok (.iadd, 1) := by decide +kernel
theorem dX7_passOneHour_31 : decode cX7_passOneHour 31 = .ok (.istore_n 1, 1) := by decide +kernel
theorem dX7_passOneHour_32 : decode cX7_passOneHour 32 = .ok (.iinc 2 1, 3) := by decide +kernel
theorem dX7_passOneHour_35 : decode cX7_passOneHour 35 = .ok (.goto (-31), 3) := by decide +kernel
theorem dX7_passOneHour_38 : decode cX7_passOneHour 38 = .ok (.aload_n 0, 1) := by decide +kernel
theorem dX7_passOneHour_39 : decode cX7_passOneHour 39 = .ok (.getfield 36, 3) := by decide +kernel
theorem dX7_passOneHour_42 : decode cX7_passOneHour 42 = .ok (.invokevirtual 289, 3) := by decide +kernel
theorem dX7_passOneHour_45 : decode cX7_passOneHour 45 = .ok (.aload_n 0, 1) := by decide +kernel
theorem dX7_passOneHour_46 : decode cX7_passOneHour 46 = .ok (.dup, 1) := by decide +kernel
theorem dX7_passOneHour_47 : decode cX7_passOneHour 47 = .ok (.getfield 237, 3) := by decide +kernel
theorem dX7_passOneHour_50 : decode cX7_passOneHour 50 = .ok (.iconst 1, 1) := by decide +kernel
theorem dX7_passOneHour_51 : decode cX7_passOneHour 51 = .ok (.iadd, 1) := by decide +kernel
theorem dX7_passOneHour_52 : decode cX7_passOneHour 52 = .ok (.putfield 237, 3) := by decide +kernel
theorem dX7_passOneHour_55 : decode cX7_passOneHour 55 = .ok (.iload_n 1, 1) := by decide +kernel
theorem dX7_passOneHour_56 : decode cX7_passOneHour 56 = .ok (.ireturn, 1) := by decide +kernel
theorem dX7_workOneHour_0 : decode cX7_workOneHour 0 = .ok (.aload_n 1, 1) := by decide +kernel
theorem dX7_workOneHour_1 : decode cX7_workOneHour 1 = .ok (.getfield 183, 3) := by decide +kernel
theorem dX7_workOneHour_4 : decode cX7_workOneHour 4 = .ok (.astore_n 2, 1) := by decide +kernel
theorem dX7_workOneHour_5 : decode cX7_workOneHour 5 = .ok (.aload_n 2, 1) := by decide +kernel
theorem dX7_workOneHour_6 : decode cX7_workOneHour 6 = .ok (.ifnull 14, 3) := by decide +kernel
theorem dX7_workOneHour_9 : decode cX7_workOneHour 9 = .ok (.aload_n 1, 1) := by decide +kernel
theorem dX7_workOneHour_10 : decode cX7_workOneHour 10 = .ok (.getfield 179, 3) := by decide +kernel
theorem dX7_workOneHour_13 : decode cX7_workOneHour 13 = .ok (.aload_n 2, 1) := by decide +kernel
theorem dX7_workOneHour_14 : decode cX7_workOneHour 14 = .ok (.getfield 194, 3) := by decide +kernel
theorem dX7_workOneHour_17 : decode cX7_workOneHour 17 = .ok (.if_acmp .eq 5, 3) := by decide +kernel
theorem dX7_workOneHour_20 : decode cX7_workOneHour 20 = .ok (.iconst 0, 1) := by decide +kernel
theorem dX7_workOneHour_21 : decode cX7_workOneHour 21 = .ok (.ireturn, 1) := by decide +kernel
theorem dX7_workOneHour_22 : decode cX7_workOneHour 22 = .ok (.aload_n 2, 1) := by decide +kernel
theorem dX7_workOneHour_23 : decode cX7_workOneHour 23 = .ok (.getfield 213, 3) := by decide +kernel
theorem dX7_workOneHour_26 : decode cX7_workOneHour 26 = .ok (.istore_n 3, 1) := by decide +kernel
theorem dX7_workOneHour_27 : decode cX7_workOneHour 27 = .ok (.aload_n 2, 1) := by decide +kernel
theorem dX7_workOneHour_28 : decode cX7_workOneHour 28 = .ok (.getfield 194, 3) := by decide +kernel
theorem dX7_workOneHour_31 : decode cX7_workOneHour 31 = .ok (.invokevirtual 202, 3) := by decide +kernel
theorem dX7_workOneHour_34 : decode cX7_workOneHour 34 = .ok (.istore 4, 2) := by decide +kernel
theorem dX7_workOneHour_36 : decode cX7_workOneHour 36 = .ok (.iconst 1, 1) := by decide +kernel
theorem dX7_workOneHour_37 : decode cX7_workOneHour 37 = .ok (.istore 5, 2) := by decide +kernel
theorem dX7_workOneHour_39 : decode cX7_workOneHour 39 = .ok (.iconst 0, 1) := by decide +kernel
theorem dX7_workOneHour_40 : decode cX7_workOneHour 40 = .ok (.istore 6, 2) := by decide +kernel
theorem dX7_workOneHour_42 : decode cX7_workOneHour 42 = .ok (.iload 6, 2) := by decide +kernel
theorem dX7_workOneHour_44 : decode cX7_workOneHour 44 = .ok (.iload 4, 2) := by decide +kernel
theorem dX7_workOneHour_46 : decode cX7_workOneHour 46 = .ok (.if_icmp .ge 28, 3) := by decide +kernel
theorem dX7_workOneHour_49 : decode cX7_workOneHour 49 = .ok (.iload 5, 2) := by decide +kernel
theorem dX7_workOneHour_51 : decode cX7_workOneHour 51 = .ok (.ifCond .eq 23, 3) := by decide +kernel
theorem dX7_workOneHour_54 : decode cX7_workOneHour 54 = .ok (.aload_n 2, 1) := by decide +kernel
theorem dX7_workOneHour_55 : decode cX7_workOneHour 55 = .ok (.invokevirtual 197, 3) := by decide +kernel
theorem dX7_workOneHour_58 : decode cX7_workOneHour 58 = .ok (.ifCond .eq 16, 3) := by decide +kernel
theorem dX7_workOneHour_61 : decode cX7_workOneHour 61 = .ok (.aload_n 0, 1) := by decide +kernel
theorem dX7_workOneHour_62 : decode cX7_workOneHour 62 = .ok (.aload_n 2, 1) := by decide +kernel
theorem dX7_workOneHour_63 : decode cX7_workOneHour 63 = .ok (.invokevirtual 292, 3) := by decide +kernel
theorem dX7_workOneHour_66 : decode cX7_workOneHour 66 = .ok (.istore 5, 2) := by decide +kernel
theorem dX7_workOneHour_68 : decode cX7_workOneHour 68 = .ok (.iinc 6 1, 3) := by decide +kernel
theorem dX7_workOneHour_71 : decode cX7_workOneHour 71 = .ok (.goto (-29), 3) := by decide +kernel
theorem dX7_workOneHour_74 : decode cX7_workOneHour 74 = .ok (.iload_n 3, 1) := by decide +kernel
theorem dX7_workOneHour_75 : decode cX7_workOneHour 75 = .ok (.aload_n 2, 1) := by decide +kernel
theorem dX7_workOneHour_76 : decode cX7_workOneHour 76 = .ok (.getfield 213, 3) := by decide +kernel
theorem dX7_workOneHour_79 : decode cX7_workOneHour 79 = .ok (.isub, 1) := by decide +kernel
theorem dX7_workOneHour_80 : decode cX7_workOneHour 80 = .ok (.ireturn, 1) := by decide +kernel
theorem dX7_makeShot_0 : decode cX7_makeShot 0 = .ok (.aload_n 1, 1) := by decide +kernel
theorem dX7_makeShot_1 : decode cX7_makeShot 1 = .ok (.getfield 194, 3) := by decide +kernel
theorem dX7_makeShot_4 : decode cX7_makeShot 4 = .ok (.astore_n 2, 1) := by decide +kernel
theorem dX7_makeShot_5 : decode cX7_makeShot 5 = .ok (.aload_n 1, 1) := by decide +kernel
theorem dX7_makeShot_6 : decode cX7_makeShot 6 = .ok (.getfield 296, 3) := by decide +kernel
theorem dX7_makeShot_9 : decode cX7_makeShot 9 = .ok (.astore_n 3, 1) := by decide +kernel
theorem dX7_makeShot_10 : decode cX7_makeShot 10 = .ok (.aload_n 2, 1) := by decide +kernel
theorem dX7_makeShot_11 : decode cX7_makeShot 11 = .ok (.invokevirtual 135, 3) := by decide +kernel
theorem dX7_makeShot_14 : decode cX7_makeShot 14 = .ok (.istore 4, 2) := by decide +kernel
theorem dX7_makeShot_16 : decode cX7_makeShot 16 = .ok (.iload 4, 2) := by decide +kernel
theorem dX7_makeShot_18 : decode cX7_makeShot 18 = .ok (.iconst 1, 1) := by decide +kernel
theorem dX7_makeShot_19 : decode cX7_makeShot 19 = .ok (.if_icmp .ge 5, 3) := by decide +kernel
theorem dX7_makeShot_22 : decode cX7_makeShot 22 = .ok (.iconst 0, 1) := by decide +kernel
theorem dX7_makeShot_23 : decode cX7_makeShot 23 = .ok (.ireturn, 1) := by decide +kernel
theorem dX7_makeShot_24 : decode cX7_makeShot 24 = .ok (.iload 4, 2) := by decide +kernel
theorem dX7_makeShot_26 : decode cX7_makeShot 26 = .ok (.aload_n 2, 1) := by decide +kernel
theorem dX7_makeShot_27 : decode cX7_makeShot 27 = .ok (.getfield 300, 3) := by decide +kernel
theorem dX7_makeShot_30 : decode cX7_makeShot 30 = .ok (.imul, 1) := by decide +kernel
theorem dX7_makeShot_31 : decode cX7_makeShot 31 = .ok (.aload_n 2, 1) := by decide +kernel
theorem dX7_makeShot_32 : decode cX7_makeShot 32 = .ok (.getfield 303, 3) := by decide +kernel
theorem dX7_makeShot_35 : decode cX7_makeShot 35 = .ok (.iadd, 1) := by decide +kernel
theorem dX7_makeShot_36 : decode cX7_makeShot 36 = .ok (.istore 5, 2) := by decide +kernel
theorem dX7_makeShot_38 : decode cX7_makeShot 38 = .ok (.iload 5, 2) := by decide +kernel
theorem dX7_makeShot_40 : decode cX7_makeShot 40 = .ok (.aload_n 1, 1) := by decide +kernel
theorem dX7_makeShot_41 : decode cX7_makeShot 41 = .ok (.getfield 306, 3) := by decide +kernel
theorem dX7_makeShot_44 : decode cX7_makeShot 44 = .ok (.imul, 1) := by decide +kernel
theorem dX7_makeShot_45 : decode cX7_makeShot 45 = .ok (.bipush 100, 2) := by decide +kernel
theorem dX7_makeShot_47 : decode cX7_makeShot 47 = .ok (.idiv, 1) := by decide +kernel
theorem dX7_makeShot_48 : decode cX7_makeShot 48 = .ok (.aload_n 3, 1) := by decide +kernel
theorem dX7_makeShot_49 : decode cX7_makeShot 49 = .ok (.getfield 99, 3) := by decide +kernel
theorem dX7_makeShot_52 : decode cX7_makeShot 52 = .ok (.invokestatic 309, 3) := by decide +kernel
theorem dX7_makeShot_55 : decode cX7_makeShot 55 = .ok (.istore 6, 2) := by decide +kernel
theorem dX7_makeShot_57 : decode cX7_makeShot 57 = .ok (.aload_n 0, 1) := by decide +kernel
theorem dX7_makeShot_58 : decode cX7_makeShot 58 = .ok (.getfield 36, 3) := by decide +kernel
theorem dX7_makeShot_61 : decode cX7_makeShot 61 = .ok (.aload_n 3, 1) := by decide +kernel
theorem dX7_makeShot_62 : decode cX7_makeShot 62 = .ok (.invokevirtual 95, 3) := by decide +kernel
theorem dX7_makeShot_65 : decode cX7_makeShot 65 = .ok (.iload 5, 2) := by decide +kernel
theorem dX7_makeShot_67 : decode cX7_makeShot 67 = .ok (.iload 6, 2) := by decide +kernel
theorem dX7_makeShot_69 : decode cX7_makeShot 69 = .ok (.isub, 1) := by decide +kernel
theorem dX7_makeShot_70 : decode cX7_makeShot 70 = .ok (.if_icmp .ge 5, 3) := by decide +kernel
theorem dX7_makeShot_73 : decode cX7_makeShot 73 = .ok (.iconst 0, 1) := by decide +kernel
theorem dX7_makeShot_74 : decode cX7_makeShot 74 = .ok (.ireturn, 1) := by decide +kernel
theorem dX7_makeShot_75 : decode cX7_makeShot 75 = .ok (.aload_n 0, 1) := by decide +kernel
theorem dX7_makeShot_76 : decode cX7_makeShot 76 = .ok (.getfield 36, 3) := by decide +kernel
theorem dX7_makeShot_79 : decode cX7_makeShot 79 = .ok (.aload_n 3, 1) := by decide +kernel
theorem dX7_makeShot_80 : decode cX7_makeShot 80 = .ok (.iload 5, 2) := by decide +kernel
theorem dX7_makeShot_82 : decode cX7_makeShot 82 = .ok (.iload 6, 2) := by decide +kernel
theorem dX7_makeShot_84 : decode cX7_makeShot 84 = .ok (.isub, 1) := by decide +kernel
theorem dX7_makeShot_85 : decode cX7_makeShot 85 = .ok (.invokevirtual 312, 3) := by decide +kernel
theorem dX7_makeShot_88 : decode cX7_makeShot 88 = .ok (.aload_n 2, 1) := by decide +kernel
theorem dX7_makeShot_89 : decode cX7_makeShot 89 = .ok (.invokevirtual 315, 3) := by decide +kernel
theorem dX7_makeShot_92 : decode cX7_makeShot 92 = .ok (.iload 4, 2) := by decide +kernel
theorem dX7_makeShot_94 : decode cX7_makeShot 94 = .ok (.aload_n 1, 1) := by decide +kernel
theorem dX7_makeShot_95 : decode cX7_makeShot 95 = .ok (.getfield 213, 3) := by decide +kernel
theorem dX7_makeShot_98 : decode cX7_makeShot 98 = .ok (.invokestatic 309, 3) := by decide +kernel
theorem dX7_makeShot_101 : decode cX7_makeShot 101 = .ok (.istore 7, 2) := by decide +kernel
theorem dX7_makeShot_103 : decode cX7_makeShot 103 = .ok (.aload_n 2, 1) := by decide +kernel
theorem dX7_makeShot_104 : decode cX7_makeShot 104 = .ok (.getfield 303, 3) := by decide +kernel
theorem dX7_makeShot_107 : decode cX7_makeShot 107 = .ok (.iload 4, 2) := by decide +kernel
theorem dX7_makeShot_109 : decode cX7_makeShot 109 = .ok (.iload 7, 2) := by decide +kernel
theorem dX7_makeShot_111 : decode cX7_makeShot 111 = .ok (.isub, 1) := by decide +kernel
theorem dX7_makeShot_112 : decode cX7_makeShot 112 = .ok (.aload_n 2, 1) := by decide +kernel
theorem dX7_makeShot_113 : decode cX7_makeShot 113 = .ok (.getfield 300, 3) := by decide +kernel
theorem dX7_makeShot_116 : decode cX7_makeShot 116 = .ok (.imul, 1) := by decide +kernel
theorem dX7_makeShot_117 : decode cX7_makeShot 117 = .ok (.iadd, 1) := by decide +kernel
theorem dX7_makeShot_118 : decode cX7_makeShot 118 = .ok (.istore 8, 2) := by decide +kernel
theorem dX7_makeShot_120 : decode cX7_makeShot 120 = .ok (.aload_n 3, 1) := by decide +kernel
theorem dX7_makeShot_121 : decode cX7_makeShot 121 = .ok (.dup, 1) := by decide +kernel
theorem dX7_makeShot_122 : decode cX7_makeShot 122 = .ok (.getfield 99, 3) := by decide +kernel
theorem dX7_makeShot_125 : decode cX7_makeShot 125 = .ok (.iload 8, 2) := by decide +kernel
theorem dX7_makeShot_127 : decode cX7_makeShot 127 = .ok (.iload 6, 2) := by decide +kernel
theorem dX7_makeShot_129 : decode cX7_makeShot 129 = .ok (.isub, 1) := by decide +kernel
theorem dX7_makeShot_130 : decode cX7_makeShot 130 = .ok (.iadd, 1) := by decide +kernel
theorem dX7_makeShot_131 : decode cX7_makeShot 131 = .ok (.putfield 99, 3) := by decide +kernel
theorem dX7_makeShot_134 : decode cX7_makeShot 134 = .ok (.aload_n 1, 1) := by decide +kernel
theorem dX7_makeShot_135 : decode cX7_makeShot 135 = .ok (.iload 7, 2) := by decide +kernel
theorem dX7_makeShot_137 : decode cX7_makeShot 137 = .ok (.iload 6, 2) := by decide +kernel
theorem dX7_makeShot_139 : decode cX7_makeShot 139 = .ok (.iload 5, 2) := by decide +kernel
theorem dX7_makeShot_141 : decode cX7_makeShot 141 = .ok (.invokevirtual 318, 3) := by decide +kernel
theorem dX7_makeShot_144 : decode cX7_makeShot 144 = .ok (.aload_n 0, 1) := by decide +kernel
theorem dX7_makeShot_145 : decode cX7_makeShot 145 = .ok (.dup, 1) := by decide +kernel
theorem dX7_makeShot_146 : decode cX7_makeShot 146 = .ok (.getfield 256, 3) := by decide +kernel
theorem dX7_makeShot_149 : decode cX7_makeShot 149 = .ok (.iconst 1, 1) := by decide +kernel
theorem dX7_makeShot_150 : decode cX7_makeShot 150 = .ok (.iadd, 1) := by decide +kernel
theorem dX7_makeShot_151 : decode cX7_makeShot 151 = .ok (.putfield 256, 3) := by decide +kernel
theorem dX7_makeShot_154 : decode cX7_makeShot 154 = .ok (.aload_n 0, 1) := by decide +kernel
theorem dX7_makeShot_155 : decode cX7_makeShot 155 = .ok (.dup, 1) := by decide +kernel
theorem dX7_makeShot_156 : decode cX7_makeShot 156 = .ok (.getfield 259, 3) := by decide +kernel
theorem dX7_makeShot_159 : decode cX7_makeShot 159 = .ok (.iload 7, 2) := by decide +kernel
theorem dX7_makeShot_161 : decode cX7_makeShot 161 = .ok (.iadd, 1) := by decide +kernel
theorem dX7_makeShot_162 : decode cX7_makeShot 162 = .ok (.putfield 259, 3) := by decide +kernel
theorem dX7_makeShot_165 : decode cX7_makeShot 165 = .ok (.aload_n 0, 1) := by decide +kernel
theorem dX7_makeShot_166 : decode cX7_makeShot 166 = .ok (.dup, 1) := by decide +kernel
theorem dX7_makeShot_167 : decode cX7_makeShot 167 = .ok (.getfield 245, 3) := by decide +kernel
theorem dX7_makeShot_170 : decode cX7_makeShot 170 = .ok (.iload 5, 2) := by decide +kernel
theorem dX7_makeShot_172 : decode cX7_makeShot 172 = .ok (.i2l, 1) := by decide +kernel
theorem dX7_makeShot_173 : decode cX7_makeShot 173 = .ok (.ladd, 1) := by decide +kernel
theorem dX7_makeShot_174 : decode cX7_makeShot 174 = .ok (.putfield 245, 3) := by decide +kernel
theorem dX7_makeShot_177 : decode cX7_makeShot 177 = .ok (.aload_n 0, 1) := by decide +kernel
theorem dX7_makeShot_178 : decode cX7_makeShot 178 = .ok (.dup, 1) := by decide +kernel
theorem dX7_makeShot_179 : decode cX7_makeShot 179 = .ok (.getfield 253, 3) := by decide +kernel
theorem dX7_makeShot_182 : decode cX7_makeShot 182 = .ok (.iload 6, 2) := by decide +kernel
theorem dX7_makeShot_184 : decode cX7_makeShot 184 = .ok (.i2l, 1) := by decide +kernel
theorem dX7_makeShot_185 : decode cX7_makeShot 185 = .ok (.ladd, 1) := by decide +kernel
theorem dX7_makeShot_186 : decode cX7_makeShot 186 = .ok (.putfield 253, 3) := by decide +kernel
theorem dX7_makeShot_189 : decode cX7_makeShot 189 = .ok (.iconst 1, 1) := by decide +kernel
theorem dX7_makeShot_190 : decode cX7_makeShot 190 = .ok (.ireturn, 1) := by decide +kernel
end
section
theorem dX8_init_0 : decode cX8_init 0 = .ok (.aload_n 0, 1) := by decide +kernel
theorem dX8_init_1 : decode cX8_init 1 = .ok (.invokespecial 1, 3) := by decide +kernel
theorem dX8_init_4 : decode cX8_init 4 = .ok (.aload_n 0, 1) := by decide +kernel
theorem dX8_init_5 : decode cX8_init 5 = .ok (.iconst 4, 1) := by decide +kernel
theorem dX8_init_6 : decode cX8_init 6 = .ok (.newarray .int, 2) := by decide +kernel
theorem dX8_init_8 : decode cX8_init 8 = .ok (.putfield 9, 3) := by decide +kernel
theorem dX8_init_11 : decode cX8_init 11 = .ok (.aload_n 0, 1) := by decide +kernel
theorem dX8_init_12 : decode cX8_init 12 = .ok (.iconst 4, 1) := by decide +kernel
theorem dX8_init_13 : decode cX8_init 13 = .ok (.newarray .int, 2) := by decide +kernel
theorem dX8_init_15 : decode cX8_init 15 = .ok (.putfield 13, 3) := by decide +kernel
theorem dX8_init_18 : decode cX8_init 18 = .ok (.aload_n 0, 1) := by decide +kernel
theorem dX8_init_19 : decode cX8_init 19 = .ok (.iconst 3, 1) := by decide +kernel
theorem dX8_init_20 : decode cX8_init 20 = .ok (.newarray .int, 2) := by decide +kernel
theorem dX8_init_22 : decode cX8_init 22 = .ok (.putfield 16, 3) := by decide +kernel
theorem dX8_init_25 : decode cX8_init 25 = .ok (.aload_n 0, 1) := by decide +kernel
theorem dX8_init_26 : decode cX8_init 26 = .ok (.iconst 3, 1) := by decide +kernel
theorem dX8_init_27 : decode cX8_init 27 = .ok (.newarray .int, 2) := by decide +kernel
theorem dX8_init_29 : decode cX8_init 29 = .ok (.putfield 19, 3) := by decide +kernel
theorem dX8_init_32 : decode cX8_init 32 = .ok (.aload_n 0, 1) := by decide +kernel
theorem dX8_init_33 : decode cX8_init 33 = .ok (.iconst 3, 1) := by decide +kernel
theorem dX8_init_34 : decode cX8_init 34 = .ok (.newarray .int, 2) := by decide +kernel
theorem dX8_init_36 : decode cX8_init 36 = .ok (.putfield 22, 3) := by decide +kernel
theorem dX8_init_39 : decode cX8_init 39 = .ok (.aload_n 0, 1) := by decide +kernel
theorem dX8_init_40 : decode cX8_init 40 = .ok (.iconst 5, 1) := by decide +kernel
theorem dX8_init_41 : decode cX8_init 41 = .ok (.newarray .int, 2) := by decide +kernel
theorem dX8_init_43 : decode cX8_init 43 = .ok (.putfield 25, 3) := by decide +kernel
theorem dX8_init_46 : decode cX8_init 46 = .ok (.aload_n 0, 1) := by decide +kernel
theorem dX8_init_47 : decode cX8_init 47 = .ok (.iconst 5, 1) := by decide +kernel
theorem dX8_init_48 : decode cX8_init 48 = .ok (.newarray .int, 2) := by decide +kernel
theorem dX8_init_50 : decode cX8_init 50 = .ok (.putfield 28, 3) := by decide +kernel
theorem dX8_init_53 : decode cX8_init 53 = .ok (.aload_n 0, 1) := by decide +kernel
theorem dX8_init_54 : decode cX8_init 54 = .ok (.iconst 5, 1) := by decide +kernel
theorem dX8_init_55 : decode cX8_init 55 = .ok (.newarray .int, 2) := by decide +kernel
theorem dX8_init_57 : decode cX8_init 57 = .ok (.putfield 31, 3) := by decide +kernel
theorem dX8_init_60 : decode cX8_init 60 = .ok (.aload_n 0, 1) := by decide +kernel
theorem dX8_init_61 : decode cX8_init 61 = .ok (.iconst 5, 1) := by decide +kernel
theorem dX8_init_62 : decode cX8_init 62 = .ok (.newarray .int, 2) := by decide +kernel
theorem dX8_init_64 : decode cX8_init 64 = .ok (.putfield 34, 3) := by decide +kernel
theorem dX8_init_67 : decode cX8_init 67 = .ok (.aload_n 0, 1) := by decide +kernel
theorem dX8_init_68 : decode cX8_init 68 = .ok (.iconst 5, 1) := by decide +kernel
theorem dX8_init_69 : decode cX8_init 69 = .ok (.newarray .int, 2) := by decide +kernel
theorem dX8_init_71 : decode cX8_init 71 = .ok (.putfield 37, 3) := by decide +kernel
theorem dX8_init_74 : decode cX8_init 74 = .ok (.aload_n 0, 1) := by decide +kernel
theorem dX8_init_75 : decode cX8_init 75 = .ok (.iconst 5, 1) := by decide +kernel
theorem dX8_init_76 : decode cX8_init 76 = .ok (.bipush 8, 2) := by decide +kernel
theorem dX8_init_78 : decode cX8_init 78 = .ok (.multianewarray 40 2, 4) := by decide +kernel
theorem dX8_init_82 : decode cX8_init 82 = .ok (.putfield 42, 3) := by decide +kernel
theorem dX8_init_85 : decode cX8_init 85 = .ok (.aload_n 0, 1) := by decide +kernel
theorem dX8_init_86 : decode cX8_init 86 = .ok (.iconst 5, 1) := by decide +kernel
theorem dX8_init_87 : decode cX8_init 87 = .ok (.bipush 8, 2) := by decide +kernel
theorem dX8_init_89 : decode cX8_init 89 = .ok (.multianewarray 45 2, 4) := by decide +kernel
theorem dX8_init_93 : decode cX8_init 93 = .ok (.putfield 47, 3) := by decide +kernel
theorem dX8_init_96 : decode cX8_init 96 = .ok (.aload_n 0, 1) := by decide +kernel
theorem dX8_init_97 : decode cX8_init 97 = .ok (.iconst 5, 1) := by decide +kernel
theorem dX8_init_98 : decode cX8_init 98 = .ok (.bipush 8, 2) := by decide +kernel
theorem dX8_init_100 : decode cX8_init 100 = .ok (.multianewarray 45 2, 4) := by decide +kernel
theorem dX8_init_104 : decode cX8_init 104 = .ok (.putfield 50, 3) := by decide +kernel
theorem dX8_init_107 : decode cX8_init 107 = .ok (.aload_n 0, 1) := by decide +kernel
theorem dX8_init_108 : decode cX8_init 108 = .ok (.iconst 3, 1) := by decide +kernel
theorem dX8_init_109 : decode cX8_init 109 = .ok (.newarray .int, 2) := by decide +kernel
theorem dX8_init_111 : decode cX8_init 111 = .ok (.putfield 53, 3) := by decide +kernel
theorem dX8_init_114 : decode cX8_init 114 = .ok (.aload_n 0, 1) := by decide +kernel
theorem dX8_init_115 : decode cX8_init 115 = .ok (.iconst 3, 1) := by decide +kernel
theorem dX8_init_116 : decode cX8_init 116 = .ok (.newarray .int, 2) := by decide +kernel
theorem dX8_init_118 : decode cX8_init 118 = .ok (.putfield 56, 3) := by decide +kernel
theorem dX8_init_121 : decode cX8_init 121 = .ok (.aload_n 0, 1) := by decide +kernel
theorem dX8_init_122 : decode cX8_init 122 = .ok (.iconst 3, 1) := by decide +kernel
theorem dX8_init_123 : decode cX8_init 123 = .ok (.newarray .int, 2) := by decide +kernel
theorem dX8_init_125 : decode cX8_init 125 = .ok (.putfield 59, 3) := by decide +kernel
theorem dX8_init_128 : decode cX8_init 128 = .ok (.aload_n 0, 1) := by decide +kernel
theorem dX8_init_129 : decode cX8_init 129 = .ok (.bipush 8, 2) := by decide +kernel
theorem dX8_init_131 : decode cX8_init 131 = .ok (.newarray .int, 2) := by decide +kernel
theorem dX8_init_133 : decode cX8_init 133 = .ok (.putfield 62, 3) := by decide +kernel
theorem dX8_init_136 : decode cX8_init 136 = .ok (.aload_n 0, 1) := by decide +kernel
theorem dX8_init_137 : decode cX8_init 137 = .ok (.bipush 8, 2) := by decide +kernel
theorem dX8_init_139 : decode cX8_init 139 = .ok (.newarray .int, 2) := by decide +kernel
theorem dX8_init_141 : decode cX8_init 141 = .ok (.putfield 65, 3) := by decide +kernel
theorem dX8_init_144 : decode cX8_init 144 = .ok (.aload_n 0, 1) := by decide +kernel
theorem dX8_init_145 : decode cX8_init 145 = .ok (.bipush 8, 2) := by decide +kernel
theorem dX8_init_147 : decode cX8_init 147 = .ok (.newarray .int, 2) := by decide +kernel
theorem dX8_init_149 : decode cX8_init 149 = .ok (.putfield 68, 3) := by decide +kernel
theorem dX8_init_152 : decode cX8_init 152 = .ok (.aload_n 0, 1) := by decide +kernel
theorem dX8_init_153 : decode cX8_init 153 = .ok (.bipush 8, 2) := by decide +kernel
theorem dX8_init_155 : decode cX8_init 155 = .ok (.newarray .int, 2) := by decide +kernel
theorem dX8_init_157 : decode cX8_init 157 = .ok (.putfield 71, 3) := by decide +kernel
theorem dX8_init_160 : decode cX8_init 160 = .ok (.aload_n 0, 1) := by decide +kernel
theorem dX8_init_161 : decode cX8_init 161 = .ok (.bipush 8, 2) := by decide +kernel
theorem dX8_init_163 : decode cX8_init 163 = .ok (.newarray .int, 2) := by decide +kernel
theorem dX8_init_165 : decode cX8_init 165 = .ok (.putfield 74, 3) := by decide +kernel
theorem dX8_init_168 : decode cX8_init 168 = .ok (.aload_n 0, 1) := by decide +kernel
theorem dX8_init_169 : decode cX8_init 169 = .ok (.bipush 8, 2) := by decide +kernel
theorem dX8_init_171 : decode cX8_init 171 = .ok (.newarray .long, 2) := by decide +kernel
theorem dX8_init_173 : decode cX8_init 173 = .ok (.putfield 77, 3) := by decide +kernel
theorem dX8_init_176 : decode cX8_init 176 = .ok (.aload_n 0, 1) := by decide +kernel
theorem dX8_init_177 : decode cX8_init 177 = .ok (.bipush 8, 2) := by decide +kernel
theorem dX8_init_179 : decode cX8_init 179 = .ok (.newarray .int, 2) := by decide +kernel
theorem dX8_init_181 : decode cX8_init 181 = .ok (.putfield 81, 3) := by decide +kernel
theorem dX8_init_184 : decode cX8_init 184 = .ok (.return_, 1) := by decide +kernel
theorem dX8_thrown_0 : decode cX8_thrown 0 = .ok (.aload_n 0, 1) := by decide +kernel
theorem dX8_thrown_1 : decode cX8_thrown 1 = .ok (.getfield 84, 3) := by decide +kernel
theorem dX8_thrown_4 : decode cX8_thrown 4 = .ok (.ireturn, 1) := by decide +kernel
theorem dX8_raises_0 : decode cX8_raises 0 = .ok (.aload_n 0, 1) := by decide +kernel
theorem dX8_raises_1 : decode cX8_raises 1 = .ok (.iload_n 1, 1) := by decide +kernel
theorem dX8_raises_2 : decode cX8_raises 2 = .ok (.putfield 84, 3) := by decide +kernel
theorem dX8_raises_5 : decode cX8_raises 5 = .ok (.iconst 0, 1) := by decide +kernel
theorem dX8_raises_6 : decode cX8_raises 6 = .ok (.ireturn, 1) := by decide +kernel
theorem dX8_in_0 : decode cX8_in 0 = .ok (.iload_n 0, 1) := by decide +kernel
theorem dX8_in_1 : decode cX8_in 1 = .ok (.iload_n 1, 1) := by decide +kernel
theorem dX8_in_2 : decode cX8_in 2 = .ok (.if_icmp .lt 12, 3) := by decide +kernel
theorem dX8_in_5 : decode cX8_in 5 = .ok (.iload_n 0, 1) := by decide +kernel
theorem dX8_in_6 : decode cX8_in 6 = .ok (.iload_n 2, 1) := by decide +kernel
theorem dX8_in_7 : decode cX8_in 7 = .ok (.if_icmp .gt 7, 3) := by decide +kernel
theorem dX8_in_10 : decode cX8_in 10 = .ok (.iconst 1, 1) := by decide +kernel
theorem dX8_in_11 : decode cX8_in 11 = .ok (.goto 4, 3) := by decide +kernel
theorem dX8_in_14 : decode cX8_in 14 = .ok (.iconst 0, 1) := by decide +kernel
theorem dX8_in_15 : decode cX8_in 15 = .ok (.ireturn, 1) := by decide +kernel
theorem dX8_isResin_0 : decode cX8_isResin 0 = .ok (.iload_n 1, 1) := by decide +kernel
theorem dX8_isResin_1 : decode cX8_isResin 1 = .ok (.iconst 0, 1) := by decide +kernel
theorem dX8_isResin_2 : decode cX8_isResin 2 = .ok (.aload_n 0, 1) := by decide +kernel
theorem dX8_isResin_3 : decode cX8_isResin 3 = .ok (.getfield 88, 3) := by decide +kernel
theorem dX8_isResin_6 : decode cX8_isResin 6 = .ok (.iconst 1, 1) := by decide +kernel
theorem dX8_isResin_7 : decode cX8_isResin 7 = .ok (.isub, 1) := by decide +kernel
theorem dX8_isResin_8 : decode cX8_isResin 8 = .ok (.invokestatic 91, 3) := by decide +kernel
theorem dX8_isResin_11 : decode cX8_isResin 11 = .ok (.ireturn, 1) := by decide +kernel
theorem dX8_isLot_0 : decode cX8_isLot 0 = .ok (.iload_n 1, 1) := by decide +kernel
theorem dX8_isLot_1 : decode cX8_isLot 1 = .ok (.iconst 0, 1) := by decide +kernel
theorem dX8_isLot_2 : decode cX8_isLot 2 = .ok (.aload_n 0, 1) := by decide +kernel
theorem dX8_isLot_3 : decode cX8_isLot 3 = .ok (.getfield 95, 3) := by decide +kernel
theorem dX8_isLot_6 : decode cX8_isLot 6 = .ok (.iconst 1, 1) := by decide +kernel
theorem dX8_isLot_7 : decode cX8_isLot 7 = .ok (.isub, 1) := by decide +kernel
theorem dX8_isLot_8 : decode cX8_isLot 8 = .ok (.invokestatic 91, 3) := by decide +kernel
theorem dX8_isLot_11 : decode cX8_isLot 11 = .ok (.ireturn, 1) := by decide +kernel
theorem dX8_isMould_0 : decode cX8_isMould 0 = .ok (.iload_n 1, 1) := by decide +kernel
theorem dX8_isMould_1 : decode cX8_isMould 1 = .ok (.iconst 0, 1) := by decide +kernel
theorem dX8_isMould_2 : decode cX8_isMould 2 = .ok (.aload_n 0, 1) := by decide +kernel
theorem dX8_isMould_3 : decode cX8_isMould 3 = .ok (.getfield 98, 3) := by decide +kernel
theorem dX8_isMould_6 : decode cX8_isMould 6 = .ok (.iconst 1, 1) := by decide +kernel
theorem dX8_isMould_7 : decode cX8_isMould 7 = .ok (.isub, 1) := by decide +kernel
theorem dX8_isMould_8 : decode cX8_isMould 8 = .ok (.invokestatic 91, 3) := by decide +kernel
theorem dX8_isMould_11 : decode cX8_isMould 11 = .ok (.ireturn, 1) := by decide +kernel
theorem dX8_isCavity_0 : decode cX8_isCavity 0 = .ok (.aload_n 0, 1) := by decide +kernel
theorem dX8_isCavity_1 : decode cX8_isCavity 1 = .ok (.iload_n 1, 1) := by decide +kernel
theorem dX8_isCavity_2 : decode cX8_isCavity 2 = .ok (.invokevirtual 101, 3) := by decide +kernel
theorem dX8_isCavity_5 : decode cX8_isCavity 5 = .ok (.ifCond .eq 23, 3) := by decide +kernel
theorem dX8_isCavity_8 : decode cX8_isCavity 8 = .ok (.iload_n 2, 1) := by decide +kernel
theorem dX8_isCavity_9 : decode cX8_isCavity 9 = .ok (.iconst 0, 1) := by decide +kernel
theorem dX8_isCavity_10 : decode cX8_isCavity 10 = .ok (.aload_n 0, 1) := by decide +kernel
theorem dX8_isCavity_11 : decode cX8_isCavity 11 = .ok (.getfield 25, 3) := by decide +kernel
theorem dX8_isCavity_14 : decode cX8_isCavity 14 = .ok (.iload_n 1, 1) := by decide +kernel
theorem dX8_isCavity_15 : decode cX8_isCavity 15 = .ok (.iaload, 1) := by decide +kernel
theorem dX8_isCavity_16 : decode cX8_isCavity 16 = .ok (.iconst 1, 1) := by decide +kernel
theorem dX8_isCavity_17 : decode cX8_isCavity 17 = .ok (.isub, 1) := by decide +kernel
theorem dX8_isCavity_18 : decode cX8_isCavity 18 = .ok (.invokestatic 91, 3) := by decide +kernel
theorem dX8_isCavity_21 : decode cX8_isCavity 21 = .ok (.ifCond .eq 7, 3) := by decide +kernel
theorem dX8_isCavity_24 : decode cX8_isCavity 24 = .ok (.iconst 1, 1) := by decide +kernel
theorem dX8_isCavity_25 : decode cX8_isCavity 25 = .ok (.goto 4, 3) := by decide +kernel
theorem dX8_isCavity_28 : decode cX8_isCavity 28 = .ok (.iconst 0, 1) := by decide +kernel
theorem dX8_isCavity_29 : decode cX8_isCavity 29 = .ok (.ireturn, 1) := by decide +kernel
theorem dX8_isMachine_0 : decode cX8_isMachine 0 = .ok (.iload_n 1, 1) := by decide +kernel
theorem dX8_isMachine_1 : decode cX8_isMachine 1 = .ok (.iconst 0, 1) := by decide +kernel
theorem dX8_isMachine_2 : decode cX8_isMachine 2 = .ok (.aload_n 0, 1) := by decide +kernel
theorem dX8_isMachine_3 : decode cX8_isMachine 3 = .ok (.getfield 105, 3) := by decide +kernel
theorem dX8_isMachine_6 : decode cX8_isMachine 6 = .ok (.iconst 1, 1) := by decide +kernel
theorem dX8_isMachine_7 : decode cX8_isMachine 7 = .ok (.isub, 1) := by decide +kernel
theorem dX8_isMachine_8 : decode cX8_isMachine 8 = .ok (.invokestatic 91, 3) := by decide +kernel
theorem dX8_isMachine_11 : decode cX8_isMachine 11 = .ok (.ireturn, 1) := by decide +kernel
theorem dX8_isOrder_0 : decode cX8_isOrder 0 = .ok (.iload_n 1, 1) := by decide +kernel
theorem dX8_isOrder_1 : decode cX8_isOrder 1 = .ok (.iconst 0, 1) := by decide +kernel
theorem dX8_isOrder_2 : decode cX8_isOrder 2 = .ok (.aload_n 0, 1) := by decide +kernel
theorem dX8_isOrder_3 : decode cX8_isOrder 3 = .ok (.getfield 108, 3) := by decide +kernel
theorem dX8_isOrder_6 : decode cX8_isOrder 6 = .ok (.iconst 1, 1) := by decide +kernel
theorem dX8_isOrder_7 : decode cX8_isOrder 7 = .ok (.isub, 1) := by decide +kernel
theorem dX8_isOrder_8 : decode cX8_isOrder 8 = .ok (.invokestatic 91, 3) := by decide +kernel
theorem dX8_isOrder_11 : decode cX8_isOrder 11 = .ok (.ireturn, 1) := by decide +kernel
theorem dX8_addResin_0 : decode cX8_addResin 0 = .ok (.aload_n 0, 1) := by decide +kernel
theorem dX8_addResin_1 : decode cX8_addResin 1 = .ok (.iload_n 1, 1) := by decide +kernel
theorem dX8_addResin_2 : decode cX8_addResin 2 = .ok (.iconst 0, 1) := by decide +kernel
theorem dX8_addResin_3 : decode cX8_addResin 3 = .ok (.bipush 9, 2) := by decide +kernel
theorem dX8_addResin_5 : decode cX8_addResin 5 = .ok (.invokestatic 91, 3) := by decide +kernel
theorem dX8_addResin_8 : decode cX8_addResin 8 = .ok (.ifCond .ne 7, 3) := by decide +kernel
theorem dX8_addResin_11 : decode cX8_addResin 11 = .ok (.iconst 1, 1) := by decide +kernel
theorem dX8_addResin_12 : decode cX8_addResin 12 = .ok (.goto 16, 3) := by decide +kernel
theorem dX8_addResin_15 : decode cX8_addResin 15 = .ok (.aload_n 0, 1) := by decide +kernel
theorem dX8_addResin_16 : decode cX8_addResin 16 = .ok (.getfield 88, 3) := by decide +kernel
theorem dX8_addResin_19 : decode cX8_addResin 19 = .ok (.iconst 4, 1) := by decide +kernel
theorem dX8_addResin_20 : decode cX8_addResin 20 = .ok (.if_icmp .ne 7, 3) := by decide +kernel
theorem dX8_addResin_23 : decode cX8_addResin 23 = .ok (.iconst 2, 1) := by decide +kernel
theorem dX8_addResin_24 : decode cX8_addResin 24 = .ok (.goto 4, 3) := by decide +kernel
theorem dX8_addResin_27 : decode cX8_addResin 27 = .ok (.iconst 0, 1) := by decide +kernel
theorem dX8_addResin_28 : decode cX8_addResin 28 = .ok (.putfield 84, 3) := by decide +kernel
theorem dX8_addResin_31 : decode cX8_addResin 31 = .ok (.aload_n 0, 1) := by decide +kernel
theorem dX8_addResin_32 : decode cX8_addResin 32 = .ok (.getfield 84, 3) := by decide +kernel
theorem dX8_addResin_35 : decode cX8_addResin 35 = .ok (.ifCond .le 5, 3) := by decide +kernel
theorem dX8_addResin_38 : decode cX8_addResin 38 = .ok (.iconst 0, 1) := by decide +kernel
theorem dX8_addResin_39 : decode cX8_addResin 39 = .ok (.ireturn, 1) := by decide +kernel
theorem dX8_addResin_40 : decode cX8_addResin 40 = .ok (.aload_n 0, 1) := by decide +kernel
theorem dX8_addResin_41 : decode cX8_addResin 41 = .ok (.getfield 9, 3) := by decide +kernel
theorem dX8_addResin_44 : decode cX8_addResin 44 = .ok (.aload_n 0, 1) := by decide +kernel
theorem dX8_addResin_45 : decode cX8_addResin 45 = .ok (.getfield 88, 3) := by decide +kernel
theorem dX8_addResin_48 : decode cX8_addResin 48 = .ok (.iload_n 1, 1) := by decide +kernel
theorem dX8_addResin_49 : decode cX8_addResin 49 = .ok (.iastore, 1) := by decide +kernel
theorem dX8_addResin_50 : decode cX8_addResin 50 = .ok (.aload_n 0, 1) := by decide +kernel
theorem dX8_addResin_51 : decode cX8_addResin 51 = .ok (.dup, 1) := by decide +kernel
theorem dX8_addResin_52 : decode cX8_addResin 52 = .ok (.getfield 88, 3) := by decide +kernel
theorem dX8_addResin_55 : decode cX8_addResin 55 = .ok (.iconst 1, 1) := by decide +kernel
theorem dX8_addResin_56 : decode cX8_addResin 56 = .ok (.iadd, 1) := by decide +kernel
theorem dX8_addResin_57 : decode cX8_addResin 57 = .ok (.putfield 88, 3) := by decide +kernel
theorem dX8_addResin_60 : decode cX8_addResin 60 = .ok (.aload_n 0, 1) := by decide +kernel
theorem dX8_addResin_61 : decode cX8_addResin 61 = .ok (.getfield 88, 3) := by decide +kernel
theorem dX8_addResin_64 : decode cX8_addResin 64 = .ok (.iconst 1, 1) := by decide +kernel
theorem dX8_addResin_65 : decode cX8_addResin 65 = .ok (.isub, 1) := by decide +kernel
theorem dX8_addResin_66 : decode cX8_addResin 66 = .ok (.ireturn, 1) := by decide +kernel
theorem dX8_fill_0 : decode cX8_fill 0 = .ok (.aload_n 0, 1) := by decide +kernel
theorem dX8_fill_1 : decode cX8_fill 1 = .ok (.aload_n 0, 1) := by decide +kernel
theorem dX8_fill_2 : decode cX8_fill 2 = .ok (.iload_n 1, 1) := by decide +kernel
theorem dX8_fill_3 : decode cX8_fill 3 = .ok (.invokevirtual 111, 3) := by decide +kernel
theorem dX8_fill_6 : decode cX8_fill 6 = .ok (.ifCond .ne 7, 3) := by decide +kernel
theorem dX8_fill_9 : decode cX8_fill 9 = .ok (.iconst 1, 1) := by decide +kernel
theorem dX8_fill_10 : decode cX8_fill 10 = .ok (.goto 30, 3) := by decide +kernel
theorem dX8_fill_13 : decode cX8_fill 13 = .ok (.iload_n 2, 1) := by decide +kernel
theorem dX8_fill_14 : decode cX8_fill 14 = .ok (.iconst 1, 1) := by decide +kernel
theorem dX8_fill_15 : decode cX8_fill 15 = .ok (.ldc 114, 2) := by decide +kernel
theorem dX8_fill_17 : decode cX8_fill 17 = .ok (.invokestatic 91, 3) := by decide +kernel
theorem dX8_fill_20 : decode cX8_fill 20 = .ok (.ifCond .ne 7, 3) := by decide +kernel
theorem dX8_fill_23 : decode cX8_fill 23 = .ok (.iconst 2, 1) := by decide +kernel
theorem dX8_fill_24 : decode cX8_fill 24 = .ok (.goto 16, 3) := by decide +kernel
theorem dX8_fill_27 : decode cX8_fill 27 = .ok (.aload_n 0, 1) := by decide +kernel
theorem dX8_fill_28 : decode cX8_fill 28 = .ok (.getfield 95, 3) := by decide +kernel
theorem dX8_fill_31 : decode cX8_fill 31 = .ok (.iconst 3, 1) := by decide +kernel
theorem dX8_fill_32 : decode cX8_fill 32 = .ok (.if_icmp .ne 7, 3) := by decide +kernel
theorem dX8_fill_35 : decode cX8_fill 35 = .ok (.iconst 3, 1) := by decide +kernel
theorem dX8_fill_36 : decode cX8_fill 36 = .ok (.goto 4, 3) := by decide +kernel
theorem dX8_fill_39 : decode cX8_fill 39 = .ok (.iconst 0, 1) := by decide +kernel
theorem dX8_fill_40 : decode cX8_fill 40 = .ok (.putfield 84, 3) := by decide +kernel
theorem dX8_fill_43 : decode cX8_fill 43 = .ok (.aload_n 0, 1) := by decide +kernel
theorem dX8_fill_44 : decode cX8_fill 44 = .ok (.getfield 84, 3) := by decide +kernel
theorem dX8_fill_47 : decode cX8_fill 47 = .ok (.ifCond .le 5, 3) := by decide +kernel
theorem dX8_fill_50 : decode cX8_fill 50 = .ok (.iconst 0, 1) := by decide +kernel
theorem dX8_fill_51 : decode cX8_fill 51 = .ok (.ireturn, 1) := by decide +kernel
theorem dX8_fill_52 : decode cX8_fill 52 = .ok (.aload_n 0, 1) := by decide +kernel
theorem dX8_fill_53 : decode cX8_fill 53 = .ok (.getfield 16, 3) := by decide +kernel
theorem dX8_fill_56 : decode cX8_fill 56 = .ok (.aload_n 0, 1) := by decide +kernel
theorem dX8_fill_57 : decode cX8_fill 57 = .ok (.getfield 95, 3) := by decide +kernel
theorem dX8_fill_60 : decode cX8_fill 60 = .ok (.iload_n 1, 1) := by decide +kernel
theorem dX8_fill_61 : decode cX8_fill 61 = .ok (.iastore, 1) := by decide +kernel
theorem dX8_fill_62 : decode cX8_fill 62 = .ok (.aload_n 0, 1) := by decide +kernel
theorem dX8_fill_63 : decode cX8_fill 63 = .ok (.getfield 19, 3) := by decide +kernel
theorem dX8_fill_66 : decode cX8_fill 66 = .ok (.aload_n 0, 1) := by decide +kernel
theorem dX8_fill_67 : decode cX8_fill 67 = .ok (.getfield 95, 3) := by decide +kernel
theorem dX8_fill_70 : decode cX8_fill 70 = .ok (.iload_n 2, 1) := by decide +kernel
theorem dX8_fill_71 : decode cX8_fill 71 = .ok (.iastore, 1) := by decide +kernel
theorem dX8_fill_72 : decode cX8_fill 72 = .ok (.aload_n 0, 1) := by decide +kernel
theorem dX8_fill_73 : decode cX8_fill 73 = .ok (.getfield 22, 3) := by decide +kernel
theorem dX8_fill_76 : decode cX8_fill 76 = .ok (.aload_n 0, 1) := by decide +kernel
theorem dX8_fill_77 : decode cX8_fill 77 = .ok (.getfield 95, 3) := by decide +kernel
theorem dX8_fill_80 : decode cX8_fill 80 = .ok (.iconst 0, 1) := by decide +kernel
theorem dX8_fill_81 : decode cX8_fill 81 = .ok (.iastore, 1) := by decide +kernel
theorem dX8_fill_82 : decode cX8_fill 82 = .ok (.aload_n 0, 1) := by decide +kernel
theorem dX8_fill_83 : decode cX8_fill 83 = .ok (.dup, 1) := by decide +kernel
theorem dX8_fill_84 : decode cX8_fill 84 = .ok (.getfield 95, 3) := by decide +kernel
theorem dX8_fill_87 : decode cX8_fill 87 = .ok (.iconst 1, 1) := by decide +kernel
theorem dX8_fill_88 : decode cX8_fill 88 = .ok (.iadd, 1) := by decide +kernel
theorem dX8_fill_89 : decode cX8_fill 89 = .ok (.putfield 95, 3) := by decide +kernel
theorem dX8_fill_92 : decode cX8_fill 92 = .ok (.aload_n 0, 1) := by decide +kernel
theorem dX8_fill_93 : decode cX8_fill 93 = .ok (.getfield 95, 3) := by decide +kernel
theorem dX8_fill_96 : decode cX8_fill 96 = .ok (.ireturn, 1) := by decide +kernel
theorem dX8_leaves_0 : decode cX8_leaves 0 = .ok (.aload_n 0, 1) := by decide +kernel
theorem dX8_leaves_1 : decode cX8_leaves 1 = .ok (.dup, 1) := by decide +kernel
theorem dX8_leaves_2 : decode cX8_leaves 2 = .ok (.getfield 95, 3) := by decide +kernel
theorem dX8_leaves_5 : decode cX8_leaves 5 = .ok (.iconst 1, 1) := by decide +kernel
theorem dX8_leaves_6 : decode cX8_leaves 6 = .ok (.isub, 1) := by decide +kernel
theorem dX8_leaves_7 : decode cX8_leaves 7 = .ok (.putfield 95, 3) := by decide +kernel
theorem dX8_leaves_10 : decode cX8_leaves 10 = .ok (.iload_n 1, 1) := by decide +kernel
theorem dX8_leaves_11 : decode cX8_leaves 11 = .ok (.istore_n 2, 1) := by decide +kernel
theorem dX8_leaves_12 : decode cX8_leaves 12 = .ok (.iload_n 2, 1) := by decide +kernel
theorem dX8_leaves_13 : decode cX8_leaves 13 = .ok (.aload_n 0, 1) := by decide +kernel
theorem dX8_leaves_14 : decode cX8_leaves 14 = .ok (.getfield 95, 3) := by decide +kernel
theorem dX8_leaves_17 : decode cX8_leaves 17 = .ok (.if_icmp .ge 51, 3) := by decide +kernel
theorem dX8_leaves_20 : decode cX8_leaves 20 = .ok (.aload_n 0, 1) := by decide +kernel
theorem dX8_leaves_21 : decode cX8_leaves 21 = .ok (.getfield 16, 3) := by decide +kernel
theorem dX8_leaves_24 : decode cX8_leaves 24 = .ok (.iload_n 2, 1) := by decide +kernel
theorem dX8_leaves_25 : decode cX8_leaves 25 = .ok (.aload_n 0, 1) := by decide +kernel
theorem dX8_leaves_26 : decode cX8_leaves 26 = .ok (.getfield 16, 3) := by decide +kernel
theorem dX8_leaves_29 : decode cX8_leaves 29 = .ok (.iload_n 2, 1) := by decide +kernel
theorem dX8_leaves_30 : decode cX8_leaves 30 = .ok (.iconst 1, 1) := by decide +kernel
theorem dX8_leaves_31 : decode cX8_leaves 31 = .ok (.iadd, 1) := by decide +kernel
theorem dX8_leaves_32 : decode cX8_leaves 32 = .ok (.iaload, 1) := by decide +kernel
theorem dX8_leaves_33 : decode cX8_leaves 33 = .ok (.iastore, 1) := by decide +kernel
theorem dX8_leaves_34 : decode cX8_leaves 34 = .ok (.aload_n 0, 1) := by decide +kernel
theorem dX8_leaves_35 : decode cX8_leaves 35 = .ok (.getfield 19, 3) := by decide +kernel
theorem dX8_leaves_38 : decode cX8_leaves 38 = .ok (.iload_n 2, 1) := by decide +kernel
theorem dX8_leaves_39 : decode cX8_leaves 39 = .ok (.aload_n 0, 1) := by decide +kernel
theorem dX8_leaves_40 : decode cX8_leaves 40 = .ok (.getfield 19, 3) := by decide +kernel
theorem dX8_leaves_43 : decode cX8_leaves 43 = .ok (.iload_n 2, 1) := by decide +kernel
theorem dX8_leaves_44 : decode cX8_leaves 44 = .ok (.iconst 1, 1) := by decide +kernel
theorem dX8_leaves_45 : decode cX8_leaves 45 = .ok (.iadd, 1) := by decide +kernel
theorem dX8_leaves_46 : decode cX8_leaves 46 = .ok (.iaload, 1) := by decide +kernel
theorem dX8_leaves_47 : decode cX8_leaves 47 = .ok (.iastore, 1) := by decide +kernel
theorem dX8_leaves_48 : decode cX8_leaves 48 = .ok (.aload_n 0, 1) := by decide +kernel
theorem dX8_leaves_49 : decode cX8_leaves 49 = .ok (.getfield 22, 3) := by decide +kernel
theorem dX8_leaves_52 : decode cX8_leaves 52 = .ok (.iload_n 2, 1) := by decide +kernel
theorem dX8_leaves_53 : decode cX8_leaves 53 = .ok (.aload_n 0, 1) := by decide +kernel
theorem dX8_leaves_54 : decode cX8_leaves 54 = .ok (.getfield 22, 3) := by decide +kernel
theorem dX8_leaves_57 : decode cX8_leaves 57 = .ok (.iload_n 2, 1) := by decide +kernel
theorem dX8_leaves_58 : decode cX8_leaves 58 = .ok (.iconst 1, 1) := by decide +kernel
theorem dX8_leaves_59 : decode cX8_leaves 59 = .ok (.iadd, 1) := by decide +kernel
theorem dX8_leaves_60 : decode cX8_leaves 60 = .ok (.iaload, 1) := by decide +kernel
theorem dX8_leaves_61 : decode cX8_leaves 61 = .ok (.iastore, 1) := by decide +kernel
theorem dX8_leaves_62 : decode cX8_leaves 62 = .ok (.iinc 2 1, 3) := by decide +kernel
theorem dX8_leaves_65 : decode cX8_leaves 65 = .ok (.goto (-53), 3) := by decide +kernel
theorem dX8_leaves_68 : decode cX8_leaves 68 = .ok (.return_, 1) := by decide +kernel
theorem dX8_empty_0 : decode cX8_empty 0 = .ok (.aload_n 0, 1) := by decide +kernel
theorem dX8_empty_1 : decode cX8_empty 1 = .ok (.aload_n 0, 1) := by decide +kernel
theorem dX8_empty_2 : decode cX8_empty 2 = .ok (.iload_n 1, 1) := by decide +kernel
theorem dX8_empty_3 : decode cX8_empty 3 = .ok (.invokevirtual 115, 3) := by decide +kernel
theorem dX8_empty_6 : decode cX8_empty 6 = .ok (.ifCond .eq 7, 3) := by decide +kernel
theorem dX8_empty_9 : decode cX8_empty 9 = .ok (.iconst 0, 1) := by decide +kernel
theorem dX8_empty_10 : decode cX8_empty 10 = .ok (.goto 4, 3) := by decide +kernel
theorem dX8_empty_13 : decode cX8_empty 13 = .ok (.iconst 1, 1) := by decide +kernel
theorem dX8_empty_14 : decode cX8_empty 14 = .ok (.putfield 84, 3) := by decide +kernel
theorem dX8_empty_17 : decode cX8_empty 17 = .ok (.aload_n 0, 1) := by decide +kernel
theorem dX8_empty_18 : decode cX8_empty 18 = .ok (.getfield 84, 3) := by decide +kernel
theorem dX8_empty_21 : decode cX8_empty 21 = .ok (.ifCond .le 5, 3) := by decide +kernel
theorem dX8_empty_24 : decode cX8_empty 24 = .ok (.iconst 0, 1) := by decide +kernel
theorem dX8_empty_25 : decode cX8_empty 25 = .ok (.ireturn, 1) := by decide +kernel
theorem dX8_empty_26 : decode cX8_empty 26 = .ok (.aload_n 0, 1) := by decide +kernel
theorem dX8_empty_27 : decode cX8_empty 27 = .ok (.getfield 19, 3) := by decide +kernel
theorem dX8_empty_30 : decode cX8_empty 30 = .ok (.iload_n 1, 1) := by decide +kernel
theorem dX8_empty_31 : decode cX8_empty 31 = .ok (.iaload, 1) := by decide +kernel
theorem dX8_empty_32 : decode cX8_empty 32 = .ok (.istore_n 2, 1) := by decide +kernel
theorem dX8_empty_33 : decode cX8_empty 33 = .ok (.aload_n 0, 1) := by decide +kernel
theorem dX8_empty_34 : decode cX8_empty 34 = .ok (.iload_n 1, 1) := by decide +kernel
theorem dX8_empty_35 : decode cX8_empty 35 = .ok (.invokevirtual 118, 3) := by decide +kernel
theorem dX8_empty_38 : decode cX8_empty 38 = .ok (.iload_n 2, 1) := by decide +kernel
theorem dX8_empty_39 : decode cX8_empty 39 = .ok (.ireturn, 1) := by decide +kernel
theorem dX8_lots_0 : decode cX8_lots 0 = .ok (.aload_n 0, 1) := by decide +kernel
theorem dX8_lots_1 : decode cX8_lots 1 = .ok (.iconst 0, 1) := by decide +kernel
theorem dX8_lots_2 : decode cX8_lots 2 = .ok (.putfield 84, 3) := by decide +kernel
theorem dX8_lots_5 : decode cX8_lots 5 = .ok (.aload_n 0, 1) := by decide +kernel
theorem dX8_lots_6 : decode cX8_lots 6 = .ok (.getfield 95, 3) := by decide +kernel
theorem dX8_lots_9 : decode cX8_lots 9 = .ok (.ireturn, 1) := by decide +kernel
theorem dX8_toDry_0 : decode cX8_toDry 0 = .ok (.iconst 0, 1) := by decide +kernel
theorem dX8_toDry_1 : decode cX8_toDry 1 = .ok (.aload_n 0, 1) := by decide +kernel
theorem dX8_toDry_2 : decode cX8_toDry 2 = .ok (.getfield 9, 3) := by decide +kernel
theorem dX8_toDry_5 : decode cX8_toDry 5 = .ok (.aload_n 0, 1) := by decide +kernel
theorem dX8_toDry_6 : decode cX8_toDry 6 = .ok (.getfield 16, 3) := by decide +kernel
theorem dX8_toDry_9 : decode cX8_toDry 9 = .ok (.iload_n 1, 1) := by decide +kernel
theorem dX8_toDry_10 : decode cX8_toDry 10 = .ok (.iaload, 1) := by decide +kernel
theorem dX8_toDry_11 : decode cX8_toDry 11 = .ok (.iaload, 1) := by decide +kernel
theorem dX8_toDry_12 : decode cX8_toDry 12 = .ok (.aload_n 0, 1) := by decide +kernel
theorem dX8_toDry_13 : decode cX8_toDry 13 = .ok (.getfield 22, 3) := by decide +kernel
theorem dX8_toDry_16 : decode cX8_toDry 16 = .ok (.iload_n 1, 1) := by decide +kernel
theorem dX8_toDry_17 : decode cX8_toDry 17 = .ok (.iaload, 1) := by decide +kernel
theorem dX8_toDry_18 : decode cX8_toDry 18 = .ok (.isub, 1) := by decide +kernel
theorem dX8_toDry_19 : decode cX8_toDry 19 = .ok (.invokestatic 122, 3) := by decide +kernel
theorem dX8_toDry_22 : decode cX8_toDry 22 = .ok (.ireturn, 1) := by decide +kernel
theorem dX8_hoursToDry_0 : decode cX8_hoursToDry 0 = .ok (.aload_n 0, 1) := by decide +kernel
theorem dX8_hoursToDry_1 : decode cX8_hoursToDry 1 = .ok (.aload_n 0, 1) := by decide +kernel
theorem dX8_hoursToDry_2 : decode cX8_hoursToDry 2 = .ok (.iload_n 1, 1) := by decide +kernel
theorem dX8_hoursToDry_3 : decode cX8_hoursToDry 3 = .ok (.invokevirtual 115, 3) := by decide +kernel
theorem dX8_hoursToDry_6 : decode cX8_hoursToDry 6 = .ok (.ifCond .eq 7, 3) := by decide +kernel
theorem dX8_hoursToDry_9 : decode cX8_hoursToDry 9 = .ok (.iconst 0, 1) := by decide +kernel
theorem dX8_hoursToDry_10 : decode cX8_hoursToDry 10 = .ok (.goto 4, 3) := by decide +kernel
theorem dX8_hoursToDry_13 : decode cX8_hoursToDry 13 = .ok (.iconst 1, 1) := by decide +kernel
theorem dX8_hoursToDry_14 : decode cX8_hoursToDry 14 = .ok (.putfield 84, 3) := by decide +kernel
theorem dX8_hoursToDry_17 : decode cX8_hoursToDry 17 = .ok (.aload_n 0, 1) := by decide +kernel
theorem dX8_hoursToDry_18 : decode cX8_hoursToDry 18 = .ok (.getfield 84, 3) := by decide +kernel
theorem dX8_hoursToDry_21 : decode cX8_hoursToDry 21 = .ok (.ifCond .le 7, 3) := by decide +kernel
theorem dX8_hoursToDry_24 : decode cX8_hoursToDry 24 = .ok (.iconst 0, 1) := by decide +kernel
theorem dX8_hoursToDry_25 : decode cX8_hoursToDry 25 = .ok (.goto 8, 3) := by decide +kernel
theorem dX8_hoursToDry_28 : decode cX8_hoursToDry 28 = .ok (.aload_n 0, 1) := by decide +kernel
theorem dX8_hoursToDry_29 : decode cX8_hoursToDry 29 = .ok (.iload_n 1, 1) := by decide +kernel
theorem dX8_hoursToDry_30 : decode cX8_hoursToDry 30 = .ok (.invokevirtual 128, 3) := by decide +kernel
theorem dX8_hoursToDry_33 : decode cX8_hoursToDry 33 = .ok (.ireturn, 1) := by decide +kernel
theorem dX8_dryOf_0 : decode cX8_dryOf 0 = .ok (.iconst 0, 1) := by decide +kernel
theorem dX8_dryOf_1 : decode cX8_dryOf 1 = .ok (.istore_n 2, 1) := by decide +kernel
theorem dX8_dryOf_2 : decode cX8_dryOf 2 = .ok (.iconst 0, 1) := by decide +kernel
theorem dX8_dryOf_3 : decode cX8_dryOf 3 = .ok (.istore_n 3, 1) := by decide +kernel
theorem dX8_dryOf_4 : decode cX8_dryOf 4 = .ok (.iload_n 3, 1) := by decide +kernel
theorem dX8_dryOf_5 : decode cX8_dryOf 5 = .ok (.aload_n 0, 1) := by decide +kernel
theorem dX8_dryOf_6 : decode cX8_dryOf 6 = .ok (.getfield 95, 3) := by decide +kernel
theorem dX8_dryOf_9 : decode cX8_dryOf 9 = .ok (.if_icmp .ge 40, 3) := by decide +kernel
theorem dX8_dryOf_12 : decode cX8_dryOf 12 = .ok (.iload_n 2, 1) := by decide +kernel
theorem dX8_dryOf_13 : decode cX8_dryOf 13 = .ok (.aload_n 0, 1) := by decide +kernel
theorem dX8_dryOf_14 : decode cX8_dryOf 14 = .ok (.getfield 16, 3) := by decide +kernel
theorem dX8_dryOf_17 : decode cX8_dryOf 17 = .ok (.iload_n 3, 1) := by decide +kernel
theorem dX8_dryOf_18 : decode cX8_dryOf 18 = .ok (.iaload, 1) := by decide +kernel
theorem dX8_dryOf_19 : decode cX8_dryOf 19 = .ok (.iload_n 1, 1) := by decide +kernel
theorem dX8_dryOf_20 : decode cX8_dryOf 20 = .ok (.if_icmp .ne 20, 3) := by decide +kernel
theorem dX8_dryOf_23 : decode cX8_dryOf 23 = .ok (.aload_n 0, 1) := by decide +kernel
theorem dX8_dryOf_24 : decode cX8_dryOf 24 = .ok (.iload_n 3, 1) := by decide +kernel
theorem dX8_dryOf_25 : decode cX8_dryOf 25 = .ok (.invokevirtual 128, 3) := by decide +kernel
theorem dX8_dryOf_28 : decode cX8_dryOf 28 = .ok (.ifCond .ne 12, 3) := by decide +kernel
theorem dX8_dryOf_31 : decode cX8_dryOf 31 = .ok (.aload_n 0, 1) := by decide +kernel
theorem dX8_dryOf_32 : decode cX8_dryOf 32 = .ok (.getfield 19, 3) := by decide +kernel
theorem dX8_dryOf_35 : decode cX8_dryOf 35 = .ok (.iload_n 3, 1) := by decide +kernel
theorem dX8_dryOf_36 : decode cX8_dryOf 36 = .ok (.iaload, 1) := by decide +kernel
theorem dX8_dryOf_37 : decode cX8_dryOf 37 = .ok (.goto 4, 3) := by decide +kernel
theorem dX8_dryOf_40 : decode cX8_dryOf 40 = .ok (.iconst 0, 1) := by decide +kernel
theorem dX8_dryOf_41 : decode cX8_dryOf 41 = .ok (.iadd, 1) := by decide +kernel
theorem dX8_dryOf_42 : decode cX8_dryOf 42 = .ok (.istore_n 2, 1) := by decide +kernel
theorem dX8_dryOf_43 : decode cX8_dryOf 43 = .ok (.iinc 3 1, 3) := by decide +kernel
theorem dX8_dryOf_46 : decode cX8_dryOf 46 = .ok (.goto (-42), 3) := by decide +kernel
theorem dX8_dryOf_49 : decode cX8_dryOf 49 = .ok (.iload_n 2, 1) := by decide +kernel
theorem dX8_dryOf_50 : decode cX8_dryOf 50 = .ok (.ireturn, 1) := by decide +kernel
theorem dX8_dry_0 : decode cX8_dry 0 = .ok (.aload_n 0, 1) := by decide +kernel
theorem dX8_dry_1 : decode cX8_dry 1 = .ok (.aload_n 0, 1) := by decide +kernel
theorem dX8_dry_2 : decode cX8_dry 2 = .ok (.iload_n 1, 1) := by decide +kernel
theorem dX8_dry_3 : decode cX8_dry 3 = .ok (.invokevirtual 111, 3) := by decide +kernel
theorem dX8_dry_6 : decode cX8_dry 6 = .ok (.ifCond .eq 7, 3) := by decide +kernel
theorem dX8_dry_9 : decode cX8_dry 9 = .ok (.iconst 0, 1) := by decide +kernel
theorem dX8_dry_10 : decode cX8_dry 10 = .ok (.goto 4, 3) := by decide +kernel
theorem dX8_dry_13 : decode cX8_dry 13 = .ok (.iconst 1, 1) := by decide +kernel
theorem dX8_dry_14 : decode cX8_dry 14 = .ok (.putfield 84, 3) := by decide +kernel
theorem dX8_dry_17 : decode cX8_dry 17 = .ok (.aload_n 0, 1) := by decide +kernel
theorem dX8_dry_18 : decode cX8_dry 18 = .ok (.getfield 84, 3) := by decide +kernel
theorem dX8_dry_21 : decode cX8_dry 21 = .ok (.ifCond .le 7, 3) := by decide +kernel
theorem dX8_dry_24 : decode cX8_dry 24 = .ok (.iconst 0, 1) := by decide +kernel
theorem dX8_dry_25 : decode cX8_dry 25 = .ok (.goto 8, 3) := by decide +kernel
theorem dX8_dry_28 : decode cX8_dry 28 = .ok (.aload_n 0, 1) := by decide +kernel
theorem dX8_dry_29 : decode cX8_dry 29 = .ok (.iload_n 1, 1) := by decide +kernel
theorem dX8_dry_30 : decode cX8_dry 30 = .ok (.invokevirtual 132, 3) := by decide +kernel
theorem dX8_dry_33 : decode cX8_dry 33 = .ok (.ireturn, 1) := by decide +kernel
theorem dX8_regrind_0 : decode cX8_regrind 0 = .ok (.aload_n 0, 1) := by decide +kernel
theorem dX8_regrind_1 : decode cX8_regrind 1 = .ok (.aload_n 0, 1) := by decide +kernel
theorem dX8_regrind_2 : decode cX8_regrind 2 = .ok (.iload_n 1, 1) := by decide +kernel
theorem dX8_regrind_3 : decode cX8_regrind 3 = .ok (.invokevirtual 111, 3) := by decide +kernel
theorem dX8_regrind_6 : decode cX8_regrind 6 = .ok (.ifCond .eq 7, 3) := by decide +kernel
theorem dX8_regrind_9 : decode cX8_regrind 9 = .ok (.iconst 0, 1) := by decide +kernel
theorem dX8_regrind_10 : decode cX8_regrind 10 = .ok (.goto 4, 3) := by decide +kernel
theorem dX8_regrind_13 : decode cX8_regrind 13 = .ok (.iconst 1, 1) := by decide +kernel
theorem dX8_regrind_14 : decode cX8_regrind 14 = .ok (.putfield 84, 3) := by decide +kernel
theorem dX8_regrind_17 : decode cX8_regrind 17 = .ok (.aload_n 0, 1) := by decide +kernel
theorem dX8_regrind_18 : decode cX8_regrind 18 = .ok (.getfield 84, 3) := by decide +kernel
theorem dX8_regrind_21 : decode cX8_regrind 21 = .ok (.ifCond .le 7, 3) := by decide +kernel
theorem dX8_regrind_24 : decode cX8_regrind 24 = .ok (.iconst 0, 1) := by decide +kernel
theorem dX8_regrind_25 : decode cX8_regrind 25 = .ok (.goto 9, 3) := by decide +kernel
theorem dX8_regrind_28 : decode cX8_regrind 28 = .ok (.aload_n 0, 1) := by decide +kernel
theorem dX8_regrind_29 : decode cX8_regrind 29 = .ok (.getfield 13, 3) := by decide +kernel
theorem dX8_regrind_32 : decode cX8_regrind 32 = .ok (.iload_n 1, 1) := by decide +kernel
theorem dX8_regrind_33 : decode cX8_regrind 33 = .ok (.iaload, 1) := by decide +kernel
theorem dX8_regrind_34 : decode cX8_regrind 34 = .ok (.ireturn, 1) := by decide +kernel
theorem dX8_addMould_0 : decode cX8_addMould 0 = .ok (.iload_n 1, 1) := by decide +kernel
theorem dX8_addMould_1 : decode cX8_addMould 1 = .ok (.iconst 1, 1) := by decide +kernel
theorem dX8_addMould_2 : decode cX8_addMould 2 = .ok (.bipush 8, 2) := by decide +kernel
theorem dX8_addMould_4 : decode cX8_addMould 4 = .ok (.invokestatic 91, 3) := by decide +kernel
theorem dX8_addMould_7 : decode cX8_addMould 7 = .ok (.ifCond .eq 54, 3) := by decide +kernel
theorem dX8_addMould_10 : decode cX8_addMould 10 = .ok (.iload_n 2, 1) := by decide +kernel
theorem dX8_addMould_11 : decode cX8_addMould 11 = .ok (.iconst 1, 1) := by decide +kernel
theorem dX8_addMould_12 : decode cX8_addMould 12 = .ok (.sipush 200, 3) := by decide +kernel
theorem dX8_addMould_15 : decode cX8_addMould 15 = .ok (.invokestatic 91, 3) := by decide +kernel
theorem dX8_addMould_18 : decode cX8_addMould 18 = .ok (.ifCond .eq 43, 3) := by decide +kernel
theorem dX8_addMould_21 : decode cX8_addMould 21 = .ok (.iload_n 3, 1) := by decide +kernel
theorem dX8_addMould_22 : decode cX8_addMould 22 = .ok (.iconst 0, 1) := by decide +kernel
theorem dX8_addMould_23 : decode cX8_addMould 23 = .ok (.sipush 200, 3) := by decide +kernel
theorem dX8_addMould_26 : decode cX8_addMould 26 = .ok (.invokestatic 91, 3) := by decide +kernel
theorem dX8_addMould_29 : decode cX8_addMould 29 = .ok (.ifCond .eq 32, 3) := by decide +kernel
theorem dX8_addMould_32 : decode cX8_addMould 32 = .ok (.iload 4, 2) := by decide +kernel
theorem dX8_addMould_34 : decode cX8_addMould 34 = .ok (.iconst 1, 1) := by decide +kernel
theorem dX8_addMould_35 : decode cX8_addMould 35 = .ok (.sipush 999, 3) := by decide +kernel
theorem dX8_addMould_38 : decode cX8_addMould 38 = .ok (.invokestatic 91, 3) := by decide +kernel
theorem dX8_addMould_41 : decode cX8_addMould 41 = .ok (.ifCond .eq 20, 3) := by decide +kernel
theorem dX8_addMould_44 : decode cX8_addMould 44 = .ok (.iload 5, 2) := by decide +kernel
theorem dX8_addMould_46 : decode cX8_addMould 46 = .ok (.bipush 60, 2) := by decide +kernel
theorem dX8_addMould_48 : decode cX8_addMould 48 = .ok (.sipush 3600, 3) := by decide +kernel
theorem dX8_addMould_51 : decode cX8_addMould 51 = .ok (.invokestatic 91, 3) := by decide +kernel
theorem dX8_addMould_54 : decode cX8_addMould 54 = .ok (.ifCond .eq 7, 3) := by decide +kernel
theorem dX8_addMould_57 : decode cX8_addMould 57 = .ok (.iconst 1, 1) := by decide +kernel
theorem dX8_addMould_58 : decode cX8_addMould 58 = .ok (.goto 4, 3) := by decide +kernel
theorem dX8_addMould_61 : decode cX8_addMould 61 = .ok (.iconst 0, 1) := by decide +kernel
theorem dX8_addMould_62 : decode cX8_addMould 62 = .ok (.istore 6, 2) := by decide +kernel
theorem dX8_addMould_64 : decode cX8_addMould 64 = .ok (.aload_n 0, 1) := by decide +kernel
theorem dX8_addMould_65 : decode cX8_addMould 65 = .ok (.iload 6, 2) := by decide +kernel
theorem dX8_addMould_67 : decode cX8_addMould 67 = .ok (.ifCond .ne 7, 3) := by decide +kernel
theorem dX8_addMould_70 : decode cX8_addMould 70 = .ok (.iconst 1, 1) := by decide +kernel
theorem dX8_addMould_71 : decode cX8_addMould 71 = .ok (.goto 16, 3) := by decide +kernel
theorem dX8_addMould_74 : decode cX8_addMould 74 = .ok (.aload_n 0, 1) := by decide +kernel
theorem dX8_addMould_75 : decode cX8_addMould 75 = .ok (.getfield 98, 3) := by decide +kernel
theorem dX8_addMould_78 : decode cX8_addMould 78 = .ok (.iconst 5, 1) := by decide +kernel
theorem dX8_addMould_79 : decode cX8_addMould 79 = .ok (.if_icmp .ne 7, 3) := by decide +kernel
theorem dX8_addMould_82 : decode cX8_addMould 82 = .ok (.iconst 2, 1) := by decide +kernel
theorem dX8_addMould_83 : decode cX8_addMould 83 = .ok (.goto 4, 3) := by decide +kernel
theorem dX8_addMould_86 : decode cX8_addMould 86 = .ok (.iconst 0, 1) := by decide +kernel
theorem dX8_addMould_87 : decode cX8_addMould 87 = .ok (.putfield 84, 3) := by decide +kernel
theorem dX8_addMould_90 : decode cX8_addMould 90 = .ok (.aload_n 0, 1) := by decide +kernel
theorem dX8_addMould_91 : decode cX8_addMould 91 = .ok (.getfield 84, 3) := by decide +kernel
theorem dX8_addMould_94 : decode cX8_addMould 94 = .ok (.ifCond .le 5, 3) := by decide +kernel
theorem dX8_addMould_97 : decode cX8_addMould 97 = .ok (.iconst 0, 1) := by decide +kernel
theorem dX8_addMould_98 : decode cX8_addMould 98 = .ok (.ireturn, 1) := by decide +kernel
theorem dX8_addMould_99 : decode cX8_addMould 99 = .ok (.aload_n 0, 1) := by decide +kernel
theorem dX8_addMould_100 : decode cX8_addMould 100 = .ok (.getfield 25, 3) := by decide +kernel
theorem dX8_addMould_103 : decode cX8_addMould 103 = .ok (.aload_n 0, 1) := by decide +kernel
theorem dX8_addMould_104 : decode cX8_addMould 104 = .ok (.getfield 98, 3) := by decide +kernel
theorem dX8_addMould_107 : decode cX8_addMould 107 = .ok (.iload_n 1, 1) := by decide +kernel
theorem dX8_addMould_108 : decode cX8_addMould 108 = .ok (.iastore, 1) := by decide +kernel
theorem dX8_addMould_109 : decode cX8_addMould 109 = .ok (.aload_n 0, 1) := by decide +kernel
theorem dX8_addMould_110 : decode cX8_addMould 110 = .ok (.getfield 28, 3) := by decide +kernel
theorem dX8_addMould_113 : decode cX8_addMould 113 = .ok (.aload_n 0, 1) := by decide +kernel
theorem dX8_addMould_114 : decode cX8_addMould 114 = .ok (.getfield 98, 3) := by decide +kernel
theorem dX8_addMould_117 : decode cX8_addMould 117 = .ok (.iload_n 2, 1) := by decide +kernel
theorem dX8_addMould_118 : decode cX8_addMould 118 = .ok (.iastore, 1) := by decide +kernel
theorem dX8_addMould_119 : decode cX8_addMould 119 = .ok (.aload_n 0, 1) := by decide +kernel
theorem dX8_addMould_120 : decode cX8_addMould 120 = .ok (.getfield 31, 3) := by decide +kernel
theorem dX8_addMould_123 : decode cX8_addMould 123 = .ok (.aload_n 0, 1) := by decide +kernel
theorem dX8_addMould_124 : decode cX8_addMould 124 = .ok (.getfield 98, 3) := by decide +kernel
theorem dX8_addMould_127 : decode cX8_addMould 127 = .ok (.iload_n 3, 1) := by decide +kernel
theorem dX8_addMould_128 : decode cX8_addMould 128 = .ok (.iastore, 1) := by decide +kernel
theorem dX8_addMould_129 : decode cX8_addMould 129 = .ok (.aload_n 0, 1) := by decide +kernel
theorem dX8_addMould_130 : decode cX8_addMould 130 = .ok (.getfield 34, 3) := by decide +kernel
theorem dX8_addMould_133 : decode cX8_addMould 133 = .ok (.aload_n 0, 1) := by decide +kernel
theorem dX8_addMould_134 : decode cX8_addMould 134 = .ok (.getfield 98, 3) := by decide +kernel
theorem dX8_addMould_137 : decode cX8_addMould 137 = .ok (.iload 4, 2) := by decide +kernel
theorem dX8_addMould_139 : decode cX8_addMould 139 = .ok (.iastore, 1) := by decide +kernel
theorem dX8_addMould_140 : decode cX8_addMould 140 = .ok (.aload_n 0, 1) := by decide +kernel
theorem dX8_addMould_141 : decode cX8_addMould 141 = .ok (.getfield 37, 3) := by decide +kernel
theorem dX8_addMould_144 : decode cX8_addMould 144 = .ok (.aload_n 0, 1) := by decide +kernel
theorem dX8_addMould_145 : decode cX8_addMould 145 = .ok (.getfield 98, 3) := by decide +kernel
theorem dX8_addMould_148 : decode cX8_addMould 148 = .ok (.iload 5, 2) := by decide +kernel
theorem dX8_addMould_150 : decode cX8_addMould 150 = .ok (.iastore, 1) := by decide +kernel
theorem dX8_addMould_151 : decode cX8_addMould 151 = .ok (.iconst 0, 1) := by decide +kernel
theorem dX8_addMould_152 : decode cX8_addMould 152 = .ok (.istore 7, 2) := by decide +kernel
theorem dX8_addMould_154 : decode cX8_addMould 154 = .ok (.iload 7, 2) := by decide +kernel
theorem dX8_addMould_156 : decode cX8_addMould 156 = .ok (.bipush 8, 2) := by decide +kernel
theorem dX8_addMould_158 : decode cX8_addMould 158 = .ok (.if_icmp .ge 24, 3) := by decide +kernel
theorem dX8_addMould_161 : decode cX8_addMould 161 = .ok (.aload_n 0, 1) := by decide +kernel
theorem dX8_addMould_162 : decode cX8_addMould 162 = .ok (.getfield 47, 3) := by decide +kernel
theorem dX8_addMould_165 : decode cX8_addMould 165 = .ok (.aload_n 0, 1) := by decide +kernel
theorem dX8_addMould_166 : decode cX8_addMould 166 = .ok (.getfield 98, 3) := by decide +kernel
theorem dX8_addMould_169 : decode cX8_addMould 169 = .ok (.aaload, 1) := by decide +kernel
theorem dX8_addMould_170 : decode cX8_addMould 170 = .ok (.iload 7, 2) := by decide +kernel
theorem dX8_addMould_172 : decode cX8_addMould 172 = .ok (.sipush 9999, 3) := by decide +kernel
theorem dX8_addMould_175 : decode cX8_addMould 175 = .ok (.iastore, 1) := by decide +kernel
theorem dX8_addMould_176 : decode cX8_addMould 176 = .ok (.iinc 7 1, 3) := by decide +kernel
theorem dX8_addMould_179 : decode cX8_addMould 179 = .ok (.goto (-25), 3) := by decide +kernel
theorem dX8_addMould_182 : decode cX8_addMould 182 = .ok (.aload_n 0, 1) := by decide +kernel
theorem dX8_addMould_183 : decode cX8_addMould 183 = .ok (.dup, 1) := by decide +kernel
theorem dX8_addMould_184 : decode cX8_addMould 184 = .ok (.getfield 98, 3) := by decide +kernel
theorem dX8_addMould_187 : decode cX8_addMould 187 = .ok (.iconst 1, 1) := by decide +kernel
theorem dX8_addMould_188 : decode cX8_addMould 188 = .ok (.iadd, 1) := by decide +kernel
theorem dX8_addMould_189 : decode cX8_addMould 189 = .ok (.putfield 98, 3) := by decide +kernel
theorem dX8_addMould_192 : decode cX8_addMould 192 = .ok (.aload_n 0, 1) := by decide +kernel
theorem dX8_addMould_193 : decode cX8_addMould 193 = .ok (.getfield 98, 3) := by decide +kernel
theorem dX8_addMould_196 : decode cX8_addMould 196 = .ok (.iconst 1, 1) := by decide +kernel
theorem dX8_addMould_197 : decode cX8_addMould 197 = .ok (.isub, 1) := by decide +kernel
theorem dX8_addMould_198 : decode cX8_addMould 198 = .ok (.ireturn, 1) := by decide +kernel
theorem dX8_fails_0 : decode cX8_fails 0 = .ok (.aload_n 0, 1) := by decide +kernel
theorem dX8_fails_1 : decode cX8_fails 1 = .ok (.getfield 42, 3) := by decide +kernel
theorem dX8_fails_4 : decode cX8_fails 4 = .ok (.iload_n 1, 1) := by decide +kernel
theorem dX8_fails_5 : decode cX8_fails 5 = .ok (.aaload, 1) := by decide +kernel
theorem dX8_fails_6 : decode cX8_fails 6 = .ok (.iload_n 2, 1) := by decide +kernel
theorem dX8_fails_7 : decode cX8_fails 7 = .ok (.aload_n 0, 1) := by decide +kernel
theorem dX8_fails_8 : decode cX8_fails 8 = .ok (.getfield 42, 3) := by decide +kernel
theorem dX8_fails_11 : decode cX8_fails 11 = .ok (.iload_n 1, 1) := by decide +kernel
theorem dX8_fails_12 : decode cX8_fails 12 = .ok (.aaload, 1) := by decide +kernel
theorem dX8_fails_13 : decode cX8_fails 13 = .ok (.iload_n 2, 1) := by decide +kernel
theorem dX8_fails_14 : decode cX8_fails 14 = .ok (.baload, 1) := by decide +kernel
theorem dX8_fails_15 : decode cX8_fails 15 = .ok (.ifCond .ne 22, 3) := by decide +kernel
theorem dX8_fails_18 : decode cX8_fails 18 = .ok (.aload_n 0, 1) := by decide +kernel
theorem dX8_fails_19 : decode cX8_fails 19 = .ok (.getfield 50, 3) := by decide +kernel
theorem dX8_fails_22 : decode cX8_fails 22 = .ok (.iload_n 1, 1) := by decide +kernel
theorem dX8_fails_23 : decode cX8_fails 23 = .ok (.aaload, 1) := by decide +kernel
theorem dX8_fails_24 : decode cX8_fails 24 = .ok (.iload_n 2, 1) := by decide +kernel
theorem dX8_fails_25 : decode cX8_fails 25 = .ok (.iaload, 1) := by decide +kernel
theorem dX8_fails_26 : decode cX8_fails 26 = .ok (.aload_n 0, 1) := by decide +kernel
theorem dX8_fails_27 : decode cX8_fails 27 = .ok (.getfield 47, 3) := by decide +kernel
theorem dX8_fails_30 : decode cX8_fails 30 = .ok (.iload_n 1, 1) := by decide +kernel
theorem dX8_fails_31 : decode cX8_fails 31 = .ok (.aaload, 1) := by decide +kernel
theorem dX8_fails_32 : decode cX8_fails 32 = .ok (.iload_n 2, 1) := by decide +kernel
theorem dX8_fails_33 : decode cX8_fails 33 = .ok (.iaload, 1) := by decide +kernel
theorem dX8_fails_34 : decode cX8_fails 34 = .ok (.if_icmp .lt 7, 3) := by decide +kernel
theorem dX8_fails_37 : decode cX8_fails 37 = .ok (.iconst 1, 1) := by decide +kernel
theorem dX8_fails_38 : decode cX8_fails 38 = .ok (.goto 4, 3) := by decide +kernel
theorem dX8_fails_41 : decode cX8_fails 41 = .ok (.iconst 0, 1) := by decide +kernel
theorem dX8_fails_42 : decode cX8_fails 42 = .ok (.bastore, 1) := by decide +kernel
theorem dX8_fails_43 : decode cX8_fails 43 = .ok (.return_, 1) := by decide +kernel
theorem dX8_setLife_0 : decode cX8_setLife 0 = .ok (.aload_n 0, 1) := by decide +kernel
theorem dX8_setLife_1 : decode cX8_setLife 1 = .ok (.aload_n 0, 1) := by decide +kernel
theorem dX8_setLife_2 : decode cX8_setLife 2 = .ok (.iload_n 1, 1) := by decide +kernel
theorem dX8_setLife_3 : decode cX8_setLife 3 = .ok (.iload_n 2, 1) := by decide +kernel
theorem dX8_setLife_4 : decode cX8_setLife 4 = .ok (.invokevirtual 135, 3) := by decide +kernel
theorem dX8_setLife_7 : decode cX8_setLife 7 = .ok (.ifCond .ne 7, 3) := by decide +kernel
theorem dX8_setLife_10 : decode cX8_setLife 10 = .ok (.iconst 1, 1) := by decide +kernel
theorem dX8_setLife_11 : decode cX8_setLife 11 = .ok (.goto 19, 3) := by decide +kernel
theorem dX8_setLife_14 : decode cX8_setLife 14 = .ok (.iload_n 3, 1) := by decide +kernel
theorem dX8_setLife_15 : decode cX8_setLife 15 = .ok (.iconst 1, 1) := by decide +kernel
theorem dX8_setLife_16 : decode cX8_setLife 16 = .ok (.sipush 9999, 3) := by decide +kernel
theorem dX8_setLife_19 : decode cX8_setLife 19 = .ok (.invokestatic 91, 3) := by decide +kernel
theorem dX8_setLife_22 : decode cX8_setLife 22 = .ok (.ifCond .ne 7, 3) := by decide +kernel
theorem dX8_setLife_25 : decode cX8_setLife 25 = .ok (.iconst 2, 1) := by decide +kernel
theorem dX8_setLife_26 : decode cX8_setLife 26 = .ok (.goto 4, 3) := by decide +kernel
theorem dX8_setLife_29 : decode cX8_setLife 29 = .ok (.iconst 0, 1) := by decide +kernel
theorem dX8_setLife_30 : decode cX8_setLife 30 = .ok (.putfield 84, 3) := by decide +kernel
theorem dX8_setLife_33 : decode cX8_setLife 33 = .ok (.aload_n 0, 1) := by decide +kernel
theorem dX8_setLife_34 : decode cX8_setLife 34 = .ok (.getfield 84, 3) := by decide +kernel
theorem dX8_setLife_37 : decode cX8_setLife 37 = .ok (.ifCond .le 5, 3) := by decide +kernel
theorem dX8_setLife_40 : decode cX8_setLife 40 = .ok (.iconst 0, 1) := by decide +kernel
theorem dX8_setLife_41 : decode cX8_setLife 41 = .ok (.ireturn, 1) := by decide +kernel
theorem dX8_setLife_42 : decode cX8_setLife 42 = .ok (.aload_n 0, 1) := by decide +kernel
theorem dX8_setLife_43 : decode cX8_setLife 43 = .ok (.getfield 47, 3) := by decide +kernel
theorem dX8_setLife_46 : decode cX8_setLife 46 = .ok (.iload_n 1, 1) := by decide +kernel
theorem dX8_setLife_47 : decode cX8_setLife 47 = .ok (.aaload, 1) := by decide +kernel
theorem dX8_setLife_48 : decode cX8_setLife 48 = .ok (.iload_n 2, 1) := by decide +kernel
theorem dX8_setLife_49 : decode cX8_setLife 49 = .ok (.iload_n 3, 1) := by decide +kernel
theorem dX8_setLife_50 : decode cX8_setLife 50 = .ok (.iastore, 1) := by decide +kernel
theorem dX8_setLife_51 : decode cX8_setLife 51 = .ok (.aload_n 0, 1) := by decide +kernel
theorem dX8_setLife_52 : decode cX8_setLife 52 = .ok (.iload_n 1, 1) := by decide +kernel
theorem dX8_setLife_53 : decode cX8_setLife 53 = .ok (.iload_n 2, 1) := by decide +kernel
theorem dX8_setLife_54 : decode cX8_setLife 54 = .ok (.invokevirtual 139, 3) := by decide +kernel
theorem dX8_setLife_57 : decode cX8_setLife 57 = .ok (.aload_n 0, 1) := by decide +kernel
theorem dX8_setLife_58 : decode cX8_setLife 58 = .ok (.getfield 50, 3) := by decide +kernel
theorem dX8_setLife_61 : decode cX8_setLife 61 = .ok (.iload_n 1, 1) := by decide +kernel
theorem dX8_setLife_62 : decode cX8_setLife 62 = .ok (.aaload, 1) := by decide +kernel
theorem dX8_setLife_63 : decode cX8_setLife 63 = .ok (.iload_n 2, 1) := by decide +kernel
theorem dX8_setLife_64 : decode cX8_setLife 64 = .ok (.iaload, 1) := by decide +kernel
theorem dX8_setLife_65 : decode cX8_setLife 65 = .ok (.ireturn, 1) := by decide +kernel
theorem dX8_open_0 : decode cX8_open 0 = .ok (.iconst 0, 1) := by decide +kernel
theorem dX8_open_1 : decode cX8_open 1 = .ok (.istore_n 2, 1) := by decide +kernel
theorem dX8_open_2 : decode cX8_open 2 = .ok (.iconst 0, 1) := by decide +kernel
theorem dX8_open_3 : decode cX8_open 3 = .ok (.istore_n 3, 1) := by decide +kernel
theorem dX8_open_4 : decode cX8_open 4 = .ok (.iload_n 3, 1) := by decide +kernel
theorem dX8_open_5 : decode cX8_open 5 = .ok (.aload_n 0, 1) := by decide +kernel
theorem dX8_open_6 : decode cX8_open 6 = .ok (.getfield 25, 3) := by decide +kernel
theorem dX8_open_9 : decode cX8_open 9 = .ok (.iload_n 1, 1) := by decide +kernel
theorem dX8_open_10 : decode cX8_open 10 = .ok (.iaload, 1) := by decide +kernel
theorem dX8_open_11 : decode cX8_open 11 = .ok (.if_icmp .ge 28, 3) := by decide +kernel
theorem dX8_open_14 : decode cX8_open 14 = .ok (.iload_n 2, 1) := by decide +kernel
theorem dX8_open_15 : decode cX8_open 15 = .ok (.aload_n 0, 1) := by decide +kernel
theorem dX8_open_16 : decode cX8_open 16 = .ok (.getfield 42, 3) := by decide +kernel
theorem dX8_open_19 : decode cX8_open 19 = .ok (.iload_n 1, 1) := by decide +kernel
theorem dX8_open_20 : decode cX8_open 20 = .ok (.aaload, 1) := by decide +kernel
theorem dX8_open_21 : decode cX8_open 21 = .ok (.iload_n 3, 1) := by decide +kernel
theorem dX8_open_22 : decode cX8_open 22 = .ok (.baload, 1) := by decide +kernel
theorem dX8_open_23 : decode cX8_open 23 = .ok (.ifCond .eq 7, 3) := by decide +kernel
theorem dX8_open_26 : decode cX8_open 26 = .ok (.iconst 0, 1) := by decide +kernel
theorem dX8_open_27 : decode cX8_open 27 = .ok (.goto 4, 3) := by decide +kernel
theorem dX8_open_30 : decode cX8_open 30 = .ok (.iconst 1, 1) := by decide +kernel
theorem dX8_open_31 : decode cX8_open 31 = .ok (.iadd, 1) := by decide +kernel
theorem dX8_open_32 : decode cX8_open 32 = .ok (.istore_n 2, 1) := by decide +kernel
theorem dX8_open_33 : decode cX8_open 33 = .ok (.iinc 3 1, 3) := by decide +kernel
theorem dX8_open_36 : decode cX8_open 36 = .ok (.goto (-32), 3) := by decide +kernel
theorem dX8_open_39 : decode cX8_open 39 = .ok (.iload_n 2, 1) := by decide +kernel
theorem dX8_open_40 : decode cX8_open 40 = .ok (.ireturn, 1) := by decide +kernel
theorem dX8_block_0 : decode cX8_block 0 = .ok (.aload_n 0, 1) := by decide +kernel
theorem dX8_block_1 : decode cX8_block 1 = .ok (.aload_n 0, 1) := by decide +kernel
theorem dX8_block_2 : decode cX8_block 2 = .ok (.iload_n 1, 1) := by decide +kernel
theorem dX8_block_3 : decode cX8_block 3 = .ok (.iload_n 2, 1) := by decide +kernel
theorem dX8_block_4 : decode cX8_block 4 = .ok (.invokevirtual 135, 3) := by decide +kernel
theorem dX8_block_7 : decode cX8_block 7 = .ok (.ifCond .ne 7, 3) := by decide +kernel
theorem dX8_block_10 : decode cX8_block 10 = .ok (.iconst 1, 1) := by decide +kernel
theorem dX8_block_11 : decode cX8_block 11 = .ok (.goto 19, 3) := by decide +kernel
theorem dX8_block_14 : decode cX8_block 14 = .ok (.aload_n 0, 1) := by decide +kernel
theorem dX8_block_15 : decode cX8_block 15 = .ok (.getfield 42, 3) := by decide +kernel
theorem dX8_block_18 : decode cX8_block 18 = .ok (.iload_n 1, 1) := by decide +kernel
theorem dX8_block_19 : decode cX8_block 19 = .ok (.aaload, 1) := by decide +kernel
theorem dX8_block_20 : decode cX8_block 20 = .ok (.iload_n 2, 1) := by decide +kernel
theorem dX8_block_21 : decode cX8_block 21 = .ok (.baload, 1) := by decide +kernel
theorem dX8_block_22 : decode cX8_block 22 = .ok (.ifCond .eq 7, 3) := by decide +kernel
theorem dX8_block_25 : decode cX8_block 25 = .ok (.iconst 2, 1) := by decide +kernel
theorem dX8_block_26 : decode cX8_block 26 = .ok (.goto 4, 3) := by decide +kernel
theorem dX8_block_29 : decode cX8_block 29 = .ok (.iconst 0, 1) := by decide +kernel
theorem dX8_block_30 : decode cX8_block 30 = .ok (.putfield 84, 3) := by decide +kernel
theorem dX8_block_33 : decode cX8_block 33 = .ok (.aload_n 0, 1) := by decide +kernel
theorem dX8_block_34 : decode cX8_block 34 = .ok (.getfield 84, 3) := by decide +kernel
theorem dX8_block_37 : decode cX8_block 37 = .ok (.ifCond .le 5, 3) := by decide +kernel
theorem dX8_block_40 : decode cX8_block 40 = .ok (.iconst 0, 1) := by decide +kernel
theorem dX8_block_41 : decode cX8_block 41 = .ok (.ireturn, 1) := by decide +kernel
theorem dX8_block_42 : decode cX8_block 42 = .ok (.aload_n 0, 1) := by decide +kernel
theorem dX8_block_43 : decode cX8_block 43 = .ok (.getfield 42, 3) := by decide +kernel
theorem dX8_block_46 : decode cX8_block 46 = .ok (.iload_n 1, 1) := by decide +kernel
theorem dX8_block_47 : decode cX8_block 47 = .ok (.aaload, 1) := by decide +kernel
theorem dX8_block_48 : decode cX8_block 48 = .ok (.iload_n 2, 1) := by decide +kernel
theorem dX8_block_49 : decode cX8_block 49 = .ok (.iconst 1, 1) := by decide +kernel
theorem dX8_block_50 : decode cX8_block 50 = .ok (.bastore, 1) := by decide +kernel
theorem dX8_block_51 : decode cX8_block 51 = .ok (.aload_n 0, 1) := by decide +kernel
theorem dX8_block_52 : decode cX8_block 52 = .ok (.iload_n 1, 1) := by decide +kernel
theorem dX8_block_53 : decode cX8_block 53 = .ok (.invokevirtual 143, 3) := by decide +kernel
theorem dX8_block_56 : decode cX8_block 56 = .ok (.ireturn, 1) := by decide +kernel
theorem dX8_isMounted_0 : decode cX8_isMounted 0 = .ok (.iconst 0, 1) := by decide +kernel
theorem dX8_isMounted_1 : decode cX8_isMounted 1 = .ok (.istore_n 2, 1) := by decide +kernel
theorem dX8_isMounted_2 : decode cX8_isMounted 2 = .ok (.iconst 0, 1) := by decide +kernel
theorem dX8_isMounted_3 : decode cX8_isMounted 3 = .ok (.istore_n 3, 1) := by decide +kernel
theorem dX8_isMounted_4 : decode cX8_isMounted 4 = .ok (.iload_n 3, 1) := by decide +kernel
theorem dX8_isMounted_5 : decode cX8_isMounted 5 = .ok (.aload_n 0, 1) := by decide +kernel
theorem dX8_isMounted_6 : decode cX8_isMounted 6 = .ok (.getfield 105, 3) := by decide +kernel
theorem dX8_isMounted_9 : decode cX8_isMounted 9 = .ok (.if_icmp .ge 29, 3) := by decide +kernel
theorem dX8_isMounted_12 : decode cX8_isMounted 12 = .ok (.iload_n 2, 1) := by decide +kernel
theorem dX8_isMounted_13 : decode cX8_isMounted 13 = .ok (.ifCond .ne 13, 3) := by decide +kernel
theorem dX8_isMounted_16 : decode cX8_isMounted 16 = .ok (.aload_n 0, 1) := by decide +kernel
theorem dX8_isMounted_17 : decode cX8_isMounted 17 = .ok (.getfield 56, 3) := by decide +kernel
theorem dX8_isMounted_20 : decode cX8_isMounted 20 = .ok (.iload_n 3, 1) := by decide +kernel
theorem dX8_isMounted_21 : decode cX8_isMounted 21 = .ok (.iaload, 1) := by decide +kernel
theorem dX8_isMounted_22 : decode cX8_isMounted 22 = .ok (.iload_n 1, 1) := by decide +kernel
theorem dX8_isMounted_23 : decode cX8_isMounted 23 = .ok (.if_icmp .ne 7, 3) := by decide +kernel
theorem dX8_isMounted_26 : decode cX8_isMounted 26 = .ok (.iconst 1, 1) := by decide +kernel
theorem dX8_isMounted_27 : decode cX8_isMounted 27 = .ok (.goto 4, 3) := by decide +kernel
theorem dX8_isMounted_30 : decode cX8_isMounted 30 = .ok (.iconst 0, 1) := by decide +kernel
theorem dX8_isMounted_31 : decode cX8_isMounted 31 = .ok (.istore_n 2, 1) := by decide +kernel
theorem dX8_isMounted_32 : decode cX8_isMounted 32 = .ok (.iinc 3 1, 3) := by decide +kernel
theorem dX8_isMounted_35 : decode cX8_isMounted 35 = .ok (.goto (-31), 3) := by decide +kernel
theorem dX8_isMounted_38 : decode cX8_isMounted 38 = .ok (.iload_n 2, 1) := by decide +kernel
theorem dX8_isMounted_39 : decode cX8_isMounted 39 = .ok (.ireturn, 1) := by decide +kernel
theorem dX8_repair_0 : decode cX8_repair 0 = .ok (.aload_n 0, 1) := by decide +kernel
theorem dX8_repair_1 : decode cX8_repair 1 = .ok (.aload_n 0, 1) := by decide +kernel
theorem dX8_repair_2 : decode cX8_repair 2 = .ok (.iload_n 1, 1) := by decide +kernel
theorem dX8_repair_3 : decode cX8_repair 3 = .ok (.iload_n 2, 1) := by decide +kernel
theorem dX8_repair_4 : decode cX8_repair 4 = .ok (.invokevirtual 135, 3) := by decide +kernel
theorem dX8_repair_7 : decode cX8_repair 7 = .ok (.ifCond .ne 7, 3) := by decide +kernel
theorem dX8_repair_10 : decode cX8_repair 10 = .ok (.iconst 1, 1) := by decide +kernel
theorem dX8_repair_11 : decode cX8_repair 11 = .ok (.goto 27, 3) := by decide +kernel
theorem dX8_repair_14 : decode cX8_repair 14 = .ok (.aload_n 0, 1) := by decide +kernel
theorem dX8_repair_15 : decode cX8_repair 15 = .ok (.getfield 42, 3) := by decide +kernel
theorem dX8_repair_18 : decode cX8_repair 18 = .ok (.iload_n 1, 1) := by decide +kernel
theorem dX8_repair_19 : decode cX8_repair 19 = .ok (.aaload, 1) := by decide +kernel
theorem dX8_repair_20 : decode cX8_repair 20 = .ok (.iload_n 2, 1) := by decide +kernel
theorem dX8_repair_21 : decode cX8_repair 21 = .ok (.baload, 1) := by decide +kernel
theorem dX8_repair_22 : decode cX8_repair 22 = .ok (.ifCond .eq 11, 3) := by decide +kernel
theorem dX8_repair_25 : decode cX8_repair 25 = .ok (.aload_n 0, 1) := by decide +kernel
theorem dX8_repair_26 : decode cX8_repair 26 = .ok (.iload_n 1, 1) := by decide +kernel
theorem dX8_repair_27 : decode cX8_repair 27 = .ok (.invokevirtual 146, 3) := by decide +kernel
theorem dX8_repair_30 : decode cX8_repair 30 = .ok (.ifCond .eq 7, 3) := by decide +kernel
theorem dX8_repair_33 : decode cX8_repair 33 = .ok (.iconst 2, 1) := by decide +kernel
theorem dX8_repair_34 : decode cX8_repair 34 = .ok (.goto 4, 3) := by decide +kernel
theorem dX8_repair_37 : decode cX8_repair 37 = .ok (.iconst 0, 1) := by decide +kernel
theorem dX8_repair_38 : decode cX8_repair 38 = .ok (.putfield 84, 3) := by decide +kernel
theorem dX8_repair_41 : decode cX8_repair 41 = .ok (.aload_n 0, 1) := by decide +kernel
theorem dX8_repair_42 : decode cX8_repair 42 = .ok (.getfield 84, 3) := by decide +kernel
theorem dX8_repair_45 : decode cX8_repair 45 = .ok (.ifCond .le 5, 3) := by decide +kernel
theorem dX8_repair_48 : decode cX8_repair 48 = .ok (.iconst 0, 1) := by decide +kernel
theorem dX8_repair_49 : decode cX8_repair 49 = .ok (.ireturn, 1) := by decide +kernel
theorem dX8_repair_50 : decode cX8_repair 50 = .ok (.aload_n 0, 1) := by decide +kernel
theorem dX8_repair_51 : decode cX8_repair 51 = .ok (.getfield 42, 3) := by decide +kernel
theorem dX8_repair_54 : decode cX8_repair 54 = .ok (.iload_n 1, 1) := by decide +kernel
theorem dX8_repair_55 : decode cX8_repair 55 = .ok (.aaload, 1) := by decide +kernel
theorem dX8_repair_56 : decode cX8_repair 56 = .ok (.iload_n 2, 1) := by decide +kernel
theorem dX8_repair_57 : decode cX8_repair 57 = .ok (.iconst 0, 1) := by decide +kernel
theorem dX8_repair_58 : decode cX8_repair 58 = .ok (.bastore, 1) := by decide +kernel
theorem dX8_repair_59 : decode cX8_repair 59 = .ok (.aload_n 0, 1) := by decide +kernel
theorem dX8_repair_60 : decode cX8_repair 60 = .ok (.getfield 50, 3) := by decide +kernel
theorem dX8_repair_63 : decode cX8_repair 63 = .ok (.iload_n 1, 1) := by decide +kernel
theorem dX8_repair_64 : decode cX8_repair 64 = .ok (.aaload, 1) := by decide +kernel
theorem dX8_repair_65 : decode cX8_repair 65 = .ok (.iload_n 2, 1) := by decide +kernel
theorem dX8_repair_66 : decode cX8_repair 66 = .ok (.iconst 0, 1) := by decide +kernel
theorem dX8_repair_67 : decode cX8_repair 67 = .ok (.iastore, 1) := by decide +kernel
theorem dX8_repair_68 : decode cX8_repair 68 = .ok (.aload_n 0, 1) := by decide +kernel
theorem dX8_repair_69 : decode cX8_repair 69 = .ok (.iload_n 1, 1) := by decide +kernel
theorem dX8_repair_70 : decode cX8_repair 70 = .ok (.invokevirtual 143, 3) := by decide +kernel
theorem dX8_repair_73 : decode cX8_repair 73 = .ok (.ireturn, 1) := by decide +kernel
theorem dX8_nextOpen_0 : decode cX8_nextOpen 0 = .ok (.aload_n 0, 1) := by decide +kernel
theorem dX8_nextOpen_1 : decode cX8_nextOpen 1 = .ok (.iload_n 1, 1) := by decide +kernel
theorem dX8_nextOpen_2 : decode cX8_nextOpen 2 = .ok (.invokevirtual 101, 3) := by decide +kernel
theorem dX8_nextOpen_5 : decode cX8_nextOpen 5 = .ok (.ifCond .ne 9, 3) := by decide +kernel
theorem dX8_nextOpen_8 : decode cX8_nextOpen 8 = .ok (.aload_n 0, 1) := by decide +kernel
theorem dX8_nextOpen_9 : decode cX8_nextOpen 9 = .ok (.iconst 1, 1) := by decide +kernel
theorem dX8_nextOpen_10 : decode cX8_nextOpen 10 = .ok (.invokevirtual 149, 3) := by decide +kernel
theorem dX8_nextOpen_13 : decode cX8_nextOpen 13 = .ok (.ireturn, 1) := by decide +kernel
theorem dX8_nextOpen_14 : decode cX8_nextOpen 14 = .ok (.iconst 0, 1) := by decide +kernel
theorem dX8_nextOpen_15 : decode cX8_nextOpen 15 = .ok (.iload_n 2, 1) := by decide +kernel
theorem dX8_nextOpen_16 : decode cX8_nextOpen 16 = .ok (.invokestatic 122, 3) := by decide +kernel
theorem dX8_nextOpen_19 : decode cX8_nextOpen 19 = .ok (.istore_n 3, 1) := by decide +kernel
theorem dX8_nextOpen_20 : decode cX8_nextOpen 20 = .ok (.iload_n 3, 1) := by decide +kernel
theorem dX8_nextOpen_21 : decode cX8_nextOpen 21 = .ok (.aload_n 0, 1) := by decide +kernel
theorem dX8_nextOpen_22 : decode cX8_nextOpen 22 = .ok (.getfield 25, 3) := by decide +kernel
theorem dX8_nextOpen_25 : decode cX8_nextOpen 25 = .ok (.iload_n 1, 1) := by decide +kernel
theorem dX8_nextOpen_26 : decode cX8_nextOpen 26 = .ok (.iaload, 1) := by decide +kernel
theorem dX8_nextOpen_27 : decode cX8_nextOpen 27 = .ok (.if_icmp .ge 27, 3) := by decide +kernel
theorem dX8_nextOpen_30 : decode cX8_nextOpen 30 = .ok (.aload_n 0, 1) := by decide +kernel
theorem dX8_nextOpen_31 : decode cX8_nextOpen 31 = .ok (.getfield 42, 3) := by decide +kernel
theorem dX8_nextOpen_34 : decode cX8_nextOpen 34 = .ok (.iload_n 1, 1) := by decide +kernel
theorem dX8_nextOpen_35 : decode cX8_nextOpen 35 = .ok (.aaload, 1) := by decide +kernel
theorem dX8_nextOpen_36 : decode cX8_nextOpen 36 = .ok (.iload_n 3, 1) := by decide +kernel
theorem dX8_nextOpen_37 : decode cX8_nextOpen 37 = .ok (.baload, 1) := by decide +kernel
theorem dX8_nextOpen_38 : decode cX8_nextOpen 38 = .ok (.ifCond .ne 10, 3) := by decide +kernel
theorem dX8_nextOpen_41 : decode cX8_nextOpen 41 = .ok (.aload_n 0, 1) := by decide +kernel
theorem dX8_nextOpen_42 : decode cX8_nextOpen 42 = .ok (.iconst 0, 1) := by decide +kernel
theorem dX8_nextOpen_43 : decode cX8_nextOpen 43 = .ok (.putfield 84, 3) := by decide +kernel
theorem dX8_nextOpen_46 : decode cX8_nextOpen 46 = .ok (.iload_n 3, 1) := by decide +kernel
theorem dX8_nextOpen_47 : decode cX8_nextOpen 47 = .ok (.ireturn, 1) := by decide +kernel
theorem dX8_nextOpen_48 : decode cX8_nextOpen 48 = .ok (.iinc 3 1, 3) := by decide +kernel
theorem dX8_nextOpen_51 : decode cX8_nextOpen 51 = .ok (.goto (-31), 3) := by decide +kernel
theorem dX8_nextOpen_54 : decode cX8_nextOpen 54 = .ok (.aload_n 0, 1) := by decide +kernel
theorem dX8_nextOpen_55 : decode cX8_nextOpen 55 = .ok (.iconst 2, 1) := by decide +kernel
theorem dX8_nextOpen_56 : decode cX8_nextOpen 56 = .ok (.invokevirtual 149, 3) := by decide +kernel
theorem dX8_nextOpen_59 : decode cX8_nextOpen 59 = .ok (.ireturn, 1) := by decide +kernel
theorem dX8_addMachine_0 : decode cX8_addMachine 0 = .ok (.aload_n 0, 1) := by decide +kernel
theorem dX8_addMachine_1 : decode cX8_addMachine 1 = .ok (.iload_n 1, 1) := by decide +kernel
theorem dX8_addMachine_2 : decode cX8_addMachine 2 = .ok (.iconst 1, 1) := by decide +kernel
theorem dX8_addMachine_3 : decode cX8_addMachine 3 = .ok (.sipush 999, 3) := by decide +kernel
theorem dX8_addMachine_6 : decode cX8_addMachine 6 = .ok (.invokestatic 91, 3) := by decide +kernel
theorem dX8_addMachine_9 : decode cX8_addMachine 9 = .ok (.ifCond .ne 7, 3) := by decide +kernel
theorem dX8_addMachine_12 : decode cX8_addMachine 12 = .ok (.iconst 1, 1) := by decide +kernel
theorem dX8_addMachine_13 : decode cX8_addMachine 13 = .ok (.goto 16, 3) := by decide +kernel
theorem dX8_addMachine_16 : decode cX8_addMachine 16 = .ok (.aload_n 0, 1) := by decide +kernel
theorem dX8_addMachine_17 : decode cX8_addMachine 17 = .ok (.getfield 105, 3) := by decide +kernel
theorem dX8_addMachine_20 : decode cX8_addMachine 20 = .ok (.iconst 3, 1) := by decide +kernel
theorem dX8_addMachine_21 : decode cX8_addMachine 21 = .ok (.if_icmp .ne 7, 3) := by decide +kernel
theorem dX8_addMachine_24 : decode cX8_addMachine 24 = .ok (.iconst 2, 1) := by decide +kernel
theorem dX8_addMachine_25 : decode cX8_addMachine 25 = .ok (.goto 4, 3) := by decide +kernel
theorem dX8_addMachine_28 : decode cX8_addMachine 28 = .ok (.iconst 0, 1) := by decide +kernel
theorem dX8_addMachine_29 : decode cX8_addMachine 29 = .ok (.putfield 84, 3) := by decide +kernel
theorem dX8_addMachine_32 : decode cX8_addMachine 32 = .ok (.aload_n 0, 1) := by decide +kernel
theorem dX8_addMachine_33 : decode cX8_addMachine 33 = .ok (.getfield 84, 3) := by decide +kernel
theorem dX8_addMachine_36 : decode cX8_addMachine 36 = .ok (.ifCond .le 5, 3) := by decide +kernel
theorem dX8_addMachine_39 : decode cX8_addMachine 39 = .ok (.iconst 0, 1) := by decide +kernel
theorem dX8_addMachine_40 : decode cX8_addMachine 40 = .ok (.ireturn, 1) := by decide +kernel
theorem dX8_addMachine_41 : decode cX8_addMachine 41 = .ok (.aload_n 0, 1) := by decide +kernel
theorem dX8_addMachine_42 : decode cX8_addMachine 42 = .ok (.getfield 53, 3) := by decide +kernel
theorem dX8_addMachine_45 : decode cX8_addMachine 45 = .ok (.aload_n 0, 1) := by decide +kernel
theorem dX8_addMachine_46 : decode cX8_addMachine 46 = .ok (.getfield 105, 3) := by decide +kernel
theorem dX8_addMachine_49 : decode cX8_addMachine 49 = .ok (.iload_n 1, 1) := by decide +kernel
theorem dX8_addMachine_50 : decode cX8_addMachine 50 = .ok (.iastore, 1) := by decide +kernel
theorem dX8_addMachine_51 : decode cX8_addMachine 51 = .ok (.aload_n 0, 1) := by decide +kernel
theorem dX8_addMachine_52 : decode cX8_addMachine 52 = .ok (.getfield 56, 3) := by decide +kernel
theorem dX8_addMachine_55 : decode cX8_addMachine 55 = .ok (.aload_n 0, 1) := by decide +kernel
theorem dX8_addMachine_56 : decode cX8_addMachine 56 = .ok (.getfield 105, 3) := by decide +kernel
theorem dX8_addMachine_59 : decode cX8_addMachine 59 = .ok (.iconst (-1), 1) := by decide +kernel
theorem dX8_addMachine_60 : decode cX8_addMachine 60 = .ok (.iastore, 1) := by decide +kernel
theorem dX8_addMachine_61 : decode cX8_addMachine 61 = .ok (.aload_n 0, 1) := by decide +kernel
theorem dX8_addMachine_62 : decode cX8_addMachine 62 = .ok (.getfield 59, 3) := by decide +kernel
theorem dX8_addMachine_65 : decode cX8_addMachine 65 = .ok (.aload_n 0, 1) := by decide +kernel
theorem dX8_addMachine_66 : decode cX8_addMachine 66 = .ok (.getfield 105, 3) := by decide +kernel
theorem dX8_addMachine_69 : decode cX8_addMachine 69 = .ok (.iconst (-1), 1) := by decide +kernel
theorem dX8_addMachine_70 : decode cX8_addMachine 70 = .ok (.iastore, 1) := by decide +kernel
theorem dX8_addMachine_71 : decode cX8_addMachine 71 = .ok (.aload_n 0, 1) := by decide +kernel
theorem dX8_addMachine_72 : decode cX8_addMachine 72 = .ok (.dup, 1) := by decide +kernel
theorem dX8_addMachine_73 : decode cX8_addMachine 73 = .ok (.getfield 105, 3) := by decide +kernel
theorem dX8_addMachine_76 : decode cX8_addMachine 76 = .ok (.iconst 1, 1) := by decide +kernel
theorem dX8_addMachine_77 : decode cX8_addMachine 77 = .ok (.iadd, 1) := by decide +kernel
theorem dX8_addMachine_78 : decode cX8_addMachine 78 = .ok (.putfield 105, 3) := by decide +kernel
theorem dX8_addMachine_81 : decode cX8_addMachine 81 = .ok (.aload_n 0, 1) := by decide +kernel
theorem dX8_addMachine_82 : decode cX8_addMachine 82 = .ok (.getfield 105, 3) := by decide +kernel
theorem dX8_addMachine_85 : decode cX8_addMachine 85 = .ok (.iconst 1, 1) := by decide +kernel
theorem dX8_addMachine_86 : decode cX8_addMachine 86 = .ok (.isub, 1) := by decide +kernel
theorem dX8_addMachine_87 : decode cX8_addMachine 87 = .ok (.ireturn, 1) := by decide +kernel
theorem dX8_mount_0 : decode cX8_mount 0 = .ok (.aload_n 0, 1) := by decide +kernel
theorem dX8_mount_1 : decode cX8_mount 1 = .ok (.aload_n 0, 1) := by decide +kernel
theorem dX8_mount_2 : decode cX8_mount 2 = .ok (.iload_n 1, 1) := by decide +kernel
theorem dX8_mount_3 : decode cX8_mount 3 = .ok (.invokevirtual 152, 3) := by decide +kernel
theorem dX8_mount_6 : decode cX8_mount 6 = .ok (.ifCond .eq 11, 3) := by decide +kernel
theorem dX8_mount_9 : decode cX8_mount 9 = .ok (.aload_n 0, 1) := by decide +kernel
theorem dX8_mount_10 : decode cX8_mount 10 = .ok (.iload_n 2, 1) := by decide +kernel
theorem dX8_mount_11 : decode cX8_mount 11 = .ok (.invokevirtual 101, 3) := by decide +kernel
theorem dX8_mount_14 : decode cX8_mount 14 = .ok (.ifCond .ne 7, 3) := by decide +kernel
theorem dX8_mount_17 : decode cX8_mount 17 = .ok (.iconst 1, 1) := by decide +kernel
theorem dX8_mount_18 : decode cX8_mount 18 = .ok (.goto 35, 3) := by decide +kernel
theorem dX8_mount_21 : decode cX8_mount 21 = .ok (.aload_n 0, 1) := by decide +kernel
theorem dX8_mount_22 : decode cX8_mount 22 = .ok (.getfield 34, 3) := by decide +kernel
theorem dX8_mount_25 : decode cX8_mount 25 = .ok (.iload_n 2, 1) := by decide +kernel
theorem dX8_mount_26 : decode cX8_mount 26 = .ok (.iaload, 1) := by decide +kernel
theorem dX8_mount_27 : decode cX8_mount 27 = .ok (.aload_n 0, 1) := by decide +kernel
theorem dX8_mount_28 : decode cX8_mount 28 = .ok (.getfield 53, 3) := by decide +kernel
theorem dX8_mount_31 : decode cX8_mount 31 = .ok (.iload_n 1, 1) := by decide +kernel
theorem dX8_mount_32 : decode cX8_mount 32 = .ok (.iaload, 1) := by decide +kernel
theorem dX8_mount_33 : decode cX8_mount 33 = .ok (.if_icmp .le 7, 3) := by decide +kernel
theorem dX8_mount_36 : decode cX8_mount 36 = .ok (.iconst 2, 1) := by decide +kernel
theorem dX8_mount_37 : decode cX8_mount 37 = .ok (.goto 16, 3) := by decide +kernel
theorem dX8_mount_40 : decode cX8_mount 40 = .ok (.aload_n 0, 1) := by decide +kernel
theorem dX8_mount_41 : decode cX8_mount 41 = .ok (.iload_n 2, 1) := by decide +kernel
theorem dX8_mount_42 : decode cX8_mount 42 = .ok (.invokevirtual 146, 3) := by decide +kernel
theorem dX8_mount_45 : decode cX8_mount 45 = .ok (.ifCond .eq 7, 3) := by decide +kernel
theorem dX8_mount_48 : decode cX8_mount 48 = .ok (.iconst 3, 1) := by decide +kernel
theorem dX8_mount_49 : decode cX8_mount 49 = .ok (.goto 4, 3) := by decide +kernel
theorem dX8_mount_52 : decode cX8_mount 52 = .ok (.iconst 0, 1) := by decide +kernel
theorem dX8_mount_53 : decode cX8_mount 53 = .ok (.putfield 84, 3) := by decide +kernel
theorem dX8_mount_56 : decode cX8_mount 56 = .ok (.aload_n 0, 1) := by decide +kernel
theorem dX8_mount_57 : decode cX8_mount 57 = .ok (.getfield 84, 3) := by decide +kernel
theorem dX8_mount_60 : decode cX8_mount 60 = .ok (.ifCond .le 5, 3) := by decide +kernel
theorem dX8_mount_63 : decode cX8_mount 63 = .ok (.iconst 0, 1) := by decide +kernel
theorem dX8_mount_64 : decode cX8_mount 64 = .ok (.ireturn, 1) := by decide +kernel
theorem dX8_mount_65 : decode cX8_mount 65 = .ok (.aload_n 0, 1) := by decide +kernel
theorem dX8_mount_66 : decode cX8_mount 66 = .ok (.getfield 56, 3) := by decide +kernel
theorem dX8_mount_69 : decode cX8_mount 69 = .ok (.iload_n 1, 1) := by decide +kernel
theorem dX8_mount_70 : decode cX8_mount 70 = .ok (.iaload, 1) := by decide +kernel
theorem dX8_mount_71 : decode cX8_mount 71 = .ok (.istore_n 3, 1) := by decide +kernel
theorem dX8_mount_72 : decode cX8_mount 72 = .ok (.aload_n 0, 1) := by decide +kernel
theorem dX8_mount_73 : decode cX8_mount 73 = .ok (.getfield 56, 3) := by decide +kernel
theorem dX8_mount_76 : decode cX8_mount 76 = .ok (.iload_n 1, 1) := by decide +kernel
theorem dX8_mount_77 : decode cX8_mount 77 = .ok (.iload_n 2, 1) := by decide +kernel
theorem dX8_mount_78 : decode cX8_mount 78 = .ok (.iastore, 1) := by decide +kernel
theorem dX8_mount_79 : decode cX8_mount 79 = .ok (.aload_n 0, 1) := by decide +kernel
theorem dX8_mount_80 : decode cX8_mount 80 = .ok (.getfield 59, 3) := by decide +kernel
theorem dX8_mount_83 : decode cX8_mount 83 = .ok (.iload_n 1, 1) := by decide +kernel
theorem dX8_mount_84 : decode cX8_mount 84 = .ok (.iconst (-1), 1) := by decide +kernel
theorem dX8_mount_85 : decode cX8_mount 85 = .ok (.iastore, 1) := by decide +kernel
theorem dX8_mount_86 : decode cX8_mount 86 = .ok (.iload_n 3, 1) := by decide +kernel
theorem dX8_mount_87 : decode cX8_mount 87 = .ok (.ireturn, 1) := by decide +kernel
theorem dX8_run_0 : decode cX8_run 0 = .ok (.aload_n 0, 1) := by decide +kernel
theorem dX8_run_1 : decode cX8_run 1 = .ok (.aload_n 0, 1) := by decide +kernel
theorem dX8_run_2 : decode cX8_run 2 = .ok (.iload_n 1, 1) := by decide +kernel
theorem dX8_run_3 : decode cX8_run 3 = .ok (.invokevirtual 152, 3) := by decide +kernel
theorem dX8_run_6 : decode cX8_run 6 = .ok (.ifCond .eq 11, 3) := by decide +kernel
theorem dX8_run_9 : decode cX8_run 9 = .ok (.aload_n 0, 1) := by decide +kernel
theorem dX8_run_10 : decode cX8_run 10 = .ok (.iload_n 2, 1) := by decide +kernel
theorem dX8_run_11 : decode cX8_run 11 = .ok (.invokevirtual 155, 3) := by decide +kernel
theorem dX8_run_14 : decode cX8_run 14 = .ok (.ifCond .ne 7, 3) := by decide +kernel
theorem dX8_run_17 : decode cX8_run 17 = .ok (.iconst 1, 1) := by decide +kernel
theorem dX8_run_18 : decode cX8_run 18 = .ok (.goto 36, 3) := by decide +kernel
theorem dX8_run_21 : decode cX8_run 21 = .ok (.aload_n 0, 1) := by decide +kernel
theorem dX8_run_22 : decode cX8_run 22 = .ok (.getfield 56, 3) := by decide +kernel
theorem dX8_run_25 : decode cX8_run 25 = .ok (.iload_n 1, 1) := by decide +kernel
theorem dX8_run_26 : decode cX8_run 26 = .ok (.iaload, 1) := by decide +kernel
theorem dX8_run_27 : decode cX8_run 27 = .ok (.aload_n 0, 1) := by decide +kernel
theorem dX8_run_28 : decode cX8_run 28 = .ok (.getfield 62, 3) := by decide +kernel
theorem dX8_run_31 : decode cX8_run 31 = .ok (.iload_n 2, 1) := by decide +kernel
theorem dX8_run_32 : decode cX8_run 32 = .ok (.iaload, 1) := by decide +kernel
theorem dX8_run_33 : decode cX8_run 33 = .ok (.if_icmp .eq 7, 3) := by decide +kernel
theorem dX8_run_36 : decode cX8_run 36 = .ok (.iconst 2, 1) := by decide +kernel
theorem dX8_run_37 : decode cX8_run 37 = .ok (.goto 17, 3) := by decide +kernel
theorem dX8_run_40 : decode cX8_run 40 = .ok (.aload_n 0, 1) := by decide +kernel
theorem dX8_run_41 : decode cX8_run 41 = .ok (.getfield 68, 3) := by decide +kernel
theorem dX8_run_44 : decode cX8_run 44 = .ok (.iload_n 2, 1) := by decide +kernel
theorem dX8_run_45 : decode cX8_run 45 = .ok (.iaload, 1) := by decide +kernel
theorem dX8_run_46 : decode cX8_run 46 = .ok (.ifCond .ne 7, 3) := by decide +kernel
theorem dX8_run_49 : decode cX8_run 49 = .ok (.iconst 3, 1) := by decide +kernel
theorem dX8_run_50 : decode cX8_run 50 = .ok (.goto 4, 3) := by decide +kernel
theorem dX8_run_53 : decode cX8_run 53 = .ok (.iconst 0, 1) := by decide +kernel
theorem dX8_run_54 : decode cX8_run 54 = .ok (.putfield 84, 3) := by decide +kernel
theorem dX8_run_57 : decode cX8_run 57 = .ok (.aload_n 0, 1) := by decide +kernel
theorem dX8_run_58 : decode cX8_run 58 = .ok (.getfield 84, 3) := by decide +kernel
theorem dX8_run_61 : decode cX8_run 61 = .ok (.ifCond .le 5, 3) := by decide +kernel
theorem dX8_run_64 : decode cX8_run 64 = .ok (.iconst 0, 1) := by decide +kernel
theorem dX8_run_65 : decode cX8_run 65 = .ok (.ireturn, 1) := by decide +kernel
theorem dX8_run_66 : decode cX8_run 66 = .ok (.aload_n 0, 1) := by decide +kernel
theorem dX8_run_67 : decode cX8_run 67 = .ok (.getfield 59, 3) := by decide +kernel
theorem dX8_run_70 : decode cX8_run 70 = .ok (.iload_n 1, 1) := by decide +kernel
theorem dX8_run_71 : decode cX8_run 71 = .ok (.iload_n 2, 1) := by decide +kernel
theorem dX8_run_72 : decode cX8_run 72 = .ok (.iastore, 1) := by decide +kernel
theorem dX8_run_73 : decode cX8_run 73 = .ok (.sipush 3600, 3) := by decide +kernel
theorem dX8_run_76 : decode cX8_run 76 = .ok (.aload_n 0, 1) := by decide +kernel
theorem dX8_run_77 : decode cX8_run 77 = .ok (.getfield 37, 3) := by decide +kernel
theorem dX8_run_80 : decode cX8_run 80 = .ok (.aload_n 0, 1) := by decide +kernel
theorem dX8_run_81 : decode cX8_run 81 = .ok (.getfield 56, 3) := by decide +kernel
theorem dX8_run_84 : decode cX8_run 84 = .ok (.iload_n 1, 1) := by decide +kernel
theorem dX8_run_85 : decode cX8_run 85 = .ok (.iaload, 1) := by decide +kernel
theorem dX8_run_86 : decode cX8_run 86 = .ok (.iaload, 1) := by decide +kernel
theorem dX8_run_87 : decode cX8_run 87 = .ok (.idiv, 1) := by decide +kernel
theorem dX8_run_88 : decode cX8_run 88 = .ok (.ireturn, 1) := by decide +kernel
theorem dX8_order_0 : decode cX8_order 0 = .ok (.aload_n 0, 1) := by decide +kernel
theorem dX8_order_1 : decode cX8_order 1 = .ok (.aload_n 0, 1) := by decide +kernel
theorem dX8_order_2 : decode cX8_order 2 = .ok (.iload_n 1, 1) := by decide +kernel
theorem dX8_order_3 : decode cX8_order 3 = .ok (.invokevirtual 101, 3) := by decide +kernel
theorem dX8_order_6 : decode cX8_order 6 = .ok (.ifCond .eq 11, 3) := by decide +kernel
theorem dX8_order_9 : decode cX8_order 9 = .ok (.aload_n 0, 1) := by decide +kernel
theorem dX8_order_10 : decode cX8_order 10 = .ok (.iload_n 2, 1) := by decide +kernel
theorem dX8_order_11 : decode cX8_order 11 = .ok (.invokevirtual 111, 3) := by decide +kernel
theorem dX8_order_14 : decode cX8_order 14 = .ok (.ifCond .ne 7, 3) := by decide +kernel
theorem dX8_order_17 : decode cX8_order 17 = .ok (.iconst 1, 1) := by decide +kernel
theorem dX8_order_18 : decode cX8_order 18 = .ok (.goto 43, 3) := by decide +kernel
theorem dX8_order_21 : decode cX8_order 21 = .ok (.iload_n 3, 1) := by decide +kernel
theorem dX8_order_22 : decode cX8_order 22 = .ok (.iconst 1, 1) := by decide +kernel
theorem dX8_order_23 : decode cX8_order 23 = .ok (.sipush 5000, 3) := by decide +kernel
theorem dX8_order_26 : decode cX8_order 26 = .ok (.invokestatic 91, 3) := by decide +kernel
theorem dX8_order_29 : decode cX8_order 29 = .ok (.ifCond .eq 14, 3) := by decide +kernel
theorem dX8_order_32 : decode cX8_order 32 = .ok (.iload 4, 2) := by decide +kernel
theorem dX8_order_34 : decode cX8_order 34 = .ok (.iconst 0, 1) := by decide +kernel
theorem dX8_order_35 : decode cX8_order 35 = .ok (.bipush 50, 2) := by decide +kernel
theorem dX8_order_37 : decode cX8_order 37 = .ok (.invokestatic 91, 3) := by decide +kernel
theorem dX8_order_40 : decode cX8_order 40 = .ok (.ifCond .ne 7, 3) := by decide +kernel
theorem dX8_order_43 : decode cX8_order 43 = .ok (.iconst 2, 1) := by decide +kernel
theorem dX8_order_44 : decode cX8_order 44 = .ok (.goto 17, 3) := by decide +kernel
theorem dX8_order_47 : decode cX8_order 47 = .ok (.aload_n 0, 1) := by decide +kernel
theorem dX8_order_48 : decode cX8_order 48 = .ok (.getfield 108, 3) := by decide +kernel
theorem dX8_order_51 : decode cX8_order 51 = .ok (.bipush 8, 2) := by decide +kernel
theorem dX8_order_53 : decode cX8_order 53 = .ok (.if_icmp .ne 7, 3) := by decide +kernel
theorem dX8_order_56 : decode cX8_order 56 = .ok (.iconst 3, 1) := by decide +kernel
theorem dX8_order_57 : decode cX8_order 57 = .ok (.goto 4, 3) := by decide +kernel
theorem dX8_order_60 : decode cX8_order 60 = .ok (.iconst 0, 1) := by decide +kernel
theorem dX8_order_61 : decode cX8_order 61 = .ok (.putfield 84, 3) := by decide +kernel
theorem dX8_order_64 : decode cX8_order 64 = .ok (.aload_n 0, 1) := by decide +kernel
theorem dX8_order_65 : decode cX8_order 65 = .ok (.getfield 84, 3) := by decide +kernel
theorem dX8_order_68 : decode cX8_order 68 = .ok (.ifCond .le 5, 3) := by decide +kernel
theorem dX8_order_71 : decode cX8_order 71 = .ok (.iconst 0, 1) := by decide +kernel
theorem dX8_order_72 : decode cX8_order 72 = .ok (.ireturn, 1) := by decide +kernel
theorem dX8_order_73 : decode cX8_order 73 = .ok (.aload_n 0, 1) := by decide +kernel
theorem dX8_order_74 : decode cX8_order 74 = .ok (.getfield 62, 3) := by decide +kernel
theorem dX8_order_77 : decode cX8_order 77 = .ok (.aload_n 0, 1) := by decide +kernel
theorem dX8_order_78 : decode cX8_order 78 = .ok (.getfield 108, 3) := by decide +kernel
theorem dX8_order_81 : decode cX8_order 81 = .ok (.iload_n 1, 1) := by decide +kernel
theorem dX8_order_82 : decode cX8_order 82 = .ok (.iastore, 1) := by decide +kernel
theorem dX8_order_83 : decode cX8_order 83 = .ok (.aload_n 0, 1) := by decide +kernel
theorem dX8_order_84 : decode cX8_order 84 = .ok (.getfield 65, 3) := by decide +kernel
theorem dX8_order_87 : decode cX8_order 87 = .ok (.aload_n 0, 1) := by decide +kernel
theorem dX8_order_88 : decode cX8_order 88 = .ok (.getfield 108, 3) := by decide +kernel
theorem dX8_order_91 : decode cX8_order 91 = .ok (.iload_n 2, 1) := by decide +kernel
theorem dX8_order_92 : decode cX8_order 92 = .ok (.iastore, 1) := by decide +kernel
theorem dX8_order_93 : decode cX8_order 93 = .ok (.aload_n 0, 1) := by decide +kernel
theorem dX8_order_94 : decode cX8_order 94 = .ok (.getfield 68, 3) := by decide +kernel
theorem dX8_order_97 : decode cX8_order 97 = .ok (.aload_n 0, 1) := by decide +kernel
theorem dX8_order_98 : decode cX8_order 98 = .ok (.getfield 108, 3) := by decide +kernel
theorem dX8_order_101 : decode cX8_order 101 = .ok (.iload_n 3, 1) := by decide +kernel
theorem dX8_order_102 : decode cX8_order 102 = .ok (.iastore, 1) := by decide +kernel
theorem dX8_order_103 : decode cX8_order 103 = .ok (.aload_n 0, 1) := by decide +kernel
theorem dX8_order_104 : decode cX8_order 104 = .ok (.getfield 71, 3) := by decide +kernel
theorem dX8_order_107 : decode cX8_order 107 = .ok (.aload_n 0, 1) := by decide +kernel
theorem dX8_order_108 : decode cX8_order 108 = .ok (.getfield 108, 3) := by decide +kernel
theorem dX8_order_111 : decode cX8_order 111 = .ok (.iload 4, 2) := by decide +kernel
theorem dX8_order_113 : decode cX8_order 113 = .ok (.iastore, 1) := by decide +kernel
theorem dX8_order_114 : decode cX8_order 114 = .ok (.aload_n 0, 1) := by decide +kernel
theorem dX8_order_115 : decode cX8_order 115 = .ok (.dup, 1) := by decide +kernel
theorem dX8_order_116 : decode cX8_order 116 = .ok (.getfield 108, 3) := by decide +kernel
theorem dX8_order_119 : decode cX8_order 119 = .ok (.iconst 1, 1) := by decide +kernel
theorem dX8_order_120 : decode cX8_order 120 = .ok (.iadd, 1) := by decide +kernel
theorem dX8_order_121 : decode cX8_order 121 = .ok (.putfield 108, 3) := by decide +kernel
theorem dX8_order_124 : decode cX8_order 124 = .ok (.aload_n 0, 1) := by decide +kernel
theorem dX8_order_125 : decode cX8_order 125 = .ok (.getfield 108, 3) := by decide +kernel
theorem dX8_order_128 : decode cX8_order 128 = .ok (.iconst 1, 1) := by decide +kernel
theorem dX8_order_129 : decode cX8_order 129 = .ok (.isub, 1) := by decide +kernel
theorem dX8_order_130 : decode cX8_order 130 = .ok (.ireturn, 1) := by decide +kernel
theorem dX8_lacks_0 : decode cX8_lacks 0 = .ok (.aload_n 0, 1) := by decide +kernel
theorem dX8_lacks_1 : decode cX8_lacks 1 = .ok (.aload_n 0, 1) := by decide +kernel
theorem dX8_lacks_2 : decode cX8_lacks 2 = .ok (.iload_n 1, 1) := by decide +kernel
theorem dX8_lacks_3 : decode cX8_lacks 3 = .ok (.invokevirtual 155, 3) := by decide +kernel
theorem dX8_lacks_6 : decode cX8_lacks 6 = .ok (.ifCond .eq 7, 3) := by decide +kernel
theorem dX8_lacks_9 : decode cX8_lacks 9 = .ok (.iconst 0, 1) := by decide +kernel
theorem dX8_lacks_10 : decode cX8_lacks 10 = .ok (.goto 4, 3) := by decide +kernel
theorem dX8_lacks_13 : decode cX8_lacks 13 = .ok (.iconst 1, 1) := by decide +kernel
theorem dX8_lacks_14 : decode cX8_lacks 14 = .ok (.putfield 84, 3) := by decide +kernel
theorem dX8_lacks_17 : decode cX8_lacks 17 = .ok (.aload_n 0, 1) := by decide +kernel
theorem dX8_lacks_18 : decode cX8_lacks 18 = .ok (.getfield 84, 3) := by decide +kernel
theorem dX8_lacks_21 : decode cX8_lacks 21 = .ok (.ifCond .le 7, 3) := by decide +kernel
theorem dX8_lacks_24 : decode cX8_lacks 24 = .ok (.iconst 0, 1) := by decide +kernel
theorem dX8_lacks_25 : decode cX8_lacks 25 = .ok (.goto 9, 3) := by decide +kernel
theorem dX8_lacks_28 : decode cX8_lacks 28 = .ok (.aload_n 0, 1) := by decide +kernel
theorem dX8_lacks_29 : decode cX8_lacks 29 = .ok (.getfield 68, 3) := by decide +kernel
theorem dX8_lacks_32 : decode cX8_lacks 32 = .ok (.iload_n 1, 1) := by decide +kernel
theorem dX8_lacks_33 : decode cX8_lacks 33 = .ok (.iaload, 1) := by decide +kernel
theorem dX8_lacks_34 : decode cX8_lacks 34 = .ok (.ireturn, 1) := by decide +kernel
theorem dX8_hoursNeeded_0 : decode cX8_hoursNeeded 0 = .ok (.aload_n 0, 1) := by decide +kernel
theorem dX8_hoursNeeded_1 : decode cX8_hoursNeeded 1 = .ok (.aload_n 0, 1) := by decide +kernel
theorem dX8_hoursNeeded_2 : decode cX8_hoursNeeded 2 = .ok (.iload_n 1, 1) := by decide +kernel
theorem dX8_hoursNeeded_3 : decode cX8_hoursNeeded 3 = .ok (.invokevirtual 155, 3) := by decide +kernel
theorem dX8_hoursNeeded_6 : decode cX8_hoursNeeded 6 = .ok (.ifCond .ne 7, 3) := by decide +kernel
theorem dX8_hoursNeeded_9 : decode cX8_hoursNeeded 9 = .ok (.iconst 1, 1) := by decide +kernel
theorem dX8_hoursNeeded_10 : decode cX8_hoursNeeded 10 = .ok (.goto 30, 3) := by decide +kernel
theorem dX8_hoursNeeded_13 : decode cX8_hoursNeeded 13 = .ok (.aload_n 0, 1) := by decide +kernel
theorem dX8_hoursNeeded_14 : decode cX8_hoursNeeded 14 = .ok (.getfield 68, 3) := by decide +kernel
theorem dX8_hoursNeeded_17 : decode cX8_hoursNeeded 17 = .ok (.iload_n 1, 1) := by decide +kernel
theorem dX8_hoursNeeded_18 : decode cX8_hoursNeeded 18 = .ok (.iaload, 1) := by decide +kernel
theorem dX8_hoursNeeded_19 : decode cX8_hoursNeeded 19 = .ok (.ifCond .le 20, 3) := by decide +kernel
theorem dX8_hoursNeeded_22 : decode cX8_hoursNeeded 22 = .ok (.aload_n 0, 1) := by decide +kernel
theorem dX8_hoursNeeded_23 : decode cX8_hoursNeeded 23 = .ok (.aload_n 0, 1) := by decide +kernel
theorem dX8_hoursNeeded_24 : decode cX8_hoursNeeded 24 = .ok (.getfield 62, 3) := by decide +kernel
theorem dX8_hoursNeeded_27 : decode cX8_hoursNeeded 27 = .ok (.iload_n 1, 1) := by decide +kernel
theorem dX8_hoursNeeded_28 : decode cX8_hoursNeeded 28 = .ok (.iaload, 1) := by decide +kernel
theorem dX8_hoursNeeded_29 : decode cX8_hoursNeeded 29 = .ok (.invokevirtual 143, 3) := by decide +kernel
theorem dX8_hoursNeeded_32 : decode cX8_hoursNeeded 32 = .ok (.ifCond .ne 7, 3) := by decide +kernel
theorem dX8_hoursNeeded_35 : decode cX8_hoursNeeded 35 = .ok (.iconst 2, 1) := by decide +kernel
theorem dX8_hoursNeeded_36 : decode cX8_hoursNeeded 36 = .ok (.goto 4, 3) := by decide +kernel
theorem dX8_hoursNeeded_39 : decode cX8_hoursNeeded 39 = .ok (.iconst 0, 1) := by decide +kernel
theorem dX8_hoursNeeded_40 : decode cX8_hoursNeeded 40 = .ok (.putfield 84, 3) := by decide +kernel
theorem dX8_hoursNeeded_43 : decode cX8_hoursNeeded 43 = .ok (.aload_n 0, 1) := by decide +kernel
theorem dX8_hoursNeeded_44 : decode cX8_hoursNeeded 44 = .ok (.getfield 84, 3) := by decide +kernel
theorem dX8_hoursNeeded_47 : decode cX8_hoursNeeded 47 = .ok (.ifCond .gt 12, 3) := by decide +kernel
theorem dX8_hoursNeeded_50 : decode cX8_hoursNeeded 50 = .ok (.aload_n 0, 1) := by decide +kernel
theorem dX8_hoursNeeded_51 : decode cX8_hoursNeeded 51 = .ok (.getfield 68, 3) := by decide +kernel
theorem dX8_hoursNeeded_54 : decode cX8_hoursNeeded 54 = .ok (.iload_n 1, 1) := by decide +kernel
theorem dX8_hoursNeeded_55 : decode cX8_hoursNeeded 55 = .ok (.iaload, 1) := by decide +kernel
theorem dX8_hoursNeeded_56 : decode cX8_hoursNeeded 56 = .ok (.ifCond .ne 5, 3) := by decide +kernel
theorem dX8_hoursNeeded_59 : decode cX8_hoursNeeded 59 = .ok (.iconst 0, 1) := by decide +kernel
theorem dX8_hoursNeeded_60 : decode cX8_hoursNeeded 60 = .ok (.ireturn, 1) := by decide +kernel
theorem dX8_hoursNeeded_61 : decode cX8_hoursNeeded 61 = .ok (.aload_n 0, 1) := by decide +kernel
theorem dX8_hoursNeeded_62 : decode cX8_hoursNeeded 62 = .ok (.aload_n 0, 1) := by decide +kernel
theorem dX8_hoursNeeded_63 : decode cX8_hoursNeeded 63 = .ok (.getfield 62, 3) := by decide +kernel
theorem dX8_hoursNeeded_66 : decode cX8_hoursNeeded 66 = .ok (.iload_n 1, 1) := by decide +kernel
theorem dX8_hoursNeeded_67 : decode cX8_hoursNeeded 67 = .ok (.iaload, 1) := by decide +kernel
theorem dX8_hoursNeeded_68 : decode cX8_hoursNeeded 68 = .ok (.invokevirtual 143, 3) := by decide +kernel
theorem dX8_hoursNeeded_71 : decode cX8_hoursNeeded 71 = .ok (.istore_n 2, 1) := by decide +kernel
theorem dX8_hoursNeeded_72 : decode cX8_hoursNeeded 72 = .ok (.aload_n 0, 1) := by decide +kernel
theorem dX8_hoursNeeded_73 : decode cX8_hoursNeeded 73 = .ok (.getfield 68, 3) := by decide +kernel
theorem dX8_hoursNeeded_76 : decode cX8_hoursNeeded 76 = .ok (.iload_n 1, 1) := by decide +kernel
theorem dX8_hoursNeeded_77 : decode cX8_hoursNeeded 77 = .ok (.iaload, 1) := by decide +kernel
theorem dX8_hoursNeeded_78 : decode cX8_hoursNeeded 78 = .ok (.iload_n 2, 1) := by decide +kernel
theorem dX8_hoursNeeded_79 : decode cX8_hoursNeeded 79 = .ok (.iadd, 1) := by decide +kernel
theorem dX8_hoursNeeded_80 : decode cX8_hoursNeeded 80 = .ok (.iconst 1, 1) := by decide +kernel
theorem dX8_hoursNeeded_81 : decode cX8_hoursNeeded 81 = .ok (.isub, 1) := by decide +kernel
theorem dX8_hoursNeeded_82 : decode cX8_hoursNeeded 82 = .ok (.iload_n 2, 1) := by decide +kernel
theorem dX8_hoursNeeded_83 : decode cX8_hoursNeeded 83 = .ok (.idiv, 1) := by decide +kernel
theorem dX8_hoursNeeded_84 : decode cX8_hoursNeeded 84 = .ok (.istore_n 3, 1) := by decide +kernel
theorem dX8_hoursNeeded_85 : decode cX8_hoursNeeded 85 = .ok (.sipush 3600, 3) := by decide +kernel
theorem dX8_hoursNeeded_88 : decode cX8_hoursNeeded 88 = .ok (.aload_n 0, 1) := by decide +kernel
theorem dX8_hoursNeeded_89 : decode cX8_hoursNeeded 89 = .ok (.getfield 37, 3) := by decide +kernel
theorem dX8_hoursNeeded_92 : decode cX8_hoursNeeded 92 = .ok (.aload_n 0, 1) := by decide +kernel
theorem dX8_hoursNeeded_93 : decode cX8_hoursNeeded 93 = .ok (.getfield 62, 3) := by decide +kernel
theorem dX8_hoursNeeded_96 : decode cX8_hoursNeeded 96 = .ok (.iload_n 1, 1) := by decide +kernel
theorem dX8_hoursNeeded_97 : decode cX8_hoursNeeded 97 = .ok (.iaload, 1) := by decide +kernel
theorem dX8_hoursNeeded_98 : decode cX8_hoursNeeded 98 = .ok (.iaload, 1) := by decide +kernel
theorem dX8_hoursNeeded_99 : decode cX8_hoursNeeded 99 = .ok (.idiv, 1) := by decide +kernel
theorem dX8_hoursNeeded_100 : decode cX8_hoursNeeded 100 = .ok (.istore 4, 2) := by decide +kernel
theorem dX8_hoursNeeded_102 : decode cX8_hoursNeeded 102 = .ok (.iload_n 3, 1) := by decide +kernel
theorem dX8_hoursNeeded_103 : decode cX8_hoursNeeded 103 = .ok (.iload 4, 2) := by decide +kernel
theorem dX8_hoursNeeded_105 : decode cX8_hoursNeeded 105 = .ok (.iadd, 1) := by decide +kernel
theorem dX8_hoursNeeded_106 : decode cX8_hoursNeeded 106 = .ok (.iconst 1, 1) := by decide +kernel
theorem dX8_hoursNeeded_107 : decode cX8_hoursNeeded 107 = .ok (.isub, 1) := by decide +kernel
theorem dX8_hoursNeeded_108 : decode cX8_hoursNeeded 108 = .ok (.iload 4, 2) := by decide +kernel
theorem dX8_hoursNeeded_110 : decode cX8_hoursNeeded 110 = .ok (.idiv, 1) := by decide +kernel
theorem dX8_hoursNeeded_111 : decode cX8_hoursNeeded 111 = .ok (.ireturn, 1) := by decide +kernel
theorem dX8_shots_0 : decode cX8_shots 0 = .ok (.aload_n 0, 1) := by decide +kernel
theorem dX8_shots_1 : decode cX8_shots 1 = .ok (.aload_n 0, 1) := by decide +kernel
theorem dX8_shots_2 : decode cX8_shots 2 = .ok (.iload_n 1, 1) := by decide +kernel
theorem dX8_shots_3 : decode cX8_shots 3 = .ok (.invokevirtual 155, 3) := by decide +kernel
theorem dX8_shots_6 : decode cX8_shots 6 = .ok (.ifCond .eq 7, 3) := by decide +kernel
theorem dX8_shots_9 : decode cX8_shots 9 = .ok (.iconst 0, 1) := by decide +kernel
theorem dX8_shots_10 : decode cX8_shots 10 = .ok (.goto 4, 3) := by decide +kernel
theorem dX8_shots_13 : decode cX8_shots 13 = .ok (.iconst 1, 1) := by decide +kernel
theorem dX8_shots_14 : decode cX8_shots 14 = .ok (.putfield 84, 3) := by decide +kernel
theorem dX8_shots_17 : decode cX8_shots 17 = .ok (.aload_n 0, 1) := by decide +kernel
theorem dX8_shots_18 : decode cX8_shots 18 = .ok (.getfield 84, 3) := by decide +kernel
theorem dX8_shots_21 : decode cX8_shots 21 = .ok (.ifCond .le 7, 3) := by decide +kernel
theorem dX8_shots_24 : decode cX8_shots 24 = .ok (.iconst 0, 1) := by decide +kernel
theorem dX8_shots_25 : decode cX8_shots 25 = .ok (.goto 9, 3) := by decide +kernel
theorem dX8_shots_28 : decode cX8_shots 28 = .ok (.aload_n 0, 1) := by decide +kernel
theorem dX8_shots_29 : decode cX8_shots 29 = .ok (.getfield 74, 3) := by decide +kernel
theorem dX8_shots_32 : decode cX8_shots 32 = .ok (.iload_n 1, 1) := by decide +kernel
theorem dX8_shots_33 : decode cX8_shots 33 = .ok (.iaload, 1) := by decide +kernel
theorem dX8_shots_34 : decode cX8_shots 34 = .ok (.ireturn, 1) := by decide +kernel
theorem dX8_regrindIn_0 : decode cX8_regrindIn 0 = .ok (.aload_n 0, 1) := by decide +kernel
theorem dX8_regrindIn_1 : decode cX8_regrindIn 1 = .ok (.aload_n 0, 1) := by decide +kernel
theorem dX8_regrindIn_2 : decode cX8_regrindIn 2 = .ok (.iload_n 1, 1) := by decide +kernel
theorem dX8_regrindIn_3 : decode cX8_regrindIn 3 = .ok (.invokevirtual 155, 3) := by decide +kernel
theorem dX8_regrindIn_6 : decode cX8_regrindIn 6 = .ok (.ifCond .eq 7, 3) := by decide +kernel
theorem dX8_regrindIn_9 : decode cX8_regrindIn 9 = .ok (.iconst 0, 1) := by decide +kernel
theorem dX8_regrindIn_10 : decode cX8_regrindIn 10 = .ok (.goto 4, 3) := by decide +kernel
theorem dX8_regrindIn_13 : decode cX8_regrindIn 13 = .ok (.iconst 1, 1) := by decide +kernel
theorem dX8_regrindIn_14 : decode cX8_regrindIn 14 = .ok (.putfield 84, 3) := by decide +kernel
theorem dX8_regrindIn_17 : decode cX8_regrindIn 17 = .ok (.aload_n 0, 1) := by decide +kernel
theorem dX8_regrindIn_18 : decode cX8_regrindIn 18 = .ok (.getfield 84, 3) := by decide +kernel
theorem dX8_regrindIn_21 : decode cX8_regrindIn 21 = .ok (.ifCond .le 7, 3) := by decide +kernel
theorem dX8_regrindIn_24 : decode cX8_regrindIn 24 = .ok (.lconst 0, 1) := by decide +kernel
theorem dX8_regrindIn_25 : decode cX8_regrindIn 25 = .ok (.goto 9, 3) := by decide +kernel
theorem dX8_regrindIn_28 : decode cX8_regrindIn 28 = .ok (.aload_n 0, 1) := by decide +kernel
theorem dX8_regrindIn_29 : decode cX8_regrindIn 29 = .ok (.getfield 77, 3) := by decide +kernel
theorem dX8_regrindIn_32 : decode cX8_regrindIn 32 = .ok (.iload_n 1, 1) := by decide +kernel
theorem dX8_regrindIn_33 : decode cX8_regrindIn 33 = .ok (.laload, 1) := by decide +kernel
theorem dX8_regrindIn_34 : decode cX8_regrindIn 34 = .ok (.lreturn, 1) := by decide +kernel
theorem dX8_regrindByShots_0 : decode cX8_regrindByShots 0 = .ok (.aload_n 0, 1) := by decide +kernel
theorem dX8_regrindByShots_1 : decode cX8_regrindByShots 1 = .ok (.iload_n 1, 1) := by decide +kernel
theorem dX8_regrindByShots_2 : decode cX8_regrindByShots 2 = .ok (.invokevirtual 158, 3) := by decide +kernel
theorem dX8_regrindByShots_5 : decode cX8_regrindByShots 5 = .ok (.lreturn, 1) := by decide +kernel
theorem dX8_greatestShare_0 : decode cX8_greatestShare 0 = .ok (.aload_n 0, 1) := by decide +kernel
theorem dX8_greatestShare_1 : decode cX8_greatestShare 1 = .ok (.aload_n 0, 1) := by decide +kernel
theorem dX8_greatestShare_2 : decode cX8_greatestShare 2 = .ok (.iload_n 1, 1) := by decide +kernel
theorem dX8_greatestShare_3 : decode cX8_greatestShare 3 = .ok (.invokevirtual 155, 3) := by decide +kernel
theorem dX8_greatestShare_6 : decode cX8_greatestShare 6 = .ok (.ifCond .ne 7, 3) := by decide +kernel
theorem dX8_greatestShare_9 : decode cX8_greatestShare 9 = .ok (.iconst 1, 1) := by decide +kernel
theorem dX8_greatestShare_10 : decode cX8_greatestShare 10 = .ok (.goto 17, 3) := by decide +kernel
theorem dX8_greatestShare_13 : decode cX8_greatestShare 13 = .ok (.aload_n 0, 1) := by decide +kernel
theorem dX8_greatestShare_14 : decode cX8_greatestShare 14 = .ok (.getfield 74, 3) := by decide +kernel
theorem dX8_greatestShare_17 : decode cX8_greatestShare 17 = .ok (.iload_n 1, 1) := by decide +kernel
theorem dX8_greatestShare_18 : decode cX8_greatestShare 18 = .ok (.iaload, 1) := by decide +kernel
theorem dX8_greatestShare_19 : decode cX8_greatestShare 19 = .ok (.ifCond .ne 7, 3) := by decide +kernel
theorem dX8_greatestShare_22 : decode cX8_greatestShare 22 = .ok (.iconst 2, 1) := by decide +kernel
theorem dX8_greatestShare_23 : decode cX8_greatestShare 23 = .ok (.goto 4, 3) := by decide +kernel
theorem dX8_greatestShare_26 : decode cX8_greatestShare 26 = .ok (.iconst 0, 1) := by decide +kernel
theorem dX8_greatestShare_27 : decode cX8_greatestShare 27 = .ok (.putfield 84, 3) := by decide +kernel
theorem dX8_greatestShare_30 : decode cX8_greatestShare 30 = .ok (.aload_n 0, 1) := by decide +kernel
theorem dX8_greatestShare_31 : decode cX8_greatestShare 31 = .ok (.getfield 84, 3) := by decide +kernel
theorem dX8_greatestShare_34 : decode cX8_greatestShare 34 = .ok (.ifCond .le 7, 3) := by decide +kernel
theorem dX8_greatestShare_37 : decode cX8_greatestShare 37 = .ok (.iconst 0, 1) := by decide +kernel
theorem dX8_greatestShare_38 : decode cX8_greatestShare 38 = .ok (.goto 9, 3) := by decide +kernel
theorem dX8_greatestShare_41 : decode cX8_greatestShare 41 = .ok (.aload_n 0, 1) := by decide +kernel
theorem dX8_greatestShare_42 : decode cX8_greatestShare 42 = .ok (.getfield 81, 3) := by decide +kernel
theorem dX8_greatestShare_45 : decode cX8_greatestShare 45 = .ok (.iload_n 1, 1) := by decide +kernel
theorem dX8_greatestShare_46 : decode cX8_greatestShare 46 = .ok (.iaload, 1) := by decide +kernel
theorem dX8_greatestShare_47 : decode cX8_greatestShare 47 = .ok (.ireturn, 1) := by decide +kernel
theorem dX8_takes_0 : decode cX8_takes 0 = .ok (.iload_n 2, 1) := by decide +kernel
theorem dX8_takes_1 : decode cX8_takes 1 = .ok (.istore_n 3, 1) := by decide +kernel
theorem dX8_takes_2 : decode cX8_takes 2 = .ok (.iconst 0, 1) := by decide +kernel
theorem dX8_takes_3 : decode cX8_takes 3 = .ok (.istore 4, 2) := by decide +kernel
theorem dX8_takes_5 : decode cX8_takes 5 = .ok (.iload 4, 2) := by decide +kernel
theorem dX8_takes_7 : decode cX8_takes 7 = .ok (.aload_n 0, 1) := by decide +kernel
theorem dX8_takes_8 : decode cX8_takes 8 = .ok (.getfield 95, 3) := by decide +kernel
theorem dX8_takes_11 : decode cX8_takes 11 = .ok (.if_icmp .ge 63, 3) := by decide +kernel
theorem dX8_takes_14 : decode cX8_takes 14 = .ok (.aload_n 0, 1) := by decide +kernel
theorem dX8_takes_15 : decode cX8_takes 15 = .ok (.getfield 16, 3) := by decide +kernel
theorem dX8_takes_18 : decode cX8_takes 18 = .ok (.iload 4, 2) := by decide +kernel
theorem dX8_takes_20 : decode cX8_takes 20 = .ok (.iaload, 1) := by decide +kernel
theorem dX8_takes_21 : decode cX8_takes 21 = .ok (.iload_n 1, 1) := by decide +kernel
theorem dX8_takes_22 : decode cX8_takes 22 = .ok (.if_icmp .ne 26, 3) := by decide +kernel
theorem dX8_takes_25 : decode cX8_takes 25 = .ok (.aload_n 0, 1) := by decide +kernel
theorem dX8_takes_26 : decode cX8_takes 26 = .ok (.iload 4, 2) := by decide +kernel
theorem dX8_takes_28 : decode cX8_takes 28 = .ok (.invokevirtual 128, 3) := by decide +kernel
theorem dX8_takes_31 : decode cX8_takes 31 = .ok (.ifCond .ne 17, 3) := by decide +kernel
theorem dX8_takes_34 : decode cX8_takes 34 = .ok (.iload_n 3, 1) := by decide +kernel
theorem dX8_takes_35 : decode cX8_takes 35 = .ok (.aload_n 0, 1) := by decide +kernel
theorem dX8_takes_36 : decode cX8_takes 36 = .ok (.getfield 19, 3) := by decide +kernel
theorem dX8_takes_39 : decode cX8_takes 39 = .ok (.iload 4, 2) := by decide +kernel
theorem dX8_takes_41 : decode cX8_takes 41 = .ok (.iaload, 1) := by decide +kernel
theorem dX8_takes_42 : decode cX8_takes 42 = .ok (.invokestatic 161, 3) := by decide +kernel
theorem dX8_takes_45 : decode cX8_takes 45 = .ok (.goto 4, 3) := by decide +kernel
theorem dX8_takes_48 : decode cX8_takes 48 = .ok (.iconst 0, 1) := by decide +kernel
theorem dX8_takes_49 : decode cX8_takes 49 = .ok (.istore 5, 2) := by decide +kernel
theorem dX8_takes_51 : decode cX8_takes 51 = .ok (.aload_n 0, 1) := by decide +kernel
theorem dX8_takes_52 : decode cX8_takes 52 = .ok (.getfield 19, 3) := by decide +kernel
theorem dX8_takes_55 : decode cX8_takes 55 = .ok (.iload 4, 2) := by decide +kernel
theorem dX8_takes_57 : decode cX8_takes 57 = .ok (.dup2, 1) := by decide +kernel
theorem dX8_takes_58 : decode cX8_takes 58 = .ok (.iaload, 1) := by decide +kernel
theorem dX8_takes_59 : decode cX8_takes 59 = .ok (.iload 5, 2) := by decide +kernel
theorem dX8_takes_61 : decode cX8_takes 61 = .ok (.isub, 1) := by decide +kernel
theorem dX8_takes_62 : decode cX8_takes 62 = .ok (.iastore, 1) := by decide +kernel
theorem dX8_takes_63 : decode cX8_takes 63 = .ok (.iload_n 3, 1) := by decide +kernel
theorem dX8_takes_64 : decode cX8_takes 64 = .ok (.iload 5, 2) := by decide +kernel
theorem dX8_takes_66 : decode cX8_takes 66 = .ok (.isub, 1) := by decide +kernel
theorem dX8_takes_67 : decode cX8_takes 67 = .ok (.istore_n 3, 1) := by decide +kernel
theorem dX8_takes_68 : decode cX8_takes 68 = .ok (.iinc 4 1, 3) := by decide +kernel
theorem dX8_takes_71 : decode cX8_takes 71 = .ok (.goto (-66), 3) := by decide +kernel
theorem dX8_takes_74 : decode cX8_takes 74 = .ok (.return_, 1) := by decide +kernel
theorem dX8_shoots_0 : decode cX8_shoots 0 = .ok (.aload_n 0, 1) := by decide +kernel
theorem dX8_shoots_1 : decode cX8_shoots 1 = .ok (.getfield 62, 3) := by decide +kernel
theorem dX8_shoots_4 : decode cX8_shoots 4 = .ok (.iload_n 1, 1) := by decide +kernel
theorem dX8_shoots_5 : decode cX8_shoots 5 = .ok (.iaload, 1) := by decide +kernel
theorem dX8_shoots_6 : decode cX8_shoots 6 = .ok (.istore_n 2, 1) := by decide +kernel
theorem dX8_shoots_7 : decode cX8_shoots 7 = .ok (.aload_n 0, 1) := by decide +kernel
theorem dX8_shoots_8 : decode cX8_shoots 8 = .ok (.getfield 65, 3) := by decide +kernel
theorem dX8_shoots_11 : decode cX8_shoots 11 = .ok (.iload_n 1, 1) := by decide +kernel
theorem dX8_shoots_12 : decode cX8_shoots 12 = .ok (.iaload, 1) := by decide +kernel
theorem dX8_shoots_13 : decode cX8_shoots 13 = .ok (.istore_n 3, 1) := by decide +kernel
theorem dX8_shoots_14 : decode cX8_shoots 14 = .ok (.aload_n 0, 1) := by decide +kernel
theorem dX8_shoots_15 : decode cX8_shoots 15 = .ok (.iload_n 2, 1) := by decide +kernel
theorem dX8_shoots_16 : decode cX8_shoots 16 = .ok (.invokevirtual 143, 3) := by decide +kernel
theorem dX8_shoots_19 : decode cX8_shoots 19 = .ok (.istore 4, 2) := by decide +kernel
theorem dX8_shoots_21 : decode cX8_shoots 21 = .ok (.iload 4, 2) := by decide +kernel
theorem dX8_shoots_23 : decode cX8_shoots 23 = .ok (.aload_n 0, 1) := by decide +kernel
theorem dX8_shoots_24 : decode cX8_shoots 24 = .ok (.getfield 28, 3) := by decide +kernel
theorem dX8_shoots_27 : decode cX8_shoots 27 = .ok (.iload_n 2, 1) := by decide +kernel
theorem dX8_shoots_28 : decode cX8_shoots 28 = .ok (.iaload, 1) := by decide +kernel
theorem dX8_shoots_29 : decode cX8_shoots 29 = .ok (.imul, 1) := by decide +kernel
theorem dX8_shoots_30 : decode cX8_shoots 30 = .ok (.aload_n 0, 1) := by decide +kernel
theorem dX8_shoots_31 : decode cX8_shoots 31 = .ok (.getfield 31, 3) := by decide +kernel
theorem dX8_shoots_34 : decode cX8_shoots 34 = .ok (.iload_n 2, 1) := by decide +kernel
theorem dX8_shoots_35 : decode cX8_shoots 35 = .ok (.iaload, 1) := by decide +kernel
theorem dX8_shoots_36 : decode cX8_shoots 36 = .ok (.iadd, 1) := by decide +kernel
theorem dX8_shoots_37 : decode cX8_shoots 37 = .ok (.istore 5, 2) := by decide +kernel
theorem dX8_shoots_39 : decode cX8_shoots 39 = .ok (.aload_n 0, 1) := by decide +kernel
theorem dX8_shoots_40 : decode cX8_shoots 40 = .ok (.getfield 13, 3) := by decide +kernel
theorem dX8_shoots_43 : decode cX8_shoots 43 = .ok (.iload_n 3, 1) := by decide +kernel
theorem dX8_shoots_44 : decode cX8_shoots 44 = .ok (.iaload, 1) := by decide +kernel
theorem dX8_shoots_45 : decode cX8_shoots 45 = .ok (.iload 5, 2) := by decide +kernel
theorem dX8_shoots_47 : decode cX8_shoots 47 = .ok (.aload_n 0, 1) := by decide +kernel
theorem dX8_shoots_48 : decode cX8_shoots 48 = .ok (.getfield 71, 3) := by decide +kernel
theorem dX8_shoots_51 : decode cX8_shoots 51 = .ok (.iload_n 1, 1) := by decide +kernel
theorem dX8_shoots_52 : decode cX8_shoots 52 = .ok (.iaload, 1) := by decide +kernel
theorem dX8_shoots_53 : decode cX8_shoots 53 = .ok (.imul, 1) := by decide +kernel
theorem dX8_shoots_54 : decode cX8_shoots 54 = .ok (.bipush 100, 2) := by decide +kernel
theorem dX8_shoots_56 : decode cX8_shoots 56 = .ok (.idiv, 1) := by decide +kernel
theorem dX8_shoots_57 : decode cX8_shoots 57 = .ok (.invokestatic 161, 3) := by decide +kernel
theorem dX8_shoots_60 : decode cX8_shoots 60 = .ok (.istore 6, 2) := by decide +kernel
theorem dX8_shoots_62 : decode cX8_shoots 62 = .ok (.iload 4, 2) := by decide +kernel
theorem dX8_shoots_64 : decode cX8_shoots 64 = .ok (.ifCond .eq 16, 3) := by decide +kernel
theorem dX8_shoots_67 : decode cX8_shoots 67 = .ok (.aload_n 0, 1) := by decide +kernel
theorem dX8_shoots_68 : decode cX8_shoots 68 = .ok (.iload_n 3, 1) := by decide +kernel
theorem dX8_shoots_69 : decode cX8_shoots 69 = .ok (.invokevirtual 132, 3) := by decide +kernel
theorem dX8_shoots_72 : decode cX8_shoots 72 = .ok (.iload 5, 2) := by decide +kernel
theorem dX8_shoots_74 : decode cX8_shoots 74 = .ok (.iload 6, 2) := by decide +kernel
theorem dX8_shoots_76 : decode cX8_shoots 76 = .ok (.isub, 1) := by decide +kernel
theorem dX8_shoots_77 : decode cX8_shoots 77 = .ok (.if_icmp .ge 5, 3) := by decide +kernel
theorem dX8_shoots_80 : decode cX8_shoots 80 = .ok (.iconst (-1), 1) := by decide +kernel
theorem dX8_shoots_81 : decode cX8_shoots 81 = .ok (.ireturn, 1) := by decide +kernel
theorem dX8_shoots_82 : decode cX8_shoots 82 = .ok (.aload_n 0, 1) := by decide +kernel
theorem dX8_shoots_83 : decode cX8_shoots 83 = .ok (.getfield 13, 3) := by decide +kernel
theorem dX8_shoots_86 : decode cX8_shoots 86 = .ok (.iload_n 3, 1) := by decide +kernel
theorem dX8_shoots_87 : decode cX8_shoots 87 = .ok (.dup2, 1) := by decide +kernel
theorem dX8_shoots_88 : decode cX8_shoots 88 = .ok (.iaload, 1) := by decide +kernel
theorem dX8_shoots_89 : decode cX8_shoots 89 = .ok (.iload 6, 2) := by decide +kernel
theorem dX8_shoots_91 : decode cX8_shoots 91 = .ok (.isub, 1) := by decide +kernel
theorem dX8_shoots_92 : decode cX8_shoots 92 = .ok (.iastore, 1) := by decide +kernel
theorem dX8_shoots_93 : decode cX8_shoots 93 = .ok (.aload_n 0, 1) := by decide +kernel
theorem dX8_shoots_94 : decode cX8_shoots 94 = .ok (.iload_n 3, 1) := by decide +kernel
theorem dX8_shoots_95 : decode cX8_shoots 95 = .ok (.iload 5, 2) := by decide +kernel
theorem dX8_shoots_97 : decode cX8_shoots 97 = .ok (.iload 6, 2) := by decide +kernel
theorem dX8_shoots_99 : decode cX8_shoots 99 = .ok (.isub, 1) := by decide +kernel
theorem dX8_shoots_100 : decode cX8_shoots 100 = .ok (.invokevirtual 164, 3) := by decide +kernel
theorem dX8_shoots_103 : decode cX8_shoots 103 = .ok (.iconst 0, 1) := by decide +kernel
theorem dX8_shoots_104 : decode cX8_shoots 104 = .ok (.istore 7, 2) := by decide +kernel
theorem dX8_shoots_106 : decode cX8_shoots 106 = .ok (.iload 7, 2) := by decide +kernel
theorem dX8_shoots_108 : decode cX8_shoots 108 = .ok (.aload_n 0, 1) := by decide +kernel
theorem dX8_shoots_109 : decode cX8_shoots 109 = .ok (.getfield 25, 3) := by decide +kernel
theorem dX8_shoots_112 : decode cX8_shoots 112 = .ok (.iload_n 2, 1) := by decide +kernel
theorem dX8_shoots_113 : decode cX8_shoots 113 = .ok (.iaload, 1) := by decide +kernel
theorem dX8_shoots_114 : decode cX8_shoots 114 = .ok (.if_icmp .ge 41, 3) := by decide +kernel
theorem dX8_shoots_117 : decode cX8_shoots 117 = .ok (.aload_n 0, 1) := by decide +kernel
theorem dX8_shoots_118 : decode cX8_shoots 118 = .ok (.getfield 42, 3) := by decide +kernel
theorem dX8_shoots_121 : decode cX8_shoots 121 = .ok (.iload_n 2, 1) := by decide +kernel
theorem dX8_shoots_122 : decode cX8_shoots 122 = .ok (.aaload, 1) := by decide +kernel
theorem dX8_shoots_123 : decode cX8_shoots 123 = .ok (.iload 7, 2) := by decide +kernel
theorem dX8_shoots_125 : decode cX8_shoots 125 = .ok (.baload, 1) := by decide +kernel
theorem dX8_shoots_126 : decode cX8_shoots 126 = .ok (.ifCond .ne 23, 3) := by decide +kernel
theorem dX8_shoots_129 : decode cX8_shoots 129 = .ok (.aload_n 0, 1) := by decide +kernel
theorem dX8_shoots_130 : decode cX8_shoots 130 = .ok (.getfield 50, 3) := by decide +kernel
theorem dX8_shoots_133 : decode cX8_shoots 133 = .ok (.iload_n 2, 1) := by decide +kernel
theorem dX8_shoots_134 : decode cX8_shoots 134 = .ok (.aaload, 1) := by decide +kernel
theorem dX8_shoots_135 : decode cX8_shoots 135 = .ok (.iload 7, 2) := by decide +kernel
theorem dX8_shoots_137 : decode cX8_shoots 137 = .ok (.dup2, 1) := by decide +kernel
theorem dX8_shoots_138 : decode cX8_shoots 138 = .ok (.iaload, 1) := by decide +kernel
theorem dX8_shoots_139 : decode cX8_shoots 139 = .ok (.iconst 1, 1) := by decide +kernel
theorem dX8_shoots_140 : decode cX8_shoots 140 = .ok (.iadd, 1) := by decide +kernel
theorem dX8_shoots_141 : decode cX8_shoots 141 = .ok (.iastore, 1) := by decide +kernel
theorem dX8_shoots_142 : decode cX8_shoots 142 = .ok (.aload_n 0, 1) := by decide +kernel
theorem dX8_shoots_143 : decode cX8_shoots 143 = .ok (.iload_n 2, 1) := by decide +kernel
theorem dX8_shoots_144 : decode cX8_shoots 144 = .ok (.iload 7, 2) := by decide +kernel
theorem dX8_shoots_146 : decode cX8_shoots 146 = .ok (.invokevirtual 139, 3) := by decide +kernel
theorem dX8_shoots_149 : decode cX8_shoots 149 = .ok (.iinc 7 1, 3) := by decide +kernel
theorem dX8_shoots_152 : decode cX8_shoots 152 = .ok (.goto (-46), 3) := by decide +kernel
theorem dX8_shoots_155 : decode cX8_shoots 155 = .ok (.iload 4, 2) := by decide +kernel
theorem dX8_shoots_157 : decode cX8_shoots 157 = .ok (.aload_n 0, 1) := by decide +kernel
theorem dX8_shoots_158 : decode cX8_shoots 158 = .ok (.getfield 68, 3) := by decide +kernel
theorem dX8_shoots_161 : decode cX8_shoots 161 = .ok (.iload_n 1, 1) := by decide +kernel
theorem dX8_shoots_162 : decode cX8_shoots 162 = .ok (.iaload, 1) := by decide +kernel
theorem dX8_shoots_163 : decode cX8_shoots 163 = .ok (.invokestatic 161, 3) := by decide +kernel
theorem dX8_shoots_166 : decode cX8_shoots 166 = .ok (.istore 7, 2) := by decide +kernel
theorem dX8_shoots_168 : decode cX8_shoots 168 = .ok (.aload_n 0, 1) := by decide +kernel
theorem dX8_shoots_169 : decode cX8_shoots 169 = .ok (.getfield 68, 3) := by decide +kernel
theorem dX8_shoots_172 : decode cX8_shoots 172 = .ok (.iload_n 1, 1) := by decide +kernel
theorem dX8_shoots_173 : decode cX8_shoots 173 = .ok (.dup2, 1) := by decide +kernel
theorem dX8_shoots_174 : decode cX8_shoots 174 = .ok (.iaload, 1) := by decide +kernel
theorem dX8_shoots_175 : decode cX8_shoots 175 = .ok (.iload 7, 2) := by decide +kernel
theorem dX8_shoots_177 : decode cX8_shoots 177 = .ok (.isub, 1) := by decide +kernel
theorem dX8_shoots_178 : decode cX8_shoots 178 = .ok (.iastore, 1) := by decide +kernel
theorem dX8_shoots_179 : decode cX8_shoots 179 = .ok (.aload_n 0, 1) := by decide +kernel
theorem dX8_shoots_180 : decode cX8_shoots 180 = .ok (.getfield 13, 3) := by decide +kernel
theorem dX8_shoots_183 : decode cX8_shoots 183 = .ok (.iload_n 3, 1) := by decide +kernel
theorem dX8_shoots_184 : decode cX8_shoots 184 = .ok (.dup2, 1) := by decide +kernel
theorem dX8_shoots_185 : decode cX8_shoots 185 = .ok (.iaload, 1) := by decide +kernel
theorem dX8_shoots_186 : decode cX8_shoots 186 = .ok (.aload_n 0, 1) := by decide +kernel
theorem dX8_shoots_187 : decode cX8_shoots 187 = .ok (.getfield 31, 3) := by decide +kernel
theorem dX8_shoots_190 : decode cX8_shoots 190 = .ok (.iload_n 2, 1) := by decide +kernel
theorem dX8_shoots_191 : decode cX8_shoots 191 = .ok (.iaload, 1) := by decide +kernel
theorem dX8_shoots_192 : decode cX8_shoots 192 = .ok (.iload 4, 2) := by decide +kernel
theorem dX8_shoots_194 : decode cX8_shoots 194 = .ok (.iload 7, 2) := by decide +kernel
theorem dX8_shoots_196 : decode cX8_shoots 196 = .ok (.isub, 1) := by decide +kernel
theorem dX8_shoots_197 : decode cX8_shoots 197 = .ok (.aload_n 0, 1) := by decide +kernel
theorem dX8_shoots_198 : decode cX8_shoots 198 = .ok (.getfield 28, 3) := by decide +kernel
theorem dX8_shoots_201 : decode cX8_shoots 201 = .ok (.iload_n 2, 1) := by decide +kernel
theorem dX8_shoots_202 : decode cX8_shoots 202 = .ok (.iaload, 1) := by decide +kernel
theorem dX8_shoots_203 : decode cX8_shoots 203 = .ok (.imul, 1) := by decide +kernel
theorem dX8_shoots_204 : decode cX8_shoots 204 = .ok (.iadd, 1) := by decide +kernel
theorem dX8_shoots_205 : decode cX8_shoots 205 = .ok (.iadd, 1) := by decide +kernel
theorem dX8_shoots_206 : decode cX8_shoots 206 = .ok (.iastore, 1) := by decide +kernel
theorem dX8_shoots_207 : decode cX8_shoots 207 = .ok (.aload_n 0, 1) := by decide +kernel
theorem dX8_shoots_208 : decode cX8_shoots 208 = .ok (.getfield 74, 3) := by decide +kernel
theorem dX8_shoots_211 : decode cX8_shoots 211 = .ok (.iload_n 1, 1) := by decide +kernel
theorem dX8_shoots_212 : decode cX8_shoots 212 = .ok (.dup2, 1) := by decide +kernel
theorem dX8_shoots_213 : decode cX8_shoots 213 = .ok (.iaload, 1) := by decide +kernel
theorem dX8_shoots_214 : decode cX8_shoots 214 = .ok (.iconst 1, 1) := by decide +kernel
theorem dX8_shoots_215 : decode cX8_shoots 215 = .ok (.iadd, 1) := by decide +kernel
theorem dX8_shoots_216 : decode cX8_shoots 216 = .ok (.iastore, 1) := by decide +kernel
theorem dX8_shoots_217 : decode cX8_shoots 217 = .ok (.aload_n 0, 1) := by decide +kernel
theorem dX8_shoots_218 : decode cX8_shoots 218 = .ok (.getfield 77, 3) := by decide +kernel
theorem dX8_shoots_221 : decode cX8_shoots 221 = .ok (.iload_n 1, 1) := by decide +kernel
theorem dX8_shoots_222 : decode cX8_shoots 222 = .ok (.dup2, 1) := by decide +kernel
theorem dX8_shoots_223 : decode cX8_shoots 223 = .ok (.laload, 1) := by decide +kernel
theorem dX8_shoots_224 : decode cX8_shoots 224 = .ok (.iload 6, 2) := by decide +kernel
theorem dX8_shoots_226 : decode cX8_shoots 226 = .ok (.i2l, 1) := by decide +kernel
theorem dX8_shoots_227 : decode cX8_shoots 227 = .ok (.ladd, 1) := by decide +kernel
theorem dX8_shoots_228 : decode cX8_shoots 228 = .ok (.lastore, 1) := by decide +kernel
theorem dX8_shoots_229 : decode cX8_shoots 229 = .ok (.aload_n 0, 1) := by decide +kernel
theorem dX8_shoots_230 : decode cX8_shoots 230 = .ok (.getfield 81, 3) := by decide +kernel
theorem dX8_shoots_233 : decode cX8_shoots 233 = .ok (.iload_n 1, 1) := by decide +kernel
theorem dX8_shoots_234 : decode cX8_shoots 234 = .ok (.aload_n 0, 1) := by decide +kernel
theorem dX8_shoots_235 : decode cX8_shoots 235 = .ok (.getfield 81, 3) := by decide +kernel
theorem dX8_shoots_238 : decode cX8_shoots 238 = .ok (.iload_n 1, 1) := by decide +kernel
theorem dX8_shoots_239 : decode cX8_shoots 239 = .ok (.iaload, 1) := by decide +kernel
theorem dX8_shoots_240 : decode cX8_shoots 240 = .ok (.bipush 100, 2) := by decide +kernel
theorem dX8_shoots_242 : decode cX8_shoots 242 = .ok (.iload 6, 2) := by decide +kernel
theorem dX8_shoots_244 : decode cX8_shoots 244 = .ok (.imul, 1) := by decide +kernel
theorem dX8_shoots_245 : decode cX8_shoots 245 = .ok (.iload 5, 2) := by decide +kernel
theorem dX8_shoots_247 : decode cX8_shoots 247 = .ok (.idiv, 1) := by decide +kernel
theorem dX8_shoots_248 : decode cX8_shoots 248 = .ok (.invokestatic 122, 3) := by decide +kernel
theorem dX8_shoots_251 : decode cX8_shoots 251 = .ok (.iastore, 1) := by decide +kernel
theorem dX8_shoots_252 : decode cX8_shoots 252 = .ok (.aload_n 0, 1) := by decide +kernel
theorem dX8_shoots_253 : decode cX8_shoots 253 = .ok (.dup, 1) := by decide +kernel
theorem dX8_shoots_254 : decode cX8_shoots 254 = .ok (.getfield 167, 3) := by decide +kernel
theorem dX8_shoots_257 : decode cX8_shoots 257 = .ok (.iconst 1, 1) := by decide +kernel
theorem dX8_shoots_258 : decode cX8_shoots 258 = .ok (.iadd, 1) := by decide +kernel
theorem dX8_shoots_259 : decode cX8_shoots 259 = .ok (.putfield 167, 3) := by decide +kernel
theorem dX8_shoots_262 : decode cX8_shoots 262 = .ok (.aload_n 0, 1) := by decide +kernel
theorem dX8_shoots_263 : decode cX8_shoots 263 = .ok (.dup, 1) := by decide +kernel
theorem dX8_shoots_264 : decode cX8_shoots 264 = .ok (.getfield 170, 3) := by decide +kernel
theorem dX8_shoots_267 : decode cX8_shoots 267 = .ok (.iload 7, 2) := by decide +kernel
theorem dX8_shoots_269 : decode cX8_shoots 269 = .ok (.iadd, 1) := by decide +kernel
theorem dX8_shoots_270 : decode cX8_shoots 270 = .ok (.putfield 170, 3) := by decide +kernel
theorem dX8_shoots_273 : decode cX8_shoots 273 = .ok (.aload_n 0, 1) := by decide +kernel
theorem dX8_shoots_274 : decode cX8_shoots 274 = .ok (.dup, 1) := by decide +kernel
theorem dX8_shoots_275 : decode cX8_shoots 275 = .ok (.getfield 173, 3) := by decide +kernel
theorem dX8_shoots_278 : decode cX8_shoots 278 = .ok (.iload 5, 2) := by decide +kernel
theorem dX8_shoots_280 : decode cX8_shoots 280 = .ok (.i2l, 1) := by decide +kernel
theorem dX8_shoots_281 : decode cX8_shoots 281 = .ok (.ladd, 1) := by decide +kernel
theorem dX8_shoots_282 : decode cX8_shoots 282 = .ok (.putfield 173, 3) := by decide +kernel
theorem dX8_shoots_285 : decode cX8_shoots 285 = .ok (.aload_n 0, 1) := by decide +kernel
theorem dX8_shoots_286 : decode cX8_shoots 286 = .ok (.dup, 1) := by decide +kernel
theorem dX8_shoots_287 : decode cX8_shoots 287 = .ok (.getfield 177, 3) := by decide +kernel
theorem dX8_shoots_290 : decode cX8_shoots 290 = .ok (.iload 6, 2) := by decide +kernel
theorem dX8_shoots_292 : decode cX8_shoots 292 = .ok (.i2l, 1) := by decide +kernel
theorem dX8_shoots_293 : decode cX8_shoots 293 = .ok (.ladd, 1) := by decide +kernel
theorem dX8_shoots_294 : decode cX8_shoots 294 = .ok (.putfield 177, 3) := by decide +kernel
theorem dX8_shoots_297 : decode cX8_shoots 297 = .ok (.iload 7, 2) := by decide +kernel
theorem dX8_shoots_299 : decode cX8_shoots 299 = .ok (.ireturn, 1) := by decide +kernel
theorem dX8_hour_0 : decode cX8_hour 0 = .ok (.iconst 0, 1) := by decide +kernel
theorem dX8_hour_1 : decode cX8_hour 1 = .ok (.istore_n 1, 1) := by decide +kernel
theorem dX8_hour_2 : decode cX8_hour 2 = .ok (.iconst 0, 1) := by decide +kernel
theorem dX8_hour_3 : decode cX8_hour 3 = .ok (.istore_n 2, 1) := by decide +kernel
theorem dX8_hour_4 : decode cX8_hour 4 = .ok (.iload_n 2, 1) := by decide +kernel
theorem dX8_hour_5 : decode cX8_hour 5 = .ok (.aload_n 0, 1) := by decide +kernel
theorem dX8_hour_6 : decode cX8_hour 6 = .ok (.getfield 105, 3) := by decide +kernel
theorem dX8_hour_9 : decode cX8_hour 9 = .ok (.if_icmp .ge 103, 3) := by decide +kernel
theorem dX8_hour_12 : decode cX8_hour 12 = .ok (.aload_n 0, 1) := by decide +kernel
theorem dX8_hour_13 : decode cX8_hour 13 = .ok (.getfield 59, 3) := by decide +kernel
theorem dX8_hour_16 : decode cX8_hour 16 = .ok (.iload_n 2, 1) := by decide +kernel
theorem dX8_hour_17 : decode cX8_hour 17 = .ok (.iaload, 1) := by decide +kernel
theorem dX8_hour_18 : decode cX8_hour 18 = .ok (.istore_n 3, 1) := by decide +kernel
theorem dX8_hour_19 : decode cX8_hour 19 = .ok (.iload_n 3, 1) := by decide +kernel
theorem dX8_hour_20 : decode cX8_hour 20 = .ok (.iconst (-1), 1) := by decide +kernel
theorem dX8_hour_21 : decode cX8_hour 21 = .ok (.if_icmp .ne 7, 3) := by decide +kernel
theorem dX8_hour_24 : decode cX8_hour 24 = .ok (.iconst 0, 1) := by decide +kernel
theorem dX8_hour_25 : decode cX8_hour 25 = .ok (.goto 18, 3) := by decide +kernel
theorem dX8_hour_28 : decode cX8_hour 28 = .ok (.sipush 3600, 3) := by decide +kernel
theorem dX8_hour_31 : decode cX8_hour 31 = .ok (.aload_n 0, 1) := by decide +kernel
theorem dX8_hour_32 : decode cX8_hour 32 = .ok (.getfield 37, 3) := by decide +kernel
theorem dX8_hour_35 : decode cX8_hour 35 = .ok (.aload_n 0, 1) := by decide +kernel
theorem dX8_hour_36 : decode cX8_hour 36 = .ok (.getfield 56, 3) := by decide +kernel
theorem dX8_hour_39 : decode cX8_hour 39 = .ok (.iload_n 2, 1) := by decide +kernel
theorem dX8_hour_40 : decode cX8_hour 40 = .ok (.iaload, 1) := by decide +kernel
theorem dX8_hour_41 : decode cX8_hour 41 = .ok (.iaload, 1) := by decide +kernel
theorem dX8_hour_42 : decode cX8_hour 42 = .ok (.idiv, 1) := by decide +kernel
theorem dX8_hour_43 : decode cX8_hour 43 = .ok (.istore 4, 2) := by decide +kernel
theorem dX8_hour_45 : decode cX8_hour 45 = .ok (.iconst 0, 1) := by decide +kernel
theorem dX8_hour_46 : decode cX8_hour 46 = .ok (.istore 5, 2) := by decide +kernel
theorem dX8_hour_48 : decode cX8_hour 48 = .ok (.iload 5, 2) := by decide +kernel
theorem dX8_hour_50 : decode cX8_hour 50 = .ok (.iload 4, 2) := by decide +kernel
theorem dX8_hour_52 : decode cX8_hour 52 = .ok (.if_icmp .ge 54, 3) := by decide +kernel
theorem dX8_hour_55 : decode cX8_hour 55 = .ok (.aload_n 0, 1) := by decide +kernel
theorem dX8_hour_56 : decode cX8_hour 56 = .ok (.getfield 68, 3) := by decide +kernel
theorem dX8_hour_59 : decode cX8_hour 59 = .ok (.iload_n 3, 1) := by decide +kernel
theorem dX8_hour_60 : decode cX8_hour 60 = .ok (.iaload, 1) := by decide +kernel
theorem dX8_hour_61 : decode cX8_hour 61 = .ok (.ifCond .le 45, 3) := by decide +kernel
theorem dX8_hour_64 : decode cX8_hour 64 = .ok (.aload_n 0, 1) := by decide +kernel
theorem dX8_hour_65 : decode cX8_hour 65 = .ok (.iload_n 3, 1) := by decide +kernel
theorem dX8_hour_66 : decode cX8_hour 66 = .ok (.invokevirtual 180, 3) := by decide +kernel
theorem dX8_hour_69 : decode cX8_hour 69 = .ok (.istore 6, 2) := by decide +kernel
theorem dX8_hour_71 : decode cX8_hour 71 = .ok (.iload_n 1, 1) := by decide +kernel
theorem dX8_hour_72 : decode cX8_hour 72 = .ok (.iload 6, 2) := by decide +kernel
theorem dX8_hour_74 : decode cX8_hour 74 = .ok (.iconst (-1), 1) := by decide +kernel
theorem dX8_hour_75 : decode cX8_hour 75 = .ok (.if_icmp .ne 7, 3) := by decide +kernel
theorem dX8_hour_78 : decode cX8_hour 78 = .ok (.iconst 0, 1) := by decide +kernel
theorem dX8_hour_79 : decode cX8_hour 79 = .ok (.goto 5, 3) := by decide +kernel
theorem dX8_hour_82 : decode cX8_hour 82 = .ok (.iload 6, 2) := by decide +kernel
theorem dX8_hour_84 : decode cX8_hour 84 = .ok (.iadd, 1) := by decide +kernel
theorem dX8_hour_85 : decode cX8_hour 85 = .ok (.istore_n 1, 1) := by decide +kernel
theorem dX8_hour_86 : decode cX8_hour 86 = .ok (.iload 6, 2) := by decide +kernel
theorem dX8_hour_88 : decode cX8_hour 88 = .ok (.iconst (-1), 1) := by decide +kernel
theorem dX8_hour_89 : decode cX8_hour 89 = .ok (.if_icmp .ne 7, 3) := by decide +kernel
theorem dX8_hour_92 : decode cX8_hour 92 = .ok (.iconst 0, 1) := by decide +kernel
theorem dX8_hour_93 : decode cX8_hour 93 = .ok (.goto 5, 3) := by decide +kernel
theorem dX8_hour_96 : decode cX8_hour 96 = .ok (.iload 4, 2) := by decide +kernel
theorem dX8_hour_98 : decode cX8_hour 98 = .ok (.istore 4, 2) := by decide +kernel
theorem dX8_hour_100 : decode cX8_hour 100 = .ok (.iinc 5 1, 3) := by decide +kernel
theorem dX8_hour_103 : decode cX8_hour 103 = .ok (.goto (-55), 3) := by decide +kernel
theorem dX8_hour_106 : decode cX8_hour 106 = .ok (.iinc 2 1, 3) := by decide +kernel
theorem dX8_hour_109 : decode cX8_hour 109 = .ok (.goto (-105), 3) := by decide +kernel
theorem dX8_hour_112 : decode cX8_hour 112 = .ok (.aload_n 0, 1) := by decide +kernel
theorem dX8_hour_113 : decode cX8_hour 113 = .ok (.getfield 95, 3) := by decide +kernel
theorem dX8_hour_116 : decode cX8_hour 116 = .ok (.iconst 1, 1) := by decide +kernel
theorem dX8_hour_117 : decode cX8_hour 117 = .ok (.isub, 1) := by decide +kernel
theorem dX8_hour_118 : decode cX8_hour 118 = .ok (.istore_n 2, 1) := by decide +kernel
theorem dX8_hour_119 : decode cX8_hour 119 = .ok (.iload_n 2, 1) := by decide +kernel
theorem dX8_hour_120 : decode cX8_hour 120 = .ok (.ifCond .lt 33, 3) := by decide +kernel
theorem dX8_hour_123 : decode cX8_hour 123 = .ok (.aload_n 0, 1) := by decide +kernel
theorem dX8_hour_124 : decode cX8_hour 124 = .ok (.getfield 22, 3) := by decide +kernel
theorem dX8_hour_127 : decode cX8_hour 127 = .ok (.iload_n 2, 1) := by decide +kernel
theorem dX8_hour_128 : decode cX8_hour 128 = .ok (.dup2, 1) := by decide +kernel
theorem dX8_hour_129 : decode cX8_hour 129 = .ok (.iaload, 1) := by decide +kernel
theorem dX8_hour_130 : decode cX8_hour 130 = .ok (.iconst 1, 1) := by decide +kernel
theorem dX8_hour_131 : decode cX8_hour 131 = .ok (.iadd, 1) := by decide +kernel
theorem dX8_hour_132 : decode cX8_hour 132 = .ok (.iastore, 1) := by decide +kernel
theorem dX8_hour_133 : decode cX8_hour 133 = .ok (.aload_n 0, 1) := by decide +kernel
theorem dX8_hour_134 : decode cX8_hour 134 = .ok (.getfield 19, 3) := by decide +kernel
theorem dX8_hour_137 : decode cX8_hour 137 = .ok (.iload_n 2, 1) := by decide +kernel
theorem dX8_hour_138 : decode cX8_hour 138 = .ok (.iaload, 1) := by decide +kernel
theorem dX8_hour_139 : decode cX8_hour 139 = .ok (.ifCond .ne 8, 3) := by decide +kernel
theorem dX8_hour_142 : decode cX8_hour 142 = .ok (.aload_n 0, 1) := by decide +kernel
theorem dX8_hour_143 : decode cX8_hour 143 = .ok (.iload_n 2, 1) := by decide +kernel
theorem dX8_hour_144 : decode cX8_hour 144 = .ok (.invokevirtual 118, 3) := by decide +kernel
theorem dX8_hour_147 : decode cX8_hour 147 = .ok (.iinc 2 (-1), 3) := by decide +kernel
theorem dX8_hour_150 : decode cX8_hour 150 = .ok (.goto (-31), 3) := by decide +kernel
theorem dX8_hour_153 : decode cX8_hour 153 = .ok (.aload_n 0, 1) := by decide +kernel
theorem dX8_hour_154 : decode cX8_hour 154 = .ok (.dup, 1) := by decide +kernel
theorem dX8_hour_155 : decode cX8_hour 155 = .ok (.getfield 183, 3) := by decide +kernel
theorem dX8_hour_158 : decode cX8_hour 158 = .ok (.iconst 1, 1) := by decide +kernel
theorem dX8_hour_159 : decode cX8_hour 159 = .ok (.iadd, 1) := by decide +kernel
theorem dX8_hour_160 : decode cX8_hour 160 = .ok (.putfield 183, 3) := by decide +kernel
theorem dX8_hour_163 : decode cX8_hour 163 = .ok (.iload_n 1, 1) := by decide +kernel
theorem dX8_hour_164 : decode cX8_hour 164 = .ok (.ireturn, 1) := by decide +kernel
theorem dX8_pass_0 : decode cX8_pass 0 = .ok (.aload_n 0, 1) := by decide +kernel
theorem dX8_pass_1 : decode cX8_pass 1 = .ok (.iload_n 1, 1) := by decide +kernel
theorem dX8_pass_2 : decode cX8_pass 2 = .ok (.iconst 1, 1) := by decide +kernel
theorem dX8_pass_3 : decode cX8_pass 3 = .ok (.bipush 24, 2) := by decide +kernel
theorem dX8_pass_5 : decode cX8_pass 5 = .ok (.invokestatic 91, 3) := by decide +kernel
theorem dX8_pass_8 : decode cX8_pass 8 = .ok (.ifCond .ne 7, 3) := by decide +kernel
theorem dX8_pass_11 : decode cX8_pass 11 = .ok (.iconst 1, 1) := by decide +kernel
theorem dX8_pass_12 : decode cX8_pass 12 = .ok (.goto 20, 3) := by decide +kernel
theorem dX8_pass_15 : decode cX8_pass 15 = .ok (.aload_n 0, 1) := by decide +kernel
theorem dX8_pass_16 : decode cX8_pass 16 = .ok (.getfield 183, 3) := by decide +kernel
theorem dX8_pass_19 : decode cX8_pass 19 = .ok (.iload_n 1, 1) := by decide +kernel
theorem dX8_pass_20 : decode cX8_pass 20 = .ok (.iadd, 1) := by decide +kernel
theorem dX8_pass_21 : decode cX8_pass 21 = .ok (.sipush 300, 3) := by decide +kernel
theorem dX8_pass_24 : decode cX8_pass 24 = .ok (.if_icmp .le 7, 3) := by decide +kernel
theorem dX8_pass_27 : decode cX8_pass 27 = .ok (.iconst 2, 1) := by decide +kernel
theorem dX8_pass_28 : decode cX8_pass 28 = .ok (.goto 4, 3) := by decide +kernel
theorem dX8_pass_31 : decode cX8_pass 31 = .ok (.iconst 0, 1) := by decide +kernel
theorem dX8_pass_32 : decode cX8_pass 32 = .ok (.putfield 84, 3) := by decide +kernel
theorem dX8_pass_35 : decode cX8_pass 35 = .ok (.iconst 0, 1) := by decide +kernel
theorem dX8_pass_36 : decode cX8_pass 36 = .ok (.istore_n 2, 1) := by decide +kernel
theorem dX8_pass_37 : decode cX8_pass 37 = .ok (.iconst 0, 1) := by decide +kernel
theorem dX8_pass_38 : decode cX8_pass 38 = .ok (.istore_n 3, 1) := by decide +kernel
theorem dX8_pass_39 : decode cX8_pass 39 = .ok (.iload_n 3, 1) := by decide +kernel
theorem dX8_pass_40 : decode cX8_pass 40 = .ok (.iload_n 1, 1) := by decide +kernel
theorem dX8_pass_41 : decode cX8_pass 41 = .ok (.if_icmp .ge 23, 3) := by decide +kernel
theorem dX8_pass_44 : decode cX8_pass 44 = .ok (.aload_n 0, 1) := by decide +kernel
theorem dX8_pass_45 : decode cX8_pass 45 = .ok (.getfield 84, 3) := by decide +kernel
theorem dX8_pass_48 : decode cX8_pass 48 = .ok (.ifCond .ne 16, 3) := by decide +kernel
theorem dX8_pass_51 : decode cX8_pass 51 = .ok (.iload_n 2, 1) := by decide +kernel
theorem dX8_pass_52 : decode cX8_pass 52 = .ok (.aload_n 0, 1) := by decide +kernel
theorem dX8_pass_53 : decode cX8_pass 53 = .ok (.invokevirtual 186, 3) := by decide +kernel
theorem dX8_pass_56 : decode cX8_pass 56 = .ok (.iadd, 1) := by decide +kernel
theorem dX8_pass_57 : decode cX8_pass 57 = .ok (.istore_n 2, 1) := by decide +kernel
theorem dX8_pass_58 : decode cX8_pass 58 = .ok (.iinc 3 1, 3) := by decide +kernel
theorem dX8_pass_61 : decode cX8_pass 61 = .ok (.goto (-22), 3) := by decide +kernel
theorem dX8_pass_64 : decode cX8_pass 64 = .ok (.iload_n 2, 1) := by decide +kernel
theorem dX8_pass_65 : decode cX8_pass 65 = .ok (.ireturn, 1) := by decide +kernel
theorem dX8_hours_0 : decode cX8_hours 0 = .ok (.aload_n 0, 1) := by decide +kernel
theorem dX8_hours_1 : decode cX8_hours 1 = .ok (.iconst 0, 1) := by decide +kernel
theorem dX8_hours_2 : decode cX8_hours 2 = .ok (.putfield 84, 3) := by decide +kernel
theorem dX8_hours_5 : decode cX8_hours 5 = .ok (.aload_n 0, 1) := by decide +kernel
theorem dX8_hours_6 : decode cX8_hours 6 = .ok (.getfield 183, 3) := by decide +kernel
theorem dX8_hours_9 : decode cX8_hours 9 = .ok (.ireturn, 1) := by decide +kernel
theorem dX8_regrindShare_0 : decode cX8_regrindShare 0 = .ok (.aload_n 0, 1) := by decide +kernel
theorem dX8_regrindShare_1 : decode cX8_regrindShare 1 = .ok (.aload_n 0, 1) := by decide +kernel
theorem dX8_regrindShare_2 : decode cX8_regrindShare 2 = .ok (.getfield 167, 3) := by decide +kernel
theorem dX8_regrindShare_5 : decode cX8_regrindShare 5 = .ok (.ifCond .ne 7, 3) := by decide +kernel
theorem dX8_regrindShare_8 : decode cX8_regrindShare 8 = .ok (.iconst 1, 1) := by decide +kernel
theorem dX8_regrindShare_9 : decode cX8_regrindShare 9 = .ok (.goto 4, 3) := by decide +kernel
theorem dX8_regrindShare_12 : decode cX8_regrindShare 12 = .ok (.iconst 0, 1) := by decide +kernel
theorem dX8_regrindShare_13 : decode cX8_regrindShare 13 = .ok (.putfield 84, 3) := by decide +kernel
theorem dX8_regrindShare_16 : decode cX8_regrindShare 16 = .ok (.aload_n 0, 1) := by decide +kernel
theorem dX8_regrindShare_17 : decode cX8_regrindShare 17 = .ok (.getfield 84, 3) := by decide +kernel
theorem dX8_regrindShare_20 : decode cX8_regrindShare 20 = .ok (.ifCond .le 7, 3) := by decide +kernel
theorem dX8_regrindShare_23 : decode cX8_regrindShare 23 = .ok (.fconst 0, 1) := by decide +kernel
theorem dX8_regrindShare_24 : decode cX8_regrindShare 24 = .ok (.goto 14, 3) := by decide +kernel
theorem dX8_regrindShare_27 : decode cX8_regrindShare 27 = .ok (.aload_n 0, 1) := by decide +kernel
theorem dX8_regrindShare_28 : decode cX8_regrindShare 28 = .ok (.getfield 177, 3) := by decide +kernel
theorem dX8_regrindShare_31 : decode cX8_regrindShare 31 = .ok (.l2f, 1) := by decide +kernel
theorem dX8_regrindShare_32 : decode cX8_regrindShare 32 = .ok (.aload_n 0, 1) := by decide +kernel
theorem dX8_regrindShare_33 : decode cX8_regrindShare 33 = .ok (.getfield 173, 3) := by decide +kernel
theorem dX8_regrindShare_36 : decode cX8_regrindShare 36 = .ok (.l2f, 1) := by decide +kernel
theorem dX8_regrindShare_37 : decode cX8_regrindShare 37 = .ok (.fdiv, 1) := by decide +kernel
theorem dX8_regrindShare_38 : decode cX8_regrindShare 38 = .ok (.freturn, 1) := by decide +kernel
theorem dX8_meanParts_0 : decode cX8_meanParts 0 = .ok (.aload_n 0, 1) := by decide +kernel
theorem dX8_meanParts_1 : decode cX8_meanParts 1 = .ok (.aload_n 0, 1) := by decide +kernel
theorem dX8_meanParts_2 : decode cX8_meanParts 2 = .ok (.getfield 167, 3) := by decide +kernel
theorem dX8_meanParts_5 : decode cX8_meanParts 5 = .ok (.ifCond .ne 7, 3) := by decide +kernel
theorem dX8_meanParts_8 : decode cX8_meanParts 8 = .ok (.iconst 1, 1) := by decide +kernel
theorem dX8_meanParts_9 : decode cX8_meanParts 9 = .ok (.goto 4, 3) := by decide +kernel
theorem dX8_meanParts_12 : decode cX8_meanParts 12 = .ok (.iconst 0, 1) := by decide +kernel
theorem dX8_meanParts_13 : decode cX8_meanParts 13 = .ok (.putfield 84, 3) := by decide +kernel
theorem dX8_meanParts_16 : decode cX8_meanParts 16 = .ok (.aload_n 0, 1) := by decide +kernel
theorem dX8_meanParts_17 : decode cX8_meanParts 17 = .ok (.getfield 84, 3) := by decide +kernel
theorem dX8_meanParts_20 : decode cX8_meanParts 20 = .ok (.ifCond .le 7, 3) := by decide +kernel
theorem dX8_meanParts_23 : decode cX8_meanParts 23 = .ok (.dconst 0, 1) := by decide +kernel
theorem dX8_meanParts_24 : decode cX8_meanParts 24 = .ok (.goto 14, 3) := by decide +kernel
theorem dX8_meanParts_27 : decode cX8_meanParts 27 = .ok (.aload_n 0, 1) := by decide +kernel
theorem dX8_meanParts_28 : decode cX8_meanParts 28 = .ok (.getfield 170, 3) := by decide +kernel
theorem dX8_meanParts_31 : decode cX8_meanParts 31 = .ok (.i2d, 1) := by decide +kernel
theorem dX8_meanParts_32 : decode cX8_meanParts 32 = .ok (.aload_n 0, 1) := by decide +kernel
theorem dX8_meanParts_33 : decode cX8_meanParts 33 = .ok (.getfield 167, 3) := by decide +kernel
theorem dX8_meanParts_36 : decode cX8_meanParts 36 = .ok (.i2d, 1) := by decide +kernel
theorem dX8_meanParts_37 : decode cX8_meanParts 37 = .ok (.ddiv, 1) := by decide +kernel
theorem dX8_meanParts_38 : decode cX8_meanParts 38 = .ok (.dreturn, 1) := by decide +kernel
end
section
theorem dL_addResin_0 : decode cL_addResin 0 = .ok (.aload_n 2, 1) := by decide +kernel
theorem dL_addResin_1 : decode cL_addResin 1 = .ok (.iconst 0, 1) := by decide +kernel
theorem dL_addResin_2 : decode cL_addResin 2 = .ok (.aload_n 0, 1) := by decide +kernel
theorem dL_addResin_3 : decode cL_addResin 3 = .ok (.iload_n 1, 1) := by decide +kernel
theorem dL_addResin_4 : decode cL_addResin 4 = .ok (.invokevirtual 7, 3) := by decide +kernel
theorem dL_addResin_7 : decode cL_addResin 7 = .ok (.i2l, 1) := by decide +kernel
theorem dL_addResin_8 : decode cL_addResin 8 = .ok (.lastore, 1) := by decide +kernel
theorem dL_addResin_9 : decode cL_addResin 9 = .ok (.goto 9, 3) := by decide +kernel
theorem dL_addResin_12 : decode cL_addResin 12 = .ok (.astore_n 3, 1) := by decide +kernel
theorem dL_addResin_13 : decode cL_addResin 13 = .ok (.iconst 1, 1) := by decide +kernel
theorem dL_addResin_14 : decode cL_addResin 14 = .ok (.ireturn, 1) := by decide +kernel
theorem dL_addResin_15 : decode cL_addResin 15 = .ok (.astore_n 3, 1) := by decide +kernel
theorem dL_addResin_16 : decode cL_addResin 16 = .ok (.iconst 2, 1) := by decide +kernel
theorem dL_addResin_17 : decode cL_addResin 17 = .ok (.ireturn, 1) := by decide +kernel
theorem dL_addResin_18 : decode cL_addResin 18 = .ok (.iconst 0, 1) := by decide +kernel
theorem dL_addResin_19 : decode cL_addResin 19 = .ok (.ireturn, 1) := by decide +kernel
theorem dL_fill_0 : decode cL_fill 0 = .ok (.aload_n 3, 1) := by decide +kernel
theorem dL_fill_1 : decode cL_fill 1 = .ok (.iconst 0, 1) := by decide +kernel
theorem dL_fill_2 : decode cL_fill 2 = .ok (.aload_n 0, 1) := by decide +kernel
theorem dL_fill_3 : decode cL_fill 3 = .ok (.iload_n 1, 1) := by decide +kernel
theorem dL_fill_4 : decode cL_fill 4 = .ok (.iload_n 2, 1) := by decide +kernel
theorem dL_fill_5 : decode cL_fill 5 = .ok (.invokevirtual 17, 3) := by decide +kernel
theorem dL_fill_8 : decode cL_fill 8 = .ok (.i2l, 1) := by decide +kernel
theorem dL_fill_9 : decode cL_fill 9 = .ok (.lastore, 1) := by decide +kernel
theorem dL_fill_10 : decode cL_fill 10 = .ok (.goto 15, 3) := by decide +kernel
theorem dL_fill_13 : decode cL_fill 13 = .ok (.astore 4, 2) := by decide +kernel
theorem dL_fill_15 : decode cL_fill 15 = .ok (.iconst 1, 1) := by decide +kernel
theorem dL_fill_16 : decode cL_fill 16 = .ok (.ireturn, 1) := by decide +kernel
theorem dL_fill_17 : decode cL_fill 17 = .ok (.astore 4, 2) := by decide +kernel
theorem dL_fill_19 : decode cL_fill 19 = .ok (.iconst 2, 1) := by decide +kernel
theorem dL_fill_20 : decode cL_fill 20 = .ok (.ireturn, 1) := by decide +kernel
theorem dL_fill_21 : decode cL_fill 21 = .ok (.astore 4, 2) := by decide +kernel
theorem dL_fill_23 : decode cL_fill 23 = .ok (.iconst 3, 1) := by decide +kernel
theorem dL_fill_24 : decode cL_fill 24 = .ok (.ireturn, 1) := by decide +kernel
theorem dL_fill_25 : decode cL_fill 25 = .ok (.iconst 0, 1) := by decide +kernel
theorem dL_fill_26 : decode cL_fill 26 = .ok (.ireturn, 1) := by decide +kernel
theorem dL_empty_0 : decode cL_empty 0 = .ok (.aload_n 2, 1) := by decide +kernel
theorem dL_empty_1 : decode cL_empty 1 = .ok (.iconst 0, 1) := by decide +kernel
theorem dL_empty_2 : decode cL_empty 2 = .ok (.aload_n 0, 1) := by decide +kernel
theorem dL_empty_3 : decode cL_empty 3 = .ok (.iload_n 1, 1) := by decide +kernel
theorem dL_empty_4 : decode cL_empty 4 = .ok (.invokevirtual 23, 3) := by decide +kernel
theorem dL_empty_7 : decode cL_empty 7 = .ok (.i2l, 1) := by decide +kernel
theorem dL_empty_8 : decode cL_empty 8 = .ok (.lastore, 1) := by decide +kernel
theorem dL_empty_9 : decode cL_empty 9 = .ok (.goto 6, 3) := by decide +kernel
theorem dL_empty_12 : decode cL_empty 12 = .ok (.astore_n 3, 1) := by decide +kernel
theorem dL_empty_13 : decode cL_empty 13 = .ok (.iconst 1, 1) := by decide +kernel
theorem dL_empty_14 : decode cL_empty 14 = .ok (.ireturn, 1) := by decide +kernel
theorem dL_empty_15 : decode cL_empty 15 = .ok (.iconst 0, 1) := by decide +kernel
theorem dL_empty_16 : decode cL_empty 16 = .ok (.ireturn, 1) := by decide +kernel
theorem dL_hoursToDry_0 : decode cL_hoursToDry 0 = .ok (.aload_n 2, 1) := by decide +kernel
theorem dL_hoursToDry_1 : decode cL_hoursToDry 1 = .ok (.iconst 0, 1) := by decide +kernel
theorem dL_hoursToDry_2 : decode cL_hoursToDry 2 = .ok (.aload_n 0, 1) := by decide +kernel
theorem dL_hoursToDry_3 : decode cL_hoursToDry 3 = .ok (.iload_n 1, 1) := by decide +kernel
theorem dL_hoursToDry_4 : decode cL_hoursToDry 4 = .ok (.invokevirtual 26, 3) := by decide +kernel
theorem dL_hoursToDry_7 : decode cL_hoursToDry 7 = .ok (.i2l, 1) := by decide +kernel
theorem dL_hoursToDry_8 : decode cL_hoursToDry 8 = .ok (.lastore, 1) := by decide +kernel
theorem dL_hoursToDry_9 : decode cL_hoursToDry 9 = .ok (.goto 6, 3) := by decide +kernel
theorem dL_hoursToDry_12 : decode cL_hoursToDry 12 = .ok (.astore_n 3, 1) := by decide +kernel
theorem dL_hoursToDry_13 : decode cL_hoursToDry 13 = .ok (.iconst 1, 1) := by decide +kernel
theorem dL_hoursToDry_14 : decode cL_hoursToDry 14 = .ok (.ireturn, 1) := by decide +kernel
theorem dL_hoursToDry_15 : decode cL_hoursToDry 15 = .ok (.iconst 0, 1) := by decide +kernel
theorem dL_hoursToDry_16 : decode cL_hoursToDry 16 = .ok (.ireturn, 1) := by decide +kernel
theorem dL_dry_0 : decode cL_dry 0 = .ok (.aload_n 2, 1) := by decide +kernel
theorem dL_dry_1 : decode cL_dry 1 = .ok (.iconst 0, 1) := by decide +kernel
theorem dL_dry_2 : decode cL_dry 2 = .ok (.aload_n 0, 1) := by decide +kernel
theorem dL_dry_3 : decode cL_dry 3 = .ok (.iload_n 1, 1) := by decide +kernel
theorem dL_dry_4 : decode cL_dry 4 = .ok (.invokevirtual 29, 3) := by decide +kernel
theorem dL_dry_7 : decode cL_dry 7 = .ok (.i2l, 1) := by decide +kernel
theorem dL_dry_8 : decode cL_dry 8 = .ok (.lastore, 1) := by decide +kernel
theorem dL_dry_9 : decode cL_dry 9 = .ok (.goto 6, 3) := by decide +kernel
theorem dL_dry_12 : decode cL_dry 12 = .ok (.astore_n 3, 1) := by decide +kernel
theorem dL_dry_13 : decode cL_dry 13 = .ok (.iconst 1, 1) := by decide +kernel
theorem dL_dry_14 : decode cL_dry 14 = .ok (.ireturn, 1) := by decide +kernel
theorem dL_dry_15 : decode cL_dry 15 = .ok (.iconst 0, 1) := by decide +kernel
theorem dL_dry_16 : decode cL_dry 16 = .ok (.ireturn, 1) := by decide +kernel
theorem dL_regrind_0 : decode cL_regrind 0 = .ok (.aload_n 2, 1) := by decide +kernel
theorem dL_regrind_1 : decode cL_regrind 1 = .ok (.iconst 0, 1) := by decide +kernel
theorem dL_regrind_2 : decode cL_regrind 2 = .ok (.aload_n 0, 1) := by decide +kernel
theorem dL_regrind_3 : decode cL_regrind 3 = .ok (.iload_n 1, 1) := by decide +kernel
theorem dL_regrind_4 : decode cL_regrind 4 = .ok (.invokevirtual 32, 3) := by decide +kernel
theorem dL_regrind_7 : decode cL_regrind 7 = .ok (.i2l, 1) := by decide +kernel
theorem dL_regrind_8 : decode cL_regrind 8 = .ok (.lastore, 1) := by decide +kernel
theorem dL_regrind_9 : decode cL_regrind 9 = .ok (.goto 6, 3) := by decide +kernel
theorem dL_regrind_12 : decode cL_regrind 12 = .ok (.astore_n 3, 1) := by decide +kernel
theorem dL_regrind_13 : decode cL_regrind 13 = .ok (.iconst 1, 1) := by decide +kernel
theorem dL_regrind_14 : decode cL_regrind 14 = .ok (.ireturn, 1) := by decide +kernel
theorem dL_regrind_15 : decode cL_regrind 15 = .ok (.iconst 0, 1) := by decide +kernel
theorem dL_regrind_16 : decode cL_regrind 16 = .ok (.ireturn, 1) := by decide +kernel
theorem dL_addMould_0 : decode cL_addMould 0 = .ok (.aload 6, 2) := by decide +kernel
theorem dL_addMould_2 : decode cL_addMould 2 = .ok (.iconst 0, 1) := by decide +kernel
theorem dL_addMould_3 : decode cL_addMould 3 = .ok (.aload_n 0, 1) := by decide +kernel
theorem dL_addMould_4 : decode cL_addMould 4 = .ok (.iload_n 1, 1) := by decide +kernel
theorem dL_addMould_5 : decode cL_addMould 5 = .ok (.iload_n 2, 1) := by decide +kernel
theorem dL_addMould_6 : decode cL_addMould 6 = .ok (.iload_n 3, 1) := by decide +kernel
theorem dL_addMould_7 : decode cL_addMould 7 = .ok (.iload 4, 2) := by decide +kernel
theorem dL_addMould_9 : decode cL_addMould 9 = .ok (.iload 5, 2) := by decide +kernel
theorem dL_addMould_11 : decode cL_addMould 11 = .ok (.invokevirtual 35, 3) := by decide +kernel
theorem dL_addMould_14 : decode cL_addMould 14 = .ok (.i2l, 1) := by decide +kernel
theorem dL_addMould_15 : decode cL_addMould 15 = .ok (.lastore, 1) := by decide +kernel
theorem dL_addMould_16 : decode cL_addMould 16 = .ok (.goto 11, 3) := by decide +kernel
theorem dL_addMould_19 : decode cL_addMould 19 = .ok (.astore 7, 2) := by decide +kernel
theorem dL_addMould_21 : decode cL_addMould 21 = .ok (.iconst 1, 1) := by decide +kernel
theorem dL_addMould_22 : decode cL_addMould 22 = .ok (.ireturn, 1) := by decide +kernel
theorem dL_addMould_23 : decode cL_addMould 23 = .ok (.astore 7, 2) := by decide +kernel
theorem dL_addMould_25 : decode cL_addMould 25 = .ok (.iconst 2, 1) := by decide +kernel
theorem dL_addMould_26 : decode cL_addMould 26 = .ok (.ireturn, 1) := by decide +kernel
theorem dL_addMould_27 : decode cL_addMould 27 = .ok (.iconst 0, 1) := by decide +kernel
theorem dL_addMould_28 : decode cL_addMould 28 = .ok (.ireturn, 1) := by decide +kernel
theorem dL_setLife_0 : decode cL_setLife 0 = .ok (.aload 4, 2) := by decide +kernel
theorem dL_setLife_2 : decode cL_setLife 2 = .ok (.iconst 0, 1) := by decide +kernel
theorem dL_setLife_3 : decode cL_setLife 3 = .ok (.aload_n 0, 1) := by decide +kernel
theorem dL_setLife_4 : decode cL_setLife 4 = .ok (.iload_n 1, 1) := by decide +kernel
theorem dL_setLife_5 : decode cL_setLife 5 = .ok (.iload_n 2, 1) := by decide +kernel
theorem dL_setLife_6 : decode cL_setLife 6 = .ok (.iload_n 3, 1) := by decide +kernel
theorem dL_setLife_7 : decode cL_setLife 7 = .ok (.invokevirtual 39, 3) := by decide +kernel
theorem dL_setLife_10 : decode cL_setLife 10 = .ok (.i2l, 1) := by decide +kernel
theorem dL_setLife_11 : decode cL_setLife 11 = .ok (.lastore, 1) := by decide +kernel
theorem dL_setLife_12 : decode cL_setLife 12 = .ok (.goto 11, 3) := by decide +kernel
theorem dL_setLife_15 : decode cL_setLife 15 = .ok (.astore 5, 2) := by decide +kernel
theorem dL_setLife_17 : decode cL_setLife 17 = .ok (.iconst 1, 1) := by decide +kernel
theorem dL_setLife_18 : decode cL_setLife 18 = .ok (.ireturn, 1) := by decide +kernel
theorem dL_setLife_19 : decode cL_setLife 19 = .ok (.astore 5, 2) := by decide +kernel
theorem dL_setLife_21 : decode cL_setLife 21 = .ok (.iconst 2, 1) := by decide +kernel
theorem dL_setLife_22 : decode cL_setLife 22 = .ok (.ireturn, 1) := by decide +kernel
theorem dL_setLife_23 : decode cL_setLife 23 = .ok (.iconst 0, 1) := by decide +kernel
theorem dL_setLife_24 : decode cL_setLife 24 = .ok (.ireturn, 1) := by decide +kernel
theorem dL_block_0 : decode cL_block 0 = .ok (.aload_n 3, 1) := by decide +kernel
theorem dL_block_1 : decode cL_block 1 = .ok (.iconst 0, 1) := by decide +kernel
theorem dL_block_2 : decode cL_block 2 = .ok (.aload_n 0, 1) := by decide +kernel
theorem dL_block_3 : decode cL_block 3 = .ok (.iload_n 1, 1) := by decide +kernel
theorem dL_block_4 : decode cL_block 4 = .ok (.iload_n 2, 1) := by decide +kernel
theorem dL_block_5 : decode cL_block 5 = .ok (.invokevirtual 43, 3) := by decide +kernel
theorem dL_block_8 : decode cL_block 8 = .ok (.i2l, 1) := by decide +kernel
theorem dL_block_9 : decode cL_block 9 = .ok (.lastore, 1) := by decide +kernel
theorem dL_block_10 : decode cL_block 10 = .ok (.goto 11, 3) := by decide +kernel
theorem dL_block_13 : decode cL_block 13 = .ok (.astore 4, 2) := by decide +kernel
theorem dL_block_15 : decode cL_block 15 = .ok (.iconst 1, 1) := by decide +kernel
theorem dL_block_16 : decode cL_block 16 = .ok (.ireturn, 1) := by decide +kernel
theorem dL_block_17 : decode cL_block 17 = .ok (.astore 4, 2) := by decide +kernel
theorem dL_block_19 : decode cL_block 19 = .ok (.iconst 2, 1) := by decide +kernel
theorem dL_block_20 : decode cL_block 20 = .ok (.ireturn, 1) := by decide +kernel
theorem dL_block_21 : decode cL_block 21 = .ok (.iconst 0, 1) := by decide +kernel
theorem dL_block_22 : decode cL_block 22 = .ok (.ireturn, 1) := by decide +kernel
theorem dL_repair_0 : decode cL_repair 0 = .ok (.aload_n 3, 1) := by decide +kernel
theorem dL_repair_1 : decode cL_repair 1 = .ok (.iconst 0, 1) := by decide +kernel
theorem dL_repair_2 : decode cL_repair 2 = .ok (.aload_n 0, 1) := by decide +kernel
theorem dL_repair_3 : decode cL_repair 3 = .ok (.iload_n 1, 1) := by decide +kernel
theorem dL_repair_4 : decode cL_repair 4 = .ok (.iload_n 2, 1) := by decide +kernel
theorem dL_repair_5 : decode cL_repair 5 = .ok (.invokevirtual 46, 3) := by decide +kernel
theorem dL_repair_8 : decode cL_repair 8 = .ok (.i2l, 1) := by decide +kernel
theorem dL_repair_9 : decode cL_repair 9 = .ok (.lastore, 1) := by decide +kernel
theorem dL_repair_10 : decode cL_repair 10 = .ok (.goto 11, 3) := by decide +kernel
theorem dL_repair_13 : decode cL_repair 13 = .ok (.astore 4, 2) := by decide +kernel
theorem dL_repair_15 : decode cL_repair 15 = .ok (.iconst 1, 1) := by decide +kernel
theorem dL_repair_16 : decode cL_repair 16 = .ok (.ireturn, 1) := by decide +kernel
theorem dL_repair_17 : decode cL_repair 17 = .ok (.astore 4, 2) := by decide +kernel
theorem dL_repair_19 : decode cL_repair 19 = .ok (.iconst 2, 1) := by decide +kernel
theorem dL_repair_20 : decode cL_repair 20 = .ok (.ireturn, 1) := by decide +kernel
theorem dL_repair_21 : decode cL_repair 21 = .ok (.iconst 0, 1) := by decide +kernel
theorem dL_repair_22 : decode cL_repair 22 = .ok (.ireturn, 1) := by decide +kernel
theorem dL_nextOpen_0 : decode cL_nextOpen 0 = .ok (.aload_n 3, 1) := by decide +kernel
theorem dL_nextOpen_1 : decode cL_nextOpen 1 = .ok (.iconst 0, 1) := by decide +kernel
theorem dL_nextOpen_2 : decode cL_nextOpen 2 = .ok (.aload_n 0, 1) := by decide +kernel
theorem dL_nextOpen_3 : decode cL_nextOpen 3 = .ok (.iload_n 1, 1) := by decide +kernel
theorem dL_nextOpen_4 : decode cL_nextOpen 4 = .ok (.iload_n 2, 1) := by decide +kernel
theorem dL_nextOpen_5 : decode cL_nextOpen 5 = .ok (.invokevirtual 49, 3) := by decide +kernel
theorem dL_nextOpen_8 : decode cL_nextOpen 8 = .ok (.i2l, 1) := by decide +kernel
theorem dL_nextOpen_9 : decode cL_nextOpen 9 = .ok (.lastore, 1) := by decide +kernel
theorem dL_nextOpen_10 : decode cL_nextOpen 10 = .ok (.goto 11, 3) := by decide +kernel
theorem dL_nextOpen_13 : decode cL_nextOpen 13 = .ok (.astore 4, 2) := by decide +kernel
theorem dL_nextOpen_15 : decode cL_nextOpen 15 = .ok (.iconst 1, 1) := by decide +kernel
theorem dL_nextOpen_16 : decode cL_nextOpen 16 = .ok (.ireturn, 1) := by decide +kernel
theorem dL_nextOpen_17 : decode cL_nextOpen 17 = .ok (.astore 4, 2) := by decide +kernel
theorem dL_nextOpen_19 : decode cL_nextOpen 19 = .ok (.iconst 2, 1) := by decide +kernel
theorem dL_nextOpen_20 : decode cL_nextOpen 20 = .ok (.ireturn, 1) := by decide +kernel
theorem dL_nextOpen_21 : decode cL_nextOpen 21 = .ok (.iconst 0, 1) := by decide +kernel
theorem dL_nextOpen_22 : decode cL_nextOpen 22 = .ok (.ireturn, 1) := by decide +kernel
theorem dL_addMachine_0 : decode cL_addMachine 0 = .ok (.aload_n 2, 1) := by decide +kernel
theorem dL_addMachine_1 : decode cL_addMachine 1 = .ok (.iconst 0, 1) := by decide +kernel
theorem dL_addMachine_2 : decode cL_addMachine 2 = .ok (.aload_n 0, 1) := by decide +kernel
theorem dL_addMachine_3 : decode cL_addMachine 3 = .ok (.iload_n 1, 1) := by decide +kernel
theorem dL_addMachine_4 : decode cL_addMachine 4 = .ok (.invokevirtual 54, 3) := by decide +kernel
theorem dL_addMachine_7 : decode cL_addMachine 7 = .ok (.i2l, 1) := by decide +kernel
theorem dL_addMachine_8 : decode cL_addMachine 8 = .ok (.lastore, 1) := by decide +kernel
theorem dL_addMachine_9 : decode cL_addMachine 9 = .ok (.goto 9, 3) := by decide +kernel
theorem dL_addMachine_12 : decode cL_addMachine 12 = .ok (.astore_n 3, 1) := by decide +kernel
theorem dL_addMachine_13 : decode cL_addMachine 13 = .ok (.iconst 1, 1) := by decide +kernel
theorem dL_addMachine_14 : decode cL_addMachine 14 = .ok (.ireturn, 1) := by decide +kernel
theorem dL_addMachine_15 : decode cL_addMachine 15 = .ok (.astore_n 3, 1) := by decide +kernel
theorem dL_addMachine_16 : decode cL_addMachine 16 = .ok (.iconst 2, 1) := by decide +kernel
theorem dL_addMachine_17 : decode cL_addMachine 17 = .ok (.ireturn, 1) := by decide +kernel
theorem dL_addMachine_18 : decode cL_addMachine 18 = .ok (.iconst 0, 1) := by decide +kernel
theorem dL_addMachine_19 : decode cL_addMachine 19 = .ok (.ireturn, 1) := by decide +kernel
theorem dL_mount_0 : decode cL_mount 0 = .ok (.aload_n 3, 1) := by decide +kernel
theorem dL_mount_1 : decode cL_mount 1 = .ok (.iconst 0, 1) := by decide +kernel
theorem dL_mount_2 : decode cL_mount 2 = .ok (.aload_n 0, 1) := by decide +kernel
theorem dL_mount_3 : decode cL_mount 3 = .ok (.iload_n 1, 1) := by decide +kernel
theorem dL_mount_4 : decode cL_mount 4 = .ok (.iload_n 2, 1) := by decide +kernel
theorem dL_mount_5 : decode cL_mount 5 = .ok (.invokevirtual 57, 3) := by decide +kernel
theorem dL_mount_8 : decode cL_mount 8 = .ok (.i2l, 1) := by decide +kernel
theorem dL_mount_9 : decode cL_mount 9 = .ok (.lastore, 1) := by decide +kernel
theorem dL_mount_10 : decode cL_mount 10 = .ok (.goto 15, 3) := by decide +kernel
theorem dL_mount_13 : decode cL_mount 13 = .ok (.astore 4, 2) := by decide +kernel
theorem dL_mount_15 : decode cL_mount 15 = .ok (.iconst 1, 1) := by decide +kernel
theorem dL_mount_16 : decode cL_mount 16 = .ok (.ireturn, 1) := by decide +kernel
theorem dL_mount_17 : decode cL_mount 17 = .ok (.astore 4, 2) := by decide +kernel
theorem dL_mount_19 : decode cL_mount 19 = .ok (.iconst 2, 1) := by decide +kernel
theorem dL_mount_20 : decode cL_mount 20 = .ok (.ireturn, 1) := by decide +kernel
theorem dL_mount_21 : decode cL_mount 21 = .ok (.astore 4, 2) := by decide +kernel
theorem dL_mount_23 : decode cL_mount 23 = .ok (.iconst 3, 1) := by decide +kernel
theorem dL_mount_24 : decode cL_mount 24 = .ok (.ireturn, 1) := by decide +kernel
theorem dL_mount_25 : decode cL_mount 25 = .ok (.iconst 0, 1) := by decide +kernel
theorem dL_mount_26 : decode cL_mount 26 = .ok (.ireturn, 1) := by decide +kernel
theorem dL_run_0 : decode cL_run 0 = .ok (.aload_n 3, 1) := by decide +kernel
theorem dL_run_1 : decode cL_run 1 = .ok (.iconst 0, 1) := by decide +kernel
theorem dL_run_2 : decode cL_run 2 = .ok (.aload_n 0, 1) := by decide +kernel
theorem dL_run_3 : decode cL_run 3 = .ok (.iload_n 1, 1) := by decide +kernel
theorem dL_run_4 : decode cL_run 4 = .ok (.iload_n 2, 1) := by decide +kernel
theorem dL_run_5 : decode cL_run 5 = .ok (.invokevirtual 62, 3) := by decide +kernel
theorem dL_run_8 : decode cL_run 8 = .ok (.i2l, 1) := by decide +kernel
theorem dL_run_9 : decode cL_run 9 = .ok (.lastore, 1) := by decide +kernel
theorem dL_run_10 : decode cL_run 10 = .ok (.goto 15, 3) := by decide +kernel
theorem dL_run_13 : decode cL_run 13 = .ok (.astore 4, 2) := by decide +kernel
theorem dL_run_15 : decode cL_run 15 = .ok (.iconst 1, 1) := by decide +kernel
theorem dL_run_16 : decode cL_run 16 = .ok (.ireturn, 1) := by decide +kernel
theorem dL_run_17 : decode cL_run 17 = .ok (.astore 4, 2) := by decide +kernel
theorem dL_run_19 : decode cL_run 19 = .ok (.iconst 2, 1) := by decide +kernel
theorem dL_run_20 : decode cL_run 20 = .ok (.ireturn, 1) := by decide +kernel
theorem dL_run_21 : decode cL_run 21 = .ok (.astore 4, 2) := by decide +kernel
theorem dL_run_23 : decode cL_run 23 = .ok (.iconst 3, 1) := by decide +kernel
theorem dL_run_24 : decode cL_run 24 = .ok (.ireturn, 1) := by decide +kernel
theorem dL_run_25 : decode cL_run 25 = .ok (.iconst 0, 1) := by decide +kernel
theorem dL_run_26 : decode cL_run 26 = .ok (.ireturn, 1) := by decide +kernel
theorem dL_order_0 : decode cL_order 0 = .ok (.aload 5, 2) := by decide +kernel
theorem dL_order_2 : decode cL_order 2 = .ok (.iconst 0, 1) := by decide +kernel
theorem dL_order_3 : decode cL_order 3 = .ok (.aload_n 0, 1) := by decide +kernel
theorem dL_order_4 : decode cL_order 4 = .ok (.iload_n 1, 1) := by decide +kernel
theorem dL_order_5 : decode cL_order 5 = .ok (.iload_n 2, 1) := by decide +kernel
theorem dL_order_6 : decode cL_order 6 = .ok (.iload_n 3, 1) := by decide +kernel
theorem dL_order_7 : decode cL_order 7 = .ok (.iload 4, 2) := by decide +kernel
theorem dL_order_9 : decode cL_order 9 = .ok (.invokevirtual 65, 3) := by decide +kernel
theorem dL_order_12 : decode cL_order 12 = .ok (.i2l, 1) := by decide +kernel
theorem dL_order_13 : decode cL_order 13 = .ok (.lastore, 1) := by decide +kernel
theorem dL_order_14 : decode cL_order 14 = .ok (.goto 15, 3) := by decide +kernel
theorem dL_order_17 : decode cL_order 17 = .ok (.astore 6, 2) := by decide +kernel
theorem dL_order_19 : decode cL_order 19 = .ok (.iconst 1, 1) := by decide +kernel
theorem dL_order_20 : decode cL_order 20 = .ok (.ireturn, 1) := by decide +kernel
theorem dL_order_21 : decode cL_order 21 = .ok (.astore 6, 2) := by decide +kernel
theorem dL_order_23 : decode cL_order 23 = .ok (.iconst 2, 1) := by decide +kernel
theorem dL_order_24 : decode cL_order 24 = .ok (.ireturn, 1) := by decide +kernel
theorem dL_order_25 : decode cL_order 25 = .ok (.astore 6, 2) := by decide +kernel
theorem dL_order_27 : decode cL_order 27 = .ok (.iconst 3, 1) := by decide +kernel
theorem dL_order_28 : decode cL_order 28 = .ok (.ireturn, 1) := by decide +kernel
theorem dL_order_29 : decode cL_order 29 = .ok (.iconst 0, 1) := by decide +kernel
theorem dL_order_30 : decode cL_order 30 = .ok (.ireturn, 1) := by decide +kernel
theorem dL_lacks_0 : decode cL_lacks 0 = .ok (.aload_n 2, 1) := by decide +kernel
theorem dL_lacks_1 : decode cL_lacks 1 = .ok (.iconst 0, 1) := by decide +kernel
theorem dL_lacks_2 : decode cL_lacks 2 = .ok (.aload_n 0, 1) := by decide +kernel
theorem dL_lacks_3 : decode cL_lacks 3 = .ok (.iload_n 1, 1) := by decide +kernel
theorem dL_lacks_4 : decode cL_lacks 4 = .ok (.invokevirtual 69, 3) := by decide +kernel
theorem dL_lacks_7 : decode cL_lacks 7 = .ok (.i2l, 1) := by decide +kernel
theorem dL_lacks_8 : decode cL_lacks 8 = .ok (.lastore, 1) := by decide +kernel
theorem dL_lacks_9 : decode cL_lacks 9 = .ok (.goto 6, 3) := by decide +kernel
theorem dL_lacks_12 : decode cL_lacks 12 = .ok (.astore_n 3, 1) := by decide +kernel
theorem dL_lacks_13 : decode cL_lacks 13 = .ok (.iconst 1, 1) := by decide +kernel
theorem dL_lacks_14 : decode cL_lacks 14 = .ok (.ireturn, 1) := by decide +kernel
theorem dL_lacks_15 : decode cL_lacks 15 = .ok (.iconst 0, 1) := by decide +kernel
theorem dL_lacks_16 : decode cL_lacks 16 = .ok (.ireturn, 1) := by decide +kernel
theorem dL_hoursNeeded_0 : decode cL_hoursNeeded 0 = .ok (.aload_n 2, 1) := by decide +kernel
theorem dL_hoursNeeded_1 : decode cL_hoursNeeded 1 = .ok (.iconst 0, 1) := by decide +kernel
theorem dL_hoursNeeded_2 : decode cL_hoursNeeded 2 = .ok (.aload_n 0, 1) := by decide +kernel
theorem dL_hoursNeeded_3 : decode cL_hoursNeeded 3 = .ok (.iload_n 1, 1) := by decide +kernel
theorem dL_hoursNeeded_4 : decode cL_hoursNeeded 4 = .ok (.invokevirtual 72, 3) := by decide +kernel
theorem dL_hoursNeeded_7 : decode cL_hoursNeeded 7 = .ok (.i2l, 1) := by decide +kernel
theorem dL_hoursNeeded_8 : decode cL_hoursNeeded 8 = .ok (.lastore, 1) := by decide +kernel
theorem dL_hoursNeeded_9 : decode cL_hoursNeeded 9 = .ok (.goto 9, 3) := by decide +kernel
theorem dL_hoursNeeded_12 : decode cL_hoursNeeded 12 = .ok (.astore_n 3, 1) := by decide +kernel
theorem dL_hoursNeeded_13 : decode cL_hoursNeeded 13 = .ok (.iconst 1, 1) := by decide +kernel
theorem dL_hoursNeeded_14 : decode cL_hoursNeeded 14 = .ok (.ireturn, 1) := by decide +kernel
theorem dL_hoursNeeded_15 : decode cL_hoursNeeded 15 = .ok (.astore_n 3, 1) := by decide +kernel
theorem dL_hoursNeeded_16 : decode cL_hoursNeeded 16 = .ok (.iconst 2, 1) := by decide +kernel
theorem dL_hoursNeeded_17 : decode cL_hoursNeeded 17 = .ok (.ireturn, 1) := by decide +kernel
theorem dL_hoursNeeded_18 : decode cL_hoursNeeded 18 = .ok (.iconst 0, 1) := by decide +kernel
theorem dL_hoursNeeded_19 : decode cL_hoursNeeded 19 = .ok (.ireturn, 1) := by decide +kernel
theorem dL_shots_0 : decode cL_shots 0 = .ok (.aload_n 2, 1) := by decide +kernel
theorem dL_shots_1 : decode cL_shots 1 = .ok (.iconst 0, 1) := by decide +kernel
theorem dL_shots_2 : decode cL_shots 2 = .ok (.aload_n 0, 1) := by decide +kernel
theorem dL_shots_3 : decode cL_shots 3 = .ok (.iload_n 1, 1) := by decide +kernel
theorem dL_shots_4 : decode cL_shots 4 = .ok (.invokevirtual 75, 3) := by decide +kernel
theorem dL_shots_7 : decode cL_shots 7 = .ok (.i2l, 1) := by decide +kernel
theorem dL_shots_8 : decode cL_shots 8 = .ok (.lastore, 1) := by decide +kernel
theorem dL_shots_9 : decode cL_shots 9 = .ok (.goto 6, 3) := by decide +kernel
theorem dL_shots_12 : decode cL_shots 12 = .ok (.astore_n 3, 1) := by decide +kernel
theorem dL_shots_13 : decode cL_shots 13 = .ok (.iconst 1, 1) := by decide +kernel
theorem dL_shots_14 : decode cL_shots 14 = .ok (.ireturn, 1) := by decide +kernel
theorem dL_shots_15 : decode cL_shots 15 = .ok (.iconst 0, 1) := by decide +kernel
theorem dL_shots_16 : decode cL_shots 16 = .ok (.ireturn, 1) := by decide +kernel
theorem dL_regrindIn_0 : decode cL_regrindIn 0 = .ok (.aload_n 2, 1) := by decide +kernel
theorem dL_regrindIn_1 : decode cL_regrindIn 1 = .ok (.iconst 0, 1) := by decide +kernel
theorem dL_regrindIn_2 : decode cL_regrindIn 2 = .ok (.aload_n 0, 1) := by decide +kernel
theorem dL_regrindIn_3 : decode cL_regrindIn 3 = .ok (.iload_n 1, 1) := by decide +kernel
theorem dL_regrindIn_4 : decode cL_regrindIn 4 = .ok (.invokevirtual 78, 3) := by decide +kernel
theorem dL_regrindIn_7 : decode cL_regrindIn 7 = .ok (.lastore, 1) := by decide +kernel
theorem dL_regrindIn_8 : decode cL_regrindIn 8 = .ok (.goto 6, 3) := by decide +kernel
theorem dL_regrindIn_11 : decode cL_regrindIn 11 = .ok (.astore_n 3, 1) := by decide +kernel
theorem dL_regrindIn_12 : decode cL_regrindIn 12 = .ok (.iconst 1, 1) := by decide +kernel
theorem dL_regrindIn_13 : decode cL_regrindIn 13 = .ok (.ireturn, 1) := by decide +kernel
theorem dL_regrindIn_14 : decode cL_regrindIn 14 = .ok (.iconst 0, 1) := by decide +kernel
theorem dL_regrindIn_15 : decode cL_regrindIn 15 = .ok (.ireturn, 1) := by decide +kernel
theorem dL_regrindByShots_0 : decode cL_regrindByShots 0 = .ok (.aload_n 2, 1) := by decide +kernel
theorem dL_regrindByShots_1 : decode cL_regrindByShots 1 = .ok (.iconst 0, 1) := by decide +kernel
theorem dL_regrindByShots_2 : decode cL_regrindByShots 2 = .ok (.aload_n 0, 1) := by decide +kernel
theorem dL_regrindByShots_3 : decode cL_regrindByShots 3 = .ok (.iload_n 1, 1) := by decide +kernel
theorem dL_regrindByShots_4 : decode cL_regrindByShots 4 = .ok (.invokevirtual 82, 3) := by decide +kernel
theorem dL_regrindByShots_7 : decode cL_regrindByShots 7 = .ok (.lastore, 1) := by decide +kernel
theorem dL_regrindByShots_8 : decode cL_regrindByShots 8 = .ok (.goto 6, 3) := by decide +kernel
theorem dL_regrindByShots_11 : decode cL_regrindByShots 11 = .ok (.astore_n 3, 1) := by decide +kernel
theorem dL_regrindByShots_12 : decode cL_regrindByShots 12 = .ok (.iconst 1, 1) := by decide +kernel
theorem dL_regrindByShots_13 : decode cL_regrindByShots 13 = .ok (.ireturn, 1) := by decide +kernel
theorem dL_regrindByShots_14 : decode cL_regrindByShots 14 = .ok (.iconst 0, 1) := by decide +kernel
theorem dL_regrindByShots_15 : decode cL_regrindByShots 15 = .ok (.ireturn, 1) := by decide +kernel
theorem dL_greatestShare_0 : decode cL_greatestShare 0 = .ok (.aload_n 2, 1) := by decide +kernel
theorem dL_greatestShare_1 : decode cL_greatestShare 1 = .ok (.iconst 0, 1) := by decide +kernel
theorem dL_greatestShare_2 : decode cL_greatestShare 2 = .ok (.aload_n 0, 1) := by decide +kernel
theorem dL_greatestShare_3 : decode cL_greatestShare 3 = .ok (.iload_n 1, 1) := by decide +kernel
theorem dL_greatestShare_4 : decode cL_greatestShare 4 = .ok (.invokevirtual 85, 3) := by decide +kernel
theorem dL_greatestShare_7 : decode cL_greatestShare 7 = .ok (.i2l, 1) := by decide +kernel
theorem dL_greatestShare_8 : decode cL_greatestShare 8 = .ok (.lastore, 1) := by decide +kernel
theorem dL_greatestShare_9 : decode cL_greatestShare 9 = .ok (.goto 9, 3) := by decide +kernel
theorem dL_greatestShare_12 : decode cL_greatestShare 12 = .ok (.astore_n 3, 1) := by decide +kernel
theorem dL_greatestShare_13 : decode cL_greatestShare 13 = .ok (.iconst 1, 1) := by decide +kernel
theorem dL_greatestShare_14 : decode cL_greatestShare 14 = .ok (.ireturn, 1) := by decide +kernel
theorem dL_greatestShare_15 : decode cL_greatestShare 15 = .ok (.astore_n 3, 1) := by decide +kernel
theorem dL_greatestShare_16 : decode cL_greatestShare 16 = .ok (.iconst 2, 1) := by decide +kernel
theorem dL_greatestShare_17 : decode cL_greatestShare 17 = .ok (.ireturn, 1) := by decide +kernel
theorem dL_greatestShare_18 : decode cL_greatestShare 18 = .ok (.iconst 0, 1) := by decide +kernel
theorem dL_greatestShare_19 : decode cL_greatestShare 19 = .ok (.ireturn, 1) := by decide +kernel
theorem dL_pass_0 : decode cL_pass 0 = .ok (.aload_n 2, 1) := by decide +kernel
theorem dL_pass_1 : decode cL_pass 1 = .ok (.iconst 0, 1) := by decide +kernel
theorem dL_pass_2 : decode cL_pass 2 = .ok (.aload_n 0, 1) := by decide +kernel
theorem dL_pass_3 : decode cL_pass 3 = .ok (.iload_n 1, 1) := by decide +kernel
theorem dL_pass_4 : decode cL_pass 4 = .ok (.invokevirtual 88, 3) := by decide +kernel
theorem dL_pass_7 : decode cL_pass 7 = .ok (.i2l, 1) := by decide +kernel
theorem dL_pass_8 : decode cL_pass 8 = .ok (.lastore, 1) := by decide +kernel
theorem dL_pass_9 : decode cL_pass 9 = .ok (.goto 9, 3) := by decide +kernel
theorem dL_pass_12 : decode cL_pass 12 = .ok (.astore_n 3, 1) := by decide +kernel
theorem dL_pass_13 : decode cL_pass 13 = .ok (.iconst 1, 1) := by decide +kernel
theorem dL_pass_14 : decode cL_pass 14 = .ok (.ireturn, 1) := by decide +kernel
theorem dL_pass_15 : decode cL_pass 15 = .ok (.astore_n 3, 1) := by decide +kernel
theorem dL_pass_16 : decode cL_pass 16 = .ok (.iconst 2, 1) := by decide +kernel
theorem dL_pass_17 : decode cL_pass 17 = .ok (.ireturn, 1) := by decide +kernel
theorem dL_pass_18 : decode cL_pass 18 = .ok (.iconst 0, 1) := by decide +kernel
theorem dL_pass_19 : decode cL_pass 19 = .ok (.ireturn, 1) := by decide +kernel
theorem dL_regrindShare_0 : decode cL_regrindShare 0 = .ok (.aload_n 1, 1) := by decide +kernel
theorem dL_regrindShare_1 : decode cL_regrindShare 1 = .ok (.iconst 0, 1) := by decide +kernel
theorem dL_regrindShare_2 : decode cL_regrindShare 2 = .ok (.aload_n 0, 1) := by decide +kernel
theorem dL_regrindShare_3 : decode cL_regrindShare 3 = .ok (.invokevirtual 91, 3) := by decide +kernel
theorem dL_regrindShare_6 : decode cL_regrindShare 6 = .ok (.f2d, 1) := by decide +kernel
theorem dL_regrindShare_7 : decode cL_regrindShare 7 = .ok (.dastore, 1) := by decide +kernel
theorem dL_regrindShare_8 : decode cL_regrindShare 8 = .ok (.goto 6, 3) := by decide +kernel
theorem dL_regrindShare_11 : decode cL_regrindShare 11 = .ok (.astore_n 2, 1) := by decide +kernel
theorem dL_regrindShare_12 : decode cL_regrindShare 12 = .ok (.iconst 1, 1) := by decide +kernel
theorem dL_regrindShare_13 : decode cL_regrindShare 13 = .ok (.ireturn, 1) := by decide +kernel
theorem dL_regrindShare_14 : decode cL_regrindShare 14 = .ok (.iconst 0, 1) := by decide +kernel
theorem dL_regrindShare_15 : decode cL_regrindShare 15 = .ok (.ireturn, 1) := by decide +kernel
theorem dL_meanParts_0 : decode cL_meanParts 0 = .ok (.aload_n 1, 1) := by decide +kernel
theorem dL_meanParts_1 : decode cL_meanParts 1 = .ok (.iconst 0, 1) := by decide +kernel
theorem dL_meanParts_2 : decode cL_meanParts 2 = .ok (.aload_n 0, 1) := by decide +kernel
theorem dL_meanParts_3 : decode cL_meanParts 3 = .ok (.invokevirtual 97, 3) := by decide +kernel
theorem dL_meanParts_6 : decode cL_meanParts 6 = .ok (.dastore, 1) := by decide +kernel
theorem dL_meanParts_7 : decode cL_meanParts 7 = .ok (.goto 6, 3) := by decide +kernel
theorem dL_meanParts_10 : decode cL_meanParts 10 = .ok (.astore_n 2, 1) := by decide +kernel
theorem dL_meanParts_11 : decode cL_meanParts 11 = .ok (.iconst 1, 1) := by decide +kernel
theorem dL_meanParts_12 : decode cL_meanParts 12 = .ok (.ireturn, 1) := by decide +kernel
theorem dL_meanParts_13 : decode cL_meanParts 13 = .ok (.iconst 0, 1) := by decide +kernel
theorem dL_meanParts_14 : decode cL_meanParts 14 = .ok (.ireturn, 1) := by decide +kernel
theorem dL_law_0 : decode cL_law 0 = .ok (.new 8, 3) := by decide +kernel
theorem dL_law_3 : decode cL_law 3 = .ok (.dup, 1) := by decide +kernel
theorem dL_law_4 : decode cL_law 4 = .ok (.invokespecial 101, 3) := by decide +kernel
theorem dL_law_7 : decode cL_law 7 = .ok (.astore_n 1, 1) := by decide +kernel
theorem dL_law_8 : decode cL_law 8 = .ok (.new 102, 3) := by decide +kernel
theorem dL_law_11 : decode cL_law 11 = .ok (.dup, 1) := by decide +kernel
theorem dL_law_12 : decode cL_law 12 = .ok (.invokespecial 104, 3) := by decide +kernel
theorem dL_law_15 : decode cL_law 15 = .ok (.astore_n 2, 1) := by decide +kernel
theorem dL_law_16 : decode cL_law 16 = .ok (.iconst 1, 1) := by decide +kernel
theorem dL_law_17 : decode cL_law 17 = .ok (.newarray .long, 2) := by decide +kernel
theorem dL_law_19 : decode cL_law 19 = .ok (.astore_n 3, 1) := by decide +kernel
theorem dL_law_20 : decode cL_law 20 = .ok (.iconst 1, 1) := by decide +kernel
theorem dL_law_21 : decode cL_law 21 = .ok (.newarray .double, 2) := by decide +kernel
theorem dL_law_23 : decode cL_law 23 = .ok (.astore 4, 2) := by decide +kernel
theorem dL_law_25 : decode cL_law 25 = .ok (.iconst 0, 1) := by decide +kernel
theorem dL_law_26 : decode cL_law 26 = .ok (.istore 5, 2) := by decide +kernel
theorem dL_law_28 : decode cL_law 28 = .ok (.iload 5, 2) := by decide +kernel
theorem dL_law_30 : decode cL_law 30 = .ok (.aload_n 0, 1) := by decide +kernel
theorem dL_law_31 : decode cL_law 31 = .ok (.arraylength, 1) := by decide +kernel
theorem dL_law_32 : decode cL_law 32 = .ok (.bipush 6, 2) := by decide +kernel
theorem dL_law_34 : decode cL_law 34 = .ok (.isub, 1) := by decide +kernel
theorem dL_law_35 : decode cL_law 35 = .ok (.if_icmp .gt 1702, 3) := by decide +kernel
theorem dL_law_38 : decode cL_law 38 = .ok (.aload_n 0, 1) := by decide +kernel
theorem dL_law_39 : decode cL_law 39 = .ok (.iload 5, 2) := by decide +kernel
theorem dL_law_41 : decode cL_law 41 = .ok (.iaload, 1) := by decide +kernel
theorem dL_law_42 : decode cL_law 42 = .ok (.bipush 31, 2) := by decide +kernel
theorem dL_law_44 : decode cL_law 44 = .ok (.iand, 1) := by decide +kernel
theorem dL_law_45 : decode cL_law 45 = .ok (.tableswitch 1686 0 25 #[119, 175, 243, 299, 312, 368, 424, 480, 584, 664, 732, 800, 868, 924, 992, 1060, 1152, 1208, 1264, 1320, 1375, 1430, 1486, 1542, 1555, 1621], 119) := by decide +kernel
theorem dL_law_164 : decode cL_law 164 = .ok (.aload_n 1, 1) := by decide +kernel
theorem dL_law_165 : decode cL_law 165 = .ok (.aload_n 0, 1) := by decide +kernel
theorem dL_law_166 : decode cL_law 166 = .ok (.iload 5, 2) := by decide +kernel
theorem dL_law_168 : decode cL_law 168 = .ok (.iconst 1, 1) := by decide +kernel
theorem dL_law_169 : decode cL_law 169 = .ok (.iadd, 1) := by decide +kernel
theorem dL_law_170 : decode cL_law 170 = .ok (.iaload, 1) := by decide +kernel
theorem dL_law_171 : decode cL_law 171 = .ok (.aload_n 3, 1) := by decide +kernel
theorem dL_law_172 : decode cL_law 172 = .ok (.invokestatic 105, 3) := by decide +kernel
theorem dL_law_175 : decode cL_law 175 = .ok (.istore 6, 2) := by decide +kernel
theorem dL_law_177 : decode cL_law 177 = .ok (.aload_n 2, 1) := by decide +kernel
theorem dL_law_178 : decode cL_law 178 = .ok (.aload_n 0, 1) := by decide +kernel
theorem dL_law_179 : decode cL_law 179 = .ok (.iload 5, 2) := by decide +kernel
theorem dL_law_181 : decode cL_law 181 = .ok (.iconst 1, 1) := by decide +kernel
theorem dL_law_182 : decode cL_law 182 = .ok (.iadd, 1) := by decide +kernel
theorem dL_law_183 : decode cL_law 183 = .ok (.iaload, 1) := by decide +kernel
theorem dL_law_184 : decode cL_law 184 = .ok (.invokevirtual 110, 3) := by decide +kernel
theorem dL_law_187 : decode cL_law 187 = .ok (.istore 7, 2) := by decide +kernel
theorem dL_law_189 : decode cL_law 189 = .ok (.aload_n 2, 1) := by decide +kernel
theorem dL_law_190 : decode cL_law 190 = .ok (.invokevirtual 111, 3) := by decide +kernel
theorem dL_law_193 : decode cL_law 193 = .ok (.iload 6, 2) := by decide +kernel
theorem dL_law_195 : decode cL_law 195 = .ok (.if_icmp .eq 5, 3) := by decide +kernel
theorem dL_law_198 : decode cL_law 198 = .ok (.iconst 0, 1) := by decide +kernel
theorem dL_law_199 : decode cL_law 199 = .ok (.ireturn, 1) := by decide +kernel
theorem dL_law_200 : decode cL_law 200 = .ok (.iload 6, 2) := by decide +kernel
theorem dL_law_202 : decode cL_law 202 = .ok (.ifCond .ne 15, 3) := by decide +kernel
theorem dL_law_205 : decode cL_law 205 = .ok (.aload_n 3, 1) := by decide +kernel
theorem dL_law_206 : decode cL_law 206 = .ok (.iconst 0, 1) := by decide +kernel
theorem dL_law_207 : decode cL_law 207 = .ok (.laload, 1) := by decide +kernel
theorem dL_law_208 : decode cL_law 208 = .ok (.iload 7, 2) := by decide +kernel
theorem dL_law_210 : decode cL_law 210 = .ok (.i2l, 1) := by decide +kernel
theorem dL_law_211 : decode cL_law 211 = .ok (.lcmp, 1) := by decide +kernel
theorem dL_law_212 : decode cL_law 212 = .ok (.ifCond .eq 5, 3) := by decide +kernel
theorem dL_law_215 : decode cL_law 215 = .ok (.iconst 0, 1) := by decide +kernel
theorem dL_law_216 : decode cL_law 216 = .ok (.ireturn, 1) := by decide +kernel
theorem dL_law_217 : decode cL_law 217 = .ok (.goto 1514, 3) := by decide +kernel
theorem dL_law_220 : decode cL_law 220 = .ok (.aload_n 1, 1) := by decide +kernel
theorem dL_law_221 : decode cL_law 221 = .ok (.aload_n 0, 1) := by decide +kernel
theorem dL_law_222 : decode cL_law 222 = .ok (.iload 5, 2) := by decide +kernel
theorem dL_law_224 : decode cL_law 224 = .ok (.iconst 1, 1) := by decide +kernel
theorem dL_law_225 : decode cL_law 225 = .ok (.iadd, 1) := by decide +kernel
theorem dL_law_226 : decode cL_law 226 = .ok (.iaload, 1) := by decide +kernel
theorem dL_law_227 : decode cL_law 227 = .ok (.aload_n 0, 1) := by decide +kernel
theorem dL_law_228 : decode cL_law 228 = .ok (.iload 5, 2) := by decide +kernel
theorem dL_law_230 : decode cL_law 230 = .ok (.iconst 2, 1) := by decide +kernel
theorem dL_law_231 : decode cL_law 231 = .ok (.iadd, 1) := by decide +kernel
theorem dL_law_232 : decode cL_law 232 = .ok (.iaload, 1) := by decide +kernel
theorem dL_law_233 : decode cL_law 233 = .ok (.aload_n 3, 1) := by decide +kernel
theorem dL_law_234 : decode cL_law 234 = .ok (.invokestatic 115, 3) := by decide +kernel
theorem dL_law_237 : decode cL_law 237 = .ok (.istore 6, 2) := by decide +kernel
theorem dL_law_239 : decode cL_law 239 = .ok (.aload_n 2, 1) := by decide +kernel
theorem dL_law_240 : decode cL_law 240 = .ok (.aload_n 0, 1) := by decide +kernel
theorem dL_law_241 : decode cL_law 241 = .ok (.iload 5, 2) := by decide +kernel
theorem dL_law_243 : decode cL_law 243 = .ok (.iconst 1, 1) := by decide +kernel
theorem dL_law_244 : decode cL_law 244 = .ok (.iadd, 1) := by decide +kernel
theorem dL_law_245 : decode cL_law 245 = .ok (.iaload, 1) := by decide +kernel
theorem dL_law_246 : decode cL_law 246 = .ok (.aload_n 0, 1) := by decide +kernel
theorem dL_law_247 : decode cL_law 247 = .ok (.iload 5, 2) := by decide +kernel
theorem dL_law_249 : decode cL_law 249 = .ok (.iconst 2, 1) := by decide +kernel
theorem dL_law_250 : decode cL_law 250 = .ok (.iadd, 1) := by decide +kernel
theorem dL_law_251 : decode cL_law 251 = .ok (.iaload, 1) := by decide +kernel
theorem dL_law_252 : decode cL_law 252 = .ok (.invokevirtual 118, 3) := by decide +kernel
theorem dL_law_255 : decode cL_law 255 = .ok (.istore 7, 2) := by decide +kernel
theorem dL_law_257 : decode cL_law 257 = .ok (.aload_n 2, 1) := by decide +kernel
theorem dL_law_258 : decode cL_law 258 = .ok (.invokevirtual 111, 3) := by decide +kernel
theorem dL_law_261 : decode cL_law 261 = .ok (.iload 6, 2) := by decide +kernel
theorem dL_law_263 : decode cL_law 263 = .ok (.if_icmp .eq 5, 3) := by decide +kernel
theorem dL_law_266 : decode cL_law 266 = .ok (.iconst 0, 1) := by decide +kernel
theorem dL_law_267 : decode cL_law 267 = .ok (.ireturn, 1) := by decide +kernel
theorem dL_law_268 : decode cL_law 268 = .ok (.iload 6, 2) := by decide +kernel
theorem dL_law_270 : decode cL_law 270 = .ok (.ifCond .ne 15, 3) := by decide +kernel
theorem dL_law_273 : decode cL_law 273 = .ok (.aload_n 3, 1) := by decide +kernel
theorem dL_law_274 : decode cL_law 274 = .ok (.iconst 0, 1) := by decide +kernel
theorem dL_law_275 : decode cL_law 275 = .ok (.laload, 1) := by decide +kernel
theorem dL_law_276 : decode cL_law 276 = .ok (.iload 7, 2) := by decide +kernel
theorem dL_law_278 : decode cL_law 278 = .ok (.i2l, 1) := by decide +kernel
theorem dL_law_279 : decode cL_law 279 = .ok (.lcmp, 1) := by decide +kernel
theorem dL_law_280 : decode cL_law 280 = .ok (.ifCond .eq 5, 3) := by decide +kernel
theorem dL_law_283 : decode cL_law 283 = .ok (.iconst 0, 1) := by decide +kernel
theorem dL_law_284 : decode cL_law 284 = .ok (.ireturn, 1) := by decide +kernel
theorem dL_law_285 : decode cL_law 285 = .ok (.goto 1446, 3) := by decide +kernel
theorem dL_law_288 : decode cL_law 288 = .ok (.aload_n 1, 1) := by decide +kernel
theorem dL_law_289 : decode cL_law 289 = .ok (.aload_n 0, 1) := by decide +kernel
theorem dL_law_290 : decode cL_law 290 = .ok (.iload 5, 2) := by decide +kernel
theorem dL_law_292 : decode cL_law 292 = .ok (.iconst 1, 1) := by decide +kernel
theorem dL_law_293 : decode cL_law 293 = .ok (.iadd, 1) := by decide +kernel
theorem dL_law_294 : decode cL_law 294 = .ok (.iaload, 1) := by decide +kernel
theorem dL_law_295 : decode cL_law 295 = .ok (.aload_n 3, 1) := by decide +kernel
theorem dL_law_296 : decode cL_law 296 = .ok (.invokestatic 119, 3) := by decide +kernel
theorem dL_law_299 : decode cL_law 299 = .ok (.istore 6, 2) := by decide +kernel
theorem dL_law_301 : decode cL_law 301 = .ok (.aload_n 2, 1) := by decide +kernel
theorem dL_law_302 : decode cL_law 302 = .ok (.aload_n 0, 1) := by decide +kernel
theorem dL_law_303 : decode cL_law 303 = .ok (.iload 5, 2) := by decide +kernel
theorem dL_law_305 : decode cL_law 305 = .ok (.iconst 1, 1) := by decide +kernel
theorem dL_law_306 : decode cL_law 306 = .ok (.iadd, 1) := by decide +kernel
theorem dL_law_307 : decode cL_law 307 = .ok (.iaload, 1) := by decide +kernel
theorem dL_law_308 : decode cL_law 308 = .ok (.invokevirtual 121, 3) := by decide +kernel
theorem dL_law_311 : decode cL_law 311 = .ok (.istore 7, 2) := by decide +kernel
theorem dL_law_313 : decode cL_law 313 = .ok (.aload_n 2, 1) := by decide +kernel
theorem dL_law_314 : decode cL_law 314 = .ok (.invokevirtual 111, 3) := by decide +kernel
theorem dL_law_317 : decode cL_law 317 = .ok (.iload 6, 2) := by decide +kernel
theorem dL_law_319 : decode cL_law 319 = .ok (.if_icmp .eq 5, 3) := by decide +kernel
theorem dL_law_322 : decode cL_law 322 = .ok (.iconst 0, 1) := by decide +kernel
theorem dL_law_323 : decode cL_law 323 = .ok (.ireturn, 1) := by decide +kernel
theorem dL_law_324 : decode cL_law 324 = .ok (.iload 6, 2) := by decide +kernel
theorem dL_law_326 : decode cL_law 326 = .ok (.ifCond .ne 15, 3) := by decide +kernel
theorem dL_law_329 : decode cL_law 329 = .ok (.aload_n 3, 1) := by decide +kernel
theorem dL_law_330 : decode cL_law 330 = .ok (.iconst 0, 1) := by decide +kernel
theorem dL_law_331 : decode cL_law 331 = .ok (.laload, 1) := by decide +kernel
theorem dL_law_332 : decode cL_law 332 = .ok (.iload 7, 2) := by decide +kernel
theorem dL_law_334 : decode cL_law 334 = .ok (.i2l, 1) := by decide +kernel
theorem dL_law_335 : decode cL_law 335 = .ok (.lcmp, 1) := by decide +kernel
theorem dL_law_336 : decode cL_law 336 = .ok (.ifCond .eq 5, 3) := by decide +kernel
theorem dL_law_339 : decode cL_law 339 = .ok (.iconst 0, 1) := by decide +kernel
theorem dL_law_340 : decode cL_law 340 = .ok (.ireturn, 1) := by decide +kernel
theorem dL_law_341 : decode cL_law 341 = .ok (.goto 1390, 3) := by decide +kernel
theorem dL_law_344 : decode cL_law 344 = .ok (.aload_n 1, 1) := by decide +kernel
theorem dL_law_345 : decode cL_law 345 = .ok (.invokevirtual 122, 3) := by decide +kernel
theorem dL_law_348 : decode cL_law 348 = .ok (.aload_n 2, 1) := by decide +kernel
theorem dL_law_349 : decode cL_law 349 = .ok (.invokevirtual 125, 3) := by decide +kernel
theorem dL_law_352 : decode cL_law 352 = .ok (.if_icmp .eq 1379, 3) := by decide +kernel
theorem dL_law_355 : decode cL_law 355 = .ok (.iconst 0, 1) := by decide +kernel
theorem dL_law_356 : decode cL_law 356 = .ok (.ireturn, 1) := by decide +kernel
theorem dL_law_357 : decode cL_law 357 = .ok (.aload_n 1, 1) := by decide +kernel
theorem dL_law_358 : decode cL_law 358 = .ok (.aload_n 0, 1) := by decide +kernel
theorem dL_law_359 : decode cL_law 359 = .ok (.iload 5, 2) := by decide +kernel
theorem dL_law_361 : decode cL_law 361 = .ok (.iconst 1, 1) := by decide +kernel
theorem dL_law_362 : decode cL_law 362 = .ok (.iadd, 1) := by decide +kernel
theorem dL_law_363 : decode cL_law 363 = .ok (.iaload, 1) := by decide +kernel
theorem dL_law_364 : decode cL_law 364 = .ok (.aload_n 3, 1) := by decide +kernel
theorem dL_law_365 : decode cL_law 365 = .ok (.invokestatic 126, 3) := by decide +kernel
theorem dL_law_368 : decode cL_law 368 = .ok (.istore 6, 2) := by decide +kernel
theorem dL_law_370 : decode cL_law 370 = .ok (.aload_n 2, 1) := by decide +kernel
theorem dL_law_371 : decode cL_law 371 = .ok (.aload_n 0, 1) := by decide +kernel
theorem dL_law_372 : decode cL_law 372 = .ok (.iload 5, 2) := by decide +kernel
theorem dL_law_374 : decode cL_law 374 = .ok (.iconst 1, 1) := by decide +kernel
theorem dL_law_375 : decode cL_law 375 = .ok (.iadd, 1) := by decide +kernel
theorem dL_law_376 : decode cL_law 376 = .ok (.iaload, 1) := by decide +kernel
theorem dL_law_377 : decode cL_law 377 = .ok (.invokevirtual 128, 3) := by decide +kernel
theorem dL_law_380 : decode cL_law 380 = .ok (.istore 7, 2) := by decide +kernel
theorem dL_law_382 : decode cL_law 382 = .ok (.aload_n 2, 1) := by decide +kernel
theorem dL_law_383 : decode cL_law 383 = .ok (.invokevirtual 111, 3) := by decide +kernel
theorem dL_law_386 : decode cL_law 386 = .ok (.iload 6, 2) := by decide +kernel
theorem dL_law_388 : decode cL_law 388 = .ok (.if_icmp .eq 5, 3) := by decide +kernel
theorem dL_law_391 : decode cL_law 391 = .ok (.iconst 0, 1) := by decide +kernel
theorem dL_law_392 : decode cL_law 392 = .ok (.ireturn, 1) := by decide +kernel
theorem dL_law_393 : decode cL_law 393 = .ok (.iload 6, 2) := by decide +kernel
theorem dL_law_395 : decode cL_law 395 = .ok (.ifCond .ne 15, 3) := by decide +kernel
theorem dL_law_398 : decode cL_law 398 = .ok (.aload_n 3, 1) := by decide +kernel
theorem dL_law_399 : decode cL_law 399 = .ok (.iconst 0, 1) := by decide +kernel
theorem dL_law_400 : decode cL_law 400 = .ok (.laload, 1) := by decide +kernel
theorem dL_law_401 : decode cL_law 401 = .ok (.iload 7, 2) := by decide +kernel
theorem dL_law_403 : decode cL_law 403 = .ok (.i2l, 1) := by decide +kernel
theorem dL_law_404 : decode cL_law 404 = .ok (.lcmp, 1) := by decide +kernel
theorem dL_law_405 : decode cL_law 405 = .ok (.ifCond .eq 5, 3) := by decide +kernel
theorem dL_law_408 : decode cL_law 408 = .ok (.iconst 0, 1) := by decide +kernel
theorem dL_law_409 : decode cL_law 409 = .ok (.ireturn, 1) := by decide +kernel
theorem dL_law_410 : decode cL_law 410 = .ok (.goto 1321, 3) := by decide +kernel
theorem dL_law_413 : decode cL_law 413 = .ok (.aload_n 1, 1) := by decide +kernel
theorem dL_law_414 : decode cL_law 414 = .ok (.aload_n 0, 1) := by decide +kernel
theorem dL_law_415 : decode cL_law 415 = .ok (.iload 5, 2) := by decide +kernel
theorem dL_law_417 : decode cL_law 417 = .ok (.iconst 1, 1) := by decide +kernel
theorem dL_law_418 : decode cL_law 418 = .ok (.iadd, 1) := by decide +kernel
theorem dL_law_419 : decode cL_law 419 = .ok (.iaload, 1) := by decide +kernel
theorem dL_law_420 : decode cL_law 420 = .ok (.aload_n 3, 1) := by decide +kernel
theorem dL_law_421 : decode cL_law 421 = .ok (.invokestatic 129, 3) := by decide +kernel
theorem dL_law_424 : decode cL_law 424 = .ok (.istore 6, 2) := by decide +kernel
theorem dL_law_426 : decode cL_law 426 = .ok (.aload_n 2, 1) := by decide +kernel
theorem dL_law_427 : decode cL_law 427 = .ok (.aload_n 0, 1) := by decide +kernel
theorem dL_law_428 : decode cL_law 428 = .ok (.iload 5, 2) := by decide +kernel
theorem dL_law_430 : decode cL_law 430 = .ok (.iconst 1, 1) := by decide +kernel
theorem dL_law_431 : decode cL_law 431 = .ok (.iadd, 1) := by decide +kernel
theorem dL_law_432 : decode cL_law 432 = .ok (.iaload, 1) := by decide +kernel
theorem dL_law_433 : decode cL_law 433 = .ok (.invokevirtual 131, 3) := by decide +kernel
theorem dL_law_436 : decode cL_law 436 = .ok (.istore 7, 2) := by decide +kernel
theorem dL_law_438 : decode cL_law 438 = .ok (.aload_n 2, 1) := by decide +kernel
theorem dL_law_439 : decode cL_law 439 = .ok (.invokevirtual 111, 3) := by decide +kernel
theorem dL_law_442 : decode cL_law 442 = .ok (.iload 6, 2) := by decide +kernel
theorem dL_law_444 : decode cL_law 444 = .ok (.if_icmp .eq 5, 3) := by decide +kernel
theorem dL_law_447 : decode cL_law 447 = .ok (.iconst 0, 1) := by decide +kernel
theorem dL_law_448 : decode cL_law 448 = .ok (.ireturn, 1) := by decide +kernel
theorem dL_law_449 : decode cL_law 449 = .ok (.iload 6, 2) := by decide +kernel
theorem dL_law_451 : decode cL_law 451 = .ok (.ifCond .ne 15, 3) := by decide +kernel
theorem dL_law_454 : decode cL_law 454 = .ok (.aload_n 3, 1) := by decide +kernel
theorem dL_law_455 : decode cL_law 455 = .ok (.iconst 0, 1) := by decide +kernel
theorem dL_law_456 : decode cL_law 456 = .ok (.laload, 1) := by decide +kernel
theorem dL_law_457 : decode cL_law 457 = .ok (.iload 7, 2) := by decide +kernel
theorem dL_law_459 : decode cL_law 459 = .ok (.i2l, 1) := by decide +kernel
theorem dL_law_460 : decode cL_law 460 = .ok (.lcmp, 1) := by decide +kernel
theorem dL_law_461 : decode cL_law 461 = .ok (.ifCond .eq 5, 3) := by decide +kernel
theorem dL_law_464 : decode cL_law 464 = .ok (.iconst 0, 1) := by decide +kernel
theorem dL_law_465 : decode cL_law 465 = .ok (.ireturn, 1) := by decide +kernel
theorem dL_law_466 : decode cL_law 466 = .ok (.goto 1265, 3) := by decide +kernel
theorem dL_law_469 : decode cL_law 469 = .ok (.aload_n 1, 1) := by decide +kernel
theorem dL_law_470 : decode cL_law 470 = .ok (.aload_n 0, 1) := by decide +kernel
theorem dL_law_471 : decode cL_law 471 = .ok (.iload 5, 2) := by decide +kernel
theorem dL_law_473 : decode cL_law 473 = .ok (.iconst 1, 1) := by decide +kernel
theorem dL_law_474 : decode cL_law 474 = .ok (.iadd, 1) := by decide +kernel
theorem dL_law_475 : decode cL_law 475 = .ok (.iaload, 1) := by decide +kernel
theorem dL_law_476 : decode cL_law 476 = .ok (.aload_n 3, 1) := by decide +kernel
theorem dL_law_477 : decode cL_law 477 = .ok (.invokestatic 132, 3) := by decide +kernel
theorem dL_law_480 : decode cL_law 480 = .ok (.istore 6, 2) := by decide +kernel
theorem dL_law_482 : decode cL_law 482 = .ok (.aload_n 2, 1) := by decide +kernel
theorem dL_law_483 : decode cL_law 483 = .ok (.aload_n 0, 1) := by decide +kernel
theorem dL_law_484 : decode cL_law 484 = .ok (.iload 5, 2) := by decide +kernel
theorem dL_law_486 : decode cL_law 486 = .ok (.iconst 1, 1) := by decide +kernel
theorem dL_law_487 : decode cL_law 487 = .ok (.iadd, 1) := by decide +kernel
theorem dL_law_488 : decode cL_law 488 = .ok (.iaload, 1) := by decide +kernel
theorem dL_law_489 : decode cL_law 489 = .ok (.invokevirtual 134, 3) := by decide +kernel
theorem dL_law_492 : decode cL_law 492 = .ok (.istore 7, 2) := by decide +kernel
theorem dL_law_494 : decode cL_law 494 = .ok (.aload_n 2, 1) := by decide +kernel
theorem dL_law_495 : decode cL_law 495 = .ok (.invokevirtual 111, 3) := by decide +kernel
theorem dL_law_498 : decode cL_law 498 = .ok (.iload 6, 2) := by decide +kernel
theorem dL_law_500 : decode cL_law 500 = .ok (.if_icmp .eq 5, 3) := by decide +kernel
theorem dL_law_503 : decode cL_law 503 = .ok (.iconst 0, 1) := by decide +kernel
theorem dL_law_504 : decode cL_law 504 = .ok (.ireturn, 1) := by decide +kernel
theorem dL_law_505 : decode cL_law 505 = .ok (.iload 6, 2) := by decide +kernel
theorem dL_law_507 : decode cL_law 507 = .ok (.ifCond .ne 15, 3) := by decide +kernel
theorem dL_law_510 : decode cL_law 510 = .ok (.aload_n 3, 1) := by decide +kernel
theorem dL_law_511 : decode cL_law 511 = .ok (.iconst 0, 1) := by decide +kernel
theorem dL_law_512 : decode cL_law 512 = .ok (.laload, 1) := by decide +kernel
theorem dL_law_513 : decode cL_law 513 = .ok (.iload 7, 2) := by decide +kernel
theorem dL_law_515 : decode cL_law 515 = .ok (.i2l, 1) := by decide +kernel
theorem dL_law_516 : decode cL_law 516 = .ok (.lcmp, 1) := by decide +kernel
theorem dL_law_517 : decode cL_law 517 = .ok (.ifCond .eq 5, 3) := by decide +kernel
theorem dL_law_520 : decode cL_law 520 = .ok (.iconst 0, 1) := by decide +kernel
theorem dL_law_521 : decode cL_law 521 = .ok (.ireturn, 1) := by decide +kernel
theorem dL_law_522 : decode cL_law 522 = .ok (.goto 1209, 3) := by decide +kernel
theorem dL_law_525 : decode cL_law 525 = .ok (.aload_n 1, 1) := by decide +kernel
theorem dL_law_526 : decode cL_law 526 = .ok (.aload_n 0, 1) := by decide +kernel
theorem dL_law_527 : decode cL_law 527 = .ok (.iload 5, 2) := by decide +kernel
theorem dL_law_529 : decode cL_law 529 = .ok (.iconst 1, 1) := by decide +kernel
theorem dL_law_530 : decode cL_law 530 = .ok (.iadd, 1) := by decide +kernel
theorem dL_law_531 : decode cL_law 531 = .ok (.iaload, 1) := by decide +kernel
theorem dL_law_532 : decode cL_law 532 = .ok (.aload_n 0, 1) := by decide +kernel
theorem dL_law_533 : decode cL_law 533 = .ok (.iload 5, 2) := by decide +kernel
theorem dL_law_535 : decode cL_law 535 = .ok (.iconst 2, 1) := by decide +kernel
theorem dL_law_536 : decode cL_law 536 = .ok (.iadd, 1) := by decide +kernel
theorem dL_law_537 : decode cL_law 537 = .ok (.iaload, 1) := by decide +kernel
theorem dL_law_538 : decode cL_law 538 = .ok (.aload_n 0, 1) := by decide +kernel
theorem dL_law_539 : decode cL_law 539 = .ok (.iload 5, 2) := by decide +kernel
theorem dL_law_541 : decode cL_law 541 = .ok (.iconst 3, 1) := by decide +kernel
theorem dL_law_542 : decode cL_law 542 = .ok (.iadd, 1) := by decide +kernel
theorem dL_law_543 : decode cL_law 543 = .ok (.iaload, 1) := by decide +kernel
theorem dL_law_544 : decode cL_law 544 = .ok (.aload_n 0, 1) := by decide +kernel
theorem dL_law_545 : decode cL_law 545 = .ok (.iload 5, 2) := by decide +kernel
theorem dL_law_547 : decode cL_law 547 = .ok (.iconst 4, 1) := by decide +kernel
theorem dL_law_548 : decode cL_law 548 = .ok (.iadd, 1) := by decide +kernel
theorem dL_law_549 : decode cL_law 549 = .ok (.iaload, 1) := by decide +kernel
theorem dL_law_550 : decode cL_law 550 = .ok (.aload_n 0, 1) := by decide +kernel
theorem dL_law_551 : decode cL_law 551 = .ok (.iload 5, 2) := by decide +kernel
theorem dL_law_553 : decode cL_law 553 = .ok (.iconst 5, 1) := by decide +kernel
theorem dL_law_554 : decode cL_law 554 = .ok (.iadd, 1) := by decide +kernel
theorem dL_law_555 : decode cL_law 555 = .ok (.iaload, 1) := by decide +kernel
theorem dL_law_556 : decode cL_law 556 = .ok (.aload_n 3, 1) := by decide +kernel
theorem dL_law_557 : decode cL_law 557 = .ok (.invokestatic 135, 3) := by decide +kernel
theorem dL_law_560 : decode cL_law 560 = .ok (.istore 6, 2) := by decide +kernel
theorem dL_law_562 : decode cL_law 562 = .ok (.aload_n 2, 1) := by decide +kernel
theorem dL_law_563 : decode cL_law 563 = .ok (.aload_n 0, 1) := by decide +kernel
theorem dL_law_564 : decode cL_law 564 = .ok (.iload 5, 2) := by decide +kernel
theorem dL_law_566 : decode cL_law 566 = .ok (.iconst 1, 1) := by decide +kernel
theorem dL_law_567 : decode cL_law 567 = .ok (.iadd, 1) := by decide +kernel
theorem dL_law_568 : decode cL_law 568 = .ok (.iaload, 1) := by decide +kernel
theorem dL_law_569 : decode cL_law 569 = .ok (.aload_n 0, 1) := by decide +kernel
theorem dL_law_570 : decode cL_law 570 = .ok (.iload 5, 2) := by decide +kernel
theorem dL_law_572 : decode cL_law 572 = .ok (.iconst 2, 1) := by decide +kernel
theorem dL_law_573 : decode cL_law 573 = .ok (.iadd, 1) := by decide +kernel
theorem dL_law_574 : decode cL_law 574 = .ok (.iaload, 1) := by decide +kernel
theorem dL_law_575 : decode cL_law 575 = .ok (.aload_n 0, 1) := by decide +kernel
theorem dL_law_576 : decode cL_law 576 = .ok (.iload 5, 2) := by decide +kernel
theorem dL_law_578 : decode cL_law 578 = .ok (.iconst 3, 1) := by decide +kernel
theorem dL_law_579 : decode cL_law 579 = .ok (.iadd, 1) := by decide +kernel
theorem dL_law_580 : decode cL_law 580 = .ok (.iaload, 1) := by decide +kernel
theorem dL_law_581 : decode cL_law 581 = .ok (.aload_n 0, 1) := by decide +kernel
theorem dL_law_582 : decode cL_law 582 = .ok (.iload 5, 2) := by decide +kernel
theorem dL_law_584 : decode cL_law 584 = .ok (.iconst 4, 1) := by decide +kernel
theorem dL_law_585 : decode cL_law 585 = .ok (.iadd, 1) := by decide +kernel
theorem dL_law_586 : decode cL_law 586 = .ok (.iaload, 1) := by decide +kernel
theorem dL_law_587 : decode cL_law 587 = .ok (.aload_n 0, 1) := by decide +kernel
theorem dL_law_588 : decode cL_law 588 = .ok (.iload 5, 2) := by decide +kernel
theorem dL_law_590 : decode cL_law 590 = .ok (.iconst 5, 1) := by decide +kernel
theorem dL_law_591 : decode cL_law 591 = .ok (.iadd, 1) := by decide +kernel
theorem dL_law_592 : decode cL_law 592 = .ok (.iaload, 1) := by decide +kernel
theorem dL_law_593 : decode cL_law 593 = .ok (.invokevirtual 138, 3) := by decide +kernel
theorem dL_law_596 : decode cL_law 596 = .ok (.istore 7, 2) := by decide +kernel
theorem dL_law_598 : decode cL_law 598 = .ok (.aload_n 2, 1) := by decide +kernel
theorem dL_law_599 : decode cL_law 599 = .ok (.invokevirtual 111, 3) := by decide +kernel
theorem dL_law_602 : decode cL_law 602 = .ok (.iload 6, 2) := by decide +kernel
theorem dL_law_604 : decode cL_law 604 = .ok (.if_icmp .eq 5, 3) := by decide +kernel
theorem dL_law_607 : decode cL_law 607 = .ok (.iconst 0, 1) := by decide +kernel
theorem dL_law_608 : decode cL_law 608 = .ok (.ireturn, 1) := by decide +kernel
theorem dL_law_609 : decode cL_law 609 = .ok (.iload 6, 2) := by decide +kernel
theorem dL_law_611 : decode cL_law 611 = .ok (.ifCond .ne 15, 3) := by decide +kernel
theorem dL_law_614 : decode cL_law 614 = .ok (.aload_n 3, 1) := by decide +kernel
theorem dL_law_615 : decode cL_law 615 = .ok (.iconst 0, 1) := by decide +kernel
theorem dL_law_616 : decode cL_law 616 = .ok (.laload, 1) := by decide +kernel
theorem dL_law_617 : decode cL_law 617 = .ok (.iload 7, 2) := by decide +kernel
theorem dL_law_619 : decode cL_law 619 = .ok (.i2l, 1) := by decide +kernel
theorem dL_law_620 : decode cL_law 620 = .ok (.lcmp, 1) := by decide +kernel
theorem dL_law_621 : decode cL_law 621 = .ok (.ifCond .eq 5, 3) := by decide +kernel
theorem dL_law_624 : decode cL_law 624 = .ok (.iconst 0, 1) := by decide +kernel
theorem dL_law_625 : decode cL_law 625 = .ok (.ireturn, 1) := by decide +kernel
theorem dL_law_626 : decode cL_law 626 = .ok (.goto 1105, 3) := by decide +kernel
theorem dL_law_629 : decode cL_law 629 = .ok (.aload_n 1, 1) := by decide +kernel
theorem dL_law_630 : decode cL_law 630 = .ok (.aload_n 0, 1) := by decide +kernel
theorem dL_law_631 : decode cL_law 631 = .ok (.iload 5, 2) := by decide +kernel
theorem dL_law_633 : decode cL_law 633 = .ok (.iconst 1, 1) := by decide +kernel
theorem dL_law_634 : decode cL_law 634 = .ok (.iadd, 1) := by decide +kernel
theorem dL_law_635 : decode cL_law 635 = .ok (.iaload, 1) := by decide +kernel
theorem dL_law_636 : decode cL_law 636 = .ok (.aload_n 0, 1) := by decide +kernel
theorem dL_law_637 : decode cL_law 637 = .ok (.iload 5, 2) := by decide +kernel
theorem dL_law_639 : decode cL_law 639 = .ok (.iconst 2, 1) := by decide +kernel
theorem dL_law_640 : decode cL_law 640 = .ok (.iadd, 1) := by decide +kernel
theorem dL_law_641 : decode cL_law 641 = .ok (.iaload, 1) := by decide +kernel
theorem dL_law_642 : decode cL_law 642 = .ok (.aload_n 0, 1) := by decide +kernel
theorem dL_law_643 : decode cL_law 643 = .ok (.iload 5, 2) := by decide +kernel
theorem dL_law_645 : decode cL_law 645 = .ok (.iconst 3, 1) := by decide +kernel
theorem dL_law_646 : decode cL_law 646 = .ok (.iadd, 1) := by decide +kernel
theorem dL_law_647 : decode cL_law 647 = .ok (.iaload, 1) := by decide +kernel
theorem dL_law_648 : decode cL_law 648 = .ok (.aload_n 3, 1) := by decide +kernel
theorem dL_law_649 : decode cL_law 649 = .ok (.invokestatic 139, 3) := by decide +kernel
theorem dL_law_652 : decode cL_law 652 = .ok (.istore 6, 2) := by decide +kernel
theorem dL_law_654 : decode cL_law 654 = .ok (.aload_n 2, 1) := by decide +kernel
theorem dL_law_655 : decode cL_law 655 = .ok (.aload_n 0, 1) := by decide +kernel
theorem dL_law_656 : decode cL_law 656 = .ok (.iload 5, 2) := by decide +kernel
theorem dL_law_658 : decode cL_law 658 = .ok (.iconst 1, 1) := by decide +kernel
theorem dL_law_659 : decode cL_law 659 = .ok (.iadd, 1) := by decide +kernel
theorem dL_law_660 : decode cL_law 660 = .ok (.iaload, 1) := by decide +kernel
theorem dL_law_661 : decode cL_law 661 = .ok (.aload_n 0, 1) := by decide +kernel
theorem dL_law_662 : decode cL_law 662 = .ok (.iload 5, 2) := by decide +kernel
theorem dL_law_664 : decode cL_law 664 = .ok (.iconst 2, 1) := by decide +kernel
theorem dL_law_665 : decode cL_law 665 = .ok (.iadd, 1) := by decide +kernel
theorem dL_law_666 : decode cL_law 666 = .ok (.iaload, 1) := by decide +kernel
theorem dL_law_667 : decode cL_law 667 = .ok (.aload_n 0, 1) := by decide +kernel
theorem dL_law_668 : decode cL_law 668 = .ok (.iload 5, 2) := by decide +kernel
theorem dL_law_670 : decode cL_law 670 = .ok (.iconst 3, 1) := by decide +kernel
theorem dL_law_671 : decode cL_law 671 = .ok (.iadd, 1) := by decide +kernel
theorem dL_law_672 : decode cL_law 672 = .ok (.iaload, 1) := by decide +kernel
theorem dL_law_673 : decode cL_law 673 = .ok (.invokevirtual 142, 3) := by decide +kernel
theorem dL_law_676 : decode cL_law 676 = .ok (.istore 7, 2) := by decide +kernel
theorem dL_law_678 : decode cL_law 678 = .ok (.aload_n 2, 1) := by decide +kernel
theorem dL_law_679 : decode cL_law 679 = .ok (.invokevirtual 111, 3) := by decide +kernel
theorem dL_law_682 : decode cL_law 682 = .ok (.iload 6, 2) := by decide +kernel
theorem dL_law_684 : decode cL_law 684 = .ok (.if_icmp .eq 5, 3) := by decide +kernel
theorem dL_law_687 : decode cL_law 687 = .ok (.iconst 0, 1) := by decide +kernel
theorem dL_law_688 : decode cL_law 688 = .ok (.ireturn, 1) := by decide +kernel
theorem dL_law_689 : decode cL_law 689 = .ok (.iload 6, 2) := by decide +kernel
theorem dL_law_691 : decode cL_law 691 = .ok (.ifCond .ne 15, 3) := by decide +kernel
theorem dL_law_694 : decode cL_law 694 = .ok (.aload_n 3, 1) := by decide +kernel
theorem dL_law_695 : decode cL_law 695 = .ok (.iconst 0, 1) := by decide +kernel
theorem dL_law_696 : decode cL_law 696 = .ok (.laload, 1) := by decide +kernel
theorem dL_law_697 : decode cL_law 697 = .ok (.iload 7, 2) := by decide +kernel
theorem dL_law_699 : decode cL_law 699 = .ok (.i2l, 1) := by decide +kernel
theorem dL_law_700 : decode cL_law 700 = .ok (.lcmp, 1) := by decide +kernel
theorem dL_law_701 : decode cL_law 701 = .ok (.ifCond .eq 5, 3) := by decide +kernel
theorem dL_law_704 : decode cL_law 704 = .ok (.iconst 0, 1) := by decide +kernel
theorem dL_law_705 : decode cL_law 705 = .ok (.ireturn, 1) := by decide +kernel
theorem dL_law_706 : decode cL_law 706 = .ok (.goto 1025, 3) := by decide +kernel
theorem dL_law_709 : decode cL_law 709 = .ok (.aload_n 1, 1) := by decide +kernel
theorem dL_law_710 : decode cL_law 710 = .ok (.aload_n 0, 1) := by decide +kernel
theorem dL_law_711 : decode cL_law 711 = .ok (.iload 5, 2) := by decide +kernel
theorem dL_law_713 : decode cL_law 713 = .ok (.iconst 1, 1) := by decide +kernel
theorem dL_law_714 : decode cL_law 714 = .ok (.iadd, 1) := by decide +kernel
theorem dL_law_715 : decode cL_law 715 = .ok (.iaload, 1) := by decide +kernel
theorem dL_law_716 : decode cL_law 716 = .ok (.aload_n 0, 1) := by decide +kernel
theorem dL_law_717 : decode cL_law 717 = .ok (.iload 5, 2) := by decide +kernel
theorem dL_law_719 : decode cL_law 719 = .ok (.iconst 2, 1) := by decide +kernel
theorem dL_law_720 : decode cL_law 720 = .ok (.iadd, 1) := by decide +kernel
theorem dL_law_721 : decode cL_law 721 = .ok (.iaload, 1) := by decide +kernel
theorem dL_law_722 : decode cL_law 722 = .ok (.aload_n 3, 1) := by decide +kernel
theorem dL_law_723 : decode cL_law 723 = .ok (.invokestatic 143, 3) := by decide +kernel
theorem dL_law_726 : decode cL_law 726 = .ok (.istore 6, 2) := by decide +kernel
theorem dL_law_728 : decode cL_law 728 = .ok (.aload_n 2, 1) := by decide +kernel
theorem dL_law_729 : decode cL_law 729 = .ok (.aload_n 0, 1) := by decide +kernel
theorem dL_law_730 : decode cL_law 730 = .ok (.iload 5, 2) := by decide +kernel
theorem dL_law_732 : decode cL_law 732 = .ok (.iconst 1, 1) := by decide +kernel
theorem dL_law_733 : decode cL_law 733 = .ok (.iadd, 1) := by decide +kernel
theorem dL_law_734 : decode cL_law 734 = .ok (.iaload, 1) := by decide +kernel
theorem dL_law_735 : decode cL_law 735 = .ok (.aload_n 0, 1) := by decide +kernel
theorem dL_law_736 : decode cL_law 736 = .ok (.iload 5, 2) := by decide +kernel
theorem dL_law_738 : decode cL_law 738 = .ok (.iconst 2, 1) := by decide +kernel
theorem dL_law_739 : decode cL_law 739 = .ok (.iadd, 1) := by decide +kernel
theorem dL_law_740 : decode cL_law 740 = .ok (.iaload, 1) := by decide +kernel
theorem dL_law_741 : decode cL_law 741 = .ok (.invokevirtual 145, 3) := by decide +kernel
theorem dL_law_744 : decode cL_law 744 = .ok (.istore 7, 2) := by decide +kernel
theorem dL_law_746 : decode cL_law 746 = .ok (.aload_n 2, 1) := by decide +kernel
theorem dL_law_747 : decode cL_law 747 = .ok (.invokevirtual 111, 3) := by decide +kernel
theorem dL_law_750 : decode cL_law 750 = .ok (.iload 6, 2) := by decide +kernel
theorem dL_law_752 : decode cL_law 752 = .ok (.if_icmp .eq 5, 3) := by decide +kernel
theorem dL_law_755 : decode cL_law 755 = .ok (.iconst 0, 1) := by decide +kernel
theorem dL_law_756 : decode cL_law 756 = .ok (.ireturn, 1) := by decide +kernel
theorem dL_law_757 : decode cL_law 757 = .ok (.iload 6, 2) := by decide +kernel
theorem dL_law_759 : decode cL_law 759 = .ok (.ifCond .ne 15, 3) := by decide +kernel
theorem dL_law_762 : decode cL_law 762 = .ok (.aload_n 3, 1) := by decide +kernel
theorem dL_law_763 : decode cL_law 763 = .ok (.iconst 0, 1) := by decide +kernel
theorem dL_law_764 : decode cL_law 764 = .ok (.laload, 1) := by decide +kernel
theorem dL_law_765 : decode cL_law 765 = .ok (.iload 7, 2) := by decide +kernel
theorem dL_law_767 : decode cL_law 767 = .ok (.i2l, 1) := by decide +kernel
theorem dL_law_768 : decode cL_law 768 = .ok (.lcmp, 1) := by decide +kernel
theorem dL_law_769 : decode cL_law 769 = .ok (.ifCond .eq 5, 3) := by decide +kernel
theorem dL_law_772 : decode cL_law 772 = .ok (.iconst 0, 1) := by decide +kernel
theorem dL_law_773 : decode cL_law 773 = .ok (.ireturn, 1) := by decide +kernel
theorem dL_law_774 : decode cL_law 774 = .ok (.goto 957, 3) := by decide +kernel
theorem dL_law_777 : decode cL_law 777 = .ok (.aload_n 1, 1) := by decide +kernel
theorem dL_law_778 : decode cL_law 778 = .ok (.aload_n 0, 1) := by decide +kernel
theorem dL_law_779 : decode cL_law 779 = .ok (.iload 5, 2) := by decide +kernel
theorem dL_law_781 : decode cL_law 781 = .ok (.iconst 1, 1) := by decide +kernel
theorem dL_law_782 : decode cL_law 782 = .ok (.iadd, 1) := by decide +kernel
theorem dL_law_783 : decode cL_law 783 = .ok (.iaload, 1) := by decide +kernel
theorem dL_law_784 : decode cL_law 784 = .ok (.aload_n 0, 1) := by decide +kernel
theorem dL_law_785 : decode cL_law 785 = .ok (.iload 5, 2) := by decide +kernel
theorem dL_law_787 : decode cL_law 787 = .ok (.iconst 2, 1) := by decide +kernel
theorem dL_law_788 : decode cL_law 788 = .ok (.iadd, 1) := by decide +kernel
theorem dL_law_789 : decode cL_law 789 = .ok (.iaload, 1) := by decide +kernel
theorem dL_law_790 : decode cL_law 790 = .ok (.aload_n 3, 1) := by decide +kernel
theorem dL_law_791 : decode cL_law 791 = .ok (.invokestatic 146, 3) := by decide +kernel
theorem dL_law_794 : decode cL_law 794 = .ok (.istore 6, 2) := by decide +kernel
theorem dL_law_796 : decode cL_law 796 = .ok (.aload_n 2, 1) := by decide +kernel
theorem dL_law_797 : decode cL_law 797 = .ok (.aload_n 0, 1) := by decide +kernel
theorem dL_law_798 : decode cL_law 798 = .ok (.iload 5, 2) := by decide +kernel
theorem dL_law_800 : decode cL_law 800 = .ok (.iconst 1, 1) := by decide +kernel
theorem dL_law_801 : decode cL_law 801 = .ok (.iadd, 1) := by decide +kernel
theorem dL_law_802 : decode cL_law 802 = .ok (.iaload, 1) := by decide +kernel
theorem dL_law_803 : decode cL_law 803 = .ok (.aload_n 0, 1) := by decide +kernel
theorem dL_law_804 : decode cL_law 804 = .ok (.iload 5, 2) := by decide +kernel
theorem dL_law_806 : decode cL_law 806 = .ok (.iconst 2, 1) := by decide +kernel
theorem dL_law_807 : decode cL_law 807 = .ok (.iadd, 1) := by decide +kernel
theorem dL_law_808 : decode cL_law 808 = .ok (.iaload, 1) := by decide +kernel
theorem dL_law_809 : decode cL_law 809 = .ok (.invokevirtual 148, 3) := by decide +kernel
theorem dL_law_812 : decode cL_law 812 = .ok (.istore 7, 2) := by decide +kernel
theorem dL_law_814 : decode cL_law 814 = .ok (.aload_n 2, 1) := by decide +kernel
theorem dL_law_815 : decode cL_law 815 = .ok (.invokevirtual 111, 3) := by decide +kernel
theorem dL_law_818 : decode cL_law 818 = .ok (.iload 6, 2) := by decide +kernel
theorem dL_law_820 : decode cL_law 820 = .ok (.if_icmp .eq 5, 3) := by decide +kernel
theorem dL_law_823 : decode cL_law 823 = .ok (.iconst 0, 1) := by decide +kernel
theorem dL_law_824 : decode cL_law 824 = .ok (.ireturn, 1) := by decide +kernel
theorem dL_law_825 : decode cL_law 825 = .ok (.iload 6, 2) := by decide +kernel
theorem dL_law_827 : decode cL_law 827 = .ok (.ifCond .ne 15, 3) := by decide +kernel
theorem dL_law_830 : decode cL_law 830 = .ok (.aload_n 3, 1) := by decide +kernel
theorem dL_law_831 : decode cL_law 831 = .ok (.iconst 0, 1) := by decide +kernel
theorem dL_law_832 : decode cL_law 832 = .ok (.laload, 1) := by decide +kernel
theorem dL_law_833 : decode cL_law 833 = .ok (.iload 7, 2) := by decide +kernel
theorem dL_law_835 : decode cL_law 835 = .ok (.i2l, 1) := by decide +kernel
theorem dL_law_836 : decode cL_law 836 = .ok (.lcmp, 1) := by decide +kernel
theorem dL_law_837 : decode cL_law 837 = .ok (.ifCond .eq 5, 3) := by decide +kernel
theorem dL_law_840 : decode cL_law 840 = .ok (.iconst 0, 1) := by decide +kernel
theorem dL_law_841 : decode cL_law 841 = .ok (.ireturn, 1) := by decide +kernel
theorem dL_law_842 : decode cL_law 842 = .ok (.goto 889, 3) := by decide +kernel
theorem dL_law_845 : decode cL_law 845 = .ok (.aload_n 1, 1) := by decide +kernel
theorem dL_law_846 : decode cL_law 846 = .ok (.aload_n 0, 1) := by decide +kernel
theorem dL_law_847 : decode cL_law 847 = .ok (.iload 5, 2) := by decide +kernel
theorem dL_law_849 : decode cL_law 849 = .ok (.iconst 1, 1) := by decide +kernel
theorem dL_law_850 : decode cL_law 850 = .ok (.iadd, 1) := by decide +kernel
theorem dL_law_851 : decode cL_law 851 = .ok (.iaload, 1) := by decide +kernel
theorem dL_law_852 : decode cL_law 852 = .ok (.aload_n 0, 1) := by decide +kernel
theorem dL_law_853 : decode cL_law 853 = .ok (.iload 5, 2) := by decide +kernel
theorem dL_law_855 : decode cL_law 855 = .ok (.iconst 2, 1) := by decide +kernel
theorem dL_law_856 : decode cL_law 856 = .ok (.iadd, 1) := by decide +kernel
theorem dL_law_857 : decode cL_law 857 = .ok (.iaload, 1) := by decide +kernel
theorem dL_law_858 : decode cL_law 858 = .ok (.aload_n 3, 1) := by decide +kernel
theorem dL_law_859 : decode cL_law 859 = .ok (.invokestatic 149, 3) := by decide +kernel
theorem dL_law_862 : decode cL_law 862 = .ok (.istore 6, 2) := by decide +kernel
theorem dL_law_864 : decode cL_law 864 = .ok (.aload_n 2, 1) := by decide +kernel
theorem dL_law_865 : decode cL_law 865 = .ok (.aload_n 0, 1) := by decide +kernel
theorem dL_law_866 : decode cL_law 866 = .ok (.iload 5, 2) := by decide +kernel
theorem dL_law_868 : decode cL_law 868 = .ok (.iconst 1, 1) := by decide +kernel
theorem dL_law_869 : decode cL_law 869 = .ok (.iadd, 1) := by decide +kernel
theorem dL_law_870 : decode cL_law 870 = .ok (.iaload, 1) := by decide +kernel
theorem dL_law_871 : decode cL_law 871 = .ok (.aload_n 0, 1) := by decide +kernel
theorem dL_law_872 : decode cL_law 872 = .ok (.iload 5, 2) := by decide +kernel
theorem dL_law_874 : decode cL_law 874 = .ok (.iconst 2, 1) := by decide +kernel
theorem dL_law_875 : decode cL_law 875 = .ok (.iadd, 1) := by decide +kernel
theorem dL_law_876 : decode cL_law 876 = .ok (.iaload, 1) := by decide +kernel
theorem dL_law_877 : decode cL_law 877 = .ok (.invokevirtual 151, 3) := by decide +kernel
theorem dL_law_880 : decode cL_law 880 = .ok (.istore 7, 2) := by decide +kernel
theorem dL_law_882 : decode cL_law 882 = .ok (.aload_n 2, 1) := by decide +kernel
theorem dL_law_883 : decode cL_law 883 = .ok (.invokevirtual 111, 3) := by decide +kernel
theorem dL_law_886 : decode cL_law 886 = .ok (.iload 6, 2) := by decide +kernel
theorem dL_law_888 : decode cL_law 888 = .ok (.if_icmp .eq 5, 3) := by decide +kernel
theorem dL_law_891 : decode cL_law 891 = .ok (.iconst 0, 1) := by decide +kernel
theorem dL_law_892 : decode cL_law 892 = .ok (.ireturn, 1) := by decide +kernel
theorem dL_law_893 : decode cL_law 893 = .ok (.iload 6, 2) := by decide +kernel
theorem dL_law_895 : decode cL_law 895 = .ok (.ifCond .ne 15, 3) := by decide +kernel
theorem dL_law_898 : decode cL_law 898 = .ok (.aload_n 3, 1) := by decide +kernel
theorem dL_law_899 : decode cL_law 899 = .ok (.iconst 0, 1) := by decide +kernel
theorem dL_law_900 : decode cL_law 900 = .ok (.laload, 1) := by decide +kernel
theorem dL_law_901 : decode cL_law 901 = .ok (.iload 7, 2) := by decide +kernel
theorem dL_law_903 : decode cL_law 903 = .ok (.i2l, 1) := by decide +kernel
theorem dL_law_904 : decode cL_law 904 = .ok (.lcmp, 1) := by decide +kernel
theorem dL_law_905 : decode cL_law 905 = .ok (.ifCond .eq 5, 3) := by decide +kernel
theorem dL_law_908 : decode cL_law 908 = .ok (.iconst 0, 1) := by decide +kernel
theorem dL_law_909 : decode cL_law 909 = .ok (.ireturn, 1) := by decide +kernel
theorem dL_law_910 : decode cL_law 910 = .ok (.goto 821, 3) := by decide +kernel
theorem dL_law_913 : decode cL_law 913 = .ok (.aload_n 1, 1) := by decide +kernel
theorem dL_law_914 : decode cL_law 914 = .ok (.aload_n 0, 1) := by decide +kernel
theorem dL_law_915 : decode cL_law 915 = .ok (.iload 5, 2) := by decide +kernel
theorem dL_law_917 : decode cL_law 917 = .ok (.iconst 1, 1) := by decide +kernel
theorem dL_law_918 : decode cL_law 918 = .ok (.iadd, 1) := by decide +kernel
theorem dL_law_919 : decode cL_law 919 = .ok (.iaload, 1) := by decide +kernel
theorem dL_law_920 : decode cL_law 920 = .ok (.aload_n 3, 1) := by decide +kernel
theorem dL_law_921 : decode cL_law 921 = .ok (.invokestatic 152, 3) := by decide +kernel
theorem dL_law_924 : decode cL_law 924 = .ok (.istore 6, 2) := by decide +kernel
theorem dL_law_926 : decode cL_law 926 = .ok (.aload_n 2, 1) := by decide +kernel
theorem dL_law_927 : decode cL_law 927 = .ok (.aload_n 0, 1) := by decide +kernel
theorem dL_law_928 : decode cL_law 928 = .ok (.iload 5, 2) := by decide +kernel
theorem dL_law_930 : decode cL_law 930 = .ok (.iconst 1, 1) := by decide +kernel
theorem dL_law_931 : decode cL_law 931 = .ok (.iadd, 1) := by decide +kernel
theorem dL_law_932 : decode cL_law 932 = .ok (.iaload, 1) := by decide +kernel
theorem dL_law_933 : decode cL_law 933 = .ok (.invokevirtual 154, 3) := by decide +kernel
theorem dL_law_936 : decode cL_law 936 = .ok (.istore 7, 2) := by decide +kernel
theorem dL_law_938 : decode cL_law 938 = .ok (.aload_n 2, 1) := by decide +kernel
theorem dL_law_939 : decode cL_law 939 = .ok (.invokevirtual 111, 3) := by decide +kernel
theorem dL_law_942 : decode cL_law 942 = .ok (.iload 6, 2) := by decide +kernel
theorem dL_law_944 : decode cL_law 944 = .ok (.if_icmp .eq 5, 3) := by decide +kernel
theorem dL_law_947 : decode cL_law 947 = .ok (.iconst 0, 1) := by decide +kernel
theorem dL_law_948 : decode cL_law 948 = .ok (.ireturn, 1) := by decide +kernel
theorem dL_law_949 : decode cL_law 949 = .ok (.iload 6, 2) := by decide +kernel
theorem dL_law_951 : decode cL_law 951 = .ok (.ifCond .ne 15, 3) := by decide +kernel
theorem dL_law_954 : decode cL_law 954 = .ok (.aload_n 3, 1) := by decide +kernel
theorem dL_law_955 : decode cL_law 955 = .ok (.iconst 0, 1) := by decide +kernel
theorem dL_law_956 : decode cL_law 956 = .ok (.laload, 1) := by decide +kernel
theorem dL_law_957 : decode cL_law 957 = .ok (.iload 7, 2) := by decide +kernel
theorem dL_law_959 : decode cL_law 959 = .ok (.i2l, 1) := by decide +kernel
theorem dL_law_960 : decode cL_law 960 = .ok (.lcmp, 1) := by decide +kernel
theorem dL_law_961 : decode cL_law 961 = .ok (.ifCond .eq 5, 3) := by decide +kernel
theorem dL_law_964 : decode cL_law 964 = .ok (.iconst 0, 1) := by decide +kernel
theorem dL_law_965 : decode cL_law 965 = .ok (.ireturn, 1) := by decide +kernel
theorem dL_law_966 : decode cL_law 966 = .ok (.goto 765, 3) := by decide +kernel
theorem dL_law_969 : decode cL_law 969 = .ok (.aload_n 1, 1) := by decide +kernel
theorem dL_law_970 : decode cL_law 970 = .ok (.aload_n 0, 1) := by decide +kernel
theorem dL_law_971 : decode cL_law 971 = .ok (.iload 5, 2) := by decide +kernel
theorem dL_law_973 : decode cL_law 973 = .ok (.iconst 1, 1) := by decide +kernel
theorem dL_law_974 : decode cL_law 974 = .ok (.iadd, 1) := by decide +kernel
theorem dL_law_975 : decode cL_law 975 = .ok (.iaload, 1) := by decide +kernel
theorem dL_law_976 : decode cL_law 976 = .ok (.aload_n 0, 1) := by decide +kernel
theorem dL_law_977 : decode cL_law 977 = .ok (.iload 5, 2) := by decide +kernel
theorem dL_law_979 : decode cL_law 979 = .ok (.iconst 2, 1) := by decide +kernel
theorem dL_law_980 : decode cL_law 980 = .ok (.iadd, 1) := by decide +kernel
theorem dL_law_981 : decode cL_law 981 = .ok (.iaload, 1) := by decide +kernel
theorem dL_law_982 : decode cL_law 982 = .ok (.aload_n 3, 1) := by decide +kernel
theorem dL_law_983 : decode cL_law 983 = .ok (.invokestatic 155, 3) := by decide +kernel
theorem dL_law_986 : decode cL_law 986 = .ok (.istore 6, 2) := by decide +kernel
theorem dL_law_988 : decode cL_law 988 = .ok (.aload_n 2, 1) := by decide +kernel
theorem dL_law_989 : decode cL_law 989 = .ok (.aload_n 0, 1) := by decide +kernel
theorem dL_law_990 : decode cL_law 990 = .ok (.iload 5, 2) := by decide +kernel
theorem dL_law_992 : decode cL_law 992 = .ok (.iconst 1, 1) := by decide +kernel
theorem dL_law_993 : decode cL_law 993 = .ok (.iadd, 1) := by decide +kernel
theorem dL_law_994 : decode cL_law 994 = .ok (.iaload, 1) := by decide +kernel
theorem dL_law_995 : decode cL_law 995 = .ok (.aload_n 0, 1) := by decide +kernel
theorem dL_law_996 : decode cL_law 996 = .ok (.iload 5, 2) := by decide +kernel
theorem dL_law_998 : decode cL_law 998 = .ok (.iconst 2, 1) := by decide +kernel
theorem dL_law_999 : decode cL_law 999 = .ok (.iadd, 1) := by decide +kernel
theorem dL_law_1000 : decode cL_law 1000 = .ok (.iaload, 1) := by decide +kernel
theorem dL_law_1001 : decode cL_law 1001 = .ok (.invokevirtual 157, 3) := by decide +kernel
theorem dL_law_1004 : decode cL_law 1004 = .ok (.istore 7, 2) := by decide +kernel
theorem dL_law_1006 : decode cL_law 1006 = .ok (.aload_n 2, 1) := by decide +kernel
theorem dL_law_1007 : decode cL_law 1007 = .ok (.invokevirtual 111, 3) := by decide +kernel
theorem dL_law_1010 : decode cL_law 1010 = .ok (.iload 6, 2) := by decide +kernel
theorem dL_law_1012 : decode cL_law 1012 = .ok (.if_icmp .eq 5, 3) := by decide +kernel
theorem dL_law_1015 : decode cL_law 1015 = .ok (.iconst 0, 1) := by decide +kernel
theorem dL_law_1016 : decode cL_law 1016 = .ok (.ireturn, 1) := by decide +kernel
theorem dL_law_1017 : decode cL_law 1017 = .ok (.iload 6, 2) := by decide +kernel
theorem dL_law_1019 : decode cL_law 1019 = .ok (.ifCond .ne 15, 3) := by decide +kernel
theorem dL_law_1022 : decode cL_law 1022 = .ok (.aload_n 3, 1) := by decide +kernel
theorem dL_law_1023 : decode cL_law 1023 = .ok (.iconst 0, 1) := by decide +kernel
theorem dL_law_1024 : decode cL_law 1024 = .ok (.laload, 1) := by decide +kernel
theorem dL_law_1025 : decode cL_law 1025 = .ok (.iload 7, 2) := by decide +kernel
theorem dL_law_1027 : decode cL_law 1027 = .ok (.i2l, 1) := by decide +kernel
theorem dL_law_1028 : decode cL_law 1028 = .ok (.lcmp, 1) := by decide +kernel
theorem dL_law_1029 : decode cL_law 1029 = .ok (.ifCond .eq 5, 3) := by decide +kernel
theorem dL_law_1032 : decode cL_law 1032 = .ok (.iconst 0, 1) := by decide +kernel
theorem dL_law_1033 : decode cL_law 1033 = .ok (.ireturn, 1) := by decide +kernel
theorem dL_law_1034 : decode cL_law 1034 = .ok (.goto 697, 3) := by decide +kernel
theorem dL_law_1037 : decode cL_law 1037 = .ok (.aload_n 1, 1) := by decide +kernel
theorem dL_law_1038 : decode cL_law 1038 = .ok (.aload_n 0, 1) := by decide +kernel
theorem dL_law_1039 : decode cL_law 1039 = .ok (.iload 5, 2) := by decide +kernel
theorem dL_law_1041 : decode cL_law 1041 = .ok (.iconst 1, 1) := by decide +kernel
theorem dL_law_1042 : decode cL_law 1042 = .ok (.iadd, 1) := by decide +kernel
theorem dL_law_1043 : decode cL_law 1043 = .ok (.iaload, 1) := by decide +kernel
theorem dL_law_1044 : decode cL_law 1044 = .ok (.aload_n 0, 1) := by decide +kernel
theorem dL_law_1045 : decode cL_law 1045 = .ok (.iload 5, 2) := by decide +kernel
theorem dL_law_1047 : decode cL_law 1047 = .ok (.iconst 2, 1) := by decide +kernel
theorem dL_law_1048 : decode cL_law 1048 = .ok (.iadd, 1) := by decide +kernel
theorem dL_law_1049 : decode cL_law 1049 = .ok (.iaload, 1) := by decide +kernel
theorem dL_law_1050 : decode cL_law 1050 = .ok (.aload_n 3, 1) := by decide +kernel
theorem dL_law_1051 : decode cL_law 1051 = .ok (.invokestatic 158, 3) := by decide +kernel
theorem dL_law_1054 : decode cL_law 1054 = .ok (.istore 6, 2) := by decide +kernel
theorem dL_law_1056 : decode cL_law 1056 = .ok (.aload_n 2, 1) := by decide +kernel
theorem dL_law_1057 : decode cL_law 1057 = .ok (.aload_n 0, 1) := by decide +kernel
theorem dL_law_1058 : decode cL_law 1058 = .ok (.iload 5, 2) := by decide +kernel
theorem dL_law_1060 : decode cL_law 1060 = .ok (.iconst 1, 1) := by decide +kernel
theorem dL_law_1061 : decode cL_law 1061 = .ok (.iadd, 1) := by decide +kernel
theorem dL_law_1062 : decode cL_law 1062 = .ok (.iaload, 1) := by decide +kernel
theorem dL_law_1063 : decode cL_law 1063 = .ok (.aload_n 0, 1) := by decide +kernel
theorem dL_law_1064 : decode cL_law 1064 = .ok (.iload 5, 2) := by decide +kernel
theorem dL_law_1066 : decode cL_law 1066 = .ok (.iconst 2, 1) := by decide +kernel
theorem dL_law_1067 : decode cL_law 1067 = .ok (.iadd, 1) := by decide +kernel
theorem dL_law_1068 : decode cL_law 1068 = .ok (.iaload, 1) := by decide +kernel
theorem dL_law_1069 : decode cL_law 1069 = .ok (.invokevirtual 160, 3) := by decide +kernel
theorem dL_law_1072 : decode cL_law 1072 = .ok (.istore 7, 2) := by decide +kernel
theorem dL_law_1074 : decode cL_law 1074 = .ok (.aload_n 2, 1) := by decide +kernel
theorem dL_law_1075 : decode cL_law 1075 = .ok (.invokevirtual 111, 3) := by decide +kernel
theorem dL_law_1078 : decode cL_law 1078 = .ok (.iload 6, 2) := by decide +kernel
theorem dL_law_1080 : decode cL_law 1080 = .ok (.if_icmp .eq 5, 3) := by decide +kernel
theorem dL_law_1083 : decode cL_law 1083 = .ok (.iconst 0, 1) := by decide +kernel
theorem dL_law_1084 : decode cL_law 1084 = .ok (.ireturn, 1) := by decide +kernel
theorem dL_law_1085 : decode cL_law 1085 = .ok (.iload 6, 2) := by decide +kernel
theorem dL_law_1087 : decode cL_law 1087 = .ok (.ifCond .ne 15, 3) := by decide +kernel
theorem dL_law_1090 : decode cL_law 1090 = .ok (.aload_n 3, 1) := by decide +kernel
theorem dL_law_1091 : decode cL_law 1091 = .ok (.iconst 0, 1) := by decide +kernel
theorem dL_law_1092 : decode cL_law 1092 = .ok (.laload, 1) := by decide +kernel
theorem dL_law_1093 : decode cL_law 1093 = .ok (.iload 7, 2) := by decide +kernel
theorem dL_law_1095 : decode cL_law 1095 = .ok (.i2l, 1) := by decide +kernel
theorem dL_law_1096 : decode cL_law 1096 = .ok (.lcmp, 1) := by decide +kernel
theorem dL_law_1097 : decode cL_law 1097 = .ok (.ifCond .eq 5, 3) := by decide +kernel
theorem dL_law_1100 : decode cL_law 1100 = .ok (.iconst 0, 1) := by decide +kernel
theorem dL_law_1101 : decode cL_law 1101 = .ok (.ireturn, 1) := by decide +kernel
theorem dL_law_1102 : decode cL_law 1102 = .ok (.goto 629, 3) := by decide +kernel
theorem dL_law_1105 : decode cL_law 1105 = .ok (.aload_n 1, 1) := by decide +kernel
theorem dL_law_1106 : decode cL_law 1106 = .ok (.aload_n 0, 1) := by decide +kernel
theorem dL_law_1107 : decode cL_law 1107 = .ok (.iload 5, 2) := by decide +kernel
theorem dL_law_1109 : decode cL_law 1109 = .ok (.iconst 1, 1) := by decide +kernel
theorem dL_law_1110 : decode cL_law 1110 = .ok (.iadd, 1) := by decide +kernel
theorem dL_law_1111 : decode cL_law 1111 = .ok (.iaload, 1) := by decide +kernel
theorem dL_law_1112 : decode cL_law 1112 = .ok (.aload_n 0, 1) := by decide +kernel
theorem dL_law_1113 : decode cL_law 1113 = .ok (.iload 5, 2) := by decide +kernel
theorem dL_law_1115 : decode cL_law 1115 = .ok (.iconst 2, 1) := by decide +kernel
theorem dL_law_1116 : decode cL_law 1116 = .ok (.iadd, 1) := by decide +kernel
theorem dL_law_1117 : decode cL_law 1117 = .ok (.iaload, 1) := by decide +kernel
theorem dL_law_1118 : decode cL_law 1118 = .ok (.aload_n 0, 1) := by decide +kernel
theorem dL_law_1119 : decode cL_law 1119 = .ok (.iload 5, 2) := by decide +kernel
theorem dL_law_1121 : decode cL_law 1121 = .ok (.iconst 3, 1) := by decide +kernel
theorem dL_law_1122 : decode cL_law 1122 = .ok (.iadd, 1) := by decide +kernel
theorem dL_law_1123 : decode cL_law 1123 = .ok (.iaload, 1) := by decide +kernel
theorem dL_law_1124 : decode cL_law 1124 = .ok (.aload_n 0, 1) := by decide +kernel
theorem dL_law_1125 : decode cL_law 1125 = .ok (.iload 5, 2) := by decide +kernel
theorem dL_law_1127 : decode cL_law 1127 = .ok (.iconst 4, 1) := by decide +kernel
theorem dL_law_1128 : decode cL_law 1128 = .ok (.iadd, 1) := by decide +kernel
theorem dL_law_1129 : decode cL_law 1129 = .ok (.iaload, 1) := by decide +kernel
theorem dL_law_1130 : decode cL_law 1130 = .ok (.aload_n 3, 1) := by decide +kernel
theorem dL_law_1131 : decode cL_law 1131 = .ok (.invokestatic 161, 3) := by decide +kernel
theorem dL_law_1134 : decode cL_law 1134 = .ok (.istore 6, 2) := by decide +kernel
theorem dL_law_1136 : decode cL_law 1136 = .ok (.aload_n 2, 1) := by decide +kernel
theorem dL_law_1137 : decode cL_law 1137 = .ok (.aload_n 0, 1) := by decide +kernel
theorem dL_law_1138 : decode cL_law 1138 = .ok (.iload 5, 2) := by decide +kernel
theorem dL_law_1140 : decode cL_law 1140 = .ok (.iconst 1, 1) := by decide +kernel
theorem dL_law_1141 : decode cL_law 1141 = .ok (.iadd, 1) := by decide +kernel
theorem dL_law_1142 : decode cL_law 1142 = .ok (.iaload, 1) := by decide +kernel
theorem dL_law_1143 : decode cL_law 1143 = .ok (.aload_n 0, 1) := by decide +kernel
theorem dL_law_1144 : decode cL_law 1144 = .ok (.iload 5, 2) := by decide +kernel
theorem dL_law_1146 : decode cL_law 1146 = .ok (.iconst 2, 1) := by decide +kernel
theorem dL_law_1147 : decode cL_law 1147 = .ok (.iadd, 1) := by decide +kernel
theorem dL_law_1148 : decode cL_law 1148 = .ok (.iaload, 1) := by decide +kernel
theorem dL_law_1149 : decode cL_law 1149 = .ok (.aload_n 0, 1) := by decide +kernel
theorem dL_law_1150 : decode cL_law 1150 = .ok (.iload 5, 2) := by decide +kernel
theorem dL_law_1152 : decode cL_law 1152 = .ok (.iconst 3, 1) := by decide +kernel
theorem dL_law_1153 : decode cL_law 1153 = .ok (.iadd, 1) := by decide +kernel
theorem dL_law_1154 : decode cL_law 1154 = .ok (.iaload, 1) := by decide +kernel
theorem dL_law_1155 : decode cL_law 1155 = .ok (.aload_n 0, 1) := by decide +kernel
theorem dL_law_1156 : decode cL_law 1156 = .ok (.iload 5, 2) := by decide +kernel
theorem dL_law_1158 : decode cL_law 1158 = .ok (.iconst 4, 1) := by decide +kernel
theorem dL_law_1159 : decode cL_law 1159 = .ok (.iadd, 1) := by decide +kernel
theorem dL_law_1160 : decode cL_law 1160 = .ok (.iaload, 1) := by decide +kernel
theorem dL_law_1161 : decode cL_law 1161 = .ok (.invokevirtual 164, 3) := by decide +kernel
theorem dL_law_1164 : decode cL_law 1164 = .ok (.istore 7, 2) := by decide +kernel
theorem dL_law_1166 : decode cL_law 1166 = .ok (.aload_n 2, 1) := by decide +kernel
theorem dL_law_1167 : decode cL_law 1167 = .ok (.invokevirtual 111, 3) := by decide +kernel
theorem dL_law_1170 : decode cL_law 1170 = .ok (.iload 6, 2) := by decide +kernel
theorem dL_law_1172 : decode cL_law 1172 = .ok (.if_icmp .eq 5, 3) := by decide +kernel
theorem dL_law_1175 : decode cL_law 1175 = .ok (.iconst 0, 1) := by decide +kernel
theorem dL_law_1176 : decode cL_law 1176 = .ok (.ireturn, 1) := by decide +kernel
theorem dL_law_1177 : decode cL_law 1177 = .ok (.iload 6, 2) := by decide +kernel
theorem dL_law_1179 : decode cL_law 1179 = .ok (.ifCond .ne 15, 3) := by decide +kernel
theorem dL_law_1182 : decode cL_law 1182 = .ok (.aload_n 3, 1) := by decide +kernel
theorem dL_law_1183 : decode cL_law 1183 = .ok (.iconst 0, 1) := by decide +kernel
theorem dL_law_1184 : decode cL_law 1184 = .ok (.laload, 1) := by decide +kernel
theorem dL_law_1185 : decode cL_law 1185 = .ok (.iload 7, 2) := by decide +kernel
theorem dL_law_1187 : decode cL_law 1187 = .ok (.i2l, 1) := by decide +kernel
theorem dL_law_1188 : decode cL_law 1188 = .ok (.lcmp, 1) := by decide +kernel
theorem dL_law_1189 : decode cL_law 1189 = .ok (.ifCond .eq 5, 3) := by decide +kernel
theorem dL_law_1192 : decode cL_law 1192 = .ok (.iconst 0, 1) := by decide +kernel
theorem dL_law_1193 : decode cL_law 1193 = .ok (.ireturn, 1) := by decide +kernel
theorem dL_law_1194 : decode cL_law 1194 = .ok (.goto 537, 3) := by decide +kernel
theorem dL_law_1197 : decode cL_law 1197 = .ok (.aload_n 1, 1) := by decide +kernel
theorem dL_law_1198 : decode cL_law 1198 = .ok (.aload_n 0, 1) := by decide +kernel
theorem dL_law_1199 : decode cL_law 1199 = .ok (.iload 5, 2) := by decide +kernel
theorem dL_law_1201 : decode cL_law 1201 = .ok (.iconst 1, 1) := by decide +kernel
theorem dL_law_1202 : decode cL_law 1202 = .ok (.iadd, 1) := by decide +kernel
theorem dL_law_1203 : decode cL_law 1203 = .ok (.iaload, 1) := by decide +kernel
theorem dL_law_1204 : decode cL_law 1204 = .ok (.aload_n 3, 1) := by decide +kernel
theorem dL_law_1205 : decode cL_law 1205 = .ok (.invokestatic 165, 3) := by decide +kernel
theorem dL_law_1208 : decode cL_law 1208 = .ok (.istore 6, 2) := by decide +kernel
theorem dL_law_1210 : decode cL_law 1210 = .ok (.aload_n 2, 1) := by decide +kernel
theorem dL_law_1211 : decode cL_law 1211 = .ok (.aload_n 0, 1) := by decide +kernel
theorem dL_law_1212 : decode cL_law 1212 = .ok (.iload 5, 2) := by decide +kernel
theorem dL_law_1214 : decode cL_law 1214 = .ok (.iconst 1, 1) := by decide +kernel
theorem dL_law_1215 : decode cL_law 1215 = .ok (.iadd, 1) := by decide +kernel
theorem dL_law_1216 : decode cL_law 1216 = .ok (.iaload, 1) := by decide +kernel
theorem dL_law_1217 : decode cL_law 1217 = .ok (.invokevirtual 167, 3) := by decide +kernel
theorem dL_law_1220 : decode cL_law 1220 = .ok (.istore 7, 2) := by decide +kernel
theorem dL_law_1222 : decode cL_law 1222 = .ok (.aload_n 2, 1) := by decide +kernel
theorem dL_law_1223 : decode cL_law 1223 = .ok (.invokevirtual 111, 3) := by decide +kernel
theorem dL_law_1226 : decode cL_law 1226 = .ok (.iload 6, 2) := by decide +kernel
theorem dL_law_1228 : decode cL_law 1228 = .ok (.if_icmp .eq 5, 3) := by decide +kernel
theorem dL_law_1231 : decode cL_law 1231 = .ok (.iconst 0, 1) := by decide +kernel
theorem dL_law_1232 : decode cL_law 1232 = .ok (.ireturn, 1) := by decide +kernel
theorem dL_law_1233 : decode cL_law 1233 = .ok (.iload 6, 2) := by decide +kernel
theorem dL_law_1235 : decode cL_law 1235 = .ok (.ifCond .ne 15, 3) := by decide +kernel
theorem dL_law_1238 : decode cL_law 1238 = .ok (.aload_n 3, 1) := by decide +kernel
theorem dL_law_1239 : decode cL_law 1239 = .ok (.iconst 0, 1) := by decide +kernel
theorem dL_law_1240 : decode cL_law 1240 = .ok (.laload, 1) := by decide +kernel
theorem dL_law_1241 : decode cL_law 1241 = .ok (.iload 7, 2) := by decide +kernel
theorem dL_law_1243 : decode cL_law 1243 = .ok (.i2l, 1) := by decide +kernel
theorem dL_law_1244 : decode cL_law 1244 = .ok (.lcmp, 1) := by decide +kernel
theorem dL_law_1245 : decode cL_law 1245 = .ok (.ifCond .eq 5, 3) := by decide +kernel
theorem dL_law_1248 : decode cL_law 1248 = .ok (.iconst 0, 1) := by decide +kernel
theorem dL_law_1249 : decode cL_law 1249 = .ok (.ireturn, 1) := by decide +kernel
theorem dL_law_1250 : decode cL_law 1250 = .ok (.goto 481, 3) := by decide +kernel
theorem dL_law_1253 : decode cL_law 1253 = .ok (.aload_n 1, 1) := by decide +kernel
theorem dL_law_1254 : decode cL_law 1254 = .ok (.aload_n 0, 1) := by decide +kernel
theorem dL_law_1255 : decode cL_law 1255 = .ok (.iload 5, 2) := by decide +kernel
theorem dL_law_1257 : decode cL_law 1257 = .ok (.iconst 1, 1) := by decide +kernel
theorem dL_law_1258 : decode cL_law 1258 = .ok (.iadd, 1) := by decide +kernel
theorem dL_law_1259 : decode cL_law 1259 = .ok (.iaload, 1) := by decide +kernel
theorem dL_law_1260 : decode cL_law 1260 = .ok (.aload_n 3, 1) := by decide +kernel
theorem dL_law_1261 : decode cL_law 1261 = .ok (.invokestatic 168, 3) := by decide +kernel
theorem dL_law_1264 : decode cL_law 1264 = .ok (.istore 6, 2) := by decide +kernel
theorem dL_law_1266 : decode cL_law 1266 = .ok (.aload_n 2, 1) := by decide +kernel
theorem dL_law_1267 : decode cL_law 1267 = .ok (.aload_n 0, 1) := by decide +kernel
theorem dL_law_1268 : decode cL_law 1268 = .ok (.iload 5, 2) := by decide +kernel
theorem dL_law_1270 : decode cL_law 1270 = .ok (.iconst 1, 1) := by decide +kernel
theorem dL_law_1271 : decode cL_law 1271 = .ok (.iadd, 1) := by decide +kernel
theorem dL_law_1272 : decode cL_law 1272 = .ok (.iaload, 1) := by decide +kernel
theorem dL_law_1273 : decode cL_law 1273 = .ok (.invokevirtual 170, 3) := by decide +kernel
theorem dL_law_1276 : decode cL_law 1276 = .ok (.istore 7, 2) := by decide +kernel
theorem dL_law_1278 : decode cL_law 1278 = .ok (.aload_n 2, 1) := by decide +kernel
theorem dL_law_1279 : decode cL_law 1279 = .ok (.invokevirtual 111, 3) := by decide +kernel
theorem dL_law_1282 : decode cL_law 1282 = .ok (.iload 6, 2) := by decide +kernel
theorem dL_law_1284 : decode cL_law 1284 = .ok (.if_icmp .eq 5, 3) := by decide +kernel
theorem dL_law_1287 : decode cL_law 1287 = .ok (.iconst 0, 1) := by decide +kernel
theorem dL_law_1288 : decode cL_law 1288 = .ok (.ireturn, 1) := by decide +kernel
theorem dL_law_1289 : decode cL_law 1289 = .ok (.iload 6, 2) := by decide +kernel
theorem dL_law_1291 : decode cL_law 1291 = .ok (.ifCond .ne 15, 3) := by decide +kernel
theorem dL_law_1294 : decode cL_law 1294 = .ok (.aload_n 3, 1) := by decide +kernel
theorem dL_law_1295 : decode cL_law 1295 = .ok (.iconst 0, 1) := by decide +kernel
theorem dL_law_1296 : decode cL_law 1296 = .ok (.laload, 1) := by decide +kernel
theorem dL_law_1297 : decode cL_law 1297 = .ok (.iload 7, 2) := by decide +kernel
theorem dL_law_1299 : decode cL_law 1299 = .ok (.i2l, 1) := by decide +kernel
theorem dL_law_1300 : decode cL_law 1300 = .ok (.lcmp, 1) := by decide +kernel
theorem dL_law_1301 : decode cL_law 1301 = .ok (.ifCond .eq 5, 3) := by decide +kernel
theorem dL_law_1304 : decode cL_law 1304 = .ok (.iconst 0, 1) := by decide +kernel
theorem dL_law_1305 : decode cL_law 1305 = .ok (.ireturn, 1) := by decide +kernel
theorem dL_law_1306 : decode cL_law 1306 = .ok (.goto 425, 3) := by decide +kernel
theorem dL_law_1309 : decode cL_law 1309 = .ok (.aload_n 1, 1) := by decide +kernel
theorem dL_law_1310 : decode cL_law 1310 = .ok (.aload_n 0, 1) := by decide +kernel
theorem dL_law_1311 : decode cL_law 1311 = .ok (.iload 5, 2) := by decide +kernel
theorem dL_law_1313 : decode cL_law 1313 = .ok (.iconst 1, 1) := by decide +kernel
theorem dL_law_1314 : decode cL_law 1314 = .ok (.iadd, 1) := by decide +kernel
theorem dL_law_1315 : decode cL_law 1315 = .ok (.iaload, 1) := by decide +kernel
theorem dL_law_1316 : decode cL_law 1316 = .ok (.aload_n 3, 1) := by decide +kernel
theorem dL_law_1317 : decode cL_law 1317 = .ok (.invokestatic 171, 3) := by decide +kernel
theorem dL_law_1320 : decode cL_law 1320 = .ok (.istore 6, 2) := by decide +kernel
theorem dL_law_1322 : decode cL_law 1322 = .ok (.aload_n 2, 1) := by decide +kernel
theorem dL_law_1323 : decode cL_law 1323 = .ok (.aload_n 0, 1) := by decide +kernel
theorem dL_law_1324 : decode cL_law 1324 = .ok (.iload 5, 2) := by decide +kernel
theorem dL_law_1326 : decode cL_law 1326 = .ok (.iconst 1, 1) := by decide +kernel
theorem dL_law_1327 : decode cL_law 1327 = .ok (.iadd, 1) := by decide +kernel
theorem dL_law_1328 : decode cL_law 1328 = .ok (.iaload, 1) := by decide +kernel
theorem dL_law_1329 : decode cL_law 1329 = .ok (.invokevirtual 173, 3) := by decide +kernel
theorem dL_law_1332 : decode cL_law 1332 = .ok (.istore 7, 2) := by decide +kernel
theorem dL_law_1334 : decode cL_law 1334 = .ok (.aload_n 2, 1) := by decide +kernel
theorem dL_law_1335 : decode cL_law 1335 = .ok (.invokevirtual 111, 3) := by decide +kernel
theorem dL_law_1338 : decode cL_law 1338 = .ok (.iload 6, 2) := by decide +kernel
theorem dL_law_1340 : decode cL_law 1340 = .ok (.if_icmp .eq 5, 3) := by decide +kernel
theorem dL_law_1343 : decode cL_law 1343 = .ok (.iconst 0, 1) := by decide +kernel
theorem dL_law_1344 : decode cL_law 1344 = .ok (.ireturn, 1) := by decide +kernel
theorem dL_law_1345 : decode cL_law 1345 = .ok (.iload 6, 2) := by decide +kernel
theorem dL_law_1347 : decode cL_law 1347 = .ok (.ifCond .ne 15, 3) := by decide +kernel
theorem dL_law_1350 : decode cL_law 1350 = .ok (.aload_n 3, 1) := by decide +kernel
theorem dL_law_1351 : decode cL_law 1351 = .ok (.iconst 0, 1) := by decide +kernel
theorem dL_law_1352 : decode cL_law 1352 = .ok (.laload, 1) := by decide +kernel
theorem dL_law_1353 : decode cL_law 1353 = .ok (.iload 7, 2) := by decide +kernel
theorem dL_law_1355 : decode cL_law 1355 = .ok (.i2l, 1) := by decide +kernel
theorem dL_law_1356 : decode cL_law 1356 = .ok (.lcmp, 1) := by decide +kernel
theorem dL_law_1357 : decode cL_law 1357 = .ok (.ifCond .eq 5, 3) := by decide +kernel
theorem dL_law_1360 : decode cL_law 1360 = .ok (.iconst 0, 1) := by decide +kernel
theorem dL_law_1361 : decode cL_law 1361 = .ok (.ireturn, 1) := by decide +kernel
theorem dL_law_1362 : decode cL_law 1362 = .ok (.goto 369, 3) := by decide +kernel
theorem dL_law_1365 : decode cL_law 1365 = .ok (.aload_n 1, 1) := by decide +kernel
theorem dL_law_1366 : decode cL_law 1366 = .ok (.aload_n 0, 1) := by decide +kernel
theorem dL_law_1367 : decode cL_law 1367 = .ok (.iload 5, 2) := by decide +kernel
theorem dL_law_1369 : decode cL_law 1369 = .ok (.iconst 1, 1) := by decide +kernel
theorem dL_law_1370 : decode cL_law 1370 = .ok (.iadd, 1) := by decide +kernel
theorem dL_law_1371 : decode cL_law 1371 = .ok (.iaload, 1) := by decide +kernel
theorem dL_law_1372 : decode cL_law 1372 = .ok (.aload_n 3, 1) := by decide +kernel
theorem dL_law_1373 : decode cL_law 1373 = .ok (.invokestatic 174, 3) := by decide +kernel
theorem dL_law_1376 : decode cL_law 1376 = .ok (.istore 6, 2) := by decide +kernel
theorem dL_law_1378 : decode cL_law 1378 = .ok (.aload_n 2, 1) := by decide +kernel
theorem dL_law_1379 : decode cL_law 1379 = .ok (.aload_n 0, 1) := by decide +kernel
theorem dL_law_1380 : decode cL_law 1380 = .ok (.iload 5, 2) := by decide +kernel
theorem dL_law_1382 : decode cL_law 1382 = .ok (.iconst 1, 1) := by decide +kernel
theorem dL_law_1383 : decode cL_law 1383 = .ok (.iadd, 1) := by decide +kernel
theorem dL_law_1384 : decode cL_law 1384 = .ok (.iaload, 1) := by decide +kernel
theorem dL_law_1385 : decode cL_law 1385 = .ok (.invokevirtual 176, 3) := by decide +kernel
theorem dL_law_1388 : decode cL_law 1388 = .ok (.lstore 7, 2) := by decide +kernel
theorem dL_law_1390 : decode cL_law 1390 = .ok (.aload_n 2, 1) := by decide +kernel
theorem dL_law_1391 : decode cL_law 1391 = .ok (.invokevirtual 111, 3) := by decide +kernel
theorem dL_law_1394 : decode cL_law 1394 = .ok (.iload 6, 2) := by decide +kernel
theorem dL_law_1396 : decode cL_law 1396 = .ok (.if_icmp .eq 5, 3) := by decide +kernel
theorem dL_law_1399 : decode cL_law 1399 = .ok (.iconst 0, 1) := by decide +kernel
theorem dL_law_1400 : decode cL_law 1400 = .ok (.ireturn, 1) := by decide +kernel
theorem dL_law_1401 : decode cL_law 1401 = .ok (.iload 6, 2) := by decide +kernel
theorem dL_law_1403 : decode cL_law 1403 = .ok (.ifCond .ne 14, 3) := by decide +kernel
theorem dL_law_1406 : decode cL_law 1406 = .ok (.aload_n 3, 1) := by decide +kernel
theorem dL_law_1407 : decode cL_law 1407 = .ok (.iconst 0, 1) := by decide +kernel
theorem dL_law_1408 : decode cL_law 1408 = .ok (.laload, 1) := by decide +kernel
theorem dL_law_1409 : decode cL_law 1409 = .ok (.lload 7, 2) := by decide +kernel
theorem dL_law_1411 : decode cL_law 1411 = .ok (.lcmp, 1) := by decide +kernel
theorem dL_law_1412 : decode cL_law 1412 = .ok (.ifCond .eq 5, 3) := by decide +kernel
theorem dL_law_1415 : decode cL_law 1415 = .ok (.iconst 0, 1) := by decide +kernel
theorem dL_law_1416 : decode cL_law 1416 = .ok (.ireturn, 1) := by decide +kernel
theorem dL_law_1417 : decode cL_law 1417 = .ok (.goto 314, 3) := by decide +kernel
theorem dL_law_1420 : decode cL_law 1420 = .ok (.aload_n 1, 1) := by decide +kernel
theorem dL_law_1421 : decode cL_law 1421 = .ok (.aload_n 0, 1) := by decide +kernel
theorem dL_law_1422 : decode cL_law 1422 = .ok (.iload 5, 2) := by decide +kernel
theorem dL_law_1424 : decode cL_law 1424 = .ok (.iconst 1, 1) := by decide +kernel
theorem dL_law_1425 : decode cL_law 1425 = .ok (.iadd, 1) := by decide +kernel
theorem dL_law_1426 : decode cL_law 1426 = .ok (.iaload, 1) := by decide +kernel
theorem dL_law_1427 : decode cL_law 1427 = .ok (.aload_n 3, 1) := by decide +kernel
theorem dL_law_1428 : decode cL_law 1428 = .ok (.invokestatic 177, 3) := by decide +kernel
theorem dL_law_1431 : decode cL_law 1431 = .ok (.istore 6, 2) := by decide +kernel
theorem dL_law_1433 : decode cL_law 1433 = .ok (.aload_n 2, 1) := by decide +kernel
theorem dL_law_1434 : decode cL_law 1434 = .ok (.aload_n 0, 1) := by decide +kernel
theorem dL_law_1435 : decode cL_law 1435 = .ok (.iload 5, 2) := by decide +kernel
theorem dL_law_1437 : decode cL_law 1437 = .ok (.iconst 1, 1) := by decide +kernel
theorem dL_law_1438 : decode cL_law 1438 = .ok (.iadd, 1) := by decide +kernel
theorem dL_law_1439 : decode cL_law 1439 = .ok (.iaload, 1) := by decide +kernel
theorem dL_law_1440 : decode cL_law 1440 = .ok (.invokevirtual 179, 3) := by decide +kernel
theorem dL_law_1443 : decode cL_law 1443 = .ok (.lstore 7, 2) := by decide +kernel
theorem dL_law_1445 : decode cL_law 1445 = .ok (.aload_n 2, 1) := by decide +kernel
theorem dL_law_1446 : decode cL_law 1446 = .ok (.invokevirtual 111, 3) := by decide +kernel
theorem dL_law_1449 : decode cL_law 1449 = .ok (.iload 6, 2) := by decide +kernel
theorem dL_law_1451 : decode cL_law 1451 = .ok (.if_icmp .eq 5, 3) := by decide +kernel
theorem dL_law_1454 : decode cL_law 1454 = .ok (.iconst 0, 1) := by decide +kernel
theorem dL_law_1455 : decode cL_law 1455 = .ok (.ireturn, 1) := by decide +kernel
theorem dL_law_1456 : decode cL_law 1456 = .ok (.iload 6, 2) := by decide +kernel
theorem dL_law_1458 : decode cL_law 1458 = .ok (.ifCond .ne 14, 3) := by decide +kernel
theorem dL_law_1461 : decode cL_law 1461 = .ok (.aload_n 3, 1) := by decide +kernel
theorem dL_law_1462 : decode cL_law 1462 = .ok (.iconst 0, 1) := by decide +kernel
theorem dL_law_1463 : decode cL_law 1463 = .ok (.laload, 1) := by decide +kernel
theorem dL_law_1464 : decode cL_law 1464 = .ok (.lload 7, 2) := by decide +kernel
theorem dL_law_1466 : decode cL_law 1466 = .ok (.lcmp, 1) := by decide +kernel
theorem dL_law_1467 : decode cL_law 1467 = .ok (.ifCond .eq 5, 3) := by decide +kernel
theorem dL_law_1470 : decode cL_law 1470 = .ok (.iconst 0, 1) := by decide +kernel
theorem dL_law_1471 : decode cL_law 1471 = .ok (.ireturn, 1) := by decide +kernel
theorem dL_law_1472 : decode cL_law 1472 = .ok (.goto 259, 3) := by decide +kernel
theorem dL_law_1475 : decode cL_law 1475 = .ok (.aload_n 1, 1) := by decide +kernel
theorem dL_law_1476 : decode cL_law 1476 = .ok (.aload_n 0, 1) := by decide +kernel
theorem dL_law_1477 : decode cL_law 1477 = .ok (.iload 5, 2) := by decide +kernel
theorem dL_law_1479 : decode cL_law 1479 = .ok (.iconst 1, 1) := by decide +kernel
theorem dL_law_1480 : decode cL_law 1480 = .ok (.iadd, 1) := by decide +kernel
theorem dL_law_1481 : decode cL_law 1481 = .ok (.iaload, 1) := by decide +kernel
theorem dL_law_1482 : decode cL_law 1482 = .ok (.aload_n 3, 1) := by decide +kernel
theorem dL_law_1483 : decode cL_law 1483 = .ok (.invokestatic 180, 3) := by decide +kernel
theorem dL_law_1486 : decode cL_law 1486 = .ok (.istore 6, 2) := by decide +kernel
theorem dL_law_1488 : decode cL_law 1488 = .ok (.aload_n 2, 1) := by decide +kernel
theorem dL_law_1489 : decode cL_law 1489 = .ok (.aload_n 0, 1) := by decide +kernel
theorem dL_law_1490 : decode cL_law 1490 = .ok (.iload 5, 2) := by decide +kernel
theorem dL_law_1492 : decode cL_law 1492 = .ok (.iconst 1, 1) := by decide +kernel
theorem dL_law_1493 : decode cL_law 1493 = .ok (.iadd, 1) := by decide +kernel
theorem dL_law_1494 : decode cL_law 1494 = .ok (.iaload, 1) := by decide +kernel
theorem dL_law_1495 : decode cL_law 1495 = .ok (.invokevirtual 182, 3) := by decide +kernel
theorem dL_law_1498 : decode cL_law 1498 = .ok (.istore 7, 2) := by decide +kernel
theorem dL_law_1500 : decode cL_law 1500 = .ok (.aload_n 2, 1) := by decide +kernel
theorem dL_law_1501 : decode cL_law 1501 = .ok (.invokevirtual 111, 3) := by decide +kernel
theorem dL_law_1504 : decode cL_law 1504 = .ok (.iload 6, 2) := by decide +kernel
theorem dL_law_1506 : decode cL_law 1506 = .ok (.if_icmp .eq 5, 3) := by decide +kernel
theorem dL_law_1509 : decode cL_law 1509 = .ok (.iconst 0, 1) := by decide +kernel
theorem dL_law_1510 : decode cL_law 1510 = .ok (.ireturn, 1) := by decide +kernel
theorem dL_law_1511 : decode cL_law 1511 = .ok (.iload 6, 2) := by decide +kernel
theorem dL_law_1513 : decode cL_law 1513 = .ok (.ifCond .ne 15, 3) := by decide +kernel
theorem dL_law_1516 : decode cL_law 1516 = .ok (.aload_n 3, 1) := by decide +kernel
theorem dL_law_1517 : decode cL_law 1517 = .ok (.iconst 0, 1) := by decide +kernel
theorem dL_law_1518 : decode cL_law 1518 = .ok (.laload, 1) := by decide +kernel
theorem dL_law_1519 : decode cL_law 1519 = .ok (.iload 7, 2) := by decide +kernel
theorem dL_law_1521 : decode cL_law 1521 = .ok (.i2l, 1) := by decide +kernel
theorem dL_law_1522 : decode cL_law 1522 = .ok (.lcmp, 1) := by decide +kernel
theorem dL_law_1523 : decode cL_law 1523 = .ok (.ifCond .eq 5, 3) := by decide +kernel
theorem dL_law_1526 : decode cL_law 1526 = .ok (.iconst 0, 1) := by decide +kernel
theorem dL_law_1527 : decode cL_law 1527 = .ok (.ireturn, 1) := by decide +kernel
theorem dL_law_1528 : decode cL_law 1528 = .ok (.goto 203, 3) := by decide +kernel
theorem dL_law_1531 : decode cL_law 1531 = .ok (.aload_n 1, 1) := by decide +kernel
theorem dL_law_1532 : decode cL_law 1532 = .ok (.aload_n 0, 1) := by decide +kernel
theorem dL_law_1533 : decode cL_law 1533 = .ok (.iload 5, 2) := by decide +kernel
theorem dL_law_1535 : decode cL_law 1535 = .ok (.iconst 1, 1) := by decide +kernel
theorem dL_law_1536 : decode cL_law 1536 = .ok (.iadd, 1) := by decide +kernel
theorem dL_law_1537 : decode cL_law 1537 = .ok (.iaload, 1) := by decide +kernel
theorem dL_law_1538 : decode cL_law 1538 = .ok (.aload_n 3, 1) := by decide +kernel
theorem dL_law_1539 : decode cL_law 1539 = .ok (.invokestatic 183, 3) := by decide +kernel
theorem dL_law_1542 : decode cL_law 1542 = .ok (.istore 6, 2) := by decide +kernel
theorem dL_law_1544 : decode cL_law 1544 = .ok (.aload_n 2, 1) := by decide +kernel
theorem dL_law_1545 : decode cL_law 1545 = .ok (.aload_n 0, 1) := by decide +kernel
theorem dL_law_1546 : decode cL_law 1546 = .ok (.iload 5, 2) := by decide +kernel
theorem dL_law_1548 : decode cL_law 1548 = .ok (.iconst 1, 1) := by decide +kernel
theorem dL_law_1549 : decode cL_law 1549 = .ok (.iadd, 1) := by decide +kernel
theorem dL_law_1550 : decode cL_law 1550 = .ok (.iaload, 1) := by decide +kernel
theorem dL_law_1551 : decode cL_law 1551 = .ok (.invokevirtual 185, 3) := by decide +kernel
theorem dL_law_1554 : decode cL_law 1554 = .ok (.istore 7, 2) := by decide +kernel
theorem dL_law_1556 : decode cL_law 1556 = .ok (.aload_n 2, 1) := by decide +kernel
theorem dL_law_1557 : decode cL_law 1557 = .ok (.invokevirtual 111, 3) := by decide +kernel
theorem dL_law_1560 : decode cL_law 1560 = .ok (.iload 6, 2) := by decide +kernel
theorem dL_law_1562 : decode cL_law 1562 = .ok (.if_icmp .eq 5, 3) := by decide +kernel
theorem dL_law_1565 : decode cL_law 1565 = .ok (.iconst 0, 1) := by decide +kernel
theorem dL_law_1566 : decode cL_law 1566 = .ok (.ireturn, 1) := by decide +kernel
theorem dL_law_1567 : decode cL_law 1567 = .ok (.iload 6, 2) := by decide +kernel
theorem dL_law_1569 : decode cL_law 1569 = .ok (.ifCond .ne 15, 3) := by decide +kernel
theorem dL_law_1572 : decode cL_law 1572 = .ok (.aload_n 3, 1) := by decide +kernel
theorem dL_law_1573 : decode cL_law 1573 = .ok (.iconst 0, 1) := by decide +kernel
theorem dL_law_1574 : decode cL_law 1574 = .ok (.laload, 1) := by decide +kernel
theorem dL_law_1575 : decode cL_law 1575 = .ok (.iload 7, 2) := by decide +kernel
theorem dL_law_1577 : decode cL_law 1577 = .ok (.i2l, 1) := by decide +kernel
theorem dL_law_1578 : decode cL_law 1578 = .ok (.lcmp, 1) := by decide +kernel
theorem dL_law_1579 : decode cL_law 1579 = .ok (.ifCond .eq 5, 3) := by decide +kernel
theorem dL_law_1582 : decode cL_law 1582 = .ok (.iconst 0, 1) := by decide +kernel
theorem dL_law_1583 : decode cL_law 1583 = .ok (.ireturn, 1) := by decide +kernel
theorem dL_law_1584 : decode cL_law 1584 = .ok (.goto 147, 3) := by decide +kernel
theorem dL_law_1587 : decode cL_law 1587 = .ok (.aload_n 1, 1) := by decide +kernel
theorem dL_law_1588 : decode cL_law 1588 = .ok (.invokevirtual 186, 3) := by decide +kernel
theorem dL_law_1591 : decode cL_law 1591 = .ok (.aload_n 2, 1) := by decide +kernel
theorem dL_law_1592 : decode cL_law 1592 = .ok (.invokevirtual 189, 3) := by decide +kernel
theorem dL_law_1595 : decode cL_law 1595 = .ok (.if_icmp .eq 136, 3) := by decide +kernel
theorem dL_law_1598 : decode cL_law 1598 = .ok (.iconst 0, 1) := by decide +kernel
theorem dL_law_1599 : decode cL_law 1599 = .ok (.ireturn, 1) := by decide +kernel
theorem dL_law_1600 : decode cL_law 1600 = .ok (.aload_n 1, 1) := by decide +kernel
theorem dL_law_1601 : decode cL_law 1601 = .ok (.aload 4, 2) := by decide +kernel
theorem dL_law_1603 : decode cL_law 1603 = .ok (.invokestatic 190, 3) := by decide +kernel
theorem dL_law_1606 : decode cL_law 1606 = .ok (.istore 6, 2) := by decide +kernel
theorem dL_law_1608 : decode cL_law 1608 = .ok (.aload_n 2, 1) := by decide +kernel
theorem dL_law_1609 : decode cL_law 1609 = .ok (.invokevirtual 193, 3) := by decide +kernel
theorem dL_law_1612 : decode cL_law 1612 = .ok (.fstore 7, 2) := by decide +kernel
theorem dL_law_1614 : decode cL_law 1614 = .ok (.aload_n 2, 1) := by decide +kernel
theorem dL_law_1615 : decode cL_law 1615 = .ok (.invokevirtual 111, 3) := by decide +kernel
theorem dL_law_1618 : decode cL_law 1618 = .ok (.iload 6, 2) := by decide +kernel
theorem dL_law_1620 : decode cL_law 1620 = .ok (.if_icmp .eq 5, 3) := by decide +kernel
theorem dL_law_1623 : decode cL_law 1623 = .ok (.iconst 0, 1) := by decide +kernel
theorem dL_law_1624 : decode cL_law 1624 = .ok (.ireturn, 1) := by decide +kernel
theorem dL_law_1625 : decode cL_law 1625 = .ok (.iload 6, 2) := by decide +kernel
theorem dL_law_1627 : decode cL_law 1627 = .ok (.ifCond .ne 36, 3) := by decide +kernel
theorem dL_law_1630 : decode cL_law 1630 = .ok (.aload 4, 2) := by decide +kernel
theorem dL_law_1632 : decode cL_law 1632 = .ok (.iconst 0, 1) := by decide +kernel
theorem dL_law_1633 : decode cL_law 1633 = .ok (.daload, 1) := by decide +kernel
theorem dL_law_1634 : decode cL_law 1634 = .ok (.fload 7, 2) := by decide +kernel
theorem dL_law_1636 : decode cL_law 1636 = .ok (.f2d, 1) := by decide +kernel
theorem dL_law_1637 : decode cL_law 1637 = .ok (.dcmp .l, 1) := by decide +kernel
theorem dL_law_1638 : decode cL_law 1638 = .ok (.ifCond .eq 25, 3) := by decide +kernel
theorem dL_law_1641 : decode cL_law 1641 = .ok (.aload 4, 2) := by decide +kernel
theorem dL_law_1643 : decode cL_law 1643 = .ok (.iconst 0, 1) := by decide +kernel
theorem dL_law_1644 : decode cL_law 1644 = .ok (.daload, 1) := by decide +kernel
theorem dL_law_1645 : decode cL_law 1645 = .ok (.aload 4, 2) := by decide +kernel
theorem dL_law_1647 : decode cL_law 1647 = .ok (.iconst 0, 1) := by decide +kernel
theorem dL_law_1648 : decode cL_law 1648 = .ok (.daload, 1) := by decide +kernel
theorem dL_law_1649 : decode cL_law 1649 = .ok (.dcmp .l, 1) := by decide +kernel
theorem dL_law_1650 : decode cL_law 1650 = .ok (.ifCond .eq 11, 3) := by decide +kernel
theorem dL_law_1653 : decode cL_law 1653 = .ok (.fload 7, 2) := by decide +kernel
theorem dL_law_1655 : decode cL_law 1655 = .ok (.fload 7, 2) := by decide +kernel
theorem dL_law_1657 : decode cL_law 1657 = .ok (.fcmp .l, 1) := by decide +kernel
theorem dL_law_1658 : decode cL_law 1658 = .ok (.ifCond .ne 5, 3) := by decide +kernel
theorem dL_law_1661 : decode cL_law 1661 = .ok (.iconst 0, 1) := by decide +kernel
theorem dL_law_1662 : decode cL_law 1662 = .ok (.ireturn, 1) := by decide +kernel
theorem dL_law_1663 : decode cL_law 1663 = .ok (.goto 68, 3) := by decide +kernel
theorem dL_law_1666 : decode cL_law 1666 = .ok (.aload_n 1, 1) := by decide +kernel
theorem dL_law_1667 : decode cL_law 1667 = .ok (.aload 4, 2) := by decide +kernel
theorem dL_law_1669 : decode cL_law 1669 = .ok (.invokestatic 194, 3) := by decide +kernel
theorem dL_law_1672 : decode cL_law 1672 = .ok (.istore 6, 2) := by decide +kernel
theorem dL_law_1674 : decode cL_law 1674 = .ok (.aload_n 2, 1) := by decide +kernel
theorem dL_law_1675 : decode cL_law 1675 = .ok (.invokevirtual 196, 3) := by decide +kernel
theorem dL_law_1678 : decode cL_law 1678 = .ok (.dstore 7, 2) := by decide +kernel
theorem dL_law_1680 : decode cL_law 1680 = .ok (.aload_n 2, 1) := by decide +kernel
theorem dL_law_1681 : decode cL_law 1681 = .ok (.invokevirtual 111, 3) := by decide +kernel
theorem dL_law_1684 : decode cL_law 1684 = .ok (.iload 6, 2) := by decide +kernel
theorem dL_law_1686 : decode cL_law 1686 = .ok (.if_icmp .eq 5, 3) := by decide +kernel
theorem dL_law_1689 : decode cL_law 1689 = .ok (.iconst 0, 1) := by decide +kernel
theorem dL_law_1690 : decode cL_law 1690 = .ok (.ireturn, 1) := by decide +kernel
theorem dL_law_1691 : decode cL_law 1691 = .ok (.iload 6, 2) := by decide +kernel
theorem dL_law_1693 : decode cL_law 1693 = .ok (.ifCond .ne 35, 3) := by decide +kernel
theorem dL_law_1696 : decode cL_law 1696 = .ok (.aload 4, 2) := by decide +kernel
theorem dL_law_1698 : decode cL_law 1698 = .ok (.iconst 0, 1) := by decide +kernel
theorem dL_law_1699 : decode cL_law 1699 = .ok (.daload, 1) := by decide +kernel
theorem dL_law_1700 : decode cL_law 1700 = .ok (.dload 7, 2) := by decide +kernel
theorem dL_law_1702 : decode cL_law 1702 = .ok (.dcmp .l, 1) := by decide +kernel
theorem dL_law_1703 : decode cL_law 1703 = .ok (.ifCond .eq 25, 3) := by decide +kernel
theorem dL_law_1706 : decode cL_law 1706 = .ok (.aload 4, 2) := by decide +kernel
theorem dL_law_1708 : decode cL_law 1708 = .ok (.iconst 0, 1) := by decide +kernel
theorem dL_law_1709 : decode cL_law 1709 = .ok (.daload, 1) := by decide +kernel
theorem dL_law_1710 : decode cL_law 1710 = .ok (.aload 4, 2) := by decide +kernel
theorem dL_law_1712 : decode cL_law 1712 = .ok (.iconst 0, 1) := by decide +kernel
theorem dL_law_1713 : decode cL_law 1713 = .ok (.daload, 1) := by decide +kernel
theorem dL_law_1714 : decode cL_law 1714 = .ok (.dcmp .l, 1) := by decide +kernel
theorem dL_law_1715 : decode cL_law 1715 = .ok (.ifCond .eq 11, 3) := by decide +kernel
theorem dL_law_1718 : decode cL_law 1718 = .ok (.dload 7, 2) := by decide +kernel
theorem dL_law_1720 : decode cL_law 1720 = .ok (.dload 7, 2) := by decide +kernel
theorem dL_law_1722 : decode cL_law 1722 = .ok (.dcmp .l, 1) := by decide +kernel
theorem dL_law_1723 : decode cL_law 1723 = .ok (.ifCond .ne 5, 3) := by decide +kernel
theorem dL_law_1726 : decode cL_law 1726 = .ok (.iconst 0, 1) := by decide +kernel
theorem dL_law_1727 : decode cL_law 1727 = .ok (.ireturn, 1) := by decide +kernel
theorem dL_law_1728 : decode cL_law 1728 = .ok (.goto 3, 3) := by decide +kernel
theorem dL_law_1731 : decode cL_law 1731 = .ok (.iinc 5 6, 3) := by decide +kernel
theorem dL_law_1734 : decode cL_law 1734 = .ok (.goto (-1706), 3) := by decide +kernel
theorem dL_law_1737 : decode cL_law 1737 = .ok (.iconst 1, 1) := by decide +kernel
theorem dL_law_1738 : decode cL_law 1738 = .ok (.ireturn, 1) := by decide +kernel
end
section
/-! abstract cells: an array by its component's type, an object by its place in jcl; a partial heap; what a heap holds -/
abbrev jcl : List vw_C := [(RX0, TX0, 3), (RX1, TX1, 2), (RX2, TX2, 3), (RX3, TX3, 3), (RX4, TX4, 7), (RX5, TX5, 8), (RX6, TX6, 2), (RX7, TX7, 14), (RX8, TX8, 34)]
abbrev AE : Type := (FieldType × vp_A) ⊕ (Nat × List Value)
abbrev AH : Type := Nat → Option AE
def a_at (D : va_G) (U : State) (a : Nat) (e : AE) (H : Heap) : Prop := match e with
  | .inl q => ∃ cA : ClassId, ArrOfT U cA q.1 ∧ va_RA U cA q.1 ∧ H[a]? = some (vp_cell cA q.2)
  | .inr o => ∃ r : vw_C, jcl[o.1]? = some r ∧ t_OB a (D.1 o.1) r.2.2 (D.2 o.1) H (vp_V o.2)
theorem a_at.lt {D : va_G} {U : State} {a : Nat} {e : AE} {H : Heap} (h : a_at D U a e H) : a < H.size := by
  cases e with
  | inl q =>
    obtain ⟨cA, -, -, h3⟩ := h
    exact (Array.getElem?_eq_some_iff.mp h3).1
  | inr o =>
    obtain ⟨r, h1, cell, h2, -⟩ := h
    exact (Array.getElem?_eq_some_iff.mp h2).1
theorem a_at.kept {D : va_G} {U : State} {a : Nat} {e : AE} {H H1 : Heap} (h : a_at D U a e H) (hq : H1[a]? = H[a]?) : a_at D U a e H1 := by
  cases e with
  | inl q =>
    obtain ⟨cA, h1, h2, h3⟩ := h
    exact ⟨cA, h1, h2, hq.trans h3⟩
  | inr o =>
    obtain ⟨r, h1, h2⟩ := h
    exact ⟨r, h1, h2.kept hq⟩
theorem a_at.moved {D : va_G} {u U : State} (hvm : u.vm.Alike U.vm) {a : Nat} {e : AE} {H : Heap} (h : a_at D u a e H) : a_at D U a e H := by
  cases e with
  | inl q =>
    obtain ⟨cA, h1, h2, h3⟩ := h
    exact ⟨cA, arrOfT_moved hvm h1, h2.moved hvm, h3⟩
  | inr o => exact h
def Hold (D : va_G) (A : Nat → Prop) (h : AH) (U : State) (H : Heap) : Prop := ∀ (a : Nat) (e : AE), h a = some e → A a ∧ a_at D U a e H
def hup (h : AH) (a : Nat) (e : AE) : AH := fun x => if x = a then some e else h x
theorem hup_eq {h : AH} {a : Nat} {e : AE} : hup h a e a = some e := if_pos rfl
theorem hup_ne {h : AH} {a x : Nat} {e : AE} (hx : x ≠ a) : hup h a e x = h x := if_neg hx
theorem hup_of {h : AH} {a x : Nat} {e : AE} {e2 : Option AE} (hx : x ≠ a) (h2 : h x = e2) : hup h a e x = e2 := (hup_ne hx).trans h2
theorem Hold.moved {D : va_G} {A : Nat → Prop} {h : AH} {u U : State} {H : Heap} (hvm : u.vm.Alike U.vm) (hH : Hold D A h u H) : Hold D A h U H := fun a e he => ⟨(hH a e he).1, (hH a e he).2.moved hvm⟩
theorem Hold.weaken {D : va_G} {A B : Nat → Prop} {h : AH} {U : State} {H : Heap} (hH : Hold D A h U H) (hAB : ∀ q, A q → B q) : Hold D B h U H := fun a e he => ⟨hAB _ (hH a e he).1, (hH a e he).2⟩
theorem Hold.put {D : va_G} {A : Nat → Prop} {h : AH} {U : State} {H H1 : Heap} {a : Nat} {e0 e : AE} (hH : Hold D A h U H) (h0 : h a = some e0) (he : a_at D U a e H1) (oq : ∀ q : Nat, q ≠ a → H1[q]? = H[q]?) : Hold D A (hup h a e) U H1 := by
  intro x f hf
  by_cases hx : x = a
  · subst hx
    rw [hup_eq] at hf
    cases hf
    exact ⟨(hH x e0 h0).1, he⟩
  · rw [hup_ne hx] at hf
    exact ⟨(hH x f hf).1, (hH x f hf).2.kept (oq x hx)⟩
theorem Hold.push {D : va_G} {A : Nat → Prop} {h : AH} {U : State} {H H1 : Heap} {a : Nat} {e : AE} (hH : Hold D A h U H) (ha : H.size = a) (hA : A a) (he : a_at D U a e H1) (oq : ∀ q : Nat, q < H.size → H1[q]? = H[q]?) : Hold D A (hup h a e) U H1 := by
  intro x f hf
  by_cases hx : x = a
  · subst hx
    rw [hup_eq] at hf
    cases hf
    exact ⟨hA, he⟩
  · rw [hup_ne hx] at hf
    exact ⟨(hH x f hf).1, (hH x f hf).2.kept (oq x ((hH x f hf).2.lt))⟩
theorem Hold.free {D : va_G} {A : Nat → Prop} {h : AH} {U : State} {H : Heap} (hH : Hold D A h U H) {a : Nat} (ha : H.size ≤ a) : h a = none := by
  cases hx : h a with
  | none => rfl
  | some f => exact absurd ((hH a f hx).2.lt) (by omega)
/-! the tables' words at any later state -/
def tbOK (w : Cond) : Bool := goodWord w || (match w with | .castable _ _ => true | .declares _ => true | .arrayOver (.object _) => true | _ => false)
def Tb (U : State) : Prop := ∀ w, w ∈ lw_tbl → tbOK w = true → ∀ av : Array Value, w.before av U = true
theorem Tb.warm {s U : State} (hW : s.WarmedH U.vm) (h : Tb s) : Tb U := by
  intro w hw hok av
  by_cases g : goodWord w = true
  · exact word_at hW (good_of_word g) (h w hw hok #[])
  · have hok2 := hok
    unfold tbOK at hok2
    rw [show goodWord w = false by simpa using g, Bool.false_or] at hok2
    split at hok2
    · exact va_Nw.use rfl (va_Nw.warmC hW (h _ hw hok #[]))
    · exact va_Nw.use rfl (va_Nw.warmD hW (h _ hw hok #[]))
    · exact va_AO.use (va_AO.moved hW.alike (va_AO.of (h _ hw hok #[])))
    · cases hok2
theorem Tb.get {U : State} (h : Tb U) (i : Nat) {w : Cond} {av : Array Value} (hi : lw_tbl[i]? = some w) (hok : tbOK w = true) : w.before av U = true := h w (List.mem_of_getElem? hi) hok av
def Ts (U : State) : Prop := ∀ (own : String) (k : Nat) (tx : String), Cond.stringRef own k tx ∈ lw_tbl → ∃ a : Nat, vk_R own k tx a U
theorem Ts.warm {s U : State} (hW : s.WarmedH U.vm) (h : Ts s) : Ts U := fun own k tx hm => by
  obtain ⟨a, ha⟩ := h own k tx hm
  exact ⟨a, ha.warm hW⟩
/-- the exceptions' classes that aren't castable to one another -/
def ncs : List (String × String) := [("java/lang/IllegalArgumentException", "java/lang/IndexOutOfBoundsException"), ("java/lang/IllegalStateException", "java/lang/IndexOutOfBoundsException"), ("java/lang/IllegalStateException", "java/lang/IllegalArgumentException"), ("java/util/NoSuchElementException", "java/lang/IndexOutOfBoundsException"), ("java/lang/UnsupportedOperationException", "java/lang/IndexOutOfBoundsException"), ("java/lang/IllegalStateException", "java/lang/UnsupportedOperationException")]
def Tn (U : State) : Prop := ∀ q ∈ ncs, va_Nc q.1 q.2 U
theorem Tn.moved {s U : State} (hvm : s.vm.Alike U.vm) (h : Tn s) : Tn U := fun q hq => (h q hq).moved hvm
abbrev jZU (A : Nat → Prop) (U : State) (H : Heap) : Prop := vx_Zq Bundle.tN "UNASSIGNED_STACK" Bundle.steD A U H
abbrev jZN (A : Nat → Prop) (U : State) (H : Heap) : Prop := vx_Zq Bundle.tN "SUPPRESSED_SENTINEL" Bundle.listD A U H
/-- what every method's start says of its machine -/
def Wd (D : va_G) (A : Nat → Prop) (U : State) : Prop := va_K D jcl [] U ∧ Tb U ∧ Ts U ∧ Tn U ∧ jZU A U U.heap ∧ jZN A U U.heap
/-- the same, of a later state: the words warmed, the statics kept -/
theorem Wd.later {D : va_G} {A B : Nat → Prop} {s U : State} (hW : s.WarmedH U.vm) (h : Wd D A s) (hk : ∀ a : Nat, a < s.heap.size → ¬ A a → U.heap[a]? = s.heap[a]?) (hBA : ∀ q, B q → A q) : Wd D B U := by
  obtain ⟨h1, h2, h3, h4, h5, h6⟩ := h
  exact ⟨h1.moved hW.alike, h2.warm hW, h3.warm hW, h4.moved hW.alike, ((h5.moved hW.alike).kept hk).narrow hBA, ((h6.moved hW.alike).kept hk).narrow hBA⟩
/-- the same at the start of a called method -/
theorem Wd.calling {D : va_G} {A : Nat → Prop} {U : State} (h : Wd D A U) (g : JFrame) (mk : MethodId) (a : Array Value) : Wd D A (U.calling g mk a) := by
  refine Wd.later (State.WarmedH.refl U) h (fun _ _ _ => rfl) (fun _ h => h)
/-! the static context of a method's body -/
def Cx (p : Program) (l : Launch) (s : State) (m : MethodId) (args : Array Value) (meth : Method) (c : Code) (cc : ByteArray) (nL : Nat) (own : String) (D : va_G) (A : Nat → Prop) : Prop :=
  p.tables.exec = Jvm.exec ∧ c.code = cc ∧ c.maxLocals = nL ∧ s.vm.findClass own = some m.cls ∧ meth.locks = false ∧ l.stackTraces = false ∧ Wd D A s ∧ (∀ q, s.heap.size ≤ q → A q)
section CX
variable {p : Program} {l : Launch} {s : State} {m : MethodId} {args : Array Value} {meth : Method} {c : Code} {cc : ByteArray} {nL : Nat} {own : String} {D : va_G} {A : Nat → Prop}
theorem Cx.x (E : Cx p l s m args meth c cc nL own D A) : p.tables.exec = Jvm.exec := E.1
theorem Cx.b (E : Cx p l s m args meth c cc nL own D A) : c.code = cc := E.2.1
theorem Cx.ml (E : Cx p l s m args meth c cc nL own D A) : c.maxLocals = nL := E.2.2.1
theorem Cx.ow (E : Cx p l s m args meth c cc nL own D A) : s.vm.findClass own = some m.cls := E.2.2.2.1
theorem Cx.locks (E : Cx p l s m args meth c cc nL own D A) : meth.locks = false := E.2.2.2.2.1
theorem Cx.tr (E : Cx p l s m args meth c cc nL own D A) : l.stackTraces = false := E.2.2.2.2.2.1
theorem Cx.wd (E : Cx p l s m args meth c cc nL own D A) : Wd D A s := E.2.2.2.2.2.2.1
theorem Cx.hA (E : Cx p l s m args meth c cc nL own D A) : ∀ q, s.heap.size ≤ q → A q := E.2.2.2.2.2.2.2
theorem Cx.K (E : Cx p l s m args meth c cc nL own D A) : va_K D jcl [] s := E.wd.1
theorem Cx.tb (E : Cx p l s m args meth c cc nL own D A) : Tb s := E.wd.2.1
theorem Cx.ts (E : Cx p l s m args meth c cc nL own D A) : Ts s := E.wd.2.2.1
theorem Cx.tn (E : Cx p l s m args meth c cc nL own D A) : Tn s := E.wd.2.2.2.1
end CX
/-! locals as a list by their numbers -/
def lget : List (Nat × Value) → Nat → Option Value
  | [], _ => none
  | q :: t, i => if q.1 = i then some q.2 else lget t i
theorem lget_mem : ∀ (lo : List (Nat × Value)) {i : Nat} {v : Value}, lget lo i = some v → (i, v) ∈ lo
  | [], i, v, h => by cases h
  | q :: t, i, v, h => by
    unfold lget at h
    by_cases hq : q.1 = i
    · rw [if_pos hq] at h
      cases h
      subst hq
      exact List.mem_cons_self
    · rw [if_neg hq] at h
      exact List.mem_cons_of_mem _ (lget_mem t h)
theorem lv_get {ls : Array Slot} {nL : Nat} {lo : List (Nat × Value)} (h : lv_has ls nL lo) {i : Nat} {v : Value} (hk : lget lo i = some v) : ls[i]? = some (.val v) := h.2.2 (i, v) (lget_mem lo hk)
def lsub (lo : List (Nat × Value)) : List (Nat × Value) → Prop
  | [] => True
  | q :: t => lget lo q.1 = some q.2 ∧ lsub lo t
theorem lsub_mem {lo : List (Nat × Value)} : ∀ {lo' : List (Nat × Value)}, lsub lo lo' → ∀ q ∈ lo', lget lo q.1 = some q.2
  | [], _, q, hq => by cases hq
  | r :: t, h, q, hq => by
    rcases List.mem_cons.mp hq with rfl | hq
    · exact h.1
    · exact lsub_mem h.2 q hq
theorem lo_sub {ls : Array Slot} {nL : Nat} {lo lo' : List (Nat × Value)} (h : lv_has ls nL lo) (hs : lsub lo lo') : lv_has ls nL lo' := ⟨h.1, h.2.1, fun q hq => lv_get h (lsub_mem hs q hq)⟩
abbrev lput1 (lo : List (Nat × Value)) (i : Nat) (v : Value) : List (Nat × Value) := (i, v) :: lo.filter (fun q => !(q.1 == i) && !(q.1 + 1 == i && q.2.category == 2))
abbrev lput2 (lo : List (Nat × Value)) (i : Nat) (v : Value) : List (Nat × Value) := (i, v) :: lo.filter (fun q => !(q.1 == i) && (!(q.1 == i + 1) && !(q.1 + 1 == i && q.2.category == 2)))
end
section
/-! the judgement of a body's walk over an abstract heap, and a row an instruction -/
def J (p : Program) (l : Launch) (e : Env) (R : Room) (s : State) (m : MethodId) (args : Array Value) (below : List Frame) (meth : Method) (c : Code) (D : va_G) (A : Nat → Prop) (nL : Nat) (Q : State → Prop) (cells slots : Nat) (h : AH) (pc : Nat) (lo : List (Nat × Value)) (st : List Value) : Prop :=
  ∀ (H : Heap) (locs : List Loc) (ls : Array Slot), Hold D A h s H → va_S A s.heap H locs → lv_has ls nL lo → W p l e R s m args below meth c H locs cells slots Q (F0 m pc ls st)
section JR
variable {p : Program} {l : Launch} {e : Env} {R : Room} {s : State} {m : MethodId} {args : Array Value} {below : List Frame} {meth : Method} {c : Code} {cc : ByteArray} {nL : Nat} {own : String} {D : va_G} {A : Nat → Prop} {Q : State → Prop} {cells slots : Nat} {h : AH} {pc : Nat} {lo : List (Nat × Value)} {st : List Value}
theorem J.sub {lo' : List (Nat × Value)} (hs : lsub lo lo') (k : J p l e R s m args below meth c D A nL Q cells slots h pc lo' st) : J p l e R s m args below meth c D A nL Q cells slots h pc lo st :=
  fun H locs ls hH hS hl => k H locs ls hH hS (lo_sub hl hs)
theorem J.wide {k n : Nat} (h1 : cells ≤ k) (h2 : slots ≤ n) (kk : J p l e R s m args below meth c D A nL Q k n h pc lo st) : J p l e R s m args below meth c D A nL Q cells slots h pc lo st :=
  fun H locs ls hH hS hl => W.widen h1 h2 (kk H locs ls hH hS hl)
theorem J.heap {h' : AH} (hh : ∀ a e, h' a = some e → h a = some e) (k : J p l e R s m args below meth c D A nL Q cells slots h' pc lo st) : J p l e R s m args below meth c D A nL Q cells slots h pc lo st :=
  fun H locs ls hH hS hl => k H locs ls (fun a e he => hH a e (hh a e he)) hS hl
theorem J.stk {st' : List Value} (hh : st = st') (k : J p l e R s m args below meth c D A nL Q cells slots h pc lo st') : J p l e R s m args below meth c D A nL Q cells slots h pc lo st := hh ▸ k
theorem j_iconst (E : Cx p l s m args meth c cc nL own D A) {n : Int} {v : Int32} (d : decode cc pc = .ok (.iconst n, 1)) (hv : Int32.ofInt n = v)
    (k : J p l e R s m args below meth c D A nL Q cells slots h (pc + 1) lo (.int v :: st)) : J p l e R s m args below meth c D A nL Q cells slots h pc lo st :=
  fun H locs ls hH hS hl => lv_iconst E.x E.b d hv (k H locs ls hH hS hl)
theorem j_bipush (E : Cx p l s m args meth c cc nL own D A) {n : Int} {v : Int32} (d : decode cc pc = .ok (.bipush n, 2)) (hv : (Int8.ofInt n).toInt32 = v)
    (k : J p l e R s m args below meth c D A nL Q cells slots h (pc + 2) lo (.int v :: st)) : J p l e R s m args below meth c D A nL Q cells slots h pc lo st :=
  fun H locs ls hH hS hl => lv_bipush E.x E.b d hv (k H locs ls hH hS hl)
theorem j_sipush (E : Cx p l s m args meth c cc nL own D A) {n : Int} {v : Int32} (d : decode cc pc = .ok (.sipush n, 3)) (hv : (Int16.ofInt n).toInt32 = v)
    (k : J p l e R s m args below meth c D A nL Q cells slots h (pc + 3) lo (.int v :: st)) : J p l e R s m args below meth c D A nL Q cells slots h pc lo st :=
  fun H locs ls hH hS hl => lv_sipush E.x E.b d hv (k H locs ls hH hS hl)
theorem j_lconst (E : Cx p l s m args meth c cc nL own D A) {n : Fin 2} {v : Int64} (d : decode cc pc = .ok (.lconst n, 1)) (hv : Int64.ofNat (n : Nat) = v)
    (k : J p l e R s m args below meth c D A nL Q cells slots h (pc + 1) lo (.long v :: st)) : J p l e R s m args below meth c D A nL Q cells slots h pc lo st :=
  fun H locs ls hH hS hl => lv_lconst E.x E.b d hv (k H locs ls hH hS hl)
theorem j_null (E : Cx p l s m args meth c cc nL own D A)  (d : decode cc pc = .ok (.aconst_null, 1))
    (k : J p l e R s m args below meth c D A nL Q cells slots h (pc + 1) lo (.null :: st)) : J p l e R s m args below meth c D A nL Q cells slots h pc lo st :=
  fun H locs ls hH hS hl => lv_null E.x E.b d (k H locs ls hH hS hl)
theorem j_iload_n (E : Cx p l s m args meth c cc nL own D A) {i : Fin 4} {x : Int32} (d : decode cc pc = .ok (.iload_n i, 1)) (hg : lget lo i.val = some (.int x))
    (k : J p l e R s m args below meth c D A nL Q cells slots h (pc + 1) lo (.int x :: st)) : J p l e R s m args below meth c D A nL Q cells slots h pc lo st :=
  fun H locs ls hH hS hl => lv_iload_n E.x E.b d rfl (lv_get hl hg) (k H locs ls hH hS hl)
theorem j_iload (E : Cx p l s m args meth c cc nL own D A) {i : Nat} {x : Int32} (d : decode cc pc = .ok (.iload i, 2)) (hg : lget lo i = some (.int x))
    (k : J p l e R s m args below meth c D A nL Q cells slots h (pc + 2) lo (.int x :: st)) : J p l e R s m args below meth c D A nL Q cells slots h pc lo st :=
  fun H locs ls hH hS hl => lv_iload E.x E.b d (lv_get hl hg) (k H locs ls hH hS hl)
theorem j_lload_n (E : Cx p l s m args meth c cc nL own D A) {i : Fin 4} {x : Int64} (d : decode cc pc = .ok (.lload_n i, 1)) (hg : lget lo i.val = some (.long x))
    (k : J p l e R s m args below meth c D A nL Q cells slots h (pc + 1) lo (.long x :: st)) : J p l e R s m args below meth c D A nL Q cells slots h pc lo st :=
  fun H locs ls hH hS hl => lv_lload_n E.x E.b d rfl (lv_get hl hg) (k H locs ls hH hS hl)
theorem j_lload (E : Cx p l s m args meth c cc nL own D A) {i : Nat} {x : Int64} (d : decode cc pc = .ok (.lload i, 2)) (hg : lget lo i = some (.long x))
    (k : J p l e R s m args below meth c D A nL Q cells slots h (pc + 2) lo (.long x :: st)) : J p l e R s m args below meth c D A nL Q cells slots h pc lo st :=
  fun H locs ls hH hS hl => lv_lload E.x E.b d (lv_get hl hg) (k H locs ls hH hS hl)
theorem j_fload_n (E : Cx p l s m args meth c cc nL own D A) {i : Fin 4} {x : UInt32} (d : decode cc pc = .ok (.fload_n i, 1)) (hg : lget lo i.val = some (.float x))
    (k : J p l e R s m args below meth c D A nL Q cells slots h (pc + 1) lo (.float x :: st)) : J p l e R s m args below meth c D A nL Q cells slots h pc lo st :=
  fun H locs ls hH hS hl => lv_fload_n E.x E.b d rfl (lv_get hl hg) (k H locs ls hH hS hl)
theorem j_fload (E : Cx p l s m args meth c cc nL own D A) {i : Nat} {x : UInt32} (d : decode cc pc = .ok (.fload i, 2)) (hg : lget lo i = some (.float x))
    (k : J p l e R s m args below meth c D A nL Q cells slots h (pc + 2) lo (.float x :: st)) : J p l e R s m args below meth c D A nL Q cells slots h pc lo st :=
  fun H locs ls hH hS hl => lv_fload E.x E.b d (lv_get hl hg) (k H locs ls hH hS hl)
theorem j_dload_n (E : Cx p l s m args meth c cc nL own D A) {i : Fin 4} {x : UInt64} (d : decode cc pc = .ok (.dload_n i, 1)) (hg : lget lo i.val = some (.double x))
    (k : J p l e R s m args below meth c D A nL Q cells slots h (pc + 1) lo (.double x :: st)) : J p l e R s m args below meth c D A nL Q cells slots h pc lo st :=
  fun H locs ls hH hS hl => lv_dload_n E.x E.b d rfl (lv_get hl hg) (k H locs ls hH hS hl)
theorem j_dload (E : Cx p l s m args meth c cc nL own D A) {i : Nat} {x : UInt64} (d : decode cc pc = .ok (.dload i, 2)) (hg : lget lo i = some (.double x))
    (k : J p l e R s m args below meth c D A nL Q cells slots h (pc + 2) lo (.double x :: st)) : J p l e R s m args below meth c D A nL Q cells slots h pc lo st :=
  fun H locs ls hH hS hl => lv_dload E.x E.b d (lv_get hl hg) (k H locs ls hH hS hl)
theorem j_aload_n (E : Cx p l s m args meth c cc nL own D A) {i : Fin 4} {x : Nat} (d : decode cc pc = .ok (.aload_n i, 1)) (hg : lget lo i.val = some (.ref x))
    (k : J p l e R s m args below meth c D A nL Q cells slots h (pc + 1) lo (.ref x :: st)) : J p l e R s m args below meth c D A nL Q cells slots h pc lo st :=
  fun H locs ls hH hS hl => lv_aload_n E.x E.b d rfl (lv_get hl hg) (k H locs ls hH hS hl)
theorem j_aload (E : Cx p l s m args meth c cc nL own D A) {i : Nat} {x : Nat} (d : decode cc pc = .ok (.aload i, 2)) (hg : lget lo i = some (.ref x))
    (k : J p l e R s m args below meth c D A nL Q cells slots h (pc + 2) lo (.ref x :: st)) : J p l e R s m args below meth c D A nL Q cells slots h pc lo st :=
  fun H locs ls hH hS hl => lv_aload E.x E.b d (lv_get hl hg) (k H locs ls hH hS hl)
theorem j_aload_nN (E : Cx p l s m args meth c cc nL own D A) {i : Fin 4} (d : decode cc pc = .ok (.aload_n i, 1)) (hg : lget lo i.val = some .null)
    (k : J p l e R s m args below meth c D A nL Q cells slots h (pc + 1) lo (.null :: st)) : J p l e R s m args below meth c D A nL Q cells slots h pc lo st :=
  fun H locs ls hH hS hl => lv_aload_nN E.x E.b d rfl (lv_get hl hg) (k H locs ls hH hS hl)
theorem j_aloadN (E : Cx p l s m args meth c cc nL own D A) {i : Nat} (d : decode cc pc = .ok (.aload i, 2)) (hg : lget lo i = some .null)
    (k : J p l e R s m args below meth c D A nL Q cells slots h (pc + 2) lo (.null :: st)) : J p l e R s m args below meth c D A nL Q cells slots h pc lo st :=
  fun H locs ls hH hS hl => lv_aloadN E.x E.b d (lv_get hl hg) (k H locs ls hH hS hl)
theorem j_istore_n (E : Cx p l s m args meth c cc nL own D A) {i : Fin 4} {x : Int32} (d : decode cc pc = .ok (.istore_n i, 1)) (hn : i.val < nL)
    (k : J p l e R s m args below meth c D A nL Q cells slots h (pc + 1) (lput1 lo i.val (.int x)) st) : J p l e R s m args below meth c D A nL Q cells slots h pc lo (.int x :: st) :=
  fun H locs ls hH hS hl => lv_istore_n E.x E.b d rfl hl hn rfl (fun ls2 hl2 => k H locs ls2 hH hS hl2)
theorem j_istore (E : Cx p l s m args meth c cc nL own D A) {i : Nat} {x : Int32} (d : decode cc pc = .ok (.istore i, 2)) (hn : i < nL)
    (k : J p l e R s m args below meth c D A nL Q cells slots h (pc + 2) (lput1 lo i (.int x)) st) : J p l e R s m args below meth c D A nL Q cells slots h pc lo (.int x :: st) :=
  fun H locs ls hH hS hl => lv_istore E.x E.b d hl hn rfl (fun ls2 hl2 => k H locs ls2 hH hS hl2)
theorem j_lstore_n (E : Cx p l s m args meth c cc nL own D A) {i : Fin 4} {x : Int64} (d : decode cc pc = .ok (.lstore_n i, 1)) (hn : i.val + 1 < nL)
    (k : J p l e R s m args below meth c D A nL Q cells slots h (pc + 1) (lput2 lo i.val (.long x)) st) : J p l e R s m args below meth c D A nL Q cells slots h pc lo (.long x :: st) :=
  fun H locs ls hH hS hl => lv_lstore_n E.x E.b d rfl hl hn rfl (fun ls2 hl2 => k H locs ls2 hH hS hl2)
theorem j_lstore (E : Cx p l s m args meth c cc nL own D A) {i : Nat} {x : Int64} (d : decode cc pc = .ok (.lstore i, 2)) (hn : i + 1 < nL)
    (k : J p l e R s m args below meth c D A nL Q cells slots h (pc + 2) (lput2 lo i (.long x)) st) : J p l e R s m args below meth c D A nL Q cells slots h pc lo (.long x :: st) :=
  fun H locs ls hH hS hl => lv_lstore E.x E.b d hl hn rfl (fun ls2 hl2 => k H locs ls2 hH hS hl2)
theorem j_fstore_n (E : Cx p l s m args meth c cc nL own D A) {i : Fin 4} {x : UInt32} (d : decode cc pc = .ok (.fstore_n i, 1)) (hn : i.val < nL)
    (k : J p l e R s m args below meth c D A nL Q cells slots h (pc + 1) (lput1 lo i.val (.float x)) st) : J p l e R s m args below meth c D A nL Q cells slots h pc lo (.float x :: st) :=
  fun H locs ls hH hS hl => lv_fstore_n E.x E.b d rfl hl hn rfl (fun ls2 hl2 => k H locs ls2 hH hS hl2)
theorem j_fstore (E : Cx p l s m args meth c cc nL own D A) {i : Nat} {x : UInt32} (d : decode cc pc = .ok (.fstore i, 2)) (hn : i < nL)
    (k : J p l e R s m args below meth c D A nL Q cells slots h (pc + 2) (lput1 lo i (.float x)) st) : J p l e R s m args below meth c D A nL Q cells slots h pc lo (.float x :: st) :=
  fun H locs ls hH hS hl => lv_fstore E.x E.b d hl hn rfl (fun ls2 hl2 => k H locs ls2 hH hS hl2)
theorem j_dstore_n (E : Cx p l s m args meth c cc nL own D A) {i : Fin 4} {x : UInt64} (d : decode cc pc = .ok (.dstore_n i, 1)) (hn : i.val + 1 < nL)
    (k : J p l e R s m args below meth c D A nL Q cells slots h (pc + 1) (lput2 lo i.val (.double x)) st) : J p l e R s m args below meth c D A nL Q cells slots h pc lo (.double x :: st) :=
  fun H locs ls hH hS hl => lv_dstore_n E.x E.b d rfl hl hn rfl (fun ls2 hl2 => k H locs ls2 hH hS hl2)
theorem j_dstore (E : Cx p l s m args meth c cc nL own D A) {i : Nat} {x : UInt64} (d : decode cc pc = .ok (.dstore i, 2)) (hn : i + 1 < nL)
    (k : J p l e R s m args below meth c D A nL Q cells slots h (pc + 2) (lput2 lo i (.double x)) st) : J p l e R s m args below meth c D A nL Q cells slots h pc lo (.double x :: st) :=
  fun H locs ls hH hS hl => lv_dstore E.x E.b d hl hn rfl (fun ls2 hl2 => k H locs ls2 hH hS hl2)
theorem j_astore_n (E : Cx p l s m args meth c cc nL own D A) {i : Fin 4} {x : Nat} (d : decode cc pc = .ok (.astore_n i, 1)) (hn : i.val < nL)
    (k : J p l e R s m args below meth c D A nL Q cells slots h (pc + 1) (lput1 lo i.val (.ref x)) st) : J p l e R s m args below meth c D A nL Q cells slots h pc lo (.ref x :: st) :=
  fun H locs ls hH hS hl => lv_astore_n E.x E.b d rfl hl hn rfl (fun ls2 hl2 => k H locs ls2 hH hS hl2)
theorem j_astore (E : Cx p l s m args meth c cc nL own D A) {i : Nat} {x : Nat} (d : decode cc pc = .ok (.astore i, 2)) (hn : i < nL)
    (k : J p l e R s m args below meth c D A nL Q cells slots h (pc + 2) (lput1 lo i (.ref x)) st) : J p l e R s m args below meth c D A nL Q cells slots h pc lo (.ref x :: st) :=
  fun H locs ls hH hS hl => lv_astore E.x E.b d hl hn rfl (fun ls2 hl2 => k H locs ls2 hH hS hl2)
theorem j_astore_nN (E : Cx p l s m args meth c cc nL own D A) {i : Fin 4} (d : decode cc pc = .ok (.astore_n i, 1)) (hn : i.val < nL)
    (k : J p l e R s m args below meth c D A nL Q cells slots h (pc + 1) (lput1 lo i.val .null) st) : J p l e R s m args below meth c D A nL Q cells slots h pc lo (.null :: st) :=
  fun H locs ls hH hS hl => lv_astore_nN E.x E.b d rfl hl hn rfl (fun ls2 hl2 => k H locs ls2 hH hS hl2)
theorem j_astoreN (E : Cx p l s m args meth c cc nL own D A) {i : Nat} (d : decode cc pc = .ok (.astore i, 2)) (hn : i < nL)
    (k : J p l e R s m args below meth c D A nL Q cells slots h (pc + 2) (lput1 lo i .null) st) : J p l e R s m args below meth c D A nL Q cells slots h pc lo (.null :: st) :=
  fun H locs ls hH hS hl => lv_astoreN E.x E.b d hl hn rfl (fun ls2 hl2 => k H locs ls2 hH hS hl2)
theorem j_iinc (E : Cx p l s m args meth c cc nL own D A) {i : Nat} {n : Int} {x v : Int32} (d : decode cc pc = .ok (.iinc i n, 3)) (hg : lget lo i = some (.int x)) (hv : x + Int32.ofInt n = v) (hn : i < nL)
    (k : J p l e R s m args below meth c D A nL Q cells slots h (pc + 3) (lput1 lo i (.int v)) st) : J p l e R s m args below meth c D A nL Q cells slots h pc lo st := by
  intro H locs ls hH hS hl
  obtain ⟨j, hj⟩ := List.getElem?_of_mem (lget_mem lo hg)
  exact lv_iinc E.x E.b d hl hj hv hn rfl (fun ls2 hl2 => k H locs ls2 hH hS hl2)
theorem j_iadd (E : Cx p l s m args meth c cc nL own D A) {x y : Int32} (d : decode cc pc = .ok (.iadd, 1))
    (k : J p l e R s m args below meth c D A nL Q cells slots h (pc + 1) lo (.int (x + y) :: st)) : J p l e R s m args below meth c D A nL Q cells slots h pc lo (.int y :: .int x :: st) :=
  fun H locs ls hH hS hl => lv_iadd E.x E.b d (k H locs ls hH hS hl)
theorem j_isub (E : Cx p l s m args meth c cc nL own D A) {x y : Int32} (d : decode cc pc = .ok (.isub, 1))
    (k : J p l e R s m args below meth c D A nL Q cells slots h (pc + 1) lo (.int (x - y) :: st)) : J p l e R s m args below meth c D A nL Q cells slots h pc lo (.int y :: .int x :: st) :=
  fun H locs ls hH hS hl => lv_isub E.x E.b d (k H locs ls hH hS hl)
theorem j_imul (E : Cx p l s m args meth c cc nL own D A) {x y : Int32} (d : decode cc pc = .ok (.imul, 1))
    (k : J p l e R s m args below meth c D A nL Q cells slots h (pc + 1) lo (.int (x * y) :: st)) : J p l e R s m args below meth c D A nL Q cells slots h pc lo (.int y :: .int x :: st) :=
  fun H locs ls hH hS hl => lv_imul E.x E.b d (k H locs ls hH hS hl)
theorem j_iand (E : Cx p l s m args meth c cc nL own D A) {x y : Int32} (d : decode cc pc = .ok (.iand, 1))
    (k : J p l e R s m args below meth c D A nL Q cells slots h (pc + 1) lo (.int (x &&& y) :: st)) : J p l e R s m args below meth c D A nL Q cells slots h pc lo (.int y :: .int x :: st) :=
  fun H locs ls hH hS hl => lv_iand E.x E.b d (k H locs ls hH hS hl)
theorem j_idiv (E : Cx p l s m args meth c cc nL own D A) {x y : Int32} (d : decode cc pc = .ok (.idiv, 1)) (hy : ¬ y = 0)
    (k : J p l e R s m args below meth c D A nL Q cells slots h (pc + 1) lo (.int (x / y) :: st)) : J p l e R s m args below meth c D A nL Q cells slots h pc lo (.int y :: .int x :: st) :=
  fun H locs ls hH hS hl => lv_idiv E.x E.b d hy (k H locs ls hH hS hl)
theorem j_ladd (E : Cx p l s m args meth c cc nL own D A) {x y : Int64} (d : decode cc pc = .ok (.ladd, 1))
    (k : J p l e R s m args below meth c D A nL Q cells slots h (pc + 1) lo (.long (x + y) :: st)) : J p l e R s m args below meth c D A nL Q cells slots h pc lo (.long y :: .long x :: st) :=
  fun H locs ls hH hS hl => lv_ladd E.x E.b d (k H locs ls hH hS hl)
theorem j_i2l (E : Cx p l s m args meth c cc nL own D A) {x : Int32} (d : decode cc pc = .ok (.i2l, 1))
    (k : J p l e R s m args below meth c D A nL Q cells slots h (pc + 1) lo (.long x.toInt64 :: st)) : J p l e R s m args below meth c D A nL Q cells slots h pc lo (.int x :: st) :=
  fun H locs ls hH hS hl => lv_i2l E.x E.b d rfl (k H locs ls hH hS hl)
theorem j_i2d (E : Cx p l s m args meth c cc nL own D A) {x : Int32} (d : decode cc pc = .ok (.i2d, 1))
    (k : J p l e R s m args below meth c D A nL Q cells slots h (pc + 1) lo (.double (FP.i2d x) :: st)) : J p l e R s m args below meth c D A nL Q cells slots h pc lo (.int x :: st) :=
  fun H locs ls hH hS hl => lv_i2d E.x E.b d (k H locs ls hH hS hl)
theorem j_l2f (E : Cx p l s m args meth c cc nL own D A) {x : Int64} (d : decode cc pc = .ok (.l2f, 1))
    (k : J p l e R s m args below meth c D A nL Q cells slots h (pc + 1) lo (.float (FP.l2f x) :: st)) : J p l e R s m args below meth c D A nL Q cells slots h pc lo (.long x :: st) :=
  fun H locs ls hH hS hl => lv_l2f E.x E.b d (k H locs ls hH hS hl)
theorem j_f2d (E : Cx p l s m args meth c cc nL own D A) {x : UInt32} (d : decode cc pc = .ok (.f2d, 1)) (hne : vf_n64 (FP.f2d x))
    (k : J p l e R s m args below meth c D A nL Q cells slots h (pc + 1) lo (.double (FP.f2d x) :: st)) : J p l e R s m args below meth c D A nL Q cells slots h pc lo (.float x :: st) :=
  fun H locs ls hH hS hl => lv_f2d E.x E.b d hne (k H locs ls hH hS hl)
theorem j_fdiv (E : Cx p l s m args meth c cc nL own D A) {x y : UInt32} (d : decode cc pc = .ok (.fdiv, 1)) (hne : vf_n32 (FP.fdiv x y))
    (k : J p l e R s m args below meth c D A nL Q cells slots h (pc + 1) lo (.float (FP.fdiv x y) :: st)) : J p l e R s m args below meth c D A nL Q cells slots h pc lo (.float y :: .float x :: st) :=
  fun H locs ls hH hS hl => lv_fdiv E.x E.b d hne (k H locs ls hH hS hl)
theorem j_ddiv (E : Cx p l s m args meth c cc nL own D A) {x y : UInt64} (d : decode cc pc = .ok (.ddiv, 1)) (hne : vf_n64 (FP.ddiv x y))
    (k : J p l e R s m args below meth c D A nL Q cells slots h (pc + 1) lo (.double (FP.ddiv x y) :: st)) : J p l e R s m args below meth c D A nL Q cells slots h pc lo (.double y :: .double x :: st) :=
  fun H locs ls hH hS hl => lv_ddiv E.x E.b d hne (k H locs ls hH hS hl)
theorem j_fcmp (E : Cx p l s m args meth c cc nL own D A) {x y : UInt32} {op : CmpOp} (d : decode cc pc = .ok (.fcmp op, 1))
    (k : J p l e R s m args below meth c D A nL Q cells slots h (pc + 1) lo (.int (Op.cmpValue (FP.fcmp x y) op) :: st)) : J p l e R s m args below meth c D A nL Q cells slots h pc lo (.float y :: .float x :: st) :=
  fun H locs ls hH hS hl => lv_fcmp E.x E.b d (k H locs ls hH hS hl)
theorem j_dcmp (E : Cx p l s m args meth c cc nL own D A) {x y : UInt64} {op : CmpOp} (d : decode cc pc = .ok (.dcmp op, 1))
    (k : J p l e R s m args below meth c D A nL Q cells slots h (pc + 1) lo (.int (Op.cmpValue (FP.dcmp x y) op) :: st)) : J p l e R s m args below meth c D A nL Q cells slots h pc lo (.double y :: .double x :: st) :=
  fun H locs ls hH hS hl => lv_dcmp E.x E.b d (k H locs ls hH hS hl)
theorem j_dup (E : Cx p l s m args meth c cc nL own D A) {v : Value} (d : decode cc pc = .ok (.dup, 1)) (hv : v.category = 1)
    (k : J p l e R s m args below meth c D A nL Q cells slots h (pc + 1) lo (v :: v :: st)) : J p l e R s m args below meth c D A nL Q cells slots h pc lo (v :: st) :=
  fun H locs ls hH hS hl => lv_dup E.x E.b d hv (k H locs ls hH hS hl)
theorem j_dup2 (E : Cx p l s m args meth c cc nL own D A) {v u : Value} (d : decode cc pc = .ok (.dup2, 1)) (hv : v.category = 1) (hu : u.category = 1)
    (k : J p l e R s m args below meth c D A nL Q cells slots h (pc + 1) lo (v :: u :: v :: u :: st)) : J p l e R s m args below meth c D A nL Q cells slots h pc lo (v :: u :: st) :=
  fun H locs ls hH hS hl => lv_dup2_11 E.x E.b d hv hu (k H locs ls hH hS hl)
theorem j_pop (E : Cx p l s m args meth c cc nL own D A) {v : Value} (d : decode cc pc = .ok (.pop, 1)) (hv : v.category = 1)
    (k : J p l e R s m args below meth c D A nL Q cells slots h (pc + 1) lo st) : J p l e R s m args below meth c D A nL Q cells slots h pc lo (v :: st) :=
  fun H locs ls hH hS hl => lv_pop E.x E.b d hv (k H locs ls hH hS hl)
theorem j_if_eq (E : Cx p l s m args meth c cc nL own D A) {x : Int32} {off : Int} {tgt : Nat} (d : decode cc pc = .ok (.ifCond .eq off, 3)) (ht : (pc : Int) + off = (tgt : Int))
    (kt : x = 0 → J p l e R s m args below meth c D A nL Q cells slots h tgt lo st) (kf : ¬ x = 0 → J p l e R s m args below meth c D A nL Q cells slots h (pc + 3) lo st) : J p l e R s m args below meth c D A nL Q cells slots h pc lo (.int x :: st) :=
  fun H locs ls hH hS hl => lv_if_eq E.x E.b d ht (fun q => kt q H locs ls hH hS hl) (fun q => kf q H locs ls hH hS hl)
theorem j_if_ne (E : Cx p l s m args meth c cc nL own D A) {x : Int32} {off : Int} {tgt : Nat} (d : decode cc pc = .ok (.ifCond .ne off, 3)) (ht : (pc : Int) + off = (tgt : Int))
    (kt : ¬ x = 0 → J p l e R s m args below meth c D A nL Q cells slots h tgt lo st) (kf : x = 0 → J p l e R s m args below meth c D A nL Q cells slots h (pc + 3) lo st) : J p l e R s m args below meth c D A nL Q cells slots h pc lo (.int x :: st) :=
  fun H locs ls hH hS hl => lv_if_ne E.x E.b d ht (fun q => kt q H locs ls hH hS hl) (fun q => kf q H locs ls hH hS hl)
theorem j_if_lt (E : Cx p l s m args meth c cc nL own D A) {x : Int32} {off : Int} {tgt : Nat} (d : decode cc pc = .ok (.ifCond .lt off, 3)) (ht : (pc : Int) + off = (tgt : Int))
    (kt : x < 0 → J p l e R s m args below meth c D A nL Q cells slots h tgt lo st) (kf : ¬ x < 0 → J p l e R s m args below meth c D A nL Q cells slots h (pc + 3) lo st) : J p l e R s m args below meth c D A nL Q cells slots h pc lo (.int x :: st) :=
  fun H locs ls hH hS hl => lv_if_lt E.x E.b d ht (fun q => kt q H locs ls hH hS hl) (fun q => kf q H locs ls hH hS hl)
theorem j_if_ge (E : Cx p l s m args meth c cc nL own D A) {x : Int32} {off : Int} {tgt : Nat} (d : decode cc pc = .ok (.ifCond .ge off, 3)) (ht : (pc : Int) + off = (tgt : Int))
    (kt : 0 ≤ x → J p l e R s m args below meth c D A nL Q cells slots h tgt lo st) (kf : ¬ 0 ≤ x → J p l e R s m args below meth c D A nL Q cells slots h (pc + 3) lo st) : J p l e R s m args below meth c D A nL Q cells slots h pc lo (.int x :: st) :=
  fun H locs ls hH hS hl => lv_if_ge E.x E.b d ht (fun q => kt q H locs ls hH hS hl) (fun q => kf q H locs ls hH hS hl)
theorem j_if_gt (E : Cx p l s m args meth c cc nL own D A) {x : Int32} {off : Int} {tgt : Nat} (d : decode cc pc = .ok (.ifCond .gt off, 3)) (ht : (pc : Int) + off = (tgt : Int))
    (kt : 0 < x → J p l e R s m args below meth c D A nL Q cells slots h tgt lo st) (kf : ¬ 0 < x → J p l e R s m args below meth c D A nL Q cells slots h (pc + 3) lo st) : J p l e R s m args below meth c D A nL Q cells slots h pc lo (.int x :: st) :=
  fun H locs ls hH hS hl => lv_if_gt E.x E.b d ht (fun q => kt q H locs ls hH hS hl) (fun q => kf q H locs ls hH hS hl)
theorem j_if_le (E : Cx p l s m args meth c cc nL own D A) {x : Int32} {off : Int} {tgt : Nat} (d : decode cc pc = .ok (.ifCond .le off, 3)) (ht : (pc : Int) + off = (tgt : Int))
    (kt : x ≤ 0 → J p l e R s m args below meth c D A nL Q cells slots h tgt lo st) (kf : ¬ x ≤ 0 → J p l e R s m args below meth c D A nL Q cells slots h (pc + 3) lo st) : J p l e R s m args below meth c D A nL Q cells slots h pc lo (.int x :: st) :=
  fun H locs ls hH hS hl => lv_if_le E.x E.b d ht (fun q => kt q H locs ls hH hS hl) (fun q => kf q H locs ls hH hS hl)
theorem j_icmp_eq (E : Cx p l s m args meth c cc nL own D A) {x y : Int32} {off : Int} {tgt : Nat} (d : decode cc pc = .ok (.if_icmp .eq off, 3)) (ht : (pc : Int) + off = (tgt : Int))
    (kt : x = y → J p l e R s m args below meth c D A nL Q cells slots h tgt lo st) (kf : ¬ x = y → J p l e R s m args below meth c D A nL Q cells slots h (pc + 3) lo st) : J p l e R s m args below meth c D A nL Q cells slots h pc lo (.int y :: .int x :: st) :=
  fun H locs ls hH hS hl => lv_icmp_eq E.x E.b d ht (fun q => kt q H locs ls hH hS hl) (fun q => kf q H locs ls hH hS hl)
theorem j_icmp_ne (E : Cx p l s m args meth c cc nL own D A) {x y : Int32} {off : Int} {tgt : Nat} (d : decode cc pc = .ok (.if_icmp .ne off, 3)) (ht : (pc : Int) + off = (tgt : Int))
    (kt : ¬ x = y → J p l e R s m args below meth c D A nL Q cells slots h tgt lo st) (kf : x = y → J p l e R s m args below meth c D A nL Q cells slots h (pc + 3) lo st) : J p l e R s m args below meth c D A nL Q cells slots h pc lo (.int y :: .int x :: st) :=
  fun H locs ls hH hS hl => lv_icmp_ne E.x E.b d ht (fun q => kt q H locs ls hH hS hl) (fun q => kf q H locs ls hH hS hl)
theorem j_icmp_lt (E : Cx p l s m args meth c cc nL own D A) {x y : Int32} {off : Int} {tgt : Nat} (d : decode cc pc = .ok (.if_icmp .lt off, 3)) (ht : (pc : Int) + off = (tgt : Int))
    (kt : x < y → J p l e R s m args below meth c D A nL Q cells slots h tgt lo st) (kf : ¬ x < y → J p l e R s m args below meth c D A nL Q cells slots h (pc + 3) lo st) : J p l e R s m args below meth c D A nL Q cells slots h pc lo (.int y :: .int x :: st) :=
  fun H locs ls hH hS hl => lv_icmp_lt E.x E.b d ht (fun q => kt q H locs ls hH hS hl) (fun q => kf q H locs ls hH hS hl)
theorem j_icmp_ge (E : Cx p l s m args meth c cc nL own D A) {x y : Int32} {off : Int} {tgt : Nat} (d : decode cc pc = .ok (.if_icmp .ge off, 3)) (ht : (pc : Int) + off = (tgt : Int))
    (kt : y ≤ x → J p l e R s m args below meth c D A nL Q cells slots h tgt lo st) (kf : ¬ y ≤ x → J p l e R s m args below meth c D A nL Q cells slots h (pc + 3) lo st) : J p l e R s m args below meth c D A nL Q cells slots h pc lo (.int y :: .int x :: st) :=
  fun H locs ls hH hS hl => lv_icmp_ge E.x E.b d ht (fun q => kt q H locs ls hH hS hl) (fun q => kf q H locs ls hH hS hl)
theorem j_icmp_gt (E : Cx p l s m args meth c cc nL own D A) {x y : Int32} {off : Int} {tgt : Nat} (d : decode cc pc = .ok (.if_icmp .gt off, 3)) (ht : (pc : Int) + off = (tgt : Int))
    (kt : y < x → J p l e R s m args below meth c D A nL Q cells slots h tgt lo st) (kf : ¬ y < x → J p l e R s m args below meth c D A nL Q cells slots h (pc + 3) lo st) : J p l e R s m args below meth c D A nL Q cells slots h pc lo (.int y :: .int x :: st) :=
  fun H locs ls hH hS hl => lv_icmp_gt E.x E.b d ht (fun q => kt q H locs ls hH hS hl) (fun q => kf q H locs ls hH hS hl)
theorem j_icmp_le (E : Cx p l s m args meth c cc nL own D A) {x y : Int32} {off : Int} {tgt : Nat} (d : decode cc pc = .ok (.if_icmp .le off, 3)) (ht : (pc : Int) + off = (tgt : Int))
    (kt : x ≤ y → J p l e R s m args below meth c D A nL Q cells slots h tgt lo st) (kf : ¬ x ≤ y → J p l e R s m args below meth c D A nL Q cells slots h (pc + 3) lo st) : J p l e R s m args below meth c D A nL Q cells slots h pc lo (.int y :: .int x :: st) :=
  fun H locs ls hH hS hl => lv_icmp_le E.x E.b d ht (fun q => kt q H locs ls hH hS hl) (fun q => kf q H locs ls hH hS hl)
theorem j_acmp_eq (E : Cx p l s m args meth c cc nL own D A) {x y : Option Nat} {off : Int} {tgt : Nat} (d : decode cc pc = .ok (.if_acmp .eq off, 3)) (ht : (pc : Int) + off = (tgt : Int))
    (kt : x = y → J p l e R s m args below meth c D A nL Q cells slots h tgt lo st) (kf : ¬ x = y → J p l e R s m args below meth c D A nL Q cells slots h (pc + 3) lo st) : J p l e R s m args below meth c D A nL Q cells slots h pc lo (va_rf y :: va_rf x :: st) :=
  fun H locs ls hH hS hl => lv_acmp_eq E.x E.b d ht (fun q => kt q H locs ls hH hS hl) (fun q => kf q H locs ls hH hS hl)
theorem j_acmp_ne (E : Cx p l s m args meth c cc nL own D A) {x y : Option Nat} {off : Int} {tgt : Nat} (d : decode cc pc = .ok (.if_acmp .ne off, 3)) (ht : (pc : Int) + off = (tgt : Int))
    (kt : ¬ x = y → J p l e R s m args below meth c D A nL Q cells slots h tgt lo st) (kf : x = y → J p l e R s m args below meth c D A nL Q cells slots h (pc + 3) lo st) : J p l e R s m args below meth c D A nL Q cells slots h pc lo (va_rf y :: va_rf x :: st) :=
  fun H locs ls hH hS hl => lv_acmp_ne E.x E.b d ht (fun q => kt q H locs ls hH hS hl) (fun q => kf q H locs ls hH hS hl)
theorem j_goto (E : Cx p l s m args meth c cc nL own D A) {off : Int} {tgt : Nat} (d : decode cc pc = .ok (.goto off, 3)) (ht : (pc : Int) + off = (tgt : Int)) (k : J p l e R s m args below meth c D A nL Q cells slots h tgt lo st) : J p l e R s m args below meth c D A nL Q cells slots h pc lo st :=
  fun H locs ls hH hS hl => lv_goto E.x E.b d ht (k H locs ls hH hS hl)
theorem j_ifnonnull (E : Cx p l s m args meth c cc nL own D A) {x : Nat} {off : Int} {tgt : Nat} (d : decode cc pc = .ok (.ifnonnull off, 3)) (ht : (pc : Int) + off = (tgt : Int)) (k : J p l e R s m args below meth c D A nL Q cells slots h tgt lo st) : J p l e R s m args below meth c D A nL Q cells slots h pc lo (.ref x :: st) :=
  fun H locs ls hH hS hl => lv_ifnonnull E.x E.b d ht (k H locs ls hH hS hl)
theorem j_ifnonnullN (E : Cx p l s m args meth c cc nL own D A) {off : Int} (d : decode cc pc = .ok (.ifnonnull off, 3)) (k : J p l e R s m args below meth c D A nL Q cells slots h (pc + 3) lo st) : J p l e R s m args below meth c D A nL Q cells slots h pc lo (.null :: st) :=
  fun H locs ls hH hS hl => lv_ifnonnullN E.x E.b d (k H locs ls hH hS hl)
theorem j_ifnull (E : Cx p l s m args meth c cc nL own D A) {x : Nat} {off : Int} (d : decode cc pc = .ok (.ifnull off, 3)) (k : J p l e R s m args below meth c D A nL Q cells slots h (pc + 3) lo st) : J p l e R s m args below meth c D A nL Q cells slots h pc lo (.ref x :: st) :=
  fun H locs ls hH hS hl => lv_ifnull E.x E.b d (k H locs ls hH hS hl)
theorem j_ifnullN (E : Cx p l s m args meth c cc nL own D A) {off : Int} {tgt : Nat} (d : decode cc pc = .ok (.ifnull off, 3)) (ht : (pc : Int) + off = (tgt : Int)) (k : J p l e R s m args below meth c D A nL Q cells slots h tgt lo st) : J p l e R s m args below meth c D A nL Q cells slots h pc lo (.null :: st) :=
  fun H locs ls hH hS hl => lv_ifnullN E.x E.b d ht (k H locs ls hH hS hl)
theorem j_lcmp (E : Cx p l s m args meth c cc nL own D A) {x y : Int64} (d : decode cc pc = .ok (.lcmp, 1)) (k : J p l e R s m args below meth c D A nL Q cells slots h (pc + 1) lo (.int (if y < x then 1 else if x = y then 0 else -1) :: st)) : J p l e R s m args below meth c D A nL Q cells slots h pc lo (.long y :: .long x :: st) :=
  fun H locs ls hH hS hl => W.lcmp E.x E.b d (k H locs ls hH hS hl)
theorem j_ldci (E : Cx p l s m args meth c cc nL own D A) {index : Nat} {v : Int32} (hc : (Cond.constant own index v).before args s = true) (d : decode cc pc = .ok (.ldc index, 2)) (k : J p l e R s m args below meth c D A nL Q cells slots h (pc + 2) lo (.int v :: st)) : J p l e R s m args below meth c D A nL Q cells slots h pc lo st :=
  fun H locs ls hH hS hl => lv_ldc E.x E.b E.ow hc d (k H locs ls hH hS hl)
theorem j_tableOut (E : Cx p l s m args meth c cc nL own D A) {dflt lw hi : Int} {offs : Array Int} {len : Nat} {x : Int32} {tgt : Nat} (d : decode cc pc = .ok (.tableswitch dflt lw hi offs, len)) (hr : x.toInt < lw ∨ hi < x.toInt) (ht : (pc : Int) + dflt = (tgt : Int)) (k : J p l e R s m args below meth c D A nL Q cells slots h tgt lo st) : J p l e R s m args below meth c D A nL Q cells slots h pc lo (.int x :: st) :=
  fun H locs ls hH hS hl => lv_tableOut E.x E.b d hr ht (k H locs ls hH hS hl)
theorem j_tableIn (E : Cx p l s m args meth c cc nL own D A) {dflt lw hi off : Int} {offs : Array Int} {len : Nat} {x : Int32} {tgt : Nat} (d : decode cc pc = .ok (.tableswitch dflt lw hi offs, len)) (h1 : ¬ x.toInt < lw) (h2 : ¬ hi < x.toInt) (ho : offs[(x.toInt - lw).toNat]? = some off) (ht : (pc : Int) + off = (tgt : Int)) (k : J p l e R s m args below meth c D A nL Q cells slots h tgt lo st) : J p l e R s m args below meth c D A nL Q cells slots h pc lo (.int x :: st) :=
  fun H locs ls hH hS hl => lv_tableIn E.x E.b d h1 h2 ho ht (k H locs ls hH hS hl)
/-- the computed number on top gets a name -/
theorem j_topi {x : Int32} (k : ∀ y : Int32, y = x → J p l e R s m args below meth c D A nL Q cells slots h pc lo (.int y :: st)) : J p l e R s m args below meth c D A nL Q cells slots h pc lo (.int x :: st) := k x rfl
theorem j_mmin (E : Cx p l s m args meth c cc nL own D A) {index : Nat} (hlink : (Cond.methodLink own index Lib.Math.min.name).before args s = true) (hstat : (Cond.static Lib.Math.min.name).before args s = true) (hini : (Cond.initialized "java/lang/Math").before args s = true) (hcode : (Cond.code Lib.Math.min.name Lib.Math.min.code 2 (some .int)).before args s = true)
    (hr : 1 ≤ R.frames ∧ (st.map fun v => v.category).sum + 13 ≤ R.locals ∧ cells ≤ R.cells ∧ slots ≤ R.slots) {x y : Int32} (d : decode cc pc = .ok (.invokestatic index, 3)) (k : J p l e R s m args below meth c D A nL Q cells slots h (pc + 3) lo (.int (if y < x then y else x) :: st)) : J p l e R s m args below meth c D A nL Q cells slots h pc lo (.int y :: .int x :: st) :=
  fun H locs ls hH hS hl => va_mmin E.x E.b (E.ml.trans hl.1.symm) E.ow hlink hstat hini hcode hr.1 hr.2.1 hr.2.2.1 hr.2.2.2 d (k H locs ls hH hS hl)
theorem j_mmax (E : Cx p l s m args meth c cc nL own D A) {index : Nat} (hlink : (Cond.methodLink own index Lib.Math.max.name).before args s = true) (hstat : (Cond.static Lib.Math.max.name).before args s = true) (hini : (Cond.initialized "java/lang/Math").before args s = true) (hcode : (Cond.code Lib.Math.max.name Lib.Math.max.code 2 (some .int)).before args s = true)
    (hr : 1 ≤ R.frames ∧ (st.map fun v => v.category).sum + 13 ≤ R.locals ∧ cells ≤ R.cells ∧ slots ≤ R.slots) {x y : Int32} (d : decode cc pc = .ok (.invokestatic index, 3)) (k : J p l e R s m args below meth c D A nL Q cells slots h (pc + 3) lo (.int (if x < y then y else x) :: st)) : J p l e R s m args below meth c D A nL Q cells slots h pc lo (.int y :: .int x :: st) :=
  fun H locs ls hH hS hl => va_mmax E.x E.b (E.ml.trans hl.1.symm) E.ow hlink hstat hini hcode hr.1 hr.2.1 hr.2.2.1 hr.2.2.2 d (k H locs ls hH hS hl)
theorem j_objInit (E : Cx p l s m args meth c cc nL own D A) {idx a : Nat} (hlink : (Cond.methodLink own idx Lib.objectInit).before args s = true) (hinst : (Cond.instanceMethod Lib.objectInit).before args s = true) (hcode : (Cond.code Lib.objectInit ⟨#[0xb1]⟩ 1 none).before args s = true) (d : decode cc pc = .ok (.invokespecial idx, 3))
    (hf : 1 ≤ R.frames ∧ (st.map fun v => v.category).sum + 12 ≤ R.locals) (k : J p l e R s m args below meth c D A nL Q cells slots h (pc + 3) lo st) : J p l e R s m args below meth c D A nL Q cells slots h pc lo (.ref a :: st) :=
  fun H locs ls hH hS hl => W.objInit E.x E.b E.ow hlink hinst hcode rfl (by rw [E.ml]; exact hl.1) rfl d hf.1 (by show 2 * 0 + _ + 12 ≤ _; omega) (k H locs ls hH hS hl)
end JR
end
section
/-! rows over the abstract heap: fields, arrays, new cells -/
def fup {α : Type} (f : Nat → α) (k : Nat) (x : α) : Nat → α := fun j => if j = k then x else f j
theorem fup_eq {α : Type} {f : Nat → α} {k : Nat} {x : α} : fup f k x k = x := if_pos rfl
theorem fup_ne {α : Type} {f : Nat → α} {k j : Nat} {x : α} (h : j ≠ k) : fup f k x j = f j := if_neg h
section JH
variable {p : Program} {l : Launch} {e : Env} {R : Room} {s : State} {m : MethodId} {args : Array Value} {below : List Frame} {meth : Method} {c : Code} {cc : ByteArray} {nL : Nat} {own : String} {D : va_G} {A : Nat → Prop} {Q : State → Prop} {cells slots : Nat} {h : AH} {pc : Nat} {lo : List (Nat × Value)} {st : List Value}
/-- the words of a class's fields -/
abbrev uOK (C : String) (T : u_T) (N : Nat) : Prop := ∀ w ∈ u_ws C T N, w ∈ lw_tbl ∧ tbOK w = true
theorem Cx.u (E : Cx p l s m args meth c cc nL own D A) {C : String} {T : u_T} {N : Nat} (hin : uOK C T N) : ∀ w ∈ u_ws C T N, w.before args s = true := fun w hw => E.tb w (hin w hw).1 (hin w hw).2 args
theorem j_get (E : Cx p l s m args meth c cc nL own D A) {C : String} {T : u_T} {N ci index a : Nat} {fs : List Value} {v : Value} (hc : h a = some (.inr (ci, fs))) (hcl : jcl[ci]? = some (C, T, N)) (k : Nat) (hk : k < N) (hin : uOK C T N) (hlink : (Cond.fieldLink own index (T k).1 (T k).2.1 (T k).2.2.1).before args s = true) (hv : fs[k]? = some v) (d : decode cc pc = .ok (.getfield index, 3))
    (kk : J p l e R s m args below meth c D A nL Q cells slots h (pc + 3) lo (v :: st)) : J p l e R s m args below meth c D A nL Q cells slots h pc lo (.ref a :: st) := by
  intro H locs ls hH hS hl
  obtain ⟨-, r, h1, cell, q1, q2, q3, q4⟩ := hH a _ hc
  have hr : r = (C, T, N) := Option.some.inj (h1.symm.trans hcl)
  subst hr
  obtain ⟨hSl, hfc, kC, hkC, hkind⟩ := E.K.1 ci _ hcl
  obtain ⟨cf, kf, fi, f, hi, hsl⟩ := hSl k hk
  refine W.getf E.x E.b E.ow hlink hi (u_facts hfc hkC (u_lays (E.u hin) (fun _ h => h) hk) hi).1 q1 (by rw [q3]; exact fun h => by cases h) (v := v) ?_ rfl rfl d (kk H locs ls hH hS hl)
  rw [hsl, q4 k hk]
  simp [vp_V, hv]
theorem j_put (E : Cx p l s m args meth c cc nL own D A) {C : String} {T : u_T} {N ci index a : Nat} {fs : List Value} {v : Value} {ty : FieldType} (hc : h a = some (.inr (ci, fs))) (hcl : jcl[ci]? = some (C, T, N)) (k : Nat) (hk : k < N) (hin : uOK C T N) (ty0 : Nat → FieldType) (hty : ∀ k, k < N → parseFieldDescriptor (T k).2.2.1 = some (ty0 k)) (hnm : ∀ a, a < N → ∀ b, b < N → a ≠ b → (T a).2.1 ≠ (T b).2.1) (hlink : (Cond.fieldLink own index (T k).1 (T k).2.1 (T k).2.2.1).before args s = true) (hfin : (T k).2.2.2 = false) (hd : ty0 k = ty) (hn : narrow ty v = v) (hfit : fits ty v = true) (hl0 : k < fs.length) (d : decode cc pc = .ok (.putfield index, 3))
    (kk : J p l e R s m args below meth c D A nL Q cells slots (hup h a (.inr (ci, fs.set k v))) (pc + 3) lo st) : J p l e R s m args below meth c D A nL Q cells slots h pc lo (v :: .ref a :: st) := by
  intro H locs ls hH hS hl
  have hts := E.u hin
  have hap := va_apart (own := own) hts (fun _ h => h) ty0 hty hnm E.K hcl
  obtain ⟨hA, r, h1, cell, q1, q2, q3, q4⟩ := hH a _ hc
  have hr : r = (C, T, N) := Option.some.inj (h1.symm.trans hcl)
  subst hr
  obtain ⟨hSl, hfc, kC, hkC, hkind⟩ := E.K.1 ci _ hcl
  obtain ⟨cf, kf, fi, f, hi, hsl⟩ := hSl k hk
  have hlay := hts _ (u_in_lay hk)
  unfold u_lay at hlay
  rw [if_neg (by rw [hfin]; decide)] at hlay
  have hst := (u_facts hfc hkC (u_lays hts (fun _ h => h) hk) hi).1
  have h6 := u_store hfc hkC hkind hlay hi (by rw [hty k hk, hd]) hn hfit
  refine W.putK E.x E.b (f := f) ⟨E.ow, hlink, ⟨_, _, _, hi⟩, hst⟩ (by rw [q2]; exact h6) q1 q3 (by rw [hsl]; exact k2_hasslot (q4 k hk)) rfl rfl d fun H' e1 e2 e3 => ?_
  rw [hsl] at e1 ⊢
  exact kk H' _ ls (hH.put hc ⟨_, hcl, t_OB.to (V := updV (vp_V fs) k v) ⟨_, e1, q2, q3, t_set q4 hap hk v⟩ (fun j _ => vp_updV_set hl0 v j)⟩ e3) (hS.put e2 e3 hA) hl
theorem j_putF (E : Cx p l s m args meth c cc nL own D A) {C : String} {T : u_T} {N ci index a : Nat} {fs : List Value} {v : Value} {ty : FieldType} (hc : h a = some (.inr (ci, fs))) (hcl : jcl[ci]? = some (C, T, N)) (k : Nat) (hk : k < N) (hin : uOK C T N) (ty0 : Nat → FieldType) (hty : ∀ k, k < N → parseFieldDescriptor (T k).2.2.1 = some (ty0 k)) (hnm : ∀ a, a < N → ∀ b, b < N → a ≠ b → (T a).2.1 ≠ (T b).2.1) (hlink : (Cond.fieldLink own index (T k).1 (T k).2.1 (T k).2.2.1).before args s = true) (hfin : (T k).2.2.2 = true) (hin2 : meth.name = "<init>") (hdecl : (T k).1 = own) (hd : ty0 k = ty) (hn : narrow ty v = v) (hfit : fits ty v = true) (hl0 : k < fs.length) (d : decode cc pc = .ok (.putfield index, 3))
    (kk : J p l e R s m args below meth c D A nL Q cells slots (hup h a (.inr (ci, fs.set k v))) (pc + 3) lo st) : J p l e R s m args below meth c D A nL Q cells slots h pc lo (v :: .ref a :: st) := by
  intro H locs ls hH hS hl
  have hts := E.u hin
  have hap := va_apart (own := own) hts (fun _ h => h) ty0 hty hnm E.K hcl
  obtain ⟨hA, r, h1, cell, q1, q2, q3, q4⟩ := hH a _ hc
  have hr : r = (C, T, N) := Option.some.inj (h1.symm.trans hcl)
  subst hr
  obtain ⟨hSl, hfc, kC, hkC, hkind⟩ := E.K.1 ci _ hcl
  obtain ⟨cf, kf, fi, f, hi, hsl⟩ := hSl k hk
  have hlay := hts _ (u_in_lay hk)
  unfold u_lay at hlay
  rw [if_pos hfin] at hlay
  have hst := (u_facts hfc hkC (u_lays hts (fun _ h => h) hk) hi).1
  have hcf : m.cls = cf := by
    obtain ⟨_, _, c', _, _, _, -, -, hf', -, -, -, hown2, -⟩ := Cond.laysFinal_spec hlay
    have e1 : c' = cf := by have := hi.symm.trans hf'; simp at this; exact this.1.symm
    rw [hdecl] at hown2
    rw [← e1]; exact Option.some.inj (E.ow.symm.trans hown2)
  have h6 := u_fits hfc hkC hkind (Or.inr hlay) hi (by rw [hty k hk, hd]) hn hfit
  refine W.putFinK E.x E.b E.ow hlink hi hst hcf hin2 (by rw [q2]; exact h6) q1 q3 (by rw [hsl]; exact k2_hasslot (q4 k hk)) rfl rfl d fun H' e1 e2 e3 => ?_
  rw [hsl] at e1 ⊢
  exact kk H' _ ls (hH.put hc ⟨_, hcl, t_OB.to (V := updV (vp_V fs) k v) ⟨_, e1, q2, q3, t_set q4 hap hk v⟩ (fun j _ => vp_updV_set hl0 v j)⟩ e3) (hS.put e2 e3 hA) hl
theorem j_iald (E : Cx p l s m args meth c cc nL own D A) {a n : Nat} {f : Nat → Int32} {i : Int32} (hc : h a = some (.inl (.int, (n, .inl f)))) (hin : vp_in i n) (d : decode cc pc = .ok (.iaload, 1))
    (kk : J p l e R s m args below meth c D A nL Q cells slots h (pc + 1) lo (.int (f i.toNatClampNeg) :: st)) : J p l e R s m args below meth c D A nL Q cells slots h pc lo (.int i :: .ref a :: st) := by
  intro H locs ls hH hS hl
  obtain ⟨-, cA, hT, -, hq⟩ := hH a _ hc
  have hlt : i.toNatClampNeg < n := Nat.not_le.mp fun q => hin (Or.inr q)
  exact W.iald (v := .int (f i.toNatClampNeg)) E.x E.b hq (hT n (fun j => .int (f j))) (fun q => by cases q) (by show ¬ (i < 0 ∨ (arrV _ _ _).slots.size ≤ _); rw [arrV_size]; exact hin) (by show (arrV _ _ _).slots[_]? = _; rw [arrV_read _ _ hlt]) rfl rfl d (kk H locs ls hH hS hl)
theorem j_zald (E : Cx p l s m args meth c cc nL own D A) {a n : Nat} {f : Nat → Int32} {i : Int32} (hc : h a = some (.inl (.boolean, (n, .inl f)))) (hin : vp_in i n) (d : decode cc pc = .ok (.baload, 1))
    (kk : J p l e R s m args below meth c D A nL Q cells slots h (pc + 1) lo (.int (f i.toNatClampNeg) :: st)) : J p l e R s m args below meth c D A nL Q cells slots h pc lo (.int i :: .ref a :: st) := by
  intro H locs ls hH hS hl
  obtain ⟨-, cA, hT, -, hq⟩ := hH a _ hc
  have hlt : i.toNatClampNeg < n := Nat.not_le.mp fun q => hin (Or.inr q)
  exact W.zald (v := .int (f i.toNatClampNeg)) E.x E.b hq (hT n (fun j => .int (f j))) (fun q => by cases q) (by show ¬ (i < 0 ∨ (arrV _ _ _).slots.size ≤ _); rw [arrV_size]; exact hin) (by show (arrV _ _ _).slots[_]? = _; rw [arrV_read _ _ hlt]) rfl rfl d (kk H locs ls hH hS hl)
theorem j_lald (E : Cx p l s m args meth c cc nL own D A) {a n : Nat} {f : Nat → Int64} {i : Int32} (hc : h a = some (.inl (.long, (n, .inr (.inl f))))) (hin : vp_in i n) (d : decode cc pc = .ok (.laload, 1))
    (kk : J p l e R s m args below meth c D A nL Q cells slots h (pc + 1) lo (.long (f i.toNatClampNeg) :: st)) : J p l e R s m args below meth c D A nL Q cells slots h pc lo (.int i :: .ref a :: st) := by
  intro H locs ls hH hS hl
  obtain ⟨-, cA, hT, -, hq⟩ := hH a _ hc
  have hlt : i.toNatClampNeg < n := Nat.not_le.mp fun q => hin (Or.inr q)
  exact W.lald (v := .long (f i.toNatClampNeg)) E.x E.b hq (hT n (fun j => .long (f j))) (fun q => by cases q) (by show ¬ (i < 0 ∨ (arrV _ _ _).slots.size ≤ _); rw [arrV_size]; exact hin) (by show (arrV _ _ _).slots[_]? = _; rw [arrV_read _ _ hlt]) rfl rfl d (kk H locs ls hH hS hl)
theorem j_dald (E : Cx p l s m args meth c cc nL own D A) {a n : Nat} {f : Nat → UInt64} {i : Int32} (hc : h a = some (.inl (.double, (n, .inr (.inr (.inr (.inl f))))))) (hin : vp_in i n) (d : decode cc pc = .ok (.daload, 1))
    (kk : J p l e R s m args below meth c D A nL Q cells slots h (pc + 1) lo (.double (f i.toNatClampNeg) :: st)) : J p l e R s m args below meth c D A nL Q cells slots h pc lo (.int i :: .ref a :: st) := by
  intro H locs ls hH hS hl
  obtain ⟨-, cA, hT, -, hq⟩ := hH a _ hc
  have hlt : i.toNatClampNeg < n := Nat.not_le.mp fun q => hin (Or.inr q)
  exact W.dald (v := .double (f i.toNatClampNeg)) E.x E.b hq (hT n (fun j => .double (f j))) (fun q => by cases q) (by show ¬ (i < 0 ∨ (arrV _ _ _).slots.size ≤ _); rw [arrV_size]; exact hin) (by show (arrV _ _ _).slots[_]? = _; rw [arrV_read _ _ hlt]) rfl rfl d (kk H locs ls hH hS hl)
theorem j_aald (E : Cx p l s m args meth c cc nL own D A) {a n : Nat} {f : Nat → Option Nat} {ty : FieldType} {i : Int32} (hc : h a = some (.inl (ty, (n, .inr (.inr (.inr (.inr f))))))) (hty : ty.isReference = true) (hin : vp_in i n) (d : decode cc pc = .ok (.aaload, 1))
    (kk : J p l e R s m args below meth c D A nL Q cells slots h (pc + 1) lo (va_rf (f i.toNatClampNeg) :: st)) : J p l e R s m args below meth c D A nL Q cells slots h pc lo (.int i :: .ref a :: st) := by
  intro H locs ls hH hS hl
  obtain ⟨-, cA, hT, -, hq⟩ := hH a _ hc
  have hlt : i.toNatClampNeg < n := Nat.not_le.mp fun q => hin (Or.inr q)
  exact W.aald (v := va_rf (f i.toNatClampNeg)) E.x E.b hq (hT n (fun j => va_rf (f j))) hty (fun q => by cases q) (by show ¬ (i < 0 ∨ (arrV _ _ _).slots.size ≤ _); rw [arrV_size]; exact hin) (by show (arrV _ _ _).slots[_]? = _; rw [arrV_read _ _ hlt]) rfl rfl d (kk H locs ls hH hS hl)
theorem j_iast (E : Cx p l s m args meth c cc nL own D A) {a n : Nat} {f : Nat → Int32} {i : Int32} {x : Int32} (hc : h a = some (.inl (.int, (n, .inl f)))) (hin : vp_in i n) (d : decode cc pc = .ok (.iastore, 1))
    (kk : J p l e R s m args below meth c D A nL Q cells slots (hup h a (.inl (.int, (n, .inl (fup f i.toNatClampNeg x))))) (pc + 1) lo st) : J p l e R s m args below meth c D A nL Q cells slots h pc lo (.int x :: .int i :: .ref a :: st) := by
  intro H locs ls hH hS hl
  obtain ⟨hA, cA, hT, hT2, hq⟩ := hH a _ hc
  refine W.iast E.x E.b hq (hT n (fun j => .int (f j))) (fun q => by cases q) (by show ¬ (i < 0 ∨ (arrV _ _ _).slots.size ≤ _); rw [arrV_size]; exact hin) rfl rfl d fun H1 e1 z oq => ?_
  refine kk H1 _ ls (hH.put hc ⟨cA, hT, hT2, ?_⟩ oq) (hS.put z oq hA) hl
  show H1[a]? = some (vp_cell _ _)
  rw [e1]
  rw [vp_cell_i, vp_cell_i, arrV_store]
  congr 2
  funext q
  by_cases hq2 : q = i.toNatClampNeg
  · subst hq2
    simp [updV, fup]
  · simp [updV, fup, hq2]
theorem j_zast (E : Cx p l s m args meth c cc nL own D A) {a n : Nat} {f : Nat → Int32} {i : Int32} {x : Int32} (hc : h a = some (.inl (.boolean, (n, .inl f)))) (hin : vp_in i n) (hx : narrow .boolean (.int x) = .int x) (d : decode cc pc = .ok (.bastore, 1))
    (kk : J p l e R s m args below meth c D A nL Q cells slots (hup h a (.inl (.boolean, (n, .inl (fup f i.toNatClampNeg x))))) (pc + 1) lo st) : J p l e R s m args below meth c D A nL Q cells slots h pc lo (.int x :: .int i :: .ref a :: st) := by
  intro H locs ls hH hS hl
  obtain ⟨hA, cA, hT, hT2, hq⟩ := hH a _ hc
  refine W.zast E.x E.b hq (hT n (fun j => .int (f j))) (fun q => by cases q) (by show ¬ (i < 0 ∨ (arrV _ _ _).slots.size ≤ _); rw [arrV_size]; exact hin) rfl rfl d fun H1 e1 z oq => ?_
  refine kk H1 _ ls (hH.put hc ⟨cA, hT, hT2, ?_⟩ oq) (hS.put z oq hA) hl
  show H1[a]? = some (vp_cell _ _)
  rw [e1, hx]
  rw [vp_cell_i, vp_cell_i, arrV_store]
  congr 2
  funext q
  by_cases hq2 : q = i.toNatClampNeg
  · subst hq2
    simp [updV, fup]
  · simp [updV, fup, hq2]
theorem j_last (E : Cx p l s m args meth c cc nL own D A) {a n : Nat} {f : Nat → Int64} {i : Int32} {x : Int64} (hc : h a = some (.inl (.long, (n, .inr (.inl f))))) (hin : vp_in i n) (d : decode cc pc = .ok (.lastore, 1))
    (kk : J p l e R s m args below meth c D A nL Q cells slots (hup h a (.inl (.long, (n, .inr (.inl (fup f i.toNatClampNeg x)))))) (pc + 1) lo st) : J p l e R s m args below meth c D A nL Q cells slots h pc lo (.long x :: .int i :: .ref a :: st) := by
  intro H locs ls hH hS hl
  obtain ⟨hA, cA, hT, hT2, hq⟩ := hH a _ hc
  refine W.last E.x E.b hq (hT n (fun j => .long (f j))) (fun q => by cases q) (by show ¬ (i < 0 ∨ (arrV _ _ _).slots.size ≤ _); rw [arrV_size]; exact hin) rfl rfl d fun H1 e1 z oq => ?_
  refine kk H1 _ ls (hH.put hc ⟨cA, hT, hT2, ?_⟩ oq) (hS.put z oq hA) hl
  show H1[a]? = some (vp_cell _ _)
  rw [e1]
  rw [vp_cell_l, vp_cell_l, arrV_store]
  congr 2
  funext q
  by_cases hq2 : q = i.toNatClampNeg
  · subst hq2
    simp [updV, fup]
  · simp [updV, fup, hq2]
theorem j_dast (E : Cx p l s m args meth c cc nL own D A) {a n : Nat} {f : Nat → UInt64} {i : Int32} {x : UInt64} (hc : h a = some (.inl (.double, (n, .inr (.inr (.inr (.inl f))))))) (hin : vp_in i n) (d : decode cc pc = .ok (.dastore, 1))
    (kk : J p l e R s m args below meth c D A nL Q cells slots (hup h a (.inl (.double, (n, .inr (.inr (.inr (.inl (fup f i.toNatClampNeg x)))))))) (pc + 1) lo st) : J p l e R s m args below meth c D A nL Q cells slots h pc lo (.double x :: .int i :: .ref a :: st) := by
  intro H locs ls hH hS hl
  obtain ⟨hA, cA, hT, hT2, hq⟩ := hH a _ hc
  refine W.dast E.x E.b hq (hT n (fun j => .double (f j))) (fun q => by cases q) (by show ¬ (i < 0 ∨ (arrV _ _ _).slots.size ≤ _); rw [arrV_size]; exact hin) rfl rfl d fun H1 e1 z oq => ?_
  refine kk H1 _ ls (hH.put hc ⟨cA, hT, hT2, ?_⟩ oq) (hS.put z oq hA) hl
  show H1[a]? = some (vp_cell _ _)
  rw [e1]
  rw [vp_cell_d, vp_cell_d, arrV_store]
  congr 2
  funext q
  by_cases hq2 : q = i.toNatClampNeg
  · subst hq2
    simp [updV, fup]
  · simp [updV, fup, hq2]
theorem j_aast (E : Cx p l s m args meth c cc nL own D A) {a n v ci : Nat} {vs : List Value} {f : Nat → Option Nat} {C : String} {T : u_T} {N : Nat} {i : Int32} (hc : h a = some (.inl (.object C, (n, .inr (.inr (.inr (.inr f))))))) (hv : h v = some (.inr (ci, vs))) (hcl : jcl[ci]? = some (C, T, N)) (hin : vp_in i n) (d : decode cc pc = .ok (.aastore, 1))
    (kk : J p l e R s m args below meth c D A nL Q cells slots (hup h a (.inl (.object C, (n, .inr (.inr (.inr (.inr (fup f i.toNatClampNeg (some v))))))))) (pc + 1) lo st) : J p l e R s m args below meth c D A nL Q cells slots h pc lo (.ref v :: .int i :: .ref a :: st) := by
  intro H locs ls hH hS hl
  obtain ⟨hA, cA, hT, hT2, hq⟩ := hH a _ hc
  obtain ⟨-, r', hr', cellV, g1, g2, g3, -⟩ := hH v _ hv
  have hlt : i.toNatClampNeg < n := Nat.not_le.mp fun q => hin (Or.inr q)
  have h0 : ¬ i < 0 := fun q => hin (Or.inl q)
  have hcls := (E.K.1 ci _ hcl).2
  obtain ⟨kA, comp, k1, k2, k3, -⟩ := id hT2
  have hcomp : comp = D.1 ci := Option.some.inj (k3.symm.trans hcls.1)
  subst hcomp
  obtain ⟨kC, hkC, -⟩ := hcls.2
  refine W.aast E.x E.b hq (fun q h => by cases h) (fun h => by cases h) k1 k2 rfl hkC ⟨h0, by show _ < (arrV _ _ _).slots.size; rw [arrV_size]; exact hlt⟩ g1 (fun q h => by rw [g3] at h; cases h) (by rw [g2]; exact hkC) (by rw [g2]; exact va_assign hcls) rfl rfl d fun H1 e1 z oq => ?_
  refine kk H1 _ ls (hH.put hc ⟨cA, hT, hT2, ?_⟩ oq) (hS.put z oq hA) hl
  show H1[a]? = some (vp_cell _ _)
  rw [e1]
  rw [vp_cell_q, vp_cell_q, arrV_store]
  congr 2
  funext q
  by_cases hq2 : q = i.toNatClampNeg
  · subst hq2
    simp [updV, fup, va_rf]
  · simp [updV, fup, hq2]
theorem j_aastN (E : Cx p l s m args meth c cc nL own D A) {a n : Nat} {f : Nat → Option Nat} {C : String} {i : Int32} (hc : h a = some (.inl (.object C, (n, .inr (.inr (.inr (.inr f))))))) (hin : vp_in i n) (d : decode cc pc = .ok (.aastore, 1))
    (kk : J p l e R s m args below meth c D A nL Q cells slots (hup h a (.inl (.object C, (n, .inr (.inr (.inr (.inr (fup f i.toNatClampNeg none)))))))) (pc + 1) lo st) : J p l e R s m args below meth c D A nL Q cells slots h pc lo (.null :: .int i :: .ref a :: st) := by
  intro H locs ls hH hS hl
  obtain ⟨hA, cA, hT, hT2, hq⟩ := hH a _ hc
  refine va_WaastN (C := C) E.x E.b hq (hT n (fun j => va_rf (f j))) (fun h => by cases h) (by show ¬ (i < 0 ∨ (arrV _ _ _).slots.size ≤ _); rw [arrV_size]; exact hin) rfl rfl d fun H1 e1 z oq => ?_
  refine kk H1 _ ls (hH.put hc ⟨cA, hT, hT2, ?_⟩ oq) (hS.put z oq hA) hl
  show H1[a]? = some (vp_cell _ _)
  rw [e1]
  rw [vp_cell_q, vp_cell_q, arrV_store]
  congr 2
  funext q
  by_cases hq2 : q = i.toNatClampNeg
  · subst hq2
    simp [updV, fup, va_rf]
  · simp [updV, fup, hq2]
theorem j_alen (E : Cx p l s m args meth c cc nL own D A) {a : Nat} {ty : FieldType} {x : vp_A} {v : Int32} (hc : h a = some (.inl (ty, x))) (hv : Int32.ofNat x.1 = v) (d : decode cc pc = .ok (.arraylength, 1))
    (kk : J p l e R s m args below meth c D A nL Q cells slots h (pc + 1) lo (.int v :: st)) : J p l e R s m args below meth c D A nL Q cells slots h pc lo (.ref a :: st) := by
  intro H locs ls hH hS hl
  obtain ⟨-, cA, hT, -, hq⟩ := hH a _ hc
  subst hv
  have K := kk H locs ls hH hS hl
  obtain ⟨n, f | f | f | f | f⟩ := x
  · exact W.alen (n := Int32.ofNat n) E.x E.b hq (hT n (fun j => .int (f j))) (by rw [vp_cell_i, arrV_size] <;> rfl) rfl rfl d K
  · exact W.alen (n := Int32.ofNat n) E.x E.b hq (hT n (fun j => .long (f j))) (by rw [vp_cell_l, arrV_size] <;> rfl) rfl rfl d K
  · exact W.alen (n := Int32.ofNat n) E.x E.b hq (hT n (fun j => .float (f j))) (by rw [vp_cell_f, arrV_size] <;> rfl) rfl rfl d K
  · exact W.alen (n := Int32.ofNat n) E.x E.b hq (hT n (fun j => .double (f j))) (by rw [vp_cell_d, arrV_size] <;> rfl) rfl rfl d K
  · exact W.alen (n := Int32.ofNat n) E.x E.b hq (hT n (fun j => va_rf (f j))) (by rw [vp_cell_q, arrV_size] <;> rfl) rfl rfl d K
theorem j_new (E : Cx p l s m args meth c cc nL own D A) {C : String} {T : u_T} {N ci index : Nat} {fs : List Value} (hcl : jcl[ci]? = some (C, T, N)) (hin : uOK C T N) (ty : Nat → FieldType) (hty : ∀ k, k < N → parseFieldDescriptor (T k).2.2.1 = some (ty k)) (hcli : (Cond.classLink own index C).before args s = true) (hinst : (Cond.instantiable C N).before args s = true) (hini : (Cond.initialized C).before args s = true) (hfs : ∀ j, j < N → defaultValue (ty j) = vp_V fs j) (hr : cells + 1 ≤ R.cells ∧ slots + N ≤ R.slots) (d : decode cc pc = .ok (.new index, 3))
    (kk : ∀ q : Nat, h q = none → J p l e R s m args below meth c D A nL Q (cells + 1) (slots + N) (hup h q (.inr (ci, fs))) (pc + 3) lo (.ref q :: st)) : J p l e R s m args below meth c D A nL Q cells slots h pc lo st := by
  intro H locs ls hH hS hl
  have hKn := E.K.1 ci _ hcl
  refine W.newcK E.x E.b E.ow hcli hinst hini rfl d hr.1 hr.2 hKn.2.1 rfl fun H1 kC hkC e1 z1 o1 => ?_
  refine kk H.size (hH.free (Nat.le_refl _)) H1 locs ls (hH.push rfl (E.hA _ hS.1) ⟨_, hcl, (u_born ty (E.u hin) (fun _ h => h) hKn hkC e1 hty).to hfs⟩ (fun q hq => o1 q hq)) ⟨Nat.le_trans hS.1 (by omega), fun x h1 h2 => (o1 x (Nat.lt_of_lt_of_le h1 hS.1)).trans (hS.2.1 x h1 h2), hS.2.2⟩ hl
theorem j_newa (E : Cx p l s m args meth c cc nL own D A) {atype : ArrayType} {ty : FieldType} {a0 : vp_A} {n : Int32} {N : Nat} (harr : (Cond.arrayClass (newarray.typeOf atype)).before args s = true) (hty : newarray.typeOf atype = ty) (ha : ∀ cA : ClassId, vp_cell cA a0 = arrV cA N (fun _ => defaultValue ty)) (hn : ¬ n < 0) (hN : n.toNatClampNeg = N) (hbytes : N * componentBytes ty ≤ 536870912) (hr : cells + 1 ≤ R.cells ∧ slots + N ≤ R.slots) (d : decode cc pc = .ok (.newarray atype, 2))
    (kk : ∀ q : Nat, h q = none → J p l e R s m args below meth c D A nL Q (cells + 1) (slots + N) (hup h q (.inl (ty, a0))) (pc + 2) lo (.ref q :: st)) : J p l e R s m args below meth c D A nL Q cells slots h pc lo (.int n :: st) := by
  intro H locs ls hH hS hl
  subst hty
  refine va_newaK E.x E.b harr rfl d rfl hn hN hbytes hr.1 hr.2 rfl fun H1 cA e1 z1 o1 hAr hNm => ?_
  refine kk H.size (hH.free (Nat.le_refl _)) H1 locs ls (hH.push rfl (E.hA _ hS.1) ⟨cA, hAr, by cases atype <;> exact hNm, ?_⟩ (fun q hq => o1 q hq)) ⟨Nat.le_trans hS.1 (by omega), fun x h1 h2 => (o1 x (Nat.lt_of_lt_of_le h1 hS.1)).trans (hS.2.1 x h1 h2), hS.2.2⟩ hl
  show H1[H.size]? = some (vp_cell _ _)
  rw [ha]
  exact e1
theorem j_newq (E : Cx p l s m args meth c cc nL own D A) {C : String} {index : Nat} {n : Int32} {N : Nat} (hclink : (Cond.classLink own index C).before args s = true) (hover : (Cond.arrayOver (.object C)).before args s = true) (hn : ¬ n < 0) (hN : n.toNatClampNeg = N) (hbytes : N * 4 ≤ 536870912) (hr : cells + 1 ≤ R.cells ∧ slots + N ≤ R.slots) (d : decode cc pc = .ok (.anewarray index, 3))
    (kk : ∀ q : Nat, h q = none → J p l e R s m args below meth c D A nL Q (cells + 1) (slots + N) (hup h q (.inl (.object C, (N, .inr (.inr (.inr (.inr (fun _ => none)))))))) (pc + 3) lo (.ref q :: st)) : J p l e R s m args below meth c D A nL Q cells slots h pc lo (.int n :: st) := by
  intro H locs ls hH hS hl
  subst hN
  refine W.anew E.x E.b E.ow hclink hover rfl d rfl hn hbytes hr.1 hr.2 fun cA kA comp f1 f2 f3 f4 => ?_
  generalize hH1 : H.push ({ cls := cA, slots := Array.replicate n.toNatClampNeg .null, vm := .none } : Cell) = H1
  have z1 : H1.size = H.size + 1 := by rw [← hH1, Array.size_push]
  have e1 : H1[H.size]? = some (arrV cA n.toNatClampNeg (fun _ => .null)) := by rw [← hH1, Array.getElem?_push_size, ← arrV_new]
  have o1 : ∀ q : Nat, q < H.size → H1[q]? = H[q]? := fun q hq => by rw [← hH1, Array.getElem?_push, if_neg (Nat.ne_of_lt hq)]
  have hAr : ArrOfT s cA (.object C) := fun N z => ⟨(fun k h => by cases h), kA, f2, comp, f3⟩
  refine kk H.size (hH.free (Nat.le_refl _)) H1 locs ls (hH.push rfl (E.hA _ hS.1) ⟨cA, hAr, ⟨kA, comp, f2, f3, f4, f1⟩, ?_⟩ o1) ⟨Nat.le_trans hS.1 (by omega), fun x h1 h2 => (o1 x (Nat.lt_of_lt_of_le h1 hS.1)).trans (hS.2.1 x h1 h2), hS.2.2⟩ hl
  show H1[H.size]? = some (vp_cell _ _)
  rw [vp_cell_q]
  exact e1
end JH
end
section
/-! contracts over the abstract heap: what a method answers and leaves, or which exceptions it throws, the heap as it was -/
def Afr (h : AH) (sz : Nat) : Nat → Prop := fun q => (∃ e : AE, h q = some e) ∨ sz ≤ q
def Pcs (D : va_G) (av : List Value) (h : AH) (sz : Nat) : Array Value → State → Prop := va_Pc av (fun U => U.heap.size = sz ∧ Hold D (Afr h sz) h U U.heap ∧ Wd D (Afr h sz) U)
def Qcs (D : va_G) (h : AH) (sz : Nat) (Post : Option Value → AH → Prop) : Array Value → State → Outcome → State → Prop := fun _ st o t => (∃ (v : Option Value) (h' : AH), o = .returned v ∧ Post v h' ∧ Hold D (Afr h sz) h' t t.heap) ∧ va_F (Afr h sz) st t
def Xcs (D : va_G) (h : AH) (sz : Nat) (PX : String → Prop) : String → State → State → Prop := fun E st t => (PX E ∧ Hold D (Afr h sz) h t t.heap) ∧ va_F (Afr h sz) st t
def Ctr (l : Launch) (D : va_G) (y : MethodName) (cc : ByteArray) (maxL : Nat) (ret : Option FieldType) (f L mc ms : Nat) (av : List Value) (h : AH) (PX : String → Prop) (Post : Option Value → AH → Prop) : Prop :=
  l.stackTraces = false → ∀ sz : Nat, vx_Met l y [Cond.code y cc maxL ret] { frames := f, cells := mc, slots := ms, locals := L } (Pcs D av h sz) (Qcs D h sz Post) (Xcs D h sz PX) mc ms (Afr h sz)
theorem Pcs.blind {D : va_G} {av : List Value} {h : AH} {sz : Nat} : FrameBlind (Pcs D av h sz) := fun a U g mk hp => by
  obtain ⟨q0, q1, q2, q3⟩ := hp
  exact ⟨q0, q1, Hold.moved (u := U) (U := U.calling g mk a) (Vm.Alike.refl U.vm) q2, q3.calling g mk a⟩
theorem Ctr.of {l : Launch} {D : va_G} {y : MethodName} {cc : ByteArray} {maxL : Nat} {ret : Option FieldType} {f L mc ms : Nat} {av : List Value} {h : AH} {PX : String → Prop} {Post : Option Value → AH → Prop} (own : String) (hown : y.cls = own) (hy : plainName y.cls = true) (hav : (lg_sl av).length ≤ maxL)
    (body : ∀ (sz : Nat) (p : Program) (e : Env) (s : State) (m : MethodId) (below : List Frame) (meth : Method) (c : Code), Cx p l s m av.toArray meth c cc maxL own D (Afr h sz) → meth.name = y.name → meth.sig.returnType = ret → (∀ x ∈ c.exceptionTable.toList, False) →
      J p l e { frames := f, cells := mc, slots := ms, locals := L } s m av.toArray below meth c D (Afr h sz) maxL (vx_MQ below (Qcs D h sz Post) (Xcs D h sz PX) av.toArray s mc ms (Afr h sz)) 0 0 h 0 (lv_args 0 av) []) : Ctr l D y cc maxL ret f L mc ms av h PX Post := by
  intro htr sz
  refine vx_ofW hy rfl ?_
  intro p e s m args below meth c s₁ B hml ht hv
  obtain ⟨rfl, hsz, hH, hW⟩ := hv
  have hl := lv_entry av hav
  rw [lg_entry_eq]
  exact body sz p e s m below meth c ⟨B.exec, B.bytes, hml, by rw [← hown]; exact findClass_of_methodNamed B.named, B.notSynchronized, htr, hW, fun q hq => Or.inr (hsz ▸ hq)⟩ (name_of_methodNamed B.named B.method).1 B.returns ht s.heap [] _ hH va_S.rf hl
/-- a method with a table of its own -/
def CtrW (l : Launch) (D : va_G) (y : MethodName) (cc : ByteArray) (maxL : Nat) (ret : Option FieldType) (hh : List (Nat × Nat × Nat × Nat)) (f L mc ms : Nat) (av : List Value) (h : AH) (PX : String → Prop) (Post : Option Value → AH → Prop) : Prop :=
  l.stackTraces = false → ∀ sz : Nat, vx_Met l y [Cond.codeWith y cc maxL ret hh] { frames := f, cells := mc, slots := ms, locals := L } (Pcs D av h sz) (Qcs D h sz Post) (Xcs D h sz PX) mc ms (Afr h sz)
theorem CtrW.of {l : Launch} {D : va_G} {y : MethodName} {cc : ByteArray} {maxL : Nat} {ret : Option FieldType} {hh : List (Nat × Nat × Nat × Nat)} {f L mc ms : Nat} {av : List Value} {h : AH} {PX : String → Prop} {Post : Option Value → AH → Prop} (own : String) (hown : y.cls = own) (hy : plainName y.cls = true) (hav : (lg_sl av).length ≤ maxL)
    (body : ∀ (sz : Nat) (p : Program) (e : Env) (s : State) (m : MethodId) (below : List Frame) (meth : Method) (c : Code), Cx p l s m av.toArray meth c cc maxL own D (Afr h sz) → meth.name = y.name → meth.sig.returnType = ret → c.exceptionTable.toList = tableOf hh →
      J p l e { frames := f, cells := mc, slots := ms, locals := L } s m av.toArray below meth c D (Afr h sz) maxL (vx_MQ below (Qcs D h sz Post) (Xcs D h sz PX) av.toArray s mc ms (Afr h sz)) 0 0 h 0 (lv_args 0 av) []) : CtrW l D y cc maxL ret hh f L mc ms av h PX Post := by
  intro htr sz
  refine vx_ofWH hy rfl ?_
  intro p e s m args below meth c s₁ B hml hv
  obtain ⟨rfl, hsz, hH, hW⟩ := hv
  have hl := lv_entry av hav
  rw [lg_entry_eq]
  exact body sz p e s m below meth c ⟨B.exec, B.bytes, hml, by rw [← hown]; exact findClass_of_methodNamed B.named, B.notSynchronized, htr, hW, fun q hq => Or.inr (hsz ▸ hq)⟩ (name_of_methodNamed B.named B.method).1 B.returns (vx_table (x := y) B (atoms_spec (ws := [Cond.codeWith y cc maxL ret hh]) B.pre _ List.mem_cons_self)) s.heap [] _ hH va_S.rf hl
/-- a method that never throws, as an ordinary contract -/
theorem Ctr.met {l : Launch} {D : va_G} {y : MethodName} {cc : ByteArray} {maxL : Nat} {ret : Option FieldType} {f L mc ms : Nat} {av : List Value} {h : AH} {Post : Option Value → AH → Prop} (hC : Ctr l D y cc maxL ret f L mc ms av h (fun _ => False) Post) (htr : l.stackTraces = false) (sz : Nat) :
    Met l y [Cond.code y cc maxL ret] { frames := f, cells := mc, slots := ms, locals := L } (Pcs D av h sz) (Qcs D h sz Post) mc ms (Afr h sz) := by
  intro p e ha hc hk s m args below hf happ hP hK
  obtain ⟨n, o, h1, h2, h3, h4⟩ := hC htr sz p e ha hc hk s m args below hf happ hP hK
  rcases h4 with ⟨hq, hL⟩ | ⟨q, -, Ex, ce, L9, ⟨⟨hx, -⟩, -⟩, -⟩
  · exact ⟨n, o, h1, h2, h3, hq, hL⟩
  · exact hx.elim
section JC
variable {p : Program} {l : Launch} {e : Env} {R : Room} {s : State} {m : MethodId} {args : Array Value} {below : List Frame} {meth : Method} {c : Code} {cc : ByteArray} {nL : Nat} {own : String} {D : va_G} {A : Nat → Prop} {Q : State → Prop} {cells slots : Nat} {h : AH} {pc : Nat} {lo : List (Nat × Value)} {st : List Value}
theorem Cx.afr (E : Cx p l s m args meth c cc nL own D A) {H : Heap} {locs : List Loc} (hH : Hold D A h s H) (hS : va_S A s.heap H locs) : ∀ q, Afr h H.size q → A q := by
  intro q hq
  rcases hq with ⟨e9, he⟩ | hq
  · exact (hH q e9 he).1
  · exact E.hA q (Nat.le_trans hS.1 hq)
theorem Cx.pcs (E : Cx p l s m args meth c cc nL own D A) {H : Heap} {locs : List Loc} {hc : AH} (hH : Hold D A h s H) (hS : va_S A s.heap H locs) (hsub : ∀ a e9, hc a = some e9 → h a = some e9) (av : List Value) : ∀ U : State, U.heap = H → s.WarmedH U.vm → Pcs D av hc H.size av.toArray U := by
  intro U hU hW
  have hA := E.afr (h := hc) (fun a e9 he => hH a e9 (hsub a e9 he)) hS
  refine ⟨rfl, by rw [hU], fun a e9 he => ⟨Or.inl ⟨e9, he⟩, ?_⟩, E.wd.later hW (fun a h1 h2 => by rw [hU]; exact hS.2.1 a h1 h2) hA⟩
  rw [hU]
  exact ((hH a e9 (hsub a e9 he)).2).moved hW.alike
/-- behind a call: the walk goes on over the heap that came back, or the exception is over the frame -/
theorem j_go (E : Cx p l s m args meth c cc nL own D A) {Post : Option Value → AH → Prop} {PX : String → Prop} {mc ms : Nat} {a : Array Value} {rest st0 : List Value} {hc hr : AH} (hsub : ∀ x e9, hc x = some e9 → h x = some e9) (hrest : ∀ x e9, hr x = some e9 → h x = some e9 ∧ hc x = none)
    (run : ∀ (H : Heap) (locs : List Loc) (ls : Array Slot), Hold D A h s H → va_S A s.heap H locs → lv_has ls nL lo → vx_Run p l e R s m args below meth c H locs cells slots mc ms (F0 m pc ls st0) rest (Qcs D hc H.size Post a) (Xcs D hc H.size PX) (Afr hc H.size))
    (kx : ∀ (Ex : String) (ce : Cell) (q9 : Nat) (H1 : Heap) (locs1 : List Loc) (ls : Array Slot) (h1 : AH), PX Ex → (∀ x e9, h1 x = some e9 → hc x = some e9 ∨ hr x = some e9) → (∀ x e9, hc x = some e9 → h1 x = some e9) → (∀ x e9, hr x = some e9 → h1 x = some e9) → Hold D A h1 s H1 → va_S A s.heap H1 locs1 → lv_has ls nL lo → H1[q9]? = some ce → ce.vm = .none → s.vm.findClass Ex = some ce.cls → vx_W p l e R s m args below meth c H1 locs1 (cells + mc) (slots + ms) Q (F0 m pc ls rest) q9)
    (k : ∀ (v : Option Value) (hc' h' : AH), Post v hc' → (∀ x e9, h' x = some e9 → hc' x = some e9 ∨ hr x = some e9) → (∀ x e9, hc' x = some e9 → h' x = some e9) → (∀ x e9, hr x = some e9 → h' x = some e9) → (∀ x e9, hr x = some e9 → hc' x = none) → J p l e R s m args below meth c D A nL Q (cells + mc) (slots + ms) h' (pc + 3) lo (v.toList ++ rest)) : J p l e R s m args below meth c D A nL Q cells slots h pc lo st0 := by
  intro H locs ls hH hS hl T hT X
  have hHc : Hold D A hc s H := fun x e9 he => hH x e9 (hsub x e9 he)
  have hA := E.afr (h := hc) hHc hS
  have core : ∀ (T' t : State) (L : List Loc) (hc' : AH), T'.heap = t.heap → T'.vm = t.vm → Stand p l e R s m args below meth c T' (locs ++ L) (cells + mc) (slots + ms) → (∀ z ∈ L, Afr hc H.size z.base) → Hold D (Afr hc H.size) hc' t t.heap → (∃ st₀ : State, st₀.heap = H ∧ va_F (Afr hc H.size) st₀ t) →
      ∃ h' : AH, (∀ x e9, h' x = some e9 → hc' x = some e9 ∨ hr x = some e9) ∧ (∀ x e9, hc' x = some e9 → h' x = some e9) ∧ (∀ x e9, hr x = some e9 → h' x = some e9) ∧ (∀ x e9, hr x = some e9 → hc' x = none) ∧ Hold D A h' s T'.heap ∧ va_S A s.heap T'.heap (locs ++ L) := by
    intro T' t L hc' e1 e2 X' hL hh hF
    obtain ⟨st₀, h0, hF⟩ := hF
    obtain ⟨k1, k2, k3⟩ := vx_keep h0 e1 hS (fun q _ hq => hA q hq) (fun q hq => hA q hq) hL hF
    have hal : s.vm.Alike t.vm := by rw [← e2]; exact X'.warmed.alike
    have hdis : ∀ x e9, hr x = some e9 → hc' x = none := by
      intro x e9 he
      cases hx : hc' x with
      | none => rfl
      | some f9 =>
        obtain ⟨g1, g2⟩ := hrest x e9 he
        rcases (hh x f9 hx).1 with ⟨e8, h8⟩ | h8
        · rw [g2] at h8; cases h8
        · exact absurd ((hH x e9 g1).2.lt) (by omega)
    refine ⟨fun x => match hc' x with | some e9 => some e9 | none => hr x, ?_, ?_, ?_, hdis, ?_, k3⟩
    · intro x e9 he
      cases hx : hc' x with
      | none => simp only [hx] at he; exact Or.inr he
      | some f9 => simp only [hx] at he; exact Or.inl he
    · intro x e9 he
      simp only [he]
    · intro x e9 he
      simp only [hdis x e9 he]; exact he
    · intro x e9 he
      cases hx : hc' x with
      | none =>
        simp only [hx] at he
        obtain ⟨g1, g2⟩ := hrest x e9 he
        have hlt := (hH x e9 g1).2.lt
        refine ⟨(hH x e9 g1).1, (hH x e9 g1).2.kept (k2 x hlt ?_)⟩
        rintro (⟨e8, h8⟩ | h8)
        · rw [g2] at h8; cases h8
        · omega
      | some f9 =>
        simp only [hx] at he
        have he2 : f9 = e9 := Option.some.inj he
        subst he2
        refine ⟨hA x (hh x f9 hx).1, ?_⟩
        rw [e1]
        exact ((hh x f9 hx).2).moved hal.symm
  rcases run H locs ls hH hS hl T hT X with ⟨v, st₀, t, T', L, h0, X', hL, e1, e2, ⟨⟨v', hc', hv, hp, hh⟩, hF⟩, st⟩ | ⟨q, st₀, t, T', L, Ex, ce, h0, X', hL, e1, e2, ⟨⟨hp, hh⟩, hF⟩, hce, hcv, hcl, st⟩
  · cases hv
    obtain ⟨h', g1, g2, g3, g4, g5, g6⟩ := core T' t L hc' e1 e2 X' hL hh ⟨st₀, h0, hF⟩
    obtain ⟨t2, a1, b1⟩ := k v hc' h' hp g1 g2 g3 g4 T'.heap (locs ++ L) ls g5 g6 hl T' rfl X'
    exact ⟨t2, st t2 a1, b1⟩
  · obtain ⟨h', g1, g2, g3, g4, g5, g6⟩ := core T' t L hc e1 e2 X' hL hh ⟨st₀, h0, hF⟩
    obtain ⟨t2, a1, b1⟩ := kx Ex ce q T'.heap (locs ++ L) ls h' hp g1 g2 g3 g5 g6 hl (by rw [e1]; exact hce) hcv hcl T' rfl X'
    exact ⟨t2, st.trans a1, b1⟩

/-- what a call needs of the tables and of the room -/
abbrev CW (R : Room) (s : State) (args : Array Value) (own : String) (index : Nat) (y : MethodName) (bytes : ByteArray) (maxL : Nat) (ret : Option FieldType) (f L mc ms n cells slots : Nat) (rest : List Value) : Prop :=
  (Cond.methodLink own index y).before args s = true ∧ (Cond.code y bytes maxL ret).before args s = true ∧ (Cond.initialized y.cls).before args s = true ∧ (y.cls ≠ "java/lang/invoke/MethodHandle" ∧ y.cls ≠ "java/lang/invoke/VarHandle" ∧ (parseMethodDescriptor y.desc).map (fun d => d.parameters.length) = some n) ∧ f + 1 ≤ R.frames ∧ 8 + (maxL + 11) + L ≤ R.locals ∧ cells + mc ≤ R.cells ∧ slots + ms ≤ R.slots ∧ (rest.map fun v => v.category).sum ≤ 8
theorem CW.B {index n f L mc ms : Nat} {y : MethodName} {bytes : ByteArray} {maxL : Nat} {ret : Option FieldType} {rest : List Value} (w9 : CW R s args own index y bytes maxL ret f L mc ms n cells slots rest) :
    CallB R s args own index y bytes maxL ret [Cond.code y bytes maxL ret] { frames := f, cells := mc, slots := ms, locals := L } mc ms n := by
  obtain ⟨hl, hcode, hini, hd, h1, h2, -⟩ := w9
  refine ⟨rfl, rfl, h1, h2, fun w hw a' U hW => ?_, List.mem_cons_self, hcode, hini, ⟨hd.1, hd.2.1⟩, fun sig h => ?_, hl⟩
  · rw [List.mem_singleton.mp hw]
    exact word_at hW (Or.inl (by first | rfl | simp [Cond.onTables, Cond.keeps, Cond.steady])) hcode
  · have h3 := hd.2.2
    rw [h] at h3
    exact (Option.some.inj h3).symm
theorem Cx.fix (E : Cx p l s m args meth c cc nL own D A) : CallFix p m c cc nL s args [] own := ⟨E.x, E.b, E.ml, E.ow, fun _ hw => absurd hw List.not_mem_nil⟩
theorem Cx.recv (E : Cx p l s m args meth c cc nL own D A) {H : Heap} (hH : Hold D A h s H) {b ci : Nat} {fs : List Value} {C : String} {T : u_T} {N : Nat} (hb : h b = some (.inr (ci, fs))) (hcl : jcl[ci]? = some (C, T, N)) : ∃ cell : Cell, H[b]? = some cell ∧ cell.vm.isStatics = false ∧ s.vm.findClass C = some cell.cls := by
  obtain ⟨-, r, hr, cell, g1, g2, g3, -⟩ := hH b _ hb
  exact ⟨cell, g1, by rw [g3]; rfl, by rw [g2]; exact (E.K.1 ci _ hcl).2.1⟩
theorem run_V (E : Cx p l s m args meth c cc nL own D A) {index n f L mc ms : Nat} {y : MethodName} {bytes : ByteArray} {maxL : Nat} {ret : Option FieldType} {b ci : Nat} {fs : List Value} {T9 : u_T} {N : Nat} {As rest : List Value} {Post : Option Value → AH → Prop} {PX : String → Prop} {hc : AH} (hC : Ctr l D y bytes maxL ret f L mc ms (.ref b :: As) hc PX Post) (hsub : ∀ x e9, hc x = some e9 → h x = some e9)
    (w9 : CW R s args own index y bytes maxL ret f L mc ms n cells slots rest) (hin : (Cond.instanceMethod y).before args s = true) (hse : (Cond.selects y.cls y y).before args s = true) (hb : h b = some (.inr (ci, fs))) (hcl : jcl[ci]? = some (y.cls, T9, N)) (hn : As.length = n) (d : decode cc pc = .ok (.invokevirtual index, 3)) :
    ∀ (H : Heap) (locs : List Loc) (ls : Array Slot), Hold D A h s H → va_S A s.heap H locs → lv_has ls nL lo → vx_Run p l e R s m args below meth c H locs cells slots mc ms (F0 m pc ls (As.reverse ++ .ref b :: rest)) rest (Qcs D hc H.size Post (Value.ref b :: As).toArray) (Xcs D hc H.size PX) (Afr hc H.size) := by
  intro H locs ls hH hS hl
  exact vx_runV E.fix (hC E.tr H.size) ⟨w9.B, hin, hse⟩ ⟨Pcs.blind, E.recv hH hb hcl, E.pcs hH hS hsub (.ref b :: As)⟩ rfl hn hl.1 rfl (lv_room w9.2.2.2.2.2.2.2.2) d ⟨w9.2.2.2.2.2.2.1, w9.2.2.2.2.2.2.2.1⟩
theorem run_S (E : Cx p l s m args meth c cc nL own D A) {index n f L mc ms : Nat} {y : MethodName} {bytes : ByteArray} {maxL : Nat} {ret : Option FieldType} {As rest : List Value} {Post : Option Value → AH → Prop} {PX : String → Prop} {hc : AH} (hC : Ctr l D y bytes maxL ret f L mc ms As hc PX Post) (hsub : ∀ x e9, hc x = some e9 → h x = some e9)
    (w9 : CW R s args own index y bytes maxL ret f L mc ms n cells slots rest) (hst : (Cond.static y).before args s = true) (hn : As.length = n) (d : decode cc pc = .ok (.invokestatic index, 3)) :
    ∀ (H : Heap) (locs : List Loc) (ls : Array Slot), Hold D A h s H → va_S A s.heap H locs → lv_has ls nL lo → vx_Run p l e R s m args below meth c H locs cells slots mc ms (F0 m pc ls (As.reverse ++ rest)) rest (Qcs D hc H.size Post As.toArray) (Xcs D hc H.size PX) (Afr hc H.size) := by
  intro H locs ls hH hS hl
  exact vx_runS E.fix (hC E.tr H.size) ⟨w9.B, hst⟩ ⟨Pcs.blind, E.pcs hH hS hsub As⟩ rfl hn hl.1 rfl (lv_room w9.2.2.2.2.2.2.2.2) d ⟨w9.2.2.2.2.2.2.1, w9.2.2.2.2.2.2.2.1⟩
theorem run_I (E : Cx p l s m args meth c cc nL own D A) {index n f L mc ms : Nat} {y : MethodName} {bytes : ByteArray} {maxL : Nat} {b : Nat} {As rest : List Value} {Post : Option Value → AH → Prop} {hc : AH} (hC : Ctr l D y bytes maxL none f L mc ms (.ref b :: As) hc (fun _ => False) Post) (hsub : ∀ x e9, hc x = some e9 → h x = some e9)
    (w9 : CW R s args own index y bytes maxL none f L mc ms n cells slots rest) (hin : (Cond.instanceMethod y).before args s = true) (hy1 : y.name = "<init>") (hn : As.length = n) (d : decode cc pc = .ok (.invokespecial index, 3)) :
    ∀ (H : Heap) (locs : List Loc) (ls : Array Slot), Hold D A h s H → va_S A s.heap H locs → lv_has ls nL lo → vx_Run p l e R s m args below meth c H locs cells slots mc ms (F0 m pc ls (As.reverse ++ .ref b :: rest)) rest (Qcs D hc H.size Post (Value.ref b :: As).toArray) (Xcs D hc H.size (fun _ => False)) (Afr hc H.size) := by
  intro H locs ls hH hS hl T hT X
  exact Or.inl (va_runI E.fix (hC.met E.tr H.size) ⟨w9.B, hy1, hin⟩ ⟨Pcs.blind, E.pcs hH hS hsub (.ref b :: As)⟩ rfl hn hl.1 rfl (lv_room w9.2.2.2.2.2.2.2.2) d ⟨w9.2.2.2.2.2.2.1, w9.2.2.2.2.2.2.2.1⟩ T hT X)

theorem j_callV (E : Cx p l s m args meth c cc nL own D A) {b ci : Nat} {fs : List Value} {T9 : u_T} {N : Nat} {ret : Option FieldType} {index n f L mc ms : Nat} {y : MethodName} {bytes : ByteArray} {maxL : Nat} {As rest : List Value} {Post : Option Value → AH → Prop} (hC : Ctr l D y bytes maxL ret f L mc ms (.ref b :: As) h (fun _ => False) Post)
    (w9 : CW R s args own index y bytes maxL ret f L mc ms n cells slots rest) (hin : (Cond.instanceMethod y).before args s = true) (hse : (Cond.selects y.cls y y).before args s = true) (hb : h b = some (.inr (ci, fs))) (hcl : jcl[ci]? = some (y.cls, T9, N)) (hn : As.length = n) (d : decode cc pc = .ok (.invokevirtual index, 3)) (hst : st = As.reverse ++ .ref b :: rest)
    (k : ∀ (v : Option Value) (h' : AH), Post v h' → J p l e R s m args below meth c D A nL Q (cells + mc) (slots + ms) h' (pc + 3) lo (v.toList ++ rest)) : J p l e R s m args below meth c D A nL Q cells slots h pc lo st := by
  subst hst
  refine j_go (hc := h) (hr := fun _ => none) E (fun _ _ q => q) (fun _ _ q => nomatch q) (run_V E hC (fun _ _ q => q) w9 hin hse hb hcl hn d) (fun Ex ce q9 H1 locs1 ls h1 hx => hx.elim) (fun v hc' h' hp g1 g2 _ _ => ?_)
  refine J.heap (h' := hc') g2 ?_
  exact k v hc' hp
theorem j_callS (E : Cx p l s m args meth c cc nL own D A) {ret : Option FieldType} {index n f L mc ms : Nat} {y : MethodName} {bytes : ByteArray} {maxL : Nat} {As rest : List Value} {Post : Option Value → AH → Prop} (hC : Ctr l D y bytes maxL ret f L mc ms As h (fun _ => False) Post)
    (w9 : CW R s args own index y bytes maxL ret f L mc ms n cells slots rest) (hs9 : (Cond.static y).before args s = true) (hn : As.length = n) (d : decode cc pc = .ok (.invokestatic index, 3)) (hst : st = As.reverse ++ rest)
    (k : ∀ (v : Option Value) (h' : AH), Post v h' → J p l e R s m args below meth c D A nL Q (cells + mc) (slots + ms) h' (pc + 3) lo (v.toList ++ rest)) : J p l e R s m args below meth c D A nL Q cells slots h pc lo st := by
  subst hst
  refine j_go (hc := h) (hr := fun _ => none) E (fun _ _ q => q) (fun _ _ q => nomatch q) (run_S E hC (fun _ _ q => q) w9 hs9 hn d) (fun Ex ce q9 H1 locs1 ls h1 hx => hx.elim) (fun v hc' h' hp g1 g2 _ _ => ?_)
  refine J.heap (h' := hc') g2 ?_
  exact k v hc' hp
theorem j_callI (E : Cx p l s m args meth c cc nL own D A) {b : Nat} {index n f L mc ms : Nat} {y : MethodName} {bytes : ByteArray} {maxL : Nat} {As rest : List Value} {Post : Option Value → AH → Prop} (hC : Ctr l D y bytes maxL none f L mc ms (.ref b :: As) h (fun _ => False) Post)
    (w9 : CW R s args own index y bytes maxL none f L mc ms n cells slots rest) (hin : (Cond.instanceMethod y).before args s = true) (hy1 : y.name = "<init>") (hn : As.length = n) (d : decode cc pc = .ok (.invokespecial index, 3)) (hst : st = As.reverse ++ .ref b :: rest)
    (k : ∀ (v : Option Value) (h' : AH), Post v h' → J p l e R s m args below meth c D A nL Q (cells + mc) (slots + ms) h' (pc + 3) lo (v.toList ++ rest)) : J p l e R s m args below meth c D A nL Q cells slots h pc lo st := by
  subst hst
  refine j_go (hc := h) (hr := fun _ => none) E (fun _ _ q => q) (fun _ _ q => nomatch q) (run_I E hC (fun _ _ q => q) w9 hin hy1 hn d) (fun Ex ce q9 H1 locs1 ls h1 hx => hx.elim) (fun v hc' h' hp g1 g2 _ _ => ?_)
  refine J.heap (h' := hc') g2 ?_
  exact k v hc' hp
theorem j_callVx {PX PX0 : String → Prop} {Post0 : Option Value → AH → Prop} {sz mc0 ms0 : Nat} {h0 : AH} (E : Cx p l s m args meth c cc nL own D (Afr h0 sz)) {b ci : Nat} {fs : List Value} {T9 : u_T} {N : Nat} {ret : Option FieldType} {index n f L mc ms : Nat} {y : MethodName} {bytes : ByteArray} {maxL : Nat} {As rest : List Value} {Post : Option Value → AH → Prop} (hC : Ctr l D y bytes maxL ret f L mc ms (.ref b :: As) h PX Post)
    (w9 : CW R s args own index y bytes maxL ret f L mc ms n cells slots rest) (hin : (Cond.instanceMethod y).before args s = true) (hse : (Cond.selects y.cls y y).before args s = true) (hb : h b = some (.inr (ci, fs))) (hcl : jcl[ci]? = some (y.cls, T9, N)) (hn : As.length = n) (d : decode cc pc = .ok (.invokevirtual index, 3)) (hst : st = As.reverse ++ .ref b :: rest)
    (hout : ∀ x ∈ c.exceptionTable.toList, False) (h00 : h = h0) (hPX : ∀ Ex, PX Ex → PX0 Ex) (hroom : cells + mc ≤ mc0 ∧ slots + ms ≤ ms0)
    (k : ∀ (v : Option Value) (h' : AH), Post v h' → J p l e R s m args below meth c D (Afr h0 sz) nL (vx_MQ below (Qcs D h0 sz Post0) (Xcs D h0 sz PX0) args s mc0 ms0 (Afr h0 sz)) (cells + mc) (slots + ms) h' (pc + 3) lo (v.toList ++ rest)) : J p l e R s m args below meth c D (Afr h0 sz) nL (vx_MQ below (Qcs D h0 sz Post0) (Xcs D h0 sz PX0) args s mc0 ms0 (Afr h0 sz)) cells slots h pc lo st := by
  subst hst
  refine j_go (hc := h) (hr := fun _ => none) E (fun _ _ q => q) (fun _ _ q => nomatch q) (run_V E hC (fun _ _ q => q) w9 hin hse hb hcl hn d) (fun Ex ce q9 H1 locs1 ls h1 hx a1 a2 _ hH1 hS1 hl1 hce hcv hcl => ?_) (fun v hc' h' hp g1 g2 _ _ => ?_)
  · refine vx_out (fun x hx => (hout x hx).elim) E.locks hce hcv hcl (fun t ht hal => ⟨⟨hPX _ hx, ?_⟩, hS1.F ht⟩) hS1.2.2 hroom.1 hroom.2
    rw [ht]
    intro x e9 he
    exact ((hH1.moved hal) x e9 (a2 x e9 (h00 ▸ he)))
  · refine J.heap (h' := hc') g2 ?_
    exact k v hc' hp
theorem j_callSx {PX PX0 : String → Prop} {Post0 : Option Value → AH → Prop} {sz mc0 ms0 : Nat} {h0 : AH} (E : Cx p l s m args meth c cc nL own D (Afr h0 sz)) {ret : Option FieldType} {index n f L mc ms : Nat} {y : MethodName} {bytes : ByteArray} {maxL : Nat} {As rest : List Value} {Post : Option Value → AH → Prop} (hC : Ctr l D y bytes maxL ret f L mc ms As h PX Post)
    (w9 : CW R s args own index y bytes maxL ret f L mc ms n cells slots rest) (hs9 : (Cond.static y).before args s = true) (hn : As.length = n) (d : decode cc pc = .ok (.invokestatic index, 3)) (hst : st = As.reverse ++ rest)
    (hout : ∀ x ∈ c.exceptionTable.toList, False) (h00 : h = h0) (hPX : ∀ Ex, PX Ex → PX0 Ex) (hroom : cells + mc ≤ mc0 ∧ slots + ms ≤ ms0)
    (k : ∀ (v : Option Value) (h' : AH), Post v h' → J p l e R s m args below meth c D (Afr h0 sz) nL (vx_MQ below (Qcs D h0 sz Post0) (Xcs D h0 sz PX0) args s mc0 ms0 (Afr h0 sz)) (cells + mc) (slots + ms) h' (pc + 3) lo (v.toList ++ rest)) : J p l e R s m args below meth c D (Afr h0 sz) nL (vx_MQ below (Qcs D h0 sz Post0) (Xcs D h0 sz PX0) args s mc0 ms0 (Afr h0 sz)) cells slots h pc lo st := by
  subst hst
  refine j_go (hc := h) (hr := fun _ => none) E (fun _ _ q => q) (fun _ _ q => nomatch q) (run_S E hC (fun _ _ q => q) w9 hs9 hn d) (fun Ex ce q9 H1 locs1 ls h1 hx a1 a2 _ hH1 hS1 hl1 hce hcv hcl => ?_) (fun v hc' h' hp g1 g2 _ _ => ?_)
  · refine vx_out (fun x hx => (hout x hx).elim) E.locks hce hcv hcl (fun t ht hal => ⟨⟨hPX _ hx, ?_⟩, hS1.F ht⟩) hS1.2.2 hroom.1 hroom.2
    rw [ht]
    intro x e9 he
    exact ((hH1.moved hal) x e9 (a2 x e9 (h00 ▸ he)))
  · refine J.heap (h' := hc') g2 ?_
    exact k v hc' hp
theorem j_iret {PX : String → Prop} {Post : Option Value → AH → Prop} {sz mc ms : Nat} {h0 : AH} (E : Cx p l s m args meth c cc nL own D (Afr h0 sz)) {v : Int32} (hr : meth.sig.returnType = some .int) (d : decode cc pc = .ok (.ireturn, 1)) (hroom : cells ≤ mc ∧ slots ≤ ms) (hp : Post (some (.int v)) h) :
    J p l e R s m args below meth c D (Afr h0 sz) nL (vx_MQ below (Qcs D h0 sz Post) (Xcs D h0 sz PX) args s mc ms (Afr h0 sz)) cells slots h pc lo [.int v] := by
  intro H locs ls hH hS hl
  refine vx_ret (W.widen hroom.1 hroom.2 ?_)
  exact W.iret E.x E.b hr (fun t ht hW => ⟨⟨_, h, rfl, hp, by rw [ht]; exact hH.moved hW.alike⟩, hS.F ht⟩) hS.2.2 d E.locks
theorem j_zret {PX : String → Prop} {Post : Option Value → AH → Prop} {sz mc ms : Nat} {h0 : AH} (E : Cx p l s m args meth c cc nL own D (Afr h0 sz)) {v : Int32} (hr : meth.sig.returnType = some .boolean) (hn : narrow .boolean (.int v) = .int v) (d : decode cc pc = .ok (.ireturn, 1)) (hroom : cells ≤ mc ∧ slots ≤ ms) (hp : Post (some (.int v)) h) :
    J p l e R s m args below meth c D (Afr h0 sz) nL (vx_MQ below (Qcs D h0 sz Post) (Xcs D h0 sz PX) args s mc ms (Afr h0 sz)) cells slots h pc lo [.int v] := by
  intro H locs ls hH hS hl
  refine vx_ret (W.widen hroom.1 hroom.2 ?_)
  exact W.zret E.x E.b hr hn (fun t ht hW => ⟨⟨_, h, rfl, hp, by rw [ht]; exact hH.moved hW.alike⟩, hS.F ht⟩) hS.2.2 d E.locks
theorem j_lret {PX : String → Prop} {Post : Option Value → AH → Prop} {sz mc ms : Nat} {h0 : AH} (E : Cx p l s m args meth c cc nL own D (Afr h0 sz)) {v : Int64} (hr : meth.sig.returnType = some .long) (d : decode cc pc = .ok (.lreturn, 1)) (hroom : cells ≤ mc ∧ slots ≤ ms) (hp : Post (some (.long v)) h) :
    J p l e R s m args below meth c D (Afr h0 sz) nL (vx_MQ below (Qcs D h0 sz Post) (Xcs D h0 sz PX) args s mc ms (Afr h0 sz)) cells slots h pc lo [.long v] := by
  intro H locs ls hH hS hl
  refine vx_ret (W.widen hroom.1 hroom.2 ?_)
  exact W.lret E.x E.b hr (fun t ht hW => ⟨⟨_, h, rfl, hp, by rw [ht]; exact hH.moved hW.alike⟩, hS.F ht⟩) hS.2.2 d E.locks
theorem j_fret {PX : String → Prop} {Post : Option Value → AH → Prop} {sz mc ms : Nat} {h0 : AH} (E : Cx p l s m args meth c cc nL own D (Afr h0 sz)) {v : UInt32} (hr : meth.sig.returnType = some .float) (d : decode cc pc = .ok (.freturn, 1)) (hroom : cells ≤ mc ∧ slots ≤ ms) (hp : Post (some (.float v)) h) :
    J p l e R s m args below meth c D (Afr h0 sz) nL (vx_MQ below (Qcs D h0 sz Post) (Xcs D h0 sz PX) args s mc ms (Afr h0 sz)) cells slots h pc lo [.float v] := by
  intro H locs ls hH hS hl
  refine vx_ret (W.widen hroom.1 hroom.2 ?_)
  exact W.fret E.x E.b hr (fun t ht hW => ⟨⟨_, h, rfl, hp, by rw [ht]; exact hH.moved hW.alike⟩, hS.F ht⟩) hS.2.2 d E.locks
theorem j_dret {PX : String → Prop} {Post : Option Value → AH → Prop} {sz mc ms : Nat} {h0 : AH} (E : Cx p l s m args meth c cc nL own D (Afr h0 sz)) {v : UInt64} (hr : meth.sig.returnType = some .double) (d : decode cc pc = .ok (.dreturn, 1)) (hroom : cells ≤ mc ∧ slots ≤ ms) (hp : Post (some (.double v)) h) :
    J p l e R s m args below meth c D (Afr h0 sz) nL (vx_MQ below (Qcs D h0 sz Post) (Xcs D h0 sz PX) args s mc ms (Afr h0 sz)) cells slots h pc lo [.double v] := by
  intro H locs ls hH hS hl
  refine vx_ret (W.widen hroom.1 hroom.2 ?_)
  exact W.dret E.x E.b hr (fun t ht hW => ⟨⟨_, h, rfl, hp, by rw [ht]; exact hH.moved hW.alike⟩, hS.F ht⟩) hS.2.2 d E.locks
theorem j_vret {PX : String → Prop} {Post : Option Value → AH → Prop} {sz mc ms : Nat} {h0 : AH} (E : Cx p l s m args meth c cc nL own D (Afr h0 sz))  (hr : meth.sig.returnType = none) (d : decode cc pc = .ok (.return_, 1)) (hroom : cells ≤ mc ∧ slots ≤ ms) (hp : Post none h) :
    J p l e R s m args below meth c D (Afr h0 sz) nL (vx_MQ below (Qcs D h0 sz Post) (Xcs D h0 sz PX) args s mc ms (Afr h0 sz)) cells slots h pc lo [] := by
  intro H locs ls hH hS hl
  refine vx_ret (W.widen hroom.1 hroom.2 ?_)
  exact W.vret E.x E.b hr (fun t ht hW => ⟨⟨_, h, rfl, hp, by rw [ht]; exact hH.moved hW.alike⟩, hS.F ht⟩) hS.2.2 d E.locks
theorem j_aret {PX : String → Prop} {Post : Option Value → AH → Prop} {sz mc ms : Nat} {h0 : AH} (E : Cx p l s m args meth c cc nL own D (Afr h0 sz)) {v : Value} {C : String} (hr : meth.sig.returnType = some (.object C)) (hv : v = .null ∨ ∃ a, v = .ref a) (d : decode cc pc = .ok (.areturn, 1)) (hroom : cells ≤ mc ∧ slots ≤ ms) (hp : Post (some v) h) :
    J p l e R s m args below meth c D (Afr h0 sz) nL (vx_MQ below (Qcs D h0 sz Post) (Xcs D h0 sz PX) args s mc ms (Afr h0 sz)) cells slots h pc lo [v] := by
  intro H locs ls hH hS hl
  refine vx_ret (W.widen hroom.1 hroom.2 ?_)
  exact W.aret E.x E.b hr (Or.inl ⟨C, rfl⟩) hv (fun t ht hW => ⟨⟨_, h, rfl, hp, by rw [ht]; exact hH.moved hW.alike⟩, hS.F ht⟩) hS.2.2 d E.locks
/-- throw new X(text) -/
theorem j_throw {PX : String → Prop} {Post : Option Value → AH → Prop} {sz mc ms : Nat} {h0 : AH} (E : Cx p l s m args meth c cc nL own D (Afr h0 sz)) {cls text : String} {ik is ic : Nat} (hfit : Bundle.fit cls = true)
    (hk : (Cond.classLink own ik cls).before args s = true) (hini : (Cond.initialized cls).before args s = true) (hstr : Cond.stringRef own is text ∈ lw_tbl) (hat : ∀ w ∈ vx_atS own ic cls ["java/lang/RuntimeException", "java/lang/Exception"], w ∈ lw_tbl ∧ tbOK w = true)
    (hgood : ∀ w ∈ Cond.classLink own ik cls :: Cond.initialized cls :: vx_atS own ic cls ["java/lang/RuntimeException", "java/lang/Exception"], vx_ot w = true)
    (d0 : decode cc pc = .ok (.new ik, 3)) (d3 : decode cc (pc + 3) = .ok (.dup, 1)) (d4 : decode cc (pc + 4) = .ok (.ldc is, 2)) (d6 : decode cc (pc + 6) = .ok (.invokespecial ic, 3)) (d9 : decode cc (pc + 9) = .ok (.athrow, 1))
    (hout : ∀ x ∈ c.exceptionTable.toList, False) (hr : 6 ≤ R.frames ∧ (st.map fun v => v.category).sum + 82 ≤ R.locals ∧ cells + 1 ≤ R.cells ∧ slots + 6 ≤ R.slots) (hroom : cells + 1 ≤ mc ∧ slots + 6 ≤ ms) (hX : PX cls) :
    J p l e R s m args below meth c D (Afr h0 sz) nL (vx_MQ below (Qcs D h0 sz Post) (Xcs D h0 sz PX) args s mc ms (Afr h0 sz)) cells slots h0 pc lo st := by
  intro H locs ls hH hS hl
  obtain ⟨sa, hsa⟩ := E.ts own is text hstr
  refine vx_throwS E.x E.b E.tr (names := ["java/lang/RuntimeException", "java/lang/Exception"]) (sa := sa) (A := Afr h0 sz) E.ow hfit (by decide +kernel) hk hini hsa (fun w hw => E.tb w (hat w hw).1 (hat w hw).2 args) hgood E.wd.2.2.2.2.1 E.wd.2.2.2.2.2 hS (by rw [E.ml]; exact hl.1) d0 d3 d4 d6 d9 (fun x hx => (hout x hx).elim) (by show 2 + 3 < _; omega) (by show _ + (13 * (2 + 1) + 43) ≤ _; omega) hr.2.2.1 hr.2.2.2 E.locks (fun t hal hz hk2 => ⟨⟨hX, ?_⟩, ?_⟩) hS.2.2 hroom.1 hroom.2
  · intro x e9 he
    obtain ⟨g1, g2⟩ := hH x e9 he
    exact ⟨g1, (g2.kept (hk2 x g2.lt)).moved hal⟩
  · refine ⟨Nat.le_trans hS.1 hz, fun q h1 h2 => ?_⟩
    rw [hk2 q (Nat.lt_of_lt_of_le h1 hS.1)]
    exact hS.2.1 q h1 h2
end JC
end
section
/-! the tables' words that the rows use, by their places -/
theorem q_71 {U : State} (hT : Tb U) {av : Array Value} : (Cond.fieldLink RX1 11 "MouldDesk$Dryer" "row" "[LMouldDesk$Lot;").before av U = true := hT.get 71 (by decide +kernel) (by decide +kernel)
theorem q_72 {U : State} (hT : Tb U) {av : Array Value} : (Cond.fieldLink RX1 17 "MouldDesk$Dryer" "count" "I").before av U = true := hT.get 72 (by decide +kernel) (by decide +kernel)
theorem q_73 {U : State} (hT : Tb U) {av : Array Value} : (Cond.fieldLink RX7 78 "MouldDesk$Dryer" "count" "I").before av U = true := hT.get 73 (by decide +kernel) (by decide +kernel)
theorem q_79 {U : State} (hT : Tb U) {av : Array Value} : (Cond.fieldLink RX7 11 "MouldDesk" "resins" "[LMouldDesk$Resin;").before av U = true := hT.get 79 (by decide +kernel) (by decide +kernel)
theorem q_80 {U : State} (hT : Tb U) {av : Array Value} : (Cond.fieldLink RX7 44 "MouldDesk" "resinCount" "I").before av U = true := hT.get 80 (by decide +kernel) (by decide +kernel)
theorem q_81 {U : State} (hT : Tb U) {av : Array Value} : (Cond.fieldLink RX7 17 "MouldDesk" "moulds" "[LMouldDesk$Mould;").before av U = true := hT.get 81 (by decide +kernel) (by decide +kernel)
theorem q_82 {U : State} (hT : Tb U) {av : Array Value} : (Cond.fieldLink RX7 102 "MouldDesk" "mouldCount" "I").before av U = true := hT.get 82 (by decide +kernel) (by decide +kernel)
theorem q_83 {U : State} (hT : Tb U) {av : Array Value} : (Cond.fieldLink RX7 23 "MouldDesk" "machines" "[LMouldDesk$Machine;").before av U = true := hT.get 83 (by decide +kernel) (by decide +kernel)
theorem q_84 {U : State} (hT : Tb U) {av : Array Value} : (Cond.fieldLink RX7 158 "MouldDesk" "machineCount" "I").before av U = true := hT.get 84 (by decide +kernel) (by decide +kernel)
theorem q_85 {U : State} (hT : Tb U) {av : Array Value} : (Cond.fieldLink RX7 29 "MouldDesk" "orders" "[LMouldDesk$Order;").before av U = true := hT.get 85 (by decide +kernel) (by decide +kernel)
theorem q_86 {U : State} (hT : Tb U) {av : Array Value} : (Cond.fieldLink RX7 205 "MouldDesk" "orderCount" "I").before av U = true := hT.get 86 (by decide +kernel) (by decide +kernel)
theorem q_87 {U : State} (hT : Tb U) {av : Array Value} : (Cond.fieldLink RX7 36 "MouldDesk" "dryer" "LMouldDesk$Dryer;").before av U = true := hT.get 87 (by decide +kernel) (by decide +kernel)
theorem q_88 {U : State} (hT : Tb U) {av : Array Value} : (Cond.fieldLink RX7 237 "MouldDesk" "hoursPassed" "I").before av U = true := hT.get 88 (by decide +kernel) (by decide +kernel)
theorem q_89 {U : State} (hT : Tb U) {av : Array Value} : (Cond.fieldLink RX7 256 "MouldDesk" "allShots" "I").before av U = true := hT.get 89 (by decide +kernel) (by decide +kernel)
theorem q_90 {U : State} (hT : Tb U) {av : Array Value} : (Cond.fieldLink RX7 259 "MouldDesk" "allParts" "I").before av U = true := hT.get 90 (by decide +kernel) (by decide +kernel)
theorem q_91 {U : State} (hT : Tb U) {av : Array Value} : (Cond.fieldLink RX7 245 "MouldDesk" "allGrams" "J").before av U = true := hT.get 91 (by decide +kernel) (by decide +kernel)
theorem q_92 {U : State} (hT : Tb U) {av : Array Value} : (Cond.fieldLink RX7 253 "MouldDesk" "allRegrind" "J").before av U = true := hT.get 92 (by decide +kernel) (by decide +kernel)
theorem q_235 {U : State} (hT : Tb U) {av : Array Value} : (Cond.fieldLink RX6 7 "MouldDesk$Resin" "hoursOfDrying" "I").before av U = true := hT.get 235 (by decide +kernel) (by decide +kernel)
theorem q_236 {U : State} (hT : Tb U) {av : Array Value} : (Cond.fieldLink RX2 17 "MouldDesk$Resin" "hoursOfDrying" "I").before av U = true := hT.get 236 (by decide +kernel) (by decide +kernel)
theorem q_237 {U : State} (hT : Tb U) {av : Array Value} : (Cond.fieldLink RX7 99 "MouldDesk$Resin" "regrindGrams" "I").before av U = true := hT.get 237 (by decide +kernel) (by decide +kernel)
theorem q_303 {U : State} (hT : Tb U) {av : Array Value} : (Cond.fieldLink RX2 7 "MouldDesk$Lot" "resin" "LMouldDesk$Resin;").before av U = true := hT.get 303 (by decide +kernel) (by decide +kernel)
theorem q_304 {U : State} (hT : Tb U) {av : Array Value} : (Cond.fieldLink RX2 13 "MouldDesk$Lot" "grams" "I").before av U = true := hT.get 304 (by decide +kernel) (by decide +kernel)
theorem q_305 {U : State} (hT : Tb U) {av : Array Value} : (Cond.fieldLink RX7 85 "MouldDesk$Lot" "grams" "I").before av U = true := hT.get 305 (by decide +kernel) (by decide +kernel)
theorem q_306 {U : State} (hT : Tb U) {av : Array Value} : (Cond.fieldLink RX1 25 "MouldDesk$Lot" "grams" "I").before av U = true := hT.get 306 (by decide +kernel) (by decide +kernel)
theorem q_307 {U : State} (hT : Tb U) {av : Array Value} : (Cond.fieldLink RX2 22 "MouldDesk$Lot" "hoursDried" "I").before av U = true := hT.get 307 (by decide +kernel) (by decide +kernel)
theorem q_308 {U : State} (hT : Tb U) {av : Array Value} : (Cond.fieldLink RX1 34 "MouldDesk$Lot" "hoursDried" "I").before av U = true := hT.get 308 (by decide +kernel) (by decide +kernel)
theorem q_398 {U : State} (hT : Tb U) {av : Array Value} : (Cond.fieldLink RX0 18 "MouldDesk$Cavity" "blocked" "Z").before av U = true := hT.get 398 (by decide +kernel) (by decide +kernel)
theorem q_399 {U : State} (hT : Tb U) {av : Array Value} : (Cond.fieldLink RX4 40 "MouldDesk$Cavity" "blocked" "Z").before av U = true := hT.get 399 (by decide +kernel) (by decide +kernel)
theorem q_400 {U : State} (hT : Tb U) {av : Array Value} : (Cond.fieldLink RX7 129 "MouldDesk$Cavity" "blocked" "Z").before av U = true := hT.get 400 (by decide +kernel) (by decide +kernel)
theorem q_401 {U : State} (hT : Tb U) {av : Array Value} : (Cond.fieldLink RX0 15 "MouldDesk$Cavity" "made" "I").before av U = true := hT.get 401 (by decide +kernel) (by decide +kernel)
theorem q_402 {U : State} (hT : Tb U) {av : Array Value} : (Cond.fieldLink RX4 44 "MouldDesk$Cavity" "made" "I").before av U = true := hT.get 402 (by decide +kernel) (by decide +kernel)
theorem q_403 {U : State} (hT : Tb U) {av : Array Value} : (Cond.fieldLink RX7 126 "MouldDesk$Cavity" "made" "I").before av U = true := hT.get 403 (by decide +kernel) (by decide +kernel)
theorem q_404 {U : State} (hT : Tb U) {av : Array Value} : (Cond.fieldLink RX0 9 "MouldDesk$Cavity" "life" "I").before av U = true := hT.get 404 (by decide +kernel) (by decide +kernel)
theorem q_405 {U : State} (hT : Tb U) {av : Array Value} : (Cond.fieldLink RX7 118 "MouldDesk$Cavity" "life" "I").before av U = true := hT.get 405 (by decide +kernel) (by decide +kernel)
theorem q_413 {U : State} (hT : Tb U) {av : Array Value} : (Cond.fieldLink RX4 9 "MouldDesk$Mould" "number" "I").before av U = true := hT.get 413 (by decide +kernel) (by decide +kernel)
theorem q_414 {U : State} (hT : Tb U) {av : Array Value} : (Cond.fieldLink RX7 187 "MouldDesk$Mould" "number" "I").before av U = true := hT.get 414 (by decide +kernel) (by decide +kernel)
theorem q_415 {U : State} (hT : Tb U) {av : Array Value} : (Cond.fieldLink RX4 35 "MouldDesk$Mould" "cavities" "[LMouldDesk$Cavity;").before av U = true := hT.get 415 (by decide +kernel) (by decide +kernel)
theorem q_416 {U : State} (hT : Tb U) {av : Array Value} : (Cond.fieldLink RX7 143 "MouldDesk$Mould" "cavities" "[LMouldDesk$Cavity;").before av U = true := hT.get 416 (by decide +kernel) (by decide +kernel)
theorem q_417 {U : State} (hT : Tb U) {av : Array Value} : (Cond.fieldLink RX4 15 "MouldDesk$Mould" "part" "I").before av U = true := hT.get 417 (by decide +kernel) (by decide +kernel)
theorem q_418 {U : State} (hT : Tb U) {av : Array Value} : (Cond.fieldLink RX7 300 "MouldDesk$Mould" "part" "I").before av U = true := hT.get 418 (by decide +kernel) (by decide +kernel)
theorem q_419 {U : State} (hT : Tb U) {av : Array Value} : (Cond.fieldLink RX4 18 "MouldDesk$Mould" "sprue" "I").before av U = true := hT.get 419 (by decide +kernel) (by decide +kernel)
theorem q_420 {U : State} (hT : Tb U) {av : Array Value} : (Cond.fieldLink RX7 303 "MouldDesk$Mould" "sprue" "I").before av U = true := hT.get 420 (by decide +kernel) (by decide +kernel)
theorem q_421 {U : State} (hT : Tb U) {av : Array Value} : (Cond.fieldLink RX4 21 "MouldDesk$Mould" "force" "I").before av U = true := hT.get 421 (by decide +kernel) (by decide +kernel)
theorem q_422 {U : State} (hT : Tb U) {av : Array Value} : (Cond.fieldLink RX7 168 "MouldDesk$Mould" "force" "I").before av U = true := hT.get 422 (by decide +kernel) (by decide +kernel)
theorem q_423 {U : State} (hT : Tb U) {av : Array Value} : (Cond.fieldLink RX4 24 "MouldDesk$Mould" "cycle" "I").before av U = true := hT.get 423 (by decide +kernel) (by decide +kernel)
theorem q_424 {U : State} (hT : Tb U) {av : Array Value} : (Cond.fieldLink RX7 138 "MouldDesk$Mould" "mounted" "Z").before av U = true := hT.get 424 (by decide +kernel) (by decide +kernel)
theorem q_518 {U : State} (hT : Tb U) {av : Array Value} : (Cond.fieldLink RX3 7 "MouldDesk$Machine" "force" "I").before av U = true := hT.get 518 (by decide +kernel) (by decide +kernel)
theorem q_519 {U : State} (hT : Tb U) {av : Array Value} : (Cond.fieldLink RX7 171 "MouldDesk$Machine" "force" "I").before av U = true := hT.get 519 (by decide +kernel) (by decide +kernel)
theorem q_520 {U : State} (hT : Tb U) {av : Array Value} : (Cond.fieldLink RX7 179 "MouldDesk$Machine" "mould" "LMouldDesk$Mould;").before av U = true := hT.get 520 (by decide +kernel) (by decide +kernel)
theorem q_521 {U : State} (hT : Tb U) {av : Array Value} : (Cond.fieldLink RX7 183 "MouldDesk$Machine" "work" "LMouldDesk$Order;").before av U = true := hT.get 521 (by decide +kernel) (by decide +kernel)
theorem q_595 {U : State} (hT : Tb U) {av : Array Value} : (Cond.fieldLink RX5 9 "MouldDesk$Order" "mould" "LMouldDesk$Mould;").before av U = true := hT.get 595 (by decide +kernel) (by decide +kernel)
theorem q_596 {U : State} (hT : Tb U) {av : Array Value} : (Cond.fieldLink RX7 194 "MouldDesk$Order" "mould" "LMouldDesk$Mould;").before av U = true := hT.get 596 (by decide +kernel) (by decide +kernel)
theorem q_597 {U : State} (hT : Tb U) {av : Array Value} : (Cond.fieldLink RX5 15 "MouldDesk$Order" "resin" "LMouldDesk$Resin;").before av U = true := hT.get 597 (by decide +kernel) (by decide +kernel)
theorem q_598 {U : State} (hT : Tb U) {av : Array Value} : (Cond.fieldLink RX7 296 "MouldDesk$Order" "resin" "LMouldDesk$Resin;").before av U = true := hT.get 598 (by decide +kernel) (by decide +kernel)
theorem q_599 {U : State} (hT : Tb U) {av : Array Value} : (Cond.fieldLink RX5 19 "MouldDesk$Order" "share" "I").before av U = true := hT.get 599 (by decide +kernel) (by decide +kernel)
theorem q_600 {U : State} (hT : Tb U) {av : Array Value} : (Cond.fieldLink RX7 306 "MouldDesk$Order" "share" "I").before av U = true := hT.get 600 (by decide +kernel) (by decide +kernel)
theorem q_601 {U : State} (hT : Tb U) {av : Array Value} : (Cond.fieldLink RX5 32 "MouldDesk$Order" "regrindOfShots" "[I").before av U = true := hT.get 601 (by decide +kernel) (by decide +kernel)
theorem q_602 {U : State} (hT : Tb U) {av : Array Value} : (Cond.fieldLink RX5 23 "MouldDesk$Order" "lacking" "I").before av U = true := hT.get 602 (by decide +kernel) (by decide +kernel)
theorem q_603 {U : State} (hT : Tb U) {av : Array Value} : (Cond.fieldLink RX7 213 "MouldDesk$Order" "lacking" "I").before av U = true := hT.get 603 (by decide +kernel) (by decide +kernel)
theorem q_604 {U : State} (hT : Tb U) {av : Array Value} : (Cond.fieldLink RX5 36 "MouldDesk$Order" "shotCount" "I").before av U = true := hT.get 604 (by decide +kernel) (by decide +kernel)
theorem q_605 {U : State} (hT : Tb U) {av : Array Value} : (Cond.fieldLink RX7 221 "MouldDesk$Order" "shotCount" "I").before av U = true := hT.get 605 (by decide +kernel) (by decide +kernel)
theorem q_606 {U : State} (hT : Tb U) {av : Array Value} : (Cond.fieldLink RX5 39 "MouldDesk$Order" "regrindKept" "J").before av U = true := hT.get 606 (by decide +kernel) (by decide +kernel)
theorem q_607 {U : State} (hT : Tb U) {av : Array Value} : (Cond.fieldLink RX7 224 "MouldDesk$Order" "regrindKept" "J").before av U = true := hT.get 607 (by decide +kernel) (by decide +kernel)
theorem q_608 {U : State} (hT : Tb U) {av : Array Value} : (Cond.fieldLink RX5 43 "MouldDesk$Order" "topShare" "I").before av U = true := hT.get 608 (by decide +kernel) (by decide +kernel)
theorem q_609 {U : State} (hT : Tb U) {av : Array Value} : (Cond.fieldLink RX7 234 "MouldDesk$Order" "topShare" "I").before av U = true := hT.get 609 (by decide +kernel) (by decide +kernel)
theorem q_763 {U : State} (hT : Tb U) {av : Array Value} : (Cond.fieldLink RX8 9 "MouldDeskModel" "dryings" "[I").before av U = true := hT.get 763 (by decide +kernel) (by decide +kernel)
theorem q_764 {U : State} (hT : Tb U) {av : Array Value} : (Cond.fieldLink RX8 13 "MouldDeskModel" "regrinds" "[I").before av U = true := hT.get 764 (by decide +kernel) (by decide +kernel)
theorem q_765 {U : State} (hT : Tb U) {av : Array Value} : (Cond.fieldLink RX8 88 "MouldDeskModel" "resins" "I").before av U = true := hT.get 765 (by decide +kernel) (by decide +kernel)
theorem q_766 {U : State} (hT : Tb U) {av : Array Value} : (Cond.fieldLink RX8 16 "MouldDeskModel" "lotResins" "[I").before av U = true := hT.get 766 (by decide +kernel) (by decide +kernel)
theorem q_767 {U : State} (hT : Tb U) {av : Array Value} : (Cond.fieldLink RX8 19 "MouldDeskModel" "lotGrams" "[I").before av U = true := hT.get 767 (by decide +kernel) (by decide +kernel)
theorem q_768 {U : State} (hT : Tb U) {av : Array Value} : (Cond.fieldLink RX8 22 "MouldDeskModel" "lotHours" "[I").before av U = true := hT.get 768 (by decide +kernel) (by decide +kernel)
theorem q_769 {U : State} (hT : Tb U) {av : Array Value} : (Cond.fieldLink RX8 95 "MouldDeskModel" "lots" "I").before av U = true := hT.get 769 (by decide +kernel) (by decide +kernel)
theorem q_770 {U : State} (hT : Tb U) {av : Array Value} : (Cond.fieldLink RX8 25 "MouldDeskModel" "cavities" "[I").before av U = true := hT.get 770 (by decide +kernel) (by decide +kernel)
theorem q_771 {U : State} (hT : Tb U) {av : Array Value} : (Cond.fieldLink RX8 28 "MouldDeskModel" "partGrams" "[I").before av U = true := hT.get 771 (by decide +kernel) (by decide +kernel)
theorem q_772 {U : State} (hT : Tb U) {av : Array Value} : (Cond.fieldLink RX8 31 "MouldDeskModel" "sprues" "[I").before av U = true := hT.get 772 (by decide +kernel) (by decide +kernel)
theorem q_773 {U : State} (hT : Tb U) {av : Array Value} : (Cond.fieldLink RX8 34 "MouldDeskModel" "forces" "[I").before av U = true := hT.get 773 (by decide +kernel) (by decide +kernel)
theorem q_774 {U : State} (hT : Tb U) {av : Array Value} : (Cond.fieldLink RX8 37 "MouldDeskModel" "cycles" "[I").before av U = true := hT.get 774 (by decide +kernel) (by decide +kernel)
theorem q_775 {U : State} (hT : Tb U) {av : Array Value} : (Cond.fieldLink RX8 42 "MouldDeskModel" "isBlocked" "[[Z").before av U = true := hT.get 775 (by decide +kernel) (by decide +kernel)
theorem q_776 {U : State} (hT : Tb U) {av : Array Value} : (Cond.fieldLink RX8 47 "MouldDeskModel" "lives" "[[I").before av U = true := hT.get 776 (by decide +kernel) (by decide +kernel)
theorem q_777 {U : State} (hT : Tb U) {av : Array Value} : (Cond.fieldLink RX8 50 "MouldDeskModel" "made" "[[I").before av U = true := hT.get 777 (by decide +kernel) (by decide +kernel)
theorem q_778 {U : State} (hT : Tb U) {av : Array Value} : (Cond.fieldLink RX8 98 "MouldDeskModel" "moulds" "I").before av U = true := hT.get 778 (by decide +kernel) (by decide +kernel)
theorem q_779 {U : State} (hT : Tb U) {av : Array Value} : (Cond.fieldLink RX8 53 "MouldDeskModel" "machineForces" "[I").before av U = true := hT.get 779 (by decide +kernel) (by decide +kernel)
theorem q_780 {U : State} (hT : Tb U) {av : Array Value} : (Cond.fieldLink RX8 56 "MouldDeskModel" "mounted" "[I").before av U = true := hT.get 780 (by decide +kernel) (by decide +kernel)
theorem q_781 {U : State} (hT : Tb U) {av : Array Value} : (Cond.fieldLink RX8 59 "MouldDeskModel" "running" "[I").before av U = true := hT.get 781 (by decide +kernel) (by decide +kernel)
theorem q_782 {U : State} (hT : Tb U) {av : Array Value} : (Cond.fieldLink RX8 105 "MouldDeskModel" "machines" "I").before av U = true := hT.get 782 (by decide +kernel) (by decide +kernel)
theorem q_783 {U : State} (hT : Tb U) {av : Array Value} : (Cond.fieldLink RX8 62 "MouldDeskModel" "orderMoulds" "[I").before av U = true := hT.get 783 (by decide +kernel) (by decide +kernel)
theorem q_784 {U : State} (hT : Tb U) {av : Array Value} : (Cond.fieldLink RX8 65 "MouldDeskModel" "orderResins" "[I").before av U = true := hT.get 784 (by decide +kernel) (by decide +kernel)
theorem q_785 {U : State} (hT : Tb U) {av : Array Value} : (Cond.fieldLink RX8 68 "MouldDeskModel" "lacking" "[I").before av U = true := hT.get 785 (by decide +kernel) (by decide +kernel)
theorem q_786 {U : State} (hT : Tb U) {av : Array Value} : (Cond.fieldLink RX8 71 "MouldDeskModel" "shares" "[I").before av U = true := hT.get 786 (by decide +kernel) (by decide +kernel)
theorem q_787 {U : State} (hT : Tb U) {av : Array Value} : (Cond.fieldLink RX8 74 "MouldDeskModel" "shots" "[I").before av U = true := hT.get 787 (by decide +kernel) (by decide +kernel)
theorem q_788 {U : State} (hT : Tb U) {av : Array Value} : (Cond.fieldLink RX8 77 "MouldDeskModel" "regrindIn" "[J").before av U = true := hT.get 788 (by decide +kernel) (by decide +kernel)
theorem q_789 {U : State} (hT : Tb U) {av : Array Value} : (Cond.fieldLink RX8 81 "MouldDeskModel" "greatest" "[I").before av U = true := hT.get 789 (by decide +kernel) (by decide +kernel)
theorem q_790 {U : State} (hT : Tb U) {av : Array Value} : (Cond.fieldLink RX8 108 "MouldDeskModel" "orders" "I").before av U = true := hT.get 790 (by decide +kernel) (by decide +kernel)
theorem q_791 {U : State} (hT : Tb U) {av : Array Value} : (Cond.fieldLink RX8 183 "MouldDeskModel" "hours" "I").before av U = true := hT.get 791 (by decide +kernel) (by decide +kernel)
theorem q_792 {U : State} (hT : Tb U) {av : Array Value} : (Cond.fieldLink RX8 167 "MouldDeskModel" "allShots" "I").before av U = true := hT.get 792 (by decide +kernel) (by decide +kernel)
theorem q_793 {U : State} (hT : Tb U) {av : Array Value} : (Cond.fieldLink RX8 170 "MouldDeskModel" "allParts" "I").before av U = true := hT.get 793 (by decide +kernel) (by decide +kernel)
theorem q_794 {U : State} (hT : Tb U) {av : Array Value} : (Cond.fieldLink RX8 173 "MouldDeskModel" "allGrams" "J").before av U = true := hT.get 794 (by decide +kernel) (by decide +kernel)
theorem q_795 {U : State} (hT : Tb U) {av : Array Value} : (Cond.fieldLink RX8 177 "MouldDeskModel" "allRegrind" "J").before av U = true := hT.get 795 (by decide +kernel) (by decide +kernel)
theorem q_796 {U : State} (hT : Tb U) {av : Array Value} : (Cond.fieldLink RX8 84 "MouldDeskModel" "thrown" "I").before av U = true := hT.get 796 (by decide +kernel) (by decide +kernel)
theorem q_49 {U : State} (hT : Tb U) {av : Array Value} : (Cond.methodLink RL 101 yX7_init).before av U = true := hT.get 49 (by decide +kernel) (by decide +kernel)
theorem q_52 {U : State} (hT : Tb U) {av : Array Value} : (Cond.methodLink RX7 1 Lib.objectInit).before av U = true := hT.get 52 (by decide +kernel) (by decide +kernel)
theorem q_65 {U : State} (hT : Tb U) {av : Array Value} : (Cond.methodLink RX7 35 yX1_init).before av U = true := hT.get 65 (by decide +kernel) (by decide +kernel)
theorem q_68 {U : State} (hT : Tb U) {av : Array Value} : (Cond.methodLink RX1 3 Lib.objectInit).before av U = true := hT.get 68 (by decide +kernel) (by decide +kernel)
theorem q_122 {U : State} (hT : Tb U) {av : Array Value} : (Cond.methodLink RL 122 yX7_lots).before av U = true := hT.get 122 (by decide +kernel) (by decide +kernel)
theorem q_126 {U : State} (hT : Tb U) {av : Array Value} : (Cond.methodLink RL 186 yX7_hours).before av U = true := hT.get 126 (by decide +kernel) (by decide +kernel)
theorem q_130 {U : State} (hT : Tb U) {av : Array Value} : (Cond.methodLink RL 105 yL_addResin).before av U = true := hT.get 130 (by decide +kernel) (by decide +kernel)
theorem q_135 {U : State} (hT : Tb U) {av : Array Value} : (Cond.methodLink RL 7 yX7_addResin).before av U = true := hT.get 135 (by decide +kernel) (by decide +kernel)
theorem q_139 {U : State} (hT : Tb U) {av : Array Value} : (Cond.methodLink RX7 40 yX7_requireRange).before av U = true := hT.get 139 (by decide +kernel) (by decide +kernel)
theorem q_231 {U : State} (hT : Tb U) {av : Array Value} : (Cond.methodLink RX7 55 yX6_init).before av U = true := hT.get 231 (by decide +kernel) (by decide +kernel)
theorem q_234 {U : State} (hT : Tb U) {av : Array Value} : (Cond.methodLink RX6 1 Lib.objectInit).before av U = true := hT.get 234 (by decide +kernel) (by decide +kernel)
theorem q_243 {U : State} (hT : Tb U) {av : Array Value} : (Cond.methodLink RL 115 yL_fill).before av U = true := hT.get 243 (by decide +kernel) (by decide +kernel)
theorem q_270 {U : State} (hT : Tb U) {av : Array Value} : (Cond.methodLink RL 17 yX7_fill).before av U = true := hT.get 270 (by decide +kernel) (by decide +kernel)
theorem q_274 {U : State} (hT : Tb U) {av : Array Value} : (Cond.methodLink RX7 58 yX7_resinOf).before av U = true := hT.get 274 (by decide +kernel) (by decide +kernel)
theorem q_292 {U : State} (hT : Tb U) {av : Array Value} : (Cond.methodLink RX7 63 yX1_isFull).before av U = true := hT.get 292 (by decide +kernel) (by decide +kernel)
theorem q_299 {U : State} (hT : Tb U) {av : Array Value} : (Cond.methodLink RX7 71 yX2_init).before av U = true := hT.get 299 (by decide +kernel) (by decide +kernel)
theorem q_302 {U : State} (hT : Tb U) {av : Array Value} : (Cond.methodLink RX2 1 Lib.objectInit).before av U = true := hT.get 302 (by decide +kernel) (by decide +kernel)
theorem q_316 {U : State} (hT : Tb U) {av : Array Value} : (Cond.methodLink RX7 74 yX1_put).before av U = true := hT.get 316 (by decide +kernel) (by decide +kernel)
theorem q_320 {U : State} (hT : Tb U) {av : Array Value} : (Cond.methodLink RL 119 yL_empty).before av U = true := hT.get 320 (by decide +kernel) (by decide +kernel)
theorem q_323 {U : State} (hT : Tb U) {av : Array Value} : (Cond.methodLink RL 23 yX7_empty).before av U = true := hT.get 323 (by decide +kernel) (by decide +kernel)
theorem q_327 {U : State} (hT : Tb U) {av : Array Value} : (Cond.methodLink RX7 81 yX7_lotOf).before av U = true := hT.get 327 (by decide +kernel) (by decide +kernel)
theorem q_331 {U : State} (hT : Tb U) {av : Array Value} : (Cond.methodLink RX7 272 yX1_find).before av U = true := hT.get 331 (by decide +kernel) (by decide +kernel)
theorem q_336 {U : State} (hT : Tb U) {av : Array Value} : (Cond.methodLink RX7 88 yX1_takeOut).before av U = true := hT.get 336 (by decide +kernel) (by decide +kernel)
theorem q_340 {U : State} (hT : Tb U) {av : Array Value} : (Cond.methodLink RL 126 yL_hoursToDry).before av U = true := hT.get 340 (by decide +kernel) (by decide +kernel)
theorem q_343 {U : State} (hT : Tb U) {av : Array Value} : (Cond.methodLink RL 26 yX7_hoursToDry).before av U = true := hT.get 343 (by decide +kernel) (by decide +kernel)
theorem q_347 {U : State} (hT : Tb U) {av : Array Value} : (Cond.methodLink RX7 91 yX2_hoursLeft).before av U = true := hT.get 347 (by decide +kernel) (by decide +kernel)
theorem q_351 {U : State} (hT : Tb U) {av : Array Value} : (Cond.methodLink RX2 25 Lib.Math.max.name).before av U = true := hT.get 351 (by decide +kernel) (by decide +kernel)
theorem q_354 {U : State} (hT : Tb U) {av : Array Value} : (Cond.methodLink RL 129 yL_dry).before av U = true := hT.get 354 (by decide +kernel) (by decide +kernel)
theorem q_357 {U : State} (hT : Tb U) {av : Array Value} : (Cond.methodLink RL 29 yX7_dry).before av U = true := hT.get 357 (by decide +kernel) (by decide +kernel)
theorem q_361 {U : State} (hT : Tb U) {av : Array Value} : (Cond.methodLink RX7 95 yX1_dryGrams).before av U = true := hT.get 361 (by decide +kernel) (by decide +kernel)
theorem q_365 {U : State} (hT : Tb U) {av : Array Value} : (Cond.methodLink RX1 21 yX2_isDryOf).before av U = true := hT.get 365 (by decide +kernel) (by decide +kernel)
theorem q_369 {U : State} (hT : Tb U) {av : Array Value} : (Cond.methodLink RX2 31 yX2_hoursLeft).before av U = true := hT.get 369 (by decide +kernel) (by decide +kernel)
theorem q_370 {U : State} (hT : Tb U) {av : Array Value} : (Cond.methodLink RL 132 yL_regrind).before av U = true := hT.get 370 (by decide +kernel) (by decide +kernel)
theorem q_373 {U : State} (hT : Tb U) {av : Array Value} : (Cond.methodLink RL 32 yX7_regrind).before av U = true := hT.get 373 (by decide +kernel) (by decide +kernel)
theorem q_377 {U : State} (hT : Tb U) {av : Array Value} : (Cond.methodLink RL 135 yL_addMould).before av U = true := hT.get 377 (by decide +kernel) (by decide +kernel)
theorem q_380 {U : State} (hT : Tb U) {av : Array Value} : (Cond.methodLink RL 35 yX7_addMould).before av U = true := hT.get 380 (by decide +kernel) (by decide +kernel)
theorem q_386 {U : State} (hT : Tb U) {av : Array Value} : (Cond.methodLink RX7 107 yX4_init).before av U = true := hT.get 386 (by decide +kernel) (by decide +kernel)
theorem q_389 {U : State} (hT : Tb U) {av : Array Value} : (Cond.methodLink RX4 3 Lib.objectInit).before av U = true := hT.get 389 (by decide +kernel) (by decide +kernel)
theorem q_390 {U : State} (hT : Tb U) {av : Array Value} : (Cond.methodLink RX4 27 Lib.Math.max.name).before av U = true := hT.get 390 (by decide +kernel) (by decide +kernel)
theorem q_394 {U : State} (hT : Tb U) {av : Array Value} : (Cond.methodLink RX4 39 yX0_init).before av U = true := hT.get 394 (by decide +kernel) (by decide +kernel)
theorem q_397 {U : State} (hT : Tb U) {av : Array Value} : (Cond.methodLink RX0 3 Lib.objectInit).before av U = true := hT.get 397 (by decide +kernel) (by decide +kernel)
theorem q_440 {U : State} (hT : Tb U) {av : Array Value} : (Cond.methodLink RL 139 yL_setLife).before av U = true := hT.get 440 (by decide +kernel) (by decide +kernel)
theorem q_443 {U : State} (hT : Tb U) {av : Array Value} : (Cond.methodLink RL 39 yX7_setLife).before av U = true := hT.get 443 (by decide +kernel) (by decide +kernel)
theorem q_447 {U : State} (hT : Tb U) {av : Array Value} : (Cond.methodLink RX7 110 yX7_mouldOf).before av U = true := hT.get 447 (by decide +kernel) (by decide +kernel)
theorem q_452 {U : State} (hT : Tb U) {av : Array Value} : (Cond.methodLink RX7 114 yX7_cavityOf).before av U = true := hT.get 452 (by decide +kernel) (by decide +kernel)
theorem q_456 {U : State} (hT : Tb U) {av : Array Value} : (Cond.methodLink RX7 123 yX0_failIfWorn).before av U = true := hT.get 456 (by decide +kernel) (by decide +kernel)
theorem q_460 {U : State} (hT : Tb U) {av : Array Value} : (Cond.methodLink RL 143 yL_block).before av U = true := hT.get 460 (by decide +kernel) (by decide +kernel)
theorem q_463 {U : State} (hT : Tb U) {av : Array Value} : (Cond.methodLink RL 43 yX7_block).before av U = true := hT.get 463 (by decide +kernel) (by decide +kernel)
theorem q_468 {U : State} (hT : Tb U) {av : Array Value} : (Cond.methodLink RX7 135 yX4_openCavities).before av U = true := hT.get 468 (by decide +kernel) (by decide +kernel)
theorem q_472 {U : State} (hT : Tb U) {av : Array Value} : (Cond.methodLink RL 146 yL_repair).before av U = true := hT.get 472 (by decide +kernel) (by decide +kernel)
theorem q_475 {U : State} (hT : Tb U) {av : Array Value} : (Cond.methodLink RL 46 yX7_repair).before av U = true := hT.get 475 (by decide +kernel) (by decide +kernel)
theorem q_480 {U : State} (hT : Tb U) {av : Array Value} : (Cond.methodLink RL 149 yL_nextOpen).before av U = true := hT.get 480 (by decide +kernel) (by decide +kernel)
theorem q_484 {U : State} (hT : Tb U) {av : Array Value} : (Cond.methodLink RL 49 yX7_nextOpen).before av U = true := hT.get 484 (by decide +kernel) (by decide +kernel)
theorem q_488 {U : State} (hT : Tb U) {av : Array Value} : (Cond.methodLink RX7 147 Lib.Math.max.name).before av U = true := hT.get 488 (by decide +kernel) (by decide +kernel)
theorem q_505 {U : State} (hT : Tb U) {av : Array Value} : (Cond.methodLink RL 152 yL_addMachine).before av U = true := hT.get 505 (by decide +kernel) (by decide +kernel)
theorem q_508 {U : State} (hT : Tb U) {av : Array Value} : (Cond.methodLink RL 54 yX7_addMachine).before av U = true := hT.get 508 (by decide +kernel) (by decide +kernel)
theorem q_514 {U : State} (hT : Tb U) {av : Array Value} : (Cond.methodLink RX7 163 yX3_init).before av U = true := hT.get 514 (by decide +kernel) (by decide +kernel)
theorem q_517 {U : State} (hT : Tb U) {av : Array Value} : (Cond.methodLink RX3 1 Lib.objectInit).before av U = true := hT.get 517 (by decide +kernel) (by decide +kernel)
theorem q_529 {U : State} (hT : Tb U) {av : Array Value} : (Cond.methodLink RL 155 yL_mount).before av U = true := hT.get 529 (by decide +kernel) (by decide +kernel)
theorem q_533 {U : State} (hT : Tb U) {av : Array Value} : (Cond.methodLink RL 57 yX7_mount).before av U = true := hT.get 533 (by decide +kernel) (by decide +kernel)
theorem q_537 {U : State} (hT : Tb U) {av : Array Value} : (Cond.methodLink RX7 164 yX7_machineOf).before av U = true := hT.get 537 (by decide +kernel) (by decide +kernel)
theorem q_559 {U : State} (hT : Tb U) {av : Array Value} : (Cond.methodLink RL 158 yL_run).before av U = true := hT.get 559 (by decide +kernel) (by decide +kernel)
theorem q_562 {U : State} (hT : Tb U) {av : Array Value} : (Cond.methodLink RL 62 yX7_run).before av U = true := hT.get 562 (by decide +kernel) (by decide +kernel)
theorem q_566 {U : State} (hT : Tb U) {av : Array Value} : (Cond.methodLink RX7 190 yX7_orderOf).before av U = true := hT.get 566 (by decide +kernel) (by decide +kernel)
theorem q_572 {U : State} (hT : Tb U) {av : Array Value} : (Cond.methodLink RX7 197 yX5_isOpen).before av U = true := hT.get 572 (by decide +kernel) (by decide +kernel)
theorem q_577 {U : State} (hT : Tb U) {av : Array Value} : (Cond.methodLink RX7 202 yX4_shotsOfHour).before av U = true := hT.get 577 (by decide +kernel) (by decide +kernel)
theorem q_581 {U : State} (hT : Tb U) {av : Array Value} : (Cond.methodLink RL 161 yL_order).before av U = true := hT.get 581 (by decide +kernel) (by decide +kernel)
theorem q_584 {U : State} (hT : Tb U) {av : Array Value} : (Cond.methodLink RL 65 yX7_order).before av U = true := hT.get 584 (by decide +kernel) (by decide +kernel)
theorem q_590 {U : State} (hT : Tb U) {av : Array Value} : (Cond.methodLink RX7 210 yX5_init).before av U = true := hT.get 590 (by decide +kernel) (by decide +kernel)
theorem q_593 {U : State} (hT : Tb U) {av : Array Value} : (Cond.methodLink RX5 3 Lib.objectInit).before av U = true := hT.get 593 (by decide +kernel) (by decide +kernel)
theorem q_594 {U : State} (hT : Tb U) {av : Array Value} : (Cond.methodLink RX5 26 Lib.Math.max.name).before av U = true := hT.get 594 (by decide +kernel) (by decide +kernel)
theorem q_628 {U : State} (hT : Tb U) {av : Array Value} : (Cond.methodLink RL 165 yL_lacks).before av U = true := hT.get 628 (by decide +kernel) (by decide +kernel)
theorem q_631 {U : State} (hT : Tb U) {av : Array Value} : (Cond.methodLink RL 69 yX7_lacks).before av U = true := hT.get 631 (by decide +kernel) (by decide +kernel)
theorem q_635 {U : State} (hT : Tb U) {av : Array Value} : (Cond.methodLink RL 168 yL_hoursNeeded).before av U = true := hT.get 635 (by decide +kernel) (by decide +kernel)
theorem q_638 {U : State} (hT : Tb U) {av : Array Value} : (Cond.methodLink RL 72 yX7_hoursNeeded).before av U = true := hT.get 638 (by decide +kernel) (by decide +kernel)
theorem q_643 {U : State} (hT : Tb U) {av : Array Value} : (Cond.methodLink RX7 218 yX7_dividedUp).before av U = true := hT.get 643 (by decide +kernel) (by decide +kernel)
theorem q_646 {U : State} (hT : Tb U) {av : Array Value} : (Cond.methodLink RL 171 yL_shots).before av U = true := hT.get 646 (by decide +kernel) (by decide +kernel)
theorem q_649 {U : State} (hT : Tb U) {av : Array Value} : (Cond.methodLink RL 75 yX7_shots).before av U = true := hT.get 649 (by decide +kernel) (by decide +kernel)
theorem q_653 {U : State} (hT : Tb U) {av : Array Value} : (Cond.methodLink RL 174 yL_regrindIn).before av U = true := hT.get 653 (by decide +kernel) (by decide +kernel)
theorem q_656 {U : State} (hT : Tb U) {av : Array Value} : (Cond.methodLink RL 78 yX7_regrindIn).before av U = true := hT.get 656 (by decide +kernel) (by decide +kernel)
theorem q_660 {U : State} (hT : Tb U) {av : Array Value} : (Cond.methodLink RL 177 yL_regrindByShots).before av U = true := hT.get 660 (by decide +kernel) (by decide +kernel)
theorem q_663 {U : State} (hT : Tb U) {av : Array Value} : (Cond.methodLink RL 82 yX7_regrindByShots).before av U = true := hT.get 663 (by decide +kernel) (by decide +kernel)
theorem q_667 {U : State} (hT : Tb U) {av : Array Value} : (Cond.methodLink RX7 228 yX5_regrindAdded).before av U = true := hT.get 667 (by decide +kernel) (by decide +kernel)
theorem q_671 {U : State} (hT : Tb U) {av : Array Value} : (Cond.methodLink RX5 46 Lib.Math.min.name).before av U = true := hT.get 671 (by decide +kernel) (by decide +kernel)
theorem q_674 {U : State} (hT : Tb U) {av : Array Value} : (Cond.methodLink RL 180 yL_greatestShare).before av U = true := hT.get 674 (by decide +kernel) (by decide +kernel)
theorem q_677 {U : State} (hT : Tb U) {av : Array Value} : (Cond.methodLink RL 85 yX7_greatestShare).before av U = true := hT.get 677 (by decide +kernel) (by decide +kernel)
theorem q_682 {U : State} (hT : Tb U) {av : Array Value} : (Cond.methodLink RL 183 yL_pass).before av U = true := hT.get 682 (by decide +kernel) (by decide +kernel)
theorem q_685 {U : State} (hT : Tb U) {av : Array Value} : (Cond.methodLink RL 88 yX7_pass).before av U = true := hT.get 685 (by decide +kernel) (by decide +kernel)
theorem q_690 {U : State} (hT : Tb U) {av : Array Value} : (Cond.methodLink RX7 242 yX7_passOneHour).before av U = true := hT.get 690 (by decide +kernel) (by decide +kernel)
theorem q_694 {U : State} (hT : Tb U) {av : Array Value} : (Cond.methodLink RX7 285 yX7_workOneHour).before av U = true := hT.get 694 (by decide +kernel) (by decide +kernel)
theorem q_698 {U : State} (hT : Tb U) {av : Array Value} : (Cond.methodLink RX7 292 yX7_makeShot).before av U = true := hT.get 698 (by decide +kernel) (by decide +kernel)
theorem q_702 {U : State} (hT : Tb U) {av : Array Value} : (Cond.methodLink RX7 309 Lib.Math.min.name).before av U = true := hT.get 702 (by decide +kernel) (by decide +kernel)
theorem q_703 {U : State} (hT : Tb U) {av : Array Value} : (Cond.methodLink RX7 312 yX1_draw).before av U = true := hT.get 703 (by decide +kernel) (by decide +kernel)
theorem q_707 {U : State} (hT : Tb U) {av : Array Value} : (Cond.methodLink RX1 28 Lib.Math.min.name).before av U = true := hT.get 707 (by decide +kernel) (by decide +kernel)
theorem q_708 {U : State} (hT : Tb U) {av : Array Value} : (Cond.methodLink RX7 315 yX4_makeParts).before av U = true := hT.get 708 (by decide +kernel) (by decide +kernel)
theorem q_712 {U : State} (hT : Tb U) {av : Array Value} : (Cond.methodLink RX4 47 yX0_failIfWorn).before av U = true := hT.get 712 (by decide +kernel) (by decide +kernel)
theorem q_713 {U : State} (hT : Tb U) {av : Array Value} : (Cond.methodLink RX7 318 yX5_keepShot).before av U = true := hT.get 713 (by decide +kernel) (by decide +kernel)
theorem q_717 {U : State} (hT : Tb U) {av : Array Value} : (Cond.methodLink RX7 289 yX1_dryOneHour).before av U = true := hT.get 717 (by decide +kernel) (by decide +kernel)
theorem q_721 {U : State} (hT : Tb U) {av : Array Value} : (Cond.methodLink RX1 37 yX1_takeOut).before av U = true := hT.get 721 (by decide +kernel) (by decide +kernel)
theorem q_722 {U : State} (hT : Tb U) {av : Array Value} : (Cond.methodLink RL 190 yL_regrindShare).before av U = true := hT.get 722 (by decide +kernel) (by decide +kernel)
theorem q_739 {U : State} (hT : Tb U) {av : Array Value} : (Cond.methodLink RL 91 yX7_regrindShare).before av U = true := hT.get 739 (by decide +kernel) (by decide +kernel)
theorem q_746 {U : State} (hT : Tb U) {av : Array Value} : (Cond.methodLink RL 194 yL_meanParts).before av U = true := hT.get 746 (by decide +kernel) (by decide +kernel)
theorem q_749 {U : State} (hT : Tb U) {av : Array Value} : (Cond.methodLink RL 97 yX7_meanParts).before av U = true := hT.get 749 (by decide +kernel) (by decide +kernel)
theorem q_755 {U : State} (hT : Tb U) {av : Array Value} : (Cond.methodLink RL 104 yX8_init).before av U = true := hT.get 755 (by decide +kernel) (by decide +kernel)
theorem q_758 {U : State} (hT : Tb U) {av : Array Value} : (Cond.methodLink RX8 1 Lib.objectInit).before av U = true := hT.get 758 (by decide +kernel) (by decide +kernel)
theorem q_868 {U : State} (hT : Tb U) {av : Array Value} : (Cond.methodLink RL 111 yX8_thrown).before av U = true := hT.get 868 (by decide +kernel) (by decide +kernel)
theorem q_872 {U : State} (hT : Tb U) {av : Array Value} : (Cond.methodLink RL 110 yX8_addResin).before av U = true := hT.get 872 (by decide +kernel) (by decide +kernel)
theorem q_876 {U : State} (hT : Tb U) {av : Array Value} : (Cond.methodLink RX8 91 yX8_in).before av U = true := hT.get 876 (by decide +kernel) (by decide +kernel)
theorem q_879 {U : State} (hT : Tb U) {av : Array Value} : (Cond.methodLink RL 118 yX8_fill).before av U = true := hT.get 879 (by decide +kernel) (by decide +kernel)
theorem q_883 {U : State} (hT : Tb U) {av : Array Value} : (Cond.methodLink RX8 111 yX8_isResin).before av U = true := hT.get 883 (by decide +kernel) (by decide +kernel)
theorem q_888 {U : State} (hT : Tb U) {av : Array Value} : (Cond.methodLink RL 121 yX8_empty).before av U = true := hT.get 888 (by decide +kernel) (by decide +kernel)
theorem q_892 {U : State} (hT : Tb U) {av : Array Value} : (Cond.methodLink RX8 115 yX8_isLot).before av U = true := hT.get 892 (by decide +kernel) (by decide +kernel)
theorem q_896 {U : State} (hT : Tb U) {av : Array Value} : (Cond.methodLink RX8 118 yX8_leaves).before av U = true := hT.get 896 (by decide +kernel) (by decide +kernel)
theorem q_900 {U : State} (hT : Tb U) {av : Array Value} : (Cond.methodLink RL 125 yX8_lots).before av U = true := hT.get 900 (by decide +kernel) (by decide +kernel)
theorem q_904 {U : State} (hT : Tb U) {av : Array Value} : (Cond.methodLink RL 128 yX8_hoursToDry).before av U = true := hT.get 904 (by decide +kernel) (by decide +kernel)
theorem q_908 {U : State} (hT : Tb U) {av : Array Value} : (Cond.methodLink RX8 128 yX8_toDry).before av U = true := hT.get 908 (by decide +kernel) (by decide +kernel)
theorem q_912 {U : State} (hT : Tb U) {av : Array Value} : (Cond.methodLink RX8 122 Lib.Math.max.name).before av U = true := hT.get 912 (by decide +kernel) (by decide +kernel)
theorem q_913 {U : State} (hT : Tb U) {av : Array Value} : (Cond.methodLink RL 131 yX8_dry).before av U = true := hT.get 913 (by decide +kernel) (by decide +kernel)
theorem q_917 {U : State} (hT : Tb U) {av : Array Value} : (Cond.methodLink RX8 132 yX8_dryOf).before av U = true := hT.get 917 (by decide +kernel) (by decide +kernel)
theorem q_921 {U : State} (hT : Tb U) {av : Array Value} : (Cond.methodLink RL 134 yX8_regrind).before av U = true := hT.get 921 (by decide +kernel) (by decide +kernel)
theorem q_925 {U : State} (hT : Tb U) {av : Array Value} : (Cond.methodLink RL 138 yX8_addMould).before av U = true := hT.get 925 (by decide +kernel) (by decide +kernel)
theorem q_929 {U : State} (hT : Tb U) {av : Array Value} : (Cond.methodLink RL 142 yX8_setLife).before av U = true := hT.get 929 (by decide +kernel) (by decide +kernel)
theorem q_933 {U : State} (hT : Tb U) {av : Array Value} : (Cond.methodLink RX8 135 yX8_isCavity).before av U = true := hT.get 933 (by decide +kernel) (by decide +kernel)
theorem q_937 {U : State} (hT : Tb U) {av : Array Value} : (Cond.methodLink RX8 101 yX8_isMould).before av U = true := hT.get 937 (by decide +kernel) (by decide +kernel)
theorem q_941 {U : State} (hT : Tb U) {av : Array Value} : (Cond.methodLink RX8 139 yX8_fails).before av U = true := hT.get 941 (by decide +kernel) (by decide +kernel)
theorem q_945 {U : State} (hT : Tb U) {av : Array Value} : (Cond.methodLink RL 145 yX8_block).before av U = true := hT.get 945 (by decide +kernel) (by decide +kernel)
theorem q_949 {U : State} (hT : Tb U) {av : Array Value} : (Cond.methodLink RX8 143 yX8_open).before av U = true := hT.get 949 (by decide +kernel) (by decide +kernel)
theorem q_953 {U : State} (hT : Tb U) {av : Array Value} : (Cond.methodLink RL 148 yX8_repair).before av U = true := hT.get 953 (by decide +kernel) (by decide +kernel)
theorem q_957 {U : State} (hT : Tb U) {av : Array Value} : (Cond.methodLink RX8 146 yX8_isMounted).before av U = true := hT.get 957 (by decide +kernel) (by decide +kernel)
theorem q_961 {U : State} (hT : Tb U) {av : Array Value} : (Cond.methodLink RL 151 yX8_nextOpen).before av U = true := hT.get 961 (by decide +kernel) (by decide +kernel)
theorem q_965 {U : State} (hT : Tb U) {av : Array Value} : (Cond.methodLink RX8 149 yX8_raises).before av U = true := hT.get 965 (by decide +kernel) (by decide +kernel)
theorem q_969 {U : State} (hT : Tb U) {av : Array Value} : (Cond.methodLink RL 154 yX8_addMachine).before av U = true := hT.get 969 (by decide +kernel) (by decide +kernel)
theorem q_973 {U : State} (hT : Tb U) {av : Array Value} : (Cond.methodLink RL 157 yX8_mount).before av U = true := hT.get 973 (by decide +kernel) (by decide +kernel)
theorem q_977 {U : State} (hT : Tb U) {av : Array Value} : (Cond.methodLink RX8 152 yX8_isMachine).before av U = true := hT.get 977 (by decide +kernel) (by decide +kernel)
theorem q_981 {U : State} (hT : Tb U) {av : Array Value} : (Cond.methodLink RL 160 yX8_run).before av U = true := hT.get 981 (by decide +kernel) (by decide +kernel)
theorem q_985 {U : State} (hT : Tb U) {av : Array Value} : (Cond.methodLink RX8 155 yX8_isOrder).before av U = true := hT.get 985 (by decide +kernel) (by decide +kernel)
theorem q_989 {U : State} (hT : Tb U) {av : Array Value} : (Cond.methodLink RL 164 yX8_order).before av U = true := hT.get 989 (by decide +kernel) (by decide +kernel)
theorem q_993 {U : State} (hT : Tb U) {av : Array Value} : (Cond.methodLink RL 167 yX8_lacks).before av U = true := hT.get 993 (by decide +kernel) (by decide +kernel)
theorem q_997 {U : State} (hT : Tb U) {av : Array Value} : (Cond.methodLink RL 170 yX8_hoursNeeded).before av U = true := hT.get 997 (by decide +kernel) (by decide +kernel)
theorem q_1001 {U : State} (hT : Tb U) {av : Array Value} : (Cond.methodLink RL 173 yX8_shots).before av U = true := hT.get 1001 (by decide +kernel) (by decide +kernel)
theorem q_1005 {U : State} (hT : Tb U) {av : Array Value} : (Cond.methodLink RL 176 yX8_regrindIn).before av U = true := hT.get 1005 (by decide +kernel) (by decide +kernel)
theorem q_1009 {U : State} (hT : Tb U) {av : Array Value} : (Cond.methodLink RL 179 yX8_regrindByShots).before av U = true := hT.get 1009 (by decide +kernel) (by decide +kernel)
theorem q_1013 {U : State} (hT : Tb U) {av : Array Value} : (Cond.methodLink RX8 158 yX8_regrindIn).before av U = true := hT.get 1013 (by decide +kernel) (by decide +kernel)
theorem q_1014 {U : State} (hT : Tb U) {av : Array Value} : (Cond.methodLink RL 182 yX8_greatestShare).before av U = true := hT.get 1014 (by decide +kernel) (by decide +kernel)
theorem q_1018 {U : State} (hT : Tb U) {av : Array Value} : (Cond.methodLink RL 185 yX8_pass).before av U = true := hT.get 1018 (by decide +kernel) (by decide +kernel)
theorem q_1022 {U : State} (hT : Tb U) {av : Array Value} : (Cond.methodLink RX8 186 yX8_hour).before av U = true := hT.get 1022 (by decide +kernel) (by decide +kernel)
theorem q_1026 {U : State} (hT : Tb U) {av : Array Value} : (Cond.methodLink RX8 180 yX8_shoots).before av U = true := hT.get 1026 (by decide +kernel) (by decide +kernel)
theorem q_1030 {U : State} (hT : Tb U) {av : Array Value} : (Cond.methodLink RX8 161 Lib.Math.min.name).before av U = true := hT.get 1030 (by decide +kernel) (by decide +kernel)
theorem q_1031 {U : State} (hT : Tb U) {av : Array Value} : (Cond.methodLink RX8 164 yX8_takes).before av U = true := hT.get 1031 (by decide +kernel) (by decide +kernel)
theorem q_1035 {U : State} (hT : Tb U) {av : Array Value} : (Cond.methodLink RL 189 yX8_hours).before av U = true := hT.get 1035 (by decide +kernel) (by decide +kernel)
theorem q_1039 {U : State} (hT : Tb U) {av : Array Value} : (Cond.methodLink RL 193 yX8_regrindShare).before av U = true := hT.get 1039 (by decide +kernel) (by decide +kernel)
theorem q_1043 {U : State} (hT : Tb U) {av : Array Value} : (Cond.methodLink RL 196 yX8_meanParts).before av U = true := hT.get 1043 (by decide +kernel) (by decide +kernel)
theorem q_47 {U : State} (hT : Tb U) {av : Array Value} : (Cond.classLink RL 8 RX7).before av U = true := hT.get 47 (by decide +kernel) (by decide +kernel)
theorem q_55 {U : State} (hT : Tb U) {av : Array Value} : (Cond.classLink RX7 9 RX6).before av U = true := hT.get 55 (by decide +kernel) (by decide +kernel)
theorem q_57 {U : State} (hT : Tb U) {av : Array Value} : (Cond.classLink RX7 15 RX4).before av U = true := hT.get 57 (by decide +kernel) (by decide +kernel)
theorem q_59 {U : State} (hT : Tb U) {av : Array Value} : (Cond.classLink RX7 21 RX3).before av U = true := hT.get 59 (by decide +kernel) (by decide +kernel)
theorem q_61 {U : State} (hT : Tb U) {av : Array Value} : (Cond.classLink RX7 27 RX5).before av U = true := hT.get 61 (by decide +kernel) (by decide +kernel)
theorem q_63 {U : State} (hT : Tb U) {av : Array Value} : (Cond.classLink RX7 33 RX1).before av U = true := hT.get 63 (by decide +kernel) (by decide +kernel)
theorem q_69 {U : State} (hT : Tb U) {av : Array Value} : (Cond.classLink RX1 9 RX2).before av U = true := hT.get 69 (by decide +kernel) (by decide +kernel)
theorem q_133 {U : State} (hT : Tb U) {av : Array Value} : (Cond.classLink RL 13 "java/lang/IllegalArgumentException").before av U = true := hT.get 133 (by decide +kernel) (by decide +kernel)
theorem q_134 {U : State} (hT : Tb U) {av : Array Value} : (Cond.classLink RL 15 "java/lang/IllegalStateException").before av U = true := hT.get 134 (by decide +kernel) (by decide +kernel)
theorem q_142 {U : State} (hT : Tb U) {av : Array Value} : (Cond.classLink RX7 262 "java/lang/IllegalArgumentException").before av U = true := hT.get 142 (by decide +kernel) (by decide +kernel)
theorem q_214 {U : State} (hT : Tb U) {av : Array Value} : (Cond.classLink RX7 48 "java/lang/IllegalStateException").before av U = true := hT.get 214 (by decide +kernel) (by decide +kernel)
theorem q_246 {U : State} (hT : Tb U) {av : Array Value} : (Cond.classLink RL 21 "java/lang/IndexOutOfBoundsException").before av U = true := hT.get 246 (by decide +kernel) (by decide +kernel)
theorem q_278 {U : State} (hT : Tb U) {av : Array Value} : (Cond.classLink RX7 267 "java/lang/IndexOutOfBoundsException").before av U = true := hT.get 278 (by decide +kernel) (by decide +kernel)
theorem q_297 {U : State} (hT : Tb U) {av : Array Value} : (Cond.classLink RX7 69 RX2).before av U = true := hT.get 297 (by decide +kernel) (by decide +kernel)
theorem q_391 {U : State} (hT : Tb U) {av : Array Value} : (Cond.classLink RX4 33 RX0).before av U = true := hT.get 391 (by decide +kernel) (by decide +kernel)
theorem q_483 {U : State} (hT : Tb U) {av : Array Value} : (Cond.classLink RL 52 "java/util/NoSuchElementException").before av U = true := hT.get 483 (by decide +kernel) (by decide +kernel)
theorem q_489 {U : State} (hT : Tb U) {av : Array Value} : (Cond.classLink RX7 153 "java/util/NoSuchElementException").before av U = true := hT.get 489 (by decide +kernel) (by decide +kernel)
theorem q_532 {U : State} (hT : Tb U) {av : Array Value} : (Cond.classLink RL 60 "java/lang/UnsupportedOperationException").before av U = true := hT.get 532 (by decide +kernel) (by decide +kernel)
theorem q_542 {U : State} (hT : Tb U) {av : Array Value} : (Cond.classLink RX7 172 "java/lang/UnsupportedOperationException").before av U = true := hT.get 542 (by decide +kernel) (by decide +kernel)
theorem q_725 {U : State} (hT : Tb U) {av : Array Value} : (Cond.classLink RL 95 "java/lang/ArithmeticException").before av U = true := hT.get 725 (by decide +kernel) (by decide +kernel)
theorem q_743 {U : State} (hT : Tb U) {av : Array Value} : (Cond.classLink RX7 248 "java/lang/ArithmeticException").before av U = true := hT.get 743 (by decide +kernel) (by decide +kernel)
theorem q_753 {U : State} (hT : Tb U) {av : Array Value} : (Cond.classLink RL 102 RX8).before av U = true := hT.get 753 (by decide +kernel) (by decide +kernel)
theorem q_759 {U : State} (hT : Tb U) {av : Array Value} : (Cond.classLink RX8 40 "[[Z").before av U = true := hT.get 759 (by decide +kernel) (by decide +kernel)
theorem q_761 {U : State} (hT : Tb U) {av : Array Value} : (Cond.classLink RX8 45 "[[I").before av U = true := hT.get 761 (by decide +kernel) (by decide +kernel)
theorem q_50 {U : State} (hT : Tb U) {av : Array Value} : (Cond.instanceMethod yX7_init).before av U = true := hT.get 50 (by decide +kernel) (by decide +kernel)
theorem q_53 {U : State} (hT : Tb U) {av : Array Value} : (Cond.instanceMethod Lib.objectInit).before av U = true := hT.get 53 (by decide +kernel) (by decide +kernel)
theorem q_66 {U : State} (hT : Tb U) {av : Array Value} : (Cond.instanceMethod yX1_init).before av U = true := hT.get 66 (by decide +kernel) (by decide +kernel)
theorem q_123 {U : State} (hT : Tb U) {av : Array Value} : (Cond.instanceMethod yX7_lots).before av U = true := hT.get 123 (by decide +kernel) (by decide +kernel)
theorem q_127 {U : State} (hT : Tb U) {av : Array Value} : (Cond.instanceMethod yX7_hours).before av U = true := hT.get 127 (by decide +kernel) (by decide +kernel)
theorem q_136 {U : State} (hT : Tb U) {av : Array Value} : (Cond.instanceMethod yX7_addResin).before av U = true := hT.get 136 (by decide +kernel) (by decide +kernel)
theorem q_232 {U : State} (hT : Tb U) {av : Array Value} : (Cond.instanceMethod yX6_init).before av U = true := hT.get 232 (by decide +kernel) (by decide +kernel)
theorem q_271 {U : State} (hT : Tb U) {av : Array Value} : (Cond.instanceMethod yX7_fill).before av U = true := hT.get 271 (by decide +kernel) (by decide +kernel)
theorem q_276 {U : State} (hT : Tb U) {av : Array Value} : (Cond.instanceMethod yX7_resinOf).before av U = true := hT.get 276 (by decide +kernel) (by decide +kernel)
theorem q_293 {U : State} (hT : Tb U) {av : Array Value} : (Cond.instanceMethod yX1_isFull).before av U = true := hT.get 293 (by decide +kernel) (by decide +kernel)
theorem q_300 {U : State} (hT : Tb U) {av : Array Value} : (Cond.instanceMethod yX2_init).before av U = true := hT.get 300 (by decide +kernel) (by decide +kernel)
theorem q_317 {U : State} (hT : Tb U) {av : Array Value} : (Cond.instanceMethod yX1_put).before av U = true := hT.get 317 (by decide +kernel) (by decide +kernel)
theorem q_324 {U : State} (hT : Tb U) {av : Array Value} : (Cond.instanceMethod yX7_empty).before av U = true := hT.get 324 (by decide +kernel) (by decide +kernel)
theorem q_329 {U : State} (hT : Tb U) {av : Array Value} : (Cond.instanceMethod yX7_lotOf).before av U = true := hT.get 329 (by decide +kernel) (by decide +kernel)
theorem q_332 {U : State} (hT : Tb U) {av : Array Value} : (Cond.instanceMethod yX1_find).before av U = true := hT.get 332 (by decide +kernel) (by decide +kernel)
theorem q_337 {U : State} (hT : Tb U) {av : Array Value} : (Cond.instanceMethod yX1_takeOut).before av U = true := hT.get 337 (by decide +kernel) (by decide +kernel)
theorem q_344 {U : State} (hT : Tb U) {av : Array Value} : (Cond.instanceMethod yX7_hoursToDry).before av U = true := hT.get 344 (by decide +kernel) (by decide +kernel)
theorem q_348 {U : State} (hT : Tb U) {av : Array Value} : (Cond.instanceMethod yX2_hoursLeft).before av U = true := hT.get 348 (by decide +kernel) (by decide +kernel)
theorem q_358 {U : State} (hT : Tb U) {av : Array Value} : (Cond.instanceMethod yX7_dry).before av U = true := hT.get 358 (by decide +kernel) (by decide +kernel)
theorem q_362 {U : State} (hT : Tb U) {av : Array Value} : (Cond.instanceMethod yX1_dryGrams).before av U = true := hT.get 362 (by decide +kernel) (by decide +kernel)
theorem q_366 {U : State} (hT : Tb U) {av : Array Value} : (Cond.instanceMethod yX2_isDryOf).before av U = true := hT.get 366 (by decide +kernel) (by decide +kernel)
theorem q_374 {U : State} (hT : Tb U) {av : Array Value} : (Cond.instanceMethod yX7_regrind).before av U = true := hT.get 374 (by decide +kernel) (by decide +kernel)
theorem q_381 {U : State} (hT : Tb U) {av : Array Value} : (Cond.instanceMethod yX7_addMould).before av U = true := hT.get 381 (by decide +kernel) (by decide +kernel)
theorem q_387 {U : State} (hT : Tb U) {av : Array Value} : (Cond.instanceMethod yX4_init).before av U = true := hT.get 387 (by decide +kernel) (by decide +kernel)
theorem q_395 {U : State} (hT : Tb U) {av : Array Value} : (Cond.instanceMethod yX0_init).before av U = true := hT.get 395 (by decide +kernel) (by decide +kernel)
theorem q_444 {U : State} (hT : Tb U) {av : Array Value} : (Cond.instanceMethod yX7_setLife).before av U = true := hT.get 444 (by decide +kernel) (by decide +kernel)
theorem q_449 {U : State} (hT : Tb U) {av : Array Value} : (Cond.instanceMethod yX7_mouldOf).before av U = true := hT.get 449 (by decide +kernel) (by decide +kernel)
theorem q_457 {U : State} (hT : Tb U) {av : Array Value} : (Cond.instanceMethod yX0_failIfWorn).before av U = true := hT.get 457 (by decide +kernel) (by decide +kernel)
theorem q_464 {U : State} (hT : Tb U) {av : Array Value} : (Cond.instanceMethod yX7_block).before av U = true := hT.get 464 (by decide +kernel) (by decide +kernel)
theorem q_469 {U : State} (hT : Tb U) {av : Array Value} : (Cond.instanceMethod yX4_openCavities).before av U = true := hT.get 469 (by decide +kernel) (by decide +kernel)
theorem q_476 {U : State} (hT : Tb U) {av : Array Value} : (Cond.instanceMethod yX7_repair).before av U = true := hT.get 476 (by decide +kernel) (by decide +kernel)
theorem q_485 {U : State} (hT : Tb U) {av : Array Value} : (Cond.instanceMethod yX7_nextOpen).before av U = true := hT.get 485 (by decide +kernel) (by decide +kernel)
theorem q_509 {U : State} (hT : Tb U) {av : Array Value} : (Cond.instanceMethod yX7_addMachine).before av U = true := hT.get 509 (by decide +kernel) (by decide +kernel)
theorem q_515 {U : State} (hT : Tb U) {av : Array Value} : (Cond.instanceMethod yX3_init).before av U = true := hT.get 515 (by decide +kernel) (by decide +kernel)
theorem q_534 {U : State} (hT : Tb U) {av : Array Value} : (Cond.instanceMethod yX7_mount).before av U = true := hT.get 534 (by decide +kernel) (by decide +kernel)
theorem q_539 {U : State} (hT : Tb U) {av : Array Value} : (Cond.instanceMethod yX7_machineOf).before av U = true := hT.get 539 (by decide +kernel) (by decide +kernel)
theorem q_563 {U : State} (hT : Tb U) {av : Array Value} : (Cond.instanceMethod yX7_run).before av U = true := hT.get 563 (by decide +kernel) (by decide +kernel)
theorem q_568 {U : State} (hT : Tb U) {av : Array Value} : (Cond.instanceMethod yX7_orderOf).before av U = true := hT.get 568 (by decide +kernel) (by decide +kernel)
theorem q_573 {U : State} (hT : Tb U) {av : Array Value} : (Cond.instanceMethod yX5_isOpen).before av U = true := hT.get 573 (by decide +kernel) (by decide +kernel)
theorem q_578 {U : State} (hT : Tb U) {av : Array Value} : (Cond.instanceMethod yX4_shotsOfHour).before av U = true := hT.get 578 (by decide +kernel) (by decide +kernel)
theorem q_585 {U : State} (hT : Tb U) {av : Array Value} : (Cond.instanceMethod yX7_order).before av U = true := hT.get 585 (by decide +kernel) (by decide +kernel)
theorem q_591 {U : State} (hT : Tb U) {av : Array Value} : (Cond.instanceMethod yX5_init).before av U = true := hT.get 591 (by decide +kernel) (by decide +kernel)
theorem q_632 {U : State} (hT : Tb U) {av : Array Value} : (Cond.instanceMethod yX7_lacks).before av U = true := hT.get 632 (by decide +kernel) (by decide +kernel)
theorem q_639 {U : State} (hT : Tb U) {av : Array Value} : (Cond.instanceMethod yX7_hoursNeeded).before av U = true := hT.get 639 (by decide +kernel) (by decide +kernel)
theorem q_650 {U : State} (hT : Tb U) {av : Array Value} : (Cond.instanceMethod yX7_shots).before av U = true := hT.get 650 (by decide +kernel) (by decide +kernel)
theorem q_657 {U : State} (hT : Tb U) {av : Array Value} : (Cond.instanceMethod yX7_regrindIn).before av U = true := hT.get 657 (by decide +kernel) (by decide +kernel)
theorem q_664 {U : State} (hT : Tb U) {av : Array Value} : (Cond.instanceMethod yX7_regrindByShots).before av U = true := hT.get 664 (by decide +kernel) (by decide +kernel)
theorem q_668 {U : State} (hT : Tb U) {av : Array Value} : (Cond.instanceMethod yX5_regrindAdded).before av U = true := hT.get 668 (by decide +kernel) (by decide +kernel)
theorem q_678 {U : State} (hT : Tb U) {av : Array Value} : (Cond.instanceMethod yX7_greatestShare).before av U = true := hT.get 678 (by decide +kernel) (by decide +kernel)
theorem q_686 {U : State} (hT : Tb U) {av : Array Value} : (Cond.instanceMethod yX7_pass).before av U = true := hT.get 686 (by decide +kernel) (by decide +kernel)
theorem q_692 {U : State} (hT : Tb U) {av : Array Value} : (Cond.instanceMethod yX7_passOneHour).before av U = true := hT.get 692 (by decide +kernel) (by decide +kernel)
theorem q_696 {U : State} (hT : Tb U) {av : Array Value} : (Cond.instanceMethod yX7_workOneHour).before av U = true := hT.get 696 (by decide +kernel) (by decide +kernel)
theorem q_700 {U : State} (hT : Tb U) {av : Array Value} : (Cond.instanceMethod yX7_makeShot).before av U = true := hT.get 700 (by decide +kernel) (by decide +kernel)
theorem q_704 {U : State} (hT : Tb U) {av : Array Value} : (Cond.instanceMethod yX1_draw).before av U = true := hT.get 704 (by decide +kernel) (by decide +kernel)
theorem q_709 {U : State} (hT : Tb U) {av : Array Value} : (Cond.instanceMethod yX4_makeParts).before av U = true := hT.get 709 (by decide +kernel) (by decide +kernel)
theorem q_714 {U : State} (hT : Tb U) {av : Array Value} : (Cond.instanceMethod yX5_keepShot).before av U = true := hT.get 714 (by decide +kernel) (by decide +kernel)
theorem q_718 {U : State} (hT : Tb U) {av : Array Value} : (Cond.instanceMethod yX1_dryOneHour).before av U = true := hT.get 718 (by decide +kernel) (by decide +kernel)
theorem q_740 {U : State} (hT : Tb U) {av : Array Value} : (Cond.instanceMethod yX7_regrindShare).before av U = true := hT.get 740 (by decide +kernel) (by decide +kernel)
theorem q_750 {U : State} (hT : Tb U) {av : Array Value} : (Cond.instanceMethod yX7_meanParts).before av U = true := hT.get 750 (by decide +kernel) (by decide +kernel)
theorem q_756 {U : State} (hT : Tb U) {av : Array Value} : (Cond.instanceMethod yX8_init).before av U = true := hT.get 756 (by decide +kernel) (by decide +kernel)
theorem q_869 {U : State} (hT : Tb U) {av : Array Value} : (Cond.instanceMethod yX8_thrown).before av U = true := hT.get 869 (by decide +kernel) (by decide +kernel)
theorem q_873 {U : State} (hT : Tb U) {av : Array Value} : (Cond.instanceMethod yX8_addResin).before av U = true := hT.get 873 (by decide +kernel) (by decide +kernel)
theorem q_880 {U : State} (hT : Tb U) {av : Array Value} : (Cond.instanceMethod yX8_fill).before av U = true := hT.get 880 (by decide +kernel) (by decide +kernel)
theorem q_885 {U : State} (hT : Tb U) {av : Array Value} : (Cond.instanceMethod yX8_isResin).before av U = true := hT.get 885 (by decide +kernel) (by decide +kernel)
theorem q_889 {U : State} (hT : Tb U) {av : Array Value} : (Cond.instanceMethod yX8_empty).before av U = true := hT.get 889 (by decide +kernel) (by decide +kernel)
theorem q_894 {U : State} (hT : Tb U) {av : Array Value} : (Cond.instanceMethod yX8_isLot).before av U = true := hT.get 894 (by decide +kernel) (by decide +kernel)
theorem q_898 {U : State} (hT : Tb U) {av : Array Value} : (Cond.instanceMethod yX8_leaves).before av U = true := hT.get 898 (by decide +kernel) (by decide +kernel)
theorem q_901 {U : State} (hT : Tb U) {av : Array Value} : (Cond.instanceMethod yX8_lots).before av U = true := hT.get 901 (by decide +kernel) (by decide +kernel)
theorem q_905 {U : State} (hT : Tb U) {av : Array Value} : (Cond.instanceMethod yX8_hoursToDry).before av U = true := hT.get 905 (by decide +kernel) (by decide +kernel)
theorem q_910 {U : State} (hT : Tb U) {av : Array Value} : (Cond.instanceMethod yX8_toDry).before av U = true := hT.get 910 (by decide +kernel) (by decide +kernel)
theorem q_914 {U : State} (hT : Tb U) {av : Array Value} : (Cond.instanceMethod yX8_dry).before av U = true := hT.get 914 (by decide +kernel) (by decide +kernel)
theorem q_919 {U : State} (hT : Tb U) {av : Array Value} : (Cond.instanceMethod yX8_dryOf).before av U = true := hT.get 919 (by decide +kernel) (by decide +kernel)
theorem q_922 {U : State} (hT : Tb U) {av : Array Value} : (Cond.instanceMethod yX8_regrind).before av U = true := hT.get 922 (by decide +kernel) (by decide +kernel)
theorem q_926 {U : State} (hT : Tb U) {av : Array Value} : (Cond.instanceMethod yX8_addMould).before av U = true := hT.get 926 (by decide +kernel) (by decide +kernel)
theorem q_930 {U : State} (hT : Tb U) {av : Array Value} : (Cond.instanceMethod yX8_setLife).before av U = true := hT.get 930 (by decide +kernel) (by decide +kernel)
theorem q_935 {U : State} (hT : Tb U) {av : Array Value} : (Cond.instanceMethod yX8_isCavity).before av U = true := hT.get 935 (by decide +kernel) (by decide +kernel)
theorem q_939 {U : State} (hT : Tb U) {av : Array Value} : (Cond.instanceMethod yX8_isMould).before av U = true := hT.get 939 (by decide +kernel) (by decide +kernel)
theorem q_943 {U : State} (hT : Tb U) {av : Array Value} : (Cond.instanceMethod yX8_fails).before av U = true := hT.get 943 (by decide +kernel) (by decide +kernel)
theorem q_946 {U : State} (hT : Tb U) {av : Array Value} : (Cond.instanceMethod yX8_block).before av U = true := hT.get 946 (by decide +kernel) (by decide +kernel)
theorem q_951 {U : State} (hT : Tb U) {av : Array Value} : (Cond.instanceMethod yX8_open).before av U = true := hT.get 951 (by decide +kernel) (by decide +kernel)
theorem q_954 {U : State} (hT : Tb U) {av : Array Value} : (Cond.instanceMethod yX8_repair).before av U = true := hT.get 954 (by decide +kernel) (by decide +kernel)
theorem q_959 {U : State} (hT : Tb U) {av : Array Value} : (Cond.instanceMethod yX8_isMounted).before av U = true := hT.get 959 (by decide +kernel) (by decide +kernel)
theorem q_962 {U : State} (hT : Tb U) {av : Array Value} : (Cond.instanceMethod yX8_nextOpen).before av U = true := hT.get 962 (by decide +kernel) (by decide +kernel)
theorem q_967 {U : State} (hT : Tb U) {av : Array Value} : (Cond.instanceMethod yX8_raises).before av U = true := hT.get 967 (by decide +kernel) (by decide +kernel)
theorem q_970 {U : State} (hT : Tb U) {av : Array Value} : (Cond.instanceMethod yX8_addMachine).before av U = true := hT.get 970 (by decide +kernel) (by decide +kernel)
theorem q_974 {U : State} (hT : Tb U) {av : Array Value} : (Cond.instanceMethod yX8_mount).before av U = true := hT.get 974 (by decide +kernel) (by decide +kernel)
theorem q_979 {U : State} (hT : Tb U) {av : Array Value} : (Cond.instanceMethod yX8_isMachine).before av U = true := hT.get 979 (by decide +kernel) (by decide +kernel)
theorem q_982 {U : State} (hT : Tb U) {av : Array Value} : (Cond.instanceMethod yX8_run).before av U = true := hT.get 982 (by decide +kernel) (by decide +kernel)
theorem q_987 {U : State} (hT : Tb U) {av : Array Value} : (Cond.instanceMethod yX8_isOrder).before av U = true := hT.get 987 (by decide +kernel) (by decide +kernel)
theorem q_990 {U : State} (hT : Tb U) {av : Array Value} : (Cond.instanceMethod yX8_order).before av U = true := hT.get 990 (by decide +kernel) (by decide +kernel)
theorem q_994 {U : State} (hT : Tb U) {av : Array Value} : (Cond.instanceMethod yX8_lacks).before av U = true := hT.get 994 (by decide +kernel) (by decide +kernel)
theorem q_998 {U : State} (hT : Tb U) {av : Array Value} : (Cond.instanceMethod yX8_hoursNeeded).before av U = true := hT.get 998 (by decide +kernel) (by decide +kernel)
theorem q_1002 {U : State} (hT : Tb U) {av : Array Value} : (Cond.instanceMethod yX8_shots).before av U = true := hT.get 1002 (by decide +kernel) (by decide +kernel)
theorem q_1006 {U : State} (hT : Tb U) {av : Array Value} : (Cond.instanceMethod yX8_regrindIn).before av U = true := hT.get 1006 (by decide +kernel) (by decide +kernel)
theorem q_1010 {U : State} (hT : Tb U) {av : Array Value} : (Cond.instanceMethod yX8_regrindByShots).before av U = true := hT.get 1010 (by decide +kernel) (by decide +kernel)
theorem q_1015 {U : State} (hT : Tb U) {av : Array Value} : (Cond.instanceMethod yX8_greatestShare).before av U = true := hT.get 1015 (by decide +kernel) (by decide +kernel)
theorem q_1019 {U : State} (hT : Tb U) {av : Array Value} : (Cond.instanceMethod yX8_pass).before av U = true := hT.get 1019 (by decide +kernel) (by decide +kernel)
theorem q_1024 {U : State} (hT : Tb U) {av : Array Value} : (Cond.instanceMethod yX8_hour).before av U = true := hT.get 1024 (by decide +kernel) (by decide +kernel)
theorem q_1028 {U : State} (hT : Tb U) {av : Array Value} : (Cond.instanceMethod yX8_shoots).before av U = true := hT.get 1028 (by decide +kernel) (by decide +kernel)
theorem q_1033 {U : State} (hT : Tb U) {av : Array Value} : (Cond.instanceMethod yX8_takes).before av U = true := hT.get 1033 (by decide +kernel) (by decide +kernel)
theorem q_1036 {U : State} (hT : Tb U) {av : Array Value} : (Cond.instanceMethod yX8_hours).before av U = true := hT.get 1036 (by decide +kernel) (by decide +kernel)
theorem q_1040 {U : State} (hT : Tb U) {av : Array Value} : (Cond.instanceMethod yX8_regrindShare).before av U = true := hT.get 1040 (by decide +kernel) (by decide +kernel)
theorem q_1044 {U : State} (hT : Tb U) {av : Array Value} : (Cond.instanceMethod yX8_meanParts).before av U = true := hT.get 1044 (by decide +kernel) (by decide +kernel)
theorem q_131 {U : State} (hT : Tb U) {av : Array Value} : (Cond.static yL_addResin).before av U = true := hT.get 131 (by decide +kernel) (by decide +kernel)
theorem q_140 {U : State} (hT : Tb U) {av : Array Value} : (Cond.static yX7_requireRange).before av U = true := hT.get 140 (by decide +kernel) (by decide +kernel)
theorem q_244 {U : State} (hT : Tb U) {av : Array Value} : (Cond.static yL_fill).before av U = true := hT.get 244 (by decide +kernel) (by decide +kernel)
theorem q_321 {U : State} (hT : Tb U) {av : Array Value} : (Cond.static yL_empty).before av U = true := hT.get 321 (by decide +kernel) (by decide +kernel)
theorem q_341 {U : State} (hT : Tb U) {av : Array Value} : (Cond.static yL_hoursToDry).before av U = true := hT.get 341 (by decide +kernel) (by decide +kernel)
theorem q_352 {U : State} (hT : Tb U) {av : Array Value} : (Cond.static Lib.Math.max.name).before av U = true := hT.get 352 (by decide +kernel) (by decide +kernel)
theorem q_355 {U : State} (hT : Tb U) {av : Array Value} : (Cond.static yL_dry).before av U = true := hT.get 355 (by decide +kernel) (by decide +kernel)
theorem q_371 {U : State} (hT : Tb U) {av : Array Value} : (Cond.static yL_regrind).before av U = true := hT.get 371 (by decide +kernel) (by decide +kernel)
theorem q_378 {U : State} (hT : Tb U) {av : Array Value} : (Cond.static yL_addMould).before av U = true := hT.get 378 (by decide +kernel) (by decide +kernel)
theorem q_441 {U : State} (hT : Tb U) {av : Array Value} : (Cond.static yL_setLife).before av U = true := hT.get 441 (by decide +kernel) (by decide +kernel)
theorem q_453 {U : State} (hT : Tb U) {av : Array Value} : (Cond.static yX7_cavityOf).before av U = true := hT.get 453 (by decide +kernel) (by decide +kernel)
theorem q_461 {U : State} (hT : Tb U) {av : Array Value} : (Cond.static yL_block).before av U = true := hT.get 461 (by decide +kernel) (by decide +kernel)
theorem q_473 {U : State} (hT : Tb U) {av : Array Value} : (Cond.static yL_repair).before av U = true := hT.get 473 (by decide +kernel) (by decide +kernel)
theorem q_481 {U : State} (hT : Tb U) {av : Array Value} : (Cond.static yL_nextOpen).before av U = true := hT.get 481 (by decide +kernel) (by decide +kernel)
theorem q_506 {U : State} (hT : Tb U) {av : Array Value} : (Cond.static yL_addMachine).before av U = true := hT.get 506 (by decide +kernel) (by decide +kernel)
theorem q_530 {U : State} (hT : Tb U) {av : Array Value} : (Cond.static yL_mount).before av U = true := hT.get 530 (by decide +kernel) (by decide +kernel)
theorem q_560 {U : State} (hT : Tb U) {av : Array Value} : (Cond.static yL_run).before av U = true := hT.get 560 (by decide +kernel) (by decide +kernel)
theorem q_582 {U : State} (hT : Tb U) {av : Array Value} : (Cond.static yL_order).before av U = true := hT.get 582 (by decide +kernel) (by decide +kernel)
theorem q_629 {U : State} (hT : Tb U) {av : Array Value} : (Cond.static yL_lacks).before av U = true := hT.get 629 (by decide +kernel) (by decide +kernel)
theorem q_636 {U : State} (hT : Tb U) {av : Array Value} : (Cond.static yL_hoursNeeded).before av U = true := hT.get 636 (by decide +kernel) (by decide +kernel)
theorem q_644 {U : State} (hT : Tb U) {av : Array Value} : (Cond.static yX7_dividedUp).before av U = true := hT.get 644 (by decide +kernel) (by decide +kernel)
theorem q_647 {U : State} (hT : Tb U) {av : Array Value} : (Cond.static yL_shots).before av U = true := hT.get 647 (by decide +kernel) (by decide +kernel)
theorem q_654 {U : State} (hT : Tb U) {av : Array Value} : (Cond.static yL_regrindIn).before av U = true := hT.get 654 (by decide +kernel) (by decide +kernel)
theorem q_661 {U : State} (hT : Tb U) {av : Array Value} : (Cond.static yL_regrindByShots).before av U = true := hT.get 661 (by decide +kernel) (by decide +kernel)
theorem q_672 {U : State} (hT : Tb U) {av : Array Value} : (Cond.static Lib.Math.min.name).before av U = true := hT.get 672 (by decide +kernel) (by decide +kernel)
theorem q_675 {U : State} (hT : Tb U) {av : Array Value} : (Cond.static yL_greatestShare).before av U = true := hT.get 675 (by decide +kernel) (by decide +kernel)
theorem q_683 {U : State} (hT : Tb U) {av : Array Value} : (Cond.static yL_pass).before av U = true := hT.get 683 (by decide +kernel) (by decide +kernel)
theorem q_723 {U : State} (hT : Tb U) {av : Array Value} : (Cond.static yL_regrindShare).before av U = true := hT.get 723 (by decide +kernel) (by decide +kernel)
theorem q_747 {U : State} (hT : Tb U) {av : Array Value} : (Cond.static yL_meanParts).before av U = true := hT.get 747 (by decide +kernel) (by decide +kernel)
theorem q_877 {U : State} (hT : Tb U) {av : Array Value} : (Cond.static yX8_in).before av U = true := hT.get 877 (by decide +kernel) (by decide +kernel)
theorem q_51 {U : State} (hT : Tb U) {av : Array Value} : (Cond.code yX7_init cX7_init 1 none).before av U = true := hT.get 51 (by decide +kernel) (by decide +kernel)
theorem q_54 {U : State} (hT : Tb U) {av : Array Value} : (Cond.code Lib.objectInit ⟨#[0xb1]⟩ 1 none).before av U = true := hT.get 54 (by decide +kernel) (by decide +kernel)
theorem q_67 {U : State} (hT : Tb U) {av : Array Value} : (Cond.code yX1_init cX1_init 1 none).before av U = true := hT.get 67 (by decide +kernel) (by decide +kernel)
theorem q_125 {U : State} (hT : Tb U) {av : Array Value} : (Cond.code yX7_lots cX7_lots 1 (some .int)).before av U = true := hT.get 125 (by decide +kernel) (by decide +kernel)
theorem q_129 {U : State} (hT : Tb U) {av : Array Value} : (Cond.code yX7_hours cX7_hours 1 (some .int)).before av U = true := hT.get 129 (by decide +kernel) (by decide +kernel)
theorem q_138 {U : State} (hT : Tb U) {av : Array Value} : (Cond.code yX7_addResin cX7_addResin 3 (some .int)).before av U = true := hT.get 138 (by decide +kernel) (by decide +kernel)
theorem q_141 {U : State} (hT : Tb U) {av : Array Value} : (Cond.code yX7_requireRange cX7_requireRange 3 none).before av U = true := hT.get 141 (by decide +kernel) (by decide +kernel)
theorem q_233 {U : State} (hT : Tb U) {av : Array Value} : (Cond.code yX6_init cX6_init 2 none).before av U = true := hT.get 233 (by decide +kernel) (by decide +kernel)
theorem q_273 {U : State} (hT : Tb U) {av : Array Value} : (Cond.code yX7_fill cX7_fill 4 (some .int)).before av U = true := hT.get 273 (by decide +kernel) (by decide +kernel)
theorem q_277 {U : State} (hT : Tb U) {av : Array Value} : (Cond.code yX7_resinOf cX7_resinOf 3 (some (.object "MouldDesk$Resin"))).before av U = true := hT.get 277 (by decide +kernel) (by decide +kernel)
theorem q_295 {U : State} (hT : Tb U) {av : Array Value} : (Cond.code yX1_isFull cX1_isFull 1 (some .boolean)).before av U = true := hT.get 295 (by decide +kernel) (by decide +kernel)
theorem q_301 {U : State} (hT : Tb U) {av : Array Value} : (Cond.code yX2_init cX2_init 3 none).before av U = true := hT.get 301 (by decide +kernel) (by decide +kernel)
theorem q_319 {U : State} (hT : Tb U) {av : Array Value} : (Cond.code yX1_put cX1_put 2 none).before av U = true := hT.get 319 (by decide +kernel) (by decide +kernel)
theorem q_326 {U : State} (hT : Tb U) {av : Array Value} : (Cond.code yX7_empty cX7_empty 3 (some .int)).before av U = true := hT.get 326 (by decide +kernel) (by decide +kernel)
theorem q_330 {U : State} (hT : Tb U) {av : Array Value} : (Cond.code yX7_lotOf cX7_lotOf 3 (some (.object "MouldDesk$Lot"))).before av U = true := hT.get 330 (by decide +kernel) (by decide +kernel)
theorem q_334 {U : State} (hT : Tb U) {av : Array Value} : (Cond.code yX1_find cX1_find 2 (some (.object "MouldDesk$Lot"))).before av U = true := hT.get 334 (by decide +kernel) (by decide +kernel)
theorem q_339 {U : State} (hT : Tb U) {av : Array Value} : (Cond.code yX1_takeOut cX1_takeOut 4 none).before av U = true := hT.get 339 (by decide +kernel) (by decide +kernel)
theorem q_346 {U : State} (hT : Tb U) {av : Array Value} : (Cond.code yX7_hoursToDry cX7_hoursToDry 2 (some .int)).before av U = true := hT.get 346 (by decide +kernel) (by decide +kernel)
theorem q_350 {U : State} (hT : Tb U) {av : Array Value} : (Cond.code yX2_hoursLeft cX2_hoursLeft 1 (some .int)).before av U = true := hT.get 350 (by decide +kernel) (by decide +kernel)
theorem q_353 {U : State} (hT : Tb U) {av : Array Value} : (Cond.code Lib.Math.max.name Lib.Math.max.code 2 (some .int)).before av U = true := hT.get 353 (by decide +kernel) (by decide +kernel)
theorem q_360 {U : State} (hT : Tb U) {av : Array Value} : (Cond.code yX7_dry cX7_dry 2 (some .int)).before av U = true := hT.get 360 (by decide +kernel) (by decide +kernel)
theorem q_364 {U : State} (hT : Tb U) {av : Array Value} : (Cond.code yX1_dryGrams cX1_dryGrams 5 (some .int)).before av U = true := hT.get 364 (by decide +kernel) (by decide +kernel)
theorem q_368 {U : State} (hT : Tb U) {av : Array Value} : (Cond.code yX2_isDryOf cX2_isDryOf 2 (some .boolean)).before av U = true := hT.get 368 (by decide +kernel) (by decide +kernel)
theorem q_376 {U : State} (hT : Tb U) {av : Array Value} : (Cond.code yX7_regrind cX7_regrind 2 (some .int)).before av U = true := hT.get 376 (by decide +kernel) (by decide +kernel)
theorem q_383 {U : State} (hT : Tb U) {av : Array Value} : (Cond.code yX7_addMould cX7_addMould 7 (some .int)).before av U = true := hT.get 383 (by decide +kernel) (by decide +kernel)
theorem q_388 {U : State} (hT : Tb U) {av : Array Value} : (Cond.code yX4_init cX4_init 8 none).before av U = true := hT.get 388 (by decide +kernel) (by decide +kernel)
theorem q_396 {U : State} (hT : Tb U) {av : Array Value} : (Cond.code yX0_init cX0_init 1 none).before av U = true := hT.get 396 (by decide +kernel) (by decide +kernel)
theorem q_446 {U : State} (hT : Tb U) {av : Array Value} : (Cond.code yX7_setLife cX7_setLife 5 (some .int)).before av U = true := hT.get 446 (by decide +kernel) (by decide +kernel)
theorem q_450 {U : State} (hT : Tb U) {av : Array Value} : (Cond.code yX7_mouldOf cX7_mouldOf 3 (some (.object "MouldDesk$Mould"))).before av U = true := hT.get 450 (by decide +kernel) (by decide +kernel)
theorem q_454 {U : State} (hT : Tb U) {av : Array Value} : (Cond.code yX7_cavityOf cX7_cavityOf 4 (some (.object "MouldDesk$Cavity"))).before av U = true := hT.get 454 (by decide +kernel) (by decide +kernel)
theorem q_459 {U : State} (hT : Tb U) {av : Array Value} : (Cond.code yX0_failIfWorn cX0_failIfWorn 1 none).before av U = true := hT.get 459 (by decide +kernel) (by decide +kernel)
theorem q_466 {U : State} (hT : Tb U) {av : Array Value} : (Cond.code yX7_block cX7_block 5 (some .int)).before av U = true := hT.get 466 (by decide +kernel) (by decide +kernel)
theorem q_471 {U : State} (hT : Tb U) {av : Array Value} : (Cond.code yX4_openCavities cX4_openCavities 4 (some .int)).before av U = true := hT.get 471 (by decide +kernel) (by decide +kernel)
theorem q_478 {U : State} (hT : Tb U) {av : Array Value} : (Cond.code yX7_repair cX7_repair 5 (some .int)).before av U = true := hT.get 478 (by decide +kernel) (by decide +kernel)
theorem q_487 {U : State} (hT : Tb U) {av : Array Value} : (Cond.code yX7_nextOpen cX7_nextOpen 6 (some .int)).before av U = true := hT.get 487 (by decide +kernel) (by decide +kernel)
theorem q_511 {U : State} (hT : Tb U) {av : Array Value} : (Cond.code yX7_addMachine cX7_addMachine 3 (some .int)).before av U = true := hT.get 511 (by decide +kernel) (by decide +kernel)
theorem q_516 {U : State} (hT : Tb U) {av : Array Value} : (Cond.code yX3_init cX3_init 2 none).before av U = true := hT.get 516 (by decide +kernel) (by decide +kernel)
theorem q_536 {U : State} (hT : Tb U) {av : Array Value} : (Cond.code yX7_mount cX7_mount 6 (some .int)).before av U = true := hT.get 536 (by decide +kernel) (by decide +kernel)
theorem q_540 {U : State} (hT : Tb U) {av : Array Value} : (Cond.code yX7_machineOf cX7_machineOf 3 (some (.object "MouldDesk$Machine"))).before av U = true := hT.get 540 (by decide +kernel) (by decide +kernel)
theorem q_565 {U : State} (hT : Tb U) {av : Array Value} : (Cond.code yX7_run cX7_run 5 (some .int)).before av U = true := hT.get 565 (by decide +kernel) (by decide +kernel)
theorem q_569 {U : State} (hT : Tb U) {av : Array Value} : (Cond.code yX7_orderOf cX7_orderOf 3 (some (.object "MouldDesk$Order"))).before av U = true := hT.get 569 (by decide +kernel) (by decide +kernel)
theorem q_575 {U : State} (hT : Tb U) {av : Array Value} : (Cond.code yX5_isOpen cX5_isOpen 1 (some .boolean)).before av U = true := hT.get 575 (by decide +kernel) (by decide +kernel)
theorem q_580 {U : State} (hT : Tb U) {av : Array Value} : (Cond.code yX4_shotsOfHour cX4_shotsOfHour 1 (some .int)).before av U = true := hT.get 580 (by decide +kernel) (by decide +kernel)
theorem q_587 {U : State} (hT : Tb U) {av : Array Value} : (Cond.code yX7_order cX7_order 8 (some .int)).before av U = true := hT.get 587 (by decide +kernel) (by decide +kernel)
theorem q_592 {U : State} (hT : Tb U) {av : Array Value} : (Cond.code yX5_init cX5_init 5 none).before av U = true := hT.get 592 (by decide +kernel) (by decide +kernel)
theorem q_634 {U : State} (hT : Tb U) {av : Array Value} : (Cond.code yX7_lacks cX7_lacks 2 (some .int)).before av U = true := hT.get 634 (by decide +kernel) (by decide +kernel)
theorem q_641 {U : State} (hT : Tb U) {av : Array Value} : (Cond.code yX7_hoursNeeded cX7_hoursNeeded 4 (some .int)).before av U = true := hT.get 641 (by decide +kernel) (by decide +kernel)
theorem q_645 {U : State} (hT : Tb U) {av : Array Value} : (Cond.code yX7_dividedUp cX7_dividedUp 2 (some .int)).before av U = true := hT.get 645 (by decide +kernel) (by decide +kernel)
theorem q_652 {U : State} (hT : Tb U) {av : Array Value} : (Cond.code yX7_shots cX7_shots 2 (some .int)).before av U = true := hT.get 652 (by decide +kernel) (by decide +kernel)
theorem q_659 {U : State} (hT : Tb U) {av : Array Value} : (Cond.code yX7_regrindIn cX7_regrindIn 2 (some .long)).before av U = true := hT.get 659 (by decide +kernel) (by decide +kernel)
theorem q_666 {U : State} (hT : Tb U) {av : Array Value} : (Cond.code yX7_regrindByShots cX7_regrindByShots 2 (some .long)).before av U = true := hT.get 666 (by decide +kernel) (by decide +kernel)
theorem q_670 {U : State} (hT : Tb U) {av : Array Value} : (Cond.code yX5_regrindAdded cX5_regrindAdded 5 (some .long)).before av U = true := hT.get 670 (by decide +kernel) (by decide +kernel)
theorem q_673 {U : State} (hT : Tb U) {av : Array Value} : (Cond.code Lib.Math.min.name Lib.Math.min.code 2 (some .int)).before av U = true := hT.get 673 (by decide +kernel) (by decide +kernel)
theorem q_680 {U : State} (hT : Tb U) {av : Array Value} : (Cond.code yX7_greatestShare cX7_greatestShare 3 (some .int)).before av U = true := hT.get 680 (by decide +kernel) (by decide +kernel)
theorem q_688 {U : State} (hT : Tb U) {av : Array Value} : (Cond.code yX7_pass cX7_pass 4 (some .int)).before av U = true := hT.get 688 (by decide +kernel) (by decide +kernel)
theorem q_693 {U : State} (hT : Tb U) {av : Array Value} : (Cond.code yX7_passOneHour cX7_passOneHour 4 (some .int)).before av U = true := hT.get 693 (by decide +kernel) (by decide +kernel)
theorem q_697 {U : State} (hT : Tb U) {av : Array Value} : (Cond.code yX7_workOneHour cX7_workOneHour 7 (some .int)).before av U = true := hT.get 697 (by decide +kernel) (by decide +kernel)
theorem q_701 {U : State} (hT : Tb U) {av : Array Value} : (Cond.code yX7_makeShot cX7_makeShot 9 (some .boolean)).before av U = true := hT.get 701 (by decide +kernel) (by decide +kernel)
theorem q_706 {U : State} (hT : Tb U) {av : Array Value} : (Cond.code yX1_draw cX1_draw 7 none).before av U = true := hT.get 706 (by decide +kernel) (by decide +kernel)
theorem q_711 {U : State} (hT : Tb U) {av : Array Value} : (Cond.code yX4_makeParts cX4_makeParts 3 none).before av U = true := hT.get 711 (by decide +kernel) (by decide +kernel)
theorem q_716 {U : State} (hT : Tb U) {av : Array Value} : (Cond.code yX5_keepShot cX5_keepShot 4 none).before av U = true := hT.get 716 (by decide +kernel) (by decide +kernel)
theorem q_720 {U : State} (hT : Tb U) {av : Array Value} : (Cond.code yX1_dryOneHour cX1_dryOneHour 3 none).before av U = true := hT.get 720 (by decide +kernel) (by decide +kernel)
theorem q_742 {U : State} (hT : Tb U) {av : Array Value} : (Cond.code yX7_regrindShare cX7_regrindShare 1 (some .float)).before av U = true := hT.get 742 (by decide +kernel) (by decide +kernel)
theorem q_752 {U : State} (hT : Tb U) {av : Array Value} : (Cond.code yX7_meanParts cX7_meanParts 1 (some .double)).before av U = true := hT.get 752 (by decide +kernel) (by decide +kernel)
theorem q_757 {U : State} (hT : Tb U) {av : Array Value} : (Cond.code yX8_init cX8_init 1 none).before av U = true := hT.get 757 (by decide +kernel) (by decide +kernel)
theorem q_871 {U : State} (hT : Tb U) {av : Array Value} : (Cond.code yX8_thrown cX8_thrown 1 (some .int)).before av U = true := hT.get 871 (by decide +kernel) (by decide +kernel)
theorem q_875 {U : State} (hT : Tb U) {av : Array Value} : (Cond.code yX8_addResin cX8_addResin 2 (some .int)).before av U = true := hT.get 875 (by decide +kernel) (by decide +kernel)
theorem q_878 {U : State} (hT : Tb U) {av : Array Value} : (Cond.code yX8_in cX8_in 3 (some .boolean)).before av U = true := hT.get 878 (by decide +kernel) (by decide +kernel)
theorem q_882 {U : State} (hT : Tb U) {av : Array Value} : (Cond.code yX8_fill cX8_fill 3 (some .int)).before av U = true := hT.get 882 (by decide +kernel) (by decide +kernel)
theorem q_886 {U : State} (hT : Tb U) {av : Array Value} : (Cond.code yX8_isResin cX8_isResin 2 (some .boolean)).before av U = true := hT.get 886 (by decide +kernel) (by decide +kernel)
theorem q_891 {U : State} (hT : Tb U) {av : Array Value} : (Cond.code yX8_empty cX8_empty 3 (some .int)).before av U = true := hT.get 891 (by decide +kernel) (by decide +kernel)
theorem q_895 {U : State} (hT : Tb U) {av : Array Value} : (Cond.code yX8_isLot cX8_isLot 2 (some .boolean)).before av U = true := hT.get 895 (by decide +kernel) (by decide +kernel)
theorem q_899 {U : State} (hT : Tb U) {av : Array Value} : (Cond.code yX8_leaves cX8_leaves 3 none).before av U = true := hT.get 899 (by decide +kernel) (by decide +kernel)
theorem q_903 {U : State} (hT : Tb U) {av : Array Value} : (Cond.code yX8_lots cX8_lots 1 (some .int)).before av U = true := hT.get 903 (by decide +kernel) (by decide +kernel)
theorem q_907 {U : State} (hT : Tb U) {av : Array Value} : (Cond.code yX8_hoursToDry cX8_hoursToDry 2 (some .int)).before av U = true := hT.get 907 (by decide +kernel) (by decide +kernel)
theorem q_911 {U : State} (hT : Tb U) {av : Array Value} : (Cond.code yX8_toDry cX8_toDry 2 (some .int)).before av U = true := hT.get 911 (by decide +kernel) (by decide +kernel)
theorem q_916 {U : State} (hT : Tb U) {av : Array Value} : (Cond.code yX8_dry cX8_dry 2 (some .int)).before av U = true := hT.get 916 (by decide +kernel) (by decide +kernel)
theorem q_920 {U : State} (hT : Tb U) {av : Array Value} : (Cond.code yX8_dryOf cX8_dryOf 4 (some .int)).before av U = true := hT.get 920 (by decide +kernel) (by decide +kernel)
theorem q_924 {U : State} (hT : Tb U) {av : Array Value} : (Cond.code yX8_regrind cX8_regrind 2 (some .int)).before av U = true := hT.get 924 (by decide +kernel) (by decide +kernel)
theorem q_928 {U : State} (hT : Tb U) {av : Array Value} : (Cond.code yX8_addMould cX8_addMould 8 (some .int)).before av U = true := hT.get 928 (by decide +kernel) (by decide +kernel)
theorem q_932 {U : State} (hT : Tb U) {av : Array Value} : (Cond.code yX8_setLife cX8_setLife 4 (some .int)).before av U = true := hT.get 932 (by decide +kernel) (by decide +kernel)
theorem q_936 {U : State} (hT : Tb U) {av : Array Value} : (Cond.code yX8_isCavity cX8_isCavity 3 (some .boolean)).before av U = true := hT.get 936 (by decide +kernel) (by decide +kernel)
theorem q_940 {U : State} (hT : Tb U) {av : Array Value} : (Cond.code yX8_isMould cX8_isMould 2 (some .boolean)).before av U = true := hT.get 940 (by decide +kernel) (by decide +kernel)
theorem q_944 {U : State} (hT : Tb U) {av : Array Value} : (Cond.code yX8_fails cX8_fails 3 none).before av U = true := hT.get 944 (by decide +kernel) (by decide +kernel)
theorem q_948 {U : State} (hT : Tb U) {av : Array Value} : (Cond.code yX8_block cX8_block 3 (some .int)).before av U = true := hT.get 948 (by decide +kernel) (by decide +kernel)
theorem q_952 {U : State} (hT : Tb U) {av : Array Value} : (Cond.code yX8_open cX8_open 4 (some .int)).before av U = true := hT.get 952 (by decide +kernel) (by decide +kernel)
theorem q_956 {U : State} (hT : Tb U) {av : Array Value} : (Cond.code yX8_repair cX8_repair 3 (some .int)).before av U = true := hT.get 956 (by decide +kernel) (by decide +kernel)
theorem q_960 {U : State} (hT : Tb U) {av : Array Value} : (Cond.code yX8_isMounted cX8_isMounted 4 (some .boolean)).before av U = true := hT.get 960 (by decide +kernel) (by decide +kernel)
theorem q_964 {U : State} (hT : Tb U) {av : Array Value} : (Cond.code yX8_nextOpen cX8_nextOpen 4 (some .int)).before av U = true := hT.get 964 (by decide +kernel) (by decide +kernel)
theorem q_968 {U : State} (hT : Tb U) {av : Array Value} : (Cond.code yX8_raises cX8_raises 2 (some .int)).before av U = true := hT.get 968 (by decide +kernel) (by decide +kernel)
theorem q_972 {U : State} (hT : Tb U) {av : Array Value} : (Cond.code yX8_addMachine cX8_addMachine 2 (some .int)).before av U = true := hT.get 972 (by decide +kernel) (by decide +kernel)
theorem q_976 {U : State} (hT : Tb U) {av : Array Value} : (Cond.code yX8_mount cX8_mount 4 (some .int)).before av U = true := hT.get 976 (by decide +kernel) (by decide +kernel)
theorem q_980 {U : State} (hT : Tb U) {av : Array Value} : (Cond.code yX8_isMachine cX8_isMachine 2 (some .boolean)).before av U = true := hT.get 980 (by decide +kernel) (by decide +kernel)
theorem q_984 {U : State} (hT : Tb U) {av : Array Value} : (Cond.code yX8_run cX8_run 3 (some .int)).before av U = true := hT.get 984 (by decide +kernel) (by decide +kernel)
theorem q_988 {U : State} (hT : Tb U) {av : Array Value} : (Cond.code yX8_isOrder cX8_isOrder 2 (some .boolean)).before av U = true := hT.get 988 (by decide +kernel) (by decide +kernel)
theorem q_992 {U : State} (hT : Tb U) {av : Array Value} : (Cond.code yX8_order cX8_order 5 (some .int)).before av U = true := hT.get 992 (by decide +kernel) (by decide +kernel)
theorem q_996 {U : State} (hT : Tb U) {av : Array Value} : (Cond.code yX8_lacks cX8_lacks 2 (some .int)).before av U = true := hT.get 996 (by decide +kernel) (by decide +kernel)
theorem q_1000 {U : State} (hT : Tb U) {av : Array Value} : (Cond.code yX8_hoursNeeded cX8_hoursNeeded 5 (some .int)).before av U = true := hT.get 1000 (by decide +kernel) (by decide +kernel)
theorem q_1004 {U : State} (hT : Tb U) {av : Array Value} : (Cond.code yX8_shots cX8_shots 2 (some .int)).before av U = true := hT.get 1004 (by decide +kernel) (by decide +kernel)
theorem q_1008 {U : State} (hT : Tb U) {av : Array Value} : (Cond.code yX8_regrindIn cX8_regrindIn 2 (some .long)).before av U = true := hT.get 1008 (by decide +kernel) (by decide +kernel)
theorem q_1012 {U : State} (hT : Tb U) {av : Array Value} : (Cond.code yX8_regrindByShots cX8_regrindByShots 2 (some .long)).before av U = true := hT.get 1012 (by decide +kernel) (by decide +kernel)
theorem q_1017 {U : State} (hT : Tb U) {av : Array Value} : (Cond.code yX8_greatestShare cX8_greatestShare 2 (some .int)).before av U = true := hT.get 1017 (by decide +kernel) (by decide +kernel)
theorem q_1021 {U : State} (hT : Tb U) {av : Array Value} : (Cond.code yX8_pass cX8_pass 4 (some .int)).before av U = true := hT.get 1021 (by decide +kernel) (by decide +kernel)
theorem q_1025 {U : State} (hT : Tb U) {av : Array Value} : (Cond.code yX8_hour cX8_hour 7 (some .int)).before av U = true := hT.get 1025 (by decide +kernel) (by decide +kernel)
theorem q_1029 {U : State} (hT : Tb U) {av : Array Value} : (Cond.code yX8_shoots cX8_shoots 8 (some .int)).before av U = true := hT.get 1029 (by decide +kernel) (by decide +kernel)
theorem q_1034 {U : State} (hT : Tb U) {av : Array Value} : (Cond.code yX8_takes cX8_takes 6 none).before av U = true := hT.get 1034 (by decide +kernel) (by decide +kernel)
theorem q_1038 {U : State} (hT : Tb U) {av : Array Value} : (Cond.code yX8_hours cX8_hours 1 (some .int)).before av U = true := hT.get 1038 (by decide +kernel) (by decide +kernel)
theorem q_1042 {U : State} (hT : Tb U) {av : Array Value} : (Cond.code yX8_regrindShare cX8_regrindShare 1 (some .float)).before av U = true := hT.get 1042 (by decide +kernel) (by decide +kernel)
theorem q_1046 {U : State} (hT : Tb U) {av : Array Value} : (Cond.code yX8_meanParts cX8_meanParts 1 (some .double)).before av U = true := hT.get 1046 (by decide +kernel) (by decide +kernel)
theorem q_132 {U : State} (hT : Tb U) {av : Array Value} : (Cond.codeWith yL_addResin cL_addResin 4 (some .int) [((0), (9), (12), (13)), ((0), (9), (15), (15))]).before av U = true := hT.get 132 (by decide +kernel) (by decide +kernel)
theorem q_245 {U : State} (hT : Tb U) {av : Array Value} : (Cond.codeWith yL_fill cL_fill 5 (some .int) [((0), (10), (13), (21)), ((0), (10), (17), (13)), ((0), (10), (21), (15))]).before av U = true := hT.get 245 (by decide +kernel) (by decide +kernel)
theorem q_322 {U : State} (hT : Tb U) {av : Array Value} : (Cond.codeWith yL_empty cL_empty 4 (some .int) [((0), (9), (12), (21))]).before av U = true := hT.get 322 (by decide +kernel) (by decide +kernel)
theorem q_342 {U : State} (hT : Tb U) {av : Array Value} : (Cond.codeWith yL_hoursToDry cL_hoursToDry 4 (some .int) [((0), (9), (12), (21))]).before av U = true := hT.get 342 (by decide +kernel) (by decide +kernel)
theorem q_356 {U : State} (hT : Tb U) {av : Array Value} : (Cond.codeWith yL_dry cL_dry 4 (some .int) [((0), (9), (12), (21))]).before av U = true := hT.get 356 (by decide +kernel) (by decide +kernel)
theorem q_372 {U : State} (hT : Tb U) {av : Array Value} : (Cond.codeWith yL_regrind cL_regrind 4 (some .int) [((0), (9), (12), (21))]).before av U = true := hT.get 372 (by decide +kernel) (by decide +kernel)
theorem q_379 {U : State} (hT : Tb U) {av : Array Value} : (Cond.codeWith yL_addMould cL_addMould 8 (some .int) [((0), (16), (19), (13)), ((0), (16), (23), (15))]).before av U = true := hT.get 379 (by decide +kernel) (by decide +kernel)
theorem q_442 {U : State} (hT : Tb U) {av : Array Value} : (Cond.codeWith yL_setLife cL_setLife 6 (some .int) [((0), (12), (15), (21)), ((0), (12), (19), (13))]).before av U = true := hT.get 442 (by decide +kernel) (by decide +kernel)
theorem q_462 {U : State} (hT : Tb U) {av : Array Value} : (Cond.codeWith yL_block cL_block 5 (some .int) [((0), (10), (13), (21)), ((0), (10), (17), (15))]).before av U = true := hT.get 462 (by decide +kernel) (by decide +kernel)
theorem q_474 {U : State} (hT : Tb U) {av : Array Value} : (Cond.codeWith yL_repair cL_repair 5 (some .int) [((0), (10), (13), (21)), ((0), (10), (17), (15))]).before av U = true := hT.get 474 (by decide +kernel) (by decide +kernel)
theorem q_482 {U : State} (hT : Tb U) {av : Array Value} : (Cond.codeWith yL_nextOpen cL_nextOpen 5 (some .int) [((0), (10), (13), (21)), ((0), (10), (17), (52))]).before av U = true := hT.get 482 (by decide +kernel) (by decide +kernel)
theorem q_507 {U : State} (hT : Tb U) {av : Array Value} : (Cond.codeWith yL_addMachine cL_addMachine 4 (some .int) [((0), (9), (12), (13)), ((0), (9), (15), (15))]).before av U = true := hT.get 507 (by decide +kernel) (by decide +kernel)
theorem q_531 {U : State} (hT : Tb U) {av : Array Value} : (Cond.codeWith yL_mount cL_mount 5 (some .int) [((0), (10), (13), (21)), ((0), (10), (17), (60)), ((0), (10), (21), (15))]).before av U = true := hT.get 531 (by decide +kernel) (by decide +kernel)
theorem q_561 {U : State} (hT : Tb U) {av : Array Value} : (Cond.codeWith yL_run cL_run 5 (some .int) [((0), (10), (13), (21)), ((0), (10), (17), (60)), ((0), (10), (21), (15))]).before av U = true := hT.get 561 (by decide +kernel) (by decide +kernel)
theorem q_583 {U : State} (hT : Tb U) {av : Array Value} : (Cond.codeWith yL_order cL_order 7 (some .int) [((0), (14), (17), (21)), ((0), (14), (21), (13)), ((0), (14), (25), (15))]).before av U = true := hT.get 583 (by decide +kernel) (by decide +kernel)
theorem q_630 {U : State} (hT : Tb U) {av : Array Value} : (Cond.codeWith yL_lacks cL_lacks 4 (some .int) [((0), (9), (12), (21))]).before av U = true := hT.get 630 (by decide +kernel) (by decide +kernel)
theorem q_637 {U : State} (hT : Tb U) {av : Array Value} : (Cond.codeWith yL_hoursNeeded cL_hoursNeeded 4 (some .int) [((0), (9), (12), (21)), ((0), (9), (15), (52))]).before av U = true := hT.get 637 (by decide +kernel) (by decide +kernel)
theorem q_648 {U : State} (hT : Tb U) {av : Array Value} : (Cond.codeWith yL_shots cL_shots 4 (some .int) [((0), (9), (12), (21))]).before av U = true := hT.get 648 (by decide +kernel) (by decide +kernel)
theorem q_655 {U : State} (hT : Tb U) {av : Array Value} : (Cond.codeWith yL_regrindIn cL_regrindIn 4 (some .int) [((0), (8), (11), (21))]).before av U = true := hT.get 655 (by decide +kernel) (by decide +kernel)
theorem q_662 {U : State} (hT : Tb U) {av : Array Value} : (Cond.codeWith yL_regrindByShots cL_regrindByShots 4 (some .int) [((0), (8), (11), (21))]).before av U = true := hT.get 662 (by decide +kernel) (by decide +kernel)
theorem q_676 {U : State} (hT : Tb U) {av : Array Value} : (Cond.codeWith yL_greatestShare cL_greatestShare 4 (some .int) [((0), (9), (12), (21)), ((0), (9), (15), (52))]).before av U = true := hT.get 676 (by decide +kernel) (by decide +kernel)
theorem q_684 {U : State} (hT : Tb U) {av : Array Value} : (Cond.codeWith yL_pass cL_pass 4 (some .int) [((0), (9), (12), (13)), ((0), (9), (15), (15))]).before av U = true := hT.get 684 (by decide +kernel) (by decide +kernel)
theorem q_724 {U : State} (hT : Tb U) {av : Array Value} : (Cond.codeWith yL_regrindShare cL_regrindShare 3 (some .int) [((0), (8), (11), (95))]).before av U = true := hT.get 724 (by decide +kernel) (by decide +kernel)
theorem q_748 {U : State} (hT : Tb U) {av : Array Value} : (Cond.codeWith yL_meanParts cL_meanParts 3 (some .int) [((0), (7), (10), (95))]).before av U = true := hT.get 748 (by decide +kernel) (by decide +kernel)
theorem q_25 {U : State} (hT : Tb U) {av : Array Value} : (Cond.initialized RL).before av U = true := hT.get 25 (by decide +kernel) (by decide +kernel)
theorem q_26 {U : State} (hT : Tb U) {av : Array Value} : (Cond.initialized RX7).before av U = true := hT.get 26 (by decide +kernel) (by decide +kernel)
theorem q_27 {U : State} (hT : Tb U) {av : Array Value} : (Cond.initialized RX1).before av U = true := hT.get 27 (by decide +kernel) (by decide +kernel)
theorem q_28 {U : State} (hT : Tb U) {av : Array Value} : (Cond.initialized RX8).before av U = true := hT.get 28 (by decide +kernel) (by decide +kernel)
theorem q_29 {U : State} (hT : Tb U) {av : Array Value} : (Cond.initialized "java/lang/Throwable").before av U = true := hT.get 29 (by decide +kernel) (by decide +kernel)
theorem q_30 {U : State} (hT : Tb U) {av : Array Value} : (Cond.initialized "java/lang/Exception").before av U = true := hT.get 30 (by decide +kernel) (by decide +kernel)
theorem q_31 {U : State} (hT : Tb U) {av : Array Value} : (Cond.initialized "java/lang/RuntimeException").before av U = true := hT.get 31 (by decide +kernel) (by decide +kernel)
theorem q_32 {U : State} (hT : Tb U) {av : Array Value} : (Cond.initialized "java/lang/IllegalArgumentException").before av U = true := hT.get 32 (by decide +kernel) (by decide +kernel)
theorem q_33 {U : State} (hT : Tb U) {av : Array Value} : (Cond.initialized "java/lang/IllegalStateException").before av U = true := hT.get 33 (by decide +kernel) (by decide +kernel)
theorem q_34 {U : State} (hT : Tb U) {av : Array Value} : (Cond.initialized RX6).before av U = true := hT.get 34 (by decide +kernel) (by decide +kernel)
theorem q_35 {U : State} (hT : Tb U) {av : Array Value} : (Cond.initialized "java/lang/IndexOutOfBoundsException").before av U = true := hT.get 35 (by decide +kernel) (by decide +kernel)
theorem q_36 {U : State} (hT : Tb U) {av : Array Value} : (Cond.initialized "java/lang/ArrayIndexOutOfBoundsException").before av U = true := hT.get 36 (by decide +kernel) (by decide +kernel)
theorem q_37 {U : State} (hT : Tb U) {av : Array Value} : (Cond.initialized "java/lang/String").before av U = true := hT.get 37 (by decide +kernel) (by decide +kernel)
theorem q_38 {U : State} (hT : Tb U) {av : Array Value} : (Cond.initialized RX2).before av U = true := hT.get 38 (by decide +kernel) (by decide +kernel)
theorem q_39 {U : State} (hT : Tb U) {av : Array Value} : (Cond.initialized "java/lang/Math").before av U = true := hT.get 39 (by decide +kernel) (by decide +kernel)
theorem q_40 {U : State} (hT : Tb U) {av : Array Value} : (Cond.initialized RX4).before av U = true := hT.get 40 (by decide +kernel) (by decide +kernel)
theorem q_41 {U : State} (hT : Tb U) {av : Array Value} : (Cond.initialized RX0).before av U = true := hT.get 41 (by decide +kernel) (by decide +kernel)
theorem q_42 {U : State} (hT : Tb U) {av : Array Value} : (Cond.initialized "java/util/NoSuchElementException").before av U = true := hT.get 42 (by decide +kernel) (by decide +kernel)
theorem q_43 {U : State} (hT : Tb U) {av : Array Value} : (Cond.initialized RX3).before av U = true := hT.get 43 (by decide +kernel) (by decide +kernel)
theorem q_44 {U : State} (hT : Tb U) {av : Array Value} : (Cond.initialized "java/lang/UnsupportedOperationException").before av U = true := hT.get 44 (by decide +kernel) (by decide +kernel)
theorem q_45 {U : State} (hT : Tb U) {av : Array Value} : (Cond.initialized RX5).before av U = true := hT.get 45 (by decide +kernel) (by decide +kernel)
theorem q_46 {U : State} (hT : Tb U) {av : Array Value} : (Cond.initialized "java/lang/ArithmeticException").before av U = true := hT.get 46 (by decide +kernel) (by decide +kernel)
theorem q_48 {U : State} (hT : Tb U) {av : Array Value} : (Cond.instantiable RX7 14).before av U = true := hT.get 48 (by decide +kernel) (by decide +kernel)
theorem q_64 {U : State} (hT : Tb U) {av : Array Value} : (Cond.instantiable RX1 2).before av U = true := hT.get 64 (by decide +kernel) (by decide +kernel)
theorem q_230 {U : State} (hT : Tb U) {av : Array Value} : (Cond.instantiable RX6 2).before av U = true := hT.get 230 (by decide +kernel) (by decide +kernel)
theorem q_298 {U : State} (hT : Tb U) {av : Array Value} : (Cond.instantiable RX2 3).before av U = true := hT.get 298 (by decide +kernel) (by decide +kernel)
theorem q_385 {U : State} (hT : Tb U) {av : Array Value} : (Cond.instantiable RX4 7).before av U = true := hT.get 385 (by decide +kernel) (by decide +kernel)
theorem q_393 {U : State} (hT : Tb U) {av : Array Value} : (Cond.instantiable RX0 3).before av U = true := hT.get 393 (by decide +kernel) (by decide +kernel)
theorem q_513 {U : State} (hT : Tb U) {av : Array Value} : (Cond.instantiable RX3 3).before av U = true := hT.get 513 (by decide +kernel) (by decide +kernel)
theorem q_589 {U : State} (hT : Tb U) {av : Array Value} : (Cond.instantiable RX5 8).before av U = true := hT.get 589 (by decide +kernel) (by decide +kernel)
theorem q_754 {U : State} (hT : Tb U) {av : Array Value} : (Cond.instantiable RX8 34).before av U = true := hT.get 754 (by decide +kernel) (by decide +kernel)
theorem q_124 {U : State} (hT : Tb U) {av : Array Value} : (Cond.selects RX7 yX7_lots yX7_lots).before av U = true := hT.get 124 (by decide +kernel) (by decide +kernel)
theorem q_128 {U : State} (hT : Tb U) {av : Array Value} : (Cond.selects RX7 yX7_hours yX7_hours).before av U = true := hT.get 128 (by decide +kernel) (by decide +kernel)
theorem q_137 {U : State} (hT : Tb U) {av : Array Value} : (Cond.selects RX7 yX7_addResin yX7_addResin).before av U = true := hT.get 137 (by decide +kernel) (by decide +kernel)
theorem q_272 {U : State} (hT : Tb U) {av : Array Value} : (Cond.selects RX7 yX7_fill yX7_fill).before av U = true := hT.get 272 (by decide +kernel) (by decide +kernel)
theorem q_294 {U : State} (hT : Tb U) {av : Array Value} : (Cond.selects RX1 yX1_isFull yX1_isFull).before av U = true := hT.get 294 (by decide +kernel) (by decide +kernel)
theorem q_318 {U : State} (hT : Tb U) {av : Array Value} : (Cond.selects RX1 yX1_put yX1_put).before av U = true := hT.get 318 (by decide +kernel) (by decide +kernel)
theorem q_325 {U : State} (hT : Tb U) {av : Array Value} : (Cond.selects RX7 yX7_empty yX7_empty).before av U = true := hT.get 325 (by decide +kernel) (by decide +kernel)
theorem q_333 {U : State} (hT : Tb U) {av : Array Value} : (Cond.selects RX1 yX1_find yX1_find).before av U = true := hT.get 333 (by decide +kernel) (by decide +kernel)
theorem q_338 {U : State} (hT : Tb U) {av : Array Value} : (Cond.selects RX1 yX1_takeOut yX1_takeOut).before av U = true := hT.get 338 (by decide +kernel) (by decide +kernel)
theorem q_345 {U : State} (hT : Tb U) {av : Array Value} : (Cond.selects RX7 yX7_hoursToDry yX7_hoursToDry).before av U = true := hT.get 345 (by decide +kernel) (by decide +kernel)
theorem q_349 {U : State} (hT : Tb U) {av : Array Value} : (Cond.selects RX2 yX2_hoursLeft yX2_hoursLeft).before av U = true := hT.get 349 (by decide +kernel) (by decide +kernel)
theorem q_359 {U : State} (hT : Tb U) {av : Array Value} : (Cond.selects RX7 yX7_dry yX7_dry).before av U = true := hT.get 359 (by decide +kernel) (by decide +kernel)
theorem q_363 {U : State} (hT : Tb U) {av : Array Value} : (Cond.selects RX1 yX1_dryGrams yX1_dryGrams).before av U = true := hT.get 363 (by decide +kernel) (by decide +kernel)
theorem q_367 {U : State} (hT : Tb U) {av : Array Value} : (Cond.selects RX2 yX2_isDryOf yX2_isDryOf).before av U = true := hT.get 367 (by decide +kernel) (by decide +kernel)
theorem q_375 {U : State} (hT : Tb U) {av : Array Value} : (Cond.selects RX7 yX7_regrind yX7_regrind).before av U = true := hT.get 375 (by decide +kernel) (by decide +kernel)
theorem q_382 {U : State} (hT : Tb U) {av : Array Value} : (Cond.selects RX7 yX7_addMould yX7_addMould).before av U = true := hT.get 382 (by decide +kernel) (by decide +kernel)
theorem q_445 {U : State} (hT : Tb U) {av : Array Value} : (Cond.selects RX7 yX7_setLife yX7_setLife).before av U = true := hT.get 445 (by decide +kernel) (by decide +kernel)
theorem q_458 {U : State} (hT : Tb U) {av : Array Value} : (Cond.selects RX0 yX0_failIfWorn yX0_failIfWorn).before av U = true := hT.get 458 (by decide +kernel) (by decide +kernel)
theorem q_465 {U : State} (hT : Tb U) {av : Array Value} : (Cond.selects RX7 yX7_block yX7_block).before av U = true := hT.get 465 (by decide +kernel) (by decide +kernel)
theorem q_470 {U : State} (hT : Tb U) {av : Array Value} : (Cond.selects RX4 yX4_openCavities yX4_openCavities).before av U = true := hT.get 470 (by decide +kernel) (by decide +kernel)
theorem q_477 {U : State} (hT : Tb U) {av : Array Value} : (Cond.selects RX7 yX7_repair yX7_repair).before av U = true := hT.get 477 (by decide +kernel) (by decide +kernel)
theorem q_486 {U : State} (hT : Tb U) {av : Array Value} : (Cond.selects RX7 yX7_nextOpen yX7_nextOpen).before av U = true := hT.get 486 (by decide +kernel) (by decide +kernel)
theorem q_510 {U : State} (hT : Tb U) {av : Array Value} : (Cond.selects RX7 yX7_addMachine yX7_addMachine).before av U = true := hT.get 510 (by decide +kernel) (by decide +kernel)
theorem q_535 {U : State} (hT : Tb U) {av : Array Value} : (Cond.selects RX7 yX7_mount yX7_mount).before av U = true := hT.get 535 (by decide +kernel) (by decide +kernel)
theorem q_564 {U : State} (hT : Tb U) {av : Array Value} : (Cond.selects RX7 yX7_run yX7_run).before av U = true := hT.get 564 (by decide +kernel) (by decide +kernel)
theorem q_574 {U : State} (hT : Tb U) {av : Array Value} : (Cond.selects RX5 yX5_isOpen yX5_isOpen).before av U = true := hT.get 574 (by decide +kernel) (by decide +kernel)
theorem q_579 {U : State} (hT : Tb U) {av : Array Value} : (Cond.selects RX4 yX4_shotsOfHour yX4_shotsOfHour).before av U = true := hT.get 579 (by decide +kernel) (by decide +kernel)
theorem q_586 {U : State} (hT : Tb U) {av : Array Value} : (Cond.selects RX7 yX7_order yX7_order).before av U = true := hT.get 586 (by decide +kernel) (by decide +kernel)
theorem q_633 {U : State} (hT : Tb U) {av : Array Value} : (Cond.selects RX7 yX7_lacks yX7_lacks).before av U = true := hT.get 633 (by decide +kernel) (by decide +kernel)
theorem q_640 {U : State} (hT : Tb U) {av : Array Value} : (Cond.selects RX7 yX7_hoursNeeded yX7_hoursNeeded).before av U = true := hT.get 640 (by decide +kernel) (by decide +kernel)
theorem q_651 {U : State} (hT : Tb U) {av : Array Value} : (Cond.selects RX7 yX7_shots yX7_shots).before av U = true := hT.get 651 (by decide +kernel) (by decide +kernel)
theorem q_658 {U : State} (hT : Tb U) {av : Array Value} : (Cond.selects RX7 yX7_regrindIn yX7_regrindIn).before av U = true := hT.get 658 (by decide +kernel) (by decide +kernel)
theorem q_665 {U : State} (hT : Tb U) {av : Array Value} : (Cond.selects RX7 yX7_regrindByShots yX7_regrindByShots).before av U = true := hT.get 665 (by decide +kernel) (by decide +kernel)
theorem q_669 {U : State} (hT : Tb U) {av : Array Value} : (Cond.selects RX5 yX5_regrindAdded yX5_regrindAdded).before av U = true := hT.get 669 (by decide +kernel) (by decide +kernel)
theorem q_679 {U : State} (hT : Tb U) {av : Array Value} : (Cond.selects RX7 yX7_greatestShare yX7_greatestShare).before av U = true := hT.get 679 (by decide +kernel) (by decide +kernel)
theorem q_687 {U : State} (hT : Tb U) {av : Array Value} : (Cond.selects RX7 yX7_pass yX7_pass).before av U = true := hT.get 687 (by decide +kernel) (by decide +kernel)
theorem q_705 {U : State} (hT : Tb U) {av : Array Value} : (Cond.selects RX1 yX1_draw yX1_draw).before av U = true := hT.get 705 (by decide +kernel) (by decide +kernel)
theorem q_710 {U : State} (hT : Tb U) {av : Array Value} : (Cond.selects RX4 yX4_makeParts yX4_makeParts).before av U = true := hT.get 710 (by decide +kernel) (by decide +kernel)
theorem q_715 {U : State} (hT : Tb U) {av : Array Value} : (Cond.selects RX5 yX5_keepShot yX5_keepShot).before av U = true := hT.get 715 (by decide +kernel) (by decide +kernel)
theorem q_719 {U : State} (hT : Tb U) {av : Array Value} : (Cond.selects RX1 yX1_dryOneHour yX1_dryOneHour).before av U = true := hT.get 719 (by decide +kernel) (by decide +kernel)
theorem q_741 {U : State} (hT : Tb U) {av : Array Value} : (Cond.selects RX7 yX7_regrindShare yX7_regrindShare).before av U = true := hT.get 741 (by decide +kernel) (by decide +kernel)
theorem q_751 {U : State} (hT : Tb U) {av : Array Value} : (Cond.selects RX7 yX7_meanParts yX7_meanParts).before av U = true := hT.get 751 (by decide +kernel) (by decide +kernel)
theorem q_870 {U : State} (hT : Tb U) {av : Array Value} : (Cond.selects RX8 yX8_thrown yX8_thrown).before av U = true := hT.get 870 (by decide +kernel) (by decide +kernel)
theorem q_874 {U : State} (hT : Tb U) {av : Array Value} : (Cond.selects RX8 yX8_addResin yX8_addResin).before av U = true := hT.get 874 (by decide +kernel) (by decide +kernel)
theorem q_881 {U : State} (hT : Tb U) {av : Array Value} : (Cond.selects RX8 yX8_fill yX8_fill).before av U = true := hT.get 881 (by decide +kernel) (by decide +kernel)
theorem q_890 {U : State} (hT : Tb U) {av : Array Value} : (Cond.selects RX8 yX8_empty yX8_empty).before av U = true := hT.get 890 (by decide +kernel) (by decide +kernel)
theorem q_902 {U : State} (hT : Tb U) {av : Array Value} : (Cond.selects RX8 yX8_lots yX8_lots).before av U = true := hT.get 902 (by decide +kernel) (by decide +kernel)
theorem q_906 {U : State} (hT : Tb U) {av : Array Value} : (Cond.selects RX8 yX8_hoursToDry yX8_hoursToDry).before av U = true := hT.get 906 (by decide +kernel) (by decide +kernel)
theorem q_915 {U : State} (hT : Tb U) {av : Array Value} : (Cond.selects RX8 yX8_dry yX8_dry).before av U = true := hT.get 915 (by decide +kernel) (by decide +kernel)
theorem q_923 {U : State} (hT : Tb U) {av : Array Value} : (Cond.selects RX8 yX8_regrind yX8_regrind).before av U = true := hT.get 923 (by decide +kernel) (by decide +kernel)
theorem q_927 {U : State} (hT : Tb U) {av : Array Value} : (Cond.selects RX8 yX8_addMould yX8_addMould).before av U = true := hT.get 927 (by decide +kernel) (by decide +kernel)
theorem q_931 {U : State} (hT : Tb U) {av : Array Value} : (Cond.selects RX8 yX8_setLife yX8_setLife).before av U = true := hT.get 931 (by decide +kernel) (by decide +kernel)
theorem q_947 {U : State} (hT : Tb U) {av : Array Value} : (Cond.selects RX8 yX8_block yX8_block).before av U = true := hT.get 947 (by decide +kernel) (by decide +kernel)
theorem q_955 {U : State} (hT : Tb U) {av : Array Value} : (Cond.selects RX8 yX8_repair yX8_repair).before av U = true := hT.get 955 (by decide +kernel) (by decide +kernel)
theorem q_963 {U : State} (hT : Tb U) {av : Array Value} : (Cond.selects RX8 yX8_nextOpen yX8_nextOpen).before av U = true := hT.get 963 (by decide +kernel) (by decide +kernel)
theorem q_971 {U : State} (hT : Tb U) {av : Array Value} : (Cond.selects RX8 yX8_addMachine yX8_addMachine).before av U = true := hT.get 971 (by decide +kernel) (by decide +kernel)
theorem q_975 {U : State} (hT : Tb U) {av : Array Value} : (Cond.selects RX8 yX8_mount yX8_mount).before av U = true := hT.get 975 (by decide +kernel) (by decide +kernel)
theorem q_983 {U : State} (hT : Tb U) {av : Array Value} : (Cond.selects RX8 yX8_run yX8_run).before av U = true := hT.get 983 (by decide +kernel) (by decide +kernel)
theorem q_991 {U : State} (hT : Tb U) {av : Array Value} : (Cond.selects RX8 yX8_order yX8_order).before av U = true := hT.get 991 (by decide +kernel) (by decide +kernel)
theorem q_995 {U : State} (hT : Tb U) {av : Array Value} : (Cond.selects RX8 yX8_lacks yX8_lacks).before av U = true := hT.get 995 (by decide +kernel) (by decide +kernel)
theorem q_999 {U : State} (hT : Tb U) {av : Array Value} : (Cond.selects RX8 yX8_hoursNeeded yX8_hoursNeeded).before av U = true := hT.get 999 (by decide +kernel) (by decide +kernel)
theorem q_1003 {U : State} (hT : Tb U) {av : Array Value} : (Cond.selects RX8 yX8_shots yX8_shots).before av U = true := hT.get 1003 (by decide +kernel) (by decide +kernel)
theorem q_1007 {U : State} (hT : Tb U) {av : Array Value} : (Cond.selects RX8 yX8_regrindIn yX8_regrindIn).before av U = true := hT.get 1007 (by decide +kernel) (by decide +kernel)
theorem q_1011 {U : State} (hT : Tb U) {av : Array Value} : (Cond.selects RX8 yX8_regrindByShots yX8_regrindByShots).before av U = true := hT.get 1011 (by decide +kernel) (by decide +kernel)
theorem q_1016 {U : State} (hT : Tb U) {av : Array Value} : (Cond.selects RX8 yX8_greatestShare yX8_greatestShare).before av U = true := hT.get 1016 (by decide +kernel) (by decide +kernel)
theorem q_1020 {U : State} (hT : Tb U) {av : Array Value} : (Cond.selects RX8 yX8_pass yX8_pass).before av U = true := hT.get 1020 (by decide +kernel) (by decide +kernel)
theorem q_1037 {U : State} (hT : Tb U) {av : Array Value} : (Cond.selects RX8 yX8_hours yX8_hours).before av U = true := hT.get 1037 (by decide +kernel) (by decide +kernel)
theorem q_1041 {U : State} (hT : Tb U) {av : Array Value} : (Cond.selects RX8 yX8_regrindShare yX8_regrindShare).before av U = true := hT.get 1041 (by decide +kernel) (by decide +kernel)
theorem q_1045 {U : State} (hT : Tb U) {av : Array Value} : (Cond.selects RX8 yX8_meanParts yX8_meanParts).before av U = true := hT.get 1045 (by decide +kernel) (by decide +kernel)
theorem q_1 {U : State} (hT : Tb U) {av : Array Value} : (Cond.selects RX7 yX7_resinOf yX7_resinOf).before av U = true := hT.get 1 (by decide +kernel) (by decide +kernel)
theorem q_2 {U : State} (hT : Tb U) {av : Array Value} : (Cond.selects RX7 yX7_lotOf yX7_lotOf).before av U = true := hT.get 2 (by decide +kernel) (by decide +kernel)
theorem q_3 {U : State} (hT : Tb U) {av : Array Value} : (Cond.selects RX7 yX7_mouldOf yX7_mouldOf).before av U = true := hT.get 3 (by decide +kernel) (by decide +kernel)
theorem q_4 {U : State} (hT : Tb U) {av : Array Value} : (Cond.selects RX7 yX7_machineOf yX7_machineOf).before av U = true := hT.get 4 (by decide +kernel) (by decide +kernel)
theorem q_5 {U : State} (hT : Tb U) {av : Array Value} : (Cond.selects RX7 yX7_orderOf yX7_orderOf).before av U = true := hT.get 5 (by decide +kernel) (by decide +kernel)
theorem q_6 {U : State} (hT : Tb U) {av : Array Value} : (Cond.selects RX7 yX7_passOneHour yX7_passOneHour).before av U = true := hT.get 6 (by decide +kernel) (by decide +kernel)
theorem q_7 {U : State} (hT : Tb U) {av : Array Value} : (Cond.selects RX7 yX7_workOneHour yX7_workOneHour).before av U = true := hT.get 7 (by decide +kernel) (by decide +kernel)
theorem q_8 {U : State} (hT : Tb U) {av : Array Value} : (Cond.selects RX7 yX7_makeShot yX7_makeShot).before av U = true := hT.get 8 (by decide +kernel) (by decide +kernel)
theorem q_9 {U : State} (hT : Tb U) {av : Array Value} : (Cond.selects RX8 yX8_isResin yX8_isResin).before av U = true := hT.get 9 (by decide +kernel) (by decide +kernel)
theorem q_10 {U : State} (hT : Tb U) {av : Array Value} : (Cond.selects RX8 yX8_isLot yX8_isLot).before av U = true := hT.get 10 (by decide +kernel) (by decide +kernel)
theorem q_11 {U : State} (hT : Tb U) {av : Array Value} : (Cond.selects RX8 yX8_leaves yX8_leaves).before av U = true := hT.get 11 (by decide +kernel) (by decide +kernel)
theorem q_12 {U : State} (hT : Tb U) {av : Array Value} : (Cond.selects RX8 yX8_toDry yX8_toDry).before av U = true := hT.get 12 (by decide +kernel) (by decide +kernel)
theorem q_13 {U : State} (hT : Tb U) {av : Array Value} : (Cond.selects RX8 yX8_dryOf yX8_dryOf).before av U = true := hT.get 13 (by decide +kernel) (by decide +kernel)
theorem q_14 {U : State} (hT : Tb U) {av : Array Value} : (Cond.selects RX8 yX8_isCavity yX8_isCavity).before av U = true := hT.get 14 (by decide +kernel) (by decide +kernel)
theorem q_15 {U : State} (hT : Tb U) {av : Array Value} : (Cond.selects RX8 yX8_isMould yX8_isMould).before av U = true := hT.get 15 (by decide +kernel) (by decide +kernel)
theorem q_16 {U : State} (hT : Tb U) {av : Array Value} : (Cond.selects RX8 yX8_fails yX8_fails).before av U = true := hT.get 16 (by decide +kernel) (by decide +kernel)
theorem q_17 {U : State} (hT : Tb U) {av : Array Value} : (Cond.selects RX8 yX8_open yX8_open).before av U = true := hT.get 17 (by decide +kernel) (by decide +kernel)
theorem q_18 {U : State} (hT : Tb U) {av : Array Value} : (Cond.selects RX8 yX8_isMounted yX8_isMounted).before av U = true := hT.get 18 (by decide +kernel) (by decide +kernel)
theorem q_19 {U : State} (hT : Tb U) {av : Array Value} : (Cond.selects RX8 yX8_raises yX8_raises).before av U = true := hT.get 19 (by decide +kernel) (by decide +kernel)
theorem q_20 {U : State} (hT : Tb U) {av : Array Value} : (Cond.selects RX8 yX8_isMachine yX8_isMachine).before av U = true := hT.get 20 (by decide +kernel) (by decide +kernel)
theorem q_21 {U : State} (hT : Tb U) {av : Array Value} : (Cond.selects RX8 yX8_isOrder yX8_isOrder).before av U = true := hT.get 21 (by decide +kernel) (by decide +kernel)
theorem q_22 {U : State} (hT : Tb U) {av : Array Value} : (Cond.selects RX8 yX8_hour yX8_hour).before av U = true := hT.get 22 (by decide +kernel) (by decide +kernel)
theorem q_23 {U : State} (hT : Tb U) {av : Array Value} : (Cond.selects RX8 yX8_shoots yX8_shoots).before av U = true := hT.get 23 (by decide +kernel) (by decide +kernel)
theorem q_24 {U : State} (hT : Tb U) {av : Array Value} : (Cond.selects RX8 yX8_takes yX8_takes).before av U = true := hT.get 24 (by decide +kernel) (by decide +kernel)
theorem q_291 {U : State} (hT : Tb U) {av : Array Value} : (Cond.constant RX7 62 99999).before av U = true := hT.get 291 (by decide +kernel) (by decide +kernel)
theorem q_887 {U : State} (hT : Tb U) {av : Array Value} : (Cond.constant RX8 114 99999).before av U = true := hT.get 887 (by decide +kernel) (by decide +kernel)
theorem q_56 {U : State} (hT : Tb U) {av : Array Value} : (Cond.arrayOver (.object "MouldDesk$Resin")).before av U = true := hT.get 56 (by decide +kernel) (by decide +kernel)
theorem q_58 {U : State} (hT : Tb U) {av : Array Value} : (Cond.arrayOver (.object "MouldDesk$Mould")).before av U = true := hT.get 58 (by decide +kernel) (by decide +kernel)
theorem q_60 {U : State} (hT : Tb U) {av : Array Value} : (Cond.arrayOver (.object "MouldDesk$Machine")).before av U = true := hT.get 60 (by decide +kernel) (by decide +kernel)
theorem q_62 {U : State} (hT : Tb U) {av : Array Value} : (Cond.arrayOver (.object "MouldDesk$Order")).before av U = true := hT.get 62 (by decide +kernel) (by decide +kernel)
theorem q_70 {U : State} (hT : Tb U) {av : Array Value} : (Cond.arrayOver (.object "MouldDesk$Lot")).before av U = true := hT.get 70 (by decide +kernel) (by decide +kernel)
theorem q_392 {U : State} (hT : Tb U) {av : Array Value} : (Cond.arrayOver (.object "MouldDesk$Cavity")).before av U = true := hT.get 392 (by decide +kernel) (by decide +kernel)
theorem q_213 {U : State} (hT : Tb U) {av : Array Value} : (Cond.arrayClass .byte).before av U = true := hT.get 213 (by decide +kernel) (by decide +kernel)
theorem q_627 {U : State} (hT : Tb U) {av : Array Value} : (Cond.arrayClass .int).before av U = true := hT.get 627 (by decide +kernel) (by decide +kernel)
theorem q_866 {U : State} (hT : Tb U) {av : Array Value} : (Cond.arrayClass .boolean).before av U = true := hT.get 866 (by decide +kernel) (by decide +kernel)
theorem q_867 {U : State} (hT : Tb U) {av : Array Value} : (Cond.arrayClass .long).before av U = true := hT.get 867 (by decide +kernel) (by decide +kernel)
theorem q_1047 {U : State} (hT : Tb U) {av : Array Value} : (Cond.arrayClass .double).before av U = true := hT.get 1047 (by decide +kernel) (by decide +kernel)
theorem u_X0 : uOK RX0 TX0 3 := by decide +kernel
theorem u_X1 : uOK RX1 TX1 2 := by decide +kernel
theorem u_X2 : uOK RX2 TX2 3 := by decide +kernel
theorem u_X3 : uOK RX3 TX3 3 := by decide +kernel
theorem u_X4 : uOK RX4 TX4 7 := by decide +kernel
theorem u_X5 : uOK RX5 TX5 8 := by decide +kernel
theorem u_X6 : uOK RX6 TX6 2 := by decide +kernel
theorem u_X7 : uOK RX7 TX7 14 := by decide +kernel
theorem u_X8 : uOK RX8 TX8 34 := by decide +kernel
end
section
/-! a row a site: fields by their links, new objects, calls' words -/
theorem ci_m1 : Int32.ofInt (-1) = -1 := by decide
theorem ci_0 : Int32.ofInt 0 = 0 := by decide
theorem ci_1 : Int32.ofInt 1 = 1 := by decide
theorem ci_2 : Int32.ofInt 2 = 2 := by decide
theorem ci_3 : Int32.ofInt 3 = 3 := by decide
theorem ci_4 : Int32.ofInt 4 = 4 := by decide
theorem ci_5 : Int32.ofInt 5 = 5 := by decide
theorem cb_6 : (Int8.ofInt 6).toInt32 = 6 := by decide
theorem cb_8 : (Int8.ofInt 8).toInt32 = 8 := by decide
theorem cb_9 : (Int8.ofInt 9).toInt32 = 9 := by decide
theorem cb_24 : (Int8.ofInt 24).toInt32 = 24 := by decide
theorem cb_31 : (Int8.ofInt 31).toInt32 = 31 := by decide
theorem cb_50 : (Int8.ofInt 50).toInt32 = 50 := by decide
theorem cb_60 : (Int8.ofInt 60).toInt32 = 60 := by decide
theorem cb_100 : (Int8.ofInt 100).toInt32 = 100 := by decide
theorem cs_200 : (Int16.ofInt 200).toInt32 = 200 := by decide
theorem cs_300 : (Int16.ofInt 300).toInt32 = 300 := by decide
theorem cs_999 : (Int16.ofInt 999).toInt32 = 999 := by decide
theorem cs_3600 : (Int16.ofInt 3600).toInt32 = 3600 := by decide
theorem cs_5000 : (Int16.ofInt 5000).toInt32 = 5000 := by decide
theorem cs_9999 : (Int16.ofInt 9999).toInt32 = 9999 := by decide
theorem cl_0 : Int64.ofNat ((0 : Fin 2) : Nat) = 0 := by decide
theorem cl_1 : Int64.ofNat ((1 : Fin 2) : Nat) = 1 := by decide
section SITES
variable {p : Program} {l : Launch} {e : Env} {R : Room} {s : State} {m : MethodId} {args : Array Value} {below : List Frame} {meth : Method} {c : Code} {cc : ByteArray} {nL : Nat} {D : va_G} {A : Nat → Prop} {Q : State → Prop} {cells slots : Nat} {h : AH} {pc : Nat} {lo : List (Nat × Value)} {st : List Value}
theorem gf_X7_11 (E : Cx p l s m args meth c cc nL RX7 D A) {a : Nat} {fs : List Value} {v : Value} (hc : h a = some (.inr (7, fs))) (hv : fs[0]? = some v) (d : decode cc pc = .ok (.getfield 11, 3)) (kk : J p l e R s m args below meth c D A nL Q cells slots h (pc + 3) lo (v :: st)) : J p l e R s m args below meth c D A nL Q cells slots h pc lo (.ref a :: st) := j_get E hc rfl 0 (by decide) u_X7 (q_79 E.tb) hv d kk
theorem pf_X7_11 (E : Cx p l s m args meth c cc nL RX7 D A) {a : Nat} {fs : List Value} {v : Nat} (hc : h a = some (.inr (7, fs))) (hl0 : 0 < fs.length) (hin2 : meth.name = "<init>") (d : decode cc pc = .ok (.putfield 11, 3)) (kk : ∀ h1 : AH, h1 a = some (.inr (7, fs.set 0 (.ref v))) → (∀ x, x ≠ a → h1 x = h x) → J p l e R s m args below meth c D A nL Q cells slots h1 (pc + 3) lo st) : J p l e R s m args below meth c D A nL Q cells slots h pc lo (.ref v :: .ref a :: st) := j_putF E hc rfl 0 (by decide) u_X7 tyX7 tyX7_ok nmX7 (q_79 E.tb) rfl hin2 rfl rfl rfl rfl hl0 d (kk _ hup_eq (fun _ => hup_ne))
theorem pfN_X7_11 (E : Cx p l s m args meth c cc nL RX7 D A) {a : Nat} {fs : List Value}  (hc : h a = some (.inr (7, fs))) (hl0 : 0 < fs.length) (hin2 : meth.name = "<init>") (d : decode cc pc = .ok (.putfield 11, 3)) (kk : ∀ h1 : AH, h1 a = some (.inr (7, fs.set 0 (.null))) → (∀ x, x ≠ a → h1 x = h x) → J p l e R s m args below meth c D A nL Q cells slots h1 (pc + 3) lo st) : J p l e R s m args below meth c D A nL Q cells slots h pc lo (.null :: .ref a :: st) := j_putF E hc rfl 0 (by decide) u_X7 tyX7 tyX7_ok nmX7 (q_79 E.tb) rfl hin2 rfl rfl rfl rfl hl0 d (kk _ hup_eq (fun _ => hup_ne))
theorem gf_X7_17 (E : Cx p l s m args meth c cc nL RX7 D A) {a : Nat} {fs : List Value} {v : Value} (hc : h a = some (.inr (7, fs))) (hv : fs[2]? = some v) (d : decode cc pc = .ok (.getfield 17, 3)) (kk : J p l e R s m args below meth c D A nL Q cells slots h (pc + 3) lo (v :: st)) : J p l e R s m args below meth c D A nL Q cells slots h pc lo (.ref a :: st) := j_get E hc rfl 2 (by decide) u_X7 (q_81 E.tb) hv d kk
theorem pf_X7_17 (E : Cx p l s m args meth c cc nL RX7 D A) {a : Nat} {fs : List Value} {v : Nat} (hc : h a = some (.inr (7, fs))) (hl0 : 2 < fs.length) (hin2 : meth.name = "<init>") (d : decode cc pc = .ok (.putfield 17, 3)) (kk : ∀ h1 : AH, h1 a = some (.inr (7, fs.set 2 (.ref v))) → (∀ x, x ≠ a → h1 x = h x) → J p l e R s m args below meth c D A nL Q cells slots h1 (pc + 3) lo st) : J p l e R s m args below meth c D A nL Q cells slots h pc lo (.ref v :: .ref a :: st) := j_putF E hc rfl 2 (by decide) u_X7 tyX7 tyX7_ok nmX7 (q_81 E.tb) rfl hin2 rfl rfl rfl rfl hl0 d (kk _ hup_eq (fun _ => hup_ne))
theorem pfN_X7_17 (E : Cx p l s m args meth c cc nL RX7 D A) {a : Nat} {fs : List Value}  (hc : h a = some (.inr (7, fs))) (hl0 : 2 < fs.length) (hin2 : meth.name = "<init>") (d : decode cc pc = .ok (.putfield 17, 3)) (kk : ∀ h1 : AH, h1 a = some (.inr (7, fs.set 2 (.null))) → (∀ x, x ≠ a → h1 x = h x) → J p l e R s m args below meth c D A nL Q cells slots h1 (pc + 3) lo st) : J p l e R s m args below meth c D A nL Q cells slots h pc lo (.null :: .ref a :: st) := j_putF E hc rfl 2 (by decide) u_X7 tyX7 tyX7_ok nmX7 (q_81 E.tb) rfl hin2 rfl rfl rfl rfl hl0 d (kk _ hup_eq (fun _ => hup_ne))
theorem gf_X7_23 (E : Cx p l s m args meth c cc nL RX7 D A) {a : Nat} {fs : List Value} {v : Value} (hc : h a = some (.inr (7, fs))) (hv : fs[4]? = some v) (d : decode cc pc = .ok (.getfield 23, 3)) (kk : J p l e R s m args below meth c D A nL Q cells slots h (pc + 3) lo (v :: st)) : J p l e R s m args below meth c D A nL Q cells slots h pc lo (.ref a :: st) := j_get E hc rfl 4 (by decide) u_X7 (q_83 E.tb) hv d kk
theorem pf_X7_23 (E : Cx p l s m args meth c cc nL RX7 D A) {a : Nat} {fs : List Value} {v : Nat} (hc : h a = some (.inr (7, fs))) (hl0 : 4 < fs.length) (hin2 : meth.name = "<init>") (d : decode cc pc = .ok (.putfield 23, 3)) (kk : ∀ h1 : AH, h1 a = some (.inr (7, fs.set 4 (.ref v))) → (∀ x, x ≠ a → h1 x = h x) → J p l e R s m args below meth c D A nL Q cells slots h1 (pc + 3) lo st) : J p l e R s m args below meth c D A nL Q cells slots h pc lo (.ref v :: .ref a :: st) := j_putF E hc rfl 4 (by decide) u_X7 tyX7 tyX7_ok nmX7 (q_83 E.tb) rfl hin2 rfl rfl rfl rfl hl0 d (kk _ hup_eq (fun _ => hup_ne))
theorem pfN_X7_23 (E : Cx p l s m args meth c cc nL RX7 D A) {a : Nat} {fs : List Value}  (hc : h a = some (.inr (7, fs))) (hl0 : 4 < fs.length) (hin2 : meth.name = "<init>") (d : decode cc pc = .ok (.putfield 23, 3)) (kk : ∀ h1 : AH, h1 a = some (.inr (7, fs.set 4 (.null))) → (∀ x, x ≠ a → h1 x = h x) → J p l e R s m args below meth c D A nL Q cells slots h1 (pc + 3) lo st) : J p l e R s m args below meth c D A nL Q cells slots h pc lo (.null :: .ref a :: st) := j_putF E hc rfl 4 (by decide) u_X7 tyX7 tyX7_ok nmX7 (q_83 E.tb) rfl hin2 rfl rfl rfl rfl hl0 d (kk _ hup_eq (fun _ => hup_ne))
theorem gf_X7_29 (E : Cx p l s m args meth c cc nL RX7 D A) {a : Nat} {fs : List Value} {v : Value} (hc : h a = some (.inr (7, fs))) (hv : fs[6]? = some v) (d : decode cc pc = .ok (.getfield 29, 3)) (kk : J p l e R s m args below meth c D A nL Q cells slots h (pc + 3) lo (v :: st)) : J p l e R s m args below meth c D A nL Q cells slots h pc lo (.ref a :: st) := j_get E hc rfl 6 (by decide) u_X7 (q_85 E.tb) hv d kk
theorem pf_X7_29 (E : Cx p l s m args meth c cc nL RX7 D A) {a : Nat} {fs : List Value} {v : Nat} (hc : h a = some (.inr (7, fs))) (hl0 : 6 < fs.length) (hin2 : meth.name = "<init>") (d : decode cc pc = .ok (.putfield 29, 3)) (kk : ∀ h1 : AH, h1 a = some (.inr (7, fs.set 6 (.ref v))) → (∀ x, x ≠ a → h1 x = h x) → J p l e R s m args below meth c D A nL Q cells slots h1 (pc + 3) lo st) : J p l e R s m args below meth c D A nL Q cells slots h pc lo (.ref v :: .ref a :: st) := j_putF E hc rfl 6 (by decide) u_X7 tyX7 tyX7_ok nmX7 (q_85 E.tb) rfl hin2 rfl rfl rfl rfl hl0 d (kk _ hup_eq (fun _ => hup_ne))
theorem pfN_X7_29 (E : Cx p l s m args meth c cc nL RX7 D A) {a : Nat} {fs : List Value}  (hc : h a = some (.inr (7, fs))) (hl0 : 6 < fs.length) (hin2 : meth.name = "<init>") (d : decode cc pc = .ok (.putfield 29, 3)) (kk : ∀ h1 : AH, h1 a = some (.inr (7, fs.set 6 (.null))) → (∀ x, x ≠ a → h1 x = h x) → J p l e R s m args below meth c D A nL Q cells slots h1 (pc + 3) lo st) : J p l e R s m args below meth c D A nL Q cells slots h pc lo (.null :: .ref a :: st) := j_putF E hc rfl 6 (by decide) u_X7 tyX7 tyX7_ok nmX7 (q_85 E.tb) rfl hin2 rfl rfl rfl rfl hl0 d (kk _ hup_eq (fun _ => hup_ne))
theorem gf_X7_36 (E : Cx p l s m args meth c cc nL RX7 D A) {a : Nat} {fs : List Value} {v : Value} (hc : h a = some (.inr (7, fs))) (hv : fs[8]? = some v) (d : decode cc pc = .ok (.getfield 36, 3)) (kk : J p l e R s m args below meth c D A nL Q cells slots h (pc + 3) lo (v :: st)) : J p l e R s m args below meth c D A nL Q cells slots h pc lo (.ref a :: st) := j_get E hc rfl 8 (by decide) u_X7 (q_87 E.tb) hv d kk
theorem pf_X7_36 (E : Cx p l s m args meth c cc nL RX7 D A) {a : Nat} {fs : List Value} {v : Nat} (hc : h a = some (.inr (7, fs))) (hl0 : 8 < fs.length) (hin2 : meth.name = "<init>") (d : decode cc pc = .ok (.putfield 36, 3)) (kk : ∀ h1 : AH, h1 a = some (.inr (7, fs.set 8 (.ref v))) → (∀ x, x ≠ a → h1 x = h x) → J p l e R s m args below meth c D A nL Q cells slots h1 (pc + 3) lo st) : J p l e R s m args below meth c D A nL Q cells slots h pc lo (.ref v :: .ref a :: st) := j_putF E hc rfl 8 (by decide) u_X7 tyX7 tyX7_ok nmX7 (q_87 E.tb) rfl hin2 rfl rfl rfl rfl hl0 d (kk _ hup_eq (fun _ => hup_ne))
theorem pfN_X7_36 (E : Cx p l s m args meth c cc nL RX7 D A) {a : Nat} {fs : List Value}  (hc : h a = some (.inr (7, fs))) (hl0 : 8 < fs.length) (hin2 : meth.name = "<init>") (d : decode cc pc = .ok (.putfield 36, 3)) (kk : ∀ h1 : AH, h1 a = some (.inr (7, fs.set 8 (.null))) → (∀ x, x ≠ a → h1 x = h x) → J p l e R s m args below meth c D A nL Q cells slots h1 (pc + 3) lo st) : J p l e R s m args below meth c D A nL Q cells slots h pc lo (.null :: .ref a :: st) := j_putF E hc rfl 8 (by decide) u_X7 tyX7 tyX7_ok nmX7 (q_87 E.tb) rfl hin2 rfl rfl rfl rfl hl0 d (kk _ hup_eq (fun _ => hup_ne))
theorem gf_X7_44 (E : Cx p l s m args meth c cc nL RX7 D A) {a : Nat} {fs : List Value} {v : Value} (hc : h a = some (.inr (7, fs))) (hv : fs[1]? = some v) (d : decode cc pc = .ok (.getfield 44, 3)) (kk : J p l e R s m args below meth c D A nL Q cells slots h (pc + 3) lo (v :: st)) : J p l e R s m args below meth c D A nL Q cells slots h pc lo (.ref a :: st) := j_get E hc rfl 1 (by decide) u_X7 (q_80 E.tb) hv d kk
theorem pf_X7_44 (E : Cx p l s m args meth c cc nL RX7 D A) {a : Nat} {fs : List Value} {v : Int32} (hc : h a = some (.inr (7, fs))) (hl0 : 1 < fs.length) (d : decode cc pc = .ok (.putfield 44, 3)) (kk : ∀ h1 : AH, h1 a = some (.inr (7, fs.set 1 (.int v))) → (∀ x, x ≠ a → h1 x = h x) → J p l e R s m args below meth c D A nL Q cells slots h1 (pc + 3) lo st) : J p l e R s m args below meth c D A nL Q cells slots h pc lo (.int v :: .ref a :: st) := j_put E hc rfl 1 (by decide) u_X7 tyX7 tyX7_ok nmX7 (q_80 E.tb) rfl rfl rfl rfl hl0 d (kk _ hup_eq (fun _ => hup_ne))
theorem gf_X7_78 (E : Cx p l s m args meth c cc nL RX7 D A) {a : Nat} {fs : List Value} {v : Value} (hc : h a = some (.inr (1, fs))) (hv : fs[1]? = some v) (d : decode cc pc = .ok (.getfield 78, 3)) (kk : J p l e R s m args below meth c D A nL Q cells slots h (pc + 3) lo (v :: st)) : J p l e R s m args below meth c D A nL Q cells slots h pc lo (.ref a :: st) := j_get E hc rfl 1 (by decide) u_X1 (q_73 E.tb) hv d kk
theorem gf_X7_85 (E : Cx p l s m args meth c cc nL RX7 D A) {a : Nat} {fs : List Value} {v : Value} (hc : h a = some (.inr (2, fs))) (hv : fs[1]? = some v) (d : decode cc pc = .ok (.getfield 85, 3)) (kk : J p l e R s m args below meth c D A nL Q cells slots h (pc + 3) lo (v :: st)) : J p l e R s m args below meth c D A nL Q cells slots h pc lo (.ref a :: st) := j_get E hc rfl 1 (by decide) u_X2 (q_305 E.tb) hv d kk
theorem gf_X7_99 (E : Cx p l s m args meth c cc nL RX7 D A) {a : Nat} {fs : List Value} {v : Value} (hc : h a = some (.inr (6, fs))) (hv : fs[1]? = some v) (d : decode cc pc = .ok (.getfield 99, 3)) (kk : J p l e R s m args below meth c D A nL Q cells slots h (pc + 3) lo (v :: st)) : J p l e R s m args below meth c D A nL Q cells slots h pc lo (.ref a :: st) := j_get E hc rfl 1 (by decide) u_X6 (q_237 E.tb) hv d kk
theorem pf_X7_99 (E : Cx p l s m args meth c cc nL RX7 D A) {a : Nat} {fs : List Value} {v : Int32} (hc : h a = some (.inr (6, fs))) (hl0 : 1 < fs.length) (d : decode cc pc = .ok (.putfield 99, 3)) (kk : ∀ h1 : AH, h1 a = some (.inr (6, fs.set 1 (.int v))) → (∀ x, x ≠ a → h1 x = h x) → J p l e R s m args below meth c D A nL Q cells slots h1 (pc + 3) lo st) : J p l e R s m args below meth c D A nL Q cells slots h pc lo (.int v :: .ref a :: st) := j_put E hc rfl 1 (by decide) u_X6 tyX6 tyX6_ok nmX6 (q_237 E.tb) rfl rfl rfl rfl hl0 d (kk _ hup_eq (fun _ => hup_ne))
theorem gf_X7_102 (E : Cx p l s m args meth c cc nL RX7 D A) {a : Nat} {fs : List Value} {v : Value} (hc : h a = some (.inr (7, fs))) (hv : fs[3]? = some v) (d : decode cc pc = .ok (.getfield 102, 3)) (kk : J p l e R s m args below meth c D A nL Q cells slots h (pc + 3) lo (v :: st)) : J p l e R s m args below meth c D A nL Q cells slots h pc lo (.ref a :: st) := j_get E hc rfl 3 (by decide) u_X7 (q_82 E.tb) hv d kk
theorem pf_X7_102 (E : Cx p l s m args meth c cc nL RX7 D A) {a : Nat} {fs : List Value} {v : Int32} (hc : h a = some (.inr (7, fs))) (hl0 : 3 < fs.length) (d : decode cc pc = .ok (.putfield 102, 3)) (kk : ∀ h1 : AH, h1 a = some (.inr (7, fs.set 3 (.int v))) → (∀ x, x ≠ a → h1 x = h x) → J p l e R s m args below meth c D A nL Q cells slots h1 (pc + 3) lo st) : J p l e R s m args below meth c D A nL Q cells slots h pc lo (.int v :: .ref a :: st) := j_put E hc rfl 3 (by decide) u_X7 tyX7 tyX7_ok nmX7 (q_82 E.tb) rfl rfl rfl rfl hl0 d (kk _ hup_eq (fun _ => hup_ne))
theorem gf_X7_118 (E : Cx p l s m args meth c cc nL RX7 D A) {a : Nat} {fs : List Value} {v : Value} (hc : h a = some (.inr (0, fs))) (hv : fs[2]? = some v) (d : decode cc pc = .ok (.getfield 118, 3)) (kk : J p l e R s m args below meth c D A nL Q cells slots h (pc + 3) lo (v :: st)) : J p l e R s m args below meth c D A nL Q cells slots h pc lo (.ref a :: st) := j_get E hc rfl 2 (by decide) u_X0 (q_405 E.tb) hv d kk
theorem pf_X7_118 (E : Cx p l s m args meth c cc nL RX7 D A) {a : Nat} {fs : List Value} {v : Int32} (hc : h a = some (.inr (0, fs))) (hl0 : 2 < fs.length) (d : decode cc pc = .ok (.putfield 118, 3)) (kk : ∀ h1 : AH, h1 a = some (.inr (0, fs.set 2 (.int v))) → (∀ x, x ≠ a → h1 x = h x) → J p l e R s m args below meth c D A nL Q cells slots h1 (pc + 3) lo st) : J p l e R s m args below meth c D A nL Q cells slots h pc lo (.int v :: .ref a :: st) := j_put E hc rfl 2 (by decide) u_X0 tyX0 tyX0_ok nmX0 (q_405 E.tb) rfl rfl rfl rfl hl0 d (kk _ hup_eq (fun _ => hup_ne))
theorem gf_X7_126 (E : Cx p l s m args meth c cc nL RX7 D A) {a : Nat} {fs : List Value} {v : Value} (hc : h a = some (.inr (0, fs))) (hv : fs[1]? = some v) (d : decode cc pc = .ok (.getfield 126, 3)) (kk : J p l e R s m args below meth c D A nL Q cells slots h (pc + 3) lo (v :: st)) : J p l e R s m args below meth c D A nL Q cells slots h pc lo (.ref a :: st) := j_get E hc rfl 1 (by decide) u_X0 (q_403 E.tb) hv d kk
theorem pf_X7_126 (E : Cx p l s m args meth c cc nL RX7 D A) {a : Nat} {fs : List Value} {v : Int32} (hc : h a = some (.inr (0, fs))) (hl0 : 1 < fs.length) (d : decode cc pc = .ok (.putfield 126, 3)) (kk : ∀ h1 : AH, h1 a = some (.inr (0, fs.set 1 (.int v))) → (∀ x, x ≠ a → h1 x = h x) → J p l e R s m args below meth c D A nL Q cells slots h1 (pc + 3) lo st) : J p l e R s m args below meth c D A nL Q cells slots h pc lo (.int v :: .ref a :: st) := j_put E hc rfl 1 (by decide) u_X0 tyX0 tyX0_ok nmX0 (q_403 E.tb) rfl rfl rfl rfl hl0 d (kk _ hup_eq (fun _ => hup_ne))
theorem gf_X7_129 (E : Cx p l s m args meth c cc nL RX7 D A) {a : Nat} {fs : List Value} {v : Value} (hc : h a = some (.inr (0, fs))) (hv : fs[0]? = some v) (d : decode cc pc = .ok (.getfield 129, 3)) (kk : J p l e R s m args below meth c D A nL Q cells slots h (pc + 3) lo (v :: st)) : J p l e R s m args below meth c D A nL Q cells slots h pc lo (.ref a :: st) := j_get E hc rfl 0 (by decide) u_X0 (q_400 E.tb) hv d kk
theorem pf_X7_129 (E : Cx p l s m args meth c cc nL RX7 D A) {a : Nat} {fs : List Value} {v : Int32} (hc : h a = some (.inr (0, fs))) (hz : narrow .boolean (.int v) = .int v ∧ fits .boolean (.int v) = true) (hl0 : 0 < fs.length) (d : decode cc pc = .ok (.putfield 129, 3)) (kk : ∀ h1 : AH, h1 a = some (.inr (0, fs.set 0 (.int v))) → (∀ x, x ≠ a → h1 x = h x) → J p l e R s m args below meth c D A nL Q cells slots h1 (pc + 3) lo st) : J p l e R s m args below meth c D A nL Q cells slots h pc lo (.int v :: .ref a :: st) := j_put E hc rfl 0 (by decide) u_X0 tyX0 tyX0_ok nmX0 (q_400 E.tb) rfl rfl hz.1 hz.2 hl0 d (kk _ hup_eq (fun _ => hup_ne))
theorem gf_X7_138 (E : Cx p l s m args meth c cc nL RX7 D A) {a : Nat} {fs : List Value} {v : Value} (hc : h a = some (.inr (4, fs))) (hv : fs[6]? = some v) (d : decode cc pc = .ok (.getfield 138, 3)) (kk : J p l e R s m args below meth c D A nL Q cells slots h (pc + 3) lo (v :: st)) : J p l e R s m args below meth c D A nL Q cells slots h pc lo (.ref a :: st) := j_get E hc rfl 6 (by decide) u_X4 (q_424 E.tb) hv d kk
theorem pf_X7_138 (E : Cx p l s m args meth c cc nL RX7 D A) {a : Nat} {fs : List Value} {v : Int32} (hc : h a = some (.inr (4, fs))) (hz : narrow .boolean (.int v) = .int v ∧ fits .boolean (.int v) = true) (hl0 : 6 < fs.length) (d : decode cc pc = .ok (.putfield 138, 3)) (kk : ∀ h1 : AH, h1 a = some (.inr (4, fs.set 6 (.int v))) → (∀ x, x ≠ a → h1 x = h x) → J p l e R s m args below meth c D A nL Q cells slots h1 (pc + 3) lo st) : J p l e R s m args below meth c D A nL Q cells slots h pc lo (.int v :: .ref a :: st) := j_put E hc rfl 6 (by decide) u_X4 tyX4 tyX4_ok nmX4 (q_424 E.tb) rfl rfl hz.1 hz.2 hl0 d (kk _ hup_eq (fun _ => hup_ne))
theorem gf_X7_143 (E : Cx p l s m args meth c cc nL RX7 D A) {a : Nat} {fs : List Value} {v : Value} (hc : h a = some (.inr (4, fs))) (hv : fs[1]? = some v) (d : decode cc pc = .ok (.getfield 143, 3)) (kk : J p l e R s m args below meth c D A nL Q cells slots h (pc + 3) lo (v :: st)) : J p l e R s m args below meth c D A nL Q cells slots h pc lo (.ref a :: st) := j_get E hc rfl 1 (by decide) u_X4 (q_416 E.tb) hv d kk
theorem gf_X7_158 (E : Cx p l s m args meth c cc nL RX7 D A) {a : Nat} {fs : List Value} {v : Value} (hc : h a = some (.inr (7, fs))) (hv : fs[5]? = some v) (d : decode cc pc = .ok (.getfield 158, 3)) (kk : J p l e R s m args below meth c D A nL Q cells slots h (pc + 3) lo (v :: st)) : J p l e R s m args below meth c D A nL Q cells slots h pc lo (.ref a :: st) := j_get E hc rfl 5 (by decide) u_X7 (q_84 E.tb) hv d kk
theorem pf_X7_158 (E : Cx p l s m args meth c cc nL RX7 D A) {a : Nat} {fs : List Value} {v : Int32} (hc : h a = some (.inr (7, fs))) (hl0 : 5 < fs.length) (d : decode cc pc = .ok (.putfield 158, 3)) (kk : ∀ h1 : AH, h1 a = some (.inr (7, fs.set 5 (.int v))) → (∀ x, x ≠ a → h1 x = h x) → J p l e R s m args below meth c D A nL Q cells slots h1 (pc + 3) lo st) : J p l e R s m args below meth c D A nL Q cells slots h pc lo (.int v :: .ref a :: st) := j_put E hc rfl 5 (by decide) u_X7 tyX7 tyX7_ok nmX7 (q_84 E.tb) rfl rfl rfl rfl hl0 d (kk _ hup_eq (fun _ => hup_ne))
theorem gf_X7_168 (E : Cx p l s m args meth c cc nL RX7 D A) {a : Nat} {fs : List Value} {v : Value} (hc : h a = some (.inr (4, fs))) (hv : fs[4]? = some v) (d : decode cc pc = .ok (.getfield 168, 3)) (kk : J p l e R s m args below meth c D A nL Q cells slots h (pc + 3) lo (v :: st)) : J p l e R s m args below meth c D A nL Q cells slots h pc lo (.ref a :: st) := j_get E hc rfl 4 (by decide) u_X4 (q_422 E.tb) hv d kk
theorem gf_X7_171 (E : Cx p l s m args meth c cc nL RX7 D A) {a : Nat} {fs : List Value} {v : Value} (hc : h a = some (.inr (3, fs))) (hv : fs[0]? = some v) (d : decode cc pc = .ok (.getfield 171, 3)) (kk : J p l e R s m args below meth c D A nL Q cells slots h (pc + 3) lo (v :: st)) : J p l e R s m args below meth c D A nL Q cells slots h pc lo (.ref a :: st) := j_get E hc rfl 0 (by decide) u_X3 (q_519 E.tb) hv d kk
theorem gf_X7_179 (E : Cx p l s m args meth c cc nL RX7 D A) {a : Nat} {fs : List Value} {v : Value} (hc : h a = some (.inr (3, fs))) (hv : fs[1]? = some v) (d : decode cc pc = .ok (.getfield 179, 3)) (kk : J p l e R s m args below meth c D A nL Q cells slots h (pc + 3) lo (v :: st)) : J p l e R s m args below meth c D A nL Q cells slots h pc lo (.ref a :: st) := j_get E hc rfl 1 (by decide) u_X3 (q_520 E.tb) hv d kk
theorem pf_X7_179 (E : Cx p l s m args meth c cc nL RX7 D A) {a : Nat} {fs : List Value} {v : Nat} (hc : h a = some (.inr (3, fs))) (hl0 : 1 < fs.length) (d : decode cc pc = .ok (.putfield 179, 3)) (kk : ∀ h1 : AH, h1 a = some (.inr (3, fs.set 1 (.ref v))) → (∀ x, x ≠ a → h1 x = h x) → J p l e R s m args below meth c D A nL Q cells slots h1 (pc + 3) lo st) : J p l e R s m args below meth c D A nL Q cells slots h pc lo (.ref v :: .ref a :: st) := j_put E hc rfl 1 (by decide) u_X3 tyX3 tyX3_ok nmX3 (q_520 E.tb) rfl rfl rfl rfl hl0 d (kk _ hup_eq (fun _ => hup_ne))
theorem pfN_X7_179 (E : Cx p l s m args meth c cc nL RX7 D A) {a : Nat} {fs : List Value}  (hc : h a = some (.inr (3, fs))) (hl0 : 1 < fs.length) (d : decode cc pc = .ok (.putfield 179, 3)) (kk : ∀ h1 : AH, h1 a = some (.inr (3, fs.set 1 (.null))) → (∀ x, x ≠ a → h1 x = h x) → J p l e R s m args below meth c D A nL Q cells slots h1 (pc + 3) lo st) : J p l e R s m args below meth c D A nL Q cells slots h pc lo (.null :: .ref a :: st) := j_put E hc rfl 1 (by decide) u_X3 tyX3 tyX3_ok nmX3 (q_520 E.tb) rfl rfl rfl rfl hl0 d (kk _ hup_eq (fun _ => hup_ne))
theorem gf_X7_183 (E : Cx p l s m args meth c cc nL RX7 D A) {a : Nat} {fs : List Value} {v : Value} (hc : h a = some (.inr (3, fs))) (hv : fs[2]? = some v) (d : decode cc pc = .ok (.getfield 183, 3)) (kk : J p l e R s m args below meth c D A nL Q cells slots h (pc + 3) lo (v :: st)) : J p l e R s m args below meth c D A nL Q cells slots h pc lo (.ref a :: st) := j_get E hc rfl 2 (by decide) u_X3 (q_521 E.tb) hv d kk
theorem pf_X7_183 (E : Cx p l s m args meth c cc nL RX7 D A) {a : Nat} {fs : List Value} {v : Nat} (hc : h a = some (.inr (3, fs))) (hl0 : 2 < fs.length) (d : decode cc pc = .ok (.putfield 183, 3)) (kk : ∀ h1 : AH, h1 a = some (.inr (3, fs.set 2 (.ref v))) → (∀ x, x ≠ a → h1 x = h x) → J p l e R s m args below meth c D A nL Q cells slots h1 (pc + 3) lo st) : J p l e R s m args below meth c D A nL Q cells slots h pc lo (.ref v :: .ref a :: st) := j_put E hc rfl 2 (by decide) u_X3 tyX3 tyX3_ok nmX3 (q_521 E.tb) rfl rfl rfl rfl hl0 d (kk _ hup_eq (fun _ => hup_ne))
theorem pfN_X7_183 (E : Cx p l s m args meth c cc nL RX7 D A) {a : Nat} {fs : List Value}  (hc : h a = some (.inr (3, fs))) (hl0 : 2 < fs.length) (d : decode cc pc = .ok (.putfield 183, 3)) (kk : ∀ h1 : AH, h1 a = some (.inr (3, fs.set 2 (.null))) → (∀ x, x ≠ a → h1 x = h x) → J p l e R s m args below meth c D A nL Q cells slots h1 (pc + 3) lo st) : J p l e R s m args below meth c D A nL Q cells slots h pc lo (.null :: .ref a :: st) := j_put E hc rfl 2 (by decide) u_X3 tyX3 tyX3_ok nmX3 (q_521 E.tb) rfl rfl rfl rfl hl0 d (kk _ hup_eq (fun _ => hup_ne))
theorem gf_X7_187 (E : Cx p l s m args meth c cc nL RX7 D A) {a : Nat} {fs : List Value} {v : Value} (hc : h a = some (.inr (4, fs))) (hv : fs[0]? = some v) (d : decode cc pc = .ok (.getfield 187, 3)) (kk : J p l e R s m args below meth c D A nL Q cells slots h (pc + 3) lo (v :: st)) : J p l e R s m args below meth c D A nL Q cells slots h pc lo (.ref a :: st) := j_get E hc rfl 0 (by decide) u_X4 (q_414 E.tb) hv d kk
theorem gf_X7_194 (E : Cx p l s m args meth c cc nL RX7 D A) {a : Nat} {fs : List Value} {v : Value} (hc : h a = some (.inr (5, fs))) (hv : fs[0]? = some v) (d : decode cc pc = .ok (.getfield 194, 3)) (kk : J p l e R s m args below meth c D A nL Q cells slots h (pc + 3) lo (v :: st)) : J p l e R s m args below meth c D A nL Q cells slots h pc lo (.ref a :: st) := j_get E hc rfl 0 (by decide) u_X5 (q_596 E.tb) hv d kk
theorem gf_X7_205 (E : Cx p l s m args meth c cc nL RX7 D A) {a : Nat} {fs : List Value} {v : Value} (hc : h a = some (.inr (7, fs))) (hv : fs[7]? = some v) (d : decode cc pc = .ok (.getfield 205, 3)) (kk : J p l e R s m args below meth c D A nL Q cells slots h (pc + 3) lo (v :: st)) : J p l e R s m args below meth c D A nL Q cells slots h pc lo (.ref a :: st) := j_get E hc rfl 7 (by decide) u_X7 (q_86 E.tb) hv d kk
theorem pf_X7_205 (E : Cx p l s m args meth c cc nL RX7 D A) {a : Nat} {fs : List Value} {v : Int32} (hc : h a = some (.inr (7, fs))) (hl0 : 7 < fs.length) (d : decode cc pc = .ok (.putfield 205, 3)) (kk : ∀ h1 : AH, h1 a = some (.inr (7, fs.set 7 (.int v))) → (∀ x, x ≠ a → h1 x = h x) → J p l e R s m args below meth c D A nL Q cells slots h1 (pc + 3) lo st) : J p l e R s m args below meth c D A nL Q cells slots h pc lo (.int v :: .ref a :: st) := j_put E hc rfl 7 (by decide) u_X7 tyX7 tyX7_ok nmX7 (q_86 E.tb) rfl rfl rfl rfl hl0 d (kk _ hup_eq (fun _ => hup_ne))
theorem gf_X7_213 (E : Cx p l s m args meth c cc nL RX7 D A) {a : Nat} {fs : List Value} {v : Value} (hc : h a = some (.inr (5, fs))) (hv : fs[4]? = some v) (d : decode cc pc = .ok (.getfield 213, 3)) (kk : J p l e R s m args below meth c D A nL Q cells slots h (pc + 3) lo (v :: st)) : J p l e R s m args below meth c D A nL Q cells slots h pc lo (.ref a :: st) := j_get E hc rfl 4 (by decide) u_X5 (q_603 E.tb) hv d kk
theorem gf_X7_221 (E : Cx p l s m args meth c cc nL RX7 D A) {a : Nat} {fs : List Value} {v : Value} (hc : h a = some (.inr (5, fs))) (hv : fs[5]? = some v) (d : decode cc pc = .ok (.getfield 221, 3)) (kk : J p l e R s m args below meth c D A nL Q cells slots h (pc + 3) lo (v :: st)) : J p l e R s m args below meth c D A nL Q cells slots h pc lo (.ref a :: st) := j_get E hc rfl 5 (by decide) u_X5 (q_605 E.tb) hv d kk
theorem gf_X7_224 (E : Cx p l s m args meth c cc nL RX7 D A) {a : Nat} {fs : List Value} {v : Value} (hc : h a = some (.inr (5, fs))) (hv : fs[6]? = some v) (d : decode cc pc = .ok (.getfield 224, 3)) (kk : J p l e R s m args below meth c D A nL Q cells slots h (pc + 3) lo (v :: st)) : J p l e R s m args below meth c D A nL Q cells slots h pc lo (.ref a :: st) := j_get E hc rfl 6 (by decide) u_X5 (q_607 E.tb) hv d kk
theorem gf_X7_234 (E : Cx p l s m args meth c cc nL RX7 D A) {a : Nat} {fs : List Value} {v : Value} (hc : h a = some (.inr (5, fs))) (hv : fs[7]? = some v) (d : decode cc pc = .ok (.getfield 234, 3)) (kk : J p l e R s m args below meth c D A nL Q cells slots h (pc + 3) lo (v :: st)) : J p l e R s m args below meth c D A nL Q cells slots h pc lo (.ref a :: st) := j_get E hc rfl 7 (by decide) u_X5 (q_609 E.tb) hv d kk
theorem gf_X7_237 (E : Cx p l s m args meth c cc nL RX7 D A) {a : Nat} {fs : List Value} {v : Value} (hc : h a = some (.inr (7, fs))) (hv : fs[9]? = some v) (d : decode cc pc = .ok (.getfield 237, 3)) (kk : J p l e R s m args below meth c D A nL Q cells slots h (pc + 3) lo (v :: st)) : J p l e R s m args below meth c D A nL Q cells slots h pc lo (.ref a :: st) := j_get E hc rfl 9 (by decide) u_X7 (q_88 E.tb) hv d kk
theorem pf_X7_237 (E : Cx p l s m args meth c cc nL RX7 D A) {a : Nat} {fs : List Value} {v : Int32} (hc : h a = some (.inr (7, fs))) (hl0 : 9 < fs.length) (d : decode cc pc = .ok (.putfield 237, 3)) (kk : ∀ h1 : AH, h1 a = some (.inr (7, fs.set 9 (.int v))) → (∀ x, x ≠ a → h1 x = h x) → J p l e R s m args below meth c D A nL Q cells slots h1 (pc + 3) lo st) : J p l e R s m args below meth c D A nL Q cells slots h pc lo (.int v :: .ref a :: st) := j_put E hc rfl 9 (by decide) u_X7 tyX7 tyX7_ok nmX7 (q_88 E.tb) rfl rfl rfl rfl hl0 d (kk _ hup_eq (fun _ => hup_ne))
theorem gf_X7_245 (E : Cx p l s m args meth c cc nL RX7 D A) {a : Nat} {fs : List Value} {v : Value} (hc : h a = some (.inr (7, fs))) (hv : fs[12]? = some v) (d : decode cc pc = .ok (.getfield 245, 3)) (kk : J p l e R s m args below meth c D A nL Q cells slots h (pc + 3) lo (v :: st)) : J p l e R s m args below meth c D A nL Q cells slots h pc lo (.ref a :: st) := j_get E hc rfl 12 (by decide) u_X7 (q_91 E.tb) hv d kk
theorem pf_X7_245 (E : Cx p l s m args meth c cc nL RX7 D A) {a : Nat} {fs : List Value} {v : Int64} (hc : h a = some (.inr (7, fs))) (hl0 : 12 < fs.length) (d : decode cc pc = .ok (.putfield 245, 3)) (kk : ∀ h1 : AH, h1 a = some (.inr (7, fs.set 12 (.long v))) → (∀ x, x ≠ a → h1 x = h x) → J p l e R s m args below meth c D A nL Q cells slots h1 (pc + 3) lo st) : J p l e R s m args below meth c D A nL Q cells slots h pc lo (.long v :: .ref a :: st) := j_put E hc rfl 12 (by decide) u_X7 tyX7 tyX7_ok nmX7 (q_91 E.tb) rfl rfl rfl rfl hl0 d (kk _ hup_eq (fun _ => hup_ne))
theorem gf_X7_253 (E : Cx p l s m args meth c cc nL RX7 D A) {a : Nat} {fs : List Value} {v : Value} (hc : h a = some (.inr (7, fs))) (hv : fs[13]? = some v) (d : decode cc pc = .ok (.getfield 253, 3)) (kk : J p l e R s m args below meth c D A nL Q cells slots h (pc + 3) lo (v :: st)) : J p l e R s m args below meth c D A nL Q cells slots h pc lo (.ref a :: st) := j_get E hc rfl 13 (by decide) u_X7 (q_92 E.tb) hv d kk
theorem pf_X7_253 (E : Cx p l s m args meth c cc nL RX7 D A) {a : Nat} {fs : List Value} {v : Int64} (hc : h a = some (.inr (7, fs))) (hl0 : 13 < fs.length) (d : decode cc pc = .ok (.putfield 253, 3)) (kk : ∀ h1 : AH, h1 a = some (.inr (7, fs.set 13 (.long v))) → (∀ x, x ≠ a → h1 x = h x) → J p l e R s m args below meth c D A nL Q cells slots h1 (pc + 3) lo st) : J p l e R s m args below meth c D A nL Q cells slots h pc lo (.long v :: .ref a :: st) := j_put E hc rfl 13 (by decide) u_X7 tyX7 tyX7_ok nmX7 (q_92 E.tb) rfl rfl rfl rfl hl0 d (kk _ hup_eq (fun _ => hup_ne))
theorem gf_X7_256 (E : Cx p l s m args meth c cc nL RX7 D A) {a : Nat} {fs : List Value} {v : Value} (hc : h a = some (.inr (7, fs))) (hv : fs[10]? = some v) (d : decode cc pc = .ok (.getfield 256, 3)) (kk : J p l e R s m args below meth c D A nL Q cells slots h (pc + 3) lo (v :: st)) : J p l e R s m args below meth c D A nL Q cells slots h pc lo (.ref a :: st) := j_get E hc rfl 10 (by decide) u_X7 (q_89 E.tb) hv d kk
theorem pf_X7_256 (E : Cx p l s m args meth c cc nL RX7 D A) {a : Nat} {fs : List Value} {v : Int32} (hc : h a = some (.inr (7, fs))) (hl0 : 10 < fs.length) (d : decode cc pc = .ok (.putfield 256, 3)) (kk : ∀ h1 : AH, h1 a = some (.inr (7, fs.set 10 (.int v))) → (∀ x, x ≠ a → h1 x = h x) → J p l e R s m args below meth c D A nL Q cells slots h1 (pc + 3) lo st) : J p l e R s m args below meth c D A nL Q cells slots h pc lo (.int v :: .ref a :: st) := j_put E hc rfl 10 (by decide) u_X7 tyX7 tyX7_ok nmX7 (q_89 E.tb) rfl rfl rfl rfl hl0 d (kk _ hup_eq (fun _ => hup_ne))
theorem gf_X7_259 (E : Cx p l s m args meth c cc nL RX7 D A) {a : Nat} {fs : List Value} {v : Value} (hc : h a = some (.inr (7, fs))) (hv : fs[11]? = some v) (d : decode cc pc = .ok (.getfield 259, 3)) (kk : J p l e R s m args below meth c D A nL Q cells slots h (pc + 3) lo (v :: st)) : J p l e R s m args below meth c D A nL Q cells slots h pc lo (.ref a :: st) := j_get E hc rfl 11 (by decide) u_X7 (q_90 E.tb) hv d kk
theorem pf_X7_259 (E : Cx p l s m args meth c cc nL RX7 D A) {a : Nat} {fs : List Value} {v : Int32} (hc : h a = some (.inr (7, fs))) (hl0 : 11 < fs.length) (d : decode cc pc = .ok (.putfield 259, 3)) (kk : ∀ h1 : AH, h1 a = some (.inr (7, fs.set 11 (.int v))) → (∀ x, x ≠ a → h1 x = h x) → J p l e R s m args below meth c D A nL Q cells slots h1 (pc + 3) lo st) : J p l e R s m args below meth c D A nL Q cells slots h pc lo (.int v :: .ref a :: st) := j_put E hc rfl 11 (by decide) u_X7 tyX7 tyX7_ok nmX7 (q_90 E.tb) rfl rfl rfl rfl hl0 d (kk _ hup_eq (fun _ => hup_ne))
theorem gf_X7_296 (E : Cx p l s m args meth c cc nL RX7 D A) {a : Nat} {fs : List Value} {v : Value} (hc : h a = some (.inr (5, fs))) (hv : fs[1]? = some v) (d : decode cc pc = .ok (.getfield 296, 3)) (kk : J p l e R s m args below meth c D A nL Q cells slots h (pc + 3) lo (v :: st)) : J p l e R s m args below meth c D A nL Q cells slots h pc lo (.ref a :: st) := j_get E hc rfl 1 (by decide) u_X5 (q_598 E.tb) hv d kk
theorem gf_X7_300 (E : Cx p l s m args meth c cc nL RX7 D A) {a : Nat} {fs : List Value} {v : Value} (hc : h a = some (.inr (4, fs))) (hv : fs[2]? = some v) (d : decode cc pc = .ok (.getfield 300, 3)) (kk : J p l e R s m args below meth c D A nL Q cells slots h (pc + 3) lo (v :: st)) : J p l e R s m args below meth c D A nL Q cells slots h pc lo (.ref a :: st) := j_get E hc rfl 2 (by decide) u_X4 (q_418 E.tb) hv d kk
theorem gf_X7_303 (E : Cx p l s m args meth c cc nL RX7 D A) {a : Nat} {fs : List Value} {v : Value} (hc : h a = some (.inr (4, fs))) (hv : fs[3]? = some v) (d : decode cc pc = .ok (.getfield 303, 3)) (kk : J p l e R s m args below meth c D A nL Q cells slots h (pc + 3) lo (v :: st)) : J p l e R s m args below meth c D A nL Q cells slots h pc lo (.ref a :: st) := j_get E hc rfl 3 (by decide) u_X4 (q_420 E.tb) hv d kk
theorem gf_X7_306 (E : Cx p l s m args meth c cc nL RX7 D A) {a : Nat} {fs : List Value} {v : Value} (hc : h a = some (.inr (5, fs))) (hv : fs[2]? = some v) (d : decode cc pc = .ok (.getfield 306, 3)) (kk : J p l e R s m args below meth c D A nL Q cells slots h (pc + 3) lo (v :: st)) : J p l e R s m args below meth c D A nL Q cells slots h pc lo (.ref a :: st) := j_get E hc rfl 2 (by decide) u_X5 (q_600 E.tb) hv d kk
theorem gf_X0_9 (E : Cx p l s m args meth c cc nL RX0 D A) {a : Nat} {fs : List Value} {v : Value} (hc : h a = some (.inr (0, fs))) (hv : fs[2]? = some v) (d : decode cc pc = .ok (.getfield 9, 3)) (kk : J p l e R s m args below meth c D A nL Q cells slots h (pc + 3) lo (v :: st)) : J p l e R s m args below meth c D A nL Q cells slots h pc lo (.ref a :: st) := j_get E hc rfl 2 (by decide) u_X0 (q_404 E.tb) hv d kk
theorem pf_X0_9 (E : Cx p l s m args meth c cc nL RX0 D A) {a : Nat} {fs : List Value} {v : Int32} (hc : h a = some (.inr (0, fs))) (hl0 : 2 < fs.length) (d : decode cc pc = .ok (.putfield 9, 3)) (kk : ∀ h1 : AH, h1 a = some (.inr (0, fs.set 2 (.int v))) → (∀ x, x ≠ a → h1 x = h x) → J p l e R s m args below meth c D A nL Q cells slots h1 (pc + 3) lo st) : J p l e R s m args below meth c D A nL Q cells slots h pc lo (.int v :: .ref a :: st) := j_put E hc rfl 2 (by decide) u_X0 tyX0 tyX0_ok nmX0 (q_404 E.tb) rfl rfl rfl rfl hl0 d (kk _ hup_eq (fun _ => hup_ne))
theorem gf_X0_15 (E : Cx p l s m args meth c cc nL RX0 D A) {a : Nat} {fs : List Value} {v : Value} (hc : h a = some (.inr (0, fs))) (hv : fs[1]? = some v) (d : decode cc pc = .ok (.getfield 15, 3)) (kk : J p l e R s m args below meth c D A nL Q cells slots h (pc + 3) lo (v :: st)) : J p l e R s m args below meth c D A nL Q cells slots h pc lo (.ref a :: st) := j_get E hc rfl 1 (by decide) u_X0 (q_401 E.tb) hv d kk
theorem gf_X0_18 (E : Cx p l s m args meth c cc nL RX0 D A) {a : Nat} {fs : List Value} {v : Value} (hc : h a = some (.inr (0, fs))) (hv : fs[0]? = some v) (d : decode cc pc = .ok (.getfield 18, 3)) (kk : J p l e R s m args below meth c D A nL Q cells slots h (pc + 3) lo (v :: st)) : J p l e R s m args below meth c D A nL Q cells slots h pc lo (.ref a :: st) := j_get E hc rfl 0 (by decide) u_X0 (q_398 E.tb) hv d kk
theorem pf_X0_18 (E : Cx p l s m args meth c cc nL RX0 D A) {a : Nat} {fs : List Value} {v : Int32} (hc : h a = some (.inr (0, fs))) (hz : narrow .boolean (.int v) = .int v ∧ fits .boolean (.int v) = true) (hl0 : 0 < fs.length) (d : decode cc pc = .ok (.putfield 18, 3)) (kk : ∀ h1 : AH, h1 a = some (.inr (0, fs.set 0 (.int v))) → (∀ x, x ≠ a → h1 x = h x) → J p l e R s m args below meth c D A nL Q cells slots h1 (pc + 3) lo st) : J p l e R s m args below meth c D A nL Q cells slots h pc lo (.int v :: .ref a :: st) := j_put E hc rfl 0 (by decide) u_X0 tyX0 tyX0_ok nmX0 (q_398 E.tb) rfl rfl hz.1 hz.2 hl0 d (kk _ hup_eq (fun _ => hup_ne))
theorem gf_X1_11 (E : Cx p l s m args meth c cc nL RX1 D A) {a : Nat} {fs : List Value} {v : Value} (hc : h a = some (.inr (1, fs))) (hv : fs[0]? = some v) (d : decode cc pc = .ok (.getfield 11, 3)) (kk : J p l e R s m args below meth c D A nL Q cells slots h (pc + 3) lo (v :: st)) : J p l e R s m args below meth c D A nL Q cells slots h pc lo (.ref a :: st) := j_get E hc rfl 0 (by decide) u_X1 (q_71 E.tb) hv d kk
theorem pf_X1_11 (E : Cx p l s m args meth c cc nL RX1 D A) {a : Nat} {fs : List Value} {v : Nat} (hc : h a = some (.inr (1, fs))) (hl0 : 0 < fs.length) (hin2 : meth.name = "<init>") (d : decode cc pc = .ok (.putfield 11, 3)) (kk : ∀ h1 : AH, h1 a = some (.inr (1, fs.set 0 (.ref v))) → (∀ x, x ≠ a → h1 x = h x) → J p l e R s m args below meth c D A nL Q cells slots h1 (pc + 3) lo st) : J p l e R s m args below meth c D A nL Q cells slots h pc lo (.ref v :: .ref a :: st) := j_putF E hc rfl 0 (by decide) u_X1 tyX1 tyX1_ok nmX1 (q_71 E.tb) rfl hin2 rfl rfl rfl rfl hl0 d (kk _ hup_eq (fun _ => hup_ne))
theorem pfN_X1_11 (E : Cx p l s m args meth c cc nL RX1 D A) {a : Nat} {fs : List Value}  (hc : h a = some (.inr (1, fs))) (hl0 : 0 < fs.length) (hin2 : meth.name = "<init>") (d : decode cc pc = .ok (.putfield 11, 3)) (kk : ∀ h1 : AH, h1 a = some (.inr (1, fs.set 0 (.null))) → (∀ x, x ≠ a → h1 x = h x) → J p l e R s m args below meth c D A nL Q cells slots h1 (pc + 3) lo st) : J p l e R s m args below meth c D A nL Q cells slots h pc lo (.null :: .ref a :: st) := j_putF E hc rfl 0 (by decide) u_X1 tyX1 tyX1_ok nmX1 (q_71 E.tb) rfl hin2 rfl rfl rfl rfl hl0 d (kk _ hup_eq (fun _ => hup_ne))
theorem gf_X1_17 (E : Cx p l s m args meth c cc nL RX1 D A) {a : Nat} {fs : List Value} {v : Value} (hc : h a = some (.inr (1, fs))) (hv : fs[1]? = some v) (d : decode cc pc = .ok (.getfield 17, 3)) (kk : J p l e R s m args below meth c D A nL Q cells slots h (pc + 3) lo (v :: st)) : J p l e R s m args below meth c D A nL Q cells slots h pc lo (.ref a :: st) := j_get E hc rfl 1 (by decide) u_X1 (q_72 E.tb) hv d kk
theorem pf_X1_17 (E : Cx p l s m args meth c cc nL RX1 D A) {a : Nat} {fs : List Value} {v : Int32} (hc : h a = some (.inr (1, fs))) (hl0 : 1 < fs.length) (d : decode cc pc = .ok (.putfield 17, 3)) (kk : ∀ h1 : AH, h1 a = some (.inr (1, fs.set 1 (.int v))) → (∀ x, x ≠ a → h1 x = h x) → J p l e R s m args below meth c D A nL Q cells slots h1 (pc + 3) lo st) : J p l e R s m args below meth c D A nL Q cells slots h pc lo (.int v :: .ref a :: st) := j_put E hc rfl 1 (by decide) u_X1 tyX1 tyX1_ok nmX1 (q_72 E.tb) rfl rfl rfl rfl hl0 d (kk _ hup_eq (fun _ => hup_ne))
theorem gf_X1_25 (E : Cx p l s m args meth c cc nL RX1 D A) {a : Nat} {fs : List Value} {v : Value} (hc : h a = some (.inr (2, fs))) (hv : fs[1]? = some v) (d : decode cc pc = .ok (.getfield 25, 3)) (kk : J p l e R s m args below meth c D A nL Q cells slots h (pc + 3) lo (v :: st)) : J p l e R s m args below meth c D A nL Q cells slots h pc lo (.ref a :: st) := j_get E hc rfl 1 (by decide) u_X2 (q_306 E.tb) hv d kk
theorem pf_X1_25 (E : Cx p l s m args meth c cc nL RX1 D A) {a : Nat} {fs : List Value} {v : Int32} (hc : h a = some (.inr (2, fs))) (hl0 : 1 < fs.length) (d : decode cc pc = .ok (.putfield 25, 3)) (kk : ∀ h1 : AH, h1 a = some (.inr (2, fs.set 1 (.int v))) → (∀ x, x ≠ a → h1 x = h x) → J p l e R s m args below meth c D A nL Q cells slots h1 (pc + 3) lo st) : J p l e R s m args below meth c D A nL Q cells slots h pc lo (.int v :: .ref a :: st) := j_put E hc rfl 1 (by decide) u_X2 tyX2 tyX2_ok nmX2 (q_306 E.tb) rfl rfl rfl rfl hl0 d (kk _ hup_eq (fun _ => hup_ne))
theorem gf_X1_34 (E : Cx p l s m args meth c cc nL RX1 D A) {a : Nat} {fs : List Value} {v : Value} (hc : h a = some (.inr (2, fs))) (hv : fs[2]? = some v) (d : decode cc pc = .ok (.getfield 34, 3)) (kk : J p l e R s m args below meth c D A nL Q cells slots h (pc + 3) lo (v :: st)) : J p l e R s m args below meth c D A nL Q cells slots h pc lo (.ref a :: st) := j_get E hc rfl 2 (by decide) u_X2 (q_308 E.tb) hv d kk
theorem pf_X1_34 (E : Cx p l s m args meth c cc nL RX1 D A) {a : Nat} {fs : List Value} {v : Int32} (hc : h a = some (.inr (2, fs))) (hl0 : 2 < fs.length) (d : decode cc pc = .ok (.putfield 34, 3)) (kk : ∀ h1 : AH, h1 a = some (.inr (2, fs.set 2 (.int v))) → (∀ x, x ≠ a → h1 x = h x) → J p l e R s m args below meth c D A nL Q cells slots h1 (pc + 3) lo st) : J p l e R s m args below meth c D A nL Q cells slots h pc lo (.int v :: .ref a :: st) := j_put E hc rfl 2 (by decide) u_X2 tyX2 tyX2_ok nmX2 (q_308 E.tb) rfl rfl rfl rfl hl0 d (kk _ hup_eq (fun _ => hup_ne))
theorem gf_X2_7 (E : Cx p l s m args meth c cc nL RX2 D A) {a : Nat} {fs : List Value} {v : Value} (hc : h a = some (.inr (2, fs))) (hv : fs[0]? = some v) (d : decode cc pc = .ok (.getfield 7, 3)) (kk : J p l e R s m args below meth c D A nL Q cells slots h (pc + 3) lo (v :: st)) : J p l e R s m args below meth c D A nL Q cells slots h pc lo (.ref a :: st) := j_get E hc rfl 0 (by decide) u_X2 (q_303 E.tb) hv d kk
theorem pf_X2_7 (E : Cx p l s m args meth c cc nL RX2 D A) {a : Nat} {fs : List Value} {v : Nat} (hc : h a = some (.inr (2, fs))) (hl0 : 0 < fs.length) (hin2 : meth.name = "<init>") (d : decode cc pc = .ok (.putfield 7, 3)) (kk : ∀ h1 : AH, h1 a = some (.inr (2, fs.set 0 (.ref v))) → (∀ x, x ≠ a → h1 x = h x) → J p l e R s m args below meth c D A nL Q cells slots h1 (pc + 3) lo st) : J p l e R s m args below meth c D A nL Q cells slots h pc lo (.ref v :: .ref a :: st) := j_putF E hc rfl 0 (by decide) u_X2 tyX2 tyX2_ok nmX2 (q_303 E.tb) rfl hin2 rfl rfl rfl rfl hl0 d (kk _ hup_eq (fun _ => hup_ne))
theorem pfN_X2_7 (E : Cx p l s m args meth c cc nL RX2 D A) {a : Nat} {fs : List Value}  (hc : h a = some (.inr (2, fs))) (hl0 : 0 < fs.length) (hin2 : meth.name = "<init>") (d : decode cc pc = .ok (.putfield 7, 3)) (kk : ∀ h1 : AH, h1 a = some (.inr (2, fs.set 0 (.null))) → (∀ x, x ≠ a → h1 x = h x) → J p l e R s m args below meth c D A nL Q cells slots h1 (pc + 3) lo st) : J p l e R s m args below meth c D A nL Q cells slots h pc lo (.null :: .ref a :: st) := j_putF E hc rfl 0 (by decide) u_X2 tyX2 tyX2_ok nmX2 (q_303 E.tb) rfl hin2 rfl rfl rfl rfl hl0 d (kk _ hup_eq (fun _ => hup_ne))
theorem gf_X2_13 (E : Cx p l s m args meth c cc nL RX2 D A) {a : Nat} {fs : List Value} {v : Value} (hc : h a = some (.inr (2, fs))) (hv : fs[1]? = some v) (d : decode cc pc = .ok (.getfield 13, 3)) (kk : J p l e R s m args below meth c D A nL Q cells slots h (pc + 3) lo (v :: st)) : J p l e R s m args below meth c D A nL Q cells slots h pc lo (.ref a :: st) := j_get E hc rfl 1 (by decide) u_X2 (q_304 E.tb) hv d kk
theorem pf_X2_13 (E : Cx p l s m args meth c cc nL RX2 D A) {a : Nat} {fs : List Value} {v : Int32} (hc : h a = some (.inr (2, fs))) (hl0 : 1 < fs.length) (d : decode cc pc = .ok (.putfield 13, 3)) (kk : ∀ h1 : AH, h1 a = some (.inr (2, fs.set 1 (.int v))) → (∀ x, x ≠ a → h1 x = h x) → J p l e R s m args below meth c D A nL Q cells slots h1 (pc + 3) lo st) : J p l e R s m args below meth c D A nL Q cells slots h pc lo (.int v :: .ref a :: st) := j_put E hc rfl 1 (by decide) u_X2 tyX2 tyX2_ok nmX2 (q_304 E.tb) rfl rfl rfl rfl hl0 d (kk _ hup_eq (fun _ => hup_ne))
theorem gf_X2_17 (E : Cx p l s m args meth c cc nL RX2 D A) {a : Nat} {fs : List Value} {v : Value} (hc : h a = some (.inr (6, fs))) (hv : fs[0]? = some v) (d : decode cc pc = .ok (.getfield 17, 3)) (kk : J p l e R s m args below meth c D A nL Q cells slots h (pc + 3) lo (v :: st)) : J p l e R s m args below meth c D A nL Q cells slots h pc lo (.ref a :: st) := j_get E hc rfl 0 (by decide) u_X6 (q_236 E.tb) hv d kk
theorem gf_X2_22 (E : Cx p l s m args meth c cc nL RX2 D A) {a : Nat} {fs : List Value} {v : Value} (hc : h a = some (.inr (2, fs))) (hv : fs[2]? = some v) (d : decode cc pc = .ok (.getfield 22, 3)) (kk : J p l e R s m args below meth c D A nL Q cells slots h (pc + 3) lo (v :: st)) : J p l e R s m args below meth c D A nL Q cells slots h pc lo (.ref a :: st) := j_get E hc rfl 2 (by decide) u_X2 (q_307 E.tb) hv d kk
theorem gf_X3_7 (E : Cx p l s m args meth c cc nL RX3 D A) {a : Nat} {fs : List Value} {v : Value} (hc : h a = some (.inr (3, fs))) (hv : fs[0]? = some v) (d : decode cc pc = .ok (.getfield 7, 3)) (kk : J p l e R s m args below meth c D A nL Q cells slots h (pc + 3) lo (v :: st)) : J p l e R s m args below meth c D A nL Q cells slots h pc lo (.ref a :: st) := j_get E hc rfl 0 (by decide) u_X3 (q_518 E.tb) hv d kk
theorem pf_X3_7 (E : Cx p l s m args meth c cc nL RX3 D A) {a : Nat} {fs : List Value} {v : Int32} (hc : h a = some (.inr (3, fs))) (hl0 : 0 < fs.length) (hin2 : meth.name = "<init>") (d : decode cc pc = .ok (.putfield 7, 3)) (kk : ∀ h1 : AH, h1 a = some (.inr (3, fs.set 0 (.int v))) → (∀ x, x ≠ a → h1 x = h x) → J p l e R s m args below meth c D A nL Q cells slots h1 (pc + 3) lo st) : J p l e R s m args below meth c D A nL Q cells slots h pc lo (.int v :: .ref a :: st) := j_putF E hc rfl 0 (by decide) u_X3 tyX3 tyX3_ok nmX3 (q_518 E.tb) rfl hin2 rfl rfl rfl rfl hl0 d (kk _ hup_eq (fun _ => hup_ne))
theorem gf_X4_9 (E : Cx p l s m args meth c cc nL RX4 D A) {a : Nat} {fs : List Value} {v : Value} (hc : h a = some (.inr (4, fs))) (hv : fs[0]? = some v) (d : decode cc pc = .ok (.getfield 9, 3)) (kk : J p l e R s m args below meth c D A nL Q cells slots h (pc + 3) lo (v :: st)) : J p l e R s m args below meth c D A nL Q cells slots h pc lo (.ref a :: st) := j_get E hc rfl 0 (by decide) u_X4 (q_413 E.tb) hv d kk
theorem pf_X4_9 (E : Cx p l s m args meth c cc nL RX4 D A) {a : Nat} {fs : List Value} {v : Int32} (hc : h a = some (.inr (4, fs))) (hl0 : 0 < fs.length) (hin2 : meth.name = "<init>") (d : decode cc pc = .ok (.putfield 9, 3)) (kk : ∀ h1 : AH, h1 a = some (.inr (4, fs.set 0 (.int v))) → (∀ x, x ≠ a → h1 x = h x) → J p l e R s m args below meth c D A nL Q cells slots h1 (pc + 3) lo st) : J p l e R s m args below meth c D A nL Q cells slots h pc lo (.int v :: .ref a :: st) := j_putF E hc rfl 0 (by decide) u_X4 tyX4 tyX4_ok nmX4 (q_413 E.tb) rfl hin2 rfl rfl rfl rfl hl0 d (kk _ hup_eq (fun _ => hup_ne))
theorem gf_X4_15 (E : Cx p l s m args meth c cc nL RX4 D A) {a : Nat} {fs : List Value} {v : Value} (hc : h a = some (.inr (4, fs))) (hv : fs[2]? = some v) (d : decode cc pc = .ok (.getfield 15, 3)) (kk : J p l e R s m args below meth c D A nL Q cells slots h (pc + 3) lo (v :: st)) : J p l e R s m args below meth c D A nL Q cells slots h pc lo (.ref a :: st) := j_get E hc rfl 2 (by decide) u_X4 (q_417 E.tb) hv d kk
theorem pf_X4_15 (E : Cx p l s m args meth c cc nL RX4 D A) {a : Nat} {fs : List Value} {v : Int32} (hc : h a = some (.inr (4, fs))) (hl0 : 2 < fs.length) (hin2 : meth.name = "<init>") (d : decode cc pc = .ok (.putfield 15, 3)) (kk : ∀ h1 : AH, h1 a = some (.inr (4, fs.set 2 (.int v))) → (∀ x, x ≠ a → h1 x = h x) → J p l e R s m args below meth c D A nL Q cells slots h1 (pc + 3) lo st) : J p l e R s m args below meth c D A nL Q cells slots h pc lo (.int v :: .ref a :: st) := j_putF E hc rfl 2 (by decide) u_X4 tyX4 tyX4_ok nmX4 (q_417 E.tb) rfl hin2 rfl rfl rfl rfl hl0 d (kk _ hup_eq (fun _ => hup_ne))
theorem gf_X4_18 (E : Cx p l s m args meth c cc nL RX4 D A) {a : Nat} {fs : List Value} {v : Value} (hc : h a = some (.inr (4, fs))) (hv : fs[3]? = some v) (d : decode cc pc = .ok (.getfield 18, 3)) (kk : J p l e R s m args below meth c D A nL Q cells slots h (pc + 3) lo (v :: st)) : J p l e R s m args below meth c D A nL Q cells slots h pc lo (.ref a :: st) := j_get E hc rfl 3 (by decide) u_X4 (q_419 E.tb) hv d kk
theorem pf_X4_18 (E : Cx p l s m args meth c cc nL RX4 D A) {a : Nat} {fs : List Value} {v : Int32} (hc : h a = some (.inr (4, fs))) (hl0 : 3 < fs.length) (hin2 : meth.name = "<init>") (d : decode cc pc = .ok (.putfield 18, 3)) (kk : ∀ h1 : AH, h1 a = some (.inr (4, fs.set 3 (.int v))) → (∀ x, x ≠ a → h1 x = h x) → J p l e R s m args below meth c D A nL Q cells slots h1 (pc + 3) lo st) : J p l e R s m args below meth c D A nL Q cells slots h pc lo (.int v :: .ref a :: st) := j_putF E hc rfl 3 (by decide) u_X4 tyX4 tyX4_ok nmX4 (q_419 E.tb) rfl hin2 rfl rfl rfl rfl hl0 d (kk _ hup_eq (fun _ => hup_ne))
theorem gf_X4_21 (E : Cx p l s m args meth c cc nL RX4 D A) {a : Nat} {fs : List Value} {v : Value} (hc : h a = some (.inr (4, fs))) (hv : fs[4]? = some v) (d : decode cc pc = .ok (.getfield 21, 3)) (kk : J p l e R s m args below meth c D A nL Q cells slots h (pc + 3) lo (v :: st)) : J p l e R s m args below meth c D A nL Q cells slots h pc lo (.ref a :: st) := j_get E hc rfl 4 (by decide) u_X4 (q_421 E.tb) hv d kk
theorem pf_X4_21 (E : Cx p l s m args meth c cc nL RX4 D A) {a : Nat} {fs : List Value} {v : Int32} (hc : h a = some (.inr (4, fs))) (hl0 : 4 < fs.length) (hin2 : meth.name = "<init>") (d : decode cc pc = .ok (.putfield 21, 3)) (kk : ∀ h1 : AH, h1 a = some (.inr (4, fs.set 4 (.int v))) → (∀ x, x ≠ a → h1 x = h x) → J p l e R s m args below meth c D A nL Q cells slots h1 (pc + 3) lo st) : J p l e R s m args below meth c D A nL Q cells slots h pc lo (.int v :: .ref a :: st) := j_putF E hc rfl 4 (by decide) u_X4 tyX4 tyX4_ok nmX4 (q_421 E.tb) rfl hin2 rfl rfl rfl rfl hl0 d (kk _ hup_eq (fun _ => hup_ne))
theorem gf_X4_24 (E : Cx p l s m args meth c cc nL RX4 D A) {a : Nat} {fs : List Value} {v : Value} (hc : h a = some (.inr (4, fs))) (hv : fs[5]? = some v) (d : decode cc pc = .ok (.getfield 24, 3)) (kk : J p l e R s m args below meth c D A nL Q cells slots h (pc + 3) lo (v :: st)) : J p l e R s m args below meth c D A nL Q cells slots h pc lo (.ref a :: st) := j_get E hc rfl 5 (by decide) u_X4 (q_423 E.tb) hv d kk
theorem pf_X4_24 (E : Cx p l s m args meth c cc nL RX4 D A) {a : Nat} {fs : List Value} {v : Int32} (hc : h a = some (.inr (4, fs))) (hl0 : 5 < fs.length) (hin2 : meth.name = "<init>") (d : decode cc pc = .ok (.putfield 24, 3)) (kk : ∀ h1 : AH, h1 a = some (.inr (4, fs.set 5 (.int v))) → (∀ x, x ≠ a → h1 x = h x) → J p l e R s m args below meth c D A nL Q cells slots h1 (pc + 3) lo st) : J p l e R s m args below meth c D A nL Q cells slots h pc lo (.int v :: .ref a :: st) := j_putF E hc rfl 5 (by decide) u_X4 tyX4 tyX4_ok nmX4 (q_423 E.tb) rfl hin2 rfl rfl rfl rfl hl0 d (kk _ hup_eq (fun _ => hup_ne))
theorem gf_X4_35 (E : Cx p l s m args meth c cc nL RX4 D A) {a : Nat} {fs : List Value} {v : Value} (hc : h a = some (.inr (4, fs))) (hv : fs[1]? = some v) (d : decode cc pc = .ok (.getfield 35, 3)) (kk : J p l e R s m args below meth c D A nL Q cells slots h (pc + 3) lo (v :: st)) : J p l e R s m args below meth c D A nL Q cells slots h pc lo (.ref a :: st) := j_get E hc rfl 1 (by decide) u_X4 (q_415 E.tb) hv d kk
theorem pf_X4_35 (E : Cx p l s m args meth c cc nL RX4 D A) {a : Nat} {fs : List Value} {v : Nat} (hc : h a = some (.inr (4, fs))) (hl0 : 1 < fs.length) (hin2 : meth.name = "<init>") (d : decode cc pc = .ok (.putfield 35, 3)) (kk : ∀ h1 : AH, h1 a = some (.inr (4, fs.set 1 (.ref v))) → (∀ x, x ≠ a → h1 x = h x) → J p l e R s m args below meth c D A nL Q cells slots h1 (pc + 3) lo st) : J p l e R s m args below meth c D A nL Q cells slots h pc lo (.ref v :: .ref a :: st) := j_putF E hc rfl 1 (by decide) u_X4 tyX4 tyX4_ok nmX4 (q_415 E.tb) rfl hin2 rfl rfl rfl rfl hl0 d (kk _ hup_eq (fun _ => hup_ne))
theorem pfN_X4_35 (E : Cx p l s m args meth c cc nL RX4 D A) {a : Nat} {fs : List Value}  (hc : h a = some (.inr (4, fs))) (hl0 : 1 < fs.length) (hin2 : meth.name = "<init>") (d : decode cc pc = .ok (.putfield 35, 3)) (kk : ∀ h1 : AH, h1 a = some (.inr (4, fs.set 1 (.null))) → (∀ x, x ≠ a → h1 x = h x) → J p l e R s m args below meth c D A nL Q cells slots h1 (pc + 3) lo st) : J p l e R s m args below meth c D A nL Q cells slots h pc lo (.null :: .ref a :: st) := j_putF E hc rfl 1 (by decide) u_X4 tyX4 tyX4_ok nmX4 (q_415 E.tb) rfl hin2 rfl rfl rfl rfl hl0 d (kk _ hup_eq (fun _ => hup_ne))
theorem gf_X4_40 (E : Cx p l s m args meth c cc nL RX4 D A) {a : Nat} {fs : List Value} {v : Value} (hc : h a = some (.inr (0, fs))) (hv : fs[0]? = some v) (d : decode cc pc = .ok (.getfield 40, 3)) (kk : J p l e R s m args below meth c D A nL Q cells slots h (pc + 3) lo (v :: st)) : J p l e R s m args below meth c D A nL Q cells slots h pc lo (.ref a :: st) := j_get E hc rfl 0 (by decide) u_X0 (q_399 E.tb) hv d kk
theorem gf_X4_44 (E : Cx p l s m args meth c cc nL RX4 D A) {a : Nat} {fs : List Value} {v : Value} (hc : h a = some (.inr (0, fs))) (hv : fs[1]? = some v) (d : decode cc pc = .ok (.getfield 44, 3)) (kk : J p l e R s m args below meth c D A nL Q cells slots h (pc + 3) lo (v :: st)) : J p l e R s m args below meth c D A nL Q cells slots h pc lo (.ref a :: st) := j_get E hc rfl 1 (by decide) u_X0 (q_402 E.tb) hv d kk
theorem pf_X4_44 (E : Cx p l s m args meth c cc nL RX4 D A) {a : Nat} {fs : List Value} {v : Int32} (hc : h a = some (.inr (0, fs))) (hl0 : 1 < fs.length) (d : decode cc pc = .ok (.putfield 44, 3)) (kk : ∀ h1 : AH, h1 a = some (.inr (0, fs.set 1 (.int v))) → (∀ x, x ≠ a → h1 x = h x) → J p l e R s m args below meth c D A nL Q cells slots h1 (pc + 3) lo st) : J p l e R s m args below meth c D A nL Q cells slots h pc lo (.int v :: .ref a :: st) := j_put E hc rfl 1 (by decide) u_X0 tyX0 tyX0_ok nmX0 (q_402 E.tb) rfl rfl rfl rfl hl0 d (kk _ hup_eq (fun _ => hup_ne))
theorem gf_X5_9 (E : Cx p l s m args meth c cc nL RX5 D A) {a : Nat} {fs : List Value} {v : Value} (hc : h a = some (.inr (5, fs))) (hv : fs[0]? = some v) (d : decode cc pc = .ok (.getfield 9, 3)) (kk : J p l e R s m args below meth c D A nL Q cells slots h (pc + 3) lo (v :: st)) : J p l e R s m args below meth c D A nL Q cells slots h pc lo (.ref a :: st) := j_get E hc rfl 0 (by decide) u_X5 (q_595 E.tb) hv d kk
theorem pf_X5_9 (E : Cx p l s m args meth c cc nL RX5 D A) {a : Nat} {fs : List Value} {v : Nat} (hc : h a = some (.inr (5, fs))) (hl0 : 0 < fs.length) (hin2 : meth.name = "<init>") (d : decode cc pc = .ok (.putfield 9, 3)) (kk : ∀ h1 : AH, h1 a = some (.inr (5, fs.set 0 (.ref v))) → (∀ x, x ≠ a → h1 x = h x) → J p l e R s m args below meth c D A nL Q cells slots h1 (pc + 3) lo st) : J p l e R s m args below meth c D A nL Q cells slots h pc lo (.ref v :: .ref a :: st) := j_putF E hc rfl 0 (by decide) u_X5 tyX5 tyX5_ok nmX5 (q_595 E.tb) rfl hin2 rfl rfl rfl rfl hl0 d (kk _ hup_eq (fun _ => hup_ne))
theorem pfN_X5_9 (E : Cx p l s m args meth c cc nL RX5 D A) {a : Nat} {fs : List Value}  (hc : h a = some (.inr (5, fs))) (hl0 : 0 < fs.length) (hin2 : meth.name = "<init>") (d : decode cc pc = .ok (.putfield 9, 3)) (kk : ∀ h1 : AH, h1 a = some (.inr (5, fs.set 0 (.null))) → (∀ x, x ≠ a → h1 x = h x) → J p l e R s m args below meth c D A nL Q cells slots h1 (pc + 3) lo st) : J p l e R s m args below meth c D A nL Q cells slots h pc lo (.null :: .ref a :: st) := j_putF E hc rfl 0 (by decide) u_X5 tyX5 tyX5_ok nmX5 (q_595 E.tb) rfl hin2 rfl rfl rfl rfl hl0 d (kk _ hup_eq (fun _ => hup_ne))
theorem gf_X5_15 (E : Cx p l s m args meth c cc nL RX5 D A) {a : Nat} {fs : List Value} {v : Value} (hc : h a = some (.inr (5, fs))) (hv : fs[1]? = some v) (d : decode cc pc = .ok (.getfield 15, 3)) (kk : J p l e R s m args below meth c D A nL Q cells slots h (pc + 3) lo (v :: st)) : J p l e R s m args below meth c D A nL Q cells slots h pc lo (.ref a :: st) := j_get E hc rfl 1 (by decide) u_X5 (q_597 E.tb) hv d kk
theorem pf_X5_15 (E : Cx p l s m args meth c cc nL RX5 D A) {a : Nat} {fs : List Value} {v : Nat} (hc : h a = some (.inr (5, fs))) (hl0 : 1 < fs.length) (hin2 : meth.name = "<init>") (d : decode cc pc = .ok (.putfield 15, 3)) (kk : ∀ h1 : AH, h1 a = some (.inr (5, fs.set 1 (.ref v))) → (∀ x, x ≠ a → h1 x = h x) → J p l e R s m args below meth c D A nL Q cells slots h1 (pc + 3) lo st) : J p l e R s m args below meth c D A nL Q cells slots h pc lo (.ref v :: .ref a :: st) := j_putF E hc rfl 1 (by decide) u_X5 tyX5 tyX5_ok nmX5 (q_597 E.tb) rfl hin2 rfl rfl rfl rfl hl0 d (kk _ hup_eq (fun _ => hup_ne))
theorem pfN_X5_15 (E : Cx p l s m args meth c cc nL RX5 D A) {a : Nat} {fs : List Value}  (hc : h a = some (.inr (5, fs))) (hl0 : 1 < fs.length) (hin2 : meth.name = "<init>") (d : decode cc pc = .ok (.putfield 15, 3)) (kk : ∀ h1 : AH, h1 a = some (.inr (5, fs.set 1 (.null))) → (∀ x, x ≠ a → h1 x = h x) → J p l e R s m args below meth c D A nL Q cells slots h1 (pc + 3) lo st) : J p l e R s m args below meth c D A nL Q cells slots h pc lo (.null :: .ref a :: st) := j_putF E hc rfl 1 (by decide) u_X5 tyX5 tyX5_ok nmX5 (q_597 E.tb) rfl hin2 rfl rfl rfl rfl hl0 d (kk _ hup_eq (fun _ => hup_ne))
theorem gf_X5_19 (E : Cx p l s m args meth c cc nL RX5 D A) {a : Nat} {fs : List Value} {v : Value} (hc : h a = some (.inr (5, fs))) (hv : fs[2]? = some v) (d : decode cc pc = .ok (.getfield 19, 3)) (kk : J p l e R s m args below meth c D A nL Q cells slots h (pc + 3) lo (v :: st)) : J p l e R s m args below meth c D A nL Q cells slots h pc lo (.ref a :: st) := j_get E hc rfl 2 (by decide) u_X5 (q_599 E.tb) hv d kk
theorem pf_X5_19 (E : Cx p l s m args meth c cc nL RX5 D A) {a : Nat} {fs : List Value} {v : Int32} (hc : h a = some (.inr (5, fs))) (hl0 : 2 < fs.length) (hin2 : meth.name = "<init>") (d : decode cc pc = .ok (.putfield 19, 3)) (kk : ∀ h1 : AH, h1 a = some (.inr (5, fs.set 2 (.int v))) → (∀ x, x ≠ a → h1 x = h x) → J p l e R s m args below meth c D A nL Q cells slots h1 (pc + 3) lo st) : J p l e R s m args below meth c D A nL Q cells slots h pc lo (.int v :: .ref a :: st) := j_putF E hc rfl 2 (by decide) u_X5 tyX5 tyX5_ok nmX5 (q_599 E.tb) rfl hin2 rfl rfl rfl rfl hl0 d (kk _ hup_eq (fun _ => hup_ne))
theorem gf_X5_23 (E : Cx p l s m args meth c cc nL RX5 D A) {a : Nat} {fs : List Value} {v : Value} (hc : h a = some (.inr (5, fs))) (hv : fs[4]? = some v) (d : decode cc pc = .ok (.getfield 23, 3)) (kk : J p l e R s m args below meth c D A nL Q cells slots h (pc + 3) lo (v :: st)) : J p l e R s m args below meth c D A nL Q cells slots h pc lo (.ref a :: st) := j_get E hc rfl 4 (by decide) u_X5 (q_602 E.tb) hv d kk
theorem pf_X5_23 (E : Cx p l s m args meth c cc nL RX5 D A) {a : Nat} {fs : List Value} {v : Int32} (hc : h a = some (.inr (5, fs))) (hl0 : 4 < fs.length) (d : decode cc pc = .ok (.putfield 23, 3)) (kk : ∀ h1 : AH, h1 a = some (.inr (5, fs.set 4 (.int v))) → (∀ x, x ≠ a → h1 x = h x) → J p l e R s m args below meth c D A nL Q cells slots h1 (pc + 3) lo st) : J p l e R s m args below meth c D A nL Q cells slots h pc lo (.int v :: .ref a :: st) := j_put E hc rfl 4 (by decide) u_X5 tyX5 tyX5_ok nmX5 (q_602 E.tb) rfl rfl rfl rfl hl0 d (kk _ hup_eq (fun _ => hup_ne))
theorem gf_X5_32 (E : Cx p l s m args meth c cc nL RX5 D A) {a : Nat} {fs : List Value} {v : Value} (hc : h a = some (.inr (5, fs))) (hv : fs[3]? = some v) (d : decode cc pc = .ok (.getfield 32, 3)) (kk : J p l e R s m args below meth c D A nL Q cells slots h (pc + 3) lo (v :: st)) : J p l e R s m args below meth c D A nL Q cells slots h pc lo (.ref a :: st) := j_get E hc rfl 3 (by decide) u_X5 (q_601 E.tb) hv d kk
theorem pf_X5_32 (E : Cx p l s m args meth c cc nL RX5 D A) {a : Nat} {fs : List Value} {v : Nat} (hc : h a = some (.inr (5, fs))) (hl0 : 3 < fs.length) (hin2 : meth.name = "<init>") (d : decode cc pc = .ok (.putfield 32, 3)) (kk : ∀ h1 : AH, h1 a = some (.inr (5, fs.set 3 (.ref v))) → (∀ x, x ≠ a → h1 x = h x) → J p l e R s m args below meth c D A nL Q cells slots h1 (pc + 3) lo st) : J p l e R s m args below meth c D A nL Q cells slots h pc lo (.ref v :: .ref a :: st) := j_putF E hc rfl 3 (by decide) u_X5 tyX5 tyX5_ok nmX5 (q_601 E.tb) rfl hin2 rfl rfl rfl rfl hl0 d (kk _ hup_eq (fun _ => hup_ne))
theorem pfN_X5_32 (E : Cx p l s m args meth c cc nL RX5 D A) {a : Nat} {fs : List Value}  (hc : h a = some (.inr (5, fs))) (hl0 : 3 < fs.length) (hin2 : meth.name = "<init>") (d : decode cc pc = .ok (.putfield 32, 3)) (kk : ∀ h1 : AH, h1 a = some (.inr (5, fs.set 3 (.null))) → (∀ x, x ≠ a → h1 x = h x) → J p l e R s m args below meth c D A nL Q cells slots h1 (pc + 3) lo st) : J p l e R s m args below meth c D A nL Q cells slots h pc lo (.null :: .ref a :: st) := j_putF E hc rfl 3 (by decide) u_X5 tyX5 tyX5_ok nmX5 (q_601 E.tb) rfl hin2 rfl rfl rfl rfl hl0 d (kk _ hup_eq (fun _ => hup_ne))
theorem gf_X5_36 (E : Cx p l s m args meth c cc nL RX5 D A) {a : Nat} {fs : List Value} {v : Value} (hc : h a = some (.inr (5, fs))) (hv : fs[5]? = some v) (d : decode cc pc = .ok (.getfield 36, 3)) (kk : J p l e R s m args below meth c D A nL Q cells slots h (pc + 3) lo (v :: st)) : J p l e R s m args below meth c D A nL Q cells slots h pc lo (.ref a :: st) := j_get E hc rfl 5 (by decide) u_X5 (q_604 E.tb) hv d kk
theorem pf_X5_36 (E : Cx p l s m args meth c cc nL RX5 D A) {a : Nat} {fs : List Value} {v : Int32} (hc : h a = some (.inr (5, fs))) (hl0 : 5 < fs.length) (d : decode cc pc = .ok (.putfield 36, 3)) (kk : ∀ h1 : AH, h1 a = some (.inr (5, fs.set 5 (.int v))) → (∀ x, x ≠ a → h1 x = h x) → J p l e R s m args below meth c D A nL Q cells slots h1 (pc + 3) lo st) : J p l e R s m args below meth c D A nL Q cells slots h pc lo (.int v :: .ref a :: st) := j_put E hc rfl 5 (by decide) u_X5 tyX5 tyX5_ok nmX5 (q_604 E.tb) rfl rfl rfl rfl hl0 d (kk _ hup_eq (fun _ => hup_ne))
theorem gf_X5_39 (E : Cx p l s m args meth c cc nL RX5 D A) {a : Nat} {fs : List Value} {v : Value} (hc : h a = some (.inr (5, fs))) (hv : fs[6]? = some v) (d : decode cc pc = .ok (.getfield 39, 3)) (kk : J p l e R s m args below meth c D A nL Q cells slots h (pc + 3) lo (v :: st)) : J p l e R s m args below meth c D A nL Q cells slots h pc lo (.ref a :: st) := j_get E hc rfl 6 (by decide) u_X5 (q_606 E.tb) hv d kk
theorem pf_X5_39 (E : Cx p l s m args meth c cc nL RX5 D A) {a : Nat} {fs : List Value} {v : Int64} (hc : h a = some (.inr (5, fs))) (hl0 : 6 < fs.length) (d : decode cc pc = .ok (.putfield 39, 3)) (kk : ∀ h1 : AH, h1 a = some (.inr (5, fs.set 6 (.long v))) → (∀ x, x ≠ a → h1 x = h x) → J p l e R s m args below meth c D A nL Q cells slots h1 (pc + 3) lo st) : J p l e R s m args below meth c D A nL Q cells slots h pc lo (.long v :: .ref a :: st) := j_put E hc rfl 6 (by decide) u_X5 tyX5 tyX5_ok nmX5 (q_606 E.tb) rfl rfl rfl rfl hl0 d (kk _ hup_eq (fun _ => hup_ne))
theorem gf_X5_43 (E : Cx p l s m args meth c cc nL RX5 D A) {a : Nat} {fs : List Value} {v : Value} (hc : h a = some (.inr (5, fs))) (hv : fs[7]? = some v) (d : decode cc pc = .ok (.getfield 43, 3)) (kk : J p l e R s m args below meth c D A nL Q cells slots h (pc + 3) lo (v :: st)) : J p l e R s m args below meth c D A nL Q cells slots h pc lo (.ref a :: st) := j_get E hc rfl 7 (by decide) u_X5 (q_608 E.tb) hv d kk
theorem pf_X5_43 (E : Cx p l s m args meth c cc nL RX5 D A) {a : Nat} {fs : List Value} {v : Int32} (hc : h a = some (.inr (5, fs))) (hl0 : 7 < fs.length) (d : decode cc pc = .ok (.putfield 43, 3)) (kk : ∀ h1 : AH, h1 a = some (.inr (5, fs.set 7 (.int v))) → (∀ x, x ≠ a → h1 x = h x) → J p l e R s m args below meth c D A nL Q cells slots h1 (pc + 3) lo st) : J p l e R s m args below meth c D A nL Q cells slots h pc lo (.int v :: .ref a :: st) := j_put E hc rfl 7 (by decide) u_X5 tyX5 tyX5_ok nmX5 (q_608 E.tb) rfl rfl rfl rfl hl0 d (kk _ hup_eq (fun _ => hup_ne))
theorem gf_X6_7 (E : Cx p l s m args meth c cc nL RX6 D A) {a : Nat} {fs : List Value} {v : Value} (hc : h a = some (.inr (6, fs))) (hv : fs[0]? = some v) (d : decode cc pc = .ok (.getfield 7, 3)) (kk : J p l e R s m args below meth c D A nL Q cells slots h (pc + 3) lo (v :: st)) : J p l e R s m args below meth c D A nL Q cells slots h pc lo (.ref a :: st) := j_get E hc rfl 0 (by decide) u_X6 (q_235 E.tb) hv d kk
theorem pf_X6_7 (E : Cx p l s m args meth c cc nL RX6 D A) {a : Nat} {fs : List Value} {v : Int32} (hc : h a = some (.inr (6, fs))) (hl0 : 0 < fs.length) (hin2 : meth.name = "<init>") (d : decode cc pc = .ok (.putfield 7, 3)) (kk : ∀ h1 : AH, h1 a = some (.inr (6, fs.set 0 (.int v))) → (∀ x, x ≠ a → h1 x = h x) → J p l e R s m args below meth c D A nL Q cells slots h1 (pc + 3) lo st) : J p l e R s m args below meth c D A nL Q cells slots h pc lo (.int v :: .ref a :: st) := j_putF E hc rfl 0 (by decide) u_X6 tyX6 tyX6_ok nmX6 (q_235 E.tb) rfl hin2 rfl rfl rfl rfl hl0 d (kk _ hup_eq (fun _ => hup_ne))
theorem gf_X8_9 (E : Cx p l s m args meth c cc nL RX8 D A) {a : Nat} {fs : List Value} {v : Value} (hc : h a = some (.inr (8, fs))) (hv : fs[0]? = some v) (d : decode cc pc = .ok (.getfield 9, 3)) (kk : J p l e R s m args below meth c D A nL Q cells slots h (pc + 3) lo (v :: st)) : J p l e R s m args below meth c D A nL Q cells slots h pc lo (.ref a :: st) := j_get E hc rfl 0 (by decide) u_X8 (q_763 E.tb) hv d kk
theorem pf_X8_9 (E : Cx p l s m args meth c cc nL RX8 D A) {a : Nat} {fs : List Value} {v : Nat} (hc : h a = some (.inr (8, fs))) (hl0 : 0 < fs.length) (hin2 : meth.name = "<init>") (d : decode cc pc = .ok (.putfield 9, 3)) (kk : ∀ h1 : AH, h1 a = some (.inr (8, fs.set 0 (.ref v))) → (∀ x, x ≠ a → h1 x = h x) → J p l e R s m args below meth c D A nL Q cells slots h1 (pc + 3) lo st) : J p l e R s m args below meth c D A nL Q cells slots h pc lo (.ref v :: .ref a :: st) := j_putF E hc rfl 0 (by decide) u_X8 tyX8 tyX8_ok nmX8 (q_763 E.tb) rfl hin2 rfl rfl rfl rfl hl0 d (kk _ hup_eq (fun _ => hup_ne))
theorem pfN_X8_9 (E : Cx p l s m args meth c cc nL RX8 D A) {a : Nat} {fs : List Value}  (hc : h a = some (.inr (8, fs))) (hl0 : 0 < fs.length) (hin2 : meth.name = "<init>") (d : decode cc pc = .ok (.putfield 9, 3)) (kk : ∀ h1 : AH, h1 a = some (.inr (8, fs.set 0 (.null))) → (∀ x, x ≠ a → h1 x = h x) → J p l e R s m args below meth c D A nL Q cells slots h1 (pc + 3) lo st) : J p l e R s m args below meth c D A nL Q cells slots h pc lo (.null :: .ref a :: st) := j_putF E hc rfl 0 (by decide) u_X8 tyX8 tyX8_ok nmX8 (q_763 E.tb) rfl hin2 rfl rfl rfl rfl hl0 d (kk _ hup_eq (fun _ => hup_ne))
theorem gf_X8_13 (E : Cx p l s m args meth c cc nL RX8 D A) {a : Nat} {fs : List Value} {v : Value} (hc : h a = some (.inr (8, fs))) (hv : fs[1]? = some v) (d : decode cc pc = .ok (.getfield 13, 3)) (kk : J p l e R s m args below meth c D A nL Q cells slots h (pc + 3) lo (v :: st)) : J p l e R s m args below meth c D A nL Q cells slots h pc lo (.ref a :: st) := j_get E hc rfl 1 (by decide) u_X8 (q_764 E.tb) hv d kk
theorem pf_X8_13 (E : Cx p l s m args meth c cc nL RX8 D A) {a : Nat} {fs : List Value} {v : Nat} (hc : h a = some (.inr (8, fs))) (hl0 : 1 < fs.length) (hin2 : meth.name = "<init>") (d : decode cc pc = .ok (.putfield 13, 3)) (kk : ∀ h1 : AH, h1 a = some (.inr (8, fs.set 1 (.ref v))) → (∀ x, x ≠ a → h1 x = h x) → J p l e R s m args below meth c D A nL Q cells slots h1 (pc + 3) lo st) : J p l e R s m args below meth c D A nL Q cells slots h pc lo (.ref v :: .ref a :: st) := j_putF E hc rfl 1 (by decide) u_X8 tyX8 tyX8_ok nmX8 (q_764 E.tb) rfl hin2 rfl rfl rfl rfl hl0 d (kk _ hup_eq (fun _ => hup_ne))
theorem pfN_X8_13 (E : Cx p l s m args meth c cc nL RX8 D A) {a : Nat} {fs : List Value}  (hc : h a = some (.inr (8, fs))) (hl0 : 1 < fs.length) (hin2 : meth.name = "<init>") (d : decode cc pc = .ok (.putfield 13, 3)) (kk : ∀ h1 : AH, h1 a = some (.inr (8, fs.set 1 (.null))) → (∀ x, x ≠ a → h1 x = h x) → J p l e R s m args below meth c D A nL Q cells slots h1 (pc + 3) lo st) : J p l e R s m args below meth c D A nL Q cells slots h pc lo (.null :: .ref a :: st) := j_putF E hc rfl 1 (by decide) u_X8 tyX8 tyX8_ok nmX8 (q_764 E.tb) rfl hin2 rfl rfl rfl rfl hl0 d (kk _ hup_eq (fun _ => hup_ne))
theorem gf_X8_16 (E : Cx p l s m args meth c cc nL RX8 D A) {a : Nat} {fs : List Value} {v : Value} (hc : h a = some (.inr (8, fs))) (hv : fs[3]? = some v) (d : decode cc pc = .ok (.getfield 16, 3)) (kk : J p l e R s m args below meth c D A nL Q cells slots h (pc + 3) lo (v :: st)) : J p l e R s m args below meth c D A nL Q cells slots h pc lo (.ref a :: st) := j_get E hc rfl 3 (by decide) u_X8 (q_766 E.tb) hv d kk
theorem pf_X8_16 (E : Cx p l s m args meth c cc nL RX8 D A) {a : Nat} {fs : List Value} {v : Nat} (hc : h a = some (.inr (8, fs))) (hl0 : 3 < fs.length) (hin2 : meth.name = "<init>") (d : decode cc pc = .ok (.putfield 16, 3)) (kk : ∀ h1 : AH, h1 a = some (.inr (8, fs.set 3 (.ref v))) → (∀ x, x ≠ a → h1 x = h x) → J p l e R s m args below meth c D A nL Q cells slots h1 (pc + 3) lo st) : J p l e R s m args below meth c D A nL Q cells slots h pc lo (.ref v :: .ref a :: st) := j_putF E hc rfl 3 (by decide) u_X8 tyX8 tyX8_ok nmX8 (q_766 E.tb) rfl hin2 rfl rfl rfl rfl hl0 d (kk _ hup_eq (fun _ => hup_ne))
theorem pfN_X8_16 (E : Cx p l s m args meth c cc nL RX8 D A) {a : Nat} {fs : List Value}  (hc : h a = some (.inr (8, fs))) (hl0 : 3 < fs.length) (hin2 : meth.name = "<init>") (d : decode cc pc = .ok (.putfield 16, 3)) (kk : ∀ h1 : AH, h1 a = some (.inr (8, fs.set 3 (.null))) → (∀ x, x ≠ a → h1 x = h x) → J p l e R s m args below meth c D A nL Q cells slots h1 (pc + 3) lo st) : J p l e R s m args below meth c D A nL Q cells slots h pc lo (.null :: .ref a :: st) := j_putF E hc rfl 3 (by decide) u_X8 tyX8 tyX8_ok nmX8 (q_766 E.tb) rfl hin2 rfl rfl rfl rfl hl0 d (kk _ hup_eq (fun _ => hup_ne))
theorem gf_X8_19 (E : Cx p l s m args meth c cc nL RX8 D A) {a : Nat} {fs : List Value} {v : Value} (hc : h a = some (.inr (8, fs))) (hv : fs[4]? = some v) (d : decode cc pc = .ok (.getfield 19, 3)) (kk : J p l e R s m args below meth c D A nL Q cells slots h (pc + 3) lo (v :: st)) : J p l e R s m args below meth c D A nL Q cells slots h pc lo (.ref a :: st) := j_get E hc rfl 4 (by decide) u_X8 (q_767 E.tb) hv d kk
theorem pf_X8_19 (E : Cx p l s m args meth c cc nL RX8 D A) {a : Nat} {fs : List Value} {v : Nat} (hc : h a = some (.inr (8, fs))) (hl0 : 4 < fs.length) (hin2 : meth.name = "<init>") (d : decode cc pc = .ok (.putfield 19, 3)) (kk : ∀ h1 : AH, h1 a = some (.inr (8, fs.set 4 (.ref v))) → (∀ x, x ≠ a → h1 x = h x) → J p l e R s m args below meth c D A nL Q cells slots h1 (pc + 3) lo st) : J p l e R s m args below meth c D A nL Q cells slots h pc lo (.ref v :: .ref a :: st) := j_putF E hc rfl 4 (by decide) u_X8 tyX8 tyX8_ok nmX8 (q_767 E.tb) rfl hin2 rfl rfl rfl rfl hl0 d (kk _ hup_eq (fun _ => hup_ne))
theorem pfN_X8_19 (E : Cx p l s m args meth c cc nL RX8 D A) {a : Nat} {fs : List Value}  (hc : h a = some (.inr (8, fs))) (hl0 : 4 < fs.length) (hin2 : meth.name = "<init>") (d : decode cc pc = .ok (.putfield 19, 3)) (kk : ∀ h1 : AH, h1 a = some (.inr (8, fs.set 4 (.null))) → (∀ x, x ≠ a → h1 x = h x) → J p l e R s m args below meth c D A nL Q cells slots h1 (pc + 3) lo st) : J p l e R s m args below meth c D A nL Q cells slots h pc lo (.null :: .ref a :: st) := j_putF E hc rfl 4 (by decide) u_X8 tyX8 tyX8_ok nmX8 (q_767 E.tb) rfl hin2 rfl rfl rfl rfl hl0 d (kk _ hup_eq (fun _ => hup_ne))
theorem gf_X8_22 (E : Cx p l s m args meth c cc nL RX8 D A) {a : Nat} {fs : List Value} {v : Value} (hc : h a = some (.inr (8, fs))) (hv : fs[5]? = some v) (d : decode cc pc = .ok (.getfield 22, 3)) (kk : J p l e R s m args below meth c D A nL Q cells slots h (pc + 3) lo (v :: st)) : J p l e R s m args below meth c D A nL Q cells slots h pc lo (.ref a :: st) := j_get E hc rfl 5 (by decide) u_X8 (q_768 E.tb) hv d kk
theorem pf_X8_22 (E : Cx p l s m args meth c cc nL RX8 D A) {a : Nat} {fs : List Value} {v : Nat} (hc : h a = some (.inr (8, fs))) (hl0 : 5 < fs.length) (hin2 : meth.name = "<init>") (d : decode cc pc = .ok (.putfield 22, 3)) (kk : ∀ h1 : AH, h1 a = some (.inr (8, fs.set 5 (.ref v))) → (∀ x, x ≠ a → h1 x = h x) → J p l e R s m args below meth c D A nL Q cells slots h1 (pc + 3) lo st) : J p l e R s m args below meth c D A nL Q cells slots h pc lo (.ref v :: .ref a :: st) := j_putF E hc rfl 5 (by decide) u_X8 tyX8 tyX8_ok nmX8 (q_768 E.tb) rfl hin2 rfl rfl rfl rfl hl0 d (kk _ hup_eq (fun _ => hup_ne))
theorem pfN_X8_22 (E : Cx p l s m args meth c cc nL RX8 D A) {a : Nat} {fs : List Value}  (hc : h a = some (.inr (8, fs))) (hl0 : 5 < fs.length) (hin2 : meth.name = "<init>") (d : decode cc pc = .ok (.putfield 22, 3)) (kk : ∀ h1 : AH, h1 a = some (.inr (8, fs.set 5 (.null))) → (∀ x, x ≠ a → h1 x = h x) → J p l e R s m args below meth c D A nL Q cells slots h1 (pc + 3) lo st) : J p l e R s m args below meth c D A nL Q cells slots h pc lo (.null :: .ref a :: st) := j_putF E hc rfl 5 (by decide) u_X8 tyX8 tyX8_ok nmX8 (q_768 E.tb) rfl hin2 rfl rfl rfl rfl hl0 d (kk _ hup_eq (fun _ => hup_ne))
theorem gf_X8_25 (E : Cx p l s m args meth c cc nL RX8 D A) {a : Nat} {fs : List Value} {v : Value} (hc : h a = some (.inr (8, fs))) (hv : fs[7]? = some v) (d : decode cc pc = .ok (.getfield 25, 3)) (kk : J p l e R s m args below meth c D A nL Q cells slots h (pc + 3) lo (v :: st)) : J p l e R s m args below meth c D A nL Q cells slots h pc lo (.ref a :: st) := j_get E hc rfl 7 (by decide) u_X8 (q_770 E.tb) hv d kk
theorem pf_X8_25 (E : Cx p l s m args meth c cc nL RX8 D A) {a : Nat} {fs : List Value} {v : Nat} (hc : h a = some (.inr (8, fs))) (hl0 : 7 < fs.length) (hin2 : meth.name = "<init>") (d : decode cc pc = .ok (.putfield 25, 3)) (kk : ∀ h1 : AH, h1 a = some (.inr (8, fs.set 7 (.ref v))) → (∀ x, x ≠ a → h1 x = h x) → J p l e R s m args below meth c D A nL Q cells slots h1 (pc + 3) lo st) : J p l e R s m args below meth c D A nL Q cells slots h pc lo (.ref v :: .ref a :: st) := j_putF E hc rfl 7 (by decide) u_X8 tyX8 tyX8_ok nmX8 (q_770 E.tb) rfl hin2 rfl rfl rfl rfl hl0 d (kk _ hup_eq (fun _ => hup_ne))
theorem pfN_X8_25 (E : Cx p l s m args meth c cc nL RX8 D A) {a : Nat} {fs : List Value}  (hc : h a = some (.inr (8, fs))) (hl0 : 7 < fs.length) (hin2 : meth.name = "<init>") (d : decode cc pc = .ok (.putfield 25, 3)) (kk : ∀ h1 : AH, h1 a = some (.inr (8, fs.set 7 (.null))) → (∀ x, x ≠ a → h1 x = h x) → J p l e R s m args below meth c D A nL Q cells slots h1 (pc + 3) lo st) : J p l e R s m args below meth c D A nL Q cells slots h pc lo (.null :: .ref a :: st) := j_putF E hc rfl 7 (by decide) u_X8 tyX8 tyX8_ok nmX8 (q_770 E.tb) rfl hin2 rfl rfl rfl rfl hl0 d (kk _ hup_eq (fun _ => hup_ne))
theorem gf_X8_28 (E : Cx p l s m args meth c cc nL RX8 D A) {a : Nat} {fs : List Value} {v : Value} (hc : h a = some (.inr (8, fs))) (hv : fs[8]? = some v) (d : decode cc pc = .ok (.getfield 28, 3)) (kk : J p l e R s m args below meth c D A nL Q cells slots h (pc + 3) lo (v :: st)) : J p l e R s m args below meth c D A nL Q cells slots h pc lo (.ref a :: st) := j_get E hc rfl 8 (by decide) u_X8 (q_771 E.tb) hv d kk
theorem pf_X8_28 (E : Cx p l s m args meth c cc nL RX8 D A) {a : Nat} {fs : List Value} {v : Nat} (hc : h a = some (.inr (8, fs))) (hl0 : 8 < fs.length) (hin2 : meth.name = "<init>") (d : decode cc pc = .ok (.putfield 28, 3)) (kk : ∀ h1 : AH, h1 a = some (.inr (8, fs.set 8 (.ref v))) → (∀ x, x ≠ a → h1 x = h x) → J p l e R s m args below meth c D A nL Q cells slots h1 (pc + 3) lo st) : J p l e R s m args below meth c D A nL Q cells slots h pc lo (.ref v :: .ref a :: st) := j_putF E hc rfl 8 (by decide) u_X8 tyX8 tyX8_ok nmX8 (q_771 E.tb) rfl hin2 rfl rfl rfl rfl hl0 d (kk _ hup_eq (fun _ => hup_ne))
theorem pfN_X8_28 (E : Cx p l s m args meth c cc nL RX8 D A) {a : Nat} {fs : List Value}  (hc : h a = some (.inr (8, fs))) (hl0 : 8 < fs.length) (hin2 : meth.name = "<init>") (d : decode cc pc = .ok (.putfield 28, 3)) (kk : ∀ h1 : AH, h1 a = some (.inr (8, fs.set 8 (.null))) → (∀ x, x ≠ a → h1 x = h x) → J p l e R s m args below meth c D A nL Q cells slots h1 (pc + 3) lo st) : J p l e R s m args below meth c D A nL Q cells slots h pc lo (.null :: .ref a :: st) := j_putF E hc rfl 8 (by decide) u_X8 tyX8 tyX8_ok nmX8 (q_771 E.tb) rfl hin2 rfl rfl rfl rfl hl0 d (kk _ hup_eq (fun _ => hup_ne))
theorem gf_X8_31 (E : Cx p l s m args meth c cc nL RX8 D A) {a : Nat} {fs : List Value} {v : Value} (hc : h a = some (.inr (8, fs))) (hv : fs[9]? = some v) (d : decode cc pc = .ok (.getfield 31, 3)) (kk : J p l e R s m args below meth c D A nL Q cells slots h (pc + 3) lo (v :: st)) : J p l e R s m args below meth c D A nL Q cells slots h pc lo (.ref a :: st) := j_get E hc rfl 9 (by decide) u_X8 (q_772 E.tb) hv d kk
theorem pf_X8_31 (E : Cx p l s m args meth c cc nL RX8 D A) {a : Nat} {fs : List Value} {v : Nat} (hc : h a = some (.inr (8, fs))) (hl0 : 9 < fs.length) (hin2 : meth.name = "<init>") (d : decode cc pc = .ok (.putfield 31, 3)) (kk : ∀ h1 : AH, h1 a = some (.inr (8, fs.set 9 (.ref v))) → (∀ x, x ≠ a → h1 x = h x) → J p l e R s m args below meth c D A nL Q cells slots h1 (pc + 3) lo st) : J p l e R s m args below meth c D A nL Q cells slots h pc lo (.ref v :: .ref a :: st) := j_putF E hc rfl 9 (by decide) u_X8 tyX8 tyX8_ok nmX8 (q_772 E.tb) rfl hin2 rfl rfl rfl rfl hl0 d (kk _ hup_eq (fun _ => hup_ne))
theorem pfN_X8_31 (E : Cx p l s m args meth c cc nL RX8 D A) {a : Nat} {fs : List Value}  (hc : h a = some (.inr (8, fs))) (hl0 : 9 < fs.length) (hin2 : meth.name = "<init>") (d : decode cc pc = .ok (.putfield 31, 3)) (kk : ∀ h1 : AH, h1 a = some (.inr (8, fs.set 9 (.null))) → (∀ x, x ≠ a → h1 x = h x) → J p l e R s m args below meth c D A nL Q cells slots h1 (pc + 3) lo st) : J p l e R s m args below meth c D A nL Q cells slots h pc lo (.null :: .ref a :: st) := j_putF E hc rfl 9 (by decide) u_X8 tyX8 tyX8_ok nmX8 (q_772 E.tb) rfl hin2 rfl rfl rfl rfl hl0 d (kk _ hup_eq (fun _ => hup_ne))
theorem gf_X8_34 (E : Cx p l s m args meth c cc nL RX8 D A) {a : Nat} {fs : List Value} {v : Value} (hc : h a = some (.inr (8, fs))) (hv : fs[10]? = some v) (d : decode cc pc = .ok (.getfield 34, 3)) (kk : J p l e R s m args below meth c D A nL Q cells slots h (pc + 3) lo (v :: st)) : J p l e R s m args below meth c D A nL Q cells slots h pc lo (.ref a :: st) := j_get E hc rfl 10 (by decide) u_X8 (q_773 E.tb) hv d kk
theorem pf_X8_34 (E : Cx p l s m args meth c cc nL RX8 D A) {a : Nat} {fs : List Value} {v : Nat} (hc : h a = some (.inr (8, fs))) (hl0 : 10 < fs.length) (hin2 : meth.name = "<init>") (d : decode cc pc = .ok (.putfield 34, 3)) (kk : ∀ h1 : AH, h1 a = some (.inr (8, fs.set 10 (.ref v))) → (∀ x, x ≠ a → h1 x = h x) → J p l e R s m args below meth c D A nL Q cells slots h1 (pc + 3) lo st) : J p l e R s m args below meth c D A nL Q cells slots h pc lo (.ref v :: .ref a :: st) := j_putF E hc rfl 10 (by decide) u_X8 tyX8 tyX8_ok nmX8 (q_773 E.tb) rfl hin2 rfl rfl rfl rfl hl0 d (kk _ hup_eq (fun _ => hup_ne))
theorem pfN_X8_34 (E : Cx p l s m args meth c cc nL RX8 D A) {a : Nat} {fs : List Value}  (hc : h a = some (.inr (8, fs))) (hl0 : 10 < fs.length) (hin2 : meth.name = "<init>") (d : decode cc pc = .ok (.putfield 34, 3)) (kk : ∀ h1 : AH, h1 a = some (.inr (8, fs.set 10 (.null))) → (∀ x, x ≠ a → h1 x = h x) → J p l e R s m args below meth c D A nL Q cells slots h1 (pc + 3) lo st) : J p l e R s m args below meth c D A nL Q cells slots h pc lo (.null :: .ref a :: st) := j_putF E hc rfl 10 (by decide) u_X8 tyX8 tyX8_ok nmX8 (q_773 E.tb) rfl hin2 rfl rfl rfl rfl hl0 d (kk _ hup_eq (fun _ => hup_ne))
theorem gf_X8_37 (E : Cx p l s m args meth c cc nL RX8 D A) {a : Nat} {fs : List Value} {v : Value} (hc : h a = some (.inr (8, fs))) (hv : fs[11]? = some v) (d : decode cc pc = .ok (.getfield 37, 3)) (kk : J p l e R s m args below meth c D A nL Q cells slots h (pc + 3) lo (v :: st)) : J p l e R s m args below meth c D A nL Q cells slots h pc lo (.ref a :: st) := j_get E hc rfl 11 (by decide) u_X8 (q_774 E.tb) hv d kk
theorem pf_X8_37 (E : Cx p l s m args meth c cc nL RX8 D A) {a : Nat} {fs : List Value} {v : Nat} (hc : h a = some (.inr (8, fs))) (hl0 : 11 < fs.length) (hin2 : meth.name = "<init>") (d : decode cc pc = .ok (.putfield 37, 3)) (kk : ∀ h1 : AH, h1 a = some (.inr (8, fs.set 11 (.ref v))) → (∀ x, x ≠ a → h1 x = h x) → J p l e R s m args below meth c D A nL Q cells slots h1 (pc + 3) lo st) : J p l e R s m args below meth c D A nL Q cells slots h pc lo (.ref v :: .ref a :: st) := j_putF E hc rfl 11 (by decide) u_X8 tyX8 tyX8_ok nmX8 (q_774 E.tb) rfl hin2 rfl rfl rfl rfl hl0 d (kk _ hup_eq (fun _ => hup_ne))
theorem pfN_X8_37 (E : Cx p l s m args meth c cc nL RX8 D A) {a : Nat} {fs : List Value}  (hc : h a = some (.inr (8, fs))) (hl0 : 11 < fs.length) (hin2 : meth.name = "<init>") (d : decode cc pc = .ok (.putfield 37, 3)) (kk : ∀ h1 : AH, h1 a = some (.inr (8, fs.set 11 (.null))) → (∀ x, x ≠ a → h1 x = h x) → J p l e R s m args below meth c D A nL Q cells slots h1 (pc + 3) lo st) : J p l e R s m args below meth c D A nL Q cells slots h pc lo (.null :: .ref a :: st) := j_putF E hc rfl 11 (by decide) u_X8 tyX8 tyX8_ok nmX8 (q_774 E.tb) rfl hin2 rfl rfl rfl rfl hl0 d (kk _ hup_eq (fun _ => hup_ne))
theorem gf_X8_42 (E : Cx p l s m args meth c cc nL RX8 D A) {a : Nat} {fs : List Value} {v : Value} (hc : h a = some (.inr (8, fs))) (hv : fs[12]? = some v) (d : decode cc pc = .ok (.getfield 42, 3)) (kk : J p l e R s m args below meth c D A nL Q cells slots h (pc + 3) lo (v :: st)) : J p l e R s m args below meth c D A nL Q cells slots h pc lo (.ref a :: st) := j_get E hc rfl 12 (by decide) u_X8 (q_775 E.tb) hv d kk
theorem pf_X8_42 (E : Cx p l s m args meth c cc nL RX8 D A) {a : Nat} {fs : List Value} {v : Nat} (hc : h a = some (.inr (8, fs))) (hl0 : 12 < fs.length) (hin2 : meth.name = "<init>") (d : decode cc pc = .ok (.putfield 42, 3)) (kk : ∀ h1 : AH, h1 a = some (.inr (8, fs.set 12 (.ref v))) → (∀ x, x ≠ a → h1 x = h x) → J p l e R s m args below meth c D A nL Q cells slots h1 (pc + 3) lo st) : J p l e R s m args below meth c D A nL Q cells slots h pc lo (.ref v :: .ref a :: st) := j_putF E hc rfl 12 (by decide) u_X8 tyX8 tyX8_ok nmX8 (q_775 E.tb) rfl hin2 rfl rfl rfl rfl hl0 d (kk _ hup_eq (fun _ => hup_ne))
theorem pfN_X8_42 (E : Cx p l s m args meth c cc nL RX8 D A) {a : Nat} {fs : List Value}  (hc : h a = some (.inr (8, fs))) (hl0 : 12 < fs.length) (hin2 : meth.name = "<init>") (d : decode cc pc = .ok (.putfield 42, 3)) (kk : ∀ h1 : AH, h1 a = some (.inr (8, fs.set 12 (.null))) → (∀ x, x ≠ a → h1 x = h x) → J p l e R s m args below meth c D A nL Q cells slots h1 (pc + 3) lo st) : J p l e R s m args below meth c D A nL Q cells slots h pc lo (.null :: .ref a :: st) := j_putF E hc rfl 12 (by decide) u_X8 tyX8 tyX8_ok nmX8 (q_775 E.tb) rfl hin2 rfl rfl rfl rfl hl0 d (kk _ hup_eq (fun _ => hup_ne))
theorem gf_X8_47 (E : Cx p l s m args meth c cc nL RX8 D A) {a : Nat} {fs : List Value} {v : Value} (hc : h a = some (.inr (8, fs))) (hv : fs[13]? = some v) (d : decode cc pc = .ok (.getfield 47, 3)) (kk : J p l e R s m args below meth c D A nL Q cells slots h (pc + 3) lo (v :: st)) : J p l e R s m args below meth c D A nL Q cells slots h pc lo (.ref a :: st) := j_get E hc rfl 13 (by decide) u_X8 (q_776 E.tb) hv d kk
theorem pf_X8_47 (E : Cx p l s m args meth c cc nL RX8 D A) {a : Nat} {fs : List Value} {v : Nat} (hc : h a = some (.inr (8, fs))) (hl0 : 13 < fs.length) (hin2 : meth.name = "<init>") (d : decode cc pc = .ok (.putfield 47, 3)) (kk : ∀ h1 : AH, h1 a = some (.inr (8, fs.set 13 (.ref v))) → (∀ x, x ≠ a → h1 x = h x) → J p l e R s m args below meth c D A nL Q cells slots h1 (pc + 3) lo st) : J p l e R s m args below meth c D A nL Q cells slots h pc lo (.ref v :: .ref a :: st) := j_putF E hc rfl 13 (by decide) u_X8 tyX8 tyX8_ok nmX8 (q_776 E.tb) rfl hin2 rfl rfl rfl rfl hl0 d (kk _ hup_eq (fun _ => hup_ne))
theorem pfN_X8_47 (E : Cx p l s m args meth c cc nL RX8 D A) {a : Nat} {fs : List Value}  (hc : h a = some (.inr (8, fs))) (hl0 : 13 < fs.length) (hin2 : meth.name = "<init>") (d : decode cc pc = .ok (.putfield 47, 3)) (kk : ∀ h1 : AH, h1 a = some (.inr (8, fs.set 13 (.null))) → (∀ x, x ≠ a → h1 x = h x) → J p l e R s m args below meth c D A nL Q cells slots h1 (pc + 3) lo st) : J p l e R s m args below meth c D A nL Q cells slots h pc lo (.null :: .ref a :: st) := j_putF E hc rfl 13 (by decide) u_X8 tyX8 tyX8_ok nmX8 (q_776 E.tb) rfl hin2 rfl rfl rfl rfl hl0 d (kk _ hup_eq (fun _ => hup_ne))
theorem gf_X8_50 (E : Cx p l s m args meth c cc nL RX8 D A) {a : Nat} {fs : List Value} {v : Value} (hc : h a = some (.inr (8, fs))) (hv : fs[14]? = some v) (d : decode cc pc = .ok (.getfield 50, 3)) (kk : J p l e R s m args below meth c D A nL Q cells slots h (pc + 3) lo (v :: st)) : J p l e R s m args below meth c D A nL Q cells slots h pc lo (.ref a :: st) := j_get E hc rfl 14 (by decide) u_X8 (q_777 E.tb) hv d kk
theorem pf_X8_50 (E : Cx p l s m args meth c cc nL RX8 D A) {a : Nat} {fs : List Value} {v : Nat} (hc : h a = some (.inr (8, fs))) (hl0 : 14 < fs.length) (hin2 : meth.name = "<init>") (d : decode cc pc = .ok (.putfield 50, 3)) (kk : ∀ h1 : AH, h1 a = some (.inr (8, fs.set 14 (.ref v))) → (∀ x, x ≠ a → h1 x = h x) → J p l e R s m args below meth c D A nL Q cells slots h1 (pc + 3) lo st) : J p l e R s m args below meth c D A nL Q cells slots h pc lo (.ref v :: .ref a :: st) := j_putF E hc rfl 14 (by decide) u_X8 tyX8 tyX8_ok nmX8 (q_777 E.tb) rfl hin2 rfl rfl rfl rfl hl0 d (kk _ hup_eq (fun _ => hup_ne))
theorem pfN_X8_50 (E : Cx p l s m args meth c cc nL RX8 D A) {a : Nat} {fs : List Value}  (hc : h a = some (.inr (8, fs))) (hl0 : 14 < fs.length) (hin2 : meth.name = "<init>") (d : decode cc pc = .ok (.putfield 50, 3)) (kk : ∀ h1 : AH, h1 a = some (.inr (8, fs.set 14 (.null))) → (∀ x, x ≠ a → h1 x = h x) → J p l e R s m args below meth c D A nL Q cells slots h1 (pc + 3) lo st) : J p l e R s m args below meth c D A nL Q cells slots h pc lo (.null :: .ref a :: st) := j_putF E hc rfl 14 (by decide) u_X8 tyX8 tyX8_ok nmX8 (q_777 E.tb) rfl hin2 rfl rfl rfl rfl hl0 d (kk _ hup_eq (fun _ => hup_ne))
theorem gf_X8_53 (E : Cx p l s m args meth c cc nL RX8 D A) {a : Nat} {fs : List Value} {v : Value} (hc : h a = some (.inr (8, fs))) (hv : fs[16]? = some v) (d : decode cc pc = .ok (.getfield 53, 3)) (kk : J p l e R s m args below meth c D A nL Q cells slots h (pc + 3) lo (v :: st)) : J p l e R s m args below meth c D A nL Q cells slots h pc lo (.ref a :: st) := j_get E hc rfl 16 (by decide) u_X8 (q_779 E.tb) hv d kk
theorem pf_X8_53 (E : Cx p l s m args meth c cc nL RX8 D A) {a : Nat} {fs : List Value} {v : Nat} (hc : h a = some (.inr (8, fs))) (hl0 : 16 < fs.length) (hin2 : meth.name = "<init>") (d : decode cc pc = .ok (.putfield 53, 3)) (kk : ∀ h1 : AH, h1 a = some (.inr (8, fs.set 16 (.ref v))) → (∀ x, x ≠ a → h1 x = h x) → J p l e R s m args below meth c D A nL Q cells slots h1 (pc + 3) lo st) : J p l e R s m args below meth c D A nL Q cells slots h pc lo (.ref v :: .ref a :: st) := j_putF E hc rfl 16 (by decide) u_X8 tyX8 tyX8_ok nmX8 (q_779 E.tb) rfl hin2 rfl rfl rfl rfl hl0 d (kk _ hup_eq (fun _ => hup_ne))
theorem pfN_X8_53 (E : Cx p l s m args meth c cc nL RX8 D A) {a : Nat} {fs : List Value}  (hc : h a = some (.inr (8, fs))) (hl0 : 16 < fs.length) (hin2 : meth.name = "<init>") (d : decode cc pc = .ok (.putfield 53, 3)) (kk : ∀ h1 : AH, h1 a = some (.inr (8, fs.set 16 (.null))) → (∀ x, x ≠ a → h1 x = h x) → J p l e R s m args below meth c D A nL Q cells slots h1 (pc + 3) lo st) : J p l e R s m args below meth c D A nL Q cells slots h pc lo (.null :: .ref a :: st) := j_putF E hc rfl 16 (by decide) u_X8 tyX8 tyX8_ok nmX8 (q_779 E.tb) rfl hin2 rfl rfl rfl rfl hl0 d (kk _ hup_eq (fun _ => hup_ne))
theorem gf_X8_56 (E : Cx p l s m args meth c cc nL RX8 D A) {a : Nat} {fs : List Value} {v : Value} (hc : h a = some (.inr (8, fs))) (hv : fs[17]? = some v) (d : decode cc pc = .ok (.getfield 56, 3)) (kk : J p l e R s m args below meth c D A nL Q cells slots h (pc + 3) lo (v :: st)) : J p l e R s m args below meth c D A nL Q cells slots h pc lo (.ref a :: st) := j_get E hc rfl 17 (by decide) u_X8 (q_780 E.tb) hv d kk
theorem pf_X8_56 (E : Cx p l s m args meth c cc nL RX8 D A) {a : Nat} {fs : List Value} {v : Nat} (hc : h a = some (.inr (8, fs))) (hl0 : 17 < fs.length) (hin2 : meth.name = "<init>") (d : decode cc pc = .ok (.putfield 56, 3)) (kk : ∀ h1 : AH, h1 a = some (.inr (8, fs.set 17 (.ref v))) → (∀ x, x ≠ a → h1 x = h x) → J p l e R s m args below meth c D A nL Q cells slots h1 (pc + 3) lo st) : J p l e R s m args below meth c D A nL Q cells slots h pc lo (.ref v :: .ref a :: st) := j_putF E hc rfl 17 (by decide) u_X8 tyX8 tyX8_ok nmX8 (q_780 E.tb) rfl hin2 rfl rfl rfl rfl hl0 d (kk _ hup_eq (fun _ => hup_ne))
theorem pfN_X8_56 (E : Cx p l s m args meth c cc nL RX8 D A) {a : Nat} {fs : List Value}  (hc : h a = some (.inr (8, fs))) (hl0 : 17 < fs.length) (hin2 : meth.name = "<init>") (d : decode cc pc = .ok (.putfield 56, 3)) (kk : ∀ h1 : AH, h1 a = some (.inr (8, fs.set 17 (.null))) → (∀ x, x ≠ a → h1 x = h x) → J p l e R s m args below meth c D A nL Q cells slots h1 (pc + 3) lo st) : J p l e R s m args below meth c D A nL Q cells slots h pc lo (.null :: .ref a :: st) := j_putF E hc rfl 17 (by decide) u_X8 tyX8 tyX8_ok nmX8 (q_780 E.tb) rfl hin2 rfl rfl rfl rfl hl0 d (kk _ hup_eq (fun _ => hup_ne))
theorem gf_X8_59 (E : Cx p l s m args meth c cc nL RX8 D A) {a : Nat} {fs : List Value} {v : Value} (hc : h a = some (.inr (8, fs))) (hv : fs[18]? = some v) (d : decode cc pc = .ok (.getfield 59, 3)) (kk : J p l e R s m args below meth c D A nL Q cells slots h (pc + 3) lo (v :: st)) : J p l e R s m args below meth c D A nL Q cells slots h pc lo (.ref a :: st) := j_get E hc rfl 18 (by decide) u_X8 (q_781 E.tb) hv d kk
theorem pf_X8_59 (E : Cx p l s m args meth c cc nL RX8 D A) {a : Nat} {fs : List Value} {v : Nat} (hc : h a = some (.inr (8, fs))) (hl0 : 18 < fs.length) (hin2 : meth.name = "<init>") (d : decode cc pc = .ok (.putfield 59, 3)) (kk : ∀ h1 : AH, h1 a = some (.inr (8, fs.set 18 (.ref v))) → (∀ x, x ≠ a → h1 x = h x) → J p l e R s m args below meth c D A nL Q cells slots h1 (pc + 3) lo st) : J p l e R s m args below meth c D A nL Q cells slots h pc lo (.ref v :: .ref a :: st) := j_putF E hc rfl 18 (by decide) u_X8 tyX8 tyX8_ok nmX8 (q_781 E.tb) rfl hin2 rfl rfl rfl rfl hl0 d (kk _ hup_eq (fun _ => hup_ne))
theorem pfN_X8_59 (E : Cx p l s m args meth c cc nL RX8 D A) {a : Nat} {fs : List Value}  (hc : h a = some (.inr (8, fs))) (hl0 : 18 < fs.length) (hin2 : meth.name = "<init>") (d : decode cc pc = .ok (.putfield 59, 3)) (kk : ∀ h1 : AH, h1 a = some (.inr (8, fs.set 18 (.null))) → (∀ x, x ≠ a → h1 x = h x) → J p l e R s m args below meth c D A nL Q cells slots h1 (pc + 3) lo st) : J p l e R s m args below meth c D A nL Q cells slots h pc lo (.null :: .ref a :: st) := j_putF E hc rfl 18 (by decide) u_X8 tyX8 tyX8_ok nmX8 (q_781 E.tb) rfl hin2 rfl rfl rfl rfl hl0 d (kk _ hup_eq (fun _ => hup_ne))
theorem gf_X8_62 (E : Cx p l s m args meth c cc nL RX8 D A) {a : Nat} {fs : List Value} {v : Value} (hc : h a = some (.inr (8, fs))) (hv : fs[20]? = some v) (d : decode cc pc = .ok (.getfield 62, 3)) (kk : J p l e R s m args below meth c D A nL Q cells slots h (pc + 3) lo (v :: st)) : J p l e R s m args below meth c D A nL Q cells slots h pc lo (.ref a :: st) := j_get E hc rfl 20 (by decide) u_X8 (q_783 E.tb) hv d kk
theorem pf_X8_62 (E : Cx p l s m args meth c cc nL RX8 D A) {a : Nat} {fs : List Value} {v : Nat} (hc : h a = some (.inr (8, fs))) (hl0 : 20 < fs.length) (hin2 : meth.name = "<init>") (d : decode cc pc = .ok (.putfield 62, 3)) (kk : ∀ h1 : AH, h1 a = some (.inr (8, fs.set 20 (.ref v))) → (∀ x, x ≠ a → h1 x = h x) → J p l e R s m args below meth c D A nL Q cells slots h1 (pc + 3) lo st) : J p l e R s m args below meth c D A nL Q cells slots h pc lo (.ref v :: .ref a :: st) := j_putF E hc rfl 20 (by decide) u_X8 tyX8 tyX8_ok nmX8 (q_783 E.tb) rfl hin2 rfl rfl rfl rfl hl0 d (kk _ hup_eq (fun _ => hup_ne))
theorem pfN_X8_62 (E : Cx p l s m args meth c cc nL RX8 D A) {a : Nat} {fs : List Value}  (hc : h a = some (.inr (8, fs))) (hl0 : 20 < fs.length) (hin2 : meth.name = "<init>") (d : decode cc pc = .ok (.putfield 62, 3)) (kk : ∀ h1 : AH, h1 a = some (.inr (8, fs.set 20 (.null))) → (∀ x, x ≠ a → h1 x = h x) → J p l e R s m args below meth c D A nL Q cells slots h1 (pc + 3) lo st) : J p l e R s m args below meth c D A nL Q cells slots h pc lo (.null :: .ref a :: st) := j_putF E hc rfl 20 (by decide) u_X8 tyX8 tyX8_ok nmX8 (q_783 E.tb) rfl hin2 rfl rfl rfl rfl hl0 d (kk _ hup_eq (fun _ => hup_ne))
theorem gf_X8_65 (E : Cx p l s m args meth c cc nL RX8 D A) {a : Nat} {fs : List Value} {v : Value} (hc : h a = some (.inr (8, fs))) (hv : fs[21]? = some v) (d : decode cc pc = .ok (.getfield 65, 3)) (kk : J p l e R s m args below meth c D A nL Q cells slots h (pc + 3) lo (v :: st)) : J p l e R s m args below meth c D A nL Q cells slots h pc lo (.ref a :: st) := j_get E hc rfl 21 (by decide) u_X8 (q_784 E.tb) hv d kk
theorem pf_X8_65 (E : Cx p l s m args meth c cc nL RX8 D A) {a : Nat} {fs : List Value} {v : Nat} (hc : h a = some (.inr (8, fs))) (hl0 : 21 < fs.length) (hin2 : meth.name = "<init>") (d : decode cc pc = .ok (.putfield 65, 3)) (kk : ∀ h1 : AH, h1 a = some (.inr (8, fs.set 21 (.ref v))) → (∀ x, x ≠ a → h1 x = h x) → J p l e R s m args below meth c D A nL Q cells slots h1 (pc + 3) lo st) : J p l e R s m args below meth c D A nL Q cells slots h pc lo (.ref v :: .ref a :: st) := j_putF E hc rfl 21 (by decide) u_X8 tyX8 tyX8_ok nmX8 (q_784 E.tb) rfl hin2 rfl rfl rfl rfl hl0 d (kk _ hup_eq (fun _ => hup_ne))
theorem pfN_X8_65 (E : Cx p l s m args meth c cc nL RX8 D A) {a : Nat} {fs : List Value}  (hc : h a = some (.inr (8, fs))) (hl0 : 21 < fs.length) (hin2 : meth.name = "<init>") (d : decode cc pc = .ok (.putfield 65, 3)) (kk : ∀ h1 : AH, h1 a = some (.inr (8, fs.set 21 (.null))) → (∀ x, x ≠ a → h1 x = h x) → J p l e R s m args below meth c D A nL Q cells slots h1 (pc + 3) lo st) : J p l e R s m args below meth c D A nL Q cells slots h pc lo (.null :: .ref a :: st) := j_putF E hc rfl 21 (by decide) u_X8 tyX8 tyX8_ok nmX8 (q_784 E.tb) rfl hin2 rfl rfl rfl rfl hl0 d (kk _ hup_eq (fun _ => hup_ne))
theorem gf_X8_68 (E : Cx p l s m args meth c cc nL RX8 D A) {a : Nat} {fs : List Value} {v : Value} (hc : h a = some (.inr (8, fs))) (hv : fs[22]? = some v) (d : decode cc pc = .ok (.getfield 68, 3)) (kk : J p l e R s m args below meth c D A nL Q cells slots h (pc + 3) lo (v :: st)) : J p l e R s m args below meth c D A nL Q cells slots h pc lo (.ref a :: st) := j_get E hc rfl 22 (by decide) u_X8 (q_785 E.tb) hv d kk
theorem pf_X8_68 (E : Cx p l s m args meth c cc nL RX8 D A) {a : Nat} {fs : List Value} {v : Nat} (hc : h a = some (.inr (8, fs))) (hl0 : 22 < fs.length) (hin2 : meth.name = "<init>") (d : decode cc pc = .ok (.putfield 68, 3)) (kk : ∀ h1 : AH, h1 a = some (.inr (8, fs.set 22 (.ref v))) → (∀ x, x ≠ a → h1 x = h x) → J p l e R s m args below meth c D A nL Q cells slots h1 (pc + 3) lo st) : J p l e R s m args below meth c D A nL Q cells slots h pc lo (.ref v :: .ref a :: st) := j_putF E hc rfl 22 (by decide) u_X8 tyX8 tyX8_ok nmX8 (q_785 E.tb) rfl hin2 rfl rfl rfl rfl hl0 d (kk _ hup_eq (fun _ => hup_ne))
theorem pfN_X8_68 (E : Cx p l s m args meth c cc nL RX8 D A) {a : Nat} {fs : List Value}  (hc : h a = some (.inr (8, fs))) (hl0 : 22 < fs.length) (hin2 : meth.name = "<init>") (d : decode cc pc = .ok (.putfield 68, 3)) (kk : ∀ h1 : AH, h1 a = some (.inr (8, fs.set 22 (.null))) → (∀ x, x ≠ a → h1 x = h x) → J p l e R s m args below meth c D A nL Q cells slots h1 (pc + 3) lo st) : J p l e R s m args below meth c D A nL Q cells slots h pc lo (.null :: .ref a :: st) := j_putF E hc rfl 22 (by decide) u_X8 tyX8 tyX8_ok nmX8 (q_785 E.tb) rfl hin2 rfl rfl rfl rfl hl0 d (kk _ hup_eq (fun _ => hup_ne))
theorem gf_X8_71 (E : Cx p l s m args meth c cc nL RX8 D A) {a : Nat} {fs : List Value} {v : Value} (hc : h a = some (.inr (8, fs))) (hv : fs[23]? = some v) (d : decode cc pc = .ok (.getfield 71, 3)) (kk : J p l e R s m args below meth c D A nL Q cells slots h (pc + 3) lo (v :: st)) : J p l e R s m args below meth c D A nL Q cells slots h pc lo (.ref a :: st) := j_get E hc rfl 23 (by decide) u_X8 (q_786 E.tb) hv d kk
theorem pf_X8_71 (E : Cx p l s m args meth c cc nL RX8 D A) {a : Nat} {fs : List Value} {v : Nat} (hc : h a = some (.inr (8, fs))) (hl0 : 23 < fs.length) (hin2 : meth.name = "<init>") (d : decode cc pc = .ok (.putfield 71, 3)) (kk : ∀ h1 : AH, h1 a = some (.inr (8, fs.set 23 (.ref v))) → (∀ x, x ≠ a → h1 x = h x) → J p l e R s m args below meth c D A nL Q cells slots h1 (pc + 3) lo st) : J p l e R s m args below meth c D A nL Q cells slots h pc lo (.ref v :: .ref a :: st) := j_putF E hc rfl 23 (by decide) u_X8 tyX8 tyX8_ok nmX8 (q_786 E.tb) rfl hin2 rfl rfl rfl rfl hl0 d (kk _ hup_eq (fun _ => hup_ne))
theorem pfN_X8_71 (E : Cx p l s m args meth c cc nL RX8 D A) {a : Nat} {fs : List Value}  (hc : h a = some (.inr (8, fs))) (hl0 : 23 < fs.length) (hin2 : meth.name = "<init>") (d : decode cc pc = .ok (.putfield 71, 3)) (kk : ∀ h1 : AH, h1 a = some (.inr (8, fs.set 23 (.null))) → (∀ x, x ≠ a → h1 x = h x) → J p l e R s m args below meth c D A nL Q cells slots h1 (pc + 3) lo st) : J p l e R s m args below meth c D A nL Q cells slots h pc lo (.null :: .ref a :: st) := j_putF E hc rfl 23 (by decide) u_X8 tyX8 tyX8_ok nmX8 (q_786 E.tb) rfl hin2 rfl rfl rfl rfl hl0 d (kk _ hup_eq (fun _ => hup_ne))
theorem gf_X8_74 (E : Cx p l s m args meth c cc nL RX8 D A) {a : Nat} {fs : List Value} {v : Value} (hc : h a = some (.inr (8, fs))) (hv : fs[24]? = some v) (d : decode cc pc = .ok (.getfield 74, 3)) (kk : J p l e R s m args below meth c D A nL Q cells slots h (pc + 3) lo (v :: st)) : J p l e R s m args below meth c D A nL Q cells slots h pc lo (.ref a :: st) := j_get E hc rfl 24 (by decide) u_X8 (q_787 E.tb) hv d kk
theorem pf_X8_74 (E : Cx p l s m args meth c cc nL RX8 D A) {a : Nat} {fs : List Value} {v : Nat} (hc : h a = some (.inr (8, fs))) (hl0 : 24 < fs.length) (hin2 : meth.name = "<init>") (d : decode cc pc = .ok (.putfield 74, 3)) (kk : ∀ h1 : AH, h1 a = some (.inr (8, fs.set 24 (.ref v))) → (∀ x, x ≠ a → h1 x = h x) → J p l e R s m args below meth c D A nL Q cells slots h1 (pc + 3) lo st) : J p l e R s m args below meth c D A nL Q cells slots h pc lo (.ref v :: .ref a :: st) := j_putF E hc rfl 24 (by decide) u_X8 tyX8 tyX8_ok nmX8 (q_787 E.tb) rfl hin2 rfl rfl rfl rfl hl0 d (kk _ hup_eq (fun _ => hup_ne))
theorem pfN_X8_74 (E : Cx p l s m args meth c cc nL RX8 D A) {a : Nat} {fs : List Value}  (hc : h a = some (.inr (8, fs))) (hl0 : 24 < fs.length) (hin2 : meth.name = "<init>") (d : decode cc pc = .ok (.putfield 74, 3)) (kk : ∀ h1 : AH, h1 a = some (.inr (8, fs.set 24 (.null))) → (∀ x, x ≠ a → h1 x = h x) → J p l e R s m args below meth c D A nL Q cells slots h1 (pc + 3) lo st) : J p l e R s m args below meth c D A nL Q cells slots h pc lo (.null :: .ref a :: st) := j_putF E hc rfl 24 (by decide) u_X8 tyX8 tyX8_ok nmX8 (q_787 E.tb) rfl hin2 rfl rfl rfl rfl hl0 d (kk _ hup_eq (fun _ => hup_ne))
theorem gf_X8_77 (E : Cx p l s m args meth c cc nL RX8 D A) {a : Nat} {fs : List Value} {v : Value} (hc : h a = some (.inr (8, fs))) (hv : fs[25]? = some v) (d : decode cc pc = .ok (.getfield 77, 3)) (kk : J p l e R s m args below meth c D A nL Q cells slots h (pc + 3) lo (v :: st)) : J p l e R s m args below meth c D A nL Q cells slots h pc lo (.ref a :: st) := j_get E hc rfl 25 (by decide) u_X8 (q_788 E.tb) hv d kk
theorem pf_X8_77 (E : Cx p l s m args meth c cc nL RX8 D A) {a : Nat} {fs : List Value} {v : Nat} (hc : h a = some (.inr (8, fs))) (hl0 : 25 < fs.length) (hin2 : meth.name = "<init>") (d : decode cc pc = .ok (.putfield 77, 3)) (kk : ∀ h1 : AH, h1 a = some (.inr (8, fs.set 25 (.ref v))) → (∀ x, x ≠ a → h1 x = h x) → J p l e R s m args below meth c D A nL Q cells slots h1 (pc + 3) lo st) : J p l e R s m args below meth c D A nL Q cells slots h pc lo (.ref v :: .ref a :: st) := j_putF E hc rfl 25 (by decide) u_X8 tyX8 tyX8_ok nmX8 (q_788 E.tb) rfl hin2 rfl rfl rfl rfl hl0 d (kk _ hup_eq (fun _ => hup_ne))
theorem pfN_X8_77 (E : Cx p l s m args meth c cc nL RX8 D A) {a : Nat} {fs : List Value}  (hc : h a = some (.inr (8, fs))) (hl0 : 25 < fs.length) (hin2 : meth.name = "<init>") (d : decode cc pc = .ok (.putfield 77, 3)) (kk : ∀ h1 : AH, h1 a = some (.inr (8, fs.set 25 (.null))) → (∀ x, x ≠ a → h1 x = h x) → J p l e R s m args below meth c D A nL Q cells slots h1 (pc + 3) lo st) : J p l e R s m args below meth c D A nL Q cells slots h pc lo (.null :: .ref a :: st) := j_putF E hc rfl 25 (by decide) u_X8 tyX8 tyX8_ok nmX8 (q_788 E.tb) rfl hin2 rfl rfl rfl rfl hl0 d (kk _ hup_eq (fun _ => hup_ne))
theorem gf_X8_81 (E : Cx p l s m args meth c cc nL RX8 D A) {a : Nat} {fs : List Value} {v : Value} (hc : h a = some (.inr (8, fs))) (hv : fs[26]? = some v) (d : decode cc pc = .ok (.getfield 81, 3)) (kk : J p l e R s m args below meth c D A nL Q cells slots h (pc + 3) lo (v :: st)) : J p l e R s m args below meth c D A nL Q cells slots h pc lo (.ref a :: st) := j_get E hc rfl 26 (by decide) u_X8 (q_789 E.tb) hv d kk
theorem pf_X8_81 (E : Cx p l s m args meth c cc nL RX8 D A) {a : Nat} {fs : List Value} {v : Nat} (hc : h a = some (.inr (8, fs))) (hl0 : 26 < fs.length) (hin2 : meth.name = "<init>") (d : decode cc pc = .ok (.putfield 81, 3)) (kk : ∀ h1 : AH, h1 a = some (.inr (8, fs.set 26 (.ref v))) → (∀ x, x ≠ a → h1 x = h x) → J p l e R s m args below meth c D A nL Q cells slots h1 (pc + 3) lo st) : J p l e R s m args below meth c D A nL Q cells slots h pc lo (.ref v :: .ref a :: st) := j_putF E hc rfl 26 (by decide) u_X8 tyX8 tyX8_ok nmX8 (q_789 E.tb) rfl hin2 rfl rfl rfl rfl hl0 d (kk _ hup_eq (fun _ => hup_ne))
theorem pfN_X8_81 (E : Cx p l s m args meth c cc nL RX8 D A) {a : Nat} {fs : List Value}  (hc : h a = some (.inr (8, fs))) (hl0 : 26 < fs.length) (hin2 : meth.name = "<init>") (d : decode cc pc = .ok (.putfield 81, 3)) (kk : ∀ h1 : AH, h1 a = some (.inr (8, fs.set 26 (.null))) → (∀ x, x ≠ a → h1 x = h x) → J p l e R s m args below meth c D A nL Q cells slots h1 (pc + 3) lo st) : J p l e R s m args below meth c D A nL Q cells slots h pc lo (.null :: .ref a :: st) := j_putF E hc rfl 26 (by decide) u_X8 tyX8 tyX8_ok nmX8 (q_789 E.tb) rfl hin2 rfl rfl rfl rfl hl0 d (kk _ hup_eq (fun _ => hup_ne))
theorem gf_X8_84 (E : Cx p l s m args meth c cc nL RX8 D A) {a : Nat} {fs : List Value} {v : Value} (hc : h a = some (.inr (8, fs))) (hv : fs[33]? = some v) (d : decode cc pc = .ok (.getfield 84, 3)) (kk : J p l e R s m args below meth c D A nL Q cells slots h (pc + 3) lo (v :: st)) : J p l e R s m args below meth c D A nL Q cells slots h pc lo (.ref a :: st) := j_get E hc rfl 33 (by decide) u_X8 (q_796 E.tb) hv d kk
theorem pf_X8_84 (E : Cx p l s m args meth c cc nL RX8 D A) {a : Nat} {fs : List Value} {v : Int32} (hc : h a = some (.inr (8, fs))) (hl0 : 33 < fs.length) (d : decode cc pc = .ok (.putfield 84, 3)) (kk : ∀ h1 : AH, h1 a = some (.inr (8, fs.set 33 (.int v))) → (∀ x, x ≠ a → h1 x = h x) → J p l e R s m args below meth c D A nL Q cells slots h1 (pc + 3) lo st) : J p l e R s m args below meth c D A nL Q cells slots h pc lo (.int v :: .ref a :: st) := j_put E hc rfl 33 (by decide) u_X8 tyX8 tyX8_ok nmX8 (q_796 E.tb) rfl rfl rfl rfl hl0 d (kk _ hup_eq (fun _ => hup_ne))
theorem gf_X8_88 (E : Cx p l s m args meth c cc nL RX8 D A) {a : Nat} {fs : List Value} {v : Value} (hc : h a = some (.inr (8, fs))) (hv : fs[2]? = some v) (d : decode cc pc = .ok (.getfield 88, 3)) (kk : J p l e R s m args below meth c D A nL Q cells slots h (pc + 3) lo (v :: st)) : J p l e R s m args below meth c D A nL Q cells slots h pc lo (.ref a :: st) := j_get E hc rfl 2 (by decide) u_X8 (q_765 E.tb) hv d kk
theorem pf_X8_88 (E : Cx p l s m args meth c cc nL RX8 D A) {a : Nat} {fs : List Value} {v : Int32} (hc : h a = some (.inr (8, fs))) (hl0 : 2 < fs.length) (d : decode cc pc = .ok (.putfield 88, 3)) (kk : ∀ h1 : AH, h1 a = some (.inr (8, fs.set 2 (.int v))) → (∀ x, x ≠ a → h1 x = h x) → J p l e R s m args below meth c D A nL Q cells slots h1 (pc + 3) lo st) : J p l e R s m args below meth c D A nL Q cells slots h pc lo (.int v :: .ref a :: st) := j_put E hc rfl 2 (by decide) u_X8 tyX8 tyX8_ok nmX8 (q_765 E.tb) rfl rfl rfl rfl hl0 d (kk _ hup_eq (fun _ => hup_ne))
theorem gf_X8_95 (E : Cx p l s m args meth c cc nL RX8 D A) {a : Nat} {fs : List Value} {v : Value} (hc : h a = some (.inr (8, fs))) (hv : fs[6]? = some v) (d : decode cc pc = .ok (.getfield 95, 3)) (kk : J p l e R s m args below meth c D A nL Q cells slots h (pc + 3) lo (v :: st)) : J p l e R s m args below meth c D A nL Q cells slots h pc lo (.ref a :: st) := j_get E hc rfl 6 (by decide) u_X8 (q_769 E.tb) hv d kk
theorem pf_X8_95 (E : Cx p l s m args meth c cc nL RX8 D A) {a : Nat} {fs : List Value} {v : Int32} (hc : h a = some (.inr (8, fs))) (hl0 : 6 < fs.length) (d : decode cc pc = .ok (.putfield 95, 3)) (kk : ∀ h1 : AH, h1 a = some (.inr (8, fs.set 6 (.int v))) → (∀ x, x ≠ a → h1 x = h x) → J p l e R s m args below meth c D A nL Q cells slots h1 (pc + 3) lo st) : J p l e R s m args below meth c D A nL Q cells slots h pc lo (.int v :: .ref a :: st) := j_put E hc rfl 6 (by decide) u_X8 tyX8 tyX8_ok nmX8 (q_769 E.tb) rfl rfl rfl rfl hl0 d (kk _ hup_eq (fun _ => hup_ne))
theorem gf_X8_98 (E : Cx p l s m args meth c cc nL RX8 D A) {a : Nat} {fs : List Value} {v : Value} (hc : h a = some (.inr (8, fs))) (hv : fs[15]? = some v) (d : decode cc pc = .ok (.getfield 98, 3)) (kk : J p l e R s m args below meth c D A nL Q cells slots h (pc + 3) lo (v :: st)) : J p l e R s m args below meth c D A nL Q cells slots h pc lo (.ref a :: st) := j_get E hc rfl 15 (by decide) u_X8 (q_778 E.tb) hv d kk
theorem pf_X8_98 (E : Cx p l s m args meth c cc nL RX8 D A) {a : Nat} {fs : List Value} {v : Int32} (hc : h a = some (.inr (8, fs))) (hl0 : 15 < fs.length) (d : decode cc pc = .ok (.putfield 98, 3)) (kk : ∀ h1 : AH, h1 a = some (.inr (8, fs.set 15 (.int v))) → (∀ x, x ≠ a → h1 x = h x) → J p l e R s m args below meth c D A nL Q cells slots h1 (pc + 3) lo st) : J p l e R s m args below meth c D A nL Q cells slots h pc lo (.int v :: .ref a :: st) := j_put E hc rfl 15 (by decide) u_X8 tyX8 tyX8_ok nmX8 (q_778 E.tb) rfl rfl rfl rfl hl0 d (kk _ hup_eq (fun _ => hup_ne))
theorem gf_X8_105 (E : Cx p l s m args meth c cc nL RX8 D A) {a : Nat} {fs : List Value} {v : Value} (hc : h a = some (.inr (8, fs))) (hv : fs[19]? = some v) (d : decode cc pc = .ok (.getfield 105, 3)) (kk : J p l e R s m args below meth c D A nL Q cells slots h (pc + 3) lo (v :: st)) : J p l e R s m args below meth c D A nL Q cells slots h pc lo (.ref a :: st) := j_get E hc rfl 19 (by decide) u_X8 (q_782 E.tb) hv d kk
theorem pf_X8_105 (E : Cx p l s m args meth c cc nL RX8 D A) {a : Nat} {fs : List Value} {v : Int32} (hc : h a = some (.inr (8, fs))) (hl0 : 19 < fs.length) (d : decode cc pc = .ok (.putfield 105, 3)) (kk : ∀ h1 : AH, h1 a = some (.inr (8, fs.set 19 (.int v))) → (∀ x, x ≠ a → h1 x = h x) → J p l e R s m args below meth c D A nL Q cells slots h1 (pc + 3) lo st) : J p l e R s m args below meth c D A nL Q cells slots h pc lo (.int v :: .ref a :: st) := j_put E hc rfl 19 (by decide) u_X8 tyX8 tyX8_ok nmX8 (q_782 E.tb) rfl rfl rfl rfl hl0 d (kk _ hup_eq (fun _ => hup_ne))
theorem gf_X8_108 (E : Cx p l s m args meth c cc nL RX8 D A) {a : Nat} {fs : List Value} {v : Value} (hc : h a = some (.inr (8, fs))) (hv : fs[27]? = some v) (d : decode cc pc = .ok (.getfield 108, 3)) (kk : J p l e R s m args below meth c D A nL Q cells slots h (pc + 3) lo (v :: st)) : J p l e R s m args below meth c D A nL Q cells slots h pc lo (.ref a :: st) := j_get E hc rfl 27 (by decide) u_X8 (q_790 E.tb) hv d kk
theorem pf_X8_108 (E : Cx p l s m args meth c cc nL RX8 D A) {a : Nat} {fs : List Value} {v : Int32} (hc : h a = some (.inr (8, fs))) (hl0 : 27 < fs.length) (d : decode cc pc = .ok (.putfield 108, 3)) (kk : ∀ h1 : AH, h1 a = some (.inr (8, fs.set 27 (.int v))) → (∀ x, x ≠ a → h1 x = h x) → J p l e R s m args below meth c D A nL Q cells slots h1 (pc + 3) lo st) : J p l e R s m args below meth c D A nL Q cells slots h pc lo (.int v :: .ref a :: st) := j_put E hc rfl 27 (by decide) u_X8 tyX8 tyX8_ok nmX8 (q_790 E.tb) rfl rfl rfl rfl hl0 d (kk _ hup_eq (fun _ => hup_ne))
theorem gf_X8_167 (E : Cx p l s m args meth c cc nL RX8 D A) {a : Nat} {fs : List Value} {v : Value} (hc : h a = some (.inr (8, fs))) (hv : fs[29]? = some v) (d : decode cc pc = .ok (.getfield 167, 3)) (kk : J p l e R s m args below meth c D A nL Q cells slots h (pc + 3) lo (v :: st)) : J p l e R s m args below meth c D A nL Q cells slots h pc lo (.ref a :: st) := j_get E hc rfl 29 (by decide) u_X8 (q_792 E.tb) hv d kk
theorem pf_X8_167 (E : Cx p l s m args meth c cc nL RX8 D A) {a : Nat} {fs : List Value} {v : Int32} (hc : h a = some (.inr (8, fs))) (hl0 : 29 < fs.length) (d : decode cc pc = .ok (.putfield 167, 3)) (kk : ∀ h1 : AH, h1 a = some (.inr (8, fs.set 29 (.int v))) → (∀ x, x ≠ a → h1 x = h x) → J p l e R s m args below meth c D A nL Q cells slots h1 (pc + 3) lo st) : J p l e R s m args below meth c D A nL Q cells slots h pc lo (.int v :: .ref a :: st) := j_put E hc rfl 29 (by decide) u_X8 tyX8 tyX8_ok nmX8 (q_792 E.tb) rfl rfl rfl rfl hl0 d (kk _ hup_eq (fun _ => hup_ne))
theorem gf_X8_170 (E : Cx p l s m args meth c cc nL RX8 D A) {a : Nat} {fs : List Value} {v : Value} (hc : h a = some (.inr (8, fs))) (hv : fs[30]? = some v) (d : decode cc pc = .ok (.getfield 170, 3)) (kk : J p l e R s m args below meth c D A nL Q cells slots h (pc + 3) lo (v :: st)) : J p l e R s m args below meth c D A nL Q cells slots h pc lo (.ref a :: st) := j_get E hc rfl 30 (by decide) u_X8 (q_793 E.tb) hv d kk
theorem pf_X8_170 (E : Cx p l s m args meth c cc nL RX8 D A) {a : Nat} {fs : List Value} {v : Int32} (hc : h a = some (.inr (8, fs))) (hl0 : 30 < fs.length) (d : decode cc pc = .ok (.putfield 170, 3)) (kk : ∀ h1 : AH, h1 a = some (.inr (8, fs.set 30 (.int v))) → (∀ x, x ≠ a → h1 x = h x) → J p l e R s m args below meth c D A nL Q cells slots h1 (pc + 3) lo st) : J p l e R s m args below meth c D A nL Q cells slots h pc lo (.int v :: .ref a :: st) := j_put E hc rfl 30 (by decide) u_X8 tyX8 tyX8_ok nmX8 (q_793 E.tb) rfl rfl rfl rfl hl0 d (kk _ hup_eq (fun _ => hup_ne))
theorem gf_X8_173 (E : Cx p l s m args meth c cc nL RX8 D A) {a : Nat} {fs : List Value} {v : Value} (hc : h a = some (.inr (8, fs))) (hv : fs[31]? = some v) (d : decode cc pc = .ok (.getfield 173, 3)) (kk : J p l e R s m args below meth c D A nL Q cells slots h (pc + 3) lo (v :: st)) : J p l e R s m args below meth c D A nL Q cells slots h pc lo (.ref a :: st) := j_get E hc rfl 31 (by decide) u_X8 (q_794 E.tb) hv d kk
theorem pf_X8_173 (E : Cx p l s m args meth c cc nL RX8 D A) {a : Nat} {fs : List Value} {v : Int64} (hc : h a = some (.inr (8, fs))) (hl0 : 31 < fs.length) (d : decode cc pc = .ok (.putfield 173, 3)) (kk : ∀ h1 : AH, h1 a = some (.inr (8, fs.set 31 (.long v))) → (∀ x, x ≠ a → h1 x = h x) → J p l e R s m args below meth c D A nL Q cells slots h1 (pc + 3) lo st) : J p l e R s m args below meth c D A nL Q cells slots h pc lo (.long v :: .ref a :: st) := j_put E hc rfl 31 (by decide) u_X8 tyX8 tyX8_ok nmX8 (q_794 E.tb) rfl rfl rfl rfl hl0 d (kk _ hup_eq (fun _ => hup_ne))
theorem gf_X8_177 (E : Cx p l s m args meth c cc nL RX8 D A) {a : Nat} {fs : List Value} {v : Value} (hc : h a = some (.inr (8, fs))) (hv : fs[32]? = some v) (d : decode cc pc = .ok (.getfield 177, 3)) (kk : J p l e R s m args below meth c D A nL Q cells slots h (pc + 3) lo (v :: st)) : J p l e R s m args below meth c D A nL Q cells slots h pc lo (.ref a :: st) := j_get E hc rfl 32 (by decide) u_X8 (q_795 E.tb) hv d kk
theorem pf_X8_177 (E : Cx p l s m args meth c cc nL RX8 D A) {a : Nat} {fs : List Value} {v : Int64} (hc : h a = some (.inr (8, fs))) (hl0 : 32 < fs.length) (d : decode cc pc = .ok (.putfield 177, 3)) (kk : ∀ h1 : AH, h1 a = some (.inr (8, fs.set 32 (.long v))) → (∀ x, x ≠ a → h1 x = h x) → J p l e R s m args below meth c D A nL Q cells slots h1 (pc + 3) lo st) : J p l e R s m args below meth c D A nL Q cells slots h pc lo (.long v :: .ref a :: st) := j_put E hc rfl 32 (by decide) u_X8 tyX8 tyX8_ok nmX8 (q_795 E.tb) rfl rfl rfl rfl hl0 d (kk _ hup_eq (fun _ => hup_ne))
theorem gf_X8_183 (E : Cx p l s m args meth c cc nL RX8 D A) {a : Nat} {fs : List Value} {v : Value} (hc : h a = some (.inr (8, fs))) (hv : fs[28]? = some v) (d : decode cc pc = .ok (.getfield 183, 3)) (kk : J p l e R s m args below meth c D A nL Q cells slots h (pc + 3) lo (v :: st)) : J p l e R s m args below meth c D A nL Q cells slots h pc lo (.ref a :: st) := j_get E hc rfl 28 (by decide) u_X8 (q_791 E.tb) hv d kk
theorem pf_X8_183 (E : Cx p l s m args meth c cc nL RX8 D A) {a : Nat} {fs : List Value} {v : Int32} (hc : h a = some (.inr (8, fs))) (hl0 : 28 < fs.length) (d : decode cc pc = .ok (.putfield 183, 3)) (kk : ∀ h1 : AH, h1 a = some (.inr (8, fs.set 28 (.int v))) → (∀ x, x ≠ a → h1 x = h x) → J p l e R s m args below meth c D A nL Q cells slots h1 (pc + 3) lo st) : J p l e R s m args below meth c D A nL Q cells slots h pc lo (.int v :: .ref a :: st) := j_put E hc rfl 28 (by decide) u_X8 tyX8 tyX8_ok nmX8 (q_791 E.tb) rfl rfl rfl rfl hl0 d (kk _ hup_eq (fun _ => hup_ne))
theorem nw_X7_9 (E : Cx p l s m args meth c cc nL RX7 D A) (hr : cells + 1 ≤ R.cells ∧ slots + 2 ≤ R.slots) (d : decode cc pc = .ok (.new 9, 3)) (kk : ∀ (a : Nat) (h1 : AH), h a = none → h1 a = some (.inr (6, [.int 0, .int 0])) → (∀ x, x ≠ a → h1 x = h x) → J p l e R s m args below meth c D A nL Q (cells + 1) (slots + 2) h1 (pc + 3) lo (.ref a :: st)) : J p l e R s m args below meth c D A nL Q cells slots h pc lo st := j_new E rfl u_X6 tyX6 tyX6_ok (q_55 E.tb) (q_230 E.tb) (q_34 E.tb) (by decide +kernel) hr d (fun a ha => kk a _ ha hup_eq (fun _ => hup_ne))
theorem nq_X7_9 (E : Cx p l s m args meth c cc nL RX7 D A) {n : Int32} {N : Nat} (hn : ¬ n < 0) (hN : n.toNatClampNeg = N) (hbytes : N * 4 ≤ 536870912) (hr : cells + 1 ≤ R.cells ∧ slots + N ≤ R.slots) (d : decode cc pc = .ok (.anewarray 9, 3)) (kk : ∀ (a : Nat) (h1 : AH), h a = none → h1 a = some (.inl (.object "MouldDesk$Resin", (N, .inr (.inr (.inr (.inr (fun _ => none))))))) → (∀ x, x ≠ a → h1 x = h x) → J p l e R s m args below meth c D A nL Q (cells + 1) (slots + N) h1 (pc + 3) lo (.ref a :: st)) : J p l e R s m args below meth c D A nL Q cells slots h pc lo (.int n :: st) := j_newq E (q_55 E.tb) (q_56 E.tb) hn hN hbytes hr d (fun a ha => kk a _ ha hup_eq (fun _ => hup_ne))
theorem nw_X7_15 (E : Cx p l s m args meth c cc nL RX7 D A) (hr : cells + 1 ≤ R.cells ∧ slots + 7 ≤ R.slots) (d : decode cc pc = .ok (.new 15, 3)) (kk : ∀ (a : Nat) (h1 : AH), h a = none → h1 a = some (.inr (4, [.int 0, .null, .int 0, .int 0, .int 0, .int 0, .int 0])) → (∀ x, x ≠ a → h1 x = h x) → J p l e R s m args below meth c D A nL Q (cells + 1) (slots + 7) h1 (pc + 3) lo (.ref a :: st)) : J p l e R s m args below meth c D A nL Q cells slots h pc lo st := j_new E rfl u_X4 tyX4 tyX4_ok (q_57 E.tb) (q_385 E.tb) (q_40 E.tb) (by decide +kernel) hr d (fun a ha => kk a _ ha hup_eq (fun _ => hup_ne))
theorem nq_X7_15 (E : Cx p l s m args meth c cc nL RX7 D A) {n : Int32} {N : Nat} (hn : ¬ n < 0) (hN : n.toNatClampNeg = N) (hbytes : N * 4 ≤ 536870912) (hr : cells + 1 ≤ R.cells ∧ slots + N ≤ R.slots) (d : decode cc pc = .ok (.anewarray 15, 3)) (kk : ∀ (a : Nat) (h1 : AH), h a = none → h1 a = some (.inl (.object "MouldDesk$Mould", (N, .inr (.inr (.inr (.inr (fun _ => none))))))) → (∀ x, x ≠ a → h1 x = h x) → J p l e R s m args below meth c D A nL Q (cells + 1) (slots + N) h1 (pc + 3) lo (.ref a :: st)) : J p l e R s m args below meth c D A nL Q cells slots h pc lo (.int n :: st) := j_newq E (q_57 E.tb) (q_58 E.tb) hn hN hbytes hr d (fun a ha => kk a _ ha hup_eq (fun _ => hup_ne))
theorem nw_X7_21 (E : Cx p l s m args meth c cc nL RX7 D A) (hr : cells + 1 ≤ R.cells ∧ slots + 3 ≤ R.slots) (d : decode cc pc = .ok (.new 21, 3)) (kk : ∀ (a : Nat) (h1 : AH), h a = none → h1 a = some (.inr (3, [.int 0, .null, .null])) → (∀ x, x ≠ a → h1 x = h x) → J p l e R s m args below meth c D A nL Q (cells + 1) (slots + 3) h1 (pc + 3) lo (.ref a :: st)) : J p l e R s m args below meth c D A nL Q cells slots h pc lo st := j_new E rfl u_X3 tyX3 tyX3_ok (q_59 E.tb) (q_513 E.tb) (q_43 E.tb) (by decide +kernel) hr d (fun a ha => kk a _ ha hup_eq (fun _ => hup_ne))
theorem nq_X7_21 (E : Cx p l s m args meth c cc nL RX7 D A) {n : Int32} {N : Nat} (hn : ¬ n < 0) (hN : n.toNatClampNeg = N) (hbytes : N * 4 ≤ 536870912) (hr : cells + 1 ≤ R.cells ∧ slots + N ≤ R.slots) (d : decode cc pc = .ok (.anewarray 21, 3)) (kk : ∀ (a : Nat) (h1 : AH), h a = none → h1 a = some (.inl (.object "MouldDesk$Machine", (N, .inr (.inr (.inr (.inr (fun _ => none))))))) → (∀ x, x ≠ a → h1 x = h x) → J p l e R s m args below meth c D A nL Q (cells + 1) (slots + N) h1 (pc + 3) lo (.ref a :: st)) : J p l e R s m args below meth c D A nL Q cells slots h pc lo (.int n :: st) := j_newq E (q_59 E.tb) (q_60 E.tb) hn hN hbytes hr d (fun a ha => kk a _ ha hup_eq (fun _ => hup_ne))
theorem nw_X7_27 (E : Cx p l s m args meth c cc nL RX7 D A) (hr : cells + 1 ≤ R.cells ∧ slots + 8 ≤ R.slots) (d : decode cc pc = .ok (.new 27, 3)) (kk : ∀ (a : Nat) (h1 : AH), h a = none → h1 a = some (.inr (5, [.null, .null, .int 0, .null, .int 0, .int 0, .long 0, .int 0])) → (∀ x, x ≠ a → h1 x = h x) → J p l e R s m args below meth c D A nL Q (cells + 1) (slots + 8) h1 (pc + 3) lo (.ref a :: st)) : J p l e R s m args below meth c D A nL Q cells slots h pc lo st := j_new E rfl u_X5 tyX5 tyX5_ok (q_61 E.tb) (q_589 E.tb) (q_45 E.tb) (by decide +kernel) hr d (fun a ha => kk a _ ha hup_eq (fun _ => hup_ne))
theorem nq_X7_27 (E : Cx p l s m args meth c cc nL RX7 D A) {n : Int32} {N : Nat} (hn : ¬ n < 0) (hN : n.toNatClampNeg = N) (hbytes : N * 4 ≤ 536870912) (hr : cells + 1 ≤ R.cells ∧ slots + N ≤ R.slots) (d : decode cc pc = .ok (.anewarray 27, 3)) (kk : ∀ (a : Nat) (h1 : AH), h a = none → h1 a = some (.inl (.object "MouldDesk$Order", (N, .inr (.inr (.inr (.inr (fun _ => none))))))) → (∀ x, x ≠ a → h1 x = h x) → J p l e R s m args below meth c D A nL Q (cells + 1) (slots + N) h1 (pc + 3) lo (.ref a :: st)) : J p l e R s m args below meth c D A nL Q cells slots h pc lo (.int n :: st) := j_newq E (q_61 E.tb) (q_62 E.tb) hn hN hbytes hr d (fun a ha => kk a _ ha hup_eq (fun _ => hup_ne))
theorem nw_X7_33 (E : Cx p l s m args meth c cc nL RX7 D A) (hr : cells + 1 ≤ R.cells ∧ slots + 2 ≤ R.slots) (d : decode cc pc = .ok (.new 33, 3)) (kk : ∀ (a : Nat) (h1 : AH), h a = none → h1 a = some (.inr (1, [.null, .int 0])) → (∀ x, x ≠ a → h1 x = h x) → J p l e R s m args below meth c D A nL Q (cells + 1) (slots + 2) h1 (pc + 3) lo (.ref a :: st)) : J p l e R s m args below meth c D A nL Q cells slots h pc lo st := j_new E rfl u_X1 tyX1 tyX1_ok (q_63 E.tb) (q_64 E.tb) (q_27 E.tb) (by decide +kernel) hr d (fun a ha => kk a _ ha hup_eq (fun _ => hup_ne))
theorem nw_X7_69 (E : Cx p l s m args meth c cc nL RX7 D A) (hr : cells + 1 ≤ R.cells ∧ slots + 3 ≤ R.slots) (d : decode cc pc = .ok (.new 69, 3)) (kk : ∀ (a : Nat) (h1 : AH), h a = none → h1 a = some (.inr (2, [.null, .int 0, .int 0])) → (∀ x, x ≠ a → h1 x = h x) → J p l e R s m args below meth c D A nL Q (cells + 1) (slots + 3) h1 (pc + 3) lo (.ref a :: st)) : J p l e R s m args below meth c D A nL Q cells slots h pc lo st := j_new E rfl u_X2 tyX2 tyX2_ok (q_297 E.tb) (q_298 E.tb) (q_38 E.tb) (by decide +kernel) hr d (fun a ha => kk a _ ha hup_eq (fun _ => hup_ne))
theorem nq_X1_9 (E : Cx p l s m args meth c cc nL RX1 D A) {n : Int32} {N : Nat} (hn : ¬ n < 0) (hN : n.toNatClampNeg = N) (hbytes : N * 4 ≤ 536870912) (hr : cells + 1 ≤ R.cells ∧ slots + N ≤ R.slots) (d : decode cc pc = .ok (.anewarray 9, 3)) (kk : ∀ (a : Nat) (h1 : AH), h a = none → h1 a = some (.inl (.object "MouldDesk$Lot", (N, .inr (.inr (.inr (.inr (fun _ => none))))))) → (∀ x, x ≠ a → h1 x = h x) → J p l e R s m args below meth c D A nL Q (cells + 1) (slots + N) h1 (pc + 3) lo (.ref a :: st)) : J p l e R s m args below meth c D A nL Q cells slots h pc lo (.int n :: st) := j_newq E (q_69 E.tb) (q_70 E.tb) hn hN hbytes hr d (fun a ha => kk a _ ha hup_eq (fun _ => hup_ne))
theorem nw_X4_33 (E : Cx p l s m args meth c cc nL RX4 D A) (hr : cells + 1 ≤ R.cells ∧ slots + 3 ≤ R.slots) (d : decode cc pc = .ok (.new 33, 3)) (kk : ∀ (a : Nat) (h1 : AH), h a = none → h1 a = some (.inr (0, [.int 0, .int 0, .int 0])) → (∀ x, x ≠ a → h1 x = h x) → J p l e R s m args below meth c D A nL Q (cells + 1) (slots + 3) h1 (pc + 3) lo (.ref a :: st)) : J p l e R s m args below meth c D A nL Q cells slots h pc lo st := j_new E rfl u_X0 tyX0 tyX0_ok (q_391 E.tb) (q_393 E.tb) (q_41 E.tb) (by decide +kernel) hr d (fun a ha => kk a _ ha hup_eq (fun _ => hup_ne))
theorem nq_X4_33 (E : Cx p l s m args meth c cc nL RX4 D A) {n : Int32} {N : Nat} (hn : ¬ n < 0) (hN : n.toNatClampNeg = N) (hbytes : N * 4 ≤ 536870912) (hr : cells + 1 ≤ R.cells ∧ slots + N ≤ R.slots) (d : decode cc pc = .ok (.anewarray 33, 3)) (kk : ∀ (a : Nat) (h1 : AH), h a = none → h1 a = some (.inl (.object "MouldDesk$Cavity", (N, .inr (.inr (.inr (.inr (fun _ => none))))))) → (∀ x, x ≠ a → h1 x = h x) → J p l e R s m args below meth c D A nL Q (cells + 1) (slots + N) h1 (pc + 3) lo (.ref a :: st)) : J p l e R s m args below meth c D A nL Q cells slots h pc lo (.int n :: st) := j_newq E (q_391 E.tb) (q_392 E.tb) hn hN hbytes hr d (fun a ha => kk a _ ha hup_eq (fun _ => hup_ne))
theorem nw_L_8 (E : Cx p l s m args meth c cc nL RL D A) (hr : cells + 1 ≤ R.cells ∧ slots + 14 ≤ R.slots) (d : decode cc pc = .ok (.new 8, 3)) (kk : ∀ (a : Nat) (h1 : AH), h a = none → h1 a = some (.inr (7, [.null, .int 0, .null, .int 0, .null, .int 0, .null, .int 0, .null, .int 0, .int 0, .int 0, .long 0, .long 0])) → (∀ x, x ≠ a → h1 x = h x) → J p l e R s m args below meth c D A nL Q (cells + 1) (slots + 14) h1 (pc + 3) lo (.ref a :: st)) : J p l e R s m args below meth c D A nL Q cells slots h pc lo st := j_new E rfl u_X7 tyX7 tyX7_ok (q_47 E.tb) (q_48 E.tb) (q_26 E.tb) (by decide +kernel) hr d (fun a ha => kk a _ ha hup_eq (fun _ => hup_ne))
theorem nw_L_102 (E : Cx p l s m args meth c cc nL RL D A) (hr : cells + 1 ≤ R.cells ∧ slots + 34 ≤ R.slots) (d : decode cc pc = .ok (.new 102, 3)) (kk : ∀ (a : Nat) (h1 : AH), h a = none → h1 a = some (.inr (8, [.null, .null, .int 0, .null, .null, .null, .int 0, .null, .null, .null, .null, .null, .null, .null, .null, .int 0, .null, .null, .null, .int 0, .null, .null, .null, .null, .null, .null, .null, .int 0, .int 0, .int 0, .int 0, .long 0, .long 0, .int 0])) → (∀ x, x ≠ a → h1 x = h x) → J p l e R s m args below meth c D A nL Q (cells + 1) (slots + 34) h1 (pc + 3) lo (.ref a :: st)) : J p l e R s m args below meth c D A nL Q cells slots h pc lo st := j_new E rfl u_X8 tyX8 tyX8_ok (q_753 E.tb) (q_754 E.tb) (q_28 E.tb) (by decide +kernel) hr d (fun a ha => kk a _ ha hup_eq (fun _ => hup_ne))
theorem na_int {own : String} (E : Cx p l s m args meth c cc nL own D A) {n : Int32} {N : Nat} (hn : ¬ n < 0) (hN : n.toNatClampNeg = N) (hbytes : N * 4 ≤ 536870912) (hr : cells + 1 ≤ R.cells ∧ slots + N ≤ R.slots) (d : decode cc pc = .ok (.newarray .int, 2)) (kk : ∀ (a : Nat) (h1 : AH), h a = none → h1 a = some (.inl (.int, (N, .inl (fun _ => 0)))) → (∀ x, x ≠ a → h1 x = h x) → J p l e R s m args below meth c D A nL Q (cells + 1) (slots + N) h1 (pc + 2) lo (.ref a :: st)) : J p l e R s m args below meth c D A nL Q cells slots h pc lo (.int n :: st) := j_newa (atype := .int) E (q_627 E.tb) rfl (fun _ => rfl) hn hN hbytes hr d (fun a ha => kk a _ ha hup_eq (fun _ => hup_ne))
theorem na_long {own : String} (E : Cx p l s m args meth c cc nL own D A) {n : Int32} {N : Nat} (hn : ¬ n < 0) (hN : n.toNatClampNeg = N) (hbytes : N * 8 ≤ 536870912) (hr : cells + 1 ≤ R.cells ∧ slots + N ≤ R.slots) (d : decode cc pc = .ok (.newarray .long, 2)) (kk : ∀ (a : Nat) (h1 : AH), h a = none → h1 a = some (.inl (.long, (N, .inr (.inl (fun _ => 0))))) → (∀ x, x ≠ a → h1 x = h x) → J p l e R s m args below meth c D A nL Q (cells + 1) (slots + N) h1 (pc + 2) lo (.ref a :: st)) : J p l e R s m args below meth c D A nL Q cells slots h pc lo (.int n :: st) := j_newa (atype := .long) E (q_867 E.tb) rfl (fun _ => rfl) hn hN hbytes hr d (fun a ha => kk a _ ha hup_eq (fun _ => hup_ne))
theorem na_double {own : String} (E : Cx p l s m args meth c cc nL own D A) {n : Int32} {N : Nat} (hn : ¬ n < 0) (hN : n.toNatClampNeg = N) (hbytes : N * 8 ≤ 536870912) (hr : cells + 1 ≤ R.cells ∧ slots + N ≤ R.slots) (d : decode cc pc = .ok (.newarray .double, 2)) (kk : ∀ (a : Nat) (h1 : AH), h a = none → h1 a = some (.inl (.double, (N, .inr (.inr (.inr (.inl (fun _ => 0))))))) → (∀ x, x ≠ a → h1 x = h x) → J p l e R s m args below meth c D A nL Q (cells + 1) (slots + N) h1 (pc + 2) lo (.ref a :: st)) : J p l e R s m args below meth c D A nL Q cells slots h pc lo (.int n :: st) := j_newa (atype := .double) E (q_1047 E.tb) rfl (fun _ => rfl) hn hN hbytes hr d (fun a ha => kk a _ ha hup_eq (fun _ => hup_ne))
theorem hd_X0_init : yX0_init.cls ≠ "java/lang/invoke/MethodHandle" ∧ yX0_init.cls ≠ "java/lang/invoke/VarHandle" ∧ (parseMethodDescriptor yX0_init.desc).map (fun d => d.parameters.length) = some 0 := ⟨by decide, by decide, by decide +kernel⟩
theorem hd_X0_failIfWorn : yX0_failIfWorn.cls ≠ "java/lang/invoke/MethodHandle" ∧ yX0_failIfWorn.cls ≠ "java/lang/invoke/VarHandle" ∧ (parseMethodDescriptor yX0_failIfWorn.desc).map (fun d => d.parameters.length) = some 0 := ⟨by decide, by decide, by decide +kernel⟩
theorem hd_X1_init : yX1_init.cls ≠ "java/lang/invoke/MethodHandle" ∧ yX1_init.cls ≠ "java/lang/invoke/VarHandle" ∧ (parseMethodDescriptor yX1_init.desc).map (fun d => d.parameters.length) = some 0 := ⟨by decide, by decide, by decide +kernel⟩
theorem hd_X1_isFull : yX1_isFull.cls ≠ "java/lang/invoke/MethodHandle" ∧ yX1_isFull.cls ≠ "java/lang/invoke/VarHandle" ∧ (parseMethodDescriptor yX1_isFull.desc).map (fun d => d.parameters.length) = some 0 := ⟨by decide, by decide, by decide +kernel⟩
theorem hd_X1_find : yX1_find.cls ≠ "java/lang/invoke/MethodHandle" ∧ yX1_find.cls ≠ "java/lang/invoke/VarHandle" ∧ (parseMethodDescriptor yX1_find.desc).map (fun d => d.parameters.length) = some 1 := ⟨by decide, by decide, by decide +kernel⟩
theorem hd_X1_put : yX1_put.cls ≠ "java/lang/invoke/MethodHandle" ∧ yX1_put.cls ≠ "java/lang/invoke/VarHandle" ∧ (parseMethodDescriptor yX1_put.desc).map (fun d => d.parameters.length) = some 1 := ⟨by decide, by decide, by decide +kernel⟩
theorem hd_X1_takeOut : yX1_takeOut.cls ≠ "java/lang/invoke/MethodHandle" ∧ yX1_takeOut.cls ≠ "java/lang/invoke/VarHandle" ∧ (parseMethodDescriptor yX1_takeOut.desc).map (fun d => d.parameters.length) = some 1 := ⟨by decide, by decide, by decide +kernel⟩
theorem hd_X1_dryGrams : yX1_dryGrams.cls ≠ "java/lang/invoke/MethodHandle" ∧ yX1_dryGrams.cls ≠ "java/lang/invoke/VarHandle" ∧ (parseMethodDescriptor yX1_dryGrams.desc).map (fun d => d.parameters.length) = some 1 := ⟨by decide, by decide, by decide +kernel⟩
theorem hd_X1_draw : yX1_draw.cls ≠ "java/lang/invoke/MethodHandle" ∧ yX1_draw.cls ≠ "java/lang/invoke/VarHandle" ∧ (parseMethodDescriptor yX1_draw.desc).map (fun d => d.parameters.length) = some 2 := ⟨by decide, by decide, by decide +kernel⟩
theorem hd_X1_dryOneHour : yX1_dryOneHour.cls ≠ "java/lang/invoke/MethodHandle" ∧ yX1_dryOneHour.cls ≠ "java/lang/invoke/VarHandle" ∧ (parseMethodDescriptor yX1_dryOneHour.desc).map (fun d => d.parameters.length) = some 0 := ⟨by decide, by decide, by decide +kernel⟩
theorem hd_X2_init : yX2_init.cls ≠ "java/lang/invoke/MethodHandle" ∧ yX2_init.cls ≠ "java/lang/invoke/VarHandle" ∧ (parseMethodDescriptor yX2_init.desc).map (fun d => d.parameters.length) = some 2 := ⟨by decide, by decide, by decide +kernel⟩
theorem hd_X2_hoursLeft : yX2_hoursLeft.cls ≠ "java/lang/invoke/MethodHandle" ∧ yX2_hoursLeft.cls ≠ "java/lang/invoke/VarHandle" ∧ (parseMethodDescriptor yX2_hoursLeft.desc).map (fun d => d.parameters.length) = some 0 := ⟨by decide, by decide, by decide +kernel⟩
theorem hd_X2_isDryOf : yX2_isDryOf.cls ≠ "java/lang/invoke/MethodHandle" ∧ yX2_isDryOf.cls ≠ "java/lang/invoke/VarHandle" ∧ (parseMethodDescriptor yX2_isDryOf.desc).map (fun d => d.parameters.length) = some 1 := ⟨by decide, by decide, by decide +kernel⟩
theorem hd_X3_init : yX3_init.cls ≠ "java/lang/invoke/MethodHandle" ∧ yX3_init.cls ≠ "java/lang/invoke/VarHandle" ∧ (parseMethodDescriptor yX3_init.desc).map (fun d => d.parameters.length) = some 1 := ⟨by decide, by decide, by decide +kernel⟩
theorem hd_X4_init : yX4_init.cls ≠ "java/lang/invoke/MethodHandle" ∧ yX4_init.cls ≠ "java/lang/invoke/VarHandle" ∧ (parseMethodDescriptor yX4_init.desc).map (fun d => d.parameters.length) = some 6 := ⟨by decide, by decide, by decide +kernel⟩
theorem hd_X4_openCavities : yX4_openCavities.cls ≠ "java/lang/invoke/MethodHandle" ∧ yX4_openCavities.cls ≠ "java/lang/invoke/VarHandle" ∧ (parseMethodDescriptor yX4_openCavities.desc).map (fun d => d.parameters.length) = some 0 := ⟨by decide, by decide, by decide +kernel⟩
theorem hd_X4_makeParts : yX4_makeParts.cls ≠ "java/lang/invoke/MethodHandle" ∧ yX4_makeParts.cls ≠ "java/lang/invoke/VarHandle" ∧ (parseMethodDescriptor yX4_makeParts.desc).map (fun d => d.parameters.length) = some 0 := ⟨by decide, by decide, by decide +kernel⟩
theorem hd_X4_shotsOfHour : yX4_shotsOfHour.cls ≠ "java/lang/invoke/MethodHandle" ∧ yX4_shotsOfHour.cls ≠ "java/lang/invoke/VarHandle" ∧ (parseMethodDescriptor yX4_shotsOfHour.desc).map (fun d => d.parameters.length) = some 0 := ⟨by decide, by decide, by decide +kernel⟩
theorem hd_X5_init : yX5_init.cls ≠ "java/lang/invoke/MethodHandle" ∧ yX5_init.cls ≠ "java/lang/invoke/VarHandle" ∧ (parseMethodDescriptor yX5_init.desc).map (fun d => d.parameters.length) = some 4 := ⟨by decide, by decide, by decide +kernel⟩
theorem hd_X5_isOpen : yX5_isOpen.cls ≠ "java/lang/invoke/MethodHandle" ∧ yX5_isOpen.cls ≠ "java/lang/invoke/VarHandle" ∧ (parseMethodDescriptor yX5_isOpen.desc).map (fun d => d.parameters.length) = some 0 := ⟨by decide, by decide, by decide +kernel⟩
theorem hd_X5_keepShot : yX5_keepShot.cls ≠ "java/lang/invoke/MethodHandle" ∧ yX5_keepShot.cls ≠ "java/lang/invoke/VarHandle" ∧ (parseMethodDescriptor yX5_keepShot.desc).map (fun d => d.parameters.length) = some 3 := ⟨by decide, by decide, by decide +kernel⟩
theorem hd_X5_regrindAdded : yX5_regrindAdded.cls ≠ "java/lang/invoke/MethodHandle" ∧ yX5_regrindAdded.cls ≠ "java/lang/invoke/VarHandle" ∧ (parseMethodDescriptor yX5_regrindAdded.desc).map (fun d => d.parameters.length) = some 0 := ⟨by decide, by decide, by decide +kernel⟩
theorem hd_X6_init : yX6_init.cls ≠ "java/lang/invoke/MethodHandle" ∧ yX6_init.cls ≠ "java/lang/invoke/VarHandle" ∧ (parseMethodDescriptor yX6_init.desc).map (fun d => d.parameters.length) = some 1 := ⟨by decide, by decide, by decide +kernel⟩
theorem hd_X7_init : yX7_init.cls ≠ "java/lang/invoke/MethodHandle" ∧ yX7_init.cls ≠ "java/lang/invoke/VarHandle" ∧ (parseMethodDescriptor yX7_init.desc).map (fun d => d.parameters.length) = some 0 := ⟨by decide, by decide, by decide +kernel⟩
theorem hd_X7_addResin : yX7_addResin.cls ≠ "java/lang/invoke/MethodHandle" ∧ yX7_addResin.cls ≠ "java/lang/invoke/VarHandle" ∧ (parseMethodDescriptor yX7_addResin.desc).map (fun d => d.parameters.length) = some 1 := ⟨by decide, by decide, by decide +kernel⟩
theorem hd_X7_fill : yX7_fill.cls ≠ "java/lang/invoke/MethodHandle" ∧ yX7_fill.cls ≠ "java/lang/invoke/VarHandle" ∧ (parseMethodDescriptor yX7_fill.desc).map (fun d => d.parameters.length) = some 2 := ⟨by decide, by decide, by decide +kernel⟩
theorem hd_X7_empty : yX7_empty.cls ≠ "java/lang/invoke/MethodHandle" ∧ yX7_empty.cls ≠ "java/lang/invoke/VarHandle" ∧ (parseMethodDescriptor yX7_empty.desc).map (fun d => d.parameters.length) = some 1 := ⟨by decide, by decide, by decide +kernel⟩
theorem hd_X7_lots : yX7_lots.cls ≠ "java/lang/invoke/MethodHandle" ∧ yX7_lots.cls ≠ "java/lang/invoke/VarHandle" ∧ (parseMethodDescriptor yX7_lots.desc).map (fun d => d.parameters.length) = some 0 := ⟨by decide, by decide, by decide +kernel⟩
theorem hd_X7_hoursToDry : yX7_hoursToDry.cls ≠ "java/lang/invoke/MethodHandle" ∧ yX7_hoursToDry.cls ≠ "java/lang/invoke/VarHandle" ∧ (parseMethodDescriptor yX7_hoursToDry.desc).map (fun d => d.parameters.length) = some 1 := ⟨by decide, by decide, by decide +kernel⟩
theorem hd_X7_dry : yX7_dry.cls ≠ "java/lang/invoke/MethodHandle" ∧ yX7_dry.cls ≠ "java/lang/invoke/VarHandle" ∧ (parseMethodDescriptor yX7_dry.desc).map (fun d => d.parameters.length) = some 1 := ⟨by decide, by decide, by decide +kernel⟩
theorem hd_X7_regrind : yX7_regrind.cls ≠ "java/lang/invoke/MethodHandle" ∧ yX7_regrind.cls ≠ "java/lang/invoke/VarHandle" ∧ (parseMethodDescriptor yX7_regrind.desc).map (fun d => d.parameters.length) = some 1 := ⟨by decide, by decide, by decide +kernel⟩
theorem hd_X7_addMould : yX7_addMould.cls ≠ "java/lang/invoke/MethodHandle" ∧ yX7_addMould.cls ≠ "java/lang/invoke/VarHandle" ∧ (parseMethodDescriptor yX7_addMould.desc).map (fun d => d.parameters.length) = some 5 := ⟨by decide, by decide, by decide +kernel⟩
theorem hd_X7_setLife : yX7_setLife.cls ≠ "java/lang/invoke/MethodHandle" ∧ yX7_setLife.cls ≠ "java/lang/invoke/VarHandle" ∧ (parseMethodDescriptor yX7_setLife.desc).map (fun d => d.parameters.length) = some 3 := ⟨by decide, by decide, by decide +kernel⟩
theorem hd_X7_block : yX7_block.cls ≠ "java/lang/invoke/MethodHandle" ∧ yX7_block.cls ≠ "java/lang/invoke/VarHandle" ∧ (parseMethodDescriptor yX7_block.desc).map (fun d => d.parameters.length) = some 2 := ⟨by decide, by decide, by decide +kernel⟩
theorem hd_X7_repair : yX7_repair.cls ≠ "java/lang/invoke/MethodHandle" ∧ yX7_repair.cls ≠ "java/lang/invoke/VarHandle" ∧ (parseMethodDescriptor yX7_repair.desc).map (fun d => d.parameters.length) = some 2 := ⟨by decide, by decide, by decide +kernel⟩
theorem hd_X7_nextOpen : yX7_nextOpen.cls ≠ "java/lang/invoke/MethodHandle" ∧ yX7_nextOpen.cls ≠ "java/lang/invoke/VarHandle" ∧ (parseMethodDescriptor yX7_nextOpen.desc).map (fun d => d.parameters.length) = some 2 := ⟨by decide, by decide, by decide +kernel⟩
theorem hd_X7_addMachine : yX7_addMachine.cls ≠ "java/lang/invoke/MethodHandle" ∧ yX7_addMachine.cls ≠ "java/lang/invoke/VarHandle" ∧ (parseMethodDescriptor yX7_addMachine.desc).map (fun d => d.parameters.length) = some 1 := ⟨by decide, by decide, by decide +kernel⟩
theorem hd_X7_mount : yX7_mount.cls ≠ "java/lang/invoke/MethodHandle" ∧ yX7_mount.cls ≠ "java/lang/invoke/VarHandle" ∧ (parseMethodDescriptor yX7_mount.desc).map (fun d => d.parameters.length) = some 2 := ⟨by decide, by decide, by decide +kernel⟩
theorem hd_X7_run : yX7_run.cls ≠ "java/lang/invoke/MethodHandle" ∧ yX7_run.cls ≠ "java/lang/invoke/VarHandle" ∧ (parseMethodDescriptor yX7_run.desc).map (fun d => d.parameters.length) = some 2 := ⟨by decide, by decide, by decide +kernel⟩
theorem hd_X7_order : yX7_order.cls ≠ "java/lang/invoke/MethodHandle" ∧ yX7_order.cls ≠ "java/lang/invoke/VarHandle" ∧ (parseMethodDescriptor yX7_order.desc).map (fun d => d.parameters.length) = some 4 := ⟨by decide, by decide, by decide +kernel⟩
theorem hd_X7_lacks : yX7_lacks.cls ≠ "java/lang/invoke/MethodHandle" ∧ yX7_lacks.cls ≠ "java/lang/invoke/VarHandle" ∧ (parseMethodDescriptor yX7_lacks.desc).map (fun d => d.parameters.length) = some 1 := ⟨by decide, by decide, by decide +kernel⟩
theorem hd_X7_hoursNeeded : yX7_hoursNeeded.cls ≠ "java/lang/invoke/MethodHandle" ∧ yX7_hoursNeeded.cls ≠ "java/lang/invoke/VarHandle" ∧ (parseMethodDescriptor yX7_hoursNeeded.desc).map (fun d => d.parameters.length) = some 1 := ⟨by decide, by decide, by decide +kernel⟩
theorem hd_X7_shots : yX7_shots.cls ≠ "java/lang/invoke/MethodHandle" ∧ yX7_shots.cls ≠ "java/lang/invoke/VarHandle" ∧ (parseMethodDescriptor yX7_shots.desc).map (fun d => d.parameters.length) = some 1 := ⟨by decide, by decide, by decide +kernel⟩
theorem hd_X7_regrindIn : yX7_regrindIn.cls ≠ "java/lang/invoke/MethodHandle" ∧ yX7_regrindIn.cls ≠ "java/lang/invoke/VarHandle" ∧ (parseMethodDescriptor yX7_regrindIn.desc).map (fun d => d.parameters.length) = some 1 := ⟨by decide, by decide, by decide +kernel⟩
theorem hd_X7_regrindByShots : yX7_regrindByShots.cls ≠ "java/lang/invoke/MethodHandle" ∧ yX7_regrindByShots.cls ≠ "java/lang/invoke/VarHandle" ∧ (parseMethodDescriptor yX7_regrindByShots.desc).map (fun d => d.parameters.length) = some 1 := ⟨by decide, by decide, by decide +kernel⟩
theorem hd_X7_greatestShare : yX7_greatestShare.cls ≠ "java/lang/invoke/MethodHandle" ∧ yX7_greatestShare.cls ≠ "java/lang/invoke/VarHandle" ∧ (parseMethodDescriptor yX7_greatestShare.desc).map (fun d => d.parameters.length) = some 1 := ⟨by decide, by decide, by decide +kernel⟩
theorem hd_X7_pass : yX7_pass.cls ≠ "java/lang/invoke/MethodHandle" ∧ yX7_pass.cls ≠ "java/lang/invoke/VarHandle" ∧ (parseMethodDescriptor yX7_pass.desc).map (fun d => d.parameters.length) = some 1 := ⟨by decide, by decide, by decide +kernel⟩
theorem hd_X7_hours : yX7_hours.cls ≠ "java/lang/invoke/MethodHandle" ∧ yX7_hours.cls ≠ "java/lang/invoke/VarHandle" ∧ (parseMethodDescriptor yX7_hours.desc).map (fun d => d.parameters.length) = some 0 := ⟨by decide, by decide, by decide +kernel⟩
theorem hd_X7_regrindShare : yX7_regrindShare.cls ≠ "java/lang/invoke/MethodHandle" ∧ yX7_regrindShare.cls ≠ "java/lang/invoke/VarHandle" ∧ (parseMethodDescriptor yX7_regrindShare.desc).map (fun d => d.parameters.length) = some 0 := ⟨by decide, by decide, by decide +kernel⟩
theorem hd_X7_meanParts : yX7_meanParts.cls ≠ "java/lang/invoke/MethodHandle" ∧ yX7_meanParts.cls ≠ "java/lang/invoke/VarHandle" ∧ (parseMethodDescriptor yX7_meanParts.desc).map (fun d => d.parameters.length) = some 0 := ⟨by decide, by decide, by decide +kernel⟩
theorem hd_X7_requireRange : yX7_requireRange.cls ≠ "java/lang/invoke/MethodHandle" ∧ yX7_requireRange.cls ≠ "java/lang/invoke/VarHandle" ∧ (parseMethodDescriptor yX7_requireRange.desc).map (fun d => d.parameters.length) = some 3 := ⟨by decide, by decide, by decide +kernel⟩
theorem hd_X7_resinOf : yX7_resinOf.cls ≠ "java/lang/invoke/MethodHandle" ∧ yX7_resinOf.cls ≠ "java/lang/invoke/VarHandle" ∧ (parseMethodDescriptor yX7_resinOf.desc).map (fun d => d.parameters.length) = some 1 := ⟨by decide, by decide, by decide +kernel⟩
theorem hd_X7_lotOf : yX7_lotOf.cls ≠ "java/lang/invoke/MethodHandle" ∧ yX7_lotOf.cls ≠ "java/lang/invoke/VarHandle" ∧ (parseMethodDescriptor yX7_lotOf.desc).map (fun d => d.parameters.length) = some 1 := ⟨by decide, by decide, by decide +kernel⟩
theorem hd_X7_mouldOf : yX7_mouldOf.cls ≠ "java/lang/invoke/MethodHandle" ∧ yX7_mouldOf.cls ≠ "java/lang/invoke/VarHandle" ∧ (parseMethodDescriptor yX7_mouldOf.desc).map (fun d => d.parameters.length) = some 1 := ⟨by decide, by decide, by decide +kernel⟩
theorem hd_X7_cavityOf : yX7_cavityOf.cls ≠ "java/lang/invoke/MethodHandle" ∧ yX7_cavityOf.cls ≠ "java/lang/invoke/VarHandle" ∧ (parseMethodDescriptor yX7_cavityOf.desc).map (fun d => d.parameters.length) = some 2 := ⟨by decide, by decide, by decide +kernel⟩
theorem hd_X7_machineOf : yX7_machineOf.cls ≠ "java/lang/invoke/MethodHandle" ∧ yX7_machineOf.cls ≠ "java/lang/invoke/VarHandle" ∧ (parseMethodDescriptor yX7_machineOf.desc).map (fun d => d.parameters.length) = some 1 := ⟨by decide, by decide, by decide +kernel⟩
theorem hd_X7_orderOf : yX7_orderOf.cls ≠ "java/lang/invoke/MethodHandle" ∧ yX7_orderOf.cls ≠ "java/lang/invoke/VarHandle" ∧ (parseMethodDescriptor yX7_orderOf.desc).map (fun d => d.parameters.length) = some 1 := ⟨by decide, by decide, by decide +kernel⟩
theorem hd_X7_dividedUp : yX7_dividedUp.cls ≠ "java/lang/invoke/MethodHandle" ∧ yX7_dividedUp.cls ≠ "java/lang/invoke/VarHandle" ∧ (parseMethodDescriptor yX7_dividedUp.desc).map (fun d => d.parameters.length) = some 2 := ⟨by decide, by decide, by decide +kernel⟩
theorem hd_X7_passOneHour : yX7_passOneHour.cls ≠ "java/lang/invoke/MethodHandle" ∧ yX7_passOneHour.cls ≠ "java/lang/invoke/VarHandle" ∧ (parseMethodDescriptor yX7_passOneHour.desc).map (fun d => d.parameters.length) = some 0 := ⟨by decide, by decide, by decide +kernel⟩
theorem hd_X7_workOneHour : yX7_workOneHour.cls ≠ "java/lang/invoke/MethodHandle" ∧ yX7_workOneHour.cls ≠ "java/lang/invoke/VarHandle" ∧ (parseMethodDescriptor yX7_workOneHour.desc).map (fun d => d.parameters.length) = some 1 := ⟨by decide, by decide, by decide +kernel⟩
theorem hd_X7_makeShot : yX7_makeShot.cls ≠ "java/lang/invoke/MethodHandle" ∧ yX7_makeShot.cls ≠ "java/lang/invoke/VarHandle" ∧ (parseMethodDescriptor yX7_makeShot.desc).map (fun d => d.parameters.length) = some 1 := ⟨by decide, by decide, by decide +kernel⟩
theorem hd_X8_init : yX8_init.cls ≠ "java/lang/invoke/MethodHandle" ∧ yX8_init.cls ≠ "java/lang/invoke/VarHandle" ∧ (parseMethodDescriptor yX8_init.desc).map (fun d => d.parameters.length) = some 0 := ⟨by decide, by decide, by decide +kernel⟩
theorem hd_X8_thrown : yX8_thrown.cls ≠ "java/lang/invoke/MethodHandle" ∧ yX8_thrown.cls ≠ "java/lang/invoke/VarHandle" ∧ (parseMethodDescriptor yX8_thrown.desc).map (fun d => d.parameters.length) = some 0 := ⟨by decide, by decide, by decide +kernel⟩
theorem hd_X8_raises : yX8_raises.cls ≠ "java/lang/invoke/MethodHandle" ∧ yX8_raises.cls ≠ "java/lang/invoke/VarHandle" ∧ (parseMethodDescriptor yX8_raises.desc).map (fun d => d.parameters.length) = some 1 := ⟨by decide, by decide, by decide +kernel⟩
theorem hd_X8_in : yX8_in.cls ≠ "java/lang/invoke/MethodHandle" ∧ yX8_in.cls ≠ "java/lang/invoke/VarHandle" ∧ (parseMethodDescriptor yX8_in.desc).map (fun d => d.parameters.length) = some 3 := ⟨by decide, by decide, by decide +kernel⟩
theorem hd_X8_isResin : yX8_isResin.cls ≠ "java/lang/invoke/MethodHandle" ∧ yX8_isResin.cls ≠ "java/lang/invoke/VarHandle" ∧ (parseMethodDescriptor yX8_isResin.desc).map (fun d => d.parameters.length) = some 1 := ⟨by decide, by decide, by decide +kernel⟩
theorem hd_X8_isLot : yX8_isLot.cls ≠ "java/lang/invoke/MethodHandle" ∧ yX8_isLot.cls ≠ "java/lang/invoke/VarHandle" ∧ (parseMethodDescriptor yX8_isLot.desc).map (fun d => d.parameters.length) = some 1 := ⟨by decide, by decide, by decide +kernel⟩
theorem hd_X8_isMould : yX8_isMould.cls ≠ "java/lang/invoke/MethodHandle" ∧ yX8_isMould.cls ≠ "java/lang/invoke/VarHandle" ∧ (parseMethodDescriptor yX8_isMould.desc).map (fun d => d.parameters.length) = some 1 := ⟨by decide, by decide, by decide +kernel⟩
theorem hd_X8_isCavity : yX8_isCavity.cls ≠ "java/lang/invoke/MethodHandle" ∧ yX8_isCavity.cls ≠ "java/lang/invoke/VarHandle" ∧ (parseMethodDescriptor yX8_isCavity.desc).map (fun d => d.parameters.length) = some 2 := ⟨by decide, by decide, by decide +kernel⟩
theorem hd_X8_isMachine : yX8_isMachine.cls ≠ "java/lang/invoke/MethodHandle" ∧ yX8_isMachine.cls ≠ "java/lang/invoke/VarHandle" ∧ (parseMethodDescriptor yX8_isMachine.desc).map (fun d => d.parameters.length) = some 1 := ⟨by decide, by decide, by decide +kernel⟩
theorem hd_X8_isOrder : yX8_isOrder.cls ≠ "java/lang/invoke/MethodHandle" ∧ yX8_isOrder.cls ≠ "java/lang/invoke/VarHandle" ∧ (parseMethodDescriptor yX8_isOrder.desc).map (fun d => d.parameters.length) = some 1 := ⟨by decide, by decide, by decide +kernel⟩
theorem hd_X8_addResin : yX8_addResin.cls ≠ "java/lang/invoke/MethodHandle" ∧ yX8_addResin.cls ≠ "java/lang/invoke/VarHandle" ∧ (parseMethodDescriptor yX8_addResin.desc).map (fun d => d.parameters.length) = some 1 := ⟨by decide, by decide, by decide +kernel⟩
theorem hd_X8_fill : yX8_fill.cls ≠ "java/lang/invoke/MethodHandle" ∧ yX8_fill.cls ≠ "java/lang/invoke/VarHandle" ∧ (parseMethodDescriptor yX8_fill.desc).map (fun d => d.parameters.length) = some 2 := ⟨by decide, by decide, by decide +kernel⟩
theorem hd_X8_leaves : yX8_leaves.cls ≠ "java/lang/invoke/MethodHandle" ∧ yX8_leaves.cls ≠ "java/lang/invoke/VarHandle" ∧ (parseMethodDescriptor yX8_leaves.desc).map (fun d => d.parameters.length) = some 1 := ⟨by decide, by decide, by decide +kernel⟩
theorem hd_X8_empty : yX8_empty.cls ≠ "java/lang/invoke/MethodHandle" ∧ yX8_empty.cls ≠ "java/lang/invoke/VarHandle" ∧ (parseMethodDescriptor yX8_empty.desc).map (fun d => d.parameters.length) = some 1 := ⟨by decide, by decide, by decide +kernel⟩
theorem hd_X8_lots : yX8_lots.cls ≠ "java/lang/invoke/MethodHandle" ∧ yX8_lots.cls ≠ "java/lang/invoke/VarHandle" ∧ (parseMethodDescriptor yX8_lots.desc).map (fun d => d.parameters.length) = some 0 := ⟨by decide, by decide, by decide +kernel⟩
theorem hd_X8_toDry : yX8_toDry.cls ≠ "java/lang/invoke/MethodHandle" ∧ yX8_toDry.cls ≠ "java/lang/invoke/VarHandle" ∧ (parseMethodDescriptor yX8_toDry.desc).map (fun d => d.parameters.length) = some 1 := ⟨by decide, by decide, by decide +kernel⟩
theorem hd_X8_hoursToDry : yX8_hoursToDry.cls ≠ "java/lang/invoke/MethodHandle" ∧ yX8_hoursToDry.cls ≠ "java/lang/invoke/VarHandle" ∧ (parseMethodDescriptor yX8_hoursToDry.desc).map (fun d => d.parameters.length) = some 1 := ⟨by decide, by decide, by decide +kernel⟩
theorem hd_X8_dryOf : yX8_dryOf.cls ≠ "java/lang/invoke/MethodHandle" ∧ yX8_dryOf.cls ≠ "java/lang/invoke/VarHandle" ∧ (parseMethodDescriptor yX8_dryOf.desc).map (fun d => d.parameters.length) = some 1 := ⟨by decide, by decide, by decide +kernel⟩
theorem hd_X8_dry : yX8_dry.cls ≠ "java/lang/invoke/MethodHandle" ∧ yX8_dry.cls ≠ "java/lang/invoke/VarHandle" ∧ (parseMethodDescriptor yX8_dry.desc).map (fun d => d.parameters.length) = some 1 := ⟨by decide, by decide, by decide +kernel⟩
theorem hd_X8_regrind : yX8_regrind.cls ≠ "java/lang/invoke/MethodHandle" ∧ yX8_regrind.cls ≠ "java/lang/invoke/VarHandle" ∧ (parseMethodDescriptor yX8_regrind.desc).map (fun d => d.parameters.length) = some 1 := ⟨by decide, by decide, by decide +kernel⟩
theorem hd_X8_addMould : yX8_addMould.cls ≠ "java/lang/invoke/MethodHandle" ∧ yX8_addMould.cls ≠ "java/lang/invoke/VarHandle" ∧ (parseMethodDescriptor yX8_addMould.desc).map (fun d => d.parameters.length) = some 5 := ⟨by decide, by decide, by decide +kernel⟩
theorem hd_X8_fails : yX8_fails.cls ≠ "java/lang/invoke/MethodHandle" ∧ yX8_fails.cls ≠ "java/lang/invoke/VarHandle" ∧ (parseMethodDescriptor yX8_fails.desc).map (fun d => d.parameters.length) = some 2 := ⟨by decide, by decide, by decide +kernel⟩
theorem hd_X8_setLife : yX8_setLife.cls ≠ "java/lang/invoke/MethodHandle" ∧ yX8_setLife.cls ≠ "java/lang/invoke/VarHandle" ∧ (parseMethodDescriptor yX8_setLife.desc).map (fun d => d.parameters.length) = some 3 := ⟨by decide, by decide, by decide +kernel⟩
theorem hd_X8_open : yX8_open.cls ≠ "java/lang/invoke/MethodHandle" ∧ yX8_open.cls ≠ "java/lang/invoke/VarHandle" ∧ (parseMethodDescriptor yX8_open.desc).map (fun d => d.parameters.length) = some 1 := ⟨by decide, by decide, by decide +kernel⟩
theorem hd_X8_block : yX8_block.cls ≠ "java/lang/invoke/MethodHandle" ∧ yX8_block.cls ≠ "java/lang/invoke/VarHandle" ∧ (parseMethodDescriptor yX8_block.desc).map (fun d => d.parameters.length) = some 2 := ⟨by decide, by decide, by decide +kernel⟩
theorem hd_X8_isMounted : yX8_isMounted.cls ≠ "java/lang/invoke/MethodHandle" ∧ yX8_isMounted.cls ≠ "java/lang/invoke/VarHandle" ∧ (parseMethodDescriptor yX8_isMounted.desc).map (fun d => d.parameters.length) = some 1 := ⟨by decide, by decide, by decide +kernel⟩
theorem hd_X8_repair : yX8_repair.cls ≠ "java/lang/invoke/MethodHandle" ∧ yX8_repair.cls ≠ "java/lang/invoke/VarHandle" ∧ (parseMethodDescriptor yX8_repair.desc).map (fun d => d.parameters.length) = some 2 := ⟨by decide, by decide, by decide +kernel⟩
theorem hd_X8_nextOpen : yX8_nextOpen.cls ≠ "java/lang/invoke/MethodHandle" ∧ yX8_nextOpen.cls ≠ "java/lang/invoke/VarHandle" ∧ (parseMethodDescriptor yX8_nextOpen.desc).map (fun d => d.parameters.length) = some 2 := ⟨by decide, by decide, by decide +kernel⟩
theorem hd_X8_addMachine : yX8_addMachine.cls ≠ "java/lang/invoke/MethodHandle" ∧ yX8_addMachine.cls ≠ "java/lang/invoke/VarHandle" ∧ (parseMethodDescriptor yX8_addMachine.desc).map (fun d => d.parameters.length) = some 1 := ⟨by decide, by decide, by decide +kernel⟩
theorem hd_X8_mount : yX8_mount.cls ≠ "java/lang/invoke/MethodHandle" ∧ yX8_mount.cls ≠ "java/lang/invoke/VarHandle" ∧ (parseMethodDescriptor yX8_mount.desc).map (fun d => d.parameters.length) = some 2 := ⟨by decide, by decide, by decide +kernel⟩
theorem hd_X8_run : yX8_run.cls ≠ "java/lang/invoke/MethodHandle" ∧ yX8_run.cls ≠ "java/lang/invoke/VarHandle" ∧ (parseMethodDescriptor yX8_run.desc).map (fun d => d.parameters.length) = some 2 := ⟨by decide, by decide, by decide +kernel⟩
theorem hd_X8_order : yX8_order.cls ≠ "java/lang/invoke/MethodHandle" ∧ yX8_order.cls ≠ "java/lang/invoke/VarHandle" ∧ (parseMethodDescriptor yX8_order.desc).map (fun d => d.parameters.length) = some 4 := ⟨by decide, by decide, by decide +kernel⟩
theorem hd_X8_lacks : yX8_lacks.cls ≠ "java/lang/invoke/MethodHandle" ∧ yX8_lacks.cls ≠ "java/lang/invoke/VarHandle" ∧ (parseMethodDescriptor yX8_lacks.desc).map (fun d => d.parameters.length) = some 1 := ⟨by decide, by decide, by decide +kernel⟩
theorem hd_X8_hoursNeeded : yX8_hoursNeeded.cls ≠ "java/lang/invoke/MethodHandle" ∧ yX8_hoursNeeded.cls ≠ "java/lang/invoke/VarHandle" ∧ (parseMethodDescriptor yX8_hoursNeeded.desc).map (fun d => d.parameters.length) = some 1 := ⟨by decide, by decide, by decide +kernel⟩
theorem hd_X8_shots : yX8_shots.cls ≠ "java/lang/invoke/MethodHandle" ∧ yX8_shots.cls ≠ "java/lang/invoke/VarHandle" ∧ (parseMethodDescriptor yX8_shots.desc).map (fun d => d.parameters.length) = some 1 := ⟨by decide, by decide, by decide +kernel⟩
theorem hd_X8_regrindIn : yX8_regrindIn.cls ≠ "java/lang/invoke/MethodHandle" ∧ yX8_regrindIn.cls ≠ "java/lang/invoke/VarHandle" ∧ (parseMethodDescriptor yX8_regrindIn.desc).map (fun d => d.parameters.length) = some 1 := ⟨by decide, by decide, by decide +kernel⟩
theorem hd_X8_regrindByShots : yX8_regrindByShots.cls ≠ "java/lang/invoke/MethodHandle" ∧ yX8_regrindByShots.cls ≠ "java/lang/invoke/VarHandle" ∧ (parseMethodDescriptor yX8_regrindByShots.desc).map (fun d => d.parameters.length) = some 1 := ⟨by decide, by decide, by decide +kernel⟩
theorem hd_X8_greatestShare : yX8_greatestShare.cls ≠ "java/lang/invoke/MethodHandle" ∧ yX8_greatestShare.cls ≠ "java/lang/invoke/VarHandle" ∧ (parseMethodDescriptor yX8_greatestShare.desc).map (fun d => d.parameters.length) = some 1 := ⟨by decide, by decide, by decide +kernel⟩
theorem hd_X8_takes : yX8_takes.cls ≠ "java/lang/invoke/MethodHandle" ∧ yX8_takes.cls ≠ "java/lang/invoke/VarHandle" ∧ (parseMethodDescriptor yX8_takes.desc).map (fun d => d.parameters.length) = some 2 := ⟨by decide, by decide, by decide +kernel⟩
theorem hd_X8_shoots : yX8_shoots.cls ≠ "java/lang/invoke/MethodHandle" ∧ yX8_shoots.cls ≠ "java/lang/invoke/VarHandle" ∧ (parseMethodDescriptor yX8_shoots.desc).map (fun d => d.parameters.length) = some 1 := ⟨by decide, by decide, by decide +kernel⟩
theorem hd_X8_hour : yX8_hour.cls ≠ "java/lang/invoke/MethodHandle" ∧ yX8_hour.cls ≠ "java/lang/invoke/VarHandle" ∧ (parseMethodDescriptor yX8_hour.desc).map (fun d => d.parameters.length) = some 0 := ⟨by decide, by decide, by decide +kernel⟩
theorem hd_X8_pass : yX8_pass.cls ≠ "java/lang/invoke/MethodHandle" ∧ yX8_pass.cls ≠ "java/lang/invoke/VarHandle" ∧ (parseMethodDescriptor yX8_pass.desc).map (fun d => d.parameters.length) = some 1 := ⟨by decide, by decide, by decide +kernel⟩
theorem hd_X8_hours : yX8_hours.cls ≠ "java/lang/invoke/MethodHandle" ∧ yX8_hours.cls ≠ "java/lang/invoke/VarHandle" ∧ (parseMethodDescriptor yX8_hours.desc).map (fun d => d.parameters.length) = some 0 := ⟨by decide, by decide, by decide +kernel⟩
theorem hd_X8_regrindShare : yX8_regrindShare.cls ≠ "java/lang/invoke/MethodHandle" ∧ yX8_regrindShare.cls ≠ "java/lang/invoke/VarHandle" ∧ (parseMethodDescriptor yX8_regrindShare.desc).map (fun d => d.parameters.length) = some 0 := ⟨by decide, by decide, by decide +kernel⟩
theorem hd_X8_meanParts : yX8_meanParts.cls ≠ "java/lang/invoke/MethodHandle" ∧ yX8_meanParts.cls ≠ "java/lang/invoke/VarHandle" ∧ (parseMethodDescriptor yX8_meanParts.desc).map (fun d => d.parameters.length) = some 0 := ⟨by decide, by decide, by decide +kernel⟩
theorem hd_L_addResin : yL_addResin.cls ≠ "java/lang/invoke/MethodHandle" ∧ yL_addResin.cls ≠ "java/lang/invoke/VarHandle" ∧ (parseMethodDescriptor yL_addResin.desc).map (fun d => d.parameters.length) = some 3 := ⟨by decide, by decide, by decide +kernel⟩
theorem hd_L_fill : yL_fill.cls ≠ "java/lang/invoke/MethodHandle" ∧ yL_fill.cls ≠ "java/lang/invoke/VarHandle" ∧ (parseMethodDescriptor yL_fill.desc).map (fun d => d.parameters.length) = some 4 := ⟨by decide, by decide, by decide +kernel⟩
theorem hd_L_empty : yL_empty.cls ≠ "java/lang/invoke/MethodHandle" ∧ yL_empty.cls ≠ "java/lang/invoke/VarHandle" ∧ (parseMethodDescriptor yL_empty.desc).map (fun d => d.parameters.length) = some 3 := ⟨by decide, by decide, by decide +kernel⟩
theorem hd_L_hoursToDry : yL_hoursToDry.cls ≠ "java/lang/invoke/MethodHandle" ∧ yL_hoursToDry.cls ≠ "java/lang/invoke/VarHandle" ∧ (parseMethodDescriptor yL_hoursToDry.desc).map (fun d => d.parameters.length) = some 3 := ⟨by decide, by decide, by decide +kernel⟩
theorem hd_L_dry : yL_dry.cls ≠ "java/lang/invoke/MethodHandle" ∧ yL_dry.cls ≠ "java/lang/invoke/VarHandle" ∧ (parseMethodDescriptor yL_dry.desc).map (fun d => d.parameters.length) = some 3 := ⟨by decide, by decide, by decide +kernel⟩
theorem hd_L_regrind : yL_regrind.cls ≠ "java/lang/invoke/MethodHandle" ∧ yL_regrind.cls ≠ "java/lang/invoke/VarHandle" ∧ (parseMethodDescriptor yL_regrind.desc).map (fun d => d.parameters.length) = some 3 := ⟨by decide, by decide, by decide +kernel⟩
theorem hd_L_addMould : yL_addMould.cls ≠ "java/lang/invoke/MethodHandle" ∧ yL_addMould.cls ≠ "java/lang/invoke/VarHandle" ∧ (parseMethodDescriptor yL_addMould.desc).map (fun d => d.parameters.length) = some 7 := ⟨by decide, by decide, by decide +kernel⟩
theorem hd_L_setLife : yL_setLife.cls ≠ "java/lang/invoke/MethodHandle" ∧ yL_setLife.cls ≠ "java/lang/invoke/VarHandle" ∧ (parseMethodDescriptor yL_setLife.desc).map (fun d => d.parameters.length) = some 5 := ⟨by decide, by decide, by decide +kernel⟩
theorem hd_L_block : yL_block.cls ≠ "java/lang/invoke/MethodHandle" ∧ yL_block.cls ≠ "java/lang/invoke/VarHandle" ∧ (parseMethodDescriptor yL_block.desc).map (fun d => d.parameters.length) = some 4 := ⟨by decide, by decide, by decide +kernel⟩
theorem hd_L_repair : yL_repair.cls ≠ "java/lang/invoke/MethodHandle" ∧ yL_repair.cls ≠ "java/lang/invoke/VarHandle" ∧ (parseMethodDescriptor yL_repair.desc).map (fun d => d.parameters.length) = some 4 := ⟨by decide, by decide, by decide +kernel⟩
theorem hd_L_nextOpen : yL_nextOpen.cls ≠ "java/lang/invoke/MethodHandle" ∧ yL_nextOpen.cls ≠ "java/lang/invoke/VarHandle" ∧ (parseMethodDescriptor yL_nextOpen.desc).map (fun d => d.parameters.length) = some 4 := ⟨by decide, by decide, by decide +kernel⟩
theorem hd_L_addMachine : yL_addMachine.cls ≠ "java/lang/invoke/MethodHandle" ∧ yL_addMachine.cls ≠ "java/lang/invoke/VarHandle" ∧ (parseMethodDescriptor yL_addMachine.desc).map (fun d => d.parameters.length) = some 3 := ⟨by decide, by decide, by decide +kernel⟩
theorem hd_L_mount : yL_mount.cls ≠ "java/lang/invoke/MethodHandle" ∧ yL_mount.cls ≠ "java/lang/invoke/VarHandle" ∧ (parseMethodDescriptor yL_mount.desc).map (fun d => d.parameters.length) = some 4 := ⟨by decide, by decide, by decide +kernel⟩
theorem hd_L_run : yL_run.cls ≠ "java/lang/invoke/MethodHandle" ∧ yL_run.cls ≠ "java/lang/invoke/VarHandle" ∧ (parseMethodDescriptor yL_run.desc).map (fun d => d.parameters.length) = some 4 := ⟨by decide, by decide, by decide +kernel⟩
theorem hd_L_order : yL_order.cls ≠ "java/lang/invoke/MethodHandle" ∧ yL_order.cls ≠ "java/lang/invoke/VarHandle" ∧ (parseMethodDescriptor yL_order.desc).map (fun d => d.parameters.length) = some 6 := ⟨by decide, by decide, by decide +kernel⟩
theorem hd_L_lacks : yL_lacks.cls ≠ "java/lang/invoke/MethodHandle" ∧ yL_lacks.cls ≠ "java/lang/invoke/VarHandle" ∧ (parseMethodDescriptor yL_lacks.desc).map (fun d => d.parameters.length) = some 3 := ⟨by decide, by decide, by decide +kernel⟩
theorem hd_L_hoursNeeded : yL_hoursNeeded.cls ≠ "java/lang/invoke/MethodHandle" ∧ yL_hoursNeeded.cls ≠ "java/lang/invoke/VarHandle" ∧ (parseMethodDescriptor yL_hoursNeeded.desc).map (fun d => d.parameters.length) = some 3 := ⟨by decide, by decide, by decide +kernel⟩
theorem hd_L_shots : yL_shots.cls ≠ "java/lang/invoke/MethodHandle" ∧ yL_shots.cls ≠ "java/lang/invoke/VarHandle" ∧ (parseMethodDescriptor yL_shots.desc).map (fun d => d.parameters.length) = some 3 := ⟨by decide, by decide, by decide +kernel⟩
theorem hd_L_regrindIn : yL_regrindIn.cls ≠ "java/lang/invoke/MethodHandle" ∧ yL_regrindIn.cls ≠ "java/lang/invoke/VarHandle" ∧ (parseMethodDescriptor yL_regrindIn.desc).map (fun d => d.parameters.length) = some 3 := ⟨by decide, by decide, by decide +kernel⟩
theorem hd_L_regrindByShots : yL_regrindByShots.cls ≠ "java/lang/invoke/MethodHandle" ∧ yL_regrindByShots.cls ≠ "java/lang/invoke/VarHandle" ∧ (parseMethodDescriptor yL_regrindByShots.desc).map (fun d => d.parameters.length) = some 3 := ⟨by decide, by decide, by decide +kernel⟩
theorem hd_L_greatestShare : yL_greatestShare.cls ≠ "java/lang/invoke/MethodHandle" ∧ yL_greatestShare.cls ≠ "java/lang/invoke/VarHandle" ∧ (parseMethodDescriptor yL_greatestShare.desc).map (fun d => d.parameters.length) = some 3 := ⟨by decide, by decide, by decide +kernel⟩
theorem hd_L_pass : yL_pass.cls ≠ "java/lang/invoke/MethodHandle" ∧ yL_pass.cls ≠ "java/lang/invoke/VarHandle" ∧ (parseMethodDescriptor yL_pass.desc).map (fun d => d.parameters.length) = some 3 := ⟨by decide, by decide, by decide +kernel⟩
theorem hd_L_regrindShare : yL_regrindShare.cls ≠ "java/lang/invoke/MethodHandle" ∧ yL_regrindShare.cls ≠ "java/lang/invoke/VarHandle" ∧ (parseMethodDescriptor yL_regrindShare.desc).map (fun d => d.parameters.length) = some 2 := ⟨by decide, by decide, by decide +kernel⟩
theorem hd_L_meanParts : yL_meanParts.cls ≠ "java/lang/invoke/MethodHandle" ∧ yL_meanParts.cls ≠ "java/lang/invoke/VarHandle" ∧ (parseMethodDescriptor yL_meanParts.desc).map (fun d => d.parameters.length) = some 2 := ⟨by decide, by decide, by decide +kernel⟩
theorem hd_L_law : yL_law.cls ≠ "java/lang/invoke/MethodHandle" ∧ yL_law.cls ≠ "java/lang/invoke/VarHandle" ∧ (parseMethodDescriptor yL_law.desc).map (fun d => d.parameters.length) = some 1 := ⟨by decide, by decide, by decide +kernel⟩
theorem cw_X7_35 (E : Cx p l s m args meth c cc nL RX7 D A) {f L mc ms : Nat} {rest : List Value} (hr : f + 1 ≤ R.frames ∧ 8 + (1 + 11) + L ≤ R.locals ∧ cells + mc ≤ R.cells ∧ slots + ms ≤ R.slots ∧ (rest.map fun v => v.category).sum ≤ 8) : CW R s args RX7 35 yX1_init cX1_init 1 none f L mc ms 0 cells slots rest := ⟨q_65 E.tb, q_67 E.tb, q_27 E.tb, hd_X1_init, hr⟩
theorem cw_X7_40 (E : Cx p l s m args meth c cc nL RX7 D A) {f L mc ms : Nat} {rest : List Value} (hr : f + 1 ≤ R.frames ∧ 8 + (3 + 11) + L ≤ R.locals ∧ cells + mc ≤ R.cells ∧ slots + ms ≤ R.slots ∧ (rest.map fun v => v.category).sum ≤ 8) : CW R s args RX7 40 yX7_requireRange cX7_requireRange 3 none f L mc ms 3 cells slots rest := ⟨q_139 E.tb, q_141 E.tb, q_26 E.tb, hd_X7_requireRange, hr⟩
theorem cw_X7_55 (E : Cx p l s m args meth c cc nL RX7 D A) {f L mc ms : Nat} {rest : List Value} (hr : f + 1 ≤ R.frames ∧ 8 + (2 + 11) + L ≤ R.locals ∧ cells + mc ≤ R.cells ∧ slots + ms ≤ R.slots ∧ (rest.map fun v => v.category).sum ≤ 8) : CW R s args RX7 55 yX6_init cX6_init 2 none f L mc ms 1 cells slots rest := ⟨q_231 E.tb, q_233 E.tb, q_34 E.tb, hd_X6_init, hr⟩
theorem cw_X7_58 (E : Cx p l s m args meth c cc nL RX7 D A) {f L mc ms : Nat} {rest : List Value} (hr : f + 1 ≤ R.frames ∧ 8 + (3 + 11) + L ≤ R.locals ∧ cells + mc ≤ R.cells ∧ slots + ms ≤ R.slots ∧ (rest.map fun v => v.category).sum ≤ 8) : CW R s args RX7 58 yX7_resinOf cX7_resinOf 3 (some (.object "MouldDesk$Resin")) f L mc ms 1 cells slots rest := ⟨q_274 E.tb, q_277 E.tb, q_26 E.tb, hd_X7_resinOf, hr⟩
theorem cw_X7_63 (E : Cx p l s m args meth c cc nL RX7 D A) {f L mc ms : Nat} {rest : List Value} (hr : f + 1 ≤ R.frames ∧ 8 + (1 + 11) + L ≤ R.locals ∧ cells + mc ≤ R.cells ∧ slots + ms ≤ R.slots ∧ (rest.map fun v => v.category).sum ≤ 8) : CW R s args RX7 63 yX1_isFull cX1_isFull 1 (some .boolean) f L mc ms 0 cells slots rest := ⟨q_292 E.tb, q_295 E.tb, q_27 E.tb, hd_X1_isFull, hr⟩
theorem cw_X7_71 (E : Cx p l s m args meth c cc nL RX7 D A) {f L mc ms : Nat} {rest : List Value} (hr : f + 1 ≤ R.frames ∧ 8 + (3 + 11) + L ≤ R.locals ∧ cells + mc ≤ R.cells ∧ slots + ms ≤ R.slots ∧ (rest.map fun v => v.category).sum ≤ 8) : CW R s args RX7 71 yX2_init cX2_init 3 none f L mc ms 2 cells slots rest := ⟨q_299 E.tb, q_301 E.tb, q_38 E.tb, hd_X2_init, hr⟩
theorem cw_X7_74 (E : Cx p l s m args meth c cc nL RX7 D A) {f L mc ms : Nat} {rest : List Value} (hr : f + 1 ≤ R.frames ∧ 8 + (2 + 11) + L ≤ R.locals ∧ cells + mc ≤ R.cells ∧ slots + ms ≤ R.slots ∧ (rest.map fun v => v.category).sum ≤ 8) : CW R s args RX7 74 yX1_put cX1_put 2 none f L mc ms 1 cells slots rest := ⟨q_316 E.tb, q_319 E.tb, q_27 E.tb, hd_X1_put, hr⟩
theorem cw_X7_81 (E : Cx p l s m args meth c cc nL RX7 D A) {f L mc ms : Nat} {rest : List Value} (hr : f + 1 ≤ R.frames ∧ 8 + (3 + 11) + L ≤ R.locals ∧ cells + mc ≤ R.cells ∧ slots + ms ≤ R.slots ∧ (rest.map fun v => v.category).sum ≤ 8) : CW R s args RX7 81 yX7_lotOf cX7_lotOf 3 (some (.object "MouldDesk$Lot")) f L mc ms 1 cells slots rest := ⟨q_327 E.tb, q_330 E.tb, q_26 E.tb, hd_X7_lotOf, hr⟩
theorem cw_X7_88 (E : Cx p l s m args meth c cc nL RX7 D A) {f L mc ms : Nat} {rest : List Value} (hr : f + 1 ≤ R.frames ∧ 8 + (4 + 11) + L ≤ R.locals ∧ cells + mc ≤ R.cells ∧ slots + ms ≤ R.slots ∧ (rest.map fun v => v.category).sum ≤ 8) : CW R s args RX7 88 yX1_takeOut cX1_takeOut 4 none f L mc ms 1 cells slots rest := ⟨q_336 E.tb, q_339 E.tb, q_27 E.tb, hd_X1_takeOut, hr⟩
theorem cw_X7_91 (E : Cx p l s m args meth c cc nL RX7 D A) {f L mc ms : Nat} {rest : List Value} (hr : f + 1 ≤ R.frames ∧ 8 + (1 + 11) + L ≤ R.locals ∧ cells + mc ≤ R.cells ∧ slots + ms ≤ R.slots ∧ (rest.map fun v => v.category).sum ≤ 8) : CW R s args RX7 91 yX2_hoursLeft cX2_hoursLeft 1 (some .int) f L mc ms 0 cells slots rest := ⟨q_347 E.tb, q_350 E.tb, q_38 E.tb, hd_X2_hoursLeft, hr⟩
theorem cw_X7_95 (E : Cx p l s m args meth c cc nL RX7 D A) {f L mc ms : Nat} {rest : List Value} (hr : f + 1 ≤ R.frames ∧ 8 + (5 + 11) + L ≤ R.locals ∧ cells + mc ≤ R.cells ∧ slots + ms ≤ R.slots ∧ (rest.map fun v => v.category).sum ≤ 8) : CW R s args RX7 95 yX1_dryGrams cX1_dryGrams 5 (some .int) f L mc ms 1 cells slots rest := ⟨q_361 E.tb, q_364 E.tb, q_27 E.tb, hd_X1_dryGrams, hr⟩
theorem cw_X7_107 (E : Cx p l s m args meth c cc nL RX7 D A) {f L mc ms : Nat} {rest : List Value} (hr : f + 1 ≤ R.frames ∧ 8 + (8 + 11) + L ≤ R.locals ∧ cells + mc ≤ R.cells ∧ slots + ms ≤ R.slots ∧ (rest.map fun v => v.category).sum ≤ 8) : CW R s args RX7 107 yX4_init cX4_init 8 none f L mc ms 6 cells slots rest := ⟨q_386 E.tb, q_388 E.tb, q_40 E.tb, hd_X4_init, hr⟩
theorem cw_X7_110 (E : Cx p l s m args meth c cc nL RX7 D A) {f L mc ms : Nat} {rest : List Value} (hr : f + 1 ≤ R.frames ∧ 8 + (3 + 11) + L ≤ R.locals ∧ cells + mc ≤ R.cells ∧ slots + ms ≤ R.slots ∧ (rest.map fun v => v.category).sum ≤ 8) : CW R s args RX7 110 yX7_mouldOf cX7_mouldOf 3 (some (.object "MouldDesk$Mould")) f L mc ms 1 cells slots rest := ⟨q_447 E.tb, q_450 E.tb, q_26 E.tb, hd_X7_mouldOf, hr⟩
theorem cw_X7_114 (E : Cx p l s m args meth c cc nL RX7 D A) {f L mc ms : Nat} {rest : List Value} (hr : f + 1 ≤ R.frames ∧ 8 + (4 + 11) + L ≤ R.locals ∧ cells + mc ≤ R.cells ∧ slots + ms ≤ R.slots ∧ (rest.map fun v => v.category).sum ≤ 8) : CW R s args RX7 114 yX7_cavityOf cX7_cavityOf 4 (some (.object "MouldDesk$Cavity")) f L mc ms 2 cells slots rest := ⟨q_452 E.tb, q_454 E.tb, q_26 E.tb, hd_X7_cavityOf, hr⟩
theorem cw_X7_123 (E : Cx p l s m args meth c cc nL RX7 D A) {f L mc ms : Nat} {rest : List Value} (hr : f + 1 ≤ R.frames ∧ 8 + (1 + 11) + L ≤ R.locals ∧ cells + mc ≤ R.cells ∧ slots + ms ≤ R.slots ∧ (rest.map fun v => v.category).sum ≤ 8) : CW R s args RX7 123 yX0_failIfWorn cX0_failIfWorn 1 none f L mc ms 0 cells slots rest := ⟨q_456 E.tb, q_459 E.tb, q_41 E.tb, hd_X0_failIfWorn, hr⟩
theorem cw_X7_135 (E : Cx p l s m args meth c cc nL RX7 D A) {f L mc ms : Nat} {rest : List Value} (hr : f + 1 ≤ R.frames ∧ 8 + (4 + 11) + L ≤ R.locals ∧ cells + mc ≤ R.cells ∧ slots + ms ≤ R.slots ∧ (rest.map fun v => v.category).sum ≤ 8) : CW R s args RX7 135 yX4_openCavities cX4_openCavities 4 (some .int) f L mc ms 0 cells slots rest := ⟨q_468 E.tb, q_471 E.tb, q_40 E.tb, hd_X4_openCavities, hr⟩
theorem cw_X7_163 (E : Cx p l s m args meth c cc nL RX7 D A) {f L mc ms : Nat} {rest : List Value} (hr : f + 1 ≤ R.frames ∧ 8 + (2 + 11) + L ≤ R.locals ∧ cells + mc ≤ R.cells ∧ slots + ms ≤ R.slots ∧ (rest.map fun v => v.category).sum ≤ 8) : CW R s args RX7 163 yX3_init cX3_init 2 none f L mc ms 1 cells slots rest := ⟨q_514 E.tb, q_516 E.tb, q_43 E.tb, hd_X3_init, hr⟩
theorem cw_X7_164 (E : Cx p l s m args meth c cc nL RX7 D A) {f L mc ms : Nat} {rest : List Value} (hr : f + 1 ≤ R.frames ∧ 8 + (3 + 11) + L ≤ R.locals ∧ cells + mc ≤ R.cells ∧ slots + ms ≤ R.slots ∧ (rest.map fun v => v.category).sum ≤ 8) : CW R s args RX7 164 yX7_machineOf cX7_machineOf 3 (some (.object "MouldDesk$Machine")) f L mc ms 1 cells slots rest := ⟨q_537 E.tb, q_540 E.tb, q_26 E.tb, hd_X7_machineOf, hr⟩
theorem cw_X7_190 (E : Cx p l s m args meth c cc nL RX7 D A) {f L mc ms : Nat} {rest : List Value} (hr : f + 1 ≤ R.frames ∧ 8 + (3 + 11) + L ≤ R.locals ∧ cells + mc ≤ R.cells ∧ slots + ms ≤ R.slots ∧ (rest.map fun v => v.category).sum ≤ 8) : CW R s args RX7 190 yX7_orderOf cX7_orderOf 3 (some (.object "MouldDesk$Order")) f L mc ms 1 cells slots rest := ⟨q_566 E.tb, q_569 E.tb, q_26 E.tb, hd_X7_orderOf, hr⟩
theorem cw_X7_197 (E : Cx p l s m args meth c cc nL RX7 D A) {f L mc ms : Nat} {rest : List Value} (hr : f + 1 ≤ R.frames ∧ 8 + (1 + 11) + L ≤ R.locals ∧ cells + mc ≤ R.cells ∧ slots + ms ≤ R.slots ∧ (rest.map fun v => v.category).sum ≤ 8) : CW R s args RX7 197 yX5_isOpen cX5_isOpen 1 (some .boolean) f L mc ms 0 cells slots rest := ⟨q_572 E.tb, q_575 E.tb, q_45 E.tb, hd_X5_isOpen, hr⟩
theorem cw_X7_202 (E : Cx p l s m args meth c cc nL RX7 D A) {f L mc ms : Nat} {rest : List Value} (hr : f + 1 ≤ R.frames ∧ 8 + (1 + 11) + L ≤ R.locals ∧ cells + mc ≤ R.cells ∧ slots + ms ≤ R.slots ∧ (rest.map fun v => v.category).sum ≤ 8) : CW R s args RX7 202 yX4_shotsOfHour cX4_shotsOfHour 1 (some .int) f L mc ms 0 cells slots rest := ⟨q_577 E.tb, q_580 E.tb, q_40 E.tb, hd_X4_shotsOfHour, hr⟩
theorem cw_X7_210 (E : Cx p l s m args meth c cc nL RX7 D A) {f L mc ms : Nat} {rest : List Value} (hr : f + 1 ≤ R.frames ∧ 8 + (5 + 11) + L ≤ R.locals ∧ cells + mc ≤ R.cells ∧ slots + ms ≤ R.slots ∧ (rest.map fun v => v.category).sum ≤ 8) : CW R s args RX7 210 yX5_init cX5_init 5 none f L mc ms 4 cells slots rest := ⟨q_590 E.tb, q_592 E.tb, q_45 E.tb, hd_X5_init, hr⟩
theorem cw_X7_218 (E : Cx p l s m args meth c cc nL RX7 D A) {f L mc ms : Nat} {rest : List Value} (hr : f + 1 ≤ R.frames ∧ 8 + (2 + 11) + L ≤ R.locals ∧ cells + mc ≤ R.cells ∧ slots + ms ≤ R.slots ∧ (rest.map fun v => v.category).sum ≤ 8) : CW R s args RX7 218 yX7_dividedUp cX7_dividedUp 2 (some .int) f L mc ms 2 cells slots rest := ⟨q_643 E.tb, q_645 E.tb, q_26 E.tb, hd_X7_dividedUp, hr⟩
theorem cw_X7_228 (E : Cx p l s m args meth c cc nL RX7 D A) {f L mc ms : Nat} {rest : List Value} (hr : f + 1 ≤ R.frames ∧ 8 + (5 + 11) + L ≤ R.locals ∧ cells + mc ≤ R.cells ∧ slots + ms ≤ R.slots ∧ (rest.map fun v => v.category).sum ≤ 8) : CW R s args RX7 228 yX5_regrindAdded cX5_regrindAdded 5 (some .long) f L mc ms 0 cells slots rest := ⟨q_667 E.tb, q_670 E.tb, q_45 E.tb, hd_X5_regrindAdded, hr⟩
theorem cw_X7_242 (E : Cx p l s m args meth c cc nL RX7 D A) {f L mc ms : Nat} {rest : List Value} (hr : f + 1 ≤ R.frames ∧ 8 + (4 + 11) + L ≤ R.locals ∧ cells + mc ≤ R.cells ∧ slots + ms ≤ R.slots ∧ (rest.map fun v => v.category).sum ≤ 8) : CW R s args RX7 242 yX7_passOneHour cX7_passOneHour 4 (some .int) f L mc ms 0 cells slots rest := ⟨q_690 E.tb, q_693 E.tb, q_26 E.tb, hd_X7_passOneHour, hr⟩
theorem cw_X7_272 (E : Cx p l s m args meth c cc nL RX7 D A) {f L mc ms : Nat} {rest : List Value} (hr : f + 1 ≤ R.frames ∧ 8 + (2 + 11) + L ≤ R.locals ∧ cells + mc ≤ R.cells ∧ slots + ms ≤ R.slots ∧ (rest.map fun v => v.category).sum ≤ 8) : CW R s args RX7 272 yX1_find cX1_find 2 (some (.object "MouldDesk$Lot")) f L mc ms 1 cells slots rest := ⟨q_331 E.tb, q_334 E.tb, q_27 E.tb, hd_X1_find, hr⟩
theorem cw_X7_285 (E : Cx p l s m args meth c cc nL RX7 D A) {f L mc ms : Nat} {rest : List Value} (hr : f + 1 ≤ R.frames ∧ 8 + (7 + 11) + L ≤ R.locals ∧ cells + mc ≤ R.cells ∧ slots + ms ≤ R.slots ∧ (rest.map fun v => v.category).sum ≤ 8) : CW R s args RX7 285 yX7_workOneHour cX7_workOneHour 7 (some .int) f L mc ms 1 cells slots rest := ⟨q_694 E.tb, q_697 E.tb, q_26 E.tb, hd_X7_workOneHour, hr⟩
theorem cw_X7_289 (E : Cx p l s m args meth c cc nL RX7 D A) {f L mc ms : Nat} {rest : List Value} (hr : f + 1 ≤ R.frames ∧ 8 + (3 + 11) + L ≤ R.locals ∧ cells + mc ≤ R.cells ∧ slots + ms ≤ R.slots ∧ (rest.map fun v => v.category).sum ≤ 8) : CW R s args RX7 289 yX1_dryOneHour cX1_dryOneHour 3 none f L mc ms 0 cells slots rest := ⟨q_717 E.tb, q_720 E.tb, q_27 E.tb, hd_X1_dryOneHour, hr⟩
theorem cw_X7_292 (E : Cx p l s m args meth c cc nL RX7 D A) {f L mc ms : Nat} {rest : List Value} (hr : f + 1 ≤ R.frames ∧ 8 + (9 + 11) + L ≤ R.locals ∧ cells + mc ≤ R.cells ∧ slots + ms ≤ R.slots ∧ (rest.map fun v => v.category).sum ≤ 8) : CW R s args RX7 292 yX7_makeShot cX7_makeShot 9 (some .boolean) f L mc ms 1 cells slots rest := ⟨q_698 E.tb, q_701 E.tb, q_26 E.tb, hd_X7_makeShot, hr⟩
theorem cw_X7_312 (E : Cx p l s m args meth c cc nL RX7 D A) {f L mc ms : Nat} {rest : List Value} (hr : f + 1 ≤ R.frames ∧ 8 + (7 + 11) + L ≤ R.locals ∧ cells + mc ≤ R.cells ∧ slots + ms ≤ R.slots ∧ (rest.map fun v => v.category).sum ≤ 8) : CW R s args RX7 312 yX1_draw cX1_draw 7 none f L mc ms 2 cells slots rest := ⟨q_703 E.tb, q_706 E.tb, q_27 E.tb, hd_X1_draw, hr⟩
theorem cw_X7_315 (E : Cx p l s m args meth c cc nL RX7 D A) {f L mc ms : Nat} {rest : List Value} (hr : f + 1 ≤ R.frames ∧ 8 + (3 + 11) + L ≤ R.locals ∧ cells + mc ≤ R.cells ∧ slots + ms ≤ R.slots ∧ (rest.map fun v => v.category).sum ≤ 8) : CW R s args RX7 315 yX4_makeParts cX4_makeParts 3 none f L mc ms 0 cells slots rest := ⟨q_708 E.tb, q_711 E.tb, q_40 E.tb, hd_X4_makeParts, hr⟩
theorem cw_X7_318 (E : Cx p l s m args meth c cc nL RX7 D A) {f L mc ms : Nat} {rest : List Value} (hr : f + 1 ≤ R.frames ∧ 8 + (4 + 11) + L ≤ R.locals ∧ cells + mc ≤ R.cells ∧ slots + ms ≤ R.slots ∧ (rest.map fun v => v.category).sum ≤ 8) : CW R s args RX7 318 yX5_keepShot cX5_keepShot 4 none f L mc ms 3 cells slots rest := ⟨q_713 E.tb, q_716 E.tb, q_45 E.tb, hd_X5_keepShot, hr⟩
theorem cw_X1_21 (E : Cx p l s m args meth c cc nL RX1 D A) {f L mc ms : Nat} {rest : List Value} (hr : f + 1 ≤ R.frames ∧ 8 + (2 + 11) + L ≤ R.locals ∧ cells + mc ≤ R.cells ∧ slots + ms ≤ R.slots ∧ (rest.map fun v => v.category).sum ≤ 8) : CW R s args RX1 21 yX2_isDryOf cX2_isDryOf 2 (some .boolean) f L mc ms 1 cells slots rest := ⟨q_365 E.tb, q_368 E.tb, q_38 E.tb, hd_X2_isDryOf, hr⟩
theorem cw_X1_37 (E : Cx p l s m args meth c cc nL RX1 D A) {f L mc ms : Nat} {rest : List Value} (hr : f + 1 ≤ R.frames ∧ 8 + (4 + 11) + L ≤ R.locals ∧ cells + mc ≤ R.cells ∧ slots + ms ≤ R.slots ∧ (rest.map fun v => v.category).sum ≤ 8) : CW R s args RX1 37 yX1_takeOut cX1_takeOut 4 none f L mc ms 1 cells slots rest := ⟨q_721 E.tb, q_339 E.tb, q_27 E.tb, hd_X1_takeOut, hr⟩
theorem cw_X2_31 (E : Cx p l s m args meth c cc nL RX2 D A) {f L mc ms : Nat} {rest : List Value} (hr : f + 1 ≤ R.frames ∧ 8 + (1 + 11) + L ≤ R.locals ∧ cells + mc ≤ R.cells ∧ slots + ms ≤ R.slots ∧ (rest.map fun v => v.category).sum ≤ 8) : CW R s args RX2 31 yX2_hoursLeft cX2_hoursLeft 1 (some .int) f L mc ms 0 cells slots rest := ⟨q_369 E.tb, q_350 E.tb, q_38 E.tb, hd_X2_hoursLeft, hr⟩
theorem cw_X4_39 (E : Cx p l s m args meth c cc nL RX4 D A) {f L mc ms : Nat} {rest : List Value} (hr : f + 1 ≤ R.frames ∧ 8 + (1 + 11) + L ≤ R.locals ∧ cells + mc ≤ R.cells ∧ slots + ms ≤ R.slots ∧ (rest.map fun v => v.category).sum ≤ 8) : CW R s args RX4 39 yX0_init cX0_init 1 none f L mc ms 0 cells slots rest := ⟨q_394 E.tb, q_396 E.tb, q_41 E.tb, hd_X0_init, hr⟩
theorem cw_X4_47 (E : Cx p l s m args meth c cc nL RX4 D A) {f L mc ms : Nat} {rest : List Value} (hr : f + 1 ≤ R.frames ∧ 8 + (1 + 11) + L ≤ R.locals ∧ cells + mc ≤ R.cells ∧ slots + ms ≤ R.slots ∧ (rest.map fun v => v.category).sum ≤ 8) : CW R s args RX4 47 yX0_failIfWorn cX0_failIfWorn 1 none f L mc ms 0 cells slots rest := ⟨q_712 E.tb, q_459 E.tb, q_41 E.tb, hd_X0_failIfWorn, hr⟩
theorem cw_L_7 (E : Cx p l s m args meth c cc nL RL D A) {f L mc ms : Nat} {rest : List Value} (hr : f + 1 ≤ R.frames ∧ 8 + (3 + 11) + L ≤ R.locals ∧ cells + mc ≤ R.cells ∧ slots + ms ≤ R.slots ∧ (rest.map fun v => v.category).sum ≤ 8) : CW R s args RL 7 yX7_addResin cX7_addResin 3 (some .int) f L mc ms 1 cells slots rest := ⟨q_135 E.tb, q_138 E.tb, q_26 E.tb, hd_X7_addResin, hr⟩
theorem cw_L_17 (E : Cx p l s m args meth c cc nL RL D A) {f L mc ms : Nat} {rest : List Value} (hr : f + 1 ≤ R.frames ∧ 8 + (4 + 11) + L ≤ R.locals ∧ cells + mc ≤ R.cells ∧ slots + ms ≤ R.slots ∧ (rest.map fun v => v.category).sum ≤ 8) : CW R s args RL 17 yX7_fill cX7_fill 4 (some .int) f L mc ms 2 cells slots rest := ⟨q_270 E.tb, q_273 E.tb, q_26 E.tb, hd_X7_fill, hr⟩
theorem cw_L_23 (E : Cx p l s m args meth c cc nL RL D A) {f L mc ms : Nat} {rest : List Value} (hr : f + 1 ≤ R.frames ∧ 8 + (3 + 11) + L ≤ R.locals ∧ cells + mc ≤ R.cells ∧ slots + ms ≤ R.slots ∧ (rest.map fun v => v.category).sum ≤ 8) : CW R s args RL 23 yX7_empty cX7_empty 3 (some .int) f L mc ms 1 cells slots rest := ⟨q_323 E.tb, q_326 E.tb, q_26 E.tb, hd_X7_empty, hr⟩
theorem cw_L_26 (E : Cx p l s m args meth c cc nL RL D A) {f L mc ms : Nat} {rest : List Value} (hr : f + 1 ≤ R.frames ∧ 8 + (2 + 11) + L ≤ R.locals ∧ cells + mc ≤ R.cells ∧ slots + ms ≤ R.slots ∧ (rest.map fun v => v.category).sum ≤ 8) : CW R s args RL 26 yX7_hoursToDry cX7_hoursToDry 2 (some .int) f L mc ms 1 cells slots rest := ⟨q_343 E.tb, q_346 E.tb, q_26 E.tb, hd_X7_hoursToDry, hr⟩
theorem cw_L_29 (E : Cx p l s m args meth c cc nL RL D A) {f L mc ms : Nat} {rest : List Value} (hr : f + 1 ≤ R.frames ∧ 8 + (2 + 11) + L ≤ R.locals ∧ cells + mc ≤ R.cells ∧ slots + ms ≤ R.slots ∧ (rest.map fun v => v.category).sum ≤ 8) : CW R s args RL 29 yX7_dry cX7_dry 2 (some .int) f L mc ms 1 cells slots rest := ⟨q_357 E.tb, q_360 E.tb, q_26 E.tb, hd_X7_dry, hr⟩
theorem cw_L_32 (E : Cx p l s m args meth c cc nL RL D A) {f L mc ms : Nat} {rest : List Value} (hr : f + 1 ≤ R.frames ∧ 8 + (2 + 11) + L ≤ R.locals ∧ cells + mc ≤ R.cells ∧ slots + ms ≤ R.slots ∧ (rest.map fun v => v.category).sum ≤ 8) : CW R s args RL 32 yX7_regrind cX7_regrind 2 (some .int) f L mc ms 1 cells slots rest := ⟨q_373 E.tb, q_376 E.tb, q_26 E.tb, hd_X7_regrind, hr⟩
theorem cw_L_35 (E : Cx p l s m args meth c cc nL RL D A) {f L mc ms : Nat} {rest : List Value} (hr : f + 1 ≤ R.frames ∧ 8 + (7 + 11) + L ≤ R.locals ∧ cells + mc ≤ R.cells ∧ slots + ms ≤ R.slots ∧ (rest.map fun v => v.category).sum ≤ 8) : CW R s args RL 35 yX7_addMould cX7_addMould 7 (some .int) f L mc ms 5 cells slots rest := ⟨q_380 E.tb, q_383 E.tb, q_26 E.tb, hd_X7_addMould, hr⟩
theorem cw_L_39 (E : Cx p l s m args meth c cc nL RL D A) {f L mc ms : Nat} {rest : List Value} (hr : f + 1 ≤ R.frames ∧ 8 + (5 + 11) + L ≤ R.locals ∧ cells + mc ≤ R.cells ∧ slots + ms ≤ R.slots ∧ (rest.map fun v => v.category).sum ≤ 8) : CW R s args RL 39 yX7_setLife cX7_setLife 5 (some .int) f L mc ms 3 cells slots rest := ⟨q_443 E.tb, q_446 E.tb, q_26 E.tb, hd_X7_setLife, hr⟩
theorem cw_L_43 (E : Cx p l s m args meth c cc nL RL D A) {f L mc ms : Nat} {rest : List Value} (hr : f + 1 ≤ R.frames ∧ 8 + (5 + 11) + L ≤ R.locals ∧ cells + mc ≤ R.cells ∧ slots + ms ≤ R.slots ∧ (rest.map fun v => v.category).sum ≤ 8) : CW R s args RL 43 yX7_block cX7_block 5 (some .int) f L mc ms 2 cells slots rest := ⟨q_463 E.tb, q_466 E.tb, q_26 E.tb, hd_X7_block, hr⟩
theorem cw_L_46 (E : Cx p l s m args meth c cc nL RL D A) {f L mc ms : Nat} {rest : List Value} (hr : f + 1 ≤ R.frames ∧ 8 + (5 + 11) + L ≤ R.locals ∧ cells + mc ≤ R.cells ∧ slots + ms ≤ R.slots ∧ (rest.map fun v => v.category).sum ≤ 8) : CW R s args RL 46 yX7_repair cX7_repair 5 (some .int) f L mc ms 2 cells slots rest := ⟨q_475 E.tb, q_478 E.tb, q_26 E.tb, hd_X7_repair, hr⟩
theorem cw_L_49 (E : Cx p l s m args meth c cc nL RL D A) {f L mc ms : Nat} {rest : List Value} (hr : f + 1 ≤ R.frames ∧ 8 + (6 + 11) + L ≤ R.locals ∧ cells + mc ≤ R.cells ∧ slots + ms ≤ R.slots ∧ (rest.map fun v => v.category).sum ≤ 8) : CW R s args RL 49 yX7_nextOpen cX7_nextOpen 6 (some .int) f L mc ms 2 cells slots rest := ⟨q_484 E.tb, q_487 E.tb, q_26 E.tb, hd_X7_nextOpen, hr⟩
theorem cw_L_54 (E : Cx p l s m args meth c cc nL RL D A) {f L mc ms : Nat} {rest : List Value} (hr : f + 1 ≤ R.frames ∧ 8 + (3 + 11) + L ≤ R.locals ∧ cells + mc ≤ R.cells ∧ slots + ms ≤ R.slots ∧ (rest.map fun v => v.category).sum ≤ 8) : CW R s args RL 54 yX7_addMachine cX7_addMachine 3 (some .int) f L mc ms 1 cells slots rest := ⟨q_508 E.tb, q_511 E.tb, q_26 E.tb, hd_X7_addMachine, hr⟩
theorem cw_L_57 (E : Cx p l s m args meth c cc nL RL D A) {f L mc ms : Nat} {rest : List Value} (hr : f + 1 ≤ R.frames ∧ 8 + (6 + 11) + L ≤ R.locals ∧ cells + mc ≤ R.cells ∧ slots + ms ≤ R.slots ∧ (rest.map fun v => v.category).sum ≤ 8) : CW R s args RL 57 yX7_mount cX7_mount 6 (some .int) f L mc ms 2 cells slots rest := ⟨q_533 E.tb, q_536 E.tb, q_26 E.tb, hd_X7_mount, hr⟩
theorem cw_L_62 (E : Cx p l s m args meth c cc nL RL D A) {f L mc ms : Nat} {rest : List Value} (hr : f + 1 ≤ R.frames ∧ 8 + (5 + 11) + L ≤ R.locals ∧ cells + mc ≤ R.cells ∧ slots + ms ≤ R.slots ∧ (rest.map fun v => v.category).sum ≤ 8) : CW R s args RL 62 yX7_run cX7_run 5 (some .int) f L mc ms 2 cells slots rest := ⟨q_562 E.tb, q_565 E.tb, q_26 E.tb, hd_X7_run, hr⟩
theorem cw_L_65 (E : Cx p l s m args meth c cc nL RL D A) {f L mc ms : Nat} {rest : List Value} (hr : f + 1 ≤ R.frames ∧ 8 + (8 + 11) + L ≤ R.locals ∧ cells + mc ≤ R.cells ∧ slots + ms ≤ R.slots ∧ (rest.map fun v => v.category).sum ≤ 8) : CW R s args RL 65 yX7_order cX7_order 8 (some .int) f L mc ms 4 cells slots rest := ⟨q_584 E.tb, q_587 E.tb, q_26 E.tb, hd_X7_order, hr⟩
theorem cw_L_69 (E : Cx p l s m args meth c cc nL RL D A) {f L mc ms : Nat} {rest : List Value} (hr : f + 1 ≤ R.frames ∧ 8 + (2 + 11) + L ≤ R.locals ∧ cells + mc ≤ R.cells ∧ slots + ms ≤ R.slots ∧ (rest.map fun v => v.category).sum ≤ 8) : CW R s args RL 69 yX7_lacks cX7_lacks 2 (some .int) f L mc ms 1 cells slots rest := ⟨q_631 E.tb, q_634 E.tb, q_26 E.tb, hd_X7_lacks, hr⟩
theorem cw_L_72 (E : Cx p l s m args meth c cc nL RL D A) {f L mc ms : Nat} {rest : List Value} (hr : f + 1 ≤ R.frames ∧ 8 + (4 + 11) + L ≤ R.locals ∧ cells + mc ≤ R.cells ∧ slots + ms ≤ R.slots ∧ (rest.map fun v => v.category).sum ≤ 8) : CW R s args RL 72 yX7_hoursNeeded cX7_hoursNeeded 4 (some .int) f L mc ms 1 cells slots rest := ⟨q_638 E.tb, q_641 E.tb, q_26 E.tb, hd_X7_hoursNeeded, hr⟩
theorem cw_L_75 (E : Cx p l s m args meth c cc nL RL D A) {f L mc ms : Nat} {rest : List Value} (hr : f + 1 ≤ R.frames ∧ 8 + (2 + 11) + L ≤ R.locals ∧ cells + mc ≤ R.cells ∧ slots + ms ≤ R.slots ∧ (rest.map fun v => v.category).sum ≤ 8) : CW R s args RL 75 yX7_shots cX7_shots 2 (some .int) f L mc ms 1 cells slots rest := ⟨q_649 E.tb, q_652 E.tb, q_26 E.tb, hd_X7_shots, hr⟩
theorem cw_L_78 (E : Cx p l s m args meth c cc nL RL D A) {f L mc ms : Nat} {rest : List Value} (hr : f + 1 ≤ R.frames ∧ 8 + (2 + 11) + L ≤ R.locals ∧ cells + mc ≤ R.cells ∧ slots + ms ≤ R.slots ∧ (rest.map fun v => v.category).sum ≤ 8) : CW R s args RL 78 yX7_regrindIn cX7_regrindIn 2 (some .long) f L mc ms 1 cells slots rest := ⟨q_656 E.tb, q_659 E.tb, q_26 E.tb, hd_X7_regrindIn, hr⟩
theorem cw_L_82 (E : Cx p l s m args meth c cc nL RL D A) {f L mc ms : Nat} {rest : List Value} (hr : f + 1 ≤ R.frames ∧ 8 + (2 + 11) + L ≤ R.locals ∧ cells + mc ≤ R.cells ∧ slots + ms ≤ R.slots ∧ (rest.map fun v => v.category).sum ≤ 8) : CW R s args RL 82 yX7_regrindByShots cX7_regrindByShots 2 (some .long) f L mc ms 1 cells slots rest := ⟨q_663 E.tb, q_666 E.tb, q_26 E.tb, hd_X7_regrindByShots, hr⟩
theorem cw_L_85 (E : Cx p l s m args meth c cc nL RL D A) {f L mc ms : Nat} {rest : List Value} (hr : f + 1 ≤ R.frames ∧ 8 + (3 + 11) + L ≤ R.locals ∧ cells + mc ≤ R.cells ∧ slots + ms ≤ R.slots ∧ (rest.map fun v => v.category).sum ≤ 8) : CW R s args RL 85 yX7_greatestShare cX7_greatestShare 3 (some .int) f L mc ms 1 cells slots rest := ⟨q_677 E.tb, q_680 E.tb, q_26 E.tb, hd_X7_greatestShare, hr⟩
theorem cw_L_88 (E : Cx p l s m args meth c cc nL RL D A) {f L mc ms : Nat} {rest : List Value} (hr : f + 1 ≤ R.frames ∧ 8 + (4 + 11) + L ≤ R.locals ∧ cells + mc ≤ R.cells ∧ slots + ms ≤ R.slots ∧ (rest.map fun v => v.category).sum ≤ 8) : CW R s args RL 88 yX7_pass cX7_pass 4 (some .int) f L mc ms 1 cells slots rest := ⟨q_685 E.tb, q_688 E.tb, q_26 E.tb, hd_X7_pass, hr⟩
theorem cw_L_91 (E : Cx p l s m args meth c cc nL RL D A) {f L mc ms : Nat} {rest : List Value} (hr : f + 1 ≤ R.frames ∧ 8 + (1 + 11) + L ≤ R.locals ∧ cells + mc ≤ R.cells ∧ slots + ms ≤ R.slots ∧ (rest.map fun v => v.category).sum ≤ 8) : CW R s args RL 91 yX7_regrindShare cX7_regrindShare 1 (some .float) f L mc ms 0 cells slots rest := ⟨q_739 E.tb, q_742 E.tb, q_26 E.tb, hd_X7_regrindShare, hr⟩
theorem cw_L_97 (E : Cx p l s m args meth c cc nL RL D A) {f L mc ms : Nat} {rest : List Value} (hr : f + 1 ≤ R.frames ∧ 8 + (1 + 11) + L ≤ R.locals ∧ cells + mc ≤ R.cells ∧ slots + ms ≤ R.slots ∧ (rest.map fun v => v.category).sum ≤ 8) : CW R s args RL 97 yX7_meanParts cX7_meanParts 1 (some .double) f L mc ms 0 cells slots rest := ⟨q_749 E.tb, q_752 E.tb, q_26 E.tb, hd_X7_meanParts, hr⟩
theorem cw_L_101 (E : Cx p l s m args meth c cc nL RL D A) {f L mc ms : Nat} {rest : List Value} (hr : f + 1 ≤ R.frames ∧ 8 + (1 + 11) + L ≤ R.locals ∧ cells + mc ≤ R.cells ∧ slots + ms ≤ R.slots ∧ (rest.map fun v => v.category).sum ≤ 8) : CW R s args RL 101 yX7_init cX7_init 1 none f L mc ms 0 cells slots rest := ⟨q_49 E.tb, q_51 E.tb, q_26 E.tb, hd_X7_init, hr⟩
theorem cw_L_104 (E : Cx p l s m args meth c cc nL RL D A) {f L mc ms : Nat} {rest : List Value} (hr : f + 1 ≤ R.frames ∧ 8 + (1 + 11) + L ≤ R.locals ∧ cells + mc ≤ R.cells ∧ slots + ms ≤ R.slots ∧ (rest.map fun v => v.category).sum ≤ 8) : CW R s args RL 104 yX8_init cX8_init 1 none f L mc ms 0 cells slots rest := ⟨q_755 E.tb, q_757 E.tb, q_28 E.tb, hd_X8_init, hr⟩
theorem cw_L_110 (E : Cx p l s m args meth c cc nL RL D A) {f L mc ms : Nat} {rest : List Value} (hr : f + 1 ≤ R.frames ∧ 8 + (2 + 11) + L ≤ R.locals ∧ cells + mc ≤ R.cells ∧ slots + ms ≤ R.slots ∧ (rest.map fun v => v.category).sum ≤ 8) : CW R s args RL 110 yX8_addResin cX8_addResin 2 (some .int) f L mc ms 1 cells slots rest := ⟨q_872 E.tb, q_875 E.tb, q_28 E.tb, hd_X8_addResin, hr⟩
theorem cw_L_111 (E : Cx p l s m args meth c cc nL RL D A) {f L mc ms : Nat} {rest : List Value} (hr : f + 1 ≤ R.frames ∧ 8 + (1 + 11) + L ≤ R.locals ∧ cells + mc ≤ R.cells ∧ slots + ms ≤ R.slots ∧ (rest.map fun v => v.category).sum ≤ 8) : CW R s args RL 111 yX8_thrown cX8_thrown 1 (some .int) f L mc ms 0 cells slots rest := ⟨q_868 E.tb, q_871 E.tb, q_28 E.tb, hd_X8_thrown, hr⟩
theorem cw_L_118 (E : Cx p l s m args meth c cc nL RL D A) {f L mc ms : Nat} {rest : List Value} (hr : f + 1 ≤ R.frames ∧ 8 + (3 + 11) + L ≤ R.locals ∧ cells + mc ≤ R.cells ∧ slots + ms ≤ R.slots ∧ (rest.map fun v => v.category).sum ≤ 8) : CW R s args RL 118 yX8_fill cX8_fill 3 (some .int) f L mc ms 2 cells slots rest := ⟨q_879 E.tb, q_882 E.tb, q_28 E.tb, hd_X8_fill, hr⟩
theorem cw_L_121 (E : Cx p l s m args meth c cc nL RL D A) {f L mc ms : Nat} {rest : List Value} (hr : f + 1 ≤ R.frames ∧ 8 + (3 + 11) + L ≤ R.locals ∧ cells + mc ≤ R.cells ∧ slots + ms ≤ R.slots ∧ (rest.map fun v => v.category).sum ≤ 8) : CW R s args RL 121 yX8_empty cX8_empty 3 (some .int) f L mc ms 1 cells slots rest := ⟨q_888 E.tb, q_891 E.tb, q_28 E.tb, hd_X8_empty, hr⟩
theorem cw_L_122 (E : Cx p l s m args meth c cc nL RL D A) {f L mc ms : Nat} {rest : List Value} (hr : f + 1 ≤ R.frames ∧ 8 + (1 + 11) + L ≤ R.locals ∧ cells + mc ≤ R.cells ∧ slots + ms ≤ R.slots ∧ (rest.map fun v => v.category).sum ≤ 8) : CW R s args RL 122 yX7_lots cX7_lots 1 (some .int) f L mc ms 0 cells slots rest := ⟨q_122 E.tb, q_125 E.tb, q_26 E.tb, hd_X7_lots, hr⟩
theorem cw_L_125 (E : Cx p l s m args meth c cc nL RL D A) {f L mc ms : Nat} {rest : List Value} (hr : f + 1 ≤ R.frames ∧ 8 + (1 + 11) + L ≤ R.locals ∧ cells + mc ≤ R.cells ∧ slots + ms ≤ R.slots ∧ (rest.map fun v => v.category).sum ≤ 8) : CW R s args RL 125 yX8_lots cX8_lots 1 (some .int) f L mc ms 0 cells slots rest := ⟨q_900 E.tb, q_903 E.tb, q_28 E.tb, hd_X8_lots, hr⟩
theorem cw_L_128 (E : Cx p l s m args meth c cc nL RL D A) {f L mc ms : Nat} {rest : List Value} (hr : f + 1 ≤ R.frames ∧ 8 + (2 + 11) + L ≤ R.locals ∧ cells + mc ≤ R.cells ∧ slots + ms ≤ R.slots ∧ (rest.map fun v => v.category).sum ≤ 8) : CW R s args RL 128 yX8_hoursToDry cX8_hoursToDry 2 (some .int) f L mc ms 1 cells slots rest := ⟨q_904 E.tb, q_907 E.tb, q_28 E.tb, hd_X8_hoursToDry, hr⟩
theorem cw_L_131 (E : Cx p l s m args meth c cc nL RL D A) {f L mc ms : Nat} {rest : List Value} (hr : f + 1 ≤ R.frames ∧ 8 + (2 + 11) + L ≤ R.locals ∧ cells + mc ≤ R.cells ∧ slots + ms ≤ R.slots ∧ (rest.map fun v => v.category).sum ≤ 8) : CW R s args RL 131 yX8_dry cX8_dry 2 (some .int) f L mc ms 1 cells slots rest := ⟨q_913 E.tb, q_916 E.tb, q_28 E.tb, hd_X8_dry, hr⟩
theorem cw_L_134 (E : Cx p l s m args meth c cc nL RL D A) {f L mc ms : Nat} {rest : List Value} (hr : f + 1 ≤ R.frames ∧ 8 + (2 + 11) + L ≤ R.locals ∧ cells + mc ≤ R.cells ∧ slots + ms ≤ R.slots ∧ (rest.map fun v => v.category).sum ≤ 8) : CW R s args RL 134 yX8_regrind cX8_regrind 2 (some .int) f L mc ms 1 cells slots rest := ⟨q_921 E.tb, q_924 E.tb, q_28 E.tb, hd_X8_regrind, hr⟩
theorem cw_L_138 (E : Cx p l s m args meth c cc nL RL D A) {f L mc ms : Nat} {rest : List Value} (hr : f + 1 ≤ R.frames ∧ 8 + (8 + 11) + L ≤ R.locals ∧ cells + mc ≤ R.cells ∧ slots + ms ≤ R.slots ∧ (rest.map fun v => v.category).sum ≤ 8) : CW R s args RL 138 yX8_addMould cX8_addMould 8 (some .int) f L mc ms 5 cells slots rest := ⟨q_925 E.tb, q_928 E.tb, q_28 E.tb, hd_X8_addMould, hr⟩
theorem cw_L_142 (E : Cx p l s m args meth c cc nL RL D A) {f L mc ms : Nat} {rest : List Value} (hr : f + 1 ≤ R.frames ∧ 8 + (4 + 11) + L ≤ R.locals ∧ cells + mc ≤ R.cells ∧ slots + ms ≤ R.slots ∧ (rest.map fun v => v.category).sum ≤ 8) : CW R s args RL 142 yX8_setLife cX8_setLife 4 (some .int) f L mc ms 3 cells slots rest := ⟨q_929 E.tb, q_932 E.tb, q_28 E.tb, hd_X8_setLife, hr⟩
theorem cw_L_145 (E : Cx p l s m args meth c cc nL RL D A) {f L mc ms : Nat} {rest : List Value} (hr : f + 1 ≤ R.frames ∧ 8 + (3 + 11) + L ≤ R.locals ∧ cells + mc ≤ R.cells ∧ slots + ms ≤ R.slots ∧ (rest.map fun v => v.category).sum ≤ 8) : CW R s args RL 145 yX8_block cX8_block 3 (some .int) f L mc ms 2 cells slots rest := ⟨q_945 E.tb, q_948 E.tb, q_28 E.tb, hd_X8_block, hr⟩
theorem cw_L_148 (E : Cx p l s m args meth c cc nL RL D A) {f L mc ms : Nat} {rest : List Value} (hr : f + 1 ≤ R.frames ∧ 8 + (3 + 11) + L ≤ R.locals ∧ cells + mc ≤ R.cells ∧ slots + ms ≤ R.slots ∧ (rest.map fun v => v.category).sum ≤ 8) : CW R s args RL 148 yX8_repair cX8_repair 3 (some .int) f L mc ms 2 cells slots rest := ⟨q_953 E.tb, q_956 E.tb, q_28 E.tb, hd_X8_repair, hr⟩
theorem cw_L_151 (E : Cx p l s m args meth c cc nL RL D A) {f L mc ms : Nat} {rest : List Value} (hr : f + 1 ≤ R.frames ∧ 8 + (4 + 11) + L ≤ R.locals ∧ cells + mc ≤ R.cells ∧ slots + ms ≤ R.slots ∧ (rest.map fun v => v.category).sum ≤ 8) : CW R s args RL 151 yX8_nextOpen cX8_nextOpen 4 (some .int) f L mc ms 2 cells slots rest := ⟨q_961 E.tb, q_964 E.tb, q_28 E.tb, hd_X8_nextOpen, hr⟩
theorem cw_L_154 (E : Cx p l s m args meth c cc nL RL D A) {f L mc ms : Nat} {rest : List Value} (hr : f + 1 ≤ R.frames ∧ 8 + (2 + 11) + L ≤ R.locals ∧ cells + mc ≤ R.cells ∧ slots + ms ≤ R.slots ∧ (rest.map fun v => v.category).sum ≤ 8) : CW R s args RL 154 yX8_addMachine cX8_addMachine 2 (some .int) f L mc ms 1 cells slots rest := ⟨q_969 E.tb, q_972 E.tb, q_28 E.tb, hd_X8_addMachine, hr⟩
theorem cw_L_157 (E : Cx p l s m args meth c cc nL RL D A) {f L mc ms : Nat} {rest : List Value} (hr : f + 1 ≤ R.frames ∧ 8 + (4 + 11) + L ≤ R.locals ∧ cells + mc ≤ R.cells ∧ slots + ms ≤ R.slots ∧ (rest.map fun v => v.category).sum ≤ 8) : CW R s args RL 157 yX8_mount cX8_mount 4 (some .int) f L mc ms 2 cells slots rest := ⟨q_973 E.tb, q_976 E.tb, q_28 E.tb, hd_X8_mount, hr⟩
theorem cw_L_160 (E : Cx p l s m args meth c cc nL RL D A) {f L mc ms : Nat} {rest : List Value} (hr : f + 1 ≤ R.frames ∧ 8 + (3 + 11) + L ≤ R.locals ∧ cells + mc ≤ R.cells ∧ slots + ms ≤ R.slots ∧ (rest.map fun v => v.category).sum ≤ 8) : CW R s args RL 160 yX8_run cX8_run 3 (some .int) f L mc ms 2 cells slots rest := ⟨q_981 E.tb, q_984 E.tb, q_28 E.tb, hd_X8_run, hr⟩
theorem cw_L_164 (E : Cx p l s m args meth c cc nL RL D A) {f L mc ms : Nat} {rest : List Value} (hr : f + 1 ≤ R.frames ∧ 8 + (5 + 11) + L ≤ R.locals ∧ cells + mc ≤ R.cells ∧ slots + ms ≤ R.slots ∧ (rest.map fun v => v.category).sum ≤ 8) : CW R s args RL 164 yX8_order cX8_order 5 (some .int) f L mc ms 4 cells slots rest := ⟨q_989 E.tb, q_992 E.tb, q_28 E.tb, hd_X8_order, hr⟩
theorem cw_L_167 (E : Cx p l s m args meth c cc nL RL D A) {f L mc ms : Nat} {rest : List Value} (hr : f + 1 ≤ R.frames ∧ 8 + (2 + 11) + L ≤ R.locals ∧ cells + mc ≤ R.cells ∧ slots + ms ≤ R.slots ∧ (rest.map fun v => v.category).sum ≤ 8) : CW R s args RL 167 yX8_lacks cX8_lacks 2 (some .int) f L mc ms 1 cells slots rest := ⟨q_993 E.tb, q_996 E.tb, q_28 E.tb, hd_X8_lacks, hr⟩
theorem cw_L_170 (E : Cx p l s m args meth c cc nL RL D A) {f L mc ms : Nat} {rest : List Value} (hr : f + 1 ≤ R.frames ∧ 8 + (5 + 11) + L ≤ R.locals ∧ cells + mc ≤ R.cells ∧ slots + ms ≤ R.slots ∧ (rest.map fun v => v.category).sum ≤ 8) : CW R s args RL 170 yX8_hoursNeeded cX8_hoursNeeded 5 (some .int) f L mc ms 1 cells slots rest := ⟨q_997 E.tb, q_1000 E.tb, q_28 E.tb, hd_X8_hoursNeeded, hr⟩
theorem cw_L_173 (E : Cx p l s m args meth c cc nL RL D A) {f L mc ms : Nat} {rest : List Value} (hr : f + 1 ≤ R.frames ∧ 8 + (2 + 11) + L ≤ R.locals ∧ cells + mc ≤ R.cells ∧ slots + ms ≤ R.slots ∧ (rest.map fun v => v.category).sum ≤ 8) : CW R s args RL 173 yX8_shots cX8_shots 2 (some .int) f L mc ms 1 cells slots rest := ⟨q_1001 E.tb, q_1004 E.tb, q_28 E.tb, hd_X8_shots, hr⟩
theorem cw_L_176 (E : Cx p l s m args meth c cc nL RL D A) {f L mc ms : Nat} {rest : List Value} (hr : f + 1 ≤ R.frames ∧ 8 + (2 + 11) + L ≤ R.locals ∧ cells + mc ≤ R.cells ∧ slots + ms ≤ R.slots ∧ (rest.map fun v => v.category).sum ≤ 8) : CW R s args RL 176 yX8_regrindIn cX8_regrindIn 2 (some .long) f L mc ms 1 cells slots rest := ⟨q_1005 E.tb, q_1008 E.tb, q_28 E.tb, hd_X8_regrindIn, hr⟩
theorem cw_L_179 (E : Cx p l s m args meth c cc nL RL D A) {f L mc ms : Nat} {rest : List Value} (hr : f + 1 ≤ R.frames ∧ 8 + (2 + 11) + L ≤ R.locals ∧ cells + mc ≤ R.cells ∧ slots + ms ≤ R.slots ∧ (rest.map fun v => v.category).sum ≤ 8) : CW R s args RL 179 yX8_regrindByShots cX8_regrindByShots 2 (some .long) f L mc ms 1 cells slots rest := ⟨q_1009 E.tb, q_1012 E.tb, q_28 E.tb, hd_X8_regrindByShots, hr⟩
theorem cw_L_182 (E : Cx p l s m args meth c cc nL RL D A) {f L mc ms : Nat} {rest : List Value} (hr : f + 1 ≤ R.frames ∧ 8 + (2 + 11) + L ≤ R.locals ∧ cells + mc ≤ R.cells ∧ slots + ms ≤ R.slots ∧ (rest.map fun v => v.category).sum ≤ 8) : CW R s args RL 182 yX8_greatestShare cX8_greatestShare 2 (some .int) f L mc ms 1 cells slots rest := ⟨q_1014 E.tb, q_1017 E.tb, q_28 E.tb, hd_X8_greatestShare, hr⟩
theorem cw_L_185 (E : Cx p l s m args meth c cc nL RL D A) {f L mc ms : Nat} {rest : List Value} (hr : f + 1 ≤ R.frames ∧ 8 + (4 + 11) + L ≤ R.locals ∧ cells + mc ≤ R.cells ∧ slots + ms ≤ R.slots ∧ (rest.map fun v => v.category).sum ≤ 8) : CW R s args RL 185 yX8_pass cX8_pass 4 (some .int) f L mc ms 1 cells slots rest := ⟨q_1018 E.tb, q_1021 E.tb, q_28 E.tb, hd_X8_pass, hr⟩
theorem cw_L_186 (E : Cx p l s m args meth c cc nL RL D A) {f L mc ms : Nat} {rest : List Value} (hr : f + 1 ≤ R.frames ∧ 8 + (1 + 11) + L ≤ R.locals ∧ cells + mc ≤ R.cells ∧ slots + ms ≤ R.slots ∧ (rest.map fun v => v.category).sum ≤ 8) : CW R s args RL 186 yX7_hours cX7_hours 1 (some .int) f L mc ms 0 cells slots rest := ⟨q_126 E.tb, q_129 E.tb, q_26 E.tb, hd_X7_hours, hr⟩
theorem cw_L_189 (E : Cx p l s m args meth c cc nL RL D A) {f L mc ms : Nat} {rest : List Value} (hr : f + 1 ≤ R.frames ∧ 8 + (1 + 11) + L ≤ R.locals ∧ cells + mc ≤ R.cells ∧ slots + ms ≤ R.slots ∧ (rest.map fun v => v.category).sum ≤ 8) : CW R s args RL 189 yX8_hours cX8_hours 1 (some .int) f L mc ms 0 cells slots rest := ⟨q_1035 E.tb, q_1038 E.tb, q_28 E.tb, hd_X8_hours, hr⟩
theorem cw_L_193 (E : Cx p l s m args meth c cc nL RL D A) {f L mc ms : Nat} {rest : List Value} (hr : f + 1 ≤ R.frames ∧ 8 + (1 + 11) + L ≤ R.locals ∧ cells + mc ≤ R.cells ∧ slots + ms ≤ R.slots ∧ (rest.map fun v => v.category).sum ≤ 8) : CW R s args RL 193 yX8_regrindShare cX8_regrindShare 1 (some .float) f L mc ms 0 cells slots rest := ⟨q_1039 E.tb, q_1042 E.tb, q_28 E.tb, hd_X8_regrindShare, hr⟩
theorem cw_L_196 (E : Cx p l s m args meth c cc nL RL D A) {f L mc ms : Nat} {rest : List Value} (hr : f + 1 ≤ R.frames ∧ 8 + (1 + 11) + L ≤ R.locals ∧ cells + mc ≤ R.cells ∧ slots + ms ≤ R.slots ∧ (rest.map fun v => v.category).sum ≤ 8) : CW R s args RL 196 yX8_meanParts cX8_meanParts 1 (some .double) f L mc ms 0 cells slots rest := ⟨q_1043 E.tb, q_1046 E.tb, q_28 E.tb, hd_X8_meanParts, hr⟩
theorem cw_X8_91 (E : Cx p l s m args meth c cc nL RX8 D A) {f L mc ms : Nat} {rest : List Value} (hr : f + 1 ≤ R.frames ∧ 8 + (3 + 11) + L ≤ R.locals ∧ cells + mc ≤ R.cells ∧ slots + ms ≤ R.slots ∧ (rest.map fun v => v.category).sum ≤ 8) : CW R s args RX8 91 yX8_in cX8_in 3 (some .boolean) f L mc ms 3 cells slots rest := ⟨q_876 E.tb, q_878 E.tb, q_28 E.tb, hd_X8_in, hr⟩
theorem cw_X8_101 (E : Cx p l s m args meth c cc nL RX8 D A) {f L mc ms : Nat} {rest : List Value} (hr : f + 1 ≤ R.frames ∧ 8 + (2 + 11) + L ≤ R.locals ∧ cells + mc ≤ R.cells ∧ slots + ms ≤ R.slots ∧ (rest.map fun v => v.category).sum ≤ 8) : CW R s args RX8 101 yX8_isMould cX8_isMould 2 (some .boolean) f L mc ms 1 cells slots rest := ⟨q_937 E.tb, q_940 E.tb, q_28 E.tb, hd_X8_isMould, hr⟩
theorem cw_X8_111 (E : Cx p l s m args meth c cc nL RX8 D A) {f L mc ms : Nat} {rest : List Value} (hr : f + 1 ≤ R.frames ∧ 8 + (2 + 11) + L ≤ R.locals ∧ cells + mc ≤ R.cells ∧ slots + ms ≤ R.slots ∧ (rest.map fun v => v.category).sum ≤ 8) : CW R s args RX8 111 yX8_isResin cX8_isResin 2 (some .boolean) f L mc ms 1 cells slots rest := ⟨q_883 E.tb, q_886 E.tb, q_28 E.tb, hd_X8_isResin, hr⟩
theorem cw_X8_115 (E : Cx p l s m args meth c cc nL RX8 D A) {f L mc ms : Nat} {rest : List Value} (hr : f + 1 ≤ R.frames ∧ 8 + (2 + 11) + L ≤ R.locals ∧ cells + mc ≤ R.cells ∧ slots + ms ≤ R.slots ∧ (rest.map fun v => v.category).sum ≤ 8) : CW R s args RX8 115 yX8_isLot cX8_isLot 2 (some .boolean) f L mc ms 1 cells slots rest := ⟨q_892 E.tb, q_895 E.tb, q_28 E.tb, hd_X8_isLot, hr⟩
theorem cw_X8_118 (E : Cx p l s m args meth c cc nL RX8 D A) {f L mc ms : Nat} {rest : List Value} (hr : f + 1 ≤ R.frames ∧ 8 + (3 + 11) + L ≤ R.locals ∧ cells + mc ≤ R.cells ∧ slots + ms ≤ R.slots ∧ (rest.map fun v => v.category).sum ≤ 8) : CW R s args RX8 118 yX8_leaves cX8_leaves 3 none f L mc ms 1 cells slots rest := ⟨q_896 E.tb, q_899 E.tb, q_28 E.tb, hd_X8_leaves, hr⟩
theorem cw_X8_128 (E : Cx p l s m args meth c cc nL RX8 D A) {f L mc ms : Nat} {rest : List Value} (hr : f + 1 ≤ R.frames ∧ 8 + (2 + 11) + L ≤ R.locals ∧ cells + mc ≤ R.cells ∧ slots + ms ≤ R.slots ∧ (rest.map fun v => v.category).sum ≤ 8) : CW R s args RX8 128 yX8_toDry cX8_toDry 2 (some .int) f L mc ms 1 cells slots rest := ⟨q_908 E.tb, q_911 E.tb, q_28 E.tb, hd_X8_toDry, hr⟩
theorem cw_X8_132 (E : Cx p l s m args meth c cc nL RX8 D A) {f L mc ms : Nat} {rest : List Value} (hr : f + 1 ≤ R.frames ∧ 8 + (4 + 11) + L ≤ R.locals ∧ cells + mc ≤ R.cells ∧ slots + ms ≤ R.slots ∧ (rest.map fun v => v.category).sum ≤ 8) : CW R s args RX8 132 yX8_dryOf cX8_dryOf 4 (some .int) f L mc ms 1 cells slots rest := ⟨q_917 E.tb, q_920 E.tb, q_28 E.tb, hd_X8_dryOf, hr⟩
theorem cw_X8_135 (E : Cx p l s m args meth c cc nL RX8 D A) {f L mc ms : Nat} {rest : List Value} (hr : f + 1 ≤ R.frames ∧ 8 + (3 + 11) + L ≤ R.locals ∧ cells + mc ≤ R.cells ∧ slots + ms ≤ R.slots ∧ (rest.map fun v => v.category).sum ≤ 8) : CW R s args RX8 135 yX8_isCavity cX8_isCavity 3 (some .boolean) f L mc ms 2 cells slots rest := ⟨q_933 E.tb, q_936 E.tb, q_28 E.tb, hd_X8_isCavity, hr⟩
theorem cw_X8_139 (E : Cx p l s m args meth c cc nL RX8 D A) {f L mc ms : Nat} {rest : List Value} (hr : f + 1 ≤ R.frames ∧ 8 + (3 + 11) + L ≤ R.locals ∧ cells + mc ≤ R.cells ∧ slots + ms ≤ R.slots ∧ (rest.map fun v => v.category).sum ≤ 8) : CW R s args RX8 139 yX8_fails cX8_fails 3 none f L mc ms 2 cells slots rest := ⟨q_941 E.tb, q_944 E.tb, q_28 E.tb, hd_X8_fails, hr⟩
theorem cw_X8_143 (E : Cx p l s m args meth c cc nL RX8 D A) {f L mc ms : Nat} {rest : List Value} (hr : f + 1 ≤ R.frames ∧ 8 + (4 + 11) + L ≤ R.locals ∧ cells + mc ≤ R.cells ∧ slots + ms ≤ R.slots ∧ (rest.map fun v => v.category).sum ≤ 8) : CW R s args RX8 143 yX8_open cX8_open 4 (some .int) f L mc ms 1 cells slots rest := ⟨q_949 E.tb, q_952 E.tb, q_28 E.tb, hd_X8_open, hr⟩
theorem cw_X8_146 (E : Cx p l s m args meth c cc nL RX8 D A) {f L mc ms : Nat} {rest : List Value} (hr : f + 1 ≤ R.frames ∧ 8 + (4 + 11) + L ≤ R.locals ∧ cells + mc ≤ R.cells ∧ slots + ms ≤ R.slots ∧ (rest.map fun v => v.category).sum ≤ 8) : CW R s args RX8 146 yX8_isMounted cX8_isMounted 4 (some .boolean) f L mc ms 1 cells slots rest := ⟨q_957 E.tb, q_960 E.tb, q_28 E.tb, hd_X8_isMounted, hr⟩
theorem cw_X8_149 (E : Cx p l s m args meth c cc nL RX8 D A) {f L mc ms : Nat} {rest : List Value} (hr : f + 1 ≤ R.frames ∧ 8 + (2 + 11) + L ≤ R.locals ∧ cells + mc ≤ R.cells ∧ slots + ms ≤ R.slots ∧ (rest.map fun v => v.category).sum ≤ 8) : CW R s args RX8 149 yX8_raises cX8_raises 2 (some .int) f L mc ms 1 cells slots rest := ⟨q_965 E.tb, q_968 E.tb, q_28 E.tb, hd_X8_raises, hr⟩
theorem cw_X8_152 (E : Cx p l s m args meth c cc nL RX8 D A) {f L mc ms : Nat} {rest : List Value} (hr : f + 1 ≤ R.frames ∧ 8 + (2 + 11) + L ≤ R.locals ∧ cells + mc ≤ R.cells ∧ slots + ms ≤ R.slots ∧ (rest.map fun v => v.category).sum ≤ 8) : CW R s args RX8 152 yX8_isMachine cX8_isMachine 2 (some .boolean) f L mc ms 1 cells slots rest := ⟨q_977 E.tb, q_980 E.tb, q_28 E.tb, hd_X8_isMachine, hr⟩
theorem cw_X8_155 (E : Cx p l s m args meth c cc nL RX8 D A) {f L mc ms : Nat} {rest : List Value} (hr : f + 1 ≤ R.frames ∧ 8 + (2 + 11) + L ≤ R.locals ∧ cells + mc ≤ R.cells ∧ slots + ms ≤ R.slots ∧ (rest.map fun v => v.category).sum ≤ 8) : CW R s args RX8 155 yX8_isOrder cX8_isOrder 2 (some .boolean) f L mc ms 1 cells slots rest := ⟨q_985 E.tb, q_988 E.tb, q_28 E.tb, hd_X8_isOrder, hr⟩
theorem cw_X8_158 (E : Cx p l s m args meth c cc nL RX8 D A) {f L mc ms : Nat} {rest : List Value} (hr : f + 1 ≤ R.frames ∧ 8 + (2 + 11) + L ≤ R.locals ∧ cells + mc ≤ R.cells ∧ slots + ms ≤ R.slots ∧ (rest.map fun v => v.category).sum ≤ 8) : CW R s args RX8 158 yX8_regrindIn cX8_regrindIn 2 (some .long) f L mc ms 1 cells slots rest := ⟨q_1013 E.tb, q_1008 E.tb, q_28 E.tb, hd_X8_regrindIn, hr⟩
theorem cw_X8_164 (E : Cx p l s m args meth c cc nL RX8 D A) {f L mc ms : Nat} {rest : List Value} (hr : f + 1 ≤ R.frames ∧ 8 + (6 + 11) + L ≤ R.locals ∧ cells + mc ≤ R.cells ∧ slots + ms ≤ R.slots ∧ (rest.map fun v => v.category).sum ≤ 8) : CW R s args RX8 164 yX8_takes cX8_takes 6 none f L mc ms 2 cells slots rest := ⟨q_1031 E.tb, q_1034 E.tb, q_28 E.tb, hd_X8_takes, hr⟩
theorem cw_X8_180 (E : Cx p l s m args meth c cc nL RX8 D A) {f L mc ms : Nat} {rest : List Value} (hr : f + 1 ≤ R.frames ∧ 8 + (8 + 11) + L ≤ R.locals ∧ cells + mc ≤ R.cells ∧ slots + ms ≤ R.slots ∧ (rest.map fun v => v.category).sum ≤ 8) : CW R s args RX8 180 yX8_shoots cX8_shoots 8 (some .int) f L mc ms 1 cells slots rest := ⟨q_1026 E.tb, q_1029 E.tb, q_28 E.tb, hd_X8_shoots, hr⟩
theorem cw_X8_186 (E : Cx p l s m args meth c cc nL RX8 D A) {f L mc ms : Nat} {rest : List Value} (hr : f + 1 ≤ R.frames ∧ 8 + (7 + 11) + L ≤ R.locals ∧ cells + mc ≤ R.cells ∧ slots + ms ≤ R.slots ∧ (rest.map fun v => v.category).sum ≤ 8) : CW R s args RX8 186 yX8_hour cX8_hour 7 (some .int) f L mc ms 0 cells slots rest := ⟨q_1022 E.tb, q_1025 E.tb, q_28 E.tb, hd_X8_hour, hr⟩
theorem xa_IllegalStateException : ∀ w ∈ vx_atS RX7 52 "java/lang/IllegalStateException" ["java/lang/RuntimeException", "java/lang/Exception"], w ∈ lw_tbl ∧ tbOK w = true := by decide +kernel
theorem xg_IllegalStateException : ∀ w ∈ Cond.classLink RX7 48 "java/lang/IllegalStateException" :: Cond.initialized "java/lang/IllegalStateException" :: vx_atS RX7 52 "java/lang/IllegalStateException" ["java/lang/RuntimeException", "java/lang/Exception"], vx_ot w = true := by decide +kernel
theorem xa_UnsupportedOperationException : ∀ w ∈ vx_atS RX7 176 "java/lang/UnsupportedOperationException" ["java/lang/RuntimeException", "java/lang/Exception"], w ∈ lw_tbl ∧ tbOK w = true := by decide +kernel
theorem xg_UnsupportedOperationException : ∀ w ∈ Cond.classLink RX7 172 "java/lang/UnsupportedOperationException" :: Cond.initialized "java/lang/UnsupportedOperationException" :: vx_atS RX7 176 "java/lang/UnsupportedOperationException" ["java/lang/RuntimeException", "java/lang/Exception"], vx_ot w = true := by decide +kernel
theorem xa_ArithmeticException : ∀ w ∈ vx_atS RX7 252 "java/lang/ArithmeticException" ["java/lang/RuntimeException", "java/lang/Exception"], w ∈ lw_tbl ∧ tbOK w = true := by decide +kernel
theorem xg_ArithmeticException : ∀ w ∈ Cond.classLink RX7 248 "java/lang/ArithmeticException" :: Cond.initialized "java/lang/ArithmeticException" :: vx_atS RX7 252 "java/lang/ArithmeticException" ["java/lang/RuntimeException", "java/lang/Exception"], vx_ot w = true := by decide +kernel
theorem xa_IllegalArgumentException : ∀ w ∈ vx_atS RX7 266 "java/lang/IllegalArgumentException" ["java/lang/RuntimeException", "java/lang/Exception"], w ∈ lw_tbl ∧ tbOK w = true := by decide +kernel
theorem xg_IllegalArgumentException : ∀ w ∈ Cond.classLink RX7 262 "java/lang/IllegalArgumentException" :: Cond.initialized "java/lang/IllegalArgumentException" :: vx_atS RX7 266 "java/lang/IllegalArgumentException" ["java/lang/RuntimeException", "java/lang/Exception"], vx_ot w = true := by decide +kernel
theorem xa_IndexOutOfBoundsException : ∀ w ∈ vx_atS RX7 271 "java/lang/IndexOutOfBoundsException" ["java/lang/RuntimeException", "java/lang/Exception"], w ∈ lw_tbl ∧ tbOK w = true := by decide +kernel
theorem xg_IndexOutOfBoundsException : ∀ w ∈ Cond.classLink RX7 267 "java/lang/IndexOutOfBoundsException" :: Cond.initialized "java/lang/IndexOutOfBoundsException" :: vx_atS RX7 271 "java/lang/IndexOutOfBoundsException" ["java/lang/RuntimeException", "java/lang/Exception"], vx_ot w = true := by decide +kernel
theorem xs_264 : Cond.stringRef RX7 264 "a number is out of range" ∈ lw_tbl := List.mem_of_getElem? (i := 187) (by decide +kernel)
theorem xs_50 : Cond.stringRef RX7 50 "no more resins" ∈ lw_tbl := List.mem_of_getElem? (i := 223) (by decide +kernel)
theorem xs_269 : Cond.stringRef RX7 269 "no such resin" ∈ lw_tbl := List.mem_of_getElem? (i := 287) (by decide +kernel)
theorem xs_67 : Cond.stringRef RX7 67 "the dryer is full" ∈ lw_tbl := List.mem_of_getElem? (i := 296) (by decide +kernel)
theorem xs_275 : Cond.stringRef RX7 275 "no such lot" ∈ lw_tbl := List.mem_of_getElem? (i := 335) (by decide +kernel)
theorem xs_105 : Cond.stringRef RX7 105 "no more moulds" ∈ lw_tbl := List.mem_of_getElem? (i := 384) (by decide +kernel)
theorem xs_277 : Cond.stringRef RX7 277 "no such mould" ∈ lw_tbl := List.mem_of_getElem? (i := 451) (by decide +kernel)
theorem xs_279 : Cond.stringRef RX7 279 "no such cavity" ∈ lw_tbl := List.mem_of_getElem? (i := 455) (by decide +kernel)
theorem xs_133 : Cond.stringRef RX7 133 "the cavity is blocked" ∈ lw_tbl := List.mem_of_getElem? (i := 467) (by decide +kernel)
theorem xs_141 : Cond.stringRef RX7 141 "the cavity is open or the mould is mounted" ∈ lw_tbl := List.mem_of_getElem? (i := 479) (by decide +kernel)
theorem xs_155 : Cond.stringRef RX7 155 "no open cavity from here on" ∈ lw_tbl := List.mem_of_getElem? (i := 498) (by decide +kernel)
theorem xs_161 : Cond.stringRef RX7 161 "no more machines" ∈ lw_tbl := List.mem_of_getElem? (i := 512) (by decide +kernel)
theorem xs_281 : Cond.stringRef RX7 281 "no such machine" ∈ lw_tbl := List.mem_of_getElem? (i := 541) (by decide +kernel)
theorem xs_174 : Cond.stringRef RX7 174 "the machine is too weak" ∈ lw_tbl := List.mem_of_getElem? (i := 551) (by decide +kernel)
theorem xs_177 : Cond.stringRef RX7 177 "the mould is mounted" ∈ lw_tbl := List.mem_of_getElem? (i := 558) (by decide +kernel)
theorem xs_283 : Cond.stringRef RX7 283 "no such order" ∈ lw_tbl := List.mem_of_getElem? (i := 570) (by decide +kernel)
theorem xs_195 : Cond.stringRef RX7 195 "the machine has another mould" ∈ lw_tbl := List.mem_of_getElem? (i := 571) (by decide +kernel)
theorem xs_200 : Cond.stringRef RX7 200 "the order is not open" ∈ lw_tbl := List.mem_of_getElem? (i := 576) (by decide +kernel)
theorem xs_208 : Cond.stringRef RX7 208 "no more orders" ∈ lw_tbl := List.mem_of_getElem? (i := 588) (by decide +kernel)
theorem xs_216 : Cond.stringRef RX7 216 "no cavity is open" ∈ lw_tbl := List.mem_of_getElem? (i := 642) (by decide +kernel)
theorem xs_232 : Cond.stringRef RX7 232 "the order has no shots" ∈ lw_tbl := List.mem_of_getElem? (i := 681) (by decide +kernel)
theorem xs_240 : Cond.stringRef RX7 240 "too many hours" ∈ lw_tbl := List.mem_of_getElem? (i := 689) (by decide +kernel)
theorem xs_250 : Cond.stringRef RX7 250 "no shot" ∈ lw_tbl := List.mem_of_getElem? (i := 744) (by decide +kernel)
end SITES
end
section
/-! further rows: array stores with a name for the heap that comes, constants of floats, texts by a wide index -/
section JX
variable {p : Program} {l : Launch} {e : Env} {R : Room} {s : State} {m : MethodId} {args : Array Value} {below : List Frame} {meth : Method} {c : Code} {cc : ByteArray} {nL : Nat} {own : String} {D : va_G} {A : Nat → Prop} {Q : State → Prop} {cells slots : Nat} {h : AH} {pc : Nat} {lo : List (Nat × Value)} {st : List Value}
theorem s_iast (E : Cx p l s m args meth c cc nL own D A) {a n : Nat} {f : Nat → Int32} {i : Int32} {x : Int32} (hc : h a = some (.inl (.int, (n, .inl f)))) (hin : vp_in i n) (d : decode cc pc = .ok (.iastore, 1))
    (kk : ∀ h1 : AH, h1 a = some (.inl (.int, (n, .inl (fup f i.toNatClampNeg x)))) → (∀ x, x ≠ a → h1 x = h x) → J p l e R s m args below meth c D A nL Q cells slots h1 (pc + 1) lo st) : J p l e R s m args below meth c D A nL Q cells slots h pc lo (.int x :: .int i :: .ref a :: st) := j_iast E hc hin d (kk _ hup_eq (fun _ => hup_ne))
theorem s_zast (E : Cx p l s m args meth c cc nL own D A) {a n : Nat} {f : Nat → Int32} {i : Int32} {x : Int32} (hc : h a = some (.inl (.boolean, (n, .inl f)))) (hin : vp_in i n) (hx : narrow .boolean (.int x) = .int x) (d : decode cc pc = .ok (.bastore, 1))
    (kk : ∀ h1 : AH, h1 a = some (.inl (.boolean, (n, .inl (fup f i.toNatClampNeg x)))) → (∀ x, x ≠ a → h1 x = h x) → J p l e R s m args below meth c D A nL Q cells slots h1 (pc + 1) lo st) : J p l e R s m args below meth c D A nL Q cells slots h pc lo (.int x :: .int i :: .ref a :: st) := j_zast E hc hin hx d (kk _ hup_eq (fun _ => hup_ne))
theorem s_last (E : Cx p l s m args meth c cc nL own D A) {a n : Nat} {f : Nat → Int64} {i : Int32} {x : Int64} (hc : h a = some (.inl (.long, (n, .inr (.inl f))))) (hin : vp_in i n) (d : decode cc pc = .ok (.lastore, 1))
    (kk : ∀ h1 : AH, h1 a = some (.inl (.long, (n, .inr (.inl (fup f i.toNatClampNeg x))))) → (∀ x, x ≠ a → h1 x = h x) → J p l e R s m args below meth c D A nL Q cells slots h1 (pc + 1) lo st) : J p l e R s m args below meth c D A nL Q cells slots h pc lo (.long x :: .int i :: .ref a :: st) := j_last E hc hin d (kk _ hup_eq (fun _ => hup_ne))
theorem s_dast (E : Cx p l s m args meth c cc nL own D A) {a n : Nat} {f : Nat → UInt64} {i : Int32} {x : UInt64} (hc : h a = some (.inl (.double, (n, .inr (.inr (.inr (.inl f))))))) (hin : vp_in i n) (d : decode cc pc = .ok (.dastore, 1))
    (kk : ∀ h1 : AH, h1 a = some (.inl (.double, (n, .inr (.inr (.inr (.inl (fup f i.toNatClampNeg x))))))) → (∀ x, x ≠ a → h1 x = h x) → J p l e R s m args below meth c D A nL Q cells slots h1 (pc + 1) lo st) : J p l e R s m args below meth c D A nL Q cells slots h pc lo (.double x :: .int i :: .ref a :: st) := j_dast E hc hin d (kk _ hup_eq (fun _ => hup_ne))
theorem s_aast (E : Cx p l s m args meth c cc nL own D A) {a n v ci : Nat} {vs : List Value} {f : Nat → Option Nat} {C : String} {T : u_T} {N : Nat} {i : Int32} (hc : h a = some (.inl (.object C, (n, .inr (.inr (.inr (.inr f))))))) (hv : h v = some (.inr (ci, vs))) (hcl : jcl[ci]? = some (C, T, N)) (hin : vp_in i n) (d : decode cc pc = .ok (.aastore, 1))
    (kk : ∀ h1 : AH, h1 a = some (.inl (.object C, (n, .inr (.inr (.inr (.inr (fup f i.toNatClampNeg (some v)))))))) → (∀ x, x ≠ a → h1 x = h x) → J p l e R s m args below meth c D A nL Q cells slots h1 (pc + 1) lo st) : J p l e R s m args below meth c D A nL Q cells slots h pc lo (.ref v :: .int i :: .ref a :: st) := j_aast E hc hv hcl hin d (kk _ hup_eq (fun _ => hup_ne))
theorem s_aastN (E : Cx p l s m args meth c cc nL own D A) {a n : Nat} {f : Nat → Option Nat} {C : String} {i : Int32} (hc : h a = some (.inl (.object C, (n, .inr (.inr (.inr (.inr f))))))) (hin : vp_in i n) (d : decode cc pc = .ok (.aastore, 1))
    (kk : ∀ h1 : AH, h1 a = some (.inl (.object C, (n, .inr (.inr (.inr (.inr (fup f i.toNatClampNeg none))))))) → (∀ x, x ≠ a → h1 x = h x) → J p l e R s m args below meth c D A nL Q cells slots h1 (pc + 1) lo st) : J p l e R s m args below meth c D A nL Q cells slots h pc lo (.null :: .int i :: .ref a :: st) := j_aastN E hc hin d (kk _ hup_eq (fun _ => hup_ne))
theorem j_iincK (E : Cx p l s m args meth c cc nL own D A) {i : Nat} {n : Int} {x k : Int32} (hk : Int32.ofInt n = k) (d : decode cc pc = .ok (.iinc i n, 3)) (hg : lget lo i = some (.int x)) (hn : i < nL) (kk : J p l e R s m args below meth c D A nL Q cells slots h (pc + 3) (lput1 lo i (.int (x + k))) st) : J p l e R s m args below meth c D A nL Q cells slots h pc lo st := j_iinc E d hg (by rw [hk]) hn kk
theorem j_fconst0 (E : Cx p l s m args meth c cc nL own D A) (d : decode cc pc = .ok (.fconst 0, 1)) (k : J p l e R s m args below meth c D A nL Q cells slots h (pc + 1) lo (.float FP.fconst0 :: st)) : J p l e R s m args below meth c D A nL Q cells slots h pc lo st :=
  fun H locs ls hH hS hl => lv_fconst0 E.x E.b d (k H locs ls hH hS hl)
theorem j_dconst0 (E : Cx p l s m args meth c cc nL own D A) (d : decode cc pc = .ok (.dconst 0, 1)) (k : J p l e R s m args below meth c D A nL Q cells slots h (pc + 1) lo (.double FP.dconst0 :: st)) : J p l e R s m args below meth c D A nL Q cells slots h pc lo st :=
  fun H locs ls hH hS hl => lv_dconst0 E.x E.b d (k H locs ls hH hS hl)
theorem j_throwW {PX : String → Prop} {Post : Option Value → AH → Prop} {sz mc ms : Nat} {h0 : AH} (E : Cx p l s m args meth c cc nL own D (Afr h0 sz)) {cls text : String} {ik is ic : Nat} (hfit : Bundle.fit cls = true)
    (hk : (Cond.classLink own ik cls).before args s = true) (hini : (Cond.initialized cls).before args s = true) (hstr : Cond.stringRef own is text ∈ lw_tbl) (hat : ∀ w ∈ vx_atS own ic cls ["java/lang/RuntimeException", "java/lang/Exception"], w ∈ lw_tbl ∧ tbOK w = true)
    (hgood : ∀ w ∈ Cond.classLink own ik cls :: Cond.initialized cls :: vx_atS own ic cls ["java/lang/RuntimeException", "java/lang/Exception"], vx_ot w = true)
    (d0 : decode cc pc = .ok (.new ik, 3)) (d3 : decode cc (pc + 3) = .ok (.dup, 1)) (d4 : decode cc (pc + 4) = .ok (.ldc_w is, 3)) (d7 : decode cc (pc + 7) = .ok (.invokespecial ic, 3)) (d10 : decode cc (pc + 10) = .ok (.athrow, 1))
    (hout : ∀ x ∈ c.exceptionTable.toList, False) (hr : 6 ≤ R.frames ∧ (st.map fun v => v.category).sum + 82 ≤ R.locals ∧ cells + 1 ≤ R.cells ∧ slots + 6 ≤ R.slots) (hroom : cells + 1 ≤ mc ∧ slots + 6 ≤ ms) (hX : PX cls) :
    J p l e R s m args below meth c D (Afr h0 sz) nL (vx_MQ below (Qcs D h0 sz Post) (Xcs D h0 sz PX) args s mc ms (Afr h0 sz)) cells slots h0 pc lo st := by
  intro H locs ls hH hS hl
  obtain ⟨sa, hsa⟩ := E.ts own is text hstr
  refine vx_throwSW E.x E.b E.tr (names := ["java/lang/RuntimeException", "java/lang/Exception"]) (sa := sa) (A := Afr h0 sz) E.ow hfit (by decide +kernel) hk hini hsa (fun w hw => E.tb w (hat w hw).1 (hat w hw).2 args) hgood E.wd.2.2.2.2.1 E.wd.2.2.2.2.2 hS (by rw [E.ml]; exact hl.1) d0 d3 d4 d7 d10 (fun x hx => (hout x hx).elim) (by show 2 + 3 < _; omega) (by show _ + (13 * (2 + 1) + 43) ≤ _; omega) hr.2.2.1 hr.2.2.2 E.locks (fun t hal hz hk2 => ⟨⟨hX, ?_⟩, ?_⟩) hS.2.2 hroom.1 hroom.2
  · intro x e9 he
    obtain ⟨g1, g2⟩ := hH x e9 he
    exact ⟨g1, (g2.kept (hk2 x g2.lt)).moved hal⟩
  · refine ⟨Nat.le_trans hS.1 hz, fun q h1 h2 => ?_⟩
    rw [hk2 q (Nat.lt_of_lt_of_le h1 hS.1)]
    exact hS.2.1 q h1 h2
end JX
end
section
/-! the mathematical state: numbers by component and place; the model's cells, read off it -/
abbrev St : Type := (Nat → Nat → Nat → Int32) × (Nat → Nat → Int64)
def s1 (S : St) (c i j : Nat) (v : Int32) : St := (fun c' i' j' => if c' = c ∧ i' = i ∧ j' = j then v else S.1 c' i' j', S.2)
def s2 (S : St) (c i : Nat) (v : Int64) : St := (S.1, fun c' i' => if c' = c ∧ i' = i then v else S.2 c' i')
theorem s1_eq {S : St} {c i j : Nat} {v : Int32} : (s1 S c i j v).1 c i j = v := if_pos ⟨rfl, rfl, rfl⟩
theorem s1_ne {S : St} {c i j c' i' j' : Nat} {v : Int32} (h : ¬ (c' = c ∧ i' = i ∧ j' = j)) : (s1 S c i j v).1 c' i' j' = S.1 c' i' j' := if_neg h
theorem s1_c {S : St} {c i j c' i' j' : Nat} {v : Int32} (h : c' ≠ c) : (s1 S c i j v).1 c' i' j' = S.1 c' i' j' := if_neg (fun q => h q.1)
theorem s1_2 {S : St} {c i j : Nat} {v : Int32} : (s1 S c i j v).2 = S.2 := rfl
theorem s2_1 {S : St} {c i : Nat} {v : Int64} : (s2 S c i v).1 = S.1 := rfl
theorem s2_eq {S : St} {c i : Nat} {v : Int64} : (s2 S c i v).2 c i = v := if_pos ⟨rfl, rfl⟩
theorem s2_c {S : St} {c i c' i' : Nat} {v : Int64} (h : c' ≠ c) : (s2 S c i v).2 c' i' = S.2 c' i' := if_neg (fun q => h q.1)
def mcl (S : St) (ad : Nat → Nat) (ar : Nat → Nat → Nat) (k : Nat) : Option AE := match k with
  | 0 => some (.inr (8, [.ref (ad 1), .ref (ad 2), .int (S.1 0 0 0), .ref (ad 3), .ref (ad 4), .ref (ad 5), .int (S.1 0 1 0), .ref (ad 6), .ref (ad 7), .ref (ad 8), .ref (ad 9), .ref (ad 10), .ref (ad 11), .ref (ad 12), .ref (ad 13), .int (S.1 0 2 0), .ref (ad 14), .ref (ad 15), .ref (ad 16), .int (S.1 0 3 0), .ref (ad 17), .ref (ad 18), .ref (ad 19), .ref (ad 20), .ref (ad 21), .ref (ad 23), .ref (ad 22), .int (S.1 0 4 0), .int (S.1 0 5 0), .int (S.1 0 6 0), .int (S.1 0 7 0), .long (S.2 0 0), .long (S.2 1 0), .int (S.1 0 8 0)]))
  | 1 => some (.inl (.int, (4, .inl (fun j => S.1 1 j 0))))
  | 2 => some (.inl (.int, (4, .inl (fun j => S.1 2 j 0))))
  | 3 => some (.inl (.int, (3, .inl (fun j => S.1 3 j 0))))
  | 4 => some (.inl (.int, (3, .inl (fun j => S.1 4 j 0))))
  | 5 => some (.inl (.int, (3, .inl (fun j => S.1 5 j 0))))
  | 6 => some (.inl (.int, (5, .inl (fun j => S.1 6 j 0))))
  | 7 => some (.inl (.int, (5, .inl (fun j => S.1 7 j 0))))
  | 8 => some (.inl (.int, (5, .inl (fun j => S.1 8 j 0))))
  | 9 => some (.inl (.int, (5, .inl (fun j => S.1 9 j 0))))
  | 10 => some (.inl (.int, (5, .inl (fun j => S.1 10 j 0))))
  | 11 => some (.inl (.array .boolean, (5, .inr (.inr (.inr (.inr (fun i => if i < 5 then some (ar 0 i) else none)))))))
  | 12 => some (.inl (.array .int, (5, .inr (.inr (.inr (.inr (fun i => if i < 5 then some (ar 1 i) else none)))))))
  | 13 => some (.inl (.array .int, (5, .inr (.inr (.inr (.inr (fun i => if i < 5 then some (ar 2 i) else none)))))))
  | 14 => some (.inl (.int, (3, .inl (fun j => S.1 14 j 0))))
  | 15 => some (.inl (.int, (3, .inl (fun j => S.1 15 j 0))))
  | 16 => some (.inl (.int, (3, .inl (fun j => S.1 16 j 0))))
  | 17 => some (.inl (.int, (8, .inl (fun j => S.1 17 j 0))))
  | 18 => some (.inl (.int, (8, .inl (fun j => S.1 18 j 0))))
  | 19 => some (.inl (.int, (8, .inl (fun j => S.1 19 j 0))))
  | 20 => some (.inl (.int, (8, .inl (fun j => S.1 20 j 0))))
  | 21 => some (.inl (.int, (8, .inl (fun j => S.1 21 j 0))))
  | 22 => some (.inl (.int, (8, .inl (fun j => S.1 22 j 0))))
  | 23 => some (.inl (.long, (8, .inr (.inl (fun j => S.2 2 j)))))
  | _ => none
def rcl (S : St) (b i : Nat) : AE := match b with
  | 0 => .inl (.boolean, (8, .inl (fun j => S.1 11 i j)))
  | 1 => .inl (.int, (8, .inl (fun j => S.1 12 i j)))
  | _ => .inl (.int, (8, .inl (fun j => S.1 13 i j)))
def Mdl (S : St) (ad : Nat → Nat) (ar : Nat → Nat → Nat) (h : AH) : Prop :=
  (∀ k e, mcl S ad ar k = some e → h (ad k) = some e) ∧ (∀ b i, b < 3 → i < 5 → h (ar b i) = some (rcl S b i)) ∧ (∀ k k', k < 24 → k' < 24 → ad k = ad k' → k = k') ∧ (∀ k b i, k < 24 → b < 3 → i < 5 → ad k ≠ ar b i) ∧ (∀ b i b' i', b < 3 → i < 5 → b' < 3 → i' < 5 → ar b i = ar b' i' → b = b' ∧ i = i')
theorem mcl_lt {S : St} {ad : Nat → Nat} {ar : Nat → Nat → Nat} {k : Nat} {e : AE} (h : mcl S ad ar k = some e) : k < 24 := by
  unfold mcl at h
  split at h <;> first | omega | cases h
/-- one fixed cell has changed, and the numbers with it -/
theorem Mdl.fix {S S' : St} {ad : Nat → Nat} {ar : Nat → Nat → Nat} {h h1 : AH} {k0 : Nat} {e1 : AE} (M : Mdl S ad ar h) (h0 : k0 < 24) (n : h1 (ad k0) = some e1) (u : ∀ x, x ≠ ad k0 → h1 x = h x) (c0 : mcl S' ad ar k0 = some e1) (ck : ∀ k, k ≠ k0 → mcl S' ad ar k = mcl S ad ar k) (cr : ∀ b i, rcl S' b i = rcl S b i) : Mdl S' ad ar h1 := by
  obtain ⟨m1, m2, m3, m4, m5⟩ := M
  refine ⟨fun k e he => ?_, fun b i hb hi => ?_, m3, m4, m5⟩
  · by_cases hk : k = k0
    · subst hk
      rw [c0] at he
      rw [n, he]
    · rw [u _ (fun q => hk (m3 k k0 (mcl_lt he) h0 q))]
      exact m1 k e (by rw [← ck k hk]; exact he)
  · rw [u _ (fun q => m4 k0 b i h0 hb hi q.symm), cr]
    exact m2 b i hb hi
theorem Mdl.row {S S' : St} {ad : Nat → Nat} {ar : Nat → Nat → Nat} {h h1 : AH} {b0 i0 : Nat} (M : Mdl S ad ar h) (hb0 : b0 < 3) (hi0 : i0 < 5) (n : h1 (ar b0 i0) = some (rcl S' b0 i0)) (u : ∀ x, x ≠ ar b0 i0 → h1 x = h x) (ck : ∀ k, mcl S' ad ar k = mcl S ad ar k) (cr : ∀ b i, b < 3 → ¬ (b = b0 ∧ i = i0) → rcl S' b i = rcl S b i) : Mdl S' ad ar h1 := by
  obtain ⟨m1, m2, m3, m4, m5⟩ := M
  refine ⟨fun k e he => ?_, fun b i hb hi => ?_, m3, m4, m5⟩
  · rw [u _ (m4 k b0 i0 (mcl_lt he) hb0 hi0)]
    exact m1 k e (by rw [← ck k]; exact he)
  · by_cases hk : b = b0 ∧ i = i0
    · obtain ⟨rfl, rfl⟩ := hk
      exact n
    · rw [u _ (fun q => hk (m5 b i b0 i0 hb hi hb0 hi0 q)), cr b i hb hk]
      exact m2 b i hb hi
section MD
variable {S : St} {ad : Nat → Nat} {ar : Nat → Nat → Nat} {h h1 : AH}
theorem Mdl.o (M : Mdl S ad ar h) : h (ad 0) = some (.inr (8, [.ref (ad 1), .ref (ad 2), .int (S.1 0 0 0), .ref (ad 3), .ref (ad 4), .ref (ad 5), .int (S.1 0 1 0), .ref (ad 6), .ref (ad 7), .ref (ad 8), .ref (ad 9), .ref (ad 10), .ref (ad 11), .ref (ad 12), .ref (ad 13), .int (S.1 0 2 0), .ref (ad 14), .ref (ad 15), .ref (ad 16), .int (S.1 0 3 0), .ref (ad 17), .ref (ad 18), .ref (ad 19), .ref (ad 20), .ref (ad 21), .ref (ad 23), .ref (ad 22), .int (S.1 0 4 0), .int (S.1 0 5 0), .int (S.1 0 6 0), .int (S.1 0 7 0), .long (S.2 0 0), .long (S.2 1 0), .int (S.1 0 8 0)])) := M.1 0 _ rfl
theorem Mdl.a1 (M : Mdl S ad ar h) : h (ad 1) = some (.inl (.int, (4, .inl (fun j => S.1 1 j 0)))) := M.1 1 _ rfl
theorem Mdl.a2 (M : Mdl S ad ar h) : h (ad 2) = some (.inl (.int, (4, .inl (fun j => S.1 2 j 0)))) := M.1 2 _ rfl
theorem Mdl.a3 (M : Mdl S ad ar h) : h (ad 3) = some (.inl (.int, (3, .inl (fun j => S.1 3 j 0)))) := M.1 3 _ rfl
theorem Mdl.a4 (M : Mdl S ad ar h) : h (ad 4) = some (.inl (.int, (3, .inl (fun j => S.1 4 j 0)))) := M.1 4 _ rfl
theorem Mdl.a5 (M : Mdl S ad ar h) : h (ad 5) = some (.inl (.int, (3, .inl (fun j => S.1 5 j 0)))) := M.1 5 _ rfl
theorem Mdl.a6 (M : Mdl S ad ar h) : h (ad 6) = some (.inl (.int, (5, .inl (fun j => S.1 6 j 0)))) := M.1 6 _ rfl
theorem Mdl.a7 (M : Mdl S ad ar h) : h (ad 7) = some (.inl (.int, (5, .inl (fun j => S.1 7 j 0)))) := M.1 7 _ rfl
theorem Mdl.a8 (M : Mdl S ad ar h) : h (ad 8) = some (.inl (.int, (5, .inl (fun j => S.1 8 j 0)))) := M.1 8 _ rfl
theorem Mdl.a9 (M : Mdl S ad ar h) : h (ad 9) = some (.inl (.int, (5, .inl (fun j => S.1 9 j 0)))) := M.1 9 _ rfl
theorem Mdl.a10 (M : Mdl S ad ar h) : h (ad 10) = some (.inl (.int, (5, .inl (fun j => S.1 10 j 0)))) := M.1 10 _ rfl
theorem Mdl.a14 (M : Mdl S ad ar h) : h (ad 14) = some (.inl (.int, (3, .inl (fun j => S.1 14 j 0)))) := M.1 14 _ rfl
theorem Mdl.a15 (M : Mdl S ad ar h) : h (ad 15) = some (.inl (.int, (3, .inl (fun j => S.1 15 j 0)))) := M.1 15 _ rfl
theorem Mdl.a16 (M : Mdl S ad ar h) : h (ad 16) = some (.inl (.int, (3, .inl (fun j => S.1 16 j 0)))) := M.1 16 _ rfl
theorem Mdl.a17 (M : Mdl S ad ar h) : h (ad 17) = some (.inl (.int, (8, .inl (fun j => S.1 17 j 0)))) := M.1 17 _ rfl
theorem Mdl.a18 (M : Mdl S ad ar h) : h (ad 18) = some (.inl (.int, (8, .inl (fun j => S.1 18 j 0)))) := M.1 18 _ rfl
theorem Mdl.a19 (M : Mdl S ad ar h) : h (ad 19) = some (.inl (.int, (8, .inl (fun j => S.1 19 j 0)))) := M.1 19 _ rfl
theorem Mdl.a20 (M : Mdl S ad ar h) : h (ad 20) = some (.inl (.int, (8, .inl (fun j => S.1 20 j 0)))) := M.1 20 _ rfl
theorem Mdl.a21 (M : Mdl S ad ar h) : h (ad 21) = some (.inl (.int, (8, .inl (fun j => S.1 21 j 0)))) := M.1 21 _ rfl
theorem Mdl.a22 (M : Mdl S ad ar h) : h (ad 22) = some (.inl (.int, (8, .inl (fun j => S.1 22 j 0)))) := M.1 22 _ rfl
theorem Mdl.a11 (M : Mdl S ad ar h) : h (ad 11) = some (.inl (.array .boolean, (5, .inr (.inr (.inr (.inr (fun i => if i < 5 then some (ar 0 i) else none))))))) := M.1 11 _ rfl
theorem Mdl.a12 (M : Mdl S ad ar h) : h (ad 12) = some (.inl (.array .int, (5, .inr (.inr (.inr (.inr (fun i => if i < 5 then some (ar 1 i) else none))))))) := M.1 12 _ rfl
theorem Mdl.a13 (M : Mdl S ad ar h) : h (ad 13) = some (.inl (.array .int, (5, .inr (.inr (.inr (.inr (fun i => if i < 5 then some (ar 2 i) else none))))))) := M.1 13 _ rfl
theorem Mdl.a23 (M : Mdl S ad ar h) : h (ad 23) = some (.inl (.long, (8, .inr (.inl (fun j => S.2 2 j))))) := M.1 23 _ rfl
theorem Mdl.r0 (M : Mdl S ad ar h) {i : Nat} (hi : i < 5) : h (ar 0 i) = some (.inl (.boolean, (8, .inl (fun j => S.1 11 i j)))) := M.2.1 0 i (by decide) hi
theorem Mdl.r1 (M : Mdl S ad ar h) {i : Nat} (hi : i < 5) : h (ar 1 i) = some (.inl (.int, (8, .inl (fun j => S.1 12 i j)))) := M.2.1 1 i (by decide) hi
theorem Mdl.r2 (M : Mdl S ad ar h) {i : Nat} (hi : i < 5) : h (ar 2 i) = some (.inl (.int, (8, .inl (fun j => S.1 13 i j)))) := M.2.1 2 i (by decide) hi
theorem rcl_s1 {c a b : Nat} {v : Int32} (hc : c ≠ 11 ∧ c ≠ 12 ∧ c ≠ 13) : ∀ b' i, rcl (s1 S c a b v) b' i = rcl S b' i := by
  intro b' i
  have e1 : ∀ j, (s1 S c a b v).1 11 i j = S.1 11 i j := fun j => s1_c (Ne.symm hc.1)
  have e2 : ∀ j, (s1 S c a b v).1 12 i j = S.1 12 i j := fun j => s1_c (Ne.symm hc.2.1)
  have e3 : ∀ j, (s1 S c a b v).1 13 i j = S.1 13 i j := fun j => s1_c (Ne.symm hc.2.2)
  unfold rcl
  split
  · simp only [e1]
  · simp only [e2]
  · simp only [e3]
theorem mcl_s1 {c a b : Nat} {v : Int32} : ∀ k, k ≠ c → mcl (s1 S c a b v) ad ar k = mcl S ad ar k := by
  intro k hk
  have e : ∀ i j, (s1 S c a b v).1 k i j = S.1 k i j := fun i j => s1_c hk
  unfold mcl
  split <;> first | rfl | simp only [e, s1_2]
theorem mcl_s1r {c a b : Nat} {v : Int32} (hc : c = 11 ∨ c = 12 ∨ c = 13) : ∀ k, mcl (s1 S c a b v) ad ar k = mcl S ad ar k := by
  intro k
  by_cases hk : k = c
  · subst hk
    rcases hc with rfl | rfl | rfl <;> rfl
  · exact mcl_s1 k hk
theorem mcl_s2 {c a : Nat} {v : Int64} : ∀ k, k ≠ 0 → k ≠ 23 → mcl (s2 S c a v) ad ar k = mcl S ad ar k := by
  intro k hk hk2
  unfold mcl
  split <;> first | rfl | exact absurd rfl hk | exact absurd rfl hk2
theorem Mdl.sc0 (M : Mdl S ad ar h) {v : Int32} (n : h1 (ad 0) = some (.inr (8, [.ref (ad 1), .ref (ad 2), .int (S.1 0 0 0), .ref (ad 3), .ref (ad 4), .ref (ad 5), .int (S.1 0 1 0), .ref (ad 6), .ref (ad 7), .ref (ad 8), .ref (ad 9), .ref (ad 10), .ref (ad 11), .ref (ad 12), .ref (ad 13), .int (S.1 0 2 0), .ref (ad 14), .ref (ad 15), .ref (ad 16), .int (S.1 0 3 0), .ref (ad 17), .ref (ad 18), .ref (ad 19), .ref (ad 20), .ref (ad 21), .ref (ad 23), .ref (ad 22), .int (S.1 0 4 0), .int (S.1 0 5 0), .int (S.1 0 6 0), .int (S.1 0 7 0), .long (S.2 0 0), .long (S.2 1 0), .int (S.1 0 8 0)].set 2 (.int v)))) (u : ∀ x, x ≠ ad 0 → h1 x = h x) : Mdl (s1 S 0 0 0 v) ad ar h1 := M.fix (by decide) n u rfl (fun k hk => mcl_s1 k hk) (rcl_s1 (by decide))
theorem Mdl.sc1 (M : Mdl S ad ar h) {v : Int32} (n : h1 (ad 0) = some (.inr (8, [.ref (ad 1), .ref (ad 2), .int (S.1 0 0 0), .ref (ad 3), .ref (ad 4), .ref (ad 5), .int (S.1 0 1 0), .ref (ad 6), .ref (ad 7), .ref (ad 8), .ref (ad 9), .ref (ad 10), .ref (ad 11), .ref (ad 12), .ref (ad 13), .int (S.1 0 2 0), .ref (ad 14), .ref (ad 15), .ref (ad 16), .int (S.1 0 3 0), .ref (ad 17), .ref (ad 18), .ref (ad 19), .ref (ad 20), .ref (ad 21), .ref (ad 23), .ref (ad 22), .int (S.1 0 4 0), .int (S.1 0 5 0), .int (S.1 0 6 0), .int (S.1 0 7 0), .long (S.2 0 0), .long (S.2 1 0), .int (S.1 0 8 0)].set 6 (.int v)))) (u : ∀ x, x ≠ ad 0 → h1 x = h x) : Mdl (s1 S 0 1 0 v) ad ar h1 := M.fix (by decide) n u rfl (fun k hk => mcl_s1 k hk) (rcl_s1 (by decide))
theorem Mdl.sc2 (M : Mdl S ad ar h) {v : Int32} (n : h1 (ad 0) = some (.inr (8, [.ref (ad 1), .ref (ad 2), .int (S.1 0 0 0), .ref (ad 3), .ref (ad 4), .ref (ad 5), .int (S.1 0 1 0), .ref (ad 6), .ref (ad 7), .ref (ad 8), .ref (ad 9), .ref (ad 10), .ref (ad 11), .ref (ad 12), .ref (ad 13), .int (S.1 0 2 0), .ref (ad 14), .ref (ad 15), .ref (ad 16), .int (S.1 0 3 0), .ref (ad 17), .ref (ad 18), .ref (ad 19), .ref (ad 20), .ref (ad 21), .ref (ad 23), .ref (ad 22), .int (S.1 0 4 0), .int (S.1 0 5 0), .int (S.1 0 6 0), .int (S.1 0 7 0), .long (S.2 0 0), .long (S.2 1 0), .int (S.1 0 8 0)].set 15 (.int v)))) (u : ∀ x, x ≠ ad 0 → h1 x = h x) : Mdl (s1 S 0 2 0 v) ad ar h1 := M.fix (by decide) n u rfl (fun k hk => mcl_s1 k hk) (rcl_s1 (by decide))
theorem Mdl.sc3 (M : Mdl S ad ar h) {v : Int32} (n : h1 (ad 0) = some (.inr (8, [.ref (ad 1), .ref (ad 2), .int (S.1 0 0 0), .ref (ad 3), .ref (ad 4), .ref (ad 5), .int (S.1 0 1 0), .ref (ad 6), .ref (ad 7), .ref (ad 8), .ref (ad 9), .ref (ad 10), .ref (ad 11), .ref (ad 12), .ref (ad 13), .int (S.1 0 2 0), .ref (ad 14), .ref (ad 15), .ref (ad 16), .int (S.1 0 3 0), .ref (ad 17), .ref (ad 18), .ref (ad 19), .ref (ad 20), .ref (ad 21), .ref (ad 23), .ref (ad 22), .int (S.1 0 4 0), .int (S.1 0 5 0), .int (S.1 0 6 0), .int (S.1 0 7 0), .long (S.2 0 0), .long (S.2 1 0), .int (S.1 0 8 0)].set 19 (.int v)))) (u : ∀ x, x ≠ ad 0 → h1 x = h x) : Mdl (s1 S 0 3 0 v) ad ar h1 := M.fix (by decide) n u rfl (fun k hk => mcl_s1 k hk) (rcl_s1 (by decide))
theorem Mdl.sc4 (M : Mdl S ad ar h) {v : Int32} (n : h1 (ad 0) = some (.inr (8, [.ref (ad 1), .ref (ad 2), .int (S.1 0 0 0), .ref (ad 3), .ref (ad 4), .ref (ad 5), .int (S.1 0 1 0), .ref (ad 6), .ref (ad 7), .ref (ad 8), .ref (ad 9), .ref (ad 10), .ref (ad 11), .ref (ad 12), .ref (ad 13), .int (S.1 0 2 0), .ref (ad 14), .ref (ad 15), .ref (ad 16), .int (S.1 0 3 0), .ref (ad 17), .ref (ad 18), .ref (ad 19), .ref (ad 20), .ref (ad 21), .ref (ad 23), .ref (ad 22), .int (S.1 0 4 0), .int (S.1 0 5 0), .int (S.1 0 6 0), .int (S.1 0 7 0), .long (S.2 0 0), .long (S.2 1 0), .int (S.1 0 8 0)].set 27 (.int v)))) (u : ∀ x, x ≠ ad 0 → h1 x = h x) : Mdl (s1 S 0 4 0 v) ad ar h1 := M.fix (by decide) n u rfl (fun k hk => mcl_s1 k hk) (rcl_s1 (by decide))
theorem Mdl.sc5 (M : Mdl S ad ar h) {v : Int32} (n : h1 (ad 0) = some (.inr (8, [.ref (ad 1), .ref (ad 2), .int (S.1 0 0 0), .ref (ad 3), .ref (ad 4), .ref (ad 5), .int (S.1 0 1 0), .ref (ad 6), .ref (ad 7), .ref (ad 8), .ref (ad 9), .ref (ad 10), .ref (ad 11), .ref (ad 12), .ref (ad 13), .int (S.1 0 2 0), .ref (ad 14), .ref (ad 15), .ref (ad 16), .int (S.1 0 3 0), .ref (ad 17), .ref (ad 18), .ref (ad 19), .ref (ad 20), .ref (ad 21), .ref (ad 23), .ref (ad 22), .int (S.1 0 4 0), .int (S.1 0 5 0), .int (S.1 0 6 0), .int (S.1 0 7 0), .long (S.2 0 0), .long (S.2 1 0), .int (S.1 0 8 0)].set 28 (.int v)))) (u : ∀ x, x ≠ ad 0 → h1 x = h x) : Mdl (s1 S 0 5 0 v) ad ar h1 := M.fix (by decide) n u rfl (fun k hk => mcl_s1 k hk) (rcl_s1 (by decide))
theorem Mdl.sc6 (M : Mdl S ad ar h) {v : Int32} (n : h1 (ad 0) = some (.inr (8, [.ref (ad 1), .ref (ad 2), .int (S.1 0 0 0), .ref (ad 3), .ref (ad 4), .ref (ad 5), .int (S.1 0 1 0), .ref (ad 6), .ref (ad 7), .ref (ad 8), .ref (ad 9), .ref (ad 10), .ref (ad 11), .ref (ad 12), .ref (ad 13), .int (S.1 0 2 0), .ref (ad 14), .ref (ad 15), .ref (ad 16), .int (S.1 0 3 0), .ref (ad 17), .ref (ad 18), .ref (ad 19), .ref (ad 20), .ref (ad 21), .ref (ad 23), .ref (ad 22), .int (S.1 0 4 0), .int (S.1 0 5 0), .int (S.1 0 6 0), .int (S.1 0 7 0), .long (S.2 0 0), .long (S.2 1 0), .int (S.1 0 8 0)].set 29 (.int v)))) (u : ∀ x, x ≠ ad 0 → h1 x = h x) : Mdl (s1 S 0 6 0 v) ad ar h1 := M.fix (by decide) n u rfl (fun k hk => mcl_s1 k hk) (rcl_s1 (by decide))
theorem Mdl.sc7 (M : Mdl S ad ar h) {v : Int32} (n : h1 (ad 0) = some (.inr (8, [.ref (ad 1), .ref (ad 2), .int (S.1 0 0 0), .ref (ad 3), .ref (ad 4), .ref (ad 5), .int (S.1 0 1 0), .ref (ad 6), .ref (ad 7), .ref (ad 8), .ref (ad 9), .ref (ad 10), .ref (ad 11), .ref (ad 12), .ref (ad 13), .int (S.1 0 2 0), .ref (ad 14), .ref (ad 15), .ref (ad 16), .int (S.1 0 3 0), .ref (ad 17), .ref (ad 18), .ref (ad 19), .ref (ad 20), .ref (ad 21), .ref (ad 23), .ref (ad 22), .int (S.1 0 4 0), .int (S.1 0 5 0), .int (S.1 0 6 0), .int (S.1 0 7 0), .long (S.2 0 0), .long (S.2 1 0), .int (S.1 0 8 0)].set 30 (.int v)))) (u : ∀ x, x ≠ ad 0 → h1 x = h x) : Mdl (s1 S 0 7 0 v) ad ar h1 := M.fix (by decide) n u rfl (fun k hk => mcl_s1 k hk) (rcl_s1 (by decide))
theorem Mdl.sc8 (M : Mdl S ad ar h) {v : Int32} (n : h1 (ad 0) = some (.inr (8, [.ref (ad 1), .ref (ad 2), .int (S.1 0 0 0), .ref (ad 3), .ref (ad 4), .ref (ad 5), .int (S.1 0 1 0), .ref (ad 6), .ref (ad 7), .ref (ad 8), .ref (ad 9), .ref (ad 10), .ref (ad 11), .ref (ad 12), .ref (ad 13), .int (S.1 0 2 0), .ref (ad 14), .ref (ad 15), .ref (ad 16), .int (S.1 0 3 0), .ref (ad 17), .ref (ad 18), .ref (ad 19), .ref (ad 20), .ref (ad 21), .ref (ad 23), .ref (ad 22), .int (S.1 0 4 0), .int (S.1 0 5 0), .int (S.1 0 6 0), .int (S.1 0 7 0), .long (S.2 0 0), .long (S.2 1 0), .int (S.1 0 8 0)].set 33 (.int v)))) (u : ∀ x, x ≠ ad 0 → h1 x = h x) : Mdl (s1 S 0 8 0 v) ad ar h1 := M.fix (by decide) n u rfl (fun k hk => mcl_s1 k hk) (rcl_s1 (by decide))
theorem Mdl.sl0 (M : Mdl S ad ar h) {v : Int64} (n : h1 (ad 0) = some (.inr (8, [.ref (ad 1), .ref (ad 2), .int (S.1 0 0 0), .ref (ad 3), .ref (ad 4), .ref (ad 5), .int (S.1 0 1 0), .ref (ad 6), .ref (ad 7), .ref (ad 8), .ref (ad 9), .ref (ad 10), .ref (ad 11), .ref (ad 12), .ref (ad 13), .int (S.1 0 2 0), .ref (ad 14), .ref (ad 15), .ref (ad 16), .int (S.1 0 3 0), .ref (ad 17), .ref (ad 18), .ref (ad 19), .ref (ad 20), .ref (ad 21), .ref (ad 23), .ref (ad 22), .int (S.1 0 4 0), .int (S.1 0 5 0), .int (S.1 0 6 0), .int (S.1 0 7 0), .long (S.2 0 0), .long (S.2 1 0), .int (S.1 0 8 0)].set 31 (.long v)))) (u : ∀ x, x ≠ ad 0 → h1 x = h x) : Mdl (s2 S 0 0 v) ad ar h1 := M.fix (by decide) n u rfl (fun k hk => by
    by_cases h9 : k = 23
    · subst h9; simp [mcl, s2]
    · exact mcl_s2 k hk h9) (fun _ _ => rfl)
theorem Mdl.sl1 (M : Mdl S ad ar h) {v : Int64} (n : h1 (ad 0) = some (.inr (8, [.ref (ad 1), .ref (ad 2), .int (S.1 0 0 0), .ref (ad 3), .ref (ad 4), .ref (ad 5), .int (S.1 0 1 0), .ref (ad 6), .ref (ad 7), .ref (ad 8), .ref (ad 9), .ref (ad 10), .ref (ad 11), .ref (ad 12), .ref (ad 13), .int (S.1 0 2 0), .ref (ad 14), .ref (ad 15), .ref (ad 16), .int (S.1 0 3 0), .ref (ad 17), .ref (ad 18), .ref (ad 19), .ref (ad 20), .ref (ad 21), .ref (ad 23), .ref (ad 22), .int (S.1 0 4 0), .int (S.1 0 5 0), .int (S.1 0 6 0), .int (S.1 0 7 0), .long (S.2 0 0), .long (S.2 1 0), .int (S.1 0 8 0)].set 32 (.long v)))) (u : ∀ x, x ≠ ad 0 → h1 x = h x) : Mdl (s2 S 1 0 v) ad ar h1 := M.fix (by decide) n u rfl (fun k hk => by
    by_cases h9 : k = 23
    · subst h9; simp [mcl, s2]
    · exact mcl_s2 k hk h9) (fun _ _ => rfl)
theorem Mdl.st1 (M : Mdl S ad ar h) {i : Nat} {v : Int32} (n : h1 (ad 1) = some (.inl (.int, (4, .inl (fup (fun j => S.1 1 j 0) i v))))) (u : ∀ x, x ≠ ad 1 → h1 x = h x) : Mdl (s1 S 1 i 0 v) ad ar h1 := M.fix (by decide) n u (by simp [mcl, s1, fup]; rfl) (fun k hk => mcl_s1 k hk) (rcl_s1 (by decide))
theorem Mdl.st2 (M : Mdl S ad ar h) {i : Nat} {v : Int32} (n : h1 (ad 2) = some (.inl (.int, (4, .inl (fup (fun j => S.1 2 j 0) i v))))) (u : ∀ x, x ≠ ad 2 → h1 x = h x) : Mdl (s1 S 2 i 0 v) ad ar h1 := M.fix (by decide) n u (by simp [mcl, s1, fup]; rfl) (fun k hk => mcl_s1 k hk) (rcl_s1 (by decide))
theorem Mdl.st3 (M : Mdl S ad ar h) {i : Nat} {v : Int32} (n : h1 (ad 3) = some (.inl (.int, (3, .inl (fup (fun j => S.1 3 j 0) i v))))) (u : ∀ x, x ≠ ad 3 → h1 x = h x) : Mdl (s1 S 3 i 0 v) ad ar h1 := M.fix (by decide) n u (by simp [mcl, s1, fup]; rfl) (fun k hk => mcl_s1 k hk) (rcl_s1 (by decide))
theorem Mdl.st4 (M : Mdl S ad ar h) {i : Nat} {v : Int32} (n : h1 (ad 4) = some (.inl (.int, (3, .inl (fup (fun j => S.1 4 j 0) i v))))) (u : ∀ x, x ≠ ad 4 → h1 x = h x) : Mdl (s1 S 4 i 0 v) ad ar h1 := M.fix (by decide) n u (by simp [mcl, s1, fup]; rfl) (fun k hk => mcl_s1 k hk) (rcl_s1 (by decide))
theorem Mdl.st5 (M : Mdl S ad ar h) {i : Nat} {v : Int32} (n : h1 (ad 5) = some (.inl (.int, (3, .inl (fup (fun j => S.1 5 j 0) i v))))) (u : ∀ x, x ≠ ad 5 → h1 x = h x) : Mdl (s1 S 5 i 0 v) ad ar h1 := M.fix (by decide) n u (by simp [mcl, s1, fup]; rfl) (fun k hk => mcl_s1 k hk) (rcl_s1 (by decide))
theorem Mdl.st6 (M : Mdl S ad ar h) {i : Nat} {v : Int32} (n : h1 (ad 6) = some (.inl (.int, (5, .inl (fup (fun j => S.1 6 j 0) i v))))) (u : ∀ x, x ≠ ad 6 → h1 x = h x) : Mdl (s1 S 6 i 0 v) ad ar h1 := M.fix (by decide) n u (by simp [mcl, s1, fup]; rfl) (fun k hk => mcl_s1 k hk) (rcl_s1 (by decide))
theorem Mdl.st7 (M : Mdl S ad ar h) {i : Nat} {v : Int32} (n : h1 (ad 7) = some (.inl (.int, (5, .inl (fup (fun j => S.1 7 j 0) i v))))) (u : ∀ x, x ≠ ad 7 → h1 x = h x) : Mdl (s1 S 7 i 0 v) ad ar h1 := M.fix (by decide) n u (by simp [mcl, s1, fup]; rfl) (fun k hk => mcl_s1 k hk) (rcl_s1 (by decide))
theorem Mdl.st8 (M : Mdl S ad ar h) {i : Nat} {v : Int32} (n : h1 (ad 8) = some (.inl (.int, (5, .inl (fup (fun j => S.1 8 j 0) i v))))) (u : ∀ x, x ≠ ad 8 → h1 x = h x) : Mdl (s1 S 8 i 0 v) ad ar h1 := M.fix (by decide) n u (by simp [mcl, s1, fup]; rfl) (fun k hk => mcl_s1 k hk) (rcl_s1 (by decide))
theorem Mdl.st9 (M : Mdl S ad ar h) {i : Nat} {v : Int32} (n : h1 (ad 9) = some (.inl (.int, (5, .inl (fup (fun j => S.1 9 j 0) i v))))) (u : ∀ x, x ≠ ad 9 → h1 x = h x) : Mdl (s1 S 9 i 0 v) ad ar h1 := M.fix (by decide) n u (by simp [mcl, s1, fup]; rfl) (fun k hk => mcl_s1 k hk) (rcl_s1 (by decide))
theorem Mdl.st10 (M : Mdl S ad ar h) {i : Nat} {v : Int32} (n : h1 (ad 10) = some (.inl (.int, (5, .inl (fup (fun j => S.1 10 j 0) i v))))) (u : ∀ x, x ≠ ad 10 → h1 x = h x) : Mdl (s1 S 10 i 0 v) ad ar h1 := M.fix (by decide) n u (by simp [mcl, s1, fup]; rfl) (fun k hk => mcl_s1 k hk) (rcl_s1 (by decide))
theorem Mdl.st14 (M : Mdl S ad ar h) {i : Nat} {v : Int32} (n : h1 (ad 14) = some (.inl (.int, (3, .inl (fup (fun j => S.1 14 j 0) i v))))) (u : ∀ x, x ≠ ad 14 → h1 x = h x) : Mdl (s1 S 14 i 0 v) ad ar h1 := M.fix (by decide) n u (by simp [mcl, s1, fup]; rfl) (fun k hk => mcl_s1 k hk) (rcl_s1 (by decide))
theorem Mdl.st15 (M : Mdl S ad ar h) {i : Nat} {v : Int32} (n : h1 (ad 15) = some (.inl (.int, (3, .inl (fup (fun j => S.1 15 j 0) i v))))) (u : ∀ x, x ≠ ad 15 → h1 x = h x) : Mdl (s1 S 15 i 0 v) ad ar h1 := M.fix (by decide) n u (by simp [mcl, s1, fup]; rfl) (fun k hk => mcl_s1 k hk) (rcl_s1 (by decide))
theorem Mdl.st16 (M : Mdl S ad ar h) {i : Nat} {v : Int32} (n : h1 (ad 16) = some (.inl (.int, (3, .inl (fup (fun j => S.1 16 j 0) i v))))) (u : ∀ x, x ≠ ad 16 → h1 x = h x) : Mdl (s1 S 16 i 0 v) ad ar h1 := M.fix (by decide) n u (by simp [mcl, s1, fup]; rfl) (fun k hk => mcl_s1 k hk) (rcl_s1 (by decide))
theorem Mdl.st17 (M : Mdl S ad ar h) {i : Nat} {v : Int32} (n : h1 (ad 17) = some (.inl (.int, (8, .inl (fup (fun j => S.1 17 j 0) i v))))) (u : ∀ x, x ≠ ad 17 → h1 x = h x) : Mdl (s1 S 17 i 0 v) ad ar h1 := M.fix (by decide) n u (by simp [mcl, s1, fup]; rfl) (fun k hk => mcl_s1 k hk) (rcl_s1 (by decide))
theorem Mdl.st18 (M : Mdl S ad ar h) {i : Nat} {v : Int32} (n : h1 (ad 18) = some (.inl (.int, (8, .inl (fup (fun j => S.1 18 j 0) i v))))) (u : ∀ x, x ≠ ad 18 → h1 x = h x) : Mdl (s1 S 18 i 0 v) ad ar h1 := M.fix (by decide) n u (by simp [mcl, s1, fup]; rfl) (fun k hk => mcl_s1 k hk) (rcl_s1 (by decide))
theorem Mdl.st19 (M : Mdl S ad ar h) {i : Nat} {v : Int32} (n : h1 (ad 19) = some (.inl (.int, (8, .inl (fup (fun j => S.1 19 j 0) i v))))) (u : ∀ x, x ≠ ad 19 → h1 x = h x) : Mdl (s1 S 19 i 0 v) ad ar h1 := M.fix (by decide) n u (by simp [mcl, s1, fup]; rfl) (fun k hk => mcl_s1 k hk) (rcl_s1 (by decide))
theorem Mdl.st20 (M : Mdl S ad ar h) {i : Nat} {v : Int32} (n : h1 (ad 20) = some (.inl (.int, (8, .inl (fup (fun j => S.1 20 j 0) i v))))) (u : ∀ x, x ≠ ad 20 → h1 x = h x) : Mdl (s1 S 20 i 0 v) ad ar h1 := M.fix (by decide) n u (by simp [mcl, s1, fup]; rfl) (fun k hk => mcl_s1 k hk) (rcl_s1 (by decide))
theorem Mdl.st21 (M : Mdl S ad ar h) {i : Nat} {v : Int32} (n : h1 (ad 21) = some (.inl (.int, (8, .inl (fup (fun j => S.1 21 j 0) i v))))) (u : ∀ x, x ≠ ad 21 → h1 x = h x) : Mdl (s1 S 21 i 0 v) ad ar h1 := M.fix (by decide) n u (by simp [mcl, s1, fup]; rfl) (fun k hk => mcl_s1 k hk) (rcl_s1 (by decide))
theorem Mdl.st22 (M : Mdl S ad ar h) {i : Nat} {v : Int32} (n : h1 (ad 22) = some (.inl (.int, (8, .inl (fup (fun j => S.1 22 j 0) i v))))) (u : ∀ x, x ≠ ad 22 → h1 x = h x) : Mdl (s1 S 22 i 0 v) ad ar h1 := M.fix (by decide) n u (by simp [mcl, s1, fup]; rfl) (fun k hk => mcl_s1 k hk) (rcl_s1 (by decide))
theorem Mdl.st23 (M : Mdl S ad ar h) {i : Nat} {v : Int64} (n : h1 (ad 23) = some (.inl (.long, (8, .inr (.inl (fup (fun j => S.2 2 j) i v)))))) (u : ∀ x, x ≠ ad 23 → h1 x = h x) : Mdl (s2 S 2 i v) ad ar h1 := M.fix (by decide) n u (by simp [mcl, s2, fup]; rfl) (fun k hk => by
    by_cases h9 : k = 0
    · subst h9; simp [mcl, s2]
    · exact mcl_s2 k h9 hk) (fun _ _ => rfl)
theorem Mdl.sr0 (M : Mdl S ad ar h) {i j : Nat} (hi : i < 5) {v : Int32} (n : h1 (ar 0 i) = some (.inl (.boolean, (8, .inl (fup (fun j => S.1 11 i j) j v))))) (u : ∀ x, x ≠ ar 0 i → h1 x = h x) : Mdl (s1 S 11 i j v) ad ar h1 := by
  refine M.row (b0 := 0) (i0 := i) (by decide) hi (n.trans ?_) u (mcl_s1r (by decide)) (fun b i' hb hk => ?_)
  · simp [rcl, s1, fup]; rfl
  · rcases (show b = 0 ∨ b = 1 ∨ b = 2 by omega) with rfl | rfl | rfl <;> simp [rcl, s1] <;> (try funext q) <;> (try (rw [if_neg (fun z => hk ⟨rfl, z.1⟩)]))
theorem Mdl.sr1 (M : Mdl S ad ar h) {i j : Nat} (hi : i < 5) {v : Int32} (n : h1 (ar 1 i) = some (.inl (.int, (8, .inl (fup (fun j => S.1 12 i j) j v))))) (u : ∀ x, x ≠ ar 1 i → h1 x = h x) : Mdl (s1 S 12 i j v) ad ar h1 := by
  refine M.row (b0 := 1) (i0 := i) (by decide) hi (n.trans ?_) u (mcl_s1r (by decide)) (fun b i' hb hk => ?_)
  · simp [rcl, s1, fup]; rfl
  · rcases (show b = 0 ∨ b = 1 ∨ b = 2 by omega) with rfl | rfl | rfl <;> simp [rcl, s1] <;> (try funext q) <;> (try (rw [if_neg (fun z => hk ⟨rfl, z.1⟩)]))
theorem Mdl.sr2 (M : Mdl S ad ar h) {i j : Nat} (hi : i < 5) {v : Int32} (n : h1 (ar 2 i) = some (.inl (.int, (8, .inl (fup (fun j => S.1 13 i j) j v))))) (u : ∀ x, x ≠ ar 2 i → h1 x = h x) : Mdl (s1 S 13 i j v) ad ar h1 := by
  refine M.row (b0 := 2) (i0 := i) (by decide) hi (n.trans ?_) u (mcl_s1r (by decide)) (fun b i' hb hk => ?_)
  · simp [rcl, s1, fup]; rfl
  · rcases (show b = 0 ∨ b = 1 ∨ b = 2 by omega) with rfl | rfl | rfl <;> simp [rcl, s1] <;> (try funext q) <;> (try (rw [if_neg (fun z => hk ⟨rfl, z.1⟩)]))
end MD
end
section
/-! what each call answers and leaves, as functions of the mathematical state (in the order in which the model writes) -/
def inB (v lw hi : Int32) : Bool := decide (lw ≤ v) && decide (v ≤ hi)
def b2i (b : Bool) : Int32 := match b with | true => 1 | false => 0
theorem b2i_t {b : Bool} (h : ¬ b2i b = 0) : b = true := by cases b <;> first | rfl | exact absurd rfl h
theorem b2i_f {b : Bool} (h : b2i b = 0) : b = false := by cases b <;> first | rfl | (exact absurd h (by decide))
abbrev nn (x : Int32) : Nat := x.toNatClampNeg
abbrev th (S : St) (t : Int32) : St := s1 S 0 8 0 t
def isRes (S : St) (x : Int32) : Bool := inB x 0 (S.1 0 0 0 - 1)
def isLot (S : St) (x : Int32) : Bool := inB x 0 (S.1 0 1 0 - 1)
def isMou (S : St) (x : Int32) : Bool := inB x 0 (S.1 0 2 0 - 1)
def isMac (S : St) (x : Int32) : Bool := inB x 0 (S.1 0 3 0 - 1)
def isOrd (S : St) (x : Int32) : Bool := inB x 0 (S.1 0 4 0 - 1)
def isCav (S : St) (mo ca : Int32) : Bool := isMou S mo && inB ca 0 (S.1 6 (nn mo) 0 - 1)
def mx (x y : Int32) : Int32 := if x < y then y else x
def mn (x y : Int32) : Int32 := if y < x then y else x
def toDry (S : St) (k : Nat) : Int32 := mx 0 (S.1 1 (nn (S.1 3 k 0)) 0 - S.1 5 k 0)
def dryT (S : St) (r : Int32) (k : Nat) : Int32 := if S.1 3 k 0 = r ∧ toDry S k = 0 then S.1 4 k 0 else 0
def dryOfN (S : St) (r : Int32) : Nat → Int32
  | 0 => 0
  | n + 1 => dryOfN S r n + dryT S r n
def dryOf (S : St) (r : Int32) : Int32 := dryOfN S r (nn (S.1 0 1 0))
def opT (S : St) (mo k : Nat) : Int32 := if S.1 11 mo k = 0 then 1 else 0
def openN (S : St) (mo : Nat) : Nat → Int32
  | 0 => 0
  | n + 1 => openN S mo n + opT S mo n
def opn (S : St) (mo : Nat) : Int32 := openN S mo (nn (S.1 6 mo 0))
def mntN (S : St) (x : Int32) : Nat → Bool
  | 0 => false
  | n + 1 => mntN S x n || decide (S.1 15 n 0 = x)
def mnt (S : St) (x : Int32) : Bool := mntN S x (nn (S.1 0 3 0))
def fails (S : St) (mo k : Nat) : St := s1 S 11 mo k (if S.1 11 mo k = 0 ∧ S.1 13 mo k < S.1 12 mo k then 0 else 1)
def shf (S : St) (k : Nat) : St :=
  s1 (s1 (s1 S 3 k 0 (S.1 3 (k + 1) 0)) 4 k 0 ((s1 S 3 k 0 (S.1 3 (k + 1) 0)).1 4 (k + 1) 0)) 5 k 0 ((s1 (s1 S 3 k 0 (S.1 3 (k + 1) 0)) 4 k 0 ((s1 S 3 k 0 (S.1 3 (k + 1) 0)).1 4 (k + 1) 0)).1 5 (k + 1) 0)
def shfN (S : St) (k : Nat) : Nat → St
  | 0 => S
  | n + 1 => shfN (shf S k) (k + 1) n
def lev (S : St) (lot : Nat) : St := shfN (s1 S 0 1 0 (S.1 0 1 0 - 1)) lot (nn (S.1 0 1 0 - 1) - lot)
def tkI (S : St) (r left : Int32) (k : Nat) : Int32 := if S.1 3 k 0 = r ∧ toDry S k = 0 then mn left (S.1 4 k 0) else 0
def tkN (S : St) (r left : Int32) : Nat → St × Int32
  | 0 => (S, left)
  | n + 1 => (s1 (tkN S r left n).1 4 n 0 ((tkN S r left n).1.1 4 n 0 - tkI (tkN S r left n).1 r (tkN S r left n).2 n), (tkN S r left n).2 - tkI (tkN S r left n).1 r (tkN S r left n).2 n)
def takes (S : St) (r g : Int32) : St := (tkN S r g (nn (S.1 0 1 0))).1
def mkS (S : St) (mo k : Nat) : St := if S.1 11 mo k = 0 then fails (s1 S 13 mo k (S.1 13 mo k + 1)) mo k else S
def mkN (S : St) (mo : Nat) : Nat → St
  | 0 => S
  | n + 1 => mkS (mkN S mo n) mo n
/-! a shot -/
def sMo (S : St) (o : Nat) : Nat := nn (S.1 17 o 0)
def sRe (S : St) (o : Nat) : Nat := nn (S.1 18 o 0)
def sMany (S : St) (o : Nat) : Int32 := opn S (sMo S o)
def sGrams (S : St) (o : Nat) : Int32 := sMany S o * S.1 7 (sMo S o) 0 + S.1 8 (sMo S o) 0
def sBack (S : St) (o : Nat) : Int32 := mn (S.1 2 (sRe S o) 0) (sGrams S o * S.1 20 o 0 / 100)
def sOK (S : St) (o : Nat) : Bool := !decide (sMany S o = 0) && !decide (dryOf S (S.1 18 o 0) < sGrams S o - sBack S o)
def sS1 (S : St) (o : Nat) : St := s1 S 2 (sRe S o) 0 (S.1 2 (sRe S o) 0 - sBack S o)
def sS2 (S : St) (o : Nat) : St := takes (sS1 S o) (S.1 18 o 0) (sGrams S o - sBack S o)
def sS3 (S : St) (o : Nat) : St := mkN (sS2 S o) (sMo S o) (nn ((sS2 S o).1 6 (sMo S o) 0))
def sGets (S : St) (o : Nat) : Int32 := mn (sMany S o) ((sS3 S o).1 19 o 0)
def sS4 (S : St) (o : Nat) : St := s1 (sS3 S o) 19 o 0 ((sS3 S o).1 19 o 0 - sGets S o)
def sS5 (S : St) (o : Nat) : St := s1 (sS4 S o) 2 (sRe S o) 0 ((sS4 S o).1 2 (sRe S o) 0 + ((sS4 S o).1 8 (sMo S o) 0 + (sMany S o - sGets S o) * (sS4 S o).1 7 (sMo S o) 0))
def sS6 (S : St) (o : Nat) : St := s1 (sS5 S o) 21 o 0 ((sS5 S o).1 21 o 0 + 1)
def sS7 (S : St) (o : Nat) : St := s2 (sS6 S o) 2 o ((sS6 S o).2 2 o + (sBack S o).toInt64)
def sS8 (S : St) (o : Nat) : St := s1 (sS7 S o) 22 o 0 (mx ((sS7 S o).1 22 o 0) (100 * sBack S o / sGrams S o))
def sS9 (S : St) (o : Nat) : St := s1 (sS8 S o) 0 6 0 ((sS8 S o).1 0 6 0 + 1)
def sS10 (S : St) (o : Nat) : St := s1 (sS9 S o) 0 7 0 ((sS9 S o).1 0 7 0 + sGets S o)
def sS11 (S : St) (o : Nat) : St := s2 (sS10 S o) 0 0 ((sS10 S o).2 0 0 + (sGrams S o).toInt64)
def shoot (S : St) (o : Nat) : St := s2 (sS11 S o) 1 0 ((sS11 S o).2 1 0 + (sBack S o).toInt64)
/-! an hour -/
def shl (S : St) (o : Nat) (parts : Int32) : Nat → St × Int32
  | 0 => (S, parts)
  | n + 1 => if 0 < S.1 19 o 0 then (if sOK S o then shl (shoot S o) o (parts + sGets S o) n else (S, parts)) else (S, parts)
def mcS (S : St) (parts : Int32) (k : Nat) : St × Int32 := if S.1 16 k 0 = -1 then (S, parts) else shl S (nn (S.1 16 k 0)) parts (nn (3600 / S.1 10 (nn (S.1 15 k 0)) 0))
def mcN (S : St) : Nat → St × Int32
  | 0 => (S, 0)
  | n + 1 => mcS (mcN S n).1 (mcN S n).2 n
def dryS (S : St) (k : Nat) : St := if S.1 4 k 0 = 0 then lev (s1 S 5 k 0 (S.1 5 k 0 + 1)) k else s1 S 5 k 0 (S.1 5 k 0 + 1)
def dryN (S : St) : Nat → St
  | 0 => S
  | n + 1 => dryN (dryS S n) n
def hourM (S : St) : St × Int32 := mcN S (nn (S.1 0 3 0))
def hourD (S : St) : St := dryN (hourM S).1 (nn ((hourM S).1.1 0 1 0))
def hour (S : St) : St × Int32 := (s1 (hourD S) 0 5 0 ((hourD S).1 0 5 0 + 1), (hourM S).2)
def hrN (S : St) (parts : Int32) : Nat → St × Int32
  | 0 => (S, parts)
  | n + 1 => hrN (hour S).1 (parts + (hour S).2) n
/-! the calls -/
def p_addResin (S : St) (x : Int32) : St × Int32 :=
  if inB x 0 9 = false then (th S 1, 0) else if S.1 0 0 0 = 4 then (th S 2, 0) else
  (s1 (s1 (th S 0) 1 (nn (S.1 0 0 0)) 0 x) 0 0 0 (S.1 0 0 0 + 1), S.1 0 0 0 + 1 - 1)
def p_fill (S : St) (r g : Int32) : St × Int32 :=
  if isRes S r = false then (th S 1, 0) else if inB g 1 99999 = false then (th S 2, 0) else if S.1 0 1 0 = 3 then (th S 3, 0) else
  (s1 (s1 (s1 (s1 (th S 0) 3 (nn (S.1 0 1 0)) 0 r) 4 (nn (S.1 0 1 0)) 0 g) 5 (nn (S.1 0 1 0)) 0 0) 0 1 0 (S.1 0 1 0 + 1), S.1 0 1 0 + 1)
def p_empty (S : St) (x : Int32) : St × Int32 := if isLot S x = false then (th S 1, 0) else (lev (th S 0) (nn x), S.1 4 (nn x) 0)
def p_lots (S : St) : St × Int32 := (th S 0, S.1 0 1 0)
def p_hoursToDry (S : St) (x : Int32) : St × Int32 := if isLot S x = false then (th S 1, 0) else (th S 0, toDry S (nn x))
def p_dry (S : St) (x : Int32) : St × Int32 := if isRes S x = false then (th S 1, 0) else (th S 0, dryOf S x)
def p_regrind (S : St) (x : Int32) : St × Int32 := if isRes S x = false then (th S 1, 0) else (th S 0, S.1 2 (nn x) 0)
def livN (S : St) (mo : Nat) : Nat → St
  | 0 => S
  | n + 1 => s1 (livN S mo n) 12 mo n 9999
def okMould (c q w f y : Int32) : Bool := inB c 1 8 && inB q 1 200 && inB w 0 200 && inB f 1 999 && inB y 60 3600
def p_addMould (S : St) (c q w f y : Int32) : St × Int32 :=
  if okMould c q w f y = false then (th S 1, 0) else if S.1 0 2 0 = 5 then (th S 2, 0) else
  (s1 (livN (s1 (s1 (s1 (s1 (s1 (th S 0) 6 (nn (S.1 0 2 0)) 0 c) 7 (nn (S.1 0 2 0)) 0 q) 8 (nn (S.1 0 2 0)) 0 w) 9 (nn (S.1 0 2 0)) 0 f) 10 (nn (S.1 0 2 0)) 0 y) (nn (S.1 0 2 0)) 8) 0 2 0 (S.1 0 2 0 + 1), S.1 0 2 0 + 1 - 1)
def p_setLife (S : St) (mo ca x : Int32) : St × Int32 :=
  if isCav S mo ca = false then (th S 1, 0) else if inB x 1 9999 = false then (th S 2, 0) else
  (fails (s1 (th S 0) 12 (nn mo) (nn ca) x) (nn mo) (nn ca), S.1 13 (nn mo) (nn ca))
def p_block (S : St) (mo ca : Int32) : St × Int32 :=
  if isCav S mo ca = false then (th S 1, 0) else if S.1 11 (nn mo) (nn ca) = 0 then (s1 (th S 0) 11 (nn mo) (nn ca) 1, opn (s1 (th S 0) 11 (nn mo) (nn ca) 1) (nn mo)) else (th S 2, 0)
def p_repair (S : St) (mo ca : Int32) : St × Int32 :=
  if isCav S mo ca = false then (th S 1, 0) else if S.1 11 (nn mo) (nn ca) = 0 then (th S 2, 0) else if mnt S mo = true then (th S 2, 0) else
  (s1 (s1 (th S 0) 11 (nn mo) (nn ca) 0) 13 (nn mo) (nn ca) 0, opn (s1 (s1 (th S 0) 11 (nn mo) (nn ca) 0) 13 (nn mo) (nn ca) 0) (nn mo))
/-- the first open cavity from k on, among the next n -/
def nxt (S : St) (mo k : Nat) : Nat → Option Nat
  | 0 => none
  | n + 1 => if S.1 11 mo k = 0 then some k else nxt S mo (k + 1) n
def nxtA (S : St) (mo : Nat) (f : Int32) : Option Nat := nxt S mo (nn f) (nn (S.1 6 mo 0) - nn f)
def p_nextOpen (S : St) (mo f : Int32) : St × Int32 :=
  if isMou S mo = false then (th S 1, 0) else match nxtA S (nn mo) f with
    | none => (th S 2, 0)
    | some k => (th S 0, nI k)
def p_addMachine (S : St) (x : Int32) : St × Int32 :=
  if inB x 1 999 = false then (th S 1, 0) else if S.1 0 3 0 = 3 then (th S 2, 0) else
  (s1 (s1 (s1 (s1 (th S 0) 14 (nn (S.1 0 3 0)) 0 x) 15 (nn (S.1 0 3 0)) 0 (-1)) 16 (nn (S.1 0 3 0)) 0 (-1)) 0 3 0 (S.1 0 3 0 + 1), S.1 0 3 0 + 1 - 1)
def p_mount (S : St) (a mo : Int32) : St × Int32 :=
  if isMac S a = false then (th S 1, 0) else if isMou S mo = false then (th S 1, 0) else if S.1 14 (nn a) 0 < S.1 9 (nn mo) 0 then (th S 2, 0) else if mnt S mo = true then (th S 3, 0) else
  (s1 (s1 (th S 0) 15 (nn a) 0 mo) 16 (nn a) 0 (-1), S.1 15 (nn a) 0)
def p_run (S : St) (a o : Int32) : St × Int32 :=
  if isMac S a = false then (th S 1, 0) else if isOrd S o = false then (th S 1, 0) else if S.1 15 (nn a) 0 = S.1 17 (nn o) 0 then (if S.1 19 (nn o) 0 = 0 then (th S 3, 0) else (s1 (th S 0) 16 (nn a) 0 o, 3600 / S.1 10 (nn (S.1 15 (nn a) 0)) 0)) else (th S 2, 0)
def p_order (S : St) (mo r q w : Int32) : St × Int32 :=
  if isMou S mo = false then (th S 1, 0) else if isRes S r = false then (th S 1, 0) else if inB q 1 5000 = false then (th S 2, 0) else if inB w 0 50 = false then (th S 2, 0) else if S.1 0 4 0 = 8 then (th S 3, 0) else
  (s1 (s1 (s1 (s1 (s1 (th S 0) 17 (nn (S.1 0 4 0)) 0 mo) 18 (nn (S.1 0 4 0)) 0 r) 19 (nn (S.1 0 4 0)) 0 q) 20 (nn (S.1 0 4 0)) 0 w) 0 4 0 (S.1 0 4 0 + 1), S.1 0 4 0 + 1 - 1)
def p_lacks (S : St) (x : Int32) : St × Int32 := if isOrd S x = false then (th S 1, 0) else (th S 0, S.1 19 (nn x) 0)
def hN (S : St) (o : Nat) : Int32 := ((S.1 19 o 0 + sMany S o - 1) / sMany S o + 3600 / S.1 10 (sMo S o) 0 - 1) / (3600 / S.1 10 (sMo S o) 0)
def p_hoursNeeded (S : St) (x : Int32) : St × Int32 :=
  if isOrd S x = false then (th S 1, 0) else if 0 < S.1 19 (nn x) 0 then (if sMany S (nn x) = 0 then (th S 2, 0) else (th S 0, hN S (nn x))) else (th S 0, 0)
def p_shots (S : St) (x : Int32) : St × Int32 := if isOrd S x = false then (th S 1, 0) else (th S 0, S.1 21 (nn x) 0)
def p_regrindIn (S : St) (x : Int32) : St × Int64 := if isOrd S x = false then (th S 1, 0) else (th S 0, S.2 2 (nn x))
def p_greatestShare (S : St) (x : Int32) : St × Int32 := if isOrd S x = false then (th S 1, 0) else if S.1 21 (nn x) 0 = 0 then (th S 2, 0) else (th S 0, S.1 22 (nn x) 0)
def p_pass (S : St) (x : Int32) : St × Int32 := if inB x 1 24 = false then (th S 1, 0) else if 300 < S.1 0 5 0 + x then (th S 2, 0) else hrN (th S 0) 0 (nn x)
def p_hours (S : St) : St × Int32 := (th S 0, S.1 0 5 0)
def p_regrindShare (S : St) : St × UInt32 := if S.1 0 6 0 = 0 then (th S 1, FP.fconst0) else (th S 0, FP.fdiv (FP.l2f (S.2 1 0)) (FP.l2f (S.2 0 0)))
def p_meanParts (S : St) : St × UInt64 := if S.1 0 6 0 = 0 then (th S 1, FP.dconst0) else (th S 0, FP.ddiv (FP.i2d (S.1 0 7 0)) (FP.i2d (S.1 0 6 0)))
end
