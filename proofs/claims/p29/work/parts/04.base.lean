/-! abstract cells: an array by its component's type, an object by its place in jcl; a partial heap; what a heap holds -/
abbrev jcl : List vw_C := [(RX0, TX0, 3), (RX1, TX1, 2), (RX2, TX2, 3), (RX3, TX3, 3), (RX4, TX4, 7), (RX5, TX5, 8), (RX6, TX6, 2), (RX7, TX7, 14)]
abbrev AE : Type := (FieldType × vp_A) ⊕ (Nat × List Value)
abbrev AH : Type := Nat → Option AE
def a_at (D : va_G) (U : State) (a : Nat) (e : AE) (H : Heap) : Prop := match e with
  | .inl q => ∃ cA : ClassId, ArrOfT U cA q.1 ∧ va_RA U cA q.1 ∧ H[a]? = some (vp_cell cA q.2)
  | .inr o => ∃ r : vw_C, jcl[o.1]? = some r ∧ t_OB a (D.1 o.1) r.2.2 (D.2 o.1) H (vp_V o.2)
theorem a_at.lt {D : va_G} {U : State} {a : Nat} {e : AE} {H : Heap} (h : a_at D U a e H) : a < H.size := by
  cases e with
  | inl q =>
    obtain ⟨cA, -, -, h3⟩ := h
    exact (Array.getElem?_eq_some_iff.mp h3).1
  | inr o =>
    obtain ⟨r, h1, cell, h2, -⟩ := h
    exact (Array.getElem?_eq_some_iff.mp h2).1
theorem a_at.kept {D : va_G} {U : State} {a : Nat} {e : AE} {H H1 : Heap} (h : a_at D U a e H) (hq : H1[a]? = H[a]?) : a_at D U a e H1 := by
  cases e with
  | inl q =>
    obtain ⟨cA, h1, h2, h3⟩ := h
    exact ⟨cA, h1, h2, hq.trans h3⟩
  | inr o =>
    obtain ⟨r, h1, h2⟩ := h
    exact ⟨r, h1, h2.kept hq⟩
theorem a_at.moved {D : va_G} {u U : State} (hvm : u.vm.Alike U.vm) {a : Nat} {e : AE} {H : Heap} (h : a_at D u a e H) : a_at D U a e H := by
  cases e with
  | inl q =>
    obtain ⟨cA, h1, h2, h3⟩ := h
    exact ⟨cA, arrOfT_moved hvm h1, h2.moved hvm, h3⟩
  | inr o => exact h
def Hold (D : va_G) (A : Nat → Prop) (h : AH) (U : State) (H : Heap) : Prop := ∀ (a : Nat) (e : AE), h a = some e → A a ∧ a_at D U a e H
def hup (h : AH) (a : Nat) (e : AE) : AH := fun x => if x = a then some e else h x
theorem hup_eq {h : AH} {a : Nat} {e : AE} : hup h a e a = some e := if_pos rfl
theorem hup_ne {h : AH} {a x : Nat} {e : AE} (hx : x ≠ a) : hup h a e x = h x := if_neg hx
theorem hup_of {h : AH} {a x : Nat} {e : AE} {e2 : Option AE} (hx : x ≠ a) (h2 : h x = e2) : hup h a e x = e2 := (hup_ne hx).trans h2
theorem Hold.moved {D : va_G} {A : Nat → Prop} {h : AH} {u U : State} {H : Heap} (hvm : u.vm.Alike U.vm) (hH : Hold D A h u H) : Hold D A h U H := fun a e he => ⟨(hH a e he).1, (hH a e he).2.moved hvm⟩
theorem Hold.weaken {D : va_G} {A B : Nat → Prop} {h : AH} {U : State} {H : Heap} (hH : Hold D A h U H) (hAB : ∀ q, A q → B q) : Hold D B h U H := fun a e he => ⟨hAB _ (hH a e he).1, (hH a e he).2⟩
theorem Hold.put {D : va_G} {A : Nat → Prop} {h : AH} {U : State} {H H1 : Heap} {a : Nat} {e0 e : AE} (hH : Hold D A h U H) (h0 : h a = some e0) (he : a_at D U a e H1) (oq : ∀ q : Nat, q ≠ a → H1[q]? = H[q]?) : Hold D A (hup h a e) U H1 := by
  intro x f hf
  by_cases hx : x = a
  · subst hx
    rw [hup_eq] at hf
    cases hf
    exact ⟨(hH x e0 h0).1, he⟩
  · rw [hup_ne hx] at hf
    exact ⟨(hH x f hf).1, (hH x f hf).2.kept (oq x hx)⟩
theorem Hold.push {D : va_G} {A : Nat → Prop} {h : AH} {U : State} {H H1 : Heap} {a : Nat} {e : AE} (hH : Hold D A h U H) (ha : H.size = a) (hA : A a) (he : a_at D U a e H1) (oq : ∀ q : Nat, q < H.size → H1[q]? = H[q]?) : Hold D A (hup h a e) U H1 := by
  intro x f hf
  by_cases hx : x = a
  · subst hx
    rw [hup_eq] at hf
    cases hf
    exact ⟨hA, he⟩
  · rw [hup_ne hx] at hf
    exact ⟨(hH x f hf).1, (hH x f hf).2.kept (oq x ((hH x f hf).2.lt))⟩
theorem Hold.free {D : va_G} {A : Nat → Prop} {h : AH} {U : State} {H : Heap} (hH : Hold D A h U H) {a : Nat} (ha : H.size ≤ a) : h a = none := by
  cases hx : h a with
  | none => rfl
  | some f => exact absurd ((hH a f hx).2.lt) (by omega)
/-! the tables' words at any later state -/
def tbOK (w : Cond) : Bool := goodWord w || (match w with | .castable _ _ => true | .declares _ => true | .arrayOver (.object _) => true | .arrayOver (.array _) => true | _ => false)
def Tb (U : State) : Prop := ∀ w, w ∈ lw_tbl → tbOK w = true → ∀ av : Array Value, w.before av U = true
theorem Tb.warm {s U : State} (hW : s.WarmedH U.vm) (h : Tb s) : Tb U := by
  intro w hw hok av
  by_cases g : goodWord w = true
  · exact word_at hW (good_of_word g) (h w hw hok #[])
  · have hok2 := hok
    unfold tbOK at hok2
    rw [show goodWord w = false by simpa using g, Bool.false_or] at hok2
    split at hok2
    · exact va_Nw.use rfl (va_Nw.warmC hW (h _ hw hok #[]))
    · exact va_Nw.use rfl (va_Nw.warmD hW (h _ hw hok #[]))
    · exact va_AO.use (va_AO.moved hW.alike (va_AO.of (h _ hw hok #[])))
    · exact Jvm.Stand.arrayOver_alikeB hW.alike (h _ hw hok #[])
    · cases hok2
theorem Tb.get {U : State} (h : Tb U) (i : Nat) {w : Cond} {av : Array Value} (hi : lw_tbl[i]? = some w) (hok : tbOK w = true) : w.before av U = true := h w (List.mem_of_getElem? hi) hok av
def Ts (U : State) : Prop := ∀ (own : String) (k : Nat) (tx : String), Cond.stringRef own k tx ∈ lw_tbl → ∃ a : Nat, vk_R own k tx a U
theorem Ts.warm {s U : State} (hW : s.WarmedH U.vm) (h : Ts s) : Ts U := fun own k tx hm => by
  obtain ⟨a, ha⟩ := h own k tx hm
  exact ⟨a, ha.warm hW⟩
/-- the exceptions' classes that aren't castable to one another -/
def ncs : List (String × String) := [("java/lang/IllegalArgumentException", "java/lang/IndexOutOfBoundsException"), ("java/lang/IllegalStateException", "java/lang/IndexOutOfBoundsException"), ("java/lang/IllegalStateException", "java/lang/IllegalArgumentException"), ("java/util/NoSuchElementException", "java/lang/IndexOutOfBoundsException"), ("java/lang/UnsupportedOperationException", "java/lang/IndexOutOfBoundsException"), ("java/lang/IllegalStateException", "java/lang/UnsupportedOperationException"), ("java/util/NoSuchElementException", "java/lang/IllegalStateException")]
def Tn (U : State) : Prop := ∀ q ∈ ncs, va_Nc q.1 q.2 U
theorem Tn.moved {s U : State} (hvm : s.vm.Alike U.vm) (h : Tn s) : Tn U := fun q hq => (h q hq).moved hvm
abbrev jZU (A : Nat → Prop) (U : State) (H : Heap) : Prop := vx_Zq Bundle.tN "UNASSIGNED_STACK" Bundle.steD A U H
abbrev jZN (A : Nat → Prop) (U : State) (H : Heap) : Prop := vx_Zq Bundle.tN "SUPPRESSED_SENTINEL" Bundle.listD A U H
/-- what every method's start says of its machine -/
def Wd (D : va_G) (A : Nat → Prop) (U : State) : Prop := va_K D jcl [] U ∧ Tb U ∧ Ts U ∧ Tn U ∧ jZU A U U.heap ∧ jZN A U U.heap
/-- the same, of a later state: the words warmed, the statics kept -/
theorem Wd.later {D : va_G} {A B : Nat → Prop} {s U : State} (hW : s.WarmedH U.vm) (h : Wd D A s) (hk : ∀ a : Nat, a < s.heap.size → ¬ A a → U.heap[a]? = s.heap[a]?) (hBA : ∀ q, B q → A q) : Wd D B U := by
  obtain ⟨h1, h2, h3, h4, h5, h6⟩ := h
  exact ⟨h1.moved hW.alike, h2.warm hW, h3.warm hW, h4.moved hW.alike, ((h5.moved hW.alike).kept hk).narrow hBA, ((h6.moved hW.alike).kept hk).narrow hBA⟩
/-- the same at the start of a called method -/
theorem Wd.calling {D : va_G} {A : Nat → Prop} {U : State} (h : Wd D A U) (g : JFrame) (mk : MethodId) (a : Array Value) : Wd D A (U.calling g mk a) := by
  refine Wd.later (State.WarmedH.refl U) h (fun _ _ _ => rfl) (fun _ h => h)
/-! the static context of a method's body -/
def Cx (p : Program) (l : Launch) (s : State) (m : MethodId) (args : Array Value) (meth : Method) (c : Code) (cc : ByteArray) (nL : Nat) (own : String) (D : va_G) (A : Nat → Prop) : Prop :=
  p.tables.exec = Jvm.exec ∧ c.code = cc ∧ c.maxLocals = nL ∧ s.vm.findClass own = some m.cls ∧ meth.locks = false ∧ l.stackTraces = false ∧ Wd D A s ∧ (∀ q, s.heap.size ≤ q → A q)
section CX
variable {p : Program} {l : Launch} {s : State} {m : MethodId} {args : Array Value} {meth : Method} {c : Code} {cc : ByteArray} {nL : Nat} {own : String} {D : va_G} {A : Nat → Prop}
theorem Cx.x (E : Cx p l s m args meth c cc nL own D A) : p.tables.exec = Jvm.exec := E.1
theorem Cx.b (E : Cx p l s m args meth c cc nL own D A) : c.code = cc := E.2.1
theorem Cx.ml (E : Cx p l s m args meth c cc nL own D A) : c.maxLocals = nL := E.2.2.1
theorem Cx.ow (E : Cx p l s m args meth c cc nL own D A) : s.vm.findClass own = some m.cls := E.2.2.2.1
theorem Cx.locks (E : Cx p l s m args meth c cc nL own D A) : meth.locks = false := E.2.2.2.2.1
theorem Cx.tr (E : Cx p l s m args meth c cc nL own D A) : l.stackTraces = false := E.2.2.2.2.2.1
theorem Cx.wd (E : Cx p l s m args meth c cc nL own D A) : Wd D A s := E.2.2.2.2.2.2.1
theorem Cx.hA (E : Cx p l s m args meth c cc nL own D A) : ∀ q, s.heap.size ≤ q → A q := E.2.2.2.2.2.2.2
theorem Cx.K (E : Cx p l s m args meth c cc nL own D A) : va_K D jcl [] s := E.wd.1
theorem Cx.tb (E : Cx p l s m args meth c cc nL own D A) : Tb s := E.wd.2.1
theorem Cx.ts (E : Cx p l s m args meth c cc nL own D A) : Ts s := E.wd.2.2.1
theorem Cx.tn (E : Cx p l s m args meth c cc nL own D A) : Tn s := E.wd.2.2.2.1
end CX
/-! locals as a list by their numbers -/
def lget : List (Nat × Value) → Nat → Option Value
  | [], _ => none
  | q :: t, i => if q.1 = i then some q.2 else lget t i
theorem lget_mem : ∀ (lo : List (Nat × Value)) {i : Nat} {v : Value}, lget lo i = some v → (i, v) ∈ lo
  | [], i, v, h => by cases h
  | q :: t, i, v, h => by
    unfold lget at h
    by_cases hq : q.1 = i
    · rw [if_pos hq] at h
      cases h
      subst hq
      exact List.mem_cons_self
    · rw [if_neg hq] at h
      exact List.mem_cons_of_mem _ (lget_mem t h)
theorem lv_get {ls : Array Slot} {nL : Nat} {lo : List (Nat × Value)} (h : lv_has ls nL lo) {i : Nat} {v : Value} (hk : lget lo i = some v) : ls[i]? = some (.val v) := h.2.2 (i, v) (lget_mem lo hk)
def lsub (lo : List (Nat × Value)) : List (Nat × Value) → Prop
  | [] => True
  | q :: t => lget lo q.1 = some q.2 ∧ lsub lo t
theorem lsub_mem {lo : List (Nat × Value)} : ∀ {lo' : List (Nat × Value)}, lsub lo lo' → ∀ q ∈ lo', lget lo q.1 = some q.2
  | [], _, q, hq => by cases hq
  | r :: t, h, q, hq => by
    rcases List.mem_cons.mp hq with rfl | hq
    · exact h.1
    · exact lsub_mem h.2 q hq
theorem lo_sub {ls : Array Slot} {nL : Nat} {lo lo' : List (Nat × Value)} (h : lv_has ls nL lo) (hs : lsub lo lo') : lv_has ls nL lo' := ⟨h.1, h.2.1, fun q hq => lv_get h (lsub_mem hs q hq)⟩
abbrev lput1 (lo : List (Nat × Value)) (i : Nat) (v : Value) : List (Nat × Value) := (i, v) :: lo.filter (fun q => !(q.1 == i) && !(q.1 + 1 == i && q.2.category == 2))
abbrev lput2 (lo : List (Nat × Value)) (i : Nat) (v : Value) : List (Nat × Value) := (i, v) :: lo.filter (fun q => !(q.1 == i) && (!(q.1 == i + 1) && !(q.1 + 1 == i && q.2.category == 2)))
