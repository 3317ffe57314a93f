/-! contracts over the abstract heap: what a method answers and leaves, or which exceptions it throws, the heap as it was -/
def Afr (h : AH) (sz : Nat) : Nat → Prop := fun q => (∃ e : AE, h q = some e) ∨ sz ≤ q
def Pcs (D : va_G) (av : List Value) (h : AH) (sz : Nat) : Array Value → State → Prop := va_Pc av (fun U => U.heap.size = sz ∧ Hold D (Afr h sz) h U U.heap ∧ Wd D (Afr h sz) U)
def Qcs (D : va_G) (h : AH) (sz : Nat) (Post : Option Value → AH → Prop) : Array Value → State → Outcome → State → Prop := fun _ st o t => (∃ (v : Option Value) (h' : AH), o = .returned v ∧ Post v h' ∧ Hold D (Afr h sz) h' t t.heap) ∧ va_F (Afr h sz) st t
def Xcs (D : va_G) (h : AH) (sz : Nat) (PX : String → Prop) : String → State → State → Prop := fun E st t => (PX E ∧ Hold D (Afr h sz) h t t.heap) ∧ va_F (Afr h sz) st t
def Ctr (l : Launch) (D : va_G) (y : MethodName) (cc : ByteArray) (maxL : Nat) (ret : Option FieldType) (f L mc ms : Nat) (av : List Value) (h : AH) (PX : String → Prop) (Post : Option Value → AH → Prop) : Prop :=
  l.stackTraces = false → ∀ sz : Nat, vx_Met l y [Cond.code y cc maxL ret] { frames := f, cells := mc, slots := ms, locals := L } (Pcs D av h sz) (Qcs D h sz Post) (Xcs D h sz PX) mc ms (Afr h sz)
theorem Pcs.blind {D : va_G} {av : List Value} {h : AH} {sz : Nat} : FrameBlind (Pcs D av h sz) := fun a U g mk hp => by
  obtain ⟨q0, q1, q2, q3⟩ := hp
  exact ⟨q0, q1, Hold.moved (u := U) (U := U.calling g mk a) (Vm.Alike.refl U.vm) q2, q3.calling g mk a⟩
theorem Ctr.of {l : Launch} {D : va_G} {y : MethodName} {cc : ByteArray} {maxL : Nat} {ret : Option FieldType} {f L mc ms : Nat} {av : List Value} {h : AH} {PX : String → Prop} {Post : Option Value → AH → Prop} (own : String) (hown : y.cls = own) (hy : plainName y.cls = true) (hav : (lg_sl av).length ≤ maxL)
    (body : ∀ (sz : Nat) (p : Program) (e : Env) (s : State) (m : MethodId) (below : List Frame) (meth : Method) (c : Code), Cx p l s m av.toArray meth c cc maxL own D (Afr h sz) → meth.name = y.name → meth.sig.returnType = ret → (∀ x ∈ c.exceptionTable.toList, False) →
      J p l e { frames := f, cells := mc, slots := ms, locals := L } s m av.toArray below meth c D (Afr h sz) maxL (vx_MQ below (Qcs D h sz Post) (Xcs D h sz PX) av.toArray s mc ms (Afr h sz)) 0 0 h 0 (lv_args 0 av) []) : Ctr l D y cc maxL ret f L mc ms av h PX Post := by
  intro htr sz
  refine vx_ofW hy rfl ?_
  intro p e s m args below meth c s₁ B hml ht hv
  obtain ⟨rfl, hsz, hH, hW⟩ := hv
  have hl := lv_entry av hav
  rw [lg_entry_eq]
  exact body sz p e s m below meth c ⟨B.exec, B.bytes, hml, by rw [← hown]; exact findClass_of_methodNamed B.named, B.notSynchronized, htr, hW, fun q hq => Or.inr (hsz ▸ hq)⟩ (name_of_methodNamed B.named B.method).1 B.returns ht s.heap [] _ hH va_S.rf hl
/-- a method with a table of its own -/
def CtrW (l : Launch) (D : va_G) (y : MethodName) (cc : ByteArray) (maxL : Nat) (ret : Option FieldType) (hh : List (Nat × Nat × Nat × Nat)) (f L mc ms : Nat) (av : List Value) (h : AH) (PX : String → Prop) (Post : Option Value → AH → Prop) : Prop :=
  l.stackTraces = false → ∀ sz : Nat, vx_Met l y [Cond.codeWith y cc maxL ret hh] { frames := f, cells := mc, slots := ms, locals := L } (Pcs D av h sz) (Qcs D h sz Post) (Xcs D h sz PX) mc ms (Afr h sz)
theorem CtrW.of {l : Launch} {D : va_G} {y : MethodName} {cc : ByteArray} {maxL : Nat} {ret : Option FieldType} {hh : List (Nat × Nat × Nat × Nat)} {f L mc ms : Nat} {av : List Value} {h : AH} {PX : String → Prop} {Post : Option Value → AH → Prop} (own : String) (hown : y.cls = own) (hy : plainName y.cls = true) (hav : (lg_sl av).length ≤ maxL)
    (body : ∀ (sz : Nat) (p : Program) (e : Env) (s : State) (m : MethodId) (below : List Frame) (meth : Method) (c : Code), Cx p l s m av.toArray meth c cc maxL own D (Afr h sz) → meth.name = y.name → meth.sig.returnType = ret → c.exceptionTable.toList = tableOf hh →
      J p l e { frames := f, cells := mc, slots := ms, locals := L } s m av.toArray below meth c D (Afr h sz) maxL (vx_MQ below (Qcs D h sz Post) (Xcs D h sz PX) av.toArray s mc ms (Afr h sz)) 0 0 h 0 (lv_args 0 av) []) : CtrW l D y cc maxL ret hh f L mc ms av h PX Post := by
  intro htr sz
  refine vx_ofWH hy rfl ?_
  intro p e s m args below meth c s₁ B hml hv
  obtain ⟨rfl, hsz, hH, hW⟩ := hv
  have hl := lv_entry av hav
  rw [lg_entry_eq]
  exact body sz p e s m below meth c ⟨B.exec, B.bytes, hml, by rw [← hown]; exact findClass_of_methodNamed B.named, B.notSynchronized, htr, hW, fun q hq => Or.inr (hsz ▸ hq)⟩ (name_of_methodNamed B.named B.method).1 B.returns (vx_table (x := y) B (atoms_spec (ws := [Cond.codeWith y cc maxL ret hh]) B.pre _ List.mem_cons_self)) s.heap [] _ hH va_S.rf hl
/-- a method that never throws, as an ordinary contract -/
theorem Ctr.met {l : Launch} {D : va_G} {y : MethodName} {cc : ByteArray} {maxL : Nat} {ret : Option FieldType} {f L mc ms : Nat} {av : List Value} {h : AH} {Post : Option Value → AH → Prop} (hC : Ctr l D y cc maxL ret f L mc ms av h (fun _ => False) Post) (htr : l.stackTraces = false) (sz : Nat) :
    Met l y [Cond.code y cc maxL ret] { frames := f, cells := mc, slots := ms, locals := L } (Pcs D av h sz) (Qcs D h sz Post) mc ms (Afr h sz) := by
  intro p e ha hc hk s m args below hf happ hP hK
  obtain ⟨n, o, h1, h2, h3, h4⟩ := hC htr sz p e ha hc hk s m args below hf happ hP hK
  rcases h4 with ⟨hq, hL⟩ | ⟨q, -, Ex, ce, L9, ⟨⟨hx, -⟩, -⟩, -⟩
  · exact ⟨n, o, h1, h2, h3, hq, hL⟩
  · exact hx.elim
section JC
variable {p : Program} {l : Launch} {e : Env} {R : Room} {s : State} {m : MethodId} {args : Array Value} {below : List Frame} {meth : Method} {c : Code} {cc : ByteArray} {nL : Nat} {own : String} {D : va_G} {A : Nat → Prop} {Q : State → Prop} {cells slots : Nat} {h : AH} {pc : Nat} {lo : List (Nat × Value)} {st : List Value}
theorem Cx.afr (E : Cx p l s m args meth c cc nL own D A) {H : Heap} {locs : List Loc} (hH : Hold D A h s H) (hS : va_S A s.heap H locs) : ∀ q, Afr h H.size q → A q := by
  intro q hq
  rcases hq with ⟨e9, he⟩ | hq
  · exact (hH q e9 he).1
  · exact E.hA q (Nat.le_trans hS.1 hq)
theorem Cx.pcs (E : Cx p l s m args meth c cc nL own D A) {H : Heap} {locs : List Loc} {hc : AH} (hH : Hold D A h s H) (hS : va_S A s.heap H locs) (hsub : ∀ a e9, hc a = some e9 → h a = some e9) (av : List Value) : ∀ U : State, U.heap = H → s.WarmedH U.vm → Pcs D av hc H.size av.toArray U := by
  intro U hU hW
  have hA := E.afr (h := hc) (fun a e9 he => hH a e9 (hsub a e9 he)) hS
  refine ⟨rfl, by rw [hU], fun a e9 he => ⟨Or.inl ⟨e9, he⟩, ?_⟩, E.wd.later hW (fun a h1 h2 => by rw [hU]; exact hS.2.1 a h1 h2) hA⟩
  rw [hU]
  exact ((hH a e9 (hsub a e9 he)).2).moved hW.alike
/-- behind a call: the walk goes on over the heap that came back, or the exception is over the frame -/
theorem j_go (E : Cx p l s m args meth c cc nL own D A) {Post : Option Value → AH → Prop} {PX : String → Prop} {mc ms : Nat} {a : Array Value} {rest st0 : List Value} {hc hr : AH} (hsub : ∀ x e9, hc x = some e9 → h x = some e9) (hrest : ∀ x e9, hr x = some e9 → h x = some e9 ∧ hc x = none)
    (run : ∀ (H : Heap) (locs : List Loc) (ls : Array Slot), Hold D A h s H → va_S A s.heap H locs → lv_has ls nL lo → vx_Run p l e R s m args below meth c H locs cells slots mc ms (F0 m pc ls st0) rest (Qcs D hc H.size Post a) (Xcs D hc H.size PX) (Afr hc H.size))
    (kx : ∀ (Ex : String) (ce : Cell) (q9 : Nat) (H1 : Heap) (locs1 : List Loc) (ls : Array Slot) (h1 : AH), PX Ex → (∀ x e9, h1 x = some e9 → hc x = some e9 ∨ hr x = some e9) → (∀ x e9, hc x = some e9 → h1 x = some e9) → (∀ x e9, hr x = some e9 → h1 x = some e9) → Hold D A h1 s H1 → va_S A s.heap H1 locs1 → lv_has ls nL lo → H1[q9]? = some ce → ce.vm = .none → s.vm.findClass Ex = some ce.cls → vx_W p l e R s m args below meth c H1 locs1 (cells + mc) (slots + ms) Q (F0 m pc ls rest) q9)
    (k : ∀ (v : Option Value) (hc' h' : AH), Post v hc' → (∀ x e9, h' x = some e9 → hc' x = some e9 ∨ hr x = some e9) → (∀ x e9, hc' x = some e9 → h' x = some e9) → (∀ x e9, hr x = some e9 → h' x = some e9) → (∀ x e9, hr x = some e9 → hc' x = none) → J p l e R s m args below meth c D A nL Q (cells + mc) (slots + ms) h' (pc + 3) lo (v.toList ++ rest)) : J p l e R s m args below meth c D A nL Q cells slots h pc lo st0 := by
  intro H locs ls hH hS hl T hT X
  have hHc : Hold D A hc s H := fun x e9 he => hH x e9 (hsub x e9 he)
  have hA := E.afr (h := hc) hHc hS
  have core : ∀ (T' t : State) (L : List Loc) (hc' : AH), T'.heap = t.heap → T'.vm = t.vm → Stand p l e R s m args below meth c T' (locs ++ L) (cells + mc) (slots + ms) → (∀ z ∈ L, Afr hc H.size z.base) → Hold D (Afr hc H.size) hc' t t.heap → (∃ st₀ : State, st₀.heap = H ∧ va_F (Afr hc H.size) st₀ t) →
      ∃ h' : AH, (∀ x e9, h' x = some e9 → hc' x = some e9 ∨ hr x = some e9) ∧ (∀ x e9, hc' x = some e9 → h' x = some e9) ∧ (∀ x e9, hr x = some e9 → h' x = some e9) ∧ (∀ x e9, hr x = some e9 → hc' x = none) ∧ Hold D A h' s T'.heap ∧ va_S A s.heap T'.heap (locs ++ L) := by
    intro T' t L hc' e1 e2 X' hL hh hF
    obtain ⟨st₀, h0, hF⟩ := hF
    obtain ⟨k1, k2, k3⟩ := vx_keep h0 e1 hS (fun q _ hq => hA q hq) (fun q hq => hA q hq) hL hF
    have hal : s.vm.Alike t.vm := by rw [← e2]; exact X'.warmed.alike
    have hdis : ∀ x e9, hr x = some e9 → hc' x = none := by
      intro x e9 he
      cases hx : hc' x with
      | none => rfl
      | some f9 =>
        obtain ⟨g1, g2⟩ := hrest x e9 he
        rcases (hh x f9 hx).1 with ⟨e8, h8⟩ | h8
        · rw [g2] at h8; cases h8
        · exact absurd ((hH x e9 g1).2.lt) (by omega)
    refine ⟨fun x => match hc' x with | some e9 => some e9 | none => hr x, ?_, ?_, ?_, hdis, ?_, k3⟩
    · intro x e9 he
      cases hx : hc' x with
      | none => simp only [hx] at he; exact Or.inr he
      | some f9 => simp only [hx] at he; exact Or.inl he
    · intro x e9 he
      simp only [he]
    · intro x e9 he
      simp only [hdis x e9 he]; exact he
    · intro x e9 he
      cases hx : hc' x with
      | none =>
        simp only [hx] at he
        obtain ⟨g1, g2⟩ := hrest x e9 he
        have hlt := (hH x e9 g1).2.lt
        refine ⟨(hH x e9 g1).1, (hH x e9 g1).2.kept (k2 x hlt ?_)⟩
        rintro (⟨e8, h8⟩ | h8)
        · rw [g2] at h8; cases h8
        · omega
      | some f9 =>
        simp only [hx] at he
        have he2 : f9 = e9 := Option.some.inj he
        subst he2
        refine ⟨hA x (hh x f9 hx).1, ?_⟩
        rw [e1]
        exact ((hh x f9 hx).2).moved hal.symm
  rcases run H locs ls hH hS hl T hT X with ⟨v, st₀, t, T', L, h0, X', hL, e1, e2, ⟨⟨v', hc', hv, hp, hh⟩, hF⟩, st⟩ | ⟨q, st₀, t, T', L, Ex, ce, h0, X', hL, e1, e2, ⟨⟨hp, hh⟩, hF⟩, hce, hcv, hcl, st⟩
  · cases hv
    obtain ⟨h', g1, g2, g3, g4, g5, g6⟩ := core T' t L hc' e1 e2 X' hL hh ⟨st₀, h0, hF⟩
    obtain ⟨t2, a1, b1⟩ := k v hc' h' hp g1 g2 g3 g4 T'.heap (locs ++ L) ls g5 g6 hl T' rfl X'
    exact ⟨t2, st t2 a1, b1⟩
  · obtain ⟨h', g1, g2, g3, g4, g5, g6⟩ := core T' t L hc e1 e2 X' hL hh ⟨st₀, h0, hF⟩
    obtain ⟨t2, a1, b1⟩ := kx Ex ce q T'.heap (locs ++ L) ls h' hp g1 g2 g3 g5 g6 hl (by rw [e1]; exact hce) hcv hcl T' rfl X'
    exact ⟨t2, st.trans a1, b1⟩

/-- what a call needs of the tables and of the room -/
abbrev CW (R : Room) (s : State) (args : Array Value) (own : String) (index : Nat) (y : MethodName) (bytes : ByteArray) (maxL : Nat) (ret : Option FieldType) (f L mc ms n cells slots : Nat) (rest : List Value) : Prop :=
  (Cond.methodLink own index y).before args s = true ∧ (Cond.code y bytes maxL ret).before args s = true ∧ (Cond.initialized y.cls).before args s = true ∧ (y.cls ≠ "java/lang/invoke/MethodHandle" ∧ y.cls ≠ "java/lang/invoke/VarHandle" ∧ (parseMethodDescriptor y.desc).map (fun d => d.parameters.length) = some n) ∧ f + 1 ≤ R.frames ∧ 8 + (maxL + 11) + L ≤ R.locals ∧ cells + mc ≤ R.cells ∧ slots + ms ≤ R.slots ∧ (rest.map fun v => v.category).sum ≤ 8
theorem CW.B {index n f L mc ms : Nat} {y : MethodName} {bytes : ByteArray} {maxL : Nat} {ret : Option FieldType} {rest : List Value} (w9 : CW R s args own index y bytes maxL ret f L mc ms n cells slots rest) :
    CallB R s args own index y bytes maxL ret [Cond.code y bytes maxL ret] { frames := f, cells := mc, slots := ms, locals := L } mc ms n := by
  obtain ⟨hl, hcode, hini, hd, h1, h2, -⟩ := w9
  refine ⟨rfl, rfl, h1, h2, fun w hw a' U hW => ?_, List.mem_cons_self, hcode, hini, ⟨hd.1, hd.2.1⟩, fun sig h => ?_, hl⟩
  · rw [List.mem_singleton.mp hw]
    exact word_at hW (Or.inl (by first | rfl | simp [Cond.onTables, Cond.keeps, Cond.steady])) hcode
  · have h3 := hd.2.2
    rw [h] at h3
    exact (Option.some.inj h3).symm
theorem Cx.fix (E : Cx p l s m args meth c cc nL own D A) : CallFix p m c cc nL s args [] own := ⟨E.x, E.b, E.ml, E.ow, fun _ hw => absurd hw List.not_mem_nil⟩
theorem Cx.recv (E : Cx p l s m args meth c cc nL own D A) {H : Heap} (hH : Hold D A h s H) {b ci : Nat} {fs : List Value} {C : String} {T : u_T} {N : Nat} (hb : h b = some (.inr (ci, fs))) (hcl : jcl[ci]? = some (C, T, N)) : ∃ cell : Cell, H[b]? = some cell ∧ cell.vm.isStatics = false ∧ s.vm.findClass C = some cell.cls := by
  obtain ⟨-, r, hr, cell, g1, g2, g3, -⟩ := hH b _ hb
  exact ⟨cell, g1, by rw [g3]; rfl, by rw [g2]; exact (E.K.1 ci _ hcl).2.1⟩
theorem run_V (E : Cx p l s m args meth c cc nL own D A) {index n f L mc ms : Nat} {y : MethodName} {bytes : ByteArray} {maxL : Nat} {ret : Option FieldType} {b ci : Nat} {fs : List Value} {T9 : u_T} {N : Nat} {As rest : List Value} {Post : Option Value → AH → Prop} {PX : String → Prop} {hc : AH} (hC : Ctr l D y bytes maxL ret f L mc ms (.ref b :: As) hc PX Post) (hsub : ∀ x e9, hc x = some e9 → h x = some e9)
    (w9 : CW R s args own index y bytes maxL ret f L mc ms n cells slots rest) (hin : (Cond.instanceMethod y).before args s = true) (hse : (Cond.selects y.cls y y).before args s = true) (hb : h b = some (.inr (ci, fs))) (hcl : jcl[ci]? = some (y.cls, T9, N)) (hn : As.length = n) (d : decode cc pc = .ok (.invokevirtual index, 3)) :
    ∀ (H : Heap) (locs : List Loc) (ls : Array Slot), Hold D A h s H → va_S A s.heap H locs → lv_has ls nL lo → vx_Run p l e R s m args below meth c H locs cells slots mc ms (F0 m pc ls (As.reverse ++ .ref b :: rest)) rest (Qcs D hc H.size Post (Value.ref b :: As).toArray) (Xcs D hc H.size PX) (Afr hc H.size) := by
  intro H locs ls hH hS hl
  exact vx_runV E.fix (hC E.tr H.size) ⟨w9.B, hin, hse⟩ ⟨Pcs.blind, E.recv hH hb hcl, E.pcs hH hS hsub (.ref b :: As)⟩ rfl hn hl.1 rfl (lv_room w9.2.2.2.2.2.2.2.2) d ⟨w9.2.2.2.2.2.2.1, w9.2.2.2.2.2.2.2.1⟩
theorem run_S (E : Cx p l s m args meth c cc nL own D A) {index n f L mc ms : Nat} {y : MethodName} {bytes : ByteArray} {maxL : Nat} {ret : Option FieldType} {As rest : List Value} {Post : Option Value → AH → Prop} {PX : String → Prop} {hc : AH} (hC : Ctr l D y bytes maxL ret f L mc ms As hc PX Post) (hsub : ∀ x e9, hc x = some e9 → h x = some e9)
    (w9 : CW R s args own index y bytes maxL ret f L mc ms n cells slots rest) (hst : (Cond.static y).before args s = true) (hn : As.length = n) (d : decode cc pc = .ok (.invokestatic index, 3)) :
    ∀ (H : Heap) (locs : List Loc) (ls : Array Slot), Hold D A h s H → va_S A s.heap H locs → lv_has ls nL lo → vx_Run p l e R s m args below meth c H locs cells slots mc ms (F0 m pc ls (As.reverse ++ rest)) rest (Qcs D hc H.size Post As.toArray) (Xcs D hc H.size PX) (Afr hc H.size) := by
  intro H locs ls hH hS hl
  exact vx_runS E.fix (hC E.tr H.size) ⟨w9.B, hst⟩ ⟨Pcs.blind, E.pcs hH hS hsub As⟩ rfl hn hl.1 rfl (lv_room w9.2.2.2.2.2.2.2.2) d ⟨w9.2.2.2.2.2.2.1, w9.2.2.2.2.2.2.2.1⟩
theorem run_I (E : Cx p l s m args meth c cc nL own D A) {index n f L mc ms : Nat} {y : MethodName} {bytes : ByteArray} {maxL : Nat} {b : Nat} {As rest : List Value} {Post : Option Value → AH → Prop} {hc : AH} (hC : Ctr l D y bytes maxL none f L mc ms (.ref b :: As) hc (fun _ => False) Post) (hsub : ∀ x e9, hc x = some e9 → h x = some e9)
    (w9 : CW R s args own index y bytes maxL none f L mc ms n cells slots rest) (hin : (Cond.instanceMethod y).before args s = true) (hy1 : y.name = "<init>") (hn : As.length = n) (d : decode cc pc = .ok (.invokespecial index, 3)) :
    ∀ (H : Heap) (locs : List Loc) (ls : Array Slot), Hold D A h s H → va_S A s.heap H locs → lv_has ls nL lo → vx_Run p l e R s m args below meth c H locs cells slots mc ms (F0 m pc ls (As.reverse ++ .ref b :: rest)) rest (Qcs D hc H.size Post (Value.ref b :: As).toArray) (Xcs D hc H.size (fun _ => False)) (Afr hc H.size) := by
  intro H locs ls hH hS hl T hT X
  exact Or.inl (va_runI E.fix (hC.met E.tr H.size) ⟨w9.B, hy1, hin⟩ ⟨Pcs.blind, E.pcs hH hS hsub (.ref b :: As)⟩ rfl hn hl.1 rfl (lv_room w9.2.2.2.2.2.2.2.2) d ⟨w9.2.2.2.2.2.2.1, w9.2.2.2.2.2.2.2.1⟩ T hT X)

theorem j_callV (E : Cx p l s m args meth c cc nL own D A) {b ci : Nat} {fs : List Value} {T9 : u_T} {N : Nat} {ret : Option FieldType} {index n f L mc ms : Nat} {y : MethodName} {bytes : ByteArray} {maxL : Nat} {As rest : List Value} {Post : Option Value → AH → Prop} (hC : Ctr l D y bytes maxL ret f L mc ms (.ref b :: As) h (fun _ => False) Post)
    (w9 : CW R s args own index y bytes maxL ret f L mc ms n cells slots rest) (hin : (Cond.instanceMethod y).before args s = true) (hse : (Cond.selects y.cls y y).before args s = true) (hb : h b = some (.inr (ci, fs))) (hcl : jcl[ci]? = some (y.cls, T9, N)) (hn : As.length = n) (d : decode cc pc = .ok (.invokevirtual index, 3)) (hst : st = As.reverse ++ .ref b :: rest)
    (k : ∀ (v : Option Value) (h' : AH), Post v h' → J p l e R s m args below meth c D A nL Q (cells + mc) (slots + ms) h' (pc + 3) lo (v.toList ++ rest)) : J p l e R s m args below meth c D A nL Q cells slots h pc lo st := by
  subst hst
  refine j_go (hc := h) (hr := fun _ => none) E (fun _ _ q => q) (fun _ _ q => nomatch q) (run_V E hC (fun _ _ q => q) w9 hin hse hb hcl hn d) (fun Ex ce q9 H1 locs1 ls h1 hx => hx.elim) (fun v hc' h' hp g1 g2 _ _ => ?_)
  refine J.heap (h' := hc') g2 ?_
  exact k v hc' hp
theorem j_callS (E : Cx p l s m args meth c cc nL own D A) {ret : Option FieldType} {index n f L mc ms : Nat} {y : MethodName} {bytes : ByteArray} {maxL : Nat} {As rest : List Value} {Post : Option Value → AH → Prop} (hC : Ctr l D y bytes maxL ret f L mc ms As h (fun _ => False) Post)
    (w9 : CW R s args own index y bytes maxL ret f L mc ms n cells slots rest) (hs9 : (Cond.static y).before args s = true) (hn : As.length = n) (d : decode cc pc = .ok (.invokestatic index, 3)) (hst : st = As.reverse ++ rest)
    (k : ∀ (v : Option Value) (h' : AH), Post v h' → J p l e R s m args below meth c D A nL Q (cells + mc) (slots + ms) h' (pc + 3) lo (v.toList ++ rest)) : J p l e R s m args below meth c D A nL Q cells slots h pc lo st := by
  subst hst
  refine j_go (hc := h) (hr := fun _ => none) E (fun _ _ q => q) (fun _ _ q => nomatch q) (run_S E hC (fun _ _ q => q) w9 hs9 hn d) (fun Ex ce q9 H1 locs1 ls h1 hx => hx.elim) (fun v hc' h' hp g1 g2 _ _ => ?_)
  refine J.heap (h' := hc') g2 ?_
  exact k v hc' hp
theorem j_callI (E : Cx p l s m args meth c cc nL own D A) {b : Nat} {index n f L mc ms : Nat} {y : MethodName} {bytes : ByteArray} {maxL : Nat} {As rest : List Value} {Post : Option Value → AH → Prop} (hC : Ctr l D y bytes maxL none f L mc ms (.ref b :: As) h (fun _ => False) Post)
    (w9 : CW R s args own index y bytes maxL none f L mc ms n cells slots rest) (hin : (Cond.instanceMethod y).before args s = true) (hy1 : y.name = "<init>") (hn : As.length = n) (d : decode cc pc = .ok (.invokespecial index, 3)) (hst : st = As.reverse ++ .ref b :: rest)
    (k : ∀ (v : Option Value) (h' : AH), Post v h' → J p l e R s m args below meth c D A nL Q (cells + mc) (slots + ms) h' (pc + 3) lo (v.toList ++ rest)) : J p l e R s m args below meth c D A nL Q cells slots h pc lo st := by
  subst hst
  refine j_go (hc := h) (hr := fun _ => none) E (fun _ _ q => q) (fun _ _ q => nomatch q) (run_I E hC (fun _ _ q => q) w9 hin hy1 hn d) (fun Ex ce q9 H1 locs1 ls h1 hx => hx.elim) (fun v hc' h' hp g1 g2 _ _ => ?_)
  refine J.heap (h' := hc') g2 ?_
  exact k v hc' hp
theorem j_callVx {PX PX0 : String → Prop} {Post0 : Option Value → AH → Prop} {sz mc0 ms0 : Nat} {h0 : AH} (E : Cx p l s m args meth c cc nL own D (Afr h0 sz)) {b ci : Nat} {fs : List Value} {T9 : u_T} {N : Nat} {ret : Option FieldType} {index n f L mc ms : Nat} {y : MethodName} {bytes : ByteArray} {maxL : Nat} {As rest : List Value} {Post : Option Value → AH → Prop} (hC : Ctr l D y bytes maxL ret f L mc ms (.ref b :: As) h PX Post)
    (w9 : CW R s args own index y bytes maxL ret f L mc ms n cells slots rest) (hin : (Cond.instanceMethod y).before args s = true) (hse : (Cond.selects y.cls y y).before args s = true) (hb : h b = some (.inr (ci, fs))) (hcl : jcl[ci]? = some (y.cls, T9, N)) (hn : As.length = n) (d : decode cc pc = .ok (.invokevirtual index, 3)) (hst : st = As.reverse ++ .ref b :: rest)
    (hout : ∀ x ∈ c.exceptionTable.toList, False) (h00 : h = h0) (hPX : ∀ Ex, PX Ex → PX0 Ex) (hroom : cells + mc ≤ mc0 ∧ slots + ms ≤ ms0)
    (k : ∀ (v : Option Value) (h' : AH), Post v h' → J p l e R s m args below meth c D (Afr h0 sz) nL (vx_MQ below (Qcs D h0 sz Post0) (Xcs D h0 sz PX0) args s mc0 ms0 (Afr h0 sz)) (cells + mc) (slots + ms) h' (pc + 3) lo (v.toList ++ rest)) : J p l e R s m args below meth c D (Afr h0 sz) nL (vx_MQ below (Qcs D h0 sz Post0) (Xcs D h0 sz PX0) args s mc0 ms0 (Afr h0 sz)) cells slots h pc lo st := by
  subst hst
  refine j_go (hc := h) (hr := fun _ => none) E (fun _ _ q => q) (fun _ _ q => nomatch q) (run_V E hC (fun _ _ q => q) w9 hin hse hb hcl hn d) (fun Ex ce q9 H1 locs1 ls h1 hx a1 a2 _ hH1 hS1 hl1 hce hcv hcl => ?_) (fun v hc' h' hp g1 g2 _ _ => ?_)
  · refine vx_out (fun x hx => (hout x hx).elim) E.locks hce hcv hcl (fun t ht hal => ⟨⟨hPX _ hx, ?_⟩, hS1.F ht⟩) hS1.2.2 hroom.1 hroom.2
    rw [ht]
    intro x e9 he
    exact ((hH1.moved hal) x e9 (a2 x e9 (h00 ▸ he)))
  · refine J.heap (h' := hc') g2 ?_
    exact k v hc' hp
theorem j_callSx {PX PX0 : String → Prop} {Post0 : Option Value → AH → Prop} {sz mc0 ms0 : Nat} {h0 : AH} (E : Cx p l s m args meth c cc nL own D (Afr h0 sz)) {ret : Option FieldType} {index n f L mc ms : Nat} {y : MethodName} {bytes : ByteArray} {maxL : Nat} {As rest : List Value} {Post : Option Value → AH → Prop} (hC : Ctr l D y bytes maxL ret f L mc ms As h PX Post)
    (w9 : CW R s args own index y bytes maxL ret f L mc ms n cells slots rest) (hs9 : (Cond.static y).before args s = true) (hn : As.length = n) (d : decode cc pc = .ok (.invokestatic index, 3)) (hst : st = As.reverse ++ rest)
    (hout : ∀ x ∈ c.exceptionTable.toList, False) (h00 : h = h0) (hPX : ∀ Ex, PX Ex → PX0 Ex) (hroom : cells + mc ≤ mc0 ∧ slots + ms ≤ ms0)
    (k : ∀ (v : Option Value) (h' : AH), Post v h' → J p l e R s m args below meth c D (Afr h0 sz) nL (vx_MQ below (Qcs D h0 sz Post0) (Xcs D h0 sz PX0) args s mc0 ms0 (Afr h0 sz)) (cells + mc) (slots + ms) h' (pc + 3) lo (v.toList ++ rest)) : J p l e R s m args below meth c D (Afr h0 sz) nL (vx_MQ below (Qcs D h0 sz Post0) (Xcs D h0 sz PX0) args s mc0 ms0 (Afr h0 sz)) cells slots h pc lo st := by
  subst hst
  refine j_go (hc := h) (hr := fun _ => none) E (fun _ _ q => q) (fun _ _ q => nomatch q) (run_S E hC (fun _ _ q => q) w9 hs9 hn d) (fun Ex ce q9 H1 locs1 ls h1 hx a1 a2 _ hH1 hS1 hl1 hce hcv hcl => ?_) (fun v hc' h' hp g1 g2 _ _ => ?_)
  · refine vx_out (fun x hx => (hout x hx).elim) E.locks hce hcv hcl (fun t ht hal => ⟨⟨hPX _ hx, ?_⟩, hS1.F ht⟩) hS1.2.2 hroom.1 hroom.2
    rw [ht]
    intro x e9 he
    exact ((hH1.moved hal) x e9 (a2 x e9 (h00 ▸ he)))
  · refine J.heap (h' := hc') g2 ?_
    exact k v hc' hp
theorem j_iret {PX : String → Prop} {Post : Option Value → AH → Prop} {sz mc ms : Nat} {h0 : AH} (E : Cx p l s m args meth c cc nL own D (Afr h0 sz)) {v : Int32} (hr : meth.sig.returnType = some .int) (d : decode cc pc = .ok (.ireturn, 1)) (hroom : cells ≤ mc ∧ slots ≤ ms) (hp : Post (some (.int v)) h) :
    J p l e R s m args below meth c D (Afr h0 sz) nL (vx_MQ below (Qcs D h0 sz Post) (Xcs D h0 sz PX) args s mc ms (Afr h0 sz)) cells slots h pc lo [.int v] := by
  intro H locs ls hH hS hl
  refine vx_ret (W.widen hroom.1 hroom.2 ?_)
  exact W.iret E.x E.b hr (fun t ht hW => ⟨⟨_, h, rfl, hp, by rw [ht]; exact hH.moved hW.alike⟩, hS.F ht⟩) hS.2.2 d E.locks
theorem j_zret {PX : String → Prop} {Post : Option Value → AH → Prop} {sz mc ms : Nat} {h0 : AH} (E : Cx p l s m args meth c cc nL own D (Afr h0 sz)) {v : Int32} (hr : meth.sig.returnType = some .boolean) (hn : narrow .boolean (.int v) = .int v) (d : decode cc pc = .ok (.ireturn, 1)) (hroom : cells ≤ mc ∧ slots ≤ ms) (hp : Post (some (.int v)) h) :
    J p l e R s m args below meth c D (Afr h0 sz) nL (vx_MQ below (Qcs D h0 sz Post) (Xcs D h0 sz PX) args s mc ms (Afr h0 sz)) cells slots h pc lo [.int v] := by
  intro H locs ls hH hS hl
  refine vx_ret (W.widen hroom.1 hroom.2 ?_)
  exact W.zret E.x E.b hr hn (fun t ht hW => ⟨⟨_, h, rfl, hp, by rw [ht]; exact hH.moved hW.alike⟩, hS.F ht⟩) hS.2.2 d E.locks
theorem j_lret {PX : String → Prop} {Post : Option Value → AH → Prop} {sz mc ms : Nat} {h0 : AH} (E : Cx p l s m args meth c cc nL own D (Afr h0 sz)) {v : Int64} (hr : meth.sig.returnType = some .long) (d : decode cc pc = .ok (.lreturn, 1)) (hroom : cells ≤ mc ∧ slots ≤ ms) (hp : Post (some (.long v)) h) :
    J p l e R s m args below meth c D (Afr h0 sz) nL (vx_MQ below (Qcs D h0 sz Post) (Xcs D h0 sz PX) args s mc ms (Afr h0 sz)) cells slots h pc lo [.long v] := by
  intro H locs ls hH hS hl
  refine vx_ret (W.widen hroom.1 hroom.2 ?_)
  exact W.lret E.x E.b hr (fun t ht hW => ⟨⟨_, h, rfl, hp, by rw [ht]; exact hH.moved hW.alike⟩, hS.F ht⟩) hS.2.2 d E.locks
theorem j_fret {PX : String → Prop} {Post : Option Value → AH → Prop} {sz mc ms : Nat} {h0 : AH} (E : Cx p l s m args meth c cc nL own D (Afr h0 sz)) {v : UInt32} (hr : meth.sig.returnType = some .float) (d : decode cc pc = .ok (.freturn, 1)) (hroom : cells ≤ mc ∧ slots ≤ ms) (hp : Post (some (.float v)) h) :
    J p l e R s m args below meth c D (Afr h0 sz) nL (vx_MQ below (Qcs D h0 sz Post) (Xcs D h0 sz PX) args s mc ms (Afr h0 sz)) cells slots h pc lo [.float v] := by
  intro H locs ls hH hS hl
  refine vx_ret (W.widen hroom.1 hroom.2 ?_)
  exact W.fret E.x E.b hr (fun t ht hW => ⟨⟨_, h, rfl, hp, by rw [ht]; exact hH.moved hW.alike⟩, hS.F ht⟩) hS.2.2 d E.locks
theorem j_dret {PX : String → Prop} {Post : Option Value → AH → Prop} {sz mc ms : Nat} {h0 : AH} (E : Cx p l s m args meth c cc nL own D (Afr h0 sz)) {v : UInt64} (hr : meth.sig.returnType = some .double) (d : decode cc pc = .ok (.dreturn, 1)) (hroom : cells ≤ mc ∧ slots ≤ ms) (hp : Post (some (.double v)) h) :
    J p l e R s m args below meth c D (Afr h0 sz) nL (vx_MQ below (Qcs D h0 sz Post) (Xcs D h0 sz PX) args s mc ms (Afr h0 sz)) cells slots h pc lo [.double v] := by
  intro H locs ls hH hS hl
  refine vx_ret (W.widen hroom.1 hroom.2 ?_)
  exact W.dret E.x E.b hr (fun t ht hW => ⟨⟨_, h, rfl, hp, by rw [ht]; exact hH.moved hW.alike⟩, hS.F ht⟩) hS.2.2 d E.locks
theorem j_vret {PX : String → Prop} {Post : Option Value → AH → Prop} {sz mc ms : Nat} {h0 : AH} (E : Cx p l s m args meth c cc nL own D (Afr h0 sz))  (hr : meth.sig.returnType = none) (d : decode cc pc = .ok (.return_, 1)) (hroom : cells ≤ mc ∧ slots ≤ ms) (hp : Post none h) :
    J p l e R s m args below meth c D (Afr h0 sz) nL (vx_MQ below (Qcs D h0 sz Post) (Xcs D h0 sz PX) args s mc ms (Afr h0 sz)) cells slots h pc lo [] := by
  intro H locs ls hH hS hl
  refine vx_ret (W.widen hroom.1 hroom.2 ?_)
  exact W.vret E.x E.b hr (fun t ht hW => ⟨⟨_, h, rfl, hp, by rw [ht]; exact hH.moved hW.alike⟩, hS.F ht⟩) hS.2.2 d E.locks
theorem j_aret {PX : String → Prop} {Post : Option Value → AH → Prop} {sz mc ms : Nat} {h0 : AH} (E : Cx p l s m args meth c cc nL own D (Afr h0 sz)) {v : Value} {C : String} (hr : meth.sig.returnType = some (.object C)) (hv : v = .null ∨ ∃ a, v = .ref a) (d : decode cc pc = .ok (.areturn, 1)) (hroom : cells ≤ mc ∧ slots ≤ ms) (hp : Post (some v) h) :
    J p l e R s m args below meth c D (Afr h0 sz) nL (vx_MQ below (Qcs D h0 sz Post) (Xcs D h0 sz PX) args s mc ms (Afr h0 sz)) cells slots h pc lo [v] := by
  intro H locs ls hH hS hl
  refine vx_ret (W.widen hroom.1 hroom.2 ?_)
  exact W.aret E.x E.b hr (Or.inl ⟨C, rfl⟩) hv (fun t ht hW => ⟨⟨_, h, rfl, hp, by rw [ht]; exact hH.moved hW.alike⟩, hS.F ht⟩) hS.2.2 d E.locks
/-- throw new X(text) -/
theorem j_throw {PX : String → Prop} {Post : Option Value → AH → Prop} {sz mc ms : Nat} {h0 : AH} (E : Cx p l s m args meth c cc nL own D (Afr h0 sz)) {cls text : String} {ik is ic : Nat} (hfit : Bundle.fit cls = true)
    (hk : (Cond.classLink own ik cls).before args s = true) (hini : (Cond.initialized cls).before args s = true) (hstr : Cond.stringRef own is text ∈ lw_tbl) (hat : ∀ w ∈ vx_atS own ic cls ["java/lang/RuntimeException", "java/lang/Exception"], w ∈ lw_tbl ∧ tbOK w = true)
    (hgood : ∀ w ∈ Cond.classLink own ik cls :: Cond.initialized cls :: vx_atS own ic cls ["java/lang/RuntimeException", "java/lang/Exception"], vx_ot w = true)
    (d0 : decode cc pc = .ok (.new ik, 3)) (d3 : decode cc (pc + 3) = .ok (.dup, 1)) (d4 : decode cc (pc + 4) = .ok (.ldc is, 2)) (d6 : decode cc (pc + 6) = .ok (.invokespecial ic, 3)) (d9 : decode cc (pc + 9) = .ok (.athrow, 1))
    (hout : ∀ x ∈ c.exceptionTable.toList, False) (hr : 6 ≤ R.frames ∧ (st.map fun v => v.category).sum + 82 ≤ R.locals ∧ cells + 1 ≤ R.cells ∧ slots + 6 ≤ R.slots) (hroom : cells + 1 ≤ mc ∧ slots + 6 ≤ ms) (hX : PX cls) :
    J p l e R s m args below meth c D (Afr h0 sz) nL (vx_MQ below (Qcs D h0 sz Post) (Xcs D h0 sz PX) args s mc ms (Afr h0 sz)) cells slots h0 pc lo st := by
  intro H locs ls hH hS hl
  obtain ⟨sa, hsa⟩ := E.ts own is text hstr
  refine vx_throwS E.x E.b E.tr (names := ["java/lang/RuntimeException", "java/lang/Exception"]) (sa := sa) (A := Afr h0 sz) E.ow hfit (by decide +kernel) hk hini hsa (fun w hw => E.tb w (hat w hw).1 (hat w hw).2 args) hgood E.wd.2.2.2.2.1 E.wd.2.2.2.2.2 hS (by rw [E.ml]; exact hl.1) d0 d3 d4 d6 d9 (fun x hx => (hout x hx).elim) (by show 2 + 3 < _; omega) (by show _ + (13 * (2 + 1) + 43) ≤ _; omega) hr.2.2.1 hr.2.2.2 E.locks (fun t hal hz hk2 => ⟨⟨hX, ?_⟩, ?_⟩) hS.2.2 hroom.1 hroom.2
  · intro x e9 he
    obtain ⟨g1, g2⟩ := hH x e9 he
    exact ⟨g1, (g2.kept (hk2 x g2.lt)).moved hal⟩
  · refine ⟨Nat.le_trans hS.1 hz, fun q h1 h2 => ?_⟩
    rw [hk2 q (Nat.lt_of_lt_of_le h1 hS.1)]
    exact hS.2.1 q h1 h2
end JC
