/-! calls that are caught, and calls of methods with a table of their own -/
section JW
variable {p : Program} {l : Launch} {e : Env} {R : Room} {s : State} {m : MethodId} {args : Array Value} {below : List Frame} {meth : Method} {c : Code} {cc : ByteArray} {nL : Nat} {own : String} {D : va_G} {A : Nat → Prop} {Q : State → Prop} {cells slots : Nat} {h : AH} {pc : Nat} {lo : List (Nat × Value)} {st : List Value}
/-- where an exception of a class goes in a table -/
def Hdl (s : State) (args : Array Value) (own : String) (tb : List ExceptionTableEntry) (pc : Nat) (Ex : String) (tgt : Nat) : Prop :=
  ∃ (pre : List ExceptionTableEntry) (x : ExceptionTableEntry) (suf : List ExceptionTableEntry) (name : String), tb = pre ++ x :: suf ∧ (∀ z ∈ pre, covers z pc = false ∨ (z.catchType ≠ 0 ∧ ∃ nm : String, (Cond.classLink own z.catchType nm).before args s = true ∧ va_Nc Ex nm s)) ∧ covers x pc = true ∧ x.catchType ≠ 0 ∧ (Cond.classLink own x.catchType name).before args s = true ∧ (Cond.castable Ex name).before args s = true ∧ x.handlerPc = tgt
/-- a call whose exceptions are caught here; the callee sees hc alone, hr is beside it -/
theorem j_callVc (E : Cx p l s m args meth c cc nL own D A) {b ci : Nat} {fs : List Value} {T9 : u_T} {N : Nat} {ret : Option FieldType} {index n f L mc ms : Nat} {y : MethodName} {bytes : ByteArray} {maxL : Nat} {As rest : List Value} {Post : Option Value → AH → Prop} {PX : String → Prop} {hc hr : AH} (hC : Ctr l D y bytes maxL ret f L mc ms (.ref b :: As) hc PX Post)
    (hsub : ∀ x e9, hc x = some e9 → h x = some e9) (hrest : ∀ x e9, hr x = some e9 → h x = some e9 ∧ hc x = none)
    (w9 : CW R s args own index y bytes maxL ret f L mc ms n cells slots rest) (hin : (Cond.instanceMethod y).before args s = true) (hse : (Cond.selects y.cls y y).before args s = true) (hb : h b = some (.inr (ci, fs))) (hcl : jcl[ci]? = some (y.cls, T9, N)) (hn : As.length = n) (d : decode cc pc = .ok (.invokevirtual index, 3)) (hst : st = As.reverse ++ .ref b :: rest)
    (kx : ∀ (Ex : String) (q9 : Nat) (h1 : AH), PX Ex → (∀ x e9, hc x = some e9 → h1 x = some e9) → (∀ x e9, hr x = some e9 → h1 x = some e9) → ∃ tgt, Hdl s args own c.exceptionTable.toList pc Ex tgt ∧ J p l e R s m args below meth c D A nL Q (cells + mc) (slots + ms) h1 tgt lo [.ref q9])
    (k : ∀ (v : Option Value) (hc' h' : AH), Post v hc' → (∀ x e9, hc' x = some e9 → h' x = some e9) → (∀ x e9, hr x = some e9 → h' x = some e9) → (∀ x e9, hr x = some e9 → hc' x = none) → J p l e R s m args below meth c D A nL Q (cells + mc) (slots + ms) h' (pc + 3) lo (v.toList ++ rest)) : J p l e R s m args below meth c D A nL Q cells slots h pc lo st := by
  subst hst
  refine j_go (hc := hc) (hr := hr) E hsub hrest (run_V E hC hsub w9 hin hse hb hcl hn d) (fun Ex ce q9 H1 locs1 ls h1 hx _ a2 a3 hH1 hS1 hl1 hce hcv hcl => ?_) (fun v hc' h' hp _ g2 g3 g4 => k v hc' h' hp g2 g3 g4)
  obtain ⟨tgt, ⟨pre, x, suf, name, e1, e2, e3, e4, e5, e6, e7⟩, kk⟩ := kx Ex q9 h1 hx a2 a3
  subst e7
  exact vx_catch E.ow pre x suf e1 e2 e3 e4 e5 e6 hce hcv hcl (kk H1 locs1 ls hH1 hS1 hl1)
/-- what a call of a method with a table needs -/
abbrev CWw (R : Room) (s : State) (args : Array Value) (own : String) (index : Nat) (y : MethodName) (bytes : ByteArray) (maxL : Nat) (ret : Option FieldType) (hh : List (Nat × Nat × Nat × Nat)) (f L mc ms n cells slots : Nat) (rest : List Value) : Prop :=
  (Cond.methodLink own index y).before args s = true ∧ (Cond.codeWith y bytes maxL ret hh).before args s = true ∧ (Cond.initialized y.cls).before args s = true ∧ (y.cls ≠ "java/lang/invoke/MethodHandle" ∧ y.cls ≠ "java/lang/invoke/VarHandle" ∧ (parseMethodDescriptor y.desc).map (fun d => d.parameters.length) = some n) ∧ f + 1 ≤ R.frames ∧ 8 + (maxL + 11) + L ≤ R.locals ∧ cells + mc ≤ R.cells ∧ slots + ms ≤ R.slots ∧ (rest.map fun v => v.category).sum ≤ 8
theorem CWw.B {index n f L mc ms : Nat} {y : MethodName} {bytes : ByteArray} {maxL : Nat} {ret : Option FieldType} {hh : List (Nat × Nat × Nat × Nat)} {rest : List Value} (w9 : CWw R s args own index y bytes maxL ret hh f L mc ms n cells slots rest) (hst : (Cond.static y).before args s = true) :
    vx_CSW R s args own index y bytes maxL ret hh [Cond.codeWith y bytes maxL ret hh] { frames := f, cells := mc, slots := ms, locals := L } mc ms n := by
  obtain ⟨hl, hcode, hini, hd, h1, h2, -⟩ := w9
  refine ⟨⟨rfl, rfl, h1, h2, fun w hw a' U hW => ?_, List.mem_cons_self⟩, hcode, hini, ⟨hd.1, hd.2.1⟩, fun sig h => ?_, hl, hst⟩
  · rw [List.mem_singleton.mp hw]
    exact word_at hW (Or.inl (by first | rfl | simp [Cond.onTables, Cond.keeps, Cond.steady])) hcode
  · have h3 := hd.2.2
    rw [h] at h3
    exact (Option.some.inj h3).symm
/-- a call of such a method, which throws nothing; the callee sees hc alone -/
theorem j_callSw (E : Cx p l s m args meth c cc nL own D A) {ret : Option FieldType} {hh : List (Nat × Nat × Nat × Nat)} {index n f L mc ms : Nat} {y : MethodName} {bytes : ByteArray} {maxL : Nat} {As rest : List Value} {Post : Option Value → AH → Prop} {hc hr : AH} (hC : CtrW l D y bytes maxL ret hh f L mc ms As hc (fun _ => False) Post)
    (hsub : ∀ x e9, hc x = some e9 → h x = some e9) (hrest : ∀ x e9, hr x = some e9 → h x = some e9 ∧ hc x = none)
    (w9 : CWw R s args own index y bytes maxL ret hh f L mc ms n cells slots rest) (hs9 : (Cond.static y).before args s = true) (hn : As.length = n) (d : decode cc pc = .ok (.invokestatic index, 3)) (hst : st = As.reverse ++ rest)
    (k : ∀ (v : Option Value) (hc' h' : AH), Post v hc' → (∀ x e9, hc' x = some e9 → h' x = some e9) → (∀ x e9, hr x = some e9 → h' x = some e9) → (∀ x e9, hr x = some e9 → hc' x = none) → J p l e R s m args below meth c D A nL Q (cells + mc) (slots + ms) h' (pc + 3) lo (v.toList ++ rest)) : J p l e R s m args below meth c D A nL Q cells slots h pc lo st := by
  subst hst
  refine j_go (hc := hc) (hr := hr) E hsub hrest (fun H locs ls hH hS hl => vx_runSX E.fix (hC E.tr H.size) (w9.B hs9) ⟨Pcs.blind, E.pcs hH hS hsub As⟩ rfl hn hl.1 rfl (lv_room w9.2.2.2.2.2.2.2.2) d ⟨w9.2.2.2.2.2.2.1, w9.2.2.2.2.2.2.2.1⟩) (fun Ex ce q9 H1 locs1 ls h1 hx => hx.elim) (fun v hc' h' hp _ g2 g3 g4 => k v hc' h' hp g2 g3 g4)
/-- a call of a method that throws nothing; the callee sees hc alone -/
theorem j_callVr (E : Cx p l s m args meth c cc nL own D A) {b ci : Nat} {fs : List Value} {T9 : u_T} {N : Nat} {ret : Option FieldType} {index n f L mc ms : Nat} {y : MethodName} {bytes : ByteArray} {maxL : Nat} {As rest : List Value} {Post : Option Value → AH → Prop} {hc hr : AH} (hC : Ctr l D y bytes maxL ret f L mc ms (.ref b :: As) hc (fun _ => False) Post)
    (hsub : ∀ x e9, hc x = some e9 → h x = some e9) (hrest : ∀ x e9, hr x = some e9 → h x = some e9 ∧ hc x = none)
    (w9 : CW R s args own index y bytes maxL ret f L mc ms n cells slots rest) (hin : (Cond.instanceMethod y).before args s = true) (hse : (Cond.selects y.cls y y).before args s = true) (hb : h b = some (.inr (ci, fs))) (hcl : jcl[ci]? = some (y.cls, T9, N)) (hn : As.length = n) (d : decode cc pc = .ok (.invokevirtual index, 3)) (hst : st = As.reverse ++ .ref b :: rest)
    (k : ∀ (v : Option Value) (hc' h' : AH), Post v hc' → (∀ x e9, hc' x = some e9 → h' x = some e9) → (∀ x e9, hr x = some e9 → h' x = some e9) → (∀ x e9, hr x = some e9 → hc' x = none) → J p l e R s m args below meth c D A nL Q (cells + mc) (slots + ms) h' (pc + 3) lo (v.toList ++ rest)) : J p l e R s m args below meth c D A nL Q cells slots h pc lo st := by
  subst hst
  exact j_go (hc := hc) (hr := hr) E hsub hrest (run_V E hC hsub w9 hin hse hb hcl hn d) (fun Ex ce q9 H1 locs1 ls h1 hx => hx.elim) (fun v hc' h' hp _ g2 g3 g4 => k v hc' h' hp g2 g3 g4)
/-- a constructor, likewise -/
theorem j_callIr (E : Cx p l s m args meth c cc nL own D A) {b : Nat} {index n f L mc ms : Nat} {y : MethodName} {bytes : ByteArray} {maxL : Nat} {As rest : List Value} {Post : Option Value → AH → Prop} {hc hr : AH} (hC : Ctr l D y bytes maxL none f L mc ms (.ref b :: As) hc (fun _ => False) Post)
    (hsub : ∀ x e9, hc x = some e9 → h x = some e9) (hrest : ∀ x e9, hr x = some e9 → h x = some e9 ∧ hc x = none)
    (w9 : CW R s args own index y bytes maxL none f L mc ms n cells slots rest) (hin : (Cond.instanceMethod y).before args s = true) (hy1 : y.name = "<init>") (hn : As.length = n) (d : decode cc pc = .ok (.invokespecial index, 3)) (hst : st = As.reverse ++ .ref b :: rest)
    (k : ∀ (v : Option Value) (hc' h' : AH), Post v hc' → (∀ x e9, hc' x = some e9 → h' x = some e9) → (∀ x e9, hr x = some e9 → h' x = some e9) → (∀ x e9, hr x = some e9 → hc' x = none) → J p l e R s m args below meth c D A nL Q (cells + mc) (slots + ms) h' (pc + 3) lo (v.toList ++ rest)) : J p l e R s m args below meth c D A nL Q cells slots h pc lo st := by
  subst hst
  exact j_go (hc := hc) (hr := hr) E hsub hrest (run_I E hC hsub w9 hin hy1 hn d) (fun Ex ce q9 H1 locs1 ls h1 hx => hx.elim) (fun v hc' h' hp _ g2 g3 g4 => k v hc' h' hp g2 g3 g4)
end JW
