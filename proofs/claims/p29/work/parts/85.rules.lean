/-! what a call of the law's own methods answers; the law's picture; calls that look, calls that change -/
def rc (r : St × Int32) : Int32 := if r.1.1 0 8 0 = 0 then r.2 else -1000 - r.1.1 0 8 0
def rcL (r : St × Int64) : Int64 := if r.1.1 0 8 0 = 0 then r.2 else -1000 - (r.1.1 0 8 0).toInt64
def nx (S : St) (r : St × Int32) : St := if r.1.1 0 8 0 = 0 then r.1 else S
theorem rc_0 {r : St × Int32} (h : r.1.1 0 8 0 = 0) : rc r = r.2 := if_pos h
theorem rc_1 {r : St × Int32} (h : r.1.1 0 8 0 = 1) : rc r = -1001 := by unfold rc; rw [h, if_neg (by decide)]; decide
theorem rc_2 {r : St × Int32} (h : r.1.1 0 8 0 = 2) : rc r = -1002 := by unfold rc; rw [h, if_neg (by decide)]; decide
theorem rc_3 {r : St × Int32} (h : r.1.1 0 8 0 = 3) : rc r = -1003 := by unfold rc; rw [h, if_neg (by decide)]; decide
theorem rcL_0 {r : St × Int64} (h : r.1.1 0 8 0 = 0) : rcL r = r.2 := if_pos h
theorem rcL_1 {r : St × Int64} (h : r.1.1 0 8 0 = 1) : rcL r = -1001 := by unfold rcL; rw [h, if_neg (by decide)]; decide
theorem nx_0 {S : St} {r : St × Int32} (h : r.1.1 0 8 0 = 0) : nx S r = r.1 := if_pos h
theorem nx_1 {S : St} {r : St × Int32} (h : ¬ r.1.1 0 8 0 = 0) : nx S r = S := if_neg h
/-- hours of shots that a state can have had -/
abbrev bS (S : St) : Nat := 180 * nn (S.1 0 5 0)
/-- behind a call that may change: its answer, and the desk -/
def HM (S : St) (r : St × Int32) (a0 : Nat) : Option Value → AH → Prop := fun r9 h' => r9 = some (.int (rc r)) ∧ ∃ hc' : AH, Ok (nx S r) (bS (nx S r)) a0 hc' ∧ ∀ x e, hc' x = some e → h' x = some e
theorem Ctr.post {l : Launch} {D : va_G} {y : MethodName} {cc : ByteArray} {maxL : Nat} {ret : Option FieldType} {f L mc ms : Nat} {av : List Value} {h : AH} {PX : String → Prop} {Post Post' : Option Value → AH → Prop} (hC : Ctr l D y cc maxL ret f L mc ms av h PX Post) (hp : ∀ v h', Post v h' → Post' v h') : Ctr l D y cc maxL ret f L mc ms av h PX Post' := by
  intro htr sz p e ha hc hk s m args below hf happ hP hK
  obtain ⟨n, o, h1, h2, h3, h4⟩ := hC htr sz p e ha hc hk s m args below hf happ hP hK
  refine ⟨n, o, h1, h2, h3, ?_⟩
  rcases h4 with ⟨hq, hL⟩ | h5
  · obtain ⟨⟨v, h', e1, e2, e3⟩, e4⟩ := hq
    exact Or.inl ⟨⟨⟨v, h', e1, hp v h' e2, e3⟩, e4⟩, hL⟩
  · exact Or.inr h5
section JK
variable {p : Program} {l : Launch} {e : Env} {R : Room} {s : State} {m : MethodId} {args : Array Value} {below : List Frame} {meth : Method} {c : Code} {cc : ByteArray} {nL : Nat} {own : String} {D : va_G} {A : Nat → Prop} {Q : State → Prop} {cells slots : Nat} {h : AH} {pc : Nat} {lo : List (Nat × Value)} {st : List Value}
/-- the rest of a heap -/
def hoff (h hc : AH) : AH := fun q => match hc q with
  | none => h q
  | some _ => none
theorem hoff_r {h hc : AH} : ∀ x e9, hoff h hc x = some e9 → h x = some e9 ∧ hc x = none := by
  intro x e9 he
  unfold hoff at he
  cases hx : hc x with
  | none => rw [hx] at he; exact ⟨he, rfl⟩
  | some y => rw [hx] at he; cases he
theorem hoff_b {h hc h' : AH} (hsub : ∀ x e9, hc x = some e9 → h x = some e9) (g2 : ∀ x e9, hc x = some e9 → h' x = some e9) (g3 : ∀ x e9, hoff h hc x = some e9 → h' x = some e9) : ∀ x e9, h x = some e9 → h' x = some e9 := by
  intro x e9 he
  cases hx : hc x with
  | none => exact g3 x e9 (by unfold hoff; rw [hx]; exact he)
  | some y =>
    have h1 := hsub x y hx
    rw [he] at h1
    cases h1
    exact g2 x e9 hx
theorem j_callSr (E : Cx p l s m args meth c cc nL own D A) {ret : Option FieldType} {index n f L mc ms : Nat} {y : MethodName} {bytes : ByteArray} {maxL : Nat} {As rest : List Value} {Post : Option Value → AH → Prop} {hc hr : AH} (hC : Ctr l D y bytes maxL ret f L mc ms As hc (fun _ => False) Post)
    (hsub : ∀ x e9, hc x = some e9 → h x = some e9) (hrest : ∀ x e9, hr x = some e9 → h x = some e9 ∧ hc x = none)
    (w9 : CW R s args own index y bytes maxL ret f L mc ms n cells slots rest) (hs9 : (Cond.static y).before args s = true) (hn : As.length = n) (d : decode cc pc = .ok (.invokestatic index, 3)) (hst : st = As.reverse ++ rest)
    (k : ∀ (v : Option Value) (hc' h' : AH), Post v hc' → (∀ x e9, hc' x = some e9 → h' x = some e9) → (∀ x e9, hr x = some e9 → h' x = some e9) → (∀ x e9, hr x = some e9 → hc' x = none) → J p l e R s m args below meth c D A nL Q (cells + mc) (slots + ms) h' (pc + 3) lo (v.toList ++ rest)) : J p l e R s m args below meth c D A nL Q cells slots h pc lo st := by
  subst hst
  exact j_go (hc := hc) (hr := hr) E hsub hrest (run_S E hC hsub w9 hs9 hn d) (fun Ex ce q9 H1 locs1 ls h1 hx => hx.elim) (fun v hc' h' hp _ g2 g3 g4 => k v hc' h' hp g2 g3 g4)
/-- a look by a method with a table -/
theorem j_lookW (E : Cx p l s m args meth c cc nL own D A) {ret : Option FieldType} {hh : List (Nat × Nat × Nat × Nat)} {index n f L mc ms : Nat} {y : MethodName} {bytes : ByteArray} {maxL : Nat} {As rest : List Value} {v : Value} {hc : AH} (hC : CtrW l D y bytes maxL ret hh f L mc ms As hc (fun _ => False) (fun r9 h' => r9 = some v ∧ hc = h'))
    (hsub : ∀ x e9, hc x = some e9 → h x = some e9) (w9 : CWw R s args own index y bytes maxL ret hh f L mc ms n cells slots rest) (hs9 : (Cond.static y).before args s = true) (hn : As.length = n) (d : decode cc pc = .ok (.invokestatic index, 3)) (hst : st = As.reverse ++ rest)
    (k : J p l e R s m args below meth c D A nL Q (cells + mc) (slots + ms) h (pc + 3) lo (v :: rest)) : J p l e R s m args below meth c D A nL Q cells slots h pc lo st := by
  refine j_callSw E (hr := hoff h hc) hC hsub hoff_r w9 hs9 hn d hst (fun v9 hc' h' hp g2 g3 g4 => ?_)
  obtain ⟨rfl, rfl⟩ := hp
  exact J.heap (hoff_b hsub g2 g3) k
/-- a look by a static method without one -/
theorem j_lookS (E : Cx p l s m args meth c cc nL own D A) {ret : Option FieldType} {index n f L mc ms : Nat} {y : MethodName} {bytes : ByteArray} {maxL : Nat} {As rest : List Value} {v : Value} {hc : AH} (hC : Ctr l D y bytes maxL ret f L mc ms As hc (fun _ => False) (fun r9 h' => r9 = some v ∧ hc = h'))
    (hsub : ∀ x e9, hc x = some e9 → h x = some e9) (w9 : CW R s args own index y bytes maxL ret f L mc ms n cells slots rest) (hs9 : (Cond.static y).before args s = true) (hn : As.length = n) (d : decode cc pc = .ok (.invokestatic index, 3)) (hst : st = As.reverse ++ rest)
    (k : J p l e R s m args below meth c D A nL Q (cells + mc) (slots + ms) h (pc + 3) lo (v :: rest)) : J p l e R s m args below meth c D A nL Q cells slots h pc lo st := by
  refine j_callSr E (hr := hoff h hc) hC hsub hoff_r w9 hs9 hn d hst (fun v9 hc' h' hp g2 g3 g4 => ?_)
  obtain ⟨rfl, rfl⟩ := hp
  exact J.heap (hoff_b hsub g2 g3) k
/-- a look by an object's method -/
theorem j_lookV (E : Cx p l s m args meth c cc nL own D A) {b ci : Nat} {fs : List Value} {T9 : u_T} {N : Nat} {ret : Option FieldType} {index n f L mc ms : Nat} {y : MethodName} {bytes : ByteArray} {maxL : Nat} {As rest : List Value} {v : Value} {hc : AH} (hC : Ctr l D y bytes maxL ret f L mc ms (.ref b :: As) hc (fun _ => False) (fun r9 h' => r9 = some v ∧ hc = h'))
    (hsub : ∀ x e9, hc x = some e9 → h x = some e9) (w9 : CW R s args own index y bytes maxL ret f L mc ms n cells slots rest) (hin : (Cond.instanceMethod y).before args s = true) (hse : (Cond.selects y.cls y y).before args s = true) (hb : hc b = some (.inr (ci, fs))) (hcl : jcl[ci]? = some (y.cls, T9, N)) (hn : As.length = n) (d : decode cc pc = .ok (.invokevirtual index, 3)) (hst : st = As.reverse ++ .ref b :: rest)
    (k : J p l e R s m args below meth c D A nL Q (cells + mc) (slots + ms) h (pc + 3) lo (v :: rest)) : J p l e R s m args below meth c D A nL Q cells slots h pc lo st := by
  refine j_callVr E (hr := hoff h hc) hC hsub hoff_r w9 hin hse (hsub _ _ hb) hcl hn d hst (fun v9 hc' h' hp g2 g3 g4 => ?_)
  obtain ⟨rfl, rfl⟩ := hp
  exact J.heap (hoff_b hsub g2 g3) k
/-- the law's picture: a desk, and cells of the law's own beside it -/
def LwP (S : St) (a0 : Nat) (hx h : AH) : Prop := ∃ hC : AH, Ok S (bS S) a0 hC ∧ (∀ p e, hC p = some e → h p = some e ∧ hx p = none) ∧ (∀ p e, hx p = some e → h p = some e)
theorem LwP.inv {S : St} {a0 : Nat} {hx h : AH} (L : LwP S a0 hx h) : Inv S (bS S) := by
  obtain ⟨hC, ⟨gl, G, ad, e, K0, hI, I⟩, -⟩ := L
  exact I
theorem LwP.x {S : St} {a0 : Nat} {hx h : AH} (L : LwP S a0 hx h) {q : Nat} {e : AE} (he : hx q = some e) : h q = some e := by
  obtain ⟨hC, -, -, d⟩ := L
  exact d q e he
theorem LwP.less {S : St} {a0 : Nat} {hx hy h : AH} (L : LwP S a0 hx h) (hs : ∀ p e, hy p = some e → hx p = some e) : LwP S a0 hy h := by
  obtain ⟨hC, ok, d1, d2⟩ := L
  refine ⟨hC, ok, fun p e he => ⟨(d1 p e he).1, ?_⟩, fun p e he => d2 p e (hs p e he)⟩
  cases hp : hy p with
  | none => rfl
  | some e2 => have h1 := hs p e2 hp; rw [(d1 p e he).2] at h1; cases h1
theorem LwP.put {S : St} {a0 : Nat} {hx h h1 : AH} (L : LwP S a0 hx h) {q : Nat} {e0 : AE} (e1 : AE) (hq : hx q = some e0) (n : h1 q = some e1) (u : ∀ x, x ≠ q → h1 x = h x) : LwP S a0 (hup hx q e1) h1 := by
  obtain ⟨hC, ok, d1, d2⟩ := L
  refine ⟨hC, ok, fun p e he => ?_, fun p e he => ?_⟩
  · have hne : p ≠ q := fun r => by rw [r] at he; rw [(d1 q e he).2] at hq; cases hq
    exact ⟨(u p hne).trans (d1 p e he).1, (hup_ne hne).trans (d1 p e he).2⟩
  · by_cases r : p = q
    · subst r; rw [hup_eq] at he; rw [n]; exact he
    · rw [hup_ne r] at he; exact (u p r).trans (d2 p e he)
theorem LwP.new {S : St} {a0 : Nat} {hx h h1 : AH} (L : LwP S a0 hx h) {q : Nat} {e1 : AE} (f : h q = none) (n : h1 q = some e1) (u : ∀ x, x ≠ q → h1 x = h x) : LwP S a0 (hup hx q e1) h1 := by
  obtain ⟨hC, ok, d1, d2⟩ := L
  refine ⟨hC, ok, fun p e he => ?_, fun p e he => ?_⟩
  · have hne : p ≠ q := fun r => by rw [r] at he; have h2 := (d1 q e he).1; rw [f] at h2; cases h2
    exact ⟨(u p hne).trans (d1 p e he).1, (hup_ne hne).trans (d1 p e he).2⟩
  · by_cases r : p = q
    · subst r; rw [hup_eq] at he; rw [n]; exact he
    · rw [hup_ne r] at he; exact (u p r).trans (d2 p e he)
/-- a look of the law -/
theorem j_lk (E : Cx p l s m args meth c cc nL own D A) {S : St} {a0 : Nat} {hx : AH} (L : LwP S a0 hx h) {ret : Option FieldType} {hh : List (Nat × Nat × Nat × Nat)} {index n f L9 mc ms : Nat} {y : MethodName} {bytes : ByteArray} {maxL : Nat} {As rest : List Value} {v : Value} (hC : ∀ hC0 : AH, Ok S (bS S) a0 hC0 → CtrW l D y bytes maxL ret hh f L9 mc ms As hC0 (fun _ => False) (fun r9 h' => r9 = some v ∧ hC0 = h'))
    (w9 : CWw R s args own index y bytes maxL ret hh f L9 mc ms n cells slots rest) (hs9 : (Cond.static y).before args s = true) (hn : As.length = n) (d : decode cc pc = .ok (.invokestatic index, 3)) (hst : st = As.reverse ++ rest)
    (k : J p l e R s m args below meth c D A nL Q (cells + mc) (slots + ms) h (pc + 3) lo (v :: rest)) : J p l e R s m args below meth c D A nL Q cells slots h pc lo st := by
  obtain ⟨hC0, ok, d1, d2⟩ := L
  exact j_lookW E (hC hC0 ok) (fun x e9 he => (d1 x e9 he).1) w9 hs9 hn d hst k
theorem j_lkS (E : Cx p l s m args meth c cc nL own D A) {S : St} {a0 : Nat} {hx : AH} (L : LwP S a0 hx h) {ret : Option FieldType} {index n f L9 mc ms : Nat} {y : MethodName} {bytes : ByteArray} {maxL : Nat} {As rest : List Value} {v : Value} (hC : ∀ hC0 : AH, Ok S (bS S) a0 hC0 → Ctr l D y bytes maxL ret f L9 mc ms As hC0 (fun _ => False) (fun r9 h' => r9 = some v ∧ hC0 = h'))
    (w9 : CW R s args own index y bytes maxL ret f L9 mc ms n cells slots rest) (hs9 : (Cond.static y).before args s = true) (hn : As.length = n) (d : decode cc pc = .ok (.invokestatic index, 3)) (hst : st = As.reverse ++ rest)
    (k : J p l e R s m args below meth c D A nL Q (cells + mc) (slots + ms) h (pc + 3) lo (v :: rest)) : J p l e R s m args below meth c D A nL Q cells slots h pc lo st := by
  obtain ⟨hC0, ok, d1, d2⟩ := L
  exact j_lookS E (hC hC0 ok) (fun x e9 he => (d1 x e9 he).1) w9 hs9 hn d hst k
theorem j_lkV (E : Cx p l s m args meth c cc nL own D A) {S : St} {a0 : Nat} {hx : AH} (L : LwP S a0 hx h) {T9 : u_T} {N : Nat} {ret : Option FieldType} {index n f L9 mc ms : Nat} {y : MethodName} {bytes : ByteArray} {maxL : Nat} {As rest : List Value} {v : Value} (hC : ∀ hC0 : AH, Ok S (bS S) a0 hC0 → Ctr l D y bytes maxL ret f L9 mc ms (.ref a0 :: As) hC0 (fun _ => False) (fun r9 h' => r9 = some v ∧ hC0 = h'))
    (w9 : CW R s args own index y bytes maxL ret f L9 mc ms n cells slots rest) (hin : (Cond.instanceMethod y).before args s = true) (hse : (Cond.selects y.cls y y).before args s = true) (hcl : jcl[7]? = some (y.cls, T9, N)) (hn : As.length = n) (d : decode cc pc = .ok (.invokevirtual index, 3)) (hst : st = As.reverse ++ .ref a0 :: rest)
    (k : J p l e R s m args below meth c D A nL Q (cells + mc) (slots + ms) h (pc + 3) lo (v :: rest)) : J p l e R s m args below meth c D A nL Q cells slots h pc lo st := by
  obtain ⟨hC0, ok, d1, d2⟩ := L
  have ok2 := ok
  obtain ⟨gl, G, ad, e0, K0, hI, I⟩ := ok2
  exact j_lookV E (hC hC0 ok) (fun x e9 he => (d1 x e9 he).1) w9 hin hse (by rw [← e0]; exact K0.x0) hcl hn d hst k
/-- a call of the law that may change the desk -/
theorem j_mut (E : Cx p l s m args meth c cc nL own D A) {S : St} {a0 : Nat} {hx : AH} (L : LwP S a0 hx h) {ret : Option FieldType} {hh : List (Nat × Nat × Nat × Nat)} {index n f L9 mc ms : Nat} {y : MethodName} {bytes : ByteArray} {maxL : Nat} {As rest : List Value} {r : St × Int32} (hC : ∀ hC0 : AH, Ok S (bS S) a0 hC0 → CtrW l D y bytes maxL ret hh f L9 mc ms As hC0 (fun _ => False) (HM S r a0))
    (w9 : CWw R s args own index y bytes maxL ret hh f L9 mc ms n cells slots rest) (hs9 : (Cond.static y).before args s = true) (hn : As.length = n) (d : decode cc pc = .ok (.invokestatic index, 3)) (hst : st = As.reverse ++ rest)
    (k : ∀ h' : AH, LwP (nx S r) a0 hx h' → J p l e R s m args below meth c D A nL Q (cells + mc) (slots + ms) h' (pc + 3) lo (.int (rc r) :: rest)) : J p l e R s m args below meth c D A nL Q cells slots h pc lo st := by
  obtain ⟨hC0, ok, d1, d2⟩ := L
  refine j_callSw E (hr := hx) (hC hC0 ok) (fun x e9 he => (d1 x e9 he).1) (fun x e9 he => ⟨d2 x e9 he, ?_⟩) w9 hs9 hn d hst (fun v9 hc' h' hp g2 g3 g4 => ?_)
  · cases hy : hC0 x with
    | none => rfl
    | some e8 => have h1 := (d1 x e8 hy).2; rw [he] at h1; cases h1
  · obtain ⟨rfl, hc2, ok2, i1⟩ := hp
    refine k h' ⟨hc2, ok2, fun p e he => ⟨g2 p e (i1 p e he), ?_⟩, g3⟩
    cases hy : hx p with
    | none => rfl
    | some e8 => have h1 := g4 p e8 hy; rw [i1 p e he] at h1; cases h1
/-- the same, with an array of numbers for an argument -/
def HMa (S : St) (r : St × Int32) (a0 q : Nat) (ea : AE) : Option Value → AH → Prop := fun r9 h' => r9 = some (.int (rc r)) ∧ ∃ hc' : AH, Ok (nx S r) (bS (nx S r)) a0 hc' ∧ (∀ x e, hc' x = some e → h' x = some e ∧ x ≠ q) ∧ h' q = some ea
theorem j_mutA (E : Cx p l s m args meth c cc nL own D A) {S : St} {a0 : Nat} {hx : AH} (L : LwP S a0 hx h) {q : Nat} {ea : AE} (hq : hx q = some ea) {ret : Option FieldType} {hh : List (Nat × Nat × Nat × Nat)} {index n f L9 mc ms : Nat} {y : MethodName} {bytes : ByteArray} {maxL : Nat} {As rest : List Value} {r : St × Int32} (hC : ∀ hC0 : AH, Ok S (bS S) a0 hC0 → hC0 q = none → CtrW l D y bytes maxL ret hh f L9 mc ms As (hup hC0 q ea) (fun _ => False) (HMa S r a0 q ea))
    (w9 : CWw R s args own index y bytes maxL ret hh f L9 mc ms n cells slots rest) (hs9 : (Cond.static y).before args s = true) (hn : As.length = n) (d : decode cc pc = .ok (.invokestatic index, 3)) (hst : st = As.reverse ++ rest)
    (k : ∀ h' : AH, LwP (nx S r) a0 hx h' → J p l e R s m args below meth c D A nL Q (cells + mc) (slots + ms) h' (pc + 3) lo (.int (rc r) :: rest)) : J p l e R s m args below meth c D A nL Q cells slots h pc lo st := by
  obtain ⟨hC0, ok, d1, d2⟩ := L
  have hno : hC0 q = none := by
    cases hy : hC0 q with
    | none => rfl
    | some e8 => have h1 := (d1 q e8 hy).2; rw [hq] at h1; cases h1
  refine j_callSw E (hc := hup hC0 q ea) (hr := fun z => if z = q then none else hx z) (hC hC0 ok hno) (fun x e9 he => ?_) (fun x e9 he => ?_) w9 hs9 hn d hst (fun v9 hc' h' hp g2 g3 g4 => ?_)
  · by_cases z : x = q
    · subst z; rw [hup_eq] at he; rw [← he]; exact d2 x ea hq
    · rw [hup_ne z] at he; exact (d1 x e9 he).1
  · by_cases z : x = q
    · rw [if_pos z] at he; cases he
    · rw [if_neg z] at he
      refine ⟨d2 x e9 he, (hup_ne z).trans ?_⟩
      cases hy : hC0 x with
      | none => rfl
      | some e8 => have h1 := (d1 x e8 hy).2; rw [he] at h1; cases h1
  · obtain ⟨rfl, hc2, ok2, i1, i2⟩ := hp
    refine k h' ⟨hc2, ok2, fun p e he => ⟨g2 p e (i1 p e he).1, ?_⟩, fun p e he => ?_⟩
    · have hne := (i1 p e he).2
      cases hy : hx p with
      | none => rfl
      | some e8 => have h1 := g4 p e8 ((if_neg hne).trans hy); rw [(i1 p e he).1] at h1; cases h1
    · by_cases z : p = q
      · subst z; rw [hq] at he; cases he; exact g2 p _ i2
      · exact g3 p e ((if_neg z).trans he)
end JK
