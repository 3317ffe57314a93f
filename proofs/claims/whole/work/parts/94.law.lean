/-! what the law holds: a desk, a model, the script, two arrays, apart from one another -/
def LwS (Sc Sm : St) (B x m o od : Nat) (g : Nat → Int64) (gD : Nat → UInt64) (h : AH) : Prop := ∃ (hC hM : AH) (ad : Nat → Nat) (ar : Nat → Nat → Nat), Ok Sc B x hC ∧ ad 0 = m ∧ Mdl Sm ad ar hM ∧ (∀ p e, hC p = some e → h p = some e ∧ hM p = none ∧ p ≠ o ∧ p ≠ od) ∧ (∀ p e, hM p = some e → h p = some e ∧ p ≠ o ∧ p ≠ od) ∧ h o = some (.inl (.long, (1, .inr (.inl g)))) ∧ h od = some (.inl (.double, (1, .inr (.inr (.inr (.inl gD)))))) ∧ o ≠ od
/-- the script, as the law's start has it, in no cell that is written -/
def Scr (s : State) (A : Nat → Prop) (sc N : Nat) (f : Nat → Int32) : Prop := va_X sc N f s s.heap ∧ ¬ A sc
section JL
variable {p : Program} {l : Launch} {e : Env} {R : Room} {s : State} {m : MethodId} {args : Array Value} {below : List Frame} {meth : Method} {c : Code} {cc : ByteArray} {nL : Nat} {own : String} {D : va_G} {A : Nat → Prop} {Q : State → Prop} {cells slots : Nat} {h : AH} {pc : Nat} {lo : List (Nat × Value)} {st : List Value}
theorem Scr.lt {sc N : Nat} {f : Nat → Int32} (X : Scr s A sc N f) : sc < s.heap.size := by
  obtain ⟨⟨scr, h1, -⟩, -⟩ := X
  exact (Array.getElem?_eq_some_iff.mp h1).1
theorem j_sld (E : Cx p l s m args meth c cc nL own D A) {sc N : Nat} {f : Nat → Int32} (X : Scr s A sc N f) {i : Int32} (hin : vp_in i N) (d : decode cc pc = .ok (.iaload, 1))
    (kk : J p l e R s m args below meth c D A nL Q cells slots h (pc + 1) lo (.int (f i.toNatClampNeg) :: st)) : J p l e R s m args below meth c D A nL Q cells slots h pc lo (.int i :: .ref sc :: st) :=
  fun H locs ls hH hS hl => va_sld E.x E.b X.1 X.lt X.2 hS hin d (kk H locs ls hH hS hl)
theorem j_slen (E : Cx p l s m args meth c cc nL own D A) {sc N : Nat} {f : Nat → Int32} (X : Scr s A sc N f) (d : decode cc pc = .ok (.arraylength, 1))
    (kk : J p l e R s m args below meth c D A nL Q cells slots h (pc + 1) lo (.int (nI N) :: st)) : J p l e R s m args below meth c D A nL Q cells slots h pc lo (.ref sc :: st) :=
  fun H locs ls hH hS hl => va_slen E.x E.b X.1 X.lt X.2 hS d (kk H locs ls hH hS hl)
theorem j_help (E : Cx p l s m args meth c cc nL own D A) {Sc Sm : St} {B B' x mo o od : Nat} {g : Nat → Int64} {gD : Nat → UInt64} (L : LwS Sc Sm B x mo o od g gD h) {ret : Option FieldType} {hh : List (Nat × Nat × Nat × Nat)} {index n f9 L9 mc ms : Nat} {y : MethodName} {bytes : ByteArray} {maxL : Nat} {As rest : List Value} {r : St × Int32}
    (hC : ∀ hC0 : AH, Ok Sc B x hC0 → hC0 o = none → CtrW l D y bytes maxL ret hh f9 L9 mc ms As (hup hC0 o (.inl (.long, (1, .inr (.inl g))))) (fun _ => False) (HP r B' x o))
    (w9 : CWw R s args own index y bytes maxL ret hh f9 L9 mc ms n cells slots rest) (hs9 : (Cond.static y).before args s = true) (hn : As.length = n) (d : decode cc pc = .ok (.invokestatic index, 3)) (hst : st = As.reverse ++ rest)
    (k : ∀ (h' : AH) (g' : Nat → Int64) (_ : r.1.1 0 8 0 = 0 → g' 0 = r.2.toInt64), LwS r.1 Sm B' x mo o od g' gD h' → J p l e R s m args below meth c D A nL Q (cells + mc) (slots + ms) h' (pc + 3) lo (.int (r.1.1 0 8 0) :: rest)) : J p l e R s m args below meth c D A nL Q cells slots h pc lo st := by
  obtain ⟨hc0, hM, ad, ar, ok, e0, M, d1, d2, s2', s3', n3⟩ := L
  have hno : ∀ q, q = o ∨ q = od → hc0 q = none := fun q hq => by
    cases hx : hc0 q with
    | none => rfl
    | some e9 =>
      obtain ⟨-, -, z2, z3⟩ := d1 q e9 hx
      rcases hq with r | r
      · exact absurd r z2
      · exact absurd r z3
  refine j_callSw E (hc := hup hc0 o (.inl (.long, (1, .inr (.inl g))))) (hr := fun q => if q = od then some (.inl (.double, (1, .inr (.inr (.inr (.inl gD)))))) else hM q) (hC hc0 ok (hno _ (Or.inl rfl))) (fun q e9 he => ?_) (fun q e9 he => ?_) w9 hs9 hn d hst (fun v hc' h' hp g2 g3 g4 => ?_)
  · by_cases r : q = o
    · subst r; rw [hup_eq] at he; rw [← he]; exact s2'
    · rw [hup_ne r] at he; exact (d1 q e9 he).1
  · by_cases r2 : q = od
    · rw [if_pos r2] at he; rw [← he, r2]; exact ⟨s3', (hup_ne (fun z => n3 z.symm)).trans (hno _ (Or.inr rfl))⟩
    · rw [if_neg r2] at he
      obtain ⟨z1, z3, z4⟩ := d2 q e9 he
      refine ⟨z1, (hup_ne z3).trans ?_⟩
      cases hx : hc0 q with
      | none => rfl
      | some e8 => rw [(d1 q e8 hx).2.1] at he; cases he
  · obtain ⟨rfl, hc2, g', ok2, i1, i2, i3, i4⟩ := hp
    have hoth : hc' od = none := g4 od _ (if_pos rfl)
    have hMr : ∀ q e9, hM q = some e9 → (fun q => if q = od then some (.inl (.double, (1, .inr (.inr (.inr (.inl gD)))))) else hM q : AH) q = some e9 := fun q e9 he => (if_neg (d2 q e9 he).2.2).trans he
    refine k h' g' i4 ⟨hc2, hM, ad, ar, ok2, e0, M, fun q e9 he => ?_, fun q e9 he => ⟨g3 q e9 (hMr q e9 he), (d2 q e9 he).2⟩, g2 o _ i3, g3 od _ (if_pos rfl), n3⟩
    have w := i1 q e9 he
    refine ⟨g2 q e9 w, ?_, (fun r => by rw [r, i2] at he; cases he), (fun r => by rw [r, hoth] at w; cases w)⟩
    cases hx : hM q with
    | none => rfl
    | some e8 => rw [g4 q e8 (hMr q e8 hx)] at w; cases w
theorem j_helpl (E : Cx p l s m args meth c cc nL own D A) {Sc Sm : St} {B B' x mo o od : Nat} {g : Nat → Int64} {gD : Nat → UInt64} (L : LwS Sc Sm B x mo o od g gD h) {ret : Option FieldType} {hh : List (Nat × Nat × Nat × Nat)} {index n f9 L9 mc ms : Nat} {y : MethodName} {bytes : ByteArray} {maxL : Nat} {As rest : List Value} {r : St × Int64}
    (hC : ∀ hC0 : AH, Ok Sc B x hC0 → hC0 o = none → CtrW l D y bytes maxL ret hh f9 L9 mc ms As (hup hC0 o (.inl (.long, (1, .inr (.inl g))))) (fun _ => False) (HPl r B' x o))
    (w9 : CWw R s args own index y bytes maxL ret hh f9 L9 mc ms n cells slots rest) (hs9 : (Cond.static y).before args s = true) (hn : As.length = n) (d : decode cc pc = .ok (.invokestatic index, 3)) (hst : st = As.reverse ++ rest)
    (k : ∀ (h' : AH) (g' : Nat → Int64) (_ : r.1.1 0 8 0 = 0 → g' 0 = r.2), LwS r.1 Sm B' x mo o od g' gD h' → J p l e R s m args below meth c D A nL Q (cells + mc) (slots + ms) h' (pc + 3) lo (.int (r.1.1 0 8 0) :: rest)) : J p l e R s m args below meth c D A nL Q cells slots h pc lo st := by
  obtain ⟨hc0, hM, ad, ar, ok, e0, M, d1, d2, s2', s3', n3⟩ := L
  have hno : ∀ q, q = o ∨ q = od → hc0 q = none := fun q hq => by
    cases hx : hc0 q with
    | none => rfl
    | some e9 =>
      obtain ⟨-, -, z2, z3⟩ := d1 q e9 hx
      rcases hq with r | r
      · exact absurd r z2
      · exact absurd r z3
  refine j_callSw E (hc := hup hc0 o (.inl (.long, (1, .inr (.inl g))))) (hr := fun q => if q = od then some (.inl (.double, (1, .inr (.inr (.inr (.inl gD)))))) else hM q) (hC hc0 ok (hno _ (Or.inl rfl))) (fun q e9 he => ?_) (fun q e9 he => ?_) w9 hs9 hn d hst (fun v hc' h' hp g2 g3 g4 => ?_)
  · by_cases r : q = o
    · subst r; rw [hup_eq] at he; rw [← he]; exact s2'
    · rw [hup_ne r] at he; exact (d1 q e9 he).1
  · by_cases r2 : q = od
    · rw [if_pos r2] at he; rw [← he, r2]; exact ⟨s3', (hup_ne (fun z => n3 z.symm)).trans (hno _ (Or.inr rfl))⟩
    · rw [if_neg r2] at he
      obtain ⟨z1, z3, z4⟩ := d2 q e9 he
      refine ⟨z1, (hup_ne z3).trans ?_⟩
      cases hx : hc0 q with
      | none => rfl
      | some e8 => rw [(d1 q e8 hx).2.1] at he; cases he
  · obtain ⟨rfl, hc2, g', ok2, i1, i2, i3, i4⟩ := hp
    have hoth : hc' od = none := g4 od _ (if_pos rfl)
    have hMr : ∀ q e9, hM q = some e9 → (fun q => if q = od then some (.inl (.double, (1, .inr (.inr (.inr (.inl gD)))))) else hM q : AH) q = some e9 := fun q e9 he => (if_neg (d2 q e9 he).2.2).trans he
    refine k h' g' i4 ⟨hc2, hM, ad, ar, ok2, e0, M, fun q e9 he => ?_, fun q e9 he => ⟨g3 q e9 (hMr q e9 he), (d2 q e9 he).2⟩, g2 o _ i3, g3 od _ (if_pos rfl), n3⟩
    have w := i1 q e9 he
    refine ⟨g2 q e9 w, ?_, (fun r => by rw [r, i2] at he; cases he), (fun r => by rw [r, hoth] at w; cases w)⟩
    cases hx : hM q with
    | none => rfl
    | some e8 => rw [g4 q e8 (hMr q e8 hx)] at w; cases w
theorem j_helpd (E : Cx p l s m args meth c cc nL own D A) {Sc Sm : St} {B B' x mo o od : Nat} {g : Nat → Int64} {gD : Nat → UInt64} (L : LwS Sc Sm B x mo o od g gD h) {ret : Option FieldType} {hh : List (Nat × Nat × Nat × Nat)} {index n f9 L9 mc ms : Nat} {y : MethodName} {bytes : ByteArray} {maxL : Nat} {As rest : List Value} {S9 : St} {v9 : UInt64}
    (hC : ∀ hC0 : AH, Ok Sc B x hC0 → hC0 od = none → CtrW l D y bytes maxL ret hh f9 L9 mc ms As (hup hC0 od (.inl (.double, (1, .inr (.inr (.inr (.inl gD))))))) (fun _ => False) (HPd S9 v9 B' x od))
    (w9 : CWw R s args own index y bytes maxL ret hh f9 L9 mc ms n cells slots rest) (hs9 : (Cond.static y).before args s = true) (hn : As.length = n) (d : decode cc pc = .ok (.invokestatic index, 3)) (hst : st = As.reverse ++ rest)
    (k : ∀ (h' : AH) (g' : Nat → UInt64) (_ : S9.1 0 8 0 = 0 → g' 0 = v9), LwS S9 Sm B' x mo o od g g' h' → J p l e R s m args below meth c D A nL Q (cells + mc) (slots + ms) h' (pc + 3) lo (.int (S9.1 0 8 0) :: rest)) : J p l e R s m args below meth c D A nL Q cells slots h pc lo st := by
  obtain ⟨hc0, hM, ad, ar, ok, e0, M, d1, d2, s2', s3', n3⟩ := L
  have hno : ∀ q, q = o ∨ q = od → hc0 q = none := fun q hq => by
    cases hx : hc0 q with
    | none => rfl
    | some e9 =>
      obtain ⟨-, -, z2, z3⟩ := d1 q e9 hx
      rcases hq with r | r
      · exact absurd r z2
      · exact absurd r z3
  refine j_callSw E (hc := hup hc0 od (.inl (.double, (1, .inr (.inr (.inr (.inl gD))))))) (hr := fun q => if q = o then some (.inl (.long, (1, .inr (.inl g)))) else hM q) (hC hc0 ok (hno _ (Or.inr rfl))) (fun q e9 he => ?_) (fun q e9 he => ?_) w9 hs9 hn d hst (fun v hc' h' hp g2 g3 g4 => ?_)
  · by_cases r : q = od
    · subst r; rw [hup_eq] at he; rw [← he]; exact s3'
    · rw [hup_ne r] at he; exact (d1 q e9 he).1
  · by_cases r2 : q = o
    · rw [if_pos r2] at he; rw [← he, r2]; exact ⟨s2', (hup_ne n3).trans (hno _ (Or.inl rfl))⟩
    · rw [if_neg r2] at he
      obtain ⟨z1, z3, z4⟩ := d2 q e9 he
      refine ⟨z1, (hup_ne z4).trans ?_⟩
      cases hx : hc0 q with
      | none => rfl
      | some e8 => rw [(d1 q e8 hx).2.1] at he; cases he
  · obtain ⟨rfl, hc2, g', ok2, i1, i2, i3, i4⟩ := hp
    have hoth : hc' o = none := g4 o _ (if_pos rfl)
    have hMr : ∀ q e9, hM q = some e9 → (fun q => if q = o then some (.inl (.long, (1, .inr (.inl g)))) else hM q : AH) q = some e9 := fun q e9 he => (if_neg (d2 q e9 he).2.1).trans he
    refine k h' g' i4 ⟨hc2, hM, ad, ar, ok2, e0, M, fun q e9 he => ?_, fun q e9 he => ⟨g3 q e9 (hMr q e9 he), (d2 q e9 he).2⟩, g3 o _ (if_pos rfl), g2 od _ i3, n3⟩
    have w := i1 q e9 he
    refine ⟨g2 q e9 w, ?_, (fun r => by rw [r, hoth] at w; cases w), (fun r => by rw [r, i2] at he; cases he)⟩
    cases hx : hM q with
    | none => rfl
    | some e8 => rw [g4 q e8 (hMr q e8 hx)] at w; cases w
/-- a call of the model -/
theorem j_mod (E : Cx p l s m args meth c cc nL own D A) {Sc Sm S9 : St} {B x mo o od : Nat} {g : Nat → Int64} {gD : Nat → UInt64} (L : LwS Sc Sm B x mo o od g gD h) {ret : Option FieldType} {index n f9 L9 mc ms : Nat} {y : MethodName} {bytes : ByteArray} {maxL : Nat} {As rest : List Value} {v9 : Value}
    (hC : ∀ (hM : AH) (ad : Nat → Nat) (ar : Nat → Nat → Nat), ad 0 = mo → Mdl Sm ad ar hM → Ctr l D y bytes maxL ret f9 L9 mc ms (.ref mo :: As) hM (fun _ => False) (fun r9 h' => r9 = some v9 ∧ Mdl S9 ad ar h'))
    (w9 : CW R s args own index y bytes maxL ret f9 L9 mc ms n cells slots rest) (hin : (Cond.instanceMethod y).before args s = true) (hse : (Cond.selects y.cls y y).before args s = true) (hcl : jcl[8]? = some (y.cls, TX8, 34)) (hn : As.length = n) (d : decode cc pc = .ok (.invokevirtual index, 3)) (hst : st = As.reverse ++ .ref mo :: rest)
    (k : ∀ h' : AH, LwS Sc S9 B x mo o od g gD h' → J p l e R s m args below meth c D A nL Q (cells + mc) (slots + ms) h' (pc + 3) lo (v9 :: rest)) : J p l e R s m args below meth c D A nL Q cells slots h pc lo st := by
  obtain ⟨hc0, hM, ad, ar, ok, e0, M, d1, d2, s2', s3', n3⟩ := L
  have hno : ∀ q, q = o ∨ q = od → hM q = none := fun q hq => by
    cases hx : hM q with
    | none => rfl
    | some e9 =>
      obtain ⟨-, z2, z3⟩ := d2 q e9 hx
      rcases hq with r | r
      · exact absurd r z2
      · exact absurd r z3
  refine j_callVr E (hc := hM) (hr := fun q => if q = o then some (.inl (.long, (1, .inr (.inl g)))) else if q = od then some (.inl (.double, (1, .inr (.inr (.inr (.inl gD)))))) else hc0 q) (hC hM ad ar e0 M) (fun q e9 he => (d2 q e9 he).1) (fun q e9 he => ?_) w9 hin hse (by rw [← e0]; exact (d2 _ _ M.o).1) hcl hn d hst (fun v hc' h' hp g2 g3 g4 => ?_)
  · by_cases r2 : q = o
    · rw [if_pos r2] at he; rw [← he, r2]; exact ⟨s2', hno _ (Or.inl rfl)⟩
    · rw [if_neg r2] at he
      by_cases r3 : q = od
      · rw [if_pos r3] at he; rw [← he, r3]; exact ⟨s3', hno _ (Or.inr rfl)⟩
      · rw [if_neg r3] at he
        exact ⟨(d1 q e9 he).1, (d1 q e9 he).2.1⟩
  · obtain ⟨rfl, M2⟩ := hp
    have hCr : ∀ q e9, hc0 q = some e9 → (fun q => if q = o then some (.inl (.long, (1, .inr (.inl g)))) else if q = od then some (.inl (.double, (1, .inr (.inr (.inr (.inl gD)))))) else hc0 q : AH) q = some e9 := fun q e9 he => (if_neg (d1 q e9 he).2.2.1).trans ((if_neg (d1 q e9 he).2.2.2).trans he)
    have t2 : hc' o = none := g4 o _ (if_pos rfl)
    have t3 : hc' od = none := g4 od _ ((if_neg (fun z => n3 z.symm)).trans (if_pos rfl))
    exact k h' ⟨hc0, hc', ad, ar, ok, e0, M2, fun q e9 he => ⟨g3 q e9 (hCr q e9 he), g4 q e9 (hCr q e9 he), (d1 q e9 he).2.2⟩, fun q e9 he => ⟨g2 q e9 he, (fun r => by rw [r, t2] at he; cases he), (fun r => by rw [r, t3] at he; cases he)⟩, g3 o _ (if_pos rfl), g3 od _ ((if_neg (fun z => n3 z.symm)).trans (if_pos rfl)), n3⟩
end JL
