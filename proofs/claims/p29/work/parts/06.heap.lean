/-! rows over the abstract heap: fields, arrays, new cells -/
def fup {α : Type} (f : Nat → α) (k : Nat) (x : α) : Nat → α := fun j => if j = k then x else f j
theorem fup_eq {α : Type} {f : Nat → α} {k : Nat} {x : α} : fup f k x k = x := if_pos rfl
theorem fup_ne {α : Type} {f : Nat → α} {k j : Nat} {x : α} (h : j ≠ k) : fup f k x j = f j := if_neg h
section JH
variable {p : Program} {l : Launch} {e : Env} {R : Room} {s : State} {m : MethodId} {args : Array Value} {below : List Frame} {meth : Method} {c : Code} {cc : ByteArray} {nL : Nat} {own : String} {D : va_G} {A : Nat → Prop} {Q : State → Prop} {cells slots : Nat} {h : AH} {pc : Nat} {lo : List (Nat × Value)} {st : List Value}
/-- the words of a class's fields -/
abbrev uOK (C : String) (T : u_T) (N : Nat) : Prop := ∀ w ∈ u_ws C T N, w ∈ lw_tbl ∧ tbOK w = true
theorem Cx.u (E : Cx p l s m args meth c cc nL own D A) {C : String} {T : u_T} {N : Nat} (hin : uOK C T N) : ∀ w ∈ u_ws C T N, w.before args s = true := fun w hw => E.tb w (hin w hw).1 (hin w hw).2 args
theorem j_get (E : Cx p l s m args meth c cc nL own D A) {C : String} {T : u_T} {N ci index a : Nat} {fs : List Value} {v : Value} (hc : h a = some (.inr (ci, fs))) (hcl : jcl[ci]? = some (C, T, N)) (k : Nat) (hk : k < N) (hin : uOK C T N) (hlink : (Cond.fieldLink own index (T k).1 (T k).2.1 (T k).2.2.1).before args s = true) (hv : fs[k]? = some v) (d : decode cc pc = .ok (.getfield index, 3))
    (kk : J p l e R s m args below meth c D A nL Q cells slots h (pc + 3) lo (v :: st)) : J p l e R s m args below meth c D A nL Q cells slots h pc lo (.ref a :: st) := by
  intro H locs ls hH hS hl
  obtain ⟨-, r, h1, cell, q1, q2, q3, q4⟩ := hH a _ hc
  have hr : r = (C, T, N) := Option.some.inj (h1.symm.trans hcl)
  subst hr
  obtain ⟨hSl, hfc, kC, hkC, hkind⟩ := E.K.1 ci _ hcl
  obtain ⟨cf, kf, fi, f, hi, hsl⟩ := hSl k hk
  refine W.getf E.x E.b E.ow hlink hi (u_facts hfc hkC (u_lays (E.u hin) (fun _ h => h) hk) hi).1 q1 (by rw [q3]; exact fun h => by cases h) (v := v) ?_ rfl rfl d (kk H locs ls hH hS hl)
  rw [hsl, q4 k hk]
  simp [vp_V, hv]
theorem j_put (E : Cx p l s m args meth c cc nL own D A) {C : String} {T : u_T} {N ci index a : Nat} {fs : List Value} {v : Value} {ty : FieldType} (hc : h a = some (.inr (ci, fs))) (hcl : jcl[ci]? = some (C, T, N)) (k : Nat) (hk : k < N) (hin : uOK C T N) (ty0 : Nat → FieldType) (hty : ∀ k, k < N → parseFieldDescriptor (T k).2.2.1 = some (ty0 k)) (hnm : ∀ a, a < N → ∀ b, b < N → a ≠ b → (T a).2.1 ≠ (T b).2.1) (hlink : (Cond.fieldLink own index (T k).1 (T k).2.1 (T k).2.2.1).before args s = true) (hfin : (T k).2.2.2 = false) (hd : ty0 k = ty) (hn : narrow ty v = v) (hfit : fits ty v = true) (hl0 : k < fs.length) (d : decode cc pc = .ok (.putfield index, 3))
    (kk : J p l e R s m args below meth c D A nL Q cells slots (hup h a (.inr (ci, fs.set k v))) (pc + 3) lo st) : J p l e R s m args below meth c D A nL Q cells slots h pc lo (v :: .ref a :: st) := by
  intro H locs ls hH hS hl
  have hts := E.u hin
  have hap := va_apart (own := own) hts (fun _ h => h) ty0 hty hnm E.K hcl
  obtain ⟨hA, r, h1, cell, q1, q2, q3, q4⟩ := hH a _ hc
  have hr : r = (C, T, N) := Option.some.inj (h1.symm.trans hcl)
  subst hr
  obtain ⟨hSl, hfc, kC, hkC, hkind⟩ := E.K.1 ci _ hcl
  obtain ⟨cf, kf, fi, f, hi, hsl⟩ := hSl k hk
  have hlay := hts _ (u_in_lay hk)
  unfold u_lay at hlay
  rw [if_neg (by rw [hfin]; decide)] at hlay
  have hst := (u_facts hfc hkC (u_lays hts (fun _ h => h) hk) hi).1
  have h6 := u_store hfc hkC hkind hlay hi (by rw [hty k hk, hd]) hn hfit
  refine W.putK E.x E.b (f := f) ⟨E.ow, hlink, ⟨_, _, _, hi⟩, hst⟩ (by rw [q2]; exact h6) q1 q3 (by rw [hsl]; exact k2_hasslot (q4 k hk)) rfl rfl d fun H' e1 e2 e3 => ?_
  rw [hsl] at e1 ⊢
  exact kk H' _ ls (hH.put hc ⟨_, hcl, t_OB.to (V := updV (vp_V fs) k v) ⟨_, e1, q2, q3, t_set q4 hap hk v⟩ (fun j _ => vp_updV_set hl0 v j)⟩ e3) (hS.put e2 e3 hA) hl
theorem j_putF (E : Cx p l s m args meth c cc nL own D A) {C : String} {T : u_T} {N ci index a : Nat} {fs : List Value} {v : Value} {ty : FieldType} (hc : h a = some (.inr (ci, fs))) (hcl : jcl[ci]? = some (C, T, N)) (k : Nat) (hk : k < N) (hin : uOK C T N) (ty0 : Nat → FieldType) (hty : ∀ k, k < N → parseFieldDescriptor (T k).2.2.1 = some (ty0 k)) (hnm : ∀ a, a < N → ∀ b, b < N → a ≠ b → (T a).2.1 ≠ (T b).2.1) (hlink : (Cond.fieldLink own index (T k).1 (T k).2.1 (T k).2.2.1).before args s = true) (hfin : (T k).2.2.2 = true) (hin2 : meth.name = "<init>") (hdecl : (T k).1 = own) (hd : ty0 k = ty) (hn : narrow ty v = v) (hfit : fits ty v = true) (hl0 : k < fs.length) (d : decode cc pc = .ok (.putfield index, 3))
    (kk : J p l e R s m args below meth c D A nL Q cells slots (hup h a (.inr (ci, fs.set k v))) (pc + 3) lo st) : J p l e R s m args below meth c D A nL Q cells slots h pc lo (v :: .ref a :: st) := by
  intro H locs ls hH hS hl
  have hts := E.u hin
  have hap := va_apart (own := own) hts (fun _ h => h) ty0 hty hnm E.K hcl
  obtain ⟨hA, r, h1, cell, q1, q2, q3, q4⟩ := hH a _ hc
  have hr : r = (C, T, N) := Option.some.inj (h1.symm.trans hcl)
  subst hr
  obtain ⟨hSl, hfc, kC, hkC, hkind⟩ := E.K.1 ci _ hcl
  obtain ⟨cf, kf, fi, f, hi, hsl⟩ := hSl k hk
  have hlay := hts _ (u_in_lay hk)
  unfold u_lay at hlay
  rw [if_pos hfin] at hlay
  have hst := (u_facts hfc hkC (u_lays hts (fun _ h => h) hk) hi).1
  have hcf : m.cls = cf := by
    obtain ⟨_, _, c', _, _, _, -, -, hf', -, -, -, hown2, -⟩ := Cond.laysFinal_spec hlay
    have e1 : c' = cf := by have := hi.symm.trans hf'; simp at this; exact this.1.symm
    rw [hdecl] at hown2
    rw [← e1]; exact Option.some.inj (E.ow.symm.trans hown2)
  have h6 := u_fits hfc hkC hkind (Or.inr hlay) hi (by rw [hty k hk, hd]) hn hfit
  refine W.putFinK E.x E.b E.ow hlink hi hst hcf hin2 (by rw [q2]; exact h6) q1 q3 (by rw [hsl]; exact k2_hasslot (q4 k hk)) rfl rfl d fun H' e1 e2 e3 => ?_
  rw [hsl] at e1 ⊢
  exact kk H' _ ls (hH.put hc ⟨_, hcl, t_OB.to (V := updV (vp_V fs) k v) ⟨_, e1, q2, q3, t_set q4 hap hk v⟩ (fun j _ => vp_updV_set hl0 v j)⟩ e3) (hS.put e2 e3 hA) hl
theorem j_iald (E : Cx p l s m args meth c cc nL own D A) {a n : Nat} {f : Nat → Int32} {i : Int32} (hc : h a = some (.inl (.int, (n, .inl f)))) (hin : vp_in i n) (d : decode cc pc = .ok (.iaload, 1))
    (kk : J p l e R s m args below meth c D A nL Q cells slots h (pc + 1) lo (.int (f i.toNatClampNeg) :: st)) : J p l e R s m args below meth c D A nL Q cells slots h pc lo (.int i :: .ref a :: st) := by
  intro H locs ls hH hS hl
  obtain ⟨-, cA, hT, -, hq⟩ := hH a _ hc
  have hlt : i.toNatClampNeg < n := Nat.not_le.mp fun q => hin (Or.inr q)
  exact W.iald (v := .int (f i.toNatClampNeg)) E.x E.b hq (hT n (fun j => .int (f j))) (fun q => by cases q) (by show ¬ (i < 0 ∨ (arrV _ _ _).slots.size ≤ _); rw [arrV_size]; exact hin) (by show (arrV _ _ _).slots[_]? = _; rw [arrV_read _ _ hlt]) rfl rfl d (kk H locs ls hH hS hl)
theorem j_zald (E : Cx p l s m args meth c cc nL own D A) {a n : Nat} {f : Nat → Int32} {i : Int32} (hc : h a = some (.inl (.boolean, (n, .inl f)))) (hin : vp_in i n) (d : decode cc pc = .ok (.baload, 1))
    (kk : J p l e R s m args below meth c D A nL Q cells slots h (pc + 1) lo (.int (f i.toNatClampNeg) :: st)) : J p l e R s m args below meth c D A nL Q cells slots h pc lo (.int i :: .ref a :: st) := by
  intro H locs ls hH hS hl
  obtain ⟨-, cA, hT, -, hq⟩ := hH a _ hc
  have hlt : i.toNatClampNeg < n := Nat.not_le.mp fun q => hin (Or.inr q)
  exact W.zald (v := .int (f i.toNatClampNeg)) E.x E.b hq (hT n (fun j => .int (f j))) (fun q => by cases q) (by show ¬ (i < 0 ∨ (arrV _ _ _).slots.size ≤ _); rw [arrV_size]; exact hin) (by show (arrV _ _ _).slots[_]? = _; rw [arrV_read _ _ hlt]) rfl rfl d (kk H locs ls hH hS hl)
theorem j_lald (E : Cx p l s m args meth c cc nL own D A) {a n : Nat} {f : Nat → Int64} {i : Int32} (hc : h a = some (.inl (.long, (n, .inr (.inl f))))) (hin : vp_in i n) (d : decode cc pc = .ok (.laload, 1))
    (kk : J p l e R s m args below meth c D A nL Q cells slots h (pc + 1) lo (.long (f i.toNatClampNeg) :: st)) : J p l e R s m args below meth c D A nL Q cells slots h pc lo (.int i :: .ref a :: st) := by
  intro H locs ls hH hS hl
  obtain ⟨-, cA, hT, -, hq⟩ := hH a _ hc
  have hlt : i.toNatClampNeg < n := Nat.not_le.mp fun q => hin (Or.inr q)
  exact W.lald (v := .long (f i.toNatClampNeg)) E.x E.b hq (hT n (fun j => .long (f j))) (fun q => by cases q) (by show ¬ (i < 0 ∨ (arrV _ _ _).slots.size ≤ _); rw [arrV_size]; exact hin) (by show (arrV _ _ _).slots[_]? = _; rw [arrV_read _ _ hlt]) rfl rfl d (kk H locs ls hH hS hl)
theorem j_dald (E : Cx p l s m args meth c cc nL own D A) {a n : Nat} {f : Nat → UInt64} {i : Int32} (hc : h a = some (.inl (.double, (n, .inr (.inr (.inr (.inl f))))))) (hin : vp_in i n) (d : decode cc pc = .ok (.daload, 1))
    (kk : J p l e R s m args below meth c D A nL Q cells slots h (pc + 1) lo (.double (f i.toNatClampNeg) :: st)) : J p l e R s m args below meth c D A nL Q cells slots h pc lo (.int i :: .ref a :: st) := by
  intro H locs ls hH hS hl
  obtain ⟨-, cA, hT, -, hq⟩ := hH a _ hc
  have hlt : i.toNatClampNeg < n := Nat.not_le.mp fun q => hin (Or.inr q)
  exact W.dald (v := .double (f i.toNatClampNeg)) E.x E.b hq (hT n (fun j => .double (f j))) (fun q => by cases q) (by show ¬ (i < 0 ∨ (arrV _ _ _).slots.size ≤ _); rw [arrV_size]; exact hin) (by show (arrV _ _ _).slots[_]? = _; rw [arrV_read _ _ hlt]) rfl rfl d (kk H locs ls hH hS hl)
theorem j_aald (E : Cx p l s m args meth c cc nL own D A) {a n : Nat} {f : Nat → Option Nat} {ty : FieldType} {i : Int32} (hc : h a = some (.inl (ty, (n, .inr (.inr (.inr (.inr f))))))) (hty : ty.isReference = true) (hin : vp_in i n) (d : decode cc pc = .ok (.aaload, 1))
    (kk : J p l e R s m args below meth c D A nL Q cells slots h (pc + 1) lo (va_rf (f i.toNatClampNeg) :: st)) : J p l e R s m args below meth c D A nL Q cells slots h pc lo (.int i :: .ref a :: st) := by
  intro H locs ls hH hS hl
  obtain ⟨-, cA, hT, -, hq⟩ := hH a _ hc
  have hlt : i.toNatClampNeg < n := Nat.not_le.mp fun q => hin (Or.inr q)
  exact W.aald (v := va_rf (f i.toNatClampNeg)) E.x E.b hq (hT n (fun j => va_rf (f j))) hty (fun q => by cases q) (by show ¬ (i < 0 ∨ (arrV _ _ _).slots.size ≤ _); rw [arrV_size]; exact hin) (by show (arrV _ _ _).slots[_]? = _; rw [arrV_read _ _ hlt]) rfl rfl d (kk H locs ls hH hS hl)
theorem j_iast (E : Cx p l s m args meth c cc nL own D A) {a n : Nat} {f : Nat → Int32} {i : Int32} {x : Int32} (hc : h a = some (.inl (.int, (n, .inl f)))) (hin : vp_in i n) (d : decode cc pc = .ok (.iastore, 1))
    (kk : J p l e R s m args below meth c D A nL Q cells slots (hup h a (.inl (.int, (n, .inl (fup f i.toNatClampNeg x))))) (pc + 1) lo st) : J p l e R s m args below meth c D A nL Q cells slots h pc lo (.int x :: .int i :: .ref a :: st) := by
  intro H locs ls hH hS hl
  obtain ⟨hA, cA, hT, hT2, hq⟩ := hH a _ hc
  refine W.iast E.x E.b hq (hT n (fun j => .int (f j))) (fun q => by cases q) (by show ¬ (i < 0 ∨ (arrV _ _ _).slots.size ≤ _); rw [arrV_size]; exact hin) rfl rfl d fun H1 e1 z oq => ?_
  refine kk H1 _ ls (hH.put hc ⟨cA, hT, hT2, ?_⟩ oq) (hS.put z oq hA) hl
  show H1[a]? = some (vp_cell _ _)
  rw [e1]
  rw [vp_cell_i, vp_cell_i, arrV_store]
  congr 2
  funext q
  by_cases hq2 : q = i.toNatClampNeg
  · subst hq2
    simp [updV, fup]
  · simp [updV, fup, hq2]
theorem j_zast (E : Cx p l s m args meth c cc nL own D A) {a n : Nat} {f : Nat → Int32} {i : Int32} {x : Int32} (hc : h a = some (.inl (.boolean, (n, .inl f)))) (hin : vp_in i n) (hx : narrow .boolean (.int x) = .int x) (d : decode cc pc = .ok (.bastore, 1))
    (kk : J p l e R s m args below meth c D A nL Q cells slots (hup h a (.inl (.boolean, (n, .inl (fup f i.toNatClampNeg x))))) (pc + 1) lo st) : J p l e R s m args below meth c D A nL Q cells slots h pc lo (.int x :: .int i :: .ref a :: st) := by
  intro H locs ls hH hS hl
  obtain ⟨hA, cA, hT, hT2, hq⟩ := hH a _ hc
  refine W.zast E.x E.b hq (hT n (fun j => .int (f j))) (fun q => by cases q) (by show ¬ (i < 0 ∨ (arrV _ _ _).slots.size ≤ _); rw [arrV_size]; exact hin) rfl rfl d fun H1 e1 z oq => ?_
  refine kk H1 _ ls (hH.put hc ⟨cA, hT, hT2, ?_⟩ oq) (hS.put z oq hA) hl
  show H1[a]? = some (vp_cell _ _)
  rw [e1, hx]
  rw [vp_cell_i, vp_cell_i, arrV_store]
  congr 2
  funext q
  by_cases hq2 : q = i.toNatClampNeg
  · subst hq2
    simp [updV, fup]
  · simp [updV, fup, hq2]
theorem j_last (E : Cx p l s m args meth c cc nL own D A) {a n : Nat} {f : Nat → Int64} {i : Int32} {x : Int64} (hc : h a = some (.inl (.long, (n, .inr (.inl f))))) (hin : vp_in i n) (d : decode cc pc = .ok (.lastore, 1))
    (kk : J p l e R s m args below meth c D A nL Q cells slots (hup h a (.inl (.long, (n, .inr (.inl (fup f i.toNatClampNeg x)))))) (pc + 1) lo st) : J p l e R s m args below meth c D A nL Q cells slots h pc lo (.long x :: .int i :: .ref a :: st) := by
  intro H locs ls hH hS hl
  obtain ⟨hA, cA, hT, hT2, hq⟩ := hH a _ hc
  refine W.last E.x E.b hq (hT n (fun j => .long (f j))) (fun q => by cases q) (by show ¬ (i < 0 ∨ (arrV _ _ _).slots.size ≤ _); rw [arrV_size]; exact hin) rfl rfl d fun H1 e1 z oq => ?_
  refine kk H1 _ ls (hH.put hc ⟨cA, hT, hT2, ?_⟩ oq) (hS.put z oq hA) hl
  show H1[a]? = some (vp_cell _ _)
  rw [e1]
  rw [vp_cell_l, vp_cell_l, arrV_store]
  congr 2
  funext q
  by_cases hq2 : q = i.toNatClampNeg
  · subst hq2
    simp [updV, fup]
  · simp [updV, fup, hq2]
theorem j_dast (E : Cx p l s m args meth c cc nL own D A) {a n : Nat} {f : Nat → UInt64} {i : Int32} {x : UInt64} (hc : h a = some (.inl (.double, (n, .inr (.inr (.inr (.inl f))))))) (hin : vp_in i n) (d : decode cc pc = .ok (.dastore, 1))
    (kk : J p l e R s m args below meth c D A nL Q cells slots (hup h a (.inl (.double, (n, .inr (.inr (.inr (.inl (fup f i.toNatClampNeg x)))))))) (pc + 1) lo st) : J p l e R s m args below meth c D A nL Q cells slots h pc lo (.double x :: .int i :: .ref a :: st) := by
  intro H locs ls hH hS hl
  obtain ⟨hA, cA, hT, hT2, hq⟩ := hH a _ hc
  refine W.dast E.x E.b hq (hT n (fun j => .double (f j))) (fun q => by cases q) (by show ¬ (i < 0 ∨ (arrV _ _ _).slots.size ≤ _); rw [arrV_size]; exact hin) rfl rfl d fun H1 e1 z oq => ?_
  refine kk H1 _ ls (hH.put hc ⟨cA, hT, hT2, ?_⟩ oq) (hS.put z oq hA) hl
  show H1[a]? = some (vp_cell _ _)
  rw [e1]
  rw [vp_cell_d, vp_cell_d, arrV_store]
  congr 2
  funext q
  by_cases hq2 : q = i.toNatClampNeg
  · subst hq2
    simp [updV, fup]
  · simp [updV, fup, hq2]
theorem j_aast (E : Cx p l s m args meth c cc nL own D A) {a n v ci : Nat} {vs : List Value} {f : Nat → Option Nat} {C : String} {T : u_T} {N : Nat} {i : Int32} (hc : h a = some (.inl (.object C, (n, .inr (.inr (.inr (.inr f))))))) (hv : h v = some (.inr (ci, vs))) (hcl : jcl[ci]? = some (C, T, N)) (hin : vp_in i n) (d : decode cc pc = .ok (.aastore, 1))
    (kk : J p l e R s m args below meth c D A nL Q cells slots (hup h a (.inl (.object C, (n, .inr (.inr (.inr (.inr (fup f i.toNatClampNeg (some v))))))))) (pc + 1) lo st) : J p l e R s m args below meth c D A nL Q cells slots h pc lo (.ref v :: .int i :: .ref a :: st) := by
  intro H locs ls hH hS hl
  obtain ⟨hA, cA, hT, hT2, hq⟩ := hH a _ hc
  obtain ⟨-, r', hr', cellV, g1, g2, g3, -⟩ := hH v _ hv
  have hlt : i.toNatClampNeg < n := Nat.not_le.mp fun q => hin (Or.inr q)
  have h0 : ¬ i < 0 := fun q => hin (Or.inl q)
  have hcls := (E.K.1 ci _ hcl).2
  obtain ⟨kA, comp, k1, k2, k3, -⟩ := id hT2
  have hcomp : comp = D.1 ci := Option.some.inj (k3.symm.trans hcls.1)
  subst hcomp
  obtain ⟨kC, hkC, -⟩ := hcls.2
  refine W.aast E.x E.b hq (fun q h => by cases h) (fun h => by cases h) k1 k2 rfl hkC ⟨h0, by show _ < (arrV _ _ _).slots.size; rw [arrV_size]; exact hlt⟩ g1 (fun q h => by rw [g3] at h; cases h) (by rw [g2]; exact hkC) (by rw [g2]; exact va_assign hcls) rfl rfl d fun H1 e1 z oq => ?_
  refine kk H1 _ ls (hH.put hc ⟨cA, hT, hT2, ?_⟩ oq) (hS.put z oq hA) hl
  show H1[a]? = some (vp_cell _ _)
  rw [e1]
  rw [vp_cell_q, vp_cell_q, arrV_store]
  congr 2
  funext q
  by_cases hq2 : q = i.toNatClampNeg
  · subst hq2
    simp [updV, fup, va_rf]
  · simp [updV, fup, hq2]
theorem j_aastN (E : Cx p l s m args meth c cc nL own D A) {a n : Nat} {f : Nat → Option Nat} {C : String} {i : Int32} (hc : h a = some (.inl (.object C, (n, .inr (.inr (.inr (.inr f))))))) (hin : vp_in i n) (d : decode cc pc = .ok (.aastore, 1))
    (kk : J p l e R s m args below meth c D A nL Q cells slots (hup h a (.inl (.object C, (n, .inr (.inr (.inr (.inr (fup f i.toNatClampNeg none)))))))) (pc + 1) lo st) : J p l e R s m args below meth c D A nL Q cells slots h pc lo (.null :: .int i :: .ref a :: st) := by
  intro H locs ls hH hS hl
  obtain ⟨hA, cA, hT, hT2, hq⟩ := hH a _ hc
  refine va_WaastN (C := C) E.x E.b hq (hT n (fun j => va_rf (f j))) (fun h => by cases h) (by show ¬ (i < 0 ∨ (arrV _ _ _).slots.size ≤ _); rw [arrV_size]; exact hin) rfl rfl d fun H1 e1 z oq => ?_
  refine kk H1 _ ls (hH.put hc ⟨cA, hT, hT2, ?_⟩ oq) (hS.put z oq hA) hl
  show H1[a]? = some (vp_cell _ _)
  rw [e1]
  rw [vp_cell_q, vp_cell_q, arrV_store]
  congr 2
  funext q
  by_cases hq2 : q = i.toNatClampNeg
  · subst hq2
    simp [updV, fup, va_rf]
  · simp [updV, fup, hq2]
theorem j_alen (E : Cx p l s m args meth c cc nL own D A) {a : Nat} {ty : FieldType} {x : vp_A} {v : Int32} (hc : h a = some (.inl (ty, x))) (hv : Int32.ofNat x.1 = v) (d : decode cc pc = .ok (.arraylength, 1))
    (kk : J p l e R s m args below meth c D A nL Q cells slots h (pc + 1) lo (.int v :: st)) : J p l e R s m args below meth c D A nL Q cells slots h pc lo (.ref a :: st) := by
  intro H locs ls hH hS hl
  obtain ⟨-, cA, hT, -, hq⟩ := hH a _ hc
  subst hv
  have K := kk H locs ls hH hS hl
  obtain ⟨n, f | f | f | f | f⟩ := x
  · exact W.alen (n := Int32.ofNat n) E.x E.b hq (hT n (fun j => .int (f j))) (by rw [vp_cell_i, arrV_size] <;> rfl) rfl rfl d K
  · exact W.alen (n := Int32.ofNat n) E.x E.b hq (hT n (fun j => .long (f j))) (by rw [vp_cell_l, arrV_size] <;> rfl) rfl rfl d K
  · exact W.alen (n := Int32.ofNat n) E.x E.b hq (hT n (fun j => .float (f j))) (by rw [vp_cell_f, arrV_size] <;> rfl) rfl rfl d K
  · exact W.alen (n := Int32.ofNat n) E.x E.b hq (hT n (fun j => .double (f j))) (by rw [vp_cell_d, arrV_size] <;> rfl) rfl rfl d K
  · exact W.alen (n := Int32.ofNat n) E.x E.b hq (hT n (fun j => va_rf (f j))) (by rw [vp_cell_q, arrV_size] <;> rfl) rfl rfl d K
theorem j_new (E : Cx p l s m args meth c cc nL own D A) {C : String} {T : u_T} {N ci index : Nat} {fs : List Value} (hcl : jcl[ci]? = some (C, T, N)) (hin : uOK C T N) (ty : Nat → FieldType) (hty : ∀ k, k < N → parseFieldDescriptor (T k).2.2.1 = some (ty k)) (hcli : (Cond.classLink own index C).before args s = true) (hinst : (Cond.instantiable C N).before args s = true) (hini : (Cond.initialized C).before args s = true) (hfs : ∀ j, j < N → defaultValue (ty j) = vp_V fs j) (hr : cells + 1 ≤ R.cells ∧ slots + N ≤ R.slots) (d : decode cc pc = .ok (.new index, 3))
    (kk : ∀ q : Nat, h q = none → J p l e R s m args below meth c D A nL Q (cells + 1) (slots + N) (hup h q (.inr (ci, fs))) (pc + 3) lo (.ref q :: st)) : J p l e R s m args below meth c D A nL Q cells slots h pc lo st := by
  intro H locs ls hH hS hl
  have hKn := E.K.1 ci _ hcl
  refine W.newcK E.x E.b E.ow hcli hinst hini rfl d hr.1 hr.2 hKn.2.1 rfl fun H1 kC hkC e1 z1 o1 => ?_
  refine kk H.size (hH.free (Nat.le_refl _)) H1 locs ls (hH.push rfl (E.hA _ hS.1) ⟨_, hcl, (u_born ty (E.u hin) (fun _ h => h) hKn hkC e1 hty).to hfs⟩ (fun q hq => o1 q hq)) ⟨Nat.le_trans hS.1 (by omega), fun x h1 h2 => (o1 x (Nat.lt_of_lt_of_le h1 hS.1)).trans (hS.2.1 x h1 h2), hS.2.2⟩ hl
theorem j_newa (E : Cx p l s m args meth c cc nL own D A) {atype : ArrayType} {ty : FieldType} {a0 : vp_A} {n : Int32} {N : Nat} (harr : (Cond.arrayClass (newarray.typeOf atype)).before args s = true) (hty : newarray.typeOf atype = ty) (ha : ∀ cA : ClassId, vp_cell cA a0 = arrV cA N (fun _ => defaultValue ty)) (hn : ¬ n < 0) (hN : n.toNatClampNeg = N) (hbytes : N * componentBytes ty ≤ 536870912) (hr : cells + 1 ≤ R.cells ∧ slots + N ≤ R.slots) (d : decode cc pc = .ok (.newarray atype, 2))
    (kk : ∀ q : Nat, h q = none → J p l e R s m args below meth c D A nL Q (cells + 1) (slots + N) (hup h q (.inl (ty, a0))) (pc + 2) lo (.ref q :: st)) : J p l e R s m args below meth c D A nL Q cells slots h pc lo (.int n :: st) := by
  intro H locs ls hH hS hl
  subst hty
  refine va_newaK E.x E.b harr rfl d rfl hn hN hbytes hr.1 hr.2 rfl fun H1 cA e1 z1 o1 hAr hNm => ?_
  refine kk H.size (hH.free (Nat.le_refl _)) H1 locs ls (hH.push rfl (E.hA _ hS.1) ⟨cA, hAr, by cases atype <;> exact hNm, ?_⟩ (fun q hq => o1 q hq)) ⟨Nat.le_trans hS.1 (by omega), fun x h1 h2 => (o1 x (Nat.lt_of_lt_of_le h1 hS.1)).trans (hS.2.1 x h1 h2), hS.2.2⟩ hl
  show H1[H.size]? = some (vp_cell _ _)
  rw [ha]
  exact e1
theorem j_newq (E : Cx p l s m args meth c cc nL own D A) {C : String} {index : Nat} {n : Int32} {N : Nat} (hclink : (Cond.classLink own index C).before args s = true) (hover : (Cond.arrayOver (.object C)).before args s = true) (hn : ¬ n < 0) (hN : n.toNatClampNeg = N) (hbytes : N * 4 ≤ 536870912) (hr : cells + 1 ≤ R.cells ∧ slots + N ≤ R.slots) (d : decode cc pc = .ok (.anewarray index, 3))
    (kk : ∀ q : Nat, h q = none → J p l e R s m args below meth c D A nL Q (cells + 1) (slots + N) (hup h q (.inl (.object C, (N, .inr (.inr (.inr (.inr (fun _ => none)))))))) (pc + 3) lo (.ref q :: st)) : J p l e R s m args below meth c D A nL Q cells slots h pc lo (.int n :: st) := by
  intro H locs ls hH hS hl
  subst hN
  refine W.anew E.x E.b E.ow hclink hover rfl d rfl hn hbytes hr.1 hr.2 fun cA kA comp f1 f2 f3 f4 => ?_
  generalize hH1 : H.push ({ cls := cA, slots := Array.replicate n.toNatClampNeg .null, vm := .none } : Cell) = H1
  have z1 : H1.size = H.size + 1 := by rw [← hH1, Array.size_push]
  have e1 : H1[H.size]? = some (arrV cA n.toNatClampNeg (fun _ => .null)) := by rw [← hH1, Array.getElem?_push_size, ← arrV_new]
  have o1 : ∀ q : Nat, q < H.size → H1[q]? = H[q]? := fun q hq => by rw [← hH1, Array.getElem?_push, if_neg (Nat.ne_of_lt hq)]
  have hAr : ArrOfT s cA (.object C) := fun N z => ⟨(fun k h => by cases h), kA, f2, comp, f3⟩
  refine kk H.size (hH.free (Nat.le_refl _)) H1 locs ls (hH.push rfl (E.hA _ hS.1) ⟨cA, hAr, ⟨kA, comp, f2, f3, f4, f1⟩, ?_⟩ o1) ⟨Nat.le_trans hS.1 (by omega), fun x h1 h2 => (o1 x (Nat.lt_of_lt_of_le h1 hS.1)).trans (hS.2.1 x h1 h2), hS.2.2⟩ hl
  show H1[H.size]? = some (vp_cell _ _)
  rw [vp_cell_q]
  exact e1
end JH
