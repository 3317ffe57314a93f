/-! arrays of arrays, five rows of eight -/
section MN
variable {p : Program} {l : Launch} {e : Env} {R : Room} {s : State} {m : MethodId} {args : Array Value} {below : List Frame} {meth : Method} {c : Code} {H : Heap} {locs : List Loc} {cells slots : Nat} {Q : State → Prop}
theorem x_mna {cc : ByteArray} (hexec : p.tables.exec = Jvm.exec) (hb : c.code = cc) {own nm : String} {index : Nat} {ty : FieldType} (hown : s.vm.findClass own = some m.cls) (hs : "[" ++ (FieldType.array ty).toString = nm) (hclink : (Cond.classLink own index nm).before args s = true) (hover : (Cond.arrayOver (.array ty)).before args s = true) (harr : (Cond.arrayClass ty).before args s = true)
    {g : JFrame} (hg : g.method = m) (hdg : decode cc g.pc = .ok (.multianewarray index 2, 4)) {n k : Int32} {rest : List Value} (hstack : g.stack = .int k :: .int n :: rest) (hn : ¬ n < 0) (hk : ¬ k < 0) (hb1 : n.toNatClampNeg * 4 ≤ 536870912) (hb2 : k.toNatClampNeg * componentBytes ty ≤ 536870912) (hb3 : k.toNatClampNeg ≤ 536870912)
    (hdf : fits ty (defaultValue ty) = true) (hdd : (defaultValue ty).isDefault = true) (hcells : cells + (1 + n.toNatClampNeg) ≤ R.cells) (hslots : slots + (n.toNatClampNeg + n.toNatClampNeg * k.toNatClampNeg) ≤ R.slots)
    (kk : ∀ (H1 : Heap) (cA comp : ClassId), s.vm.findClass ("[" ++ (FieldType.array ty).toString) = some cA → s.vm.findClass (FieldType.array ty).toString = some comp → (∀ N h0 i, s.isArrayOf (Jvm.Free.Multi.outerC cA N h0 i) (.array ty)) → (∀ M dv, s.isArrayOf (Jvm.Free.Multi.innerC comp M dv) ty) → H1.size = H.size + 1 + n.toNatClampNeg → H1[H.size]? = some (Jvm.Free.Multi.outerC cA n.toNatClampNeg H.size n.toNatClampNeg) → (∀ j, j < n.toNatClampNeg → H1[H.size + 1 + j]? = some (Jvm.Free.Multi.innerC comp k.toNatClampNeg (defaultValue ty))) → (∀ q : Nat, q < H.size → H1[q]? = H[q]?) →
      W p l e R s m args below meth c H1 locs (cells + 1 + n.toNatClampNeg) (slots + n.toNatClampNeg + n.toNatClampNeg * k.toNatClampNeg) Q { g with pc := g.pc + 4, stack := .ref H.size :: rest }) : W p l e R s m args below meth c H locs cells slots Q g := by
  intro T hT X
  subst hT; subst hb; subst hs
  obtain ⟨vm₁, cA, comp, hW, hfA, hfC, hO, hI, X1, st⟩ := X.multianewarray2F hexec hown hclink hover harr hg hdg hstack hn hk hb1 hb2 hb3 hdf hdd hcells hslots
  obtain ⟨f1, f2, f3, f4⟩ := Jvm.Free.Multi.fill_facts (T.setVm vm₁) cA comp n.toNatClampNeg k.toNatClampNeg (defaultValue ty) n.toNatClampNeg
  obtain ⟨t, a1, b1⟩ := kk _ cA comp hfA hfC (fun N h0 i => (hO N h0 i).1) (fun M dv => (hI M dv).1) f1 f2 (fun j hj => Jvm.Free.Multi.fill_inner (T.setVm vm₁) cA comp n.toNatClampNeg k.toNatClampNeg (defaultValue ty) n.toNatClampNeg j hj) (fun q hq => Jvm.Free.Multi.fill_old (T.setVm vm₁) cA comp n.toNatClampNeg k.toNatClampNeg (defaultValue ty) (a := q) hq n.toNatClampNeg) _ (by rfl) X1
  exact ⟨t, st t a1, b1⟩
end MN
theorem x_outer {cA : ClassId} {h0 : Nat} : Jvm.Free.Multi.outerC cA 5 h0 5 = vp_cell cA (5, .inr (.inr (.inr (.inr (fun i => if i < 5 then some (h0 + 1 + i) else none))))) := by
  rw [vp_cell_q]
  obtain ⟨o1, o2, o3⟩ := Jvm.Free.Multi.outerC_facts cA 5 h0 5
  have e : (Jvm.Free.Multi.outerC cA 5 h0 5) = { (arrV cA 5 (fun j => va_rf (if j < 5 then some (h0 + 1 + j) else none))) with slots := (Jvm.Free.Multi.outerC cA 5 h0 5).slots } := by rfl
  rw [e]
  have e2 : (Jvm.Free.Multi.outerC cA 5 h0 5).slots = (arrV cA 5 (fun j => va_rf (if j < 5 then some (h0 + 1 + j) else none))).slots := by
    apply Array.ext
    · rw [o3, arrV_size]
    · intro i h1 h2
      have hi : i < 5 := by rw [o3] at h1; exact h1
      have w1 := Jvm.Free.Multi.outerC_slot cA 5 h0 5 i hi
      have w2 := arrV_read cA (fun j => va_rf (if j < 5 then some (h0 + 1 + j) else none)) hi
      rw [Array.getElem?_eq_getElem h1, if_pos hi] at w1
      rw [Array.getElem?_eq_getElem h2, if_pos hi] at w2
      exact (Option.some.inj w1).trans (Option.some.inj w2).symm
  rw [e2]
section MJ
variable {p : Program} {l : Launch} {e : Env} {R : Room} {s : State} {m : MethodId} {args : Array Value} {below : List Frame} {meth : Method} {c : Code} {cc : ByteArray} {nL : Nat} {own : String} {D : va_G} {A : Nat → Prop} {Q : State → Prop} {cells slots : Nat} {h : AH} {pc : Nat} {lo : List (Nat × Value)} {st : List Value}
theorem j_mna (E : Cx p l s m args meth c cc nL own D A) {index : Nat} {nm : String} {ty : FieldType} (hs : "[" ++ (FieldType.array ty).toString = nm) (hclink : (Cond.classLink own index nm).before args s = true) (hover : (Cond.arrayOver (.array ty)).before args s = true) (harr : (Cond.arrayClass ty).before args s = true) (hdf : fits ty (defaultValue ty) = true) (hdd : (defaultValue ty).isDefault = true) (hb2 : 8 * componentBytes ty ≤ 536870912)
    (hz : ∀ comp : ClassId, Jvm.Free.Multi.innerC comp 8 (defaultValue ty) = vp_cell comp (8, .inl (fun _ => 0))) (hra : ∀ c, s.vm.findClass (FieldType.array ty).toString = some c → va_RA s c ty) (hr : cells + 6 ≤ R.cells ∧ slots + 45 ≤ R.slots) (d : decode cc pc = .ok (.multianewarray index 2, 4))
    (kk : ∀ (q : Nat) (h1 : AH), (∀ j, j < 6 → h (q + j) = none) → h1 q = some (.inl (.array ty, (5, .inr (.inr (.inr (.inr (fun i => if i < 5 then some (q + 1 + i) else none))))))) → (∀ i, i < 5 → h1 (q + 1 + i) = some (.inl (ty, (8, .inl (fun _ => 0))))) → (∀ x, (∀ j, j < 6 → x ≠ q + j) → h1 x = h x) → J p l e R s m args below meth c D A nL Q (cells + 6) (slots + 45) h1 (pc + 4) lo (.ref q :: st)) : J p l e R s m args below meth c D A nL Q cells slots h pc lo (.int 8 :: .int 5 :: st) := by
  intro H locs ls hH hS hl
  refine x_mna E.x E.b E.ow hs hclink hover harr rfl d (n := 5) (k := 8) rfl (by decide) (by decide) (by decide) hb2 (by decide) hdf hdd hr.1 hr.2 (fun H1 cA comp f1 f2 hO hI z1 e1 ei o1 => ?_)
  have z1 : H1.size = H.size + 1 + 5 := z1
  have e1 : H1[H.size]? = some (Jvm.Free.Multi.outerC cA 5 H.size 5) := e1
  have ei : ∀ j, j < 5 → H1[H.size + 1 + j]? = some (Jvm.Free.Multi.innerC comp 8 (defaultValue ty)) := ei
  refine kk H.size (fun x => if x = H.size then some (.inl (.array ty, (5, .inr (.inr (.inr (.inr (fun i => if i < 5 then some (H.size + 1 + i) else none))))))) else if H.size < x ∧ x < H.size + 6 then some (.inl (ty, (8, .inl (fun _ => 0)))) else h x) (fun j _ => hH.free (Nat.le_add_right _ _)) (if_pos rfl) (fun i hi => (if_neg (by omega)).trans (if_pos (by omega))) (fun x hx => (if_neg (by have := hx 0 (by decide); omega)).trans (if_neg (fun w => hx (x - H.size) (by omega) (by omega)))) H1 locs ls (fun x f hf => ?_) ⟨Nat.le_trans hS.1 (by omega), fun x h1 h2 => (o1 x (Nat.lt_of_lt_of_le h1 hS.1)).trans (hS.2.1 x h1 h2), hS.2.2⟩ hl
  have hf : (if x = H.size then some (.inl (.array ty, (5, .inr (.inr (.inr (.inr (fun i => if i < 5 then some (H.size + 1 + i) else none))))))) else if H.size < x ∧ x < H.size + 6 then some (.inl (ty, (8, .inl (fun _ => 0)))) else h x : Option AE) = some f := hf
  by_cases q1 : x = H.size
  · rw [if_pos q1] at hf
    cases hf
    subst q1
    exact ⟨E.hA _ hS.1, cA, fun n z => ⟨(fun k h => by cases h), (hO 0 0 0).2⟩, f1, e1.trans (congrArg some x_outer)⟩
  · rw [if_neg q1] at hf
    by_cases q2 : H.size < x ∧ x < H.size + 6
    · rw [if_pos q2] at hf
      cases hf
      refine ⟨E.hA _ (Nat.le_trans hS.1 (Nat.le_of_lt q2.1)), comp, fun n z => ⟨(fun k h => by cases h), (hI 0 .null).2⟩, hra comp f2, ?_⟩
      have w := ei (x - H.size - 1) (by omega)
      rw [show H.size + 1 + (x - H.size - 1) = x by omega, hz] at w
      exact w
    · rw [if_neg q2] at hf
      obtain ⟨g1, g2⟩ := hH x f hf
      exact ⟨g1, g2.kept (o1 x g2.lt)⟩
end MJ
theorem q_760 {U : State} (hT : Tb U) {av : Array Value} : (Cond.arrayOver (.array .boolean)).before av U = true := hT.get 760 (by decide +kernel) (by decide +kernel)
theorem q_762 {U : State} (hT : Tb U) {av : Array Value} : (Cond.arrayOver (.array .int)).before av U = true := hT.get 762 (by decide +kernel) (by decide +kernel)
section MSz
variable {p : Program} {l : Launch} {e : Env} {R : Room} {s : State} {m : MethodId} {args : Array Value} {below : List Frame} {meth : Method} {c : Code} {cc : ByteArray} {nL : Nat} {D : va_G} {A : Nat → Prop} {Q : State → Prop} {cells slots : Nat} {h : AH} {pc : Nat} {lo : List (Nat × Value)} {st : List Value}
theorem mna_z (E : Cx p l s m args meth c cc nL RX8 D A) (hr : cells + 6 ≤ R.cells ∧ slots + 45 ≤ R.slots) (d : decode cc pc = .ok (.multianewarray 40 2, 4))
    (kk : ∀ (q : Nat) (h1 : AH), (∀ j, j < 6 → h (q + j) = none) → h1 q = some (.inl (.array .boolean, (5, .inr (.inr (.inr (.inr (fun i => if i < 5 then some (q + 1 + i) else none))))))) → (∀ i, i < 5 → h1 (q + 1 + i) = some (.inl (.boolean, (8, .inl (fun _ => 0))))) → (∀ x, (∀ j, j < 6 → x ≠ q + j) → h1 x = h x) → J p l e R s m args below meth c D A nL Q (cells + 6) (slots + 45) h1 (pc + 4) lo (.ref q :: st)) : J p l e R s m args below meth c D A nL Q cells slots h pc lo (.int 8 :: .int 5 :: st) :=
  j_mna E (nm := "[[Z") (by decide) (q_759 E.tb) (q_760 E.tb) (E.tb.get 866 (by decide +kernel) (by decide +kernel)) rfl rfl (by decide) (fun comp => arrV_new comp 8 _) (fun _ h => h) hr d kk
end MSz
section MSi
variable {p : Program} {l : Launch} {e : Env} {R : Room} {s : State} {m : MethodId} {args : Array Value} {below : List Frame} {meth : Method} {c : Code} {cc : ByteArray} {nL : Nat} {D : va_G} {A : Nat → Prop} {Q : State → Prop} {cells slots : Nat} {h : AH} {pc : Nat} {lo : List (Nat × Value)} {st : List Value}
theorem mna_i (E : Cx p l s m args meth c cc nL RX8 D A) (hr : cells + 6 ≤ R.cells ∧ slots + 45 ≤ R.slots) (d : decode cc pc = .ok (.multianewarray 45 2, 4))
    (kk : ∀ (q : Nat) (h1 : AH), (∀ j, j < 6 → h (q + j) = none) → h1 q = some (.inl (.array .int, (5, .inr (.inr (.inr (.inr (fun i => if i < 5 then some (q + 1 + i) else none))))))) → (∀ i, i < 5 → h1 (q + 1 + i) = some (.inl (.int, (8, .inl (fun _ => 0))))) → (∀ x, (∀ j, j < 6 → x ≠ q + j) → h1 x = h x) → J p l e R s m args below meth c D A nL Q (cells + 6) (slots + 45) h1 (pc + 4) lo (.ref q :: st)) : J p l e R s m args below meth c D A nL Q cells slots h pc lo (.int 8 :: .int 5 :: st) :=
  j_mna E (nm := "[[I") (by decide) (q_761 E.tb) (q_762 E.tb) (E.tb.get 627 (by decide +kernel) (by decide +kernel)) rfl rfl (by decide) (fun comp => arrV_new comp 8 _) (fun _ h => h) hr d kk
end MSi
