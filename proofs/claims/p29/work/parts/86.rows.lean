/-! further rows: remainders, long products, constants of the wide kind, rows of rows; the script, and a method that reads it -/
/-- the script, as the law's start has it, in no cell that is written -/
def Scr (s : State) (A : Nat → Prop) (sc N : Nat) (f : Nat → Int32) : Prop := va_X sc N f s s.heap ∧ ¬ A sc

section JL2
variable {p : Program} {l : Launch} {e : Env} {R : Room} {s : State} {m : MethodId} {args : Array Value} {below : List Frame} {meth : Method} {c : Code} {cc : ByteArray} {nL : Nat} {own : String} {D : va_G} {A : Nat → Prop} {Q : State → Prop} {cells slots : Nat} {h : AH} {pc : Nat} {lo : List (Nat × Value)} {st : List Value}
end JL2
section JL
variable {p : Program} {l : Launch} {e : Env} {R : Room} {s : State} {m : MethodId} {args : Array Value} {below : List Frame} {meth : Method} {c : Code} {cc : ByteArray} {nL : Nat} {own : String} {D : va_G} {A : Nat → Prop} {Q : State → Prop} {cells slots : Nat} {h : AH} {pc : Nat} {lo : List (Nat × Value)} {st : List Value}
theorem Scr.lt {sc N : Nat} {f : Nat → Int32} (X : Scr s A sc N f) : sc < s.heap.size := by
  obtain ⟨⟨scr, h1, -⟩, -⟩ := X
  exact (Array.getElem?_eq_some_iff.mp h1).1
theorem j_sld (E : Cx p l s m args meth c cc nL own D A) {sc N : Nat} {f : Nat → Int32} (X : Scr s A sc N f) {i : Int32} (hin : vp_in i N) (d : decode cc pc = .ok (.iaload, 1))
    (kk : J p l e R s m args below meth c D A nL Q cells slots h (pc + 1) lo (.int (f i.toNatClampNeg) :: st)) : J p l e R s m args below meth c D A nL Q cells slots h pc lo (.int i :: .ref sc :: st) :=
  fun H locs ls hH hS hl => va_sld E.x E.b X.1 X.lt X.2 hS hin d (kk H locs ls hH hS hl)
theorem j_slen (E : Cx p l s m args meth c cc nL own D A) {sc N : Nat} {f : Nat → Int32} (X : Scr s A sc N f) (d : decode cc pc = .ok (.arraylength, 1))
    (kk : J p l e R s m args below meth c D A nL Q cells slots h (pc + 1) lo (.int (nI N) :: st)) : J p l e R s m args below meth c D A nL Q cells slots h pc lo (.ref sc :: st) :=
  fun H locs ls hH hS hl => va_slen E.x E.b X.1 X.lt X.2 hS d (kk H locs ls hH hS hl)

theorem j_irem (E : Cx p l s m args meth c cc nL own D A) {x y : Int32} (hy : ¬ y = 0) (d : decode cc pc = .ok (.irem, 1)) (k : J p l e R s m args below meth c D A nL Q cells slots h (pc + 1) lo (.int (x - x / y * y) :: st)) : J p l e R s m args below meth c D A nL Q cells slots h pc lo (.int y :: .int x :: st) :=
  fun H locs ls hH hS hl => lv_irem E.x E.b d hy (k H locs ls hH hS hl)
theorem j_lmul (E : Cx p l s m args meth c cc nL own D A) {x y : Int64} (d : decode cc pc = .ok (.lmul, 1)) (k : J p l e R s m args below meth c D A nL Q cells slots h (pc + 1) lo (.long (x * y) :: st)) : J p l e R s m args below meth c D A nL Q cells slots h pc lo (.long y :: .long x :: st) :=
  fun H locs ls hH hS hl => lv_lmul E.x E.b d (k H locs ls hH hS hl)
theorem j_lsub (E : Cx p l s m args meth c cc nL own D A) {x y : Int64} (d : decode cc pc = .ok (.lsub, 1)) (k : J p l e R s m args below meth c D A nL Q cells slots h (pc + 1) lo (.long (x - y) :: st)) : J p l e R s m args below meth c D A nL Q cells slots h pc lo (.long y :: .long x :: st) :=
  fun H locs ls hH hS hl => lv_lsub E.x E.b d (k H locs ls hH hS hl)
theorem j_l2i (E : Cx p l s m args meth c cc nL own D A) {x : Int64} (d : decode cc pc = .ok (.l2i, 1)) (k : J p l e R s m args below meth c D A nL Q cells slots h (pc + 1) lo (.int x.toInt32 :: st)) : J p l e R s m args below meth c D A nL Q cells slots h pc lo (.long x :: st) :=
  fun H locs ls hH hS hl => lv_l2i E.x E.b d rfl (k H locs ls hH hS hl)
theorem j_ldc2 (E : Cx p l s m args meth c cc nL own D A) {index : Nat} {v : Int64} (hc : (Cond.constantLong own index v).before args s = true) (d : decode cc pc = .ok (.ldc2_w index, 3)) (k : J p l e R s m args below meth c D A nL Q cells slots h (pc + 3) lo (.long v :: st)) : J p l e R s m args below meth c D A nL Q cells slots h pc lo st :=
  fun H locs ls hH hS hl => lv_ldc2 E.x E.b E.ow hc d (k H locs ls hH hS hl)
theorem j_ldc2d (E : Cx p l s m args meth c cc nL own D A) {index : Nat} {v : UInt64} (hc : (Cond.constantDouble own index v).before args s = true) (d : decode cc pc = .ok (.ldc2_w index, 3)) (k : J p l e R s m args below meth c D A nL Q cells slots h (pc + 3) lo (.double v :: st)) : J p l e R s m args below meth c D A nL Q cells slots h pc lo st :=
  fun H locs ls hH hS hl => lv_ldc2d E.x E.b E.ow hc d (k H locs ls hH hS hl)
theorem j_ldcf (E : Cx p l s m args meth c cc nL own D A) {index : Nat} {v : UInt32} (hc : (Cond.constantFloat own index v).before args s = true) (d : decode cc pc = .ok (.ldc index, 2)) (k : J p l e R s m args below meth c D A nL Q cells slots h (pc + 2) lo (.float v :: st)) : J p l e R s m args below meth c D A nL Q cells slots h pc lo st :=
  fun H locs ls hH hS hl => lv_ldcf E.x E.b E.ow hc d (k H locs ls hH hS hl)
theorem assign_refl {vm : Vm} {a : ClassId} : vm.assignable a a = true := by
  unfold Vm.assignable
  rw [show (256 : Nat) = 255 + 1 from rfl, Vm.assignableAux, beq_self_eq_true, Bool.true_or]
/-- an array of arrays of numbers -/
theorem j_newqA (E : Cx p l s m args meth c cc nL own D A) {index : Nat} {n : Int32} {N : Nat} (hclink : (Cond.classLink own index "[I").before args s = true) (hover : (Cond.arrayOver (.array .int)).before args s = true) (hn : ¬ n < 0) (hN : n.toNatClampNeg = N) (hbytes : N * 4 ≤ 536870912) (hr : cells + 1 ≤ R.cells ∧ slots + N ≤ R.slots) (d : decode cc pc = .ok (.anewarray index, 3))
    (kk : ∀ (q : Nat) (h1 : AH), h q = none → h1 q = some (.inl (.array .int, (N, .inr (.inr (.inr (.inr (fun _ => none))))))) → (∀ x, x ≠ q → h1 x = h x) → J p l e R s m args below meth c D A nL Q (cells + 1) (slots + N) h1 (pc + 3) lo (.ref q :: st)) : J p l e R s m args below meth c D A nL Q cells slots h pc lo (.int n :: st) := by
  intro H locs ls hH hS hl
  subst hN
  refine W.anewA (t := .int) E.x E.b E.ow hclink hover rfl d rfl hn hbytes hr.1 hr.2 fun cA kA comp f1 f2 f3 f4 => ?_
  generalize hH1 : H.push ({ cls := cA, slots := Array.replicate n.toNatClampNeg .null, vm := .none } : Cell) = H1
  have z1 : H1.size = H.size + 1 := by rw [← hH1, Array.size_push]
  have e1 : H1[H.size]? = some (arrV cA n.toNatClampNeg (fun _ => .null)) := by rw [← hH1, Array.getElem?_push_size, ← arrV_new]
  have o1 : ∀ q : Nat, q < H.size → H1[q]? = H[q]? := fun q hq => by rw [← hH1, Array.getElem?_push, if_neg (Nat.ne_of_lt hq)]
  have hAr : ArrOfT s cA (.array .int) := fun N z => ⟨(fun k h => by cases h), kA, f2, comp, f3⟩
  refine kk H.size (hup h H.size (.inl (.array .int, (n.toNatClampNeg, .inr (.inr (.inr (.inr (fun _ => none)))))))) (hH.free (Nat.le_refl _)) hup_eq (fun _ => hup_ne) H1 locs ls (hH.push rfl (E.hA _ hS.1) ⟨cA, hAr, f1, ?_⟩ o1) ⟨Nat.le_trans hS.1 (by omega), fun x h1 h2 => (o1 x (Nat.lt_of_lt_of_le h1 hS.1)).trans (hS.2.1 x h1 h2), hS.2.2⟩ hl
  show H1[H.size]? = some (vp_cell _ _)
  rw [vp_cell_q]
  exact e1
theorem s_aastA (E : Cx p l s m args meth c cc nL own D A) {a n v : Nat} {f : Nat → Option Nat} {x : vp_A} {i : Int32} (hover : (Cond.arrayOver (.array .int)).before args s = true) (hc : h a = some (.inl (.array .int, (n, .inr (.inr (.inr (.inr f))))))) (hv : h v = some (.inl (.int, x))) (hin : vp_in i n) (d : decode cc pc = .ok (.aastore, 1))
    (kk : ∀ h1 : AH, h1 a = some (.inl (.array .int, (n, .inr (.inr (.inr (.inr (fup f i.toNatClampNeg (some v)))))))) → (∀ x, x ≠ a → h1 x = h x) → J p l e R s m args below meth c D A nL Q cells slots h1 (pc + 1) lo st) : J p l e R s m args below meth c D A nL Q cells slots h pc lo (.ref v :: .int i :: .ref a :: st) := by
  intro H locs ls hH hS hl
  obtain ⟨hA, cA, hT, hT2, hq⟩ := hH a _ hc
  obtain ⟨-, cv, gT, gT2, gq⟩ := hH v _ hv
  obtain ⟨comp, c9, k9, w1, -, w3, w4, w5⟩ := arrayOverA_spec hover
  have hlt : i.toNatClampNeg < n := Nat.not_le.mp fun q => hin (Or.inr q)
  have h0 : ¬ i < 0 := fun q => hin (Or.inl q)
  have hcA : c9 = cA := Option.some.inj (w5.symm.trans hT2)
  subst hcA
  have hcv : comp = cv := Option.some.inj (w1.symm.trans gT2)
  subst hcv
  obtain ⟨-, kv, gk, -⟩ := gT 0 (fun _ => .null)
  have gcell : ∃ cell : Cell, H[v]? = some cell ∧ cell.cls = comp ∧ cell.vm = .none := by
    obtain ⟨n9, f9 | f9 | f9 | f9 | f9⟩ := x
    · exact ⟨_, gq, by rw [vp_cell_i]; rfl, by rw [vp_cell_i]; rfl⟩
    · exact ⟨_, gq, by rw [vp_cell_l]; rfl, by rw [vp_cell_l]; rfl⟩
    · exact ⟨_, gq, by rw [vp_cell_f]; rfl, by rw [vp_cell_f]; rfl⟩
    · exact ⟨_, gq, by rw [vp_cell_d]; rfl, by rw [vp_cell_d]; rfl⟩
    · exact ⟨_, gq, by rw [vp_cell_q]; rfl, by rw [vp_cell_q]; rfl⟩
  obtain ⟨cell, g1, g2, g3⟩ := gcell
  refine W.aast E.x E.b hq (fun q h => by cases h) (fun h => by cases h) w3 w4 rfl gk ⟨h0, by show _ < (arrV _ _ _).slots.size; rw [arrV_size]; exact hlt⟩ g1 (fun q h => by rw [g3] at h; cases h) (by rw [g2]; exact gk) (by rw [g2]; exact assign_refl) rfl rfl d fun H1 e1 z oq => ?_
  refine kk _ hup_eq (fun _ => hup_ne) H1 _ ls (hH.put hc ⟨c9, hT, hT2, ?_⟩ oq) (hS.put z oq hA) hl
  show H1[a]? = some (vp_cell _ _)
  rw [e1]
  rw [vp_cell_q, vp_cell_q, arrV_store]
  congr 2
  funext q
  by_cases hq2 : q = i.toNatClampNeg
  · subst hq2
    simp [updV, fup, va_rf]
  · simp [updV, fup, hq2]
/-! a method that reads the script -/
def PcsX (D : va_G) (av : List Value) (h : AH) (sz sc N : Nat) (f : Nat → Int32) : Array Value → State → Prop := va_Pc av (fun U => U.heap.size = sz ∧ Hold D (Afr h sz) h U U.heap ∧ Wd D (Afr h sz) U ∧ va_X sc N f U U.heap)
theorem PcsX.blind {D : va_G} {av : List Value} {h : AH} {sz sc N : Nat} {f : Nat → Int32} : FrameBlind (PcsX D av h sz sc N f) := fun a U g mk hp => by
  obtain ⟨q0, q1, q2, q3, q4⟩ := hp
  exact ⟨q0, q1, Hold.moved (u := U) (U := U.calling g mk a) (Vm.Alike.refl U.vm) q2, q3.calling g mk a, va_X.moved (u := U) (U := U.calling g mk a) (Vm.Alike.refl U.vm) q4⟩
def CtrX (l : Launch) (D : va_G) (y : MethodName) (cc : ByteArray) (maxL : Nat) (ret : Option FieldType) (f9 L mc ms : Nat) (av : List Value) (sc N : Nat) (f : Nat → Int32) (Post : Option Value → AH → Prop) : Prop :=
  l.stackTraces = false → ∀ sz : Nat, vx_Met l y [Cond.code y cc maxL ret] { frames := f9, cells := mc, slots := ms, locals := L } (PcsX D av (fun _ => none) sz sc N f) (Qcs D (fun _ => none) sz Post) (Xcs D (fun _ => none) sz (fun _ => False)) mc ms (Afr (fun _ => none) sz)
theorem CtrX.of {l : Launch} {D : va_G} {y : MethodName} {cc : ByteArray} {maxL : Nat} {ret : Option FieldType} {f9 L mc ms : Nat} {av : List Value} {sc N : Nat} {f : Nat → Int32} {Post : Option Value → AH → Prop} (own : String) (hown : y.cls = own) (hy : plainName y.cls = true) (hav : (lg_sl av).length ≤ maxL)
    (body : ∀ (sz : Nat) (p : Program) (e : Env) (s : State) (m : MethodId) (below : List Frame) (meth : Method) (c : Code), Cx p l s m av.toArray meth c cc maxL own D (Afr (fun _ => none) sz) → meth.name = y.name → meth.sig.returnType = ret → (∀ x ∈ c.exceptionTable.toList, False) → Scr s (Afr (fun _ => none) sz) sc N f →
      J p l e { frames := f9, cells := mc, slots := ms, locals := L } s m av.toArray below meth c D (Afr (fun _ => none) sz) maxL (vx_MQ below (Qcs D (fun _ => none) sz Post) (Xcs D (fun _ => none) sz (fun _ => False)) av.toArray s mc ms (Afr (fun _ => none) sz)) 0 0 (fun _ => none) 0 (lv_args 0 av) []) : CtrX l D y cc maxL ret f9 L mc ms av sc N f Post := by
  intro htr sz
  refine vx_ofW hy rfl ?_
  intro p e s m args below meth c s₁ B hml ht hv
  obtain ⟨rfl, hsz, hH, hW, hX⟩ := hv
  have hl := lv_entry av hav
  rw [lg_entry_eq]
  have hlt : sc < s.heap.size := by
    obtain ⟨scr, h1, -⟩ := hX
    exact (Array.getElem?_eq_some_iff.mp h1).1
  have hSX : Scr s (Afr (fun _ => none) sz) sc N f := ⟨hX, fun q => by
    rcases q with ⟨e9, he⟩ | q
    · cases he
    · omega⟩
  exact body sz p e s m below meth c ⟨B.exec, B.bytes, hml, by rw [← hown]; exact findClass_of_methodNamed B.named, B.notSynchronized, htr, hW, fun q hq => Or.inr (hsz ▸ hq)⟩ (name_of_methodNamed B.named B.method).1 B.returns ht hSX s.heap [] _ hH va_S.rf hl
theorem j_lookX (E : Cx p l s m args meth c cc nL own D A) {sc N : Nat} {f : Nat → Int32} (X : Scr s A sc N f) {ret : Option FieldType} {index n f9 L mc ms : Nat} {y : MethodName} {bytes : ByteArray} {maxL : Nat} {As rest : List Value} {v : Value} (hC : CtrX l D y bytes maxL ret f9 L mc ms As sc N f (fun r9 h' => r9 = some v))
    (w9 : CW R s args own index y bytes maxL ret f9 L mc ms n cells slots rest) (hs9 : (Cond.static y).before args s = true) (hn : As.length = n) (d : decode cc pc = .ok (.invokestatic index, 3)) (hst : st = As.reverse ++ rest)
    (k : J p l e R s m args below meth c D A nL Q (cells + mc) (slots + ms) h (pc + 3) lo (v :: rest)) : J p l e R s m args below meth c D A nL Q cells slots h pc lo st := by
  subst hst
  refine j_go (hc := fun _ => none) (hr := h) E (fun x e9 he => by cases he) (fun x e9 he => ⟨he, rfl⟩) (fun H locs ls hH hS hl => vx_runS E.fix (hC E.tr H.size) ⟨w9.B, hs9⟩ ⟨PcsX.blind, fun U hU hW => ?_⟩ rfl hn hl.1 rfl (lv_room w9.2.2.2.2.2.2.2.2) d ⟨w9.2.2.2.2.2.2.1, w9.2.2.2.2.2.2.2.1⟩) (fun Ex ce q9 H1 locs1 ls h1 hx => hx.elim) (fun v9 hc' h' hp _ g2 g3 g4 => ?_)
  · obtain ⟨a1, a2, a3, a4⟩ := E.pcs (hc := fun _ => none) hH hS (fun x e9 he => by cases he) As U hU hW
    exact ⟨a1, a2, a3, a4, by rw [hU]; exact (X.1.moved hW.alike).kept (hS.2.1 sc X.lt X.2)⟩
  · subst hp
    exact J.heap g3 k
end JL
