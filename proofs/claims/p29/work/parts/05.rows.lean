/-! the judgement of a body's walk over an abstract heap, and a row an instruction -/
def J (p : Program) (l : Launch) (e : Env) (R : Room) (s : State) (m : MethodId) (args : Array Value) (below : List Frame) (meth : Method) (c : Code) (D : va_G) (A : Nat → Prop) (nL : Nat) (Q : State → Prop) (cells slots : Nat) (h : AH) (pc : Nat) (lo : List (Nat × Value)) (st : List Value) : Prop :=
  ∀ (H : Heap) (locs : List Loc) (ls : Array Slot), Hold D A h s H → va_S A s.heap H locs → lv_has ls nL lo → W p l e R s m args below meth c H locs cells slots Q (F0 m pc ls st)
section JR
variable {p : Program} {l : Launch} {e : Env} {R : Room} {s : State} {m : MethodId} {args : Array Value} {below : List Frame} {meth : Method} {c : Code} {cc : ByteArray} {nL : Nat} {own : String} {D : va_G} {A : Nat → Prop} {Q : State → Prop} {cells slots : Nat} {h : AH} {pc : Nat} {lo : List (Nat × Value)} {st : List Value}
theorem J.sub {lo' : List (Nat × Value)} (hs : lsub lo lo') (k : J p l e R s m args below meth c D A nL Q cells slots h pc lo' st) : J p l e R s m args below meth c D A nL Q cells slots h pc lo st :=
  fun H locs ls hH hS hl => k H locs ls hH hS (lo_sub hl hs)
theorem J.wide {k n : Nat} (h1 : cells ≤ k) (h2 : slots ≤ n) (kk : J p l e R s m args below meth c D A nL Q k n h pc lo st) : J p l e R s m args below meth c D A nL Q cells slots h pc lo st :=
  fun H locs ls hH hS hl => W.widen h1 h2 (kk H locs ls hH hS hl)
theorem J.heap {h' : AH} (hh : ∀ a e, h' a = some e → h a = some e) (k : J p l e R s m args below meth c D A nL Q cells slots h' pc lo st) : J p l e R s m args below meth c D A nL Q cells slots h pc lo st :=
  fun H locs ls hH hS hl => k H locs ls (fun a e he => hH a e (hh a e he)) hS hl
theorem J.stk {st' : List Value} (hh : st = st') (k : J p l e R s m args below meth c D A nL Q cells slots h pc lo st') : J p l e R s m args below meth c D A nL Q cells slots h pc lo st := hh ▸ k
theorem j_iconst (E : Cx p l s m args meth c cc nL own D A) {n : Int} {v : Int32} (d : decode cc pc = .ok (.iconst n, 1)) (hv : Int32.ofInt n = v)
    (k : J p l e R s m args below meth c D A nL Q cells slots h (pc + 1) lo (.int v :: st)) : J p l e R s m args below meth c D A nL Q cells slots h pc lo st :=
  fun H locs ls hH hS hl => lv_iconst E.x E.b d hv (k H locs ls hH hS hl)
theorem j_bipush (E : Cx p l s m args meth c cc nL own D A) {n : Int} {v : Int32} (d : decode cc pc = .ok (.bipush n, 2)) (hv : (Int8.ofInt n).toInt32 = v)
    (k : J p l e R s m args below meth c D A nL Q cells slots h (pc + 2) lo (.int v :: st)) : J p l e R s m args below meth c D A nL Q cells slots h pc lo st :=
  fun H locs ls hH hS hl => lv_bipush E.x E.b d hv (k H locs ls hH hS hl)
theorem j_sipush (E : Cx p l s m args meth c cc nL own D A) {n : Int} {v : Int32} (d : decode cc pc = .ok (.sipush n, 3)) (hv : (Int16.ofInt n).toInt32 = v)
    (k : J p l e R s m args below meth c D A nL Q cells slots h (pc + 3) lo (.int v :: st)) : J p l e R s m args below meth c D A nL Q cells slots h pc lo st :=
  fun H locs ls hH hS hl => lv_sipush E.x E.b d hv (k H locs ls hH hS hl)
theorem j_lconst (E : Cx p l s m args meth c cc nL own D A) {n : Fin 2} {v : Int64} (d : decode cc pc = .ok (.lconst n, 1)) (hv : Int64.ofNat (n : Nat) = v)
    (k : J p l e R s m args below meth c D A nL Q cells slots h (pc + 1) lo (.long v :: st)) : J p l e R s m args below meth c D A nL Q cells slots h pc lo st :=
  fun H locs ls hH hS hl => lv_lconst E.x E.b d hv (k H locs ls hH hS hl)
theorem j_null (E : Cx p l s m args meth c cc nL own D A)  (d : decode cc pc = .ok (.aconst_null, 1))
    (k : J p l e R s m args below meth c D A nL Q cells slots h (pc + 1) lo (.null :: st)) : J p l e R s m args below meth c D A nL Q cells slots h pc lo st :=
  fun H locs ls hH hS hl => lv_null E.x E.b d (k H locs ls hH hS hl)
theorem j_iload_n (E : Cx p l s m args meth c cc nL own D A) {i : Fin 4} {x : Int32} (d : decode cc pc = .ok (.iload_n i, 1)) (hg : lget lo i.val = some (.int x))
    (k : J p l e R s m args below meth c D A nL Q cells slots h (pc + 1) lo (.int x :: st)) : J p l e R s m args below meth c D A nL Q cells slots h pc lo st :=
  fun H locs ls hH hS hl => lv_iload_n E.x E.b d rfl (lv_get hl hg) (k H locs ls hH hS hl)
theorem j_iload (E : Cx p l s m args meth c cc nL own D A) {i : Nat} {x : Int32} (d : decode cc pc = .ok (.iload i, 2)) (hg : lget lo i = some (.int x))
    (k : J p l e R s m args below meth c D A nL Q cells slots h (pc + 2) lo (.int x :: st)) : J p l e R s m args below meth c D A nL Q cells slots h pc lo st :=
  fun H locs ls hH hS hl => lv_iload E.x E.b d (lv_get hl hg) (k H locs ls hH hS hl)
theorem j_lload_n (E : Cx p l s m args meth c cc nL own D A) {i : Fin 4} {x : Int64} (d : decode cc pc = .ok (.lload_n i, 1)) (hg : lget lo i.val = some (.long x))
    (k : J p l e R s m args below meth c D A nL Q cells slots h (pc + 1) lo (.long x :: st)) : J p l e R s m args below meth c D A nL Q cells slots h pc lo st :=
  fun H locs ls hH hS hl => lv_lload_n E.x E.b d rfl (lv_get hl hg) (k H locs ls hH hS hl)
theorem j_lload (E : Cx p l s m args meth c cc nL own D A) {i : Nat} {x : Int64} (d : decode cc pc = .ok (.lload i, 2)) (hg : lget lo i = some (.long x))
    (k : J p l e R s m args below meth c D A nL Q cells slots h (pc + 2) lo (.long x :: st)) : J p l e R s m args below meth c D A nL Q cells slots h pc lo st :=
  fun H locs ls hH hS hl => lv_lload E.x E.b d (lv_get hl hg) (k H locs ls hH hS hl)
theorem j_fload_n (E : Cx p l s m args meth c cc nL own D A) {i : Fin 4} {x : UInt32} (d : decode cc pc = .ok (.fload_n i, 1)) (hg : lget lo i.val = some (.float x))
    (k : J p l e R s m args below meth c D A nL Q cells slots h (pc + 1) lo (.float x :: st)) : J p l e R s m args below meth c D A nL Q cells slots h pc lo st :=
  fun H locs ls hH hS hl => lv_fload_n E.x E.b d rfl (lv_get hl hg) (k H locs ls hH hS hl)
theorem j_fload (E : Cx p l s m args meth c cc nL own D A) {i : Nat} {x : UInt32} (d : decode cc pc = .ok (.fload i, 2)) (hg : lget lo i = some (.float x))
    (k : J p l e R s m args below meth c D A nL Q cells slots h (pc + 2) lo (.float x :: st)) : J p l e R s m args below meth c D A nL Q cells slots h pc lo st :=
  fun H locs ls hH hS hl => lv_fload E.x E.b d (lv_get hl hg) (k H locs ls hH hS hl)
theorem j_dload_n (E : Cx p l s m args meth c cc nL own D A) {i : Fin 4} {x : UInt64} (d : decode cc pc = .ok (.dload_n i, 1)) (hg : lget lo i.val = some (.double x))
    (k : J p l e R s m args below meth c D A nL Q cells slots h (pc + 1) lo (.double x :: st)) : J p l e R s m args below meth c D A nL Q cells slots h pc lo st :=
  fun H locs ls hH hS hl => lv_dload_n E.x E.b d rfl (lv_get hl hg) (k H locs ls hH hS hl)
theorem j_dload (E : Cx p l s m args meth c cc nL own D A) {i : Nat} {x : UInt64} (d : decode cc pc = .ok (.dload i, 2)) (hg : lget lo i = some (.double x))
    (k : J p l e R s m args below meth c D A nL Q cells slots h (pc + 2) lo (.double x :: st)) : J p l e R s m args below meth c D A nL Q cells slots h pc lo st :=
  fun H locs ls hH hS hl => lv_dload E.x E.b d (lv_get hl hg) (k H locs ls hH hS hl)
theorem j_aload_n (E : Cx p l s m args meth c cc nL own D A) {i : Fin 4} {x : Nat} (d : decode cc pc = .ok (.aload_n i, 1)) (hg : lget lo i.val = some (.ref x))
    (k : J p l e R s m args below meth c D A nL Q cells slots h (pc + 1) lo (.ref x :: st)) : J p l e R s m args below meth c D A nL Q cells slots h pc lo st :=
  fun H locs ls hH hS hl => lv_aload_n E.x E.b d rfl (lv_get hl hg) (k H locs ls hH hS hl)
theorem j_aload (E : Cx p l s m args meth c cc nL own D A) {i : Nat} {x : Nat} (d : decode cc pc = .ok (.aload i, 2)) (hg : lget lo i = some (.ref x))
    (k : J p l e R s m args below meth c D A nL Q cells slots h (pc + 2) lo (.ref x :: st)) : J p l e R s m args below meth c D A nL Q cells slots h pc lo st :=
  fun H locs ls hH hS hl => lv_aload E.x E.b d (lv_get hl hg) (k H locs ls hH hS hl)
theorem j_aload_nN (E : Cx p l s m args meth c cc nL own D A) {i : Fin 4} (d : decode cc pc = .ok (.aload_n i, 1)) (hg : lget lo i.val = some .null)
    (k : J p l e R s m args below meth c D A nL Q cells slots h (pc + 1) lo (.null :: st)) : J p l e R s m args below meth c D A nL Q cells slots h pc lo st :=
  fun H locs ls hH hS hl => lv_aload_nN E.x E.b d rfl (lv_get hl hg) (k H locs ls hH hS hl)
theorem j_aloadN (E : Cx p l s m args meth c cc nL own D A) {i : Nat} (d : decode cc pc = .ok (.aload i, 2)) (hg : lget lo i = some .null)
    (k : J p l e R s m args below meth c D A nL Q cells slots h (pc + 2) lo (.null :: st)) : J p l e R s m args below meth c D A nL Q cells slots h pc lo st :=
  fun H locs ls hH hS hl => lv_aloadN E.x E.b d (lv_get hl hg) (k H locs ls hH hS hl)
theorem j_istore_n (E : Cx p l s m args meth c cc nL own D A) {i : Fin 4} {x : Int32} (d : decode cc pc = .ok (.istore_n i, 1)) (hn : i.val < nL)
    (k : J p l e R s m args below meth c D A nL Q cells slots h (pc + 1) (lput1 lo i.val (.int x)) st) : J p l e R s m args below meth c D A nL Q cells slots h pc lo (.int x :: st) :=
  fun H locs ls hH hS hl => lv_istore_n E.x E.b d rfl hl hn rfl (fun ls2 hl2 => k H locs ls2 hH hS hl2)
theorem j_istore (E : Cx p l s m args meth c cc nL own D A) {i : Nat} {x : Int32} (d : decode cc pc = .ok (.istore i, 2)) (hn : i < nL)
    (k : J p l e R s m args below meth c D A nL Q cells slots h (pc + 2) (lput1 lo i (.int x)) st) : J p l e R s m args below meth c D A nL Q cells slots h pc lo (.int x :: st) :=
  fun H locs ls hH hS hl => lv_istore E.x E.b d hl hn rfl (fun ls2 hl2 => k H locs ls2 hH hS hl2)
theorem j_lstore_n (E : Cx p l s m args meth c cc nL own D A) {i : Fin 4} {x : Int64} (d : decode cc pc = .ok (.lstore_n i, 1)) (hn : i.val + 1 < nL)
    (k : J p l e R s m args below meth c D A nL Q cells slots h (pc + 1) (lput2 lo i.val (.long x)) st) : J p l e R s m args below meth c D A nL Q cells slots h pc lo (.long x :: st) :=
  fun H locs ls hH hS hl => lv_lstore_n E.x E.b d rfl hl hn rfl (fun ls2 hl2 => k H locs ls2 hH hS hl2)
theorem j_lstore (E : Cx p l s m args meth c cc nL own D A) {i : Nat} {x : Int64} (d : decode cc pc = .ok (.lstore i, 2)) (hn : i + 1 < nL)
    (k : J p l e R s m args below meth c D A nL Q cells slots h (pc + 2) (lput2 lo i (.long x)) st) : J p l e R s m args below meth c D A nL Q cells slots h pc lo (.long x :: st) :=
  fun H locs ls hH hS hl => lv_lstore E.x E.b d hl hn rfl (fun ls2 hl2 => k H locs ls2 hH hS hl2)
theorem j_fstore_n (E : Cx p l s m args meth c cc nL own D A) {i : Fin 4} {x : UInt32} (d : decode cc pc = .ok (.fstore_n i, 1)) (hn : i.val < nL)
    (k : J p l e R s m args below meth c D A nL Q cells slots h (pc + 1) (lput1 lo i.val (.float x)) st) : J p l e R s m args below meth c D A nL Q cells slots h pc lo (.float x :: st) :=
  fun H locs ls hH hS hl => lv_fstore_n E.x E.b d rfl hl hn rfl (fun ls2 hl2 => k H locs ls2 hH hS hl2)
theorem j_fstore (E : Cx p l s m args meth c cc nL own D A) {i : Nat} {x : UInt32} (d : decode cc pc = .ok (.fstore i, 2)) (hn : i < nL)
    (k : J p l e R s m args below meth c D A nL Q cells slots h (pc + 2) (lput1 lo i (.float x)) st) : J p l e R s m args below meth c D A nL Q cells slots h pc lo (.float x :: st) :=
  fun H locs ls hH hS hl => lv_fstore E.x E.b d hl hn rfl (fun ls2 hl2 => k H locs ls2 hH hS hl2)
theorem j_dstore_n (E : Cx p l s m args meth c cc nL own D A) {i : Fin 4} {x : UInt64} (d : decode cc pc = .ok (.dstore_n i, 1)) (hn : i.val + 1 < nL)
    (k : J p l e R s m args below meth c D A nL Q cells slots h (pc + 1) (lput2 lo i.val (.double x)) st) : J p l e R s m args below meth c D A nL Q cells slots h pc lo (.double x :: st) :=
  fun H locs ls hH hS hl => lv_dstore_n E.x E.b d rfl hl hn rfl (fun ls2 hl2 => k H locs ls2 hH hS hl2)
theorem j_dstore (E : Cx p l s m args meth c cc nL own D A) {i : Nat} {x : UInt64} (d : decode cc pc = .ok (.dstore i, 2)) (hn : i + 1 < nL)
    (k : J p l e R s m args below meth c D A nL Q cells slots h (pc + 2) (lput2 lo i (.double x)) st) : J p l e R s m args below meth c D A nL Q cells slots h pc lo (.double x :: st) :=
  fun H locs ls hH hS hl => lv_dstore E.x E.b d hl hn rfl (fun ls2 hl2 => k H locs ls2 hH hS hl2)
theorem j_astore_n (E : Cx p l s m args meth c cc nL own D A) {i : Fin 4} {x : Nat} (d : decode cc pc = .ok (.astore_n i, 1)) (hn : i.val < nL)
    (k : J p l e R s m args below meth c D A nL Q cells slots h (pc + 1) (lput1 lo i.val (.ref x)) st) : J p l e R s m args below meth c D A nL Q cells slots h pc lo (.ref x :: st) :=
  fun H locs ls hH hS hl => lv_astore_n E.x E.b d rfl hl hn rfl (fun ls2 hl2 => k H locs ls2 hH hS hl2)
theorem j_astore (E : Cx p l s m args meth c cc nL own D A) {i : Nat} {x : Nat} (d : decode cc pc = .ok (.astore i, 2)) (hn : i < nL)
    (k : J p l e R s m args below meth c D A nL Q cells slots h (pc + 2) (lput1 lo i (.ref x)) st) : J p l e R s m args below meth c D A nL Q cells slots h pc lo (.ref x :: st) :=
  fun H locs ls hH hS hl => lv_astore E.x E.b d hl hn rfl (fun ls2 hl2 => k H locs ls2 hH hS hl2)
theorem j_astore_nN (E : Cx p l s m args meth c cc nL own D A) {i : Fin 4} (d : decode cc pc = .ok (.astore_n i, 1)) (hn : i.val < nL)
    (k : J p l e R s m args below meth c D A nL Q cells slots h (pc + 1) (lput1 lo i.val .null) st) : J p l e R s m args below meth c D A nL Q cells slots h pc lo (.null :: st) :=
  fun H locs ls hH hS hl => lv_astore_nN E.x E.b d rfl hl hn rfl (fun ls2 hl2 => k H locs ls2 hH hS hl2)
theorem j_astoreN (E : Cx p l s m args meth c cc nL own D A) {i : Nat} (d : decode cc pc = .ok (.astore i, 2)) (hn : i < nL)
    (k : J p l e R s m args below meth c D A nL Q cells slots h (pc + 2) (lput1 lo i .null) st) : J p l e R s m args below meth c D A nL Q cells slots h pc lo (.null :: st) :=
  fun H locs ls hH hS hl => lv_astoreN E.x E.b d hl hn rfl (fun ls2 hl2 => k H locs ls2 hH hS hl2)
theorem j_iinc (E : Cx p l s m args meth c cc nL own D A) {i : Nat} {n : Int} {x v : Int32} (d : decode cc pc = .ok (.iinc i n, 3)) (hg : lget lo i = some (.int x)) (hv : x + Int32.ofInt n = v) (hn : i < nL)
    (k : J p l e R s m args below meth c D A nL Q cells slots h (pc + 3) (lput1 lo i (.int v)) st) : J p l e R s m args below meth c D A nL Q cells slots h pc lo st := by
  intro H locs ls hH hS hl
  obtain ⟨j, hj⟩ := List.getElem?_of_mem (lget_mem lo hg)
  exact lv_iinc E.x E.b d hl hj hv hn rfl (fun ls2 hl2 => k H locs ls2 hH hS hl2)
theorem j_iadd (E : Cx p l s m args meth c cc nL own D A) {x y : Int32} (d : decode cc pc = .ok (.iadd, 1))
    (k : J p l e R s m args below meth c D A nL Q cells slots h (pc + 1) lo (.int (x + y) :: st)) : J p l e R s m args below meth c D A nL Q cells slots h pc lo (.int y :: .int x :: st) :=
  fun H locs ls hH hS hl => lv_iadd E.x E.b d (k H locs ls hH hS hl)
theorem j_isub (E : Cx p l s m args meth c cc nL own D A) {x y : Int32} (d : decode cc pc = .ok (.isub, 1))
    (k : J p l e R s m args below meth c D A nL Q cells slots h (pc + 1) lo (.int (x - y) :: st)) : J p l e R s m args below meth c D A nL Q cells slots h pc lo (.int y :: .int x :: st) :=
  fun H locs ls hH hS hl => lv_isub E.x E.b d (k H locs ls hH hS hl)
theorem j_imul (E : Cx p l s m args meth c cc nL own D A) {x y : Int32} (d : decode cc pc = .ok (.imul, 1))
    (k : J p l e R s m args below meth c D A nL Q cells slots h (pc + 1) lo (.int (x * y) :: st)) : J p l e R s m args below meth c D A nL Q cells slots h pc lo (.int y :: .int x :: st) :=
  fun H locs ls hH hS hl => lv_imul E.x E.b d (k H locs ls hH hS hl)
theorem j_iand (E : Cx p l s m args meth c cc nL own D A) {x y : Int32} (d : decode cc pc = .ok (.iand, 1))
    (k : J p l e R s m args below meth c D A nL Q cells slots h (pc + 1) lo (.int (x &&& y) :: st)) : J p l e R s m args below meth c D A nL Q cells slots h pc lo (.int y :: .int x :: st) :=
  fun H locs ls hH hS hl => lv_iand E.x E.b d (k H locs ls hH hS hl)
theorem j_idiv (E : Cx p l s m args meth c cc nL own D A) {x y : Int32} (d : decode cc pc = .ok (.idiv, 1)) (hy : ¬ y = 0)
    (k : J p l e R s m args below meth c D A nL Q cells slots h (pc + 1) lo (.int (x / y) :: st)) : J p l e R s m args below meth c D A nL Q cells slots h pc lo (.int y :: .int x :: st) :=
  fun H locs ls hH hS hl => lv_idiv E.x E.b d hy (k H locs ls hH hS hl)
theorem j_ladd (E : Cx p l s m args meth c cc nL own D A) {x y : Int64} (d : decode cc pc = .ok (.ladd, 1))
    (k : J p l e R s m args below meth c D A nL Q cells slots h (pc + 1) lo (.long (x + y) :: st)) : J p l e R s m args below meth c D A nL Q cells slots h pc lo (.long y :: .long x :: st) :=
  fun H locs ls hH hS hl => lv_ladd E.x E.b d (k H locs ls hH hS hl)
theorem j_i2l (E : Cx p l s m args meth c cc nL own D A) {x : Int32} (d : decode cc pc = .ok (.i2l, 1))
    (k : J p l e R s m args below meth c D A nL Q cells slots h (pc + 1) lo (.long x.toInt64 :: st)) : J p l e R s m args below meth c D A nL Q cells slots h pc lo (.int x :: st) :=
  fun H locs ls hH hS hl => lv_i2l E.x E.b d rfl (k H locs ls hH hS hl)
theorem j_i2d (E : Cx p l s m args meth c cc nL own D A) {x : Int32} (d : decode cc pc = .ok (.i2d, 1))
    (k : J p l e R s m args below meth c D A nL Q cells slots h (pc + 1) lo (.double (FP.i2d x) :: st)) : J p l e R s m args below meth c D A nL Q cells slots h pc lo (.int x :: st) :=
  fun H locs ls hH hS hl => lv_i2d E.x E.b d (k H locs ls hH hS hl)
theorem j_l2f (E : Cx p l s m args meth c cc nL own D A) {x : Int64} (d : decode cc pc = .ok (.l2f, 1))
    (k : J p l e R s m args below meth c D A nL Q cells slots h (pc + 1) lo (.float (FP.l2f x) :: st)) : J p l e R s m args below meth c D A nL Q cells slots h pc lo (.long x :: st) :=
  fun H locs ls hH hS hl => lv_l2f E.x E.b d (k H locs ls hH hS hl)
theorem j_f2d (E : Cx p l s m args meth c cc nL own D A) {x : UInt32} (d : decode cc pc = .ok (.f2d, 1)) (hne : vf_n64 (FP.f2d x))
    (k : J p l e R s m args below meth c D A nL Q cells slots h (pc + 1) lo (.double (FP.f2d x) :: st)) : J p l e R s m args below meth c D A nL Q cells slots h pc lo (.float x :: st) :=
  fun H locs ls hH hS hl => lv_f2d E.x E.b d hne (k H locs ls hH hS hl)
theorem j_fdiv (E : Cx p l s m args meth c cc nL own D A) {x y : UInt32} (d : decode cc pc = .ok (.fdiv, 1)) (hne : vf_n32 (FP.fdiv x y))
    (k : J p l e R s m args below meth c D A nL Q cells slots h (pc + 1) lo (.float (FP.fdiv x y) :: st)) : J p l e R s m args below meth c D A nL Q cells slots h pc lo (.float y :: .float x :: st) :=
  fun H locs ls hH hS hl => lv_fdiv E.x E.b d hne (k H locs ls hH hS hl)
theorem j_ddiv (E : Cx p l s m args meth c cc nL own D A) {x y : UInt64} (d : decode cc pc = .ok (.ddiv, 1)) (hne : vf_n64 (FP.ddiv x y))
    (k : J p l e R s m args below meth c D A nL Q cells slots h (pc + 1) lo (.double (FP.ddiv x y) :: st)) : J p l e R s m args below meth c D A nL Q cells slots h pc lo (.double y :: .double x :: st) :=
  fun H locs ls hH hS hl => lv_ddiv E.x E.b d hne (k H locs ls hH hS hl)
theorem j_fcmp (E : Cx p l s m args meth c cc nL own D A) {x y : UInt32} {op : CmpOp} (d : decode cc pc = .ok (.fcmp op, 1))
    (k : J p l e R s m args below meth c D A nL Q cells slots h (pc + 1) lo (.int (Op.cmpValue (FP.fcmp x y) op) :: st)) : J p l e R s m args below meth c D A nL Q cells slots h pc lo (.float y :: .float x :: st) :=
  fun H locs ls hH hS hl => lv_fcmp E.x E.b d (k H locs ls hH hS hl)
theorem j_dcmp (E : Cx p l s m args meth c cc nL own D A) {x y : UInt64} {op : CmpOp} (d : decode cc pc = .ok (.dcmp op, 1))
    (k : J p l e R s m args below meth c D A nL Q cells slots h (pc + 1) lo (.int (Op.cmpValue (FP.dcmp x y) op) :: st)) : J p l e R s m args below meth c D A nL Q cells slots h pc lo (.double y :: .double x :: st) :=
  fun H locs ls hH hS hl => lv_dcmp E.x E.b d (k H locs ls hH hS hl)
theorem j_dup (E : Cx p l s m args meth c cc nL own D A) {v : Value} (d : decode cc pc = .ok (.dup, 1)) (hv : v.category = 1)
    (k : J p l e R s m args below meth c D A nL Q cells slots h (pc + 1) lo (v :: v :: st)) : J p l e R s m args below meth c D A nL Q cells slots h pc lo (v :: st) :=
  fun H locs ls hH hS hl => lv_dup E.x E.b d hv (k H locs ls hH hS hl)
theorem j_dup2 (E : Cx p l s m args meth c cc nL own D A) {v u : Value} (d : decode cc pc = .ok (.dup2, 1)) (hv : v.category = 1) (hu : u.category = 1)
    (k : J p l e R s m args below meth c D A nL Q cells slots h (pc + 1) lo (v :: u :: v :: u :: st)) : J p l e R s m args below meth c D A nL Q cells slots h pc lo (v :: u :: st) :=
  fun H locs ls hH hS hl => lv_dup2_11 E.x E.b d hv hu (k H locs ls hH hS hl)
theorem j_pop (E : Cx p l s m args meth c cc nL own D A) {v : Value} (d : decode cc pc = .ok (.pop, 1)) (hv : v.category = 1)
    (k : J p l e R s m args below meth c D A nL Q cells slots h (pc + 1) lo st) : J p l e R s m args below meth c D A nL Q cells slots h pc lo (v :: st) :=
  fun H locs ls hH hS hl => lv_pop E.x E.b d hv (k H locs ls hH hS hl)
theorem j_if_eq (E : Cx p l s m args meth c cc nL own D A) {x : Int32} {off : Int} {tgt : Nat} (d : decode cc pc = .ok (.ifCond .eq off, 3)) (ht : (pc : Int) + off = (tgt : Int))
    (kt : x = 0 → J p l e R s m args below meth c D A nL Q cells slots h tgt lo st) (kf : ¬ x = 0 → J p l e R s m args below meth c D A nL Q cells slots h (pc + 3) lo st) : J p l e R s m args below meth c D A nL Q cells slots h pc lo (.int x :: st) :=
  fun H locs ls hH hS hl => lv_if_eq E.x E.b d ht (fun q => kt q H locs ls hH hS hl) (fun q => kf q H locs ls hH hS hl)
theorem j_if_ne (E : Cx p l s m args meth c cc nL own D A) {x : Int32} {off : Int} {tgt : Nat} (d : decode cc pc = .ok (.ifCond .ne off, 3)) (ht : (pc : Int) + off = (tgt : Int))
    (kt : ¬ x = 0 → J p l e R s m args below meth c D A nL Q cells slots h tgt lo st) (kf : x = 0 → J p l e R s m args below meth c D A nL Q cells slots h (pc + 3) lo st) : J p l e R s m args below meth c D A nL Q cells slots h pc lo (.int x :: st) :=
  fun H locs ls hH hS hl => lv_if_ne E.x E.b d ht (fun q => kt q H locs ls hH hS hl) (fun q => kf q H locs ls hH hS hl)
theorem j_if_lt (E : Cx p l s m args meth c cc nL own D A) {x : Int32} {off : Int} {tgt : Nat} (d : decode cc pc = .ok (.ifCond .lt off, 3)) (ht : (pc : Int) + off = (tgt : Int))
    (kt : x < 0 → J p l e R s m args below meth c D A nL Q cells slots h tgt lo st) (kf : ¬ x < 0 → J p l e R s m args below meth c D A nL Q cells slots h (pc + 3) lo st) : J p l e R s m args below meth c D A nL Q cells slots h pc lo (.int x :: st) :=
  fun H locs ls hH hS hl => lv_if_lt E.x E.b d ht (fun q => kt q H locs ls hH hS hl) (fun q => kf q H locs ls hH hS hl)
theorem j_if_ge (E : Cx p l s m args meth c cc nL own D A) {x : Int32} {off : Int} {tgt : Nat} (d : decode cc pc = .ok (.ifCond .ge off, 3)) (ht : (pc : Int) + off = (tgt : Int))
    (kt : 0 ≤ x → J p l e R s m args below meth c D A nL Q cells slots h tgt lo st) (kf : ¬ 0 ≤ x → J p l e R s m args below meth c D A nL Q cells slots h (pc + 3) lo st) : J p l e R s m args below meth c D A nL Q cells slots h pc lo (.int x :: st) :=
  fun H locs ls hH hS hl => lv_if_ge E.x E.b d ht (fun q => kt q H locs ls hH hS hl) (fun q => kf q H locs ls hH hS hl)
theorem j_if_gt (E : Cx p l s m args meth c cc nL own D A) {x : Int32} {off : Int} {tgt : Nat} (d : decode cc pc = .ok (.ifCond .gt off, 3)) (ht : (pc : Int) + off = (tgt : Int))
    (kt : 0 < x → J p l e R s m args below meth c D A nL Q cells slots h tgt lo st) (kf : ¬ 0 < x → J p l e R s m args below meth c D A nL Q cells slots h (pc + 3) lo st) : J p l e R s m args below meth c D A nL Q cells slots h pc lo (.int x :: st) :=
  fun H locs ls hH hS hl => lv_if_gt E.x E.b d ht (fun q => kt q H locs ls hH hS hl) (fun q => kf q H locs ls hH hS hl)
theorem j_if_le (E : Cx p l s m args meth c cc nL own D A) {x : Int32} {off : Int} {tgt : Nat} (d : decode cc pc = .ok (.ifCond .le off, 3)) (ht : (pc : Int) + off = (tgt : Int))
    (kt : x ≤ 0 → J p l e R s m args below meth c D A nL Q cells slots h tgt lo st) (kf : ¬ x ≤ 0 → J p l e R s m args below meth c D A nL Q cells slots h (pc + 3) lo st) : J p l e R s m args below meth c D A nL Q cells slots h pc lo (.int x :: st) :=
  fun H locs ls hH hS hl => lv_if_le E.x E.b d ht (fun q => kt q H locs ls hH hS hl) (fun q => kf q H locs ls hH hS hl)
theorem j_icmp_eq (E : Cx p l s m args meth c cc nL own D A) {x y : Int32} {off : Int} {tgt : Nat} (d : decode cc pc = .ok (.if_icmp .eq off, 3)) (ht : (pc : Int) + off = (tgt : Int))
    (kt : x = y → J p l e R s m args below meth c D A nL Q cells slots h tgt lo st) (kf : ¬ x = y → J p l e R s m args below meth c D A nL Q cells slots h (pc + 3) lo st) : J p l e R s m args below meth c D A nL Q cells slots h pc lo (.int y :: .int x :: st) :=
  fun H locs ls hH hS hl => lv_icmp_eq E.x E.b d ht (fun q => kt q H locs ls hH hS hl) (fun q => kf q H locs ls hH hS hl)
theorem j_icmp_ne (E : Cx p l s m args meth c cc nL own D A) {x y : Int32} {off : Int} {tgt : Nat} (d : decode cc pc = .ok (.if_icmp .ne off, 3)) (ht : (pc : Int) + off = (tgt : Int))
    (kt : ¬ x = y → J p l e R s m args below meth c D A nL Q cells slots h tgt lo st) (kf : x = y → J p l e R s m args below meth c D A nL Q cells slots h (pc + 3) lo st) : J p l e R s m args below meth c D A nL Q cells slots h pc lo (.int y :: .int x :: st) :=
  fun H locs ls hH hS hl => lv_icmp_ne E.x E.b d ht (fun q => kt q H locs ls hH hS hl) (fun q => kf q H locs ls hH hS hl)
theorem j_icmp_lt (E : Cx p l s m args meth c cc nL own D A) {x y : Int32} {off : Int} {tgt : Nat} (d : decode cc pc = .ok (.if_icmp .lt off, 3)) (ht : (pc : Int) + off = (tgt : Int))
    (kt : x < y → J p l e R s m args below meth c D A nL Q cells slots h tgt lo st) (kf : ¬ x < y → J p l e R s m args below meth c D A nL Q cells slots h (pc + 3) lo st) : J p l e R s m args below meth c D A nL Q cells slots h pc lo (.int y :: .int x :: st) :=
  fun H locs ls hH hS hl => lv_icmp_lt E.x E.b d ht (fun q => kt q H locs ls hH hS hl) (fun q => kf q H locs ls hH hS hl)
theorem j_icmp_ge (E : Cx p l s m args meth c cc nL own D A) {x y : Int32} {off : Int} {tgt : Nat} (d : decode cc pc = .ok (.if_icmp .ge off, 3)) (ht : (pc : Int) + off = (tgt : Int))
    (kt : y ≤ x → J p l e R s m args below meth c D A nL Q cells slots h tgt lo st) (kf : ¬ y ≤ x → J p l e R s m args below meth c D A nL Q cells slots h (pc + 3) lo st) : J p l e R s m args below meth c D A nL Q cells slots h pc lo (.int y :: .int x :: st) :=
  fun H locs ls hH hS hl => lv_icmp_ge E.x E.b d ht (fun q => kt q H locs ls hH hS hl) (fun q => kf q H locs ls hH hS hl)
theorem j_icmp_gt (E : Cx p l s m args meth c cc nL own D A) {x y : Int32} {off : Int} {tgt : Nat} (d : decode cc pc = .ok (.if_icmp .gt off, 3)) (ht : (pc : Int) + off = (tgt : Int))
    (kt : y < x → J p l e R s m args below meth c D A nL Q cells slots h tgt lo st) (kf : ¬ y < x → J p l e R s m args below meth c D A nL Q cells slots h (pc + 3) lo st) : J p l e R s m args below meth c D A nL Q cells slots h pc lo (.int y :: .int x :: st) :=
  fun H locs ls hH hS hl => lv_icmp_gt E.x E.b d ht (fun q => kt q H locs ls hH hS hl) (fun q => kf q H locs ls hH hS hl)
theorem j_icmp_le (E : Cx p l s m args meth c cc nL own D A) {x y : Int32} {off : Int} {tgt : Nat} (d : decode cc pc = .ok (.if_icmp .le off, 3)) (ht : (pc : Int) + off = (tgt : Int))
    (kt : x ≤ y → J p l e R s m args below meth c D A nL Q cells slots h tgt lo st) (kf : ¬ x ≤ y → J p l e R s m args below meth c D A nL Q cells slots h (pc + 3) lo st) : J p l e R s m args below meth c D A nL Q cells slots h pc lo (.int y :: .int x :: st) :=
  fun H locs ls hH hS hl => lv_icmp_le E.x E.b d ht (fun q => kt q H locs ls hH hS hl) (fun q => kf q H locs ls hH hS hl)
theorem j_acmp_eq (E : Cx p l s m args meth c cc nL own D A) {x y : Option Nat} {off : Int} {tgt : Nat} (d : decode cc pc = .ok (.if_acmp .eq off, 3)) (ht : (pc : Int) + off = (tgt : Int))
    (kt : x = y → J p l e R s m args below meth c D A nL Q cells slots h tgt lo st) (kf : ¬ x = y → J p l e R s m args below meth c D A nL Q cells slots h (pc + 3) lo st) : J p l e R s m args below meth c D A nL Q cells slots h pc lo (va_rf y :: va_rf x :: st) :=
  fun H locs ls hH hS hl => lv_acmp_eq E.x E.b d ht (fun q => kt q H locs ls hH hS hl) (fun q => kf q H locs ls hH hS hl)
theorem j_acmp_ne (E : Cx p l s m args meth c cc nL own D A) {x y : Option Nat} {off : Int} {tgt : Nat} (d : decode cc pc = .ok (.if_acmp .ne off, 3)) (ht : (pc : Int) + off = (tgt : Int))
    (kt : ¬ x = y → J p l e R s m args below meth c D A nL Q cells slots h tgt lo st) (kf : x = y → J p l e R s m args below meth c D A nL Q cells slots h (pc + 3) lo st) : J p l e R s m args below meth c D A nL Q cells slots h pc lo (va_rf y :: va_rf x :: st) :=
  fun H locs ls hH hS hl => lv_acmp_ne E.x E.b d ht (fun q => kt q H locs ls hH hS hl) (fun q => kf q H locs ls hH hS hl)
theorem j_goto (E : Cx p l s m args meth c cc nL own D A) {off : Int} {tgt : Nat} (d : decode cc pc = .ok (.goto off, 3)) (ht : (pc : Int) + off = (tgt : Int)) (k : J p l e R s m args below meth c D A nL Q cells slots h tgt lo st) : J p l e R s m args below meth c D A nL Q cells slots h pc lo st :=
  fun H locs ls hH hS hl => lv_goto E.x E.b d ht (k H locs ls hH hS hl)
theorem j_ifnonnull (E : Cx p l s m args meth c cc nL own D A) {x : Nat} {off : Int} {tgt : Nat} (d : decode cc pc = .ok (.ifnonnull off, 3)) (ht : (pc : Int) + off = (tgt : Int)) (k : J p l e R s m args below meth c D A nL Q cells slots h tgt lo st) : J p l e R s m args below meth c D A nL Q cells slots h pc lo (.ref x :: st) :=
  fun H locs ls hH hS hl => lv_ifnonnull E.x E.b d ht (k H locs ls hH hS hl)
theorem j_ifnonnullN (E : Cx p l s m args meth c cc nL own D A) {off : Int} (d : decode cc pc = .ok (.ifnonnull off, 3)) (k : J p l e R s m args below meth c D A nL Q cells slots h (pc + 3) lo st) : J p l e R s m args below meth c D A nL Q cells slots h pc lo (.null :: st) :=
  fun H locs ls hH hS hl => lv_ifnonnullN E.x E.b d (k H locs ls hH hS hl)
theorem j_ifnull (E : Cx p l s m args meth c cc nL own D A) {x : Nat} {off : Int} (d : decode cc pc = .ok (.ifnull off, 3)) (k : J p l e R s m args below meth c D A nL Q cells slots h (pc + 3) lo st) : J p l e R s m args below meth c D A nL Q cells slots h pc lo (.ref x :: st) :=
  fun H locs ls hH hS hl => lv_ifnull E.x E.b d (k H locs ls hH hS hl)
theorem j_ifnullN (E : Cx p l s m args meth c cc nL own D A) {off : Int} {tgt : Nat} (d : decode cc pc = .ok (.ifnull off, 3)) (ht : (pc : Int) + off = (tgt : Int)) (k : J p l e R s m args below meth c D A nL Q cells slots h tgt lo st) : J p l e R s m args below meth c D A nL Q cells slots h pc lo (.null :: st) :=
  fun H locs ls hH hS hl => lv_ifnullN E.x E.b d ht (k H locs ls hH hS hl)
theorem j_lcmp (E : Cx p l s m args meth c cc nL own D A) {x y : Int64} (d : decode cc pc = .ok (.lcmp, 1)) (k : J p l e R s m args below meth c D A nL Q cells slots h (pc + 1) lo (.int (if y < x then 1 else if x = y then 0 else -1) :: st)) : J p l e R s m args below meth c D A nL Q cells slots h pc lo (.long y :: .long x :: st) :=
  fun H locs ls hH hS hl => W.lcmp E.x E.b d (k H locs ls hH hS hl)
theorem j_ldci (E : Cx p l s m args meth c cc nL own D A) {index : Nat} {v : Int32} (hc : (Cond.constant own index v).before args s = true) (d : decode cc pc = .ok (.ldc index, 2)) (k : J p l e R s m args below meth c D A nL Q cells slots h (pc + 2) lo (.int v :: st)) : J p l e R s m args below meth c D A nL Q cells slots h pc lo st :=
  fun H locs ls hH hS hl => lv_ldc E.x E.b E.ow hc d (k H locs ls hH hS hl)
theorem j_tableOut (E : Cx p l s m args meth c cc nL own D A) {dflt lw hi : Int} {offs : Array Int} {len : Nat} {x : Int32} {tgt : Nat} (d : decode cc pc = .ok (.tableswitch dflt lw hi offs, len)) (hr : x.toInt < lw ∨ hi < x.toInt) (ht : (pc : Int) + dflt = (tgt : Int)) (k : J p l e R s m args below meth c D A nL Q cells slots h tgt lo st) : J p l e R s m args below meth c D A nL Q cells slots h pc lo (.int x :: st) :=
  fun H locs ls hH hS hl => lv_tableOut E.x E.b d hr ht (k H locs ls hH hS hl)
theorem j_tableIn (E : Cx p l s m args meth c cc nL own D A) {dflt lw hi off : Int} {offs : Array Int} {len : Nat} {x : Int32} {tgt : Nat} (d : decode cc pc = .ok (.tableswitch dflt lw hi offs, len)) (h1 : ¬ x.toInt < lw) (h2 : ¬ hi < x.toInt) (ho : offs[(x.toInt - lw).toNat]? = some off) (ht : (pc : Int) + off = (tgt : Int)) (k : J p l e R s m args below meth c D A nL Q cells slots h tgt lo st) : J p l e R s m args below meth c D A nL Q cells slots h pc lo (.int x :: st) :=
  fun H locs ls hH hS hl => lv_tableIn E.x E.b d h1 h2 ho ht (k H locs ls hH hS hl)
/-- the computed number on top gets a name -/
theorem j_topi {x : Int32} (k : ∀ y : Int32, y = x → J p l e R s m args below meth c D A nL Q cells slots h pc lo (.int y :: st)) : J p l e R s m args below meth c D A nL Q cells slots h pc lo (.int x :: st) := k x rfl
theorem j_mmin (E : Cx p l s m args meth c cc nL own D A) {index : Nat} (hlink : (Cond.methodLink own index Lib.Math.min.name).before args s = true) (hstat : (Cond.static Lib.Math.min.name).before args s = true) (hini : (Cond.initialized "java/lang/Math").before args s = true) (hcode : (Cond.code Lib.Math.min.name Lib.Math.min.code 2 (some .int)).before args s = true)
    (hr : 1 ≤ R.frames ∧ (st.map fun v => v.category).sum + 13 ≤ R.locals ∧ cells ≤ R.cells ∧ slots ≤ R.slots) {x y : Int32} (d : decode cc pc = .ok (.invokestatic index, 3)) (k : J p l e R s m args below meth c D A nL Q cells slots h (pc + 3) lo (.int (if y < x then y else x) :: st)) : J p l e R s m args below meth c D A nL Q cells slots h pc lo (.int y :: .int x :: st) :=
  fun H locs ls hH hS hl => va_mmin E.x E.b (E.ml.trans hl.1.symm) E.ow hlink hstat hini hcode hr.1 hr.2.1 hr.2.2.1 hr.2.2.2 d (k H locs ls hH hS hl)
theorem j_mmax (E : Cx p l s m args meth c cc nL own D A) {index : Nat} (hlink : (Cond.methodLink own index Lib.Math.max.name).before args s = true) (hstat : (Cond.static Lib.Math.max.name).before args s = true) (hini : (Cond.initialized "java/lang/Math").before args s = true) (hcode : (Cond.code Lib.Math.max.name Lib.Math.max.code 2 (some .int)).before args s = true)
    (hr : 1 ≤ R.frames ∧ (st.map fun v => v.category).sum + 13 ≤ R.locals ∧ cells ≤ R.cells ∧ slots ≤ R.slots) {x y : Int32} (d : decode cc pc = .ok (.invokestatic index, 3)) (k : J p l e R s m args below meth c D A nL Q cells slots h (pc + 3) lo (.int (if x < y then y else x) :: st)) : J p l e R s m args below meth c D A nL Q cells slots h pc lo (.int y :: .int x :: st) :=
  fun H locs ls hH hS hl => va_mmax E.x E.b (E.ml.trans hl.1.symm) E.ow hlink hstat hini hcode hr.1 hr.2.1 hr.2.2.1 hr.2.2.2 d (k H locs ls hH hS hl)
theorem j_objInit (E : Cx p l s m args meth c cc nL own D A) {idx a : Nat} (hlink : (Cond.methodLink own idx Lib.objectInit).before args s = true) (hinst : (Cond.instanceMethod Lib.objectInit).before args s = true) (hcode : (Cond.code Lib.objectInit ⟨#[0xb1]⟩ 1 none).before args s = true) (d : decode cc pc = .ok (.invokespecial idx, 3))
    (hf : 1 ≤ R.frames ∧ (st.map fun v => v.category).sum + 12 ≤ R.locals) (k : J p l e R s m args below meth c D A nL Q cells slots h (pc + 3) lo st) : J p l e R s m args below meth c D A nL Q cells slots h pc lo (.ref a :: st) :=
  fun H locs ls hH hS hl => W.objInit E.x E.b E.ow hlink hinst hcode rfl (by rw [E.ml]; exact hl.1) rfl d hf.1 (by show 2 * 0 + _ + 12 ≤ _; omega) (k H locs ls hH hS hl)
end JR
