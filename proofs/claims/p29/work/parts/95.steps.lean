/-! the law, a step: its kinds of call, each from its start to the join -/
section SG
variable {p : Program} {l : Launch} {e : Env} {R : Room} {s : State} {m : MethodId} {args : Array Value} {below : List Frame} {meth : Method} {c : Code} {D : va_G} {A : Nat → Prop} {Q : State → Prop}
set_option maxHeartbeats 4000000 in
set_option maxRecDepth 100000 in
theorem sg_resin (E : Cx p l s m args meth c cL_law 24 RL D A) {S : St} {a0 sa pa sc : Nat} {sh pt : Nat → Int32} {mo ma n6 kk w9 m9 r9 iw kind : Int32} {bf : Int64} {h : AH} (L : LwP S a0 (twoA sa pa sh pt) h) (hne : sa ≠ pa) (P : PI S sh pt) (hmo : mo = S.1 0 2 0) (hma : ma = S.1 0 3 0) (hF : 12 ≤ R.frames ∧ 600 ≤ R.locals) {cells slots : Nat} (hR : cells + 130 ≤ R.cells ∧ slots + 6000 ≤ R.slots) (kj : ∀ (S' : St) (h' : AH) (sh' pt' : Nat → Int32) (mo' ma' its : Int32) (cells' slots' : Nat), LwP S' a0 (twoA sa pa sh' pt') h' → PI S' sh' pt' → mo' = S'.1 0 2 0 → ma' = S'.1 0 3 0 → (its < -1000 → S' = S) → cells' ≤ cells + 130 → slots' ≤ slots + 6000 → J p l e R s m args below meth c D A 24 Q cells' slots' h' 834 [(0, .ref sc), (1, .ref a0), (2, .ref sa), (3, .ref pa), (4, .int mo'), (5, .int ma'), (6, .int n6), (7, .int kk), (12, .int iw), (13, .long bf), (15, .int its)] []) : J p l e R s m args below meth c D A 24 Q cells slots h 193 [(0, .ref sc), (1, .ref a0), (2, .ref sa), (3, .ref pa), (4, .int mo), (5, .int ma), (6, .int n6), (7, .int kk), (9, .int w9), (10, .int m9), (11, .int r9), (12, .int iw), (13, .long bf), (16, .int kind)] [] := by
  have I := L.inv
  refine j_aload_n E dL_law_193 rfl ?_
  refine j_iload E dL_law_194 rfl ?_
  refine j_iconst (v := 5) E dL_law_196 ci_5 ?_
  refine j_irem E (by decide) dL_law_197 ?_
  refine j_mut E L (r := (p_addResin S (w9 - w9 / 5 * 5))) (fun hC0 ok => h_resin l D S a0 hC0 ok (w9 - w9 / 5 * 5)) (cww_resin E ⟨by show _ ≤ R.frames; omega, by show _ ≤ R.locals; omega, by show _ ≤ R.cells; omega, by show _ ≤ R.slots; omega, Nat.le_of_ble_eq_true rfl⟩) (q_120 E.tb) rfl dL_law_198 rfl (fun h198 L => ?_)
  refine j_istore E dL_law_201 (by decide) ?_
  refine j_goto (tgt := 834) E dL_law_203 (by decide) ?_
  obtain ⟨g1, g2, g3, g4⟩ := kp_use (r := (p_addResin S (w9 - w9 / 5 * 5))) P hmo hma (fun hz => sx_addResin I P hz)
  refine J.sub (lo' := [(0, .ref sc), (1, .ref a0), (2, .ref sa), (3, .ref pa), (4, .int mo), (5, .int ma), (6, .int n6), (7, .int kk), (12, .int iw), (13, .long bf), (15, .int (rc (p_addResin S (w9 - w9 / 5 * 5))))]) ⟨rfl, rfl, rfl, rfl, rfl, rfl, rfl, rfl, rfl, rfl, rfl, trivial⟩ ?_
  exact kj _ _ _ _ mo ma (rc (p_addResin S (w9 - w9 / 5 * 5))) _ _ L g1 g2 g3 g4 (by omega) (by omega)
set_option maxHeartbeats 4000000 in
set_option maxRecDepth 100000 in
theorem sg_fill (E : Cx p l s m args meth c cL_law 24 RL D A) {S : St} {a0 sa pa sc : Nat} {sh pt : Nat → Int32} {mo ma n6 kk w9 m9 r9 iw kind : Int32} {bf : Int64} {h : AH} (L : LwP S a0 (twoA sa pa sh pt) h) (hne : sa ≠ pa) (P : PI S sh pt) (hmo : mo = S.1 0 2 0) (hma : ma = S.1 0 3 0) (hF : 12 ≤ R.frames ∧ 600 ≤ R.locals) {cells slots : Nat} (hR : cells + 130 ≤ R.cells ∧ slots + 6000 ≤ R.slots) (kj : ∀ (S' : St) (h' : AH) (sh' pt' : Nat → Int32) (mo' ma' its : Int32) (cells' slots' : Nat), LwP S' a0 (twoA sa pa sh' pt') h' → PI S' sh' pt' → mo' = S'.1 0 2 0 → ma' = S'.1 0 3 0 → (its < -1000 → S' = S) → cells' ≤ cells + 130 → slots' ≤ slots + 6000 → J p l e R s m args below meth c D A 24 Q cells' slots' h' 834 [(0, .ref sc), (1, .ref a0), (2, .ref sa), (3, .ref pa), (4, .int mo'), (5, .int ma'), (6, .int n6), (7, .int kk), (12, .int iw), (13, .long bf), (15, .int its)] []) : J p l e R s m args below meth c D A 24 Q cells slots h 212 [(0, .ref sc), (1, .ref a0), (2, .ref sa), (3, .ref pa), (4, .int mo), (5, .int ma), (6, .int n6), (7, .int kk), (9, .int w9), (10, .int m9), (11, .int r9), (12, .int iw), (13, .long bf), (16, .int kind)] [] := by
  have I := L.inv
  refine j_aload_n E dL_law_212 rfl ?_
  refine j_iload E dL_law_213 rfl ?_
  refine j_iconst (v := 1) E dL_law_215 ci_1 ?_
  refine j_iload E dL_law_216 rfl ?_
  refine j_bipush (v := 20) E dL_law_218 cb_20 ?_
  refine j_idiv E dL_law_220 (by decide) ?_
  refine j_ldci E (q_732 E.tb) dL_law_221 ?_
  refine j_irem E (by decide) dL_law_223 ?_
  refine j_iadd E dL_law_224 ?_
  refine j_mut E L (r := (p_fill S r9 (1 + ((w9 / 20) - (w9 / 20) / 50000 * 50000)))) (fun hC0 ok => h_fill l D S a0 hC0 ok r9 (1 + ((w9 / 20) - (w9 / 20) / 50000 * 50000))) (cww_fill E ⟨by show _ ≤ R.frames; omega, by show _ ≤ R.locals; omega, by show _ ≤ R.cells; omega, by show _ ≤ R.slots; omega, Nat.le_of_ble_eq_true rfl⟩) (q_233 E.tb) rfl dL_law_225 rfl (fun h225 L => ?_)
  refine j_istore E dL_law_228 (by decide) ?_
  refine j_goto (tgt := 834) E dL_law_230 (by decide) ?_
  obtain ⟨g1, g2, g3, g4⟩ := kp_use (r := (p_fill S r9 (1 + ((w9 / 20) - (w9 / 20) / 50000 * 50000)))) P hmo hma (fun hz => sx_fill I P hz)
  refine J.sub (lo' := [(0, .ref sc), (1, .ref a0), (2, .ref sa), (3, .ref pa), (4, .int mo), (5, .int ma), (6, .int n6), (7, .int kk), (12, .int iw), (13, .long bf), (15, .int (rc (p_fill S r9 (1 + ((w9 / 20) - (w9 / 20) / 50000 * 50000)))))]) ⟨rfl, rfl, rfl, rfl, rfl, rfl, rfl, rfl, rfl, rfl, rfl, trivial⟩ ?_
  exact kj _ _ _ _ mo ma (rc (p_fill S r9 (1 + ((w9 / 20) - (w9 / 20) / 50000 * 50000)))) _ _ L g1 g2 g3 g4 (by omega) (by omega)
set_option maxHeartbeats 4000000 in
set_option maxRecDepth 100000 in
theorem sg_life (E : Cx p l s m args meth c cL_law 24 RL D A) {S : St} {a0 sa pa sc : Nat} {sh pt : Nat → Int32} {mo ma n6 kk w9 m9 r9 iw kind : Int32} {bf : Int64} {h : AH} (L : LwP S a0 (twoA sa pa sh pt) h) (hne : sa ≠ pa) (P : PI S sh pt) (hmo : mo = S.1 0 2 0) (hma : ma = S.1 0 3 0) (hF : 12 ≤ R.frames ∧ 600 ≤ R.locals) {cells slots : Nat} (hR : cells + 130 ≤ R.cells ∧ slots + 6000 ≤ R.slots) (kj : ∀ (S' : St) (h' : AH) (sh' pt' : Nat → Int32) (mo' ma' its : Int32) (cells' slots' : Nat), LwP S' a0 (twoA sa pa sh' pt') h' → PI S' sh' pt' → mo' = S'.1 0 2 0 → ma' = S'.1 0 3 0 → (its < -1000 → S' = S) → cells' ≤ cells + 130 → slots' ≤ slots + 6000 → J p l e R s m args below meth c D A 24 Q cells' slots' h' 834 [(0, .ref sc), (1, .ref a0), (2, .ref sa), (3, .ref pa), (4, .int mo'), (5, .int ma'), (6, .int n6), (7, .int kk), (12, .int iw), (13, .long bf), (15, .int its)] []) : J p l e R s m args below meth c D A 24 Q cells slots h 425 [(0, .ref sc), (1, .ref a0), (2, .ref sa), (3, .ref pa), (4, .int mo), (5, .int ma), (6, .int n6), (7, .int kk), (9, .int w9), (10, .int m9), (11, .int r9), (12, .int iw), (13, .long bf), (16, .int kind)] [] := by
  have I := L.inv
  refine j_aload_n E dL_law_425 rfl ?_
  refine j_iload E dL_law_426 rfl ?_
  refine j_iload E dL_law_428 rfl ?_
  refine j_iconst (v := 5) E dL_law_430 ci_5 ?_
  refine j_idiv E dL_law_431 (by decide) ?_
  refine j_bipush (v := 8) E dL_law_432 cb_8 ?_
  refine j_irem E (by decide) dL_law_434 ?_
  refine j_iconst (v := 1) E dL_law_435 ci_1 ?_
  refine j_iload E dL_law_436 rfl ?_
  refine j_bipush (v := 40) E dL_law_438 cb_40 ?_
  refine j_idiv E dL_law_440 (by decide) ?_
  refine j_sipush (v := 200) E dL_law_441 cs_200 ?_
  refine j_irem E (by decide) dL_law_444 ?_
  refine j_iadd E dL_law_445 ?_
  refine j_mut E L (r := (p_setLife S m9 ((w9 / 5) - (w9 / 5) / 8 * 8) (1 + ((w9 / 40) - (w9 / 40) / 200 * 200)))) (fun hC0 ok => h_life l D S a0 hC0 ok m9 ((w9 / 5) - (w9 / 5) / 8 * 8) (1 + ((w9 / 40) - (w9 / 40) / 200 * 200))) (cww_life E ⟨by show _ ≤ R.frames; omega, by show _ ≤ R.locals; omega, by show _ ≤ R.cells; omega, by show _ ≤ R.slots; omega, Nat.le_of_ble_eq_true rfl⟩) (q_421 E.tb) rfl dL_law_446 rfl (fun h446 L => ?_)
  refine j_istore E dL_law_449 (by decide) ?_
  refine j_goto (tgt := 834) E dL_law_451 (by decide) ?_
  obtain ⟨g1, g2, g3, g4⟩ := kp_use (r := (p_setLife S m9 ((w9 / 5) - (w9 / 5) / 8 * 8) (1 + ((w9 / 40) - (w9 / 40) / 200 * 200)))) P hmo hma (fun hz => sx_setLife I P hz)
  refine J.sub (lo' := [(0, .ref sc), (1, .ref a0), (2, .ref sa), (3, .ref pa), (4, .int mo), (5, .int ma), (6, .int n6), (7, .int kk), (12, .int iw), (13, .long bf), (15, .int (rc (p_setLife S m9 ((w9 / 5) - (w9 / 5) / 8 * 8) (1 + ((w9 / 40) - (w9 / 40) / 200 * 200)))))]) ⟨rfl, rfl, rfl, rfl, rfl, rfl, rfl, rfl, rfl, rfl, rfl, trivial⟩ ?_
  exact kj _ _ _ _ mo ma (rc (p_setLife S m9 ((w9 / 5) - (w9 / 5) / 8 * 8) (1 + ((w9 / 40) - (w9 / 40) / 200 * 200)))) _ _ L g1 g2 g3 g4 (by omega) (by omega)
set_option maxHeartbeats 4000000 in
set_option maxRecDepth 100000 in
theorem sg_run (E : Cx p l s m args meth c cL_law 24 RL D A) {S : St} {a0 sa pa sc : Nat} {sh pt : Nat → Int32} {mo ma n6 kk w9 m9 r9 iw kind : Int32} {bf : Int64} {h : AH} (L : LwP S a0 (twoA sa pa sh pt) h) (hne : sa ≠ pa) (P : PI S sh pt) (hmo : mo = S.1 0 2 0) (hma : ma = S.1 0 3 0) (hF : 12 ≤ R.frames ∧ 600 ≤ R.locals) {cells slots : Nat} (hR : cells + 130 ≤ R.cells ∧ slots + 6000 ≤ R.slots) (kj : ∀ (S' : St) (h' : AH) (sh' pt' : Nat → Int32) (mo' ma' its : Int32) (cells' slots' : Nat), LwP S' a0 (twoA sa pa sh' pt') h' → PI S' sh' pt' → mo' = S'.1 0 2 0 → ma' = S'.1 0 3 0 → (its < -1000 → S' = S) → cells' ≤ cells + 130 → slots' ≤ slots + 6000 → J p l e R s m args below meth c D A 24 Q cells' slots' h' 834 [(0, .ref sc), (1, .ref a0), (2, .ref sa), (3, .ref pa), (4, .int mo'), (5, .int ma'), (6, .int n6), (7, .int kk), (12, .int iw), (13, .long bf), (15, .int its)] []) : J p l e R s m args below meth c D A 24 Q cells slots h 677 [(0, .ref sc), (1, .ref a0), (2, .ref sa), (3, .ref pa), (4, .int mo), (5, .int ma), (6, .int n6), (7, .int kk), (9, .int w9), (10, .int m9), (11, .int r9), (12, .int iw), (13, .long bf), (16, .int kind)] [] := by
  have I := L.inv
  refine j_aload_n E dL_law_677 rfl ?_
  refine j_bipush (v := 114) E dL_law_678 cb_114 ?_
  refine j_iload E dL_law_680 rfl ?_
  refine j_iconst (v := 5) E dL_law_682 ci_5 ?_
  refine j_idiv E dL_law_683 (by decide) ?_
  refine j_iconst (v := 1) E dL_law_684 ci_1 ?_
  refine j_iload E dL_law_685 rfl ?_
  refine j_mmax E (q_730 E.tb) (q_338 E.tb) (q_12 E.tb) (q_339 E.tb) ⟨by omega, Nat.le_trans (Nat.le_of_ble_eq_true rfl : _ ≤ 100) (by omega), by omega, by omega⟩ dL_law_687 ?_
  refine j_irem E (mx1 _) dL_law_690 ?_
  refine j_iload E dL_law_691 rfl ?_
  refine j_bipush (v := 15) E dL_law_693 cb_15 ?_
  refine j_idiv E dL_law_695 (by decide) ?_
  refine j_iconst (v := 1) E dL_law_696 ci_1 ?_
  refine j_aload_n E dL_law_697 rfl ?_
  refine j_lkS E L (fun hC0 ok => k_orders l D S a0 hC0 ok) (cw_L_137 E ⟨by show _ ≤ R.frames; omega, by show _ ≤ R.locals; omega, by show _ ≤ R.cells; omega, by show _ ≤ R.slots; omega, Nat.le_of_ble_eq_true rfl⟩) (q_681 E.tb) rfl dL_law_698 rfl ?_
  refine j_mmax E (q_730 E.tb) (q_338 E.tb) (q_12 E.tb) (q_339 E.tb) ⟨by omega, Nat.le_trans (Nat.le_of_ble_eq_true rfl : _ ≤ 100) (by omega), by omega, by omega⟩ dL_law_701 ?_
  refine j_irem E (mx1 _) dL_law_704 ?_
  refine j_mut E L (r := (p_run S ((w9 / 5) - (w9 / 5) / (if 1 < ma then ma else 1) * (if 1 < ma then ma else 1)) ((w9 / 15) - (w9 / 15) / (if 1 < (S.1 0 4 0) then (S.1 0 4 0) else 1) * (if 1 < (S.1 0 4 0) then (S.1 0 4 0) else 1)))) (fun hC0 ok => h_putsR l D S a0 hC0 ok ((w9 / 5) - (w9 / 5) / (if 1 < ma then ma else 1) * (if 1 < ma then ma else 1)) ((w9 / 15) - (w9 / 15) / (if 1 < (S.1 0 4 0) then (S.1 0 4 0) else 1) * (if 1 < (S.1 0 4 0) then (S.1 0 4 0) else 1))) (cww_puts E ⟨by show _ ≤ R.frames; omega, by show _ ≤ R.locals; omega, by show _ ≤ R.cells; omega, by show _ ≤ R.slots; omega, Nat.le_of_ble_eq_true rfl⟩) (q_504 E.tb) rfl dL_law_705 rfl (fun h705 L => ?_)
  refine j_istore E dL_law_708 (by decide) ?_
  refine j_goto (tgt := 834) E dL_law_710 (by decide) ?_
  obtain ⟨g1, g2, g3, g4⟩ := kp_use (r := (p_run S ((w9 / 5) - (w9 / 5) / (if 1 < ma then ma else 1) * (if 1 < ma then ma else 1)) ((w9 / 15) - (w9 / 15) / (if 1 < (S.1 0 4 0) then (S.1 0 4 0) else 1) * (if 1 < (S.1 0 4 0) then (S.1 0 4 0) else 1)))) P hmo hma (fun hz => sx_run I P hz)
  refine J.sub (lo' := [(0, .ref sc), (1, .ref a0), (2, .ref sa), (3, .ref pa), (4, .int mo), (5, .int ma), (6, .int n6), (7, .int kk), (12, .int iw), (13, .long bf), (15, .int (rc (p_run S ((w9 / 5) - (w9 / 5) / (if 1 < ma then ma else 1) * (if 1 < ma then ma else 1)) ((w9 / 15) - (w9 / 15) / (if 1 < (S.1 0 4 0) then (S.1 0 4 0) else 1) * (if 1 < (S.1 0 4 0) then (S.1 0 4 0) else 1)))))]) ⟨rfl, rfl, rfl, rfl, rfl, rfl, rfl, rfl, rfl, rfl, rfl, trivial⟩ ?_
  exact kj _ _ _ _ mo ma (rc (p_run S ((w9 / 5) - (w9 / 5) / (if 1 < ma then ma else 1) * (if 1 < ma then ma else 1)) ((w9 / 15) - (w9 / 15) / (if 1 < (S.1 0 4 0) then (S.1 0 4 0) else 1) * (if 1 < (S.1 0 4 0) then (S.1 0 4 0) else 1)))) _ _ L g1 g2 g3 g4 (by omega) (by omega)
theorem lt0_of {x : Int32} (h : x < -1000) : x < 0 := by
  rw [i32_lt] at h ⊢
  rw [i32_m1000] at h
  rw [i32_0]
  omega
theorem em_lots {S : St} {x : Int32} (hz : (p_empty S x).1.1 0 8 0 = 0) : (p_empty S x).1.1 0 1 0 = S.1 0 1 0 - 1 := by
  revert hz
  unfold p_empty
  split
  · intro hz; exact absurd (s1_eq.symm.trans hz) (by decide)
  · intro _; exact lev_l
set_option maxHeartbeats 4000000 in
set_option maxRecDepth 100000 in
theorem sg_empty (E : Cx p l s m args meth c cL_law 24 RL D A) {S : St} {a0 sa pa sc : Nat} {sh pt : Nat → Int32} {mo ma n6 kk w9 m9 r9 iw kind : Int32} {bf : Int64} {h : AH} (L : LwP S a0 (twoA sa pa sh pt) h) (hne : sa ≠ pa) (P : PI S sh pt) (hmo : mo = S.1 0 2 0) (hma : ma = S.1 0 3 0) (hF : 12 ≤ R.frames ∧ 600 ≤ R.locals) {cells slots : Nat} (hR : cells + 130 ≤ R.cells ∧ slots + 6000 ≤ R.slots) (kj : ∀ (S' : St) (h' : AH) (sh' pt' : Nat → Int32) (mo' ma' its : Int32) (cells' slots' : Nat), LwP S' a0 (twoA sa pa sh' pt') h' → PI S' sh' pt' → mo' = S'.1 0 2 0 → ma' = S'.1 0 3 0 → (its < -1000 → S' = S) → cells' ≤ cells + 130 → slots' ≤ slots + 6000 → J p l e R s m args below meth c D A 24 Q cells' slots' h' 834 [(0, .ref sc), (1, .ref a0), (2, .ref sa), (3, .ref pa), (4, .int mo'), (5, .int ma'), (6, .int n6), (7, .int kk), (12, .int iw), (13, .long bf), (15, .int its)] []) : J p l e R s m args below meth c D A 24 Q cells slots h 239 [(0, .ref sc), (1, .ref a0), (2, .ref sa), (3, .ref pa), (4, .int mo), (5, .int ma), (6, .int n6), (7, .int kk), (9, .int w9), (10, .int m9), (11, .int r9), (12, .int iw), (13, .long bf), (16, .int kind)] [] := by
  have I := L.inv
  refine j_aload_n E dL_law_239 rfl ?_
  refine j_lkV E L (fun hC0 ok => kl_lots l D S a0 hC0 ok) (cw_L_124 E ⟨by show _ ≤ R.frames; omega, by show _ ≤ R.locals; omega, by show _ ≤ R.cells; omega, by show _ ≤ R.slots; omega, Nat.le_of_ble_eq_true rfl⟩) (q_106 E.tb) (q_107 E.tb) rfl rfl dL_law_240 rfl ?_
  refine j_istore E dL_law_243 (by decide) ?_
  refine j_aload_n E dL_law_245 rfl ?_
  refine j_iload E dL_law_246 rfl ?_
  refine j_iconst (v := 3) E dL_law_248 ci_3 ?_
  refine j_irem E (by decide) dL_law_249 ?_
  refine j_iconst (v := 0) E dL_law_250 ci_0 ?_
  refine j_mut E L (r := (p_empty S (w9 - w9 / 3 * 3))) (fun hC0 ok => h_lotE l D S a0 hC0 ok (w9 - w9 / 3 * 3)) (cww_lot E ⟨by show _ ≤ R.frames; omega, by show _ ≤ R.locals; omega, by show _ ≤ R.cells; omega, by show _ ≤ R.slots; omega, Nat.le_of_ble_eq_true rfl⟩) (q_310 E.tb) rfl dL_law_251 rfl (fun h251 L => ?_)
  refine j_istore E dL_law_254 (by decide) ?_
  refine j_iload E dL_law_256 rfl ?_
  by_cases hz : (p_empty S (w9 - w9 / 3 * 3)).1.1 0 8 0 = 0
  · refine j_if_lt (tgt := 274) E dL_law_258 (by decide) (fun q => ((by rw [rc_0 hz]; exact rg_nn (sx_empty I P hz).2.2.2 : ¬ rc (p_empty S (w9 - w9 / 3 * 3)) < 0) q).elim) (fun _ => ?_)
    refine j_aload_n E dL_law_261 rfl ?_
    refine j_lkV E L (fun hC0 ok => kl_lots l D (nx S (p_empty S (w9 - w9 / 3 * 3))) a0 hC0 ok) (cw_L_124 E ⟨by show _ ≤ R.frames; omega, by show _ ≤ R.locals; omega, by show _ ≤ R.cells; omega, by show _ ≤ R.slots; omega, Nat.le_of_ble_eq_true rfl⟩) (q_106 E.tb) (q_107 E.tb) rfl rfl dL_law_262 rfl ?_
    refine j_iload E dL_law_265 rfl ?_
    refine j_iconst (v := 1) E dL_law_267 ci_1 ?_
    refine j_isub E dL_law_268 ?_
    refine j_icmp_eq (tgt := 274) E dL_law_269 (by decide) (fun _ => ?_) (fun q => (q (by rw [nx_0 hz]; exact em_lots hz)).elim)
    refine j_goto (tgt := 834) E dL_law_274 (by decide) ?_
    obtain ⟨g1, g2, g3, g4⟩ := kp_use (r := (p_empty S (w9 - w9 / 3 * 3))) P hmo hma (fun hz => sx_empty I P hz)
    refine J.sub (lo' := [(0, .ref sc), (1, .ref a0), (2, .ref sa), (3, .ref pa), (4, .int mo), (5, .int ma), (6, .int n6), (7, .int kk), (12, .int iw), (13, .long bf), (15, .int (rc (p_empty S (w9 - w9 / 3 * 3))))]) ⟨rfl, rfl, rfl, rfl, rfl, rfl, rfl, rfl, rfl, rfl, rfl, trivial⟩ ?_
    exact kj _ _ _ _ mo ma (rc (p_empty S (w9 - w9 / 3 * 3))) _ _ L g1 g2 g3 g4 (by omega) (by omega)
  · refine j_if_lt (tgt := 274) E dL_law_258 (by decide) (fun _ => ?_) (fun q => (q (lt0_of (ng_empty hz))).elim)
    refine j_goto (tgt := 834) E dL_law_274 (by decide) ?_
    obtain ⟨g1, g2, g3, g4⟩ := kp_use (r := (p_empty S (w9 - w9 / 3 * 3))) P hmo hma (fun hz => sx_empty I P hz)
    refine J.sub (lo' := [(0, .ref sc), (1, .ref a0), (2, .ref sa), (3, .ref pa), (4, .int mo), (5, .int ma), (6, .int n6), (7, .int kk), (12, .int iw), (13, .long bf), (15, .int (rc (p_empty S (w9 - w9 / 3 * 3))))]) ⟨rfl, rfl, rfl, rfl, rfl, rfl, rfl, rfl, rfl, rfl, rfl, trivial⟩ ?_
    exact kj _ _ _ _ mo ma (rc (p_empty S (w9 - w9 / 3 * 3))) _ _ L g1 g2 g3 g4 (by omega) (by omega)
set_option maxHeartbeats 4000000 in
set_option maxRecDepth 100000 in
theorem sg_machine (E : Cx p l s m args meth c cL_law 24 RL D A) {S : St} {a0 sa pa sc : Nat} {sh pt : Nat → Int32} {mo ma n6 kk w9 m9 r9 iw kind : Int32} {bf : Int64} {h : AH} (L : LwP S a0 (twoA sa pa sh pt) h) (hne : sa ≠ pa) (P : PI S sh pt) (hmo : mo = S.1 0 2 0) (hma : ma = S.1 0 3 0) (hF : 12 ≤ R.frames ∧ 600 ≤ R.locals) {cells slots : Nat} (hR : cells + 130 ≤ R.cells ∧ slots + 6000 ≤ R.slots) (kj : ∀ (S' : St) (h' : AH) (sh' pt' : Nat → Int32) (mo' ma' its : Int32) (cells' slots' : Nat), LwP S' a0 (twoA sa pa sh' pt') h' → PI S' sh' pt' → mo' = S'.1 0 2 0 → ma' = S'.1 0 3 0 → (its < -1000 → S' = S) → cells' ≤ cells + 130 → slots' ≤ slots + 6000 → J p l e R s m args below meth c D A 24 Q cells' slots' h' 834 [(0, .ref sc), (1, .ref a0), (2, .ref sa), (3, .ref pa), (4, .int mo'), (5, .int ma'), (6, .int n6), (7, .int kk), (12, .int iw), (13, .long bf), (15, .int its)] []) : J p l e R s m args below meth c D A 24 Q cells slots h 386 [(0, .ref sc), (1, .ref a0), (2, .ref sa), (3, .ref pa), (4, .int mo), (5, .int ma), (6, .int n6), (7, .int kk), (9, .int w9), (10, .int m9), (11, .int r9), (12, .int iw), (13, .long bf), (16, .int kind)] [] := by
  have I := L.inv
  refine j_aload_n E dL_law_386 rfl ?_
  refine j_bipush (v := 20) E dL_law_387 cb_20 ?_
  refine j_iload E dL_law_389 rfl ?_
  refine j_bipush (v := 80) E dL_law_391 cb_80 ?_
  refine j_irem E (by decide) dL_law_393 ?_
  refine j_iadd E dL_law_394 ?_
  refine j_mut E L (r := (p_addMachine S (20 + (w9 - w9 / 80 * 80)))) (fun hC0 ok => h_machine l D S a0 hC0 ok (20 + (w9 - w9 / 80 * 80))) (cww_machine E ⟨by show _ ≤ R.frames; omega, by show _ ≤ R.locals; omega, by show _ ≤ R.cells; omega, by show _ ≤ R.slots; omega, Nat.le_of_ble_eq_true rfl⟩) (q_480 E.tb) rfl dL_law_395 rfl (fun h395 L => ?_)
  refine j_istore E dL_law_398 (by decide) ?_
  refine j_iload E dL_law_400 rfl ?_
  refine j_iload E dL_law_402 rfl ?_
  by_cases hz : (p_addMachine S (20 + (w9 - w9 / 80 * 80))).1.1 0 8 0 = 0
  · refine j_if_lt (tgt := 411) E dL_law_404 (by decide) (fun q => ((by rw [rc_0 hz]; exact rg_nn (sx_addMachine I P hz).2.2.2 : ¬ rc (p_addMachine S (20 + (w9 - w9 / 80 * 80))) < 0) q).elim) (fun _ => ?_)
    refine j_iconst (v := 1) E dL_law_407 ci_1 ?_
    refine j_goto (tgt := 412) E dL_law_408 (by decide) ?_
    refine j_iadd E dL_law_412 ?_
    refine j_istore E dL_law_413 (by decide) ?_
    refine j_goto (tgt := 834) E dL_law_415 (by decide) ?_
    rw [nx_0 hz] at L
    refine J.sub (lo' := [(0, .ref sc), (1, .ref a0), (2, .ref sa), (3, .ref pa), (4, .int mo), (5, .int (ma + 1)), (6, .int n6), (7, .int kk), (12, .int iw), (13, .long bf), (15, .int (rc (p_addMachine S (20 + (w9 - w9 / 80 * 80)))))]) ⟨rfl, rfl, rfl, rfl, rfl, rfl, rfl, rfl, rfl, rfl, rfl, trivial⟩ ?_
    exact kj _ _ _ _ mo (ma + 1) (rc (p_addMachine S (20 + (w9 - w9 / 80 * 80)))) _ _ L (sx_addMachine I P hz).1 (hmo.trans (sx_addMachine I P hz).2.1.symm) (by rw [(sx_addMachine I P hz).2.2.1, hma]) (fun q => absurd q (by rw [rc_0 hz]; exact nlt (sx_addMachine I P hz).2.2.2)) (by omega) (by omega)
  · refine j_if_lt (tgt := 411) E dL_law_404 (by decide) (fun _ => ?_) (fun q => (q (lt0_of (ng_addMachine hz))).elim)
    refine j_iconst (v := 0) E dL_law_411 ci_0 ?_
    refine j_iadd E dL_law_412 ?_
    refine j_istore E dL_law_413 (by decide) ?_
    refine j_goto (tgt := 834) E dL_law_415 (by decide) ?_
    rw [nx_1 hz] at L
    rw [Int32.add_zero]
    refine J.sub (lo' := [(0, .ref sc), (1, .ref a0), (2, .ref sa), (3, .ref pa), (4, .int mo), (5, .int ma), (6, .int n6), (7, .int kk), (12, .int iw), (13, .long bf), (15, .int (rc (p_addMachine S (20 + (w9 - w9 / 80 * 80)))))]) ⟨rfl, rfl, rfl, rfl, rfl, rfl, rfl, rfl, rfl, rfl, rfl, trivial⟩ ?_
    exact kj _ _ _ _ mo ma (rc (p_addMachine S (20 + (w9 - w9 / 80 * 80)))) _ _ L P hmo hma (fun _ => rfl) (by omega) (by omega)
set_option maxHeartbeats 4000000 in
set_option maxRecDepth 100000 in
theorem sg_mould (E : Cx p l s m args meth c cL_law 24 RL D A) {S : St} {a0 sa pa sc : Nat} {sh pt : Nat → Int32} {mo ma n6 kk w9 m9 r9 iw kind : Int32} {bf : Int64} {h : AH} (L : LwP S a0 (twoA sa pa sh pt) h) (hne : sa ≠ pa) (P : PI S sh pt) (hmo : mo = S.1 0 2 0) (hma : ma = S.1 0 3 0) (hF : 12 ≤ R.frames ∧ 600 ≤ R.locals) {cells slots : Nat} (hR : cells + 130 ≤ R.cells ∧ slots + 6000 ≤ R.slots) (kj : ∀ (S' : St) (h' : AH) (sh' pt' : Nat → Int32) (mo' ma' its : Int32) (cells' slots' : Nat), LwP S' a0 (twoA sa pa sh' pt') h' → PI S' sh' pt' → mo' = S'.1 0 2 0 → ma' = S'.1 0 3 0 → (its < -1000 → S' = S) → cells' ≤ cells + 130 → slots' ≤ slots + 6000 → J p l e R s m args below meth c D A 24 Q cells' slots' h' 834 [(0, .ref sc), (1, .ref a0), (2, .ref sa), (3, .ref pa), (4, .int mo'), (5, .int ma'), (6, .int n6), (7, .int kk), (12, .int iw), (13, .long bf), (15, .int its)] []) : J p l e R s m args below meth c D A 24 Q cells slots h 284 [(0, .ref sc), (1, .ref a0), (2, .ref sa), (3, .ref pa), (4, .int mo), (5, .int ma), (6, .int n6), (7, .int kk), (9, .int w9), (10, .int m9), (11, .int r9), (12, .int iw), (13, .long bf), (16, .int kind)] [] := by
  have I := L.inv
  refine j_iconst (v := 5) E dL_law_284 ci_5 ?_
  refine na_int E (N := 5) (by decide) (by decide) (by decide) ⟨by omega, by omega⟩ dL_law_285 (fun a285 h285 f285 n285 u285 => ?_)
  have hns := twoA_no L f285
  have L := L.new f285 n285 u285
  refine j_dup E dL_law_287 rfl ?_
  refine j_iconst (v := 0) E dL_law_288 ci_0 ?_
  refine j_iconst (v := 1) E dL_law_289 ci_1 ?_
  refine j_iload E dL_law_290 rfl ?_
  refine j_bipush (v := 8) E dL_law_292 cb_8 ?_
  refine j_irem E (by decide) dL_law_294 ?_
  refine j_iadd E dL_law_295 ?_
  refine s_iast E (L.x hup_eq) (vin_nI (n := 5) (k := 0) (by decide) (by decide)) dL_law_296 (fun h296 n296 u296 => ?_)
  have L := L.put1 n296 u296
  refine j_dup E dL_law_297 rfl ?_
  refine j_iconst (v := 1) E dL_law_298 ci_1 ?_
  refine j_iconst (v := 1) E dL_law_299 ci_1 ?_
  refine j_iload E dL_law_300 rfl ?_
  refine j_bipush (v := 8) E dL_law_302 cb_8 ?_
  refine j_idiv E dL_law_304 (by decide) ?_
  refine j_bipush (v := 50) E dL_law_305 cb_50 ?_
  refine j_irem E (by decide) dL_law_307 ?_
  refine j_iadd E dL_law_308 ?_
  refine s_iast E (L.x hup_eq) (vin_nI (n := 5) (k := 1) (by decide) (by decide)) dL_law_309 (fun h309 n309 u309 => ?_)
  have L := L.put1 n309 u309
  refine j_dup E dL_law_310 rfl ?_
  refine j_iconst (v := 2) E dL_law_311 ci_2 ?_
  refine j_iload E dL_law_312 rfl ?_
  refine j_sipush (v := 400) E dL_law_314 cs_400 ?_
  refine j_idiv E dL_law_317 (by decide) ?_
  refine j_bipush (v := 60) E dL_law_318 cb_60 ?_
  refine j_irem E (by decide) dL_law_320 ?_
  refine s_iast E (L.x hup_eq) (vin_nI (n := 5) (k := 2) (by decide) (by decide)) dL_law_321 (fun h321 n321 u321 => ?_)
  have L := L.put1 n321 u321
  refine j_dup E dL_law_322 rfl ?_
  refine j_iconst (v := 3) E dL_law_323 ci_3 ?_
  refine j_iconst (v := 1) E dL_law_324 ci_1 ?_
  refine j_iload E dL_law_325 rfl ?_
  refine j_sipush (v := 24000) E dL_law_327 cs_24000 ?_
  refine j_idiv E dL_law_330 (by decide) ?_
  refine j_bipush (v := 50) E dL_law_331 cb_50 ?_
  refine j_irem E (by decide) dL_law_333 ?_
  refine j_iadd E dL_law_334 ?_
  refine s_iast E (L.x hup_eq) (vin_nI (n := 5) (k := 3) (by decide) (by decide)) dL_law_335 (fun h335 n335 u335 => ?_)
  have L := L.put1 n335 u335
  refine j_dup E dL_law_336 rfl ?_
  refine j_iconst (v := 4) E dL_law_337 ci_4 ?_
  refine j_bipush (v := 60) E dL_law_338 cb_60 ?_
  refine j_iload E dL_law_340 rfl ?_
  refine j_bipush (v := 7) E dL_law_342 cb_7 ?_
  refine j_idiv E dL_law_344 (by decide) ?_
  refine j_sipush (v := 1800) E dL_law_345 cs_1800 ?_
  refine j_irem E (by decide) dL_law_348 ?_
  refine j_iadd E dL_law_349 ?_
  refine s_iast E (L.x hup_eq) (vin_nI (n := 5) (k := 4) (by decide) (by decide)) dL_law_350 (fun h350 n350 u350 => ?_)
  have L := L.put1 n350 u350
  refine j_astore E dL_law_351 (by decide) ?_
  refine j_aload_n E dL_law_353 rfl ?_
  refine j_aload E dL_law_354 rfl ?_
  refine j_mutA E L (r := (p_addMould S ((fup (fup (fup (fup (fup (fun _ => 0 : Nat → Int32) (Int32.toNatClampNeg 0) (1 + (w9 - w9 / 8 * 8))) (Int32.toNatClampNeg 1) (1 + ((w9 / 8) - (w9 / 8) / 50 * 50))) (Int32.toNatClampNeg 2) ((w9 / 400) - (w9 / 400) / 60 * 60)) (Int32.toNatClampNeg 3) (1 + ((w9 / 24000) - (w9 / 24000) / 50 * 50))) (Int32.toNatClampNeg 4) (60 + ((w9 / 7) - (w9 / 7) / 1800 * 1800))) 0) ((fup (fup (fup (fup (fup (fun _ => 0 : Nat → Int32) (Int32.toNatClampNeg 0) (1 + (w9 - w9 / 8 * 8))) (Int32.toNatClampNeg 1) (1 + ((w9 / 8) - (w9 / 8) / 50 * 50))) (Int32.toNatClampNeg 2) ((w9 / 400) - (w9 / 400) / 60 * 60)) (Int32.toNatClampNeg 3) (1 + ((w9 / 24000) - (w9 / 24000) / 50 * 50))) (Int32.toNatClampNeg 4) (60 + ((w9 / 7) - (w9 / 7) / 1800 * 1800))) 1) ((fup (fup (fup (fup (fup (fun _ => 0 : Nat → Int32) (Int32.toNatClampNeg 0) (1 + (w9 - w9 / 8 * 8))) (Int32.toNatClampNeg 1) (1 + ((w9 / 8) - (w9 / 8) / 50 * 50))) (Int32.toNatClampNeg 2) ((w9 / 400) - (w9 / 400) / 60 * 60)) (Int32.toNatClampNeg 3) (1 + ((w9 / 24000) - (w9 / 24000) / 50 * 50))) (Int32.toNatClampNeg 4) (60 + ((w9 / 7) - (w9 / 7) / 1800 * 1800))) 2) ((fup (fup (fup (fup (fup (fun _ => 0 : Nat → Int32) (Int32.toNatClampNeg 0) (1 + (w9 - w9 / 8 * 8))) (Int32.toNatClampNeg 1) (1 + ((w9 / 8) - (w9 / 8) / 50 * 50))) (Int32.toNatClampNeg 2) ((w9 / 400) - (w9 / 400) / 60 * 60)) (Int32.toNatClampNeg 3) (1 + ((w9 / 24000) - (w9 / 24000) / 50 * 50))) (Int32.toNatClampNeg 4) (60 + ((w9 / 7) - (w9 / 7) / 1800 * 1800))) 3) ((fup (fup (fup (fup (fup (fun _ => 0 : Nat → Int32) (Int32.toNatClampNeg 0) (1 + (w9 - w9 / 8 * 8))) (Int32.toNatClampNeg 1) (1 + ((w9 / 8) - (w9 / 8) / 50 * 50))) (Int32.toNatClampNeg 2) ((w9 / 400) - (w9 / 400) / 60 * 60)) (Int32.toNatClampNeg 3) (1 + ((w9 / 24000) - (w9 / 24000) / 50 * 50))) (Int32.toNatClampNeg 4) (60 + ((w9 / 7) - (w9 / 7) / 1800 * 1800))) 4))) hup_eq (fun hC0 ok hno => h_mould l D S a0 hC0 ok a285 (fup (fup (fup (fup (fup (fun _ => 0 : Nat → Int32) (Int32.toNatClampNeg 0) (1 + (w9 - w9 / 8 * 8))) (Int32.toNatClampNeg 1) (1 + ((w9 / 8) - (w9 / 8) / 50 * 50))) (Int32.toNatClampNeg 2) ((w9 / 400) - (w9 / 400) / 60 * 60)) (Int32.toNatClampNeg 3) (1 + ((w9 / 24000) - (w9 / 24000) / 50 * 50))) (Int32.toNatClampNeg 4) (60 + ((w9 / 7) - (w9 / 7) / 1800 * 1800))) hno) (cww_mould E ⟨by show _ ≤ R.frames; omega, by show _ ≤ R.locals; omega, by show _ ≤ R.cells; omega, by show _ ≤ R.slots; omega, Nat.le_of_ble_eq_true rfl⟩) (q_358 E.tb) rfl dL_law_356 rfl (fun h356 L => ?_)
  generalize hgr : (p_addMould S ((fup (fup (fup (fup (fup (fun _ => 0 : Nat → Int32) (Int32.toNatClampNeg 0) (1 + (w9 - w9 / 8 * 8))) (Int32.toNatClampNeg 1) (1 + ((w9 / 8) - (w9 / 8) / 50 * 50))) (Int32.toNatClampNeg 2) ((w9 / 400) - (w9 / 400) / 60 * 60)) (Int32.toNatClampNeg 3) (1 + ((w9 / 24000) - (w9 / 24000) / 50 * 50))) (Int32.toNatClampNeg 4) (60 + ((w9 / 7) - (w9 / 7) / 1800 * 1800))) 0) ((fup (fup (fup (fup (fup (fun _ => 0 : Nat → Int32) (Int32.toNatClampNeg 0) (1 + (w9 - w9 / 8 * 8))) (Int32.toNatClampNeg 1) (1 + ((w9 / 8) - (w9 / 8) / 50 * 50))) (Int32.toNatClampNeg 2) ((w9 / 400) - (w9 / 400) / 60 * 60)) (Int32.toNatClampNeg 3) (1 + ((w9 / 24000) - (w9 / 24000) / 50 * 50))) (Int32.toNatClampNeg 4) (60 + ((w9 / 7) - (w9 / 7) / 1800 * 1800))) 1) ((fup (fup (fup (fup (fup (fun _ => 0 : Nat → Int32) (Int32.toNatClampNeg 0) (1 + (w9 - w9 / 8 * 8))) (Int32.toNatClampNeg 1) (1 + ((w9 / 8) - (w9 / 8) / 50 * 50))) (Int32.toNatClampNeg 2) ((w9 / 400) - (w9 / 400) / 60 * 60)) (Int32.toNatClampNeg 3) (1 + ((w9 / 24000) - (w9 / 24000) / 50 * 50))) (Int32.toNatClampNeg 4) (60 + ((w9 / 7) - (w9 / 7) / 1800 * 1800))) 2) ((fup (fup (fup (fup (fup (fun _ => 0 : Nat → Int32) (Int32.toNatClampNeg 0) (1 + (w9 - w9 / 8 * 8))) (Int32.toNatClampNeg 1) (1 + ((w9 / 8) - (w9 / 8) / 50 * 50))) (Int32.toNatClampNeg 2) ((w9 / 400) - (w9 / 400) / 60 * 60)) (Int32.toNatClampNeg 3) (1 + ((w9 / 24000) - (w9 / 24000) / 50 * 50))) (Int32.toNatClampNeg 4) (60 + ((w9 / 7) - (w9 / 7) / 1800 * 1800))) 3) ((fup (fup (fup (fup (fup (fun _ => 0 : Nat → Int32) (Int32.toNatClampNeg 0) (1 + (w9 - w9 / 8 * 8))) (Int32.toNatClampNeg 1) (1 + ((w9 / 8) - (w9 / 8) / 50 * 50))) (Int32.toNatClampNeg 2) ((w9 / 400) - (w9 / 400) / 60 * 60)) (Int32.toNatClampNeg 3) (1 + ((w9 / 24000) - (w9 / 24000) / 50 * 50))) (Int32.toNatClampNeg 4) (60 + ((w9 / 7) - (w9 / 7) / 1800 * 1800))) 4)) = gr at L ⊢
  refine j_istore E dL_law_359 (by decide) ?_
  refine j_iload E dL_law_361 rfl ?_
  refine j_iload E dL_law_363 rfl ?_
  by_cases hz : (p_addMould S ((fup (fup (fup (fup (fup (fun _ => 0 : Nat → Int32) (Int32.toNatClampNeg 0) (1 + (w9 - w9 / 8 * 8))) (Int32.toNatClampNeg 1) (1 + ((w9 / 8) - (w9 / 8) / 50 * 50))) (Int32.toNatClampNeg 2) ((w9 / 400) - (w9 / 400) / 60 * 60)) (Int32.toNatClampNeg 3) (1 + ((w9 / 24000) - (w9 / 24000) / 50 * 50))) (Int32.toNatClampNeg 4) (60 + ((w9 / 7) - (w9 / 7) / 1800 * 1800))) 0) ((fup (fup (fup (fup (fup (fun _ => 0 : Nat → Int32) (Int32.toNatClampNeg 0) (1 + (w9 - w9 / 8 * 8))) (Int32.toNatClampNeg 1) (1 + ((w9 / 8) - (w9 / 8) / 50 * 50))) (Int32.toNatClampNeg 2) ((w9 / 400) - (w9 / 400) / 60 * 60)) (Int32.toNatClampNeg 3) (1 + ((w9 / 24000) - (w9 / 24000) / 50 * 50))) (Int32.toNatClampNeg 4) (60 + ((w9 / 7) - (w9 / 7) / 1800 * 1800))) 1) ((fup (fup (fup (fup (fup (fun _ => 0 : Nat → Int32) (Int32.toNatClampNeg 0) (1 + (w9 - w9 / 8 * 8))) (Int32.toNatClampNeg 1) (1 + ((w9 / 8) - (w9 / 8) / 50 * 50))) (Int32.toNatClampNeg 2) ((w9 / 400) - (w9 / 400) / 60 * 60)) (Int32.toNatClampNeg 3) (1 + ((w9 / 24000) - (w9 / 24000) / 50 * 50))) (Int32.toNatClampNeg 4) (60 + ((w9 / 7) - (w9 / 7) / 1800 * 1800))) 2) ((fup (fup (fup (fup (fup (fun _ => 0 : Nat → Int32) (Int32.toNatClampNeg 0) (1 + (w9 - w9 / 8 * 8))) (Int32.toNatClampNeg 1) (1 + ((w9 / 8) - (w9 / 8) / 50 * 50))) (Int32.toNatClampNeg 2) ((w9 / 400) - (w9 / 400) / 60 * 60)) (Int32.toNatClampNeg 3) (1 + ((w9 / 24000) - (w9 / 24000) / 50 * 50))) (Int32.toNatClampNeg 4) (60 + ((w9 / 7) - (w9 / 7) / 1800 * 1800))) 3) ((fup (fup (fup (fup (fup (fun _ => 0 : Nat → Int32) (Int32.toNatClampNeg 0) (1 + (w9 - w9 / 8 * 8))) (Int32.toNatClampNeg 1) (1 + ((w9 / 8) - (w9 / 8) / 50 * 50))) (Int32.toNatClampNeg 2) ((w9 / 400) - (w9 / 400) / 60 * 60)) (Int32.toNatClampNeg 3) (1 + ((w9 / 24000) - (w9 / 24000) / 50 * 50))) (Int32.toNatClampNeg 4) (60 + ((w9 / 7) - (w9 / 7) / 1800 * 1800))) 4)).1.1 0 8 0 = 0
  · refine j_if_lt (tgt := 372) E dL_law_365 (by decide) (fun q => ((by rw [← hgr, rc_0 hz]; exact rg_nn (sx_addMould I P hz).2.2.2 : ¬ rc gr < 0) q).elim) (fun _ => ?_)
    refine j_iconst (v := 1) E dL_law_368 ci_1 ?_
    refine j_goto (tgt := 373) E dL_law_369 (by decide) ?_
    refine j_iadd E dL_law_373 ?_
    refine j_istore E dL_law_374 (by decide) ?_
    refine j_goto (tgt := 834) E dL_law_376 (by decide) ?_
    rw [nx_0 (by rw [← hgr]; exact hz)] at L
    rw [← hgr] at L
    have L := L.drop hns
    refine J.sub (lo' := [(0, .ref sc), (1, .ref a0), (2, .ref sa), (3, .ref pa), (4, .int (mo + 1)), (5, .int ma), (6, .int n6), (7, .int kk), (12, .int iw), (13, .long bf), (15, .int (rc gr))]) ⟨rfl, rfl, rfl, rfl, rfl, rfl, rfl, rfl, rfl, rfl, rfl, trivial⟩ ?_
    exact kj _ _ _ _ (mo + 1) ma (rc gr) _ _ L (sx_addMould I P hz).1 (by rw [(sx_addMould I P hz).2.1, hmo]) (hma.trans (sx_addMould I P hz).2.2.1.symm) (fun q => absurd q (by rw [← hgr, rc_0 hz]; exact nlt (sx_addMould I P hz).2.2.2)) (by omega) (by omega)
  · refine j_if_lt (tgt := 372) E dL_law_365 (by decide) (fun _ => ?_) (fun q => (q (by rw [← hgr]; exact lt0_of (ng_addMould hz))).elim)
    refine j_iconst (v := 0) E dL_law_372 ci_0 ?_
    refine j_iadd E dL_law_373 ?_
    refine j_istore E dL_law_374 (by decide) ?_
    refine j_goto (tgt := 834) E dL_law_376 (by decide) ?_
    rw [nx_1 (by rw [← hgr]; exact hz)] at L
    have L := L.drop hns
    rw [Int32.add_zero]
    refine J.sub (lo' := [(0, .ref sc), (1, .ref a0), (2, .ref sa), (3, .ref pa), (4, .int mo), (5, .int ma), (6, .int n6), (7, .int kk), (12, .int iw), (13, .long bf), (15, .int (rc gr))]) ⟨rfl, rfl, rfl, rfl, rfl, rfl, rfl, rfl, rfl, rfl, rfl, trivial⟩ ?_
    exact kj _ _ _ _ mo ma (rc gr) _ _ L P hmo hma (fun _ => rfl) (by omega) (by omega)
theorem mt_use {S : St} {B : Nat} {a9 m9 : Int32} {sh pt : Nat → Int32} {mo ma : Int32} (I : Inv S B) (P : PI S sh pt) (hmo : mo = S.1 0 2 0) (hma : ma = S.1 0 3 0) : PI (nx S (p_mount S a9 m9)) sh pt ∧ mo = (nx S (p_mount S a9 m9)).1 0 2 0 ∧ ma = (nx S (p_mount S a9 m9)).1 0 3 0 ∧ (rc (p_mount S a9 m9) < -1000 → nx S (p_mount S a9 m9) = S) := by
  by_cases hz : (p_mount S a9 m9).1.1 0 8 0 = 0
  · obtain ⟨k1, k2, k3, k4⟩ := sx_mount I P hz
    rw [nx_0 hz, rc_0 hz]
    refine ⟨k1, hmo.trans k2.symm, hma.trans k3.symm, fun q => absurd q ?_⟩
    rcases k4 with k4 | k4
    · rw [k4]; decide
    · exact nlt k4
  · rw [nx_1 hz]
    exact ⟨P, hmo, hma, fun _ => rfl⟩
set_option maxHeartbeats 4000000 in
set_option maxRecDepth 100000 in
theorem sg_mount (E : Cx p l s m args meth c cL_law 24 RL D A) {S : St} {a0 sa pa sc : Nat} {sh pt : Nat → Int32} {mo ma n6 kk w9 m9 r9 iw kind : Int32} {bf : Int64} {h : AH} (L : LwP S a0 (twoA sa pa sh pt) h) (hne : sa ≠ pa) (P : PI S sh pt) (hmo : mo = S.1 0 2 0) (hma : ma = S.1 0 3 0) (hF : 12 ≤ R.frames ∧ 600 ≤ R.locals) {cells slots : Nat} (hR : cells + 130 ≤ R.cells ∧ slots + 6000 ≤ R.slots) (kj : ∀ (S' : St) (h' : AH) (sh' pt' : Nat → Int32) (mo' ma' its : Int32) (cells' slots' : Nat), LwP S' a0 (twoA sa pa sh' pt') h' → PI S' sh' pt' → mo' = S'.1 0 2 0 → ma' = S'.1 0 3 0 → (its < -1000 → S' = S) → cells' ≤ cells + 130 → slots' ≤ slots + 6000 → J p l e R s m args below meth c D A 24 Q cells' slots' h' 834 [(0, .ref sc), (1, .ref a0), (2, .ref sa), (3, .ref pa), (4, .int mo'), (5, .int ma'), (6, .int n6), (7, .int kk), (12, .int iw), (13, .long bf), (15, .int its)] []) : J p l e R s m args below meth c D A 24 Q cells slots h 539 [(0, .ref sc), (1, .ref a0), (2, .ref sa), (3, .ref pa), (4, .int mo), (5, .int ma), (6, .int n6), (7, .int kk), (9, .int w9), (10, .int m9), (11, .int r9), (12, .int iw), (13, .long bf), (16, .int kind)] [] := by
  have I := L.inv
  refine j_aload_n E dL_law_539 rfl ?_
  refine j_bipush (v := 109) E dL_law_540 cb_109 ?_
  refine j_iload E dL_law_542 rfl ?_
  refine j_iconst (v := 5) E dL_law_544 ci_5 ?_
  refine j_idiv E dL_law_545 (by decide) ?_
  refine j_iconst (v := 1) E dL_law_546 ci_1 ?_
  refine j_iload E dL_law_547 rfl ?_
  refine j_mmax E (q_730 E.tb) (q_338 E.tb) (q_12 E.tb) (q_339 E.tb) ⟨by omega, Nat.le_trans (Nat.le_of_ble_eq_true rfl : _ ≤ 100) (by omega), by omega, by omega⟩ dL_law_549 ?_
  refine j_irem E (mx1 _) dL_law_552 ?_
  refine j_iload E dL_law_553 rfl ?_
  refine j_mut E L (r := (p_mount S ((w9 / 5) - (w9 / 5) / (if 1 < ma then ma else 1) * (if 1 < ma then ma else 1)) m9)) (fun hC0 ok => h_putsM l D S a0 hC0 ok ((w9 / 5) - (w9 / 5) / (if 1 < ma then ma else 1) * (if 1 < ma then ma else 1)) m9) (cww_puts E ⟨by show _ ≤ R.frames; omega, by show _ ≤ R.locals; omega, by show _ ≤ R.cells; omega, by show _ ≤ R.slots; omega, Nat.le_of_ble_eq_true rfl⟩) (q_504 E.tb) rfl dL_law_555 rfl (fun h555 L => ?_)
  refine j_istore E dL_law_558 (by decide) ?_
  refine j_iload E dL_law_560 rfl ?_
  refine j_iconst (v := (-1)) E dL_law_562 ci_m1 ?_
  refine j_icmp_ne (tgt := 570) E dL_law_563 (by decide) (fun c_563 => ?_) (fun c_563 => ?_)
  · refine j_iload E dL_law_570 rfl ?_
    refine j_istore E dL_law_572 (by decide) ?_
    refine j_goto (tgt := 834) E dL_law_574 (by decide) ?_
    obtain ⟨g1, g2, g3, g4⟩ := mt_use (a9 := ((w9 / 5) - (w9 / 5) / (if 1 < ma then ma else 1) * (if 1 < ma then ma else 1))) (m9 := m9) I P hmo hma
    refine J.sub (lo' := [(0, .ref sc), (1, .ref a0), (2, .ref sa), (3, .ref pa), (4, .int mo), (5, .int ma), (6, .int n6), (7, .int kk), (12, .int iw), (13, .long bf), (15, .int (rc (p_mount S ((w9 / 5) - (w9 / 5) / (if 1 < ma then ma else 1) * (if 1 < ma then ma else 1)) m9)))]) ⟨rfl, rfl, rfl, rfl, rfl, rfl, rfl, rfl, rfl, rfl, rfl, trivial⟩ ?_
    exact kj _ _ _ _ mo ma (rc (p_mount S ((w9 / 5) - (w9 / 5) / (if 1 < ma then ma else 1) * (if 1 < ma then ma else 1)) m9)) _ _ L g1 g2 g3 g4 (by omega) (by omega)
  · refine j_iconst (v := 0) E dL_law_566 ci_0 ?_
    refine j_goto (tgt := 572) E dL_law_567 (by decide) ?_
    refine j_istore E dL_law_572 (by decide) ?_
    refine j_goto (tgt := 834) E dL_law_574 (by decide) ?_
    obtain ⟨g1, g2, g3, g4⟩ := mt_use (a9 := ((w9 / 5) - (w9 / 5) / (if 1 < ma then ma else 1) * (if 1 < ma then ma else 1))) (m9 := m9) I P hmo hma
    refine J.sub (lo' := [(0, .ref sc), (1, .ref a0), (2, .ref sa), (3, .ref pa), (4, .int mo), (5, .int ma), (6, .int n6), (7, .int kk), (12, .int iw), (13, .long bf), (15, .int 0)]) ⟨rfl, rfl, rfl, rfl, rfl, rfl, rfl, rfl, rfl, rfl, rfl, trivial⟩ ?_
    exact kj _ _ _ _ mo ma 0 _ _ L g1 g2 g3 (fun q => absurd q (by decide)) (by omega) (by omega)
theorem nxt_ge {S : St} {mo : Nat} : ∀ (n k j : Nat), nxt S mo k n = some j → k ≤ j ∧ j < k + n
  | 0, _, _, h => by cases h
  | n + 1, k, j, h => by
    unfold nxt at h
    split at h
    · have := Option.some.inj h; omega
    · have := nxt_ge n (k + 1) j h; omega
theorem cav_of {S : St} {B : Nat} {mo ca : Int32} (I : Inv S B) (h : isCav S mo ca = true) : isMou S mo = true ∧ ca = nI (nn ca) ∧ nn ca < nn (S.1 6 (nn mo) 0) ∧ nn (S.1 6 (nn mo) 0) ≤ 8 := by
  unfold isCav at h
  rw [Bool.and_eq_true] at h
  have hm := isMou_of I.cnt.2.2.1 h.1
  obtain ⟨m6, -⟩ := I.mou _ hm.2
  have hc := inB_cnt (m6.wide (Nat.zero_le _) (Nat.le_refl 8)) (by decide) h.2
  exact ⟨h.1, hc.1, hc.2, m6.2.2⟩
theorem nb_block {S : St} {B : Nat} {mo ca : Int32} (I : Inv S B) (hz : (p_block S mo ca).1.1 0 8 0 = 0) : ¬ rc (p_nextOpen (p_block S mo ca).1 mo ca) = ca := by
  revert hz
  unfold p_block
  split
  · intro hz; exact absurd (s1_eq.symm.trans hz) (by decide)
  · rename_i g0
    obtain ⟨c1, c2, c3, c4⟩ := cav_of I (show isCav S mo ca = true by cases hb : isCav S mo ca with | false => exact absurd hb g0 | true => rfl)
    split
    · intro _
      unfold p_nextOpen
      have e1 : isMou (s1 (th S 0) 11 (nn mo) (nn ca) 1) mo = isMou S mo := rfl
      rw [e1, if_neg (by rw [c1]; decide)]
      have e6 : (s1 (th S 0) 11 (nn mo) (nn ca) 1).1 6 (nn mo) 0 = S.1 6 (nn mo) 0 := rfl
      unfold nxtA
      rw [e6]
      obtain ⟨d, hd⟩ : ∃ d, nn (S.1 6 (nn mo) 0) - nn ca = d + 1 := ⟨nn (S.1 6 (nn mo) 0) - nn ca - 1, by omega⟩
      rw [hd]
      unfold nxt
      rw [if_neg (by rw [s1_eq]; decide)]
      cases hx : nxt (s1 (th S 0) 11 (nn mo) (nn ca) 1) (nn mo) (nn ca + 1) d with
      | none =>
        show ¬ rc (th (s1 (th S 0) 11 (nn mo) (nn ca) 1) 2, 0) = ca
        rw [rc_t2]
        intro q
        rw [← q] at c2
        exact absurd c2 (by decide)
      | some j =>
        show ¬ rc (th (s1 (th S 0) 11 (nn mo) (nn ca) 1) 0, nI j) = ca
        rw [rc_t0]
        obtain ⟨j1, j2⟩ := nxt_ge d (nn ca + 1) j hx
        intro q
        have hj : nn (nI j) = j := nn_nI (by omega)
        rw [q] at hj
        omega
    · intro hz; exact absurd (s1_eq.symm.trans hz) (by decide)
theorem nb_repair {S : St} {B : Nat} {mo ca : Int32} (I : Inv S B) (hz : (p_repair S mo ca).1.1 0 8 0 = 0) : rc (p_nextOpen (p_repair S mo ca).1 mo ca) = ca := by
  revert hz
  unfold p_repair
  split
  · intro hz; exact absurd (s1_eq.symm.trans hz) (by decide)
  · rename_i g0
    obtain ⟨c1, c2, c3, c4⟩ := cav_of I (show isCav S mo ca = true by cases hb : isCav S mo ca with | false => exact absurd hb g0 | true => rfl)
    split
    · intro hz; exact absurd (s1_eq.symm.trans hz) (by decide)
    · split
      · intro hz; exact absurd (s1_eq.symm.trans hz) (by decide)
      · intro _
        unfold p_nextOpen
        have e1 : isMou (s1 (s1 (th S 0) 11 (nn mo) (nn ca) 0) 13 (nn mo) (nn ca) 0) mo = isMou S mo := rfl
        rw [e1, if_neg (by rw [c1]; decide)]
        have e6 : (s1 (s1 (th S 0) 11 (nn mo) (nn ca) 0) 13 (nn mo) (nn ca) 0).1 6 (nn mo) 0 = S.1 6 (nn mo) 0 := rfl
        unfold nxtA
        rw [e6]
        obtain ⟨d, hd⟩ : ∃ d, nn (S.1 6 (nn mo) 0) - nn ca = d + 1 := ⟨nn (S.1 6 (nn mo) 0) - nn ca - 1, by omega⟩
        rw [hd]
        unfold nxt
        rw [if_pos (by exact (s1_c (S := s1 (th S 0) 11 (nn mo) (nn ca) 0) (by decide)).trans s1_eq)]
        show rc (th (s1 (s1 (th S 0) 11 (nn mo) (nn ca) 0) 13 (nn mo) (nn ca) 0) 0, nI (nn ca)) = ca
        rw [rc_t0]
        exact c2.symm
set_option maxHeartbeats 4000000 in
set_option maxRecDepth 100000 in
theorem sg_cav9 (E : Cx p l s m args meth c cL_law 24 RL D A) {S : St} {a0 sa pa sc : Nat} {sh pt : Nat → Int32} {mo ma n6 kk w9 m9 r9 iw : Int32} {bf : Int64} {h : AH} (L : LwP S a0 (twoA sa pa sh pt) h) (hne : sa ≠ pa) (P : PI S sh pt) (hmo : mo = S.1 0 2 0) (hma : ma = S.1 0 3 0) (hF : 12 ≤ R.frames ∧ 600 ≤ R.locals) {cells slots : Nat} (hR : cells + 130 ≤ R.cells ∧ slots + 6000 ≤ R.slots) (kj : ∀ (S' : St) (h' : AH) (sh' pt' : Nat → Int32) (mo' ma' its : Int32) (cells' slots' : Nat), LwP S' a0 (twoA sa pa sh' pt') h' → PI S' sh' pt' → mo' = S'.1 0 2 0 → ma' = S'.1 0 3 0 → (its < -1000 → S' = S) → cells' ≤ cells + 130 → slots' ≤ slots + 6000 → J p l e R s m args below meth c D A 24 Q cells' slots' h' 834 [(0, .ref sc), (1, .ref a0), (2, .ref sa), (3, .ref pa), (4, .int mo'), (5, .int ma'), (6, .int n6), (7, .int kk), (12, .int iw), (13, .long bf), (15, .int its)] []) : J p l e R s m args below meth c D A 24 Q cells slots h 461 [(0, .ref sc), (1, .ref a0), (2, .ref sa), (3, .ref pa), (4, .int mo), (5, .int ma), (6, .int n6), (7, .int kk), (9, .int w9), (10, .int m9), (11, .int r9), (12, .int iw), (13, .long bf), (16, .int 9)] [] := by
  have I := L.inv
  refine j_aload_n E dL_law_461 rfl ?_
  refine j_iload E dL_law_462 rfl ?_
  refine j_iload E dL_law_464 rfl ?_
  refine j_iconst (v := 5) E dL_law_466 ci_5 ?_
  refine j_idiv E dL_law_467 (by decide) ?_
  refine j_bipush (v := 8) E dL_law_468 cb_8 ?_
  refine j_irem E (by decide) dL_law_470 ?_
  refine j_iload E dL_law_471 rfl ?_
  refine j_bipush (v := 9) E dL_law_473 cb_9 ?_
  refine j_isub E dL_law_475 ?_
  refine J.stk (st' := [.int 0, .int ((w9 / 5) - (w9 / 5) / 8 * 8), .int m9, .ref a0]) (by rw [show (9 : Int32) - 9 = 0 from by decide]) ?_
  refine j_mut E L (r := (p_block S m9 ((w9 / 5) - (w9 / 5) / 8 * 8))) (fun hC0 ok => h_cavB l D S a0 hC0 ok m9 ((w9 / 5) - (w9 / 5) / 8 * 8)) (cww_cavity E ⟨by show _ ≤ R.frames; omega, by show _ ≤ R.locals; omega, by show _ ≤ R.cells; omega, by show _ ≤ R.slots; omega, Nat.le_of_ble_eq_true rfl⟩) (q_441 E.tb) rfl dL_law_476 rfl (fun h476 L => ?_)
  refine j_istore E dL_law_479 (by decide) ?_
  refine j_iload E dL_law_481 rfl ?_
  by_cases hz : (p_block S m9 ((w9 / 5) - (w9 / 5) / 8 * 8)).1.1 0 8 0 = 0
  · refine j_if_lt (tgt := 834) E dL_law_483 (by decide) (fun q => ((by rw [rc_0 hz]; exact rg_nn (sx_block I P hz).2.2.2 : ¬ rc (p_block S m9 ((w9 / 5) - (w9 / 5) / 8 * 8)) < 0) q).elim) (fun _ => ?_)
    refine j_aload_n E dL_law_486 rfl ?_
    refine j_iload E dL_law_487 rfl ?_
    refine j_iload E dL_law_489 rfl ?_
    refine j_iconst (v := 5) E dL_law_491 ci_5 ?_
    refine j_idiv E dL_law_492 (by decide) ?_
    refine j_bipush (v := 8) E dL_law_493 cb_8 ?_
    refine j_irem E (by decide) dL_law_495 ?_
    refine j_iconst (v := 2) E dL_law_496 ci_2 ?_
    refine j_lk E L (fun hC0 ok => h_cavN l D (nx S (p_block S m9 ((w9 / 5) - (w9 / 5) / 8 * 8))) a0 hC0 ok m9 ((w9 / 5) - (w9 / 5) / 8 * 8)) (cww_cavity E ⟨by show _ ≤ R.frames; omega, by show _ ≤ R.locals; omega, by show _ ≤ R.cells; omega, by show _ ≤ R.slots; omega, Nat.le_of_ble_eq_true rfl⟩) (q_441 E.tb) rfl dL_law_497 rfl ?_
    refine j_iload E dL_law_500 rfl ?_
    refine j_iconst (v := 5) E dL_law_502 ci_5 ?_
    refine j_idiv E dL_law_503 (by decide) ?_
    refine j_bipush (v := 8) E dL_law_504 cb_8 ?_
    refine j_irem E (by decide) dL_law_506 ?_
    refine j_icmp_ne (tgt := 514) E dL_law_507 (by decide) (fun _ => ?_) (fun q => (nb_block I hz (by rw [← nx_0 (S := S) hz]; exact q)).elim)
    refine j_iconst (v := 0) E dL_law_514 ci_0 ?_
    refine j_iload E dL_law_515 rfl ?_
    refine j_bipush (v := 10) E dL_law_517 cb_10 ?_
    refine j_icmp_ne (tgt := 526) E dL_law_519 (by decide) (fun _ => ?_) (fun q => (show False from absurd q (by decide)).elim)
    refine j_iconst (v := 0) E dL_law_526 ci_0 ?_
    refine j_icmp_eq (tgt := 834) E dL_law_527 (by decide) (fun _ => ?_) (fun q => (q rfl).elim)
    obtain ⟨g1, g2, g3, g4⟩ := kp_use (r := (p_block S m9 ((w9 / 5) - (w9 / 5) / 8 * 8))) P hmo hma (fun hz => sx_block I P hz)
    refine J.sub (lo' := [(0, .ref sc), (1, .ref a0), (2, .ref sa), (3, .ref pa), (4, .int mo), (5, .int ma), (6, .int n6), (7, .int kk), (12, .int iw), (13, .long bf), (15, .int (rc (p_block S m9 ((w9 / 5) - (w9 / 5) / 8 * 8))))]) ⟨rfl, rfl, rfl, rfl, rfl, rfl, rfl, rfl, rfl, rfl, rfl, trivial⟩ ?_
    exact kj _ _ _ _ mo ma (rc (p_block S m9 ((w9 / 5) - (w9 / 5) / 8 * 8))) _ _ L g1 g2 g3 g4 (by omega) (by omega)
  · refine j_if_lt (tgt := 834) E dL_law_483 (by decide) (fun _ => ?_) (fun q => (q (lt0_of (ng_block hz))).elim)
    obtain ⟨g1, g2, g3, g4⟩ := kp_use (r := (p_block S m9 ((w9 / 5) - (w9 / 5) / 8 * 8))) P hmo hma (fun hz => sx_block I P hz)
    refine J.sub (lo' := [(0, .ref sc), (1, .ref a0), (2, .ref sa), (3, .ref pa), (4, .int mo), (5, .int ma), (6, .int n6), (7, .int kk), (12, .int iw), (13, .long bf), (15, .int (rc (p_block S m9 ((w9 / 5) - (w9 / 5) / 8 * 8))))]) ⟨rfl, rfl, rfl, rfl, rfl, rfl, rfl, rfl, rfl, rfl, rfl, trivial⟩ ?_
    exact kj _ _ _ _ mo ma (rc (p_block S m9 ((w9 / 5) - (w9 / 5) / 8 * 8))) _ _ L g1 g2 g3 g4 (by omega) (by omega)
set_option maxHeartbeats 4000000 in
set_option maxRecDepth 100000 in
theorem sg_cav10 (E : Cx p l s m args meth c cL_law 24 RL D A) {S : St} {a0 sa pa sc : Nat} {sh pt : Nat → Int32} {mo ma n6 kk w9 m9 r9 iw : Int32} {bf : Int64} {h : AH} (L : LwP S a0 (twoA sa pa sh pt) h) (hne : sa ≠ pa) (P : PI S sh pt) (hmo : mo = S.1 0 2 0) (hma : ma = S.1 0 3 0) (hF : 12 ≤ R.frames ∧ 600 ≤ R.locals) {cells slots : Nat} (hR : cells + 130 ≤ R.cells ∧ slots + 6000 ≤ R.slots) (kj : ∀ (S' : St) (h' : AH) (sh' pt' : Nat → Int32) (mo' ma' its : Int32) (cells' slots' : Nat), LwP S' a0 (twoA sa pa sh' pt') h' → PI S' sh' pt' → mo' = S'.1 0 2 0 → ma' = S'.1 0 3 0 → (its < -1000 → S' = S) → cells' ≤ cells + 130 → slots' ≤ slots + 6000 → J p l e R s m args below meth c D A 24 Q cells' slots' h' 834 [(0, .ref sc), (1, .ref a0), (2, .ref sa), (3, .ref pa), (4, .int mo'), (5, .int ma'), (6, .int n6), (7, .int kk), (12, .int iw), (13, .long bf), (15, .int its)] []) : J p l e R s m args below meth c D A 24 Q cells slots h 461 [(0, .ref sc), (1, .ref a0), (2, .ref sa), (3, .ref pa), (4, .int mo), (5, .int ma), (6, .int n6), (7, .int kk), (9, .int w9), (10, .int m9), (11, .int r9), (12, .int iw), (13, .long bf), (16, .int 10)] [] := by
  have I := L.inv
  refine j_aload_n E dL_law_461 rfl ?_
  refine j_iload E dL_law_462 rfl ?_
  refine j_iload E dL_law_464 rfl ?_
  refine j_iconst (v := 5) E dL_law_466 ci_5 ?_
  refine j_idiv E dL_law_467 (by decide) ?_
  refine j_bipush (v := 8) E dL_law_468 cb_8 ?_
  refine j_irem E (by decide) dL_law_470 ?_
  refine j_iload E dL_law_471 rfl ?_
  refine j_bipush (v := 9) E dL_law_473 cb_9 ?_
  refine j_isub E dL_law_475 ?_
  refine J.stk (st' := [.int 1, .int ((w9 / 5) - (w9 / 5) / 8 * 8), .int m9, .ref a0]) (by rw [show (10 : Int32) - 9 = 1 from by decide]) ?_
  refine j_mut E L (r := (p_repair S m9 ((w9 / 5) - (w9 / 5) / 8 * 8))) (fun hC0 ok => h_cavR l D S a0 hC0 ok m9 ((w9 / 5) - (w9 / 5) / 8 * 8)) (cww_cavity E ⟨by show _ ≤ R.frames; omega, by show _ ≤ R.locals; omega, by show _ ≤ R.cells; omega, by show _ ≤ R.slots; omega, Nat.le_of_ble_eq_true rfl⟩) (q_441 E.tb) rfl dL_law_476 rfl (fun h476 L => ?_)
  refine j_istore E dL_law_479 (by decide) ?_
  refine j_iload E dL_law_481 rfl ?_
  by_cases hz : (p_repair S m9 ((w9 / 5) - (w9 / 5) / 8 * 8)).1.1 0 8 0 = 0
  · refine j_if_lt (tgt := 834) E dL_law_483 (by decide) (fun q => ((by rw [rc_0 hz]; exact rg_nn (sx_repair I P hz).2.2.2 : ¬ rc (p_repair S m9 ((w9 / 5) - (w9 / 5) / 8 * 8)) < 0) q).elim) (fun _ => ?_)
    refine j_aload_n E dL_law_486 rfl ?_
    refine j_iload E dL_law_487 rfl ?_
    refine j_iload E dL_law_489 rfl ?_
    refine j_iconst (v := 5) E dL_law_491 ci_5 ?_
    refine j_idiv E dL_law_492 (by decide) ?_
    refine j_bipush (v := 8) E dL_law_493 cb_8 ?_
    refine j_irem E (by decide) dL_law_495 ?_
    refine j_iconst (v := 2) E dL_law_496 ci_2 ?_
    refine j_lk E L (fun hC0 ok => h_cavN l D (nx S (p_repair S m9 ((w9 / 5) - (w9 / 5) / 8 * 8))) a0 hC0 ok m9 ((w9 / 5) - (w9 / 5) / 8 * 8)) (cww_cavity E ⟨by show _ ≤ R.frames; omega, by show _ ≤ R.locals; omega, by show _ ≤ R.cells; omega, by show _ ≤ R.slots; omega, Nat.le_of_ble_eq_true rfl⟩) (q_441 E.tb) rfl dL_law_497 rfl ?_
    refine j_iload E dL_law_500 rfl ?_
    refine j_iconst (v := 5) E dL_law_502 ci_5 ?_
    refine j_idiv E dL_law_503 (by decide) ?_
    refine j_bipush (v := 8) E dL_law_504 cb_8 ?_
    refine j_irem E (by decide) dL_law_506 ?_
    refine j_icmp_ne (tgt := 514) E dL_law_507 (by decide) (fun q => (q (by rw [nx_0 hz]; exact nb_repair I hz)).elim) (fun _ => ?_)
    refine j_iconst (v := 1) E dL_law_510 ci_1 ?_
    refine j_goto (tgt := 515) E dL_law_511 (by decide) ?_
    refine j_iload E dL_law_515 rfl ?_
    refine j_bipush (v := 10) E dL_law_517 cb_10 ?_
    refine j_icmp_ne (tgt := 526) E dL_law_519 (by decide) (fun q => (q rfl).elim) (fun _ => ?_)
    refine j_iconst (v := 1) E dL_law_522 ci_1 ?_
    refine j_goto (tgt := 527) E dL_law_523 (by decide) ?_
    refine j_icmp_eq (tgt := 834) E dL_law_527 (by decide) (fun _ => ?_) (fun q => (q rfl).elim)
    obtain ⟨g1, g2, g3, g4⟩ := kp_use (r := (p_repair S m9 ((w9 / 5) - (w9 / 5) / 8 * 8))) P hmo hma (fun hz => sx_repair I P hz)
    refine J.sub (lo' := [(0, .ref sc), (1, .ref a0), (2, .ref sa), (3, .ref pa), (4, .int mo), (5, .int ma), (6, .int n6), (7, .int kk), (12, .int iw), (13, .long bf), (15, .int (rc (p_repair S m9 ((w9 / 5) - (w9 / 5) / 8 * 8))))]) ⟨rfl, rfl, rfl, rfl, rfl, rfl, rfl, rfl, rfl, rfl, rfl, trivial⟩ ?_
    exact kj _ _ _ _ mo ma (rc (p_repair S m9 ((w9 / 5) - (w9 / 5) / 8 * 8))) _ _ L g1 g2 g3 g4 (by omega) (by omega)
  · refine j_if_lt (tgt := 834) E dL_law_483 (by decide) (fun _ => ?_) (fun q => (q (lt0_of (ng_repair hz))).elim)
    obtain ⟨g1, g2, g3, g4⟩ := kp_use (r := (p_repair S m9 ((w9 / 5) - (w9 / 5) / 8 * 8))) P hmo hma (fun hz => sx_repair I P hz)
    refine J.sub (lo' := [(0, .ref sc), (1, .ref a0), (2, .ref sa), (3, .ref pa), (4, .int mo), (5, .int ma), (6, .int n6), (7, .int kk), (12, .int iw), (13, .long bf), (15, .int (rc (p_repair S m9 ((w9 / 5) - (w9 / 5) / 8 * 8))))]) ⟨rfl, rfl, rfl, rfl, rfl, rfl, rfl, rfl, rfl, rfl, rfl, trivial⟩ ?_
    exact kj _ _ _ _ mo ma (rc (p_repair S m9 ((w9 / 5) - (w9 / 5) / 8 * 8))) _ _ L g1 g2 g3 g4 (by omega) (by omega)
theorem or_lacks {S T : St} {B : Nat} (I : Inv T B) (h : nn (T.1 0 4 0) = nn (S.1 0 4 0) + 1) (hn : S.1 0 4 0 = nI (nn (S.1 0 4 0))) : rc (p_lacks T (S.1 0 4 0)) = T.1 19 (nn (S.1 0 4 0)) 0 := by
  rw [hn, v_lacks I (n := nn (S.1 0 4 0)) (by omega), ← hn]
theorem or_shots {S T : St} {B : Nat} (I : Inv T B) (h : nn (T.1 0 4 0) = nn (S.1 0 4 0) + 1) (hn : S.1 0 4 0 = nI (nn (S.1 0 4 0))) : rc (p_shots T (S.1 0 4 0)) = T.1 21 (nn (S.1 0 4 0)) 0 := by
  rw [hn, v_shots I (n := nn (S.1 0 4 0)) (by omega), ← hn]
set_option maxHeartbeats 4000000 in
set_option maxRecDepth 100000 in
theorem sg_order (E : Cx p l s m args meth c cL_law 24 RL D A) {S : St} {a0 sa pa sc : Nat} {sh pt : Nat → Int32} {mo ma n6 kk w9 m9 r9 iw kind : Int32} {bf : Int64} {h : AH} (L : LwP S a0 (twoA sa pa sh pt) h) (hne : sa ≠ pa) (P : PI S sh pt) (hmo : mo = S.1 0 2 0) (hma : ma = S.1 0 3 0) (hF : 12 ≤ R.frames ∧ 600 ≤ R.locals) {cells slots : Nat} (hR : cells + 130 ≤ R.cells ∧ slots + 6000 ≤ R.slots) (kj : ∀ (S' : St) (h' : AH) (sh' pt' : Nat → Int32) (mo' ma' its : Int32) (cells' slots' : Nat), LwP S' a0 (twoA sa pa sh' pt') h' → PI S' sh' pt' → mo' = S'.1 0 2 0 → ma' = S'.1 0 3 0 → (its < -1000 → S' = S) → cells' ≤ cells + 130 → slots' ≤ slots + 6000 → J p l e R s m args below meth c D A 24 Q cells' slots' h' 834 [(0, .ref sc), (1, .ref a0), (2, .ref sa), (3, .ref pa), (4, .int mo'), (5, .int ma'), (6, .int n6), (7, .int kk), (12, .int iw), (13, .long bf), (15, .int its)] []) : J p l e R s m args below meth c D A 24 Q cells slots h 584 [(0, .ref sc), (1, .ref a0), (2, .ref sa), (3, .ref pa), (4, .int mo), (5, .int ma), (6, .int n6), (7, .int kk), (9, .int w9), (10, .int m9), (11, .int r9), (12, .int iw), (13, .long bf), (16, .int kind)] [] := by
  have I := L.inv
  refine j_iload E dL_law_584 rfl ?_
  refine j_bipush (v := 25) E dL_law_586 cb_25 ?_
  refine j_idiv E dL_law_588 (by decide) ?_
  refine j_bipush (v := 51) E dL_law_589 cb_51 ?_
  refine j_irem E (by decide) dL_law_591 ?_
  refine j_istore E dL_law_592 (by decide) ?_
  refine j_iconst (v := 1) E dL_law_594 ci_1 ?_
  refine j_iload E dL_law_595 rfl ?_
  refine j_sipush (v := 1275) E dL_law_597 cs_1275 ?_
  refine j_idiv E dL_law_600 (by decide) ?_
  refine j_sipush (v := 400) E dL_law_601 cs_400 ?_
  refine j_irem E (by decide) dL_law_604 ?_
  refine j_iadd E dL_law_605 ?_
  refine j_istore E dL_law_606 (by decide) ?_
  refine j_aload_n E dL_law_608 rfl ?_
  refine j_iload E dL_law_609 rfl ?_
  refine j_iload E dL_law_611 rfl ?_
  refine j_iload E dL_law_613 rfl ?_
  refine j_iload E dL_law_615 rfl ?_
  refine j_mut E L (r := (p_order S m9 r9 (1 + ((w9 / 1275) - (w9 / 1275) / 400 * 400)) ((w9 / 25) - (w9 / 25) / 51 * 51))) (fun hC0 ok => h_order l D S a0 hC0 ok m9 r9 (1 + ((w9 / 1275) - (w9 / 1275) / 400 * 400)) ((w9 / 25) - (w9 / 25) / 51 * 51)) (cww_order E ⟨by show _ ≤ R.frames; omega, by show _ ≤ R.locals; omega, by show _ ≤ R.cells; omega, by show _ ≤ R.slots; omega, Nat.le_of_ble_eq_true rfl⟩) (q_553 E.tb) rfl dL_law_617 rfl (fun h617 L => ?_)
  by_cases hz : (p_order S m9 r9 (1 + ((w9 / 1275) - (w9 / 1275) / 400 * 400)) ((w9 / 25) - (w9 / 25) / 51 * 51)).1.1 0 8 0 = 0
  · obtain ⟨o1, o2, o3, o4, o5, o6, o7, o8⟩ := sx_order I P (le400 _) hz
    have e9 : rc (p_order S m9 r9 (1 + ((w9 / 1275) - (w9 / 1275) / 400 * 400)) ((w9 / 25) - (w9 / 25) / 51 * 51)) = S.1 0 4 0 := (rc_0 hz).trans o4
    have e4n : nx S (p_order S m9 r9 (1 + ((w9 / 1275) - (w9 / 1275) / 400 * 400)) ((w9 / 25) - (w9 / 25) / 51 * 51)) = (p_order S m9 r9 (1 + ((w9 / 1275) - (w9 / 1275) / 400 * 400)) ((w9 / 25) - (w9 / 25) / 51 * 51)).1 := nx_0 hz
    have c9 : S.1 0 4 0 = nI (nn (S.1 0 4 0)) ∧ nn (S.1 0 4 0) < 8 := ⟨I.cnt.2.2.2.2.1, o5⟩
    rw [e9]
    rw [e4n] at L
    refine j_istore E dL_law_620 (by decide) ?_
    refine j_iload E dL_law_622 rfl ?_
    refine j_if_lt (tgt := 667) E dL_law_624 (by decide) (fun q => (rg_nn c9.1 q).elim) (fun _ => ?_)
    refine j_aload_n E dL_law_627 rfl ?_
    refine j_iload E dL_law_628 rfl ?_
    refine j_iload E dL_law_630 rfl ?_
    refine s_iast E (L.x twoA_s) (vin_of c9.1 (k := 8) c9.2 (Nat.le_refl 8) (by decide)) dL_law_632 (fun h632 n632 u632 => ?_)
    have L := L.sh n632 u632
    refine j_aload_n E dL_law_633 rfl ?_
    refine j_iload E dL_law_634 rfl ?_
    refine j_iload E dL_law_636 rfl ?_
    refine s_iast E (L.x (twoA_p hne)) (vin_of c9.1 (k := 8) c9.2 (Nat.le_refl 8) (by decide)) dL_law_638 (fun h638 n638 u638 => ?_)
    have L := L.pt hne n638 u638
    refine j_aload_n E dL_law_639 rfl ?_
    refine j_iload E dL_law_640 rfl ?_
    refine j_iconst (v := 0) E dL_law_642 ci_0 ?_
    refine j_lk E L (fun hC0 ok => h_of0 l D (p_order S m9 r9 (1 + ((w9 / 1275) - (w9 / 1275) / 400 * 400)) ((w9 / 25) - (w9 / 25) / 51 * 51)).1 a0 hC0 ok (S.1 0 4 0)) (cww_of E ⟨by show _ ≤ R.frames; omega, by show _ ≤ R.locals; omega, by show _ ≤ R.cells; omega, by show _ ≤ R.slots; omega, Nat.le_of_ble_eq_true rfl⟩) (q_600 E.tb) rfl dL_law_643 rfl ?_
    refine j_iload E dL_law_646 rfl ?_
    refine j_i2l E dL_law_648 ?_
    refine j_lcmp E dL_law_649 ?_
    refine j_if_ne (tgt := 665) E dL_law_650 (by decide) (fun q => (q (lcmp_eq (by rw [or_lacks L.inv o8 c9.1, o6]))).elim) (fun _ => ?_)
    refine j_aload_n E dL_law_653 rfl ?_
    refine j_iload E dL_law_654 rfl ?_
    refine j_iconst (v := 2) E dL_law_656 ci_2 ?_
    refine j_lk E L (fun hC0 ok => h_of2 l D (p_order S m9 r9 (1 + ((w9 / 1275) - (w9 / 1275) / 400 * 400)) ((w9 / 25) - (w9 / 25) / 51 * 51)).1 a0 hC0 ok (S.1 0 4 0)) (cww_of E ⟨by show _ ≤ R.frames; omega, by show _ ≤ R.locals; omega, by show _ ≤ R.cells; omega, by show _ ≤ R.slots; omega, Nat.le_of_ble_eq_true rfl⟩) (q_600 E.tb) rfl dL_law_657 rfl ?_
    refine j_lconst (v := 0) E dL_law_660 cl_0 ?_
    refine j_lcmp E dL_law_661 ?_
    refine j_if_eq (tgt := 667) E dL_law_662 (by decide) (fun _ => ?_) (fun q => (q (lcmp_eq (by rw [or_shots L.inv o8 c9.1, o7]; decide))).elim)
    refine j_goto (tgt := 834) E dL_law_667 (by decide) ?_
    refine J.sub (lo' := [(0, .ref sc), (1, .ref a0), (2, .ref sa), (3, .ref pa), (4, .int mo), (5, .int ma), (6, .int n6), (7, .int kk), (12, .int iw), (13, .long bf), (15, .int (S.1 0 4 0))]) ⟨rfl, rfl, rfl, rfl, rfl, rfl, rfl, rfl, rfl, rfl, rfl, trivial⟩ ?_
    exact kj _ _ _ _ mo ma (S.1 0 4 0) _ _ L o1 (hmo.trans o2.symm) (hma.trans o3.symm) (fun q => absurd q (nlt c9.1)) (by omega) (by omega)
  · refine j_istore E dL_law_620 (by decide) ?_
    refine j_iload E dL_law_622 rfl ?_
    refine j_if_lt (tgt := 667) E dL_law_624 (by decide) (fun _ => ?_) (fun q => (q (lt0_of (ng_order hz))).elim)
    refine j_goto (tgt := 834) E dL_law_667 (by decide) ?_
    rw [nx_1 hz] at L
    refine J.sub (lo' := [(0, .ref sc), (1, .ref a0), (2, .ref sa), (3, .ref pa), (4, .int mo), (5, .int ma), (6, .int n6), (7, .int kk), (12, .int iw), (13, .long bf), (15, .int (rc (p_order S m9 r9 (1 + ((w9 / 1275) - (w9 / 1275) / 400 * 400)) ((w9 / 25) - (w9 / 25) / 51 * 51))))]) ⟨rfl, rfl, rfl, rfl, rfl, rfl, rfl, rfl, rfl, rfl, rfl, trivial⟩ ?_
    exact kj _ _ _ _ mo ma (rc (p_order S m9 r9 (1 + ((w9 / 1275) - (w9 / 1275) / 400 * 400)) ((w9 / 25) - (w9 / 25) / 51 * 51))) _ _ L P hmo hma (fun _ => rfl) (by omega) (by omega)
end SG
