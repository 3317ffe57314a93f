/-! the law's end: calls that are refused, one by one -/
theorem cd_addResin1 {S : St} {x : Int32} (h : inB x 0 9 = false) : (p_addResin S x).1.1 0 8 0 = 1 := by
  unfold p_addResin
  rw [if_pos h]
  exact s1_eq
theorem cd_fill1 {S : St} {r g : Int32} (h : isRes S r = false) : (p_fill S r g).1.1 0 8 0 = 1 := by
  unfold p_fill
  rw [if_pos h]
  exact s1_eq
theorem cd_fill2 {S : St} {r g : Int32} (h : isRes S r = true) (h2 : inB g 1 99999 = false) : (p_fill S r g).1.1 0 8 0 = 2 := by
  unfold p_fill
  rw [if_neg (bt h), if_pos h2]
  exact s1_eq
theorem cd_empty1 {S : St} {x : Int32} (h : isLot S x = false) : (p_empty S x).1.1 0 8 0 = 1 := by
  unfold p_empty
  rw [if_pos h]
  exact s1_eq
theorem cd_hoursToDry1 {S : St} {x : Int32} (h : isLot S x = false) : (p_hoursToDry S x).1.1 0 8 0 = 1 := by
  unfold p_hoursToDry
  rw [if_pos h]
  exact s1_eq
theorem cd_dry1 {S : St} {x : Int32} (h : isRes S x = false) : (p_dry S x).1.1 0 8 0 = 1 := by
  unfold p_dry
  rw [if_pos h]
  exact s1_eq
theorem cd_regrind1 {S : St} {x : Int32} (h : isRes S x = false) : (p_regrind S x).1.1 0 8 0 = 1 := by
  unfold p_regrind
  rw [if_pos h]
  exact s1_eq
theorem cd_setLife1 {S : St} {mo ca x : Int32} (h : isCav S mo ca = false) : (p_setLife S mo ca x).1.1 0 8 0 = 1 := by
  unfold p_setLife
  rw [if_pos h]
  exact s1_eq
theorem cd_setLife2 {S : St} {mo ca x : Int32} (h : isCav S mo ca = true) (h2 : inB x 1 9999 = false) : (p_setLife S mo ca x).1.1 0 8 0 = 2 := by
  unfold p_setLife
  rw [if_neg (bt h), if_pos h2]
  exact s1_eq
theorem cd_block1 {S : St} {mo ca : Int32} (h : isCav S mo ca = false) : (p_block S mo ca).1.1 0 8 0 = 1 := by
  unfold p_block
  rw [if_pos h]
  exact s1_eq
theorem cd_repair1 {S : St} {mo ca : Int32} (h : isCav S mo ca = false) : (p_repair S mo ca).1.1 0 8 0 = 1 := by
  unfold p_repair
  rw [if_pos h]
  exact s1_eq
theorem cd_next1 {S : St} {mo f : Int32} (h : isMou S mo = false) : (p_nextOpen S mo f).1.1 0 8 0 = 1 := by
  unfold p_nextOpen
  rw [if_pos h]
  exact s1_eq
theorem cd_next2 {S : St} {mo f : Int32} (h : isMou S mo = true) (h2 : nxtA S (nn mo) f = none) : (p_nextOpen S mo f).1.1 0 8 0 = 2 := by
  unfold p_nextOpen
  rw [if_neg (bt h), h2]
  exact s1_eq
theorem cd_addMachine1 {S : St} {x : Int32} (h : inB x 1 999 = false) : (p_addMachine S x).1.1 0 8 0 = 1 := by
  unfold p_addMachine
  rw [if_pos h]
  exact s1_eq
theorem cd_mount1 {S : St} {a mo : Int32} (h : isMac S a = false ∨ isMou S mo = false) : (p_mount S a mo).1.1 0 8 0 = 1 := by
  unfold p_mount
  by_cases q : isMac S a = false
  · rw [if_pos q]; exact s1_eq
  · rw [if_neg q, if_pos (h.resolve_left q)]; exact s1_eq
theorem cd_run1 {S : St} {a o : Int32} (h : isMac S a = false ∨ isOrd S o = false) : (p_run S a o).1.1 0 8 0 = 1 := by
  unfold p_run
  by_cases q : isMac S a = false
  · rw [if_pos q]; exact s1_eq
  · rw [if_neg q, if_pos (h.resolve_left q)]; exact s1_eq
theorem cd_order1 {S : St} {mo r g w : Int32} (h : isMou S mo = false ∨ isRes S r = false) : (p_order S mo r g w).1.1 0 8 0 = 1 := by
  unfold p_order
  by_cases q : isMou S mo = false
  · rw [if_pos q]; exact s1_eq
  · rw [if_neg q, if_pos (h.resolve_left q)]; exact s1_eq
theorem cd_order2 {S : St} {mo r g w : Int32} (h : isMou S mo = true) (h2 : isRes S r = true) (h3 : inB g 1 5000 = false ∨ inB w 0 50 = false) : (p_order S mo r g w).1.1 0 8 0 = 2 := by
  unfold p_order
  rw [if_neg (bt h), if_neg (bt h2)]
  by_cases q : inB g 1 5000 = false
  · rw [if_pos q]; exact s1_eq
  · rw [if_neg q, if_pos (h3.resolve_left q)]; exact s1_eq
theorem cd_pass1 {S : St} {x : Int32} (h : inB x 1 24 = false) : (p_pass S x).1.1 0 8 0 = 1 := by
  unfold p_pass
  rw [if_pos h]
  exact s1_eq
section NO
variable {S : St} {B : Nat}
theorem res_no (I : Inv S B) : isRes S (S.1 0 0 0) = false := no_cnt I.cnt.1 (by decide) (Nat.lt_irrefl _)
theorem lot_no (I : Inv S B) : isLot S (S.1 0 1 0) = false := no_cnt I.cnt.2.1 (by decide) (Nat.lt_irrefl _)
theorem mou_no (I : Inv S B) : isMou S (S.1 0 2 0) = false := no_cnt I.cnt.2.2.1 (by decide) (Nat.lt_irrefl _)
theorem mac_no (I : Inv S B) : isMac S (S.1 0 3 0) = false := no_cnt I.cnt.2.2.2.1 (by decide) (Nat.lt_irrefl _)
theorem ord_no (I : Inv S B) : isOrd S (S.1 0 4 0) = false := no_cnt I.cnt.2.2.2.2 (by decide) (Nat.lt_irrefl _)
theorem lot_neg : isLot S (-1) = false := inB_f1 (by decide)
theorem res_neg : isRes S (-1) = false := inB_f1 (by decide)
theorem ord_neg : isOrd S (-1) = false := inB_f1 (by decide)
theorem cnt_pos {x : Int32} (hx : x = nI (nn x)) (h : ¬ x ≤ 0) : nn (0 : Int32) < nn x := by
  rw [i32_le, ntoI hx, i32_0] at h
  rw [nn_0]
  omega
theorem mou_yes (I : Inv S B) (h : ¬ S.1 0 2 0 ≤ 0) : isMou S 0 = true := inB_mk I.cnt.2.2.1 (by decide) e_0 (cnt_pos I.cnt.2.2.1.1 h)
theorem res_yes (I : Inv S B) (h : ¬ S.1 0 0 0 ≤ 0) : isRes S 0 = true := inB_mk I.cnt.1 (by decide) e_0 (cnt_pos I.cnt.1.1 h)
theorem cav_m (I : Inv S B) {x : Int32} : isCav S (S.1 0 2 0) x = false := by
  unfold isCav
  rw [mou_no I]
  rfl
theorem cav_8 (I : Inv S B) : isCav S 0 8 = false := by
  cases hb : isCav S 0 8 with
  | false => rfl
  | true =>
    obtain ⟨c1, c2, c3, c4⟩ := cav_of I hb
    have e8 : nn (8 : Int32) = 8 := by decide
    omega
theorem cav_neg : isCav S 0 (-1) = false := by
  unfold isCav
  rw [inB_f1 (v := -1) (by decide), Bool.and_false]
theorem cav_0 (I : Inv S B) (h : ¬ S.1 0 2 0 ≤ 0) : isCav S 0 0 = true := by
  unfold isCav
  have hm := isMou_of I.cnt.2.2.1 (mou_yes I h)
  obtain ⟨m6, -⟩ := I.mou _ hm.2
  rw [mou_yes I h, Bool.true_and]
  exact inB_mk (m6.wide (Nat.zero_le _) (Nat.le_refl 8)) (by decide) e_0 (by rw [nn_0]; exact m6.2.1)
theorem nx_8 (I : Inv S B) (h : ¬ S.1 0 2 0 ≤ 0) : nxtA S (nn 0) 8 = none := by
  have hm := isMou_of I.cnt.2.2.1 (mou_yes I h)
  obtain ⟨m6, -⟩ := I.mou _ hm.2
  have e8 : nn (8 : Int32) = 8 := by decide
  have h8 := m6.2.2
  unfold nxtA
  rw [show nn (S.1 6 (nn 0) 0) - nn 8 = 0 by omega]
  rfl
end NO
section SR
variable {p : Program} {l : Launch} {e : Env} {R : Room} {s : State} {m : MethodId} {args : Array Value} {below : List Frame} {meth : Method} {c : Code} {D : va_G} {A : Nat → Prop} {Q : State → Prop}
set_option maxHeartbeats 4000000 in
set_option maxRecDepth 100000 in
theorem pc_1248 (E : Cx p l s m args meth c cL_law 24 RL D A) {S : St} {a0 : Nat} {h : AH} (L : LwP S a0 (fun _ => none) h) (hF : 12 ≤ R.frames ∧ 600 ≤ R.locals) {cells slots : Nat} (hR : cells + 60 ≤ R.cells ∧ slots + 10500 ≤ R.slots) (k : ∀ (h' : AH) (cells' slots' : Nat), LwP S a0 (fun _ => none) h' → cells' ≤ cells + 60 → slots' ≤ slots + 10500 → J p l e R s m args below meth c D A 24 Q cells' slots' h' 1284 [(1, .ref a0), (4, .int (S.1 0 2 0)), (5, .int (S.1 0 3 0)), (7, .long (SUM S)), (10, .int (S.1 0 0 0)), (11, .int (S.1 0 4 0))] []) : J p l e R s m args below meth c D A 24 Q cells slots h 1248 [(1, .ref a0), (4, .int (S.1 0 2 0)), (5, .int (S.1 0 3 0)), (7, .long (SUM S)), (10, .int (S.1 0 0 0)), (11, .int (S.1 0 4 0))] [] := by
  refine j_aload_n E dL_law_1248 rfl ?_
  refine j_iconst (v := (-1)) E dL_law_1249 ci_m1 ?_
  have hc1250 : (p_addResin S (-1)).1.1 0 8 0 = 1 := cd_addResin1 (by decide)
  refine j_mut E L (r := (p_addResin S (-1))) (fun hC0 ok => h_resin l D S a0 hC0 ok (-1)) (cww_resin E ⟨by show _ ≤ R.frames; omega, by show _ ≤ R.locals; omega, by show _ ≤ R.cells; omega, by show _ ≤ R.slots; omega, Nat.le_of_ble_eq_true rfl⟩) (q_120 E.tb) rfl dL_law_1250 rfl (fun h1250 L => ?_)
  rw [nx_1 (by rw [hc1250]; decide)] at L
  refine J.stk (st' := [.int (-1001)]) (by rw [rc_1 hc1250]) ?_
  refine j_sipush (v := -1001) E dL_law_1253 cs_m1001 ?_
  refine j_icmp_ne (tgt := 1511) E dL_law_1256 (by decide) (fun q => (q rfl).elim) (fun _ => ?_)
  refine j_aload_n E dL_law_1259 rfl ?_
  refine j_bipush (v := 10) E dL_law_1260 cb_10 ?_
  have hc1262 : (p_addResin S 10).1.1 0 8 0 = 1 := cd_addResin1 (by decide)
  refine j_mut E L (r := (p_addResin S 10)) (fun hC0 ok => h_resin l D S a0 hC0 ok 10) (cww_resin E ⟨by show _ ≤ R.frames; omega, by show _ ≤ R.locals; omega, by show _ ≤ R.cells; omega, by show _ ≤ R.slots; omega, Nat.le_of_ble_eq_true rfl⟩) (q_120 E.tb) rfl dL_law_1262 rfl (fun h1262 L => ?_)
  rw [nx_1 (by rw [hc1262]; decide)] at L
  refine J.stk (st' := [.int (-1001)]) (by rw [rc_1 hc1262]) ?_
  refine j_sipush (v := -1001) E dL_law_1265 cs_m1001 ?_
  refine j_icmp_ne (tgt := 1511) E dL_law_1268 (by decide) (fun q => (q rfl).elim) (fun _ => ?_)
  refine j_aload_n E dL_law_1271 rfl ?_
  refine j_iload E dL_law_1272 rfl ?_
  refine j_iconst (v := 0) E dL_law_1274 ci_0 ?_
  have hc1275 : (p_fill S (S.1 0 0 0) 0).1.1 0 8 0 = 1 := cd_fill1 (res_no L.inv)
  refine j_mut E L (r := (p_fill S (S.1 0 0 0) 0)) (fun hC0 ok => h_fill l D S a0 hC0 ok (S.1 0 0 0) 0) (cww_fill E ⟨by show _ ≤ R.frames; omega, by show _ ≤ R.locals; omega, by show _ ≤ R.cells; omega, by show _ ≤ R.slots; omega, Nat.le_of_ble_eq_true rfl⟩) (q_233 E.tb) rfl dL_law_1275 rfl (fun h1275 L => ?_)
  rw [nx_1 (by rw [hc1275]; decide)] at L
  refine J.stk (st' := [.int (-1001)]) (by rw [rc_1 hc1275]) ?_
  refine j_sipush (v := -1001) E dL_law_1278 cs_m1001 ?_
  refine j_icmp_ne (tgt := 1511) E dL_law_1281 (by decide) (fun q => (q rfl).elim) (fun _ => ?_)
  exact k _ _ _ L (by omega) (by omega)
set_option maxHeartbeats 4000000 in
set_option maxRecDepth 100000 in
theorem pc_1284 (E : Cx p l s m args meth c cL_law 24 RL D A) {S : St} {a0 : Nat} {h : AH} (L : LwP S a0 (fun _ => none) h) (hF : 12 ≤ R.frames ∧ 600 ≤ R.locals) {cells slots : Nat} (hR : cells + 60 ≤ R.cells ∧ slots + 10500 ≤ R.slots) (k : ∀ (h' : AH) (cells' slots' : Nat), LwP S a0 (fun _ => none) h' → cells' ≤ cells + 60 → slots' ≤ slots + 10500 → J p l e R s m args below meth c D A 24 Q cells' slots' h' 1301 [(1, .ref a0), (4, .int (S.1 0 2 0)), (5, .int (S.1 0 3 0)), (7, .long (SUM S)), (10, .int (S.1 0 0 0)), (11, .int (S.1 0 4 0))] []) : J p l e R s m args below meth c D A 24 Q cells slots h 1284 [(1, .ref a0), (4, .int (S.1 0 2 0)), (5, .int (S.1 0 3 0)), (7, .long (SUM S)), (10, .int (S.1 0 0 0)), (11, .int (S.1 0 4 0))] [] := by
  refine j_iload E dL_law_1284 rfl ?_
  refine j_if_le (tgt := 1301) E dL_law_1286 (by decide) (fun c_1286 => ?_) (fun c_1286 => ?_)
  · exact k _ _ _ L (by omega) (by omega)
  · refine j_aload_n E dL_law_1289 rfl ?_
    refine j_iconst (v := 0) E dL_law_1290 ci_0 ?_
    refine j_iconst (v := 0) E dL_law_1291 ci_0 ?_
    have hc1292 : (p_fill S 0 0).1.1 0 8 0 = 2 := cd_fill2 (res_yes L.inv c_1286) (by decide)
    refine j_mut E L (r := (p_fill S 0 0)) (fun hC0 ok => h_fill l D S a0 hC0 ok 0 0) (cww_fill E ⟨by show _ ≤ R.frames; omega, by show _ ≤ R.locals; omega, by show _ ≤ R.cells; omega, by show _ ≤ R.slots; omega, Nat.le_of_ble_eq_true rfl⟩) (q_233 E.tb) rfl dL_law_1292 rfl (fun h1292 L => ?_)
    rw [nx_1 (by rw [hc1292]; decide)] at L
    refine J.stk (st' := [.int (-1002)]) (by rw [rc_2 hc1292]) ?_
    refine j_sipush (v := -1002) E dL_law_1295 cs_m1002 ?_
    refine j_icmp_ne (tgt := 1511) E dL_law_1298 (by decide) (fun q => (q rfl).elim) (fun _ => ?_)
    exact k _ _ _ L (by omega) (by omega)
set_option maxHeartbeats 4000000 in
set_option maxRecDepth 100000 in
theorem pc_1301 (E : Cx p l s m args meth c cL_law 24 RL D A) {S : St} {a0 : Nat} {h : AH} (L : LwP S a0 (fun _ => none) h) (hF : 12 ≤ R.frames ∧ 600 ≤ R.locals) {cells slots : Nat} (hR : cells + 60 ≤ R.cells ∧ slots + 10500 ≤ R.slots) (k : ∀ (h' : AH) (cells' slots' : Nat), LwP S a0 (fun _ => none) h' → cells' ≤ cells + 60 → slots' ≤ slots + 10500 → J p l e R s m args below meth c D A 24 Q cells' slots' h' 1319 [(1, .ref a0), (4, .int (S.1 0 2 0)), (5, .int (S.1 0 3 0)), (7, .long (SUM S)), (10, .int (S.1 0 0 0)), (11, .int (S.1 0 4 0))] []) : J p l e R s m args below meth c D A 24 Q cells slots h 1301 [(1, .ref a0), (4, .int (S.1 0 2 0)), (5, .int (S.1 0 3 0)), (7, .long (SUM S)), (10, .int (S.1 0 0 0)), (11, .int (S.1 0 4 0))] [] := by
  refine j_iload E dL_law_1301 rfl ?_
  refine j_if_le (tgt := 1319) E dL_law_1303 (by decide) (fun c_1303 => ?_) (fun c_1303 => ?_)
  · exact k _ _ _ L (by omega) (by omega)
  · refine j_aload_n E dL_law_1306 rfl ?_
    refine j_iconst (v := 0) E dL_law_1307 ci_0 ?_
    refine j_ldci E (q_735 E.tb) dL_law_1308 ?_
    have hc1310 : (p_fill S 0 100000).1.1 0 8 0 = 2 := cd_fill2 (res_yes L.inv c_1303) (by decide)
    refine j_mut E L (r := (p_fill S 0 100000)) (fun hC0 ok => h_fill l D S a0 hC0 ok 0 100000) (cww_fill E ⟨by show _ ≤ R.frames; omega, by show _ ≤ R.locals; omega, by show _ ≤ R.cells; omega, by show _ ≤ R.slots; omega, Nat.le_of_ble_eq_true rfl⟩) (q_233 E.tb) rfl dL_law_1310 rfl (fun h1310 L => ?_)
    rw [nx_1 (by rw [hc1310]; decide)] at L
    refine J.stk (st' := [.int (-1002)]) (by rw [rc_2 hc1310]) ?_
    refine j_sipush (v := -1002) E dL_law_1313 cs_m1002 ?_
    refine j_icmp_ne (tgt := 1511) E dL_law_1316 (by decide) (fun q => (q rfl).elim) (fun _ => ?_)
    exact k _ _ _ L (by omega) (by omega)
set_option maxHeartbeats 4000000 in
set_option maxRecDepth 100000 in
theorem pc_1319 (E : Cx p l s m args meth c cL_law 24 RL D A) {S : St} {a0 : Nat} {h : AH} (L : LwP S a0 (fun _ => none) h) (hF : 12 ≤ R.frames ∧ 600 ≤ R.locals) {cells slots : Nat} (hR : cells + 60 ≤ R.cells ∧ slots + 10500 ≤ R.slots) (k : ∀ (h' : AH) (cells' slots' : Nat), LwP S a0 (fun _ => none) h' → cells' ≤ cells + 60 → slots' ≤ slots + 10500 → J p l e R s m args below meth c D A 24 Q cells' slots' h' 1371 [(1, .ref a0), (4, .int (S.1 0 2 0)), (5, .int (S.1 0 3 0)), (7, .long (SUM S)), (10, .int (S.1 0 0 0)), (11, .int (S.1 0 4 0))] []) : J p l e R s m args below meth c D A 24 Q cells slots h 1319 [(1, .ref a0), (4, .int (S.1 0 2 0)), (5, .int (S.1 0 3 0)), (7, .long (SUM S)), (10, .int (S.1 0 0 0)), (11, .int (S.1 0 4 0))] [] := by
  refine j_aload_n E dL_law_1319 rfl ?_
  refine j_aload_n E dL_law_1320 rfl ?_
  refine j_lkV E L (fun hC0 ok => kl_lots l D S a0 hC0 ok) (cw_L_124 E ⟨by show _ ≤ R.frames; omega, by show _ ≤ R.locals; omega, by show _ ≤ R.cells; omega, by show _ ≤ R.slots; omega, Nat.le_of_ble_eq_true rfl⟩) (q_106 E.tb) (q_107 E.tb) rfl rfl dL_law_1321 rfl ?_
  refine j_iconst (v := 0) E dL_law_1324 ci_0 ?_
  have hc1325 : (p_empty S (S.1 0 1 0)).1.1 0 8 0 = 1 := cd_empty1 (lot_no L.inv)
  refine j_mut E L (r := (p_empty S (S.1 0 1 0))) (fun hC0 ok => h_lotE l D S a0 hC0 ok (S.1 0 1 0)) (cww_lot E ⟨by show _ ≤ R.frames; omega, by show _ ≤ R.locals; omega, by show _ ≤ R.cells; omega, by show _ ≤ R.slots; omega, Nat.le_of_ble_eq_true rfl⟩) (q_310 E.tb) rfl dL_law_1325 rfl (fun h1325 L => ?_)
  rw [nx_1 (by rw [hc1325]; decide)] at L
  refine J.stk (st' := [.int (-1001)]) (by rw [rc_1 hc1325]) ?_
  refine j_sipush (v := -1001) E dL_law_1328 cs_m1001 ?_
  refine j_icmp_ne (tgt := 1511) E dL_law_1331 (by decide) (fun q => (q rfl).elim) (fun _ => ?_)
  refine j_aload_n E dL_law_1334 rfl ?_
  refine j_iconst (v := (-1)) E dL_law_1335 ci_m1 ?_
  refine j_iconst (v := 1) E dL_law_1336 ci_1 ?_
  refine j_lk E L (fun hC0 ok => h_lotH l D S a0 hC0 ok (-1)) (cww_lot E ⟨by show _ ≤ R.frames; omega, by show _ ≤ R.locals; omega, by show _ ≤ R.cells; omega, by show _ ≤ R.slots; omega, Nat.le_of_ble_eq_true rfl⟩) (q_310 E.tb) rfl dL_law_1337 rfl ?_
  refine J.stk (st' := [.int (-1001)]) (by rw [rc_1 (cd_hoursToDry1 lot_neg)]) ?_
  refine j_sipush (v := -1001) E dL_law_1340 cs_m1001 ?_
  refine j_icmp_ne (tgt := 1511) E dL_law_1343 (by decide) (fun q => (q rfl).elim) (fun _ => ?_)
  refine j_aload_n E dL_law_1346 rfl ?_
  refine j_iload E dL_law_1347 rfl ?_
  refine j_iconst (v := 2) E dL_law_1349 ci_2 ?_
  refine j_lk E L (fun hC0 ok => h_lotD l D S a0 hC0 ok (S.1 0 0 0)) (cww_lot E ⟨by show _ ≤ R.frames; omega, by show _ ≤ R.locals; omega, by show _ ≤ R.cells; omega, by show _ ≤ R.slots; omega, Nat.le_of_ble_eq_true rfl⟩) (q_310 E.tb) rfl dL_law_1350 rfl ?_
  refine J.stk (st' := [.int (-1001)]) (by rw [rc_1 (cd_dry1 (res_no L.inv))]) ?_
  refine j_sipush (v := -1001) E dL_law_1353 cs_m1001 ?_
  refine j_icmp_ne (tgt := 1511) E dL_law_1356 (by decide) (fun q => (q rfl).elim) (fun _ => ?_)
  refine j_aload_n E dL_law_1359 rfl ?_
  refine j_iconst (v := (-1)) E dL_law_1360 ci_m1 ?_
  refine j_iconst (v := 3) E dL_law_1361 ci_3 ?_
  refine j_lk E L (fun hC0 ok => h_lotR l D S a0 hC0 ok (-1)) (cww_lot E ⟨by show _ ≤ R.frames; omega, by show _ ≤ R.locals; omega, by show _ ≤ R.cells; omega, by show _ ≤ R.slots; omega, Nat.le_of_ble_eq_true rfl⟩) (q_310 E.tb) rfl dL_law_1362 rfl ?_
  refine J.stk (st' := [.int (-1001)]) (by rw [rc_1 (cd_regrind1 res_neg)]) ?_
  refine j_sipush (v := -1001) E dL_law_1365 cs_m1001 ?_
  refine j_icmp_ne (tgt := 1511) E dL_law_1368 (by decide) (fun q => (q rfl).elim) (fun _ => ?_)
  exact k _ _ _ L (by omega) (by omega)
set_option maxHeartbeats 4000000 in
set_option maxRecDepth 100000 in
theorem pc_1371 (E : Cx p l s m args meth c cL_law 24 RL D A) {S : St} {a0 : Nat} {h : AH} (L : LwP S a0 (fun _ => none) h) (hF : 12 ≤ R.frames ∧ 600 ≤ R.locals) {cells slots : Nat} (hR : cells + 60 ≤ R.cells ∧ slots + 10500 ≤ R.slots) (k : ∀ (h' : AH) (cells' slots' : Nat), LwP S a0 (fun _ => none) h' → cells' ≤ cells + 60 → slots' ≤ slots + 10500 → J p l e R s m args below meth c D A 24 Q cells' slots' h' 1399 [(1, .ref a0), (4, .int (S.1 0 2 0)), (5, .int (S.1 0 3 0)), (7, .long (SUM S)), (10, .int (S.1 0 0 0)), (11, .int (S.1 0 4 0))] []) : J p l e R s m args below meth c D A 24 Q cells slots h 1371 [(1, .ref a0), (4, .int (S.1 0 2 0)), (5, .int (S.1 0 3 0)), (7, .long (SUM S)), (10, .int (S.1 0 0 0)), (11, .int (S.1 0 4 0))] [] := by
  refine j_aload_n E dL_law_1371 rfl ?_
  refine j_iload E dL_law_1372 rfl ?_
  refine j_iconst (v := 0) E dL_law_1374 ci_0 ?_
  refine j_iconst (v := 0) E dL_law_1375 ci_0 ?_
  have hc1376 : (p_setLife S (S.1 0 2 0) 0 0).1.1 0 8 0 = 1 := cd_setLife1 (cav_m L.inv)
  refine j_mut E L (r := (p_setLife S (S.1 0 2 0) 0 0)) (fun hC0 ok => h_life l D S a0 hC0 ok (S.1 0 2 0) 0 0) (cww_life E ⟨by show _ ≤ R.frames; omega, by show _ ≤ R.locals; omega, by show _ ≤ R.cells; omega, by show _ ≤ R.slots; omega, Nat.le_of_ble_eq_true rfl⟩) (q_421 E.tb) rfl dL_law_1376 rfl (fun h1376 L => ?_)
  rw [nx_1 (by rw [hc1376]; decide)] at L
  refine J.stk (st' := [.int (-1001)]) (by rw [rc_1 hc1376]) ?_
  refine j_sipush (v := -1001) E dL_law_1379 cs_m1001 ?_
  refine j_icmp_ne (tgt := 1511) E dL_law_1382 (by decide) (fun q => (q rfl).elim) (fun _ => ?_)
  refine j_aload_n E dL_law_1385 rfl ?_
  refine j_iconst (v := 0) E dL_law_1386 ci_0 ?_
  refine j_bipush (v := 8) E dL_law_1387 cb_8 ?_
  refine j_iconst (v := 0) E dL_law_1389 ci_0 ?_
  have hc1390 : (p_setLife S 0 8 0).1.1 0 8 0 = 1 := cd_setLife1 (cav_8 L.inv)
  refine j_mut E L (r := (p_setLife S 0 8 0)) (fun hC0 ok => h_life l D S a0 hC0 ok 0 8 0) (cww_life E ⟨by show _ ≤ R.frames; omega, by show _ ≤ R.locals; omega, by show _ ≤ R.cells; omega, by show _ ≤ R.slots; omega, Nat.le_of_ble_eq_true rfl⟩) (q_421 E.tb) rfl dL_law_1390 rfl (fun h1390 L => ?_)
  rw [nx_1 (by rw [hc1390]; decide)] at L
  refine J.stk (st' := [.int (-1001)]) (by rw [rc_1 hc1390]) ?_
  refine j_sipush (v := -1001) E dL_law_1393 cs_m1001 ?_
  refine j_icmp_ne (tgt := 1511) E dL_law_1396 (by decide) (fun q => (q rfl).elim) (fun _ => ?_)
  exact k _ _ _ L (by omega) (by omega)
set_option maxHeartbeats 4000000 in
set_option maxRecDepth 100000 in
theorem pc_1399 (E : Cx p l s m args meth c cL_law 24 RL D A) {S : St} {a0 : Nat} {h : AH} (L : LwP S a0 (fun _ => none) h) (hF : 12 ≤ R.frames ∧ 600 ≤ R.locals) {cells slots : Nat} (hR : cells + 60 ≤ R.cells ∧ slots + 10500 ≤ R.slots) (k : ∀ (h' : AH) (cells' slots' : Nat), LwP S a0 (fun _ => none) h' → cells' ≤ cells + 60 → slots' ≤ slots + 10500 → J p l e R s m args below meth c D A 24 Q cells' slots' h' 1417 [(1, .ref a0), (4, .int (S.1 0 2 0)), (5, .int (S.1 0 3 0)), (7, .long (SUM S)), (10, .int (S.1 0 0 0)), (11, .int (S.1 0 4 0))] []) : J p l e R s m args below meth c D A 24 Q cells slots h 1399 [(1, .ref a0), (4, .int (S.1 0 2 0)), (5, .int (S.1 0 3 0)), (7, .long (SUM S)), (10, .int (S.1 0 0 0)), (11, .int (S.1 0 4 0))] [] := by
  refine j_iload E dL_law_1399 rfl ?_
  refine j_if_le (tgt := 1417) E dL_law_1401 (by decide) (fun c_1401 => ?_) (fun c_1401 => ?_)
  · exact k _ _ _ L (by omega) (by omega)
  · refine j_aload_n E dL_law_1404 rfl ?_
    refine j_iconst (v := 0) E dL_law_1405 ci_0 ?_
    refine j_iconst (v := 0) E dL_law_1406 ci_0 ?_
    refine j_iconst (v := 0) E dL_law_1407 ci_0 ?_
    have hc1408 : (p_setLife S 0 0 0).1.1 0 8 0 = 2 := cd_setLife2 (cav_0 L.inv c_1401) (by decide)
    refine j_mut E L (r := (p_setLife S 0 0 0)) (fun hC0 ok => h_life l D S a0 hC0 ok 0 0 0) (cww_life E ⟨by show _ ≤ R.frames; omega, by show _ ≤ R.locals; omega, by show _ ≤ R.cells; omega, by show _ ≤ R.slots; omega, Nat.le_of_ble_eq_true rfl⟩) (q_421 E.tb) rfl dL_law_1408 rfl (fun h1408 L => ?_)
    rw [nx_1 (by rw [hc1408]; decide)] at L
    refine J.stk (st' := [.int (-1002)]) (by rw [rc_2 hc1408]) ?_
    refine j_sipush (v := -1002) E dL_law_1411 cs_m1002 ?_
    refine j_icmp_ne (tgt := 1511) E dL_law_1414 (by decide) (fun q => (q rfl).elim) (fun _ => ?_)
    exact k _ _ _ L (by omega) (by omega)
set_option maxHeartbeats 4000000 in
set_option maxRecDepth 100000 in
theorem pc_1417 (E : Cx p l s m args meth c cL_law 24 RL D A) {S : St} {a0 : Nat} {h : AH} (L : LwP S a0 (fun _ => none) h) (hF : 12 ≤ R.frames ∧ 600 ≤ R.locals) {cells slots : Nat} (hR : cells + 60 ≤ R.cells ∧ slots + 10500 ≤ R.slots) (k : ∀ (h' : AH) (cells' slots' : Nat), LwP S a0 (fun _ => none) h' → cells' ≤ cells + 60 → slots' ≤ slots + 10500 → J p l e R s m args below meth c D A 24 Q cells' slots' h' 1437 [(1, .ref a0), (4, .int (S.1 0 2 0)), (5, .int (S.1 0 3 0)), (7, .long (SUM S)), (10, .int (S.1 0 0 0)), (11, .int (S.1 0 4 0))] []) : J p l e R s m args below meth c D A 24 Q cells slots h 1417 [(1, .ref a0), (4, .int (S.1 0 2 0)), (5, .int (S.1 0 3 0)), (7, .long (SUM S)), (10, .int (S.1 0 0 0)), (11, .int (S.1 0 4 0))] [] := by
  refine j_iload E dL_law_1417 rfl ?_
  refine j_if_le (tgt := 1437) E dL_law_1419 (by decide) (fun c_1419 => ?_) (fun c_1419 => ?_)
  · exact k _ _ _ L (by omega) (by omega)
  · refine j_aload_n E dL_law_1422 rfl ?_
    refine j_iconst (v := 0) E dL_law_1423 ci_0 ?_
    refine j_iconst (v := 0) E dL_law_1424 ci_0 ?_
    refine j_sipush (v := 10000) E dL_law_1425 cs_10000 ?_
    have hc1428 : (p_setLife S 0 0 10000).1.1 0 8 0 = 2 := cd_setLife2 (cav_0 L.inv c_1419) (by decide)
    refine j_mut E L (r := (p_setLife S 0 0 10000)) (fun hC0 ok => h_life l D S a0 hC0 ok 0 0 10000) (cww_life E ⟨by show _ ≤ R.frames; omega, by show _ ≤ R.locals; omega, by show _ ≤ R.cells; omega, by show _ ≤ R.slots; omega, Nat.le_of_ble_eq_true rfl⟩) (q_421 E.tb) rfl dL_law_1428 rfl (fun h1428 L => ?_)
    rw [nx_1 (by rw [hc1428]; decide)] at L
    refine J.stk (st' := [.int (-1002)]) (by rw [rc_2 hc1428]) ?_
    refine j_sipush (v := -1002) E dL_law_1431 cs_m1002 ?_
    refine j_icmp_ne (tgt := 1511) E dL_law_1434 (by decide) (fun q => (q rfl).elim) (fun _ => ?_)
    exact k _ _ _ L (by omega) (by omega)
set_option maxHeartbeats 4000000 in
set_option maxRecDepth 100000 in
theorem pc_1437 (E : Cx p l s m args meth c cL_law 24 RL D A) {S : St} {a0 : Nat} {h : AH} (L : LwP S a0 (fun _ => none) h) (hF : 12 ≤ R.frames ∧ 600 ≤ R.locals) {cells slots : Nat} (hR : cells + 60 ≤ R.cells ∧ slots + 10500 ≤ R.slots) (k : ∀ (h' : AH) (cells' slots' : Nat), LwP S a0 (fun _ => none) h' → cells' ≤ cells + 60 → slots' ≤ slots + 10500 → J p l e R s m args below meth c D A 24 Q cells' slots' h' 1492 [(1, .ref a0), (4, .int (S.1 0 2 0)), (5, .int (S.1 0 3 0)), (7, .long (SUM S)), (10, .int (S.1 0 0 0)), (11, .int (S.1 0 4 0))] []) : J p l e R s m args below meth c D A 24 Q cells slots h 1437 [(1, .ref a0), (4, .int (S.1 0 2 0)), (5, .int (S.1 0 3 0)), (7, .long (SUM S)), (10, .int (S.1 0 0 0)), (11, .int (S.1 0 4 0))] [] := by
  refine j_aload_n E dL_law_1437 rfl ?_
  refine j_iload E dL_law_1438 rfl ?_
  refine j_iconst (v := 0) E dL_law_1440 ci_0 ?_
  refine j_iconst (v := 0) E dL_law_1441 ci_0 ?_
  have hc1442 : (p_block S (S.1 0 2 0) 0).1.1 0 8 0 = 1 := cd_block1 (cav_m L.inv)
  refine j_mut E L (r := (p_block S (S.1 0 2 0) 0)) (fun hC0 ok => h_cavB l D S a0 hC0 ok (S.1 0 2 0) 0) (cww_cavity E ⟨by show _ ≤ R.frames; omega, by show _ ≤ R.locals; omega, by show _ ≤ R.cells; omega, by show _ ≤ R.slots; omega, Nat.le_of_ble_eq_true rfl⟩) (q_441 E.tb) rfl dL_law_1442 rfl (fun h1442 L => ?_)
  rw [nx_1 (by rw [hc1442]; decide)] at L
  refine J.stk (st' := [.int (-1001)]) (by rw [rc_1 hc1442]) ?_
  refine j_sipush (v := -1001) E dL_law_1445 cs_m1001 ?_
  refine j_icmp_ne (tgt := 1511) E dL_law_1448 (by decide) (fun q => (q rfl).elim) (fun _ => ?_)
  refine j_aload_n E dL_law_1451 rfl ?_
  refine j_iconst (v := 0) E dL_law_1452 ci_0 ?_
  refine j_bipush (v := 8) E dL_law_1453 cb_8 ?_
  refine j_iconst (v := 1) E dL_law_1455 ci_1 ?_
  have hc1456 : (p_repair S 0 8).1.1 0 8 0 = 1 := cd_repair1 (cav_8 L.inv)
  refine j_mut E L (r := (p_repair S 0 8)) (fun hC0 ok => h_cavR l D S a0 hC0 ok 0 8) (cww_cavity E ⟨by show _ ≤ R.frames; omega, by show _ ≤ R.locals; omega, by show _ ≤ R.cells; omega, by show _ ≤ R.slots; omega, Nat.le_of_ble_eq_true rfl⟩) (q_441 E.tb) rfl dL_law_1456 rfl (fun h1456 L => ?_)
  rw [nx_1 (by rw [hc1456]; decide)] at L
  refine J.stk (st' := [.int (-1001)]) (by rw [rc_1 hc1456]) ?_
  refine j_sipush (v := -1001) E dL_law_1459 cs_m1001 ?_
  refine j_icmp_ne (tgt := 1511) E dL_law_1462 (by decide) (fun q => (q rfl).elim) (fun _ => ?_)
  refine j_aload_n E dL_law_1465 rfl ?_
  refine j_iconst (v := 0) E dL_law_1466 ci_0 ?_
  refine j_iconst (v := (-1)) E dL_law_1467 ci_m1 ?_
  refine j_iconst (v := 0) E dL_law_1468 ci_0 ?_
  have hc1469 : (p_block S 0 (-1)).1.1 0 8 0 = 1 := cd_block1 cav_neg
  refine j_mut E L (r := (p_block S 0 (-1))) (fun hC0 ok => h_cavB l D S a0 hC0 ok 0 (-1)) (cww_cavity E ⟨by show _ ≤ R.frames; omega, by show _ ≤ R.locals; omega, by show _ ≤ R.cells; omega, by show _ ≤ R.slots; omega, Nat.le_of_ble_eq_true rfl⟩) (q_441 E.tb) rfl dL_law_1469 rfl (fun h1469 L => ?_)
  rw [nx_1 (by rw [hc1469]; decide)] at L
  refine J.stk (st' := [.int (-1001)]) (by rw [rc_1 hc1469]) ?_
  refine j_sipush (v := -1001) E dL_law_1472 cs_m1001 ?_
  refine j_icmp_ne (tgt := 1511) E dL_law_1475 (by decide) (fun q => (q rfl).elim) (fun _ => ?_)
  refine j_aload_n E dL_law_1478 rfl ?_
  refine j_iload E dL_law_1479 rfl ?_
  refine j_iconst (v := 0) E dL_law_1481 ci_0 ?_
  refine j_iconst (v := 2) E dL_law_1482 ci_2 ?_
  refine j_lk E L (fun hC0 ok => h_cavN l D S a0 hC0 ok (S.1 0 2 0) 0) (cww_cavity E ⟨by show _ ≤ R.frames; omega, by show _ ≤ R.locals; omega, by show _ ≤ R.cells; omega, by show _ ≤ R.slots; omega, Nat.le_of_ble_eq_true rfl⟩) (q_441 E.tb) rfl dL_law_1483 rfl ?_
  refine J.stk (st' := [.int (-1001)]) (by rw [rc_1 (cd_next1 (mou_no L.inv))]) ?_
  refine j_sipush (v := -1001) E dL_law_1486 cs_m1001 ?_
  refine j_icmp_ne (tgt := 1511) E dL_law_1489 (by decide) (fun q => (q rfl).elim) (fun _ => ?_)
  exact k _ _ _ L (by omega) (by omega)
set_option maxHeartbeats 4000000 in
set_option maxRecDepth 100000 in
theorem pc_1492 (E : Cx p l s m args meth c cL_law 24 RL D A) {S : St} {a0 : Nat} {h : AH} (L : LwP S a0 (fun _ => none) h) (hF : 12 ≤ R.frames ∧ 600 ≤ R.locals) {cells slots : Nat} (hR : cells + 60 ≤ R.cells ∧ slots + 10500 ≤ R.slots) (k : ∀ (h' : AH) (cells' slots' : Nat), LwP S a0 (fun _ => none) h' → cells' ≤ cells + 60 → slots' ≤ slots + 10500 → J p l e R s m args below meth c D A 24 Q cells' slots' h' 1513 [(1, .ref a0), (4, .int (S.1 0 2 0)), (5, .int (S.1 0 3 0)), (7, .long (SUM S)), (10, .int (S.1 0 0 0)), (11, .int (S.1 0 4 0))] []) : J p l e R s m args below meth c D A 24 Q cells slots h 1492 [(1, .ref a0), (4, .int (S.1 0 2 0)), (5, .int (S.1 0 3 0)), (7, .long (SUM S)), (10, .int (S.1 0 0 0)), (11, .int (S.1 0 4 0))] [] := by
  refine j_iload E dL_law_1492 rfl ?_
  refine j_if_le (tgt := 1513) E dL_law_1494 (by decide) (fun c_1494 => ?_) (fun c_1494 => ?_)
  · exact k _ _ _ L (by omega) (by omega)
  · refine j_aload_n E dL_law_1497 rfl ?_
    refine j_iconst (v := 0) E dL_law_1498 ci_0 ?_
    refine j_bipush (v := 8) E dL_law_1499 cb_8 ?_
    refine j_iconst (v := 2) E dL_law_1501 ci_2 ?_
    refine j_lk E L (fun hC0 ok => h_cavN l D S a0 hC0 ok 0 8) (cww_cavity E ⟨by show _ ≤ R.frames; omega, by show _ ≤ R.locals; omega, by show _ ≤ R.cells; omega, by show _ ≤ R.slots; omega, Nat.le_of_ble_eq_true rfl⟩) (q_441 E.tb) rfl dL_law_1502 rfl ?_
    refine J.stk (st' := [.int (-1002)]) (by rw [rc_2 (cd_next2 (mou_yes L.inv c_1494) (nx_8 L.inv c_1494))]) ?_
    refine j_sipush (v := -1002) E dL_law_1505 cs_m1002 ?_
    refine j_icmp_eq (tgt := 1513) E dL_law_1508 (by decide) (fun _ => ?_) (fun q => (q rfl).elim)
    exact k _ _ _ L (by omega) (by omega)
set_option maxHeartbeats 4000000 in
set_option maxRecDepth 100000 in
theorem pc_1513 (E : Cx p l s m args meth c cL_law 24 RL D A) {S : St} {a0 : Nat} {h : AH} (L : LwP S a0 (fun _ => none) h) (hF : 12 ≤ R.frames ∧ 600 ≤ R.locals) {cells slots : Nat} (hR : cells + 60 ≤ R.cells ∧ slots + 10500 ≤ R.slots) (k : ∀ (h' : AH) (cells' slots' : Nat), LwP S a0 (fun _ => none) h' → cells' ≤ cells + 60 → slots' ≤ slots + 10500 → J p l e R s m args below meth c D A 24 Q cells' slots' h' 1537 [(1, .ref a0), (4, .int (S.1 0 2 0)), (5, .int (S.1 0 3 0)), (7, .long (SUM S)), (10, .int (S.1 0 0 0)), (11, .int (S.1 0 4 0))] []) : J p l e R s m args below meth c D A 24 Q cells slots h 1513 [(1, .ref a0), (4, .int (S.1 0 2 0)), (5, .int (S.1 0 3 0)), (7, .long (SUM S)), (10, .int (S.1 0 0 0)), (11, .int (S.1 0 4 0))] [] := by
  refine j_aload_n E dL_law_1513 rfl ?_
  refine j_iconst (v := 0) E dL_law_1514 ci_0 ?_
  have hc1515 : (p_addMachine S 0).1.1 0 8 0 = 1 := cd_addMachine1 (by decide)
  refine j_mut E L (r := (p_addMachine S 0)) (fun hC0 ok => h_machine l D S a0 hC0 ok 0) (cww_machine E ⟨by show _ ≤ R.frames; omega, by show _ ≤ R.locals; omega, by show _ ≤ R.cells; omega, by show _ ≤ R.slots; omega, Nat.le_of_ble_eq_true rfl⟩) (q_480 E.tb) rfl dL_law_1515 rfl (fun h1515 L => ?_)
  rw [nx_1 (by rw [hc1515]; decide)] at L
  refine J.stk (st' := [.int (-1001)]) (by rw [rc_1 hc1515]) ?_
  refine j_sipush (v := -1001) E dL_law_1518 cs_m1001 ?_
  refine j_icmp_ne (tgt := 1725) E dL_law_1521 (by decide) (fun q => (q rfl).elim) (fun _ => ?_)
  refine j_aload_n E dL_law_1524 rfl ?_
  refine j_sipush (v := 1000) E dL_law_1525 cs_1000 ?_
  have hc1528 : (p_addMachine S 1000).1.1 0 8 0 = 1 := cd_addMachine1 (by decide)
  refine j_mut E L (r := (p_addMachine S 1000)) (fun hC0 ok => h_machine l D S a0 hC0 ok 1000) (cww_machine E ⟨by show _ ≤ R.frames; omega, by show _ ≤ R.locals; omega, by show _ ≤ R.cells; omega, by show _ ≤ R.slots; omega, Nat.le_of_ble_eq_true rfl⟩) (q_480 E.tb) rfl dL_law_1528 rfl (fun h1528 L => ?_)
  rw [nx_1 (by rw [hc1528]; decide)] at L
  refine J.stk (st' := [.int (-1001)]) (by rw [rc_1 hc1528]) ?_
  refine j_sipush (v := -1001) E dL_law_1531 cs_m1001 ?_
  refine j_icmp_ne (tgt := 1725) E dL_law_1534 (by decide) (fun q => (q rfl).elim) (fun _ => ?_)
  exact k _ _ _ L (by omega) (by omega)
set_option maxHeartbeats 4000000 in
set_option maxRecDepth 100000 in
theorem pc_1537 (E : Cx p l s m args meth c cL_law 24 RL D A) {S : St} {a0 : Nat} {h : AH} (L : LwP S a0 (fun _ => none) h) (hF : 12 ≤ R.frames ∧ 600 ≤ R.locals) {cells slots : Nat} (hR : cells + 60 ≤ R.cells ∧ slots + 10500 ≤ R.slots) (k : ∀ (h' : AH) (cells' slots' : Nat), LwP S a0 (fun _ => none) h' → cells' ≤ cells + 60 → slots' ≤ slots + 10500 → J p l e R s m args below meth c D A 24 Q cells' slots' h' 1597 [(1, .ref a0), (4, .int (S.1 0 2 0)), (5, .int (S.1 0 3 0)), (7, .long (SUM S)), (10, .int (S.1 0 0 0)), (11, .int (S.1 0 4 0))] []) : J p l e R s m args below meth c D A 24 Q cells slots h 1537 [(1, .ref a0), (4, .int (S.1 0 2 0)), (5, .int (S.1 0 3 0)), (7, .long (SUM S)), (10, .int (S.1 0 0 0)), (11, .int (S.1 0 4 0))] [] := by
  refine j_aload_n E dL_law_1537 rfl ?_
  refine j_bipush (v := 109) E dL_law_1538 cb_109 ?_
  refine j_iload E dL_law_1540 rfl ?_
  refine j_iconst (v := 0) E dL_law_1542 ci_0 ?_
  have hc1543 : (p_mount S (S.1 0 3 0) 0).1.1 0 8 0 = 1 := cd_mount1 (Or.inl (mac_no L.inv))
  refine j_mut E L (r := (p_mount S (S.1 0 3 0) 0)) (fun hC0 ok => h_putsM l D S a0 hC0 ok (S.1 0 3 0) 0) (cww_puts E ⟨by show _ ≤ R.frames; omega, by show _ ≤ R.locals; omega, by show _ ≤ R.cells; omega, by show _ ≤ R.slots; omega, Nat.le_of_ble_eq_true rfl⟩) (q_504 E.tb) rfl dL_law_1543 rfl (fun h1543 L => ?_)
  rw [nx_1 (by rw [hc1543]; decide)] at L
  refine J.stk (st' := [.int (-1001)]) (by rw [rc_1 hc1543]) ?_
  refine j_sipush (v := -1001) E dL_law_1546 cs_m1001 ?_
  refine j_icmp_ne (tgt := 1725) E dL_law_1549 (by decide) (fun q => (q rfl).elim) (fun _ => ?_)
  refine j_aload_n E dL_law_1552 rfl ?_
  refine j_bipush (v := 109) E dL_law_1553 cb_109 ?_
  refine j_iconst (v := 0) E dL_law_1555 ci_0 ?_
  refine j_iload E dL_law_1556 rfl ?_
  have hc1558 : (p_mount S 0 (S.1 0 2 0)).1.1 0 8 0 = 1 := cd_mount1 (Or.inr (mou_no L.inv))
  refine j_mut E L (r := (p_mount S 0 (S.1 0 2 0))) (fun hC0 ok => h_putsM l D S a0 hC0 ok 0 (S.1 0 2 0)) (cww_puts E ⟨by show _ ≤ R.frames; omega, by show _ ≤ R.locals; omega, by show _ ≤ R.cells; omega, by show _ ≤ R.slots; omega, Nat.le_of_ble_eq_true rfl⟩) (q_504 E.tb) rfl dL_law_1558 rfl (fun h1558 L => ?_)
  rw [nx_1 (by rw [hc1558]; decide)] at L
  refine J.stk (st' := [.int (-1001)]) (by rw [rc_1 hc1558]) ?_
  refine j_sipush (v := -1001) E dL_law_1561 cs_m1001 ?_
  refine j_icmp_ne (tgt := 1725) E dL_law_1564 (by decide) (fun q => (q rfl).elim) (fun _ => ?_)
  refine j_aload_n E dL_law_1567 rfl ?_
  refine j_bipush (v := 114) E dL_law_1568 cb_114 ?_
  refine j_iload E dL_law_1570 rfl ?_
  refine j_iconst (v := 0) E dL_law_1572 ci_0 ?_
  have hc1573 : (p_run S (S.1 0 3 0) 0).1.1 0 8 0 = 1 := cd_run1 (Or.inl (mac_no L.inv))
  refine j_mut E L (r := (p_run S (S.1 0 3 0) 0)) (fun hC0 ok => h_putsR l D S a0 hC0 ok (S.1 0 3 0) 0) (cww_puts E ⟨by show _ ≤ R.frames; omega, by show _ ≤ R.locals; omega, by show _ ≤ R.cells; omega, by show _ ≤ R.slots; omega, Nat.le_of_ble_eq_true rfl⟩) (q_504 E.tb) rfl dL_law_1573 rfl (fun h1573 L => ?_)
  rw [nx_1 (by rw [hc1573]; decide)] at L
  refine J.stk (st' := [.int (-1001)]) (by rw [rc_1 hc1573]) ?_
  refine j_sipush (v := -1001) E dL_law_1576 cs_m1001 ?_
  refine j_icmp_ne (tgt := 1725) E dL_law_1579 (by decide) (fun q => (q rfl).elim) (fun _ => ?_)
  refine j_aload_n E dL_law_1582 rfl ?_
  refine j_bipush (v := 114) E dL_law_1583 cb_114 ?_
  refine j_iconst (v := 0) E dL_law_1585 ci_0 ?_
  refine j_iload E dL_law_1586 rfl ?_
  have hc1588 : (p_run S 0 (S.1 0 4 0)).1.1 0 8 0 = 1 := cd_run1 (Or.inr (ord_no L.inv))
  refine j_mut E L (r := (p_run S 0 (S.1 0 4 0))) (fun hC0 ok => h_putsR l D S a0 hC0 ok 0 (S.1 0 4 0)) (cww_puts E ⟨by show _ ≤ R.frames; omega, by show _ ≤ R.locals; omega, by show _ ≤ R.cells; omega, by show _ ≤ R.slots; omega, Nat.le_of_ble_eq_true rfl⟩) (q_504 E.tb) rfl dL_law_1588 rfl (fun h1588 L => ?_)
  rw [nx_1 (by rw [hc1588]; decide)] at L
  refine J.stk (st' := [.int (-1001)]) (by rw [rc_1 hc1588]) ?_
  refine j_sipush (v := -1001) E dL_law_1591 cs_m1001 ?_
  refine j_icmp_ne (tgt := 1725) E dL_law_1594 (by decide) (fun q => (q rfl).elim) (fun _ => ?_)
  exact k _ _ _ L (by omega) (by omega)
set_option maxHeartbeats 4000000 in
set_option maxRecDepth 100000 in
theorem pc_1597 (E : Cx p l s m args meth c cL_law 24 RL D A) {S : St} {a0 : Nat} {h : AH} (L : LwP S a0 (fun _ => none) h) (hF : 12 ≤ R.frames ∧ 600 ≤ R.locals) {cells slots : Nat} (hR : cells + 60 ≤ R.cells ∧ slots + 10500 ≤ R.slots) (k : ∀ (h' : AH) (cells' slots' : Nat), LwP S a0 (fun _ => none) h' → cells' ≤ cells + 60 → slots' ≤ slots + 10500 → J p l e R s m args below meth c D A 24 Q cells' slots' h' 1627 [(1, .ref a0), (4, .int (S.1 0 2 0)), (5, .int (S.1 0 3 0)), (7, .long (SUM S)), (10, .int (S.1 0 0 0)), (11, .int (S.1 0 4 0))] []) : J p l e R s m args below meth c D A 24 Q cells slots h 1597 [(1, .ref a0), (4, .int (S.1 0 2 0)), (5, .int (S.1 0 3 0)), (7, .long (SUM S)), (10, .int (S.1 0 0 0)), (11, .int (S.1 0 4 0))] [] := by
  refine j_aload_n E dL_law_1597 rfl ?_
  refine j_iload E dL_law_1598 rfl ?_
  refine j_iconst (v := 0) E dL_law_1600 ci_0 ?_
  refine j_iconst (v := 0) E dL_law_1601 ci_0 ?_
  refine j_iconst (v := 0) E dL_law_1602 ci_0 ?_
  have hc1603 : (p_order S (S.1 0 2 0) 0 0 0).1.1 0 8 0 = 1 := cd_order1 (Or.inl (mou_no L.inv))
  refine j_mut E L (r := (p_order S (S.1 0 2 0) 0 0 0)) (fun hC0 ok => h_order l D S a0 hC0 ok (S.1 0 2 0) 0 0 0) (cww_order E ⟨by show _ ≤ R.frames; omega, by show _ ≤ R.locals; omega, by show _ ≤ R.cells; omega, by show _ ≤ R.slots; omega, Nat.le_of_ble_eq_true rfl⟩) (q_553 E.tb) rfl dL_law_1603 rfl (fun h1603 L => ?_)
  rw [nx_1 (by rw [hc1603]; decide)] at L
  refine J.stk (st' := [.int (-1001)]) (by rw [rc_1 hc1603]) ?_
  refine j_sipush (v := -1001) E dL_law_1606 cs_m1001 ?_
  refine j_icmp_ne (tgt := 1725) E dL_law_1609 (by decide) (fun q => (q rfl).elim) (fun _ => ?_)
  refine j_aload_n E dL_law_1612 rfl ?_
  refine j_iconst (v := 0) E dL_law_1613 ci_0 ?_
  refine j_iload E dL_law_1614 rfl ?_
  refine j_iconst (v := 0) E dL_law_1616 ci_0 ?_
  refine j_iconst (v := 0) E dL_law_1617 ci_0 ?_
  have hc1618 : (p_order S 0 (S.1 0 0 0) 0 0).1.1 0 8 0 = 1 := cd_order1 (Or.inr (res_no L.inv))
  refine j_mut E L (r := (p_order S 0 (S.1 0 0 0) 0 0)) (fun hC0 ok => h_order l D S a0 hC0 ok 0 (S.1 0 0 0) 0 0) (cww_order E ⟨by show _ ≤ R.frames; omega, by show _ ≤ R.locals; omega, by show _ ≤ R.cells; omega, by show _ ≤ R.slots; omega, Nat.le_of_ble_eq_true rfl⟩) (q_553 E.tb) rfl dL_law_1618 rfl (fun h1618 L => ?_)
  rw [nx_1 (by rw [hc1618]; decide)] at L
  refine J.stk (st' := [.int (-1001)]) (by rw [rc_1 hc1618]) ?_
  refine j_sipush (v := -1001) E dL_law_1621 cs_m1001 ?_
  refine j_icmp_ne (tgt := 1725) E dL_law_1624 (by decide) (fun q => (q rfl).elim) (fun _ => ?_)
  exact k _ _ _ L (by omega) (by omega)
set_option maxHeartbeats 4000000 in
set_option maxRecDepth 100000 in
theorem pc_1627 (E : Cx p l s m args meth c cL_law 24 RL D A) {S : St} {a0 : Nat} {h : AH} (L : LwP S a0 (fun _ => none) h) (hF : 12 ≤ R.frames ∧ 600 ≤ R.locals) {cells slots : Nat} (hR : cells + 60 ≤ R.cells ∧ slots + 10500 ≤ R.slots) (k : ∀ (h' : AH) (cells' slots' : Nat), LwP S a0 (fun _ => none) h' → cells' ≤ cells + 60 → slots' ≤ slots + 10500 → J p l e R s m args below meth c D A 24 Q cells' slots' h' 1651 [(1, .ref a0), (4, .int (S.1 0 2 0)), (5, .int (S.1 0 3 0)), (7, .long (SUM S)), (10, .int (S.1 0 0 0)), (11, .int (S.1 0 4 0))] []) : J p l e R s m args below meth c D A 24 Q cells slots h 1627 [(1, .ref a0), (4, .int (S.1 0 2 0)), (5, .int (S.1 0 3 0)), (7, .long (SUM S)), (10, .int (S.1 0 0 0)), (11, .int (S.1 0 4 0))] [] := by
  refine j_iload E dL_law_1627 rfl ?_
  refine j_if_le (tgt := 1651) E dL_law_1629 (by decide) (fun c_1629 => ?_) (fun c_1629 => ?_)
  · exact k _ _ _ L (by omega) (by omega)
  · refine j_iload E dL_law_1632 rfl ?_
    refine j_if_le (tgt := 1651) E dL_law_1634 (by decide) (fun c_1634 => ?_) (fun c_1634 => ?_)
    · exact k _ _ _ L (by omega) (by omega)
    · refine j_aload_n E dL_law_1637 rfl ?_
      refine j_iconst (v := 0) E dL_law_1638 ci_0 ?_
      refine j_iconst (v := 0) E dL_law_1639 ci_0 ?_
      refine j_iconst (v := 0) E dL_law_1640 ci_0 ?_
      refine j_iconst (v := 0) E dL_law_1641 ci_0 ?_
      have hc1642 : (p_order S 0 0 0 0).1.1 0 8 0 = 2 := cd_order2 (mou_yes L.inv c_1629) (res_yes L.inv c_1634) (Or.inl (by decide))
      refine j_mut E L (r := (p_order S 0 0 0 0)) (fun hC0 ok => h_order l D S a0 hC0 ok 0 0 0 0) (cww_order E ⟨by show _ ≤ R.frames; omega, by show _ ≤ R.locals; omega, by show _ ≤ R.cells; omega, by show _ ≤ R.slots; omega, Nat.le_of_ble_eq_true rfl⟩) (q_553 E.tb) rfl dL_law_1642 rfl (fun h1642 L => ?_)
      rw [nx_1 (by rw [hc1642]; decide)] at L
      refine J.stk (st' := [.int (-1002)]) (by rw [rc_2 hc1642]) ?_
      refine j_sipush (v := -1002) E dL_law_1645 cs_m1002 ?_
      refine j_icmp_ne (tgt := 1725) E dL_law_1648 (by decide) (fun q => (q rfl).elim) (fun _ => ?_)
      exact k _ _ _ L (by omega) (by omega)
set_option maxHeartbeats 4000000 in
set_option maxRecDepth 100000 in
theorem pc_1651 (E : Cx p l s m args meth c cL_law 24 RL D A) {S : St} {a0 : Nat} {h : AH} (L : LwP S a0 (fun _ => none) h) (hF : 12 ≤ R.frames ∧ 600 ≤ R.locals) {cells slots : Nat} (hR : cells + 60 ≤ R.cells ∧ slots + 10500 ≤ R.slots) (k : ∀ (h' : AH) (cells' slots' : Nat), LwP S a0 (fun _ => none) h' → cells' ≤ cells + 60 → slots' ≤ slots + 10500 → J p l e R s m args below meth c D A 24 Q cells' slots' h' 1677 [(1, .ref a0), (4, .int (S.1 0 2 0)), (5, .int (S.1 0 3 0)), (7, .long (SUM S)), (10, .int (S.1 0 0 0)), (11, .int (S.1 0 4 0))] []) : J p l e R s m args below meth c D A 24 Q cells slots h 1651 [(1, .ref a0), (4, .int (S.1 0 2 0)), (5, .int (S.1 0 3 0)), (7, .long (SUM S)), (10, .int (S.1 0 0 0)), (11, .int (S.1 0 4 0))] [] := by
  refine j_iload E dL_law_1651 rfl ?_
  refine j_if_le (tgt := 1677) E dL_law_1653 (by decide) (fun c_1653 => ?_) (fun c_1653 => ?_)
  · exact k _ _ _ L (by omega) (by omega)
  · refine j_iload E dL_law_1656 rfl ?_
    refine j_if_le (tgt := 1677) E dL_law_1658 (by decide) (fun c_1658 => ?_) (fun c_1658 => ?_)
    · exact k _ _ _ L (by omega) (by omega)
    · refine j_aload_n E dL_law_1661 rfl ?_
      refine j_iconst (v := 0) E dL_law_1662 ci_0 ?_
      refine j_iconst (v := 0) E dL_law_1663 ci_0 ?_
      refine j_sipush (v := 5001) E dL_law_1664 cs_5001 ?_
      refine j_iconst (v := 0) E dL_law_1667 ci_0 ?_
      have hc1668 : (p_order S 0 0 5001 0).1.1 0 8 0 = 2 := cd_order2 (mou_yes L.inv c_1653) (res_yes L.inv c_1658) (Or.inl (by decide))
      refine j_mut E L (r := (p_order S 0 0 5001 0)) (fun hC0 ok => h_order l D S a0 hC0 ok 0 0 5001 0) (cww_order E ⟨by show _ ≤ R.frames; omega, by show _ ≤ R.locals; omega, by show _ ≤ R.cells; omega, by show _ ≤ R.slots; omega, Nat.le_of_ble_eq_true rfl⟩) (q_553 E.tb) rfl dL_law_1668 rfl (fun h1668 L => ?_)
      rw [nx_1 (by rw [hc1668]; decide)] at L
      refine J.stk (st' := [.int (-1002)]) (by rw [rc_2 hc1668]) ?_
      refine j_sipush (v := -1002) E dL_law_1671 cs_m1002 ?_
      refine j_icmp_ne (tgt := 1725) E dL_law_1674 (by decide) (fun q => (q rfl).elim) (fun _ => ?_)
      exact k _ _ _ L (by omega) (by omega)
set_option maxHeartbeats 4000000 in
set_option maxRecDepth 100000 in
theorem pc_1677 (E : Cx p l s m args meth c cL_law 24 RL D A) {S : St} {a0 : Nat} {h : AH} (L : LwP S a0 (fun _ => none) h) (hF : 12 ≤ R.frames ∧ 600 ≤ R.locals) {cells slots : Nat} (hR : cells + 60 ≤ R.cells ∧ slots + 10500 ≤ R.slots) (k : ∀ (h' : AH) (cells' slots' : Nat), LwP S a0 (fun _ => none) h' → cells' ≤ cells + 60 → slots' ≤ slots + 10500 → J p l e R s m args below meth c D A 24 Q cells' slots' h' 1702 [(1, .ref a0), (4, .int (S.1 0 2 0)), (5, .int (S.1 0 3 0)), (7, .long (SUM S)), (10, .int (S.1 0 0 0)), (11, .int (S.1 0 4 0))] []) : J p l e R s m args below meth c D A 24 Q cells slots h 1677 [(1, .ref a0), (4, .int (S.1 0 2 0)), (5, .int (S.1 0 3 0)), (7, .long (SUM S)), (10, .int (S.1 0 0 0)), (11, .int (S.1 0 4 0))] [] := by
  refine j_iload E dL_law_1677 rfl ?_
  refine j_if_le (tgt := 1702) E dL_law_1679 (by decide) (fun c_1679 => ?_) (fun c_1679 => ?_)
  · exact k _ _ _ L (by omega) (by omega)
  · refine j_iload E dL_law_1682 rfl ?_
    refine j_if_le (tgt := 1702) E dL_law_1684 (by decide) (fun c_1684 => ?_) (fun c_1684 => ?_)
    · exact k _ _ _ L (by omega) (by omega)
    · refine j_aload_n E dL_law_1687 rfl ?_
      refine j_iconst (v := 0) E dL_law_1688 ci_0 ?_
      refine j_iconst (v := 0) E dL_law_1689 ci_0 ?_
      refine j_iconst (v := 1) E dL_law_1690 ci_1 ?_
      refine j_bipush (v := 51) E dL_law_1691 cb_51 ?_
      have hc1693 : (p_order S 0 0 1 51).1.1 0 8 0 = 2 := cd_order2 (mou_yes L.inv c_1679) (res_yes L.inv c_1684) (Or.inr (by decide))
      refine j_mut E L (r := (p_order S 0 0 1 51)) (fun hC0 ok => h_order l D S a0 hC0 ok 0 0 1 51) (cww_order E ⟨by show _ ≤ R.frames; omega, by show _ ≤ R.locals; omega, by show _ ≤ R.cells; omega, by show _ ≤ R.slots; omega, Nat.le_of_ble_eq_true rfl⟩) (q_553 E.tb) rfl dL_law_1693 rfl (fun h1693 L => ?_)
      rw [nx_1 (by rw [hc1693]; decide)] at L
      refine J.stk (st' := [.int (-1002)]) (by rw [rc_2 hc1693]) ?_
      refine j_sipush (v := -1002) E dL_law_1696 cs_m1002 ?_
      refine j_icmp_ne (tgt := 1725) E dL_law_1699 (by decide) (fun q => (q rfl).elim) (fun _ => ?_)
      exact k _ _ _ L (by omega) (by omega)
set_option maxHeartbeats 4000000 in
set_option maxRecDepth 100000 in
theorem pc_1702 (E : Cx p l s m args meth c cL_law 24 RL D A) {S : St} {a0 : Nat} {h : AH} (L : LwP S a0 (fun _ => none) h) (hF : 12 ≤ R.frames ∧ 600 ≤ R.locals) {cells slots : Nat} (hR : cells + 60 ≤ R.cells ∧ slots + 10500 ≤ R.slots) (k : ∀ (h' : AH) (cells' slots' : Nat), LwP S a0 (fun _ => none) h' → cells' ≤ cells + 60 → slots' ≤ slots + 10500 → J p l e R s m args below meth c D A 24 Q cells' slots' h' 1727 [(1, .ref a0), (4, .int (S.1 0 2 0)), (5, .int (S.1 0 3 0)), (7, .long (SUM S)), (10, .int (S.1 0 0 0)), (11, .int (S.1 0 4 0))] []) : J p l e R s m args below meth c D A 24 Q cells slots h 1702 [(1, .ref a0), (4, .int (S.1 0 2 0)), (5, .int (S.1 0 3 0)), (7, .long (SUM S)), (10, .int (S.1 0 0 0)), (11, .int (S.1 0 4 0))] [] := by
  refine j_aload_n E dL_law_1702 rfl ?_
  refine j_iconst (v := 0) E dL_law_1703 ci_0 ?_
  have hc1704 : (p_pass S 0).1.1 0 8 0 = 1 := cd_pass1 (by decide)
  refine j_mut E L (r := (p_pass S 0)) (fun hC0 ok => h_pass l D S a0 hC0 ok 0) (cww_pass E ⟨by show _ ≤ R.frames; omega, by show _ ≤ R.locals; omega, by show _ ≤ R.cells; omega, by show _ ≤ R.slots; omega, Nat.le_of_ble_eq_true rfl⟩) (q_641 E.tb) rfl dL_law_1704 rfl (fun h1704 L => ?_)
  rw [nx_1 (by rw [hc1704]; decide)] at L
  refine J.stk (st' := [.int (-1001)]) (by rw [rc_1 hc1704]) ?_
  refine j_sipush (v := -1001) E dL_law_1707 cs_m1001 ?_
  refine j_icmp_ne (tgt := 1725) E dL_law_1710 (by decide) (fun q => (q rfl).elim) (fun _ => ?_)
  refine j_aload_n E dL_law_1713 rfl ?_
  refine j_bipush (v := 25) E dL_law_1714 cb_25 ?_
  have hc1716 : (p_pass S 25).1.1 0 8 0 = 1 := cd_pass1 (by decide)
  refine j_mut E L (r := (p_pass S 25)) (fun hC0 ok => h_pass l D S a0 hC0 ok 25) (cww_pass E ⟨by show _ ≤ R.frames; omega, by show _ ≤ R.locals; omega, by show _ ≤ R.cells; omega, by show _ ≤ R.slots; omega, Nat.le_of_ble_eq_true rfl⟩) (q_641 E.tb) rfl dL_law_1716 rfl (fun h1716 L => ?_)
  rw [nx_1 (by rw [hc1716]; decide)] at L
  refine J.stk (st' := [.int (-1001)]) (by rw [rc_1 hc1716]) ?_
  refine j_sipush (v := -1001) E dL_law_1719 cs_m1001 ?_
  refine j_icmp_eq (tgt := 1727) E dL_law_1722 (by decide) (fun _ => ?_) (fun q => (q rfl).elim)
  exact k _ _ _ L (by omega) (by omega)
set_option maxHeartbeats 4000000 in
set_option maxRecDepth 100000 in
theorem pc_1727 (E : Cx p l s m args meth c cL_law 24 RL D A) {S : St} {a0 : Nat} {h : AH} (L : LwP S a0 (fun _ => none) h) (hF : 12 ≤ R.frames ∧ 600 ≤ R.locals) {cells slots mc ms : Nat} (hR : cells + 400 ≤ R.cells ∧ slots + 2000 ≤ R.slots) (hm : cells + 400 ≤ mc ∧ slots + 2000 ≤ ms) (kend : ∀ (cells slots : Nat) (h : AH) (lo : List (Nat × Value)), cells ≤ mc → slots ≤ ms → J p l e R s m args below meth c D A 24 Q cells slots h 1789 lo [.int 1]) : J p l e R s m args below meth c D A 24 Q cells slots h 1727 [(1, .ref a0), (4, .int (S.1 0 2 0)), (5, .int (S.1 0 3 0)), (7, .long (SUM S)), (10, .int (S.1 0 0 0)), (11, .int (S.1 0 4 0))] [] := by
  refine j_iconst (v := 0) E dL_law_1727 ci_0 ?_
  refine j_istore E dL_law_1728 (by decide) ?_
  refine J.sub (lo' := [(1, .ref a0), (7, .long (SUM S)), (11, .int (S.1 0 4 0)), (12, .int 0)]) ⟨rfl, rfl, rfl, rfl, trivial⟩ ?_
  refine j_iload E dL_law_1730 rfl ?_
  refine j_bipush (v := 6) E dL_law_1732 cb_6 ?_
  refine j_icmp_ge (tgt := 1774) E dL_law_1734 (by decide) (fun q => (show False from absurd q (by decide)).elim) (fun _ => ?_)
  refine j_aload_n E dL_law_1737 rfl ?_
  refine j_iload E dL_law_1738 rfl ?_
  refine j_iload E dL_law_1740 rfl ?_
  refine j_lk E L (fun hC0 ok => h_of0 l D S a0 hC0 ok (S.1 0 4 0)) (cww_of E ⟨by show _ ≤ R.frames; omega, by show _ ≤ R.locals; omega, by show _ ≤ R.cells; omega, by show _ ≤ R.slots; omega, Nat.le_of_ble_eq_true rfl⟩) (q_600 E.tb) rfl dL_law_1742 rfl ?_
  refine j_ldc2 E (q_638 E.tb) dL_law_1745 ?_
  refine j_lcmp E dL_law_1748 ?_
  refine j_if_ne (tgt := 1766) E dL_law_1749 (by decide) (fun q => (q (lcmp_eq (by rw [v_lacks_f L.inv (ord_no L.inv)]; decide))).elim) (fun _ => ?_)
  refine j_aload_n E dL_law_1752 rfl ?_
  refine j_iconst (v := (-1)) E dL_law_1753 ci_m1 ?_
  refine j_iload E dL_law_1754 rfl ?_
  refine j_lk E L (fun hC0 ok => h_of0 l D S a0 hC0 ok (-1)) (cww_of E ⟨by show _ ≤ R.frames; omega, by show _ ≤ R.locals; omega, by show _ ≤ R.cells; omega, by show _ ≤ R.slots; omega, Nat.le_of_ble_eq_true rfl⟩) (q_600 E.tb) rfl dL_law_1756 rfl ?_
  refine j_ldc2 E (q_638 E.tb) dL_law_1759 ?_
  refine j_lcmp E dL_law_1762 ?_
  refine j_if_eq (tgt := 1768) E dL_law_1763 (by decide) (fun _ => ?_) (fun q => (q (lcmp_eq (by rw [v_lacks_f L.inv ord_neg]; decide))).elim)
  refine j_iincK (k := 1) E ci_1 dL_law_1768 rfl (by decide) ?_
  refine j_goto (tgt := 1730) E dL_law_1771 (by decide) ?_
  rw [show (0 : Int32) + 1 = 1 from by decide]
  refine J.sub (lo' := [(1, .ref a0), (7, .long (SUM S)), (11, .int (S.1 0 4 0)), (12, .int 1)]) ⟨rfl, rfl, rfl, rfl, trivial⟩ ?_
  refine j_iload E dL_law_1730 rfl ?_
  refine j_bipush (v := 6) E dL_law_1732 cb_6 ?_
  refine j_icmp_ge (tgt := 1774) E dL_law_1734 (by decide) (fun q => (show False from absurd q (by decide)).elim) (fun _ => ?_)
  refine j_aload_n E dL_law_1737 rfl ?_
  refine j_iload E dL_law_1738 rfl ?_
  refine j_iload E dL_law_1740 rfl ?_
  refine j_lk E L (fun hC0 ok => h_of1 l D S a0 hC0 ok (S.1 0 4 0)) (cww_of E ⟨by show _ ≤ R.frames; omega, by show _ ≤ R.locals; omega, by show _ ≤ R.cells; omega, by show _ ≤ R.slots; omega, Nat.le_of_ble_eq_true rfl⟩) (q_600 E.tb) rfl dL_law_1742 rfl ?_
  refine j_ldc2 E (q_638 E.tb) dL_law_1745 ?_
  refine j_lcmp E dL_law_1748 ?_
  refine j_if_ne (tgt := 1766) E dL_law_1749 (by decide) (fun q => (q (lcmp_eq (by rw [v_need_f L.inv (ord_no L.inv)]; decide))).elim) (fun _ => ?_)
  refine j_aload_n E dL_law_1752 rfl ?_
  refine j_iconst (v := (-1)) E dL_law_1753 ci_m1 ?_
  refine j_iload E dL_law_1754 rfl ?_
  refine j_lk E L (fun hC0 ok => h_of1 l D S a0 hC0 ok (-1)) (cww_of E ⟨by show _ ≤ R.frames; omega, by show _ ≤ R.locals; omega, by show _ ≤ R.cells; omega, by show _ ≤ R.slots; omega, Nat.le_of_ble_eq_true rfl⟩) (q_600 E.tb) rfl dL_law_1756 rfl ?_
  refine j_ldc2 E (q_638 E.tb) dL_law_1759 ?_
  refine j_lcmp E dL_law_1762 ?_
  refine j_if_eq (tgt := 1768) E dL_law_1763 (by decide) (fun _ => ?_) (fun q => (q (lcmp_eq (by rw [v_need_f L.inv ord_neg]; decide))).elim)
  refine j_iincK (k := 1) E ci_1 dL_law_1768 rfl (by decide) ?_
  refine j_goto (tgt := 1730) E dL_law_1771 (by decide) ?_
  rw [show (1 : Int32) + 1 = 2 from by decide]
  refine J.sub (lo' := [(1, .ref a0), (7, .long (SUM S)), (11, .int (S.1 0 4 0)), (12, .int 2)]) ⟨rfl, rfl, rfl, rfl, trivial⟩ ?_
  refine j_iload E dL_law_1730 rfl ?_
  refine j_bipush (v := 6) E dL_law_1732 cb_6 ?_
  refine j_icmp_ge (tgt := 1774) E dL_law_1734 (by decide) (fun q => (show False from absurd q (by decide)).elim) (fun _ => ?_)
  refine j_aload_n E dL_law_1737 rfl ?_
  refine j_iload E dL_law_1738 rfl ?_
  refine j_iload E dL_law_1740 rfl ?_
  refine j_lk E L (fun hC0 ok => h_of2 l D S a0 hC0 ok (S.1 0 4 0)) (cww_of E ⟨by show _ ≤ R.frames; omega, by show _ ≤ R.locals; omega, by show _ ≤ R.cells; omega, by show _ ≤ R.slots; omega, Nat.le_of_ble_eq_true rfl⟩) (q_600 E.tb) rfl dL_law_1742 rfl ?_
  refine j_ldc2 E (q_638 E.tb) dL_law_1745 ?_
  refine j_lcmp E dL_law_1748 ?_
  refine j_if_ne (tgt := 1766) E dL_law_1749 (by decide) (fun q => (q (lcmp_eq (by rw [v_shots_f L.inv (ord_no L.inv)]; decide))).elim) (fun _ => ?_)
  refine j_aload_n E dL_law_1752 rfl ?_
  refine j_iconst (v := (-1)) E dL_law_1753 ci_m1 ?_
  refine j_iload E dL_law_1754 rfl ?_
  refine j_lk E L (fun hC0 ok => h_of2 l D S a0 hC0 ok (-1)) (cww_of E ⟨by show _ ≤ R.frames; omega, by show _ ≤ R.locals; omega, by show _ ≤ R.cells; omega, by show _ ≤ R.slots; omega, Nat.le_of_ble_eq_true rfl⟩) (q_600 E.tb) rfl dL_law_1756 rfl ?_
  refine j_ldc2 E (q_638 E.tb) dL_law_1759 ?_
  refine j_lcmp E dL_law_1762 ?_
  refine j_if_eq (tgt := 1768) E dL_law_1763 (by decide) (fun _ => ?_) (fun q => (q (lcmp_eq (by rw [v_shots_f L.inv ord_neg]; decide))).elim)
  refine j_iincK (k := 1) E ci_1 dL_law_1768 rfl (by decide) ?_
  refine j_goto (tgt := 1730) E dL_law_1771 (by decide) ?_
  rw [show (2 : Int32) + 1 = 3 from by decide]
  refine J.sub (lo' := [(1, .ref a0), (7, .long (SUM S)), (11, .int (S.1 0 4 0)), (12, .int 3)]) ⟨rfl, rfl, rfl, rfl, trivial⟩ ?_
  refine j_iload E dL_law_1730 rfl ?_
  refine j_bipush (v := 6) E dL_law_1732 cb_6 ?_
  refine j_icmp_ge (tgt := 1774) E dL_law_1734 (by decide) (fun q => (show False from absurd q (by decide)).elim) (fun _ => ?_)
  refine j_aload_n E dL_law_1737 rfl ?_
  refine j_iload E dL_law_1738 rfl ?_
  refine j_iload E dL_law_1740 rfl ?_
  refine j_lk E L (fun hC0 ok => h_of3 l D S a0 hC0 ok (S.1 0 4 0)) (cww_of E ⟨by show _ ≤ R.frames; omega, by show _ ≤ R.locals; omega, by show _ ≤ R.cells; omega, by show _ ≤ R.slots; omega, Nat.le_of_ble_eq_true rfl⟩) (q_600 E.tb) rfl dL_law_1742 rfl ?_
  refine j_ldc2 E (q_638 E.tb) dL_law_1745 ?_
  refine j_lcmp E dL_law_1748 ?_
  refine j_if_ne (tgt := 1766) E dL_law_1749 (by decide) (fun q => (q (lcmp_eq (by rw [v_back_f L.inv (ord_no L.inv)]))).elim) (fun _ => ?_)
  refine j_aload_n E dL_law_1752 rfl ?_
  refine j_iconst (v := (-1)) E dL_law_1753 ci_m1 ?_
  refine j_iload E dL_law_1754 rfl ?_
  refine j_lk E L (fun hC0 ok => h_of3 l D S a0 hC0 ok (-1)) (cww_of E ⟨by show _ ≤ R.frames; omega, by show _ ≤ R.locals; omega, by show _ ≤ R.cells; omega, by show _ ≤ R.slots; omega, Nat.le_of_ble_eq_true rfl⟩) (q_600 E.tb) rfl dL_law_1756 rfl ?_
  refine j_ldc2 E (q_638 E.tb) dL_law_1759 ?_
  refine j_lcmp E dL_law_1762 ?_
  refine j_if_eq (tgt := 1768) E dL_law_1763 (by decide) (fun _ => ?_) (fun q => (q (lcmp_eq (by rw [v_back_f L.inv ord_neg]))).elim)
  refine j_iincK (k := 1) E ci_1 dL_law_1768 rfl (by decide) ?_
  refine j_goto (tgt := 1730) E dL_law_1771 (by decide) ?_
  rw [show (3 : Int32) + 1 = 4 from by decide]
  refine J.sub (lo' := [(1, .ref a0), (7, .long (SUM S)), (11, .int (S.1 0 4 0)), (12, .int 4)]) ⟨rfl, rfl, rfl, rfl, trivial⟩ ?_
  refine j_iload E dL_law_1730 rfl ?_
  refine j_bipush (v := 6) E dL_law_1732 cb_6 ?_
  refine j_icmp_ge (tgt := 1774) E dL_law_1734 (by decide) (fun q => (show False from absurd q (by decide)).elim) (fun _ => ?_)
  refine j_aload_n E dL_law_1737 rfl ?_
  refine j_iload E dL_law_1738 rfl ?_
  refine j_iload E dL_law_1740 rfl ?_
  refine j_lk E L (fun hC0 ok => h_of4 l D S a0 hC0 ok (S.1 0 4 0)) (cww_of E ⟨by show _ ≤ R.frames; omega, by show _ ≤ R.locals; omega, by show _ ≤ R.cells; omega, by show _ ≤ R.slots; omega, Nat.le_of_ble_eq_true rfl⟩) (q_600 E.tb) rfl dL_law_1742 rfl ?_
  refine j_ldc2 E (q_638 E.tb) dL_law_1745 ?_
  refine j_lcmp E dL_law_1748 ?_
  refine j_if_ne (tgt := 1766) E dL_law_1749 (by decide) (fun q => (q (lcmp_eq (by rw [v_back_f L.inv (ord_no L.inv)]))).elim) (fun _ => ?_)
  refine j_aload_n E dL_law_1752 rfl ?_
  refine j_iconst (v := (-1)) E dL_law_1753 ci_m1 ?_
  refine j_iload E dL_law_1754 rfl ?_
  refine j_lk E L (fun hC0 ok => h_of4 l D S a0 hC0 ok (-1)) (cww_of E ⟨by show _ ≤ R.frames; omega, by show _ ≤ R.locals; omega, by show _ ≤ R.cells; omega, by show _ ≤ R.slots; omega, Nat.le_of_ble_eq_true rfl⟩) (q_600 E.tb) rfl dL_law_1756 rfl ?_
  refine j_ldc2 E (q_638 E.tb) dL_law_1759 ?_
  refine j_lcmp E dL_law_1762 ?_
  refine j_if_eq (tgt := 1768) E dL_law_1763 (by decide) (fun _ => ?_) (fun q => (q (lcmp_eq (by rw [v_back_f L.inv ord_neg]))).elim)
  refine j_iincK (k := 1) E ci_1 dL_law_1768 rfl (by decide) ?_
  refine j_goto (tgt := 1730) E dL_law_1771 (by decide) ?_
  rw [show (4 : Int32) + 1 = 5 from by decide]
  refine J.sub (lo' := [(1, .ref a0), (7, .long (SUM S)), (11, .int (S.1 0 4 0)), (12, .int 5)]) ⟨rfl, rfl, rfl, rfl, trivial⟩ ?_
  refine j_iload E dL_law_1730 rfl ?_
  refine j_bipush (v := 6) E dL_law_1732 cb_6 ?_
  refine j_icmp_ge (tgt := 1774) E dL_law_1734 (by decide) (fun q => (show False from absurd q (by decide)).elim) (fun _ => ?_)
  refine j_aload_n E dL_law_1737 rfl ?_
  refine j_iload E dL_law_1738 rfl ?_
  refine j_iload E dL_law_1740 rfl ?_
  refine j_lk E L (fun hC0 ok => h_of5 l D S a0 hC0 ok (S.1 0 4 0)) (cww_of E ⟨by show _ ≤ R.frames; omega, by show _ ≤ R.locals; omega, by show _ ≤ R.cells; omega, by show _ ≤ R.slots; omega, Nat.le_of_ble_eq_true rfl⟩) (q_600 E.tb) rfl dL_law_1742 rfl ?_
  refine j_ldc2 E (q_638 E.tb) dL_law_1745 ?_
  refine j_lcmp E dL_law_1748 ?_
  refine j_if_ne (tgt := 1766) E dL_law_1749 (by decide) (fun q => (q (lcmp_eq (by rw [v_top_f L.inv (ord_no L.inv)]; decide))).elim) (fun _ => ?_)
  refine j_aload_n E dL_law_1752 rfl ?_
  refine j_iconst (v := (-1)) E dL_law_1753 ci_m1 ?_
  refine j_iload E dL_law_1754 rfl ?_
  refine j_lk E L (fun hC0 ok => h_of5 l D S a0 hC0 ok (-1)) (cww_of E ⟨by show _ ≤ R.frames; omega, by show _ ≤ R.locals; omega, by show _ ≤ R.cells; omega, by show _ ≤ R.slots; omega, Nat.le_of_ble_eq_true rfl⟩) (q_600 E.tb) rfl dL_law_1756 rfl ?_
  refine j_ldc2 E (q_638 E.tb) dL_law_1759 ?_
  refine j_lcmp E dL_law_1762 ?_
  refine j_if_eq (tgt := 1768) E dL_law_1763 (by decide) (fun _ => ?_) (fun q => (q (lcmp_eq (by rw [v_top_f L.inv ord_neg]; decide))).elim)
  refine j_iincK (k := 1) E ci_1 dL_law_1768 rfl (by decide) ?_
  refine j_goto (tgt := 1730) E dL_law_1771 (by decide) ?_
  rw [show (5 : Int32) + 1 = 6 from by decide]
  refine J.sub (lo' := [(1, .ref a0), (7, .long (SUM S)), (11, .int (S.1 0 4 0)), (12, .int 6)]) ⟨rfl, rfl, rfl, rfl, trivial⟩ ?_
  refine j_iload E dL_law_1730 rfl ?_
  refine j_bipush (v := 6) E dL_law_1732 cb_6 ?_
  refine j_icmp_ge (tgt := 1774) E dL_law_1734 (by decide) (fun _ => ?_) (fun q => (show False from absurd q (by decide)).elim)
  refine j_aload_n E dL_law_1774 rfl ?_
  refine j_lkS E L (fun hC0 ok => k_sum l D S a0 hC0 ok) (cw_L_167 E ⟨by show _ ≤ R.frames; omega, by show _ ≤ R.locals; omega, by show _ ≤ R.cells; omega, by show _ ≤ R.slots; omega, Nat.le_of_ble_eq_true rfl⟩) (q_687 E.tb) rfl dL_law_1775 rfl ?_
  refine j_lload E dL_law_1778 rfl ?_
  refine j_lcmp E dL_law_1780 ?_
  refine j_if_ne (tgt := 1788) E dL_law_1781 (by decide) (fun q => (q (lcmp_eq rfl)).elim) (fun _ => ?_)
  refine j_iconst (v := 1) E dL_law_1784 ci_1 ?_
  refine j_goto (tgt := 1789) E dL_law_1785 (by decide) ?_
  exact kend _ _ _ _ (by omega) (by omega)
set_option maxHeartbeats 4000000 in
set_option maxRecDepth 100000 in
theorem law_end2 (E : Cx p l s m args meth c cL_law 24 RL D A) {S : St} {a0 : Nat} {h : AH} (L : LwP S a0 (fun _ => none) h) (hF : 12 ≤ R.frames ∧ 600 ≤ R.locals) {cells slots mc ms : Nat} (hR : cells + 2000 ≤ R.cells ∧ slots + 200000 ≤ R.slots) (hm : cells + 2000 ≤ mc ∧ slots + 200000 ≤ ms) (kend : ∀ (cells slots : Nat) (h : AH) (lo : List (Nat × Value)), cells ≤ mc → slots ≤ ms → J p l e R s m args below meth c D A 24 Q cells slots h 1789 lo [.int 1]) : J p l e R s m args below meth c D A 24 Q cells slots h 1236 [(1, .ref a0), (4, .int (S.1 0 2 0)), (5, .int (S.1 0 3 0)), (7, .long (SUM S))] [] := by
  refine j_aload_n E dL_law_1236 rfl ?_
  refine j_lkS E L (fun hC0 ok => k_resins l D S a0 hC0 ok) (cw_L_164 E ⟨by show _ ≤ R.frames; omega, by show _ ≤ R.locals; omega, by show _ ≤ R.cells; omega, by show _ ≤ R.slots; omega, Nat.le_of_ble_eq_true rfl⟩) (q_684 E.tb) rfl dL_law_1237 rfl ?_
  refine j_istore E dL_law_1240 (by decide) ?_
  refine j_aload_n E dL_law_1242 rfl ?_
  refine j_lkS E L (fun hC0 ok => k_orders l D S a0 hC0 ok) (cw_L_137 E ⟨by show _ ≤ R.frames; omega, by show _ ≤ R.locals; omega, by show _ ≤ R.cells; omega, by show _ ≤ R.slots; omega, Nat.le_of_ble_eq_true rfl⟩) (q_681 E.tb) rfl dL_law_1243 rfl ?_
  refine j_istore E dL_law_1246 (by decide) ?_
  refine J.sub (lo' := [(1, .ref a0), (4, .int (S.1 0 2 0)), (5, .int (S.1 0 3 0)), (7, .long (SUM S)), (10, .int (S.1 0 0 0)), (11, .int (S.1 0 4 0))]) ⟨rfl, rfl, rfl, rfl, rfl, rfl, trivial⟩ ?_
  refine pc_1248 E L hF ⟨by omega, by omega⟩ (fun h0 c0 s0 L hc0 hs0 => ?_)
  refine pc_1284 E L hF ⟨by omega, by omega⟩ (fun h1 c1 s1 L hc1 hs1 => ?_)
  refine pc_1301 E L hF ⟨by omega, by omega⟩ (fun h2 c2 s2 L hc2 hs2 => ?_)
  refine pc_1319 E L hF ⟨by omega, by omega⟩ (fun h3 c3 s3 L hc3 hs3 => ?_)
  refine pc_1371 E L hF ⟨by omega, by omega⟩ (fun h4 c4 s4 L hc4 hs4 => ?_)
  refine pc_1399 E L hF ⟨by omega, by omega⟩ (fun h5 c5 s5 L hc5 hs5 => ?_)
  refine pc_1417 E L hF ⟨by omega, by omega⟩ (fun h6 c6 s6 L hc6 hs6 => ?_)
  refine pc_1437 E L hF ⟨by omega, by omega⟩ (fun h7 c7 s7 L hc7 hs7 => ?_)
  refine pc_1492 E L hF ⟨by omega, by omega⟩ (fun h8 c8 s8 L hc8 hs8 => ?_)
  refine pc_1513 E L hF ⟨by omega, by omega⟩ (fun h9 c9 s9 L hc9 hs9 => ?_)
  refine pc_1537 E L hF ⟨by omega, by omega⟩ (fun h10 c10 s10 L hc10 hs10 => ?_)
  refine pc_1597 E L hF ⟨by omega, by omega⟩ (fun h11 c11 s11 L hc11 hs11 => ?_)
  refine pc_1627 E L hF ⟨by omega, by omega⟩ (fun h12 c12 s12 L hc12 hs12 => ?_)
  refine pc_1651 E L hF ⟨by omega, by omega⟩ (fun h13 c13 s13 L hc13 hs13 => ?_)
  refine pc_1677 E L hF ⟨by omega, by omega⟩ (fun h14 c14 s14 L hc14 hs14 => ?_)
  refine pc_1702 E L hF ⟨by omega, by omega⟩ (fun h15 c15 s15 L hc15 hs15 => ?_)
  exact pc_1727 E L hF ⟨by omega, by omega⟩ ⟨by omega, by omega⟩ kend
end SR
