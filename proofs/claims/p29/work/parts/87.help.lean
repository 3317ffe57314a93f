/-! the law's own methods: one call each, its exceptions as numbers -/
theorem em1 : (-1001 : Int32).toInt64 = -1001 := by decide
theorem em2 : (-1002 : Int32).toInt64 = -1002 := by decide
def shV (S : St) : UInt32 := if (p_regrindShare S).1.1 0 8 0 = 0 then (p_regrindShare S).2 else 3212836864
def meV (S : St) : UInt64 := if (p_meanParts S).1.1 0 8 0 = 0 then (p_meanParts S).2 else 13830554455654793216
def oneC (q : Nat) (e : AE) : AH := fun x => if x = q then some e else none
theorem ph_addResin {S : St} {x : Int32} : (p_addResin S x).1.1 0 5 0 = S.1 0 5 0 := by
  unfold p_addResin
  (repeat' split) <;> first | rfl | exact lev_0 (by decide) | exact (s1_ne (fun z => absurd z.2.1 (by decide))).trans (livN_c (by decide) 8)
theorem ph_fill {S : St} {r g : Int32} : (p_fill S r g).1.1 0 5 0 = S.1 0 5 0 := by
  unfold p_fill
  (repeat' split) <;> first | rfl | exact lev_0 (by decide) | exact (s1_ne (fun z => absurd z.2.1 (by decide))).trans (livN_c (by decide) 8)
theorem ph_empty {S : St} {x : Int32} : (p_empty S x).1.1 0 5 0 = S.1 0 5 0 := by
  unfold p_empty
  (repeat' split) <;> first | rfl | exact lev_0 (by decide) | exact (s1_ne (fun z => absurd z.2.1 (by decide))).trans (livN_c (by decide) 8)
theorem ph_addMould {S : St} {ca pa sp fo cy : Int32} : (p_addMould S ca pa sp fo cy).1.1 0 5 0 = S.1 0 5 0 := by
  unfold p_addMould
  (repeat' split) <;> first | rfl | exact lev_0 (by decide) | exact (s1_ne (fun z => absurd z.2.1 (by decide))).trans (livN_c (by decide) 8)
theorem ph_setLife {S : St} {mo ca x : Int32} : (p_setLife S mo ca x).1.1 0 5 0 = S.1 0 5 0 := by
  unfold p_setLife
  (repeat' split) <;> first | rfl | exact lev_0 (by decide) | exact (s1_ne (fun z => absurd z.2.1 (by decide))).trans (livN_c (by decide) 8)
theorem ph_block {S : St} {mo ca : Int32} : (p_block S mo ca).1.1 0 5 0 = S.1 0 5 0 := by
  unfold p_block
  (repeat' split) <;> first | rfl | exact lev_0 (by decide) | exact (s1_ne (fun z => absurd z.2.1 (by decide))).trans (livN_c (by decide) 8)
theorem ph_repair {S : St} {mo ca : Int32} : (p_repair S mo ca).1.1 0 5 0 = S.1 0 5 0 := by
  unfold p_repair
  (repeat' split) <;> first | rfl | exact lev_0 (by decide) | exact (s1_ne (fun z => absurd z.2.1 (by decide))).trans (livN_c (by decide) 8)
theorem ph_addMachine {S : St} {x : Int32} : (p_addMachine S x).1.1 0 5 0 = S.1 0 5 0 := by
  unfold p_addMachine
  (repeat' split) <;> first | rfl | exact lev_0 (by decide) | exact (s1_ne (fun z => absurd z.2.1 (by decide))).trans (livN_c (by decide) 8)
theorem ph_mount {S : St} {a mo : Int32} : (p_mount S a mo).1.1 0 5 0 = S.1 0 5 0 := by
  unfold p_mount
  (repeat' split) <;> first | rfl | exact lev_0 (by decide) | exact (s1_ne (fun z => absurd z.2.1 (by decide))).trans (livN_c (by decide) 8)
theorem ph_run {S : St} {a o : Int32} : (p_run S a o).1.1 0 5 0 = S.1 0 5 0 := by
  unfold p_run
  (repeat' split) <;> first | rfl | exact lev_0 (by decide) | exact (s1_ne (fun z => absurd z.2.1 (by decide))).trans (livN_c (by decide) 8)
theorem ph_order {S : St} {mo r g w : Int32} : (p_order S mo r g w).1.1 0 5 0 = S.1 0 5 0 := by
  unfold p_order
  (repeat' split) <;> first | rfl | exact lev_0 (by decide) | exact (s1_ne (fun z => absurd z.2.1 (by decide))).trans (livN_c (by decide) 8)
set_option maxHeartbeats 4000000 in
set_option maxRecDepth 100000 in
theorem h_resin (l : Launch) (D : va_G) (S : St) (a0 : Nat) (hc : AH) (hOk : Ok S (bS S) a0 hc) (x : Int32) : CtrW l D yL_resin cL_resin 3 (some .int) [(0, 5, 6, 13), (0, 5, 11, 15)] 8 134 4 20 [.ref a0, .int x] hc (fun _ => False) (HM S (p_addResin S x) a0) := by
  refine CtrW.of RL rfl (by decide) (Nat.le_of_ble_eq_true rfl) ?_
  intro sz p e s m below meth c E hin hr ht
  obtain ⟨gl, G, ad, rfl, K0, hI, I⟩ := hOk
  refine j_aload_n E dL_resin_0 rfl ?_
  refine j_iload_n E dL_resin_1 rfl ?_
  refine j_callVc E (hc := hc) (hr := fun _ => none) (k_addResin l D S gl G ad hc K0 (bS S) I hI x) (fun _ _ z => z) (fun _ _ z => nomatch z) (cw_L_7 E ⟨Nat.le_of_ble_eq_true rfl, Nat.le_of_ble_eq_true rfl, Nat.le_of_ble_eq_true rfl, Nat.le_of_ble_eq_true rfl, Nat.le_of_ble_eq_true rfl⟩) (q_125 E.tb) (q_126 E.tb) K0.x0 rfl rfl dL_resin_2 rfl (fun Ex q9 h1 hx w1 w2 => ?_) (fun v2 hc1 h4 hp w2 w3 w4 => ?_)
  · rcases hx with ⟨rfl, hk⟩ | ⟨rfl, hk⟩
    · refine ⟨6, ⟨[], ⟨0, 5, 6, 13⟩, [⟨0, 5, 11, 15⟩], "java/lang/IllegalArgumentException", ht, ?_, by decide, by decide, q_122 E.tb, E.tb.get 133 (by decide +kernel) (by decide +kernel), rfl⟩, ?_⟩
      · intro z hz; cases hz
      · refine J.heap (h' := hc) w1 ?_
        refine j_astore_n E dL_resin_6 (by decide) ?_
        refine j_sipush (v := -1001) E dL_resin_7 cs_m1001 ?_
        exact j_iret E hr dL_resin_10 ⟨Nat.le_of_ble_eq_true rfl, Nat.le_of_ble_eq_true rfl⟩ ⟨by rw [rc_1 hk], hc, by rw [nx_1 (by rw [hk]; decide)]; exact ⟨gl, G, ad, rfl, K0, hI, I⟩, fun _ _ z => z⟩
    · refine ⟨11, ⟨[⟨0, 5, 6, 13⟩], ⟨0, 5, 11, 15⟩, [], "java/lang/IllegalStateException", ht, ?_, by decide, by decide, q_123 E.tb, E.tb.get 205 (by decide +kernel) (by decide +kernel), rfl⟩, ?_⟩
      · intro z hz
        rcases List.mem_cons.mp hz with rfl | hz
        · exact Or.inr ⟨by decide, "java/lang/IllegalArgumentException", q_122 E.tb, E.tn ("java/lang/IllegalStateException", "java/lang/IllegalArgumentException") (by decide)⟩
        exact absurd hz List.not_mem_nil
      · refine J.heap (h' := hc) w1 ?_
        refine j_astore_n E dL_resin_11 (by decide) ?_
        refine j_sipush (v := -1002) E dL_resin_12 cs_m1002 ?_
        exact j_iret E hr dL_resin_15 ⟨Nat.le_of_ble_eq_true rfl, Nat.le_of_ble_eq_true rfl⟩ ⟨by rw [rc_2 hk], hc, by rw [nx_1 (by rw [hk]; decide)]; exact ⟨gl, G, ad, rfl, K0, hI, I⟩, fun _ _ z => z⟩
  · obtain ⟨rfl, hz, hq⟩ := hp
    refine J.heap (h' := hc1) w2 ?_
    exact j_iret E hr dL_resin_5 ⟨Nat.le_of_ble_eq_true rfl, Nat.le_of_ble_eq_true rfl⟩ ⟨by rw [rc_0 hz], hc1, by rw [nx_0 hz, show bS (p_addResin S x).1 = bS S from congrArg (fun z => 180 * nn z) ph_addResin]; exact hq, fun _ _ z => z⟩
set_option maxHeartbeats 4000000 in
set_option maxRecDepth 100000 in
theorem h_fill (l : Launch) (D : va_G) (S : St) (a0 : Nat) (hc : AH) (hOk : Ok S (bS S) a0 hc) (r : Int32) (g : Int32) : CtrW l D yL_fill cL_fill 4 (some .int) [(0, 6, 7, 21), (0, 6, 12, 13), (0, 6, 17, 15)] 8 135 6 33 [.ref a0, .int r, .int g] hc (fun _ => False) (HM S (p_fill S r g) a0) := by
  refine CtrW.of RL rfl (by decide) (Nat.le_of_ble_eq_true rfl) ?_
  intro sz p e s m below meth c E hin hr ht
  obtain ⟨gl, G, ad, rfl, K0, hI, I⟩ := hOk
  refine j_aload_n E dL_fill_0 rfl ?_
  refine j_iload_n E dL_fill_1 rfl ?_
  refine j_iload_n E dL_fill_2 rfl ?_
  refine j_callVc E (hc := hc) (hr := fun _ => none) (k_fill l D S gl G ad hc K0 (bS S) I hI r g) (fun _ _ z => z) (fun _ _ z => nomatch z) (cw_L_17 E ⟨Nat.le_of_ble_eq_true rfl, Nat.le_of_ble_eq_true rfl, Nat.le_of_ble_eq_true rfl, Nat.le_of_ble_eq_true rfl, Nat.le_of_ble_eq_true rfl⟩) (q_260 E.tb) (q_261 E.tb) K0.x0 rfl rfl dL_fill_3 rfl (fun Ex q9 h1 hx w1 w2 => ?_) (fun v3 hc1 h4 hp w2 w3 w4 => ?_)
  · rcases hx with ⟨rfl, hk⟩ | ⟨rfl, hk⟩ | ⟨rfl, hk⟩
    · refine ⟨7, ⟨[], ⟨0, 6, 7, 21⟩, [⟨0, 6, 12, 13⟩, ⟨0, 6, 17, 15⟩], "java/lang/IndexOutOfBoundsException", ht, ?_, by decide, by decide, q_235 E.tb, E.tb.get 269 (by decide +kernel) (by decide +kernel), rfl⟩, ?_⟩
      · intro z hz; cases hz
      · refine J.heap (h' := hc) w1 ?_
        refine j_astore_n E dL_fill_7 (by decide) ?_
        refine j_sipush (v := -1001) E dL_fill_8 cs_m1001 ?_
        exact j_iret E hr dL_fill_11 ⟨Nat.le_of_ble_eq_true rfl, Nat.le_of_ble_eq_true rfl⟩ ⟨by rw [rc_1 hk], hc, by rw [nx_1 (by rw [hk]; decide)]; exact ⟨gl, G, ad, rfl, K0, hI, I⟩, fun _ _ z => z⟩
    · refine ⟨12, ⟨[⟨0, 6, 7, 21⟩], ⟨0, 6, 12, 13⟩, [⟨0, 6, 17, 15⟩], "java/lang/IllegalArgumentException", ht, ?_, by decide, by decide, q_122 E.tb, E.tb.get 133 (by decide +kernel) (by decide +kernel), rfl⟩, ?_⟩
      · intro z hz
        rcases List.mem_cons.mp hz with rfl | hz
        · exact Or.inr ⟨by decide, "java/lang/IndexOutOfBoundsException", q_235 E.tb, E.tn ("java/lang/IllegalArgumentException", "java/lang/IndexOutOfBoundsException") (by decide)⟩
        exact absurd hz List.not_mem_nil
      · refine J.heap (h' := hc) w1 ?_
        refine j_astore_n E dL_fill_12 (by decide) ?_
        refine j_sipush (v := -1002) E dL_fill_13 cs_m1002 ?_
        exact j_iret E hr dL_fill_16 ⟨Nat.le_of_ble_eq_true rfl, Nat.le_of_ble_eq_true rfl⟩ ⟨by rw [rc_2 hk], hc, by rw [nx_1 (by rw [hk]; decide)]; exact ⟨gl, G, ad, rfl, K0, hI, I⟩, fun _ _ z => z⟩
    · refine ⟨17, ⟨[⟨0, 6, 7, 21⟩, ⟨0, 6, 12, 13⟩], ⟨0, 6, 17, 15⟩, [], "java/lang/IllegalStateException", ht, ?_, by decide, by decide, q_123 E.tb, E.tb.get 205 (by decide +kernel) (by decide +kernel), rfl⟩, ?_⟩
      · intro z hz
        rcases List.mem_cons.mp hz with rfl | hz
        · exact Or.inr ⟨by decide, "java/lang/IndexOutOfBoundsException", q_235 E.tb, E.tn ("java/lang/IllegalStateException", "java/lang/IndexOutOfBoundsException") (by decide)⟩
        rcases List.mem_cons.mp hz with rfl | hz
        · exact Or.inr ⟨by decide, "java/lang/IllegalArgumentException", q_122 E.tb, E.tn ("java/lang/IllegalStateException", "java/lang/IllegalArgumentException") (by decide)⟩
        exact absurd hz List.not_mem_nil
      · refine J.heap (h' := hc) w1 ?_
        refine j_astore_n E dL_fill_17 (by decide) ?_
        refine j_sipush (v := -1003) E dL_fill_18 cs_m1003 ?_
        exact j_iret E hr dL_fill_21 ⟨Nat.le_of_ble_eq_true rfl, Nat.le_of_ble_eq_true rfl⟩ ⟨by rw [rc_3 hk], hc, by rw [nx_1 (by rw [hk]; decide)]; exact ⟨gl, G, ad, rfl, K0, hI, I⟩, fun _ _ z => z⟩
  · obtain ⟨rfl, hz, hq⟩ := hp
    refine J.heap (h' := hc1) w2 ?_
    exact j_iret E hr dL_fill_6 ⟨Nat.le_of_ble_eq_true rfl, Nat.le_of_ble_eq_true rfl⟩ ⟨by rw [rc_0 hz], hc1, by rw [nx_0 hz, show bS (p_fill S r g).1 = bS S from congrArg (fun z => 180 * nn z) ph_fill]; exact hq, fun _ _ z => z⟩
set_option maxHeartbeats 4000000 in
set_option maxRecDepth 100000 in
theorem h_lotE (l : Launch) (D : va_G) (S : St) (a0 : Nat) (hc : AH) (hOk : Ok S (bS S) a0 hc) (x : Int32) : CtrW l D yL_lot cL_lot 4 (some .int) [(0, 43, 44, 21)] 8 134 2 12 [.ref a0, .int x, .int 0] hc (fun _ => False) (HM S (p_empty S x) a0) := by
  refine CtrW.of RL rfl (by decide) (Nat.le_of_ble_eq_true rfl) ?_
  intro sz p e s m below meth c E hin hr ht
  obtain ⟨gl, G, ad, rfl, K0, hI, I⟩ := hOk
  refine j_iload_n E dL_lot_0 rfl ?_
  refine j_if_ne (tgt := 12) E dL_lot_1 (by decide) (fun q => ((q rfl)).elim) (fun _ => ?_)
  refine j_aload_n E dL_lot_4 rfl ?_
  refine j_iload_n E dL_lot_5 rfl ?_
  refine j_callVc E (hc := hc) (hr := fun _ => none) (k_empty l D S gl G ad hc K0 (bS S) I hI x) (fun _ _ z => z) (fun _ _ z => nomatch z) (cw_L_23 E ⟨Nat.le_of_ble_eq_true rfl, Nat.le_of_ble_eq_true rfl, Nat.le_of_ble_eq_true rfl, Nat.le_of_ble_eq_true rfl, Nat.le_of_ble_eq_true rfl⟩) (q_313 E.tb) (q_314 E.tb) K0.x0 rfl rfl dL_lot_6 rfl (fun Ex q9 h1 hx w1 w2 => ?_) (fun v6 hc1 h4 hp w2 w3 w4 => ?_)
  · obtain ⟨rfl, hk⟩ := hx
    · refine ⟨44, ⟨[], ⟨0, 43, 44, 21⟩, [], "java/lang/IndexOutOfBoundsException", ht, ?_, by decide, by decide, q_235 E.tb, E.tb.get 269 (by decide +kernel) (by decide +kernel), rfl⟩, ?_⟩
      · intro z hz; cases hz
      · refine J.heap (h' := hc) w1 ?_
        refine j_astore_n E dL_lot_44 (by decide) ?_
        refine j_sipush (v := -1001) E dL_lot_45 cs_m1001 ?_
        exact j_iret E hr dL_lot_48 ⟨Nat.le_of_ble_eq_true rfl, Nat.le_of_ble_eq_true rfl⟩ ⟨by rw [rc_1 hk], hc, by rw [nx_1 (by rw [hk]; decide)]; exact ⟨gl, G, ad, rfl, K0, hI, I⟩, fun _ _ z => z⟩
  · obtain ⟨rfl, hz, hq⟩ := hp
    refine J.heap (h' := hc1) w2 ?_
    refine j_goto (tgt := 43) E dL_lot_9 (by decide) ?_
    exact j_iret E hr dL_lot_43 ⟨Nat.le_of_ble_eq_true rfl, Nat.le_of_ble_eq_true rfl⟩ ⟨by rw [rc_0 hz], hc1, by rw [nx_0 hz, show bS (p_empty S x).1 = bS S from congrArg (fun z => 180 * nn z) ph_empty]; exact hq, fun _ _ z => z⟩
set_option maxHeartbeats 4000000 in
set_option maxRecDepth 100000 in
theorem h_lotH (l : Launch) (D : va_G) (S : St) (a0 : Nat) (hc : AH) (hOk : Ok S (bS S) a0 hc) (x : Int32) : CtrW l D yL_lot cL_lot 4 (some .int) [(0, 43, 44, 21)] 8 133 2 12 [.ref a0, .int x, .int 1] hc (fun _ => False) (fun r9 h' => r9 = some (.int (rc (p_hoursToDry S x))) ∧ hc = h') := by
  refine CtrW.of RL rfl (by decide) (Nat.le_of_ble_eq_true rfl) ?_
  intro sz p e s m below meth c E hin hr ht
  obtain ⟨gl, G, ad, rfl, K0, hI, I⟩ := hOk
  refine j_iload_n E dL_lot_0 rfl ?_
  refine j_if_ne (tgt := 12) E dL_lot_1 (by decide) (fun _ => ?_) (fun q => ((show False from absurd q (by decide))).elim)
  refine j_iload_n E dL_lot_12 rfl ?_
  refine j_iconst (v := 1) E dL_lot_13 ci_1 ?_
  refine j_icmp_ne (tgt := 25) E dL_lot_14 (by decide) (fun q => ((q rfl)).elim) (fun _ => ?_)
  refine j_aload_n E dL_lot_17 rfl ?_
  refine j_iload_n E dL_lot_18 rfl ?_
  refine j_callVc E (hc := hc) (hr := fun _ => none) (k_hoursToDry l D S gl G ad hc K0 (bS S) I hI x) (fun _ _ z => z) (fun _ _ z => nomatch z) (cw_L_26 E ⟨Nat.le_of_ble_eq_true rfl, Nat.le_of_ble_eq_true rfl, Nat.le_of_ble_eq_true rfl, Nat.le_of_ble_eq_true rfl, Nat.le_of_ble_eq_true rfl⟩) (q_330 E.tb) (q_331 E.tb) K0.x0 rfl rfl dL_lot_19 rfl (fun Ex q9 h1 hx w1 w2 => ?_) (fun v19 hc1 h4 hp w2 w3 w4 => ?_)
  · obtain ⟨rfl, hk⟩ := hx
    · refine ⟨44, ⟨[], ⟨0, 43, 44, 21⟩, [], "java/lang/IndexOutOfBoundsException", ht, ?_, by decide, by decide, q_235 E.tb, E.tb.get 269 (by decide +kernel) (by decide +kernel), rfl⟩, ?_⟩
      · intro z hz; cases hz
      · refine J.heap (h' := hc) w1 ?_
        refine j_astore_n E dL_lot_44 (by decide) ?_
        refine j_sipush (v := -1001) E dL_lot_45 cs_m1001 ?_
        exact j_iret E hr dL_lot_48 ⟨Nat.le_of_ble_eq_true rfl, Nat.le_of_ble_eq_true rfl⟩ ⟨by rw [rc_1 hk], rfl⟩
  · obtain ⟨rfl, hz, rfl⟩ := hp
    refine J.heap (h' := hc) w2 ?_
    refine j_goto (tgt := 43) E dL_lot_22 (by decide) ?_
    exact j_iret E hr dL_lot_43 ⟨Nat.le_of_ble_eq_true rfl, Nat.le_of_ble_eq_true rfl⟩ ⟨by rw [rc_0 hz], rfl⟩
set_option maxHeartbeats 4000000 in
set_option maxRecDepth 100000 in
theorem h_lotD (l : Launch) (D : va_G) (S : St) (a0 : Nat) (hc : AH) (hOk : Ok S (bS S) a0 hc) (x : Int32) : CtrW l D yL_lot cL_lot 4 (some .int) [(0, 43, 44, 21)] 8 133 2 12 [.ref a0, .int x, .int 2] hc (fun _ => False) (fun r9 h' => r9 = some (.int (rc (p_dry S x))) ∧ hc = h') := by
  refine CtrW.of RL rfl (by decide) (Nat.le_of_ble_eq_true rfl) ?_
  intro sz p e s m below meth c E hin hr ht
  obtain ⟨gl, G, ad, rfl, K0, hI, I⟩ := hOk
  refine j_iload_n E dL_lot_0 rfl ?_
  refine j_if_ne (tgt := 12) E dL_lot_1 (by decide) (fun _ => ?_) (fun q => ((show False from absurd q (by decide))).elim)
  refine j_iload_n E dL_lot_12 rfl ?_
  refine j_iconst (v := 1) E dL_lot_13 ci_1 ?_
  refine j_icmp_ne (tgt := 25) E dL_lot_14 (by decide) (fun _ => ?_) (fun q => ((show False from absurd q (by decide))).elim)
  refine j_iload_n E dL_lot_25 rfl ?_
  refine j_iconst (v := 2) E dL_lot_26 ci_2 ?_
  refine j_icmp_ne (tgt := 38) E dL_lot_27 (by decide) (fun q => ((q rfl)).elim) (fun _ => ?_)
  refine j_aload_n E dL_lot_30 rfl ?_
  refine j_iload_n E dL_lot_31 rfl ?_
  refine j_callVc E (hc := hc) (hr := fun _ => none) (k_dry l D S gl G ad hc K0 (bS S) I hI x) (fun _ _ z => z) (fun _ _ z => nomatch z) (cw_L_29 E ⟨Nat.le_of_ble_eq_true rfl, Nat.le_of_ble_eq_true rfl, Nat.le_of_ble_eq_true rfl, Nat.le_of_ble_eq_true rfl, Nat.le_of_ble_eq_true rfl⟩) (q_341 E.tb) (q_342 E.tb) K0.x0 rfl rfl dL_lot_32 rfl (fun Ex q9 h1 hx w1 w2 => ?_) (fun v32 hc1 h4 hp w2 w3 w4 => ?_)
  · obtain ⟨rfl, hk⟩ := hx
    · refine ⟨44, ⟨[], ⟨0, 43, 44, 21⟩, [], "java/lang/IndexOutOfBoundsException", ht, ?_, by decide, by decide, q_235 E.tb, E.tb.get 269 (by decide +kernel) (by decide +kernel), rfl⟩, ?_⟩
      · intro z hz; cases hz
      · refine J.heap (h' := hc) w1 ?_
        refine j_astore_n E dL_lot_44 (by decide) ?_
        refine j_sipush (v := -1001) E dL_lot_45 cs_m1001 ?_
        exact j_iret E hr dL_lot_48 ⟨Nat.le_of_ble_eq_true rfl, Nat.le_of_ble_eq_true rfl⟩ ⟨by rw [rc_1 hk], rfl⟩
  · obtain ⟨rfl, hz, rfl⟩ := hp
    refine J.heap (h' := hc) w2 ?_
    refine j_goto (tgt := 43) E dL_lot_35 (by decide) ?_
    exact j_iret E hr dL_lot_43 ⟨Nat.le_of_ble_eq_true rfl, Nat.le_of_ble_eq_true rfl⟩ ⟨by rw [rc_0 hz], rfl⟩
set_option maxHeartbeats 4000000 in
set_option maxRecDepth 100000 in
theorem h_lotR (l : Launch) (D : va_G) (S : St) (a0 : Nat) (hc : AH) (hOk : Ok S (bS S) a0 hc) (x : Int32) : CtrW l D yL_lot cL_lot 4 (some .int) [(0, 43, 44, 21)] 8 133 2 12 [.ref a0, .int x, .int 3] hc (fun _ => False) (fun r9 h' => r9 = some (.int (rc (p_regrind S x))) ∧ hc = h') := by
  refine CtrW.of RL rfl (by decide) (Nat.le_of_ble_eq_true rfl) ?_
  intro sz p e s m below meth c E hin hr ht
  obtain ⟨gl, G, ad, rfl, K0, hI, I⟩ := hOk
  refine j_iload_n E dL_lot_0 rfl ?_
  refine j_if_ne (tgt := 12) E dL_lot_1 (by decide) (fun _ => ?_) (fun q => ((show False from absurd q (by decide))).elim)
  refine j_iload_n E dL_lot_12 rfl ?_
  refine j_iconst (v := 1) E dL_lot_13 ci_1 ?_
  refine j_icmp_ne (tgt := 25) E dL_lot_14 (by decide) (fun _ => ?_) (fun q => ((show False from absurd q (by decide))).elim)
  refine j_iload_n E dL_lot_25 rfl ?_
  refine j_iconst (v := 2) E dL_lot_26 ci_2 ?_
  refine j_icmp_ne (tgt := 38) E dL_lot_27 (by decide) (fun _ => ?_) (fun q => ((show False from absurd q (by decide))).elim)
  refine j_aload_n E dL_lot_38 rfl ?_
  refine j_iload_n E dL_lot_39 rfl ?_
  refine j_callVc E (hc := hc) (hr := fun _ => none) (k_regrind l D S gl G ad hc K0 (bS S) I hI x) (fun _ _ z => z) (fun _ _ z => nomatch z) (cw_L_32 E ⟨Nat.le_of_ble_eq_true rfl, Nat.le_of_ble_eq_true rfl, Nat.le_of_ble_eq_true rfl, Nat.le_of_ble_eq_true rfl, Nat.le_of_ble_eq_true rfl⟩) (q_354 E.tb) (q_355 E.tb) K0.x0 rfl rfl dL_lot_40 rfl (fun Ex q9 h1 hx w1 w2 => ?_) (fun v40 hc1 h4 hp w2 w3 w4 => ?_)
  · obtain ⟨rfl, hk⟩ := hx
    · refine ⟨44, ⟨[], ⟨0, 43, 44, 21⟩, [], "java/lang/IndexOutOfBoundsException", ht, ?_, by decide, by decide, q_235 E.tb, E.tb.get 269 (by decide +kernel) (by decide +kernel), rfl⟩, ?_⟩
      · intro z hz; cases hz
      · refine J.heap (h' := hc) w1 ?_
        refine j_astore_n E dL_lot_44 (by decide) ?_
        refine j_sipush (v := -1001) E dL_lot_45 cs_m1001 ?_
        exact j_iret E hr dL_lot_48 ⟨Nat.le_of_ble_eq_true rfl, Nat.le_of_ble_eq_true rfl⟩ ⟨by rw [rc_1 hk], rfl⟩
  · obtain ⟨rfl, hz, rfl⟩ := hp
    refine J.heap (h' := hc) w2 ?_
    exact j_iret E hr dL_lot_43 ⟨Nat.le_of_ble_eq_true rfl, Nat.le_of_ble_eq_true rfl⟩ ⟨by rw [rc_0 hz], rfl⟩
set_option maxHeartbeats 4000000 in
set_option maxRecDepth 100000 in
theorem h_mould (l : Launch) (D : va_G) (S : St) (a0 : Nat) (hc : AH) (hOk : Ok S (bS S) a0 hc) (q : Nat) (g : Nat → Int32) (hno : hc q = none) : CtrW l D yL_mould cL_mould 3 (some .int) [(0, 19, 20, 13), (0, 19, 25, 15)] 8 138 21 105 [.ref a0, .ref q] (hup hc q (.inl (.int, (5, .inl g)))) (fun _ => False) (HMa S (p_addMould S (g 0) (g 1) (g 2) (g 3) (g 4)) a0 q (.inl (.int, (5, .inl g)))) := by
  refine CtrW.of RL rfl (by decide) (Nat.le_of_ble_eq_true rfl) ?_
  intro sz p e s m below meth c E hin hr ht
  obtain ⟨gl, G, ad, rfl, K0, hI, I⟩ := hOk
  have hfr : ∀ x e9, oneC q (.inl (.int, (5, .inl g))) x = some e9 → hup hc q (.inl (.int, (5, .inl g))) x = some e9 ∧ hc x = none := fun x e9 he => by
    by_cases z : x = q
    · subst z; exact ⟨by rw [hup_eq]; rw [show oneC x _ x = _ from if_pos rfl] at he; exact he, hno⟩
    · rw [show oneC q (.inl (.int, (5, .inl g))) x = none from if_neg z] at he; cases he
  have hsb : ∀ x e9, hc x = some e9 → hup hc q (.inl (.int, (5, .inl g))) x = some e9 := fun x e9 he => by rw [hup_ne (fun z => by rw [z, hno] at he; cases he)]; exact he
  refine j_aload_n E dL_mould_0 rfl ?_
  refine j_aload_n E dL_mould_1 rfl ?_
  refine j_iconst (v := 0) E dL_mould_2 ci_0 ?_
  refine j_iald E hup_eq (vin_nI (n := 5) (k := 0) (by decide) (by decide)) dL_mould_3 ?_
  refine j_aload_n E dL_mould_4 rfl ?_
  refine j_iconst (v := 1) E dL_mould_5 ci_1 ?_
  refine j_iald E hup_eq (vin_nI (n := 5) (k := 1) (by decide) (by decide)) dL_mould_6 ?_
  refine j_aload_n E dL_mould_7 rfl ?_
  refine j_iconst (v := 2) E dL_mould_8 ci_2 ?_
  refine j_iald E hup_eq (vin_nI (n := 5) (k := 2) (by decide) (by decide)) dL_mould_9 ?_
  refine j_aload_n E dL_mould_10 rfl ?_
  refine j_iconst (v := 3) E dL_mould_11 ci_3 ?_
  refine j_iald E hup_eq (vin_nI (n := 5) (k := 3) (by decide) (by decide)) dL_mould_12 ?_
  refine j_aload_n E dL_mould_13 rfl ?_
  refine j_iconst (v := 4) E dL_mould_14 ci_4 ?_
  refine j_iald E hup_eq (vin_nI (n := 5) (k := 4) (by decide) (by decide)) dL_mould_15 ?_
  refine j_callVc E (hc := hc) (hr := oneC q (.inl (.int, (5, .inl g)))) (k_addMould l D S gl G ad hc K0 (bS S) I hI (g 0) (g 1) (g 2) (g 3) (g 4)) hsb hfr (cw_L_35 E ⟨Nat.le_of_ble_eq_true rfl, Nat.le_of_ble_eq_true rfl, Nat.le_of_ble_eq_true rfl, Nat.le_of_ble_eq_true rfl, Nat.le_of_ble_eq_true rfl⟩) (q_361 E.tb) (q_362 E.tb) (hsb _ _ K0.x0) rfl rfl dL_mould_16 rfl (fun Ex q9 h1 hx w1 w2 => ?_) (fun v16 hc1 h4 hp w2 w3 w4 => ?_)
  · rcases hx with ⟨rfl, hk⟩ | ⟨rfl, hk⟩
    · refine ⟨20, ⟨[], ⟨0, 19, 20, 13⟩, [⟨0, 19, 25, 15⟩], "java/lang/IllegalArgumentException", ht, ?_, by decide, by decide, q_122 E.tb, E.tb.get 133 (by decide +kernel) (by decide +kernel), rfl⟩, ?_⟩
      · intro z hz; cases hz
      · refine j_astore_n E dL_mould_20 (by decide) ?_
        refine j_sipush (v := -1001) E dL_mould_21 cs_m1001 ?_
        exact j_iret E hr dL_mould_24 ⟨Nat.le_of_ble_eq_true rfl, Nat.le_of_ble_eq_true rfl⟩ ⟨by rw [rc_1 hk], hc, by rw [nx_1 (by rw [hk]; decide)]; exact ⟨gl, G, ad, rfl, K0, hI, I⟩, fun x e he => ⟨w1 x e he, fun z => by rw [z, hno] at he; cases he⟩, w2 q _ (if_pos rfl)⟩
    · refine ⟨25, ⟨[⟨0, 19, 20, 13⟩], ⟨0, 19, 25, 15⟩, [], "java/lang/IllegalStateException", ht, ?_, by decide, by decide, q_123 E.tb, E.tb.get 205 (by decide +kernel) (by decide +kernel), rfl⟩, ?_⟩
      · intro z hz
        rcases List.mem_cons.mp hz with rfl | hz
        · exact Or.inr ⟨by decide, "java/lang/IllegalArgumentException", q_122 E.tb, E.tn ("java/lang/IllegalStateException", "java/lang/IllegalArgumentException") (by decide)⟩
        exact absurd hz List.not_mem_nil
      · refine j_astore_n E dL_mould_25 (by decide) ?_
        refine j_sipush (v := -1002) E dL_mould_26 cs_m1002 ?_
        exact j_iret E hr dL_mould_29 ⟨Nat.le_of_ble_eq_true rfl, Nat.le_of_ble_eq_true rfl⟩ ⟨by rw [rc_2 hk], hc, by rw [nx_1 (by rw [hk]; decide)]; exact ⟨gl, G, ad, rfl, K0, hI, I⟩, fun x e he => ⟨w1 x e he, fun z => by rw [z, hno] at he; cases he⟩, w2 q _ (if_pos rfl)⟩
  · obtain ⟨rfl, hz, hq⟩ := hp
    have hn1 : hc1 q = none := w4 q _ (if_pos rfl)
    exact j_iret E hr dL_mould_19 ⟨Nat.le_of_ble_eq_true rfl, Nat.le_of_ble_eq_true rfl⟩ ⟨by rw [rc_0 hz], hc1, by rw [nx_0 hz, show bS (p_addMould S (g 0) (g 1) (g 2) (g 3) (g 4)).1 = bS S from congrArg (fun z => 180 * nn z) ph_addMould]; exact hq, fun x e he => ⟨w2 x e he, fun z => by rw [z, hn1] at he; cases he⟩, w3 q _ (if_pos rfl)⟩
set_option maxHeartbeats 4000000 in
set_option maxRecDepth 100000 in
theorem h_life (l : Launch) (D : va_G) (S : St) (a0 : Nat) (hc : AH) (hOk : Ok S (bS S) a0 hc) (mo : Int32) (ca : Int32) (x : Int32) : CtrW l D yL_life cL_life 5 (some .int) [(0, 7, 8, 21), (0, 7, 14, 13)] 8 137 6 36 [.ref a0, .int mo, .int ca, .int x] hc (fun _ => False) (HM S (p_setLife S mo ca x) a0) := by
  refine CtrW.of RL rfl (by decide) (Nat.le_of_ble_eq_true rfl) ?_
  intro sz p e s m below meth c E hin hr ht
  obtain ⟨gl, G, ad, rfl, K0, hI, I⟩ := hOk
  refine j_aload_n E dL_life_0 rfl ?_
  refine j_iload_n E dL_life_1 rfl ?_
  refine j_iload_n E dL_life_2 rfl ?_
  refine j_iload_n E dL_life_3 rfl ?_
  refine j_callVc E (hc := hc) (hr := fun _ => none) (k_setLife l D S gl G ad hc K0 (bS S) I hI mo ca x) (fun _ _ z => z) (fun _ _ z => nomatch z) (cw_L_39 E ⟨Nat.le_of_ble_eq_true rfl, Nat.le_of_ble_eq_true rfl, Nat.le_of_ble_eq_true rfl, Nat.le_of_ble_eq_true rfl, Nat.le_of_ble_eq_true rfl⟩) (q_424 E.tb) (q_425 E.tb) K0.x0 rfl rfl dL_life_4 rfl (fun Ex q9 h1 hx w1 w2 => ?_) (fun v4 hc1 h4 hp w2 w3 w4 => ?_)
  · rcases hx with ⟨rfl, hk⟩ | ⟨rfl, hk⟩
    · refine ⟨8, ⟨[], ⟨0, 7, 8, 21⟩, [⟨0, 7, 14, 13⟩], "java/lang/IndexOutOfBoundsException", ht, ?_, by decide, by decide, q_235 E.tb, E.tb.get 269 (by decide +kernel) (by decide +kernel), rfl⟩, ?_⟩
      · intro z hz; cases hz
      · refine J.heap (h' := hc) w1 ?_
        refine j_astore E dL_life_8 (by decide) ?_
        refine j_sipush (v := -1001) E dL_life_10 cs_m1001 ?_
        exact j_iret E hr dL_life_13 ⟨Nat.le_of_ble_eq_true rfl, Nat.le_of_ble_eq_true rfl⟩ ⟨by rw [rc_1 hk], hc, by rw [nx_1 (by rw [hk]; decide)]; exact ⟨gl, G, ad, rfl, K0, hI, I⟩, fun _ _ z => z⟩
    · refine ⟨14, ⟨[⟨0, 7, 8, 21⟩], ⟨0, 7, 14, 13⟩, [], "java/lang/IllegalArgumentException", ht, ?_, by decide, by decide, q_122 E.tb, E.tb.get 133 (by decide +kernel) (by decide +kernel), rfl⟩, ?_⟩
      · intro z hz
        rcases List.mem_cons.mp hz with rfl | hz
        · exact Or.inr ⟨by decide, "java/lang/IndexOutOfBoundsException", q_235 E.tb, E.tn ("java/lang/IllegalArgumentException", "java/lang/IndexOutOfBoundsException") (by decide)⟩
        exact absurd hz List.not_mem_nil
      · refine J.heap (h' := hc) w1 ?_
        refine j_astore E dL_life_14 (by decide) ?_
        refine j_sipush (v := -1002) E dL_life_16 cs_m1002 ?_
        exact j_iret E hr dL_life_19 ⟨Nat.le_of_ble_eq_true rfl, Nat.le_of_ble_eq_true rfl⟩ ⟨by rw [rc_2 hk], hc, by rw [nx_1 (by rw [hk]; decide)]; exact ⟨gl, G, ad, rfl, K0, hI, I⟩, fun _ _ z => z⟩
  · obtain ⟨rfl, hz, hq⟩ := hp
    refine J.heap (h' := hc1) w2 ?_
    exact j_iret E hr dL_life_7 ⟨Nat.le_of_ble_eq_true rfl, Nat.le_of_ble_eq_true rfl⟩ ⟨by rw [rc_0 hz], hc1, by rw [nx_0 hz, show bS (p_setLife S mo ca x).1 = bS S from congrArg (fun z => 180 * nn z) ph_setLife]; exact hq, fun _ _ z => z⟩
set_option maxHeartbeats 4000000 in
set_option maxRecDepth 100000 in
theorem h_cavB (l : Launch) (D : va_G) (S : St) (a0 : Nat) (hc : AH) (hOk : Ok S (bS S) a0 hc) (mo : Int32) (ca : Int32) : CtrW l D yL_cavity cL_cavity 5 (some .int) [(0, 33, 34, 21), (0, 33, 40, 15), (0, 33, 46, 52)] 8 137 5 30 [.ref a0, .int mo, .int ca, .int 0] hc (fun _ => False) (HM S (p_block S mo ca) a0) := by
  refine CtrW.of RL rfl (by decide) (Nat.le_of_ble_eq_true rfl) ?_
  intro sz p e s m below meth c E hin hr ht
  obtain ⟨gl, G, ad, rfl, K0, hI, I⟩ := hOk
  refine j_iload_n E dL_cavity_0 rfl ?_
  refine j_if_ne (tgt := 13) E dL_cavity_1 (by decide) (fun q => ((q rfl)).elim) (fun _ => ?_)
  refine j_aload_n E dL_cavity_4 rfl ?_
  refine j_iload_n E dL_cavity_5 rfl ?_
  refine j_iload_n E dL_cavity_6 rfl ?_
  refine j_callVc E (hc := hc) (hr := fun _ => none) (k_block l D S gl G ad hc K0 (bS S) I hI mo ca) (fun _ _ z => z) (fun _ _ z => nomatch z) (cw_L_43 E ⟨Nat.le_of_ble_eq_true rfl, Nat.le_of_ble_eq_true rfl, Nat.le_of_ble_eq_true rfl, Nat.le_of_ble_eq_true rfl, Nat.le_of_ble_eq_true rfl⟩) (q_445 E.tb) (q_446 E.tb) K0.x0 rfl rfl dL_cavity_7 rfl (fun Ex q9 h1 hx w1 w2 => ?_) (fun v7 hc1 h4 hp w2 w3 w4 => ?_)
  · rcases hx with ⟨rfl, hk⟩ | ⟨rfl, hk⟩
    · refine ⟨34, ⟨[], ⟨0, 33, 34, 21⟩, [⟨0, 33, 40, 15⟩, ⟨0, 33, 46, 52⟩], "java/lang/IndexOutOfBoundsException", ht, ?_, by decide, by decide, q_235 E.tb, E.tb.get 269 (by decide +kernel) (by decide +kernel), rfl⟩, ?_⟩
      · intro z hz; cases hz
      · refine J.heap (h' := hc) w1 ?_
        refine j_astore E dL_cavity_34 (by decide) ?_
        refine j_sipush (v := -1001) E dL_cavity_36 cs_m1001 ?_
        exact j_iret E hr dL_cavity_39 ⟨Nat.le_of_ble_eq_true rfl, Nat.le_of_ble_eq_true rfl⟩ ⟨by rw [rc_1 hk], hc, by rw [nx_1 (by rw [hk]; decide)]; exact ⟨gl, G, ad, rfl, K0, hI, I⟩, fun _ _ z => z⟩
    · refine ⟨40, ⟨[⟨0, 33, 34, 21⟩], ⟨0, 33, 40, 15⟩, [⟨0, 33, 46, 52⟩], "java/lang/IllegalStateException", ht, ?_, by decide, by decide, q_123 E.tb, E.tb.get 205 (by decide +kernel) (by decide +kernel), rfl⟩, ?_⟩
      · intro z hz
        rcases List.mem_cons.mp hz with rfl | hz
        · exact Or.inr ⟨by decide, "java/lang/IndexOutOfBoundsException", q_235 E.tb, E.tn ("java/lang/IllegalStateException", "java/lang/IndexOutOfBoundsException") (by decide)⟩
        exact absurd hz List.not_mem_nil
      · refine J.heap (h' := hc) w1 ?_
        refine j_astore E dL_cavity_40 (by decide) ?_
        refine j_sipush (v := -1002) E dL_cavity_42 cs_m1002 ?_
        exact j_iret E hr dL_cavity_45 ⟨Nat.le_of_ble_eq_true rfl, Nat.le_of_ble_eq_true rfl⟩ ⟨by rw [rc_2 hk], hc, by rw [nx_1 (by rw [hk]; decide)]; exact ⟨gl, G, ad, rfl, K0, hI, I⟩, fun _ _ z => z⟩
  · obtain ⟨rfl, hz, hq⟩ := hp
    refine J.heap (h' := hc1) w2 ?_
    refine j_goto (tgt := 33) E dL_cavity_10 (by decide) ?_
    exact j_iret E hr dL_cavity_33 ⟨Nat.le_of_ble_eq_true rfl, Nat.le_of_ble_eq_true rfl⟩ ⟨by rw [rc_0 hz], hc1, by rw [nx_0 hz, show bS (p_block S mo ca).1 = bS S from congrArg (fun z => 180 * nn z) ph_block]; exact hq, fun _ _ z => z⟩
set_option maxHeartbeats 4000000 in
set_option maxRecDepth 100000 in
theorem h_cavR (l : Launch) (D : va_G) (S : St) (a0 : Nat) (hc : AH) (hOk : Ok S (bS S) a0 hc) (mo : Int32) (ca : Int32) : CtrW l D yL_cavity cL_cavity 5 (some .int) [(0, 33, 34, 21), (0, 33, 40, 15), (0, 33, 46, 52)] 8 137 5 30 [.ref a0, .int mo, .int ca, .int 1] hc (fun _ => False) (HM S (p_repair S mo ca) a0) := by
  refine CtrW.of RL rfl (by decide) (Nat.le_of_ble_eq_true rfl) ?_
  intro sz p e s m below meth c E hin hr ht
  obtain ⟨gl, G, ad, rfl, K0, hI, I⟩ := hOk
  refine j_iload_n E dL_cavity_0 rfl ?_
  refine j_if_ne (tgt := 13) E dL_cavity_1 (by decide) (fun _ => ?_) (fun q => ((show False from absurd q (by decide))).elim)
  refine j_iload_n E dL_cavity_13 rfl ?_
  refine j_iconst (v := 1) E dL_cavity_14 ci_1 ?_
  refine j_icmp_ne (tgt := 27) E dL_cavity_15 (by decide) (fun q => ((q rfl)).elim) (fun _ => ?_)
  refine j_aload_n E dL_cavity_18 rfl ?_
  refine j_iload_n E dL_cavity_19 rfl ?_
  refine j_iload_n E dL_cavity_20 rfl ?_
  refine j_callVc E (hc := hc) (hr := fun _ => none) (k_repair l D S gl G ad hc K0 (bS S) I hI mo ca) (fun _ _ z => z) (fun _ _ z => nomatch z) (cw_L_46 E ⟨Nat.le_of_ble_eq_true rfl, Nat.le_of_ble_eq_true rfl, Nat.le_of_ble_eq_true rfl, Nat.le_of_ble_eq_true rfl, Nat.le_of_ble_eq_true rfl⟩) (q_454 E.tb) (q_455 E.tb) K0.x0 rfl rfl dL_cavity_21 rfl (fun Ex q9 h1 hx w1 w2 => ?_) (fun v21 hc1 h4 hp w2 w3 w4 => ?_)
  · rcases hx with ⟨rfl, hk⟩ | ⟨rfl, hk⟩
    · refine ⟨34, ⟨[], ⟨0, 33, 34, 21⟩, [⟨0, 33, 40, 15⟩, ⟨0, 33, 46, 52⟩], "java/lang/IndexOutOfBoundsException", ht, ?_, by decide, by decide, q_235 E.tb, E.tb.get 269 (by decide +kernel) (by decide +kernel), rfl⟩, ?_⟩
      · intro z hz; cases hz
      · refine J.heap (h' := hc) w1 ?_
        refine j_astore E dL_cavity_34 (by decide) ?_
        refine j_sipush (v := -1001) E dL_cavity_36 cs_m1001 ?_
        exact j_iret E hr dL_cavity_39 ⟨Nat.le_of_ble_eq_true rfl, Nat.le_of_ble_eq_true rfl⟩ ⟨by rw [rc_1 hk], hc, by rw [nx_1 (by rw [hk]; decide)]; exact ⟨gl, G, ad, rfl, K0, hI, I⟩, fun _ _ z => z⟩
    · refine ⟨40, ⟨[⟨0, 33, 34, 21⟩], ⟨0, 33, 40, 15⟩, [⟨0, 33, 46, 52⟩], "java/lang/IllegalStateException", ht, ?_, by decide, by decide, q_123 E.tb, E.tb.get 205 (by decide +kernel) (by decide +kernel), rfl⟩, ?_⟩
      · intro z hz
        rcases List.mem_cons.mp hz with rfl | hz
        · exact Or.inr ⟨by decide, "java/lang/IndexOutOfBoundsException", q_235 E.tb, E.tn ("java/lang/IllegalStateException", "java/lang/IndexOutOfBoundsException") (by decide)⟩
        exact absurd hz List.not_mem_nil
      · refine J.heap (h' := hc) w1 ?_
        refine j_astore E dL_cavity_40 (by decide) ?_
        refine j_sipush (v := -1002) E dL_cavity_42 cs_m1002 ?_
        exact j_iret E hr dL_cavity_45 ⟨Nat.le_of_ble_eq_true rfl, Nat.le_of_ble_eq_true rfl⟩ ⟨by rw [rc_2 hk], hc, by rw [nx_1 (by rw [hk]; decide)]; exact ⟨gl, G, ad, rfl, K0, hI, I⟩, fun _ _ z => z⟩
  · obtain ⟨rfl, hz, hq⟩ := hp
    refine J.heap (h' := hc1) w2 ?_
    refine j_goto (tgt := 33) E dL_cavity_24 (by decide) ?_
    exact j_iret E hr dL_cavity_33 ⟨Nat.le_of_ble_eq_true rfl, Nat.le_of_ble_eq_true rfl⟩ ⟨by rw [rc_0 hz], hc1, by rw [nx_0 hz, show bS (p_repair S mo ca).1 = bS S from congrArg (fun z => 180 * nn z) ph_repair]; exact hq, fun _ _ z => z⟩
set_option maxHeartbeats 4000000 in
set_option maxRecDepth 100000 in
theorem h_cavN (l : Launch) (D : va_G) (S : St) (a0 : Nat) (hc : AH) (hOk : Ok S (bS S) a0 hc) (mo : Int32) (f : Int32) : CtrW l D yL_cavity cL_cavity 5 (some .int) [(0, 33, 34, 21), (0, 33, 40, 15), (0, 33, 46, 52)] 8 137 3 18 [.ref a0, .int mo, .int f, .int 2] hc (fun _ => False) (fun r9 h' => r9 = some (.int (rc (p_nextOpen S mo f))) ∧ hc = h') := by
  refine CtrW.of RL rfl (by decide) (Nat.le_of_ble_eq_true rfl) ?_
  intro sz p e s m below meth c E hin hr ht
  obtain ⟨gl, G, ad, rfl, K0, hI, I⟩ := hOk
  refine j_iload_n E dL_cavity_0 rfl ?_
  refine j_if_ne (tgt := 13) E dL_cavity_1 (by decide) (fun _ => ?_) (fun q => ((show False from absurd q (by decide))).elim)
  refine j_iload_n E dL_cavity_13 rfl ?_
  refine j_iconst (v := 1) E dL_cavity_14 ci_1 ?_
  refine j_icmp_ne (tgt := 27) E dL_cavity_15 (by decide) (fun _ => ?_) (fun q => ((show False from absurd q (by decide))).elim)
  refine j_aload_n E dL_cavity_27 rfl ?_
  refine j_iload_n E dL_cavity_28 rfl ?_
  refine j_iload_n E dL_cavity_29 rfl ?_
  refine j_callVc E (hc := hc) (hr := fun _ => none) (k_nextOpen l D S gl G ad hc K0 (bS S) I hI mo f) (fun _ _ z => z) (fun _ _ z => nomatch z) (cw_L_49 E ⟨Nat.le_of_ble_eq_true rfl, Nat.le_of_ble_eq_true rfl, Nat.le_of_ble_eq_true rfl, Nat.le_of_ble_eq_true rfl, Nat.le_of_ble_eq_true rfl⟩) (q_459 E.tb) (q_460 E.tb) K0.x0 rfl rfl dL_cavity_30 rfl (fun Ex q9 h1 hx w1 w2 => ?_) (fun v30 hc1 h4 hp w2 w3 w4 => ?_)
  · rcases hx with ⟨rfl, hk⟩ | ⟨rfl, hk⟩
    · refine ⟨34, ⟨[], ⟨0, 33, 34, 21⟩, [⟨0, 33, 40, 15⟩, ⟨0, 33, 46, 52⟩], "java/lang/IndexOutOfBoundsException", ht, ?_, by decide, by decide, q_235 E.tb, E.tb.get 269 (by decide +kernel) (by decide +kernel), rfl⟩, ?_⟩
      · intro z hz; cases hz
      · refine J.heap (h' := hc) w1 ?_
        refine j_astore E dL_cavity_34 (by decide) ?_
        refine j_sipush (v := -1001) E dL_cavity_36 cs_m1001 ?_
        exact j_iret E hr dL_cavity_39 ⟨Nat.le_of_ble_eq_true rfl, Nat.le_of_ble_eq_true rfl⟩ ⟨by rw [rc_1 hk], rfl⟩
    · refine ⟨46, ⟨[⟨0, 33, 34, 21⟩, ⟨0, 33, 40, 15⟩], ⟨0, 33, 46, 52⟩, [], "java/util/NoSuchElementException", ht, ?_, by decide, by decide, q_443 E.tb, E.tb.get 465 (by decide +kernel) (by decide +kernel), rfl⟩, ?_⟩
      · intro z hz
        rcases List.mem_cons.mp hz with rfl | hz
        · exact Or.inr ⟨by decide, "java/lang/IndexOutOfBoundsException", q_235 E.tb, E.tn ("java/util/NoSuchElementException", "java/lang/IndexOutOfBoundsException") (by decide)⟩
        rcases List.mem_cons.mp hz with rfl | hz
        · exact Or.inr ⟨by decide, "java/lang/IllegalStateException", q_123 E.tb, E.tn ("java/util/NoSuchElementException", "java/lang/IllegalStateException") (by decide)⟩
        exact absurd hz List.not_mem_nil
      · refine J.heap (h' := hc) w1 ?_
        refine j_astore E dL_cavity_46 (by decide) ?_
        refine j_sipush (v := -1002) E dL_cavity_48 cs_m1002 ?_
        exact j_iret E hr dL_cavity_51 ⟨Nat.le_of_ble_eq_true rfl, Nat.le_of_ble_eq_true rfl⟩ ⟨by rw [rc_2 hk], rfl⟩
  · obtain ⟨rfl, hz, rfl⟩ := hp
    refine J.heap (h' := hc) w2 ?_
    exact j_iret E hr dL_cavity_33 ⟨Nat.le_of_ble_eq_true rfl, Nat.le_of_ble_eq_true rfl⟩ ⟨by rw [rc_0 hz], rfl⟩
set_option maxHeartbeats 4000000 in
set_option maxRecDepth 100000 in
theorem h_machine (l : Launch) (D : va_G) (S : St) (a0 : Nat) (hc : AH) (hOk : Ok S (bS S) a0 hc) (x : Int32) : CtrW l D yL_machine cL_machine 3 (some .int) [(0, 5, 6, 13), (0, 5, 11, 15)] 8 134 4 21 [.ref a0, .int x] hc (fun _ => False) (HM S (p_addMachine S x) a0) := by
  refine CtrW.of RL rfl (by decide) (Nat.le_of_ble_eq_true rfl) ?_
  intro sz p e s m below meth c E hin hr ht
  obtain ⟨gl, G, ad, rfl, K0, hI, I⟩ := hOk
  refine j_aload_n E dL_machine_0 rfl ?_
  refine j_iload_n E dL_machine_1 rfl ?_
  refine j_callVc E (hc := hc) (hr := fun _ => none) (k_addMachine l D S gl G ad hc K0 (bS S) I hI x) (fun _ _ z => z) (fun _ _ z => nomatch z) (cw_L_54 E ⟨Nat.le_of_ble_eq_true rfl, Nat.le_of_ble_eq_true rfl, Nat.le_of_ble_eq_true rfl, Nat.le_of_ble_eq_true rfl, Nat.le_of_ble_eq_true rfl⟩) (q_483 E.tb) (q_484 E.tb) K0.x0 rfl rfl dL_machine_2 rfl (fun Ex q9 h1 hx w1 w2 => ?_) (fun v2 hc1 h4 hp w2 w3 w4 => ?_)
  · rcases hx with ⟨rfl, hk⟩ | ⟨rfl, hk⟩
    · refine ⟨6, ⟨[], ⟨0, 5, 6, 13⟩, [⟨0, 5, 11, 15⟩], "java/lang/IllegalArgumentException", ht, ?_, by decide, by decide, q_122 E.tb, E.tb.get 133 (by decide +kernel) (by decide +kernel), rfl⟩, ?_⟩
      · intro z hz; cases hz
      · refine J.heap (h' := hc) w1 ?_
        refine j_astore_n E dL_machine_6 (by decide) ?_
        refine j_sipush (v := -1001) E dL_machine_7 cs_m1001 ?_
        exact j_iret E hr dL_machine_10 ⟨Nat.le_of_ble_eq_true rfl, Nat.le_of_ble_eq_true rfl⟩ ⟨by rw [rc_1 hk], hc, by rw [nx_1 (by rw [hk]; decide)]; exact ⟨gl, G, ad, rfl, K0, hI, I⟩, fun _ _ z => z⟩
    · refine ⟨11, ⟨[⟨0, 5, 6, 13⟩], ⟨0, 5, 11, 15⟩, [], "java/lang/IllegalStateException", ht, ?_, by decide, by decide, q_123 E.tb, E.tb.get 205 (by decide +kernel) (by decide +kernel), rfl⟩, ?_⟩
      · intro z hz
        rcases List.mem_cons.mp hz with rfl | hz
        · exact Or.inr ⟨by decide, "java/lang/IllegalArgumentException", q_122 E.tb, E.tn ("java/lang/IllegalStateException", "java/lang/IllegalArgumentException") (by decide)⟩
        exact absurd hz List.not_mem_nil
      · refine J.heap (h' := hc) w1 ?_
        refine j_astore_n E dL_machine_11 (by decide) ?_
        refine j_sipush (v := -1002) E dL_machine_12 cs_m1002 ?_
        exact j_iret E hr dL_machine_15 ⟨Nat.le_of_ble_eq_true rfl, Nat.le_of_ble_eq_true rfl⟩ ⟨by rw [rc_2 hk], hc, by rw [nx_1 (by rw [hk]; decide)]; exact ⟨gl, G, ad, rfl, K0, hI, I⟩, fun _ _ z => z⟩
  · obtain ⟨rfl, hz, hq⟩ := hp
    refine J.heap (h' := hc1) w2 ?_
    exact j_iret E hr dL_machine_5 ⟨Nat.le_of_ble_eq_true rfl, Nat.le_of_ble_eq_true rfl⟩ ⟨by rw [rc_0 hz], hc1, by rw [nx_0 hz, show bS (p_addMachine S x).1 = bS S from congrArg (fun z => 180 * nn z) ph_addMachine]; exact hq, fun _ _ z => z⟩
set_option maxHeartbeats 4000000 in
set_option maxRecDepth 100000 in
theorem h_putsM (l : Launch) (D : va_G) (S : St) (a0 : Nat) (hc : AH) (hOk : Ok S (bS S) a0 hc) (a : Int32) (mo : Int32) : CtrW l D yL_puts cL_puts 5 (some .int) [(0, 21, 22, 21), (0, 21, 28, 63), (0, 21, 34, 15)] 8 137 5 30 [.ref a0, .int 109, .int a, .int mo] hc (fun _ => False) (HM S (p_mount S a mo) a0) := by
  refine CtrW.of RL rfl (by decide) (Nat.le_of_ble_eq_true rfl) ?_
  intro sz p e s m below meth c E hin hr ht
  obtain ⟨gl, G, ad, rfl, K0, hI, I⟩ := hOk
  refine j_iload_n E dL_puts_0 rfl ?_
  refine j_bipush (v := 109) E dL_puts_1 cb_109 ?_
  refine j_icmp_ne (tgt := 15) E dL_puts_3 (by decide) (fun q => ((q rfl)).elim) (fun _ => ?_)
  refine j_aload_n E dL_puts_6 rfl ?_
  refine j_iload_n E dL_puts_7 rfl ?_
  refine j_iload_n E dL_puts_8 rfl ?_
  refine j_callVc E (hc := hc) (hr := fun _ => none) (k_mount l D S gl G ad hc K0 (bS S) I hI a mo) (fun _ _ z => z) (fun _ _ z => nomatch z) (cw_L_57 E ⟨Nat.le_of_ble_eq_true rfl, Nat.le_of_ble_eq_true rfl, Nat.le_of_ble_eq_true rfl, Nat.le_of_ble_eq_true rfl, Nat.le_of_ble_eq_true rfl⟩) (q_508 E.tb) (q_509 E.tb) K0.x0 rfl rfl dL_puts_9 rfl (fun Ex q9 h1 hx w1 w2 => ?_) (fun v9 hc1 h4 hp w2 w3 w4 => ?_)
  · rcases hx with ⟨rfl, hk⟩ | ⟨rfl, hk⟩ | ⟨rfl, hk⟩
    · refine ⟨22, ⟨[], ⟨0, 21, 22, 21⟩, [⟨0, 21, 28, 63⟩, ⟨0, 21, 34, 15⟩], "java/lang/IndexOutOfBoundsException", ht, ?_, by decide, by decide, q_235 E.tb, E.tb.get 269 (by decide +kernel) (by decide +kernel), rfl⟩, ?_⟩
      · intro z hz; cases hz
      · refine J.heap (h' := hc) w1 ?_
        refine j_astore E dL_puts_22 (by decide) ?_
        refine j_sipush (v := -1001) E dL_puts_24 cs_m1001 ?_
        exact j_iret E hr dL_puts_27 ⟨Nat.le_of_ble_eq_true rfl, Nat.le_of_ble_eq_true rfl⟩ ⟨by rw [rc_1 hk], hc, by rw [nx_1 (by rw [hk]; decide)]; exact ⟨gl, G, ad, rfl, K0, hI, I⟩, fun _ _ z => z⟩
    · refine ⟨28, ⟨[⟨0, 21, 22, 21⟩], ⟨0, 21, 28, 63⟩, [⟨0, 21, 34, 15⟩], "java/lang/UnsupportedOperationException", ht, ?_, by decide, by decide, q_506 E.tb, E.tb.get 518 (by decide +kernel) (by decide +kernel), rfl⟩, ?_⟩
      · intro z hz
        rcases List.mem_cons.mp hz with rfl | hz
        · exact Or.inr ⟨by decide, "java/lang/IndexOutOfBoundsException", q_235 E.tb, E.tn ("java/lang/UnsupportedOperationException", "java/lang/IndexOutOfBoundsException") (by decide)⟩
        exact absurd hz List.not_mem_nil
      · refine J.heap (h' := hc) w1 ?_
        refine j_astore E dL_puts_28 (by decide) ?_
        refine j_sipush (v := -1002) E dL_puts_30 cs_m1002 ?_
        exact j_iret E hr dL_puts_33 ⟨Nat.le_of_ble_eq_true rfl, Nat.le_of_ble_eq_true rfl⟩ ⟨by rw [rc_2 hk], hc, by rw [nx_1 (by rw [hk]; decide)]; exact ⟨gl, G, ad, rfl, K0, hI, I⟩, fun _ _ z => z⟩
    · refine ⟨34, ⟨[⟨0, 21, 22, 21⟩, ⟨0, 21, 28, 63⟩], ⟨0, 21, 34, 15⟩, [], "java/lang/IllegalStateException", ht, ?_, by decide, by decide, q_123 E.tb, E.tb.get 205 (by decide +kernel) (by decide +kernel), rfl⟩, ?_⟩
      · intro z hz
        rcases List.mem_cons.mp hz with rfl | hz
        · exact Or.inr ⟨by decide, "java/lang/IndexOutOfBoundsException", q_235 E.tb, E.tn ("java/lang/IllegalStateException", "java/lang/IndexOutOfBoundsException") (by decide)⟩
        rcases List.mem_cons.mp hz with rfl | hz
        · exact Or.inr ⟨by decide, "java/lang/UnsupportedOperationException", q_506 E.tb, E.tn ("java/lang/IllegalStateException", "java/lang/UnsupportedOperationException") (by decide)⟩
        exact absurd hz List.not_mem_nil
      · refine J.heap (h' := hc) w1 ?_
        refine j_astore E dL_puts_34 (by decide) ?_
        refine j_sipush (v := -1003) E dL_puts_36 cs_m1003 ?_
        exact j_iret E hr dL_puts_39 ⟨Nat.le_of_ble_eq_true rfl, Nat.le_of_ble_eq_true rfl⟩ ⟨by rw [rc_3 hk], hc, by rw [nx_1 (by rw [hk]; decide)]; exact ⟨gl, G, ad, rfl, K0, hI, I⟩, fun _ _ z => z⟩
  · obtain ⟨rfl, hz, hq⟩ := hp
    refine J.heap (h' := hc1) w2 ?_
    refine j_goto (tgt := 21) E dL_puts_12 (by decide) ?_
    exact j_iret E hr dL_puts_21 ⟨Nat.le_of_ble_eq_true rfl, Nat.le_of_ble_eq_true rfl⟩ ⟨by rw [rc_0 hz], hc1, by rw [nx_0 hz, show bS (p_mount S a mo).1 = bS S from congrArg (fun z => 180 * nn z) ph_mount]; exact hq, fun _ _ z => z⟩
set_option maxHeartbeats 4000000 in
set_option maxRecDepth 100000 in
theorem h_putsR (l : Launch) (D : va_G) (S : St) (a0 : Nat) (hc : AH) (hOk : Ok S (bS S) a0 hc) (a : Int32) (o : Int32) : CtrW l D yL_puts cL_puts 5 (some .int) [(0, 21, 22, 21), (0, 21, 28, 63), (0, 21, 34, 15)] 8 136 5 30 [.ref a0, .int 114, .int a, .int o] hc (fun _ => False) (HM S (p_run S a o) a0) := by
  refine CtrW.of RL rfl (by decide) (Nat.le_of_ble_eq_true rfl) ?_
  intro sz p e s m below meth c E hin hr ht
  obtain ⟨gl, G, ad, rfl, K0, hI, I⟩ := hOk
  refine j_iload_n E dL_puts_0 rfl ?_
  refine j_bipush (v := 109) E dL_puts_1 cb_109 ?_
  refine j_icmp_ne (tgt := 15) E dL_puts_3 (by decide) (fun _ => ?_) (fun q => ((show False from absurd q (by decide))).elim)
  refine j_aload_n E dL_puts_15 rfl ?_
  refine j_iload_n E dL_puts_16 rfl ?_
  refine j_iload_n E dL_puts_17 rfl ?_
  refine j_callVc E (hc := hc) (hr := fun _ => none) (k_run l D S gl G ad hc K0 (bS S) I hI a o) (fun _ _ z => z) (fun _ _ z => nomatch z) (cw_L_60 E ⟨Nat.le_of_ble_eq_true rfl, Nat.le_of_ble_eq_true rfl, Nat.le_of_ble_eq_true rfl, Nat.le_of_ble_eq_true rfl, Nat.le_of_ble_eq_true rfl⟩) (q_534 E.tb) (q_535 E.tb) K0.x0 rfl rfl dL_puts_18 rfl (fun Ex q9 h1 hx w1 w2 => ?_) (fun v18 hc1 h4 hp w2 w3 w4 => ?_)
  · rcases hx with ⟨rfl, hk⟩ | ⟨rfl, hk⟩ | ⟨rfl, hk⟩
    · refine ⟨22, ⟨[], ⟨0, 21, 22, 21⟩, [⟨0, 21, 28, 63⟩, ⟨0, 21, 34, 15⟩], "java/lang/IndexOutOfBoundsException", ht, ?_, by decide, by decide, q_235 E.tb, E.tb.get 269 (by decide +kernel) (by decide +kernel), rfl⟩, ?_⟩
      · intro z hz; cases hz
      · refine J.heap (h' := hc) w1 ?_
        refine j_astore E dL_puts_22 (by decide) ?_
        refine j_sipush (v := -1001) E dL_puts_24 cs_m1001 ?_
        exact j_iret E hr dL_puts_27 ⟨Nat.le_of_ble_eq_true rfl, Nat.le_of_ble_eq_true rfl⟩ ⟨by rw [rc_1 hk], hc, by rw [nx_1 (by rw [hk]; decide)]; exact ⟨gl, G, ad, rfl, K0, hI, I⟩, fun _ _ z => z⟩
    · refine ⟨28, ⟨[⟨0, 21, 22, 21⟩], ⟨0, 21, 28, 63⟩, [⟨0, 21, 34, 15⟩], "java/lang/UnsupportedOperationException", ht, ?_, by decide, by decide, q_506 E.tb, E.tb.get 518 (by decide +kernel) (by decide +kernel), rfl⟩, ?_⟩
      · intro z hz
        rcases List.mem_cons.mp hz with rfl | hz
        · exact Or.inr ⟨by decide, "java/lang/IndexOutOfBoundsException", q_235 E.tb, E.tn ("java/lang/UnsupportedOperationException", "java/lang/IndexOutOfBoundsException") (by decide)⟩
        exact absurd hz List.not_mem_nil
      · refine J.heap (h' := hc) w1 ?_
        refine j_astore E dL_puts_28 (by decide) ?_
        refine j_sipush (v := -1002) E dL_puts_30 cs_m1002 ?_
        exact j_iret E hr dL_puts_33 ⟨Nat.le_of_ble_eq_true rfl, Nat.le_of_ble_eq_true rfl⟩ ⟨by rw [rc_2 hk], hc, by rw [nx_1 (by rw [hk]; decide)]; exact ⟨gl, G, ad, rfl, K0, hI, I⟩, fun _ _ z => z⟩
    · refine ⟨34, ⟨[⟨0, 21, 22, 21⟩, ⟨0, 21, 28, 63⟩], ⟨0, 21, 34, 15⟩, [], "java/lang/IllegalStateException", ht, ?_, by decide, by decide, q_123 E.tb, E.tb.get 205 (by decide +kernel) (by decide +kernel), rfl⟩, ?_⟩
      · intro z hz
        rcases List.mem_cons.mp hz with rfl | hz
        · exact Or.inr ⟨by decide, "java/lang/IndexOutOfBoundsException", q_235 E.tb, E.tn ("java/lang/IllegalStateException", "java/lang/IndexOutOfBoundsException") (by decide)⟩
        rcases List.mem_cons.mp hz with rfl | hz
        · exact Or.inr ⟨by decide, "java/lang/UnsupportedOperationException", q_506 E.tb, E.tn ("java/lang/IllegalStateException", "java/lang/UnsupportedOperationException") (by decide)⟩
        exact absurd hz List.not_mem_nil
      · refine J.heap (h' := hc) w1 ?_
        refine j_astore E dL_puts_34 (by decide) ?_
        refine j_sipush (v := -1003) E dL_puts_36 cs_m1003 ?_
        exact j_iret E hr dL_puts_39 ⟨Nat.le_of_ble_eq_true rfl, Nat.le_of_ble_eq_true rfl⟩ ⟨by rw [rc_3 hk], hc, by rw [nx_1 (by rw [hk]; decide)]; exact ⟨gl, G, ad, rfl, K0, hI, I⟩, fun _ _ z => z⟩
  · obtain ⟨rfl, hz, hq⟩ := hp
    refine J.heap (h' := hc1) w2 ?_
    exact j_iret E hr dL_puts_21 ⟨Nat.le_of_ble_eq_true rfl, Nat.le_of_ble_eq_true rfl⟩ ⟨by rw [rc_0 hz], hc1, by rw [nx_0 hz, show bS (p_run S a o).1 = bS S from congrArg (fun z => 180 * nn z) ph_run]; exact hq, fun _ _ z => z⟩
set_option maxHeartbeats 4000000 in
set_option maxRecDepth 100000 in
theorem h_order (l : Launch) (D : va_G) (S : St) (a0 : Nat) (hc : AH) (hOk : Ok S (bS S) a0 hc) (mo : Int32) (r : Int32) (g : Int32) (w : Int32) : CtrW l D yL_order cL_order 6 (some .int) [(0, 9, 10, 21), (0, 9, 16, 13), (0, 9, 22, 15)] 8 139 11 5062 [.ref a0, .int mo, .int r, .int g, .int w] hc (fun _ => False) (HM S (p_order S mo r g w) a0) := by
  refine CtrW.of RL rfl (by decide) (Nat.le_of_ble_eq_true rfl) ?_
  intro sz p e s m below meth c E hin hr ht
  obtain ⟨gl, G, ad, rfl, K0, hI, I⟩ := hOk
  refine j_aload_n E dL_order_0 rfl ?_
  refine j_iload_n E dL_order_1 rfl ?_
  refine j_iload_n E dL_order_2 rfl ?_
  refine j_iload_n E dL_order_3 rfl ?_
  refine j_iload E dL_order_4 rfl ?_
  refine j_callVc E (hc := hc) (hr := fun _ => none) (k_order l D S gl G ad hc K0 (bS S) I hI mo r g w) (fun _ _ z => z) (fun _ _ z => nomatch z) (cw_L_65 E ⟨Nat.le_of_ble_eq_true rfl, Nat.le_of_ble_eq_true rfl, Nat.le_of_ble_eq_true rfl, Nat.le_of_ble_eq_true rfl, Nat.le_of_ble_eq_true rfl⟩) (q_556 E.tb) (q_557 E.tb) K0.x0 rfl rfl dL_order_6 rfl (fun Ex q9 h1 hx w1 w2 => ?_) (fun v6 hc1 h4 hp w2 w3 w4 => ?_)
  · rcases hx with ⟨rfl, hk⟩ | ⟨rfl, hk⟩ | ⟨rfl, hk⟩
    · refine ⟨10, ⟨[], ⟨0, 9, 10, 21⟩, [⟨0, 9, 16, 13⟩, ⟨0, 9, 22, 15⟩], "java/lang/IndexOutOfBoundsException", ht, ?_, by decide, by decide, q_235 E.tb, E.tb.get 269 (by decide +kernel) (by decide +kernel), rfl⟩, ?_⟩
      · intro z hz; cases hz
      · refine J.heap (h' := hc) w1 ?_
        refine j_astore E dL_order_10 (by decide) ?_
        refine j_sipush (v := -1001) E dL_order_12 cs_m1001 ?_
        exact j_iret E hr dL_order_15 ⟨Nat.le_of_ble_eq_true rfl, Nat.le_of_ble_eq_true rfl⟩ ⟨by rw [rc_1 hk], hc, by rw [nx_1 (by rw [hk]; decide)]; exact ⟨gl, G, ad, rfl, K0, hI, I⟩, fun _ _ z => z⟩
    · refine ⟨16, ⟨[⟨0, 9, 10, 21⟩], ⟨0, 9, 16, 13⟩, [⟨0, 9, 22, 15⟩], "java/lang/IllegalArgumentException", ht, ?_, by decide, by decide, q_122 E.tb, E.tb.get 133 (by decide +kernel) (by decide +kernel), rfl⟩, ?_⟩
      · intro z hz
        rcases List.mem_cons.mp hz with rfl | hz
        · exact Or.inr ⟨by decide, "java/lang/IndexOutOfBoundsException", q_235 E.tb, E.tn ("java/lang/IllegalArgumentException", "java/lang/IndexOutOfBoundsException") (by decide)⟩
        exact absurd hz List.not_mem_nil
      · refine J.heap (h' := hc) w1 ?_
        refine j_astore E dL_order_16 (by decide) ?_
        refine j_sipush (v := -1002) E dL_order_18 cs_m1002 ?_
        exact j_iret E hr dL_order_21 ⟨Nat.le_of_ble_eq_true rfl, Nat.le_of_ble_eq_true rfl⟩ ⟨by rw [rc_2 hk], hc, by rw [nx_1 (by rw [hk]; decide)]; exact ⟨gl, G, ad, rfl, K0, hI, I⟩, fun _ _ z => z⟩
    · refine ⟨22, ⟨[⟨0, 9, 10, 21⟩, ⟨0, 9, 16, 13⟩], ⟨0, 9, 22, 15⟩, [], "java/lang/IllegalStateException", ht, ?_, by decide, by decide, q_123 E.tb, E.tb.get 205 (by decide +kernel) (by decide +kernel), rfl⟩, ?_⟩
      · intro z hz
        rcases List.mem_cons.mp hz with rfl | hz
        · exact Or.inr ⟨by decide, "java/lang/IndexOutOfBoundsException", q_235 E.tb, E.tn ("java/lang/IllegalStateException", "java/lang/IndexOutOfBoundsException") (by decide)⟩
        rcases List.mem_cons.mp hz with rfl | hz
        · exact Or.inr ⟨by decide, "java/lang/IllegalArgumentException", q_122 E.tb, E.tn ("java/lang/IllegalStateException", "java/lang/IllegalArgumentException") (by decide)⟩
        exact absurd hz List.not_mem_nil
      · refine J.heap (h' := hc) w1 ?_
        refine j_astore E dL_order_22 (by decide) ?_
        refine j_sipush (v := -1003) E dL_order_24 cs_m1003 ?_
        exact j_iret E hr dL_order_27 ⟨Nat.le_of_ble_eq_true rfl, Nat.le_of_ble_eq_true rfl⟩ ⟨by rw [rc_3 hk], hc, by rw [nx_1 (by rw [hk]; decide)]; exact ⟨gl, G, ad, rfl, K0, hI, I⟩, fun _ _ z => z⟩
  · obtain ⟨rfl, hz, hq⟩ := hp
    refine J.heap (h' := hc1) w2 ?_
    exact j_iret E hr dL_order_9 ⟨Nat.le_of_ble_eq_true rfl, Nat.le_of_ble_eq_true rfl⟩ ⟨by rw [rc_0 hz], hc1, by rw [nx_0 hz, show bS (p_order S mo r g w).1 = bS S from congrArg (fun z => 180 * nn z) ph_order]; exact hq, fun _ _ z => z⟩
set_option maxHeartbeats 4000000 in
set_option maxRecDepth 100000 in
theorem h_of0 (l : Launch) (D : va_G) (S : St) (a0 : Nat) (hc : AH) (hOk : Ok S (bS S) a0 hc) (x : Int32) : CtrW l D yL_of cL_of 4 (some .long) [(0, 42, 76, 21), (43, 49, 76, 21), (50, 56, 76, 21), (57, 62, 76, 21), (63, 68, 76, 21), (69, 75, 76, 21), (0, 42, 81, 52), (43, 49, 81, 52), (50, 56, 81, 52), (57, 62, 81, 52), (63, 68, 81, 52), (69, 75, 81, 52)] 8 133 2 12 [.ref a0, .int x, .int 0] hc (fun _ => False) (fun r9 h' => r9 = some (.long (rc (p_lacks S x)).toInt64) ∧ hc = h') := by
  refine CtrW.of RL rfl (by decide) (Nat.le_of_ble_eq_true rfl) ?_
  intro sz p e s m below meth c E hin hr ht
  obtain ⟨gl, G, ad, rfl, K0, hI, I⟩ := hOk
  refine j_iload_n E dL_of_0 rfl ?_
  refine j_tableIn (off := 35) (tgt := 36) E dL_of_1 (by decide) (by decide) (by decide) (by decide) ?_
  refine j_aload_n E dL_of_36 rfl ?_
  refine j_iload_n E dL_of_37 rfl ?_
  refine j_callVc E (hc := hc) (hr := fun _ => none) (k_lacks l D S gl G ad hc K0 (bS S) I hI x) (fun _ _ z => z) (fun _ _ z => nomatch z) (cw_L_69 E ⟨Nat.le_of_ble_eq_true rfl, Nat.le_of_ble_eq_true rfl, Nat.le_of_ble_eq_true rfl, Nat.le_of_ble_eq_true rfl, Nat.le_of_ble_eq_true rfl⟩) (q_603 E.tb) (q_604 E.tb) K0.x0 rfl rfl dL_of_38 rfl (fun Ex q9 h1 hx w1 w2 => ?_) (fun v38 hc1 h4 hp w2 w3 w4 => ?_)
  · obtain ⟨rfl, hk⟩ := hx
    · refine ⟨76, ⟨[], ⟨0, 42, 76, 21⟩, [⟨43, 49, 76, 21⟩, ⟨50, 56, 76, 21⟩, ⟨57, 62, 76, 21⟩, ⟨63, 68, 76, 21⟩, ⟨69, 75, 76, 21⟩, ⟨0, 42, 81, 52⟩, ⟨43, 49, 81, 52⟩, ⟨50, 56, 81, 52⟩, ⟨57, 62, 81, 52⟩, ⟨63, 68, 81, 52⟩, ⟨69, 75, 81, 52⟩], "java/lang/IndexOutOfBoundsException", ht, ?_, by decide, by decide, q_235 E.tb, E.tb.get 269 (by decide +kernel) (by decide +kernel), rfl⟩, ?_⟩
      · intro z hz; cases hz
      · refine J.heap (h' := hc) w1 ?_
        refine j_astore_n E dL_of_76 (by decide) ?_
        refine j_ldc2 E (q_638 E.tb) dL_of_77 ?_
        exact j_lret E hr dL_of_80 ⟨Nat.le_of_ble_eq_true rfl, Nat.le_of_ble_eq_true rfl⟩ ⟨by rw [rc_1 hk, em1], rfl⟩
  · obtain ⟨rfl, hz, rfl⟩ := hp
    refine J.heap (h' := hc) w2 ?_
    refine j_i2l E dL_of_41 ?_
    exact j_lret E hr dL_of_42 ⟨Nat.le_of_ble_eq_true rfl, Nat.le_of_ble_eq_true rfl⟩ ⟨by rw [rc_0 hz], rfl⟩
set_option maxHeartbeats 4000000 in
set_option maxRecDepth 100000 in
theorem h_of1 (l : Launch) (D : va_G) (S : St) (a0 : Nat) (hc : AH) (hOk : Ok S (bS S) a0 hc) (x : Int32) : CtrW l D yL_of cL_of 4 (some .long) [(0, 42, 76, 21), (43, 49, 76, 21), (50, 56, 76, 21), (57, 62, 76, 21), (63, 68, 76, 21), (69, 75, 76, 21), (0, 42, 81, 52), (43, 49, 81, 52), (50, 56, 81, 52), (57, 62, 81, 52), (63, 68, 81, 52), (69, 75, 81, 52)] 8 135 3 18 [.ref a0, .int x, .int 1] hc (fun _ => False) (fun r9 h' => r9 = some (.long (rc (p_hoursNeeded S x)).toInt64) ∧ hc = h') := by
  refine CtrW.of RL rfl (by decide) (Nat.le_of_ble_eq_true rfl) ?_
  intro sz p e s m below meth c E hin hr ht
  obtain ⟨gl, G, ad, rfl, K0, hI, I⟩ := hOk
  refine j_iload_n E dL_of_0 rfl ?_
  refine j_tableIn (off := 42) (tgt := 43) E dL_of_1 (by decide) (by decide) (by decide) (by decide) ?_
  refine j_aload_n E dL_of_43 rfl ?_
  refine j_iload_n E dL_of_44 rfl ?_
  refine j_callVc E (hc := hc) (hr := fun _ => none) (k_hoursNeeded l D S gl G ad hc K0 (bS S) I hI x) (fun _ _ z => z) (fun _ _ z => nomatch z) (cw_L_72 E ⟨Nat.le_of_ble_eq_true rfl, Nat.le_of_ble_eq_true rfl, Nat.le_of_ble_eq_true rfl, Nat.le_of_ble_eq_true rfl, Nat.le_of_ble_eq_true rfl⟩) (q_607 E.tb) (q_608 E.tb) K0.x0 rfl rfl dL_of_45 rfl (fun Ex q9 h1 hx w1 w2 => ?_) (fun v45 hc1 h4 hp w2 w3 w4 => ?_)
  · rcases hx with ⟨rfl, hk⟩ | ⟨rfl, hk⟩
    · refine ⟨76, ⟨[⟨0, 42, 76, 21⟩], ⟨43, 49, 76, 21⟩, [⟨50, 56, 76, 21⟩, ⟨57, 62, 76, 21⟩, ⟨63, 68, 76, 21⟩, ⟨69, 75, 76, 21⟩, ⟨0, 42, 81, 52⟩, ⟨43, 49, 81, 52⟩, ⟨50, 56, 81, 52⟩, ⟨57, 62, 81, 52⟩, ⟨63, 68, 81, 52⟩, ⟨69, 75, 81, 52⟩], "java/lang/IndexOutOfBoundsException", ht, ?_, by decide, by decide, q_235 E.tb, E.tb.get 269 (by decide +kernel) (by decide +kernel), rfl⟩, ?_⟩
      · intro z hz
        rcases List.mem_cons.mp hz with rfl | hz
        · exact Or.inl (by decide)
        exact absurd hz List.not_mem_nil
      · refine J.heap (h' := hc) w1 ?_
        refine j_astore_n E dL_of_76 (by decide) ?_
        refine j_ldc2 E (q_638 E.tb) dL_of_77 ?_
        exact j_lret E hr dL_of_80 ⟨Nat.le_of_ble_eq_true rfl, Nat.le_of_ble_eq_true rfl⟩ ⟨by rw [rc_1 hk, em1], rfl⟩
    · refine ⟨81, ⟨[⟨0, 42, 76, 21⟩, ⟨43, 49, 76, 21⟩, ⟨50, 56, 76, 21⟩, ⟨57, 62, 76, 21⟩, ⟨63, 68, 76, 21⟩, ⟨69, 75, 76, 21⟩, ⟨0, 42, 81, 52⟩], ⟨43, 49, 81, 52⟩, [⟨50, 56, 81, 52⟩, ⟨57, 62, 81, 52⟩, ⟨63, 68, 81, 52⟩, ⟨69, 75, 81, 52⟩], "java/util/NoSuchElementException", ht, ?_, by decide, by decide, q_443 E.tb, E.tb.get 465 (by decide +kernel) (by decide +kernel), rfl⟩, ?_⟩
      · intro z hz
        rcases List.mem_cons.mp hz with rfl | hz
        · exact Or.inl (by decide)
        rcases List.mem_cons.mp hz with rfl | hz
        · exact Or.inr ⟨by decide, "java/lang/IndexOutOfBoundsException", q_235 E.tb, E.tn ("java/util/NoSuchElementException", "java/lang/IndexOutOfBoundsException") (by decide)⟩
        rcases List.mem_cons.mp hz with rfl | hz
        · exact Or.inl (by decide)
        rcases List.mem_cons.mp hz with rfl | hz
        · exact Or.inl (by decide)
        rcases List.mem_cons.mp hz with rfl | hz
        · exact Or.inl (by decide)
        rcases List.mem_cons.mp hz with rfl | hz
        · exact Or.inl (by decide)
        rcases List.mem_cons.mp hz with rfl | hz
        · exact Or.inl (by decide)
        exact absurd hz List.not_mem_nil
      · refine J.heap (h' := hc) w1 ?_
        refine j_astore_n E dL_of_81 (by decide) ?_
        refine j_ldc2 E (q_639 E.tb) dL_of_82 ?_
        exact j_lret E hr dL_of_85 ⟨Nat.le_of_ble_eq_true rfl, Nat.le_of_ble_eq_true rfl⟩ ⟨by rw [rc_2 hk, em2], rfl⟩
  · obtain ⟨rfl, hz, rfl⟩ := hp
    refine J.heap (h' := hc) w2 ?_
    refine j_i2l E dL_of_48 ?_
    exact j_lret E hr dL_of_49 ⟨Nat.le_of_ble_eq_true rfl, Nat.le_of_ble_eq_true rfl⟩ ⟨by rw [rc_0 hz], rfl⟩
set_option maxHeartbeats 4000000 in
set_option maxRecDepth 100000 in
theorem h_of2 (l : Launch) (D : va_G) (S : St) (a0 : Nat) (hc : AH) (hOk : Ok S (bS S) a0 hc) (x : Int32) : CtrW l D yL_of cL_of 4 (some .long) [(0, 42, 76, 21), (43, 49, 76, 21), (50, 56, 76, 21), (57, 62, 76, 21), (63, 68, 76, 21), (69, 75, 76, 21), (0, 42, 81, 52), (43, 49, 81, 52), (50, 56, 81, 52), (57, 62, 81, 52), (63, 68, 81, 52), (69, 75, 81, 52)] 8 133 2 12 [.ref a0, .int x, .int 2] hc (fun _ => False) (fun r9 h' => r9 = some (.long (rc (p_shots S x)).toInt64) ∧ hc = h') := by
  refine CtrW.of RL rfl (by decide) (Nat.le_of_ble_eq_true rfl) ?_
  intro sz p e s m below meth c E hin hr ht
  obtain ⟨gl, G, ad, rfl, K0, hI, I⟩ := hOk
  refine j_iload_n E dL_of_0 rfl ?_
  refine j_tableIn (off := 49) (tgt := 50) E dL_of_1 (by decide) (by decide) (by decide) (by decide) ?_
  refine j_aload_n E dL_of_50 rfl ?_
  refine j_iload_n E dL_of_51 rfl ?_
  refine j_callVc E (hc := hc) (hr := fun _ => none) (k_shots l D S gl G ad hc K0 (bS S) I hI x) (fun _ _ z => z) (fun _ _ z => nomatch z) (cw_L_75 E ⟨Nat.le_of_ble_eq_true rfl, Nat.le_of_ble_eq_true rfl, Nat.le_of_ble_eq_true rfl, Nat.le_of_ble_eq_true rfl, Nat.le_of_ble_eq_true rfl⟩) (q_615 E.tb) (q_616 E.tb) K0.x0 rfl rfl dL_of_52 rfl (fun Ex q9 h1 hx w1 w2 => ?_) (fun v52 hc1 h4 hp w2 w3 w4 => ?_)
  · obtain ⟨rfl, hk⟩ := hx
    · refine ⟨76, ⟨[⟨0, 42, 76, 21⟩, ⟨43, 49, 76, 21⟩], ⟨50, 56, 76, 21⟩, [⟨57, 62, 76, 21⟩, ⟨63, 68, 76, 21⟩, ⟨69, 75, 76, 21⟩, ⟨0, 42, 81, 52⟩, ⟨43, 49, 81, 52⟩, ⟨50, 56, 81, 52⟩, ⟨57, 62, 81, 52⟩, ⟨63, 68, 81, 52⟩, ⟨69, 75, 81, 52⟩], "java/lang/IndexOutOfBoundsException", ht, ?_, by decide, by decide, q_235 E.tb, E.tb.get 269 (by decide +kernel) (by decide +kernel), rfl⟩, ?_⟩
      · intro z hz
        rcases List.mem_cons.mp hz with rfl | hz
        · exact Or.inl (by decide)
        rcases List.mem_cons.mp hz with rfl | hz
        · exact Or.inl (by decide)
        exact absurd hz List.not_mem_nil
      · refine J.heap (h' := hc) w1 ?_
        refine j_astore_n E dL_of_76 (by decide) ?_
        refine j_ldc2 E (q_638 E.tb) dL_of_77 ?_
        exact j_lret E hr dL_of_80 ⟨Nat.le_of_ble_eq_true rfl, Nat.le_of_ble_eq_true rfl⟩ ⟨by rw [rc_1 hk, em1], rfl⟩
  · obtain ⟨rfl, hz, rfl⟩ := hp
    refine J.heap (h' := hc) w2 ?_
    refine j_i2l E dL_of_55 ?_
    exact j_lret E hr dL_of_56 ⟨Nat.le_of_ble_eq_true rfl, Nat.le_of_ble_eq_true rfl⟩ ⟨by rw [rc_0 hz], rfl⟩
set_option maxHeartbeats 4000000 in
set_option maxRecDepth 100000 in
theorem h_of3 (l : Launch) (D : va_G) (S : St) (a0 : Nat) (hc : AH) (hOk : Ok S (bS S) a0 hc) (x : Int32) : CtrW l D yL_of cL_of 4 (some .long) [(0, 42, 76, 21), (43, 49, 76, 21), (50, 56, 76, 21), (57, 62, 76, 21), (63, 68, 76, 21), (69, 75, 76, 21), (0, 42, 81, 52), (43, 49, 81, 52), (50, 56, 81, 52), (57, 62, 81, 52), (63, 68, 81, 52), (69, 75, 81, 52)] 8 133 2 12 [.ref a0, .int x, .int 3] hc (fun _ => False) (fun r9 h' => r9 = some (.long (rcL (p_regrindIn S x))) ∧ hc = h') := by
  refine CtrW.of RL rfl (by decide) (Nat.le_of_ble_eq_true rfl) ?_
  intro sz p e s m below meth c E hin hr ht
  obtain ⟨gl, G, ad, rfl, K0, hI, I⟩ := hOk
  refine j_iload_n E dL_of_0 rfl ?_
  refine j_tableIn (off := 56) (tgt := 57) E dL_of_1 (by decide) (by decide) (by decide) (by decide) ?_
  refine j_aload_n E dL_of_57 rfl ?_
  refine j_iload_n E dL_of_58 rfl ?_
  refine j_callVc E (hc := hc) (hr := fun _ => none) (k_regrindIn l D S gl G ad hc K0 (bS S) I hI x) (fun _ _ z => z) (fun _ _ z => nomatch z) (cw_L_78 E ⟨Nat.le_of_ble_eq_true rfl, Nat.le_of_ble_eq_true rfl, Nat.le_of_ble_eq_true rfl, Nat.le_of_ble_eq_true rfl, Nat.le_of_ble_eq_true rfl⟩) (q_619 E.tb) (q_620 E.tb) K0.x0 rfl rfl dL_of_59 rfl (fun Ex q9 h1 hx w1 w2 => ?_) (fun v59 hc1 h4 hp w2 w3 w4 => ?_)
  · obtain ⟨rfl, hk⟩ := hx
    · refine ⟨76, ⟨[⟨0, 42, 76, 21⟩, ⟨43, 49, 76, 21⟩, ⟨50, 56, 76, 21⟩], ⟨57, 62, 76, 21⟩, [⟨63, 68, 76, 21⟩, ⟨69, 75, 76, 21⟩, ⟨0, 42, 81, 52⟩, ⟨43, 49, 81, 52⟩, ⟨50, 56, 81, 52⟩, ⟨57, 62, 81, 52⟩, ⟨63, 68, 81, 52⟩, ⟨69, 75, 81, 52⟩], "java/lang/IndexOutOfBoundsException", ht, ?_, by decide, by decide, q_235 E.tb, E.tb.get 269 (by decide +kernel) (by decide +kernel), rfl⟩, ?_⟩
      · intro z hz
        rcases List.mem_cons.mp hz with rfl | hz
        · exact Or.inl (by decide)
        rcases List.mem_cons.mp hz with rfl | hz
        · exact Or.inl (by decide)
        rcases List.mem_cons.mp hz with rfl | hz
        · exact Or.inl (by decide)
        exact absurd hz List.not_mem_nil
      · refine J.heap (h' := hc) w1 ?_
        refine j_astore_n E dL_of_76 (by decide) ?_
        refine j_ldc2 E (q_638 E.tb) dL_of_77 ?_
        exact j_lret E hr dL_of_80 ⟨Nat.le_of_ble_eq_true rfl, Nat.le_of_ble_eq_true rfl⟩ ⟨by rw [rcL_1 hk], rfl⟩
  · obtain ⟨rfl, hz, rfl⟩ := hp
    refine J.heap (h' := hc) w2 ?_
    exact j_lret E hr dL_of_62 ⟨Nat.le_of_ble_eq_true rfl, Nat.le_of_ble_eq_true rfl⟩ ⟨by rw [rcL_0 hz], rfl⟩
set_option maxHeartbeats 4000000 in
set_option maxRecDepth 100000 in
theorem h_of4 (l : Launch) (D : va_G) (S : St) (a0 : Nat) (hc : AH) (hOk : Ok S (bS S) a0 hc) (x : Int32) : CtrW l D yL_of cL_of 4 (some .long) [(0, 42, 76, 21), (43, 49, 76, 21), (50, 56, 76, 21), (57, 62, 76, 21), (63, 68, 76, 21), (69, 75, 76, 21), (0, 42, 81, 52), (43, 49, 81, 52), (50, 56, 81, 52), (57, 62, 81, 52), (63, 68, 81, 52), (69, 75, 81, 52)] 8 133 2 12 [.ref a0, .int x, .int 4] hc (fun _ => False) (fun r9 h' => r9 = some (.long (rcL (p_regrindIn S x))) ∧ hc = h') := by
  refine CtrW.of RL rfl (by decide) (Nat.le_of_ble_eq_true rfl) ?_
  intro sz p e s m below meth c E hin hr ht
  obtain ⟨gl, G, ad, rfl, K0, hI, I⟩ := hOk
  refine j_iload_n E dL_of_0 rfl ?_
  refine j_tableIn (off := 62) (tgt := 63) E dL_of_1 (by decide) (by decide) (by decide) (by decide) ?_
  refine j_aload_n E dL_of_63 rfl ?_
  refine j_iload_n E dL_of_64 rfl ?_
  refine j_callVc E (hc := hc) (hr := fun _ => none) (k_regrindByShots l D S gl G ad hc K0 (bS S) I hI x) (fun _ _ z => z) (fun _ _ z => nomatch z) (cw_L_82 E ⟨Nat.le_of_ble_eq_true rfl, Nat.le_of_ble_eq_true rfl, Nat.le_of_ble_eq_true rfl, Nat.le_of_ble_eq_true rfl, Nat.le_of_ble_eq_true rfl⟩) (q_623 E.tb) (q_624 E.tb) K0.x0 rfl rfl dL_of_65 rfl (fun Ex q9 h1 hx w1 w2 => ?_) (fun v65 hc1 h4 hp w2 w3 w4 => ?_)
  · obtain ⟨rfl, hk⟩ := hx
    · refine ⟨76, ⟨[⟨0, 42, 76, 21⟩, ⟨43, 49, 76, 21⟩, ⟨50, 56, 76, 21⟩, ⟨57, 62, 76, 21⟩], ⟨63, 68, 76, 21⟩, [⟨69, 75, 76, 21⟩, ⟨0, 42, 81, 52⟩, ⟨43, 49, 81, 52⟩, ⟨50, 56, 81, 52⟩, ⟨57, 62, 81, 52⟩, ⟨63, 68, 81, 52⟩, ⟨69, 75, 81, 52⟩], "java/lang/IndexOutOfBoundsException", ht, ?_, by decide, by decide, q_235 E.tb, E.tb.get 269 (by decide +kernel) (by decide +kernel), rfl⟩, ?_⟩
      · intro z hz
        rcases List.mem_cons.mp hz with rfl | hz
        · exact Or.inl (by decide)
        rcases List.mem_cons.mp hz with rfl | hz
        · exact Or.inl (by decide)
        rcases List.mem_cons.mp hz with rfl | hz
        · exact Or.inl (by decide)
        rcases List.mem_cons.mp hz with rfl | hz
        · exact Or.inl (by decide)
        exact absurd hz List.not_mem_nil
      · refine J.heap (h' := hc) w1 ?_
        refine j_astore_n E dL_of_76 (by decide) ?_
        refine j_ldc2 E (q_638 E.tb) dL_of_77 ?_
        exact j_lret E hr dL_of_80 ⟨Nat.le_of_ble_eq_true rfl, Nat.le_of_ble_eq_true rfl⟩ ⟨by rw [rcL_1 hk], rfl⟩
  · obtain ⟨rfl, hz, rfl⟩ := hp
    refine J.heap (h' := hc) w2 ?_
    exact j_lret E hr dL_of_68 ⟨Nat.le_of_ble_eq_true rfl, Nat.le_of_ble_eq_true rfl⟩ ⟨by rw [rcL_0 hz], rfl⟩
set_option maxHeartbeats 4000000 in
set_option maxRecDepth 100000 in
theorem h_of5 (l : Launch) (D : va_G) (S : St) (a0 : Nat) (hc : AH) (hOk : Ok S (bS S) a0 hc) (x : Int32) : CtrW l D yL_of cL_of 4 (some .long) [(0, 42, 76, 21), (43, 49, 76, 21), (50, 56, 76, 21), (57, 62, 76, 21), (63, 68, 76, 21), (69, 75, 76, 21), (0, 42, 81, 52), (43, 49, 81, 52), (50, 56, 81, 52), (57, 62, 81, 52), (63, 68, 81, 52), (69, 75, 81, 52)] 8 134 3 18 [.ref a0, .int x, .int 5] hc (fun _ => False) (fun r9 h' => r9 = some (.long (rc (p_greatestShare S x)).toInt64) ∧ hc = h') := by
  refine CtrW.of RL rfl (by decide) (Nat.le_of_ble_eq_true rfl) ?_
  intro sz p e s m below meth c E hin hr ht
  obtain ⟨gl, G, ad, rfl, K0, hI, I⟩ := hOk
  refine j_iload_n E dL_of_0 rfl ?_
  refine j_tableOut (tgt := 69) E dL_of_1 (Or.inr (by decide)) (by decide) ?_
  refine j_aload_n E dL_of_69 rfl ?_
  refine j_iload_n E dL_of_70 rfl ?_
  refine j_callVc E (hc := hc) (hr := fun _ => none) (k_greatestShare l D S gl G ad hc K0 (bS S) I hI x) (fun _ _ z => z) (fun _ _ z => nomatch z) (cw_L_85 E ⟨Nat.le_of_ble_eq_true rfl, Nat.le_of_ble_eq_true rfl, Nat.le_of_ble_eq_true rfl, Nat.le_of_ble_eq_true rfl, Nat.le_of_ble_eq_true rfl⟩) (q_634 E.tb) (q_635 E.tb) K0.x0 rfl rfl dL_of_71 rfl (fun Ex q9 h1 hx w1 w2 => ?_) (fun v71 hc1 h4 hp w2 w3 w4 => ?_)
  · rcases hx with ⟨rfl, hk⟩ | ⟨rfl, hk⟩
    · refine ⟨76, ⟨[⟨0, 42, 76, 21⟩, ⟨43, 49, 76, 21⟩, ⟨50, 56, 76, 21⟩, ⟨57, 62, 76, 21⟩, ⟨63, 68, 76, 21⟩], ⟨69, 75, 76, 21⟩, [⟨0, 42, 81, 52⟩, ⟨43, 49, 81, 52⟩, ⟨50, 56, 81, 52⟩, ⟨57, 62, 81, 52⟩, ⟨63, 68, 81, 52⟩, ⟨69, 75, 81, 52⟩], "java/lang/IndexOutOfBoundsException", ht, ?_, by decide, by decide, q_235 E.tb, E.tb.get 269 (by decide +kernel) (by decide +kernel), rfl⟩, ?_⟩
      · intro z hz
        rcases List.mem_cons.mp hz with rfl | hz
        · exact Or.inl (by decide)
        rcases List.mem_cons.mp hz with rfl | hz
        · exact Or.inl (by decide)
        rcases List.mem_cons.mp hz with rfl | hz
        · exact Or.inl (by decide)
        rcases List.mem_cons.mp hz with rfl | hz
        · exact Or.inl (by decide)
        rcases List.mem_cons.mp hz with rfl | hz
        · exact Or.inl (by decide)
        exact absurd hz List.not_mem_nil
      · refine J.heap (h' := hc) w1 ?_
        refine j_astore_n E dL_of_76 (by decide) ?_
        refine j_ldc2 E (q_638 E.tb) dL_of_77 ?_
        exact j_lret E hr dL_of_80 ⟨Nat.le_of_ble_eq_true rfl, Nat.le_of_ble_eq_true rfl⟩ ⟨by rw [rc_1 hk, em1], rfl⟩
    · refine ⟨81, ⟨[⟨0, 42, 76, 21⟩, ⟨43, 49, 76, 21⟩, ⟨50, 56, 76, 21⟩, ⟨57, 62, 76, 21⟩, ⟨63, 68, 76, 21⟩, ⟨69, 75, 76, 21⟩, ⟨0, 42, 81, 52⟩, ⟨43, 49, 81, 52⟩, ⟨50, 56, 81, 52⟩, ⟨57, 62, 81, 52⟩, ⟨63, 68, 81, 52⟩], ⟨69, 75, 81, 52⟩, [], "java/util/NoSuchElementException", ht, ?_, by decide, by decide, q_443 E.tb, E.tb.get 465 (by decide +kernel) (by decide +kernel), rfl⟩, ?_⟩
      · intro z hz
        rcases List.mem_cons.mp hz with rfl | hz
        · exact Or.inl (by decide)
        rcases List.mem_cons.mp hz with rfl | hz
        · exact Or.inl (by decide)
        rcases List.mem_cons.mp hz with rfl | hz
        · exact Or.inl (by decide)
        rcases List.mem_cons.mp hz with rfl | hz
        · exact Or.inl (by decide)
        rcases List.mem_cons.mp hz with rfl | hz
        · exact Or.inl (by decide)
        rcases List.mem_cons.mp hz with rfl | hz
        · exact Or.inr ⟨by decide, "java/lang/IndexOutOfBoundsException", q_235 E.tb, E.tn ("java/util/NoSuchElementException", "java/lang/IndexOutOfBoundsException") (by decide)⟩
        rcases List.mem_cons.mp hz with rfl | hz
        · exact Or.inl (by decide)
        rcases List.mem_cons.mp hz with rfl | hz
        · exact Or.inl (by decide)
        rcases List.mem_cons.mp hz with rfl | hz
        · exact Or.inl (by decide)
        rcases List.mem_cons.mp hz with rfl | hz
        · exact Or.inl (by decide)
        rcases List.mem_cons.mp hz with rfl | hz
        · exact Or.inl (by decide)
        exact absurd hz List.not_mem_nil
      · refine J.heap (h' := hc) w1 ?_
        refine j_astore_n E dL_of_81 (by decide) ?_
        refine j_ldc2 E (q_639 E.tb) dL_of_82 ?_
        exact j_lret E hr dL_of_85 ⟨Nat.le_of_ble_eq_true rfl, Nat.le_of_ble_eq_true rfl⟩ ⟨by rw [rc_2 hk, em2], rfl⟩
  · obtain ⟨rfl, hz, rfl⟩ := hp
    refine J.heap (h' := hc) w2 ?_
    refine j_i2l E dL_of_74 ?_
    exact j_lret E hr dL_of_75 ⟨Nat.le_of_ble_eq_true rfl, Nat.le_of_ble_eq_true rfl⟩ ⟨by rw [rc_0 hz], rfl⟩
set_option maxHeartbeats 4000000 in
set_option maxRecDepth 100000 in
theorem h_pass (l : Launch) (D : va_G) (S : St) (a0 : Nat) (hc : AH) (hOk : Ok S (bS S) a0 hc) (x : Int32) : CtrW l D yL_pass cL_pass 3 (some .int) [(0, 5, 6, 13), (0, 5, 11, 15)] 8 188 3 18 [.ref a0, .int x] hc (fun _ => False) (HM S (p_pass S x) a0) := by
  refine CtrW.of RL rfl (by decide) (Nat.le_of_ble_eq_true rfl) ?_
  intro sz p e s m below meth c E hin hr ht
  obtain ⟨gl, G, ad, rfl, K0, hI, I⟩ := hOk
  refine j_aload_n E dL_pass_0 rfl ?_
  refine j_iload_n E dL_pass_1 rfl ?_
  refine j_callVc E (hc := hc) (hr := fun _ => none) (k_pass l D S gl G ad hc K0 I.cnt (bS S) I (by have := I.hrs.2.2; show 180 * nn (S.1 0 5 0) + 4500 < 1000000; omega) hI x) (fun _ _ z => z) (fun _ _ z => nomatch z) (cw_L_92 E ⟨Nat.le_of_ble_eq_true rfl, Nat.le_of_ble_eq_true rfl, Nat.le_of_ble_eq_true rfl, Nat.le_of_ble_eq_true rfl, Nat.le_of_ble_eq_true rfl⟩) (q_644 E.tb) (q_645 E.tb) K0.x0 rfl rfl dL_pass_2 rfl (fun Ex q9 h1 hx w1 w2 => ?_) (fun v2 hc1 h4 hp w2 w3 w4 => ?_)
  · rcases hx with ⟨rfl, hk⟩ | ⟨rfl, hk⟩
    · refine ⟨6, ⟨[], ⟨0, 5, 6, 13⟩, [⟨0, 5, 11, 15⟩], "java/lang/IllegalArgumentException", ht, ?_, by decide, by decide, q_122 E.tb, E.tb.get 133 (by decide +kernel) (by decide +kernel), rfl⟩, ?_⟩
      · intro z hz; cases hz
      · refine J.heap (h' := hc) w1 ?_
        refine j_astore_n E dL_pass_6 (by decide) ?_
        refine j_sipush (v := -1001) E dL_pass_7 cs_m1001 ?_
        exact j_iret E hr dL_pass_10 ⟨Nat.le_of_ble_eq_true rfl, Nat.le_of_ble_eq_true rfl⟩ ⟨by rw [rc_1 hk], hc, by rw [nx_1 (by rw [hk]; decide)]; exact ⟨gl, G, ad, rfl, K0, hI, I⟩, fun _ _ z => z⟩
    · refine ⟨11, ⟨[⟨0, 5, 6, 13⟩], ⟨0, 5, 11, 15⟩, [], "java/lang/IllegalStateException", ht, ?_, by decide, by decide, q_123 E.tb, E.tb.get 205 (by decide +kernel) (by decide +kernel), rfl⟩, ?_⟩
      · intro z hz
        rcases List.mem_cons.mp hz with rfl | hz
        · exact Or.inr ⟨by decide, "java/lang/IllegalArgumentException", q_122 E.tb, E.tn ("java/lang/IllegalStateException", "java/lang/IllegalArgumentException") (by decide)⟩
        exact absurd hz List.not_mem_nil
      · refine J.heap (h' := hc) w1 ?_
        refine j_astore_n E dL_pass_11 (by decide) ?_
        refine j_sipush (v := -1002) E dL_pass_12 cs_m1002 ?_
        exact j_iret E hr dL_pass_15 ⟨Nat.le_of_ble_eq_true rfl, Nat.le_of_ble_eq_true rfl⟩ ⟨by rw [rc_2 hk], hc, by rw [nx_1 (by rw [hk]; decide)]; exact ⟨gl, G, ad, rfl, K0, hI, I⟩, fun _ _ z => z⟩
  · obtain ⟨rfl, hz, ad9, G9, z1, z2, z3, z4⟩ := hp
    refine J.heap (h' := hc1) w2 ?_
    exact j_iret E hr dL_pass_5 ⟨Nat.le_of_ble_eq_true rfl, Nat.le_of_ble_eq_true rfl⟩ ⟨by rw [rc_0 hz], hc1, by rw [nx_0 hz]; exact ⟨gl, G9, ad9, z3 0 0 0 (by decide), z1, z2, by show Inv _ (180 * nn _); rw [pass_h I.hrs hz, Nat.mul_add]; exact z4⟩, fun _ _ z => z⟩
set_option maxHeartbeats 4000000 in
set_option maxRecDepth 100000 in
theorem h_share (l : Launch) (D : va_G) (S : St) (a0 : Nat) (hc : AH) (hOk : Ok S (bS S) a0 hc)  : CtrW l D yL_share cL_share 2 (some .float) [(0, 4, 5, 99)] 7 110 2 12 [.ref a0] hc (fun _ => False) (fun r9 h' => r9 = some (.float (shV S)) ∧ hc = h') := by
  refine CtrW.of RL rfl (by decide) (Nat.le_of_ble_eq_true rfl) ?_
  intro sz p e s m below meth c E hin hr ht
  obtain ⟨gl, G, ad, rfl, K0, hI, I⟩ := hOk
  refine j_aload_n E dL_share_0 rfl ?_
  refine j_callVc E (hc := hc) (hr := fun _ => none) (k_regrindShare l D S gl G ad hc K0 (bS S) I hI (by have := I.hrs.2.2; show 180 * nn (S.1 0 5 0) < 1000000; omega)) (fun _ _ z => z) (fun _ _ z => nomatch z) (cw_L_95 E ⟨Nat.le_of_ble_eq_true rfl, Nat.le_of_ble_eq_true rfl, Nat.le_of_ble_eq_true rfl, Nat.le_of_ble_eq_true rfl, Nat.le_of_ble_eq_true rfl⟩) (q_714 E.tb) (q_715 E.tb) K0.x0 rfl rfl dL_share_1 rfl (fun Ex q9 h1 hx w1 w2 => ?_) (fun v1 hc1 h4 hp w2 w3 w4 => ?_)
  · obtain ⟨rfl, hk⟩ := hx
    · refine ⟨5, ⟨[], ⟨0, 4, 5, 99⟩, [], "java/lang/ArithmeticException", ht, ?_, by decide, by decide, q_699 E.tb, E.tb.get 711 (by decide +kernel) (by decide +kernel), rfl⟩, ?_⟩
      · intro z hz; cases hz
      · refine J.heap (h' := hc) w1 ?_
        refine j_astore_n E dL_share_5 (by decide) ?_
        refine j_ldcf E (q_720 E.tb) dL_share_6 ?_
        exact j_fret E hr dL_share_8 ⟨Nat.le_of_ble_eq_true rfl, Nat.le_of_ble_eq_true rfl⟩ ⟨by unfold shV; rw [if_neg (by rw [hk]; decide)], rfl⟩
  · obtain ⟨rfl, hz, rfl⟩ := hp
    refine J.heap (h' := hc) w2 ?_
    exact j_fret E hr dL_share_4 ⟨Nat.le_of_ble_eq_true rfl, Nat.le_of_ble_eq_true rfl⟩ ⟨by unfold shV; rw [if_pos hz], rfl⟩
set_option maxHeartbeats 4000000 in
set_option maxRecDepth 100000 in
theorem h_mean (l : Launch) (D : va_G) (S : St) (a0 : Nat) (hc : AH) (hOk : Ok S (bS S) a0 hc)  : CtrW l D yL_mean cL_mean 2 (some .double) [(0, 4, 5, 99)] 7 110 2 12 [.ref a0] hc (fun _ => False) (fun r9 h' => r9 = some (.double (meV S)) ∧ hc = h') := by
  refine CtrW.of RL rfl (by decide) (Nat.le_of_ble_eq_true rfl) ?_
  intro sz p e s m below meth c E hin hr ht
  obtain ⟨gl, G, ad, rfl, K0, hI, I⟩ := hOk
  refine j_aload_n E dL_mean_0 rfl ?_
  refine j_callVc E (hc := hc) (hr := fun _ => none) (k_meanParts l D S gl G ad hc K0 (bS S) I hI (by have := I.hrs.2.2; show 180 * nn (S.1 0 5 0) < 1000000; omega)) (fun _ _ z => z) (fun _ _ z => nomatch z) (cw_L_102 E ⟨Nat.le_of_ble_eq_true rfl, Nat.le_of_ble_eq_true rfl, Nat.le_of_ble_eq_true rfl, Nat.le_of_ble_eq_true rfl, Nat.le_of_ble_eq_true rfl⟩) (q_725 E.tb) (q_726 E.tb) K0.x0 rfl rfl dL_mean_1 rfl (fun Ex q9 h1 hx w1 w2 => ?_) (fun v1 hc1 h4 hp w2 w3 w4 => ?_)
  · obtain ⟨rfl, hk⟩ := hx
    · refine ⟨5, ⟨[], ⟨0, 4, 5, 99⟩, [], "java/lang/ArithmeticException", ht, ?_, by decide, by decide, q_699 E.tb, E.tb.get 711 (by decide +kernel) (by decide +kernel), rfl⟩, ?_⟩
      · intro z hz; cases hz
      · refine J.heap (h' := hc) w1 ?_
        refine j_astore_n E dL_mean_5 (by decide) ?_
        refine j_ldc2d E (q_728 E.tb) dL_mean_6 ?_
        exact j_dret E hr dL_mean_9 ⟨Nat.le_of_ble_eq_true rfl, Nat.le_of_ble_eq_true rfl⟩ ⟨by unfold meV; rw [if_neg (by rw [hk]; decide)], rfl⟩
  · obtain ⟨rfl, hz, rfl⟩ := hp
    refine J.heap (h' := hc) w2 ?_
    exact j_dret E hr dL_mean_4 ⟨Nat.le_of_ble_eq_true rfl, Nat.le_of_ble_eq_true rfl⟩ ⟨by unfold meV; rw [if_pos hz], rfl⟩
