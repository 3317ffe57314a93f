/-! the class: cavities, the dryer -/
theorem s1_id {S : St} {c i j : Nat} {v : Int32} (h : S.1 c i j = v) : s1 S c i j v = S := by
  refine Prod.ext ?_ rfl
  funext c' i' j'
  show (if c' = c ∧ i' = i ∧ j' = j then v else S.1 c' i' j') = _
  by_cases q : c' = c ∧ i' = i ∧ j' = j
  · obtain ⟨rfl, rfl, rfl⟩ := q
    rw [if_pos ⟨rfl, rfl, rfl⟩, h]
  · rw [if_neg q]
def B01 (S : St) : Prop := ∀ k j, S.1 11 k j = 0 ∨ S.1 11 k j = 1
theorem b01_nar {v : Int32} (h : v = 0 ∨ v = 1) : narrow .boolean (.int v) = .int v := by rcases h with rfl | rfl <;> rfl
set_option maxHeartbeats 4000000 in
set_option maxRecDepth 100000 in
theorem k_failIfWorn (l : Launch) (D : va_G) (S : St) (gl : Nat → Nat) (G : Nat → Nat → Int32) (ad : Ad) (h : AH) (K0 : Cls S gl G ad h) (i j : Nat) (hi : i < nn (S.1 0 2 0)) (hj : j < nn (S.1 6 i 0)) (hb : B01 S) : Ctr l D yX0_failIfWorn cX0_failIfWorn 1 none 0 0 0 0 [.ref (ad 14 i j)] h (fun _ => False) (fun r9 h' => r9 = none ∧ Cls (fails S i j) gl G ad h') := by
  refine Ctr.of RX0 rfl (by decide) (Nat.le_of_ble_eq_true rfl) ?_
  intro sz p e s m below meth c E hin hr ht
  refine j_aload_n E dX0_failIfWorn_0 rfl ?_
  refine gf_X0_15 E (K0.x14 hi hj) rfl dX0_failIfWorn_1 ?_
  refine j_aload_n E dX0_failIfWorn_4 rfl ?_
  refine gf_X0_9 E (K0.x14 hi hj) rfl dX0_failIfWorn_5 ?_
  refine j_icmp_lt (tgt := 16) E dX0_failIfWorn_8 (by decide) (fun c_8 => ?_) (fun c_8 => ?_)
  · have e : fails S i j = S := by unfold fails; rcases hb i j with q | q; (· rw [if_pos ⟨q, c_8⟩]; exact s1_id q); (· rw [if_neg (fun r => by rw [q] at r; exact absurd r.1 (by decide))]; exact s1_id q)
    exact j_vret E hr dX0_failIfWorn_16 ⟨Nat.le_of_ble_eq_true rfl, Nat.le_of_ble_eq_true rfl⟩ ⟨rfl, by rw [e]; exact K0⟩
  · refine j_aload_n E dX0_failIfWorn_11 rfl ?_
    refine j_iconst (v := 1) E dX0_failIfWorn_12 ci_1 ?_
    refine pf_X0_18 E (K0.x14 hi hj) ⟨rfl, rfl⟩ (Nat.le_of_ble_eq_true rfl) dX0_failIfWorn_13 (fun h13 hCv u13 => ?_)
    have e : fails S i j = s1 S 11 i j 1 := by unfold fails; rw [if_neg (fun r => c_8 r.2)]
    exact j_vret E hr dX0_failIfWorn_16 ⟨Nat.le_of_ble_eq_true rfl, Nat.le_of_ble_eq_true rfl⟩ ⟨rfl, by rw [e]; exact K0.t11 hi hj hCv u13⟩
set_option maxHeartbeats 4000000 in
set_option maxRecDepth 100000 in
theorem k_openCavities (l : Launch) (D : va_G) (S : St) (gl : Nat → Nat) (G : Nat → Nat → Int32) (ad : Ad) (h : AH) (K0 : Cls S gl G ad h) (i : Nat) (hi : i < nn (S.1 0 2 0)) (hc : Rg (S.1 6 i 0) 1 8) : Ctr l D yX4_openCavities cX4_openCavities 4 (some .int) 0 0 0 0 [.ref (ad 12 i 0)] h (fun _ => False) (fun r9 h' => r9 = some (.int (opn S i)) ∧ h = h') := by
  refine Ctr.of RX4 rfl (by decide) (Nat.le_of_ble_eq_true rfl) ?_
  intro sz p e s m below meth c E hin hr ht
  refine j_iconst (v := 0) E dX4_openCavities_0 ci_0 ?_
  refine j_istore_n E dX4_openCavities_1 (by decide) ?_
  refine j_iconst (v := 0) E dX4_openCavities_2 ci_0 ?_
  refine j_istore_n E dX4_openCavities_3 (by decide) ?_
  have K : ∀ (n : Nat) (y a : Int32), y = nI (nn y) → nn y + n = nn (S.1 6 i 0) → a = openN S i (nn y) → J p l e { frames := 0, cells := 0, slots := 0, locals := 0 } s m [.ref (ad 12 i 0)].toArray below meth c D (Afr h sz) 4 (vx_MQ below (Qcs D h sz (fun r9 h' => r9 = some (.int (opn S i)) ∧ h = h')) (Xcs D h sz (fun _ => False)) [.ref (ad 12 i 0)].toArray s 0 0 (Afr h sz)) 0 0 h 4 [(1, .int a), (2, .int y), (0, .ref (ad 12 i 0))] [] := by
    intro n
    induction n with
    | zero =>
      intro y a hy hn ha
      have hc8 := hc.2.2
      refine j_iload_n E dX4_openCavities_4 rfl ?_
      refine j_aload_n E dX4_openCavities_5 rfl ?_
      refine gf_X4_35 E (K0.x12 hi) rfl dX4_openCavities_6 ?_
      refine j_alen (v := (S.1 6 i 0)) E (K0.x13 hi) hc.1.symm dX4_openCavities_9 ?_
      refine j_icmp_ge (tgt := 40) E dX4_openCavities_10 (by decide) (fun _ => ?_) (fun q => (q (ge_of hy hc.1 (by omega) (nn_lt y))).elim)
      refine j_iload_n E dX4_openCavities_40 rfl ?_
      exact j_iret E hr dX4_openCavities_41 ⟨Nat.le_of_ble_eq_true rfl, Nat.le_of_ble_eq_true rfl⟩ ⟨by rw [ha, show nn y = nn (S.1 6 i 0) from hn]; rfl, rfl⟩
    | succ n ih =>
      intro y a hy hn ha
      have hc8 := hc.2.2
      have hlt : nn y < nn (S.1 6 i 0) := by omega
      refine j_iload_n E dX4_openCavities_4 rfl ?_
      refine j_aload_n E dX4_openCavities_5 rfl ?_
      refine gf_X4_35 E (K0.x12 hi) rfl dX4_openCavities_6 ?_
      refine j_alen (v := (S.1 6 i 0)) E (K0.x13 hi) hc.1.symm dX4_openCavities_9 ?_
      refine j_icmp_ge (tgt := 40) E dX4_openCavities_10 (by decide) (fun q => (nge_of hy hc.1 hlt (nn_lt _) q).elim) (fun _ => ?_)
      refine j_aload_n E dX4_openCavities_13 rfl ?_
      refine gf_X4_35 E (K0.x12 hi) rfl dX4_openCavities_14 ?_
      refine j_iload_n E dX4_openCavities_17 rfl ?_
      refine j_aald E (K0.x13 hi) rfl (vin_of hy hlt (Nat.le_refl _) (by omega)) dX4_openCavities_18 ?_
      refine J.stk (rf_y hlt) ?_
      refine j_astore_n E dX4_openCavities_19 (by decide) ?_
      refine j_aload_n E dX4_openCavities_20 rfl ?_
      refine j_ifnull E dX4_openCavities_21 ?_
      refine j_aload_n E dX4_openCavities_24 rfl ?_
      refine gf_X4_40 E (K0.x14 hi hlt) rfl dX4_openCavities_25 ?_
      refine j_if_ne (tgt := 34) E dX4_openCavities_28 (by decide) (fun c_28 => ?_) (fun c_28 => ?_)
      · refine j_iincK (k := 1) E ci_1 dX4_openCavities_34 rfl (by decide) ?_
        refine j_goto (tgt := 4) E dX4_openCavities_37 (by decide) ?_
        refine J.sub (lo' := [(1, .int (a + 0)), (2, .int (y + 1)), (0, .ref (ad 12 i 0))]) ⟨congrArg (fun q => some (Value.int q)) (Int32.add_zero a).symm, rfl, rfl, trivial⟩ ?_
        obtain ⟨a1, a2⟩ := nn_s hy hlt (by omega)
        exact ih (y + 1) _ a1 (by omega) (by rw [a2, ha]; show _ = openN S i (nn y) + opT S i (nn y); unfold opT; rw [if_neg c_28])
      · refine j_iincK (k := 1) E ci_1 dX4_openCavities_31 rfl (by decide) ?_
        refine j_iincK (k := 1) E ci_1 dX4_openCavities_34 rfl (by decide) ?_
        refine j_goto (tgt := 4) E dX4_openCavities_37 (by decide) ?_
        obtain ⟨a1, a2⟩ := nn_s hy hlt (by omega)
        refine J.sub (lo' := [(1, .int (a + 1)), (2, .int (y + 1)), (0, .ref (ad 12 i 0))]) ⟨rfl, rfl, rfl, trivial⟩ ?_
        exact ih (y + 1) _ a1 (by omega) (by rw [a2, ha]; show _ = openN S i (nn y) + opT S i (nn y); unfold opT; rw [if_pos (show S.1 11 i (nn y) = 0 from c_28)])
  refine J.sub (lo' := [(1, .int 0), (2, .int 0), (0, .ref (ad 12 i 0))]) ⟨rfl, rfl, rfl, trivial⟩ ?_
  exact K (nn (S.1 6 i 0)) 0 0 e_0 (by rw [nn_0]; omega) rfl
set_option maxHeartbeats 4000000 in
set_option maxRecDepth 100000 in
theorem k_makeParts (l : Launch) (D : va_G) (S : St) (gl : Nat → Nat) (G : Nat → Nat → Int32) (ad : Ad) (h : AH) (K0 : Cls S gl G ad h) (i : Nat) (hi : i < nn (S.1 0 2 0)) (hc : Rg (S.1 6 i 0) 1 8) (hb : B01 S) : Ctr l D yX4_makeParts cX4_makeParts 3 none 1 20 0 0 [.ref (ad 12 i 0)] h (fun _ => False) (fun r9 h' => r9 = none ∧ Cls (mkN S i (nn (S.1 6 i 0))) gl G ad h') := by
  refine Ctr.of RX4 rfl (by decide) (Nat.le_of_ble_eq_true rfl) ?_
  intro sz p e s m below meth c E hin hr ht
  refine j_iconst (v := 0) E dX4_makeParts_0 ci_0 ?_
  refine j_istore_n E dX4_makeParts_1 (by decide) ?_
  have K : ∀ (n : Nat) (y : Int32) (S2 : St) (h2 : AH), y = nI (nn y) → nn y + n = nn (S.1 6 i 0) → S2 = mkN S i (nn y) → Cls S2 gl G ad h2 → J p l e { frames := 1, cells := 0, slots := 0, locals := 20 } s m [.ref (ad 12 i 0)].toArray below meth c D (Afr h sz) 3 (vx_MQ below (Qcs D h sz (fun r9 h' => r9 = none ∧ Cls (mkN S i (nn (S.1 6 i 0))) gl G ad h')) (Xcs D h sz (fun _ => False)) [.ref (ad 12 i 0)].toArray s 0 0 (Afr h sz)) 0 0 h2 2 [(1, .int y), (0, .ref (ad 12 i 0))] [] := by
    intro n
    induction n with
    | zero =>
      intro y S2 h2 hy hn hS K0
      have hc8 := hc.2.2
      have h6 : S2.1 6 i 0 = S.1 6 i 0 := by rw [hS]; exact mkN_c (by decide) (by decide) _
      have h2m : S2.1 0 2 0 = S.1 0 2 0 := by rw [hS]; exact mkN_c (by decide) (by decide) _
      have hi2 : i < nn (S2.1 0 2 0) := by rw [h2m]; exact hi
      have hb2 : B01 S2 := by rw [hS]; exact (mkN_blk hb _).1
      refine j_iload_n E dX4_makeParts_2 rfl ?_
      refine j_aload_n E dX4_makeParts_3 rfl ?_
      refine gf_X4_35 E (K0.x12 hi2) rfl dX4_makeParts_4 ?_
      refine j_alen (v := (S.1 6 i 0)) E (K0.x13 hi2) (by rw [hc.1, ← h6]; rfl) dX4_makeParts_7 ?_
      refine j_icmp_ge (tgt := 49) E dX4_makeParts_8 (by decide) (fun _ => ?_) (fun q => (q (ge_of hy hc.1 (by omega) (nn_lt y))).elim)
      exact j_vret E hr dX4_makeParts_49 ⟨Nat.le_of_ble_eq_true rfl, Nat.le_of_ble_eq_true rfl⟩ ⟨rfl, by rw [← show nn y = nn (S.1 6 i 0) from hn, ← hS]; exact K0⟩
    | succ n ih =>
      intro y S2 h2 hy hn hS K0
      have hc8 := hc.2.2
      have h6 : S2.1 6 i 0 = S.1 6 i 0 := by rw [hS]; exact mkN_c (by decide) (by decide) _
      have h2m : S2.1 0 2 0 = S.1 0 2 0 := by rw [hS]; exact mkN_c (by decide) (by decide) _
      have hi2 : i < nn (S2.1 0 2 0) := by rw [h2m]; exact hi
      have hb2 : B01 S2 := by rw [hS]; exact (mkN_blk hb _).1
      have hlt : nn y < nn (S.1 6 i 0) := by omega
      have hj2 : nn y < nn (S2.1 6 i 0) := by rw [h6]; exact hlt
      refine j_iload_n E dX4_makeParts_2 rfl ?_
      refine j_aload_n E dX4_makeParts_3 rfl ?_
      refine gf_X4_35 E (K0.x12 hi2) rfl dX4_makeParts_4 ?_
      refine j_alen (v := (S.1 6 i 0)) E (K0.x13 hi2) (by rw [hc.1, ← h6]; rfl) dX4_makeParts_7 ?_
      refine j_icmp_ge (tgt := 49) E dX4_makeParts_8 (by decide) (fun q => (nge_of hy hc.1 hlt (nn_lt _) q).elim) (fun _ => ?_)
      refine j_aload_n E dX4_makeParts_11 rfl ?_
      refine gf_X4_35 E (K0.x12 hi2) rfl dX4_makeParts_12 ?_
      refine j_iload_n E dX4_makeParts_15 rfl ?_
      refine j_aald E (K0.x13 hi2) rfl (vin_of hy hj2 (Nat.le_refl _) (by rw [h6]; omega)) dX4_makeParts_16 ?_
      refine J.stk (rf_y hj2) ?_
      refine j_astore_n E dX4_makeParts_17 (by decide) ?_
      refine j_aload_n E dX4_makeParts_18 rfl ?_
      refine j_ifnull E dX4_makeParts_19 ?_
      refine j_aload_n E dX4_makeParts_22 rfl ?_
      refine gf_X4_40 E (K0.x14 hi2 hj2) rfl dX4_makeParts_23 ?_
      refine j_if_ne (tgt := 43) E dX4_makeParts_26 (by decide) (fun c_26 => ?_) (fun c_26 => ?_)
      · refine j_iincK (k := 1) E ci_1 dX4_makeParts_43 rfl (by decide) ?_
        refine j_goto (tgt := 2) E dX4_makeParts_46 (by decide) ?_
        obtain ⟨a1, a2⟩ := nn_s hy hlt (by omega)
        refine J.sub (lo' := [(1, .int (y + 1)), (0, .ref (ad 12 i 0))]) ⟨rfl, rfl, trivial⟩ ?_
        exact ih (y + 1) _ _ a1 (by omega) (by rw [a2, hS]; rfl) (show Cls (mkS S2 i (nn y)) gl G ad _ by unfold mkS; rw [if_neg (show ¬ S2.1 11 i (nn y) = 0 from c_26)]; exact K0)
      · refine j_aload_n E dX4_makeParts_29 rfl ?_
        refine j_dup E dX4_makeParts_30 rfl ?_
        refine gf_X4_44 E (K0.x14 hi2 hj2) rfl dX4_makeParts_31 ?_
        refine j_iconst (v := 1) E dX4_makeParts_34 ci_1 ?_
        refine j_iadd E dX4_makeParts_35 ?_
        refine pf_X4_44 E (K0.x14 hi2 hj2) (Nat.le_of_ble_eq_true rfl) dX4_makeParts_36 (fun h36 hCv u36 => ?_)
        have K1 : Cls (s1 S2 13 i (nn y) (S2.1 13 i (nn y) + 1)) gl G ad h36 := K0.t13 hi2 hj2 hCv u36
        refine j_aload_n E dX4_makeParts_39 rfl ?_
        refine j_callV E (k_failIfWorn l D _ gl G ad _ K1 i (nn y) hi2 hj2 hb2) (cw_X4_47 E ⟨Nat.le_of_ble_eq_true rfl, Nat.le_of_ble_eq_true rfl, Nat.le_of_ble_eq_true rfl, Nat.le_of_ble_eq_true rfl, Nat.le_of_ble_eq_true rfl⟩) (q_437 E.tb) (q_438 E.tb) (K1.x14 hi2 hj2) rfl rfl dX4_makeParts_40 rfl (fun v40 h40 p40 => ?_)
        obtain ⟨rfl, K2⟩ := p40
        refine j_iincK (k := 1) E ci_1 dX4_makeParts_43 rfl (by decide) ?_
        refine j_goto (tgt := 2) E dX4_makeParts_46 (by decide) ?_
        obtain ⟨a1, a2⟩ := nn_s hy hlt (by omega)
        refine J.sub (lo' := [(1, .int (y + 1)), (0, .ref (ad 12 i 0))]) ⟨rfl, rfl, trivial⟩ ?_
        exact ih (y + 1) _ _ a1 (by omega) (by rw [a2, hS]; rfl) (show Cls (mkS S2 i (nn y)) gl G ad _ by unfold mkS; rw [if_pos (show S2.1 11 i (nn y) = 0 from c_26)]; exact K2)
  refine J.sub (lo' := [(1, .int 0), (0, .ref (ad 12 i 0))]) ⟨rfl, rfl, trivial⟩ ?_
  exact K (nn (S.1 6 i 0)) 0 S h e_0 (by rw [nn_0]; omega) rfl K0
theorem nn_3 : nn (3 : Int32) = 3 := by decide
set_option maxHeartbeats 4000000 in
set_option maxRecDepth 100000 in
theorem k_dryGrams (l : Launch) (D : va_G) (S : St) (gl : Nat → Nat) (G : Nat → Nat → Int32) (ad : Ad) (h : AH) (K0 : Cls S gl G ad h) (C : Cnt S) (L : LR S) (x : Int32) (hx : x = nI (nn x) ∧ nn x < nn (S.1 0 0 0)) : Ctr l D yX1_dryGrams cX1_dryGrams 5 (some .int) 3 62 0 0 [.ref (ad 5 0 0), .ref (ad 10 (nn x) 0)] h (fun _ => False) (fun r9 h' => r9 = some (.int (dryOf S x)) ∧ h = h') := by
  refine Ctr.of RX1 rfl (by decide) (Nat.le_of_ble_eq_true rfl) ?_
  intro sz p e s m below meth c E hin hr ht
  refine j_iconst (v := 0) E dX1_dryGrams_0 ci_0 ?_
  refine j_istore_n E dX1_dryGrams_1 (by decide) ?_
  refine j_iconst (v := 0) E dX1_dryGrams_2 ci_0 ?_
  refine j_istore_n E dX1_dryGrams_3 (by decide) ?_
  have K : ∀ (n : Nat) (y a : Int32), y = nI (nn y) → nn y + n = 3 → a = dryOfN S x (min (nn y) (nn (S.1 0 1 0))) → J p l e { frames := 3, cells := 0, slots := 0, locals := 62 } s m [.ref (ad 5 0 0), .ref (ad 10 (nn x) 0)].toArray below meth c D (Afr h sz) 5 (vx_MQ below (Qcs D h sz (fun r9 h' => r9 = some (.int (dryOf S x)) ∧ h = h')) (Xcs D h sz (fun _ => False)) [.ref (ad 5 0 0), .ref (ad 10 (nn x) 0)].toArray s 0 0 (Afr h sz)) 0 0 h 4 [(2, .int a), (3, .int y), (0, .ref (ad 5 0 0)), (1, .ref (ad 10 (nn x) 0))] [] := by
    intro n
    induction n with
    | zero =>
      intro y a hy hn ha
      refine j_iload_n E dX1_dryGrams_4 rfl ?_
      refine j_aload_n E dX1_dryGrams_5 rfl ?_
      refine gf_X1_11 E K0.x5 rfl dX1_dryGrams_6 ?_
      refine j_alen (v := 3) E K0.x6 rfl dX1_dryGrams_9 ?_
      refine j_icmp_ge (tgt := 49) E dX1_dryGrams_10 (by decide) (fun _ => ?_) (fun q => (q (ge_of hy (by decide) (by show nn (3 : Int32) ≤ _; rw [nn_3]; omega) (nn_lt y))).elim)
      refine j_iload_n E dX1_dryGrams_49 rfl ?_
      exact j_iret E hr dX1_dryGrams_50 ⟨Nat.le_of_ble_eq_true rfl, Nat.le_of_ble_eq_true rfl⟩ ⟨by rw [ha, show min (nn y) (nn (S.1 0 1 0)) = nn (S.1 0 1 0) by have := C.2.1.2.2; omega]; rfl, rfl⟩
    | succ n ih =>
      intro y a hy hn ha
      have hy3 : nn y < 3 := by omega
      refine j_iload_n E dX1_dryGrams_4 rfl ?_
      refine j_aload_n E dX1_dryGrams_5 rfl ?_
      refine gf_X1_11 E K0.x5 rfl dX1_dryGrams_6 ?_
      refine j_alen (v := 3) E K0.x6 rfl dX1_dryGrams_9 ?_
      refine j_icmp_ge (tgt := 49) E dX1_dryGrams_10 (by decide) (fun q => (nge_of hy (by decide) (by show _ < nn (3 : Int32); rw [nn_3]; omega) (nn_lt _) q).elim) (fun _ => ?_)
      refine j_aload_n E dX1_dryGrams_13 rfl ?_
      refine gf_X1_11 E K0.x5 rfl dX1_dryGrams_14 ?_
      refine j_iload_n E dX1_dryGrams_17 rfl ?_
      refine j_aald E K0.x6 rfl (vin_of hy hy3 (Nat.le_refl 3) (by decide)) dX1_dryGrams_18 ?_
      rcases Nat.lt_or_ge (nn y) (nn (S.1 0 1 0)) with hlt | hge
      · refine J.stk (rf_y hlt) ?_
        refine j_astore E dX1_dryGrams_19 (by decide) ?_
        refine j_aload E dX1_dryGrams_21 rfl ?_
        refine j_ifnull E dX1_dryGrams_23 ?_
        refine j_aload E dX1_dryGrams_26 rfl ?_
        refine j_aload_n E dX1_dryGrams_28 rfl ?_
        refine j_callV E (k_isDryOf l D S gl G ad h K0 C (nn y) hlt L x hx) (cw_X1_21 E ⟨Nat.le_of_ble_eq_true rfl, Nat.le_of_ble_eq_true rfl, Nat.le_of_ble_eq_true rfl, Nat.le_of_ble_eq_true rfl, Nat.le_of_ble_eq_true rfl⟩) (q_349 E.tb) (q_350 E.tb) (K0.x11 hlt) rfl rfl dX1_dryGrams_29 rfl (fun v29 h29 p29 => ?_)
        obtain ⟨rfl, rfl⟩ := p29
        refine j_if_eq (tgt := 43) E dX1_dryGrams_32 (by decide) (fun c_32 => ?_) (fun c_32 => ?_)
        · refine j_iincK (k := 1) E ci_1 dX1_dryGrams_43 rfl (by decide) ?_
          refine j_goto (tgt := 4) E dX1_dryGrams_46 (by decide) ?_
          obtain ⟨a1, a2⟩ := nn_s hy hy3 (by decide)
          refine J.sub (lo' := [(2, .int (a)), (3, .int (y + 1)), (0, .ref (ad 5 0 0)), (1, .ref (ad 10 (nn x) 0))]) ⟨rfl, rfl, rfl, rfl, trivial⟩ ?_
          exact ih (y + 1) _ a1 (by omega) (by rw [a2, ha]; rw [show min (nn y) (nn (S.1 0 1 0)) = nn y by omega, show min (nn y + 1) (nn (S.1 0 1 0)) = nn y + 1 by omega]; show _ = dryOfN S x (nn y) + dryT S x (nn y); unfold dryT; rw [if_neg (of_decide_eq_false (b2i_f c_32)), Int32.add_zero])
        · refine j_iload_n E dX1_dryGrams_35 rfl ?_
          refine j_aload E dX1_dryGrams_36 rfl ?_
          refine gf_X1_25 E (K0.x11 hlt) rfl dX1_dryGrams_38 ?_
          refine j_iadd E dX1_dryGrams_41 ?_
          refine j_istore_n E dX1_dryGrams_42 (by decide) ?_
          refine j_iincK (k := 1) E ci_1 dX1_dryGrams_43 rfl (by decide) ?_
          refine j_goto (tgt := 4) E dX1_dryGrams_46 (by decide) ?_
          obtain ⟨a1, a2⟩ := nn_s hy hy3 (by decide)
          refine J.sub (lo' := [(2, .int (a + S.1 4 (nn y) 0)), (3, .int (y + 1)), (0, .ref (ad 5 0 0)), (1, .ref (ad 10 (nn x) 0))]) ⟨rfl, rfl, rfl, rfl, trivial⟩ ?_
          exact ih (y + 1) _ a1 (by omega) (by rw [a2, ha]; rw [show min (nn y) (nn (S.1 0 1 0)) = nn y by omega, show min (nn y + 1) (nn (S.1 0 1 0)) = nn y + 1 by omega]; show _ = dryOfN S x (nn y) + dryT S x (nn y); unfold dryT; rw [if_pos (of_decide_eq_true (b2i_t c_32))])
      · refine J.stk (rf_n (Nat.not_lt.mpr hge)) ?_
        refine j_astoreN E dX1_dryGrams_19 (by decide) ?_
        refine j_aloadN E dX1_dryGrams_21 rfl ?_
        refine j_ifnullN (tgt := 43) E dX1_dryGrams_23 (by decide) ?_
        refine j_iincK (k := 1) E ci_1 dX1_dryGrams_43 rfl (by decide) ?_
        refine j_goto (tgt := 4) E dX1_dryGrams_46 (by decide) ?_
        obtain ⟨a1, a2⟩ := nn_s hy hy3 (by decide)
        refine J.sub (lo' := [(2, .int (a)), (3, .int (y + 1)), (0, .ref (ad 5 0 0)), (1, .ref (ad 10 (nn x) 0))]) ⟨rfl, rfl, rfl, rfl, trivial⟩ ?_
        exact ih (y + 1) _ a1 (by omega) (by rw [a2, ha]; rw [show min (nn y + 1) (nn (S.1 0 1 0)) = min (nn y) (nn (S.1 0 1 0)) by omega])
  refine J.sub (lo' := [(2, .int 0), (3, .int 0), (0, .ref (ad 5 0 0)), (1, .ref (ad 10 (nn x) 0))]) ⟨rfl, rfl, rfl, rfl, trivial⟩ ?_
  exact K 3 0 0 e_0 (by rw [nn_0]) (by rw [nn_0, Nat.zero_min]; rfl)
