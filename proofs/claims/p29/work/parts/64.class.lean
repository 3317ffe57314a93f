/-! the class: the dryer's hour, the rows of an order -/
theorem e_2 : (2 : Int32) = nI (nn 2) := by decide
theorem nn_2 : nn (2 : Int32) = 2 := by decide
theorem lt1_0 {x : Int32} {b : Nat} (h : Rg x 0 b) (hb : b < 2 ^ 31) (q : ¬ (1 : Int32) ≤ x) : x = 0 := by
  rw [i32_le, h.toI hb] at q
  have h1 : (1 : Int32).toInt = 1 := by decide
  have h3 : nn x = 0 := by omega
  rw [h.1, h3]; rfl
theorem ge1_ne {x : Int32} (q : (1 : Int32) ≤ x) : ¬ x = 0 := fun e => by rw [e] at q; exact absurd q (by decide)
set_option maxHeartbeats 4000000 in
set_option maxRecDepth 100000 in
theorem k_takeOut (l : Launch) (D : va_G) (S : St) (gl : Nat → Nat) (G : Nat → Nat → Int32) (ad : Ad) (h : AH) (K0 : Cls S gl G ad h) (C : Cnt S) (x : Int32) (hx : x = nI (nn x) ∧ nn x < nn (S.1 0 1 0)) : Ctr l D yX1_takeOut cX1_takeOut 4 none 0 0 0 0 [.ref (ad 5 0 0), .int x] h (fun _ => False) (fun r9 h' => r9 = none ∧ Cls (lev S (nn x)) gl G (adL ad (nn x)) h') := by
  refine Ctr.of RX1 rfl (by decide) (Nat.le_of_ble_eq_true rfl) ?_
  intro sz p e s m below meth c E hin hr ht
  have hL3 := C.2.1.2.2
  have hx2 := hx.2
  have hx0 : ¬ x < 0 := by rw [hx.1]; exact nI_pos (nn_lt x)
  refine j_aload_n E dX1_takeOut_0 rfl ?_
  refine gf_X1_11 E K0.x5 rfl dX1_takeOut_1 ?_
  refine j_alen (v := 3) E K0.x6 rfl dX1_takeOut_4 ?_
  refine j_iconst (v := 1) E dX1_takeOut_5 ci_1 ?_
  refine j_isub E dX1_takeOut_6 ?_
  refine j_istore_n E dX1_takeOut_7 (by decide) ?_
  refine J.sub (lo' := [(2, .int 2), (0, .ref (ad 5 0 0)), (1, .int x)]) ⟨congrArg (fun q => some (Value.int q)) (show (3 : Int32) - 1 = 2 by decide), rfl, rfl, trivial⟩ ?_
  refine j_iload_n E dX1_takeOut_8 rfl ?_
  refine j_if_lt (tgt := 17) E dX1_takeOut_9 (by decide) (fun q => (hx0 q).elim) (fun _ => ?_)
  refine j_iload_n E dX1_takeOut_12 rfl ?_
  refine j_iload_n E dX1_takeOut_13 rfl ?_
  refine j_icmp_le (tgt := 18) E dX1_takeOut_14 (by decide) (fun _ => ?_) (fun q => (q (ge_of e_2 hx.1 (by rw [nn_2]; omega) (by decide))).elim)
  refine j_iload_n E dX1_takeOut_18 rfl ?_
  refine j_istore_n E dX1_takeOut_19 (by decide) ?_
  have K : ∀ (n : Nat) (y : Int32) (h2 : AH), y = nI (nn y) → nn x ≤ nn y → nn y + n = 2 → h2 (ad 6 0 0) = some (.inl (.object "MouldDesk$Lot", (3, .inr (.inr (.inr (.inr (shR (rfs (nn (S.1 0 1 0)) (fun i => ad 11 i 0)) (nn x) (nn y)))))))) → (∀ z, z ≠ ad 6 0 0 → h2 z = h z) → J p l e { frames := 0, cells := 0, slots := 0, locals := 0 } s m [.ref (ad 5 0 0), .int x].toArray below meth c D (Afr h sz) 4 (vx_MQ below (Qcs D h sz (fun r9 h' => r9 = none ∧ Cls (lev S (nn x)) gl G (adL ad (nn x)) h')) (Xcs D h sz (fun _ => False)) [.ref (ad 5 0 0), .int x].toArray s 0 0 (Afr h sz)) 0 0 h2 20 [(3, .int y), (2, .int 2), (0, .ref (ad 5 0 0))] [] := by
    intro n
    induction n with
    | zero =>
      intro y h2 hy hkk hn r6 u2
      have hne : ad 5 0 0 ≠ ad 6 0 0 := fun q => absurd (K0.2 _ _ _ _ _ _ (show live S 5 0 0 from ⟨rfl, rfl⟩) (show live S 6 0 0 from ⟨rfl, rfl⟩) q).1 (by decide)
      have x5 := (u2 _ hne).trans K0.x5
      refine j_iload_n E dX1_takeOut_20 rfl ?_
      refine j_iload_n E dX1_takeOut_21 rfl ?_
      refine j_icmp_ge (tgt := 45) E dX1_takeOut_22 (by decide) (fun _ => ?_) (fun q => (q (ge_of hy e_2 (by rw [nn_2]; omega) (nn_lt y))).elim)
      refine j_aload_n E dX1_takeOut_45 rfl ?_
      refine gf_X1_11 E x5 rfl dX1_takeOut_46 ?_
      refine j_iload_n E dX1_takeOut_49 rfl ?_
      refine j_null E dX1_takeOut_50 ?_
      refine s_aastN E r6 (vin_nI (n := 3) (k := 2) (by decide) (by decide)) dX1_takeOut_51 (fun h51 n51 u51 => ?_)
      have x5b := (u51 _ hne).trans x5
      refine j_aload_n E dX1_takeOut_52 rfl ?_
      refine j_dup E dX1_takeOut_53 rfl ?_
      refine gf_X1_17 E x5b rfl dX1_takeOut_54 ?_
      refine j_iconst (v := 1) E dX1_takeOut_57 ci_1 ?_
      refine j_isub E dX1_takeOut_58 ?_
      refine pf_X1_17 E x5b (Nat.le_of_ble_eq_true rfl) dX1_takeOut_59 (fun h59 x5b u59 => ?_)
      exact j_vret E hr dX1_takeOut_62 ⟨Nat.le_of_ble_eq_true rfl, Nat.le_of_ble_eq_true rfl⟩ ⟨rfl, K0.takeL C.2.1 hx.2 ((u59 _ (fun q => hne q.symm)).trans (by rw [n51, show nn y = 2 from hn]; rfl)) x5b (fun z h6 h5 => (u59 z h5).trans ((u51 z h6).trans (u2 z h6)))⟩
    | succ n ih =>
      intro y h2 hy hkk hn r6 u2
      have hne : ad 5 0 0 ≠ ad 6 0 0 := fun q => absurd (K0.2 _ _ _ _ _ _ (show live S 5 0 0 from ⟨rfl, rfl⟩) (show live S 6 0 0 from ⟨rfl, rfl⟩) q).1 (by decide)
      have x5 := (u2 _ hne).trans K0.x5
      refine j_iload_n E dX1_takeOut_20 rfl ?_
      refine j_iload_n E dX1_takeOut_21 rfl ?_
      refine j_icmp_ge (tgt := 45) E dX1_takeOut_22 (by decide) (fun q => (nge_of hy e_2 (by rw [nn_2]; omega) (by decide) q).elim) (fun _ => ?_)
      refine j_aload_n E dX1_takeOut_25 rfl ?_
      refine gf_X1_11 E x5 rfl dX1_takeOut_26 ?_
      refine j_iload_n E dX1_takeOut_29 rfl ?_
      refine j_aload_n E dX1_takeOut_30 rfl ?_
      refine gf_X1_11 E x5 rfl dX1_takeOut_31 ?_
      refine j_iload_n E dX1_takeOut_34 rfl ?_
      refine j_iconst (v := 1) E dX1_takeOut_35 ci_1 ?_
      refine j_iadd E dX1_takeOut_36 ?_
      refine j_aald E r6 rfl (vin_of (nn_s hy (show nn y < 2 by omega) (by decide)).1 (by rw [(nn_s hy (show nn y < 2 by omega) (by decide)).2]; omega) (Nat.le_refl 3) (by decide)) dX1_takeOut_37 ?_
      rcases Nat.lt_or_ge (nn y + 1) (nn (S.1 0 1 0)) with hlt | hge
      · refine J.stk (vf_y (show shR (rfs (nn (S.1 0 1 0)) (fun i => ad 11 i 0)) (nn x) (nn y) (nn (y + 1)) = some (ad 11 (nn y + 1) 0) by rw [(nn_s hy (show nn y < 2 by omega) (by decide)).2]; unfold shR; rw [if_neg (by omega)]; exact if_pos hlt)) ?_
        refine s_aast E r6 ((u2 _ (fun q => absurd (K0.2 _ _ _ _ _ _ (show live S 11 (nn y + 1) 0 from ⟨hlt, rfl⟩) (show live S 6 0 0 from ⟨rfl, rfl⟩) q).1 (by decide))).trans (K0.x11 hlt)) rfl (vin_of hy (show nn y < 3 by omega) (Nat.le_refl 3) (by decide)) dX1_takeOut_38 (fun h38 n38 u38 => ?_)
        refine j_iincK (k := 1) E ci_1 dX1_takeOut_39 rfl (by decide) ?_
        refine j_goto (tgt := 20) E dX1_takeOut_42 (by decide) ?_
        obtain ⟨a1, a2⟩ := nn_s hy (show nn y < 2 by omega) (by decide)
        refine J.sub (lo' := [(3, .int (y + 1)), (2, .int 2), (0, .ref (ad 5 0 0))]) ⟨rfl, rfl, rfl, trivial⟩ ?_
        exact ih (y + 1) h38 a1 (by omega) (by omega) (by rw [n38, a2, ← shR_up hkk, show (rfs (nn (S.1 0 1 0)) (fun i => ad 11 i 0)) (nn y + 1) = some (ad 11 (nn y + 1) 0) from if_pos hlt]) (fun z hz => (u38 z hz).trans (u2 z hz))
      · refine J.stk (vf_n (show shR (rfs (nn (S.1 0 1 0)) (fun i => ad 11 i 0)) (nn x) (nn y) (nn (y + 1)) = none by rw [(nn_s hy (show nn y < 2 by omega) (by decide)).2]; unfold shR; rw [if_neg (by omega)]; exact if_neg (Nat.not_lt.mpr hge))) ?_
        refine s_aastN E r6 (vin_of hy (show nn y < 3 by omega) (Nat.le_refl 3) (by decide)) dX1_takeOut_38 (fun h38 n38 u38 => ?_)
        refine j_iincK (k := 1) E ci_1 dX1_takeOut_39 rfl (by decide) ?_
        refine j_goto (tgt := 20) E dX1_takeOut_42 (by decide) ?_
        obtain ⟨a1, a2⟩ := nn_s hy (show nn y < 2 by omega) (by decide)
        refine J.sub (lo' := [(3, .int (y + 1)), (2, .int 2), (0, .ref (ad 5 0 0))]) ⟨rfl, rfl, rfl, trivial⟩ ?_
        exact ih (y + 1) h38 a1 (by omega) (by omega) (by rw [n38, a2, ← shR_up hkk, show (rfs (nn (S.1 0 1 0)) (fun i => ad 11 i 0)) (nn y + 1) = none from if_neg (Nat.not_lt.mpr hge)]) (fun z hz => (u38 z hz).trans (u2 z hz))
  refine J.sub (lo' := [(3, .int x), (2, .int 2), (0, .ref (ad 5 0 0))]) ⟨rfl, rfl, rfl, trivial⟩ ?_
  exact K (2 - nn x) x h hx.1 (Nat.le_refl _) (by omega) (by rw [shR_0]; exact K0.x6) (fun _ _ => rfl)
set_option maxHeartbeats 4000000 in
set_option maxRecDepth 100000 in
theorem k_dryOneHour (l : Launch) (D : va_G) (S : St) (gl : Nat → Nat) (G : Nat → Nat → Int32) (ad : Ad) (h : AH) (K0 : Cls S gl G ad h) (B : Nat) (I : Inv S B) : Ctr l D yX1_dryOneHour cX1_dryOneHour 3 none 1 23 0 0 [.ref (ad 5 0 0)] h (fun _ => False) (fun r9 h' => r9 = none ∧ ∃ ad' : Ad, Cls (dryN S (nn (S.1 0 1 0))) gl G ad' h' ∧ ∀ t i j, t ≠ 11 → ad' t i j = ad t i j) := by
  refine Ctr.of RX1 rfl (by decide) (Nat.le_of_ble_eq_true rfl) ?_
  intro sz p e s m below meth c E hin hr ht
  refine j_aload_n E dX1_dryOneHour_0 rfl ?_
  refine gf_X1_11 E K0.x5 rfl dX1_dryOneHour_1 ?_
  refine j_alen (v := 3) E K0.x6 rfl dX1_dryOneHour_4 ?_
  refine j_iconst (v := 1) E dX1_dryOneHour_5 ci_1 ?_
  refine j_isub E dX1_dryOneHour_6 ?_
  refine j_istore_n E dX1_dryOneHour_7 (by decide) ?_
  have K : ∀ (n : Nat) (S2 : St) (ad2 : Ad) (h2 : AH), n ≤ 3 → dryN S2 (min n (nn (S2.1 0 1 0))) = dryN S (nn (S.1 0 1 0)) → (∀ t i j, t ≠ 11 → ad2 t i j = ad t i j) → Cls S2 gl G ad2 h2 → Inv S2 B → J p l e { frames := 1, cells := 0, slots := 0, locals := 23 } s m [.ref (ad 5 0 0)].toArray below meth c D (Afr h sz) 3 (vx_MQ below (Qcs D h sz (fun r9 h' => r9 = none ∧ ∃ ad' : Ad, Cls (dryN S (nn (S.1 0 1 0))) gl G ad' h' ∧ ∀ t i j, t ≠ 11 → ad' t i j = ad t i j)) (Xcs D h sz (fun _ => False)) [.ref (ad 5 0 0)].toArray s 0 0 (Afr h sz)) 0 0 h2 8 [(1, .int (nI n - 1)), (0, .ref (ad2 5 0 0))] [] := by
    intro n
    induction n with
    | zero =>
      intro S2 ad2 h2 hn3 hD ha K0 I2
      refine j_iload_n E dX1_dryOneHour_8 rfl ?_
      refine j_if_lt (tgt := 52) E dX1_dryOneHour_9 (by decide) (fun _ => ?_) (fun q => (q (by decide)).elim)
      exact j_vret E hr dX1_dryOneHour_52 ⟨Nat.le_of_ble_eq_true rfl, Nat.le_of_ble_eq_true rfl⟩ ⟨rfl, ad2, by rw [← hD, Nat.zero_min]; exact K0, ha⟩
    | succ n ih =>
      intro S2 ad2 h2 hn3 hD ha K0 I2
      have e : nn (nI n) = n := nI_clamp (by omega)
      refine J.sub (lo' := [(1, .int (nI n)), (0, .ref (ad2 5 0 0))]) ⟨congrArg (fun q => some (Value.int q)) (nI_pred n), rfl, trivial⟩ ?_
      refine j_iload_n E dX1_dryOneHour_8 rfl ?_
      refine j_if_lt (tgt := 52) E dX1_dryOneHour_9 (by decide) (fun q => (nI_pos (by omega) q).elim) (fun _ => ?_)
      refine j_aload_n E dX1_dryOneHour_12 rfl ?_
      refine gf_X1_11 E K0.x5 rfl dX1_dryOneHour_13 ?_
      refine j_iload_n E dX1_dryOneHour_16 rfl ?_
      refine j_aald E K0.x6 rfl (vin_nI (n := 3) (k := n) (by omega) (by decide)) dX1_dryOneHour_17 ?_
      rcases Nat.lt_or_ge n (nn (S2.1 0 1 0)) with hlt | hge
      · refine J.stk (vf_y (show rfs (nn (S2.1 0 1 0)) (fun i => ad2 11 i 0) (nn (nI n)) = some (ad2 11 n 0) by rw [e]; exact if_pos hlt)) ?_
        refine j_astore_n E dX1_dryOneHour_18 (by decide) ?_
        refine j_aload_n E dX1_dryOneHour_19 rfl ?_
        refine j_ifnull E dX1_dryOneHour_20 ?_
        refine j_aload_n E dX1_dryOneHour_23 rfl ?_
        refine j_dup E dX1_dryOneHour_24 rfl ?_
        refine gf_X1_34 E (K0.x11 (i := n) hlt) rfl dX1_dryOneHour_25 ?_
        refine j_iconst (v := 1) E dX1_dryOneHour_28 ci_1 ?_
        refine j_iadd E dX1_dryOneHour_29 ?_
        refine pf_X1_34 E (K0.x11 (i := n) hlt) (Nat.le_of_ble_eq_true rfl) dX1_dryOneHour_30 (fun h30 hLt u30 => ?_)
        have K1 : Cls (s1 S2 5 n 0 (S2.1 5 n 0 + 1)) gl G ad2 h30 := K0.t5 hlt hLt u30
        refine j_aload_n E dX1_dryOneHour_33 rfl ?_
        refine gf_X1_25 E (K1.x11 (i := n) hlt) rfl dX1_dryOneHour_34 ?_
        refine j_iconst (v := 1) E dX1_dryOneHour_37 ci_1 ?_
        refine j_icmp_ge (tgt := 46) E dX1_dryOneHour_38 (by decide) (fun c_38 => ?_) (fun c_38 => ?_)
        · refine j_iincK (k := (-1)) E ci_m1 dX1_dryOneHour_46 rfl (by decide) ?_
          refine j_goto (tgt := 8) E dX1_dryOneHour_49 (by decide) ?_
          have eS : dryS S2 n = s1 S2 5 n 0 (S2.1 5 n 0 + 1) := if_neg (ge1_ne c_38)
          have hl := dryS_l (n := 0) I2.cnt.2.1 hlt
          refine J.sub (lo' := [(1, .int (nI n - 1)), (0, .ref (ad2 5 0 0))]) ⟨congrArg (fun q => some (Value.int q)) (Int32.sub_eq_add_neg (nI n) 1).symm, rfl, trivial⟩ ?_
          exact ih (dryS S2 n) ad2 _ (by omega) (by rw [Nat.min_eq_left hl, ← hD, Nat.min_eq_left hlt]; rfl) ha (by rw [eS]; exact K1) (dryS_inv I2 hlt)
        · refine j_aload_n E dX1_dryOneHour_41 rfl ?_
          refine j_iload_n E dX1_dryOneHour_42 rfl ?_
          refine j_callV E (k_takeOut l D _ gl G ad2 _ K1 I2.s5.cnt (nI n) ⟨by rw [e], by rw [e]; exact hlt⟩) (cw_X1_37 E ⟨Nat.le_of_ble_eq_true rfl, Nat.le_of_ble_eq_true rfl, Nat.le_of_ble_eq_true rfl, Nat.le_of_ble_eq_true rfl, Nat.le_of_ble_eq_true rfl⟩) (q_326 E.tb) (q_327 E.tb) K1.x5 rfl rfl dX1_dryOneHour_43 rfl (fun v43 h43 p43 => ?_)
          obtain ⟨rfl, K2⟩ := p43
          rw [e] at K2
          refine j_iincK (k := (-1)) E ci_m1 dX1_dryOneHour_46 rfl (by decide) ?_
          refine j_goto (tgt := 8) E dX1_dryOneHour_49 (by decide) ?_
          have eS : dryS S2 n = lev (s1 S2 5 n 0 (S2.1 5 n 0 + 1)) n := if_pos (lt1_0 (I2.lot n hlt).2 (by decide) c_38)
          have hl := dryS_l (n := 0) I2.cnt.2.1 hlt
          refine J.sub (lo' := [(1, .int (nI n - 1)), (0, .ref (adL ad2 n 5 0 0))]) ⟨congrArg (fun q => some (Value.int q)) (Int32.sub_eq_add_neg (nI n) 1).symm, congrArg (fun q => some (Value.ref q)) (adL_ne (by decide)).symm, trivial⟩ ?_
          exact ih (dryS S2 n) (adL ad2 n) _ (by omega) (by rw [Nat.min_eq_left hl, ← hD, Nat.min_eq_left hlt]; rfl) (fun t i j ht => (adL_ne ht).trans (ha t i j ht)) (by rw [eS]; exact K2) (dryS_inv I2 hlt)
      · refine J.stk (vf_n (show rfs (nn (S2.1 0 1 0)) (fun i => ad2 11 i 0) (nn (nI n)) = none by rw [e]; exact if_neg (Nat.not_lt.mpr hge))) ?_
        refine j_astore_nN E dX1_dryOneHour_18 (by decide) ?_
        refine j_aload_nN E dX1_dryOneHour_19 rfl ?_
        refine j_ifnullN (tgt := 46) E dX1_dryOneHour_20 (by decide) ?_
        refine j_iincK (k := (-1)) E ci_m1 dX1_dryOneHour_46 rfl (by decide) ?_
        refine j_goto (tgt := 8) E dX1_dryOneHour_49 (by decide) ?_
        refine J.sub (lo' := [(1, .int (nI n - 1)), (0, .ref (ad2 5 0 0))]) ⟨congrArg (fun q => some (Value.int q)) (Int32.sub_eq_add_neg (nI n) 1).symm, rfl, trivial⟩ ?_
        exact ih S2 ad2 h2 (by omega) (by rw [← hD, show min (n + 1) (nn (S2.1 0 1 0)) = min n (nn (S2.1 0 1 0)) by omega]) ha K0 I2
  refine J.sub (lo' := [(1, .int (nI 3 - 1)), (0, .ref (ad 5 0 0))]) ⟨congrArg (fun q => some (Value.int q)) (show (3 : Int32) - 1 = nI 3 - 1 by decide), rfl, trivial⟩ ?_
  exact K 3 S ad h (Nat.le_refl 3) (by rw [Nat.min_eq_right I.cnt.2.1.2.2]) (fun _ _ _ _ => rfl) K0 I
def ks (S : St) (i : Nat) (pa rg gr : Int32) : St := s1 (s2 (s1 (s1 S 19 i 0 (S.1 19 i 0 - pa)) 21 i 0 (S.1 21 i 0 + 1)) 2 i (S.2 2 i + rg.toInt64)) 22 i 0 (mx (S.1 22 i 0) (rg * 100 / gr))
def ksG (S : St) (G : Nat → Nat → Int32) (i : Nat) (rg : Int32) : Nat → Nat → Int32 := fun i' => if i' = i then fup (G i) (nn (S.1 21 i 0)) rg else G i'
set_option maxHeartbeats 4000000 in
set_option maxRecDepth 100000 in
theorem k_keepShot (l : Launch) (D : va_G) (S : St) (gl : Nat → Nat) (G : Nat → Nat → Int32) (ad : Ad) (h : AH) (K0 : Cls S gl G ad h) (i : Nat) (hi : i < nn (S.1 0 4 0)) (hg5 : gl i ≤ 5000) (hsh : S.1 21 i 0 = nI (nn (S.1 21 i 0))) (hlt : nn (S.1 21 i 0) < gl i) (pa rg gr : Int32) (hgr : ¬ gr ≤ 0) : Ctr l D yX5_keepShot cX5_keepShot 4 none 1 21 0 0 [.ref (ad 16 i 0), .int pa, .int rg, .int gr] h (fun _ => False) (fun r9 h' => r9 = none ∧ Cls (ks S i pa rg gr) gl (ksG S G i rg) ad h') := by
  refine Ctr.of RX5 rfl (by decide) (Nat.le_of_ble_eq_true rfl) ?_
  intro sz p e s m below meth c E hin hr ht
  have hs0 : ¬ S.1 21 i 0 < 0 := by rw [hsh]; exact nI_pos (nn_lt _)
  have eg : nn (nI (gl i)) = gl i := nI_clamp (by omega)
  refine j_aload_n E dX5_keepShot_0 rfl ?_
  refine j_dup E dX5_keepShot_1 rfl ?_
  refine gf_X5_23 E (K0.x16 hi) rfl dX5_keepShot_2 ?_
  refine j_iload_n E dX5_keepShot_5 rfl ?_
  refine j_isub E dX5_keepShot_6 ?_
  refine pf_X5_23 E (K0.x16 hi) (Nat.le_of_ble_eq_true rfl) dX5_keepShot_7 (fun h7 hOr u7 => ?_)
  have K0 : Cls (s1 S 19 i 0 (S.1 19 i 0 - pa)) gl G ad h7 := K0.t19 hi hOr u7
  refine j_aload_n E dX5_keepShot_10 rfl ?_
  refine gf_X5_36 E (K0.x16 hi) rfl dX5_keepShot_11 ?_
  refine j_if_lt (tgt := 49) E dX5_keepShot_14 (by decide) (fun q => (hs0 q).elim) (fun _ => ?_)
  refine j_aload_n E dX5_keepShot_17 rfl ?_
  refine gf_X5_36 E (K0.x16 hi) rfl dX5_keepShot_18 ?_
  refine j_aload_n E dX5_keepShot_21 rfl ?_
  refine gf_X5_32 E (K0.x16 hi) rfl dX5_keepShot_22 ?_
  refine j_alen (v := (nI (gl i))) E (K0.x17 hi) rfl dX5_keepShot_25 ?_
  refine j_icmp_ge (tgt := 49) E dX5_keepShot_26 (by decide) (fun q => (nge_of hsh (by rw [eg]) (by rw [eg]; exact hlt) (nn_lt _) q).elim) (fun _ => ?_)
  refine j_aload_n E dX5_keepShot_29 rfl ?_
  refine gf_X5_32 E (K0.x16 hi) rfl dX5_keepShot_30 ?_
  refine j_aload_n E dX5_keepShot_33 rfl ?_
  refine gf_X5_36 E (K0.x16 hi) rfl dX5_keepShot_34 ?_
  refine j_iload_n E dX5_keepShot_37 rfl ?_
  refine s_iast E (K0.x17 hi) (vin_of hsh hlt (Nat.le_refl _) (by omega)) dX5_keepShot_38 (fun h38 n38 u38 => ?_)
  have K0 : Cls (s1 S 19 i 0 (S.1 19 i 0 - pa)) gl (ksG S G i rg) ad h38 := K0.tG hi n38 u38
  refine j_aload_n E dX5_keepShot_39 rfl ?_
  refine j_dup E dX5_keepShot_40 rfl ?_
  refine gf_X5_36 E (K0.x16 hi) rfl dX5_keepShot_41 ?_
  refine j_iconst (v := 1) E dX5_keepShot_44 ci_1 ?_
  refine j_iadd E dX5_keepShot_45 ?_
  refine pf_X5_36 E (K0.x16 hi) (Nat.le_of_ble_eq_true rfl) dX5_keepShot_46 (fun h46 hOr u46 => ?_)
  have K0 : Cls (s1 (s1 S 19 i 0 (S.1 19 i 0 - pa)) 21 i 0 (S.1 21 i 0 + 1)) gl (ksG S G i rg) ad h46 := K0.t21 hi hOr u46
  refine j_aload_n E dX5_keepShot_49 rfl ?_
  refine j_dup E dX5_keepShot_50 rfl ?_
  refine gf_X5_39 E (K0.x16 hi) rfl dX5_keepShot_51 ?_
  refine j_iload_n E dX5_keepShot_54 rfl ?_
  refine j_i2l E dX5_keepShot_55 ?_
  refine j_ladd E dX5_keepShot_56 ?_
  refine pf_X5_39 E (K0.x16 hi) (Nat.le_of_ble_eq_true rfl) dX5_keepShot_57 (fun h57 hOr u57 => ?_)
  have K0 : Cls (s2 (s1 (s1 S 19 i 0 (S.1 19 i 0 - pa)) 21 i 0 (S.1 21 i 0 + 1)) 2 i (S.2 2 i + rg.toInt64)) gl (ksG S G i rg) ad h57 := K0.tl2 hi hOr u57
  refine j_iload_n E dX5_keepShot_60 rfl ?_
  refine j_if_le (tgt := 81) E dX5_keepShot_61 (by decide) (fun q => (hgr q).elim) (fun _ => ?_)
  refine j_aload_n E dX5_keepShot_64 rfl ?_
  refine j_aload_n E dX5_keepShot_65 rfl ?_
  refine gf_X5_43 E (K0.x16 hi) rfl dX5_keepShot_66 ?_
  refine j_iload_n E dX5_keepShot_69 rfl ?_
  refine j_bipush (v := 100) E dX5_keepShot_70 cb_100 ?_
  refine j_imul E dX5_keepShot_72 ?_
  refine j_iload_n E dX5_keepShot_73 rfl ?_
  refine j_idiv E dX5_keepShot_74 (fun q => hgr (by rw [q]; exact le0_0)) ?_
  refine j_mmax E (q_565 E.tb) (q_338 E.tb) (q_12 E.tb) (q_339 E.tb) ⟨Nat.le_of_ble_eq_true rfl, Nat.le_of_ble_eq_true rfl, Nat.le_of_ble_eq_true rfl, Nat.le_of_ble_eq_true rfl⟩ dX5_keepShot_75 ?_
  refine pf_X5_43 E (K0.x16 hi) (Nat.le_of_ble_eq_true rfl) dX5_keepShot_78 (fun h78 hOr u78 => ?_)
  exact j_vret E hr dX5_keepShot_81 ⟨Nat.le_of_ble_eq_true rfl, Nat.le_of_ble_eq_true rfl⟩ ⟨rfl, K0.t22 hi hOr u78⟩
set_option maxHeartbeats 4000000 in
set_option maxRecDepth 100000 in
theorem k_regrindAdded (l : Launch) (D : va_G) (S : St) (gl : Nat → Nat) (G : Nat → Nat → Int32) (ad : Ad) (h : AH) (K0 : Cls S gl G ad h) (i : Nat) (hi : i < nn (S.1 0 4 0)) (hg5 : gl i ≤ 5000) (hsh : S.1 21 i 0 = nI (nn (S.1 21 i 0))) (hle : nn (S.1 21 i 0) ≤ gl i) (hsum : S.2 2 i = sumG (G i) (nn (S.1 21 i 0))) : Ctr l D yX5_regrindAdded cX5_regrindAdded 5 (some .long) 1 21 0 0 [.ref (ad 16 i 0)] h (fun _ => False) (fun r9 h' => r9 = some (.long (S.2 2 i)) ∧ h = h') := by
  refine Ctr.of RX5 rfl (by decide) (Nat.le_of_ble_eq_true rfl) ?_
  intro sz p e s m below meth c E hin hr ht
  refine j_lconst (v := 0) E dX5_regrindAdded_0 cl_0 ?_
  refine j_lstore_n E dX5_regrindAdded_1 (by decide) ?_
  refine j_aload_n E dX5_regrindAdded_2 rfl ?_
  refine gf_X5_36 E (K0.x16 hi) rfl dX5_regrindAdded_3 ?_
  refine j_aload_n E dX5_regrindAdded_6 rfl ?_
  refine gf_X5_32 E (K0.x16 hi) rfl dX5_regrindAdded_7 ?_
  refine j_alen (v := (nI (gl i))) E (K0.x17 hi) rfl dX5_regrindAdded_10 ?_
  refine j_mmin E (q_630 E.tb) (q_631 E.tb) (q_12 E.tb) (q_632 E.tb) ⟨Nat.le_of_ble_eq_true rfl, Nat.le_of_ble_eq_true rfl, Nat.le_of_ble_eq_true rfl, Nat.le_of_ble_eq_true rfl⟩ dX5_regrindAdded_11 ?_
  refine j_istore_n E dX5_regrindAdded_14 (by decide) ?_
  refine j_iconst (v := 0) E dX5_regrindAdded_15 ci_0 ?_
  refine j_istore E dX5_regrindAdded_16 (by decide) ?_
  have K : ∀ (n : Nat) (y : Int32) (a : Int64), y = nI (nn y) → nn y + n = nn (S.1 21 i 0) → a = sumG (G i) (nn y) → J p l e { frames := 1, cells := 0, slots := 0, locals := 21 } s m [.ref (ad 16 i 0)].toArray below meth c D (Afr h sz) 5 (vx_MQ below (Qcs D h sz (fun r9 h' => r9 = some (.long (S.2 2 i)) ∧ h = h')) (Xcs D h sz (fun _ => False)) [.ref (ad 16 i 0)].toArray s 0 0 (Afr h sz)) 0 0 h 18 [(1, .long a), (3, .int (S.1 21 i 0)), (4, .int y), (0, .ref (ad 16 i 0))] [] := by
    intro n
    induction n with
    | zero =>
      intro y a hy hn ha
      refine j_iload E dX5_regrindAdded_18 rfl ?_
      refine j_iload_n E dX5_regrindAdded_20 rfl ?_
      refine j_icmp_ge (tgt := 41) E dX5_regrindAdded_21 (by decide) (fun _ => ?_) (fun q => (q (ge_of hy hsh (by omega) (nn_lt y))).elim)
      refine j_lload_n E dX5_regrindAdded_41 rfl ?_
      exact j_lret E hr dX5_regrindAdded_42 ⟨Nat.le_of_ble_eq_true rfl, Nat.le_of_ble_eq_true rfl⟩ ⟨by rw [ha, show nn y = nn (S.1 21 i 0) from hn, hsum], rfl⟩
    | succ n ih =>
      intro y a hy hn ha
      have hlt : nn y < nn (S.1 21 i 0) := by omega
      refine j_iload E dX5_regrindAdded_18 rfl ?_
      refine j_iload_n E dX5_regrindAdded_20 rfl ?_
      refine j_icmp_ge (tgt := 41) E dX5_regrindAdded_21 (by decide) (fun q => (nge_of hy hsh hlt (nn_lt _) q).elim) (fun _ => ?_)
      refine j_lload_n E dX5_regrindAdded_24 rfl ?_
      refine j_aload_n E dX5_regrindAdded_25 rfl ?_
      refine gf_X5_32 E (K0.x16 hi) rfl dX5_regrindAdded_26 ?_
      refine j_iload E dX5_regrindAdded_29 rfl ?_
      refine j_iald E (K0.x17 hi) (vin_of hy (show nn y < gl i by omega) (Nat.le_refl _) (by omega)) dX5_regrindAdded_31 ?_
      refine j_i2l E dX5_regrindAdded_32 ?_
      refine j_ladd E dX5_regrindAdded_33 ?_
      refine j_lstore_n E dX5_regrindAdded_34 (by decide) ?_
      refine j_iincK (k := 1) E ci_1 dX5_regrindAdded_35 rfl (by decide) ?_
      refine j_goto (tgt := 18) E dX5_regrindAdded_38 (by decide) ?_
      obtain ⟨a1, a2⟩ := nn_s hy hlt (nn_lt _)
      refine J.sub (lo' := [(1, .long (a + (G i (nn y)).toInt64)), (3, .int (S.1 21 i 0)), (4, .int (y + 1)), (0, .ref (ad 16 i 0))]) ⟨rfl, rfl, rfl, rfl, trivial⟩ ?_
      exact ih (y + 1) _ a1 (by omega) (by rw [a2, ha]; rfl)
  refine J.sub (lo' := [(1, .long 0), (3, .int (S.1 21 i 0)), (4, .int 0), (0, .ref (ad 16 i 0))]) ⟨rfl, congrArg (fun q => some (Value.int q)) (show mn (S.1 21 i 0) (nI (gl i)) = S.1 21 i 0 from if_neg (by rw [hsh]; exact nI_nlt hle (by omega))), rfl, rfl, trivial⟩ ?_
  exact K (nn (S.1 21 i 0)) 0 0 e_0 (by rw [nn_0]; omega) rfl
