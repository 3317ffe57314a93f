/-! the class: the calls that only look -/
set_option maxHeartbeats 4000000 in
set_option maxRecDepth 100000 in
theorem k_lots (l : Launch) (D : va_G) (S : St) (gl : Nat → Nat) (G : Nat → Nat → Int32) (ad : Ad) (h : AH) (K0 : Cls S gl G ad h) (B : Nat) (I : Inv S B) (hI : IG S gl G) : Ctr l D yX7_lots cX7_lots 1 (some .int) 0 0 0 0 [.ref (ad 0 0 0)] h (fun _ => False) (fun r9 h' => r9 = some (.int (p_lots S).2) ∧ (p_lots S).1.1 0 8 0 = 0 ∧ h = h') := by
  refine Ctr.of RX7 rfl (by decide) (Nat.le_of_ble_eq_true rfl) ?_
  intro sz p e s m below meth c E hin hr ht
  refine j_aload_n E dX7_lots_0 rfl ?_
  refine gf_X7_36 E K0.x0 rfl dX7_lots_1 ?_
  refine gf_X7_78 E K0.x5 rfl dX7_lots_4 ?_
  exact j_iret E hr dX7_lots_7 ⟨Nat.le_of_ble_eq_true rfl, Nat.le_of_ble_eq_true rfl⟩ ⟨rfl, rfl, rfl⟩
set_option maxHeartbeats 4000000 in
set_option maxRecDepth 100000 in
theorem k_hours (l : Launch) (D : va_G) (S : St) (gl : Nat → Nat) (G : Nat → Nat → Int32) (ad : Ad) (h : AH) (K0 : Cls S gl G ad h) (B : Nat) (I : Inv S B) (hI : IG S gl G) : Ctr l D yX7_hours cX7_hours 1 (some .int) 0 0 0 0 [.ref (ad 0 0 0)] h (fun _ => False) (fun r9 h' => r9 = some (.int (p_hours S).2) ∧ (p_hours S).1.1 0 8 0 = 0 ∧ h = h') := by
  refine Ctr.of RX7 rfl (by decide) (Nat.le_of_ble_eq_true rfl) ?_
  intro sz p e s m below meth c E hin hr ht
  refine j_aload_n E dX7_hours_0 rfl ?_
  refine gf_X7_237 E K0.x0 rfl dX7_hours_1 ?_
  exact j_iret E hr dX7_hours_4 ⟨Nat.le_of_ble_eq_true rfl, Nat.le_of_ble_eq_true rfl⟩ ⟨rfl, rfl, rfl⟩
set_option maxHeartbeats 4000000 in
set_option maxRecDepth 100000 in
theorem k_hoursToDry (l : Launch) (D : va_G) (S : St) (gl : Nat → Nat) (G : Nat → Nat → Int32) (ad : Ad) (h : AH) (K0 : Cls S gl G ad h) (B : Nat) (I : Inv S B) (hI : IG S gl G) (x : Int32) : Ctr l D yX7_hoursToDry cX7_hoursToDry 2 (some .int) 7 112 2 12 [.ref (ad 0 0 0), .int x] h (fun E9 => (E9 = "java/lang/IndexOutOfBoundsException" ∧ (p_hoursToDry S x).1.1 0 8 0 = 1)) (fun r9 h' => r9 = some (.int (p_hoursToDry S x).2) ∧ (p_hoursToDry S x).1.1 0 8 0 = 0 ∧ h = h') := by
  refine Ctr.of RX7 rfl (by decide) (Nat.le_of_ble_eq_true rfl) ?_
  intro sz p e s m below meth c E hin hr ht
  have C := I.cnt
  refine j_aload_n E dX7_hoursToDry_0 rfl ?_
  refine j_iload_n E dX7_hoursToDry_1 rfl ?_
  refine j_callVx E (k_lotOf l D S gl G ad h K0 C x) (cw_X7_81 E ⟨Nat.le_of_ble_eq_true rfl, Nat.le_of_ble_eq_true rfl, Nat.le_of_ble_eq_true rfl, Nat.le_of_ble_eq_true rfl, Nat.le_of_ble_eq_true rfl⟩) (q_318 E.tb) (q_2 E.tb) K0.x0 rfl rfl dX7_hoursToDry_2 rfl ht rfl (fun Ex q => ⟨q.1, by unfold p_hoursToDry; rw [if_pos q.2]; rfl⟩) ⟨Nat.le_of_ble_eq_true rfl, Nat.le_of_ble_eq_true rfl⟩ (fun v2 h2 p2 => ?_)
  obtain ⟨rfl, rfl, hx⟩ := p2
  refine j_callV E (k_hoursLeft l D S gl G ad h K0 C (nn x) (isLot_of C.2.1 hx).2 I.lot.lr) (cw_X7_91 E ⟨Nat.le_of_ble_eq_true rfl, Nat.le_of_ble_eq_true rfl, Nat.le_of_ble_eq_true rfl, Nat.le_of_ble_eq_true rfl, Nat.le_of_ble_eq_true rfl⟩) (q_334 E.tb) (q_335 E.tb) (K0.x11 (isLot_of C.2.1 hx).2) rfl rfl dX7_hoursToDry_5 rfl (fun v5 h5 p5 => ?_)
  obtain ⟨rfl, rfl⟩ := p5
  have e9 : p_hoursToDry S x = (th S 0, toDry S (nn x)) := by unfold p_hoursToDry; rw [if_neg (bt hx)]
  exact j_iret E hr dX7_hoursToDry_8 ⟨Nat.le_of_ble_eq_true rfl, Nat.le_of_ble_eq_true rfl⟩ ⟨by rw [e9], by rw [e9]; rfl, rfl⟩
set_option maxHeartbeats 4000000 in
set_option maxRecDepth 100000 in
theorem k_dry (l : Launch) (D : va_G) (S : St) (gl : Nat → Nat) (G : Nat → Nat → Int32) (ad : Ad) (h : AH) (K0 : Cls S gl G ad h) (B : Nat) (I : Inv S B) (hI : IG S gl G) (x : Int32) : Ctr l D yX7_dry cX7_dry 2 (some .int) 7 112 2 12 [.ref (ad 0 0 0), .int x] h (fun E9 => (E9 = "java/lang/IndexOutOfBoundsException" ∧ (p_dry S x).1.1 0 8 0 = 1)) (fun r9 h' => r9 = some (.int (p_dry S x).2) ∧ (p_dry S x).1.1 0 8 0 = 0 ∧ h = h') := by
  refine Ctr.of RX7 rfl (by decide) (Nat.le_of_ble_eq_true rfl) ?_
  intro sz p e s m below meth c E hin hr ht
  have C := I.cnt
  refine j_aload_n E dX7_dry_0 rfl ?_
  refine gf_X7_36 E K0.x0 rfl dX7_dry_1 ?_
  refine j_aload_n E dX7_dry_4 rfl ?_
  refine j_iload_n E dX7_dry_5 rfl ?_
  refine j_callVx E (k_resinOf l D S gl G ad h K0 C x) (cw_X7_58 E ⟨Nat.le_of_ble_eq_true rfl, Nat.le_of_ble_eq_true rfl, Nat.le_of_ble_eq_true rfl, Nat.le_of_ble_eq_true rfl, Nat.le_of_ble_eq_true rfl⟩) (q_265 E.tb) (q_1 E.tb) K0.x0 rfl rfl dX7_dry_6 rfl ht rfl (fun Ex q => ⟨q.1, by unfold p_dry; rw [if_pos q.2]; rfl⟩) ⟨Nat.le_of_ble_eq_true rfl, Nat.le_of_ble_eq_true rfl⟩ (fun v6 h6 p6 => ?_)
  obtain ⟨rfl, rfl, hx⟩ := p6
  refine j_callV E (k_dryGrams l D S gl G ad h K0 C I.lot.lr x (isRes_of C.1 hx)) (cw_X7_95 E ⟨Nat.le_of_ble_eq_true rfl, Nat.le_of_ble_eq_true rfl, Nat.le_of_ble_eq_true rfl, Nat.le_of_ble_eq_true rfl, Nat.le_of_ble_eq_true rfl⟩) (q_345 E.tb) (q_346 E.tb) K0.x5 rfl rfl dX7_dry_9 rfl (fun v9 h9 p9 => ?_)
  obtain ⟨rfl, rfl⟩ := p9
  have e9 : p_dry S x = (th S 0, dryOf S x) := by unfold p_dry; rw [if_neg (bt hx)]
  exact j_iret E hr dX7_dry_12 ⟨Nat.le_of_ble_eq_true rfl, Nat.le_of_ble_eq_true rfl⟩ ⟨by rw [e9], by rw [e9]; rfl, rfl⟩
set_option maxHeartbeats 4000000 in
set_option maxRecDepth 100000 in
theorem k_regrind (l : Launch) (D : va_G) (S : St) (gl : Nat → Nat) (G : Nat → Nat → Int32) (ad : Ad) (h : AH) (K0 : Cls S gl G ad h) (B : Nat) (I : Inv S B) (hI : IG S gl G) (x : Int32) : Ctr l D yX7_regrind cX7_regrind 2 (some .int) 7 112 2 12 [.ref (ad 0 0 0), .int x] h (fun E9 => (E9 = "java/lang/IndexOutOfBoundsException" ∧ (p_regrind S x).1.1 0 8 0 = 1)) (fun r9 h' => r9 = some (.int (p_regrind S x).2) ∧ (p_regrind S x).1.1 0 8 0 = 0 ∧ h = h') := by
  refine Ctr.of RX7 rfl (by decide) (Nat.le_of_ble_eq_true rfl) ?_
  intro sz p e s m below meth c E hin hr ht
  have C := I.cnt
  refine j_aload_n E dX7_regrind_0 rfl ?_
  refine j_iload_n E dX7_regrind_1 rfl ?_
  refine j_callVx E (k_resinOf l D S gl G ad h K0 C x) (cw_X7_58 E ⟨Nat.le_of_ble_eq_true rfl, Nat.le_of_ble_eq_true rfl, Nat.le_of_ble_eq_true rfl, Nat.le_of_ble_eq_true rfl, Nat.le_of_ble_eq_true rfl⟩) (q_265 E.tb) (q_1 E.tb) K0.x0 rfl rfl dX7_regrind_2 rfl ht rfl (fun Ex q => ⟨q.1, by unfold p_regrind; rw [if_pos q.2]; rfl⟩) ⟨Nat.le_of_ble_eq_true rfl, Nat.le_of_ble_eq_true rfl⟩ (fun v2 h2 p2 => ?_)
  obtain ⟨rfl, rfl, hx⟩ := p2
  refine gf_X7_99 E (K0.x10 (isRes_of C.1 hx).2) rfl dX7_regrind_5 ?_
  have e9 : p_regrind S x = (th S 0, S.1 2 (nn x) 0) := by unfold p_regrind; rw [if_neg (bt hx)]
  exact j_iret E hr dX7_regrind_8 ⟨Nat.le_of_ble_eq_true rfl, Nat.le_of_ble_eq_true rfl⟩ ⟨by rw [e9], by rw [e9]; rfl, rfl⟩
set_option maxHeartbeats 4000000 in
set_option maxRecDepth 100000 in
theorem k_lacks (l : Launch) (D : va_G) (S : St) (gl : Nat → Nat) (G : Nat → Nat → Int32) (ad : Ad) (h : AH) (K0 : Cls S gl G ad h) (B : Nat) (I : Inv S B) (hI : IG S gl G) (x : Int32) : Ctr l D yX7_lacks cX7_lacks 2 (some .int) 7 112 2 12 [.ref (ad 0 0 0), .int x] h (fun E9 => (E9 = "java/lang/IndexOutOfBoundsException" ∧ (p_lacks S x).1.1 0 8 0 = 1)) (fun r9 h' => r9 = some (.int (p_lacks S x).2) ∧ (p_lacks S x).1.1 0 8 0 = 0 ∧ h = h') := by
  refine Ctr.of RX7 rfl (by decide) (Nat.le_of_ble_eq_true rfl) ?_
  intro sz p e s m below meth c E hin hr ht
  have C := I.cnt
  refine j_aload_n E dX7_lacks_0 rfl ?_
  refine j_iload_n E dX7_lacks_1 rfl ?_
  refine j_callVx E (k_orderOf l D S gl G ad h K0 C x) (cw_X7_190 E ⟨Nat.le_of_ble_eq_true rfl, Nat.le_of_ble_eq_true rfl, Nat.le_of_ble_eq_true rfl, Nat.le_of_ble_eq_true rfl, Nat.le_of_ble_eq_true rfl⟩) (q_539 E.tb) (q_5 E.tb) K0.x0 rfl rfl dX7_lacks_2 rfl ht rfl (fun Ex q => ⟨q.1, by unfold p_lacks; rw [if_pos q.2]; rfl⟩) ⟨Nat.le_of_ble_eq_true rfl, Nat.le_of_ble_eq_true rfl⟩ (fun v2 h2 p2 => ?_)
  obtain ⟨rfl, rfl, hx⟩ := p2
  refine gf_X7_213 E (K0.x16 (isOrd_of C.2.2.2.2 hx).2) rfl dX7_lacks_5 ?_
  have e9 : p_lacks S x = (th S 0, S.1 19 (nn x) 0) := by unfold p_lacks; rw [if_neg (bt hx)]
  exact j_iret E hr dX7_lacks_8 ⟨Nat.le_of_ble_eq_true rfl, Nat.le_of_ble_eq_true rfl⟩ ⟨by rw [e9], by rw [e9]; rfl, rfl⟩
set_option maxHeartbeats 4000000 in
set_option maxRecDepth 100000 in
theorem k_shots (l : Launch) (D : va_G) (S : St) (gl : Nat → Nat) (G : Nat → Nat → Int32) (ad : Ad) (h : AH) (K0 : Cls S gl G ad h) (B : Nat) (I : Inv S B) (hI : IG S gl G) (x : Int32) : Ctr l D yX7_shots cX7_shots 2 (some .int) 7 112 2 12 [.ref (ad 0 0 0), .int x] h (fun E9 => (E9 = "java/lang/IndexOutOfBoundsException" ∧ (p_shots S x).1.1 0 8 0 = 1)) (fun r9 h' => r9 = some (.int (p_shots S x).2) ∧ (p_shots S x).1.1 0 8 0 = 0 ∧ h = h') := by
  refine Ctr.of RX7 rfl (by decide) (Nat.le_of_ble_eq_true rfl) ?_
  intro sz p e s m below meth c E hin hr ht
  have C := I.cnt
  refine j_aload_n E dX7_shots_0 rfl ?_
  refine j_iload_n E dX7_shots_1 rfl ?_
  refine j_callVx E (k_orderOf l D S gl G ad h K0 C x) (cw_X7_190 E ⟨Nat.le_of_ble_eq_true rfl, Nat.le_of_ble_eq_true rfl, Nat.le_of_ble_eq_true rfl, Nat.le_of_ble_eq_true rfl, Nat.le_of_ble_eq_true rfl⟩) (q_539 E.tb) (q_5 E.tb) K0.x0 rfl rfl dX7_shots_2 rfl ht rfl (fun Ex q => ⟨q.1, by unfold p_shots; rw [if_pos q.2]; rfl⟩) ⟨Nat.le_of_ble_eq_true rfl, Nat.le_of_ble_eq_true rfl⟩ (fun v2 h2 p2 => ?_)
  obtain ⟨rfl, rfl, hx⟩ := p2
  refine gf_X7_221 E (K0.x16 (isOrd_of C.2.2.2.2 hx).2) rfl dX7_shots_5 ?_
  have e9 : p_shots S x = (th S 0, S.1 21 (nn x) 0) := by unfold p_shots; rw [if_neg (bt hx)]
  exact j_iret E hr dX7_shots_8 ⟨Nat.le_of_ble_eq_true rfl, Nat.le_of_ble_eq_true rfl⟩ ⟨by rw [e9], by rw [e9]; rfl, rfl⟩
set_option maxHeartbeats 4000000 in
set_option maxRecDepth 100000 in
theorem k_regrindIn (l : Launch) (D : va_G) (S : St) (gl : Nat → Nat) (G : Nat → Nat → Int32) (ad : Ad) (h : AH) (K0 : Cls S gl G ad h) (B : Nat) (I : Inv S B) (hI : IG S gl G) (x : Int32) : Ctr l D yX7_regrindIn cX7_regrindIn 2 (some .long) 7 112 2 12 [.ref (ad 0 0 0), .int x] h (fun E9 => (E9 = "java/lang/IndexOutOfBoundsException" ∧ (p_regrindIn S x).1.1 0 8 0 = 1)) (fun r9 h' => r9 = some (.long (p_regrindIn S x).2) ∧ (p_regrindIn S x).1.1 0 8 0 = 0 ∧ h = h') := by
  refine Ctr.of RX7 rfl (by decide) (Nat.le_of_ble_eq_true rfl) ?_
  intro sz p e s m below meth c E hin hr ht
  have C := I.cnt
  refine j_aload_n E dX7_regrindIn_0 rfl ?_
  refine j_iload_n E dX7_regrindIn_1 rfl ?_
  refine j_callVx E (k_orderOf l D S gl G ad h K0 C x) (cw_X7_190 E ⟨Nat.le_of_ble_eq_true rfl, Nat.le_of_ble_eq_true rfl, Nat.le_of_ble_eq_true rfl, Nat.le_of_ble_eq_true rfl, Nat.le_of_ble_eq_true rfl⟩) (q_539 E.tb) (q_5 E.tb) K0.x0 rfl rfl dX7_regrindIn_2 rfl ht rfl (fun Ex q => ⟨q.1, by unfold p_regrindIn; rw [if_pos q.2]; rfl⟩) ⟨Nat.le_of_ble_eq_true rfl, Nat.le_of_ble_eq_true rfl⟩ (fun v2 h2 p2 => ?_)
  obtain ⟨rfl, rfl, hx⟩ := p2
  refine gf_X7_224 E (K0.x16 (isOrd_of C.2.2.2.2 hx).2) rfl dX7_regrindIn_5 ?_
  have e9 : p_regrindIn S x = (th S 0, S.2 2 (nn x)) := by unfold p_regrindIn; rw [if_neg (bt hx)]
  exact j_lret E hr dX7_regrindIn_8 ⟨Nat.le_of_ble_eq_true rfl, Nat.le_of_ble_eq_true rfl⟩ ⟨by rw [e9], by rw [e9]; rfl, rfl⟩
set_option maxHeartbeats 4000000 in
set_option maxRecDepth 100000 in
theorem k_regrindByShots (l : Launch) (D : va_G) (S : St) (gl : Nat → Nat) (G : Nat → Nat → Int32) (ad : Ad) (h : AH) (K0 : Cls S gl G ad h) (B : Nat) (I : Inv S B) (hI : IG S gl G) (x : Int32) : Ctr l D yX7_regrindByShots cX7_regrindByShots 2 (some .long) 7 112 2 12 [.ref (ad 0 0 0), .int x] h (fun E9 => (E9 = "java/lang/IndexOutOfBoundsException" ∧ (p_regrindIn S x).1.1 0 8 0 = 1)) (fun r9 h' => r9 = some (.long (p_regrindIn S x).2) ∧ (p_regrindIn S x).1.1 0 8 0 = 0 ∧ h = h') := by
  refine Ctr.of RX7 rfl (by decide) (Nat.le_of_ble_eq_true rfl) ?_
  intro sz p e s m below meth c E hin hr ht
  have C := I.cnt
  refine j_aload_n E dX7_regrindByShots_0 rfl ?_
  refine j_iload_n E dX7_regrindByShots_1 rfl ?_
  refine j_callVx E (k_orderOf l D S gl G ad h K0 C x) (cw_X7_190 E ⟨Nat.le_of_ble_eq_true rfl, Nat.le_of_ble_eq_true rfl, Nat.le_of_ble_eq_true rfl, Nat.le_of_ble_eq_true rfl, Nat.le_of_ble_eq_true rfl⟩) (q_539 E.tb) (q_5 E.tb) K0.x0 rfl rfl dX7_regrindByShots_2 rfl ht rfl (fun Ex q => ⟨q.1, by unfold p_regrindIn; rw [if_pos q.2]; rfl⟩) ⟨Nat.le_of_ble_eq_true rfl, Nat.le_of_ble_eq_true rfl⟩ (fun v2 h2 p2 => ?_)
  obtain ⟨rfl, rfl, hx⟩ := p2
  refine j_callV E (k_regrindAdded l D S gl G ad h K0 (nn x) (isOrd_of C.2.2.2.2 hx).2 (hI _ (isOrd_of C.2.2.2.2 hx).2).1 (hI _ (isOrd_of C.2.2.2.2 hx).2).2.1 (by have := (hI _ (isOrd_of C.2.2.2.2 hx).2).2.2.1; omega) (hI _ (isOrd_of C.2.2.2.2 hx).2).2.2.2) (cw_X7_228 E ⟨Nat.le_of_ble_eq_true rfl, Nat.le_of_ble_eq_true rfl, Nat.le_of_ble_eq_true rfl, Nat.le_of_ble_eq_true rfl, Nat.le_of_ble_eq_true rfl⟩) (q_627 E.tb) (q_628 E.tb) (K0.x16 (isOrd_of C.2.2.2.2 hx).2) rfl rfl dX7_regrindByShots_5 rfl (fun v5 h5 p5 => ?_)
  obtain ⟨rfl, rfl⟩ := p5
  have e9 : p_regrindIn S x = (th S 0, S.2 2 (nn x)) := by unfold p_regrindIn; rw [if_neg (bt hx)]
  exact j_lret E hr dX7_regrindByShots_8 ⟨Nat.le_of_ble_eq_true rfl, Nat.le_of_ble_eq_true rfl⟩ ⟨by rw [e9], by rw [e9]; rfl, rfl⟩
theorem all_0 {S : St} {B : Nat} (I : IAll S B) (hB : B < 1000000) : (¬ (1 : Int32) ≤ S.1 0 6 0 ↔ S.1 0 6 0 = 0) ∧ ((if (1 : Int64) < S.2 0 0 then (1 : Int32) else if S.2 0 0 = 1 then 0 else -1) < 0 ↔ S.1 0 6 0 = 0) ∧ (¬ S.1 0 6 0 = 0 → ¬ S.2 0 0 = 0) := by
  obtain ⟨r, g, e, h1, h2⟩ := I
  have hb := r.2.2
  have e1 : lN 1 = 1 := rfl
  have k1 : ¬ (1 : Int32) ≤ S.1 0 6 0 ↔ S.1 0 6 0 = 0 := ⟨fun q => lt1_0 r (by omega) q, fun q p => ge1_ne p q⟩
  have k0 : S.1 0 6 0 = 0 ↔ nn (S.1 0 6 0) = 0 := ⟨fun q => by rw [q, nn_0], fun q => by rw [r.1, q]; rfl⟩
  refine ⟨k1, ?_, fun q => ?_⟩
  · rw [e, ← e1, k0]
    by_cases g1 : g = 0
    · subst g1
      have : nn (S.1 0 6 0) = 0 := by omega
      exact ⟨fun _ => this, fun _ => by decide⟩
    · have hn : ¬ nn (S.1 0 6 0) = 0 := by omega
      refine ⟨fun q => absurd q ?_, fun q => absurd q hn⟩
      by_cases g2 : 1 < g
      · rw [if_pos ((lN_lt (by decide) (by omega)).mpr g2)]; decide
      · rw [if_neg (fun q => g2 ((lN_lt (by decide) (by omega)).mp q)), show g = 1 by omega, if_pos rfl]; decide
  · rw [k0] at q
    rw [e]
    intro z
    have e0 : lN 0 = 0 := rfl
    rw [← e0] at z
    have := (lN_eq (by omega) (by decide)).mp z
    omega
theorem ne_share {S : St} {B : Nat} (I : IAll S B) (hB : B < 1000000) : ¬ S.1 0 6 0 = 0 → vf_n32 (FP.fdiv (FP.l2f (S.2 1 0)) (FP.l2f (S.2 0 0))) := fun q => nan32 ((all_0 I hB).2.2 q)
set_option maxHeartbeats 4000000 in
set_option maxRecDepth 100000 in
theorem k_regrindShare (l : Launch) (D : va_G) (S : St) (gl : Nat → Nat) (G : Nat → Nat → Int32) (ad : Ad) (h : AH) (K0 : Cls S gl G ad h) (B : Nat) (I : Inv S B) (hI : IG S gl G) (hB : B < 1000000) : Ctr l D yX7_regrindShare cX7_regrindShare 1 (some .float) 6 90 2 12 [.ref (ad 0 0 0)] h (fun E9 => (E9 = "java/lang/ArithmeticException" ∧ (p_regrindShare S).1.1 0 8 0 = 1)) (fun r9 h' => r9 = some (.float (p_regrindShare S).2) ∧ (p_regrindShare S).1.1 0 8 0 = 0 ∧ h = h') := by
  refine Ctr.of RX7 rfl (by decide) (Nat.le_of_ble_eq_true rfl) ?_
  intro sz p e s m below meth c E hin hr ht
  refine j_aload_n E dX7_regrindShare_0 rfl ?_
  refine gf_X7_245 E K0.x0 rfl dX7_regrindShare_1 ?_
  refine j_lconst (v := 1) E dX7_regrindShare_4 cl_1 ?_
  refine j_lcmp E dX7_regrindShare_5 ?_
  refine j_if_ge (tgt := 19) E dX7_regrindShare_6 (by decide) (fun c_6 => ?_) (fun c_6 => ?_)
  · refine j_aload_n E dX7_regrindShare_19 rfl ?_
    refine gf_X7_253 E K0.x0 rfl dX7_regrindShare_20 ?_
    refine j_l2f E dX7_regrindShare_23 ?_
    refine j_aload_n E dX7_regrindShare_24 rfl ?_
    refine gf_X7_245 E K0.x0 rfl dX7_regrindShare_25 ?_
    refine j_l2f E dX7_regrindShare_28 ?_
    refine j_fdiv E dX7_regrindShare_29 (ne_share I.all hB (fun q => i32_nlt c_6 ((all_0 I.all hB).2.1.mpr q))) ?_
    have hn : ¬ S.1 0 6 0 = 0 := fun q => i32_nlt c_6 ((all_0 I.all hB).2.1.mpr q)
    have e9 : p_regrindShare S = (th S 0, FP.fdiv (FP.l2f (S.2 1 0)) (FP.l2f (S.2 0 0))) := by unfold p_regrindShare; rw [if_neg hn]
    exact j_fret E hr dX7_regrindShare_30 ⟨Nat.le_of_ble_eq_true rfl, Nat.le_of_ble_eq_true rfl⟩ ⟨by rw [e9], by rw [e9]; rfl, rfl⟩
  · exact j_throw (cls := "java/lang/ArithmeticException") (text := "no shot") (ik := 248) (is := 250) (ic := 252) E (by decide) (q_717 E.tb) (q_29 E.tb) xs_250 xa_ArithmeticException xg_ArithmeticException dX7_regrindShare_9 dX7_regrindShare_12 dX7_regrindShare_13 dX7_regrindShare_15 dX7_regrindShare_18 ht ⟨Nat.le_of_ble_eq_true rfl, Nat.le_of_ble_eq_true rfl, Nat.le_of_ble_eq_true rfl, Nat.le_of_ble_eq_true rfl⟩ ⟨Nat.le_of_ble_eq_true rfl, Nat.le_of_ble_eq_true rfl⟩ ⟨rfl, by unfold p_regrindShare; rw [if_pos ((all_0 I.all hB).2.1.mp (i32_ltof c_6))]; rfl⟩
set_option maxHeartbeats 4000000 in
set_option maxRecDepth 100000 in
theorem k_meanParts (l : Launch) (D : va_G) (S : St) (gl : Nat → Nat) (G : Nat → Nat → Int32) (ad : Ad) (h : AH) (K0 : Cls S gl G ad h) (B : Nat) (I : Inv S B) (hI : IG S gl G) (hB : B < 1000000) : Ctr l D yX7_meanParts cX7_meanParts 1 (some .double) 6 90 2 12 [.ref (ad 0 0 0)] h (fun E9 => (E9 = "java/lang/ArithmeticException" ∧ (p_meanParts S).1.1 0 8 0 = 1)) (fun r9 h' => r9 = some (.double (p_meanParts S).2) ∧ (p_meanParts S).1.1 0 8 0 = 0 ∧ h = h') := by
  refine Ctr.of RX7 rfl (by decide) (Nat.le_of_ble_eq_true rfl) ?_
  intro sz p e s m below meth c E hin hr ht
  refine j_aload_n E dX7_meanParts_0 rfl ?_
  refine gf_X7_256 E K0.x0 rfl dX7_meanParts_1 ?_
  refine j_iconst (v := 1) E dX7_meanParts_4 ci_1 ?_
  refine j_icmp_ge (tgt := 18) E dX7_meanParts_5 (by decide) (fun c_5 => ?_) (fun c_5 => ?_)
  · refine j_aload_n E dX7_meanParts_18 rfl ?_
    refine gf_X7_259 E K0.x0 rfl dX7_meanParts_19 ?_
    refine j_i2d E dX7_meanParts_22 ?_
    refine j_aload_n E dX7_meanParts_23 rfl ?_
    refine gf_X7_256 E K0.x0 rfl dX7_meanParts_24 ?_
    refine j_i2d E dX7_meanParts_27 ?_
    refine j_ddiv E dX7_meanParts_28 (nan64 (ge1_ne c_5)) ?_
    have e9 : p_meanParts S = (th S 0, FP.ddiv (FP.i2d (S.1 0 7 0)) (FP.i2d (S.1 0 6 0))) := by unfold p_meanParts; rw [if_neg (ge1_ne c_5)]
    exact j_dret E hr dX7_meanParts_29 ⟨Nat.le_of_ble_eq_true rfl, Nat.le_of_ble_eq_true rfl⟩ ⟨by rw [e9], by rw [e9]; rfl, rfl⟩
  · exact j_throw (cls := "java/lang/ArithmeticException") (text := "no shot") (ik := 248) (is := 250) (ic := 252) E (by decide) (q_717 E.tb) (q_29 E.tb) xs_250 xa_ArithmeticException xg_ArithmeticException dX7_meanParts_8 dX7_meanParts_11 dX7_meanParts_12 dX7_meanParts_14 dX7_meanParts_17 ht ⟨Nat.le_of_ble_eq_true rfl, Nat.le_of_ble_eq_true rfl, Nat.le_of_ble_eq_true rfl, Nat.le_of_ble_eq_true rfl⟩ ⟨Nat.le_of_ble_eq_true rfl, Nat.le_of_ble_eq_true rfl⟩ ⟨rfl, by unfold p_meanParts; rw [if_pos ((all_0 I.all hB).1.mp c_5)]; rfl⟩
