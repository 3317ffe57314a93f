/-! the class: looks and lookups -/
theorem rf_y {n : Nat} {f : Nat → Nat} {i : Nat} {st : List Value} (h : i < n) : va_rf (rfs n f i) :: st = .ref (f i) :: st := by
  unfold rfs; rw [if_pos h]; rfl
theorem rf_n {n : Nat} {f : Nat → Nat} {i : Nat} {st : List Value} (h : ¬ i < n) : va_rf (rfs n f i) :: st = .null :: st := by
  unfold rfs; rw [if_neg h]; rfl
theorem mx_c (x : Int32) : mx x 0 = mx 0 x := by
  unfold mx
  by_cases h : x < 0
  · rw [if_pos h, if_neg (fun q => by rw [i32_lt] at h q; omega)]
  · by_cases h2 : 0 < x
    · rw [if_neg h, if_pos h2]
    · rw [if_neg h, if_neg h2]
      refine Int32.toInt_inj.mp ?_
      rw [i32_lt] at h h2
      have : (0 : Int32).toInt = 0 := by decide
      omega
theorem no_cnt {x cnt : Int32} {b : Nat} (hc : Rg cnt 0 b) (hb : b < 2 ^ 31) (h : ¬ nn x < nn cnt) : inB x 0 (cnt - 1) = false := by
  cases hh : inB x 0 (cnt - 1) with
  | false => rfl
  | true => exact absurd (inB_cnt hc hb hh).2 h
theorem no_ge {x K cnt : Int32} {b : Nat} (hc : Rg cnt 0 b) (hb : b < 2 ^ 31) (hK : nI b = K) (h0 : ¬ x < 0) (h : ¬ x < K) : inB x 0 (cnt - 1) = false := by
  refine no_cnt hc hb ?_
  have e := nn_of h0
  rw [e, ← hK] at h
  intro q
  exact h (nI_lt (by have := hc.2.2; omega) hb)
theorem lt_K {x K : Int32} {b : Nat} (hK : nI b = K) (hb : b < 2 ^ 31) (h0 : ¬ x < 0) (h : x < K) : nn x < b := by
  have e := nn_of h0
  rw [e, ← hK] at h
  rcases Nat.lt_or_ge (nn x) b with q | q
  · exact q
  · exact absurd h (nI_nlt q (nn_lt x))
set_option maxHeartbeats 4000000 in
set_option maxRecDepth 100000 in
theorem k_requireRange (l : Launch) (D : va_G) (h : AH) (v lw hi : Int32) : Ctr l D yX7_requireRange cX7_requireRange 3 none 6 90 2 12 [.int v, .int lw, .int hi] h (fun E9 => E9 = "java/lang/IllegalArgumentException" ∧ inB v lw hi = false) (fun r9 h' => r9 = none ∧ h = h' ∧ inB v lw hi = true) := by
  refine Ctr.of RX7 rfl (by decide) (Nat.le_of_ble_eq_true rfl) ?_
  intro sz p e s m below meth c E hin hr ht
  refine j_iload_n E dX7_requireRange_0 rfl ?_
  refine j_iload_n E dX7_requireRange_1 rfl ?_
  refine j_icmp_lt (tgt := 10) E dX7_requireRange_2 (by decide) (fun c_2 => ?_) (fun c_2 => ?_)
  · exact j_throwW (cls := "java/lang/IllegalArgumentException") (text := "a number is out of range") (ik := 262) (is := 264) (ic := 266) E (by decide) (q_131 E.tb) (q_21 E.tb) xs_264 xa_IllegalArgumentException xg_IllegalArgumentException dX7_requireRange_10 dX7_requireRange_13 dX7_requireRange_14 dX7_requireRange_17 dX7_requireRange_20 ht ⟨Nat.le_of_ble_eq_true rfl, Nat.le_of_ble_eq_true rfl, Nat.le_of_ble_eq_true rfl, Nat.le_of_ble_eq_true rfl⟩ ⟨Nat.le_of_ble_eq_true rfl, Nat.le_of_ble_eq_true rfl⟩ ⟨rfl, inB_f1 c_2⟩
  · refine j_iload_n E dX7_requireRange_5 rfl ?_
    refine j_iload_n E dX7_requireRange_6 rfl ?_
    refine j_icmp_le (tgt := 21) E dX7_requireRange_7 (by decide) (fun c_7 => ?_) (fun c_7 => ?_)
    · exact j_vret E hr dX7_requireRange_21 ⟨Nat.le_of_ble_eq_true rfl, Nat.le_of_ble_eq_true rfl⟩ ⟨rfl, rfl, inB_t c_2 (i32_nlt c_7)⟩
    · exact j_throwW (cls := "java/lang/IllegalArgumentException") (text := "a number is out of range") (ik := 262) (is := 264) (ic := 266) E (by decide) (q_131 E.tb) (q_21 E.tb) xs_264 xa_IllegalArgumentException xg_IllegalArgumentException dX7_requireRange_10 dX7_requireRange_13 dX7_requireRange_14 dX7_requireRange_17 dX7_requireRange_20 ht ⟨Nat.le_of_ble_eq_true rfl, Nat.le_of_ble_eq_true rfl, Nat.le_of_ble_eq_true rfl, Nat.le_of_ble_eq_true rfl⟩ ⟨Nat.le_of_ble_eq_true rfl, Nat.le_of_ble_eq_true rfl⟩ ⟨rfl, inB_f2 (i32_ltof c_7)⟩
set_option maxHeartbeats 4000000 in
set_option maxRecDepth 100000 in
theorem k_dividedUp (l : Launch) (D : va_G) (h : AH) (a b : Int32) (hb : 1 ≤ b) : Ctr l D yX7_dividedUp cX7_dividedUp 2 (some .int) 0 0 0 0 [.int a, .int b] h (fun _ => False) (fun r9 h' => r9 = some (.int ((a + b - 1) / b)) ∧ h = h') := by
  refine Ctr.of RX7 rfl (by decide) (Nat.le_of_ble_eq_true rfl) ?_
  intro sz p e s m below meth c E hin hr ht
  refine j_iload_n E dX7_dividedUp_0 rfl ?_
  refine j_iconst (v := 1) E dX7_dividedUp_1 ci_1 ?_
  refine j_icmp_ge (tgt := 9) E dX7_dividedUp_2 (by decide) (fun _ => ?_) (fun q => (q hb).elim)
  refine j_iload_n E dX7_dividedUp_9 rfl ?_
  refine j_iload_n E dX7_dividedUp_10 rfl ?_
  refine j_iadd E dX7_dividedUp_11 ?_
  refine j_iconst (v := 1) E dX7_dividedUp_12 ci_1 ?_
  refine j_isub E dX7_dividedUp_13 ?_
  refine j_iload_n E dX7_dividedUp_14 rfl ?_
  refine j_idiv E dX7_dividedUp_15 (fun q => absurd (q ▸ hb) (by decide)) ?_
  exact j_iret E hr dX7_dividedUp_16 ⟨Nat.le_of_ble_eq_true rfl, Nat.le_of_ble_eq_true rfl⟩ ⟨rfl, rfl⟩
theorem le1_60 {x : Int32} {a b : Nat} (h : Rg x (a + 1) b) (hb : b < 2 ^ 31) : (1 : Int32) ≤ x := by
  rw [i32_le, h.toI hb]
  have : (1 : Int32).toInt = 1 := by decide
  have := h.2.1
  omega
set_option maxHeartbeats 4000000 in
set_option maxRecDepth 100000 in
theorem k_shotsOfHour (l : Launch) (D : va_G) (S : St) (gl : Nat → Nat) (G : Nat → Nat → Int32) (ad : Ad) (h : AH) (K0 : Cls S gl G ad h) (C : Cnt S) (i : Nat) (hi : i < nn (S.1 0 2 0)) (I : IMou S) : Ctr l D yX4_shotsOfHour cX4_shotsOfHour 1 (some .int) 0 0 0 0 [.ref (ad 12 i 0)] h (fun _ => False) (fun r9 h' => r9 = some (.int (3600 / S.1 10 i 0)) ∧ h = h') := by
  refine Ctr.of RX4 rfl (by decide) (Nat.le_of_ble_eq_true rfl) ?_
  intro sz p e s m below meth c E hin hr ht
  refine j_aload_n E dX4_shotsOfHour_0 rfl ?_
  refine gf_X4_24 E (K0.x12 hi) rfl dX4_shotsOfHour_1 ?_
  refine j_iconst (v := 1) E dX4_shotsOfHour_4 ci_1 ?_
  refine j_icmp_ge (tgt := 12) E dX4_shotsOfHour_5 (by decide) (fun _ => ?_) (fun q => (q (le1_60 (I i hi).2.2.2 (by decide))).elim)
  refine j_sipush (v := 3600) E dX4_shotsOfHour_12 cs_3600 ?_
  refine j_aload_n E dX4_shotsOfHour_15 rfl ?_
  refine gf_X4_24 E (K0.x12 hi) rfl dX4_shotsOfHour_16 ?_
  refine j_idiv E dX4_shotsOfHour_19 (rg_ne0 (I i hi).2.2.2) ?_
  exact j_iret E hr dX4_shotsOfHour_20 ⟨Nat.le_of_ble_eq_true rfl, Nat.le_of_ble_eq_true rfl⟩ ⟨rfl, rfl⟩
set_option maxHeartbeats 4000000 in
set_option maxRecDepth 100000 in
theorem k_isOpen (l : Launch) (D : va_G) (S : St) (gl : Nat → Nat) (G : Nat → Nat → Int32) (ad : Ad) (h : AH) (K0 : Cls S gl G ad h) (C : Cnt S) (i : Nat) (hi : i < nn (S.1 0 4 0)) : Ctr l D yX5_isOpen cX5_isOpen 1 (some .boolean) 0 0 0 0 [.ref (ad 16 i 0)] h (fun _ => False) (fun r9 h' => r9 = some (.int (b2i (decide (0 < S.1 19 i 0)))) ∧ h = h') := by
  refine Ctr.of RX5 rfl (by decide) (Nat.le_of_ble_eq_true rfl) ?_
  intro sz p e s m below meth c E hin hr ht
  refine j_aload_n E dX5_isOpen_0 rfl ?_
  refine gf_X5_23 E (K0.x16 hi) rfl dX5_isOpen_1 ?_
  refine j_if_le (tgt := 11) E dX5_isOpen_4 (by decide) (fun c_4 => ?_) (fun c_4 => ?_)
  · refine j_iconst (v := 0) E dX5_isOpen_11 ci_0 ?_
    exact j_zret E hr rfl dX5_isOpen_12 ⟨Nat.le_of_ble_eq_true rfl, Nat.le_of_ble_eq_true rfl⟩ ⟨by rw [decide_eq_false (i32_nlt c_4)]; rfl, rfl⟩
  · refine j_iconst (v := 1) E dX5_isOpen_7 ci_1 ?_
    refine j_goto (tgt := 12) E dX5_isOpen_8 (by decide) ?_
    exact j_zret E hr rfl dX5_isOpen_12 ⟨Nat.le_of_ble_eq_true rfl, Nat.le_of_ble_eq_true rfl⟩ ⟨by rw [decide_eq_true (i32_ltof c_4)]; rfl, rfl⟩
set_option maxHeartbeats 4000000 in
set_option maxRecDepth 100000 in
theorem k_hoursLeft (l : Launch) (D : va_G) (S : St) (gl : Nat → Nat) (G : Nat → Nat → Int32) (ad : Ad) (h : AH) (K0 : Cls S gl G ad h) (C : Cnt S) (i : Nat) (hi : i < nn (S.1 0 1 0)) (L : LR S) : Ctr l D yX2_hoursLeft cX2_hoursLeft 1 (some .int) 1 21 0 0 [.ref (ad 11 i 0)] h (fun _ => False) (fun r9 h' => r9 = some (.int (toDry S i)) ∧ h = h') := by
  refine Ctr.of RX2 rfl (by decide) (Nat.le_of_ble_eq_true rfl) ?_
  intro sz p e s m below meth c E hin hr ht
  refine j_aload_n E dX2_hoursLeft_0 rfl ?_
  refine gf_X2_7 E (K0.x11 hi) rfl dX2_hoursLeft_1 ?_
  refine gf_X2_17 E (K0.x10 (L i hi).2) rfl dX2_hoursLeft_4 ?_
  refine j_aload_n E dX2_hoursLeft_7 rfl ?_
  refine gf_X2_22 E (K0.x11 hi) rfl dX2_hoursLeft_8 ?_
  refine j_isub E dX2_hoursLeft_11 ?_
  refine j_iconst (v := 0) E dX2_hoursLeft_12 ci_0 ?_
  refine j_mmax E (q_337 E.tb) (q_338 E.tb) (q_12 E.tb) (q_339 E.tb) ⟨Nat.le_of_ble_eq_true rfl, Nat.le_of_ble_eq_true rfl, Nat.le_of_ble_eq_true rfl, Nat.le_of_ble_eq_true rfl⟩ dX2_hoursLeft_13 ?_
  exact j_iret E hr dX2_hoursLeft_16 ⟨Nat.le_of_ble_eq_true rfl, Nat.le_of_ble_eq_true rfl⟩ ⟨congrArg (fun q => some (Value.int q)) (mx_c _), rfl⟩
theorem eq_res {S : St} {gl : Nat → Nat} {G : Nat → Nat → Int32} {ad : Ad} {h : AH} (K0 : Cls S gl G ad h) {k : Nat} {x y : Int32} (hk : k = 10 ∨ k = 12 ∨ k = 16) (hx : x = nI (nn x) ∧ live S k (nn x) 0) (hy : y = nI (nn y) ∧ live S k (nn y) 0) : some (ad k (nn x) 0) = some (ad k (nn y) 0) ↔ x = y := by
  constructor
  · intro e
    have e2 := (K0.2 _ _ _ _ _ _ hx.2 hy.2 (Option.some.inj e)).2.1
    rw [hx.1, hy.1, e2]
  · intro e
    rw [e]
set_option maxHeartbeats 4000000 in
set_option maxRecDepth 100000 in
theorem k_isDryOf (l : Launch) (D : va_G) (S : St) (gl : Nat → Nat) (G : Nat → Nat → Int32) (ad : Ad) (h : AH) (K0 : Cls S gl G ad h) (C : Cnt S) (i : Nat) (hi : i < nn (S.1 0 1 0)) (L : LR S) (x : Int32) (hx : x = nI (nn x) ∧ nn x < nn (S.1 0 0 0)) : Ctr l D yX2_isDryOf cX2_isDryOf 2 (some .boolean) 2 41 0 0 [.ref (ad 11 i 0), .ref (ad 10 (nn x) 0)] h (fun _ => False) (fun r9 h' => r9 = some (.int (b2i (decide (S.1 3 i 0 = x ∧ toDry S i = 0)))) ∧ h = h') := by
  refine Ctr.of RX2 rfl (by decide) (Nat.le_of_ble_eq_true rfl) ?_
  intro sz p e s m below meth c E hin hr ht
  refine j_aload_n E dX2_isDryOf_0 rfl ?_
  refine gf_X2_7 E (K0.x11 hi) rfl dX2_isDryOf_1 ?_
  refine j_aload_n E dX2_isDryOf_4 rfl ?_
  refine j_acmp_ne (tgt := 19) (x := some (ad 10 (nn (S.1 3 i 0)) 0)) (y := some (ad 10 (nn x) 0)) E dX2_isDryOf_5 (by decide) (fun c_5 => ?_) (fun c_5 => ?_)
  · refine j_iconst (v := 0) E dX2_isDryOf_19 ci_0 ?_
    exact j_zret E hr rfl dX2_isDryOf_20 ⟨Nat.le_of_ble_eq_true rfl, Nat.le_of_ble_eq_true rfl⟩ ⟨by rw [decide_eq_false (fun q => c_5 ((eq_res K0 (Or.inl rfl) ⟨(L i hi).1, (L i hi).2, rfl⟩ ⟨hx.1, hx.2, rfl⟩).mpr q.1))]; rfl, rfl⟩
  · refine j_aload_n E dX2_isDryOf_8 rfl ?_
    refine j_callV E (k_hoursLeft l D S gl G ad h K0 C i hi L) (cw_X2_31 E ⟨Nat.le_of_ble_eq_true rfl, Nat.le_of_ble_eq_true rfl, Nat.le_of_ble_eq_true rfl, Nat.le_of_ble_eq_true rfl, Nat.le_of_ble_eq_true rfl⟩) (q_334 E.tb) (q_335 E.tb) (K0.x11 hi) rfl rfl dX2_isDryOf_9 rfl (fun v9 h9 p9 => ?_)
    obtain ⟨rfl, rfl⟩ := p9
    refine j_if_ne (tgt := 19) E dX2_isDryOf_12 (by decide) (fun c_12 => ?_) (fun c_12 => ?_)
    · refine j_iconst (v := 0) E dX2_isDryOf_19 ci_0 ?_
      exact j_zret E hr rfl dX2_isDryOf_20 ⟨Nat.le_of_ble_eq_true rfl, Nat.le_of_ble_eq_true rfl⟩ ⟨by rw [decide_eq_false (fun q => c_12 q.2)]; rfl, rfl⟩
    · refine j_iconst (v := 1) E dX2_isDryOf_15 ci_1 ?_
      refine j_goto (tgt := 20) E dX2_isDryOf_16 (by decide) ?_
      exact j_zret E hr rfl dX2_isDryOf_20 ⟨Nat.le_of_ble_eq_true rfl, Nat.le_of_ble_eq_true rfl⟩ ⟨by rw [decide_eq_true ⟨(eq_res K0 (Or.inl rfl) ⟨(L i hi).1, (L i hi).2, rfl⟩ ⟨hx.1, hx.2, rfl⟩).mp c_5, c_12⟩]; rfl, rfl⟩
theorem full3 {x K : Int32} {b : Nat} (h : Rg x 0 b) (hb : b < 2 ^ 31) (hK : nI b = K) (h2 : ¬ x < K) : x = K := by
  have h0 : ¬ x < 0 := h.lt0 hb
  have h3 : ¬ nn x < b := fun q => h2 (by rw [h.1, ← hK]; exact nI_lt q hb)
  have h4 := h.2.2
  rw [h.1, show nn x = b by omega, hK]
set_option maxHeartbeats 4000000 in
set_option maxRecDepth 100000 in
theorem k_isFull (l : Launch) (D : va_G) (S : St) (gl : Nat → Nat) (G : Nat → Nat → Int32) (ad : Ad) (h : AH) (K0 : Cls S gl G ad h) (C : Cnt S) : Ctr l D yX1_isFull cX1_isFull 1 (some .boolean) 0 0 0 0 [.ref (ad 5 0 0)] h (fun _ => False) (fun r9 h' => r9 = some (.int (b2i (decide (S.1 0 1 0 = 3)))) ∧ h = h') := by
  refine Ctr.of RX1 rfl (by decide) (Nat.le_of_ble_eq_true rfl) ?_
  intro sz p e s m below meth c E hin hr ht
  refine j_aload_n E dX1_isFull_0 rfl ?_
  refine gf_X1_17 E K0.x5 rfl dX1_isFull_1 ?_
  refine j_aload_n E dX1_isFull_4 rfl ?_
  refine gf_X1_11 E K0.x5 rfl dX1_isFull_5 ?_
  refine j_alen (v := 3) E K0.x6 rfl dX1_isFull_8 ?_
  refine j_icmp_lt (tgt := 16) E dX1_isFull_9 (by decide) (fun c_9 => ?_) (fun c_9 => ?_)
  · refine j_iconst (v := 0) E dX1_isFull_16 ci_0 ?_
    exact j_zret E hr rfl dX1_isFull_17 ⟨Nat.le_of_ble_eq_true rfl, Nat.le_of_ble_eq_true rfl⟩ ⟨by rw [decide_eq_false (fun q => by rw [show S.1 0 1 0 = 3 from q] at c_9; exact absurd c_9 (by decide))]; rfl, rfl⟩
  · refine j_iconst (v := 1) E dX1_isFull_12 ci_1 ?_
    refine j_goto (tgt := 17) E dX1_isFull_13 (by decide) ?_
    exact j_zret E hr rfl dX1_isFull_17 ⟨Nat.le_of_ble_eq_true rfl, Nat.le_of_ble_eq_true rfl⟩ ⟨by rw [decide_eq_true (full3 (K := 3) C.2.1 (by decide) rfl c_9)]; rfl, rfl⟩
set_option maxHeartbeats 4000000 in
set_option maxRecDepth 100000 in
theorem k_find (l : Launch) (D : va_G) (S : St) (gl : Nat → Nat) (G : Nat → Nat → Int32) (ad : Ad) (h : AH) (K0 : Cls S gl G ad h) (C : Cnt S) (x : Int32) : Ctr l D yX1_find cX1_find 2 (some (.object "MouldDesk$Lot")) 0 0 0 0 [.ref (ad 5 0 0), .int x] h (fun _ => False) (fun r9 h' => r9 = some (va_rf (if isLot S x = true then some (ad 11 (nn x) 0) else none)) ∧ h = h') := by
  refine Ctr.of RX1 rfl (by decide) (Nat.le_of_ble_eq_true rfl) ?_
  intro sz p e s m below meth c E hin hr ht
  refine j_iload_n E dX1_find_0 rfl ?_
  refine j_if_lt (tgt := 13) E dX1_find_1 (by decide) (fun c_1 => ?_) (fun c_1 => ?_)
  · refine j_null E dX1_find_13 ?_
    refine j_goto (tgt := 23) E dX1_find_14 (by decide) ?_
    exact j_aret E hr (Or.inl rfl) dX1_find_23 ⟨Nat.le_of_ble_eq_true rfl, Nat.le_of_ble_eq_true rfl⟩ ⟨by rw [if_neg (bt2 (show isLot S x = false from inB_f1 c_1))]; rfl, rfl⟩
  · refine j_iload_n E dX1_find_4 rfl ?_
    refine j_aload_n E dX1_find_5 rfl ?_
    refine gf_X1_11 E K0.x5 rfl dX1_find_6 ?_
    refine j_alen E K0.x6 rfl dX1_find_9 ?_
    refine j_icmp_lt (tgt := 17) E dX1_find_10 (by decide) (fun c_10 => ?_) (fun c_10 => ?_)
    · refine j_aload_n E dX1_find_17 rfl ?_
      refine gf_X1_11 E K0.x5 rfl dX1_find_18 ?_
      refine j_iload_n E dX1_find_21 rfl ?_
      refine j_aald E K0.x6 rfl (vin_of (nn_of c_1) (lt_K (b := 3) rfl (by decide) (by exact c_1) c_10) (Nat.le_refl 3) (by decide)) dX1_find_22 ?_
      rcases Nat.lt_or_ge (nn x) (nn (S.1 0 1 0)) with hlt | hge
      · refine J.stk (rf_y hlt) ?_
        exact j_aret E hr (Or.inr ⟨_, rfl⟩) dX1_find_23 ⟨Nat.le_of_ble_eq_true rfl, Nat.le_of_ble_eq_true rfl⟩ ⟨by rw [if_pos (show isLot S x = true from inB_mk C.2.1 (by decide) (nn_of c_1) hlt)]; rfl, rfl⟩
      · refine J.stk (rf_n (Nat.not_lt.mpr hge)) ?_
        exact j_aret E hr (Or.inl rfl) dX1_find_23 ⟨Nat.le_of_ble_eq_true rfl, Nat.le_of_ble_eq_true rfl⟩ ⟨by rw [if_neg (bt2 (show isLot S x = false from no_cnt C.2.1 (by decide) (Nat.not_lt.mpr hge)))]; rfl, rfl⟩
    · refine j_null E dX1_find_13 ?_
      refine j_goto (tgt := 23) E dX1_find_14 (by decide) ?_
      exact j_aret E hr (Or.inl rfl) dX1_find_23 ⟨Nat.le_of_ble_eq_true rfl, Nat.le_of_ble_eq_true rfl⟩ ⟨by rw [if_neg (bt2 (show isLot S x = false from no_ge C.2.1 (by decide) rfl c_1 c_10))]; rfl, rfl⟩
set_option maxHeartbeats 4000000 in
set_option maxRecDepth 100000 in
theorem k_resinOf (l : Launch) (D : va_G) (S : St) (gl : Nat → Nat) (G : Nat → Nat → Int32) (ad : Ad) (h : AH) (K0 : Cls S gl G ad h) (C : Cnt S) (x : Int32) : Ctr l D yX7_resinOf cX7_resinOf 3 (some (.object "MouldDesk$Resin")) 6 90 2 12 [.ref (ad 0 0 0), .int x] h (fun E9 => E9 = "java/lang/IndexOutOfBoundsException" ∧ isRes S x = false) (fun r9 h' => r9 = some (.ref (ad 10 (nn x) 0)) ∧ h = h' ∧ isRes S x = true) := by
  refine Ctr.of RX7 rfl (by decide) (Nat.le_of_ble_eq_true rfl) ?_
  intro sz p e s m below meth c E hin hr ht
  refine j_iload_n E dX7_resinOf_0 rfl ?_
  refine j_if_lt (tgt := 13) E dX7_resinOf_1 (by decide) (fun c_1 => ?_) (fun c_1 => ?_)
  · refine j_null E dX7_resinOf_13 ?_
    refine j_goto (tgt := 23) E dX7_resinOf_14 (by decide) ?_
    refine j_astore_nN E dX7_resinOf_23 (by decide) ?_
    refine j_aload_nN E dX7_resinOf_24 rfl ?_
    refine j_ifnonnullN E dX7_resinOf_25 ?_
    exact j_throwW (cls := "java/lang/IndexOutOfBoundsException") (text := "no such resin") (ik := 267) (is := 269) (ic := 271) E (by decide) (q_267 E.tb) (q_16 E.tb) xs_269 xa_IndexOutOfBoundsException xg_IndexOutOfBoundsException dX7_resinOf_28 dX7_resinOf_31 dX7_resinOf_32 dX7_resinOf_35 dX7_resinOf_38 ht ⟨Nat.le_of_ble_eq_true rfl, Nat.le_of_ble_eq_true rfl, Nat.le_of_ble_eq_true rfl, Nat.le_of_ble_eq_true rfl⟩ ⟨Nat.le_of_ble_eq_true rfl, Nat.le_of_ble_eq_true rfl⟩ ⟨rfl, inB_f1 c_1⟩
  · refine j_iload_n E dX7_resinOf_4 rfl ?_
    refine j_aload_n E dX7_resinOf_5 rfl ?_
    refine gf_X7_11 E K0.x0 rfl dX7_resinOf_6 ?_
    refine j_alen E K0.x1 rfl dX7_resinOf_9 ?_
    refine j_icmp_lt (tgt := 17) E dX7_resinOf_10 (by decide) (fun c_10 => ?_) (fun c_10 => ?_)
    · refine j_aload_n E dX7_resinOf_17 rfl ?_
      refine gf_X7_11 E K0.x0 rfl dX7_resinOf_18 ?_
      refine j_iload_n E dX7_resinOf_21 rfl ?_
      refine j_aald E K0.x1 rfl (vin_of (nn_of c_1) (lt_K (b := 4) rfl (by decide) (by exact c_1) c_10) (Nat.le_refl 4) (by decide)) dX7_resinOf_22 ?_
      rcases Nat.lt_or_ge (nn x) (nn (S.1 0 0 0)) with hlt | hge
      · refine J.stk (rf_y hlt) ?_
        refine j_astore_n E dX7_resinOf_23 (by decide) ?_
        refine j_aload_n E dX7_resinOf_24 rfl ?_
        refine j_ifnonnull (tgt := 39) E dX7_resinOf_25 (by decide) ?_
        refine j_aload_n E dX7_resinOf_39 rfl ?_
        exact j_aret E hr (Or.inr ⟨_, rfl⟩) dX7_resinOf_40 ⟨Nat.le_of_ble_eq_true rfl, Nat.le_of_ble_eq_true rfl⟩ ⟨rfl, rfl, inB_mk C.1 (by decide) (nn_of c_1) hlt⟩
      · refine J.stk (rf_n (Nat.not_lt.mpr hge)) ?_
        refine j_astore_nN E dX7_resinOf_23 (by decide) ?_
        refine j_aload_nN E dX7_resinOf_24 rfl ?_
        refine j_ifnonnullN E dX7_resinOf_25 ?_
        exact j_throwW (cls := "java/lang/IndexOutOfBoundsException") (text := "no such resin") (ik := 267) (is := 269) (ic := 271) E (by decide) (q_267 E.tb) (q_16 E.tb) xs_269 xa_IndexOutOfBoundsException xg_IndexOutOfBoundsException dX7_resinOf_28 dX7_resinOf_31 dX7_resinOf_32 dX7_resinOf_35 dX7_resinOf_38 ht ⟨Nat.le_of_ble_eq_true rfl, Nat.le_of_ble_eq_true rfl, Nat.le_of_ble_eq_true rfl, Nat.le_of_ble_eq_true rfl⟩ ⟨Nat.le_of_ble_eq_true rfl, Nat.le_of_ble_eq_true rfl⟩ ⟨rfl, no_cnt C.1 (by decide) (Nat.not_lt.mpr hge)⟩
    · refine j_null E dX7_resinOf_13 ?_
      refine j_goto (tgt := 23) E dX7_resinOf_14 (by decide) ?_
      refine j_astore_nN E dX7_resinOf_23 (by decide) ?_
      refine j_aload_nN E dX7_resinOf_24 rfl ?_
      refine j_ifnonnullN E dX7_resinOf_25 ?_
      exact j_throwW (cls := "java/lang/IndexOutOfBoundsException") (text := "no such resin") (ik := 267) (is := 269) (ic := 271) E (by decide) (q_267 E.tb) (q_16 E.tb) xs_269 xa_IndexOutOfBoundsException xg_IndexOutOfBoundsException dX7_resinOf_28 dX7_resinOf_31 dX7_resinOf_32 dX7_resinOf_35 dX7_resinOf_38 ht ⟨Nat.le_of_ble_eq_true rfl, Nat.le_of_ble_eq_true rfl, Nat.le_of_ble_eq_true rfl, Nat.le_of_ble_eq_true rfl⟩ ⟨Nat.le_of_ble_eq_true rfl, Nat.le_of_ble_eq_true rfl⟩ ⟨rfl, no_ge C.1 (by decide) rfl c_1 c_10⟩
set_option maxHeartbeats 4000000 in
set_option maxRecDepth 100000 in
theorem k_mouldOf (l : Launch) (D : va_G) (S : St) (gl : Nat → Nat) (G : Nat → Nat → Int32) (ad : Ad) (h : AH) (K0 : Cls S gl G ad h) (C : Cnt S) (x : Int32) : Ctr l D yX7_mouldOf cX7_mouldOf 3 (some (.object "MouldDesk$Mould")) 6 90 2 12 [.ref (ad 0 0 0), .int x] h (fun E9 => E9 = "java/lang/IndexOutOfBoundsException" ∧ isMou S x = false) (fun r9 h' => r9 = some (.ref (ad 12 (nn x) 0)) ∧ h = h' ∧ isMou S x = true) := by
  refine Ctr.of RX7 rfl (by decide) (Nat.le_of_ble_eq_true rfl) ?_
  intro sz p e s m below meth c E hin hr ht
  refine j_iload_n E dX7_mouldOf_0 rfl ?_
  refine j_if_lt (tgt := 13) E dX7_mouldOf_1 (by decide) (fun c_1 => ?_) (fun c_1 => ?_)
  · refine j_null E dX7_mouldOf_13 ?_
    refine j_goto (tgt := 23) E dX7_mouldOf_14 (by decide) ?_
    refine j_astore_nN E dX7_mouldOf_23 (by decide) ?_
    refine j_aload_nN E dX7_mouldOf_24 rfl ?_
    refine j_ifnonnullN E dX7_mouldOf_25 ?_
    exact j_throwW (cls := "java/lang/IndexOutOfBoundsException") (text := "no such mould") (ik := 267) (is := 277) (ic := 271) E (by decide) (q_267 E.tb) (q_16 E.tb) xs_277 xa_IndexOutOfBoundsException xg_IndexOutOfBoundsException dX7_mouldOf_28 dX7_mouldOf_31 dX7_mouldOf_32 dX7_mouldOf_35 dX7_mouldOf_38 ht ⟨Nat.le_of_ble_eq_true rfl, Nat.le_of_ble_eq_true rfl, Nat.le_of_ble_eq_true rfl, Nat.le_of_ble_eq_true rfl⟩ ⟨Nat.le_of_ble_eq_true rfl, Nat.le_of_ble_eq_true rfl⟩ ⟨rfl, inB_f1 c_1⟩
  · refine j_iload_n E dX7_mouldOf_4 rfl ?_
    refine j_aload_n E dX7_mouldOf_5 rfl ?_
    refine gf_X7_17 E K0.x0 rfl dX7_mouldOf_6 ?_
    refine j_alen E K0.x2 rfl dX7_mouldOf_9 ?_
    refine j_icmp_lt (tgt := 17) E dX7_mouldOf_10 (by decide) (fun c_10 => ?_) (fun c_10 => ?_)
    · refine j_aload_n E dX7_mouldOf_17 rfl ?_
      refine gf_X7_17 E K0.x0 rfl dX7_mouldOf_18 ?_
      refine j_iload_n E dX7_mouldOf_21 rfl ?_
      refine j_aald E K0.x2 rfl (vin_of (nn_of c_1) (lt_K (b := 5) rfl (by decide) (by exact c_1) c_10) (Nat.le_refl 5) (by decide)) dX7_mouldOf_22 ?_
      rcases Nat.lt_or_ge (nn x) (nn (S.1 0 2 0)) with hlt | hge
      · refine J.stk (rf_y hlt) ?_
        refine j_astore_n E dX7_mouldOf_23 (by decide) ?_
        refine j_aload_n E dX7_mouldOf_24 rfl ?_
        refine j_ifnonnull (tgt := 39) E dX7_mouldOf_25 (by decide) ?_
        refine j_aload_n E dX7_mouldOf_39 rfl ?_
        exact j_aret E hr (Or.inr ⟨_, rfl⟩) dX7_mouldOf_40 ⟨Nat.le_of_ble_eq_true rfl, Nat.le_of_ble_eq_true rfl⟩ ⟨rfl, rfl, inB_mk C.2.2.1 (by decide) (nn_of c_1) hlt⟩
      · refine J.stk (rf_n (Nat.not_lt.mpr hge)) ?_
        refine j_astore_nN E dX7_mouldOf_23 (by decide) ?_
        refine j_aload_nN E dX7_mouldOf_24 rfl ?_
        refine j_ifnonnullN E dX7_mouldOf_25 ?_
        exact j_throwW (cls := "java/lang/IndexOutOfBoundsException") (text := "no such mould") (ik := 267) (is := 277) (ic := 271) E (by decide) (q_267 E.tb) (q_16 E.tb) xs_277 xa_IndexOutOfBoundsException xg_IndexOutOfBoundsException dX7_mouldOf_28 dX7_mouldOf_31 dX7_mouldOf_32 dX7_mouldOf_35 dX7_mouldOf_38 ht ⟨Nat.le_of_ble_eq_true rfl, Nat.le_of_ble_eq_true rfl, Nat.le_of_ble_eq_true rfl, Nat.le_of_ble_eq_true rfl⟩ ⟨Nat.le_of_ble_eq_true rfl, Nat.le_of_ble_eq_true rfl⟩ ⟨rfl, no_cnt C.2.2.1 (by decide) (Nat.not_lt.mpr hge)⟩
    · refine j_null E dX7_mouldOf_13 ?_
      refine j_goto (tgt := 23) E dX7_mouldOf_14 (by decide) ?_
      refine j_astore_nN E dX7_mouldOf_23 (by decide) ?_
      refine j_aload_nN E dX7_mouldOf_24 rfl ?_
      refine j_ifnonnullN E dX7_mouldOf_25 ?_
      exact j_throwW (cls := "java/lang/IndexOutOfBoundsException") (text := "no such mould") (ik := 267) (is := 277) (ic := 271) E (by decide) (q_267 E.tb) (q_16 E.tb) xs_277 xa_IndexOutOfBoundsException xg_IndexOutOfBoundsException dX7_mouldOf_28 dX7_mouldOf_31 dX7_mouldOf_32 dX7_mouldOf_35 dX7_mouldOf_38 ht ⟨Nat.le_of_ble_eq_true rfl, Nat.le_of_ble_eq_true rfl, Nat.le_of_ble_eq_true rfl, Nat.le_of_ble_eq_true rfl⟩ ⟨Nat.le_of_ble_eq_true rfl, Nat.le_of_ble_eq_true rfl⟩ ⟨rfl, no_ge C.2.2.1 (by decide) rfl c_1 c_10⟩
set_option maxHeartbeats 4000000 in
set_option maxRecDepth 100000 in
theorem k_machineOf (l : Launch) (D : va_G) (S : St) (gl : Nat → Nat) (G : Nat → Nat → Int32) (ad : Ad) (h : AH) (K0 : Cls S gl G ad h) (C : Cnt S) (x : Int32) : Ctr l D yX7_machineOf cX7_machineOf 3 (some (.object "MouldDesk$Machine")) 6 90 2 12 [.ref (ad 0 0 0), .int x] h (fun E9 => E9 = "java/lang/IndexOutOfBoundsException" ∧ isMac S x = false) (fun r9 h' => r9 = some (.ref (ad 15 (nn x) 0)) ∧ h = h' ∧ isMac S x = true) := by
  refine Ctr.of RX7 rfl (by decide) (Nat.le_of_ble_eq_true rfl) ?_
  intro sz p e s m below meth c E hin hr ht
  refine j_iload_n E dX7_machineOf_0 rfl ?_
  refine j_if_lt (tgt := 13) E dX7_machineOf_1 (by decide) (fun c_1 => ?_) (fun c_1 => ?_)
  · refine j_null E dX7_machineOf_13 ?_
    refine j_goto (tgt := 23) E dX7_machineOf_14 (by decide) ?_
    refine j_astore_nN E dX7_machineOf_23 (by decide) ?_
    refine j_aload_nN E dX7_machineOf_24 rfl ?_
    refine j_ifnonnullN E dX7_machineOf_25 ?_
    exact j_throwW (cls := "java/lang/IndexOutOfBoundsException") (text := "no such machine") (ik := 267) (is := 281) (ic := 271) E (by decide) (q_267 E.tb) (q_16 E.tb) xs_281 xa_IndexOutOfBoundsException xg_IndexOutOfBoundsException dX7_machineOf_28 dX7_machineOf_31 dX7_machineOf_32 dX7_machineOf_35 dX7_machineOf_38 ht ⟨Nat.le_of_ble_eq_true rfl, Nat.le_of_ble_eq_true rfl, Nat.le_of_ble_eq_true rfl, Nat.le_of_ble_eq_true rfl⟩ ⟨Nat.le_of_ble_eq_true rfl, Nat.le_of_ble_eq_true rfl⟩ ⟨rfl, inB_f1 c_1⟩
  · refine j_iload_n E dX7_machineOf_4 rfl ?_
    refine j_aload_n E dX7_machineOf_5 rfl ?_
    refine gf_X7_23 E K0.x0 rfl dX7_machineOf_6 ?_
    refine j_alen E K0.x3 rfl dX7_machineOf_9 ?_
    refine j_icmp_lt (tgt := 17) E dX7_machineOf_10 (by decide) (fun c_10 => ?_) (fun c_10 => ?_)
    · refine j_aload_n E dX7_machineOf_17 rfl ?_
      refine gf_X7_23 E K0.x0 rfl dX7_machineOf_18 ?_
      refine j_iload_n E dX7_machineOf_21 rfl ?_
      refine j_aald E K0.x3 rfl (vin_of (nn_of c_1) (lt_K (b := 3) rfl (by decide) (by exact c_1) c_10) (Nat.le_refl 3) (by decide)) dX7_machineOf_22 ?_
      rcases Nat.lt_or_ge (nn x) (nn (S.1 0 3 0)) with hlt | hge
      · refine J.stk (rf_y hlt) ?_
        refine j_astore_n E dX7_machineOf_23 (by decide) ?_
        refine j_aload_n E dX7_machineOf_24 rfl ?_
        refine j_ifnonnull (tgt := 39) E dX7_machineOf_25 (by decide) ?_
        refine j_aload_n E dX7_machineOf_39 rfl ?_
        exact j_aret E hr (Or.inr ⟨_, rfl⟩) dX7_machineOf_40 ⟨Nat.le_of_ble_eq_true rfl, Nat.le_of_ble_eq_true rfl⟩ ⟨rfl, rfl, inB_mk C.2.2.2.1 (by decide) (nn_of c_1) hlt⟩
      · refine J.stk (rf_n (Nat.not_lt.mpr hge)) ?_
        refine j_astore_nN E dX7_machineOf_23 (by decide) ?_
        refine j_aload_nN E dX7_machineOf_24 rfl ?_
        refine j_ifnonnullN E dX7_machineOf_25 ?_
        exact j_throwW (cls := "java/lang/IndexOutOfBoundsException") (text := "no such machine") (ik := 267) (is := 281) (ic := 271) E (by decide) (q_267 E.tb) (q_16 E.tb) xs_281 xa_IndexOutOfBoundsException xg_IndexOutOfBoundsException dX7_machineOf_28 dX7_machineOf_31 dX7_machineOf_32 dX7_machineOf_35 dX7_machineOf_38 ht ⟨Nat.le_of_ble_eq_true rfl, Nat.le_of_ble_eq_true rfl, Nat.le_of_ble_eq_true rfl, Nat.le_of_ble_eq_true rfl⟩ ⟨Nat.le_of_ble_eq_true rfl, Nat.le_of_ble_eq_true rfl⟩ ⟨rfl, no_cnt C.2.2.2.1 (by decide) (Nat.not_lt.mpr hge)⟩
    · refine j_null E dX7_machineOf_13 ?_
      refine j_goto (tgt := 23) E dX7_machineOf_14 (by decide) ?_
      refine j_astore_nN E dX7_machineOf_23 (by decide) ?_
      refine j_aload_nN E dX7_machineOf_24 rfl ?_
      refine j_ifnonnullN E dX7_machineOf_25 ?_
      exact j_throwW (cls := "java/lang/IndexOutOfBoundsException") (text := "no such machine") (ik := 267) (is := 281) (ic := 271) E (by decide) (q_267 E.tb) (q_16 E.tb) xs_281 xa_IndexOutOfBoundsException xg_IndexOutOfBoundsException dX7_machineOf_28 dX7_machineOf_31 dX7_machineOf_32 dX7_machineOf_35 dX7_machineOf_38 ht ⟨Nat.le_of_ble_eq_true rfl, Nat.le_of_ble_eq_true rfl, Nat.le_of_ble_eq_true rfl, Nat.le_of_ble_eq_true rfl⟩ ⟨Nat.le_of_ble_eq_true rfl, Nat.le_of_ble_eq_true rfl⟩ ⟨rfl, no_ge C.2.2.2.1 (by decide) rfl c_1 c_10⟩
set_option maxHeartbeats 4000000 in
set_option maxRecDepth 100000 in
theorem k_orderOf (l : Launch) (D : va_G) (S : St) (gl : Nat → Nat) (G : Nat → Nat → Int32) (ad : Ad) (h : AH) (K0 : Cls S gl G ad h) (C : Cnt S) (x : Int32) : Ctr l D yX7_orderOf cX7_orderOf 3 (some (.object "MouldDesk$Order")) 6 90 2 12 [.ref (ad 0 0 0), .int x] h (fun E9 => E9 = "java/lang/IndexOutOfBoundsException" ∧ isOrd S x = false) (fun r9 h' => r9 = some (.ref (ad 16 (nn x) 0)) ∧ h = h' ∧ isOrd S x = true) := by
  refine Ctr.of RX7 rfl (by decide) (Nat.le_of_ble_eq_true rfl) ?_
  intro sz p e s m below meth c E hin hr ht
  refine j_iload_n E dX7_orderOf_0 rfl ?_
  refine j_if_lt (tgt := 13) E dX7_orderOf_1 (by decide) (fun c_1 => ?_) (fun c_1 => ?_)
  · refine j_null E dX7_orderOf_13 ?_
    refine j_goto (tgt := 23) E dX7_orderOf_14 (by decide) ?_
    refine j_astore_nN E dX7_orderOf_23 (by decide) ?_
    refine j_aload_nN E dX7_orderOf_24 rfl ?_
    refine j_ifnonnullN E dX7_orderOf_25 ?_
    exact j_throwW (cls := "java/lang/IndexOutOfBoundsException") (text := "no such order") (ik := 267) (is := 283) (ic := 271) E (by decide) (q_267 E.tb) (q_16 E.tb) xs_283 xa_IndexOutOfBoundsException xg_IndexOutOfBoundsException dX7_orderOf_28 dX7_orderOf_31 dX7_orderOf_32 dX7_orderOf_35 dX7_orderOf_38 ht ⟨Nat.le_of_ble_eq_true rfl, Nat.le_of_ble_eq_true rfl, Nat.le_of_ble_eq_true rfl, Nat.le_of_ble_eq_true rfl⟩ ⟨Nat.le_of_ble_eq_true rfl, Nat.le_of_ble_eq_true rfl⟩ ⟨rfl, inB_f1 c_1⟩
  · refine j_iload_n E dX7_orderOf_4 rfl ?_
    refine j_aload_n E dX7_orderOf_5 rfl ?_
    refine gf_X7_29 E K0.x0 rfl dX7_orderOf_6 ?_
    refine j_alen E K0.x4 rfl dX7_orderOf_9 ?_
    refine j_icmp_lt (tgt := 17) E dX7_orderOf_10 (by decide) (fun c_10 => ?_) (fun c_10 => ?_)
    · refine j_aload_n E dX7_orderOf_17 rfl ?_
      refine gf_X7_29 E K0.x0 rfl dX7_orderOf_18 ?_
      refine j_iload_n E dX7_orderOf_21 rfl ?_
      refine j_aald E K0.x4 rfl (vin_of (nn_of c_1) (lt_K (b := 8) rfl (by decide) (by exact c_1) c_10) (Nat.le_refl 8) (by decide)) dX7_orderOf_22 ?_
      rcases Nat.lt_or_ge (nn x) (nn (S.1 0 4 0)) with hlt | hge
      · refine J.stk (rf_y hlt) ?_
        refine j_astore_n E dX7_orderOf_23 (by decide) ?_
        refine j_aload_n E dX7_orderOf_24 rfl ?_
        refine j_ifnonnull (tgt := 39) E dX7_orderOf_25 (by decide) ?_
        refine j_aload_n E dX7_orderOf_39 rfl ?_
        exact j_aret E hr (Or.inr ⟨_, rfl⟩) dX7_orderOf_40 ⟨Nat.le_of_ble_eq_true rfl, Nat.le_of_ble_eq_true rfl⟩ ⟨rfl, rfl, inB_mk C.2.2.2.2 (by decide) (nn_of c_1) hlt⟩
      · refine J.stk (rf_n (Nat.not_lt.mpr hge)) ?_
        refine j_astore_nN E dX7_orderOf_23 (by decide) ?_
        refine j_aload_nN E dX7_orderOf_24 rfl ?_
        refine j_ifnonnullN E dX7_orderOf_25 ?_
        exact j_throwW (cls := "java/lang/IndexOutOfBoundsException") (text := "no such order") (ik := 267) (is := 283) (ic := 271) E (by decide) (q_267 E.tb) (q_16 E.tb) xs_283 xa_IndexOutOfBoundsException xg_IndexOutOfBoundsException dX7_orderOf_28 dX7_orderOf_31 dX7_orderOf_32 dX7_orderOf_35 dX7_orderOf_38 ht ⟨Nat.le_of_ble_eq_true rfl, Nat.le_of_ble_eq_true rfl, Nat.le_of_ble_eq_true rfl, Nat.le_of_ble_eq_true rfl⟩ ⟨Nat.le_of_ble_eq_true rfl, Nat.le_of_ble_eq_true rfl⟩ ⟨rfl, no_cnt C.2.2.2.2 (by decide) (Nat.not_lt.mpr hge)⟩
    · refine j_null E dX7_orderOf_13 ?_
      refine j_goto (tgt := 23) E dX7_orderOf_14 (by decide) ?_
      refine j_astore_nN E dX7_orderOf_23 (by decide) ?_
      refine j_aload_nN E dX7_orderOf_24 rfl ?_
      refine j_ifnonnullN E dX7_orderOf_25 ?_
      exact j_throwW (cls := "java/lang/IndexOutOfBoundsException") (text := "no such order") (ik := 267) (is := 283) (ic := 271) E (by decide) (q_267 E.tb) (q_16 E.tb) xs_283 xa_IndexOutOfBoundsException xg_IndexOutOfBoundsException dX7_orderOf_28 dX7_orderOf_31 dX7_orderOf_32 dX7_orderOf_35 dX7_orderOf_38 ht ⟨Nat.le_of_ble_eq_true rfl, Nat.le_of_ble_eq_true rfl, Nat.le_of_ble_eq_true rfl, Nat.le_of_ble_eq_true rfl⟩ ⟨Nat.le_of_ble_eq_true rfl, Nat.le_of_ble_eq_true rfl⟩ ⟨rfl, no_ge C.2.2.2.2 (by decide) rfl c_1 c_10⟩
set_option maxHeartbeats 4000000 in
set_option maxRecDepth 100000 in
theorem k_lotOf (l : Launch) (D : va_G) (S : St) (gl : Nat → Nat) (G : Nat → Nat → Int32) (ad : Ad) (h : AH) (K0 : Cls S gl G ad h) (C : Cnt S) (x : Int32) : Ctr l D yX7_lotOf cX7_lotOf 3 (some (.object "MouldDesk$Lot")) 6 90 2 12 [.ref (ad 0 0 0), .int x] h (fun E9 => E9 = "java/lang/IndexOutOfBoundsException" ∧ isLot S x = false) (fun r9 h' => r9 = some (.ref (ad 11 (nn x) 0)) ∧ h = h' ∧ isLot S x = true) := by
  refine Ctr.of RX7 rfl (by decide) (Nat.le_of_ble_eq_true rfl) ?_
  intro sz p e s m below meth c E hin hr ht
  refine j_aload_n E dX7_lotOf_0 rfl ?_
  refine gf_X7_36 E K0.x0 rfl dX7_lotOf_1 ?_
  refine j_iload_n E dX7_lotOf_4 rfl ?_
  refine j_callV E (k_find l D S gl G ad h K0 C x) (cw_X7_272 E ⟨Nat.le_of_ble_eq_true rfl, Nat.le_of_ble_eq_true rfl, Nat.le_of_ble_eq_true rfl, Nat.le_of_ble_eq_true rfl, Nat.le_of_ble_eq_true rfl⟩) (q_321 E.tb) (q_322 E.tb) K0.x5 rfl rfl dX7_lotOf_5 rfl (fun v5 h5 p5 => ?_)
  obtain ⟨rfl, rfl⟩ := p5
  rcases hok : isLot S x with _ | _
  · refine J.stk (st' := [.null]) rfl ?_
    refine j_astore_nN E dX7_lotOf_8 (by decide) ?_
    refine j_aload_nN E dX7_lotOf_9 rfl ?_
    refine j_ifnonnullN E dX7_lotOf_10 ?_
    exact j_throwW (cls := "java/lang/IndexOutOfBoundsException") (text := "no such lot") (ik := 267) (is := 275) (ic := 271) E (by decide) (q_267 E.tb) (q_16 E.tb) xs_275 xa_IndexOutOfBoundsException xg_IndexOutOfBoundsException dX7_lotOf_13 dX7_lotOf_16 dX7_lotOf_17 dX7_lotOf_20 dX7_lotOf_23 ht ⟨Nat.le_of_ble_eq_true rfl, Nat.le_of_ble_eq_true rfl, Nat.le_of_ble_eq_true rfl, Nat.le_of_ble_eq_true rfl⟩ ⟨Nat.le_of_ble_eq_true rfl, Nat.le_of_ble_eq_true rfl⟩ ⟨rfl, rfl⟩
  · refine J.stk (st' := [.ref (ad 11 (nn x) 0)]) rfl ?_
    refine j_astore_n E dX7_lotOf_8 (by decide) ?_
    refine j_aload_n E dX7_lotOf_9 rfl ?_
    refine j_ifnonnull (tgt := 24) E dX7_lotOf_10 (by decide) ?_
    refine j_aload_n E dX7_lotOf_24 rfl ?_
    exact j_aret E hr (Or.inr ⟨_, rfl⟩) dX7_lotOf_25 ⟨Nat.le_of_ble_eq_true rfl, Nat.le_of_ble_eq_true rfl⟩ ⟨rfl, rfl, rfl⟩
set_option maxHeartbeats 4000000 in
set_option maxRecDepth 100000 in
theorem k_cavityOf (l : Launch) (D : va_G) (S : St) (gl : Nat → Nat) (G : Nat → Nat → Int32) (ad : Ad) (h : AH) (K0 : Cls S gl G ad h) (C : Cnt S) (m9 : Nat) (hm : m9 < nn (S.1 0 2 0)) (hc : Rg (S.1 6 m9 0) 1 8) (x : Int32) : Ctr l D yX7_cavityOf cX7_cavityOf 4 (some (.object "MouldDesk$Cavity")) 6 90 2 12 [.ref (ad 12 m9 0), .int x] h (fun E9 => E9 = "java/lang/IndexOutOfBoundsException" ∧ inB x 0 (S.1 6 m9 0 - 1) = false) (fun r9 h' => r9 = some (.ref (ad 14 m9 (nn x))) ∧ h = h' ∧ inB x 0 (S.1 6 m9 0 - 1) = true) := by
  refine Ctr.of RX7 rfl (by decide) (Nat.le_of_ble_eq_true rfl) ?_
  intro sz p e s m below meth c E hin hr ht
  have hc8 := hc.2.2
  refine j_aload_n E dX7_cavityOf_0 rfl ?_
  refine gf_X7_143 E (K0.x12 hm) rfl dX7_cavityOf_1 ?_
  refine j_astore_n E dX7_cavityOf_4 (by decide) ?_
  refine j_iload_n E dX7_cavityOf_5 rfl ?_
  refine j_if_lt (tgt := 15) E dX7_cavityOf_6 (by decide) (fun c_6 => ?_) (fun c_6 => ?_)
  · refine j_null E dX7_cavityOf_15 ?_
    refine j_goto (tgt := 22) E dX7_cavityOf_16 (by decide) ?_
    refine j_astore_nN E dX7_cavityOf_22 (by decide) ?_
    refine j_aload_nN E dX7_cavityOf_23 rfl ?_
    refine j_ifnonnullN E dX7_cavityOf_24 ?_
    exact j_throwW (cls := "java/lang/IndexOutOfBoundsException") (text := "no such cavity") (ik := 267) (is := 279) (ic := 271) E (by decide) (q_267 E.tb) (q_16 E.tb) xs_279 xa_IndexOutOfBoundsException xg_IndexOutOfBoundsException dX7_cavityOf_27 dX7_cavityOf_30 dX7_cavityOf_31 dX7_cavityOf_34 dX7_cavityOf_37 ht ⟨Nat.le_of_ble_eq_true rfl, Nat.le_of_ble_eq_true rfl, Nat.le_of_ble_eq_true rfl, Nat.le_of_ble_eq_true rfl⟩ ⟨Nat.le_of_ble_eq_true rfl, Nat.le_of_ble_eq_true rfl⟩ ⟨rfl, inB_f1 c_6⟩
  · refine j_iload_n E dX7_cavityOf_9 rfl ?_
    refine j_aload_n E dX7_cavityOf_10 rfl ?_
    refine j_alen E (K0.x13 hm) rfl dX7_cavityOf_11 ?_
    refine j_icmp_lt (tgt := 19) E dX7_cavityOf_12 (by decide) (fun c_12 => ?_) (fun c_12 => ?_)
    · refine j_aload_n E dX7_cavityOf_19 rfl ?_
      refine j_iload_n E dX7_cavityOf_20 rfl ?_
      refine j_aald E (K0.x13 hm) rfl (vin_of (nn_of c_6) (lt_K (b := nn (S.1 6 m9 0)) rfl (by omega) c_6 c_12) (Nat.le_refl _) (by omega)) dX7_cavityOf_21 ?_
      refine J.stk (rf_y (lt_K (b := nn (S.1 6 m9 0)) rfl (by omega) c_6 c_12)) ?_
      refine j_astore_n E dX7_cavityOf_22 (by decide) ?_
      refine j_aload_n E dX7_cavityOf_23 rfl ?_
      refine j_ifnonnull (tgt := 38) E dX7_cavityOf_24 (by decide) ?_
      refine j_aload_n E dX7_cavityOf_38 rfl ?_
      exact j_aret E hr (Or.inr ⟨_, rfl⟩) dX7_cavityOf_39 ⟨Nat.le_of_ble_eq_true rfl, Nat.le_of_ble_eq_true rfl⟩ ⟨rfl, rfl, inB_mk (hc.wide (Nat.zero_le _) (Nat.le_refl _)) (by decide) (nn_of c_6) (lt_K (b := nn (S.1 6 m9 0)) rfl (by omega) c_6 c_12)⟩
    · refine j_null E dX7_cavityOf_15 ?_
      refine j_goto (tgt := 22) E dX7_cavityOf_16 (by decide) ?_
      refine j_astore_nN E dX7_cavityOf_22 (by decide) ?_
      refine j_aload_nN E dX7_cavityOf_23 rfl ?_
      refine j_ifnonnullN E dX7_cavityOf_24 ?_
      exact j_throwW (cls := "java/lang/IndexOutOfBoundsException") (text := "no such cavity") (ik := 267) (is := 279) (ic := 271) E (by decide) (q_267 E.tb) (q_16 E.tb) xs_279 xa_IndexOutOfBoundsException xg_IndexOutOfBoundsException dX7_cavityOf_27 dX7_cavityOf_30 dX7_cavityOf_31 dX7_cavityOf_34 dX7_cavityOf_37 ht ⟨Nat.le_of_ble_eq_true rfl, Nat.le_of_ble_eq_true rfl, Nat.le_of_ble_eq_true rfl, Nat.le_of_ble_eq_true rfl⟩ ⟨Nat.le_of_ble_eq_true rfl, Nat.le_of_ble_eq_true rfl⟩ ⟨rfl, no_cnt (hc.wide (Nat.zero_le _) (Nat.le_refl _)) (by decide) (fun q => c_12 (by rw [nn_of c_6]; exact nI_lt q (by omega)))⟩
