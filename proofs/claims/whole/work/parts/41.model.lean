/-! the model: looks, first calls -/
theorem inB_f1 {v lw hi : Int32} (h : v < lw) : inB v lw hi = false := by
  cases hb : inB v lw hi with
  | false => rfl
  | true =>
    have h1 := (inB_iff.mp hb).1
    rw [i32_le] at h1
    rw [i32_lt] at h
    omega
theorem inB_f2 {v lw hi : Int32} (h : hi < v) : inB v lw hi = false := by
  cases hb : inB v lw hi with
  | false => rfl
  | true =>
    have h1 := (inB_iff.mp hb).2
    rw [i32_le] at h1
    rw [i32_lt] at h
    omega
theorem inB_t {v lw hi : Int32} (h1 : ¬ v < lw) (h2 : ¬ hi < v) : inB v lw hi = true := by
  rw [i32_lt] at h1 h2
  exact inB_iff.mpr ⟨by rw [i32_le]; omega, by rw [i32_le]; omega⟩
theorem b2i_n (b : Bool) : narrow .boolean (.int (b2i b)) = .int (b2i b) := by cases b <;> rfl
theorem bt {b : Bool} (h : b = true) : ¬ b = false := by rw [h]; decide
theorem le0_0 : (0 : Int32) ≤ 0 := by decide
theorem nle0_1 : ¬ (1 : Int32) ≤ 0 := by decide
theorem nle0_2 : ¬ (2 : Int32) ≤ 0 := by decide
theorem nle0_3 : ¬ (3 : Int32) ≤ 0 := by decide
theorem ne1_0 : ¬ (1 : Int32) = 0 := by decide
theorem vin_ne {x K : Int32} {b : Nat} (h : Rg x 0 b) (hK : nI b = K) (hne : ¬ x = K) (hb : b < 2 ^ 31) : vp_in x b := by
  rw [h.1]
  refine vp_in_nI ?_ hb
  have h1 := h.2.2
  rcases Nat.lt_or_ge (nn x) b with q | q
  · exact q
  · exact absurd (by rw [h.1, show nn x = b by omega, hK]) hne
theorem vin_nn {x : Int32} {k n : Nat} (h : x = nI (nn x) ∧ nn x < k) (h3 : k ≤ n) (h4 : n < 2 ^ 31) : vp_in x n := vin_of h.1 h.2 h3 h4
/-- a row of a table of two indices, as it lies on the stack -/
theorem row_e {ad : Nat → Nat → Nat} {b : Nat} {x : Int32} {st : List Value} (h : nn x < 5) : va_rf ((fun i => if i < 5 then some (ad b i) else none) x.toNatClampNeg) :: st = .ref (ad b (nn x)) :: st := by
  show va_rf (if nn x < 5 then some (ad b (nn x)) else none) :: st = _
  rw [if_pos h]
  rfl
theorem row_en {ad : Nat → Nat → Nat} {b k : Nat} {st : List Value} (h : k < 5) : va_rf ((fun i => if i < 5 then some (ad b i) else none) (nI k).toNatClampNeg) :: st = .ref (ad b k) :: st := by
  have e : nn (nI k) = k := nI_clamp (by omega)
  show va_rf (if nn (nI k) < 5 then some (ad b (nn (nI k))) else none) :: st = _
  rw [e, if_pos h]
  rfl
set_option maxHeartbeats 4000000 in
set_option maxRecDepth 100000 in
theorem c_in (l : Launch) (D : va_G) (h : AH) (v lw hi : Int32) : Ctr l D yX8_in cX8_in 3 (some .boolean) 0 0 0 0 [.int v, .int lw, .int hi] h (fun _ => False) (fun r9 h' => r9 = some (.int (b2i (inB v lw hi))) ∧ h = h') := by
  refine Ctr.of RX8 rfl (by decide) (Nat.le_of_ble_eq_true rfl) ?_
  intro sz p e s m below meth c E hin hr ht
  refine j_iload_n E dX8_in_0 rfl ?_
  refine j_iload_n E dX8_in_1 rfl ?_
  refine j_icmp_lt (tgt := 14) E dX8_in_2 (by decide) (fun c_2 => ?_) (fun c_2 => ?_)
  · refine j_iconst (v := 0) E dX8_in_14 ci_0 ?_
    exact j_zret E hr rfl dX8_in_15 ⟨Nat.le_of_ble_eq_true rfl, Nat.le_of_ble_eq_true rfl⟩ ⟨by rw [inB_f1 c_2]; rfl, rfl⟩
  · refine j_iload_n E dX8_in_5 rfl ?_
    refine j_iload_n E dX8_in_6 rfl ?_
    refine j_icmp_gt (tgt := 14) E dX8_in_7 (by decide) (fun c_7 => ?_) (fun c_7 => ?_)
    · refine j_iconst (v := 0) E dX8_in_14 ci_0 ?_
      exact j_zret E hr rfl dX8_in_15 ⟨Nat.le_of_ble_eq_true rfl, Nat.le_of_ble_eq_true rfl⟩ ⟨by rw [inB_f2 c_7]; rfl, rfl⟩
    · refine j_iconst (v := 1) E dX8_in_10 ci_1 ?_
      refine j_goto (tgt := 15) E dX8_in_11 (by decide) ?_
      exact j_zret E hr rfl dX8_in_15 ⟨Nat.le_of_ble_eq_true rfl, Nat.le_of_ble_eq_true rfl⟩ ⟨by rw [inB_t c_2 c_7]; rfl, rfl⟩
set_option maxHeartbeats 4000000 in
set_option maxRecDepth 100000 in
theorem c_isResin (l : Launch) (D : va_G) (S : St) (ad : Nat → Nat) (ar : Nat → Nat → Nat) (h : AH) (M : Mdl S ad ar h) (x : Int32) : Ctr l D yX8_isResin cX8_isResin 2 (some .boolean) 1 22 0 0 [.ref (ad 0), .int x] h (fun _ => False) (fun r9 h' => r9 = some (.int (b2i (isRes S x))) ∧ h = h') := by
  refine Ctr.of RX8 rfl (by decide) (Nat.le_of_ble_eq_true rfl) ?_
  intro sz p e s m below meth c E hin hr ht
  refine j_iload_n E dX8_isResin_0 rfl ?_
  refine j_iconst (v := 0) E dX8_isResin_1 ci_0 ?_
  refine j_aload_n E dX8_isResin_2 rfl ?_
  refine gf_X8_88 E M.o rfl dX8_isResin_3 ?_
  refine j_iconst (v := 1) E dX8_isResin_6 ci_1 ?_
  refine j_isub E dX8_isResin_7 ?_
  refine j_callS E (c_in l D _ _ _ _) (cw_X8_91 E ⟨Nat.le_of_ble_eq_true rfl, Nat.le_of_ble_eq_true rfl, Nat.le_of_ble_eq_true rfl, Nat.le_of_ble_eq_true rfl, Nat.le_of_ble_eq_true rfl⟩) (q_877 E.tb) rfl dX8_isResin_8 rfl (fun v8 h8 p8 => ?_)
  obtain ⟨rfl, rfl⟩ := p8
  exact j_zret E hr (b2i_n _) dX8_isResin_11 ⟨Nat.le_of_ble_eq_true rfl, Nat.le_of_ble_eq_true rfl⟩ ⟨rfl, rfl⟩
set_option maxHeartbeats 4000000 in
set_option maxRecDepth 100000 in
theorem c_isLot (l : Launch) (D : va_G) (S : St) (ad : Nat → Nat) (ar : Nat → Nat → Nat) (h : AH) (M : Mdl S ad ar h) (x : Int32) : Ctr l D yX8_isLot cX8_isLot 2 (some .boolean) 1 22 0 0 [.ref (ad 0), .int x] h (fun _ => False) (fun r9 h' => r9 = some (.int (b2i (isLot S x))) ∧ h = h') := by
  refine Ctr.of RX8 rfl (by decide) (Nat.le_of_ble_eq_true rfl) ?_
  intro sz p e s m below meth c E hin hr ht
  refine j_iload_n E dX8_isLot_0 rfl ?_
  refine j_iconst (v := 0) E dX8_isLot_1 ci_0 ?_
  refine j_aload_n E dX8_isLot_2 rfl ?_
  refine gf_X8_95 E M.o rfl dX8_isLot_3 ?_
  refine j_iconst (v := 1) E dX8_isLot_6 ci_1 ?_
  refine j_isub E dX8_isLot_7 ?_
  refine j_callS E (c_in l D _ _ _ _) (cw_X8_91 E ⟨Nat.le_of_ble_eq_true rfl, Nat.le_of_ble_eq_true rfl, Nat.le_of_ble_eq_true rfl, Nat.le_of_ble_eq_true rfl, Nat.le_of_ble_eq_true rfl⟩) (q_877 E.tb) rfl dX8_isLot_8 rfl (fun v8 h8 p8 => ?_)
  obtain ⟨rfl, rfl⟩ := p8
  exact j_zret E hr (b2i_n _) dX8_isLot_11 ⟨Nat.le_of_ble_eq_true rfl, Nat.le_of_ble_eq_true rfl⟩ ⟨rfl, rfl⟩
set_option maxHeartbeats 4000000 in
set_option maxRecDepth 100000 in
theorem c_isMould (l : Launch) (D : va_G) (S : St) (ad : Nat → Nat) (ar : Nat → Nat → Nat) (h : AH) (M : Mdl S ad ar h) (x : Int32) : Ctr l D yX8_isMould cX8_isMould 2 (some .boolean) 1 22 0 0 [.ref (ad 0), .int x] h (fun _ => False) (fun r9 h' => r9 = some (.int (b2i (isMou S x))) ∧ h = h') := by
  refine Ctr.of RX8 rfl (by decide) (Nat.le_of_ble_eq_true rfl) ?_
  intro sz p e s m below meth c E hin hr ht
  refine j_iload_n E dX8_isMould_0 rfl ?_
  refine j_iconst (v := 0) E dX8_isMould_1 ci_0 ?_
  refine j_aload_n E dX8_isMould_2 rfl ?_
  refine gf_X8_98 E M.o rfl dX8_isMould_3 ?_
  refine j_iconst (v := 1) E dX8_isMould_6 ci_1 ?_
  refine j_isub E dX8_isMould_7 ?_
  refine j_callS E (c_in l D _ _ _ _) (cw_X8_91 E ⟨Nat.le_of_ble_eq_true rfl, Nat.le_of_ble_eq_true rfl, Nat.le_of_ble_eq_true rfl, Nat.le_of_ble_eq_true rfl, Nat.le_of_ble_eq_true rfl⟩) (q_877 E.tb) rfl dX8_isMould_8 rfl (fun v8 h8 p8 => ?_)
  obtain ⟨rfl, rfl⟩ := p8
  exact j_zret E hr (b2i_n _) dX8_isMould_11 ⟨Nat.le_of_ble_eq_true rfl, Nat.le_of_ble_eq_true rfl⟩ ⟨rfl, rfl⟩
set_option maxHeartbeats 4000000 in
set_option maxRecDepth 100000 in
theorem c_isMachine (l : Launch) (D : va_G) (S : St) (ad : Nat → Nat) (ar : Nat → Nat → Nat) (h : AH) (M : Mdl S ad ar h) (x : Int32) : Ctr l D yX8_isMachine cX8_isMachine 2 (some .boolean) 1 22 0 0 [.ref (ad 0), .int x] h (fun _ => False) (fun r9 h' => r9 = some (.int (b2i (isMac S x))) ∧ h = h') := by
  refine Ctr.of RX8 rfl (by decide) (Nat.le_of_ble_eq_true rfl) ?_
  intro sz p e s m below meth c E hin hr ht
  refine j_iload_n E dX8_isMachine_0 rfl ?_
  refine j_iconst (v := 0) E dX8_isMachine_1 ci_0 ?_
  refine j_aload_n E dX8_isMachine_2 rfl ?_
  refine gf_X8_105 E M.o rfl dX8_isMachine_3 ?_
  refine j_iconst (v := 1) E dX8_isMachine_6 ci_1 ?_
  refine j_isub E dX8_isMachine_7 ?_
  refine j_callS E (c_in l D _ _ _ _) (cw_X8_91 E ⟨Nat.le_of_ble_eq_true rfl, Nat.le_of_ble_eq_true rfl, Nat.le_of_ble_eq_true rfl, Nat.le_of_ble_eq_true rfl, Nat.le_of_ble_eq_true rfl⟩) (q_877 E.tb) rfl dX8_isMachine_8 rfl (fun v8 h8 p8 => ?_)
  obtain ⟨rfl, rfl⟩ := p8
  exact j_zret E hr (b2i_n _) dX8_isMachine_11 ⟨Nat.le_of_ble_eq_true rfl, Nat.le_of_ble_eq_true rfl⟩ ⟨rfl, rfl⟩
set_option maxHeartbeats 4000000 in
set_option maxRecDepth 100000 in
theorem c_isOrder (l : Launch) (D : va_G) (S : St) (ad : Nat → Nat) (ar : Nat → Nat → Nat) (h : AH) (M : Mdl S ad ar h) (x : Int32) : Ctr l D yX8_isOrder cX8_isOrder 2 (some .boolean) 1 22 0 0 [.ref (ad 0), .int x] h (fun _ => False) (fun r9 h' => r9 = some (.int (b2i (isOrd S x))) ∧ h = h') := by
  refine Ctr.of RX8 rfl (by decide) (Nat.le_of_ble_eq_true rfl) ?_
  intro sz p e s m below meth c E hin hr ht
  refine j_iload_n E dX8_isOrder_0 rfl ?_
  refine j_iconst (v := 0) E dX8_isOrder_1 ci_0 ?_
  refine j_aload_n E dX8_isOrder_2 rfl ?_
  refine gf_X8_108 E M.o rfl dX8_isOrder_3 ?_
  refine j_iconst (v := 1) E dX8_isOrder_6 ci_1 ?_
  refine j_isub E dX8_isOrder_7 ?_
  refine j_callS E (c_in l D _ _ _ _) (cw_X8_91 E ⟨Nat.le_of_ble_eq_true rfl, Nat.le_of_ble_eq_true rfl, Nat.le_of_ble_eq_true rfl, Nat.le_of_ble_eq_true rfl, Nat.le_of_ble_eq_true rfl⟩) (q_877 E.tb) rfl dX8_isOrder_8 rfl (fun v8 h8 p8 => ?_)
  obtain ⟨rfl, rfl⟩ := p8
  exact j_zret E hr (b2i_n _) dX8_isOrder_11 ⟨Nat.le_of_ble_eq_true rfl, Nat.le_of_ble_eq_true rfl⟩ ⟨rfl, rfl⟩
set_option maxHeartbeats 4000000 in
set_option maxRecDepth 100000 in
theorem c_thrown (l : Launch) (D : va_G) (S : St) (ad : Nat → Nat) (ar : Nat → Nat → Nat) (h : AH) (M : Mdl S ad ar h) : Ctr l D yX8_thrown cX8_thrown 1 (some .int) 0 0 0 0 [.ref (ad 0)] h (fun _ => False) (fun r9 h' => r9 = some (.int (S.1 0 8 0)) ∧ h = h') := by
  refine Ctr.of RX8 rfl (by decide) (Nat.le_of_ble_eq_true rfl) ?_
  intro sz p e s m below meth c E hin hr ht
  refine j_aload_n E dX8_thrown_0 rfl ?_
  refine gf_X8_84 E M.o rfl dX8_thrown_1 ?_
  exact j_iret E hr dX8_thrown_4 ⟨Nat.le_of_ble_eq_true rfl, Nat.le_of_ble_eq_true rfl⟩ ⟨rfl, rfl⟩
set_option maxHeartbeats 4000000 in
set_option maxRecDepth 100000 in
theorem c_lots (l : Launch) (D : va_G) (S : St) (ad : Nat → Nat) (ar : Nat → Nat → Nat) (h : AH) (M : Mdl S ad ar h) : Ctr l D yX8_lots cX8_lots 1 (some .int) 0 0 0 0 [.ref (ad 0)] h (fun _ => False) (fun r9 h' => r9 = some (.int (p_lots S).2) ∧ Mdl (p_lots S).1 ad ar h') := by
  refine Ctr.of RX8 rfl (by decide) (Nat.le_of_ble_eq_true rfl) ?_
  intro sz p e s m below meth c E hin hr ht
  refine j_aload_n E dX8_lots_0 rfl ?_
  refine j_iconst (v := 0) E dX8_lots_1 ci_0 ?_
  refine pf_X8_84 E M.o (Nat.le_of_ble_eq_true rfl) dX8_lots_2 (fun h2 hMd u2 => ?_)
  have M := M.sc8 hMd u2
  refine j_aload_n E dX8_lots_5 rfl ?_
  refine gf_X8_95 E M.o rfl dX8_lots_6 ?_
  exact j_iret E hr dX8_lots_9 ⟨Nat.le_of_ble_eq_true rfl, Nat.le_of_ble_eq_true rfl⟩ ⟨rfl, M⟩
set_option maxHeartbeats 4000000 in
set_option maxRecDepth 100000 in
theorem c_hours (l : Launch) (D : va_G) (S : St) (ad : Nat → Nat) (ar : Nat → Nat → Nat) (h : AH) (M : Mdl S ad ar h) : Ctr l D yX8_hours cX8_hours 1 (some .int) 0 0 0 0 [.ref (ad 0)] h (fun _ => False) (fun r9 h' => r9 = some (.int (p_hours S).2) ∧ Mdl (p_hours S).1 ad ar h') := by
  refine Ctr.of RX8 rfl (by decide) (Nat.le_of_ble_eq_true rfl) ?_
  intro sz p e s m below meth c E hin hr ht
  refine j_aload_n E dX8_hours_0 rfl ?_
  refine j_iconst (v := 0) E dX8_hours_1 ci_0 ?_
  refine pf_X8_84 E M.o (Nat.le_of_ble_eq_true rfl) dX8_hours_2 (fun h2 hMd u2 => ?_)
  have M := M.sc8 hMd u2
  refine j_aload_n E dX8_hours_5 rfl ?_
  refine gf_X8_183 E M.o rfl dX8_hours_6 ?_
  exact j_iret E hr dX8_hours_9 ⟨Nat.le_of_ble_eq_true rfl, Nat.le_of_ble_eq_true rfl⟩ ⟨rfl, M⟩
set_option maxHeartbeats 4000000 in
set_option maxRecDepth 100000 in
theorem c_raises (l : Launch) (D : va_G) (S : St) (ad : Nat → Nat) (ar : Nat → Nat → Nat) (h : AH) (M : Mdl S ad ar h) (x : Int32) : Ctr l D yX8_raises cX8_raises 2 (some .int) 0 0 0 0 [.ref (ad 0), .int x] h (fun _ => False) (fun r9 h' => r9 = some (.int 0) ∧ Mdl (th S x) ad ar h') := by
  refine Ctr.of RX8 rfl (by decide) (Nat.le_of_ble_eq_true rfl) ?_
  intro sz p e s m below meth c E hin hr ht
  refine j_aload_n E dX8_raises_0 rfl ?_
  refine j_iload_n E dX8_raises_1 rfl ?_
  refine pf_X8_84 E M.o (Nat.le_of_ble_eq_true rfl) dX8_raises_2 (fun h2 hMd u2 => ?_)
  have M := M.sc8 hMd u2
  refine j_iconst (v := 0) E dX8_raises_5 ci_0 ?_
  exact j_iret E hr dX8_raises_6 ⟨Nat.le_of_ble_eq_true rfl, Nat.le_of_ble_eq_true rfl⟩ ⟨rfl, M⟩
set_option maxHeartbeats 4000000 in
set_option maxRecDepth 100000 in
theorem c_isCavity (l : Launch) (D : va_G) (S : St) (ad : Nat → Nat) (ar : Nat → Nat → Nat) (h : AH) (M : Mdl S ad ar h) (C : Cnt S) (mo ca : Int32) : Ctr l D yX8_isCavity cX8_isCavity 3 (some .boolean) 2 43 0 0 [.ref (ad 0), .int mo, .int ca] h (fun _ => False) (fun r9 h' => r9 = some (.int (b2i (isCav S mo ca))) ∧ h = h') := by
  refine Ctr.of RX8 rfl (by decide) (Nat.le_of_ble_eq_true rfl) ?_
  intro sz p e s m below meth c E hin hr ht
  refine j_aload_n E dX8_isCavity_0 rfl ?_
  refine j_iload_n E dX8_isCavity_1 rfl ?_
  refine j_callV E (c_isMould l D S ad ar h M mo) (cw_X8_101 E ⟨Nat.le_of_ble_eq_true rfl, Nat.le_of_ble_eq_true rfl, Nat.le_of_ble_eq_true rfl, Nat.le_of_ble_eq_true rfl, Nat.le_of_ble_eq_true rfl⟩) (q_939 E.tb) (q_15 E.tb) M.o rfl rfl dX8_isCavity_2 rfl (fun v2 h2 p2 => ?_)
  obtain ⟨rfl, rfl⟩ := p2
  refine j_if_eq (tgt := 28) E dX8_isCavity_5 (by decide) (fun c_5 => ?_) (fun c_5 => ?_)
  · refine j_iconst (v := 0) E dX8_isCavity_28 ci_0 ?_
    exact j_zret E hr rfl dX8_isCavity_29 ⟨Nat.le_of_ble_eq_true rfl, Nat.le_of_ble_eq_true rfl⟩ ⟨by rw [show isCav S mo ca = false by unfold isCav; rw [b2i_f c_5]; rfl]; rfl, rfl⟩
  · refine j_iload_n E dX8_isCavity_8 rfl ?_
    refine j_iconst (v := 0) E dX8_isCavity_9 ci_0 ?_
    refine j_aload_n E dX8_isCavity_10 rfl ?_
    refine gf_X8_25 E M.o rfl dX8_isCavity_11 ?_
    refine j_iload_n E dX8_isCavity_14 rfl ?_
    refine j_iald E M.a6 (vin_nn (isMou_of C.2.2.1 (b2i_t c_5)) C.2.2.1.2.2 (by decide)) dX8_isCavity_15 ?_
    refine j_iconst (v := 1) E dX8_isCavity_16 ci_1 ?_
    refine j_isub E dX8_isCavity_17 ?_
    refine j_callS E (c_in l D _ _ _ _) (cw_X8_91 E ⟨Nat.le_of_ble_eq_true rfl, Nat.le_of_ble_eq_true rfl, Nat.le_of_ble_eq_true rfl, Nat.le_of_ble_eq_true rfl, Nat.le_of_ble_eq_true rfl⟩) (q_877 E.tb) rfl dX8_isCavity_18 rfl (fun v18 h18 p18 => ?_)
    obtain ⟨rfl, rfl⟩ := p18
    refine j_if_eq (tgt := 28) E dX8_isCavity_21 (by decide) (fun c_21 => ?_) (fun c_21 => ?_)
    · refine j_iconst (v := 0) E dX8_isCavity_28 ci_0 ?_
      exact j_zret E hr rfl dX8_isCavity_29 ⟨Nat.le_of_ble_eq_true rfl, Nat.le_of_ble_eq_true rfl⟩ ⟨by rw [show isCav S mo ca = false by unfold isCav; rw [b2i_f c_21, Bool.and_false]]; rfl, rfl⟩
    · refine j_iconst (v := 1) E dX8_isCavity_24 ci_1 ?_
      refine j_goto (tgt := 29) E dX8_isCavity_25 (by decide) ?_
      exact j_zret E hr rfl dX8_isCavity_29 ⟨Nat.le_of_ble_eq_true rfl, Nat.le_of_ble_eq_true rfl⟩ ⟨by rw [show isCav S mo ca = true by unfold isCav; rw [b2i_t c_5, b2i_t c_21]; rfl]; rfl, rfl⟩
set_option maxHeartbeats 4000000 in
set_option maxRecDepth 100000 in
theorem c_addResin (l : Launch) (D : va_G) (S : St) (ad : Nat → Nat) (ar : Nat → Nat → Nat) (h : AH) (M : Mdl S ad ar h) (C : Cnt S) (x : Int32) : Ctr l D yX8_addResin cX8_addResin 2 (some .int) 1 22 0 0 [.ref (ad 0), .int x] h (fun _ => False) (fun r9 h' => r9 = some (.int (p_addResin S x).2) ∧ Mdl (p_addResin S x).1 ad ar h') := by
  refine Ctr.of RX8 rfl (by decide) (Nat.le_of_ble_eq_true rfl) ?_
  intro sz p e s m below meth c E hin hr ht
  refine j_aload_n E dX8_addResin_0 rfl ?_
  refine j_iload_n E dX8_addResin_1 rfl ?_
  refine j_iconst (v := 0) E dX8_addResin_2 ci_0 ?_
  refine j_bipush (v := 9) E dX8_addResin_3 cb_9 ?_
  refine j_callS E (c_in l D _ _ _ _) (cw_X8_91 E ⟨Nat.le_of_ble_eq_true rfl, Nat.le_of_ble_eq_true rfl, Nat.le_of_ble_eq_true rfl, Nat.le_of_ble_eq_true rfl, Nat.le_of_ble_eq_true rfl⟩) (q_877 E.tb) rfl dX8_addResin_5 rfl (fun v5 h5 p5 => ?_)
  obtain ⟨rfl, rfl⟩ := p5
  refine j_if_ne (tgt := 15) E dX8_addResin_8 (by decide) (fun c_8 => ?_) (fun c_8 => ?_)
  · refine j_aload_n E dX8_addResin_15 rfl ?_
    refine gf_X8_88 E M.o rfl dX8_addResin_16 ?_
    refine j_iconst (v := 4) E dX8_addResin_19 ci_4 ?_
    refine j_icmp_ne (tgt := 27) E dX8_addResin_20 (by decide) (fun c_20 => ?_) (fun c_20 => ?_)
    · refine j_iconst (v := 0) E dX8_addResin_27 ci_0 ?_
      refine pf_X8_84 E M.o (Nat.le_of_ble_eq_true rfl) dX8_addResin_28 (fun h28 hMd u28 => ?_)
      have M := M.sc8 hMd u28
      refine j_aload_n E dX8_addResin_31 rfl ?_
      refine gf_X8_84 E hMd rfl dX8_addResin_32 ?_
      refine j_if_le (tgt := 40) E dX8_addResin_35 (by decide) (fun _ => ?_) (fun q => (q le0_0).elim)
      refine j_aload_n E dX8_addResin_40 rfl ?_
      refine gf_X8_9 E M.o rfl dX8_addResin_41 ?_
      refine j_aload_n E dX8_addResin_44 rfl ?_
      refine gf_X8_88 E M.o rfl dX8_addResin_45 ?_
      refine j_iload_n E dX8_addResin_48 rfl ?_
      refine s_iast E M.a1 (vin_ne C.1 rfl c_20 (by decide)) dX8_addResin_49 (fun h49 n49 u49 => ?_)
      have M := M.st1 n49 u49
      refine j_aload_n E dX8_addResin_50 rfl ?_
      refine j_dup E dX8_addResin_51 rfl ?_
      refine gf_X8_88 E M.o rfl dX8_addResin_52 ?_
      refine j_iconst (v := 1) E dX8_addResin_55 ci_1 ?_
      refine j_iadd E dX8_addResin_56 ?_
      refine pf_X8_88 E M.o (Nat.le_of_ble_eq_true rfl) dX8_addResin_57 (fun h57 hMd u57 => ?_)
      have M := M.sc0 hMd u57
      refine j_aload_n E dX8_addResin_60 rfl ?_
      refine gf_X8_88 E M.o rfl dX8_addResin_61 ?_
      refine j_iconst (v := 1) E dX8_addResin_64 ci_1 ?_
      refine j_isub E dX8_addResin_65 ?_
      have e9 := show p_addResin S x = _ from by unfold p_addResin; rw [if_neg (bt (b2i_t c_8)), if_neg c_20]
      exact j_iret E hr dX8_addResin_66 ⟨Nat.le_of_ble_eq_true rfl, Nat.le_of_ble_eq_true rfl⟩ (by show _ ∧ _; rw [e9]; exact ⟨rfl, M⟩)
    · refine j_iconst (v := 2) E dX8_addResin_23 ci_2 ?_
      refine j_goto (tgt := 28) E dX8_addResin_24 (by decide) ?_
      refine pf_X8_84 E M.o (Nat.le_of_ble_eq_true rfl) dX8_addResin_28 (fun h28 hMd u28 => ?_)
      have M := M.sc8 hMd u28
      refine j_aload_n E dX8_addResin_31 rfl ?_
      refine gf_X8_84 E hMd rfl dX8_addResin_32 ?_
      refine j_if_le (tgt := 40) E dX8_addResin_35 (by decide) (fun q => (nle0_2 q).elim) (fun _ => ?_)
      refine j_iconst (v := 0) E dX8_addResin_38 ci_0 ?_
      have e9 : p_addResin S x = (th S 2, 0) := by unfold p_addResin; rw [if_neg (bt (b2i_t c_8)), if_pos c_20]
      exact j_iret E hr dX8_addResin_39 ⟨Nat.le_of_ble_eq_true rfl, Nat.le_of_ble_eq_true rfl⟩ (by show _ ∧ _; rw [e9]; exact ⟨rfl, M⟩)
  · refine j_iconst (v := 1) E dX8_addResin_11 ci_1 ?_
    refine j_goto (tgt := 28) E dX8_addResin_12 (by decide) ?_
    refine pf_X8_84 E M.o (Nat.le_of_ble_eq_true rfl) dX8_addResin_28 (fun h28 hMd u28 => ?_)
    have M := M.sc8 hMd u28
    refine j_aload_n E dX8_addResin_31 rfl ?_
    refine gf_X8_84 E hMd rfl dX8_addResin_32 ?_
    refine j_if_le (tgt := 40) E dX8_addResin_35 (by decide) (fun q => (nle0_1 q).elim) (fun _ => ?_)
    refine j_iconst (v := 0) E dX8_addResin_38 ci_0 ?_
    have e9 : p_addResin S x = (th S 1, 0) := by unfold p_addResin; rw [if_pos (b2i_f c_8)]
    exact j_iret E hr dX8_addResin_39 ⟨Nat.le_of_ble_eq_true rfl, Nat.le_of_ble_eq_true rfl⟩ (by show _ ∧ _; rw [e9]; exact ⟨rfl, M⟩)
