/-! the model: grams that are dry, moulds, machines -/
theorem dryOfN_th {S : St} {t r : Int32} : ∀ n, dryOfN (th S t) r n = dryOfN S r n
  | 0 => rfl
  | n + 1 => by show dryOfN (th S t) r n + dryT (th S t) r n = _; rw [dryOfN_th n]; rfl
theorem dryOf_th {S : St} {t r : Int32} : dryOf (th S t) r = dryOf S r := dryOfN_th _
theorem lt_of2 {x : Int32} {k n : Nat} (h : x = nI (nn x) ∧ nn x < k) (h2 : k ≤ n) : x = nI (nn x) ∧ nn x < n := ⟨h.1, Nat.lt_of_lt_of_le h.2 h2⟩
theorem cav_of {S : St} {mo ca : Int32} (C : Cnt S) (I : IMou S) (h : isCav S mo ca = true) : (mo = nI (nn mo) ∧ nn mo < 5) ∧ (ca = nI (nn ca) ∧ nn ca < 8) ∧ Rg (S.1 6 (nn mo) 0) 1 8 ∧ nn mo < nn (S.1 0 2 0) := by
  unfold isCav at h
  rw [Bool.and_eq_true] at h
  have h1 := isMou_of C.2.2.1 h.1
  have h2 := (I _ h1.2).1
  have h3 := inB_cnt (h2.wide (Nat.zero_le _) (Nat.le_refl _)) (by decide) h.2
  exact ⟨lt_of2 h1 C.2.2.1.2.2, lt_of2 h3 h2.2.2, h2, h1.2⟩
theorem livN_c {S : St} {mo c i j : Nat} (hc : c ≠ 12) : ∀ n, (livN S mo n).1 c i j = S.1 c i j
  | 0 => rfl
  | n + 1 => (s1_c hc).trans (livN_c hc n)
theorem mx0 (f : Int32) : mx 0 f = nI (nn f) := by
  unfold mx
  by_cases h : f < 0
  · rw [if_neg (by rw [i32_lt] at h ⊢; have : (0 : Int32).toInt = 0 := by decide
                   omega)]
    have e : nn f = 0 := by
      show f.toInt.toNat = 0
      rw [i32_lt] at h
      have : (0 : Int32).toInt = 0 := by decide
      omega
    rw [e]; rfl
  · by_cases h2 : 0 < f
    · rw [if_pos h2]; exact nn_of h
    · rw [if_neg h2]
      have e := nn_of h
      have e2 : nn f = 0 := by
        rw [i32_lt] at h h2
        have : (0 : Int32).toInt = 0 := by decide
        show f.toInt.toNat = 0
        omega
      rw [e2]; rfl
set_option maxHeartbeats 4000000 in
set_option maxRecDepth 100000 in
theorem c_dryOf (l : Launch) (D : va_G) (S : St) (ad : Nat → Nat) (ar : Nat → Nat → Nat) (h : AH) (M : Mdl S ad ar h) (C : Cnt S) (x : Int32) (L : LR S) : Ctr l D yX8_dryOf cX8_dryOf 4 (some .int) 2 42 0 0 [.ref (ad 0), .int x] h (fun _ => False) (fun r9 h' => r9 = some (.int (dryOf S x)) ∧ h = h') := by
  refine Ctr.of RX8 rfl (by decide) (Nat.le_of_ble_eq_true rfl) ?_
  intro sz p e s m below meth c E hin hr ht
  have hL3 := C.2.1.2.2
  refine j_iconst (v := 0) E dX8_dryOf_0 ci_0 ?_
  refine j_istore_n E dX8_dryOf_1 (by decide) ?_
  refine j_iconst (v := 0) E dX8_dryOf_2 ci_0 ?_
  refine j_istore_n E dX8_dryOf_3 (by decide) ?_
  have K : ∀ (n : Nat) (y a : Int32), y = nI (nn y) → nn y + n = nn (S.1 0 1 0) → a = dryOfN S x (nn y) → J p l e { frames := 2, cells := 0, slots := 0, locals := 42 } s m [.ref (ad 0), .int x].toArray below meth c D (Afr h sz) 4 (vx_MQ below (Qcs D h sz (fun r9 h' => r9 = some (.int (dryOf S x)) ∧ h = h')) (Xcs D h sz (fun _ => False)) [.ref (ad 0), .int x].toArray s 0 0 (Afr h sz)) 0 0 h 4 [(2, .int a), (3, .int y), (0, .ref (ad 0)), (1, .int x)] [] := by
    intro n
    induction n with
    | zero =>
      intro y a hy hn ha
      refine j_iload_n E dX8_dryOf_4 rfl ?_
      refine j_aload_n E dX8_dryOf_5 rfl ?_
      refine gf_X8_95 E M.o rfl dX8_dryOf_6 ?_
      refine j_icmp_ge (tgt := 49) E dX8_dryOf_9 (by decide) (fun _ => ?_) (fun q => (q (ge_of hy C.2.1.1 (by omega) (by omega))).elim)
      refine j_iload_n E dX8_dryOf_49 rfl ?_
      exact j_iret E hr dX8_dryOf_50 ⟨Nat.le_of_ble_eq_true rfl, Nat.le_of_ble_eq_true rfl⟩ ⟨by rw [ha, show nn y = nn (S.1 0 1 0) from hn]; rfl, rfl⟩
    | succ n ih =>
      intro y a hy hn ha
      have hlt : nn y < nn (S.1 0 1 0) := by omega
      refine j_iload_n E dX8_dryOf_4 rfl ?_
      refine j_aload_n E dX8_dryOf_5 rfl ?_
      refine gf_X8_95 E M.o rfl dX8_dryOf_6 ?_
      refine j_icmp_ge (tgt := 49) E dX8_dryOf_9 (by decide) (fun q => (nge_of hy C.2.1.1 hlt (by omega) q).elim) (fun _ => ?_)
      refine j_iload_n E dX8_dryOf_12 rfl ?_
      refine j_aload_n E dX8_dryOf_13 rfl ?_
      refine gf_X8_16 E M.o rfl dX8_dryOf_14 ?_
      refine j_iload_n E dX8_dryOf_17 rfl ?_
      refine j_iald E M.a3 (vin_of hy hlt hL3 (by decide)) dX8_dryOf_18 ?_
      refine j_iload_n E dX8_dryOf_19 rfl ?_
      refine j_icmp_ne (tgt := 40) E dX8_dryOf_20 (by decide) (fun c_20 => ?_) (fun c_20 => ?_)
      · refine j_iconst (v := 0) E dX8_dryOf_40 ci_0 ?_
        refine j_iadd E dX8_dryOf_41 ?_
        refine j_istore_n E dX8_dryOf_42 (by decide) ?_
        refine j_iincK (k := 1) E ci_1 dX8_dryOf_43 rfl (by decide) ?_
        refine j_goto (tgt := 4) E dX8_dryOf_46 (by decide) ?_
        obtain ⟨a1, a2⟩ := nn_s hy hlt (by omega)
        refine J.sub (lo' := [(2, .int (a + 0)), (3, .int (y + 1)), (0, .ref (ad 0)), (1, .int x)]) ⟨rfl, rfl, rfl, rfl, trivial⟩ ?_
        exact ih (y + 1) _ a1 (by omega) (by rw [a2, ha]; show _ = dryOfN S x (nn y) + dryT S x (nn y); unfold dryT; rw [if_neg (fun hh => c_20 hh.1)])
      · refine j_aload_n E dX8_dryOf_23 rfl ?_
        refine j_iload_n E dX8_dryOf_24 rfl ?_
        refine j_callV E (c_toDry l D S ad ar h M C y ⟨hy, hlt⟩ L) (cw_X8_128 E ⟨Nat.le_of_ble_eq_true rfl, Nat.le_of_ble_eq_true rfl, Nat.le_of_ble_eq_true rfl, Nat.le_of_ble_eq_true rfl, Nat.le_of_ble_eq_true rfl⟩) (q_910 E.tb) (q_12 E.tb) M.o rfl rfl dX8_dryOf_25 rfl (fun v25 h25 p25 => ?_)
        obtain ⟨rfl, rfl⟩ := p25
        refine j_if_ne (tgt := 40) E dX8_dryOf_28 (by decide) (fun c_28 => ?_) (fun c_28 => ?_)
        · refine j_iconst (v := 0) E dX8_dryOf_40 ci_0 ?_
          refine j_iadd E dX8_dryOf_41 ?_
          refine j_istore_n E dX8_dryOf_42 (by decide) ?_
          refine j_iincK (k := 1) E ci_1 dX8_dryOf_43 rfl (by decide) ?_
          refine j_goto (tgt := 4) E dX8_dryOf_46 (by decide) ?_
          obtain ⟨a1, a2⟩ := nn_s hy hlt (by omega)
          refine J.sub (lo' := [(2, .int (a + 0)), (3, .int (y + 1)), (0, .ref (ad 0)), (1, .int x)]) ⟨rfl, rfl, rfl, rfl, trivial⟩ ?_
          exact ih (y + 1) _ a1 (by omega) (by rw [a2, ha]; show _ = dryOfN S x (nn y) + dryT S x (nn y); unfold dryT; rw [if_neg (fun hh => c_28 hh.2)])
        · refine j_aload_n E dX8_dryOf_31 rfl ?_
          refine gf_X8_19 E M.o rfl dX8_dryOf_32 ?_
          refine j_iload_n E dX8_dryOf_35 rfl ?_
          refine j_iald E M.a4 (vin_of hy hlt hL3 (by decide)) dX8_dryOf_36 ?_
          refine j_goto (tgt := 41) E dX8_dryOf_37 (by decide) ?_
          refine j_iadd E dX8_dryOf_41 ?_
          refine j_istore_n E dX8_dryOf_42 (by decide) ?_
          refine j_iincK (k := 1) E ci_1 dX8_dryOf_43 rfl (by decide) ?_
          refine j_goto (tgt := 4) E dX8_dryOf_46 (by decide) ?_
          obtain ⟨a1, a2⟩ := nn_s hy hlt (by omega)
          refine J.sub (lo' := [(2, .int (a + S.1 4 (nn y) 0)), (3, .int (y + 1)), (0, .ref (ad 0)), (1, .int x)]) ⟨rfl, rfl, rfl, rfl, trivial⟩ ?_
          exact ih (y + 1) _ a1 (by omega) (by rw [a2, ha]; show _ = dryOfN S x (nn y) + dryT S x (nn y); unfold dryT; rw [if_pos ⟨c_20, c_28⟩])
  refine J.sub (lo' := [(2, .int 0), (3, .int 0), (0, .ref (ad 0)), (1, .int x)]) ⟨rfl, rfl, rfl, rfl, trivial⟩ ?_
  exact K (nn (S.1 0 1 0)) 0 0 e0_nn (by rw [nn_0]; omega) rfl
set_option maxHeartbeats 4000000 in
set_option maxRecDepth 100000 in
theorem c_dry (l : Launch) (D : va_G) (S : St) (ad : Nat → Nat) (ar : Nat → Nat → Nat) (h : AH) (M : Mdl S ad ar h) (C : Cnt S) (x : Int32) (L : LR S) : Ctr l D yX8_dry cX8_dry 2 (some .int) 3 65 0 0 [.ref (ad 0), .int x] h (fun _ => False) (fun r9 h' => r9 = some (.int (p_dry S x).2) ∧ Mdl (p_dry S x).1 ad ar h') := by
  refine Ctr.of RX8 rfl (by decide) (Nat.le_of_ble_eq_true rfl) ?_
  intro sz p e s m below meth c E hin hr ht
  refine j_aload_n E dX8_dry_0 rfl ?_
  refine j_aload_n E dX8_dry_1 rfl ?_
  refine j_iload_n E dX8_dry_2 rfl ?_
  refine j_callV E (c_isResin l D S ad ar h M x) (cw_X8_111 E ⟨Nat.le_of_ble_eq_true rfl, Nat.le_of_ble_eq_true rfl, Nat.le_of_ble_eq_true rfl, Nat.le_of_ble_eq_true rfl, Nat.le_of_ble_eq_true rfl⟩) (q_885 E.tb) (q_9 E.tb) M.o rfl rfl dX8_dry_3 rfl (fun v3 h3 p3 => ?_)
  obtain ⟨rfl, rfl⟩ := p3
  refine j_if_eq (tgt := 13) E dX8_dry_6 (by decide) (fun c_6 => ?_) (fun c_6 => ?_)
  · refine j_iconst (v := 1) E dX8_dry_13 ci_1 ?_
    refine pf_X8_84 E M.o (Nat.le_of_ble_eq_true rfl) dX8_dry_14 (fun h14 hMd u14 => ?_)
    have M := M.sc8 hMd u14
    refine j_aload_n E dX8_dry_17 rfl ?_
    refine gf_X8_84 E hMd rfl dX8_dry_18 ?_
    refine j_if_le (tgt := 28) E dX8_dry_21 (by decide) (fun q => (nle0_1 q).elim) (fun _ => ?_)
    refine j_iconst (v := 0) E dX8_dry_24 ci_0 ?_
    refine j_goto (tgt := 33) E dX8_dry_25 (by decide) ?_
    have e9 : p_dry S x = (th S 1, 0) := by unfold p_dry; rw [if_pos (b2i_f c_6)]
    exact j_iret E hr dX8_dry_33 ⟨Nat.le_of_ble_eq_true rfl, Nat.le_of_ble_eq_true rfl⟩ (by show _ ∧ _; rw [e9]; exact ⟨rfl, M⟩)
  · refine j_iconst (v := 0) E dX8_dry_9 ci_0 ?_
    refine j_goto (tgt := 14) E dX8_dry_10 (by decide) ?_
    refine pf_X8_84 E M.o (Nat.le_of_ble_eq_true rfl) dX8_dry_14 (fun h14 hMd u14 => ?_)
    have M := M.sc8 hMd u14
    refine j_aload_n E dX8_dry_17 rfl ?_
    refine gf_X8_84 E hMd rfl dX8_dry_18 ?_
    refine j_if_le (tgt := 28) E dX8_dry_21 (by decide) (fun _ => ?_) (fun q => (q le0_0).elim)
    refine j_aload_n E dX8_dry_28 rfl ?_
    refine j_iload_n E dX8_dry_29 rfl ?_
    refine j_callV E (c_dryOf l D _ ad ar _ M C x L) (cw_X8_132 E ⟨Nat.le_of_ble_eq_true rfl, Nat.le_of_ble_eq_true rfl, Nat.le_of_ble_eq_true rfl, Nat.le_of_ble_eq_true rfl, Nat.le_of_ble_eq_true rfl⟩) (q_919 E.tb) (q_13 E.tb) M.o rfl rfl dX8_dry_30 rfl (fun v30 h30 p30 => ?_)
    obtain ⟨rfl, rfl⟩ := p30
    have e9 := show p_dry S x = _ from by unfold p_dry; rw [if_neg (bt (b2i_t c_6))]
    exact j_iret E hr dX8_dry_33 ⟨Nat.le_of_ble_eq_true rfl, Nat.le_of_ble_eq_true rfl⟩ (by show _ ∧ _; rw [e9]; exact ⟨congrArg (fun q => some (Value.int q)) dryOf_th, M⟩)
set_option maxHeartbeats 4000000 in
set_option maxRecDepth 100000 in
theorem c_regrind (l : Launch) (D : va_G) (S : St) (ad : Nat → Nat) (ar : Nat → Nat → Nat) (h : AH) (M : Mdl S ad ar h) (C : Cnt S) (x : Int32) : Ctr l D yX8_regrind cX8_regrind 2 (some .int) 2 43 0 0 [.ref (ad 0), .int x] h (fun _ => False) (fun r9 h' => r9 = some (.int (p_regrind S x).2) ∧ Mdl (p_regrind S x).1 ad ar h') := by
  refine Ctr.of RX8 rfl (by decide) (Nat.le_of_ble_eq_true rfl) ?_
  intro sz p e s m below meth c E hin hr ht
  refine j_aload_n E dX8_regrind_0 rfl ?_
  refine j_aload_n E dX8_regrind_1 rfl ?_
  refine j_iload_n E dX8_regrind_2 rfl ?_
  refine j_callV E (c_isResin l D S ad ar h M x) (cw_X8_111 E ⟨Nat.le_of_ble_eq_true rfl, Nat.le_of_ble_eq_true rfl, Nat.le_of_ble_eq_true rfl, Nat.le_of_ble_eq_true rfl, Nat.le_of_ble_eq_true rfl⟩) (q_885 E.tb) (q_9 E.tb) M.o rfl rfl dX8_regrind_3 rfl (fun v3 h3 p3 => ?_)
  obtain ⟨rfl, rfl⟩ := p3
  refine j_if_eq (tgt := 13) E dX8_regrind_6 (by decide) (fun c_6 => ?_) (fun c_6 => ?_)
  · refine j_iconst (v := 1) E dX8_regrind_13 ci_1 ?_
    refine pf_X8_84 E M.o (Nat.le_of_ble_eq_true rfl) dX8_regrind_14 (fun h14 hMd u14 => ?_)
    have M := M.sc8 hMd u14
    refine j_aload_n E dX8_regrind_17 rfl ?_
    refine gf_X8_84 E hMd rfl dX8_regrind_18 ?_
    refine j_if_le (tgt := 28) E dX8_regrind_21 (by decide) (fun q => (nle0_1 q).elim) (fun _ => ?_)
    refine j_iconst (v := 0) E dX8_regrind_24 ci_0 ?_
    refine j_goto (tgt := 34) E dX8_regrind_25 (by decide) ?_
    have e9 : p_regrind S x = (th S 1, 0) := by unfold p_regrind; rw [if_pos (b2i_f c_6)]
    exact j_iret E hr dX8_regrind_34 ⟨Nat.le_of_ble_eq_true rfl, Nat.le_of_ble_eq_true rfl⟩ (by show _ ∧ _; rw [e9]; exact ⟨rfl, M⟩)
  · refine j_iconst (v := 0) E dX8_regrind_9 ci_0 ?_
    refine j_goto (tgt := 14) E dX8_regrind_10 (by decide) ?_
    refine pf_X8_84 E M.o (Nat.le_of_ble_eq_true rfl) dX8_regrind_14 (fun h14 hMd u14 => ?_)
    have M := M.sc8 hMd u14
    refine j_aload_n E dX8_regrind_17 rfl ?_
    refine gf_X8_84 E hMd rfl dX8_regrind_18 ?_
    refine j_if_le (tgt := 28) E dX8_regrind_21 (by decide) (fun _ => ?_) (fun q => (q le0_0).elim)
    refine j_aload_n E dX8_regrind_28 rfl ?_
    refine gf_X8_13 E M.o rfl dX8_regrind_29 ?_
    refine j_iload_n E dX8_regrind_32 rfl ?_
    refine j_iald E M.a2 (vin_nn (isRes_of C.1 (b2i_t c_6)) C.1.2.2 (by decide)) dX8_regrind_33 ?_
    have e9 := show p_regrind S x = _ from by unfold p_regrind; rw [if_neg (bt (b2i_t c_6))]
    exact j_iret E hr dX8_regrind_34 ⟨Nat.le_of_ble_eq_true rfl, Nat.le_of_ble_eq_true rfl⟩ (by show _ ∧ _; rw [e9]; exact ⟨rfl, M⟩)
set_option maxHeartbeats 4000000 in
set_option maxRecDepth 100000 in
theorem c_fails (l : Launch) (D : va_G) (S : St) (ad : Nat → Nat) (ar : Nat → Nat → Nat) (h : AH) (M : Mdl S ad ar h) (mo ca : Int32) (hm : mo = nI (nn mo) ∧ nn mo < 5) (hc : ca = nI (nn ca) ∧ nn ca < 8) : Ctr l D yX8_fails cX8_fails 3 none 0 0 0 0 [.ref (ad 0), .int mo, .int ca] h (fun _ => False) (fun r9 h' => r9 = none ∧ Mdl (fails S (nn mo) (nn ca)) ad ar h') := by
  refine Ctr.of RX8 rfl (by decide) (Nat.le_of_ble_eq_true rfl) ?_
  intro sz p e s m below meth c E hin hr ht
  refine j_aload_n E dX8_fails_0 rfl ?_
  refine gf_X8_42 E M.o rfl dX8_fails_1 ?_
  refine j_iload_n E dX8_fails_4 rfl ?_
  refine j_aald E M.a11 rfl (vin_nn hm (Nat.le_refl 5) (by decide)) dX8_fails_5 ?_
  refine J.stk (row_e hm.2) ?_
  refine j_iload_n E dX8_fails_6 rfl ?_
  refine j_aload_n E dX8_fails_7 rfl ?_
  refine gf_X8_42 E M.o rfl dX8_fails_8 ?_
  refine j_iload_n E dX8_fails_11 rfl ?_
  refine j_aald E M.a11 rfl (vin_nn hm (Nat.le_refl 5) (by decide)) dX8_fails_12 ?_
  refine J.stk (row_e hm.2) ?_
  refine j_iload_n E dX8_fails_13 rfl ?_
  refine j_zald E (M.r0 hm.2) (vin_nn hc (Nat.le_refl 8) (by decide)) dX8_fails_14 ?_
  refine j_if_ne (tgt := 37) E dX8_fails_15 (by decide) (fun c_15 => ?_) (fun c_15 => ?_)
  · refine j_iconst (v := 1) E dX8_fails_37 ci_1 ?_
    refine j_goto (tgt := 42) E dX8_fails_38 (by decide) ?_
    refine s_zast E (M.r0 hm.2) (vin_nn hc (Nat.le_refl 8) (by decide)) rfl dX8_fails_42 (fun h42 n42 u42 => ?_)
    have M := M.sr0 hm.2 n42 u42
    have M : Mdl (fails S (nn mo) (nn ca)) ad ar h42 := by unfold fails; rw [if_neg (fun hh => c_15 hh.1)]; exact M
    exact j_vret E hr dX8_fails_43 ⟨Nat.le_of_ble_eq_true rfl, Nat.le_of_ble_eq_true rfl⟩ ⟨rfl, M⟩
  · refine j_aload_n E dX8_fails_18 rfl ?_
    refine gf_X8_50 E M.o rfl dX8_fails_19 ?_
    refine j_iload_n E dX8_fails_22 rfl ?_
    refine j_aald E M.a13 rfl (vin_nn hm (Nat.le_refl 5) (by decide)) dX8_fails_23 ?_
    refine J.stk (row_e hm.2) ?_
    refine j_iload_n E dX8_fails_24 rfl ?_
    refine j_iald E (M.r2 hm.2) (vin_nn hc (Nat.le_refl 8) (by decide)) dX8_fails_25 ?_
    refine j_aload_n E dX8_fails_26 rfl ?_
    refine gf_X8_47 E M.o rfl dX8_fails_27 ?_
    refine j_iload_n E dX8_fails_30 rfl ?_
    refine j_aald E M.a12 rfl (vin_nn hm (Nat.le_refl 5) (by decide)) dX8_fails_31 ?_
    refine J.stk (row_e hm.2) ?_
    refine j_iload_n E dX8_fails_32 rfl ?_
    refine j_iald E (M.r1 hm.2) (vin_nn hc (Nat.le_refl 8) (by decide)) dX8_fails_33 ?_
    refine j_icmp_lt (tgt := 41) E dX8_fails_34 (by decide) (fun c_34 => ?_) (fun c_34 => ?_)
    · refine j_iconst (v := 0) E dX8_fails_41 ci_0 ?_
      refine s_zast E (M.r0 hm.2) (vin_nn hc (Nat.le_refl 8) (by decide)) rfl dX8_fails_42 (fun h42 n42 u42 => ?_)
      have M := M.sr0 hm.2 n42 u42
      have M : Mdl (fails S (nn mo) (nn ca)) ad ar h42 := by unfold fails; rw [if_pos ⟨c_15, c_34⟩]; exact M
      exact j_vret E hr dX8_fails_43 ⟨Nat.le_of_ble_eq_true rfl, Nat.le_of_ble_eq_true rfl⟩ ⟨rfl, M⟩
    · refine j_iconst (v := 1) E dX8_fails_37 ci_1 ?_
      refine j_goto (tgt := 42) E dX8_fails_38 (by decide) ?_
      refine s_zast E (M.r0 hm.2) (vin_nn hc (Nat.le_refl 8) (by decide)) rfl dX8_fails_42 (fun h42 n42 u42 => ?_)
      have M := M.sr0 hm.2 n42 u42
      have M : Mdl (fails S (nn mo) (nn ca)) ad ar h42 := by unfold fails; rw [if_neg (fun hh => c_34 hh.2)]; exact M
      exact j_vret E hr dX8_fails_43 ⟨Nat.le_of_ble_eq_true rfl, Nat.le_of_ble_eq_true rfl⟩ ⟨rfl, M⟩
set_option maxHeartbeats 4000000 in
set_option maxRecDepth 100000 in
theorem c_setLife (l : Launch) (D : va_G) (S : St) (ad : Nat → Nat) (ar : Nat → Nat → Nat) (h : AH) (M : Mdl S ad ar h) (C : Cnt S) (mo ca x : Int32) (I : IMou S) : Ctr l D yX8_setLife cX8_setLife 4 (some .int) 3 65 0 0 [.ref (ad 0), .int mo, .int ca, .int x] h (fun _ => False) (fun r9 h' => r9 = some (.int (p_setLife S mo ca x).2) ∧ Mdl (p_setLife S mo ca x).1 ad ar h') := by
  refine Ctr.of RX8 rfl (by decide) (Nat.le_of_ble_eq_true rfl) ?_
  intro sz p e s m below meth c E hin hr ht
  refine j_aload_n E dX8_setLife_0 rfl ?_
  refine j_aload_n E dX8_setLife_1 rfl ?_
  refine j_iload_n E dX8_setLife_2 rfl ?_
  refine j_iload_n E dX8_setLife_3 rfl ?_
  refine j_callV E (c_isCavity l D S ad ar h M C mo ca) (cw_X8_135 E ⟨Nat.le_of_ble_eq_true rfl, Nat.le_of_ble_eq_true rfl, Nat.le_of_ble_eq_true rfl, Nat.le_of_ble_eq_true rfl, Nat.le_of_ble_eq_true rfl⟩) (q_935 E.tb) (q_14 E.tb) M.o rfl rfl dX8_setLife_4 rfl (fun v4 h4 p4 => ?_)
  obtain ⟨rfl, rfl⟩ := p4
  refine j_if_ne (tgt := 14) E dX8_setLife_7 (by decide) (fun c_7 => ?_) (fun c_7 => ?_)
  · refine j_iload_n E dX8_setLife_14 rfl ?_
    refine j_iconst (v := 1) E dX8_setLife_15 ci_1 ?_
    refine j_sipush (v := 9999) E dX8_setLife_16 cs_9999 ?_
    refine j_callS E (c_in l D _ _ _ _) (cw_X8_91 E ⟨Nat.le_of_ble_eq_true rfl, Nat.le_of_ble_eq_true rfl, Nat.le_of_ble_eq_true rfl, Nat.le_of_ble_eq_true rfl, Nat.le_of_ble_eq_true rfl⟩) (q_877 E.tb) rfl dX8_setLife_19 rfl (fun v19 h19 p19 => ?_)
    obtain ⟨rfl, rfl⟩ := p19
    refine j_if_ne (tgt := 29) E dX8_setLife_22 (by decide) (fun c_22 => ?_) (fun c_22 => ?_)
    · refine j_iconst (v := 0) E dX8_setLife_29 ci_0 ?_
      refine pf_X8_84 E M.o (Nat.le_of_ble_eq_true rfl) dX8_setLife_30 (fun h30 hMd u30 => ?_)
      have M := M.sc8 hMd u30
      refine j_aload_n E dX8_setLife_33 rfl ?_
      refine gf_X8_84 E hMd rfl dX8_setLife_34 ?_
      refine j_if_le (tgt := 42) E dX8_setLife_37 (by decide) (fun _ => ?_) (fun q => (q le0_0).elim)
      have K0 := cav_of C I (b2i_t c_7)
      refine j_aload_n E dX8_setLife_42 rfl ?_
      refine gf_X8_47 E M.o rfl dX8_setLife_43 ?_
      refine j_iload_n E dX8_setLife_46 rfl ?_
      refine j_aald E M.a12 rfl (vin_nn K0.1 (Nat.le_refl 5) (by decide)) dX8_setLife_47 ?_
      refine J.stk (row_e K0.1.2) ?_
      refine j_iload_n E dX8_setLife_48 rfl ?_
      refine j_iload_n E dX8_setLife_49 rfl ?_
      refine s_iast E (M.r1 K0.1.2) (vin_nn K0.2.1 (Nat.le_refl 8) (by decide)) dX8_setLife_50 (fun h50 n50 u50 => ?_)
      have M := M.sr1 K0.1.2 n50 u50
      refine j_aload_n E dX8_setLife_51 rfl ?_
      refine j_iload_n E dX8_setLife_52 rfl ?_
      refine j_iload_n E dX8_setLife_53 rfl ?_
      refine j_callV E (c_fails l D _ ad ar _ M mo ca K0.1 K0.2.1) (cw_X8_139 E ⟨Nat.le_of_ble_eq_true rfl, Nat.le_of_ble_eq_true rfl, Nat.le_of_ble_eq_true rfl, Nat.le_of_ble_eq_true rfl, Nat.le_of_ble_eq_true rfl⟩) (q_943 E.tb) (q_16 E.tb) M.o rfl rfl dX8_setLife_54 rfl (fun v54 h54 p54 => ?_)
      obtain ⟨rfl, M⟩ := p54
      refine j_aload_n E dX8_setLife_57 rfl ?_
      refine gf_X8_50 E M.o rfl dX8_setLife_58 ?_
      refine j_iload_n E dX8_setLife_61 rfl ?_
      refine j_aald E M.a13 rfl (vin_nn K0.1 (Nat.le_refl 5) (by decide)) dX8_setLife_62 ?_
      refine J.stk (row_e K0.1.2) ?_
      refine j_iload_n E dX8_setLife_63 rfl ?_
      refine j_iald E (M.r2 K0.1.2) (vin_nn K0.2.1 (Nat.le_refl 8) (by decide)) dX8_setLife_64 ?_
      have e9 := show p_setLife S mo ca x = _ from by unfold p_setLife; rw [if_neg (bt (b2i_t c_7)), if_neg (bt (b2i_t c_22))]
      exact j_iret E hr dX8_setLife_65 ⟨Nat.le_of_ble_eq_true rfl, Nat.le_of_ble_eq_true rfl⟩ (by show _ ∧ _; rw [e9]; exact ⟨rfl, M⟩)
    · refine j_iconst (v := 2) E dX8_setLife_25 ci_2 ?_
      refine j_goto (tgt := 30) E dX8_setLife_26 (by decide) ?_
      refine pf_X8_84 E M.o (Nat.le_of_ble_eq_true rfl) dX8_setLife_30 (fun h30 hMd u30 => ?_)
      have M := M.sc8 hMd u30
      refine j_aload_n E dX8_setLife_33 rfl ?_
      refine gf_X8_84 E hMd rfl dX8_setLife_34 ?_
      refine j_if_le (tgt := 42) E dX8_setLife_37 (by decide) (fun q => (nle0_2 q).elim) (fun _ => ?_)
      refine j_iconst (v := 0) E dX8_setLife_40 ci_0 ?_
      have e9 : p_setLife S mo ca x = (th S 2, 0) := by unfold p_setLife; rw [if_neg (bt (b2i_t c_7)), if_pos (b2i_f c_22)]
      exact j_iret E hr dX8_setLife_41 ⟨Nat.le_of_ble_eq_true rfl, Nat.le_of_ble_eq_true rfl⟩ (by show _ ∧ _; rw [e9]; exact ⟨rfl, M⟩)
  · refine j_iconst (v := 1) E dX8_setLife_10 ci_1 ?_
    refine j_goto (tgt := 30) E dX8_setLife_11 (by decide) ?_
    refine pf_X8_84 E M.o (Nat.le_of_ble_eq_true rfl) dX8_setLife_30 (fun h30 hMd u30 => ?_)
    have M := M.sc8 hMd u30
    refine j_aload_n E dX8_setLife_33 rfl ?_
    refine gf_X8_84 E hMd rfl dX8_setLife_34 ?_
    refine j_if_le (tgt := 42) E dX8_setLife_37 (by decide) (fun q => (nle0_1 q).elim) (fun _ => ?_)
    refine j_iconst (v := 0) E dX8_setLife_40 ci_0 ?_
    have e9 : p_setLife S mo ca x = (th S 1, 0) := by unfold p_setLife; rw [if_pos (b2i_f c_7)]
    exact j_iret E hr dX8_setLife_41 ⟨Nat.le_of_ble_eq_true rfl, Nat.le_of_ble_eq_true rfl⟩ (by show _ ∧ _; rw [e9]; exact ⟨rfl, M⟩)
set_option maxHeartbeats 4000000 in
set_option maxRecDepth 100000 in
theorem c_open (l : Launch) (D : va_G) (S : St) (ad : Nat → Nat) (ar : Nat → Nat → Nat) (h : AH) (M : Mdl S ad ar h) (x : Int32) (hm : x = nI (nn x) ∧ nn x < 5) (hc : Rg (S.1 6 (nn x) 0) 1 8) : Ctr l D yX8_open cX8_open 4 (some .int) 0 0 0 0 [.ref (ad 0), .int x] h (fun _ => False) (fun r9 h' => r9 = some (.int (opn S (nn x))) ∧ h = h') := by
  refine Ctr.of RX8 rfl (by decide) (Nat.le_of_ble_eq_true rfl) ?_
  intro sz p e s m below meth c E hin hr ht
  refine j_iconst (v := 0) E dX8_open_0 ci_0 ?_
  refine j_istore_n E dX8_open_1 (by decide) ?_
  refine j_iconst (v := 0) E dX8_open_2 ci_0 ?_
  refine j_istore_n E dX8_open_3 (by decide) ?_
  have K : ∀ (n : Nat) (y a : Int32), y = nI (nn y) → nn y + n = nn (S.1 6 (nn x) 0) → a = openN S (nn x) (nn y) → J p l e { frames := 0, cells := 0, slots := 0, locals := 0 } s m [.ref (ad 0), .int x].toArray below meth c D (Afr h sz) 4 (vx_MQ below (Qcs D h sz (fun r9 h' => r9 = some (.int (opn S (nn x))) ∧ h = h')) (Xcs D h sz (fun _ => False)) [.ref (ad 0), .int x].toArray s 0 0 (Afr h sz)) 0 0 h 4 [(2, .int a), (3, .int y), (0, .ref (ad 0)), (1, .int x)] [] := by
    intro n
    induction n with
    | zero =>
      intro y a hy hn ha
      have hc8 := hc.2.2
      refine j_iload_n E dX8_open_4 rfl ?_
      refine j_aload_n E dX8_open_5 rfl ?_
      refine gf_X8_25 E M.o rfl dX8_open_6 ?_
      refine j_iload_n E dX8_open_9 rfl ?_
      refine j_iald E M.a6 (vin_nn hm (Nat.le_refl 5) (by decide)) dX8_open_10 ?_
      refine j_icmp_ge (tgt := 39) E dX8_open_11 (by decide) (fun _ => ?_) (fun q => (q (ge_of hy hc.1 (by show nn (S.1 6 (nn x) 0) ≤ nn y; omega) (by omega))).elim)
      refine j_iload_n E dX8_open_39 rfl ?_
      exact j_iret E hr dX8_open_40 ⟨Nat.le_of_ble_eq_true rfl, Nat.le_of_ble_eq_true rfl⟩ ⟨by rw [ha, show nn y = nn (S.1 6 (nn x) 0) from hn]; rfl, rfl⟩
    | succ n ih =>
      intro y a hy hn ha
      have hc8 := hc.2.2
      have hlt : nn y < nn (S.1 6 (nn x) 0) := by omega
      refine j_iload_n E dX8_open_4 rfl ?_
      refine j_aload_n E dX8_open_5 rfl ?_
      refine gf_X8_25 E M.o rfl dX8_open_6 ?_
      refine j_iload_n E dX8_open_9 rfl ?_
      refine j_iald E M.a6 (vin_nn hm (Nat.le_refl 5) (by decide)) dX8_open_10 ?_
      refine j_icmp_ge (tgt := 39) E dX8_open_11 (by decide) (fun q => (nge_of hy hc.1 hlt (by omega) q).elim) (fun _ => ?_)
      refine j_iload_n E dX8_open_14 rfl ?_
      refine j_aload_n E dX8_open_15 rfl ?_
      refine gf_X8_42 E M.o rfl dX8_open_16 ?_
      refine j_iload_n E dX8_open_19 rfl ?_
      refine j_aald E M.a11 rfl (vin_nn hm (Nat.le_refl 5) (by decide)) dX8_open_20 ?_
      refine J.stk (row_e hm.2) ?_
      refine j_iload_n E dX8_open_21 rfl ?_
      refine j_zald E (M.r0 hm.2) (vin_of hy hlt hc.2.2 (by decide)) dX8_open_22 ?_
      refine j_if_eq (tgt := 30) E dX8_open_23 (by decide) (fun c_23 => ?_) (fun c_23 => ?_)
      · refine j_iconst (v := 1) E dX8_open_30 ci_1 ?_
        refine j_iadd E dX8_open_31 ?_
        refine j_istore_n E dX8_open_32 (by decide) ?_
        refine j_iincK (k := 1) E ci_1 dX8_open_33 rfl (by decide) ?_
        refine j_goto (tgt := 4) E dX8_open_36 (by decide) ?_
        obtain ⟨a1, a2⟩ := nn_s hy hlt (by omega)
        refine J.sub (lo' := [(2, .int (a + 1)), (3, .int (y + 1)), (0, .ref (ad 0)), (1, .int x)]) ⟨rfl, rfl, rfl, rfl, trivial⟩ ?_
        exact ih (y + 1) _ a1 (by omega) (by rw [a2, ha]; show _ = openN S (nn x) (nn y) + opT S (nn x) (nn y); unfold opT; rw [if_pos c_23])
      · refine j_iconst (v := 0) E dX8_open_26 ci_0 ?_
        refine j_goto (tgt := 31) E dX8_open_27 (by decide) ?_
        refine j_iadd E dX8_open_31 ?_
        refine j_istore_n E dX8_open_32 (by decide) ?_
        refine j_iincK (k := 1) E ci_1 dX8_open_33 rfl (by decide) ?_
        refine j_goto (tgt := 4) E dX8_open_36 (by decide) ?_
        obtain ⟨a1, a2⟩ := nn_s hy hlt (by omega)
        refine J.sub (lo' := [(2, .int (a + 0)), (3, .int (y + 1)), (0, .ref (ad 0)), (1, .int x)]) ⟨rfl, rfl, rfl, rfl, trivial⟩ ?_
        exact ih (y + 1) _ a1 (by omega) (by rw [a2, ha]; show _ = openN S (nn x) (nn y) + opT S (nn x) (nn y); unfold opT; rw [if_neg c_23])
  refine J.sub (lo' := [(2, .int 0), (3, .int 0), (0, .ref (ad 0)), (1, .int x)]) ⟨rfl, rfl, rfl, rfl, trivial⟩ ?_
  exact K (nn (S.1 6 (nn x) 0)) 0 0 e0_nn (by rw [nn_0]; omega) rfl
set_option maxHeartbeats 4000000 in
set_option maxRecDepth 100000 in
theorem c_block (l : Launch) (D : va_G) (S : St) (ad : Nat → Nat) (ar : Nat → Nat → Nat) (h : AH) (M : Mdl S ad ar h) (C : Cnt S) (mo ca : Int32) (I : IMou S) : Ctr l D yX8_block cX8_block 3 (some .int) 3 65 0 0 [.ref (ad 0), .int mo, .int ca] h (fun _ => False) (fun r9 h' => r9 = some (.int (p_block S mo ca).2) ∧ Mdl (p_block S mo ca).1 ad ar h') := by
  refine Ctr.of RX8 rfl (by decide) (Nat.le_of_ble_eq_true rfl) ?_
  intro sz p e s m below meth c E hin hr ht
  refine j_aload_n E dX8_block_0 rfl ?_
  refine j_aload_n E dX8_block_1 rfl ?_
  refine j_iload_n E dX8_block_2 rfl ?_
  refine j_iload_n E dX8_block_3 rfl ?_
  refine j_callV E (c_isCavity l D S ad ar h M C mo ca) (cw_X8_135 E ⟨Nat.le_of_ble_eq_true rfl, Nat.le_of_ble_eq_true rfl, Nat.le_of_ble_eq_true rfl, Nat.le_of_ble_eq_true rfl, Nat.le_of_ble_eq_true rfl⟩) (q_935 E.tb) (q_14 E.tb) M.o rfl rfl dX8_block_4 rfl (fun v4 h4 p4 => ?_)
  obtain ⟨rfl, rfl⟩ := p4
  refine j_if_ne (tgt := 14) E dX8_block_7 (by decide) (fun c_7 => ?_) (fun c_7 => ?_)
  · have K0 := cav_of C I (b2i_t c_7)
    refine j_aload_n E dX8_block_14 rfl ?_
    refine gf_X8_42 E M.o rfl dX8_block_15 ?_
    refine j_iload_n E dX8_block_18 rfl ?_
    refine j_aald E M.a11 rfl (vin_nn K0.1 (Nat.le_refl 5) (by decide)) dX8_block_19 ?_
    refine J.stk (row_e K0.1.2) ?_
    refine j_iload_n E dX8_block_20 rfl ?_
    refine j_zald E (M.r0 K0.1.2) (vin_nn K0.2.1 (Nat.le_refl 8) (by decide)) dX8_block_21 ?_
    refine j_if_eq (tgt := 29) E dX8_block_22 (by decide) (fun c_22 => ?_) (fun c_22 => ?_)
    · refine j_iconst (v := 0) E dX8_block_29 ci_0 ?_
      refine pf_X8_84 E M.o (Nat.le_of_ble_eq_true rfl) dX8_block_30 (fun h30 hMd u30 => ?_)
      have M := M.sc8 hMd u30
      refine j_aload_n E dX8_block_33 rfl ?_
      refine gf_X8_84 E hMd rfl dX8_block_34 ?_
      refine j_if_le (tgt := 42) E dX8_block_37 (by decide) (fun _ => ?_) (fun q => (q le0_0).elim)
      refine j_aload_n E dX8_block_42 rfl ?_
      refine gf_X8_42 E M.o rfl dX8_block_43 ?_
      refine j_iload_n E dX8_block_46 rfl ?_
      refine j_aald E M.a11 rfl (vin_nn K0.1 (Nat.le_refl 5) (by decide)) dX8_block_47 ?_
      refine J.stk (row_e K0.1.2) ?_
      refine j_iload_n E dX8_block_48 rfl ?_
      refine j_iconst (v := 1) E dX8_block_49 ci_1 ?_
      refine s_zast E (M.r0 K0.1.2) (vin_nn K0.2.1 (Nat.le_refl 8) (by decide)) rfl dX8_block_50 (fun h50 n50 u50 => ?_)
      have M := M.sr0 K0.1.2 n50 u50
      refine j_aload_n E dX8_block_51 rfl ?_
      refine j_iload_n E dX8_block_52 rfl ?_
      refine j_callV E (c_open l D _ ad ar _ M mo K0.1 K0.2.2.1) (cw_X8_143 E ⟨Nat.le_of_ble_eq_true rfl, Nat.le_of_ble_eq_true rfl, Nat.le_of_ble_eq_true rfl, Nat.le_of_ble_eq_true rfl, Nat.le_of_ble_eq_true rfl⟩) (q_951 E.tb) (q_17 E.tb) M.o rfl rfl dX8_block_53 rfl (fun v53 h53 p53 => ?_)
      obtain ⟨rfl, rfl⟩ := p53
      have e9 := show p_block S mo ca = _ from by unfold p_block; rw [if_neg (bt (b2i_t c_7)), if_pos c_22]
      exact j_iret E hr dX8_block_56 ⟨Nat.le_of_ble_eq_true rfl, Nat.le_of_ble_eq_true rfl⟩ (by show _ ∧ _; rw [e9]; exact ⟨rfl, M⟩)
    · refine j_iconst (v := 2) E dX8_block_25 ci_2 ?_
      refine j_goto (tgt := 30) E dX8_block_26 (by decide) ?_
      refine pf_X8_84 E M.o (Nat.le_of_ble_eq_true rfl) dX8_block_30 (fun h30 hMd u30 => ?_)
      have M := M.sc8 hMd u30
      refine j_aload_n E dX8_block_33 rfl ?_
      refine gf_X8_84 E hMd rfl dX8_block_34 ?_
      refine j_if_le (tgt := 42) E dX8_block_37 (by decide) (fun q => (nle0_2 q).elim) (fun _ => ?_)
      refine j_iconst (v := 0) E dX8_block_40 ci_0 ?_
      have e9 : p_block S mo ca = (th S 2, 0) := by unfold p_block; rw [if_neg (bt (b2i_t c_7)), if_neg c_22]
      exact j_iret E hr dX8_block_41 ⟨Nat.le_of_ble_eq_true rfl, Nat.le_of_ble_eq_true rfl⟩ (by show _ ∧ _; rw [e9]; exact ⟨rfl, M⟩)
  · refine j_iconst (v := 1) E dX8_block_10 ci_1 ?_
    refine j_goto (tgt := 30) E dX8_block_11 (by decide) ?_
    refine pf_X8_84 E M.o (Nat.le_of_ble_eq_true rfl) dX8_block_30 (fun h30 hMd u30 => ?_)
    have M := M.sc8 hMd u30
    refine j_aload_n E dX8_block_33 rfl ?_
    refine gf_X8_84 E hMd rfl dX8_block_34 ?_
    refine j_if_le (tgt := 42) E dX8_block_37 (by decide) (fun q => (nle0_1 q).elim) (fun _ => ?_)
    refine j_iconst (v := 0) E dX8_block_40 ci_0 ?_
    have e9 : p_block S mo ca = (th S 1, 0) := by unfold p_block; rw [if_pos (b2i_f c_7)]
    exact j_iret E hr dX8_block_41 ⟨Nat.le_of_ble_eq_true rfl, Nat.le_of_ble_eq_true rfl⟩ (by show _ ∧ _; rw [e9]; exact ⟨rfl, M⟩)
set_option maxHeartbeats 4000000 in
set_option maxRecDepth 100000 in
theorem c_isMounted (l : Launch) (D : va_G) (S : St) (ad : Nat → Nat) (ar : Nat → Nat → Nat) (h : AH) (M : Mdl S ad ar h) (C : Cnt S) (x : Int32) : Ctr l D yX8_isMounted cX8_isMounted 4 (some .boolean) 0 0 0 0 [.ref (ad 0), .int x] h (fun _ => False) (fun r9 h' => r9 = some (.int (b2i (mnt S x))) ∧ h = h') := by
  refine Ctr.of RX8 rfl (by decide) (Nat.le_of_ble_eq_true rfl) ?_
  intro sz p e s m below meth c E hin hr ht
  refine j_iconst (v := 0) E dX8_isMounted_0 ci_0 ?_
  refine j_istore_n E dX8_isMounted_1 (by decide) ?_
  refine j_iconst (v := 0) E dX8_isMounted_2 ci_0 ?_
  refine j_istore_n E dX8_isMounted_3 (by decide) ?_
  have K : ∀ (n : Nat) (y : Int32) (bb : Bool), y = nI (nn y) → nn y + n = nn (S.1 0 3 0) → bb = mntN S x (nn y) → J p l e { frames := 0, cells := 0, slots := 0, locals := 0 } s m [.ref (ad 0), .int x].toArray below meth c D (Afr h sz) 4 (vx_MQ below (Qcs D h sz (fun r9 h' => r9 = some (.int (b2i (mnt S x))) ∧ h = h')) (Xcs D h sz (fun _ => False)) [.ref (ad 0), .int x].toArray s 0 0 (Afr h sz)) 0 0 h 4 [(2, .int (b2i bb)), (3, .int y), (0, .ref (ad 0)), (1, .int x)] [] := by
    intro n
    induction n with
    | zero =>
      intro y bb hy hn hb
      refine j_iload_n E dX8_isMounted_4 rfl ?_
      refine j_aload_n E dX8_isMounted_5 rfl ?_
      refine gf_X8_105 E M.o rfl dX8_isMounted_6 ?_
      refine j_icmp_ge (tgt := 38) E dX8_isMounted_9 (by decide) (fun _ => ?_) (fun q => (q (ge_of hy C.2.2.2.1.1 (by omega) (by have := C.2.2.2.1.2.2; omega))).elim)
      refine j_iload_n E dX8_isMounted_38 rfl ?_
      exact j_zret E hr (b2i_n _) dX8_isMounted_39 ⟨Nat.le_of_ble_eq_true rfl, Nat.le_of_ble_eq_true rfl⟩ ⟨by rw [hb, show nn y = nn (S.1 0 3 0) from hn]; rfl, rfl⟩
    | succ n ih =>
      intro y bb hy hn hb
      have hlt : nn y < nn (S.1 0 3 0) := by omega
      refine j_iload_n E dX8_isMounted_4 rfl ?_
      refine j_aload_n E dX8_isMounted_5 rfl ?_
      refine gf_X8_105 E M.o rfl dX8_isMounted_6 ?_
      refine j_icmp_ge (tgt := 38) E dX8_isMounted_9 (by decide) (fun q => (nge_of hy C.2.2.2.1.1 hlt (by have := C.2.2.2.1.2.2; omega) q).elim) (fun _ => ?_)
      refine j_iload_n E dX8_isMounted_12 rfl ?_
      refine j_if_ne (tgt := 26) E dX8_isMounted_13 (by decide) (fun c_13 => ?_) (fun c_13 => ?_)
      · refine j_iconst (v := 1) E dX8_isMounted_26 ci_1 ?_
        refine j_goto (tgt := 31) E dX8_isMounted_27 (by decide) ?_
        refine j_istore_n E dX8_isMounted_31 (by decide) ?_
        refine j_iincK (k := 1) E ci_1 dX8_isMounted_32 rfl (by decide) ?_
        refine j_goto (tgt := 4) E dX8_isMounted_35 (by decide) ?_
        obtain ⟨a1, a2⟩ := nn_s hy hlt (by have := C.2.2.2.1.2.2; omega)
        refine J.sub (lo' := [(2, .int (b2i true)), (3, .int (y + 1)), (0, .ref (ad 0)), (1, .int x)]) ⟨rfl, rfl, rfl, rfl, trivial⟩ ?_
        exact ih (y + 1) _ a1 (by omega) (by rw [a2]; show _ = (mntN S x (nn y) || decide (S.1 15 (nn y) 0 = x)); rw [← hb, b2i_t c_13]; rfl)
      · refine j_aload_n E dX8_isMounted_16 rfl ?_
        refine gf_X8_56 E M.o rfl dX8_isMounted_17 ?_
        refine j_iload_n E dX8_isMounted_20 rfl ?_
        refine j_iald E M.a15 (vin_of hy hlt C.2.2.2.1.2.2 (by decide)) dX8_isMounted_21 ?_
        refine j_iload_n E dX8_isMounted_22 rfl ?_
        refine j_icmp_ne (tgt := 30) E dX8_isMounted_23 (by decide) (fun c_23 => ?_) (fun c_23 => ?_)
        · refine j_iconst (v := 0) E dX8_isMounted_30 ci_0 ?_
          refine j_istore_n E dX8_isMounted_31 (by decide) ?_
          refine j_iincK (k := 1) E ci_1 dX8_isMounted_32 rfl (by decide) ?_
          refine j_goto (tgt := 4) E dX8_isMounted_35 (by decide) ?_
          obtain ⟨a1, a2⟩ := nn_s hy hlt (by have := C.2.2.2.1.2.2; omega)
          refine J.sub (lo' := [(2, .int (b2i false)), (3, .int (y + 1)), (0, .ref (ad 0)), (1, .int x)]) ⟨rfl, rfl, rfl, rfl, trivial⟩ ?_
          exact ih (y + 1) _ a1 (by omega) (by rw [a2]; show _ = (mntN S x (nn y) || decide (S.1 15 (nn y) 0 = x)); rw [← hb, b2i_f c_13, decide_eq_false c_23]; rfl)
        · refine j_iconst (v := 1) E dX8_isMounted_26 ci_1 ?_
          refine j_goto (tgt := 31) E dX8_isMounted_27 (by decide) ?_
          refine j_istore_n E dX8_isMounted_31 (by decide) ?_
          refine j_iincK (k := 1) E ci_1 dX8_isMounted_32 rfl (by decide) ?_
          refine j_goto (tgt := 4) E dX8_isMounted_35 (by decide) ?_
          obtain ⟨a1, a2⟩ := nn_s hy hlt (by have := C.2.2.2.1.2.2; omega)
          refine J.sub (lo' := [(2, .int (b2i true)), (3, .int (y + 1)), (0, .ref (ad 0)), (1, .int x)]) ⟨rfl, rfl, rfl, rfl, trivial⟩ ?_
          exact ih (y + 1) _ a1 (by omega) (by rw [a2]; show _ = (mntN S x (nn y) || decide (S.1 15 (nn y) 0 = x)); rw [decide_eq_true c_23, Bool.or_true])
  refine J.sub (lo' := [(2, .int (b2i false)), (3, .int 0), (0, .ref (ad 0)), (1, .int x)]) ⟨rfl, rfl, rfl, rfl, trivial⟩ ?_
  exact K (nn (S.1 0 3 0)) 0 false e0_nn (by rw [nn_0]; omega) rfl
set_option maxHeartbeats 4000000 in
set_option maxRecDepth 100000 in
theorem c_repair (l : Launch) (D : va_G) (S : St) (ad : Nat → Nat) (ar : Nat → Nat → Nat) (h : AH) (M : Mdl S ad ar h) (C : Cnt S) (mo ca : Int32) (I : IMou S) : Ctr l D yX8_repair cX8_repair 3 (some .int) 3 65 0 0 [.ref (ad 0), .int mo, .int ca] h (fun _ => False) (fun r9 h' => r9 = some (.int (p_repair S mo ca).2) ∧ Mdl (p_repair S mo ca).1 ad ar h') := by
  refine Ctr.of RX8 rfl (by decide) (Nat.le_of_ble_eq_true rfl) ?_
  intro sz p e s m below meth c E hin hr ht
  refine j_aload_n E dX8_repair_0 rfl ?_
  refine j_aload_n E dX8_repair_1 rfl ?_
  refine j_iload_n E dX8_repair_2 rfl ?_
  refine j_iload_n E dX8_repair_3 rfl ?_
  refine j_callV E (c_isCavity l D S ad ar h M C mo ca) (cw_X8_135 E ⟨Nat.le_of_ble_eq_true rfl, Nat.le_of_ble_eq_true rfl, Nat.le_of_ble_eq_true rfl, Nat.le_of_ble_eq_true rfl, Nat.le_of_ble_eq_true rfl⟩) (q_935 E.tb) (q_14 E.tb) M.o rfl rfl dX8_repair_4 rfl (fun v4 h4 p4 => ?_)
  obtain ⟨rfl, rfl⟩ := p4
  refine j_if_ne (tgt := 14) E dX8_repair_7 (by decide) (fun c_7 => ?_) (fun c_7 => ?_)
  · have K0 := cav_of C I (b2i_t c_7)
    refine j_aload_n E dX8_repair_14 rfl ?_
    refine gf_X8_42 E M.o rfl dX8_repair_15 ?_
    refine j_iload_n E dX8_repair_18 rfl ?_
    refine j_aald E M.a11 rfl (vin_nn K0.1 (Nat.le_refl 5) (by decide)) dX8_repair_19 ?_
    refine J.stk (row_e K0.1.2) ?_
    refine j_iload_n E dX8_repair_20 rfl ?_
    refine j_zald E (M.r0 K0.1.2) (vin_nn K0.2.1 (Nat.le_refl 8) (by decide)) dX8_repair_21 ?_
    refine j_if_eq (tgt := 33) E dX8_repair_22 (by decide) (fun c_22 => ?_) (fun c_22 => ?_)
    · refine j_iconst (v := 2) E dX8_repair_33 ci_2 ?_
      refine j_goto (tgt := 38) E dX8_repair_34 (by decide) ?_
      refine pf_X8_84 E M.o (Nat.le_of_ble_eq_true rfl) dX8_repair_38 (fun h38 hMd u38 => ?_)
      have M := M.sc8 hMd u38
      refine j_aload_n E dX8_repair_41 rfl ?_
      refine gf_X8_84 E hMd rfl dX8_repair_42 ?_
      refine j_if_le (tgt := 50) E dX8_repair_45 (by decide) (fun q => (nle0_2 q).elim) (fun _ => ?_)
      refine j_iconst (v := 0) E dX8_repair_48 ci_0 ?_
      have e9 : p_repair S mo ca = (th S 2, 0) := by unfold p_repair; rw [if_neg (bt (b2i_t c_7)), if_pos c_22]
      exact j_iret E hr dX8_repair_49 ⟨Nat.le_of_ble_eq_true rfl, Nat.le_of_ble_eq_true rfl⟩ (by show _ ∧ _; rw [e9]; exact ⟨rfl, M⟩)
    · refine j_aload_n E dX8_repair_25 rfl ?_
      refine j_iload_n E dX8_repair_26 rfl ?_
      refine j_callV E (c_isMounted l D S ad ar h M C mo) (cw_X8_146 E ⟨Nat.le_of_ble_eq_true rfl, Nat.le_of_ble_eq_true rfl, Nat.le_of_ble_eq_true rfl, Nat.le_of_ble_eq_true rfl, Nat.le_of_ble_eq_true rfl⟩) (q_959 E.tb) (q_18 E.tb) M.o rfl rfl dX8_repair_27 rfl (fun v27 h27 p27 => ?_)
      obtain ⟨rfl, rfl⟩ := p27
      refine j_if_eq (tgt := 37) E dX8_repair_30 (by decide) (fun c_30 => ?_) (fun c_30 => ?_)
      · refine j_iconst (v := 0) E dX8_repair_37 ci_0 ?_
        refine pf_X8_84 E M.o (Nat.le_of_ble_eq_true rfl) dX8_repair_38 (fun h38 hMd u38 => ?_)
        have M := M.sc8 hMd u38
        refine j_aload_n E dX8_repair_41 rfl ?_
        refine gf_X8_84 E hMd rfl dX8_repair_42 ?_
        refine j_if_le (tgt := 50) E dX8_repair_45 (by decide) (fun _ => ?_) (fun q => (q le0_0).elim)
        refine j_aload_n E dX8_repair_50 rfl ?_
        refine gf_X8_42 E M.o rfl dX8_repair_51 ?_
        refine j_iload_n E dX8_repair_54 rfl ?_
        refine j_aald E M.a11 rfl (vin_nn K0.1 (Nat.le_refl 5) (by decide)) dX8_repair_55 ?_
        refine J.stk (row_e K0.1.2) ?_
        refine j_iload_n E dX8_repair_56 rfl ?_
        refine j_iconst (v := 0) E dX8_repair_57 ci_0 ?_
        refine s_zast E (M.r0 K0.1.2) (vin_nn K0.2.1 (Nat.le_refl 8) (by decide)) rfl dX8_repair_58 (fun h58 n58 u58 => ?_)
        have M := M.sr0 K0.1.2 n58 u58
        refine j_aload_n E dX8_repair_59 rfl ?_
        refine gf_X8_50 E M.o rfl dX8_repair_60 ?_
        refine j_iload_n E dX8_repair_63 rfl ?_
        refine j_aald E M.a13 rfl (vin_nn K0.1 (Nat.le_refl 5) (by decide)) dX8_repair_64 ?_
        refine J.stk (row_e K0.1.2) ?_
        refine j_iload_n E dX8_repair_65 rfl ?_
        refine j_iconst (v := 0) E dX8_repair_66 ci_0 ?_
        refine s_iast E (M.r2 K0.1.2) (vin_nn K0.2.1 (Nat.le_refl 8) (by decide)) dX8_repair_67 (fun h67 n67 u67 => ?_)
        have M := M.sr2 K0.1.2 n67 u67
        refine j_aload_n E dX8_repair_68 rfl ?_
        refine j_iload_n E dX8_repair_69 rfl ?_
        refine j_callV E (c_open l D _ ad ar _ M mo K0.1 K0.2.2.1) (cw_X8_143 E ⟨Nat.le_of_ble_eq_true rfl, Nat.le_of_ble_eq_true rfl, Nat.le_of_ble_eq_true rfl, Nat.le_of_ble_eq_true rfl, Nat.le_of_ble_eq_true rfl⟩) (q_951 E.tb) (q_17 E.tb) M.o rfl rfl dX8_repair_70 rfl (fun v70 h70 p70 => ?_)
        obtain ⟨rfl, rfl⟩ := p70
        have e9 := show p_repair S mo ca = _ from by unfold p_repair; rw [if_neg (bt (b2i_t c_7)), if_neg c_22, if_neg (fun q => bt q (b2i_f c_30))]
        exact j_iret E hr dX8_repair_73 ⟨Nat.le_of_ble_eq_true rfl, Nat.le_of_ble_eq_true rfl⟩ (by show _ ∧ _; rw [e9]; exact ⟨rfl, M⟩)
      · refine j_iconst (v := 2) E dX8_repair_33 ci_2 ?_
        refine j_goto (tgt := 38) E dX8_repair_34 (by decide) ?_
        refine pf_X8_84 E M.o (Nat.le_of_ble_eq_true rfl) dX8_repair_38 (fun h38 hMd u38 => ?_)
        have M := M.sc8 hMd u38
        refine j_aload_n E dX8_repair_41 rfl ?_
        refine gf_X8_84 E hMd rfl dX8_repair_42 ?_
        refine j_if_le (tgt := 50) E dX8_repair_45 (by decide) (fun q => (nle0_2 q).elim) (fun _ => ?_)
        refine j_iconst (v := 0) E dX8_repair_48 ci_0 ?_
        have e9 : p_repair S mo ca = (th S 2, 0) := by unfold p_repair; rw [if_neg (bt (b2i_t c_7)), if_neg c_22, if_pos (b2i_t c_30)]
        exact j_iret E hr dX8_repair_49 ⟨Nat.le_of_ble_eq_true rfl, Nat.le_of_ble_eq_true rfl⟩ (by show _ ∧ _; rw [e9]; exact ⟨rfl, M⟩)
  · refine j_iconst (v := 1) E dX8_repair_10 ci_1 ?_
    refine j_goto (tgt := 38) E dX8_repair_11 (by decide) ?_
    refine pf_X8_84 E M.o (Nat.le_of_ble_eq_true rfl) dX8_repair_38 (fun h38 hMd u38 => ?_)
    have M := M.sc8 hMd u38
    refine j_aload_n E dX8_repair_41 rfl ?_
    refine gf_X8_84 E hMd rfl dX8_repair_42 ?_
    refine j_if_le (tgt := 50) E dX8_repair_45 (by decide) (fun q => (nle0_1 q).elim) (fun _ => ?_)
    refine j_iconst (v := 0) E dX8_repair_48 ci_0 ?_
    have e9 : p_repair S mo ca = (th S 1, 0) := by unfold p_repair; rw [if_pos (b2i_f c_7)]
    exact j_iret E hr dX8_repair_49 ⟨Nat.le_of_ble_eq_true rfl, Nat.le_of_ble_eq_true rfl⟩ (by show _ ∧ _; rw [e9]; exact ⟨rfl, M⟩)
theorem nn_lt (x : Int32) : nn x < 2 ^ 31 := by
  have h := Int32.toInt_lt x
  show x.toInt.toNat < _
  omega
set_option maxHeartbeats 4000000 in
set_option maxRecDepth 100000 in
theorem c_nextOpen (l : Launch) (D : va_G) (S : St) (ad : Nat → Nat) (ar : Nat → Nat → Nat) (h : AH) (M : Mdl S ad ar h) (C : Cnt S) (mo f : Int32) (I : IMou S) : Ctr l D yX8_nextOpen cX8_nextOpen 4 (some .int) 2 43 0 0 [.ref (ad 0), .int mo, .int f] h (fun _ => False) (fun r9 h' => r9 = some (.int (p_nextOpen S mo f).2) ∧ Mdl (p_nextOpen S mo f).1 ad ar h') := by
  refine Ctr.of RX8 rfl (by decide) (Nat.le_of_ble_eq_true rfl) ?_
  intro sz p e s m below meth c E hin hr ht
  refine j_aload_n E dX8_nextOpen_0 rfl ?_
  refine j_iload_n E dX8_nextOpen_1 rfl ?_
  refine j_callV E (c_isMould l D S ad ar h M mo) (cw_X8_101 E ⟨Nat.le_of_ble_eq_true rfl, Nat.le_of_ble_eq_true rfl, Nat.le_of_ble_eq_true rfl, Nat.le_of_ble_eq_true rfl, Nat.le_of_ble_eq_true rfl⟩) (q_939 E.tb) (q_15 E.tb) M.o rfl rfl dX8_nextOpen_2 rfl (fun v2 h2 p2 => ?_)
  obtain ⟨rfl, rfl⟩ := p2
  refine j_if_ne (tgt := 14) E dX8_nextOpen_5 (by decide) (fun c_5 => ?_) (fun c_5 => ?_)
  · refine j_iconst (v := 0) E dX8_nextOpen_14 ci_0 ?_
    refine j_iload_n E dX8_nextOpen_15 rfl ?_
    refine j_mmax E (q_912 E.tb) (q_352 E.tb) (q_39 E.tb) (q_353 E.tb) ⟨Nat.le_of_ble_eq_true rfl, Nat.le_of_ble_eq_true rfl, Nat.le_of_ble_eq_true rfl, Nat.le_of_ble_eq_true rfl⟩ dX8_nextOpen_16 ?_
    refine j_istore_n E dX8_nextOpen_19 (by decide) ?_
    have hm := isMou_of C.2.2.1 (b2i_t c_5)
    have hm5 := Nat.lt_of_lt_of_le hm.2 C.2.2.1.2.2
    have hc := (I _ hm.2).1
    have K : ∀ (n : Nat) (y : Int32), y = nI (nn y) → n = nn (S.1 6 (nn mo) 0) - nn y → nxt S (nn mo) (nn y) n = nxtA S (nn mo) f → J p l e { frames := 2, cells := 0, slots := 0, locals := 43 } s m [.ref (ad 0), .int mo, .int f].toArray below meth c D (Afr h sz) 4 (vx_MQ below (Qcs D h sz (fun r9 h' => r9 = some (.int (p_nextOpen S mo f).2) ∧ Mdl (p_nextOpen S mo f).1 ad ar h')) (Xcs D h sz (fun _ => False)) [.ref (ad 0), .int mo, .int f].toArray s 0 0 (Afr h sz)) 0 0 h 20 [(3, .int y), (0, .ref (ad 0)), (1, .int mo), (2, .int f)] [] := by
      intro n
      induction n with
      | zero =>
        intro y hy hn hA
        have hc8 := hc.2.2
        refine j_iload_n E dX8_nextOpen_20 rfl ?_
        refine j_aload_n E dX8_nextOpen_21 rfl ?_
        refine gf_X8_25 E M.o rfl dX8_nextOpen_22 ?_
        refine j_iload_n E dX8_nextOpen_25 rfl ?_
        refine j_iald E M.a6 (vin_nn hm C.2.2.1.2.2 (by decide)) dX8_nextOpen_26 ?_
        refine j_icmp_ge (tgt := 54) E dX8_nextOpen_27 (by decide) (fun _ => ?_) (fun q => (q (ge_of hy hc.1 (by show nn (S.1 6 (nn mo) 0) ≤ nn y; omega) (nn_lt y))).elim)
        refine j_aload_n E dX8_nextOpen_54 rfl ?_
        refine j_iconst (v := 2) E dX8_nextOpen_55 ci_2 ?_
        refine j_callV E (c_raises l D S ad ar h M 2) (cw_X8_149 E ⟨Nat.le_of_ble_eq_true rfl, Nat.le_of_ble_eq_true rfl, Nat.le_of_ble_eq_true rfl, Nat.le_of_ble_eq_true rfl, Nat.le_of_ble_eq_true rfl⟩) (q_967 E.tb) (q_19 E.tb) M.o rfl rfl dX8_nextOpen_56 rfl (fun v56 h56 p56 => ?_)
        obtain ⟨rfl, M⟩ := p56
        have e9 : p_nextOpen S mo f = (th S 2, 0) := by unfold p_nextOpen; rw [if_neg (bt (b2i_t c_5)), ← hA]; rfl
        exact j_iret E hr dX8_nextOpen_59 ⟨Nat.le_of_ble_eq_true rfl, Nat.le_of_ble_eq_true rfl⟩ (by show _ ∧ _; rw [e9]; exact ⟨rfl, M⟩)
      | succ n ih =>
        intro y hy hn hA
        have hc8 := hc.2.2
        have hlt : nn y < nn (S.1 6 (nn mo) 0) := by omega
        refine j_iload_n E dX8_nextOpen_20 rfl ?_
        refine j_aload_n E dX8_nextOpen_21 rfl ?_
        refine gf_X8_25 E M.o rfl dX8_nextOpen_22 ?_
        refine j_iload_n E dX8_nextOpen_25 rfl ?_
        refine j_iald E M.a6 (vin_nn hm C.2.2.1.2.2 (by decide)) dX8_nextOpen_26 ?_
        refine j_icmp_ge (tgt := 54) E dX8_nextOpen_27 (by decide) (fun q => (nge_of hy hc.1 hlt (by omega) q).elim) (fun _ => ?_)
        refine j_aload_n E dX8_nextOpen_30 rfl ?_
        refine gf_X8_42 E M.o rfl dX8_nextOpen_31 ?_
        refine j_iload_n E dX8_nextOpen_34 rfl ?_
        refine j_aald E M.a11 rfl (vin_nn hm C.2.2.1.2.2 (by decide)) dX8_nextOpen_35 ?_
        refine J.stk (row_e hm5) ?_
        refine j_iload_n E dX8_nextOpen_36 rfl ?_
        refine j_zald E (M.r0 hm5) (vin_of hy hlt hc.2.2 (by decide)) dX8_nextOpen_37 ?_
        refine j_if_ne (tgt := 48) E dX8_nextOpen_38 (by decide) (fun c_38 => ?_) (fun c_38 => ?_)
        · refine j_iincK (k := 1) E ci_1 dX8_nextOpen_48 rfl (by decide) ?_
          refine j_goto (tgt := 20) E dX8_nextOpen_51 (by decide) ?_
          obtain ⟨a1, a2⟩ := nn_s hy hlt (by omega)
          refine J.sub (lo' := [(3, .int (y + 1)), (0, .ref (ad 0)), (1, .int mo), (2, .int f)]) ⟨rfl, rfl, rfl, rfl, trivial⟩ ?_
          exact ih (y + 1) a1 (by omega) (by rw [a2, ← hA]; show _ = if S.1 11 (nn mo) (nn y) = 0 then some (nn y) else nxt S (nn mo) (nn y + 1) n; rw [if_neg c_38])
        · refine j_aload_n E dX8_nextOpen_41 rfl ?_
          refine j_iconst (v := 0) E dX8_nextOpen_42 ci_0 ?_
          refine pf_X8_84 E M.o (Nat.le_of_ble_eq_true rfl) dX8_nextOpen_43 (fun h43 hMd u43 => ?_)
          have M := M.sc8 hMd u43
          refine j_iload_n E dX8_nextOpen_46 rfl ?_
          have e9 : p_nextOpen S mo f = (th S 0, y) := by unfold p_nextOpen; rw [if_neg (bt (b2i_t c_5)), ← hA]; show (match (if S.1 11 (nn mo) (nn y) = 0 then some (nn y) else nxt S (nn mo) (nn y + 1) n) with | none => _ | some k => _) = _; rw [if_pos c_38]; show (th S 0, nI (nn y)) = _; rw [← hy]
          exact j_iret E hr dX8_nextOpen_47 ⟨Nat.le_of_ble_eq_true rfl, Nat.le_of_ble_eq_true rfl⟩ (by show _ ∧ _; rw [e9]; exact ⟨rfl, M⟩)
    refine J.sub (lo' := [(3, .int (nI (nn f))), (0, .ref (ad 0)), (1, .int mo), (2, .int f)]) ⟨congrArg (fun q => some (Value.int q)) (mx0 f), rfl, rfl, rfl, trivial⟩ ?_
    have e7 : nn (nI (nn f)) = nn f := nI_clamp (nn_lt f)
    exact K _ (nI (nn f)) (by rw [e7]) (by rw [e7]) (by rw [e7]; rfl)
  · refine j_aload_n E dX8_nextOpen_8 rfl ?_
    refine j_iconst (v := 1) E dX8_nextOpen_9 ci_1 ?_
    refine j_callV E (c_raises l D S ad ar h M 1) (cw_X8_149 E ⟨Nat.le_of_ble_eq_true rfl, Nat.le_of_ble_eq_true rfl, Nat.le_of_ble_eq_true rfl, Nat.le_of_ble_eq_true rfl, Nat.le_of_ble_eq_true rfl⟩) (q_967 E.tb) (q_19 E.tb) M.o rfl rfl dX8_nextOpen_10 rfl (fun v10 h10 p10 => ?_)
    obtain ⟨rfl, M⟩ := p10
    have e9 : p_nextOpen S mo f = (th S 1, 0) := by unfold p_nextOpen; rw [if_pos (b2i_f c_5)]
    exact j_iret E hr dX8_nextOpen_13 ⟨Nat.le_of_ble_eq_true rfl, Nat.le_of_ble_eq_true rfl⟩ (by show _ ∧ _; rw [e9]; exact ⟨rfl, M⟩)
set_option maxHeartbeats 4000000 in
set_option maxRecDepth 100000 in
theorem c_addMachine (l : Launch) (D : va_G) (S : St) (ad : Nat → Nat) (ar : Nat → Nat → Nat) (h : AH) (M : Mdl S ad ar h) (C : Cnt S) (x : Int32) : Ctr l D yX8_addMachine cX8_addMachine 2 (some .int) 1 22 0 0 [.ref (ad 0), .int x] h (fun _ => False) (fun r9 h' => r9 = some (.int (p_addMachine S x).2) ∧ Mdl (p_addMachine S x).1 ad ar h') := by
  refine Ctr.of RX8 rfl (by decide) (Nat.le_of_ble_eq_true rfl) ?_
  intro sz p e s m below meth c E hin hr ht
  refine j_aload_n E dX8_addMachine_0 rfl ?_
  refine j_iload_n E dX8_addMachine_1 rfl ?_
  refine j_iconst (v := 1) E dX8_addMachine_2 ci_1 ?_
  refine j_sipush (v := 999) E dX8_addMachine_3 cs_999 ?_
  refine j_callS E (c_in l D _ _ _ _) (cw_X8_91 E ⟨Nat.le_of_ble_eq_true rfl, Nat.le_of_ble_eq_true rfl, Nat.le_of_ble_eq_true rfl, Nat.le_of_ble_eq_true rfl, Nat.le_of_ble_eq_true rfl⟩) (q_877 E.tb) rfl dX8_addMachine_6 rfl (fun v6 h6 p6 => ?_)
  obtain ⟨rfl, rfl⟩ := p6
  refine j_if_ne (tgt := 16) E dX8_addMachine_9 (by decide) (fun c_9 => ?_) (fun c_9 => ?_)
  · refine j_aload_n E dX8_addMachine_16 rfl ?_
    refine gf_X8_105 E M.o rfl dX8_addMachine_17 ?_
    refine j_iconst (v := 3) E dX8_addMachine_20 ci_3 ?_
    refine j_icmp_ne (tgt := 28) E dX8_addMachine_21 (by decide) (fun c_21 => ?_) (fun c_21 => ?_)
    · refine j_iconst (v := 0) E dX8_addMachine_28 ci_0 ?_
      refine pf_X8_84 E M.o (Nat.le_of_ble_eq_true rfl) dX8_addMachine_29 (fun h29 hMd u29 => ?_)
      have M := M.sc8 hMd u29
      refine j_aload_n E dX8_addMachine_32 rfl ?_
      refine gf_X8_84 E hMd rfl dX8_addMachine_33 ?_
      refine j_if_le (tgt := 41) E dX8_addMachine_36 (by decide) (fun _ => ?_) (fun q => (q le0_0).elim)
      refine j_aload_n E dX8_addMachine_41 rfl ?_
      refine gf_X8_53 E M.o rfl dX8_addMachine_42 ?_
      refine j_aload_n E dX8_addMachine_45 rfl ?_
      refine gf_X8_105 E M.o rfl dX8_addMachine_46 ?_
      refine j_iload_n E dX8_addMachine_49 rfl ?_
      refine s_iast E M.a14 (vin_ne C.2.2.2.1 rfl c_21 (by decide)) dX8_addMachine_50 (fun h50 n50 u50 => ?_)
      have M := M.st14 n50 u50
      refine j_aload_n E dX8_addMachine_51 rfl ?_
      refine gf_X8_56 E M.o rfl dX8_addMachine_52 ?_
      refine j_aload_n E dX8_addMachine_55 rfl ?_
      refine gf_X8_105 E M.o rfl dX8_addMachine_56 ?_
      refine j_iconst (v := (-1)) E dX8_addMachine_59 ci_m1 ?_
      refine s_iast E M.a15 (vin_ne C.2.2.2.1 rfl c_21 (by decide)) dX8_addMachine_60 (fun h60 n60 u60 => ?_)
      have M := M.st15 n60 u60
      refine j_aload_n E dX8_addMachine_61 rfl ?_
      refine gf_X8_59 E M.o rfl dX8_addMachine_62 ?_
      refine j_aload_n E dX8_addMachine_65 rfl ?_
      refine gf_X8_105 E M.o rfl dX8_addMachine_66 ?_
      refine j_iconst (v := (-1)) E dX8_addMachine_69 ci_m1 ?_
      refine s_iast E M.a16 (vin_ne C.2.2.2.1 rfl c_21 (by decide)) dX8_addMachine_70 (fun h70 n70 u70 => ?_)
      have M := M.st16 n70 u70
      refine j_aload_n E dX8_addMachine_71 rfl ?_
      refine j_dup E dX8_addMachine_72 rfl ?_
      refine gf_X8_105 E M.o rfl dX8_addMachine_73 ?_
      refine j_iconst (v := 1) E dX8_addMachine_76 ci_1 ?_
      refine j_iadd E dX8_addMachine_77 ?_
      refine pf_X8_105 E M.o (Nat.le_of_ble_eq_true rfl) dX8_addMachine_78 (fun h78 hMd u78 => ?_)
      have M := M.sc3 hMd u78
      refine j_aload_n E dX8_addMachine_81 rfl ?_
      refine gf_X8_105 E M.o rfl dX8_addMachine_82 ?_
      refine j_iconst (v := 1) E dX8_addMachine_85 ci_1 ?_
      refine j_isub E dX8_addMachine_86 ?_
      have e9 := show p_addMachine S x = _ from by unfold p_addMachine; rw [if_neg (bt (b2i_t c_9)), if_neg c_21]
      exact j_iret E hr dX8_addMachine_87 ⟨Nat.le_of_ble_eq_true rfl, Nat.le_of_ble_eq_true rfl⟩ (by show _ ∧ _; rw [e9]; exact ⟨rfl, M⟩)
    · refine j_iconst (v := 2) E dX8_addMachine_24 ci_2 ?_
      refine j_goto (tgt := 29) E dX8_addMachine_25 (by decide) ?_
      refine pf_X8_84 E M.o (Nat.le_of_ble_eq_true rfl) dX8_addMachine_29 (fun h29 hMd u29 => ?_)
      have M := M.sc8 hMd u29
      refine j_aload_n E dX8_addMachine_32 rfl ?_
      refine gf_X8_84 E hMd rfl dX8_addMachine_33 ?_
      refine j_if_le (tgt := 41) E dX8_addMachine_36 (by decide) (fun q => (nle0_2 q).elim) (fun _ => ?_)
      refine j_iconst (v := 0) E dX8_addMachine_39 ci_0 ?_
      have e9 : p_addMachine S x = (th S 2, 0) := by unfold p_addMachine; rw [if_neg (bt (b2i_t c_9)), if_pos c_21]
      exact j_iret E hr dX8_addMachine_40 ⟨Nat.le_of_ble_eq_true rfl, Nat.le_of_ble_eq_true rfl⟩ (by show _ ∧ _; rw [e9]; exact ⟨rfl, M⟩)
  · refine j_iconst (v := 1) E dX8_addMachine_12 ci_1 ?_
    refine j_goto (tgt := 29) E dX8_addMachine_13 (by decide) ?_
    refine pf_X8_84 E M.o (Nat.le_of_ble_eq_true rfl) dX8_addMachine_29 (fun h29 hMd u29 => ?_)
    have M := M.sc8 hMd u29
    refine j_aload_n E dX8_addMachine_32 rfl ?_
    refine gf_X8_84 E hMd rfl dX8_addMachine_33 ?_
    refine j_if_le (tgt := 41) E dX8_addMachine_36 (by decide) (fun q => (nle0_1 q).elim) (fun _ => ?_)
    refine j_iconst (v := 0) E dX8_addMachine_39 ci_0 ?_
    have e9 : p_addMachine S x = (th S 1, 0) := by unfold p_addMachine; rw [if_pos (b2i_f c_9)]
    exact j_iret E hr dX8_addMachine_40 ⟨Nat.le_of_ble_eq_true rfl, Nat.le_of_ble_eq_true rfl⟩ (by show _ ∧ _; rw [e9]; exact ⟨rfl, M⟩)
