/-! the model: hours, shares, means -/
theorem vf32_of {r : UInt32} (h : Jvm.FP.Core.fIsNaN r = false) : vf_n32 r := by
  have h1 : ¬ 2139095040 < r.toNat % 2 ^ 31 := fun q => by
    rw [(Jvm.FP.Core.isNaN_bits32 r).mpr q] at h
    exact absurd h (by decide)
  show r &&& 0x7fffffff ≤ 0x7f800000
  rw [UInt32.le_iff_toNat_le, UInt32.toNat_and]
  have e1 : (0x7fffffff : UInt32).toNat = 2 ^ 31 - 1 := rfl
  have e2 : (0x7f800000 : UInt32).toNat = 2139095040 := rfl
  rw [e1, e2, Nat.and_two_pow_sub_one_eq_mod]
  omega
theorem vf64_of {r : UInt64} (h : Jvm.FP.Core.dIsNaN r = false) : vf_n64 r := by
  have h1 : ¬ 9218868437227405312 < r.toNat % 2 ^ 63 := fun q => by
    rw [(Jvm.FP.Core.isNaN_bits r).mpr q] at h
    exact absurd h (by decide)
  show r &&& 0x7fffffffffffffff ≤ 0x7ff0000000000000
  rw [UInt64.le_iff_toNat_le, UInt64.toNat_and]
  have e1 : (0x7fffffffffffffff : UInt64).toNat = 2 ^ 63 - 1 := rfl
  have e2 : (0x7ff0000000000000 : UInt64).toNat = 9218868437227405312 := rfl
  rw [e1, e2, Nat.and_two_pow_sub_one_eq_mod]
  omega
theorem nan32 {a b : Int64} (hb : ¬ b = 0) : vf_n32 (FP.fdiv (FP.l2f a) (FP.l2f b)) := by
  refine vf32_of ?_
  refine Jvm.FP.Core.fdiv_out ?_ (Jvm.FP.Core.l2f_fin b) (fun q => ?_)
  · refine Jvm.FP.Core.not_true32 (Jvm.FP.Core.isNaN_bits32 _) (fun q => ?_)
    have := Jvm.FP.Core.l2f_mag a
    have e : (192 * 2 ^ 23 : Nat) = 1610612736 := rfl
    have e2 : (Jvm.FP.Core.l2f a).toNat % 2 ^ 31 = (FP.l2f a).toNat % 2 ^ 31 := rfl
    omega
  · rw [Jvm.FP.Core.zero_bits232] at q
    exact Jvm.FP.Core.l2f_ne_zero hb q
theorem nan64 {a b : Int32} (hb : ¬ b = 0) : vf_n64 (FP.ddiv (FP.i2d a) (FP.i2d b)) := by
  refine vf64_of ?_
  refine Jvm.FP.Core.ddiv_out ?_ (Jvm.FP.Core.i2d_fin b) (fun q => ?_)
  · refine Jvm.FP.Core.not_true (Jvm.FP.Core.isNaN_bits _) (fun q => ?_)
    have := Jvm.FP.Core.i2d_mag a
    have e : (1056 * 2 ^ 52 : Nat) = 4755801206503243776 := rfl
    have e2 : (Jvm.FP.Core.i2d a).toNat % 2 ^ 63 = (FP.i2d a).toNat % 2 ^ 63 := rfl
    omega
  · rw [Jvm.FP.Core.zero_bits2] at q
    exact Jvm.FP.Core.i2d_ne_zero hb q
theorem ne2_0 : ¬ (2 : Int32) = 0 := by decide
set_option maxHeartbeats 4000000 in
set_option maxRecDepth 100000 in
theorem c_pass (l : Launch) (D : va_G) (S : St) (ad : Nat → Nat) (ar : Nat → Nat → Nat) (h : AH) (M : Mdl S ad ar h) (C : Cnt S) (x : Int32) (B : Nat) (I : Inv S B) (hB : B + 4320 < 1000000) : Ctr l D yX8_pass cX8_pass 4 (some .int) 5 120 0 0 [.ref (ad 0), .int x] h (fun _ => False) (fun r9 h' => r9 = some (.int (p_pass S x).2) ∧ Mdl (p_pass S x).1 ad ar h') := by
  refine Ctr.of RX8 rfl (by decide) (Nat.le_of_ble_eq_true rfl) ?_
  intro sz p e s m below meth c E hin hr ht
  refine j_aload_n E dX8_pass_0 rfl ?_
  refine j_iload_n E dX8_pass_1 rfl ?_
  refine j_iconst (v := 1) E dX8_pass_2 ci_1 ?_
  refine j_bipush (v := 24) E dX8_pass_3 cb_24 ?_
  refine j_callS E (c_in l D _ _ _ _) (cw_X8_91 E ⟨Nat.le_of_ble_eq_true rfl, Nat.le_of_ble_eq_true rfl, Nat.le_of_ble_eq_true rfl, Nat.le_of_ble_eq_true rfl, Nat.le_of_ble_eq_true rfl⟩) (q_877 E.tb) rfl dX8_pass_5 rfl (fun v5 h5 p5 => ?_)
  obtain ⟨rfl, rfl⟩ := p5
  refine j_if_ne (tgt := 15) E dX8_pass_8 (by decide) (fun c_8 => ?_) (fun c_8 => ?_)
  · refine j_aload_n E dX8_pass_15 rfl ?_
    refine gf_X8_183 E M.o rfl dX8_pass_16 ?_
    refine j_iload_n E dX8_pass_19 rfl ?_
    refine j_iadd E dX8_pass_20 ?_
    refine j_sipush (v := 300) E dX8_pass_21 cs_300 ?_
    refine j_icmp_le (tgt := 31) E dX8_pass_24 (by decide) (fun c_24 => ?_) (fun c_24 => ?_)
    · refine j_iconst (v := 0) E dX8_pass_31 ci_0 ?_
      refine pf_X8_84 E M.o (Nat.le_of_ble_eq_true rfl) dX8_pass_32 (fun h32 hMd u32 => ?_)
      have M := M.sc8 hMd u32
      refine j_iconst (v := 0) E dX8_pass_35 ci_0 ?_
      refine j_istore_n E dX8_pass_36 (by decide) ?_
      refine j_iconst (v := 0) E dX8_pass_37 ci_0 ?_
      refine j_istore_n E dX8_pass_38 (by decide) ?_
      have hx : Rg x 1 24 := inB_rg (b2i_t c_8) (by decide) (by decide)
      have h300 : nn (S.1 0 5 0) + nn x ≤ 300 := by
        have q1 := hx.2.2
        have q2 := I.hrs.2.2
        obtain ⟨b1, b2⟩ := nadd I.hrs.1 hx.1 (by omega)
        have q3 := c_24
        rw [i32_le, ntoI b1, show (300 : Int32).toInt = 300 by decide] at q3
        omega
      have K : ∀ (n : Nat) (y a : Int32) (S2 : St) (h2 : AH), y = nI (nn y) → nn y + n = nn x → hrN S2 a n = hrN (th S 0) 0 (nn x) → Inv S2 (B + 180 * nn y) → nn (S2.1 0 5 0) + n ≤ 300 → S2.1 0 8 0 = 0 → Mdl S2 ad ar h2 → J p l e { frames := 5, cells := 0, slots := 0, locals := 120 } s m [.ref (ad 0), .int x].toArray below meth c D (Afr h sz) 4 (vx_MQ below (Qcs D h sz (fun r9 h' => r9 = some (.int (p_pass S x).2) ∧ Mdl (p_pass S x).1 ad ar h')) (Xcs D h sz (fun _ => False)) [.ref (ad 0), .int x].toArray s 0 0 (Afr h sz)) 0 0 h2 39 [(2, .int a), (3, .int y), (1, .int x), (0, .ref (ad 0))] [] := by
        intro n
        induction n with
        | zero =>
          intro y a S2 h2 hy hn hs I2 h3 h8 M
          have hx24 := hx.2.2
          refine j_iload_n E dX8_pass_39 rfl ?_
          refine j_iload_n E dX8_pass_40 rfl ?_
          refine j_icmp_ge (tgt := 64) E dX8_pass_41 (by decide) (fun _ => ?_) (fun q => (q (ge_of hy hx.1 (by omega) (nn_lt y))).elim)
          refine j_iload_n E dX8_pass_64 rfl ?_
          have e9 : p_pass S x = (S2, a) := by unfold p_pass; rw [if_neg (bt (b2i_t c_8)), if_neg (i32_nlt c_24)]; exact hs.symm
          exact j_iret E hr dX8_pass_65 ⟨Nat.le_of_ble_eq_true rfl, Nat.le_of_ble_eq_true rfl⟩ (by show _ ∧ _; rw [e9]; exact ⟨rfl, M⟩)
        | succ n ih =>
          intro y a S2 h2 hy hn hs I2 h3 h8 M
          have hx24 := hx.2.2
          refine j_iload_n E dX8_pass_39 rfl ?_
          refine j_iload_n E dX8_pass_40 rfl ?_
          refine j_icmp_ge (tgt := 64) E dX8_pass_41 (by decide) (fun q => (nge_of hy hx.1 (by omega) (nn_lt x) q).elim) (fun _ => ?_)
          refine j_aload_n E dX8_pass_44 rfl ?_
          refine gf_X8_84 E M.o rfl dX8_pass_45 ?_
          refine j_if_ne (tgt := 64) E dX8_pass_48 (by decide) (fun q => (q h8).elim) (fun _ => ?_)
          refine j_iload_n E dX8_pass_51 rfl ?_
          refine j_aload_n E dX8_pass_52 rfl ?_
          refine j_callV E (c_hour l D S2 ad ar h2 M I2.cnt (B + 180 * nn y) I2 (by omega)) (cw_X8_186 E ⟨Nat.le_of_ble_eq_true rfl, Nat.le_of_ble_eq_true rfl, Nat.le_of_ble_eq_true rfl, Nat.le_of_ble_eq_true rfl, Nat.le_of_ble_eq_true rfl⟩) (q_1024 E.tb) (q_22 E.tb) M.o rfl rfl dX8_pass_53 rfl (fun v53 h53 p53 => ?_)
          obtain ⟨rfl, M⟩ := p53
          refine j_iadd E dX8_pass_56 ?_
          refine j_istore_n E dX8_pass_57 (by decide) ?_
          refine j_iincK (k := 1) E ci_1 dX8_pass_58 rfl (by decide) ?_
          refine j_goto (tgt := 39) E dX8_pass_61 (by decide) ?_
          obtain ⟨a1, a2⟩ := nn_s hy (show nn y < nn x by omega) (nn_lt x)
          obtain ⟨b1, b2⟩ := nadd I2.hrs.1 e_1 (by rw [nn_1]; omega)
          rw [nn_1] at b2
          refine J.sub (lo' := [(2, .int (a + (hour S2).2)), (3, .int (y + 1)), (1, .int x), (0, .ref (ad 0))]) ⟨rfl, rfl, rfl, rfl, trivial⟩ ?_
          exact ih (y + 1) (a + (hour S2).2) (hour S2).1 _ a1 (by omega) hs (by rw [a2, show B + 180 * (nn y + 1) = B + 180 * nn y + 180 by omega]; exact hour_inv I2 (by omega) (by omega)) (by rw [hour_5, b2]; omega) (by rw [hour_0 (by decide) (by decide) (by decide) (by decide)]; exact h8) M
      refine J.sub (lo' := [(2, .int 0), (3, .int 0), (1, .int x), (0, .ref (ad 0))]) ⟨rfl, rfl, rfl, rfl, trivial⟩ ?_
      exact K (nn x) 0 0 (th S 0) _ e_0 (by rw [nn_0]; omega) rfl (by rw [nn_0]; exact I.th) h300 rfl M
    · refine j_iconst (v := 2) E dX8_pass_27 ci_2 ?_
      refine j_goto (tgt := 32) E dX8_pass_28 (by decide) ?_
      refine pf_X8_84 E M.o (Nat.le_of_ble_eq_true rfl) dX8_pass_32 (fun h32 hMd u32 => ?_)
      have M := M.sc8 hMd u32
      refine j_iconst (v := 0) E dX8_pass_35 ci_0 ?_
      refine j_istore_n E dX8_pass_36 (by decide) ?_
      refine j_iconst (v := 0) E dX8_pass_37 ci_0 ?_
      refine j_istore_n E dX8_pass_38 (by decide) ?_
      refine j_iload_n E dX8_pass_39 rfl ?_
      refine j_iload_n E dX8_pass_40 rfl ?_
      refine j_icmp_ge (tgt := 64) E dX8_pass_41 (by decide) (fun c_41 => ?_) (fun c_41 => ?_)
      · refine j_iload_n E dX8_pass_64 rfl ?_
        have e9 : p_pass S x = (th S 2, 0) := by unfold p_pass; rw [if_neg (bt (b2i_t c_8)), if_pos (i32_ltof c_24)]
        exact j_iret E hr dX8_pass_65 ⟨Nat.le_of_ble_eq_true rfl, Nat.le_of_ble_eq_true rfl⟩ (by show _ ∧ _; rw [e9]; exact ⟨rfl, M⟩)
      · refine j_aload_n E dX8_pass_44 rfl ?_
        refine gf_X8_84 E M.o rfl dX8_pass_45 ?_
        refine j_if_ne (tgt := 64) E dX8_pass_48 (by decide) (fun _ => ?_) (fun q => (ne2_0 q).elim)
        refine j_iload_n E dX8_pass_64 rfl ?_
        have e9 : p_pass S x = (th S 2, 0) := by unfold p_pass; rw [if_neg (bt (b2i_t c_8)), if_pos (i32_ltof c_24)]
        exact j_iret E hr dX8_pass_65 ⟨Nat.le_of_ble_eq_true rfl, Nat.le_of_ble_eq_true rfl⟩ (by show _ ∧ _; rw [e9]; exact ⟨rfl, M⟩)
  · refine j_iconst (v := 1) E dX8_pass_11 ci_1 ?_
    refine j_goto (tgt := 32) E dX8_pass_12 (by decide) ?_
    refine pf_X8_84 E M.o (Nat.le_of_ble_eq_true rfl) dX8_pass_32 (fun h32 hMd u32 => ?_)
    have M := M.sc8 hMd u32
    refine j_iconst (v := 0) E dX8_pass_35 ci_0 ?_
    refine j_istore_n E dX8_pass_36 (by decide) ?_
    refine j_iconst (v := 0) E dX8_pass_37 ci_0 ?_
    refine j_istore_n E dX8_pass_38 (by decide) ?_
    refine j_iload_n E dX8_pass_39 rfl ?_
    refine j_iload_n E dX8_pass_40 rfl ?_
    refine j_icmp_ge (tgt := 64) E dX8_pass_41 (by decide) (fun c_41 => ?_) (fun c_41 => ?_)
    · refine j_iload_n E dX8_pass_64 rfl ?_
      have e9 : p_pass S x = (th S 1, 0) := by unfold p_pass; rw [if_pos (b2i_f c_8)]
      exact j_iret E hr dX8_pass_65 ⟨Nat.le_of_ble_eq_true rfl, Nat.le_of_ble_eq_true rfl⟩ (by show _ ∧ _; rw [e9]; exact ⟨rfl, M⟩)
    · refine j_aload_n E dX8_pass_44 rfl ?_
      refine gf_X8_84 E M.o rfl dX8_pass_45 ?_
      refine j_if_ne (tgt := 64) E dX8_pass_48 (by decide) (fun _ => ?_) (fun q => (ne1_0 q).elim)
      refine j_iload_n E dX8_pass_64 rfl ?_
      have e9 : p_pass S x = (th S 1, 0) := by unfold p_pass; rw [if_pos (b2i_f c_8)]
      exact j_iret E hr dX8_pass_65 ⟨Nat.le_of_ble_eq_true rfl, Nat.le_of_ble_eq_true rfl⟩ (by show _ ∧ _; rw [e9]; exact ⟨rfl, M⟩)
set_option maxHeartbeats 4000000 in
set_option maxRecDepth 100000 in
theorem c_regrindShare (l : Launch) (D : va_G) (S : St) (ad : Nat → Nat) (ar : Nat → Nat → Nat) (h : AH) (M : Mdl S ad ar h) (hne : ¬ S.1 0 6 0 = 0 → vf_n32 (FP.fdiv (FP.l2f (S.2 1 0)) (FP.l2f (S.2 0 0)))) : Ctr l D yX8_regrindShare cX8_regrindShare 1 (some .float) 0 0 0 0 [.ref (ad 0)] h (fun _ => False) (fun r9 h' => r9 = some (.float (p_regrindShare S).2) ∧ Mdl (p_regrindShare S).1 ad ar h') := by
  refine Ctr.of RX8 rfl (by decide) (Nat.le_of_ble_eq_true rfl) ?_
  intro sz p e s m below meth c E hin hr ht
  refine j_aload_n E dX8_regrindShare_0 rfl ?_
  refine j_aload_n E dX8_regrindShare_1 rfl ?_
  refine gf_X8_167 E M.o rfl dX8_regrindShare_2 ?_
  refine j_if_ne (tgt := 12) E dX8_regrindShare_5 (by decide) (fun c_5 => ?_) (fun c_5 => ?_)
  · refine j_iconst (v := 0) E dX8_regrindShare_12 ci_0 ?_
    refine pf_X8_84 E M.o (Nat.le_of_ble_eq_true rfl) dX8_regrindShare_13 (fun h13 hMd u13 => ?_)
    have M := M.sc8 hMd u13
    refine j_aload_n E dX8_regrindShare_16 rfl ?_
    refine gf_X8_84 E M.o rfl dX8_regrindShare_17 ?_
    refine j_if_le (tgt := 27) E dX8_regrindShare_20 (by decide) (fun _ => ?_) (fun q => (q le0_0).elim)
    refine j_aload_n E dX8_regrindShare_27 rfl ?_
    refine gf_X8_177 E M.o rfl dX8_regrindShare_28 ?_
    refine j_l2f E dX8_regrindShare_31 ?_
    refine j_aload_n E dX8_regrindShare_32 rfl ?_
    refine gf_X8_173 E M.o rfl dX8_regrindShare_33 ?_
    refine j_l2f E dX8_regrindShare_36 ?_
    refine j_fdiv E dX8_regrindShare_37 (hne c_5) ?_
    have e9 := show p_regrindShare S = _ from by unfold p_regrindShare; rw [if_neg c_5]
    exact j_fret E hr dX8_regrindShare_38 ⟨Nat.le_of_ble_eq_true rfl, Nat.le_of_ble_eq_true rfl⟩ (by show _ ∧ _; rw [e9]; exact ⟨rfl, M⟩)
  · refine j_iconst (v := 1) E dX8_regrindShare_8 ci_1 ?_
    refine j_goto (tgt := 13) E dX8_regrindShare_9 (by decide) ?_
    refine pf_X8_84 E M.o (Nat.le_of_ble_eq_true rfl) dX8_regrindShare_13 (fun h13 hMd u13 => ?_)
    have M := M.sc8 hMd u13
    refine j_aload_n E dX8_regrindShare_16 rfl ?_
    refine gf_X8_84 E M.o rfl dX8_regrindShare_17 ?_
    refine j_if_le (tgt := 27) E dX8_regrindShare_20 (by decide) (fun q => (nle0_1 q).elim) (fun _ => ?_)
    refine j_fconst0 E dX8_regrindShare_23 ?_
    refine j_goto (tgt := 38) E dX8_regrindShare_24 (by decide) ?_
    have e9 : p_regrindShare S = (th S 1, FP.fconst0) := by unfold p_regrindShare; rw [if_pos c_5]
    exact j_fret E hr dX8_regrindShare_38 ⟨Nat.le_of_ble_eq_true rfl, Nat.le_of_ble_eq_true rfl⟩ (by show _ ∧ _; rw [e9]; exact ⟨rfl, M⟩)
set_option maxHeartbeats 4000000 in
set_option maxRecDepth 100000 in
theorem c_meanParts (l : Launch) (D : va_G) (S : St) (ad : Nat → Nat) (ar : Nat → Nat → Nat) (h : AH) (M : Mdl S ad ar h) : Ctr l D yX8_meanParts cX8_meanParts 1 (some .double) 0 0 0 0 [.ref (ad 0)] h (fun _ => False) (fun r9 h' => r9 = some (.double (p_meanParts S).2) ∧ Mdl (p_meanParts S).1 ad ar h') := by
  refine Ctr.of RX8 rfl (by decide) (Nat.le_of_ble_eq_true rfl) ?_
  intro sz p e s m below meth c E hin hr ht
  refine j_aload_n E dX8_meanParts_0 rfl ?_
  refine j_aload_n E dX8_meanParts_1 rfl ?_
  refine gf_X8_167 E M.o rfl dX8_meanParts_2 ?_
  refine j_if_ne (tgt := 12) E dX8_meanParts_5 (by decide) (fun c_5 => ?_) (fun c_5 => ?_)
  · refine j_iconst (v := 0) E dX8_meanParts_12 ci_0 ?_
    refine pf_X8_84 E M.o (Nat.le_of_ble_eq_true rfl) dX8_meanParts_13 (fun h13 hMd u13 => ?_)
    have M := M.sc8 hMd u13
    refine j_aload_n E dX8_meanParts_16 rfl ?_
    refine gf_X8_84 E M.o rfl dX8_meanParts_17 ?_
    refine j_if_le (tgt := 27) E dX8_meanParts_20 (by decide) (fun _ => ?_) (fun q => (q le0_0).elim)
    refine j_aload_n E dX8_meanParts_27 rfl ?_
    refine gf_X8_170 E M.o rfl dX8_meanParts_28 ?_
    refine j_i2d E dX8_meanParts_31 ?_
    refine j_aload_n E dX8_meanParts_32 rfl ?_
    refine gf_X8_167 E M.o rfl dX8_meanParts_33 ?_
    refine j_i2d E dX8_meanParts_36 ?_
    refine j_ddiv E dX8_meanParts_37 (nan64 c_5) ?_
    have e9 := show p_meanParts S = _ from by unfold p_meanParts; rw [if_neg c_5]
    exact j_dret E hr dX8_meanParts_38 ⟨Nat.le_of_ble_eq_true rfl, Nat.le_of_ble_eq_true rfl⟩ (by show _ ∧ _; rw [e9]; exact ⟨rfl, M⟩)
  · refine j_iconst (v := 1) E dX8_meanParts_8 ci_1 ?_
    refine j_goto (tgt := 13) E dX8_meanParts_9 (by decide) ?_
    refine pf_X8_84 E M.o (Nat.le_of_ble_eq_true rfl) dX8_meanParts_13 (fun h13 hMd u13 => ?_)
    have M := M.sc8 hMd u13
    refine j_aload_n E dX8_meanParts_16 rfl ?_
    refine gf_X8_84 E M.o rfl dX8_meanParts_17 ?_
    refine j_if_le (tgt := 27) E dX8_meanParts_20 (by decide) (fun q => (nle0_1 q).elim) (fun _ => ?_)
    refine j_dconst0 E dX8_meanParts_23 ?_
    refine j_goto (tgt := 38) E dX8_meanParts_24 (by decide) ?_
    have e9 : p_meanParts S = (th S 1, FP.dconst0) := by unfold p_meanParts; rw [if_pos c_5]
    exact j_dret E hr dX8_meanParts_38 ⟨Nat.le_of_ble_eq_true rfl, Nat.le_of_ble_eq_true rfl⟩ (by show _ ∧ _; rw [e9]; exact ⟨rfl, M⟩)
