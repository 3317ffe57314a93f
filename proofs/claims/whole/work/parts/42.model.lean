/-! the model: fill, lots, drying -/
theorem nn_s {x : Int32} {b : Nat} (hx : x = nI (nn x)) (hb : nn x < b) (hB : b < 2 ^ 31) : x + 1 = nI (nn (x + 1)) ∧ nn (x + 1) = nn x + 1 := by
  have e : x + 1 = nI (nn x + 1) := by rw [nI_succ, ← hx]
  have e2 : nn (x + 1) = nn x + 1 := by rw [e]; exact nI_clamp (by omega)
  exact ⟨by rw [e2]; exact e, e2⟩
theorem ge_of {x y : Int32} (hx : x = nI (nn x)) (hy : y = nI (nn y)) (h : nn y ≤ nn x) (hb : nn x < 2 ^ 31) : y ≤ x := by
  rw [hx, hy]; exact nI_le h hb
theorem nge_of {x y : Int32} (hx : x = nI (nn x)) (hy : y = nI (nn y)) (h : nn x < nn y) (hb : nn y < 2 ^ 31) : ¬ y ≤ x := by
  rw [hx, hy]; exact nI_ge h hb
theorem nn_0 : nn (0 : Int32) = 0 := by decide
theorem e0_nn : (0 : Int32) = nI (nn 0) := by decide
theorem rg_lt {x : Int32} {a b : Nat} (h : Rg x a b) (hb : b < 2 ^ 31) : nn x < 2 ^ 31 := by have := h.2.2; omega
theorem rg_pred {x : Int32} {b : Nat} (h : Rg x 0 b) (h0 : 0 < nn x) (hb : b < 2 ^ 31) : x - 1 = nI (nn (x - 1)) ∧ nn (x - 1) = nn x - 1 := by
  have hk : nn x = (nn x - 1) + 1 := by omega
  have e : x - 1 = nI (nn x - 1) := by
    have h1 := h.1
    rw [hk, nI_succ] at h1
    rw [h1]
    have e3 : nn (nI (nn x - 1)) = nn x - 1 := nI_clamp (by have := h.2.2; omega)
    have e4 := nI_pred (nn x - 1)
    rw [nI_succ] at e4
    rw [e4]
    have e5 : nn (nI (nn x - 1) + 1) = nn x := by rw [← h1]
    rw [e5]
  have e2 : nn (x - 1) = nn x - 1 := by rw [e]; exact nI_clamp (by have := h.2.2; omega)
  exact ⟨by rw [e2]; exact e, e2⟩
set_option maxHeartbeats 4000000 in
set_option maxRecDepth 100000 in
theorem c_fill (l : Launch) (D : va_G) (S : St) (ad : Nat → Nat) (ar : Nat → Nat → Nat) (h : AH) (M : Mdl S ad ar h) (C : Cnt S) (x y : Int32) : Ctr l D yX8_fill cX8_fill 3 (some .int) 2 43 0 0 [.ref (ad 0), .int x, .int y] h (fun _ => False) (fun r9 h' => r9 = some (.int (p_fill S x y).2) ∧ Mdl (p_fill S x y).1 ad ar h') := by
  refine Ctr.of RX8 rfl (by decide) (Nat.le_of_ble_eq_true rfl) ?_
  intro sz p e s m below meth c E hin hr ht
  refine j_aload_n E dX8_fill_0 rfl ?_
  refine j_aload_n E dX8_fill_1 rfl ?_
  refine j_iload_n E dX8_fill_2 rfl ?_
  refine j_callV E (c_isResin l D S ad ar h M x) (cw_X8_111 E ⟨Nat.le_of_ble_eq_true rfl, Nat.le_of_ble_eq_true rfl, Nat.le_of_ble_eq_true rfl, Nat.le_of_ble_eq_true rfl, Nat.le_of_ble_eq_true rfl⟩) (q_885 E.tb) (q_9 E.tb) M.o rfl rfl dX8_fill_3 rfl (fun v3 h3 p3 => ?_)
  obtain ⟨rfl, rfl⟩ := p3
  refine j_if_ne (tgt := 13) E dX8_fill_6 (by decide) (fun c_6 => ?_) (fun c_6 => ?_)
  · refine j_iload_n E dX8_fill_13 rfl ?_
    refine j_iconst (v := 1) E dX8_fill_14 ci_1 ?_
    refine j_ldci E (q_887 E.tb) dX8_fill_15 ?_
    refine j_callS E (c_in l D _ _ _ _) (cw_X8_91 E ⟨Nat.le_of_ble_eq_true rfl, Nat.le_of_ble_eq_true rfl, Nat.le_of_ble_eq_true rfl, Nat.le_of_ble_eq_true rfl, Nat.le_of_ble_eq_true rfl⟩) (q_877 E.tb) rfl dX8_fill_17 rfl (fun v17 h17 p17 => ?_)
    obtain ⟨rfl, rfl⟩ := p17
    refine j_if_ne (tgt := 27) E dX8_fill_20 (by decide) (fun c_20 => ?_) (fun c_20 => ?_)
    · refine j_aload_n E dX8_fill_27 rfl ?_
      refine gf_X8_95 E M.o rfl dX8_fill_28 ?_
      refine j_iconst (v := 3) E dX8_fill_31 ci_3 ?_
      refine j_icmp_ne (tgt := 39) E dX8_fill_32 (by decide) (fun c_32 => ?_) (fun c_32 => ?_)
      · refine j_iconst (v := 0) E dX8_fill_39 ci_0 ?_
        refine pf_X8_84 E M.o (Nat.le_of_ble_eq_true rfl) dX8_fill_40 (fun h40 hMd u40 => ?_)
        have M := M.sc8 hMd u40
        refine j_aload_n E dX8_fill_43 rfl ?_
        refine gf_X8_84 E hMd rfl dX8_fill_44 ?_
        refine j_if_le (tgt := 52) E dX8_fill_47 (by decide) (fun _ => ?_) (fun q => (q le0_0).elim)
        refine j_aload_n E dX8_fill_52 rfl ?_
        refine gf_X8_16 E M.o rfl dX8_fill_53 ?_
        refine j_aload_n E dX8_fill_56 rfl ?_
        refine gf_X8_95 E M.o rfl dX8_fill_57 ?_
        refine j_iload_n E dX8_fill_60 rfl ?_
        refine s_iast E M.a3 (vin_ne C.2.1 rfl c_32 (by decide)) dX8_fill_61 (fun h61 n61 u61 => ?_)
        have M := M.st3 n61 u61
        refine j_aload_n E dX8_fill_62 rfl ?_
        refine gf_X8_19 E M.o rfl dX8_fill_63 ?_
        refine j_aload_n E dX8_fill_66 rfl ?_
        refine gf_X8_95 E M.o rfl dX8_fill_67 ?_
        refine j_iload_n E dX8_fill_70 rfl ?_
        refine s_iast E M.a4 (vin_ne C.2.1 rfl c_32 (by decide)) dX8_fill_71 (fun h71 n71 u71 => ?_)
        have M := M.st4 n71 u71
        refine j_aload_n E dX8_fill_72 rfl ?_
        refine gf_X8_22 E M.o rfl dX8_fill_73 ?_
        refine j_aload_n E dX8_fill_76 rfl ?_
        refine gf_X8_95 E M.o rfl dX8_fill_77 ?_
        refine j_iconst (v := 0) E dX8_fill_80 ci_0 ?_
        refine s_iast E M.a5 (vin_ne C.2.1 rfl c_32 (by decide)) dX8_fill_81 (fun h81 n81 u81 => ?_)
        have M := M.st5 n81 u81
        refine j_aload_n E dX8_fill_82 rfl ?_
        refine j_dup E dX8_fill_83 rfl ?_
        refine gf_X8_95 E M.o rfl dX8_fill_84 ?_
        refine j_iconst (v := 1) E dX8_fill_87 ci_1 ?_
        refine j_iadd E dX8_fill_88 ?_
        refine pf_X8_95 E M.o (Nat.le_of_ble_eq_true rfl) dX8_fill_89 (fun h89 hMd u89 => ?_)
        have M := M.sc1 hMd u89
        refine j_aload_n E dX8_fill_92 rfl ?_
        refine gf_X8_95 E M.o rfl dX8_fill_93 ?_
        have e9 := show p_fill S x y = _ from by unfold p_fill; rw [if_neg (bt (b2i_t c_6)), if_neg (bt (b2i_t c_20)), if_neg c_32]
        exact j_iret E hr dX8_fill_96 ⟨Nat.le_of_ble_eq_true rfl, Nat.le_of_ble_eq_true rfl⟩ (by show _ ∧ _; rw [e9]; exact ⟨rfl, M⟩)
      · refine j_iconst (v := 3) E dX8_fill_35 ci_3 ?_
        refine j_goto (tgt := 40) E dX8_fill_36 (by decide) ?_
        refine pf_X8_84 E M.o (Nat.le_of_ble_eq_true rfl) dX8_fill_40 (fun h40 hMd u40 => ?_)
        have M := M.sc8 hMd u40
        refine j_aload_n E dX8_fill_43 rfl ?_
        refine gf_X8_84 E hMd rfl dX8_fill_44 ?_
        refine j_if_le (tgt := 52) E dX8_fill_47 (by decide) (fun q => (nle0_3 q).elim) (fun _ => ?_)
        refine j_iconst (v := 0) E dX8_fill_50 ci_0 ?_
        have e9 : p_fill S x y = (th S 3, 0) := by unfold p_fill; rw [if_neg (bt (b2i_t c_6)), if_neg (bt (b2i_t c_20)), if_pos c_32]
        exact j_iret E hr dX8_fill_51 ⟨Nat.le_of_ble_eq_true rfl, Nat.le_of_ble_eq_true rfl⟩ (by show _ ∧ _; rw [e9]; exact ⟨rfl, M⟩)
    · refine j_iconst (v := 2) E dX8_fill_23 ci_2 ?_
      refine j_goto (tgt := 40) E dX8_fill_24 (by decide) ?_
      refine pf_X8_84 E M.o (Nat.le_of_ble_eq_true rfl) dX8_fill_40 (fun h40 hMd u40 => ?_)
      have M := M.sc8 hMd u40
      refine j_aload_n E dX8_fill_43 rfl ?_
      refine gf_X8_84 E hMd rfl dX8_fill_44 ?_
      refine j_if_le (tgt := 52) E dX8_fill_47 (by decide) (fun q => (nle0_2 q).elim) (fun _ => ?_)
      refine j_iconst (v := 0) E dX8_fill_50 ci_0 ?_
      have e9 : p_fill S x y = (th S 2, 0) := by unfold p_fill; rw [if_neg (bt (b2i_t c_6)), if_pos (b2i_f c_20)]
      exact j_iret E hr dX8_fill_51 ⟨Nat.le_of_ble_eq_true rfl, Nat.le_of_ble_eq_true rfl⟩ (by show _ ∧ _; rw [e9]; exact ⟨rfl, M⟩)
  · refine j_iconst (v := 1) E dX8_fill_9 ci_1 ?_
    refine j_goto (tgt := 40) E dX8_fill_10 (by decide) ?_
    refine pf_X8_84 E M.o (Nat.le_of_ble_eq_true rfl) dX8_fill_40 (fun h40 hMd u40 => ?_)
    have M := M.sc8 hMd u40
    refine j_aload_n E dX8_fill_43 rfl ?_
    refine gf_X8_84 E hMd rfl dX8_fill_44 ?_
    refine j_if_le (tgt := 52) E dX8_fill_47 (by decide) (fun q => (nle0_1 q).elim) (fun _ => ?_)
    refine j_iconst (v := 0) E dX8_fill_50 ci_0 ?_
    have e9 : p_fill S x y = (th S 1, 0) := by unfold p_fill; rw [if_pos (b2i_f c_6)]
    exact j_iret E hr dX8_fill_51 ⟨Nat.le_of_ble_eq_true rfl, Nat.le_of_ble_eq_true rfl⟩ (by show _ ∧ _; rw [e9]; exact ⟨rfl, M⟩)
set_option maxHeartbeats 4000000 in
set_option maxRecDepth 100000 in
theorem c_leaves (l : Launch) (D : va_G) (S : St) (ad : Nat → Nat) (ar : Nat → Nat → Nat) (h : AH) (M : Mdl S ad ar h) (C : Cnt S) (x : Int32) (hx0 : x = nI (nn x) ∧ nn x < nn (S.1 0 1 0)) : Ctr l D yX8_leaves cX8_leaves 3 none 0 0 0 0 [.ref (ad 0), .int x] h (fun _ => False) (fun r9 h' => r9 = none ∧ Mdl (lev S (nn x)) ad ar h') := by
  refine Ctr.of RX8 rfl (by decide) (Nat.le_of_ble_eq_true rfl) ?_
  intro sz p e s m below meth c E hin hr ht
  obtain ⟨hp, hp2⟩ := rg_pred C.2.1 (by omega) (by decide)
  have hp3 := C.2.1.2.2
  refine j_aload_n E dX8_leaves_0 rfl ?_
  refine j_dup E dX8_leaves_1 rfl ?_
  refine gf_X8_95 E M.o rfl dX8_leaves_2 ?_
  refine j_iconst (v := 1) E dX8_leaves_5 ci_1 ?_
  refine j_isub E dX8_leaves_6 ?_
  refine pf_X8_95 E M.o (Nat.le_of_ble_eq_true rfl) dX8_leaves_7 (fun h7 hMd u7 => ?_)
  have M := M.sc1 hMd u7
  refine j_iload_n E dX8_leaves_10 rfl ?_
  refine j_istore_n E dX8_leaves_11 (by decide) ?_
  have K : ∀ (n : Nat) (y : Int32) (S2 : St) (h2 : AH), y = nI (nn y) → nn y + n = nn (S.1 0 1 0 - 1) → S2.1 0 1 0 = S.1 0 1 0 - 1 → shfN S2 (nn y) n = lev S (nn x) → Mdl S2 ad ar h2 → J p l e { frames := 0, cells := 0, slots := 0, locals := 0 } s m [.ref (ad 0), .int x].toArray below meth c D (Afr h sz) 3 (vx_MQ below (Qcs D h sz (fun r9 h' => r9 = none ∧ Mdl (lev S (nn x)) ad ar h')) (Xcs D h sz (fun _ => False)) [.ref (ad 0), .int x].toArray s 0 0 (Afr h sz)) 0 0 h2 12 [(2, .int y), (0, .ref (ad 0)), (1, .int x)] [] := by
    intro n
    induction n with
    | zero =>
      intro y S2 h2 hy hn hx hS M
      have hy3 : nn y < 3 := by omega
      refine j_iload_n E dX8_leaves_12 rfl ?_
      refine j_aload_n E dX8_leaves_13 rfl ?_
      refine gf_X8_95 E M.o rfl dX8_leaves_14 ?_
      refine j_icmp_ge (tgt := 68) E dX8_leaves_17 (by decide) (fun _ => ?_) (fun q => (q (by show S2.1 0 1 0 ≤ y; rw [hx]; exact ge_of hy hp (by omega) (by omega))).elim)
      exact j_vret E hr dX8_leaves_68 ⟨Nat.le_of_ble_eq_true rfl, Nat.le_of_ble_eq_true rfl⟩ ⟨rfl, by rw [← hS]; exact M⟩
    | succ n ih =>
      intro y S2 h2 hy hn hx hS M
      have hy3 : nn y < 3 := by omega
      refine j_iload_n E dX8_leaves_12 rfl ?_
      refine j_aload_n E dX8_leaves_13 rfl ?_
      refine gf_X8_95 E M.o rfl dX8_leaves_14 ?_
      refine j_icmp_ge (tgt := 68) E dX8_leaves_17 (by decide) (fun q => (nge_of hy hp (by omega) (by omega) (by have q2 : S2.1 0 1 0 ≤ y := q; rw [hx] at q2; exact q2)).elim) (fun _ => ?_)
      refine j_aload_n E dX8_leaves_20 rfl ?_
      refine gf_X8_16 E M.o rfl dX8_leaves_21 ?_
      refine j_iload_n E dX8_leaves_24 rfl ?_
      refine j_aload_n E dX8_leaves_25 rfl ?_
      refine gf_X8_16 E M.o rfl dX8_leaves_26 ?_
      refine j_iload_n E dX8_leaves_29 rfl ?_
      refine j_iconst (v := 1) E dX8_leaves_30 ci_1 ?_
      refine j_iadd E dX8_leaves_31 ?_
      refine j_iald E M.a3 (vin_of (nn_s hy hy3 (by decide)).1 (by rw [(nn_s hy hy3 (by decide)).2]; omega) (Nat.le_refl _) (by decide)) dX8_leaves_32 ?_
      refine s_iast E M.a3 (vin_of hy (by omega) (Nat.le_refl _) (by decide)) dX8_leaves_33 (fun h33 n33 u33 => ?_)
      have M := M.st3 n33 u33
      refine j_aload_n E dX8_leaves_34 rfl ?_
      refine gf_X8_19 E M.o rfl dX8_leaves_35 ?_
      refine j_iload_n E dX8_leaves_38 rfl ?_
      refine j_aload_n E dX8_leaves_39 rfl ?_
      refine gf_X8_19 E M.o rfl dX8_leaves_40 ?_
      refine j_iload_n E dX8_leaves_43 rfl ?_
      refine j_iconst (v := 1) E dX8_leaves_44 ci_1 ?_
      refine j_iadd E dX8_leaves_45 ?_
      refine j_iald E M.a4 (vin_of (nn_s hy hy3 (by decide)).1 (by rw [(nn_s hy hy3 (by decide)).2]; omega) (Nat.le_refl _) (by decide)) dX8_leaves_46 ?_
      refine s_iast E M.a4 (vin_of hy (by omega) (Nat.le_refl _) (by decide)) dX8_leaves_47 (fun h47 n47 u47 => ?_)
      have M := M.st4 n47 u47
      refine j_aload_n E dX8_leaves_48 rfl ?_
      refine gf_X8_22 E M.o rfl dX8_leaves_49 ?_
      refine j_iload_n E dX8_leaves_52 rfl ?_
      refine j_aload_n E dX8_leaves_53 rfl ?_
      refine gf_X8_22 E M.o rfl dX8_leaves_54 ?_
      refine j_iload_n E dX8_leaves_57 rfl ?_
      refine j_iconst (v := 1) E dX8_leaves_58 ci_1 ?_
      refine j_iadd E dX8_leaves_59 ?_
      refine j_iald E M.a5 (vin_of (nn_s hy hy3 (by decide)).1 (by rw [(nn_s hy hy3 (by decide)).2]; omega) (Nat.le_refl _) (by decide)) dX8_leaves_60 ?_
      refine s_iast E M.a5 (vin_of hy (by omega) (Nat.le_refl _) (by decide)) dX8_leaves_61 (fun h61 n61 u61 => ?_)
      have M := M.st5 n61 u61
      refine j_iincK (k := 1) E ci_1 dX8_leaves_62 rfl (by decide) ?_
      refine j_goto (tgt := 12) E dX8_leaves_65 (by decide) ?_
      obtain ⟨a1, a2⟩ := nn_s hy hy3 (by decide)
      refine J.sub (lo' := [(2, .int (y + 1)), (0, .ref (ad 0)), (1, .int x)]) ⟨rfl, rfl, rfl, trivial⟩ ?_
      have M : Mdl (shf S2 (nn y)) ad ar h61 := by unfold shf; rw [← a2]; exact M
      exact ih (y + 1) (shf S2 (nn y)) h61 a1 (by omega) hx (by rw [a2, ← hS]; rfl) M
  refine J.sub (lo' := [(2, .int x), (0, .ref (ad 0)), (1, .int x)]) ⟨rfl, rfl, rfl, trivial⟩ ?_
  exact K (nn (S.1 0 1 0 - 1) - nn x) x _ _ hx0.1 (by omega) rfl rfl M
set_option maxHeartbeats 4000000 in
set_option maxRecDepth 100000 in
theorem c_empty (l : Launch) (D : va_G) (S : St) (ad : Nat → Nat) (ar : Nat → Nat → Nat) (h : AH) (M : Mdl S ad ar h) (C : Cnt S) (x : Int32) : Ctr l D yX8_empty cX8_empty 3 (some .int) 2 43 0 0 [.ref (ad 0), .int x] h (fun _ => False) (fun r9 h' => r9 = some (.int (p_empty S x).2) ∧ Mdl (p_empty S x).1 ad ar h') := by
  refine Ctr.of RX8 rfl (by decide) (Nat.le_of_ble_eq_true rfl) ?_
  intro sz p e s m below meth c E hin hr ht
  refine j_aload_n E dX8_empty_0 rfl ?_
  refine j_aload_n E dX8_empty_1 rfl ?_
  refine j_iload_n E dX8_empty_2 rfl ?_
  refine j_callV E (c_isLot l D S ad ar h M x) (cw_X8_115 E ⟨Nat.le_of_ble_eq_true rfl, Nat.le_of_ble_eq_true rfl, Nat.le_of_ble_eq_true rfl, Nat.le_of_ble_eq_true rfl, Nat.le_of_ble_eq_true rfl⟩) (q_894 E.tb) (q_10 E.tb) M.o rfl rfl dX8_empty_3 rfl (fun v3 h3 p3 => ?_)
  obtain ⟨rfl, rfl⟩ := p3
  refine j_if_eq (tgt := 13) E dX8_empty_6 (by decide) (fun c_6 => ?_) (fun c_6 => ?_)
  · refine j_iconst (v := 1) E dX8_empty_13 ci_1 ?_
    refine pf_X8_84 E M.o (Nat.le_of_ble_eq_true rfl) dX8_empty_14 (fun h14 hMd u14 => ?_)
    have M := M.sc8 hMd u14
    refine j_aload_n E dX8_empty_17 rfl ?_
    refine gf_X8_84 E hMd rfl dX8_empty_18 ?_
    refine j_if_le (tgt := 26) E dX8_empty_21 (by decide) (fun q => (nle0_1 q).elim) (fun _ => ?_)
    refine j_iconst (v := 0) E dX8_empty_24 ci_0 ?_
    have e9 : p_empty S x = (th S 1, 0) := by unfold p_empty; rw [if_pos (b2i_f c_6)]
    exact j_iret E hr dX8_empty_25 ⟨Nat.le_of_ble_eq_true rfl, Nat.le_of_ble_eq_true rfl⟩ (by show _ ∧ _; rw [e9]; exact ⟨rfl, M⟩)
  · refine j_iconst (v := 0) E dX8_empty_9 ci_0 ?_
    refine j_goto (tgt := 14) E dX8_empty_10 (by decide) ?_
    refine pf_X8_84 E M.o (Nat.le_of_ble_eq_true rfl) dX8_empty_14 (fun h14 hMd u14 => ?_)
    have M := M.sc8 hMd u14
    refine j_aload_n E dX8_empty_17 rfl ?_
    refine gf_X8_84 E hMd rfl dX8_empty_18 ?_
    refine j_if_le (tgt := 26) E dX8_empty_21 (by decide) (fun _ => ?_) (fun q => (q le0_0).elim)
    refine j_aload_n E dX8_empty_26 rfl ?_
    refine gf_X8_19 E M.o rfl dX8_empty_27 ?_
    refine j_iload_n E dX8_empty_30 rfl ?_
    refine j_iald E M.a4 (vin_nn (isLot_of C.2.1 (b2i_t c_6)) C.2.1.2.2 (by decide)) dX8_empty_31 ?_
    refine j_istore_n E dX8_empty_32 (by decide) ?_
    refine j_aload_n E dX8_empty_33 rfl ?_
    refine j_iload_n E dX8_empty_34 rfl ?_
    refine j_callV E (c_leaves l D _ ad ar _ M C x (isLot_of C.2.1 (b2i_t c_6))) (cw_X8_118 E ⟨Nat.le_of_ble_eq_true rfl, Nat.le_of_ble_eq_true rfl, Nat.le_of_ble_eq_true rfl, Nat.le_of_ble_eq_true rfl, Nat.le_of_ble_eq_true rfl⟩) (q_898 E.tb) (q_11 E.tb) M.o rfl rfl dX8_empty_35 rfl (fun v35 h35 p35 => ?_)
    obtain ⟨rfl, M⟩ := p35
    refine j_iload_n E dX8_empty_38 rfl ?_
    have e9 := show p_empty S x = _ from by unfold p_empty; rw [if_neg (bt (b2i_t c_6))]
    exact j_iret E hr dX8_empty_39 ⟨Nat.le_of_ble_eq_true rfl, Nat.le_of_ble_eq_true rfl⟩ (by show _ ∧ _; rw [e9]; exact ⟨rfl, M⟩)
/-- the resins of the lots -/
def LR (S : St) : Prop := ∀ k, k < nn (S.1 0 1 0) → S.1 3 k 0 = nI (nn (S.1 3 k 0)) ∧ nn (S.1 3 k 0) < nn (S.1 0 0 0)
theorem ILot.lr {S : St} (L : ILot S) : LR S := fun k hk => (L k hk).1
set_option maxHeartbeats 4000000 in
set_option maxRecDepth 100000 in
theorem c_toDry (l : Launch) (D : va_G) (S : St) (ad : Nat → Nat) (ar : Nat → Nat → Nat) (h : AH) (M : Mdl S ad ar h) (C : Cnt S) (x : Int32) (hx : x = nI (nn x) ∧ nn x < nn (S.1 0 1 0)) (L : LR S) : Ctr l D yX8_toDry cX8_toDry 2 (some .int) 1 21 0 0 [.ref (ad 0), .int x] h (fun _ => False) (fun r9 h' => r9 = some (.int (toDry S (nn x))) ∧ h = h') := by
  refine Ctr.of RX8 rfl (by decide) (Nat.le_of_ble_eq_true rfl) ?_
  intro sz p e s m below meth c E hin hr ht
  refine j_iconst (v := 0) E dX8_toDry_0 ci_0 ?_
  refine j_aload_n E dX8_toDry_1 rfl ?_
  refine gf_X8_9 E M.o rfl dX8_toDry_2 ?_
  refine j_aload_n E dX8_toDry_5 rfl ?_
  refine gf_X8_16 E M.o rfl dX8_toDry_6 ?_
  refine j_iload_n E dX8_toDry_9 rfl ?_
  refine j_iald E M.a3 (vin_nn hx C.2.1.2.2 (by decide)) dX8_toDry_10 ?_
  refine j_iald E M.a1 (vin_nn (L _ hx.2) C.1.2.2 (by decide)) dX8_toDry_11 ?_
  refine j_aload_n E dX8_toDry_12 rfl ?_
  refine gf_X8_22 E M.o rfl dX8_toDry_13 ?_
  refine j_iload_n E dX8_toDry_16 rfl ?_
  refine j_iald E M.a5 (vin_nn hx C.2.1.2.2 (by decide)) dX8_toDry_17 ?_
  refine j_isub E dX8_toDry_18 ?_
  refine j_mmax E (q_912 E.tb) (q_352 E.tb) (q_39 E.tb) (q_353 E.tb) ⟨Nat.le_of_ble_eq_true rfl, Nat.le_of_ble_eq_true rfl, Nat.le_of_ble_eq_true rfl, Nat.le_of_ble_eq_true rfl⟩ dX8_toDry_19 ?_
  exact j_iret E hr dX8_toDry_22 ⟨Nat.le_of_ble_eq_true rfl, Nat.le_of_ble_eq_true rfl⟩ ⟨rfl, rfl⟩
set_option maxHeartbeats 4000000 in
set_option maxRecDepth 100000 in
theorem c_hoursToDry (l : Launch) (D : va_G) (S : St) (ad : Nat → Nat) (ar : Nat → Nat → Nat) (h : AH) (M : Mdl S ad ar h) (C : Cnt S) (x : Int32) (L : LR S) : Ctr l D yX8_hoursToDry cX8_hoursToDry 2 (some .int) 2 43 0 0 [.ref (ad 0), .int x] h (fun _ => False) (fun r9 h' => r9 = some (.int (p_hoursToDry S x).2) ∧ Mdl (p_hoursToDry S x).1 ad ar h') := by
  refine Ctr.of RX8 rfl (by decide) (Nat.le_of_ble_eq_true rfl) ?_
  intro sz p e s m below meth c E hin hr ht
  refine j_aload_n E dX8_hoursToDry_0 rfl ?_
  refine j_aload_n E dX8_hoursToDry_1 rfl ?_
  refine j_iload_n E dX8_hoursToDry_2 rfl ?_
  refine j_callV E (c_isLot l D S ad ar h M x) (cw_X8_115 E ⟨Nat.le_of_ble_eq_true rfl, Nat.le_of_ble_eq_true rfl, Nat.le_of_ble_eq_true rfl, Nat.le_of_ble_eq_true rfl, Nat.le_of_ble_eq_true rfl⟩) (q_894 E.tb) (q_10 E.tb) M.o rfl rfl dX8_hoursToDry_3 rfl (fun v3 h3 p3 => ?_)
  obtain ⟨rfl, rfl⟩ := p3
  refine j_if_eq (tgt := 13) E dX8_hoursToDry_6 (by decide) (fun c_6 => ?_) (fun c_6 => ?_)
  · refine j_iconst (v := 1) E dX8_hoursToDry_13 ci_1 ?_
    refine pf_X8_84 E M.o (Nat.le_of_ble_eq_true rfl) dX8_hoursToDry_14 (fun h14 hMd u14 => ?_)
    have M := M.sc8 hMd u14
    refine j_aload_n E dX8_hoursToDry_17 rfl ?_
    refine gf_X8_84 E hMd rfl dX8_hoursToDry_18 ?_
    refine j_if_le (tgt := 28) E dX8_hoursToDry_21 (by decide) (fun q => (nle0_1 q).elim) (fun _ => ?_)
    refine j_iconst (v := 0) E dX8_hoursToDry_24 ci_0 ?_
    refine j_goto (tgt := 33) E dX8_hoursToDry_25 (by decide) ?_
    have e9 : p_hoursToDry S x = (th S 1, 0) := by unfold p_hoursToDry; rw [if_pos (b2i_f c_6)]
    exact j_iret E hr dX8_hoursToDry_33 ⟨Nat.le_of_ble_eq_true rfl, Nat.le_of_ble_eq_true rfl⟩ (by show _ ∧ _; rw [e9]; exact ⟨rfl, M⟩)
  · refine j_iconst (v := 0) E dX8_hoursToDry_9 ci_0 ?_
    refine j_goto (tgt := 14) E dX8_hoursToDry_10 (by decide) ?_
    refine pf_X8_84 E M.o (Nat.le_of_ble_eq_true rfl) dX8_hoursToDry_14 (fun h14 hMd u14 => ?_)
    have M := M.sc8 hMd u14
    refine j_aload_n E dX8_hoursToDry_17 rfl ?_
    refine gf_X8_84 E hMd rfl dX8_hoursToDry_18 ?_
    refine j_if_le (tgt := 28) E dX8_hoursToDry_21 (by decide) (fun _ => ?_) (fun q => (q le0_0).elim)
    refine j_aload_n E dX8_hoursToDry_28 rfl ?_
    refine j_iload_n E dX8_hoursToDry_29 rfl ?_
    refine j_callV E (c_toDry l D _ ad ar _ M C x (isLot_of C.2.1 (b2i_t c_6)) L) (cw_X8_128 E ⟨Nat.le_of_ble_eq_true rfl, Nat.le_of_ble_eq_true rfl, Nat.le_of_ble_eq_true rfl, Nat.le_of_ble_eq_true rfl, Nat.le_of_ble_eq_true rfl⟩) (q_910 E.tb) (q_12 E.tb) M.o rfl rfl dX8_hoursToDry_30 rfl (fun v30 h30 p30 => ?_)
    obtain ⟨rfl, rfl⟩ := p30
    have e9 := show p_hoursToDry S x = _ from by unfold p_hoursToDry; rw [if_neg (bt (b2i_t c_6))]
    exact j_iret E hr dX8_hoursToDry_33 ⟨Nat.le_of_ble_eq_true rfl, Nat.le_of_ble_eq_true rfl⟩ (by show _ ∧ _; rw [e9]; exact ⟨rfl, M⟩)
