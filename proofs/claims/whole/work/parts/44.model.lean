/-! the model: machines, orders, taking -/
theorem i32_nlt {x y : Int32} (h : x ≤ y) : ¬ y < x := by rw [i32_lt]; rw [i32_le] at h; omega
theorem i32_ltof {x y : Int32} (h : ¬ x ≤ y) : y < x := by rw [i32_lt]; rw [i32_le] at h; omega
theorem rg_ne0 {x : Int32} {a b : Nat} (h : Rg x (a + 1) b) : ¬ x = 0 := fun e => by
  have h1 := h.2.1
  rw [e] at h1
  exact absurd h1 (by rw [nn_0]; omega)
theorem rg_0 {x : Int32} {b : Nat} (h : Rg x 0 b) (hb : b < 2 ^ 31) (h2 : x ≤ 0) : x = 0 := by
  have h1 := h.toI hb
  rw [i32_le, h1] at h2
  have h0 : (0 : Int32).toInt = 0 := by decide
  have h3 : nn x = 0 := by omega
  rw [h.1, h3]; rfl
theorem rg_lt1 {x K : Int32} {b : Nat} (h : Rg x 0 b) (hK : nI b = K) (hne : ¬ x = K) : nn x < b := by
  have h1 := h.2.2
  rcases Nat.lt_or_ge (nn x) b with q | q
  · exact q
  · exact absurd (by rw [h.1, show nn x = b by omega, hK]) hne
theorem openN_th {S : St} {t : Int32} {mo : Nat} : ∀ n, openN (th S t) mo n = openN S mo n
  | 0 => rfl
  | n + 1 => by show openN (th S t) mo n + opT (th S t) mo n = _; rw [openN_th n]; rfl
theorem opn_th {S : St} {t : Int32} {mo : Nat} : opn (th S t) mo = opn S mo := openN_th _
theorem gt0_no : ¬ (0 : Int32) < 0 := by decide
theorem gt1 : (0 : Int32) < 1 := by decide
theorem gt2 : (0 : Int32) < 2 := by decide
theorem tkN_c {S : St} {r g : Int32} {c i j : Nat} (hc : c ≠ 4) : ∀ n, (tkN S r g n).1.1 c i j = S.1 c i j
  | 0 => rfl
  | n + 1 => (s1_c hc).trans (tkN_c hc n)
theorem Cnt.of {S S2 : St} (C : Cnt S) (h : ∀ i, i < 5 → S2.1 0 i 0 = S.1 0 i 0) : Cnt S2 := by
  unfold Cnt
  rw [h 0 (by decide), h 1 (by decide), h 2 (by decide), h 3 (by decide), h 4 (by decide)]
  exact C
theorem LR.of {S S2 : St} (L : LR S) (h : ∀ c i j, c ≠ 4 → S2.1 c i j = S.1 c i j) : LR S2 := fun k hk => by
  rw [h 0 1 0 (by decide)] at hk
  rw [h 3 k 0 (by decide), h 0 0 0 (by decide)]
  exact L k hk
theorem nn_8 : nn (8 : Int32) = 8 := by decide
set_option maxHeartbeats 4000000 in
set_option maxRecDepth 100000 in
theorem c_addMould (l : Launch) (D : va_G) (S : St) (ad : Nat → Nat) (ar : Nat → Nat → Nat) (h : AH) (M : Mdl S ad ar h) (C : Cnt S) (ca pa sp fo cy : Int32) : Ctr l D yX8_addMould cX8_addMould 8 (some .int) 1 22 0 0 [.ref (ad 0), .int ca, .int pa, .int sp, .int fo, .int cy] h (fun _ => False) (fun r9 h' => r9 = some (.int (p_addMould S ca pa sp fo cy).2) ∧ Mdl (p_addMould S ca pa sp fo cy).1 ad ar h') := by
  refine Ctr.of RX8 rfl (by decide) (Nat.le_of_ble_eq_true rfl) ?_
  intro sz p e s m below meth c E hin hr ht
  refine j_iload_n E dX8_addMould_0 rfl ?_
  refine j_iconst (v := 1) E dX8_addMould_1 ci_1 ?_
  refine j_bipush (v := 8) E dX8_addMould_2 cb_8 ?_
  refine j_callS E (c_in l D _ _ _ _) (cw_X8_91 E ⟨Nat.le_of_ble_eq_true rfl, Nat.le_of_ble_eq_true rfl, Nat.le_of_ble_eq_true rfl, Nat.le_of_ble_eq_true rfl, Nat.le_of_ble_eq_true rfl⟩) (q_877 E.tb) rfl dX8_addMould_4 rfl (fun v4 h4 p4 => ?_)
  obtain ⟨rfl, rfl⟩ := p4
  refine j_if_eq (tgt := 61) E dX8_addMould_7 (by decide) (fun c_7 => ?_) (fun c_7 => ?_)
  · refine j_iconst (v := 0) E dX8_addMould_61 ci_0 ?_
    refine j_istore E dX8_addMould_62 (by decide) ?_
    refine j_aload_n E dX8_addMould_64 rfl ?_
    refine j_iload E dX8_addMould_65 rfl ?_
    refine j_if_ne (tgt := 74) E dX8_addMould_67 (by decide) (fun q => (q rfl).elim) (fun _ => ?_)
    refine j_iconst (v := 1) E dX8_addMould_70 ci_1 ?_
    refine j_goto (tgt := 87) E dX8_addMould_71 (by decide) ?_
    refine pf_X8_84 E M.o (Nat.le_of_ble_eq_true rfl) dX8_addMould_87 (fun h87 hMd u87 => ?_)
    have M := M.sc8 hMd u87
    refine j_aload_n E dX8_addMould_90 rfl ?_
    refine gf_X8_84 E hMd rfl dX8_addMould_91 ?_
    refine j_if_le (tgt := 99) E dX8_addMould_94 (by decide) (fun q => (nle0_1 q).elim) (fun _ => ?_)
    refine j_iconst (v := 0) E dX8_addMould_97 ci_0 ?_
    have e9 : p_addMould S ca pa sp fo cy = (th S 1, 0) := by unfold p_addMould; rw [if_pos (show okMould ca pa sp fo cy = false by unfold okMould; rw [b2i_f c_7] <;> rfl)]
    exact j_iret E hr dX8_addMould_98 ⟨Nat.le_of_ble_eq_true rfl, Nat.le_of_ble_eq_true rfl⟩ (by show _ ∧ _; rw [e9]; exact ⟨rfl, M⟩)
  · refine j_iload_n E dX8_addMould_10 rfl ?_
    refine j_iconst (v := 1) E dX8_addMould_11 ci_1 ?_
    refine j_sipush (v := 200) E dX8_addMould_12 cs_200 ?_
    refine j_callS E (c_in l D _ _ _ _) (cw_X8_91 E ⟨Nat.le_of_ble_eq_true rfl, Nat.le_of_ble_eq_true rfl, Nat.le_of_ble_eq_true rfl, Nat.le_of_ble_eq_true rfl, Nat.le_of_ble_eq_true rfl⟩) (q_877 E.tb) rfl dX8_addMould_15 rfl (fun v15 h15 p15 => ?_)
    obtain ⟨rfl, rfl⟩ := p15
    refine j_if_eq (tgt := 61) E dX8_addMould_18 (by decide) (fun c_18 => ?_) (fun c_18 => ?_)
    · refine j_iconst (v := 0) E dX8_addMould_61 ci_0 ?_
      refine j_istore E dX8_addMould_62 (by decide) ?_
      refine j_aload_n E dX8_addMould_64 rfl ?_
      refine j_iload E dX8_addMould_65 rfl ?_
      refine j_if_ne (tgt := 74) E dX8_addMould_67 (by decide) (fun q => (q rfl).elim) (fun _ => ?_)
      refine j_iconst (v := 1) E dX8_addMould_70 ci_1 ?_
      refine j_goto (tgt := 87) E dX8_addMould_71 (by decide) ?_
      refine pf_X8_84 E M.o (Nat.le_of_ble_eq_true rfl) dX8_addMould_87 (fun h87 hMd u87 => ?_)
      have M := M.sc8 hMd u87
      refine j_aload_n E dX8_addMould_90 rfl ?_
      refine gf_X8_84 E hMd rfl dX8_addMould_91 ?_
      refine j_if_le (tgt := 99) E dX8_addMould_94 (by decide) (fun q => (nle0_1 q).elim) (fun _ => ?_)
      refine j_iconst (v := 0) E dX8_addMould_97 ci_0 ?_
      have e9 : p_addMould S ca pa sp fo cy = (th S 1, 0) := by unfold p_addMould; rw [if_pos (show okMould ca pa sp fo cy = false by unfold okMould; rw [b2i_f c_18, Bool.and_false] <;> rfl)]
      exact j_iret E hr dX8_addMould_98 ⟨Nat.le_of_ble_eq_true rfl, Nat.le_of_ble_eq_true rfl⟩ (by show _ ∧ _; rw [e9]; exact ⟨rfl, M⟩)
    · refine j_iload_n E dX8_addMould_21 rfl ?_
      refine j_iconst (v := 0) E dX8_addMould_22 ci_0 ?_
      refine j_sipush (v := 200) E dX8_addMould_23 cs_200 ?_
      refine j_callS E (c_in l D _ _ _ _) (cw_X8_91 E ⟨Nat.le_of_ble_eq_true rfl, Nat.le_of_ble_eq_true rfl, Nat.le_of_ble_eq_true rfl, Nat.le_of_ble_eq_true rfl, Nat.le_of_ble_eq_true rfl⟩) (q_877 E.tb) rfl dX8_addMould_26 rfl (fun v26 h26 p26 => ?_)
      obtain ⟨rfl, rfl⟩ := p26
      refine j_if_eq (tgt := 61) E dX8_addMould_29 (by decide) (fun c_29 => ?_) (fun c_29 => ?_)
      · refine j_iconst (v := 0) E dX8_addMould_61 ci_0 ?_
        refine j_istore E dX8_addMould_62 (by decide) ?_
        refine j_aload_n E dX8_addMould_64 rfl ?_
        refine j_iload E dX8_addMould_65 rfl ?_
        refine j_if_ne (tgt := 74) E dX8_addMould_67 (by decide) (fun q => (q rfl).elim) (fun _ => ?_)
        refine j_iconst (v := 1) E dX8_addMould_70 ci_1 ?_
        refine j_goto (tgt := 87) E dX8_addMould_71 (by decide) ?_
        refine pf_X8_84 E M.o (Nat.le_of_ble_eq_true rfl) dX8_addMould_87 (fun h87 hMd u87 => ?_)
        have M := M.sc8 hMd u87
        refine j_aload_n E dX8_addMould_90 rfl ?_
        refine gf_X8_84 E hMd rfl dX8_addMould_91 ?_
        refine j_if_le (tgt := 99) E dX8_addMould_94 (by decide) (fun q => (nle0_1 q).elim) (fun _ => ?_)
        refine j_iconst (v := 0) E dX8_addMould_97 ci_0 ?_
        have e9 : p_addMould S ca pa sp fo cy = (th S 1, 0) := by unfold p_addMould; rw [if_pos (show okMould ca pa sp fo cy = false by unfold okMould; rw [b2i_f c_29, Bool.and_false] <;> rfl)]
        exact j_iret E hr dX8_addMould_98 ⟨Nat.le_of_ble_eq_true rfl, Nat.le_of_ble_eq_true rfl⟩ (by show _ ∧ _; rw [e9]; exact ⟨rfl, M⟩)
      · refine j_iload E dX8_addMould_32 rfl ?_
        refine j_iconst (v := 1) E dX8_addMould_34 ci_1 ?_
        refine j_sipush (v := 999) E dX8_addMould_35 cs_999 ?_
        refine j_callS E (c_in l D _ _ _ _) (cw_X8_91 E ⟨Nat.le_of_ble_eq_true rfl, Nat.le_of_ble_eq_true rfl, Nat.le_of_ble_eq_true rfl, Nat.le_of_ble_eq_true rfl, Nat.le_of_ble_eq_true rfl⟩) (q_877 E.tb) rfl dX8_addMould_38 rfl (fun v38 h38 p38 => ?_)
        obtain ⟨rfl, rfl⟩ := p38
        refine j_if_eq (tgt := 61) E dX8_addMould_41 (by decide) (fun c_41 => ?_) (fun c_41 => ?_)
        · refine j_iconst (v := 0) E dX8_addMould_61 ci_0 ?_
          refine j_istore E dX8_addMould_62 (by decide) ?_
          refine j_aload_n E dX8_addMould_64 rfl ?_
          refine j_iload E dX8_addMould_65 rfl ?_
          refine j_if_ne (tgt := 74) E dX8_addMould_67 (by decide) (fun q => (q rfl).elim) (fun _ => ?_)
          refine j_iconst (v := 1) E dX8_addMould_70 ci_1 ?_
          refine j_goto (tgt := 87) E dX8_addMould_71 (by decide) ?_
          refine pf_X8_84 E M.o (Nat.le_of_ble_eq_true rfl) dX8_addMould_87 (fun h87 hMd u87 => ?_)
          have M := M.sc8 hMd u87
          refine j_aload_n E dX8_addMould_90 rfl ?_
          refine gf_X8_84 E hMd rfl dX8_addMould_91 ?_
          refine j_if_le (tgt := 99) E dX8_addMould_94 (by decide) (fun q => (nle0_1 q).elim) (fun _ => ?_)
          refine j_iconst (v := 0) E dX8_addMould_97 ci_0 ?_
          have e9 : p_addMould S ca pa sp fo cy = (th S 1, 0) := by unfold p_addMould; rw [if_pos (show okMould ca pa sp fo cy = false by unfold okMould; rw [b2i_f c_41, Bool.and_false] <;> rfl)]
          exact j_iret E hr dX8_addMould_98 ⟨Nat.le_of_ble_eq_true rfl, Nat.le_of_ble_eq_true rfl⟩ (by show _ ∧ _; rw [e9]; exact ⟨rfl, M⟩)
        · refine j_iload E dX8_addMould_44 rfl ?_
          refine j_bipush (v := 60) E dX8_addMould_46 cb_60 ?_
          refine j_sipush (v := 3600) E dX8_addMould_48 cs_3600 ?_
          refine j_callS E (c_in l D _ _ _ _) (cw_X8_91 E ⟨Nat.le_of_ble_eq_true rfl, Nat.le_of_ble_eq_true rfl, Nat.le_of_ble_eq_true rfl, Nat.le_of_ble_eq_true rfl, Nat.le_of_ble_eq_true rfl⟩) (q_877 E.tb) rfl dX8_addMould_51 rfl (fun v51 h51 p51 => ?_)
          obtain ⟨rfl, rfl⟩ := p51
          refine j_if_eq (tgt := 61) E dX8_addMould_54 (by decide) (fun c_54 => ?_) (fun c_54 => ?_)
          · refine j_iconst (v := 0) E dX8_addMould_61 ci_0 ?_
            refine j_istore E dX8_addMould_62 (by decide) ?_
            refine j_aload_n E dX8_addMould_64 rfl ?_
            refine j_iload E dX8_addMould_65 rfl ?_
            refine j_if_ne (tgt := 74) E dX8_addMould_67 (by decide) (fun q => (q rfl).elim) (fun _ => ?_)
            refine j_iconst (v := 1) E dX8_addMould_70 ci_1 ?_
            refine j_goto (tgt := 87) E dX8_addMould_71 (by decide) ?_
            refine pf_X8_84 E M.o (Nat.le_of_ble_eq_true rfl) dX8_addMould_87 (fun h87 hMd u87 => ?_)
            have M := M.sc8 hMd u87
            refine j_aload_n E dX8_addMould_90 rfl ?_
            refine gf_X8_84 E hMd rfl dX8_addMould_91 ?_
            refine j_if_le (tgt := 99) E dX8_addMould_94 (by decide) (fun q => (nle0_1 q).elim) (fun _ => ?_)
            refine j_iconst (v := 0) E dX8_addMould_97 ci_0 ?_
            have e9 : p_addMould S ca pa sp fo cy = (th S 1, 0) := by unfold p_addMould; rw [if_pos (show okMould ca pa sp fo cy = false by unfold okMould; rw [b2i_f c_54, Bool.and_false] <;> rfl)]
            exact j_iret E hr dX8_addMould_98 ⟨Nat.le_of_ble_eq_true rfl, Nat.le_of_ble_eq_true rfl⟩ (by show _ ∧ _; rw [e9]; exact ⟨rfl, M⟩)
          · refine j_iconst (v := 1) E dX8_addMould_57 ci_1 ?_
            refine j_goto (tgt := 62) E dX8_addMould_58 (by decide) ?_
            refine j_istore E dX8_addMould_62 (by decide) ?_
            refine j_aload_n E dX8_addMould_64 rfl ?_
            refine j_iload E dX8_addMould_65 rfl ?_
            refine j_if_ne (tgt := 74) E dX8_addMould_67 (by decide) (fun _ => ?_) (fun q => (ne1_0 q).elim)
            refine j_aload_n E dX8_addMould_74 rfl ?_
            refine gf_X8_98 E M.o rfl dX8_addMould_75 ?_
            refine j_iconst (v := 5) E dX8_addMould_78 ci_5 ?_
            refine j_icmp_ne (tgt := 86) E dX8_addMould_79 (by decide) (fun c_79 => ?_) (fun c_79 => ?_)
            · refine j_iconst (v := 0) E dX8_addMould_86 ci_0 ?_
              refine pf_X8_84 E M.o (Nat.le_of_ble_eq_true rfl) dX8_addMould_87 (fun h87 hMd u87 => ?_)
              have M := M.sc8 hMd u87
              refine j_aload_n E dX8_addMould_90 rfl ?_
              refine gf_X8_84 E hMd rfl dX8_addMould_91 ?_
              refine j_if_le (tgt := 99) E dX8_addMould_94 (by decide) (fun _ => ?_) (fun q => (q le0_0).elim)
              refine j_aload_n E dX8_addMould_99 rfl ?_
              refine gf_X8_25 E M.o rfl dX8_addMould_100 ?_
              refine j_aload_n E dX8_addMould_103 rfl ?_
              refine gf_X8_98 E M.o rfl dX8_addMould_104 ?_
              refine j_iload_n E dX8_addMould_107 rfl ?_
              refine s_iast E M.a6 (vin_ne C.2.2.1 rfl c_79 (by decide)) dX8_addMould_108 (fun h108 n108 u108 => ?_)
              have M := M.st6 n108 u108
              refine j_aload_n E dX8_addMould_109 rfl ?_
              refine gf_X8_28 E M.o rfl dX8_addMould_110 ?_
              refine j_aload_n E dX8_addMould_113 rfl ?_
              refine gf_X8_98 E M.o rfl dX8_addMould_114 ?_
              refine j_iload_n E dX8_addMould_117 rfl ?_
              refine s_iast E M.a7 (vin_ne C.2.2.1 rfl c_79 (by decide)) dX8_addMould_118 (fun h118 n118 u118 => ?_)
              have M := M.st7 n118 u118
              refine j_aload_n E dX8_addMould_119 rfl ?_
              refine gf_X8_31 E M.o rfl dX8_addMould_120 ?_
              refine j_aload_n E dX8_addMould_123 rfl ?_
              refine gf_X8_98 E M.o rfl dX8_addMould_124 ?_
              refine j_iload_n E dX8_addMould_127 rfl ?_
              refine s_iast E M.a8 (vin_ne C.2.2.1 rfl c_79 (by decide)) dX8_addMould_128 (fun h128 n128 u128 => ?_)
              have M := M.st8 n128 u128
              refine j_aload_n E dX8_addMould_129 rfl ?_
              refine gf_X8_34 E M.o rfl dX8_addMould_130 ?_
              refine j_aload_n E dX8_addMould_133 rfl ?_
              refine gf_X8_98 E M.o rfl dX8_addMould_134 ?_
              refine j_iload E dX8_addMould_137 rfl ?_
              refine s_iast E M.a9 (vin_ne C.2.2.1 rfl c_79 (by decide)) dX8_addMould_139 (fun h139 n139 u139 => ?_)
              have M := M.st9 n139 u139
              refine j_aload_n E dX8_addMould_140 rfl ?_
              refine gf_X8_37 E M.o rfl dX8_addMould_141 ?_
              refine j_aload_n E dX8_addMould_144 rfl ?_
              refine gf_X8_98 E M.o rfl dX8_addMould_145 ?_
              refine j_iload E dX8_addMould_148 rfl ?_
              refine s_iast E M.a10 (vin_ne C.2.2.1 rfl c_79 (by decide)) dX8_addMould_150 (fun h150 n150 u150 => ?_)
              have M := M.st10 n150 u150
              refine j_iconst (v := 0) E dX8_addMould_151 ci_0 ?_
              refine j_istore E dX8_addMould_152 (by decide) ?_
              have hg : okMould ca pa sp fo cy = true := by unfold okMould; rw [b2i_t c_7, b2i_t c_18, b2i_t c_29, b2i_t c_41, b2i_t c_54] <;> rfl
              obtain ⟨S0, hS0⟩ : ∃ S0, S0 = s1 (s1 (s1 (s1 (s1 (th S 0) 6 (nn (S.1 0 2 0)) 0 ca) 7 (nn (S.1 0 2 0)) 0 pa) 8 (nn (S.1 0 2 0)) 0 sp) 9 (nn (S.1 0 2 0)) 0 fo) 10 (nn (S.1 0 2 0)) 0 cy := ⟨_, rfl⟩
              have M : Mdl S0 ad ar h150 := by rw [hS0]; exact M
              have h02 : S0.1 0 2 0 = S.1 0 2 0 := by rw [hS0]; rfl
              have hm5 := rg_lt1 C.2.2.1 rfl c_79
              have K : ∀ (n : Nat) (z : Int32) (S2 : St) (h2 : AH), z = nI (nn z) → nn z + n = 8 → S2 = livN S0 (nn (S.1 0 2 0)) (nn z) → Mdl S2 ad ar h2 → J p l e { frames := 1, cells := 0, slots := 0, locals := 22 } s m [.ref (ad 0), .int ca, .int pa, .int sp, .int fo, .int cy].toArray below meth c D (Afr h sz) 8 (vx_MQ below (Qcs D h sz (fun r9 h' => r9 = some (.int (p_addMould S ca pa sp fo cy).2) ∧ Mdl (p_addMould S ca pa sp fo cy).1 ad ar h')) (Xcs D h sz (fun _ => False)) [.ref (ad 0), .int ca, .int pa, .int sp, .int fo, .int cy].toArray s 0 0 (Afr h sz)) 0 0 h2 154 [(7, .int z), (0, .ref (ad 0))] [] := by
                intro n
                induction n with
                | zero =>
                  intro z S2 h2 hz hn hS M
                  have e2 : S2.1 0 2 0 = S.1 0 2 0 := by rw [hS]; exact (livN_c (by decide) _).trans h02
                  refine j_iload E dX8_addMould_154 rfl ?_
                  refine j_bipush (v := 8) E dX8_addMould_156 cb_8 ?_
                  refine j_icmp_ge (tgt := 182) E dX8_addMould_158 (by decide) (fun _ => ?_) (fun q => (q (ge_of hz (by decide) (by show nn (8 : Int32) ≤ _; rw [nn_8]; omega) (by omega))).elim)
                  refine j_aload_n E dX8_addMould_182 rfl ?_
                  refine j_dup E dX8_addMould_183 rfl ?_
                  refine gf_X8_98 E M.o rfl dX8_addMould_184 ?_
                  refine j_iconst (v := 1) E dX8_addMould_187 ci_1 ?_
                  refine j_iadd E dX8_addMould_188 ?_
                  refine pf_X8_98 E M.o (Nat.le_of_ble_eq_true rfl) dX8_addMould_189 (fun h189 hMd u189 => ?_)
                  have M := M.sc2 hMd u189
                  refine j_aload_n E dX8_addMould_192 rfl ?_
                  refine gf_X8_98 E M.o rfl dX8_addMould_193 ?_
                  refine j_iconst (v := 1) E dX8_addMould_196 ci_1 ?_
                  refine j_isub E dX8_addMould_197 ?_
                  have e9 : p_addMould S ca pa sp fo cy = (s1 S2 0 2 0 (S2.1 0 2 0 + 1), S2.1 0 2 0 + 1 - 1) := by unfold p_addMould; rw [if_neg (bt hg), if_neg c_79, e2, hS, show nn z = 8 from hn, hS0]
                  exact j_iret E hr dX8_addMould_198 ⟨Nat.le_of_ble_eq_true rfl, Nat.le_of_ble_eq_true rfl⟩ (by show _ ∧ _; rw [e9]; exact ⟨rfl, M⟩)
                | succ n ih =>
                  intro z S2 h2 hz hn hS M
                  have e2 : S2.1 0 2 0 = S.1 0 2 0 := by rw [hS]; exact (livN_c (by decide) _).trans h02
                  have hz8 : nn z < 8 := by omega
                  refine j_iload E dX8_addMould_154 rfl ?_
                  refine j_bipush (v := 8) E dX8_addMould_156 cb_8 ?_
                  refine j_icmp_ge (tgt := 182) E dX8_addMould_158 (by decide) (fun q => (nge_of hz (by decide) (by show _ < nn (8 : Int32); rw [nn_8]; omega) (by decide) q).elim) (fun _ => ?_)
                  refine j_aload_n E dX8_addMould_161 rfl ?_
                  refine gf_X8_47 E M.o rfl dX8_addMould_162 ?_
                  refine j_aload_n E dX8_addMould_165 rfl ?_
                  refine gf_X8_98 E M.o rfl dX8_addMould_166 ?_
                  refine j_aald E M.a12 rfl (by show vp_in (S2.1 0 2 0) 5; rw [e2]; exact vin_ne C.2.2.1 rfl c_79 (by decide)) dX8_addMould_169 ?_
                  refine J.stk (row_e (by rw [e2]; exact hm5)) ?_
                  refine j_iload E dX8_addMould_170 rfl ?_
                  refine j_sipush (v := 9999) E dX8_addMould_172 cs_9999 ?_
                  refine s_iast E (M.r1 (by rw [e2]; exact hm5)) (vin_of hz hz8 (Nat.le_refl 8) (by decide)) dX8_addMould_175 (fun h175 n175 u175 => ?_)
                  have M := M.sr1 (by rw [e2]; exact hm5) n175 u175
                  refine j_iincK (k := 1) E ci_1 dX8_addMould_176 rfl (by decide) ?_
                  refine j_goto (tgt := 154) E dX8_addMould_179 (by decide) ?_
                  obtain ⟨a1, a2⟩ := nn_s hz hz8 (by decide)
                  refine J.sub (lo' := [(7, .int (z + 1)), (0, .ref (ad 0))]) ⟨rfl, rfl, trivial⟩ ?_
                  exact ih (z + 1) (s1 S2 12 (nn (S2.1 0 2 0)) (nn z) 9999) h175 a1 (by omega) (by rw [e2, a2, hS]; rfl) M
              refine J.sub (lo' := [(7, .int 0), (0, .ref (ad 0))]) ⟨rfl, rfl, trivial⟩ ?_
              exact K 8 0 S0 _ e0_nn (by rw [nn_0]) rfl M
            · refine j_iconst (v := 2) E dX8_addMould_82 ci_2 ?_
              refine j_goto (tgt := 87) E dX8_addMould_83 (by decide) ?_
              refine pf_X8_84 E M.o (Nat.le_of_ble_eq_true rfl) dX8_addMould_87 (fun h87 hMd u87 => ?_)
              have M := M.sc8 hMd u87
              refine j_aload_n E dX8_addMould_90 rfl ?_
              refine gf_X8_84 E hMd rfl dX8_addMould_91 ?_
              refine j_if_le (tgt := 99) E dX8_addMould_94 (by decide) (fun q => (nle0_2 q).elim) (fun _ => ?_)
              refine j_iconst (v := 0) E dX8_addMould_97 ci_0 ?_
              have hg : okMould ca pa sp fo cy = true := by unfold okMould; rw [b2i_t c_7, b2i_t c_18, b2i_t c_29, b2i_t c_41, b2i_t c_54] <;> rfl
              have e9 : p_addMould S ca pa sp fo cy = (th S 2, 0) := by unfold p_addMould; rw [if_neg (bt hg), if_pos c_79]
              exact j_iret E hr dX8_addMould_98 ⟨Nat.le_of_ble_eq_true rfl, Nat.le_of_ble_eq_true rfl⟩ (by show _ ∧ _; rw [e9]; exact ⟨rfl, M⟩)
set_option maxHeartbeats 4000000 in
set_option maxRecDepth 100000 in
theorem c_mount (l : Launch) (D : va_G) (S : St) (ad : Nat → Nat) (ar : Nat → Nat → Nat) (h : AH) (M : Mdl S ad ar h) (C : Cnt S) (a mo : Int32) : Ctr l D yX8_mount cX8_mount 4 (some .int) 2 43 0 0 [.ref (ad 0), .int a, .int mo] h (fun _ => False) (fun r9 h' => r9 = some (.int (p_mount S a mo).2) ∧ Mdl (p_mount S a mo).1 ad ar h') := by
  refine Ctr.of RX8 rfl (by decide) (Nat.le_of_ble_eq_true rfl) ?_
  intro sz p e s m below meth c E hin hr ht
  refine j_aload_n E dX8_mount_0 rfl ?_
  refine j_aload_n E dX8_mount_1 rfl ?_
  refine j_iload_n E dX8_mount_2 rfl ?_
  refine j_callV E (c_isMachine l D S ad ar h M a) (cw_X8_152 E ⟨Nat.le_of_ble_eq_true rfl, Nat.le_of_ble_eq_true rfl, Nat.le_of_ble_eq_true rfl, Nat.le_of_ble_eq_true rfl, Nat.le_of_ble_eq_true rfl⟩) (q_979 E.tb) (q_20 E.tb) M.o rfl rfl dX8_mount_3 rfl (fun v3 h3 p3 => ?_)
  obtain ⟨rfl, rfl⟩ := p3
  refine j_if_eq (tgt := 17) E dX8_mount_6 (by decide) (fun c_6 => ?_) (fun c_6 => ?_)
  · refine j_iconst (v := 1) E dX8_mount_17 ci_1 ?_
    refine j_goto (tgt := 53) E dX8_mount_18 (by decide) ?_
    refine pf_X8_84 E M.o (Nat.le_of_ble_eq_true rfl) dX8_mount_53 (fun h53 hMd u53 => ?_)
    have M := M.sc8 hMd u53
    refine j_aload_n E dX8_mount_56 rfl ?_
    refine gf_X8_84 E hMd rfl dX8_mount_57 ?_
    refine j_if_le (tgt := 65) E dX8_mount_60 (by decide) (fun q => (nle0_1 q).elim) (fun _ => ?_)
    refine j_iconst (v := 0) E dX8_mount_63 ci_0 ?_
    have e9 : p_mount S a mo = (th S 1, 0) := by unfold p_mount; rw [if_pos (b2i_f c_6)]
    exact j_iret E hr dX8_mount_64 ⟨Nat.le_of_ble_eq_true rfl, Nat.le_of_ble_eq_true rfl⟩ (by show _ ∧ _; rw [e9]; exact ⟨rfl, M⟩)
  · refine j_aload_n E dX8_mount_9 rfl ?_
    refine j_iload_n E dX8_mount_10 rfl ?_
    refine j_callV E (c_isMould l D S ad ar h M mo) (cw_X8_101 E ⟨Nat.le_of_ble_eq_true rfl, Nat.le_of_ble_eq_true rfl, Nat.le_of_ble_eq_true rfl, Nat.le_of_ble_eq_true rfl, Nat.le_of_ble_eq_true rfl⟩) (q_939 E.tb) (q_15 E.tb) M.o rfl rfl dX8_mount_11 rfl (fun v11 h11 p11 => ?_)
    obtain ⟨rfl, rfl⟩ := p11
    refine j_if_ne (tgt := 21) E dX8_mount_14 (by decide) (fun c_14 => ?_) (fun c_14 => ?_)
    · have ha := isMac_of C.2.2.2.1 (b2i_t c_6)
      have hm := isMou_of C.2.2.1 (b2i_t c_14)
      refine j_aload_n E dX8_mount_21 rfl ?_
      refine gf_X8_34 E M.o rfl dX8_mount_22 ?_
      refine j_iload_n E dX8_mount_25 rfl ?_
      refine j_iald E M.a9 (vin_nn hm C.2.2.1.2.2 (by decide)) dX8_mount_26 ?_
      refine j_aload_n E dX8_mount_27 rfl ?_
      refine gf_X8_53 E M.o rfl dX8_mount_28 ?_
      refine j_iload_n E dX8_mount_31 rfl ?_
      refine j_iald E M.a14 (vin_nn ha C.2.2.2.1.2.2 (by decide)) dX8_mount_32 ?_
      refine j_icmp_le (tgt := 40) E dX8_mount_33 (by decide) (fun c_33 => ?_) (fun c_33 => ?_)
      · refine j_aload_n E dX8_mount_40 rfl ?_
        refine j_iload_n E dX8_mount_41 rfl ?_
        refine j_callV E (c_isMounted l D S ad ar h M C mo) (cw_X8_146 E ⟨Nat.le_of_ble_eq_true rfl, Nat.le_of_ble_eq_true rfl, Nat.le_of_ble_eq_true rfl, Nat.le_of_ble_eq_true rfl, Nat.le_of_ble_eq_true rfl⟩) (q_959 E.tb) (q_18 E.tb) M.o rfl rfl dX8_mount_42 rfl (fun v42 h42 p42 => ?_)
        obtain ⟨rfl, rfl⟩ := p42
        refine j_if_eq (tgt := 52) E dX8_mount_45 (by decide) (fun c_45 => ?_) (fun c_45 => ?_)
        · refine j_iconst (v := 0) E dX8_mount_52 ci_0 ?_
          refine pf_X8_84 E M.o (Nat.le_of_ble_eq_true rfl) dX8_mount_53 (fun h53 hMd u53 => ?_)
          have M := M.sc8 hMd u53
          refine j_aload_n E dX8_mount_56 rfl ?_
          refine gf_X8_84 E hMd rfl dX8_mount_57 ?_
          refine j_if_le (tgt := 65) E dX8_mount_60 (by decide) (fun _ => ?_) (fun q => (q le0_0).elim)
          refine j_aload_n E dX8_mount_65 rfl ?_
          refine gf_X8_56 E M.o rfl dX8_mount_66 ?_
          refine j_iload_n E dX8_mount_69 rfl ?_
          refine j_iald E M.a15 (vin_nn ha C.2.2.2.1.2.2 (by decide)) dX8_mount_70 ?_
          refine j_istore_n E dX8_mount_71 (by decide) ?_
          refine j_aload_n E dX8_mount_72 rfl ?_
          refine gf_X8_56 E M.o rfl dX8_mount_73 ?_
          refine j_iload_n E dX8_mount_76 rfl ?_
          refine j_iload_n E dX8_mount_77 rfl ?_
          refine s_iast E M.a15 (vin_nn ha C.2.2.2.1.2.2 (by decide)) dX8_mount_78 (fun h78 n78 u78 => ?_)
          have M := M.st15 n78 u78
          refine j_aload_n E dX8_mount_79 rfl ?_
          refine gf_X8_59 E M.o rfl dX8_mount_80 ?_
          refine j_iload_n E dX8_mount_83 rfl ?_
          refine j_iconst (v := (-1)) E dX8_mount_84 ci_m1 ?_
          refine s_iast E M.a16 (vin_nn ha C.2.2.2.1.2.2 (by decide)) dX8_mount_85 (fun h85 n85 u85 => ?_)
          have M := M.st16 n85 u85
          refine j_iload_n E dX8_mount_86 rfl ?_
          have e9 := show p_mount S a mo = _ from by unfold p_mount; rw [if_neg (bt (b2i_t c_6)), if_neg (bt (b2i_t c_14)), if_neg (i32_nlt c_33), if_neg (fun q => bt q (b2i_f c_45))]
          exact j_iret E hr dX8_mount_87 ⟨Nat.le_of_ble_eq_true rfl, Nat.le_of_ble_eq_true rfl⟩ (by show _ ∧ _; rw [e9]; exact ⟨rfl, M⟩)
        · refine j_iconst (v := 3) E dX8_mount_48 ci_3 ?_
          refine j_goto (tgt := 53) E dX8_mount_49 (by decide) ?_
          refine pf_X8_84 E M.o (Nat.le_of_ble_eq_true rfl) dX8_mount_53 (fun h53 hMd u53 => ?_)
          have M := M.sc8 hMd u53
          refine j_aload_n E dX8_mount_56 rfl ?_
          refine gf_X8_84 E hMd rfl dX8_mount_57 ?_
          refine j_if_le (tgt := 65) E dX8_mount_60 (by decide) (fun q => (nle0_3 q).elim) (fun _ => ?_)
          refine j_iconst (v := 0) E dX8_mount_63 ci_0 ?_
          have e9 : p_mount S a mo = (th S 3, 0) := by unfold p_mount; rw [if_neg (bt (b2i_t c_6)), if_neg (bt (b2i_t c_14)), if_neg (i32_nlt c_33), if_pos (b2i_t c_45)]
          exact j_iret E hr dX8_mount_64 ⟨Nat.le_of_ble_eq_true rfl, Nat.le_of_ble_eq_true rfl⟩ (by show _ ∧ _; rw [e9]; exact ⟨rfl, M⟩)
      · refine j_iconst (v := 2) E dX8_mount_36 ci_2 ?_
        refine j_goto (tgt := 53) E dX8_mount_37 (by decide) ?_
        refine pf_X8_84 E M.o (Nat.le_of_ble_eq_true rfl) dX8_mount_53 (fun h53 hMd u53 => ?_)
        have M := M.sc8 hMd u53
        refine j_aload_n E dX8_mount_56 rfl ?_
        refine gf_X8_84 E hMd rfl dX8_mount_57 ?_
        refine j_if_le (tgt := 65) E dX8_mount_60 (by decide) (fun q => (nle0_2 q).elim) (fun _ => ?_)
        refine j_iconst (v := 0) E dX8_mount_63 ci_0 ?_
        have e9 : p_mount S a mo = (th S 2, 0) := by unfold p_mount; rw [if_neg (bt (b2i_t c_6)), if_neg (bt (b2i_t c_14)), if_pos (i32_ltof c_33)]
        exact j_iret E hr dX8_mount_64 ⟨Nat.le_of_ble_eq_true rfl, Nat.le_of_ble_eq_true rfl⟩ (by show _ ∧ _; rw [e9]; exact ⟨rfl, M⟩)
    · refine j_iconst (v := 1) E dX8_mount_17 ci_1 ?_
      refine j_goto (tgt := 53) E dX8_mount_18 (by decide) ?_
      refine pf_X8_84 E M.o (Nat.le_of_ble_eq_true rfl) dX8_mount_53 (fun h53 hMd u53 => ?_)
      have M := M.sc8 hMd u53
      refine j_aload_n E dX8_mount_56 rfl ?_
      refine gf_X8_84 E hMd rfl dX8_mount_57 ?_
      refine j_if_le (tgt := 65) E dX8_mount_60 (by decide) (fun q => (nle0_1 q).elim) (fun _ => ?_)
      refine j_iconst (v := 0) E dX8_mount_63 ci_0 ?_
      have e9 : p_mount S a mo = (th S 1, 0) := by unfold p_mount; rw [if_neg (bt (b2i_t c_6)), if_pos (b2i_f c_14)]
      exact j_iret E hr dX8_mount_64 ⟨Nat.le_of_ble_eq_true rfl, Nat.le_of_ble_eq_true rfl⟩ (by show _ ∧ _; rw [e9]; exact ⟨rfl, M⟩)
set_option maxHeartbeats 4000000 in
set_option maxRecDepth 100000 in
theorem c_run (l : Launch) (D : va_G) (S : St) (ad : Nat → Nat) (ar : Nat → Nat → Nat) (h : AH) (M : Mdl S ad ar h) (C : Cnt S) (a o : Int32) (I : IMou S) (O : IOrd S) : Ctr l D yX8_run cX8_run 3 (some .int) 2 43 0 0 [.ref (ad 0), .int a, .int o] h (fun _ => False) (fun r9 h' => r9 = some (.int (p_run S a o).2) ∧ Mdl (p_run S a o).1 ad ar h') := by
  refine Ctr.of RX8 rfl (by decide) (Nat.le_of_ble_eq_true rfl) ?_
  intro sz p e s m below meth c E hin hr ht
  refine j_aload_n E dX8_run_0 rfl ?_
  refine j_aload_n E dX8_run_1 rfl ?_
  refine j_iload_n E dX8_run_2 rfl ?_
  refine j_callV E (c_isMachine l D S ad ar h M a) (cw_X8_152 E ⟨Nat.le_of_ble_eq_true rfl, Nat.le_of_ble_eq_true rfl, Nat.le_of_ble_eq_true rfl, Nat.le_of_ble_eq_true rfl, Nat.le_of_ble_eq_true rfl⟩) (q_979 E.tb) (q_20 E.tb) M.o rfl rfl dX8_run_3 rfl (fun v3 h3 p3 => ?_)
  obtain ⟨rfl, rfl⟩ := p3
  refine j_if_eq (tgt := 17) E dX8_run_6 (by decide) (fun c_6 => ?_) (fun c_6 => ?_)
  · refine j_iconst (v := 1) E dX8_run_17 ci_1 ?_
    refine j_goto (tgt := 54) E dX8_run_18 (by decide) ?_
    refine pf_X8_84 E M.o (Nat.le_of_ble_eq_true rfl) dX8_run_54 (fun h54 hMd u54 => ?_)
    have M := M.sc8 hMd u54
    refine j_aload_n E dX8_run_57 rfl ?_
    refine gf_X8_84 E hMd rfl dX8_run_58 ?_
    refine j_if_le (tgt := 66) E dX8_run_61 (by decide) (fun q => (nle0_1 q).elim) (fun _ => ?_)
    refine j_iconst (v := 0) E dX8_run_64 ci_0 ?_
    have e9 : p_run S a o = (th S 1, 0) := by unfold p_run; rw [if_pos (b2i_f c_6)]
    exact j_iret E hr dX8_run_65 ⟨Nat.le_of_ble_eq_true rfl, Nat.le_of_ble_eq_true rfl⟩ (by show _ ∧ _; rw [e9]; exact ⟨rfl, M⟩)
  · refine j_aload_n E dX8_run_9 rfl ?_
    refine j_iload_n E dX8_run_10 rfl ?_
    refine j_callV E (c_isOrder l D S ad ar h M o) (cw_X8_155 E ⟨Nat.le_of_ble_eq_true rfl, Nat.le_of_ble_eq_true rfl, Nat.le_of_ble_eq_true rfl, Nat.le_of_ble_eq_true rfl, Nat.le_of_ble_eq_true rfl⟩) (q_987 E.tb) (q_21 E.tb) M.o rfl rfl dX8_run_11 rfl (fun v11 h11 p11 => ?_)
    obtain ⟨rfl, rfl⟩ := p11
    refine j_if_ne (tgt := 21) E dX8_run_14 (by decide) (fun c_14 => ?_) (fun c_14 => ?_)
    · have ha := isMac_of C.2.2.2.1 (b2i_t c_6)
      have ho := isOrd_of C.2.2.2.2 (b2i_t c_14)
      refine j_aload_n E dX8_run_21 rfl ?_
      refine gf_X8_56 E M.o rfl dX8_run_22 ?_
      refine j_iload_n E dX8_run_25 rfl ?_
      refine j_iald E M.a15 (vin_nn ha C.2.2.2.1.2.2 (by decide)) dX8_run_26 ?_
      refine j_aload_n E dX8_run_27 rfl ?_
      refine gf_X8_62 E M.o rfl dX8_run_28 ?_
      refine j_iload_n E dX8_run_31 rfl ?_
      refine j_iald E M.a17 (vin_nn ho C.2.2.2.2.2.2 (by decide)) dX8_run_32 ?_
      refine j_icmp_eq (tgt := 40) E dX8_run_33 (by decide) (fun c_33 => ?_) (fun c_33 => ?_)
      · refine j_aload_n E dX8_run_40 rfl ?_
        refine gf_X8_68 E M.o rfl dX8_run_41 ?_
        refine j_iload_n E dX8_run_44 rfl ?_
        refine j_iald E M.a19 (vin_nn ho C.2.2.2.2.2.2 (by decide)) dX8_run_45 ?_
        refine j_if_ne (tgt := 53) E dX8_run_46 (by decide) (fun c_46 => ?_) (fun c_46 => ?_)
        · refine j_iconst (v := 0) E dX8_run_53 ci_0 ?_
          refine pf_X8_84 E M.o (Nat.le_of_ble_eq_true rfl) dX8_run_54 (fun h54 hMd u54 => ?_)
          have M := M.sc8 hMd u54
          refine j_aload_n E dX8_run_57 rfl ?_
          refine gf_X8_84 E hMd rfl dX8_run_58 ?_
          refine j_if_le (tgt := 66) E dX8_run_61 (by decide) (fun _ => ?_) (fun q => (q le0_0).elim)
          have hk : S.1 15 (nn a) 0 = nI (nn (S.1 15 (nn a) 0)) ∧ nn (S.1 15 (nn a) 0) < nn (S.1 0 2 0) := by rw [show S.1 15 (nn a) 0 = S.1 17 (nn o) 0 from c_33]; exact (O.1 _ ho.2).1
          refine j_aload_n E dX8_run_66 rfl ?_
          refine gf_X8_59 E M.o rfl dX8_run_67 ?_
          refine j_iload_n E dX8_run_70 rfl ?_
          refine j_iload_n E dX8_run_71 rfl ?_
          refine s_iast E M.a16 (vin_nn ha C.2.2.2.1.2.2 (by decide)) dX8_run_72 (fun h72 n72 u72 => ?_)
          have M := M.st16 n72 u72
          refine j_sipush (v := 3600) E dX8_run_73 cs_3600 ?_
          refine j_aload_n E dX8_run_76 rfl ?_
          refine gf_X8_37 E M.o rfl dX8_run_77 ?_
          refine j_aload_n E dX8_run_80 rfl ?_
          refine gf_X8_56 E M.o rfl dX8_run_81 ?_
          refine j_iload_n E dX8_run_84 rfl ?_
          refine j_iald E M.a15 (vin_nn ha C.2.2.2.1.2.2 (by decide)) dX8_run_85 ?_
          refine j_iald E M.a10 (vin_nn hk C.2.2.1.2.2 (by decide)) dX8_run_86 ?_
          refine j_idiv E dX8_run_87 (rg_ne0 (I _ hk.2).2.2.2) ?_
          have e9 := show p_run S a o = _ from by unfold p_run; rw [if_neg (bt (b2i_t c_6)), if_neg (bt (b2i_t c_14)), if_pos c_33, if_neg c_46]
          exact j_iret E hr dX8_run_88 ⟨Nat.le_of_ble_eq_true rfl, Nat.le_of_ble_eq_true rfl⟩ (by show _ ∧ _; rw [e9]; exact ⟨rfl, M⟩)
        · refine j_iconst (v := 3) E dX8_run_49 ci_3 ?_
          refine j_goto (tgt := 54) E dX8_run_50 (by decide) ?_
          refine pf_X8_84 E M.o (Nat.le_of_ble_eq_true rfl) dX8_run_54 (fun h54 hMd u54 => ?_)
          have M := M.sc8 hMd u54
          refine j_aload_n E dX8_run_57 rfl ?_
          refine gf_X8_84 E hMd rfl dX8_run_58 ?_
          refine j_if_le (tgt := 66) E dX8_run_61 (by decide) (fun q => (nle0_3 q).elim) (fun _ => ?_)
          refine j_iconst (v := 0) E dX8_run_64 ci_0 ?_
          have e9 : p_run S a o = (th S 3, 0) := by unfold p_run; rw [if_neg (bt (b2i_t c_6)), if_neg (bt (b2i_t c_14)), if_pos c_33, if_pos c_46]
          exact j_iret E hr dX8_run_65 ⟨Nat.le_of_ble_eq_true rfl, Nat.le_of_ble_eq_true rfl⟩ (by show _ ∧ _; rw [e9]; exact ⟨rfl, M⟩)
      · refine j_iconst (v := 2) E dX8_run_36 ci_2 ?_
        refine j_goto (tgt := 54) E dX8_run_37 (by decide) ?_
        refine pf_X8_84 E M.o (Nat.le_of_ble_eq_true rfl) dX8_run_54 (fun h54 hMd u54 => ?_)
        have M := M.sc8 hMd u54
        refine j_aload_n E dX8_run_57 rfl ?_
        refine gf_X8_84 E hMd rfl dX8_run_58 ?_
        refine j_if_le (tgt := 66) E dX8_run_61 (by decide) (fun q => (nle0_2 q).elim) (fun _ => ?_)
        refine j_iconst (v := 0) E dX8_run_64 ci_0 ?_
        have e9 : p_run S a o = (th S 2, 0) := by unfold p_run; rw [if_neg (bt (b2i_t c_6)), if_neg (bt (b2i_t c_14)), if_neg c_33]
        exact j_iret E hr dX8_run_65 ⟨Nat.le_of_ble_eq_true rfl, Nat.le_of_ble_eq_true rfl⟩ (by show _ ∧ _; rw [e9]; exact ⟨rfl, M⟩)
    · refine j_iconst (v := 1) E dX8_run_17 ci_1 ?_
      refine j_goto (tgt := 54) E dX8_run_18 (by decide) ?_
      refine pf_X8_84 E M.o (Nat.le_of_ble_eq_true rfl) dX8_run_54 (fun h54 hMd u54 => ?_)
      have M := M.sc8 hMd u54
      refine j_aload_n E dX8_run_57 rfl ?_
      refine gf_X8_84 E hMd rfl dX8_run_58 ?_
      refine j_if_le (tgt := 66) E dX8_run_61 (by decide) (fun q => (nle0_1 q).elim) (fun _ => ?_)
      refine j_iconst (v := 0) E dX8_run_64 ci_0 ?_
      have e9 : p_run S a o = (th S 1, 0) := by unfold p_run; rw [if_neg (bt (b2i_t c_6)), if_pos (b2i_f c_14)]
      exact j_iret E hr dX8_run_65 ⟨Nat.le_of_ble_eq_true rfl, Nat.le_of_ble_eq_true rfl⟩ (by show _ ∧ _; rw [e9]; exact ⟨rfl, M⟩)
set_option maxHeartbeats 4000000 in
set_option maxRecDepth 100000 in
theorem c_order (l : Launch) (D : va_G) (S : St) (ad : Nat → Nat) (ar : Nat → Nat → Nat) (h : AH) (M : Mdl S ad ar h) (C : Cnt S) (mo r g w : Int32) : Ctr l D yX8_order cX8_order 5 (some .int) 2 43 0 0 [.ref (ad 0), .int mo, .int r, .int g, .int w] h (fun _ => False) (fun r9 h' => r9 = some (.int (p_order S mo r g w).2) ∧ Mdl (p_order S mo r g w).1 ad ar h') := by
  refine Ctr.of RX8 rfl (by decide) (Nat.le_of_ble_eq_true rfl) ?_
  intro sz p e s m below meth c E hin hr ht
  refine j_aload_n E dX8_order_0 rfl ?_
  refine j_aload_n E dX8_order_1 rfl ?_
  refine j_iload_n E dX8_order_2 rfl ?_
  refine j_callV E (c_isMould l D S ad ar h M mo) (cw_X8_101 E ⟨Nat.le_of_ble_eq_true rfl, Nat.le_of_ble_eq_true rfl, Nat.le_of_ble_eq_true rfl, Nat.le_of_ble_eq_true rfl, Nat.le_of_ble_eq_true rfl⟩) (q_939 E.tb) (q_15 E.tb) M.o rfl rfl dX8_order_3 rfl (fun v3 h3 p3 => ?_)
  obtain ⟨rfl, rfl⟩ := p3
  refine j_if_eq (tgt := 17) E dX8_order_6 (by decide) (fun c_6 => ?_) (fun c_6 => ?_)
  · refine j_iconst (v := 1) E dX8_order_17 ci_1 ?_
    refine j_goto (tgt := 61) E dX8_order_18 (by decide) ?_
    refine pf_X8_84 E M.o (Nat.le_of_ble_eq_true rfl) dX8_order_61 (fun h61 hMd u61 => ?_)
    have M := M.sc8 hMd u61
    refine j_aload_n E dX8_order_64 rfl ?_
    refine gf_X8_84 E hMd rfl dX8_order_65 ?_
    refine j_if_le (tgt := 73) E dX8_order_68 (by decide) (fun q => (nle0_1 q).elim) (fun _ => ?_)
    refine j_iconst (v := 0) E dX8_order_71 ci_0 ?_
    have e9 : p_order S mo r g w = (th S 1, 0) := by unfold p_order; rw [if_pos (b2i_f c_6)]
    exact j_iret E hr dX8_order_72 ⟨Nat.le_of_ble_eq_true rfl, Nat.le_of_ble_eq_true rfl⟩ (by show _ ∧ _; rw [e9]; exact ⟨rfl, M⟩)
  · refine j_aload_n E dX8_order_9 rfl ?_
    refine j_iload_n E dX8_order_10 rfl ?_
    refine j_callV E (c_isResin l D S ad ar h M r) (cw_X8_111 E ⟨Nat.le_of_ble_eq_true rfl, Nat.le_of_ble_eq_true rfl, Nat.le_of_ble_eq_true rfl, Nat.le_of_ble_eq_true rfl, Nat.le_of_ble_eq_true rfl⟩) (q_885 E.tb) (q_9 E.tb) M.o rfl rfl dX8_order_11 rfl (fun v11 h11 p11 => ?_)
    obtain ⟨rfl, rfl⟩ := p11
    refine j_if_ne (tgt := 21) E dX8_order_14 (by decide) (fun c_14 => ?_) (fun c_14 => ?_)
    · refine j_iload_n E dX8_order_21 rfl ?_
      refine j_iconst (v := 1) E dX8_order_22 ci_1 ?_
      refine j_sipush (v := 5000) E dX8_order_23 cs_5000 ?_
      refine j_callS E (c_in l D _ _ _ _) (cw_X8_91 E ⟨Nat.le_of_ble_eq_true rfl, Nat.le_of_ble_eq_true rfl, Nat.le_of_ble_eq_true rfl, Nat.le_of_ble_eq_true rfl, Nat.le_of_ble_eq_true rfl⟩) (q_877 E.tb) rfl dX8_order_26 rfl (fun v26 h26 p26 => ?_)
      obtain ⟨rfl, rfl⟩ := p26
      refine j_if_eq (tgt := 43) E dX8_order_29 (by decide) (fun c_29 => ?_) (fun c_29 => ?_)
      · refine j_iconst (v := 2) E dX8_order_43 ci_2 ?_
        refine j_goto (tgt := 61) E dX8_order_44 (by decide) ?_
        refine pf_X8_84 E M.o (Nat.le_of_ble_eq_true rfl) dX8_order_61 (fun h61 hMd u61 => ?_)
        have M := M.sc8 hMd u61
        refine j_aload_n E dX8_order_64 rfl ?_
        refine gf_X8_84 E hMd rfl dX8_order_65 ?_
        refine j_if_le (tgt := 73) E dX8_order_68 (by decide) (fun q => (nle0_2 q).elim) (fun _ => ?_)
        refine j_iconst (v := 0) E dX8_order_71 ci_0 ?_
        have e9 : p_order S mo r g w = (th S 2, 0) := by unfold p_order; rw [if_neg (bt (b2i_t c_6)), if_neg (bt (b2i_t c_14)), if_pos (b2i_f c_29)]
        exact j_iret E hr dX8_order_72 ⟨Nat.le_of_ble_eq_true rfl, Nat.le_of_ble_eq_true rfl⟩ (by show _ ∧ _; rw [e9]; exact ⟨rfl, M⟩)
      · refine j_iload E dX8_order_32 rfl ?_
        refine j_iconst (v := 0) E dX8_order_34 ci_0 ?_
        refine j_bipush (v := 50) E dX8_order_35 cb_50 ?_
        refine j_callS E (c_in l D _ _ _ _) (cw_X8_91 E ⟨Nat.le_of_ble_eq_true rfl, Nat.le_of_ble_eq_true rfl, Nat.le_of_ble_eq_true rfl, Nat.le_of_ble_eq_true rfl, Nat.le_of_ble_eq_true rfl⟩) (q_877 E.tb) rfl dX8_order_37 rfl (fun v37 h37 p37 => ?_)
        obtain ⟨rfl, rfl⟩ := p37
        refine j_if_ne (tgt := 47) E dX8_order_40 (by decide) (fun c_40 => ?_) (fun c_40 => ?_)
        · refine j_aload_n E dX8_order_47 rfl ?_
          refine gf_X8_108 E M.o rfl dX8_order_48 ?_
          refine j_bipush (v := 8) E dX8_order_51 cb_8 ?_
          refine j_icmp_ne (tgt := 60) E dX8_order_53 (by decide) (fun c_53 => ?_) (fun c_53 => ?_)
          · refine j_iconst (v := 0) E dX8_order_60 ci_0 ?_
            refine pf_X8_84 E M.o (Nat.le_of_ble_eq_true rfl) dX8_order_61 (fun h61 hMd u61 => ?_)
            have M := M.sc8 hMd u61
            refine j_aload_n E dX8_order_64 rfl ?_
            refine gf_X8_84 E hMd rfl dX8_order_65 ?_
            refine j_if_le (tgt := 73) E dX8_order_68 (by decide) (fun _ => ?_) (fun q => (q le0_0).elim)
            refine j_aload_n E dX8_order_73 rfl ?_
            refine gf_X8_62 E M.o rfl dX8_order_74 ?_
            refine j_aload_n E dX8_order_77 rfl ?_
            refine gf_X8_108 E M.o rfl dX8_order_78 ?_
            refine j_iload_n E dX8_order_81 rfl ?_
            refine s_iast E M.a17 (vin_ne C.2.2.2.2 rfl c_53 (by decide)) dX8_order_82 (fun h82 n82 u82 => ?_)
            have M := M.st17 n82 u82
            refine j_aload_n E dX8_order_83 rfl ?_
            refine gf_X8_65 E M.o rfl dX8_order_84 ?_
            refine j_aload_n E dX8_order_87 rfl ?_
            refine gf_X8_108 E M.o rfl dX8_order_88 ?_
            refine j_iload_n E dX8_order_91 rfl ?_
            refine s_iast E M.a18 (vin_ne C.2.2.2.2 rfl c_53 (by decide)) dX8_order_92 (fun h92 n92 u92 => ?_)
            have M := M.st18 n92 u92
            refine j_aload_n E dX8_order_93 rfl ?_
            refine gf_X8_68 E M.o rfl dX8_order_94 ?_
            refine j_aload_n E dX8_order_97 rfl ?_
            refine gf_X8_108 E M.o rfl dX8_order_98 ?_
            refine j_iload_n E dX8_order_101 rfl ?_
            refine s_iast E M.a19 (vin_ne C.2.2.2.2 rfl c_53 (by decide)) dX8_order_102 (fun h102 n102 u102 => ?_)
            have M := M.st19 n102 u102
            refine j_aload_n E dX8_order_103 rfl ?_
            refine gf_X8_71 E M.o rfl dX8_order_104 ?_
            refine j_aload_n E dX8_order_107 rfl ?_
            refine gf_X8_108 E M.o rfl dX8_order_108 ?_
            refine j_iload E dX8_order_111 rfl ?_
            refine s_iast E M.a20 (vin_ne C.2.2.2.2 rfl c_53 (by decide)) dX8_order_113 (fun h113 n113 u113 => ?_)
            have M := M.st20 n113 u113
            refine j_aload_n E dX8_order_114 rfl ?_
            refine j_dup E dX8_order_115 rfl ?_
            refine gf_X8_108 E M.o rfl dX8_order_116 ?_
            refine j_iconst (v := 1) E dX8_order_119 ci_1 ?_
            refine j_iadd E dX8_order_120 ?_
            refine pf_X8_108 E M.o (Nat.le_of_ble_eq_true rfl) dX8_order_121 (fun h121 hMd u121 => ?_)
            have M := M.sc4 hMd u121
            refine j_aload_n E dX8_order_124 rfl ?_
            refine gf_X8_108 E M.o rfl dX8_order_125 ?_
            refine j_iconst (v := 1) E dX8_order_128 ci_1 ?_
            refine j_isub E dX8_order_129 ?_
            have e9 := show p_order S mo r g w = _ from by unfold p_order; rw [if_neg (bt (b2i_t c_6)), if_neg (bt (b2i_t c_14)), if_neg (bt (b2i_t c_29)), if_neg (bt (b2i_t c_40)), if_neg c_53]
            exact j_iret E hr dX8_order_130 ⟨Nat.le_of_ble_eq_true rfl, Nat.le_of_ble_eq_true rfl⟩ (by show _ ∧ _; rw [e9]; exact ⟨rfl, M⟩)
          · refine j_iconst (v := 3) E dX8_order_56 ci_3 ?_
            refine j_goto (tgt := 61) E dX8_order_57 (by decide) ?_
            refine pf_X8_84 E M.o (Nat.le_of_ble_eq_true rfl) dX8_order_61 (fun h61 hMd u61 => ?_)
            have M := M.sc8 hMd u61
            refine j_aload_n E dX8_order_64 rfl ?_
            refine gf_X8_84 E hMd rfl dX8_order_65 ?_
            refine j_if_le (tgt := 73) E dX8_order_68 (by decide) (fun q => (nle0_3 q).elim) (fun _ => ?_)
            refine j_iconst (v := 0) E dX8_order_71 ci_0 ?_
            have e9 : p_order S mo r g w = (th S 3, 0) := by unfold p_order; rw [if_neg (bt (b2i_t c_6)), if_neg (bt (b2i_t c_14)), if_neg (bt (b2i_t c_29)), if_neg (bt (b2i_t c_40)), if_pos c_53]
            exact j_iret E hr dX8_order_72 ⟨Nat.le_of_ble_eq_true rfl, Nat.le_of_ble_eq_true rfl⟩ (by show _ ∧ _; rw [e9]; exact ⟨rfl, M⟩)
        · refine j_iconst (v := 2) E dX8_order_43 ci_2 ?_
          refine j_goto (tgt := 61) E dX8_order_44 (by decide) ?_
          refine pf_X8_84 E M.o (Nat.le_of_ble_eq_true rfl) dX8_order_61 (fun h61 hMd u61 => ?_)
          have M := M.sc8 hMd u61
          refine j_aload_n E dX8_order_64 rfl ?_
          refine gf_X8_84 E hMd rfl dX8_order_65 ?_
          refine j_if_le (tgt := 73) E dX8_order_68 (by decide) (fun q => (nle0_2 q).elim) (fun _ => ?_)
          refine j_iconst (v := 0) E dX8_order_71 ci_0 ?_
          have e9 : p_order S mo r g w = (th S 2, 0) := by unfold p_order; rw [if_neg (bt (b2i_t c_6)), if_neg (bt (b2i_t c_14)), if_neg (bt (b2i_t c_29)), if_pos (b2i_f c_40)]
          exact j_iret E hr dX8_order_72 ⟨Nat.le_of_ble_eq_true rfl, Nat.le_of_ble_eq_true rfl⟩ (by show _ ∧ _; rw [e9]; exact ⟨rfl, M⟩)
    · refine j_iconst (v := 1) E dX8_order_17 ci_1 ?_
      refine j_goto (tgt := 61) E dX8_order_18 (by decide) ?_
      refine pf_X8_84 E M.o (Nat.le_of_ble_eq_true rfl) dX8_order_61 (fun h61 hMd u61 => ?_)
      have M := M.sc8 hMd u61
      refine j_aload_n E dX8_order_64 rfl ?_
      refine gf_X8_84 E hMd rfl dX8_order_65 ?_
      refine j_if_le (tgt := 73) E dX8_order_68 (by decide) (fun q => (nle0_1 q).elim) (fun _ => ?_)
      refine j_iconst (v := 0) E dX8_order_71 ci_0 ?_
      have e9 : p_order S mo r g w = (th S 1, 0) := by unfold p_order; rw [if_neg (bt (b2i_t c_6)), if_pos (b2i_f c_14)]
      exact j_iret E hr dX8_order_72 ⟨Nat.le_of_ble_eq_true rfl, Nat.le_of_ble_eq_true rfl⟩ (by show _ ∧ _; rw [e9]; exact ⟨rfl, M⟩)
set_option maxHeartbeats 4000000 in
set_option maxRecDepth 100000 in
theorem c_lacks (l : Launch) (D : va_G) (S : St) (ad : Nat → Nat) (ar : Nat → Nat → Nat) (h : AH) (M : Mdl S ad ar h) (C : Cnt S) (x : Int32) : Ctr l D yX8_lacks cX8_lacks 2 (some .int) 2 43 0 0 [.ref (ad 0), .int x] h (fun _ => False) (fun r9 h' => r9 = some (.int (p_lacks S x).2) ∧ Mdl (p_lacks S x).1 ad ar h') := by
  refine Ctr.of RX8 rfl (by decide) (Nat.le_of_ble_eq_true rfl) ?_
  intro sz p e s m below meth c E hin hr ht
  refine j_aload_n E dX8_lacks_0 rfl ?_
  refine j_aload_n E dX8_lacks_1 rfl ?_
  refine j_iload_n E dX8_lacks_2 rfl ?_
  refine j_callV E (c_isOrder l D S ad ar h M x) (cw_X8_155 E ⟨Nat.le_of_ble_eq_true rfl, Nat.le_of_ble_eq_true rfl, Nat.le_of_ble_eq_true rfl, Nat.le_of_ble_eq_true rfl, Nat.le_of_ble_eq_true rfl⟩) (q_987 E.tb) (q_21 E.tb) M.o rfl rfl dX8_lacks_3 rfl (fun v3 h3 p3 => ?_)
  obtain ⟨rfl, rfl⟩ := p3
  refine j_if_eq (tgt := 13) E dX8_lacks_6 (by decide) (fun c_6 => ?_) (fun c_6 => ?_)
  · refine j_iconst (v := 1) E dX8_lacks_13 ci_1 ?_
    refine pf_X8_84 E M.o (Nat.le_of_ble_eq_true rfl) dX8_lacks_14 (fun h14 hMd u14 => ?_)
    have M := M.sc8 hMd u14
    refine j_aload_n E dX8_lacks_17 rfl ?_
    refine gf_X8_84 E hMd rfl dX8_lacks_18 ?_
    refine j_if_le (tgt := 28) E dX8_lacks_21 (by decide) (fun q => (nle0_1 q).elim) (fun _ => ?_)
    refine j_iconst (v := 0) E dX8_lacks_24 ci_0 ?_
    refine j_goto (tgt := 34) E dX8_lacks_25 (by decide) ?_
    have e9 : p_lacks S x = (th S 1, 0) := by unfold p_lacks; rw [if_pos (b2i_f c_6)]
    exact j_iret E hr dX8_lacks_34 ⟨Nat.le_of_ble_eq_true rfl, Nat.le_of_ble_eq_true rfl⟩ (by show _ ∧ _; rw [e9]; exact ⟨rfl, M⟩)
  · refine j_iconst (v := 0) E dX8_lacks_9 ci_0 ?_
    refine j_goto (tgt := 14) E dX8_lacks_10 (by decide) ?_
    refine pf_X8_84 E M.o (Nat.le_of_ble_eq_true rfl) dX8_lacks_14 (fun h14 hMd u14 => ?_)
    have M := M.sc8 hMd u14
    refine j_aload_n E dX8_lacks_17 rfl ?_
    refine gf_X8_84 E hMd rfl dX8_lacks_18 ?_
    refine j_if_le (tgt := 28) E dX8_lacks_21 (by decide) (fun _ => ?_) (fun q => (q le0_0).elim)
    have ho := isOrd_of C.2.2.2.2 (b2i_t c_6)
    refine j_aload_n E dX8_lacks_28 rfl ?_
    refine gf_X8_68 E M.o rfl dX8_lacks_29 ?_
    refine j_iload_n E dX8_lacks_32 rfl ?_
    refine j_iald E M.a19 (vin_nn ho C.2.2.2.2.2.2 (by decide)) dX8_lacks_33 ?_
    have e9 := show p_lacks S x = _ from by unfold p_lacks; rw [if_neg (bt (b2i_t c_6))]
    exact j_iret E hr dX8_lacks_34 ⟨Nat.le_of_ble_eq_true rfl, Nat.le_of_ble_eq_true rfl⟩ (by show _ ∧ _; rw [e9]; exact ⟨rfl, M⟩)
set_option maxHeartbeats 4000000 in
set_option maxRecDepth 100000 in
theorem c_shots (l : Launch) (D : va_G) (S : St) (ad : Nat → Nat) (ar : Nat → Nat → Nat) (h : AH) (M : Mdl S ad ar h) (C : Cnt S) (x : Int32) : Ctr l D yX8_shots cX8_shots 2 (some .int) 2 43 0 0 [.ref (ad 0), .int x] h (fun _ => False) (fun r9 h' => r9 = some (.int (p_shots S x).2) ∧ Mdl (p_shots S x).1 ad ar h') := by
  refine Ctr.of RX8 rfl (by decide) (Nat.le_of_ble_eq_true rfl) ?_
  intro sz p e s m below meth c E hin hr ht
  refine j_aload_n E dX8_shots_0 rfl ?_
  refine j_aload_n E dX8_shots_1 rfl ?_
  refine j_iload_n E dX8_shots_2 rfl ?_
  refine j_callV E (c_isOrder l D S ad ar h M x) (cw_X8_155 E ⟨Nat.le_of_ble_eq_true rfl, Nat.le_of_ble_eq_true rfl, Nat.le_of_ble_eq_true rfl, Nat.le_of_ble_eq_true rfl, Nat.le_of_ble_eq_true rfl⟩) (q_987 E.tb) (q_21 E.tb) M.o rfl rfl dX8_shots_3 rfl (fun v3 h3 p3 => ?_)
  obtain ⟨rfl, rfl⟩ := p3
  refine j_if_eq (tgt := 13) E dX8_shots_6 (by decide) (fun c_6 => ?_) (fun c_6 => ?_)
  · refine j_iconst (v := 1) E dX8_shots_13 ci_1 ?_
    refine pf_X8_84 E M.o (Nat.le_of_ble_eq_true rfl) dX8_shots_14 (fun h14 hMd u14 => ?_)
    have M := M.sc8 hMd u14
    refine j_aload_n E dX8_shots_17 rfl ?_
    refine gf_X8_84 E hMd rfl dX8_shots_18 ?_
    refine j_if_le (tgt := 28) E dX8_shots_21 (by decide) (fun q => (nle0_1 q).elim) (fun _ => ?_)
    refine j_iconst (v := 0) E dX8_shots_24 ci_0 ?_
    refine j_goto (tgt := 34) E dX8_shots_25 (by decide) ?_
    have e9 : p_shots S x = (th S 1, 0) := by unfold p_shots; rw [if_pos (b2i_f c_6)]
    exact j_iret E hr dX8_shots_34 ⟨Nat.le_of_ble_eq_true rfl, Nat.le_of_ble_eq_true rfl⟩ (by show _ ∧ _; rw [e9]; exact ⟨rfl, M⟩)
  · refine j_iconst (v := 0) E dX8_shots_9 ci_0 ?_
    refine j_goto (tgt := 14) E dX8_shots_10 (by decide) ?_
    refine pf_X8_84 E M.o (Nat.le_of_ble_eq_true rfl) dX8_shots_14 (fun h14 hMd u14 => ?_)
    have M := M.sc8 hMd u14
    refine j_aload_n E dX8_shots_17 rfl ?_
    refine gf_X8_84 E hMd rfl dX8_shots_18 ?_
    refine j_if_le (tgt := 28) E dX8_shots_21 (by decide) (fun _ => ?_) (fun q => (q le0_0).elim)
    have ho := isOrd_of C.2.2.2.2 (b2i_t c_6)
    refine j_aload_n E dX8_shots_28 rfl ?_
    refine gf_X8_74 E M.o rfl dX8_shots_29 ?_
    refine j_iload_n E dX8_shots_32 rfl ?_
    refine j_iald E M.a21 (vin_nn ho C.2.2.2.2.2.2 (by decide)) dX8_shots_33 ?_
    have e9 := show p_shots S x = _ from by unfold p_shots; rw [if_neg (bt (b2i_t c_6))]
    exact j_iret E hr dX8_shots_34 ⟨Nat.le_of_ble_eq_true rfl, Nat.le_of_ble_eq_true rfl⟩ (by show _ ∧ _; rw [e9]; exact ⟨rfl, M⟩)
set_option maxHeartbeats 4000000 in
set_option maxRecDepth 100000 in
theorem c_regrindIn (l : Launch) (D : va_G) (S : St) (ad : Nat → Nat) (ar : Nat → Nat → Nat) (h : AH) (M : Mdl S ad ar h) (C : Cnt S) (x : Int32) : Ctr l D yX8_regrindIn cX8_regrindIn 2 (some .long) 2 43 0 0 [.ref (ad 0), .int x] h (fun _ => False) (fun r9 h' => r9 = some (.long (p_regrindIn S x).2) ∧ Mdl (p_regrindIn S x).1 ad ar h') := by
  refine Ctr.of RX8 rfl (by decide) (Nat.le_of_ble_eq_true rfl) ?_
  intro sz p e s m below meth c E hin hr ht
  refine j_aload_n E dX8_regrindIn_0 rfl ?_
  refine j_aload_n E dX8_regrindIn_1 rfl ?_
  refine j_iload_n E dX8_regrindIn_2 rfl ?_
  refine j_callV E (c_isOrder l D S ad ar h M x) (cw_X8_155 E ⟨Nat.le_of_ble_eq_true rfl, Nat.le_of_ble_eq_true rfl, Nat.le_of_ble_eq_true rfl, Nat.le_of_ble_eq_true rfl, Nat.le_of_ble_eq_true rfl⟩) (q_987 E.tb) (q_21 E.tb) M.o rfl rfl dX8_regrindIn_3 rfl (fun v3 h3 p3 => ?_)
  obtain ⟨rfl, rfl⟩ := p3
  refine j_if_eq (tgt := 13) E dX8_regrindIn_6 (by decide) (fun c_6 => ?_) (fun c_6 => ?_)
  · refine j_iconst (v := 1) E dX8_regrindIn_13 ci_1 ?_
    refine pf_X8_84 E M.o (Nat.le_of_ble_eq_true rfl) dX8_regrindIn_14 (fun h14 hMd u14 => ?_)
    have M := M.sc8 hMd u14
    refine j_aload_n E dX8_regrindIn_17 rfl ?_
    refine gf_X8_84 E hMd rfl dX8_regrindIn_18 ?_
    refine j_if_le (tgt := 28) E dX8_regrindIn_21 (by decide) (fun q => (nle0_1 q).elim) (fun _ => ?_)
    refine j_lconst (v := 0) E dX8_regrindIn_24 cl_0 ?_
    refine j_goto (tgt := 34) E dX8_regrindIn_25 (by decide) ?_
    have e9 : p_regrindIn S x = (th S 1, 0) := by unfold p_regrindIn; rw [if_pos (b2i_f c_6)]
    exact j_lret E hr dX8_regrindIn_34 ⟨Nat.le_of_ble_eq_true rfl, Nat.le_of_ble_eq_true rfl⟩ (by show _ ∧ _; rw [e9]; exact ⟨rfl, M⟩)
  · refine j_iconst (v := 0) E dX8_regrindIn_9 ci_0 ?_
    refine j_goto (tgt := 14) E dX8_regrindIn_10 (by decide) ?_
    refine pf_X8_84 E M.o (Nat.le_of_ble_eq_true rfl) dX8_regrindIn_14 (fun h14 hMd u14 => ?_)
    have M := M.sc8 hMd u14
    refine j_aload_n E dX8_regrindIn_17 rfl ?_
    refine gf_X8_84 E hMd rfl dX8_regrindIn_18 ?_
    refine j_if_le (tgt := 28) E dX8_regrindIn_21 (by decide) (fun _ => ?_) (fun q => (q le0_0).elim)
    have ho := isOrd_of C.2.2.2.2 (b2i_t c_6)
    refine j_aload_n E dX8_regrindIn_28 rfl ?_
    refine gf_X8_77 E M.o rfl dX8_regrindIn_29 ?_
    refine j_iload_n E dX8_regrindIn_32 rfl ?_
    refine j_lald E M.a23 (vin_nn ho C.2.2.2.2.2.2 (by decide)) dX8_regrindIn_33 ?_
    have e9 := show p_regrindIn S x = _ from by unfold p_regrindIn; rw [if_neg (bt (b2i_t c_6))]
    exact j_lret E hr dX8_regrindIn_34 ⟨Nat.le_of_ble_eq_true rfl, Nat.le_of_ble_eq_true rfl⟩ (by show _ ∧ _; rw [e9]; exact ⟨rfl, M⟩)
set_option maxHeartbeats 4000000 in
set_option maxRecDepth 100000 in
theorem c_regrindByShots (l : Launch) (D : va_G) (S : St) (ad : Nat → Nat) (ar : Nat → Nat → Nat) (h : AH) (M : Mdl S ad ar h) (C : Cnt S) (x : Int32) : Ctr l D yX8_regrindByShots cX8_regrindByShots 2 (some .long) 3 64 0 0 [.ref (ad 0), .int x] h (fun _ => False) (fun r9 h' => r9 = some (.long (p_regrindIn S x).2) ∧ Mdl (p_regrindIn S x).1 ad ar h') := by
  refine Ctr.of RX8 rfl (by decide) (Nat.le_of_ble_eq_true rfl) ?_
  intro sz p e s m below meth c E hin hr ht
  refine j_aload_n E dX8_regrindByShots_0 rfl ?_
  refine j_iload_n E dX8_regrindByShots_1 rfl ?_
  refine j_callV E (c_regrindIn l D S ad ar h M C x) (cw_X8_158 E ⟨Nat.le_of_ble_eq_true rfl, Nat.le_of_ble_eq_true rfl, Nat.le_of_ble_eq_true rfl, Nat.le_of_ble_eq_true rfl, Nat.le_of_ble_eq_true rfl⟩) (q_1006 E.tb) (q_1007 E.tb) M.o rfl rfl dX8_regrindByShots_2 rfl (fun v2 h2 p2 => ?_)
  obtain ⟨rfl, M⟩ := p2
  exact j_lret E hr dX8_regrindByShots_5 ⟨Nat.le_of_ble_eq_true rfl, Nat.le_of_ble_eq_true rfl⟩ ⟨rfl, M⟩
set_option maxHeartbeats 4000000 in
set_option maxRecDepth 100000 in
theorem c_greatestShare (l : Launch) (D : va_G) (S : St) (ad : Nat → Nat) (ar : Nat → Nat → Nat) (h : AH) (M : Mdl S ad ar h) (C : Cnt S) (x : Int32) : Ctr l D yX8_greatestShare cX8_greatestShare 2 (some .int) 2 43 0 0 [.ref (ad 0), .int x] h (fun _ => False) (fun r9 h' => r9 = some (.int (p_greatestShare S x).2) ∧ Mdl (p_greatestShare S x).1 ad ar h') := by
  refine Ctr.of RX8 rfl (by decide) (Nat.le_of_ble_eq_true rfl) ?_
  intro sz p e s m below meth c E hin hr ht
  refine j_aload_n E dX8_greatestShare_0 rfl ?_
  refine j_aload_n E dX8_greatestShare_1 rfl ?_
  refine j_iload_n E dX8_greatestShare_2 rfl ?_
  refine j_callV E (c_isOrder l D S ad ar h M x) (cw_X8_155 E ⟨Nat.le_of_ble_eq_true rfl, Nat.le_of_ble_eq_true rfl, Nat.le_of_ble_eq_true rfl, Nat.le_of_ble_eq_true rfl, Nat.le_of_ble_eq_true rfl⟩) (q_987 E.tb) (q_21 E.tb) M.o rfl rfl dX8_greatestShare_3 rfl (fun v3 h3 p3 => ?_)
  obtain ⟨rfl, rfl⟩ := p3
  refine j_if_ne (tgt := 13) E dX8_greatestShare_6 (by decide) (fun c_6 => ?_) (fun c_6 => ?_)
  · have ho := isOrd_of C.2.2.2.2 (b2i_t c_6)
    refine j_aload_n E dX8_greatestShare_13 rfl ?_
    refine gf_X8_74 E M.o rfl dX8_greatestShare_14 ?_
    refine j_iload_n E dX8_greatestShare_17 rfl ?_
    refine j_iald E M.a21 (vin_nn ho C.2.2.2.2.2.2 (by decide)) dX8_greatestShare_18 ?_
    refine j_if_ne (tgt := 26) E dX8_greatestShare_19 (by decide) (fun c_19 => ?_) (fun c_19 => ?_)
    · refine j_iconst (v := 0) E dX8_greatestShare_26 ci_0 ?_
      refine pf_X8_84 E M.o (Nat.le_of_ble_eq_true rfl) dX8_greatestShare_27 (fun h27 hMd u27 => ?_)
      have M := M.sc8 hMd u27
      refine j_aload_n E dX8_greatestShare_30 rfl ?_
      refine gf_X8_84 E hMd rfl dX8_greatestShare_31 ?_
      refine j_if_le (tgt := 41) E dX8_greatestShare_34 (by decide) (fun _ => ?_) (fun q => (q le0_0).elim)
      refine j_aload_n E dX8_greatestShare_41 rfl ?_
      refine gf_X8_81 E M.o rfl dX8_greatestShare_42 ?_
      refine j_iload_n E dX8_greatestShare_45 rfl ?_
      refine j_iald E M.a22 (vin_nn ho C.2.2.2.2.2.2 (by decide)) dX8_greatestShare_46 ?_
      have e9 := show p_greatestShare S x = _ from by unfold p_greatestShare; rw [if_neg (bt (b2i_t c_6)), if_neg c_19]
      exact j_iret E hr dX8_greatestShare_47 ⟨Nat.le_of_ble_eq_true rfl, Nat.le_of_ble_eq_true rfl⟩ (by show _ ∧ _; rw [e9]; exact ⟨rfl, M⟩)
    · refine j_iconst (v := 2) E dX8_greatestShare_22 ci_2 ?_
      refine j_goto (tgt := 27) E dX8_greatestShare_23 (by decide) ?_
      refine pf_X8_84 E M.o (Nat.le_of_ble_eq_true rfl) dX8_greatestShare_27 (fun h27 hMd u27 => ?_)
      have M := M.sc8 hMd u27
      refine j_aload_n E dX8_greatestShare_30 rfl ?_
      refine gf_X8_84 E hMd rfl dX8_greatestShare_31 ?_
      refine j_if_le (tgt := 41) E dX8_greatestShare_34 (by decide) (fun q => (nle0_2 q).elim) (fun _ => ?_)
      refine j_iconst (v := 0) E dX8_greatestShare_37 ci_0 ?_
      refine j_goto (tgt := 47) E dX8_greatestShare_38 (by decide) ?_
      have e9 : p_greatestShare S x = (th S 2, 0) := by unfold p_greatestShare; rw [if_neg (bt (b2i_t c_6)), if_pos c_19]
      exact j_iret E hr dX8_greatestShare_47 ⟨Nat.le_of_ble_eq_true rfl, Nat.le_of_ble_eq_true rfl⟩ (by show _ ∧ _; rw [e9]; exact ⟨rfl, M⟩)
  · refine j_iconst (v := 1) E dX8_greatestShare_9 ci_1 ?_
    refine j_goto (tgt := 27) E dX8_greatestShare_10 (by decide) ?_
    refine pf_X8_84 E M.o (Nat.le_of_ble_eq_true rfl) dX8_greatestShare_27 (fun h27 hMd u27 => ?_)
    have M := M.sc8 hMd u27
    refine j_aload_n E dX8_greatestShare_30 rfl ?_
    refine gf_X8_84 E hMd rfl dX8_greatestShare_31 ?_
    refine j_if_le (tgt := 41) E dX8_greatestShare_34 (by decide) (fun q => (nle0_1 q).elim) (fun _ => ?_)
    refine j_iconst (v := 0) E dX8_greatestShare_37 ci_0 ?_
    refine j_goto (tgt := 47) E dX8_greatestShare_38 (by decide) ?_
    have e9 : p_greatestShare S x = (th S 1, 0) := by unfold p_greatestShare; rw [if_pos (b2i_f c_6)]
    exact j_iret E hr dX8_greatestShare_47 ⟨Nat.le_of_ble_eq_true rfl, Nat.le_of_ble_eq_true rfl⟩ (by show _ ∧ _; rw [e9]; exact ⟨rfl, M⟩)
theorem nI_div {a b : Nat} (ha : a < 2 ^ 31) (hb : b < 2 ^ 31) : nI a / nI b = nI (a / b) := by
  have h1 : (nI a / nI b).toInt = (a / b : Nat) := by
    rw [Int32.toInt_div, nI_toInt ha, nI_toInt hb]
    have h3 : ((a : Int).tdiv (b : Int)) = ((a / b : Nat) : Int) := by simp [Int.ofNat_tdiv]
    rw [h3]
    have h4 : a / b ≤ a := Nat.div_le_self _ _
    generalize a / b = k at h4 ⊢
    rw [Int.bmod_eq_of_le] <;> omega
  have h5 := nI_toInt (n := a / b) (by have := Nat.div_le_self a b; omega)
  exact Int32.toInt_inj.mp (by rw [h1, h5])
theorem q3600 {y : Int32} (h : Rg y 60 3600) : ¬ (3600 : Int32) / y = 0 := by
  have e : (3600 : Int32) = nI 3600 := by decide
  rw [e, h.1, nI_div (by decide) (by have := h.2.2; omega)]
  intro q
  have h2 : 1 ≤ 3600 / nn y := (Nat.one_le_div_iff (by have := h.2.1; omega)).mpr h.2.2
  have h3 : 3600 / nn y ≤ 3600 := Nat.div_le_self _ _
  have h4 : nn (nI (3600 / nn y)) = 3600 / nn y := nI_clamp (by omega)
  rw [q, nn_0] at h4
  omega
set_option maxHeartbeats 4000000 in
set_option maxRecDepth 100000 in
theorem c_hoursNeeded (l : Launch) (D : va_G) (S : St) (ad : Nat → Nat) (ar : Nat → Nat → Nat) (h : AH) (M : Mdl S ad ar h) (C : Cnt S) (x : Int32) (I : IMou S) (O : IOrd S) : Ctr l D yX8_hoursNeeded cX8_hoursNeeded 5 (some .int) 2 43 0 0 [.ref (ad 0), .int x] h (fun _ => False) (fun r9 h' => r9 = some (.int (p_hoursNeeded S x).2) ∧ Mdl (p_hoursNeeded S x).1 ad ar h') := by
  refine Ctr.of RX8 rfl (by decide) (Nat.le_of_ble_eq_true rfl) ?_
  intro sz p e s m below meth c E hin hr ht
  refine j_aload_n E dX8_hoursNeeded_0 rfl ?_
  refine j_aload_n E dX8_hoursNeeded_1 rfl ?_
  refine j_iload_n E dX8_hoursNeeded_2 rfl ?_
  refine j_callV E (c_isOrder l D S ad ar h M x) (cw_X8_155 E ⟨Nat.le_of_ble_eq_true rfl, Nat.le_of_ble_eq_true rfl, Nat.le_of_ble_eq_true rfl, Nat.le_of_ble_eq_true rfl, Nat.le_of_ble_eq_true rfl⟩) (q_987 E.tb) (q_21 E.tb) M.o rfl rfl dX8_hoursNeeded_3 rfl (fun v3 h3 p3 => ?_)
  obtain ⟨rfl, rfl⟩ := p3
  refine j_if_ne (tgt := 13) E dX8_hoursNeeded_6 (by decide) (fun c_6 => ?_) (fun c_6 => ?_)
  · have ho := isOrd_of C.2.2.2.2 (b2i_t c_6)
    have hm := (O.1 _ ho.2).1
    have hm5 := lt_of2 hm C.2.2.1.2.2
    have hc := (I _ hm.2).1
    have hy := (I _ hm.2).2.2.2
    refine j_aload_n E dX8_hoursNeeded_13 rfl ?_
    refine gf_X8_68 E M.o rfl dX8_hoursNeeded_14 ?_
    refine j_iload_n E dX8_hoursNeeded_17 rfl ?_
    refine j_iald E M.a19 (vin_nn ho C.2.2.2.2.2.2 (by decide)) dX8_hoursNeeded_18 ?_
    refine j_if_le (tgt := 39) E dX8_hoursNeeded_19 (by decide) (fun c_19 => ?_) (fun c_19 => ?_)
    · refine j_iconst (v := 0) E dX8_hoursNeeded_39 ci_0 ?_
      refine pf_X8_84 E M.o (Nat.le_of_ble_eq_true rfl) dX8_hoursNeeded_40 (fun h40 hMd u40 => ?_)
      have M := M.sc8 hMd u40
      refine j_aload_n E dX8_hoursNeeded_43 rfl ?_
      refine gf_X8_84 E hMd rfl dX8_hoursNeeded_44 ?_
      refine j_if_gt (tgt := 59) E dX8_hoursNeeded_47 (by decide) (fun q => (gt0_no q).elim) (fun _ => ?_)
      refine j_aload_n E dX8_hoursNeeded_50 rfl ?_
      refine gf_X8_68 E M.o rfl dX8_hoursNeeded_51 ?_
      refine j_iload_n E dX8_hoursNeeded_54 rfl ?_
      refine j_iald E M.a19 (vin_nn ho C.2.2.2.2.2.2 (by decide)) dX8_hoursNeeded_55 ?_
      refine j_if_ne (tgt := 61) E dX8_hoursNeeded_56 (by decide) (fun q => (q (rg_0 (O.1 _ ho.2).2.2.1 (by decide) c_19)).elim) (fun _ => ?_)
      refine j_iconst (v := 0) E dX8_hoursNeeded_59 ci_0 ?_
      have e9 : p_hoursNeeded S x = (th S 0, 0) := by unfold p_hoursNeeded; rw [if_neg (bt (b2i_t c_6)), if_neg (i32_nlt c_19)]
      exact j_iret E hr dX8_hoursNeeded_60 ⟨Nat.le_of_ble_eq_true rfl, Nat.le_of_ble_eq_true rfl⟩ (by show _ ∧ _; rw [e9]; exact ⟨rfl, M⟩)
    · refine j_aload_n E dX8_hoursNeeded_22 rfl ?_
      refine j_aload_n E dX8_hoursNeeded_23 rfl ?_
      refine gf_X8_62 E M.o rfl dX8_hoursNeeded_24 ?_
      refine j_iload_n E dX8_hoursNeeded_27 rfl ?_
      refine j_iald E M.a17 (vin_nn ho C.2.2.2.2.2.2 (by decide)) dX8_hoursNeeded_28 ?_
      refine j_callV E (c_open l D _ ad ar _ M (S.1 17 (nn x) 0) hm5 hc) (cw_X8_143 E ⟨Nat.le_of_ble_eq_true rfl, Nat.le_of_ble_eq_true rfl, Nat.le_of_ble_eq_true rfl, Nat.le_of_ble_eq_true rfl, Nat.le_of_ble_eq_true rfl⟩) (q_951 E.tb) (q_17 E.tb) M.o rfl rfl dX8_hoursNeeded_29 rfl (fun v29 h29 p29 => ?_)
      obtain ⟨rfl, rfl⟩ := p29
      refine j_if_ne (tgt := 39) E dX8_hoursNeeded_32 (by decide) (fun c_32 => ?_) (fun c_32 => ?_)
      · refine j_iconst (v := 0) E dX8_hoursNeeded_39 ci_0 ?_
        refine pf_X8_84 E M.o (Nat.le_of_ble_eq_true rfl) dX8_hoursNeeded_40 (fun h40 hMd u40 => ?_)
        have M := M.sc8 hMd u40
        refine j_aload_n E dX8_hoursNeeded_43 rfl ?_
        refine gf_X8_84 E hMd rfl dX8_hoursNeeded_44 ?_
        refine j_if_gt (tgt := 59) E dX8_hoursNeeded_47 (by decide) (fun q => (gt0_no q).elim) (fun _ => ?_)
        refine j_aload_n E dX8_hoursNeeded_50 rfl ?_
        refine gf_X8_68 E M.o rfl dX8_hoursNeeded_51 ?_
        refine j_iload_n E dX8_hoursNeeded_54 rfl ?_
        refine j_iald E M.a19 (vin_nn ho C.2.2.2.2.2.2 (by decide)) dX8_hoursNeeded_55 ?_
        refine j_if_ne (tgt := 61) E dX8_hoursNeeded_56 (by decide) (fun _ => ?_) (fun q => (c_19 (by show S.1 19 (nn x) 0 ≤ 0; rw [show S.1 19 (nn x) 0 = 0 from q]; exact le0_0)).elim)
        refine j_aload_n E dX8_hoursNeeded_61 rfl ?_
        refine j_aload_n E dX8_hoursNeeded_62 rfl ?_
        refine gf_X8_62 E M.o rfl dX8_hoursNeeded_63 ?_
        refine j_iload_n E dX8_hoursNeeded_66 rfl ?_
        refine j_iald E M.a17 (vin_nn ho C.2.2.2.2.2.2 (by decide)) dX8_hoursNeeded_67 ?_
        refine j_callV E (c_open l D _ ad ar _ M (S.1 17 (nn x) 0) hm5 hc) (cw_X8_143 E ⟨Nat.le_of_ble_eq_true rfl, Nat.le_of_ble_eq_true rfl, Nat.le_of_ble_eq_true rfl, Nat.le_of_ble_eq_true rfl, Nat.le_of_ble_eq_true rfl⟩) (q_951 E.tb) (q_17 E.tb) M.o rfl rfl dX8_hoursNeeded_68 rfl (fun v68 h68 p68 => ?_)
        rw [opn_th] at p68
        obtain ⟨rfl, rfl⟩ := p68
        refine j_istore_n E dX8_hoursNeeded_71 (by decide) ?_
        refine j_aload_n E dX8_hoursNeeded_72 rfl ?_
        refine gf_X8_68 E M.o rfl dX8_hoursNeeded_73 ?_
        refine j_iload_n E dX8_hoursNeeded_76 rfl ?_
        refine j_iald E M.a19 (vin_nn ho C.2.2.2.2.2.2 (by decide)) dX8_hoursNeeded_77 ?_
        refine j_iload_n E dX8_hoursNeeded_78 rfl ?_
        refine j_iadd E dX8_hoursNeeded_79 ?_
        refine j_iconst (v := 1) E dX8_hoursNeeded_80 ci_1 ?_
        refine j_isub E dX8_hoursNeeded_81 ?_
        refine j_iload_n E dX8_hoursNeeded_82 rfl ?_
        refine j_idiv E dX8_hoursNeeded_83 c_32 ?_
        refine j_istore_n E dX8_hoursNeeded_84 (by decide) ?_
        refine j_sipush (v := 3600) E dX8_hoursNeeded_85 cs_3600 ?_
        refine j_aload_n E dX8_hoursNeeded_88 rfl ?_
        refine gf_X8_37 E M.o rfl dX8_hoursNeeded_89 ?_
        refine j_aload_n E dX8_hoursNeeded_92 rfl ?_
        refine gf_X8_62 E M.o rfl dX8_hoursNeeded_93 ?_
        refine j_iload_n E dX8_hoursNeeded_96 rfl ?_
        refine j_iald E M.a17 (vin_nn ho C.2.2.2.2.2.2 (by decide)) dX8_hoursNeeded_97 ?_
        refine j_iald E M.a10 (vin_nn hm C.2.2.1.2.2 (by decide)) dX8_hoursNeeded_98 ?_
        refine j_idiv E dX8_hoursNeeded_99 (rg_ne0 hy) ?_
        refine j_istore E dX8_hoursNeeded_100 (by decide) ?_
        refine j_iload_n E dX8_hoursNeeded_102 rfl ?_
        refine j_iload E dX8_hoursNeeded_103 rfl ?_
        refine j_iadd E dX8_hoursNeeded_105 ?_
        refine j_iconst (v := 1) E dX8_hoursNeeded_106 ci_1 ?_
        refine j_isub E dX8_hoursNeeded_107 ?_
        refine j_iload E dX8_hoursNeeded_108 rfl ?_
        refine j_idiv E dX8_hoursNeeded_110 (q3600 hy) ?_
        have e9 := show p_hoursNeeded S x = _ from by unfold p_hoursNeeded; rw [if_neg (bt (b2i_t c_6)), if_pos (i32_ltof c_19), if_neg (show ¬ sMany S (nn x) = 0 from c_32)]
        exact j_iret E hr dX8_hoursNeeded_111 ⟨Nat.le_of_ble_eq_true rfl, Nat.le_of_ble_eq_true rfl⟩ (by show _ ∧ _; rw [e9]; exact ⟨rfl, M⟩)
      · refine j_iconst (v := 2) E dX8_hoursNeeded_35 ci_2 ?_
        refine j_goto (tgt := 40) E dX8_hoursNeeded_36 (by decide) ?_
        refine pf_X8_84 E M.o (Nat.le_of_ble_eq_true rfl) dX8_hoursNeeded_40 (fun h40 hMd u40 => ?_)
        have M := M.sc8 hMd u40
        refine j_aload_n E dX8_hoursNeeded_43 rfl ?_
        refine gf_X8_84 E hMd rfl dX8_hoursNeeded_44 ?_
        refine j_if_gt (tgt := 59) E dX8_hoursNeeded_47 (by decide) (fun _ => ?_) (fun q => (q gt2).elim)
        refine j_iconst (v := 0) E dX8_hoursNeeded_59 ci_0 ?_
        have e9 : p_hoursNeeded S x = (th S 2, 0) := by unfold p_hoursNeeded; rw [if_neg (bt (b2i_t c_6)), if_pos (i32_ltof c_19), if_pos (show sMany S (nn x) = 0 from c_32)]
        exact j_iret E hr dX8_hoursNeeded_60 ⟨Nat.le_of_ble_eq_true rfl, Nat.le_of_ble_eq_true rfl⟩ (by show _ ∧ _; rw [e9]; exact ⟨rfl, M⟩)
  · refine j_iconst (v := 1) E dX8_hoursNeeded_9 ci_1 ?_
    refine j_goto (tgt := 40) E dX8_hoursNeeded_10 (by decide) ?_
    refine pf_X8_84 E M.o (Nat.le_of_ble_eq_true rfl) dX8_hoursNeeded_40 (fun h40 hMd u40 => ?_)
    have M := M.sc8 hMd u40
    refine j_aload_n E dX8_hoursNeeded_43 rfl ?_
    refine gf_X8_84 E hMd rfl dX8_hoursNeeded_44 ?_
    refine j_if_gt (tgt := 59) E dX8_hoursNeeded_47 (by decide) (fun _ => ?_) (fun q => (q gt1).elim)
    refine j_iconst (v := 0) E dX8_hoursNeeded_59 ci_0 ?_
    have e9 : p_hoursNeeded S x = (th S 1, 0) := by unfold p_hoursNeeded; rw [if_pos (b2i_f c_6)]
    exact j_iret E hr dX8_hoursNeeded_60 ⟨Nat.le_of_ble_eq_true rfl, Nat.le_of_ble_eq_true rfl⟩ (by show _ ∧ _; rw [e9]; exact ⟨rfl, M⟩)
set_option maxHeartbeats 4000000 in
set_option maxRecDepth 100000 in
theorem c_takes (l : Launch) (D : va_G) (S : St) (ad : Nat → Nat) (ar : Nat → Nat → Nat) (h : AH) (M : Mdl S ad ar h) (C : Cnt S) (r g : Int32) (L : LR S) : Ctr l D yX8_takes cX8_takes 6 none 2 42 0 0 [.ref (ad 0), .int r, .int g] h (fun _ => False) (fun r9 h' => r9 = none ∧ Mdl (takes S r g) ad ar h') := by
  refine Ctr.of RX8 rfl (by decide) (Nat.le_of_ble_eq_true rfl) ?_
  intro sz p e s m below meth c E hin hr ht
  refine j_iload_n E dX8_takes_0 rfl ?_
  refine j_istore_n E dX8_takes_1 (by decide) ?_
  refine j_iconst (v := 0) E dX8_takes_2 ci_0 ?_
  refine j_istore E dX8_takes_3 (by decide) ?_
  have K : ∀ (n : Nat) (y a : Int32) (S2 : St) (h2 : AH), y = nI (nn y) → nn y + n = nn (S.1 0 1 0) → (S2, a) = tkN S r g (nn y) → Mdl S2 ad ar h2 → J p l e { frames := 2, cells := 0, slots := 0, locals := 42 } s m [.ref (ad 0), .int r, .int g].toArray below meth c D (Afr h sz) 6 (vx_MQ below (Qcs D h sz (fun r9 h' => r9 = none ∧ Mdl (takes S r g) ad ar h')) (Xcs D h sz (fun _ => False)) [.ref (ad 0), .int r, .int g].toArray s 0 0 (Afr h sz)) 0 0 h2 5 [(3, .int a), (4, .int y), (0, .ref (ad 0)), (1, .int r), (2, .int g)] [] := by
    intro n
    induction n with
    | zero =>
      intro y a S2 h2 hy hn hS M
      have hC : ∀ c i j, c ≠ 4 → S2.1 c i j = S.1 c i j := by intro c i j hc; rw [show S2 = (tkN S r g (nn y)).1 from congrArg Prod.fst hS]; exact tkN_c hc _
      have h1 : S2.1 0 1 0 = S.1 0 1 0 := hC 0 1 0 (by decide)
      have hL3 := C.2.1.2.2
      refine j_iload E dX8_takes_5 rfl ?_
      refine j_aload_n E dX8_takes_7 rfl ?_
      refine gf_X8_95 E M.o rfl dX8_takes_8 ?_
      refine j_icmp_ge (tgt := 74) E dX8_takes_11 (by decide) (fun _ => ?_) (fun q => (q (by show S2.1 0 1 0 ≤ y; rw [h1]; exact ge_of hy C.2.1.1 (by omega) (by omega))).elim)
      exact j_vret E hr dX8_takes_74 ⟨Nat.le_of_ble_eq_true rfl, Nat.le_of_ble_eq_true rfl⟩ ⟨rfl, by unfold takes; rw [← show nn y = nn (S.1 0 1 0) from hn, ← hS]; exact M⟩
    | succ n ih =>
      intro y a S2 h2 hy hn hS M
      have hC : ∀ c i j, c ≠ 4 → S2.1 c i j = S.1 c i j := by intro c i j hc; rw [show S2 = (tkN S r g (nn y)).1 from congrArg Prod.fst hS]; exact tkN_c hc _
      have h1 : S2.1 0 1 0 = S.1 0 1 0 := hC 0 1 0 (by decide)
      have hL3 := C.2.1.2.2
      have hlt : nn y < nn (S.1 0 1 0) := by omega
      refine j_iload E dX8_takes_5 rfl ?_
      refine j_aload_n E dX8_takes_7 rfl ?_
      refine gf_X8_95 E M.o rfl dX8_takes_8 ?_
      refine j_icmp_ge (tgt := 74) E dX8_takes_11 (by decide) (fun q => (nge_of hy C.2.1.1 hlt (by omega) (by have q2 : S2.1 0 1 0 ≤ y := q; rw [h1] at q2; exact q2)).elim) (fun _ => ?_)
      refine j_aload_n E dX8_takes_14 rfl ?_
      refine gf_X8_16 E M.o rfl dX8_takes_15 ?_
      refine j_iload E dX8_takes_18 rfl ?_
      refine j_iald E M.a3 (vin_of hy hlt hL3 (by decide)) dX8_takes_20 ?_
      refine j_iload_n E dX8_takes_21 rfl ?_
      refine j_icmp_ne (tgt := 48) E dX8_takes_22 (by decide) (fun c_22 => ?_) (fun c_22 => ?_)
      · refine j_iconst (v := 0) E dX8_takes_48 ci_0 ?_
        refine j_istore E dX8_takes_49 (by decide) ?_
        refine j_aload_n E dX8_takes_51 rfl ?_
        refine gf_X8_19 E M.o rfl dX8_takes_52 ?_
        refine j_iload E dX8_takes_55 rfl ?_
        refine j_dup2 E dX8_takes_57 rfl rfl ?_
        refine j_iald E M.a4 (vin_of hy hlt hL3 (by decide)) dX8_takes_58 ?_
        refine j_iload E dX8_takes_59 rfl ?_
        refine j_isub E dX8_takes_61 ?_
        refine s_iast E M.a4 (vin_of hy hlt hL3 (by decide)) dX8_takes_62 (fun h62 n62 u62 => ?_)
        have M := M.st4 n62 u62
        refine j_iload_n E dX8_takes_63 rfl ?_
        refine j_iload E dX8_takes_64 rfl ?_
        refine j_isub E dX8_takes_66 ?_
        refine j_istore_n E dX8_takes_67 (by decide) ?_
        refine j_iincK (k := 1) E ci_1 dX8_takes_68 rfl (by decide) ?_
        refine j_goto (tgt := 5) E dX8_takes_71 (by decide) ?_
        obtain ⟨a1, a2⟩ := nn_s hy hlt (by omega)
        refine J.sub (lo' := [(3, .int (a - 0)), (4, .int (y + 1)), (0, .ref (ad 0)), (1, .int r), (2, .int g)]) ⟨rfl, rfl, rfl, rfl, rfl, trivial⟩ ?_
        exact ih (y + 1) (a - 0) (s1 S2 4 (nn y) 0 (S2.1 4 (nn y) 0 - 0)) h62 a1 (by omega) (by rw [a2]; show _ = (s1 (tkN S r g (nn y)).1 4 (nn y) 0 ((tkN S r g (nn y)).1.1 4 (nn y) 0 - tkI (tkN S r g (nn y)).1 r (tkN S r g (nn y)).2 (nn y)), (tkN S r g (nn y)).2 - tkI (tkN S r g (nn y)).1 r (tkN S r g (nn y)).2 (nn y)); rw [← hS]; show _ = (s1 S2 4 (nn y) 0 (S2.1 4 (nn y) 0 - tkI S2 r a (nn y)), a - tkI S2 r a (nn y)); rw [show tkI S2 r a (nn y) = 0 from if_neg (fun hh => c_22 hh.1)]) M
      · refine j_aload_n E dX8_takes_25 rfl ?_
        refine j_iload E dX8_takes_26 rfl ?_
        refine j_callV E (c_toDry l D S2 ad ar h2 M (C.of fun i _ => hC 0 i 0 (by decide)) y ⟨hy, by rw [h1]; exact hlt⟩ (L.of hC)) (cw_X8_128 E ⟨Nat.le_of_ble_eq_true rfl, Nat.le_of_ble_eq_true rfl, Nat.le_of_ble_eq_true rfl, Nat.le_of_ble_eq_true rfl, Nat.le_of_ble_eq_true rfl⟩) (q_910 E.tb) (q_12 E.tb) M.o rfl rfl dX8_takes_28 rfl (fun v28 h28 p28 => ?_)
        obtain ⟨rfl, rfl⟩ := p28
        refine j_if_ne (tgt := 48) E dX8_takes_31 (by decide) (fun c_31 => ?_) (fun c_31 => ?_)
        · refine j_iconst (v := 0) E dX8_takes_48 ci_0 ?_
          refine j_istore E dX8_takes_49 (by decide) ?_
          refine j_aload_n E dX8_takes_51 rfl ?_
          refine gf_X8_19 E M.o rfl dX8_takes_52 ?_
          refine j_iload E dX8_takes_55 rfl ?_
          refine j_dup2 E dX8_takes_57 rfl rfl ?_
          refine j_iald E M.a4 (vin_of hy hlt hL3 (by decide)) dX8_takes_58 ?_
          refine j_iload E dX8_takes_59 rfl ?_
          refine j_isub E dX8_takes_61 ?_
          refine s_iast E M.a4 (vin_of hy hlt hL3 (by decide)) dX8_takes_62 (fun h62 n62 u62 => ?_)
          have M := M.st4 n62 u62
          refine j_iload_n E dX8_takes_63 rfl ?_
          refine j_iload E dX8_takes_64 rfl ?_
          refine j_isub E dX8_takes_66 ?_
          refine j_istore_n E dX8_takes_67 (by decide) ?_
          refine j_iincK (k := 1) E ci_1 dX8_takes_68 rfl (by decide) ?_
          refine j_goto (tgt := 5) E dX8_takes_71 (by decide) ?_
          obtain ⟨a1, a2⟩ := nn_s hy hlt (by omega)
          refine J.sub (lo' := [(3, .int (a - 0)), (4, .int (y + 1)), (0, .ref (ad 0)), (1, .int r), (2, .int g)]) ⟨rfl, rfl, rfl, rfl, rfl, trivial⟩ ?_
          exact ih (y + 1) (a - 0) (s1 S2 4 (nn y) 0 (S2.1 4 (nn y) 0 - 0)) h62 a1 (by omega) (by rw [a2]; show _ = (s1 (tkN S r g (nn y)).1 4 (nn y) 0 ((tkN S r g (nn y)).1.1 4 (nn y) 0 - tkI (tkN S r g (nn y)).1 r (tkN S r g (nn y)).2 (nn y)), (tkN S r g (nn y)).2 - tkI (tkN S r g (nn y)).1 r (tkN S r g (nn y)).2 (nn y)); rw [← hS]; show _ = (s1 S2 4 (nn y) 0 (S2.1 4 (nn y) 0 - tkI S2 r a (nn y)), a - tkI S2 r a (nn y)); rw [show tkI S2 r a (nn y) = 0 from if_neg (fun hh => c_31 hh.2)]) M
        · refine j_iload_n E dX8_takes_34 rfl ?_
          refine j_aload_n E dX8_takes_35 rfl ?_
          refine gf_X8_19 E M.o rfl dX8_takes_36 ?_
          refine j_iload E dX8_takes_39 rfl ?_
          refine j_iald E M.a4 (vin_of hy hlt hL3 (by decide)) dX8_takes_41 ?_
          refine j_mmin E (q_1030 E.tb) (q_672 E.tb) (q_39 E.tb) (q_673 E.tb) ⟨Nat.le_of_ble_eq_true rfl, Nat.le_of_ble_eq_true rfl, Nat.le_of_ble_eq_true rfl, Nat.le_of_ble_eq_true rfl⟩ dX8_takes_42 ?_
          refine j_goto (tgt := 49) E dX8_takes_45 (by decide) ?_
          refine j_istore E dX8_takes_49 (by decide) ?_
          refine j_aload_n E dX8_takes_51 rfl ?_
          refine gf_X8_19 E M.o rfl dX8_takes_52 ?_
          refine j_iload E dX8_takes_55 rfl ?_
          refine j_dup2 E dX8_takes_57 rfl rfl ?_
          refine j_iald E M.a4 (vin_of hy hlt hL3 (by decide)) dX8_takes_58 ?_
          refine j_iload E dX8_takes_59 rfl ?_
          refine j_isub E dX8_takes_61 ?_
          refine s_iast E M.a4 (vin_of hy hlt hL3 (by decide)) dX8_takes_62 (fun h62 n62 u62 => ?_)
          have M := M.st4 n62 u62
          refine j_iload_n E dX8_takes_63 rfl ?_
          refine j_iload E dX8_takes_64 rfl ?_
          refine j_isub E dX8_takes_66 ?_
          refine j_istore_n E dX8_takes_67 (by decide) ?_
          refine j_iincK (k := 1) E ci_1 dX8_takes_68 rfl (by decide) ?_
          refine j_goto (tgt := 5) E dX8_takes_71 (by decide) ?_
          obtain ⟨a1, a2⟩ := nn_s hy hlt (by omega)
          refine J.sub (lo' := [(3, .int (a - (mn a (S2.1 4 (nn y) 0)))), (4, .int (y + 1)), (0, .ref (ad 0)), (1, .int r), (2, .int g)]) ⟨rfl, rfl, rfl, rfl, rfl, trivial⟩ ?_
          exact ih (y + 1) (a - (mn a (S2.1 4 (nn y) 0))) (s1 S2 4 (nn y) 0 (S2.1 4 (nn y) 0 - (mn a (S2.1 4 (nn y) 0)))) h62 a1 (by omega) (by rw [a2]; show _ = (s1 (tkN S r g (nn y)).1 4 (nn y) 0 ((tkN S r g (nn y)).1.1 4 (nn y) 0 - tkI (tkN S r g (nn y)).1 r (tkN S r g (nn y)).2 (nn y)), (tkN S r g (nn y)).2 - tkI (tkN S r g (nn y)).1 r (tkN S r g (nn y)).2 (nn y)); rw [← hS]; show _ = (s1 S2 4 (nn y) 0 (S2.1 4 (nn y) 0 - tkI S2 r a (nn y)), a - tkI S2 r a (nn y)); rw [show tkI S2 r a (nn y) = (mn a (S2.1 4 (nn y) 0)) from if_pos ⟨c_22, c_31⟩]) M
  refine J.sub (lo' := [(3, .int g), (4, .int 0), (0, .ref (ad 0)), (1, .int r), (2, .int g)]) ⟨rfl, rfl, rfl, rfl, rfl, trivial⟩ ?_
  exact K (nn (S.1 0 1 0)) 0 g S _ e0_nn (by rw [nn_0]; omega) rfl M
