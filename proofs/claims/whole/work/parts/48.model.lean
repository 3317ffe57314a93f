/-! the model: an hour, hours -/
set_option maxHeartbeats 4000000 in
set_option maxRecDepth 100000 in
theorem c_hour (l : Launch) (D : va_G) (S : St) (ad : Nat → Nat) (ar : Nat → Nat → Nat) (h : AH) (M : Mdl S ad ar h) (C : Cnt S) (B : Nat) (I : Inv S B) (hB : B + 180 < 1000000) : Ctr l D yX8_hour cX8_hour 7 (some .int) 4 94 0 0 [.ref (ad 0)] h (fun _ => False) (fun r9 h' => r9 = some (.int (hour S).2) ∧ Mdl (hour S).1 ad ar h') := by
  refine Ctr.of RX8 rfl (by decide) (Nat.le_of_ble_eq_true rfl) ?_
  intro sz p e s m below meth c E hin hr ht
  refine j_iconst (v := 0) E dX8_hour_0 ci_0 ?_
  refine j_istore_n E dX8_hour_1 (by decide) ?_
  refine j_iconst (v := 0) E dX8_hour_2 ci_0 ?_
  refine j_istore_n E dX8_hour_3 (by decide) ?_
  have K3 : ∀ (n : Nat) (S2 : St) (h2 : AH), n ≤ 3 → n ≤ nn (S2.1 0 1 0) → Inv S2 (B + 180) → dryN S2 n = hourD S → Mdl S2 ad ar h2 → J p l e { frames := 4, cells := 0, slots := 0, locals := 94 } s m [.ref (ad 0)].toArray below meth c D (Afr h sz) 7 (vx_MQ below (Qcs D h sz (fun r9 h' => r9 = some (.int (hour S).2) ∧ Mdl (hour S).1 ad ar h')) (Xcs D h sz (fun _ => False)) [.ref (ad 0)].toArray s 0 0 (Afr h sz)) 0 0 h2 119 [(2, .int (nI n - 1)), (1, .int (hourM S).2), (0, .ref (ad 0))] [] := by
    intro n
    induction n with
    | zero =>
      intro S2 h2 hn1 hn2 I2 hD M
      refine j_iload_n E dX8_hour_119 rfl ?_
      refine j_if_lt (tgt := 153) E dX8_hour_120 (by decide) (fun _ => ?_) (fun q => (q (by decide)).elim)
      refine j_aload_n E dX8_hour_153 rfl ?_
      refine j_dup E dX8_hour_154 rfl ?_
      refine gf_X8_183 E M.o rfl dX8_hour_155 ?_
      refine j_iconst (v := 1) E dX8_hour_158 ci_1 ?_
      refine j_iadd E dX8_hour_159 ?_
      refine pf_X8_183 E M.o (Nat.le_of_ble_eq_true rfl) dX8_hour_160 (fun h160 hMd u160 => ?_)
      have M := M.sc5 hMd u160
      refine j_iload_n E dX8_hour_163 rfl ?_
      exact j_iret E hr dX8_hour_164 ⟨Nat.le_of_ble_eq_true rfl, Nat.le_of_ble_eq_true rfl⟩ ⟨rfl, by show Mdl (s1 (hourD S) 0 5 0 ((hourD S).1 0 5 0 + 1)) ad ar _; rw [← hD]; exact M⟩
    | succ n ih =>
      intro S2 h2 hn1 hn2 I2 hD M
      have e : nn (nI n) = n := nI_clamp (by omega)
      refine J.sub (lo' := [(2, .int (nI n)), (1, .int (hourM S).2), (0, .ref (ad 0))]) ⟨congrArg (fun q => some (Value.int q)) (nI_pred n), rfl, rfl, trivial⟩ ?_
      refine j_iload_n E dX8_hour_119 rfl ?_
      refine j_if_lt (tgt := 153) E dX8_hour_120 (by decide) (fun q => (nI_pos (by omega) q).elim) (fun _ => ?_)
      refine j_aload_n E dX8_hour_123 rfl ?_
      refine gf_X8_22 E M.o rfl dX8_hour_124 ?_
      refine j_iload_n E dX8_hour_127 rfl ?_
      refine j_dup2 E dX8_hour_128 rfl rfl ?_
      refine j_iald E M.a5 (vin_nI (n := 3) (k := n) (by omega) (by decide)) dX8_hour_129 ?_
      refine j_iconst (v := 1) E dX8_hour_130 ci_1 ?_
      refine j_iadd E dX8_hour_131 ?_
      refine s_iast E M.a5 (vin_nI (n := 3) (k := n) (by omega) (by decide)) dX8_hour_132 (fun h132 n132 u132 => ?_)
      have M := M.st5 n132 u132
      have M : Mdl (s1 S2 5 n 0 (S2.1 5 n 0 + 1)) ad ar h132 := by have M9 := M; rw [show (nI n).toNatClampNeg = n from e] at M9; exact M9
      refine j_aload_n E dX8_hour_133 rfl ?_
      refine gf_X8_19 E M.o rfl dX8_hour_134 ?_
      refine j_iload_n E dX8_hour_137 rfl ?_
      refine j_iald E M.a4 (vin_nI (n := 3) (k := n) (by omega) (by decide)) dX8_hour_138 ?_
      refine j_if_ne (tgt := 147) E dX8_hour_139 (by decide) (fun c_139 => ?_) (fun c_139 => ?_)
      · refine j_iincK (k := (-1)) E ci_m1 dX8_hour_147 rfl (by decide) ?_
        refine j_goto (tgt := 119) E dX8_hour_150 (by decide) ?_
        have c9 : ¬ S2.1 4 n 0 = 0 := fun q => c_139 (by show S2.1 4 (nn (nI n)) 0 = 0; rw [e]; exact q)
        have M : Mdl (dryS S2 n) ad ar h132 := by unfold dryS; rw [if_neg c9]; exact M
        refine J.sub (lo' := [(2, .int (nI n - 1)), (1, .int (hourM S).2), (0, .ref (ad 0))]) ⟨congrArg (fun q => some (Value.int q)) (Int32.sub_eq_add_neg (nI n) 1).symm, rfl, rfl, trivial⟩ ?_
        exact ih (dryS S2 n) _ (by omega) (dryS_l (n := 0) I2.cnt.2.1 hn2) (dryS_inv I2 hn2) hD M
      · refine j_aload_n E dX8_hour_142 rfl ?_
        refine j_iload_n E dX8_hour_143 rfl ?_
        refine j_callV E (c_leaves l D _ ad ar _ M (C := I2.s5.cnt) (nI n) ⟨by rw [e], by rw [e]; exact hn2⟩) (cw_X8_118 E ⟨Nat.le_of_ble_eq_true rfl, Nat.le_of_ble_eq_true rfl, Nat.le_of_ble_eq_true rfl, Nat.le_of_ble_eq_true rfl, Nat.le_of_ble_eq_true rfl⟩) (q_898 E.tb) (q_11 E.tb) M.o rfl rfl dX8_hour_144 rfl (fun v144 h144 p144 => ?_)
        obtain ⟨rfl, M⟩ := p144
        refine j_iincK (k := (-1)) E ci_m1 dX8_hour_147 rfl (by decide) ?_
        refine j_goto (tgt := 119) E dX8_hour_150 (by decide) ?_
        have c9 : S2.1 4 n 0 = 0 := by have q : S2.1 4 (nn (nI n)) 0 = 0 := c_139; rw [e] at q; exact q
        have M : Mdl (dryS S2 n) ad ar h144 := by unfold dryS; rw [if_pos c9]; have M9 := M; rw [show nn (nI n) = n from e] at M9; exact M9
        refine J.sub (lo' := [(2, .int (nI n - 1)), (1, .int (hourM S).2), (0, .ref (ad 0))]) ⟨congrArg (fun q => some (Value.int q)) (Int32.sub_eq_add_neg (nI n) 1).symm, rfl, rfl, trivial⟩ ?_
        exact ih (dryS S2 n) _ (by omega) (dryS_l (n := 0) I2.cnt.2.1 hn2) (dryS_inv I2 hn2) hD M
  have K : ∀ (n : Nat) (z a : Int32) (S2 : St) (h2 : AH), z = nI (nn z) → nn z + n = nn (S.1 0 3 0) → (S2, a) = mcN S (nn z) → Mdl S2 ad ar h2 → J p l e { frames := 4, cells := 0, slots := 0, locals := 94 } s m [.ref (ad 0)].toArray below meth c D (Afr h sz) 7 (vx_MQ below (Qcs D h sz (fun r9 h' => r9 = some (.int (hour S).2) ∧ Mdl (hour S).1 ad ar h')) (Xcs D h sz (fun _ => False)) [.ref (ad 0)].toArray s 0 0 (Afr h sz)) 0 0 h2 4 [(1, .int a), (2, .int z), (0, .ref (ad 0))] [] := by
    intro n
    induction n with
    | zero =>
      intro z a S2 h2 hz hn hS M
      have h3e : S2.1 0 3 0 = S.1 0 3 0 := by have q := mcN_0 (S := S) (i := 3) (by decide) (by decide) (nn z); rw [← hS] at q; exact q
      have hM3 := C.2.2.2.1.2.2
      have I2 : Inv S2 (B + 60 * nn z) := by have q := mcN_inv I (nn z) (by omega) (by omega); rw [← hS] at q; exact q
      refine j_iload_n E dX8_hour_4 rfl ?_
      refine j_aload_n E dX8_hour_5 rfl ?_
      refine gf_X8_105 E M.o rfl dX8_hour_6 ?_
      refine j_icmp_ge (tgt := 112) E dX8_hour_9 (by decide) (fun _ => ?_) (fun q => (q (by show S2.1 0 3 0 ≤ z; rw [h3e]; exact ge_of hz C.2.2.2.1.1 (by omega) (nn_lt z))).elim)
      refine j_aload_n E dX8_hour_112 rfl ?_
      refine gf_X8_95 E M.o rfl dX8_hour_113 ?_
      refine j_iconst (v := 1) E dX8_hour_116 ci_1 ?_
      refine j_isub E dX8_hour_117 ?_
      refine j_istore_n E dX8_hour_118 (by decide) ?_
      have eM : (S2, a) = hourM S := by rw [hS]; unfold hourM; rw [show nn z = nn (S.1 0 3 0) from hn]
      have e1 : S2 = (hourM S).1 := congrArg Prod.fst eM
      have e2 : a = (hourM S).2 := congrArg Prod.snd eM
      refine J.sub (lo' := [(2, .int (nI (nn (S2.1 0 1 0)) - 1)), (1, .int (hourM S).2), (0, .ref (ad 0))]) ⟨congrArg (fun q => some (Value.int (q - 1))) I2.cnt.2.1.1, congrArg (fun q => some (Value.int q)) e2, rfl, trivial⟩ ?_
      exact K3 (nn (S2.1 0 1 0)) S2 h2 I2.cnt.2.1.2.2 (Nat.le_refl _) (I2.up (by omega)) (by unfold hourD; rw [← e1]) M
    | succ n ih =>
      intro z a S2 h2 hz hn hS M
      have hlt : nn z < nn (S.1 0 3 0) := by omega
      have h3e : S2.1 0 3 0 = S.1 0 3 0 := by have q := mcN_0 (S := S) (i := 3) (by decide) (by decide) (nn z); rw [← hS] at q; exact q
      have hM3 := C.2.2.2.1.2.2
      have I2 : Inv S2 (B + 60 * nn z) := by have q := mcN_inv I (nn z) (by omega) (by omega); rw [← hS] at q; exact q
      have hE : ∀ (b : Int32) (S3 : St) (h3 : AH), (S3, b) = mcN S (nn z + 1) → Mdl S3 ad ar h3 → J p l e { frames := 4, cells := 0, slots := 0, locals := 94 } s m [.ref (ad 0)].toArray below meth c D (Afr h sz) 7 (vx_MQ below (Qcs D h sz (fun r9 h' => r9 = some (.int (hour S).2) ∧ Mdl (hour S).1 ad ar h')) (Xcs D h sz (fun _ => False)) [.ref (ad 0)].toArray s 0 0 (Afr h sz)) 0 0 h3 106 [(1, .int b), (2, .int z), (0, .ref (ad 0))] [] := by
        intro b S3 h3 hS3 M3
        refine j_iincK (k := 1) E ci_1 dX8_hour_106 rfl (by decide) ?_
        refine j_goto (tgt := 4) E dX8_hour_109 (by decide) ?_
        obtain ⟨a1, a2⟩ := nn_s hz hlt (by omega)
        refine J.sub (lo' := [(1, .int b), (2, .int (z + 1)), (0, .ref (ad 0))]) ⟨rfl, rfl, rfl, trivial⟩ ?_
        exact ih (z + 1) b S3 h3 a1 (by omega) (by rw [a2]; exact hS3) M3
      refine j_iload_n E dX8_hour_4 rfl ?_
      refine j_aload_n E dX8_hour_5 rfl ?_
      refine gf_X8_105 E M.o rfl dX8_hour_6 ?_
      refine j_icmp_ge (tgt := 112) E dX8_hour_9 (by decide) (fun q => (nge_of hz C.2.2.2.1.1 hlt (by omega) (by have q2 : S2.1 0 3 0 ≤ z := q; rw [h3e] at q2; exact q2)).elim) (fun _ => ?_)
      refine j_aload_n E dX8_hour_12 rfl ?_
      refine gf_X8_59 E M.o rfl dX8_hour_13 ?_
      refine j_iload_n E dX8_hour_16 rfl ?_
      refine j_iald E M.a16 (vin_of hz hlt hM3 (by decide)) dX8_hour_17 ?_
      refine j_istore_n E dX8_hour_18 (by decide) ?_
      refine j_iload_n E dX8_hour_19 rfl ?_
      refine j_iconst (v := (-1)) E dX8_hour_20 ci_m1 ?_
      refine j_icmp_ne (tgt := 28) E dX8_hour_21 (by decide) (fun c_21 => ?_) (fun c_21 => ?_)
      · obtain ⟨ro, rk, rc, rm⟩ := most_le I2 (k := nn z) (by rw [h3e]; exact hlt) c_21
        have ro : (S2.1 16 (nn z) 0) = nI (nn (S2.1 16 (nn z) 0)) ∧ nn (S2.1 16 (nn z) 0) < nn (S.1 0 4 0) := by have q := mcN_0 (S := S) (i := 4) (by decide) (by decide) (nn z); rw [← hS] at q; rw [show S2.1 0 4 0 = S.1 0 4 0 from q] at ro; exact ro
        refine j_sipush (v := 3600) E dX8_hour_28 cs_3600 ?_
        refine j_aload_n E dX8_hour_31 rfl ?_
        refine gf_X8_37 E M.o rfl dX8_hour_32 ?_
        refine j_aload_n E dX8_hour_35 rfl ?_
        refine gf_X8_56 E M.o rfl dX8_hour_36 ?_
        refine j_iload_n E dX8_hour_39 rfl ?_
        refine j_iald E M.a15 (vin_of hz hlt hM3 (by decide)) dX8_hour_40 ?_
        refine j_iald E M.a10 (vin_of rk.1 (Nat.lt_of_lt_of_le rk.2 I2.cnt.2.2.1.2.2) (Nat.le_refl 5) (by decide)) dX8_hour_41 ?_
        refine j_idiv E dX8_hour_42 (rg_ne0 rc) ?_
        refine j_istore E dX8_hour_43 (by decide) ?_
        refine j_iconst (v := 0) E dX8_hour_45 ci_0 ?_
        refine j_istore E dX8_hour_46 (by decide) ?_
        have K2 : ∀ (n : Nat) (y b : Int32) (S3 : St) (h3 : AH), y = nI (nn y) → nn y + n = nn (3600 / S2.1 10 (nn (S2.1 15 (nn z) 0)) 0) → shl S3 (nn (S2.1 16 (nn z) 0)) b n = mcN S (nn z + 1) → Inv S3 (B + 60 * nn z + nn y) → nn (S2.1 16 (nn z) 0) < nn (S3.1 0 4 0) → Mdl S3 ad ar h3 → J p l e { frames := 4, cells := 0, slots := 0, locals := 94 } s m [.ref (ad 0)].toArray below meth c D (Afr h sz) 7 (vx_MQ below (Qcs D h sz (fun r9 h' => r9 = some (.int (hour S).2) ∧ Mdl (hour S).1 ad ar h')) (Xcs D h sz (fun _ => False)) [.ref (ad 0)].toArray s 0 0 (Afr h sz)) 0 0 h3 48 [(1, .int b), (2, .int z), (3, .int (S2.1 16 (nn z) 0)), (4, .int (3600 / S2.1 10 (nn (S2.1 15 (nn z) 0)) 0)), (5, .int y), (0, .ref (ad 0))] [] := by
          intro n
          induction n with
          | zero =>
            intro y b S3 h3 hy hn hs I3 h4 M
            refine j_iload E dX8_hour_48 rfl ?_
            refine j_iload E dX8_hour_50 rfl ?_
            refine j_icmp_ge (tgt := 106) E dX8_hour_52 (by decide) (fun _ => ?_) (fun q => (q (ge_of hy rm.1 (by show nn (3600 / S2.1 10 (nn (S2.1 15 (nn z) 0)) 0) ≤ nn y; omega) (nn_lt y))).elim)
            refine J.sub (lo' := [(1, .int b), (2, .int z), (0, .ref (ad 0))]) ⟨rfl, rfl, rfl, trivial⟩ ?_
            exact hE b S3 h3 hs M
          | succ n ih =>
            intro y b S3 h3 hy hn hs I3 h4 M
            have ih2 := ih
            have hy60 : nn y < 60 := by have := rm.2.2; omega
            refine j_iload E dX8_hour_48 rfl ?_
            refine j_iload E dX8_hour_50 rfl ?_
            refine j_icmp_ge (tgt := 106) E dX8_hour_52 (by decide) (fun q => (nge_of hy rm.1 (by show nn y < nn (3600 / S2.1 10 (nn (S2.1 15 (nn z) 0)) 0); omega) (nn_lt _) q).elim) (fun _ => ?_)
            refine j_aload_n E dX8_hour_55 rfl ?_
            refine gf_X8_68 E M.o rfl dX8_hour_56 ?_
            refine j_iload_n E dX8_hour_59 rfl ?_
            refine j_iald E M.a19 (vin_of ro.1 (Nat.lt_of_lt_of_le ro.2 C.2.2.2.2.2.2) (Nat.le_refl 8) (by decide)) dX8_hour_60 ?_
            refine j_if_le (tgt := 106) E dX8_hour_61 (by decide) (fun c_61 => ?_) (fun c_61 => ?_)
            · refine J.sub (lo' := [(1, .int b), (2, .int z), (0, .ref (ad 0))]) ⟨rfl, rfl, rfl, trivial⟩ ?_
              exact hE b S3 h3 (by rw [← hs]; show _ = if 0 < S3.1 19 (nn (S2.1 16 (nn z) 0)) 0 then _ else (S3, b); rw [if_neg (i32_nlt c_61)]) M
            · refine j_aload_n E dX8_hour_64 rfl ?_
              refine j_iload_n E dX8_hour_65 rfl ?_
              refine j_callV E (c_shoots l D S3 ad ar h3 M I3.cnt (S2.1 16 (nn z) 0) (B + 60 * nn z + nn y) I3 ⟨ro.1, h4⟩) (cw_X8_180 E ⟨Nat.le_of_ble_eq_true rfl, Nat.le_of_ble_eq_true rfl, Nat.le_of_ble_eq_true rfl, Nat.le_of_ble_eq_true rfl, Nat.le_of_ble_eq_true rfl⟩) (q_1028 E.tb) (q_23 E.tb) M.o rfl rfl dX8_hour_66 rfl (fun v66 h66 p66 => ?_)
              obtain ⟨rfl, M⟩ := p66
              rcases hok : sOK S3 (nn (S2.1 16 (nn z) 0)) with _ | _
              · rw [show shV S3 (nn (S2.1 16 (nn z) 0)) = -1 from if_neg (bt2 hok)]
                rw [show shS S3 (nn (S2.1 16 (nn z) 0)) = S3 from if_neg (bt2 hok)] at M
                refine j_istore E dX8_hour_69 (by decide) ?_
                refine j_iload_n E dX8_hour_71 rfl ?_
                refine j_iload E dX8_hour_72 rfl ?_
                refine j_iconst (v := (-1)) E dX8_hour_74 ci_m1 ?_
                refine j_icmp_ne (tgt := 82) E dX8_hour_75 (by decide) (fun q => (q rfl).elim) (fun _ => ?_)
                refine j_iconst (v := 0) E dX8_hour_78 ci_0 ?_
                refine j_goto (tgt := 84) E dX8_hour_79 (by decide) ?_
                refine j_iadd E dX8_hour_84 ?_
                refine j_istore_n E dX8_hour_85 (by decide) ?_
                refine j_iload E dX8_hour_86 rfl ?_
                refine j_iconst (v := (-1)) E dX8_hour_88 ci_m1 ?_
                refine j_icmp_ne (tgt := 96) E dX8_hour_89 (by decide) (fun q => (q rfl).elim) (fun _ => ?_)
                refine j_iconst (v := 0) E dX8_hour_92 ci_0 ?_
                refine j_goto (tgt := 98) E dX8_hour_93 (by decide) ?_
                refine j_istore E dX8_hour_98 (by decide) ?_
                refine j_iincK (k := 1) E ci_1 dX8_hour_100 rfl (by decide) ?_
                refine j_goto (tgt := 48) E dX8_hour_103 (by decide) ?_
                refine j_iload E dX8_hour_48 rfl ?_
                refine j_iload E dX8_hour_50 rfl ?_
                refine j_icmp_ge (tgt := 106) E dX8_hour_52 (by decide) (fun _ => ?_) (fun q => (q (ge_of (nn_s hy hy60 (by decide)).1 e_0 (by rw [nn_0]; exact Nat.zero_le _) (nn_lt _))).elim)
                refine J.sub (lo' := [(1, .int b), (2, .int z), (0, .ref (ad 0))]) ⟨congrArg (fun q => some (Value.int q)) (Int32.add_zero b), rfl, rfl, trivial⟩ ?_
                exact hE b S3 _ (by rw [← hs]; show _ = if 0 < S3.1 19 (nn (S2.1 16 (nn z) 0)) 0 then (if sOK S3 (nn (S2.1 16 (nn z) 0)) = true then _ else (S3, b)) else (S3, b); rw [if_pos (i32_ltof c_61), if_neg (bt2 hok)]) M
              · rw [show shV S3 (nn (S2.1 16 (nn z) 0)) = sGets S3 (nn (S2.1 16 (nn z) 0)) from if_pos hok]
                rw [show shS S3 (nn (S2.1 16 (nn z) 0)) = shoot S3 (nn (S2.1 16 (nn z) 0)) from if_pos hok] at M
                have hg : ¬ sGets S3 (nn (S2.1 16 (nn z) 0)) = -1 := fun q => by have h1 := (gets_rg I3 h4).1; rw [q] at h1; exact absurd h1 (by decide)
                refine j_istore E dX8_hour_69 (by decide) ?_
                refine j_iload_n E dX8_hour_71 rfl ?_
                refine j_iload E dX8_hour_72 rfl ?_
                refine j_iconst (v := (-1)) E dX8_hour_74 ci_m1 ?_
                refine j_icmp_ne (tgt := 82) E dX8_hour_75 (by decide) (fun _ => ?_) (fun q => (hg q).elim)
                refine j_iload E dX8_hour_82 rfl ?_
                refine j_iadd E dX8_hour_84 ?_
                refine j_istore_n E dX8_hour_85 (by decide) ?_
                refine j_iload E dX8_hour_86 rfl ?_
                refine j_iconst (v := (-1)) E dX8_hour_88 ci_m1 ?_
                refine j_icmp_ne (tgt := 96) E dX8_hour_89 (by decide) (fun _ => ?_) (fun q => (hg q).elim)
                refine j_iload E dX8_hour_96 rfl ?_
                refine j_istore E dX8_hour_98 (by decide) ?_
                refine j_iincK (k := 1) E ci_1 dX8_hour_100 rfl (by decide) ?_
                refine j_goto (tgt := 48) E dX8_hour_103 (by decide) ?_
                obtain ⟨a1, a2⟩ := nn_s hy hy60 (by decide)
                refine J.sub (lo' := [(1, .int (b + sGets S3 (nn (S2.1 16 (nn z) 0)))), (2, .int z), (3, .int (S2.1 16 (nn z) 0)), (4, .int (3600 / S2.1 10 (nn (S2.1 15 (nn z) 0)) 0)), (5, .int (y + 1)), (0, .ref (ad 0))]) ⟨rfl, rfl, rfl, rfl, rfl, rfl, trivial⟩ ?_
                exact ih2 (y + 1) (b + sGets S3 (nn (S2.1 16 (nn z) 0))) (shoot S3 (nn (S2.1 16 (nn z) 0))) _ a1 (by omega) (by rw [← hs]; show _ = if 0 < S3.1 19 (nn (S2.1 16 (nn z) 0)) 0 then (if sOK S3 (nn (S2.1 16 (nn z) 0)) = true then _ else (S3, b)) else (S3, b); rw [if_pos (i32_ltof c_61), if_pos hok]) (by rw [a2]; exact shoot_inv (B := B + 60 * nn z + nn y) I3 h4 (sOK_many hok) (by omega)) (by rw [shoot_0 (by decide) (by decide)]; exact h4) M
        refine J.sub (lo' := [(1, .int a), (2, .int z), (3, .int (S2.1 16 (nn z) 0)), (4, .int (3600 / S2.1 10 (nn (S2.1 15 (nn z) 0)) 0)), (5, .int 0), (0, .ref (ad 0))]) ⟨rfl, rfl, rfl, rfl, rfl, rfl, trivial⟩ ?_
        exact K2 (nn (3600 / S2.1 10 (nn (S2.1 15 (nn z) 0)) 0)) 0 a S2 h2 e_0 (by rw [nn_0]; omega) (by show _ = mcS (mcN S (nn z)).1 (mcN S (nn z)).2 (nn z); rw [← hS]; unfold mcS; rw [if_neg c_21]) (by rw [nn_0]; exact I2) (by have q := mcN_0 (S := S) (i := 4) (by decide) (by decide) (nn z); rw [← hS] at q; rw [show S2.1 0 4 0 = S.1 0 4 0 from q]; exact ro.2) M
      · refine j_iconst (v := 0) E dX8_hour_24 ci_0 ?_
        refine j_goto (tgt := 43) E dX8_hour_25 (by decide) ?_
        refine j_istore E dX8_hour_43 (by decide) ?_
        refine j_iconst (v := 0) E dX8_hour_45 ci_0 ?_
        refine j_istore E dX8_hour_46 (by decide) ?_
        refine j_iload E dX8_hour_48 rfl ?_
        refine j_iload E dX8_hour_50 rfl ?_
        refine j_icmp_ge (tgt := 106) E dX8_hour_52 (by decide) (fun _ => ?_) (fun q => (q le0_0).elim)
        refine J.sub (lo' := [(1, .int a), (2, .int z), (0, .ref (ad 0))]) ⟨rfl, rfl, rfl, trivial⟩ ?_
        exact hE a S2 h2 (by show _ = mcS (mcN S (nn z)).1 (mcN S (nn z)).2 (nn z); rw [← hS]; unfold mcS; rw [if_pos c_21]) M
  refine J.sub (lo' := [(1, .int 0), (2, .int 0), (0, .ref (ad 0))]) ⟨rfl, rfl, rfl, trivial⟩ ?_
  exact K (nn (S.1 0 3 0)) 0 0 S h e_0 (by rw [nn_0]; omega) rfl M
