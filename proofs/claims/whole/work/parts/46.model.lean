/-! the model: a shot -/
def shV (S : St) (o : Nat) : Int32 := if sOK S o = true then sGets S o else -1
def shS (S : St) (o : Nat) : St := if sOK S o = true then shoot S o else S
theorem sOK_f1 {S : St} {o : Nat} (h : sMany S o = 0) : sOK S o = false := by unfold sOK; rw [decide_eq_true h]; rfl
theorem sOK_f2 {S : St} {o : Nat} (h : dryOf S (S.1 18 o 0) < sGrams S o - sBack S o) : sOK S o = false := by unfold sOK; rw [decide_eq_true h]; exact Bool.and_false _
theorem sOK_t {S : St} {o : Nat} (h : ¬ sMany S o = 0) (h2 : ¬ dryOf S (S.1 18 o 0) < sGrams S o - sBack S o) : sOK S o = true := by unfold sOK; rw [decide_eq_false h, decide_eq_false h2]; rfl
theorem sOK_many {S : St} {o : Nat} (h : sOK S o = true) : ¬ sMany S o = 0 := fun q => by rw [sOK_f1 q] at h; exact absurd h (by decide)
theorem bt2 {b : Bool} (h : b = false) : ¬ b = true := by rw [h]; decide
set_option maxHeartbeats 4000000 in
set_option maxRecDepth 100000 in
theorem c_shoots (l : Launch) (D : va_G) (S : St) (ad : Nat → Nat) (ar : Nat → Nat → Nat) (h : AH) (M : Mdl S ad ar h) (C : Cnt S) (o : Int32) (B : Nat) (I : Inv S B) (ho : o = nI (nn o) ∧ nn o < nn (S.1 0 4 0)) : Ctr l D yX8_shoots cX8_shoots 8 (some .int) 3 67 0 0 [.ref (ad 0), .int o] h (fun _ => False) (fun r9 h' => r9 = some (.int (shV S (nn o))) ∧ Mdl (shS S (nn o)) ad ar h') := by
  refine Ctr.of RX8 rfl (by decide) (Nat.le_of_ble_eq_true rfl) ?_
  intro sz p e s m below meth c E hin hr ht
  have ho8 : nn o < 8 := Nat.lt_of_lt_of_le ho.2 C.2.2.2.2.2.2
  obtain ⟨h17, h18, h19, h20⟩ := I.ord.1 _ ho.2
  have hm5 := Nat.lt_of_lt_of_le h17.2 C.2.2.1.2.2
  have hr4 := Nat.lt_of_lt_of_le h18.2 C.1.2.2
  have hc := (I.mou _ h17.2).1
  refine j_aload_n E dX8_shoots_0 rfl ?_
  refine gf_X8_62 E M.o rfl dX8_shoots_1 ?_
  refine j_iload_n E dX8_shoots_4 rfl ?_
  refine j_iald E M.a17 (vin_of ho.1 ho8 (Nat.le_refl 8) (by decide)) dX8_shoots_5 ?_
  refine j_istore_n E dX8_shoots_6 (by decide) ?_
  refine j_aload_n E dX8_shoots_7 rfl ?_
  refine gf_X8_65 E M.o rfl dX8_shoots_8 ?_
  refine j_iload_n E dX8_shoots_11 rfl ?_
  refine j_iald E M.a18 (vin_of ho.1 ho8 (Nat.le_refl 8) (by decide)) dX8_shoots_12 ?_
  refine j_istore_n E dX8_shoots_13 (by decide) ?_
  refine j_aload_n E dX8_shoots_14 rfl ?_
  refine j_iload_n E dX8_shoots_15 rfl ?_
  refine j_callV E (c_open l D S ad ar h M (S.1 17 (nn o) 0) ⟨h17.1, hm5⟩ hc) (cw_X8_143 E ⟨Nat.le_of_ble_eq_true rfl, Nat.le_of_ble_eq_true rfl, Nat.le_of_ble_eq_true rfl, Nat.le_of_ble_eq_true rfl, Nat.le_of_ble_eq_true rfl⟩) (q_951 E.tb) (q_17 E.tb) M.o rfl rfl dX8_shoots_16 rfl (fun v16 h16 p16 => ?_)
  obtain ⟨rfl, rfl⟩ := p16
  refine j_istore E dX8_shoots_19 (by decide) ?_
  refine j_iload E dX8_shoots_21 rfl ?_
  refine j_aload_n E dX8_shoots_23 rfl ?_
  refine gf_X8_28 E M.o rfl dX8_shoots_24 ?_
  refine j_iload_n E dX8_shoots_27 rfl ?_
  refine j_iald E M.a7 (vin_of h17.1 hm5 (Nat.le_refl 5) (by decide)) dX8_shoots_28 ?_
  refine j_imul E dX8_shoots_29 ?_
  refine j_aload_n E dX8_shoots_30 rfl ?_
  refine gf_X8_31 E M.o rfl dX8_shoots_31 ?_
  refine j_iload_n E dX8_shoots_34 rfl ?_
  refine j_iald E M.a8 (vin_of h17.1 hm5 (Nat.le_refl 5) (by decide)) dX8_shoots_35 ?_
  refine j_iadd E dX8_shoots_36 ?_
  refine j_istore E dX8_shoots_37 (by decide) ?_
  refine j_aload_n E dX8_shoots_39 rfl ?_
  refine gf_X8_13 E M.o rfl dX8_shoots_40 ?_
  refine j_iload_n E dX8_shoots_43 rfl ?_
  refine j_iald E M.a2 (vin_of h18.1 hr4 (Nat.le_refl 4) (by decide)) dX8_shoots_44 ?_
  refine j_iload E dX8_shoots_45 rfl ?_
  refine j_aload_n E dX8_shoots_47 rfl ?_
  refine gf_X8_71 E M.o rfl dX8_shoots_48 ?_
  refine j_iload_n E dX8_shoots_51 rfl ?_
  refine j_iald E M.a20 (vin_of ho.1 ho8 (Nat.le_refl 8) (by decide)) dX8_shoots_52 ?_
  refine j_imul E dX8_shoots_53 ?_
  refine j_bipush (v := 100) E dX8_shoots_54 cb_100 ?_
  refine j_idiv E dX8_shoots_56 (by decide) ?_
  refine j_mmin E (q_1030 E.tb) (q_672 E.tb) (q_39 E.tb) (q_673 E.tb) ⟨Nat.le_of_ble_eq_true rfl, Nat.le_of_ble_eq_true rfl, Nat.le_of_ble_eq_true rfl, Nat.le_of_ble_eq_true rfl⟩ dX8_shoots_57 ?_
  refine j_istore E dX8_shoots_60 (by decide) ?_
  refine J.sub (lo' := [(0, .ref (ad 0)), (1, .int o), (2, .int (S.1 17 (nn o) 0)), (3, .int (S.1 18 (nn o) 0)), (4, .int (sMany S (nn o))), (5, .int (sGrams S (nn o))), (6, .int (sBack S (nn o)))]) ⟨rfl, rfl, rfl, rfl, rfl, rfl, rfl, trivial⟩ ?_
  refine j_iload E dX8_shoots_62 rfl ?_
  refine j_if_eq (tgt := 80) E dX8_shoots_64 (by decide) (fun c_64 => ?_) (fun c_64 => ?_)
  · refine j_iconst (v := (-1)) E dX8_shoots_80 ci_m1 ?_
    exact j_iret E hr dX8_shoots_81 ⟨Nat.le_of_ble_eq_true rfl, Nat.le_of_ble_eq_true rfl⟩ (by show _ ∧ _; rw [show shV S (nn o) = -1 from if_neg (bt2 (sOK_f1 c_64)), show shS S (nn o) = S from if_neg (bt2 (sOK_f1 c_64))]; exact ⟨rfl, M⟩)
  · refine j_aload_n E dX8_shoots_67 rfl ?_
    refine j_iload_n E dX8_shoots_68 rfl ?_
    refine j_callV E (c_dryOf l D S ad ar h M C (S.1 18 (nn o) 0) I.lot.lr) (cw_X8_132 E ⟨Nat.le_of_ble_eq_true rfl, Nat.le_of_ble_eq_true rfl, Nat.le_of_ble_eq_true rfl, Nat.le_of_ble_eq_true rfl, Nat.le_of_ble_eq_true rfl⟩) (q_919 E.tb) (q_13 E.tb) M.o rfl rfl dX8_shoots_69 rfl (fun v69 h69 p69 => ?_)
    obtain ⟨rfl, rfl⟩ := p69
    refine j_iload E dX8_shoots_72 rfl ?_
    refine j_iload E dX8_shoots_74 rfl ?_
    refine j_isub E dX8_shoots_76 ?_
    refine j_icmp_ge (tgt := 82) E dX8_shoots_77 (by decide) (fun c_77 => ?_) (fun c_77 => ?_)
    · have hok := sOK_t (S := S) (o := nn o) c_64 (i32_nlt c_77)
      have hG : ¬ sGrams S (nn o) = 0 := fun q => by have := grams_pos I ho.2 c_64; rw [q, nn_0] at this; omega
      refine j_aload_n E dX8_shoots_82 rfl ?_
      refine gf_X8_13 E M.o rfl dX8_shoots_83 ?_
      refine j_iload_n E dX8_shoots_86 rfl ?_
      refine j_dup2 E dX8_shoots_87 rfl rfl ?_
      refine j_iald E M.a2 (vin_of h18.1 hr4 (Nat.le_refl 4) (by decide)) dX8_shoots_88 ?_
      refine j_iload E dX8_shoots_89 rfl ?_
      refine j_isub E dX8_shoots_91 ?_
      refine s_iast E M.a2 (vin_of h18.1 hr4 (Nat.le_refl 4) (by decide)) dX8_shoots_92 (fun h92 n92 u92 => ?_)
      have M := M.st2 n92 u92
      have M : Mdl (sS1 S (nn o)) ad ar h92 := M
      refine j_aload_n E dX8_shoots_93 rfl ?_
      refine j_iload_n E dX8_shoots_94 rfl ?_
      refine j_iload E dX8_shoots_95 rfl ?_
      refine j_iload E dX8_shoots_97 rfl ?_
      refine j_isub E dX8_shoots_99 ?_
      refine j_callV E (c_takes l D (sS1 S (nn o)) ad ar _ M (C.of fun i hi => s1_c (by decide)) (S.1 18 (nn o) 0) (sGrams S (nn o) - sBack S (nn o)) (I.lot.lr.of2 rfl rfl (fun k => rfl))) (cw_X8_164 E ⟨Nat.le_of_ble_eq_true rfl, Nat.le_of_ble_eq_true rfl, Nat.le_of_ble_eq_true rfl, Nat.le_of_ble_eq_true rfl, Nat.le_of_ble_eq_true rfl⟩) (q_1033 E.tb) (q_24 E.tb) M.o rfl rfl dX8_shoots_100 rfl (fun v100 h100 p100 => ?_)
      obtain ⟨rfl, M⟩ := p100
      have M : Mdl (sS2 S (nn o)) ad ar h100 := M
      refine j_iconst (v := 0) E dX8_shoots_103 ci_0 ?_
      refine j_istore E dX8_shoots_104 (by decide) ?_
      have K : ∀ (n : Nat) (y : Int32) (S2 : St) (h2 : AH), y = nI (nn y) → nn y + n = nn (S.1 6 (sMo S (nn o)) 0) → S2 = mkN (sS2 S (nn o)) (sMo S (nn o)) (nn y) → Mdl S2 ad ar h2 → J p l e { frames := 3, cells := 0, slots := 0, locals := 67 } s m [.ref (ad 0), .int o].toArray below meth c D (Afr h sz) 8 (vx_MQ below (Qcs D h sz (fun r9 h' => r9 = some (.int (shV S (nn o))) ∧ Mdl (shS S (nn o)) ad ar h')) (Xcs D h sz (fun _ => False)) [.ref (ad 0), .int o].toArray s 0 0 (Afr h sz)) 0 0 h2 106 [(7, .int y), (0, .ref (ad 0)), (1, .int o), (2, .int (S.1 17 (nn o) 0)), (3, .int (S.1 18 (nn o) 0)), (4, .int (sMany S (nn o))), (5, .int (sGrams S (nn o))), (6, .int (sBack S (nn o)))] [] := by
        intro n
        induction n with
        | zero =>
          intro y S2 h2 hy hn hS M
          have hc8 : nn (S.1 6 (sMo S (nn o)) 0) ≤ 8 := hc.2.2
          have h6 : S2.1 6 (sMo S (nn o)) 0 = S.1 6 (sMo S (nn o)) 0 := by rw [hS]; exact (mkN_c (by decide) (by decide) _).trans (sS2_c (by decide) (by decide))
          refine j_iload E dX8_shoots_106 rfl ?_
          refine j_aload_n E dX8_shoots_108 rfl ?_
          refine gf_X8_25 E M.o rfl dX8_shoots_109 ?_
          refine j_iload_n E dX8_shoots_112 rfl ?_
          refine j_iald E M.a6 (vin_of h17.1 hm5 (Nat.le_refl 5) (by decide)) dX8_shoots_113 ?_
          refine j_icmp_ge (tgt := 155) E dX8_shoots_114 (by decide) (fun _ => ?_) (fun q => (q (by show S2.1 6 (sMo S (nn o)) 0 ≤ y; rw [h6]; exact ge_of hy hc.1 (by omega) (nn_lt y))).elim)
          have M : Mdl (sS3 S (nn o)) ad ar h2 := by rw [show sS3 S (nn o) = S2 by rw [hS]; show mkN (sS2 S (nn o)) (sMo S (nn o)) (nn ((sS2 S (nn o)).1 6 (sMo S (nn o)) 0)) = _; rw [show (sS2 S (nn o)).1 6 (sMo S (nn o)) 0 = S.1 6 (sMo S (nn o)) 0 from sS2_c (by decide) (by decide), show nn y = nn (S.1 6 (sMo S (nn o)) 0) from hn]]; exact M
          clear hS
          refine j_iload E dX8_shoots_155 rfl ?_
          refine j_aload_n E dX8_shoots_157 rfl ?_
          refine gf_X8_68 E M.o rfl dX8_shoots_158 ?_
          refine j_iload_n E dX8_shoots_161 rfl ?_
          refine j_iald E M.a19 (vin_of ho.1 ho8 (Nat.le_refl 8) (by decide)) dX8_shoots_162 ?_
          refine j_mmin E (q_1030 E.tb) (q_672 E.tb) (q_39 E.tb) (q_673 E.tb) ⟨Nat.le_of_ble_eq_true rfl, Nat.le_of_ble_eq_true rfl, Nat.le_of_ble_eq_true rfl, Nat.le_of_ble_eq_true rfl⟩ dX8_shoots_163 ?_
          refine j_istore E dX8_shoots_166 (by decide) ?_
          refine j_aload_n E dX8_shoots_168 rfl ?_
          refine gf_X8_68 E M.o rfl dX8_shoots_169 ?_
          refine j_iload_n E dX8_shoots_172 rfl ?_
          refine j_dup2 E dX8_shoots_173 rfl rfl ?_
          refine j_iald E M.a19 (vin_of ho.1 ho8 (Nat.le_refl 8) (by decide)) dX8_shoots_174 ?_
          refine j_iload E dX8_shoots_175 rfl ?_
          refine j_isub E dX8_shoots_177 ?_
          refine s_iast E M.a19 (vin_of ho.1 ho8 (Nat.le_refl 8) (by decide)) dX8_shoots_178 (fun h178 n178 u178 => ?_)
          have M := M.st19 n178 u178
          have M : Mdl (sS4 S (nn o)) ad ar h178 := M
          refine j_aload_n E dX8_shoots_179 rfl ?_
          refine gf_X8_13 E M.o rfl dX8_shoots_180 ?_
          refine j_iload_n E dX8_shoots_183 rfl ?_
          refine j_dup2 E dX8_shoots_184 rfl rfl ?_
          refine j_iald E M.a2 (vin_of h18.1 hr4 (Nat.le_refl 4) (by decide)) dX8_shoots_185 ?_
          refine j_aload_n E dX8_shoots_186 rfl ?_
          refine gf_X8_31 E M.o rfl dX8_shoots_187 ?_
          refine j_iload_n E dX8_shoots_190 rfl ?_
          refine j_iald E M.a8 (vin_of h17.1 hm5 (Nat.le_refl 5) (by decide)) dX8_shoots_191 ?_
          refine j_iload E dX8_shoots_192 rfl ?_
          refine j_iload E dX8_shoots_194 rfl ?_
          refine j_isub E dX8_shoots_196 ?_
          refine j_aload_n E dX8_shoots_197 rfl ?_
          refine gf_X8_28 E M.o rfl dX8_shoots_198 ?_
          refine j_iload_n E dX8_shoots_201 rfl ?_
          refine j_iald E M.a7 (vin_of h17.1 hm5 (Nat.le_refl 5) (by decide)) dX8_shoots_202 ?_
          refine j_imul E dX8_shoots_203 ?_
          refine j_iadd E dX8_shoots_204 ?_
          refine j_iadd E dX8_shoots_205 ?_
          refine s_iast E M.a2 (vin_of h18.1 hr4 (Nat.le_refl 4) (by decide)) dX8_shoots_206 (fun h206 n206 u206 => ?_)
          have M := M.st2 n206 u206
          have M : Mdl (sS5 S (nn o)) ad ar h206 := M
          refine j_aload_n E dX8_shoots_207 rfl ?_
          refine gf_X8_74 E M.o rfl dX8_shoots_208 ?_
          refine j_iload_n E dX8_shoots_211 rfl ?_
          refine j_dup2 E dX8_shoots_212 rfl rfl ?_
          refine j_iald E M.a21 (vin_of ho.1 ho8 (Nat.le_refl 8) (by decide)) dX8_shoots_213 ?_
          refine j_iconst (v := 1) E dX8_shoots_214 ci_1 ?_
          refine j_iadd E dX8_shoots_215 ?_
          refine s_iast E M.a21 (vin_of ho.1 ho8 (Nat.le_refl 8) (by decide)) dX8_shoots_216 (fun h216 n216 u216 => ?_)
          have M := M.st21 n216 u216
          have M : Mdl (sS6 S (nn o)) ad ar h216 := M
          refine j_aload_n E dX8_shoots_217 rfl ?_
          refine gf_X8_77 E M.o rfl dX8_shoots_218 ?_
          refine j_iload_n E dX8_shoots_221 rfl ?_
          refine j_dup2 E dX8_shoots_222 rfl rfl ?_
          refine j_lald E M.a23 (vin_of ho.1 ho8 (Nat.le_refl 8) (by decide)) dX8_shoots_223 ?_
          refine j_iload E dX8_shoots_224 rfl ?_
          refine j_i2l E dX8_shoots_226 ?_
          refine j_ladd E dX8_shoots_227 ?_
          refine s_last E M.a23 (vin_of ho.1 ho8 (Nat.le_refl 8) (by decide)) dX8_shoots_228 (fun h228 n228 u228 => ?_)
          have M := M.st23 n228 u228
          have M : Mdl (sS7 S (nn o)) ad ar h228 := M
          refine j_aload_n E dX8_shoots_229 rfl ?_
          refine gf_X8_81 E M.o rfl dX8_shoots_230 ?_
          refine j_iload_n E dX8_shoots_233 rfl ?_
          refine j_aload_n E dX8_shoots_234 rfl ?_
          refine gf_X8_81 E M.o rfl dX8_shoots_235 ?_
          refine j_iload_n E dX8_shoots_238 rfl ?_
          refine j_iald E M.a22 (vin_of ho.1 ho8 (Nat.le_refl 8) (by decide)) dX8_shoots_239 ?_
          refine j_bipush (v := 100) E dX8_shoots_240 cb_100 ?_
          refine j_iload E dX8_shoots_242 rfl ?_
          refine j_imul E dX8_shoots_244 ?_
          refine j_iload E dX8_shoots_245 rfl ?_
          refine j_idiv E dX8_shoots_247 hG ?_
          refine j_mmax E (q_912 E.tb) (q_352 E.tb) (q_39 E.tb) (q_353 E.tb) ⟨Nat.le_of_ble_eq_true rfl, Nat.le_of_ble_eq_true rfl, Nat.le_of_ble_eq_true rfl, Nat.le_of_ble_eq_true rfl⟩ dX8_shoots_248 ?_
          refine s_iast E M.a22 (vin_of ho.1 ho8 (Nat.le_refl 8) (by decide)) dX8_shoots_251 (fun h251 n251 u251 => ?_)
          have M := M.st22 n251 u251
          have M : Mdl (sS8 S (nn o)) ad ar h251 := M
          refine j_aload_n E dX8_shoots_252 rfl ?_
          refine j_dup E dX8_shoots_253 rfl ?_
          refine gf_X8_167 E M.o rfl dX8_shoots_254 ?_
          refine j_iconst (v := 1) E dX8_shoots_257 ci_1 ?_
          refine j_iadd E dX8_shoots_258 ?_
          refine pf_X8_167 E M.o (Nat.le_of_ble_eq_true rfl) dX8_shoots_259 (fun h259 hMd u259 => ?_)
          have M := M.sc6 hMd u259
          have M : Mdl (sS9 S (nn o)) ad ar h259 := M
          refine j_aload_n E dX8_shoots_262 rfl ?_
          refine j_dup E dX8_shoots_263 rfl ?_
          refine gf_X8_170 E M.o rfl dX8_shoots_264 ?_
          refine j_iload E dX8_shoots_267 rfl ?_
          refine j_iadd E dX8_shoots_269 ?_
          refine pf_X8_170 E M.o (Nat.le_of_ble_eq_true rfl) dX8_shoots_270 (fun h270 hMd u270 => ?_)
          have M := M.sc7 hMd u270
          have M : Mdl (sS10 S (nn o)) ad ar h270 := M
          refine j_aload_n E dX8_shoots_273 rfl ?_
          refine j_dup E dX8_shoots_274 rfl ?_
          refine gf_X8_173 E M.o rfl dX8_shoots_275 ?_
          refine j_iload E dX8_shoots_278 rfl ?_
          refine j_i2l E dX8_shoots_280 ?_
          refine j_ladd E dX8_shoots_281 ?_
          refine pf_X8_173 E M.o (Nat.le_of_ble_eq_true rfl) dX8_shoots_282 (fun h282 hMd u282 => ?_)
          have M := M.sl0 hMd u282
          have M : Mdl (sS11 S (nn o)) ad ar h282 := M
          refine j_aload_n E dX8_shoots_285 rfl ?_
          refine j_dup E dX8_shoots_286 rfl ?_
          refine gf_X8_177 E M.o rfl dX8_shoots_287 ?_
          refine j_iload E dX8_shoots_290 rfl ?_
          refine j_i2l E dX8_shoots_292 ?_
          refine j_ladd E dX8_shoots_293 ?_
          refine pf_X8_177 E M.o (Nat.le_of_ble_eq_true rfl) dX8_shoots_294 (fun h294 hMd u294 => ?_)
          have M := M.sl1 hMd u294
          have M : Mdl (shoot S (nn o)) ad ar h294 := M
          refine j_iload E dX8_shoots_297 rfl ?_
          exact j_iret E hr dX8_shoots_299 ⟨Nat.le_of_ble_eq_true rfl, Nat.le_of_ble_eq_true rfl⟩ (by show _ ∧ _; rw [show shV S (nn o) = sGets S (nn o) from if_pos hok, show shS S (nn o) = shoot S (nn o) from if_pos hok]; exact ⟨rfl, M⟩)
        | succ n ih =>
          intro y S2 h2 hy hn hS M
          have hc8 : nn (S.1 6 (sMo S (nn o)) 0) ≤ 8 := hc.2.2
          have h6 : S2.1 6 (sMo S (nn o)) 0 = S.1 6 (sMo S (nn o)) 0 := by rw [hS]; exact (mkN_c (by decide) (by decide) _).trans (sS2_c (by decide) (by decide))
          have hlt : nn y < nn (S.1 6 (sMo S (nn o)) 0) := by omega
          refine j_iload E dX8_shoots_106 rfl ?_
          refine j_aload_n E dX8_shoots_108 rfl ?_
          refine gf_X8_25 E M.o rfl dX8_shoots_109 ?_
          refine j_iload_n E dX8_shoots_112 rfl ?_
          refine j_iald E M.a6 (vin_of h17.1 hm5 (Nat.le_refl 5) (by decide)) dX8_shoots_113 ?_
          refine j_icmp_ge (tgt := 155) E dX8_shoots_114 (by decide) (fun q => (nge_of hy hc.1 hlt (nn_lt _) (by have q2 : S2.1 6 (sMo S (nn o)) 0 ≤ y := q; rw [h6] at q2; exact q2)).elim) (fun _ => ?_)
          refine j_aload_n E dX8_shoots_117 rfl ?_
          refine gf_X8_42 E M.o rfl dX8_shoots_118 ?_
          refine j_iload_n E dX8_shoots_121 rfl ?_
          refine j_aald E M.a11 rfl (vin_of h17.1 hm5 (Nat.le_refl 5) (by decide)) dX8_shoots_122 ?_
          refine J.stk (row_e hm5) ?_
          refine j_iload E dX8_shoots_123 rfl ?_
          refine j_zald E (M.r0 hm5) (vin_of hy hlt hc.2.2 (by decide)) dX8_shoots_125 ?_
          refine j_if_ne (tgt := 149) E dX8_shoots_126 (by decide) (fun c_126 => ?_) (fun c_126 => ?_)
          · refine j_iincK (k := 1) E ci_1 dX8_shoots_149 rfl (by decide) ?_
            refine j_goto (tgt := 106) E dX8_shoots_152 (by decide) ?_
            obtain ⟨a1, a2⟩ := nn_s hy hlt (by omega)
            refine J.sub (lo' := [(7, .int (y + 1)), (0, .ref (ad 0)), (1, .int o), (2, .int (S.1 17 (nn o) 0)), (3, .int (S.1 18 (nn o) 0)), (4, .int (sMany S (nn o))), (5, .int (sGrams S (nn o))), (6, .int (sBack S (nn o)))]) ⟨rfl, rfl, rfl, rfl, rfl, rfl, rfl, rfl, trivial⟩ ?_
            exact ih (y + 1) _ _ a1 (by omega) (by rw [a2, hS]; rfl) (show Mdl (mkS S2 (sMo S (nn o)) (nn y)) ad ar h2 by unfold mkS; rw [if_neg (show ¬ S2.1 11 (sMo S (nn o)) (nn y) = 0 from c_126)]; exact M)
          · refine j_aload_n E dX8_shoots_129 rfl ?_
            refine gf_X8_50 E M.o rfl dX8_shoots_130 ?_
            refine j_iload_n E dX8_shoots_133 rfl ?_
            refine j_aald E M.a13 rfl (vin_of h17.1 hm5 (Nat.le_refl 5) (by decide)) dX8_shoots_134 ?_
            refine J.stk (row_e hm5) ?_
            refine j_iload E dX8_shoots_135 rfl ?_
            refine j_dup2 E dX8_shoots_137 rfl rfl ?_
            refine j_iald E (M.r2 hm5) (vin_of hy hlt hc.2.2 (by decide)) dX8_shoots_138 ?_
            refine j_iconst (v := 1) E dX8_shoots_139 ci_1 ?_
            refine j_iadd E dX8_shoots_140 ?_
            refine s_iast E (M.r2 hm5) (vin_of hy hlt hc.2.2 (by decide)) dX8_shoots_141 (fun h141 n141 u141 => ?_)
            have M := M.sr2 hm5 n141 u141
            refine j_aload_n E dX8_shoots_142 rfl ?_
            refine j_iload_n E dX8_shoots_143 rfl ?_
            refine j_iload E dX8_shoots_144 rfl ?_
            refine j_callV E (c_fails l D _ ad ar _ M (S.1 17 (nn o) 0) y ⟨h17.1, hm5⟩ ⟨hy, by omega⟩) (cw_X8_139 E ⟨Nat.le_of_ble_eq_true rfl, Nat.le_of_ble_eq_true rfl, Nat.le_of_ble_eq_true rfl, Nat.le_of_ble_eq_true rfl, Nat.le_of_ble_eq_true rfl⟩) (q_943 E.tb) (q_16 E.tb) M.o rfl rfl dX8_shoots_146 rfl (fun v146 h146 p146 => ?_)
            obtain ⟨rfl, M⟩ := p146
            refine j_iincK (k := 1) E ci_1 dX8_shoots_149 rfl (by decide) ?_
            refine j_goto (tgt := 106) E dX8_shoots_152 (by decide) ?_
            obtain ⟨a1, a2⟩ := nn_s hy hlt (by omega)
            refine J.sub (lo' := [(7, .int (y + 1)), (0, .ref (ad 0)), (1, .int o), (2, .int (S.1 17 (nn o) 0)), (3, .int (S.1 18 (nn o) 0)), (4, .int (sMany S (nn o))), (5, .int (sGrams S (nn o))), (6, .int (sBack S (nn o)))]) ⟨rfl, rfl, rfl, rfl, rfl, rfl, rfl, rfl, trivial⟩ ?_
            exact ih (y + 1) _ _ a1 (by omega) (by rw [a2, hS]; rfl) (show Mdl (mkS S2 (sMo S (nn o)) (nn y)) ad ar h146 by unfold mkS; rw [if_pos (show S2.1 11 (sMo S (nn o)) (nn y) = 0 from c_126)]; exact M)
      refine J.sub (lo' := [(7, .int 0), (0, .ref (ad 0)), (1, .int o), (2, .int (S.1 17 (nn o) 0)), (3, .int (S.1 18 (nn o) 0)), (4, .int (sMany S (nn o))), (5, .int (sGrams S (nn o))), (6, .int (sBack S (nn o)))]) ⟨rfl, rfl, rfl, rfl, rfl, rfl, rfl, rfl, trivial⟩ ?_
      exact K (nn (S.1 6 (sMo S (nn o)) 0)) 0 (sS2 S (nn o)) _ e0_nn (by rw [nn_0]; omega) rfl M
    · refine j_iconst (v := (-1)) E dX8_shoots_80 ci_m1 ?_
      exact j_iret E hr dX8_shoots_81 ⟨Nat.le_of_ble_eq_true rfl, Nat.le_of_ble_eq_true rfl⟩ (by show _ ∧ _; rw [show shV S (nn o) = -1 from if_neg (bt2 (sOK_f2 (i32_ltof c_77))), show shS S (nn o) = S from if_neg (bt2 (sOK_f2 (i32_ltof c_77)))]; exact ⟨rfl, M⟩)
