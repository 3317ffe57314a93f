/-! the law: its cases -/
set_option maxHeartbeats 4000000 in
set_option maxRecDepth 100000 in
theorem c_thrown2 (l : Launch) (D : va_G) (S : St) (ad : Nat → Nat) (ar : Nat → Nat → Nat) (h : AH) (M : Mdl S ad ar h) : Ctr l D yX8_thrown cX8_thrown 1 (some .int) 0 0 0 0 [.ref (ad 0)] h (fun _ => False) (fun r9 h' => r9 = some (.int (S.1 0 8 0)) ∧ Mdl S ad ar h') := by
  refine Ctr.of RX8 rfl (by decide) (Nat.le_of_ble_eq_true rfl) ?_
  intro sz p e s m below meth c E hin hr ht
  refine j_aload_n E dX8_thrown_0 rfl ?_
  refine gf_X8_84 E M.o rfl dX8_thrown_1 ?_
  exact j_iret E hr dX8_thrown_4 ⟨Nat.le_of_ble_eq_true rfl, Nat.le_of_ble_eq_true rfl⟩ ⟨rfl, M⟩
theorem LwS.inv {Sc Sm : St} {B x m o od : Nat} {g : Nat → Int64} {gD : Nat → UInt64} {h : AH} (L : LwS Sc Sm B x m o od g gD h) : Inv Sc B := by
  obtain ⟨hc0, hM, ad, ar, ⟨gl, G, ad2, z1, z2, z3, z4⟩, rest⟩ := L
  exact z4
theorem LwS.out {Sc Sm : St} {B x m o od : Nat} {g : Nat → Int64} {gD : Nat → UInt64} {h : AH} (L : LwS Sc Sm B x m o od g gD h) : h o = some (.inl (.long, (1, .inr (.inl g)))) := by
  obtain ⟨hc0, hM, ad, ar, ok, e0, M, d1, d2, s2', s3', n3⟩ := L
  exact s2'
theorem vin_add {i c : Int32} {N : Nat} (hi : i = nI (nn i)) (hc : c = nI (nn c)) (h : nn i + nn c < N) (hN : N ≤ 3072) : vp_in (i + c) N := by
  obtain ⟨a1, a2⟩ := nadd hi hc (by omega)
  exact vin_of a1 (k := N) (by rw [a2]; exact h) (Nat.le_refl _) (by omega)
theorem lcmp_eq {x y : Int64} (h : x = y) : (if y < x then (1 : Int32) else if x = y then 0 else -1) = 0 := by
  subst h
  rw [if_neg (fun q => Int64.lt_irrefl q), if_pos rfl]
section LC
variable {p : Program} {l : Launch} {e : Env} {R : Room} {s : State} {m : MethodId} {args : Array Value} {below : List Frame} {meth : Method} {c : Code} {D : va_G} {A : Nat → Prop} {Q : State → Prop} {cells slots : Nat}
theorem ph_addResin {S : St} {x : Int32} : (p_addResin S x).1.1 0 5 0 = S.1 0 5 0 := by
  unfold p_addResin
  (repeat' split) <;> first | rfl | exact lev_0 (by decide) | exact (s1_ne (fun z => absurd z.2.1 (by decide))).trans (livN_c (by decide) 8)
set_option maxHeartbeats 4000000 in
set_option maxRecDepth 100000 in
theorem lc_addResin (E : Cx p l s m args meth c cL_law 9 RL D A) {S : St} {x mo sc o od N : Nat} {f : Nat → Int32} {g : Nat → Int64} {gD : Nat → UInt64} {h : AH} (L : LwS S S (180 * nn (S.1 0 5 0)) x mo o od g gD h) (SX : Scr s A sc N f) {i : Int32} (hi : i = nI (nn i)) (hN : nn i + 6 ≤ N) (hN2 : N ≤ 3072) (hR : 15 ≤ R.frames ∧ 400 ≤ R.locals ∧ cells + 40 ≤ R.cells ∧ slots + 5200 ≤ R.slots)
    (k : ∀ (S9 : St) (g9 : Nat → Int64) (gD9 : Nat → UInt64) (h9 : AH), LwS S9 S9 (180 * nn (S9.1 0 5 0)) x mo o od g9 gD9 h9 → J p l e R s m args below meth c D A 9 Q (cells + 40) (slots + 5200) h9 1731 [(0, .ref sc), (1, .ref x), (2, .ref mo), (3, .ref o), (4, .ref od), (5, .int i)] []) : J p l e R s m args below meth c D A 9 Q cells slots h 164 [(0, .ref sc), (1, .ref x), (2, .ref mo), (3, .ref o), (4, .ref od), (5, .int i)] [] := by
  have I := L.inv
  refine j_aload_n E dL_law_164 rfl ?_
  refine j_aload_n E dL_law_165 rfl ?_
  refine j_iload E dL_law_166 rfl ?_
  refine j_iconst (v := 1) E dL_law_168 ci_1 ?_
  refine j_iadd E dL_law_169 ?_
  refine j_sld E SX (vin_add hi (c := 1) (by decide) (by show nn i + nn (1 : Int32) < N; rw [show nn (1 : Int32) = 1 from by decide]; omega) hN2) dL_law_170 ?_
  refine j_aload_n E dL_law_171 rfl ?_
  refine j_help E L (r := (p_addResin S (f (nn (i + 1))))) (fun hC0 ok hno => h_addResin l D S _ x o hC0 g ok hno (f (nn (i + 1)))) (cww_addResin E ⟨by show _ ≤ R.frames; omega, by show _ ≤ R.locals; omega, by show _ ≤ R.cells; omega, by show _ ≤ R.slots; omega, Nat.le_of_ble_eq_true rfl⟩) (q_131 E.tb) rfl dL_law_172 rfl (fun h172 g172 hz L => ?_)
  refine j_istore E dL_law_175 (by decide) ?_
  refine j_aload_n E dL_law_177 rfl ?_
  refine j_aload_n E dL_law_178 rfl ?_
  refine j_iload E dL_law_179 rfl ?_
  refine j_iconst (v := 1) E dL_law_181 ci_1 ?_
  refine j_iadd E dL_law_182 ?_
  refine j_sld E SX (vin_add hi (c := 1) (by decide) (by show nn i + nn (1 : Int32) < N; rw [show nn (1 : Int32) = 1 from by decide]; omega) hN2) dL_law_183 ?_
  refine j_mod E L (fun hM ad ar e0 M => by rw [← e0]; exact c_addResin l D S ad ar hM M I.cnt (f (nn (i + 1)))) (cw_L_110 E ⟨by show _ ≤ R.frames; omega, by show _ ≤ R.locals; omega, by show _ ≤ R.cells; omega, by show _ ≤ R.slots; omega, Nat.le_of_ble_eq_true rfl⟩) (q_873 E.tb) (q_874 E.tb) rfl rfl dL_law_184 rfl (fun h184 L => ?_)
  refine j_istore E dL_law_187 (by decide) ?_
  refine j_aload_n E dL_law_189 rfl ?_
  refine j_mod E L (fun hM ad ar e0 M => by rw [← e0]; exact c_thrown2 l D _ ad ar hM M) (cw_L_111 E ⟨by show _ ≤ R.frames; omega, by show _ ≤ R.locals; omega, by show _ ≤ R.cells; omega, by show _ ≤ R.slots; omega, Nat.le_of_ble_eq_true rfl⟩) (q_869 E.tb) (q_870 E.tb) rfl rfl dL_law_190 rfl (fun h190 L => ?_)
  refine j_iload E dL_law_193 rfl ?_
  refine j_icmp_eq (tgt := 200) E dL_law_195 (by decide) (fun _ => ?_) (fun q => (q rfl).elim)
  refine j_iload E dL_law_200 rfl ?_
  refine j_if_ne (tgt := 217) E dL_law_202 (by decide) (fun c_202 => ?_) (fun c_202 => ?_)
  · refine j_goto (tgt := 1731) E dL_law_217 (by decide) ?_
    refine J.wide (k := cells + 40) (n := slots + 5200) (by omega) (by omega) ?_
    refine J.sub (lo' := [(0, .ref sc), (1, .ref x), (2, .ref mo), (3, .ref o), (4, .ref od), (5, .int i)]) ⟨rfl, rfl, rfl, rfl, rfl, rfl, trivial⟩ ?_
    exact k (p_addResin S (f (nn (i + 1)))).1 g172 gD h190 (by rw [ph_addResin]; exact L)
  · refine j_aload_n E dL_law_205 rfl ?_
    refine j_iconst (v := 0) E dL_law_206 ci_0 ?_
    refine j_lald E L.out (vin_nI (n := 1) (k := 0) (by decide) (by decide)) dL_law_207 ?_
    refine j_iload E dL_law_208 rfl ?_
    refine j_i2l E dL_law_210 ?_
    refine j_lcmp E dL_law_211 ?_
    refine j_if_eq (tgt := 217) E dL_law_212 (by decide) (fun _ => ?_) (fun q => (q (lcmp_eq (hz c_202))).elim)
    refine j_goto (tgt := 1731) E dL_law_217 (by decide) ?_
    refine J.wide (k := cells + 40) (n := slots + 5200) (by omega) (by omega) ?_
    refine J.sub (lo' := [(0, .ref sc), (1, .ref x), (2, .ref mo), (3, .ref o), (4, .ref od), (5, .int i)]) ⟨rfl, rfl, rfl, rfl, rfl, rfl, trivial⟩ ?_
    exact k (p_addResin S (f (nn (i + 1)))).1 g172 gD h190 (by rw [ph_addResin]; exact L)
theorem ph_fill {S : St} {r : Int32} {g : Int32} : (p_fill S r g).1.1 0 5 0 = S.1 0 5 0 := by
  unfold p_fill
  (repeat' split) <;> first | rfl | exact lev_0 (by decide) | exact (s1_ne (fun z => absurd z.2.1 (by decide))).trans (livN_c (by decide) 8)
set_option maxHeartbeats 4000000 in
set_option maxRecDepth 100000 in
theorem lc_fill (E : Cx p l s m args meth c cL_law 9 RL D A) {S : St} {x mo sc o od N : Nat} {f : Nat → Int32} {g : Nat → Int64} {gD : Nat → UInt64} {h : AH} (L : LwS S S (180 * nn (S.1 0 5 0)) x mo o od g gD h) (SX : Scr s A sc N f) {i : Int32} (hi : i = nI (nn i)) (hN : nn i + 6 ≤ N) (hN2 : N ≤ 3072) (hR : 15 ≤ R.frames ∧ 400 ≤ R.locals ∧ cells + 40 ≤ R.cells ∧ slots + 5200 ≤ R.slots)
    (k : ∀ (S9 : St) (g9 : Nat → Int64) (gD9 : Nat → UInt64) (h9 : AH), LwS S9 S9 (180 * nn (S9.1 0 5 0)) x mo o od g9 gD9 h9 → J p l e R s m args below meth c D A 9 Q (cells + 40) (slots + 5200) h9 1731 [(0, .ref sc), (1, .ref x), (2, .ref mo), (3, .ref o), (4, .ref od), (5, .int i)] []) : J p l e R s m args below meth c D A 9 Q cells slots h 220 [(0, .ref sc), (1, .ref x), (2, .ref mo), (3, .ref o), (4, .ref od), (5, .int i)] [] := by
  have I := L.inv
  refine j_aload_n E dL_law_220 rfl ?_
  refine j_aload_n E dL_law_221 rfl ?_
  refine j_iload E dL_law_222 rfl ?_
  refine j_iconst (v := 1) E dL_law_224 ci_1 ?_
  refine j_iadd E dL_law_225 ?_
  refine j_sld E SX (vin_add hi (c := 1) (by decide) (by show nn i + nn (1 : Int32) < N; rw [show nn (1 : Int32) = 1 from by decide]; omega) hN2) dL_law_226 ?_
  refine j_aload_n E dL_law_227 rfl ?_
  refine j_iload E dL_law_228 rfl ?_
  refine j_iconst (v := 2) E dL_law_230 ci_2 ?_
  refine j_iadd E dL_law_231 ?_
  refine j_sld E SX (vin_add hi (c := 2) (by decide) (by show nn i + nn (2 : Int32) < N; rw [show nn (2 : Int32) = 2 from by decide]; omega) hN2) dL_law_232 ?_
  refine j_aload_n E dL_law_233 rfl ?_
  refine j_help E L (r := (p_fill S (f (nn (i + 1))) (f (nn (i + 2))))) (fun hC0 ok hno => h_fill l D S _ x o hC0 g ok hno (f (nn (i + 1))) (f (nn (i + 2)))) (cww_fill E ⟨by show _ ≤ R.frames; omega, by show _ ≤ R.locals; omega, by show _ ≤ R.cells; omega, by show _ ≤ R.slots; omega, Nat.le_of_ble_eq_true rfl⟩) (q_244 E.tb) rfl dL_law_234 rfl (fun h234 g234 hz L => ?_)
  refine j_istore E dL_law_237 (by decide) ?_
  refine j_aload_n E dL_law_239 rfl ?_
  refine j_aload_n E dL_law_240 rfl ?_
  refine j_iload E dL_law_241 rfl ?_
  refine j_iconst (v := 1) E dL_law_243 ci_1 ?_
  refine j_iadd E dL_law_244 ?_
  refine j_sld E SX (vin_add hi (c := 1) (by decide) (by show nn i + nn (1 : Int32) < N; rw [show nn (1 : Int32) = 1 from by decide]; omega) hN2) dL_law_245 ?_
  refine j_aload_n E dL_law_246 rfl ?_
  refine j_iload E dL_law_247 rfl ?_
  refine j_iconst (v := 2) E dL_law_249 ci_2 ?_
  refine j_iadd E dL_law_250 ?_
  refine j_sld E SX (vin_add hi (c := 2) (by decide) (by show nn i + nn (2 : Int32) < N; rw [show nn (2 : Int32) = 2 from by decide]; omega) hN2) dL_law_251 ?_
  refine j_mod E L (fun hM ad ar e0 M => by rw [← e0]; exact c_fill l D S ad ar hM M I.cnt (f (nn (i + 1))) (f (nn (i + 2)))) (cw_L_118 E ⟨by show _ ≤ R.frames; omega, by show _ ≤ R.locals; omega, by show _ ≤ R.cells; omega, by show _ ≤ R.slots; omega, Nat.le_of_ble_eq_true rfl⟩) (q_880 E.tb) (q_881 E.tb) rfl rfl dL_law_252 rfl (fun h252 L => ?_)
  refine j_istore E dL_law_255 (by decide) ?_
  refine j_aload_n E dL_law_257 rfl ?_
  refine j_mod E L (fun hM ad ar e0 M => by rw [← e0]; exact c_thrown2 l D _ ad ar hM M) (cw_L_111 E ⟨by show _ ≤ R.frames; omega, by show _ ≤ R.locals; omega, by show _ ≤ R.cells; omega, by show _ ≤ R.slots; omega, Nat.le_of_ble_eq_true rfl⟩) (q_869 E.tb) (q_870 E.tb) rfl rfl dL_law_258 rfl (fun h258 L => ?_)
  refine j_iload E dL_law_261 rfl ?_
  refine j_icmp_eq (tgt := 268) E dL_law_263 (by decide) (fun _ => ?_) (fun q => (q rfl).elim)
  refine j_iload E dL_law_268 rfl ?_
  refine j_if_ne (tgt := 285) E dL_law_270 (by decide) (fun c_270 => ?_) (fun c_270 => ?_)
  · refine j_goto (tgt := 1731) E dL_law_285 (by decide) ?_
    refine J.wide (k := cells + 40) (n := slots + 5200) (by omega) (by omega) ?_
    refine J.sub (lo' := [(0, .ref sc), (1, .ref x), (2, .ref mo), (3, .ref o), (4, .ref od), (5, .int i)]) ⟨rfl, rfl, rfl, rfl, rfl, rfl, trivial⟩ ?_
    exact k (p_fill S (f (nn (i + 1))) (f (nn (i + 2)))).1 g234 gD h258 (by rw [ph_fill]; exact L)
  · refine j_aload_n E dL_law_273 rfl ?_
    refine j_iconst (v := 0) E dL_law_274 ci_0 ?_
    refine j_lald E L.out (vin_nI (n := 1) (k := 0) (by decide) (by decide)) dL_law_275 ?_
    refine j_iload E dL_law_276 rfl ?_
    refine j_i2l E dL_law_278 ?_
    refine j_lcmp E dL_law_279 ?_
    refine j_if_eq (tgt := 285) E dL_law_280 (by decide) (fun _ => ?_) (fun q => (q (lcmp_eq (hz c_270))).elim)
    refine j_goto (tgt := 1731) E dL_law_285 (by decide) ?_
    refine J.wide (k := cells + 40) (n := slots + 5200) (by omega) (by omega) ?_
    refine J.sub (lo' := [(0, .ref sc), (1, .ref x), (2, .ref mo), (3, .ref o), (4, .ref od), (5, .int i)]) ⟨rfl, rfl, rfl, rfl, rfl, rfl, trivial⟩ ?_
    exact k (p_fill S (f (nn (i + 1))) (f (nn (i + 2)))).1 g234 gD h258 (by rw [ph_fill]; exact L)
theorem ph_empty {S : St} {x : Int32} : (p_empty S x).1.1 0 5 0 = S.1 0 5 0 := by
  unfold p_empty
  (repeat' split) <;> first | rfl | exact lev_0 (by decide) | exact (s1_ne (fun z => absurd z.2.1 (by decide))).trans (livN_c (by decide) 8)
set_option maxHeartbeats 4000000 in
set_option maxRecDepth 100000 in
theorem lc_empty (E : Cx p l s m args meth c cL_law 9 RL D A) {S : St} {x mo sc o od N : Nat} {f : Nat → Int32} {g : Nat → Int64} {gD : Nat → UInt64} {h : AH} (L : LwS S S (180 * nn (S.1 0 5 0)) x mo o od g gD h) (SX : Scr s A sc N f) {i : Int32} (hi : i = nI (nn i)) (hN : nn i + 6 ≤ N) (hN2 : N ≤ 3072) (hR : 15 ≤ R.frames ∧ 400 ≤ R.locals ∧ cells + 40 ≤ R.cells ∧ slots + 5200 ≤ R.slots)
    (k : ∀ (S9 : St) (g9 : Nat → Int64) (gD9 : Nat → UInt64) (h9 : AH), LwS S9 S9 (180 * nn (S9.1 0 5 0)) x mo o od g9 gD9 h9 → J p l e R s m args below meth c D A 9 Q (cells + 40) (slots + 5200) h9 1731 [(0, .ref sc), (1, .ref x), (2, .ref mo), (3, .ref o), (4, .ref od), (5, .int i)] []) : J p l e R s m args below meth c D A 9 Q cells slots h 288 [(0, .ref sc), (1, .ref x), (2, .ref mo), (3, .ref o), (4, .ref od), (5, .int i)] [] := by
  have I := L.inv
  refine j_aload_n E dL_law_288 rfl ?_
  refine j_aload_n E dL_law_289 rfl ?_
  refine j_iload E dL_law_290 rfl ?_
  refine j_iconst (v := 1) E dL_law_292 ci_1 ?_
  refine j_iadd E dL_law_293 ?_
  refine j_sld E SX (vin_add hi (c := 1) (by decide) (by show nn i + nn (1 : Int32) < N; rw [show nn (1 : Int32) = 1 from by decide]; omega) hN2) dL_law_294 ?_
  refine j_aload_n E dL_law_295 rfl ?_
  refine j_help E L (r := (p_empty S (f (nn (i + 1))))) (fun hC0 ok hno => h_empty l D S _ x o hC0 g ok hno (f (nn (i + 1)))) (cww_empty E ⟨by show _ ≤ R.frames; omega, by show _ ≤ R.locals; omega, by show _ ≤ R.cells; omega, by show _ ≤ R.slots; omega, Nat.le_of_ble_eq_true rfl⟩) (q_321 E.tb) rfl dL_law_296 rfl (fun h296 g296 hz L => ?_)
  refine j_istore E dL_law_299 (by decide) ?_
  refine j_aload_n E dL_law_301 rfl ?_
  refine j_aload_n E dL_law_302 rfl ?_
  refine j_iload E dL_law_303 rfl ?_
  refine j_iconst (v := 1) E dL_law_305 ci_1 ?_
  refine j_iadd E dL_law_306 ?_
  refine j_sld E SX (vin_add hi (c := 1) (by decide) (by show nn i + nn (1 : Int32) < N; rw [show nn (1 : Int32) = 1 from by decide]; omega) hN2) dL_law_307 ?_
  refine j_mod E L (fun hM ad ar e0 M => by rw [← e0]; exact c_empty l D S ad ar hM M I.cnt (f (nn (i + 1)))) (cw_L_121 E ⟨by show _ ≤ R.frames; omega, by show _ ≤ R.locals; omega, by show _ ≤ R.cells; omega, by show _ ≤ R.slots; omega, Nat.le_of_ble_eq_true rfl⟩) (q_889 E.tb) (q_890 E.tb) rfl rfl dL_law_308 rfl (fun h308 L => ?_)
  refine j_istore E dL_law_311 (by decide) ?_
  refine j_aload_n E dL_law_313 rfl ?_
  refine j_mod E L (fun hM ad ar e0 M => by rw [← e0]; exact c_thrown2 l D _ ad ar hM M) (cw_L_111 E ⟨by show _ ≤ R.frames; omega, by show _ ≤ R.locals; omega, by show _ ≤ R.cells; omega, by show _ ≤ R.slots; omega, Nat.le_of_ble_eq_true rfl⟩) (q_869 E.tb) (q_870 E.tb) rfl rfl dL_law_314 rfl (fun h314 L => ?_)
  refine j_iload E dL_law_317 rfl ?_
  refine j_icmp_eq (tgt := 324) E dL_law_319 (by decide) (fun _ => ?_) (fun q => (q rfl).elim)
  refine j_iload E dL_law_324 rfl ?_
  refine j_if_ne (tgt := 341) E dL_law_326 (by decide) (fun c_326 => ?_) (fun c_326 => ?_)
  · refine j_goto (tgt := 1731) E dL_law_341 (by decide) ?_
    refine J.wide (k := cells + 40) (n := slots + 5200) (by omega) (by omega) ?_
    refine J.sub (lo' := [(0, .ref sc), (1, .ref x), (2, .ref mo), (3, .ref o), (4, .ref od), (5, .int i)]) ⟨rfl, rfl, rfl, rfl, rfl, rfl, trivial⟩ ?_
    exact k (p_empty S (f (nn (i + 1)))).1 g296 gD h314 (by rw [ph_empty]; exact L)
  · refine j_aload_n E dL_law_329 rfl ?_
    refine j_iconst (v := 0) E dL_law_330 ci_0 ?_
    refine j_lald E L.out (vin_nI (n := 1) (k := 0) (by decide) (by decide)) dL_law_331 ?_
    refine j_iload E dL_law_332 rfl ?_
    refine j_i2l E dL_law_334 ?_
    refine j_lcmp E dL_law_335 ?_
    refine j_if_eq (tgt := 341) E dL_law_336 (by decide) (fun _ => ?_) (fun q => (q (lcmp_eq (hz c_326))).elim)
    refine j_goto (tgt := 1731) E dL_law_341 (by decide) ?_
    refine J.wide (k := cells + 40) (n := slots + 5200) (by omega) (by omega) ?_
    refine J.sub (lo' := [(0, .ref sc), (1, .ref x), (2, .ref mo), (3, .ref o), (4, .ref od), (5, .int i)]) ⟨rfl, rfl, rfl, rfl, rfl, rfl, trivial⟩ ?_
    exact k (p_empty S (f (nn (i + 1)))).1 g296 gD h314 (by rw [ph_empty]; exact L)
theorem ph_hoursToDry {S : St} {x : Int32} : (p_hoursToDry S x).1.1 0 5 0 = S.1 0 5 0 := by
  unfold p_hoursToDry
  (repeat' split) <;> first | rfl | exact lev_0 (by decide) | exact (s1_ne (fun z => absurd z.2.1 (by decide))).trans (livN_c (by decide) 8)
set_option maxHeartbeats 4000000 in
set_option maxRecDepth 100000 in
theorem lc_hoursToDry (E : Cx p l s m args meth c cL_law 9 RL D A) {S : St} {x mo sc o od N : Nat} {f : Nat → Int32} {g : Nat → Int64} {gD : Nat → UInt64} {h : AH} (L : LwS S S (180 * nn (S.1 0 5 0)) x mo o od g gD h) (SX : Scr s A sc N f) {i : Int32} (hi : i = nI (nn i)) (hN : nn i + 6 ≤ N) (hN2 : N ≤ 3072) (hR : 15 ≤ R.frames ∧ 400 ≤ R.locals ∧ cells + 40 ≤ R.cells ∧ slots + 5200 ≤ R.slots)
    (k : ∀ (S9 : St) (g9 : Nat → Int64) (gD9 : Nat → UInt64) (h9 : AH), LwS S9 S9 (180 * nn (S9.1 0 5 0)) x mo o od g9 gD9 h9 → J p l e R s m args below meth c D A 9 Q (cells + 40) (slots + 5200) h9 1731 [(0, .ref sc), (1, .ref x), (2, .ref mo), (3, .ref o), (4, .ref od), (5, .int i)] []) : J p l e R s m args below meth c D A 9 Q cells slots h 357 [(0, .ref sc), (1, .ref x), (2, .ref mo), (3, .ref o), (4, .ref od), (5, .int i)] [] := by
  have I := L.inv
  refine j_aload_n E dL_law_357 rfl ?_
  refine j_aload_n E dL_law_358 rfl ?_
  refine j_iload E dL_law_359 rfl ?_
  refine j_iconst (v := 1) E dL_law_361 ci_1 ?_
  refine j_iadd E dL_law_362 ?_
  refine j_sld E SX (vin_add hi (c := 1) (by decide) (by show nn i + nn (1 : Int32) < N; rw [show nn (1 : Int32) = 1 from by decide]; omega) hN2) dL_law_363 ?_
  refine j_aload_n E dL_law_364 rfl ?_
  refine j_help E L (r := (p_hoursToDry S (f (nn (i + 1))))) (fun hC0 ok hno => h_hoursToDry l D S _ x o hC0 g ok hno (f (nn (i + 1)))) (cww_hoursToDry E ⟨by show _ ≤ R.frames; omega, by show _ ≤ R.locals; omega, by show _ ≤ R.cells; omega, by show _ ≤ R.slots; omega, Nat.le_of_ble_eq_true rfl⟩) (q_341 E.tb) rfl dL_law_365 rfl (fun h365 g365 hz L => ?_)
  refine j_istore E dL_law_368 (by decide) ?_
  refine j_aload_n E dL_law_370 rfl ?_
  refine j_aload_n E dL_law_371 rfl ?_
  refine j_iload E dL_law_372 rfl ?_
  refine j_iconst (v := 1) E dL_law_374 ci_1 ?_
  refine j_iadd E dL_law_375 ?_
  refine j_sld E SX (vin_add hi (c := 1) (by decide) (by show nn i + nn (1 : Int32) < N; rw [show nn (1 : Int32) = 1 from by decide]; omega) hN2) dL_law_376 ?_
  refine j_mod E L (fun hM ad ar e0 M => by rw [← e0]; exact c_hoursToDry l D S ad ar hM M I.cnt (f (nn (i + 1))) I.lot.lr) (cw_L_128 E ⟨by show _ ≤ R.frames; omega, by show _ ≤ R.locals; omega, by show _ ≤ R.cells; omega, by show _ ≤ R.slots; omega, Nat.le_of_ble_eq_true rfl⟩) (q_905 E.tb) (q_906 E.tb) rfl rfl dL_law_377 rfl (fun h377 L => ?_)
  refine j_istore E dL_law_380 (by decide) ?_
  refine j_aload_n E dL_law_382 rfl ?_
  refine j_mod E L (fun hM ad ar e0 M => by rw [← e0]; exact c_thrown2 l D _ ad ar hM M) (cw_L_111 E ⟨by show _ ≤ R.frames; omega, by show _ ≤ R.locals; omega, by show _ ≤ R.cells; omega, by show _ ≤ R.slots; omega, Nat.le_of_ble_eq_true rfl⟩) (q_869 E.tb) (q_870 E.tb) rfl rfl dL_law_383 rfl (fun h383 L => ?_)
  refine j_iload E dL_law_386 rfl ?_
  refine j_icmp_eq (tgt := 393) E dL_law_388 (by decide) (fun _ => ?_) (fun q => (q rfl).elim)
  refine j_iload E dL_law_393 rfl ?_
  refine j_if_ne (tgt := 410) E dL_law_395 (by decide) (fun c_395 => ?_) (fun c_395 => ?_)
  · refine j_goto (tgt := 1731) E dL_law_410 (by decide) ?_
    refine J.wide (k := cells + 40) (n := slots + 5200) (by omega) (by omega) ?_
    refine J.sub (lo' := [(0, .ref sc), (1, .ref x), (2, .ref mo), (3, .ref o), (4, .ref od), (5, .int i)]) ⟨rfl, rfl, rfl, rfl, rfl, rfl, trivial⟩ ?_
    exact k (p_hoursToDry S (f (nn (i + 1)))).1 g365 gD h383 (by rw [ph_hoursToDry]; exact L)
  · refine j_aload_n E dL_law_398 rfl ?_
    refine j_iconst (v := 0) E dL_law_399 ci_0 ?_
    refine j_lald E L.out (vin_nI (n := 1) (k := 0) (by decide) (by decide)) dL_law_400 ?_
    refine j_iload E dL_law_401 rfl ?_
    refine j_i2l E dL_law_403 ?_
    refine j_lcmp E dL_law_404 ?_
    refine j_if_eq (tgt := 410) E dL_law_405 (by decide) (fun _ => ?_) (fun q => (q (lcmp_eq (hz c_395))).elim)
    refine j_goto (tgt := 1731) E dL_law_410 (by decide) ?_
    refine J.wide (k := cells + 40) (n := slots + 5200) (by omega) (by omega) ?_
    refine J.sub (lo' := [(0, .ref sc), (1, .ref x), (2, .ref mo), (3, .ref o), (4, .ref od), (5, .int i)]) ⟨rfl, rfl, rfl, rfl, rfl, rfl, trivial⟩ ?_
    exact k (p_hoursToDry S (f (nn (i + 1)))).1 g365 gD h383 (by rw [ph_hoursToDry]; exact L)
theorem ph_dry {S : St} {x : Int32} : (p_dry S x).1.1 0 5 0 = S.1 0 5 0 := by
  unfold p_dry
  (repeat' split) <;> first | rfl | exact lev_0 (by decide) | exact (s1_ne (fun z => absurd z.2.1 (by decide))).trans (livN_c (by decide) 8)
set_option maxHeartbeats 4000000 in
set_option maxRecDepth 100000 in
theorem lc_dry (E : Cx p l s m args meth c cL_law 9 RL D A) {S : St} {x mo sc o od N : Nat} {f : Nat → Int32} {g : Nat → Int64} {gD : Nat → UInt64} {h : AH} (L : LwS S S (180 * nn (S.1 0 5 0)) x mo o od g gD h) (SX : Scr s A sc N f) {i : Int32} (hi : i = nI (nn i)) (hN : nn i + 6 ≤ N) (hN2 : N ≤ 3072) (hR : 15 ≤ R.frames ∧ 400 ≤ R.locals ∧ cells + 40 ≤ R.cells ∧ slots + 5200 ≤ R.slots)
    (k : ∀ (S9 : St) (g9 : Nat → Int64) (gD9 : Nat → UInt64) (h9 : AH), LwS S9 S9 (180 * nn (S9.1 0 5 0)) x mo o od g9 gD9 h9 → J p l e R s m args below meth c D A 9 Q (cells + 40) (slots + 5200) h9 1731 [(0, .ref sc), (1, .ref x), (2, .ref mo), (3, .ref o), (4, .ref od), (5, .int i)] []) : J p l e R s m args below meth c D A 9 Q cells slots h 413 [(0, .ref sc), (1, .ref x), (2, .ref mo), (3, .ref o), (4, .ref od), (5, .int i)] [] := by
  have I := L.inv
  refine j_aload_n E dL_law_413 rfl ?_
  refine j_aload_n E dL_law_414 rfl ?_
  refine j_iload E dL_law_415 rfl ?_
  refine j_iconst (v := 1) E dL_law_417 ci_1 ?_
  refine j_iadd E dL_law_418 ?_
  refine j_sld E SX (vin_add hi (c := 1) (by decide) (by show nn i + nn (1 : Int32) < N; rw [show nn (1 : Int32) = 1 from by decide]; omega) hN2) dL_law_419 ?_
  refine j_aload_n E dL_law_420 rfl ?_
  refine j_help E L (r := (p_dry S (f (nn (i + 1))))) (fun hC0 ok hno => h_dry l D S _ x o hC0 g ok hno (f (nn (i + 1)))) (cww_dry E ⟨by show _ ≤ R.frames; omega, by show _ ≤ R.locals; omega, by show _ ≤ R.cells; omega, by show _ ≤ R.slots; omega, Nat.le_of_ble_eq_true rfl⟩) (q_355 E.tb) rfl dL_law_421 rfl (fun h421 g421 hz L => ?_)
  refine j_istore E dL_law_424 (by decide) ?_
  refine j_aload_n E dL_law_426 rfl ?_
  refine j_aload_n E dL_law_427 rfl ?_
  refine j_iload E dL_law_428 rfl ?_
  refine j_iconst (v := 1) E dL_law_430 ci_1 ?_
  refine j_iadd E dL_law_431 ?_
  refine j_sld E SX (vin_add hi (c := 1) (by decide) (by show nn i + nn (1 : Int32) < N; rw [show nn (1 : Int32) = 1 from by decide]; omega) hN2) dL_law_432 ?_
  refine j_mod E L (fun hM ad ar e0 M => by rw [← e0]; exact c_dry l D S ad ar hM M I.cnt (f (nn (i + 1))) I.lot.lr) (cw_L_131 E ⟨by show _ ≤ R.frames; omega, by show _ ≤ R.locals; omega, by show _ ≤ R.cells; omega, by show _ ≤ R.slots; omega, Nat.le_of_ble_eq_true rfl⟩) (q_914 E.tb) (q_915 E.tb) rfl rfl dL_law_433 rfl (fun h433 L => ?_)
  refine j_istore E dL_law_436 (by decide) ?_
  refine j_aload_n E dL_law_438 rfl ?_
  refine j_mod E L (fun hM ad ar e0 M => by rw [← e0]; exact c_thrown2 l D _ ad ar hM M) (cw_L_111 E ⟨by show _ ≤ R.frames; omega, by show _ ≤ R.locals; omega, by show _ ≤ R.cells; omega, by show _ ≤ R.slots; omega, Nat.le_of_ble_eq_true rfl⟩) (q_869 E.tb) (q_870 E.tb) rfl rfl dL_law_439 rfl (fun h439 L => ?_)
  refine j_iload E dL_law_442 rfl ?_
  refine j_icmp_eq (tgt := 449) E dL_law_444 (by decide) (fun _ => ?_) (fun q => (q rfl).elim)
  refine j_iload E dL_law_449 rfl ?_
  refine j_if_ne (tgt := 466) E dL_law_451 (by decide) (fun c_451 => ?_) (fun c_451 => ?_)
  · refine j_goto (tgt := 1731) E dL_law_466 (by decide) ?_
    refine J.wide (k := cells + 40) (n := slots + 5200) (by omega) (by omega) ?_
    refine J.sub (lo' := [(0, .ref sc), (1, .ref x), (2, .ref mo), (3, .ref o), (4, .ref od), (5, .int i)]) ⟨rfl, rfl, rfl, rfl, rfl, rfl, trivial⟩ ?_
    exact k (p_dry S (f (nn (i + 1)))).1 g421 gD h439 (by rw [ph_dry]; exact L)
  · refine j_aload_n E dL_law_454 rfl ?_
    refine j_iconst (v := 0) E dL_law_455 ci_0 ?_
    refine j_lald E L.out (vin_nI (n := 1) (k := 0) (by decide) (by decide)) dL_law_456 ?_
    refine j_iload E dL_law_457 rfl ?_
    refine j_i2l E dL_law_459 ?_
    refine j_lcmp E dL_law_460 ?_
    refine j_if_eq (tgt := 466) E dL_law_461 (by decide) (fun _ => ?_) (fun q => (q (lcmp_eq (hz c_451))).elim)
    refine j_goto (tgt := 1731) E dL_law_466 (by decide) ?_
    refine J.wide (k := cells + 40) (n := slots + 5200) (by omega) (by omega) ?_
    refine J.sub (lo' := [(0, .ref sc), (1, .ref x), (2, .ref mo), (3, .ref o), (4, .ref od), (5, .int i)]) ⟨rfl, rfl, rfl, rfl, rfl, rfl, trivial⟩ ?_
    exact k (p_dry S (f (nn (i + 1)))).1 g421 gD h439 (by rw [ph_dry]; exact L)
theorem ph_regrind {S : St} {x : Int32} : (p_regrind S x).1.1 0 5 0 = S.1 0 5 0 := by
  unfold p_regrind
  (repeat' split) <;> first | rfl | exact lev_0 (by decide) | exact (s1_ne (fun z => absurd z.2.1 (by decide))).trans (livN_c (by decide) 8)
set_option maxHeartbeats 4000000 in
set_option maxRecDepth 100000 in
theorem lc_regrind (E : Cx p l s m args meth c cL_law 9 RL D A) {S : St} {x mo sc o od N : Nat} {f : Nat → Int32} {g : Nat → Int64} {gD : Nat → UInt64} {h : AH} (L : LwS S S (180 * nn (S.1 0 5 0)) x mo o od g gD h) (SX : Scr s A sc N f) {i : Int32} (hi : i = nI (nn i)) (hN : nn i + 6 ≤ N) (hN2 : N ≤ 3072) (hR : 15 ≤ R.frames ∧ 400 ≤ R.locals ∧ cells + 40 ≤ R.cells ∧ slots + 5200 ≤ R.slots)
    (k : ∀ (S9 : St) (g9 : Nat → Int64) (gD9 : Nat → UInt64) (h9 : AH), LwS S9 S9 (180 * nn (S9.1 0 5 0)) x mo o od g9 gD9 h9 → J p l e R s m args below meth c D A 9 Q (cells + 40) (slots + 5200) h9 1731 [(0, .ref sc), (1, .ref x), (2, .ref mo), (3, .ref o), (4, .ref od), (5, .int i)] []) : J p l e R s m args below meth c D A 9 Q cells slots h 469 [(0, .ref sc), (1, .ref x), (2, .ref mo), (3, .ref o), (4, .ref od), (5, .int i)] [] := by
  have I := L.inv
  refine j_aload_n E dL_law_469 rfl ?_
  refine j_aload_n E dL_law_470 rfl ?_
  refine j_iload E dL_law_471 rfl ?_
  refine j_iconst (v := 1) E dL_law_473 ci_1 ?_
  refine j_iadd E dL_law_474 ?_
  refine j_sld E SX (vin_add hi (c := 1) (by decide) (by show nn i + nn (1 : Int32) < N; rw [show nn (1 : Int32) = 1 from by decide]; omega) hN2) dL_law_475 ?_
  refine j_aload_n E dL_law_476 rfl ?_
  refine j_help E L (r := (p_regrind S (f (nn (i + 1))))) (fun hC0 ok hno => h_regrind l D S _ x o hC0 g ok hno (f (nn (i + 1)))) (cww_regrind E ⟨by show _ ≤ R.frames; omega, by show _ ≤ R.locals; omega, by show _ ≤ R.cells; omega, by show _ ≤ R.slots; omega, Nat.le_of_ble_eq_true rfl⟩) (q_371 E.tb) rfl dL_law_477 rfl (fun h477 g477 hz L => ?_)
  refine j_istore E dL_law_480 (by decide) ?_
  refine j_aload_n E dL_law_482 rfl ?_
  refine j_aload_n E dL_law_483 rfl ?_
  refine j_iload E dL_law_484 rfl ?_
  refine j_iconst (v := 1) E dL_law_486 ci_1 ?_
  refine j_iadd E dL_law_487 ?_
  refine j_sld E SX (vin_add hi (c := 1) (by decide) (by show nn i + nn (1 : Int32) < N; rw [show nn (1 : Int32) = 1 from by decide]; omega) hN2) dL_law_488 ?_
  refine j_mod E L (fun hM ad ar e0 M => by rw [← e0]; exact c_regrind l D S ad ar hM M I.cnt (f (nn (i + 1)))) (cw_L_134 E ⟨by show _ ≤ R.frames; omega, by show _ ≤ R.locals; omega, by show _ ≤ R.cells; omega, by show _ ≤ R.slots; omega, Nat.le_of_ble_eq_true rfl⟩) (q_922 E.tb) (q_923 E.tb) rfl rfl dL_law_489 rfl (fun h489 L => ?_)
  refine j_istore E dL_law_492 (by decide) ?_
  refine j_aload_n E dL_law_494 rfl ?_
  refine j_mod E L (fun hM ad ar e0 M => by rw [← e0]; exact c_thrown2 l D _ ad ar hM M) (cw_L_111 E ⟨by show _ ≤ R.frames; omega, by show _ ≤ R.locals; omega, by show _ ≤ R.cells; omega, by show _ ≤ R.slots; omega, Nat.le_of_ble_eq_true rfl⟩) (q_869 E.tb) (q_870 E.tb) rfl rfl dL_law_495 rfl (fun h495 L => ?_)
  refine j_iload E dL_law_498 rfl ?_
  refine j_icmp_eq (tgt := 505) E dL_law_500 (by decide) (fun _ => ?_) (fun q => (q rfl).elim)
  refine j_iload E dL_law_505 rfl ?_
  refine j_if_ne (tgt := 522) E dL_law_507 (by decide) (fun c_507 => ?_) (fun c_507 => ?_)
  · refine j_goto (tgt := 1731) E dL_law_522 (by decide) ?_
    refine J.wide (k := cells + 40) (n := slots + 5200) (by omega) (by omega) ?_
    refine J.sub (lo' := [(0, .ref sc), (1, .ref x), (2, .ref mo), (3, .ref o), (4, .ref od), (5, .int i)]) ⟨rfl, rfl, rfl, rfl, rfl, rfl, trivial⟩ ?_
    exact k (p_regrind S (f (nn (i + 1)))).1 g477 gD h495 (by rw [ph_regrind]; exact L)
  · refine j_aload_n E dL_law_510 rfl ?_
    refine j_iconst (v := 0) E dL_law_511 ci_0 ?_
    refine j_lald E L.out (vin_nI (n := 1) (k := 0) (by decide) (by decide)) dL_law_512 ?_
    refine j_iload E dL_law_513 rfl ?_
    refine j_i2l E dL_law_515 ?_
    refine j_lcmp E dL_law_516 ?_
    refine j_if_eq (tgt := 522) E dL_law_517 (by decide) (fun _ => ?_) (fun q => (q (lcmp_eq (hz c_507))).elim)
    refine j_goto (tgt := 1731) E dL_law_522 (by decide) ?_
    refine J.wide (k := cells + 40) (n := slots + 5200) (by omega) (by omega) ?_
    refine J.sub (lo' := [(0, .ref sc), (1, .ref x), (2, .ref mo), (3, .ref o), (4, .ref od), (5, .int i)]) ⟨rfl, rfl, rfl, rfl, rfl, rfl, trivial⟩ ?_
    exact k (p_regrind S (f (nn (i + 1)))).1 g477 gD h495 (by rw [ph_regrind]; exact L)
theorem ph_addMould {S : St} {ca : Int32} {pa : Int32} {sp : Int32} {fo : Int32} {cy : Int32} : (p_addMould S ca pa sp fo cy).1.1 0 5 0 = S.1 0 5 0 := by
  unfold p_addMould
  (repeat' split) <;> first | rfl | exact lev_0 (by decide) | exact (s1_ne (fun z => absurd z.2.1 (by decide))).trans (livN_c (by decide) 8)
set_option maxHeartbeats 4000000 in
set_option maxRecDepth 100000 in
theorem lc_addMould (E : Cx p l s m args meth c cL_law 9 RL D A) {S : St} {x mo sc o od N : Nat} {f : Nat → Int32} {g : Nat → Int64} {gD : Nat → UInt64} {h : AH} (L : LwS S S (180 * nn (S.1 0 5 0)) x mo o od g gD h) (SX : Scr s A sc N f) {i : Int32} (hi : i = nI (nn i)) (hN : nn i + 6 ≤ N) (hN2 : N ≤ 3072) (hR : 15 ≤ R.frames ∧ 400 ≤ R.locals ∧ cells + 40 ≤ R.cells ∧ slots + 5200 ≤ R.slots)
    (k : ∀ (S9 : St) (g9 : Nat → Int64) (gD9 : Nat → UInt64) (h9 : AH), LwS S9 S9 (180 * nn (S9.1 0 5 0)) x mo o od g9 gD9 h9 → J p l e R s m args below meth c D A 9 Q (cells + 40) (slots + 5200) h9 1731 [(0, .ref sc), (1, .ref x), (2, .ref mo), (3, .ref o), (4, .ref od), (5, .int i)] []) : J p l e R s m args below meth c D A 9 Q cells slots h 525 [(0, .ref sc), (1, .ref x), (2, .ref mo), (3, .ref o), (4, .ref od), (5, .int i)] [] := by
  have I := L.inv
  refine j_aload_n E dL_law_525 rfl ?_
  refine j_aload_n E dL_law_526 rfl ?_
  refine j_iload E dL_law_527 rfl ?_
  refine j_iconst (v := 1) E dL_law_529 ci_1 ?_
  refine j_iadd E dL_law_530 ?_
  refine j_sld E SX (vin_add hi (c := 1) (by decide) (by show nn i + nn (1 : Int32) < N; rw [show nn (1 : Int32) = 1 from by decide]; omega) hN2) dL_law_531 ?_
  refine j_aload_n E dL_law_532 rfl ?_
  refine j_iload E dL_law_533 rfl ?_
  refine j_iconst (v := 2) E dL_law_535 ci_2 ?_
  refine j_iadd E dL_law_536 ?_
  refine j_sld E SX (vin_add hi (c := 2) (by decide) (by show nn i + nn (2 : Int32) < N; rw [show nn (2 : Int32) = 2 from by decide]; omega) hN2) dL_law_537 ?_
  refine j_aload_n E dL_law_538 rfl ?_
  refine j_iload E dL_law_539 rfl ?_
  refine j_iconst (v := 3) E dL_law_541 ci_3 ?_
  refine j_iadd E dL_law_542 ?_
  refine j_sld E SX (vin_add hi (c := 3) (by decide) (by show nn i + nn (3 : Int32) < N; rw [show nn (3 : Int32) = 3 from by decide]; omega) hN2) dL_law_543 ?_
  refine j_aload_n E dL_law_544 rfl ?_
  refine j_iload E dL_law_545 rfl ?_
  refine j_iconst (v := 4) E dL_law_547 ci_4 ?_
  refine j_iadd E dL_law_548 ?_
  refine j_sld E SX (vin_add hi (c := 4) (by decide) (by show nn i + nn (4 : Int32) < N; rw [show nn (4 : Int32) = 4 from by decide]; omega) hN2) dL_law_549 ?_
  refine j_aload_n E dL_law_550 rfl ?_
  refine j_iload E dL_law_551 rfl ?_
  refine j_iconst (v := 5) E dL_law_553 ci_5 ?_
  refine j_iadd E dL_law_554 ?_
  refine j_sld E SX (vin_add hi (c := 5) (by decide) (by show nn i + nn (5 : Int32) < N; rw [show nn (5 : Int32) = 5 from by decide]; omega) hN2) dL_law_555 ?_
  refine j_aload_n E dL_law_556 rfl ?_
  refine j_help E L (r := (p_addMould S (f (nn (i + 1))) (f (nn (i + 2))) (f (nn (i + 3))) (f (nn (i + 4))) (f (nn (i + 5))))) (fun hC0 ok hno => h_addMould l D S _ x o hC0 g ok hno (f (nn (i + 1))) (f (nn (i + 2))) (f (nn (i + 3))) (f (nn (i + 4))) (f (nn (i + 5)))) (cww_addMould E ⟨by show _ ≤ R.frames; omega, by show _ ≤ R.locals; omega, by show _ ≤ R.cells; omega, by show _ ≤ R.slots; omega, Nat.le_of_ble_eq_true rfl⟩) (q_378 E.tb) rfl dL_law_557 rfl (fun h557 g557 hz L => ?_)
  refine j_istore E dL_law_560 (by decide) ?_
  refine j_aload_n E dL_law_562 rfl ?_
  refine j_aload_n E dL_law_563 rfl ?_
  refine j_iload E dL_law_564 rfl ?_
  refine j_iconst (v := 1) E dL_law_566 ci_1 ?_
  refine j_iadd E dL_law_567 ?_
  refine j_sld E SX (vin_add hi (c := 1) (by decide) (by show nn i + nn (1 : Int32) < N; rw [show nn (1 : Int32) = 1 from by decide]; omega) hN2) dL_law_568 ?_
  refine j_aload_n E dL_law_569 rfl ?_
  refine j_iload E dL_law_570 rfl ?_
  refine j_iconst (v := 2) E dL_law_572 ci_2 ?_
  refine j_iadd E dL_law_573 ?_
  refine j_sld E SX (vin_add hi (c := 2) (by decide) (by show nn i + nn (2 : Int32) < N; rw [show nn (2 : Int32) = 2 from by decide]; omega) hN2) dL_law_574 ?_
  refine j_aload_n E dL_law_575 rfl ?_
  refine j_iload E dL_law_576 rfl ?_
  refine j_iconst (v := 3) E dL_law_578 ci_3 ?_
  refine j_iadd E dL_law_579 ?_
  refine j_sld E SX (vin_add hi (c := 3) (by decide) (by show nn i + nn (3 : Int32) < N; rw [show nn (3 : Int32) = 3 from by decide]; omega) hN2) dL_law_580 ?_
  refine j_aload_n E dL_law_581 rfl ?_
  refine j_iload E dL_law_582 rfl ?_
  refine j_iconst (v := 4) E dL_law_584 ci_4 ?_
  refine j_iadd E dL_law_585 ?_
  refine j_sld E SX (vin_add hi (c := 4) (by decide) (by show nn i + nn (4 : Int32) < N; rw [show nn (4 : Int32) = 4 from by decide]; omega) hN2) dL_law_586 ?_
  refine j_aload_n E dL_law_587 rfl ?_
  refine j_iload E dL_law_588 rfl ?_
  refine j_iconst (v := 5) E dL_law_590 ci_5 ?_
  refine j_iadd E dL_law_591 ?_
  refine j_sld E SX (vin_add hi (c := 5) (by decide) (by show nn i + nn (5 : Int32) < N; rw [show nn (5 : Int32) = 5 from by decide]; omega) hN2) dL_law_592 ?_
  refine j_mod E L (fun hM ad ar e0 M => by rw [← e0]; exact c_addMould l D S ad ar hM M I.cnt (f (nn (i + 1))) (f (nn (i + 2))) (f (nn (i + 3))) (f (nn (i + 4))) (f (nn (i + 5)))) (cw_L_138 E ⟨by show _ ≤ R.frames; omega, by show _ ≤ R.locals; omega, by show _ ≤ R.cells; omega, by show _ ≤ R.slots; omega, Nat.le_of_ble_eq_true rfl⟩) (q_926 E.tb) (q_927 E.tb) rfl rfl dL_law_593 rfl (fun h593 L => ?_)
  refine j_istore E dL_law_596 (by decide) ?_
  refine j_aload_n E dL_law_598 rfl ?_
  refine j_mod E L (fun hM ad ar e0 M => by rw [← e0]; exact c_thrown2 l D _ ad ar hM M) (cw_L_111 E ⟨by show _ ≤ R.frames; omega, by show _ ≤ R.locals; omega, by show _ ≤ R.cells; omega, by show _ ≤ R.slots; omega, Nat.le_of_ble_eq_true rfl⟩) (q_869 E.tb) (q_870 E.tb) rfl rfl dL_law_599 rfl (fun h599 L => ?_)
  refine j_iload E dL_law_602 rfl ?_
  refine j_icmp_eq (tgt := 609) E dL_law_604 (by decide) (fun _ => ?_) (fun q => (q rfl).elim)
  refine j_iload E dL_law_609 rfl ?_
  refine j_if_ne (tgt := 626) E dL_law_611 (by decide) (fun c_611 => ?_) (fun c_611 => ?_)
  · refine j_goto (tgt := 1731) E dL_law_626 (by decide) ?_
    refine J.wide (k := cells + 40) (n := slots + 5200) (by omega) (by omega) ?_
    refine J.sub (lo' := [(0, .ref sc), (1, .ref x), (2, .ref mo), (3, .ref o), (4, .ref od), (5, .int i)]) ⟨rfl, rfl, rfl, rfl, rfl, rfl, trivial⟩ ?_
    exact k (p_addMould S (f (nn (i + 1))) (f (nn (i + 2))) (f (nn (i + 3))) (f (nn (i + 4))) (f (nn (i + 5)))).1 g557 gD h599 (by rw [ph_addMould]; exact L)
  · refine j_aload_n E dL_law_614 rfl ?_
    refine j_iconst (v := 0) E dL_law_615 ci_0 ?_
    refine j_lald E L.out (vin_nI (n := 1) (k := 0) (by decide) (by decide)) dL_law_616 ?_
    refine j_iload E dL_law_617 rfl ?_
    refine j_i2l E dL_law_619 ?_
    refine j_lcmp E dL_law_620 ?_
    refine j_if_eq (tgt := 626) E dL_law_621 (by decide) (fun _ => ?_) (fun q => (q (lcmp_eq (hz c_611))).elim)
    refine j_goto (tgt := 1731) E dL_law_626 (by decide) ?_
    refine J.wide (k := cells + 40) (n := slots + 5200) (by omega) (by omega) ?_
    refine J.sub (lo' := [(0, .ref sc), (1, .ref x), (2, .ref mo), (3, .ref o), (4, .ref od), (5, .int i)]) ⟨rfl, rfl, rfl, rfl, rfl, rfl, trivial⟩ ?_
    exact k (p_addMould S (f (nn (i + 1))) (f (nn (i + 2))) (f (nn (i + 3))) (f (nn (i + 4))) (f (nn (i + 5)))).1 g557 gD h599 (by rw [ph_addMould]; exact L)
theorem ph_setLife {S : St} {mo : Int32} {ca : Int32} {x : Int32} : (p_setLife S mo ca x).1.1 0 5 0 = S.1 0 5 0 := by
  unfold p_setLife
  (repeat' split) <;> first | rfl | exact lev_0 (by decide) | exact (s1_ne (fun z => absurd z.2.1 (by decide))).trans (livN_c (by decide) 8)
set_option maxHeartbeats 4000000 in
set_option maxRecDepth 100000 in
theorem lc_setLife (E : Cx p l s m args meth c cL_law 9 RL D A) {S : St} {x mo sc o od N : Nat} {f : Nat → Int32} {g : Nat → Int64} {gD : Nat → UInt64} {h : AH} (L : LwS S S (180 * nn (S.1 0 5 0)) x mo o od g gD h) (SX : Scr s A sc N f) {i : Int32} (hi : i = nI (nn i)) (hN : nn i + 6 ≤ N) (hN2 : N ≤ 3072) (hR : 15 ≤ R.frames ∧ 400 ≤ R.locals ∧ cells + 40 ≤ R.cells ∧ slots + 5200 ≤ R.slots)
    (k : ∀ (S9 : St) (g9 : Nat → Int64) (gD9 : Nat → UInt64) (h9 : AH), LwS S9 S9 (180 * nn (S9.1 0 5 0)) x mo o od g9 gD9 h9 → J p l e R s m args below meth c D A 9 Q (cells + 40) (slots + 5200) h9 1731 [(0, .ref sc), (1, .ref x), (2, .ref mo), (3, .ref o), (4, .ref od), (5, .int i)] []) : J p l e R s m args below meth c D A 9 Q cells slots h 629 [(0, .ref sc), (1, .ref x), (2, .ref mo), (3, .ref o), (4, .ref od), (5, .int i)] [] := by
  have I := L.inv
  refine j_aload_n E dL_law_629 rfl ?_
  refine j_aload_n E dL_law_630 rfl ?_
  refine j_iload E dL_law_631 rfl ?_
  refine j_iconst (v := 1) E dL_law_633 ci_1 ?_
  refine j_iadd E dL_law_634 ?_
  refine j_sld E SX (vin_add hi (c := 1) (by decide) (by show nn i + nn (1 : Int32) < N; rw [show nn (1 : Int32) = 1 from by decide]; omega) hN2) dL_law_635 ?_
  refine j_aload_n E dL_law_636 rfl ?_
  refine j_iload E dL_law_637 rfl ?_
  refine j_iconst (v := 2) E dL_law_639 ci_2 ?_
  refine j_iadd E dL_law_640 ?_
  refine j_sld E SX (vin_add hi (c := 2) (by decide) (by show nn i + nn (2 : Int32) < N; rw [show nn (2 : Int32) = 2 from by decide]; omega) hN2) dL_law_641 ?_
  refine j_aload_n E dL_law_642 rfl ?_
  refine j_iload E dL_law_643 rfl ?_
  refine j_iconst (v := 3) E dL_law_645 ci_3 ?_
  refine j_iadd E dL_law_646 ?_
  refine j_sld E SX (vin_add hi (c := 3) (by decide) (by show nn i + nn (3 : Int32) < N; rw [show nn (3 : Int32) = 3 from by decide]; omega) hN2) dL_law_647 ?_
  refine j_aload_n E dL_law_648 rfl ?_
  refine j_help E L (r := (p_setLife S (f (nn (i + 1))) (f (nn (i + 2))) (f (nn (i + 3))))) (fun hC0 ok hno => h_setLife l D S _ x o hC0 g ok hno (f (nn (i + 1))) (f (nn (i + 2))) (f (nn (i + 3)))) (cww_setLife E ⟨by show _ ≤ R.frames; omega, by show _ ≤ R.locals; omega, by show _ ≤ R.cells; omega, by show _ ≤ R.slots; omega, Nat.le_of_ble_eq_true rfl⟩) (q_441 E.tb) rfl dL_law_649 rfl (fun h649 g649 hz L => ?_)
  refine j_istore E dL_law_652 (by decide) ?_
  refine j_aload_n E dL_law_654 rfl ?_
  refine j_aload_n E dL_law_655 rfl ?_
  refine j_iload E dL_law_656 rfl ?_
  refine j_iconst (v := 1) E dL_law_658 ci_1 ?_
  refine j_iadd E dL_law_659 ?_
  refine j_sld E SX (vin_add hi (c := 1) (by decide) (by show nn i + nn (1 : Int32) < N; rw [show nn (1 : Int32) = 1 from by decide]; omega) hN2) dL_law_660 ?_
  refine j_aload_n E dL_law_661 rfl ?_
  refine j_iload E dL_law_662 rfl ?_
  refine j_iconst (v := 2) E dL_law_664 ci_2 ?_
  refine j_iadd E dL_law_665 ?_
  refine j_sld E SX (vin_add hi (c := 2) (by decide) (by show nn i + nn (2 : Int32) < N; rw [show nn (2 : Int32) = 2 from by decide]; omega) hN2) dL_law_666 ?_
  refine j_aload_n E dL_law_667 rfl ?_
  refine j_iload E dL_law_668 rfl ?_
  refine j_iconst (v := 3) E dL_law_670 ci_3 ?_
  refine j_iadd E dL_law_671 ?_
  refine j_sld E SX (vin_add hi (c := 3) (by decide) (by show nn i + nn (3 : Int32) < N; rw [show nn (3 : Int32) = 3 from by decide]; omega) hN2) dL_law_672 ?_
  refine j_mod E L (fun hM ad ar e0 M => by rw [← e0]; exact c_setLife l D S ad ar hM M I.cnt (f (nn (i + 1))) (f (nn (i + 2))) (f (nn (i + 3))) I.mou) (cw_L_142 E ⟨by show _ ≤ R.frames; omega, by show _ ≤ R.locals; omega, by show _ ≤ R.cells; omega, by show _ ≤ R.slots; omega, Nat.le_of_ble_eq_true rfl⟩) (q_930 E.tb) (q_931 E.tb) rfl rfl dL_law_673 rfl (fun h673 L => ?_)
  refine j_istore E dL_law_676 (by decide) ?_
  refine j_aload_n E dL_law_678 rfl ?_
  refine j_mod E L (fun hM ad ar e0 M => by rw [← e0]; exact c_thrown2 l D _ ad ar hM M) (cw_L_111 E ⟨by show _ ≤ R.frames; omega, by show _ ≤ R.locals; omega, by show _ ≤ R.cells; omega, by show _ ≤ R.slots; omega, Nat.le_of_ble_eq_true rfl⟩) (q_869 E.tb) (q_870 E.tb) rfl rfl dL_law_679 rfl (fun h679 L => ?_)
  refine j_iload E dL_law_682 rfl ?_
  refine j_icmp_eq (tgt := 689) E dL_law_684 (by decide) (fun _ => ?_) (fun q => (q rfl).elim)
  refine j_iload E dL_law_689 rfl ?_
  refine j_if_ne (tgt := 706) E dL_law_691 (by decide) (fun c_691 => ?_) (fun c_691 => ?_)
  · refine j_goto (tgt := 1731) E dL_law_706 (by decide) ?_
    refine J.wide (k := cells + 40) (n := slots + 5200) (by omega) (by omega) ?_
    refine J.sub (lo' := [(0, .ref sc), (1, .ref x), (2, .ref mo), (3, .ref o), (4, .ref od), (5, .int i)]) ⟨rfl, rfl, rfl, rfl, rfl, rfl, trivial⟩ ?_
    exact k (p_setLife S (f (nn (i + 1))) (f (nn (i + 2))) (f (nn (i + 3)))).1 g649 gD h679 (by rw [ph_setLife]; exact L)
  · refine j_aload_n E dL_law_694 rfl ?_
    refine j_iconst (v := 0) E dL_law_695 ci_0 ?_
    refine j_lald E L.out (vin_nI (n := 1) (k := 0) (by decide) (by decide)) dL_law_696 ?_
    refine j_iload E dL_law_697 rfl ?_
    refine j_i2l E dL_law_699 ?_
    refine j_lcmp E dL_law_700 ?_
    refine j_if_eq (tgt := 706) E dL_law_701 (by decide) (fun _ => ?_) (fun q => (q (lcmp_eq (hz c_691))).elim)
    refine j_goto (tgt := 1731) E dL_law_706 (by decide) ?_
    refine J.wide (k := cells + 40) (n := slots + 5200) (by omega) (by omega) ?_
    refine J.sub (lo' := [(0, .ref sc), (1, .ref x), (2, .ref mo), (3, .ref o), (4, .ref od), (5, .int i)]) ⟨rfl, rfl, rfl, rfl, rfl, rfl, trivial⟩ ?_
    exact k (p_setLife S (f (nn (i + 1))) (f (nn (i + 2))) (f (nn (i + 3)))).1 g649 gD h679 (by rw [ph_setLife]; exact L)
theorem ph_block {S : St} {mo : Int32} {ca : Int32} : (p_block S mo ca).1.1 0 5 0 = S.1 0 5 0 := by
  unfold p_block
  (repeat' split) <;> first | rfl | exact lev_0 (by decide) | exact (s1_ne (fun z => absurd z.2.1 (by decide))).trans (livN_c (by decide) 8)
set_option maxHeartbeats 4000000 in
set_option maxRecDepth 100000 in
theorem lc_block (E : Cx p l s m args meth c cL_law 9 RL D A) {S : St} {x mo sc o od N : Nat} {f : Nat → Int32} {g : Nat → Int64} {gD : Nat → UInt64} {h : AH} (L : LwS S S (180 * nn (S.1 0 5 0)) x mo o od g gD h) (SX : Scr s A sc N f) {i : Int32} (hi : i = nI (nn i)) (hN : nn i + 6 ≤ N) (hN2 : N ≤ 3072) (hR : 15 ≤ R.frames ∧ 400 ≤ R.locals ∧ cells + 40 ≤ R.cells ∧ slots + 5200 ≤ R.slots)
    (k : ∀ (S9 : St) (g9 : Nat → Int64) (gD9 : Nat → UInt64) (h9 : AH), LwS S9 S9 (180 * nn (S9.1 0 5 0)) x mo o od g9 gD9 h9 → J p l e R s m args below meth c D A 9 Q (cells + 40) (slots + 5200) h9 1731 [(0, .ref sc), (1, .ref x), (2, .ref mo), (3, .ref o), (4, .ref od), (5, .int i)] []) : J p l e R s m args below meth c D A 9 Q cells slots h 709 [(0, .ref sc), (1, .ref x), (2, .ref mo), (3, .ref o), (4, .ref od), (5, .int i)] [] := by
  have I := L.inv
  refine j_aload_n E dL_law_709 rfl ?_
  refine j_aload_n E dL_law_710 rfl ?_
  refine j_iload E dL_law_711 rfl ?_
  refine j_iconst (v := 1) E dL_law_713 ci_1 ?_
  refine j_iadd E dL_law_714 ?_
  refine j_sld E SX (vin_add hi (c := 1) (by decide) (by show nn i + nn (1 : Int32) < N; rw [show nn (1 : Int32) = 1 from by decide]; omega) hN2) dL_law_715 ?_
  refine j_aload_n E dL_law_716 rfl ?_
  refine j_iload E dL_law_717 rfl ?_
  refine j_iconst (v := 2) E dL_law_719 ci_2 ?_
  refine j_iadd E dL_law_720 ?_
  refine j_sld E SX (vin_add hi (c := 2) (by decide) (by show nn i + nn (2 : Int32) < N; rw [show nn (2 : Int32) = 2 from by decide]; omega) hN2) dL_law_721 ?_
  refine j_aload_n E dL_law_722 rfl ?_
  refine j_help E L (r := (p_block S (f (nn (i + 1))) (f (nn (i + 2))))) (fun hC0 ok hno => h_block l D S _ x o hC0 g ok hno (f (nn (i + 1))) (f (nn (i + 2)))) (cww_block E ⟨by show _ ≤ R.frames; omega, by show _ ≤ R.locals; omega, by show _ ≤ R.cells; omega, by show _ ≤ R.slots; omega, Nat.le_of_ble_eq_true rfl⟩) (q_461 E.tb) rfl dL_law_723 rfl (fun h723 g723 hz L => ?_)
  refine j_istore E dL_law_726 (by decide) ?_
  refine j_aload_n E dL_law_728 rfl ?_
  refine j_aload_n E dL_law_729 rfl ?_
  refine j_iload E dL_law_730 rfl ?_
  refine j_iconst (v := 1) E dL_law_732 ci_1 ?_
  refine j_iadd E dL_law_733 ?_
  refine j_sld E SX (vin_add hi (c := 1) (by decide) (by show nn i + nn (1 : Int32) < N; rw [show nn (1 : Int32) = 1 from by decide]; omega) hN2) dL_law_734 ?_
  refine j_aload_n E dL_law_735 rfl ?_
  refine j_iload E dL_law_736 rfl ?_
  refine j_iconst (v := 2) E dL_law_738 ci_2 ?_
  refine j_iadd E dL_law_739 ?_
  refine j_sld E SX (vin_add hi (c := 2) (by decide) (by show nn i + nn (2 : Int32) < N; rw [show nn (2 : Int32) = 2 from by decide]; omega) hN2) dL_law_740 ?_
  refine j_mod E L (fun hM ad ar e0 M => by rw [← e0]; exact c_block l D S ad ar hM M I.cnt (f (nn (i + 1))) (f (nn (i + 2))) I.mou) (cw_L_145 E ⟨by show _ ≤ R.frames; omega, by show _ ≤ R.locals; omega, by show _ ≤ R.cells; omega, by show _ ≤ R.slots; omega, Nat.le_of_ble_eq_true rfl⟩) (q_946 E.tb) (q_947 E.tb) rfl rfl dL_law_741 rfl (fun h741 L => ?_)
  refine j_istore E dL_law_744 (by decide) ?_
  refine j_aload_n E dL_law_746 rfl ?_
  refine j_mod E L (fun hM ad ar e0 M => by rw [← e0]; exact c_thrown2 l D _ ad ar hM M) (cw_L_111 E ⟨by show _ ≤ R.frames; omega, by show _ ≤ R.locals; omega, by show _ ≤ R.cells; omega, by show _ ≤ R.slots; omega, Nat.le_of_ble_eq_true rfl⟩) (q_869 E.tb) (q_870 E.tb) rfl rfl dL_law_747 rfl (fun h747 L => ?_)
  refine j_iload E dL_law_750 rfl ?_
  refine j_icmp_eq (tgt := 757) E dL_law_752 (by decide) (fun _ => ?_) (fun q => (q rfl).elim)
  refine j_iload E dL_law_757 rfl ?_
  refine j_if_ne (tgt := 774) E dL_law_759 (by decide) (fun c_759 => ?_) (fun c_759 => ?_)
  · refine j_goto (tgt := 1731) E dL_law_774 (by decide) ?_
    refine J.wide (k := cells + 40) (n := slots + 5200) (by omega) (by omega) ?_
    refine J.sub (lo' := [(0, .ref sc), (1, .ref x), (2, .ref mo), (3, .ref o), (4, .ref od), (5, .int i)]) ⟨rfl, rfl, rfl, rfl, rfl, rfl, trivial⟩ ?_
    exact k (p_block S (f (nn (i + 1))) (f (nn (i + 2)))).1 g723 gD h747 (by rw [ph_block]; exact L)
  · refine j_aload_n E dL_law_762 rfl ?_
    refine j_iconst (v := 0) E dL_law_763 ci_0 ?_
    refine j_lald E L.out (vin_nI (n := 1) (k := 0) (by decide) (by decide)) dL_law_764 ?_
    refine j_iload E dL_law_765 rfl ?_
    refine j_i2l E dL_law_767 ?_
    refine j_lcmp E dL_law_768 ?_
    refine j_if_eq (tgt := 774) E dL_law_769 (by decide) (fun _ => ?_) (fun q => (q (lcmp_eq (hz c_759))).elim)
    refine j_goto (tgt := 1731) E dL_law_774 (by decide) ?_
    refine J.wide (k := cells + 40) (n := slots + 5200) (by omega) (by omega) ?_
    refine J.sub (lo' := [(0, .ref sc), (1, .ref x), (2, .ref mo), (3, .ref o), (4, .ref od), (5, .int i)]) ⟨rfl, rfl, rfl, rfl, rfl, rfl, trivial⟩ ?_
    exact k (p_block S (f (nn (i + 1))) (f (nn (i + 2)))).1 g723 gD h747 (by rw [ph_block]; exact L)
theorem ph_repair {S : St} {mo : Int32} {ca : Int32} : (p_repair S mo ca).1.1 0 5 0 = S.1 0 5 0 := by
  unfold p_repair
  (repeat' split) <;> first | rfl | exact lev_0 (by decide) | exact (s1_ne (fun z => absurd z.2.1 (by decide))).trans (livN_c (by decide) 8)
set_option maxHeartbeats 4000000 in
set_option maxRecDepth 100000 in
theorem lc_repair (E : Cx p l s m args meth c cL_law 9 RL D A) {S : St} {x mo sc o od N : Nat} {f : Nat → Int32} {g : Nat → Int64} {gD : Nat → UInt64} {h : AH} (L : LwS S S (180 * nn (S.1 0 5 0)) x mo o od g gD h) (SX : Scr s A sc N f) {i : Int32} (hi : i = nI (nn i)) (hN : nn i + 6 ≤ N) (hN2 : N ≤ 3072) (hR : 15 ≤ R.frames ∧ 400 ≤ R.locals ∧ cells + 40 ≤ R.cells ∧ slots + 5200 ≤ R.slots)
    (k : ∀ (S9 : St) (g9 : Nat → Int64) (gD9 : Nat → UInt64) (h9 : AH), LwS S9 S9 (180 * nn (S9.1 0 5 0)) x mo o od g9 gD9 h9 → J p l e R s m args below meth c D A 9 Q (cells + 40) (slots + 5200) h9 1731 [(0, .ref sc), (1, .ref x), (2, .ref mo), (3, .ref o), (4, .ref od), (5, .int i)] []) : J p l e R s m args below meth c D A 9 Q cells slots h 777 [(0, .ref sc), (1, .ref x), (2, .ref mo), (3, .ref o), (4, .ref od), (5, .int i)] [] := by
  have I := L.inv
  refine j_aload_n E dL_law_777 rfl ?_
  refine j_aload_n E dL_law_778 rfl ?_
  refine j_iload E dL_law_779 rfl ?_
  refine j_iconst (v := 1) E dL_law_781 ci_1 ?_
  refine j_iadd E dL_law_782 ?_
  refine j_sld E SX (vin_add hi (c := 1) (by decide) (by show nn i + nn (1 : Int32) < N; rw [show nn (1 : Int32) = 1 from by decide]; omega) hN2) dL_law_783 ?_
  refine j_aload_n E dL_law_784 rfl ?_
  refine j_iload E dL_law_785 rfl ?_
  refine j_iconst (v := 2) E dL_law_787 ci_2 ?_
  refine j_iadd E dL_law_788 ?_
  refine j_sld E SX (vin_add hi (c := 2) (by decide) (by show nn i + nn (2 : Int32) < N; rw [show nn (2 : Int32) = 2 from by decide]; omega) hN2) dL_law_789 ?_
  refine j_aload_n E dL_law_790 rfl ?_
  refine j_help E L (r := (p_repair S (f (nn (i + 1))) (f (nn (i + 2))))) (fun hC0 ok hno => h_repair l D S _ x o hC0 g ok hno (f (nn (i + 1))) (f (nn (i + 2)))) (cww_repair E ⟨by show _ ≤ R.frames; omega, by show _ ≤ R.locals; omega, by show _ ≤ R.cells; omega, by show _ ≤ R.slots; omega, Nat.le_of_ble_eq_true rfl⟩) (q_473 E.tb) rfl dL_law_791 rfl (fun h791 g791 hz L => ?_)
  refine j_istore E dL_law_794 (by decide) ?_
  refine j_aload_n E dL_law_796 rfl ?_
  refine j_aload_n E dL_law_797 rfl ?_
  refine j_iload E dL_law_798 rfl ?_
  refine j_iconst (v := 1) E dL_law_800 ci_1 ?_
  refine j_iadd E dL_law_801 ?_
  refine j_sld E SX (vin_add hi (c := 1) (by decide) (by show nn i + nn (1 : Int32) < N; rw [show nn (1 : Int32) = 1 from by decide]; omega) hN2) dL_law_802 ?_
  refine j_aload_n E dL_law_803 rfl ?_
  refine j_iload E dL_law_804 rfl ?_
  refine j_iconst (v := 2) E dL_law_806 ci_2 ?_
  refine j_iadd E dL_law_807 ?_
  refine j_sld E SX (vin_add hi (c := 2) (by decide) (by show nn i + nn (2 : Int32) < N; rw [show nn (2 : Int32) = 2 from by decide]; omega) hN2) dL_law_808 ?_
  refine j_mod E L (fun hM ad ar e0 M => by rw [← e0]; exact c_repair l D S ad ar hM M I.cnt (f (nn (i + 1))) (f (nn (i + 2))) I.mou) (cw_L_148 E ⟨by show _ ≤ R.frames; omega, by show _ ≤ R.locals; omega, by show _ ≤ R.cells; omega, by show _ ≤ R.slots; omega, Nat.le_of_ble_eq_true rfl⟩) (q_954 E.tb) (q_955 E.tb) rfl rfl dL_law_809 rfl (fun h809 L => ?_)
  refine j_istore E dL_law_812 (by decide) ?_
  refine j_aload_n E dL_law_814 rfl ?_
  refine j_mod E L (fun hM ad ar e0 M => by rw [← e0]; exact c_thrown2 l D _ ad ar hM M) (cw_L_111 E ⟨by show _ ≤ R.frames; omega, by show _ ≤ R.locals; omega, by show _ ≤ R.cells; omega, by show _ ≤ R.slots; omega, Nat.le_of_ble_eq_true rfl⟩) (q_869 E.tb) (q_870 E.tb) rfl rfl dL_law_815 rfl (fun h815 L => ?_)
  refine j_iload E dL_law_818 rfl ?_
  refine j_icmp_eq (tgt := 825) E dL_law_820 (by decide) (fun _ => ?_) (fun q => (q rfl).elim)
  refine j_iload E dL_law_825 rfl ?_
  refine j_if_ne (tgt := 842) E dL_law_827 (by decide) (fun c_827 => ?_) (fun c_827 => ?_)
  · refine j_goto (tgt := 1731) E dL_law_842 (by decide) ?_
    refine J.wide (k := cells + 40) (n := slots + 5200) (by omega) (by omega) ?_
    refine J.sub (lo' := [(0, .ref sc), (1, .ref x), (2, .ref mo), (3, .ref o), (4, .ref od), (5, .int i)]) ⟨rfl, rfl, rfl, rfl, rfl, rfl, trivial⟩ ?_
    exact k (p_repair S (f (nn (i + 1))) (f (nn (i + 2)))).1 g791 gD h815 (by rw [ph_repair]; exact L)
  · refine j_aload_n E dL_law_830 rfl ?_
    refine j_iconst (v := 0) E dL_law_831 ci_0 ?_
    refine j_lald E L.out (vin_nI (n := 1) (k := 0) (by decide) (by decide)) dL_law_832 ?_
    refine j_iload E dL_law_833 rfl ?_
    refine j_i2l E dL_law_835 ?_
    refine j_lcmp E dL_law_836 ?_
    refine j_if_eq (tgt := 842) E dL_law_837 (by decide) (fun _ => ?_) (fun q => (q (lcmp_eq (hz c_827))).elim)
    refine j_goto (tgt := 1731) E dL_law_842 (by decide) ?_
    refine J.wide (k := cells + 40) (n := slots + 5200) (by omega) (by omega) ?_
    refine J.sub (lo' := [(0, .ref sc), (1, .ref x), (2, .ref mo), (3, .ref o), (4, .ref od), (5, .int i)]) ⟨rfl, rfl, rfl, rfl, rfl, rfl, trivial⟩ ?_
    exact k (p_repair S (f (nn (i + 1))) (f (nn (i + 2)))).1 g791 gD h815 (by rw [ph_repair]; exact L)
theorem ph_nextOpen {S : St} {mo : Int32} {f : Int32} : (p_nextOpen S mo f).1.1 0 5 0 = S.1 0 5 0 := by
  unfold p_nextOpen
  (repeat' split) <;> first | rfl | exact lev_0 (by decide) | exact (s1_ne (fun z => absurd z.2.1 (by decide))).trans (livN_c (by decide) 8)
set_option maxHeartbeats 4000000 in
set_option maxRecDepth 100000 in
theorem lc_nextOpen (E : Cx p l s m args meth c cL_law 9 RL D A) {S : St} {x mo sc o od N : Nat} {f : Nat → Int32} {g : Nat → Int64} {gD : Nat → UInt64} {h : AH} (L : LwS S S (180 * nn (S.1 0 5 0)) x mo o od g gD h) (SX : Scr s A sc N f) {i : Int32} (hi : i = nI (nn i)) (hN : nn i + 6 ≤ N) (hN2 : N ≤ 3072) (hR : 15 ≤ R.frames ∧ 400 ≤ R.locals ∧ cells + 40 ≤ R.cells ∧ slots + 5200 ≤ R.slots)
    (k : ∀ (S9 : St) (g9 : Nat → Int64) (gD9 : Nat → UInt64) (h9 : AH), LwS S9 S9 (180 * nn (S9.1 0 5 0)) x mo o od g9 gD9 h9 → J p l e R s m args below meth c D A 9 Q (cells + 40) (slots + 5200) h9 1731 [(0, .ref sc), (1, .ref x), (2, .ref mo), (3, .ref o), (4, .ref od), (5, .int i)] []) : J p l e R s m args below meth c D A 9 Q cells slots h 845 [(0, .ref sc), (1, .ref x), (2, .ref mo), (3, .ref o), (4, .ref od), (5, .int i)] [] := by
  have I := L.inv
  refine j_aload_n E dL_law_845 rfl ?_
  refine j_aload_n E dL_law_846 rfl ?_
  refine j_iload E dL_law_847 rfl ?_
  refine j_iconst (v := 1) E dL_law_849 ci_1 ?_
  refine j_iadd E dL_law_850 ?_
  refine j_sld E SX (vin_add hi (c := 1) (by decide) (by show nn i + nn (1 : Int32) < N; rw [show nn (1 : Int32) = 1 from by decide]; omega) hN2) dL_law_851 ?_
  refine j_aload_n E dL_law_852 rfl ?_
  refine j_iload E dL_law_853 rfl ?_
  refine j_iconst (v := 2) E dL_law_855 ci_2 ?_
  refine j_iadd E dL_law_856 ?_
  refine j_sld E SX (vin_add hi (c := 2) (by decide) (by show nn i + nn (2 : Int32) < N; rw [show nn (2 : Int32) = 2 from by decide]; omega) hN2) dL_law_857 ?_
  refine j_aload_n E dL_law_858 rfl ?_
  refine j_help E L (r := (p_nextOpen S (f (nn (i + 1))) (f (nn (i + 2))))) (fun hC0 ok hno => h_nextOpen l D S _ x o hC0 g ok hno (f (nn (i + 1))) (f (nn (i + 2)))) (cww_nextOpen E ⟨by show _ ≤ R.frames; omega, by show _ ≤ R.locals; omega, by show _ ≤ R.cells; omega, by show _ ≤ R.slots; omega, Nat.le_of_ble_eq_true rfl⟩) (q_481 E.tb) rfl dL_law_859 rfl (fun h859 g859 hz L => ?_)
  refine j_istore E dL_law_862 (by decide) ?_
  refine j_aload_n E dL_law_864 rfl ?_
  refine j_aload_n E dL_law_865 rfl ?_
  refine j_iload E dL_law_866 rfl ?_
  refine j_iconst (v := 1) E dL_law_868 ci_1 ?_
  refine j_iadd E dL_law_869 ?_
  refine j_sld E SX (vin_add hi (c := 1) (by decide) (by show nn i + nn (1 : Int32) < N; rw [show nn (1 : Int32) = 1 from by decide]; omega) hN2) dL_law_870 ?_
  refine j_aload_n E dL_law_871 rfl ?_
  refine j_iload E dL_law_872 rfl ?_
  refine j_iconst (v := 2) E dL_law_874 ci_2 ?_
  refine j_iadd E dL_law_875 ?_
  refine j_sld E SX (vin_add hi (c := 2) (by decide) (by show nn i + nn (2 : Int32) < N; rw [show nn (2 : Int32) = 2 from by decide]; omega) hN2) dL_law_876 ?_
  refine j_mod E L (fun hM ad ar e0 M => by rw [← e0]; exact c_nextOpen l D S ad ar hM M I.cnt (f (nn (i + 1))) (f (nn (i + 2))) I.mou) (cw_L_151 E ⟨by show _ ≤ R.frames; omega, by show _ ≤ R.locals; omega, by show _ ≤ R.cells; omega, by show _ ≤ R.slots; omega, Nat.le_of_ble_eq_true rfl⟩) (q_962 E.tb) (q_963 E.tb) rfl rfl dL_law_877 rfl (fun h877 L => ?_)
  refine j_istore E dL_law_880 (by decide) ?_
  refine j_aload_n E dL_law_882 rfl ?_
  refine j_mod E L (fun hM ad ar e0 M => by rw [← e0]; exact c_thrown2 l D _ ad ar hM M) (cw_L_111 E ⟨by show _ ≤ R.frames; omega, by show _ ≤ R.locals; omega, by show _ ≤ R.cells; omega, by show _ ≤ R.slots; omega, Nat.le_of_ble_eq_true rfl⟩) (q_869 E.tb) (q_870 E.tb) rfl rfl dL_law_883 rfl (fun h883 L => ?_)
  refine j_iload E dL_law_886 rfl ?_
  refine j_icmp_eq (tgt := 893) E dL_law_888 (by decide) (fun _ => ?_) (fun q => (q rfl).elim)
  refine j_iload E dL_law_893 rfl ?_
  refine j_if_ne (tgt := 910) E dL_law_895 (by decide) (fun c_895 => ?_) (fun c_895 => ?_)
  · refine j_goto (tgt := 1731) E dL_law_910 (by decide) ?_
    refine J.wide (k := cells + 40) (n := slots + 5200) (by omega) (by omega) ?_
    refine J.sub (lo' := [(0, .ref sc), (1, .ref x), (2, .ref mo), (3, .ref o), (4, .ref od), (5, .int i)]) ⟨rfl, rfl, rfl, rfl, rfl, rfl, trivial⟩ ?_
    exact k (p_nextOpen S (f (nn (i + 1))) (f (nn (i + 2)))).1 g859 gD h883 (by rw [ph_nextOpen]; exact L)
  · refine j_aload_n E dL_law_898 rfl ?_
    refine j_iconst (v := 0) E dL_law_899 ci_0 ?_
    refine j_lald E L.out (vin_nI (n := 1) (k := 0) (by decide) (by decide)) dL_law_900 ?_
    refine j_iload E dL_law_901 rfl ?_
    refine j_i2l E dL_law_903 ?_
    refine j_lcmp E dL_law_904 ?_
    refine j_if_eq (tgt := 910) E dL_law_905 (by decide) (fun _ => ?_) (fun q => (q (lcmp_eq (hz c_895))).elim)
    refine j_goto (tgt := 1731) E dL_law_910 (by decide) ?_
    refine J.wide (k := cells + 40) (n := slots + 5200) (by omega) (by omega) ?_
    refine J.sub (lo' := [(0, .ref sc), (1, .ref x), (2, .ref mo), (3, .ref o), (4, .ref od), (5, .int i)]) ⟨rfl, rfl, rfl, rfl, rfl, rfl, trivial⟩ ?_
    exact k (p_nextOpen S (f (nn (i + 1))) (f (nn (i + 2)))).1 g859 gD h883 (by rw [ph_nextOpen]; exact L)
theorem ph_addMachine {S : St} {x : Int32} : (p_addMachine S x).1.1 0 5 0 = S.1 0 5 0 := by
  unfold p_addMachine
  (repeat' split) <;> first | rfl | exact lev_0 (by decide) | exact (s1_ne (fun z => absurd z.2.1 (by decide))).trans (livN_c (by decide) 8)
set_option maxHeartbeats 4000000 in
set_option maxRecDepth 100000 in
theorem lc_addMachine (E : Cx p l s m args meth c cL_law 9 RL D A) {S : St} {x mo sc o od N : Nat} {f : Nat → Int32} {g : Nat → Int64} {gD : Nat → UInt64} {h : AH} (L : LwS S S (180 * nn (S.1 0 5 0)) x mo o od g gD h) (SX : Scr s A sc N f) {i : Int32} (hi : i = nI (nn i)) (hN : nn i + 6 ≤ N) (hN2 : N ≤ 3072) (hR : 15 ≤ R.frames ∧ 400 ≤ R.locals ∧ cells + 40 ≤ R.cells ∧ slots + 5200 ≤ R.slots)
    (k : ∀ (S9 : St) (g9 : Nat → Int64) (gD9 : Nat → UInt64) (h9 : AH), LwS S9 S9 (180 * nn (S9.1 0 5 0)) x mo o od g9 gD9 h9 → J p l e R s m args below meth c D A 9 Q (cells + 40) (slots + 5200) h9 1731 [(0, .ref sc), (1, .ref x), (2, .ref mo), (3, .ref o), (4, .ref od), (5, .int i)] []) : J p l e R s m args below meth c D A 9 Q cells slots h 913 [(0, .ref sc), (1, .ref x), (2, .ref mo), (3, .ref o), (4, .ref od), (5, .int i)] [] := by
  have I := L.inv
  refine j_aload_n E dL_law_913 rfl ?_
  refine j_aload_n E dL_law_914 rfl ?_
  refine j_iload E dL_law_915 rfl ?_
  refine j_iconst (v := 1) E dL_law_917 ci_1 ?_
  refine j_iadd E dL_law_918 ?_
  refine j_sld E SX (vin_add hi (c := 1) (by decide) (by show nn i + nn (1 : Int32) < N; rw [show nn (1 : Int32) = 1 from by decide]; omega) hN2) dL_law_919 ?_
  refine j_aload_n E dL_law_920 rfl ?_
  refine j_help E L (r := (p_addMachine S (f (nn (i + 1))))) (fun hC0 ok hno => h_addMachine l D S _ x o hC0 g ok hno (f (nn (i + 1)))) (cww_addMachine E ⟨by show _ ≤ R.frames; omega, by show _ ≤ R.locals; omega, by show _ ≤ R.cells; omega, by show _ ≤ R.slots; omega, Nat.le_of_ble_eq_true rfl⟩) (q_506 E.tb) rfl dL_law_921 rfl (fun h921 g921 hz L => ?_)
  refine j_istore E dL_law_924 (by decide) ?_
  refine j_aload_n E dL_law_926 rfl ?_
  refine j_aload_n E dL_law_927 rfl ?_
  refine j_iload E dL_law_928 rfl ?_
  refine j_iconst (v := 1) E dL_law_930 ci_1 ?_
  refine j_iadd E dL_law_931 ?_
  refine j_sld E SX (vin_add hi (c := 1) (by decide) (by show nn i + nn (1 : Int32) < N; rw [show nn (1 : Int32) = 1 from by decide]; omega) hN2) dL_law_932 ?_
  refine j_mod E L (fun hM ad ar e0 M => by rw [← e0]; exact c_addMachine l D S ad ar hM M I.cnt (f (nn (i + 1)))) (cw_L_154 E ⟨by show _ ≤ R.frames; omega, by show _ ≤ R.locals; omega, by show _ ≤ R.cells; omega, by show _ ≤ R.slots; omega, Nat.le_of_ble_eq_true rfl⟩) (q_970 E.tb) (q_971 E.tb) rfl rfl dL_law_933 rfl (fun h933 L => ?_)
  refine j_istore E dL_law_936 (by decide) ?_
  refine j_aload_n E dL_law_938 rfl ?_
  refine j_mod E L (fun hM ad ar e0 M => by rw [← e0]; exact c_thrown2 l D _ ad ar hM M) (cw_L_111 E ⟨by show _ ≤ R.frames; omega, by show _ ≤ R.locals; omega, by show _ ≤ R.cells; omega, by show _ ≤ R.slots; omega, Nat.le_of_ble_eq_true rfl⟩) (q_869 E.tb) (q_870 E.tb) rfl rfl dL_law_939 rfl (fun h939 L => ?_)
  refine j_iload E dL_law_942 rfl ?_
  refine j_icmp_eq (tgt := 949) E dL_law_944 (by decide) (fun _ => ?_) (fun q => (q rfl).elim)
  refine j_iload E dL_law_949 rfl ?_
  refine j_if_ne (tgt := 966) E dL_law_951 (by decide) (fun c_951 => ?_) (fun c_951 => ?_)
  · refine j_goto (tgt := 1731) E dL_law_966 (by decide) ?_
    refine J.wide (k := cells + 40) (n := slots + 5200) (by omega) (by omega) ?_
    refine J.sub (lo' := [(0, .ref sc), (1, .ref x), (2, .ref mo), (3, .ref o), (4, .ref od), (5, .int i)]) ⟨rfl, rfl, rfl, rfl, rfl, rfl, trivial⟩ ?_
    exact k (p_addMachine S (f (nn (i + 1)))).1 g921 gD h939 (by rw [ph_addMachine]; exact L)
  · refine j_aload_n E dL_law_954 rfl ?_
    refine j_iconst (v := 0) E dL_law_955 ci_0 ?_
    refine j_lald E L.out (vin_nI (n := 1) (k := 0) (by decide) (by decide)) dL_law_956 ?_
    refine j_iload E dL_law_957 rfl ?_
    refine j_i2l E dL_law_959 ?_
    refine j_lcmp E dL_law_960 ?_
    refine j_if_eq (tgt := 966) E dL_law_961 (by decide) (fun _ => ?_) (fun q => (q (lcmp_eq (hz c_951))).elim)
    refine j_goto (tgt := 1731) E dL_law_966 (by decide) ?_
    refine J.wide (k := cells + 40) (n := slots + 5200) (by omega) (by omega) ?_
    refine J.sub (lo' := [(0, .ref sc), (1, .ref x), (2, .ref mo), (3, .ref o), (4, .ref od), (5, .int i)]) ⟨rfl, rfl, rfl, rfl, rfl, rfl, trivial⟩ ?_
    exact k (p_addMachine S (f (nn (i + 1)))).1 g921 gD h939 (by rw [ph_addMachine]; exact L)
theorem ph_mount {S : St} {a : Int32} {mo : Int32} : (p_mount S a mo).1.1 0 5 0 = S.1 0 5 0 := by
  unfold p_mount
  (repeat' split) <;> first | rfl | exact lev_0 (by decide) | exact (s1_ne (fun z => absurd z.2.1 (by decide))).trans (livN_c (by decide) 8)
set_option maxHeartbeats 4000000 in
set_option maxRecDepth 100000 in
theorem lc_mount (E : Cx p l s m args meth c cL_law 9 RL D A) {S : St} {x mo sc o od N : Nat} {f : Nat → Int32} {g : Nat → Int64} {gD : Nat → UInt64} {h : AH} (L : LwS S S (180 * nn (S.1 0 5 0)) x mo o od g gD h) (SX : Scr s A sc N f) {i : Int32} (hi : i = nI (nn i)) (hN : nn i + 6 ≤ N) (hN2 : N ≤ 3072) (hR : 15 ≤ R.frames ∧ 400 ≤ R.locals ∧ cells + 40 ≤ R.cells ∧ slots + 5200 ≤ R.slots)
    (k : ∀ (S9 : St) (g9 : Nat → Int64) (gD9 : Nat → UInt64) (h9 : AH), LwS S9 S9 (180 * nn (S9.1 0 5 0)) x mo o od g9 gD9 h9 → J p l e R s m args below meth c D A 9 Q (cells + 40) (slots + 5200) h9 1731 [(0, .ref sc), (1, .ref x), (2, .ref mo), (3, .ref o), (4, .ref od), (5, .int i)] []) : J p l e R s m args below meth c D A 9 Q cells slots h 969 [(0, .ref sc), (1, .ref x), (2, .ref mo), (3, .ref o), (4, .ref od), (5, .int i)] [] := by
  have I := L.inv
  refine j_aload_n E dL_law_969 rfl ?_
  refine j_aload_n E dL_law_970 rfl ?_
  refine j_iload E dL_law_971 rfl ?_
  refine j_iconst (v := 1) E dL_law_973 ci_1 ?_
  refine j_iadd E dL_law_974 ?_
  refine j_sld E SX (vin_add hi (c := 1) (by decide) (by show nn i + nn (1 : Int32) < N; rw [show nn (1 : Int32) = 1 from by decide]; omega) hN2) dL_law_975 ?_
  refine j_aload_n E dL_law_976 rfl ?_
  refine j_iload E dL_law_977 rfl ?_
  refine j_iconst (v := 2) E dL_law_979 ci_2 ?_
  refine j_iadd E dL_law_980 ?_
  refine j_sld E SX (vin_add hi (c := 2) (by decide) (by show nn i + nn (2 : Int32) < N; rw [show nn (2 : Int32) = 2 from by decide]; omega) hN2) dL_law_981 ?_
  refine j_aload_n E dL_law_982 rfl ?_
  refine j_help E L (r := (p_mount S (f (nn (i + 1))) (f (nn (i + 2))))) (fun hC0 ok hno => h_mount l D S _ x o hC0 g ok hno (f (nn (i + 1))) (f (nn (i + 2)))) (cww_mount E ⟨by show _ ≤ R.frames; omega, by show _ ≤ R.locals; omega, by show _ ≤ R.cells; omega, by show _ ≤ R.slots; omega, Nat.le_of_ble_eq_true rfl⟩) (q_530 E.tb) rfl dL_law_983 rfl (fun h983 g983 hz L => ?_)
  refine j_istore E dL_law_986 (by decide) ?_
  refine j_aload_n E dL_law_988 rfl ?_
  refine j_aload_n E dL_law_989 rfl ?_
  refine j_iload E dL_law_990 rfl ?_
  refine j_iconst (v := 1) E dL_law_992 ci_1 ?_
  refine j_iadd E dL_law_993 ?_
  refine j_sld E SX (vin_add hi (c := 1) (by decide) (by show nn i + nn (1 : Int32) < N; rw [show nn (1 : Int32) = 1 from by decide]; omega) hN2) dL_law_994 ?_
  refine j_aload_n E dL_law_995 rfl ?_
  refine j_iload E dL_law_996 rfl ?_
  refine j_iconst (v := 2) E dL_law_998 ci_2 ?_
  refine j_iadd E dL_law_999 ?_
  refine j_sld E SX (vin_add hi (c := 2) (by decide) (by show nn i + nn (2 : Int32) < N; rw [show nn (2 : Int32) = 2 from by decide]; omega) hN2) dL_law_1000 ?_
  refine j_mod E L (fun hM ad ar e0 M => by rw [← e0]; exact c_mount l D S ad ar hM M I.cnt (f (nn (i + 1))) (f (nn (i + 2)))) (cw_L_157 E ⟨by show _ ≤ R.frames; omega, by show _ ≤ R.locals; omega, by show _ ≤ R.cells; omega, by show _ ≤ R.slots; omega, Nat.le_of_ble_eq_true rfl⟩) (q_974 E.tb) (q_975 E.tb) rfl rfl dL_law_1001 rfl (fun h1001 L => ?_)
  refine j_istore E dL_law_1004 (by decide) ?_
  refine j_aload_n E dL_law_1006 rfl ?_
  refine j_mod E L (fun hM ad ar e0 M => by rw [← e0]; exact c_thrown2 l D _ ad ar hM M) (cw_L_111 E ⟨by show _ ≤ R.frames; omega, by show _ ≤ R.locals; omega, by show _ ≤ R.cells; omega, by show _ ≤ R.slots; omega, Nat.le_of_ble_eq_true rfl⟩) (q_869 E.tb) (q_870 E.tb) rfl rfl dL_law_1007 rfl (fun h1007 L => ?_)
  refine j_iload E dL_law_1010 rfl ?_
  refine j_icmp_eq (tgt := 1017) E dL_law_1012 (by decide) (fun _ => ?_) (fun q => (q rfl).elim)
  refine j_iload E dL_law_1017 rfl ?_
  refine j_if_ne (tgt := 1034) E dL_law_1019 (by decide) (fun c_1019 => ?_) (fun c_1019 => ?_)
  · refine j_goto (tgt := 1731) E dL_law_1034 (by decide) ?_
    refine J.wide (k := cells + 40) (n := slots + 5200) (by omega) (by omega) ?_
    refine J.sub (lo' := [(0, .ref sc), (1, .ref x), (2, .ref mo), (3, .ref o), (4, .ref od), (5, .int i)]) ⟨rfl, rfl, rfl, rfl, rfl, rfl, trivial⟩ ?_
    exact k (p_mount S (f (nn (i + 1))) (f (nn (i + 2)))).1 g983 gD h1007 (by rw [ph_mount]; exact L)
  · refine j_aload_n E dL_law_1022 rfl ?_
    refine j_iconst (v := 0) E dL_law_1023 ci_0 ?_
    refine j_lald E L.out (vin_nI (n := 1) (k := 0) (by decide) (by decide)) dL_law_1024 ?_
    refine j_iload E dL_law_1025 rfl ?_
    refine j_i2l E dL_law_1027 ?_
    refine j_lcmp E dL_law_1028 ?_
    refine j_if_eq (tgt := 1034) E dL_law_1029 (by decide) (fun _ => ?_) (fun q => (q (lcmp_eq (hz c_1019))).elim)
    refine j_goto (tgt := 1731) E dL_law_1034 (by decide) ?_
    refine J.wide (k := cells + 40) (n := slots + 5200) (by omega) (by omega) ?_
    refine J.sub (lo' := [(0, .ref sc), (1, .ref x), (2, .ref mo), (3, .ref o), (4, .ref od), (5, .int i)]) ⟨rfl, rfl, rfl, rfl, rfl, rfl, trivial⟩ ?_
    exact k (p_mount S (f (nn (i + 1))) (f (nn (i + 2)))).1 g983 gD h1007 (by rw [ph_mount]; exact L)
theorem ph_run {S : St} {a : Int32} {o : Int32} : (p_run S a o).1.1 0 5 0 = S.1 0 5 0 := by
  unfold p_run
  (repeat' split) <;> first | rfl | exact lev_0 (by decide) | exact (s1_ne (fun z => absurd z.2.1 (by decide))).trans (livN_c (by decide) 8)
set_option maxHeartbeats 4000000 in
set_option maxRecDepth 100000 in
theorem lc_run (E : Cx p l s m args meth c cL_law 9 RL D A) {S : St} {x mo sc o od N : Nat} {f : Nat → Int32} {g : Nat → Int64} {gD : Nat → UInt64} {h : AH} (L : LwS S S (180 * nn (S.1 0 5 0)) x mo o od g gD h) (SX : Scr s A sc N f) {i : Int32} (hi : i = nI (nn i)) (hN : nn i + 6 ≤ N) (hN2 : N ≤ 3072) (hR : 15 ≤ R.frames ∧ 400 ≤ R.locals ∧ cells + 40 ≤ R.cells ∧ slots + 5200 ≤ R.slots)
    (k : ∀ (S9 : St) (g9 : Nat → Int64) (gD9 : Nat → UInt64) (h9 : AH), LwS S9 S9 (180 * nn (S9.1 0 5 0)) x mo o od g9 gD9 h9 → J p l e R s m args below meth c D A 9 Q (cells + 40) (slots + 5200) h9 1731 [(0, .ref sc), (1, .ref x), (2, .ref mo), (3, .ref o), (4, .ref od), (5, .int i)] []) : J p l e R s m args below meth c D A 9 Q cells slots h 1037 [(0, .ref sc), (1, .ref x), (2, .ref mo), (3, .ref o), (4, .ref od), (5, .int i)] [] := by
  have I := L.inv
  refine j_aload_n E dL_law_1037 rfl ?_
  refine j_aload_n E dL_law_1038 rfl ?_
  refine j_iload E dL_law_1039 rfl ?_
  refine j_iconst (v := 1) E dL_law_1041 ci_1 ?_
  refine j_iadd E dL_law_1042 ?_
  refine j_sld E SX (vin_add hi (c := 1) (by decide) (by show nn i + nn (1 : Int32) < N; rw [show nn (1 : Int32) = 1 from by decide]; omega) hN2) dL_law_1043 ?_
  refine j_aload_n E dL_law_1044 rfl ?_
  refine j_iload E dL_law_1045 rfl ?_
  refine j_iconst (v := 2) E dL_law_1047 ci_2 ?_
  refine j_iadd E dL_law_1048 ?_
  refine j_sld E SX (vin_add hi (c := 2) (by decide) (by show nn i + nn (2 : Int32) < N; rw [show nn (2 : Int32) = 2 from by decide]; omega) hN2) dL_law_1049 ?_
  refine j_aload_n E dL_law_1050 rfl ?_
  refine j_help E L (r := (p_run S (f (nn (i + 1))) (f (nn (i + 2))))) (fun hC0 ok hno => h_run l D S _ x o hC0 g ok hno (f (nn (i + 1))) (f (nn (i + 2)))) (cww_run E ⟨by show _ ≤ R.frames; omega, by show _ ≤ R.locals; omega, by show _ ≤ R.cells; omega, by show _ ≤ R.slots; omega, Nat.le_of_ble_eq_true rfl⟩) (q_560 E.tb) rfl dL_law_1051 rfl (fun h1051 g1051 hz L => ?_)
  refine j_istore E dL_law_1054 (by decide) ?_
  refine j_aload_n E dL_law_1056 rfl ?_
  refine j_aload_n E dL_law_1057 rfl ?_
  refine j_iload E dL_law_1058 rfl ?_
  refine j_iconst (v := 1) E dL_law_1060 ci_1 ?_
  refine j_iadd E dL_law_1061 ?_
  refine j_sld E SX (vin_add hi (c := 1) (by decide) (by show nn i + nn (1 : Int32) < N; rw [show nn (1 : Int32) = 1 from by decide]; omega) hN2) dL_law_1062 ?_
  refine j_aload_n E dL_law_1063 rfl ?_
  refine j_iload E dL_law_1064 rfl ?_
  refine j_iconst (v := 2) E dL_law_1066 ci_2 ?_
  refine j_iadd E dL_law_1067 ?_
  refine j_sld E SX (vin_add hi (c := 2) (by decide) (by show nn i + nn (2 : Int32) < N; rw [show nn (2 : Int32) = 2 from by decide]; omega) hN2) dL_law_1068 ?_
  refine j_mod E L (fun hM ad ar e0 M => by rw [← e0]; exact c_run l D S ad ar hM M I.cnt (f (nn (i + 1))) (f (nn (i + 2))) I.mou I.ord) (cw_L_160 E ⟨by show _ ≤ R.frames; omega, by show _ ≤ R.locals; omega, by show _ ≤ R.cells; omega, by show _ ≤ R.slots; omega, Nat.le_of_ble_eq_true rfl⟩) (q_982 E.tb) (q_983 E.tb) rfl rfl dL_law_1069 rfl (fun h1069 L => ?_)
  refine j_istore E dL_law_1072 (by decide) ?_
  refine j_aload_n E dL_law_1074 rfl ?_
  refine j_mod E L (fun hM ad ar e0 M => by rw [← e0]; exact c_thrown2 l D _ ad ar hM M) (cw_L_111 E ⟨by show _ ≤ R.frames; omega, by show _ ≤ R.locals; omega, by show _ ≤ R.cells; omega, by show _ ≤ R.slots; omega, Nat.le_of_ble_eq_true rfl⟩) (q_869 E.tb) (q_870 E.tb) rfl rfl dL_law_1075 rfl (fun h1075 L => ?_)
  refine j_iload E dL_law_1078 rfl ?_
  refine j_icmp_eq (tgt := 1085) E dL_law_1080 (by decide) (fun _ => ?_) (fun q => (q rfl).elim)
  refine j_iload E dL_law_1085 rfl ?_
  refine j_if_ne (tgt := 1102) E dL_law_1087 (by decide) (fun c_1087 => ?_) (fun c_1087 => ?_)
  · refine j_goto (tgt := 1731) E dL_law_1102 (by decide) ?_
    refine J.wide (k := cells + 40) (n := slots + 5200) (by omega) (by omega) ?_
    refine J.sub (lo' := [(0, .ref sc), (1, .ref x), (2, .ref mo), (3, .ref o), (4, .ref od), (5, .int i)]) ⟨rfl, rfl, rfl, rfl, rfl, rfl, trivial⟩ ?_
    exact k (p_run S (f (nn (i + 1))) (f (nn (i + 2)))).1 g1051 gD h1075 (by rw [ph_run]; exact L)
  · refine j_aload_n E dL_law_1090 rfl ?_
    refine j_iconst (v := 0) E dL_law_1091 ci_0 ?_
    refine j_lald E L.out (vin_nI (n := 1) (k := 0) (by decide) (by decide)) dL_law_1092 ?_
    refine j_iload E dL_law_1093 rfl ?_
    refine j_i2l E dL_law_1095 ?_
    refine j_lcmp E dL_law_1096 ?_
    refine j_if_eq (tgt := 1102) E dL_law_1097 (by decide) (fun _ => ?_) (fun q => (q (lcmp_eq (hz c_1087))).elim)
    refine j_goto (tgt := 1731) E dL_law_1102 (by decide) ?_
    refine J.wide (k := cells + 40) (n := slots + 5200) (by omega) (by omega) ?_
    refine J.sub (lo' := [(0, .ref sc), (1, .ref x), (2, .ref mo), (3, .ref o), (4, .ref od), (5, .int i)]) ⟨rfl, rfl, rfl, rfl, rfl, rfl, trivial⟩ ?_
    exact k (p_run S (f (nn (i + 1))) (f (nn (i + 2)))).1 g1051 gD h1075 (by rw [ph_run]; exact L)
theorem ph_order {S : St} {mo : Int32} {r : Int32} {g : Int32} {w : Int32} : (p_order S mo r g w).1.1 0 5 0 = S.1 0 5 0 := by
  unfold p_order
  (repeat' split) <;> first | rfl | exact lev_0 (by decide) | exact (s1_ne (fun z => absurd z.2.1 (by decide))).trans (livN_c (by decide) 8)
set_option maxHeartbeats 4000000 in
set_option maxRecDepth 100000 in
theorem lc_order (E : Cx p l s m args meth c cL_law 9 RL D A) {S : St} {x mo sc o od N : Nat} {f : Nat → Int32} {g : Nat → Int64} {gD : Nat → UInt64} {h : AH} (L : LwS S S (180 * nn (S.1 0 5 0)) x mo o od g gD h) (SX : Scr s A sc N f) {i : Int32} (hi : i = nI (nn i)) (hN : nn i + 6 ≤ N) (hN2 : N ≤ 3072) (hR : 15 ≤ R.frames ∧ 400 ≤ R.locals ∧ cells + 40 ≤ R.cells ∧ slots + 5200 ≤ R.slots)
    (k : ∀ (S9 : St) (g9 : Nat → Int64) (gD9 : Nat → UInt64) (h9 : AH), LwS S9 S9 (180 * nn (S9.1 0 5 0)) x mo o od g9 gD9 h9 → J p l e R s m args below meth c D A 9 Q (cells + 40) (slots + 5200) h9 1731 [(0, .ref sc), (1, .ref x), (2, .ref mo), (3, .ref o), (4, .ref od), (5, .int i)] []) : J p l e R s m args below meth c D A 9 Q cells slots h 1105 [(0, .ref sc), (1, .ref x), (2, .ref mo), (3, .ref o), (4, .ref od), (5, .int i)] [] := by
  have I := L.inv
  refine j_aload_n E dL_law_1105 rfl ?_
  refine j_aload_n E dL_law_1106 rfl ?_
  refine j_iload E dL_law_1107 rfl ?_
  refine j_iconst (v := 1) E dL_law_1109 ci_1 ?_
  refine j_iadd E dL_law_1110 ?_
  refine j_sld E SX (vin_add hi (c := 1) (by decide) (by show nn i + nn (1 : Int32) < N; rw [show nn (1 : Int32) = 1 from by decide]; omega) hN2) dL_law_1111 ?_
  refine j_aload_n E dL_law_1112 rfl ?_
  refine j_iload E dL_law_1113 rfl ?_
  refine j_iconst (v := 2) E dL_law_1115 ci_2 ?_
  refine j_iadd E dL_law_1116 ?_
  refine j_sld E SX (vin_add hi (c := 2) (by decide) (by show nn i + nn (2 : Int32) < N; rw [show nn (2 : Int32) = 2 from by decide]; omega) hN2) dL_law_1117 ?_
  refine j_aload_n E dL_law_1118 rfl ?_
  refine j_iload E dL_law_1119 rfl ?_
  refine j_iconst (v := 3) E dL_law_1121 ci_3 ?_
  refine j_iadd E dL_law_1122 ?_
  refine j_sld E SX (vin_add hi (c := 3) (by decide) (by show nn i + nn (3 : Int32) < N; rw [show nn (3 : Int32) = 3 from by decide]; omega) hN2) dL_law_1123 ?_
  refine j_aload_n E dL_law_1124 rfl ?_
  refine j_iload E dL_law_1125 rfl ?_
  refine j_iconst (v := 4) E dL_law_1127 ci_4 ?_
  refine j_iadd E dL_law_1128 ?_
  refine j_sld E SX (vin_add hi (c := 4) (by decide) (by show nn i + nn (4 : Int32) < N; rw [show nn (4 : Int32) = 4 from by decide]; omega) hN2) dL_law_1129 ?_
  refine j_aload_n E dL_law_1130 rfl ?_
  refine j_help E L (r := (p_order S (f (nn (i + 1))) (f (nn (i + 2))) (f (nn (i + 3))) (f (nn (i + 4))))) (fun hC0 ok hno => h_order l D S _ x o hC0 g ok hno (f (nn (i + 1))) (f (nn (i + 2))) (f (nn (i + 3))) (f (nn (i + 4)))) (cww_order E ⟨by show _ ≤ R.frames; omega, by show _ ≤ R.locals; omega, by show _ ≤ R.cells; omega, by show _ ≤ R.slots; omega, Nat.le_of_ble_eq_true rfl⟩) (q_582 E.tb) rfl dL_law_1131 rfl (fun h1131 g1131 hz L => ?_)
  refine j_istore E dL_law_1134 (by decide) ?_
  refine j_aload_n E dL_law_1136 rfl ?_
  refine j_aload_n E dL_law_1137 rfl ?_
  refine j_iload E dL_law_1138 rfl ?_
  refine j_iconst (v := 1) E dL_law_1140 ci_1 ?_
  refine j_iadd E dL_law_1141 ?_
  refine j_sld E SX (vin_add hi (c := 1) (by decide) (by show nn i + nn (1 : Int32) < N; rw [show nn (1 : Int32) = 1 from by decide]; omega) hN2) dL_law_1142 ?_
  refine j_aload_n E dL_law_1143 rfl ?_
  refine j_iload E dL_law_1144 rfl ?_
  refine j_iconst (v := 2) E dL_law_1146 ci_2 ?_
  refine j_iadd E dL_law_1147 ?_
  refine j_sld E SX (vin_add hi (c := 2) (by decide) (by show nn i + nn (2 : Int32) < N; rw [show nn (2 : Int32) = 2 from by decide]; omega) hN2) dL_law_1148 ?_
  refine j_aload_n E dL_law_1149 rfl ?_
  refine j_iload E dL_law_1150 rfl ?_
  refine j_iconst (v := 3) E dL_law_1152 ci_3 ?_
  refine j_iadd E dL_law_1153 ?_
  refine j_sld E SX (vin_add hi (c := 3) (by decide) (by show nn i + nn (3 : Int32) < N; rw [show nn (3 : Int32) = 3 from by decide]; omega) hN2) dL_law_1154 ?_
  refine j_aload_n E dL_law_1155 rfl ?_
  refine j_iload E dL_law_1156 rfl ?_
  refine j_iconst (v := 4) E dL_law_1158 ci_4 ?_
  refine j_iadd E dL_law_1159 ?_
  refine j_sld E SX (vin_add hi (c := 4) (by decide) (by show nn i + nn (4 : Int32) < N; rw [show nn (4 : Int32) = 4 from by decide]; omega) hN2) dL_law_1160 ?_
  refine j_mod E L (fun hM ad ar e0 M => by rw [← e0]; exact c_order l D S ad ar hM M I.cnt (f (nn (i + 1))) (f (nn (i + 2))) (f (nn (i + 3))) (f (nn (i + 4)))) (cw_L_164 E ⟨by show _ ≤ R.frames; omega, by show _ ≤ R.locals; omega, by show _ ≤ R.cells; omega, by show _ ≤ R.slots; omega, Nat.le_of_ble_eq_true rfl⟩) (q_990 E.tb) (q_991 E.tb) rfl rfl dL_law_1161 rfl (fun h1161 L => ?_)
  refine j_istore E dL_law_1164 (by decide) ?_
  refine j_aload_n E dL_law_1166 rfl ?_
  refine j_mod E L (fun hM ad ar e0 M => by rw [← e0]; exact c_thrown2 l D _ ad ar hM M) (cw_L_111 E ⟨by show _ ≤ R.frames; omega, by show _ ≤ R.locals; omega, by show _ ≤ R.cells; omega, by show _ ≤ R.slots; omega, Nat.le_of_ble_eq_true rfl⟩) (q_869 E.tb) (q_870 E.tb) rfl rfl dL_law_1167 rfl (fun h1167 L => ?_)
  refine j_iload E dL_law_1170 rfl ?_
  refine j_icmp_eq (tgt := 1177) E dL_law_1172 (by decide) (fun _ => ?_) (fun q => (q rfl).elim)
  refine j_iload E dL_law_1177 rfl ?_
  refine j_if_ne (tgt := 1194) E dL_law_1179 (by decide) (fun c_1179 => ?_) (fun c_1179 => ?_)
  · refine j_goto (tgt := 1731) E dL_law_1194 (by decide) ?_
    refine J.wide (k := cells + 40) (n := slots + 5200) (by omega) (by omega) ?_
    refine J.sub (lo' := [(0, .ref sc), (1, .ref x), (2, .ref mo), (3, .ref o), (4, .ref od), (5, .int i)]) ⟨rfl, rfl, rfl, rfl, rfl, rfl, trivial⟩ ?_
    exact k (p_order S (f (nn (i + 1))) (f (nn (i + 2))) (f (nn (i + 3))) (f (nn (i + 4)))).1 g1131 gD h1167 (by rw [ph_order]; exact L)
  · refine j_aload_n E dL_law_1182 rfl ?_
    refine j_iconst (v := 0) E dL_law_1183 ci_0 ?_
    refine j_lald E L.out (vin_nI (n := 1) (k := 0) (by decide) (by decide)) dL_law_1184 ?_
    refine j_iload E dL_law_1185 rfl ?_
    refine j_i2l E dL_law_1187 ?_
    refine j_lcmp E dL_law_1188 ?_
    refine j_if_eq (tgt := 1194) E dL_law_1189 (by decide) (fun _ => ?_) (fun q => (q (lcmp_eq (hz c_1179))).elim)
    refine j_goto (tgt := 1731) E dL_law_1194 (by decide) ?_
    refine J.wide (k := cells + 40) (n := slots + 5200) (by omega) (by omega) ?_
    refine J.sub (lo' := [(0, .ref sc), (1, .ref x), (2, .ref mo), (3, .ref o), (4, .ref od), (5, .int i)]) ⟨rfl, rfl, rfl, rfl, rfl, rfl, trivial⟩ ?_
    exact k (p_order S (f (nn (i + 1))) (f (nn (i + 2))) (f (nn (i + 3))) (f (nn (i + 4)))).1 g1131 gD h1167 (by rw [ph_order]; exact L)
theorem ph_lacks {S : St} {x : Int32} : (p_lacks S x).1.1 0 5 0 = S.1 0 5 0 := by
  unfold p_lacks
  (repeat' split) <;> first | rfl | exact lev_0 (by decide) | exact (s1_ne (fun z => absurd z.2.1 (by decide))).trans (livN_c (by decide) 8)
set_option maxHeartbeats 4000000 in
set_option maxRecDepth 100000 in
theorem lc_lacks (E : Cx p l s m args meth c cL_law 9 RL D A) {S : St} {x mo sc o od N : Nat} {f : Nat → Int32} {g : Nat → Int64} {gD : Nat → UInt64} {h : AH} (L : LwS S S (180 * nn (S.1 0 5 0)) x mo o od g gD h) (SX : Scr s A sc N f) {i : Int32} (hi : i = nI (nn i)) (hN : nn i + 6 ≤ N) (hN2 : N ≤ 3072) (hR : 15 ≤ R.frames ∧ 400 ≤ R.locals ∧ cells + 40 ≤ R.cells ∧ slots + 5200 ≤ R.slots)
    (k : ∀ (S9 : St) (g9 : Nat → Int64) (gD9 : Nat → UInt64) (h9 : AH), LwS S9 S9 (180 * nn (S9.1 0 5 0)) x mo o od g9 gD9 h9 → J p l e R s m args below meth c D A 9 Q (cells + 40) (slots + 5200) h9 1731 [(0, .ref sc), (1, .ref x), (2, .ref mo), (3, .ref o), (4, .ref od), (5, .int i)] []) : J p l e R s m args below meth c D A 9 Q cells slots h 1197 [(0, .ref sc), (1, .ref x), (2, .ref mo), (3, .ref o), (4, .ref od), (5, .int i)] [] := by
  have I := L.inv
  refine j_aload_n E dL_law_1197 rfl ?_
  refine j_aload_n E dL_law_1198 rfl ?_
  refine j_iload E dL_law_1199 rfl ?_
  refine j_iconst (v := 1) E dL_law_1201 ci_1 ?_
  refine j_iadd E dL_law_1202 ?_
  refine j_sld E SX (vin_add hi (c := 1) (by decide) (by show nn i + nn (1 : Int32) < N; rw [show nn (1 : Int32) = 1 from by decide]; omega) hN2) dL_law_1203 ?_
  refine j_aload_n E dL_law_1204 rfl ?_
  refine j_help E L (r := (p_lacks S (f (nn (i + 1))))) (fun hC0 ok hno => h_lacks l D S _ x o hC0 g ok hno (f (nn (i + 1)))) (cww_lacks E ⟨by show _ ≤ R.frames; omega, by show _ ≤ R.locals; omega, by show _ ≤ R.cells; omega, by show _ ≤ R.slots; omega, Nat.le_of_ble_eq_true rfl⟩) (q_629 E.tb) rfl dL_law_1205 rfl (fun h1205 g1205 hz L => ?_)
  refine j_istore E dL_law_1208 (by decide) ?_
  refine j_aload_n E dL_law_1210 rfl ?_
  refine j_aload_n E dL_law_1211 rfl ?_
  refine j_iload E dL_law_1212 rfl ?_
  refine j_iconst (v := 1) E dL_law_1214 ci_1 ?_
  refine j_iadd E dL_law_1215 ?_
  refine j_sld E SX (vin_add hi (c := 1) (by decide) (by show nn i + nn (1 : Int32) < N; rw [show nn (1 : Int32) = 1 from by decide]; omega) hN2) dL_law_1216 ?_
  refine j_mod E L (fun hM ad ar e0 M => by rw [← e0]; exact c_lacks l D S ad ar hM M I.cnt (f (nn (i + 1)))) (cw_L_167 E ⟨by show _ ≤ R.frames; omega, by show _ ≤ R.locals; omega, by show _ ≤ R.cells; omega, by show _ ≤ R.slots; omega, Nat.le_of_ble_eq_true rfl⟩) (q_994 E.tb) (q_995 E.tb) rfl rfl dL_law_1217 rfl (fun h1217 L => ?_)
  refine j_istore E dL_law_1220 (by decide) ?_
  refine j_aload_n E dL_law_1222 rfl ?_
  refine j_mod E L (fun hM ad ar e0 M => by rw [← e0]; exact c_thrown2 l D _ ad ar hM M) (cw_L_111 E ⟨by show _ ≤ R.frames; omega, by show _ ≤ R.locals; omega, by show _ ≤ R.cells; omega, by show _ ≤ R.slots; omega, Nat.le_of_ble_eq_true rfl⟩) (q_869 E.tb) (q_870 E.tb) rfl rfl dL_law_1223 rfl (fun h1223 L => ?_)
  refine j_iload E dL_law_1226 rfl ?_
  refine j_icmp_eq (tgt := 1233) E dL_law_1228 (by decide) (fun _ => ?_) (fun q => (q rfl).elim)
  refine j_iload E dL_law_1233 rfl ?_
  refine j_if_ne (tgt := 1250) E dL_law_1235 (by decide) (fun c_1235 => ?_) (fun c_1235 => ?_)
  · refine j_goto (tgt := 1731) E dL_law_1250 (by decide) ?_
    refine J.wide (k := cells + 40) (n := slots + 5200) (by omega) (by omega) ?_
    refine J.sub (lo' := [(0, .ref sc), (1, .ref x), (2, .ref mo), (3, .ref o), (4, .ref od), (5, .int i)]) ⟨rfl, rfl, rfl, rfl, rfl, rfl, trivial⟩ ?_
    exact k (p_lacks S (f (nn (i + 1)))).1 g1205 gD h1223 (by rw [ph_lacks]; exact L)
  · refine j_aload_n E dL_law_1238 rfl ?_
    refine j_iconst (v := 0) E dL_law_1239 ci_0 ?_
    refine j_lald E L.out (vin_nI (n := 1) (k := 0) (by decide) (by decide)) dL_law_1240 ?_
    refine j_iload E dL_law_1241 rfl ?_
    refine j_i2l E dL_law_1243 ?_
    refine j_lcmp E dL_law_1244 ?_
    refine j_if_eq (tgt := 1250) E dL_law_1245 (by decide) (fun _ => ?_) (fun q => (q (lcmp_eq (hz c_1235))).elim)
    refine j_goto (tgt := 1731) E dL_law_1250 (by decide) ?_
    refine J.wide (k := cells + 40) (n := slots + 5200) (by omega) (by omega) ?_
    refine J.sub (lo' := [(0, .ref sc), (1, .ref x), (2, .ref mo), (3, .ref o), (4, .ref od), (5, .int i)]) ⟨rfl, rfl, rfl, rfl, rfl, rfl, trivial⟩ ?_
    exact k (p_lacks S (f (nn (i + 1)))).1 g1205 gD h1223 (by rw [ph_lacks]; exact L)
theorem ph_hoursNeeded {S : St} {x : Int32} : (p_hoursNeeded S x).1.1 0 5 0 = S.1 0 5 0 := by
  unfold p_hoursNeeded
  (repeat' split) <;> first | rfl | exact lev_0 (by decide) | exact (s1_ne (fun z => absurd z.2.1 (by decide))).trans (livN_c (by decide) 8)
set_option maxHeartbeats 4000000 in
set_option maxRecDepth 100000 in
theorem lc_hoursNeeded (E : Cx p l s m args meth c cL_law 9 RL D A) {S : St} {x mo sc o od N : Nat} {f : Nat → Int32} {g : Nat → Int64} {gD : Nat → UInt64} {h : AH} (L : LwS S S (180 * nn (S.1 0 5 0)) x mo o od g gD h) (SX : Scr s A sc N f) {i : Int32} (hi : i = nI (nn i)) (hN : nn i + 6 ≤ N) (hN2 : N ≤ 3072) (hR : 15 ≤ R.frames ∧ 400 ≤ R.locals ∧ cells + 40 ≤ R.cells ∧ slots + 5200 ≤ R.slots)
    (k : ∀ (S9 : St) (g9 : Nat → Int64) (gD9 : Nat → UInt64) (h9 : AH), LwS S9 S9 (180 * nn (S9.1 0 5 0)) x mo o od g9 gD9 h9 → J p l e R s m args below meth c D A 9 Q (cells + 40) (slots + 5200) h9 1731 [(0, .ref sc), (1, .ref x), (2, .ref mo), (3, .ref o), (4, .ref od), (5, .int i)] []) : J p l e R s m args below meth c D A 9 Q cells slots h 1253 [(0, .ref sc), (1, .ref x), (2, .ref mo), (3, .ref o), (4, .ref od), (5, .int i)] [] := by
  have I := L.inv
  refine j_aload_n E dL_law_1253 rfl ?_
  refine j_aload_n E dL_law_1254 rfl ?_
  refine j_iload E dL_law_1255 rfl ?_
  refine j_iconst (v := 1) E dL_law_1257 ci_1 ?_
  refine j_iadd E dL_law_1258 ?_
  refine j_sld E SX (vin_add hi (c := 1) (by decide) (by show nn i + nn (1 : Int32) < N; rw [show nn (1 : Int32) = 1 from by decide]; omega) hN2) dL_law_1259 ?_
  refine j_aload_n E dL_law_1260 rfl ?_
  refine j_help E L (r := (p_hoursNeeded S (f (nn (i + 1))))) (fun hC0 ok hno => h_hoursNeeded l D S _ x o hC0 g ok hno (f (nn (i + 1)))) (cww_hoursNeeded E ⟨by show _ ≤ R.frames; omega, by show _ ≤ R.locals; omega, by show _ ≤ R.cells; omega, by show _ ≤ R.slots; omega, Nat.le_of_ble_eq_true rfl⟩) (q_636 E.tb) rfl dL_law_1261 rfl (fun h1261 g1261 hz L => ?_)
  refine j_istore E dL_law_1264 (by decide) ?_
  refine j_aload_n E dL_law_1266 rfl ?_
  refine j_aload_n E dL_law_1267 rfl ?_
  refine j_iload E dL_law_1268 rfl ?_
  refine j_iconst (v := 1) E dL_law_1270 ci_1 ?_
  refine j_iadd E dL_law_1271 ?_
  refine j_sld E SX (vin_add hi (c := 1) (by decide) (by show nn i + nn (1 : Int32) < N; rw [show nn (1 : Int32) = 1 from by decide]; omega) hN2) dL_law_1272 ?_
  refine j_mod E L (fun hM ad ar e0 M => by rw [← e0]; exact c_hoursNeeded l D S ad ar hM M I.cnt (f (nn (i + 1))) I.mou I.ord) (cw_L_170 E ⟨by show _ ≤ R.frames; omega, by show _ ≤ R.locals; omega, by show _ ≤ R.cells; omega, by show _ ≤ R.slots; omega, Nat.le_of_ble_eq_true rfl⟩) (q_998 E.tb) (q_999 E.tb) rfl rfl dL_law_1273 rfl (fun h1273 L => ?_)
  refine j_istore E dL_law_1276 (by decide) ?_
  refine j_aload_n E dL_law_1278 rfl ?_
  refine j_mod E L (fun hM ad ar e0 M => by rw [← e0]; exact c_thrown2 l D _ ad ar hM M) (cw_L_111 E ⟨by show _ ≤ R.frames; omega, by show _ ≤ R.locals; omega, by show _ ≤ R.cells; omega, by show _ ≤ R.slots; omega, Nat.le_of_ble_eq_true rfl⟩) (q_869 E.tb) (q_870 E.tb) rfl rfl dL_law_1279 rfl (fun h1279 L => ?_)
  refine j_iload E dL_law_1282 rfl ?_
  refine j_icmp_eq (tgt := 1289) E dL_law_1284 (by decide) (fun _ => ?_) (fun q => (q rfl).elim)
  refine j_iload E dL_law_1289 rfl ?_
  refine j_if_ne (tgt := 1306) E dL_law_1291 (by decide) (fun c_1291 => ?_) (fun c_1291 => ?_)
  · refine j_goto (tgt := 1731) E dL_law_1306 (by decide) ?_
    refine J.wide (k := cells + 40) (n := slots + 5200) (by omega) (by omega) ?_
    refine J.sub (lo' := [(0, .ref sc), (1, .ref x), (2, .ref mo), (3, .ref o), (4, .ref od), (5, .int i)]) ⟨rfl, rfl, rfl, rfl, rfl, rfl, trivial⟩ ?_
    exact k (p_hoursNeeded S (f (nn (i + 1)))).1 g1261 gD h1279 (by rw [ph_hoursNeeded]; exact L)
  · refine j_aload_n E dL_law_1294 rfl ?_
    refine j_iconst (v := 0) E dL_law_1295 ci_0 ?_
    refine j_lald E L.out (vin_nI (n := 1) (k := 0) (by decide) (by decide)) dL_law_1296 ?_
    refine j_iload E dL_law_1297 rfl ?_
    refine j_i2l E dL_law_1299 ?_
    refine j_lcmp E dL_law_1300 ?_
    refine j_if_eq (tgt := 1306) E dL_law_1301 (by decide) (fun _ => ?_) (fun q => (q (lcmp_eq (hz c_1291))).elim)
    refine j_goto (tgt := 1731) E dL_law_1306 (by decide) ?_
    refine J.wide (k := cells + 40) (n := slots + 5200) (by omega) (by omega) ?_
    refine J.sub (lo' := [(0, .ref sc), (1, .ref x), (2, .ref mo), (3, .ref o), (4, .ref od), (5, .int i)]) ⟨rfl, rfl, rfl, rfl, rfl, rfl, trivial⟩ ?_
    exact k (p_hoursNeeded S (f (nn (i + 1)))).1 g1261 gD h1279 (by rw [ph_hoursNeeded]; exact L)
theorem ph_shots {S : St} {x : Int32} : (p_shots S x).1.1 0 5 0 = S.1 0 5 0 := by
  unfold p_shots
  (repeat' split) <;> first | rfl | exact lev_0 (by decide) | exact (s1_ne (fun z => absurd z.2.1 (by decide))).trans (livN_c (by decide) 8)
set_option maxHeartbeats 4000000 in
set_option maxRecDepth 100000 in
theorem lc_shots (E : Cx p l s m args meth c cL_law 9 RL D A) {S : St} {x mo sc o od N : Nat} {f : Nat → Int32} {g : Nat → Int64} {gD : Nat → UInt64} {h : AH} (L : LwS S S (180 * nn (S.1 0 5 0)) x mo o od g gD h) (SX : Scr s A sc N f) {i : Int32} (hi : i = nI (nn i)) (hN : nn i + 6 ≤ N) (hN2 : N ≤ 3072) (hR : 15 ≤ R.frames ∧ 400 ≤ R.locals ∧ cells + 40 ≤ R.cells ∧ slots + 5200 ≤ R.slots)
    (k : ∀ (S9 : St) (g9 : Nat → Int64) (gD9 : Nat → UInt64) (h9 : AH), LwS S9 S9 (180 * nn (S9.1 0 5 0)) x mo o od g9 gD9 h9 → J p l e R s m args below meth c D A 9 Q (cells + 40) (slots + 5200) h9 1731 [(0, .ref sc), (1, .ref x), (2, .ref mo), (3, .ref o), (4, .ref od), (5, .int i)] []) : J p l e R s m args below meth c D A 9 Q cells slots h 1309 [(0, .ref sc), (1, .ref x), (2, .ref mo), (3, .ref o), (4, .ref od), (5, .int i)] [] := by
  have I := L.inv
  refine j_aload_n E dL_law_1309 rfl ?_
  refine j_aload_n E dL_law_1310 rfl ?_
  refine j_iload E dL_law_1311 rfl ?_
  refine j_iconst (v := 1) E dL_law_1313 ci_1 ?_
  refine j_iadd E dL_law_1314 ?_
  refine j_sld E SX (vin_add hi (c := 1) (by decide) (by show nn i + nn (1 : Int32) < N; rw [show nn (1 : Int32) = 1 from by decide]; omega) hN2) dL_law_1315 ?_
  refine j_aload_n E dL_law_1316 rfl ?_
  refine j_help E L (r := (p_shots S (f (nn (i + 1))))) (fun hC0 ok hno => h_shots l D S _ x o hC0 g ok hno (f (nn (i + 1)))) (cww_shots E ⟨by show _ ≤ R.frames; omega, by show _ ≤ R.locals; omega, by show _ ≤ R.cells; omega, by show _ ≤ R.slots; omega, Nat.le_of_ble_eq_true rfl⟩) (q_647 E.tb) rfl dL_law_1317 rfl (fun h1317 g1317 hz L => ?_)
  refine j_istore E dL_law_1320 (by decide) ?_
  refine j_aload_n E dL_law_1322 rfl ?_
  refine j_aload_n E dL_law_1323 rfl ?_
  refine j_iload E dL_law_1324 rfl ?_
  refine j_iconst (v := 1) E dL_law_1326 ci_1 ?_
  refine j_iadd E dL_law_1327 ?_
  refine j_sld E SX (vin_add hi (c := 1) (by decide) (by show nn i + nn (1 : Int32) < N; rw [show nn (1 : Int32) = 1 from by decide]; omega) hN2) dL_law_1328 ?_
  refine j_mod E L (fun hM ad ar e0 M => by rw [← e0]; exact c_shots l D S ad ar hM M I.cnt (f (nn (i + 1)))) (cw_L_173 E ⟨by show _ ≤ R.frames; omega, by show _ ≤ R.locals; omega, by show _ ≤ R.cells; omega, by show _ ≤ R.slots; omega, Nat.le_of_ble_eq_true rfl⟩) (q_1002 E.tb) (q_1003 E.tb) rfl rfl dL_law_1329 rfl (fun h1329 L => ?_)
  refine j_istore E dL_law_1332 (by decide) ?_
  refine j_aload_n E dL_law_1334 rfl ?_
  refine j_mod E L (fun hM ad ar e0 M => by rw [← e0]; exact c_thrown2 l D _ ad ar hM M) (cw_L_111 E ⟨by show _ ≤ R.frames; omega, by show _ ≤ R.locals; omega, by show _ ≤ R.cells; omega, by show _ ≤ R.slots; omega, Nat.le_of_ble_eq_true rfl⟩) (q_869 E.tb) (q_870 E.tb) rfl rfl dL_law_1335 rfl (fun h1335 L => ?_)
  refine j_iload E dL_law_1338 rfl ?_
  refine j_icmp_eq (tgt := 1345) E dL_law_1340 (by decide) (fun _ => ?_) (fun q => (q rfl).elim)
  refine j_iload E dL_law_1345 rfl ?_
  refine j_if_ne (tgt := 1362) E dL_law_1347 (by decide) (fun c_1347 => ?_) (fun c_1347 => ?_)
  · refine j_goto (tgt := 1731) E dL_law_1362 (by decide) ?_
    refine J.wide (k := cells + 40) (n := slots + 5200) (by omega) (by omega) ?_
    refine J.sub (lo' := [(0, .ref sc), (1, .ref x), (2, .ref mo), (3, .ref o), (4, .ref od), (5, .int i)]) ⟨rfl, rfl, rfl, rfl, rfl, rfl, trivial⟩ ?_
    exact k (p_shots S (f (nn (i + 1)))).1 g1317 gD h1335 (by rw [ph_shots]; exact L)
  · refine j_aload_n E dL_law_1350 rfl ?_
    refine j_iconst (v := 0) E dL_law_1351 ci_0 ?_
    refine j_lald E L.out (vin_nI (n := 1) (k := 0) (by decide) (by decide)) dL_law_1352 ?_
    refine j_iload E dL_law_1353 rfl ?_
    refine j_i2l E dL_law_1355 ?_
    refine j_lcmp E dL_law_1356 ?_
    refine j_if_eq (tgt := 1362) E dL_law_1357 (by decide) (fun _ => ?_) (fun q => (q (lcmp_eq (hz c_1347))).elim)
    refine j_goto (tgt := 1731) E dL_law_1362 (by decide) ?_
    refine J.wide (k := cells + 40) (n := slots + 5200) (by omega) (by omega) ?_
    refine J.sub (lo' := [(0, .ref sc), (1, .ref x), (2, .ref mo), (3, .ref o), (4, .ref od), (5, .int i)]) ⟨rfl, rfl, rfl, rfl, rfl, rfl, trivial⟩ ?_
    exact k (p_shots S (f (nn (i + 1)))).1 g1317 gD h1335 (by rw [ph_shots]; exact L)
theorem ph_regrindIn {S : St} {x : Int32} : (p_regrindIn S x).1.1 0 5 0 = S.1 0 5 0 := by
  unfold p_regrindIn
  (repeat' split) <;> first | rfl | exact lev_0 (by decide) | exact (s1_ne (fun z => absurd z.2.1 (by decide))).trans (livN_c (by decide) 8)
set_option maxHeartbeats 4000000 in
set_option maxRecDepth 100000 in
theorem lc_regrindIn (E : Cx p l s m args meth c cL_law 9 RL D A) {S : St} {x mo sc o od N : Nat} {f : Nat → Int32} {g : Nat → Int64} {gD : Nat → UInt64} {h : AH} (L : LwS S S (180 * nn (S.1 0 5 0)) x mo o od g gD h) (SX : Scr s A sc N f) {i : Int32} (hi : i = nI (nn i)) (hN : nn i + 6 ≤ N) (hN2 : N ≤ 3072) (hR : 15 ≤ R.frames ∧ 400 ≤ R.locals ∧ cells + 40 ≤ R.cells ∧ slots + 5200 ≤ R.slots)
    (k : ∀ (S9 : St) (g9 : Nat → Int64) (gD9 : Nat → UInt64) (h9 : AH), LwS S9 S9 (180 * nn (S9.1 0 5 0)) x mo o od g9 gD9 h9 → J p l e R s m args below meth c D A 9 Q (cells + 40) (slots + 5200) h9 1731 [(0, .ref sc), (1, .ref x), (2, .ref mo), (3, .ref o), (4, .ref od), (5, .int i)] []) : J p l e R s m args below meth c D A 9 Q cells slots h 1365 [(0, .ref sc), (1, .ref x), (2, .ref mo), (3, .ref o), (4, .ref od), (5, .int i)] [] := by
  have I := L.inv
  refine j_aload_n E dL_law_1365 rfl ?_
  refine j_aload_n E dL_law_1366 rfl ?_
  refine j_iload E dL_law_1367 rfl ?_
  refine j_iconst (v := 1) E dL_law_1369 ci_1 ?_
  refine j_iadd E dL_law_1370 ?_
  refine j_sld E SX (vin_add hi (c := 1) (by decide) (by show nn i + nn (1 : Int32) < N; rw [show nn (1 : Int32) = 1 from by decide]; omega) hN2) dL_law_1371 ?_
  refine j_aload_n E dL_law_1372 rfl ?_
  refine j_helpl E L (r := (p_regrindIn S (f (nn (i + 1))))) (fun hC0 ok hno => h_regrindIn l D S _ x o hC0 g ok hno (f (nn (i + 1)))) (cww_regrindIn E ⟨by show _ ≤ R.frames; omega, by show _ ≤ R.locals; omega, by show _ ≤ R.cells; omega, by show _ ≤ R.slots; omega, Nat.le_of_ble_eq_true rfl⟩) (q_654 E.tb) rfl dL_law_1373 rfl (fun h1373 g1373 hz L => ?_)
  refine j_istore E dL_law_1376 (by decide) ?_
  refine j_aload_n E dL_law_1378 rfl ?_
  refine j_aload_n E dL_law_1379 rfl ?_
  refine j_iload E dL_law_1380 rfl ?_
  refine j_iconst (v := 1) E dL_law_1382 ci_1 ?_
  refine j_iadd E dL_law_1383 ?_
  refine j_sld E SX (vin_add hi (c := 1) (by decide) (by show nn i + nn (1 : Int32) < N; rw [show nn (1 : Int32) = 1 from by decide]; omega) hN2) dL_law_1384 ?_
  refine j_mod E L (fun hM ad ar e0 M => by rw [← e0]; exact c_regrindIn l D S ad ar hM M I.cnt (f (nn (i + 1)))) (cw_L_176 E ⟨by show _ ≤ R.frames; omega, by show _ ≤ R.locals; omega, by show _ ≤ R.cells; omega, by show _ ≤ R.slots; omega, Nat.le_of_ble_eq_true rfl⟩) (q_1006 E.tb) (q_1007 E.tb) rfl rfl dL_law_1385 rfl (fun h1385 L => ?_)
  refine j_lstore E dL_law_1388 (by decide) ?_
  refine j_aload_n E dL_law_1390 rfl ?_
  refine j_mod E L (fun hM ad ar e0 M => by rw [← e0]; exact c_thrown2 l D _ ad ar hM M) (cw_L_111 E ⟨by show _ ≤ R.frames; omega, by show _ ≤ R.locals; omega, by show _ ≤ R.cells; omega, by show _ ≤ R.slots; omega, Nat.le_of_ble_eq_true rfl⟩) (q_869 E.tb) (q_870 E.tb) rfl rfl dL_law_1391 rfl (fun h1391 L => ?_)
  refine j_iload E dL_law_1394 rfl ?_
  refine j_icmp_eq (tgt := 1401) E dL_law_1396 (by decide) (fun _ => ?_) (fun q => (q rfl).elim)
  refine j_iload E dL_law_1401 rfl ?_
  refine j_if_ne (tgt := 1417) E dL_law_1403 (by decide) (fun c_1403 => ?_) (fun c_1403 => ?_)
  · refine j_goto (tgt := 1731) E dL_law_1417 (by decide) ?_
    refine J.wide (k := cells + 40) (n := slots + 5200) (by omega) (by omega) ?_
    refine J.sub (lo' := [(0, .ref sc), (1, .ref x), (2, .ref mo), (3, .ref o), (4, .ref od), (5, .int i)]) ⟨rfl, rfl, rfl, rfl, rfl, rfl, trivial⟩ ?_
    exact k (p_regrindIn S (f (nn (i + 1)))).1 g1373 gD h1391 (by rw [ph_regrindIn]; exact L)
  · refine j_aload_n E dL_law_1406 rfl ?_
    refine j_iconst (v := 0) E dL_law_1407 ci_0 ?_
    refine j_lald E L.out (vin_nI (n := 1) (k := 0) (by decide) (by decide)) dL_law_1408 ?_
    refine j_lload E dL_law_1409 rfl ?_
    refine j_lcmp E dL_law_1411 ?_
    refine j_if_eq (tgt := 1417) E dL_law_1412 (by decide) (fun _ => ?_) (fun q => (q (lcmp_eq (hz c_1403))).elim)
    refine j_goto (tgt := 1731) E dL_law_1417 (by decide) ?_
    refine J.wide (k := cells + 40) (n := slots + 5200) (by omega) (by omega) ?_
    refine J.sub (lo' := [(0, .ref sc), (1, .ref x), (2, .ref mo), (3, .ref o), (4, .ref od), (5, .int i)]) ⟨rfl, rfl, rfl, rfl, rfl, rfl, trivial⟩ ?_
    exact k (p_regrindIn S (f (nn (i + 1)))).1 g1373 gD h1391 (by rw [ph_regrindIn]; exact L)
theorem ph_regrindByShots {S : St} {x : Int32} : (p_regrindIn S x).1.1 0 5 0 = S.1 0 5 0 := by
  unfold p_regrindIn
  (repeat' split) <;> first | rfl | exact lev_0 (by decide) | exact (s1_ne (fun z => absurd z.2.1 (by decide))).trans (livN_c (by decide) 8)
set_option maxHeartbeats 4000000 in
set_option maxRecDepth 100000 in
theorem lc_regrindByShots (E : Cx p l s m args meth c cL_law 9 RL D A) {S : St} {x mo sc o od N : Nat} {f : Nat → Int32} {g : Nat → Int64} {gD : Nat → UInt64} {h : AH} (L : LwS S S (180 * nn (S.1 0 5 0)) x mo o od g gD h) (SX : Scr s A sc N f) {i : Int32} (hi : i = nI (nn i)) (hN : nn i + 6 ≤ N) (hN2 : N ≤ 3072) (hR : 15 ≤ R.frames ∧ 400 ≤ R.locals ∧ cells + 40 ≤ R.cells ∧ slots + 5200 ≤ R.slots)
    (k : ∀ (S9 : St) (g9 : Nat → Int64) (gD9 : Nat → UInt64) (h9 : AH), LwS S9 S9 (180 * nn (S9.1 0 5 0)) x mo o od g9 gD9 h9 → J p l e R s m args below meth c D A 9 Q (cells + 40) (slots + 5200) h9 1731 [(0, .ref sc), (1, .ref x), (2, .ref mo), (3, .ref o), (4, .ref od), (5, .int i)] []) : J p l e R s m args below meth c D A 9 Q cells slots h 1420 [(0, .ref sc), (1, .ref x), (2, .ref mo), (3, .ref o), (4, .ref od), (5, .int i)] [] := by
  have I := L.inv
  refine j_aload_n E dL_law_1420 rfl ?_
  refine j_aload_n E dL_law_1421 rfl ?_
  refine j_iload E dL_law_1422 rfl ?_
  refine j_iconst (v := 1) E dL_law_1424 ci_1 ?_
  refine j_iadd E dL_law_1425 ?_
  refine j_sld E SX (vin_add hi (c := 1) (by decide) (by show nn i + nn (1 : Int32) < N; rw [show nn (1 : Int32) = 1 from by decide]; omega) hN2) dL_law_1426 ?_
  refine j_aload_n E dL_law_1427 rfl ?_
  refine j_helpl E L (r := (p_regrindIn S (f (nn (i + 1))))) (fun hC0 ok hno => h_regrindByShots l D S _ x o hC0 g ok hno (f (nn (i + 1)))) (cww_regrindByShots E ⟨by show _ ≤ R.frames; omega, by show _ ≤ R.locals; omega, by show _ ≤ R.cells; omega, by show _ ≤ R.slots; omega, Nat.le_of_ble_eq_true rfl⟩) (q_661 E.tb) rfl dL_law_1428 rfl (fun h1428 g1428 hz L => ?_)
  refine j_istore E dL_law_1431 (by decide) ?_
  refine j_aload_n E dL_law_1433 rfl ?_
  refine j_aload_n E dL_law_1434 rfl ?_
  refine j_iload E dL_law_1435 rfl ?_
  refine j_iconst (v := 1) E dL_law_1437 ci_1 ?_
  refine j_iadd E dL_law_1438 ?_
  refine j_sld E SX (vin_add hi (c := 1) (by decide) (by show nn i + nn (1 : Int32) < N; rw [show nn (1 : Int32) = 1 from by decide]; omega) hN2) dL_law_1439 ?_
  refine j_mod E L (fun hM ad ar e0 M => by rw [← e0]; exact c_regrindByShots l D S ad ar hM M I.cnt (f (nn (i + 1)))) (cw_L_179 E ⟨by show _ ≤ R.frames; omega, by show _ ≤ R.locals; omega, by show _ ≤ R.cells; omega, by show _ ≤ R.slots; omega, Nat.le_of_ble_eq_true rfl⟩) (q_1010 E.tb) (q_1011 E.tb) rfl rfl dL_law_1440 rfl (fun h1440 L => ?_)
  refine j_lstore E dL_law_1443 (by decide) ?_
  refine j_aload_n E dL_law_1445 rfl ?_
  refine j_mod E L (fun hM ad ar e0 M => by rw [← e0]; exact c_thrown2 l D _ ad ar hM M) (cw_L_111 E ⟨by show _ ≤ R.frames; omega, by show _ ≤ R.locals; omega, by show _ ≤ R.cells; omega, by show _ ≤ R.slots; omega, Nat.le_of_ble_eq_true rfl⟩) (q_869 E.tb) (q_870 E.tb) rfl rfl dL_law_1446 rfl (fun h1446 L => ?_)
  refine j_iload E dL_law_1449 rfl ?_
  refine j_icmp_eq (tgt := 1456) E dL_law_1451 (by decide) (fun _ => ?_) (fun q => (q rfl).elim)
  refine j_iload E dL_law_1456 rfl ?_
  refine j_if_ne (tgt := 1472) E dL_law_1458 (by decide) (fun c_1458 => ?_) (fun c_1458 => ?_)
  · refine j_goto (tgt := 1731) E dL_law_1472 (by decide) ?_
    refine J.wide (k := cells + 40) (n := slots + 5200) (by omega) (by omega) ?_
    refine J.sub (lo' := [(0, .ref sc), (1, .ref x), (2, .ref mo), (3, .ref o), (4, .ref od), (5, .int i)]) ⟨rfl, rfl, rfl, rfl, rfl, rfl, trivial⟩ ?_
    exact k (p_regrindIn S (f (nn (i + 1)))).1 g1428 gD h1446 (by rw [ph_regrindByShots]; exact L)
  · refine j_aload_n E dL_law_1461 rfl ?_
    refine j_iconst (v := 0) E dL_law_1462 ci_0 ?_
    refine j_lald E L.out (vin_nI (n := 1) (k := 0) (by decide) (by decide)) dL_law_1463 ?_
    refine j_lload E dL_law_1464 rfl ?_
    refine j_lcmp E dL_law_1466 ?_
    refine j_if_eq (tgt := 1472) E dL_law_1467 (by decide) (fun _ => ?_) (fun q => (q (lcmp_eq (hz c_1458))).elim)
    refine j_goto (tgt := 1731) E dL_law_1472 (by decide) ?_
    refine J.wide (k := cells + 40) (n := slots + 5200) (by omega) (by omega) ?_
    refine J.sub (lo' := [(0, .ref sc), (1, .ref x), (2, .ref mo), (3, .ref o), (4, .ref od), (5, .int i)]) ⟨rfl, rfl, rfl, rfl, rfl, rfl, trivial⟩ ?_
    exact k (p_regrindIn S (f (nn (i + 1)))).1 g1428 gD h1446 (by rw [ph_regrindByShots]; exact L)
theorem ph_greatestShare {S : St} {x : Int32} : (p_greatestShare S x).1.1 0 5 0 = S.1 0 5 0 := by
  unfold p_greatestShare
  (repeat' split) <;> first | rfl | exact lev_0 (by decide) | exact (s1_ne (fun z => absurd z.2.1 (by decide))).trans (livN_c (by decide) 8)
set_option maxHeartbeats 4000000 in
set_option maxRecDepth 100000 in
theorem lc_greatestShare (E : Cx p l s m args meth c cL_law 9 RL D A) {S : St} {x mo sc o od N : Nat} {f : Nat → Int32} {g : Nat → Int64} {gD : Nat → UInt64} {h : AH} (L : LwS S S (180 * nn (S.1 0 5 0)) x mo o od g gD h) (SX : Scr s A sc N f) {i : Int32} (hi : i = nI (nn i)) (hN : nn i + 6 ≤ N) (hN2 : N ≤ 3072) (hR : 15 ≤ R.frames ∧ 400 ≤ R.locals ∧ cells + 40 ≤ R.cells ∧ slots + 5200 ≤ R.slots)
    (k : ∀ (S9 : St) (g9 : Nat → Int64) (gD9 : Nat → UInt64) (h9 : AH), LwS S9 S9 (180 * nn (S9.1 0 5 0)) x mo o od g9 gD9 h9 → J p l e R s m args below meth c D A 9 Q (cells + 40) (slots + 5200) h9 1731 [(0, .ref sc), (1, .ref x), (2, .ref mo), (3, .ref o), (4, .ref od), (5, .int i)] []) : J p l e R s m args below meth c D A 9 Q cells slots h 1475 [(0, .ref sc), (1, .ref x), (2, .ref mo), (3, .ref o), (4, .ref od), (5, .int i)] [] := by
  have I := L.inv
  refine j_aload_n E dL_law_1475 rfl ?_
  refine j_aload_n E dL_law_1476 rfl ?_
  refine j_iload E dL_law_1477 rfl ?_
  refine j_iconst (v := 1) E dL_law_1479 ci_1 ?_
  refine j_iadd E dL_law_1480 ?_
  refine j_sld E SX (vin_add hi (c := 1) (by decide) (by show nn i + nn (1 : Int32) < N; rw [show nn (1 : Int32) = 1 from by decide]; omega) hN2) dL_law_1481 ?_
  refine j_aload_n E dL_law_1482 rfl ?_
  refine j_help E L (r := (p_greatestShare S (f (nn (i + 1))))) (fun hC0 ok hno => h_greatestShare l D S _ x o hC0 g ok hno (f (nn (i + 1)))) (cww_greatestShare E ⟨by show _ ≤ R.frames; omega, by show _ ≤ R.locals; omega, by show _ ≤ R.cells; omega, by show _ ≤ R.slots; omega, Nat.le_of_ble_eq_true rfl⟩) (q_675 E.tb) rfl dL_law_1483 rfl (fun h1483 g1483 hz L => ?_)
  refine j_istore E dL_law_1486 (by decide) ?_
  refine j_aload_n E dL_law_1488 rfl ?_
  refine j_aload_n E dL_law_1489 rfl ?_
  refine j_iload E dL_law_1490 rfl ?_
  refine j_iconst (v := 1) E dL_law_1492 ci_1 ?_
  refine j_iadd E dL_law_1493 ?_
  refine j_sld E SX (vin_add hi (c := 1) (by decide) (by show nn i + nn (1 : Int32) < N; rw [show nn (1 : Int32) = 1 from by decide]; omega) hN2) dL_law_1494 ?_
  refine j_mod E L (fun hM ad ar e0 M => by rw [← e0]; exact c_greatestShare l D S ad ar hM M I.cnt (f (nn (i + 1)))) (cw_L_182 E ⟨by show _ ≤ R.frames; omega, by show _ ≤ R.locals; omega, by show _ ≤ R.cells; omega, by show _ ≤ R.slots; omega, Nat.le_of_ble_eq_true rfl⟩) (q_1015 E.tb) (q_1016 E.tb) rfl rfl dL_law_1495 rfl (fun h1495 L => ?_)
  refine j_istore E dL_law_1498 (by decide) ?_
  refine j_aload_n E dL_law_1500 rfl ?_
  refine j_mod E L (fun hM ad ar e0 M => by rw [← e0]; exact c_thrown2 l D _ ad ar hM M) (cw_L_111 E ⟨by show _ ≤ R.frames; omega, by show _ ≤ R.locals; omega, by show _ ≤ R.cells; omega, by show _ ≤ R.slots; omega, Nat.le_of_ble_eq_true rfl⟩) (q_869 E.tb) (q_870 E.tb) rfl rfl dL_law_1501 rfl (fun h1501 L => ?_)
  refine j_iload E dL_law_1504 rfl ?_
  refine j_icmp_eq (tgt := 1511) E dL_law_1506 (by decide) (fun _ => ?_) (fun q => (q rfl).elim)
  refine j_iload E dL_law_1511 rfl ?_
  refine j_if_ne (tgt := 1528) E dL_law_1513 (by decide) (fun c_1513 => ?_) (fun c_1513 => ?_)
  · refine j_goto (tgt := 1731) E dL_law_1528 (by decide) ?_
    refine J.wide (k := cells + 40) (n := slots + 5200) (by omega) (by omega) ?_
    refine J.sub (lo' := [(0, .ref sc), (1, .ref x), (2, .ref mo), (3, .ref o), (4, .ref od), (5, .int i)]) ⟨rfl, rfl, rfl, rfl, rfl, rfl, trivial⟩ ?_
    exact k (p_greatestShare S (f (nn (i + 1)))).1 g1483 gD h1501 (by rw [ph_greatestShare]; exact L)
  · refine j_aload_n E dL_law_1516 rfl ?_
    refine j_iconst (v := 0) E dL_law_1517 ci_0 ?_
    refine j_lald E L.out (vin_nI (n := 1) (k := 0) (by decide) (by decide)) dL_law_1518 ?_
    refine j_iload E dL_law_1519 rfl ?_
    refine j_i2l E dL_law_1521 ?_
    refine j_lcmp E dL_law_1522 ?_
    refine j_if_eq (tgt := 1528) E dL_law_1523 (by decide) (fun _ => ?_) (fun q => (q (lcmp_eq (hz c_1513))).elim)
    refine j_goto (tgt := 1731) E dL_law_1528 (by decide) ?_
    refine J.wide (k := cells + 40) (n := slots + 5200) (by omega) (by omega) ?_
    refine J.sub (lo' := [(0, .ref sc), (1, .ref x), (2, .ref mo), (3, .ref o), (4, .ref od), (5, .int i)]) ⟨rfl, rfl, rfl, rfl, rfl, rfl, trivial⟩ ?_
    exact k (p_greatestShare S (f (nn (i + 1)))).1 g1483 gD h1501 (by rw [ph_greatestShare]; exact L)
set_option maxHeartbeats 4000000 in
set_option maxRecDepth 100000 in
theorem lc_pass (E : Cx p l s m args meth c cL_law 9 RL D A) {S : St} {x mo sc o od N : Nat} {f : Nat → Int32} {g : Nat → Int64} {gD : Nat → UInt64} {h : AH} (L : LwS S S (180 * nn (S.1 0 5 0)) x mo o od g gD h) (SX : Scr s A sc N f) {i : Int32} (hi : i = nI (nn i)) (hN : nn i + 6 ≤ N) (hN2 : N ≤ 3072) (hR : 15 ≤ R.frames ∧ 400 ≤ R.locals ∧ cells + 40 ≤ R.cells ∧ slots + 5200 ≤ R.slots)
    (k : ∀ (S9 : St) (g9 : Nat → Int64) (gD9 : Nat → UInt64) (h9 : AH), LwS S9 S9 (180 * nn (S9.1 0 5 0)) x mo o od g9 gD9 h9 → J p l e R s m args below meth c D A 9 Q (cells + 40) (slots + 5200) h9 1731 [(0, .ref sc), (1, .ref x), (2, .ref mo), (3, .ref o), (4, .ref od), (5, .int i)] []) : J p l e R s m args below meth c D A 9 Q cells slots h 1531 [(0, .ref sc), (1, .ref x), (2, .ref mo), (3, .ref o), (4, .ref od), (5, .int i)] [] := by
  have I := L.inv
  refine j_aload_n E dL_law_1531 rfl ?_
  refine j_aload_n E dL_law_1532 rfl ?_
  refine j_iload E dL_law_1533 rfl ?_
  refine j_iconst (v := 1) E dL_law_1535 ci_1 ?_
  refine j_iadd E dL_law_1536 ?_
  refine j_sld E SX (vin_add hi (c := 1) (by decide) (by show nn i + nn (1 : Int32) < N; rw [show nn (1 : Int32) = 1 from by decide]; omega) hN2) dL_law_1537 ?_
  refine j_aload_n E dL_law_1538 rfl ?_
  refine j_help E L (r := (p_pass S (f (nn (i + 1))))) (fun hC0 ok hno => h_pass l D S x o hC0 g ok hno (f (nn (i + 1)))) (cww_pass E ⟨by show _ ≤ R.frames; omega, by show _ ≤ R.locals; omega, by show _ ≤ R.cells; omega, by show _ ≤ R.slots; omega, Nat.le_of_ble_eq_true rfl⟩) (q_683 E.tb) rfl dL_law_1539 rfl (fun h1539 g1539 hz L => ?_)
  refine j_istore E dL_law_1542 (by decide) ?_
  refine j_aload_n E dL_law_1544 rfl ?_
  refine j_aload_n E dL_law_1545 rfl ?_
  refine j_iload E dL_law_1546 rfl ?_
  refine j_iconst (v := 1) E dL_law_1548 ci_1 ?_
  refine j_iadd E dL_law_1549 ?_
  refine j_sld E SX (vin_add hi (c := 1) (by decide) (by show nn i + nn (1 : Int32) < N; rw [show nn (1 : Int32) = 1 from by decide]; omega) hN2) dL_law_1550 ?_
  refine j_mod E L (fun hM ad ar e0 M => by rw [← e0]; exact c_pass l D S ad ar hM M I.cnt (f (nn (i + 1))) (180 * nn (S.1 0 5 0)) I (by have := I.hrs.2.2; omega)) (cw_L_185 E ⟨by show _ ≤ R.frames; omega, by show _ ≤ R.locals; omega, by show _ ≤ R.cells; omega, by show _ ≤ R.slots; omega, Nat.le_of_ble_eq_true rfl⟩) (q_1019 E.tb) (q_1020 E.tb) rfl rfl dL_law_1551 rfl (fun h1551 L => ?_)
  refine j_istore E dL_law_1554 (by decide) ?_
  refine j_aload_n E dL_law_1556 rfl ?_
  refine j_mod E L (fun hM ad ar e0 M => by rw [← e0]; exact c_thrown2 l D _ ad ar hM M) (cw_L_111 E ⟨by show _ ≤ R.frames; omega, by show _ ≤ R.locals; omega, by show _ ≤ R.cells; omega, by show _ ≤ R.slots; omega, Nat.le_of_ble_eq_true rfl⟩) (q_869 E.tb) (q_870 E.tb) rfl rfl dL_law_1557 rfl (fun h1557 L => ?_)
  refine j_iload E dL_law_1560 rfl ?_
  refine j_icmp_eq (tgt := 1567) E dL_law_1562 (by decide) (fun _ => ?_) (fun q => (q rfl).elim)
  refine j_iload E dL_law_1567 rfl ?_
  refine j_if_ne (tgt := 1584) E dL_law_1569 (by decide) (fun c_1569 => ?_) (fun c_1569 => ?_)
  · refine j_goto (tgt := 1731) E dL_law_1584 (by decide) ?_
    refine J.wide (k := cells + 40) (n := slots + 5200) (by omega) (by omega) ?_
    refine J.sub (lo' := [(0, .ref sc), (1, .ref x), (2, .ref mo), (3, .ref o), (4, .ref od), (5, .int i)]) ⟨rfl, rfl, rfl, rfl, rfl, rfl, trivial⟩ ?_
    exact k (p_pass S (f (nn (i + 1)))).1 g1539 gD h1557 L
  · refine j_aload_n E dL_law_1572 rfl ?_
    refine j_iconst (v := 0) E dL_law_1573 ci_0 ?_
    refine j_lald E L.out (vin_nI (n := 1) (k := 0) (by decide) (by decide)) dL_law_1574 ?_
    refine j_iload E dL_law_1575 rfl ?_
    refine j_i2l E dL_law_1577 ?_
    refine j_lcmp E dL_law_1578 ?_
    refine j_if_eq (tgt := 1584) E dL_law_1579 (by decide) (fun _ => ?_) (fun q => (q (lcmp_eq (hz c_1569))).elim)
    refine j_goto (tgt := 1731) E dL_law_1584 (by decide) ?_
    refine J.wide (k := cells + 40) (n := slots + 5200) (by omega) (by omega) ?_
    refine J.sub (lo' := [(0, .ref sc), (1, .ref x), (2, .ref mo), (3, .ref o), (4, .ref od), (5, .int i)]) ⟨rfl, rfl, rfl, rfl, rfl, rfl, trivial⟩ ?_
    exact k (p_pass S (f (nn (i + 1)))).1 g1539 gD h1557 L
end LC
