/-! the law: its start -/
section LG
variable {p : Program} {l : Launch} {e : Env} {R : Room} {s : State} {m : MethodId} {args : Array Value} {below : List Frame} {meth : Method} {c : Code} {D : va_G} {A : Nat → Prop} {Q : State → Prop}
set_option maxHeartbeats 4000000 in
set_option maxRecDepth 100000 in
theorem law_start {mc ms : Nat} (E : Cx p l s m args meth c cL_law 9 RL D A) {sc N : Nat} {f : Nat → Int32} (SX : Scr s A sc N f) (kend : ∀ (cells slots : Nat) (h : AH) (lo : List (Nat × Value)), cells ≤ mc → slots ≤ ms → J p l e R s m args below meth c D A 9 Q cells slots h 1738 lo [.int 1]) (hN2 : N ≤ 3072) (hF : 15 ≤ R.frames ∧ 400 ≤ R.locals) (hR : 30000 ≤ R.cells ∧ 3000000 ≤ R.slots) (hm : 30000 ≤ mc ∧ 3000000 ≤ ms) {h : AH} : J p l e R s m args below meth c D A 9 Q 0 0 h 0 [(0, .ref sc)] [] := by
  have h11 : Int32.toNatClampNeg 1 = 1 := by decide
  refine nw_L_8 E ⟨by omega, by omega⟩ dL_law_0 (fun a0 h0 f0 n0 u0 => ?_)
  refine j_dup E dL_law_3 rfl ?_
  refine j_callIr E (hc := fun q => if q = a0 then some (.inr (7, [.null, .int 0, .null, .int 0, .null, .int 0, .null, .int 0, .null, .int 0, .int 0, .int 0, .long 0, .long 0])) else none) (hr := fun _ => none) (k_X7_init l D _ a0 (if_pos rfl)) (fun q e9 he => ?_) (fun q e9 he => ?_) (cw_L_101 E ⟨by show _ ≤ R.frames; omega, by show _ ≤ R.locals; omega, by show _ ≤ R.cells; omega, by show _ ≤ R.slots; omega, Nat.le_of_ble_eq_true rfl⟩) (q_50 E.tb) rfl rfl dL_law_4 rfl (fun v4 hc4 h4 p4 w2 w3 w4 => ?_)
  · by_cases r : q = a0
    · rw [if_pos r] at he; rw [← he, r]; exact n0
    · rw [if_neg r] at he; cases he
  · cases he
  obtain ⟨rfl, ok⟩ := p4
  refine j_astore_n E dL_law_7 (by decide) ?_
  refine nw_L_102 E ⟨by omega, by omega⟩ dL_law_8 (fun a8 h8 f8 n8 u8 => ?_)
  refine j_dup E dL_law_11 rfl ?_
  refine j_callIr E (hc := fun q => if q = a8 then some (.inr (8, [.null, .null, .int 0, .null, .null, .null, .int 0, .null, .null, .null, .null, .null, .null, .null, .null, .int 0, .null, .null, .null, .int 0, .null, .null, .null, .null, .null, .null, .null, .int 0, .int 0, .int 0, .int 0, .long 0, .long 0, .int 0])) else none) (hr := hc4) (k_X8_init l D _ a8 (if_pos rfl)) (fun q e9 he => ?_) (fun q e9 he => ?_) (cw_L_104 E ⟨by show _ ≤ R.frames; omega, by show _ ≤ R.locals; omega, by show _ ≤ R.cells; omega, by show _ ≤ R.slots; omega, Nat.le_of_ble_eq_true rfl⟩) (q_756 E.tb) rfl rfl dL_law_12 rfl (fun v12 hc12 h12 p12 x2 x3 x4 => ?_)
  · by_cases r : q = a8
    · rw [if_pos r] at he; rw [← he, r]; exact n8
    · rw [if_neg r] at he; cases he
  · exact ⟨(u8 _ (ne_fr (w2 q e9 he) f8)).trans (w2 q e9 he), if_neg (ne_fr (w2 q e9 he) f8)⟩
  obtain ⟨rfl, ad, ar, e0, M⟩ := p12
  refine j_astore_n E dL_law_15 (by decide) ?_
  refine j_iconst (v := 1) E dL_law_16 ci_1 ?_
  refine na_long E (by decide) rfl (by decide) ⟨by omega, by omega⟩ dL_law_17 (fun a17 h17 f17 n17 u17 => ?_)
  refine j_astore_n E dL_law_19 (by decide) ?_
  refine j_iconst (v := 1) E dL_law_20 ci_1 ?_
  refine na_double E (by decide) rfl (by decide) ⟨by omega, by omega⟩ dL_law_21 (fun a21 h21 f21 n21 u21 => ?_)
  refine j_astore E dL_law_23 (by decide) ?_
  refine j_iconst (v := 0) E dL_law_25 ci_0 ?_
  refine j_istore E dL_law_26 (by decide) ?_
  have o21 := ne_fr n17 f21
  have hL : LwS S0 S0 (180 * nn (S0.1 0 5 0)) a0 a8 a17 a21 (fun _ => 0) (fun _ => 0) h21 := by
    refine ⟨hc4, hc12, ad, ar, (show Ok S0 (180 * nn (0 : Int32)) a0 hc4 by rw [nn_0]; exact ok), e0, M, fun q e9 he => ?_, fun q e9 he => ?_, (u21 _ o21).trans n17, n21, o21⟩
    · have y := x3 q e9 he
      have y2 := ne_fr y f17
      have y3 := (u17 _ y2).trans y
      exact ⟨(u21 _ (ne_fr y3 f21)).trans y3, x4 q e9 he, y2, ne_fr y3 f21⟩
    · have y := x2 q e9 he
      have y2 := ne_fr y f17
      have y3 := (u17 _ y2).trans y
      exact ⟨(u21 _ (ne_fr y3 f21)).trans y3, y2, ne_fr y3 f21⟩
  refine J.sub (lo' := [(0, .ref sc), (1, .ref a0), (2, .ref a8), (3, .ref a17), (4, .ref a21), (5, .int 0)]) ⟨rfl, rfl, rfl, rfl, rfl, rfl, trivial⟩ ?_
  exact law_loop E SX kend hN2 hF 512 _ _ 0 S0 _ _ _ e_0 (by rw [nn_0]; omega) (by rw [nn_0]; omega) ⟨by omega, by omega⟩ ⟨by omega, by omega⟩ hL
end LG
