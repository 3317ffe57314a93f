/-! the law, from its start to its end -/
theorem PI.zero {sh pt : Nat → Int32} : PI S0 sh pt := by
  have e : nn (S0.1 0 4 0) = 0 := nn_0
  refine ⟨fun k hk => ?_, ?_, e_0, ?_, ⟨0, 0, rfl, rfl, Nat.le_refl _, Nat.zero_le _⟩, fun i j => ⟨e_0, ?_⟩⟩
  · rw [e] at hk; omega
  · rw [e]; exact nn_0
  · rw [e]; exact nn_0
  · show nn (0 : Int32) ≤ nn (0 : Int32)
    exact Nat.le_refl _
section SF
variable {p : Program} {l : Launch} {e : Env} {R : Room} {s : State} {m : MethodId} {args : Array Value} {below : List Frame} {meth : Method} {c : Code} {D : va_G} {A : Nat → Prop} {Q : State → Prop}
set_option maxHeartbeats 4000000 in
set_option maxRecDepth 100000 in
theorem law_start {mc ms : Nat} (E : Cx p l s m args meth c cL_law 24 RL D A) {sc N : Nat} {f : Nat → Int32} (SX : Scr s A sc N f) (hN : N < 2 ^ 31) (kend : ∀ (cells slots : Nat) (h : AH) (lo : List (Nat × Value)), cells ≤ mc → slots ≤ ms → J p l e R s m args below meth c D A 24 Q cells slots h 1789 lo [.int 1]) (hF : 12 ≤ R.frames ∧ 600 ≤ R.locals) (hR : 60000 ≤ R.cells ∧ 900000 ≤ R.slots) (hm : 60000 ≤ mc ∧ 900000 ≤ ms) {h : AH} : J p l e R s m args below meth c D A 24 Q 0 0 h 0 [(0, .ref sc)] [] := by
  refine nw_L_8 E ⟨by omega, by omega⟩ dL_law_0 (fun a0 h0 f0 n0 u0 => ?_)
  refine j_dup E dL_law_3 rfl ?_
  refine j_callIr E (hc := fun q => if q = a0 then some (.inr (7, [.null, .int 0, .null, .int 0, .null, .int 0, .null, .int 0, .null, .int 0, .int 0, .int 0, .long 0, .long 0])) else none) (hr := fun _ => none) (k_X7_init l D _ a0 (if_pos rfl)) (fun q e9 he => ?_) (fun q e9 he => ?_) (cw_L_150 E ⟨by show _ ≤ R.frames; omega, by show _ ≤ R.locals; omega, by show _ ≤ R.cells; omega, by show _ ≤ R.slots; omega, Nat.le_of_ble_eq_true rfl⟩) (q_33 E.tb) rfl rfl dL_law_4 rfl (fun v4 hc4 h4 p4 w2 w3 w4 => ?_)
  · by_cases r : q = a0
    · rw [if_pos r] at he; rw [← he, r]; exact n0
    · rw [if_neg r] at he; cases he
  · cases he
  obtain ⟨rfl, ok⟩ := p4
  have L : LwP S0 a0 (fun _ => none) h4 := ⟨hc4, (show Ok S0 (180 * nn (0 : Int32)) a0 hc4 by rw [nn_0]; exact ok), fun p e he => ⟨w2 p e he, rfl⟩, fun p e he => nomatch he⟩
  refine j_astore_n E dL_law_7 (by decide) ?_
  refine j_bipush (v := 8) E dL_law_8 cb_8 ?_
  refine na_int E (N := 8) (by decide) (by decide) (by decide) ⟨by omega, by omega⟩ dL_law_10 (fun a10 h10 f10 n10 u10 => ?_)
  have L := L.new f10 n10 u10
  refine j_astore_n E dL_law_12 (by decide) ?_
  refine j_bipush (v := 8) E dL_law_13 cb_8 ?_
  refine na_int E (N := 8) (by decide) (by decide) (by decide) ⟨by omega, by omega⟩ dL_law_15 (fun a15 h15 f15 n15 u15 => ?_)
  have hne : a10 ≠ a15 := ne_fr (L.x hup_eq) f15
  have L := L.new f15 n15 u15
  have L3 : LwP S0 a0 (twoA a10 a15 (fun _ => 0) (fun _ => 0)) h15 := L.less (fun p e he => by
    by_cases z : p = a15
    · subst z; rw [twoA_p hne] at he; rw [hup_eq]; exact he
    · rw [hup_ne z]
      unfold twoA at he
      by_cases z2 : p = a10
      · rw [if_pos z2] at he; subst z2; rw [hup_eq]; exact he
      · rw [if_neg z2, if_neg z] at he; cases he)
  refine j_astore_n E dL_law_17 (by decide) ?_
  refine j_iconst (v := 0) E dL_law_18 ci_0 ?_
  refine j_istore E dL_law_19 (by decide) ?_
  refine j_iconst (v := 0) E dL_law_21 ci_0 ?_
  refine j_istore E dL_law_22 (by decide) ?_
  refine j_aload_n E dL_law_24 rfl ?_
  refine j_iconst (v := 0) E dL_law_25 ci_0 ?_
  refine j_lookX E SX (k_at l D sc N f 0 e_0 hN) (cw_L_151 E ⟨by show _ ≤ R.frames; omega, by show _ ≤ R.locals; omega, by show _ ≤ R.cells; omega, by show _ ≤ R.slots; omega, Nat.le_of_ble_eq_true rfl⟩) (q_114 E.tb) rfl dL_law_26 rfl ?_
  refine j_bipush (v := 58) E dL_law_29 cb_58 ?_
  refine j_lookS E (hc := fun _ => none) (k_some l D _ 58 (by decide)) (fun x e9 he => nomatch he) (cw_L_155 E ⟨by show _ ≤ R.frames; omega, by show _ ≤ R.locals; omega, by show _ ≤ R.cells; omega, by show _ ≤ R.slots; omega, Nat.le_of_ble_eq_true rfl⟩) (q_117 E.tb) rfl dL_law_31 rfl ?_
  obtain ⟨j, hj, ej⟩ := sm58 (atV N f 0)
  rw [ej]
  refine j_istore E dL_law_34 (by decide) ?_
  refine j_iconst (v := 0) E dL_law_36 ci_0 ?_
  refine j_istore E dL_law_37 (by decide) ?_
  refine J.sub (lo' := [(0, .ref sc), (1, .ref a0), (2, .ref a10), (3, .ref a15), (4, .int 0), (5, .int 0), (6, .int (nI j)), (7, .int (nI 0))]) ⟨rfl, rfl, rfl, rfl, rfl, rfl, rfl, rfl, trivial⟩ ?_
  refine law_loop E SX hN hj hne hF (c1 := 55000) (s1 := 650000) ⟨by omega, by omega⟩ (fun S2 h2 sh2 pt2 mo2 ma2 kk2 cells2 slots2 L2 P2 hmo2 hma2 hc2 hs2 => ?_) j 0 _ _ S0 (fun _ => 0) (fun _ => 0) 0 0 h15 (by omega) L3 PI.zero rfl rfl ⟨by omega, by omega⟩
  subst hmo2
  subst hma2
  refine law_end1 E L2 hne P2 hF ⟨by omega, by omega⟩ (fun h3 cells3 slots3 L4 hc3 hs3 => ?_)
  exact law_end2 E L4 hF ⟨by omega, by omega⟩ ⟨by omega, by omega⟩ kend
end SF
