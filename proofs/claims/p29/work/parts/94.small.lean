/-! the script read, a remainder that isn't below 0; what the law's walk needs -/
def atV (N : Nat) (f : Nat → Int32) (k : Int32) : Int32 := if nI N ≤ k then 0 else f k.toNatClampNeg
def smV (v n : Int32) : Int32 := if v - v / n * n < 0 then v - v / n * n + n else v - v / n * n
set_option maxHeartbeats 4000000 in
set_option maxRecDepth 100000 in
theorem k_at (l : Launch) (D : va_G) (sc N : Nat) (f : Nat → Int32) (k : Int32) (hk : k = nI (nn k)) (hN : N < 2 ^ 31) : CtrX l D yL_at cL_at 2 (some .int) 0 0 0 0 [.ref sc, .int k] sc N f (fun r9 h' => r9 = some (.int (atV N f k))) := by
  refine CtrX.of RL rfl (by decide) (Nat.le_of_ble_eq_true rfl) ?_
  intro sz p e s m below meth c E hin hr ht SX
  refine j_iload_n E dL_at_0 rfl ?_
  refine j_aload_n E dL_at_1 rfl ?_
  refine j_slen E SX dL_at_2 ?_
  refine j_icmp_ge (tgt := 12) E dL_at_3 (by decide) (fun c_3 => ?_) (fun c_3 => ?_)
  · refine j_iconst (v := 0) E dL_at_12 ci_0 ?_
    exact j_iret E hr dL_at_13 ⟨Nat.le_of_ble_eq_true rfl, Nat.le_of_ble_eq_true rfl⟩ (by unfold atV; rw [if_pos c_3])
  · refine j_aload_n E dL_at_6 rfl ?_
    refine j_iload_n E dL_at_7 rfl ?_
    refine j_sld E SX (by rw [hk]; exact vin_nI (by rcases Nat.lt_or_ge (nn k) N with z | z; exact z; exact absurd (by rw [hk]; exact nI_le z (nn_lt k)) c_3) hN) dL_at_8 ?_
    refine j_goto (tgt := 13) E dL_at_9 (by decide) ?_
    exact j_iret E hr dL_at_13 ⟨Nat.le_of_ble_eq_true rfl, Nat.le_of_ble_eq_true rfl⟩ (by unfold atV; rw [if_neg c_3])
set_option maxHeartbeats 4000000 in
set_option maxRecDepth 100000 in
theorem k_some (l : Launch) (D : va_G) (v n : Int32) (hn : ¬ n = 0) : Ctr l D yL_some cL_some 3 (some .int) 0 0 0 0 [.int v, .int n] (fun _ => none) (fun _ => False) (fun r9 h' => r9 = some (.int (smV v n)) ∧ (fun _ => none) = h') := by
  refine Ctr.of RL rfl (by decide) (Nat.le_of_ble_eq_true rfl) ?_
  intro sz p e s m below meth c E hin hr ht
  refine j_iload_n E dL_some_0 rfl ?_
  refine j_iload_n E dL_some_1 rfl ?_
  refine j_irem E hn dL_some_2 ?_
  refine j_istore_n E dL_some_3 (by decide) ?_
  refine j_iload_n E dL_some_4 rfl ?_
  refine j_if_ge (tgt := 14) E dL_some_5 (by decide) (fun c_5 => ?_) (fun c_5 => ?_)
  · refine j_iload_n E dL_some_14 rfl ?_
    exact j_iret E hr dL_some_15 ⟨Nat.le_of_ble_eq_true rfl, Nat.le_of_ble_eq_true rfl⟩ ⟨by unfold smV; rw [if_neg (fun q => by rw [i32_lt] at q; rw [i32_le] at c_5; omega)], rfl⟩
  · refine j_iload_n E dL_some_8 rfl ?_
    refine j_iload_n E dL_some_9 rfl ?_
    refine j_iadd E dL_some_10 ?_
    refine j_goto (tgt := 15) E dL_some_11 (by decide) ?_
    exact j_iret E hr dL_some_15 ⟨Nat.le_of_ble_eq_true rfl, Nat.le_of_ble_eq_true rfl⟩ ⟨by unfold smV; rw [if_pos (i32_ltof c_5)], rfl⟩
theorem rem58 (x : Int32) : (x - x / 58 * 58).toInt = x.toInt.tmod 58 := by
  have h1 := Int32.le_toInt x
  have h2 := Int32.toInt_lt x
  have e1 : (58 : Int32).toInt = 58 := by decide
  have a1 := Int.mul_tdiv_add_tmod x.toInt 58
  have a2 := Int.tmod_lt_of_pos x.toInt (show (0 : Int) < 58 by decide)
  have a3 := Int.lt_tmod_of_pos x.toInt (show (0 : Int) < 58 by decide)
  have hd : (x / 58).toInt = x.toInt.tdiv 58 := by
    rw [Int32.toInt_div, e1]
    rw [Int.bmod_eq_of_le] <;> omega
  rw [Int32.toInt_sub, Int32.toInt_mul, hd, e1, Int.sub_bmod_bmod]
  rw [show x.toInt - x.toInt.tdiv 58 * 58 = x.toInt.tmod 58 by omega]
  rw [Int.bmod_eq_of_le] <;> omega
theorem rem400 (x : Int32) : (x - x / 400 * 400).toInt = x.toInt.tmod 400 := by
  have h1 := Int32.le_toInt x
  have h2 := Int32.toInt_lt x
  have e1 : (400 : Int32).toInt = 400 := by decide
  have a1 := Int.mul_tdiv_add_tmod x.toInt 400
  have a2 := Int.tmod_lt_of_pos x.toInt (show (0 : Int) < 400 by decide)
  have a3 := Int.lt_tmod_of_pos x.toInt (show (0 : Int) < 400 by decide)
  have hd : (x / 400).toInt = x.toInt.tdiv 400 := by
    rw [Int32.toInt_div, e1]
    rw [Int.bmod_eq_of_le] <;> omega
  rw [Int32.toInt_sub, Int32.toInt_mul, hd, e1, Int.sub_bmod_bmod]
  rw [show x.toInt - x.toInt.tdiv 400 * 400 = x.toInt.tmod 400 by omega]
  rw [Int.bmod_eq_of_le] <;> omega
theorem sm58 (x : Int32) : ∃ j : Nat, j ≤ 57 ∧ smV x 58 = nI j := by
  have h1 := rem58 x
  have a2 := Int.tmod_lt_of_pos x.toInt (show (0 : Int) < 58 by decide)
  have a3 := Int.lt_tmod_of_pos x.toInt (show (0 : Int) < 58 by decide)
  have e58 : (58 : Int32).toInt = 58 := by decide
  unfold smV
  generalize x - x / 58 * 58 = r at *
  by_cases h : r < 0
  · rw [if_pos h]
    rw [i32_lt, i32_0] at h
    have hs : (r + 58).toInt = r.toInt + 58 := by
      rw [Int32.toInt_add, e58]
      rw [Int.bmod_eq_of_le] <;> omega
    obtain ⟨j, hj, e⟩ := nI_of (x := r + 58) (by rw [i32_lt, hs, i32_0]; omega)
    refine ⟨j, ?_, e⟩
    rw [e, nI_toInt hj] at hs
    omega
  · rw [if_neg h]
    obtain ⟨j, hj, e⟩ := nI_of h
    refine ⟨j, ?_, e⟩
    rw [e, nI_toInt hj] at h1
    omega
theorem le400 (x : Int32) : nn (1 + (x - x / 400 * 400)) ≤ 400 := by
  have h1 := rem400 x
  have a2 := Int.tmod_lt_of_pos x.toInt (show (0 : Int) < 400 by decide)
  have a3 := Int.lt_tmod_of_pos x.toInt (show (0 : Int) < 400 by decide)
  have e1 : (1 : Int32).toInt = 1 := by decide
  generalize x - x / 400 * 400 = r at *
  have hs : (1 + r).toInt = 1 + r.toInt := by
    rw [Int32.toInt_add, e1]
    rw [Int.bmod_eq_of_le] <;> omega
  show (1 + r).toInt.toNat ≤ 400
  omega
theorem mx1 (y : Int32) : ¬ (if (1 : Int32) < y then y else 1) = 0 := by
  by_cases h : (1 : Int32) < y
  · rw [if_pos h]
    intro e
    rw [e] at h
    exact absurd h (by decide)
  · rw [if_neg h]; decide
theorem kp_use {S : St} {r : St × Int32} {sh pt : Nat → Int32} {mo ma : Int32} (P : PI S sh pt) (hmo : mo = S.1 0 2 0) (hma : ma = S.1 0 3 0) (hs : r.1.1 0 8 0 = 0 → Kp S r sh pt) : PI (nx S r) sh pt ∧ mo = (nx S r).1 0 2 0 ∧ ma = (nx S r).1 0 3 0 ∧ (rc r < -1000 → nx S r = S) := by
  by_cases hz : r.1.1 0 8 0 = 0
  · obtain ⟨k1, k2, k3, k4⟩ := hs hz
    rw [nx_0 hz, rc_0 hz]
    exact ⟨k1, hmo.trans k2.symm, hma.trans k3.symm, fun q => absurd q (nlt k4)⟩
  · rw [nx_1 hz]
    exact ⟨P, hmo, hma, fun _ => rfl⟩
theorem LwP.put1 {S : St} {a0 q : Nat} {hx h h1 : AH} {e0 e1 : AE} (L : LwP S a0 (hup hx q e0) h) (n : h1 q = some e1) (u : ∀ x, x ≠ q → h1 x = h x) : LwP S a0 (hup hx q e1) h1 := by
  refine (L.put e1 hup_eq n u).less (fun p e he => ?_)
  by_cases z : p = q
  · subst z; rw [hup_eq] at he ⊢; exact he
  · rw [hup_ne z] at he ⊢; rw [hup_ne z]; exact he
theorem LwP.swap {S : St} {a0 q b : Nat} {hx h : AH} {e0 e1 : AE} (L : LwP S a0 (hup (hup hx q e0) b e1) h) (hqb : q ≠ b) : LwP S a0 (hup (hup hx b e1) q e0) h := by
  refine L.less (fun p e he => ?_)
  by_cases z : p = q
  · subst z; rw [hup_eq] at he; rw [hup_ne hqb, hup_eq]; exact he
  · rw [hup_ne z] at he
    by_cases z2 : p = b
    · subst z2; rw [hup_eq] at he ⊢; exact he
    · rw [hup_ne z2] at he ⊢; rw [hup_ne z]; exact he
theorem LwP.drop {S : St} {a0 q : Nat} {hx h : AH} {e0 : AE} (L : LwP S a0 (hup hx q e0) h) (hq : hx q = none) : LwP S a0 hx h := by
  refine L.less (fun p e he => ?_)
  by_cases z : p = q
  · subst z; rw [hq] at he; cases he
  · rw [hup_ne z]; exact he
theorem twoA_no {S : St} {a0 sa pa q : Nat} {sh pt : Nat → Int32} {h : AH} (L : LwP S a0 (twoA sa pa sh pt) h) (hq : h q = none) : twoA sa pa sh pt q = none := by
  cases hx : twoA sa pa sh pt q with
  | none => rfl
  | some e => have h2 := L.x hx; rw [hq] at h2; cases h2
theorem LwP.sh {S : St} {a0 sa pa : Nat} {sh pt sh' : Nat → Int32} {h h1 : AH} (L : LwP S a0 (twoA sa pa sh pt) h) (n : h1 sa = some (.inl (.int, (8, .inl sh')))) (u : ∀ x, x ≠ sa → h1 x = h x) : LwP S a0 (twoA sa pa sh' pt) h1 := by
  refine (L.put _ twoA_s n u).less (fun p e he => ?_)
  by_cases z : p = sa
  · subst z; rw [twoA_s] at he; rw [hup_eq]; exact he
  · rw [hup_ne z]
    unfold twoA at he ⊢
    rw [if_neg z] at he ⊢
    exact he
theorem LwP.pt {S : St} {a0 sa pa : Nat} {sh pt pt' : Nat → Int32} {h h1 : AH} (L : LwP S a0 (twoA sa pa sh pt) h) (hne : sa ≠ pa) (n : h1 pa = some (.inl (.int, (8, .inl pt')))) (u : ∀ x, x ≠ pa → h1 x = h x) : LwP S a0 (twoA sa pa sh pt') h1 := by
  refine (L.put _ (twoA_p hne) n u).less (fun p e he => ?_)
  by_cases z : p = pa
  · subst z; rw [twoA_p hne] at he; rw [hup_eq]; exact he
  · rw [hup_ne z]
    unfold twoA at he ⊢
    by_cases z2 : p = sa
    · rw [if_pos z2] at he ⊢; exact he
    · rw [if_neg z2, if_neg z] at he; cases he
