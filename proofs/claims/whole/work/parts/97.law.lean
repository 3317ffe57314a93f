/-! the law: shares and means -/
theorem rs_nan {S : St} {B : Nat} (I : IAll S B) (hB : B < 1000000) (hz : (p_regrindShare S).1.1 0 8 0 = 0) : Jvm.FP.Core.dIsNaN (FP.f2d (p_regrindShare S).2) = false := by
  unfold p_regrindShare at hz ⊢
  by_cases q : S.1 0 6 0 = 0
  · rw [if_pos q] at hz
    exact absurd hz (by show ¬ (1 : Int32) = 0; decide)
  · rw [if_neg q]
    exact (Jvm.FP.f2d_nan _).trans (nanF ((all_0 I hB).2.2 q))
theorem ms_nan {S : St} (hz : (p_meanParts S).1.1 0 8 0 = 0) : Jvm.FP.Core.dIsNaN (p_meanParts S).2 = false := by
  unfold p_meanParts at hz ⊢
  by_cases q : S.1 0 6 0 = 0
  · rw [if_pos q] at hz
    exact absurd hz (by show ¬ (1 : Int32) = 0; decide)
  · rw [if_neg q]
    refine Jvm.FP.Core.ddiv_out ?_ (Jvm.FP.Core.i2d_fin _) (fun z => ?_)
    · refine Jvm.FP.Core.not_true (Jvm.FP.Core.isNaN_bits _) (fun z => ?_)
      have := Jvm.FP.Core.i2d_mag (S.1 0 7 0)
      have e : (1056 * 2 ^ 52 : Nat) = 4755801206503243776 := rfl
      have e2 : (Jvm.FP.Core.i2d (S.1 0 7 0)).toNat % 2 ^ 63 = (FP.i2d (S.1 0 7 0)).toNat % 2 ^ 63 := rfl
      omega
    · rw [Jvm.FP.Core.zero_bits2] at z
      exact Jvm.FP.Core.i2d_ne_zero q z
theorem dcmp_0 {x y : UInt64} {op : CmpOp} (h : x = y) (hn : Jvm.FP.Core.dIsNaN y = false) : Op.cmpValue (FP.dcmp x y) op = 0 := by
  subst h
  rw [show FP.dcmp x x = some .eq from Jvm.FP.Core.dcmp_self ((Jvm.FP.Core.notNaN_iff x).mp hn)]
  rfl
theorem LwS.outD {Sc Sm : St} {B x m o od : Nat} {g : Nat → Int64} {gD : Nat → UInt64} {h : AH} (L : LwS Sc Sm B x m o od g gD h) : h od = some (.inl (.double, (1, .inr (.inr (.inr (.inl gD)))))) := by
  obtain ⟨hc0, hM, ad, ar, ok, e0, M, d1, d2, s2', s3', n3⟩ := L
  exact s3'
section LE
variable {p : Program} {l : Launch} {e : Env} {R : Room} {s : State} {m : MethodId} {args : Array Value} {below : List Frame} {meth : Method} {c : Code} {D : va_G} {A : Nat → Prop} {Q : State → Prop} {cells slots : Nat}
set_option maxHeartbeats 4000000 in
set_option maxRecDepth 100000 in
theorem lc_regrindShare (E : Cx p l s m args meth c cL_law 9 RL D A) {S : St} {x mo sc o od N : Nat} {f : Nat → Int32} {g : Nat → Int64} {gD : Nat → UInt64} {h : AH} (L : LwS S S (180 * nn (S.1 0 5 0)) x mo o od g gD h) (SX : Scr s A sc N f) {i : Int32} (hi : i = nI (nn i)) (hN : nn i + 6 ≤ N) (hN2 : N ≤ 3072) (hR : 15 ≤ R.frames ∧ 400 ≤ R.locals ∧ cells + 40 ≤ R.cells ∧ slots + 5200 ≤ R.slots)
    (k : ∀ (S9 : St) (g9 : Nat → Int64) (gD9 : Nat → UInt64) (h9 : AH), LwS S9 S9 (180 * nn (S9.1 0 5 0)) x mo o od g9 gD9 h9 → J p l e R s m args below meth c D A 9 Q (cells + 40) (slots + 5200) h9 1731 [(0, .ref sc), (1, .ref x), (2, .ref mo), (3, .ref o), (4, .ref od), (5, .int i)] []) : J p l e R s m args below meth c D A 9 Q cells slots h 1600 [(0, .ref sc), (1, .ref x), (2, .ref mo), (3, .ref o), (4, .ref od), (5, .int i)] [] := by
  have I := L.inv
  have hB : 180 * nn (S.1 0 5 0) < 1000000 := by have := I.hrs.2.2; omega
  refine j_aload_n E dL_law_1600 rfl ?_
  refine j_aload E dL_law_1601 rfl ?_
  refine j_helpd E L (S9 := (p_regrindShare S).1) (v9 := (FP.f2d (p_regrindShare S).2)) (fun hC0 ok hno => h_regrindShare l D S _ x od hC0 gD ok hB hno) (cww_regrindShare E ⟨by show _ ≤ R.frames; omega, by show _ ≤ R.locals; omega, by show _ ≤ R.cells; omega, by show _ ≤ R.slots; omega, Nat.le_of_ble_eq_true rfl⟩) (q_723 E.tb) rfl dL_law_1603 rfl (fun h1603 g1603 hz L => ?_)
  refine j_istore E dL_law_1606 (by decide) ?_
  refine j_aload_n E dL_law_1608 rfl ?_
  refine j_mod E L (fun hM ad ar e0 M => by rw [← e0]; exact c_regrindShare l D S ad ar hM M (ne_share I.all hB)) (cw_L_193 E ⟨by show _ ≤ R.frames; omega, by show _ ≤ R.locals; omega, by show _ ≤ R.cells; omega, by show _ ≤ R.slots; omega, Nat.le_of_ble_eq_true rfl⟩) (q_1040 E.tb) (q_1041 E.tb) rfl rfl dL_law_1609 rfl (fun h1609 L => ?_)
  refine j_fstore E dL_law_1612 (by decide) ?_
  refine j_aload_n E dL_law_1614 rfl ?_
  refine j_mod E L (fun hM ad ar e0 M => by rw [← e0]; exact c_thrown2 l D _ ad ar hM M) (cw_L_111 E ⟨by show _ ≤ R.frames; omega, by show _ ≤ R.locals; omega, by show _ ≤ R.cells; omega, by show _ ≤ R.slots; omega, Nat.le_of_ble_eq_true rfl⟩) (q_869 E.tb) (q_870 E.tb) rfl rfl dL_law_1615 rfl (fun h1615 L => ?_)
  refine j_iload E dL_law_1618 rfl ?_
  refine j_icmp_eq (tgt := 1625) E dL_law_1620 (by decide) (fun _ => ?_) (fun q => (q rfl).elim)
  refine j_iload E dL_law_1625 rfl ?_
  refine j_if_ne (tgt := 1663) E dL_law_1627 (by decide) (fun c_1627 => ?_) (fun c_1627 => ?_)
  · refine j_goto (tgt := 1731) E dL_law_1663 (by decide) ?_
    refine J.wide (k := cells + 40) (n := slots + 5200) (by omega) (by omega) ?_
    refine J.sub (lo' := [(0, .ref sc), (1, .ref x), (2, .ref mo), (3, .ref o), (4, .ref od), (5, .int i)]) ⟨rfl, rfl, rfl, rfl, rfl, rfl, trivial⟩ ?_
    exact k (p_regrindShare S).1 g g1603 h1615 (by rw [pl_p_regrindShare]; rw [pl_p_regrindShare] at L; exact L)
  · refine j_aload E dL_law_1630 rfl ?_
    refine j_iconst (v := 0) E dL_law_1632 ci_0 ?_
    refine j_dald E L.outD (vin_nI (n := 1) (k := 0) (by decide) (by decide)) dL_law_1633 ?_
    refine j_fload E dL_law_1634 rfl ?_
    refine j_f2d E dL_law_1636 (rs_n64 I.all hB c_1627) ?_
    refine j_dcmp E dL_law_1637 ?_
    refine j_if_eq (tgt := 1663) E dL_law_1638 (by decide) (fun _ => ?_) (fun q => (q (dcmp_0 (hz c_1627) (rs_nan I.all hB c_1627))).elim)
    refine j_goto (tgt := 1731) E dL_law_1663 (by decide) ?_
    refine J.wide (k := cells + 40) (n := slots + 5200) (by omega) (by omega) ?_
    refine J.sub (lo' := [(0, .ref sc), (1, .ref x), (2, .ref mo), (3, .ref o), (4, .ref od), (5, .int i)]) ⟨rfl, rfl, rfl, rfl, rfl, rfl, trivial⟩ ?_
    exact k (p_regrindShare S).1 g g1603 h1615 (by rw [pl_p_regrindShare]; rw [pl_p_regrindShare] at L; exact L)
set_option maxHeartbeats 4000000 in
set_option maxRecDepth 100000 in
theorem lc_meanParts (E : Cx p l s m args meth c cL_law 9 RL D A) {S : St} {x mo sc o od N : Nat} {f : Nat → Int32} {g : Nat → Int64} {gD : Nat → UInt64} {h : AH} (L : LwS S S (180 * nn (S.1 0 5 0)) x mo o od g gD h) (SX : Scr s A sc N f) {i : Int32} (hi : i = nI (nn i)) (hN : nn i + 6 ≤ N) (hN2 : N ≤ 3072) (hR : 15 ≤ R.frames ∧ 400 ≤ R.locals ∧ cells + 40 ≤ R.cells ∧ slots + 5200 ≤ R.slots)
    (k : ∀ (S9 : St) (g9 : Nat → Int64) (gD9 : Nat → UInt64) (h9 : AH), LwS S9 S9 (180 * nn (S9.1 0 5 0)) x mo o od g9 gD9 h9 → J p l e R s m args below meth c D A 9 Q (cells + 40) (slots + 5200) h9 1731 [(0, .ref sc), (1, .ref x), (2, .ref mo), (3, .ref o), (4, .ref od), (5, .int i)] []) : J p l e R s m args below meth c D A 9 Q cells slots h 1666 [(0, .ref sc), (1, .ref x), (2, .ref mo), (3, .ref o), (4, .ref od), (5, .int i)] [] := by
  have I := L.inv
  have hB : 180 * nn (S.1 0 5 0) < 1000000 := by have := I.hrs.2.2; omega
  refine j_aload_n E dL_law_1666 rfl ?_
  refine j_aload E dL_law_1667 rfl ?_
  refine j_helpd E L (S9 := (p_meanParts S).1) (v9 := (p_meanParts S).2) (fun hC0 ok hno => h_meanParts l D S _ x od hC0 gD ok hB hno) (cww_meanParts E ⟨by show _ ≤ R.frames; omega, by show _ ≤ R.locals; omega, by show _ ≤ R.cells; omega, by show _ ≤ R.slots; omega, Nat.le_of_ble_eq_true rfl⟩) (q_747 E.tb) rfl dL_law_1669 rfl (fun h1669 g1669 hz L => ?_)
  refine j_istore E dL_law_1672 (by decide) ?_
  refine j_aload_n E dL_law_1674 rfl ?_
  refine j_mod E L (fun hM ad ar e0 M => by rw [← e0]; exact c_meanParts l D S ad ar hM M) (cw_L_196 E ⟨by show _ ≤ R.frames; omega, by show _ ≤ R.locals; omega, by show _ ≤ R.cells; omega, by show _ ≤ R.slots; omega, Nat.le_of_ble_eq_true rfl⟩) (q_1044 E.tb) (q_1045 E.tb) rfl rfl dL_law_1675 rfl (fun h1675 L => ?_)
  refine j_dstore E dL_law_1678 (by decide) ?_
  refine j_aload_n E dL_law_1680 rfl ?_
  refine j_mod E L (fun hM ad ar e0 M => by rw [← e0]; exact c_thrown2 l D _ ad ar hM M) (cw_L_111 E ⟨by show _ ≤ R.frames; omega, by show _ ≤ R.locals; omega, by show _ ≤ R.cells; omega, by show _ ≤ R.slots; omega, Nat.le_of_ble_eq_true rfl⟩) (q_869 E.tb) (q_870 E.tb) rfl rfl dL_law_1681 rfl (fun h1681 L => ?_)
  refine j_iload E dL_law_1684 rfl ?_
  refine j_icmp_eq (tgt := 1691) E dL_law_1686 (by decide) (fun _ => ?_) (fun q => (q rfl).elim)
  refine j_iload E dL_law_1691 rfl ?_
  refine j_if_ne (tgt := 1728) E dL_law_1693 (by decide) (fun c_1693 => ?_) (fun c_1693 => ?_)
  · refine j_goto (tgt := 1731) E dL_law_1728 (by decide) ?_
    refine J.wide (k := cells + 40) (n := slots + 5200) (by omega) (by omega) ?_
    refine J.sub (lo' := [(0, .ref sc), (1, .ref x), (2, .ref mo), (3, .ref o), (4, .ref od), (5, .int i)]) ⟨rfl, rfl, rfl, rfl, rfl, rfl, trivial⟩ ?_
    exact k (p_meanParts S).1 g g1669 h1681 (by rw [pl_p_meanParts]; rw [pl_p_meanParts] at L; exact L)
  · refine j_aload E dL_law_1696 rfl ?_
    refine j_iconst (v := 0) E dL_law_1698 ci_0 ?_
    refine j_dald E L.outD (vin_nI (n := 1) (k := 0) (by decide) (by decide)) dL_law_1699 ?_
    refine j_dload E dL_law_1700 rfl ?_
    refine j_dcmp E dL_law_1702 ?_
    refine j_if_eq (tgt := 1728) E dL_law_1703 (by decide) (fun _ => ?_) (fun q => (q (dcmp_0 (hz c_1693) (ms_nan c_1693))).elim)
    refine j_goto (tgt := 1731) E dL_law_1728 (by decide) ?_
    refine J.wide (k := cells + 40) (n := slots + 5200) (by omega) (by omega) ?_
    refine J.sub (lo' := [(0, .ref sc), (1, .ref x), (2, .ref mo), (3, .ref o), (4, .ref od), (5, .int i)]) ⟨rfl, rfl, rfl, rfl, rfl, rfl, trivial⟩ ?_
    exact k (p_meanParts S).1 g g1669 h1681 (by rw [pl_p_meanParts]; rw [pl_p_meanParts] at L; exact L)
end LE
