/-! the law, a step: hours pass; the join; a step's start; the loop -/
def LK (S : St) : Nat → Int64
  | 0 => 0
  | n + 1 => LK S n + (rc (p_lacks S (nI n))).toInt64
theorem LK_eq {S : St} {B : Nat} (I : Inv S B) : ∀ n, n ≤ nn (S.1 0 4 0) → LK S n = lN (sumN (fun k => nn (S.1 19 k 0)) n)
  | 0, _ => rfl
  | n + 1, h => by
    show LK S n + (rc (p_lacks S (nI n))).toInt64 = lN (sumN (fun k => nn (S.1 19 k 0)) n + nn (S.1 19 n 0))
    rw [LK_eq I n (by omega), v_lacks I (by omega), toI64 (I.ord.1 n (by omega)).2.2.1.1, lN_add]
theorem pass_eq {S : St} {B : Nat} {x : Int32} {sh pt : Nat → Int32} (I : Inv S (bS S)) (P : PI S sh pt) (hz : (p_pass S x).1.1 0 8 0 = 0) (I2 : Inv (p_pass S x).1 B) : LK S (nn (S.1 0 4 0)) - LK (p_pass S x).1 (nn (S.1 0 4 0)) = (rc (p_pass S x)).toInt64 := by
  obtain ⟨P2, e4, -, -, -, hle, hv⟩ := pass_ok I P hz
  rw [LK_eq I _ (Nat.le_refl _), LK_eq I2 _ (by rw [e4]; exact Nat.le_refl _), rc_0 hz, hv, nI_l (by have := P2.made I2.cnt; omega)]
  have s1' := sumN_sub (f := fun k => nn (pt k)) (g := fun k => nn (S.1 19 k 0)) (nn (S.1 0 4 0)) (fun k hk => by
    obtain ⟨-, -, -, q4, -⟩ := P.po hk
    show nn (S.1 19 k 0) ≤ nn (pt k)
    omega)
  have s2' := sumN_sub (f := fun k => nn (pt k)) (g := fun k => nn ((p_pass S x).1.1 19 k 0)) (nn (S.1 0 4 0)) (fun k hk => by
    obtain ⟨-, -, -, q4, -⟩ := P2.po (k := k) (by rw [e4]; exact hk)
    show nn ((p_pass S x).1.1 19 k 0) ≤ nn (pt k)
    omega)
  have a1 := P.2.2.2.1
  have a2 := P2.2.2.2.1
  rw [e4] at a2
  rw [← a1] at s1'
  rw [← a2] at s2'
  rw [lN_sub (by omega)]
  congr 1
  omega
section SP
variable {p : Program} {l : Launch} {e : Env} {R : Room} {s : State} {m : MethodId} {args : Array Value} {below : List Frame} {meth : Method} {c : Code} {D : va_G} {A : Nat → Prop} {Q : State → Prop}
set_option maxHeartbeats 4000000 in
set_option maxRecDepth 100000 in
theorem lp_lack1 (E : Cx p l s m args meth c cL_law 24 RL D A) {S : St} {a0 sa pa sc n9 : Nat} {hx h : AH} {mo ma n6 kk w9 iw hr : Int32} {bf : Int64} (L : LwP S a0 hx h) (hF : 12 ≤ R.frames ∧ 600 ≤ R.locals) {c1 s1 : Nat} (hR : c1 ≤ R.cells ∧ s1 ≤ R.slots) (hn : n9 < 2 ^ 31) (k : ∀ cells slots : Nat, cells ≤ c1 → slots ≤ s1 → J p l e R s m args below meth c D A 24 Q cells slots h 759 [(0, .ref sc), (1, .ref a0), (2, .ref sa), (3, .ref pa), (4, .int mo), (5, .int ma), (6, .int n6), (7, .int kk), (9, .int w9), (12, .int iw), (13, .long bf), (17, .int hr), (18, .long (LK S n9)), (20, .long 0), (22, .int (nI n9)), (23, .int (nI n9))] []) : ∀ (n i cells slots : Nat), i + n = n9 → cells + 3 * n ≤ c1 ∧ slots + 18 * n ≤ s1 → J p l e R s m args below meth c D A 24 Q cells slots h 734 [(0, .ref sc), (1, .ref a0), (2, .ref sa), (3, .ref pa), (4, .int mo), (5, .int ma), (6, .int n6), (7, .int kk), (9, .int w9), (12, .int iw), (13, .long bf), (17, .int hr), (18, .long (LK S i)), (20, .long 0), (22, .int (nI n9)), (23, .int (nI i))] [] := by
  intro n
  induction n with
  | zero =>
    intro i cells slots hi hc
    refine j_iload E dL_law_734 rfl ?_
    refine j_iload E dL_law_736 rfl ?_
    refine j_icmp_ge (tgt := 759) E dL_law_738 (by decide) (fun _ => ?_) (fun q => (q (by rw [show i = n9 by omega]; exact nI_le (Nat.le_refl _) hn)).elim)
    have k2 := k cells slots (by omega) (by omega)
    have e8 : i = n9 := by omega
    subst e8
    exact k2
  | succ n ih =>
    intro i cells slots hi hc
    refine j_iload E dL_law_734 rfl ?_
    refine j_iload E dL_law_736 rfl ?_
    refine j_icmp_ge (tgt := 759) E dL_law_738 (by decide) (fun q => (nI_ge (by omega) hn q).elim) (fun _ => ?_)
    refine j_lload E dL_law_741 rfl ?_
    refine j_aload_n E dL_law_743 rfl ?_
    refine j_iload E dL_law_744 rfl ?_
    refine j_iconst (v := 0) E dL_law_746 ci_0 ?_
    refine j_lk E L (fun hC0 ok => h_of0 l D S a0 hC0 ok (nI i)) (cww_of E ⟨by show _ ≤ R.frames; omega, by show _ ≤ R.locals; omega, by show _ ≤ R.cells; omega, by show _ ≤ R.slots; omega, Nat.le_of_ble_eq_true rfl⟩) (q_600 E.tb) rfl dL_law_747 rfl ?_
    refine j_ladd E dL_law_750 ?_
    refine j_lstore E dL_law_751 (by decide) ?_
    refine j_iincK (k := 1) E ci_1 dL_law_753 rfl (by decide) ?_
    refine j_goto (tgt := 734) E dL_law_756 (by decide) ?_
    rw [show nI i + 1 = nI (i + 1) from (nI_succ i).symm]
    refine J.sub (lo' := [(0, .ref sc), (1, .ref a0), (2, .ref sa), (3, .ref pa), (4, .int mo), (5, .int ma), (6, .int n6), (7, .int kk), (9, .int w9), (12, .int iw), (13, .long bf), (17, .int hr), (18, .long (LK S (i + 1))), (20, .long 0), (22, .int (nI n9)), (23, .int (nI (i + 1)))]) ⟨rfl, rfl, rfl, rfl, rfl, rfl, rfl, rfl, rfl, rfl, rfl, rfl, rfl, rfl, rfl, rfl, trivial⟩ ?_
    exact ih (i + 1) _ _ (by omega) ⟨by omega, by omega⟩
set_option maxHeartbeats 4000000 in
set_option maxRecDepth 100000 in
theorem lp_lack2 (E : Cx p l s m args meth c cL_law 24 RL D A) {S : St} {a0 sa pa sc n9 : Nat} {hx h : AH} {mo ma n6 kk w9 iw hr its : Int32} {bf l8 : Int64} (L : LwP S a0 hx h) (hF : 12 ≤ R.frames ∧ 600 ≤ R.locals) {c1 s1 : Nat} (hR : c1 ≤ R.cells ∧ s1 ≤ R.slots) (hn : n9 < 2 ^ 31) (k : ∀ cells slots : Nat, cells ≤ c1 → slots ≤ s1 → J p l e R s m args below meth c D A 24 Q cells slots h 799 [(0, .ref sc), (1, .ref a0), (2, .ref sa), (3, .ref pa), (4, .int mo), (5, .int ma), (6, .int n6), (7, .int kk), (9, .int w9), (12, .int iw), (13, .long bf), (17, .int hr), (15, .int its), (18, .long l8), (20, .long (LK S n9)), (22, .int (nI n9)), (23, .int (nI n9))] []) : ∀ (n i cells slots : Nat), i + n = n9 → cells + 3 * n ≤ c1 ∧ slots + 18 * n ≤ s1 → J p l e R s m args below meth c D A 24 Q cells slots h 774 [(0, .ref sc), (1, .ref a0), (2, .ref sa), (3, .ref pa), (4, .int mo), (5, .int ma), (6, .int n6), (7, .int kk), (9, .int w9), (12, .int iw), (13, .long bf), (17, .int hr), (15, .int its), (18, .long l8), (20, .long (LK S i)), (22, .int (nI n9)), (23, .int (nI i))] [] := by
  intro n
  induction n with
  | zero =>
    intro i cells slots hi hc
    refine j_iload E dL_law_774 rfl ?_
    refine j_iload E dL_law_776 rfl ?_
    refine j_icmp_ge (tgt := 799) E dL_law_778 (by decide) (fun _ => ?_) (fun q => (q (by rw [show i = n9 by omega]; exact nI_le (Nat.le_refl _) hn)).elim)
    have k2 := k cells slots (by omega) (by omega)
    have e8 : i = n9 := by omega
    subst e8
    exact k2
  | succ n ih =>
    intro i cells slots hi hc
    refine j_iload E dL_law_774 rfl ?_
    refine j_iload E dL_law_776 rfl ?_
    refine j_icmp_ge (tgt := 799) E dL_law_778 (by decide) (fun q => (nI_ge (by omega) hn q).elim) (fun _ => ?_)
    refine j_lload E dL_law_781 rfl ?_
    refine j_aload_n E dL_law_783 rfl ?_
    refine j_iload E dL_law_784 rfl ?_
    refine j_iconst (v := 0) E dL_law_786 ci_0 ?_
    refine j_lk E L (fun hC0 ok => h_of0 l D S a0 hC0 ok (nI i)) (cww_of E ⟨by show _ ≤ R.frames; omega, by show _ ≤ R.locals; omega, by show _ ≤ R.cells; omega, by show _ ≤ R.slots; omega, Nat.le_of_ble_eq_true rfl⟩) (q_600 E.tb) rfl dL_law_787 rfl ?_
    refine j_ladd E dL_law_790 ?_
    refine j_lstore E dL_law_791 (by decide) ?_
    refine j_iincK (k := 1) E ci_1 dL_law_793 rfl (by decide) ?_
    refine j_goto (tgt := 774) E dL_law_796 (by decide) ?_
    rw [show nI i + 1 = nI (i + 1) from (nI_succ i).symm]
    refine J.sub (lo' := [(0, .ref sc), (1, .ref a0), (2, .ref sa), (3, .ref pa), (4, .int mo), (5, .int ma), (6, .int n6), (7, .int kk), (9, .int w9), (12, .int iw), (13, .long bf), (17, .int hr), (15, .int its), (18, .long l8), (20, .long (LK S (i + 1))), (22, .int (nI n9)), (23, .int (nI (i + 1)))]) ⟨rfl, rfl, rfl, rfl, rfl, rfl, rfl, rfl, rfl, rfl, rfl, rfl, rfl, rfl, rfl, rfl, rfl, trivial⟩ ?_
    exact ih (i + 1) _ _ (by omega) ⟨by omega, by omega⟩
set_option maxHeartbeats 4000000 in
set_option maxRecDepth 100000 in
theorem sg_pass (E : Cx p l s m args meth c cL_law 24 RL D A) {S : St} {a0 sa pa sc : Nat} {sh pt : Nat → Int32} {mo ma n6 kk w9 m9 r9 iw kind : Int32} {bf : Int64} {h : AH} (L : LwP S a0 (twoA sa pa sh pt) h) (hne : sa ≠ pa) (P : PI S sh pt) (hmo : mo = S.1 0 2 0) (hma : ma = S.1 0 3 0) (hF : 12 ≤ R.frames ∧ 600 ≤ R.locals) {cells slots : Nat} (hR : cells + 130 ≤ R.cells ∧ slots + 6000 ≤ R.slots) (kj : ∀ (S' : St) (h' : AH) (sh' pt' : Nat → Int32) (mo' ma' its : Int32) (cells' slots' : Nat), LwP S' a0 (twoA sa pa sh' pt') h' → PI S' sh' pt' → mo' = S'.1 0 2 0 → ma' = S'.1 0 3 0 → (its < -1000 → S' = S) → cells' ≤ cells + 130 → slots' ≤ slots + 6000 → J p l e R s m args below meth c D A 24 Q cells' slots' h' 834 [(0, .ref sc), (1, .ref a0), (2, .ref sa), (3, .ref pa), (4, .int mo'), (5, .int ma'), (6, .int n6), (7, .int kk), (12, .int iw), (13, .long bf), (15, .int its)] []) : J p l e R s m args below meth c D A 24 Q cells slots h 713 [(0, .ref sc), (1, .ref a0), (2, .ref sa), (3, .ref pa), (4, .int mo), (5, .int ma), (6, .int n6), (7, .int kk), (9, .int w9), (10, .int m9), (11, .int r9), (12, .int iw), (13, .long bf), (16, .int kind)] [] := by
  have I := L.inv
  refine j_aload_n E dL_law_713 rfl ?_
  refine j_lkV E L (fun hC0 ok => kl_hours l D S a0 hC0 ok) (cw_L_118 E ⟨by show _ ≤ R.frames; omega, by show _ ≤ R.locals; omega, by show _ ≤ R.cells; omega, by show _ ≤ R.slots; omega, Nat.le_of_ble_eq_true rfl⟩) (q_110 E.tb) (q_111 E.tb) rfl rfl dL_law_714 rfl ?_
  refine j_istore E dL_law_717 (by decide) ?_
  refine j_lconst (v := 0) E dL_law_719 cl_0 ?_
  refine j_lstore E dL_law_720 (by decide) ?_
  refine j_lconst (v := 0) E dL_law_722 cl_0 ?_
  refine j_lstore E dL_law_723 (by decide) ?_
  refine j_aload_n E dL_law_725 rfl ?_
  refine j_lkS E L (fun hC0 ok => k_orders l D S a0 hC0 ok) (cw_L_137 E ⟨by show _ ≤ R.frames; omega, by show _ ≤ R.locals; omega, by show _ ≤ R.cells; omega, by show _ ≤ R.slots; omega, Nat.le_of_ble_eq_true rfl⟩) (q_681 E.tb) rfl dL_law_726 rfl ?_
  refine j_istore E dL_law_729 (by decide) ?_
  refine j_iconst (v := 0) E dL_law_731 ci_0 ?_
  refine j_istore E dL_law_732 (by decide) ?_
  have h8 := cnt8 I
  rw [show S.1 0 4 0 = nI (nn (S.1 0 4 0)) from I.cnt.2.2.2.2.1]
  refine J.sub (lo' := [(0, .ref sc), (1, .ref a0), (2, .ref sa), (3, .ref pa), (4, .int mo), (5, .int ma), (6, .int n6), (7, .int kk), (9, .int w9), (12, .int iw), (13, .long bf), (17, .int (S.1 0 5 0)), (18, .long (LK S 0)), (20, .long 0), (22, .int (nI (nn (S.1 0 4 0)))), (23, .int (nI 0))]) ⟨rfl, rfl, rfl, rfl, rfl, rfl, rfl, rfl, rfl, rfl, rfl, rfl, rfl, rfl, rfl, rfl, trivial⟩ ?_
  refine lp_lack1 E L hF (c1 := cells + 60) (s1 := slots + 400) ⟨by omega, by omega⟩ (nn_lt _) (fun cells2 slots2 h3 h4 => ?_) (nn (S.1 0 4 0)) 0 _ _ (by omega) ⟨by omega, by omega⟩
  refine j_aload_n E dL_law_759 rfl ?_
  refine j_iconst (v := 1) E dL_law_760 ci_1 ?_
  refine j_iload E dL_law_761 rfl ?_
  refine j_iconst (v := 5) E dL_law_763 ci_5 ?_
  refine j_irem E (by decide) dL_law_764 ?_
  refine j_iadd E dL_law_765 ?_
  refine j_mut E L (r := (p_pass S (1 + (w9 - w9 / 5 * 5)))) (fun hC0 ok => h_pass l D S a0 hC0 ok (1 + (w9 - w9 / 5 * 5))) (cww_pass E ⟨by show _ ≤ R.frames; omega, by show _ ≤ R.locals; omega, by show _ ≤ R.cells; omega, by show _ ≤ R.slots; omega, Nat.le_of_ble_eq_true rfl⟩) (q_641 E.tb) rfl dL_law_766 rfl (fun h766 L => ?_)
  refine j_istore E dL_law_769 (by decide) ?_
  refine j_iconst (v := 0) E dL_law_771 ci_0 ?_
  refine j_istore E dL_law_772 (by decide) ?_
  refine J.sub (lo' := [(0, .ref sc), (1, .ref a0), (2, .ref sa), (3, .ref pa), (4, .int mo), (5, .int ma), (6, .int n6), (7, .int kk), (9, .int w9), (12, .int iw), (13, .long bf), (17, .int (S.1 0 5 0)), (15, .int (rc (p_pass S (1 + (w9 - w9 / 5 * 5))))), (18, .long (LK S (nn (S.1 0 4 0)))), (20, .long (LK (nx S (p_pass S (1 + (w9 - w9 / 5 * 5)))) 0)), (22, .int (nI (nn (S.1 0 4 0)))), (23, .int (nI 0))]) ⟨rfl, rfl, rfl, rfl, rfl, rfl, rfl, rfl, rfl, rfl, rfl, rfl, rfl, rfl, rfl, rfl, rfl, trivial⟩ ?_
  refine lp_lack2 E L hF (c1 := cells + 110) (s1 := slots + 700) ⟨by omega, by omega⟩ (nn_lt _) (fun cells3 slots3 h5 h6 => ?_) (nn (S.1 0 4 0)) 0 _ _ (by omega) ⟨by omega, by omega⟩
  by_cases hz : (p_pass S (1 + (w9 - w9 / 5 * 5))).1.1 0 8 0 = 0
  · refine j_iload E dL_law_799 rfl ?_
    refine j_if_lt (tgt := 834) E dL_law_801 (by decide) (fun q => ((by rw [rc_0 hz, (pass_ok I P hz).2.2.2.2.2.2]; exact rg_nn (ntoN (by have := nn_lt ((p_pass S (1 + (w9 - w9 / 5 * 5))).1.1 0 7 0); omega)) : ¬ rc (p_pass S (1 + (w9 - w9 / 5 * 5))) < 0) q).elim) (fun _ => ?_)
    refine j_aload_n E dL_law_804 rfl ?_
    refine j_lkV E L (fun hC0 ok => kl_hours l D (nx S (p_pass S (1 + (w9 - w9 / 5 * 5)))) a0 hC0 ok) (cw_L_118 E ⟨by show _ ≤ R.frames; omega, by show _ ≤ R.locals; omega, by show _ ≤ R.cells; omega, by show _ ≤ R.slots; omega, Nat.le_of_ble_eq_true rfl⟩) (q_110 E.tb) (q_111 E.tb) rfl rfl dL_law_805 rfl ?_
    refine j_iload E dL_law_808 rfl ?_
    refine j_iconst (v := 1) E dL_law_810 ci_1 ?_
    refine j_iadd E dL_law_811 ?_
    refine j_iload E dL_law_812 rfl ?_
    refine j_iconst (v := 5) E dL_law_814 ci_5 ?_
    refine j_irem E (by decide) dL_law_815 ?_
    refine j_iadd E dL_law_816 ?_
    refine j_icmp_ne (tgt := 832) E dL_law_817 (by decide) (fun q => (q (by rw [nx_0 hz, (pass_ok I P hz).2.2.2.2.1, Int32.add_assoc])).elim) (fun _ => ?_)
    refine j_lload E dL_law_820 rfl ?_
    refine j_lload E dL_law_822 rfl ?_
    refine j_lsub E dL_law_824 ?_
    refine j_iload E dL_law_825 rfl ?_
    refine j_i2l E dL_law_827 ?_
    refine j_lcmp E dL_law_828 ?_
    refine j_if_eq (tgt := 834) E dL_law_829 (by decide) (fun _ => ?_) (fun q => (q (lcmp_eq (by rw [nx_0 hz]; exact pass_eq (B := bS (nx S (p_pass S (1 + (w9 - w9 / 5 * 5))))) I P hz (by rw [← nx_0 (S := S) hz]; exact L.inv)))).elim)
    refine J.sub (lo' := [(0, .ref sc), (1, .ref a0), (2, .ref sa), (3, .ref pa), (4, .int mo), (5, .int ma), (6, .int n6), (7, .int kk), (12, .int iw), (13, .long bf), (15, .int (rc (p_pass S (1 + (w9 - w9 / 5 * 5)))))]) ⟨rfl, rfl, rfl, rfl, rfl, rfl, rfl, rfl, rfl, rfl, rfl, trivial⟩ ?_
    exact kj _ _ _ _ mo ma (rc (p_pass S (1 + (w9 - w9 / 5 * 5)))) _ _ L (by rw [nx_0 hz]; exact (pass_ok I P hz).1) (by rw [nx_0 hz]; exact hmo.trans (pass_ok I P hz).2.2.1.symm) (by rw [nx_0 hz]; exact hma.trans (pass_ok I P hz).2.2.2.1.symm) (fun q => absurd q (by rw [rc_0 hz, (pass_ok I P hz).2.2.2.2.2.2]; exact nlt (ntoN (by have := L.inv.cnt; have := nn_lt ((p_pass S (1 + (w9 - w9 / 5 * 5))).1.1 0 7 0); omega)))) (by omega) (by omega)
  · refine j_iload E dL_law_799 rfl ?_
    refine j_if_lt (tgt := 834) E dL_law_801 (by decide) (fun _ => ?_) (fun q => (q (lt0_of (ng_pass hz))).elim)
    refine J.sub (lo' := [(0, .ref sc), (1, .ref a0), (2, .ref sa), (3, .ref pa), (4, .int mo), (5, .int ma), (6, .int n6), (7, .int kk), (12, .int iw), (13, .long bf), (15, .int (rc (p_pass S (1 + (w9 - w9 / 5 * 5)))))]) ⟨rfl, rfl, rfl, rfl, rfl, rfl, rfl, rfl, rfl, rfl, rfl, trivial⟩ ?_
    exact kj _ _ _ _ mo ma (rc (p_pass S (1 + (w9 - w9 / 5 * 5)))) _ _ L (by rw [nx_1 hz]; exact P) (by rw [nx_1 hz]; exact hmo) (by rw [nx_1 hz]; exact hma) (fun _ => nx_1 hz) (by omega) (by omega)
set_option maxHeartbeats 4000000 in
set_option maxRecDepth 100000 in
theorem law_disp (E : Cx p l s m args meth c cL_law 24 RL D A) {S : St} {a0 sa pa sc : Nat} {sh pt : Nat → Int32} {mo ma n6 kk w9 m9 r9 iw kind : Int32} {bf : Int64} {h : AH} (L : LwP S a0 (twoA sa pa sh pt) h) (hne : sa ≠ pa) (P : PI S sh pt) (hmo : mo = S.1 0 2 0) (hma : ma = S.1 0 3 0) (hF : 12 ≤ R.frames ∧ 600 ≤ R.locals) {cells slots : Nat} (hR : cells + 130 ≤ R.cells ∧ slots + 6000 ≤ R.slots) (kj : ∀ (S' : St) (h' : AH) (sh' pt' : Nat → Int32) (mo' ma' its : Int32) (cells' slots' : Nat), LwP S' a0 (twoA sa pa sh' pt') h' → PI S' sh' pt' → mo' = S'.1 0 2 0 → ma' = S'.1 0 3 0 → (its < -1000 → S' = S) → cells' ≤ cells + 130 → slots' ≤ slots + 6000 → J p l e R s m args below meth c D A 24 Q cells' slots' h' 834 [(0, .ref sc), (1, .ref a0), (2, .ref sa), (3, .ref pa), (4, .int mo'), (5, .int ma'), (6, .int n6), (7, .int kk), (12, .int iw), (13, .long bf), (15, .int its)] []) : J p l e R s m args below meth c D A 24 Q cells slots h 187 [(0, .ref sc), (1, .ref a0), (2, .ref sa), (3, .ref pa), (4, .int mo), (5, .int ma), (6, .int n6), (7, .int kk), (9, .int w9), (10, .int m9), (11, .int r9), (12, .int iw), (13, .long bf), (16, .int kind)] [] := by
  have I := L.inv
  refine j_iload E dL_law_187 rfl ?_
  refine j_iconst (v := 1) E dL_law_189 ci_1 ?_
  refine j_icmp_ge (tgt := 206) E dL_law_190 (by decide) (fun c_190 => ?_) (fun c_190 => ?_)
  · refine j_iload E dL_law_206 rfl ?_
    refine j_iconst (v := 4) E dL_law_208 ci_4 ?_
    refine j_icmp_ge (tgt := 233) E dL_law_209 (by decide) (fun c_209 => ?_) (fun c_209 => ?_)
    · refine j_iload E dL_law_233 rfl ?_
      refine j_iconst (v := 5) E dL_law_235 ci_5 ?_
      refine j_icmp_ge (tgt := 277) E dL_law_236 (by decide) (fun c_236 => ?_) (fun c_236 => ?_)
      · refine j_iload E dL_law_277 rfl ?_
        refine j_bipush (v := 7) E dL_law_279 cb_7 ?_
        refine j_icmp_ge (tgt := 379) E dL_law_281 (by decide) (fun c_281 => ?_) (fun c_281 => ?_)
        · refine j_iload E dL_law_379 rfl ?_
          refine j_bipush (v := 8) E dL_law_381 cb_8 ?_
          refine j_icmp_ge (tgt := 418) E dL_law_383 (by decide) (fun c_383 => ?_) (fun c_383 => ?_)
          · refine j_iload E dL_law_418 rfl ?_
            refine j_bipush (v := 9) E dL_law_420 cb_9 ?_
            refine j_icmp_ge (tgt := 454) E dL_law_422 (by decide) (fun c_422 => ?_) (fun c_422 => ?_)
            · refine j_iload E dL_law_454 rfl ?_
              refine j_bipush (v := 11) E dL_law_456 cb_11 ?_
              refine j_icmp_ge (tgt := 532) E dL_law_458 (by decide) (fun c_458 => ?_) (fun c_458 => ?_)
              · refine j_iload E dL_law_532 rfl ?_
                refine j_bipush (v := 13) E dL_law_534 cb_13 ?_
                refine j_icmp_ge (tgt := 577) E dL_law_536 (by decide) (fun c_536 => ?_) (fun c_536 => ?_)
                · refine j_iload E dL_law_577 rfl ?_
                  refine j_bipush (v := 15) E dL_law_579 cb_15 ?_
                  refine j_icmp_ge (tgt := 670) E dL_law_581 (by decide) (fun c_581 => ?_) (fun c_581 => ?_)
                  · refine j_iload E dL_law_670 rfl ?_
                    refine j_bipush (v := 19) E dL_law_672 cb_19 ?_
                    refine j_icmp_ge (tgt := 713) E dL_law_674 (by decide) (fun c_674 => ?_) (fun c_674 => ?_)
                    · refine J.sub (lo' := [(0, .ref sc), (1, .ref a0), (2, .ref sa), (3, .ref pa), (4, .int mo), (5, .int ma), (6, .int n6), (7, .int kk), (9, .int w9), (10, .int m9), (11, .int r9), (12, .int iw), (13, .long bf), (16, .int kind)]) ⟨rfl, rfl, rfl, rfl, rfl, rfl, rfl, rfl, rfl, rfl, rfl, rfl, rfl, rfl, trivial⟩ ?_
                      exact sg_pass E L hne P hmo hma hF hR kj
                    · refine J.sub (lo' := [(0, .ref sc), (1, .ref a0), (2, .ref sa), (3, .ref pa), (4, .int mo), (5, .int ma), (6, .int n6), (7, .int kk), (9, .int w9), (10, .int m9), (11, .int r9), (12, .int iw), (13, .long bf), (16, .int kind)]) ⟨rfl, rfl, rfl, rfl, rfl, rfl, rfl, rfl, rfl, rfl, rfl, rfl, rfl, rfl, trivial⟩ ?_
                      exact sg_run E L hne P hmo hma hF hR kj
                  · refine J.sub (lo' := [(0, .ref sc), (1, .ref a0), (2, .ref sa), (3, .ref pa), (4, .int mo), (5, .int ma), (6, .int n6), (7, .int kk), (9, .int w9), (10, .int m9), (11, .int r9), (12, .int iw), (13, .long bf), (16, .int kind)]) ⟨rfl, rfl, rfl, rfl, rfl, rfl, rfl, rfl, rfl, rfl, rfl, rfl, rfl, rfl, trivial⟩ ?_
                    exact sg_order E L hne P hmo hma hF hR kj
                · refine J.sub (lo' := [(0, .ref sc), (1, .ref a0), (2, .ref sa), (3, .ref pa), (4, .int mo), (5, .int ma), (6, .int n6), (7, .int kk), (9, .int w9), (10, .int m9), (11, .int r9), (12, .int iw), (13, .long bf), (16, .int kind)]) ⟨rfl, rfl, rfl, rfl, rfl, rfl, rfl, rfl, rfl, rfl, rfl, rfl, rfl, rfl, trivial⟩ ?_
                  exact sg_mount E L hne P hmo hma hF hR kj
              · have hk : kind = 9 ∨ kind = 10 := by
                  rw [i32_le, show (9 : Int32).toInt = 9 from by decide] at c_422
                  rw [i32_le, show (11 : Int32).toInt = 11 from by decide] at c_458
                  have h : kind.toInt = 9 ∨ kind.toInt = 10 := by omega
                  rcases h with h | h
                  · exact Or.inl (Int32.toInt_inj.mp (by rw [h]; decide))
                  · exact Or.inr (Int32.toInt_inj.mp (by rw [h]; decide))
                rcases hk with rfl | rfl
                · refine J.sub (lo' := [(0, .ref sc), (1, .ref a0), (2, .ref sa), (3, .ref pa), (4, .int mo), (5, .int ma), (6, .int n6), (7, .int kk), (9, .int w9), (10, .int m9), (11, .int r9), (12, .int iw), (13, .long bf), (16, .int 9)]) ⟨rfl, rfl, rfl, rfl, rfl, rfl, rfl, rfl, rfl, rfl, rfl, rfl, rfl, rfl, trivial⟩ ?_
                  exact sg_cav9 E L hne P hmo hma hF hR kj
                · refine J.sub (lo' := [(0, .ref sc), (1, .ref a0), (2, .ref sa), (3, .ref pa), (4, .int mo), (5, .int ma), (6, .int n6), (7, .int kk), (9, .int w9), (10, .int m9), (11, .int r9), (12, .int iw), (13, .long bf), (16, .int 10)]) ⟨rfl, rfl, rfl, rfl, rfl, rfl, rfl, rfl, rfl, rfl, rfl, rfl, rfl, rfl, trivial⟩ ?_
                  exact sg_cav10 E L hne P hmo hma hF hR kj
            · refine J.sub (lo' := [(0, .ref sc), (1, .ref a0), (2, .ref sa), (3, .ref pa), (4, .int mo), (5, .int ma), (6, .int n6), (7, .int kk), (9, .int w9), (10, .int m9), (11, .int r9), (12, .int iw), (13, .long bf), (16, .int kind)]) ⟨rfl, rfl, rfl, rfl, rfl, rfl, rfl, rfl, rfl, rfl, rfl, rfl, rfl, rfl, trivial⟩ ?_
              exact sg_life E L hne P hmo hma hF hR kj
          · refine J.sub (lo' := [(0, .ref sc), (1, .ref a0), (2, .ref sa), (3, .ref pa), (4, .int mo), (5, .int ma), (6, .int n6), (7, .int kk), (9, .int w9), (10, .int m9), (11, .int r9), (12, .int iw), (13, .long bf), (16, .int kind)]) ⟨rfl, rfl, rfl, rfl, rfl, rfl, rfl, rfl, rfl, rfl, rfl, rfl, rfl, rfl, trivial⟩ ?_
            exact sg_machine E L hne P hmo hma hF hR kj
        · refine J.sub (lo' := [(0, .ref sc), (1, .ref a0), (2, .ref sa), (3, .ref pa), (4, .int mo), (5, .int ma), (6, .int n6), (7, .int kk), (9, .int w9), (10, .int m9), (11, .int r9), (12, .int iw), (13, .long bf), (16, .int kind)]) ⟨rfl, rfl, rfl, rfl, rfl, rfl, rfl, rfl, rfl, rfl, rfl, rfl, rfl, rfl, trivial⟩ ?_
          exact sg_mould E L hne P hmo hma hF hR kj
      · refine J.sub (lo' := [(0, .ref sc), (1, .ref a0), (2, .ref sa), (3, .ref pa), (4, .int mo), (5, .int ma), (6, .int n6), (7, .int kk), (9, .int w9), (10, .int m9), (11, .int r9), (12, .int iw), (13, .long bf), (16, .int kind)]) ⟨rfl, rfl, rfl, rfl, rfl, rfl, rfl, rfl, rfl, rfl, rfl, rfl, rfl, rfl, trivial⟩ ?_
        exact sg_empty E L hne P hmo hma hF hR kj
    · refine J.sub (lo' := [(0, .ref sc), (1, .ref a0), (2, .ref sa), (3, .ref pa), (4, .int mo), (5, .int ma), (6, .int n6), (7, .int kk), (9, .int w9), (10, .int m9), (11, .int r9), (12, .int iw), (13, .long bf), (16, .int kind)]) ⟨rfl, rfl, rfl, rfl, rfl, rfl, rfl, rfl, rfl, rfl, rfl, rfl, rfl, rfl, trivial⟩ ?_
      exact sg_fill E L hne P hmo hma hF hR kj
  · refine J.sub (lo' := [(0, .ref sc), (1, .ref a0), (2, .ref sa), (3, .ref pa), (4, .int mo), (5, .int ma), (6, .int n6), (7, .int kk), (9, .int w9), (10, .int m9), (11, .int r9), (12, .int iw), (13, .long bf), (16, .int kind)]) ⟨rfl, rfl, rfl, rfl, rfl, rfl, rfl, rfl, rfl, rfl, rfl, rfl, rfl, rfl, trivial⟩ ?_
    exact sg_resin E L hne P hmo hma hF hR kj
set_option maxHeartbeats 4000000 in
set_option maxRecDepth 100000 in
theorem law_mid (E : Cx p l s m args meth c cL_law 24 RL D A) {a0 sa pa sc : Nat} {mo ma n6 kk w9 m9 r9 iw v9 : Int32} {bf : Int64} {h : AH} {cells slots : Nat} (k : ∀ kind : Int32, J p l e R s m args below meth c D A 24 Q cells slots h 187 [(0, .ref sc), (1, .ref a0), (2, .ref sa), (3, .ref pa), (4, .int mo), (5, .int ma), (6, .int n6), (7, .int kk), (9, .int w9), (10, .int m9), (11, .int r9), (12, .int iw), (13, .long bf), (16, .int kind)] []) : J p l e R s m args below meth c D A 24 Q cells slots h 123 [(0, .ref sc), (1, .ref a0), (2, .ref sa), (3, .ref pa), (4, .int mo), (5, .int ma), (6, .int n6), (7, .int kk), (8, .int v9), (9, .int w9), (10, .int m9), (11, .int r9), (12, .int iw), (13, .long bf)] [] := by
  refine j_iconst (v := 0) E dL_law_123 ci_0 ?_
  refine j_istore E dL_law_124 (by decide) ?_
  refine j_iload E dL_law_126 rfl ?_
  refine j_iconst (v := 1) E dL_law_128 ci_1 ?_
  refine j_icmp_ge (tgt := 136) E dL_law_129 (by decide) (fun c_129 => ?_) (fun c_129 => ?_)
  · refine j_iload E dL_law_136 rfl ?_
    refine j_iconst (v := 3) E dL_law_138 ci_3 ?_
    refine j_icmp_ge (tgt := 146) E dL_law_139 (by decide) (fun c_139 => ?_) (fun c_139 => ?_)
    · refine j_iload E dL_law_146 rfl ?_
      refine j_iconst (v := 4) E dL_law_148 ci_4 ?_
      refine j_icmp_ge (tgt := 157) E dL_law_149 (by decide) (fun c_149 => ?_) (fun c_149 => ?_)
      · refine j_iload E dL_law_157 rfl ?_
        refine j_bipush (v := 6) E dL_law_159 cb_6 ?_
        refine j_icmp_ge (tgt := 169) E dL_law_161 (by decide) (fun c_161 => ?_) (fun c_161 => ?_)
        · refine j_iload E dL_law_169 rfl ?_
          refine j_bipush (v := 7) E dL_law_171 cb_7 ?_
          refine j_icmp_ge (tgt := 180) E dL_law_173 (by decide) (fun c_173 => ?_) (fun c_173 => ?_)
          · refine j_iload E dL_law_180 rfl ?_
            refine j_bipush (v := 24) E dL_law_182 cb_24 ?_
            refine j_irem E (by decide) dL_law_184 ?_
            refine j_istore E dL_law_185 (by decide) ?_
            refine J.sub (lo' := [(0, .ref sc), (1, .ref a0), (2, .ref sa), (3, .ref pa), (4, .int mo), (5, .int ma), (6, .int n6), (7, .int kk), (9, .int w9), (10, .int m9), (11, .int r9), (12, .int iw), (13, .long bf), (16, .int _)]) ⟨rfl, rfl, rfl, rfl, rfl, rfl, rfl, rfl, rfl, rfl, rfl, rfl, rfl, rfl, trivial⟩ ?_
            exact k _
          · refine j_iconst (v := 2) E dL_law_176 ci_2 ?_
            refine j_goto (tgt := 185) E dL_law_177 (by decide) ?_
            refine j_istore E dL_law_185 (by decide) ?_
            refine J.sub (lo' := [(0, .ref sc), (1, .ref a0), (2, .ref sa), (3, .ref pa), (4, .int mo), (5, .int ma), (6, .int n6), (7, .int kk), (9, .int w9), (10, .int m9), (11, .int r9), (12, .int iw), (13, .long bf), (16, .int _)]) ⟨rfl, rfl, rfl, rfl, rfl, rfl, rfl, rfl, rfl, rfl, rfl, rfl, rfl, rfl, trivial⟩ ?_
            exact k _
        · refine j_bipush (v := 13) E dL_law_164 cb_13 ?_
          refine j_goto (tgt := 185) E dL_law_166 (by decide) ?_
          refine j_istore E dL_law_185 (by decide) ?_
          refine J.sub (lo' := [(0, .ref sc), (1, .ref a0), (2, .ref sa), (3, .ref pa), (4, .int mo), (5, .int ma), (6, .int n6), (7, .int kk), (9, .int w9), (10, .int m9), (11, .int r9), (12, .int iw), (13, .long bf), (16, .int _)]) ⟨rfl, rfl, rfl, rfl, rfl, rfl, rfl, rfl, rfl, rfl, rfl, rfl, rfl, rfl, trivial⟩ ?_
          exact k _
      · refine j_bipush (v := 7) E dL_law_152 cb_7 ?_
        refine j_goto (tgt := 185) E dL_law_154 (by decide) ?_
        refine j_istore E dL_law_185 (by decide) ?_
        refine J.sub (lo' := [(0, .ref sc), (1, .ref a0), (2, .ref sa), (3, .ref pa), (4, .int mo), (5, .int ma), (6, .int n6), (7, .int kk), (9, .int w9), (10, .int m9), (11, .int r9), (12, .int iw), (13, .long bf), (16, .int _)]) ⟨rfl, rfl, rfl, rfl, rfl, rfl, rfl, rfl, rfl, rfl, rfl, rfl, rfl, rfl, trivial⟩ ?_
        exact k _
    · refine j_iconst (v := 5) E dL_law_142 ci_5 ?_
      refine j_goto (tgt := 185) E dL_law_143 (by decide) ?_
      refine j_istore E dL_law_185 (by decide) ?_
      refine J.sub (lo' := [(0, .ref sc), (1, .ref a0), (2, .ref sa), (3, .ref pa), (4, .int mo), (5, .int ma), (6, .int n6), (7, .int kk), (9, .int w9), (10, .int m9), (11, .int r9), (12, .int iw), (13, .long bf), (16, .int _)]) ⟨rfl, rfl, rfl, rfl, rfl, rfl, rfl, rfl, rfl, rfl, rfl, rfl, rfl, rfl, trivial⟩ ?_
      exact k _
  · refine j_iconst (v := 0) E dL_law_132 ci_0 ?_
    refine j_goto (tgt := 185) E dL_law_133 (by decide) ?_
    refine j_istore E dL_law_185 (by decide) ?_
    refine J.sub (lo' := [(0, .ref sc), (1, .ref a0), (2, .ref sa), (3, .ref pa), (4, .int mo), (5, .int ma), (6, .int n6), (7, .int kk), (9, .int w9), (10, .int m9), (11, .int r9), (12, .int iw), (13, .long bf), (16, .int _)]) ⟨rfl, rfl, rfl, rfl, rfl, rfl, rfl, rfl, rfl, rfl, rfl, rfl, rfl, rfl, trivial⟩ ?_
    exact k _
set_option maxHeartbeats 4000000 in
set_option maxRecDepth 100000 in
theorem law_top (E : Cx p l s m args meth c cL_law 24 RL D A) {S : St} {a0 sa pa sc N i n6 : Nat} {f : Nat → Int32} {hx h : AH} {mo ma : Int32} (SX : Scr s A sc N f) (hN : N < 2 ^ 31) (hi : i < n6) (hn6 : n6 ≤ 57) (L : LwP S a0 hx h) (hF : 12 ≤ R.frames ∧ 600 ≤ R.locals) {cells slots : Nat} (hR : cells + 270 ≤ R.cells ∧ slots + 1700 ≤ R.slots) (k : ∀ (v9 w9 m9 r9 iw : Int32) (bf : Int64) (cells' slots' : Nat), (¬ iw = 0 → SUM S = bf) → cells' ≤ cells + 270 → slots' ≤ slots + 1700 → J p l e R s m args below meth c D A 24 Q cells' slots' h 123 [(0, .ref sc), (1, .ref a0), (2, .ref sa), (3, .ref pa), (4, .int mo), (5, .int ma), (6, .int (nI n6)), (7, .int (nI i)), (8, .int v9), (9, .int w9), (10, .int m9), (11, .int r9), (12, .int iw), (13, .long bf)] []) : J p l e R s m args below meth c D A 24 Q cells slots h 39 [(0, .ref sc), (1, .ref a0), (2, .ref sa), (3, .ref pa), (4, .int mo), (5, .int ma), (6, .int (nI n6)), (7, .int (nI i))] [] := by
  refine j_iload E dL_law_39 rfl ?_
  refine j_iload E dL_law_41 rfl ?_
  refine j_icmp_ge (tgt := 884) E dL_law_43 (by decide) (fun q => (nI_ge hi (by omega) q).elim) (fun _ => ?_)
  refine j_aload_n E dL_law_46 rfl ?_
  refine j_iconst (v := 1) E dL_law_47 ci_1 ?_
  refine j_iload E dL_law_48 rfl ?_
  refine j_iadd E dL_law_50 ?_
  refine j_lookX E SX (k_at l D sc N f (1 + nI i) (nadd e_1 (ntoN (by omega)) (by rw [nn_1, nn_nI (n := i) (by omega)]; omega)).1 hN) (cw_L_151 E ⟨by show _ ≤ R.frames; omega, by show _ ≤ R.locals; omega, by show _ ≤ R.cells; omega, by show _ ≤ R.slots; omega, Nat.le_of_ble_eq_true rfl⟩) (q_114 E.tb) rfl dL_law_51 rfl ?_
  refine j_ldci E (q_731 E.tb) dL_law_54 ?_
  refine j_lookS E (hc := fun _ => none) (k_some l D _ 100000000 (by decide)) (fun x e9 he => nomatch he) (cw_L_155 E ⟨by show _ ≤ R.frames; omega, by show _ ≤ R.locals; omega, by show _ ≤ R.cells; omega, by show _ ≤ R.slots; omega, Nat.le_of_ble_eq_true rfl⟩) (q_117 E.tb) rfl dL_law_56 rfl ?_
  refine j_istore E dL_law_59 (by decide) ?_
  refine j_iload E dL_law_61 rfl ?_
  refine j_bipush (v := 24) E dL_law_63 cb_24 ?_
  refine j_idiv E dL_law_65 (by decide) ?_
  refine j_istore E dL_law_66 (by decide) ?_
  refine j_iload E dL_law_68 rfl ?_
  refine j_iconst (v := 1) E dL_law_70 ci_1 ?_
  refine j_iload E dL_law_71 rfl ?_
  refine j_mmax E (q_730 E.tb) (q_338 E.tb) (q_12 E.tb) (q_339 E.tb) ⟨by omega, Nat.le_trans (Nat.le_of_ble_eq_true rfl : _ ≤ 100) (by omega), by omega, by omega⟩ dL_law_73 ?_
  refine j_irem E (mx1 _) dL_law_76 ?_
  refine j_istore E dL_law_77 (by decide) ?_
  refine j_iload E dL_law_79 rfl ?_
  refine j_iconst (v := 5) E dL_law_81 ci_5 ?_
  refine j_idiv E dL_law_82 (by decide) ?_
  refine j_iconst (v := 1) E dL_law_83 ci_1 ?_
  refine j_aload_n E dL_law_84 rfl ?_
  refine j_lkS E L (fun hC0 ok => k_resins l D S a0 hC0 ok) (cw_L_164 E ⟨by show _ ≤ R.frames; omega, by show _ ≤ R.locals; omega, by show _ ≤ R.cells; omega, by show _ ≤ R.slots; omega, Nat.le_of_ble_eq_true rfl⟩) (q_684 E.tb) rfl dL_law_85 rfl ?_
  refine j_mmax E (q_730 E.tb) (q_338 E.tb) (q_12 E.tb) (q_339 E.tb) ⟨by omega, Nat.le_trans (Nat.le_of_ble_eq_true rfl : _ ≤ 100) (by omega), by omega, by omega⟩ dL_law_88 ?_
  refine j_irem E (mx1 _) dL_law_91 ?_
  refine j_istore E dL_law_92 (by decide) ?_
  refine j_iload E dL_law_94 rfl ?_
  refine j_iconst (v := 2) E dL_law_96 ci_2 ?_
  refine j_irem E (by decide) dL_law_97 ?_
  refine j_if_ne (tgt := 105) E dL_law_98 (by decide) (fun c_98 => ?_) (fun c_98 => ?_)
  · refine j_iconst (v := 0) E dL_law_105 ci_0 ?_
    refine j_istore E dL_law_106 (by decide) ?_
    refine j_iload E dL_law_108 rfl ?_
    refine j_if_eq (tgt := 120) E dL_law_110 (by decide) (fun _ => ?_) (fun q => (q rfl).elim)
    refine j_lconst (v := 0) E dL_law_120 cl_0 ?_
    refine j_lstore E dL_law_121 (by decide) ?_
    refine J.sub (lo' := [(0, .ref sc), (1, .ref a0), (2, .ref sa), (3, .ref pa), (4, .int mo), (5, .int ma), (6, .int (nI n6)), (7, .int (nI i)), (8, .int _), (9, .int _), (10, .int _), (11, .int _), (12, .int 0), (13, .long 0)]) ⟨rfl, rfl, rfl, rfl, rfl, rfl, rfl, rfl, rfl, rfl, rfl, rfl, rfl, rfl, trivial⟩ ?_
    exact k _ _ _ _ _ _ _ _ (fun q => absurd rfl q) (by omega) (by omega)
  · refine j_iconst (v := 1) E dL_law_101 ci_1 ?_
    refine j_goto (tgt := 106) E dL_law_102 (by decide) ?_
    refine j_istore E dL_law_106 (by decide) ?_
    refine j_iload E dL_law_108 rfl ?_
    refine j_if_eq (tgt := 120) E dL_law_110 (by decide) (fun q => (show False from absurd q (by decide)).elim) (fun _ => ?_)
    refine j_aload_n E dL_law_113 rfl ?_
    refine j_lkS E L (fun hC0 ok => k_sum l D S a0 hC0 ok) (cw_L_167 E ⟨by show _ ≤ R.frames; omega, by show _ ≤ R.locals; omega, by show _ ≤ R.cells; omega, by show _ ≤ R.slots; omega, Nat.le_of_ble_eq_true rfl⟩) (q_687 E.tb) rfl dL_law_114 rfl ?_
    refine j_goto (tgt := 121) E dL_law_117 (by decide) ?_
    refine j_lstore E dL_law_121 (by decide) ?_
    refine J.sub (lo' := [(0, .ref sc), (1, .ref a0), (2, .ref sa), (3, .ref pa), (4, .int mo), (5, .int ma), (6, .int (nI n6)), (7, .int (nI i)), (8, .int _), (9, .int _), (10, .int _), (11, .int _), (12, .int 1), (13, .long (SUM S))]) ⟨rfl, rfl, rfl, rfl, rfl, rfl, rfl, rfl, rfl, rfl, rfl, rfl, rfl, rfl, trivial⟩ ?_
    exact k _ _ _ _ _ _ _ _ (fun _ => rfl) (by omega) (by omega)
set_option maxHeartbeats 4000000 in
set_option maxRecDepth 100000 in
theorem law_join (E : Cx p l s m args meth c cL_law 24 RL D A) {S : St} {a0 sa pa sc : Nat} {sh pt : Nat → Int32} {mo ma n6 kk iw its : Int32} {bf : Int64} {h : AH} (L : LwP S a0 (twoA sa pa sh pt) h) (hne : sa ≠ pa) (P : PI S sh pt) (hF : 12 ≤ R.frames ∧ 600 ≤ R.locals) {cells slots : Nat} (hR : cells + 510 ≤ R.cells ∧ slots + 3100 ≤ R.slots) (hits : its < -1000 → ¬ iw = 0 → SUM S = bf) (k : ∀ cells' slots' : Nat, cells' ≤ cells + 510 → slots' ≤ slots + 3100 → J p l e R s m args below meth c D A 24 Q cells' slots' h 878 [(0, .ref sc), (1, .ref a0), (2, .ref sa), (3, .ref pa), (4, .int mo), (5, .int ma), (6, .int n6), (7, .int kk)] []) : J p l e R s m args below meth c D A 24 Q cells slots h 834 [(0, .ref sc), (1, .ref a0), (2, .ref sa), (3, .ref pa), (4, .int mo), (5, .int ma), (6, .int n6), (7, .int kk), (12, .int iw), (13, .long bf), (15, .int its)] [] := by
  refine j_iload E dL_law_834 rfl ?_
  refine j_sipush (v := -1000) E dL_law_836 cs_m1000 ?_
  refine j_icmp_ge (tgt := 857) E dL_law_839 (by decide) (fun c_839 => ?_) (fun c_839 => ?_)
  · refine j_iload E dL_law_857 rfl ?_
    refine j_bipush (v := 7) E dL_law_859 cb_7 ?_
    refine j_irem E (by decide) dL_law_861 ?_
    refine j_bipush (v := 6) E dL_law_862 cb_6 ?_
    refine j_icmp_ne (tgt := 878) E dL_law_864 (by decide) (fun c_864 => ?_) (fun c_864 => ?_)
    · refine J.sub (lo' := [(0, .ref sc), (1, .ref a0), (2, .ref sa), (3, .ref pa), (4, .int mo), (5, .int ma), (6, .int n6), (7, .int kk)]) ⟨rfl, rfl, rfl, rfl, rfl, rfl, rfl, rfl, trivial⟩ ?_
      exact k _ _ (by omega) (by omega)
    · refine j_aload_n E dL_law_867 rfl ?_
      refine j_aload_n E dL_law_868 rfl ?_
      refine j_aload_n E dL_law_869 rfl ?_
      refine j_lookS E (hc := h) (k_sound l D L hne P) (fun _ _ z => z) (cw_L_197 E ⟨by show _ ≤ R.frames; omega, by show _ ≤ R.locals; omega, by show _ ≤ R.cells; omega, by show _ ≤ R.slots; omega, Nat.le_of_ble_eq_true rfl⟩) (q_694 E.tb) rfl dL_law_870 rfl ?_
      refine j_if_ne (tgt := 878) E dL_law_873 (by decide) (fun _ => ?_) (fun q => (show False from absurd q (by decide)).elim)
      refine J.sub (lo' := [(0, .ref sc), (1, .ref a0), (2, .ref sa), (3, .ref pa), (4, .int mo), (5, .int ma), (6, .int n6), (7, .int kk)]) ⟨rfl, rfl, rfl, rfl, rfl, rfl, rfl, rfl, trivial⟩ ?_
      exact k _ _ (by omega) (by omega)
  · refine j_iload E dL_law_842 rfl ?_
    refine j_if_eq (tgt := 857) E dL_law_844 (by decide) (fun c_844 => ?_) (fun c_844 => ?_)
    · refine j_iload E dL_law_857 rfl ?_
      refine j_bipush (v := 7) E dL_law_859 cb_7 ?_
      refine j_irem E (by decide) dL_law_861 ?_
      refine j_bipush (v := 6) E dL_law_862 cb_6 ?_
      refine j_icmp_ne (tgt := 878) E dL_law_864 (by decide) (fun c_864 => ?_) (fun c_864 => ?_)
      · refine J.sub (lo' := [(0, .ref sc), (1, .ref a0), (2, .ref sa), (3, .ref pa), (4, .int mo), (5, .int ma), (6, .int n6), (7, .int kk)]) ⟨rfl, rfl, rfl, rfl, rfl, rfl, rfl, rfl, trivial⟩ ?_
        exact k _ _ (by omega) (by omega)
      · refine j_aload_n E dL_law_867 rfl ?_
        refine j_aload_n E dL_law_868 rfl ?_
        refine j_aload_n E dL_law_869 rfl ?_
        refine j_lookS E (hc := h) (k_sound l D L hne P) (fun _ _ z => z) (cw_L_197 E ⟨by show _ ≤ R.frames; omega, by show _ ≤ R.locals; omega, by show _ ≤ R.cells; omega, by show _ ≤ R.slots; omega, Nat.le_of_ble_eq_true rfl⟩) (q_694 E.tb) rfl dL_law_870 rfl ?_
        refine j_if_ne (tgt := 878) E dL_law_873 (by decide) (fun _ => ?_) (fun q => (show False from absurd q (by decide)).elim)
        refine J.sub (lo' := [(0, .ref sc), (1, .ref a0), (2, .ref sa), (3, .ref pa), (4, .int mo), (5, .int ma), (6, .int n6), (7, .int kk)]) ⟨rfl, rfl, rfl, rfl, rfl, rfl, rfl, rfl, trivial⟩ ?_
        exact k _ _ (by omega) (by omega)
    · refine j_aload_n E dL_law_847 rfl ?_
      refine j_lkS E L (fun hC0 ok => k_sum l D S a0 hC0 ok) (cw_L_167 E ⟨by show _ ≤ R.frames; omega, by show _ ≤ R.locals; omega, by show _ ≤ R.cells; omega, by show _ ≤ R.slots; omega, Nat.le_of_ble_eq_true rfl⟩) (q_687 E.tb) rfl dL_law_848 rfl ?_
      refine j_lload E dL_law_851 rfl ?_
      refine j_lcmp E dL_law_853 ?_
      refine j_if_ne (tgt := 876) E dL_law_854 (by decide) (fun q => (q (lcmp_eq (hits (i32_ltof c_839) c_844))).elim) (fun _ => ?_)
      refine j_iload E dL_law_857 rfl ?_
      refine j_bipush (v := 7) E dL_law_859 cb_7 ?_
      refine j_irem E (by decide) dL_law_861 ?_
      refine j_bipush (v := 6) E dL_law_862 cb_6 ?_
      refine j_icmp_ne (tgt := 878) E dL_law_864 (by decide) (fun c_864 => ?_) (fun c_864 => ?_)
      · refine J.sub (lo' := [(0, .ref sc), (1, .ref a0), (2, .ref sa), (3, .ref pa), (4, .int mo), (5, .int ma), (6, .int n6), (7, .int kk)]) ⟨rfl, rfl, rfl, rfl, rfl, rfl, rfl, rfl, trivial⟩ ?_
        exact k _ _ (by omega) (by omega)
      · refine j_aload_n E dL_law_867 rfl ?_
        refine j_aload_n E dL_law_868 rfl ?_
        refine j_aload_n E dL_law_869 rfl ?_
        refine j_lookS E (hc := h) (k_sound l D L hne P) (fun _ _ z => z) (cw_L_197 E ⟨by show _ ≤ R.frames; omega, by show _ ≤ R.locals; omega, by show _ ≤ R.cells; omega, by show _ ≤ R.slots; omega, Nat.le_of_ble_eq_true rfl⟩) (q_694 E.tb) rfl dL_law_870 rfl ?_
        refine j_if_ne (tgt := 878) E dL_law_873 (by decide) (fun _ => ?_) (fun q => (show False from absurd q (by decide)).elim)
        refine J.sub (lo' := [(0, .ref sc), (1, .ref a0), (2, .ref sa), (3, .ref pa), (4, .int mo), (5, .int ma), (6, .int n6), (7, .int kk)]) ⟨rfl, rfl, rfl, rfl, rfl, rfl, rfl, rfl, trivial⟩ ?_
        exact k _ _ (by omega) (by omega)
set_option maxHeartbeats 4000000 in
set_option maxRecDepth 100000 in
theorem law_loop (E : Cx p l s m args meth c cL_law 24 RL D A) {a0 sa pa sc N n6 : Nat} {f : Nat → Int32} (SX : Scr s A sc N f) (hN : N < 2 ^ 31) (hn6 : n6 ≤ 57) (hne : sa ≠ pa) (hF : 12 ≤ R.frames ∧ 600 ≤ R.locals) {c1 s1 : Nat} (hR : c1 ≤ R.cells ∧ s1 ≤ R.slots) (kend : ∀ (S : St) (h : AH) (sh pt : Nat → Int32) (mo ma kk : Int32) (cells slots : Nat), LwP S a0 (twoA sa pa sh pt) h → PI S sh pt → mo = S.1 0 2 0 → ma = S.1 0 3 0 → cells ≤ c1 → slots ≤ s1 → J p l e R s m args below meth c D A 24 Q cells slots h 884 [(0, .ref sc), (1, .ref a0), (2, .ref sa), (3, .ref pa), (4, .int mo), (5, .int ma), (6, .int (nI n6)), (7, .int kk)] []) : ∀ (n i cells slots : Nat) (S : St) (sh pt : Nat → Int32) (mo ma : Int32) (h : AH), i + n = n6 → LwP S a0 (twoA sa pa sh pt) h → PI S sh pt → mo = S.1 0 2 0 → ma = S.1 0 3 0 → cells + 920 * n ≤ c1 ∧ slots + 10900 * n ≤ s1 → J p l e R s m args below meth c D A 24 Q cells slots h 39 [(0, .ref sc), (1, .ref a0), (2, .ref sa), (3, .ref pa), (4, .int mo), (5, .int ma), (6, .int (nI n6)), (7, .int (nI i))] [] := by
  intro n
  induction n with
  | zero =>
    intro i cells slots S sh pt mo ma h hi L P hmo hma hc
    refine j_iload E dL_law_39 rfl ?_
    refine j_iload E dL_law_41 rfl ?_
    refine j_icmp_ge (tgt := 884) E dL_law_43 (by decide) (fun _ => ?_) (fun q => (q (nI_le (by omega) (by omega))).elim)
    exact kend S h sh pt mo ma _ cells slots L P hmo hma (by omega) (by omega)
  | succ n ih =>
    intro i cells slots S sh pt mo ma h hi L P hmo hma hc
    refine law_top E SX hN (by omega) hn6 L hF ⟨by omega, by omega⟩ (fun v9 w9 m9 r9 iw bf cells1 slots1 hbf hc1 hs1 => ?_)
    refine law_mid E (fun kind => ?_)
    refine law_disp E L hne P hmo hma hF ⟨by omega, by omega⟩ (fun S2 h2 sh2 pt2 mo2 ma2 its cells2 slots2 L2 P2 hmo2 hma2 hits hc2 hs2 => ?_)
    refine law_join E L2 hne P2 hF ⟨by omega, by omega⟩ (fun q1 q2 => by rw [hits q1]; exact hbf q2) (fun cells3 slots3 hc3 hs3 => ?_)
    refine j_iincK (k := 1) E ci_1 dL_law_878 rfl (by decide) ?_
    refine j_goto (tgt := 39) E dL_law_881 (by decide) ?_
    rw [show nI i + 1 = nI (i + 1) from (nI_succ i).symm]
    refine J.sub (lo' := [(0, .ref sc), (1, .ref a0), (2, .ref sa), (3, .ref pa), (4, .int mo2), (5, .int ma2), (6, .int (nI n6)), (7, .int (nI (i + 1)))]) ⟨rfl, rfl, rfl, rfl, rfl, rfl, rfl, rfl, trivial⟩ ?_
    exact ih (i + 1) cells3 slots3 S2 sh2 pt2 mo2 ma2 h2 (by omega) L2 P2 hmo2 hma2 ⟨by omega, by omega⟩
end SP
