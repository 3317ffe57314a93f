/-! the law's check of an order, and of all -/
theorem tcn {n : Nat} (h : n < 2 ^ 31) : (nI n).toNatClampNeg = n := nI_clamp h
def twoA (sa pa : Nat) (sh pt : Nat → Int32) : AH := fun q => if q = sa then some (.inl (.int, (8, .inl sh))) else if q = pa then some (.inl (.int, (8, .inl pt))) else none
theorem twoA_s {sa pa : Nat} {sh pt : Nat → Int32} : twoA sa pa sh pt sa = some (.inl (.int, (8, .inl sh))) := if_pos rfl
theorem twoA_p {sa pa : Nat} {sh pt : Nat → Int32} (hne : sa ≠ pa) : twoA sa pa sh pt pa = some (.inl (.int, (8, .inl pt))) := by
  unfold twoA
  rw [if_neg (fun q => hne q.symm), if_pos rfl]
theorem lots3 {S : St} {B : Nat} (I : Inv S B) : ¬ (3 : Int32) < S.1 0 1 0 := by
  have h := I.cnt.2.1.2.2
  rw [i32_lt, ntoI I.cnt.2.1.1, show (3 : Int32).toInt = 3 from by decide]
  omega
def shS' (S : St) (i : Nat) : Int32 := nI (sumN (fun k => nn (S.1 21 k 0)) i)
def mdS (S : St) (pt : Nat → Int32) (i : Nat) : Int32 := nI (sumN (fun k => nn (pt k) - nn (S.1 19 k 0)) i)
theorem shS_up {S : St} {B : Nat} {sh pt : Nat → Int32} (I : Inv S B) (P : PI S sh pt) {i : Nat} (hi : i < nn (S.1 0 4 0)) : shS' S i + (rc (p_shots S (nI i))).toInt64.toInt32 = shS' S (i + 1) := by
  obtain ⟨-, -, q3, -⟩ := P.po hi
  rw [v_shots I hi, i6432]
  unfold shS'
  rw [q3, nI_add]
  rfl
theorem mdS_up {S : St} {B : Nat} {sh pt : Nat → Int32} (I : Inv S B) (P : PI S sh pt) {i : Nat} (hi : i < nn (S.1 0 4 0)) : mdS S pt i + (pt i - (rc (p_lacks S (nI i))).toInt64.toInt32) = mdS S pt (i + 1) := by
  obtain ⟨-, q2, q3, q4, -⟩ := P.po hi
  have h19 := (I.ord.1 i hi).2.2.1
  rw [v_lacks I hi, i6432]
  obtain ⟨a1, a2⟩ := nsub q2.1 h19.1 (by omega)
  unfold mdS
  rw [a1, nI_add, a2]
  rfl
theorem shS_end {S : St} {B : Nat} {sh pt : Nat → Int32} (I : Inv S B) (P : PI S sh pt) : shS' S (nn (S.1 0 4 0)) = S.1 0 6 0 := by
  unfold shS'
  rw [← P.2.1]
  exact I.all.1.1.symm
theorem mdS_end {S : St} {sh pt : Nat → Int32} (P : PI S sh pt) : mdS S pt (nn (S.1 0 4 0)) = S.1 0 7 0 := by
  unfold mdS
  rw [← P.2.2.2.1]
  exact P.2.2.1.symm
theorem up_lacks {S : St} {B : Nat} {sh pt : Nat → Int32} (I : Inv S B) (P : PI S sh pt) {i : Nat} (hi : i < nn (S.1 0 4 0)) : (rc (p_lacks S (nI i))).toInt64.toInt ≤ (pt i).toInt64.toInt := by
  obtain ⟨-, q2, q3, q4, -⟩ := P.po hi
  rw [v_lacks I hi, Int32.toInt_toInt64, Int32.toInt_toInt64, ntoI (I.ord.1 i hi).2.2.1.1, ntoI q2.1]
  omega
theorem up_top {S : St} {B : Nat} {sh pt : Nat → Int32} (I : Inv S B) (P : PI S sh pt) {i : Nat} (hi : i < nn (S.1 0 4 0)) : (rc (p_greatestShare S (nI i))).toInt64.toInt ≤ (sh i).toInt64.toInt := by
  obtain ⟨q1, -, -, -, q5, q6, -⟩ := P.po hi
  have h20 := (I.ord.1 i hi).2.2.2
  by_cases hz : S.1 21 i 0 = 0
  · rw [v_top0 I hi hz, q1, Int32.toInt_toInt64, Int32.toInt_toInt64, ntoI h20.1, i32_m1002]
    omega
  · rw [v_top1 I hi hz, q1, Int32.toInt_toInt64, Int32.toInt_toInt64, ntoI h20.1, ntoI q5]
    omega
theorem top_ne {S : St} {B : Nat} {sh pt : Nat → Int32} (I : Inv S B) (P : PI S sh pt) {i : Nat} (hi : i < nn (S.1 0 4 0)) (hz : ¬ S.1 21 i 0 = 0) : ¬ (rc (p_greatestShare S (nI i))).toInt64 = -1002 := by
  obtain ⟨-, -, -, -, q5, -⟩ := P.po hi
  intro h
  have h2 : (rc (p_greatestShare S (nI i))).toInt64.toInt = -1002 := by rw [h]; decide
  rw [v_top1 I hi hz, Int32.toInt_toInt64, ntoI q5] at h2
  omega
theorem back_0 {S : St} {B : Nat} {sh pt : Nat → Int32} (I : Inv S B) (P : PI S sh pt) {i : Nat} (hi : i < nn (S.1 0 4 0)) (hz : sh i = 0) : rcL (p_regrindIn S (nI i)) = 0 := by
  obtain ⟨q1, -, -, -, -, -, g, q7, q8, q9⟩ := P.po hi
  rw [v_back I hi, q7, q9 (by rw [← q1, hz, nn_0])]
  rfl
section LS
variable {p : Program} {l : Launch} {e : Env} {R : Room} {s : State} {m : MethodId} {args : Array Value} {below : List Frame} {meth : Method} {c : Code} {D : va_G} {A : Nat → Prop} {Q : State → Prop} {h : AH}
theorem ntoN {i : Nat} (h : i < 2 ^ 31) : nI i = nI (nn (nI i)) := by rw [nn_nI h]
set_option maxHeartbeats 4000000 in
set_option maxRecDepth 100000 in
theorem lp_sound (E : Cx p l s m args meth c cL_isSound 11 RL D A) {S : St} {a0 sa pa : Nat} {sh pt : Nat → Int32} (L : LwP S a0 (twoA sa pa sh pt) h) (hne : sa ≠ pa) (P : PI S sh pt) (hF : 11 ≤ R.frames ∧ 450 ≤ R.locals) {c1 s1 : Nat} (hR : c1 ≤ R.cells ∧ s1 ≤ R.slots) (k : ∀ cells slots : Nat, cells ≤ c1 → slots ≤ s1 → J p l e R s m args below meth c D A 11 Q cells slots h 197 [(0, .ref a0), (1, .ref sa), (2, .ref pa), (4, .int (S.1 0 6 0)), (5, .int (S.1 0 7 0))] []) : ∀ (n i cells slots : Nat), i + n = nn (S.1 0 4 0) → i ≤ nn (S.1 0 4 0) → cells + 24 * n ≤ c1 ∧ slots + 144 * n ≤ s1 → J p l e R s m args below meth c D A 11 Q cells slots h 14 [(0, .ref a0), (1, .ref sa), (2, .ref pa), (3, .int (S.1 0 4 0)), (4, .int (shS' S i)), (5, .int (mdS S pt i)), (6, .int (nI i))] [] := by
  intro n
  induction n with
  | zero =>
    intro i cells slots hi hle hc
    have h8 := cnt8 L.inv
    have ei : i = nn (S.1 0 4 0) := by omega
    refine j_iload E dL_isSound_14 rfl ?_
    refine j_iload_n E dL_isSound_16 rfl ?_
    refine j_icmp_ge (tgt := 197) E dL_isSound_17 (by decide) (fun _ => ?_) (fun q => (q (ge_of (ntoN (by omega)) L.inv.cnt.2.2.2.2.1 (by rw [nn_nI (n := i) (by omega)]; omega) (nn_lt _))).elim)
    have k2 := k cells slots (by omega) (by omega)
    rw [← shS_end L.inv P, ← mdS_end P, ← ei] at k2
    refine J.sub (lo' := [(0, .ref a0), (1, .ref sa), (2, .ref pa), (4, .int (shS' S i)), (5, .int (mdS S pt i))]) ⟨rfl, rfl, rfl, rfl, rfl, trivial⟩ ?_
    exact k2
  | succ n ih =>
    intro i cells slots hi hle hc
    have h8 := cnt8 L.inv
    have hi2 : i < nn (S.1 0 4 0) := by omega
    refine j_iload E dL_isSound_14 rfl ?_
    refine j_iload_n E dL_isSound_16 rfl ?_
    refine j_icmp_ge (tgt := 197) E dL_isSound_17 (by decide) (fun q => (nge_of (ntoN (by omega)) L.inv.cnt.2.2.2.2.1 (by rw [nn_nI (n := i) (by omega)]; omega) (nn_lt _) q).elim) (fun _ => ?_)
    refine j_aload_n E dL_isSound_20 rfl ?_
    refine j_iload E dL_isSound_21 rfl ?_
    refine j_iconst (v := 0) E dL_isSound_23 ci_0 ?_
    refine j_lk E L (fun hC0 ok => h_of0 l D S a0 hC0 ok (nI i)) (cww_of E ⟨by show _ ≤ R.frames; omega, by show _ ≤ R.locals; omega, by show _ ≤ R.cells; omega, by show _ ≤ R.slots; omega, Nat.le_of_ble_eq_true rfl⟩) (q_600 E.tb) rfl dL_isSound_24 rfl ?_
    refine j_lstore E dL_isSound_27 (by decide) ?_
    refine j_aload_n E dL_isSound_29 rfl ?_
    refine j_iload E dL_isSound_30 rfl ?_
    refine j_iconst (v := 3) E dL_isSound_32 ci_3 ?_
    refine j_lk E L (fun hC0 ok => h_of3 l D S a0 hC0 ok (nI i)) (cww_of E ⟨by show _ ≤ R.frames; omega, by show _ ≤ R.locals; omega, by show _ ≤ R.cells; omega, by show _ ≤ R.slots; omega, Nat.le_of_ble_eq_true rfl⟩) (q_600 E.tb) rfl dL_isSound_33 rfl ?_
    refine j_lstore E dL_isSound_36 (by decide) ?_
    refine j_iload E dL_isSound_38 rfl ?_
    refine j_aload_n E dL_isSound_40 rfl ?_
    refine j_iload E dL_isSound_41 rfl ?_
    refine j_iconst (v := 2) E dL_isSound_43 ci_2 ?_
    refine j_lk E L (fun hC0 ok => h_of2 l D S a0 hC0 ok (nI i)) (cww_of E ⟨by show _ ≤ R.frames; omega, by show _ ≤ R.locals; omega, by show _ ≤ R.cells; omega, by show _ ≤ R.slots; omega, Nat.le_of_ble_eq_true rfl⟩) (q_600 E.tb) rfl dL_isSound_44 rfl ?_
    refine j_l2i E dL_isSound_47 ?_
    refine j_iadd E dL_isSound_48 ?_
    refine J.stk (st' := [.int (shS' S (i + 1))]) (by rw [shS_up L.inv P hi2]) ?_
    refine j_istore E dL_isSound_49 (by decide) ?_
    refine j_iload E dL_isSound_51 rfl ?_
    refine j_aload_n E dL_isSound_53 rfl ?_
    refine j_iload E dL_isSound_54 rfl ?_
    refine j_iald E (L.x (twoA_p hne)) (vin_nI (n := 8) (k := i) (by omega) (by decide)) dL_isSound_56 ?_
    refine J.stk (st' := [.int (pt i), .int (mdS S pt i)]) (by rw [tcn (n := i) (by omega)]) ?_
    refine j_lload E dL_isSound_57 rfl ?_
    refine j_l2i E dL_isSound_59 ?_
    refine j_isub E dL_isSound_60 ?_
    refine j_iadd E dL_isSound_61 ?_
    refine J.stk (st' := [.int (mdS S pt (i + 1))]) (by rw [mdS_up L.inv P hi2]) ?_
    refine j_istore E dL_isSound_62 (by decide) ?_
    refine j_lload E dL_isSound_64 rfl ?_
    refine j_aload_n E dL_isSound_66 rfl ?_
    refine j_iload E dL_isSound_67 rfl ?_
    refine j_iconst (v := 4) E dL_isSound_69 ci_4 ?_
    refine j_lk E L (fun hC0 ok => h_of4 l D S a0 hC0 ok (nI i)) (cww_of E ⟨by show _ ≤ R.frames; omega, by show _ ≤ R.locals; omega, by show _ ≤ R.cells; omega, by show _ ≤ R.slots; omega, Nat.le_of_ble_eq_true rfl⟩) (q_600 E.tb) rfl dL_isSound_70 rfl ?_
    refine j_lcmp E dL_isSound_73 ?_
    refine j_if_ne (tgt := 189) E dL_isSound_74 (by decide) (fun q => (q (lcmp_eq rfl)).elim) (fun _ => ?_)
    refine j_lload E dL_isSound_77 rfl ?_
    refine j_aload_n E dL_isSound_79 rfl ?_
    refine j_iload E dL_isSound_80 rfl ?_
    refine j_iald E (L.x (twoA_p hne)) (vin_nI (n := 8) (k := i) (by omega) (by decide)) dL_isSound_82 ?_
    refine J.stk (st' := [.int (pt i), .long (rc (p_lacks S (nI i))).toInt64]) (by rw [tcn (n := i) (by omega)]) ?_
    refine j_i2l E dL_isSound_83 ?_
    refine j_lcmp E dL_isSound_84 ?_
    refine j_if_gt (tgt := 189) E dL_isSound_85 (by decide) (fun q => (lcmp_ngt (up_lacks L.inv P hi2) q).elim) (fun _ => ?_)
    refine j_aload_n E dL_isSound_88 rfl ?_
    refine j_iload E dL_isSound_89 rfl ?_
    refine j_iconst (v := 5) E dL_isSound_91 ci_5 ?_
    refine j_lk E L (fun hC0 ok => h_of5 l D S a0 hC0 ok (nI i)) (cww_of E ⟨by show _ ≤ R.frames; omega, by show _ ≤ R.locals; omega, by show _ ≤ R.cells; omega, by show _ ≤ R.slots; omega, Nat.le_of_ble_eq_true rfl⟩) (q_600 E.tb) rfl dL_isSound_92 rfl ?_
    refine j_aload_n E dL_isSound_95 rfl ?_
    refine j_iload E dL_isSound_96 rfl ?_
    refine j_iald E (L.x twoA_s) (vin_nI (n := 8) (k := i) (by omega) (by decide)) dL_isSound_98 ?_
    refine J.stk (st' := [.int (sh i), .long (rc (p_greatestShare S (nI i))).toInt64]) (by rw [tcn (n := i) (by omega)]) ?_
    refine j_i2l E dL_isSound_99 ?_
    refine j_lcmp E dL_isSound_100 ?_
    refine j_if_gt (tgt := 189) E dL_isSound_101 (by decide) (fun q => (lcmp_ngt (up_top L.inv P hi2) q).elim) (fun _ => ?_)
    by_cases hz : S.1 21 i 0 = 0
    · refine j_aload_n E dL_isSound_104 rfl ?_
      refine j_iload E dL_isSound_105 rfl ?_
      refine j_iconst (v := 5) E dL_isSound_107 ci_5 ?_
      refine j_lk E L (fun hC0 ok => h_of5 l D S a0 hC0 ok (nI i)) (cww_of E ⟨by show _ ≤ R.frames; omega, by show _ ≤ R.locals; omega, by show _ ≤ R.cells; omega, by show _ ≤ R.slots; omega, Nat.le_of_ble_eq_true rfl⟩) (q_600 E.tb) rfl dL_isSound_108 rfl ?_
      refine j_ldc2 E (q_639 E.tb) dL_isSound_111 ?_
      refine j_lcmp E dL_isSound_114 ?_
      refine j_if_ne (tgt := 122) E dL_isSound_115 (by decide) (fun q => (q (lcmp_eq (by rw [v_top0 L.inv hi2 hz]; decide))).elim) (fun _ => ?_)
      refine j_iconst (v := 1) E dL_isSound_118 ci_1 ?_
      refine j_goto (tgt := 123) E dL_isSound_119 (by decide) ?_
      refine j_aload_n E dL_isSound_123 rfl ?_
      refine j_iload E dL_isSound_124 rfl ?_
      refine j_iconst (v := 2) E dL_isSound_126 ci_2 ?_
      refine j_lk E L (fun hC0 ok => h_of2 l D S a0 hC0 ok (nI i)) (cww_of E ⟨by show _ ≤ R.frames; omega, by show _ ≤ R.locals; omega, by show _ ≤ R.cells; omega, by show _ ≤ R.slots; omega, Nat.le_of_ble_eq_true rfl⟩) (q_600 E.tb) rfl dL_isSound_127 rfl ?_
      refine j_lconst (v := 0) E dL_isSound_130 cl_0 ?_
      refine j_lcmp E dL_isSound_131 ?_
      refine j_if_ne (tgt := 139) E dL_isSound_132 (by decide) (fun q => (q (lcmp_eq (by rw [v_shots L.inv hi2, hz]; decide))).elim) (fun _ => ?_)
      refine j_iconst (v := 1) E dL_isSound_135 ci_1 ?_
      refine j_goto (tgt := 140) E dL_isSound_136 (by decide) ?_
      refine j_icmp_ne (tgt := 189) E dL_isSound_140 (by decide) (fun q => (q rfl).elim) (fun _ => ?_)
      by_cases hl : S.1 19 i 0 = 0
      · refine j_lload E dL_isSound_143 rfl ?_
        refine j_lconst (v := 0) E dL_isSound_145 cl_0 ?_
        refine j_lcmp E dL_isSound_146 ?_
        refine j_if_ne (tgt := 154) E dL_isSound_147 (by decide) (fun q => (q (lcmp_eq (by rw [v_lacks L.inv hi2, hl]; decide))).elim) (fun _ => ?_)
        refine j_iconst (v := 1) E dL_isSound_150 ci_1 ?_
        refine j_goto (tgt := 155) E dL_isSound_151 (by decide) ?_
        refine j_aload_n E dL_isSound_155 rfl ?_
        refine j_iload E dL_isSound_156 rfl ?_
        refine j_iconst (v := 1) E dL_isSound_158 ci_1 ?_
        refine j_lk E L (fun hC0 ok => h_of1 l D S a0 hC0 ok (nI i)) (cww_of E ⟨by show _ ≤ R.frames; omega, by show _ ≤ R.locals; omega, by show _ ≤ R.cells; omega, by show _ ≤ R.slots; omega, Nat.le_of_ble_eq_true rfl⟩) (q_600 E.tb) rfl dL_isSound_159 rfl ?_
        refine j_lconst (v := 0) E dL_isSound_162 cl_0 ?_
        refine j_lcmp E dL_isSound_163 ?_
        refine j_if_ne (tgt := 171) E dL_isSound_164 (by decide) (fun q => (q (lcmp_eq (by rw [v_need0 L.inv hi2 hl]; decide))).elim) (fun _ => ?_)
        refine j_iconst (v := 1) E dL_isSound_167 ci_1 ?_
        refine j_goto (tgt := 172) E dL_isSound_168 (by decide) ?_
        refine j_icmp_ne (tgt := 189) E dL_isSound_172 (by decide) (fun q => (q rfl).elim) (fun _ => ?_)
        refine j_lload E dL_isSound_175 rfl ?_
        refine j_lconst (v := 0) E dL_isSound_177 cl_0 ?_
        refine j_lcmp E dL_isSound_178 ?_
        refine j_if_le (tgt := 191) E dL_isSound_179 (by decide) (fun c_179 => ?_) (fun c_179 => ?_)
        · refine j_iincK (k := 1) E ci_1 dL_isSound_191 rfl (by decide) ?_
          refine j_goto (tgt := 14) E dL_isSound_194 (by decide) ?_
          rw [show nI i + 1 = nI (i + 1) from (nI_succ i).symm]
          refine J.sub (lo' := [(0, .ref a0), (1, .ref sa), (2, .ref pa), (3, .int (S.1 0 4 0)), (4, .int (shS' S (i + 1))), (5, .int (mdS S pt (i + 1))), (6, .int (nI (i + 1)))]) ⟨rfl, rfl, rfl, rfl, rfl, rfl, rfl, trivial⟩ ?_
          exact ih (i + 1) _ _ (by omega) (by omega) ⟨by omega, by omega⟩
        · have hsh : ¬ sh i = 0 := fun z => c_179 (by rw [back_0 L.inv P hi2 z]; decide)
          refine j_aload_n E dL_isSound_182 rfl ?_
          refine j_iload E dL_isSound_183 rfl ?_
          refine j_iald E (L.x twoA_s) (vin_nI (n := 8) (k := i) (by omega) (by decide)) dL_isSound_185 ?_
          refine J.stk (st' := [.int (sh i)]) (by rw [tcn (n := i) (by omega)]) ?_
          refine j_if_ne (tgt := 191) E dL_isSound_186 (by decide) (fun _ => ?_) (fun q => (hsh q).elim)
          refine j_iincK (k := 1) E ci_1 dL_isSound_191 rfl (by decide) ?_
          refine j_goto (tgt := 14) E dL_isSound_194 (by decide) ?_
          rw [show nI i + 1 = nI (i + 1) from (nI_succ i).symm]
          refine J.sub (lo' := [(0, .ref a0), (1, .ref sa), (2, .ref pa), (3, .int (S.1 0 4 0)), (4, .int (shS' S (i + 1))), (5, .int (mdS S pt (i + 1))), (6, .int (nI (i + 1)))]) ⟨rfl, rfl, rfl, rfl, rfl, rfl, rfl, trivial⟩ ?_
          exact ih (i + 1) _ _ (by omega) (by omega) ⟨by omega, by omega⟩
      · refine j_lload E dL_isSound_143 rfl ?_
        refine j_lconst (v := 0) E dL_isSound_145 cl_0 ?_
        refine j_lcmp E dL_isSound_146 ?_
        refine j_if_ne (tgt := 154) E dL_isSound_147 (by decide) (fun _ => ?_) (fun q => (lcmp_ne (fun z => hl (by rw [← v_lacks L.inv hi2]; exact i64_of0 z)) q).elim)
        refine j_iconst (v := 0) E dL_isSound_154 ci_0 ?_
        refine j_aload_n E dL_isSound_155 rfl ?_
        refine j_iload E dL_isSound_156 rfl ?_
        refine j_iconst (v := 1) E dL_isSound_158 ci_1 ?_
        refine j_lk E L (fun hC0 ok => h_of1 l D S a0 hC0 ok (nI i)) (cww_of E ⟨by show _ ≤ R.frames; omega, by show _ ≤ R.locals; omega, by show _ ≤ R.cells; omega, by show _ ≤ R.slots; omega, Nat.le_of_ble_eq_true rfl⟩) (q_600 E.tb) rfl dL_isSound_159 rfl ?_
        refine j_lconst (v := 0) E dL_isSound_162 cl_0 ?_
        refine j_lcmp E dL_isSound_163 ?_
        refine j_if_ne (tgt := 171) E dL_isSound_164 (by decide) (fun _ => ?_) (fun q => (lcmp_ne (fun z => v_need1 L.inv hi2 hl (i64_of0 z)) q).elim)
        refine j_iconst (v := 0) E dL_isSound_171 ci_0 ?_
        refine j_icmp_ne (tgt := 189) E dL_isSound_172 (by decide) (fun q => (q rfl).elim) (fun _ => ?_)
        refine j_lload E dL_isSound_175 rfl ?_
        refine j_lconst (v := 0) E dL_isSound_177 cl_0 ?_
        refine j_lcmp E dL_isSound_178 ?_
        refine j_if_le (tgt := 191) E dL_isSound_179 (by decide) (fun c_179 => ?_) (fun c_179 => ?_)
        · refine j_iincK (k := 1) E ci_1 dL_isSound_191 rfl (by decide) ?_
          refine j_goto (tgt := 14) E dL_isSound_194 (by decide) ?_
          rw [show nI i + 1 = nI (i + 1) from (nI_succ i).symm]
          refine J.sub (lo' := [(0, .ref a0), (1, .ref sa), (2, .ref pa), (3, .int (S.1 0 4 0)), (4, .int (shS' S (i + 1))), (5, .int (mdS S pt (i + 1))), (6, .int (nI (i + 1)))]) ⟨rfl, rfl, rfl, rfl, rfl, rfl, rfl, trivial⟩ ?_
          exact ih (i + 1) _ _ (by omega) (by omega) ⟨by omega, by omega⟩
        · have hsh : ¬ sh i = 0 := fun z => c_179 (by rw [back_0 L.inv P hi2 z]; decide)
          refine j_aload_n E dL_isSound_182 rfl ?_
          refine j_iload E dL_isSound_183 rfl ?_
          refine j_iald E (L.x twoA_s) (vin_nI (n := 8) (k := i) (by omega) (by decide)) dL_isSound_185 ?_
          refine J.stk (st' := [.int (sh i)]) (by rw [tcn (n := i) (by omega)]) ?_
          refine j_if_ne (tgt := 191) E dL_isSound_186 (by decide) (fun _ => ?_) (fun q => (hsh q).elim)
          refine j_iincK (k := 1) E ci_1 dL_isSound_191 rfl (by decide) ?_
          refine j_goto (tgt := 14) E dL_isSound_194 (by decide) ?_
          rw [show nI i + 1 = nI (i + 1) from (nI_succ i).symm]
          refine J.sub (lo' := [(0, .ref a0), (1, .ref sa), (2, .ref pa), (3, .int (S.1 0 4 0)), (4, .int (shS' S (i + 1))), (5, .int (mdS S pt (i + 1))), (6, .int (nI (i + 1)))]) ⟨rfl, rfl, rfl, rfl, rfl, rfl, rfl, trivial⟩ ?_
          exact ih (i + 1) _ _ (by omega) (by omega) ⟨by omega, by omega⟩
    · refine j_aload_n E dL_isSound_104 rfl ?_
      refine j_iload E dL_isSound_105 rfl ?_
      refine j_iconst (v := 5) E dL_isSound_107 ci_5 ?_
      refine j_lk E L (fun hC0 ok => h_of5 l D S a0 hC0 ok (nI i)) (cww_of E ⟨by show _ ≤ R.frames; omega, by show _ ≤ R.locals; omega, by show _ ≤ R.cells; omega, by show _ ≤ R.slots; omega, Nat.le_of_ble_eq_true rfl⟩) (q_600 E.tb) rfl dL_isSound_108 rfl ?_
      refine j_ldc2 E (q_639 E.tb) dL_isSound_111 ?_
      refine j_lcmp E dL_isSound_114 ?_
      refine j_if_ne (tgt := 122) E dL_isSound_115 (by decide) (fun _ => ?_) (fun q => (lcmp_ne (top_ne L.inv P hi2 hz) q).elim)
      refine j_iconst (v := 0) E dL_isSound_122 ci_0 ?_
      refine j_aload_n E dL_isSound_123 rfl ?_
      refine j_iload E dL_isSound_124 rfl ?_
      refine j_iconst (v := 2) E dL_isSound_126 ci_2 ?_
      refine j_lk E L (fun hC0 ok => h_of2 l D S a0 hC0 ok (nI i)) (cww_of E ⟨by show _ ≤ R.frames; omega, by show _ ≤ R.locals; omega, by show _ ≤ R.cells; omega, by show _ ≤ R.slots; omega, Nat.le_of_ble_eq_true rfl⟩) (q_600 E.tb) rfl dL_isSound_127 rfl ?_
      refine j_lconst (v := 0) E dL_isSound_130 cl_0 ?_
      refine j_lcmp E dL_isSound_131 ?_
      refine j_if_ne (tgt := 139) E dL_isSound_132 (by decide) (fun _ => ?_) (fun q => (lcmp_ne (fun z => hz (by rw [← v_shots L.inv hi2]; exact i64_of0 z)) q).elim)
      refine j_iconst (v := 0) E dL_isSound_139 ci_0 ?_
      refine j_icmp_ne (tgt := 189) E dL_isSound_140 (by decide) (fun q => (q rfl).elim) (fun _ => ?_)
      by_cases hl : S.1 19 i 0 = 0
      · refine j_lload E dL_isSound_143 rfl ?_
        refine j_lconst (v := 0) E dL_isSound_145 cl_0 ?_
        refine j_lcmp E dL_isSound_146 ?_
        refine j_if_ne (tgt := 154) E dL_isSound_147 (by decide) (fun q => (q (lcmp_eq (by rw [v_lacks L.inv hi2, hl]; decide))).elim) (fun _ => ?_)
        refine j_iconst (v := 1) E dL_isSound_150 ci_1 ?_
        refine j_goto (tgt := 155) E dL_isSound_151 (by decide) ?_
        refine j_aload_n E dL_isSound_155 rfl ?_
        refine j_iload E dL_isSound_156 rfl ?_
        refine j_iconst (v := 1) E dL_isSound_158 ci_1 ?_
        refine j_lk E L (fun hC0 ok => h_of1 l D S a0 hC0 ok (nI i)) (cww_of E ⟨by show _ ≤ R.frames; omega, by show _ ≤ R.locals; omega, by show _ ≤ R.cells; omega, by show _ ≤ R.slots; omega, Nat.le_of_ble_eq_true rfl⟩) (q_600 E.tb) rfl dL_isSound_159 rfl ?_
        refine j_lconst (v := 0) E dL_isSound_162 cl_0 ?_
        refine j_lcmp E dL_isSound_163 ?_
        refine j_if_ne (tgt := 171) E dL_isSound_164 (by decide) (fun q => (q (lcmp_eq (by rw [v_need0 L.inv hi2 hl]; decide))).elim) (fun _ => ?_)
        refine j_iconst (v := 1) E dL_isSound_167 ci_1 ?_
        refine j_goto (tgt := 172) E dL_isSound_168 (by decide) ?_
        refine j_icmp_ne (tgt := 189) E dL_isSound_172 (by decide) (fun q => (q rfl).elim) (fun _ => ?_)
        refine j_lload E dL_isSound_175 rfl ?_
        refine j_lconst (v := 0) E dL_isSound_177 cl_0 ?_
        refine j_lcmp E dL_isSound_178 ?_
        refine j_if_le (tgt := 191) E dL_isSound_179 (by decide) (fun c_179 => ?_) (fun c_179 => ?_)
        · refine j_iincK (k := 1) E ci_1 dL_isSound_191 rfl (by decide) ?_
          refine j_goto (tgt := 14) E dL_isSound_194 (by decide) ?_
          rw [show nI i + 1 = nI (i + 1) from (nI_succ i).symm]
          refine J.sub (lo' := [(0, .ref a0), (1, .ref sa), (2, .ref pa), (3, .int (S.1 0 4 0)), (4, .int (shS' S (i + 1))), (5, .int (mdS S pt (i + 1))), (6, .int (nI (i + 1)))]) ⟨rfl, rfl, rfl, rfl, rfl, rfl, rfl, trivial⟩ ?_
          exact ih (i + 1) _ _ (by omega) (by omega) ⟨by omega, by omega⟩
        · have hsh : ¬ sh i = 0 := fun z => c_179 (by rw [back_0 L.inv P hi2 z]; decide)
          refine j_aload_n E dL_isSound_182 rfl ?_
          refine j_iload E dL_isSound_183 rfl ?_
          refine j_iald E (L.x twoA_s) (vin_nI (n := 8) (k := i) (by omega) (by decide)) dL_isSound_185 ?_
          refine J.stk (st' := [.int (sh i)]) (by rw [tcn (n := i) (by omega)]) ?_
          refine j_if_ne (tgt := 191) E dL_isSound_186 (by decide) (fun _ => ?_) (fun q => (hsh q).elim)
          refine j_iincK (k := 1) E ci_1 dL_isSound_191 rfl (by decide) ?_
          refine j_goto (tgt := 14) E dL_isSound_194 (by decide) ?_
          rw [show nI i + 1 = nI (i + 1) from (nI_succ i).symm]
          refine J.sub (lo' := [(0, .ref a0), (1, .ref sa), (2, .ref pa), (3, .int (S.1 0 4 0)), (4, .int (shS' S (i + 1))), (5, .int (mdS S pt (i + 1))), (6, .int (nI (i + 1)))]) ⟨rfl, rfl, rfl, rfl, rfl, rfl, rfl, trivial⟩ ?_
          exact ih (i + 1) _ _ (by omega) (by omega) ⟨by omega, by omega⟩
      · refine j_lload E dL_isSound_143 rfl ?_
        refine j_lconst (v := 0) E dL_isSound_145 cl_0 ?_
        refine j_lcmp E dL_isSound_146 ?_
        refine j_if_ne (tgt := 154) E dL_isSound_147 (by decide) (fun _ => ?_) (fun q => (lcmp_ne (fun z => hl (by rw [← v_lacks L.inv hi2]; exact i64_of0 z)) q).elim)
        refine j_iconst (v := 0) E dL_isSound_154 ci_0 ?_
        refine j_aload_n E dL_isSound_155 rfl ?_
        refine j_iload E dL_isSound_156 rfl ?_
        refine j_iconst (v := 1) E dL_isSound_158 ci_1 ?_
        refine j_lk E L (fun hC0 ok => h_of1 l D S a0 hC0 ok (nI i)) (cww_of E ⟨by show _ ≤ R.frames; omega, by show _ ≤ R.locals; omega, by show _ ≤ R.cells; omega, by show _ ≤ R.slots; omega, Nat.le_of_ble_eq_true rfl⟩) (q_600 E.tb) rfl dL_isSound_159 rfl ?_
        refine j_lconst (v := 0) E dL_isSound_162 cl_0 ?_
        refine j_lcmp E dL_isSound_163 ?_
        refine j_if_ne (tgt := 171) E dL_isSound_164 (by decide) (fun _ => ?_) (fun q => (lcmp_ne (fun z => v_need1 L.inv hi2 hl (i64_of0 z)) q).elim)
        refine j_iconst (v := 0) E dL_isSound_171 ci_0 ?_
        refine j_icmp_ne (tgt := 189) E dL_isSound_172 (by decide) (fun q => (q rfl).elim) (fun _ => ?_)
        refine j_lload E dL_isSound_175 rfl ?_
        refine j_lconst (v := 0) E dL_isSound_177 cl_0 ?_
        refine j_lcmp E dL_isSound_178 ?_
        refine j_if_le (tgt := 191) E dL_isSound_179 (by decide) (fun c_179 => ?_) (fun c_179 => ?_)
        · refine j_iincK (k := 1) E ci_1 dL_isSound_191 rfl (by decide) ?_
          refine j_goto (tgt := 14) E dL_isSound_194 (by decide) ?_
          rw [show nI i + 1 = nI (i + 1) from (nI_succ i).symm]
          refine J.sub (lo' := [(0, .ref a0), (1, .ref sa), (2, .ref pa), (3, .int (S.1 0 4 0)), (4, .int (shS' S (i + 1))), (5, .int (mdS S pt (i + 1))), (6, .int (nI (i + 1)))]) ⟨rfl, rfl, rfl, rfl, rfl, rfl, rfl, trivial⟩ ?_
          exact ih (i + 1) _ _ (by omega) (by omega) ⟨by omega, by omega⟩
        · have hsh : ¬ sh i = 0 := fun z => c_179 (by rw [back_0 L.inv P hi2 z]; decide)
          refine j_aload_n E dL_isSound_182 rfl ?_
          refine j_iload E dL_isSound_183 rfl ?_
          refine j_iald E (L.x twoA_s) (vin_nI (n := 8) (k := i) (by omega) (by decide)) dL_isSound_185 ?_
          refine J.stk (st' := [.int (sh i)]) (by rw [tcn (n := i) (by omega)]) ?_
          refine j_if_ne (tgt := 191) E dL_isSound_186 (by decide) (fun _ => ?_) (fun q => (hsh q).elim)
          refine j_iincK (k := 1) E ci_1 dL_isSound_191 rfl (by decide) ?_
          refine j_goto (tgt := 14) E dL_isSound_194 (by decide) ?_
          rw [show nI i + 1 = nI (i + 1) from (nI_succ i).symm]
          refine J.sub (lo' := [(0, .ref a0), (1, .ref sa), (2, .ref pa), (3, .int (S.1 0 4 0)), (4, .int (shS' S (i + 1))), (5, .int (mdS S pt (i + 1))), (6, .int (nI (i + 1)))]) ⟨rfl, rfl, rfl, rfl, rfl, rfl, rfl, trivial⟩ ?_
          exact ih (i + 1) _ _ (by omega) (by omega) ⟨by omega, by omega⟩
end LS
set_option maxHeartbeats 4000000 in
set_option maxRecDepth 100000 in
theorem k_sound (l : Launch) (D : va_G) {h : AH} {S : St} {a0 sa pa : Nat} {sh pt : Nat → Int32} (L : LwP S a0 (twoA sa pa sh pt) h) (hne : sa ≠ pa) (P : PI S sh pt) : Ctr l D yL_isSound cL_isSound 11 (some .boolean) 11 450 250 1500 [.ref a0, .ref sa, .ref pa] h (fun _ => False) (fun r9 h' => r9 = some (.int 1) ∧ h = h') := by
  refine Ctr.of RL rfl (by decide) (Nat.le_of_ble_eq_true rfl) ?_
  intro sz p e s m below meth c E hin hr ht
  refine j_aload_n E dL_isSound_0 rfl ?_
  refine j_lkS E L (fun hC0 ok => k_orders l D S a0 hC0 ok) (cw_L_137 E ⟨Nat.le_of_ble_eq_true rfl, Nat.le_of_ble_eq_true rfl, by show _ ≤ 250; omega, by show _ ≤ 1500; omega, Nat.le_of_ble_eq_true rfl⟩) (q_681 E.tb) rfl dL_isSound_1 rfl ?_
  refine j_istore_n E dL_isSound_4 (by decide) ?_
  refine j_iconst (v := 0) E dL_isSound_5 ci_0 ?_
  refine j_istore E dL_isSound_6 (by decide) ?_
  refine j_iconst (v := 0) E dL_isSound_8 ci_0 ?_
  refine j_istore E dL_isSound_9 (by decide) ?_
  refine j_iconst (v := 0) E dL_isSound_11 ci_0 ?_
  refine j_istore E dL_isSound_12 (by decide) ?_
  refine J.sub (lo' := [(0, .ref a0), (1, .ref sa), (2, .ref pa), (3, .int (S.1 0 4 0)), (4, .int (shS' S 0)), (5, .int (mdS S pt 0)), (6, .int (nI 0))]) ⟨rfl, rfl, rfl, rfl, rfl, rfl, rfl, trivial⟩ ?_
  have h8 := cnt8 L.inv
  refine lp_sound (c1 := 216) (s1 := 1296) E L hne P ⟨Nat.le_of_ble_eq_true rfl, Nat.le_of_ble_eq_true rfl⟩ ⟨Nat.le_of_ble_eq_true rfl, Nat.le_of_ble_eq_true rfl⟩ (fun cells slots h1 h2 => ?_) (nn (S.1 0 4 0)) 0 _ _ (by omega) (Nat.zero_le _) ⟨by omega, by omega⟩
  by_cases hs : S.1 0 6 0 = 0
  · refine j_iload E dL_isSound_197 rfl ?_
    refine j_if_le (tgt := 206) E dL_isSound_199 (by decide) (fun _ => ?_) (fun q => (q (by rw [hs]; decide)).elim)
    refine j_iconst (v := 0) E dL_isSound_206 ci_0 ?_
    refine j_istore E dL_isSound_207 (by decide) ?_
    refine j_aload_n E dL_isSound_209 rfl ?_
    refine j_lk E L (fun hC0 ok => h_share l D S a0 hC0 ok ) (cww_share E ⟨Nat.le_of_ble_eq_true rfl, Nat.le_of_ble_eq_true rfl, by show _ ≤ 250; omega, by show _ ≤ 1500; omega, Nat.le_of_ble_eq_true rfl⟩) (q_697 E.tb) rfl dL_isSound_210 rfl ?_
    refine j_ldcf E (q_720 E.tb) dL_isSound_213 ?_
    refine j_fcmp E dL_isSound_215 ?_
    refine j_if_ne (tgt := 223) E dL_isSound_216 (by decide) (fun q => (q (by rw [sh_no hs]; exact sh_refl)).elim) (fun _ => ?_)
    refine j_iconst (v := 1) E dL_isSound_219 ci_1 ?_
    refine j_goto (tgt := 224) E dL_isSound_220 (by decide) ?_
    refine j_iload E dL_isSound_224 rfl ?_
    refine j_icmp_eq (tgt := 301) E dL_isSound_226 (by decide) (fun q => (show False from absurd q (by decide)).elim) (fun _ => ?_)
    refine j_aload_n E dL_isSound_229 rfl ?_
    refine j_lk E L (fun hC0 ok => h_mean l D S a0 hC0 ok ) (cww_mean E ⟨Nat.le_of_ble_eq_true rfl, Nat.le_of_ble_eq_true rfl, by show _ ≤ 250; omega, by show _ ≤ 1500; omega, Nat.le_of_ble_eq_true rfl⟩) (q_722 E.tb) rfl dL_isSound_230 rfl ?_
    refine j_ldc2d E (q_728 E.tb) dL_isSound_233 ?_
    refine j_dcmp E dL_isSound_236 ?_
    refine j_if_ne (tgt := 244) E dL_isSound_237 (by decide) (fun q => (q (by rw [me_no hs]; exact me_refl)).elim) (fun _ => ?_)
    refine j_iconst (v := 1) E dL_isSound_240 ci_1 ?_
    refine j_goto (tgt := 245) E dL_isSound_241 (by decide) ?_
    refine j_iload E dL_isSound_245 rfl ?_
    refine j_icmp_eq (tgt := 301) E dL_isSound_247 (by decide) (fun q => (show False from absurd q (by decide)).elim) (fun _ => ?_)
    refine j_iload E dL_isSound_250 rfl ?_
    refine j_if_eq (tgt := 289) E dL_isSound_252 (by decide) (fun _ => ?_) (fun q => (q rfl).elim)
    refine j_aload_n E dL_isSound_289 rfl ?_
    refine j_lkV E L (fun hC0 ok => kl_lots l D S a0 hC0 ok) (cw_L_124 E ⟨Nat.le_of_ble_eq_true rfl, Nat.le_of_ble_eq_true rfl, by show _ ≤ 250; omega, by show _ ≤ 1500; omega, Nat.le_of_ble_eq_true rfl⟩) (q_106 E.tb) (q_107 E.tb) rfl rfl dL_isSound_290 rfl ?_
    refine j_iconst (v := 3) E dL_isSound_293 ci_3 ?_
    refine j_icmp_gt (tgt := 301) E dL_isSound_294 (by decide) (fun q => (lots3 L.inv q).elim) (fun _ => ?_)
    refine j_iconst (v := 1) E dL_isSound_297 ci_1 ?_
    refine j_goto (tgt := 302) E dL_isSound_298 (by decide) ?_
    exact j_zret E hr rfl dL_isSound_302 ⟨by omega, by omega⟩ ⟨rfl, rfl⟩
  · refine j_iload E dL_isSound_197 rfl ?_
    refine j_if_le (tgt := 206) E dL_isSound_199 (by decide) (fun q => (hs (rg_0 L.inv.all.1 (by have := L.inv.hrs.2.2; show 180 * nn (S.1 0 5 0) < 2 ^ 31; omega) q)).elim) (fun _ => ?_)
    refine j_iconst (v := 1) E dL_isSound_202 ci_1 ?_
    refine j_goto (tgt := 207) E dL_isSound_203 (by decide) ?_
    refine j_istore E dL_isSound_207 (by decide) ?_
    refine j_aload_n E dL_isSound_209 rfl ?_
    refine j_lk E L (fun hC0 ok => h_share l D S a0 hC0 ok ) (cww_share E ⟨Nat.le_of_ble_eq_true rfl, Nat.le_of_ble_eq_true rfl, by show _ ≤ 250; omega, by show _ ≤ 1500; omega, Nat.le_of_ble_eq_true rfl⟩) (q_697 E.tb) rfl dL_isSound_210 rfl ?_
    refine j_ldcf E (q_720 E.tb) dL_isSound_213 ?_
    refine j_fcmp E dL_isSound_215 ?_
    refine j_if_ne (tgt := 223) E dL_isSound_216 (by decide) (fun _ => ?_) (fun q => (sh_ne L.inv P hs q).elim)
    refine j_iconst (v := 0) E dL_isSound_223 ci_0 ?_
    refine j_iload E dL_isSound_224 rfl ?_
    refine j_icmp_eq (tgt := 301) E dL_isSound_226 (by decide) (fun q => (show False from absurd q (by decide)).elim) (fun _ => ?_)
    refine j_aload_n E dL_isSound_229 rfl ?_
    refine j_lk E L (fun hC0 ok => h_mean l D S a0 hC0 ok ) (cww_mean E ⟨Nat.le_of_ble_eq_true rfl, Nat.le_of_ble_eq_true rfl, by show _ ≤ 250; omega, by show _ ≤ 1500; omega, Nat.le_of_ble_eq_true rfl⟩) (q_722 E.tb) rfl dL_isSound_230 rfl ?_
    refine j_ldc2d E (q_728 E.tb) dL_isSound_233 ?_
    refine j_dcmp E dL_isSound_236 ?_
    refine j_if_ne (tgt := 244) E dL_isSound_237 (by decide) (fun _ => ?_) (fun q => (me_ne L.inv P hs q).elim)
    refine j_iconst (v := 0) E dL_isSound_244 ci_0 ?_
    refine j_iload E dL_isSound_245 rfl ?_
    refine j_icmp_eq (tgt := 301) E dL_isSound_247 (by decide) (fun q => (show False from absurd q (by decide)).elim) (fun _ => ?_)
    refine j_iload E dL_isSound_250 rfl ?_
    refine j_if_eq (tgt := 289) E dL_isSound_252 (by decide) (fun q => (show False from absurd q (by decide)).elim) (fun _ => ?_)
    refine j_aload_n E dL_isSound_255 rfl ?_
    refine j_lk E L (fun hC0 ok => h_share l D S a0 hC0 ok ) (cww_share E ⟨Nat.le_of_ble_eq_true rfl, Nat.le_of_ble_eq_true rfl, by show _ ≤ 250; omega, by show _ ≤ 1500; omega, Nat.le_of_ble_eq_true rfl⟩) (q_697 E.tb) rfl dL_isSound_256 rfl ?_
    refine j_fconst0 E dL_isSound_259 ?_
    refine j_fcmp E dL_isSound_260 ?_
    refine j_if_lt (tgt := 301) E dL_isSound_261 (by decide) (fun q => (sh_ge L.inv P hs q).elim) (fun _ => ?_)
    refine j_aload_n E dL_isSound_264 rfl ?_
    refine j_lk E L (fun hC0 ok => h_share l D S a0 hC0 ok ) (cww_share E ⟨Nat.le_of_ble_eq_true rfl, Nat.le_of_ble_eq_true rfl, by show _ ≤ 250; omega, by show _ ≤ 1500; omega, Nat.le_of_ble_eq_true rfl⟩) (q_697 E.tb) rfl dL_isSound_265 rfl ?_
    refine j_ldcf E (q_729 E.tb) dL_isSound_268 ?_
    refine j_fcmp E dL_isSound_270 ?_
    refine j_if_gt (tgt := 301) E dL_isSound_271 (by decide) (fun q => (sh_le L.inv P hs q).elim) (fun _ => ?_)
    refine j_aload_n E dL_isSound_274 rfl ?_
    refine j_lk E L (fun hC0 ok => h_mean l D S a0 hC0 ok ) (cww_mean E ⟨Nat.le_of_ble_eq_true rfl, Nat.le_of_ble_eq_true rfl, by show _ ≤ 250; omega, by show _ ≤ 1500; omega, Nat.le_of_ble_eq_true rfl⟩) (q_722 E.tb) rfl dL_isSound_275 rfl ?_
    refine j_iload E dL_isSound_278 rfl ?_
    refine j_i2d E dL_isSound_280 ?_
    refine j_iload E dL_isSound_281 rfl ?_
    refine j_i2d E dL_isSound_283 ?_
    refine j_ddiv E dL_isSound_284 (nan64 hs) ?_
    refine j_dcmp E dL_isSound_285 ?_
    refine j_if_ne (tgt := 301) E dL_isSound_286 (by decide) (fun q => (q (me_eq hs)).elim) (fun _ => ?_)
    refine j_aload_n E dL_isSound_289 rfl ?_
    refine j_lkV E L (fun hC0 ok => kl_lots l D S a0 hC0 ok) (cw_L_124 E ⟨Nat.le_of_ble_eq_true rfl, Nat.le_of_ble_eq_true rfl, by show _ ≤ 250; omega, by show _ ≤ 1500; omega, Nat.le_of_ble_eq_true rfl⟩) (q_106 E.tb) (q_107 E.tb) rfl rfl dL_isSound_290 rfl ?_
    refine j_iconst (v := 3) E dL_isSound_293 ci_3 ?_
    refine j_icmp_gt (tgt := 301) E dL_isSound_294 (by decide) (fun q => (lots3 L.inv q).elim) (fun _ => ?_)
    refine j_iconst (v := 1) E dL_isSound_297 ci_1 ?_
    refine j_goto (tgt := 302) E dL_isSound_298 (by decide) ?_
    exact j_zret E hr rfl dL_isSound_302 ⟨by omega, by omega⟩ ⟨rfl, rfl⟩
