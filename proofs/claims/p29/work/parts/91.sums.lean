/-! the law's counts and its sum of all that the desk shows -/
theorem nI_geK {i N : Nat} {K : Int32} (hK : nI N = K) (h : i < N) (hN : N < 2 ^ 31) : ¬ K ≤ nI i := hK ▸ nI_ge h hN
theorem nn64 {x : Int32} (hx : x = nI (nn x)) : (0 : Int64).toInt ≤ x.toInt64.toInt := by
  rw [i64_0, Int32.toInt_toInt64, ntoI hx]
  omega
def oL (S : St) (k : Nat) : Int64 := (rc (p_lacks S (nI k))).toInt64
def oH (S : St) (k : Nat) : Int64 := (rc (p_hoursNeeded S (nI k))).toInt64
def oS (S : St) (k : Nat) : Int64 := (rc (p_shots S (nI k))).toInt64
def oR (S : St) (k : Nat) : Int64 := rcL (p_regrindIn S (nI k))
def oG (S : St) (k : Nat) : Int64 := (rc (p_greatestShare S (nI k))).toInt64
def sA (S : St) : Nat → Int64
  | 0 => (S.1 0 5 0).toInt64 + 31 * (S.1 0 1 0).toInt64
  | n + 1 => 31 * sA S n + oL S n + 3 * oH S n + 5 * oS S n + 7 * oR S n
def sB (S : St) : Nat → Int64
  | 0 => sA S 8
  | n + 1 => 31 * sB S n + (rc (p_hoursToDry S (nI n))).toInt64 + 3 * (rc (p_dry S (nI n))).toInt64 + 5 * (rc (p_regrind S (nI n))).toInt64
def sN (S : St) (m : Nat) (v : Int64) : Nat → Int64
  | 0 => v
  | n + 1 => 31 * sN S m v n + (rc (p_nextOpen S (nI m) (nI n))).toInt64
def sC (S : St) : Nat → Int64
  | 0 => sB S 4
  | n + 1 => sN S n (sC S n) 8
def SUM (S : St) : Int64 := sC S 5
theorem kl_lots (l : Launch) (D : va_G) (S : St) (a0 : Nat) (hc : AH) (hOk : Ok S (bS S) a0 hc) : Ctr l D yX7_lots cX7_lots 1 (some .int) 0 0 0 0 [.ref a0] hc (fun _ => False) (fun r9 h' => r9 = some (.int (S.1 0 1 0)) ∧ hc = h') := by
  obtain ⟨gl, G, ad, rfl, K0, hI, I⟩ := hOk
  exact (k_lots l D S gl G ad hc K0 (bS S) I hI).post (fun v h' q => ⟨q.1, q.2.2⟩)
theorem kl_hours (l : Launch) (D : va_G) (S : St) (a0 : Nat) (hc : AH) (hOk : Ok S (bS S) a0 hc) : Ctr l D yX7_hours cX7_hours 1 (some .int) 0 0 0 0 [.ref a0] hc (fun _ => False) (fun r9 h' => r9 = some (.int (S.1 0 5 0)) ∧ hc = h') := by
  obtain ⟨gl, G, ad, rfl, K0, hI, I⟩ := hOk
  exact (k_hours l D S gl G ad hc K0 (bS S) I hI).post (fun v h' q => ⟨q.1, q.2.2⟩)
section LO
variable {p : Program} {l : Launch} {e : Env} {R : Room} {s : State} {m : MethodId} {args : Array Value} {below : List Frame} {meth : Method} {c : Code} {D : va_G} {A : Nat → Prop} {Q : State → Prop} {h : AH}
set_option maxHeartbeats 4000000 in
set_option maxRecDepth 100000 in
theorem lp_orders (E : Cx p l s m args meth c cL_orders 2 RL D A) {S : St} {a0 : Nat} {hx : AH} (L : LwP S a0 hx h) (hF : 10 ≤ R.frames ∧ 400 ≤ R.locals) {c1 s1 : Nat} (hR : c1 ≤ R.cells ∧ s1 ≤ R.slots) (k : ∀ cells slots : Nat, cells ≤ c1 → slots ≤ s1 → J p l e R s m args below meth c D A 2 Q cells slots h 25 [(0, .ref a0), (1, .int (S.1 0 4 0))] []) : ∀ (n i cells slots : Nat), i + n = 8 → i ≤ nn (S.1 0 4 0) → cells + 3 * n ≤ c1 ∧ slots + 18 * n ≤ s1 → J p l e R s m args below meth c D A 2 Q cells slots h 2 [(0, .ref a0), (1, .int (nI i))] [] := by
  intro n
  induction n with
  | zero =>
    intro i cells slots hi hle hc
    have h8 := cnt8 L.inv
    have e8 : S.1 0 4 0 = nI i := by rw [L.inv.cnt.2.2.2.2.1, show nn (S.1 0 4 0) = i by omega]
    refine j_iload_n E dL_orders_2 rfl ?_
    refine j_bipush (v := 8) E dL_orders_3 cb_8 ?_
    refine j_icmp_ge (tgt := 25) E dL_orders_5 (by decide) (fun _ => ?_) (fun q => (q (by rw [show i = 8 by omega]; decide)).elim)
    have k2 := k cells slots (by omega) (by omega)
    rw [e8] at k2
    exact k2
  | succ n ih =>
    intro i cells slots hi hle hc
    have h8 := cnt8 L.inv
    by_cases hi2 : i < nn (S.1 0 4 0)
    · have hv := v_lacks L.inv hi2
      refine j_iload_n E dL_orders_2 rfl ?_
      refine j_bipush (v := 8) E dL_orders_3 cb_8 ?_
      refine j_icmp_ge (tgt := 25) E dL_orders_5 (by decide) (fun q => (nI_geK (N := 8) rfl (by omega) (by decide) q).elim) (fun _ => ?_)
      refine j_aload_n E dL_orders_8 rfl ?_
      refine j_iload_n E dL_orders_9 rfl ?_
      refine j_iconst (v := 0) E dL_orders_10 ci_0 ?_
      refine j_lk E L (fun hC0 ok => h_of0 l D S a0 hC0 ok (nI i)) (cww_of E ⟨by show _ ≤ R.frames; omega, by show _ ≤ R.locals; omega, by show _ ≤ R.cells; omega, by show _ ≤ R.slots; omega, Nat.le_of_ble_eq_true rfl⟩) (q_600 E.tb) rfl dL_orders_11 rfl ?_
      refine j_lconst (v := 0) E dL_orders_14 cl_0 ?_
      refine j_lcmp E dL_orders_15 ?_
      refine j_if_lt (tgt := 25) E dL_orders_16 (by decide) (fun q => (lcmp_nlt (by rw [hv]; exact nn64 (L.inv.ord.1 i hi2).2.2.1.1) q).elim) (fun _ => ?_)
      refine j_iincK (k := 1) E ci_1 dL_orders_19 rfl (by decide) ?_
      refine j_goto (tgt := 2) E dL_orders_22 (by decide) ?_
      rw [show nI i + 1 = nI (i + 1) from (nI_succ i).symm]
      refine J.sub (lo' := [(0, .ref a0), (1, .int (nI (i + 1)))]) ⟨rfl, rfl, trivial⟩ ?_
      exact ih (i + 1) (cells + 2) (slots + 12) (by omega) (by omega) ⟨by omega, by omega⟩
    · have hv := v_lacks_f L.inv (ord_f L.inv (n := i) (by omega) (by omega))
      refine j_iload_n E dL_orders_2 rfl ?_
      refine j_bipush (v := 8) E dL_orders_3 cb_8 ?_
      refine j_icmp_ge (tgt := 25) E dL_orders_5 (by decide) (fun q => (nI_geK (N := 8) rfl (by omega) (by decide) q).elim) (fun _ => ?_)
      refine j_aload_n E dL_orders_8 rfl ?_
      refine j_iload_n E dL_orders_9 rfl ?_
      refine j_iconst (v := 0) E dL_orders_10 ci_0 ?_
      refine j_lk E L (fun hC0 ok => h_of0 l D S a0 hC0 ok (nI i)) (cww_of E ⟨by show _ ≤ R.frames; omega, by show _ ≤ R.locals; omega, by show _ ≤ R.cells; omega, by show _ ≤ R.slots; omega, Nat.le_of_ble_eq_true rfl⟩) (q_600 E.tb) rfl dL_orders_11 rfl ?_
      refine j_lconst (v := 0) E dL_orders_14 cl_0 ?_
      refine j_lcmp E dL_orders_15 ?_
      refine j_if_lt (tgt := 25) E dL_orders_16 (by decide) (fun _ => ?_) (fun q => (q (lcmp_lt (by rw [hv]; decide))).elim)
      have e8 : S.1 0 4 0 = nI i := by rw [L.inv.cnt.2.2.2.2.1, show nn (S.1 0 4 0) = i by omega]
      have k2 := k (cells + 2) (slots + 12) (by omega) (by omega)
      rw [e8] at k2
      exact k2
set_option maxHeartbeats 4000000 in
set_option maxRecDepth 100000 in
theorem lp_resins (E : Cx p l s m args meth c cL_resins 2 RL D A) {S : St} {a0 : Nat} {hx : AH} (L : LwP S a0 hx h) (hF : 10 ≤ R.frames ∧ 400 ≤ R.locals) {c1 s1 : Nat} (hR : c1 ≤ R.cells ∧ s1 ≤ R.slots) (k : ∀ cells slots : Nat, cells ≤ c1 → slots ≤ s1 → J p l e R s m args below meth c D A 2 Q cells slots h 22 [(0, .ref a0), (1, .int (S.1 0 0 0))] []) : ∀ (n i cells slots : Nat), i + n = 4 → i ≤ nn (S.1 0 0 0) → cells + 3 * n ≤ c1 ∧ slots + 18 * n ≤ s1 → J p l e R s m args below meth c D A 2 Q cells slots h 2 [(0, .ref a0), (1, .int (nI i))] [] := by
  intro n
  induction n with
  | zero =>
    intro i cells slots hi hle hc
    have h8 := L.inv.cnt.1.2.2
    have e8 : S.1 0 0 0 = nI i := by rw [L.inv.cnt.1.1, show nn (S.1 0 0 0) = i by omega]
    refine j_iload_n E dL_resins_2 rfl ?_
    refine j_iconst (v := 4) E dL_resins_3 ci_4 ?_
    refine j_icmp_ge (tgt := 22) E dL_resins_4 (by decide) (fun _ => ?_) (fun q => (q (by rw [show i = 4 by omega]; decide)).elim)
    have k2 := k cells slots (by omega) (by omega)
    rw [e8] at k2
    exact k2
  | succ n ih =>
    intro i cells slots hi hle hc
    have h8 := L.inv.cnt.1.2.2
    by_cases hi2 : i < nn (S.1 0 0 0)
    · have hv := v_reg L.inv hi2
      refine j_iload_n E dL_resins_2 rfl ?_
      refine j_iconst (v := 4) E dL_resins_3 ci_4 ?_
      refine j_icmp_ge (tgt := 22) E dL_resins_4 (by decide) (fun q => (nI_geK (N := 4) rfl (by omega) (by decide) q).elim) (fun _ => ?_)
      refine j_aload_n E dL_resins_7 rfl ?_
      refine j_iload_n E dL_resins_8 rfl ?_
      refine j_iconst (v := 3) E dL_resins_9 ci_3 ?_
      refine j_lk E L (fun hC0 ok => h_lotR l D S a0 hC0 ok (nI i)) (cww_lot E ⟨by show _ ≤ R.frames; omega, by show _ ≤ R.locals; omega, by show _ ≤ R.cells; omega, by show _ ≤ R.slots; omega, Nat.le_of_ble_eq_true rfl⟩) (q_310 E.tb) rfl dL_resins_10 rfl ?_
      refine j_if_lt (tgt := 22) E dL_resins_13 (by decide) (fun q => ((by rw [hv]; exact rg_nn (L.inv.reg.1 i).1 : ¬ rc (p_regrind S (nI i)) < 0) q).elim) (fun _ => ?_)
      refine j_iincK (k := 1) E ci_1 dL_resins_16 rfl (by decide) ?_
      refine j_goto (tgt := 2) E dL_resins_19 (by decide) ?_
      rw [show nI i + 1 = nI (i + 1) from (nI_succ i).symm]
      refine J.sub (lo' := [(0, .ref a0), (1, .int (nI (i + 1)))]) ⟨rfl, rfl, trivial⟩ ?_
      exact ih (i + 1) (cells + 2) (slots + 12) (by omega) (by omega) ⟨by omega, by omega⟩
    · have hv := v_reg_f L.inv (res_f L.inv (n := i) (by omega) (by omega))
      refine j_iload_n E dL_resins_2 rfl ?_
      refine j_iconst (v := 4) E dL_resins_3 ci_4 ?_
      refine j_icmp_ge (tgt := 22) E dL_resins_4 (by decide) (fun q => (nI_geK (N := 4) rfl (by omega) (by decide) q).elim) (fun _ => ?_)
      refine j_aload_n E dL_resins_7 rfl ?_
      refine j_iload_n E dL_resins_8 rfl ?_
      refine j_iconst (v := 3) E dL_resins_9 ci_3 ?_
      refine j_lk E L (fun hC0 ok => h_lotR l D S a0 hC0 ok (nI i)) (cww_lot E ⟨by show _ ≤ R.frames; omega, by show _ ≤ R.locals; omega, by show _ ≤ R.cells; omega, by show _ ≤ R.slots; omega, Nat.le_of_ble_eq_true rfl⟩) (q_310 E.tb) rfl dL_resins_10 rfl ?_
      refine j_if_lt (tgt := 22) E dL_resins_13 (by decide) (fun _ => ?_) (fun q => (q (by rw [hv]; decide)).elim)
      have e8 : S.1 0 0 0 = nI i := by rw [L.inv.cnt.1.1, show nn (S.1 0 0 0) = i by omega]
      have k2 := k (cells + 2) (slots + 12) (by omega) (by omega)
      rw [e8] at k2
      exact k2
set_option maxHeartbeats 4000000 in
set_option maxRecDepth 100000 in
theorem lp_sum1 (E : Cx p l s m args meth c cL_sum 5 RL D A) {S : St} {a0 : Nat} {hx : AH} (L : LwP S a0 hx h) (hF : 10 ≤ R.frames ∧ 400 ≤ R.locals) {c1 s1 : Nat} (hR : c1 ≤ R.cells ∧ s1 ≤ R.slots) (k : ∀ cells slots : Nat, cells ≤ c1 → slots ≤ s1 → J p l e R s m args below meth c D A 5 Q cells slots h 76 [(0, .ref a0), (1, .long (sA S 8))] []) : ∀ (n i cells slots : Nat), i + n = 8 → cells + 12 * n ≤ c1 ∧ slots + 72 * n ≤ s1 → J p l e R s m args below meth c D A 5 Q cells slots h 18 [(0, .ref a0), (1, .long (sA S i)), (3, .int (nI i))] [] := by
  intro n
  induction n with
  | zero =>
    intro i cells slots hi hc
    refine j_iload_n E dL_sum_18 rfl ?_
    refine j_bipush (v := 8) E dL_sum_19 cb_8 ?_
    refine j_icmp_ge (tgt := 76) E dL_sum_21 (by decide) (fun _ => ?_) (fun q => (q (by rw [show i = 8 by omega]; decide)).elim)
    have k2 := k cells slots (by omega) (by omega)
    have e8 : i = 8 := by omega
    subst e8
    refine J.sub (lo' := [(0, .ref a0), (1, .long (sA S 8))]) ⟨rfl, rfl, trivial⟩ ?_
    exact k2
  | succ n ih =>
    intro i cells slots hi hc
    refine j_iload_n E dL_sum_18 rfl ?_
    refine j_bipush (v := 8) E dL_sum_19 cb_8 ?_
    refine j_icmp_ge (tgt := 76) E dL_sum_21 (by decide) (fun q => (nI_geK (N := 8) rfl (by omega) (by decide) q).elim) (fun _ => ?_)
    refine j_ldc2 E (q_689 E.tb) dL_sum_24 ?_
    refine j_lload_n E dL_sum_27 rfl ?_
    refine j_lmul E dL_sum_28 ?_
    refine j_aload_n E dL_sum_29 rfl ?_
    refine j_iload_n E dL_sum_30 rfl ?_
    refine j_iconst (v := 0) E dL_sum_31 ci_0 ?_
    refine j_lk E L (fun hC0 ok => h_of0 l D S a0 hC0 ok (nI i)) (cww_of E ⟨by show _ ≤ R.frames; omega, by show _ ≤ R.locals; omega, by show _ ≤ R.cells; omega, by show _ ≤ R.slots; omega, Nat.le_of_ble_eq_true rfl⟩) (q_600 E.tb) rfl dL_sum_32 rfl ?_
    refine j_ladd E dL_sum_35 ?_
    refine j_ldc2 E (q_690 E.tb) dL_sum_36 ?_
    refine j_aload_n E dL_sum_39 rfl ?_
    refine j_iload_n E dL_sum_40 rfl ?_
    refine j_iconst (v := 1) E dL_sum_41 ci_1 ?_
    refine j_lk E L (fun hC0 ok => h_of1 l D S a0 hC0 ok (nI i)) (cww_of E ⟨by show _ ≤ R.frames; omega, by show _ ≤ R.locals; omega, by show _ ≤ R.cells; omega, by show _ ≤ R.slots; omega, Nat.le_of_ble_eq_true rfl⟩) (q_600 E.tb) rfl dL_sum_42 rfl ?_
    refine j_lmul E dL_sum_45 ?_
    refine j_ladd E dL_sum_46 ?_
    refine j_ldc2 E (q_691 E.tb) dL_sum_47 ?_
    refine j_aload_n E dL_sum_50 rfl ?_
    refine j_iload_n E dL_sum_51 rfl ?_
    refine j_iconst (v := 2) E dL_sum_52 ci_2 ?_
    refine j_lk E L (fun hC0 ok => h_of2 l D S a0 hC0 ok (nI i)) (cww_of E ⟨by show _ ≤ R.frames; omega, by show _ ≤ R.locals; omega, by show _ ≤ R.cells; omega, by show _ ≤ R.slots; omega, Nat.le_of_ble_eq_true rfl⟩) (q_600 E.tb) rfl dL_sum_53 rfl ?_
    refine j_lmul E dL_sum_56 ?_
    refine j_ladd E dL_sum_57 ?_
    refine j_ldc2 E (q_692 E.tb) dL_sum_58 ?_
    refine j_aload_n E dL_sum_61 rfl ?_
    refine j_iload_n E dL_sum_62 rfl ?_
    refine j_iconst (v := 3) E dL_sum_63 ci_3 ?_
    refine j_lk E L (fun hC0 ok => h_of3 l D S a0 hC0 ok (nI i)) (cww_of E ⟨by show _ ≤ R.frames; omega, by show _ ≤ R.locals; omega, by show _ ≤ R.cells; omega, by show _ ≤ R.slots; omega, Nat.le_of_ble_eq_true rfl⟩) (q_600 E.tb) rfl dL_sum_64 rfl ?_
    refine j_lmul E dL_sum_67 ?_
    refine j_ladd E dL_sum_68 ?_
    refine j_lstore_n E dL_sum_69 (by decide) ?_
    refine j_iincK (k := 1) E ci_1 dL_sum_70 rfl (by decide) ?_
    refine j_goto (tgt := 18) E dL_sum_73 (by decide) ?_
    rw [show nI i + 1 = nI (i + 1) from (nI_succ i).symm]
    refine J.sub (lo' := [(0, .ref a0), (1, .long (sA S (i + 1))), (3, .int (nI (i + 1)))]) ⟨rfl, rfl, rfl, trivial⟩ ?_
    exact ih (i + 1) _ _ (by omega) ⟨by omega, by omega⟩
set_option maxHeartbeats 4000000 in
set_option maxRecDepth 100000 in
theorem lp_sum2 (E : Cx p l s m args meth c cL_sum 5 RL D A) {S : St} {a0 : Nat} {hx : AH} (L : LwP S a0 hx h) (hF : 10 ≤ R.frames ∧ 400 ≤ R.locals) {c1 s1 : Nat} (hR : c1 ≤ R.cells ∧ s1 ≤ R.slots) (k : ∀ cells slots : Nat, cells ≤ c1 → slots ≤ s1 → J p l e R s m args below meth c D A 5 Q cells slots h 127 [(0, .ref a0), (1, .long (sB S 4))] []) : ∀ (n i cells slots : Nat), i + n = 4 → cells + 9 * n ≤ c1 ∧ slots + 54 * n ≤ s1 → J p l e R s m args below meth c D A 5 Q cells slots h 78 [(0, .ref a0), (1, .long (sB S i)), (3, .int (nI i))] [] := by
  intro n
  induction n with
  | zero =>
    intro i cells slots hi hc
    refine j_iload_n E dL_sum_78 rfl ?_
    refine j_iconst (v := 4) E dL_sum_79 ci_4 ?_
    refine j_icmp_ge (tgt := 127) E dL_sum_80 (by decide) (fun _ => ?_) (fun q => (q (by rw [show i = 4 by omega]; decide)).elim)
    have k2 := k cells slots (by omega) (by omega)
    have e8 : i = 4 := by omega
    subst e8
    refine J.sub (lo' := [(0, .ref a0), (1, .long (sB S 4))]) ⟨rfl, rfl, trivial⟩ ?_
    exact k2
  | succ n ih =>
    intro i cells slots hi hc
    refine j_iload_n E dL_sum_78 rfl ?_
    refine j_iconst (v := 4) E dL_sum_79 ci_4 ?_
    refine j_icmp_ge (tgt := 127) E dL_sum_80 (by decide) (fun q => (nI_geK (N := 4) rfl (by omega) (by decide) q).elim) (fun _ => ?_)
    refine j_ldc2 E (q_689 E.tb) dL_sum_83 ?_
    refine j_lload_n E dL_sum_86 rfl ?_
    refine j_lmul E dL_sum_87 ?_
    refine j_aload_n E dL_sum_88 rfl ?_
    refine j_iload_n E dL_sum_89 rfl ?_
    refine j_iconst (v := 1) E dL_sum_90 ci_1 ?_
    refine j_lk E L (fun hC0 ok => h_lotH l D S a0 hC0 ok (nI i)) (cww_lot E ⟨by show _ ≤ R.frames; omega, by show _ ≤ R.locals; omega, by show _ ≤ R.cells; omega, by show _ ≤ R.slots; omega, Nat.le_of_ble_eq_true rfl⟩) (q_310 E.tb) rfl dL_sum_91 rfl ?_
    refine j_i2l E dL_sum_94 ?_
    refine j_ladd E dL_sum_95 ?_
    refine j_ldc2 E (q_690 E.tb) dL_sum_96 ?_
    refine j_aload_n E dL_sum_99 rfl ?_
    refine j_iload_n E dL_sum_100 rfl ?_
    refine j_iconst (v := 2) E dL_sum_101 ci_2 ?_
    refine j_lk E L (fun hC0 ok => h_lotD l D S a0 hC0 ok (nI i)) (cww_lot E ⟨by show _ ≤ R.frames; omega, by show _ ≤ R.locals; omega, by show _ ≤ R.cells; omega, by show _ ≤ R.slots; omega, Nat.le_of_ble_eq_true rfl⟩) (q_310 E.tb) rfl dL_sum_102 rfl ?_
    refine j_i2l E dL_sum_105 ?_
    refine j_lmul E dL_sum_106 ?_
    refine j_ladd E dL_sum_107 ?_
    refine j_ldc2 E (q_691 E.tb) dL_sum_108 ?_
    refine j_aload_n E dL_sum_111 rfl ?_
    refine j_iload_n E dL_sum_112 rfl ?_
    refine j_iconst (v := 3) E dL_sum_113 ci_3 ?_
    refine j_lk E L (fun hC0 ok => h_lotR l D S a0 hC0 ok (nI i)) (cww_lot E ⟨by show _ ≤ R.frames; omega, by show _ ≤ R.locals; omega, by show _ ≤ R.cells; omega, by show _ ≤ R.slots; omega, Nat.le_of_ble_eq_true rfl⟩) (q_310 E.tb) rfl dL_sum_114 rfl ?_
    refine j_i2l E dL_sum_117 ?_
    refine j_lmul E dL_sum_118 ?_
    refine j_ladd E dL_sum_119 ?_
    refine j_lstore_n E dL_sum_120 (by decide) ?_
    refine j_iincK (k := 1) E ci_1 dL_sum_121 rfl (by decide) ?_
    refine j_goto (tgt := 78) E dL_sum_124 (by decide) ?_
    rw [show nI i + 1 = nI (i + 1) from (nI_succ i).symm]
    refine J.sub (lo' := [(0, .ref a0), (1, .long (sB S (i + 1))), (3, .int (nI (i + 1)))]) ⟨rfl, rfl, rfl, trivial⟩ ?_
    exact ih (i + 1) _ _ (by omega) ⟨by omega, by omega⟩
set_option maxHeartbeats 4000000 in
set_option maxRecDepth 100000 in
theorem lp_sum3 (E : Cx p l s m args meth c cL_sum 5 RL D A) {S : St} {a0 : Nat} {hx : AH} (L : LwP S a0 hx h) (hF : 10 ≤ R.frames ∧ 400 ≤ R.locals) {c1 s1 : Nat} (hR : c1 ≤ R.cells ∧ s1 ≤ R.slots) {m9 : Nat} {v9 : Int64} (k : ∀ cells slots : Nat, cells ≤ c1 → slots ≤ s1 → J p l e R s m args below meth c D A 5 Q cells slots h 166 [(0, .ref a0), (1, .long (sN S m9 v9 8)), (3, .int (nI m9))] []) : ∀ (n i cells slots : Nat), i + n = 8 → cells + 3 * n ≤ c1 ∧ slots + 18 * n ≤ s1 → J p l e R s m args below meth c D A 5 Q cells slots h 137 [(0, .ref a0), (1, .long (sN S m9 v9 i)), (3, .int (nI m9)), (4, .int (nI i))] [] := by
  intro n
  induction n with
  | zero =>
    intro i cells slots hi hc
    refine j_iload E dL_sum_137 rfl ?_
    refine j_bipush (v := 8) E dL_sum_139 cb_8 ?_
    refine j_icmp_ge (tgt := 166) E dL_sum_141 (by decide) (fun _ => ?_) (fun q => (q (by rw [show i = 8 by omega]; decide)).elim)
    have k2 := k cells slots (by omega) (by omega)
    have e8 : i = 8 := by omega
    subst e8
    refine J.sub (lo' := [(0, .ref a0), (1, .long (sN S m9 v9 8)), (3, .int (nI m9))]) ⟨rfl, rfl, rfl, trivial⟩ ?_
    exact k2
  | succ n ih =>
    intro i cells slots hi hc
    refine j_iload E dL_sum_137 rfl ?_
    refine j_bipush (v := 8) E dL_sum_139 cb_8 ?_
    refine j_icmp_ge (tgt := 166) E dL_sum_141 (by decide) (fun q => (nI_geK (N := 8) rfl (by omega) (by decide) q).elim) (fun _ => ?_)
    refine j_ldc2 E (q_689 E.tb) dL_sum_144 ?_
    refine j_lload_n E dL_sum_147 rfl ?_
    refine j_lmul E dL_sum_148 ?_
    refine j_aload_n E dL_sum_149 rfl ?_
    refine j_iload_n E dL_sum_150 rfl ?_
    refine j_iload E dL_sum_151 rfl ?_
    refine j_iconst (v := 2) E dL_sum_153 ci_2 ?_
    refine j_lk E L (fun hC0 ok => h_cavN l D S a0 hC0 ok (nI m9) (nI i)) (cww_cavity E ⟨by show _ ≤ R.frames; omega, by show _ ≤ R.locals; omega, by show _ ≤ R.cells; omega, by show _ ≤ R.slots; omega, Nat.le_of_ble_eq_true rfl⟩) (q_441 E.tb) rfl dL_sum_154 rfl ?_
    refine j_i2l E dL_sum_157 ?_
    refine j_ladd E dL_sum_158 ?_
    refine j_lstore_n E dL_sum_159 (by decide) ?_
    refine j_iincK (k := 1) E ci_1 dL_sum_160 rfl (by decide) ?_
    refine j_goto (tgt := 137) E dL_sum_163 (by decide) ?_
    rw [show nI i + 1 = nI (i + 1) from (nI_succ i).symm]
    refine J.sub (lo' := [(0, .ref a0), (1, .long (sN S m9 v9 (i + 1))), (3, .int (nI m9)), (4, .int (nI (i + 1)))]) ⟨rfl, rfl, rfl, rfl, trivial⟩ ?_
    exact ih (i + 1) _ _ (by omega) ⟨by omega, by omega⟩
set_option maxHeartbeats 4000000 in
set_option maxRecDepth 100000 in
theorem lp_sum4 (E : Cx p l s m args meth c cL_sum 5 RL D A) {S : St} {a0 : Nat} {hx : AH} (L : LwP S a0 hx h) (hF : 10 ≤ R.frames ∧ 400 ≤ R.locals) {c1 s1 : Nat} (hR : c1 ≤ R.cells ∧ s1 ≤ R.slots) (k : ∀ cells slots : Nat, cells ≤ c1 → slots ≤ s1 → J p l e R s m args below meth c D A 5 Q cells slots h 172 [(0, .ref a0), (1, .long (SUM S))] []) : ∀ (n i cells slots : Nat), i + n = 5 → cells + 24 * n ≤ c1 ∧ slots + 144 * n ≤ s1 → J p l e R s m args below meth c D A 5 Q cells slots h 129 [(0, .ref a0), (1, .long (sC S i)), (3, .int (nI i))] [] := by
  intro n
  induction n with
  | zero =>
    intro i cells slots hi hc
    refine j_iload_n E dL_sum_129 rfl ?_
    refine j_iconst (v := 5) E dL_sum_130 ci_5 ?_
    refine j_icmp_ge (tgt := 172) E dL_sum_131 (by decide) (fun _ => ?_) (fun q => (q (by rw [show i = 5 by omega]; decide)).elim)
    have k2 := k cells slots (by omega) (by omega)
    have e8 : i = 5 := by omega
    subst e8
    refine J.sub (lo' := [(0, .ref a0), (1, .long (SUM S))]) ⟨rfl, rfl, trivial⟩ ?_
    exact k2
  | succ n ih =>
    intro i cells slots hi hc
    refine j_iload_n E dL_sum_129 rfl ?_
    refine j_iconst (v := 5) E dL_sum_130 ci_5 ?_
    refine j_icmp_ge (tgt := 172) E dL_sum_131 (by decide) (fun q => (nI_geK (N := 5) rfl (by omega) (by decide) q).elim) (fun _ => ?_)
    refine j_iconst (v := 0) E dL_sum_134 ci_0 ?_
    refine j_istore E dL_sum_135 (by decide) ?_
    refine J.sub (lo' := [(0, .ref a0), (1, .long (sN S i (sC S i) 0)), (3, .int (nI i)), (4, .int (nI 0))]) ⟨rfl, rfl, rfl, rfl, trivial⟩ ?_
    refine lp_sum3 E L hF (c1 := cells + 24) (s1 := slots + 144) ⟨by omega, by omega⟩ (fun cells2 slots2 h1 h2 => ?_) 8 0 cells slots (by omega) ⟨by omega, by omega⟩
    refine j_iincK (k := 1) E ci_1 dL_sum_166 rfl (by decide) ?_
    refine j_goto (tgt := 129) E dL_sum_169 (by decide) ?_
    rw [show nI i + 1 = nI (i + 1) from (nI_succ i).symm]
    refine J.sub (lo' := [(0, .ref a0), (1, .long (sC S (i + 1))), (3, .int (nI (i + 1)))]) ⟨rfl, rfl, rfl, trivial⟩ ?_
    exact ih (i + 1) cells2 slots2 (by omega) ⟨by omega, by omega⟩
end LO
set_option maxHeartbeats 4000000 in
set_option maxRecDepth 100000 in
theorem k_orders (l : Launch) (D : va_G) (S : St) (a0 : Nat) (hc : AH) (hOk : Ok S (bS S) a0 hc) : Ctr l D yL_orders cL_orders 2 (some .int) 10 400 24 144 [.ref a0] hc (fun _ => False) (fun r9 h' => r9 = some (.int (S.1 0 4 0)) ∧ hc = h') := by
  refine Ctr.of RL rfl (by decide) (Nat.le_of_ble_eq_true rfl) ?_
  intro sz p e s m below meth c E hin hr ht
  have L : LwP S a0 (fun _ => none) hc := ⟨hc, hOk, fun p e he => ⟨he, rfl⟩, fun p e he => nomatch he⟩
  refine j_iconst (v := 0) E dL_orders_0 ci_0 ?_
  refine j_istore_n E dL_orders_1 (by decide) ?_
  refine J.sub (lo' := [(0, .ref a0), (1, .int (nI 0))]) ⟨rfl, rfl, trivial⟩ ?_
  refine lp_orders (c1 := 24) (s1 := 144) E L ⟨Nat.le_of_ble_eq_true rfl, Nat.le_of_ble_eq_true rfl⟩ ⟨Nat.le_of_ble_eq_true rfl, Nat.le_of_ble_eq_true rfl⟩ (fun cells slots h1 h2 => ?_) 8 0 0 0 rfl (Nat.zero_le _) ⟨Nat.le_of_ble_eq_true rfl, Nat.le_of_ble_eq_true rfl⟩
  refine j_iload_n E dL_orders_25 rfl ?_
  exact j_iret E hr dL_orders_26 ⟨h1, h2⟩ ⟨rfl, rfl⟩
set_option maxHeartbeats 4000000 in
set_option maxRecDepth 100000 in
theorem k_resins (l : Launch) (D : va_G) (S : St) (a0 : Nat) (hc : AH) (hOk : Ok S (bS S) a0 hc) : Ctr l D yL_resins cL_resins 2 (some .int) 10 400 12 72 [.ref a0] hc (fun _ => False) (fun r9 h' => r9 = some (.int (S.1 0 0 0)) ∧ hc = h') := by
  refine Ctr.of RL rfl (by decide) (Nat.le_of_ble_eq_true rfl) ?_
  intro sz p e s m below meth c E hin hr ht
  have L : LwP S a0 (fun _ => none) hc := ⟨hc, hOk, fun p e he => ⟨he, rfl⟩, fun p e he => nomatch he⟩
  refine j_iconst (v := 0) E dL_resins_0 ci_0 ?_
  refine j_istore_n E dL_resins_1 (by decide) ?_
  refine J.sub (lo' := [(0, .ref a0), (1, .int (nI 0))]) ⟨rfl, rfl, trivial⟩ ?_
  refine lp_resins (c1 := 12) (s1 := 72) E L ⟨Nat.le_of_ble_eq_true rfl, Nat.le_of_ble_eq_true rfl⟩ ⟨Nat.le_of_ble_eq_true rfl, Nat.le_of_ble_eq_true rfl⟩ (fun cells slots h1 h2 => ?_) 4 0 0 0 rfl (Nat.zero_le _) ⟨Nat.le_of_ble_eq_true rfl, Nat.le_of_ble_eq_true rfl⟩
  refine j_iload_n E dL_resins_22 rfl ?_
  exact j_iret E hr dL_resins_23 ⟨h1, h2⟩ ⟨rfl, rfl⟩
set_option maxHeartbeats 4000000 in
set_option maxRecDepth 100000 in
theorem k_sum (l : Launch) (D : va_G) (S : St) (a0 : Nat) (hc : AH) (hOk : Ok S (bS S) a0 hc) : Ctr l D yL_sum cL_sum 5 (some .long) 10 400 252 1512 [.ref a0] hc (fun _ => False) (fun r9 h' => r9 = some (.long (SUM S)) ∧ hc = h') := by
  refine Ctr.of RL rfl (by decide) (Nat.le_of_ble_eq_true rfl) ?_
  intro sz p e s m below meth c E hin hr ht
  have L : LwP S a0 (fun _ => none) hc := ⟨hc, hOk, fun p e he => ⟨he, rfl⟩, fun p e he => nomatch he⟩
  refine j_aload_n E dL_sum_0 rfl ?_
  refine j_lkV E L (fun hC0 ok => kl_hours l D S a0 hC0 ok) (cw_L_118 E ⟨Nat.le_of_ble_eq_true rfl, Nat.le_of_ble_eq_true rfl, Nat.le_of_ble_eq_true rfl, Nat.le_of_ble_eq_true rfl, Nat.le_of_ble_eq_true rfl⟩) (q_110 E.tb) (q_111 E.tb) rfl rfl dL_sum_1 rfl ?_
  refine j_i2l E dL_sum_4 ?_
  refine j_ldc2 E (q_689 E.tb) dL_sum_5 ?_
  refine j_aload_n E dL_sum_8 rfl ?_
  refine j_lkV E L (fun hC0 ok => kl_lots l D S a0 hC0 ok) (cw_L_124 E ⟨Nat.le_of_ble_eq_true rfl, Nat.le_of_ble_eq_true rfl, Nat.le_of_ble_eq_true rfl, Nat.le_of_ble_eq_true rfl, Nat.le_of_ble_eq_true rfl⟩) (q_106 E.tb) (q_107 E.tb) rfl rfl dL_sum_9 rfl ?_
  refine j_i2l E dL_sum_12 ?_
  refine j_lmul E dL_sum_13 ?_
  refine j_ladd E dL_sum_14 ?_
  refine j_lstore_n E dL_sum_15 (by decide) ?_
  refine j_iconst (v := 0) E dL_sum_16 ci_0 ?_
  refine j_istore_n E dL_sum_17 (by decide) ?_
  refine J.sub (lo' := [(0, .ref a0), (1, .long (sA S 0)), (3, .int (nI 0))]) ⟨rfl, rfl, rfl, trivial⟩ ?_
  refine lp_sum1 (c1 := 96) (s1 := 576) E L ⟨Nat.le_of_ble_eq_true rfl, Nat.le_of_ble_eq_true rfl⟩ ⟨Nat.le_of_ble_eq_true rfl, Nat.le_of_ble_eq_true rfl⟩ (fun cells slots h1 h2 => ?_) 8 0 0 0 rfl ⟨Nat.le_of_ble_eq_true rfl, Nat.le_of_ble_eq_true rfl⟩
  refine j_iconst (v := 0) E dL_sum_76 ci_0 ?_
  refine j_istore_n E dL_sum_77 (by decide) ?_
  refine J.sub (lo' := [(0, .ref a0), (1, .long (sB S 0)), (3, .int (nI 0))]) ⟨rfl, rfl, rfl, trivial⟩ ?_
  refine lp_sum2 (c1 := 132) (s1 := 792) E L ⟨Nat.le_of_ble_eq_true rfl, Nat.le_of_ble_eq_true rfl⟩ ⟨Nat.le_of_ble_eq_true rfl, Nat.le_of_ble_eq_true rfl⟩ (fun cells slots h1 h2 => ?_) 4 0 cells slots rfl ⟨by omega, by omega⟩
  refine j_iconst (v := 0) E dL_sum_127 ci_0 ?_
  refine j_istore_n E dL_sum_128 (by decide) ?_
  refine J.sub (lo' := [(0, .ref a0), (1, .long (sC S 0)), (3, .int (nI 0))]) ⟨rfl, rfl, rfl, trivial⟩ ?_
  refine lp_sum4 (c1 := 252) (s1 := 1512) E L ⟨Nat.le_of_ble_eq_true rfl, Nat.le_of_ble_eq_true rfl⟩ ⟨Nat.le_of_ble_eq_true rfl, Nat.le_of_ble_eq_true rfl⟩ (fun cells slots h1 h2 => ?_) 5 0 cells slots rfl ⟨by omega, by omega⟩
  refine j_lload_n E dL_sum_172 rfl ?_
  exact j_lret E hr dL_sum_173 ⟨h1, h2⟩ ⟨rfl, rfl⟩
