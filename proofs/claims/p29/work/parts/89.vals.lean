/-! what the law compares -/
theorem lcmp_eq {x y : Int64} (h : x = y) : (if y < x then (1 : Int32) else if x = y then 0 else -1) = 0 := by
  subst h
  rw [if_neg (fun q => Int64.lt_irrefl q), if_pos rfl]
theorem lcmp_ne {x y : Int64} (h : ¬ x = y) : ¬ (if y < x then (1 : Int32) else if x = y then 0 else -1) = 0 := by
  by_cases q : y < x
  · rw [if_pos q]; decide
  · rw [if_neg q, if_neg h]; decide
theorem lcmp_nlt {x y : Int64} (h : y.toInt ≤ x.toInt) : ¬ (if y < x then (1 : Int32) else if x = y then 0 else -1) < 0 := by
  split
  · decide
  · rename_i q
    rw [Int64.lt_iff_toInt_lt] at q
    rw [if_pos (Int64.toInt_inj.mp (by omega))]
    decide
theorem lcmp_lt {x y : Int64} (h : x.toInt < y.toInt) : (if y < x then (1 : Int32) else if x = y then 0 else -1) < 0 := by
  rw [if_neg (by rw [Int64.lt_iff_toInt_lt]; omega), if_neg (fun q => by rw [q] at h; omega)]
  decide
theorem lcmp_ngt {x y : Int64} (h : x.toInt ≤ y.toInt) : ¬ 0 < (if y < x then (1 : Int32) else if x = y then 0 else -1) := by
  rw [if_neg (by rw [Int64.lt_iff_toInt_lt]; omega)]
  split <;> decide
theorem lcmp_gt {x y : Int64} (h : y.toInt < x.toInt) : ¬ (if y < x then (1 : Int32) else if x = y then 0 else -1) ≤ 0 := by
  rw [if_pos (by rw [Int64.lt_iff_toInt_lt]; omega)]
  decide
theorem i64_0 : (0 : Int64).toInt = 0 := by decide
theorem i64_m1001 : (-1001 : Int64).toInt = -1001 := by decide
theorem i64_m1002 : (-1002 : Int64).toInt = -1002 := by decide
theorem i32_m1001 : (-1001 : Int32).toInt = -1001 := by decide
theorem i32_m1002 : (-1002 : Int32).toInt = -1002 := by decide
theorem i32_m1003 : (-1003 : Int32).toInt = -1003 := by decide
theorem i32_m1000 : (-1000 : Int32).toInt = -1000 := by decide
theorem i32_0 : (0 : Int32).toInt = 0 := by decide
theorem i64_inj {x y : Int32} (h : x.toInt64 = y.toInt64) : x = y := Int32.toInt_inj.mp (by rw [← Int32.toInt_toInt64 x, h, Int32.toInt_toInt64])
theorem i64_of0 {x : Int32} (h : x.toInt64 = 0) : x = 0 := i64_inj (h.trans (by decide))
theorem i6432 {x : Int32} : x.toInt64.toInt32 = x := by
  have h : x.toInt64.toInt32.toInt = x.toInt := by
    have h1 := Int32.toInt_lt x
    have h2 := Int32.le_toInt x
    rw [Jvm.FP.Core.int64_toInt32 (by rw [Int32.toInt_toInt64]; omega) (by rw [Int32.toInt_toInt64]; omega), Int32.toInt_toInt64]
  exact Int32.toInt_inj.mp h
theorem rc_t0 {S : St} {v : Int32} : rc (th S 0, v) = v := rc_0 s1_eq
theorem rc_t1 {S : St} {v : Int32} : rc (th S 1, v) = -1001 := rc_1 s1_eq
theorem rc_t2 {S : St} {v : Int32} : rc (th S 2, v) = -1002 := rc_2 s1_eq
theorem rcL_t0 {S : St} {v : Int64} : rcL (th S 0, v) = v := rcL_0 s1_eq
theorem rcL_t1 {S : St} {v : Int64} : rcL (th S 1, v) = -1001 := rcL_1 s1_eq
section VO
variable {S : St} {B : Nat}
theorem cnt8 (I : Inv S B) : nn (S.1 0 4 0) ≤ 8 := I.cnt.2.2.2.2.2.2
theorem ord_t (I : Inv S B) {n : Nat} (h : n < nn (S.1 0 4 0)) : isOrd S (nI n) = true := by
  have h8 := cnt8 I
  have e := nn_nI (n := n) (by omega)
  exact inB_mk I.cnt.2.2.2.2 (by decide) (by rw [e]) (by rw [e]; exact h)
theorem ord_f (I : Inv S B) {n : Nat} (h : nn (S.1 0 4 0) ≤ n) (hn : n < 2 ^ 31) : isOrd S (nI n) = false := no_cnt I.cnt.2.2.2.2 (by decide) (by rw [nn_nI hn]; omega)
theorem res_t (I : Inv S B) {n : Nat} (h : n < nn (S.1 0 0 0)) : isRes S (nI n) = true := by
  have h8 := I.cnt.1.2.2
  have e := nn_nI (n := n) (by omega)
  exact inB_mk I.cnt.1 (by decide) (by rw [e]) (by rw [e]; exact h)
theorem res_f (I : Inv S B) {n : Nat} (h : nn (S.1 0 0 0) ≤ n) (hn : n < 2 ^ 31) : isRes S (nI n) = false := no_cnt I.cnt.1 (by decide) (by rw [nn_nI hn]; omega)
theorem v_lacks (I : Inv S B) {n : Nat} (h : n < nn (S.1 0 4 0)) : rc (p_lacks S (nI n)) = S.1 19 n 0 := by
  have h8 := cnt8 I
  unfold p_lacks
  rw [if_neg (by rw [ord_t I h]; decide), nn_nI (n := n) (by omega)]
  exact rc_t0
theorem v_shots (I : Inv S B) {n : Nat} (h : n < nn (S.1 0 4 0)) : rc (p_shots S (nI n)) = S.1 21 n 0 := by
  have h8 := cnt8 I
  unfold p_shots
  rw [if_neg (by rw [ord_t I h]; decide), nn_nI (n := n) (by omega)]
  exact rc_t0
theorem v_back (I : Inv S B) {n : Nat} (h : n < nn (S.1 0 4 0)) : rcL (p_regrindIn S (nI n)) = S.2 2 n := by
  have h8 := cnt8 I
  unfold p_regrindIn
  rw [if_neg (by rw [ord_t I h]; decide), nn_nI (n := n) (by omega)]
  exact rcL_t0
theorem v_top0 (I : Inv S B) {n : Nat} (h : n < nn (S.1 0 4 0)) (hz : S.1 21 n 0 = 0) : rc (p_greatestShare S (nI n)) = -1002 := by
  have h8 := cnt8 I
  unfold p_greatestShare
  rw [if_neg (by rw [ord_t I h]; decide), nn_nI (n := n) (by omega), if_pos hz]
  exact rc_t2
theorem v_top1 (I : Inv S B) {n : Nat} (h : n < nn (S.1 0 4 0)) (hz : ¬ S.1 21 n 0 = 0) : rc (p_greatestShare S (nI n)) = S.1 22 n 0 := by
  have h8 := cnt8 I
  unfold p_greatestShare
  rw [if_neg (by rw [ord_t I h]; decide), nn_nI (n := n) (by omega), if_neg hz]
  exact rc_t0
theorem v_need0 (I : Inv S B) {n : Nat} (h : n < nn (S.1 0 4 0)) (hz : S.1 19 n 0 = 0) : rc (p_hoursNeeded S (nI n)) = 0 := by
  have h8 := cnt8 I
  unfold p_hoursNeeded
  rw [if_neg (by rw [ord_t I h]; decide), nn_nI (n := n) (by omega), hz, if_neg (by decide)]
  exact rc_t0
theorem up_pos {a b : Int32} (ha : a = nI (nn a)) (hb : b = nI (nn b)) (h1 : 1 ≤ nn a) (h2 : 1 ≤ nn b) (h3 : nn a + nn b < 2 ^ 31) : (a + b - 1) / b = nI (nn ((a + b - 1) / b)) ∧ 1 ≤ nn ((a + b - 1) / b) ∧ nn ((a + b - 1) / b) ≤ nn a := by
  obtain ⟨x1, x2⟩ := nadd ha hb h3
  obtain ⟨y1, y2⟩ := nsub x1 e_1 (by rw [nn_1]; omega)
  rw [nn_1] at y2
  obtain ⟨z1, z2⟩ := ndiv y1 hb
  refine ⟨z1, ?_, ?_⟩
  · rw [z2, y2, x2]
    exact (Nat.one_le_div_iff (by omega)).mpr (by omega)
  · rw [z2, y2, x2]
    refine Nat.div_le_of_le_mul ?_
    have h4 : nn b * nn a ≥ nn b + nn a - 1 := by
      obtain ⟨u, hu⟩ : ∃ u, nn a = u + 1 := ⟨nn a - 1, by omega⟩
      obtain ⟨w, hw⟩ : ∃ w, nn b = w + 1 := ⟨nn b - 1, by omega⟩
      rw [hu, hw, Nat.mul_succ, Nat.succ_mul]
      omega
    omega
theorem v_need1 (I : Inv S B) {n : Nat} (h : n < nn (S.1 0 4 0)) (hz : ¬ S.1 19 n 0 = 0) : ¬ rc (p_hoursNeeded S (nI n)) = 0 := by
  have h8 := cnt8 I
  obtain ⟨h17, h18, h19, h20⟩ := I.ord.1 n h
  obtain ⟨m6, m7, m8, m10⟩ := I.mou _ h17.2
  have hl : 0 < S.1 19 n 0 := by
    rw [i32_lt, h19.toI (by decide), i32_0]
    rcases Nat.eq_zero_or_pos (nn (S.1 19 n 0)) with q | q
    · exact absurd (by rw [h19.1, q]; rfl) hz
    · omega
  have hl1 : 1 ≤ nn (S.1 19 n 0) := by
    rw [i32_lt, h19.toI (by decide), i32_0] at hl
    omega
  unfold p_hoursNeeded
  rw [if_neg (by rw [ord_t I h]; decide), nn_nI (n := n) (by omega), if_pos hl]
  by_cases q : sMany S n = 0
  · rw [if_pos q, rc_t2]; decide
  · rw [if_neg q, rc_t0]
    have hm : Rg (sMany S n) 0 8 := (opn_rg m6).1
    have hm1 : 1 ≤ nn (sMany S n) := by
      rcases Nat.eq_zero_or_pos (nn (sMany S n)) with z | z
      · exact absurd (by rw [hm.1, z]; rfl) q
      · exact z
    have e36 : (3600 : Int32) = nI (nn 3600) := by decide
    have e36n : nn (3600 : Int32) = 3600 := by decide
    obtain ⟨d1, d2⟩ := ndiv e36 m10.1
    rw [e36n] at d2
    have b3 := m10.2.1
    have b4 := m10.2.2
    have c1 : 1 ≤ nn (3600 / S.1 10 (sMo S n) 0) := by
      show 1 ≤ nn (3600 / S.1 10 (nn (S.1 17 n 0)) 0)
      rw [d2]; exact (Nat.one_le_div_iff (by omega)).mpr b4
    have c2 : nn (3600 / S.1 10 (sMo S n) 0) ≤ 3600 := by
      show nn (3600 / S.1 10 (nn (S.1 17 n 0)) 0) ≤ 3600
      rw [d2]; exact Nat.div_le_self _ _
    have l5 := h19.2.2
    have m8' : nn (sMany S n) ≤ 8 := hm.2.2
    obtain ⟨u1, u2, u3⟩ := up_pos h19.1 hm.1 hl1 hm1 (by show nn (S.1 19 n 0) + nn (sMany S n) < 2 ^ 31; omega)
    obtain ⟨w1, w2, w3⟩ := up_pos (a := (S.1 19 n 0 + sMany S n - 1) / sMany S n) u1 d1 u2 c1 (by
      have c2' : nn (3600 / S.1 10 (nn (S.1 17 n 0)) 0) ≤ 3600 := c2
      omega)
    intro z
    have z2 : nn (hN S n) = 0 := by rw [z, nn_0]
    have w2' : 1 ≤ nn (hN S n) := w2
    omega
theorem v_lacks_f (I : Inv S B) {x : Int32} (h : isOrd S x = false) : rc (p_lacks S x) = -1001 := by
  unfold p_lacks; rw [if_pos h]; exact rc_t1
theorem v_need_f (I : Inv S B) {x : Int32} (h : isOrd S x = false) : rc (p_hoursNeeded S x) = -1001 := by
  unfold p_hoursNeeded; rw [if_pos h]; exact rc_t1
theorem v_shots_f (I : Inv S B) {x : Int32} (h : isOrd S x = false) : rc (p_shots S x) = -1001 := by
  unfold p_shots; rw [if_pos h]; exact rc_t1
theorem v_back_f (I : Inv S B) {x : Int32} (h : isOrd S x = false) : rcL (p_regrindIn S x) = -1001 := by
  unfold p_regrindIn; rw [if_pos h]; exact rcL_t1
theorem v_top_f (I : Inv S B) {x : Int32} (h : isOrd S x = false) : rc (p_greatestShare S x) = -1001 := by
  unfold p_greatestShare; rw [if_pos h]; exact rc_t1
theorem v_reg (I : Inv S B) {n : Nat} (h : n < nn (S.1 0 0 0)) : rc (p_regrind S (nI n)) = S.1 2 n 0 := by
  have h8 := I.cnt.1.2.2
  unfold p_regrind
  rw [if_neg (by rw [res_t I h]; decide), nn_nI (n := n) (by omega)]
  exact rc_t0
theorem v_reg_f (I : Inv S B) {x : Int32} (h : isRes S x = false) : rc (p_regrind S x) = -1001 := by
  unfold p_regrind; rw [if_pos h]; exact rc_t1
theorem rg_nn {x : Int32} (h : x = nI (nn x)) : ¬ x < 0 := by
  rw [i32_lt, ntoI h, i32_0]
  omega
end VO
/-! shares and means -/
theorem cv_eq {o : Option Ordering} {op : CmpOp} (h : ¬ o = some .eq) : ¬ Op.cmpValue o op = 0 := by
  rcases o with _ | _ | _ | _ <;> cases op <;> first | decide | exact absurd rfl h
theorem cv_nlt {o : Option Ordering} (h : o = some .gt ∨ o = some .eq) : ¬ Op.cmpValue o .l < 0 := by
  rcases h with h | h <;> rw [h] <;> decide
theorem cv_ngt {o : Option Ordering} (h : o = some .lt ∨ o = some .eq) : ¬ 0 < Op.cmpValue o .g := by
  rcases h with h | h <;> rw [h] <;> decide
