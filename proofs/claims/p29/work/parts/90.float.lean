/-! shares and means, compared -/
theorem wu {i : Int} {c : Nat} {q : Int} (h : Jvm.FP.Core.Whole i (.fin false c q)) (hq : -1000 ≤ q) (hi : 0 ≤ i) : c * 2 ^ (q + 1000).toNat = i.toNat * 2 ^ 1000 := by
  have h1 := Jvm.FP.Core.whole_units (e := -1000) h hq
  have e1 : (-1000 : Int).toNat = 0 := rfl
  have e2 : (-(-1000 : Int)).toNat = 1000 := rfl
  have e3 : q - -1000 = q + 1000 := by omega
  rw [e1, e2] at h1
  unfold Jvm.FP.Core.signed Jvm.FP.Core.inUnits at h1
  rw [if_neg (by decide), e3] at h1
  obtain ⟨n, rfl⟩ := Int.eq_ofNat_of_zero_le hi
  rw [Int.toNat_natCast]
  have h2 : ((c * 2 ^ (q + 1000).toNat * 2 ^ 0 : Nat) : Int) = ((n * 2 ^ 1000 : Nat) : Int) := by
    rw [Int.natCast_mul (c * 2 ^ (q + 1000).toNat), Int.natCast_mul n]
    exact h1
  have h3 := Int.ofNat_inj.mp h2
  rw [Nat.pow_zero, Nat.mul_one] at h3
  exact h3
theorem half_val : Jvm.FP.Core.val32 1056964608 = .fin false (2 ^ 23) (-24) := by decide +kernel
theorem half_mag : Jvm.FP.Core.zmag Jvm.FP.Core.b32 (Jvm.FP.Core.val32 1056964608) = 2 ^ 148 := by
  rw [half_val]
  decide +kernel
theorem m1_val32 : Jvm.FP.Core.zval Jvm.FP.Core.b32 (Jvm.FP.Core.val32 3212836864) < 0 := by decide +kernel
theorem m1_nn32 : Jvm.FP.Core.val32 3212836864 ≠ .nan := by decide +kernel
theorem pow_half {R G P : Nat} (h : 2 * R ≤ G) : R * (2 * P) * (2 * P) ≤ P * (G * (2 * P)) := by
  have h1 : 2 * R * (P * (2 * P)) ≤ G * (P * (2 * P)) := Nat.mul_le_mul_right _ h
  have h2 : R * (2 * P) * (2 * P) = 2 * R * (P * (2 * P)) := by ac_rfl
  have h3 : P * (G * (2 * P)) = G * (P * (2 * P)) := by ac_rfl
  rw [h2, h3]
  exact h1
theorem share_val {r g : Int64} (h1 : 0 ≤ r.toInt) (h2 : 2 * r.toInt ≤ g.toInt) (h3 : 0 < g.toInt) (h4 : g.toInt < 16777216) : Jvm.FP.Core.val32 (Jvm.FP.Core.fdiv (Jvm.FP.Core.l2f r) (Jvm.FP.Core.l2f g)) ≠ .nan ∧ Jvm.FP.Core.sgn (Jvm.FP.Core.val32 (Jvm.FP.Core.fdiv (Jvm.FP.Core.l2f r) (Jvm.FP.Core.l2f g))) = false ∧ Jvm.FP.Core.zmag Jvm.FP.Core.b32 (Jvm.FP.Core.val32 (Jvm.FP.Core.fdiv (Jvm.FP.Core.l2f r) (Jvm.FP.Core.l2f g))) ≤ Jvm.FP.Core.zmag Jvm.FP.Core.b32 (Jvm.FP.Core.val32 1056964608) := by
  obtain ⟨c, q, er⟩ := Jvm.FP.Core.l2f_shape r
  obtain ⟨d, t, eg⟩ := Jvm.FP.Core.l2f_shape g
  rw [decide_eq_false (by omega)] at er eg
  have wr := Jvm.FP.Core.l2f_whole (a := r) ⟨by omega, by omega⟩
  have wg := Jvm.FP.Core.l2f_whole (a := g) ⟨by omega, by omega⟩
  rw [er] at wr
  rw [eg] at wg
  have fr := Jvm.FP.Core.val32_fits (Jvm.FP.Core.l2f r)
  have fg := Jvm.FP.Core.val32_fits (Jvm.FP.Core.l2f g)
  rw [er] at fr
  rw [eg] at fg
  obtain ⟨-, f2, f3, -⟩ := fr
  obtain ⟨-, g2, g3, -⟩ := fg
  have qm : Jvm.FP.Core.b32.qmin = -149 := Jvm.FP.Core.qmin_b32
  have qx : Jvm.FP.Core.b32.qmax = 104 := by decide
  rw [qm] at f2 g2
  rw [qx] at f3 g3
  have hd : ¬ d = 0 := fun z => by have := (Jvm.FP.Core.whole_zero wg).mp z; omega
  have ur := wu wr (by omega) h1
  have ug := wu wg (by omega) (by omega)
  have eq9 : Jvm.FP.Core.val32 (Jvm.FP.Core.fdiv (Jvm.FP.Core.l2f r) (Jvm.FP.Core.l2f g)) = Jvm.FP.Core.roundRatio Jvm.FP.Core.b32 false c d (q - t) := by
    rw [Jvm.FP.Core.val32_fdiv, er, eg]
    show (if d = 0 then _ else _) = _
    rw [if_neg hd]
    rfl
  rw [eq9]
  refine ⟨Jvm.FP.Core.roundRatio_ne_nan _ _ _ _ _, Jvm.FP.Core.sgn_roundRatio _ _ _ _ _, ?_⟩
  refine Jvm.FP.Core.zmag_roundRatio_le Jvm.FP.Core.good_b32 (e0 := -1000) (by omega) (Jvm.FP.Core.val32_fits _) (by rw [half_val]; exact Jvm.FP.Core.Datum.noConfusion) (by rw [qm]; decide) (by omega) ?_
  rw [half_mag, qm, show ((-149 : Int) - -1000).toNat = 851 from rfl]
  unfold Jvm.FP.Core.inUnits
  have hKT : (q - t - -1000).toNat + (t + 1000).toNat = (q + 1000).toNat + 1000 := by omega
  refine Nat.le_of_mul_le_mul_right (c := 2 ^ (t + 1000).toNat) ?_ (Nat.two_pow_pos _)
  have hL : c * 2 ^ (q - t - -1000).toNat * 2 ^ (t + 1000).toNat = r.toInt.toNat * 2 ^ 1000 * 2 ^ 1000 := by
    rw [Nat.mul_assoc, ← Nat.pow_add, hKT, Nat.pow_add, ← Nat.mul_assoc, ur]
  have hR : 2 ^ 148 * 2 ^ 851 * d * 2 ^ (t + 1000).toNat = 2 ^ 999 * (g.toInt.toNat * 2 ^ 1000) := by
    rw [← Nat.pow_add 2 148 851, Nat.mul_assoc, ug]
  rw [hL, hR, show (2 : Nat) ^ 1000 = 2 * 2 ^ 999 from by rw [Nat.mul_comm, ← Nat.pow_succ]]
  exact pow_half (by omega)
section FV
variable {S : St} {B : Nat} {sh pt : Nat → Int32}
theorem sh_no (hz : S.1 0 6 0 = 0) : shV S = 3212836864 := by
  unfold shV p_regrindShare
  rw [if_pos hz, if_neg (by show ¬ (th S 1).1 0 8 0 = 0; rw [s1_eq]; decide)]
theorem sh_yes (hz : ¬ S.1 0 6 0 = 0) : shV S = FP.fdiv (FP.l2f (S.2 1 0)) (FP.l2f (S.2 0 0)) := by
  unfold shV p_regrindShare
  rw [if_neg hz, if_pos (show (th S 0).1 0 8 0 = 0 from s1_eq)]
theorem me_no (hz : S.1 0 6 0 = 0) : meV S = 13830554455654793216 := by
  unfold meV p_meanParts
  rw [if_pos hz, if_neg (by show ¬ (th S 1).1 0 8 0 = 0; rw [s1_eq]; decide)]
theorem me_yes (hz : ¬ S.1 0 6 0 = 0) : meV S = FP.ddiv (FP.i2d (S.1 0 7 0)) (FP.i2d (S.1 0 6 0)) := by
  unfold meV p_meanParts
  rw [if_neg hz, if_pos (show (th S 0).1 0 8 0 = 0 from s1_eq)]
theorem shares (I : Inv S B) (P : PI S sh pt) (hz : ¬ S.1 0 6 0 = 0) : 0 ≤ (S.2 1 0).toInt ∧ 2 * (S.2 1 0).toInt ≤ (S.2 0 0).toInt ∧ 0 < (S.2 0 0).toInt ∧ (S.2 0 0).toInt < 16777216 := by
  obtain ⟨r1, g1, a1, a2, a3⟩ := I.all
  obtain ⟨r, g, p1, p2, p3, p4⟩ := P.2.2.2.2.1
  have few := P.few I.cnt
  have hpos : 1 ≤ nn (S.1 0 6 0) := by
    rcases Nat.eq_zero_or_pos (nn (S.1 0 6 0)) with q | q
    · exact absurd (by rw [r1.1, q]; rfl) hz
    · exact q
  have e0 : (S.2 0 0).toInt = (g : Int) := by rw [p2]; exact lN_toInt (by omega)
  have e1 : (S.2 1 0).toInt = (r : Int) := by rw [p1]; exact lN_toInt (by omega)
  have e2 : (S.2 0 0).toInt = (g1 : Int) := by rw [a1]; exact lN_toInt (by omega)
  refine ⟨by omega, by omega, by omega, by omega⟩
theorem sh_ne (I : Inv S B) (P : PI S sh pt) (hz : ¬ S.1 0 6 0 = 0) : ¬ Op.cmpValue (FP.fcmp (shV S) 3212836864) .l = 0 := by
  refine cv_eq (fun h => ?_)
  obtain ⟨h1, h2, h3, h4⟩ := shares I P hz
  obtain ⟨v1, v2, v3⟩ := share_val h1 h2 h3 h4
  rw [sh_yes hz] at h
  have h5 := (Jvm.FP.Core.fcmp_eq.mp h).2.2
  have h6 := m1_val32
  rw [← h5] at h6
  have h7 : Jvm.FP.Core.zval Jvm.FP.Core.b32 (Jvm.FP.Core.val32 (Jvm.FP.Core.fdiv (Jvm.FP.Core.l2f (S.2 1 0)) (Jvm.FP.Core.l2f (S.2 0 0)))) = Jvm.FP.Core.signed false (Jvm.FP.Core.zmag Jvm.FP.Core.b32 (Jvm.FP.Core.val32 (Jvm.FP.Core.fdiv (Jvm.FP.Core.l2f (S.2 1 0)) (Jvm.FP.Core.l2f (S.2 0 0))))) := by
    unfold Jvm.FP.Core.zval; rw [v2]
  rw [h7] at h6
  unfold Jvm.FP.Core.signed at h6
  rw [if_neg (by decide)] at h6
  omega
theorem sh_ge (I : Inv S B) (P : PI S sh pt) (hz : ¬ S.1 0 6 0 = 0) : ¬ Op.cmpValue (FP.fcmp (shV S) FP.fconst0) .l < 0 := by
  refine cv_nlt ?_
  obtain ⟨h1, h2, h3, h4⟩ := shares I P hz
  obtain ⟨v1, v2, v3⟩ := share_val h1 h2 h3 h4
  rw [sh_yes hz]
  refine Jvm.FP.Core.fcmp_ge.mpr ⟨v1, by decide +kernel, ?_⟩
  have h8 : Jvm.FP.Core.zval Jvm.FP.Core.b32 (Jvm.FP.Core.val32 FP.fconst0) = 0 := by decide +kernel
  rw [h8]
  unfold Jvm.FP.Core.zval
  rw [v2]
  unfold Jvm.FP.Core.signed
  rw [if_neg (by decide)]
  exact Int.natCast_nonneg _
theorem sh_le (I : Inv S B) (P : PI S sh pt) (hz : ¬ S.1 0 6 0 = 0) : ¬ 0 < Op.cmpValue (FP.fcmp (shV S) 1056964608) .g := by
  refine cv_ngt ?_
  obtain ⟨h1, h2, h3, h4⟩ := shares I P hz
  obtain ⟨v1, v2, v3⟩ := share_val h1 h2 h3 h4
  rw [sh_yes hz]
  refine Jvm.FP.Core.fcmp_le.mpr ⟨v1, by rw [half_val]; exact Jvm.FP.Core.Datum.noConfusion, ?_⟩
  have s2 : Jvm.FP.Core.sgn (Jvm.FP.Core.val32 1056964608) = false := by rw [half_val]; rfl
  unfold Jvm.FP.Core.zval
  rw [v2, s2]
  unfold Jvm.FP.Core.signed
  rw [if_neg (by decide), if_neg (by decide)]
  exact Int.ofNat_le.mpr v3
theorem m1_val64 : Jvm.FP.Core.zval Jvm.FP.Core.b64 (Jvm.FP.Core.val64 13830554455654793216) < 0 := by decide +kernel
theorem me_ne (I : Inv S B) (P : PI S sh pt) (hz : ¬ S.1 0 6 0 = 0) : ¬ Op.cmpValue (FP.dcmp (meV S) 13830554455654793216) .l = 0 := by
  refine cv_eq (fun h => ?_)
  rw [me_yes hz] at h
  have h5 := (Jvm.FP.Core.dcmp_eq.mp h).2.2
  have h6 := m1_val64
  rw [← h5] at h6
  have k7 := P.made I.cnt
  have k6 := P.few I.cnt
  have i7 := ntoI P.2.2.1
  have i6 := ntoI I.all.1.1
  have j7 : (S.1 0 7 0).toInt64.toInt = (nn (S.1 0 7 0) : Int) := by rw [Int32.toInt_toInt64]; exact i7
  have j6 : (S.1 0 6 0).toInt64.toInt = (nn (S.1 0 6 0) : Int) := by rw [Int32.toInt_toInt64]; exact i6
  obtain ⟨c, q, ec⟩ := Jvm.FP.Core.l2d_shape (S.1 0 7 0).toInt64
  obtain ⟨d, t, ed⟩ := Jvm.FP.Core.l2d_shape (S.1 0 6 0).toInt64
  rw [decide_eq_false (by omega)] at ec ed
  have wd := Jvm.FP.Core.l2d_whole (a := (S.1 0 6 0).toInt64) ⟨by omega, by omega⟩
  rw [ed] at wd
  have hd : ¬ d = 0 := fun z => by
    have h9 := (Jvm.FP.Core.whole_zero wd).mp z
    rw [j6] at h9
    exact hz (by rw [I.all.1.1, show nn (S.1 0 6 0) = 0 by omega]; rfl)
  have e9 : Jvm.FP.Core.val64 (Jvm.FP.Core.ddiv (Jvm.FP.Core.i2d (S.1 0 7 0)) (Jvm.FP.Core.i2d (S.1 0 6 0))) = Jvm.FP.Core.roundRatio Jvm.FP.Core.b64 false c d (q - t) := by
    rw [Jvm.FP.Core.val64_ddiv, Jvm.FP.Core.i2d_l2d, Jvm.FP.Core.i2d_l2d, ec, ed]
    show (if d = 0 then _ else _) = _
    rw [if_neg hd]
    rfl
  have h7 : Jvm.FP.Core.zval Jvm.FP.Core.b64 (Jvm.FP.Core.val64 (Jvm.FP.Core.ddiv (Jvm.FP.Core.i2d (S.1 0 7 0)) (Jvm.FP.Core.i2d (S.1 0 6 0)))) = Jvm.FP.Core.signed false (Jvm.FP.Core.zmag Jvm.FP.Core.b64 (Jvm.FP.Core.roundRatio Jvm.FP.Core.b64 false c d (q - t))) := by
    unfold Jvm.FP.Core.zval; rw [e9, Jvm.FP.Core.sgn_roundRatio]
  rw [h7] at h6
  unfold Jvm.FP.Core.signed at h6
  rw [if_neg (by decide)] at h6
  omega
theorem me_eq (hz : ¬ S.1 0 6 0 = 0) : Op.cmpValue (FP.dcmp (meV S) (FP.ddiv (FP.i2d (S.1 0 7 0)) (FP.i2d (S.1 0 6 0)))) .l = 0 := by
  rw [me_yes hz]
  have h : Jvm.FP.Core.dIsNaN (Jvm.FP.Core.ddiv (Jvm.FP.Core.i2d (S.1 0 7 0)) (Jvm.FP.Core.i2d (S.1 0 6 0))) = false := by
    refine Jvm.FP.Core.ddiv_out (Jvm.FP.Core.i2d_fin _).notNaN (Jvm.FP.Core.i2d_fin _) (fun q => ?_)
    rw [Jvm.FP.Core.zero_bits2] at q
    exact Jvm.FP.Core.i2d_ne_zero hz q
  have h2 := Jvm.FP.Core.dcmp_refl h
  have h3 : FP.dcmp (FP.ddiv (FP.i2d (S.1 0 7 0)) (FP.i2d (S.1 0 6 0))) (FP.ddiv (FP.i2d (S.1 0 7 0)) (FP.i2d (S.1 0 6 0))) = some .eq := h2
  rw [h3]
  rfl
theorem me_refl : Op.cmpValue (FP.dcmp 13830554455654793216 13830554455654793216) .l = 0 := by decide +kernel
theorem sh_refl : Op.cmpValue (FP.fcmp 3212836864 3212836864) .l = 0 := by decide +kernel
end FV
