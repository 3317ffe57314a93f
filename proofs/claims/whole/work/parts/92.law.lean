/-! the law's own methods: shares and means -/
theorem pl_p_regrindShare (S : St) : (p_regrindShare S).1 = th S ((p_regrindShare S).1.1 0 8 0) := by
  unfold p_regrindShare
  split <;> rfl
theorem pl_p_meanParts (S : St) : (p_meanParts S).1 = th S ((p_meanParts S).1.1 0 8 0) := by
  unfold p_meanParts
  split <;> rfl
theorem nanF {a b : Int64} (hb : ¬ b = 0) : Jvm.FP.Core.fIsNaN (FP.fdiv (FP.l2f a) (FP.l2f b)) = false := by
  refine Jvm.FP.Core.fdiv_out ?_ (Jvm.FP.Core.l2f_fin b) (fun q => ?_)
  · refine Jvm.FP.Core.not_true32 (Jvm.FP.Core.isNaN_bits32 _) (fun q => ?_)
    have := Jvm.FP.Core.l2f_mag a
    have e : (192 * 2 ^ 23 : Nat) = 1610612736 := rfl
    have e2 : (Jvm.FP.Core.l2f a).toNat % 2 ^ 31 = (FP.l2f a).toNat % 2 ^ 31 := rfl
    omega
  · rw [Jvm.FP.Core.zero_bits232] at q
    exact Jvm.FP.Core.l2f_ne_zero hb q
theorem rs_n64 {S : St} {B : Nat} (I : IAll S B) (hB : B < 1000000) (hz : (p_regrindShare S).1.1 0 8 0 = 0) : vf_n64 (FP.f2d (p_regrindShare S).2) := by
  unfold p_regrindShare at hz ⊢
  by_cases q : S.1 0 6 0 = 0
  · rw [if_pos q] at hz
    exact absurd hz (by show ¬ (1 : Int32) = 0; decide)
  · rw [if_neg q]
    exact vf64_of ((Jvm.FP.f2d_nan _).trans (nanF ((all_0 I hB).2.2 q)))
def oneD (out : Nat) (g : Nat → UInt64) : AH := fun x => if x = out then some (.inl (.double, (1, .inr (.inr (.inr (.inl g)))))) else none
def HPd (S' : St) (v : UInt64) (B a0 out : Nat) : Option Value → AH → Prop := fun r9 h' => r9 = some (.int (S'.1 0 8 0)) ∧ ∃ (hc' : AH) (g : Nat → UInt64), Ok S' B a0 hc' ∧ (∀ x e, hc' x = some e → h' x = some e) ∧ hc' out = none ∧ h' out = some (.inl (.double, (1, .inr (.inr (.inr (.inl g)))))) ∧ (S'.1 0 8 0 = 0 → g 0 = v)
set_option maxHeartbeats 4000000 in
set_option maxRecDepth 100000 in
theorem h_regrindShare (l : Launch) (D : va_G) (S : St) (B a0 out : Nat) (hc : AH) (g0 : Nat → UInt64) (hOk : Ok S B a0 hc) (hB : B < 1000000) (hno : hc out = none) : CtrW l D yL_regrindShare cL_regrindShare 3 (some .int) [(0, 8, 11, 95)] 7 110 2 12 [.ref a0, .ref out] (hup hc out (.inl (.double, (1, .inr (.inr (.inr (.inl g0))))))) (fun _ => False) (HPd (p_regrindShare S).1 (FP.f2d (p_regrindShare S).2) B a0 out) := by
  refine CtrW.of RL rfl (by decide) (Nat.le_of_ble_eq_true rfl) ?_
  intro sz p e s m below meth c E hin hr ht
  obtain ⟨gl, G, ad, rfl, K0, hI, I⟩ := hOk
  have hfr : ∀ x e9, oneD out g0 x = some e9 → hup hc out (.inl (.double, (1, .inr (.inr (.inr (.inl g0)))))) x = some e9 ∧ hc x = none := fun x e9 he => by
    by_cases q : x = out
    · subst q; exact ⟨by rw [hup_eq]; rw [show oneD x g0 x = _ from if_pos rfl] at he; exact he, hno⟩
    · rw [show oneD out g0 x = none from if_neg q] at he; cases he
  have hsb : ∀ x e9, hc x = some e9 → hup hc out (.inl (.double, (1, .inr (.inr (.inr (.inl g0)))))) x = some e9 := fun x e9 he => by rw [hup_ne (fun q => by rw [q, hno] at he; cases he)]; exact he
  refine j_aload_n E dL_regrindShare_0 rfl ?_
  refine j_iconst (v := 0) E dL_regrindShare_1 ci_0 ?_
  refine j_aload_n E dL_regrindShare_2 rfl ?_
  refine j_callVc E (hc := hc) (hr := oneD out g0) (k_regrindShare l D S gl G ad hc K0 B I hI hB) hsb hfr (cw_L_91 E ⟨Nat.le_of_ble_eq_true rfl, Nat.le_of_ble_eq_true rfl, Nat.le_of_ble_eq_true rfl, Nat.le_of_ble_eq_true rfl, Nat.le_of_ble_eq_true rfl⟩) (q_740 E.tb) (q_741 E.tb) (hsb _ _ K0.x0) rfl rfl dL_regrindShare_3 rfl (fun Ex q9 h1 hx w1 w2 => ?_) (fun v3 hc1 h4 hp w2 w3 w4 => ?_)
  · obtain ⟨rfl, hk⟩ := hx
    · refine ⟨11, ⟨[], ⟨0, 8, 11, 95⟩, [], "java/lang/ArithmeticException", ht, ?_, by decide, by decide, q_725 E.tb, E.tb.get 737 (by decide +kernel) (by decide +kernel), rfl⟩, ?_⟩
      · intro z hz; cases hz
      · refine j_astore_n E dL_regrindShare_11 (by decide) ?_
        refine j_iconst (v := 1) E dL_regrindShare_12 ci_1 ?_
        exact j_iret E hr dL_regrindShare_13 ⟨Nat.le_of_ble_eq_true rfl, Nat.le_of_ble_eq_true rfl⟩ ⟨by rw [hk], hc, g0, by rw [pl_p_regrindShare, hk]; exact Ok.thr ⟨gl, G, ad, rfl, K0, hI, I⟩, w1, hno, w2 out _ (if_pos rfl), fun z => absurd (hk.symm.trans z) (by decide)⟩
  · obtain ⟨rfl, hz, rfl⟩ := hp
    refine j_f2d E dL_regrindShare_6 (rs_n64 I.all hB hz) ?_
    refine s_dast E (w3 out _ (if_pos rfl)) (vin_nI (n := 1) (k := 0) (by decide) (by decide)) dL_regrindShare_7 (fun h7 n7 u7 => ?_)
    refine j_goto (tgt := 14) E dL_regrindShare_8 (by decide) ?_
    refine j_iconst (v := 0) E dL_regrindShare_14 ci_0 ?_
    exact j_iret E hr dL_regrindShare_15 ⟨Nat.le_of_ble_eq_true rfl, Nat.le_of_ble_eq_true rfl⟩ ⟨by rw [hz], hc, _, (by rw [pl_p_regrindShare, hz]; exact Ok.thr ⟨gl, G, ad, rfl, K0, hI, I⟩), fun x e he => (u7 x (fun q => by rw [q, hno] at he; cases he)).trans (w2 x e he), hno, n7, fun _ => fup_eq⟩
set_option maxHeartbeats 4000000 in
set_option maxRecDepth 100000 in
theorem h_meanParts (l : Launch) (D : va_G) (S : St) (B a0 out : Nat) (hc : AH) (g0 : Nat → UInt64) (hOk : Ok S B a0 hc) (hB : B < 1000000) (hno : hc out = none) : CtrW l D yL_meanParts cL_meanParts 3 (some .int) [(0, 7, 10, 95)] 7 110 2 12 [.ref a0, .ref out] (hup hc out (.inl (.double, (1, .inr (.inr (.inr (.inl g0))))))) (fun _ => False) (HPd (p_meanParts S).1 (p_meanParts S).2 B a0 out) := by
  refine CtrW.of RL rfl (by decide) (Nat.le_of_ble_eq_true rfl) ?_
  intro sz p e s m below meth c E hin hr ht
  obtain ⟨gl, G, ad, rfl, K0, hI, I⟩ := hOk
  have hfr : ∀ x e9, oneD out g0 x = some e9 → hup hc out (.inl (.double, (1, .inr (.inr (.inr (.inl g0)))))) x = some e9 ∧ hc x = none := fun x e9 he => by
    by_cases q : x = out
    · subst q; exact ⟨by rw [hup_eq]; rw [show oneD x g0 x = _ from if_pos rfl] at he; exact he, hno⟩
    · rw [show oneD out g0 x = none from if_neg q] at he; cases he
  have hsb : ∀ x e9, hc x = some e9 → hup hc out (.inl (.double, (1, .inr (.inr (.inr (.inl g0)))))) x = some e9 := fun x e9 he => by rw [hup_ne (fun q => by rw [q, hno] at he; cases he)]; exact he
  refine j_aload_n E dL_meanParts_0 rfl ?_
  refine j_iconst (v := 0) E dL_meanParts_1 ci_0 ?_
  refine j_aload_n E dL_meanParts_2 rfl ?_
  refine j_callVc E (hc := hc) (hr := oneD out g0) (k_meanParts l D S gl G ad hc K0 B I hI hB) hsb hfr (cw_L_97 E ⟨Nat.le_of_ble_eq_true rfl, Nat.le_of_ble_eq_true rfl, Nat.le_of_ble_eq_true rfl, Nat.le_of_ble_eq_true rfl, Nat.le_of_ble_eq_true rfl⟩) (q_750 E.tb) (q_751 E.tb) (hsb _ _ K0.x0) rfl rfl dL_meanParts_3 rfl (fun Ex q9 h1 hx w1 w2 => ?_) (fun v3 hc1 h4 hp w2 w3 w4 => ?_)
  · obtain ⟨rfl, hk⟩ := hx
    · refine ⟨10, ⟨[], ⟨0, 7, 10, 95⟩, [], "java/lang/ArithmeticException", ht, ?_, by decide, by decide, q_725 E.tb, E.tb.get 737 (by decide +kernel) (by decide +kernel), rfl⟩, ?_⟩
      · intro z hz; cases hz
      · refine j_astore_n E dL_meanParts_10 (by decide) ?_
        refine j_iconst (v := 1) E dL_meanParts_11 ci_1 ?_
        exact j_iret E hr dL_meanParts_12 ⟨Nat.le_of_ble_eq_true rfl, Nat.le_of_ble_eq_true rfl⟩ ⟨by rw [hk], hc, g0, by rw [pl_p_meanParts, hk]; exact Ok.thr ⟨gl, G, ad, rfl, K0, hI, I⟩, w1, hno, w2 out _ (if_pos rfl), fun z => absurd (hk.symm.trans z) (by decide)⟩
  · obtain ⟨rfl, hz, rfl⟩ := hp
    refine s_dast E (w3 out _ (if_pos rfl)) (vin_nI (n := 1) (k := 0) (by decide) (by decide)) dL_meanParts_6 (fun h6 n6 u6 => ?_)
    refine j_goto (tgt := 13) E dL_meanParts_7 (by decide) ?_
    refine j_iconst (v := 0) E dL_meanParts_13 ci_0 ?_
    exact j_iret E hr dL_meanParts_14 ⟨Nat.le_of_ble_eq_true rfl, Nat.le_of_ble_eq_true rfl⟩ ⟨by rw [hz], hc, _, (by rw [pl_p_meanParts, hz]; exact Ok.thr ⟨gl, G, ad, rfl, K0, hI, I⟩), fun x e he => (u6 x (fun q => by rw [q, hno] at he; cases he)).trans (w2 x e he), hno, n6, fun _ => fup_eq⟩
