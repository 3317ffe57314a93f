/-! the class: hours -/
theorem dryS_c {S : St} {k c i j : Nat} (h0 : c ≠ 0) (h3 : c ≠ 3) (h4 : c ≠ 4) (h5 : c ≠ 5) : (dryS S k).1 c i j = S.1 c i j := by
  unfold dryS
  split
  · exact (lev_c h0 h3 h4 h5).trans (s1_c h5)
  · exact s1_c h5
theorem dryS_2 {S : St} {k : Nat} : (dryS S k).2 = S.2 := by
  unfold dryS
  split
  · exact lev_2
  · rfl
theorem dryN_c {c i j : Nat} (h0 : c ≠ 0) (h3 : c ≠ 3) (h4 : c ≠ 4) (h5 : c ≠ 5) : ∀ (n : Nat) (S : St), (dryN S n).1 c i j = S.1 c i j
  | 0, _ => rfl
  | n + 1, S => (dryN_c h0 h3 h4 h5 n (dryS S n)).trans (dryS_c h0 h3 h4 h5)
theorem dryN_2 : ∀ (n : Nat) (S : St), (dryN S n).2 = S.2
  | 0, _ => rfl
  | n + 1, S => (dryN_2 n (dryS S n)).trans dryS_2
theorem IG.of {S T : St} {gl : Nat → Nat} {G : Nat → Nat → Int32} (I : IG S gl G) (h4 : T.1 0 4 0 = S.1 0 4 0) (h19 : ∀ k, T.1 19 k 0 = S.1 19 k 0) (h21 : ∀ k, T.1 21 k 0 = S.1 21 k 0) (hl : ∀ k, T.2 2 k = S.2 2 k) : IG T gl G := by
  unfold IG
  simp only [h4, h19, h21, hl]
  exact I
theorem IG.dry {S : St} {gl : Nat → Nat} {G : Nat → Nat → Int32} (I : IG S gl G) (n : Nat) : IG (dryN S n) gl G := I.of (dryN_0 (by decide) _ _) (fun _ => dryN_c (by decide) (by decide) (by decide) (by decide) _ _) (fun _ => dryN_c (by decide) (by decide) (by decide) (by decide) _ _) (fun k => by rw [dryN_2])
set_option maxHeartbeats 4000000 in
set_option maxRecDepth 100000 in
theorem k_passOneHour (l : Launch) (D : va_G) (S : St) (gl : Nat → Nat) (G : Nat → Nat → Int32) (ad : Ad) (h : AH) (K0 : Cls S gl G ad h) (C : Cnt S) (B : Nat) (I : Inv S B) (hB : B + 300 < 1000000) (hI : IG S gl G) : Ctr l D yX7_passOneHour cX7_passOneHour 4 (some .int) 6 142 0 0 [.ref (ad 0 0 0)] h (fun _ => False) (fun r9 h' => r9 = some (.int (hour S).2) ∧ ∃ (ad' : Ad) (G' : Nat → Nat → Int32), Cls (hour S).1 gl G' ad' h' ∧ IG (hour S).1 gl G' ∧ ∀ t i j, t ≠ 11 → ad' t i j = ad t i j) := by
  refine Ctr.of RX7 rfl (by decide) (Nat.le_of_ble_eq_true rfl) ?_
  intro sz p e s m below meth c E hin hr ht
  refine j_iconst (v := 0) E dX7_passOneHour_0 ci_0 ?_
  refine j_istore_n E dX7_passOneHour_1 (by decide) ?_
  refine j_iconst (v := 0) E dX7_passOneHour_2 ci_0 ?_
  refine j_istore_n E dX7_passOneHour_3 (by decide) ?_
  have K : ∀ (n : Nat) (y a : Int32) (S2 : St) (G2 : Nat → Nat → Int32) (h2 : AH), y = nI (nn y) → nn y + n = 3 → (S2, a) = mcN S (min (nn y) (nn (S.1 0 3 0))) → IG S2 gl G2 → Cls S2 gl G2 ad h2 → J p l e { frames := 6, cells := 0, slots := 0, locals := 142 } s m [.ref (ad 0 0 0)].toArray below meth c D (Afr h sz) 4 (vx_MQ below (Qcs D h sz (fun r9 h' => r9 = some (.int (hour S).2) ∧ ∃ (ad' : Ad) (G' : Nat → Nat → Int32), Cls (hour S).1 gl G' ad' h' ∧ IG (hour S).1 gl G' ∧ ∀ t i j, t ≠ 11 → ad' t i j = ad t i j)) (Xcs D h sz (fun _ => False)) [.ref (ad 0 0 0)].toArray s 0 0 (Afr h sz)) 0 0 h2 4 [(1, .int a), (2, .int y), (0, .ref (ad 0 0 0))] [] := by
    intro n
    induction n with
    | zero =>
      intro y a S2 G2 h2 hy hn hS hI2 K0
      have hM3 := C.2.2.2.1.2.2
      have h3e : S2.1 0 3 0 = S.1 0 3 0 := by have q := mcN_0 (S := S) (i := 3) (by decide) (by decide) (min (nn y) (nn (S.1 0 3 0))); rw [← hS] at q; exact q
      have I2 : Inv S2 (B + 180) := by have q := mcN_inv I (min (nn y) (nn (S.1 0 3 0))) (by omega) (by omega); rw [← hS] at q; exact q.up (by omega)
      refine j_iload_n E dX7_passOneHour_4 rfl ?_
      refine j_aload_n E dX7_passOneHour_5 rfl ?_
      refine gf_X7_23 E K0.x0 rfl dX7_passOneHour_6 ?_
      refine j_alen (v := 3) E K0.x3 rfl dX7_passOneHour_9 ?_
      refine j_icmp_ge (tgt := 38) E dX7_passOneHour_10 (by decide) (fun _ => ?_) (fun q => (q (ge_of hy (by decide) (by show nn (3 : Int32) ≤ _; rw [nn_3]; omega) (nn_lt y))).elim)
      have eM : (S2, a) = hourM S := by rw [hS, show min (nn y) (nn (S.1 0 3 0)) = (nn (S.1 0 3 0)) by omega]; rfl
      have e1 : S2 = (hourM S).1 := congrArg Prod.fst eM
      have e2 : a = (hourM S).2 := congrArg Prod.snd eM
      refine j_aload_n E dX7_passOneHour_38 rfl ?_
      refine gf_X7_36 E K0.x0 rfl dX7_passOneHour_39 ?_
      refine j_callV E (k_dryOneHour l D S2 gl G2 ad h2 K0 (B + 180) I2) (cw_X7_289 E ⟨Nat.le_of_ble_eq_true rfl, Nat.le_of_ble_eq_true rfl, Nat.le_of_ble_eq_true rfl, Nat.le_of_ble_eq_true rfl, Nat.le_of_ble_eq_true rfl⟩) (q_676 E.tb) (q_677 E.tb) K0.x5 rfl rfl dX7_passOneHour_42 rfl (fun v42 h42 p42 => ?_)
      obtain ⟨rfl, ad3, K3, ha3⟩ := p42
      have K3 : Cls (hourD S) gl G2 ad3 h42 := by unfold hourD; rw [← e1]; exact K3
      have hI3 : IG (hourD S) gl G2 := by unfold hourD; rw [← e1]; exact hI2.dry _
      refine J.sub (lo' := [(1, .int a), (0, .ref (ad3 0 0 0))]) ⟨rfl, congrArg (fun q => some (Value.ref q)) (ha3 0 0 0 (by decide)).symm, trivial⟩ ?_
      refine j_aload_n E dX7_passOneHour_45 rfl ?_
      refine j_dup E dX7_passOneHour_46 rfl ?_
      refine gf_X7_237 E K3.x0 rfl dX7_passOneHour_47 ?_
      refine j_iconst (v := 1) E dX7_passOneHour_50 ci_1 ?_
      refine j_iadd E dX7_passOneHour_51 ?_
      refine pf_X7_237 E K3.x0 (Nat.le_of_ble_eq_true rfl) dX7_passOneHour_52 (fun h52 hDk u52 => ?_)
      refine j_iload_n E dX7_passOneHour_55 rfl ?_
      exact j_iret E hr dX7_passOneHour_56 ⟨Nat.le_of_ble_eq_true rfl, Nat.le_of_ble_eq_true rfl⟩ ⟨by rw [e2]; rfl, ad3, G2, K3.d5 hDk u52, hI3.of rfl (fun _ => rfl) (fun _ => rfl) (fun _ => rfl), ha3⟩
    | succ n ih =>
      intro y a S2 G2 h2 hy hn hS hI2 K0
      have hM3 := C.2.2.2.1.2.2
      have h3e : S2.1 0 3 0 = S.1 0 3 0 := by have q := mcN_0 (S := S) (i := 3) (by decide) (by decide) (min (nn y) (nn (S.1 0 3 0))); rw [← hS] at q; exact q
      have I2 : Inv S2 (B + 180) := by have q := mcN_inv I (min (nn y) (nn (S.1 0 3 0))) (by omega) (by omega); rw [← hS] at q; exact q.up (by omega)
      have hy3 : nn y < 3 := by omega
      refine j_iload_n E dX7_passOneHour_4 rfl ?_
      refine j_aload_n E dX7_passOneHour_5 rfl ?_
      refine gf_X7_23 E K0.x0 rfl dX7_passOneHour_6 ?_
      refine j_alen (v := 3) E K0.x3 rfl dX7_passOneHour_9 ?_
      refine j_icmp_ge (tgt := 38) E dX7_passOneHour_10 (by decide) (fun q => (nge_of hy (by decide) (by show _ < nn (3 : Int32); rw [nn_3]; omega) (nn_lt _) q).elim) (fun _ => ?_)
      refine j_aload_n E dX7_passOneHour_13 rfl ?_
      refine gf_X7_23 E K0.x0 rfl dX7_passOneHour_14 ?_
      refine j_iload_n E dX7_passOneHour_17 rfl ?_
      refine j_aald E K0.x3 rfl (vin_of hy hy3 (Nat.le_refl 3) (by decide)) dX7_passOneHour_18 ?_
      rcases Nat.lt_or_ge (nn y) (nn (S.1 0 3 0)) with hlt | hge
      · refine J.stk (rf_y (by rw [h3e]; exact hlt)) ?_
        refine j_astore_n E dX7_passOneHour_19 (by decide) ?_
        refine j_aload_n E dX7_passOneHour_20 rfl ?_
        refine j_ifnull E dX7_passOneHour_21 ?_
        refine j_iload_n E dX7_passOneHour_24 rfl ?_
        refine j_aload_n E dX7_passOneHour_25 rfl ?_
        refine j_aload_n E dX7_passOneHour_26 rfl ?_
        refine j_callV E (k_workOneHour l D S2 gl G2 ad h2 K0 I2.cnt (B + 180) I2 (by omega) hI2 (nn y) (by rw [h3e]; exact hlt)) (cw_X7_285 E ⟨Nat.le_of_ble_eq_true rfl, Nat.le_of_ble_eq_true rfl, Nat.le_of_ble_eq_true rfl, Nat.le_of_ble_eq_true rfl, Nat.le_of_ble_eq_true rfl⟩) (q_654 E.tb) (q_7 E.tb) K0.x0 rfl rfl dX7_passOneHour_27 rfl (fun v27 h27 p27 => ?_)
        obtain ⟨rfl, G3, K3, hI3⟩ := p27
        refine j_iadd E dX7_passOneHour_30 ?_
        refine j_istore_n E dX7_passOneHour_31 (by decide) ?_
        refine j_iincK (k := 1) E ci_1 dX7_passOneHour_32 rfl (by decide) ?_
        refine j_goto (tgt := 4) E dX7_passOneHour_35 (by decide) ?_
        obtain ⟨a1, a2⟩ := nn_s hy hy3 (by decide)
        refine J.sub (lo' := [(1, .int (a + (mcS S2 0 (nn y)).2)), (2, .int (y + 1)), (0, .ref (ad 0 0 0))]) ⟨rfl, rfl, rfl, trivial⟩ ?_
        exact ih (y + 1) (a + (mcS S2 0 (nn y)).2) (mcS S2 0 (nn y)).1 G3 _ a1 (by omega) (by rw [a2, show min (nn y + 1) (nn (S.1 0 3 0)) = nn y + 1 by omega]; rw [show min (nn y) (nn (S.1 0 3 0)) = nn y by omega] at hS; show _ = mcS (mcN S (nn y)).1 (mcN S (nn y)).2 (nn y); rw [← hS]; exact mcS_p.symm) hI3 K3
      · refine J.stk (rf_n (by rw [h3e]; exact Nat.not_lt.mpr hge)) ?_
        refine j_astore_nN E dX7_passOneHour_19 (by decide) ?_
        refine j_aload_nN E dX7_passOneHour_20 rfl ?_
        refine j_ifnullN (tgt := 32) E dX7_passOneHour_21 (by decide) ?_
        refine j_iincK (k := 1) E ci_1 dX7_passOneHour_32 rfl (by decide) ?_
        refine j_goto (tgt := 4) E dX7_passOneHour_35 (by decide) ?_
        obtain ⟨a1, a2⟩ := nn_s hy hy3 (by decide)
        refine J.sub (lo' := [(1, .int a), (2, .int (y + 1)), (0, .ref (ad 0 0 0))]) ⟨rfl, rfl, rfl, trivial⟩ ?_
        exact ih (y + 1) a S2 G2 h2 a1 (by omega) (by rw [a2, show min (nn y + 1) (nn (S.1 0 3 0)) = min (nn y) (nn (S.1 0 3 0)) by omega]; exact hS) hI2 K0
  refine J.sub (lo' := [(1, .int 0), (2, .int 0), (0, .ref (ad 0 0 0))]) ⟨rfl, rfl, rfl, trivial⟩ ?_
  exact K 3 0 0 S G h e_0 (by rw [nn_0]) (by rw [nn_0, Nat.zero_min]; rfl) hI K0
theorem Cls.thr {S : St} {gl : Nat → Nat} {G : Nat → Nat → Int32} {ad : Ad} {h : AH} (K0 : Cls S gl G ad h) {t : Int32} : Cls (th S t) gl G ad h := by
  have hm : ∀ x, mnt (th S t) x = mnt S x := fun x => mnt_of rfl (fun _ => rfl)
  refine ⟨fun k i j hv => ?_, fun k i j k' i' j' hv hv' => K0.2 k i j k' i' j' hv hv'⟩
  rw [K0.1 k i j hv]
  unfold ccl
  split <;> first | rfl | (rw [hm]; rfl)
theorem IG.thr {S : St} {gl : Nat → Nat} {G : Nat → Nat → Int32} (I : IG S gl G) {t : Int32} : IG (th S t) gl G := I
theorem hrN_8 : ∀ (n : Nat) (S : St) (p : Int32), (hrN S p n).1.1 0 8 0 = S.1 0 8 0
  | 0, _, _ => rfl
  | n + 1, S, p => (hrN_8 n _ _).trans (hour_0 (by decide) (by decide) (by decide) (by decide))
set_option maxHeartbeats 4000000 in
set_option maxRecDepth 100000 in
theorem k_pass (l : Launch) (D : va_G) (S : St) (gl : Nat → Nat) (G : Nat → Nat → Int32) (ad : Ad) (h : AH) (K0 : Cls S gl G ad h) (C : Cnt S) (B : Nat) (I : Inv S B) (hB : B + 4500 < 1000000) (hI : IG S gl G) (x : Int32) : Ctr l D yX7_pass cX7_pass 4 (some .int) 7 165 3 18 [.ref (ad 0 0 0), .int x] h (fun E9 => (E9 = "java/lang/IllegalArgumentException" ∧ (p_pass S x).1.1 0 8 0 = 1) ∨ (E9 = "java/lang/IllegalStateException" ∧ (p_pass S x).1.1 0 8 0 = 2)) (fun r9 h' => r9 = some (.int (p_pass S x).2) ∧ (p_pass S x).1.1 0 8 0 = 0 ∧ ∃ (ad' : Ad) (G' : Nat → Nat → Int32), Cls (p_pass S x).1 gl G' ad' h' ∧ IG (p_pass S x).1 gl G' ∧ (∀ t i j, t ≠ 11 → ad' t i j = ad t i j) ∧ Inv (p_pass S x).1 (B + 180 * nn x)) := by
  refine Ctr.of RX7 rfl (by decide) (Nat.le_of_ble_eq_true rfl) ?_
  intro sz p e s m below meth c E hin hr ht
  refine j_iload_n E dX7_pass_0 rfl ?_
  refine j_iconst (v := 1) E dX7_pass_1 ci_1 ?_
  refine j_bipush (v := 24) E dX7_pass_2 cb_24 ?_
  refine j_callSx E (k_requireRange l D h x 1 24) (cw_X7_40 E ⟨Nat.le_of_ble_eq_true rfl, Nat.le_of_ble_eq_true rfl, Nat.le_of_ble_eq_true rfl, Nat.le_of_ble_eq_true rfl, Nat.le_of_ble_eq_true rfl⟩) (q_129 E.tb) rfl dX7_pass_4 rfl ht rfl (fun Ex q => Or.inl ⟨q.1, by unfold p_pass; rw [if_pos q.2]; rfl⟩) ⟨Nat.le_of_ble_eq_true rfl, Nat.le_of_ble_eq_true rfl⟩ (fun v4 h4 p4 => ?_)
  obtain ⟨rfl, rfl, hin1⟩ := p4
  refine j_aload_n E dX7_pass_7 rfl ?_
  refine gf_X7_237 E K0.x0 rfl dX7_pass_8 ?_
  refine j_iload_n E dX7_pass_11 rfl ?_
  refine j_iadd E dX7_pass_12 ?_
  refine j_sipush (v := 300) E dX7_pass_13 cs_300 ?_
  refine j_icmp_le (tgt := 29) E dX7_pass_16 (by decide) (fun c_16 => ?_) (fun c_16 => ?_)
  · refine j_iconst (v := 0) E dX7_pass_29 ci_0 ?_
    refine j_istore_n E dX7_pass_30 (by decide) ?_
    refine j_iconst (v := 0) E dX7_pass_31 ci_0 ?_
    refine j_istore_n E dX7_pass_32 (by decide) ?_
    have hx : Rg x 1 24 := inB_rg hin1 (by decide) (by decide)
    have hp : p_pass S x = hrN (th S 0) 0 (nn x) := by unfold p_pass; rw [if_neg (bt hin1), if_neg (i32_nlt c_16)]
    have h300 : nn (S.1 0 5 0) + nn x ≤ 300 := by
      have q1 := hx.2.2
      have q2 := I.hrs.2.2
      obtain ⟨b1, b2⟩ := nadd I.hrs.1 hx.1 (by omega)
      have q3 := c_16
      rw [i32_le, ntoI b1, show (300 : Int32).toInt = 300 by decide] at q3
      omega
    have K : ∀ (n : Nat) (y a : Int32) (S2 : St) (ad2 : Ad) (G2 : Nat → Nat → Int32) (h2 : AH), y = nI (nn y) → nn y + n = nn x → hrN S2 a n = hrN (th S 0) 0 (nn x) → Inv S2 (B + 180 * nn y) → nn (S2.1 0 5 0) + n ≤ 300 → IG S2 gl G2 → (∀ t i j, t ≠ 11 → ad2 t i j = ad t i j) → Cls S2 gl G2 ad2 h2 → J p l e { frames := 7, cells := 3, slots := 18, locals := 165 } s m [.ref (ad 0 0 0), .int x].toArray below meth c D (Afr h sz) 4 (vx_MQ below (Qcs D h sz (fun r9 h' => r9 = some (.int (p_pass S x).2) ∧ (p_pass S x).1.1 0 8 0 = 0 ∧ ∃ (ad' : Ad) (G' : Nat → Nat → Int32), Cls (p_pass S x).1 gl G' ad' h' ∧ IG (p_pass S x).1 gl G' ∧ (∀ t i j, t ≠ 11 → ad' t i j = ad t i j) ∧ Inv (p_pass S x).1 (B + 180 * nn x))) (Xcs D h sz (fun E9 => (E9 = "java/lang/IllegalArgumentException" ∧ (p_pass S x).1.1 0 8 0 = 1) ∨ (E9 = "java/lang/IllegalStateException" ∧ (p_pass S x).1.1 0 8 0 = 2))) [.ref (ad 0 0 0), .int x].toArray s 3 18 (Afr h sz)) 2 12 h2 33 [(2, .int a), (3, .int y), (1, .int x), (0, .ref (ad2 0 0 0))] [] := by
      intro n
      induction n with
      | zero =>
        intro y a S2 ad2 G2 h2 hy hn hs I2 h3 hI2 ha K0
        have hx24 := hx.2.2
        refine j_iload_n E dX7_pass_33 rfl ?_
        refine j_iload_n E dX7_pass_34 rfl ?_
        refine j_icmp_ge (tgt := 51) E dX7_pass_35 (by decide) (fun _ => ?_) (fun q => (q (ge_of hy hx.1 (by omega) (nn_lt y))).elim)
        refine j_iload_n E dX7_pass_51 rfl ?_
        have e9 : p_pass S x = (S2, a) := by rw [hp]; exact hs.symm
        exact j_iret E hr dX7_pass_52 ⟨Nat.le_of_ble_eq_true rfl, Nat.le_of_ble_eq_true rfl⟩ ⟨by rw [e9], by rw [hp, hrN_8]; rfl, ad2, G2, by rw [e9]; exact ⟨K0, hI2, ha, by rw [← show nn y = nn x from hn]; exact I2⟩⟩
      | succ n ih =>
        intro y a S2 ad2 G2 h2 hy hn hs I2 h3 hI2 ha K0
        have hx24 := hx.2.2
        refine j_iload_n E dX7_pass_33 rfl ?_
        refine j_iload_n E dX7_pass_34 rfl ?_
        refine j_icmp_ge (tgt := 51) E dX7_pass_35 (by decide) (fun q => (nge_of hy hx.1 (by omega) (nn_lt x) q).elim) (fun _ => ?_)
        refine j_iload_n E dX7_pass_38 rfl ?_
        refine j_aload_n E dX7_pass_39 rfl ?_
        refine j_callV E (k_passOneHour l D S2 gl G2 ad2 h2 K0 I2.cnt (B + 180 * nn y) I2 (by omega) hI2) (cw_X7_242 E ⟨Nat.le_of_ble_eq_true rfl, Nat.le_of_ble_eq_true rfl, Nat.le_of_ble_eq_true rfl, Nat.le_of_ble_eq_true rfl, Nat.le_of_ble_eq_true rfl⟩) (q_650 E.tb) (q_6 E.tb) K0.x0 rfl rfl dX7_pass_40 rfl (fun v40 h40 p40 => ?_)
        obtain ⟨rfl, ad3, G3, K3, hI3, ha3⟩ := p40
        refine j_iadd E dX7_pass_43 ?_
        refine j_istore_n E dX7_pass_44 (by decide) ?_
        refine j_iincK (k := 1) E ci_1 dX7_pass_45 rfl (by decide) ?_
        refine j_goto (tgt := 33) E dX7_pass_48 (by decide) ?_
        obtain ⟨a1, a2⟩ := nn_s hy (show nn y < nn x by omega) (nn_lt x)
        obtain ⟨b1, b2⟩ := nadd I2.hrs.1 e_1 (by rw [nn_1]; omega)
        rw [nn_1] at b2
        refine J.sub (lo' := [(2, .int (a + (hour S2).2)), (3, .int (y + 1)), (1, .int x), (0, .ref (ad3 0 0 0))]) ⟨rfl, rfl, rfl, congrArg (fun q => some (Value.ref q)) (ha3 0 0 0 (by decide)).symm, trivial⟩ ?_
        exact ih (y + 1) (a + (hour S2).2) (hour S2).1 ad3 G3 _ a1 (by omega) hs (by rw [a2, show B + 180 * (nn y + 1) = B + 180 * nn y + 180 by omega]; exact hour_inv I2 (by omega) (by omega)) (by rw [hour_5, b2]; omega) hI3 (fun t i j ht => (ha3 t i j ht).trans (ha t i j ht)) K3
    refine J.sub (lo' := [(2, .int 0), (3, .int 0), (1, .int x), (0, .ref (ad 0 0 0))]) ⟨rfl, rfl, rfl, rfl, trivial⟩ ?_
    exact K (nn x) 0 0 (th S 0) ad G h e_0 (by rw [nn_0]; omega) rfl (by rw [nn_0]; exact I.th) h300 hI (fun _ _ _ _ => rfl) K0.thr
  · exact j_throw (cls := "java/lang/IllegalStateException") (text := "too many hours") (ik := 48) (is := 240) (ic := 52) E (by decide) (q_203 E.tb) (q_20 E.tb) xs_240 xa_IllegalStateException xg_IllegalStateException dX7_pass_19 dX7_pass_22 dX7_pass_23 dX7_pass_25 dX7_pass_28 ht ⟨Nat.le_of_ble_eq_true rfl, Nat.le_of_ble_eq_true rfl, Nat.le_of_ble_eq_true rfl, Nat.le_of_ble_eq_true rfl⟩ ⟨Nat.le_of_ble_eq_true rfl, Nat.le_of_ble_eq_true rfl⟩ (Or.inr ⟨rfl, by unfold p_pass; rw [if_neg (bt hin1), if_pos (i32_ltof c_16)]; rfl⟩)
