/-! the class: resins, machines, lots are added -/
theorem Inv.addR {S : St} {B : Nat} {x : Int32} (I : Inv S B) (hR : nn (S.1 0 0 0) < 4) : Inv (s1 (s1 S 1 (nn (S.1 0 0 0)) 0 x) 0 0 0 (S.1 0 0 0 + 1)) B := by
  have c := I.cnt.1
  obtain ⟨u1, u2⟩ := nn_s c.1 hR (by decide)
  refine ⟨⟨⟨u1, Nat.zero_le _, by show nn (S.1 0 0 0 + 1) ≤ 4; omega⟩, I.cnt.2⟩, fun k hk => ⟨⟨(I.lot k hk).1.1, ?_⟩, (I.lot k hk).2⟩, I.mou, I.blk, I.mac, ⟨fun k hk => ⟨(I.ord.1 k hk).1, ⟨(I.ord.1 k hk).2.1.1, ?_⟩, (I.ord.1 k hk).2.2⟩, I.ord.2⟩, ⟨I.reg.1, fun k hk => I.reg.2 k ?_⟩, I.all, I.hrs⟩
  · show nn (S.1 3 k 0) < nn (S.1 0 0 0 + 1)
    have q : nn (S.1 3 k 0) < nn (S.1 0 0 0) := (I.lot k hk).1.2
    omega
  · show nn (S.1 18 k 0) < nn (S.1 0 0 0 + 1)
    have q := (I.ord.1 k hk).2.1.2
    omega
  · have q : nn (S.1 0 0 0 + 1) ≤ k := hk
    omega
theorem Inv.addM {S : St} {B : Nat} {x : Int32} (I : Inv S B) (hR : nn (S.1 0 3 0) < 3) : Inv (s1 (s1 (s1 (s1 S 14 (nn (S.1 0 3 0)) 0 x) 15 (nn (S.1 0 3 0)) 0 (-1)) 16 (nn (S.1 0 3 0)) 0 (-1)) 0 3 0 (S.1 0 3 0 + 1)) B := by
  have c := I.cnt.2.2.2.1
  obtain ⟨u1, u2⟩ := nn_s c.1 hR (by decide)
  have e15 : ∀ k, (s1 (s1 (s1 (s1 S 14 (nn (S.1 0 3 0)) 0 x) 15 (nn (S.1 0 3 0)) 0 (-1)) 16 (nn (S.1 0 3 0)) 0 (-1)) 0 3 0 (S.1 0 3 0 + 1)).1 15 k 0 = if k = nn (S.1 0 3 0) then -1 else S.1 15 k 0 := fun k => by
    show (s1 S 15 (nn (S.1 0 3 0)) 0 (-1)).1 15 k 0 = _
    by_cases q : k = nn (S.1 0 3 0)
    · subst q; rw [s1_eq, if_pos rfl]
    · rw [s1_ne (fun r => q r.2.1), if_neg q]
  have e16 : ∀ k, (s1 (s1 (s1 (s1 S 14 (nn (S.1 0 3 0)) 0 x) 15 (nn (S.1 0 3 0)) 0 (-1)) 16 (nn (S.1 0 3 0)) 0 (-1)) 0 3 0 (S.1 0 3 0 + 1)).1 16 k 0 = if k = nn (S.1 0 3 0) then -1 else S.1 16 k 0 := fun k => by
    show (s1 S 16 (nn (S.1 0 3 0)) 0 (-1)).1 16 k 0 = _
    by_cases q : k = nn (S.1 0 3 0)
    · subst q; rw [s1_eq, if_pos rfl]
    · rw [s1_ne (fun r => q r.2.1), if_neg q]
  refine ⟨⟨I.cnt.1, I.cnt.2.1, I.cnt.2.2.1, ⟨u1, Nat.zero_le _, by show nn (S.1 0 3 0 + 1) ≤ 3; omega⟩, I.cnt.2.2.2.2⟩, I.lot, I.mou, I.blk, ⟨fun k hk => ?_, fun k j hk hj e e2 => ?_⟩, I.ord, I.reg, I.all, I.hrs⟩
  · have hk2 : k < nn (S.1 0 3 0 + 1) := hk
    rw [e15, e16]
    by_cases q : k = nn (S.1 0 3 0)
    · rw [if_pos q, if_pos q]; exact ⟨Or.inl rfl, Or.inl rfl⟩
    · rw [if_neg q, if_neg q]; exact I.mac.1 k (by omega)
  · have hk2 : k < nn (S.1 0 3 0 + 1) := hk
    have hj2 : j < nn (S.1 0 3 0 + 1) := hj
    rw [e15] at e2
    rw [e15, e15] at e
    by_cases q : k = nn (S.1 0 3 0)
    · rw [if_pos q] at e2; exact absurd rfl e2
    · rw [if_neg q] at e e2
      by_cases r : j = nn (S.1 0 3 0)
      · rw [if_pos r] at e; exact absurd e e2
      · rw [if_neg r] at e; exact I.mac.2 k j (by omega) (by omega) e e2
theorem ne_fr {h : AH} {x a : Nat} {e : AE} (hx : h x = some e) (fa : h a = none) : x ≠ a := fun q => by rw [q, fa] at hx; cases hx
theorem lt_cnt {x K : Int32} {b : Nat} (h : Rg x 0 b) (hb : b < 2 ^ 31) (hK : nI b = K) (q : x < K) : nn x < b := lt_K hK hb (h.lt0 hb) q
theorem full_K {x K : Int32} {b : Nat} (h : Rg x 0 b) (hb : b < 2 ^ 31) (hK : nI b = K) (q : ¬ x < K) : x = K := full3 h hb hK q
set_option maxHeartbeats 4000000 in
set_option maxRecDepth 100000 in
theorem k_addResin (l : Launch) (D : va_G) (S : St) (gl : Nat → Nat) (G : Nat → Nat → Int32) (ad : Ad) (h : AH) (K0 : Cls S gl G ad h) (B : Nat) (I : Inv S B) (hI : IG S gl G) (x : Int32) : Ctr l D yX7_addResin cX7_addResin 3 (some .int) 7 112 4 20 [.ref (ad 0 0 0), .int x] h (fun E9 => (E9 = "java/lang/IllegalArgumentException" ∧ (p_addResin S x).1.1 0 8 0 = 1) ∨ (E9 = "java/lang/IllegalStateException" ∧ (p_addResin S x).1.1 0 8 0 = 2)) (fun r9 h' => r9 = some (.int (p_addResin S x).2) ∧ (p_addResin S x).1.1 0 8 0 = 0 ∧ Ok (p_addResin S x).1 B (ad 0 0 0) h') := by
  refine Ctr.of RX7 rfl (by decide) (Nat.le_of_ble_eq_true rfl) ?_
  intro sz p e s m below meth c E hin hr ht
  have C := I.cnt
  refine j_iload_n E dX7_addResin_0 rfl ?_
  refine j_iconst (v := 0) E dX7_addResin_1 ci_0 ?_
  refine j_bipush (v := 9) E dX7_addResin_2 cb_9 ?_
  refine j_callSx E (k_requireRange l D h x 0 9) (cw_X7_40 E ⟨Nat.le_of_ble_eq_true rfl, Nat.le_of_ble_eq_true rfl, Nat.le_of_ble_eq_true rfl, Nat.le_of_ble_eq_true rfl, Nat.le_of_ble_eq_true rfl⟩) (q_129 E.tb) rfl dX7_addResin_4 rfl ht rfl (fun Ex q => Or.inl ⟨q.1, by unfold p_addResin; rw [if_pos q.2]; rfl⟩) ⟨Nat.le_of_ble_eq_true rfl, Nat.le_of_ble_eq_true rfl⟩ (fun v4 h4 p4 => ?_)
  obtain ⟨rfl, rfl, hin⟩ := p4
  refine j_aload_n E dX7_addResin_7 rfl ?_
  refine gf_X7_44 E K0.x0 rfl dX7_addResin_8 ?_
  refine j_istore_n E dX7_addResin_11 (by decide) ?_
  refine j_iload_n E dX7_addResin_12 rfl ?_
  refine j_if_lt (tgt := 25) E dX7_addResin_13 (by decide) (fun q => (C.1.lt0 (by decide) q).elim) (fun _ => ?_)
  refine j_iload_n E dX7_addResin_16 rfl ?_
  refine j_aload_n E dX7_addResin_17 rfl ?_
  refine gf_X7_11 E K0.x0 rfl dX7_addResin_18 ?_
  refine j_alen (v := 4) E K0.x1 rfl dX7_addResin_21 ?_
  refine j_icmp_lt (tgt := 35) E dX7_addResin_22 (by decide) (fun c_22 => ?_) (fun c_22 => ?_)
  · have hR : nn (S.1 0 0 0) < 4 := lt_cnt C.1 (by decide) rfl c_22
    have K0 := K0.thr (t := 0)
    refine j_aload_n E dX7_addResin_35 rfl ?_
    refine gf_X7_11 E K0.x0 rfl dX7_addResin_36 ?_
    refine j_iload_n E dX7_addResin_39 rfl ?_
    refine nw_X7_9 E ⟨Nat.le_of_ble_eq_true rfl, Nat.le_of_ble_eq_true rfl⟩ dX7_addResin_40 (fun a40 h40 f40 n40 u40 => ?_)
    refine j_dup E dX7_addResin_43 rfl ?_
    refine j_iload_n E dX7_addResin_44 rfl ?_
    refine j_callI E (k_X6_init l D _ a40 x n40) (cw_X7_55 E ⟨Nat.le_of_ble_eq_true rfl, Nat.le_of_ble_eq_true rfl, Nat.le_of_ble_eq_true rfl, Nat.le_of_ble_eq_true rfl, Nat.le_of_ble_eq_true rfl⟩) (q_221 E.tb) rfl rfl dX7_addResin_45 rfl (fun v45 h45 p45 => ?_)
    obtain ⟨rfl, g1, g2⟩ := p45
    have ne1 := ne_fr K0.x1 f40
    have ne0 := ne_fr K0.x0 f40
    have ne01 : ad 0 0 0 ≠ ad 1 0 0 := fun q => absurd (K0.2 _ _ _ _ _ _ (show live (th S 0) 0 0 0 from ⟨rfl, rfl⟩) (show live (th S 0) 1 0 0 from ⟨rfl, rfl⟩) q).1 (by decide)
    refine s_aast E ((g2 _ ne1).trans ((u40 _ ne1).trans K0.x1)) g1 rfl (vin_of C.1.1 hR (Nat.le_refl _) (by decide)) dX7_addResin_48 (fun h48 n48 u48 => ?_)
    refine j_aload_n E dX7_addResin_49 rfl ?_
    refine j_iload_n E dX7_addResin_50 rfl ?_
    refine j_iconst (v := 1) E dX7_addResin_51 ci_1 ?_
    refine j_iadd E dX7_addResin_52 ?_
    refine pf_X7_44 E ((u48 _ ne01).trans ((g2 _ ne0).trans ((u40 _ ne0).trans K0.x0))) (Nat.le_of_ble_eq_true rfl) dX7_addResin_53 (fun h53 hDk u53 => ?_)
    refine j_iload_n E dX7_addResin_56 rfl ?_
    have e9 : p_addResin S x = (s1 (s1 (th S 0) 1 (nn (S.1 0 0 0)) 0 x) 0 0 0 (S.1 0 0 0 + 1), S.1 0 0 0 + 1 - 1) := by unfold p_addResin; rw [if_neg (bt hin), if_neg (fun q => absurd (show nn (S.1 0 0 0) = 4 by rw [q]; decide) (by omega))]
    have K9 : Cls (s1 (s1 (th S 0) 1 (nn (S.1 0 0 0)) 0 x) 0 0 0 (S.1 0 0 0 + 1)) gl G (adN ad 10 (nn (S.1 0 0 0)) a40) h53 := K0.addR I.th hR f40 ((u53 _ (fun q => ne0 q.symm)).trans ((u48 _ (fun q => ne1 q.symm)).trans g1)) ((u53 _ (fun q => ne01 q.symm)).trans n48) hDk (fun z z1 z2 z3 => (u53 z z3).trans ((u48 z z2).trans ((g2 z z1).trans (u40 z z1))))
    exact j_iret E hr dX7_addResin_57 ⟨Nat.le_of_ble_eq_true rfl, Nat.le_of_ble_eq_true rfl⟩ ⟨by rw [e9, Int32.add_sub_cancel], by rw [e9]; rfl, by rw [e9]; exact ⟨gl, G, adN ad 10 (nn (S.1 0 0 0)) a40, rfl, K9, hI.of rfl (fun _ => rfl) (fun _ => rfl) (fun _ => rfl), I.th.addR hR⟩⟩
  · exact j_throw (cls := "java/lang/IllegalStateException") (text := "no more resins") (ik := 48) (is := 50) (ic := 52) E (by decide) (q_203 E.tb) (q_20 E.tb) xs_50 xa_IllegalStateException xg_IllegalStateException dX7_addResin_25 dX7_addResin_28 dX7_addResin_29 dX7_addResin_31 dX7_addResin_34 ht ⟨Nat.le_of_ble_eq_true rfl, Nat.le_of_ble_eq_true rfl, Nat.le_of_ble_eq_true rfl, Nat.le_of_ble_eq_true rfl⟩ ⟨Nat.le_of_ble_eq_true rfl, Nat.le_of_ble_eq_true rfl⟩ (Or.inr ⟨rfl, by unfold p_addResin; rw [if_neg (bt hin), if_pos (full_K (K := 4) C.1 (by decide) rfl c_22)]; rfl⟩)
set_option maxHeartbeats 4000000 in
set_option maxRecDepth 100000 in
theorem k_addMachine (l : Launch) (D : va_G) (S : St) (gl : Nat → Nat) (G : Nat → Nat → Int32) (ad : Ad) (h : AH) (K0 : Cls S gl G ad h) (B : Nat) (I : Inv S B) (hI : IG S gl G) (x : Int32) : Ctr l D yX7_addMachine cX7_addMachine 3 (some .int) 7 112 4 21 [.ref (ad 0 0 0), .int x] h (fun E9 => (E9 = "java/lang/IllegalArgumentException" ∧ (p_addMachine S x).1.1 0 8 0 = 1) ∨ (E9 = "java/lang/IllegalStateException" ∧ (p_addMachine S x).1.1 0 8 0 = 2)) (fun r9 h' => r9 = some (.int (p_addMachine S x).2) ∧ (p_addMachine S x).1.1 0 8 0 = 0 ∧ Ok (p_addMachine S x).1 B (ad 0 0 0) h') := by
  refine Ctr.of RX7 rfl (by decide) (Nat.le_of_ble_eq_true rfl) ?_
  intro sz p e s m below meth c E hin hr ht
  have C := I.cnt
  refine j_iload_n E dX7_addMachine_0 rfl ?_
  refine j_iconst (v := 1) E dX7_addMachine_1 ci_1 ?_
  refine j_sipush (v := 999) E dX7_addMachine_2 cs_999 ?_
  refine j_callSx E (k_requireRange l D h x 1 999) (cw_X7_40 E ⟨Nat.le_of_ble_eq_true rfl, Nat.le_of_ble_eq_true rfl, Nat.le_of_ble_eq_true rfl, Nat.le_of_ble_eq_true rfl, Nat.le_of_ble_eq_true rfl⟩) (q_129 E.tb) rfl dX7_addMachine_5 rfl ht rfl (fun Ex q => Or.inl ⟨q.1, by unfold p_addMachine; rw [if_pos q.2]; rfl⟩) ⟨Nat.le_of_ble_eq_true rfl, Nat.le_of_ble_eq_true rfl⟩ (fun v5 h5 p5 => ?_)
  obtain ⟨rfl, rfl, hin⟩ := p5
  refine j_aload_n E dX7_addMachine_8 rfl ?_
  refine gf_X7_158 E K0.x0 rfl dX7_addMachine_9 ?_
  refine j_istore_n E dX7_addMachine_12 (by decide) ?_
  refine j_iload_n E dX7_addMachine_13 rfl ?_
  refine j_if_lt (tgt := 26) E dX7_addMachine_14 (by decide) (fun q => (C.2.2.2.1.lt0 (by decide) q).elim) (fun _ => ?_)
  refine j_iload_n E dX7_addMachine_17 rfl ?_
  refine j_aload_n E dX7_addMachine_18 rfl ?_
  refine gf_X7_23 E K0.x0 rfl dX7_addMachine_19 ?_
  refine j_alen (v := 3) E K0.x3 rfl dX7_addMachine_22 ?_
  refine j_icmp_lt (tgt := 36) E dX7_addMachine_23 (by decide) (fun c_23 => ?_) (fun c_23 => ?_)
  · have hR : nn (S.1 0 3 0) < 3 := lt_cnt C.2.2.2.1 (by decide) rfl c_23
    have K0 := K0.thr (t := 0)
    refine j_aload_n E dX7_addMachine_36 rfl ?_
    refine gf_X7_23 E K0.x0 rfl dX7_addMachine_37 ?_
    refine j_iload_n E dX7_addMachine_40 rfl ?_
    refine nw_X7_21 E ⟨Nat.le_of_ble_eq_true rfl, Nat.le_of_ble_eq_true rfl⟩ dX7_addMachine_41 (fun a41 h41 f41 n41 u41 => ?_)
    refine j_dup E dX7_addMachine_44 rfl ?_
    refine j_iload_n E dX7_addMachine_45 rfl ?_
    refine j_callI E (k_X3_init l D _ a41 x n41) (cw_X7_163 E ⟨Nat.le_of_ble_eq_true rfl, Nat.le_of_ble_eq_true rfl, Nat.le_of_ble_eq_true rfl, Nat.le_of_ble_eq_true rfl, Nat.le_of_ble_eq_true rfl⟩) (q_489 E.tb) rfl rfl dX7_addMachine_46 rfl (fun v46 h46 p46 => ?_)
    obtain ⟨rfl, g1, g2⟩ := p46
    have ne1 := ne_fr K0.x3 f41
    have ne0 := ne_fr K0.x0 f41
    have ne01 : ad 0 0 0 ≠ ad 3 0 0 := fun q => absurd (K0.2 _ _ _ _ _ _ (show live (th S 0) 0 0 0 from ⟨rfl, rfl⟩) (show live (th S 0) 3 0 0 from ⟨rfl, rfl⟩) q).1 (by decide)
    refine s_aast E ((g2 _ ne1).trans ((u41 _ ne1).trans K0.x3)) g1 rfl (vin_of C.2.2.2.1.1 hR (Nat.le_refl _) (by decide)) dX7_addMachine_49 (fun h49 n49 u49 => ?_)
    refine j_aload_n E dX7_addMachine_50 rfl ?_
    refine j_iload_n E dX7_addMachine_51 rfl ?_
    refine j_iconst (v := 1) E dX7_addMachine_52 ci_1 ?_
    refine j_iadd E dX7_addMachine_53 ?_
    refine pf_X7_158 E ((u49 _ ne01).trans ((g2 _ ne0).trans ((u41 _ ne0).trans K0.x0))) (Nat.le_of_ble_eq_true rfl) dX7_addMachine_54 (fun h54 hDk u54 => ?_)
    refine j_iload_n E dX7_addMachine_57 rfl ?_
    have e9 : p_addMachine S x = (s1 (s1 (s1 (s1 (th S 0) 14 (nn (S.1 0 3 0)) 0 x) 15 (nn (S.1 0 3 0)) 0 (-1)) 16 (nn (S.1 0 3 0)) 0 (-1)) 0 3 0 (S.1 0 3 0 + 1), S.1 0 3 0 + 1 - 1) := by unfold p_addMachine; rw [if_neg (bt hin), if_neg (fun q => absurd (show nn (S.1 0 3 0) = 3 by rw [q]; decide) (by omega))]
    have K9 : Cls (s1 (s1 (s1 (s1 (th S 0) 14 (nn (S.1 0 3 0)) 0 x) 15 (nn (S.1 0 3 0)) 0 (-1)) 16 (nn (S.1 0 3 0)) 0 (-1)) 0 3 0 (S.1 0 3 0 + 1)) gl G (adN ad 15 (nn (S.1 0 3 0)) a41) h54 := K0.addM I.th hR f41 ((u54 _ (fun q => ne0 q.symm)).trans ((u49 _ (fun q => ne1 q.symm)).trans g1)) ((u54 _ (fun q => ne01 q.symm)).trans n49) hDk (fun z z1 z2 z3 => (u54 z z3).trans ((u49 z z2).trans ((g2 z z1).trans (u41 z z1))))
    exact j_iret E hr dX7_addMachine_58 ⟨Nat.le_of_ble_eq_true rfl, Nat.le_of_ble_eq_true rfl⟩ ⟨by rw [e9, Int32.add_sub_cancel], by rw [e9]; rfl, by rw [e9]; exact ⟨gl, G, adN ad 15 (nn (S.1 0 3 0)) a41, rfl, K9, hI.of rfl (fun _ => rfl) (fun _ => rfl) (fun _ => rfl), I.th.addM hR⟩⟩
  · exact j_throw (cls := "java/lang/IllegalStateException") (text := "no more machines") (ik := 48) (is := 161) (ic := 52) E (by decide) (q_203 E.tb) (q_20 E.tb) xs_161 xa_IllegalStateException xg_IllegalStateException dX7_addMachine_26 dX7_addMachine_29 dX7_addMachine_30 dX7_addMachine_32 dX7_addMachine_35 ht ⟨Nat.le_of_ble_eq_true rfl, Nat.le_of_ble_eq_true rfl, Nat.le_of_ble_eq_true rfl, Nat.le_of_ble_eq_true rfl⟩ ⟨Nat.le_of_ble_eq_true rfl, Nat.le_of_ble_eq_true rfl⟩ (Or.inr ⟨rfl, by unfold p_addMachine; rw [if_neg (bt hin), if_pos (full_K (K := 3) C.2.2.2.1 (by decide) rfl c_23)]; rfl⟩)
