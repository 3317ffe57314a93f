/-! the class: a lot is filled in -/
theorem Cls.addL {S : St} {gl : Nat → Nat} {G : Nat → Nat → Int32} {ad : Ad} {h h1 : AH} (K0 : Cls S gl G ad h) {B a : Nat} {r g : Int32} (I : Inv S B) (hR : (nn (S.1 0 1 0)) < 3) (fa : h a = none) (na : h1 a = some (.inr (2, [.ref (ad 10 (nn r) 0), .int g, .int 0])))
    (n1 : h1 (ad 6 0 0) = some (.inl (.object "MouldDesk$Lot", (3, .inr (.inr (.inr (.inr (fup (rfs (nn (S.1 0 1 0)) (fun i => ad 11 i 0)) (nn (S.1 0 1 0)) (some a)))))))))
    (n0 : h1 (ad 5 0 0) = some (.inr (1, [.ref (ad 6 0 0), .int (S.1 0 1 0 + 1)]))) (u : ∀ z, z ≠ a → z ≠ ad 6 0 0 → z ≠ ad 5 0 0 → h1 z = h z) : Cls (s1 (s1 (s1 (s1 (S) 3 (nn (S.1 0 1 0)) 0 r) 4 (nn (S.1 0 1 0)) 0 g) 5 (nn (S.1 0 1 0)) 0 0) 0 1 0 (S.1 0 1 0 + 1)) gl G (adN ad 11 (nn (S.1 0 1 0)) a) h1 := by
  have C := I.cnt
  have up : nn (S.1 0 1 0 + 1) = (nn (S.1 0 1 0)) + 1 := nn_up C.2.1 (by decide) hR
  have e3 : ∀ i, i ≠ (nn (S.1 0 1 0)) → (s1 (s1 (s1 (s1 (S) 3 (nn (S.1 0 1 0)) 0 r) 4 (nn (S.1 0 1 0)) 0 g) 5 (nn (S.1 0 1 0)) 0 0) 0 1 0 (S.1 0 1 0 + 1)).1 3 i 0 = S.1 3 i 0 := fun i hi => by
    show (s1 S 3 (nn (S.1 0 1 0)) 0 r).1 3 i 0 = _
    exact s1_ne (fun q => hi q.2.1)
  have e4 : ∀ i, i ≠ (nn (S.1 0 1 0)) → (s1 (s1 (s1 (s1 (S) 3 (nn (S.1 0 1 0)) 0 r) 4 (nn (S.1 0 1 0)) 0 g) 5 (nn (S.1 0 1 0)) 0 0) 0 1 0 (S.1 0 1 0 + 1)).1 4 i 0 = S.1 4 i 0 := fun i hi => by
    show (s1 S 4 (nn (S.1 0 1 0)) 0 g).1 4 i 0 = _
    exact s1_ne (fun q => hi q.2.1)
  have e5 : ∀ i, i ≠ (nn (S.1 0 1 0)) → (s1 (s1 (s1 (s1 (S) 3 (nn (S.1 0 1 0)) 0 r) 4 (nn (S.1 0 1 0)) 0 g) 5 (nn (S.1 0 1 0)) 0 0) 0 1 0 (S.1 0 1 0 + 1)).1 5 i 0 = S.1 5 i 0 := fun i hi => by
    show (s1 S 5 (nn (S.1 0 1 0)) 0 0).1 5 i 0 = _
    exact s1_ne (fun q => hi q.2.1)
  have f3 : (s1 (s1 (s1 (s1 (S) 3 (nn (S.1 0 1 0)) 0 r) 4 (nn (S.1 0 1 0)) 0 g) 5 (nn (S.1 0 1 0)) 0 0) 0 1 0 (S.1 0 1 0 + 1)).1 3 (nn (S.1 0 1 0)) 0 = r := by
    show (s1 S 3 (nn (S.1 0 1 0)) 0 r).1 3 (nn (S.1 0 1 0)) 0 = _
    exact s1_eq
  have f4 : (s1 (s1 (s1 (s1 (S) 3 (nn (S.1 0 1 0)) 0 r) 4 (nn (S.1 0 1 0)) 0 g) 5 (nn (S.1 0 1 0)) 0 0) 0 1 0 (S.1 0 1 0 + 1)).1 4 (nn (S.1 0 1 0)) 0 = g := by
    show (s1 S 4 (nn (S.1 0 1 0)) 0 g).1 4 (nn (S.1 0 1 0)) 0 = _
    exact s1_eq
  have f5 : (s1 (s1 (s1 (s1 (S) 3 (nn (S.1 0 1 0)) 0 r) 4 (nn (S.1 0 1 0)) 0 g) 5 (nn (S.1 0 1 0)) 0 0) 0 1 0 (S.1 0 1 0 + 1)).1 5 (nn (S.1 0 1 0)) 0 = 0 := by
    show (s1 S 5 (nn (S.1 0 1 0)) 0 0).1 5 (nn (S.1 0 1 0)) 0 = _
    exact s1_eq
  refine K0.grow (fun t i j => t = 11 ∧ i = (nn (S.1 0 1 0)) ∧ j = 0) (fun t i j hv => ?_) (fun t i j hw => ?_) (fun t i j t' i' j' hw hw' _ => ⟨hw.1.trans hw'.1.symm, hw.2.1.trans hw'.2.1.symm, hw.2.2.trans hw'.2.2.symm⟩)
  · by_cases hnew : t = 11 ∧ i = (nn (S.1 0 1 0))
    · exact Or.inl ⟨hnew.1, hnew.2, live_0 hv (by rw [hnew.1]; decide)⟩
    · have hl : live S t i j := by
        by_cases ht : t = 11
        · subst ht
          have hv2 : i < nn (S.1 0 1 0 + 1) ∧ j = 0 := hv
          rw [up] at hv2
          exact ⟨by have q : ¬ i = (nn (S.1 0 1 0)) := fun q => hnew ⟨rfl, q⟩; omega, hv2.2⟩
        · unfold live at hv ⊢
          split at hv <;> first | exact hv | contradiction
      refine Or.inr ⟨hl, adN_ne hnew, ?_⟩
      by_cases h0 : t = 5
      · subst h0
        obtain ⟨rfl, rfl⟩ := (hl : i = 0 ∧ j = 0)
        exact n0
      · by_cases h1' : t = 6
        · subst h1'
          obtain ⟨rfl, rfl⟩ := (hl : i = 0 ∧ j = 0)
          rw [n1]
          show _ = (some (.inl (.object "MouldDesk$Lot", (3, .inr (.inr (.inr (.inr (rfs (nn (S.1 0 1 0 + 1)) (fun i => adN ad 11 (nn (S.1 0 1 0)) a 11 i 0)))))))) : Option AE)
          rw [up, rfs_up]
        · rw [u _ (fun q => by rw [← q, K0.1 _ _ _ hl] at fa; cases fa) (fun q => h1' (K0.2 _ _ _ _ _ _ hl (show live S 6 0 0 from ⟨rfl, rfl⟩) q).1) (fun q => h0 (K0.2 _ _ _ _ _ _ hl (show live S 5 0 0 from ⟨rfl, rfl⟩) q).1), K0.1 _ _ _ hl]
          have hm : ∀ y0, i ≠ (nn (S.1 0 1 0)) ∨ t ≠ 15 ∨ True → mnt (s1 (s1 (s1 (s1 (S) 3 (nn (S.1 0 1 0)) 0 r) 4 (nn (S.1 0 1 0)) 0 g) 5 (nn (S.1 0 1 0)) 0 0) 0 1 0 (S.1 0 1 0 + 1)) y0 = mnt S y0 := fun y0 _ => mnt_of rfl (fun _ => rfl)
          unfold ccl
          split <;> first | rfl | contradiction | (rw [hm _ (Or.inr (Or.inr True.intro))]; rfl) | (rw [e3 _ (fun q => hnew ⟨rfl, q⟩), e4 _ (fun q => hnew ⟨rfl, q⟩), e5 _ (fun q => hnew ⟨rfl, q⟩)]; rfl)
  · obtain ⟨rfl, rfl, rfl⟩ := hw
    rw [adN_eq]
    refine ⟨fa, na.trans ?_⟩
    show _ = (some (ccl (s1 (s1 (s1 (s1 (S) 3 (nn (S.1 0 1 0)) 0 r) 4 (nn (S.1 0 1 0)) 0 g) 5 (nn (S.1 0 1 0)) 0 0) 0 1 0 (S.1 0 1 0 + 1)) gl G (adN ad 11 (nn (S.1 0 1 0)) a) 11 (nn (S.1 0 1 0)) 0) : Option AE)
    show (some (.inr (2, [.ref (ad 10 (nn r) 0), .int g, .int 0])) : Option AE) = some (.inr (2, [.ref (adN ad 11 (nn (S.1 0 1 0)) a 10 (nn ((s1 (s1 (s1 (s1 S 3 (nn (S.1 0 1 0)) 0 r) 4 (nn (S.1 0 1 0)) 0 g) 5 (nn (S.1 0 1 0)) 0 0) 0 1 0 (S.1 0 1 0 + 1)).1 3 (nn (S.1 0 1 0)) 0)) 0), .int ((s1 (s1 (s1 (s1 S 3 (nn (S.1 0 1 0)) 0 r) 4 (nn (S.1 0 1 0)) 0 g) 5 (nn (S.1 0 1 0)) 0 0) 0 1 0 (S.1 0 1 0 + 1)).1 4 (nn (S.1 0 1 0)) 0), .int ((s1 (s1 (s1 (s1 S 3 (nn (S.1 0 1 0)) 0 r) 4 (nn (S.1 0 1 0)) 0 g) 5 (nn (S.1 0 1 0)) 0 0) 0 1 0 (S.1 0 1 0 + 1)).1 5 (nn (S.1 0 1 0)) 0)]))
    rw [f3, f4, f5]; rfl
theorem Inv.addL {S : St} {B : Nat} {r g : Int32} (I : Inv S B) (hR : nn (S.1 0 1 0) < 3) (hr : r = nI (nn r) ∧ nn r < nn (S.1 0 0 0)) (hg : Rg g 0 99999) : Inv (s1 (s1 (s1 (s1 S 3 (nn (S.1 0 1 0)) 0 r) 4 (nn (S.1 0 1 0)) 0 g) 5 (nn (S.1 0 1 0)) 0 0) 0 1 0 (S.1 0 1 0 + 1)) B := by
  have c := I.cnt.2.1
  obtain ⟨u1, u2⟩ := nn_s c.1 hR (by decide)
  refine ⟨⟨I.cnt.1, ⟨u1, Nat.zero_le _, by show nn (S.1 0 1 0 + 1) ≤ 3; omega⟩, I.cnt.2.2⟩, fun k hk => ?_, I.mou, I.blk, I.mac, I.ord, I.reg, I.all, I.hrs⟩
  have hk2 : k < nn (S.1 0 1 0 + 1) := hk
  by_cases q : k = nn (S.1 0 1 0)
  · subst q
    rw [show (s1 (s1 (s1 (s1 S 3 (nn (S.1 0 1 0)) 0 r) 4 (nn (S.1 0 1 0)) 0 g) 5 (nn (S.1 0 1 0)) 0 0) 0 1 0 (S.1 0 1 0 + 1)).1 3 (nn (S.1 0 1 0)) 0 = r from (show (s1 S 3 (nn (S.1 0 1 0)) 0 r).1 3 (nn (S.1 0 1 0)) 0 = r from s1_eq), show (s1 (s1 (s1 (s1 S 3 (nn (S.1 0 1 0)) 0 r) 4 (nn (S.1 0 1 0)) 0 g) 5 (nn (S.1 0 1 0)) 0 0) 0 1 0 (S.1 0 1 0 + 1)).1 4 (nn (S.1 0 1 0)) 0 = g from (show (s1 S 4 (nn (S.1 0 1 0)) 0 g).1 4 (nn (S.1 0 1 0)) 0 = g from s1_eq)]
    exact ⟨hr, hg⟩
  · rw [show (s1 (s1 (s1 (s1 S 3 (nn (S.1 0 1 0)) 0 r) 4 (nn (S.1 0 1 0)) 0 g) 5 (nn (S.1 0 1 0)) 0 0) 0 1 0 (S.1 0 1 0 + 1)).1 3 k 0 = S.1 3 k 0 from (show (s1 S 3 (nn (S.1 0 1 0)) 0 r).1 3 k 0 = S.1 3 k 0 from s1_ne (fun z => q z.2.1)), show (s1 (s1 (s1 (s1 S 3 (nn (S.1 0 1 0)) 0 r) 4 (nn (S.1 0 1 0)) 0 g) 5 (nn (S.1 0 1 0)) 0 0) 0 1 0 (S.1 0 1 0 + 1)).1 4 k 0 = S.1 4 k 0 from (show (s1 S 4 (nn (S.1 0 1 0)) 0 g).1 4 k 0 = S.1 4 k 0 from s1_ne (fun z => q z.2.1))]
    exact I.lot k (by omega)
theorem Cls.fresh {S : St} {gl : Nat → Nat} {G : Nat → Nat → Int32} {ad : Ad} {h h1 : AH} (K0 : Cls S gl G ad h) {a : Nat} (fa : h a = none) (u : ∀ z, z ≠ a → h1 z = h z) : Cls S gl G ad h1 :=
  ⟨fun k i j hv => by rw [u _ (fun q => by rw [← q, K0.1 _ _ _ hv] at fa; cases fa)]; exact K0.1 _ _ _ hv, K0.2⟩
set_option maxHeartbeats 4000000 in
set_option maxRecDepth 100000 in
theorem k_put (l : Launch) (D : va_G) (S : St) (gl : Nat → Nat) (G : Nat → Nat → Int32) (ad : Ad) (h : AH) (K0 : Cls S gl G ad h) (C : Cnt S) (a : Nat) (fs : List Value) (hl : h a = some (.inr (2, fs))) (hR : nn (S.1 0 1 0) < 3) : Ctr l D yX1_put cX1_put 2 none 0 0 0 0 [.ref (ad 5 0 0), .ref a] h (fun _ => False) (fun r9 h' => r9 = none ∧ h' (ad 6 0 0) = some (.inl (.object "MouldDesk$Lot", (3, .inr (.inr (.inr (.inr (fup (rfs (nn (S.1 0 1 0)) (fun i => ad 11 i 0)) (nn (S.1 0 1 0)) (some a)))))))) ∧ h' (ad 5 0 0) = some (.inr (1, [.ref (ad 6 0 0), .int (S.1 0 1 0 + 1)])) ∧ ∀ z, z ≠ ad 6 0 0 → z ≠ ad 5 0 0 → h' z = h z) := by
  refine Ctr.of RX1 rfl (by decide) (Nat.le_of_ble_eq_true rfl) ?_
  intro sz p e s m below meth c E hin hr ht
  refine j_aload_n E dX1_put_0 rfl ?_
  refine gf_X1_17 E K0.x5 rfl dX1_put_1 ?_
  refine j_if_lt (tgt := 39) E dX1_put_4 (by decide) (fun q => (C.2.1.lt0 (by decide) q).elim) (fun _ => ?_)
  refine j_aload_n E dX1_put_7 rfl ?_
  refine gf_X1_17 E K0.x5 rfl dX1_put_8 ?_
  refine j_aload_n E dX1_put_11 rfl ?_
  refine gf_X1_11 E K0.x5 rfl dX1_put_12 ?_
  refine j_alen (v := 3) E K0.x6 rfl dX1_put_15 ?_
  refine j_icmp_ge (tgt := 39) E dX1_put_16 (by decide) (fun q => (nge_of C.2.1.1 (by decide) (by show _ < nn (3 : Int32); rw [nn_3]; exact hR) (nn_lt _) q).elim) (fun _ => ?_)
  refine j_aload_n E dX1_put_19 rfl ?_
  refine gf_X1_11 E K0.x5 rfl dX1_put_20 ?_
  refine j_aload_n E dX1_put_23 rfl ?_
  refine gf_X1_17 E K0.x5 rfl dX1_put_24 ?_
  refine j_aload_n E dX1_put_27 rfl ?_
  refine s_aast E K0.x6 hl rfl (vin_of C.2.1.1 hR (Nat.le_refl 3) (by decide)) dX1_put_28 (fun h28 n28 u28 => ?_)
  have hne : ad 5 0 0 ≠ ad 6 0 0 := fun q => absurd (K0.2 _ _ _ _ _ _ (show live S 5 0 0 from ⟨rfl, rfl⟩) (show live S 6 0 0 from ⟨rfl, rfl⟩) q).1 (by decide)
  have x5 := (u28 _ hne).trans K0.x5
  refine j_aload_n E dX1_put_29 rfl ?_
  refine j_dup E dX1_put_30 rfl ?_
  refine gf_X1_17 E x5 rfl dX1_put_31 ?_
  refine j_iconst (v := 1) E dX1_put_34 ci_1 ?_
  refine j_iadd E dX1_put_35 ?_
  refine pf_X1_17 E x5 (Nat.le_of_ble_eq_true rfl) dX1_put_36 (fun h36 x5 u36 => ?_)
  exact j_vret E hr dX1_put_39 ⟨Nat.le_of_ble_eq_true rfl, Nat.le_of_ble_eq_true rfl⟩ ⟨rfl, (u36 _ (fun q => hne q.symm)).trans n28, x5, fun z z6 z5 => (u36 z z5).trans (u28 z z6)⟩
set_option maxHeartbeats 4000000 in
set_option maxRecDepth 100000 in
theorem k_fill (l : Launch) (D : va_G) (S : St) (gl : Nat → Nat) (G : Nat → Nat → Int32) (ad : Ad) (h : AH) (K0 : Cls S gl G ad h) (B : Nat) (I : Inv S B) (hI : IG S gl G) (r g : Int32) : Ctr l D yX7_fill cX7_fill 4 (some .int) 7 112 6 33 [.ref (ad 0 0 0), .int r, .int g] h (fun E9 => (E9 = "java/lang/IndexOutOfBoundsException" ∧ (p_fill S r g).1.1 0 8 0 = 1) ∨ (E9 = "java/lang/IllegalArgumentException" ∧ (p_fill S r g).1.1 0 8 0 = 2) ∨ (E9 = "java/lang/IllegalStateException" ∧ (p_fill S r g).1.1 0 8 0 = 3)) (fun r9 h' => r9 = some (.int (p_fill S r g).2) ∧ (p_fill S r g).1.1 0 8 0 = 0 ∧ Ok (p_fill S r g).1 B (ad 0 0 0) h') := by
  refine Ctr.of RX7 rfl (by decide) (Nat.le_of_ble_eq_true rfl) ?_
  intro sz p e s m below meth c E hin hr ht
  have C := I.cnt
  refine j_aload_n E dX7_fill_0 rfl ?_
  refine j_iload_n E dX7_fill_1 rfl ?_
  refine j_callVx E (k_resinOf l D S gl G ad h K0 C r) (cw_X7_58 E ⟨Nat.le_of_ble_eq_true rfl, Nat.le_of_ble_eq_true rfl, Nat.le_of_ble_eq_true rfl, Nat.le_of_ble_eq_true rfl, Nat.le_of_ble_eq_true rfl⟩) (q_265 E.tb) (q_1 E.tb) K0.x0 rfl rfl dX7_fill_2 rfl ht rfl (fun Ex q => Or.inl ⟨q.1, by unfold p_fill; rw [if_pos q.2]; rfl⟩) ⟨Nat.le_of_ble_eq_true rfl, Nat.le_of_ble_eq_true rfl⟩ (fun v2 h2 p2 => ?_)
  obtain ⟨rfl, rfl, hx⟩ := p2
  refine j_astore_n E dX7_fill_5 (by decide) ?_
  refine j_iload_n E dX7_fill_6 rfl ?_
  refine j_iconst (v := 1) E dX7_fill_7 ci_1 ?_
  refine j_ldci E (q_280 E.tb) dX7_fill_8 ?_
  refine j_callSx E (k_requireRange l D h g 1 99999) (cw_X7_40 E ⟨Nat.le_of_ble_eq_true rfl, Nat.le_of_ble_eq_true rfl, Nat.le_of_ble_eq_true rfl, Nat.le_of_ble_eq_true rfl, Nat.le_of_ble_eq_true rfl⟩) (q_129 E.tb) rfl dX7_fill_10 rfl ht rfl (fun Ex q => Or.inr (Or.inl ⟨q.1, by unfold p_fill; rw [if_neg (bt hx), if_pos q.2]; rfl⟩)) ⟨Nat.le_of_ble_eq_true rfl, Nat.le_of_ble_eq_true rfl⟩ (fun v10 h10 p10 => ?_)
  obtain ⟨rfl, rfl, hin⟩ := p10
  refine j_aload_n E dX7_fill_13 rfl ?_
  refine gf_X7_36 E K0.x0 rfl dX7_fill_14 ?_
  refine j_callV E (k_isFull l D S gl G ad h K0 C) (cw_X7_63 E ⟨Nat.le_of_ble_eq_true rfl, Nat.le_of_ble_eq_true rfl, Nat.le_of_ble_eq_true rfl, Nat.le_of_ble_eq_true rfl, Nat.le_of_ble_eq_true rfl⟩) (q_282 E.tb) (q_283 E.tb) K0.x5 rfl rfl dX7_fill_17 rfl (fun v17 h17 p17 => ?_)
  obtain ⟨rfl, rfl⟩ := p17
  refine j_if_eq (tgt := 33) E dX7_fill_20 (by decide) (fun c_20 => ?_) (fun c_20 => ?_)
  · have hn3 : ¬ S.1 0 1 0 = 3 := of_decide_eq_false (b2i_f c_20)
    have hR : nn (S.1 0 1 0) < 3 := rg_lt1 C.2.1 rfl hn3
    refine j_aload_n E dX7_fill_33 rfl ?_
    refine gf_X7_36 E K0.x0 rfl dX7_fill_34 ?_
    refine nw_X7_69 E ⟨Nat.le_of_ble_eq_true rfl, Nat.le_of_ble_eq_true rfl⟩ dX7_fill_37 (fun a37 h37 f37 n37 u37 => ?_)
    refine j_dup E dX7_fill_40 rfl ?_
    refine j_aload_n E dX7_fill_41 rfl ?_
    refine j_iload_n E dX7_fill_42 rfl ?_
    refine j_callI E (k_X2_init l D _ a37 (ad 10 (nn r) 0) g n37) (cw_X7_71 E ⟨Nat.le_of_ble_eq_true rfl, Nat.le_of_ble_eq_true rfl, Nat.le_of_ble_eq_true rfl, Nat.le_of_ble_eq_true rfl, Nat.le_of_ble_eq_true rfl⟩) (q_289 E.tb) rfl rfl dX7_fill_43 rfl (fun v43 h43 p43 => ?_)
    obtain ⟨rfl, g1, g2⟩ := p43
    have K1 := (K0.thr (t := 0)).fresh f37 (fun z hz => (g2 z hz).trans (u37 z hz))
    refine j_callV E (k_put l D (th S 0) gl G ad _ K1 C a37 _ g1 hR) (cw_X7_74 E ⟨Nat.le_of_ble_eq_true rfl, Nat.le_of_ble_eq_true rfl, Nat.le_of_ble_eq_true rfl, Nat.le_of_ble_eq_true rfl, Nat.le_of_ble_eq_true rfl⟩) (q_306 E.tb) (q_307 E.tb) K1.x5 rfl rfl dX7_fill_46 rfl (fun v46 h46 p46 => ?_)
    obtain ⟨rfl, m6, m5, mu⟩ := p46
    have ne5 := ne_fr K0.x5 f37
    have ne6 := ne_fr K0.x6 f37
    refine j_aload_n E dX7_fill_49 rfl ?_
    refine gf_X7_36 E ((mu _ (fun q => absurd (K0.2 _ _ _ _ _ _ (show live S 0 0 0 from ⟨rfl, rfl⟩) (show live S 6 0 0 from ⟨rfl, rfl⟩) q).1 (by decide)) (fun q => absurd (K0.2 _ _ _ _ _ _ (show live S 0 0 0 from ⟨rfl, rfl⟩) (show live S 5 0 0 from ⟨rfl, rfl⟩) q).1 (by decide))).trans K1.x0) rfl dX7_fill_50 ?_
    refine gf_X7_78 E m5 rfl dX7_fill_53 ?_
    have e9 : p_fill S r g = ((s1 (s1 (s1 (s1 (th S 0) 3 (nn (S.1 0 1 0)) 0 r) 4 (nn (S.1 0 1 0)) 0 g) 5 (nn (S.1 0 1 0)) 0 0) 0 1 0 (S.1 0 1 0 + 1)), S.1 0 1 0 + 1) := by unfold p_fill; rw [if_neg (bt hx), if_neg (bt hin), if_neg hn3]
    have K9 : Cls (s1 (s1 (s1 (s1 (th S 0) 3 (nn (S.1 0 1 0)) 0 r) 4 (nn (S.1 0 1 0)) 0 g) 5 (nn (S.1 0 1 0)) 0 0) 0 1 0 (S.1 0 1 0 + 1)) gl G (adN ad 11 (nn (S.1 0 1 0)) a37) h46 := (K0.thr (t := 0)).addL I.th hR f37 ((mu _ (fun q => ne6 q.symm) (fun q => ne5 q.symm)).trans g1) m6 m5 (fun z z1 z2 z3 => (mu z z2 z3).trans ((g2 z z1).trans (u37 z z1)))
    exact j_iret E hr dX7_fill_56 ⟨Nat.le_of_ble_eq_true rfl, Nat.le_of_ble_eq_true rfl⟩ ⟨by rw [e9]; rfl, by rw [e9]; rfl, by rw [e9]; exact ⟨gl, G, adN ad 11 (nn (S.1 0 1 0)) a37, rfl, K9, hI.of rfl (fun _ => rfl) (fun _ => rfl) (fun _ => rfl), I.th.addL hR (isRes_of C.1 hx) ((inB_rg hin (a := 1) (b := 99999) (by decide) (by decide)).wide (Nat.zero_le _) (Nat.le_refl _))⟩⟩
  · exact j_throw (cls := "java/lang/IllegalStateException") (text := "the dryer is full") (ik := 48) (is := 67) (ic := 52) E (by decide) (q_203 E.tb) (q_20 E.tb) xs_67 xa_IllegalStateException xg_IllegalStateException dX7_fill_23 dX7_fill_26 dX7_fill_27 dX7_fill_29 dX7_fill_32 ht ⟨Nat.le_of_ble_eq_true rfl, Nat.le_of_ble_eq_true rfl, Nat.le_of_ble_eq_true rfl, Nat.le_of_ble_eq_true rfl⟩ ⟨Nat.le_of_ble_eq_true rfl, Nat.le_of_ble_eq_true rfl⟩ (Or.inr (Or.inr ⟨rfl, by unfold p_fill; rw [if_neg (bt hx), if_neg (bt hin), if_pos (of_decide_eq_true (b2i_t c_20))]; rfl⟩))
set_option maxHeartbeats 4000000 in
set_option maxRecDepth 100000 in
theorem k_empty (l : Launch) (D : va_G) (S : St) (gl : Nat → Nat) (G : Nat → Nat → Int32) (ad : Ad) (h : AH) (K0 : Cls S gl G ad h) (B : Nat) (I : Inv S B) (hI : IG S gl G) (x : Int32) : Ctr l D yX7_empty cX7_empty 3 (some .int) 7 112 2 12 [.ref (ad 0 0 0), .int x] h (fun E9 => (E9 = "java/lang/IndexOutOfBoundsException" ∧ (p_empty S x).1.1 0 8 0 = 1)) (fun r9 h' => r9 = some (.int (p_empty S x).2) ∧ (p_empty S x).1.1 0 8 0 = 0 ∧ Ok (p_empty S x).1 B (ad 0 0 0) h') := by
  refine Ctr.of RX7 rfl (by decide) (Nat.le_of_ble_eq_true rfl) ?_
  intro sz p e s m below meth c E hin hr ht
  have C := I.cnt
  refine j_aload_n E dX7_empty_0 rfl ?_
  refine j_iload_n E dX7_empty_1 rfl ?_
  refine j_callVx E (k_lotOf l D S gl G ad h K0 C x) (cw_X7_81 E ⟨Nat.le_of_ble_eq_true rfl, Nat.le_of_ble_eq_true rfl, Nat.le_of_ble_eq_true rfl, Nat.le_of_ble_eq_true rfl, Nat.le_of_ble_eq_true rfl⟩) (q_318 E.tb) (q_2 E.tb) K0.x0 rfl rfl dX7_empty_2 rfl ht rfl (fun Ex q => ⟨q.1, by unfold p_empty; rw [if_pos q.2]; rfl⟩) ⟨Nat.le_of_ble_eq_true rfl, Nat.le_of_ble_eq_true rfl⟩ (fun v2 h2 p2 => ?_)
  obtain ⟨rfl, rfl, hx⟩ := p2
  refine gf_X7_85 E (K0.x11 (isLot_of C.2.1 hx).2) rfl dX7_empty_5 ?_
  refine j_istore_n E dX7_empty_8 (by decide) ?_
  refine j_aload_n E dX7_empty_9 rfl ?_
  refine gf_X7_36 E K0.x0 rfl dX7_empty_10 ?_
  refine j_iload_n E dX7_empty_13 rfl ?_
  refine j_callV E (k_takeOut l D (th S 0) gl G ad h (K0.thr (t := 0)) C x (isLot_of C.2.1 hx)) (cw_X7_88 E ⟨Nat.le_of_ble_eq_true rfl, Nat.le_of_ble_eq_true rfl, Nat.le_of_ble_eq_true rfl, Nat.le_of_ble_eq_true rfl, Nat.le_of_ble_eq_true rfl⟩) (q_326 E.tb) (q_327 E.tb) K0.x5 rfl rfl dX7_empty_14 rfl (fun v14 h14 p14 => ?_)
  obtain ⟨rfl, K2⟩ := p14
  refine j_iload_n E dX7_empty_17 rfl ?_
  have e9 : p_empty S x = (lev (th S 0) (nn x), S.1 4 (nn x) 0) := by unfold p_empty; rw [if_neg (bt hx)]
  exact j_iret E hr dX7_empty_18 ⟨Nat.le_of_ble_eq_true rfl, Nat.le_of_ble_eq_true rfl⟩ ⟨by rw [e9], by rw [e9]; exact lev_0 (by decide), by rw [e9]; exact ⟨gl, G, adL ad (nn x), adL_ne (by decide), K2, hI.of (lev_0 (by decide)) (fun _ => lev_c (by decide) (by decide) (by decide) (by decide)) (fun _ => lev_c (by decide) (by decide) (by decide) (by decide)) (fun k => by rw [lev_2]; rfl), lev_inv I.th (isLot_of C.2.1 hx).2⟩⟩
