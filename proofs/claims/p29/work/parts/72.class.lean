/-! the class: what is new; constructors -/
set_option maxHeartbeats 4000000 in
set_option maxRecDepth 100000 in
theorem k_X6_init (l : Launch) (D : va_G) (h : AH) (a : Nat) (x : Int32) (hRs : h a = some (.inr (6, [.int 0, .int 0]))) : Ctr l D yX6_init cX6_init 2 none 1 20 0 0 [.ref a, .int x] h (fun _ => False) (fun r9 h' => r9 = none ∧ h' a = some (.inr (6, [.int x, .int 0])) ∧ ∀ y, y ≠ a → h' y = h y) := by
  refine Ctr.of RX6 rfl (by decide) (Nat.le_of_ble_eq_true rfl) ?_
  intro sz p e s m below meth c E hin hr ht
  refine j_aload_n E dX6_init_0 rfl ?_
  refine j_objInit E (q_223 E.tb) (q_36 E.tb) (q_37 E.tb) dX6_init_1 ⟨Nat.le_of_ble_eq_true rfl, Nat.le_of_ble_eq_true rfl⟩ ?_
  refine j_aload_n E dX6_init_4 rfl ?_
  refine j_iload_n E dX6_init_5 rfl ?_
  refine pf_X6_7 E hRs (Nat.le_of_ble_eq_true rfl) hin dX6_init_6 (fun h6 hRs u6 => ?_)
  exact j_vret E hr dX6_init_9 ⟨Nat.le_of_ble_eq_true rfl, Nat.le_of_ble_eq_true rfl⟩ ⟨rfl, hRs, u6⟩
set_option maxHeartbeats 4000000 in
set_option maxRecDepth 100000 in
theorem k_X3_init (l : Launch) (D : va_G) (h : AH) (a : Nat) (x : Int32) (hMc : h a = some (.inr (3, [.int 0, .null, .null]))) : Ctr l D yX3_init cX3_init 2 none 1 20 0 0 [.ref a, .int x] h (fun _ => False) (fun r9 h' => r9 = none ∧ h' a = some (.inr (3, [.int x, .null, .null])) ∧ ∀ y, y ≠ a → h' y = h y) := by
  refine Ctr.of RX3 rfl (by decide) (Nat.le_of_ble_eq_true rfl) ?_
  intro sz p e s m below meth c E hin hr ht
  refine j_aload_n E dX3_init_0 rfl ?_
  refine j_objInit E (q_491 E.tb) (q_36 E.tb) (q_37 E.tb) dX3_init_1 ⟨Nat.le_of_ble_eq_true rfl, Nat.le_of_ble_eq_true rfl⟩ ?_
  refine j_aload_n E dX3_init_4 rfl ?_
  refine j_iload_n E dX3_init_5 rfl ?_
  refine pf_X3_7 E hMc (Nat.le_of_ble_eq_true rfl) hin dX3_init_6 (fun h6 hMc u6 => ?_)
  exact j_vret E hr dX3_init_9 ⟨Nat.le_of_ble_eq_true rfl, Nat.le_of_ble_eq_true rfl⟩ ⟨rfl, hMc, u6⟩
set_option maxHeartbeats 4000000 in
set_option maxRecDepth 100000 in
theorem k_X0_init (l : Launch) (D : va_G) (h : AH) (a : Nat) (hCv : h a = some (.inr (0, [.int 0, .int 0, .int 0]))) : Ctr l D yX0_init cX0_init 1 none 1 20 0 0 [.ref a] h (fun _ => False) (fun r9 h' => r9 = none ∧ h' a = some (.inr (0, [.int 0, .int 0, .int 9999])) ∧ ∀ y, y ≠ a → h' y = h y) := by
  refine Ctr.of RX0 rfl (by decide) (Nat.le_of_ble_eq_true rfl) ?_
  intro sz p e s m below meth c E hin hr ht
  refine j_aload_n E dX0_init_0 rfl ?_
  refine j_objInit E (q_377 E.tb) (q_36 E.tb) (q_37 E.tb) dX0_init_1 ⟨Nat.le_of_ble_eq_true rfl, Nat.le_of_ble_eq_true rfl⟩ ?_
  refine j_aload_n E dX0_init_4 rfl ?_
  refine j_sipush (v := 9999) E dX0_init_5 cs_9999 ?_
  refine pf_X0_9 E hCv (Nat.le_of_ble_eq_true rfl) dX0_init_8 (fun h8 hCv u8 => ?_)
  exact j_vret E hr dX0_init_11 ⟨Nat.le_of_ble_eq_true rfl, Nat.le_of_ble_eq_true rfl⟩ ⟨rfl, hCv, u8⟩
set_option maxHeartbeats 4000000 in
set_option maxRecDepth 100000 in
theorem k_X2_init (l : Launch) (D : va_G) (h : AH) (a r : Nat) (g : Int32) (hLt : h a = some (.inr (2, [.null, .int 0, .int 0]))) : Ctr l D yX2_init cX2_init 3 none 1 20 0 0 [.ref a, .ref r, .int g] h (fun _ => False) (fun r9 h' => r9 = none ∧ h' a = some (.inr (2, [.ref r, .int g, .int 0])) ∧ ∀ y, y ≠ a → h' y = h y) := by
  refine Ctr.of RX2 rfl (by decide) (Nat.le_of_ble_eq_true rfl) ?_
  intro sz p e s m below meth c E hin hr ht
  refine j_aload_n E dX2_init_0 rfl ?_
  refine j_objInit E (q_291 E.tb) (q_36 E.tb) (q_37 E.tb) dX2_init_1 ⟨Nat.le_of_ble_eq_true rfl, Nat.le_of_ble_eq_true rfl⟩ ?_
  refine j_aload_n E dX2_init_4 rfl ?_
  refine j_aload_n E dX2_init_5 rfl ?_
  refine pf_X2_7 E hLt (Nat.le_of_ble_eq_true rfl) hin dX2_init_6 (fun h6 hLt u6 => ?_)
  refine j_aload_n E dX2_init_9 rfl ?_
  refine j_iload_n E dX2_init_10 rfl ?_
  refine pf_X2_13 E hLt (Nat.le_of_ble_eq_true rfl) dX2_init_11 (fun h11 hLt u11 => ?_)
  exact j_vret E hr dX2_init_14 ⟨Nat.le_of_ble_eq_true rfl, Nat.le_of_ble_eq_true rfl⟩ ⟨rfl, hLt, fun y hy => (u11 y hy).trans (u6 y hy)⟩
theorem Cls.grow {S T : St} {gl gl' : Nat → Nat} {G G' : Nat → Nat → Int32} {ad ad' : Ad} {h h1 : AH} (K0 : Cls S gl G ad h) (Nw : Nat → Nat → Nat → Prop)
    (hs : ∀ t i j, live T t i j → Nw t i j ∨ (live S t i j ∧ ad' t i j = ad t i j ∧ h1 (ad t i j) = some (ccl T gl' G' ad' t i j)))
    (hn : ∀ t i j, Nw t i j → h (ad' t i j) = none ∧ h1 (ad' t i j) = some (ccl T gl' G' ad' t i j))
    (hi : ∀ t i j t' i' j', Nw t i j → Nw t' i' j' → ad' t i j = ad' t' i' j' → t = t' ∧ i = i' ∧ j = j') : Cls T gl' G' ad' h1 := by
  refine ⟨fun t i j hv => ?_, fun t i j t' i' j' hv hv' e => ?_⟩
  · rcases hs t i j hv with q | ⟨q1, q2, q3⟩
    · exact (hn t i j q).2
    · rw [q2]; exact q3
  · rcases hs t i j hv with q | ⟨q1, q2, q3⟩
    · rcases hs t' i' j' hv' with r | ⟨r1, r2, r3⟩
      · exact hi _ _ _ _ _ _ q r e
      · exfalso
        have z := (hn t i j q).1
        rw [e, r2, K0.1 _ _ _ r1] at z
        cases z
    · rcases hs t' i' j' hv' with r | ⟨r1, r2, r3⟩
      · exfalso
        have z := (hn t' i' j' r).1
        rw [← e, q2, K0.1 _ _ _ q1] at z
        cases z
      · rw [q2, r2] at e
        exact K0.2 _ _ _ _ _ _ q1 r1 e
def adN (ad : Ad) (t0 i0 a : Nat) : Ad := fun t i j => if t = t0 ∧ i = i0 then a else ad t i j
theorem adN_eq {ad : Ad} {t0 i0 a j : Nat} : adN ad t0 i0 a t0 i0 j = a := if_pos ⟨rfl, rfl⟩
theorem adN_ne {ad : Ad} {t0 i0 a t i j : Nat} (h : ¬ (t = t0 ∧ i = i0)) : adN ad t0 i0 a t i j = ad t i j := if_neg h
theorem rfs_up {n a t : Nat} {ad : Ad} : fup (rfs n (fun i => ad t i 0)) n (some a) = rfs (n + 1) (fun i => adN ad t n a t i 0) := by
  funext i
  unfold fup rfs adN
  by_cases q : i = n
  · subst q; rw [if_pos rfl, if_pos (by omega)]; show some a = some (if t = t ∧ i = i then a else ad t i 0); rw [if_pos ⟨rfl, rfl⟩]
  · rw [if_neg q]
    by_cases r : i < n
    · rw [if_pos r, if_pos (by omega)]; show some (ad t i 0) = some (if t = t ∧ i = n then a else ad t i 0); rw [if_neg (fun z => q z.2)]
    · rw [if_neg r, if_neg (by omega)]
theorem nn_up {x : Int32} {b : Nat} (h : Rg x 0 b) (hb : b < 2 ^ 31) (hx : nn x < b) : nn (x + 1) = nn x + 1 := (nn_s h.1 hx hb).2
theorem Cls.addR {S : St} {gl : Nat → Nat} {G : Nat → Nat → Int32} {ad : Ad} {h h1 : AH} (K0 : Cls S gl G ad h) {B a : Nat} {x : Int32} (I : Inv S B) (hR : (nn (S.1 0 0 0)) < 4) (fa : h a = none) (na : h1 a = some (.inr (6, [.int x, .int 0])))
    (n1 : h1 (ad 1 0 0) = some (.inl (.object "MouldDesk$Resin", (4, .inr (.inr (.inr (.inr (fup (rfs (nn (S.1 0 0 0)) (fun i => ad 10 i 0)) (nn (S.1 0 0 0)) (some a)))))))))
    (n0 : h1 (ad 0 0 0) = some (.inr (7, [.ref (ad 1 0 0), .int (S.1 0 0 0 + 1), .ref (ad 2 0 0), .int (S.1 0 2 0), .ref (ad 3 0 0), .int (S.1 0 3 0), .ref (ad 4 0 0), .int (S.1 0 4 0), .ref (ad 5 0 0), .int (S.1 0 5 0), .int (S.1 0 6 0), .int (S.1 0 7 0), .long (S.2 0 0), .long (S.2 1 0)]))) (u : ∀ z, z ≠ a → z ≠ ad 1 0 0 → z ≠ ad 0 0 0 → h1 z = h z) : Cls (s1 (s1 (S) 1 (nn (S.1 0 0 0)) 0 x) 0 0 0 (S.1 0 0 0 + 1)) gl G (adN ad 10 (nn (S.1 0 0 0)) a) h1 := by
  have C := I.cnt
  have up : nn (S.1 0 0 0 + 1) = (nn (S.1 0 0 0)) + 1 := nn_up C.1 (by decide) hR
  have e1 : ∀ i, i ≠ (nn (S.1 0 0 0)) → (s1 (s1 (S) 1 (nn (S.1 0 0 0)) 0 x) 0 0 0 (S.1 0 0 0 + 1)).1 1 i 0 = S.1 1 i 0 := fun i hi => by
    show (s1 S 1 (nn (S.1 0 0 0)) 0 x).1 1 i 0 = _
    exact s1_ne (fun q => hi q.2.1)
  have f1 : (s1 (s1 (S) 1 (nn (S.1 0 0 0)) 0 x) 0 0 0 (S.1 0 0 0 + 1)).1 1 (nn (S.1 0 0 0)) 0 = x := by
    show (s1 S 1 (nn (S.1 0 0 0)) 0 x).1 1 (nn (S.1 0 0 0)) 0 = _
    exact s1_eq
  refine K0.grow (fun t i j => t = 10 ∧ i = (nn (S.1 0 0 0)) ∧ j = 0) (fun t i j hv => ?_) (fun t i j hw => ?_) (fun t i j t' i' j' hw hw' _ => ⟨hw.1.trans hw'.1.symm, hw.2.1.trans hw'.2.1.symm, hw.2.2.trans hw'.2.2.symm⟩)
  · by_cases hnew : t = 10 ∧ i = (nn (S.1 0 0 0))
    · exact Or.inl ⟨hnew.1, hnew.2, live_0 hv (by rw [hnew.1]; decide)⟩
    · have hl : live S t i j := by
        by_cases ht : t = 10
        · subst ht
          have hv2 : i < nn (S.1 0 0 0 + 1) ∧ j = 0 := hv
          rw [up] at hv2
          exact ⟨by have q : ¬ i = (nn (S.1 0 0 0)) := fun q => hnew ⟨rfl, q⟩; omega, hv2.2⟩
        · unfold live at hv ⊢
          split at hv <;> first | exact hv | contradiction
      refine Or.inr ⟨hl, adN_ne hnew, ?_⟩
      by_cases h0 : t = 0
      · subst h0
        obtain ⟨rfl, rfl⟩ := (hl : i = 0 ∧ j = 0)
        exact n0
      · by_cases h1' : t = 1
        · subst h1'
          obtain ⟨rfl, rfl⟩ := (hl : i = 0 ∧ j = 0)
          rw [n1]
          show _ = (some (.inl (.object "MouldDesk$Resin", (4, .inr (.inr (.inr (.inr (rfs (nn (S.1 0 0 0 + 1)) (fun i => adN ad 10 (nn (S.1 0 0 0)) a 10 i 0)))))))) : Option AE)
          rw [up, rfs_up]
        · rw [u _ (fun q => by rw [← q, K0.1 _ _ _ hl] at fa; cases fa) (fun q => h1' (K0.2 _ _ _ _ _ _ hl (show live S 1 0 0 from ⟨rfl, rfl⟩) q).1) (fun q => h0 (K0.2 _ _ _ _ _ _ hl (show live S 0 0 0 from ⟨rfl, rfl⟩) q).1), K0.1 _ _ _ hl]
          have hm : ∀ y0, i ≠ (nn (S.1 0 0 0)) ∨ t ≠ 15 ∨ True → mnt (s1 (s1 (S) 1 (nn (S.1 0 0 0)) 0 x) 0 0 0 (S.1 0 0 0 + 1)) y0 = mnt S y0 := fun y0 _ => mnt_of rfl (fun _ => rfl)
          unfold ccl
          split <;> first | rfl | contradiction | (rw [hm _ (Or.inr (Or.inr True.intro))]; rfl) | (rw [e1 _ (fun q => hnew ⟨rfl, q⟩)]; rfl) | (rw [show adN ad 10 (nn (S.1 0 0 0)) a 10 (nn ((s1 (s1 S 1 (nn (S.1 0 0 0)) 0 x) 0 0 0 (S.1 0 0 0 + 1)).1 3 i 0)) 0 = ad 10 (nn (S.1 3 i 0)) 0 from adN_ne (fun q => Nat.ne_of_lt (I.lot _ hl.1).1.2 q.2)]; rfl) | (rw [show adN ad 10 (nn (S.1 0 0 0)) a 10 (nn ((s1 (s1 S 1 (nn (S.1 0 0 0)) 0 x) 0 0 0 (S.1 0 0 0 + 1)).1 18 i 0)) 0 = ad 10 (nn (S.1 18 i 0)) 0 from adN_ne (fun q => Nat.ne_of_lt (I.ord.1 _ hl.1).2.1.2 q.2)]; rfl)
  · obtain ⟨rfl, rfl, rfl⟩ := hw
    rw [adN_eq]
    refine ⟨fa, na.trans ?_⟩
    show _ = (some (ccl (s1 (s1 (S) 1 (nn (S.1 0 0 0)) 0 x) 0 0 0 (S.1 0 0 0 + 1)) gl G (adN ad 10 (nn (S.1 0 0 0)) a) 10 (nn (S.1 0 0 0)) 0) : Option AE)
    show (some (.inr (6, [.int x, .int 0])) : Option AE) = some (.inr (6, [.int ((s1 (s1 S 1 (nn (S.1 0 0 0)) 0 x) 0 0 0 (S.1 0 0 0 + 1)).1 1 (nn (S.1 0 0 0)) 0), .int ((s1 (s1 S 1 (nn (S.1 0 0 0)) 0 x) 0 0 0 (S.1 0 0 0 + 1)).1 2 (nn (S.1 0 0 0)) 0)]))
    rw [f1, show (s1 (s1 S 1 (nn (S.1 0 0 0)) 0 x) 0 0 0 (S.1 0 0 0 + 1)).1 2 (nn (S.1 0 0 0)) 0 = 0 from I.reg.2 _ (Nat.le_refl _)]
theorem mntN_lt {S T : St} {x : Int32} : ∀ n, (∀ k, k < n → T.1 15 k 0 = S.1 15 k 0) → mntN T x n = mntN S x n
  | 0, _ => rfl
  | n + 1, h => by show (mntN T x n || decide (T.1 15 n 0 = x)) = _; rw [mntN_lt n (fun k hk => h k (by omega)), h n (by omega)]; rfl
theorem Cls.addM {S : St} {gl : Nat → Nat} {G : Nat → Nat → Int32} {ad : Ad} {h h1 : AH} (K0 : Cls S gl G ad h) {B a : Nat} {x : Int32} (I : Inv S B) (hR : (nn (S.1 0 3 0)) < 3) (fa : h a = none) (na : h1 a = some (.inr (3, [.int x, .null, .null])))
    (n1 : h1 (ad 3 0 0) = some (.inl (.object "MouldDesk$Machine", (3, .inr (.inr (.inr (.inr (fup (rfs (nn (S.1 0 3 0)) (fun i => ad 15 i 0)) (nn (S.1 0 3 0)) (some a)))))))))
    (n0 : h1 (ad 0 0 0) = some (.inr (7, [.ref (ad 1 0 0), .int (S.1 0 0 0), .ref (ad 2 0 0), .int (S.1 0 2 0), .ref (ad 3 0 0), .int (S.1 0 3 0 + 1), .ref (ad 4 0 0), .int (S.1 0 4 0), .ref (ad 5 0 0), .int (S.1 0 5 0), .int (S.1 0 6 0), .int (S.1 0 7 0), .long (S.2 0 0), .long (S.2 1 0)]))) (u : ∀ z, z ≠ a → z ≠ ad 3 0 0 → z ≠ ad 0 0 0 → h1 z = h z) : Cls (s1 (s1 (s1 (s1 (S) 14 (nn (S.1 0 3 0)) 0 x) 15 (nn (S.1 0 3 0)) 0 (-1)) 16 (nn (S.1 0 3 0)) 0 (-1)) 0 3 0 (S.1 0 3 0 + 1)) gl G (adN ad 15 (nn (S.1 0 3 0)) a) h1 := by
  have C := I.cnt
  have up : nn (S.1 0 3 0 + 1) = (nn (S.1 0 3 0)) + 1 := nn_up C.2.2.2.1 (by decide) hR
  have e14 : ∀ i, i ≠ (nn (S.1 0 3 0)) → (s1 (s1 (s1 (s1 (S) 14 (nn (S.1 0 3 0)) 0 x) 15 (nn (S.1 0 3 0)) 0 (-1)) 16 (nn (S.1 0 3 0)) 0 (-1)) 0 3 0 (S.1 0 3 0 + 1)).1 14 i 0 = S.1 14 i 0 := fun i hi => by
    show (s1 S 14 (nn (S.1 0 3 0)) 0 x).1 14 i 0 = _
    exact s1_ne (fun q => hi q.2.1)
  have e15 : ∀ i, i ≠ (nn (S.1 0 3 0)) → (s1 (s1 (s1 (s1 (S) 14 (nn (S.1 0 3 0)) 0 x) 15 (nn (S.1 0 3 0)) 0 (-1)) 16 (nn (S.1 0 3 0)) 0 (-1)) 0 3 0 (S.1 0 3 0 + 1)).1 15 i 0 = S.1 15 i 0 := fun i hi => by
    show (s1 S 15 (nn (S.1 0 3 0)) 0 (-1)).1 15 i 0 = _
    exact s1_ne (fun q => hi q.2.1)
  have e16 : ∀ i, i ≠ (nn (S.1 0 3 0)) → (s1 (s1 (s1 (s1 (S) 14 (nn (S.1 0 3 0)) 0 x) 15 (nn (S.1 0 3 0)) 0 (-1)) 16 (nn (S.1 0 3 0)) 0 (-1)) 0 3 0 (S.1 0 3 0 + 1)).1 16 i 0 = S.1 16 i 0 := fun i hi => by
    show (s1 S 16 (nn (S.1 0 3 0)) 0 (-1)).1 16 i 0 = _
    exact s1_ne (fun q => hi q.2.1)
  have f14 : (s1 (s1 (s1 (s1 (S) 14 (nn (S.1 0 3 0)) 0 x) 15 (nn (S.1 0 3 0)) 0 (-1)) 16 (nn (S.1 0 3 0)) 0 (-1)) 0 3 0 (S.1 0 3 0 + 1)).1 14 (nn (S.1 0 3 0)) 0 = x := by
    show (s1 S 14 (nn (S.1 0 3 0)) 0 x).1 14 (nn (S.1 0 3 0)) 0 = _
    exact s1_eq
  have f15 : (s1 (s1 (s1 (s1 (S) 14 (nn (S.1 0 3 0)) 0 x) 15 (nn (S.1 0 3 0)) 0 (-1)) 16 (nn (S.1 0 3 0)) 0 (-1)) 0 3 0 (S.1 0 3 0 + 1)).1 15 (nn (S.1 0 3 0)) 0 = (-1) := by
    show (s1 S 15 (nn (S.1 0 3 0)) 0 (-1)).1 15 (nn (S.1 0 3 0)) 0 = _
    exact s1_eq
  have f16 : (s1 (s1 (s1 (s1 (S) 14 (nn (S.1 0 3 0)) 0 x) 15 (nn (S.1 0 3 0)) 0 (-1)) 16 (nn (S.1 0 3 0)) 0 (-1)) 0 3 0 (S.1 0 3 0 + 1)).1 16 (nn (S.1 0 3 0)) 0 = (-1) := by
    show (s1 S 16 (nn (S.1 0 3 0)) 0 (-1)).1 16 (nn (S.1 0 3 0)) 0 = _
    exact s1_eq
  refine K0.grow (fun t i j => t = 15 ∧ i = (nn (S.1 0 3 0)) ∧ j = 0) (fun t i j hv => ?_) (fun t i j hw => ?_) (fun t i j t' i' j' hw hw' _ => ⟨hw.1.trans hw'.1.symm, hw.2.1.trans hw'.2.1.symm, hw.2.2.trans hw'.2.2.symm⟩)
  · by_cases hnew : t = 15 ∧ i = (nn (S.1 0 3 0))
    · exact Or.inl ⟨hnew.1, hnew.2, live_0 hv (by rw [hnew.1]; decide)⟩
    · have hl : live S t i j := by
        by_cases ht : t = 15
        · subst ht
          have hv2 : i < nn (S.1 0 3 0 + 1) ∧ j = 0 := hv
          rw [up] at hv2
          exact ⟨by have q : ¬ i = (nn (S.1 0 3 0)) := fun q => hnew ⟨rfl, q⟩; omega, hv2.2⟩
        · unfold live at hv ⊢
          split at hv <;> first | exact hv | contradiction
      refine Or.inr ⟨hl, adN_ne hnew, ?_⟩
      by_cases h0 : t = 0
      · subst h0
        obtain ⟨rfl, rfl⟩ := (hl : i = 0 ∧ j = 0)
        exact n0
      · by_cases h1' : t = 3
        · subst h1'
          obtain ⟨rfl, rfl⟩ := (hl : i = 0 ∧ j = 0)
          rw [n1]
          show _ = (some (.inl (.object "MouldDesk$Machine", (3, .inr (.inr (.inr (.inr (rfs (nn (S.1 0 3 0 + 1)) (fun i => adN ad 15 (nn (S.1 0 3 0)) a 15 i 0)))))))) : Option AE)
          rw [up, rfs_up]
        · rw [u _ (fun q => by rw [← q, K0.1 _ _ _ hl] at fa; cases fa) (fun q => h1' (K0.2 _ _ _ _ _ _ hl (show live S 3 0 0 from ⟨rfl, rfl⟩) q).1) (fun q => h0 (K0.2 _ _ _ _ _ _ hl (show live S 0 0 0 from ⟨rfl, rfl⟩) q).1), K0.1 _ _ _ hl]
          have hm : ∀ y0, y0 ≠ -1 → mnt (s1 (s1 (s1 (s1 (S) 14 (nn (S.1 0 3 0)) 0 x) 15 (nn (S.1 0 3 0)) 0 (-1)) 16 (nn (S.1 0 3 0)) 0 (-1)) 0 3 0 (S.1 0 3 0 + 1)) y0 = mnt S y0 := fun y hy => by
            unfold mnt
            rw [show (s1 (s1 (s1 (s1 S 14 (nn (S.1 0 3 0)) 0 x) 15 (nn (S.1 0 3 0)) 0 (-1)) 16 (nn (S.1 0 3 0)) 0 (-1)) 0 3 0 (S.1 0 3 0 + 1)).1 0 3 0 = S.1 0 3 0 + 1 from rfl, up]
            show (mntN (s1 (s1 (s1 (s1 S 14 (nn (S.1 0 3 0)) 0 x) 15 (nn (S.1 0 3 0)) 0 (-1)) 16 (nn (S.1 0 3 0)) 0 (-1)) 0 3 0 (S.1 0 3 0 + 1)) y (nn (S.1 0 3 0)) || decide ((s1 (s1 (s1 (s1 S 14 (nn (S.1 0 3 0)) 0 x) 15 (nn (S.1 0 3 0)) 0 (-1)) 16 (nn (S.1 0 3 0)) 0 (-1)) 0 3 0 (S.1 0 3 0 + 1)).1 15 (nn (S.1 0 3 0)) 0 = y)) = _
            rw [f15, decide_eq_false (fun q => hy q.symm), Bool.or_false]
            exact mntN_lt _ (fun k hk => e15 k (Nat.ne_of_lt hk))
          unfold ccl
          split <;> first | rfl | contradiction | (rw [hm _ (nI_m1 (by rw [show nn (nI i) = i from nI_clamp (Nat.lt_trans hl.1 (nn_lt _))]))]; rfl) | (rw [e14 _ (fun q => hnew ⟨rfl, q⟩), e15 _ (fun q => hnew ⟨rfl, q⟩), e16 _ (fun q => hnew ⟨rfl, q⟩)]; rfl)
  · obtain ⟨rfl, rfl, rfl⟩ := hw
    rw [adN_eq]
    refine ⟨fa, na.trans ?_⟩
    show _ = (some (ccl (s1 (s1 (s1 (s1 (S) 14 (nn (S.1 0 3 0)) 0 x) 15 (nn (S.1 0 3 0)) 0 (-1)) 16 (nn (S.1 0 3 0)) 0 (-1)) 0 3 0 (S.1 0 3 0 + 1)) gl G (adN ad 15 (nn (S.1 0 3 0)) a) 15 (nn (S.1 0 3 0)) 0) : Option AE)
    show (some (.inr (3, [.int x, .null, .null])) : Option AE) = some (.inr (3, [.int ((s1 (s1 (s1 (s1 S 14 (nn (S.1 0 3 0)) 0 x) 15 (nn (S.1 0 3 0)) 0 (-1)) 16 (nn (S.1 0 3 0)) 0 (-1)) 0 3 0 (S.1 0 3 0 + 1)).1 14 (nn (S.1 0 3 0)) 0), mref ((s1 (s1 (s1 (s1 S 14 (nn (S.1 0 3 0)) 0 x) 15 (nn (S.1 0 3 0)) 0 (-1)) 16 (nn (S.1 0 3 0)) 0 (-1)) 0 3 0 (S.1 0 3 0 + 1)).1 15 (nn (S.1 0 3 0)) 0) _, mref ((s1 (s1 (s1 (s1 S 14 (nn (S.1 0 3 0)) 0 x) 15 (nn (S.1 0 3 0)) 0 (-1)) 16 (nn (S.1 0 3 0)) 0 (-1)) 0 3 0 (S.1 0 3 0 + 1)).1 16 (nn (S.1 0 3 0)) 0) _]))
    rw [f14, f15, f16]; rfl
