/-! the class: orders are added -/
theorem mx_pos {g : Int32} (h : g = nI (nn g)) : mx g 0 = g := by rw [mx_c, mx0, ← h]
set_option maxHeartbeats 4000000 in
set_option maxRecDepth 100000 in
theorem k_X5_init (l : Launch) (D : va_G) (h : AH) (a mo r : Nat) (g w : Int32) (hg : Rg g 1 5000) (hOr : h a = some (.inr (5, [.null, .null, .int 0, .null, .int 0, .int 0, .long 0, .int 0]))) : Ctr l D yX5_init cX5_init 5 none 1 21 1 5000 [.ref a, .ref mo, .ref r, .int g, .int w] h (fun _ => False) (fun r9 h' => r9 = none ∧ ∃ q, h q = none ∧ q ≠ a ∧ h' a = some (.inr (5, [.ref mo, .ref r, .int w, .ref q, .int g, .int 0, .long 0, .int 0])) ∧ h' q = some (.inl (.int, (nn g, .inl (fun _ => 0)))) ∧ ∀ z, z ≠ a → z ≠ q → h' z = h z) := by
  refine Ctr.of RX5 rfl (by decide) (Nat.le_of_ble_eq_true rfl) ?_
  intro sz p e s m below meth c E hin hr ht
  have hg5 := hg.2.2
  refine j_aload_n E dX5_init_0 rfl ?_
  refine j_objInit E (q_564 E.tb) (q_36 E.tb) (q_37 E.tb) dX5_init_1 ⟨Nat.le_of_ble_eq_true rfl, Nat.le_of_ble_eq_true rfl⟩ ?_
  refine j_aload_n E dX5_init_4 rfl ?_
  refine j_aload_n E dX5_init_5 rfl ?_
  refine pf_X5_9 E hOr (Nat.le_of_ble_eq_true rfl) hin dX5_init_6 (fun h6 hOr u6 => ?_)
  refine j_aload_n E dX5_init_9 rfl ?_
  refine j_aload_n E dX5_init_10 rfl ?_
  refine pf_X5_15 E hOr (Nat.le_of_ble_eq_true rfl) hin dX5_init_11 (fun h11 hOr u11 => ?_)
  refine j_aload_n E dX5_init_14 rfl ?_
  refine j_iload E dX5_init_15 rfl ?_
  refine pf_X5_19 E hOr (Nat.le_of_ble_eq_true rfl) hin dX5_init_17 (fun h17 hOr u17 => ?_)
  refine j_aload_n E dX5_init_20 rfl ?_
  refine j_iload_n E dX5_init_21 rfl ?_
  refine pf_X5_23 E hOr (Nat.le_of_ble_eq_true rfl) dX5_init_22 (fun h22 hOr u22 => ?_)
  refine j_aload_n E dX5_init_25 rfl ?_
  refine j_iload_n E dX5_init_26 rfl ?_
  refine j_iconst (v := 0) E dX5_init_27 ci_0 ?_
  refine j_mmax E (q_565 E.tb) (q_338 E.tb) (q_12 E.tb) (q_339 E.tb) ⟨Nat.le_of_ble_eq_true rfl, Nat.le_of_ble_eq_true rfl, Nat.le_of_ble_eq_true rfl, Nat.le_of_ble_eq_true rfl⟩ dX5_init_28 ?_
  refine J.stk (congrArg (fun z => [Value.int z, .ref a]) (mx_pos hg.1)) ?_
  refine na_int E (hg.wide (Nat.zero_le _) (Nat.le_refl _) |>.lt0 (by decide)) rfl (by show nn g * 4 ≤ _; omega) ⟨Nat.le_of_ble_eq_true rfl, by show 0 + nn g ≤ 5000; omega⟩ dX5_init_31 (fun a31 h31 f31 n31 u31 => ?_)
  have hOr0 := hOr
  have hOr := (u31 _ (ne_fr hOr f31)).trans hOr
  refine pf_X5_32 E hOr (Nat.le_of_ble_eq_true rfl) hin dX5_init_33 (fun h33 hOr u33 => ?_)
  have fq : h a31 = none := by
    by_cases e : a31 = a
    · rw [e] at f31; rw [f31] at hOr0; cases hOr0
    · rw [← u6 _ e, ← u11 _ e, ← u17 _ e, ← u22 _ e]; exact f31
  exact j_vret E hr dX5_init_36 ⟨Nat.le_of_ble_eq_true rfl, by show 0 + nn g ≤ 5000; omega⟩ ⟨rfl, a31, fq, (fun e => by rw [e] at f31; rw [f31] at hOr0; cases hOr0), hOr, (u33 _ (fun e => by rw [e] at f31; rw [f31] at hOr0; cases hOr0)).trans n31, fun z z1 z2 => (u33 z z1).trans ((u31 z z2).trans ((u22 z z1).trans ((u17 z z1).trans ((u11 z z1).trans (u6 z z1)))))⟩
theorem Cls.addO {S : St} {gl : Nat → Nat} {G : Nat → Nat → Int32} {ad : Ad} {h h1 : AH} (K0 : Cls S gl G ad h) {B a q : Nat} {mo r g w : Int32} (I : Inv S B) (hR : (nn (S.1 0 4 0)) < 8) (fa : h a = none) (fq : h q = none) (hne : a ≠ q)
    (na : h1 a = some (.inr (5, [.ref (ad 12 (nn mo) 0), .ref (ad 10 (nn r) 0), .int w, .ref q, .int g, .int 0, .long 0, .int 0]))) (nq : h1 q = some (.inl (.int, (nn g, .inl (fun _ => 0)))))
    (n1 : h1 (ad 4 0 0) = some (.inl (.object "MouldDesk$Order", (8, .inr (.inr (.inr (.inr (fup (rfs (nn (S.1 0 4 0)) (fun i => ad 16 i 0)) (nn (S.1 0 4 0)) (some a)))))))))
    (n0 : h1 (ad 0 0 0) = some (.inr (7, [.ref (ad 1 0 0), .int (S.1 0 0 0), .ref (ad 2 0 0), .int (S.1 0 2 0), .ref (ad 3 0 0), .int (S.1 0 3 0), .ref (ad 4 0 0), .int (S.1 0 4 0 + 1), .ref (ad 5 0 0), .int (S.1 0 5 0), .int (S.1 0 6 0), .int (S.1 0 7 0), .long (S.2 0 0), .long (S.2 1 0)]))) (u : ∀ z, z ≠ a → z ≠ q → z ≠ ad 4 0 0 → z ≠ ad 0 0 0 → h1 z = h z) : Cls (s1 (s1 (s1 (s1 (s1 S 17 (nn (S.1 0 4 0)) 0 mo) 18 (nn (S.1 0 4 0)) 0 r) 19 (nn (S.1 0 4 0)) 0 g) 20 (nn (S.1 0 4 0)) 0 w) 0 4 0 (S.1 0 4 0 + 1)) (fun i => if i = (nn (S.1 0 4 0)) then nn g else gl i) (fun i => if i = (nn (S.1 0 4 0)) then (fun _ => 0) else G i) (adN (adN ad 16 (nn (S.1 0 4 0)) a) 17 (nn (S.1 0 4 0)) q) h1 := by
  have C := I.cnt
  have up : nn (S.1 0 4 0 + 1) = (nn (S.1 0 4 0)) + 1 := nn_up C.2.2.2.2 (by decide) hR
  have e17 : ∀ i, i ≠ (nn (S.1 0 4 0)) → (s1 (s1 (s1 (s1 (s1 S 17 (nn (S.1 0 4 0)) 0 mo) 18 (nn (S.1 0 4 0)) 0 r) 19 (nn (S.1 0 4 0)) 0 g) 20 (nn (S.1 0 4 0)) 0 w) 0 4 0 (S.1 0 4 0 + 1)).1 17 i 0 = S.1 17 i 0 := fun i hi => (show (s1 S 17 (nn (S.1 0 4 0)) 0 mo).1 17 i 0 = S.1 17 i 0 from s1_ne (fun z => hi z.2.1))
  have f17 : (s1 (s1 (s1 (s1 (s1 S 17 (nn (S.1 0 4 0)) 0 mo) 18 (nn (S.1 0 4 0)) 0 r) 19 (nn (S.1 0 4 0)) 0 g) 20 (nn (S.1 0 4 0)) 0 w) 0 4 0 (S.1 0 4 0 + 1)).1 17 (nn (S.1 0 4 0)) 0 = mo := (show (s1 S 17 (nn (S.1 0 4 0)) 0 mo).1 17 (nn (S.1 0 4 0)) 0 = mo from s1_eq)
  have e18 : ∀ i, i ≠ (nn (S.1 0 4 0)) → (s1 (s1 (s1 (s1 (s1 S 17 (nn (S.1 0 4 0)) 0 mo) 18 (nn (S.1 0 4 0)) 0 r) 19 (nn (S.1 0 4 0)) 0 g) 20 (nn (S.1 0 4 0)) 0 w) 0 4 0 (S.1 0 4 0 + 1)).1 18 i 0 = S.1 18 i 0 := fun i hi => (show (s1 S 18 (nn (S.1 0 4 0)) 0 r).1 18 i 0 = S.1 18 i 0 from s1_ne (fun z => hi z.2.1))
  have f18 : (s1 (s1 (s1 (s1 (s1 S 17 (nn (S.1 0 4 0)) 0 mo) 18 (nn (S.1 0 4 0)) 0 r) 19 (nn (S.1 0 4 0)) 0 g) 20 (nn (S.1 0 4 0)) 0 w) 0 4 0 (S.1 0 4 0 + 1)).1 18 (nn (S.1 0 4 0)) 0 = r := (show (s1 S 18 (nn (S.1 0 4 0)) 0 r).1 18 (nn (S.1 0 4 0)) 0 = r from s1_eq)
  have e19 : ∀ i, i ≠ (nn (S.1 0 4 0)) → (s1 (s1 (s1 (s1 (s1 S 17 (nn (S.1 0 4 0)) 0 mo) 18 (nn (S.1 0 4 0)) 0 r) 19 (nn (S.1 0 4 0)) 0 g) 20 (nn (S.1 0 4 0)) 0 w) 0 4 0 (S.1 0 4 0 + 1)).1 19 i 0 = S.1 19 i 0 := fun i hi => (show (s1 S 19 (nn (S.1 0 4 0)) 0 g).1 19 i 0 = S.1 19 i 0 from s1_ne (fun z => hi z.2.1))
  have f19 : (s1 (s1 (s1 (s1 (s1 S 17 (nn (S.1 0 4 0)) 0 mo) 18 (nn (S.1 0 4 0)) 0 r) 19 (nn (S.1 0 4 0)) 0 g) 20 (nn (S.1 0 4 0)) 0 w) 0 4 0 (S.1 0 4 0 + 1)).1 19 (nn (S.1 0 4 0)) 0 = g := (show (s1 S 19 (nn (S.1 0 4 0)) 0 g).1 19 (nn (S.1 0 4 0)) 0 = g from s1_eq)
  have e20 : ∀ i, i ≠ (nn (S.1 0 4 0)) → (s1 (s1 (s1 (s1 (s1 S 17 (nn (S.1 0 4 0)) 0 mo) 18 (nn (S.1 0 4 0)) 0 r) 19 (nn (S.1 0 4 0)) 0 g) 20 (nn (S.1 0 4 0)) 0 w) 0 4 0 (S.1 0 4 0 + 1)).1 20 i 0 = S.1 20 i 0 := fun i hi => (show (s1 S 20 (nn (S.1 0 4 0)) 0 w).1 20 i 0 = S.1 20 i 0 from s1_ne (fun z => hi z.2.1))
  have f20 : (s1 (s1 (s1 (s1 (s1 S 17 (nn (S.1 0 4 0)) 0 mo) 18 (nn (S.1 0 4 0)) 0 r) 19 (nn (S.1 0 4 0)) 0 g) 20 (nn (S.1 0 4 0)) 0 w) 0 4 0 (S.1 0 4 0 + 1)).1 20 (nn (S.1 0 4 0)) 0 = w := (show (s1 S 20 (nn (S.1 0 4 0)) 0 w).1 20 (nn (S.1 0 4 0)) 0 = w from s1_eq)
  refine K0.grow (fun t i j => (t = 16 ∨ t = 17) ∧ i = (nn (S.1 0 4 0)) ∧ j = 0) (fun t i j hv => ?_) (fun t i j hw => ?_) (fun t i j t' i' j' hw hw' e => ⟨?_, hw.2.1.trans hw'.2.1.symm, hw.2.2.trans hw'.2.2.symm⟩)
  · by_cases hnew : (t = 16 ∨ t = 17) ∧ i = (nn (S.1 0 4 0))
    · exact Or.inl ⟨hnew.1, hnew.2, live_0 hv (by rcases hnew.1 with z | z <;> rw [z] <;> decide)⟩
    · have hl : live S t i j := by
        by_cases ht : t = 16 ∨ t = 17
        · have hv2 : i < nn (S.1 0 4 0 + 1) ∧ j = 0 := by rcases ht with rfl | rfl <;> exact hv
          rw [up] at hv2
          have z : ¬ i = (nn (S.1 0 4 0)) := fun z => hnew ⟨ht, z⟩
          have z2 : i < (nn (S.1 0 4 0)) ∧ j = 0 := ⟨by omega, hv2.2⟩
          rcases ht with rfl | rfl <;> exact z2
        · unfold live at hv ⊢
          split at hv <;> first | exact hv | contradiction | (exact absurd (Or.inl rfl) ht) | (exact absurd (Or.inr rfl) ht)
      have hA : ∀ t i j, ¬ ((t = 16 ∨ t = 17) ∧ i = (nn (S.1 0 4 0))) → (adN (adN ad 16 (nn (S.1 0 4 0)) a) 17 (nn (S.1 0 4 0)) q) t i j = ad t i j := fun t i j z => (adN_ne (fun y => z ⟨Or.inr y.1, y.2⟩)).trans (adN_ne (fun y => z ⟨Or.inl y.1, y.2⟩))
      refine Or.inr ⟨hl, hA _ _ _ hnew, ?_⟩
      by_cases h0 : t = 0
      · subst h0
        obtain ⟨rfl, rfl⟩ := (hl : i = 0 ∧ j = 0)
        exact n0
      · by_cases h1' : t = 4
        · subst h1'
          obtain ⟨rfl, rfl⟩ := (hl : i = 0 ∧ j = 0)
          rw [n1]
          show _ = (some (.inl (.object "MouldDesk$Order", (8, .inr (.inr (.inr (.inr (rfs (nn (S.1 0 4 0 + 1)) (fun i => adN ad 16 (nn (S.1 0 4 0)) a 16 i 0)))))))) : Option AE)
          rw [up, rfs_up]
        · rw [u _ (fun z => by rw [← z, K0.1 _ _ _ hl] at fa; cases fa) (fun z => by rw [← z, K0.1 _ _ _ hl] at fq; cases fq) (fun z => h1' (K0.2 _ _ _ _ _ _ hl (show live S 4 0 0 from ⟨rfl, rfl⟩) z).1) (fun z => h0 (K0.2 _ _ _ _ _ _ hl (show live S 0 0 0 from ⟨rfl, rfl⟩) z).1), K0.1 _ _ _ hl]
          have hm : ∀ y0, mnt (s1 (s1 (s1 (s1 (s1 S 17 (nn (S.1 0 4 0)) 0 mo) 18 (nn (S.1 0 4 0)) 0 r) 19 (nn (S.1 0 4 0)) 0 g) 20 (nn (S.1 0 4 0)) 0 w) 0 4 0 (S.1 0 4 0 + 1)) y0 = mnt S y0 := fun y0 => mnt_of rfl (fun _ => rfl)
          by_cases h15 : t = 15
          · subst h15
            have e9 : mref (S.1 16 i 0) (fun x => (adN (adN ad 16 (nn (S.1 0 4 0)) a) 17 (nn (S.1 0 4 0)) q) 16 x 0) = mref (S.1 16 i 0) (fun x => ad 16 x 0) := by
              unfold mref
              by_cases z : S.1 16 i 0 = -1
              · rw [if_pos z, if_pos z]
              · rw [if_neg z, if_neg z]
                exact congrArg Value.ref (hA _ _ _ (fun y => by have y2 := ((I.mac.1 i hl.1).2.resolve_left z).2.1; have y3 := y.2; omega))
            show some (Sum.inr (3, [_, _, mref (S.1 16 i 0) (fun x => ad 16 x 0)])) = some (Sum.inr (3, [_, _, mref (S.1 16 i 0) (fun x => (adN (adN ad 16 (nn (S.1 0 4 0)) a) 17 (nn (S.1 0 4 0)) q) 16 x 0)]))
            rw [e9]
            rfl
          · by_cases h16 : t = 16
            · subst h16
              have hi : i ≠ (nn (S.1 0 4 0)) := fun z => hnew ⟨Or.inl rfl, z⟩
              show some (ccl S gl G ad 16 i j) = some (Sum.inr (5, [.ref ((adN (adN ad 16 (nn (S.1 0 4 0)) a) 17 (nn (S.1 0 4 0)) q) 12 (nn ((s1 (s1 (s1 (s1 (s1 S 17 (nn (S.1 0 4 0)) 0 mo) 18 (nn (S.1 0 4 0)) 0 r) 19 (nn (S.1 0 4 0)) 0 g) 20 (nn (S.1 0 4 0)) 0 w) 0 4 0 (S.1 0 4 0 + 1)).1 17 i 0)) 0), .ref ((adN (adN ad 16 (nn (S.1 0 4 0)) a) 17 (nn (S.1 0 4 0)) q) 10 (nn ((s1 (s1 (s1 (s1 (s1 S 17 (nn (S.1 0 4 0)) 0 mo) 18 (nn (S.1 0 4 0)) 0 r) 19 (nn (S.1 0 4 0)) 0 g) 20 (nn (S.1 0 4 0)) 0 w) 0 4 0 (S.1 0 4 0 + 1)).1 18 i 0)) 0), .int ((s1 (s1 (s1 (s1 (s1 S 17 (nn (S.1 0 4 0)) 0 mo) 18 (nn (S.1 0 4 0)) 0 r) 19 (nn (S.1 0 4 0)) 0 g) 20 (nn (S.1 0 4 0)) 0 w) 0 4 0 (S.1 0 4 0 + 1)).1 20 i 0), .ref ((adN (adN ad 16 (nn (S.1 0 4 0)) a) 17 (nn (S.1 0 4 0)) q) 17 i 0), .int ((s1 (s1 (s1 (s1 (s1 S 17 (nn (S.1 0 4 0)) 0 mo) 18 (nn (S.1 0 4 0)) 0 r) 19 (nn (S.1 0 4 0)) 0 g) 20 (nn (S.1 0 4 0)) 0 w) 0 4 0 (S.1 0 4 0 + 1)).1 19 i 0), _, _, _]))
              rw [e17 i hi, e18 i hi, e19 i hi, e20 i hi, hA 17 i 0 (fun z => hi z.2)]
              rfl
            · by_cases h17 : t = 17
              · subst h17
                have hi : i ≠ (nn (S.1 0 4 0)) := fun z => hnew ⟨Or.inr rfl, z⟩
                show some (Sum.inl (FieldType.int, (gl i, Sum.inl (G i)))) = some (Sum.inl (FieldType.int, ((fun i => if i = (nn (S.1 0 4 0)) then nn g else gl i) i, Sum.inl ((fun i => if i = (nn (S.1 0 4 0)) then (fun _ => 0) else G i) i))))
                show some (Sum.inl (FieldType.int, (gl i, Sum.inl (G i)))) = some (Sum.inl (FieldType.int, ((if i = (nn (S.1 0 4 0)) then nn g else gl i), Sum.inl (if i = (nn (S.1 0 4 0)) then (fun _ => 0) else G i))))
                rw [if_neg hi, if_neg hi]
              · unfold live at hl
                unfold ccl
                split <;> first | rfl | contradiction | (rw [hm]; rfl) | (split at hl <;> first | contradiction | exact hl.elim)
  · obtain ⟨ht, rfl, rfl⟩ := hw
    rcases ht with rfl | rfl
    · rw [show (adN (adN ad 16 (nn (S.1 0 4 0)) a) 17 (nn (S.1 0 4 0)) q) 16 (nn (S.1 0 4 0)) 0 = a from (adN_ne (fun z => absurd z.1 (by decide))).trans adN_eq]
      refine ⟨fa, na.trans ?_⟩
      show _ = (some (Sum.inr (5, [.ref ((adN (adN ad 16 (nn (S.1 0 4 0)) a) 17 (nn (S.1 0 4 0)) q) 12 (nn ((s1 (s1 (s1 (s1 (s1 S 17 (nn (S.1 0 4 0)) 0 mo) 18 (nn (S.1 0 4 0)) 0 r) 19 (nn (S.1 0 4 0)) 0 g) 20 (nn (S.1 0 4 0)) 0 w) 0 4 0 (S.1 0 4 0 + 1)).1 17 (nn (S.1 0 4 0)) 0)) 0), .ref ((adN (adN ad 16 (nn (S.1 0 4 0)) a) 17 (nn (S.1 0 4 0)) q) 10 (nn ((s1 (s1 (s1 (s1 (s1 S 17 (nn (S.1 0 4 0)) 0 mo) 18 (nn (S.1 0 4 0)) 0 r) 19 (nn (S.1 0 4 0)) 0 g) 20 (nn (S.1 0 4 0)) 0 w) 0 4 0 (S.1 0 4 0 + 1)).1 18 (nn (S.1 0 4 0)) 0)) 0), .int ((s1 (s1 (s1 (s1 (s1 S 17 (nn (S.1 0 4 0)) 0 mo) 18 (nn (S.1 0 4 0)) 0 r) 19 (nn (S.1 0 4 0)) 0 g) 20 (nn (S.1 0 4 0)) 0 w) 0 4 0 (S.1 0 4 0 + 1)).1 20 (nn (S.1 0 4 0)) 0), .ref ((adN (adN ad 16 (nn (S.1 0 4 0)) a) 17 (nn (S.1 0 4 0)) q) 17 (nn (S.1 0 4 0)) 0), .int ((s1 (s1 (s1 (s1 (s1 S 17 (nn (S.1 0 4 0)) 0 mo) 18 (nn (S.1 0 4 0)) 0 r) 19 (nn (S.1 0 4 0)) 0 g) 20 (nn (S.1 0 4 0)) 0 w) 0 4 0 (S.1 0 4 0 + 1)).1 19 (nn (S.1 0 4 0)) 0), .int (S.1 21 (nn (S.1 0 4 0)) 0), .long (S.2 2 (nn (S.1 0 4 0))), .int (S.1 22 (nn (S.1 0 4 0)) 0)])) : Option AE)
      obtain ⟨z1, z2, z3⟩ := I.ord.2 (nn (S.1 0 4 0)) (Nat.le_refl _)
      rw [f17, f18, f19, f20, z1, z2, z3, show (adN (adN ad 16 (nn (S.1 0 4 0)) a) 17 (nn (S.1 0 4 0)) q) 17 (nn (S.1 0 4 0)) 0 = q from adN_eq]
      rfl
    · rw [show (adN (adN ad 16 (nn (S.1 0 4 0)) a) 17 (nn (S.1 0 4 0)) q) 17 (nn (S.1 0 4 0)) 0 = q from adN_eq]
      refine ⟨fq, nq.trans ?_⟩
      show _ = (some (Sum.inl (FieldType.int, ((if (nn (S.1 0 4 0)) = (nn (S.1 0 4 0)) then nn g else gl (nn (S.1 0 4 0))), Sum.inl (if (nn (S.1 0 4 0)) = (nn (S.1 0 4 0)) then (fun _ => 0) else G (nn (S.1 0 4 0)))))) : Option AE)
      rw [if_pos rfl, if_pos rfl]
  · obtain ⟨ht, rfl, rfl⟩ := hw
    obtain ⟨ht', rfl, rfl⟩ := hw'
    have ea : (adN (adN ad 16 (nn (S.1 0 4 0)) a) 17 (nn (S.1 0 4 0)) q) 16 (nn (S.1 0 4 0)) 0 = a := (adN_ne (fun z => absurd z.1 (by decide))).trans adN_eq
    have eq' : (adN (adN ad 16 (nn (S.1 0 4 0)) a) 17 (nn (S.1 0 4 0)) q) 17 (nn (S.1 0 4 0)) 0 = q := adN_eq
    rcases ht with rfl | rfl <;> rcases ht' with rfl | rfl
    · rfl
    · rw [ea, eq'] at e; exact absurd e hne
    · rw [ea, eq'] at e; exact absurd e.symm hne
    · rfl
theorem Inv.addO {S : St} {B : Nat} {mo r g w : Int32} (I : Inv S B) (hR : (nn (S.1 0 4 0)) < 8) (hmo : mo = nI (nn mo) ∧ nn mo < nn (S.1 0 2 0)) (hr : r = nI (nn r) ∧ nn r < nn (S.1 0 0 0)) (hg : Rg g 0 5000) (hw : Rg w 0 50) : Inv (s1 (s1 (s1 (s1 (s1 S 17 (nn (S.1 0 4 0)) 0 mo) 18 (nn (S.1 0 4 0)) 0 r) 19 (nn (S.1 0 4 0)) 0 g) 20 (nn (S.1 0 4 0)) 0 w) 0 4 0 (S.1 0 4 0 + 1)) B := by
  have c := I.cnt.2.2.2.2
  obtain ⟨u1, u2⟩ := nn_s c.1 hR (by decide)
  have e17 : ∀ i, i ≠ (nn (S.1 0 4 0)) → (s1 (s1 (s1 (s1 (s1 S 17 (nn (S.1 0 4 0)) 0 mo) 18 (nn (S.1 0 4 0)) 0 r) 19 (nn (S.1 0 4 0)) 0 g) 20 (nn (S.1 0 4 0)) 0 w) 0 4 0 (S.1 0 4 0 + 1)).1 17 i 0 = S.1 17 i 0 := fun i hi => (show (s1 S 17 (nn (S.1 0 4 0)) 0 mo).1 17 i 0 = S.1 17 i 0 from s1_ne (fun z => hi z.2.1))
  have f17 : (s1 (s1 (s1 (s1 (s1 S 17 (nn (S.1 0 4 0)) 0 mo) 18 (nn (S.1 0 4 0)) 0 r) 19 (nn (S.1 0 4 0)) 0 g) 20 (nn (S.1 0 4 0)) 0 w) 0 4 0 (S.1 0 4 0 + 1)).1 17 (nn (S.1 0 4 0)) 0 = mo := (show (s1 S 17 (nn (S.1 0 4 0)) 0 mo).1 17 (nn (S.1 0 4 0)) 0 = mo from s1_eq)
  have e18 : ∀ i, i ≠ (nn (S.1 0 4 0)) → (s1 (s1 (s1 (s1 (s1 S 17 (nn (S.1 0 4 0)) 0 mo) 18 (nn (S.1 0 4 0)) 0 r) 19 (nn (S.1 0 4 0)) 0 g) 20 (nn (S.1 0 4 0)) 0 w) 0 4 0 (S.1 0 4 0 + 1)).1 18 i 0 = S.1 18 i 0 := fun i hi => (show (s1 S 18 (nn (S.1 0 4 0)) 0 r).1 18 i 0 = S.1 18 i 0 from s1_ne (fun z => hi z.2.1))
  have f18 : (s1 (s1 (s1 (s1 (s1 S 17 (nn (S.1 0 4 0)) 0 mo) 18 (nn (S.1 0 4 0)) 0 r) 19 (nn (S.1 0 4 0)) 0 g) 20 (nn (S.1 0 4 0)) 0 w) 0 4 0 (S.1 0 4 0 + 1)).1 18 (nn (S.1 0 4 0)) 0 = r := (show (s1 S 18 (nn (S.1 0 4 0)) 0 r).1 18 (nn (S.1 0 4 0)) 0 = r from s1_eq)
  have e19 : ∀ i, i ≠ (nn (S.1 0 4 0)) → (s1 (s1 (s1 (s1 (s1 S 17 (nn (S.1 0 4 0)) 0 mo) 18 (nn (S.1 0 4 0)) 0 r) 19 (nn (S.1 0 4 0)) 0 g) 20 (nn (S.1 0 4 0)) 0 w) 0 4 0 (S.1 0 4 0 + 1)).1 19 i 0 = S.1 19 i 0 := fun i hi => (show (s1 S 19 (nn (S.1 0 4 0)) 0 g).1 19 i 0 = S.1 19 i 0 from s1_ne (fun z => hi z.2.1))
  have f19 : (s1 (s1 (s1 (s1 (s1 S 17 (nn (S.1 0 4 0)) 0 mo) 18 (nn (S.1 0 4 0)) 0 r) 19 (nn (S.1 0 4 0)) 0 g) 20 (nn (S.1 0 4 0)) 0 w) 0 4 0 (S.1 0 4 0 + 1)).1 19 (nn (S.1 0 4 0)) 0 = g := (show (s1 S 19 (nn (S.1 0 4 0)) 0 g).1 19 (nn (S.1 0 4 0)) 0 = g from s1_eq)
  have e20 : ∀ i, i ≠ (nn (S.1 0 4 0)) → (s1 (s1 (s1 (s1 (s1 S 17 (nn (S.1 0 4 0)) 0 mo) 18 (nn (S.1 0 4 0)) 0 r) 19 (nn (S.1 0 4 0)) 0 g) 20 (nn (S.1 0 4 0)) 0 w) 0 4 0 (S.1 0 4 0 + 1)).1 20 i 0 = S.1 20 i 0 := fun i hi => (show (s1 S 20 (nn (S.1 0 4 0)) 0 w).1 20 i 0 = S.1 20 i 0 from s1_ne (fun z => hi z.2.1))
  have f20 : (s1 (s1 (s1 (s1 (s1 S 17 (nn (S.1 0 4 0)) 0 mo) 18 (nn (S.1 0 4 0)) 0 r) 19 (nn (S.1 0 4 0)) 0 g) 20 (nn (S.1 0 4 0)) 0 w) 0 4 0 (S.1 0 4 0 + 1)).1 20 (nn (S.1 0 4 0)) 0 = w := (show (s1 S 20 (nn (S.1 0 4 0)) 0 w).1 20 (nn (S.1 0 4 0)) 0 = w from s1_eq)
  refine ⟨⟨I.cnt.1, I.cnt.2.1, I.cnt.2.2.1, I.cnt.2.2.2.1, ⟨u1, Nat.zero_le _, by show nn (S.1 0 4 0 + 1) ≤ 8; omega⟩⟩, I.lot, I.mou, I.blk, ⟨fun k hk => ⟨(I.mac.1 k hk).1, ?_⟩, I.mac.2⟩, ⟨fun k hk => ?_, fun k hk => ?_⟩, I.reg, I.all, I.hrs⟩
  · rcases (I.mac.1 k hk).2 with z | z
    · exact Or.inl z
    · refine Or.inr ⟨z.1, ?_, ?_⟩
      · show nn (S.1 16 k 0) < nn (S.1 0 4 0 + 1)
        have := z.2.1
        omega
      · show S.1 15 k 0 = (s1 (s1 (s1 (s1 (s1 S 17 (nn (S.1 0 4 0)) 0 mo) 18 (nn (S.1 0 4 0)) 0 r) 19 (nn (S.1 0 4 0)) 0 g) 20 (nn (S.1 0 4 0)) 0 w) 0 4 0 (S.1 0 4 0 + 1)).1 17 (nn (S.1 16 k 0)) 0
        rw [e17 _ (by have := z.2.1; omega)]
        exact z.2.2
  · have hk2 : k < nn (S.1 0 4 0 + 1) := hk
    by_cases q : k = (nn (S.1 0 4 0))
    · subst q
      rw [f17, f18, f19, f20]
      exact ⟨hmo, hr, hg, hw⟩
    · rw [e17 k q, e18 k q, e19 k q, e20 k q]
      exact I.ord.1 k (by omega)
  · have hk2 : nn (S.1 0 4 0 + 1) ≤ k := hk
    exact I.ord.2 k (by omega)
theorem IG.addO {S : St} {B : Nat} {gl : Nat → Nat} {G : Nat → Nat → Int32} {mo r g w : Int32} (H : IG S gl G) (I : Inv S B) (hR : (nn (S.1 0 4 0)) < 8) (hg : Rg g 0 5000) : IG (s1 (s1 (s1 (s1 (s1 S 17 (nn (S.1 0 4 0)) 0 mo) 18 (nn (S.1 0 4 0)) 0 r) 19 (nn (S.1 0 4 0)) 0 g) 20 (nn (S.1 0 4 0)) 0 w) 0 4 0 (S.1 0 4 0 + 1)) (fun i => if i = (nn (S.1 0 4 0)) then nn g else gl i) (fun i => if i = (nn (S.1 0 4 0)) then (fun _ => 0) else G i) := by
  have c := I.cnt.2.2.2.2
  obtain ⟨u1, u2⟩ := nn_s c.1 hR (by decide)
  have e19 : ∀ i, i ≠ (nn (S.1 0 4 0)) → (s1 (s1 (s1 (s1 (s1 S 17 (nn (S.1 0 4 0)) 0 mo) 18 (nn (S.1 0 4 0)) 0 r) 19 (nn (S.1 0 4 0)) 0 g) 20 (nn (S.1 0 4 0)) 0 w) 0 4 0 (S.1 0 4 0 + 1)).1 19 i 0 = S.1 19 i 0 := fun i hi => (show (s1 S 19 (nn (S.1 0 4 0)) 0 g).1 19 i 0 = S.1 19 i 0 from s1_ne (fun z => hi z.2.1))
  have f19 : (s1 (s1 (s1 (s1 (s1 S 17 (nn (S.1 0 4 0)) 0 mo) 18 (nn (S.1 0 4 0)) 0 r) 19 (nn (S.1 0 4 0)) 0 g) 20 (nn (S.1 0 4 0)) 0 w) 0 4 0 (S.1 0 4 0 + 1)).1 19 (nn (S.1 0 4 0)) 0 = g := (show (s1 S 19 (nn (S.1 0 4 0)) 0 g).1 19 (nn (S.1 0 4 0)) 0 = g from s1_eq)
  intro i hi
  have hi2 : i < nn (S.1 0 4 0 + 1) := hi
  by_cases q : i = (nn (S.1 0 4 0))
  · subst q
    obtain ⟨z1, z2, z3⟩ := I.ord.2 (nn (S.1 0 4 0)) (Nat.le_refl _)
    rw [f19]
    show (if (nn (S.1 0 4 0)) = (nn (S.1 0 4 0)) then nn g else gl (nn (S.1 0 4 0))) ≤ 5000 ∧ S.1 21 (nn (S.1 0 4 0)) 0 = nI (nn (S.1 21 (nn (S.1 0 4 0)) 0)) ∧ nn g + nn (S.1 21 (nn (S.1 0 4 0)) 0) ≤ (if (nn (S.1 0 4 0)) = (nn (S.1 0 4 0)) then nn g else gl (nn (S.1 0 4 0))) ∧ S.2 2 (nn (S.1 0 4 0)) = sumG (if (nn (S.1 0 4 0)) = (nn (S.1 0 4 0)) then (fun _ => 0) else G (nn (S.1 0 4 0))) (nn (S.1 21 (nn (S.1 0 4 0)) 0))
    rw [if_pos rfl, if_pos rfl, z1, z3, nn_0]
    exact ⟨hg.2.2, e_0, Nat.le_refl _, rfl⟩
  · rw [e19 i q]
    show (if i = (nn (S.1 0 4 0)) then nn g else gl i) ≤ 5000 ∧ S.1 21 i 0 = nI (nn (S.1 21 i 0)) ∧ nn (S.1 19 i 0) + nn (S.1 21 i 0) ≤ (if i = (nn (S.1 0 4 0)) then nn g else gl i) ∧ S.2 2 i = sumG (if i = (nn (S.1 0 4 0)) then (fun _ => 0) else G i) (nn (S.1 21 i 0))
    rw [if_neg q, if_neg q]
    exact H i (by omega)
set_option maxHeartbeats 4000000 in
set_option maxRecDepth 100000 in
theorem k_order (l : Launch) (D : va_G) (S : St) (gl : Nat → Nat) (G : Nat → Nat → Int32) (ad : Ad) (h : AH) (K0 : Cls S gl G ad h) (B : Nat) (I : Inv S B) (hI : IG S gl G) (mo r g w : Int32) : Ctr l D yX7_order cX7_order 8 (some .int) 7 112 11 5062 [.ref (ad 0 0 0), .int mo, .int r, .int g, .int w] h (fun E9 => (E9 = "java/lang/IndexOutOfBoundsException" ∧ (p_order S mo r g w).1.1 0 8 0 = 1) ∨ (E9 = "java/lang/IllegalArgumentException" ∧ (p_order S mo r g w).1.1 0 8 0 = 2) ∨ (E9 = "java/lang/IllegalStateException" ∧ (p_order S mo r g w).1.1 0 8 0 = 3)) (fun r9 h' => r9 = some (.int (p_order S mo r g w).2) ∧ (p_order S mo r g w).1.1 0 8 0 = 0 ∧ Ok (p_order S mo r g w).1 B (ad 0 0 0) h') := by
  refine Ctr.of RX7 rfl (by decide) (Nat.le_of_ble_eq_true rfl) ?_
  intro sz p e s m below meth c E hin hr ht
  have C := I.cnt
  refine j_aload_n E dX7_order_0 rfl ?_
  refine j_iload_n E dX7_order_1 rfl ?_
  refine j_callVx E (k_mouldOf l D S gl G ad h K0 C mo) (cw_X7_110 E ⟨Nat.le_of_ble_eq_true rfl, Nat.le_of_ble_eq_true rfl, Nat.le_of_ble_eq_true rfl, Nat.le_of_ble_eq_true rfl, Nat.le_of_ble_eq_true rfl⟩) (q_429 E.tb) (q_3 E.tb) K0.x0 rfl rfl dX7_order_2 rfl ht rfl (fun Ex q => Or.inl ⟨q.1, by unfold p_order; rw [if_pos q.2]; rfl⟩) ⟨Nat.le_of_ble_eq_true rfl, Nat.le_of_ble_eq_true rfl⟩ (fun v2 h2 p2 => ?_)
  obtain ⟨rfl, rfl, hm⟩ := p2
  refine j_astore E dX7_order_5 (by decide) ?_
  refine j_aload_n E dX7_order_7 rfl ?_
  refine j_iload_n E dX7_order_8 rfl ?_
  refine j_callVx E (k_resinOf l D S gl G ad h K0 C r) (cw_X7_58 E ⟨Nat.le_of_ble_eq_true rfl, Nat.le_of_ble_eq_true rfl, Nat.le_of_ble_eq_true rfl, Nat.le_of_ble_eq_true rfl, Nat.le_of_ble_eq_true rfl⟩) (q_265 E.tb) (q_1 E.tb) K0.x0 rfl rfl dX7_order_9 rfl ht rfl (fun Ex q => Or.inl ⟨q.1, by unfold p_order; rw [if_neg (bt hm), if_pos q.2]; rfl⟩) ⟨Nat.le_of_ble_eq_true rfl, Nat.le_of_ble_eq_true rfl⟩ (fun v9 h9 p9 => ?_)
  obtain ⟨rfl, rfl, hx⟩ := p9
  refine j_astore E dX7_order_12 (by decide) ?_
  refine j_iload_n E dX7_order_14 rfl ?_
  refine j_iconst (v := 1) E dX7_order_15 ci_1 ?_
  refine j_sipush (v := 5000) E dX7_order_16 cs_5000 ?_
  refine j_callSx E (k_requireRange l D h g 1 5000) (cw_X7_40 E ⟨Nat.le_of_ble_eq_true rfl, Nat.le_of_ble_eq_true rfl, Nat.le_of_ble_eq_true rfl, Nat.le_of_ble_eq_true rfl, Nat.le_of_ble_eq_true rfl⟩) (q_129 E.tb) rfl dX7_order_19 rfl ht rfl (fun Ex q => Or.inr (Or.inl ⟨q.1, by unfold p_order; rw [if_neg (bt hm), if_neg (bt hx), if_pos q.2]; rfl⟩)) ⟨Nat.le_of_ble_eq_true rfl, Nat.le_of_ble_eq_true rfl⟩ (fun v19 h19 p19 => ?_)
  obtain ⟨rfl, rfl, hg⟩ := p19
  refine j_iload E dX7_order_22 rfl ?_
  refine j_iconst (v := 0) E dX7_order_24 ci_0 ?_
  refine j_bipush (v := 50) E dX7_order_25 cb_50 ?_
  refine j_callSx E (k_requireRange l D h w 0 50) (cw_X7_40 E ⟨Nat.le_of_ble_eq_true rfl, Nat.le_of_ble_eq_true rfl, Nat.le_of_ble_eq_true rfl, Nat.le_of_ble_eq_true rfl, Nat.le_of_ble_eq_true rfl⟩) (q_129 E.tb) rfl dX7_order_27 rfl ht rfl (fun Ex q => Or.inr (Or.inl ⟨q.1, by unfold p_order; rw [if_neg (bt hm), if_neg (bt hx), if_neg (bt hg), if_pos q.2]; rfl⟩)) ⟨Nat.le_of_ble_eq_true rfl, Nat.le_of_ble_eq_true rfl⟩ (fun v27 h27 p27 => ?_)
  obtain ⟨rfl, rfl, hw⟩ := p27
  refine j_aload_n E dX7_order_30 rfl ?_
  refine gf_X7_205 E K0.x0 rfl dX7_order_31 ?_
  refine j_istore E dX7_order_34 (by decide) ?_
  refine j_iload E dX7_order_36 rfl ?_
  refine j_if_lt (tgt := 51) E dX7_order_38 (by decide) (fun q => (C.2.2.2.2.lt0 (by decide) q).elim) (fun _ => ?_)
  refine j_iload E dX7_order_41 rfl ?_
  refine j_aload_n E dX7_order_43 rfl ?_
  refine gf_X7_29 E K0.x0 rfl dX7_order_44 ?_
  refine j_alen (v := 8) E K0.x4 rfl dX7_order_47 ?_
  refine j_icmp_lt (tgt := 61) E dX7_order_48 (by decide) (fun c_48 => ?_) (fun c_48 => ?_)
  · have hR : nn (S.1 0 4 0) < 8 := lt_cnt C.2.2.2.2 (by decide) rfl c_48
    have K0 := K0.thr (t := 0)
    refine j_aload_n E dX7_order_61 rfl ?_
    refine gf_X7_29 E K0.x0 rfl dX7_order_62 ?_
    refine j_iload E dX7_order_65 rfl ?_
    refine nw_X7_27 E ⟨Nat.le_of_ble_eq_true rfl, Nat.le_of_ble_eq_true rfl⟩ dX7_order_67 (fun a67 h67 f67 n67 u67 => ?_)
    refine j_dup E dX7_order_70 rfl ?_
    refine j_aload E dX7_order_71 rfl ?_
    refine j_aload E dX7_order_73 rfl ?_
    refine j_iload_n E dX7_order_75 rfl ?_
    refine j_iload E dX7_order_76 rfl ?_
    refine j_callI E (k_X5_init l D _ a67 (ad 12 (nn mo) 0) (ad 10 (nn r) 0) g w (inB_rg hg (by decide) (by decide)) n67) (cw_X7_210 E ⟨Nat.le_of_ble_eq_true rfl, Nat.le_of_ble_eq_true rfl, Nat.le_of_ble_eq_true rfl, Nat.le_of_ble_eq_true rfl, Nat.le_of_ble_eq_true rfl⟩) (q_562 E.tb) rfl rfl dX7_order_78 rfl (fun v78 h78 p78 => ?_)
    obtain ⟨rfl, q9, f1, f2, g1, g3, g2⟩ := p78
    have fq : h q9 = none := (u67 _ f2).symm.trans f1
    have ne1 := ne_fr K0.x4 f67
    have ne0 := ne_fr K0.x0 f67
    have nq1 := ne_fr K0.x4 fq
    have nq0 := ne_fr K0.x0 fq
    have ne01 : ad 0 0 0 ≠ ad 4 0 0 := fun z => absurd (K0.2 _ _ _ _ _ _ (show live (th S 0) 0 0 0 from ⟨rfl, rfl⟩) (show live (th S 0) 4 0 0 from ⟨rfl, rfl⟩) z).1 (by decide)
    refine s_aast E ((g2 _ ne1 nq1).trans ((u67 _ ne1).trans K0.x4)) g1 rfl (vin_of C.2.2.2.2.1 hR (Nat.le_refl _) (by decide)) dX7_order_81 (fun h81 n81 u81 => ?_)
    refine j_aload_n E dX7_order_82 rfl ?_
    refine j_iload E dX7_order_83 rfl ?_
    refine j_iconst (v := 1) E dX7_order_85 ci_1 ?_
    refine j_iadd E dX7_order_86 ?_
    refine pf_X7_205 E ((u81 _ ne01).trans ((g2 _ ne0 nq0).trans ((u67 _ ne0).trans K0.x0))) (Nat.le_of_ble_eq_true rfl) dX7_order_87 (fun h87 hDk u87 => ?_)
    refine j_iload E dX7_order_90 rfl ?_
    have e9 : p_order S mo r g w = ((s1 (s1 (s1 (s1 (s1 (th S 0) 17 (nn (S.1 0 4 0)) 0 mo) 18 (nn (S.1 0 4 0)) 0 r) 19 (nn (S.1 0 4 0)) 0 g) 20 (nn (S.1 0 4 0)) 0 w) 0 4 0 (S.1 0 4 0 + 1)), S.1 0 4 0 + 1 - 1) := by unfold p_order; rw [if_neg (bt hm), if_neg (bt hx), if_neg (bt hg), if_neg (bt hw), if_neg (fun z => absurd (show nn (S.1 0 4 0) = 8 by rw [z]; decide) (by omega))]
    have K9 : Cls (s1 (s1 (s1 (s1 (s1 (th S 0) 17 (nn (S.1 0 4 0)) 0 mo) 18 (nn (S.1 0 4 0)) 0 r) 19 (nn (S.1 0 4 0)) 0 g) 20 (nn (S.1 0 4 0)) 0 w) 0 4 0 (S.1 0 4 0 + 1)) (fun i => if i = (nn (S.1 0 4 0)) then nn g else gl i) (fun i => if i = (nn (S.1 0 4 0)) then (fun _ => 0) else G i) (adN (adN ad 16 (nn (S.1 0 4 0)) a67) 17 (nn (S.1 0 4 0)) q9) h87 := K0.addO I.th hR f67 fq (fun z => f2 z.symm) ((u87 _ (fun z => ne0 z.symm)).trans ((u81 _ (fun z => ne1 z.symm)).trans g1)) ((u87 _ (fun z => nq0 z.symm)).trans ((u81 _ (fun z => nq1 z.symm)).trans g3)) ((u87 _ (fun z => ne01 z.symm)).trans n81) hDk (fun z z1 z2 z3 z4 => (u87 z z4).trans ((u81 z z3).trans ((g2 z z1 z2).trans (u67 z z1))))
    have rgg : Rg g 0 5000 := (inB_rg hg (a := 1) (b := 5000) (by decide) (by decide)).wide (Nat.zero_le _) (Nat.le_refl _)
    exact j_iret E hr dX7_order_92 ⟨Nat.le_of_ble_eq_true rfl, Nat.le_of_ble_eq_true rfl⟩ ⟨by rw [e9, Int32.add_sub_cancel], by rw [e9]; rfl, by rw [e9]; exact ⟨(fun i => if i = (nn (S.1 0 4 0)) then nn g else gl i), (fun i => if i = (nn (S.1 0 4 0)) then (fun _ => 0) else G i), (adN (adN ad 16 (nn (S.1 0 4 0)) a67) 17 (nn (S.1 0 4 0)) q9), rfl, K9, hI.thr.addO I.th hR rgg, I.th.addO hR (isMou_of C.2.2.1 hm) (isRes_of C.1 hx) rgg (inB_rg hw (by decide) (by decide))⟩⟩
  · exact j_throw (cls := "java/lang/IllegalStateException") (text := "no more orders") (ik := 48) (is := 208) (ic := 52) E (by decide) (q_203 E.tb) (q_20 E.tb) xs_208 xa_IllegalStateException xg_IllegalStateException dX7_order_51 dX7_order_54 dX7_order_55 dX7_order_57 dX7_order_60 ht ⟨Nat.le_of_ble_eq_true rfl, Nat.le_of_ble_eq_true rfl, Nat.le_of_ble_eq_true rfl, Nat.le_of_ble_eq_true rfl⟩ ⟨Nat.le_of_ble_eq_true rfl, Nat.le_of_ble_eq_true rfl⟩ (Or.inr (Or.inr ⟨rfl, by unfold p_order; rw [if_neg (bt hm), if_neg (bt hx), if_neg (bt hg), if_neg (bt hw), if_pos (full_K (K := 8) C.2.2.2.2 (by decide) rfl c_48)]; rfl⟩))
