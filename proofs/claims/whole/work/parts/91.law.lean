/-! the law's own methods: one call each, its exceptions as numbers -/
theorem Ok.thr {S : St} {B a0 : Nat} {h : AH} (H : Ok S B a0 h) {t : Int32} : Ok (th S t) B a0 h := by
  obtain ⟨gl, G, ad, e, K0, hI, I⟩ := H
  exact ⟨gl, G, ad, e, K0.thr, hI.thr, I.th⟩
def HP (r : St × Int32) (B a0 out : Nat) : Option Value → AH → Prop := fun r9 h' => r9 = some (.int (r.1.1 0 8 0)) ∧ ∃ (hc' : AH) (g : Nat → Int64), Ok r.1 B a0 hc' ∧ (∀ x e, hc' x = some e → h' x = some e) ∧ hc' out = none ∧ h' out = some (.inl (.long, (1, .inr (.inl g)))) ∧ (r.1.1 0 8 0 = 0 → g 0 = r.2.toInt64)
def HPl (r : St × Int64) (B a0 out : Nat) : Option Value → AH → Prop := fun r9 h' => r9 = some (.int (r.1.1 0 8 0)) ∧ ∃ (hc' : AH) (g : Nat → Int64), Ok r.1 B a0 hc' ∧ (∀ x e, hc' x = some e → h' x = some e) ∧ hc' out = none ∧ h' out = some (.inl (.long, (1, .inr (.inl g)))) ∧ (r.1.1 0 8 0 = 0 → g 0 = r.2)
def oneL (out : Nat) (g : Nat → Int64) : AH := fun x => if x = out then some (.inl (.long, (1, .inr (.inl g)))) else none
theorem hrN_5 : ∀ (n : Nat) (S : St) (p : Int32), S.1 0 5 0 = nI (nn (S.1 0 5 0)) → nn (S.1 0 5 0) + n < 2 ^ 31 → nn ((hrN S p n).1.1 0 5 0) = nn (S.1 0 5 0) + n
  | 0, _, _, _, _ => rfl
  | n + 1, S, p, h, hb => by
    obtain ⟨a1, a2⟩ := nadd h e_1 (by rw [nn_1]; omega)
    rw [nn_1] at a2
    show nn ((hrN (hour S).1 (p + (hour S).2) n).1.1 0 5 0) = _
    rw [hrN_5 n (hour S).1 (p + (hour S).2) (by rw [hour_5]; exact a1) (by rw [hour_5, a2]; omega), hour_5, a2]
    omega
theorem pass_h {S : St} {x : Int32} (h : Rg (S.1 0 5 0) 0 300) (hz : (p_pass S x).1.1 0 8 0 = 0) : nn ((p_pass S x).1.1 0 5 0) = nn (S.1 0 5 0) + nn x := by
  unfold p_pass at hz ⊢
  by_cases q1 : inB x 1 24 = false
  · rw [if_pos q1] at hz; exact absurd hz (by show ¬ (1 : Int32) = 0; decide)
  · rw [if_neg q1] at hz ⊢
    by_cases q2 : 300 < S.1 0 5 0 + x
    · rw [if_pos q2] at hz; exact absurd hz (by show ¬ (2 : Int32) = 0; decide)
    · rw [if_neg q2]
      have hx : Rg x 1 24 := inB_rg (show inB x 1 24 = true by cases hb : inB x 1 24 with | false => exact absurd hb q1 | true => rfl) (by decide) (by decide)
      exact hrN_5 (nn x) (th S 0) 0 h.1 (by have := h.2.2; have := hx.2.2; show nn (S.1 0 5 0) + nn x < _; omega)
theorem pt_p_addResin (S : St) (x : Int32) : ¬ (p_addResin S x).1.1 0 8 0 = 0 → (p_addResin S x).1 = th S ((p_addResin S x).1.1 0 8 0) := by
  unfold p_addResin
  (repeat' split) <;> first | (intro _; rfl) | (intro q; exact absurd rfl q) | (intro q; exact absurd (lev_0 (by decide)) q) | (intro q; exact absurd ((s1_ne (fun z => absurd z.2.1 (by decide))).trans (livN_c (by decide) 8)) q) | (intro q; exact absurd (hrN_8 _ _ _) q)
theorem pt_p_fill (S : St) (r : Int32) (g : Int32) : ¬ (p_fill S r g).1.1 0 8 0 = 0 → (p_fill S r g).1 = th S ((p_fill S r g).1.1 0 8 0) := by
  unfold p_fill
  (repeat' split) <;> first | (intro _; rfl) | (intro q; exact absurd rfl q) | (intro q; exact absurd (lev_0 (by decide)) q) | (intro q; exact absurd ((s1_ne (fun z => absurd z.2.1 (by decide))).trans (livN_c (by decide) 8)) q) | (intro q; exact absurd (hrN_8 _ _ _) q)
theorem pt_p_empty (S : St) (x : Int32) : ¬ (p_empty S x).1.1 0 8 0 = 0 → (p_empty S x).1 = th S ((p_empty S x).1.1 0 8 0) := by
  unfold p_empty
  (repeat' split) <;> first | (intro _; rfl) | (intro q; exact absurd rfl q) | (intro q; exact absurd (lev_0 (by decide)) q) | (intro q; exact absurd ((s1_ne (fun z => absurd z.2.1 (by decide))).trans (livN_c (by decide) 8)) q) | (intro q; exact absurd (hrN_8 _ _ _) q)
theorem pl_p_hoursToDry (S : St) (x : Int32) : (p_hoursToDry S x).1 = th S ((p_hoursToDry S x).1.1 0 8 0) := by
  unfold p_hoursToDry
  (repeat' split) <;> rfl
theorem pl_p_dry (S : St) (x : Int32) : (p_dry S x).1 = th S ((p_dry S x).1.1 0 8 0) := by
  unfold p_dry
  (repeat' split) <;> rfl
theorem pl_p_regrind (S : St) (x : Int32) : (p_regrind S x).1 = th S ((p_regrind S x).1.1 0 8 0) := by
  unfold p_regrind
  (repeat' split) <;> rfl
theorem pt_p_addMould (S : St) (ca : Int32) (pa : Int32) (sp : Int32) (fo : Int32) (cy : Int32) : ¬ (p_addMould S ca pa sp fo cy).1.1 0 8 0 = 0 → (p_addMould S ca pa sp fo cy).1 = th S ((p_addMould S ca pa sp fo cy).1.1 0 8 0) := by
  unfold p_addMould
  (repeat' split) <;> first | (intro _; rfl) | (intro q; exact absurd rfl q) | (intro q; exact absurd (lev_0 (by decide)) q) | (intro q; exact absurd ((s1_ne (fun z => absurd z.2.1 (by decide))).trans (livN_c (by decide) 8)) q) | (intro q; exact absurd (hrN_8 _ _ _) q)
theorem pt_p_setLife (S : St) (mo : Int32) (ca : Int32) (x : Int32) : ¬ (p_setLife S mo ca x).1.1 0 8 0 = 0 → (p_setLife S mo ca x).1 = th S ((p_setLife S mo ca x).1.1 0 8 0) := by
  unfold p_setLife
  (repeat' split) <;> first | (intro _; rfl) | (intro q; exact absurd rfl q) | (intro q; exact absurd (lev_0 (by decide)) q) | (intro q; exact absurd ((s1_ne (fun z => absurd z.2.1 (by decide))).trans (livN_c (by decide) 8)) q) | (intro q; exact absurd (hrN_8 _ _ _) q)
theorem pt_p_block (S : St) (mo : Int32) (ca : Int32) : ¬ (p_block S mo ca).1.1 0 8 0 = 0 → (p_block S mo ca).1 = th S ((p_block S mo ca).1.1 0 8 0) := by
  unfold p_block
  (repeat' split) <;> first | (intro _; rfl) | (intro q; exact absurd rfl q) | (intro q; exact absurd (lev_0 (by decide)) q) | (intro q; exact absurd ((s1_ne (fun z => absurd z.2.1 (by decide))).trans (livN_c (by decide) 8)) q) | (intro q; exact absurd (hrN_8 _ _ _) q)
theorem pt_p_repair (S : St) (mo : Int32) (ca : Int32) : ¬ (p_repair S mo ca).1.1 0 8 0 = 0 → (p_repair S mo ca).1 = th S ((p_repair S mo ca).1.1 0 8 0) := by
  unfold p_repair
  (repeat' split) <;> first | (intro _; rfl) | (intro q; exact absurd rfl q) | (intro q; exact absurd (lev_0 (by decide)) q) | (intro q; exact absurd ((s1_ne (fun z => absurd z.2.1 (by decide))).trans (livN_c (by decide) 8)) q) | (intro q; exact absurd (hrN_8 _ _ _) q)
theorem pl_p_nextOpen (S : St) (mo : Int32) (f : Int32) : (p_nextOpen S mo f).1 = th S ((p_nextOpen S mo f).1.1 0 8 0) := by
  unfold p_nextOpen
  (repeat' split) <;> rfl
theorem pt_p_addMachine (S : St) (x : Int32) : ¬ (p_addMachine S x).1.1 0 8 0 = 0 → (p_addMachine S x).1 = th S ((p_addMachine S x).1.1 0 8 0) := by
  unfold p_addMachine
  (repeat' split) <;> first | (intro _; rfl) | (intro q; exact absurd rfl q) | (intro q; exact absurd (lev_0 (by decide)) q) | (intro q; exact absurd ((s1_ne (fun z => absurd z.2.1 (by decide))).trans (livN_c (by decide) 8)) q) | (intro q; exact absurd (hrN_8 _ _ _) q)
theorem pt_p_mount (S : St) (a : Int32) (mo : Int32) : ¬ (p_mount S a mo).1.1 0 8 0 = 0 → (p_mount S a mo).1 = th S ((p_mount S a mo).1.1 0 8 0) := by
  unfold p_mount
  (repeat' split) <;> first | (intro _; rfl) | (intro q; exact absurd rfl q) | (intro q; exact absurd (lev_0 (by decide)) q) | (intro q; exact absurd ((s1_ne (fun z => absurd z.2.1 (by decide))).trans (livN_c (by decide) 8)) q) | (intro q; exact absurd (hrN_8 _ _ _) q)
theorem pt_p_run (S : St) (a : Int32) (o : Int32) : ¬ (p_run S a o).1.1 0 8 0 = 0 → (p_run S a o).1 = th S ((p_run S a o).1.1 0 8 0) := by
  unfold p_run
  (repeat' split) <;> first | (intro _; rfl) | (intro q; exact absurd rfl q) | (intro q; exact absurd (lev_0 (by decide)) q) | (intro q; exact absurd ((s1_ne (fun z => absurd z.2.1 (by decide))).trans (livN_c (by decide) 8)) q) | (intro q; exact absurd (hrN_8 _ _ _) q)
theorem pt_p_order (S : St) (mo : Int32) (r : Int32) (g : Int32) (w : Int32) : ¬ (p_order S mo r g w).1.1 0 8 0 = 0 → (p_order S mo r g w).1 = th S ((p_order S mo r g w).1.1 0 8 0) := by
  unfold p_order
  (repeat' split) <;> first | (intro _; rfl) | (intro q; exact absurd rfl q) | (intro q; exact absurd (lev_0 (by decide)) q) | (intro q; exact absurd ((s1_ne (fun z => absurd z.2.1 (by decide))).trans (livN_c (by decide) 8)) q) | (intro q; exact absurd (hrN_8 _ _ _) q)
theorem pl_p_lacks (S : St) (x : Int32) : (p_lacks S x).1 = th S ((p_lacks S x).1.1 0 8 0) := by
  unfold p_lacks
  (repeat' split) <;> rfl
theorem pl_p_hoursNeeded (S : St) (x : Int32) : (p_hoursNeeded S x).1 = th S ((p_hoursNeeded S x).1.1 0 8 0) := by
  unfold p_hoursNeeded
  (repeat' split) <;> rfl
theorem pl_p_shots (S : St) (x : Int32) : (p_shots S x).1 = th S ((p_shots S x).1.1 0 8 0) := by
  unfold p_shots
  (repeat' split) <;> rfl
theorem pl_p_regrindIn (S : St) (x : Int32) : (p_regrindIn S x).1 = th S ((p_regrindIn S x).1.1 0 8 0) := by
  unfold p_regrindIn
  (repeat' split) <;> rfl
theorem pl_p_greatestShare (S : St) (x : Int32) : (p_greatestShare S x).1 = th S ((p_greatestShare S x).1.1 0 8 0) := by
  unfold p_greatestShare
  (repeat' split) <;> rfl
theorem pt_p_pass (S : St) (x : Int32) : ¬ (p_pass S x).1.1 0 8 0 = 0 → (p_pass S x).1 = th S ((p_pass S x).1.1 0 8 0) := by
  unfold p_pass
  (repeat' split) <;> first | (intro _; rfl) | (intro q; exact absurd rfl q) | (intro q; exact absurd (lev_0 (by decide)) q) | (intro q; exact absurd ((s1_ne (fun z => absurd z.2.1 (by decide))).trans (livN_c (by decide) 8)) q) | (intro q; exact absurd (hrN_8 _ _ _) q)
set_option maxHeartbeats 4000000 in
set_option maxRecDepth 100000 in
theorem h_addResin (l : Launch) (D : va_G) (S : St) (B a0 out : Nat) (hc : AH) (g0 : Nat → Int64) (hOk : Ok S B a0 hc) (hno : hc out = none) (x : Int32) : CtrW l D yL_addResin cL_addResin 4 (some .int) [(0, 9, 12, 13), (0, 9, 15, 15)] 8 134 4 20 [.ref a0, .int x, .ref out] (hup hc out (.inl (.long, (1, .inr (.inl g0))))) (fun _ => False) (HP (p_addResin S x) B a0 out) := by
  refine CtrW.of RL rfl (by decide) (Nat.le_of_ble_eq_true rfl) ?_
  intro sz p e s m below meth c E hin hr ht
  obtain ⟨gl, G, ad, rfl, K0, hI, I⟩ := hOk
  have hfr : ∀ x e9, oneL out g0 x = some e9 → hup hc out (.inl (.long, (1, .inr (.inl g0)))) x = some e9 ∧ hc x = none := fun x e9 he => by
    by_cases q : x = out
    · subst q; exact ⟨by rw [hup_eq]; rw [show oneL x g0 x = _ from if_pos rfl] at he; exact he, hno⟩
    · rw [show oneL out g0 x = none from if_neg q] at he; cases he
  have hsb : ∀ x e9, hc x = some e9 → hup hc out (.inl (.long, (1, .inr (.inl g0)))) x = some e9 := fun x e9 he => by rw [hup_ne (fun q => by rw [q, hno] at he; cases he)]; exact he
  refine j_aload_n E dL_addResin_0 rfl ?_
  refine j_iconst (v := 0) E dL_addResin_1 ci_0 ?_
  refine j_aload_n E dL_addResin_2 rfl ?_
  refine j_iload_n E dL_addResin_3 rfl ?_
  refine j_callVc E (hc := hc) (hr := oneL out g0) (k_addResin l D S gl G ad hc K0 B I hI x) hsb hfr (cw_L_7 E ⟨Nat.le_of_ble_eq_true rfl, Nat.le_of_ble_eq_true rfl, Nat.le_of_ble_eq_true rfl, Nat.le_of_ble_eq_true rfl, Nat.le_of_ble_eq_true rfl⟩) (q_136 E.tb) (q_137 E.tb) (hsb _ _ K0.x0) rfl rfl dL_addResin_4 rfl (fun Ex q9 h1 hx w1 w2 => ?_) (fun v4 hc1 h4 hp w2 w3 w4 => ?_)
  · rcases hx with ⟨rfl, hk⟩ | ⟨rfl, hk⟩
    · refine ⟨12, ⟨[], ⟨0, 9, 12, 13⟩, [⟨0, 9, 15, 15⟩], "java/lang/IllegalArgumentException", ht, ?_, by decide, by decide, q_133 E.tb, E.tb.get 144 (by decide +kernel) (by decide +kernel), rfl⟩, ?_⟩
      · intro z hz; cases hz
      · refine j_astore_n E dL_addResin_12 (by decide) ?_
        refine j_iconst (v := 1) E dL_addResin_13 ci_1 ?_
        exact j_iret E hr dL_addResin_14 ⟨Nat.le_of_ble_eq_true rfl, Nat.le_of_ble_eq_true rfl⟩ ⟨by rw [hk], hc, g0, by rw [pt_p_addResin S x (by rw [hk]; decide), hk]; exact Ok.thr ⟨gl, G, ad, rfl, K0, hI, I⟩, w1, hno, w2 out _ (if_pos rfl), fun z => absurd (hk.symm.trans z) (by decide)⟩
    · refine ⟨15, ⟨[⟨0, 9, 12, 13⟩], ⟨0, 9, 15, 15⟩, [], "java/lang/IllegalStateException", ht, ?_, by decide, by decide, q_134 E.tb, E.tb.get 216 (by decide +kernel) (by decide +kernel), rfl⟩, ?_⟩
      · intro z hz
        rw [List.mem_singleton.mp hz]
        exact Or.inr ⟨by decide, "java/lang/IllegalArgumentException", q_133 E.tb, E.tn ("java/lang/IllegalStateException", "java/lang/IllegalArgumentException") (by decide)⟩
      · refine j_astore_n E dL_addResin_15 (by decide) ?_
        refine j_iconst (v := 2) E dL_addResin_16 ci_2 ?_
        exact j_iret E hr dL_addResin_17 ⟨Nat.le_of_ble_eq_true rfl, Nat.le_of_ble_eq_true rfl⟩ ⟨by rw [hk], hc, g0, by rw [pt_p_addResin S x (by rw [hk]; decide), hk]; exact Ok.thr ⟨gl, G, ad, rfl, K0, hI, I⟩, w1, hno, w2 out _ (if_pos rfl), fun z => absurd (hk.symm.trans z) (by decide)⟩
  · obtain ⟨rfl, hz, hq⟩ := hp
    have hn1 : hc1 out = none := w4 out _ (if_pos rfl)
    refine j_i2l E dL_addResin_7 ?_
    refine s_last E (w3 out _ (if_pos rfl)) (vin_nI (n := 1) (k := 0) (by decide) (by decide)) dL_addResin_8 (fun h8 n8 u8 => ?_)
    refine j_goto (tgt := 18) E dL_addResin_9 (by decide) ?_
    refine j_iconst (v := 0) E dL_addResin_18 ci_0 ?_
    exact j_iret E hr dL_addResin_19 ⟨Nat.le_of_ble_eq_true rfl, Nat.le_of_ble_eq_true rfl⟩ ⟨by rw [hz], hc1, _, hq, fun x e he => (u8 x (fun q => by rw [q, hn1] at he; cases he)).trans (w2 x e he), hn1, n8, fun _ => fup_eq⟩
set_option maxHeartbeats 4000000 in
set_option maxRecDepth 100000 in
theorem h_fill (l : Launch) (D : va_G) (S : St) (B a0 out : Nat) (hc : AH) (g0 : Nat → Int64) (hOk : Ok S B a0 hc) (hno : hc out = none) (r : Int32) (g : Int32) : CtrW l D yL_fill cL_fill 5 (some .int) [(0, 10, 13, 21), (0, 10, 17, 13), (0, 10, 21, 15)] 8 135 6 33 [.ref a0, .int r, .int g, .ref out] (hup hc out (.inl (.long, (1, .inr (.inl g0))))) (fun _ => False) (HP (p_fill S r g) B a0 out) := by
  refine CtrW.of RL rfl (by decide) (Nat.le_of_ble_eq_true rfl) ?_
  intro sz p e s m below meth c E hin hr ht
  obtain ⟨gl, G, ad, rfl, K0, hI, I⟩ := hOk
  have hfr : ∀ x e9, oneL out g0 x = some e9 → hup hc out (.inl (.long, (1, .inr (.inl g0)))) x = some e9 ∧ hc x = none := fun x e9 he => by
    by_cases q : x = out
    · subst q; exact ⟨by rw [hup_eq]; rw [show oneL x g0 x = _ from if_pos rfl] at he; exact he, hno⟩
    · rw [show oneL out g0 x = none from if_neg q] at he; cases he
  have hsb : ∀ x e9, hc x = some e9 → hup hc out (.inl (.long, (1, .inr (.inl g0)))) x = some e9 := fun x e9 he => by rw [hup_ne (fun q => by rw [q, hno] at he; cases he)]; exact he
  refine j_aload_n E dL_fill_0 rfl ?_
  refine j_iconst (v := 0) E dL_fill_1 ci_0 ?_
  refine j_aload_n E dL_fill_2 rfl ?_
  refine j_iload_n E dL_fill_3 rfl ?_
  refine j_iload_n E dL_fill_4 rfl ?_
  refine j_callVc E (hc := hc) (hr := oneL out g0) (k_fill l D S gl G ad hc K0 B I hI r g) hsb hfr (cw_L_17 E ⟨Nat.le_of_ble_eq_true rfl, Nat.le_of_ble_eq_true rfl, Nat.le_of_ble_eq_true rfl, Nat.le_of_ble_eq_true rfl, Nat.le_of_ble_eq_true rfl⟩) (q_271 E.tb) (q_272 E.tb) (hsb _ _ K0.x0) rfl rfl dL_fill_5 rfl (fun Ex q9 h1 hx w1 w2 => ?_) (fun v5 hc1 h4 hp w2 w3 w4 => ?_)
  · rcases hx with ⟨rfl, hk⟩ | ⟨rfl, hk⟩ | ⟨rfl, hk⟩
    · refine ⟨13, ⟨[], ⟨0, 10, 13, 21⟩, [⟨0, 10, 17, 13⟩, ⟨0, 10, 21, 15⟩], "java/lang/IndexOutOfBoundsException", ht, ?_, by decide, by decide, q_246 E.tb, E.tb.get 280 (by decide +kernel) (by decide +kernel), rfl⟩, ?_⟩
      · intro z hz; cases hz
      · refine j_astore E dL_fill_13 (by decide) ?_
        refine j_iconst (v := 1) E dL_fill_15 ci_1 ?_
        exact j_iret E hr dL_fill_16 ⟨Nat.le_of_ble_eq_true rfl, Nat.le_of_ble_eq_true rfl⟩ ⟨by rw [hk], hc, g0, by rw [pt_p_fill S r g (by rw [hk]; decide), hk]; exact Ok.thr ⟨gl, G, ad, rfl, K0, hI, I⟩, w1, hno, w2 out _ (if_pos rfl), fun z => absurd (hk.symm.trans z) (by decide)⟩
    · refine ⟨17, ⟨[⟨0, 10, 13, 21⟩], ⟨0, 10, 17, 13⟩, [⟨0, 10, 21, 15⟩], "java/lang/IllegalArgumentException", ht, ?_, by decide, by decide, q_133 E.tb, E.tb.get 144 (by decide +kernel) (by decide +kernel), rfl⟩, ?_⟩
      · intro z hz
        rw [List.mem_singleton.mp hz]
        exact Or.inr ⟨by decide, "java/lang/IndexOutOfBoundsException", q_246 E.tb, E.tn ("java/lang/IllegalArgumentException", "java/lang/IndexOutOfBoundsException") (by decide)⟩
      · refine j_astore E dL_fill_17 (by decide) ?_
        refine j_iconst (v := 2) E dL_fill_19 ci_2 ?_
        exact j_iret E hr dL_fill_20 ⟨Nat.le_of_ble_eq_true rfl, Nat.le_of_ble_eq_true rfl⟩ ⟨by rw [hk], hc, g0, by rw [pt_p_fill S r g (by rw [hk]; decide), hk]; exact Ok.thr ⟨gl, G, ad, rfl, K0, hI, I⟩, w1, hno, w2 out _ (if_pos rfl), fun z => absurd (hk.symm.trans z) (by decide)⟩
    · refine ⟨21, ⟨[⟨0, 10, 13, 21⟩, ⟨0, 10, 17, 13⟩], ⟨0, 10, 21, 15⟩, [], "java/lang/IllegalStateException", ht, ?_, by decide, by decide, q_134 E.tb, E.tb.get 216 (by decide +kernel) (by decide +kernel), rfl⟩, ?_⟩
      · intro z hz
        rcases List.mem_cons.mp hz with rfl | hz
        · exact Or.inr ⟨by decide, "java/lang/IndexOutOfBoundsException", q_246 E.tb, E.tn ("java/lang/IllegalStateException", "java/lang/IndexOutOfBoundsException") (by decide)⟩
        · rw [List.mem_singleton.mp hz]
          exact Or.inr ⟨by decide, "java/lang/IllegalArgumentException", q_133 E.tb, E.tn ("java/lang/IllegalStateException", "java/lang/IllegalArgumentException") (by decide)⟩
      · refine j_astore E dL_fill_21 (by decide) ?_
        refine j_iconst (v := 3) E dL_fill_23 ci_3 ?_
        exact j_iret E hr dL_fill_24 ⟨Nat.le_of_ble_eq_true rfl, Nat.le_of_ble_eq_true rfl⟩ ⟨by rw [hk], hc, g0, by rw [pt_p_fill S r g (by rw [hk]; decide), hk]; exact Ok.thr ⟨gl, G, ad, rfl, K0, hI, I⟩, w1, hno, w2 out _ (if_pos rfl), fun z => absurd (hk.symm.trans z) (by decide)⟩
  · obtain ⟨rfl, hz, hq⟩ := hp
    have hn1 : hc1 out = none := w4 out _ (if_pos rfl)
    refine j_i2l E dL_fill_8 ?_
    refine s_last E (w3 out _ (if_pos rfl)) (vin_nI (n := 1) (k := 0) (by decide) (by decide)) dL_fill_9 (fun h9 n9 u9 => ?_)
    refine j_goto (tgt := 25) E dL_fill_10 (by decide) ?_
    refine j_iconst (v := 0) E dL_fill_25 ci_0 ?_
    exact j_iret E hr dL_fill_26 ⟨Nat.le_of_ble_eq_true rfl, Nat.le_of_ble_eq_true rfl⟩ ⟨by rw [hz], hc1, _, hq, fun x e he => (u9 x (fun q => by rw [q, hn1] at he; cases he)).trans (w2 x e he), hn1, n9, fun _ => fup_eq⟩
set_option maxHeartbeats 4000000 in
set_option maxRecDepth 100000 in
theorem h_empty (l : Launch) (D : va_G) (S : St) (B a0 out : Nat) (hc : AH) (g0 : Nat → Int64) (hOk : Ok S B a0 hc) (hno : hc out = none) (x : Int32) : CtrW l D yL_empty cL_empty 4 (some .int) [(0, 9, 12, 21)] 8 134 2 12 [.ref a0, .int x, .ref out] (hup hc out (.inl (.long, (1, .inr (.inl g0))))) (fun _ => False) (HP (p_empty S x) B a0 out) := by
  refine CtrW.of RL rfl (by decide) (Nat.le_of_ble_eq_true rfl) ?_
  intro sz p e s m below meth c E hin hr ht
  obtain ⟨gl, G, ad, rfl, K0, hI, I⟩ := hOk
  have hfr : ∀ x e9, oneL out g0 x = some e9 → hup hc out (.inl (.long, (1, .inr (.inl g0)))) x = some e9 ∧ hc x = none := fun x e9 he => by
    by_cases q : x = out
    · subst q; exact ⟨by rw [hup_eq]; rw [show oneL x g0 x = _ from if_pos rfl] at he; exact he, hno⟩
    · rw [show oneL out g0 x = none from if_neg q] at he; cases he
  have hsb : ∀ x e9, hc x = some e9 → hup hc out (.inl (.long, (1, .inr (.inl g0)))) x = some e9 := fun x e9 he => by rw [hup_ne (fun q => by rw [q, hno] at he; cases he)]; exact he
  refine j_aload_n E dL_empty_0 rfl ?_
  refine j_iconst (v := 0) E dL_empty_1 ci_0 ?_
  refine j_aload_n E dL_empty_2 rfl ?_
  refine j_iload_n E dL_empty_3 rfl ?_
  refine j_callVc E (hc := hc) (hr := oneL out g0) (k_empty l D S gl G ad hc K0 B I hI x) hsb hfr (cw_L_23 E ⟨Nat.le_of_ble_eq_true rfl, Nat.le_of_ble_eq_true rfl, Nat.le_of_ble_eq_true rfl, Nat.le_of_ble_eq_true rfl, Nat.le_of_ble_eq_true rfl⟩) (q_324 E.tb) (q_325 E.tb) (hsb _ _ K0.x0) rfl rfl dL_empty_4 rfl (fun Ex q9 h1 hx w1 w2 => ?_) (fun v4 hc1 h4 hp w2 w3 w4 => ?_)
  · obtain ⟨rfl, hk⟩ := hx
    · refine ⟨12, ⟨[], ⟨0, 9, 12, 21⟩, [], "java/lang/IndexOutOfBoundsException", ht, ?_, by decide, by decide, q_246 E.tb, E.tb.get 280 (by decide +kernel) (by decide +kernel), rfl⟩, ?_⟩
      · intro z hz; cases hz
      · refine j_astore_n E dL_empty_12 (by decide) ?_
        refine j_iconst (v := 1) E dL_empty_13 ci_1 ?_
        exact j_iret E hr dL_empty_14 ⟨Nat.le_of_ble_eq_true rfl, Nat.le_of_ble_eq_true rfl⟩ ⟨by rw [hk], hc, g0, by rw [pt_p_empty S x (by rw [hk]; decide), hk]; exact Ok.thr ⟨gl, G, ad, rfl, K0, hI, I⟩, w1, hno, w2 out _ (if_pos rfl), fun z => absurd (hk.symm.trans z) (by decide)⟩
  · obtain ⟨rfl, hz, hq⟩ := hp
    have hn1 : hc1 out = none := w4 out _ (if_pos rfl)
    refine j_i2l E dL_empty_7 ?_
    refine s_last E (w3 out _ (if_pos rfl)) (vin_nI (n := 1) (k := 0) (by decide) (by decide)) dL_empty_8 (fun h8 n8 u8 => ?_)
    refine j_goto (tgt := 15) E dL_empty_9 (by decide) ?_
    refine j_iconst (v := 0) E dL_empty_15 ci_0 ?_
    exact j_iret E hr dL_empty_16 ⟨Nat.le_of_ble_eq_true rfl, Nat.le_of_ble_eq_true rfl⟩ ⟨by rw [hz], hc1, _, hq, fun x e he => (u8 x (fun q => by rw [q, hn1] at he; cases he)).trans (w2 x e he), hn1, n8, fun _ => fup_eq⟩
set_option maxHeartbeats 4000000 in
set_option maxRecDepth 100000 in
theorem h_hoursToDry (l : Launch) (D : va_G) (S : St) (B a0 out : Nat) (hc : AH) (g0 : Nat → Int64) (hOk : Ok S B a0 hc) (hno : hc out = none) (x : Int32) : CtrW l D yL_hoursToDry cL_hoursToDry 4 (some .int) [(0, 9, 12, 21)] 8 133 2 12 [.ref a0, .int x, .ref out] (hup hc out (.inl (.long, (1, .inr (.inl g0))))) (fun _ => False) (HP (p_hoursToDry S x) B a0 out) := by
  refine CtrW.of RL rfl (by decide) (Nat.le_of_ble_eq_true rfl) ?_
  intro sz p e s m below meth c E hin hr ht
  obtain ⟨gl, G, ad, rfl, K0, hI, I⟩ := hOk
  have hfr : ∀ x e9, oneL out g0 x = some e9 → hup hc out (.inl (.long, (1, .inr (.inl g0)))) x = some e9 ∧ hc x = none := fun x e9 he => by
    by_cases q : x = out
    · subst q; exact ⟨by rw [hup_eq]; rw [show oneL x g0 x = _ from if_pos rfl] at he; exact he, hno⟩
    · rw [show oneL out g0 x = none from if_neg q] at he; cases he
  have hsb : ∀ x e9, hc x = some e9 → hup hc out (.inl (.long, (1, .inr (.inl g0)))) x = some e9 := fun x e9 he => by rw [hup_ne (fun q => by rw [q, hno] at he; cases he)]; exact he
  refine j_aload_n E dL_hoursToDry_0 rfl ?_
  refine j_iconst (v := 0) E dL_hoursToDry_1 ci_0 ?_
  refine j_aload_n E dL_hoursToDry_2 rfl ?_
  refine j_iload_n E dL_hoursToDry_3 rfl ?_
  refine j_callVc E (hc := hc) (hr := oneL out g0) (k_hoursToDry l D S gl G ad hc K0 B I hI x) hsb hfr (cw_L_26 E ⟨Nat.le_of_ble_eq_true rfl, Nat.le_of_ble_eq_true rfl, Nat.le_of_ble_eq_true rfl, Nat.le_of_ble_eq_true rfl, Nat.le_of_ble_eq_true rfl⟩) (q_344 E.tb) (q_345 E.tb) (hsb _ _ K0.x0) rfl rfl dL_hoursToDry_4 rfl (fun Ex q9 h1 hx w1 w2 => ?_) (fun v4 hc1 h4 hp w2 w3 w4 => ?_)
  · obtain ⟨rfl, hk⟩ := hx
    · refine ⟨12, ⟨[], ⟨0, 9, 12, 21⟩, [], "java/lang/IndexOutOfBoundsException", ht, ?_, by decide, by decide, q_246 E.tb, E.tb.get 280 (by decide +kernel) (by decide +kernel), rfl⟩, ?_⟩
      · intro z hz; cases hz
      · refine j_astore_n E dL_hoursToDry_12 (by decide) ?_
        refine j_iconst (v := 1) E dL_hoursToDry_13 ci_1 ?_
        exact j_iret E hr dL_hoursToDry_14 ⟨Nat.le_of_ble_eq_true rfl, Nat.le_of_ble_eq_true rfl⟩ ⟨by rw [hk], hc, g0, by rw [pl_p_hoursToDry, hk]; exact Ok.thr ⟨gl, G, ad, rfl, K0, hI, I⟩, w1, hno, w2 out _ (if_pos rfl), fun z => absurd (hk.symm.trans z) (by decide)⟩
  · obtain ⟨rfl, hz, rfl⟩ := hp
    have hn1 : hc out = none := hno
    refine j_i2l E dL_hoursToDry_7 ?_
    refine s_last E (w3 out _ (if_pos rfl)) (vin_nI (n := 1) (k := 0) (by decide) (by decide)) dL_hoursToDry_8 (fun h8 n8 u8 => ?_)
    refine j_goto (tgt := 15) E dL_hoursToDry_9 (by decide) ?_
    refine j_iconst (v := 0) E dL_hoursToDry_15 ci_0 ?_
    exact j_iret E hr dL_hoursToDry_16 ⟨Nat.le_of_ble_eq_true rfl, Nat.le_of_ble_eq_true rfl⟩ ⟨by rw [hz], hc, _, (by rw [pl_p_hoursToDry, hz]; exact Ok.thr ⟨gl, G, ad, rfl, K0, hI, I⟩), fun x e he => (u8 x (fun q => by rw [q, hn1] at he; cases he)).trans (w2 x e he), hn1, n8, fun _ => fup_eq⟩
set_option maxHeartbeats 4000000 in
set_option maxRecDepth 100000 in
theorem h_dry (l : Launch) (D : va_G) (S : St) (B a0 out : Nat) (hc : AH) (g0 : Nat → Int64) (hOk : Ok S B a0 hc) (hno : hc out = none) (x : Int32) : CtrW l D yL_dry cL_dry 4 (some .int) [(0, 9, 12, 21)] 8 133 2 12 [.ref a0, .int x, .ref out] (hup hc out (.inl (.long, (1, .inr (.inl g0))))) (fun _ => False) (HP (p_dry S x) B a0 out) := by
  refine CtrW.of RL rfl (by decide) (Nat.le_of_ble_eq_true rfl) ?_
  intro sz p e s m below meth c E hin hr ht
  obtain ⟨gl, G, ad, rfl, K0, hI, I⟩ := hOk
  have hfr : ∀ x e9, oneL out g0 x = some e9 → hup hc out (.inl (.long, (1, .inr (.inl g0)))) x = some e9 ∧ hc x = none := fun x e9 he => by
    by_cases q : x = out
    · subst q; exact ⟨by rw [hup_eq]; rw [show oneL x g0 x = _ from if_pos rfl] at he; exact he, hno⟩
    · rw [show oneL out g0 x = none from if_neg q] at he; cases he
  have hsb : ∀ x e9, hc x = some e9 → hup hc out (.inl (.long, (1, .inr (.inl g0)))) x = some e9 := fun x e9 he => by rw [hup_ne (fun q => by rw [q, hno] at he; cases he)]; exact he
  refine j_aload_n E dL_dry_0 rfl ?_
  refine j_iconst (v := 0) E dL_dry_1 ci_0 ?_
  refine j_aload_n E dL_dry_2 rfl ?_
  refine j_iload_n E dL_dry_3 rfl ?_
  refine j_callVc E (hc := hc) (hr := oneL out g0) (k_dry l D S gl G ad hc K0 B I hI x) hsb hfr (cw_L_29 E ⟨Nat.le_of_ble_eq_true rfl, Nat.le_of_ble_eq_true rfl, Nat.le_of_ble_eq_true rfl, Nat.le_of_ble_eq_true rfl, Nat.le_of_ble_eq_true rfl⟩) (q_358 E.tb) (q_359 E.tb) (hsb _ _ K0.x0) rfl rfl dL_dry_4 rfl (fun Ex q9 h1 hx w1 w2 => ?_) (fun v4 hc1 h4 hp w2 w3 w4 => ?_)
  · obtain ⟨rfl, hk⟩ := hx
    · refine ⟨12, ⟨[], ⟨0, 9, 12, 21⟩, [], "java/lang/IndexOutOfBoundsException", ht, ?_, by decide, by decide, q_246 E.tb, E.tb.get 280 (by decide +kernel) (by decide +kernel), rfl⟩, ?_⟩
      · intro z hz; cases hz
      · refine j_astore_n E dL_dry_12 (by decide) ?_
        refine j_iconst (v := 1) E dL_dry_13 ci_1 ?_
        exact j_iret E hr dL_dry_14 ⟨Nat.le_of_ble_eq_true rfl, Nat.le_of_ble_eq_true rfl⟩ ⟨by rw [hk], hc, g0, by rw [pl_p_dry, hk]; exact Ok.thr ⟨gl, G, ad, rfl, K0, hI, I⟩, w1, hno, w2 out _ (if_pos rfl), fun z => absurd (hk.symm.trans z) (by decide)⟩
  · obtain ⟨rfl, hz, rfl⟩ := hp
    have hn1 : hc out = none := hno
    refine j_i2l E dL_dry_7 ?_
    refine s_last E (w3 out _ (if_pos rfl)) (vin_nI (n := 1) (k := 0) (by decide) (by decide)) dL_dry_8 (fun h8 n8 u8 => ?_)
    refine j_goto (tgt := 15) E dL_dry_9 (by decide) ?_
    refine j_iconst (v := 0) E dL_dry_15 ci_0 ?_
    exact j_iret E hr dL_dry_16 ⟨Nat.le_of_ble_eq_true rfl, Nat.le_of_ble_eq_true rfl⟩ ⟨by rw [hz], hc, _, (by rw [pl_p_dry, hz]; exact Ok.thr ⟨gl, G, ad, rfl, K0, hI, I⟩), fun x e he => (u8 x (fun q => by rw [q, hn1] at he; cases he)).trans (w2 x e he), hn1, n8, fun _ => fup_eq⟩
set_option maxHeartbeats 4000000 in
set_option maxRecDepth 100000 in
theorem h_regrind (l : Launch) (D : va_G) (S : St) (B a0 out : Nat) (hc : AH) (g0 : Nat → Int64) (hOk : Ok S B a0 hc) (hno : hc out = none) (x : Int32) : CtrW l D yL_regrind cL_regrind 4 (some .int) [(0, 9, 12, 21)] 8 133 2 12 [.ref a0, .int x, .ref out] (hup hc out (.inl (.long, (1, .inr (.inl g0))))) (fun _ => False) (HP (p_regrind S x) B a0 out) := by
  refine CtrW.of RL rfl (by decide) (Nat.le_of_ble_eq_true rfl) ?_
  intro sz p e s m below meth c E hin hr ht
  obtain ⟨gl, G, ad, rfl, K0, hI, I⟩ := hOk
  have hfr : ∀ x e9, oneL out g0 x = some e9 → hup hc out (.inl (.long, (1, .inr (.inl g0)))) x = some e9 ∧ hc x = none := fun x e9 he => by
    by_cases q : x = out
    · subst q; exact ⟨by rw [hup_eq]; rw [show oneL x g0 x = _ from if_pos rfl] at he; exact he, hno⟩
    · rw [show oneL out g0 x = none from if_neg q] at he; cases he
  have hsb : ∀ x e9, hc x = some e9 → hup hc out (.inl (.long, (1, .inr (.inl g0)))) x = some e9 := fun x e9 he => by rw [hup_ne (fun q => by rw [q, hno] at he; cases he)]; exact he
  refine j_aload_n E dL_regrind_0 rfl ?_
  refine j_iconst (v := 0) E dL_regrind_1 ci_0 ?_
  refine j_aload_n E dL_regrind_2 rfl ?_
  refine j_iload_n E dL_regrind_3 rfl ?_
  refine j_callVc E (hc := hc) (hr := oneL out g0) (k_regrind l D S gl G ad hc K0 B I hI x) hsb hfr (cw_L_32 E ⟨Nat.le_of_ble_eq_true rfl, Nat.le_of_ble_eq_true rfl, Nat.le_of_ble_eq_true rfl, Nat.le_of_ble_eq_true rfl, Nat.le_of_ble_eq_true rfl⟩) (q_374 E.tb) (q_375 E.tb) (hsb _ _ K0.x0) rfl rfl dL_regrind_4 rfl (fun Ex q9 h1 hx w1 w2 => ?_) (fun v4 hc1 h4 hp w2 w3 w4 => ?_)
  · obtain ⟨rfl, hk⟩ := hx
    · refine ⟨12, ⟨[], ⟨0, 9, 12, 21⟩, [], "java/lang/IndexOutOfBoundsException", ht, ?_, by decide, by decide, q_246 E.tb, E.tb.get 280 (by decide +kernel) (by decide +kernel), rfl⟩, ?_⟩
      · intro z hz; cases hz
      · refine j_astore_n E dL_regrind_12 (by decide) ?_
        refine j_iconst (v := 1) E dL_regrind_13 ci_1 ?_
        exact j_iret E hr dL_regrind_14 ⟨Nat.le_of_ble_eq_true rfl, Nat.le_of_ble_eq_true rfl⟩ ⟨by rw [hk], hc, g0, by rw [pl_p_regrind, hk]; exact Ok.thr ⟨gl, G, ad, rfl, K0, hI, I⟩, w1, hno, w2 out _ (if_pos rfl), fun z => absurd (hk.symm.trans z) (by decide)⟩
  · obtain ⟨rfl, hz, rfl⟩ := hp
    have hn1 : hc out = none := hno
    refine j_i2l E dL_regrind_7 ?_
    refine s_last E (w3 out _ (if_pos rfl)) (vin_nI (n := 1) (k := 0) (by decide) (by decide)) dL_regrind_8 (fun h8 n8 u8 => ?_)
    refine j_goto (tgt := 15) E dL_regrind_9 (by decide) ?_
    refine j_iconst (v := 0) E dL_regrind_15 ci_0 ?_
    exact j_iret E hr dL_regrind_16 ⟨Nat.le_of_ble_eq_true rfl, Nat.le_of_ble_eq_true rfl⟩ ⟨by rw [hz], hc, _, (by rw [pl_p_regrind, hz]; exact Ok.thr ⟨gl, G, ad, rfl, K0, hI, I⟩), fun x e he => (u8 x (fun q => by rw [q, hn1] at he; cases he)).trans (w2 x e he), hn1, n8, fun _ => fup_eq⟩
set_option maxHeartbeats 4000000 in
set_option maxRecDepth 100000 in
theorem h_addMould (l : Launch) (D : va_G) (S : St) (B a0 out : Nat) (hc : AH) (g0 : Nat → Int64) (hOk : Ok S B a0 hc) (hno : hc out = none) (ca : Int32) (pa : Int32) (sp : Int32) (fo : Int32) (cy : Int32) : CtrW l D yL_addMould cL_addMould 8 (some .int) [(0, 16, 19, 13), (0, 16, 23, 15)] 8 138 21 105 [.ref a0, .int ca, .int pa, .int sp, .int fo, .int cy, .ref out] (hup hc out (.inl (.long, (1, .inr (.inl g0))))) (fun _ => False) (HP (p_addMould S ca pa sp fo cy) B a0 out) := by
  refine CtrW.of RL rfl (by decide) (Nat.le_of_ble_eq_true rfl) ?_
  intro sz p e s m below meth c E hin hr ht
  obtain ⟨gl, G, ad, rfl, K0, hI, I⟩ := hOk
  have hfr : ∀ x e9, oneL out g0 x = some e9 → hup hc out (.inl (.long, (1, .inr (.inl g0)))) x = some e9 ∧ hc x = none := fun x e9 he => by
    by_cases q : x = out
    · subst q; exact ⟨by rw [hup_eq]; rw [show oneL x g0 x = _ from if_pos rfl] at he; exact he, hno⟩
    · rw [show oneL out g0 x = none from if_neg q] at he; cases he
  have hsb : ∀ x e9, hc x = some e9 → hup hc out (.inl (.long, (1, .inr (.inl g0)))) x = some e9 := fun x e9 he => by rw [hup_ne (fun q => by rw [q, hno] at he; cases he)]; exact he
  refine j_aload E dL_addMould_0 rfl ?_
  refine j_iconst (v := 0) E dL_addMould_2 ci_0 ?_
  refine j_aload_n E dL_addMould_3 rfl ?_
  refine j_iload_n E dL_addMould_4 rfl ?_
  refine j_iload_n E dL_addMould_5 rfl ?_
  refine j_iload_n E dL_addMould_6 rfl ?_
  refine j_iload E dL_addMould_7 rfl ?_
  refine j_iload E dL_addMould_9 rfl ?_
  refine j_callVc E (hc := hc) (hr := oneL out g0) (k_addMould l D S gl G ad hc K0 B I hI ca pa sp fo cy) hsb hfr (cw_L_35 E ⟨Nat.le_of_ble_eq_true rfl, Nat.le_of_ble_eq_true rfl, Nat.le_of_ble_eq_true rfl, Nat.le_of_ble_eq_true rfl, Nat.le_of_ble_eq_true rfl⟩) (q_381 E.tb) (q_382 E.tb) (hsb _ _ K0.x0) rfl rfl dL_addMould_11 rfl (fun Ex q9 h1 hx w1 w2 => ?_) (fun v11 hc1 h4 hp w2 w3 w4 => ?_)
  · rcases hx with ⟨rfl, hk⟩ | ⟨rfl, hk⟩
    · refine ⟨19, ⟨[], ⟨0, 16, 19, 13⟩, [⟨0, 16, 23, 15⟩], "java/lang/IllegalArgumentException", ht, ?_, by decide, by decide, q_133 E.tb, E.tb.get 144 (by decide +kernel) (by decide +kernel), rfl⟩, ?_⟩
      · intro z hz; cases hz
      · refine j_astore E dL_addMould_19 (by decide) ?_
        refine j_iconst (v := 1) E dL_addMould_21 ci_1 ?_
        exact j_iret E hr dL_addMould_22 ⟨Nat.le_of_ble_eq_true rfl, Nat.le_of_ble_eq_true rfl⟩ ⟨by rw [hk], hc, g0, by rw [pt_p_addMould S ca pa sp fo cy (by rw [hk]; decide), hk]; exact Ok.thr ⟨gl, G, ad, rfl, K0, hI, I⟩, w1, hno, w2 out _ (if_pos rfl), fun z => absurd (hk.symm.trans z) (by decide)⟩
    · refine ⟨23, ⟨[⟨0, 16, 19, 13⟩], ⟨0, 16, 23, 15⟩, [], "java/lang/IllegalStateException", ht, ?_, by decide, by decide, q_134 E.tb, E.tb.get 216 (by decide +kernel) (by decide +kernel), rfl⟩, ?_⟩
      · intro z hz
        rw [List.mem_singleton.mp hz]
        exact Or.inr ⟨by decide, "java/lang/IllegalArgumentException", q_133 E.tb, E.tn ("java/lang/IllegalStateException", "java/lang/IllegalArgumentException") (by decide)⟩
      · refine j_astore E dL_addMould_23 (by decide) ?_
        refine j_iconst (v := 2) E dL_addMould_25 ci_2 ?_
        exact j_iret E hr dL_addMould_26 ⟨Nat.le_of_ble_eq_true rfl, Nat.le_of_ble_eq_true rfl⟩ ⟨by rw [hk], hc, g0, by rw [pt_p_addMould S ca pa sp fo cy (by rw [hk]; decide), hk]; exact Ok.thr ⟨gl, G, ad, rfl, K0, hI, I⟩, w1, hno, w2 out _ (if_pos rfl), fun z => absurd (hk.symm.trans z) (by decide)⟩
  · obtain ⟨rfl, hz, hq⟩ := hp
    have hn1 : hc1 out = none := w4 out _ (if_pos rfl)
    refine j_i2l E dL_addMould_14 ?_
    refine s_last E (w3 out _ (if_pos rfl)) (vin_nI (n := 1) (k := 0) (by decide) (by decide)) dL_addMould_15 (fun h15 n15 u15 => ?_)
    refine j_goto (tgt := 27) E dL_addMould_16 (by decide) ?_
    refine j_iconst (v := 0) E dL_addMould_27 ci_0 ?_
    exact j_iret E hr dL_addMould_28 ⟨Nat.le_of_ble_eq_true rfl, Nat.le_of_ble_eq_true rfl⟩ ⟨by rw [hz], hc1, _, hq, fun x e he => (u15 x (fun q => by rw [q, hn1] at he; cases he)).trans (w2 x e he), hn1, n15, fun _ => fup_eq⟩
set_option maxHeartbeats 4000000 in
set_option maxRecDepth 100000 in
theorem h_setLife (l : Launch) (D : va_G) (S : St) (B a0 out : Nat) (hc : AH) (g0 : Nat → Int64) (hOk : Ok S B a0 hc) (hno : hc out = none) (mo : Int32) (ca : Int32) (x : Int32) : CtrW l D yL_setLife cL_setLife 6 (some .int) [(0, 12, 15, 21), (0, 12, 19, 13)] 8 137 6 36 [.ref a0, .int mo, .int ca, .int x, .ref out] (hup hc out (.inl (.long, (1, .inr (.inl g0))))) (fun _ => False) (HP (p_setLife S mo ca x) B a0 out) := by
  refine CtrW.of RL rfl (by decide) (Nat.le_of_ble_eq_true rfl) ?_
  intro sz p e s m below meth c E hin hr ht
  obtain ⟨gl, G, ad, rfl, K0, hI, I⟩ := hOk
  have hfr : ∀ x e9, oneL out g0 x = some e9 → hup hc out (.inl (.long, (1, .inr (.inl g0)))) x = some e9 ∧ hc x = none := fun x e9 he => by
    by_cases q : x = out
    · subst q; exact ⟨by rw [hup_eq]; rw [show oneL x g0 x = _ from if_pos rfl] at he; exact he, hno⟩
    · rw [show oneL out g0 x = none from if_neg q] at he; cases he
  have hsb : ∀ x e9, hc x = some e9 → hup hc out (.inl (.long, (1, .inr (.inl g0)))) x = some e9 := fun x e9 he => by rw [hup_ne (fun q => by rw [q, hno] at he; cases he)]; exact he
  refine j_aload E dL_setLife_0 rfl ?_
  refine j_iconst (v := 0) E dL_setLife_2 ci_0 ?_
  refine j_aload_n E dL_setLife_3 rfl ?_
  refine j_iload_n E dL_setLife_4 rfl ?_
  refine j_iload_n E dL_setLife_5 rfl ?_
  refine j_iload_n E dL_setLife_6 rfl ?_
  refine j_callVc E (hc := hc) (hr := oneL out g0) (k_setLife l D S gl G ad hc K0 B I hI mo ca x) hsb hfr (cw_L_39 E ⟨Nat.le_of_ble_eq_true rfl, Nat.le_of_ble_eq_true rfl, Nat.le_of_ble_eq_true rfl, Nat.le_of_ble_eq_true rfl, Nat.le_of_ble_eq_true rfl⟩) (q_444 E.tb) (q_445 E.tb) (hsb _ _ K0.x0) rfl rfl dL_setLife_7 rfl (fun Ex q9 h1 hx w1 w2 => ?_) (fun v7 hc1 h4 hp w2 w3 w4 => ?_)
  · rcases hx with ⟨rfl, hk⟩ | ⟨rfl, hk⟩
    · refine ⟨15, ⟨[], ⟨0, 12, 15, 21⟩, [⟨0, 12, 19, 13⟩], "java/lang/IndexOutOfBoundsException", ht, ?_, by decide, by decide, q_246 E.tb, E.tb.get 280 (by decide +kernel) (by decide +kernel), rfl⟩, ?_⟩
      · intro z hz; cases hz
      · refine j_astore E dL_setLife_15 (by decide) ?_
        refine j_iconst (v := 1) E dL_setLife_17 ci_1 ?_
        exact j_iret E hr dL_setLife_18 ⟨Nat.le_of_ble_eq_true rfl, Nat.le_of_ble_eq_true rfl⟩ ⟨by rw [hk], hc, g0, by rw [pt_p_setLife S mo ca x (by rw [hk]; decide), hk]; exact Ok.thr ⟨gl, G, ad, rfl, K0, hI, I⟩, w1, hno, w2 out _ (if_pos rfl), fun z => absurd (hk.symm.trans z) (by decide)⟩
    · refine ⟨19, ⟨[⟨0, 12, 15, 21⟩], ⟨0, 12, 19, 13⟩, [], "java/lang/IllegalArgumentException", ht, ?_, by decide, by decide, q_133 E.tb, E.tb.get 144 (by decide +kernel) (by decide +kernel), rfl⟩, ?_⟩
      · intro z hz
        rw [List.mem_singleton.mp hz]
        exact Or.inr ⟨by decide, "java/lang/IndexOutOfBoundsException", q_246 E.tb, E.tn ("java/lang/IllegalArgumentException", "java/lang/IndexOutOfBoundsException") (by decide)⟩
      · refine j_astore E dL_setLife_19 (by decide) ?_
        refine j_iconst (v := 2) E dL_setLife_21 ci_2 ?_
        exact j_iret E hr dL_setLife_22 ⟨Nat.le_of_ble_eq_true rfl, Nat.le_of_ble_eq_true rfl⟩ ⟨by rw [hk], hc, g0, by rw [pt_p_setLife S mo ca x (by rw [hk]; decide), hk]; exact Ok.thr ⟨gl, G, ad, rfl, K0, hI, I⟩, w1, hno, w2 out _ (if_pos rfl), fun z => absurd (hk.symm.trans z) (by decide)⟩
  · obtain ⟨rfl, hz, hq⟩ := hp
    have hn1 : hc1 out = none := w4 out _ (if_pos rfl)
    refine j_i2l E dL_setLife_10 ?_
    refine s_last E (w3 out _ (if_pos rfl)) (vin_nI (n := 1) (k := 0) (by decide) (by decide)) dL_setLife_11 (fun h11 n11 u11 => ?_)
    refine j_goto (tgt := 23) E dL_setLife_12 (by decide) ?_
    refine j_iconst (v := 0) E dL_setLife_23 ci_0 ?_
    exact j_iret E hr dL_setLife_24 ⟨Nat.le_of_ble_eq_true rfl, Nat.le_of_ble_eq_true rfl⟩ ⟨by rw [hz], hc1, _, hq, fun x e he => (u11 x (fun q => by rw [q, hn1] at he; cases he)).trans (w2 x e he), hn1, n11, fun _ => fup_eq⟩
set_option maxHeartbeats 4000000 in
set_option maxRecDepth 100000 in
theorem h_block (l : Launch) (D : va_G) (S : St) (B a0 out : Nat) (hc : AH) (g0 : Nat → Int64) (hOk : Ok S B a0 hc) (hno : hc out = none) (mo : Int32) (ca : Int32) : CtrW l D yL_block cL_block 5 (some .int) [(0, 10, 13, 21), (0, 10, 17, 15)] 8 137 5 30 [.ref a0, .int mo, .int ca, .ref out] (hup hc out (.inl (.long, (1, .inr (.inl g0))))) (fun _ => False) (HP (p_block S mo ca) B a0 out) := by
  refine CtrW.of RL rfl (by decide) (Nat.le_of_ble_eq_true rfl) ?_
  intro sz p e s m below meth c E hin hr ht
  obtain ⟨gl, G, ad, rfl, K0, hI, I⟩ := hOk
  have hfr : ∀ x e9, oneL out g0 x = some e9 → hup hc out (.inl (.long, (1, .inr (.inl g0)))) x = some e9 ∧ hc x = none := fun x e9 he => by
    by_cases q : x = out
    · subst q; exact ⟨by rw [hup_eq]; rw [show oneL x g0 x = _ from if_pos rfl] at he; exact he, hno⟩
    · rw [show oneL out g0 x = none from if_neg q] at he; cases he
  have hsb : ∀ x e9, hc x = some e9 → hup hc out (.inl (.long, (1, .inr (.inl g0)))) x = some e9 := fun x e9 he => by rw [hup_ne (fun q => by rw [q, hno] at he; cases he)]; exact he
  refine j_aload_n E dL_block_0 rfl ?_
  refine j_iconst (v := 0) E dL_block_1 ci_0 ?_
  refine j_aload_n E dL_block_2 rfl ?_
  refine j_iload_n E dL_block_3 rfl ?_
  refine j_iload_n E dL_block_4 rfl ?_
  refine j_callVc E (hc := hc) (hr := oneL out g0) (k_block l D S gl G ad hc K0 B I hI mo ca) hsb hfr (cw_L_43 E ⟨Nat.le_of_ble_eq_true rfl, Nat.le_of_ble_eq_true rfl, Nat.le_of_ble_eq_true rfl, Nat.le_of_ble_eq_true rfl, Nat.le_of_ble_eq_true rfl⟩) (q_464 E.tb) (q_465 E.tb) (hsb _ _ K0.x0) rfl rfl dL_block_5 rfl (fun Ex q9 h1 hx w1 w2 => ?_) (fun v5 hc1 h4 hp w2 w3 w4 => ?_)
  · rcases hx with ⟨rfl, hk⟩ | ⟨rfl, hk⟩
    · refine ⟨13, ⟨[], ⟨0, 10, 13, 21⟩, [⟨0, 10, 17, 15⟩], "java/lang/IndexOutOfBoundsException", ht, ?_, by decide, by decide, q_246 E.tb, E.tb.get 280 (by decide +kernel) (by decide +kernel), rfl⟩, ?_⟩
      · intro z hz; cases hz
      · refine j_astore E dL_block_13 (by decide) ?_
        refine j_iconst (v := 1) E dL_block_15 ci_1 ?_
        exact j_iret E hr dL_block_16 ⟨Nat.le_of_ble_eq_true rfl, Nat.le_of_ble_eq_true rfl⟩ ⟨by rw [hk], hc, g0, by rw [pt_p_block S mo ca (by rw [hk]; decide), hk]; exact Ok.thr ⟨gl, G, ad, rfl, K0, hI, I⟩, w1, hno, w2 out _ (if_pos rfl), fun z => absurd (hk.symm.trans z) (by decide)⟩
    · refine ⟨17, ⟨[⟨0, 10, 13, 21⟩], ⟨0, 10, 17, 15⟩, [], "java/lang/IllegalStateException", ht, ?_, by decide, by decide, q_134 E.tb, E.tb.get 216 (by decide +kernel) (by decide +kernel), rfl⟩, ?_⟩
      · intro z hz
        rw [List.mem_singleton.mp hz]
        exact Or.inr ⟨by decide, "java/lang/IndexOutOfBoundsException", q_246 E.tb, E.tn ("java/lang/IllegalStateException", "java/lang/IndexOutOfBoundsException") (by decide)⟩
      · refine j_astore E dL_block_17 (by decide) ?_
        refine j_iconst (v := 2) E dL_block_19 ci_2 ?_
        exact j_iret E hr dL_block_20 ⟨Nat.le_of_ble_eq_true rfl, Nat.le_of_ble_eq_true rfl⟩ ⟨by rw [hk], hc, g0, by rw [pt_p_block S mo ca (by rw [hk]; decide), hk]; exact Ok.thr ⟨gl, G, ad, rfl, K0, hI, I⟩, w1, hno, w2 out _ (if_pos rfl), fun z => absurd (hk.symm.trans z) (by decide)⟩
  · obtain ⟨rfl, hz, hq⟩ := hp
    have hn1 : hc1 out = none := w4 out _ (if_pos rfl)
    refine j_i2l E dL_block_8 ?_
    refine s_last E (w3 out _ (if_pos rfl)) (vin_nI (n := 1) (k := 0) (by decide) (by decide)) dL_block_9 (fun h9 n9 u9 => ?_)
    refine j_goto (tgt := 21) E dL_block_10 (by decide) ?_
    refine j_iconst (v := 0) E dL_block_21 ci_0 ?_
    exact j_iret E hr dL_block_22 ⟨Nat.le_of_ble_eq_true rfl, Nat.le_of_ble_eq_true rfl⟩ ⟨by rw [hz], hc1, _, hq, fun x e he => (u9 x (fun q => by rw [q, hn1] at he; cases he)).trans (w2 x e he), hn1, n9, fun _ => fup_eq⟩
set_option maxHeartbeats 4000000 in
set_option maxRecDepth 100000 in
theorem h_repair (l : Launch) (D : va_G) (S : St) (B a0 out : Nat) (hc : AH) (g0 : Nat → Int64) (hOk : Ok S B a0 hc) (hno : hc out = none) (mo : Int32) (ca : Int32) : CtrW l D yL_repair cL_repair 5 (some .int) [(0, 10, 13, 21), (0, 10, 17, 15)] 8 137 5 30 [.ref a0, .int mo, .int ca, .ref out] (hup hc out (.inl (.long, (1, .inr (.inl g0))))) (fun _ => False) (HP (p_repair S mo ca) B a0 out) := by
  refine CtrW.of RL rfl (by decide) (Nat.le_of_ble_eq_true rfl) ?_
  intro sz p e s m below meth c E hin hr ht
  obtain ⟨gl, G, ad, rfl, K0, hI, I⟩ := hOk
  have hfr : ∀ x e9, oneL out g0 x = some e9 → hup hc out (.inl (.long, (1, .inr (.inl g0)))) x = some e9 ∧ hc x = none := fun x e9 he => by
    by_cases q : x = out
    · subst q; exact ⟨by rw [hup_eq]; rw [show oneL x g0 x = _ from if_pos rfl] at he; exact he, hno⟩
    · rw [show oneL out g0 x = none from if_neg q] at he; cases he
  have hsb : ∀ x e9, hc x = some e9 → hup hc out (.inl (.long, (1, .inr (.inl g0)))) x = some e9 := fun x e9 he => by rw [hup_ne (fun q => by rw [q, hno] at he; cases he)]; exact he
  refine j_aload_n E dL_repair_0 rfl ?_
  refine j_iconst (v := 0) E dL_repair_1 ci_0 ?_
  refine j_aload_n E dL_repair_2 rfl ?_
  refine j_iload_n E dL_repair_3 rfl ?_
  refine j_iload_n E dL_repair_4 rfl ?_
  refine j_callVc E (hc := hc) (hr := oneL out g0) (k_repair l D S gl G ad hc K0 B I hI mo ca) hsb hfr (cw_L_46 E ⟨Nat.le_of_ble_eq_true rfl, Nat.le_of_ble_eq_true rfl, Nat.le_of_ble_eq_true rfl, Nat.le_of_ble_eq_true rfl, Nat.le_of_ble_eq_true rfl⟩) (q_476 E.tb) (q_477 E.tb) (hsb _ _ K0.x0) rfl rfl dL_repair_5 rfl (fun Ex q9 h1 hx w1 w2 => ?_) (fun v5 hc1 h4 hp w2 w3 w4 => ?_)
  · rcases hx with ⟨rfl, hk⟩ | ⟨rfl, hk⟩
    · refine ⟨13, ⟨[], ⟨0, 10, 13, 21⟩, [⟨0, 10, 17, 15⟩], "java/lang/IndexOutOfBoundsException", ht, ?_, by decide, by decide, q_246 E.tb, E.tb.get 280 (by decide +kernel) (by decide +kernel), rfl⟩, ?_⟩
      · intro z hz; cases hz
      · refine j_astore E dL_repair_13 (by decide) ?_
        refine j_iconst (v := 1) E dL_repair_15 ci_1 ?_
        exact j_iret E hr dL_repair_16 ⟨Nat.le_of_ble_eq_true rfl, Nat.le_of_ble_eq_true rfl⟩ ⟨by rw [hk], hc, g0, by rw [pt_p_repair S mo ca (by rw [hk]; decide), hk]; exact Ok.thr ⟨gl, G, ad, rfl, K0, hI, I⟩, w1, hno, w2 out _ (if_pos rfl), fun z => absurd (hk.symm.trans z) (by decide)⟩
    · refine ⟨17, ⟨[⟨0, 10, 13, 21⟩], ⟨0, 10, 17, 15⟩, [], "java/lang/IllegalStateException", ht, ?_, by decide, by decide, q_134 E.tb, E.tb.get 216 (by decide +kernel) (by decide +kernel), rfl⟩, ?_⟩
      · intro z hz
        rw [List.mem_singleton.mp hz]
        exact Or.inr ⟨by decide, "java/lang/IndexOutOfBoundsException", q_246 E.tb, E.tn ("java/lang/IllegalStateException", "java/lang/IndexOutOfBoundsException") (by decide)⟩
      · refine j_astore E dL_repair_17 (by decide) ?_
        refine j_iconst (v := 2) E dL_repair_19 ci_2 ?_
        exact j_iret E hr dL_repair_20 ⟨Nat.le_of_ble_eq_true rfl, Nat.le_of_ble_eq_true rfl⟩ ⟨by rw [hk], hc, g0, by rw [pt_p_repair S mo ca (by rw [hk]; decide), hk]; exact Ok.thr ⟨gl, G, ad, rfl, K0, hI, I⟩, w1, hno, w2 out _ (if_pos rfl), fun z => absurd (hk.symm.trans z) (by decide)⟩
  · obtain ⟨rfl, hz, hq⟩ := hp
    have hn1 : hc1 out = none := w4 out _ (if_pos rfl)
    refine j_i2l E dL_repair_8 ?_
    refine s_last E (w3 out _ (if_pos rfl)) (vin_nI (n := 1) (k := 0) (by decide) (by decide)) dL_repair_9 (fun h9 n9 u9 => ?_)
    refine j_goto (tgt := 21) E dL_repair_10 (by decide) ?_
    refine j_iconst (v := 0) E dL_repair_21 ci_0 ?_
    exact j_iret E hr dL_repair_22 ⟨Nat.le_of_ble_eq_true rfl, Nat.le_of_ble_eq_true rfl⟩ ⟨by rw [hz], hc1, _, hq, fun x e he => (u9 x (fun q => by rw [q, hn1] at he; cases he)).trans (w2 x e he), hn1, n9, fun _ => fup_eq⟩
set_option maxHeartbeats 4000000 in
set_option maxRecDepth 100000 in
theorem h_nextOpen (l : Launch) (D : va_G) (S : St) (B a0 out : Nat) (hc : AH) (g0 : Nat → Int64) (hOk : Ok S B a0 hc) (hno : hc out = none) (mo : Int32) (f : Int32) : CtrW l D yL_nextOpen cL_nextOpen 5 (some .int) [(0, 10, 13, 21), (0, 10, 17, 52)] 8 137 3 18 [.ref a0, .int mo, .int f, .ref out] (hup hc out (.inl (.long, (1, .inr (.inl g0))))) (fun _ => False) (HP (p_nextOpen S mo f) B a0 out) := by
  refine CtrW.of RL rfl (by decide) (Nat.le_of_ble_eq_true rfl) ?_
  intro sz p e s m below meth c E hin hr ht
  obtain ⟨gl, G, ad, rfl, K0, hI, I⟩ := hOk
  have hfr : ∀ x e9, oneL out g0 x = some e9 → hup hc out (.inl (.long, (1, .inr (.inl g0)))) x = some e9 ∧ hc x = none := fun x e9 he => by
    by_cases q : x = out
    · subst q; exact ⟨by rw [hup_eq]; rw [show oneL x g0 x = _ from if_pos rfl] at he; exact he, hno⟩
    · rw [show oneL out g0 x = none from if_neg q] at he; cases he
  have hsb : ∀ x e9, hc x = some e9 → hup hc out (.inl (.long, (1, .inr (.inl g0)))) x = some e9 := fun x e9 he => by rw [hup_ne (fun q => by rw [q, hno] at he; cases he)]; exact he
  refine j_aload_n E dL_nextOpen_0 rfl ?_
  refine j_iconst (v := 0) E dL_nextOpen_1 ci_0 ?_
  refine j_aload_n E dL_nextOpen_2 rfl ?_
  refine j_iload_n E dL_nextOpen_3 rfl ?_
  refine j_iload_n E dL_nextOpen_4 rfl ?_
  refine j_callVc E (hc := hc) (hr := oneL out g0) (k_nextOpen l D S gl G ad hc K0 B I hI mo f) hsb hfr (cw_L_49 E ⟨Nat.le_of_ble_eq_true rfl, Nat.le_of_ble_eq_true rfl, Nat.le_of_ble_eq_true rfl, Nat.le_of_ble_eq_true rfl, Nat.le_of_ble_eq_true rfl⟩) (q_485 E.tb) (q_486 E.tb) (hsb _ _ K0.x0) rfl rfl dL_nextOpen_5 rfl (fun Ex q9 h1 hx w1 w2 => ?_) (fun v5 hc1 h4 hp w2 w3 w4 => ?_)
  · rcases hx with ⟨rfl, hk⟩ | ⟨rfl, hk⟩
    · refine ⟨13, ⟨[], ⟨0, 10, 13, 21⟩, [⟨0, 10, 17, 52⟩], "java/lang/IndexOutOfBoundsException", ht, ?_, by decide, by decide, q_246 E.tb, E.tb.get 280 (by decide +kernel) (by decide +kernel), rfl⟩, ?_⟩
      · intro z hz; cases hz
      · refine j_astore E dL_nextOpen_13 (by decide) ?_
        refine j_iconst (v := 1) E dL_nextOpen_15 ci_1 ?_
        exact j_iret E hr dL_nextOpen_16 ⟨Nat.le_of_ble_eq_true rfl, Nat.le_of_ble_eq_true rfl⟩ ⟨by rw [hk], hc, g0, by rw [pl_p_nextOpen, hk]; exact Ok.thr ⟨gl, G, ad, rfl, K0, hI, I⟩, w1, hno, w2 out _ (if_pos rfl), fun z => absurd (hk.symm.trans z) (by decide)⟩
    · refine ⟨17, ⟨[⟨0, 10, 13, 21⟩], ⟨0, 10, 17, 52⟩, [], "java/util/NoSuchElementException", ht, ?_, by decide, by decide, q_483 E.tb, E.tb.get 491 (by decide +kernel) (by decide +kernel), rfl⟩, ?_⟩
      · intro z hz
        rw [List.mem_singleton.mp hz]
        exact Or.inr ⟨by decide, "java/lang/IndexOutOfBoundsException", q_246 E.tb, E.tn ("java/util/NoSuchElementException", "java/lang/IndexOutOfBoundsException") (by decide)⟩
      · refine j_astore E dL_nextOpen_17 (by decide) ?_
        refine j_iconst (v := 2) E dL_nextOpen_19 ci_2 ?_
        exact j_iret E hr dL_nextOpen_20 ⟨Nat.le_of_ble_eq_true rfl, Nat.le_of_ble_eq_true rfl⟩ ⟨by rw [hk], hc, g0, by rw [pl_p_nextOpen, hk]; exact Ok.thr ⟨gl, G, ad, rfl, K0, hI, I⟩, w1, hno, w2 out _ (if_pos rfl), fun z => absurd (hk.symm.trans z) (by decide)⟩
  · obtain ⟨rfl, hz, rfl⟩ := hp
    have hn1 : hc out = none := hno
    refine j_i2l E dL_nextOpen_8 ?_
    refine s_last E (w3 out _ (if_pos rfl)) (vin_nI (n := 1) (k := 0) (by decide) (by decide)) dL_nextOpen_9 (fun h9 n9 u9 => ?_)
    refine j_goto (tgt := 21) E dL_nextOpen_10 (by decide) ?_
    refine j_iconst (v := 0) E dL_nextOpen_21 ci_0 ?_
    exact j_iret E hr dL_nextOpen_22 ⟨Nat.le_of_ble_eq_true rfl, Nat.le_of_ble_eq_true rfl⟩ ⟨by rw [hz], hc, _, (by rw [pl_p_nextOpen, hz]; exact Ok.thr ⟨gl, G, ad, rfl, K0, hI, I⟩), fun x e he => (u9 x (fun q => by rw [q, hn1] at he; cases he)).trans (w2 x e he), hn1, n9, fun _ => fup_eq⟩
set_option maxHeartbeats 4000000 in
set_option maxRecDepth 100000 in
theorem h_addMachine (l : Launch) (D : va_G) (S : St) (B a0 out : Nat) (hc : AH) (g0 : Nat → Int64) (hOk : Ok S B a0 hc) (hno : hc out = none) (x : Int32) : CtrW l D yL_addMachine cL_addMachine 4 (some .int) [(0, 9, 12, 13), (0, 9, 15, 15)] 8 134 4 21 [.ref a0, .int x, .ref out] (hup hc out (.inl (.long, (1, .inr (.inl g0))))) (fun _ => False) (HP (p_addMachine S x) B a0 out) := by
  refine CtrW.of RL rfl (by decide) (Nat.le_of_ble_eq_true rfl) ?_
  intro sz p e s m below meth c E hin hr ht
  obtain ⟨gl, G, ad, rfl, K0, hI, I⟩ := hOk
  have hfr : ∀ x e9, oneL out g0 x = some e9 → hup hc out (.inl (.long, (1, .inr (.inl g0)))) x = some e9 ∧ hc x = none := fun x e9 he => by
    by_cases q : x = out
    · subst q; exact ⟨by rw [hup_eq]; rw [show oneL x g0 x = _ from if_pos rfl] at he; exact he, hno⟩
    · rw [show oneL out g0 x = none from if_neg q] at he; cases he
  have hsb : ∀ x e9, hc x = some e9 → hup hc out (.inl (.long, (1, .inr (.inl g0)))) x = some e9 := fun x e9 he => by rw [hup_ne (fun q => by rw [q, hno] at he; cases he)]; exact he
  refine j_aload_n E dL_addMachine_0 rfl ?_
  refine j_iconst (v := 0) E dL_addMachine_1 ci_0 ?_
  refine j_aload_n E dL_addMachine_2 rfl ?_
  refine j_iload_n E dL_addMachine_3 rfl ?_
  refine j_callVc E (hc := hc) (hr := oneL out g0) (k_addMachine l D S gl G ad hc K0 B I hI x) hsb hfr (cw_L_54 E ⟨Nat.le_of_ble_eq_true rfl, Nat.le_of_ble_eq_true rfl, Nat.le_of_ble_eq_true rfl, Nat.le_of_ble_eq_true rfl, Nat.le_of_ble_eq_true rfl⟩) (q_509 E.tb) (q_510 E.tb) (hsb _ _ K0.x0) rfl rfl dL_addMachine_4 rfl (fun Ex q9 h1 hx w1 w2 => ?_) (fun v4 hc1 h4 hp w2 w3 w4 => ?_)
  · rcases hx with ⟨rfl, hk⟩ | ⟨rfl, hk⟩
    · refine ⟨12, ⟨[], ⟨0, 9, 12, 13⟩, [⟨0, 9, 15, 15⟩], "java/lang/IllegalArgumentException", ht, ?_, by decide, by decide, q_133 E.tb, E.tb.get 144 (by decide +kernel) (by decide +kernel), rfl⟩, ?_⟩
      · intro z hz; cases hz
      · refine j_astore_n E dL_addMachine_12 (by decide) ?_
        refine j_iconst (v := 1) E dL_addMachine_13 ci_1 ?_
        exact j_iret E hr dL_addMachine_14 ⟨Nat.le_of_ble_eq_true rfl, Nat.le_of_ble_eq_true rfl⟩ ⟨by rw [hk], hc, g0, by rw [pt_p_addMachine S x (by rw [hk]; decide), hk]; exact Ok.thr ⟨gl, G, ad, rfl, K0, hI, I⟩, w1, hno, w2 out _ (if_pos rfl), fun z => absurd (hk.symm.trans z) (by decide)⟩
    · refine ⟨15, ⟨[⟨0, 9, 12, 13⟩], ⟨0, 9, 15, 15⟩, [], "java/lang/IllegalStateException", ht, ?_, by decide, by decide, q_134 E.tb, E.tb.get 216 (by decide +kernel) (by decide +kernel), rfl⟩, ?_⟩
      · intro z hz
        rw [List.mem_singleton.mp hz]
        exact Or.inr ⟨by decide, "java/lang/IllegalArgumentException", q_133 E.tb, E.tn ("java/lang/IllegalStateException", "java/lang/IllegalArgumentException") (by decide)⟩
      · refine j_astore_n E dL_addMachine_15 (by decide) ?_
        refine j_iconst (v := 2) E dL_addMachine_16 ci_2 ?_
        exact j_iret E hr dL_addMachine_17 ⟨Nat.le_of_ble_eq_true rfl, Nat.le_of_ble_eq_true rfl⟩ ⟨by rw [hk], hc, g0, by rw [pt_p_addMachine S x (by rw [hk]; decide), hk]; exact Ok.thr ⟨gl, G, ad, rfl, K0, hI, I⟩, w1, hno, w2 out _ (if_pos rfl), fun z => absurd (hk.symm.trans z) (by decide)⟩
  · obtain ⟨rfl, hz, hq⟩ := hp
    have hn1 : hc1 out = none := w4 out _ (if_pos rfl)
    refine j_i2l E dL_addMachine_7 ?_
    refine s_last E (w3 out _ (if_pos rfl)) (vin_nI (n := 1) (k := 0) (by decide) (by decide)) dL_addMachine_8 (fun h8 n8 u8 => ?_)
    refine j_goto (tgt := 18) E dL_addMachine_9 (by decide) ?_
    refine j_iconst (v := 0) E dL_addMachine_18 ci_0 ?_
    exact j_iret E hr dL_addMachine_19 ⟨Nat.le_of_ble_eq_true rfl, Nat.le_of_ble_eq_true rfl⟩ ⟨by rw [hz], hc1, _, hq, fun x e he => (u8 x (fun q => by rw [q, hn1] at he; cases he)).trans (w2 x e he), hn1, n8, fun _ => fup_eq⟩
set_option maxHeartbeats 4000000 in
set_option maxRecDepth 100000 in
theorem h_mount (l : Launch) (D : va_G) (S : St) (B a0 out : Nat) (hc : AH) (g0 : Nat → Int64) (hOk : Ok S B a0 hc) (hno : hc out = none) (a : Int32) (mo : Int32) : CtrW l D yL_mount cL_mount 5 (some .int) [(0, 10, 13, 21), (0, 10, 17, 60), (0, 10, 21, 15)] 8 137 5 30 [.ref a0, .int a, .int mo, .ref out] (hup hc out (.inl (.long, (1, .inr (.inl g0))))) (fun _ => False) (HP (p_mount S a mo) B a0 out) := by
  refine CtrW.of RL rfl (by decide) (Nat.le_of_ble_eq_true rfl) ?_
  intro sz p e s m below meth c E hin hr ht
  obtain ⟨gl, G, ad, rfl, K0, hI, I⟩ := hOk
  have hfr : ∀ x e9, oneL out g0 x = some e9 → hup hc out (.inl (.long, (1, .inr (.inl g0)))) x = some e9 ∧ hc x = none := fun x e9 he => by
    by_cases q : x = out
    · subst q; exact ⟨by rw [hup_eq]; rw [show oneL x g0 x = _ from if_pos rfl] at he; exact he, hno⟩
    · rw [show oneL out g0 x = none from if_neg q] at he; cases he
  have hsb : ∀ x e9, hc x = some e9 → hup hc out (.inl (.long, (1, .inr (.inl g0)))) x = some e9 := fun x e9 he => by rw [hup_ne (fun q => by rw [q, hno] at he; cases he)]; exact he
  refine j_aload_n E dL_mount_0 rfl ?_
  refine j_iconst (v := 0) E dL_mount_1 ci_0 ?_
  refine j_aload_n E dL_mount_2 rfl ?_
  refine j_iload_n E dL_mount_3 rfl ?_
  refine j_iload_n E dL_mount_4 rfl ?_
  refine j_callVc E (hc := hc) (hr := oneL out g0) (k_mount l D S gl G ad hc K0 B I hI a mo) hsb hfr (cw_L_57 E ⟨Nat.le_of_ble_eq_true rfl, Nat.le_of_ble_eq_true rfl, Nat.le_of_ble_eq_true rfl, Nat.le_of_ble_eq_true rfl, Nat.le_of_ble_eq_true rfl⟩) (q_534 E.tb) (q_535 E.tb) (hsb _ _ K0.x0) rfl rfl dL_mount_5 rfl (fun Ex q9 h1 hx w1 w2 => ?_) (fun v5 hc1 h4 hp w2 w3 w4 => ?_)
  · rcases hx with ⟨rfl, hk⟩ | ⟨rfl, hk⟩ | ⟨rfl, hk⟩
    · refine ⟨13, ⟨[], ⟨0, 10, 13, 21⟩, [⟨0, 10, 17, 60⟩, ⟨0, 10, 21, 15⟩], "java/lang/IndexOutOfBoundsException", ht, ?_, by decide, by decide, q_246 E.tb, E.tb.get 280 (by decide +kernel) (by decide +kernel), rfl⟩, ?_⟩
      · intro z hz; cases hz
      · refine j_astore E dL_mount_13 (by decide) ?_
        refine j_iconst (v := 1) E dL_mount_15 ci_1 ?_
        exact j_iret E hr dL_mount_16 ⟨Nat.le_of_ble_eq_true rfl, Nat.le_of_ble_eq_true rfl⟩ ⟨by rw [hk], hc, g0, by rw [pt_p_mount S a mo (by rw [hk]; decide), hk]; exact Ok.thr ⟨gl, G, ad, rfl, K0, hI, I⟩, w1, hno, w2 out _ (if_pos rfl), fun z => absurd (hk.symm.trans z) (by decide)⟩
    · refine ⟨17, ⟨[⟨0, 10, 13, 21⟩], ⟨0, 10, 17, 60⟩, [⟨0, 10, 21, 15⟩], "java/lang/UnsupportedOperationException", ht, ?_, by decide, by decide, q_532 E.tb, E.tb.get 544 (by decide +kernel) (by decide +kernel), rfl⟩, ?_⟩
      · intro z hz
        rw [List.mem_singleton.mp hz]
        exact Or.inr ⟨by decide, "java/lang/IndexOutOfBoundsException", q_246 E.tb, E.tn ("java/lang/UnsupportedOperationException", "java/lang/IndexOutOfBoundsException") (by decide)⟩
      · refine j_astore E dL_mount_17 (by decide) ?_
        refine j_iconst (v := 2) E dL_mount_19 ci_2 ?_
        exact j_iret E hr dL_mount_20 ⟨Nat.le_of_ble_eq_true rfl, Nat.le_of_ble_eq_true rfl⟩ ⟨by rw [hk], hc, g0, by rw [pt_p_mount S a mo (by rw [hk]; decide), hk]; exact Ok.thr ⟨gl, G, ad, rfl, K0, hI, I⟩, w1, hno, w2 out _ (if_pos rfl), fun z => absurd (hk.symm.trans z) (by decide)⟩
    · refine ⟨21, ⟨[⟨0, 10, 13, 21⟩, ⟨0, 10, 17, 60⟩], ⟨0, 10, 21, 15⟩, [], "java/lang/IllegalStateException", ht, ?_, by decide, by decide, q_134 E.tb, E.tb.get 216 (by decide +kernel) (by decide +kernel), rfl⟩, ?_⟩
      · intro z hz
        rcases List.mem_cons.mp hz with rfl | hz
        · exact Or.inr ⟨by decide, "java/lang/IndexOutOfBoundsException", q_246 E.tb, E.tn ("java/lang/IllegalStateException", "java/lang/IndexOutOfBoundsException") (by decide)⟩
        · rw [List.mem_singleton.mp hz]
          exact Or.inr ⟨by decide, "java/lang/UnsupportedOperationException", q_532 E.tb, E.tn ("java/lang/IllegalStateException", "java/lang/UnsupportedOperationException") (by decide)⟩
      · refine j_astore E dL_mount_21 (by decide) ?_
        refine j_iconst (v := 3) E dL_mount_23 ci_3 ?_
        exact j_iret E hr dL_mount_24 ⟨Nat.le_of_ble_eq_true rfl, Nat.le_of_ble_eq_true rfl⟩ ⟨by rw [hk], hc, g0, by rw [pt_p_mount S a mo (by rw [hk]; decide), hk]; exact Ok.thr ⟨gl, G, ad, rfl, K0, hI, I⟩, w1, hno, w2 out _ (if_pos rfl), fun z => absurd (hk.symm.trans z) (by decide)⟩
  · obtain ⟨rfl, hz, hq⟩ := hp
    have hn1 : hc1 out = none := w4 out _ (if_pos rfl)
    refine j_i2l E dL_mount_8 ?_
    refine s_last E (w3 out _ (if_pos rfl)) (vin_nI (n := 1) (k := 0) (by decide) (by decide)) dL_mount_9 (fun h9 n9 u9 => ?_)
    refine j_goto (tgt := 25) E dL_mount_10 (by decide) ?_
    refine j_iconst (v := 0) E dL_mount_25 ci_0 ?_
    exact j_iret E hr dL_mount_26 ⟨Nat.le_of_ble_eq_true rfl, Nat.le_of_ble_eq_true rfl⟩ ⟨by rw [hz], hc1, _, hq, fun x e he => (u9 x (fun q => by rw [q, hn1] at he; cases he)).trans (w2 x e he), hn1, n9, fun _ => fup_eq⟩
set_option maxHeartbeats 4000000 in
set_option maxRecDepth 100000 in
theorem h_run (l : Launch) (D : va_G) (S : St) (B a0 out : Nat) (hc : AH) (g0 : Nat → Int64) (hOk : Ok S B a0 hc) (hno : hc out = none) (a : Int32) (o : Int32) : CtrW l D yL_run cL_run 5 (some .int) [(0, 10, 13, 21), (0, 10, 17, 60), (0, 10, 21, 15)] 8 136 5 30 [.ref a0, .int a, .int o, .ref out] (hup hc out (.inl (.long, (1, .inr (.inl g0))))) (fun _ => False) (HP (p_run S a o) B a0 out) := by
  refine CtrW.of RL rfl (by decide) (Nat.le_of_ble_eq_true rfl) ?_
  intro sz p e s m below meth c E hin hr ht
  obtain ⟨gl, G, ad, rfl, K0, hI, I⟩ := hOk
  have hfr : ∀ x e9, oneL out g0 x = some e9 → hup hc out (.inl (.long, (1, .inr (.inl g0)))) x = some e9 ∧ hc x = none := fun x e9 he => by
    by_cases q : x = out
    · subst q; exact ⟨by rw [hup_eq]; rw [show oneL x g0 x = _ from if_pos rfl] at he; exact he, hno⟩
    · rw [show oneL out g0 x = none from if_neg q] at he; cases he
  have hsb : ∀ x e9, hc x = some e9 → hup hc out (.inl (.long, (1, .inr (.inl g0)))) x = some e9 := fun x e9 he => by rw [hup_ne (fun q => by rw [q, hno] at he; cases he)]; exact he
  refine j_aload_n E dL_run_0 rfl ?_
  refine j_iconst (v := 0) E dL_run_1 ci_0 ?_
  refine j_aload_n E dL_run_2 rfl ?_
  refine j_iload_n E dL_run_3 rfl ?_
  refine j_iload_n E dL_run_4 rfl ?_
  refine j_callVc E (hc := hc) (hr := oneL out g0) (k_run l D S gl G ad hc K0 B I hI a o) hsb hfr (cw_L_62 E ⟨Nat.le_of_ble_eq_true rfl, Nat.le_of_ble_eq_true rfl, Nat.le_of_ble_eq_true rfl, Nat.le_of_ble_eq_true rfl, Nat.le_of_ble_eq_true rfl⟩) (q_563 E.tb) (q_564 E.tb) (hsb _ _ K0.x0) rfl rfl dL_run_5 rfl (fun Ex q9 h1 hx w1 w2 => ?_) (fun v5 hc1 h4 hp w2 w3 w4 => ?_)
  · rcases hx with ⟨rfl, hk⟩ | ⟨rfl, hk⟩ | ⟨rfl, hk⟩
    · refine ⟨13, ⟨[], ⟨0, 10, 13, 21⟩, [⟨0, 10, 17, 60⟩, ⟨0, 10, 21, 15⟩], "java/lang/IndexOutOfBoundsException", ht, ?_, by decide, by decide, q_246 E.tb, E.tb.get 280 (by decide +kernel) (by decide +kernel), rfl⟩, ?_⟩
      · intro z hz; cases hz
      · refine j_astore E dL_run_13 (by decide) ?_
        refine j_iconst (v := 1) E dL_run_15 ci_1 ?_
        exact j_iret E hr dL_run_16 ⟨Nat.le_of_ble_eq_true rfl, Nat.le_of_ble_eq_true rfl⟩ ⟨by rw [hk], hc, g0, by rw [pt_p_run S a o (by rw [hk]; decide), hk]; exact Ok.thr ⟨gl, G, ad, rfl, K0, hI, I⟩, w1, hno, w2 out _ (if_pos rfl), fun z => absurd (hk.symm.trans z) (by decide)⟩
    · refine ⟨17, ⟨[⟨0, 10, 13, 21⟩], ⟨0, 10, 17, 60⟩, [⟨0, 10, 21, 15⟩], "java/lang/UnsupportedOperationException", ht, ?_, by decide, by decide, q_532 E.tb, E.tb.get 544 (by decide +kernel) (by decide +kernel), rfl⟩, ?_⟩
      · intro z hz
        rw [List.mem_singleton.mp hz]
        exact Or.inr ⟨by decide, "java/lang/IndexOutOfBoundsException", q_246 E.tb, E.tn ("java/lang/UnsupportedOperationException", "java/lang/IndexOutOfBoundsException") (by decide)⟩
      · refine j_astore E dL_run_17 (by decide) ?_
        refine j_iconst (v := 2) E dL_run_19 ci_2 ?_
        exact j_iret E hr dL_run_20 ⟨Nat.le_of_ble_eq_true rfl, Nat.le_of_ble_eq_true rfl⟩ ⟨by rw [hk], hc, g0, by rw [pt_p_run S a o (by rw [hk]; decide), hk]; exact Ok.thr ⟨gl, G, ad, rfl, K0, hI, I⟩, w1, hno, w2 out _ (if_pos rfl), fun z => absurd (hk.symm.trans z) (by decide)⟩
    · refine ⟨21, ⟨[⟨0, 10, 13, 21⟩, ⟨0, 10, 17, 60⟩], ⟨0, 10, 21, 15⟩, [], "java/lang/IllegalStateException", ht, ?_, by decide, by decide, q_134 E.tb, E.tb.get 216 (by decide +kernel) (by decide +kernel), rfl⟩, ?_⟩
      · intro z hz
        rcases List.mem_cons.mp hz with rfl | hz
        · exact Or.inr ⟨by decide, "java/lang/IndexOutOfBoundsException", q_246 E.tb, E.tn ("java/lang/IllegalStateException", "java/lang/IndexOutOfBoundsException") (by decide)⟩
        · rw [List.mem_singleton.mp hz]
          exact Or.inr ⟨by decide, "java/lang/UnsupportedOperationException", q_532 E.tb, E.tn ("java/lang/IllegalStateException", "java/lang/UnsupportedOperationException") (by decide)⟩
      · refine j_astore E dL_run_21 (by decide) ?_
        refine j_iconst (v := 3) E dL_run_23 ci_3 ?_
        exact j_iret E hr dL_run_24 ⟨Nat.le_of_ble_eq_true rfl, Nat.le_of_ble_eq_true rfl⟩ ⟨by rw [hk], hc, g0, by rw [pt_p_run S a o (by rw [hk]; decide), hk]; exact Ok.thr ⟨gl, G, ad, rfl, K0, hI, I⟩, w1, hno, w2 out _ (if_pos rfl), fun z => absurd (hk.symm.trans z) (by decide)⟩
  · obtain ⟨rfl, hz, hq⟩ := hp
    have hn1 : hc1 out = none := w4 out _ (if_pos rfl)
    refine j_i2l E dL_run_8 ?_
    refine s_last E (w3 out _ (if_pos rfl)) (vin_nI (n := 1) (k := 0) (by decide) (by decide)) dL_run_9 (fun h9 n9 u9 => ?_)
    refine j_goto (tgt := 25) E dL_run_10 (by decide) ?_
    refine j_iconst (v := 0) E dL_run_25 ci_0 ?_
    exact j_iret E hr dL_run_26 ⟨Nat.le_of_ble_eq_true rfl, Nat.le_of_ble_eq_true rfl⟩ ⟨by rw [hz], hc1, _, hq, fun x e he => (u9 x (fun q => by rw [q, hn1] at he; cases he)).trans (w2 x e he), hn1, n9, fun _ => fup_eq⟩
set_option maxHeartbeats 4000000 in
set_option maxRecDepth 100000 in
theorem h_order (l : Launch) (D : va_G) (S : St) (B a0 out : Nat) (hc : AH) (g0 : Nat → Int64) (hOk : Ok S B a0 hc) (hno : hc out = none) (mo : Int32) (r : Int32) (g : Int32) (w : Int32) : CtrW l D yL_order cL_order 7 (some .int) [(0, 14, 17, 21), (0, 14, 21, 13), (0, 14, 25, 15)] 8 139 11 5062 [.ref a0, .int mo, .int r, .int g, .int w, .ref out] (hup hc out (.inl (.long, (1, .inr (.inl g0))))) (fun _ => False) (HP (p_order S mo r g w) B a0 out) := by
  refine CtrW.of RL rfl (by decide) (Nat.le_of_ble_eq_true rfl) ?_
  intro sz p e s m below meth c E hin hr ht
  obtain ⟨gl, G, ad, rfl, K0, hI, I⟩ := hOk
  have hfr : ∀ x e9, oneL out g0 x = some e9 → hup hc out (.inl (.long, (1, .inr (.inl g0)))) x = some e9 ∧ hc x = none := fun x e9 he => by
    by_cases q : x = out
    · subst q; exact ⟨by rw [hup_eq]; rw [show oneL x g0 x = _ from if_pos rfl] at he; exact he, hno⟩
    · rw [show oneL out g0 x = none from if_neg q] at he; cases he
  have hsb : ∀ x e9, hc x = some e9 → hup hc out (.inl (.long, (1, .inr (.inl g0)))) x = some e9 := fun x e9 he => by rw [hup_ne (fun q => by rw [q, hno] at he; cases he)]; exact he
  refine j_aload E dL_order_0 rfl ?_
  refine j_iconst (v := 0) E dL_order_2 ci_0 ?_
  refine j_aload_n E dL_order_3 rfl ?_
  refine j_iload_n E dL_order_4 rfl ?_
  refine j_iload_n E dL_order_5 rfl ?_
  refine j_iload_n E dL_order_6 rfl ?_
  refine j_iload E dL_order_7 rfl ?_
  refine j_callVc E (hc := hc) (hr := oneL out g0) (k_order l D S gl G ad hc K0 B I hI mo r g w) hsb hfr (cw_L_65 E ⟨Nat.le_of_ble_eq_true rfl, Nat.le_of_ble_eq_true rfl, Nat.le_of_ble_eq_true rfl, Nat.le_of_ble_eq_true rfl, Nat.le_of_ble_eq_true rfl⟩) (q_585 E.tb) (q_586 E.tb) (hsb _ _ K0.x0) rfl rfl dL_order_9 rfl (fun Ex q9 h1 hx w1 w2 => ?_) (fun v9 hc1 h4 hp w2 w3 w4 => ?_)
  · rcases hx with ⟨rfl, hk⟩ | ⟨rfl, hk⟩ | ⟨rfl, hk⟩
    · refine ⟨17, ⟨[], ⟨0, 14, 17, 21⟩, [⟨0, 14, 21, 13⟩, ⟨0, 14, 25, 15⟩], "java/lang/IndexOutOfBoundsException", ht, ?_, by decide, by decide, q_246 E.tb, E.tb.get 280 (by decide +kernel) (by decide +kernel), rfl⟩, ?_⟩
      · intro z hz; cases hz
      · refine j_astore E dL_order_17 (by decide) ?_
        refine j_iconst (v := 1) E dL_order_19 ci_1 ?_
        exact j_iret E hr dL_order_20 ⟨Nat.le_of_ble_eq_true rfl, Nat.le_of_ble_eq_true rfl⟩ ⟨by rw [hk], hc, g0, by rw [pt_p_order S mo r g w (by rw [hk]; decide), hk]; exact Ok.thr ⟨gl, G, ad, rfl, K0, hI, I⟩, w1, hno, w2 out _ (if_pos rfl), fun z => absurd (hk.symm.trans z) (by decide)⟩
    · refine ⟨21, ⟨[⟨0, 14, 17, 21⟩], ⟨0, 14, 21, 13⟩, [⟨0, 14, 25, 15⟩], "java/lang/IllegalArgumentException", ht, ?_, by decide, by decide, q_133 E.tb, E.tb.get 144 (by decide +kernel) (by decide +kernel), rfl⟩, ?_⟩
      · intro z hz
        rw [List.mem_singleton.mp hz]
        exact Or.inr ⟨by decide, "java/lang/IndexOutOfBoundsException", q_246 E.tb, E.tn ("java/lang/IllegalArgumentException", "java/lang/IndexOutOfBoundsException") (by decide)⟩
      · refine j_astore E dL_order_21 (by decide) ?_
        refine j_iconst (v := 2) E dL_order_23 ci_2 ?_
        exact j_iret E hr dL_order_24 ⟨Nat.le_of_ble_eq_true rfl, Nat.le_of_ble_eq_true rfl⟩ ⟨by rw [hk], hc, g0, by rw [pt_p_order S mo r g w (by rw [hk]; decide), hk]; exact Ok.thr ⟨gl, G, ad, rfl, K0, hI, I⟩, w1, hno, w2 out _ (if_pos rfl), fun z => absurd (hk.symm.trans z) (by decide)⟩
    · refine ⟨25, ⟨[⟨0, 14, 17, 21⟩, ⟨0, 14, 21, 13⟩], ⟨0, 14, 25, 15⟩, [], "java/lang/IllegalStateException", ht, ?_, by decide, by decide, q_134 E.tb, E.tb.get 216 (by decide +kernel) (by decide +kernel), rfl⟩, ?_⟩
      · intro z hz
        rcases List.mem_cons.mp hz with rfl | hz
        · exact Or.inr ⟨by decide, "java/lang/IndexOutOfBoundsException", q_246 E.tb, E.tn ("java/lang/IllegalStateException", "java/lang/IndexOutOfBoundsException") (by decide)⟩
        · rw [List.mem_singleton.mp hz]
          exact Or.inr ⟨by decide, "java/lang/IllegalArgumentException", q_133 E.tb, E.tn ("java/lang/IllegalStateException", "java/lang/IllegalArgumentException") (by decide)⟩
      · refine j_astore E dL_order_25 (by decide) ?_
        refine j_iconst (v := 3) E dL_order_27 ci_3 ?_
        exact j_iret E hr dL_order_28 ⟨Nat.le_of_ble_eq_true rfl, Nat.le_of_ble_eq_true rfl⟩ ⟨by rw [hk], hc, g0, by rw [pt_p_order S mo r g w (by rw [hk]; decide), hk]; exact Ok.thr ⟨gl, G, ad, rfl, K0, hI, I⟩, w1, hno, w2 out _ (if_pos rfl), fun z => absurd (hk.symm.trans z) (by decide)⟩
  · obtain ⟨rfl, hz, hq⟩ := hp
    have hn1 : hc1 out = none := w4 out _ (if_pos rfl)
    refine j_i2l E dL_order_12 ?_
    refine s_last E (w3 out _ (if_pos rfl)) (vin_nI (n := 1) (k := 0) (by decide) (by decide)) dL_order_13 (fun h13 n13 u13 => ?_)
    refine j_goto (tgt := 29) E dL_order_14 (by decide) ?_
    refine j_iconst (v := 0) E dL_order_29 ci_0 ?_
    exact j_iret E hr dL_order_30 ⟨Nat.le_of_ble_eq_true rfl, Nat.le_of_ble_eq_true rfl⟩ ⟨by rw [hz], hc1, _, hq, fun x e he => (u13 x (fun q => by rw [q, hn1] at he; cases he)).trans (w2 x e he), hn1, n13, fun _ => fup_eq⟩
set_option maxHeartbeats 4000000 in
set_option maxRecDepth 100000 in
theorem h_lacks (l : Launch) (D : va_G) (S : St) (B a0 out : Nat) (hc : AH) (g0 : Nat → Int64) (hOk : Ok S B a0 hc) (hno : hc out = none) (x : Int32) : CtrW l D yL_lacks cL_lacks 4 (some .int) [(0, 9, 12, 21)] 8 133 2 12 [.ref a0, .int x, .ref out] (hup hc out (.inl (.long, (1, .inr (.inl g0))))) (fun _ => False) (HP (p_lacks S x) B a0 out) := by
  refine CtrW.of RL rfl (by decide) (Nat.le_of_ble_eq_true rfl) ?_
  intro sz p e s m below meth c E hin hr ht
  obtain ⟨gl, G, ad, rfl, K0, hI, I⟩ := hOk
  have hfr : ∀ x e9, oneL out g0 x = some e9 → hup hc out (.inl (.long, (1, .inr (.inl g0)))) x = some e9 ∧ hc x = none := fun x e9 he => by
    by_cases q : x = out
    · subst q; exact ⟨by rw [hup_eq]; rw [show oneL x g0 x = _ from if_pos rfl] at he; exact he, hno⟩
    · rw [show oneL out g0 x = none from if_neg q] at he; cases he
  have hsb : ∀ x e9, hc x = some e9 → hup hc out (.inl (.long, (1, .inr (.inl g0)))) x = some e9 := fun x e9 he => by rw [hup_ne (fun q => by rw [q, hno] at he; cases he)]; exact he
  refine j_aload_n E dL_lacks_0 rfl ?_
  refine j_iconst (v := 0) E dL_lacks_1 ci_0 ?_
  refine j_aload_n E dL_lacks_2 rfl ?_
  refine j_iload_n E dL_lacks_3 rfl ?_
  refine j_callVc E (hc := hc) (hr := oneL out g0) (k_lacks l D S gl G ad hc K0 B I hI x) hsb hfr (cw_L_69 E ⟨Nat.le_of_ble_eq_true rfl, Nat.le_of_ble_eq_true rfl, Nat.le_of_ble_eq_true rfl, Nat.le_of_ble_eq_true rfl, Nat.le_of_ble_eq_true rfl⟩) (q_632 E.tb) (q_633 E.tb) (hsb _ _ K0.x0) rfl rfl dL_lacks_4 rfl (fun Ex q9 h1 hx w1 w2 => ?_) (fun v4 hc1 h4 hp w2 w3 w4 => ?_)
  · obtain ⟨rfl, hk⟩ := hx
    · refine ⟨12, ⟨[], ⟨0, 9, 12, 21⟩, [], "java/lang/IndexOutOfBoundsException", ht, ?_, by decide, by decide, q_246 E.tb, E.tb.get 280 (by decide +kernel) (by decide +kernel), rfl⟩, ?_⟩
      · intro z hz; cases hz
      · refine j_astore_n E dL_lacks_12 (by decide) ?_
        refine j_iconst (v := 1) E dL_lacks_13 ci_1 ?_
        exact j_iret E hr dL_lacks_14 ⟨Nat.le_of_ble_eq_true rfl, Nat.le_of_ble_eq_true rfl⟩ ⟨by rw [hk], hc, g0, by rw [pl_p_lacks, hk]; exact Ok.thr ⟨gl, G, ad, rfl, K0, hI, I⟩, w1, hno, w2 out _ (if_pos rfl), fun z => absurd (hk.symm.trans z) (by decide)⟩
  · obtain ⟨rfl, hz, rfl⟩ := hp
    have hn1 : hc out = none := hno
    refine j_i2l E dL_lacks_7 ?_
    refine s_last E (w3 out _ (if_pos rfl)) (vin_nI (n := 1) (k := 0) (by decide) (by decide)) dL_lacks_8 (fun h8 n8 u8 => ?_)
    refine j_goto (tgt := 15) E dL_lacks_9 (by decide) ?_
    refine j_iconst (v := 0) E dL_lacks_15 ci_0 ?_
    exact j_iret E hr dL_lacks_16 ⟨Nat.le_of_ble_eq_true rfl, Nat.le_of_ble_eq_true rfl⟩ ⟨by rw [hz], hc, _, (by rw [pl_p_lacks, hz]; exact Ok.thr ⟨gl, G, ad, rfl, K0, hI, I⟩), fun x e he => (u8 x (fun q => by rw [q, hn1] at he; cases he)).trans (w2 x e he), hn1, n8, fun _ => fup_eq⟩
set_option maxHeartbeats 4000000 in
set_option maxRecDepth 100000 in
theorem h_hoursNeeded (l : Launch) (D : va_G) (S : St) (B a0 out : Nat) (hc : AH) (g0 : Nat → Int64) (hOk : Ok S B a0 hc) (hno : hc out = none) (x : Int32) : CtrW l D yL_hoursNeeded cL_hoursNeeded 4 (some .int) [(0, 9, 12, 21), (0, 9, 15, 52)] 8 135 3 18 [.ref a0, .int x, .ref out] (hup hc out (.inl (.long, (1, .inr (.inl g0))))) (fun _ => False) (HP (p_hoursNeeded S x) B a0 out) := by
  refine CtrW.of RL rfl (by decide) (Nat.le_of_ble_eq_true rfl) ?_
  intro sz p e s m below meth c E hin hr ht
  obtain ⟨gl, G, ad, rfl, K0, hI, I⟩ := hOk
  have hfr : ∀ x e9, oneL out g0 x = some e9 → hup hc out (.inl (.long, (1, .inr (.inl g0)))) x = some e9 ∧ hc x = none := fun x e9 he => by
    by_cases q : x = out
    · subst q; exact ⟨by rw [hup_eq]; rw [show oneL x g0 x = _ from if_pos rfl] at he; exact he, hno⟩
    · rw [show oneL out g0 x = none from if_neg q] at he; cases he
  have hsb : ∀ x e9, hc x = some e9 → hup hc out (.inl (.long, (1, .inr (.inl g0)))) x = some e9 := fun x e9 he => by rw [hup_ne (fun q => by rw [q, hno] at he; cases he)]; exact he
  refine j_aload_n E dL_hoursNeeded_0 rfl ?_
  refine j_iconst (v := 0) E dL_hoursNeeded_1 ci_0 ?_
  refine j_aload_n E dL_hoursNeeded_2 rfl ?_
  refine j_iload_n E dL_hoursNeeded_3 rfl ?_
  refine j_callVc E (hc := hc) (hr := oneL out g0) (k_hoursNeeded l D S gl G ad hc K0 B I hI x) hsb hfr (cw_L_72 E ⟨Nat.le_of_ble_eq_true rfl, Nat.le_of_ble_eq_true rfl, Nat.le_of_ble_eq_true rfl, Nat.le_of_ble_eq_true rfl, Nat.le_of_ble_eq_true rfl⟩) (q_639 E.tb) (q_640 E.tb) (hsb _ _ K0.x0) rfl rfl dL_hoursNeeded_4 rfl (fun Ex q9 h1 hx w1 w2 => ?_) (fun v4 hc1 h4 hp w2 w3 w4 => ?_)
  · rcases hx with ⟨rfl, hk⟩ | ⟨rfl, hk⟩
    · refine ⟨12, ⟨[], ⟨0, 9, 12, 21⟩, [⟨0, 9, 15, 52⟩], "java/lang/IndexOutOfBoundsException", ht, ?_, by decide, by decide, q_246 E.tb, E.tb.get 280 (by decide +kernel) (by decide +kernel), rfl⟩, ?_⟩
      · intro z hz; cases hz
      · refine j_astore_n E dL_hoursNeeded_12 (by decide) ?_
        refine j_iconst (v := 1) E dL_hoursNeeded_13 ci_1 ?_
        exact j_iret E hr dL_hoursNeeded_14 ⟨Nat.le_of_ble_eq_true rfl, Nat.le_of_ble_eq_true rfl⟩ ⟨by rw [hk], hc, g0, by rw [pl_p_hoursNeeded, hk]; exact Ok.thr ⟨gl, G, ad, rfl, K0, hI, I⟩, w1, hno, w2 out _ (if_pos rfl), fun z => absurd (hk.symm.trans z) (by decide)⟩
    · refine ⟨15, ⟨[⟨0, 9, 12, 21⟩], ⟨0, 9, 15, 52⟩, [], "java/util/NoSuchElementException", ht, ?_, by decide, by decide, q_483 E.tb, E.tb.get 491 (by decide +kernel) (by decide +kernel), rfl⟩, ?_⟩
      · intro z hz
        rw [List.mem_singleton.mp hz]
        exact Or.inr ⟨by decide, "java/lang/IndexOutOfBoundsException", q_246 E.tb, E.tn ("java/util/NoSuchElementException", "java/lang/IndexOutOfBoundsException") (by decide)⟩
      · refine j_astore_n E dL_hoursNeeded_15 (by decide) ?_
        refine j_iconst (v := 2) E dL_hoursNeeded_16 ci_2 ?_
        exact j_iret E hr dL_hoursNeeded_17 ⟨Nat.le_of_ble_eq_true rfl, Nat.le_of_ble_eq_true rfl⟩ ⟨by rw [hk], hc, g0, by rw [pl_p_hoursNeeded, hk]; exact Ok.thr ⟨gl, G, ad, rfl, K0, hI, I⟩, w1, hno, w2 out _ (if_pos rfl), fun z => absurd (hk.symm.trans z) (by decide)⟩
  · obtain ⟨rfl, hz, rfl⟩ := hp
    have hn1 : hc out = none := hno
    refine j_i2l E dL_hoursNeeded_7 ?_
    refine s_last E (w3 out _ (if_pos rfl)) (vin_nI (n := 1) (k := 0) (by decide) (by decide)) dL_hoursNeeded_8 (fun h8 n8 u8 => ?_)
    refine j_goto (tgt := 18) E dL_hoursNeeded_9 (by decide) ?_
    refine j_iconst (v := 0) E dL_hoursNeeded_18 ci_0 ?_
    exact j_iret E hr dL_hoursNeeded_19 ⟨Nat.le_of_ble_eq_true rfl, Nat.le_of_ble_eq_true rfl⟩ ⟨by rw [hz], hc, _, (by rw [pl_p_hoursNeeded, hz]; exact Ok.thr ⟨gl, G, ad, rfl, K0, hI, I⟩), fun x e he => (u8 x (fun q => by rw [q, hn1] at he; cases he)).trans (w2 x e he), hn1, n8, fun _ => fup_eq⟩
set_option maxHeartbeats 4000000 in
set_option maxRecDepth 100000 in
theorem h_shots (l : Launch) (D : va_G) (S : St) (B a0 out : Nat) (hc : AH) (g0 : Nat → Int64) (hOk : Ok S B a0 hc) (hno : hc out = none) (x : Int32) : CtrW l D yL_shots cL_shots 4 (some .int) [(0, 9, 12, 21)] 8 133 2 12 [.ref a0, .int x, .ref out] (hup hc out (.inl (.long, (1, .inr (.inl g0))))) (fun _ => False) (HP (p_shots S x) B a0 out) := by
  refine CtrW.of RL rfl (by decide) (Nat.le_of_ble_eq_true rfl) ?_
  intro sz p e s m below meth c E hin hr ht
  obtain ⟨gl, G, ad, rfl, K0, hI, I⟩ := hOk
  have hfr : ∀ x e9, oneL out g0 x = some e9 → hup hc out (.inl (.long, (1, .inr (.inl g0)))) x = some e9 ∧ hc x = none := fun x e9 he => by
    by_cases q : x = out
    · subst q; exact ⟨by rw [hup_eq]; rw [show oneL x g0 x = _ from if_pos rfl] at he; exact he, hno⟩
    · rw [show oneL out g0 x = none from if_neg q] at he; cases he
  have hsb : ∀ x e9, hc x = some e9 → hup hc out (.inl (.long, (1, .inr (.inl g0)))) x = some e9 := fun x e9 he => by rw [hup_ne (fun q => by rw [q, hno] at he; cases he)]; exact he
  refine j_aload_n E dL_shots_0 rfl ?_
  refine j_iconst (v := 0) E dL_shots_1 ci_0 ?_
  refine j_aload_n E dL_shots_2 rfl ?_
  refine j_iload_n E dL_shots_3 rfl ?_
  refine j_callVc E (hc := hc) (hr := oneL out g0) (k_shots l D S gl G ad hc K0 B I hI x) hsb hfr (cw_L_75 E ⟨Nat.le_of_ble_eq_true rfl, Nat.le_of_ble_eq_true rfl, Nat.le_of_ble_eq_true rfl, Nat.le_of_ble_eq_true rfl, Nat.le_of_ble_eq_true rfl⟩) (q_650 E.tb) (q_651 E.tb) (hsb _ _ K0.x0) rfl rfl dL_shots_4 rfl (fun Ex q9 h1 hx w1 w2 => ?_) (fun v4 hc1 h4 hp w2 w3 w4 => ?_)
  · obtain ⟨rfl, hk⟩ := hx
    · refine ⟨12, ⟨[], ⟨0, 9, 12, 21⟩, [], "java/lang/IndexOutOfBoundsException", ht, ?_, by decide, by decide, q_246 E.tb, E.tb.get 280 (by decide +kernel) (by decide +kernel), rfl⟩, ?_⟩
      · intro z hz; cases hz
      · refine j_astore_n E dL_shots_12 (by decide) ?_
        refine j_iconst (v := 1) E dL_shots_13 ci_1 ?_
        exact j_iret E hr dL_shots_14 ⟨Nat.le_of_ble_eq_true rfl, Nat.le_of_ble_eq_true rfl⟩ ⟨by rw [hk], hc, g0, by rw [pl_p_shots, hk]; exact Ok.thr ⟨gl, G, ad, rfl, K0, hI, I⟩, w1, hno, w2 out _ (if_pos rfl), fun z => absurd (hk.symm.trans z) (by decide)⟩
  · obtain ⟨rfl, hz, rfl⟩ := hp
    have hn1 : hc out = none := hno
    refine j_i2l E dL_shots_7 ?_
    refine s_last E (w3 out _ (if_pos rfl)) (vin_nI (n := 1) (k := 0) (by decide) (by decide)) dL_shots_8 (fun h8 n8 u8 => ?_)
    refine j_goto (tgt := 15) E dL_shots_9 (by decide) ?_
    refine j_iconst (v := 0) E dL_shots_15 ci_0 ?_
    exact j_iret E hr dL_shots_16 ⟨Nat.le_of_ble_eq_true rfl, Nat.le_of_ble_eq_true rfl⟩ ⟨by rw [hz], hc, _, (by rw [pl_p_shots, hz]; exact Ok.thr ⟨gl, G, ad, rfl, K0, hI, I⟩), fun x e he => (u8 x (fun q => by rw [q, hn1] at he; cases he)).trans (w2 x e he), hn1, n8, fun _ => fup_eq⟩
set_option maxHeartbeats 4000000 in
set_option maxRecDepth 100000 in
theorem h_regrindIn (l : Launch) (D : va_G) (S : St) (B a0 out : Nat) (hc : AH) (g0 : Nat → Int64) (hOk : Ok S B a0 hc) (hno : hc out = none) (x : Int32) : CtrW l D yL_regrindIn cL_regrindIn 4 (some .int) [(0, 8, 11, 21)] 8 133 2 12 [.ref a0, .int x, .ref out] (hup hc out (.inl (.long, (1, .inr (.inl g0))))) (fun _ => False) (HPl (p_regrindIn S x) B a0 out) := by
  refine CtrW.of RL rfl (by decide) (Nat.le_of_ble_eq_true rfl) ?_
  intro sz p e s m below meth c E hin hr ht
  obtain ⟨gl, G, ad, rfl, K0, hI, I⟩ := hOk
  have hfr : ∀ x e9, oneL out g0 x = some e9 → hup hc out (.inl (.long, (1, .inr (.inl g0)))) x = some e9 ∧ hc x = none := fun x e9 he => by
    by_cases q : x = out
    · subst q; exact ⟨by rw [hup_eq]; rw [show oneL x g0 x = _ from if_pos rfl] at he; exact he, hno⟩
    · rw [show oneL out g0 x = none from if_neg q] at he; cases he
  have hsb : ∀ x e9, hc x = some e9 → hup hc out (.inl (.long, (1, .inr (.inl g0)))) x = some e9 := fun x e9 he => by rw [hup_ne (fun q => by rw [q, hno] at he; cases he)]; exact he
  refine j_aload_n E dL_regrindIn_0 rfl ?_
  refine j_iconst (v := 0) E dL_regrindIn_1 ci_0 ?_
  refine j_aload_n E dL_regrindIn_2 rfl ?_
  refine j_iload_n E dL_regrindIn_3 rfl ?_
  refine j_callVc E (hc := hc) (hr := oneL out g0) (k_regrindIn l D S gl G ad hc K0 B I hI x) hsb hfr (cw_L_78 E ⟨Nat.le_of_ble_eq_true rfl, Nat.le_of_ble_eq_true rfl, Nat.le_of_ble_eq_true rfl, Nat.le_of_ble_eq_true rfl, Nat.le_of_ble_eq_true rfl⟩) (q_657 E.tb) (q_658 E.tb) (hsb _ _ K0.x0) rfl rfl dL_regrindIn_4 rfl (fun Ex q9 h1 hx w1 w2 => ?_) (fun v4 hc1 h4 hp w2 w3 w4 => ?_)
  · obtain ⟨rfl, hk⟩ := hx
    · refine ⟨11, ⟨[], ⟨0, 8, 11, 21⟩, [], "java/lang/IndexOutOfBoundsException", ht, ?_, by decide, by decide, q_246 E.tb, E.tb.get 280 (by decide +kernel) (by decide +kernel), rfl⟩, ?_⟩
      · intro z hz; cases hz
      · refine j_astore_n E dL_regrindIn_11 (by decide) ?_
        refine j_iconst (v := 1) E dL_regrindIn_12 ci_1 ?_
        exact j_iret E hr dL_regrindIn_13 ⟨Nat.le_of_ble_eq_true rfl, Nat.le_of_ble_eq_true rfl⟩ ⟨by rw [hk], hc, g0, by rw [pl_p_regrindIn, hk]; exact Ok.thr ⟨gl, G, ad, rfl, K0, hI, I⟩, w1, hno, w2 out _ (if_pos rfl), fun z => absurd (hk.symm.trans z) (by decide)⟩
  · obtain ⟨rfl, hz, rfl⟩ := hp
    have hn1 : hc out = none := hno
    refine s_last E (w3 out _ (if_pos rfl)) (vin_nI (n := 1) (k := 0) (by decide) (by decide)) dL_regrindIn_7 (fun h7 n7 u7 => ?_)
    refine j_goto (tgt := 14) E dL_regrindIn_8 (by decide) ?_
    refine j_iconst (v := 0) E dL_regrindIn_14 ci_0 ?_
    exact j_iret E hr dL_regrindIn_15 ⟨Nat.le_of_ble_eq_true rfl, Nat.le_of_ble_eq_true rfl⟩ ⟨by rw [hz], hc, _, (by rw [pl_p_regrindIn, hz]; exact Ok.thr ⟨gl, G, ad, rfl, K0, hI, I⟩), fun x e he => (u7 x (fun q => by rw [q, hn1] at he; cases he)).trans (w2 x e he), hn1, n7, fun _ => fup_eq⟩
set_option maxHeartbeats 4000000 in
set_option maxRecDepth 100000 in
theorem h_regrindByShots (l : Launch) (D : va_G) (S : St) (B a0 out : Nat) (hc : AH) (g0 : Nat → Int64) (hOk : Ok S B a0 hc) (hno : hc out = none) (x : Int32) : CtrW l D yL_regrindByShots cL_regrindByShots 4 (some .int) [(0, 8, 11, 21)] 8 133 2 12 [.ref a0, .int x, .ref out] (hup hc out (.inl (.long, (1, .inr (.inl g0))))) (fun _ => False) (HPl (p_regrindIn S x) B a0 out) := by
  refine CtrW.of RL rfl (by decide) (Nat.le_of_ble_eq_true rfl) ?_
  intro sz p e s m below meth c E hin hr ht
  obtain ⟨gl, G, ad, rfl, K0, hI, I⟩ := hOk
  have hfr : ∀ x e9, oneL out g0 x = some e9 → hup hc out (.inl (.long, (1, .inr (.inl g0)))) x = some e9 ∧ hc x = none := fun x e9 he => by
    by_cases q : x = out
    · subst q; exact ⟨by rw [hup_eq]; rw [show oneL x g0 x = _ from if_pos rfl] at he; exact he, hno⟩
    · rw [show oneL out g0 x = none from if_neg q] at he; cases he
  have hsb : ∀ x e9, hc x = some e9 → hup hc out (.inl (.long, (1, .inr (.inl g0)))) x = some e9 := fun x e9 he => by rw [hup_ne (fun q => by rw [q, hno] at he; cases he)]; exact he
  refine j_aload_n E dL_regrindByShots_0 rfl ?_
  refine j_iconst (v := 0) E dL_regrindByShots_1 ci_0 ?_
  refine j_aload_n E dL_regrindByShots_2 rfl ?_
  refine j_iload_n E dL_regrindByShots_3 rfl ?_
  refine j_callVc E (hc := hc) (hr := oneL out g0) (k_regrindByShots l D S gl G ad hc K0 B I hI x) hsb hfr (cw_L_82 E ⟨Nat.le_of_ble_eq_true rfl, Nat.le_of_ble_eq_true rfl, Nat.le_of_ble_eq_true rfl, Nat.le_of_ble_eq_true rfl, Nat.le_of_ble_eq_true rfl⟩) (q_664 E.tb) (q_665 E.tb) (hsb _ _ K0.x0) rfl rfl dL_regrindByShots_4 rfl (fun Ex q9 h1 hx w1 w2 => ?_) (fun v4 hc1 h4 hp w2 w3 w4 => ?_)
  · obtain ⟨rfl, hk⟩ := hx
    · refine ⟨11, ⟨[], ⟨0, 8, 11, 21⟩, [], "java/lang/IndexOutOfBoundsException", ht, ?_, by decide, by decide, q_246 E.tb, E.tb.get 280 (by decide +kernel) (by decide +kernel), rfl⟩, ?_⟩
      · intro z hz; cases hz
      · refine j_astore_n E dL_regrindByShots_11 (by decide) ?_
        refine j_iconst (v := 1) E dL_regrindByShots_12 ci_1 ?_
        exact j_iret E hr dL_regrindByShots_13 ⟨Nat.le_of_ble_eq_true rfl, Nat.le_of_ble_eq_true rfl⟩ ⟨by rw [hk], hc, g0, by rw [pl_p_regrindIn, hk]; exact Ok.thr ⟨gl, G, ad, rfl, K0, hI, I⟩, w1, hno, w2 out _ (if_pos rfl), fun z => absurd (hk.symm.trans z) (by decide)⟩
  · obtain ⟨rfl, hz, rfl⟩ := hp
    have hn1 : hc out = none := hno
    refine s_last E (w3 out _ (if_pos rfl)) (vin_nI (n := 1) (k := 0) (by decide) (by decide)) dL_regrindByShots_7 (fun h7 n7 u7 => ?_)
    refine j_goto (tgt := 14) E dL_regrindByShots_8 (by decide) ?_
    refine j_iconst (v := 0) E dL_regrindByShots_14 ci_0 ?_
    exact j_iret E hr dL_regrindByShots_15 ⟨Nat.le_of_ble_eq_true rfl, Nat.le_of_ble_eq_true rfl⟩ ⟨by rw [hz], hc, _, (by rw [pl_p_regrindIn, hz]; exact Ok.thr ⟨gl, G, ad, rfl, K0, hI, I⟩), fun x e he => (u7 x (fun q => by rw [q, hn1] at he; cases he)).trans (w2 x e he), hn1, n7, fun _ => fup_eq⟩
set_option maxHeartbeats 4000000 in
set_option maxRecDepth 100000 in
theorem h_greatestShare (l : Launch) (D : va_G) (S : St) (B a0 out : Nat) (hc : AH) (g0 : Nat → Int64) (hOk : Ok S B a0 hc) (hno : hc out = none) (x : Int32) : CtrW l D yL_greatestShare cL_greatestShare 4 (some .int) [(0, 9, 12, 21), (0, 9, 15, 52)] 8 134 3 18 [.ref a0, .int x, .ref out] (hup hc out (.inl (.long, (1, .inr (.inl g0))))) (fun _ => False) (HP (p_greatestShare S x) B a0 out) := by
  refine CtrW.of RL rfl (by decide) (Nat.le_of_ble_eq_true rfl) ?_
  intro sz p e s m below meth c E hin hr ht
  obtain ⟨gl, G, ad, rfl, K0, hI, I⟩ := hOk
  have hfr : ∀ x e9, oneL out g0 x = some e9 → hup hc out (.inl (.long, (1, .inr (.inl g0)))) x = some e9 ∧ hc x = none := fun x e9 he => by
    by_cases q : x = out
    · subst q; exact ⟨by rw [hup_eq]; rw [show oneL x g0 x = _ from if_pos rfl] at he; exact he, hno⟩
    · rw [show oneL out g0 x = none from if_neg q] at he; cases he
  have hsb : ∀ x e9, hc x = some e9 → hup hc out (.inl (.long, (1, .inr (.inl g0)))) x = some e9 := fun x e9 he => by rw [hup_ne (fun q => by rw [q, hno] at he; cases he)]; exact he
  refine j_aload_n E dL_greatestShare_0 rfl ?_
  refine j_iconst (v := 0) E dL_greatestShare_1 ci_0 ?_
  refine j_aload_n E dL_greatestShare_2 rfl ?_
  refine j_iload_n E dL_greatestShare_3 rfl ?_
  refine j_callVc E (hc := hc) (hr := oneL out g0) (k_greatestShare l D S gl G ad hc K0 B I hI x) hsb hfr (cw_L_85 E ⟨Nat.le_of_ble_eq_true rfl, Nat.le_of_ble_eq_true rfl, Nat.le_of_ble_eq_true rfl, Nat.le_of_ble_eq_true rfl, Nat.le_of_ble_eq_true rfl⟩) (q_678 E.tb) (q_679 E.tb) (hsb _ _ K0.x0) rfl rfl dL_greatestShare_4 rfl (fun Ex q9 h1 hx w1 w2 => ?_) (fun v4 hc1 h4 hp w2 w3 w4 => ?_)
  · rcases hx with ⟨rfl, hk⟩ | ⟨rfl, hk⟩
    · refine ⟨12, ⟨[], ⟨0, 9, 12, 21⟩, [⟨0, 9, 15, 52⟩], "java/lang/IndexOutOfBoundsException", ht, ?_, by decide, by decide, q_246 E.tb, E.tb.get 280 (by decide +kernel) (by decide +kernel), rfl⟩, ?_⟩
      · intro z hz; cases hz
      · refine j_astore_n E dL_greatestShare_12 (by decide) ?_
        refine j_iconst (v := 1) E dL_greatestShare_13 ci_1 ?_
        exact j_iret E hr dL_greatestShare_14 ⟨Nat.le_of_ble_eq_true rfl, Nat.le_of_ble_eq_true rfl⟩ ⟨by rw [hk], hc, g0, by rw [pl_p_greatestShare, hk]; exact Ok.thr ⟨gl, G, ad, rfl, K0, hI, I⟩, w1, hno, w2 out _ (if_pos rfl), fun z => absurd (hk.symm.trans z) (by decide)⟩
    · refine ⟨15, ⟨[⟨0, 9, 12, 21⟩], ⟨0, 9, 15, 52⟩, [], "java/util/NoSuchElementException", ht, ?_, by decide, by decide, q_483 E.tb, E.tb.get 491 (by decide +kernel) (by decide +kernel), rfl⟩, ?_⟩
      · intro z hz
        rw [List.mem_singleton.mp hz]
        exact Or.inr ⟨by decide, "java/lang/IndexOutOfBoundsException", q_246 E.tb, E.tn ("java/util/NoSuchElementException", "java/lang/IndexOutOfBoundsException") (by decide)⟩
      · refine j_astore_n E dL_greatestShare_15 (by decide) ?_
        refine j_iconst (v := 2) E dL_greatestShare_16 ci_2 ?_
        exact j_iret E hr dL_greatestShare_17 ⟨Nat.le_of_ble_eq_true rfl, Nat.le_of_ble_eq_true rfl⟩ ⟨by rw [hk], hc, g0, by rw [pl_p_greatestShare, hk]; exact Ok.thr ⟨gl, G, ad, rfl, K0, hI, I⟩, w1, hno, w2 out _ (if_pos rfl), fun z => absurd (hk.symm.trans z) (by decide)⟩
  · obtain ⟨rfl, hz, rfl⟩ := hp
    have hn1 : hc out = none := hno
    refine j_i2l E dL_greatestShare_7 ?_
    refine s_last E (w3 out _ (if_pos rfl)) (vin_nI (n := 1) (k := 0) (by decide) (by decide)) dL_greatestShare_8 (fun h8 n8 u8 => ?_)
    refine j_goto (tgt := 18) E dL_greatestShare_9 (by decide) ?_
    refine j_iconst (v := 0) E dL_greatestShare_18 ci_0 ?_
    exact j_iret E hr dL_greatestShare_19 ⟨Nat.le_of_ble_eq_true rfl, Nat.le_of_ble_eq_true rfl⟩ ⟨by rw [hz], hc, _, (by rw [pl_p_greatestShare, hz]; exact Ok.thr ⟨gl, G, ad, rfl, K0, hI, I⟩), fun x e he => (u8 x (fun q => by rw [q, hn1] at he; cases he)).trans (w2 x e he), hn1, n8, fun _ => fup_eq⟩
set_option maxHeartbeats 4000000 in
set_option maxRecDepth 100000 in
theorem h_pass (l : Launch) (D : va_G) (S : St) (a0 out : Nat) (hc : AH) (g0 : Nat → Int64) (hOk : Ok S (180 * nn (S.1 0 5 0)) a0 hc) (hno : hc out = none) (x : Int32) : CtrW l D yL_pass cL_pass 4 (some .int) [(0, 9, 12, 13), (0, 9, 15, 15)] 8 188 3 18 [.ref a0, .int x, .ref out] (hup hc out (.inl (.long, (1, .inr (.inl g0))))) (fun _ => False) (HP (p_pass S x) (180 * nn ((p_pass S x).1.1 0 5 0)) a0 out) := by
  refine CtrW.of RL rfl (by decide) (Nat.le_of_ble_eq_true rfl) ?_
  intro sz p e s m below meth c E hin hr ht
  obtain ⟨gl, G, ad, rfl, K0, hI, I⟩ := hOk
  have hfr : ∀ x e9, oneL out g0 x = some e9 → hup hc out (.inl (.long, (1, .inr (.inl g0)))) x = some e9 ∧ hc x = none := fun x e9 he => by
    by_cases q : x = out
    · subst q; exact ⟨by rw [hup_eq]; rw [show oneL x g0 x = _ from if_pos rfl] at he; exact he, hno⟩
    · rw [show oneL out g0 x = none from if_neg q] at he; cases he
  have hsb : ∀ x e9, hc x = some e9 → hup hc out (.inl (.long, (1, .inr (.inl g0)))) x = some e9 := fun x e9 he => by rw [hup_ne (fun q => by rw [q, hno] at he; cases he)]; exact he
  refine j_aload_n E dL_pass_0 rfl ?_
  refine j_iconst (v := 0) E dL_pass_1 ci_0 ?_
  refine j_aload_n E dL_pass_2 rfl ?_
  refine j_iload_n E dL_pass_3 rfl ?_
  refine j_callVc E (hc := hc) (hr := oneL out g0) (k_pass l D S gl G ad hc K0 I.cnt (180 * nn (S.1 0 5 0)) I (by have := I.hrs.2.2; omega) hI x) hsb hfr (cw_L_88 E ⟨Nat.le_of_ble_eq_true rfl, Nat.le_of_ble_eq_true rfl, Nat.le_of_ble_eq_true rfl, Nat.le_of_ble_eq_true rfl, Nat.le_of_ble_eq_true rfl⟩) (q_686 E.tb) (q_687 E.tb) (hsb _ _ K0.x0) rfl rfl dL_pass_4 rfl (fun Ex q9 h1 hx w1 w2 => ?_) (fun v4 hc1 h4 hp w2 w3 w4 => ?_)
  · rcases hx with ⟨rfl, hk⟩ | ⟨rfl, hk⟩
    · refine ⟨12, ⟨[], ⟨0, 9, 12, 13⟩, [⟨0, 9, 15, 15⟩], "java/lang/IllegalArgumentException", ht, ?_, by decide, by decide, q_133 E.tb, E.tb.get 144 (by decide +kernel) (by decide +kernel), rfl⟩, ?_⟩
      · intro z hz; cases hz
      · refine j_astore_n E dL_pass_12 (by decide) ?_
        refine j_iconst (v := 1) E dL_pass_13 ci_1 ?_
        exact j_iret E hr dL_pass_14 ⟨Nat.le_of_ble_eq_true rfl, Nat.le_of_ble_eq_true rfl⟩ ⟨by rw [hk], hc, g0, by rw [pt_p_pass S x (by rw [hk]; decide), hk]; exact Ok.thr ⟨gl, G, ad, rfl, K0, hI, I⟩, w1, hno, w2 out _ (if_pos rfl), fun z => absurd (hk.symm.trans z) (by decide)⟩
    · refine ⟨15, ⟨[⟨0, 9, 12, 13⟩], ⟨0, 9, 15, 15⟩, [], "java/lang/IllegalStateException", ht, ?_, by decide, by decide, q_134 E.tb, E.tb.get 216 (by decide +kernel) (by decide +kernel), rfl⟩, ?_⟩
      · intro z hz
        rw [List.mem_singleton.mp hz]
        exact Or.inr ⟨by decide, "java/lang/IllegalArgumentException", q_133 E.tb, E.tn ("java/lang/IllegalStateException", "java/lang/IllegalArgumentException") (by decide)⟩
      · refine j_astore_n E dL_pass_15 (by decide) ?_
        refine j_iconst (v := 2) E dL_pass_16 ci_2 ?_
        exact j_iret E hr dL_pass_17 ⟨Nat.le_of_ble_eq_true rfl, Nat.le_of_ble_eq_true rfl⟩ ⟨by rw [hk], hc, g0, by rw [pt_p_pass S x (by rw [hk]; decide), hk]; exact Ok.thr ⟨gl, G, ad, rfl, K0, hI, I⟩, w1, hno, w2 out _ (if_pos rfl), fun z => absurd (hk.symm.trans z) (by decide)⟩
  · obtain ⟨rfl, hz, ad9, G9, z1, z2, z3, z4⟩ := hp
    have hn1 : hc1 out = none := w4 out _ (if_pos rfl)
    refine j_i2l E dL_pass_7 ?_
    refine s_last E (w3 out _ (if_pos rfl)) (vin_nI (n := 1) (k := 0) (by decide) (by decide)) dL_pass_8 (fun h8 n8 u8 => ?_)
    refine j_goto (tgt := 18) E dL_pass_9 (by decide) ?_
    refine j_iconst (v := 0) E dL_pass_18 ci_0 ?_
    exact j_iret E hr dL_pass_19 ⟨Nat.le_of_ble_eq_true rfl, Nat.le_of_ble_eq_true rfl⟩ ⟨by rw [hz], hc1, _, ⟨gl, G9, ad9, z3 0 0 0 (by decide), z1, z2, by rw [pass_h I.hrs hz, Nat.mul_add]; exact z4⟩, fun x e he => (u8 x (fun q => by rw [q, hn1] at he; cases he)).trans (w2 x e he), hn1, n8, fun _ => fup_eq⟩
