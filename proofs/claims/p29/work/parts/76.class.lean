/-! the class: moulds are added -/
theorem rfs_fup {n b : Nat} {c : Nat → Nat} : fup (rfs n c) n (some b) = rfs (n + 1) (fun j => if j = n then b else c j) := by
  funext i
  unfold fup rfs
  by_cases q : i = n
  · subst q; rw [if_pos rfl, if_pos (by omega)]; show some b = some (if i = i then b else c i); rw [if_pos rfl]
  · rw [if_neg q]
    by_cases r : i < n
    · rw [if_pos r, if_pos (by omega)]; show some (c i) = some (if i = n then b else c i); rw [if_neg q]
    · rw [if_neg r, if_neg (by omega)]
theorem rfs_0 {c : Nat → Nat} : rfs 0 c = fun _ => none := by
  funext i
  exact if_neg (Nat.not_lt_zero _)
set_option maxHeartbeats 4000000 in
set_option maxRecDepth 100000 in
theorem k_X4_init (l : Launch) (D : va_G) (h : AH) (a : Nat) (num ca pa sp fo cy : Int32) (hca : Rg ca 1 8) (hMo : h a = some (.inr (4, [.int 0, .null, .int 0, .int 0, .int 0, .int 0, .int 0]))) : Ctr l D yX4_init cX4_init 8 none 2 40 9 32 [.ref a, .int num, .int ca, .int pa, .int sp, .int fo, .int cy] h (fun _ => False) (fun r9 h' => r9 = none ∧ ∃ (q : Nat) (c : Nat → Nat), h q = none ∧ q ≠ a ∧ h' a = some (.inr (4, [.int num, .ref q, .int pa, .int sp, .int fo, .int cy, .int 0])) ∧ h' q = some (.inl (.object "MouldDesk$Cavity", (nn ca, .inr (.inr (.inr (.inr (rfs (nn ca) c))))))) ∧ (∀ j, j < nn ca → h (c j) = none ∧ c j ≠ a ∧ c j ≠ q ∧ h' (c j) = some (.inr (0, [.int 0, .int 0, .int 9999]))) ∧ (∀ i j, i < nn ca → j < nn ca → c i = c j → i = j) ∧ ∀ z, z ≠ a → z ≠ q → (∀ j, j < nn ca → z ≠ c j) → h' z = h z) := by
  refine Ctr.of RX4 rfl (by decide) (Nat.le_of_ble_eq_true rfl) ?_
  intro sz p e s m below meth c E hin hr ht
  have hc8 := hca.2.2
  refine j_aload_n E dX4_init_0 rfl ?_
  refine j_objInit E (q_369 E.tb) (q_36 E.tb) (q_37 E.tb) dX4_init_1 ⟨Nat.le_of_ble_eq_true rfl, Nat.le_of_ble_eq_true rfl⟩ ?_
  refine j_aload_n E dX4_init_4 rfl ?_
  refine j_iload_n E dX4_init_5 rfl ?_
  refine pf_X4_9 E hMo (Nat.le_of_ble_eq_true rfl) hin dX4_init_6 (fun h6 hMo u6 => ?_)
  refine j_aload_n E dX4_init_9 rfl ?_
  refine j_iload_n E dX4_init_10 rfl ?_
  refine pf_X4_15 E hMo (Nat.le_of_ble_eq_true rfl) hin dX4_init_11 (fun h11 hMo u11 => ?_)
  refine j_aload_n E dX4_init_14 rfl ?_
  refine j_iload E dX4_init_15 rfl ?_
  refine pf_X4_18 E hMo (Nat.le_of_ble_eq_true rfl) hin dX4_init_17 (fun h17 hMo u17 => ?_)
  refine j_aload_n E dX4_init_20 rfl ?_
  refine j_iload E dX4_init_21 rfl ?_
  refine pf_X4_21 E hMo (Nat.le_of_ble_eq_true rfl) hin dX4_init_23 (fun h23 hMo u23 => ?_)
  refine j_aload_n E dX4_init_26 rfl ?_
  refine j_iload E dX4_init_27 rfl ?_
  refine pf_X4_24 E hMo (Nat.le_of_ble_eq_true rfl) hin dX4_init_29 (fun h29 hMo u29 => ?_)
  refine j_aload_n E dX4_init_32 rfl ?_
  refine j_iload_n E dX4_init_33 rfl ?_
  refine j_iconst (v := 0) E dX4_init_34 ci_0 ?_
  refine j_mmax E (q_370 E.tb) (q_338 E.tb) (q_12 E.tb) (q_339 E.tb) ⟨Nat.le_of_ble_eq_true rfl, Nat.le_of_ble_eq_true rfl, Nat.le_of_ble_eq_true rfl, Nat.le_of_ble_eq_true rfl⟩ dX4_init_35 ?_
  refine J.stk (congrArg (fun z => [Value.int z, .ref a]) (mx_pos hca.1)) ?_
  refine nq_X4_33 E (hca.wide (Nat.zero_le _) (Nat.le_refl _) |>.lt0 (by decide)) rfl (by show nn ca * 4 ≤ _; omega) ⟨Nat.le_of_ble_eq_true rfl, by show 0 + nn ca ≤ 32; omega⟩ dX4_init_38 (fun a38 h38 f38 n38 u38 => ?_)
  have hMo0 := hMo
  have hMo := (u38 _ (ne_fr hMo f38)).trans hMo
  refine pf_X4_35 E hMo (Nat.le_of_ble_eq_true rfl) hin dX4_init_41 (fun h41 hMo u41 => ?_)
  refine j_iconst (v := 0) E dX4_init_44 ci_0 ?_
  refine j_istore E dX4_init_45 (by decide) ?_
  have hqa : a38 ≠ a := fun e => by rw [e] at f38; rw [f38] at hMo0; cases hMo0
  have fq0 : h a38 = none := by
    rw [← u6 _ hqa, ← u11 _ hqa, ← u17 _ hqa, ← u23 _ hqa, ← u29 _ hqa]; exact f38
  have hq41 := (u41 _ hqa).trans n38
  have hu41 : ∀ z, z ≠ a → z ≠ a38 → h41 z = h z := fun z z1 z2 => (u41 z z1).trans ((u38 z z2).trans ((u29 z z1).trans ((u23 z z1).trans ((u17 z z1).trans ((u11 z z1).trans (u6 z z1))))))
  clear n38 u38 f38 u41 u29 u23 u17 u11 u6
  generalize a38 = q at *
  have K : ∀ (n : Nat) (y : Int32) (c1 : Nat → Nat) (h2 : AH), y = nI (nn y) → nn y + n = nn ca → h2 a = some (.inr (4, [.int num, .ref q, .int pa, .int sp, .int fo, .int cy, .int 0])) → h2 q = some (.inl (.object "MouldDesk$Cavity", (nn ca, .inr (.inr (.inr (.inr (rfs (nn y) c1))))))) → (∀ j, j < nn y → h (c1 j) = none ∧ c1 j ≠ a ∧ c1 j ≠ q ∧ h2 (c1 j) = some (.inr (0, [.int 0, .int 0, .int 9999]))) → (∀ i j, i < nn y → j < nn y → c1 i = c1 j → i = j) → (∀ z, z ≠ a → z ≠ q → (∀ j, j < nn y → z ≠ c1 j) → h2 z = h z) → J p l e { frames := 2, cells := 9, slots := 32, locals := 40 } s m [.ref a, .int num, .int ca, .int pa, .int sp, .int fo, .int cy].toArray below meth c D (Afr h sz) 8 (vx_MQ below (Qcs D h sz (fun r9 h' => r9 = none ∧ ∃ (q : Nat) (c : Nat → Nat), h q = none ∧ q ≠ a ∧ h' a = some (.inr (4, [.int num, .ref q, .int pa, .int sp, .int fo, .int cy, .int 0])) ∧ h' q = some (.inl (.object "MouldDesk$Cavity", (nn ca, .inr (.inr (.inr (.inr (rfs (nn ca) c))))))) ∧ (∀ j, j < nn ca → h (c j) = none ∧ c j ≠ a ∧ c j ≠ q ∧ h' (c j) = some (.inr (0, [.int 0, .int 0, .int 9999]))) ∧ (∀ i j, i < nn ca → j < nn ca → c i = c j → i = j) ∧ ∀ z, z ≠ a → z ≠ q → (∀ j, j < nn ca → z ≠ c j) → h' z = h z)) (Xcs D h sz (fun _ => False)) [.ref a, .int num, .int ca, .int pa, .int sp, .int fo, .int cy].toArray s 9 32 (Afr h sz)) (1 + nn y) (nn ca + 3 * nn y) h2 47 [(7, .int y), (0, .ref a)] [] := by
    intro n
    induction n with
    | zero =>
      intro y c1 h2 hy hn hM hq hc1 hi1 hu1
      have hc8 := hca.2.2
      refine j_iload E dX4_init_47 rfl ?_
      refine j_aload_n E dX4_init_49 rfl ?_
      refine gf_X4_35 E hM rfl dX4_init_50 ?_
      refine j_alen (v := ca) E hq hca.1.symm dX4_init_53 ?_
      refine j_icmp_ge (tgt := 77) E dX4_init_54 (by decide) (fun _ => ?_) (fun q => (q (ge_of hy hca.1 (by omega) (nn_lt y))).elim)
      have hyn : nn y = nn ca := hn
      rw [hyn] at hc1 hi1 hu1 hq
      exact j_vret E hr dX4_init_77 ⟨by show 1 + nn y ≤ 9; omega, by show nn ca + 3 * nn y ≤ 32; omega⟩ ⟨rfl, q, c1, fq0, hqa, hM, hq, hc1, hi1, hu1⟩
    | succ n ih =>
      intro y c1 h2 hy hn hM hq hc1 hi1 hu1
      have hc8 := hca.2.2
      have hlt : nn y < nn ca := by omega
      refine j_iload E dX4_init_47 rfl ?_
      refine j_aload_n E dX4_init_49 rfl ?_
      refine gf_X4_35 E hM rfl dX4_init_50 ?_
      refine j_alen (v := ca) E hq hca.1.symm dX4_init_53 ?_
      refine j_icmp_ge (tgt := 77) E dX4_init_54 (by decide) (fun q => (nge_of hy hca.1 hlt (nn_lt _) q).elim) (fun _ => ?_)
      refine j_aload_n E dX4_init_57 rfl ?_
      refine gf_X4_35 E hM rfl dX4_init_58 ?_
      refine j_iload E dX4_init_61 rfl ?_
      refine nw_X4_33 E ⟨by show 1 + nn y + 1 ≤ 9; omega, by show nn ca + 3 * nn y + 3 ≤ 32; omega⟩ dX4_init_63 (fun a63 h63 f63 n63 u63 => ?_)
      refine j_dup E dX4_init_66 rfl ?_
      refine j_callI E (k_X0_init l D _ a63 n63) (cw_X4_39 E ⟨Nat.le_of_ble_eq_true rfl, Nat.le_of_ble_eq_true rfl, by show 1 + nn y + 1 + 0 ≤ 9; omega, by show nn ca + 3 * nn y + 3 + 0 ≤ 32; omega, Nat.le_of_ble_eq_true rfl⟩) (q_375 E.tb) rfl rfl dX4_init_67 rfl (fun v67 h67 p67 => ?_)
      obtain ⟨rfl, g1, g2⟩ := p67
      have nab := ne_fr hM f63
      have nqb := ne_fr hq f63
      have hc2 : ∀ j, j < nn y → c1 j ≠ a63 := fun j hj => ne_fr (hc1 j hj).2.2.2 f63
      have hb0 : h a63 = none := by
        rw [← hu1 a63 (fun e => nab e.symm) (fun e => nqb e.symm) (fun j hj e => hc2 j hj e.symm)]; exact f63
      refine s_aast E ((g2 _ nqb).trans ((u63 _ nqb).trans hq)) g1 rfl (vin_of hy hlt (Nat.le_refl _) (by omega)) dX4_init_70 (fun h70 n70 u70 => ?_)
      refine j_iincK (k := 1) E ci_1 dX4_init_71 rfl (by decide) ?_
      refine j_goto (tgt := 47) E dX4_init_74 (by decide) ?_
      obtain ⟨a1, a2⟩ := nn_s hy hlt (by omega)
      have up70 : ∀ z, z ≠ a63 → z ≠ q → h70 z = h2 z := fun z z1 z2 => (u70 z z2).trans ((g2 z z1).trans (u63 z z1))
      refine J.wide (k := 1 + nn (y + 1)) (n := nn ca + 3 * nn (y + 1)) (by rw [a2]; omega) (by rw [a2]; omega) ?_
      refine J.sub (lo' := [(7, .int (y + 1)), (0, .ref a)]) ⟨rfl, rfl, trivial⟩ ?_
      refine ih (y + 1) (fun j => if j = nn y then a63 else c1 j) h70 a1 (by omega) ((up70 _ nab hqa.symm).trans hM) ?_ (fun j hj => ?_) (fun i j hi hj e => ?_) (fun z z1 z2 z3 => ?_)
      · rw [n70, a2]
        show some (Sum.inl (_, (_, Sum.inr (Sum.inr (Sum.inr (Sum.inr (fup (rfs (nn y) c1) (nn y) (some a63)))))))) = _
        rw [rfs_fup]
      · rw [a2] at hj
        show h (if j = nn y then a63 else c1 j) = none ∧ (if j = nn y then a63 else c1 j) ≠ a ∧ (if j = nn y then a63 else c1 j) ≠ q ∧ h70 (if j = nn y then a63 else c1 j) = _
        by_cases e : j = nn y
        · rw [if_pos e]; exact ⟨hb0, nab.symm, nqb.symm, (u70 _ nqb.symm).trans g1⟩
        · rw [if_neg e]
          obtain ⟨w1, w2, w3, w4⟩ := hc1 j (by omega)
          exact ⟨w1, w2, w3, (up70 _ (hc2 j (by omega)) w3).trans w4⟩
      · rw [a2] at hi hj
        have e : (if i = nn y then a63 else c1 i) = (if j = nn y then a63 else c1 j) := e
        by_cases w : i = nn y
        · by_cases w2 : j = nn y
          · omega
          · rw [if_pos w, if_neg w2] at e; exact absurd e.symm (hc2 j (by omega))
        · by_cases w2 : j = nn y
          · rw [if_neg w, if_pos w2] at e; exact absurd e (hc2 i (by omega))
          · rw [if_neg w, if_neg w2] at e; exact hi1 i j (by omega) (by omega) e
      · rw [a2] at z3
        have zb : z ≠ a63 := fun e => z3 (nn y) (by omega) (by show z = if nn y = nn y then a63 else c1 (nn y); rw [if_pos rfl]; exact e)
        exact (up70 z zb z2).trans (hu1 z z1 z2 (fun j hj e => z3 j (by omega) (by show z = if j = nn y then a63 else c1 j; rw [if_neg (by omega)]; exact e)))
  refine J.wide (k := 1 + nn 0) (n := nn ca + 3 * nn 0) (by rw [nn_0]; exact Nat.le_refl _) (by rw [nn_0]; show 0 + nn ca ≤ _; omega) ?_
  refine J.sub (lo' := [(7, .int 0), (0, .ref a)]) ⟨rfl, rfl, trivial⟩ ?_
  exact K (nn ca) 0 (fun _ => 0) h41 e_0 (by rw [nn_0]; omega) hMo (by rw [nn_0, rfs_0]; exact hq41) (fun j hj => by rw [nn_0] at hj; omega) (fun i j hi hj _ => by rw [nn_0] at hi; omega) (fun z z1 z2 _ => hu41 z z1 z2)
