/-! a new desk -/
/-- cells made one behind the other, beside an object that is being filled -/
def Bl (o : Nat) (L : List (Nat × AE)) (h : AH) : Prop := (∀ (i : Nat) (q : Nat × AE), L[i]? = some q → h q.1 = some q.2 ∧ q.1 ≠ o) ∧ (∀ (i j : Nat) (x y : Nat × AE), L[i]? = some x → L[j]? = some y → x.1 = y.1 → i = j)
theorem Bl.nil {o : Nat} {h : AH} : Bl o [] h := ⟨fun i q hq => (by cases hq), fun i j x y hx _ _ => (by cases hx)⟩
theorem Bl.obj {o : Nat} {L : List (Nat × AE)} {h h1 : AH} (B : Bl o L h) (u : ∀ x, x ≠ o → h1 x = h x) : Bl o L h1 := ⟨fun i q hq => ⟨(u _ (B.1 i q hq).2).trans (B.1 i q hq).1, (B.1 i q hq).2⟩, B.2⟩
theorem Bl.app {o : Nat} {L N : List (Nat × AE)} {h h1 : AH} {e0 : AE} (B : Bl o L h) (ho : h o = some e0) (hn : ∀ (i : Nat) (x : Nat × AE), N[i]? = some x → h x.1 = none ∧ h1 x.1 = some x.2) (hd : ∀ (i j : Nat) (x y : Nat × AE), N[i]? = some x → N[j]? = some y → x.1 = y.1 → i = j) (u : ∀ x : Nat, (∀ (i : Nat) (y : Nat × AE), N[i]? = some y → x ≠ y.1) → h1 x = h x) : Bl o (N ++ L) h1 := by
  have sp : ∀ (i : Nat) (q : Nat × AE), (N ++ L)[i]? = some q → (i < N.length ∧ N[i]? = some q) ∨ (N.length ≤ i ∧ L[i - N.length]? = some q) := fun i q hq => by
    rcases Nat.lt_or_ge i N.length with r | r
    · rw [List.getElem?_append_left r] at hq; exact Or.inl ⟨r, hq⟩
    · rw [List.getElem?_append_right r] at hq; exact Or.inr ⟨r, hq⟩
  refine ⟨fun i q hq => ?_, fun i j x y hx hy e => ?_⟩
  · rcases sp i q hq with ⟨_, r⟩ | ⟨_, r⟩
    · refine ⟨(hn i q r).2, fun e => ?_⟩
      have z := (hn i q r).1
      rw [e, ho] at z
      cases z
    · obtain ⟨z1, z2⟩ := B.1 _ q r
      refine ⟨(u _ (fun k y hy e => ?_)).trans z1, z2⟩
      have z := (hn k y hy).1
      rw [← e, z1] at z
      cases z
  · rcases sp i x hx with ⟨_, r⟩ | ⟨r1, r⟩
    · rcases sp j y hy with ⟨_, w⟩ | ⟨_, w⟩
      · exact hd i j x y r w e
      · exfalso
        have z := (hn i x r).1
        rw [e, (B.1 _ y w).1] at z
        cases z
    · rcases sp j y hy with ⟨_, w⟩ | ⟨w1, w⟩
      · exfalso
        have z := (hn j y w).1
        rw [← e, (B.1 _ x r).1] at z
        cases z
      · have := B.2 _ _ x y r w e
        omega
theorem Bl.add {o : Nat} {L : List (Nat × AE)} {h h1 : AH} {e0 e : AE} {a : Nat} (B : Bl o L h) (ho : h o = some e0) (fa : h a = none) (na : h1 a = some e) (u : ∀ x, x ≠ a → h1 x = h x) : Bl o ((a, e) :: L) h1 :=
  B.app (N := [(a, e)]) ho (fun i x hx => by cases i with | zero => (cases hx; exact ⟨fa, na⟩) | succ k => cases hx) (fun i j x y hx hy _ => by cases i with | zero => (cases j with | zero => rfl | succ k => cases hy) | succ k => cases hx) (fun x hx => u x (hx 0 (a, e) rfl))
theorem Bl.add2 {o : Nat} {L : List (Nat × AE)} {h h1 : AH} {e0 e e' : AE} {a q : Nat} (B : Bl o L h) (ho : h o = some e0) (fa : h a = none) (fq : h q = none) (hne : q ≠ a) (na : h1 a = some e) (nq : h1 q = some e') (u : ∀ x, x ≠ a → x ≠ q → h1 x = h x) : Bl o ((q, e') :: (a, e) :: L) h1 := by
  refine B.app (N := [(q, e'), (a, e)]) ho (fun i x hx => ?_) (fun i j x y hx hy e => ?_) (fun x hx => u x (hx 1 (a, _) rfl) (hx 0 (q, _) rfl))
  · match i, hx with
    | 0, hx => cases hx; exact ⟨fq, nq⟩
    | 1, hx => cases hx; exact ⟨fa, na⟩
    | k + 2, hx => cases hx
  · match i, j, hx, hy with
    | 0, 0, _, _ => rfl
    | 1, 1, _, _ => rfl
    | 0, 1, hx, hy => cases hx; cases hy; exact absurd e hne
    | 1, 0, hx, hy => cases hx; cases hy; exact absurd e.symm hne
    | k + 2, _, hx, _ => cases hx
    | _, k + 2, _, hy => cases hy
theorem Bl.at {o : Nat} {L : List (Nat × AE)} {h : AH} (B : Bl o L h) (i : Nat) {a : Nat} {e : AE} (hi : L[i]? = some (a, e)) : h a = some e := (B.1 i _ hi).1
def S0 : St := (fun _ _ _ => 0, fun _ _ => 0)
theorem Inv.zero : Inv S0 0 := by
  have r0 : ∀ b, Rg (0 : Int32) 0 b := fun b => ⟨e_0, Nat.zero_le _, by rw [nn_0]; exact Nat.zero_le _⟩
  refine ⟨⟨r0 4, r0 3, r0 5, r0 3, r0 8⟩, fun k hk => ?_, fun k hk => ?_, ⟨fun _ _ => Or.inl rfl, fun _ _ _ => ⟨rfl, rfl⟩⟩, ⟨fun k hk => ?_, fun k j hk _ _ _ => ?_⟩, ⟨fun k hk => ?_, fun _ _ => ⟨rfl, rfl, rfl⟩⟩, ⟨fun _ => r0 _, fun _ _ => rfl⟩, ⟨r0 0, 0, rfl, by show nn (0 : Int32) ≤ 0; rw [nn_0]; exact Nat.le_refl _, Nat.zero_le _⟩, r0 300⟩
  all_goals exact absurd hk (by show ¬ k < nn (0 : Int32); rw [nn_0]; omega)
theorem IG.zero {gl : Nat → Nat} {G : Nat → Nat → Int32} : IG S0 gl G := fun i hi => absurd hi (by show ¬ i < nn (0 : Int32); rw [nn_0]; omega)
set_option maxHeartbeats 4000000 in
set_option maxRecDepth 100000 in
theorem k_X1_init (l : Launch) (D : va_G) (h : AH) (a : Nat) (hDr : h a = some (.inr (1, [.null, .int 0]))) : Ctr l D yX1_init cX1_init 1 none 1 20 1 3 [.ref a] h (fun _ => False) (fun r9 h' => r9 = none ∧ ∃ q, h q = none ∧ q ≠ a ∧ h' a = some (.inr (1, [.ref q, .int 0])) ∧ h' q = some (.inl (.object "MouldDesk$Lot", (3, .inr (.inr (.inr (.inr (fun _ => none))))))) ∧ ∀ z, z ≠ a → z ≠ q → h' z = h z) := by
  refine Ctr.of RX1 rfl (by decide) (Nat.le_of_ble_eq_true rfl) ?_
  intro sz p e s m below meth c E hin hr ht
  refine j_aload_n E dX1_init_0 rfl ?_
  refine j_objInit E (q_51 E.tb) (q_36 E.tb) (q_37 E.tb) dX1_init_1 ⟨Nat.le_of_ble_eq_true rfl, Nat.le_of_ble_eq_true rfl⟩ ?_
  refine j_aload_n E dX1_init_4 rfl ?_
  refine j_iconst (v := 3) E dX1_init_5 ci_3 ?_
  refine nq_X1_9 E (by decide) rfl (by decide) ⟨Nat.le_of_ble_eq_true rfl, Nat.le_of_ble_eq_true rfl⟩ dX1_init_6 (fun a6 h6 f6 n6 u6 => ?_)
  have hDr0 := hDr
  have hDr := (u6 _ (ne_fr hDr f6)).trans hDr
  refine pf_X1_11 E hDr (Nat.le_of_ble_eq_true rfl) hin dX1_init_9 (fun h9 hDr u9 => ?_)
  have hqa : a6 ≠ a := fun e => by rw [e] at f6; rw [f6] at hDr0; cases hDr0
  exact j_vret E hr dX1_init_12 ⟨Nat.le_of_ble_eq_true rfl, Nat.le_of_ble_eq_true rfl⟩ ⟨rfl, a6, f6, hqa, hDr, (u9 _ hqa).trans n6, fun z z1 z2 => (u9 z z1).trans (u6 z z2)⟩
set_option maxHeartbeats 4000000 in
set_option maxRecDepth 100000 in
theorem k_X7_init (l : Launch) (D : va_G) (h : AH) (o : Nat) (hDk : h o = some (.inr (7, [.null, .int 0, .null, .int 0, .null, .int 0, .null, .int 0, .null, .int 0, .int 0, .int 0, .long 0, .long 0]))) : Ctr l D yX7_init cX7_init 1 none 2 40 6 25 [.ref o] h (fun _ => False) (fun r9 h' => r9 = none ∧ Ok S0 0 o h') := by
  refine Ctr.of RX7 rfl (by decide) (Nat.le_of_ble_eq_true rfl) ?_
  intro sz p e s m below meth c E hin hr ht
  refine j_aload_n E dX7_init_0 rfl ?_
  refine j_objInit E (q_35 E.tb) (q_36 E.tb) (q_37 E.tb) dX7_init_1 ⟨Nat.le_of_ble_eq_true rfl, Nat.le_of_ble_eq_true rfl⟩ ?_
  have B0 : Bl o [] h := Bl.nil
  refine j_aload_n E dX7_init_4 rfl ?_
  refine j_iconst (v := 4) E dX7_init_5 ci_4 ?_
  refine nq_X7_9 E (by decide) rfl (by decide) ⟨Nat.le_of_ble_eq_true rfl, Nat.le_of_ble_eq_true rfl⟩ dX7_init_6 (fun a6 h6 f6 n6 u6 => ?_)
  have B0 := B0.add hDk f6 n6 u6
  have hDk := (u6 _ (ne_fr hDk f6)).trans hDk
  refine pf_X7_11 E hDk (Nat.le_of_ble_eq_true rfl) hin dX7_init_9 (fun h9 hDk u9 => ?_)
  have B0 := B0.obj u9
  refine j_aload_n E dX7_init_12 rfl ?_
  refine j_iconst (v := 5) E dX7_init_13 ci_5 ?_
  refine nq_X7_15 E (by decide) rfl (by decide) ⟨Nat.le_of_ble_eq_true rfl, Nat.le_of_ble_eq_true rfl⟩ dX7_init_14 (fun a14 h14 f14 n14 u14 => ?_)
  have B0 := B0.add hDk f14 n14 u14
  have hDk := (u14 _ (ne_fr hDk f14)).trans hDk
  refine pf_X7_17 E hDk (Nat.le_of_ble_eq_true rfl) hin dX7_init_17 (fun h17 hDk u17 => ?_)
  have B0 := B0.obj u17
  refine j_aload_n E dX7_init_20 rfl ?_
  refine j_iconst (v := 3) E dX7_init_21 ci_3 ?_
  refine nq_X7_21 E (by decide) rfl (by decide) ⟨Nat.le_of_ble_eq_true rfl, Nat.le_of_ble_eq_true rfl⟩ dX7_init_22 (fun a22 h22 f22 n22 u22 => ?_)
  have B0 := B0.add hDk f22 n22 u22
  have hDk := (u22 _ (ne_fr hDk f22)).trans hDk
  refine pf_X7_23 E hDk (Nat.le_of_ble_eq_true rfl) hin dX7_init_25 (fun h25 hDk u25 => ?_)
  have B0 := B0.obj u25
  refine j_aload_n E dX7_init_28 rfl ?_
  refine j_bipush (v := 8) E dX7_init_29 cb_8 ?_
  refine nq_X7_27 E (by decide) rfl (by decide) ⟨Nat.le_of_ble_eq_true rfl, Nat.le_of_ble_eq_true rfl⟩ dX7_init_31 (fun a31 h31 f31 n31 u31 => ?_)
  have B0 := B0.add hDk f31 n31 u31
  have hDk := (u31 _ (ne_fr hDk f31)).trans hDk
  refine pf_X7_29 E hDk (Nat.le_of_ble_eq_true rfl) hin dX7_init_34 (fun h34 hDk u34 => ?_)
  have B0 := B0.obj u34
  refine j_aload_n E dX7_init_37 rfl ?_
  refine nw_X7_33 E ⟨Nat.le_of_ble_eq_true rfl, Nat.le_of_ble_eq_true rfl⟩ dX7_init_38 (fun a38 h38 f38 n38 u38 => ?_)
  refine j_dup E dX7_init_41 rfl ?_
  refine j_callI E (k_X1_init l D _ a38 n38) (cw_X7_35 E ⟨Nat.le_of_ble_eq_true rfl, Nat.le_of_ble_eq_true rfl, Nat.le_of_ble_eq_true rfl, Nat.le_of_ble_eq_true rfl, Nat.le_of_ble_eq_true rfl⟩) (q_49 E.tb) rfl rfl dX7_init_42 rfl (fun v42 h42 p42 => ?_)
  obtain ⟨rfl, q9, f1, f2, g1, g3, g2⟩ := p42
  have fq := (u38 _ f2).symm.trans f1
  have hoa := ne_fr hDk f38
  have hoq := ne_fr hDk fq
  have B0 := B0.add2 hDk f38 fq f2 g1 g3 (fun z z1 z2 => (g2 z z1 z2).trans (u38 z z1))
  have hDk := (g2 _ hoa hoq).trans ((u38 _ hoa).trans hDk)
  refine pf_X7_36 E hDk (Nat.le_of_ble_eq_true rfl) hin dX7_init_45 (fun h45 hDk u45 => ?_)
  have B0 := B0.obj u45
  have hc : ∀ t i j, live S0 t i j → t ≤ 6 ∧ i = 0 ∧ j = 0 := fun t i j hv => by
    have z : ¬ i < nn (0 : Int32) := by rw [nn_0]; omega
    unfold live at hv
    split at hv <;> first | exact ⟨by decide, hv⟩ | exact absurd hv.1 z | exact hv.elim
  have rz : ∀ f : Nat → Nat, rfs (nn (0 : Int32)) f = fun _ => none := fun f => by rw [nn_0]; exact rfs_0
  have hat : ∀ t, t ≤ 6 → (t = 0 ∨ ∃ e, ([(q9, Sum.inl (FieldType.object "MouldDesk$Lot", (3, Sum.inr (Sum.inr (Sum.inr (Sum.inr (fun _ => none))))))), (a38, Sum.inr (1, [Value.ref q9, Value.int 0])), (a31, Sum.inl (FieldType.object "MouldDesk$Order", (8, Sum.inr (Sum.inr (Sum.inr (Sum.inr (fun _ => none))))))), (a22, Sum.inl (FieldType.object "MouldDesk$Machine", (3, Sum.inr (Sum.inr (Sum.inr (Sum.inr (fun _ => none))))))), (a14, Sum.inl (FieldType.object "MouldDesk$Mould", (5, Sum.inr (Sum.inr (Sum.inr (Sum.inr (fun _ => none))))))), (a6, Sum.inl (FieldType.object "MouldDesk$Resin", (4, Sum.inr (Sum.inr (Sum.inr (Sum.inr (fun _ => none)))))))] : List (Nat × AE))[6 - t]? = some ((fun t _ _ => match t with | 0 => o | 1 => a6 | 2 => a14 | 3 => a22 | 4 => a31 | 5 => a38 | _ => q9 : Ad) t 0 0, e)) := fun t ht => by
    match t, ht with
    | 0, _ => exact Or.inl rfl
    | 1, _ => exact Or.inr ⟨_, rfl⟩
    | 2, _ => exact Or.inr ⟨_, rfl⟩
    | 3, _ => exact Or.inr ⟨_, rfl⟩
    | 4, _ => exact Or.inr ⟨_, rfl⟩
    | 5, _ => exact Or.inr ⟨_, rfl⟩
    | 6, _ => exact Or.inr ⟨_, rfl⟩
    | k + 7, h7 => omega
  refine j_vret E hr dX7_init_48 ⟨Nat.le_of_ble_eq_true rfl, Nat.le_of_ble_eq_true rfl⟩ ⟨rfl, fun _ => 0, fun _ _ => 0, (fun t _ _ => match t with | 0 => o | 1 => a6 | 2 => a14 | 3 => a22 | 4 => a31 | 5 => a38 | _ => q9 : Ad), rfl, ⟨fun t i j hv => ?_, fun t i j t' i' j' hv hv' e => ?_⟩, IG.zero, Inv.zero⟩
  · obtain ⟨ht, rfl, rfl⟩ := hc t i j hv
    match t, ht with
    | 0, _ => exact hDk
    | 1, _ => exact (B0.at 5 rfl).trans (congrArg (fun f => (some (Sum.inl (FieldType.object "MouldDesk$Resin", ((4 : Nat), Sum.inr (Sum.inr (Sum.inr (Sum.inr f)))))) : Option AE)) (rz _).symm)
    | 2, _ => exact (B0.at 4 rfl).trans (congrArg (fun f => (some (Sum.inl (FieldType.object "MouldDesk$Mould", ((5 : Nat), Sum.inr (Sum.inr (Sum.inr (Sum.inr f)))))) : Option AE)) (rz _).symm)
    | 3, _ => exact (B0.at 3 rfl).trans (congrArg (fun f => (some (Sum.inl (FieldType.object "MouldDesk$Machine", ((3 : Nat), Sum.inr (Sum.inr (Sum.inr (Sum.inr f)))))) : Option AE)) (rz _).symm)
    | 4, _ => exact (B0.at 2 rfl).trans (congrArg (fun f => (some (Sum.inl (FieldType.object "MouldDesk$Order", ((8 : Nat), Sum.inr (Sum.inr (Sum.inr (Sum.inr f)))))) : Option AE)) (rz _).symm)
    | 5, _ => exact B0.at 1 rfl
    | 6, _ => exact (B0.at 0 rfl).trans (congrArg (fun f => (some (Sum.inl (FieldType.object "MouldDesk$Lot", ((3 : Nat), Sum.inr (Sum.inr (Sum.inr (Sum.inr f)))))) : Option AE)) (rz _).symm)
    | k + 7, h7 => omega
  · obtain ⟨ht, rfl, rfl⟩ := hc t i j hv
    obtain ⟨ht', rfl, rfl⟩ := hc t' i' j' hv'
    refine ⟨?_, rfl, rfl⟩
    rcases hat t ht with rfl | ⟨w, z⟩
    · rcases hat t' ht' with rfl | ⟨w', z'⟩
      · rfl
      · exact absurd e.symm (B0.1 _ _ z').2
    · rcases hat t' ht' with rfl | ⟨w', z'⟩
      · exact absurd e (B0.1 _ _ z).2
      · have := B0.2 _ _ _ _ z z' e
        omega
