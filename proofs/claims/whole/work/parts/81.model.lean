/-! a new model -/
theorem Bl.add6 {o : Nat} {L : List (Nat × AE)} {h h1 : AH} {e0 e f : AE} {q : Nat} (B : Bl o L h) (ho : h o = some e0) (fr : ∀ j, j < 6 → h (q + j) = none) (n : h1 q = some e) (r : ∀ i, i < 5 → h1 (q + 1 + i) = some f) (u : ∀ x, (∀ j, j < 6 → x ≠ q + j) → h1 x = h x) : Bl o ((q, e) :: (q + 1 + 0, f) :: (q + 1 + 1, f) :: (q + 1 + 2, f) :: (q + 1 + 3, f) :: (q + 1 + 4, f) :: L) h1 := by
  refine B.app (N := [(q, e), (q + 1 + 0, f), (q + 1 + 1, f), (q + 1 + 2, f), (q + 1 + 3, f), (q + 1 + 4, f)]) ho (fun i x hx => ?_) (fun i j x y hx hy e9 => ?_) (fun x hx => u x (fun j hj => ?_))
  · match i, hx with
    | 0, hx => cases hx; exact ⟨fr 0 (by decide), n⟩
    | 1, hx => cases hx; exact ⟨fr 1 (by decide), r 0 (by decide)⟩
    | 2, hx => cases hx; exact ⟨fr 2 (by decide), r 1 (by decide)⟩
    | 3, hx => cases hx; exact ⟨fr 3 (by decide), r 2 (by decide)⟩
    | 4, hx => cases hx; exact ⟨fr 4 (by decide), r 3 (by decide)⟩
    | 5, hx => cases hx; exact ⟨fr 5 (by decide), r 4 (by decide)⟩
    | k + 6, hx => cases hx
  · have pz : ∀ (i : Nat) (x : Nat × AE), [(q, e), (q + 1 + 0, f), (q + 1 + 1, f), (q + 1 + 2, f), (q + 1 + 3, f), (q + 1 + 4, f)][i]? = some x → x.1 = q + i := fun i x hx => by
      match i, hx with
      | 0, hx => cases hx; rfl
      | 1, hx => cases hx; rfl
      | 2, hx => cases hx; rfl
      | 3, hx => cases hx; rfl
      | 4, hx => cases hx; rfl
      | 5, hx => cases hx; rfl
      | k + 6, hx => cases hx
    have z1 := pz i x hx
    have z2 := pz j y hy
    omega
  · match j, hj with
    | 0, _ => exact hx 0 _ rfl
    | 1, _ => exact hx 1 _ rfl
    | 2, _ => exact hx 2 _ rfl
    | 3, _ => exact hx 3 _ rfl
    | 4, _ => exact hx 4 _ rfl
    | 5, _ => exact hx 5 _ rfl
    | k + 6, h7 => omega
def mpos (k : Nat) : Nat := [100, 37, 36, 35, 34, 33, 32, 31, 30, 29, 28, 22, 16, 10, 9, 8, 7, 6, 5, 4, 3, 2, 0, 1].getD k 0
def rpos (b i : Nat) : Nat := 23 - 6 * b + i
theorem mpos_i : ∀ k, k < 24 → ∀ k', k' < 24 → mpos k = mpos k' → k = k' := by decide
theorem mpos_r : ∀ k, k < 24 → ∀ b, b < 3 → ∀ i, i < 5 → mpos k ≠ rpos b i := by decide
theorem rpos_i : ∀ b, b < 3 → ∀ i, i < 5 → ∀ b', b' < 3 → ∀ i', i' < 5 → rpos b i = rpos b' i' → b = b' ∧ i = i' := by
  intro b hb i hi b' hb' i' hi' e
  unfold rpos at e
  omega
theorem Mdl.of_Bl {o : Nat} {L : List (Nat × AE)} {h : AH} (B : Bl o L h) {ad : Nat → Nat} {ar : Nat → Nat → Nat} (ho : ad 0 = o) (h0 : ∀ e, mcl S0 ad ar 0 = some e → h o = some e) (hk : ∀ k, 0 < k → k < 24 → ∃ e, L[mpos k]? = some (ad k, e) ∧ mcl S0 ad ar k = some e) (hr : ∀ b i, b < 3 → i < 5 → L[rpos b i]? = some (ar b i, rcl S0 b i)) : Mdl S0 ad ar h := by
  refine ⟨fun k e he => ?_, fun b i hb hi => (B.1 _ _ (hr b i hb hi)).1, fun k k' h1 h2 e => ?_, fun k b i h1 hb hi e => ?_, fun b i b' i' hb hi hb' hi' e => ?_⟩
  · rcases Nat.eq_zero_or_pos k with rfl | hp
    · rw [ho]; exact h0 e he
    · obtain ⟨f, z1, z2⟩ := hk k hp (mcl_lt he)
      rw [he] at z2
      cases z2
      exact (B.1 _ _ z1).1
  · rcases Nat.eq_zero_or_pos k with rfl | hp
    · rcases Nat.eq_zero_or_pos k' with rfl | hp'
      · rfl
      · obtain ⟨f, z1, _⟩ := hk k' hp' h2
        exact absurd (e.symm.trans ho) (B.1 _ _ z1).2
    · obtain ⟨f, z1, _⟩ := hk k hp h1
      rcases Nat.eq_zero_or_pos k' with rfl | hp'
      · exact absurd (e.trans ho) (B.1 _ _ z1).2
      · obtain ⟨f', z1', _⟩ := hk k' hp' h2
        exact mpos_i k h1 k' h2 (B.2 _ _ _ _ z1 z1' e)
  · have z := hr b i hb hi
    rcases Nat.eq_zero_or_pos k with rfl | hp
    · exact absurd (e.symm.trans ho) (B.1 _ _ z).2
    · obtain ⟨f, z1, _⟩ := hk k hp h1
      exact absurd (B.2 _ _ _ _ z1 z e) (mpos_r k h1 b hb i hi)
  · exact rpos_i b hb i hi b' hb' i' hi' (B.2 _ _ _ _ (hr b i hb hi) (hr b' i' hb' hi') e)
set_option maxHeartbeats 1600000 in
set_option maxRecDepth 100000 in
theorem k_X8_init (l : Launch) (D : va_G) (h : AH) (o : Nat) (hMd : h o = some (.inr (8, [.null, .null, .int 0, .null, .null, .null, .int 0, .null, .null, .null, .null, .null, .null, .null, .null, .int 0, .null, .null, .null, .int 0, .null, .null, .null, .null, .null, .null, .null, .int 0, .int 0, .int 0, .int 0, .long 0, .long 0, .int 0]))) : Ctr l D yX8_init cX8_init 1 none 1 20 41 400 [.ref o] h (fun _ => False) (fun r9 h' => r9 = none ∧ ∃ (ad : Nat → Nat) (ar : Nat → Nat → Nat), ad 0 = o ∧ Mdl S0 ad ar h') := by
  refine Ctr.of RX8 rfl (by decide) (Nat.le_of_ble_eq_true rfl) ?_
  intro sz p e s m below meth c E hin hr ht
  refine j_aload_n E dX8_init_0 rfl ?_
  refine j_objInit E (q_758 E.tb) (q_53 E.tb) (q_54 E.tb) dX8_init_1 ⟨Nat.le_of_ble_eq_true rfl, Nat.le_of_ble_eq_true rfl⟩ ?_
  have B0 : Bl o [] h := Bl.nil
  refine j_aload_n E dX8_init_4 rfl ?_
  refine j_iconst (v := 4) E dX8_init_5 ci_4 ?_
  refine na_int E (by decide) rfl (by decide) ⟨Nat.le_of_ble_eq_true rfl, Nat.le_of_ble_eq_true rfl⟩ dX8_init_6 (fun a6 h6 f6 n6 u6 => ?_)
  have B0 := B0.add hMd f6 n6 u6
  have hMd := (u6 _ (ne_fr hMd f6)).trans hMd
  refine pf_X8_9 E hMd (Nat.le_of_ble_eq_true rfl) hin dX8_init_8 (fun h8 hMd u8 => ?_)
  have B0 := B0.obj u8
  have hMd : h8 o = some (.inr (8, [.ref a6, .null, .int 0, .null, .null, .null, .int 0, .null, .null, .null, .null, .null, .null, .null, .null, .int 0, .null, .null, .null, .int 0, .null, .null, .null, .null, .null, .null, .null, .int 0, .int 0, .int 0, .int 0, .long 0, .long 0, .int 0])) := hMd
  refine j_aload_n E dX8_init_11 rfl ?_
  refine j_iconst (v := 4) E dX8_init_12 ci_4 ?_
  refine na_int E (by decide) rfl (by decide) ⟨Nat.le_of_ble_eq_true rfl, Nat.le_of_ble_eq_true rfl⟩ dX8_init_13 (fun a13 h13 f13 n13 u13 => ?_)
  have B0 := B0.add hMd f13 n13 u13
  have hMd := (u13 _ (ne_fr hMd f13)).trans hMd
  refine pf_X8_13 E hMd (Nat.le_of_ble_eq_true rfl) hin dX8_init_15 (fun h15 hMd u15 => ?_)
  have B0 := B0.obj u15
  have hMd : h15 o = some (.inr (8, [.ref a6, .ref a13, .int 0, .null, .null, .null, .int 0, .null, .null, .null, .null, .null, .null, .null, .null, .int 0, .null, .null, .null, .int 0, .null, .null, .null, .null, .null, .null, .null, .int 0, .int 0, .int 0, .int 0, .long 0, .long 0, .int 0])) := hMd
  refine j_aload_n E dX8_init_18 rfl ?_
  refine j_iconst (v := 3) E dX8_init_19 ci_3 ?_
  refine na_int E (by decide) rfl (by decide) ⟨Nat.le_of_ble_eq_true rfl, Nat.le_of_ble_eq_true rfl⟩ dX8_init_20 (fun a20 h20 f20 n20 u20 => ?_)
  have B0 := B0.add hMd f20 n20 u20
  have hMd := (u20 _ (ne_fr hMd f20)).trans hMd
  refine pf_X8_16 E hMd (Nat.le_of_ble_eq_true rfl) hin dX8_init_22 (fun h22 hMd u22 => ?_)
  have B0 := B0.obj u22
  have hMd : h22 o = some (.inr (8, [.ref a6, .ref a13, .int 0, .ref a20, .null, .null, .int 0, .null, .null, .null, .null, .null, .null, .null, .null, .int 0, .null, .null, .null, .int 0, .null, .null, .null, .null, .null, .null, .null, .int 0, .int 0, .int 0, .int 0, .long 0, .long 0, .int 0])) := hMd
  refine j_aload_n E dX8_init_25 rfl ?_
  refine j_iconst (v := 3) E dX8_init_26 ci_3 ?_
  refine na_int E (by decide) rfl (by decide) ⟨Nat.le_of_ble_eq_true rfl, Nat.le_of_ble_eq_true rfl⟩ dX8_init_27 (fun a27 h27 f27 n27 u27 => ?_)
  have B0 := B0.add hMd f27 n27 u27
  have hMd := (u27 _ (ne_fr hMd f27)).trans hMd
  refine pf_X8_19 E hMd (Nat.le_of_ble_eq_true rfl) hin dX8_init_29 (fun h29 hMd u29 => ?_)
  have B0 := B0.obj u29
  have hMd : h29 o = some (.inr (8, [.ref a6, .ref a13, .int 0, .ref a20, .ref a27, .null, .int 0, .null, .null, .null, .null, .null, .null, .null, .null, .int 0, .null, .null, .null, .int 0, .null, .null, .null, .null, .null, .null, .null, .int 0, .int 0, .int 0, .int 0, .long 0, .long 0, .int 0])) := hMd
  refine j_aload_n E dX8_init_32 rfl ?_
  refine j_iconst (v := 3) E dX8_init_33 ci_3 ?_
  refine na_int E (by decide) rfl (by decide) ⟨Nat.le_of_ble_eq_true rfl, Nat.le_of_ble_eq_true rfl⟩ dX8_init_34 (fun a34 h34 f34 n34 u34 => ?_)
  have B0 := B0.add hMd f34 n34 u34
  have hMd := (u34 _ (ne_fr hMd f34)).trans hMd
  refine pf_X8_22 E hMd (Nat.le_of_ble_eq_true rfl) hin dX8_init_36 (fun h36 hMd u36 => ?_)
  have B0 := B0.obj u36
  have hMd : h36 o = some (.inr (8, [.ref a6, .ref a13, .int 0, .ref a20, .ref a27, .ref a34, .int 0, .null, .null, .null, .null, .null, .null, .null, .null, .int 0, .null, .null, .null, .int 0, .null, .null, .null, .null, .null, .null, .null, .int 0, .int 0, .int 0, .int 0, .long 0, .long 0, .int 0])) := hMd
  refine j_aload_n E dX8_init_39 rfl ?_
  refine j_iconst (v := 5) E dX8_init_40 ci_5 ?_
  refine na_int E (by decide) rfl (by decide) ⟨Nat.le_of_ble_eq_true rfl, Nat.le_of_ble_eq_true rfl⟩ dX8_init_41 (fun a41 h41 f41 n41 u41 => ?_)
  have B0 := B0.add hMd f41 n41 u41
  have hMd := (u41 _ (ne_fr hMd f41)).trans hMd
  refine pf_X8_25 E hMd (Nat.le_of_ble_eq_true rfl) hin dX8_init_43 (fun h43 hMd u43 => ?_)
  have B0 := B0.obj u43
  have hMd : h43 o = some (.inr (8, [.ref a6, .ref a13, .int 0, .ref a20, .ref a27, .ref a34, .int 0, .ref a41, .null, .null, .null, .null, .null, .null, .null, .int 0, .null, .null, .null, .int 0, .null, .null, .null, .null, .null, .null, .null, .int 0, .int 0, .int 0, .int 0, .long 0, .long 0, .int 0])) := hMd
  refine j_aload_n E dX8_init_46 rfl ?_
  refine j_iconst (v := 5) E dX8_init_47 ci_5 ?_
  refine na_int E (by decide) rfl (by decide) ⟨Nat.le_of_ble_eq_true rfl, Nat.le_of_ble_eq_true rfl⟩ dX8_init_48 (fun a48 h48 f48 n48 u48 => ?_)
  have B0 := B0.add hMd f48 n48 u48
  have hMd := (u48 _ (ne_fr hMd f48)).trans hMd
  refine pf_X8_28 E hMd (Nat.le_of_ble_eq_true rfl) hin dX8_init_50 (fun h50 hMd u50 => ?_)
  have B0 := B0.obj u50
  have hMd : h50 o = some (.inr (8, [.ref a6, .ref a13, .int 0, .ref a20, .ref a27, .ref a34, .int 0, .ref a41, .ref a48, .null, .null, .null, .null, .null, .null, .int 0, .null, .null, .null, .int 0, .null, .null, .null, .null, .null, .null, .null, .int 0, .int 0, .int 0, .int 0, .long 0, .long 0, .int 0])) := hMd
  refine j_aload_n E dX8_init_53 rfl ?_
  refine j_iconst (v := 5) E dX8_init_54 ci_5 ?_
  refine na_int E (by decide) rfl (by decide) ⟨Nat.le_of_ble_eq_true rfl, Nat.le_of_ble_eq_true rfl⟩ dX8_init_55 (fun a55 h55 f55 n55 u55 => ?_)
  have B0 := B0.add hMd f55 n55 u55
  have hMd := (u55 _ (ne_fr hMd f55)).trans hMd
  refine pf_X8_31 E hMd (Nat.le_of_ble_eq_true rfl) hin dX8_init_57 (fun h57 hMd u57 => ?_)
  have B0 := B0.obj u57
  have hMd : h57 o = some (.inr (8, [.ref a6, .ref a13, .int 0, .ref a20, .ref a27, .ref a34, .int 0, .ref a41, .ref a48, .ref a55, .null, .null, .null, .null, .null, .int 0, .null, .null, .null, .int 0, .null, .null, .null, .null, .null, .null, .null, .int 0, .int 0, .int 0, .int 0, .long 0, .long 0, .int 0])) := hMd
  refine j_aload_n E dX8_init_60 rfl ?_
  refine j_iconst (v := 5) E dX8_init_61 ci_5 ?_
  refine na_int E (by decide) rfl (by decide) ⟨Nat.le_of_ble_eq_true rfl, Nat.le_of_ble_eq_true rfl⟩ dX8_init_62 (fun a62 h62 f62 n62 u62 => ?_)
  have B0 := B0.add hMd f62 n62 u62
  have hMd := (u62 _ (ne_fr hMd f62)).trans hMd
  refine pf_X8_34 E hMd (Nat.le_of_ble_eq_true rfl) hin dX8_init_64 (fun h64 hMd u64 => ?_)
  have B0 := B0.obj u64
  have hMd : h64 o = some (.inr (8, [.ref a6, .ref a13, .int 0, .ref a20, .ref a27, .ref a34, .int 0, .ref a41, .ref a48, .ref a55, .ref a62, .null, .null, .null, .null, .int 0, .null, .null, .null, .int 0, .null, .null, .null, .null, .null, .null, .null, .int 0, .int 0, .int 0, .int 0, .long 0, .long 0, .int 0])) := hMd
  refine j_aload_n E dX8_init_67 rfl ?_
  refine j_iconst (v := 5) E dX8_init_68 ci_5 ?_
  refine na_int E (by decide) rfl (by decide) ⟨Nat.le_of_ble_eq_true rfl, Nat.le_of_ble_eq_true rfl⟩ dX8_init_69 (fun a69 h69 f69 n69 u69 => ?_)
  have B0 := B0.add hMd f69 n69 u69
  have hMd := (u69 _ (ne_fr hMd f69)).trans hMd
  refine pf_X8_37 E hMd (Nat.le_of_ble_eq_true rfl) hin dX8_init_71 (fun h71 hMd u71 => ?_)
  have B0 := B0.obj u71
  have hMd : h71 o = some (.inr (8, [.ref a6, .ref a13, .int 0, .ref a20, .ref a27, .ref a34, .int 0, .ref a41, .ref a48, .ref a55, .ref a62, .ref a69, .null, .null, .null, .int 0, .null, .null, .null, .int 0, .null, .null, .null, .null, .null, .null, .null, .int 0, .int 0, .int 0, .int 0, .long 0, .long 0, .int 0])) := hMd
  refine j_aload_n E dX8_init_74 rfl ?_
  refine j_iconst (v := 5) E dX8_init_75 ci_5 ?_
  refine j_bipush (v := 8) E dX8_init_76 cb_8 ?_
  refine mna_z E ⟨Nat.le_of_ble_eq_true rfl, Nat.le_of_ble_eq_true rfl⟩ dX8_init_78 (fun a78 h78 f78 n78 r78 u78 => ?_)
  have B0 := B0.add6 hMd f78 n78 r78 u78
  have hMd := (u78 _ (fun j hj => ne_fr hMd (f78 j hj))).trans hMd
  refine pf_X8_42 E hMd (Nat.le_of_ble_eq_true rfl) hin dX8_init_82 (fun h82 hMd u82 => ?_)
  have B0 := B0.obj u82
  have hMd : h82 o = some (.inr (8, [.ref a6, .ref a13, .int 0, .ref a20, .ref a27, .ref a34, .int 0, .ref a41, .ref a48, .ref a55, .ref a62, .ref a69, .ref a78, .null, .null, .int 0, .null, .null, .null, .int 0, .null, .null, .null, .null, .null, .null, .null, .int 0, .int 0, .int 0, .int 0, .long 0, .long 0, .int 0])) := hMd
  refine j_aload_n E dX8_init_85 rfl ?_
  refine j_iconst (v := 5) E dX8_init_86 ci_5 ?_
  refine j_bipush (v := 8) E dX8_init_87 cb_8 ?_
  refine mna_i E ⟨Nat.le_of_ble_eq_true rfl, Nat.le_of_ble_eq_true rfl⟩ dX8_init_89 (fun a89 h89 f89 n89 r89 u89 => ?_)
  have B0 := B0.add6 hMd f89 n89 r89 u89
  have hMd := (u89 _ (fun j hj => ne_fr hMd (f89 j hj))).trans hMd
  refine pf_X8_47 E hMd (Nat.le_of_ble_eq_true rfl) hin dX8_init_93 (fun h93 hMd u93 => ?_)
  have B0 := B0.obj u93
  have hMd : h93 o = some (.inr (8, [.ref a6, .ref a13, .int 0, .ref a20, .ref a27, .ref a34, .int 0, .ref a41, .ref a48, .ref a55, .ref a62, .ref a69, .ref a78, .ref a89, .null, .int 0, .null, .null, .null, .int 0, .null, .null, .null, .null, .null, .null, .null, .int 0, .int 0, .int 0, .int 0, .long 0, .long 0, .int 0])) := hMd
  refine j_aload_n E dX8_init_96 rfl ?_
  refine j_iconst (v := 5) E dX8_init_97 ci_5 ?_
  refine j_bipush (v := 8) E dX8_init_98 cb_8 ?_
  refine mna_i E ⟨Nat.le_of_ble_eq_true rfl, Nat.le_of_ble_eq_true rfl⟩ dX8_init_100 (fun a100 h100 f100 n100 r100 u100 => ?_)
  have B0 := B0.add6 hMd f100 n100 r100 u100
  have hMd := (u100 _ (fun j hj => ne_fr hMd (f100 j hj))).trans hMd
  refine pf_X8_50 E hMd (Nat.le_of_ble_eq_true rfl) hin dX8_init_104 (fun h104 hMd u104 => ?_)
  have B0 := B0.obj u104
  have hMd : h104 o = some (.inr (8, [.ref a6, .ref a13, .int 0, .ref a20, .ref a27, .ref a34, .int 0, .ref a41, .ref a48, .ref a55, .ref a62, .ref a69, .ref a78, .ref a89, .ref a100, .int 0, .null, .null, .null, .int 0, .null, .null, .null, .null, .null, .null, .null, .int 0, .int 0, .int 0, .int 0, .long 0, .long 0, .int 0])) := hMd
  refine j_aload_n E dX8_init_107 rfl ?_
  refine j_iconst (v := 3) E dX8_init_108 ci_3 ?_
  refine na_int E (by decide) rfl (by decide) ⟨Nat.le_of_ble_eq_true rfl, Nat.le_of_ble_eq_true rfl⟩ dX8_init_109 (fun a109 h109 f109 n109 u109 => ?_)
  have B0 := B0.add hMd f109 n109 u109
  have hMd := (u109 _ (ne_fr hMd f109)).trans hMd
  refine pf_X8_53 E hMd (Nat.le_of_ble_eq_true rfl) hin dX8_init_111 (fun h111 hMd u111 => ?_)
  have B0 := B0.obj u111
  have hMd : h111 o = some (.inr (8, [.ref a6, .ref a13, .int 0, .ref a20, .ref a27, .ref a34, .int 0, .ref a41, .ref a48, .ref a55, .ref a62, .ref a69, .ref a78, .ref a89, .ref a100, .int 0, .ref a109, .null, .null, .int 0, .null, .null, .null, .null, .null, .null, .null, .int 0, .int 0, .int 0, .int 0, .long 0, .long 0, .int 0])) := hMd
  refine j_aload_n E dX8_init_114 rfl ?_
  refine j_iconst (v := 3) E dX8_init_115 ci_3 ?_
  refine na_int E (by decide) rfl (by decide) ⟨Nat.le_of_ble_eq_true rfl, Nat.le_of_ble_eq_true rfl⟩ dX8_init_116 (fun a116 h116 f116 n116 u116 => ?_)
  have B0 := B0.add hMd f116 n116 u116
  have hMd := (u116 _ (ne_fr hMd f116)).trans hMd
  refine pf_X8_56 E hMd (Nat.le_of_ble_eq_true rfl) hin dX8_init_118 (fun h118 hMd u118 => ?_)
  have B0 := B0.obj u118
  have hMd : h118 o = some (.inr (8, [.ref a6, .ref a13, .int 0, .ref a20, .ref a27, .ref a34, .int 0, .ref a41, .ref a48, .ref a55, .ref a62, .ref a69, .ref a78, .ref a89, .ref a100, .int 0, .ref a109, .ref a116, .null, .int 0, .null, .null, .null, .null, .null, .null, .null, .int 0, .int 0, .int 0, .int 0, .long 0, .long 0, .int 0])) := hMd
  refine j_aload_n E dX8_init_121 rfl ?_
  refine j_iconst (v := 3) E dX8_init_122 ci_3 ?_
  refine na_int E (by decide) rfl (by decide) ⟨Nat.le_of_ble_eq_true rfl, Nat.le_of_ble_eq_true rfl⟩ dX8_init_123 (fun a123 h123 f123 n123 u123 => ?_)
  have B0 := B0.add hMd f123 n123 u123
  have hMd := (u123 _ (ne_fr hMd f123)).trans hMd
  refine pf_X8_59 E hMd (Nat.le_of_ble_eq_true rfl) hin dX8_init_125 (fun h125 hMd u125 => ?_)
  have B0 := B0.obj u125
  have hMd : h125 o = some (.inr (8, [.ref a6, .ref a13, .int 0, .ref a20, .ref a27, .ref a34, .int 0, .ref a41, .ref a48, .ref a55, .ref a62, .ref a69, .ref a78, .ref a89, .ref a100, .int 0, .ref a109, .ref a116, .ref a123, .int 0, .null, .null, .null, .null, .null, .null, .null, .int 0, .int 0, .int 0, .int 0, .long 0, .long 0, .int 0])) := hMd
  refine j_aload_n E dX8_init_128 rfl ?_
  refine j_bipush (v := 8) E dX8_init_129 cb_8 ?_
  refine na_int E (by decide) rfl (by decide) ⟨Nat.le_of_ble_eq_true rfl, Nat.le_of_ble_eq_true rfl⟩ dX8_init_131 (fun a131 h131 f131 n131 u131 => ?_)
  have B0 := B0.add hMd f131 n131 u131
  have hMd := (u131 _ (ne_fr hMd f131)).trans hMd
  refine pf_X8_62 E hMd (Nat.le_of_ble_eq_true rfl) hin dX8_init_133 (fun h133 hMd u133 => ?_)
  have B0 := B0.obj u133
  have hMd : h133 o = some (.inr (8, [.ref a6, .ref a13, .int 0, .ref a20, .ref a27, .ref a34, .int 0, .ref a41, .ref a48, .ref a55, .ref a62, .ref a69, .ref a78, .ref a89, .ref a100, .int 0, .ref a109, .ref a116, .ref a123, .int 0, .ref a131, .null, .null, .null, .null, .null, .null, .int 0, .int 0, .int 0, .int 0, .long 0, .long 0, .int 0])) := hMd
  refine j_aload_n E dX8_init_136 rfl ?_
  refine j_bipush (v := 8) E dX8_init_137 cb_8 ?_
  refine na_int E (by decide) rfl (by decide) ⟨Nat.le_of_ble_eq_true rfl, Nat.le_of_ble_eq_true rfl⟩ dX8_init_139 (fun a139 h139 f139 n139 u139 => ?_)
  have B0 := B0.add hMd f139 n139 u139
  have hMd := (u139 _ (ne_fr hMd f139)).trans hMd
  refine pf_X8_65 E hMd (Nat.le_of_ble_eq_true rfl) hin dX8_init_141 (fun h141 hMd u141 => ?_)
  have B0 := B0.obj u141
  have hMd : h141 o = some (.inr (8, [.ref a6, .ref a13, .int 0, .ref a20, .ref a27, .ref a34, .int 0, .ref a41, .ref a48, .ref a55, .ref a62, .ref a69, .ref a78, .ref a89, .ref a100, .int 0, .ref a109, .ref a116, .ref a123, .int 0, .ref a131, .ref a139, .null, .null, .null, .null, .null, .int 0, .int 0, .int 0, .int 0, .long 0, .long 0, .int 0])) := hMd
  refine j_aload_n E dX8_init_144 rfl ?_
  refine j_bipush (v := 8) E dX8_init_145 cb_8 ?_
  refine na_int E (by decide) rfl (by decide) ⟨Nat.le_of_ble_eq_true rfl, Nat.le_of_ble_eq_true rfl⟩ dX8_init_147 (fun a147 h147 f147 n147 u147 => ?_)
  have B0 := B0.add hMd f147 n147 u147
  have hMd := (u147 _ (ne_fr hMd f147)).trans hMd
  refine pf_X8_68 E hMd (Nat.le_of_ble_eq_true rfl) hin dX8_init_149 (fun h149 hMd u149 => ?_)
  have B0 := B0.obj u149
  have hMd : h149 o = some (.inr (8, [.ref a6, .ref a13, .int 0, .ref a20, .ref a27, .ref a34, .int 0, .ref a41, .ref a48, .ref a55, .ref a62, .ref a69, .ref a78, .ref a89, .ref a100, .int 0, .ref a109, .ref a116, .ref a123, .int 0, .ref a131, .ref a139, .ref a147, .null, .null, .null, .null, .int 0, .int 0, .int 0, .int 0, .long 0, .long 0, .int 0])) := hMd
  refine j_aload_n E dX8_init_152 rfl ?_
  refine j_bipush (v := 8) E dX8_init_153 cb_8 ?_
  refine na_int E (by decide) rfl (by decide) ⟨Nat.le_of_ble_eq_true rfl, Nat.le_of_ble_eq_true rfl⟩ dX8_init_155 (fun a155 h155 f155 n155 u155 => ?_)
  have B0 := B0.add hMd f155 n155 u155
  have hMd := (u155 _ (ne_fr hMd f155)).trans hMd
  refine pf_X8_71 E hMd (Nat.le_of_ble_eq_true rfl) hin dX8_init_157 (fun h157 hMd u157 => ?_)
  have B0 := B0.obj u157
  have hMd : h157 o = some (.inr (8, [.ref a6, .ref a13, .int 0, .ref a20, .ref a27, .ref a34, .int 0, .ref a41, .ref a48, .ref a55, .ref a62, .ref a69, .ref a78, .ref a89, .ref a100, .int 0, .ref a109, .ref a116, .ref a123, .int 0, .ref a131, .ref a139, .ref a147, .ref a155, .null, .null, .null, .int 0, .int 0, .int 0, .int 0, .long 0, .long 0, .int 0])) := hMd
  refine j_aload_n E dX8_init_160 rfl ?_
  refine j_bipush (v := 8) E dX8_init_161 cb_8 ?_
  refine na_int E (by decide) rfl (by decide) ⟨Nat.le_of_ble_eq_true rfl, Nat.le_of_ble_eq_true rfl⟩ dX8_init_163 (fun a163 h163 f163 n163 u163 => ?_)
  have B0 := B0.add hMd f163 n163 u163
  have hMd := (u163 _ (ne_fr hMd f163)).trans hMd
  refine pf_X8_74 E hMd (Nat.le_of_ble_eq_true rfl) hin dX8_init_165 (fun h165 hMd u165 => ?_)
  have B0 := B0.obj u165
  have hMd : h165 o = some (.inr (8, [.ref a6, .ref a13, .int 0, .ref a20, .ref a27, .ref a34, .int 0, .ref a41, .ref a48, .ref a55, .ref a62, .ref a69, .ref a78, .ref a89, .ref a100, .int 0, .ref a109, .ref a116, .ref a123, .int 0, .ref a131, .ref a139, .ref a147, .ref a155, .ref a163, .null, .null, .int 0, .int 0, .int 0, .int 0, .long 0, .long 0, .int 0])) := hMd
  refine j_aload_n E dX8_init_168 rfl ?_
  refine j_bipush (v := 8) E dX8_init_169 cb_8 ?_
  refine na_long E (by decide) rfl (by decide) ⟨Nat.le_of_ble_eq_true rfl, Nat.le_of_ble_eq_true rfl⟩ dX8_init_171 (fun a171 h171 f171 n171 u171 => ?_)
  have B0 := B0.add hMd f171 n171 u171
  have hMd := (u171 _ (ne_fr hMd f171)).trans hMd
  refine pf_X8_77 E hMd (Nat.le_of_ble_eq_true rfl) hin dX8_init_173 (fun h173 hMd u173 => ?_)
  have B0 := B0.obj u173
  have hMd : h173 o = some (.inr (8, [.ref a6, .ref a13, .int 0, .ref a20, .ref a27, .ref a34, .int 0, .ref a41, .ref a48, .ref a55, .ref a62, .ref a69, .ref a78, .ref a89, .ref a100, .int 0, .ref a109, .ref a116, .ref a123, .int 0, .ref a131, .ref a139, .ref a147, .ref a155, .ref a163, .ref a171, .null, .int 0, .int 0, .int 0, .int 0, .long 0, .long 0, .int 0])) := hMd
  refine j_aload_n E dX8_init_176 rfl ?_
  refine j_bipush (v := 8) E dX8_init_177 cb_8 ?_
  refine na_int E (by decide) rfl (by decide) ⟨Nat.le_of_ble_eq_true rfl, Nat.le_of_ble_eq_true rfl⟩ dX8_init_179 (fun a179 h179 f179 n179 u179 => ?_)
  have B0 := B0.add hMd f179 n179 u179
  have hMd := (u179 _ (ne_fr hMd f179)).trans hMd
  refine pf_X8_81 E hMd (Nat.le_of_ble_eq_true rfl) hin dX8_init_181 (fun h181 hMd u181 => ?_)
  have B0 := B0.obj u181
  have hMd : h181 o = some (.inr (8, [.ref a6, .ref a13, .int 0, .ref a20, .ref a27, .ref a34, .int 0, .ref a41, .ref a48, .ref a55, .ref a62, .ref a69, .ref a78, .ref a89, .ref a100, .int 0, .ref a109, .ref a116, .ref a123, .int 0, .ref a131, .ref a139, .ref a147, .ref a155, .ref a163, .ref a171, .ref a179, .int 0, .int 0, .int 0, .int 0, .long 0, .long 0, .int 0])) := hMd
  refine j_vret E hr dX8_init_184 ⟨Nat.le_of_ble_eq_true rfl, Nat.le_of_ble_eq_true rfl⟩ ⟨rfl, (fun k => match k with | 0 => o | 1 => a6 | 2 => a13 | 3 => a20 | 4 => a27 | 5 => a34 | 6 => a41 | 7 => a48 | 8 => a55 | 9 => a62 | 10 => a69 | 11 => a78 | 12 => a89 | 13 => a100 | 14 => a109 | 15 => a116 | 16 => a123 | 17 => a131 | 18 => a139 | 19 => a147 | 20 => a155 | 21 => a163 | 22 => a179 | _ => a171 : Nat → Nat), (fun b i => match b with | 0 => a78 + 1 + i | 1 => a89 + 1 + i | _ => a100 + 1 + i : Nat → Nat → Nat), rfl, Mdl.of_Bl B0 rfl (fun e he => hMd.trans he) (fun k h1 h2 => ?_) (fun b i hb hi => ?_)⟩
  · match k, h1, h2 with
    | 1, _, _ => exact ⟨_, rfl, rfl⟩
    | 2, _, _ => exact ⟨_, rfl, rfl⟩
    | 3, _, _ => exact ⟨_, rfl, rfl⟩
    | 4, _, _ => exact ⟨_, rfl, rfl⟩
    | 5, _, _ => exact ⟨_, rfl, rfl⟩
    | 6, _, _ => exact ⟨_, rfl, rfl⟩
    | 7, _, _ => exact ⟨_, rfl, rfl⟩
    | 8, _, _ => exact ⟨_, rfl, rfl⟩
    | 9, _, _ => exact ⟨_, rfl, rfl⟩
    | 10, _, _ => exact ⟨_, rfl, rfl⟩
    | 11, _, _ => exact ⟨_, rfl, rfl⟩
    | 12, _, _ => exact ⟨_, rfl, rfl⟩
    | 13, _, _ => exact ⟨_, rfl, rfl⟩
    | 14, _, _ => exact ⟨_, rfl, rfl⟩
    | 15, _, _ => exact ⟨_, rfl, rfl⟩
    | 16, _, _ => exact ⟨_, rfl, rfl⟩
    | 17, _, _ => exact ⟨_, rfl, rfl⟩
    | 18, _, _ => exact ⟨_, rfl, rfl⟩
    | 19, _, _ => exact ⟨_, rfl, rfl⟩
    | 20, _, _ => exact ⟨_, rfl, rfl⟩
    | 21, _, _ => exact ⟨_, rfl, rfl⟩
    | 22, _, _ => exact ⟨_, rfl, rfl⟩
    | 23, _, _ => exact ⟨_, rfl, rfl⟩
    | k + 24, _, h3 => omega
  · match b, i, hb, hi with
    | 0, 0, _, _ => rfl
    | 0, 1, _, _ => rfl
    | 0, 2, _, _ => rfl
    | 0, 3, _, _ => rfl
    | 0, 4, _, _ => rfl
    | 1, 0, _, _ => rfl
    | 1, 1, _, _ => rfl
    | 1, 2, _, _ => rfl
    | 1, 3, _, _ => rfl
    | 1, 4, _, _ => rfl
    | 2, 0, _, _ => rfl
    | 2, 1, _, _ => rfl
    | 2, 2, _, _ => rfl
    | 2, 3, _, _ => rfl
    | 2, 4, _, _ => rfl
    | k + 3, _, h3, _ => omega
    | _, k + 5, _, h3 => omega
