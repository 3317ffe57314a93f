/-! a lot that leaves, an hour: what they keep -/
theorem shf_c {S : St} {k c i j : Nat} (h3 : c ≠ 3) (h4 : c ≠ 4) (h5 : c ≠ 5) : (shf S k).1 c i j = S.1 c i j := (s1_c h5).trans ((s1_c h4).trans (s1_c h3))
theorem shf_at {S : St} {k c i : Nat} (hc : c = 3 ∨ c = 4 ∨ c = 5) : (shf S k).1 c i 0 = if i = k then S.1 c (k + 1) 0 else S.1 c i 0 := by
  have e3 : (shf S k).1 3 i 0 = (s1 S 3 k 0 (S.1 3 (k + 1) 0)).1 3 i 0 := rfl
  have e4 : (shf S k).1 4 i 0 = (s1 S 4 k 0 (S.1 4 (k + 1) 0)).1 4 i 0 := rfl
  have e5 : (shf S k).1 5 i 0 = (s1 S 5 k 0 (S.1 5 (k + 1) 0)).1 5 i 0 := rfl
  rcases hc with rfl | rfl | rfl
  · rw [e3]
    by_cases h : i = k
    · subst h; rw [s1_eq, if_pos rfl]
    · rw [s1_ne (fun q => h q.2.1), if_neg h]
  · rw [e4]
    by_cases h : i = k
    · subst h; rw [s1_eq, if_pos rfl]
    · rw [s1_ne (fun q => h q.2.1), if_neg h]
  · rw [e5]
    by_cases h : i = k
    · subst h; rw [s1_eq, if_pos rfl]
    · rw [s1_ne (fun q => h q.2.1), if_neg h]
theorem shfN_c {c i j : Nat} (h3 : c ≠ 3) (h4 : c ≠ 4) (h5 : c ≠ 5) : ∀ (n : Nat) (S : St) (k : Nat), (shfN S k n).1 c i j = S.1 c i j
  | 0, _, _ => rfl
  | n + 1, S, k => (shfN_c h3 h4 h5 n (shf S k) (k + 1)).trans (shf_c h3 h4 h5)
theorem shfN_2 : ∀ (n : Nat) (S : St) (k : Nat), (shfN S k n).2 = S.2
  | 0, _, _ => rfl
  | n + 1, S, k => shfN_2 n (shf S k) (k + 1)
theorem shfN_at {c : Nat} (hc : c = 3 ∨ c = 4 ∨ c = 5) : ∀ (n : Nat) (S : St) (k i : Nat), (shfN S k n).1 c i 0 = if k ≤ i ∧ i < k + n then S.1 c (i + 1) 0 else S.1 c i 0
  | 0, S, k, i => by rw [if_neg (by omega)]; rfl
  | n + 1, S, k, i => by
    show (shfN (shf S k) (k + 1) n).1 c i 0 = _
    rw [shfN_at hc n (shf S k) (k + 1) i, shf_at hc, shf_at hc]
    by_cases h1 : i = k
    · subst h1
      rw [if_neg (by omega), if_pos rfl, if_pos (by omega)]
    · by_cases h2 : k ≤ i ∧ i < k + (n + 1)
      · rw [if_pos (by omega), if_neg (by omega), if_pos h2]
      · rw [if_neg (by omega), if_neg h1, if_neg h2]
theorem lev_c {S : St} {lot c i j : Nat} (h0 : c ≠ 0) (h3 : c ≠ 3) (h4 : c ≠ 4) (h5 : c ≠ 5) : (lev S lot).1 c i j = S.1 c i j := (shfN_c h3 h4 h5 _ _ _).trans (s1_c h0)
theorem lev_0 {S : St} {lot i : Nat} (h : i ≠ 1) : (lev S lot).1 0 i 0 = S.1 0 i 0 := (shfN_c (by decide) (by decide) (by decide) _ _ _).trans (s1_ne (fun q => h q.2.1))
theorem lev_l {S : St} {lot : Nat} : (lev S lot).1 0 1 0 = S.1 0 1 0 - 1 := (shfN_c (by decide) (by decide) (by decide) _ _ _).trans s1_eq
theorem lev_2 {S : St} {lot : Nat} : (lev S lot).2 = S.2 := shfN_2 _ _ _
theorem lev_at {S : St} {lot c i : Nat} (hc : c = 3 ∨ c = 4 ∨ c = 5) (hl : lot ≤ nn (S.1 0 1 0 - 1)) : (lev S lot).1 c i 0 = if lot ≤ i ∧ i < nn (S.1 0 1 0 - 1) then S.1 c (i + 1) 0 else S.1 c i 0 := by
  have e : ∀ i, (s1 S 0 1 0 (S.1 0 1 0 - 1)).1 c i 0 = S.1 c i 0 := fun i => s1_c (by rcases hc with rfl | rfl | rfl <;> decide)
  unfold lev
  rw [shfN_at hc, Nat.add_sub_cancel' hl, e, e]
theorem lev_inv {S : St} {B lot : Nat} (I : Inv S B) (hl : lot < nn (S.1 0 1 0)) : Inv (lev S lot) B := by
  obtain ⟨p1, p2⟩ := rg_pred I.cnt.2.1 (by omega) (by decide)
  have c0 : ∀ i, i ≠ 1 → (lev S lot).1 0 i 0 = S.1 0 i 0 := fun i hi => lev_0 hi
  have hle : lot ≤ nn (S.1 0 1 0 - 1) := by omega
  have cc : ∀ c i j, c ≠ 0 → c ≠ 3 → c ≠ 4 → c ≠ 5 → (lev S lot).1 c i j = S.1 c i j := fun c i j h0 h3 h4 h5 => lev_c h0 h3 h4 h5
  refine ⟨?_, ?_, ?_, ?_, ?_, ?_, ?_, ?_, ?_⟩
  · unfold Cnt
    rw [c0 0 (by decide), c0 2 (by decide), c0 3 (by decide), c0 4 (by decide), lev_l]
    exact ⟨I.cnt.1, ⟨p1, Nat.zero_le _, by have := I.cnt.2.1.2.2; omega⟩, I.cnt.2.2⟩
  · intro k hk
    rw [lev_l, p2] at hk
    rw [lev_at (Or.inl rfl) hle, lev_at (Or.inr (Or.inl rfl)) hle, c0 0 (by decide)]
    by_cases h : lot ≤ k ∧ k < nn (S.1 0 1 0 - 1)
    · rw [if_pos h, if_pos h]; exact I.lot (k + 1) (by omega)
    · rw [if_neg h, if_neg h]; exact I.lot k (by omega)
  · exact I.mou.of (c0 2 (by decide)) (fun k => cc _ _ _ (by decide) (by decide) (by decide) (by decide)) (fun k => cc _ _ _ (by decide) (by decide) (by decide) (by decide)) (fun k => cc _ _ _ (by decide) (by decide) (by decide) (by decide)) (fun k => cc _ _ _ (by decide) (by decide) (by decide) (by decide))
  · exact I.blk.of (c0 2 (by decide)) (fun k j => cc _ _ _ (by decide) (by decide) (by decide) (by decide)) (fun k j => cc _ _ _ (by decide) (by decide) (by decide) (by decide))
  · exact I.mac.of (c0 2 (by decide)) (c0 3 (by decide)) (c0 4 (by decide)) (fun k => cc _ _ _ (by decide) (by decide) (by decide) (by decide)) (fun k => cc _ _ _ (by decide) (by decide) (by decide) (by decide)) (fun k => cc _ _ _ (by decide) (by decide) (by decide) (by decide))
  · exact I.ord.of (c0 0 (by decide)) (c0 2 (by decide)) (c0 4 (by decide)) (fun k => cc _ _ _ (by decide) (by decide) (by decide) (by decide)) (fun k => cc _ _ _ (by decide) (by decide) (by decide) (by decide)) (fun k => cc _ _ _ (by decide) (by decide) (by decide) (by decide)) (fun k => cc _ _ _ (by decide) (by decide) (by decide) (by decide)) (fun k => cc _ _ _ (by decide) (by decide) (by decide) (by decide)) (fun k => cc _ _ _ (by decide) (by decide) (by decide) (by decide)) (fun k => by rw [lev_2])
  · exact I.reg.of (c0 0 (by decide)) (fun k => cc _ _ _ (by decide) (by decide) (by decide) (by decide))
  · exact I.all.of (c0 6 (by decide)) (by rw [lev_2])
  · rw [c0 5 (by decide)]; exact I.hrs
theorem Inv.s5 {S : St} {B k : Nat} {v : Int32} (I : Inv S B) : Inv (s1 S 5 k 0 v) B :=
  ⟨I.cnt.of5 rfl rfl rfl rfl rfl, I.lot.of rfl rfl (fun _ => rfl) (fun _ => rfl), I.mou.of rfl (fun _ => rfl) (fun _ => rfl) (fun _ => rfl) (fun _ => rfl), I.blk.of rfl (fun _ _ => rfl) (fun _ _ => rfl), I.mac.of rfl rfl rfl (fun _ => rfl) (fun _ => rfl) (fun _ => rfl), I.ord.of rfl rfl rfl (fun _ => rfl) (fun _ => rfl) (fun _ => rfl) (fun _ => rfl) (fun _ => rfl) (fun _ => rfl) (fun _ => rfl), I.reg.of rfl (fun _ => rfl), I.all.of rfl rfl, I.hrs⟩
/-- a scalar that no range speaks of (thrown, parts) -/
theorem Inv.s0 {S : St} {B i : Nat} {v : Int32} (I : Inv S B) (hi : 7 ≤ i) : Inv (s1 S 0 i 0 v) B := by
  have c0 : ∀ k, k < 7 → (s1 S 0 i 0 v).1 0 k 0 = S.1 0 k 0 := fun k hk => s1_ne (fun q => by omega)
  exact ⟨I.cnt.of5 (c0 0 (by decide)) (c0 1 (by decide)) (c0 2 (by decide)) (c0 3 (by decide)) (c0 4 (by decide)), I.lot.of (c0 0 (by decide)) (c0 1 (by decide)) (fun _ => rfl) (fun _ => rfl), I.mou.of (c0 2 (by decide)) (fun _ => rfl) (fun _ => rfl) (fun _ => rfl) (fun _ => rfl), I.blk.of (c0 2 (by decide)) (fun _ _ => rfl) (fun _ _ => rfl), I.mac.of (c0 2 (by decide)) (c0 3 (by decide)) (c0 4 (by decide)) (fun _ => rfl) (fun _ => rfl) (fun _ => rfl), I.ord.of (c0 0 (by decide)) (c0 2 (by decide)) (c0 4 (by decide)) (fun _ => rfl) (fun _ => rfl) (fun _ => rfl) (fun _ => rfl) (fun _ => rfl) (fun _ => rfl) (fun _ => rfl), I.reg.of (c0 0 (by decide)) (fun _ => rfl), I.all.of (c0 6 (by decide)) rfl, by rw [c0 5 (by decide)]; exact I.hrs⟩
theorem Inv.th {S : St} {B : Nat} {t : Int32} (I : Inv S B) : Inv (th S t) B := I.s0 (by decide)
theorem dryS_l {S : St} {k n : Nat} (h : Rg (S.1 0 1 0) 0 3) (hk : k < nn (S.1 0 1 0)) : k ≤ nn ((dryS S k).1 0 1 0) := by
  unfold dryS
  split
  · rw [lev_l]
    show k ≤ nn (S.1 0 1 0 - 1)
    obtain ⟨p1, p2⟩ := rg_pred h (by omega) (by decide)
    omega
  · exact Nat.le_of_lt hk
theorem dryS_0 {S : St} {k i : Nat} (h : i ≠ 1) : (dryS S k).1 0 i 0 = S.1 0 i 0 := by
  unfold dryS
  split
  · exact lev_0 h
  · rfl
theorem dryS_inv {S : St} {B k : Nat} (I : Inv S B) (hk : k < nn (S.1 0 1 0)) : Inv (dryS S k) B := by
  unfold dryS
  split
  · exact lev_inv I.s5 hk
  · exact I.s5
theorem dryN_0 {i : Nat} (h : i ≠ 1) : ∀ (n : Nat) (S : St), (dryN S n).1 0 i 0 = S.1 0 i 0
  | 0, _ => rfl
  | n + 1, S => (dryN_0 h n (dryS S n)).trans (dryS_0 h)
theorem dryN_inv {B : Nat} : ∀ (n : Nat) (S : St), Inv S B → n ≤ nn (S.1 0 1 0) → Inv (dryN S n) B
  | 0, _, I, _ => I
  | n + 1, S, I, h => dryN_inv n (dryS S n) (dryS_inv I h) (dryS_l (n := 0) I.cnt.2.1 h)
/-! shots in a row, machines in a row -/
theorem shl_0 {o i : Nat} (h6 : i ≠ 6) (h7 : i ≠ 7) : ∀ (n : Nat) (S : St) (p : Int32), (shl S o p n).1.1 0 i 0 = S.1 0 i 0
  | 0, _, _ => rfl
  | n + 1, S, p => by
    unfold shl
    split
    · split
      · exact (shl_0 h6 h7 n _ _).trans (shoot_0 h6 h7)
      · rfl
    · rfl
theorem shl_c {o c i j : Nat} (h0 : c ≠ 0) (h2 : c ≠ 2) (h4 : c ≠ 4) (h11 : c ≠ 11) (h13 : c ≠ 13) (h19 : c ≠ 19) (h21 : c ≠ 21) (h22 : c ≠ 22) : ∀ (n : Nat) (S : St) (p : Int32), (shl S o p n).1.1 c i j = S.1 c i j
  | 0, _, _ => rfl
  | n + 1, S, p => by
    unfold shl
    split
    · split
      · exact (shl_c h0 h2 h4 h11 h13 h19 h21 h22 n _ _).trans (shoot_c h0 h2 h4 h11 h13 h19 h21 h22)
      · rfl
    · rfl
theorem shl_inv {o : Nat} : ∀ (n B : Nat) (S : St) (p : Int32), Inv S B → o < nn (S.1 0 4 0) → B + n < 1000000 → Inv (shl S o p n).1 (B + n)
  | 0, _, _, _, I, _, _ => I
  | n + 1, B, S, p, I, ho, hB => by
    unfold shl
    split
    · split
      · rename_i hok
        have e := shl_inv n (B + 1) (shoot S o) (p + sGets S o) (shoot_inv I ho (sOK_many hok) (by omega)) (by rw [shoot_0 (by decide) (by decide)]; exact ho) (by omega)
        rw [show B + (n + 1) = B + 1 + n by omega]
        exact e
      · exact I.up (by omega)
    · exact I.up (by omega)
theorem most_le {S : St} {B k : Nat} (I : Inv S B) (hk : k < nn (S.1 0 3 0)) (hr : ¬ S.1 16 k 0 = -1) :
    (S.1 16 k 0 = nI (nn (S.1 16 k 0)) ∧ nn (S.1 16 k 0) < nn (S.1 0 4 0)) ∧ (S.1 15 k 0 = nI (nn (S.1 15 k 0)) ∧ nn (S.1 15 k 0) < nn (S.1 0 2 0)) ∧ Rg (S.1 10 (nn (S.1 15 k 0)) 0) 60 3600 ∧ Rg (3600 / S.1 10 (nn (S.1 15 k 0)) 0) 1 60 := by
  obtain ⟨h1, h2⟩ := I.mac.1 k hk
  rcases h2 with h2 | h2
  · exact absurd h2 hr
  · obtain ⟨a1, a2, a3⟩ := h2
    have b1 := (I.ord.1 _ a2).1
    rw [← a3] at b1
    have b2 := (I.mou _ b1.2).2.2.2
    refine ⟨⟨a1, a2⟩, b1, b2, ?_⟩
    have e36 : (3600 : Int32) = nI (nn 3600) := by decide
    have e36n : nn (3600 : Int32) = 3600 := by decide
    obtain ⟨d1, d2⟩ := ndiv e36 b2.1
    rw [e36n] at d2
    have b3 := b2.2.1
    have b4 := b2.2.2
    have c1 : 1 ≤ 3600 / nn (S.1 10 (nn (S.1 15 k 0)) 0) := (Nat.one_le_div_iff (by omega)).mpr b4
    have c2 : 3600 / nn (S.1 10 (nn (S.1 15 k 0)) 0) ≤ 3600 / 60 := Nat.div_le_div_left b3 (by decide)
    exact ⟨d1, by rw [d2]; exact c1, by rw [d2]; omega⟩
theorem mcS_0 {S : St} {p : Int32} {k i : Nat} (h6 : i ≠ 6) (h7 : i ≠ 7) : (mcS S p k).1.1 0 i 0 = S.1 0 i 0 := by
  unfold mcS
  split
  · rfl
  · exact shl_0 h6 h7 _ _ _
theorem mcS_inv {S : St} {B k : Nat} {p : Int32} (I : Inv S B) (hk : k < nn (S.1 0 3 0)) (hB : B + 60 < 1000000) : Inv (mcS S p k).1 (B + 60) := by
  unfold mcS
  split
  · exact I.up (by omega)
  · rename_i hr
    obtain ⟨a1, a2, a3, a4⟩ := most_le I hk hr
    have h60 := a4.2.2
    exact (shl_inv _ B S p I a1.2 (by omega)).up (by omega)
theorem mcN_0 {S : St} {i : Nat} (h6 : i ≠ 6) (h7 : i ≠ 7) : ∀ n, (mcN S n).1.1 0 i 0 = S.1 0 i 0
  | 0 => rfl
  | n + 1 => (mcS_0 h6 h7).trans (mcN_0 h6 h7 n)
theorem mcN_inv {S : St} {B : Nat} (I : Inv S B) : ∀ n, n ≤ nn (S.1 0 3 0) → B + 60 * n < 1000000 → Inv (mcN S n).1 (B + 60 * n)
  | 0, _, _ => I
  | n + 1, h, hB => by
    have e := mcS_inv (k := n) (p := (mcN S n).2) (mcN_inv I n (by omega) (by omega)) (by rw [mcN_0 (by decide) (by decide)]; omega) (by omega)
    rw [show B + 60 * (n + 1) = B + 60 * n + 60 by omega]
    exact e
theorem hour_0 {S : St} {i : Nat} (h1 : i ≠ 1) (h5 : i ≠ 5) (h6 : i ≠ 6) (h7 : i ≠ 7) : (hour S).1.1 0 i 0 = S.1 0 i 0 := (s1_ne (S := hourD S) (fun q => h5 q.2.1)).trans ((dryN_0 h1 _ _).trans (mcN_0 h6 h7 _))
theorem hour_5 {S : St} : (hour S).1.1 0 5 0 = S.1 0 5 0 + 1 := by
  have e : (hourD S).1 0 5 0 = S.1 0 5 0 := (dryN_0 (by decide) _ _).trans (mcN_0 (by decide) (by decide) _)
  show (hourD S).1 0 5 0 + 1 = _
  rw [e]
theorem hourM_inv {S : St} {B : Nat} (I : Inv S B) (hB : B + 180 < 1000000) : Inv (hourM S).1 (B + 180) := by
  have h3 := I.cnt.2.2.2.1.2.2
  exact (mcN_inv I _ (Nat.le_refl _) (by omega)).up (by omega)
theorem hourD_inv {S : St} {B : Nat} (I : Inv S B) (hB : B + 180 < 1000000) : Inv (hourD S) (B + 180) := dryN_inv _ _ (hourM_inv I hB) (Nat.le_refl _)
theorem hour_inv {S : St} {B : Nat} (I : Inv S B) (hB : B + 180 < 1000000) (hh : nn (S.1 0 5 0) < 300) : Inv (hour S).1 (B + 180) := by
  have I2 := hourD_inv I hB
  have c0 : ∀ k, k ≠ 5 → (hour S).1.1 0 k 0 = (hourD S).1 0 k 0 := fun k hk => s1_ne (fun q => hk q.2.1)
  refine ⟨I2.cnt.of5 (c0 0 (by decide)) (c0 1 (by decide)) (c0 2 (by decide)) (c0 3 (by decide)) (c0 4 (by decide)), I2.lot.of (c0 0 (by decide)) (c0 1 (by decide)) (fun _ => rfl) (fun _ => rfl), I2.mou.of (c0 2 (by decide)) (fun _ => rfl) (fun _ => rfl) (fun _ => rfl) (fun _ => rfl), I2.blk.of (c0 2 (by decide)) (fun _ _ => rfl) (fun _ _ => rfl), I2.mac.of (c0 2 (by decide)) (c0 3 (by decide)) (c0 4 (by decide)) (fun _ => rfl) (fun _ => rfl) (fun _ => rfl), I2.ord.of (c0 0 (by decide)) (c0 2 (by decide)) (c0 4 (by decide)) (fun _ => rfl) (fun _ => rfl) (fun _ => rfl) (fun _ => rfl) (fun _ => rfl) (fun _ => rfl) (fun _ => rfl), I2.reg.of (c0 0 (by decide)) (fun _ => rfl), I2.all.of (c0 6 (by decide)) rfl, ?_⟩
  rw [hour_5]
  obtain ⟨a1, a2⟩ := nadd I.hrs.1 e_1 (by rw [nn_1]; omega)
  rw [nn_1] at a2
  exact ⟨a1, Nat.zero_le _, by omega⟩
