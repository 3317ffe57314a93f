/-! the property over an hour and over a pass; what a pass answers -/
theorem lev_13 {S : St} {lot i j : Nat} : (lev S lot).1 13 i j = S.1 13 i j := lev_c (by decide) (by decide) (by decide) (by decide)
theorem lev_PI {S : St} {lot : Nat} {sh pt : Nat → Int32} (P : PI S sh pt) : PI (lev S lot) sh pt :=
  P.of (lev_0 (by decide)) (lev_0 (by decide)) (lev_0 (by decide)) (fun _ _ => lev_13) (fun _ => lev_c (by decide) (by decide) (by decide) (by decide)) (fun _ => lev_c (by decide) (by decide) (by decide) (by decide)) (fun _ => lev_c (by decide) (by decide) (by decide) (by decide)) (fun _ => lev_c (by decide) (by decide) (by decide) (by decide)) lev_2
theorem dryS_PI {S : St} {k : Nat} {sh pt : Nat → Int32} (P : PI S sh pt) : PI (dryS S k) sh pt := by
  unfold dryS
  split
  · exact lev_PI (P.of rfl rfl rfl (fun _ _ => rfl) (fun _ => rfl) (fun _ => rfl) (fun _ => rfl) (fun _ => rfl) rfl)
  · exact P.of rfl rfl rfl (fun _ _ => rfl) (fun _ => rfl) (fun _ => rfl) (fun _ => rfl) (fun _ => rfl) rfl
theorem dryN_PI {sh pt : Nat → Int32} : ∀ (n : Nat) (S : St), PI S sh pt → PI (dryN S n) sh pt
  | 0, _, P => P
  | n + 1, S, P => dryN_PI n (dryS S n) (dryS_PI P)
theorem shoot_mo {S : St} {B o : Nat} {sh pt : Nat → Int32} (I : Inv S B) (P : PI S sh pt) (ho : o < nn (S.1 0 4 0)) : nn (S.1 0 7 0) ≤ nn ((shoot S o).1 0 7 0) := by
  obtain ⟨n1, -⟩ := shot_nums I ho
  obtain ⟨g1, g2, g3⟩ := gets_rg I ho
  have hmade := P.made I.cnt
  rw [shoot_07, (nadd P.2.2.1 g1 (by have := n1.2.2; omega)).2]
  omega
/-- the property of a later state, which has no fewer parts -/
def PM (S T : St) (sh pt : Nat → Int32) : Prop := PI T sh pt ∧ nn (S.1 0 7 0) ≤ nn (T.1 0 7 0)
theorem shl_PI {o : Nat} {sh pt : Nat → Int32} : ∀ (n B : Nat) (S : St) (p : Int32), Inv S B → PI S sh pt → o < nn (S.1 0 4 0) → B + n < 1000000 → PM S (shl S o p n).1 sh pt
  | 0, _, _, _, _, P, _, _ => ⟨P, Nat.le_refl _⟩
  | n + 1, B, S, p, I, P, ho, hB => by
    unfold shl
    split
    · split
      · rename_i hl hok
        have h := shl_PI n (B + 1) (shoot S o) (p + sGets S o) (shoot_inv I ho (sOK_many hok) (by omega)) (shoot_PI I P ho hl (sOK_many hok)) (by rw [shoot_0 (by decide) (by decide)]; exact ho) (by omega)
        exact ⟨h.1, Nat.le_trans (shoot_mo I P ho) h.2⟩
      · exact ⟨P, Nat.le_refl _⟩
    · exact ⟨P, Nat.le_refl _⟩
theorem mcS_PI {S : St} {B k : Nat} {p : Int32} {sh pt : Nat → Int32} (I : Inv S B) (P : PI S sh pt) (hk : k < nn (S.1 0 3 0)) (hB : B + 60 < 1000000) : PM S (mcS S p k).1 sh pt := by
  unfold mcS
  split
  · exact ⟨P, Nat.le_refl _⟩
  · rename_i hr
    obtain ⟨a1, a2, a3, a4⟩ := most_le I hk hr
    have h60 := a4.2.2
    exact shl_PI _ B S p I P a1.2 (by omega)
theorem mcN_PI {S : St} {B : Nat} {sh pt : Nat → Int32} (I : Inv S B) (P : PI S sh pt) : ∀ n, n ≤ nn (S.1 0 3 0) → B + 60 * n < 1000000 → PM S (mcN S n).1 sh pt
  | 0, _, _ => ⟨P, Nat.le_refl _⟩
  | n + 1, h, hB => by
    have h1 := mcN_PI I P n (by omega) (by omega)
    have h2 := mcS_PI (k := n) (p := (mcN S n).2) (mcN_inv I n (by omega) (by omega)) h1.1 (by rw [mcN_0 (by decide) (by decide)]; omega) (by omega)
    exact ⟨h2.1, Nat.le_trans h1.2 h2.2⟩
theorem hour_PI {S : St} {B : Nat} {sh pt : Nat → Int32} (I : Inv S B) (P : PI S sh pt) (hB : B + 180 < 1000000) : PM S (hour S).1 sh pt := by
  have h3 := I.cnt.2.2.2.1.2.2
  have h1 := mcN_PI I P _ (Nat.le_refl (nn (S.1 0 3 0))) (by omega)
  have P2 : PI (hourD S) sh pt := dryN_PI _ _ h1.1
  have e : (hour S).1.1 0 7 0 = (hourM S).1.1 0 7 0 := (s1_ne (S := hourD S) (fun q => absurd q.2.1 (by decide))).trans (dryN_0 (by decide) _ _)
  exact ⟨P2.of rfl rfl rfl (fun _ _ => rfl) (fun _ => rfl) (fun _ => rfl) (fun _ => rfl) (fun _ => rfl) rfl, by rw [e]; exact h1.2⟩
theorem hrN_PI {sh pt : Nat → Int32} : ∀ (n B : Nat) (S : St) (p : Int32), Inv S B → PI S sh pt → nn (S.1 0 5 0) + n ≤ 300 → B + 180 * n < 1000000 → PM S (hrN S p n).1 sh pt
  | 0, _, _, _, _, P, _, _ => ⟨P, Nat.le_refl _⟩
  | n + 1, B, S, p, I, P, hh, hB => by
    have h5 : nn ((hour S).1.1 0 5 0) = nn (S.1 0 5 0) + 1 := by
      rw [hour_5]
      have h := (nadd I.hrs.1 e_1 (by rw [nn_1]; omega)).2
      rw [nn_1] at h
      exact h
    have h1 := hour_PI I P (by omega)
    have h2 := hrN_PI n (B + 180) (hour S).1 (p + (hour S).2) (hour_inv I (by omega) (by omega)) h1.1 (by omega) (by omega)
    exact ⟨h2.1, Nat.le_trans h1.2 h2.2⟩
/-! counts that a pass leaves -/
theorem hrN_0 {i : Nat} (h1 : i ≠ 1) (h5 : i ≠ 5) (h6 : i ≠ 6) (h7 : i ≠ 7) : ∀ (n : Nat) (S : St) (p : Int32), (hrN S p n).1.1 0 i 0 = S.1 0 i 0
  | 0, _, _ => rfl
  | n + 1, S, p => (hrN_0 h1 h5 h6 h7 n (hour S).1 (p + (hour S).2)).trans (hour_0 h1 h5 h6 h7)
/-! the parts of a pass -/
theorem i32_cancel {x y g : Int32} (h : x + g = y + g) : x = y := by
  have h2 : x + g - g = y + g - g := congrArg (fun q => q - g) h
  rw [Int32.add_sub_cancel, Int32.add_sub_cancel] at h2
  exact h2
theorem i32_r1 (a b c : Int32) : a + b + c = a + c + b := by rw [Int32.add_assoc, Int32.add_comm b c, ← Int32.add_assoc]
theorem shl_07 {o : Nat} : ∀ (n : Nat) (S : St) (p : Int32), (shl S o p n).2 + S.1 0 7 0 = p + (shl S o p n).1.1 0 7 0
  | 0, _, _ => rfl
  | n + 1, S, p => by
    unfold shl
    split
    · split
      · have h := shl_07 (o := o) n (shoot S o) (p + sGets S o)
        rw [shoot_07, ← Int32.add_assoc, i32_r1 p] at h
        exact i32_cancel h
      · rfl
    · rfl
theorem mcS_07 {S : St} {p : Int32} {k : Nat} : (mcS S p k).2 + S.1 0 7 0 = p + (mcS S p k).1.1 0 7 0 := by
  unfold mcS
  split
  · rfl
  · exact shl_07 _ _ _
theorem mcN_07 {S : St} : ∀ n, (mcN S n).2 + S.1 0 7 0 = (mcN S n).1.1 0 7 0
  | 0 => Int32.zero_add _
  | n + 1 => by
    have h := mcN_07 (S := S) n
    have h2 := mcS_07 (S := (mcN S n).1) (p := (mcN S n).2) (k := n)
    show (mcS (mcN S n).1 (mcN S n).2 n).2 + S.1 0 7 0 = (mcS (mcN S n).1 (mcN S n).2 n).1.1 0 7 0
    refine i32_cancel (g := (mcN S n).1.1 0 7 0) ?_
    rw [i32_r1, h2, i32_r1, h, Int32.add_comm]
theorem hour_07 {S : St} : (hour S).2 + S.1 0 7 0 = (hour S).1.1 0 7 0 := by
  have h := mcN_07 (S := S) (nn (S.1 0 3 0))
  have e : (hour S).1.1 0 7 0 = (hourM S).1.1 0 7 0 := (s1_ne (S := hourD S) (fun q => absurd q.2.1 (by decide))).trans (dryN_0 (by decide) _ _)
  rw [e]
  exact h
theorem hrN_07 : ∀ (n : Nat) (S : St) (p : Int32), (hrN S p n).2 + S.1 0 7 0 = p + (hrN S p n).1.1 0 7 0
  | 0, _, _ => rfl
  | n + 1, S, p => by
    have h := hrN_07 n (hour S).1 (p + (hour S).2)
    rw [← hour_07, ← Int32.add_assoc] at h
    show (hrN (hour S).1 (p + (hour S).2) n).2 + S.1 0 7 0 = p + (hrN (hour S).1 (p + (hour S).2) n).1.1 0 7 0
    refine i32_cancel (g := (hour S).2) ?_
    rw [i32_r1, h, i32_r1]
theorem hrN_5 : ∀ (n : Nat) (S : St) (p : Int32), S.1 0 5 0 = nI (nn (S.1 0 5 0)) → nn (S.1 0 5 0) + n < 2 ^ 31 → nn ((hrN S p n).1.1 0 5 0) = nn (S.1 0 5 0) + n
  | 0, _, _, _, _ => rfl
  | n + 1, S, p, h, hb => by
    obtain ⟨a1, a2⟩ := nadd h e_1 (by rw [nn_1]; omega)
    rw [nn_1] at a2
    show nn ((hrN (hour S).1 (p + (hour S).2) n).1.1 0 5 0) = _
    rw [hrN_5 n (hour S).1 (p + (hour S).2) (by rw [hour_5]; exact a1) (by rw [hour_5, a2]; omega), hour_5, a2]
    omega
theorem pass_h {S : St} {x : Int32} (h : Rg (S.1 0 5 0) 0 300) (hz : (p_pass S x).1.1 0 8 0 = 0) : nn ((p_pass S x).1.1 0 5 0) = nn (S.1 0 5 0) + nn x := by
  unfold p_pass at hz ⊢
  by_cases q1 : inB x 1 24 = false
  · rw [if_pos q1] at hz; exact absurd hz (by show ¬ (1 : Int32) = 0; decide)
  · rw [if_neg q1] at hz ⊢
    by_cases q2 : 300 < S.1 0 5 0 + x
    · rw [if_pos q2] at hz; exact absurd hz (by show ¬ (2 : Int32) = 0; decide)
    · rw [if_neg q2]
      have hx : Rg x 1 24 := inB_rg (show inB x 1 24 = true by cases hb : inB x 1 24 with | false => exact absurd hb q1 | true => rfl) (by decide) (by decide)
      exact hrN_5 (nn x) (th S 0) 0 h.1 (by have := h.2.2; have := hx.2.2; show nn (S.1 0 5 0) + nn x < _; omega)
theorem nI_up (n : Nat) (y : Int32) : y + nI (n + 1) = (y + 1) + nI n := by
  rw [nI_succ, Int32.add_assoc, Int32.add_comm 1]
theorem hrN_5n : ∀ (n : Nat) (S : St) (p : Int32), (hrN S p n).1.1 0 5 0 = S.1 0 5 0 + nI n
  | 0, S, _ => (Int32.add_zero _).symm
  | n + 1, S, p => by
    have h := hrN_5n n (hour S).1 (p + (hour S).2)
    rw [hour_5] at h
    exact h.trans (nI_up n _).symm
theorem hrN_5x {x : Int32} (n : Nat) (S : St) (p : Int32) (hx : x = nI n) : (hrN S p n).1.1 0 5 0 = S.1 0 5 0 + x := by rw [hx]; exact hrN_5n n S p
/-- a pass, when it is let: what it leaves, its answer -/
theorem pass_ok {S : St} {x : Int32} {sh pt : Nat → Int32} (I : Inv S (180 * nn (S.1 0 5 0))) (P : PI S sh pt) (hz : (p_pass S x).1.1 0 8 0 = 0) : PI (p_pass S x).1 sh pt ∧ (p_pass S x).1.1 0 4 0 = S.1 0 4 0 ∧ (p_pass S x).1.1 0 2 0 = S.1 0 2 0 ∧ (p_pass S x).1.1 0 3 0 = S.1 0 3 0 ∧ (p_pass S x).1.1 0 5 0 = S.1 0 5 0 + x ∧ nn (S.1 0 7 0) ≤ nn ((p_pass S x).1.1 0 7 0) ∧ (p_pass S x).2 = nI (nn ((p_pass S x).1.1 0 7 0) - nn (S.1 0 7 0)) := by
  have hh := pass_h I.hrs hz
  unfold p_pass at hz hh ⊢
  by_cases q1 : inB x 1 24 = false
  · rw [if_pos q1] at hz; exact absurd hz (by show ¬ (1 : Int32) = 0; decide)
  · rw [if_neg q1] at hz hh ⊢
    by_cases q2 : 300 < S.1 0 5 0 + x
    · rw [if_pos q2] at hz; exact absurd hz (by show ¬ (2 : Int32) = 0; decide)
    · rw [if_neg q2] at hh ⊢
      have hx : Rg x 1 24 := inB_rg (show inB x 1 24 = true by cases hb : inB x 1 24 with | false => exact absurd hb q1 | true => rfl) (by decide) (by decide)
      obtain ⟨w1, w2⟩ := nadd I.hrs.1 hx.1 (by have := I.hrs.2.2; have := hx.2.2; omega)
      have h300 : nn (S.1 0 5 0) + nn x ≤ 300 := by
        rw [i32_lt, ntoI w1, show (300 : Int32).toInt = 300 from by decide] at q2
        omega
      have P0 : PI (th S 0) sh pt := P.of rfl rfl rfl (fun _ _ => rfl) (fun _ => rfl) (fun _ => rfl) (fun _ => rfl) (fun _ => rfl) rfl
      have I0 : Inv (th S 0) (180 * nn (S.1 0 5 0)) := I.th
      have PMx := hrN_PI (nn x) (180 * nn (S.1 0 5 0)) (th S 0) 0 I0 P0 (by show nn (S.1 0 5 0) + nn x ≤ 300; exact h300) (by have := I.hrs.2.2; have := hx.2.2; omega)
      have e07 := hrN_07 (nn x) (th S 0) 0
      have e07' : (hrN (th S 0) 0 (nn x)).2 + S.1 0 7 0 = (hrN (th S 0) 0 (nn x)).1.1 0 7 0 := e07.trans (Int32.zero_add _)
      have hle : nn (S.1 0 7 0) ≤ nn ((hrN (th S 0) 0 (nn x)).1.1 0 7 0) := PMx.2
      refine ⟨PMx.1, hrN_0 (by decide) (by decide) (by decide) (by decide) _ _ _, hrN_0 (by decide) (by decide) (by decide) (by decide) _ _ _, hrN_0 (by decide) (by decide) (by decide) (by decide) _ _ _, ?_, hle, ?_⟩
      · have r5 : (hrN (th S 0) 0 (nn x)).1.1 0 5 0 = S.1 0 5 0 + x := hrN_5x (nn x) (th S 0) 0 hx.1
        exact r5
      · refine i32_cancel (g := S.1 0 7 0) ?_
        rw [e07']
        obtain ⟨z1, z2⟩ := nsub PMx.1.2.2.1 P.2.2.1 hle
        rw [← z2, ← z1, Int32.sub_add_cancel]
