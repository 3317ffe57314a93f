/-! the property: what a run of the law holds beside the ranges; sh, pt: the law's rows of shares and parts -/
def sumN (f : Nat → Nat) : Nat → Nat
  | 0 => 0
  | n + 1 => sumN f n + f n
theorem sumN_congr {f g : Nat → Nat} : ∀ n, (∀ k, k < n → f k = g k) → sumN f n = sumN g n
  | 0, _ => rfl
  | n + 1, h => by
    show sumN f n + f n = sumN g n + g n
    rw [sumN_congr n (fun k hk => h k (by omega)), h n (by omega)]
theorem sumN_up {f g : Nat → Nat} {o d : Nat} (hne : ∀ k, k ≠ o → g k = f k) (he : g o = f o + d) : ∀ n, o < n → sumN g n = sumN f n + d
  | 0, h => absurd h (by omega)
  | n + 1, h => by
    show sumN g n + g n = sumN f n + f n + d
    by_cases q : o = n
    · subst q
      rw [he, sumN_congr (f := g) (g := f) o (fun k hk => hne k (by omega))]
      omega
    · rw [sumN_up hne he n (by omega), hne n (fun z => q z.symm)]
      omega
theorem sumN_le {f : Nat → Nat} {b : Nat} : ∀ n, (∀ k, k < n → f k ≤ b) → sumN f n ≤ b * n
  | 0, _ => Nat.zero_le _
  | n + 1, h => by
    show sumN f n + f n ≤ b * (n + 1)
    have h1 := sumN_le n (fun k hk => h k (by omega))
    have h2 := h n (by omega)
    rw [Nat.mul_succ]
    omega
theorem sumN_mono {f g : Nat → Nat} : ∀ n, (∀ k, k < n → f k ≤ g k) → sumN f n ≤ sumN g n
  | 0, _ => Nat.le_refl _
  | n + 1, h => by
    show sumN f n + f n ≤ sumN g n + g n
    have h1 := sumN_mono n (fun k hk => h k (by omega))
    have h2 := h n (by omega)
    omega
theorem sumN_sub {f g : Nat → Nat} : ∀ n, (∀ k, k < n → g k ≤ f k) → sumN (fun k => f k - g k) n + sumN g n = sumN f n
  | 0, _ => rfl
  | n + 1, h => by
    show sumN (fun k => f k - g k) n + (f n - g n) + (sumN g n + g n) = sumN f n + f n
    have h1 := sumN_sub n (fun k hk => h k (by omega))
    have h2 := h n (by omega)
    omega
/-- an order -/
def PO (S : St) (sh pt : Nat → Int32) (k : Nat) : Prop :=
  sh k = S.1 20 k 0 ∧ Rg (pt k) 1 400 ∧ S.1 21 k 0 = nI (nn (S.1 21 k 0)) ∧ nn (S.1 19 k 0) + nn (S.1 21 k 0) ≤ nn (pt k) ∧ S.1 22 k 0 = nI (nn (S.1 22 k 0)) ∧ nn (S.1 22 k 0) ≤ nn (S.1 20 k 0) ∧ ∃ g : Nat, S.2 2 k = lN g ∧ g ≤ 1800 * nn (S.1 21 k 0) ∧ (nn (S.1 20 k 0) = 0 → g = 0)
def PI (S : St) (sh pt : Nat → Int32) : Prop :=
  (∀ k, k < nn (S.1 0 4 0) → PO S sh pt k) ∧ nn (S.1 0 6 0) = sumN (fun k => nn (S.1 21 k 0)) (nn (S.1 0 4 0)) ∧ S.1 0 7 0 = nI (nn (S.1 0 7 0)) ∧ nn (S.1 0 7 0) = sumN (fun k => nn (pt k) - nn (S.1 19 k 0)) (nn (S.1 0 4 0)) ∧ (∃ r g : Nat, S.2 1 0 = lN r ∧ S.2 0 0 = lN g ∧ 2 * r ≤ g ∧ g ≤ 1800 * nn (S.1 0 6 0)) ∧ (∀ i j, S.1 13 i j = nI (nn (S.1 13 i j)) ∧ nn (S.1 13 i j) ≤ nn (S.1 0 6 0))
theorem PI.of {S T : St} {sh pt : Nat → Int32} (P : PI S sh pt) (h04 : T.1 0 4 0 = S.1 0 4 0) (h06 : T.1 0 6 0 = S.1 0 6 0) (h07 : T.1 0 7 0 = S.1 0 7 0) (h13 : ∀ i j, T.1 13 i j = S.1 13 i j) (h19 : ∀ k, T.1 19 k 0 = S.1 19 k 0) (h20 : ∀ k, T.1 20 k 0 = S.1 20 k 0) (h21 : ∀ k, T.1 21 k 0 = S.1 21 k 0) (h22 : ∀ k, T.1 22 k 0 = S.1 22 k 0) (h2 : T.2 = S.2) : PI T sh pt := by
  unfold PI PO
  simp only [h04, h06, h07, h13, h19, h20, h21, h22, h2]
  exact P
section PP
variable {S : St} {sh pt : Nat → Int32}
theorem PI.po (P : PI S sh pt) {k : Nat} (h : k < nn (S.1 0 4 0)) : PO S sh pt k := P.1 k h
/-- there are at most 3200 shots -/
theorem PI.few (P : PI S sh pt) (C : Cnt S) : nn (S.1 0 6 0) ≤ 3200 := by
  rw [P.2.1]
  have h := sumN_le (f := fun k => nn (S.1 21 k 0)) (b := 400) (nn (S.1 0 4 0)) (fun k hk => by
    obtain ⟨-, h2, -, h4, -⟩ := P.po hk
    have := h2.2.2
    show nn (S.1 21 k 0) ≤ 400
    omega)
  have h8 := C.2.2.2.2.2.2
  omega
theorem PI.made (P : PI S sh pt) (C : Cnt S) : nn (S.1 0 7 0) ≤ 3200 := by
  rw [P.2.2.2.1]
  have h := sumN_le (f := fun k => nn (pt k) - nn (S.1 19 k 0)) (b := 400) (nn (S.1 0 4 0)) (fun k hk => by
    obtain ⟨-, h2, -, h4, -⟩ := P.po hk
    have := h2.2.2
    show nn (pt k) - nn (S.1 19 k 0) ≤ 400
    omega)
  have h8 := C.2.2.2.2.2.2
  omega
end PP
theorem toI64 {x : Int32} (hx : x = nI (nn x)) : x.toInt64 = lN (nn x) := by
  have h := nI_l (nn_lt x)
  rw [← hx] at h
  exact h
theorem mx_or (x y : Int32) : mx x y = x ∨ mx x y = y := by
  unfold mx
  split
  · exact Or.inr rfl
  · exact Or.inl rfl
theorem mkS_13 {S : St} {mo k a b : Nat} : (mkS S mo k).1 13 a b = S.1 13 a b ∨ ((a = mo ∧ b = k) ∧ (mkS S mo k).1 13 a b = S.1 13 a b + 1) := by
  unfold mkS
  split
  · by_cases e : a = mo ∧ b = k
    · obtain ⟨rfl, rfl⟩ := e
      exact Or.inr ⟨⟨rfl, rfl⟩, (s1_c (S := s1 S 13 a b (S.1 13 a b + 1)) (by decide)).trans s1_eq⟩
    · exact Or.inl ((s1_c (S := s1 S 13 mo k (S.1 13 mo k + 1)) (by decide)).trans (s1_ne (fun q => e q.2)))
  · exact Or.inl rfl
theorem mkN_13 {S : St} {mo : Nat} : ∀ n a b, (mkN S mo n).1 13 a b = S.1 13 a b ∨ ((a = mo ∧ b < n) ∧ (mkN S mo n).1 13 a b = S.1 13 a b + 1)
  | 0, _, _ => Or.inl rfl
  | n + 1, a, b => by
    have h1 := mkN_13 (S := S) (mo := mo) n a b
    have h2 := mkS_13 (S := mkN S mo n) (mo := mo) (k := n) (a := a) (b := b)
    show (mkS (mkN S mo n) mo n).1 13 a b = _ ∨ (_ ∧ (mkS (mkN S mo n) mo n).1 13 a b = _)
    rcases h2 with h2 | ⟨h3, h2⟩
    · rw [h2]
      rcases h1 with h1 | ⟨h4, h1⟩
      · exact Or.inl h1
      · exact Or.inr ⟨⟨h4.1, by omega⟩, h1⟩
    · rcases h1 with h1 | ⟨h4, -⟩
      · exact Or.inr ⟨⟨h3.1, by omega⟩, by rw [h2, h1]⟩
      · exact absurd h3.2 (by omega)
theorem back_share {S : St} {B o : Nat} (I : Inv S B) (ho : o < nn (S.1 0 4 0)) : nn (sBack S o) ≤ nn (sGrams S o) * nn (S.1 20 o 0) / 100 := by
  obtain ⟨n1, n2, -⟩ := shot_nums I ho
  obtain ⟨-, -, -, h20⟩ := I.ord.1 o ho
  have b3 : nn (sGrams S o) * nn (S.1 20 o 0) ≤ nn (sGrams S o) * 50 := Nat.mul_le_mul_left _ h20.2.2
  have b4 := n2.2.2
  obtain ⟨g5, g6⟩ := nmul n2.1 h20.1 (by omega)
  obtain ⟨g7, g8⟩ := ndiv (y := 100) g5 (by decide)
  have e100 : nn (100 : Int32) = 100 := by decide
  obtain ⟨g9, g10, g11⟩ := nmn (I.reg.1 (sRe S o)).1 g7
  rw [g8, g6, e100] at g11
  exact g11
theorem shoot_top {S : St} {o k : Nat} : (shoot S o).1 22 k 0 = if k = o then mx (S.1 22 o 0) (100 * sBack S o / sGrams S o) else S.1 22 k 0 := by
  have e : ∀ k, (sS7 S o).1 22 k 0 = S.1 22 k 0 := fun k => (rfl : (sS7 S o).1 22 k 0 = (sS3 S o).1 22 k 0).trans (sS3_c (by decide) (by decide) (by decide) (by decide))
  have e1 : (shoot S o).1 22 k 0 = (sS8 S o).1 22 k 0 := rfl
  rw [e1]
  unfold sS8
  by_cases h : k = o
  · subst h; rw [s1_eq, if_pos rfl, e]
  · rw [s1_ne (fun q => h q.2.1), if_neg h, e]
theorem shoot_06 {S : St} {o : Nat} : (shoot S o).1 0 6 0 = S.1 0 6 0 + 1 := by
  have e1 : (shoot S o).1 0 6 0 = (sS8 S o).1 0 6 0 + 1 := rfl
  have e2 : (sS8 S o).1 0 6 0 = (sS3 S o).1 0 6 0 := rfl
  rw [e1, e2, sS3_c (by decide) (by decide) (by decide) (by decide)]
theorem shoot_07 {S : St} {o : Nat} : (shoot S o).1 0 7 0 = S.1 0 7 0 + sGets S o := by
  have e1 : (shoot S o).1 0 7 0 = (sS9 S o).1 0 7 0 + sGets S o := rfl
  have e2 : (sS9 S o).1 0 7 0 = (sS3 S o).1 0 7 0 := rfl
  rw [e1, e2, sS3_c (by decide) (by decide) (by decide) (by decide)]
theorem shoot_l0 {S : St} {o : Nat} : (shoot S o).2 0 0 = S.2 0 0 + (sGrams S o).toInt64 := by
  have e1 : (shoot S o).2 0 0 = (sS3 S o).2 0 0 + (sGrams S o).toInt64 := rfl
  rw [e1, sS3_2]
theorem shoot_l1 {S : St} {o : Nat} : (shoot S o).2 1 0 = S.2 1 0 + (sBack S o).toInt64 := by
  have e1 : (shoot S o).2 1 0 = (sS3 S o).2 1 0 + (sBack S o).toInt64 := rfl
  rw [e1, sS3_2]
theorem shoot_13 {S : St} {o a b : Nat} : (shoot S o).1 13 a b = S.1 13 a b ∨ (shoot S o).1 13 a b = S.1 13 a b + 1 := by
  have e1 : (shoot S o).1 13 a b = (sS3 S o).1 13 a b := rfl
  have e2 : (sS2 S o).1 13 a b = S.1 13 a b := sS2_c (by decide) (by decide)
  rw [e1]
  unfold sS3
  rcases mkN_13 (S := sS2 S o) (mo := sMo S o) (nn ((sS2 S o).1 6 (sMo S o) 0)) a b with h | ⟨-, h⟩
  · exact Or.inl (h.trans e2)
  · exact Or.inr (by rw [h, e2])
theorem shoot_PI {S : St} {B o : Nat} {sh pt : Nat → Int32} (I : Inv S B) (P : PI S sh pt) (ho : o < nn (S.1 0 4 0)) (hl : 0 < S.1 19 o 0) (hm : ¬ sMany S o = 0) : PI (shoot S o) sh pt := by
  obtain ⟨n1, n2, n3, n4, n5, n6⟩ := shot_nums I ho
  have n7 := grams_pos I ho hm
  have n8 := back_share I ho
  obtain ⟨h17, h18, h19, h20⟩ := I.ord.1 o ho
  obtain ⟨g1, g2, g3⟩ := gets_rg I ho
  have few := P.few I.cnt
  have hmade := P.made I.cnt
  have e04 : (shoot S o).1 0 4 0 = S.1 0 4 0 := shoot_0 (by decide) (by decide)
  have e20 : ∀ k, (shoot S o).1 20 k 0 = S.1 20 k 0 := fun k => shoot_c (by decide) (by decide) (by decide) (by decide) (by decide) (by decide) (by decide) (by decide)
  have hl1 : 1 ≤ nn (S.1 19 o 0) := by
    rw [i32_lt, h19.toI (by decide)] at hl
    have : (0 : Int32).toInt = 0 := by decide
    omega
  have hm1 : 1 ≤ nn (sMany S o) := by
    rcases Nat.eq_zero_or_pos (nn (sMany S o)) with q | q
    · exact absurd (by rw [n1.1, q]; rfl) hm
    · exact q
  have hg1 : 1 ≤ nn (sGets S o) := by
    have e3 : (sS3 S o).1 19 o 0 = S.1 19 o 0 := sS3_c (by decide) (by decide) (by decide) (by decide)
    unfold sGets
    rw [e3]
    rcases mn_or (sMany S o) (S.1 19 o 0) with q | q
    · rw [q]; exact hm1
    · rw [q]; exact hl1
  obtain ⟨q1, q2, q3, q4, q5, q6, g, q7, q8, q9⟩ := P.po ho
  have hpt := q2.2.2
  obtain ⟨a1, a2⟩ := nadd q3 e_1 (by rw [nn_1]; omega)
  rw [nn_1] at a2
  obtain ⟨b1, b2⟩ := nsub h19.1 g1 g3
  have b20 := h20.2.2
  have c1 : nn (sGrams S o) * nn (S.1 20 o 0) ≤ nn (sGrams S o) * 50 := Nat.mul_le_mul_left _ b20
  have c2 : 2 * nn (sBack S o) ≤ nn (sGrams S o) := by omega
  have e100 : nn (100 : Int32) = 100 := by decide
  have b3 := n3.2.2
  obtain ⟨d1, d2⟩ := nmul (x := 100) (y := sBack S o) (by decide) n3.1 (by rw [e100]; omega)
  rw [e100] at d2
  obtain ⟨d3, d4⟩ := ndiv d1 n2.1
  rw [d2] at d4
  have c3 : 100 * nn (sBack S o) ≤ nn (S.1 20 o 0) * nn (sGrams S o) := by
    rw [Nat.mul_comm (nn (S.1 20 o 0))]
    generalize nn (sGrams S o) * nn (S.1 20 o 0) = z at *
    omega
  have c4 : nn (100 * sBack S o / sGrams S o) ≤ nn (S.1 20 o 0) := by
    rw [d4]
    exact Nat.div_le_of_le_mul (by rw [Nat.mul_comm (nn (sGrams S o))]; exact c3)
  have m1 : mx (S.1 22 o 0) (100 * sBack S o / sGrams S o) = nI (nn (mx (S.1 22 o 0) (100 * sBack S o / sGrams S o))) ∧ nn (mx (S.1 22 o 0) (100 * sBack S o / sGrams S o)) ≤ nn (S.1 20 o 0) := by
    rcases mx_or (S.1 22 o 0) (100 * sBack S o / sGrams S o) with q | q
    · rw [q]; exact ⟨q5, q6⟩
    · rw [q]; exact ⟨d3, c4⟩
  have f6 : nn (S.1 0 6 0 + 1) = nn (S.1 0 6 0) + 1 := by
    have h := (nadd I.all.1.1 e_1 (by rw [nn_1]; omega)).2
    rw [nn_1] at h
    exact h
  refine ⟨fun k hk => ?_, ?_, ?_, ?_, ?_, fun i j => ?_⟩
  · rw [e04] at hk
    unfold PO
    rw [e20, shoot_19, shoot_21, shoot_top, shoot_22]
    by_cases e : k = o
    · subst e
      rw [if_pos rfl, if_pos rfl, if_pos rfl, if_pos rfl]
      refine ⟨q1, q2, a1, by rw [a2, b2]; omega, m1.1, m1.2, g + nn (sBack S k), ?_, ?_, fun z => ?_⟩
      · rw [q7, toI64 n3.1, lN_add]
      · rw [a2]; omega
      · have z1 := q9 z
        rw [z] at n8
        omega
    · rw [if_neg e, if_neg e, if_neg e, if_neg e]
      exact P.po hk
  · rw [shoot_06, f6, e04, P.2.1]
    refine (sumN_up (f := fun k => nn (S.1 21 k 0)) (g := fun k => nn ((shoot S o).1 21 k 0)) (o := o) (d := 1) (fun k hk => ?_) ?_ _ ho).symm
    · show nn ((shoot S o).1 21 k 0) = _
      rw [shoot_21, if_neg hk]
    · show nn ((shoot S o).1 21 o 0) = _
      rw [shoot_21, if_pos rfl, a2]
  · rw [shoot_07]
    exact (nadd P.2.2.1 g1 (by have := n1.2.2; omega)).1
  · rw [shoot_07, (nadd P.2.2.1 g1 (by have := n1.2.2; omega)).2, e04, P.2.2.2.1]
    refine (sumN_up (f := fun k => nn (pt k) - nn (S.1 19 k 0)) (g := fun k => nn (pt k) - nn ((shoot S o).1 19 k 0)) (o := o) (d := nn (sGets S o)) (fun k hk => ?_) ?_ _ ho).symm
    · show nn (pt k) - nn ((shoot S o).1 19 k 0) = _
      rw [shoot_19, if_neg hk]
    · show nn (pt o) - nn ((shoot S o).1 19 o 0) = nn (pt o) - nn (S.1 19 o 0) + _
      rw [shoot_19, if_pos rfl, b2]
      omega
  · obtain ⟨r, g9, r1, r2, r3, r4⟩ := P.2.2.2.2.1
    refine ⟨r + nn (sBack S o), g9 + nn (sGrams S o), ?_, ?_, by omega, ?_⟩
    · rw [shoot_l1, r1, toI64 n3.1, lN_add]
    · rw [shoot_l0, r2, toI64 n2.1, lN_add]
    · rw [shoot_06, f6]; have := n2.2.2; omega
  · obtain ⟨z1, z2⟩ := P.2.2.2.2.2 i j
    rw [shoot_06, f6]
    rcases shoot_13 (S := S) (o := o) (a := i) (b := j) with z | z
    · rw [z]; exact ⟨z1, by omega⟩
    · rw [z]
      obtain ⟨y1, y2⟩ := nadd z1 e_1 (by rw [nn_1]; omega)
      rw [nn_1] at y2
      exact ⟨y1, by omega⟩
