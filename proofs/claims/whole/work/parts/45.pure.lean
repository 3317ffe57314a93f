/-! numbers in their ranges; what a shot and an hour keep -/
theorem ntoI {x : Int32} (hx : x = nI (nn x)) : x.toInt = (nn x : Int) := by
  have e := nI_toInt (nn_lt x)
  rw [← hx] at e
  exact e
theorem nadd {x y : Int32} (hx : x = nI (nn x)) (hy : y = nI (nn y)) (hb : nn x + nn y < 2 ^ 31) : x + y = nI (nn (x + y)) ∧ nn (x + y) = nn x + nn y := by
  have e : x + y = nI (nn x + nn y) := by rw [← nI_add, ← hx, ← hy]
  have e2 : nn (x + y) = nn x + nn y := by rw [e]; exact nI_clamp hb
  exact ⟨by rw [e2]; exact e, e2⟩
theorem nsub {x y : Int32} (hx : x = nI (nn x)) (hy : y = nI (nn y)) (hle : nn y ≤ nn x) : x - y = nI (nn (x - y)) ∧ nn (x - y) = nn x - nn y := by
  have h1 : nI (nn x - nn y) + y = x := by
    have h2 := nI_add (nn x - nn y) (nn y)
    rw [Nat.sub_add_cancel hle, ← hx, ← hy] at h2
    exact h2
  have e : x - y = nI (nn x - nn y) := by
    have h3 : x - y = (nI (nn x - nn y) + y) - y := congrArg (fun q => q - y) h1.symm
    rw [h3]; exact Int32.add_sub_cancel _ _
  have e2 : nn (x - y) = nn x - nn y := by rw [e]; exact nI_clamp (by have := nn_lt x; omega)
  exact ⟨by rw [e2]; exact e, e2⟩
theorem nmul {x y : Int32} (hx : x = nI (nn x)) (hy : y = nI (nn y)) (hb : nn x * nn y < 2 ^ 31) : x * y = nI (nn (x * y)) ∧ nn (x * y) = nn x * nn y := by
  have e : x * y = nI (nn x * nn y) := by
    have h2 : nI (nn x * nn y) = nI (nn x) * nI (nn y) := Int32.ofNat_mul _ _
    rw [h2, ← hx, ← hy]
  have e2 : nn (x * y) = nn x * nn y := by rw [e]; exact nI_clamp hb
  exact ⟨by rw [e2]; exact e, e2⟩
theorem ndiv {x y : Int32} (hx : x = nI (nn x)) (hy : y = nI (nn y)) : x / y = nI (nn (x / y)) ∧ nn (x / y) = nn x / nn y := by
  have e : x / y = nI (nn x / nn y) := by
    have h2 := nI_div (nn_lt x) (nn_lt y)
    rw [← hx, ← hy] at h2
    exact h2
  have e2 : nn (x / y) = nn x / nn y := by rw [e]; exact nI_clamp (by have := nn_lt x; have := Nat.div_le_self (nn x) (nn y); omega)
  exact ⟨by rw [e2]; exact e, e2⟩
theorem nmn {x y : Int32} (hx : x = nI (nn x)) (hy : y = nI (nn y)) : mn x y = nI (nn (mn x y)) ∧ nn (mn x y) ≤ nn x ∧ nn (mn x y) ≤ nn y := by
  unfold mn
  by_cases h : y < x
  · rw [if_pos h]
    rw [i32_lt, ntoI hx, ntoI hy] at h
    exact ⟨hy, by omega, by omega⟩
  · rw [if_neg h]
    rw [i32_lt, ntoI hx, ntoI hy] at h
    exact ⟨hx, by omega, by omega⟩
theorem e_0 : (0 : Int32) = nI (nn 0) := by decide
theorem e_1 : (1 : Int32) = nI (nn 1) := by decide
theorem nn_1 : nn (1 : Int32) = 1 := by decide
theorem opT_rg {S : St} {mo k : Nat} : opT S mo k = nI (nn (opT S mo k)) ∧ nn (opT S mo k) ≤ 1 := by
  unfold opT
  split
  · exact ⟨e_1, by rw [nn_1]; exact Nat.le_refl 1⟩
  · exact ⟨e_0, by rw [nn_0]; exact Nat.zero_le _⟩
theorem openN_rg {S : St} {mo : Nat} : ∀ n, n < 2 ^ 31 → openN S mo n = nI (nn (openN S mo n)) ∧ nn (openN S mo n) ≤ n
  | 0, _ => ⟨e_0, by show nn (0 : Int32) ≤ 0; rw [nn_0]; exact Nat.le_refl 0⟩
  | n + 1, h => by
    obtain ⟨h1, h2⟩ := openN_rg (S := S) (mo := mo) n (by omega)
    obtain ⟨h3, h4⟩ := opT_rg (S := S) (mo := mo) (k := n)
    obtain ⟨h5, h6⟩ := nadd h1 h3 (by omega)
    exact ⟨h5, by show nn (openN S mo n + opT S mo n) ≤ _; omega⟩
theorem opn_rg {S : St} {mo : Nat} (h : Rg (S.1 6 mo 0) 1 8) : Rg (opn S mo) 0 8 ∧ nn (opn S mo) ≤ nn (S.1 6 mo 0) := by
  obtain ⟨h1, h2⟩ := openN_rg (S := S) (mo := mo) (nn (S.1 6 mo 0)) (nn_lt _)
  exact ⟨⟨h1, Nat.zero_le _, Nat.le_trans h2 h.2.2⟩, h2⟩
/-- the numbers of a shot -/
theorem shot_nums {S : St} {B o : Nat} (I : Inv S B) (ho : o < nn (S.1 0 4 0)) :
    Rg (sMany S o) 0 8 ∧ Rg (sGrams S o) 0 1800 ∧ Rg (sBack S o) 0 1800 ∧ nn (sGrams S o) = nn (sMany S o) * nn (S.1 7 (sMo S o) 0) + nn (S.1 8 (sMo S o) 0) ∧ nn (sBack S o) ≤ nn (S.1 2 (sRe S o) 0) ∧ nn (sBack S o) ≤ nn (sGrams S o) := by
  obtain ⟨h17, h18, h19, h20⟩ := I.ord.1 o ho
  obtain ⟨m6, m7, m8, m10⟩ := I.mou _ h17.2
  have hm := (opn_rg m6).1
  have b1 : nn (sMany S o) * nn (S.1 7 (sMo S o) 0) ≤ 8 * 200 := Nat.mul_le_mul hm.2.2 m7.2.2
  obtain ⟨g1, g2⟩ := nmul (x := sMany S o) hm.1 m7.1 (Nat.lt_of_le_of_lt b1 (by decide))
  have b2 := m8.2.2
  have b1' : nn (sMany S o * S.1 7 (sMo S o) 0) ≤ 1600 := by
    have : nn (sMany S o * S.1 7 (sMo S o) 0) = nn (sMany S o) * nn (S.1 7 (sMo S o) 0) := g2
    omega
  obtain ⟨g3, g4⟩ := nadd (x := sMany S o * S.1 7 (sMo S o) 0) (y := S.1 8 (sMo S o) 0) g1 m8.1 (by have : nn (S.1 8 (sMo S o) 0) ≤ 200 := b2; omega)
  have hg : Rg (sGrams S o) 0 1800 := ⟨g3, Nat.zero_le _, by show nn (sMany S o * S.1 7 (sMo S o) 0 + S.1 8 (sMo S o) 0) ≤ 1800; have : nn (S.1 8 (sMo S o) 0) ≤ 200 := b2; omega⟩
  have e4 : nn (sGrams S o) = nn (sMany S o) * nn (S.1 7 (sMo S o) 0) + nn (S.1 8 (sMo S o) 0) := g4.trans (congrArg (fun q => q + _) g2)
  have b3 : nn (sGrams S o) * nn (S.1 20 o 0) ≤ nn (sGrams S o) * 50 := Nat.mul_le_mul_left _ h20.2.2
  have b4 := hg.2.2
  obtain ⟨g5, g6⟩ := nmul hg.1 h20.1 (by omega)
  obtain ⟨g7, g8⟩ := ndiv (y := 100) g5 (by decide)
  have e100 : nn (100 : Int32) = 100 := by decide
  obtain ⟨g9, g10, g11⟩ := nmn (I.reg.1 (sRe S o)).1 g7
  rw [g8, g6, e100] at g11
  have hb : nn (sBack S o) ≤ nn (sGrams S o) := by
    refine Nat.le_trans g11 ?_
    omega
  exact ⟨hm, hg, ⟨g9, Nat.zero_le _, Nat.le_trans hb b4⟩, e4, g10, hb⟩
theorem grams_pos {S : St} {B o : Nat} (I : Inv S B) (ho : o < nn (S.1 0 4 0)) (h : ¬ sMany S o = 0) : 1 ≤ nn (sGrams S o) := by
  obtain ⟨n1, n2, n3, n4, n5, n6⟩ := shot_nums I ho
  have h1 : 1 ≤ nn (sMany S o) := by
    rcases Nat.eq_zero_or_pos (nn (sMany S o)) with q | q
    · exact absurd (by rw [n1.1, q]; rfl) h
    · exact q
  have h2 := (I.mou _ (I.ord.1 o ho).1.2).2.1.2.1
  have h3 : 1 * 1 ≤ nn (sMany S o) * nn (S.1 7 (sMo S o) 0) := Nat.mul_le_mul h1 h2
  omega
/-! what stays as it is -/
theorem mkS_c {S : St} {mo k c i j : Nat} (h1 : c ≠ 11) (h2 : c ≠ 13) : (mkS S mo k).1 c i j = S.1 c i j := by
  unfold mkS fails
  split
  · exact (s1_c h1).trans (s1_c h2)
  · rfl
theorem mkN_c {S : St} {mo c i j : Nat} (h1 : c ≠ 11) (h2 : c ≠ 13) : ∀ n, (mkN S mo n).1 c i j = S.1 c i j
  | 0 => rfl
  | n + 1 => (mkS_c h1 h2).trans (mkN_c h1 h2 n)
theorem mkS_2 {S : St} {mo k : Nat} : (mkS S mo k).2 = S.2 := by
  unfold mkS fails
  split <;> rfl
theorem mkN_2 {S : St} {mo : Nat} : ∀ n, (mkN S mo n).2 = S.2
  | 0 => rfl
  | n + 1 => mkS_2.trans (mkN_2 n)
theorem tkN_2 {S : St} {r g : Int32} : ∀ n, (tkN S r g n).1.2 = S.2
  | 0 => rfl
  | n + 1 => tkN_2 n
theorem sS2_c {S : St} {o c i j : Nat} (h2 : c ≠ 2) (h4 : c ≠ 4) : (sS2 S o).1 c i j = S.1 c i j := (tkN_c h4 _).trans (s1_c h2)
theorem sS3_c {S : St} {o c i j : Nat} (h2 : c ≠ 2) (h4 : c ≠ 4) (h11 : c ≠ 11) (h13 : c ≠ 13) : (sS3 S o).1 c i j = S.1 c i j := (mkN_c h11 h13 _).trans (sS2_c h2 h4)
theorem sS3_2 {S : St} {o : Nat} : (sS3 S o).2 = S.2 := (mkN_2 _).trans (tkN_2 _)
theorem sS3_reg {S : St} {o i j : Nat} : (sS3 S o).1 2 i j = (sS1 S o).1 2 i j := (mkN_c (by decide) (by decide) _).trans (tkN_c (by decide) _)
theorem sS3_gr {S : St} {o i j : Nat} : (sS3 S o).1 4 i j = (sS2 S o).1 4 i j := mkN_c (by decide) (by decide) _
/-- the components that a shot leaves alone -/
theorem shoot_c {S : St} {o c i j : Nat} (h0 : c ≠ 0) (h2 : c ≠ 2) (h4 : c ≠ 4) (h11 : c ≠ 11) (h13 : c ≠ 13) (h19 : c ≠ 19) (h21 : c ≠ 21) (h22 : c ≠ 22) : (shoot S o).1 c i j = S.1 c i j := by
  have e : (shoot S o).1 c i j = (sS3 S o).1 c i j := by
    refine (s1_c (S := sS9 S o) h0).trans ?_
    refine (s1_c (S := sS8 S o) h0).trans ?_
    refine (s1_c (S := sS7 S o) h22).trans ?_
    refine (s1_c (S := sS5 S o) h21).trans ?_
    refine (s1_c (S := sS4 S o) h2).trans ?_
    exact s1_c (S := sS3 S o) h19
  exact e.trans (sS3_c h2 h4 h11 h13)
theorem shoot_0 {S : St} {o i : Nat} (h6 : i ≠ 6) (h7 : i ≠ 7) : (shoot S o).1 0 i 0 = S.1 0 i 0 := by
  have e : (shoot S o).1 0 i 0 = (sS3 S o).1 0 i 0 := by
    refine (s1_ne (S := sS9 S o) (fun q => h7 q.2.1)).trans ?_
    exact s1_ne (S := sS8 S o) (fun q => h6 q.2.1)
  exact e.trans (sS3_c (by decide) (by decide) (by decide) (by decide))
/-! the grams of the lots while some are taken -/
theorem tkI_rg {S : St} {r left : Int32} {k : Nat} (hl : left = nI (nn left)) (hg : S.1 4 k 0 = nI (nn (S.1 4 k 0))) : tkI S r left k = nI (nn (tkI S r left k)) ∧ nn (tkI S r left k) ≤ nn left ∧ nn (tkI S r left k) ≤ nn (S.1 4 k 0) := by
  unfold tkI
  split
  · exact nmn hl hg
  · exact ⟨e_0, by rw [nn_0]; exact Nat.zero_le _, by rw [nn_0]; exact Nat.zero_le _⟩
theorem tkN_rg {S : St} {r left : Int32} {N b : Nat} (hg : ∀ k, k < N → Rg (S.1 4 k 0) 0 b) (hl : left = nI (nn left)) : ∀ n, n ≤ N → ((tkN S r left n).2 = nI (nn (tkN S r left n).2)) ∧ ∀ k, k < N → Rg ((tkN S r left n).1.1 4 k 0) 0 b
  | 0, _ => ⟨hl, hg⟩
  | n + 1, hn => by
    obtain ⟨h1, h2⟩ := tkN_rg (r := r) hg hl n (by omega)
    have h3 := h2 n (by omega)
    obtain ⟨h4, h5, h6⟩ := tkI_rg (r := r) h1 h3.1
    refine ⟨(nsub h1 h4 h5).1, fun k hk => ?_⟩
    by_cases e : k = n
    · subst e
      obtain ⟨h7, h8⟩ := nsub h3.1 h4 h6
      have h9 : (tkN S r left (k + 1)).1.1 4 k 0 = (tkN S r left k).1.1 4 k 0 - tkI (tkN S r left k).1 r (tkN S r left k).2 k := s1_eq
      rw [h9]
      exact ⟨h7, Nat.zero_le _, by rw [h8]; have := h3.2.2; omega⟩
    · have h9 : (tkN S r left (n + 1)).1.1 4 k 0 = (tkN S r left n).1.1 4 k 0 := s1_ne (fun q => e q.2.1)
      rw [h9]
      exact h2 k hk
/-! the blocks while parts are made -/
theorem mkS_blk {S : St} {mo k : Nat} (h : ∀ a b, S.1 11 a b = 0 ∨ S.1 11 a b = 1) : (∀ a b, (mkS S mo k).1 11 a b = 0 ∨ (mkS S mo k).1 11 a b = 1) ∧ (∀ a b, a ≠ mo → (mkS S mo k).1 11 a b = S.1 11 a b ∧ (mkS S mo k).1 13 a b = S.1 13 a b) := by
  unfold mkS
  split
  · refine ⟨fun a b => ?_, fun a b hne => ⟨?_, ?_⟩⟩
    · unfold fails
      by_cases e : a = mo ∧ b = k
      · obtain ⟨rfl, rfl⟩ := e
        rw [s1_eq]
        split
        · exact Or.inl rfl
        · exact Or.inr rfl
      · rw [s1_ne (fun q => e q.2)]
        exact h a b
    · exact s1_ne (fun q => hne q.2.1)
    · exact (s1_c (by decide)).trans (s1_ne (fun q => hne q.2.1))
  · exact ⟨h, fun a b _ => ⟨rfl, rfl⟩⟩
theorem mkN_blk {S : St} {mo : Nat} (h : ∀ a b, S.1 11 a b = 0 ∨ S.1 11 a b = 1) : ∀ n, (∀ a b, (mkN S mo n).1 11 a b = 0 ∨ (mkN S mo n).1 11 a b = 1) ∧ (∀ a b, a ≠ mo → (mkN S mo n).1 11 a b = S.1 11 a b ∧ (mkN S mo n).1 13 a b = S.1 13 a b)
  | 0 => ⟨h, fun _ _ _ => ⟨rfl, rfl⟩⟩
  | n + 1 => by
    obtain ⟨h1, h2⟩ := mkN_blk (mo := mo) h n
    obtain ⟨h3, h4⟩ := mkS_blk (mo := mo) (k := n) h1
    exact ⟨h3, fun a b hne => ⟨(h4 a b hne).1.trans (h2 a b hne).1, (h4 a b hne).2.trans (h2 a b hne).2⟩⟩
/-! transports -/
section TR
variable {S T : St}
theorem IMou.of (I : IMou S) (h0 : T.1 0 2 0 = S.1 0 2 0) (h6 : ∀ k, T.1 6 k 0 = S.1 6 k 0) (h7 : ∀ k, T.1 7 k 0 = S.1 7 k 0) (h8 : ∀ k, T.1 8 k 0 = S.1 8 k 0) (h10 : ∀ k, T.1 10 k 0 = S.1 10 k 0) : IMou T := by
  unfold IMou
  simp only [h0, h6, h7, h8, h10]
  exact I
theorem IMac.of (I : IMac S) (h2 : T.1 0 2 0 = S.1 0 2 0) (h3 : T.1 0 3 0 = S.1 0 3 0) (h4 : T.1 0 4 0 = S.1 0 4 0) (h15 : ∀ k, T.1 15 k 0 = S.1 15 k 0) (h16 : ∀ k, T.1 16 k 0 = S.1 16 k 0) (h17 : ∀ k, T.1 17 k 0 = S.1 17 k 0) : IMac T := by
  unfold IMac
  simp only [h2, h3, h4, h15, h16, h17]
  exact I
theorem IBlk.of (I : IBlk S) (h2 : T.1 0 2 0 = S.1 0 2 0) (h11 : ∀ k j, T.1 11 k j = S.1 11 k j) (h13 : ∀ k j, T.1 13 k j = S.1 13 k j) : IBlk T := by
  unfold IBlk
  simp only [h2, h11, h13]
  exact I
theorem IOrd.of (I : IOrd S) (h0 : T.1 0 0 0 = S.1 0 0 0) (h2 : T.1 0 2 0 = S.1 0 2 0) (h4 : T.1 0 4 0 = S.1 0 4 0) (h17 : ∀ k, T.1 17 k 0 = S.1 17 k 0) (h18 : ∀ k, T.1 18 k 0 = S.1 18 k 0) (h19 : ∀ k, T.1 19 k 0 = S.1 19 k 0) (h20 : ∀ k, T.1 20 k 0 = S.1 20 k 0) (h21 : ∀ k, T.1 21 k 0 = S.1 21 k 0) (h22 : ∀ k, T.1 22 k 0 = S.1 22 k 0) (hl : ∀ k, T.2 2 k = S.2 2 k) : IOrd T := by
  unfold IOrd
  simp only [h0, h2, h4, h17, h18, h19, h20, h21, h22, hl]
  exact I
theorem IReg.of {B : Nat} (I : IReg S B) (h0 : T.1 0 0 0 = S.1 0 0 0) (h2 : ∀ k, T.1 2 k 0 = S.1 2 k 0) : IReg T B := by
  unfold IReg
  simp only [h0, h2]
  exact I
theorem IAll.of {B : Nat} (I : IAll S B) (h6 : T.1 0 6 0 = S.1 0 6 0) (hl : T.2 0 0 = S.2 0 0) : IAll T B := by
  unfold IAll
  simp only [h6, hl]
  exact I
theorem ILot.of (I : ILot S) (h0 : T.1 0 0 0 = S.1 0 0 0) (h1 : T.1 0 1 0 = S.1 0 1 0) (h3 : ∀ k, T.1 3 k 0 = S.1 3 k 0) (h4 : ∀ k, T.1 4 k 0 = S.1 4 k 0) : ILot T := by
  unfold ILot
  simp only [h0, h1, h3, h4]
  exact I
theorem LR.of2 (I : LR S) (h0 : T.1 0 0 0 = S.1 0 0 0) (h1 : T.1 0 1 0 = S.1 0 1 0) (h3 : ∀ k, T.1 3 k 0 = S.1 3 k 0) : LR T := by
  unfold LR
  simp only [h0, h1, h3]
  exact I
theorem Cnt.of5 (C : Cnt S) (h0 : T.1 0 0 0 = S.1 0 0 0) (h1 : T.1 0 1 0 = S.1 0 1 0) (h2 : T.1 0 2 0 = S.1 0 2 0) (h3 : T.1 0 3 0 = S.1 0 3 0) (h4 : T.1 0 4 0 = S.1 0 4 0) : Cnt T := by
  unfold Cnt
  simp only [h0, h1, h2, h3, h4]
  exact C
theorem IReg.up {B B' : Nat} (I : IReg S B) (h : B ≤ B') : IReg S B' := ⟨fun k => (I.1 k).wide (Nat.le_refl _) (Nat.mul_le_mul_left _ h), I.2⟩
theorem IAll.up {B B' : Nat} (I : IAll S B) (h : B ≤ B') : IAll S B' := ⟨I.1.wide (Nat.le_refl _) h, I.2⟩
theorem Inv.up {B B' : Nat} (I : Inv S B) (h : B ≤ B') : Inv S B' := ⟨I.cnt, I.lot, I.mou, I.blk, I.mac, I.ord, I.reg.up h, I.all.up h, I.hrs⟩
end TR
/-- a shot keeps all -/
theorem gets_rg {S : St} {B o : Nat} (I : Inv S B) (ho : o < nn (S.1 0 4 0)) : sGets S o = nI (nn (sGets S o)) ∧ nn (sGets S o) ≤ nn (sMany S o) ∧ nn (sGets S o) ≤ nn (S.1 19 o 0) := by
  have e : (sS3 S o).1 19 o 0 = S.1 19 o 0 := sS3_c (by decide) (by decide) (by decide) (by decide)
  have h := nmn (shot_nums I ho).1.1 (I.ord.1 o ho).2.2.1.1
  unfold sGets
  rw [e]
  exact h
theorem shoot_19 {S : St} {o k : Nat} : (shoot S o).1 19 k 0 = if k = o then S.1 19 o 0 - sGets S o else S.1 19 k 0 := by
  have e : ∀ k, (sS3 S o).1 19 k 0 = S.1 19 k 0 := fun k => sS3_c (by decide) (by decide) (by decide) (by decide)
  have e1 : (shoot S o).1 19 k 0 = (sS4 S o).1 19 k 0 := rfl
  rw [e1]
  unfold sS4
  by_cases h : k = o
  · subst h; rw [s1_eq, if_pos rfl, e]
  · rw [s1_ne (fun q => h q.2.1), if_neg h, e]
theorem shoot_2 {S : St} {o k : Nat} : (shoot S o).1 2 k 0 = if k = sRe S o then S.1 2 k 0 - sBack S o + (S.1 8 (sMo S o) 0 + (sMany S o - sGets S o) * S.1 7 (sMo S o) 0) else S.1 2 k 0 := by
  have e1 : (shoot S o).1 2 k 0 = (sS5 S o).1 2 k 0 := rfl
  have e2 : ∀ k, (sS4 S o).1 2 k 0 = (sS1 S o).1 2 k 0 := fun k => (rfl : (sS4 S o).1 2 k 0 = (sS3 S o).1 2 k 0).trans sS3_reg
  have e3 : (sS4 S o).1 8 (sMo S o) 0 = S.1 8 (sMo S o) 0 := (rfl : (sS4 S o).1 8 (sMo S o) 0 = (sS3 S o).1 8 (sMo S o) 0).trans (sS3_c (by decide) (by decide) (by decide) (by decide))
  have e4 : (sS4 S o).1 7 (sMo S o) 0 = S.1 7 (sMo S o) 0 := (rfl : (sS4 S o).1 7 (sMo S o) 0 = (sS3 S o).1 7 (sMo S o) 0).trans (sS3_c (by decide) (by decide) (by decide) (by decide))
  rw [e1]
  unfold sS5
  by_cases h : k = sRe S o
  · subst h; rw [s1_eq, if_pos rfl, e2, e3, e4]; unfold sS1; rw [s1_eq]
  · rw [s1_ne (fun q => h q.2.1), if_neg h, e2]; unfold sS1; rw [s1_ne (fun q => h q.2.1)]
theorem shoot_4 {S : St} {o k : Nat} : (shoot S o).1 4 k 0 = (sS2 S o).1 4 k 0 := (rfl : (shoot S o).1 4 k 0 = (sS3 S o).1 4 k 0).trans sS3_gr
theorem shoot_inv {S : St} {B o : Nat} (I : Inv S B) (ho : o < nn (S.1 0 4 0)) (hok : ¬ sMany S o = 0) (hB : B < 1000000) : Inv (shoot S o) (B + 1) := by
  obtain ⟨n1, n2, n3, n4, n5, n6⟩ := shot_nums I ho
  have n7 := grams_pos I ho hok
  obtain ⟨h17, h18, h19, h20⟩ := I.ord.1 o ho
  obtain ⟨m6, m7, m8, m10⟩ := I.mou _ h17.2
  obtain ⟨g1, g2, g3⟩ := gets_rg I ho
  have c0 : ∀ i, i < 6 → (shoot S o).1 0 i 0 = S.1 0 i 0 := fun i hi => shoot_0 (by omega) (by omega)
  have C2 : Cnt (shoot S o) := I.cnt.of (fun i hi => c0 i (by omega))
  refine ⟨C2, ?_, ?_, ?_, ?_, ?_, ?_, ?_, ?_⟩
  · intro k hk
    rw [c0 1 (by decide)] at hk
    have h3 : (shoot S o).1 3 k 0 = S.1 3 k 0 := shoot_c (by decide) (by decide) (by decide) (by decide) (by decide) (by decide) (by decide) (by decide)
    rw [h3, c0 0 (by decide), shoot_4]
    refine ⟨(I.lot k hk).1, ?_⟩
    obtain ⟨s1', s2'⟩ := nsub n2.1 n3.1 n6
    have hl : (sGrams S o - sBack S o) = nI (nn (sGrams S o - sBack S o)) := s1'
    exact (tkN_rg (S := sS1 S o) (r := S.1 18 o 0) (N := nn (S.1 0 1 0)) (b := 99999) (fun k hk => (I.lot k hk).2) hl _ (Nat.le_refl (nn (S.1 0 1 0)))).2 k hk
  · exact I.mou.of (c0 2 (by decide)) (fun k => shoot_c (by decide) (by decide) (by decide) (by decide) (by decide) (by decide) (by decide) (by decide)) (fun k => shoot_c (by decide) (by decide) (by decide) (by decide) (by decide) (by decide) (by decide) (by decide)) (fun k => shoot_c (by decide) (by decide) (by decide) (by decide) (by decide) (by decide) (by decide) (by decide)) (fun k => shoot_c (by decide) (by decide) (by decide) (by decide) (by decide) (by decide) (by decide) (by decide))
  · have e11 : ∀ k j, (sS2 S o).1 11 k j = S.1 11 k j := fun k j => sS2_c (by decide) (by decide)
    have e13 : ∀ k j, (sS2 S o).1 13 k j = S.1 13 k j := fun k j => sS2_c (by decide) (by decide)
    obtain ⟨b1, b2⟩ := mkN_blk (S := sS2 S o) (mo := sMo S o) (fun a b => by rw [e11]; exact I.blk.1 a b) (nn ((sS2 S o).1 6 (sMo S o) 0))
    refine ⟨fun k j => b1 k j, fun k j hk => ?_⟩
    rw [c0 2 (by decide)] at hk
    have hne : k ≠ sMo S o := fun q => by
      have : sMo S o < nn (S.1 0 2 0) := h17.2
      omega
    have b3 := b2 k j hne
    rw [e11, e13] at b3
    have b4 := I.blk.2 k j hk
    exact ⟨b3.1.trans b4.1, b3.2.trans b4.2⟩
  · exact I.mac.of (c0 2 (by decide)) (c0 3 (by decide)) (c0 4 (by decide)) (fun k => shoot_c (by decide) (by decide) (by decide) (by decide) (by decide) (by decide) (by decide) (by decide)) (fun k => shoot_c (by decide) (by decide) (by decide) (by decide) (by decide) (by decide) (by decide) (by decide)) (fun k => shoot_c (by decide) (by decide) (by decide) (by decide) (by decide) (by decide) (by decide) (by decide))
  · refine ⟨fun k hk => ?_, fun k hk => ?_⟩
    · rw [c0 4 (by decide)] at hk
      have e17 : (shoot S o).1 17 k 0 = S.1 17 k 0 := shoot_c (by decide) (by decide) (by decide) (by decide) (by decide) (by decide) (by decide) (by decide)
      have e18 : (shoot S o).1 18 k 0 = S.1 18 k 0 := shoot_c (by decide) (by decide) (by decide) (by decide) (by decide) (by decide) (by decide) (by decide)
      have e20 : (shoot S o).1 20 k 0 = S.1 20 k 0 := shoot_c (by decide) (by decide) (by decide) (by decide) (by decide) (by decide) (by decide) (by decide)
      obtain ⟨q17, q18, q19, q20⟩ := I.ord.1 k hk
      rw [e17, e18, e20, c0 2 (by decide), c0 0 (by decide), shoot_19]
      refine ⟨q17, q18, ?_, q20⟩
      by_cases e : k = o
      · rw [if_pos e]
        obtain ⟨s1', s2'⟩ := nsub h19.1 g1 g3
        exact ⟨s1', Nat.zero_le _, by rw [s2']; have := h19.2.2; omega⟩
      · rw [if_neg e]; exact q19
    · rw [c0 4 (by decide)] at hk
      have hne : k ≠ o := by omega
      obtain ⟨z1, z2, z3⟩ := I.ord.2 k hk
      have e21 : (shoot S o).1 21 k 0 = S.1 21 k 0 := (s1_ne (S := sS5 S o) (fun q => hne q.2.1)).trans ((rfl : (sS5 S o).1 21 k 0 = (sS3 S o).1 21 k 0).trans (sS3_c (by decide) (by decide) (by decide) (by decide)))
      have e22 : (shoot S o).1 22 k 0 = S.1 22 k 0 := (s1_ne (S := sS7 S o) (fun q => hne q.2.1)).trans ((rfl : (sS7 S o).1 22 k 0 = (sS3 S o).1 22 k 0).trans (sS3_c (by decide) (by decide) (by decide) (by decide)))
      have el : (shoot S o).2 2 k = S.2 2 k := (if_neg (fun q => hne q.2) : (s2 (sS6 S o) 2 o ((sS6 S o).2 2 o + (sBack S o).toInt64)).2 2 k = (sS6 S o).2 2 k).trans (congrFun (congrFun sS3_2 2) k)
      exact ⟨e21.trans z1, e22.trans z2, el.trans z3⟩
  · refine ⟨fun k => ?_, fun k hk => ?_⟩
    · rw [shoot_2]
      by_cases e : k = sRe S o
      · subst e
        rw [if_pos rfl]
        have r1 := I.reg.1 (sRe S o)
        obtain ⟨a1, a2⟩ := nsub r1.1 n3.1 n5
        obtain ⟨a3, a4⟩ := nsub n1.1 g1 g2
        have b1 : nn (sMany S o - sGets S o) * nn (S.1 7 (sMo S o) 0) ≤ nn (sMany S o) * nn (S.1 7 (sMo S o) 0) := Nat.mul_le_mul_right _ (by omega)
        have b2 := n2.2.2
        obtain ⟨a5, a6⟩ := nmul a3 m7.1 (by show nn (sMany S o - sGets S o) * nn (S.1 7 (sMo S o) 0) < _; omega)
        have a6' : nn ((sMany S o - sGets S o) * S.1 7 (sMo S o) 0) = nn (sMany S o - sGets S o) * nn (S.1 7 (sMo S o) 0) := a6
        obtain ⟨a7, a8⟩ := nadd (x := S.1 8 (sMo S o) 0) m8.1 a5 (by show nn (S.1 8 (sMo S o) 0) + nn ((sMany S o - sGets S o) * S.1 7 (sMo S o) 0) < _; omega)
        have a8' : nn (S.1 8 (sMo S o) 0 + (sMany S o - sGets S o) * S.1 7 (sMo S o) 0) = nn (S.1 8 (sMo S o) 0) + nn ((sMany S o - sGets S o) * S.1 7 (sMo S o) 0) := a8
        have b3 := r1.2.2
        obtain ⟨a9, a10⟩ := nadd a1 a7 (by show nn (S.1 2 (sRe S o) 0 - sBack S o) + nn (S.1 8 (sMo S o) 0 + (sMany S o - sGets S o) * S.1 7 (sMo S o) 0) < _; omega)
        refine ⟨a9, Nat.zero_le _, ?_⟩
        have a10' : nn (S.1 2 (sRe S o) 0 - sBack S o + (S.1 8 (sMo S o) 0 + (sMany S o - sGets S o) * S.1 7 (sMo S o) 0)) = nn (S.1 2 (sRe S o) 0 - sBack S o) + nn (S.1 8 (sMo S o) 0 + (sMany S o - sGets S o) * S.1 7 (sMo S o) 0) := a10
        rw [a10', a8']
        omega
      · rw [if_neg e]
        exact (I.reg.1 k).wide (Nat.le_refl _) (by omega)
    · rw [c0 0 (by decide)] at hk
      rw [shoot_2, if_neg (fun q => by have : sRe S o < nn (S.1 0 0 0) := h18.2; omega)]
      exact I.reg.2 k hk
  · obtain ⟨r1, g, r2, r3, r4⟩ := I.all
    have e6 : (shoot S o).1 0 6 0 = S.1 0 6 0 + 1 := by
      have e1 : (shoot S o).1 0 6 0 = (sS8 S o).1 0 6 0 + 1 := rfl
      have e2 : (sS8 S o).1 0 6 0 = (sS3 S o).1 0 6 0 := rfl
      rw [e1, e2, sS3_c (by decide) (by decide) (by decide) (by decide)]
    have el : (shoot S o).2 0 0 = S.2 0 0 + (sGrams S o).toInt64 := by
      have e1 : (shoot S o).2 0 0 = (sS3 S o).2 0 0 + (sGrams S o).toInt64 := rfl
      rw [e1, sS3_2]
    obtain ⟨a1, a2⟩ := nadd r1.1 e_1 (by rw [nn_1]; have := r1.2.2; omega)
    rw [nn_1] at a2
    refine ⟨?_, g + nn (sGrams S o), ?_, ?_, ?_⟩
    · rw [e6]; exact ⟨a1, Nat.zero_le _, by have := r1.2.2; omega⟩
    · rw [el, r2, n2.1, nI_l (nn_lt _), lN_add]
      rw [← n2.1]
    · rw [e6, a2]; omega
    · rw [e6, a2]; have := n2.2.2; omega
  · rw [c0 5 (by decide)]; exact I.hrs
