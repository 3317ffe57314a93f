/-! out of 41.model.lean.txt -/
theorem inB_f1 {v lw hi : Int32} (h : v < lw) : inB v lw hi = false := by
  cases hb : inB v lw hi with
  | false => rfl
  | true =>
    have h1 := (inB_iff.mp hb).1
    rw [i32_le] at h1
    rw [i32_lt] at h
    omega
theorem inB_f2 {v lw hi : Int32} (h : hi < v) : inB v lw hi = false := by
  cases hb : inB v lw hi with
  | false => rfl
  | true =>
    have h1 := (inB_iff.mp hb).2
    rw [i32_le] at h1
    rw [i32_lt] at h
    omega
theorem inB_t {v lw hi : Int32} (h1 : ¬ v < lw) (h2 : ¬ hi < v) : inB v lw hi = true := by
  rw [i32_lt] at h1 h2
  exact inB_iff.mpr ⟨by rw [i32_le]; omega, by rw [i32_le]; omega⟩
theorem bt {b : Bool} (h : b = true) : ¬ b = false := by rw [h]; decide
theorem le0_0 : (0 : Int32) ≤ 0 := by decide
theorem ne1_0 : ¬ (1 : Int32) = 0 := by decide
/-! out of 42.model.lean.txt -/
theorem nn_s {x : Int32} {b : Nat} (hx : x = nI (nn x)) (hb : nn x < b) (hB : b < 2 ^ 31) : x + 1 = nI (nn (x + 1)) ∧ nn (x + 1) = nn x + 1 := by
  have e : x + 1 = nI (nn x + 1) := by rw [nI_succ, ← hx]
  have e2 : nn (x + 1) = nn x + 1 := by rw [e]; exact nI_clamp (by omega)
  exact ⟨by rw [e2]; exact e, e2⟩
theorem ge_of {x y : Int32} (hx : x = nI (nn x)) (hy : y = nI (nn y)) (h : nn y ≤ nn x) (hb : nn x < 2 ^ 31) : y ≤ x := by
  rw [hx, hy]; exact nI_le h hb
theorem nge_of {x y : Int32} (hx : x = nI (nn x)) (hy : y = nI (nn y)) (h : nn x < nn y) (hb : nn y < 2 ^ 31) : ¬ y ≤ x := by
  rw [hx, hy]; exact nI_ge h hb
theorem nn_0 : nn (0 : Int32) = 0 := by decide
theorem rg_pred {x : Int32} {b : Nat} (h : Rg x 0 b) (h0 : 0 < nn x) (hb : b < 2 ^ 31) : x - 1 = nI (nn (x - 1)) ∧ nn (x - 1) = nn x - 1 := by
  have hk : nn x = (nn x - 1) + 1 := by omega
  have e : x - 1 = nI (nn x - 1) := by
    have h1 := h.1
    rw [hk, nI_succ] at h1
    rw [h1]
    have e3 : nn (nI (nn x - 1)) = nn x - 1 := nI_clamp (by have := h.2.2; omega)
    have e4 := nI_pred (nn x - 1)
    rw [nI_succ] at e4
    rw [e4]
    have e5 : nn (nI (nn x - 1) + 1) = nn x := by rw [← h1]
    rw [e5]
  have e2 : nn (x - 1) = nn x - 1 := by rw [e]; exact nI_clamp (by have := h.2.2; omega)
  exact ⟨by rw [e2]; exact e, e2⟩
/-- the resins of the lots -/
def LR (S : St) : Prop := ∀ k, k < nn (S.1 0 1 0) → S.1 3 k 0 = nI (nn (S.1 3 k 0)) ∧ nn (S.1 3 k 0) < nn (S.1 0 0 0)
theorem ILot.lr {S : St} (L : ILot S) : LR S := fun k hk => (L k hk).1
/-! out of 43.model.lean.txt -/
theorem livN_c {S : St} {mo c i j : Nat} (hc : c ≠ 12) : ∀ n, (livN S mo n).1 c i j = S.1 c i j
  | 0 => rfl
  | n + 1 => (s1_c hc).trans (livN_c hc n)
theorem mx0 (f : Int32) : mx 0 f = nI (nn f) := by
  unfold mx
  by_cases h : f < 0
  · rw [if_neg (by rw [i32_lt] at h ⊢; have : (0 : Int32).toInt = 0 := by decide
                   omega)]
    have e : nn f = 0 := by
      show f.toInt.toNat = 0
      rw [i32_lt] at h
      have : (0 : Int32).toInt = 0 := by decide
      omega
    rw [e]; rfl
  · by_cases h2 : 0 < f
    · rw [if_pos h2]; exact nn_of h
    · rw [if_neg h2]
      have e := nn_of h
      have e2 : nn f = 0 := by
        rw [i32_lt] at h h2
        have : (0 : Int32).toInt = 0 := by decide
        show f.toInt.toNat = 0
        omega
      rw [e2]; rfl
theorem nn_lt (x : Int32) : nn x < 2 ^ 31 := by
  have h := Int32.toInt_lt x
  show x.toInt.toNat < _
  omega
/-! out of 44.model.lean.txt -/
theorem i32_nlt {x y : Int32} (h : x ≤ y) : ¬ y < x := by rw [i32_lt]; rw [i32_le] at h; omega
theorem i32_ltof {x y : Int32} (h : ¬ x ≤ y) : y < x := by rw [i32_lt]; rw [i32_le] at h; omega
theorem rg_ne0 {x : Int32} {a b : Nat} (h : Rg x (a + 1) b) : ¬ x = 0 := fun e => by
  have h1 := h.2.1
  rw [e] at h1
  exact absurd h1 (by rw [nn_0]; omega)
theorem rg_0 {x : Int32} {b : Nat} (h : Rg x 0 b) (hb : b < 2 ^ 31) (h2 : x ≤ 0) : x = 0 := by
  have h1 := h.toI hb
  rw [i32_le, h1] at h2
  have h0 : (0 : Int32).toInt = 0 := by decide
  have h3 : nn x = 0 := by omega
  rw [h.1, h3]; rfl
theorem rg_lt1 {x K : Int32} {b : Nat} (h : Rg x 0 b) (hK : nI b = K) (hne : ¬ x = K) : nn x < b := by
  have h1 := h.2.2
  rcases Nat.lt_or_ge (nn x) b with q | q
  · exact q
  · exact absurd (by rw [h.1, show nn x = b by omega, hK]) hne
theorem tkN_c {S : St} {r g : Int32} {c i j : Nat} (hc : c ≠ 4) : ∀ n, (tkN S r g n).1.1 c i j = S.1 c i j
  | 0 => rfl
  | n + 1 => (s1_c hc).trans (tkN_c hc n)
theorem Cnt.of {S S2 : St} (C : Cnt S) (h : ∀ i, i < 5 → S2.1 0 i 0 = S.1 0 i 0) : Cnt S2 := by
  unfold Cnt
  rw [h 0 (by decide), h 1 (by decide), h 2 (by decide), h 3 (by decide), h 4 (by decide)]
  exact C
theorem LR.of {S S2 : St} (L : LR S) (h : ∀ c i j, c ≠ 4 → S2.1 c i j = S.1 c i j) : LR S2 := fun k hk => by
  rw [h 0 1 0 (by decide)] at hk
  rw [h 3 k 0 (by decide), h 0 0 0 (by decide)]
  exact L k hk
theorem nI_div {a b : Nat} (ha : a < 2 ^ 31) (hb : b < 2 ^ 31) : nI a / nI b = nI (a / b) := by
  have h1 : (nI a / nI b).toInt = (a / b : Nat) := by
    rw [Int32.toInt_div, nI_toInt ha, nI_toInt hb]
    have h3 : ((a : Int).tdiv (b : Int)) = ((a / b : Nat) : Int) := by simp [Int.ofNat_tdiv]
    rw [h3]
    have h4 : a / b ≤ a := Nat.div_le_self _ _
    generalize a / b = k at h4 ⊢
    rw [Int.bmod_eq_of_le] <;> omega
  have h5 := nI_toInt (n := a / b) (by have := Nat.div_le_self a b; omega)
  exact Int32.toInt_inj.mp (by rw [h1, h5])
/-! out of 45.pure.lean.txt -/
theorem ntoI {x : Int32} (hx : x = nI (nn x)) : x.toInt = (nn x : Int) := by
  have e := nI_toInt (nn_lt x)
  rw [← hx] at e
  exact e
theorem nadd {x y : Int32} (hx : x = nI (nn x)) (hy : y = nI (nn y)) (hb : nn x + nn y < 2 ^ 31) : x + y = nI (nn (x + y)) ∧ nn (x + y) = nn x + nn y := by
  have e : x + y = nI (nn x + nn y) := by rw [← nI_add, ← hx, ← hy]
  have e2 : nn (x + y) = nn x + nn y := by rw [e]; exact nI_clamp hb
  exact ⟨by rw [e2]; exact e, e2⟩
theorem nsub {x y : Int32} (hx : x = nI (nn x)) (hy : y = nI (nn y)) (hle : nn y ≤ nn x) : x - y = nI (nn (x - y)) ∧ nn (x - y) = nn x - nn y := by
  have h1 : nI (nn x - nn y) + y = x := by
    have h2 := nI_add (nn x - nn y) (nn y)
    rw [Nat.sub_add_cancel hle, ← hx, ← hy] at h2
    exact h2
  have e : x - y = nI (nn x - nn y) := by
    have h3 : x - y = (nI (nn x - nn y) + y) - y := congrArg (fun q => q - y) h1.symm
    rw [h3]; exact Int32.add_sub_cancel _ _
  have e2 : nn (x - y) = nn x - nn y := by rw [e]; exact nI_clamp (by have := nn_lt x; omega)
  exact ⟨by rw [e2]; exact e, e2⟩
theorem nmul {x y : Int32} (hx : x = nI (nn x)) (hy : y = nI (nn y)) (hb : nn x * nn y < 2 ^ 31) : x * y = nI (nn (x * y)) ∧ nn (x * y) = nn x * nn y := by
  have e : x * y = nI (nn x * nn y) := by
    have h2 : nI (nn x * nn y) = nI (nn x) * nI (nn y) := Int32.ofNat_mul _ _
    rw [h2, ← hx, ← hy]
  have e2 : nn (x * y) = nn x * nn y := by rw [e]; exact nI_clamp hb
  exact ⟨by rw [e2]; exact e, e2⟩
theorem ndiv {x y : Int32} (hx : x = nI (nn x)) (hy : y = nI (nn y)) : x / y = nI (nn (x / y)) ∧ nn (x / y) = nn x / nn y := by
  have e : x / y = nI (nn x / nn y) := by
    have h2 := nI_div (nn_lt x) (nn_lt y)
    rw [← hx, ← hy] at h2
    exact h2
  have e2 : nn (x / y) = nn x / nn y := by rw [e]; exact nI_clamp (by have := nn_lt x; have := Nat.div_le_self (nn x) (nn y); omega)
  exact ⟨by rw [e2]; exact e, e2⟩
theorem nmn {x y : Int32} (hx : x = nI (nn x)) (hy : y = nI (nn y)) : mn x y = nI (nn (mn x y)) ∧ nn (mn x y) ≤ nn x ∧ nn (mn x y) ≤ nn y := by
  unfold mn
  by_cases h : y < x
  · rw [if_pos h]
    rw [i32_lt, ntoI hx, ntoI hy] at h
    exact ⟨hy, by omega, by omega⟩
  · rw [if_neg h]
    rw [i32_lt, ntoI hx, ntoI hy] at h
    exact ⟨hx, by omega, by omega⟩
theorem e_0 : (0 : Int32) = nI (nn 0) := by decide
theorem e_1 : (1 : Int32) = nI (nn 1) := by decide
theorem nn_1 : nn (1 : Int32) = 1 := by decide
theorem opT_rg {S : St} {mo k : Nat} : opT S mo k = nI (nn (opT S mo k)) ∧ nn (opT S mo k) ≤ 1 := by
  unfold opT
  split
  · exact ⟨e_1, by rw [nn_1]; exact Nat.le_refl 1⟩
  · exact ⟨e_0, by rw [nn_0]; exact Nat.zero_le _⟩
theorem openN_rg {S : St} {mo : Nat} : ∀ n, n < 2 ^ 31 → openN S mo n = nI (nn (openN S mo n)) ∧ nn (openN S mo n) ≤ n
  | 0, _ => ⟨e_0, by show nn (0 : Int32) ≤ 0; rw [nn_0]; exact Nat.le_refl 0⟩
  | n + 1, h => by
    obtain ⟨h1, h2⟩ := openN_rg (S := S) (mo := mo) n (by omega)
    obtain ⟨h3, h4⟩ := opT_rg (S := S) (mo := mo) (k := n)
    obtain ⟨h5, h6⟩ := nadd h1 h3 (by omega)
    exact ⟨h5, by show nn (openN S mo n + opT S mo n) ≤ _; omega⟩
theorem opn_rg {S : St} {mo : Nat} (h : Rg (S.1 6 mo 0) 1 8) : Rg (opn S mo) 0 8 ∧ nn (opn S mo) ≤ nn (S.1 6 mo 0) := by
  obtain ⟨h1, h2⟩ := openN_rg (S := S) (mo := mo) (nn (S.1 6 mo 0)) (nn_lt _)
  exact ⟨⟨h1, Nat.zero_le _, Nat.le_trans h2 h.2.2⟩, h2⟩
/-- the numbers of a shot -/
theorem shot_nums {S : St} {B o : Nat} (I : Inv S B) (ho : o < nn (S.1 0 4 0)) :
    Rg (sMany S o) 0 8 ∧ Rg (sGrams S o) 0 1800 ∧ Rg (sBack S o) 0 1800 ∧ nn (sGrams S o) = nn (sMany S o) * nn (S.1 7 (sMo S o) 0) + nn (S.1 8 (sMo S o) 0) ∧ nn (sBack S o) ≤ nn (S.1 2 (sRe S o) 0) ∧ nn (sBack S o) ≤ nn (sGrams S o) := by
  obtain ⟨h17, h18, h19, h20⟩ := I.ord.1 o ho
  obtain ⟨m6, m7, m8, m10⟩ := I.mou _ h17.2
  have hm := (opn_rg m6).1
  have b1 : nn (sMany S o) * nn (S.1 7 (sMo S o) 0) ≤ 8 * 200 := Nat.mul_le_mul hm.2.2 m7.2.2
  obtain ⟨g1, g2⟩ := nmul (x := sMany S o) hm.1 m7.1 (Nat.lt_of_le_of_lt b1 (by decide))
  have b2 := m8.2.2
  have b1' : nn (sMany S o * S.1 7 (sMo S o) 0) ≤ 1600 := by
    have : nn (sMany S o * S.1 7 (sMo S o) 0) = nn (sMany S o) * nn (S.1 7 (sMo S o) 0) := g2
    omega
  obtain ⟨g3, g4⟩ := nadd (x := sMany S o * S.1 7 (sMo S o) 0) (y := S.1 8 (sMo S o) 0) g1 m8.1 (by have : nn (S.1 8 (sMo S o) 0) ≤ 200 := b2; omega)
  have hg : Rg (sGrams S o) 0 1800 := ⟨g3, Nat.zero_le _, by show nn (sMany S o * S.1 7 (sMo S o) 0 + S.1 8 (sMo S o) 0) ≤ 1800; have : nn (S.1 8 (sMo S o) 0) ≤ 200 := b2; omega⟩
  have e4 : nn (sGrams S o) = nn (sMany S o) * nn (S.1 7 (sMo S o) 0) + nn (S.1 8 (sMo S o) 0) := g4.trans (congrArg (fun q => q + _) g2)
  have b3 : nn (sGrams S o) * nn (S.1 20 o 0) ≤ nn (sGrams S o) * 50 := Nat.mul_le_mul_left _ h20.2.2
  have b4 := hg.2.2
  obtain ⟨g5, g6⟩ := nmul hg.1 h20.1 (by omega)
  obtain ⟨g7, g8⟩ := ndiv (y := 100) g5 (by decide)
  have e100 : nn (100 : Int32) = 100 := by decide
  obtain ⟨g9, g10, g11⟩ := nmn (I.reg.1 (sRe S o)).1 g7
  rw [g8, g6, e100] at g11
  have hb : nn (sBack S o) ≤ nn (sGrams S o) := by
    refine Nat.le_trans g11 ?_
    omega
  exact ⟨hm, hg, ⟨g9, Nat.zero_le _, Nat.le_trans hb b4⟩, e4, g10, hb⟩
theorem grams_pos {S : St} {B o : Nat} (I : Inv S B) (ho : o < nn (S.1 0 4 0)) (h : ¬ sMany S o = 0) : 1 ≤ nn (sGrams S o) := by
  obtain ⟨n1, n2, n3, n4, n5, n6⟩ := shot_nums I ho
  have h1 : 1 ≤ nn (sMany S o) := by
    rcases Nat.eq_zero_or_pos (nn (sMany S o)) with q | q
    · exact absurd (by rw [n1.1, q]; rfl) h
    · exact q
  have h2 := (I.mou _ (I.ord.1 o ho).1.2).2.1.2.1
  have h3 : 1 * 1 ≤ nn (sMany S o) * nn (S.1 7 (sMo S o) 0) := Nat.mul_le_mul h1 h2
  omega
theorem mkS_c {S : St} {mo k c i j : Nat} (h1 : c ≠ 11) (h2 : c ≠ 13) : (mkS S mo k).1 c i j = S.1 c i j := by
  unfold mkS fails
  split
  · exact (s1_c h1).trans (s1_c h2)
  · rfl
theorem mkN_c {S : St} {mo c i j : Nat} (h1 : c ≠ 11) (h2 : c ≠ 13) : ∀ n, (mkN S mo n).1 c i j = S.1 c i j
  | 0 => rfl
  | n + 1 => (mkS_c h1 h2).trans (mkN_c h1 h2 n)
theorem mkS_2 {S : St} {mo k : Nat} : (mkS S mo k).2 = S.2 := by
  unfold mkS fails
  split <;> rfl
theorem mkN_2 {S : St} {mo : Nat} : ∀ n, (mkN S mo n).2 = S.2
  | 0 => rfl
  | n + 1 => mkS_2.trans (mkN_2 n)
theorem tkN_2 {S : St} {r g : Int32} : ∀ n, (tkN S r g n).1.2 = S.2
  | 0 => rfl
  | n + 1 => tkN_2 n
theorem sS2_c {S : St} {o c i j : Nat} (h2 : c ≠ 2) (h4 : c ≠ 4) : (sS2 S o).1 c i j = S.1 c i j := (tkN_c h4 _).trans (s1_c h2)
theorem sS3_c {S : St} {o c i j : Nat} (h2 : c ≠ 2) (h4 : c ≠ 4) (h11 : c ≠ 11) (h13 : c ≠ 13) : (sS3 S o).1 c i j = S.1 c i j := (mkN_c h11 h13 _).trans (sS2_c h2 h4)
theorem sS3_2 {S : St} {o : Nat} : (sS3 S o).2 = S.2 := (mkN_2 _).trans (tkN_2 _)
theorem sS3_reg {S : St} {o i j : Nat} : (sS3 S o).1 2 i j = (sS1 S o).1 2 i j := (mkN_c (by decide) (by decide) _).trans (tkN_c (by decide) _)
theorem sS3_gr {S : St} {o i j : Nat} : (sS3 S o).1 4 i j = (sS2 S o).1 4 i j := mkN_c (by decide) (by decide) _
/-- the components that a shot leaves alone -/
theorem shoot_c {S : St} {o c i j : Nat} (h0 : c ≠ 0) (h2 : c ≠ 2) (h4 : c ≠ 4) (h11 : c ≠ 11) (h13 : c ≠ 13) (h19 : c ≠ 19) (h21 : c ≠ 21) (h22 : c ≠ 22) : (shoot S o).1 c i j = S.1 c i j := by
  have e : (shoot S o).1 c i j = (sS3 S o).1 c i j := by
    refine (s1_c (S := sS9 S o) h0).trans ?_
    refine (s1_c (S := sS8 S o) h0).trans ?_
    refine (s1_c (S := sS7 S o) h22).trans ?_
    refine (s1_c (S := sS5 S o) h21).trans ?_
    refine (s1_c (S := sS4 S o) h2).trans ?_
    exact s1_c (S := sS3 S o) h19
  exact e.trans (sS3_c h2 h4 h11 h13)
theorem shoot_0 {S : St} {o i : Nat} (h6 : i ≠ 6) (h7 : i ≠ 7) : (shoot S o).1 0 i 0 = S.1 0 i 0 := by
  have e : (shoot S o).1 0 i 0 = (sS3 S o).1 0 i 0 := by
    refine (s1_ne (S := sS9 S o) (fun q => h7 q.2.1)).trans ?_
    exact s1_ne (S := sS8 S o) (fun q => h6 q.2.1)
  exact e.trans (sS3_c (by decide) (by decide) (by decide) (by decide))
theorem tkI_rg {S : St} {r left : Int32} {k : Nat} (hl : left = nI (nn left)) (hg : S.1 4 k 0 = nI (nn (S.1 4 k 0))) : tkI S r left k = nI (nn (tkI S r left k)) ∧ nn (tkI S r left k) ≤ nn left ∧ nn (tkI S r left k) ≤ nn (S.1 4 k 0) := by
  unfold tkI
  split
  · exact nmn hl hg
  · exact ⟨e_0, by rw [nn_0]; exact Nat.zero_le _, by rw [nn_0]; exact Nat.zero_le _⟩
theorem tkN_rg {S : St} {r left : Int32} {N b : Nat} (hg : ∀ k, k < N → Rg (S.1 4 k 0) 0 b) (hl : left = nI (nn left)) : ∀ n, n ≤ N → ((tkN S r left n).2 = nI (nn (tkN S r left n).2)) ∧ ∀ k, k < N → Rg ((tkN S r left n).1.1 4 k 0) 0 b
  | 0, _ => ⟨hl, hg⟩
  | n + 1, hn => by
    obtain ⟨h1, h2⟩ := tkN_rg (r := r) hg hl n (by omega)
    have h3 := h2 n (by omega)
    obtain ⟨h4, h5, h6⟩ := tkI_rg (r := r) h1 h3.1
    refine ⟨(nsub h1 h4 h5).1, fun k hk => ?_⟩
    by_cases e : k = n
    · subst e
      obtain ⟨h7, h8⟩ := nsub h3.1 h4 h6
      have h9 : (tkN S r left (k + 1)).1.1 4 k 0 = (tkN S r left k).1.1 4 k 0 - tkI (tkN S r left k).1 r (tkN S r left k).2 k := s1_eq
      rw [h9]
      exact ⟨h7, Nat.zero_le _, by rw [h8]; have := h3.2.2; omega⟩
    · have h9 : (tkN S r left (n + 1)).1.1 4 k 0 = (tkN S r left n).1.1 4 k 0 := s1_ne (fun q => e q.2.1)
      rw [h9]
      exact h2 k hk
theorem mkS_blk {S : St} {mo k : Nat} (h : ∀ a b, S.1 11 a b = 0 ∨ S.1 11 a b = 1) : (∀ a b, (mkS S mo k).1 11 a b = 0 ∨ (mkS S mo k).1 11 a b = 1) ∧ (∀ a b, a ≠ mo → (mkS S mo k).1 11 a b = S.1 11 a b ∧ (mkS S mo k).1 13 a b = S.1 13 a b) := by
  unfold mkS
  split
  · refine ⟨fun a b => ?_, fun a b hne => ⟨?_, ?_⟩⟩
    · unfold fails
      by_cases e : a = mo ∧ b = k
      · obtain ⟨rfl, rfl⟩ := e
        rw [s1_eq]
        split
        · exact Or.inl rfl
        · exact Or.inr rfl
      · rw [s1_ne (fun q => e q.2)]
        exact h a b
    · exact s1_ne (fun q => hne q.2.1)
    · exact (s1_c (by decide)).trans (s1_ne (fun q => hne q.2.1))
  · exact ⟨h, fun a b _ => ⟨rfl, rfl⟩⟩
theorem mkN_blk {S : St} {mo : Nat} (h : ∀ a b, S.1 11 a b = 0 ∨ S.1 11 a b = 1) : ∀ n, (∀ a b, (mkN S mo n).1 11 a b = 0 ∨ (mkN S mo n).1 11 a b = 1) ∧ (∀ a b, a ≠ mo → (mkN S mo n).1 11 a b = S.1 11 a b ∧ (mkN S mo n).1 13 a b = S.1 13 a b)
  | 0 => ⟨h, fun _ _ _ => ⟨rfl, rfl⟩⟩
  | n + 1 => by
    obtain ⟨h1, h2⟩ := mkN_blk (mo := mo) h n
    obtain ⟨h3, h4⟩ := mkS_blk (mo := mo) (k := n) h1
    exact ⟨h3, fun a b hne => ⟨(h4 a b hne).1.trans (h2 a b hne).1, (h4 a b hne).2.trans (h2 a b hne).2⟩⟩
section TR
variable {S T : St}
theorem IMou.of (I : IMou S) (h0 : T.1 0 2 0 = S.1 0 2 0) (h6 : ∀ k, T.1 6 k 0 = S.1 6 k 0) (h7 : ∀ k, T.1 7 k 0 = S.1 7 k 0) (h8 : ∀ k, T.1 8 k 0 = S.1 8 k 0) (h10 : ∀ k, T.1 10 k 0 = S.1 10 k 0) : IMou T := by
  unfold IMou
  simp only [h0, h6, h7, h8, h10]
  exact I
theorem IMac.of (I : IMac S) (h2 : T.1 0 2 0 = S.1 0 2 0) (h3 : T.1 0 3 0 = S.1 0 3 0) (h4 : T.1 0 4 0 = S.1 0 4 0) (h15 : ∀ k, T.1 15 k 0 = S.1 15 k 0) (h16 : ∀ k, T.1 16 k 0 = S.1 16 k 0) (h17 : ∀ k, T.1 17 k 0 = S.1 17 k 0) : IMac T := by
  unfold IMac
  simp only [h2, h3, h4, h15, h16, h17]
  exact I
theorem IBlk.of (I : IBlk S) (h2 : T.1 0 2 0 = S.1 0 2 0) (h11 : ∀ k j, T.1 11 k j = S.1 11 k j) (h13 : ∀ k j, T.1 13 k j = S.1 13 k j) : IBlk T := by
  unfold IBlk
  simp only [h2, h11, h13]
  exact I
theorem IOrd.of (I : IOrd S) (h0 : T.1 0 0 0 = S.1 0 0 0) (h2 : T.1 0 2 0 = S.1 0 2 0) (h4 : T.1 0 4 0 = S.1 0 4 0) (h17 : ∀ k, T.1 17 k 0 = S.1 17 k 0) (h18 : ∀ k, T.1 18 k 0 = S.1 18 k 0) (h19 : ∀ k, T.1 19 k 0 = S.1 19 k 0) (h20 : ∀ k, T.1 20 k 0 = S.1 20 k 0) (h21 : ∀ k, T.1 21 k 0 = S.1 21 k 0) (h22 : ∀ k, T.1 22 k 0 = S.1 22 k 0) (hl : ∀ k, T.2 2 k = S.2 2 k) : IOrd T := by
  unfold IOrd
  simp only [h0, h2, h4, h17, h18, h19, h20, h21, h22, hl]
  exact I
theorem IReg.of {B : Nat} (I : IReg S B) (h0 : T.1 0 0 0 = S.1 0 0 0) (h2 : ∀ k, T.1 2 k 0 = S.1 2 k 0) : IReg T B := by
  unfold IReg
  simp only [h0, h2]
  exact I
theorem IAll.of {B : Nat} (I : IAll S B) (h6 : T.1 0 6 0 = S.1 0 6 0) (hl : T.2 0 0 = S.2 0 0) : IAll T B := by
  unfold IAll
  simp only [h6, hl]
  exact I
theorem ILot.of (I : ILot S) (h0 : T.1 0 0 0 = S.1 0 0 0) (h1 : T.1 0 1 0 = S.1 0 1 0) (h3 : ∀ k, T.1 3 k 0 = S.1 3 k 0) (h4 : ∀ k, T.1 4 k 0 = S.1 4 k 0) : ILot T := by
  unfold ILot
  simp only [h0, h1, h3, h4]
  exact I
theorem LR.of2 (I : LR S) (h0 : T.1 0 0 0 = S.1 0 0 0) (h1 : T.1 0 1 0 = S.1 0 1 0) (h3 : ∀ k, T.1 3 k 0 = S.1 3 k 0) : LR T := by
  unfold LR
  simp only [h0, h1, h3]
  exact I
theorem Cnt.of5 (C : Cnt S) (h0 : T.1 0 0 0 = S.1 0 0 0) (h1 : T.1 0 1 0 = S.1 0 1 0) (h2 : T.1 0 2 0 = S.1 0 2 0) (h3 : T.1 0 3 0 = S.1 0 3 0) (h4 : T.1 0 4 0 = S.1 0 4 0) : Cnt T := by
  unfold Cnt
  simp only [h0, h1, h2, h3, h4]
  exact C
theorem IReg.up {B B' : Nat} (I : IReg S B) (h : B ≤ B') : IReg S B' := ⟨fun k => (I.1 k).wide (Nat.le_refl _) (Nat.mul_le_mul_left _ h), I.2⟩
theorem IAll.up {B B' : Nat} (I : IAll S B) (h : B ≤ B') : IAll S B' := ⟨I.1.wide (Nat.le_refl _) h, I.2⟩
theorem Inv.up {B B' : Nat} (I : Inv S B) (h : B ≤ B') : Inv S B' := ⟨I.cnt, I.lot, I.mou, I.blk, I.mac, I.ord, I.reg.up h, I.all.up h, I.hrs⟩
end TR
/-- a shot keeps all -/
theorem gets_rg {S : St} {B o : Nat} (I : Inv S B) (ho : o < nn (S.1 0 4 0)) : sGets S o = nI (nn (sGets S o)) ∧ nn (sGets S o) ≤ nn (sMany S o) ∧ nn (sGets S o) ≤ nn (S.1 19 o 0) := by
  have e : (sS3 S o).1 19 o 0 = S.1 19 o 0 := sS3_c (by decide) (by decide) (by decide) (by decide)
  have h := nmn (shot_nums I ho).1.1 (I.ord.1 o ho).2.2.1.1
  unfold sGets
  rw [e]
  exact h
theorem shoot_19 {S : St} {o k : Nat} : (shoot S o).1 19 k 0 = if k = o then S.1 19 o 0 - sGets S o else S.1 19 k 0 := by
  have e : ∀ k, (sS3 S o).1 19 k 0 = S.1 19 k 0 := fun k => sS3_c (by decide) (by decide) (by decide) (by decide)
  have e1 : (shoot S o).1 19 k 0 = (sS4 S o).1 19 k 0 := rfl
  rw [e1]
  unfold sS4
  by_cases h : k = o
  · subst h; rw [s1_eq, if_pos rfl, e]
  · rw [s1_ne (fun q => h q.2.1), if_neg h, e]
theorem shoot_2 {S : St} {o k : Nat} : (shoot S o).1 2 k 0 = if k = sRe S o then S.1 2 k 0 - sBack S o + (S.1 8 (sMo S o) 0 + (sMany S o - sGets S o) * S.1 7 (sMo S o) 0) else S.1 2 k 0 := by
  have e1 : (shoot S o).1 2 k 0 = (sS5 S o).1 2 k 0 := rfl
  have e2 : ∀ k, (sS4 S o).1 2 k 0 = (sS1 S o).1 2 k 0 := fun k => (rfl : (sS4 S o).1 2 k 0 = (sS3 S o).1 2 k 0).trans sS3_reg
  have e3 : (sS4 S o).1 8 (sMo S o) 0 = S.1 8 (sMo S o) 0 := (rfl : (sS4 S o).1 8 (sMo S o) 0 = (sS3 S o).1 8 (sMo S o) 0).trans (sS3_c (by decide) (by decide) (by decide) (by decide))
  have e4 : (sS4 S o).1 7 (sMo S o) 0 = S.1 7 (sMo S o) 0 := (rfl : (sS4 S o).1 7 (sMo S o) 0 = (sS3 S o).1 7 (sMo S o) 0).trans (sS3_c (by decide) (by decide) (by decide) (by decide))
  rw [e1]
  unfold sS5
  by_cases h : k = sRe S o
  · subst h; rw [s1_eq, if_pos rfl, e2, e3, e4]; unfold sS1; rw [s1_eq]
  · rw [s1_ne (fun q => h q.2.1), if_neg h, e2]; unfold sS1; rw [s1_ne (fun q => h q.2.1)]
theorem shoot_4 {S : St} {o k : Nat} : (shoot S o).1 4 k 0 = (sS2 S o).1 4 k 0 := (rfl : (shoot S o).1 4 k 0 = (sS3 S o).1 4 k 0).trans sS3_gr
theorem shoot_inv {S : St} {B o : Nat} (I : Inv S B) (ho : o < nn (S.1 0 4 0)) (hok : ¬ sMany S o = 0) (hB : B < 1000000) : Inv (shoot S o) (B + 1) := by
  obtain ⟨n1, n2, n3, n4, n5, n6⟩ := shot_nums I ho
  have n7 := grams_pos I ho hok
  obtain ⟨h17, h18, h19, h20⟩ := I.ord.1 o ho
  obtain ⟨m6, m7, m8, m10⟩ := I.mou _ h17.2
  obtain ⟨g1, g2, g3⟩ := gets_rg I ho
  have c0 : ∀ i, i < 6 → (shoot S o).1 0 i 0 = S.1 0 i 0 := fun i hi => shoot_0 (by omega) (by omega)
  have C2 : Cnt (shoot S o) := I.cnt.of (fun i hi => c0 i (by omega))
  refine ⟨C2, ?_, ?_, ?_, ?_, ?_, ?_, ?_, ?_⟩
  · intro k hk
    rw [c0 1 (by decide)] at hk
    have h3 : (shoot S o).1 3 k 0 = S.1 3 k 0 := shoot_c (by decide) (by decide) (by decide) (by decide) (by decide) (by decide) (by decide) (by decide)
    rw [h3, c0 0 (by decide), shoot_4]
    refine ⟨(I.lot k hk).1, ?_⟩
    obtain ⟨s1', s2'⟩ := nsub n2.1 n3.1 n6
    have hl : (sGrams S o - sBack S o) = nI (nn (sGrams S o - sBack S o)) := s1'
    exact (tkN_rg (S := sS1 S o) (r := S.1 18 o 0) (N := nn (S.1 0 1 0)) (b := 99999) (fun k hk => (I.lot k hk).2) hl _ (Nat.le_refl (nn (S.1 0 1 0)))).2 k hk
  · exact I.mou.of (c0 2 (by decide)) (fun k => shoot_c (by decide) (by decide) (by decide) (by decide) (by decide) (by decide) (by decide) (by decide)) (fun k => shoot_c (by decide) (by decide) (by decide) (by decide) (by decide) (by decide) (by decide) (by decide)) (fun k => shoot_c (by decide) (by decide) (by decide) (by decide) (by decide) (by decide) (by decide) (by decide)) (fun k => shoot_c (by decide) (by decide) (by decide) (by decide) (by decide) (by decide) (by decide) (by decide))
  · have e11 : ∀ k j, (sS2 S o).1 11 k j = S.1 11 k j := fun k j => sS2_c (by decide) (by decide)
    have e13 : ∀ k j, (sS2 S o).1 13 k j = S.1 13 k j := fun k j => sS2_c (by decide) (by decide)
    obtain ⟨b1, b2⟩ := mkN_blk (S := sS2 S o) (mo := sMo S o) (fun a b => by rw [e11]; exact I.blk.1 a b) (nn ((sS2 S o).1 6 (sMo S o) 0))
    refine ⟨fun k j => b1 k j, fun k j hk => ?_⟩
    rw [c0 2 (by decide)] at hk
    have hne : k ≠ sMo S o := fun q => by
      have : sMo S o < nn (S.1 0 2 0) := h17.2
      omega
    have b3 := b2 k j hne
    rw [e11, e13] at b3
    have b4 := I.blk.2 k j hk
    exact ⟨b3.1.trans b4.1, b3.2.trans b4.2⟩
  · exact I.mac.of (c0 2 (by decide)) (c0 3 (by decide)) (c0 4 (by decide)) (fun k => shoot_c (by decide) (by decide) (by decide) (by decide) (by decide) (by decide) (by decide) (by decide)) (fun k => shoot_c (by decide) (by decide) (by decide) (by decide) (by decide) (by decide) (by decide) (by decide)) (fun k => shoot_c (by decide) (by decide) (by decide) (by decide) (by decide) (by decide) (by decide) (by decide))
  · refine ⟨fun k hk => ?_, fun k hk => ?_⟩
    · rw [c0 4 (by decide)] at hk
      have e17 : (shoot S o).1 17 k 0 = S.1 17 k 0 := shoot_c (by decide) (by decide) (by decide) (by decide) (by decide) (by decide) (by decide) (by decide)
      have e18 : (shoot S o).1 18 k 0 = S.1 18 k 0 := shoot_c (by decide) (by decide) (by decide) (by decide) (by decide) (by decide) (by decide) (by decide)
      have e20 : (shoot S o).1 20 k 0 = S.1 20 k 0 := shoot_c (by decide) (by decide) (by decide) (by decide) (by decide) (by decide) (by decide) (by decide)
      obtain ⟨q17, q18, q19, q20⟩ := I.ord.1 k hk
      rw [e17, e18, e20, c0 2 (by decide), c0 0 (by decide), shoot_19]
      refine ⟨q17, q18, ?_, q20⟩
      by_cases e : k = o
      · rw [if_pos e]
        obtain ⟨s1', s2'⟩ := nsub h19.1 g1 g3
        exact ⟨s1', Nat.zero_le _, by rw [s2']; have := h19.2.2; omega⟩
      · rw [if_neg e]; exact q19
    · rw [c0 4 (by decide)] at hk
      have hne : k ≠ o := by omega
      obtain ⟨z1, z2, z3⟩ := I.ord.2 k hk
      have e21 : (shoot S o).1 21 k 0 = S.1 21 k 0 := (s1_ne (S := sS5 S o) (fun q => hne q.2.1)).trans ((rfl : (sS5 S o).1 21 k 0 = (sS3 S o).1 21 k 0).trans (sS3_c (by decide) (by decide) (by decide) (by decide)))
      have e22 : (shoot S o).1 22 k 0 = S.1 22 k 0 := (s1_ne (S := sS7 S o) (fun q => hne q.2.1)).trans ((rfl : (sS7 S o).1 22 k 0 = (sS3 S o).1 22 k 0).trans (sS3_c (by decide) (by decide) (by decide) (by decide)))
      have el : (shoot S o).2 2 k = S.2 2 k := (if_neg (fun q => hne q.2) : (s2 (sS6 S o) 2 o ((sS6 S o).2 2 o + (sBack S o).toInt64)).2 2 k = (sS6 S o).2 2 k).trans (congrFun (congrFun sS3_2 2) k)
      exact ⟨e21.trans z1, e22.trans z2, el.trans z3⟩
  · refine ⟨fun k => ?_, fun k hk => ?_⟩
    · rw [shoot_2]
      by_cases e : k = sRe S o
      · subst e
        rw [if_pos rfl]
        have r1 := I.reg.1 (sRe S o)
        obtain ⟨a1, a2⟩ := nsub r1.1 n3.1 n5
        obtain ⟨a3, a4⟩ := nsub n1.1 g1 g2
        have b1 : nn (sMany S o - sGets S o) * nn (S.1 7 (sMo S o) 0) ≤ nn (sMany S o) * nn (S.1 7 (sMo S o) 0) := Nat.mul_le_mul_right _ (by omega)
        have b2 := n2.2.2
        obtain ⟨a5, a6⟩ := nmul a3 m7.1 (by show nn (sMany S o - sGets S o) * nn (S.1 7 (sMo S o) 0) < _; omega)
        have a6' : nn ((sMany S o - sGets S o) * S.1 7 (sMo S o) 0) = nn (sMany S o - sGets S o) * nn (S.1 7 (sMo S o) 0) := a6
        obtain ⟨a7, a8⟩ := nadd (x := S.1 8 (sMo S o) 0) m8.1 a5 (by show nn (S.1 8 (sMo S o) 0) + nn ((sMany S o - sGets S o) * S.1 7 (sMo S o) 0) < _; omega)
        have a8' : nn (S.1 8 (sMo S o) 0 + (sMany S o - sGets S o) * S.1 7 (sMo S o) 0) = nn (S.1 8 (sMo S o) 0) + nn ((sMany S o - sGets S o) * S.1 7 (sMo S o) 0) := a8
        have b3 := r1.2.2
        obtain ⟨a9, a10⟩ := nadd a1 a7 (by show nn (S.1 2 (sRe S o) 0 - sBack S o) + nn (S.1 8 (sMo S o) 0 + (sMany S o - sGets S o) * S.1 7 (sMo S o) 0) < _; omega)
        refine ⟨a9, Nat.zero_le _, ?_⟩
        have a10' : nn (S.1 2 (sRe S o) 0 - sBack S o + (S.1 8 (sMo S o) 0 + (sMany S o - sGets S o) * S.1 7 (sMo S o) 0)) = nn (S.1 2 (sRe S o) 0 - sBack S o) + nn (S.1 8 (sMo S o) 0 + (sMany S o - sGets S o) * S.1 7 (sMo S o) 0) := a10
        rw [a10', a8']
        omega
      · rw [if_neg e]
        exact (I.reg.1 k).wide (Nat.le_refl _) (by omega)
    · rw [c0 0 (by decide)] at hk
      rw [shoot_2, if_neg (fun q => by have : sRe S o < nn (S.1 0 0 0) := h18.2; omega)]
      exact I.reg.2 k hk
  · obtain ⟨r1, g, r2, r3, r4⟩ := I.all
    have e6 : (shoot S o).1 0 6 0 = S.1 0 6 0 + 1 := by
      have e1 : (shoot S o).1 0 6 0 = (sS8 S o).1 0 6 0 + 1 := rfl
      have e2 : (sS8 S o).1 0 6 0 = (sS3 S o).1 0 6 0 := rfl
      rw [e1, e2, sS3_c (by decide) (by decide) (by decide) (by decide)]
    have el : (shoot S o).2 0 0 = S.2 0 0 + (sGrams S o).toInt64 := by
      have e1 : (shoot S o).2 0 0 = (sS3 S o).2 0 0 + (sGrams S o).toInt64 := rfl
      rw [e1, sS3_2]
    obtain ⟨a1, a2⟩ := nadd r1.1 e_1 (by rw [nn_1]; have := r1.2.2; omega)
    rw [nn_1] at a2
    refine ⟨?_, g + nn (sGrams S o), ?_, ?_, ?_⟩
    · rw [e6]; exact ⟨a1, Nat.zero_le _, by have := r1.2.2; omega⟩
    · rw [el, r2, n2.1, nI_l (nn_lt _), lN_add]
      rw [← n2.1]
    · rw [e6, a2]; omega
    · rw [e6, a2]; have := n2.2.2; omega
  · rw [c0 5 (by decide)]; exact I.hrs

/-! out of 46.model.lean.txt -/
def shS (S : St) (o : Nat) : St := if sOK S o = true then shoot S o else S
theorem sOK_f1 {S : St} {o : Nat} (h : sMany S o = 0) : sOK S o = false := by unfold sOK; rw [decide_eq_true h]; rfl
theorem sOK_f2 {S : St} {o : Nat} (h : dryOf S (S.1 18 o 0) < sGrams S o - sBack S o) : sOK S o = false := by unfold sOK; rw [decide_eq_true h]; exact Bool.and_false _
theorem sOK_t {S : St} {o : Nat} (h : ¬ sMany S o = 0) (h2 : ¬ dryOf S (S.1 18 o 0) < sGrams S o - sBack S o) : sOK S o = true := by unfold sOK; rw [decide_eq_false h, decide_eq_false h2]; rfl
theorem sOK_many {S : St} {o : Nat} (h : sOK S o = true) : ¬ sMany S o = 0 := fun q => by rw [sOK_f1 q] at h; exact absurd h (by decide)
theorem bt2 {b : Bool} (h : b = false) : ¬ b = true := by rw [h]; decide
/-! out of 47.pure.lean.txt -/
theorem shf_c {S : St} {k c i j : Nat} (h3 : c ≠ 3) (h4 : c ≠ 4) (h5 : c ≠ 5) : (shf S k).1 c i j = S.1 c i j := (s1_c h5).trans ((s1_c h4).trans (s1_c h3))
theorem shf_at {S : St} {k c i : Nat} (hc : c = 3 ∨ c = 4 ∨ c = 5) : (shf S k).1 c i 0 = if i = k then S.1 c (k + 1) 0 else S.1 c i 0 := by
  have e3 : (shf S k).1 3 i 0 = (s1 S 3 k 0 (S.1 3 (k + 1) 0)).1 3 i 0 := rfl
  have e4 : (shf S k).1 4 i 0 = (s1 S 4 k 0 (S.1 4 (k + 1) 0)).1 4 i 0 := rfl
  have e5 : (shf S k).1 5 i 0 = (s1 S 5 k 0 (S.1 5 (k + 1) 0)).1 5 i 0 := rfl
  rcases hc with rfl | rfl | rfl
  · rw [e3]
    by_cases h : i = k
    · subst h; rw [s1_eq, if_pos rfl]
    · rw [s1_ne (fun q => h q.2.1), if_neg h]
  · rw [e4]
    by_cases h : i = k
    · subst h; rw [s1_eq, if_pos rfl]
    · rw [s1_ne (fun q => h q.2.1), if_neg h]
  · rw [e5]
    by_cases h : i = k
    · subst h; rw [s1_eq, if_pos rfl]
    · rw [s1_ne (fun q => h q.2.1), if_neg h]
theorem shfN_c {c i j : Nat} (h3 : c ≠ 3) (h4 : c ≠ 4) (h5 : c ≠ 5) : ∀ (n : Nat) (S : St) (k : Nat), (shfN S k n).1 c i j = S.1 c i j
  | 0, _, _ => rfl
  | n + 1, S, k => (shfN_c h3 h4 h5 n (shf S k) (k + 1)).trans (shf_c h3 h4 h5)
theorem shfN_2 : ∀ (n : Nat) (S : St) (k : Nat), (shfN S k n).2 = S.2
  | 0, _, _ => rfl
  | n + 1, S, k => shfN_2 n (shf S k) (k + 1)
theorem shfN_at {c : Nat} (hc : c = 3 ∨ c = 4 ∨ c = 5) : ∀ (n : Nat) (S : St) (k i : Nat), (shfN S k n).1 c i 0 = if k ≤ i ∧ i < k + n then S.1 c (i + 1) 0 else S.1 c i 0
  | 0, S, k, i => by rw [if_neg (by omega)]; rfl
  | n + 1, S, k, i => by
    show (shfN (shf S k) (k + 1) n).1 c i 0 = _
    rw [shfN_at hc n (shf S k) (k + 1) i, shf_at hc, shf_at hc]
    by_cases h1 : i = k
    · subst h1
      rw [if_neg (by omega), if_pos rfl, if_pos (by omega)]
    · by_cases h2 : k ≤ i ∧ i < k + (n + 1)
      · rw [if_pos (by omega), if_neg (by omega), if_pos h2]
      · rw [if_neg (by omega), if_neg h1, if_neg h2]
theorem lev_c {S : St} {lot c i j : Nat} (h0 : c ≠ 0) (h3 : c ≠ 3) (h4 : c ≠ 4) (h5 : c ≠ 5) : (lev S lot).1 c i j = S.1 c i j := (shfN_c h3 h4 h5 _ _ _).trans (s1_c h0)
theorem lev_0 {S : St} {lot i : Nat} (h : i ≠ 1) : (lev S lot).1 0 i 0 = S.1 0 i 0 := (shfN_c (by decide) (by decide) (by decide) _ _ _).trans (s1_ne (fun q => h q.2.1))
theorem lev_l {S : St} {lot : Nat} : (lev S lot).1 0 1 0 = S.1 0 1 0 - 1 := (shfN_c (by decide) (by decide) (by decide) _ _ _).trans s1_eq
theorem lev_2 {S : St} {lot : Nat} : (lev S lot).2 = S.2 := shfN_2 _ _ _
theorem lev_at {S : St} {lot c i : Nat} (hc : c = 3 ∨ c = 4 ∨ c = 5) (hl : lot ≤ nn (S.1 0 1 0 - 1)) : (lev S lot).1 c i 0 = if lot ≤ i ∧ i < nn (S.1 0 1 0 - 1) then S.1 c (i + 1) 0 else S.1 c i 0 := by
  have e : ∀ i, (s1 S 0 1 0 (S.1 0 1 0 - 1)).1 c i 0 = S.1 c i 0 := fun i => s1_c (by rcases hc with rfl | rfl | rfl <;> decide)
  unfold lev
  rw [shfN_at hc, Nat.add_sub_cancel' hl, e, e]
theorem lev_inv {S : St} {B lot : Nat} (I : Inv S B) (hl : lot < nn (S.1 0 1 0)) : Inv (lev S lot) B := by
  obtain ⟨p1, p2⟩ := rg_pred I.cnt.2.1 (by omega) (by decide)
  have c0 : ∀ i, i ≠ 1 → (lev S lot).1 0 i 0 = S.1 0 i 0 := fun i hi => lev_0 hi
  have hle : lot ≤ nn (S.1 0 1 0 - 1) := by omega
  have cc : ∀ c i j, c ≠ 0 → c ≠ 3 → c ≠ 4 → c ≠ 5 → (lev S lot).1 c i j = S.1 c i j := fun c i j h0 h3 h4 h5 => lev_c h0 h3 h4 h5
  refine ⟨?_, ?_, ?_, ?_, ?_, ?_, ?_, ?_, ?_⟩
  · unfold Cnt
    rw [c0 0 (by decide), c0 2 (by decide), c0 3 (by decide), c0 4 (by decide), lev_l]
    exact ⟨I.cnt.1, ⟨p1, Nat.zero_le _, by have := I.cnt.2.1.2.2; omega⟩, I.cnt.2.2⟩
  · intro k hk
    rw [lev_l, p2] at hk
    rw [lev_at (Or.inl rfl) hle, lev_at (Or.inr (Or.inl rfl)) hle, c0 0 (by decide)]
    by_cases h : lot ≤ k ∧ k < nn (S.1 0 1 0 - 1)
    · rw [if_pos h, if_pos h]; exact I.lot (k + 1) (by omega)
    · rw [if_neg h, if_neg h]; exact I.lot k (by omega)
  · exact I.mou.of (c0 2 (by decide)) (fun k => cc _ _ _ (by decide) (by decide) (by decide) (by decide)) (fun k => cc _ _ _ (by decide) (by decide) (by decide) (by decide)) (fun k => cc _ _ _ (by decide) (by decide) (by decide) (by decide)) (fun k => cc _ _ _ (by decide) (by decide) (by decide) (by decide))
  · exact I.blk.of (c0 2 (by decide)) (fun k j => cc _ _ _ (by decide) (by decide) (by decide) (by decide)) (fun k j => cc _ _ _ (by decide) (by decide) (by decide) (by decide))
  · exact I.mac.of (c0 2 (by decide)) (c0 3 (by decide)) (c0 4 (by decide)) (fun k => cc _ _ _ (by decide) (by decide) (by decide) (by decide)) (fun k => cc _ _ _ (by decide) (by decide) (by decide) (by decide)) (fun k => cc _ _ _ (by decide) (by decide) (by decide) (by decide))
  · exact I.ord.of (c0 0 (by decide)) (c0 2 (by decide)) (c0 4 (by decide)) (fun k => cc _ _ _ (by decide) (by decide) (by decide) (by decide)) (fun k => cc _ _ _ (by decide) (by decide) (by decide) (by decide)) (fun k => cc _ _ _ (by decide) (by decide) (by decide) (by decide)) (fun k => cc _ _ _ (by decide) (by decide) (by decide) (by decide)) (fun k => cc _ _ _ (by decide) (by decide) (by decide) (by decide)) (fun k => cc _ _ _ (by decide) (by decide) (by decide) (by decide)) (fun k => by rw [lev_2])
  · exact I.reg.of (c0 0 (by decide)) (fun k => cc _ _ _ (by decide) (by decide) (by decide) (by decide))
  · exact I.all.of (c0 6 (by decide)) (by rw [lev_2])
  · rw [c0 5 (by decide)]; exact I.hrs
theorem Inv.s5 {S : St} {B k : Nat} {v : Int32} (I : Inv S B) : Inv (s1 S 5 k 0 v) B :=
  ⟨I.cnt.of5 rfl rfl rfl rfl rfl, I.lot.of rfl rfl (fun _ => rfl) (fun _ => rfl), I.mou.of rfl (fun _ => rfl) (fun _ => rfl) (fun _ => rfl) (fun _ => rfl), I.blk.of rfl (fun _ _ => rfl) (fun _ _ => rfl), I.mac.of rfl rfl rfl (fun _ => rfl) (fun _ => rfl) (fun _ => rfl), I.ord.of rfl rfl rfl (fun _ => rfl) (fun _ => rfl) (fun _ => rfl) (fun _ => rfl) (fun _ => rfl) (fun _ => rfl) (fun _ => rfl), I.reg.of rfl (fun _ => rfl), I.all.of rfl rfl, I.hrs⟩
/-- a scalar that no range speaks of (thrown, parts) -/
theorem Inv.s0 {S : St} {B i : Nat} {v : Int32} (I : Inv S B) (hi : 7 ≤ i) : Inv (s1 S 0 i 0 v) B := by
  have c0 : ∀ k, k < 7 → (s1 S 0 i 0 v).1 0 k 0 = S.1 0 k 0 := fun k hk => s1_ne (fun q => by omega)
  exact ⟨I.cnt.of5 (c0 0 (by decide)) (c0 1 (by decide)) (c0 2 (by decide)) (c0 3 (by decide)) (c0 4 (by decide)), I.lot.of (c0 0 (by decide)) (c0 1 (by decide)) (fun _ => rfl) (fun _ => rfl), I.mou.of (c0 2 (by decide)) (fun _ => rfl) (fun _ => rfl) (fun _ => rfl) (fun _ => rfl), I.blk.of (c0 2 (by decide)) (fun _ _ => rfl) (fun _ _ => rfl), I.mac.of (c0 2 (by decide)) (c0 3 (by decide)) (c0 4 (by decide)) (fun _ => rfl) (fun _ => rfl) (fun _ => rfl), I.ord.of (c0 0 (by decide)) (c0 2 (by decide)) (c0 4 (by decide)) (fun _ => rfl) (fun _ => rfl) (fun _ => rfl) (fun _ => rfl) (fun _ => rfl) (fun _ => rfl) (fun _ => rfl), I.reg.of (c0 0 (by decide)) (fun _ => rfl), I.all.of (c0 6 (by decide)) rfl, by rw [c0 5 (by decide)]; exact I.hrs⟩
theorem Inv.th {S : St} {B : Nat} {t : Int32} (I : Inv S B) : Inv (th S t) B := I.s0 (by decide)
theorem dryS_l {S : St} {k n : Nat} (h : Rg (S.1 0 1 0) 0 3) (hk : k < nn (S.1 0 1 0)) : k ≤ nn ((dryS S k).1 0 1 0) := by
  unfold dryS
  split
  · rw [lev_l]
    show k ≤ nn (S.1 0 1 0 - 1)
    obtain ⟨p1, p2⟩ := rg_pred h (by omega) (by decide)
    omega
  · exact Nat.le_of_lt hk
theorem dryS_0 {S : St} {k i : Nat} (h : i ≠ 1) : (dryS S k).1 0 i 0 = S.1 0 i 0 := by
  unfold dryS
  split
  · exact lev_0 h
  · rfl
theorem dryS_inv {S : St} {B k : Nat} (I : Inv S B) (hk : k < nn (S.1 0 1 0)) : Inv (dryS S k) B := by
  unfold dryS
  split
  · exact lev_inv I.s5 hk
  · exact I.s5
theorem dryN_0 {i : Nat} (h : i ≠ 1) : ∀ (n : Nat) (S : St), (dryN S n).1 0 i 0 = S.1 0 i 0
  | 0, _ => rfl
  | n + 1, S => (dryN_0 h n (dryS S n)).trans (dryS_0 h)
theorem dryN_inv {B : Nat} : ∀ (n : Nat) (S : St), Inv S B → n ≤ nn (S.1 0 1 0) → Inv (dryN S n) B
  | 0, _, I, _ => I
  | n + 1, S, I, h => dryN_inv n (dryS S n) (dryS_inv I h) (dryS_l (n := 0) I.cnt.2.1 h)
theorem shl_0 {o i : Nat} (h6 : i ≠ 6) (h7 : i ≠ 7) : ∀ (n : Nat) (S : St) (p : Int32), (shl S o p n).1.1 0 i 0 = S.1 0 i 0
  | 0, _, _ => rfl
  | n + 1, S, p => by
    unfold shl
    split
    · split
      · exact (shl_0 h6 h7 n _ _).trans (shoot_0 h6 h7)
      · rfl
    · rfl
theorem shl_inv {o : Nat} : ∀ (n B : Nat) (S : St) (p : Int32), Inv S B → o < nn (S.1 0 4 0) → B + n < 1000000 → Inv (shl S o p n).1 (B + n)
  | 0, _, _, _, I, _, _ => I
  | n + 1, B, S, p, I, ho, hB => by
    unfold shl
    split
    · split
      · rename_i hok
        have e := shl_inv n (B + 1) (shoot S o) (p + sGets S o) (shoot_inv I ho (sOK_many hok) (by omega)) (by rw [shoot_0 (by decide) (by decide)]; exact ho) (by omega)
        rw [show B + (n + 1) = B + 1 + n by omega]
        exact e
      · exact I.up (by omega)
    · exact I.up (by omega)
theorem most_le {S : St} {B k : Nat} (I : Inv S B) (hk : k < nn (S.1 0 3 0)) (hr : ¬ S.1 16 k 0 = -1) :
    (S.1 16 k 0 = nI (nn (S.1 16 k 0)) ∧ nn (S.1 16 k 0) < nn (S.1 0 4 0)) ∧ (S.1 15 k 0 = nI (nn (S.1 15 k 0)) ∧ nn (S.1 15 k 0) < nn (S.1 0 2 0)) ∧ Rg (S.1 10 (nn (S.1 15 k 0)) 0) 60 3600 ∧ Rg (3600 / S.1 10 (nn (S.1 15 k 0)) 0) 1 60 := by
  obtain ⟨h1, h2⟩ := I.mac.1 k hk
  rcases h2 with h2 | h2
  · exact absurd h2 hr
  · obtain ⟨a1, a2, a3⟩ := h2
    have b1 := (I.ord.1 _ a2).1
    rw [← a3] at b1
    have b2 := (I.mou _ b1.2).2.2.2
    refine ⟨⟨a1, a2⟩, b1, b2, ?_⟩
    have e36 : (3600 : Int32) = nI (nn 3600) := by decide
    have e36n : nn (3600 : Int32) = 3600 := by decide
    obtain ⟨d1, d2⟩ := ndiv e36 b2.1
    rw [e36n] at d2
    have b3 := b2.2.1
    have b4 := b2.2.2
    have c1 : 1 ≤ 3600 / nn (S.1 10 (nn (S.1 15 k 0)) 0) := (Nat.one_le_div_iff (by omega)).mpr b4
    have c2 : 3600 / nn (S.1 10 (nn (S.1 15 k 0)) 0) ≤ 3600 / 60 := Nat.div_le_div_left b3 (by decide)
    exact ⟨d1, by rw [d2]; exact c1, by rw [d2]; omega⟩
theorem mcS_0 {S : St} {p : Int32} {k i : Nat} (h6 : i ≠ 6) (h7 : i ≠ 7) : (mcS S p k).1.1 0 i 0 = S.1 0 i 0 := by
  unfold mcS
  split
  · rfl
  · exact shl_0 h6 h7 _ _ _
theorem mcS_inv {S : St} {B k : Nat} {p : Int32} (I : Inv S B) (hk : k < nn (S.1 0 3 0)) (hB : B + 60 < 1000000) : Inv (mcS S p k).1 (B + 60) := by
  unfold mcS
  split
  · exact I.up (by omega)
  · rename_i hr
    obtain ⟨a1, a2, a3, a4⟩ := most_le I hk hr
    have h60 := a4.2.2
    exact (shl_inv _ B S p I a1.2 (by omega)).up (by omega)
theorem mcN_0 {S : St} {i : Nat} (h6 : i ≠ 6) (h7 : i ≠ 7) : ∀ n, (mcN S n).1.1 0 i 0 = S.1 0 i 0
  | 0 => rfl
  | n + 1 => (mcS_0 h6 h7).trans (mcN_0 h6 h7 n)
theorem mcN_inv {S : St} {B : Nat} (I : Inv S B) : ∀ n, n ≤ nn (S.1 0 3 0) → B + 60 * n < 1000000 → Inv (mcN S n).1 (B + 60 * n)
  | 0, _, _ => I
  | n + 1, h, hB => by
    have e := mcS_inv (k := n) (p := (mcN S n).2) (mcN_inv I n (by omega) (by omega)) (by rw [mcN_0 (by decide) (by decide)]; omega) (by omega)
    rw [show B + 60 * (n + 1) = B + 60 * n + 60 by omega]
    exact e
theorem hour_0 {S : St} {i : Nat} (h1 : i ≠ 1) (h5 : i ≠ 5) (h6 : i ≠ 6) (h7 : i ≠ 7) : (hour S).1.1 0 i 0 = S.1 0 i 0 := (s1_ne (S := hourD S) (fun q => h5 q.2.1)).trans ((dryN_0 h1 _ _).trans (mcN_0 h6 h7 _))
theorem hour_5 {S : St} : (hour S).1.1 0 5 0 = S.1 0 5 0 + 1 := by
  have e : (hourD S).1 0 5 0 = S.1 0 5 0 := (dryN_0 (by decide) _ _).trans (mcN_0 (by decide) (by decide) _)
  show (hourD S).1 0 5 0 + 1 = _
  rw [e]
theorem hourM_inv {S : St} {B : Nat} (I : Inv S B) (hB : B + 180 < 1000000) : Inv (hourM S).1 (B + 180) := by
  have h3 := I.cnt.2.2.2.1.2.2
  exact (mcN_inv I _ (Nat.le_refl _) (by omega)).up (by omega)
theorem hourD_inv {S : St} {B : Nat} (I : Inv S B) (hB : B + 180 < 1000000) : Inv (hourD S) (B + 180) := dryN_inv _ _ (hourM_inv I hB) (Nat.le_refl _)
theorem hour_inv {S : St} {B : Nat} (I : Inv S B) (hB : B + 180 < 1000000) (hh : nn (S.1 0 5 0) < 300) : Inv (hour S).1 (B + 180) := by
  have I2 := hourD_inv I hB
  have c0 : ∀ k, k ≠ 5 → (hour S).1.1 0 k 0 = (hourD S).1 0 k 0 := fun k hk => s1_ne (fun q => hk q.2.1)
  refine ⟨I2.cnt.of5 (c0 0 (by decide)) (c0 1 (by decide)) (c0 2 (by decide)) (c0 3 (by decide)) (c0 4 (by decide)), I2.lot.of (c0 0 (by decide)) (c0 1 (by decide)) (fun _ => rfl) (fun _ => rfl), I2.mou.of (c0 2 (by decide)) (fun _ => rfl) (fun _ => rfl) (fun _ => rfl) (fun _ => rfl), I2.blk.of (c0 2 (by decide)) (fun _ _ => rfl) (fun _ _ => rfl), I2.mac.of (c0 2 (by decide)) (c0 3 (by decide)) (c0 4 (by decide)) (fun _ => rfl) (fun _ => rfl) (fun _ => rfl), I2.ord.of (c0 0 (by decide)) (c0 2 (by decide)) (c0 4 (by decide)) (fun _ => rfl) (fun _ => rfl) (fun _ => rfl) (fun _ => rfl) (fun _ => rfl) (fun _ => rfl) (fun _ => rfl), I2.reg.of (c0 0 (by decide)) (fun _ => rfl), I2.all.of (c0 6 (by decide)) rfl, ?_⟩
  rw [hour_5]
  obtain ⟨a1, a2⟩ := nadd I.hrs.1 e_1 (by rw [nn_1]; omega)
  rw [nn_1] at a2
  exact ⟨a1, Nat.zero_le _, by omega⟩

/-! out of 49.model.lean.txt -/
theorem vf32_of {r : UInt32} (h : Jvm.FP.Core.fIsNaN r = false) : vf_n32 r := by
  have h1 : ¬ 2139095040 < r.toNat % 2 ^ 31 := fun q => by
    rw [(Jvm.FP.Core.isNaN_bits32 r).mpr q] at h
    exact absurd h (by decide)
  show r &&& 0x7fffffff ≤ 0x7f800000
  rw [UInt32.le_iff_toNat_le, UInt32.toNat_and]
  have e1 : (0x7fffffff : UInt32).toNat = 2 ^ 31 - 1 := rfl
  have e2 : (0x7f800000 : UInt32).toNat = 2139095040 := rfl
  rw [e1, e2, Nat.and_two_pow_sub_one_eq_mod]
  omega
theorem vf64_of {r : UInt64} (h : Jvm.FP.Core.dIsNaN r = false) : vf_n64 r := by
  have h1 : ¬ 9218868437227405312 < r.toNat % 2 ^ 63 := fun q => by
    rw [(Jvm.FP.Core.isNaN_bits r).mpr q] at h
    exact absurd h (by decide)
  show r &&& 0x7fffffffffffffff ≤ 0x7ff0000000000000
  rw [UInt64.le_iff_toNat_le, UInt64.toNat_and]
  have e1 : (0x7fffffffffffffff : UInt64).toNat = 2 ^ 63 - 1 := rfl
  have e2 : (0x7ff0000000000000 : UInt64).toNat = 9218868437227405312 := rfl
  rw [e1, e2, Nat.and_two_pow_sub_one_eq_mod]
  omega
theorem nan32 {a b : Int64} (hb : ¬ b = 0) : vf_n32 (FP.fdiv (FP.l2f a) (FP.l2f b)) := by
  refine vf32_of ?_
  refine Jvm.FP.Core.fdiv_out ?_ (Jvm.FP.Core.l2f_fin b) (fun q => ?_)
  · refine Jvm.FP.Core.not_true32 (Jvm.FP.Core.isNaN_bits32 _) (fun q => ?_)
    have := Jvm.FP.Core.l2f_mag a
    have e : (192 * 2 ^ 23 : Nat) = 1610612736 := rfl
    have e2 : (Jvm.FP.Core.l2f a).toNat % 2 ^ 31 = (FP.l2f a).toNat % 2 ^ 31 := rfl
    omega
  · rw [Jvm.FP.Core.zero_bits232] at q
    exact Jvm.FP.Core.l2f_ne_zero hb q
theorem nan64 {a b : Int32} (hb : ¬ b = 0) : vf_n64 (FP.ddiv (FP.i2d a) (FP.i2d b)) := by
  refine vf64_of ?_
  refine Jvm.FP.Core.ddiv_out ?_ (Jvm.FP.Core.i2d_fin b) (fun q => ?_)
  · refine Jvm.FP.Core.not_true (Jvm.FP.Core.isNaN_bits _) (fun q => ?_)
    have := Jvm.FP.Core.i2d_mag a
    have e : (1056 * 2 ^ 52 : Nat) = 4755801206503243776 := rfl
    have e2 : (Jvm.FP.Core.i2d a).toNat % 2 ^ 63 = (FP.i2d a).toNat % 2 ^ 63 := rfl
    omega
  · rw [Jvm.FP.Core.zero_bits2] at q
    exact Jvm.FP.Core.i2d_ne_zero hb q
