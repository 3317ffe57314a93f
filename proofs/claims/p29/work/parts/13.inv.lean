/-! ranges, and what every reachable state satisfies (B: how many shots there can have been) -/
def Rg (x : Int32) (a b : Nat) : Prop := x = nI (nn x) ∧ a ≤ nn x ∧ nn x ≤ b
theorem Rg.of {n a b : Nat} (h1 : a ≤ n) (h2 : n ≤ b) (h3 : b < 2 ^ 31) : Rg (nI n) a b := by
  have e : nn (nI n) = n := nI_clamp (by omega)
  exact ⟨by rw [e], by rw [e]; exact h1, by rw [e]; exact h2⟩
theorem Rg.vin {x : Int32} {a b n : Nat} (h : Rg x a b) (hb : b < n) (hn : n < 2 ^ 31) : vp_in x n := by
  rw [h.1]
  exact vp_in_nI (by have := h.2.2; omega) hn
theorem Rg.lt0 {x : Int32} {a b : Nat} (h : Rg x a b) (hb : b < 2 ^ 31) : ¬ x < 0 := by
  rw [h.1]
  exact nI_pos (by have := h.2.2; omega)
theorem Rg.toI {x : Int32} {a b : Nat} (h : Rg x a b) (hb : b < 2 ^ 31) : x.toInt = (nn x : Int) := by
  have e : (nI (nn x)).toInt = (nn x : Int) := nI_toInt (by have := h.2.2; omega)
  rw [← h.1] at e
  exact e
theorem Rg.wide {x : Int32} {a b a' b' : Nat} (h : Rg x a b) (h1 : a' ≤ a) (h2 : b ≤ b') : Rg x a' b' := ⟨h.1, Nat.le_trans h1 h.2.1, Nat.le_trans h.2.2 h2⟩
theorem i32_le {x y : Int32} : x ≤ y ↔ x.toInt ≤ y.toInt := Int32.le_iff_toInt_le
theorem i32_lt {x y : Int32} : x < y ↔ x.toInt < y.toInt := Int32.lt_iff_toInt_lt
theorem nn_of {x : Int32} (h : ¬ x < 0) : x = nI (nn x) := by
  obtain ⟨j, hj, e⟩ := nI_of h
  rw [e, show nn (nI j) = j from nI_clamp hj]
theorem inB_iff {v lw hi : Int32} : inB v lw hi = true ↔ lw ≤ v ∧ v ≤ hi := by
  unfold inB
  rw [Bool.and_eq_true, decide_eq_true_eq, decide_eq_true_eq]
theorem inB_rg {v lw hi : Int32} {a b : Nat} (h : inB v lw hi = true) (h1 : lw.toInt = (a : Int)) (h2 : hi.toInt = (b : Int)) : Rg v a b := by
  obtain ⟨g1, g2⟩ := inB_iff.mp h
  rw [i32_le] at g1 g2
  have h0 : ¬ v < 0 := by
    rw [i32_lt]
    have : (0 : Int32).toInt = 0 := by decide
    omega
  obtain ⟨j, hj, e⟩ := nI_of h0
  have ej : nn (nI j) = j := nI_clamp hj
  have et : (nI j).toInt = (j : Int) := nI_toInt hj
  subst e
  refine ⟨by rw [ej], ?_, ?_⟩
  · rw [ej]; omega
  · rw [ej]; omega
/-- an index below a count -/
theorem inB_cnt {v cnt : Int32} {b : Nat} (hc : Rg cnt 0 b) (hb : b < 2 ^ 31) (h : inB v 0 (cnt - 1) = true) : v = nI (nn v) ∧ nn v < nn cnt := by
  obtain ⟨g1, g2⟩ := inB_iff.mp h
  have hn : nn cnt < 2 ^ 31 := by have := hc.2.2; omega
  have h0 : ¬ v < 0 := by
    rw [i32_lt]
    rw [i32_le] at g1
    have : (0 : Int32).toInt = 0 := by decide
    omega
  obtain ⟨j, hj, e⟩ := nI_of h0
  have ej : nn (nI j) = j := nI_clamp hj
  have et : (nI j).toInt = (j : Int) := nI_toInt hj
  subst e
  refine ⟨by rw [ej], ?_⟩
  rw [ej]
  cases hk : nn cnt with
  | zero =>
    exfalso
    rw [hc.1, hk] at g2
    rw [i32_le, et] at g2
    have : (nI 0 - 1).toInt = -1 := by decide
    omega
  | succ k =>
    rw [hc.1, hk, nI_pred, i32_le, et, nI_toInt (by omega)] at g2
    omega
theorem isRes_of {S : St} {x : Int32} (hc : Rg (S.1 0 0 0) 0 4) (h : isRes S x = true) : x = nI (nn x) ∧ nn x < nn (S.1 0 0 0) := inB_cnt hc (by decide) h
theorem isLot_of {S : St} {x : Int32} (hc : Rg (S.1 0 1 0) 0 3) (h : isLot S x = true) : x = nI (nn x) ∧ nn x < nn (S.1 0 1 0) := inB_cnt hc (by decide) h
theorem isMou_of {S : St} {x : Int32} (hc : Rg (S.1 0 2 0) 0 5) (h : isMou S x = true) : x = nI (nn x) ∧ nn x < nn (S.1 0 2 0) := inB_cnt hc (by decide) h
theorem isMac_of {S : St} {x : Int32} (hc : Rg (S.1 0 3 0) 0 3) (h : isMac S x = true) : x = nI (nn x) ∧ nn x < nn (S.1 0 3 0) := inB_cnt hc (by decide) h
theorem isOrd_of {S : St} {x : Int32} (hc : Rg (S.1 0 4 0) 0 8) (h : isOrd S x = true) : x = nI (nn x) ∧ nn x < nn (S.1 0 4 0) := inB_cnt hc (by decide) h
/-- the converse -/
theorem inB_mk {v cnt : Int32} {b : Nat} (hc : Rg cnt 0 b) (hb : b < 2 ^ 31) (h1 : v = nI (nn v)) (h2 : nn v < nn cnt) : inB v 0 (cnt - 1) = true := by
  refine inB_iff.mpr ?_
  have hn : nn cnt < 2 ^ 31 := by have := hc.2.2; omega
  have et : v.toInt = (nn v : Int) := by
    have e := nI_toInt (n := nn v) (by omega)
    rw [← h1] at e
    exact e
  cases hk : nn cnt with
  | zero => omega
  | succ k =>
    rw [hc.1, hk, nI_pred, i32_le, i32_le, et, nI_toInt (by omega)]
    have : (0 : Int32).toInt = 0 := by decide
    omega
/-- the counts and the places that they bound -/
def Cnt (S : St) : Prop := Rg (S.1 0 0 0) 0 4 ∧ Rg (S.1 0 1 0) 0 3 ∧ Rg (S.1 0 2 0) 0 5 ∧ Rg (S.1 0 3 0) 0 3 ∧ Rg (S.1 0 4 0) 0 8
def ILot (S : St) : Prop := ∀ k, k < nn (S.1 0 1 0) → (S.1 3 k 0 = nI (nn (S.1 3 k 0)) ∧ nn (S.1 3 k 0) < nn (S.1 0 0 0)) ∧ Rg (S.1 4 k 0) 0 99999
def IMou (S : St) : Prop := ∀ k, k < nn (S.1 0 2 0) → Rg (S.1 6 k 0) 1 8 ∧ Rg (S.1 7 k 0) 1 200 ∧ Rg (S.1 8 k 0) 0 200 ∧ Rg (S.1 10 k 0) 60 3600
def IBlk (S : St) : Prop := (∀ k j, S.1 11 k j = 0 ∨ S.1 11 k j = 1) ∧ (∀ k j, nn (S.1 0 2 0) ≤ k → S.1 11 k j = 0 ∧ S.1 13 k j = 0)
def IMac (S : St) : Prop := (∀ k, k < nn (S.1 0 3 0) → (S.1 15 k 0 = -1 ∨ (S.1 15 k 0 = nI (nn (S.1 15 k 0)) ∧ nn (S.1 15 k 0) < nn (S.1 0 2 0))) ∧ (S.1 16 k 0 = -1 ∨ (S.1 16 k 0 = nI (nn (S.1 16 k 0)) ∧ nn (S.1 16 k 0) < nn (S.1 0 4 0) ∧ S.1 15 k 0 = S.1 17 (nn (S.1 16 k 0)) 0)))
  ∧ (∀ k j, k < nn (S.1 0 3 0) → j < nn (S.1 0 3 0) → S.1 15 k 0 = S.1 15 j 0 → S.1 15 k 0 ≠ -1 → k = j)
def IOrd (S : St) : Prop := (∀ k, k < nn (S.1 0 4 0) → (S.1 17 k 0 = nI (nn (S.1 17 k 0)) ∧ nn (S.1 17 k 0) < nn (S.1 0 2 0)) ∧ (S.1 18 k 0 = nI (nn (S.1 18 k 0)) ∧ nn (S.1 18 k 0) < nn (S.1 0 0 0)) ∧ Rg (S.1 19 k 0) 0 5000 ∧ Rg (S.1 20 k 0) 0 50)
  ∧ (∀ k, nn (S.1 0 4 0) ≤ k → S.1 21 k 0 = 0 ∧ S.1 22 k 0 = 0 ∧ S.2 2 k = 0)
def IReg (S : St) (B : Nat) : Prop := (∀ k, Rg (S.1 2 k 0) 0 (1800 * B)) ∧ (∀ k, nn (S.1 0 0 0) ≤ k → S.1 2 k 0 = 0)
def IAll (S : St) (B : Nat) : Prop := Rg (S.1 0 6 0) 0 B ∧ ∃ g : Nat, S.2 0 0 = lN g ∧ nn (S.1 0 6 0) ≤ g ∧ g ≤ 1800 * nn (S.1 0 6 0)
def Inv (S : St) (B : Nat) : Prop := Cnt S ∧ ILot S ∧ IMou S ∧ IBlk S ∧ IMac S ∧ IOrd S ∧ IReg S B ∧ IAll S B ∧ Rg (S.1 0 5 0) 0 300
section IV
variable {S : St} {B : Nat}
theorem Inv.cnt (I : Inv S B) : Cnt S := I.1
theorem Inv.lot (I : Inv S B) : ILot S := I.2.1
theorem Inv.mou (I : Inv S B) : IMou S := I.2.2.1
theorem Inv.blk (I : Inv S B) : IBlk S := I.2.2.2.1
theorem Inv.mac (I : Inv S B) : IMac S := I.2.2.2.2.1
theorem Inv.ord (I : Inv S B) : IOrd S := I.2.2.2.2.2.1
theorem Inv.reg (I : Inv S B) : IReg S B := I.2.2.2.2.2.2.1
theorem Inv.all (I : Inv S B) : IAll S B := I.2.2.2.2.2.2.2.1
theorem Inv.hrs (I : Inv S B) : Rg (S.1 0 5 0) 0 300 := I.2.2.2.2.2.2.2.2
end IV
theorem vin_of {x : Int32} {k n : Nat} (h1 : x = nI (nn x)) (h2 : nn x < k) (h3 : k ≤ n) (h4 : n < 2 ^ 31) : vp_in x n := by
  rw [h1]
  exact vp_in_nI (by omega) h4
theorem vin_nI {k n : Nat} (h : k < n) (h4 : n < 2 ^ 31) : vp_in (nI k) n := vp_in_nI h h4
theorem nn_nI {n : Nat} (h : n < 2 ^ 31) : nn (nI n) = n := nI_clamp h
theorem ltn {a b : Nat} (h : a < b) (hb : b < 2 ^ 31) : a < 2 ^ 31 := by omega
