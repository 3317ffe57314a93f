/-! the mathematical state: numbers by component and place; the model's cells, read off it -/
abbrev St : Type := (Nat → Nat → Nat → Int32) × (Nat → Nat → Int64)
def s1 (S : St) (c i j : Nat) (v : Int32) : St := (fun c' i' j' => if c' = c ∧ i' = i ∧ j' = j then v else S.1 c' i' j', S.2)
def s2 (S : St) (c i : Nat) (v : Int64) : St := (S.1, fun c' i' => if c' = c ∧ i' = i then v else S.2 c' i')
theorem s1_eq {S : St} {c i j : Nat} {v : Int32} : (s1 S c i j v).1 c i j = v := if_pos ⟨rfl, rfl, rfl⟩
theorem s1_ne {S : St} {c i j c' i' j' : Nat} {v : Int32} (h : ¬ (c' = c ∧ i' = i ∧ j' = j)) : (s1 S c i j v).1 c' i' j' = S.1 c' i' j' := if_neg h
theorem s1_c {S : St} {c i j c' i' j' : Nat} {v : Int32} (h : c' ≠ c) : (s1 S c i j v).1 c' i' j' = S.1 c' i' j' := if_neg (fun q => h q.1)
theorem s1_2 {S : St} {c i j : Nat} {v : Int32} : (s1 S c i j v).2 = S.2 := rfl
theorem s2_1 {S : St} {c i : Nat} {v : Int64} : (s2 S c i v).1 = S.1 := rfl
theorem s2_eq {S : St} {c i : Nat} {v : Int64} : (s2 S c i v).2 c i = v := if_pos ⟨rfl, rfl⟩
theorem s2_c {S : St} {c i c' i' : Nat} {v : Int64} (h : c' ≠ c) : (s2 S c i v).2 c' i' = S.2 c' i' := if_neg (fun q => h q.1)
