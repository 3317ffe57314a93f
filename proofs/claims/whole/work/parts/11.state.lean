/-! the mathematical state: numbers by component and place; the model's cells, read off it -/
abbrev St : Type := (Nat → Nat → Nat → Int32) × (Nat → Nat → Int64)
def s1 (S : St) (c i j : Nat) (v : Int32) : St := (fun c' i' j' => if c' = c ∧ i' = i ∧ j' = j then v else S.1 c' i' j', S.2)
def s2 (S : St) (c i : Nat) (v : Int64) : St := (S.1, fun c' i' => if c' = c ∧ i' = i then v else S.2 c' i')
theorem s1_eq {S : St} {c i j : Nat} {v : Int32} : (s1 S c i j v).1 c i j = v := if_pos ⟨rfl, rfl, rfl⟩
theorem s1_ne {S : St} {c i j c' i' j' : Nat} {v : Int32} (h : ¬ (c' = c ∧ i' = i ∧ j' = j)) : (s1 S c i j v).1 c' i' j' = S.1 c' i' j' := if_neg h
theorem s1_c {S : St} {c i j c' i' j' : Nat} {v : Int32} (h : c' ≠ c) : (s1 S c i j v).1 c' i' j' = S.1 c' i' j' := if_neg (fun q => h q.1)
theorem s1_2 {S : St} {c i j : Nat} {v : Int32} : (s1 S c i j v).2 = S.2 := rfl
theorem s2_1 {S : St} {c i : Nat} {v : Int64} : (s2 S c i v).1 = S.1 := rfl
theorem s2_eq {S : St} {c i : Nat} {v : Int64} : (s2 S c i v).2 c i = v := if_pos ⟨rfl, rfl⟩
theorem s2_c {S : St} {c i c' i' : Nat} {v : Int64} (h : c' ≠ c) : (s2 S c i v).2 c' i' = S.2 c' i' := if_neg (fun q => h q.1)
def mcl (S : St) (ad : Nat → Nat) (ar : Nat → Nat → Nat) (k : Nat) : Option AE := match k with
  | 0 => some (.inr (8, [.ref (ad 1), .ref (ad 2), .int (S.1 0 0 0), .ref (ad 3), .ref (ad 4), .ref (ad 5), .int (S.1 0 1 0), .ref (ad 6), .ref (ad 7), .ref (ad 8), .ref (ad 9), .ref (ad 10), .ref (ad 11), .ref (ad 12), .ref (ad 13), .int (S.1 0 2 0), .ref (ad 14), .ref (ad 15), .ref (ad 16), .int (S.1 0 3 0), .ref (ad 17), .ref (ad 18), .ref (ad 19), .ref (ad 20), .ref (ad 21), .ref (ad 23), .ref (ad 22), .int (S.1 0 4 0), .int (S.1 0 5 0), .int (S.1 0 6 0), .int (S.1 0 7 0), .long (S.2 0 0), .long (S.2 1 0), .int (S.1 0 8 0)]))
  | 1 => some (.inl (.int, (4, .inl (fun j => S.1 1 j 0))))
  | 2 => some (.inl (.int, (4, .inl (fun j => S.1 2 j 0))))
  | 3 => some (.inl (.int, (3, .inl (fun j => S.1 3 j 0))))
  | 4 => some (.inl (.int, (3, .inl (fun j => S.1 4 j 0))))
  | 5 => some (.inl (.int, (3, .inl (fun j => S.1 5 j 0))))
  | 6 => some (.inl (.int, (5, .inl (fun j => S.1 6 j 0))))
  | 7 => some (.inl (.int, (5, .inl (fun j => S.1 7 j 0))))
  | 8 => some (.inl (.int, (5, .inl (fun j => S.1 8 j 0))))
  | 9 => some (.inl (.int, (5, .inl (fun j => S.1 9 j 0))))
  | 10 => some (.inl (.int, (5, .inl (fun j => S.1 10 j 0))))
  | 11 => some (.inl (.array .boolean, (5, .inr (.inr (.inr (.inr (fun i => if i < 5 then some (ar 0 i) else none)))))))
  | 12 => some (.inl (.array .int, (5, .inr (.inr (.inr (.inr (fun i => if i < 5 then some (ar 1 i) else none)))))))
  | 13 => some (.inl (.array .int, (5, .inr (.inr (.inr (.inr (fun i => if i < 5 then some (ar 2 i) else none)))))))
  | 14 => some (.inl (.int, (3, .inl (fun j => S.1 14 j 0))))
  | 15 => some (.inl (.int, (3, .inl (fun j => S.1 15 j 0))))
  | 16 => some (.inl (.int, (3, .inl (fun j => S.1 16 j 0))))
  | 17 => some (.inl (.int, (8, .inl (fun j => S.1 17 j 0))))
  | 18 => some (.inl (.int, (8, .inl (fun j => S.1 18 j 0))))
  | 19 => some (.inl (.int, (8, .inl (fun j => S.1 19 j 0))))
  | 20 => some (.inl (.int, (8, .inl (fun j => S.1 20 j 0))))
  | 21 => some (.inl (.int, (8, .inl (fun j => S.1 21 j 0))))
  | 22 => some (.inl (.int, (8, .inl (fun j => S.1 22 j 0))))
  | 23 => some (.inl (.long, (8, .inr (.inl (fun j => S.2 2 j)))))
  | _ => none
def rcl (S : St) (b i : Nat) : AE := match b with
  | 0 => .inl (.boolean, (8, .inl (fun j => S.1 11 i j)))
  | 1 => .inl (.int, (8, .inl (fun j => S.1 12 i j)))
  | _ => .inl (.int, (8, .inl (fun j => S.1 13 i j)))
def Mdl (S : St) (ad : Nat → Nat) (ar : Nat → Nat → Nat) (h : AH) : Prop :=
  (∀ k e, mcl S ad ar k = some e → h (ad k) = some e) ∧ (∀ b i, b < 3 → i < 5 → h (ar b i) = some (rcl S b i)) ∧ (∀ k k', k < 24 → k' < 24 → ad k = ad k' → k = k') ∧ (∀ k b i, k < 24 → b < 3 → i < 5 → ad k ≠ ar b i) ∧ (∀ b i b' i', b < 3 → i < 5 → b' < 3 → i' < 5 → ar b i = ar b' i' → b = b' ∧ i = i')
theorem mcl_lt {S : St} {ad : Nat → Nat} {ar : Nat → Nat → Nat} {k : Nat} {e : AE} (h : mcl S ad ar k = some e) : k < 24 := by
  unfold mcl at h
  split at h <;> first | omega | cases h
/-- one fixed cell has changed, and the numbers with it -/
theorem Mdl.fix {S S' : St} {ad : Nat → Nat} {ar : Nat → Nat → Nat} {h h1 : AH} {k0 : Nat} {e1 : AE} (M : Mdl S ad ar h) (h0 : k0 < 24) (n : h1 (ad k0) = some e1) (u : ∀ x, x ≠ ad k0 → h1 x = h x) (c0 : mcl S' ad ar k0 = some e1) (ck : ∀ k, k ≠ k0 → mcl S' ad ar k = mcl S ad ar k) (cr : ∀ b i, rcl S' b i = rcl S b i) : Mdl S' ad ar h1 := by
  obtain ⟨m1, m2, m3, m4, m5⟩ := M
  refine ⟨fun k e he => ?_, fun b i hb hi => ?_, m3, m4, m5⟩
  · by_cases hk : k = k0
    · subst hk
      rw [c0] at he
      rw [n, he]
    · rw [u _ (fun q => hk (m3 k k0 (mcl_lt he) h0 q))]
      exact m1 k e (by rw [← ck k hk]; exact he)
  · rw [u _ (fun q => m4 k0 b i h0 hb hi q.symm), cr]
    exact m2 b i hb hi
theorem Mdl.row {S S' : St} {ad : Nat → Nat} {ar : Nat → Nat → Nat} {h h1 : AH} {b0 i0 : Nat} (M : Mdl S ad ar h) (hb0 : b0 < 3) (hi0 : i0 < 5) (n : h1 (ar b0 i0) = some (rcl S' b0 i0)) (u : ∀ x, x ≠ ar b0 i0 → h1 x = h x) (ck : ∀ k, mcl S' ad ar k = mcl S ad ar k) (cr : ∀ b i, b < 3 → ¬ (b = b0 ∧ i = i0) → rcl S' b i = rcl S b i) : Mdl S' ad ar h1 := by
  obtain ⟨m1, m2, m3, m4, m5⟩ := M
  refine ⟨fun k e he => ?_, fun b i hb hi => ?_, m3, m4, m5⟩
  · rw [u _ (m4 k b0 i0 (mcl_lt he) hb0 hi0)]
    exact m1 k e (by rw [← ck k]; exact he)
  · by_cases hk : b = b0 ∧ i = i0
    · obtain ⟨rfl, rfl⟩ := hk
      exact n
    · rw [u _ (fun q => hk (m5 b i b0 i0 hb hi hb0 hi0 q)), cr b i hb hk]
      exact m2 b i hb hi
section MD
variable {S : St} {ad : Nat → Nat} {ar : Nat → Nat → Nat} {h h1 : AH}
theorem Mdl.o (M : Mdl S ad ar h) : h (ad 0) = some (.inr (8, [.ref (ad 1), .ref (ad 2), .int (S.1 0 0 0), .ref (ad 3), .ref (ad 4), .ref (ad 5), .int (S.1 0 1 0), .ref (ad 6), .ref (ad 7), .ref (ad 8), .ref (ad 9), .ref (ad 10), .ref (ad 11), .ref (ad 12), .ref (ad 13), .int (S.1 0 2 0), .ref (ad 14), .ref (ad 15), .ref (ad 16), .int (S.1 0 3 0), .ref (ad 17), .ref (ad 18), .ref (ad 19), .ref (ad 20), .ref (ad 21), .ref (ad 23), .ref (ad 22), .int (S.1 0 4 0), .int (S.1 0 5 0), .int (S.1 0 6 0), .int (S.1 0 7 0), .long (S.2 0 0), .long (S.2 1 0), .int (S.1 0 8 0)])) := M.1 0 _ rfl
theorem Mdl.a1 (M : Mdl S ad ar h) : h (ad 1) = some (.inl (.int, (4, .inl (fun j => S.1 1 j 0)))) := M.1 1 _ rfl
theorem Mdl.a2 (M : Mdl S ad ar h) : h (ad 2) = some (.inl (.int, (4, .inl (fun j => S.1 2 j 0)))) := M.1 2 _ rfl
theorem Mdl.a3 (M : Mdl S ad ar h) : h (ad 3) = some (.inl (.int, (3, .inl (fun j => S.1 3 j 0)))) := M.1 3 _ rfl
theorem Mdl.a4 (M : Mdl S ad ar h) : h (ad 4) = some (.inl (.int, (3, .inl (fun j => S.1 4 j 0)))) := M.1 4 _ rfl
theorem Mdl.a5 (M : Mdl S ad ar h) : h (ad 5) = some (.inl (.int, (3, .inl (fun j => S.1 5 j 0)))) := M.1 5 _ rfl
theorem Mdl.a6 (M : Mdl S ad ar h) : h (ad 6) = some (.inl (.int, (5, .inl (fun j => S.1 6 j 0)))) := M.1 6 _ rfl
theorem Mdl.a7 (M : Mdl S ad ar h) : h (ad 7) = some (.inl (.int, (5, .inl (fun j => S.1 7 j 0)))) := M.1 7 _ rfl
theorem Mdl.a8 (M : Mdl S ad ar h) : h (ad 8) = some (.inl (.int, (5, .inl (fun j => S.1 8 j 0)))) := M.1 8 _ rfl
theorem Mdl.a9 (M : Mdl S ad ar h) : h (ad 9) = some (.inl (.int, (5, .inl (fun j => S.1 9 j 0)))) := M.1 9 _ rfl
theorem Mdl.a10 (M : Mdl S ad ar h) : h (ad 10) = some (.inl (.int, (5, .inl (fun j => S.1 10 j 0)))) := M.1 10 _ rfl
theorem Mdl.a14 (M : Mdl S ad ar h) : h (ad 14) = some (.inl (.int, (3, .inl (fun j => S.1 14 j 0)))) := M.1 14 _ rfl
theorem Mdl.a15 (M : Mdl S ad ar h) : h (ad 15) = some (.inl (.int, (3, .inl (fun j => S.1 15 j 0)))) := M.1 15 _ rfl
theorem Mdl.a16 (M : Mdl S ad ar h) : h (ad 16) = some (.inl (.int, (3, .inl (fun j => S.1 16 j 0)))) := M.1 16 _ rfl
theorem Mdl.a17 (M : Mdl S ad ar h) : h (ad 17) = some (.inl (.int, (8, .inl (fun j => S.1 17 j 0)))) := M.1 17 _ rfl
theorem Mdl.a18 (M : Mdl S ad ar h) : h (ad 18) = some (.inl (.int, (8, .inl (fun j => S.1 18 j 0)))) := M.1 18 _ rfl
theorem Mdl.a19 (M : Mdl S ad ar h) : h (ad 19) = some (.inl (.int, (8, .inl (fun j => S.1 19 j 0)))) := M.1 19 _ rfl
theorem Mdl.a20 (M : Mdl S ad ar h) : h (ad 20) = some (.inl (.int, (8, .inl (fun j => S.1 20 j 0)))) := M.1 20 _ rfl
theorem Mdl.a21 (M : Mdl S ad ar h) : h (ad 21) = some (.inl (.int, (8, .inl (fun j => S.1 21 j 0)))) := M.1 21 _ rfl
theorem Mdl.a22 (M : Mdl S ad ar h) : h (ad 22) = some (.inl (.int, (8, .inl (fun j => S.1 22 j 0)))) := M.1 22 _ rfl
theorem Mdl.a11 (M : Mdl S ad ar h) : h (ad 11) = some (.inl (.array .boolean, (5, .inr (.inr (.inr (.inr (fun i => if i < 5 then some (ar 0 i) else none))))))) := M.1 11 _ rfl
theorem Mdl.a12 (M : Mdl S ad ar h) : h (ad 12) = some (.inl (.array .int, (5, .inr (.inr (.inr (.inr (fun i => if i < 5 then some (ar 1 i) else none))))))) := M.1 12 _ rfl
theorem Mdl.a13 (M : Mdl S ad ar h) : h (ad 13) = some (.inl (.array .int, (5, .inr (.inr (.inr (.inr (fun i => if i < 5 then some (ar 2 i) else none))))))) := M.1 13 _ rfl
theorem Mdl.a23 (M : Mdl S ad ar h) : h (ad 23) = some (.inl (.long, (8, .inr (.inl (fun j => S.2 2 j))))) := M.1 23 _ rfl
theorem Mdl.r0 (M : Mdl S ad ar h) {i : Nat} (hi : i < 5) : h (ar 0 i) = some (.inl (.boolean, (8, .inl (fun j => S.1 11 i j)))) := M.2.1 0 i (by decide) hi
theorem Mdl.r1 (M : Mdl S ad ar h) {i : Nat} (hi : i < 5) : h (ar 1 i) = some (.inl (.int, (8, .inl (fun j => S.1 12 i j)))) := M.2.1 1 i (by decide) hi
theorem Mdl.r2 (M : Mdl S ad ar h) {i : Nat} (hi : i < 5) : h (ar 2 i) = some (.inl (.int, (8, .inl (fun j => S.1 13 i j)))) := M.2.1 2 i (by decide) hi
theorem rcl_s1 {c a b : Nat} {v : Int32} (hc : c ≠ 11 ∧ c ≠ 12 ∧ c ≠ 13) : ∀ b' i, rcl (s1 S c a b v) b' i = rcl S b' i := by
  intro b' i
  have e1 : ∀ j, (s1 S c a b v).1 11 i j = S.1 11 i j := fun j => s1_c (Ne.symm hc.1)
  have e2 : ∀ j, (s1 S c a b v).1 12 i j = S.1 12 i j := fun j => s1_c (Ne.symm hc.2.1)
  have e3 : ∀ j, (s1 S c a b v).1 13 i j = S.1 13 i j := fun j => s1_c (Ne.symm hc.2.2)
  unfold rcl
  split
  · simp only [e1]
  · simp only [e2]
  · simp only [e3]
theorem mcl_s1 {c a b : Nat} {v : Int32} : ∀ k, k ≠ c → mcl (s1 S c a b v) ad ar k = mcl S ad ar k := by
  intro k hk
  have e : ∀ i j, (s1 S c a b v).1 k i j = S.1 k i j := fun i j => s1_c hk
  unfold mcl
  split <;> first | rfl | simp only [e, s1_2]
theorem mcl_s1r {c a b : Nat} {v : Int32} (hc : c = 11 ∨ c = 12 ∨ c = 13) : ∀ k, mcl (s1 S c a b v) ad ar k = mcl S ad ar k := by
  intro k
  by_cases hk : k = c
  · subst hk
    rcases hc with rfl | rfl | rfl <;> rfl
  · exact mcl_s1 k hk
theorem mcl_s2 {c a : Nat} {v : Int64} : ∀ k, k ≠ 0 → k ≠ 23 → mcl (s2 S c a v) ad ar k = mcl S ad ar k := by
  intro k hk hk2
  unfold mcl
  split <;> first | rfl | exact absurd rfl hk | exact absurd rfl hk2
theorem Mdl.sc0 (M : Mdl S ad ar h) {v : Int32} (n : h1 (ad 0) = some (.inr (8, [.ref (ad 1), .ref (ad 2), .int (S.1 0 0 0), .ref (ad 3), .ref (ad 4), .ref (ad 5), .int (S.1 0 1 0), .ref (ad 6), .ref (ad 7), .ref (ad 8), .ref (ad 9), .ref (ad 10), .ref (ad 11), .ref (ad 12), .ref (ad 13), .int (S.1 0 2 0), .ref (ad 14), .ref (ad 15), .ref (ad 16), .int (S.1 0 3 0), .ref (ad 17), .ref (ad 18), .ref (ad 19), .ref (ad 20), .ref (ad 21), .ref (ad 23), .ref (ad 22), .int (S.1 0 4 0), .int (S.1 0 5 0), .int (S.1 0 6 0), .int (S.1 0 7 0), .long (S.2 0 0), .long (S.2 1 0), .int (S.1 0 8 0)].set 2 (.int v)))) (u : ∀ x, x ≠ ad 0 → h1 x = h x) : Mdl (s1 S 0 0 0 v) ad ar h1 := M.fix (by decide) n u rfl (fun k hk => mcl_s1 k hk) (rcl_s1 (by decide))
theorem Mdl.sc1 (M : Mdl S ad ar h) {v : Int32} (n : h1 (ad 0) = some (.inr (8, [.ref (ad 1), .ref (ad 2), .int (S.1 0 0 0), .ref (ad 3), .ref (ad 4), .ref (ad 5), .int (S.1 0 1 0), .ref (ad 6), .ref (ad 7), .ref (ad 8), .ref (ad 9), .ref (ad 10), .ref (ad 11), .ref (ad 12), .ref (ad 13), .int (S.1 0 2 0), .ref (ad 14), .ref (ad 15), .ref (ad 16), .int (S.1 0 3 0), .ref (ad 17), .ref (ad 18), .ref (ad 19), .ref (ad 20), .ref (ad 21), .ref (ad 23), .ref (ad 22), .int (S.1 0 4 0), .int (S.1 0 5 0), .int (S.1 0 6 0), .int (S.1 0 7 0), .long (S.2 0 0), .long (S.2 1 0), .int (S.1 0 8 0)].set 6 (.int v)))) (u : ∀ x, x ≠ ad 0 → h1 x = h x) : Mdl (s1 S 0 1 0 v) ad ar h1 := M.fix (by decide) n u rfl (fun k hk => mcl_s1 k hk) (rcl_s1 (by decide))
theorem Mdl.sc2 (M : Mdl S ad ar h) {v : Int32} (n : h1 (ad 0) = some (.inr (8, [.ref (ad 1), .ref (ad 2), .int (S.1 0 0 0), .ref (ad 3), .ref (ad 4), .ref (ad 5), .int (S.1 0 1 0), .ref (ad 6), .ref (ad 7), .ref (ad 8), .ref (ad 9), .ref (ad 10), .ref (ad 11), .ref (ad 12), .ref (ad 13), .int (S.1 0 2 0), .ref (ad 14), .ref (ad 15), .ref (ad 16), .int (S.1 0 3 0), .ref (ad 17), .ref (ad 18), .ref (ad 19), .ref (ad 20), .ref (ad 21), .ref (ad 23), .ref (ad 22), .int (S.1 0 4 0), .int (S.1 0 5 0), .int (S.1 0 6 0), .int (S.1 0 7 0), .long (S.2 0 0), .long (S.2 1 0), .int (S.1 0 8 0)].set 15 (.int v)))) (u : ∀ x, x ≠ ad 0 → h1 x = h x) : Mdl (s1 S 0 2 0 v) ad ar h1 := M.fix (by decide) n u rfl (fun k hk => mcl_s1 k hk) (rcl_s1 (by decide))
theorem Mdl.sc3 (M : Mdl S ad ar h) {v : Int32} (n : h1 (ad 0) = some (.inr (8, [.ref (ad 1), .ref (ad 2), .int (S.1 0 0 0), .ref (ad 3), .ref (ad 4), .ref (ad 5), .int (S.1 0 1 0), .ref (ad 6), .ref (ad 7), .ref (ad 8), .ref (ad 9), .ref (ad 10), .ref (ad 11), .ref (ad 12), .ref (ad 13), .int (S.1 0 2 0), .ref (ad 14), .ref (ad 15), .ref (ad 16), .int (S.1 0 3 0), .ref (ad 17), .ref (ad 18), .ref (ad 19), .ref (ad 20), .ref (ad 21), .ref (ad 23), .ref (ad 22), .int (S.1 0 4 0), .int (S.1 0 5 0), .int (S.1 0 6 0), .int (S.1 0 7 0), .long (S.2 0 0), .long (S.2 1 0), .int (S.1 0 8 0)].set 19 (.int v)))) (u : ∀ x, x ≠ ad 0 → h1 x = h x) : Mdl (s1 S 0 3 0 v) ad ar h1 := M.fix (by decide) n u rfl (fun k hk => mcl_s1 k hk) (rcl_s1 (by decide))
theorem Mdl.sc4 (M : Mdl S ad ar h) {v : Int32} (n : h1 (ad 0) = some (.inr (8, [.ref (ad 1), .ref (ad 2), .int (S.1 0 0 0), .ref (ad 3), .ref (ad 4), .ref (ad 5), .int (S.1 0 1 0), .ref (ad 6), .ref (ad 7), .ref (ad 8), .ref (ad 9), .ref (ad 10), .ref (ad 11), .ref (ad 12), .ref (ad 13), .int (S.1 0 2 0), .ref (ad 14), .ref (ad 15), .ref (ad 16), .int (S.1 0 3 0), .ref (ad 17), .ref (ad 18), .ref (ad 19), .ref (ad 20), .ref (ad 21), .ref (ad 23), .ref (ad 22), .int (S.1 0 4 0), .int (S.1 0 5 0), .int (S.1 0 6 0), .int (S.1 0 7 0), .long (S.2 0 0), .long (S.2 1 0), .int (S.1 0 8 0)].set 27 (.int v)))) (u : ∀ x, x ≠ ad 0 → h1 x = h x) : Mdl (s1 S 0 4 0 v) ad ar h1 := M.fix (by decide) n u rfl (fun k hk => mcl_s1 k hk) (rcl_s1 (by decide))
theorem Mdl.sc5 (M : Mdl S ad ar h) {v : Int32} (n : h1 (ad 0) = some (.inr (8, [.ref (ad 1), .ref (ad 2), .int (S.1 0 0 0), .ref (ad 3), .ref (ad 4), .ref (ad 5), .int (S.1 0 1 0), .ref (ad 6), .ref (ad 7), .ref (ad 8), .ref (ad 9), .ref (ad 10), .ref (ad 11), .ref (ad 12), .ref (ad 13), .int (S.1 0 2 0), .ref (ad 14), .ref (ad 15), .ref (ad 16), .int (S.1 0 3 0), .ref (ad 17), .ref (ad 18), .ref (ad 19), .ref (ad 20), .ref (ad 21), .ref (ad 23), .ref (ad 22), .int (S.1 0 4 0), .int (S.1 0 5 0), .int (S.1 0 6 0), .int (S.1 0 7 0), .long (S.2 0 0), .long (S.2 1 0), .int (S.1 0 8 0)].set 28 (.int v)))) (u : ∀ x, x ≠ ad 0 → h1 x = h x) : Mdl (s1 S 0 5 0 v) ad ar h1 := M.fix (by decide) n u rfl (fun k hk => mcl_s1 k hk) (rcl_s1 (by decide))
theorem Mdl.sc6 (M : Mdl S ad ar h) {v : Int32} (n : h1 (ad 0) = some (.inr (8, [.ref (ad 1), .ref (ad 2), .int (S.1 0 0 0), .ref (ad 3), .ref (ad 4), .ref (ad 5), .int (S.1 0 1 0), .ref (ad 6), .ref (ad 7), .ref (ad 8), .ref (ad 9), .ref (ad 10), .ref (ad 11), .ref (ad 12), .ref (ad 13), .int (S.1 0 2 0), .ref (ad 14), .ref (ad 15), .ref (ad 16), .int (S.1 0 3 0), .ref (ad 17), .ref (ad 18), .ref (ad 19), .ref (ad 20), .ref (ad 21), .ref (ad 23), .ref (ad 22), .int (S.1 0 4 0), .int (S.1 0 5 0), .int (S.1 0 6 0), .int (S.1 0 7 0), .long (S.2 0 0), .long (S.2 1 0), .int (S.1 0 8 0)].set 29 (.int v)))) (u : ∀ x, x ≠ ad 0 → h1 x = h x) : Mdl (s1 S 0 6 0 v) ad ar h1 := M.fix (by decide) n u rfl (fun k hk => mcl_s1 k hk) (rcl_s1 (by decide))
theorem Mdl.sc7 (M : Mdl S ad ar h) {v : Int32} (n : h1 (ad 0) = some (.inr (8, [.ref (ad 1), .ref (ad 2), .int (S.1 0 0 0), .ref (ad 3), .ref (ad 4), .ref (ad 5), .int (S.1 0 1 0), .ref (ad 6), .ref (ad 7), .ref (ad 8), .ref (ad 9), .ref (ad 10), .ref (ad 11), .ref (ad 12), .ref (ad 13), .int (S.1 0 2 0), .ref (ad 14), .ref (ad 15), .ref (ad 16), .int (S.1 0 3 0), .ref (ad 17), .ref (ad 18), .ref (ad 19), .ref (ad 20), .ref (ad 21), .ref (ad 23), .ref (ad 22), .int (S.1 0 4 0), .int (S.1 0 5 0), .int (S.1 0 6 0), .int (S.1 0 7 0), .long (S.2 0 0), .long (S.2 1 0), .int (S.1 0 8 0)].set 30 (.int v)))) (u : ∀ x, x ≠ ad 0 → h1 x = h x) : Mdl (s1 S 0 7 0 v) ad ar h1 := M.fix (by decide) n u rfl (fun k hk => mcl_s1 k hk) (rcl_s1 (by decide))
theorem Mdl.sc8 (M : Mdl S ad ar h) {v : Int32} (n : h1 (ad 0) = some (.inr (8, [.ref (ad 1), .ref (ad 2), .int (S.1 0 0 0), .ref (ad 3), .ref (ad 4), .ref (ad 5), .int (S.1 0 1 0), .ref (ad 6), .ref (ad 7), .ref (ad 8), .ref (ad 9), .ref (ad 10), .ref (ad 11), .ref (ad 12), .ref (ad 13), .int (S.1 0 2 0), .ref (ad 14), .ref (ad 15), .ref (ad 16), .int (S.1 0 3 0), .ref (ad 17), .ref (ad 18), .ref (ad 19), .ref (ad 20), .ref (ad 21), .ref (ad 23), .ref (ad 22), .int (S.1 0 4 0), .int (S.1 0 5 0), .int (S.1 0 6 0), .int (S.1 0 7 0), .long (S.2 0 0), .long (S.2 1 0), .int (S.1 0 8 0)].set 33 (.int v)))) (u : ∀ x, x ≠ ad 0 → h1 x = h x) : Mdl (s1 S 0 8 0 v) ad ar h1 := M.fix (by decide) n u rfl (fun k hk => mcl_s1 k hk) (rcl_s1 (by decide))
theorem Mdl.sl0 (M : Mdl S ad ar h) {v : Int64} (n : h1 (ad 0) = some (.inr (8, [.ref (ad 1), .ref (ad 2), .int (S.1 0 0 0), .ref (ad 3), .ref (ad 4), .ref (ad 5), .int (S.1 0 1 0), .ref (ad 6), .ref (ad 7), .ref (ad 8), .ref (ad 9), .ref (ad 10), .ref (ad 11), .ref (ad 12), .ref (ad 13), .int (S.1 0 2 0), .ref (ad 14), .ref (ad 15), .ref (ad 16), .int (S.1 0 3 0), .ref (ad 17), .ref (ad 18), .ref (ad 19), .ref (ad 20), .ref (ad 21), .ref (ad 23), .ref (ad 22), .int (S.1 0 4 0), .int (S.1 0 5 0), .int (S.1 0 6 0), .int (S.1 0 7 0), .long (S.2 0 0), .long (S.2 1 0), .int (S.1 0 8 0)].set 31 (.long v)))) (u : ∀ x, x ≠ ad 0 → h1 x = h x) : Mdl (s2 S 0 0 v) ad ar h1 := M.fix (by decide) n u rfl (fun k hk => by
    by_cases h9 : k = 23
    · subst h9; simp [mcl, s2]
    · exact mcl_s2 k hk h9) (fun _ _ => rfl)
theorem Mdl.sl1 (M : Mdl S ad ar h) {v : Int64} (n : h1 (ad 0) = some (.inr (8, [.ref (ad 1), .ref (ad 2), .int (S.1 0 0 0), .ref (ad 3), .ref (ad 4), .ref (ad 5), .int (S.1 0 1 0), .ref (ad 6), .ref (ad 7), .ref (ad 8), .ref (ad 9), .ref (ad 10), .ref (ad 11), .ref (ad 12), .ref (ad 13), .int (S.1 0 2 0), .ref (ad 14), .ref (ad 15), .ref (ad 16), .int (S.1 0 3 0), .ref (ad 17), .ref (ad 18), .ref (ad 19), .ref (ad 20), .ref (ad 21), .ref (ad 23), .ref (ad 22), .int (S.1 0 4 0), .int (S.1 0 5 0), .int (S.1 0 6 0), .int (S.1 0 7 0), .long (S.2 0 0), .long (S.2 1 0), .int (S.1 0 8 0)].set 32 (.long v)))) (u : ∀ x, x ≠ ad 0 → h1 x = h x) : Mdl (s2 S 1 0 v) ad ar h1 := M.fix (by decide) n u rfl (fun k hk => by
    by_cases h9 : k = 23
    · subst h9; simp [mcl, s2]
    · exact mcl_s2 k hk h9) (fun _ _ => rfl)
theorem Mdl.st1 (M : Mdl S ad ar h) {i : Nat} {v : Int32} (n : h1 (ad 1) = some (.inl (.int, (4, .inl (fup (fun j => S.1 1 j 0) i v))))) (u : ∀ x, x ≠ ad 1 → h1 x = h x) : Mdl (s1 S 1 i 0 v) ad ar h1 := M.fix (by decide) n u (by simp [mcl, s1, fup]; rfl) (fun k hk => mcl_s1 k hk) (rcl_s1 (by decide))
theorem Mdl.st2 (M : Mdl S ad ar h) {i : Nat} {v : Int32} (n : h1 (ad 2) = some (.inl (.int, (4, .inl (fup (fun j => S.1 2 j 0) i v))))) (u : ∀ x, x ≠ ad 2 → h1 x = h x) : Mdl (s1 S 2 i 0 v) ad ar h1 := M.fix (by decide) n u (by simp [mcl, s1, fup]; rfl) (fun k hk => mcl_s1 k hk) (rcl_s1 (by decide))
theorem Mdl.st3 (M : Mdl S ad ar h) {i : Nat} {v : Int32} (n : h1 (ad 3) = some (.inl (.int, (3, .inl (fup (fun j => S.1 3 j 0) i v))))) (u : ∀ x, x ≠ ad 3 → h1 x = h x) : Mdl (s1 S 3 i 0 v) ad ar h1 := M.fix (by decide) n u (by simp [mcl, s1, fup]; rfl) (fun k hk => mcl_s1 k hk) (rcl_s1 (by decide))
theorem Mdl.st4 (M : Mdl S ad ar h) {i : Nat} {v : Int32} (n : h1 (ad 4) = some (.inl (.int, (3, .inl (fup (fun j => S.1 4 j 0) i v))))) (u : ∀ x, x ≠ ad 4 → h1 x = h x) : Mdl (s1 S 4 i 0 v) ad ar h1 := M.fix (by decide) n u (by simp [mcl, s1, fup]; rfl) (fun k hk => mcl_s1 k hk) (rcl_s1 (by decide))
theorem Mdl.st5 (M : Mdl S ad ar h) {i : Nat} {v : Int32} (n : h1 (ad 5) = some (.inl (.int, (3, .inl (fup (fun j => S.1 5 j 0) i v))))) (u : ∀ x, x ≠ ad 5 → h1 x = h x) : Mdl (s1 S 5 i 0 v) ad ar h1 := M.fix (by decide) n u (by simp [mcl, s1, fup]; rfl) (fun k hk => mcl_s1 k hk) (rcl_s1 (by decide))
theorem Mdl.st6 (M : Mdl S ad ar h) {i : Nat} {v : Int32} (n : h1 (ad 6) = some (.inl (.int, (5, .inl (fup (fun j => S.1 6 j 0) i v))))) (u : ∀ x, x ≠ ad 6 → h1 x = h x) : Mdl (s1 S 6 i 0 v) ad ar h1 := M.fix (by decide) n u (by simp [mcl, s1, fup]; rfl) (fun k hk => mcl_s1 k hk) (rcl_s1 (by decide))
theorem Mdl.st7 (M : Mdl S ad ar h) {i : Nat} {v : Int32} (n : h1 (ad 7) = some (.inl (.int, (5, .inl (fup (fun j => S.1 7 j 0) i v))))) (u : ∀ x, x ≠ ad 7 → h1 x = h x) : Mdl (s1 S 7 i 0 v) ad ar h1 := M.fix (by decide) n u (by simp [mcl, s1, fup]; rfl) (fun k hk => mcl_s1 k hk) (rcl_s1 (by decide))
theorem Mdl.st8 (M : Mdl S ad ar h) {i : Nat} {v : Int32} (n : h1 (ad 8) = some (.inl (.int, (5, .inl (fup (fun j => S.1 8 j 0) i v))))) (u : ∀ x, x ≠ ad 8 → h1 x = h x) : Mdl (s1 S 8 i 0 v) ad ar h1 := M.fix (by decide) n u (by simp [mcl, s1, fup]; rfl) (fun k hk => mcl_s1 k hk) (rcl_s1 (by decide))
theorem Mdl.st9 (M : Mdl S ad ar h) {i : Nat} {v : Int32} (n : h1 (ad 9) = some (.inl (.int, (5, .inl (fup (fun j => S.1 9 j 0) i v))))) (u : ∀ x, x ≠ ad 9 → h1 x = h x) : Mdl (s1 S 9 i 0 v) ad ar h1 := M.fix (by decide) n u (by simp [mcl, s1, fup]; rfl) (fun k hk => mcl_s1 k hk) (rcl_s1 (by decide))
theorem Mdl.st10 (M : Mdl S ad ar h) {i : Nat} {v : Int32} (n : h1 (ad 10) = some (.inl (.int, (5, .inl (fup (fun j => S.1 10 j 0) i v))))) (u : ∀ x, x ≠ ad 10 → h1 x = h x) : Mdl (s1 S 10 i 0 v) ad ar h1 := M.fix (by decide) n u (by simp [mcl, s1, fup]; rfl) (fun k hk => mcl_s1 k hk) (rcl_s1 (by decide))
theorem Mdl.st14 (M : Mdl S ad ar h) {i : Nat} {v : Int32} (n : h1 (ad 14) = some (.inl (.int, (3, .inl (fup (fun j => S.1 14 j 0) i v))))) (u : ∀ x, x ≠ ad 14 → h1 x = h x) : Mdl (s1 S 14 i 0 v) ad ar h1 := M.fix (by decide) n u (by simp [mcl, s1, fup]; rfl) (fun k hk => mcl_s1 k hk) (rcl_s1 (by decide))
theorem Mdl.st15 (M : Mdl S ad ar h) {i : Nat} {v : Int32} (n : h1 (ad 15) = some (.inl (.int, (3, .inl (fup (fun j => S.1 15 j 0) i v))))) (u : ∀ x, x ≠ ad 15 → h1 x = h x) : Mdl (s1 S 15 i 0 v) ad ar h1 := M.fix (by decide) n u (by simp [mcl, s1, fup]; rfl) (fun k hk => mcl_s1 k hk) (rcl_s1 (by decide))
theorem Mdl.st16 (M : Mdl S ad ar h) {i : Nat} {v : Int32} (n : h1 (ad 16) = some (.inl (.int, (3, .inl (fup (fun j => S.1 16 j 0) i v))))) (u : ∀ x, x ≠ ad 16 → h1 x = h x) : Mdl (s1 S 16 i 0 v) ad ar h1 := M.fix (by decide) n u (by simp [mcl, s1, fup]; rfl) (fun k hk => mcl_s1 k hk) (rcl_s1 (by decide))
theorem Mdl.st17 (M : Mdl S ad ar h) {i : Nat} {v : Int32} (n : h1 (ad 17) = some (.inl (.int, (8, .inl (fup (fun j => S.1 17 j 0) i v))))) (u : ∀ x, x ≠ ad 17 → h1 x = h x) : Mdl (s1 S 17 i 0 v) ad ar h1 := M.fix (by decide) n u (by simp [mcl, s1, fup]; rfl) (fun k hk => mcl_s1 k hk) (rcl_s1 (by decide))
theorem Mdl.st18 (M : Mdl S ad ar h) {i : Nat} {v : Int32} (n : h1 (ad 18) = some (.inl (.int, (8, .inl (fup (fun j => S.1 18 j 0) i v))))) (u : ∀ x, x ≠ ad 18 → h1 x = h x) : Mdl (s1 S 18 i 0 v) ad ar h1 := M.fix (by decide) n u (by simp [mcl, s1, fup]; rfl) (fun k hk => mcl_s1 k hk) (rcl_s1 (by decide))
theorem Mdl.st19 (M : Mdl S ad ar h) {i : Nat} {v : Int32} (n : h1 (ad 19) = some (.inl (.int, (8, .inl (fup (fun j => S.1 19 j 0) i v))))) (u : ∀ x, x ≠ ad 19 → h1 x = h x) : Mdl (s1 S 19 i 0 v) ad ar h1 := M.fix (by decide) n u (by simp [mcl, s1, fup]; rfl) (fun k hk => mcl_s1 k hk) (rcl_s1 (by decide))
theorem Mdl.st20 (M : Mdl S ad ar h) {i : Nat} {v : Int32} (n : h1 (ad 20) = some (.inl (.int, (8, .inl (fup (fun j => S.1 20 j 0) i v))))) (u : ∀ x, x ≠ ad 20 → h1 x = h x) : Mdl (s1 S 20 i 0 v) ad ar h1 := M.fix (by decide) n u (by simp [mcl, s1, fup]; rfl) (fun k hk => mcl_s1 k hk) (rcl_s1 (by decide))
theorem Mdl.st21 (M : Mdl S ad ar h) {i : Nat} {v : Int32} (n : h1 (ad 21) = some (.inl (.int, (8, .inl (fup (fun j => S.1 21 j 0) i v))))) (u : ∀ x, x ≠ ad 21 → h1 x = h x) : Mdl (s1 S 21 i 0 v) ad ar h1 := M.fix (by decide) n u (by simp [mcl, s1, fup]; rfl) (fun k hk => mcl_s1 k hk) (rcl_s1 (by decide))
theorem Mdl.st22 (M : Mdl S ad ar h) {i : Nat} {v : Int32} (n : h1 (ad 22) = some (.inl (.int, (8, .inl (fup (fun j => S.1 22 j 0) i v))))) (u : ∀ x, x ≠ ad 22 → h1 x = h x) : Mdl (s1 S 22 i 0 v) ad ar h1 := M.fix (by decide) n u (by simp [mcl, s1, fup]; rfl) (fun k hk => mcl_s1 k hk) (rcl_s1 (by decide))
theorem Mdl.st23 (M : Mdl S ad ar h) {i : Nat} {v : Int64} (n : h1 (ad 23) = some (.inl (.long, (8, .inr (.inl (fup (fun j => S.2 2 j) i v)))))) (u : ∀ x, x ≠ ad 23 → h1 x = h x) : Mdl (s2 S 2 i v) ad ar h1 := M.fix (by decide) n u (by simp [mcl, s2, fup]; rfl) (fun k hk => by
    by_cases h9 : k = 0
    · subst h9; simp [mcl, s2]
    · exact mcl_s2 k h9 hk) (fun _ _ => rfl)
theorem Mdl.sr0 (M : Mdl S ad ar h) {i j : Nat} (hi : i < 5) {v : Int32} (n : h1 (ar 0 i) = some (.inl (.boolean, (8, .inl (fup (fun j => S.1 11 i j) j v))))) (u : ∀ x, x ≠ ar 0 i → h1 x = h x) : Mdl (s1 S 11 i j v) ad ar h1 := by
  refine M.row (b0 := 0) (i0 := i) (by decide) hi (n.trans ?_) u (mcl_s1r (by decide)) (fun b i' hb hk => ?_)
  · simp [rcl, s1, fup]; rfl
  · rcases (show b = 0 ∨ b = 1 ∨ b = 2 by omega) with rfl | rfl | rfl <;> simp [rcl, s1] <;> (try funext q) <;> (try (rw [if_neg (fun z => hk ⟨rfl, z.1⟩)]))
theorem Mdl.sr1 (M : Mdl S ad ar h) {i j : Nat} (hi : i < 5) {v : Int32} (n : h1 (ar 1 i) = some (.inl (.int, (8, .inl (fup (fun j => S.1 12 i j) j v))))) (u : ∀ x, x ≠ ar 1 i → h1 x = h x) : Mdl (s1 S 12 i j v) ad ar h1 := by
  refine M.row (b0 := 1) (i0 := i) (by decide) hi (n.trans ?_) u (mcl_s1r (by decide)) (fun b i' hb hk => ?_)
  · simp [rcl, s1, fup]; rfl
  · rcases (show b = 0 ∨ b = 1 ∨ b = 2 by omega) with rfl | rfl | rfl <;> simp [rcl, s1] <;> (try funext q) <;> (try (rw [if_neg (fun z => hk ⟨rfl, z.1⟩)]))
theorem Mdl.sr2 (M : Mdl S ad ar h) {i j : Nat} (hi : i < 5) {v : Int32} (n : h1 (ar 2 i) = some (.inl (.int, (8, .inl (fup (fun j => S.1 13 i j) j v))))) (u : ∀ x, x ≠ ar 2 i → h1 x = h x) : Mdl (s1 S 13 i j v) ad ar h1 := by
  refine M.row (b0 := 2) (i0 := i) (by decide) hi (n.trans ?_) u (mcl_s1r (by decide)) (fun b i' hb hk => ?_)
  · simp [rcl, s1, fup]; rfl
  · rcases (show b = 0 ∨ b = 1 ∨ b = 2 by omega) with rfl | rfl | rfl <;> simp [rcl, s1] <;> (try funext q) <;> (try (rw [if_neg (fun z => hk ⟨rfl, z.1⟩)]))
end MD
