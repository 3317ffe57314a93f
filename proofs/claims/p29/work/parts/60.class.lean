/-! the class: its cells, read off the mathematical state; ad: addresses by tag and place; gl, G: the rows of the regrind by shots -/
def rfs (n : Nat) (f : Nat → Nat) : Nat → Option Nat := fun i => if i < n then some (f i) else none
def mref (x : Int32) (f : Nat → Nat) : Value := if x = -1 then .null else .ref (f (nn x))
abbrev Ad : Type := Nat → Nat → Nat → Nat
def ccl (S : St) (gl : Nat → Nat) (G : Nat → Nat → Int32) (ad : Ad) (k i j : Nat) : AE := match k with
  | 0 => .inr (7, [.ref (ad 1 0 0), .int (S.1 0 0 0), .ref (ad 2 0 0), .int (S.1 0 2 0), .ref (ad 3 0 0), .int (S.1 0 3 0), .ref (ad 4 0 0), .int (S.1 0 4 0), .ref (ad 5 0 0), .int (S.1 0 5 0), .int (S.1 0 6 0), .int (S.1 0 7 0), .long (S.2 0 0), .long (S.2 1 0)])
  | 1 => .inl (.object "MouldDesk$Resin", (4, .inr (.inr (.inr (.inr (rfs (nn (S.1 0 0 0)) (fun i => ad 10 i 0)))))))
  | 2 => .inl (.object "MouldDesk$Mould", (5, .inr (.inr (.inr (.inr (rfs (nn (S.1 0 2 0)) (fun i => ad 12 i 0)))))))
  | 3 => .inl (.object "MouldDesk$Machine", (3, .inr (.inr (.inr (.inr (rfs (nn (S.1 0 3 0)) (fun i => ad 15 i 0)))))))
  | 4 => .inl (.object "MouldDesk$Order", (8, .inr (.inr (.inr (.inr (rfs (nn (S.1 0 4 0)) (fun i => ad 16 i 0)))))))
  | 5 => .inr (1, [.ref (ad 6 0 0), .int (S.1 0 1 0)])
  | 6 => .inl (.object "MouldDesk$Lot", (3, .inr (.inr (.inr (.inr (rfs (nn (S.1 0 1 0)) (fun i => ad 11 i 0)))))))
  | 10 => .inr (6, [.int (S.1 1 i 0), .int (S.1 2 i 0)])
  | 11 => .inr (2, [.ref (ad 10 (nn (S.1 3 i 0)) 0), .int (S.1 4 i 0), .int (S.1 5 i 0)])
  | 12 => .inr (4, [.int (nI i), .ref (ad 13 i 0), .int (S.1 7 i 0), .int (S.1 8 i 0), .int (S.1 9 i 0), .int (S.1 10 i 0), .int (b2i (mnt S (nI i)))])
  | 13 => .inl (.object "MouldDesk$Cavity", (nn (S.1 6 i 0), .inr (.inr (.inr (.inr (rfs (nn (S.1 6 i 0)) (fun j => ad 14 i j)))))))
  | 14 => .inr (0, [.int (S.1 11 i j), .int (S.1 13 i j), .int (S.1 12 i j)])
  | 15 => .inr (3, [.int (S.1 14 i 0), mref (S.1 15 i 0) (fun x => ad 12 x 0), mref (S.1 16 i 0) (fun x => ad 16 x 0)])
  | 16 => .inr (5, [.ref (ad 12 (nn (S.1 17 i 0)) 0), .ref (ad 10 (nn (S.1 18 i 0)) 0), .int (S.1 20 i 0), .ref (ad 17 i 0), .int (S.1 19 i 0), .int (S.1 21 i 0), .long (S.2 2 i), .int (S.1 22 i 0)])
  | _ => .inl (.int, (gl i, .inl (G i)))
def live (S : St) (k i j : Nat) : Prop := match k with
  | 0 => i = 0 ∧ j = 0
  | 1 => i = 0 ∧ j = 0
  | 2 => i = 0 ∧ j = 0
  | 3 => i = 0 ∧ j = 0
  | 4 => i = 0 ∧ j = 0
  | 5 => i = 0 ∧ j = 0
  | 6 => i = 0 ∧ j = 0
  | 10 => i < nn (S.1 0 0 0) ∧ j = 0
  | 11 => i < nn (S.1 0 1 0) ∧ j = 0
  | 12 => i < nn (S.1 0 2 0) ∧ j = 0
  | 13 => i < nn (S.1 0 2 0) ∧ j = 0
  | 14 => i < nn (S.1 0 2 0) ∧ j < nn (S.1 6 i 0)
  | 15 => i < nn (S.1 0 3 0) ∧ j = 0
  | 16 => i < nn (S.1 0 4 0) ∧ j = 0
  | 17 => i < nn (S.1 0 4 0) ∧ j = 0
  | _ => False
def Cls (S : St) (gl : Nat → Nat) (G : Nat → Nat → Int32) (ad : Ad) (h : AH) : Prop :=
  (∀ k i j, live S k i j → h (ad k i j) = some (ccl S gl G ad k i j)) ∧ (∀ k i j k' i' j', live S k i j → live S k' i' j' → ad k i j = ad k' i' j' → k = k' ∧ i = i' ∧ j = j')
def sumG (g : Nat → Int32) : Nat → Int64
  | 0 => 0
  | n + 1 => sumG g n + (g n).toInt64
/-- the rows of the regrind by shots have room, and their sum is what is kept -/
def IG (S : St) (gl : Nat → Nat) (G : Nat → Nat → Int32) : Prop := ∀ i, i < nn (S.1 0 4 0) → gl i ≤ 5000 ∧ S.1 21 i 0 = nI (nn (S.1 21 i 0)) ∧ nn (S.1 19 i 0) + nn (S.1 21 i 0) ≤ gl i ∧ S.2 2 i = sumG (G i) (nn (S.1 21 i 0))
theorem mntN_of {S T : St} {x : Int32} (h : ∀ k, T.1 15 k 0 = S.1 15 k 0) : ∀ n, mntN T x n = mntN S x n
  | 0 => rfl
  | n + 1 => by show (mntN T x n || decide (T.1 15 n 0 = x)) = _; rw [mntN_of h n, h n]; rfl
theorem mnt_of {S T : St} {x : Int32} (h3 : T.1 0 3 0 = S.1 0 3 0) (h : ∀ k, T.1 15 k 0 = S.1 15 k 0) : mnt T x = mnt S x := by
  unfold mnt
  rw [h3, mntN_of h]
section CL
variable {S : St} {gl : Nat → Nat} {G : Nat → Nat → Int32} {ad : Ad} {h h1 : AH}
theorem Cls.upd {S' : St} {G' : Nat → Nat → Int32} {k0 i0 j0 : Nat} {e1 : AE} (C : Cls S gl G ad h) (l0 : live S k0 i0 j0) (n : h1 (ad k0 i0 j0) = some e1) (u : ∀ x, x ≠ ad k0 i0 j0 → h1 x = h x) (hl : ∀ k i j, live S' k i j → live S k i j) (c0 : ccl S' gl G' ad k0 i0 j0 = e1) (ck : ∀ k i j, live S k i j → ¬ (k = k0 ∧ i = i0 ∧ j = j0) → ccl S' gl G' ad k i j = ccl S gl G ad k i j) : Cls S' gl G' ad h1 := by
  refine ⟨fun k i j hv => ?_, fun k i j k' i' j' hv hv' => C.2 k i j k' i' j' (hl _ _ _ hv) (hl _ _ _ hv')⟩
  have hv := hl _ _ _ hv
  by_cases q : k = k0 ∧ i = i0 ∧ j = j0
  · obtain ⟨rfl, rfl, rfl⟩ := q
    rw [n, c0]
  · rw [u _ (fun e => q (C.2 _ _ _ _ _ _ hv l0 e)), C.1 _ _ _ hv, ck _ _ _ hv q]
theorem live_0 {k i j : Nat} (h : live S k i j) (h14 : k ≠ 14) : j = 0 := by
  unfold live at h
  split at h <;> first | exact h.2 | exact absurd rfl h14 | exact h.elim
theorem Cls.x0 (C : Cls S gl G ad h) : h (ad 0 0 0) = some (.inr (7, [.ref (ad 1 0 0), .int (S.1 0 0 0), .ref (ad 2 0 0), .int (S.1 0 2 0), .ref (ad 3 0 0), .int (S.1 0 3 0), .ref (ad 4 0 0), .int (S.1 0 4 0), .ref (ad 5 0 0), .int (S.1 0 5 0), .int (S.1 0 6 0), .int (S.1 0 7 0), .long (S.2 0 0), .long (S.2 1 0)])) := C.1 0 0 0 ⟨rfl, rfl⟩
theorem Cls.x1 (C : Cls S gl G ad h) : h (ad 1 0 0) = some (.inl (.object "MouldDesk$Resin", (4, .inr (.inr (.inr (.inr (rfs (nn (S.1 0 0 0)) (fun i => ad 10 i 0)))))))) := C.1 1 0 0 ⟨rfl, rfl⟩
theorem Cls.x2 (C : Cls S gl G ad h) : h (ad 2 0 0) = some (.inl (.object "MouldDesk$Mould", (5, .inr (.inr (.inr (.inr (rfs (nn (S.1 0 2 0)) (fun i => ad 12 i 0)))))))) := C.1 2 0 0 ⟨rfl, rfl⟩
theorem Cls.x3 (C : Cls S gl G ad h) : h (ad 3 0 0) = some (.inl (.object "MouldDesk$Machine", (3, .inr (.inr (.inr (.inr (rfs (nn (S.1 0 3 0)) (fun i => ad 15 i 0)))))))) := C.1 3 0 0 ⟨rfl, rfl⟩
theorem Cls.x4 (C : Cls S gl G ad h) : h (ad 4 0 0) = some (.inl (.object "MouldDesk$Order", (8, .inr (.inr (.inr (.inr (rfs (nn (S.1 0 4 0)) (fun i => ad 16 i 0)))))))) := C.1 4 0 0 ⟨rfl, rfl⟩
theorem Cls.x5 (C : Cls S gl G ad h) : h (ad 5 0 0) = some (.inr (1, [.ref (ad 6 0 0), .int (S.1 0 1 0)])) := C.1 5 0 0 ⟨rfl, rfl⟩
theorem Cls.x6 (C : Cls S gl G ad h) : h (ad 6 0 0) = some (.inl (.object "MouldDesk$Lot", (3, .inr (.inr (.inr (.inr (rfs (nn (S.1 0 1 0)) (fun i => ad 11 i 0)))))))) := C.1 6 0 0 ⟨rfl, rfl⟩
theorem Cls.x10 (C : Cls S gl G ad h) {i : Nat} (hi : i < nn (S.1 0 0 0)) : h (ad 10 i 0) = some (.inr (6, [.int (S.1 1 i 0), .int (S.1 2 i 0)])) := C.1 10 i 0 ⟨hi, rfl⟩
theorem Cls.x11 (C : Cls S gl G ad h) {i : Nat} (hi : i < nn (S.1 0 1 0)) : h (ad 11 i 0) = some (.inr (2, [.ref (ad 10 (nn (S.1 3 i 0)) 0), .int (S.1 4 i 0), .int (S.1 5 i 0)])) := C.1 11 i 0 ⟨hi, rfl⟩
theorem Cls.x12 (C : Cls S gl G ad h) {i : Nat} (hi : i < nn (S.1 0 2 0)) : h (ad 12 i 0) = some (.inr (4, [.int (nI i), .ref (ad 13 i 0), .int (S.1 7 i 0), .int (S.1 8 i 0), .int (S.1 9 i 0), .int (S.1 10 i 0), .int (b2i (mnt S (nI i)))])) := C.1 12 i 0 ⟨hi, rfl⟩
theorem Cls.x13 (C : Cls S gl G ad h) {i : Nat} (hi : i < nn (S.1 0 2 0)) : h (ad 13 i 0) = some (.inl (.object "MouldDesk$Cavity", (nn (S.1 6 i 0), .inr (.inr (.inr (.inr (rfs (nn (S.1 6 i 0)) (fun j => ad 14 i j)))))))) := C.1 13 i 0 ⟨hi, rfl⟩
theorem Cls.x15 (C : Cls S gl G ad h) {i : Nat} (hi : i < nn (S.1 0 3 0)) : h (ad 15 i 0) = some (.inr (3, [.int (S.1 14 i 0), mref (S.1 15 i 0) (fun x => ad 12 x 0), mref (S.1 16 i 0) (fun x => ad 16 x 0)])) := C.1 15 i 0 ⟨hi, rfl⟩
theorem Cls.x16 (C : Cls S gl G ad h) {i : Nat} (hi : i < nn (S.1 0 4 0)) : h (ad 16 i 0) = some (.inr (5, [.ref (ad 12 (nn (S.1 17 i 0)) 0), .ref (ad 10 (nn (S.1 18 i 0)) 0), .int (S.1 20 i 0), .ref (ad 17 i 0), .int (S.1 19 i 0), .int (S.1 21 i 0), .long (S.2 2 i), .int (S.1 22 i 0)])) := C.1 16 i 0 ⟨hi, rfl⟩
theorem Cls.x17 (C : Cls S gl G ad h) {i : Nat} (hi : i < nn (S.1 0 4 0)) : h (ad 17 i 0) = some (.inl (.int, (gl i, .inl (G i)))) := C.1 17 i 0 ⟨hi, rfl⟩
theorem Cls.x14 (C : Cls S gl G ad h) {i j : Nat} (hi : i < nn (S.1 0 2 0)) (hj : j < nn (S.1 6 i 0)) : h (ad 14 i j) = some (.inr (0, [.int (S.1 11 i j), .int (S.1 13 i j), .int (S.1 12 i j)])) := C.1 14 i j ⟨hi, hj⟩
theorem Cls.t2 (C : Cls S gl G ad h) {i : Nat} {v : Int32} (hi : i < nn (S.1 0 0 0)) (n : h1 (ad 10 i 0) = some (.inr (6, [.int (S.1 1 i 0), .int v]))) (u : ∀ x, x ≠ ad 10 i 0 → h1 x = h x) : Cls (s1 S 2 i 0 v) gl G ad h1 := by
  have hm : ∀ x, mnt (s1 S 2 i 0 v) x = mnt S x := fun x => mnt_of rfl (fun _ => rfl)
  refine C.upd (k0 := 10) ⟨hi, rfl⟩ n u (fun _ _ _ q => q) (by show ccl (s1 S 2 i 0 v) gl G ad 10 i 0 = _; unfold ccl; rw [show (s1 S 2 i 0 v).1 2 i 0 = v from s1_eq]; rfl) (fun k i' j' hv hne => ?_)
  unfold ccl
  split <;> first | rfl | (rw [hm]; rfl) | (rw [show (s1 S 2 i 0 v).1 2 i' 0 = S.1 2 i' 0 from s1_ne (fun q => hne ⟨rfl, q.2.1, live_0 hv (by decide)⟩)]; rfl)
theorem Cls.t4 (C : Cls S gl G ad h) {i : Nat} {v : Int32} (hi : i < nn (S.1 0 1 0)) (n : h1 (ad 11 i 0) = some (.inr (2, [.ref (ad 10 (nn (S.1 3 i 0)) 0), .int v, .int (S.1 5 i 0)]))) (u : ∀ x, x ≠ ad 11 i 0 → h1 x = h x) : Cls (s1 S 4 i 0 v) gl G ad h1 := by
  have hm : ∀ x, mnt (s1 S 4 i 0 v) x = mnt S x := fun x => mnt_of rfl (fun _ => rfl)
  refine C.upd (k0 := 11) ⟨hi, rfl⟩ n u (fun _ _ _ q => q) (by show ccl (s1 S 4 i 0 v) gl G ad 11 i 0 = _; unfold ccl; rw [show (s1 S 4 i 0 v).1 4 i 0 = v from s1_eq]; rfl) (fun k i' j' hv hne => ?_)
  unfold ccl
  split <;> first | rfl | (rw [hm]; rfl) | (rw [show (s1 S 4 i 0 v).1 4 i' 0 = S.1 4 i' 0 from s1_ne (fun q => hne ⟨rfl, q.2.1, live_0 hv (by decide)⟩)]; rfl)
theorem Cls.t5 (C : Cls S gl G ad h) {i : Nat} {v : Int32} (hi : i < nn (S.1 0 1 0)) (n : h1 (ad 11 i 0) = some (.inr (2, [.ref (ad 10 (nn (S.1 3 i 0)) 0), .int (S.1 4 i 0), .int v]))) (u : ∀ x, x ≠ ad 11 i 0 → h1 x = h x) : Cls (s1 S 5 i 0 v) gl G ad h1 := by
  have hm : ∀ x, mnt (s1 S 5 i 0 v) x = mnt S x := fun x => mnt_of rfl (fun _ => rfl)
  refine C.upd (k0 := 11) ⟨hi, rfl⟩ n u (fun _ _ _ q => q) (by show ccl (s1 S 5 i 0 v) gl G ad 11 i 0 = _; unfold ccl; rw [show (s1 S 5 i 0 v).1 5 i 0 = v from s1_eq]; rfl) (fun k i' j' hv hne => ?_)
  unfold ccl
  split <;> first | rfl | (rw [hm]; rfl) | (rw [show (s1 S 5 i 0 v).1 5 i' 0 = S.1 5 i' 0 from s1_ne (fun q => hne ⟨rfl, q.2.1, live_0 hv (by decide)⟩)]; rfl)
theorem Cls.t11 (C : Cls S gl G ad h) {i j : Nat} {v : Int32} (hi : i < nn (S.1 0 2 0)) (hj : j < nn (S.1 6 i 0)) (n : h1 (ad 14 i j) = some (.inr (0, [.int v, .int (S.1 13 i j), .int (S.1 12 i j)]))) (u : ∀ x, x ≠ ad 14 i j → h1 x = h x) : Cls (s1 S 11 i j v) gl G ad h1 := by
  have hm : ∀ x, mnt (s1 S 11 i j v) x = mnt S x := fun x => mnt_of rfl (fun _ => rfl)
  refine C.upd (k0 := 14) ⟨hi, hj⟩ n u (fun _ _ _ q => q) (by show ccl (s1 S 11 i j v) gl G ad 14 i j = _; unfold ccl; rw [show (s1 S 11 i j v).1 11 i j = v from s1_eq]; rfl) (fun k i' j' hv hne => ?_)
  unfold ccl
  split <;> first | rfl | (rw [hm]; rfl) | (rw [show (s1 S 11 i j v).1 11 i' j' = S.1 11 i' j' from s1_ne (fun q => hne ⟨rfl, q.2.1, q.2.2⟩)]; rfl)
theorem Cls.t12 (C : Cls S gl G ad h) {i j : Nat} {v : Int32} (hi : i < nn (S.1 0 2 0)) (hj : j < nn (S.1 6 i 0)) (n : h1 (ad 14 i j) = some (.inr (0, [.int (S.1 11 i j), .int (S.1 13 i j), .int v]))) (u : ∀ x, x ≠ ad 14 i j → h1 x = h x) : Cls (s1 S 12 i j v) gl G ad h1 := by
  have hm : ∀ x, mnt (s1 S 12 i j v) x = mnt S x := fun x => mnt_of rfl (fun _ => rfl)
  refine C.upd (k0 := 14) ⟨hi, hj⟩ n u (fun _ _ _ q => q) (by show ccl (s1 S 12 i j v) gl G ad 14 i j = _; unfold ccl; rw [show (s1 S 12 i j v).1 12 i j = v from s1_eq]; rfl) (fun k i' j' hv hne => ?_)
  unfold ccl
  split <;> first | rfl | (rw [hm]; rfl) | (rw [show (s1 S 12 i j v).1 12 i' j' = S.1 12 i' j' from s1_ne (fun q => hne ⟨rfl, q.2.1, q.2.2⟩)]; rfl)
theorem Cls.t13 (C : Cls S gl G ad h) {i j : Nat} {v : Int32} (hi : i < nn (S.1 0 2 0)) (hj : j < nn (S.1 6 i 0)) (n : h1 (ad 14 i j) = some (.inr (0, [.int (S.1 11 i j), .int v, .int (S.1 12 i j)]))) (u : ∀ x, x ≠ ad 14 i j → h1 x = h x) : Cls (s1 S 13 i j v) gl G ad h1 := by
  have hm : ∀ x, mnt (s1 S 13 i j v) x = mnt S x := fun x => mnt_of rfl (fun _ => rfl)
  refine C.upd (k0 := 14) ⟨hi, hj⟩ n u (fun _ _ _ q => q) (by show ccl (s1 S 13 i j v) gl G ad 14 i j = _; unfold ccl; rw [show (s1 S 13 i j v).1 13 i j = v from s1_eq]; rfl) (fun k i' j' hv hne => ?_)
  unfold ccl
  split <;> first | rfl | (rw [hm]; rfl) | (rw [show (s1 S 13 i j v).1 13 i' j' = S.1 13 i' j' from s1_ne (fun q => hne ⟨rfl, q.2.1, q.2.2⟩)]; rfl)
theorem Cls.t14 (C : Cls S gl G ad h) {i : Nat} {v : Int32} (hi : i < nn (S.1 0 3 0)) (n : h1 (ad 15 i 0) = some (.inr (3, [.int v, mref (S.1 15 i 0) (fun x => ad 12 x 0), mref (S.1 16 i 0) (fun x => ad 16 x 0)]))) (u : ∀ x, x ≠ ad 15 i 0 → h1 x = h x) : Cls (s1 S 14 i 0 v) gl G ad h1 := by
  have hm : ∀ x, mnt (s1 S 14 i 0 v) x = mnt S x := fun x => mnt_of rfl (fun _ => rfl)
  refine C.upd (k0 := 15) ⟨hi, rfl⟩ n u (fun _ _ _ q => q) (by show ccl (s1 S 14 i 0 v) gl G ad 15 i 0 = _; unfold ccl; rw [show (s1 S 14 i 0 v).1 14 i 0 = v from s1_eq]; rfl) (fun k i' j' hv hne => ?_)
  unfold ccl
  split <;> first | rfl | (rw [hm]; rfl) | (rw [show (s1 S 14 i 0 v).1 14 i' 0 = S.1 14 i' 0 from s1_ne (fun q => hne ⟨rfl, q.2.1, live_0 hv (by decide)⟩)]; rfl)
theorem Cls.t19 (C : Cls S gl G ad h) {i : Nat} {v : Int32} (hi : i < nn (S.1 0 4 0)) (n : h1 (ad 16 i 0) = some (.inr (5, [.ref (ad 12 (nn (S.1 17 i 0)) 0), .ref (ad 10 (nn (S.1 18 i 0)) 0), .int (S.1 20 i 0), .ref (ad 17 i 0), .int v, .int (S.1 21 i 0), .long (S.2 2 i), .int (S.1 22 i 0)]))) (u : ∀ x, x ≠ ad 16 i 0 → h1 x = h x) : Cls (s1 S 19 i 0 v) gl G ad h1 := by
  have hm : ∀ x, mnt (s1 S 19 i 0 v) x = mnt S x := fun x => mnt_of rfl (fun _ => rfl)
  refine C.upd (k0 := 16) ⟨hi, rfl⟩ n u (fun _ _ _ q => q) (by show ccl (s1 S 19 i 0 v) gl G ad 16 i 0 = _; unfold ccl; rw [show (s1 S 19 i 0 v).1 19 i 0 = v from s1_eq]; rfl) (fun k i' j' hv hne => ?_)
  unfold ccl
  split <;> first | rfl | (rw [hm]; rfl) | (rw [show (s1 S 19 i 0 v).1 19 i' 0 = S.1 19 i' 0 from s1_ne (fun q => hne ⟨rfl, q.2.1, live_0 hv (by decide)⟩)]; rfl)
theorem Cls.t21 (C : Cls S gl G ad h) {i : Nat} {v : Int32} (hi : i < nn (S.1 0 4 0)) (n : h1 (ad 16 i 0) = some (.inr (5, [.ref (ad 12 (nn (S.1 17 i 0)) 0), .ref (ad 10 (nn (S.1 18 i 0)) 0), .int (S.1 20 i 0), .ref (ad 17 i 0), .int (S.1 19 i 0), .int v, .long (S.2 2 i), .int (S.1 22 i 0)]))) (u : ∀ x, x ≠ ad 16 i 0 → h1 x = h x) : Cls (s1 S 21 i 0 v) gl G ad h1 := by
  have hm : ∀ x, mnt (s1 S 21 i 0 v) x = mnt S x := fun x => mnt_of rfl (fun _ => rfl)
  refine C.upd (k0 := 16) ⟨hi, rfl⟩ n u (fun _ _ _ q => q) (by show ccl (s1 S 21 i 0 v) gl G ad 16 i 0 = _; unfold ccl; rw [show (s1 S 21 i 0 v).1 21 i 0 = v from s1_eq]; rfl) (fun k i' j' hv hne => ?_)
  unfold ccl
  split <;> first | rfl | (rw [hm]; rfl) | (rw [show (s1 S 21 i 0 v).1 21 i' 0 = S.1 21 i' 0 from s1_ne (fun q => hne ⟨rfl, q.2.1, live_0 hv (by decide)⟩)]; rfl)
theorem Cls.t22 (C : Cls S gl G ad h) {i : Nat} {v : Int32} (hi : i < nn (S.1 0 4 0)) (n : h1 (ad 16 i 0) = some (.inr (5, [.ref (ad 12 (nn (S.1 17 i 0)) 0), .ref (ad 10 (nn (S.1 18 i 0)) 0), .int (S.1 20 i 0), .ref (ad 17 i 0), .int (S.1 19 i 0), .int (S.1 21 i 0), .long (S.2 2 i), .int v]))) (u : ∀ x, x ≠ ad 16 i 0 → h1 x = h x) : Cls (s1 S 22 i 0 v) gl G ad h1 := by
  have hm : ∀ x, mnt (s1 S 22 i 0 v) x = mnt S x := fun x => mnt_of rfl (fun _ => rfl)
  refine C.upd (k0 := 16) ⟨hi, rfl⟩ n u (fun _ _ _ q => q) (by show ccl (s1 S 22 i 0 v) gl G ad 16 i 0 = _; unfold ccl; rw [show (s1 S 22 i 0 v).1 22 i 0 = v from s1_eq]; rfl) (fun k i' j' hv hne => ?_)
  unfold ccl
  split <;> first | rfl | (rw [hm]; rfl) | (rw [show (s1 S 22 i 0 v).1 22 i' 0 = S.1 22 i' 0 from s1_ne (fun q => hne ⟨rfl, q.2.1, live_0 hv (by decide)⟩)]; rfl)
theorem Cls.tl2 (C : Cls S gl G ad h) {i : Nat} {v : Int64} (hi : i < nn (S.1 0 4 0)) (n : h1 (ad 16 i 0) = some (.inr (5, [.ref (ad 12 (nn (S.1 17 i 0)) 0), .ref (ad 10 (nn (S.1 18 i 0)) 0), .int (S.1 20 i 0), .ref (ad 17 i 0), .int (S.1 19 i 0), .int (S.1 21 i 0), .long v, .int (S.1 22 i 0)]))) (u : ∀ x, x ≠ ad 16 i 0 → h1 x = h x) : Cls (s2 S 2 i v) gl G ad h1 := by
  have hm : ∀ x, mnt (s2 S 2 i v) x = mnt S x := fun x => mnt_of rfl (fun _ => rfl)
  refine C.upd (k0 := 16) ⟨hi, rfl⟩ n u (fun _ _ _ q => q) (by show ccl (s2 S 2 i v) gl G ad 16 i 0 = _; unfold ccl; rw [show (s2 S 2 i v).2 2 i = v from s2_eq]; rfl) (fun k i' j' hv hne => ?_)
  unfold ccl
  split <;> first | rfl | (rw [hm]; rfl) | (rw [show (s2 S 2 i v).2 2 i' = S.2 2 i' from if_neg (fun q => hne ⟨rfl, q.2, live_0 hv (by decide)⟩)]; rfl)
theorem Cls.d5 (C : Cls S gl G ad h) {v : Int32} (n : h1 (ad 0 0 0) = some (.inr (7, [.ref (ad 1 0 0), .int (S.1 0 0 0), .ref (ad 2 0 0), .int (S.1 0 2 0), .ref (ad 3 0 0), .int (S.1 0 3 0), .ref (ad 4 0 0), .int (S.1 0 4 0), .ref (ad 5 0 0), .int v, .int (S.1 0 6 0), .int (S.1 0 7 0), .long (S.2 0 0), .long (S.2 1 0)]))) (u : ∀ x, x ≠ ad 0 0 0 → h1 x = h x) : Cls (s1 S 0 5 0 v) gl G ad h1 := by
  have hm : ∀ x, mnt (s1 S 0 5 0 v) x = mnt S x := fun x => mnt_of rfl (fun _ => rfl)
  refine C.upd (k0 := 0) ⟨rfl, rfl⟩ n u (fun _ _ _ q => q) rfl (fun k i' j' hv hne => ?_)
  unfold ccl
  split <;> first | rfl | (rw [hm]; rfl) | exact absurd ⟨rfl, hv⟩ hne
theorem Cls.d6 (C : Cls S gl G ad h) {v : Int32} (n : h1 (ad 0 0 0) = some (.inr (7, [.ref (ad 1 0 0), .int (S.1 0 0 0), .ref (ad 2 0 0), .int (S.1 0 2 0), .ref (ad 3 0 0), .int (S.1 0 3 0), .ref (ad 4 0 0), .int (S.1 0 4 0), .ref (ad 5 0 0), .int (S.1 0 5 0), .int v, .int (S.1 0 7 0), .long (S.2 0 0), .long (S.2 1 0)]))) (u : ∀ x, x ≠ ad 0 0 0 → h1 x = h x) : Cls (s1 S 0 6 0 v) gl G ad h1 := by
  have hm : ∀ x, mnt (s1 S 0 6 0 v) x = mnt S x := fun x => mnt_of rfl (fun _ => rfl)
  refine C.upd (k0 := 0) ⟨rfl, rfl⟩ n u (fun _ _ _ q => q) rfl (fun k i' j' hv hne => ?_)
  unfold ccl
  split <;> first | rfl | (rw [hm]; rfl) | exact absurd ⟨rfl, hv⟩ hne
theorem Cls.d7 (C : Cls S gl G ad h) {v : Int32} (n : h1 (ad 0 0 0) = some (.inr (7, [.ref (ad 1 0 0), .int (S.1 0 0 0), .ref (ad 2 0 0), .int (S.1 0 2 0), .ref (ad 3 0 0), .int (S.1 0 3 0), .ref (ad 4 0 0), .int (S.1 0 4 0), .ref (ad 5 0 0), .int (S.1 0 5 0), .int (S.1 0 6 0), .int v, .long (S.2 0 0), .long (S.2 1 0)]))) (u : ∀ x, x ≠ ad 0 0 0 → h1 x = h x) : Cls (s1 S 0 7 0 v) gl G ad h1 := by
  have hm : ∀ x, mnt (s1 S 0 7 0 v) x = mnt S x := fun x => mnt_of rfl (fun _ => rfl)
  refine C.upd (k0 := 0) ⟨rfl, rfl⟩ n u (fun _ _ _ q => q) rfl (fun k i' j' hv hne => ?_)
  unfold ccl
  split <;> first | rfl | (rw [hm]; rfl) | exact absurd ⟨rfl, hv⟩ hne
theorem Cls.dl0 (C : Cls S gl G ad h) {v : Int64} (n : h1 (ad 0 0 0) = some (.inr (7, [.ref (ad 1 0 0), .int (S.1 0 0 0), .ref (ad 2 0 0), .int (S.1 0 2 0), .ref (ad 3 0 0), .int (S.1 0 3 0), .ref (ad 4 0 0), .int (S.1 0 4 0), .ref (ad 5 0 0), .int (S.1 0 5 0), .int (S.1 0 6 0), .int (S.1 0 7 0), .long v, .long (S.2 1 0)]))) (u : ∀ x, x ≠ ad 0 0 0 → h1 x = h x) : Cls (s2 S 0 0 v) gl G ad h1 := by
  have hm : ∀ x, mnt (s2 S 0 0 v) x = mnt S x := fun x => mnt_of rfl (fun _ => rfl)
  refine C.upd (k0 := 0) ⟨rfl, rfl⟩ n u (fun _ _ _ q => q) rfl (fun k i' j' hv hne => ?_)
  unfold ccl
  split <;> first | rfl | (rw [hm]; rfl) | exact absurd ⟨rfl, hv⟩ hne
theorem Cls.dl1 (C : Cls S gl G ad h) {v : Int64} (n : h1 (ad 0 0 0) = some (.inr (7, [.ref (ad 1 0 0), .int (S.1 0 0 0), .ref (ad 2 0 0), .int (S.1 0 2 0), .ref (ad 3 0 0), .int (S.1 0 3 0), .ref (ad 4 0 0), .int (S.1 0 4 0), .ref (ad 5 0 0), .int (S.1 0 5 0), .int (S.1 0 6 0), .int (S.1 0 7 0), .long (S.2 0 0), .long v]))) (u : ∀ x, x ≠ ad 0 0 0 → h1 x = h x) : Cls (s2 S 1 0 v) gl G ad h1 := by
  have hm : ∀ x, mnt (s2 S 1 0 v) x = mnt S x := fun x => mnt_of rfl (fun _ => rfl)
  refine C.upd (k0 := 0) ⟨rfl, rfl⟩ n u (fun _ _ _ q => q) rfl (fun k i' j' hv hne => ?_)
  unfold ccl
  split <;> first | rfl | (rw [hm]; rfl) | exact absurd ⟨rfl, hv⟩ hne
theorem Cls.tG (C : Cls S gl G ad h) {i p : Nat} {v : Int32} (hi : i < nn (S.1 0 4 0)) (n : h1 (ad 17 i 0) = some (.inl (.int, (gl i, .inl (fup (G i) p v))))) (u : ∀ x, x ≠ ad 17 i 0 → h1 x = h x) : Cls S gl (fun i' => if i' = i then fup (G i) p v else G i') ad h1 := by
  refine C.upd (k0 := 17) ⟨hi, rfl⟩ n u (fun _ _ _ q => q) (by show Sum.inl (FieldType.int, (gl i, Sum.inl (if i = i then fup (G i) p v else G i))) = _; rw [if_pos rfl]) (fun k i' j' hv hne => ?_)
  by_cases h17 : k = 17
  · subst h17
    show (Sum.inl (FieldType.int, (gl i', Sum.inl (if i' = i then fup (G i) p v else G i'))) : AE) = Sum.inl (FieldType.int, (gl i', Sum.inl (G i')))
    rw [if_neg (fun q => hne ⟨rfl, q, live_0 hv (by decide)⟩)]
  · unfold ccl
    split <;> first | rfl | (unfold live at hv; split at hv <;> first | contradiction | exact hv.elim | (exfalso; simp_all))
end CL
