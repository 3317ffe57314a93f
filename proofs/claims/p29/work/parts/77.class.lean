/-! the class: moulds are added -/
theorem livN_2 {S : St} {mo : Nat} : ∀ n, (livN S mo n).2 = S.2
  | 0 => rfl
  | n + 1 => livN_2 n
theorem livN_at {S : St} {mo i j : Nat} : ∀ n, (livN S mo n).1 12 i j = if i = mo ∧ j < n then 9999 else S.1 12 i j
  | 0 => by rw [if_neg (by omega)]; rfl
  | n + 1 => by
    show (s1 (livN S mo n) 12 mo n 9999).1 12 i j = _
    by_cases q : i = mo ∧ j = n
    · obtain ⟨rfl, rfl⟩ := q
      rw [s1_eq, if_pos (by omega)]
    · rw [s1_ne (fun z => q z.2), livN_at n]
      by_cases r : i = mo ∧ j < n
      · rw [if_pos r, if_pos (by omega)]
      · rw [if_neg r, if_neg (by omega)]
def adMo (ad : Ad) (m a q : Nat) (c : Nat → Nat) : Ad := fun t i j => if i = m ∧ (t = 12 ∨ t = 13 ∨ t = 14) then (if t = 12 then a else if t = 13 then q else c j) else ad t i j
theorem adMo_ne {ad : Ad} {m a q t i j : Nat} {c : Nat → Nat} (h : ¬ (i = m ∧ (t = 12 ∨ t = 13 ∨ t = 14))) : adMo ad m a q c t i j = ad t i j := if_neg h
theorem adMo_12 {ad : Ad} {m a q j : Nat} {c : Nat → Nat} : adMo ad m a q c 12 m j = a := by unfold adMo; rw [if_pos ⟨rfl, Or.inl rfl⟩, if_pos rfl]
theorem adMo_13 {ad : Ad} {m a q j : Nat} {c : Nat → Nat} : adMo ad m a q c 13 m j = q := by unfold adMo; rw [if_pos ⟨rfl, Or.inr (Or.inl rfl)⟩, if_neg (by decide), if_pos rfl]
theorem adMo_14 {ad : Ad} {m a q j : Nat} {c : Nat → Nat} : adMo ad m a q c 14 m j = c j := by unfold adMo; rw [if_pos ⟨rfl, Or.inr (Or.inr rfl)⟩, if_neg (by decide), if_neg (by decide)]
theorem Cls.addMo {S : St} {gl : Nat → Nat} {G : Nat → Nat → Int32} {ad : Ad} {h h1 : AH} (K0 : Cls S gl G ad h) {B a q : Nat} {c : Nat → Nat} {ca pa sp fo cy : Int32} (I : Inv S B) (hR : (nn (S.1 0 2 0)) < 5) (hca : Rg ca 1 8) (fa : h a = none) (fq : h q = none) (hqa : q ≠ a)
    (fc : ∀ j, j < nn ca → h (c j) = none ∧ c j ≠ a ∧ c j ≠ q ∧ h1 (c j) = some (.inr (0, [.int 0, .int 0, .int 9999]))) (ci : ∀ i j, i < nn ca → j < nn ca → c i = c j → i = j)
    (na : h1 a = some (.inr (4, [.int (S.1 0 2 0), .ref q, .int pa, .int sp, .int fo, .int cy, .int 0]))) (nq : h1 q = some (.inl (.object "MouldDesk$Cavity", (nn ca, .inr (.inr (.inr (.inr (rfs (nn ca) c))))))))
    (n1 : h1 (ad 2 0 0) = some (.inl (.object "MouldDesk$Mould", (5, .inr (.inr (.inr (.inr (fup (rfs (nn (S.1 0 2 0)) (fun i => ad 12 i 0)) (nn (S.1 0 2 0)) (some a)))))))))
    (n0 : h1 (ad 0 0 0) = some (.inr (7, [.ref (ad 1 0 0), .int (S.1 0 0 0), .ref (ad 2 0 0), .int (S.1 0 2 0 + 1), .ref (ad 3 0 0), .int (S.1 0 3 0), .ref (ad 4 0 0), .int (S.1 0 4 0), .ref (ad 5 0 0), .int (S.1 0 5 0), .int (S.1 0 6 0), .int (S.1 0 7 0), .long (S.2 0 0), .long (S.2 1 0)]))) (u : ∀ z, z ≠ a → z ≠ q → (∀ j, j < nn ca → z ≠ c j) → z ≠ ad 2 0 0 → z ≠ ad 0 0 0 → h1 z = h z) : Cls (s1 (livN (s1 (s1 (s1 (s1 (s1 S 6 (nn (S.1 0 2 0)) 0 ca) 7 (nn (S.1 0 2 0)) 0 pa) 8 (nn (S.1 0 2 0)) 0 sp) 9 (nn (S.1 0 2 0)) 0 fo) 10 (nn (S.1 0 2 0)) 0 cy) (nn (S.1 0 2 0)) 8) 0 2 0 (S.1 0 2 0 + 1)) gl G (adMo ad (nn (S.1 0 2 0)) a q c) h1 := by
  have C := I.cnt
  have up : nn (S.1 0 2 0 + 1) = (nn (S.1 0 2 0)) + 1 := nn_up C.2.2.1 (by decide) hR
  have e6 : ∀ i, i ≠ (nn (S.1 0 2 0)) → (s1 (livN (s1 (s1 (s1 (s1 (s1 S 6 (nn (S.1 0 2 0)) 0 ca) 7 (nn (S.1 0 2 0)) 0 pa) 8 (nn (S.1 0 2 0)) 0 sp) 9 (nn (S.1 0 2 0)) 0 fo) 10 (nn (S.1 0 2 0)) 0 cy) (nn (S.1 0 2 0)) 8) 0 2 0 (S.1 0 2 0 + 1)).1 6 i 0 = S.1 6 i 0 := fun i hi => (livN_c (S := (s1 (s1 (s1 (s1 (s1 S 6 (nn (S.1 0 2 0)) 0 ca) 7 (nn (S.1 0 2 0)) 0 pa) 8 (nn (S.1 0 2 0)) 0 sp) 9 (nn (S.1 0 2 0)) 0 fo) 10 (nn (S.1 0 2 0)) 0 cy)) (mo := nn (S.1 0 2 0)) (c := 6) (i := i) (j := 0) (by decide) 8).trans (show (s1 S 6 (nn (S.1 0 2 0)) 0 ca).1 6 i 0 = S.1 6 i 0 from s1_ne (fun z => hi z.2.1))
  have f6 : (s1 (livN (s1 (s1 (s1 (s1 (s1 S 6 (nn (S.1 0 2 0)) 0 ca) 7 (nn (S.1 0 2 0)) 0 pa) 8 (nn (S.1 0 2 0)) 0 sp) 9 (nn (S.1 0 2 0)) 0 fo) 10 (nn (S.1 0 2 0)) 0 cy) (nn (S.1 0 2 0)) 8) 0 2 0 (S.1 0 2 0 + 1)).1 6 (nn (S.1 0 2 0)) 0 = ca := (livN_c (S := (s1 (s1 (s1 (s1 (s1 S 6 (nn (S.1 0 2 0)) 0 ca) 7 (nn (S.1 0 2 0)) 0 pa) 8 (nn (S.1 0 2 0)) 0 sp) 9 (nn (S.1 0 2 0)) 0 fo) 10 (nn (S.1 0 2 0)) 0 cy)) (mo := nn (S.1 0 2 0)) (c := 6) (i := (nn (S.1 0 2 0))) (j := 0) (by decide) 8).trans (show (s1 S 6 (nn (S.1 0 2 0)) 0 ca).1 6 (nn (S.1 0 2 0)) 0 = ca from s1_eq)
  have e7 : ∀ i, i ≠ (nn (S.1 0 2 0)) → (s1 (livN (s1 (s1 (s1 (s1 (s1 S 6 (nn (S.1 0 2 0)) 0 ca) 7 (nn (S.1 0 2 0)) 0 pa) 8 (nn (S.1 0 2 0)) 0 sp) 9 (nn (S.1 0 2 0)) 0 fo) 10 (nn (S.1 0 2 0)) 0 cy) (nn (S.1 0 2 0)) 8) 0 2 0 (S.1 0 2 0 + 1)).1 7 i 0 = S.1 7 i 0 := fun i hi => (livN_c (S := (s1 (s1 (s1 (s1 (s1 S 6 (nn (S.1 0 2 0)) 0 ca) 7 (nn (S.1 0 2 0)) 0 pa) 8 (nn (S.1 0 2 0)) 0 sp) 9 (nn (S.1 0 2 0)) 0 fo) 10 (nn (S.1 0 2 0)) 0 cy)) (mo := nn (S.1 0 2 0)) (c := 7) (i := i) (j := 0) (by decide) 8).trans (show (s1 S 7 (nn (S.1 0 2 0)) 0 pa).1 7 i 0 = S.1 7 i 0 from s1_ne (fun z => hi z.2.1))
  have f7 : (s1 (livN (s1 (s1 (s1 (s1 (s1 S 6 (nn (S.1 0 2 0)) 0 ca) 7 (nn (S.1 0 2 0)) 0 pa) 8 (nn (S.1 0 2 0)) 0 sp) 9 (nn (S.1 0 2 0)) 0 fo) 10 (nn (S.1 0 2 0)) 0 cy) (nn (S.1 0 2 0)) 8) 0 2 0 (S.1 0 2 0 + 1)).1 7 (nn (S.1 0 2 0)) 0 = pa := (livN_c (S := (s1 (s1 (s1 (s1 (s1 S 6 (nn (S.1 0 2 0)) 0 ca) 7 (nn (S.1 0 2 0)) 0 pa) 8 (nn (S.1 0 2 0)) 0 sp) 9 (nn (S.1 0 2 0)) 0 fo) 10 (nn (S.1 0 2 0)) 0 cy)) (mo := nn (S.1 0 2 0)) (c := 7) (i := (nn (S.1 0 2 0))) (j := 0) (by decide) 8).trans (show (s1 S 7 (nn (S.1 0 2 0)) 0 pa).1 7 (nn (S.1 0 2 0)) 0 = pa from s1_eq)
  have e8 : ∀ i, i ≠ (nn (S.1 0 2 0)) → (s1 (livN (s1 (s1 (s1 (s1 (s1 S 6 (nn (S.1 0 2 0)) 0 ca) 7 (nn (S.1 0 2 0)) 0 pa) 8 (nn (S.1 0 2 0)) 0 sp) 9 (nn (S.1 0 2 0)) 0 fo) 10 (nn (S.1 0 2 0)) 0 cy) (nn (S.1 0 2 0)) 8) 0 2 0 (S.1 0 2 0 + 1)).1 8 i 0 = S.1 8 i 0 := fun i hi => (livN_c (S := (s1 (s1 (s1 (s1 (s1 S 6 (nn (S.1 0 2 0)) 0 ca) 7 (nn (S.1 0 2 0)) 0 pa) 8 (nn (S.1 0 2 0)) 0 sp) 9 (nn (S.1 0 2 0)) 0 fo) 10 (nn (S.1 0 2 0)) 0 cy)) (mo := nn (S.1 0 2 0)) (c := 8) (i := i) (j := 0) (by decide) 8).trans (show (s1 S 8 (nn (S.1 0 2 0)) 0 sp).1 8 i 0 = S.1 8 i 0 from s1_ne (fun z => hi z.2.1))
  have f8 : (s1 (livN (s1 (s1 (s1 (s1 (s1 S 6 (nn (S.1 0 2 0)) 0 ca) 7 (nn (S.1 0 2 0)) 0 pa) 8 (nn (S.1 0 2 0)) 0 sp) 9 (nn (S.1 0 2 0)) 0 fo) 10 (nn (S.1 0 2 0)) 0 cy) (nn (S.1 0 2 0)) 8) 0 2 0 (S.1 0 2 0 + 1)).1 8 (nn (S.1 0 2 0)) 0 = sp := (livN_c (S := (s1 (s1 (s1 (s1 (s1 S 6 (nn (S.1 0 2 0)) 0 ca) 7 (nn (S.1 0 2 0)) 0 pa) 8 (nn (S.1 0 2 0)) 0 sp) 9 (nn (S.1 0 2 0)) 0 fo) 10 (nn (S.1 0 2 0)) 0 cy)) (mo := nn (S.1 0 2 0)) (c := 8) (i := (nn (S.1 0 2 0))) (j := 0) (by decide) 8).trans (show (s1 S 8 (nn (S.1 0 2 0)) 0 sp).1 8 (nn (S.1 0 2 0)) 0 = sp from s1_eq)
  have e9 : ∀ i, i ≠ (nn (S.1 0 2 0)) → (s1 (livN (s1 (s1 (s1 (s1 (s1 S 6 (nn (S.1 0 2 0)) 0 ca) 7 (nn (S.1 0 2 0)) 0 pa) 8 (nn (S.1 0 2 0)) 0 sp) 9 (nn (S.1 0 2 0)) 0 fo) 10 (nn (S.1 0 2 0)) 0 cy) (nn (S.1 0 2 0)) 8) 0 2 0 (S.1 0 2 0 + 1)).1 9 i 0 = S.1 9 i 0 := fun i hi => (livN_c (S := (s1 (s1 (s1 (s1 (s1 S 6 (nn (S.1 0 2 0)) 0 ca) 7 (nn (S.1 0 2 0)) 0 pa) 8 (nn (S.1 0 2 0)) 0 sp) 9 (nn (S.1 0 2 0)) 0 fo) 10 (nn (S.1 0 2 0)) 0 cy)) (mo := nn (S.1 0 2 0)) (c := 9) (i := i) (j := 0) (by decide) 8).trans (show (s1 S 9 (nn (S.1 0 2 0)) 0 fo).1 9 i 0 = S.1 9 i 0 from s1_ne (fun z => hi z.2.1))
  have f9 : (s1 (livN (s1 (s1 (s1 (s1 (s1 S 6 (nn (S.1 0 2 0)) 0 ca) 7 (nn (S.1 0 2 0)) 0 pa) 8 (nn (S.1 0 2 0)) 0 sp) 9 (nn (S.1 0 2 0)) 0 fo) 10 (nn (S.1 0 2 0)) 0 cy) (nn (S.1 0 2 0)) 8) 0 2 0 (S.1 0 2 0 + 1)).1 9 (nn (S.1 0 2 0)) 0 = fo := (livN_c (S := (s1 (s1 (s1 (s1 (s1 S 6 (nn (S.1 0 2 0)) 0 ca) 7 (nn (S.1 0 2 0)) 0 pa) 8 (nn (S.1 0 2 0)) 0 sp) 9 (nn (S.1 0 2 0)) 0 fo) 10 (nn (S.1 0 2 0)) 0 cy)) (mo := nn (S.1 0 2 0)) (c := 9) (i := (nn (S.1 0 2 0))) (j := 0) (by decide) 8).trans (show (s1 S 9 (nn (S.1 0 2 0)) 0 fo).1 9 (nn (S.1 0 2 0)) 0 = fo from s1_eq)
  have e10 : ∀ i, i ≠ (nn (S.1 0 2 0)) → (s1 (livN (s1 (s1 (s1 (s1 (s1 S 6 (nn (S.1 0 2 0)) 0 ca) 7 (nn (S.1 0 2 0)) 0 pa) 8 (nn (S.1 0 2 0)) 0 sp) 9 (nn (S.1 0 2 0)) 0 fo) 10 (nn (S.1 0 2 0)) 0 cy) (nn (S.1 0 2 0)) 8) 0 2 0 (S.1 0 2 0 + 1)).1 10 i 0 = S.1 10 i 0 := fun i hi => (livN_c (S := (s1 (s1 (s1 (s1 (s1 S 6 (nn (S.1 0 2 0)) 0 ca) 7 (nn (S.1 0 2 0)) 0 pa) 8 (nn (S.1 0 2 0)) 0 sp) 9 (nn (S.1 0 2 0)) 0 fo) 10 (nn (S.1 0 2 0)) 0 cy)) (mo := nn (S.1 0 2 0)) (c := 10) (i := i) (j := 0) (by decide) 8).trans (show (s1 S 10 (nn (S.1 0 2 0)) 0 cy).1 10 i 0 = S.1 10 i 0 from s1_ne (fun z => hi z.2.1))
  have f10 : (s1 (livN (s1 (s1 (s1 (s1 (s1 S 6 (nn (S.1 0 2 0)) 0 ca) 7 (nn (S.1 0 2 0)) 0 pa) 8 (nn (S.1 0 2 0)) 0 sp) 9 (nn (S.1 0 2 0)) 0 fo) 10 (nn (S.1 0 2 0)) 0 cy) (nn (S.1 0 2 0)) 8) 0 2 0 (S.1 0 2 0 + 1)).1 10 (nn (S.1 0 2 0)) 0 = cy := (livN_c (S := (s1 (s1 (s1 (s1 (s1 S 6 (nn (S.1 0 2 0)) 0 ca) 7 (nn (S.1 0 2 0)) 0 pa) 8 (nn (S.1 0 2 0)) 0 sp) 9 (nn (S.1 0 2 0)) 0 fo) 10 (nn (S.1 0 2 0)) 0 cy)) (mo := nn (S.1 0 2 0)) (c := 10) (i := (nn (S.1 0 2 0))) (j := 0) (by decide) 8).trans (show (s1 S 10 (nn (S.1 0 2 0)) 0 cy).1 10 (nn (S.1 0 2 0)) 0 = cy from s1_eq)
  have gg : ∀ c, c ≠ 0 → c ≠ 6 → c ≠ 7 → c ≠ 8 → c ≠ 9 → c ≠ 10 → c ≠ 12 → ∀ i j, (s1 (livN (s1 (s1 (s1 (s1 (s1 S 6 (nn (S.1 0 2 0)) 0 ca) 7 (nn (S.1 0 2 0)) 0 pa) 8 (nn (S.1 0 2 0)) 0 sp) 9 (nn (S.1 0 2 0)) 0 fo) 10 (nn (S.1 0 2 0)) 0 cy) (nn (S.1 0 2 0)) 8) 0 2 0 (S.1 0 2 0 + 1)).1 c i j = S.1 c i j := fun c h0 h6 h7 h8 h9 h10 h12 i j => (s1_c h0).trans ((livN_c (mo := nn (S.1 0 2 0)) h12 8).trans ((s1_c h10).trans ((s1_c h9).trans ((s1_c h8).trans ((s1_c h7).trans (s1_c h6))))))
  have g0 : ∀ i, i ≠ 2 → (s1 (livN (s1 (s1 (s1 (s1 (s1 S 6 (nn (S.1 0 2 0)) 0 ca) 7 (nn (S.1 0 2 0)) 0 pa) 8 (nn (S.1 0 2 0)) 0 sp) 9 (nn (S.1 0 2 0)) 0 fo) 10 (nn (S.1 0 2 0)) 0 cy) (nn (S.1 0 2 0)) 8) 0 2 0 (S.1 0 2 0 + 1)).1 0 i 0 = S.1 0 i 0 := fun i hi => (s1_ne (fun z => hi z.2.1)).trans ((livN_c (S := (s1 (s1 (s1 (s1 (s1 S 6 (nn (S.1 0 2 0)) 0 ca) 7 (nn (S.1 0 2 0)) 0 pa) 8 (nn (S.1 0 2 0)) 0 sp) 9 (nn (S.1 0 2 0)) 0 fo) 10 (nn (S.1 0 2 0)) 0 cy)) (mo := nn (S.1 0 2 0)) (c := 0) (i := i) (j := 0) (by decide) 8).trans ((s1_c (by decide)).trans ((s1_c (by decide)).trans ((s1_c (by decide)).trans ((s1_c (by decide)).trans (s1_c (by decide)))))))
  have e12 : ∀ i j, i ≠ (nn (S.1 0 2 0)) → (s1 (livN (s1 (s1 (s1 (s1 (s1 S 6 (nn (S.1 0 2 0)) 0 ca) 7 (nn (S.1 0 2 0)) 0 pa) 8 (nn (S.1 0 2 0)) 0 sp) 9 (nn (S.1 0 2 0)) 0 fo) 10 (nn (S.1 0 2 0)) 0 cy) (nn (S.1 0 2 0)) 8) 0 2 0 (S.1 0 2 0 + 1)).1 12 i j = S.1 12 i j := fun i j hi => (livN_at (S := (s1 (s1 (s1 (s1 (s1 S 6 (nn (S.1 0 2 0)) 0 ca) 7 (nn (S.1 0 2 0)) 0 pa) 8 (nn (S.1 0 2 0)) 0 sp) 9 (nn (S.1 0 2 0)) 0 fo) 10 (nn (S.1 0 2 0)) 0 cy)) (mo := nn (S.1 0 2 0)) 8).trans (if_neg (fun z => hi z.1))
  have f12 : ∀ j, j < 8 → (s1 (livN (s1 (s1 (s1 (s1 (s1 S 6 (nn (S.1 0 2 0)) 0 ca) 7 (nn (S.1 0 2 0)) 0 pa) 8 (nn (S.1 0 2 0)) 0 sp) 9 (nn (S.1 0 2 0)) 0 fo) 10 (nn (S.1 0 2 0)) 0 cy) (nn (S.1 0 2 0)) 8) 0 2 0 (S.1 0 2 0 + 1)).1 12 (nn (S.1 0 2 0)) j = 9999 := fun j hj => (livN_at (S := (s1 (s1 (s1 (s1 (s1 S 6 (nn (S.1 0 2 0)) 0 ca) 7 (nn (S.1 0 2 0)) 0 pa) 8 (nn (S.1 0 2 0)) 0 sp) 9 (nn (S.1 0 2 0)) 0 fo) 10 (nn (S.1 0 2 0)) 0 cy)) (mo := nn (S.1 0 2 0)) 8).trans (if_pos ⟨rfl, hj⟩)
  have gl2 : (s1 (livN (s1 (s1 (s1 (s1 (s1 S 6 (nn (S.1 0 2 0)) 0 ca) 7 (nn (S.1 0 2 0)) 0 pa) 8 (nn (S.1 0 2 0)) 0 sp) 9 (nn (S.1 0 2 0)) 0 fo) 10 (nn (S.1 0 2 0)) 0 cy) (nn (S.1 0 2 0)) 8) 0 2 0 (S.1 0 2 0 + 1)).2 = S.2 := livN_2 (S := (s1 (s1 (s1 (s1 (s1 S 6 (nn (S.1 0 2 0)) 0 ca) 7 (nn (S.1 0 2 0)) 0 pa) 8 (nn (S.1 0 2 0)) 0 sp) 9 (nn (S.1 0 2 0)) 0 fo) 10 (nn (S.1 0 2 0)) 0 cy)) (mo := nn (S.1 0 2 0)) 8
  have hA : ∀ t i j, ¬ (i = (nn (S.1 0 2 0)) ∧ (t = 12 ∨ t = 13 ∨ t = 14)) → (adMo ad (nn (S.1 0 2 0)) a q c) t i j = ad t i j := fun t i j z => adMo_ne z
  have hm : ∀ y0, mnt (s1 (livN (s1 (s1 (s1 (s1 (s1 S 6 (nn (S.1 0 2 0)) 0 ca) 7 (nn (S.1 0 2 0)) 0 pa) 8 (nn (S.1 0 2 0)) 0 sp) 9 (nn (S.1 0 2 0)) 0 fo) 10 (nn (S.1 0 2 0)) 0 cy) (nn (S.1 0 2 0)) 8) 0 2 0 (S.1 0 2 0 + 1)) y0 = mnt S y0 := fun y0 => mnt_of (g0 3 (by decide)) (fun k => gg 15 (by decide) (by decide) (by decide) (by decide) (by decide) (by decide) (by decide) k 0)
  refine K0.grow (fun t i j => i = (nn (S.1 0 2 0)) ∧ (((t = 12 ∨ t = 13) ∧ j = 0) ∨ (t = 14 ∧ j < nn ca))) (fun t i j hv => ?_) (fun t i j hw => ?_) (fun t i j t' i' j' hw hw' e => ?_)
  · by_cases hnew : i = (nn (S.1 0 2 0)) ∧ (t = 12 ∨ t = 13 ∨ t = 14)
    · refine Or.inl ⟨hnew.1, ?_⟩
      rcases hnew.2 with rfl | rfl | rfl
      · exact Or.inl ⟨Or.inl rfl, hv.2⟩
      · exact Or.inl ⟨Or.inr rfl, hv.2⟩
      · have h2 := hv.2
        rw [hnew.1, f6] at h2
        exact Or.inr ⟨rfl, h2⟩
    · have hl : live S t i j := by
        by_cases ht : t = 12 ∨ t = 13 ∨ t = 14
        · have z : ¬ i = (nn (S.1 0 2 0)) := fun z => hnew ⟨z, ht⟩
          rcases ht with rfl | rfl | rfl
          · have hv2 : i < nn (S.1 0 2 0 + 1) ∧ j = 0 := hv
            exact ⟨by omega, hv2.2⟩
          · have hv2 : i < nn (S.1 0 2 0 + 1) ∧ j = 0 := hv
            exact ⟨by omega, hv2.2⟩
          · have hv2 : i < nn (S.1 0 2 0 + 1) := hv.1
            have hv3 := hv.2
            rw [e6 i z] at hv3
            exact ⟨by omega, hv3⟩
        · unfold live at hv ⊢
          split at hv <;> first | exact hv | contradiction | (exact absurd (Or.inl rfl) ht) | (exact absurd (Or.inr (Or.inl rfl)) ht) | (exact absurd (Or.inr (Or.inr rfl)) ht) | (rw [g0 0 (by decide)] at hv; exact hv) | (rw [g0 1 (by decide)] at hv; exact hv) | (rw [g0 3 (by decide)] at hv; exact hv) | (rw [g0 4 (by decide)] at hv; exact hv)
      refine Or.inr ⟨hl, hA _ _ _ hnew, ?_⟩
      by_cases h0 : t = 0
      · subst h0
        obtain ⟨rfl, rfl⟩ := (hl : i = 0 ∧ j = 0)
        rw [n0]
        unfold ccl
        simp only [hA 1 0 0 (by omega), hA 2 0 0 (by omega), hA 3 0 0 (by omega), hA 4 0 0 (by omega), hA 5 0 0 (by omega), g0 0 (by decide), g0 3 (by decide), g0 4 (by decide), g0 5 (by decide), g0 6 (by decide), g0 7 (by decide), gl2]
        rfl
      · by_cases h1' : t = 2
        · subst h1'
          obtain ⟨rfl, rfl⟩ := (hl : i = 0 ∧ j = 0)
          rw [n1]
          show _ = (some (.inl (.object "MouldDesk$Mould", (5, .inr (.inr (.inr (.inr (rfs (nn (S.1 0 2 0 + 1)) (fun i => (adMo ad (nn (S.1 0 2 0)) a q c) 12 i 0)))))))) : Option AE)
          rw [up, rfs_up, show (fun i => adN ad 12 (nn (S.1 0 2 0)) a 12 i 0) = (fun i => (adMo ad (nn (S.1 0 2 0)) a q c) 12 i 0) from by funext i; by_cases z : i = (nn (S.1 0 2 0)); (· rw [z, adMo_12, adN_eq]); (· rw [hA _ _ _ (fun y => z y.1), adN_ne (fun y => z y.2)])]
        · have hu : h1 (ad t i j) = h (ad t i j) := u _ (fun z => by rw [← z, K0.1 _ _ _ hl] at fa; cases fa) (fun z => by rw [← z, K0.1 _ _ _ hl] at fq; cases fq) (fun k hk z => by have w := (fc k hk).1; rw [← z, K0.1 _ _ _ hl] at w; cases w) (fun z => h1' (K0.2 _ _ _ _ _ _ hl (show live S 2 0 0 from ⟨rfl, rfl⟩) z).1) (fun z => h0 (K0.2 _ _ _ _ _ _ hl (show live S 0 0 0 from ⟨rfl, rfl⟩) z).1)
          rw [hu, K0.1 _ _ _ hl]
          have hA2 : ∀ t, ¬ (t = 12 ∨ t = 13 ∨ t = 14) → ∀ i j, (adMo ad (nn (S.1 0 2 0)) a q c) t i j = ad t i j := fun t ht i j => hA t i j (fun z => ht z.2)
          by_cases h12 : t = 12
          · subst h12
            have hi : i ≠ (nn (S.1 0 2 0)) := fun z => hnew ⟨z, Or.inl rfl⟩
            unfold ccl
            simp only [e7 i hi, e8 i hi, e9 i hi, e10 i hi, hm, hA 13 i 0 (fun z => hi z.1)]
          · by_cases h13 : t = 13
            · subst h13
              have hi : i ≠ (nn (S.1 0 2 0)) := fun z => hnew ⟨z, Or.inr (Or.inl rfl)⟩
              unfold ccl
              simp only [e6 i hi, show (fun j => (adMo ad (nn (S.1 0 2 0)) a q c) 14 i j) = (fun j => ad 14 i j) from by funext j; exact hA 14 i j (fun z => hi z.1)]
            · by_cases h14 : t = 14
              · subst h14
                have hi : i ≠ (nn (S.1 0 2 0)) := fun z => hnew ⟨z, Or.inr (Or.inr rfl)⟩
                unfold ccl
                simp only [e12 i j hi, gg 11 (by decide) (by decide) (by decide) (by decide) (by decide) (by decide) (by decide), gg 13 (by decide) (by decide) (by decide) (by decide) (by decide) (by decide) (by decide)]
              · by_cases h15 : t = 15
                · subst h15
                  have e9' : mref (S.1 15 i 0) (fun x => (adMo ad (nn (S.1 0 2 0)) a q c) 12 x 0) = mref (S.1 15 i 0) (fun x => ad 12 x 0) := by
                    unfold mref
                    by_cases z : S.1 15 i 0 = -1
                    · rw [if_pos z, if_pos z]
                    · rw [if_neg z, if_neg z]
                      exact congrArg Value.ref (hA _ _ _ (fun y => by have y2 := ((I.mac.1 i hl.1).1.resolve_left z).2; have y3 := y.1; omega))
                  unfold ccl
                  simp only [gg 14 (by decide) (by decide) (by decide) (by decide) (by decide) (by decide) (by decide), gg 15 (by decide) (by decide) (by decide) (by decide) (by decide) (by decide) (by decide), gg 16 (by decide) (by decide) (by decide) (by decide) (by decide) (by decide) (by decide), e9', hA2 16 (by decide)]
                · by_cases h16 : t = 16
                  · subst h16
                    have z17 : nn (S.1 17 i 0) < (nn (S.1 0 2 0)) := (I.ord.1 i hl.1).1.2
                    unfold ccl
                    simp only [gg 1 (by decide) (by decide) (by decide) (by decide) (by decide) (by decide) (by decide), gg 2 (by decide) (by decide) (by decide) (by decide) (by decide) (by decide) (by decide), gg 3 (by decide) (by decide) (by decide) (by decide) (by decide) (by decide) (by decide), gg 4 (by decide) (by decide) (by decide) (by decide) (by decide) (by decide) (by decide), gg 5 (by decide) (by decide) (by decide) (by decide) (by decide) (by decide) (by decide), gg 11 (by decide) (by decide) (by decide) (by decide) (by decide) (by decide) (by decide), gg 13 (by decide) (by decide) (by decide) (by decide) (by decide) (by decide) (by decide), gg 14 (by decide) (by decide) (by decide) (by decide) (by decide) (by decide) (by decide), gg 15 (by decide) (by decide) (by decide) (by decide) (by decide) (by decide) (by decide), gg 16 (by decide) (by decide) (by decide) (by decide) (by decide) (by decide) (by decide), gg 17 (by decide) (by decide) (by decide) (by decide) (by decide) (by decide) (by decide), gg 18 (by decide) (by decide) (by decide) (by decide) (by decide) (by decide) (by decide), gg 19 (by decide) (by decide) (by decide) (by decide) (by decide) (by decide) (by decide), gg 20 (by decide) (by decide) (by decide) (by decide) (by decide) (by decide) (by decide), gg 21 (by decide) (by decide) (by decide) (by decide) (by decide) (by decide) (by decide), gg 22 (by decide) (by decide) (by decide) (by decide) (by decide) (by decide) (by decide), gl2, hA 12 (nn (S.1 17 i 0)) 0 (fun y => by have y3 := y.1; omega), hA2 10 (by decide), hA2 17 (by decide)]
                  · unfold live at hl
                    unfold ccl
                    split <;> first | rfl | contradiction | simp only [gg 1 (by decide) (by decide) (by decide) (by decide) (by decide) (by decide) (by decide), gg 2 (by decide) (by decide) (by decide) (by decide) (by decide) (by decide) (by decide), gg 3 (by decide) (by decide) (by decide) (by decide) (by decide) (by decide) (by decide), gg 4 (by decide) (by decide) (by decide) (by decide) (by decide) (by decide) (by decide), gg 5 (by decide) (by decide) (by decide) (by decide) (by decide) (by decide) (by decide), gg 11 (by decide) (by decide) (by decide) (by decide) (by decide) (by decide) (by decide), gg 13 (by decide) (by decide) (by decide) (by decide) (by decide) (by decide) (by decide), gg 14 (by decide) (by decide) (by decide) (by decide) (by decide) (by decide) (by decide), gg 15 (by decide) (by decide) (by decide) (by decide) (by decide) (by decide) (by decide), gg 16 (by decide) (by decide) (by decide) (by decide) (by decide) (by decide) (by decide), gg 17 (by decide) (by decide) (by decide) (by decide) (by decide) (by decide) (by decide), gg 18 (by decide) (by decide) (by decide) (by decide) (by decide) (by decide) (by decide), gg 19 (by decide) (by decide) (by decide) (by decide) (by decide) (by decide) (by decide), gg 20 (by decide) (by decide) (by decide) (by decide) (by decide) (by decide) (by decide), gg 21 (by decide) (by decide) (by decide) (by decide) (by decide) (by decide) (by decide), gg 22 (by decide) (by decide) (by decide) (by decide) (by decide) (by decide) (by decide), g0 0 (by decide), g0 1 (by decide), g0 3 (by decide), g0 4 (by decide), hA2 10 (by decide), hA2 15 (by decide), hA2 16 (by decide), hA2 6 (by decide), hA2 11 (by decide)]
  · obtain ⟨rfl, hw⟩ := hw
    rcases hw with ⟨rfl | rfl, rfl⟩ | ⟨rfl, hj⟩
    · rw [adMo_12]
      refine ⟨fa, na.trans ?_⟩
      have hno : mnt S (nI (nn (S.1 0 2 0))) = false := eq_false_of_ne_true (fun z => by
        obtain ⟨k, hk, e⟩ := mnt_iff.mp z
        have en : nn (nI (nn (S.1 0 2 0))) = (nn (S.1 0 2 0)) := nI_clamp (nn_lt _)
        rcases (I.mac.1 k hk).1 with w | w
        · exact nI_m1 (x := nI (nn (S.1 0 2 0))) (by rw [en]) (e.symm.trans w)
        · have w2 := w.2
          rw [e, en] at w2
          omega)
      show _ = (some (.inr (4, [.int (nI (nn (S.1 0 2 0))), .ref ((adMo ad (nn (S.1 0 2 0)) a q c) 13 (nn (S.1 0 2 0)) 0), .int ((s1 (livN (s1 (s1 (s1 (s1 (s1 S 6 (nn (S.1 0 2 0)) 0 ca) 7 (nn (S.1 0 2 0)) 0 pa) 8 (nn (S.1 0 2 0)) 0 sp) 9 (nn (S.1 0 2 0)) 0 fo) 10 (nn (S.1 0 2 0)) 0 cy) (nn (S.1 0 2 0)) 8) 0 2 0 (S.1 0 2 0 + 1)).1 7 (nn (S.1 0 2 0)) 0), .int ((s1 (livN (s1 (s1 (s1 (s1 (s1 S 6 (nn (S.1 0 2 0)) 0 ca) 7 (nn (S.1 0 2 0)) 0 pa) 8 (nn (S.1 0 2 0)) 0 sp) 9 (nn (S.1 0 2 0)) 0 fo) 10 (nn (S.1 0 2 0)) 0 cy) (nn (S.1 0 2 0)) 8) 0 2 0 (S.1 0 2 0 + 1)).1 8 (nn (S.1 0 2 0)) 0), .int ((s1 (livN (s1 (s1 (s1 (s1 (s1 S 6 (nn (S.1 0 2 0)) 0 ca) 7 (nn (S.1 0 2 0)) 0 pa) 8 (nn (S.1 0 2 0)) 0 sp) 9 (nn (S.1 0 2 0)) 0 fo) 10 (nn (S.1 0 2 0)) 0 cy) (nn (S.1 0 2 0)) 8) 0 2 0 (S.1 0 2 0 + 1)).1 9 (nn (S.1 0 2 0)) 0), .int ((s1 (livN (s1 (s1 (s1 (s1 (s1 S 6 (nn (S.1 0 2 0)) 0 ca) 7 (nn (S.1 0 2 0)) 0 pa) 8 (nn (S.1 0 2 0)) 0 sp) 9 (nn (S.1 0 2 0)) 0 fo) 10 (nn (S.1 0 2 0)) 0 cy) (nn (S.1 0 2 0)) 8) 0 2 0 (S.1 0 2 0 + 1)).1 10 (nn (S.1 0 2 0)) 0), .int (b2i (mnt (s1 (livN (s1 (s1 (s1 (s1 (s1 S 6 (nn (S.1 0 2 0)) 0 ca) 7 (nn (S.1 0 2 0)) 0 pa) 8 (nn (S.1 0 2 0)) 0 sp) 9 (nn (S.1 0 2 0)) 0 fo) 10 (nn (S.1 0 2 0)) 0 cy) (nn (S.1 0 2 0)) 8) 0 2 0 (S.1 0 2 0 + 1)) (nI (nn (S.1 0 2 0)))))])) : Option AE)
      rw [f7, f8, f9, f10, hm, hno, adMo_13, ← C.2.2.1.1]
      rfl
    · rw [adMo_13]
      refine ⟨fq, nq.trans ?_⟩
      show _ = (some (.inl (.object "MouldDesk$Cavity", (nn ((s1 (livN (s1 (s1 (s1 (s1 (s1 S 6 (nn (S.1 0 2 0)) 0 ca) 7 (nn (S.1 0 2 0)) 0 pa) 8 (nn (S.1 0 2 0)) 0 sp) 9 (nn (S.1 0 2 0)) 0 fo) 10 (nn (S.1 0 2 0)) 0 cy) (nn (S.1 0 2 0)) 8) 0 2 0 (S.1 0 2 0 + 1)).1 6 (nn (S.1 0 2 0)) 0), .inr (.inr (.inr (.inr (rfs (nn ((s1 (livN (s1 (s1 (s1 (s1 (s1 S 6 (nn (S.1 0 2 0)) 0 ca) 7 (nn (S.1 0 2 0)) 0 pa) 8 (nn (S.1 0 2 0)) 0 sp) 9 (nn (S.1 0 2 0)) 0 fo) 10 (nn (S.1 0 2 0)) 0 cy) (nn (S.1 0 2 0)) 8) 0 2 0 (S.1 0 2 0 + 1)).1 6 (nn (S.1 0 2 0)) 0)) (fun j => (adMo ad (nn (S.1 0 2 0)) a q c) 14 (nn (S.1 0 2 0)) j)))))))) : Option AE)
      rw [f6, show (fun j => (adMo ad (nn (S.1 0 2 0)) a q c) 14 (nn (S.1 0 2 0)) j) = c from by funext j; exact adMo_14]
    · rw [adMo_14]
      refine ⟨(fc j hj).1, (fc j hj).2.2.2.trans ?_⟩
      have h8 := hca.2.2
      have z := I.blk.2 (nn (S.1 0 2 0)) j (Nat.le_refl _)
      show _ = (some (.inr (0, [.int ((s1 (livN (s1 (s1 (s1 (s1 (s1 S 6 (nn (S.1 0 2 0)) 0 ca) 7 (nn (S.1 0 2 0)) 0 pa) 8 (nn (S.1 0 2 0)) 0 sp) 9 (nn (S.1 0 2 0)) 0 fo) 10 (nn (S.1 0 2 0)) 0 cy) (nn (S.1 0 2 0)) 8) 0 2 0 (S.1 0 2 0 + 1)).1 11 (nn (S.1 0 2 0)) j), .int ((s1 (livN (s1 (s1 (s1 (s1 (s1 S 6 (nn (S.1 0 2 0)) 0 ca) 7 (nn (S.1 0 2 0)) 0 pa) 8 (nn (S.1 0 2 0)) 0 sp) 9 (nn (S.1 0 2 0)) 0 fo) 10 (nn (S.1 0 2 0)) 0 cy) (nn (S.1 0 2 0)) 8) 0 2 0 (S.1 0 2 0 + 1)).1 13 (nn (S.1 0 2 0)) j), .int ((s1 (livN (s1 (s1 (s1 (s1 (s1 S 6 (nn (S.1 0 2 0)) 0 ca) 7 (nn (S.1 0 2 0)) 0 pa) 8 (nn (S.1 0 2 0)) 0 sp) 9 (nn (S.1 0 2 0)) 0 fo) 10 (nn (S.1 0 2 0)) 0 cy) (nn (S.1 0 2 0)) 8) 0 2 0 (S.1 0 2 0 + 1)).1 12 (nn (S.1 0 2 0)) j)])) : Option AE)
      rw [gg 11 (by decide) (by decide) (by decide) (by decide) (by decide) (by decide) (by decide), gg 13 (by decide) (by decide) (by decide) (by decide) (by decide) (by decide) (by decide), f12 j (by omega), z.1, z.2]
  · obtain ⟨rfl, hw⟩ := hw
    obtain ⟨rfl, hw'⟩ := hw'
    rcases hw with ⟨rfl | rfl, rfl⟩ | ⟨rfl, hj⟩ <;> rcases hw' with ⟨rfl | rfl, rfl⟩ | ⟨rfl, hj'⟩
    · exact ⟨rfl, rfl, rfl⟩
    · rw [adMo_12, adMo_13] at e; exact absurd e.symm hqa
    · rw [adMo_12, adMo_14] at e; exact absurd e.symm (fc _ hj').2.1
    · rw [adMo_12, adMo_13] at e; exact absurd e hqa
    · exact ⟨rfl, rfl, rfl⟩
    · rw [adMo_13, adMo_14] at e; exact absurd e.symm (fc _ hj').2.2.1
    · rw [adMo_12, adMo_14] at e; exact absurd e (fc _ hj).2.1
    · rw [adMo_13, adMo_14] at e; exact absurd e (fc _ hj).2.2.1
    · rw [adMo_14, adMo_14] at e; exact ⟨rfl, rfl, ci _ _ hj hj' e⟩
