/-! what each call that changes leaves of the property, and what it answers -/
theorem nlt {x : Int32} (h : x = nI (nn x)) : ¬ x < -1000 := by
  rw [i32_lt, ntoI h, i32_m1000]
  omega
theorem PI.of0 {S T : St} {sh pt : Nat → Int32} (P : PI S sh pt) (h04 : T.1 0 4 0 = S.1 0 4 0) (h06 : T.1 0 6 0 = S.1 0 6 0) (h07 : T.1 0 7 0 = S.1 0 7 0) (h13 : ∀ i j, T.1 13 i j = S.1 13 i j ∨ T.1 13 i j = 0) (h19 : ∀ k, T.1 19 k 0 = S.1 19 k 0) (h20 : ∀ k, T.1 20 k 0 = S.1 20 k 0) (h21 : ∀ k, T.1 21 k 0 = S.1 21 k 0) (h22 : ∀ k, T.1 22 k 0 = S.1 22 k 0) (h2 : T.2 = S.2) : PI T sh pt := by
  have Q := P.of (T := (fun c i j => if c = 13 then S.1 13 i j else T.1 c i j, T.2)) h04 h06 h07 (fun _ _ => rfl) h19 h20 h21 h22 h2
  refine ⟨Q.1, Q.2.1, Q.2.2.1, Q.2.2.2.1, Q.2.2.2.2.1, fun i j => ?_⟩
  rcases h13 i j with h | h
  · rw [h, h06]; exact P.2.2.2.2.2 i j
  · rw [h, nn_0]; exact ⟨rfl, Nat.zero_le _⟩
theorem PI.th {S : St} {sh pt : Nat → Int32} {t : Int32} (P : PI S sh pt) : PI (th S t) sh pt := P.of rfl rfl rfl (fun _ _ => rfl) (fun _ => rfl) (fun _ => rfl) (fun _ => rfl) (fun _ => rfl) rfl
/-- the property kept, the counts of moulds and machines kept, no answer that looks like a refusal -/
def Kp (S : St) (r : St × Int32) (sh pt : Nat → Int32) : Prop := PI r.1 sh pt ∧ r.1.1 0 2 0 = S.1 0 2 0 ∧ r.1.1 0 3 0 = S.1 0 3 0 ∧ r.2 = nI (nn r.2)
section MV
variable {S : St} {B : Nat} {sh pt : Nat → Int32}
theorem ng_addResin {x : Int32} : ¬ (p_addResin S x).1.1 0 8 0 = 0 → rc (p_addResin S x) < -1000 := by
  unfold p_addResin
  (repeat' split) <;> intro q <;> first | (rw [rc_t1]; decide) | (rw [rc_t2]; decide) | (rw [rc_3 s1_eq]; decide) | exact absurd rfl q | exact absurd (lev_0 (by decide)) q | exact absurd ((s1_ne (fun z => absurd z.2.1 (by decide))).trans (livN_c (by decide) 8)) q | exact absurd (hrN_8 _ _ _) q
theorem ng_fill {r g : Int32} : ¬ (p_fill S r g).1.1 0 8 0 = 0 → rc (p_fill S r g) < -1000 := by
  unfold p_fill
  (repeat' split) <;> intro q <;> first | (rw [rc_t1]; decide) | (rw [rc_t2]; decide) | (rw [rc_3 s1_eq]; decide) | exact absurd rfl q | exact absurd (lev_0 (by decide)) q | exact absurd ((s1_ne (fun z => absurd z.2.1 (by decide))).trans (livN_c (by decide) 8)) q | exact absurd (hrN_8 _ _ _) q
theorem ng_empty {x : Int32} : ¬ (p_empty S x).1.1 0 8 0 = 0 → rc (p_empty S x) < -1000 := by
  unfold p_empty
  (repeat' split) <;> intro q <;> first | (rw [rc_t1]; decide) | (rw [rc_t2]; decide) | (rw [rc_3 s1_eq]; decide) | exact absurd rfl q | exact absurd (lev_0 (by decide)) q | exact absurd ((s1_ne (fun z => absurd z.2.1 (by decide))).trans (livN_c (by decide) 8)) q | exact absurd (hrN_8 _ _ _) q
theorem ng_addMould {ca pa sp fo cy : Int32} : ¬ (p_addMould S ca pa sp fo cy).1.1 0 8 0 = 0 → rc (p_addMould S ca pa sp fo cy) < -1000 := by
  unfold p_addMould
  (repeat' split) <;> intro q <;> first | (rw [rc_t1]; decide) | (rw [rc_t2]; decide) | (rw [rc_3 s1_eq]; decide) | exact absurd rfl q | exact absurd (lev_0 (by decide)) q | exact absurd ((s1_ne (fun z => absurd z.2.1 (by decide))).trans (livN_c (by decide) 8)) q | exact absurd (hrN_8 _ _ _) q
theorem ng_setLife {mo ca x : Int32} : ¬ (p_setLife S mo ca x).1.1 0 8 0 = 0 → rc (p_setLife S mo ca x) < -1000 := by
  unfold p_setLife
  (repeat' split) <;> intro q <;> first | (rw [rc_t1]; decide) | (rw [rc_t2]; decide) | (rw [rc_3 s1_eq]; decide) | exact absurd rfl q | exact absurd (lev_0 (by decide)) q | exact absurd ((s1_ne (fun z => absurd z.2.1 (by decide))).trans (livN_c (by decide) 8)) q | exact absurd (hrN_8 _ _ _) q
theorem ng_block {mo ca : Int32} : ¬ (p_block S mo ca).1.1 0 8 0 = 0 → rc (p_block S mo ca) < -1000 := by
  unfold p_block
  (repeat' split) <;> intro q <;> first | (rw [rc_t1]; decide) | (rw [rc_t2]; decide) | (rw [rc_3 s1_eq]; decide) | exact absurd rfl q | exact absurd (lev_0 (by decide)) q | exact absurd ((s1_ne (fun z => absurd z.2.1 (by decide))).trans (livN_c (by decide) 8)) q | exact absurd (hrN_8 _ _ _) q
theorem ng_repair {mo ca : Int32} : ¬ (p_repair S mo ca).1.1 0 8 0 = 0 → rc (p_repair S mo ca) < -1000 := by
  unfold p_repair
  (repeat' split) <;> intro q <;> first | (rw [rc_t1]; decide) | (rw [rc_t2]; decide) | (rw [rc_3 s1_eq]; decide) | exact absurd rfl q | exact absurd (lev_0 (by decide)) q | exact absurd ((s1_ne (fun z => absurd z.2.1 (by decide))).trans (livN_c (by decide) 8)) q | exact absurd (hrN_8 _ _ _) q
theorem ng_addMachine {x : Int32} : ¬ (p_addMachine S x).1.1 0 8 0 = 0 → rc (p_addMachine S x) < -1000 := by
  unfold p_addMachine
  (repeat' split) <;> intro q <;> first | (rw [rc_t1]; decide) | (rw [rc_t2]; decide) | (rw [rc_3 s1_eq]; decide) | exact absurd rfl q | exact absurd (lev_0 (by decide)) q | exact absurd ((s1_ne (fun z => absurd z.2.1 (by decide))).trans (livN_c (by decide) 8)) q | exact absurd (hrN_8 _ _ _) q
theorem ng_mount {a mo : Int32} : ¬ (p_mount S a mo).1.1 0 8 0 = 0 → rc (p_mount S a mo) < -1000 := by
  unfold p_mount
  (repeat' split) <;> intro q <;> first | (rw [rc_t1]; decide) | (rw [rc_t2]; decide) | (rw [rc_3 s1_eq]; decide) | exact absurd rfl q | exact absurd (lev_0 (by decide)) q | exact absurd ((s1_ne (fun z => absurd z.2.1 (by decide))).trans (livN_c (by decide) 8)) q | exact absurd (hrN_8 _ _ _) q
theorem ng_run {a o : Int32} : ¬ (p_run S a o).1.1 0 8 0 = 0 → rc (p_run S a o) < -1000 := by
  unfold p_run
  (repeat' split) <;> intro q <;> first | (rw [rc_t1]; decide) | (rw [rc_t2]; decide) | (rw [rc_3 s1_eq]; decide) | exact absurd rfl q | exact absurd (lev_0 (by decide)) q | exact absurd ((s1_ne (fun z => absurd z.2.1 (by decide))).trans (livN_c (by decide) 8)) q | exact absurd (hrN_8 _ _ _) q
theorem ng_order {mo r g w : Int32} : ¬ (p_order S mo r g w).1.1 0 8 0 = 0 → rc (p_order S mo r g w) < -1000 := by
  unfold p_order
  (repeat' split) <;> intro q <;> first | (rw [rc_t1]; decide) | (rw [rc_t2]; decide) | (rw [rc_3 s1_eq]; decide) | exact absurd rfl q | exact absurd (lev_0 (by decide)) q | exact absurd ((s1_ne (fun z => absurd z.2.1 (by decide))).trans (livN_c (by decide) 8)) q | exact absurd (hrN_8 _ _ _) q
theorem ng_pass {x : Int32} : ¬ (p_pass S x).1.1 0 8 0 = 0 → rc (p_pass S x) < -1000 := by
  unfold p_pass
  (repeat' split) <;> intro q <;> first | (rw [rc_t1]; decide) | (rw [rc_t2]; decide) | (rw [rc_3 s1_eq]; decide) | exact absurd rfl q | exact absurd (lev_0 (by decide)) q | exact absurd ((s1_ne (fun z => absurd z.2.1 (by decide))).trans (livN_c (by decide) 8)) q | exact absurd (hrN_8 _ _ _) q
theorem sx_addResin (I : Inv S B) (P : PI S sh pt) {x : Int32} (hz : (p_addResin S x).1.1 0 8 0 = 0) : Kp S (p_addResin S x) sh pt := by
  revert hz
  unfold p_addResin
  split
  · intro hz; exact absurd (s1_eq.symm.trans hz) (by decide)
  · rename_i g0
    split
    · intro hz; exact absurd (s1_eq.symm.trans hz) (by decide)
    · rename_i g1
      intro _
      refine ⟨P.of rfl rfl rfl (fun _ _ => rfl) (fun _ => rfl) (fun _ => rfl) (fun _ => rfl) (fun _ => rfl) rfl, rfl, rfl, ?_⟩
      show S.1 0 0 0 + 1 - 1 = nI (nn (S.1 0 0 0 + 1 - 1))
      rw [Int32.add_sub_cancel]
      exact I.cnt.1.1
theorem sx_fill (I : Inv S B) (P : PI S sh pt) {r g : Int32} (hz : (p_fill S r g).1.1 0 8 0 = 0) : Kp S (p_fill S r g) sh pt := by
  revert hz
  unfold p_fill
  split
  · intro hz; exact absurd (s1_eq.symm.trans hz) (by decide)
  · rename_i g0
    split
    · intro hz; exact absurd (s1_eq.symm.trans hz) (by decide)
    · rename_i g1
      split
      · intro hz; exact absurd (s1_eq.symm.trans hz) (by decide)
      · rename_i g2
        intro _
        refine ⟨P.of rfl rfl rfl (fun _ _ => rfl) (fun _ => rfl) (fun _ => rfl) (fun _ => rfl) (fun _ => rfl) rfl, rfl, rfl, ?_⟩
        exact (nadd I.cnt.2.1.1 e_1 (by rw [nn_1]; have := I.cnt.2.1.2.2; omega)).1
theorem sx_empty (I : Inv S B) (P : PI S sh pt) {x : Int32} (hz : (p_empty S x).1.1 0 8 0 = 0) : Kp S (p_empty S x) sh pt := by
  revert hz
  unfold p_empty
  split
  · intro hz; exact absurd (s1_eq.symm.trans hz) (by decide)
  · rename_i g0
    intro _
    have gx := isLot_of I.cnt.2.1 (show isLot S x = true by cases hb : isLot S x with | false => exact absurd hb g0 | true => rfl)
    exact ⟨lev_PI P.th, lev_0 (by decide), lev_0 (by decide), (I.lot _ gx.2).2.1⟩
theorem sx_setLife (I : Inv S B) (P : PI S sh pt) {mo ca x : Int32} (hz : (p_setLife S mo ca x).1.1 0 8 0 = 0) : Kp S (p_setLife S mo ca x) sh pt := by
  revert hz
  unfold p_setLife
  split
  · intro hz; exact absurd (s1_eq.symm.trans hz) (by decide)
  · rename_i g0
    split
    · intro hz; exact absurd (s1_eq.symm.trans hz) (by decide)
    · rename_i g1
      intro _
      exact ⟨P.of rfl rfl rfl (fun _ _ => rfl) (fun _ => rfl) (fun _ => rfl) (fun _ => rfl) (fun _ => rfl) rfl, rfl, rfl, (P.2.2.2.2.2 _ _).1⟩
theorem opn_nI {T : St} {mo : Nat} : opn T mo = nI (nn (opn T mo)) := (openN_rg (S := T) (mo := mo) _ (nn_lt _)).1
theorem sx_block (I : Inv S B) (P : PI S sh pt) {mo ca : Int32} (hz : (p_block S mo ca).1.1 0 8 0 = 0) : Kp S (p_block S mo ca) sh pt := by
  revert hz
  unfold p_block
  split
  · intro hz; exact absurd (s1_eq.symm.trans hz) (by decide)
  · split
    · intro _
      exact ⟨P.of rfl rfl rfl (fun _ _ => rfl) (fun _ => rfl) (fun _ => rfl) (fun _ => rfl) (fun _ => rfl) rfl, rfl, rfl, opn_nI⟩
    · intro hz; exact absurd (s1_eq.symm.trans hz) (by decide)
theorem sx_repair (I : Inv S B) (P : PI S sh pt) {mo ca : Int32} (hz : (p_repair S mo ca).1.1 0 8 0 = 0) : Kp S (p_repair S mo ca) sh pt := by
  revert hz
  unfold p_repair
  split
  · intro hz; exact absurd (s1_eq.symm.trans hz) (by decide)
  · rename_i g0
    split
    · intro hz; exact absurd (s1_eq.symm.trans hz) (by decide)
    · rename_i g1
      split
      · intro hz; exact absurd (s1_eq.symm.trans hz) (by decide)
      · rename_i g2
        intro _
        refine ⟨P.of0 rfl rfl rfl (fun i j => ?_) (fun _ => rfl) (fun _ => rfl) (fun _ => rfl) (fun _ => rfl) rfl, rfl, rfl, opn_nI⟩
        by_cases e : i = nn mo ∧ j = nn ca
        · obtain ⟨rfl, rfl⟩ := e; exact Or.inr s1_eq
        · exact Or.inl (s1_ne (fun q => e q.2))
theorem sx_addMachine (I : Inv S B) (P : PI S sh pt) {x : Int32} (hz : (p_addMachine S x).1.1 0 8 0 = 0) : PI (p_addMachine S x).1 sh pt ∧ (p_addMachine S x).1.1 0 2 0 = S.1 0 2 0 ∧ (p_addMachine S x).1.1 0 3 0 = S.1 0 3 0 + 1 ∧ (p_addMachine S x).2 = nI (nn (p_addMachine S x).2) := by
  revert hz
  unfold p_addMachine
  split
  · intro hz; exact absurd (s1_eq.symm.trans hz) (by decide)
  · rename_i g0
    split
    · intro hz; exact absurd (s1_eq.symm.trans hz) (by decide)
    · rename_i g1
      intro _
      refine ⟨P.of rfl rfl rfl (fun _ _ => rfl) (fun _ => rfl) (fun _ => rfl) (fun _ => rfl) (fun _ => rfl) rfl, rfl, rfl, ?_⟩
      show S.1 0 3 0 + 1 - 1 = nI (nn (S.1 0 3 0 + 1 - 1))
      rw [Int32.add_sub_cancel]
      exact I.cnt.2.2.2.1.1
theorem sx_addMould (I : Inv S B) (P : PI S sh pt) {ca pa sp fo cy : Int32} (hz : (p_addMould S ca pa sp fo cy).1.1 0 8 0 = 0) : PI (p_addMould S ca pa sp fo cy).1 sh pt ∧ (p_addMould S ca pa sp fo cy).1.1 0 2 0 = S.1 0 2 0 + 1 ∧ (p_addMould S ca pa sp fo cy).1.1 0 3 0 = S.1 0 3 0 ∧ (p_addMould S ca pa sp fo cy).2 = nI (nn (p_addMould S ca pa sp fo cy).2) := by
  revert hz
  unfold p_addMould
  split
  · intro hz; exact absurd (s1_eq.symm.trans hz) (by decide)
  · rename_i g0
    split
    · intro hz; exact absurd (s1_eq.symm.trans hz) (by decide)
    · rename_i g1
      intro _
      refine ⟨P.of ((s1_ne (fun z => absurd z.2.1 (by decide))).trans (livN_c (by decide) 8)) ((s1_ne (fun z => absurd z.2.1 (by decide))).trans (livN_c (by decide) 8)) ((s1_ne (fun z => absurd z.2.1 (by decide))).trans (livN_c (by decide) 8)) (fun _ _ => (s1_c (by decide)).trans (livN_c (by decide) 8)) (fun _ => (s1_c (by decide)).trans (livN_c (by decide) 8)) (fun _ => (s1_c (by decide)).trans (livN_c (by decide) 8)) (fun _ => (s1_c (by decide)).trans (livN_c (by decide) 8)) (fun _ => (s1_c (by decide)).trans (livN_c (by decide) 8)) (livN_2 (mo := nn (S.1 0 2 0)) 8), s1_eq, ((s1_ne (fun z => absurd z.2.1 (by decide))).trans (livN_c (by decide) 8)), ?_⟩
      show S.1 0 2 0 + 1 - 1 = nI (nn (S.1 0 2 0 + 1 - 1))
      rw [Int32.add_sub_cancel]
      exact I.cnt.2.2.1.1
theorem sx_mount (I : Inv S B) (P : PI S sh pt) {a mo : Int32} (hz : (p_mount S a mo).1.1 0 8 0 = 0) : PI (p_mount S a mo).1 sh pt ∧ (p_mount S a mo).1.1 0 2 0 = S.1 0 2 0 ∧ (p_mount S a mo).1.1 0 3 0 = S.1 0 3 0 ∧ ((p_mount S a mo).2 = -1 ∨ (p_mount S a mo).2 = nI (nn (p_mount S a mo).2)) := by
  revert hz
  unfold p_mount
  split
  · intro hz; exact absurd (s1_eq.symm.trans hz) (by decide)
  · rename_i g0
    split
    · intro hz; exact absurd (s1_eq.symm.trans hz) (by decide)
    · rename_i g1
      split
      · intro hz; exact absurd (s1_eq.symm.trans hz) (by decide)
      · rename_i g2
        split
        · intro hz; exact absurd (s1_eq.symm.trans hz) (by decide)
        · rename_i g3
          intro _
          have ga := isMac_of I.cnt.2.2.2.1 (show isMac S a = true by cases hb : isMac S a with | false => exact absurd hb g0 | true => rfl)
          exact ⟨P.of rfl rfl rfl (fun _ _ => rfl) (fun _ => rfl) (fun _ => rfl) (fun _ => rfl) (fun _ => rfl) rfl, rfl, rfl, (I.mac.1 _ ga.2).1.imp id (fun q => q.1)⟩
theorem sx_run (I : Inv S B) (P : PI S sh pt) {a o : Int32} (hz : (p_run S a o).1.1 0 8 0 = 0) : Kp S (p_run S a o) sh pt := by
  revert hz
  unfold p_run
  split
  · intro hz; exact absurd (s1_eq.symm.trans hz) (by decide)
  · split
    · intro hz; exact absurd (s1_eq.symm.trans hz) (by decide)
    · rename_i g0 g1
      have go := isOrd_of I.cnt.2.2.2.2 (show isOrd S o = true by cases hb : isOrd S o with | false => exact absurd hb g1 | true => rfl)
      split
      · rename_i g2
        split
        · intro hz; exact absurd (s1_eq.symm.trans hz) (by decide)
        · intro _
          have m10 := (I.mou _ (I.ord.1 _ go.2).1.2).2.2.2
          rw [← g2] at m10
          exact ⟨P.of rfl rfl rfl (fun _ _ => rfl) (fun _ => rfl) (fun _ => rfl) (fun _ => rfl) (fun _ => rfl) rfl, rfl, rfl, (ndiv (x := 3600) (by decide) m10.1).1⟩
      · intro hz; exact absurd (s1_eq.symm.trans hz) (by decide)
/-- a new order's row -/
theorem sx_order (I : Inv S B) (P : PI S sh pt) {mo r g w : Int32} (h4 : nn g ≤ 400) (hz : (p_order S mo r g w).1.1 0 8 0 = 0) : PI (p_order S mo r g w).1 (fup sh (nn (S.1 0 4 0)) w) (fup pt (nn (S.1 0 4 0)) g) ∧ (p_order S mo r g w).1.1 0 2 0 = S.1 0 2 0 ∧ (p_order S mo r g w).1.1 0 3 0 = S.1 0 3 0 ∧ (p_order S mo r g w).2 = S.1 0 4 0 ∧ nn (S.1 0 4 0) < 8 ∧ (p_order S mo r g w).1.1 19 (nn (S.1 0 4 0)) 0 = g ∧ (p_order S mo r g w).1.1 21 (nn (S.1 0 4 0)) 0 = 0 ∧ nn ((p_order S mo r g w).1.1 0 4 0) = nn (S.1 0 4 0) + 1 := by
  revert hz
  unfold p_order
  split
  · intro hz; exact absurd (s1_eq.symm.trans hz) (by decide)
  · split
    · intro hz; exact absurd (s1_eq.symm.trans hz) (by decide)
    · split
      · intro hz; exact absurd (s1_eq.symm.trans hz) (by decide)
      · rename_i g2
        split
        · intro hz; exact absurd (s1_eq.symm.trans hz) (by decide)
        · rename_i g3
          split
          · intro hz; exact absurd (s1_eq.symm.trans hz) (by decide)
          · rename_i g4
            intro _
            have hg : Rg g 1 5000 := inB_rg (show inB g 1 5000 = true by cases hb : inB g 1 5000 with | false => exact absurd hb g2 | true => rfl) (by decide) (by decide)
            have hw : Rg w 0 50 := inB_rg (show inB w 0 50 = true by cases hb : inB w 0 50 with | false => exact absurd hb g3 | true => rfl) (by decide) (by decide)
            have c8 := rg_lt1 I.cnt.2.2.2.2 (by decide) g4
            obtain ⟨a1, a2⟩ := nadd I.cnt.2.2.2.2.1 e_1 (by rw [nn_1]; omega)
            rw [nn_1] at a2
            obtain ⟨z1, z2, z3⟩ := I.ord.2 (nn (S.1 0 4 0)) (Nat.le_refl _)
            have t17 : ∀ (T : St) (c n : Nat) (v : Int32) (k : Nat), ¬ k = n → (s1 T c n 0 v).1 c k 0 = T.1 c k 0 := fun T c n v k hk => s1_ne (fun q => hk q.2.1)
            refine ⟨⟨fun k hk => ?_, ?_, P.2.2.1, ?_, P.2.2.2.2.1, P.2.2.2.2.2⟩, rfl, rfl, Int32.add_sub_cancel _ _, c8, s1_eq, z1, a2⟩
            · have hk1 : k < nn (S.1 0 4 0 + 1) := hk
              rw [a2] at hk1
              by_cases e : k = nn (S.1 0 4 0)
              · subst e
                refine ⟨?_, ?_, ?_, ?_, ?_, ?_, 0, ?_, Nat.zero_le _, fun _ => rfl⟩
                · rw [fup_eq]; exact s1_eq.symm
                · rw [fup_eq]; exact ⟨hg.1, hg.2.1, h4⟩
                · show S.1 21 (nn (S.1 0 4 0)) 0 = nI (nn (S.1 21 (nn (S.1 0 4 0)) 0))
                  rw [z1]; decide
                · rw [fup_eq]
                  show nn ((s1 (s1 (th S 0) 17 (nn (S.1 0 4 0)) 0 mo) 18 (nn (S.1 0 4 0)) 0 r |> fun T => s1 T 19 (nn (S.1 0 4 0)) 0 g).1 19 (nn (S.1 0 4 0)) 0) + nn (S.1 21 (nn (S.1 0 4 0)) 0) ≤ nn g
                  rw [z1, nn_0]
                  show nn ((s1 (s1 (s1 (th S 0) 17 (nn (S.1 0 4 0)) 0 mo) 18 (nn (S.1 0 4 0)) 0 r) 19 (nn (S.1 0 4 0)) 0 g).1 19 (nn (S.1 0 4 0)) 0) + 0 ≤ nn g
                  rw [s1_eq]
                  exact Nat.le_refl _
                · show S.1 22 (nn (S.1 0 4 0)) 0 = nI (nn (S.1 22 (nn (S.1 0 4 0)) 0))
                  rw [z2]; decide
                · show nn (S.1 22 (nn (S.1 0 4 0)) 0) ≤ _
                  rw [z2, nn_0]; exact Nat.zero_le _
                · exact z3
              · have hk2 : k < nn (S.1 0 4 0) := by omega
                obtain ⟨q1, q2, q3, q4, q5, q6, gg, q7, q8, q9⟩ := P.po hk2
                have e19 : (s1 (s1 (s1 (s1 (s1 (th S 0) 17 (nn (S.1 0 4 0)) 0 mo) 18 (nn (S.1 0 4 0)) 0 r) 19 (nn (S.1 0 4 0)) 0 g) 20 (nn (S.1 0 4 0)) 0 w) 0 4 0 (S.1 0 4 0 + 1)).1 19 k 0 = S.1 19 k 0 := t17 (s1 (s1 (th S 0) 17 (nn (S.1 0 4 0)) 0 mo) 18 (nn (S.1 0 4 0)) 0 r) 19 _ g k e
                have e20 : (s1 (s1 (s1 (s1 (s1 (th S 0) 17 (nn (S.1 0 4 0)) 0 mo) 18 (nn (S.1 0 4 0)) 0 r) 19 (nn (S.1 0 4 0)) 0 g) 20 (nn (S.1 0 4 0)) 0 w) 0 4 0 (S.1 0 4 0 + 1)).1 20 k 0 = S.1 20 k 0 := t17 (s1 (s1 (s1 (th S 0) 17 (nn (S.1 0 4 0)) 0 mo) 18 (nn (S.1 0 4 0)) 0 r) 19 (nn (S.1 0 4 0)) 0 g) 20 _ w k e
                unfold PO
                rw [e19, e20, fup_ne e, fup_ne e]
                exact ⟨q1, q2, q3, q4, q5, q6, gg, q7, q8, q9⟩
            · show nn (S.1 0 6 0) = sumN (fun k => nn (S.1 21 k 0)) (nn (S.1 0 4 0 + 1))
              rw [a2, P.2.1]
              show _ = sumN (fun k => nn (S.1 21 k 0)) (nn (S.1 0 4 0)) + nn (S.1 21 (nn (S.1 0 4 0)) 0)
              rw [z1, nn_0]
              rfl
            · show nn (S.1 0 7 0) = sumN _ (nn (S.1 0 4 0 + 1))
              rw [a2, P.2.2.2.1]
              show _ = sumN _ (nn (S.1 0 4 0)) + (nn (fup pt (nn (S.1 0 4 0)) g (nn (S.1 0 4 0))) - nn ((s1 (s1 (s1 (th S 0) 17 (nn (S.1 0 4 0)) 0 mo) 18 (nn (S.1 0 4 0)) 0 r) 19 (nn (S.1 0 4 0)) 0 g).1 19 (nn (S.1 0 4 0)) 0))
              rw [fup_eq, s1_eq, Nat.sub_self, Nat.add_zero]
              refine sumN_congr _ (fun k hk => ?_)
              have e : ¬ k = nn (S.1 0 4 0) := by omega
              show nn (pt k) - nn (S.1 19 k 0) = nn (fup pt (nn (S.1 0 4 0)) g k) - nn ((s1 (s1 (s1 (th S 0) 17 (nn (S.1 0 4 0)) 0 mo) 18 (nn (S.1 0 4 0)) 0 r) 19 (nn (S.1 0 4 0)) 0 g).1 19 k 0)
              rw [fup_ne e, t17 _ 19 _ g k e]
              rfl
end MV
