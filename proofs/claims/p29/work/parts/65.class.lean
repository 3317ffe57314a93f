/-! the class: a shot -/
theorem St.ext {S T : St} (h : ∀ c i j, S.1 c i j = T.1 c i j) (h2 : S.2 = T.2) : S = T := Prod.ext (by funext c i j; exact h c i j) h2
theorem s1_comm {S : St} {c i j c' i' j' : Nat} {v w : Int32} (h : c ≠ c') : s1 (s1 S c i j v) c' i' j' w = s1 (s1 S c' i' j' w) c i j v := by
  refine St.ext (fun a b d => ?_) rfl
  show (if a = c' ∧ b = i' ∧ d = j' then w else if a = c ∧ b = i ∧ d = j then v else S.1 a b d) = (if a = c ∧ b = i ∧ d = j then v else if a = c' ∧ b = i' ∧ d = j' then w else S.1 a b d)
  by_cases q : a = c' ∧ b = i' ∧ d = j'
  · rw [if_pos q, if_neg (fun r => h (r.1.symm.trans q.1)), if_pos q]
  · rw [if_neg q, if_neg q]
theorem s1_over {S : St} {c i j : Nat} {v w : Int32} : s1 (s1 S c i j v) c i j w = s1 S c i j w := by
  refine St.ext (fun a b d => ?_) rfl
  show (if a = c ∧ b = i ∧ d = j then w else if a = c ∧ b = i ∧ d = j then v else S.1 a b d) = (if a = c ∧ b = i ∧ d = j then w else S.1 a b d)
  by_cases q : a = c ∧ b = i ∧ d = j
  · rw [if_pos q, if_pos q]
  · rw [if_neg q, if_neg q, if_neg q]
theorem tkN_s2 {S : St} {a : Nat} {v r g : Int32} : ∀ n, tkN (s1 S 2 a 0 v) r g n = (s1 (tkN S r g n).1 2 a 0 v, (tkN S r g n).2)
  | 0 => rfl
  | n + 1 => by
    show (s1 (tkN (s1 S 2 a 0 v) r g n).1 4 n 0 ((tkN (s1 S 2 a 0 v) r g n).1.1 4 n 0 - tkI (tkN (s1 S 2 a 0 v) r g n).1 r (tkN (s1 S 2 a 0 v) r g n).2 n), (tkN (s1 S 2 a 0 v) r g n).2 - tkI (tkN (s1 S 2 a 0 v) r g n).1 r (tkN (s1 S 2 a 0 v) r g n).2 n) = _
    rw [tkN_s2 n]
    show (s1 (s1 (tkN S r g n).1 2 a 0 v) 4 n 0 ((tkN S r g n).1.1 4 n 0 - tkI (tkN S r g n).1 r (tkN S r g n).2 n), (tkN S r g n).2 - tkI (tkN S r g n).1 r (tkN S r g n).2 n) = _
    rw [s1_comm (by decide)]
    rfl
theorem takes_s2 {S : St} {a : Nat} {v r g : Int32} : takes (s1 S 2 a 0 v) r g = s1 (takes S r g) 2 a 0 v := congrArg Prod.fst (tkN_s2 _)
theorem mkS_s2 {S : St} {a mo k : Nat} {v : Int32} : mkS (s1 S 2 a 0 v) mo k = s1 (mkS S mo k) 2 a 0 v := by
  unfold mkS
  by_cases q : S.1 11 mo k = 0
  · rw [if_pos (show (s1 S 2 a 0 v).1 11 mo k = 0 from q), if_pos q]
    unfold fails
    rw [s1_comm (S := S) (c := 2) (c' := 13) (by decide)]
    exact s1_comm (by decide)
  · rw [if_neg (show ¬ (s1 S 2 a 0 v).1 11 mo k = 0 from q), if_neg q]
theorem mkN_s2 {S : St} {a mo : Nat} {v : Int32} : ∀ n, mkN (s1 S 2 a 0 v) mo n = s1 (mkN S mo n) 2 a 0 v
  | 0 => rfl
  | n + 1 => by
    show mkS (mkN (s1 S 2 a 0 v) mo n) mo n = _
    rw [mkN_s2 n, mkS_s2]
    rfl
def T1 (S : St) (o : Nat) : St := mkN (takes S (S.1 18 o 0) (sGrams S o - sBack S o)) (sMo S o) (nn (S.1 6 (sMo S o) 0))
theorem T1_c {S : St} {o c i j : Nat} (h4 : c ≠ 4) (h11 : c ≠ 11) (h13 : c ≠ 13) : (T1 S o).1 c i j = S.1 c i j := (mkN_c h11 h13 _).trans (tkN_c h4 _)
def T2 (S : St) (o : Nat) : St := s1 (T1 S o) 2 (sRe S o) 0 (S.1 2 (sRe S o) 0 + (S.1 8 (sMo S o) 0 + (sMany S o - sGets S o) * S.1 7 (sMo S o) 0 - sBack S o))
theorem sS3_T1 {S : St} {o : Nat} : sS3 S o = s1 (T1 S o) 2 (sRe S o) 0 (S.1 2 (sRe S o) 0 - sBack S o) := by
  have e : sS2 S o = s1 (takes S (S.1 18 o 0) (sGrams S o - sBack S o)) 2 (sRe S o) 0 (S.1 2 (sRe S o) 0 - sBack S o) := takes_s2
  have e6 : (sS2 S o).1 6 (sMo S o) 0 = S.1 6 (sMo S o) 0 := sS2_c (by decide) (by decide)
  unfold sS3
  rw [e6, e]
  exact mkN_s2 _
theorem ring1 (a b c : Int32) : a - b + c = a + (c - b) := by
  rw [Int32.sub_eq_add_neg, Int32.sub_eq_add_neg, Int32.add_assoc, Int32.add_comm (-b) c]
theorem sS5_T2 {S : St} {o : Nat} : sS5 S o = s1 (T2 S o) 19 o 0 ((T2 S o).1 19 o 0 - sGets S o) := by
  have e1 : (sS4 S o).1 2 (sRe S o) 0 = S.1 2 (sRe S o) 0 - sBack S o := (rfl : (sS4 S o).1 2 (sRe S o) 0 = (sS3 S o).1 2 (sRe S o) 0).trans (show (sS3 S o).1 2 (sRe S o) 0 = _ by rw [sS3_T1, s1_eq])
  have e2 : (sS4 S o).1 8 (sMo S o) 0 = S.1 8 (sMo S o) 0 := (rfl : (sS4 S o).1 8 (sMo S o) 0 = (sS3 S o).1 8 (sMo S o) 0).trans (sS3_c (by decide) (by decide) (by decide) (by decide))
  have e3 : (sS4 S o).1 7 (sMo S o) 0 = S.1 7 (sMo S o) 0 := (rfl : (sS4 S o).1 7 (sMo S o) 0 = (sS3 S o).1 7 (sMo S o) 0).trans (sS3_c (by decide) (by decide) (by decide) (by decide))
  have e4 : (sS3 S o).1 19 o 0 = (T2 S o).1 19 o 0 := (sS3_c (by decide) (by decide) (by decide) (by decide)).trans (T1_c (by decide) (by decide) (by decide)).symm
  unfold sS5
  rw [e1, e2, e3, ring1]
  unfold sS4
  rw [e4, sS3_T1, s1_comm (c := 2) (c' := 19) (by decide), s1_over, s1_comm (c := 19) (c' := 2) (by decide)]
  rfl
theorem sS8_ks {S : St} {o : Nat} : sS8 S o = ks (T2 S o) o (sGets S o) (sBack S o) (sGrams S o) := by
  unfold sS8 sS7 sS6
  rw [sS5_T2, Int32.mul_comm 100 (sBack S o)]
  rfl
theorem mn_c (x y : Int32) : mn x y = mn y x := by
  unfold mn
  by_cases h : y < x
  · rw [if_pos h, if_neg (fun q => by rw [i32_lt] at h q; omega)]
  · by_cases h2 : x < y
    · rw [if_neg h, if_pos h2]
    · rw [if_neg h, if_neg h2]
      refine Int32.toInt_inj.mp ?_
      rw [i32_lt] at h h2
      omega
theorem mn_or (x y : Int32) : mn x y = x ∨ mn x y = y := by
  unfold mn
  split
  · exact Or.inr rfl
  · exact Or.inl rfl
theorem sumG_fup {g : Nat → Int32} {n : Nat} {v : Int32} : ∀ m, m ≤ n → sumG (fup g n v) m = sumG g m
  | 0, _ => rfl
  | m + 1, h => by
    show sumG (fup g n v) m + (fup g n v m).toInt64 = _
    rw [sumG_fup m (by omega), fup_ne (by omega)]
    rfl
theorem shoot_21 {S : St} {o k : Nat} : (shoot S o).1 21 k 0 = if k = o then S.1 21 o 0 + 1 else S.1 21 k 0 := by
  have e : ∀ k, (sS5 S o).1 21 k 0 = S.1 21 k 0 := fun k => (rfl : (sS5 S o).1 21 k 0 = (sS3 S o).1 21 k 0).trans (sS3_c (by decide) (by decide) (by decide) (by decide))
  have e1 : (shoot S o).1 21 k 0 = (sS6 S o).1 21 k 0 := rfl
  rw [e1]
  unfold sS6
  by_cases h : k = o
  · subst h; rw [s1_eq, if_pos rfl, e]
  · rw [s1_ne (fun q => h q.2.1), if_neg h, e]
theorem shoot_22 {S : St} {o k : Nat} : (shoot S o).2 2 k = if k = o then S.2 2 o + (sBack S o).toInt64 else S.2 2 k := by
  have e1 : (shoot S o).2 2 k = (sS7 S o).2 2 k := rfl
  have e : ∀ k, (sS6 S o).2 2 k = S.2 2 k := fun k => congrFun (congrFun sS3_2 2) k
  rw [e1]
  unfold sS7
  by_cases h : k = o
  · subst h; rw [s2_eq, if_pos rfl, e]
  · rw [show (s2 (sS6 S o) 2 o ((sS6 S o).2 2 o + (sBack S o).toInt64)).2 2 k = (sS6 S o).2 2 k from if_neg (fun q => h q.2), if_neg h, e]
theorem shoot_IG {S : St} {B o : Nat} {gl : Nat → Nat} {G : Nat → Nat → Int32} (I : Inv S B) (hI : IG S gl G) (ho : o < nn (S.1 0 4 0)) (hl : 0 < S.1 19 o 0) (hm : ¬ sMany S o = 0) : IG (shoot S o) gl (ksG (T2 S o) G o (sBack S o)) := by
  intro i hi
  rw [shoot_0 (by decide) (by decide)] at hi
  obtain ⟨h1, h2, h3, h4⟩ := hI i hi
  rw [shoot_21, shoot_22, shoot_19]
  have e21 : (T2 S o).1 21 o 0 = S.1 21 o 0 := T1_c (by decide) (by decide) (by decide)
  by_cases e : i = o
  · subst e
    rw [if_pos rfl, if_pos rfl, if_pos rfl]
    obtain ⟨n1, n2, n3, n4, n5, n6⟩ := shot_nums I ho
    obtain ⟨g1, g2, g3⟩ := gets_rg I ho
    have l1 := (I.ord.1 i ho).2.2.1
    have hl1 : 1 ≤ nn (S.1 19 i 0) := by
      rw [i32_lt, l1.toI (by decide)] at hl
      have : (0 : Int32).toInt = 0 := by decide
      omega
    have hm1 : 1 ≤ nn (sMany S i) := by
      rcases Nat.eq_zero_or_pos (nn (sMany S i)) with q | q
      · exact absurd (by rw [n1.1, q]; rfl) hm
      · exact q
    have hg1 : 1 ≤ nn (sGets S i) := by
      have e3 : (sS3 S i).1 19 i 0 = S.1 19 i 0 := sS3_c (by decide) (by decide) (by decide) (by decide)
      unfold sGets
      rw [e3]
      rcases mn_or (sMany S i) (S.1 19 i 0) with q | q
      · rw [q]; exact hm1
      · rw [q]; exact hl1
    obtain ⟨a1, a2⟩ := nadd h2 e_1 (by rw [nn_1]; omega)
    rw [nn_1] at a2
    obtain ⟨b1, b2⟩ := nsub l1.1 g1 g3
    refine ⟨h1, a1, by rw [a2, b2]; omega, ?_⟩
    rw [a2, h4]
    show _ = sumG (if i = i then fup (G i) (nn ((T2 S i).1 21 i 0)) (sBack S i) else G i) (nn (S.1 21 i 0) + 1)
    rw [if_pos rfl, e21]
    show _ = sumG (fup (G i) (nn (S.1 21 i 0)) (sBack S i)) (nn (S.1 21 i 0)) + (fup (G i) (nn (S.1 21 i 0)) (sBack S i) (nn (S.1 21 i 0))).toInt64
    rw [sumG_fup _ (Nat.le_refl _), fup_eq]
  · rw [if_neg e, if_neg e, if_neg e]
    refine ⟨h1, h2, h3, ?_⟩
    show _ = sumG (if i = o then fup (G o) (nn ((T2 S o).1 21 o 0)) (sBack S o) else G i) (nn (S.1 21 i 0))
    rw [if_neg e]
    exact h4
set_option maxHeartbeats 4000000 in
set_option maxRecDepth 100000 in
theorem k_makeShot (l : Launch) (D : va_G) (S : St) (gl : Nat → Nat) (G : Nat → Nat → Int32) (ad : Ad) (h : AH) (K0 : Cls S gl G ad h) (C : Cnt S) (B : Nat) (I : Inv S B) (hI : IG S gl G) (i : Nat) (hi : i < nn (S.1 0 4 0)) (hl0 : 0 < S.1 19 i 0) : Ctr l D yX7_makeShot cX7_makeShot 9 (some .boolean) 4 88 0 0 [.ref (ad 0 0 0), .ref (ad 16 i 0)] h (fun _ => False) (fun r9 h' => r9 = some (.int (b2i (sOK S i))) ∧ ∃ G', Cls (shS S i) gl G' ad h' ∧ IG (shS S i) gl G') := by
  refine Ctr.of RX7 rfl (by decide) (Nat.le_of_ble_eq_true rfl) ?_
  intro sz p e s m below meth c E hin hr ht
  obtain ⟨h17, h18, h19, h20⟩ := I.ord.1 i hi
  have hc := (I.mou _ h17.2).1
  obtain ⟨n1, n2, n3, n4, n5, n6⟩ := shot_nums I hi
  have hl1 : 1 ≤ nn (S.1 19 i 0) := by have q := hl0; rw [i32_lt, h19.toI (by decide), show (0 : Int32).toInt = 0 from (by decide)] at q; omega
  refine j_aload_n E dX7_makeShot_0 rfl ?_
  refine gf_X7_194 E (K0.x16 hi) rfl dX7_makeShot_1 ?_
  refine j_astore_n E dX7_makeShot_4 (by decide) ?_
  refine j_aload_n E dX7_makeShot_5 rfl ?_
  refine gf_X7_296 E (K0.x16 hi) rfl dX7_makeShot_6 ?_
  refine j_astore_n E dX7_makeShot_9 (by decide) ?_
  refine j_aload_n E dX7_makeShot_10 rfl ?_
  refine j_callV E (k_openCavities l D S gl G ad h K0 (sMo S i) h17.2 hc) (cw_X7_135 E ⟨Nat.le_of_ble_eq_true rfl, Nat.le_of_ble_eq_true rfl, Nat.le_of_ble_eq_true rfl, Nat.le_of_ble_eq_true rfl, Nat.le_of_ble_eq_true rfl⟩) (q_450 E.tb) (q_451 E.tb) (K0.x12 h17.2) rfl rfl dX7_makeShot_11 rfl (fun v11 h11 p11 => ?_)
  obtain ⟨rfl, rfl⟩ := p11
  refine j_istore E dX7_makeShot_14 (by decide) ?_
  refine j_iload E dX7_makeShot_16 rfl ?_
  refine j_iconst (v := 1) E dX7_makeShot_18 ci_1 ?_
  refine j_icmp_ge (tgt := 24) E dX7_makeShot_19 (by decide) (fun c_19 => ?_) (fun c_19 => ?_)
  · refine j_iload E dX7_makeShot_24 rfl ?_
    refine j_aload_n E dX7_makeShot_26 rfl ?_
    refine gf_X7_300 E (K0.x12 h17.2) rfl dX7_makeShot_27 ?_
    refine j_imul E dX7_makeShot_30 ?_
    refine j_aload_n E dX7_makeShot_31 rfl ?_
    refine gf_X7_303 E (K0.x12 h17.2) rfl dX7_makeShot_32 ?_
    refine j_iadd E dX7_makeShot_35 ?_
    refine j_istore E dX7_makeShot_36 (by decide) ?_
    refine j_iload E dX7_makeShot_38 rfl ?_
    refine j_aload_n E dX7_makeShot_40 rfl ?_
    refine gf_X7_306 E (K0.x16 hi) rfl dX7_makeShot_41 ?_
    refine j_imul E dX7_makeShot_44 ?_
    refine j_bipush (v := 100) E dX7_makeShot_45 cb_100 ?_
    refine j_idiv E dX7_makeShot_47 (by decide) ?_
    refine j_aload_n E dX7_makeShot_48 rfl ?_
    refine gf_X7_99 E (K0.x10 h18.2) rfl dX7_makeShot_49 ?_
    refine j_mmin E (q_660 E.tb) (q_631 E.tb) (q_12 E.tb) (q_632 E.tb) ⟨Nat.le_of_ble_eq_true rfl, Nat.le_of_ble_eq_true rfl, Nat.le_of_ble_eq_true rfl, Nat.le_of_ble_eq_true rfl⟩ dX7_makeShot_52 ?_
    refine j_istore E dX7_makeShot_55 (by decide) ?_
    refine J.sub (lo' := [(0, .ref (ad 0 0 0)), (1, .ref (ad 16 i 0)), (2, .ref (ad 12 (sMo S i) 0)), (3, .ref (ad 10 (sRe S i) 0)), (4, .int (sMany S i)), (5, .int (sGrams S i)), (6, .int (sBack S i))]) ⟨rfl, rfl, rfl, rfl, rfl, rfl, congrArg (fun q => some (Value.int q)) (mn_c _ _), trivial⟩ ?_
    refine j_aload_n E dX7_makeShot_57 rfl ?_
    refine gf_X7_36 E K0.x0 rfl dX7_makeShot_58 ?_
    refine j_aload_n E dX7_makeShot_61 rfl ?_
    refine j_callV E (k_dryGrams l D S gl G ad h K0 C I.lot.lr (S.1 18 i 0) h18) (cw_X7_95 E ⟨Nat.le_of_ble_eq_true rfl, Nat.le_of_ble_eq_true rfl, Nat.le_of_ble_eq_true rfl, Nat.le_of_ble_eq_true rfl, Nat.le_of_ble_eq_true rfl⟩) (q_345 E.tb) (q_346 E.tb) K0.x5 rfl rfl dX7_makeShot_62 rfl (fun v62 h62 p62 => ?_)
    obtain ⟨rfl, rfl⟩ := p62
    refine j_iload E dX7_makeShot_65 rfl ?_
    refine j_iload E dX7_makeShot_67 rfl ?_
    refine j_isub E dX7_makeShot_69 ?_
    refine j_icmp_ge (tgt := 75) E dX7_makeShot_70 (by decide) (fun c_70 => ?_) (fun c_70 => ?_)
    · have hm0 : ¬ sMany S i = 0 := ge1_ne c_19
      have hgr : ¬ sGrams S i ≤ 0 := fun q => by have hq := grams_pos I hi hm0; rw [i32_le, n2.toI (by decide), show (0 : Int32).toInt = 0 from (by decide)] at q; omega
      refine j_aload_n E dX7_makeShot_75 rfl ?_
      refine gf_X7_36 E K0.x0 rfl dX7_makeShot_76 ?_
      refine j_aload_n E dX7_makeShot_79 rfl ?_
      refine j_iload E dX7_makeShot_80 rfl ?_
      refine j_iload E dX7_makeShot_82 rfl ?_
      refine j_isub E dX7_makeShot_84 ?_
      refine j_callV E (k_draw l D S gl G ad h K0 C I.lot.lr (S.1 18 i 0) (sGrams S i - sBack S i) h18) (cw_X7_312 E ⟨Nat.le_of_ble_eq_true rfl, Nat.le_of_ble_eq_true rfl, Nat.le_of_ble_eq_true rfl, Nat.le_of_ble_eq_true rfl, Nat.le_of_ble_eq_true rfl⟩) (q_662 E.tb) (q_663 E.tb) K0.x5 rfl rfl dX7_makeShot_85 rfl (fun v85 h85 p85 => ?_)
      obtain ⟨rfl, K1⟩ := p85
      have t6 : (takes S (S.1 18 i 0) (sGrams S i - sBack S i)).1 6 (sMo S i) 0 = S.1 6 (sMo S i) 0 := tkN_c (by decide) _
      refine j_aload_n E dX7_makeShot_88 rfl ?_
      refine j_callV E (k_makeParts l D (takes S (S.1 18 i 0) (sGrams S i - sBack S i)) gl G ad _ K1 (sMo S i) (by rw [show (takes S (S.1 18 i 0) (sGrams S i - sBack S i)).1 0 2 0 = S.1 0 2 0 from tkN_c (by decide) _]; exact h17.2) (by rw [t6]; exact hc) (fun a b => by rw [show (takes S (S.1 18 i 0) (sGrams S i - sBack S i)).1 11 a b = S.1 11 a b from tkN_c (by decide) _]; exact I.blk.1 a b)) (cw_X7_315 E ⟨Nat.le_of_ble_eq_true rfl, Nat.le_of_ble_eq_true rfl, Nat.le_of_ble_eq_true rfl, Nat.le_of_ble_eq_true rfl, Nat.le_of_ble_eq_true rfl⟩) (q_667 E.tb) (q_668 E.tb) (K1.x12 (by rw [show (takes S (S.1 18 i 0) (sGrams S i - sBack S i)).1 0 2 0 = S.1 0 2 0 from tkN_c (by decide) _]; exact h17.2)) rfl rfl dX7_makeShot_89 rfl (fun v89 h89 p89 => ?_)
      obtain ⟨rfl, K2⟩ := p89
      rw [t6] at K2
      have K2 : Cls (T1 S i) gl G ad h89 := K2
      have v4 : (T1 S i).1 0 4 0 = S.1 0 4 0 := T1_c (by decide) (by decide) (by decide)
      have v2 : (T1 S i).1 0 2 0 = S.1 0 2 0 := T1_c (by decide) (by decide) (by decide)
      have v0 : (T1 S i).1 0 0 0 = S.1 0 0 0 := T1_c (by decide) (by decide) (by decide)
      refine j_iload E dX7_makeShot_92 rfl ?_
      refine j_aload_n E dX7_makeShot_94 rfl ?_
      refine gf_X7_213 E (K2.x16 (by rw [v4]; exact hi)) rfl dX7_makeShot_95 ?_
      refine j_mmin E (q_660 E.tb) (q_631 E.tb) (q_12 E.tb) (q_632 E.tb) ⟨Nat.le_of_ble_eq_true rfl, Nat.le_of_ble_eq_true rfl, Nat.le_of_ble_eq_true rfl, Nat.le_of_ble_eq_true rfl⟩ dX7_makeShot_98 ?_
      refine j_istore E dX7_makeShot_101 (by decide) ?_
      refine J.sub (lo' := [(7, .int (sGets S i)), (0, .ref (ad 0 0 0)), (1, .ref (ad 16 i 0)), (2, .ref (ad 12 (sMo S i) 0)), (3, .ref (ad 10 (sRe S i) 0)), (4, .int (sMany S i)), (5, .int (sGrams S i)), (6, .int (sBack S i))]) ⟨congrArg (fun q => some (Value.int q)) (show mn (sMany S i) ((T1 S i).1 19 i 0) = sGets S i by rw [show (T1 S i).1 19 i 0 = S.1 19 i 0 from T1_c (by decide) (by decide) (by decide)]; unfold sGets; rw [show (sS3 S i).1 19 i 0 = S.1 19 i 0 from sS3_c (by decide) (by decide) (by decide) (by decide)]), rfl, rfl, rfl, rfl, rfl, rfl, rfl, trivial⟩ ?_
      refine j_aload_n E dX7_makeShot_103 rfl ?_
      refine gf_X7_303 E (K2.x12 (by rw [v2]; exact h17.2)) rfl dX7_makeShot_104 ?_
      refine j_iload E dX7_makeShot_107 rfl ?_
      refine j_iload E dX7_makeShot_109 rfl ?_
      refine j_isub E dX7_makeShot_111 ?_
      refine j_aload_n E dX7_makeShot_112 rfl ?_
      refine gf_X7_300 E (K2.x12 (by rw [v2]; exact h17.2)) rfl dX7_makeShot_113 ?_
      refine j_imul E dX7_makeShot_116 ?_
      refine j_iadd E dX7_makeShot_117 ?_
      refine j_istore E dX7_makeShot_118 (by decide) ?_
      refine J.sub (lo' := [(8, .int (S.1 8 (sMo S i) 0 + (sMany S i - sGets S i) * S.1 7 (sMo S i) 0)), (7, .int (sGets S i)), (0, .ref (ad 0 0 0)), (1, .ref (ad 16 i 0)), (2, .ref (ad 12 (sMo S i) 0)), (3, .ref (ad 10 (sRe S i) 0)), (4, .int (sMany S i)), (5, .int (sGrams S i)), (6, .int (sBack S i))]) ⟨congrArg (fun q => some (Value.int q)) (show (T1 S i).1 8 (sMo S i) 0 + (sMany S i - sGets S i) * (T1 S i).1 7 (sMo S i) 0 = _ by rw [show (T1 S i).1 8 (sMo S i) 0 = S.1 8 (sMo S i) 0 from T1_c (by decide) (by decide) (by decide), show (T1 S i).1 7 (sMo S i) 0 = S.1 7 (sMo S i) 0 from T1_c (by decide) (by decide) (by decide)]), rfl, rfl, rfl, rfl, rfl, rfl, rfl, rfl, trivial⟩ ?_
      refine j_aload_n E dX7_makeShot_120 rfl ?_
      refine j_dup E dX7_makeShot_121 rfl ?_
      refine gf_X7_99 E (K2.x10 (by rw [v0]; exact h18.2)) rfl dX7_makeShot_122 ?_
      refine j_iload E dX7_makeShot_125 rfl ?_
      refine j_iload E dX7_makeShot_127 rfl ?_
      refine j_isub E dX7_makeShot_129 ?_
      refine j_iadd E dX7_makeShot_130 ?_
      refine pf_X7_99 E (K2.x10 (by rw [v0]; exact h18.2)) (Nat.le_of_ble_eq_true rfl) dX7_makeShot_131 (fun h131 hRs u131 => ?_)
      have K3 : Cls (T2 S i) gl G ad h131 := by
        have q := K2.t2 (i := (sRe S i)) (by rw [v0]; exact h18.2) hRs u131
        rw [show (T1 S i).1 2 (sRe S i) 0 = S.1 2 (sRe S i) 0 from T1_c (by decide) (by decide) (by decide)] at q
        exact q
      have u4 : (T2 S i).1 0 4 0 = S.1 0 4 0 := v4
      have u21 : (T2 S i).1 21 i 0 = S.1 21 i 0 := T1_c (by decide) (by decide) (by decide)
      refine j_aload_n E dX7_makeShot_134 rfl ?_
      refine j_iload E dX7_makeShot_135 rfl ?_
      refine j_iload E dX7_makeShot_137 rfl ?_
      refine j_iload E dX7_makeShot_139 rfl ?_
      refine j_callV E (k_keepShot l D (T2 S i) gl G ad _ K3 i (by rw [u4]; exact hi) (hI i hi).1 (by rw [u21]; exact (hI i hi).2.1) (by rw [u21]; have := (hI i hi).2.2.1; omega) (sGets S i) (sBack S i) (sGrams S i) hgr) (cw_X7_318 E ⟨Nat.le_of_ble_eq_true rfl, Nat.le_of_ble_eq_true rfl, Nat.le_of_ble_eq_true rfl, Nat.le_of_ble_eq_true rfl, Nat.le_of_ble_eq_true rfl⟩) (q_672 E.tb) (q_673 E.tb) (K3.x16 (by rw [u4]; exact hi)) rfl rfl dX7_makeShot_141 rfl (fun v141 h141 p141 => ?_)
      obtain ⟨rfl, K4⟩ := p141
      rw [← sS8_ks] at K4
      refine j_aload_n E dX7_makeShot_144 rfl ?_
      refine j_dup E dX7_makeShot_145 rfl ?_
      refine gf_X7_256 E K4.x0 rfl dX7_makeShot_146 ?_
      refine j_iconst (v := 1) E dX7_makeShot_149 ci_1 ?_
      refine j_iadd E dX7_makeShot_150 ?_
      refine pf_X7_256 E K4.x0 (Nat.le_of_ble_eq_true rfl) dX7_makeShot_151 (fun h151 hDk u151 => ?_)
      have K5 : Cls (sS9 S i) gl (ksG (T2 S i) G i (sBack S i)) ad h151 := K4.d6 hDk u151
      refine j_aload_n E dX7_makeShot_154 rfl ?_
      refine j_dup E dX7_makeShot_155 rfl ?_
      refine gf_X7_259 E K5.x0 rfl dX7_makeShot_156 ?_
      refine j_iload E dX7_makeShot_159 rfl ?_
      refine j_iadd E dX7_makeShot_161 ?_
      refine pf_X7_259 E K5.x0 (Nat.le_of_ble_eq_true rfl) dX7_makeShot_162 (fun h162 hDk u162 => ?_)
      have K6 : Cls (sS10 S i) gl (ksG (T2 S i) G i (sBack S i)) ad h162 := K5.d7 hDk u162
      refine j_aload_n E dX7_makeShot_165 rfl ?_
      refine j_dup E dX7_makeShot_166 rfl ?_
      refine gf_X7_245 E K6.x0 rfl dX7_makeShot_167 ?_
      refine j_iload E dX7_makeShot_170 rfl ?_
      refine j_i2l E dX7_makeShot_172 ?_
      refine j_ladd E dX7_makeShot_173 ?_
      refine pf_X7_245 E K6.x0 (Nat.le_of_ble_eq_true rfl) dX7_makeShot_174 (fun h174 hDk u174 => ?_)
      have K7 : Cls (sS11 S i) gl (ksG (T2 S i) G i (sBack S i)) ad h174 := K6.dl0 hDk u174
      refine j_aload_n E dX7_makeShot_177 rfl ?_
      refine j_dup E dX7_makeShot_178 rfl ?_
      refine gf_X7_253 E K7.x0 rfl dX7_makeShot_179 ?_
      refine j_iload E dX7_makeShot_182 rfl ?_
      refine j_i2l E dX7_makeShot_184 ?_
      refine j_ladd E dX7_makeShot_185 ?_
      refine pf_X7_253 E K7.x0 (Nat.le_of_ble_eq_true rfl) dX7_makeShot_186 (fun h186 hDk u186 => ?_)
      have K8 : Cls (shoot S i) gl (ksG (T2 S i) G i (sBack S i)) ad h186 := K7.dl1 hDk u186
      have hok : sOK S i = true := sOK_t hm0 (i32_nlt c_70)
      refine j_iconst (v := 1) E dX7_makeShot_189 ci_1 ?_
      exact j_zret E hr rfl dX7_makeShot_190 ⟨Nat.le_of_ble_eq_true rfl, Nat.le_of_ble_eq_true rfl⟩ ⟨by rw [hok]; rfl, _, by rw [show shS S i = shoot S i from if_pos hok]; exact ⟨K8, shoot_IG I hI hi hl0 hm0⟩⟩
    · refine j_iconst (v := 0) E dX7_makeShot_73 ci_0 ?_
      have hno : sOK S i = false := sOK_f2 (i32_ltof c_70)
      exact j_zret E hr rfl dX7_makeShot_74 ⟨Nat.le_of_ble_eq_true rfl, Nat.le_of_ble_eq_true rfl⟩ ⟨by rw [hno]; rfl, G, by rw [show shS S i = S from if_neg (bt2 hno)]; exact ⟨K0, hI⟩⟩
  · refine j_iconst (v := 0) E dX7_makeShot_22 ci_0 ?_
    have hno : sOK S i = false := sOK_f1 (lt1_0 n1 (by decide) c_19)
    exact j_zret E hr rfl dX7_makeShot_23 ⟨Nat.le_of_ble_eq_true rfl, Nat.le_of_ble_eq_true rfl⟩ ⟨by rw [hno]; rfl, G, by rw [show shS S i = S from if_neg (bt2 hno)]; exact ⟨K0, hI⟩⟩
