/-! the class: machines -/
theorem mntN_iff {S : St} {x : Int32} : ∀ n, mntN S x n = true ↔ ∃ k, k < n ∧ S.1 15 k 0 = x
  | 0 => ⟨fun q => absurd q (by show ¬ false = true; decide), fun ⟨_, h, _⟩ => absurd h (Nat.not_lt_zero _)⟩
  | n + 1 => by
    show (mntN S x n || decide (S.1 15 n 0 = x)) = true ↔ _
    rw [Bool.or_eq_true, mntN_iff n, decide_eq_true_eq]
    constructor
    · rintro (⟨k, h1, h2⟩ | h)
      · exact ⟨k, by omega, h2⟩
      · exact ⟨n, by omega, h⟩
    · rintro ⟨k, h1, h2⟩
      by_cases e : k = n
      · subst e; exact Or.inr h2
      · exact Or.inl ⟨k, by omega, h2⟩
theorem mnt_iff {S : St} {x : Int32} : mnt S x = true ↔ ∃ k, k < nn (S.1 0 3 0) ∧ S.1 15 k 0 = x := mntN_iff _
def mopt (x : Int32) (f : Nat → Nat) : Option Nat := if x = -1 then none else some (f (nn x))
theorem mref_rf {x : Int32} {f : Nat → Nat} {st : List Value} : mref x f :: st = va_rf (mopt x f) :: st := by
  unfold mref mopt
  split <;> rfl
theorem nnI_eq {x : Int32} {f : Nat} (h : x = nI f) (hf : f < 2 ^ 31) : f = nn x := by rw [h]; exact (nI_clamp hf).symm
theorem mopt_eq {S : St} {gl : Nat → Nat} {G : Nat → Nat → Int32} {ad : Ad} {h : AH} (K0 : Cls S gl G ad h) {x y : Int32} (hx : x = -1 ∨ (x = nI (nn x) ∧ nn x < nn (S.1 0 2 0))) (hy : y = nI (nn y) ∧ nn y < nn (S.1 0 2 0)) : mopt x (fun x => ad 12 x 0) = some (ad 12 (nn y) 0) ↔ x = y := by
  unfold mopt
  by_cases q : x = -1
  · rw [if_pos q]
    refine ⟨fun e => (nomatch e), fun e => ?_⟩
    rw [← e, q] at hy
    exact absurd hy.1 (by decide)
  · rw [if_neg q]
    exact eq_res K0 (Or.inr (Or.inl rfl)) ⟨(hx.resolve_left q).1, (hx.resolve_left q).2, rfl⟩ ⟨hy.1, hy.2, rfl⟩
theorem Cls.t16 {S : St} {gl : Nat → Nat} {G : Nat → Nat → Int32} {ad : Ad} {h h1 : AH} (C : Cls S gl G ad h) {i : Nat} {v : Int32} (hi : i < nn (S.1 0 3 0)) (hv : ¬ v = -1) (n : h1 (ad 15 i 0) = some (.inr (3, [.int (S.1 14 i 0), mref (S.1 15 i 0) (fun x => ad 12 x 0), .ref (ad 16 (nn v) 0)]))) (u : ∀ x, x ≠ ad 15 i 0 → h1 x = h x) : Cls (s1 S 16 i 0 v) gl G ad h1 := by
  have hm : ∀ x, mnt (s1 S 16 i 0 v) x = mnt S x := fun x => mnt_of rfl (fun _ => rfl)
  refine C.upd (k0 := 15) ⟨hi, rfl⟩ n u (fun _ _ _ q => q) (by show ccl (s1 S 16 i 0 v) gl G ad 15 i 0 = _; unfold ccl; rw [show (s1 S 16 i 0 v).1 16 i 0 = v from s1_eq]; unfold mref; rw [if_neg hv]; rfl) (fun k i' j' hv hne => ?_)
  unfold ccl
  split <;> first | rfl | (rw [hm]; rfl) | (rw [show (s1 S 16 i 0 v).1 16 i' 0 = S.1 16 i' 0 from s1_ne (fun q => hne ⟨rfl, q.2.1, live_0 hv (by decide)⟩)]; rfl)
theorem Inv.mac2 {S T : St} {B : Nat} (I : Inv S B) (hm : IMac T) (hc : ∀ c i j, c ≠ 15 → c ≠ 16 → T.1 c i j = S.1 c i j) (hl : T.2 = S.2) : Inv T B :=
  ⟨I.cnt.of5 (hc _ _ _ (by decide) (by decide)) (hc _ _ _ (by decide) (by decide)) (hc _ _ _ (by decide) (by decide)) (hc _ _ _ (by decide) (by decide)) (hc _ _ _ (by decide) (by decide)), I.lot.of (hc _ _ _ (by decide) (by decide)) (hc _ _ _ (by decide) (by decide)) (fun _ => hc _ _ _ (by decide) (by decide)) (fun _ => hc _ _ _ (by decide) (by decide)),
   I.mou.of (hc _ _ _ (by decide) (by decide)) (fun _ => hc _ _ _ (by decide) (by decide)) (fun _ => hc _ _ _ (by decide) (by decide)) (fun _ => hc _ _ _ (by decide) (by decide)) (fun _ => hc _ _ _ (by decide) (by decide)), I.blk.of (hc _ _ _ (by decide) (by decide)) (fun _ _ => hc _ _ _ (by decide) (by decide)) (fun _ _ => hc _ _ _ (by decide) (by decide)), hm,
   I.ord.of (hc _ _ _ (by decide) (by decide)) (hc _ _ _ (by decide) (by decide)) (hc _ _ _ (by decide) (by decide)) (fun _ => hc _ _ _ (by decide) (by decide)) (fun _ => hc _ _ _ (by decide) (by decide)) (fun _ => hc _ _ _ (by decide) (by decide)) (fun _ => hc _ _ _ (by decide) (by decide)) (fun _ => hc _ _ _ (by decide) (by decide)) (fun _ => hc _ _ _ (by decide) (by decide)) (fun _ => by rw [hl]),
   I.reg.of (hc _ _ _ (by decide) (by decide)) (fun _ => hc _ _ _ (by decide) (by decide)), I.all.of (hc _ _ _ (by decide) (by decide)) (by rw [hl]), by rw [hc _ _ _ (by decide) (by decide)]; exact I.hrs⟩
theorem Inv.run {S : St} {B a : Nat} {o : Int32} (I : Inv S B) (ho : o = nI (nn o) ∧ nn o < nn (S.1 0 4 0)) (h15 : S.1 15 a 0 = S.1 17 (nn o) 0) : Inv (s1 S 16 a 0 o) B := by
  refine I.mac2 ⟨fun k hk => ?_, fun k j hk hj e e2 => I.mac.2 k j hk hj e e2⟩ (fun c i j _ h16 => s1_c h16) rfl
  by_cases q : k = a
  · subst q
    rw [s1_eq]
    exact ⟨(I.mac.1 k hk).1, Or.inr ⟨ho.1, ho.2, h15⟩⟩
  · rw [show (s1 S 16 a 0 o).1 16 k 0 = S.1 16 k 0 from s1_ne (fun r => q r.2.1)]
    exact I.mac.1 k hk
theorem Inv.mnt {S : St} {B a : Nat} {mo : Int32} (I : Inv S B) (hmo : mo = nI (nn mo) ∧ nn mo < nn (S.1 0 2 0)) (hfree : ¬ mnt S mo = true) : Inv (s1 (s1 S 15 a 0 mo) 16 a 0 (-1)) B := by
  have e15 : ∀ k, (s1 (s1 S 15 a 0 mo) 16 a 0 (-1)).1 15 k 0 = if k = a then mo else S.1 15 k 0 := fun k => by
    show (s1 S 15 a 0 mo).1 15 k 0 = _
    by_cases q : k = a
    · subst q; rw [s1_eq, if_pos rfl]
    · rw [s1_ne (fun r => q r.2.1), if_neg q]
  have hno : ∀ k, k < nn (S.1 0 3 0) → ¬ S.1 15 k 0 = mo := fun k hk e => hfree (mnt_iff.mpr ⟨k, hk, e⟩)
  refine I.mac2 ⟨fun k hk => ?_, fun k j hk hj e e2 => ?_⟩ (fun c i j h15 h16 => (s1_c h16).trans (s1_c h15)) rfl
  · rw [e15]
    by_cases q : k = a
    · subst q
      rw [if_pos rfl, s1_eq]
      exact ⟨Or.inr hmo, Or.inl rfl⟩
    · rw [if_neg q, show (s1 (s1 S 15 a 0 mo) 16 a 0 (-1)).1 16 k 0 = S.1 16 k 0 from s1_ne (fun r => q r.2.1)]
      exact I.mac.1 k hk
  · rw [e15, e15] at e
    rw [e15] at e2
    by_cases q : k = a
    · subst q
      rw [if_pos rfl] at e
      by_cases r : j = k
      · exact r.symm
      · rw [if_neg r] at e; exact absurd e.symm (hno j hj)
    · rw [if_neg q] at e e2
      by_cases r : j = a
      · rw [if_pos r] at e; exact absurd e (hno k hk)
      · rw [if_neg r] at e; exact I.mac.2 k j hk hj e e2
theorem Cls.mount {S : St} {gl : Nat → Nat} {G : Nat → Nat → Int32} {ad : Ad} {h h1 : AH} (K0 : Cls S gl G ad h) {a : Nat} {mo : Int32} (I : IMac S) (ha : a < nn (S.1 0 3 0)) (hmo : mo = nI (nn mo) ∧ nn mo < nn (S.1 0 2 0)) (hM : nn (S.1 0 2 0) ≤ 5) (hfree : ¬ mnt S mo = true)
    (n15 : h1 (ad 15 a 0) = some (.inr (3, [.int (S.1 14 a 0), .ref (ad 12 (nn mo) 0), .null])))
    (n12 : h1 (ad 12 (nn mo) 0) = some (.inr (4, [.int (nI (nn mo)), .ref (ad 13 (nn mo) 0), .int (S.1 7 (nn mo) 0), .int (S.1 8 (nn mo) 0), .int (S.1 9 (nn mo) 0), .int (S.1 10 (nn mo) 0), .int 1])))
    (nf : ∀ f, S.1 15 a 0 = nI f → f < nn (S.1 0 2 0) → h1 (ad 12 f 0) = some (.inr (4, [.int (nI f), .ref (ad 13 f 0), .int (S.1 7 f 0), .int (S.1 8 f 0), .int (S.1 9 f 0), .int (S.1 10 f 0), .int 0])))
    (u : ∀ x, x ≠ ad 15 a 0 → x ≠ ad 12 (nn mo) 0 → (∀ f, S.1 15 a 0 = nI f → f < nn (S.1 0 2 0) → x ≠ ad 12 f 0) → h1 x = h x) : Cls (s1 (s1 S 15 a 0 mo) 16 a 0 (-1)) gl G ad h1 := by
  have e15 : ∀ k, (s1 (s1 S 15 a 0 mo) 16 a 0 (-1)).1 15 k 0 = if k = a then mo else S.1 15 k 0 := fun k => by
    show (s1 S 15 a 0 mo).1 15 k 0 = _
    by_cases q : k = a
    · subst q; rw [s1_eq, if_pos rfl]
    · rw [s1_ne (fun r => q r.2.1), if_neg q]
  have e16 : ∀ k, (s1 (s1 S 15 a 0 mo) 16 a 0 (-1)).1 16 k 0 = if k = a then -1 else S.1 16 k 0 := fun k => by
    by_cases q : k = a
    · subst q; rw [s1_eq, if_pos rfl]
    · rw [s1_ne (fun r => q r.2.1), if_neg q]; rfl
  have hT : ∀ x, mnt (s1 (s1 S 15 a 0 mo) 16 a 0 (-1)) x = true ↔ ∃ k, k < nn (S.1 0 3 0) ∧ (if k = a then mo else S.1 15 k 0) = x := fun x => by
    rw [mnt_iff]
    constructor
    · rintro ⟨k, h1, h2⟩; rw [e15] at h2; exact ⟨k, h1, h2⟩
    · rintro ⟨k, h1, h2⟩; exact ⟨k, h1, by rw [e15]; exact h2⟩
  have nI5 : ∀ i, i < nn (S.1 0 2 0) → nn (nI i) = i := fun i hi => nI_clamp (by omega)
  refine ⟨fun t i j hv0 => ?_, fun t i j t' i' j' hv hv' e => K0.2 t i j t' i' j' hv hv' e⟩
  have hv : live S t i j := hv0
  clear hv0
  by_cases h15 : t = 15
  · subst h15
    have hw := hv
    obtain ⟨hi, rfl⟩ := (hw : i < nn (S.1 0 3 0) ∧ j = 0)
    show _ = (some (.inr (3, [.int (S.1 14 i 0), mref ((s1 (s1 S 15 a 0 mo) 16 a 0 (-1)).1 15 i 0) (fun x => ad 12 x 0), mref ((s1 (s1 S 15 a 0 mo) 16 a 0 (-1)).1 16 i 0) (fun x => ad 16 x 0)])) : Option AE)
    rw [e15, e16]
    by_cases q : i = a
    · subst q
      rw [if_pos rfl, if_pos rfl, n15]
      unfold mref
      rw [if_neg (nI_m1 hmo.1), if_pos rfl]
    · rw [if_neg q, if_neg q, u _ (fun r => q (K0.2 _ _ _ _ _ _ hv (show live S 15 a 0 from ⟨ha, rfl⟩) r).2.1) (fun r => absurd (K0.2 _ _ _ _ _ _ hv (show live S 12 (nn mo) 0 from ⟨hmo.2, rfl⟩) r).1 (by decide)) (fun f _ hf r => absurd (K0.2 _ _ _ _ _ _ hv (show live S 12 f 0 from ⟨hf, rfl⟩) r).1 (by decide))]
      exact K0.1 _ _ _ hv
  · have o15 : ad t i j ≠ ad 15 a 0 := fun r => h15 (K0.2 _ _ _ _ _ _ hv (show live S 15 a 0 from ⟨ha, rfl⟩) r).1
    by_cases h12 : t = 12
    · subst h12
      have hw := hv
      obtain ⟨hi, rfl⟩ := (hw : i < nn (S.1 0 2 0) ∧ j = 0)
      show _ = (some (.inr (4, [.int (nI i), .ref (ad 13 i 0), .int (S.1 7 i 0), .int (S.1 8 i 0), .int (S.1 9 i 0), .int (S.1 10 i 0), .int (b2i (mnt (s1 (s1 S 15 a 0 mo) 16 a 0 (-1)) (nI i)))])) : Option AE)
      by_cases q : i = nn mo
      · rw [q, n12, (hT (nI (nn mo))).mpr ⟨a, ha, by rw [if_pos rfl]; exact hmo.1⟩]
        rfl
      · by_cases r : S.1 15 a 0 = nI i
        · have e : mnt (s1 (s1 S 15 a 0 mo) 16 a 0 (-1)) (nI i) = false := by
            refine eq_false_of_ne_true (fun z => ?_)
            obtain ⟨k, hk, z2⟩ := (hT _).mp z
            by_cases w : k = a
            · rw [if_pos w] at z2
              exact q (by rw [z2, nI5 i hi])
            · rw [if_neg w] at z2
              exact w (I.2 k a hk ha (z2.trans r.symm) (by rw [z2]; exact nI_m1 (by rw [nI5 i hi])))
          rw [e, nf i r hi]
          rfl
        · have e : mnt (s1 (s1 S 15 a 0 mo) 16 a 0 (-1)) (nI i) = mnt S (nI i) := by
            refine Bool.eq_iff_iff.mpr ?_
            rw [hT, mnt_iff]
            constructor
            · rintro ⟨k, hk, z⟩
              by_cases w : k = a
              · rw [if_pos w] at z
                exact absurd (by rw [z, nI5 i hi]) q
              · rw [if_neg w] at z; exact ⟨k, hk, z⟩
            · rintro ⟨k, hk, z⟩
              by_cases w : k = a
              · rw [w] at z; exact absurd z r
              · exact ⟨k, hk, by rw [if_neg w]; exact z⟩
          rw [e, u _ o15 (fun z => q (K0.2 _ _ _ _ _ _ hv (show live S 12 (nn mo) 0 from ⟨hmo.2, rfl⟩) z).2.1) (fun f hf hf2 z => r (by rw [hf, (K0.2 _ _ _ _ _ _ hv (show live S 12 f 0 from ⟨hf2, rfl⟩) z).2.1]))]
          exact K0.1 _ _ _ hv
    · rw [u _ o15 (fun r => h12 (K0.2 _ _ _ _ _ _ hv (show live S 12 (nn mo) 0 from ⟨hmo.2, rfl⟩) r).1) (fun f _ hf r => h12 (K0.2 _ _ _ _ _ _ hv (show live S 12 f 0 from ⟨hf, rfl⟩) r).1), K0.1 _ _ _ hv]
      unfold ccl
      split <;> first | rfl | contradiction
set_option maxHeartbeats 4000000 in
set_option maxRecDepth 100000 in
theorem k_run (l : Launch) (D : va_G) (S : St) (gl : Nat → Nat) (G : Nat → Nat → Int32) (ad : Ad) (h : AH) (K0 : Cls S gl G ad h) (B : Nat) (I : Inv S B) (hI : IG S gl G) (a o : Int32) : Ctr l D yX7_run cX7_run 5 (some .int) 7 112 5 30 [.ref (ad 0 0 0), .int a, .int o] h (fun E9 => (E9 = "java/lang/IndexOutOfBoundsException" ∧ (p_run S a o).1.1 0 8 0 = 1) ∨ (E9 = "java/lang/UnsupportedOperationException" ∧ (p_run S a o).1.1 0 8 0 = 2) ∨ (E9 = "java/lang/IllegalStateException" ∧ (p_run S a o).1.1 0 8 0 = 3)) (fun r9 h' => r9 = some (.int (p_run S a o).2) ∧ (p_run S a o).1.1 0 8 0 = 0 ∧ Ok (p_run S a o).1 B (ad 0 0 0) h') := by
  refine Ctr.of RX7 rfl (by decide) (Nat.le_of_ble_eq_true rfl) ?_
  intro sz p e s m below meth c E hin hr ht
  have C := I.cnt
  refine j_aload_n E dX7_run_0 rfl ?_
  refine j_iload_n E dX7_run_1 rfl ?_
  refine j_callVx E (k_machineOf l D S gl G ad h K0 C a) (cw_X7_164 E ⟨Nat.le_of_ble_eq_true rfl, Nat.le_of_ble_eq_true rfl, Nat.le_of_ble_eq_true rfl, Nat.le_of_ble_eq_true rfl, Nat.le_of_ble_eq_true rfl⟩) (q_513 E.tb) (q_4 E.tb) K0.x0 rfl rfl dX7_run_2 rfl ht rfl (fun Ex q => Or.inl ⟨q.1, by unfold p_run; rw [if_pos q.2]; rfl⟩) ⟨Nat.le_of_ble_eq_true rfl, Nat.le_of_ble_eq_true rfl⟩ (fun v2 h2 p2 => ?_)
  obtain ⟨rfl, rfl, hx⟩ := p2
  have ha := isMac_of C.2.2.2.1 hx
  refine j_astore_n E dX7_run_5 (by decide) ?_
  refine j_aload_n E dX7_run_6 rfl ?_
  refine j_iload_n E dX7_run_7 rfl ?_
  refine j_callVx E (k_orderOf l D S gl G ad h K0 C o) (cw_X7_190 E ⟨Nat.le_of_ble_eq_true rfl, Nat.le_of_ble_eq_true rfl, Nat.le_of_ble_eq_true rfl, Nat.le_of_ble_eq_true rfl, Nat.le_of_ble_eq_true rfl⟩) (q_539 E.tb) (q_5 E.tb) K0.x0 rfl rfl dX7_run_8 rfl ht rfl (fun Ex q => Or.inl ⟨q.1, by unfold p_run; rw [if_neg (bt hx), if_pos q.2]; rfl⟩) ⟨Nat.le_of_ble_eq_true rfl, Nat.le_of_ble_eq_true rfl⟩ (fun v8 h8 p8 => ?_)
  obtain ⟨rfl, rfl, hy⟩ := p8
  have ho := isOrd_of C.2.2.2.2 hy
  have hiff := mopt_eq K0 (x := S.1 15 (nn a) 0) (y := S.1 17 (nn o) 0) (I.mac.1 _ ha.2).1 (I.ord.1 _ ho.2).1
  refine j_astore E dX7_run_11 (by decide) ?_
  refine j_aload_n E dX7_run_13 rfl ?_
  refine gf_X7_179 E (K0.x15 ha.2) rfl dX7_run_14 ?_
  refine J.stk mref_rf ?_
  refine j_aload E dX7_run_17 rfl ?_
  refine gf_X7_194 E (K0.x16 ho.2) rfl dX7_run_19 ?_
  refine j_acmp_eq (tgt := 35) (x := mopt (S.1 15 (nn a) 0) (fun x => ad 12 x 0)) (y := some (ad 12 (nn (S.1 17 (nn o) 0)) 0)) E dX7_run_22 (by decide) (fun c_22 => ?_) (fun c_22 => ?_)
  · refine j_aload E dX7_run_35 rfl ?_
    refine j_callV E (k_isOpen l D S gl G ad h K0 C (nn o) ho.2) (cw_X7_197 E ⟨Nat.le_of_ble_eq_true rfl, Nat.le_of_ble_eq_true rfl, Nat.le_of_ble_eq_true rfl, Nat.le_of_ble_eq_true rfl, Nat.le_of_ble_eq_true rfl⟩) (q_544 E.tb) (q_545 E.tb) (K0.x16 ho.2) rfl rfl dX7_run_37 rfl (fun v37 h37 p37 => ?_)
    obtain ⟨rfl, rfl⟩ := p37
    refine j_if_ne (tgt := 53) E dX7_run_40 (by decide) (fun c_40 => ?_) (fun c_40 => ?_)
    · have K0 := K0.thr (t := 0)
      refine j_aload_n E dX7_run_53 rfl ?_
      refine j_aload E dX7_run_54 rfl ?_
      refine pf_X7_183 E (K0.x15 ha.2) (Nat.le_of_ble_eq_true rfl) dX7_run_56 (fun h56 hMc u56 => ?_)
      have K1 : Cls (s1 (th S 0) 16 (nn a) 0 o) gl G ad h56 := K0.t16 ha.2 (nI_m1 ho.1) hMc u56
      refine j_aload E dX7_run_59 rfl ?_
      refine gf_X7_194 E (K1.x16 ho.2) rfl dX7_run_61 ?_
      refine j_callV E (k_shotsOfHour l D _ gl G ad _ K1 C (nn (S.1 17 (nn o) 0)) (I.ord.1 _ ho.2).1.2 I.mou) (cw_X7_202 E ⟨Nat.le_of_ble_eq_true rfl, Nat.le_of_ble_eq_true rfl, Nat.le_of_ble_eq_true rfl, Nat.le_of_ble_eq_true rfl, Nat.le_of_ble_eq_true rfl⟩) (q_549 E.tb) (q_550 E.tb) (K1.x12 (I.ord.1 _ ho.2).1.2) rfl rfl dX7_run_64 rfl (fun v64 h64 p64 => ?_)
      obtain ⟨rfl, rfl⟩ := p64
      have h0 : ¬ S.1 19 (nn o) 0 = 0 := fun q => by have z := of_decide_eq_true (b2i_t c_40); rw [q] at z; exact absurd z (by decide)
      have e9 : p_run S a o = (s1 (th S 0) 16 (nn a) 0 o, 3600 / S.1 10 (nn (S.1 15 (nn a) 0)) 0) := by unfold p_run; rw [if_neg (bt hx), if_neg (bt hy), if_pos (hiff.mp c_22), if_neg h0]
      exact j_iret E hr dX7_run_67 ⟨Nat.le_of_ble_eq_true rfl, Nat.le_of_ble_eq_true rfl⟩ ⟨by rw [e9, hiff.mp c_22]; rfl, by rw [e9]; rfl, by rw [e9]; exact ⟨gl, G, ad, rfl, K1, hI.of rfl (fun _ => rfl) (fun _ => rfl) (fun _ => rfl), I.th.run ho (hiff.mp c_22)⟩⟩
    · exact j_throw (cls := "java/lang/IllegalStateException") (text := "the order is not open") (ik := 48) (is := 200) (ic := 52) E (by decide) (q_203 E.tb) (q_20 E.tb) xs_200 xa_IllegalStateException xg_IllegalStateException dX7_run_43 dX7_run_46 dX7_run_47 dX7_run_49 dX7_run_52 ht ⟨Nat.le_of_ble_eq_true rfl, Nat.le_of_ble_eq_true rfl, Nat.le_of_ble_eq_true rfl, Nat.le_of_ble_eq_true rfl⟩ ⟨Nat.le_of_ble_eq_true rfl, Nat.le_of_ble_eq_true rfl⟩ (Or.inr (Or.inr ⟨rfl, by unfold p_run; rw [if_neg (bt hx), if_neg (bt hy), if_pos (hiff.mp c_22), if_pos (rg_0 (I.ord.1 _ ho.2).2.2.1 (by decide) (by have q := of_decide_eq_false (b2i_f c_40); rw [i32_lt] at q; rw [i32_le]; omega))]; rfl⟩))
  · exact j_throw (cls := "java/lang/UnsupportedOperationException") (text := "the machine has another mould") (ik := 172) (is := 195) (ic := 176) E (by decide) (q_516 E.tb) (q_27 E.tb) xs_195 xa_UnsupportedOperationException xg_UnsupportedOperationException dX7_run_25 dX7_run_28 dX7_run_29 dX7_run_31 dX7_run_34 ht ⟨Nat.le_of_ble_eq_true rfl, Nat.le_of_ble_eq_true rfl, Nat.le_of_ble_eq_true rfl, Nat.le_of_ble_eq_true rfl⟩ ⟨Nat.le_of_ble_eq_true rfl, Nat.le_of_ble_eq_true rfl⟩ (Or.inr (Or.inl ⟨rfl, by unfold p_run; rw [if_neg (bt hx), if_neg (bt hy), if_neg (fun q => c_22 (hiff.mpr q))]; rfl⟩))
set_option maxHeartbeats 4000000 in
set_option maxRecDepth 100000 in
theorem k_mount (l : Launch) (D : va_G) (S : St) (gl : Nat → Nat) (G : Nat → Nat → Int32) (ad : Ad) (h : AH) (K0 : Cls S gl G ad h) (B : Nat) (I : Inv S B) (hI : IG S gl G) (a mo : Int32) : Ctr l D yX7_mount cX7_mount 6 (some .int) 7 112 5 30 [.ref (ad 0 0 0), .int a, .int mo] h (fun E9 => (E9 = "java/lang/IndexOutOfBoundsException" ∧ (p_mount S a mo).1.1 0 8 0 = 1) ∨ (E9 = "java/lang/UnsupportedOperationException" ∧ (p_mount S a mo).1.1 0 8 0 = 2) ∨ (E9 = "java/lang/IllegalStateException" ∧ (p_mount S a mo).1.1 0 8 0 = 3)) (fun r9 h' => r9 = some (.int (p_mount S a mo).2) ∧ (p_mount S a mo).1.1 0 8 0 = 0 ∧ Ok (p_mount S a mo).1 B (ad 0 0 0) h') := by
  refine Ctr.of RX7 rfl (by decide) (Nat.le_of_ble_eq_true rfl) ?_
  intro sz p e s m below meth c E hin hr ht
  have C := I.cnt
  refine j_aload_n E dX7_mount_0 rfl ?_
  refine j_iload_n E dX7_mount_1 rfl ?_
  refine j_callVx E (k_machineOf l D S gl G ad h K0 C a) (cw_X7_164 E ⟨Nat.le_of_ble_eq_true rfl, Nat.le_of_ble_eq_true rfl, Nat.le_of_ble_eq_true rfl, Nat.le_of_ble_eq_true rfl, Nat.le_of_ble_eq_true rfl⟩) (q_513 E.tb) (q_4 E.tb) K0.x0 rfl rfl dX7_mount_2 rfl ht rfl (fun Ex q => Or.inl ⟨q.1, by unfold p_mount; rw [if_pos q.2]; rfl⟩) ⟨Nat.le_of_ble_eq_true rfl, Nat.le_of_ble_eq_true rfl⟩ (fun v2 h2 p2 => ?_)
  obtain ⟨rfl, rfl, hx⟩ := p2
  have ha := isMac_of C.2.2.2.1 hx
  refine j_astore_n E dX7_mount_5 (by decide) ?_
  refine j_aload_n E dX7_mount_6 rfl ?_
  refine j_iload_n E dX7_mount_7 rfl ?_
  refine j_callVx E (k_mouldOf l D S gl G ad h K0 C mo) (cw_X7_110 E ⟨Nat.le_of_ble_eq_true rfl, Nat.le_of_ble_eq_true rfl, Nat.le_of_ble_eq_true rfl, Nat.le_of_ble_eq_true rfl, Nat.le_of_ble_eq_true rfl⟩) (q_429 E.tb) (q_3 E.tb) K0.x0 rfl rfl dX7_mount_8 rfl ht rfl (fun Ex q => Or.inl ⟨q.1, by unfold p_mount; rw [if_neg (bt hx), if_pos q.2]; rfl⟩) ⟨Nat.le_of_ble_eq_true rfl, Nat.le_of_ble_eq_true rfl⟩ (fun v8 h8 p8 => ?_)
  obtain ⟨rfl, rfl, hy⟩ := p8
  have hmo := isMou_of C.2.2.1 hy
  refine j_astore E dX7_mount_11 (by decide) ?_
  refine j_aload E dX7_mount_13 rfl ?_
  refine gf_X7_168 E (K0.x12 hmo.2) rfl dX7_mount_15 ?_
  refine j_aload_n E dX7_mount_18 rfl ?_
  refine gf_X7_171 E (K0.x15 ha.2) rfl dX7_mount_19 ?_
  refine j_icmp_le (tgt := 35) E dX7_mount_22 (by decide) (fun c_22 => ?_) (fun c_22 => ?_)
  · refine j_aload E dX7_mount_35 rfl ?_
    refine gf_X7_138 E (K0.x12 hmo.2) rfl dX7_mount_37 ?_
    refine j_if_eq (tgt := 53) E dX7_mount_40 (by decide) (fun c_40 => ?_) (fun c_40 => ?_)
    · have hfree : ¬ mnt S mo = true := by rw [hmo.1]; exact fun q => bt q (b2i_f c_40)
      have hfree2 : ¬ mnt (th S 0) mo = true := by rw [mnt_of (S := S) (T := th S 0) rfl (fun _ => rfl)]; exact hfree
      have K0 := K0.thr (t := 0)
      refine j_aload_n E dX7_mount_53 rfl ?_
      refine gf_X7_179 E (K0.x15 ha.2) rfl dX7_mount_54 ?_
      by_cases hn1 : S.1 15 (nn a) 0 = -1
      · refine J.stk (mref_n hn1) ?_
        refine j_astoreN E dX7_mount_57 (by decide) ?_
        refine j_aload_n E dX7_mount_59 rfl ?_
        refine j_aload E dX7_mount_60 rfl ?_
        refine pf_X7_179 E (K0.x15 ha.2) (Nat.le_of_ble_eq_true rfl) dX7_mount_62 (fun h62 hMc u62 => ?_)
        refine j_aload_n E dX7_mount_65 rfl ?_
        refine j_null E dX7_mount_66 ?_
        refine pfN_X7_183 E hMc (Nat.le_of_ble_eq_true rfl) dX7_mount_67 (fun h67 hMc u67 => ?_)
        have n15 := hMc
        refine j_aload E dX7_mount_70 rfl ?_
        refine j_iconst (v := 1) E dX7_mount_72 ci_1 ?_
        refine pf_X7_138 E ((u67 _ (fun r => absurd (K0.2 _ _ _ _ _ _ (show live (th S 0) 12 (nn mo) 0 from ⟨hmo.2, rfl⟩) (show live (th S 0) 15 (nn a) 0 from ⟨ha.2, rfl⟩) r).1 (by decide))).trans ((u62 _ (fun r => absurd (K0.2 _ _ _ _ _ _ (show live (th S 0) 12 (nn mo) 0 from ⟨hmo.2, rfl⟩) (show live (th S 0) 15 (nn a) 0 from ⟨ha.2, rfl⟩) r).1 (by decide))).trans (K0.x12 hmo.2))) ⟨rfl, rfl⟩ (Nat.le_of_ble_eq_true rfl) dX7_mount_73 (fun h73 hMo u73 => ?_)
        have n12 := hMo
        refine j_aloadN E dX7_mount_76 rfl ?_
        refine j_ifnonnullN E dX7_mount_78 ?_
        refine j_iconst (v := (-1)) E dX7_mount_81 ci_m1 ?_
        have e9 : p_mount S a mo = (s1 (s1 (th S 0) 15 (nn a) 0 mo) 16 (nn a) 0 (-1), S.1 15 (nn a) 0) := by unfold p_mount; rw [if_neg (bt hx), if_neg (bt hy), if_neg (i32_nlt c_22), if_neg hfree]
        have K9 : Cls (s1 (s1 (th S 0) 15 (nn a) 0 mo) 16 (nn a) 0 (-1)) gl G ad h73 := K0.mount I.mac ha.2 hmo C.2.2.1.2.2 hfree2 ((u73 _ (fun r => (fun r => absurd (K0.2 _ _ _ _ _ _ (show live (th S 0) 12 (nn mo) 0 from ⟨hmo.2, rfl⟩) (show live (th S 0) 15 (nn a) 0 from ⟨ha.2, rfl⟩) r).1 (by decide)) r.symm)).trans n15) n12 (fun f hf hf2 => absurd (hf.symm.trans hn1) (nI_m1 (by rw [show nn (nI f) = f from nI_clamp (show f < 2 ^ 31 by have := C.2.2.1.2.2; have hf3 : f < nn (S.1 0 2 0) := hf2; omega)]))) (fun z h15 h12 _ => (u73 z h12).trans ((u67 z h15).trans (u62 z h15)))
        exact j_iret E hr dX7_mount_82 ⟨Nat.le_of_ble_eq_true rfl, Nat.le_of_ble_eq_true rfl⟩ ⟨by rw [e9]; show _ = some (Value.int (S.1 15 (nn a) 0)); rw [hn1], by rw [e9]; rfl, by rw [e9]; exact ⟨gl, G, ad, rfl, K9, hI.of rfl (fun _ => rfl) (fun _ => rfl) (fun _ => rfl), I.th.mnt hmo hfree2⟩⟩
      · refine J.stk (mref_y hn1) ?_
        refine j_astore E dX7_mount_57 (by decide) ?_
        refine j_aload_n E dX7_mount_59 rfl ?_
        refine j_aload E dX7_mount_60 rfl ?_
        refine pf_X7_179 E (K0.x15 ha.2) (Nat.le_of_ble_eq_true rfl) dX7_mount_62 (fun h62 hMc u62 => ?_)
        refine j_aload_n E dX7_mount_65 rfl ?_
        refine j_null E dX7_mount_66 ?_
        refine pfN_X7_183 E hMc (Nat.le_of_ble_eq_true rfl) dX7_mount_67 (fun h67 hMc u67 => ?_)
        have n15 := hMc
        refine j_aload E dX7_mount_70 rfl ?_
        refine j_iconst (v := 1) E dX7_mount_72 ci_1 ?_
        refine pf_X7_138 E ((u67 _ (fun r => absurd (K0.2 _ _ _ _ _ _ (show live (th S 0) 12 (nn mo) 0 from ⟨hmo.2, rfl⟩) (show live (th S 0) 15 (nn a) 0 from ⟨ha.2, rfl⟩) r).1 (by decide))).trans ((u62 _ (fun r => absurd (K0.2 _ _ _ _ _ _ (show live (th S 0) 12 (nn mo) 0 from ⟨hmo.2, rfl⟩) (show live (th S 0) 15 (nn a) 0 from ⟨ha.2, rfl⟩) r).1 (by decide))).trans (K0.x12 hmo.2))) ⟨rfl, rfl⟩ (Nat.le_of_ble_eq_true rfl) dX7_mount_73 (fun h73 hMo u73 => ?_)
        have n12 := hMo
        refine j_aload E dX7_mount_76 rfl ?_
        refine j_ifnonnull (tgt := 83) E dX7_mount_78 (by decide) ?_
        have hf := (I.mac.1 _ ha.2).1.resolve_left hn1
        have hfm : nn (S.1 15 (nn a) 0) ≠ nn mo := fun q => hfree (mnt_iff.mpr ⟨nn a, ha.2, by rw [hf.1, q, ← hmo.1]⟩)
        have hfa : ad 12 (nn (S.1 15 (nn a) 0)) 0 ≠ ad 12 (nn mo) 0 := fun r => hfm (K0.2 _ _ _ _ _ _ (show live (th S 0) 12 (nn (S.1 15 (nn a) 0)) 0 from ⟨hf.2, rfl⟩) (show live (th S 0) 12 (nn mo) 0 from ⟨hmo.2, rfl⟩) r).2.1
        refine j_aload E dX7_mount_83 rfl ?_
        refine j_iconst (v := 0) E dX7_mount_85 ci_0 ?_
        refine pf_X7_138 E ((u73 _ hfa).trans ((u67 _ (fun r => absurd (K0.2 _ _ _ _ _ _ (show live (th S 0) 12 (nn (S.1 15 (nn a) 0)) 0 from ⟨hf.2, rfl⟩) (show live (th S 0) 15 (nn a) 0 from ⟨ha.2, rfl⟩) r).1 (by decide))).trans ((u62 _ (fun r => absurd (K0.2 _ _ _ _ _ _ (show live (th S 0) 12 (nn (S.1 15 (nn a) 0)) 0 from ⟨hf.2, rfl⟩) (show live (th S 0) 15 (nn a) 0 from ⟨ha.2, rfl⟩) r).1 (by decide))).trans (K0.x12 hf.2)))) ⟨rfl, rfl⟩ (Nat.le_of_ble_eq_true rfl) dX7_mount_86 (fun h86 hMo u86 => ?_)
        refine j_aload E dX7_mount_89 rfl ?_
        refine gf_X7_187 E hMo rfl dX7_mount_91 ?_
        have e9 : p_mount S a mo = (s1 (s1 (th S 0) 15 (nn a) 0 mo) 16 (nn a) 0 (-1), S.1 15 (nn a) 0) := by unfold p_mount; rw [if_neg (bt hx), if_neg (bt hy), if_neg (i32_nlt c_22), if_neg hfree]
        have K9 : Cls (s1 (s1 (th S 0) 15 (nn a) 0 mo) 16 (nn a) 0 (-1)) gl G ad h86 := K0.mount I.mac ha.2 hmo C.2.2.1.2.2 hfree2 ((u86 _ (fun r => (fun r => absurd (K0.2 _ _ _ _ _ _ (show live (th S 0) 12 (nn (S.1 15 (nn a) 0)) 0 from ⟨hf.2, rfl⟩) (show live (th S 0) 15 (nn a) 0 from ⟨ha.2, rfl⟩) r).1 (by decide)) r.symm)).trans ((u73 _ (fun r => (fun r => absurd (K0.2 _ _ _ _ _ _ (show live (th S 0) 12 (nn mo) 0 from ⟨hmo.2, rfl⟩) (show live (th S 0) 15 (nn a) 0 from ⟨ha.2, rfl⟩) r).1 (by decide)) r.symm)).trans n15)) ((u86 _ (fun r => hfa r.symm)).trans n12) (fun f hf1 hf2 => by rw [nnI_eq hf1 (Nat.lt_trans hf2 (nn_lt _))]; exact hMo) (fun z h15 h12 hff => (u86 z (hff _ hf.1 hf.2)).trans ((u73 z h12).trans ((u67 z h15).trans (u62 z h15))))
        exact j_iret E hr dX7_mount_94 ⟨Nat.le_of_ble_eq_true rfl, Nat.le_of_ble_eq_true rfl⟩ ⟨by rw [e9]; show some (Value.int (nI (nn (S.1 15 (nn a) 0)))) = some (Value.int (S.1 15 (nn a) 0)); rw [← hf.1], by rw [e9]; rfl, by rw [e9]; exact ⟨gl, G, ad, rfl, K9, hI.of rfl (fun _ => rfl) (fun _ => rfl) (fun _ => rfl), I.th.mnt hmo hfree2⟩⟩
    · exact j_throw (cls := "java/lang/IllegalStateException") (text := "the mould is mounted") (ik := 48) (is := 177) (ic := 52) E (by decide) (q_203 E.tb) (q_20 E.tb) xs_177 xa_IllegalStateException xg_IllegalStateException dX7_mount_43 dX7_mount_46 dX7_mount_47 dX7_mount_49 dX7_mount_52 ht ⟨Nat.le_of_ble_eq_true rfl, Nat.le_of_ble_eq_true rfl, Nat.le_of_ble_eq_true rfl, Nat.le_of_ble_eq_true rfl⟩ ⟨Nat.le_of_ble_eq_true rfl, Nat.le_of_ble_eq_true rfl⟩ (Or.inr (Or.inr ⟨rfl, by unfold p_mount; rw [if_neg (bt hx), if_neg (bt hy), if_neg (i32_nlt c_22), if_pos (show mnt S mo = true by rw [hmo.1]; exact b2i_t c_40)]; rfl⟩))
  · exact j_throw (cls := "java/lang/UnsupportedOperationException") (text := "the machine is too weak") (ik := 172) (is := 174) (ic := 176) E (by decide) (q_516 E.tb) (q_27 E.tb) xs_174 xa_UnsupportedOperationException xg_UnsupportedOperationException dX7_mount_25 dX7_mount_28 dX7_mount_29 dX7_mount_31 dX7_mount_34 ht ⟨Nat.le_of_ble_eq_true rfl, Nat.le_of_ble_eq_true rfl, Nat.le_of_ble_eq_true rfl, Nat.le_of_ble_eq_true rfl⟩ ⟨Nat.le_of_ble_eq_true rfl, Nat.le_of_ble_eq_true rfl⟩ (Or.inr (Or.inl ⟨rfl, by unfold p_mount; rw [if_neg (bt hx), if_neg (bt hy), if_pos (i32_ltof c_22)]; rfl⟩))
