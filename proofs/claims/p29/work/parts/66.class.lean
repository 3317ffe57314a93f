/-! the class: an hour -/
theorem ring2 (a g x r p : Int32) (h : a - g - x = r - (p + g)) : a - x = r - p := by grind
theorem shl_l {o : Nat} : ∀ (n : Nat) (S : St) (p : Int32), S.1 19 o 0 - (shl S o p n).1.1 19 o 0 = (shl S o p n).2 - p
  | 0, S, p => by show S.1 19 o 0 - S.1 19 o 0 = p - p; rw [Int32.sub_self, Int32.sub_self]
  | n + 1, S, p => by
    unfold shl
    split
    · split
      · have e := shl_l (o := o) n (shoot S o) (p + sGets S o)
        rw [shoot_19, if_pos rfl] at e
        exact ring2 _ _ _ _ _ e
      · show S.1 19 o 0 - S.1 19 o 0 = p - p; rw [Int32.sub_self, Int32.sub_self]
    · show S.1 19 o 0 - S.1 19 o 0 = p - p; rw [Int32.sub_self, Int32.sub_self]
theorem shl_p {o : Nat} : ∀ (n : Nat) (S : St) (p : Int32), shl S o p n = ((shl S o 0 n).1, p + (shl S o 0 n).2)
  | 0, S, p => by show (S, p) = (S, p + 0); rw [Int32.add_zero]
  | n + 1, S, p => by
    unfold shl
    split
    · split
      · rw [shl_p n (shoot S o) (p + sGets S o), shl_p n (shoot S o) (0 + sGets S o), Int32.zero_add, Int32.add_assoc]
      · rw [Int32.add_zero]
    · rw [Int32.add_zero]
theorem mcS_p {S : St} {p : Int32} {k : Nat} : mcS S p k = ((mcS S 0 k).1, p + (mcS S 0 k).2) := by
  unfold mcS
  split
  · rw [Int32.add_zero]
  · exact shl_p _ _ _
theorem mref_n {f : Nat → Nat} {x : Int32} {st : List Value} (h : x = -1) : mref x f :: st = .null :: st := by unfold mref; rw [if_pos h]
theorem mref_y {f : Nat → Nat} {x : Int32} {st : List Value} (h : ¬ x = -1) : mref x f :: st = .ref (f (nn x)) :: st := by unfold mref; rw [if_neg h]
theorem nI_m1 {x : Int32} (h : x = nI (nn x)) : ¬ x = -1 := fun q => by rw [q] at h; exact absurd h (by decide)
set_option maxHeartbeats 4000000 in
set_option maxRecDepth 100000 in
theorem k_workOneHour (l : Launch) (D : va_G) (S : St) (gl : Nat → Nat) (G : Nat → Nat → Int32) (ad : Ad) (h : AH) (K0 : Cls S gl G ad h) (C : Cnt S) (B : Nat) (I : Inv S B) (hB : B + 60 < 1000000) (hI : IG S gl G) (k : Nat) (hk : k < nn (S.1 0 3 0)) : Ctr l D yX7_workOneHour cX7_workOneHour 7 (some .int) 5 116 0 0 [.ref (ad 0 0 0), .ref (ad 15 k 0)] h (fun _ => False) (fun r9 h' => r9 = some (.int (mcS S 0 k).2) ∧ ∃ G', Cls (mcS S 0 k).1 gl G' ad h' ∧ IG (mcS S 0 k).1 gl G') := by
  refine Ctr.of RX7 rfl (by decide) (Nat.le_of_ble_eq_true rfl) ?_
  intro sz p e s m below meth c E hin hr ht
  refine j_aload_n E dX7_workOneHour_0 rfl ?_
  refine gf_X7_183 E (K0.x15 hk) rfl dX7_workOneHour_1 ?_
  by_cases h16 : S.1 16 k 0 = -1
  · refine J.stk (mref_n h16) ?_
    refine j_astore_nN E dX7_workOneHour_4 (by decide) ?_
    refine j_aload_nN E dX7_workOneHour_5 rfl ?_
    refine j_ifnullN (tgt := 20) E dX7_workOneHour_6 (by decide) ?_
    refine j_iconst (v := 0) E dX7_workOneHour_20 ci_0 ?_
    have hf : mcS S 0 k = (S, 0) := by unfold mcS; rw [if_pos h16]
    exact j_iret E hr dX7_workOneHour_21 ⟨Nat.le_of_ble_eq_true rfl, Nat.le_of_ble_eq_true rfl⟩ ⟨by rw [hf], G, by rw [hf]; exact ⟨K0, hI⟩⟩
  · refine J.stk (mref_y h16) ?_
    obtain ⟨⟨e16, ho⟩, ⟨e15, h15⟩, r10, r60⟩ := most_le I hk h16
    have e57 : S.1 15 k 0 = S.1 17 (nn (S.1 16 k 0)) 0 := ((I.mac.1 k hk).2.resolve_left h16).2.2
    rw [e57] at e15 h15 r10 r60
    have hr60 : Rg (3600 / S.1 10 (nn (S.1 17 (nn (S.1 16 k 0)) 0)) 0) 1 60 := r60
    have hmc : mcS S 0 k = shl S (nn (S.1 16 k 0)) 0 (nn (3600 / S.1 10 (nn (S.1 17 (nn (S.1 16 k 0)) 0)) 0)) := by unfold mcS; rw [if_neg h16, e57]
    refine j_astore_n E dX7_workOneHour_4 (by decide) ?_
    refine j_aload_n E dX7_workOneHour_5 rfl ?_
    refine j_ifnull E dX7_workOneHour_6 ?_
    refine j_aload_n E dX7_workOneHour_9 rfl ?_
    refine gf_X7_179 E (K0.x15 hk) rfl dX7_workOneHour_10 ?_
    refine J.stk (st' := [.ref (ad 12 (nn (S.1 17 (nn (S.1 16 k 0)) 0)) 0)]) (by rw [e57]; exact mref_y (nI_m1 e15)) ?_
    refine j_aload_n E dX7_workOneHour_13 rfl ?_
    refine gf_X7_194 E (K0.x16 ho) rfl dX7_workOneHour_14 ?_
    refine j_acmp_eq (tgt := 22) (x := some (ad 12 (nn (S.1 17 (nn (S.1 16 k 0)) 0)) 0)) (y := some (ad 12 (nn (S.1 17 (nn (S.1 16 k 0)) 0)) 0)) E dX7_workOneHour_17 (by decide) (fun _ => ?_) (fun q => (q rfl).elim)
    refine j_aload_n E dX7_workOneHour_22 rfl ?_
    refine gf_X7_213 E (K0.x16 ho) rfl dX7_workOneHour_23 ?_
    refine j_istore_n E dX7_workOneHour_26 (by decide) ?_
    refine j_aload_n E dX7_workOneHour_27 rfl ?_
    refine gf_X7_194 E (K0.x16 ho) rfl dX7_workOneHour_28 ?_
    refine j_callV E (k_shotsOfHour l D S gl G ad h K0 C (nn (S.1 17 (nn (S.1 16 k 0)) 0)) h15 I.mou) (cw_X7_202 E ⟨Nat.le_of_ble_eq_true rfl, Nat.le_of_ble_eq_true rfl, Nat.le_of_ble_eq_true rfl, Nat.le_of_ble_eq_true rfl, Nat.le_of_ble_eq_true rfl⟩) (q_549 E.tb) (q_550 E.tb) (K0.x12 h15) rfl rfl dX7_workOneHour_31 rfl (fun v31 h31 p31 => ?_)
    obtain ⟨rfl, rfl⟩ := p31
    refine j_istore E dX7_workOneHour_34 (by decide) ?_
    refine j_iconst (v := 1) E dX7_workOneHour_36 ci_1 ?_
    refine j_istore E dX7_workOneHour_37 (by decide) ?_
    refine j_iconst (v := 0) E dX7_workOneHour_39 ci_0 ?_
    refine j_istore E dX7_workOneHour_40 (by decide) ?_
    have K : ∀ (n : Nat) (y p2 : Int32) (S2 : St) (G2 : Nat → Nat → Int32) (h2 : AH), y = nI (nn y) → nn y + n = nn (3600 / S.1 10 (nn (S.1 17 (nn (S.1 16 k 0)) 0)) 0) → shl S2 (nn (S.1 16 k 0)) p2 n = shl S (nn (S.1 16 k 0)) 0 (nn (3600 / S.1 10 (nn (S.1 17 (nn (S.1 16 k 0)) 0)) 0)) → Inv S2 (B + nn y) → IG S2 gl G2 → (nn (S.1 16 k 0)) < nn (S2.1 0 4 0) → Cls S2 gl G2 ad h2 → J p l e { frames := 5, cells := 0, slots := 0, locals := 116 } s m [.ref (ad 0 0 0), .ref (ad 15 k 0)].toArray below meth c D (Afr h sz) 7 (vx_MQ below (Qcs D h sz (fun r9 h' => r9 = some (.int (mcS S 0 k).2) ∧ ∃ G', Cls (mcS S 0 k).1 gl G' ad h' ∧ IG (mcS S 0 k).1 gl G')) (Xcs D h sz (fun _ => False)) [.ref (ad 0 0 0), .ref (ad 15 k 0)].toArray s 0 0 (Afr h sz)) 0 0 h2 42 [(5, .int 1), (6, .int y), (0, .ref (ad 0 0 0)), (2, .ref (ad 16 (nn (S.1 16 k 0)) 0)), (3, .int (S.1 19 (nn (S.1 16 k 0)) 0)), (4, .int (3600 / S.1 10 (nn (S.1 17 (nn (S.1 16 k 0)) 0)) 0))] [] := by
      intro n
      induction n with
      | zero =>
        intro y p2 S2 G2 h2 hy hn hs I2 hI2 ho2 K0
        refine j_iload E dX7_workOneHour_42 rfl ?_
        refine j_iload E dX7_workOneHour_44 rfl ?_
        refine j_icmp_ge (tgt := 74) E dX7_workOneHour_46 (by decide) (fun _ => ?_) (fun q => (q (ge_of hy hr60.1 (by show nn (3600 / S.1 10 (nn (S.1 17 (nn (S.1 16 k 0)) 0)) 0) ≤ nn y; omega) (nn_lt y))).elim)
        refine j_iload_n E dX7_workOneHour_74 rfl ?_
        refine j_aload_n E dX7_workOneHour_75 rfl ?_
        refine gf_X7_213 E (K0.x16 ho2) rfl dX7_workOneHour_76 ?_
        refine j_isub E dX7_workOneHour_79 ?_
        have hf : (S2, p2) = mcS S 0 k := by rw [hmc, ← hs]; rfl
        have hl := shl_l (o := (nn (S.1 16 k 0))) (nn (3600 / S.1 10 (nn (S.1 17 (nn (S.1 16 k 0)) 0)) 0)) S 0
        rw [← hmc, ← hf] at hl
        exact j_iret E hr dX7_workOneHour_80 ⟨Nat.le_of_ble_eq_true rfl, Nat.le_of_ble_eq_true rfl⟩ ⟨by rw [← hf]; show some (Value.int (S.1 19 (nn (S.1 16 k 0)) 0 - S2.1 19 (nn (S.1 16 k 0)) 0)) = some (Value.int p2); rw [show S.1 19 (nn (S.1 16 k 0)) 0 - S2.1 19 (nn (S.1 16 k 0)) 0 = p2 - 0 from hl, Int32.sub_zero], G2, by rw [← hf]; exact ⟨K0, hI2⟩⟩
      | succ n ih =>
        intro y p2 S2 G2 h2 hy hn hs I2 hI2 ho2 K0
        have hy60 : nn y < 60 := by have := hr60.2.2; omega
        refine j_iload E dX7_workOneHour_42 rfl ?_
        refine j_iload E dX7_workOneHour_44 rfl ?_
        refine j_icmp_ge (tgt := 74) E dX7_workOneHour_46 (by decide) (fun q => (nge_of hy hr60.1 (by show nn y < nn (3600 / S.1 10 (nn (S.1 17 (nn (S.1 16 k 0)) 0)) 0); omega) (nn_lt _) q).elim) (fun _ => ?_)
        refine j_iload E dX7_workOneHour_49 rfl ?_
        refine j_if_eq (tgt := 74) E dX7_workOneHour_51 (by decide) (fun q => (ne1_0 q).elim) (fun _ => ?_)
        refine j_aload_n E dX7_workOneHour_54 rfl ?_
        refine j_callV E (k_isOpen l D S2 gl G2 ad h2 K0 I2.cnt (nn (S.1 16 k 0)) ho2) (cw_X7_197 E ⟨Nat.le_of_ble_eq_true rfl, Nat.le_of_ble_eq_true rfl, Nat.le_of_ble_eq_true rfl, Nat.le_of_ble_eq_true rfl, Nat.le_of_ble_eq_true rfl⟩) (q_544 E.tb) (q_545 E.tb) (K0.x16 ho2) rfl rfl dX7_workOneHour_55 rfl (fun v55 h55 p55 => ?_)
        obtain ⟨rfl, rfl⟩ := p55
        refine j_if_eq (tgt := 74) E dX7_workOneHour_58 (by decide) (fun c_58 => ?_) (fun c_58 => ?_)
        · refine j_iload_n E dX7_workOneHour_74 rfl ?_
          refine j_aload_n E dX7_workOneHour_75 rfl ?_
          refine gf_X7_213 E (K0.x16 ho2) rfl dX7_workOneHour_76 ?_
          refine j_isub E dX7_workOneHour_79 ?_
          have hf : (S2, p2) = mcS S 0 k := by rw [hmc, ← hs]; show _ = if 0 < S2.1 19 (nn (S.1 16 k 0)) 0 then (if sOK S2 (nn (S.1 16 k 0)) = true then _ else (S2, p2)) else (S2, p2); rw [if_neg (of_decide_eq_false (b2i_f c_58))]
          have hl := shl_l (o := (nn (S.1 16 k 0))) (nn (3600 / S.1 10 (nn (S.1 17 (nn (S.1 16 k 0)) 0)) 0)) S 0
          rw [← hmc, ← hf] at hl
          exact j_iret E hr dX7_workOneHour_80 ⟨Nat.le_of_ble_eq_true rfl, Nat.le_of_ble_eq_true rfl⟩ ⟨by rw [← hf]; show some (Value.int (S.1 19 (nn (S.1 16 k 0)) 0 - S2.1 19 (nn (S.1 16 k 0)) 0)) = some (Value.int p2); rw [show S.1 19 (nn (S.1 16 k 0)) 0 - S2.1 19 (nn (S.1 16 k 0)) 0 = p2 - 0 from hl, Int32.sub_zero], G2, by rw [← hf]; exact ⟨K0, hI2⟩⟩
        · refine j_aload_n E dX7_workOneHour_61 rfl ?_
          refine j_aload_n E dX7_workOneHour_62 rfl ?_
          refine j_callV E (k_makeShot l D S2 gl G2 ad h2 K0 I2.cnt (B + nn y) I2 hI2 (nn (S.1 16 k 0)) ho2 (of_decide_eq_true (b2i_t c_58))) (cw_X7_292 E ⟨Nat.le_of_ble_eq_true rfl, Nat.le_of_ble_eq_true rfl, Nat.le_of_ble_eq_true rfl, Nat.le_of_ble_eq_true rfl, Nat.le_of_ble_eq_true rfl⟩) (q_658 E.tb) (q_8 E.tb) K0.x0 rfl rfl dX7_workOneHour_63 rfl (fun v63 h63 p63 => ?_)
          obtain ⟨rfl, G3, K3, hI3⟩ := p63
          by_cases hok : sOK S2 (nn (S.1 16 k 0)) = true
          · refine J.stk (st' := [.int 1]) (by rw [hok]; rfl) ?_
            rw [show shS S2 (nn (S.1 16 k 0)) = shoot S2 (nn (S.1 16 k 0)) from if_pos hok] at K3 hI3
            refine j_istore E dX7_workOneHour_66 (by decide) ?_
            refine j_iincK (k := 1) E ci_1 dX7_workOneHour_68 rfl (by decide) ?_
            refine j_goto (tgt := 42) E dX7_workOneHour_71 (by decide) ?_
            obtain ⟨a1, a2⟩ := nn_s hy hy60 (by decide)
            refine J.sub (lo' := [(5, .int 1), (6, .int (y + 1)), (0, .ref (ad 0 0 0)), (2, .ref (ad 16 (nn (S.1 16 k 0)) 0)), (3, .int (S.1 19 (nn (S.1 16 k 0)) 0)), (4, .int (3600 / S.1 10 (nn (S.1 17 (nn (S.1 16 k 0)) 0)) 0))]) ⟨rfl, rfl, rfl, rfl, rfl, rfl, trivial⟩ ?_
            exact ih (y + 1) (p2 + sGets S2 (nn (S.1 16 k 0))) (shoot S2 (nn (S.1 16 k 0))) G3 _ a1 (by omega) (by rw [← hs]; show _ = if 0 < S2.1 19 (nn (S.1 16 k 0)) 0 then (if sOK S2 (nn (S.1 16 k 0)) = true then _ else (S2, p2)) else (S2, p2); rw [if_pos (of_decide_eq_true (b2i_t c_58)), if_pos hok]) (by rw [a2]; exact shoot_inv (B := B + nn y) I2 ho2 (sOK_many hok) (by omega)) hI3 (by rw [shoot_0 (by decide) (by decide)]; exact ho2) K3
          · refine J.stk (st' := [.int 0]) (by rw [eq_false_of_ne_true hok]; rfl) ?_
            rw [show shS S2 (nn (S.1 16 k 0)) = S2 from if_neg hok] at K3 hI3
            refine j_istore E dX7_workOneHour_66 (by decide) ?_
            refine j_iincK (k := 1) E ci_1 dX7_workOneHour_68 rfl (by decide) ?_
            refine j_goto (tgt := 42) E dX7_workOneHour_71 (by decide) ?_
            refine j_iload E dX7_workOneHour_42 rfl ?_
            refine j_iload E dX7_workOneHour_44 rfl ?_
            refine j_icmp_ge (tgt := 74) E dX7_workOneHour_46 (by decide) (fun c_46 => ?_) (fun c_46 => ?_)
            · refine j_iload_n E dX7_workOneHour_74 rfl ?_
              refine j_aload_n E dX7_workOneHour_75 rfl ?_
              refine gf_X7_213 E (K3.x16 ho2) rfl dX7_workOneHour_76 ?_
              refine j_isub E dX7_workOneHour_79 ?_
              have K0 := K3
              have hI2 := hI3
              have hf : (S2, p2) = mcS S 0 k := by rw [hmc, ← hs]; show _ = if 0 < S2.1 19 (nn (S.1 16 k 0)) 0 then (if sOK S2 (nn (S.1 16 k 0)) = true then _ else (S2, p2)) else (S2, p2); rw [if_pos (of_decide_eq_true (b2i_t c_58)), if_neg hok]
              have hl := shl_l (o := (nn (S.1 16 k 0))) (nn (3600 / S.1 10 (nn (S.1 17 (nn (S.1 16 k 0)) 0)) 0)) S 0
              rw [← hmc, ← hf] at hl
              exact j_iret E hr dX7_workOneHour_80 ⟨Nat.le_of_ble_eq_true rfl, Nat.le_of_ble_eq_true rfl⟩ ⟨by rw [← hf]; show some (Value.int (S.1 19 (nn (S.1 16 k 0)) 0 - S2.1 19 (nn (S.1 16 k 0)) 0)) = some (Value.int p2); rw [show S.1 19 (nn (S.1 16 k 0)) 0 - S2.1 19 (nn (S.1 16 k 0)) 0 = p2 - 0 from hl, Int32.sub_zero], G3, by rw [← hf]; exact ⟨K0, hI2⟩⟩
            · refine j_iload E dX7_workOneHour_49 rfl ?_
              refine j_if_eq (tgt := 74) E dX7_workOneHour_51 (by decide) (fun _ => ?_) (fun q => (q rfl).elim)
              refine j_iload_n E dX7_workOneHour_74 rfl ?_
              refine j_aload_n E dX7_workOneHour_75 rfl ?_
              refine gf_X7_213 E (K3.x16 ho2) rfl dX7_workOneHour_76 ?_
              refine j_isub E dX7_workOneHour_79 ?_
              have K0 := K3
              have hI2 := hI3
              have hf : (S2, p2) = mcS S 0 k := by rw [hmc, ← hs]; show _ = if 0 < S2.1 19 (nn (S.1 16 k 0)) 0 then (if sOK S2 (nn (S.1 16 k 0)) = true then _ else (S2, p2)) else (S2, p2); rw [if_pos (of_decide_eq_true (b2i_t c_58)), if_neg hok]
              have hl := shl_l (o := (nn (S.1 16 k 0))) (nn (3600 / S.1 10 (nn (S.1 17 (nn (S.1 16 k 0)) 0)) 0)) S 0
              rw [← hmc, ← hf] at hl
              exact j_iret E hr dX7_workOneHour_80 ⟨Nat.le_of_ble_eq_true rfl, Nat.le_of_ble_eq_true rfl⟩ ⟨by rw [← hf]; show some (Value.int (S.1 19 (nn (S.1 16 k 0)) 0 - S2.1 19 (nn (S.1 16 k 0)) 0)) = some (Value.int p2); rw [show S.1 19 (nn (S.1 16 k 0)) 0 - S2.1 19 (nn (S.1 16 k 0)) 0 = p2 - 0 from hl, Int32.sub_zero], G3, by rw [← hf]; exact ⟨K0, hI2⟩⟩
    refine J.sub (lo' := [(5, .int 1), (6, .int 0), (0, .ref (ad 0 0 0)), (2, .ref (ad 16 (nn (S.1 16 k 0)) 0)), (3, .int (S.1 19 (nn (S.1 16 k 0)) 0)), (4, .int (3600 / S.1 10 (nn (S.1 17 (nn (S.1 16 k 0)) 0)) 0))]) ⟨rfl, rfl, rfl, rfl, rfl, rfl, trivial⟩ ?_
    exact K (nn (3600 / S.1 10 (nn (S.1 17 (nn (S.1 16 k 0)) 0)) 0)) 0 0 S G h e_0 (by rw [nn_0]; omega) rfl (by rw [nn_0]; exact I) hI ho K0
