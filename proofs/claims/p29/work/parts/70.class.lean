/-! the class: next open cavities, hours needed, lives, blocks, repairs -/
def Ok (S : St) (B a0 : Nat) (h : AH) : Prop := ∃ (gl : Nat → Nat) (G : Nat → Nat → Int32) (ad : Ad), ad 0 0 0 = a0 ∧ Cls S gl G ad h ∧ IG S gl G ∧ Inv S B
theorem rg3600 {y : Int32} (h : Rg y 60 3600) : Rg (3600 / y) 1 60 := by
  have e36 : (3600 : Int32) = nI (nn 3600) := by decide
  have e36n : nn (3600 : Int32) = 3600 := by decide
  obtain ⟨d1, d2⟩ := ndiv e36 h.1
  rw [e36n] at d2
  have b3 := h.2.1
  have c1 : 1 ≤ 3600 / nn y := (Nat.one_le_div_iff (by omega)).mpr h.2.2
  have c2 : 3600 / nn y ≤ 3600 / 60 := Nat.div_le_div_left b3 (by decide)
  exact ⟨d1, by rw [d2]; exact c1, by rw [d2]; omega⟩
theorem Inv.c12 {S : St} {B i j : Nat} {v : Int32} (I : Inv S B) : Inv (s1 S 12 i j v) B :=
  ⟨I.cnt.of5 rfl rfl rfl rfl rfl, I.lot.of rfl rfl (fun _ => rfl) (fun _ => rfl), I.mou.of rfl (fun _ => rfl) (fun _ => rfl) (fun _ => rfl) (fun _ => rfl), I.blk.of rfl (fun _ _ => rfl) (fun _ _ => rfl), I.mac.of rfl rfl rfl (fun _ => rfl) (fun _ => rfl) (fun _ => rfl), I.ord.of rfl rfl rfl (fun _ => rfl) (fun _ => rfl) (fun _ => rfl) (fun _ => rfl) (fun _ => rfl) (fun _ => rfl) (fun _ => rfl), I.reg.of rfl (fun _ => rfl), I.all.of rfl rfl, I.hrs⟩
theorem Inv.c11 {S : St} {B i j : Nat} {v : Int32} (I : Inv S B) (hi : i < nn (S.1 0 2 0)) (hv : v = 0 ∨ v = 1) : Inv (s1 S 11 i j v) B := by
  refine ⟨I.cnt.of5 rfl rfl rfl rfl rfl, I.lot.of rfl rfl (fun _ => rfl) (fun _ => rfl), I.mou.of rfl (fun _ => rfl) (fun _ => rfl) (fun _ => rfl) (fun _ => rfl), ⟨fun a b => ?_, fun a b hab => ?_⟩, I.mac.of rfl rfl rfl (fun _ => rfl) (fun _ => rfl) (fun _ => rfl), I.ord.of rfl rfl rfl (fun _ => rfl) (fun _ => rfl) (fun _ => rfl) (fun _ => rfl) (fun _ => rfl) (fun _ => rfl) (fun _ => rfl), I.reg.of rfl (fun _ => rfl), I.all.of rfl rfl, I.hrs⟩
  · by_cases q : a = i ∧ b = j
    · obtain ⟨rfl, rfl⟩ := q
      rw [s1_eq]; exact hv
    · rw [s1_ne (fun r => q r.2)]; exact I.blk.1 a b
  · have hab2 : nn (S.1 0 2 0) ≤ a := hab
    have q : ¬ a = i := by omega
    rw [s1_ne (fun r => q r.2.1)]
    exact I.blk.2 a b hab2
theorem Inv.c13 {S : St} {B i j : Nat} {v : Int32} (I : Inv S B) (hi : i < nn (S.1 0 2 0)) : Inv (s1 S 13 i j v) B := by
  refine ⟨I.cnt.of5 rfl rfl rfl rfl rfl, I.lot.of rfl rfl (fun _ => rfl) (fun _ => rfl), I.mou.of rfl (fun _ => rfl) (fun _ => rfl) (fun _ => rfl) (fun _ => rfl), ⟨fun a b => I.blk.1 a b, fun a b hab => ?_⟩, I.mac.of rfl rfl rfl (fun _ => rfl) (fun _ => rfl) (fun _ => rfl), I.ord.of rfl rfl rfl (fun _ => rfl) (fun _ => rfl) (fun _ => rfl) (fun _ => rfl) (fun _ => rfl) (fun _ => rfl) (fun _ => rfl), I.reg.of rfl (fun _ => rfl), I.all.of rfl rfl, I.hrs⟩
  have hab2 : nn (S.1 0 2 0) ≤ a := hab
  have q : ¬ a = i := by omega
  exact ⟨(I.blk.2 a b hab2).1, (s1_ne (fun r => q r.2.1)).trans (I.blk.2 a b hab2).2⟩
theorem Inv.fls {S : St} {B i j : Nat} (I : Inv S B) (hi : i < nn (S.1 0 2 0)) : Inv (fails S i j) B := I.c11 hi (by split; exact Or.inl rfl; exact Or.inr rfl)
theorem cav_i {S : St} {mo ca : Int32} (C : Cnt S) (I : IMou S) (h1 : isMou S mo = true) (h2 : inB ca 0 (S.1 6 (nn mo) 0 - 1) = true) : isCav S mo ca = true ∧ (mo = nI (nn mo) ∧ nn mo < nn (S.1 0 2 0)) ∧ (ca = nI (nn ca) ∧ nn ca < nn (S.1 6 (nn mo) 0)) := by
  have a := isMou_of C.2.2.1 h1
  exact ⟨by unfold isCav; rw [h1, h2]; rfl, a, inB_cnt (((I _ a.2).1).wide (Nat.zero_le _) (Nat.le_refl _)) (by decide) h2⟩
theorem cav_n1 {S : St} {mo ca : Int32} (h1 : isMou S mo = false) : isCav S mo ca = false := by unfold isCav; rw [h1]; rfl
theorem cav_n2 {S : St} {mo ca : Int32} (h2 : inB ca 0 (S.1 6 (nn mo) 0 - 1) = false) : isCav S mo ca = false := by unfold isCav; rw [h2, Bool.and_false]
set_option maxHeartbeats 4000000 in
set_option maxRecDepth 100000 in
theorem k_nextOpen (l : Launch) (D : va_G) (S : St) (gl : Nat → Nat) (G : Nat → Nat → Int32) (ad : Ad) (h : AH) (K0 : Cls S gl G ad h) (B : Nat) (I : Inv S B) (hI : IG S gl G) (mo f : Int32) : Ctr l D yX7_nextOpen cX7_nextOpen 6 (some .int) 7 112 3 18 [.ref (ad 0 0 0), .int mo, .int f] h (fun E9 => (E9 = "java/lang/IndexOutOfBoundsException" ∧ (p_nextOpen S mo f).1.1 0 8 0 = 1) ∨ (E9 = "java/util/NoSuchElementException" ∧ (p_nextOpen S mo f).1.1 0 8 0 = 2)) (fun r9 h' => r9 = some (.int (p_nextOpen S mo f).2) ∧ (p_nextOpen S mo f).1.1 0 8 0 = 0 ∧ h = h') := by
  refine Ctr.of RX7 rfl (by decide) (Nat.le_of_ble_eq_true rfl) ?_
  intro sz p e s m below meth c E hin hr ht
  have C := I.cnt
  refine j_aload_n E dX7_nextOpen_0 rfl ?_
  refine j_iload_n E dX7_nextOpen_1 rfl ?_
  refine j_callVx E (k_mouldOf l D S gl G ad h K0 C mo) (cw_X7_110 E ⟨Nat.le_of_ble_eq_true rfl, Nat.le_of_ble_eq_true rfl, Nat.le_of_ble_eq_true rfl, Nat.le_of_ble_eq_true rfl, Nat.le_of_ble_eq_true rfl⟩) (q_429 E.tb) (q_3 E.tb) K0.x0 rfl rfl dX7_nextOpen_2 rfl ht rfl (fun Ex q => Or.inl ⟨q.1, by unfold p_nextOpen; rw [if_pos q.2]; rfl⟩) ⟨Nat.le_of_ble_eq_true rfl, Nat.le_of_ble_eq_true rfl⟩ (fun v2 h2 p2 => ?_)
  obtain ⟨rfl, rfl, hx⟩ := p2
  have hm := isMou_of C.2.2.1 hx
  have hc := (I.mou _ hm.2).1
  refine gf_X7_143 E (K0.x12 hm.2) rfl dX7_nextOpen_5 ?_
  refine j_astore_n E dX7_nextOpen_8 (by decide) ?_
  refine j_iload_n E dX7_nextOpen_9 rfl ?_
  refine j_iconst (v := 0) E dX7_nextOpen_10 ci_0 ?_
  refine j_mmax E (q_462 E.tb) (q_338 E.tb) (q_12 E.tb) (q_339 E.tb) ⟨Nat.le_of_ble_eq_true rfl, Nat.le_of_ble_eq_true rfl, Nat.le_of_ble_eq_true rfl, Nat.le_of_ble_eq_true rfl⟩ dX7_nextOpen_11 ?_
  refine j_istore E dX7_nextOpen_14 (by decide) ?_
  have K : ∀ (n : Nat) (y : Int32), y = nI (nn y) → n = nn (S.1 6 (nn mo) 0) - nn y → nxt S (nn mo) (nn y) n = nxtA S (nn mo) f → J p l e { frames := 7, cells := 3, slots := 18, locals := 112 } s m [.ref (ad 0 0 0), .int mo, .int f].toArray below meth c D (Afr h sz) 6 (vx_MQ below (Qcs D h sz (fun r9 h' => r9 = some (.int (p_nextOpen S mo f).2) ∧ (p_nextOpen S mo f).1.1 0 8 0 = 0 ∧ h = h')) (Xcs D h sz (fun E9 => (E9 = "java/lang/IndexOutOfBoundsException" ∧ (p_nextOpen S mo f).1.1 0 8 0 = 1) ∨ (E9 = "java/util/NoSuchElementException" ∧ (p_nextOpen S mo f).1.1 0 8 0 = 2))) [.ref (ad 0 0 0), .int mo, .int f].toArray s 3 18 (Afr h sz)) 2 12 h 16 [(4, .int y), (3, .ref (ad 13 (nn mo) 0))] [] := by
    intro n
    induction n with
    | zero =>
      intro y hy hn hA
      have hc8 := hc.2.2
      refine j_iload E dX7_nextOpen_16 rfl ?_
      refine j_aload_n E dX7_nextOpen_18 rfl ?_
      refine j_alen (v := (S.1 6 (nn mo) 0)) E (K0.x13 hm.2) hc.1.symm dX7_nextOpen_19 ?_
      refine j_icmp_ge (tgt := 51) E dX7_nextOpen_20 (by decide) (fun _ => ?_) (fun q => (q (ge_of hy hc.1 (by show nn (S.1 6 (nn mo) 0) ≤ nn y; omega) (nn_lt y))).elim)
      exact j_throwNSE (cls := "java/util/NoSuchElementException") (text := "no open cavity from here on") (ik := 153) (is := 155) (ic := 157) E (by decide) (q_463 E.tb) (q_19 E.tb) xs_155 xa_NoSuchElementException xg_NoSuchElementException dX7_nextOpen_51 dX7_nextOpen_54 dX7_nextOpen_55 dX7_nextOpen_57 dX7_nextOpen_60 ht ⟨Nat.le_of_ble_eq_true rfl, Nat.le_of_ble_eq_true rfl, Nat.le_of_ble_eq_true rfl, Nat.le_of_ble_eq_true rfl⟩ ⟨Nat.le_of_ble_eq_true rfl, Nat.le_of_ble_eq_true rfl⟩ (Or.inr ⟨rfl, by unfold p_nextOpen; rw [if_neg (bt hx), ← hA]; rfl⟩)
    | succ n ih =>
      intro y hy hn hA
      have hc8 := hc.2.2
      have hlt : nn y < nn (S.1 6 (nn mo) 0) := by omega
      refine j_iload E dX7_nextOpen_16 rfl ?_
      refine j_aload_n E dX7_nextOpen_18 rfl ?_
      refine j_alen (v := (S.1 6 (nn mo) 0)) E (K0.x13 hm.2) hc.1.symm dX7_nextOpen_19 ?_
      refine j_icmp_ge (tgt := 51) E dX7_nextOpen_20 (by decide) (fun q => (nge_of hy hc.1 hlt (nn_lt _) q).elim) (fun _ => ?_)
      refine j_aload_n E dX7_nextOpen_23 rfl ?_
      refine j_iload E dX7_nextOpen_24 rfl ?_
      refine j_aald E (K0.x13 hm.2) rfl (vin_of hy hlt (Nat.le_refl _) (by omega)) dX7_nextOpen_26 ?_
      refine J.stk (rf_y hlt) ?_
      refine j_astore E dX7_nextOpen_27 (by decide) ?_
      refine j_aload E dX7_nextOpen_29 rfl ?_
      refine j_ifnull E dX7_nextOpen_31 ?_
      refine j_aload E dX7_nextOpen_34 rfl ?_
      refine gf_X7_129 E (K0.x14 hm.2 hlt) rfl dX7_nextOpen_36 ?_
      refine j_if_ne (tgt := 45) E dX7_nextOpen_39 (by decide) (fun c_39 => ?_) (fun c_39 => ?_)
      · refine j_iincK (k := 1) E ci_1 dX7_nextOpen_45 rfl (by decide) ?_
        refine j_goto (tgt := 16) E dX7_nextOpen_48 (by decide) ?_
        obtain ⟨a1, a2⟩ := nn_s hy hlt (by omega)
        refine J.sub (lo' := [(4, .int (y + 1)), (3, .ref (ad 13 (nn mo) 0))]) ⟨rfl, rfl, trivial⟩ ?_
        exact ih (y + 1) a1 (by omega) (by rw [a2, ← hA]; show _ = if S.1 11 (nn mo) (nn y) = 0 then some (nn y) else nxt S (nn mo) (nn y + 1) n; rw [if_neg c_39])
      · refine j_iload E dX7_nextOpen_42 rfl ?_
        have e9 : p_nextOpen S mo f = (th S 0, y) := by unfold p_nextOpen; rw [if_neg (bt hx), ← hA]; show (match (if S.1 11 (nn mo) (nn y) = 0 then some (nn y) else nxt S (nn mo) (nn y + 1) n) with | none => _ | some k => _) = _; rw [if_pos c_39]; show (th S 0, nI (nn y)) = _; rw [← hy]
        exact j_iret E hr dX7_nextOpen_44 ⟨Nat.le_of_ble_eq_true rfl, Nat.le_of_ble_eq_true rfl⟩ ⟨by rw [e9], by rw [e9]; rfl, rfl⟩
  refine J.sub (lo' := [(4, .int (nI (nn f))), (3, .ref (ad 13 (nn mo) 0))]) ⟨congrArg (fun q => some (Value.int q)) ((mx_c f).trans (mx0 f)), rfl, trivial⟩ ?_
  have e7 : nn (nI (nn f)) = nn f := nI_clamp (nn_lt f)
  exact K _ (nI (nn f)) (by rw [e7]) (by rw [e7]) (by rw [e7]; rfl)
set_option maxHeartbeats 4000000 in
set_option maxRecDepth 100000 in
theorem k_hoursNeeded (l : Launch) (D : va_G) (S : St) (gl : Nat → Nat) (G : Nat → Nat → Int32) (ad : Ad) (h : AH) (K0 : Cls S gl G ad h) (B : Nat) (I : Inv S B) (hI : IG S gl G) (x : Int32) : Ctr l D yX7_hoursNeeded cX7_hoursNeeded 4 (some .int) 7 112 3 18 [.ref (ad 0 0 0), .int x] h (fun E9 => (E9 = "java/lang/IndexOutOfBoundsException" ∧ (p_hoursNeeded S x).1.1 0 8 0 = 1) ∨ (E9 = "java/util/NoSuchElementException" ∧ (p_hoursNeeded S x).1.1 0 8 0 = 2)) (fun r9 h' => r9 = some (.int (p_hoursNeeded S x).2) ∧ (p_hoursNeeded S x).1.1 0 8 0 = 0 ∧ h = h') := by
  refine Ctr.of RX7 rfl (by decide) (Nat.le_of_ble_eq_true rfl) ?_
  intro sz p e s m below meth c E hin hr ht
  have C := I.cnt
  refine j_aload_n E dX7_hoursNeeded_0 rfl ?_
  refine j_iload_n E dX7_hoursNeeded_1 rfl ?_
  refine j_callVx E (k_orderOf l D S gl G ad h K0 C x) (cw_X7_190 E ⟨Nat.le_of_ble_eq_true rfl, Nat.le_of_ble_eq_true rfl, Nat.le_of_ble_eq_true rfl, Nat.le_of_ble_eq_true rfl, Nat.le_of_ble_eq_true rfl⟩) (q_539 E.tb) (q_5 E.tb) K0.x0 rfl rfl dX7_hoursNeeded_2 rfl ht rfl (fun Ex q => Or.inl ⟨q.1, by unfold p_hoursNeeded; rw [if_pos q.2]; rfl⟩) ⟨Nat.le_of_ble_eq_true rfl, Nat.le_of_ble_eq_true rfl⟩ (fun v2 h2 p2 => ?_)
  obtain ⟨rfl, rfl, hx⟩ := p2
  have ho := isOrd_of C.2.2.2.2 hx
  obtain ⟨h17, h18, h19, h20⟩ := I.ord.1 _ ho.2
  obtain ⟨m6, m7, m8, m10⟩ := I.mou _ h17.2
  refine j_astore_n E dX7_hoursNeeded_5 (by decide) ?_
  refine j_aload_n E dX7_hoursNeeded_6 rfl ?_
  refine j_callV E (k_isOpen l D S gl G ad h K0 C (nn x) ho.2) (cw_X7_197 E ⟨Nat.le_of_ble_eq_true rfl, Nat.le_of_ble_eq_true rfl, Nat.le_of_ble_eq_true rfl, Nat.le_of_ble_eq_true rfl, Nat.le_of_ble_eq_true rfl⟩) (q_544 E.tb) (q_545 E.tb) (K0.x16 ho.2) rfl rfl dX7_hoursNeeded_7 rfl (fun v7 h7 p7 => ?_)
  obtain ⟨rfl, rfl⟩ := p7
  refine j_if_ne (tgt := 15) E dX7_hoursNeeded_10 (by decide) (fun c_10 => ?_) (fun c_10 => ?_)
  · refine j_aload_n E dX7_hoursNeeded_15 rfl ?_
    refine gf_X7_194 E (K0.x16 ho.2) rfl dX7_hoursNeeded_16 ?_
    refine j_callV E (k_openCavities l D S gl G ad h K0 (nn (S.1 17 (nn x) 0)) h17.2 m6) (cw_X7_135 E ⟨Nat.le_of_ble_eq_true rfl, Nat.le_of_ble_eq_true rfl, Nat.le_of_ble_eq_true rfl, Nat.le_of_ble_eq_true rfl, Nat.le_of_ble_eq_true rfl⟩) (q_450 E.tb) (q_451 E.tb) (K0.x12 h17.2) rfl rfl dX7_hoursNeeded_19 rfl (fun v19 h19 p19 => ?_)
    obtain ⟨rfl, rfl⟩ := p19
    refine j_istore_n E dX7_hoursNeeded_22 (by decide) ?_
    refine j_iload_n E dX7_hoursNeeded_23 rfl ?_
    refine j_iconst (v := 1) E dX7_hoursNeeded_24 ci_1 ?_
    refine j_icmp_ge (tgt := 38) E dX7_hoursNeeded_25 (by decide) (fun c_25 => ?_) (fun c_25 => ?_)
    · refine j_aload_n E dX7_hoursNeeded_38 rfl ?_
      refine gf_X7_213 E (K0.x16 ho.2) rfl dX7_hoursNeeded_39 ?_
      refine j_iload_n E dX7_hoursNeeded_42 rfl ?_
      refine j_callS E (k_dividedUp l D _ _ _ c_25) (cw_X7_218 E ⟨Nat.le_of_ble_eq_true rfl, Nat.le_of_ble_eq_true rfl, Nat.le_of_ble_eq_true rfl, Nat.le_of_ble_eq_true rfl, Nat.le_of_ble_eq_true rfl⟩) (q_612 E.tb) rfl dX7_hoursNeeded_43 rfl (fun v43 h43 p43 => ?_)
      obtain ⟨rfl, rfl⟩ := p43
      refine j_aload_n E dX7_hoursNeeded_46 rfl ?_
      refine gf_X7_194 E (K0.x16 ho.2) rfl dX7_hoursNeeded_47 ?_
      refine j_callV E (k_shotsOfHour l D S gl G ad h K0 C (nn (S.1 17 (nn x) 0)) h17.2 I.mou) (cw_X7_202 E ⟨Nat.le_of_ble_eq_true rfl, Nat.le_of_ble_eq_true rfl, Nat.le_of_ble_eq_true rfl, Nat.le_of_ble_eq_true rfl, Nat.le_of_ble_eq_true rfl⟩) (q_549 E.tb) (q_550 E.tb) (K0.x12 h17.2) rfl rfl dX7_hoursNeeded_50 rfl (fun v50 h50 p50 => ?_)
      obtain ⟨rfl, rfl⟩ := p50
      refine j_callS E (k_dividedUp l D _ _ _ (le1_60 (a := 0) (rg3600 m10) (by decide))) (cw_X7_218 E ⟨Nat.le_of_ble_eq_true rfl, Nat.le_of_ble_eq_true rfl, Nat.le_of_ble_eq_true rfl, Nat.le_of_ble_eq_true rfl, Nat.le_of_ble_eq_true rfl⟩) (q_612 E.tb) rfl dX7_hoursNeeded_53 rfl (fun v53 h53 p53 => ?_)
      obtain ⟨rfl, rfl⟩ := p53
      have e9 : p_hoursNeeded S x = (th S 0, hN S (nn x)) := by unfold p_hoursNeeded; rw [if_neg (bt hx), if_pos (of_decide_eq_true (b2i_t c_10)), if_neg (show ¬ sMany S (nn x) = 0 from ge1_ne c_25)]
      exact j_iret E hr dX7_hoursNeeded_56 ⟨Nat.le_of_ble_eq_true rfl, Nat.le_of_ble_eq_true rfl⟩ ⟨by rw [e9]; rfl, by rw [e9]; rfl, rfl⟩
    · exact j_throwNSE (cls := "java/util/NoSuchElementException") (text := "no cavity is open") (ik := 153) (is := 216) (ic := 157) E (by decide) (q_463 E.tb) (q_19 E.tb) xs_216 xa_NoSuchElementException xg_NoSuchElementException dX7_hoursNeeded_28 dX7_hoursNeeded_31 dX7_hoursNeeded_32 dX7_hoursNeeded_34 dX7_hoursNeeded_37 ht ⟨Nat.le_of_ble_eq_true rfl, Nat.le_of_ble_eq_true rfl, Nat.le_of_ble_eq_true rfl, Nat.le_of_ble_eq_true rfl⟩ ⟨Nat.le_of_ble_eq_true rfl, Nat.le_of_ble_eq_true rfl⟩ (Or.inr ⟨rfl, by unfold p_hoursNeeded; rw [if_neg (bt hx), if_pos (of_decide_eq_true (b2i_t c_10)), if_pos (show sMany S (nn x) = 0 from lt1_0 (opn_rg m6).1 (by decide) c_25)]; rfl⟩)
  · refine j_iconst (v := 0) E dX7_hoursNeeded_13 ci_0 ?_
    have e9 : p_hoursNeeded S x = (th S 0, 0) := by unfold p_hoursNeeded; rw [if_neg (bt hx), if_neg (of_decide_eq_false (b2i_f c_10))]
    exact j_iret E hr dX7_hoursNeeded_14 ⟨Nat.le_of_ble_eq_true rfl, Nat.le_of_ble_eq_true rfl⟩ ⟨by rw [e9], by rw [e9]; rfl, rfl⟩
set_option maxHeartbeats 4000000 in
set_option maxRecDepth 100000 in
theorem k_greatestShare (l : Launch) (D : va_G) (S : St) (gl : Nat → Nat) (G : Nat → Nat → Int32) (ad : Ad) (h : AH) (K0 : Cls S gl G ad h) (B : Nat) (I : Inv S B) (hI : IG S gl G) (x : Int32) : Ctr l D yX7_greatestShare cX7_greatestShare 3 (some .int) 7 112 3 18 [.ref (ad 0 0 0), .int x] h (fun E9 => (E9 = "java/lang/IndexOutOfBoundsException" ∧ (p_greatestShare S x).1.1 0 8 0 = 1) ∨ (E9 = "java/util/NoSuchElementException" ∧ (p_greatestShare S x).1.1 0 8 0 = 2)) (fun r9 h' => r9 = some (.int (p_greatestShare S x).2) ∧ (p_greatestShare S x).1.1 0 8 0 = 0 ∧ h = h') := by
  refine Ctr.of RX7 rfl (by decide) (Nat.le_of_ble_eq_true rfl) ?_
  intro sz p e s m below meth c E hin hr ht
  have C := I.cnt
  refine j_aload_n E dX7_greatestShare_0 rfl ?_
  refine j_iload_n E dX7_greatestShare_1 rfl ?_
  refine j_callVx E (k_orderOf l D S gl G ad h K0 C x) (cw_X7_190 E ⟨Nat.le_of_ble_eq_true rfl, Nat.le_of_ble_eq_true rfl, Nat.le_of_ble_eq_true rfl, Nat.le_of_ble_eq_true rfl, Nat.le_of_ble_eq_true rfl⟩) (q_539 E.tb) (q_5 E.tb) K0.x0 rfl rfl dX7_greatestShare_2 rfl ht rfl (fun Ex q => Or.inl ⟨q.1, by unfold p_greatestShare; rw [if_pos q.2]; rfl⟩) ⟨Nat.le_of_ble_eq_true rfl, Nat.le_of_ble_eq_true rfl⟩ (fun v2 h2 p2 => ?_)
  obtain ⟨rfl, rfl, hx⟩ := p2
  have ho := isOrd_of C.2.2.2.2 hx
  have r21 : Rg (S.1 21 (nn x) 0) 0 5000 := ⟨(hI _ ho.2).2.1, Nat.zero_le _, by have q1 := (hI _ ho.2).2.2.1; have q2 := (hI _ ho.2).1; omega⟩
  refine j_astore_n E dX7_greatestShare_5 (by decide) ?_
  refine j_aload_n E dX7_greatestShare_6 rfl ?_
  refine gf_X7_221 E (K0.x16 ho.2) rfl dX7_greatestShare_7 ?_
  refine j_iconst (v := 1) E dX7_greatestShare_10 ci_1 ?_
  refine j_icmp_ge (tgt := 24) E dX7_greatestShare_11 (by decide) (fun c_11 => ?_) (fun c_11 => ?_)
  · refine j_aload_n E dX7_greatestShare_24 rfl ?_
    refine gf_X7_234 E (K0.x16 ho.2) rfl dX7_greatestShare_25 ?_
    have e9 : p_greatestShare S x = (th S 0, S.1 22 (nn x) 0) := by unfold p_greatestShare; rw [if_neg (bt hx), if_neg (ge1_ne c_11)]
    exact j_iret E hr dX7_greatestShare_28 ⟨Nat.le_of_ble_eq_true rfl, Nat.le_of_ble_eq_true rfl⟩ ⟨by rw [e9], by rw [e9]; rfl, rfl⟩
  · exact j_throwNSE (cls := "java/util/NoSuchElementException") (text := "the order has no shots") (ik := 153) (is := 232) (ic := 157) E (by decide) (q_463 E.tb) (q_19 E.tb) xs_232 xa_NoSuchElementException xg_NoSuchElementException dX7_greatestShare_14 dX7_greatestShare_17 dX7_greatestShare_18 dX7_greatestShare_20 dX7_greatestShare_23 ht ⟨Nat.le_of_ble_eq_true rfl, Nat.le_of_ble_eq_true rfl, Nat.le_of_ble_eq_true rfl, Nat.le_of_ble_eq_true rfl⟩ ⟨Nat.le_of_ble_eq_true rfl, Nat.le_of_ble_eq_true rfl⟩ (Or.inr ⟨rfl, by unfold p_greatestShare; rw [if_neg (bt hx), if_pos (lt1_0 r21 (by decide) c_11)]; rfl⟩)
set_option maxHeartbeats 4000000 in
set_option maxRecDepth 100000 in
theorem k_setLife (l : Launch) (D : va_G) (S : St) (gl : Nat → Nat) (G : Nat → Nat → Int32) (ad : Ad) (h : AH) (K0 : Cls S gl G ad h) (B : Nat) (I : Inv S B) (hI : IG S gl G) (mo ca x : Int32) : Ctr l D yX7_setLife cX7_setLife 5 (some .int) 7 113 6 36 [.ref (ad 0 0 0), .int mo, .int ca, .int x] h (fun E9 => (E9 = "java/lang/IndexOutOfBoundsException" ∧ (p_setLife S mo ca x).1.1 0 8 0 = 1) ∨ (E9 = "java/lang/IllegalArgumentException" ∧ (p_setLife S mo ca x).1.1 0 8 0 = 2)) (fun r9 h' => r9 = some (.int (p_setLife S mo ca x).2) ∧ (p_setLife S mo ca x).1.1 0 8 0 = 0 ∧ Ok (p_setLife S mo ca x).1 B (ad 0 0 0) h') := by
  refine Ctr.of RX7 rfl (by decide) (Nat.le_of_ble_eq_true rfl) ?_
  intro sz p e s m below meth c E hin hr ht
  have C := I.cnt
  refine j_aload_n E dX7_setLife_0 rfl ?_
  refine j_iload_n E dX7_setLife_1 rfl ?_
  refine j_callVx E (k_mouldOf l D S gl G ad h K0 C mo) (cw_X7_110 E ⟨Nat.le_of_ble_eq_true rfl, Nat.le_of_ble_eq_true rfl, Nat.le_of_ble_eq_true rfl, Nat.le_of_ble_eq_true rfl, Nat.le_of_ble_eq_true rfl⟩) (q_429 E.tb) (q_3 E.tb) K0.x0 rfl rfl dX7_setLife_2 rfl ht rfl (fun Ex q => Or.inl ⟨q.1, by unfold p_setLife; rw [if_pos (cav_n1 q.2)]; rfl⟩) ⟨Nat.le_of_ble_eq_true rfl, Nat.le_of_ble_eq_true rfl⟩ (fun v2 h2 p2 => ?_)
  obtain ⟨rfl, rfl, hx⟩ := p2
  refine j_iload_n E dX7_setLife_5 rfl ?_
  refine j_callSx E (k_cavityOf l D S gl G ad h K0 C (nn mo) (isMou_of C.2.2.1 hx).2 (I.mou _ (isMou_of C.2.2.1 hx).2).1 ca) (cw_X7_114 E ⟨Nat.le_of_ble_eq_true rfl, Nat.le_of_ble_eq_true rfl, Nat.le_of_ble_eq_true rfl, Nat.le_of_ble_eq_true rfl, Nat.le_of_ble_eq_true rfl⟩) (q_433 E.tb) rfl dX7_setLife_6 rfl ht rfl (fun Ex q => Or.inl ⟨q.1, by unfold p_setLife; rw [if_pos (cav_n2 q.2)]; rfl⟩) ⟨Nat.le_of_ble_eq_true rfl, Nat.le_of_ble_eq_true rfl⟩ (fun v6 h6 p6 => ?_)
  obtain ⟨rfl, rfl, hin⟩ := p6
  obtain ⟨hcav, hm, hj⟩ := cav_i C I.mou hx hin
  refine j_astore E dX7_setLife_9 (by decide) ?_
  refine j_iload_n E dX7_setLife_11 rfl ?_
  refine j_iconst (v := 1) E dX7_setLife_12 ci_1 ?_
  refine j_sipush (v := 9999) E dX7_setLife_13 cs_9999 ?_
  refine j_callSx E (k_requireRange l D h x 1 9999) (cw_X7_40 E ⟨Nat.le_of_ble_eq_true rfl, Nat.le_of_ble_eq_true rfl, Nat.le_of_ble_eq_true rfl, Nat.le_of_ble_eq_true rfl, Nat.le_of_ble_eq_true rfl⟩) (q_129 E.tb) rfl dX7_setLife_16 rfl ht rfl (fun Ex q => Or.inr ⟨q.1, by unfold p_setLife; rw [if_neg (bt hcav), if_pos q.2]; rfl⟩) ⟨Nat.le_of_ble_eq_true rfl, Nat.le_of_ble_eq_true rfl⟩ (fun v16 h16 p16 => ?_)
  obtain ⟨rfl, rfl, hr9⟩ := p16
  have K0 := K0.thr (t := 0)
  refine j_aload E dX7_setLife_19 rfl ?_
  refine j_iload_n E dX7_setLife_21 rfl ?_
  refine pf_X7_118 E (K0.x14 hm.2 hj.2) (Nat.le_of_ble_eq_true rfl) dX7_setLife_22 (fun h22 hCv u22 => ?_)
  have K1 : Cls (s1 (th S 0) 12 (nn mo) (nn ca) x) gl G ad h22 := K0.t12 hm.2 hj.2 hCv u22
  refine j_aload E dX7_setLife_25 rfl ?_
  refine j_callV E (k_failIfWorn l D _ gl G ad _ K1 (nn mo) (nn ca) hm.2 hj.2 I.blk.1) (cw_X7_123 E ⟨Nat.le_of_ble_eq_true rfl, Nat.le_of_ble_eq_true rfl, Nat.le_of_ble_eq_true rfl, Nat.le_of_ble_eq_true rfl, Nat.le_of_ble_eq_true rfl⟩) (q_437 E.tb) (q_438 E.tb) (K1.x14 hm.2 hj.2) rfl rfl dX7_setLife_27 rfl (fun v27 h27 p27 => ?_)
  obtain ⟨rfl, K2⟩ := p27
  refine j_aload E dX7_setLife_30 rfl ?_
  refine gf_X7_126 E (K2.x14 hm.2 hj.2) rfl dX7_setLife_32 ?_
  have e9 : p_setLife S mo ca x = (fails (s1 (th S 0) 12 (nn mo) (nn ca) x) (nn mo) (nn ca), S.1 13 (nn mo) (nn ca)) := by unfold p_setLife; rw [if_neg (bt hcav), if_neg (bt hr9)]
  exact j_iret E hr dX7_setLife_35 ⟨Nat.le_of_ble_eq_true rfl, Nat.le_of_ble_eq_true rfl⟩ ⟨by rw [e9]; rfl, by rw [e9]; rfl, by rw [e9]; exact ⟨gl, G, ad, rfl, K2, hI.of rfl (fun _ => rfl) (fun _ => rfl) (fun _ => rfl), I.th.c12.fls hm.2⟩⟩
set_option maxHeartbeats 4000000 in
set_option maxRecDepth 100000 in
theorem k_block (l : Launch) (D : va_G) (S : St) (gl : Nat → Nat) (G : Nat → Nat → Int32) (ad : Ad) (h : AH) (K0 : Cls S gl G ad h) (B : Nat) (I : Inv S B) (hI : IG S gl G) (mo ca : Int32) : Ctr l D yX7_block cX7_block 5 (some .int) 7 113 5 30 [.ref (ad 0 0 0), .int mo, .int ca] h (fun E9 => (E9 = "java/lang/IndexOutOfBoundsException" ∧ (p_block S mo ca).1.1 0 8 0 = 1) ∨ (E9 = "java/lang/IllegalStateException" ∧ (p_block S mo ca).1.1 0 8 0 = 2)) (fun r9 h' => r9 = some (.int (p_block S mo ca).2) ∧ (p_block S mo ca).1.1 0 8 0 = 0 ∧ Ok (p_block S mo ca).1 B (ad 0 0 0) h') := by
  refine Ctr.of RX7 rfl (by decide) (Nat.le_of_ble_eq_true rfl) ?_
  intro sz p e s m below meth c E hin hr ht
  have C := I.cnt
  refine j_aload_n E dX7_block_0 rfl ?_
  refine j_iload_n E dX7_block_1 rfl ?_
  refine j_callVx E (k_mouldOf l D S gl G ad h K0 C mo) (cw_X7_110 E ⟨Nat.le_of_ble_eq_true rfl, Nat.le_of_ble_eq_true rfl, Nat.le_of_ble_eq_true rfl, Nat.le_of_ble_eq_true rfl, Nat.le_of_ble_eq_true rfl⟩) (q_429 E.tb) (q_3 E.tb) K0.x0 rfl rfl dX7_block_2 rfl ht rfl (fun Ex q => Or.inl ⟨q.1, by unfold p_block; rw [if_pos (cav_n1 q.2)]; rfl⟩) ⟨Nat.le_of_ble_eq_true rfl, Nat.le_of_ble_eq_true rfl⟩ (fun v2 h2 p2 => ?_)
  obtain ⟨rfl, rfl, hx⟩ := p2
  refine j_astore_n E dX7_block_5 (by decide) ?_
  refine j_aload_n E dX7_block_6 rfl ?_
  refine j_iload_n E dX7_block_7 rfl ?_
  refine j_callSx E (k_cavityOf l D S gl G ad h K0 C (nn mo) (isMou_of C.2.2.1 hx).2 (I.mou _ (isMou_of C.2.2.1 hx).2).1 ca) (cw_X7_114 E ⟨Nat.le_of_ble_eq_true rfl, Nat.le_of_ble_eq_true rfl, Nat.le_of_ble_eq_true rfl, Nat.le_of_ble_eq_true rfl, Nat.le_of_ble_eq_true rfl⟩) (q_433 E.tb) rfl dX7_block_8 rfl ht rfl (fun Ex q => Or.inl ⟨q.1, by unfold p_block; rw [if_pos (cav_n2 q.2)]; rfl⟩) ⟨Nat.le_of_ble_eq_true rfl, Nat.le_of_ble_eq_true rfl⟩ (fun v8 h8 p8 => ?_)
  obtain ⟨rfl, rfl, hin⟩ := p8
  obtain ⟨hcav, hm, hj⟩ := cav_i C I.mou hx hin
  refine j_astore E dX7_block_11 (by decide) ?_
  refine j_aload E dX7_block_13 rfl ?_
  refine gf_X7_129 E (K0.x14 hm.2 hj.2) rfl dX7_block_15 ?_
  refine j_if_eq (tgt := 31) E dX7_block_18 (by decide) (fun c_18 => ?_) (fun c_18 => ?_)
  · have K0 := K0.thr (t := 0)
    refine j_aload E dX7_block_31 rfl ?_
    refine j_iconst (v := 1) E dX7_block_33 ci_1 ?_
    refine pf_X7_129 E (K0.x14 hm.2 hj.2) ⟨rfl, rfl⟩ (Nat.le_of_ble_eq_true rfl) dX7_block_34 (fun h34 hCv u34 => ?_)
    have K1 : Cls (s1 (th S 0) 11 (nn mo) (nn ca) 1) gl G ad h34 := K0.t11 hm.2 hj.2 hCv u34
    refine j_aload_n E dX7_block_37 rfl ?_
    refine j_callV E (k_openCavities l D _ gl G ad _ K1 (nn mo) hm.2 (I.mou _ hm.2).1) (cw_X7_135 E ⟨Nat.le_of_ble_eq_true rfl, Nat.le_of_ble_eq_true rfl, Nat.le_of_ble_eq_true rfl, Nat.le_of_ble_eq_true rfl, Nat.le_of_ble_eq_true rfl⟩) (q_450 E.tb) (q_451 E.tb) (K1.x12 hm.2) rfl rfl dX7_block_38 rfl (fun v38 h38 p38 => ?_)
    obtain ⟨rfl, rfl⟩ := p38
    have e9 : p_block S mo ca = (s1 (th S 0) 11 (nn mo) (nn ca) 1, opn (s1 (th S 0) 11 (nn mo) (nn ca) 1) (nn mo)) := by unfold p_block; rw [if_neg (bt hcav), if_pos c_18]
    exact j_iret E hr dX7_block_41 ⟨Nat.le_of_ble_eq_true rfl, Nat.le_of_ble_eq_true rfl⟩ ⟨by rw [e9], by rw [e9]; rfl, by rw [e9]; exact ⟨gl, G, ad, rfl, K1, hI.of rfl (fun _ => rfl) (fun _ => rfl) (fun _ => rfl), I.th.c11 hm.2 (Or.inr rfl)⟩⟩
  · exact j_throw (cls := "java/lang/IllegalStateException") (text := "the cavity is blocked") (ik := 48) (is := 133) (ic := 52) E (by decide) (q_203 E.tb) (q_20 E.tb) xs_133 xa_IllegalStateException xg_IllegalStateException dX7_block_21 dX7_block_24 dX7_block_25 dX7_block_27 dX7_block_30 ht ⟨Nat.le_of_ble_eq_true rfl, Nat.le_of_ble_eq_true rfl, Nat.le_of_ble_eq_true rfl, Nat.le_of_ble_eq_true rfl⟩ ⟨Nat.le_of_ble_eq_true rfl, Nat.le_of_ble_eq_true rfl⟩ (Or.inr ⟨rfl, by unfold p_block; rw [if_neg (bt hcav), if_neg c_18]; rfl⟩)
set_option maxHeartbeats 4000000 in
set_option maxRecDepth 100000 in
theorem k_repair (l : Launch) (D : va_G) (S : St) (gl : Nat → Nat) (G : Nat → Nat → Int32) (ad : Ad) (h : AH) (K0 : Cls S gl G ad h) (B : Nat) (I : Inv S B) (hI : IG S gl G) (mo ca : Int32) : Ctr l D yX7_repair cX7_repair 5 (some .int) 7 113 5 30 [.ref (ad 0 0 0), .int mo, .int ca] h (fun E9 => (E9 = "java/lang/IndexOutOfBoundsException" ∧ (p_repair S mo ca).1.1 0 8 0 = 1) ∨ (E9 = "java/lang/IllegalStateException" ∧ (p_repair S mo ca).1.1 0 8 0 = 2)) (fun r9 h' => r9 = some (.int (p_repair S mo ca).2) ∧ (p_repair S mo ca).1.1 0 8 0 = 0 ∧ Ok (p_repair S mo ca).1 B (ad 0 0 0) h') := by
  refine Ctr.of RX7 rfl (by decide) (Nat.le_of_ble_eq_true rfl) ?_
  intro sz p e s m below meth c E hin hr ht
  have C := I.cnt
  refine j_aload_n E dX7_repair_0 rfl ?_
  refine j_iload_n E dX7_repair_1 rfl ?_
  refine j_callVx E (k_mouldOf l D S gl G ad h K0 C mo) (cw_X7_110 E ⟨Nat.le_of_ble_eq_true rfl, Nat.le_of_ble_eq_true rfl, Nat.le_of_ble_eq_true rfl, Nat.le_of_ble_eq_true rfl, Nat.le_of_ble_eq_true rfl⟩) (q_429 E.tb) (q_3 E.tb) K0.x0 rfl rfl dX7_repair_2 rfl ht rfl (fun Ex q => Or.inl ⟨q.1, by unfold p_repair; rw [if_pos (cav_n1 q.2)]; rfl⟩) ⟨Nat.le_of_ble_eq_true rfl, Nat.le_of_ble_eq_true rfl⟩ (fun v2 h2 p2 => ?_)
  obtain ⟨rfl, rfl, hx⟩ := p2
  refine j_astore_n E dX7_repair_5 (by decide) ?_
  refine j_aload_n E dX7_repair_6 rfl ?_
  refine j_iload_n E dX7_repair_7 rfl ?_
  refine j_callSx E (k_cavityOf l D S gl G ad h K0 C (nn mo) (isMou_of C.2.2.1 hx).2 (I.mou _ (isMou_of C.2.2.1 hx).2).1 ca) (cw_X7_114 E ⟨Nat.le_of_ble_eq_true rfl, Nat.le_of_ble_eq_true rfl, Nat.le_of_ble_eq_true rfl, Nat.le_of_ble_eq_true rfl, Nat.le_of_ble_eq_true rfl⟩) (q_433 E.tb) rfl dX7_repair_8 rfl ht rfl (fun Ex q => Or.inl ⟨q.1, by unfold p_repair; rw [if_pos (cav_n2 q.2)]; rfl⟩) ⟨Nat.le_of_ble_eq_true rfl, Nat.le_of_ble_eq_true rfl⟩ (fun v8 h8 p8 => ?_)
  obtain ⟨rfl, rfl, hin⟩ := p8
  obtain ⟨hcav, hm, hj⟩ := cav_i C I.mou hx hin
  refine j_astore E dX7_repair_11 (by decide) ?_
  refine j_aload E dX7_repair_13 rfl ?_
  refine gf_X7_129 E (K0.x14 hm.2 hj.2) rfl dX7_repair_15 ?_
  refine j_if_eq (tgt := 28) E dX7_repair_18 (by decide) (fun c_18 => ?_) (fun c_18 => ?_)
  · exact j_throw (cls := "java/lang/IllegalStateException") (text := "the cavity is open or the mould is mounted") (ik := 48) (is := 141) (ic := 52) E (by decide) (q_203 E.tb) (q_20 E.tb) xs_141 xa_IllegalStateException xg_IllegalStateException dX7_repair_28 dX7_repair_31 dX7_repair_32 dX7_repair_34 dX7_repair_37 ht ⟨Nat.le_of_ble_eq_true rfl, Nat.le_of_ble_eq_true rfl, Nat.le_of_ble_eq_true rfl, Nat.le_of_ble_eq_true rfl⟩ ⟨Nat.le_of_ble_eq_true rfl, Nat.le_of_ble_eq_true rfl⟩ (Or.inr ⟨rfl, by unfold p_repair; rw [if_neg (bt hcav), if_pos c_18]; rfl⟩)
  · refine j_aload_n E dX7_repair_21 rfl ?_
    refine gf_X7_138 E (K0.x12 hm.2) rfl dX7_repair_22 ?_
    refine j_if_eq (tgt := 38) E dX7_repair_25 (by decide) (fun c_25 => ?_) (fun c_25 => ?_)
    · have K0 := K0.thr (t := 0)
      refine j_aload E dX7_repair_38 rfl ?_
      refine j_iconst (v := 0) E dX7_repair_40 ci_0 ?_
      refine pf_X7_129 E (K0.x14 hm.2 hj.2) ⟨rfl, rfl⟩ (Nat.le_of_ble_eq_true rfl) dX7_repair_41 (fun h41 hCv u41 => ?_)
      have K0 : Cls (s1 (th S 0) 11 (nn mo) (nn ca) 0) gl G ad h41 := K0.t11 hm.2 hj.2 hCv u41
      refine j_aload E dX7_repair_44 rfl ?_
      refine j_iconst (v := 0) E dX7_repair_46 ci_0 ?_
      refine pf_X7_126 E (K0.x14 hm.2 hj.2) (Nat.le_of_ble_eq_true rfl) dX7_repair_47 (fun h47 hCv u47 => ?_)
      have K2 : Cls (s1 (s1 (th S 0) 11 (nn mo) (nn ca) 0) 13 (nn mo) (nn ca) 0) gl G ad h47 := K0.t13 hm.2 hj.2 hCv u47
      refine j_aload_n E dX7_repair_50 rfl ?_
      refine j_callV E (k_openCavities l D _ gl G ad _ K2 (nn mo) hm.2 (I.mou _ hm.2).1) (cw_X7_135 E ⟨Nat.le_of_ble_eq_true rfl, Nat.le_of_ble_eq_true rfl, Nat.le_of_ble_eq_true rfl, Nat.le_of_ble_eq_true rfl, Nat.le_of_ble_eq_true rfl⟩) (q_450 E.tb) (q_451 E.tb) (K2.x12 hm.2) rfl rfl dX7_repair_51 rfl (fun v51 h51 p51 => ?_)
      obtain ⟨rfl, rfl⟩ := p51
      have e9 : p_repair S mo ca = (s1 (s1 (th S 0) 11 (nn mo) (nn ca) 0) 13 (nn mo) (nn ca) 0, opn (s1 (s1 (th S 0) 11 (nn mo) (nn ca) 0) 13 (nn mo) (nn ca) 0) (nn mo)) := by unfold p_repair; rw [if_neg (bt hcav), if_neg c_18, if_neg (show ¬ mnt S mo = true by rw [hm.1]; exact fun q => bt q (b2i_f c_25))]
      exact j_iret E hr dX7_repair_54 ⟨Nat.le_of_ble_eq_true rfl, Nat.le_of_ble_eq_true rfl⟩ ⟨by rw [e9], by rw [e9]; rfl, by rw [e9]; exact ⟨gl, G, ad, rfl, K2, hI.of rfl (fun _ => rfl) (fun _ => rfl) (fun _ => rfl), (I.th.c11 hm.2 (Or.inl rfl)).c13 hm.2⟩⟩
    · exact j_throw (cls := "java/lang/IllegalStateException") (text := "the cavity is open or the mould is mounted") (ik := 48) (is := 141) (ic := 52) E (by decide) (q_203 E.tb) (q_20 E.tb) xs_141 xa_IllegalStateException xg_IllegalStateException dX7_repair_28 dX7_repair_31 dX7_repair_32 dX7_repair_34 dX7_repair_37 ht ⟨Nat.le_of_ble_eq_true rfl, Nat.le_of_ble_eq_true rfl, Nat.le_of_ble_eq_true rfl, Nat.le_of_ble_eq_true rfl⟩ ⟨Nat.le_of_ble_eq_true rfl, Nat.le_of_ble_eq_true rfl⟩ (Or.inr ⟨rfl, by unfold p_repair; rw [if_neg (bt hcav), if_neg c_18, if_pos (show mnt S mo = true by rw [hm.1]; exact b2i_t c_25)]; rfl⟩)
