/-! the law: one call of the script -/
section LF
variable {p : Program} {l : Launch} {e : Env} {R : Room} {s : State} {m : MethodId} {args : Array Value} {below : List Frame} {meth : Method} {c : Code} {D : va_G} {A : Nat → Prop} {Q : State → Prop} {cells slots : Nat}
set_option maxHeartbeats 4000000 in
set_option maxRecDepth 100000 in
theorem law_switch (E : Cx p l s m args meth c cL_law 9 RL D A) {S : St} {x mo sc o od N : Nat} {f : Nat → Int32} {g : Nat → Int64} {gD : Nat → UInt64} {h : AH} (L : LwS S S (180 * nn (S.1 0 5 0)) x mo o od g gD h) (SX : Scr s A sc N f) {i v : Int32} (hi : i = nI (nn i)) (hN : nn i + 6 ≤ N) (hN2 : N ≤ 3072) (hR : 15 ≤ R.frames ∧ 400 ≤ R.locals ∧ cells + 40 ≤ R.cells ∧ slots + 5200 ≤ R.slots)
    (k : ∀ (S9 : St) (g9 : Nat → Int64) (gD9 : Nat → UInt64) (h9 : AH), LwS S9 S9 (180 * nn (S9.1 0 5 0)) x mo o od g9 gD9 h9 → J p l e R s m args below meth c D A 9 Q (cells + 40) (slots + 5200) h9 1731 [(0, .ref sc), (1, .ref x), (2, .ref mo), (3, .ref o), (4, .ref od), (5, .int i)] []) : J p l e R s m args below meth c D A 9 Q cells slots h 45 [(0, .ref sc), (1, .ref x), (2, .ref mo), (3, .ref o), (4, .ref od), (5, .int i)] [.int v] := by
  by_cases h1 : v < 0
  · refine j_tableOut (tgt := 1731) E dL_law_45 (Or.inl (by rw [i32_lt] at h1; exact h1)) (by decide) ?_
    exact J.wide (by omega) (by omega) (k S g gD h L)
  · by_cases h2 : v ≤ 25
    · obtain ⟨j, hj, rfl⟩ := nI_of2 (M := 25) (n := 25) (by decide) h1 h2
      match j, hj with
      | 0, _ => exact j_tableIn (off := 119) (tgt := 164) E dL_law_45 (by decide) (by decide) (by decide) (by decide) (lc_addResin E L SX hi hN hN2 hR k)
      | 1, _ => exact j_tableIn (off := 175) (tgt := 220) E dL_law_45 (by decide) (by decide) (by decide) (by decide) (lc_fill E L SX hi hN hN2 hR k)
      | 2, _ => exact j_tableIn (off := 243) (tgt := 288) E dL_law_45 (by decide) (by decide) (by decide) (by decide) (lc_empty E L SX hi hN hN2 hR k)
      | 3, _ => exact j_tableIn (off := 299) (tgt := 344) E dL_law_45 (by decide) (by decide) (by decide) (by decide) (lc_lots E L SX hi hN hN2 hR k)
      | 4, _ => exact j_tableIn (off := 312) (tgt := 357) E dL_law_45 (by decide) (by decide) (by decide) (by decide) (lc_hoursToDry E L SX hi hN hN2 hR k)
      | 5, _ => exact j_tableIn (off := 368) (tgt := 413) E dL_law_45 (by decide) (by decide) (by decide) (by decide) (lc_dry E L SX hi hN hN2 hR k)
      | 6, _ => exact j_tableIn (off := 424) (tgt := 469) E dL_law_45 (by decide) (by decide) (by decide) (by decide) (lc_regrind E L SX hi hN hN2 hR k)
      | 7, _ => exact j_tableIn (off := 480) (tgt := 525) E dL_law_45 (by decide) (by decide) (by decide) (by decide) (lc_addMould E L SX hi hN hN2 hR k)
      | 8, _ => exact j_tableIn (off := 584) (tgt := 629) E dL_law_45 (by decide) (by decide) (by decide) (by decide) (lc_setLife E L SX hi hN hN2 hR k)
      | 9, _ => exact j_tableIn (off := 664) (tgt := 709) E dL_law_45 (by decide) (by decide) (by decide) (by decide) (lc_block E L SX hi hN hN2 hR k)
      | 10, _ => exact j_tableIn (off := 732) (tgt := 777) E dL_law_45 (by decide) (by decide) (by decide) (by decide) (lc_repair E L SX hi hN hN2 hR k)
      | 11, _ => exact j_tableIn (off := 800) (tgt := 845) E dL_law_45 (by decide) (by decide) (by decide) (by decide) (lc_nextOpen E L SX hi hN hN2 hR k)
      | 12, _ => exact j_tableIn (off := 868) (tgt := 913) E dL_law_45 (by decide) (by decide) (by decide) (by decide) (lc_addMachine E L SX hi hN hN2 hR k)
      | 13, _ => exact j_tableIn (off := 924) (tgt := 969) E dL_law_45 (by decide) (by decide) (by decide) (by decide) (lc_mount E L SX hi hN hN2 hR k)
      | 14, _ => exact j_tableIn (off := 992) (tgt := 1037) E dL_law_45 (by decide) (by decide) (by decide) (by decide) (lc_run E L SX hi hN hN2 hR k)
      | 15, _ => exact j_tableIn (off := 1060) (tgt := 1105) E dL_law_45 (by decide) (by decide) (by decide) (by decide) (lc_order E L SX hi hN hN2 hR k)
      | 16, _ => exact j_tableIn (off := 1152) (tgt := 1197) E dL_law_45 (by decide) (by decide) (by decide) (by decide) (lc_lacks E L SX hi hN hN2 hR k)
      | 17, _ => exact j_tableIn (off := 1208) (tgt := 1253) E dL_law_45 (by decide) (by decide) (by decide) (by decide) (lc_hoursNeeded E L SX hi hN hN2 hR k)
      | 18, _ => exact j_tableIn (off := 1264) (tgt := 1309) E dL_law_45 (by decide) (by decide) (by decide) (by decide) (lc_shots E L SX hi hN hN2 hR k)
      | 19, _ => exact j_tableIn (off := 1320) (tgt := 1365) E dL_law_45 (by decide) (by decide) (by decide) (by decide) (lc_regrindIn E L SX hi hN hN2 hR k)
      | 20, _ => exact j_tableIn (off := 1375) (tgt := 1420) E dL_law_45 (by decide) (by decide) (by decide) (by decide) (lc_regrindByShots E L SX hi hN hN2 hR k)
      | 21, _ => exact j_tableIn (off := 1430) (tgt := 1475) E dL_law_45 (by decide) (by decide) (by decide) (by decide) (lc_greatestShare E L SX hi hN hN2 hR k)
      | 22, _ => exact j_tableIn (off := 1486) (tgt := 1531) E dL_law_45 (by decide) (by decide) (by decide) (by decide) (lc_pass E L SX hi hN hN2 hR k)
      | 23, _ => exact j_tableIn (off := 1542) (tgt := 1587) E dL_law_45 (by decide) (by decide) (by decide) (by decide) (lc_hours E L SX hi hN hN2 hR k)
      | 24, _ => exact j_tableIn (off := 1555) (tgt := 1600) E dL_law_45 (by decide) (by decide) (by decide) (by decide) (lc_regrindShare E L SX hi hN hN2 hR k)
      | 25, _ => exact j_tableIn (off := 1621) (tgt := 1666) E dL_law_45 (by decide) (by decide) (by decide) (by decide) (lc_meanParts E L SX hi hN hN2 hR k)
      | k9 + 26, h9 => omega
    · have h25 : (25 : Int32).toInt = 25 := by decide
      have hv : 25 < v.toInt := by rw [i32_le, h25] at h2; omega
      refine j_tableOut (tgt := 1731) E dL_law_45 (Or.inr hv) (by decide) ?_
      exact J.wide (by omega) (by omega) (k S g gD h L)
theorem sub6 {N : Nat} (hN2 : N ≤ 3072) : (nI N - 6 : Int32).toInt = (N : Int) - 6 := by
  have e6 : (6 : Int32).toInt = 6 := by decide
  rw [Int32.toInt_sub, nI_toInt (by omega), e6]
  rw [Int.bmod_eq_of_le] <;> omega
set_option maxHeartbeats 4000000 in
set_option maxRecDepth 100000 in
theorem law_loop {mc ms : Nat} (E : Cx p l s m args meth c cL_law 9 RL D A) {x mo sc o od N : Nat} {f : Nat → Int32} (SX : Scr s A sc N f) (kend : ∀ (cells slots : Nat) (h : AH) (lo : List (Nat × Value)), cells ≤ mc → slots ≤ ms → J p l e R s m args below meth c D A 9 Q cells slots h 1738 lo [.int 1]) (hN2 : N ≤ 3072) (hF : 15 ≤ R.frames ∧ 400 ≤ R.locals) : ∀ (n cells slots : Nat) (i : Int32) (S : St) (g : Nat → Int64) (gD : Nat → UInt64) (h : AH), i = nI (nn i) → N < nn i + 6 * (n + 1) → nn i ≤ 3072 → cells + 40 * n ≤ R.cells ∧ slots + 5200 * n ≤ R.slots → cells + 40 * n ≤ mc ∧ slots + 5200 * n ≤ ms → LwS S S (180 * nn (S.1 0 5 0)) x mo o od g gD h → J p l e R s m args below meth c D A 9 Q cells slots h 28 [(0, .ref sc), (1, .ref x), (2, .ref mo), (3, .ref o), (4, .ref od), (5, .int i)] [] := by
  intro n
  induction n with
  | zero =>
    intro cells slots i S g gD h hi hn hi3 hR hroom L
    have hgt : ¬ ¬ (nI N - 6 : Int32) < i := fun q => q (by rw [i32_lt, sub6 hN2, ntoI hi]; omega)
    refine j_iload E dL_law_28 rfl ?_
    refine j_aload_n E dL_law_30 rfl ?_
    refine j_slen E SX dL_law_31 ?_
    refine j_bipush (v := 6) E dL_law_32 cb_6 ?_
    refine j_isub E dL_law_34 ?_
    refine j_icmp_gt (tgt := 1737) E dL_law_35 (by decide) (fun _ => ?_) (fun q => (hgt q).elim)
    refine j_iconst (v := 1) E dL_law_1737 ci_1 ?_
    exact kend _ _ h _ (by omega) (by omega)
  | succ n ih =>
    intro cells slots i S g gD h hi hn hi3 hR hroom L
    by_cases hc9 : (nI N - 6 : Int32) < i
    · have hgt : ¬ ¬ (nI N - 6 : Int32) < i := fun q => q hc9
      refine j_iload E dL_law_28 rfl ?_
      refine j_aload_n E dL_law_30 rfl ?_
      refine j_slen E SX dL_law_31 ?_
      refine j_bipush (v := 6) E dL_law_32 cb_6 ?_
      refine j_isub E dL_law_34 ?_
      refine j_icmp_gt (tgt := 1737) E dL_law_35 (by decide) (fun _ => ?_) (fun q => (hgt q).elim)
      refine j_iconst (v := 1) E dL_law_1737 ci_1 ?_
      exact kend _ _ h _ (by omega) (by omega)
    · have hle : ¬ (nI N - 6 : Int32) < i := hc9
      have hn6 : nn i + 6 ≤ N := by rw [i32_lt, sub6 hN2, ntoI hi] at hc9; omega
      refine j_iload E dL_law_28 rfl ?_
      refine j_aload_n E dL_law_30 rfl ?_
      refine j_slen E SX dL_law_31 ?_
      refine j_bipush (v := 6) E dL_law_32 cb_6 ?_
      refine j_isub E dL_law_34 ?_
      refine j_icmp_gt (tgt := 1737) E dL_law_35 (by decide) (fun q => (hle q).elim) (fun _ => ?_)
      refine j_aload_n E dL_law_38 rfl ?_
      refine j_iload E dL_law_39 rfl ?_
      refine j_sld E SX (vin_of hi (k := N) (by omega) (Nat.le_refl _) (by omega)) dL_law_41 ?_
      refine j_bipush (v := 31) E dL_law_42 cb_31 ?_
      refine j_iand E dL_law_44 ?_
      refine law_switch E L SX hi hn6 hN2 ⟨hF.1, hF.2, by omega, by omega⟩ (fun S9 g9 gD9 h9 L9 => ?_)
      refine j_iincK (k := 6) E (by decide) dL_law_1731 rfl (by decide) ?_
      refine j_goto (tgt := 28) E dL_law_1734 (by decide) ?_
      have e6 : (6 : Int32) = nI (nn 6) := by decide
      have n6 : nn (6 : Int32) = 6 := by decide
      obtain ⟨a1, a2⟩ := nadd hi e6 (by rw [n6]; omega)
      rw [n6] at a2
      refine J.sub (lo' := [(5, .int (i + 6)), (0, .ref sc), (1, .ref x), (2, .ref mo), (3, .ref o), (4, .ref od)]) ⟨rfl, rfl, rfl, rfl, rfl, rfl, trivial⟩ ?_
      refine J.sub (lo' := [(0, .ref sc), (1, .ref x), (2, .ref mo), (3, .ref o), (4, .ref od), (5, .int (i + 6))]) ⟨rfl, rfl, rfl, rfl, rfl, rfl, trivial⟩ ?_
      exact ih (cells + 40) (slots + 5200) (i + 6) S9 g9 gD9 h9 a1 (by rw [a2]; omega) (by rw [a2]; omega) ⟨by omega, by omega⟩ ⟨by omega, by omega⟩ L9
end LF
