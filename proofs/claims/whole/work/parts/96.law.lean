/-! the law: the calls that only tell a number -/
theorem LwS.cth {Sc Sm : St} {B x m o od : Nat} {g : Nat → Int64} {gD : Nat → UInt64} {h : AH} (L : LwS Sc Sm B x m o od g gD h) {t : Int32} : LwS (th Sc t) Sm B x m o od g gD h := by
  obtain ⟨hc0, hM, ad, ar, ok, rest⟩ := L
  exact ⟨hc0, hM, ad, ar, ok.thr, rest⟩
section JD
variable {p : Program} {l : Launch} {e : Env} {R : Room} {s : State} {m : MethodId} {args : Array Value} {below : List Frame} {meth : Method} {c : Code} {cc : ByteArray} {nL : Nat} {own : String} {D : va_G} {A : Nat → Prop} {Q : State → Prop} {cells slots : Nat} {h : AH} {pc : Nat} {lo : List (Nat × Value)} {st : List Value}
/-- a call of the desk that only looks -/
theorem j_desk (E : Cx p l s m args meth c cc nL own D A) {Sc Sm : St} {B x mo o od : Nat} {g : Nat → Int64} {gD : Nat → UInt64} (L : LwS Sc Sm B x mo o od g gD h) {ret : Option FieldType} {index n f9 L9 mc ms : Nat} {y : MethodName} {bytes : ByteArray} {maxL : Nat} {As rest : List Value} {v9 : Value} {Z : Prop}
    (hC : ∀ (hC0 : AH) (gl : Nat → Nat) (G : Nat → Nat → Int32) (ad : Ad), ad 0 0 0 = x → Cls Sc gl G ad hC0 → IG Sc gl G → Inv Sc B → Ctr l D y bytes maxL ret f9 L9 mc ms (.ref x :: As) hC0 (fun _ => False) (fun r9 h' => r9 = some v9 ∧ Z ∧ hC0 = h'))
    (w9 : CW R s args own index y bytes maxL ret f9 L9 mc ms n cells slots rest) (hin : (Cond.instanceMethod y).before args s = true) (hse : (Cond.selects y.cls y y).before args s = true) (hcl : jcl[7]? = some (y.cls, TX7, 14)) (hn : As.length = n) (d : decode cc pc = .ok (.invokevirtual index, 3)) (hst : st = As.reverse ++ .ref x :: rest)
    (k : ∀ h' : AH, LwS Sc Sm B x mo o od g gD h' → J p l e R s m args below meth c D A nL Q (cells + mc) (slots + ms) h' (pc + 3) lo (v9 :: rest)) : J p l e R s m args below meth c D A nL Q cells slots h pc lo st := by
  obtain ⟨hc0, hM, ad, ar, ok, e0, M, d1, d2, s2', s3', n3⟩ := L
  have ok0 := ok
  obtain ⟨gl, G, ad2, ea, K0, hI, I⟩ := ok
  have hno : ∀ q, q = o ∨ q = od → hc0 q = none := fun q hq => by
    cases hx : hc0 q with
    | none => rfl
    | some e9 =>
      obtain ⟨-, -, z2, z3⟩ := d1 q e9 hx
      rcases hq with r | r
      · exact absurd r z2
      · exact absurd r z3
  have hdm : ∀ q e9, hM q = some e9 → hc0 q = none := fun q e9 he => by
    cases hx : hc0 q with
    | none => rfl
    | some e8 => rw [(d1 q e8 hx).2.1] at he; cases he
  refine j_callVr E (hc := hc0) (hr := fun q => if q = o then some (.inl (.long, (1, .inr (.inl g)))) else if q = od then some (.inl (.double, (1, .inr (.inr (.inr (.inl gD)))))) else hM q) (hC hc0 gl G ad2 ea K0 hI I) (fun q e9 he => (d1 q e9 he).1) (fun q e9 he => ?_) w9 hin hse (by rw [← ea]; exact (d1 _ _ K0.x0).1) hcl hn d hst (fun v hc' h' hp g2 g3 g4 => ?_)
  · by_cases r2 : q = o
    · rw [if_pos r2] at he; rw [← he, r2]; exact ⟨s2', hno _ (Or.inl rfl)⟩
    · rw [if_neg r2] at he
      by_cases r3 : q = od
      · rw [if_pos r3] at he; rw [← he, r3]; exact ⟨s3', hno _ (Or.inr rfl)⟩
      · rw [if_neg r3] at he
        exact ⟨(d2 q e9 he).1, hdm q e9 he⟩
  · obtain ⟨rfl, -, rfl⟩ := hp
    exact k h' ⟨hc0, hM, ad, ar, ok0, e0, M, fun q e9 he => ⟨g2 q e9 he, (d1 q e9 he).2⟩, fun q e9 he => ⟨g3 q e9 ((if_neg (d2 q e9 he).2.1).trans ((if_neg (d2 q e9 he).2.2).trans he)), (d2 q e9 he).2⟩, g3 o _ (if_pos rfl), g3 od _ ((if_neg (fun z => n3 z.symm)).trans (if_pos rfl)), n3⟩
end JD
section LD
variable {p : Program} {l : Launch} {e : Env} {R : Room} {s : State} {m : MethodId} {args : Array Value} {below : List Frame} {meth : Method} {c : Code} {D : va_G} {A : Nat → Prop} {Q : State → Prop} {cells slots : Nat}
set_option maxHeartbeats 4000000 in
set_option maxRecDepth 100000 in
theorem lc_lots (E : Cx p l s m args meth c cL_law 9 RL D A) {S : St} {x mo sc o od N : Nat} {f : Nat → Int32} {g : Nat → Int64} {gD : Nat → UInt64} {h : AH} (L : LwS S S (180 * nn (S.1 0 5 0)) x mo o od g gD h) (SX : Scr s A sc N f) {i : Int32} (hi : i = nI (nn i)) (hN : nn i + 6 ≤ N) (hN2 : N ≤ 3072) (hR : 15 ≤ R.frames ∧ 400 ≤ R.locals ∧ cells + 40 ≤ R.cells ∧ slots + 5200 ≤ R.slots)
    (k : ∀ (S9 : St) (g9 : Nat → Int64) (gD9 : Nat → UInt64) (h9 : AH), LwS S9 S9 (180 * nn (S9.1 0 5 0)) x mo o od g9 gD9 h9 → J p l e R s m args below meth c D A 9 Q (cells + 40) (slots + 5200) h9 1731 [(0, .ref sc), (1, .ref x), (2, .ref mo), (3, .ref o), (4, .ref od), (5, .int i)] []) : J p l e R s m args below meth c D A 9 Q cells slots h 344 [(0, .ref sc), (1, .ref x), (2, .ref mo), (3, .ref o), (4, .ref od), (5, .int i)] [] := by
  refine j_aload_n E dL_law_344 rfl ?_
  refine j_desk E L (fun hC0 gl G ad2 ea K0 hI I => by rw [← ea]; exact k_lots l D S gl G ad2 hC0 K0 _ I hI) (cw_L_122 E ⟨by show _ ≤ R.frames; omega, by show _ ≤ R.locals; omega, by show _ ≤ R.cells; omega, by show _ ≤ R.slots; omega, Nat.le_of_ble_eq_true rfl⟩) (q_123 E.tb) (q_124 E.tb) rfl rfl dL_law_345 rfl (fun h345 L => ?_)
  refine j_aload_n E dL_law_348 rfl ?_
  refine j_mod E L (fun hM ad ar e0 M => by rw [← e0]; exact c_lots l D S ad ar hM M) (cw_L_125 E ⟨by show _ ≤ R.frames; omega, by show _ ≤ R.locals; omega, by show _ ≤ R.cells; omega, by show _ ≤ R.slots; omega, Nat.le_of_ble_eq_true rfl⟩) (q_901 E.tb) (q_902 E.tb) rfl rfl dL_law_349 rfl (fun h349 L => ?_)
  refine j_icmp_eq (tgt := 1731) E dL_law_352 (by decide) (fun _ => ?_) (fun q => (q rfl).elim)
  refine J.wide (k := cells + 40) (n := slots + 5200) (by omega) (by omega) ?_
  refine J.sub (lo' := [(0, .ref sc), (1, .ref x), (2, .ref mo), (3, .ref o), (4, .ref od), (5, .int i)]) ⟨rfl, rfl, rfl, rfl, rfl, rfl, trivial⟩ ?_
  exact k (th S 0) g gD h349 L.cth
set_option maxHeartbeats 4000000 in
set_option maxRecDepth 100000 in
theorem lc_hours (E : Cx p l s m args meth c cL_law 9 RL D A) {S : St} {x mo sc o od N : Nat} {f : Nat → Int32} {g : Nat → Int64} {gD : Nat → UInt64} {h : AH} (L : LwS S S (180 * nn (S.1 0 5 0)) x mo o od g gD h) (SX : Scr s A sc N f) {i : Int32} (hi : i = nI (nn i)) (hN : nn i + 6 ≤ N) (hN2 : N ≤ 3072) (hR : 15 ≤ R.frames ∧ 400 ≤ R.locals ∧ cells + 40 ≤ R.cells ∧ slots + 5200 ≤ R.slots)
    (k : ∀ (S9 : St) (g9 : Nat → Int64) (gD9 : Nat → UInt64) (h9 : AH), LwS S9 S9 (180 * nn (S9.1 0 5 0)) x mo o od g9 gD9 h9 → J p l e R s m args below meth c D A 9 Q (cells + 40) (slots + 5200) h9 1731 [(0, .ref sc), (1, .ref x), (2, .ref mo), (3, .ref o), (4, .ref od), (5, .int i)] []) : J p l e R s m args below meth c D A 9 Q cells slots h 1587 [(0, .ref sc), (1, .ref x), (2, .ref mo), (3, .ref o), (4, .ref od), (5, .int i)] [] := by
  refine j_aload_n E dL_law_1587 rfl ?_
  refine j_desk E L (fun hC0 gl G ad2 ea K0 hI I => by rw [← ea]; exact k_hours l D S gl G ad2 hC0 K0 _ I hI) (cw_L_186 E ⟨by show _ ≤ R.frames; omega, by show _ ≤ R.locals; omega, by show _ ≤ R.cells; omega, by show _ ≤ R.slots; omega, Nat.le_of_ble_eq_true rfl⟩) (q_127 E.tb) (q_128 E.tb) rfl rfl dL_law_1588 rfl (fun h1588 L => ?_)
  refine j_aload_n E dL_law_1591 rfl ?_
  refine j_mod E L (fun hM ad ar e0 M => by rw [← e0]; exact c_hours l D S ad ar hM M) (cw_L_189 E ⟨by show _ ≤ R.frames; omega, by show _ ≤ R.locals; omega, by show _ ≤ R.cells; omega, by show _ ≤ R.slots; omega, Nat.le_of_ble_eq_true rfl⟩) (q_1036 E.tb) (q_1037 E.tb) rfl rfl dL_law_1592 rfl (fun h1592 L => ?_)
  refine j_icmp_eq (tgt := 1731) E dL_law_1595 (by decide) (fun _ => ?_) (fun q => (q rfl).elim)
  refine J.wide (k := cells + 40) (n := slots + 5200) (by omega) (by omega) ?_
  refine J.sub (lo' := [(0, .ref sc), (1, .ref x), (2, .ref mo), (3, .ref o), (4, .ref od), (5, .int i)]) ⟨rfl, rfl, rfl, rfl, rfl, rfl, trivial⟩ ?_
  exact k (th S 0) g gD h1592 L.cth
end LD
