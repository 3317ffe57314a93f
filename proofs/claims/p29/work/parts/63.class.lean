/-! the class: lots drawn, lots taken out -/
set_option maxHeartbeats 4000000 in
set_option maxRecDepth 100000 in
theorem k_draw (l : Launch) (D : va_G) (S : St) (gl : Nat → Nat) (G : Nat → Nat → Int32) (ad : Ad) (h : AH) (K0 : Cls S gl G ad h) (C : Cnt S) (L : LR S) (x g : Int32) (hx : x = nI (nn x) ∧ nn x < nn (S.1 0 0 0)) : Ctr l D yX1_draw cX1_draw 7 none 3 62 0 0 [.ref (ad 5 0 0), .ref (ad 10 (nn x) 0), .int g] h (fun _ => False) (fun r9 h' => r9 = none ∧ Cls (takes S x g) gl G ad h') := by
  refine Ctr.of RX1 rfl (by decide) (Nat.le_of_ble_eq_true rfl) ?_
  intro sz p e s m below meth c E hin hr ht
  refine j_iload_n E dX1_draw_0 rfl ?_
  refine j_istore_n E dX1_draw_1 (by decide) ?_
  refine j_iconst (v := 0) E dX1_draw_2 ci_0 ?_
  refine j_istore E dX1_draw_3 (by decide) ?_
  have K : ∀ (n : Nat) (y a : Int32) (S2 : St) (h2 : AH), y = nI (nn y) → nn y + n = 3 → (S2, a) = tkN S x g (min (nn y) (nn (S.1 0 1 0))) → Cls S2 gl G ad h2 → J p l e { frames := 3, cells := 0, slots := 0, locals := 62 } s m [.ref (ad 5 0 0), .ref (ad 10 (nn x) 0), .int g].toArray below meth c D (Afr h sz) 7 (vx_MQ below (Qcs D h sz (fun r9 h' => r9 = none ∧ Cls (takes S x g) gl G ad h')) (Xcs D h sz (fun _ => False)) [.ref (ad 5 0 0), .ref (ad 10 (nn x) 0), .int g].toArray s 0 0 (Afr h sz)) 0 0 h2 5 [(3, .int a), (4, .int y), (0, .ref (ad 5 0 0)), (1, .ref (ad 10 (nn x) 0))] [] := by
    intro n
    induction n with
    | zero =>
      intro y a S2 h2 hy hn hS K0
      have hC : ∀ c i j, c ≠ 4 → S2.1 c i j = S.1 c i j := by intro c i j hc; rw [show S2 = (tkN S x g (min (nn y) (nn (S.1 0 1 0)))).1 from congrArg Prod.fst hS]; exact tkN_c hc _
      have h1 : S2.1 0 1 0 = S.1 0 1 0 := hC 0 1 0 (by decide)
      have h0 : S2.1 0 0 0 = S.1 0 0 0 := hC 0 0 0 (by decide)
      have hL3 := C.2.1.2.2
      refine j_iload E dX1_draw_5 rfl ?_
      refine j_aload_n E dX1_draw_7 rfl ?_
      refine gf_X1_11 E K0.x5 rfl dX1_draw_8 ?_
      refine j_alen (v := 3) E K0.x6 rfl dX1_draw_11 ?_
      refine j_icmp_ge (tgt := 72) E dX1_draw_12 (by decide) (fun _ => ?_) (fun q => (q (ge_of hy (by decide) (by show nn (3 : Int32) ≤ _; rw [nn_3]; omega) (nn_lt y))).elim)
      exact j_vret E hr dX1_draw_72 ⟨Nat.le_of_ble_eq_true rfl, Nat.le_of_ble_eq_true rfl⟩ ⟨rfl, by rw [show min (nn y) (nn (S.1 0 1 0)) = nn (S.1 0 1 0) by omega] at hS; unfold takes; rw [← hS]; exact K0⟩
    | succ n ih =>
      intro y a S2 h2 hy hn hS K0
      have hC : ∀ c i j, c ≠ 4 → S2.1 c i j = S.1 c i j := by intro c i j hc; rw [show S2 = (tkN S x g (min (nn y) (nn (S.1 0 1 0)))).1 from congrArg Prod.fst hS]; exact tkN_c hc _
      have h1 : S2.1 0 1 0 = S.1 0 1 0 := hC 0 1 0 (by decide)
      have h0 : S2.1 0 0 0 = S.1 0 0 0 := hC 0 0 0 (by decide)
      have hL3 := C.2.1.2.2
      have hy3 : nn y < 3 := by omega
      refine j_iload E dX1_draw_5 rfl ?_
      refine j_aload_n E dX1_draw_7 rfl ?_
      refine gf_X1_11 E K0.x5 rfl dX1_draw_8 ?_
      refine j_alen (v := 3) E K0.x6 rfl dX1_draw_11 ?_
      refine j_icmp_ge (tgt := 72) E dX1_draw_12 (by decide) (fun q => (nge_of hy (by decide) (by show _ < nn (3 : Int32); rw [nn_3]; omega) (nn_lt _) q).elim) (fun _ => ?_)
      refine j_aload_n E dX1_draw_15 rfl ?_
      refine gf_X1_11 E K0.x5 rfl dX1_draw_16 ?_
      refine j_iload E dX1_draw_19 rfl ?_
      refine j_aald E K0.x6 rfl (vin_of hy hy3 (Nat.le_refl 3) (by decide)) dX1_draw_21 ?_
      rcases Nat.lt_or_ge (nn y) (nn (S.1 0 1 0)) with hlt | hge
      · have hlt2 : nn y < nn (S2.1 0 1 0) := by rw [h1]; exact hlt
        refine J.stk (rf_y hlt2) ?_
        refine j_astore E dX1_draw_22 (by decide) ?_
        refine j_aload E dX1_draw_24 rfl ?_
        refine j_ifnull E dX1_draw_26 ?_
        refine j_aload E dX1_draw_29 rfl ?_
        refine j_aload_n E dX1_draw_31 rfl ?_
        refine j_callV E (k_isDryOf l D S2 gl G ad h2 K0 (C.of fun i _ => hC 0 i 0 (by decide)) (nn y) hlt2 (L.of hC) x ⟨hx.1, by rw [h0]; exact hx.2⟩) (cw_X1_21 E ⟨Nat.le_of_ble_eq_true rfl, Nat.le_of_ble_eq_true rfl, Nat.le_of_ble_eq_true rfl, Nat.le_of_ble_eq_true rfl, Nat.le_of_ble_eq_true rfl⟩) (q_349 E.tb) (q_350 E.tb) (K0.x11 hlt2) rfl rfl dX1_draw_32 rfl (fun v32 h32 p32 => ?_)
        obtain ⟨rfl, rfl⟩ := p32
        refine j_if_eq (tgt := 66) E dX1_draw_35 (by decide) (fun c_35 => ?_) (fun c_35 => ?_)
        · refine j_iincK (k := 1) E ci_1 dX1_draw_66 rfl (by decide) ?_
          refine j_goto (tgt := 5) E dX1_draw_69 (by decide) ?_
          obtain ⟨a1, a2⟩ := nn_s hy hy3 (by decide)
          refine J.sub (lo' := [(3, .int (a)), (4, .int (y + 1)), (0, .ref (ad 5 0 0)), (1, .ref (ad 10 (nn x) 0))]) ⟨rfl, rfl, rfl, rfl, trivial⟩ ?_
          exact ih (y + 1) (a) (S2) _ a1 (by omega) (by rw [a2]; rw [show min (nn y + 1) (nn (S.1 0 1 0)) = nn y + 1 by omega]; rw [show min (nn y) (nn (S.1 0 1 0)) = nn y by omega] at hS; show _ = (s1 (tkN S x g (nn y)).1 4 (nn y) 0 ((tkN S x g (nn y)).1.1 4 (nn y) 0 - tkI (tkN S x g (nn y)).1 x (tkN S x g (nn y)).2 (nn y)), (tkN S x g (nn y)).2 - tkI (tkN S x g (nn y)).1 x (tkN S x g (nn y)).2 (nn y)); rw [← hS]; show _ = (s1 S2 4 (nn y) 0 (S2.1 4 (nn y) 0 - tkI S2 x a (nn y)), a - tkI S2 x a (nn y)); rw [show tkI S2 x a (nn y) = 0 from if_neg (of_decide_eq_false (b2i_f c_35)), Int32.sub_zero, Int32.sub_zero, s1_id rfl]) K0
        · refine j_iload_n E dX1_draw_38 rfl ?_
          refine j_aload E dX1_draw_39 rfl ?_
          refine gf_X1_25 E (K0.x11 hlt2) rfl dX1_draw_41 ?_
          refine j_mmin E (q_665 E.tb) (q_631 E.tb) (q_12 E.tb) (q_632 E.tb) ⟨Nat.le_of_ble_eq_true rfl, Nat.le_of_ble_eq_true rfl, Nat.le_of_ble_eq_true rfl, Nat.le_of_ble_eq_true rfl⟩ dX1_draw_44 ?_
          refine j_istore E dX1_draw_47 (by decide) ?_
          refine j_aload E dX1_draw_49 rfl ?_
          refine j_dup E dX1_draw_51 rfl ?_
          refine gf_X1_25 E (K0.x11 hlt2) rfl dX1_draw_52 ?_
          refine j_iload E dX1_draw_55 rfl ?_
          refine j_isub E dX1_draw_57 ?_
          refine pf_X1_25 E (K0.x11 hlt2) (Nat.le_of_ble_eq_true rfl) dX1_draw_58 (fun h58 hLt u58 => ?_)
          refine j_iload_n E dX1_draw_61 rfl ?_
          refine j_iload E dX1_draw_62 rfl ?_
          refine j_isub E dX1_draw_64 ?_
          refine j_istore_n E dX1_draw_65 (by decide) ?_
          refine j_iincK (k := 1) E ci_1 dX1_draw_66 rfl (by decide) ?_
          refine j_goto (tgt := 5) E dX1_draw_69 (by decide) ?_
          obtain ⟨a1, a2⟩ := nn_s hy hy3 (by decide)
          refine J.sub (lo' := [(3, .int (a - mn a (S2.1 4 (nn y) 0))), (4, .int (y + 1)), (0, .ref (ad 5 0 0)), (1, .ref (ad 10 (nn x) 0))]) ⟨rfl, rfl, rfl, rfl, trivial⟩ ?_
          exact ih (y + 1) (a - mn a (S2.1 4 (nn y) 0)) (s1 S2 4 (nn y) 0 (S2.1 4 (nn y) 0 - mn a (S2.1 4 (nn y) 0))) _ a1 (by omega) (by rw [a2]; rw [show min (nn y + 1) (nn (S.1 0 1 0)) = nn y + 1 by omega]; rw [show min (nn y) (nn (S.1 0 1 0)) = nn y by omega] at hS; show _ = (s1 (tkN S x g (nn y)).1 4 (nn y) 0 ((tkN S x g (nn y)).1.1 4 (nn y) 0 - tkI (tkN S x g (nn y)).1 x (tkN S x g (nn y)).2 (nn y)), (tkN S x g (nn y)).2 - tkI (tkN S x g (nn y)).1 x (tkN S x g (nn y)).2 (nn y)); rw [← hS]; show _ = (s1 S2 4 (nn y) 0 (S2.1 4 (nn y) 0 - tkI S2 x a (nn y)), a - tkI S2 x a (nn y)); rw [show tkI S2 x a (nn y) = mn a (S2.1 4 (nn y) 0) from if_pos (of_decide_eq_true (b2i_t c_35))]) (K0.t4 hlt2 hLt u58)
      · refine J.stk (rf_n (by rw [h1]; exact Nat.not_lt.mpr hge)) ?_
        refine j_astoreN E dX1_draw_22 (by decide) ?_
        refine j_aloadN E dX1_draw_24 rfl ?_
        refine j_ifnullN (tgt := 66) E dX1_draw_26 (by decide) ?_
        refine j_iincK (k := 1) E ci_1 dX1_draw_66 rfl (by decide) ?_
        refine j_goto (tgt := 5) E dX1_draw_69 (by decide) ?_
        obtain ⟨a1, a2⟩ := nn_s hy hy3 (by decide)
        refine J.sub (lo' := [(3, .int (a)), (4, .int (y + 1)), (0, .ref (ad 5 0 0)), (1, .ref (ad 10 (nn x) 0))]) ⟨rfl, rfl, rfl, rfl, trivial⟩ ?_
        exact ih (y + 1) (a) (S2) _ a1 (by omega) (by rw [a2]; rw [show min (nn y + 1) (nn (S.1 0 1 0)) = min (nn y) (nn (S.1 0 1 0)) by omega]; exact hS) K0
  refine J.sub (lo' := [(3, .int g), (4, .int 0), (0, .ref (ad 5 0 0)), (1, .ref (ad 10 (nn x) 0))]) ⟨rfl, rfl, rfl, rfl, trivial⟩ ?_
  exact K 3 0 g S h e_0 (by rw [nn_0]) (by rw [nn_0, Nat.zero_min]; rfl) K0
def adL (ad : Ad) (k : Nat) : Ad := fun t i j => if t = 11 ∧ k ≤ i then ad 11 (i + 1) j else ad t i j
theorem adL_ne {ad : Ad} {k t i j : Nat} (h : t ≠ 11) : adL ad k t i j = ad t i j := if_neg (fun q => h q.1)
theorem ccl_lev {S : St} {gl : Nat → Nat} {G : Nat → Nat → Int32} {ad : Ad} {k t i j : Nat} (h5 : t ≠ 5) (h6 : t ≠ 6) (h11 : t ≠ 11) : ccl (lev S k) gl G (adL ad k) t i j = ccl S gl G ad t i j := by
  have c0 : ∀ i, i ≠ 1 → (lev S k).1 0 i 0 = S.1 0 i 0 := fun i hi => lev_0 hi
  have cc : ∀ c, c ≠ 0 → c ≠ 3 → c ≠ 4 → c ≠ 5 → ∀ i j, (lev S k).1 c i j = S.1 c i j := fun c h0 h3 h4 h5 i j => lev_c h0 h3 h4 h5
  have c2 : (lev S k).2 = S.2 := lev_2
  have ha : ∀ t, t ≠ 11 → ∀ i j, adL ad k t i j = ad t i j := fun t ht i j => adL_ne ht
  have hm : ∀ x, mnt (lev S k) x = mnt S x := fun x => mnt_of (c0 3 (by decide)) (fun _ => cc _ (by decide) (by decide) (by decide) (by decide) _ _)
  unfold ccl
  split <;> first | rfl | contradiction | simp only [c0 0 (by decide), c0 2 (by decide), c0 3 (by decide), c0 4 (by decide), c0 5 (by decide), c0 6 (by decide), c0 7 (by decide), cc 1 (by decide) (by decide) (by decide) (by decide), cc 2 (by decide) (by decide) (by decide) (by decide), cc 6 (by decide) (by decide) (by decide) (by decide), cc 7 (by decide) (by decide) (by decide) (by decide), cc 8 (by decide) (by decide) (by decide) (by decide), cc 9 (by decide) (by decide) (by decide) (by decide), cc 10 (by decide) (by decide) (by decide) (by decide), cc 14 (by decide) (by decide) (by decide) (by decide), cc 15 (by decide) (by decide) (by decide) (by decide), cc 16 (by decide) (by decide) (by decide) (by decide), cc 17 (by decide) (by decide) (by decide) (by decide), cc 18 (by decide) (by decide) (by decide) (by decide), cc 19 (by decide) (by decide) (by decide) (by decide), cc 20 (by decide) (by decide) (by decide) (by decide), cc 21 (by decide) (by decide) (by decide) (by decide), cc 22 (by decide) (by decide) (by decide) (by decide), ha 1 (by decide), ha 2 (by decide), ha 3 (by decide), ha 4 (by decide), ha 5 (by decide), ha 6 (by decide), ha 10 (by decide), ha 12 (by decide), ha 13 (by decide), ha 14 (by decide), ha 15 (by decide), ha 16 (by decide), ha 17 (by decide), hm, c2] | (simp only [cc 11 (by decide) (by decide) (by decide) (by decide), cc 12 (by decide) (by decide) (by decide) (by decide), cc 13 (by decide) (by decide) (by decide) (by decide)])
theorem live_lev {S : St} {k t i j : Nat} (hL : Rg (S.1 0 1 0) 0 3) (hk : k < nn (S.1 0 1 0)) (h : live (lev S k) t i j) : live S t (if t = 11 ∧ k ≤ i then i + 1 else i) j := by
  have p := rg_pred hL (by omega) (by decide)
  by_cases q : t = 11
  · subst q
    have h2 : i < nn ((lev S k).1 0 1 0) ∧ j = 0 := h
    rw [lev_l, p.2] at h2
    by_cases r : k ≤ i
    · rw [if_pos ⟨rfl, r⟩]; exact ⟨by omega, h2.2⟩
    · rw [if_neg (fun z => r z.2)]; exact ⟨by omega, h2.2⟩
  · rw [if_neg (fun z => q z.1)]
    have c0 : ∀ i, i ≠ 1 → (lev S k).1 0 i 0 = S.1 0 i 0 := fun i hi => lev_0 hi
    have c6 : ∀ i j, (lev S k).1 6 i j = S.1 6 i j := fun i j => lev_c (by decide) (by decide) (by decide) (by decide)
    unfold live at h ⊢
    split at h <;> first | exact h | contradiction | (simp only [c0 0 (by decide), c0 2 (by decide), c0 3 (by decide), c0 4 (by decide), c6] at h; exact h)
theorem adL_e {ad : Ad} {k t i j : Nat} : adL ad k t i j = ad t (if t = 11 ∧ k ≤ i then i + 1 else i) j := by
  unfold adL
  by_cases q : t = 11 ∧ k ≤ i
  · rw [if_pos q, if_pos q, q.1]
  · rw [if_neg q, if_neg q]
def shR (f : Nat → Option Nat) (k y : Nat) : Nat → Option Nat := fun i => if k ≤ i ∧ i < y then f (i + 1) else f i
theorem shR_0 {f : Nat → Option Nat} {k : Nat} : shR f k k = f := by
  funext i
  unfold shR
  rw [if_neg (by omega)]
theorem shR_up {f : Nat → Option Nat} {k y : Nat} (h : k ≤ y) : fup (shR f k y) y (f (y + 1)) = shR f k (y + 1) := by
  funext i
  unfold fup shR
  by_cases q : i = y
  · subst q; rw [if_pos rfl, if_pos ⟨h, by omega⟩]
  · rw [if_neg q]
    by_cases r : k ≤ i ∧ i < y
    · rw [if_pos r, if_pos ⟨r.1, by omega⟩]
    · rw [if_neg r, if_neg (fun z => r ⟨z.1, by omega⟩)]
theorem shR_end {L k : Nat} {a : Nat → Nat} (hk : k < L) (hL : L ≤ 3) : fup (shR (rfs L a) k 2) 2 none = rfs (L - 1) (fun i => if k ≤ i then a (i + 1) else a i) := by
  funext i
  unfold fup shR rfs
  by_cases q : i = 2
  · subst q; rw [if_pos rfl, if_neg (by omega)]
  · rw [if_neg q]
    by_cases r : k ≤ i ∧ i < 2
    · rw [if_pos r]
      by_cases z : i + 1 < L
      · rw [if_pos z, if_pos (by omega)]; show some (a (i + 1)) = some (if k ≤ i then a (i + 1) else a i); rw [if_pos r.1]
      · rw [if_neg z, if_neg (by omega)]
    · rw [if_neg r]
      by_cases z : i < L - 1
      · rw [if_pos (by omega), if_pos z]; show some (a i) = some (if k ≤ i then a (i + 1) else a i); rw [if_neg (by omega)]
      · rw [if_neg (by omega), if_neg z]
theorem vf_y {o : Option Nat} {a : Nat} {st : List Value} (h : o = some a) : va_rf o :: st = .ref a :: st := by rw [h]; rfl
theorem vf_n {o : Option Nat} {st : List Value} (h : o = none) : va_rf o :: st = .null :: st := by rw [h]; rfl
theorem Cls.takeL {S : St} {gl : Nat → Nat} {G : Nat → Nat → Int32} {ad : Ad} {h h1 : AH} (K0 : Cls S gl G ad h) {k : Nat} (hL : Rg (S.1 0 1 0) 0 3) (hk : k < nn (S.1 0 1 0))
    (n6 : h1 (ad 6 0 0) = some (.inl (.object "MouldDesk$Lot", (3, .inr (.inr (.inr (.inr (fup (shR (rfs (nn (S.1 0 1 0)) (fun i => ad 11 i 0)) k 2) 2 none))))))))
    (n5 : h1 (ad 5 0 0) = some (.inr (1, [.ref (ad 6 0 0), .int (S.1 0 1 0 - 1)]))) (u : ∀ x, x ≠ ad 6 0 0 → x ≠ ad 5 0 0 → h1 x = h x) : Cls (lev S k) gl G (adL ad k) h1 := by
  have p := rg_pred hL (by omega) (by decide)
  refine ⟨fun t i j hv => ?_, fun t i j t' i' j' hv hv' e => ?_⟩
  · have hv2 := live_lev hL hk hv
    rw [adL_e]
    by_cases h5 : t = 5
    · subst h5
      have hv3 : i = 0 ∧ j = 0 := hv
      obtain ⟨rfl, rfl⟩ := hv3
      show h1 (ad 5 0 0) = some (.inr (1, [.ref (adL ad k 6 0 0), .int ((lev S k).1 0 1 0)]))
      rw [n5, lev_l, adL_ne (by decide)]
    · by_cases h6 : t = 6
      · subst h6
        have hv3 : i = 0 ∧ j = 0 := hv
        obtain ⟨rfl, rfl⟩ := hv3
        show h1 (ad 6 0 0) = some (.inl (.object "MouldDesk$Lot", (3, .inr (.inr (.inr (.inr (rfs (nn ((lev S k).1 0 1 0)) (fun i => adL ad k 11 i 0))))))))
        rw [n6, shR_end hk hL.2.2, lev_l, p.2, show (fun i => adL ad k 11 i 0) = (fun i => if k ≤ i then ad 11 (i + 1) 0 else ad 11 i 0) from by funext i; unfold adL; by_cases r : k ≤ i; (· rw [if_pos ⟨rfl, r⟩, if_pos r]); (· rw [if_neg (fun z => r z.2), if_neg r])]
      · have e6 : ad t (if t = 11 ∧ k ≤ i then i + 1 else i) j ≠ ad 6 0 0 := fun q => h6 (K0.2 _ _ _ _ _ _ hv2 (show live S 6 0 0 from ⟨rfl, rfl⟩) q).1
        have e5 : ad t (if t = 11 ∧ k ≤ i then i + 1 else i) j ≠ ad 5 0 0 := fun q => h5 (K0.2 _ _ _ _ _ _ hv2 (show live S 5 0 0 from ⟨rfl, rfl⟩) q).1
        rw [u _ e6 e5, K0.1 _ _ _ hv2]
        by_cases h11 : t = 11
        · subst h11
          have hle : k ≤ nn (S.1 0 1 0 - 1) := by omega
          have hi : i < nn ((lev S k).1 0 1 0) := hv.1
          rw [lev_l, p.2] at hi
          show some (ccl S gl G ad 11 (if 11 = 11 ∧ k ≤ i then i + 1 else i) j) = some (.inr (2, [.ref (adL ad k 10 (nn ((lev S k).1 3 i 0)) 0), .int ((lev S k).1 4 i 0), .int ((lev S k).1 5 i 0)]))
          rw [lev_at (Or.inl rfl) hle, lev_at (Or.inr (Or.inl rfl)) hle, lev_at (Or.inr (Or.inr rfl)) hle]
          by_cases r : k ≤ i
          · rw [if_pos ⟨rfl, r⟩, if_pos ⟨r, by omega⟩, if_pos ⟨r, by omega⟩, if_pos ⟨r, by omega⟩]; rfl
          · rw [if_neg (fun z => r z.2), if_neg (fun z => r z.1), if_neg (fun z => r z.1), if_neg (fun z => r z.1)]; rfl
        · rw [if_neg (fun z => h11 z.1), ccl_lev h5 h6 h11]
  · rw [adL_e, adL_e] at e
    have q := K0.2 _ _ _ _ _ _ (live_lev hL hk hv) (live_lev hL hk hv') e
    refine ⟨q.1, ?_, q.2.2⟩
    have q2 := q.2.1
    have q1 := q.1
    subst q1
    by_cases h11 : t = 11
    · subst h11
      by_cases r : k ≤ i
      · rw [if_pos ⟨rfl, r⟩] at q2
        by_cases r' : k ≤ i'
        · rw [if_pos ⟨rfl, r'⟩] at q2; omega
        · rw [if_neg (fun z => r' z.2)] at q2; omega
      · rw [if_neg (fun z => r z.2)] at q2
        by_cases r' : k ≤ i'
        · rw [if_pos ⟨rfl, r'⟩] at q2; omega
        · rw [if_neg (fun z => r' z.2)] at q2; exact q2
    · rw [if_neg (fun z => h11 z.1), if_neg (fun z => h11 z.1)] at q2; exact q2
