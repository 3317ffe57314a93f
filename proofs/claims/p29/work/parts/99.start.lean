/-! the law's start: the world as the Statement gives it -/
theorem Tb.start {s : State} {av0 : Array Value} (hts : ∀ w ∈ lw_tbl, w.before av0 s = true) : Tb s := by
  intro w hw hok av
  by_cases g : goodWord w = true
  · exact word_at (State.WarmedH.refl s) (good_of_word g) (hts w hw)
  · have hok2 := hok
    unfold tbOK at hok2
    rw [show goodWord w = false by simpa using g, Bool.false_or] at hok2
    split at hok2
    · exact va_Nw.use rfl (va_Nw.of rfl (hts _ hw))
    · exact va_Nw.use rfl (va_Nw.of rfl (hts _ hw))
    · exact va_AO.use (va_AO.of (hts _ hw))
    · exact Jvm.Stand.arrayOver_alikeB (Vm.Alike.refl s.vm) (hts _ hw)
    · cases hok2
theorem Ts.start {s : State} {av0 : Array Value} (hts : ∀ w ∈ lw_tbl, w.before av0 s = true) : Ts s := by
  intro own k tx hm
  have w := hts _ hm
  cases hc : s.vm.findClass own with
  | none => simp [Cond.before, Cond.holds, Cond.value, hc] at w
  | some cur =>
    obtain ⟨k9, cf, i, a, -, -, -, -, -, he⟩ := Cond.stringRef_spec hc w
    exact ⟨a, vk_R.of w he⟩
set_option maxRecDepth 100000 in
theorem Tn.start {s : State} {av0 : Array Value} (hgv : (Jvm.Cond.and given_1 narrow_1).before av0 s = true) : Tn s := by
  have hs := flat_of_before _ hgv
  have a1 : va_Nc "java/lang/IllegalArgumentException" "java/lang/IndexOutOfBoundsException" s := va_Nc.of (hs _ (by decide +kernel))
  have a2 : va_Nc "java/lang/IllegalStateException" "java/lang/IndexOutOfBoundsException" s := va_Nc.of (hs _ (by decide +kernel))
  have a3 : va_Nc "java/lang/IllegalStateException" "java/lang/IllegalArgumentException" s := va_Nc.of (hs _ (by decide +kernel))
  have a4 : va_Nc "java/util/NoSuchElementException" "java/lang/IndexOutOfBoundsException" s := va_Nc.of (hs _ (by decide +kernel))
  have a5 : va_Nc "java/lang/UnsupportedOperationException" "java/lang/IndexOutOfBoundsException" s := va_Nc.of (hs _ (by decide +kernel))
  have a6 : va_Nc "java/lang/IllegalStateException" "java/lang/UnsupportedOperationException" s := va_Nc.of (hs _ (by decide +kernel))
  have a7 : va_Nc "java/util/NoSuchElementException" "java/lang/IllegalStateException" s := va_Nc.of (hs _ (by decide +kernel))
  exact List.forall_mem_cons.mpr ⟨a1, List.forall_mem_cons.mpr ⟨a2, List.forall_mem_cons.mpr ⟨a3, List.forall_mem_cons.mpr ⟨a4, List.forall_mem_cons.mpr ⟨a5, List.forall_mem_cons.mpr ⟨a6, List.forall_mem_cons.mpr ⟨a7, fun _ h => absurd h List.not_mem_nil⟩⟩⟩⟩⟩⟩⟩
theorem K_start {s : State} {av0 : Array Value} (hts : ∀ w ∈ lw_tbl, w.before av0 s = true) : ∃ D : va_G, va_K D jcl [] s := by
  have hT := Tb.start hts
  obtain ⟨c0, i0, k0⟩ := u_known (ws := lw_tbl) (C := RX0) (T := TX0) (N := 3) (n := 3) hts (fun w hw => (u_X0 w hw).1) (q_373 hT (av := av0))
  obtain ⟨c1, i1, k1⟩ := u_known (ws := lw_tbl) (C := RX1) (T := TX1) (N := 2) (n := 2) hts (fun w hw => (u_X1 w hw).1) (q_47 hT (av := av0))
  obtain ⟨c2, i2, k2⟩ := u_known (ws := lw_tbl) (C := RX2) (T := TX2) (N := 3) (n := 3) hts (fun w hw => (u_X2 w hw).1) (q_287 hT (av := av0))
  obtain ⟨c3, i3, k3⟩ := u_known (ws := lw_tbl) (C := RX3) (T := TX3) (N := 3) (n := 3) hts (fun w hw => (u_X3 w hw).1) (q_487 hT (av := av0))
  obtain ⟨c4, i4, k4⟩ := u_known (ws := lw_tbl) (C := RX4) (T := TX4) (N := 7) (n := 7) hts (fun w hw => (u_X4 w hw).1) (q_365 hT (av := av0))
  obtain ⟨c5, i5, k5⟩ := u_known (ws := lw_tbl) (C := RX5) (T := TX5) (N := 8) (n := 8) hts (fun w hw => (u_X5 w hw).1) (q_560 hT (av := av0))
  obtain ⟨c6, i6, k6⟩ := u_known (ws := lw_tbl) (C := RX6) (T := TX6) (N := 2) (n := 2) hts (fun w hw => (u_X6 w hw).1) (q_219 hT (av := av0))
  obtain ⟨c7, i7, k7⟩ := u_known (ws := lw_tbl) (C := RX7) (T := TX7) (N := 14) (n := 14) hts (fun w hw => (u_X7 w hw).1) (q_31 hT (av := av0))
  refine ⟨(fun k => match k with | 0 => c0 | 1 => c1 | 2 => c2 | 3 => c3 | 4 => c4 | 5 => c5 | 6 => c6 | 7 => c7 | _ => c0, fun k => match k with | 0 => i0 | 1 => i1 | 2 => i2 | 3 => i3 | 4 => i4 | 5 => i5 | 6 => i6 | 7 => i7 | _ => i0), fun k q hq => ?_, fun k q h => by simp at h⟩
  match k, hq with
  | 0, hq => cases hq; exact k0
  | 1, hq => cases hq; exact k1
  | 2, hq => cases hq; exact k2
  | 3, hq => cases hq; exact k3
  | 4, hq => cases hq; exact k4
  | 5, hq => cases hq; exact k5
  | 6, hq => cases hq; exact k6
  | 7, hq => cases hq; exact k7
  | k + 8, hq => simp [jcl] at hq
