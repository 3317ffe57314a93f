/-! constructors of one cell -/
set_option maxHeartbeats 4000000 in
set_option maxRecDepth 100000 in
/-- Resin(x) -/
theorem c_X6_init (l : Launch) (D : va_G) (h : AH) (a : Nat) (x : Int32) (hRs : h a = some (.inr (6, [.int 0, .int 0]))) : Ctr l D yX6_init cX6_init 2 none 1 20 0 0 [.ref a, .int x] h (fun _ => False) (fun v h' => v = none ∧ h' a = some (.inr (6, [.int x, .int 0])) ∧ ∀ y, y ≠ a → h' y = h y) := by
  refine Ctr.of RX6 rfl (by decide) (Nat.le_of_ble_eq_true rfl) ?_
  intro sz p e s m below meth c E hin hr ht
  refine j_aload_n E dX6_init_0 rfl ?_
  refine j_objInit E (q_234 E.tb) (q_53 E.tb) (q_54 E.tb) dX6_init_1 ⟨Nat.le_of_ble_eq_true rfl, Nat.le_of_ble_eq_true rfl⟩ ?_
  refine j_aload_n E dX6_init_4 rfl ?_
  refine j_iload_n E dX6_init_5 rfl ?_
  refine pf_X6_7 E hRs (by decide) hin dX6_init_6 (fun h6 hRs u6 => ?_)
  exact j_vret E hr dX6_init_9 ⟨Nat.le_of_ble_eq_true rfl, Nat.le_of_ble_eq_true rfl⟩ ⟨rfl, hRs, u6⟩
