/-! the reference: small methods -/
set_option maxRecDepth 100000 in
set_option maxHeartbeats 4000000 in
theorem ct_X5_isIn (l : Launch) (v lo hi : Int) : Ct l yX5_isIn cX5_isIn 3 (some .boolean) 0 0 0 (fun ca av L M => av = [.int (iI v), .int (iI lo), .int (iI hi)] ∧ R32 v ∧ R32 lo ∧ R32 hi) (fun ca av L M r L1 M1 => r = some (.int (iI (if lo ≤ v ∧ v ≤ hi then 1 else 0))) ∧ L = L1 ∧ M = M1) := by
  refine Ct_of (own := RX5) (by decide) rfl (by rintro _ _ _ _ ⟨rfl, _⟩; exact Nat.le_of_ble_eq_true rfl) ?_
  rintro p e s m args below meth c D ca A av L M ⟨rfl, hv, hlo, hhi⟩ X hret hname
  refine g_lv (lv' := [(0, .int (iI v)), (1, .int (iI lo)), (2, .int (iI hi))]) [0, 1, 2] rfl ?_
  refine g_iload_n X 0 rfl dX5_isIn_0 rfl ?_
  refine g_iload_n X 1 rfl dX5_isIn_1 rfl ?_
  refine g_icmp_lt X hv hlo (tgt := 14) dX5_isIn_2 (by decide) rfl (fun h_1 => ?_) (fun h_1 => ?_)
  · refine g_iconst X (z := 0) dX5_isIn_14 rfl ?_
    exact g_zret X hret (by rfl) ⟨Nat.le_of_ble_eq_true rfl, Nat.le_of_ble_eq_true rfl⟩ dX5_isIn_15 ⟨by rw [if_neg (by omega)], rfl, rfl⟩
  · refine g_iload_n X 0 rfl dX5_isIn_5 rfl ?_
    refine g_iload_n X 2 rfl dX5_isIn_6 rfl ?_
    refine g_icmp_gt X hv hhi (tgt := 14) dX5_isIn_7 (by decide) rfl (fun h_2 => ?_) (fun h_2 => ?_)
    · refine g_iconst X (z := 0) dX5_isIn_14 rfl ?_
      exact g_zret X hret (by rfl) ⟨Nat.le_of_ble_eq_true rfl, Nat.le_of_ble_eq_true rfl⟩ dX5_isIn_15 ⟨by rw [if_neg (by omega)], rfl, rfl⟩
    · refine g_iconst X (z := 1) dX5_isIn_10 rfl ?_
      refine g_goto X (n := 15) dX5_isIn_11 (by decide) ?_
      exact g_zret X hret (by rfl) ⟨Nat.le_of_ble_eq_true rfl, Nat.le_of_ble_eq_true rfl⟩ dX5_isIn_15 ⟨by rw [if_pos ⟨by omega, by omega⟩], rfl, rfl⟩
