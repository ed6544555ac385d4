/-! rows of banks and streams: what their methods do to a cell -/
def rwBegin (f : Int → Int) : Int → Int := fun k => if k = 0 then f 0 else if k = 1 then f 1 else if k = 2 then f 2 else if k = 3 then f 2 else if k = 4 then f 0 else if k = 5 then 0 else if k = 6 then 0 else -6
def rwNext (f : Int → Int) : Int := if f 3 = f 2 then f 0 else (f 4 + f 1) % 4096
def rwTell (f : Int → Int) (w : Int) : Int := if w = 0 then f 0 else if w = 1 then f 1 else if w = 2 then f 2 else if w = 3 then f 3 else if w = 4 then (if f 3 > 0 then rwNext f else -6) else if w = 5 then f 5 else if w = 6 then f 6 else if w = 7 then f 7 else -2
def rwFin (f : Int → Int) (a cy : Int) : Int → Int := fun k => if k = 0 then f 0 else if k = 1 then f 1 else if k = 2 then f 2 else if k = 3 then f 3 - 1 else if k = 4 then a else if k = 5 then f 5 else if k = 6 then f 6 else if f 3 - 1 = 0 then cy else f 7
def bkBegin : Int → Int := fun k => if k = 1 then -1 else 0
set_option maxRecDepth 100000 in
set_option maxHeartbeats 4000000 in
theorem ct_X4_beginAnew (l : Launch) (a : Nat) (f : Int → Int) : Ct l yX4_beginAnew cX4_beginAnew 1 none 0 0 0 (fun ca av L M => av = [.ref a] ∧ a ∈ L ∧ M a = oRow f) (fun ca av L M r L1 M1 => r = none ∧ L = L1 ∧ M1 a = oRow (rwBegin f) ∧ ∀ b, b ≠ a → M1 b = M b) := by
  refine Ct_of (own := RX4) (by decide) rfl (by rintro _ _ _ _ ⟨rfl, _⟩; exact Nat.le_of_ble_eq_true rfl) ?_
  rintro p e s m args below meth c D ca A av L M ⟨rfl, ha, hM⟩ X hret hname
  refine g_lv (lv' := [(0, .ref a)]) [0] rfl ?_
  refine g_aload_n X 0 rfl dX4_beginAnew_0 rfl ?_
  refine g_aload_n X 0 rfl dX4_beginAnew_1 rfl ?_
  refine g_get X cl_X4 2 (by decide) wf_X4_9 rfl ha hM rfl dX4_beginAnew_2 rfl ?_
  refine g_put X cl_X4 3 (by decide) wf_X4_15 rfl ha hM rfl rfl rfl (Nat.le_of_ble_eq_true rfl) (fs' := [.int (iI (f 0)), .int (iI (f 1)), .int (iI (f 2)), .int (iI (f 2)), .int (iI (f 4)), .int (iI (f 5)), .int (iI (f 6)), .int (iI (f 7))]) rfl dX4_beginAnew_5 rfl (fun M_1 hM_2 fr_3 => ?_)
  refine g_aload_n X 0 rfl dX4_beginAnew_8 rfl ?_
  refine g_aload_n X 0 rfl dX4_beginAnew_9 rfl ?_
  refine g_get X cl_X4 0 (by decide) wf_X4_18 rfl ha hM_2 rfl dX4_beginAnew_10 rfl ?_
  refine g_put X cl_X4 4 (by decide) wf_X4_21 rfl ha hM_2 rfl rfl rfl (Nat.le_of_ble_eq_true rfl) (fs' := [.int (iI (f 0)), .int (iI (f 1)), .int (iI (f 2)), .int (iI (f 2)), .int (iI (f 0)), .int (iI (f 5)), .int (iI (f 6)), .int (iI (f 7))]) rfl dX4_beginAnew_13 rfl (fun M_4 hM_5 fr_6 => ?_)
  refine g_aload_n X 0 rfl dX4_beginAnew_16 rfl ?_
  refine g_iconst X (z := 0) dX4_beginAnew_17 rfl ?_
  refine g_put X cl_X4 5 (by decide) wf_X4_24 rfl ha hM_5 rfl rfl rfl (Nat.le_of_ble_eq_true rfl) (fs' := [.int (iI (f 0)), .int (iI (f 1)), .int (iI (f 2)), .int (iI (f 2)), .int (iI (f 0)), .int (iI 0), .int (iI (f 6)), .int (iI (f 7))]) rfl dX4_beginAnew_18 rfl (fun M_7 hM_8 fr_9 => ?_)
  refine g_aload_n X 0 rfl dX4_beginAnew_21 rfl ?_
  refine g_iconst X (z := 0) dX4_beginAnew_22 rfl ?_
  refine g_put X cl_X4 6 (by decide) wf_X4_27 rfl ha hM_8 rfl rfl rfl (Nat.le_of_ble_eq_true rfl) (fs' := [.int (iI (f 0)), .int (iI (f 1)), .int (iI (f 2)), .int (iI (f 2)), .int (iI (f 0)), .int (iI 0), .int (iI 0), .int (iI (f 7))]) rfl dX4_beginAnew_23 rfl (fun M_10 hM_11 fr_12 => ?_)
  refine g_aload_n X 0 rfl dX4_beginAnew_26 rfl ?_
  refine g_bipush X (z := -6) (by decide +kernel) dX4_beginAnew_27 rfl ?_
  refine g_put X cl_X4 7 (by decide) wf_X4_30 rfl ha hM_11 rfl rfl rfl (Nat.le_of_ble_eq_true rfl) (fs' := [.int (iI (f 0)), .int (iI (f 1)), .int (iI (f 2)), .int (iI (f 2)), .int (iI (f 0)), .int (iI 0), .int (iI 0), .int (iI (-6))]) rfl dX4_beginAnew_29 rfl (fun M_13 hM_14 fr_15 => ?_)
  exact g_vret X hret ⟨Nat.le_of_ble_eq_true rfl, Nat.le_of_ble_eq_true rfl⟩ dX4_beginAnew_32 ⟨rfl, rfl, hM_14.trans rfl, fun b hb => ((fr_15 b hb).trans ((fr_12 b hb).trans ((fr_9 b hb).trans ((fr_6 b hb).trans (fr_3 b hb)))))⟩
set_option maxRecDepth 100000 in
set_option maxHeartbeats 4000000 in
theorem ct_X0_beginAnew (l : Launch) (a : Nat) (f : Int → Int) : Ct l yX0_beginAnew cX0_beginAnew 1 none 0 0 0 (fun ca av L M => av = [.ref a] ∧ a ∈ L ∧ M a = oBank f) (fun ca av L M r L1 M1 => r = none ∧ L = L1 ∧ M1 a = oBank bkBegin ∧ ∀ b, b ≠ a → M1 b = M b) := by
  refine Ct_of (own := RX0) (by decide) rfl (by rintro _ _ _ _ ⟨rfl, _⟩; exact Nat.le_of_ble_eq_true rfl) ?_
  rintro p e s m args below meth c D ca A av L M ⟨rfl, ha, hM⟩ X hret hname
  refine g_lv (lv' := [(0, .ref a)]) [0] rfl ?_
  refine g_aload_n X 0 rfl dX0_beginAnew_0 rfl ?_
  refine g_iconst X (z := 0) dX0_beginAnew_1 rfl ?_
  refine g_put X cl_X0 0 (by decide) wf_X0_9 rfl ha hM rfl rfl rfl (Nat.le_of_ble_eq_true rfl) (fs' := [.int (iI 0), .int (iI (f 1)), .int (iI (f 2)), .int (iI (f 3))]) rfl dX0_beginAnew_2 rfl (fun M_1 hM_2 fr_3 => ?_)
  refine g_aload_n X 0 rfl dX0_beginAnew_5 rfl ?_
  refine g_iconst X (z := -1) dX0_beginAnew_6 rfl ?_
  refine g_put X cl_X0 1 (by decide) wf_X0_15 rfl ha hM_2 rfl rfl rfl (Nat.le_of_ble_eq_true rfl) (fs' := [.int (iI 0), .int (iI (-1)), .int (iI (f 2)), .int (iI (f 3))]) rfl dX0_beginAnew_7 rfl (fun M_4 hM_5 fr_6 => ?_)
  refine g_aload_n X 0 rfl dX0_beginAnew_10 rfl ?_
  refine g_iconst X (z := 0) dX0_beginAnew_11 rfl ?_
  refine g_put X cl_X0 2 (by decide) wf_X0_18 rfl ha hM_5 rfl rfl rfl (Nat.le_of_ble_eq_true rfl) (fs' := [.int (iI 0), .int (iI (-1)), .int (iI 0), .int (iI (f 3))]) rfl dX0_beginAnew_12 rfl (fun M_7 hM_8 fr_9 => ?_)
  refine g_aload_n X 0 rfl dX0_beginAnew_15 rfl ?_
  refine g_iconst X (z := 0) dX0_beginAnew_16 rfl ?_
  refine g_put X cl_X0 3 (by decide) wf_X0_21 rfl ha hM_8 rfl rfl rfl (Nat.le_of_ble_eq_true rfl) (fs' := [.int (iI 0), .int (iI (-1)), .int (iI 0), .int (iI 0)]) rfl dX0_beginAnew_17 rfl (fun M_10 hM_11 fr_12 => ?_)
  exact g_vret X hret ⟨Nat.le_of_ble_eq_true rfl, Nat.le_of_ble_eq_true rfl⟩ dX0_beginAnew_20 ⟨rfl, rfl, hM_11.trans rfl, fun b hb => ((fr_12 b hb).trans ((fr_9 b hb).trans ((fr_6 b hb).trans (fr_3 b hb))))⟩
set_option maxRecDepth 100000 in
set_option maxHeartbeats 4000000 in
theorem ct_X4_copy (l : Launch) (a a2 : Nat) (f g : Int → Int) : Ct l yX4_copy cX4_copy 2 none 0 0 0 (fun ca av L M => av = [.ref a, .ref a2] ∧ a ∈ L ∧ M a = oRow f ∧ a2 ∈ L ∧ M a2 = oRow g ∧ a2 ≠ a) (fun ca av L M r L1 M1 => r = none ∧ L = L1 ∧ M1 a = oRow g ∧ ∀ b, b ≠ a → M1 b = M b) := by
  refine Ct_of (own := RX4) (by decide) rfl (by rintro _ _ _ _ ⟨rfl, _⟩; exact Nat.le_of_ble_eq_true rfl) ?_
  rintro p e s m args below meth c D ca A av L M ⟨rfl, ha, hM, ha2, hM2, hne⟩ X hret hname
  refine g_lv (lv' := [(0, .ref a), (1, .ref a2)]) [0, 1] rfl ?_
  refine g_aload_n X 0 rfl dX4_copy_0 rfl ?_
  refine g_aload_n X 1 rfl dX4_copy_1 rfl ?_
  refine g_get X cl_X4 0 (by decide) wf_X4_18 rfl ha2 hM2 rfl dX4_copy_2 rfl ?_
  refine g_put X cl_X4 0 (by decide) wf_X4_18 rfl ha hM rfl rfl rfl (Nat.le_of_ble_eq_true rfl) (fs' := [.int (iI (g 0)), .int (iI (f 1)), .int (iI (f 2)), .int (iI (f 3)), .int (iI (f 4)), .int (iI (f 5)), .int (iI (f 6)), .int (iI (f 7))]) rfl dX4_copy_5 rfl (fun M_1 hM_2 fr_3 => ?_)
  have hM_4 : M_1 a2 = .inr (4, [.int (iI (g 0)), .int (iI (g 1)), .int (iI (g 2)), .int (iI (g 3)), .int (iI (g 4)), .int (iI (g 5)), .int (iI (g 6)), .int (iI (g 7))]) := (fr_3 a2 hne).trans hM2
  refine g_aload_n X 0 rfl dX4_copy_8 rfl ?_
  refine g_aload_n X 1 rfl dX4_copy_9 rfl ?_
  refine g_get X cl_X4 1 (by decide) wf_X4_33 rfl ha2 hM_4 rfl dX4_copy_10 rfl ?_
  refine g_put X cl_X4 1 (by decide) wf_X4_33 rfl ha hM_2 rfl rfl rfl (Nat.le_of_ble_eq_true rfl) (fs' := [.int (iI (g 0)), .int (iI (g 1)), .int (iI (f 2)), .int (iI (f 3)), .int (iI (f 4)), .int (iI (f 5)), .int (iI (f 6)), .int (iI (f 7))]) rfl dX4_copy_13 rfl (fun M_5 hM_6 fr_7 => ?_)
  have hM_8 : M_5 a2 = .inr (4, [.int (iI (g 0)), .int (iI (g 1)), .int (iI (g 2)), .int (iI (g 3)), .int (iI (g 4)), .int (iI (g 5)), .int (iI (g 6)), .int (iI (g 7))]) := (fr_7 a2 hne).trans hM_4
  refine g_aload_n X 0 rfl dX4_copy_16 rfl ?_
  refine g_aload_n X 1 rfl dX4_copy_17 rfl ?_
  refine g_get X cl_X4 2 (by decide) wf_X4_9 rfl ha2 hM_8 rfl dX4_copy_18 rfl ?_
  refine g_put X cl_X4 2 (by decide) wf_X4_9 rfl ha hM_6 rfl rfl rfl (Nat.le_of_ble_eq_true rfl) (fs' := [.int (iI (g 0)), .int (iI (g 1)), .int (iI (g 2)), .int (iI (f 3)), .int (iI (f 4)), .int (iI (f 5)), .int (iI (f 6)), .int (iI (f 7))]) rfl dX4_copy_21 rfl (fun M_9 hM_10 fr_11 => ?_)
  have hM_12 : M_9 a2 = .inr (4, [.int (iI (g 0)), .int (iI (g 1)), .int (iI (g 2)), .int (iI (g 3)), .int (iI (g 4)), .int (iI (g 5)), .int (iI (g 6)), .int (iI (g 7))]) := (fr_11 a2 hne).trans hM_8
  refine g_aload_n X 0 rfl dX4_copy_24 rfl ?_
  refine g_aload_n X 1 rfl dX4_copy_25 rfl ?_
  refine g_get X cl_X4 3 (by decide) wf_X4_15 rfl ha2 hM_12 rfl dX4_copy_26 rfl ?_
  refine g_put X cl_X4 3 (by decide) wf_X4_15 rfl ha hM_10 rfl rfl rfl (Nat.le_of_ble_eq_true rfl) (fs' := [.int (iI (g 0)), .int (iI (g 1)), .int (iI (g 2)), .int (iI (g 3)), .int (iI (f 4)), .int (iI (f 5)), .int (iI (f 6)), .int (iI (f 7))]) rfl dX4_copy_29 rfl (fun M_13 hM_14 fr_15 => ?_)
  have hM_16 : M_13 a2 = .inr (4, [.int (iI (g 0)), .int (iI (g 1)), .int (iI (g 2)), .int (iI (g 3)), .int (iI (g 4)), .int (iI (g 5)), .int (iI (g 6)), .int (iI (g 7))]) := (fr_15 a2 hne).trans hM_12
  refine g_aload_n X 0 rfl dX4_copy_32 rfl ?_
  refine g_aload_n X 1 rfl dX4_copy_33 rfl ?_
  refine g_get X cl_X4 4 (by decide) wf_X4_21 rfl ha2 hM_16 rfl dX4_copy_34 rfl ?_
  refine g_put X cl_X4 4 (by decide) wf_X4_21 rfl ha hM_14 rfl rfl rfl (Nat.le_of_ble_eq_true rfl) (fs' := [.int (iI (g 0)), .int (iI (g 1)), .int (iI (g 2)), .int (iI (g 3)), .int (iI (g 4)), .int (iI (f 5)), .int (iI (f 6)), .int (iI (f 7))]) rfl dX4_copy_37 rfl (fun M_17 hM_18 fr_19 => ?_)
  have hM_20 : M_17 a2 = .inr (4, [.int (iI (g 0)), .int (iI (g 1)), .int (iI (g 2)), .int (iI (g 3)), .int (iI (g 4)), .int (iI (g 5)), .int (iI (g 6)), .int (iI (g 7))]) := (fr_19 a2 hne).trans hM_16
  refine g_aload_n X 0 rfl dX4_copy_40 rfl ?_
  refine g_aload_n X 1 rfl dX4_copy_41 rfl ?_
  refine g_get X cl_X4 5 (by decide) wf_X4_24 rfl ha2 hM_20 rfl dX4_copy_42 rfl ?_
  refine g_put X cl_X4 5 (by decide) wf_X4_24 rfl ha hM_18 rfl rfl rfl (Nat.le_of_ble_eq_true rfl) (fs' := [.int (iI (g 0)), .int (iI (g 1)), .int (iI (g 2)), .int (iI (g 3)), .int (iI (g 4)), .int (iI (g 5)), .int (iI (f 6)), .int (iI (f 7))]) rfl dX4_copy_45 rfl (fun M_21 hM_22 fr_23 => ?_)
  have hM_24 : M_21 a2 = .inr (4, [.int (iI (g 0)), .int (iI (g 1)), .int (iI (g 2)), .int (iI (g 3)), .int (iI (g 4)), .int (iI (g 5)), .int (iI (g 6)), .int (iI (g 7))]) := (fr_23 a2 hne).trans hM_20
  refine g_aload_n X 0 rfl dX4_copy_48 rfl ?_
  refine g_aload_n X 1 rfl dX4_copy_49 rfl ?_
  refine g_get X cl_X4 6 (by decide) wf_X4_27 rfl ha2 hM_24 rfl dX4_copy_50 rfl ?_
  refine g_put X cl_X4 6 (by decide) wf_X4_27 rfl ha hM_22 rfl rfl rfl (Nat.le_of_ble_eq_true rfl) (fs' := [.int (iI (g 0)), .int (iI (g 1)), .int (iI (g 2)), .int (iI (g 3)), .int (iI (g 4)), .int (iI (g 5)), .int (iI (g 6)), .int (iI (f 7))]) rfl dX4_copy_53 rfl (fun M_25 hM_26 fr_27 => ?_)
  have hM_28 : M_25 a2 = .inr (4, [.int (iI (g 0)), .int (iI (g 1)), .int (iI (g 2)), .int (iI (g 3)), .int (iI (g 4)), .int (iI (g 5)), .int (iI (g 6)), .int (iI (g 7))]) := (fr_27 a2 hne).trans hM_24
  refine g_aload_n X 0 rfl dX4_copy_56 rfl ?_
  refine g_aload_n X 1 rfl dX4_copy_57 rfl ?_
  refine g_get X cl_X4 7 (by decide) wf_X4_30 rfl ha2 hM_28 rfl dX4_copy_58 rfl ?_
  refine g_put X cl_X4 7 (by decide) wf_X4_30 rfl ha hM_26 rfl rfl rfl (Nat.le_of_ble_eq_true rfl) (fs' := [.int (iI (g 0)), .int (iI (g 1)), .int (iI (g 2)), .int (iI (g 3)), .int (iI (g 4)), .int (iI (g 5)), .int (iI (g 6)), .int (iI (g 7))]) rfl dX4_copy_61 rfl (fun M_29 hM_30 fr_31 => ?_)
  have hM_32 : M_29 a2 = .inr (4, [.int (iI (g 0)), .int (iI (g 1)), .int (iI (g 2)), .int (iI (g 3)), .int (iI (g 4)), .int (iI (g 5)), .int (iI (g 6)), .int (iI (g 7))]) := (fr_31 a2 hne).trans hM_28
  exact g_vret X hret ⟨Nat.le_of_ble_eq_true rfl, Nat.le_of_ble_eq_true rfl⟩ dX4_copy_64 ⟨rfl, rfl, hM_30.trans rfl, fun b hb => ((fr_31 b hb).trans ((fr_27 b hb).trans ((fr_23 b hb).trans ((fr_19 b hb).trans ((fr_15 b hb).trans ((fr_11 b hb).trans ((fr_7 b hb).trans (fr_3 b hb))))))))⟩
set_option maxRecDepth 100000 in
set_option maxHeartbeats 4000000 in
theorem ct_X0_copy (l : Launch) (a a2 : Nat) (f g : Int → Int) : Ct l yX0_copy cX0_copy 2 none 0 0 0 (fun ca av L M => av = [.ref a, .ref a2] ∧ a ∈ L ∧ M a = oBank f ∧ a2 ∈ L ∧ M a2 = oBank g ∧ a2 ≠ a) (fun ca av L M r L1 M1 => r = none ∧ L = L1 ∧ M1 a = oBank g ∧ ∀ b, b ≠ a → M1 b = M b) := by
  refine Ct_of (own := RX0) (by decide) rfl (by rintro _ _ _ _ ⟨rfl, _⟩; exact Nat.le_of_ble_eq_true rfl) ?_
  rintro p e s m args below meth c D ca A av L M ⟨rfl, ha, hM, ha2, hM2, hne⟩ X hret hname
  refine g_lv (lv' := [(0, .ref a), (1, .ref a2)]) [0, 1] rfl ?_
  refine g_aload_n X 0 rfl dX0_copy_0 rfl ?_
  refine g_aload_n X 1 rfl dX0_copy_1 rfl ?_
  refine g_get X cl_X0 0 (by decide) wf_X0_9 rfl ha2 hM2 rfl dX0_copy_2 rfl ?_
  refine g_put X cl_X0 0 (by decide) wf_X0_9 rfl ha hM rfl rfl rfl (Nat.le_of_ble_eq_true rfl) (fs' := [.int (iI (g 0)), .int (iI (f 1)), .int (iI (f 2)), .int (iI (f 3))]) rfl dX0_copy_5 rfl (fun M_1 hM_2 fr_3 => ?_)
  have hM_4 : M_1 a2 = .inr (0, [.int (iI (g 0)), .int (iI (g 1)), .int (iI (g 2)), .int (iI (g 3))]) := (fr_3 a2 hne).trans hM2
  refine g_aload_n X 0 rfl dX0_copy_8 rfl ?_
  refine g_aload_n X 1 rfl dX0_copy_9 rfl ?_
  refine g_get X cl_X0 1 (by decide) wf_X0_15 rfl ha2 hM_4 rfl dX0_copy_10 rfl ?_
  refine g_put X cl_X0 1 (by decide) wf_X0_15 rfl ha hM_2 rfl rfl rfl (Nat.le_of_ble_eq_true rfl) (fs' := [.int (iI (g 0)), .int (iI (g 1)), .int (iI (f 2)), .int (iI (f 3))]) rfl dX0_copy_13 rfl (fun M_5 hM_6 fr_7 => ?_)
  have hM_8 : M_5 a2 = .inr (0, [.int (iI (g 0)), .int (iI (g 1)), .int (iI (g 2)), .int (iI (g 3))]) := (fr_7 a2 hne).trans hM_4
  refine g_aload_n X 0 rfl dX0_copy_16 rfl ?_
  refine g_aload_n X 1 rfl dX0_copy_17 rfl ?_
  refine g_get X cl_X0 2 (by decide) wf_X0_18 rfl ha2 hM_8 rfl dX0_copy_18 rfl ?_
  refine g_put X cl_X0 2 (by decide) wf_X0_18 rfl ha hM_6 rfl rfl rfl (Nat.le_of_ble_eq_true rfl) (fs' := [.int (iI (g 0)), .int (iI (g 1)), .int (iI (g 2)), .int (iI (f 3))]) rfl dX0_copy_21 rfl (fun M_9 hM_10 fr_11 => ?_)
  have hM_12 : M_9 a2 = .inr (0, [.int (iI (g 0)), .int (iI (g 1)), .int (iI (g 2)), .int (iI (g 3))]) := (fr_11 a2 hne).trans hM_8
  refine g_aload_n X 0 rfl dX0_copy_24 rfl ?_
  refine g_aload_n X 1 rfl dX0_copy_25 rfl ?_
  refine g_get X cl_X0 3 (by decide) wf_X0_21 rfl ha2 hM_12 rfl dX0_copy_26 rfl ?_
  refine g_put X cl_X0 3 (by decide) wf_X0_21 rfl ha hM_10 rfl rfl rfl (Nat.le_of_ble_eq_true rfl) (fs' := [.int (iI (g 0)), .int (iI (g 1)), .int (iI (g 2)), .int (iI (g 3))]) rfl dX0_copy_29 rfl (fun M_13 hM_14 fr_15 => ?_)
  have hM_16 : M_13 a2 = .inr (0, [.int (iI (g 0)), .int (iI (g 1)), .int (iI (g 2)), .int (iI (g 3))]) := (fr_15 a2 hne).trans hM_12
  exact g_vret X hret ⟨Nat.le_of_ble_eq_true rfl, Nat.le_of_ble_eq_true rfl⟩ dX0_copy_32 ⟨rfl, rfl, hM_14.trans rfl, fun b hb => ((fr_15 b hb).trans ((fr_11 b hb).trans ((fr_7 b hb).trans (fr_3 b hb))))⟩
set_option maxRecDepth 100000 in
set_option maxHeartbeats 4000000 in
theorem ct_X4_nextAddress (l : Launch) (a : Nat) (f : Int → Int) : Ct l yX4_nextAddress cX4_nextAddress 1 (some .int) 0 0 0 (fun ca av L M => av = [.ref a] ∧ a ∈ L ∧ M a = oRow f ∧ R32 (f 3) ∧ R32 (f 2) ∧ (0 ≤ f 4 + f 1 ∧ f 4 + f 1 < 2147483648)) (fun ca av L M r L1 M1 => r = some (.int (iI (rwNext f))) ∧ L = L1 ∧ M = M1) := by
  refine Ct_of (own := RX4) (by decide) rfl (by rintro _ _ _ _ ⟨rfl, _⟩; exact Nat.le_of_ble_eq_true rfl) ?_
  rintro p e s m args below meth c D ca A av L M ⟨rfl, ha, hM, hr3, hr2, hs⟩ X hret hname
  refine g_lv (lv' := [(0, .ref a)]) [0] rfl ?_
  refine g_aload_n X 0 rfl dX4_nextAddress_0 rfl ?_
  refine g_get X cl_X4 3 (by decide) wf_X4_15 rfl ha hM rfl dX4_nextAddress_1 rfl ?_
  refine g_aload_n X 0 rfl dX4_nextAddress_4 rfl ?_
  refine g_get X cl_X4 2 (by decide) wf_X4_9 rfl ha hM rfl dX4_nextAddress_5 rfl ?_
  refine g_icmp_ne X hr3 hr2 (tgt := 18) dX4_nextAddress_8 (by decide) rfl (fun h_1 => ?_) (fun h_1 => ?_)
  · refine g_aload_n X 0 rfl dX4_nextAddress_18 rfl ?_
    refine g_get X cl_X4 4 (by decide) wf_X4_21 rfl ha hM rfl dX4_nextAddress_19 rfl ?_
    refine g_aload_n X 0 rfl dX4_nextAddress_22 rfl ?_
    refine g_get X cl_X4 1 (by decide) wf_X4_33 rfl ha hM rfl dX4_nextAddress_23 rfl ?_
    refine g_iadd X dX4_nextAddress_26 rfl ?_
    refine g_sipush X (z := 4096) (by decide +kernel) dX4_nextAddress_27 rfl ?_
    refine g_irem X ⟨hs, by decide, by decide⟩ dX4_nextAddress_30 rfl ?_
    exact g_iret X hret ⟨Nat.le_of_ble_eq_true rfl, Nat.le_of_ble_eq_true rfl⟩ dX4_nextAddress_31 ⟨by rw [rwNext, if_neg h_1], rfl, rfl⟩
  · refine g_aload_n X 0 rfl dX4_nextAddress_11 rfl ?_
    refine g_get X cl_X4 0 (by decide) wf_X4_18 rfl ha hM rfl dX4_nextAddress_12 rfl ?_
    refine g_goto X (n := 31) dX4_nextAddress_15 (by decide) ?_
    exact g_iret X hret ⟨Nat.le_of_ble_eq_true rfl, Nat.le_of_ble_eq_true rfl⟩ dX4_nextAddress_31 ⟨by rw [rwNext, if_pos (Decidable.not_not.mp h_1)], rfl, rfl⟩
set_option maxRecDepth 100000 in
set_option maxHeartbeats 4000000 in
theorem ct_X4_tell (l : Launch) (a : Nat) (f : Int → Int) (w : Int) : Ct l yX4_tell cX4_tell 2 (some .int) 1 0 0 (fun ca av L M => av = [.ref a, .int (iI w)] ∧ a ∈ L ∧ M a = oRow f ∧ R32 w ∧ R32 (f 3) ∧ R32 (f 2) ∧ (0 ≤ f 4 + f 1 ∧ f 4 + f 1 < 2147483648)) (fun ca av L M r L1 M1 => r = some (.int (iI (rwTell f w))) ∧ L = L1 ∧ M = M1) := by
  refine Ct_of (own := RX4) (by decide) rfl (by rintro _ _ _ _ ⟨rfl, _⟩; exact Nat.le_of_ble_eq_true rfl) ?_
  rintro p e s m args below meth c D ca A av L M ⟨rfl, ha, hM, hw, hr3, hr2, hs⟩ X hret hname
  refine g_lv (lv' := [(0, .ref a), (1, .int (iI w))]) [0, 1] rfl ?_
  refine g_iload_n X 1 rfl dX4_tell_0 rfl ?_
  by_cases h_1 : 0 ≤ w ∧ w ≤ 7
  · have h_1a : w = 0 ∨ w = 1 ∨ w = 2 ∨ w = 3 ∨ w = 4 ∨ w = 5 ∨ w = 6 ∨ w = 7 := by omega
    rcases h_1a with h_1a | h_1a | h_1a | h_1a | h_1a | h_1a | h_1a | h_1a
    · refine g_tsIn X dX4_tell_1 hw 0 h_1a (by decide) (by decide) rfl (by decide : _ = ((48 : Nat) : Int)) ?_
      refine g_aload_n X 0 rfl dX4_tell_48 rfl ?_
      refine g_get X cl_X4 0 (by decide) wf_X4_18 rfl ha hM rfl dX4_tell_49 rfl ?_
      exact g_iret X hret ⟨Nat.le_of_ble_eq_true rfl, Nat.le_of_ble_eq_true rfl⟩ dX4_tell_52 ⟨by rw [rwTell, if_pos h_1a], rfl, rfl⟩
    · refine g_tsIn X dX4_tell_1 hw 1 h_1a (by decide) (by decide) rfl (by decide : _ = ((53 : Nat) : Int)) ?_
      refine g_aload_n X 0 rfl dX4_tell_53 rfl ?_
      refine g_get X cl_X4 1 (by decide) wf_X4_33 rfl ha hM rfl dX4_tell_54 rfl ?_
      exact g_iret X hret ⟨Nat.le_of_ble_eq_true rfl, Nat.le_of_ble_eq_true rfl⟩ dX4_tell_57 ⟨by rw [rwTell, if_neg (by omega : ¬ w = 0), if_pos h_1a], rfl, rfl⟩
    · refine g_tsIn X dX4_tell_1 hw 2 h_1a (by decide) (by decide) rfl (by decide : _ = ((58 : Nat) : Int)) ?_
      refine g_aload_n X 0 rfl dX4_tell_58 rfl ?_
      refine g_get X cl_X4 2 (by decide) wf_X4_9 rfl ha hM rfl dX4_tell_59 rfl ?_
      exact g_iret X hret ⟨Nat.le_of_ble_eq_true rfl, Nat.le_of_ble_eq_true rfl⟩ dX4_tell_62 ⟨by rw [rwTell, if_neg (by omega : ¬ w = 0), if_neg (by omega : ¬ w = 1), if_pos h_1a], rfl, rfl⟩
    · refine g_tsIn X dX4_tell_1 hw 3 h_1a (by decide) (by decide) rfl (by decide : _ = ((63 : Nat) : Int)) ?_
      refine g_aload_n X 0 rfl dX4_tell_63 rfl ?_
      refine g_get X cl_X4 3 (by decide) wf_X4_15 rfl ha hM rfl dX4_tell_64 rfl ?_
      exact g_iret X hret ⟨Nat.le_of_ble_eq_true rfl, Nat.le_of_ble_eq_true rfl⟩ dX4_tell_67 ⟨by rw [rwTell, if_neg (by omega : ¬ w = 0), if_neg (by omega : ¬ w = 1), if_neg (by omega : ¬ w = 2), if_pos h_1a], rfl, rfl⟩
    · refine g_tsIn X dX4_tell_1 hw 4 h_1a (by decide) (by decide) rfl (by decide : _ = ((68 : Nat) : Int)) ?_
      refine g_aload_n X 0 rfl dX4_tell_68 rfl ?_
      refine g_get X cl_X4 3 (by decide) wf_X4_15 rfl ha hM rfl dX4_tell_69 rfl ?_
      refine g_if_le X hr3 (tgt := 82) dX4_tell_72 (by decide) rfl (fun h_2 => ?_) (fun h_2 => ?_)
      · refine g_bipush X (z := -6) (by decide +kernel) dX4_tell_82 rfl ?_
        exact g_iret X hret ⟨Nat.le_of_ble_eq_true rfl, Nat.le_of_ble_eq_true rfl⟩ dX4_tell_84 ⟨by rw [rwTell, if_neg (by omega : ¬ w = 0), if_neg (by omega : ¬ w = 1), if_neg (by omega : ¬ w = 2), if_neg (by omega : ¬ w = 3), if_pos h_1a, if_neg (by omega)], rfl, rfl⟩
      · refine g_aload_n X 0 rfl dX4_tell_75 rfl ?_
        refine g_callV X (ct_X4_nextAddress l a f) (As := []) (rest := []) cl_X4 rfl ca_X4_nextAddress rfl wm_X4_36 wi_X4_nextAddress ws_X4_nextAddress wc_X4_nextAddress w0_X4 ⟨by decide, by decide⟩ ha hM (by decide) ⟨by decide, by decide⟩ rfl dX4_tell_76 rfl ⟨rfl, ha, hM, hr3, hr2, hs⟩ (fun r1 L1 M1 hq => ?_)
        obtain ⟨rfl, rfl, rfl⟩ := hq
        refine g_st (st' := [.int (iI (rwNext f))]) rfl ?_
        refine g_goto X (n := 84) dX4_tell_79 (by decide) ?_
        exact g_iret X hret ⟨Nat.le_of_ble_eq_true rfl, Nat.le_of_ble_eq_true rfl⟩ dX4_tell_84 ⟨by rw [rwTell, if_neg (by omega : ¬ w = 0), if_neg (by omega : ¬ w = 1), if_neg (by omega : ¬ w = 2), if_neg (by omega : ¬ w = 3), if_pos h_1a, if_pos (by omega)], rfl, rfl⟩
    · refine g_tsIn X dX4_tell_1 hw 5 h_1a (by decide) (by decide) rfl (by decide : _ = ((85 : Nat) : Int)) ?_
      refine g_aload_n X 0 rfl dX4_tell_85 rfl ?_
      refine g_get X cl_X4 5 (by decide) wf_X4_24 rfl ha hM rfl dX4_tell_86 rfl ?_
      exact g_iret X hret ⟨Nat.le_of_ble_eq_true rfl, Nat.le_of_ble_eq_true rfl⟩ dX4_tell_89 ⟨by rw [rwTell, if_neg (by omega : ¬ w = 0), if_neg (by omega : ¬ w = 1), if_neg (by omega : ¬ w = 2), if_neg (by omega : ¬ w = 3), if_neg (by omega : ¬ w = 4), if_pos h_1a], rfl, rfl⟩
    · refine g_tsIn X dX4_tell_1 hw 6 h_1a (by decide) (by decide) rfl (by decide : _ = ((90 : Nat) : Int)) ?_
      refine g_aload_n X 0 rfl dX4_tell_90 rfl ?_
      refine g_get X cl_X4 6 (by decide) wf_X4_27 rfl ha hM rfl dX4_tell_91 rfl ?_
      exact g_iret X hret ⟨Nat.le_of_ble_eq_true rfl, Nat.le_of_ble_eq_true rfl⟩ dX4_tell_94 ⟨by rw [rwTell, if_neg (by omega : ¬ w = 0), if_neg (by omega : ¬ w = 1), if_neg (by omega : ¬ w = 2), if_neg (by omega : ¬ w = 3), if_neg (by omega : ¬ w = 4), if_neg (by omega : ¬ w = 5), if_pos h_1a], rfl, rfl⟩
    · refine g_tsIn X dX4_tell_1 hw 7 h_1a (by decide) (by decide) rfl (by decide : _ = ((95 : Nat) : Int)) ?_
      refine g_aload_n X 0 rfl dX4_tell_95 rfl ?_
      refine g_get X cl_X4 7 (by decide) wf_X4_30 rfl ha hM rfl dX4_tell_96 rfl ?_
      exact g_iret X hret ⟨Nat.le_of_ble_eq_true rfl, Nat.le_of_ble_eq_true rfl⟩ dX4_tell_99 ⟨by rw [rwTell, if_neg (by omega : ¬ w = 0), if_neg (by omega : ¬ w = 1), if_neg (by omega : ¬ w = 2), if_neg (by omega : ¬ w = 3), if_neg (by omega : ¬ w = 4), if_neg (by omega : ¬ w = 5), if_neg (by omega : ¬ w = 6), if_pos h_1a], rfl, rfl⟩
  · refine g_tsOut X dX4_tell_1 hw (by omega) (by decide : _ = ((100 : Nat) : Int)) ?_
    refine g_bipush X (z := -2) (by decide +kernel) dX4_tell_100 rfl ?_
    exact g_iret X hret ⟨Nat.le_of_ble_eq_true rfl, Nat.le_of_ble_eq_true rfl⟩ dX4_tell_102 ⟨by rw [rwTell, if_neg (by omega : ¬ w = 0), if_neg (by omega : ¬ w = 1), if_neg (by omega : ¬ w = 2), if_neg (by omega : ¬ w = 3), if_neg (by omega : ¬ w = 4), if_neg (by omega : ¬ w = 5), if_neg (by omega : ¬ w = 6), if_neg (by omega : ¬ w = 7)], rfl, rfl⟩
theorem oRow_eq {f : Int → Int} {x0 x1 x2 x3 x4 x5 x6 x7 : Int} (h0 : x0 = f 0) (h1 : x1 = f 1) (h2 : x2 = f 2) (h3 : x3 = f 3) (h4 : x4 = f 4) (h5 : x5 = f 5) (h6 : x6 = f 6) (h7 : x7 = f 7) : (.inr (4, [.int (iI x0), .int (iI x1), .int (iI x2), .int (iI x3), .int (iI x4), .int (iI x5), .int (iI x6), .int (iI x7)]) : va_E) = oRow f := by
  subst h0 h1 h2 h3 h4 h5 h6 h7; rfl
theorem oBank_eq {f : Int → Int} {x0 x1 x2 x3 : Int} (h0 : x0 = f 0) (h1 : x1 = f 1) (h2 : x2 = f 2) (h3 : x3 = f 3) : (.inr (0, [.int (iI x0), .int (iI x1), .int (iI x2), .int (iI x3)]) : va_E) = oBank f := by
  subst h0 h1 h2 h3; rfl
set_option maxRecDepth 100000 in
set_option maxHeartbeats 4000000 in
theorem ct_X4_finishRequest (l : Launch) (a : Nat) (f : Int → Int) (w cy : Int) : Ct l yX4_finishRequest cX4_finishRequest 3 none 0 0 0 (fun ca av L M => av = [.ref a, .int (iI w), .int (iI cy)] ∧ a ∈ L ∧ M a = oRow f ∧ R32 (f 3 - 1)) (fun ca av L M r L1 M1 => r = none ∧ L = L1 ∧ M1 a = oRow (rwFin f w cy) ∧ ∀ b, b ≠ a → M1 b = M b) := by
  refine Ct_of (own := RX4) (by decide) rfl (by rintro _ _ _ _ ⟨rfl, _⟩; exact Nat.le_of_ble_eq_true rfl) ?_
  rintro p e s m args below meth c D ca A av L M ⟨rfl, ha, hM, hr3⟩ X hret hname
  refine g_lv (lv' := [(0, .ref a), (1, .int (iI w)), (2, .int (iI cy))]) [0, 1, 2] rfl ?_
  refine g_aload_n X 0 rfl dX4_finishRequest_0 rfl ?_
  refine g_iload_n X 1 rfl dX4_finishRequest_1 rfl ?_
  refine g_put X cl_X4 4 (by decide) wf_X4_21 rfl ha hM rfl rfl rfl (Nat.le_of_ble_eq_true rfl) (fs' := [.int (iI (f 0)), .int (iI (f 1)), .int (iI (f 2)), .int (iI (f 3)), .int (iI w), .int (iI (f 5)), .int (iI (f 6)), .int (iI (f 7))]) rfl dX4_finishRequest_2 rfl (fun M_1 hM_2 fr_3 => ?_)
  refine g_aload_n X 0 rfl dX4_finishRequest_5 rfl ?_
  refine g_dup X rfl dX4_finishRequest_6 rfl ?_
  refine g_get X cl_X4 3 (by decide) wf_X4_15 rfl ha hM_2 rfl dX4_finishRequest_7 rfl ?_
  refine g_iconst X (z := 1) dX4_finishRequest_10 rfl ?_
  refine g_isub X dX4_finishRequest_11 rfl ?_
  refine g_put X cl_X4 3 (by decide) wf_X4_15 rfl ha hM_2 rfl rfl rfl (Nat.le_of_ble_eq_true rfl) (fs' := [.int (iI (f 0)), .int (iI (f 1)), .int (iI (f 2)), .int (iI (f 3 - 1)), .int (iI w), .int (iI (f 5)), .int (iI (f 6)), .int (iI (f 7))]) rfl dX4_finishRequest_12 rfl (fun M_4 hM_5 fr_6 => ?_)
  refine g_aload_n X 0 rfl dX4_finishRequest_15 rfl ?_
  refine g_get X cl_X4 3 (by decide) wf_X4_15 rfl ha hM_5 rfl dX4_finishRequest_16 rfl ?_
  refine g_if_ne X hr3 (tgt := 27) dX4_finishRequest_19 (by decide) rfl (fun h_7 => ?_) (fun h_7 => ?_)
  · exact g_vret X hret ⟨Nat.le_of_ble_eq_true rfl, Nat.le_of_ble_eq_true rfl⟩ dX4_finishRequest_27 ⟨rfl, rfl, by rw [hM_5]; exact oRow_eq rfl rfl rfl rfl rfl rfl rfl (by show f 7 = (if f 3 - 1 = 0 then cy else f 7); rw [if_neg h_7]), fun b hb => ((fr_6 b hb).trans (fr_3 b hb))⟩
  · refine g_aload_n X 0 rfl dX4_finishRequest_22 rfl ?_
    refine g_iload_n X 2 rfl dX4_finishRequest_23 rfl ?_
    refine g_put X cl_X4 7 (by decide) wf_X4_30 rfl ha hM_5 rfl rfl rfl (Nat.le_of_ble_eq_true rfl) (fs' := [.int (iI (f 0)), .int (iI (f 1)), .int (iI (f 2)), .int (iI (f 3 - 1)), .int (iI w), .int (iI (f 5)), .int (iI (f 6)), .int (iI cy)]) rfl dX4_finishRequest_24 rfl (fun M_8 hM_9 fr_10 => ?_)
    exact g_vret X hret ⟨Nat.le_of_ble_eq_true rfl, Nat.le_of_ble_eq_true rfl⟩ dX4_finishRequest_27 ⟨rfl, rfl, by rw [hM_9]; exact oRow_eq rfl rfl rfl rfl rfl rfl rfl (by show cy = (if f 3 - 1 = 0 then cy else f 7); rw [if_pos (Decidable.not_not.mp h_7)]), fun b hb => ((fr_10 b hb).trans ((fr_6 b hb).trans (fr_3 b hb)))⟩
