/-! the class: constructors of the pad and the history -/
set_option maxRecDepth 100000 in
set_option maxHeartbeats 4000000 in
theorem ct_X2_init (l : Launch) (o : Nat) : Ct l yX2_init cX2_init 1 none 1 2 120 (fun ca av L M => av = [.ref o] ∧ o ∈ L ∧ M o = .inr (2, [.null, .int (iI 0), .null, .int (iI 0)])) (fun ca av L M r L1 M1 => r = none ∧ ∃ q1 q2 : Nat, L1 = (L ++ [q1]) ++ [q2] ∧ q1 ∉ L ∧ q2 ∉ L ++ [q1] ∧ M1 o = .inr (2, [.ref q1, .int (iI 0), .ref q2, .int (iI 0)]) ∧ M1 q1 = cC ca 60 (fun _ => 0) ∧ M1 q2 = cI ca 60 (fun _ => 0) ∧ ∀ b ∈ L, b ≠ o → M1 b = M b) := by
  refine Ct_of (own := RX2) (by decide) rfl (by rintro _ _ _ _ ⟨rfl, _⟩; exact Nat.le_of_ble_eq_true rfl) ?_
  rintro p e s m args below meth cod D ca A av L M ⟨rfl, ho, hMo⟩ X hret hname
  refine g_lv (lv' := [(0, .ref o)]) [0] rfl ?_
  have hinit : meth.name = "<init>" := hname.symm
  refine g_aload_n X 0 rfl dX2_init_0 rfl ?_
  refine g_objInit X wm_X2_3 ⟨by decide, by decide⟩ dX2_init_1 rfl ?_ (Nat.le_of_ble_eq_true rfl)
  refine g_aload_n X 0 rfl dX2_init_4 rfl ?_
  refine g_bipush X (z := 60) (by decide +kernel) dX2_init_5 rfl ?_
  refine g_newaC X 60 rfl ⟨by decide, by decide⟩ (by decide) dX2_init_7 rfl (fun q_1 L_2 M_3 hq_4 hL_5 hM_6 fr_7 => ?_)
  have ne_9 : o ≠ q_1 := fun e0 => hq_4 (e0 ▸ ho)
  have hi_8 : o ∈ L_2 := hL_5 ▸ List.mem_append_left _ ho
  have hM_10 : M_3 o = .inr (2, [.null, .int (iI 0), .null, .int (iI 0)]) := (fr_7 o ne_9).trans hMo
  have hi_11 : q_1 ∈ L_2 := hL_5 ▸ List.mem_append_right _ List.mem_cons_self
  refine g_putF X cl_X2 0 (by decide) wf_X2_9 rfl hi_8 hM_10 rfl hinit rfl rfl rfl (Nat.le_of_ble_eq_true rfl) (fs' := [.ref q_1, .int (iI 0), .null, .int (iI 0)]) rfl dX2_init_9 rfl (fun M_12 hM_13 fr_14 => ?_)
  have hM_15 : M_12 q_1 = cC ca 60 (fun _ => 0) := (fr_14 q_1 (Ne.symm ne_9)).trans hM_6
  refine g_aload_n X 0 rfl dX2_init_12 rfl ?_
  refine g_bipush X (z := 60) (by decide +kernel) dX2_init_13 rfl ?_
  refine g_newaI X 60 rfl ⟨by decide, by decide⟩ (by decide) dX2_init_15 rfl (fun q_16 L_17 M_18 hq_19 hL_20 hM_21 fr_22 => ?_)
  have ne_24 : q_1 ≠ q_16 := fun e0 => hq_19 (e0 ▸ hi_11)
  have hi_23 : q_1 ∈ L_17 := hL_20 ▸ List.mem_append_left _ hi_11
  have hM_25 : M_18 q_1 = cC ca 60 (fun _ => 0) := (fr_22 q_1 ne_24).trans hM_15
  have ne_27 : o ≠ q_16 := fun e0 => hq_19 (e0 ▸ hi_8)
  have hi_26 : o ∈ L_17 := hL_20 ▸ List.mem_append_left _ hi_8
  have hM_28 : M_18 o = .inr (2, [.ref q_1, .int (iI 0), .null, .int (iI 0)]) := (fr_22 o ne_27).trans hM_13
  have hi_29 : q_16 ∈ L_17 := hL_20 ▸ List.mem_append_right _ List.mem_cons_self
  refine g_putF X cl_X2 2 (by decide) wf_X2_15 rfl hi_26 hM_28 rfl hinit rfl rfl rfl (Nat.le_of_ble_eq_true rfl) (fs' := [.ref q_1, .int (iI 0), .ref q_16, .int (iI 0)]) rfl dX2_init_17 rfl (fun M_30 hM_31 fr_32 => ?_)
  have hM_33 : M_30 q_1 = cC ca 60 (fun _ => 0) := (fr_32 q_1 (Ne.symm ne_9)).trans hM_25
  have hM_34 : M_30 q_16 = cI ca 60 (fun _ => 0) := (fr_32 q_16 (Ne.symm ne_27)).trans hM_21
  have hx2 : q_16 ∉ L := fun hb => hq_19 (hL_5 ▸ List.mem_append_left _ hb)
  exact g_vret X hret ⟨Nat.le_of_ble_eq_true rfl, Nat.le_of_ble_eq_true rfl⟩ dX2_init_20 ⟨rfl, q_1, q_16, by rw [hL_20, hL_5], hq_4, by rw [← hL_5]; exact hq_19, hM_31, hM_33, hM_34, fun b hb hb2 => ((fr_32 b hb2).trans ((fr_22 b (fun e0 => hx2 (e0 ▸ hb))).trans ((fr_14 b hb2).trans (fr_7 b (fun e0 => hq_4 (e0 ▸ hb))))))⟩
set_option maxRecDepth 100000 in
set_option maxHeartbeats 4000000 in
theorem ct_X1_init (l : Launch) (o : Nat) : Ct l yX1_init cX1_init 2 none 3 145 756 (fun ca av L M => av = [.ref o] ∧ o ∈ L ∧ M o = .inr (1, [.null, .int (iI 0)])) (fun ca av L M r L1 M1 => r = none ∧ ∃ (ρ : Nat) (L0 : List Nat) (M0 : Mem) (τ : Int → Int → Nat), ρ ∉ L ∧ L0 = L ++ [ρ] ∧ M0 o = .inr (1, [.ref ρ, .int (iI 0)]) ∧ InFm ca L0 L1 M0 M1 ρ 6 τ 6 ∧ ∀ b ∈ L, b ≠ o → M0 b = M b) := by
  refine Ct_of (own := RX1) (by decide) rfl (by rintro _ _ _ _ ⟨rfl, _⟩; exact Nat.le_of_ble_eq_true rfl) ?_
  rintro p e s m args below meth cod D ca A av L M ⟨rfl, ho, hMo⟩ X hret hname
  refine g_lv (lv' := [(0, .ref o)]) [0] rfl ?_
  have hinit : meth.name = "<init>" := hname.symm
  generalize hQ : MQ below _ args s _ _ A = Q
  have lp : ∀ (n : Nat) (k : Nat) (y : Int) (L0 L1 : List Nat) (M0 M1 : Mem) (ρ : Nat) (τ : Int → Int → Nat) (hρ : ρ ∉ L) (hL0 : L0 = L ++ [ρ]) (hM0 : M0 o = .inr (1, [.ref ρ, .int (iI 0)])) (hf0 : ∀ b ∈ L, b ≠ o → M0 b = M b) (hy : y = k) (hyb : y ≤ 6) (hI : InFm ca L0 L1 M0 M1 ρ 6 τ y) (hm : 6 - y < (n : Int)), G p l e (Rm 3 145 756) s m args below meth cod D A 2 Q (1 + 24 * k) (6 + 125 * k) L1 M1 15 [(0, .ref o), (1, .int (iI y))] [] := by
    intro n
    induction n with
    | zero =>
      intro k y L0 L1 M0 M1 ρ τ hρ hL0 hM0 hf0 hy hyb hI hm
      exfalso; omega
    | succ n ih =>
      intro k y L0 L1 M0 M1 ρ τ hρ hL0 hM0 hf0 hy hyb hI hm
      have ho0 : o ∈ L0 := hL0 ▸ List.mem_append_left _ ho
      have hor : o ≠ ρ := fun e0 => hρ (e0 ▸ ho)
      have ho1 : o ∈ L1 := hI.sub _ ho0
      have hobj : M1 o = .inr (1, [.ref ρ, .int (iI 0)]) := (hI.fr _ ho0 hor).trans hM0
      refine g_iload_n X 1 rfl dX1_init_15 rfl ?_
      refine g_bipush X (z := 6) (by decide +kernel) dX1_init_16 rfl ?_
      refine g_icmp_ge X ⟨by omega, by omega⟩ ⟨by decide, by decide⟩ (tgt := 40) dX1_init_18 (by decide) rfl (fun h_1 => ?_) (fun h_1 => ?_)
      · subst hQ
        obtain rfl : y = 6 := by omega
        exact g_vret X hret ⟨by omega, by omega⟩ dX1_init_40 ⟨rfl, ρ, L0, M0, τ, hρ, hL0, hM0, hI, hf0⟩
      · refine g_aload_n X 0 rfl dX1_init_21 rfl ?_
        refine g_get X cl_X1 0 (by decide) wf_X1_11 rfl ho1 hobj rfl dX1_init_22 rfl ?_
        refine g_iload_n X 1 rfl dX1_init_25 rfl ?_
        refine g_new X cl_X3 wk_X1_9 w1_X3 w0_X3 [.null, .null, .null, .int (iI 0), .int (iI 0)] (fun j hj => by rcases (by omega : j = 0 ∨ j = 1 ∨ j = 2 ∨ j = 3 ∨ j = 4) with rfl | rfl | rfl | rfl | rfl <;> first | rfl | exact congrArg Value.int iI_zero) ⟨(show 1 + 24 * k + 1 ≤ 145 by omega), (show 6 + 125 * k + 5 ≤ 756 by omega)⟩ dX1_init_26 rfl (fun q_2 L_3 M_4 hq_5 hL_6 hM_7 fr_8 => ?_)
        have ne_10 : o ≠ q_2 := fun e0 => hq_5 (e0 ▸ ho1)
        have hi_9 : o ∈ L_3 := hL_6 ▸ List.mem_append_left _ ho1
        have hM_11 : M_4 o = .inr (1, [.ref (ρ), .int (iI 0)]) := (fr_8 o ne_10).trans hobj
        have ne_13 : ρ ≠ q_2 := fun e0 => hq_5 (e0 ▸ hI.rin)
        have hi_12 : ρ ∈ L_3 := hL_6 ▸ List.mem_append_left _ hI.rin
        have hM_14 : M_4 (ρ) = cR ca 4 6 (rwh τ y) := (fr_8 (ρ) ne_13).trans hI.row
        have hi_15 : q_2 ∈ L_3 := hL_6 ▸ List.mem_append_right _ List.mem_cons_self
        refine g_dup X rfl dX1_init_29 rfl ?_
        refine g_callIN X (ct_X3_init l q_2) (host := "StrideBanks") (As := []) (rest := [.ref q_2, .int (iI y), .ref (ρ)]) rfl rfl ca_X3_init rfl wm_X1_17 wi_X3_init wc_X3_init w0_X3 ⟨by decide, by decide⟩ (Nat.le_of_ble_eq_true rfl) ⟨(show 1 + 24 * k + 1 + 23 ≤ 145 by omega), (show 6 + 125 * k + 5 + 120 ≤ 756 by omega)⟩ rfl dX1_init_30 rfl ⟨rfl, hi_15, hM_7⟩ (fun r9 L_16 M_17 hq9 => ?_)
        obtain ⟨rfl, σ_18, hs_19, hs_20, hn_21, hL_22, fr_23⟩ := hq9
        have hi_26 : o ∈ L_16 := hL_22 _ hi_9
        have hM_27 : M_17 o = .inr (1, [.ref (ρ), .int (iI 0)]) := (fr_23 _ hi_9 ne_10).trans hM_11
        have hi_28 : ρ ∈ L_16 := hL_22 _ hi_12
        have hM_29 : M_17 (ρ) = cR ca 4 6 (rwh τ y) := (fr_23 _ hi_12 ne_13).trans hM_14
        have hi_24 : q_2 ∈ L_16 := hs_19 ▸ hs_20.mem (i := 0) (by decide) (by decide)
        have hM_25 : M_17 q_2 = oStore σ_18 cS0 := hs_19 ▸ hs_20.obj
        refine g_st (st' := [.ref q_2, .int (iI y), .ref (ρ)]) rfl ?_
        refine g_aast X (t := 4) rfl (ci := 3) rfl hi_28 hM_29 hi_24 hM_25 ⟨by omega, by omega⟩ (by decide) dX1_init_33 rfl (fun M_30 hM_31 fr_32 => ?_)
        have hM_33 : M_30 o = .inr (1, [.ref (ρ), .int (iI 0)]) := (fr_32 o hor).trans hM_27
        have hM_34 : M_30 q_2 = .inr (3, [.ref (σ_18 1), .ref (σ_18 2), .ref (σ_18 3), .int (iI (cS0 5)), .int (iI (cS0 4))]) := (fr_32 q_2 (Ne.symm ne_13)).trans hM_25
        refine g_iinc X (lv' := [(1, .int (iI (y + 1))), (0, .ref o)]) 1 rfl (by decide) rfl dX1_init_34 rfl ?_
        refine g_goto X (n := 15) dX1_init_37 (by decide) ?_
        refine g_lv (lv' := [(0, .ref o), (1, .int (iI (y + 1)))]) [1, 0] rfl ?_
        refine g_cs (c2 := 1 + 24 * (k + 1)) (s2 := 6 + 125 * (k + 1)) (by omega) (by omega) ?_
        exact ih (k + 1) _ _ _ _ _ _ _ hρ hL0 hM0 hf0 (by omega) (by omega) (hI.step (by omega) hq_5 hL_6 (fun b hb => fr_8 b hb) hs_19 hs_20 hn_21 hL_22 fr_23 hM_31 fr_32) (by omega)
  refine g_aload_n X 0 rfl dX1_init_0 rfl ?_
  refine g_objInit X wm_X1_3 ⟨by decide, by decide⟩ dX1_init_1 rfl ?_ (Nat.le_of_ble_eq_true rfl)
  refine g_aload_n X 0 rfl dX1_init_4 rfl ?_
  refine g_bipush X (z := 6) (by decide +kernel) dX1_init_5 rfl ?_
  refine g_newq X (C := RX3) 6 4 rfl rfl wk_X1_9 wo_X3 ⟨by decide, by decide⟩ (by decide) dX1_init_7 rfl (fun q_35 L_36 M_37 hq_38 hL_39 hM_40 fr_41 => ?_)
  have ne_43 : o ≠ q_35 := fun e0 => hq_38 (e0 ▸ ho)
  have hi_42 : o ∈ L_36 := hL_39 ▸ List.mem_append_left _ ho
  have hM_44 : M_37 o = .inr (1, [.null, .int (iI 0)]) := (fr_41 o ne_43).trans hMo
  have hi_45 : q_35 ∈ L_36 := hL_39 ▸ List.mem_append_right _ List.mem_cons_self
  refine g_putF X cl_X1 0 (by decide) wf_X1_11 rfl hi_42 hM_44 rfl hinit rfl rfl rfl (Nat.le_of_ble_eq_true rfl) (fs' := [.ref q_35, .int (iI 0)]) rfl dX1_init_10 rfl (fun M_46 hM_47 fr_48 => ?_)
  have hM_49 : M_46 q_35 = cR ca 4 6 (fun _ => none) := (fr_48 q_35 (Ne.symm ne_43)).trans hM_40
  refine g_iconst X (z := 0) dX1_init_13 rfl ?_
  refine g_istore_n X (lv' := [(1, .int (iI 0)), (0, .ref o)]) (by decide) rfl dX1_init_14 rfl ?_
  refine g_lv (lv' := [(0, .ref o), (1, .int (iI 0))]) [1, 0] rfl ?_
  refine g_cs (c2 := 1 + 24 * 0) (s2 := 6 + 125 * 0) (by omega) (by omega) ?_
  exact lp 7 0 0 _ _ _ _ _ (fun _ _ => 0) hq_38 hL_39 hM_47 (fun b hb hb2 => ((fr_48 b hb2).trans (fr_41 b (fun e0 => hq_38 (e0 ▸ hb))))) (by decide) (by decide) (InFm.zero hi_45 hM_49) (by decide)
