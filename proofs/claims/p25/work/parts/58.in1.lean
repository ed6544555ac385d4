/-! the class: constructors of its rows and stores -/
set_option maxRecDepth 100000 in
set_option maxHeartbeats 4000000 in
theorem ct_X0_init (l : Launch) (o : Nat) : Ct l yX0_init cX0_init 1 none 1 0 0 (fun ca av L M => av = [.ref o] ∧ True) (fun ca av L M r L1 M1 => r = none ∧ L = L1 ∧ M = M1) := by
  refine Ct_of (own := RX0) (by decide) rfl (by rintro _ _ _ _ ⟨rfl, _⟩; exact Nat.le_of_ble_eq_true rfl) ?_
  rintro p e s m args below meth cod D ca A av L M ⟨rfl, _⟩ X hret hname
  refine g_lv (lv' := [(0, .ref o)]) [0] rfl ?_
  refine g_aload_n X 0 rfl dX0_init_0 rfl ?_
  refine g_objInit X wm_X0_3 ⟨by decide, by decide⟩ dX0_init_1 rfl ?_ (Nat.le_of_ble_eq_true rfl)
  exact g_vret X hret ⟨Nat.le_of_ble_eq_true rfl, Nat.le_of_ble_eq_true rfl⟩ dX0_init_4 ⟨rfl, rfl, rfl⟩
set_option maxRecDepth 100000 in
set_option maxHeartbeats 4000000 in
theorem ct_X4_init (l : Launch) (o : Nat) : Ct l yX4_init cX4_init 1 none 1 0 0 (fun ca av L M => av = [.ref o] ∧ True) (fun ca av L M r L1 M1 => r = none ∧ L = L1 ∧ M = M1) := by
  refine Ct_of (own := RX4) (by decide) rfl (by rintro _ _ _ _ ⟨rfl, _⟩; exact Nat.le_of_ble_eq_true rfl) ?_
  rintro p e s m args below meth cod D ca A av L M ⟨rfl, _⟩ X hret hname
  refine g_lv (lv' := [(0, .ref o)]) [0] rfl ?_
  refine g_aload_n X 0 rfl dX4_init_0 rfl ?_
  refine g_objInit X wm_X4_3 ⟨by decide, by decide⟩ dX4_init_1 rfl ?_ (Nat.le_of_ble_eq_true rfl)
  exact g_vret X hret ⟨Nat.le_of_ble_eq_true rfl, Nat.le_of_ble_eq_true rfl⟩ dX4_init_4 ⟨rfl, rfl, rfl⟩
set_option maxRecDepth 100000 in
set_option maxHeartbeats 4000000 in
theorem ct_X3_init (l : Launch) (o : Nat) : Ct l yX3_init cX3_init 2 none 2 23 120 (fun ca av L M => av = [.ref o] ∧ o ∈ L ∧ M o = .inr (3, [.null, .null, .null, .int (iI 0), .int (iI 0)])) (fun ca av L M r L1 M1 => r = none ∧ ∃ σ : Int → Nat, σ 0 = o ∧ isSt ca L1 M1 σ cS0 ∧ (∀ i, 1 ≤ i → i < 24 → σ i ∉ L) ∧ (∀ b ∈ L, b ∈ L1) ∧ ∀ b ∈ L, b ≠ o → M1 b = M b) := by
  refine Ct_of (own := RX3) (by decide) rfl (by rintro _ _ _ _ ⟨rfl, _⟩; exact Nat.le_of_ble_eq_true rfl) ?_
  rintro p e s m args below meth cod D ca A av L M ⟨rfl, ho, hMo⟩ X hret hname
  refine g_lv (lv' := [(0, .ref o)]) [0] rfl ?_
  have hinit : meth.name = "<init>" := hname.symm
  generalize hQ : MQ below _ args s _ _ A = Q
  have lp2 : ∀ (n : Nat) (k : Nat) (y : Int) (L1 : List Nat) (M1 : Mem) (σ : Int → Nat) (hs0 : σ 0 = o) (hy : y = k) (hyb : y ≤ 16) (hI : InSt ca L L1 M M1 σ 4 y) (hm : 16 - y < (n : Int)), G p l e (Rm 2 23 120) s m args below meth cod D A 2 Q (7 + k) (56 + 4 * k) L1 M1 69 [(0, .ref o), (1, .int (iI y))] [] := by
    intro n
    induction n with
    | zero =>
      intro k y L1 M1 σ hs0 hy hyb hI hm
      exfalso; omega
    | succ n ih =>
      intro k y L1 M1 σ hs0 hy hyb hI hm
      have ho1 : o ∈ L1 := hs0 ▸ hI.oin
      have hobj : M1 o = .inr (3, [.ref (σ 1), .ref (σ 2), .ref (σ 3), .int (iI 0), .int (iI 0)]) := hs0 ▸ hI.obj
      have hrin : σ 3 ∈ L1 := hI.mem (by unfold inB; omega)
      have hrow := hI.bks
      have hnor : o ≠ σ 3 := hs0 ▸ hI.ne0 (by unfold inB; omega)
      refine g_iload_n X 1 rfl dX3_init_69 rfl ?_
      refine g_bipush X (z := 16) (by decide +kernel) dX3_init_70 rfl ?_
      refine g_icmp_ge X ⟨by omega, by omega⟩ ⟨by decide, by decide⟩ (tgt := 103) dX3_init_72 (by decide) rfl (fun h_1 => ?_) (fun h_1 => ?_)
      · subst hQ
        obtain rfl : y = 16 := by omega
        exact g_vret X hret ⟨by omega, by omega⟩ dX3_init_103 ⟨rfl, σ, hs0, hI.done, fun i i0 i1 => hI.new (by unfold inB; omega), hI.sub, fun b hb h => hI.fr b hb (by rw [hs0]; exact h)⟩
      · refine g_aload_n X 0 rfl dX3_init_75 rfl ?_
        refine g_get X cl_X3 2 (by decide) wf_X3_23 rfl ho1 hobj rfl dX3_init_76 rfl ?_
        refine g_iload_n X 1 rfl dX3_init_79 rfl ?_
        refine g_new X cl_X0 wk_X3_21 w1_X0 w0_X0 [.int (iI 0), .int (iI 0), .int (iI 0), .int (iI 0)] (fun j hj => by rcases (by omega : j = 0 ∨ j = 1 ∨ j = 2 ∨ j = 3) with rfl | rfl | rfl | rfl <;> first | rfl | exact congrArg Value.int iI_zero) ⟨(show 7 + k + 1 ≤ 23 by omega), (show 56 + 4 * k + 4 ≤ 120 by omega)⟩ dX3_init_80 rfl (fun q_2 L_3 M_4 hq_5 hL_6 hM_7 fr_8 => ?_)
        have ne_10 : o ≠ q_2 := fun e0 => hq_5 (e0 ▸ ho1)
        have hi_9 : o ∈ L_3 := hL_6 ▸ List.mem_append_left _ ho1
        have hM_11 : M_4 o = .inr (3, [.ref (σ 1), .ref (σ 2), .ref (σ 3), .int (iI 0), .int (iI 0)]) := (fr_8 o ne_10).trans hobj
        have ne_13 : σ 3 ≠ q_2 := fun e0 => hq_5 (e0 ▸ hrin)
        have hi_12 : σ 3 ∈ L_3 := hL_6 ▸ List.mem_append_left _ hrin
        have hM_14 : M_4 (σ 3) = cR ca 3 16 (rwq σ 4 y) := (fr_8 (σ 3) ne_13).trans hrow
        have hi_15 : q_2 ∈ L_3 := hL_6 ▸ List.mem_append_right _ List.mem_cons_self
        refine g_dup X rfl dX3_init_83 rfl ?_
        refine g_callIN X (ct_X0_init l q_2) (host := "StrideBanks") (As := []) (rest := [.ref q_2, .int (iI y), .ref (σ 3)]) rfl rfl ca_X0_init rfl wm_X3_37 wi_X0_init wc_X0_init w0_X0 ⟨by decide, by decide⟩ (Nat.le_of_ble_eq_true rfl) ⟨(show 7 + k + 1 + 0 ≤ 23 by omega), (show 56 + 4 * k + 4 + 0 ≤ 120 by omega)⟩ rfl dX3_init_84 rfl ⟨rfl, trivial⟩ (fun r1 L9 M9 hq9 => ?_)
        obtain ⟨rfl, rfl, rfl⟩ := hq9
        refine g_st (st' := [.ref q_2, .int (iI y), .ref (σ 3)]) rfl ?_
        refine g_aast X (t := 3) rfl (ci := 0) rfl hi_12 hM_14 hi_15 hM_7 ⟨by omega, by omega⟩ (by decide) dX3_init_87 rfl (fun M_16 hM_17 fr_18 => ?_)
        have hM_19 : M_16 o = .inr (3, [.ref (σ 1), .ref (σ 2), .ref (σ 3), .int (iI 0), .int (iI 0)]) := (fr_18 o hnor).trans hM_11
        have hM_20 : M_16 q_2 = .inr (0, [.int (iI 0), .int (iI 0), .int (iI 0), .int (iI 0)]) := (fr_18 q_2 (Ne.symm ne_13)).trans hM_7
        refine g_aload_n X 0 rfl dX3_init_88 rfl ?_
        refine g_get X cl_X3 2 (by decide) wf_X3_23 rfl hi_9 hM_19 rfl dX3_init_89 rfl ?_
        refine g_iload_n X 1 rfl dX3_init_92 rfl ?_
        refine g_aald X (t := 3) rfl hi_12 hM_17 ⟨by omega, by omega⟩ (by decide) (up_eq _ _ _) dX3_init_93 rfl ?_
        refine g_callVN X (ct_X0_beginAnew l q_2 z0) (host := "StrideBanks") (As := []) (rest := []) cl_X0 rfl ca_X0_beginAnew rfl wm_X3_38 wi_X0_beginAnew ws_X0_beginAnew wc_X0_beginAnew w0_X0 ⟨by decide, by decide⟩ hi_15 hM_20 (by decide) ⟨(show 7 + k + 1 + 0 ≤ 23 by omega), (show 56 + 4 * k + 4 + 0 ≤ 120 by omega)⟩ rfl dX3_init_94 rfl ⟨rfl, hi_15, hM_20⟩ (fun r9 L9 M_21 hq9 => ?_)
        obtain ⟨rfl, rfl, hM_22, fr_23⟩ := hq9
        have hM_24 : M_21 o = .inr (3, [.ref (σ 1), .ref (σ 2), .ref (σ 3), .int (iI 0), .int (iI 0)]) := (fr_23 o ne_10).trans hM_19
        have hM_25 : M_21 (σ 3) = cR ca 3 16 (up (rwq σ 4 y) y (some q_2)) := (fr_23 (σ 3) ne_13).trans hM_17
        refine g_st (st' := []) rfl ?_
        refine g_iinc X (lv' := [(1, .int (iI (y + 1))), (0, .ref o)]) 1 rfl (by decide) rfl dX3_init_97 rfl ?_
        refine g_goto X (n := 69) dX3_init_100 (by decide) ?_
        refine g_lv (lv' := [(0, .ref o), (1, .int (iI (y + 1)))]) [1, 0] rfl ?_
        refine g_cs (c2 := 7 + (k + 1)) (s2 := 56 + 4 * (k + 1)) (by omega) (by omega) ?_
        exact ih (k + 1) _ _ _ _ (by rw [up_ne _ _ (by omega)]; exact hs0) (by omega) (by omega) (hI.bnk (by decide) (by decide) (by omega) (by omega) hq_5 hL_6 hM_22 hM_25 (fun b hb1 hb2 => (fr_23 b hb1).trans ((fr_18 b hb2).trans (fr_8 b hb1)))) (by omega)
  have lp1 : ∀ (n : Nat) (k : Nat) (y : Int) (L1 : List Nat) (M1 : Mem) (σ : Int → Nat) (hs0 : σ 0 = o) (hy : y = k) (hyb : y ≤ 4) (hI : InSt ca L L1 M M1 σ y 0) (hm : 4 - y < (n : Int)), G p l e (Rm 2 23 120) s m args below meth cod D A 2 Q (3 + k) (24 + 8 * k) L1 M1 43 [(0, .ref o), (1, .int (iI y))] [] := by
    intro n
    induction n with
    | zero =>
      intro k y L1 M1 σ hs0 hy hyb hI hm
      exfalso; omega
    | succ n ih =>
      intro k y L1 M1 σ hs0 hy hyb hI hm
      have ho1 : o ∈ L1 := hs0 ▸ hI.oin
      have hobj : M1 o = .inr (3, [.ref (σ 1), .ref (σ 2), .ref (σ 3), .int (iI 0), .int (iI 0)]) := hs0 ▸ hI.obj
      have hrin : σ 2 ∈ L1 := hI.mem (by unfold inB; omega)
      have hrow := hI.strs
      have hnor : o ≠ σ 2 := hs0 ▸ hI.ne0 (by unfold inB; omega)
      refine g_iload_n X 1 rfl dX3_init_43 rfl ?_
      refine g_iconst X (z := 4) dX3_init_44 rfl ?_
      refine g_icmp_ge X ⟨by omega, by omega⟩ ⟨by decide, by decide⟩ (tgt := 67) dX3_init_45 (by decide) rfl (fun h_26 => ?_) (fun h_26 => ?_)
      · refine g_iconst X (z := 0) dX3_init_67 rfl ?_
        refine g_istore_n X (lv' := [(1, .int (iI 0)), (0, .ref o)]) (by decide) rfl dX3_init_68 rfl ?_
        refine g_lv (lv' := [(0, .ref o), (1, .int (iI 0))]) [1, 0] rfl ?_
        obtain rfl : y = 4 := by omega
        refine g_cs (c2 := 7 + 0) (s2 := 56 + 4 * 0) (by omega) (by omega) ?_
        exact lp2 17 0 0 L1 M1 σ hs0 (by decide) (by decide) hI (by decide)
      · refine g_aload_n X 0 rfl dX3_init_48 rfl ?_
        refine g_get X cl_X3 1 (by decide) wf_X3_17 rfl ho1 hobj rfl dX3_init_49 rfl ?_
        refine g_iload_n X 1 rfl dX3_init_52 rfl ?_
        refine g_new X cl_X4 wk_X3_15 w1_X4 w0_X4 [.int (iI 0), .int (iI 0), .int (iI 0), .int (iI 0), .int (iI 0), .int (iI 0), .int (iI 0), .int (iI 0)] (fun j hj => by rcases (by omega : j = 0 ∨ j = 1 ∨ j = 2 ∨ j = 3 ∨ j = 4 ∨ j = 5 ∨ j = 6 ∨ j = 7) with rfl | rfl | rfl | rfl | rfl | rfl | rfl | rfl <;> first | rfl | exact congrArg Value.int iI_zero) ⟨(show 3 + k + 1 ≤ 23 by omega), (show 24 + 8 * k + 8 ≤ 120 by omega)⟩ dX3_init_53 rfl (fun q_27 L_28 M_29 hq_30 hL_31 hM_32 fr_33 => ?_)
        have ne_35 : o ≠ q_27 := fun e0 => hq_30 (e0 ▸ ho1)
        have hi_34 : o ∈ L_28 := hL_31 ▸ List.mem_append_left _ ho1
        have hM_36 : M_29 o = .inr (3, [.ref (σ 1), .ref (σ 2), .ref (σ 3), .int (iI 0), .int (iI 0)]) := (fr_33 o ne_35).trans hobj
        have ne_38 : σ 2 ≠ q_27 := fun e0 => hq_30 (e0 ▸ hrin)
        have hi_37 : σ 2 ∈ L_28 := hL_31 ▸ List.mem_append_left _ hrin
        have hM_39 : M_29 (σ 2) = cR ca 5 4 (rwq σ 20 y) := (fr_33 (σ 2) ne_38).trans hrow
        have hi_40 : q_27 ∈ L_28 := hL_31 ▸ List.mem_append_right _ List.mem_cons_self
        refine g_dup X rfl dX3_init_56 rfl ?_
        refine g_callIN X (ct_X4_init l q_27) (host := "StrideBanks") (As := []) (rest := [.ref q_27, .int (iI y), .ref (σ 2)]) rfl rfl ca_X4_init rfl wm_X3_36 wi_X4_init wc_X4_init w0_X4 ⟨by decide, by decide⟩ (Nat.le_of_ble_eq_true rfl) ⟨(show 3 + k + 1 + 0 ≤ 23 by omega), (show 24 + 8 * k + 8 + 0 ≤ 120 by omega)⟩ rfl dX3_init_57 rfl ⟨rfl, trivial⟩ (fun r1 L9 M9 hq9 => ?_)
        obtain ⟨rfl, rfl, rfl⟩ := hq9
        refine g_st (st' := [.ref q_27, .int (iI y), .ref (σ 2)]) rfl ?_
        refine g_aast X (t := 5) rfl (ci := 4) rfl hi_37 hM_39 hi_40 hM_32 ⟨by omega, by omega⟩ (by decide) dX3_init_60 rfl (fun M_41 hM_42 fr_43 => ?_)
        have hM_44 : M_41 o = .inr (3, [.ref (σ 1), .ref (σ 2), .ref (σ 3), .int (iI 0), .int (iI 0)]) := (fr_43 o hnor).trans hM_36
        have hM_45 : M_41 q_27 = .inr (4, [.int (iI 0), .int (iI 0), .int (iI 0), .int (iI 0), .int (iI 0), .int (iI 0), .int (iI 0), .int (iI 0)]) := (fr_43 q_27 (Ne.symm ne_38)).trans hM_32
        refine g_iinc X (lv' := [(1, .int (iI (y + 1))), (0, .ref o)]) 1 rfl (by decide) rfl dX3_init_61 rfl ?_
        refine g_goto X (n := 43) dX3_init_64 (by decide) ?_
        refine g_lv (lv' := [(0, .ref o), (1, .int (iI (y + 1)))]) [1, 0] rfl ?_
        refine g_cs (c2 := 3 + (k + 1)) (s2 := 24 + 8 * (k + 1)) (by omega) (by omega) ?_
        exact ih (k + 1) _ _ _ _ (by rw [up_ne _ _ (by omega)]; exact hs0) (by omega) (by omega) (hI.row (by omega) (by omega) (by decide) (by decide) hq_30 hL_31 hM_45 hM_42 (fun b hb1 hb2 => (fr_43 b hb2).trans (fr_33 b hb1))) (by omega)
  refine g_aload_n X 0 rfl dX3_init_0 rfl ?_
  refine g_objInit X wm_X3_3 ⟨by decide, by decide⟩ dX3_init_1 rfl ?_ (Nat.le_of_ble_eq_true rfl)
  refine g_aload_n X 0 rfl dX3_init_4 rfl ?_
  refine g_iconst X (z := 4) dX3_init_5 rfl ?_
  refine g_newaI X 4 rfl ⟨by decide, by decide⟩ (by decide) dX3_init_6 rfl (fun q_46 L_47 M_48 hq_49 hL_50 hM_51 fr_52 => ?_)
  have ne_54 : o ≠ q_46 := fun e0 => hq_49 (e0 ▸ ho)
  have hi_53 : o ∈ L_47 := hL_50 ▸ List.mem_append_left _ ho
  have hM_55 : M_48 o = .inr (3, [.null, .null, .null, .int (iI 0), .int (iI 0)]) := (fr_52 o ne_54).trans hMo
  have hi_56 : q_46 ∈ L_47 := hL_50 ▸ List.mem_append_right _ List.mem_cons_self
  refine g_putF X cl_X3 0 (by decide) wf_X3_9 rfl hi_53 hM_55 rfl hinit rfl rfl rfl (Nat.le_of_ble_eq_true rfl) (fs' := [.ref q_46, .null, .null, .int (iI 0), .int (iI 0)]) rfl dX3_init_8 rfl (fun M_57 hM_58 fr_59 => ?_)
  have hM_60 : M_57 q_46 = cI ca 4 (fun _ => 0) := (fr_59 q_46 (Ne.symm ne_54)).trans hM_51
  refine g_aload_n X 0 rfl dX3_init_11 rfl ?_
  refine g_iconst X (z := 4) dX3_init_12 rfl ?_
  refine g_newq X (C := RX4) 4 5 rfl rfl wk_X3_15 wo_X4 ⟨by decide, by decide⟩ (by decide) dX3_init_13 rfl (fun q_61 L_62 M_63 hq_64 hL_65 hM_66 fr_67 => ?_)
  have ne_69 : q_46 ≠ q_61 := fun e0 => hq_64 (e0 ▸ hi_56)
  have hi_68 : q_46 ∈ L_62 := hL_65 ▸ List.mem_append_left _ hi_56
  have hM_70 : M_63 q_46 = cI ca 4 (fun _ => 0) := (fr_67 q_46 ne_69).trans hM_60
  have ne_72 : o ≠ q_61 := fun e0 => hq_64 (e0 ▸ hi_53)
  have hi_71 : o ∈ L_62 := hL_65 ▸ List.mem_append_left _ hi_53
  have hM_73 : M_63 o = .inr (3, [.ref q_46, .null, .null, .int (iI 0), .int (iI 0)]) := (fr_67 o ne_72).trans hM_58
  have hi_74 : q_61 ∈ L_62 := hL_65 ▸ List.mem_append_right _ List.mem_cons_self
  refine g_putF X cl_X3 1 (by decide) wf_X3_17 rfl hi_71 hM_73 rfl hinit rfl rfl rfl (Nat.le_of_ble_eq_true rfl) (fs' := [.ref q_46, .ref q_61, .null, .int (iI 0), .int (iI 0)]) rfl dX3_init_16 rfl (fun M_75 hM_76 fr_77 => ?_)
  have hM_78 : M_75 q_46 = cI ca 4 (fun _ => 0) := (fr_77 q_46 (Ne.symm ne_54)).trans hM_70
  have hM_79 : M_75 q_61 = cR ca 5 4 (fun _ => none) := (fr_77 q_61 (Ne.symm ne_72)).trans hM_66
  refine g_aload_n X 0 rfl dX3_init_19 rfl ?_
  refine g_bipush X (z := 16) (by decide +kernel) dX3_init_20 rfl ?_
  refine g_newq X (C := RX0) 16 3 rfl rfl wk_X3_21 wo_X0 ⟨by decide, by decide⟩ (by decide) dX3_init_22 rfl (fun q_80 L_81 M_82 hq_83 hL_84 hM_85 fr_86 => ?_)
  have ne_88 : q_46 ≠ q_80 := fun e0 => hq_83 (e0 ▸ hi_68)
  have hi_87 : q_46 ∈ L_81 := hL_84 ▸ List.mem_append_left _ hi_68
  have hM_89 : M_82 q_46 = cI ca 4 (fun _ => 0) := (fr_86 q_46 ne_88).trans hM_78
  have ne_91 : q_61 ≠ q_80 := fun e0 => hq_83 (e0 ▸ hi_74)
  have hi_90 : q_61 ∈ L_81 := hL_84 ▸ List.mem_append_left _ hi_74
  have hM_92 : M_82 q_61 = cR ca 5 4 (fun _ => none) := (fr_86 q_61 ne_91).trans hM_79
  have ne_94 : o ≠ q_80 := fun e0 => hq_83 (e0 ▸ hi_71)
  have hi_93 : o ∈ L_81 := hL_84 ▸ List.mem_append_left _ hi_71
  have hM_95 : M_82 o = .inr (3, [.ref q_46, .ref q_61, .null, .int (iI 0), .int (iI 0)]) := (fr_86 o ne_94).trans hM_76
  have hi_96 : q_80 ∈ L_81 := hL_84 ▸ List.mem_append_right _ List.mem_cons_self
  refine g_putF X cl_X3 2 (by decide) wf_X3_23 rfl hi_93 hM_95 rfl hinit rfl rfl rfl (Nat.le_of_ble_eq_true rfl) (fs' := [.ref q_46, .ref q_61, .ref q_80, .int (iI 0), .int (iI 0)]) rfl dX3_init_25 rfl (fun M_97 hM_98 fr_99 => ?_)
  have hM_100 : M_97 q_46 = cI ca 4 (fun _ => 0) := (fr_99 q_46 (Ne.symm ne_54)).trans hM_89
  have hM_101 : M_97 q_61 = cR ca 5 4 (fun _ => none) := (fr_99 q_61 (Ne.symm ne_72)).trans hM_92
  have hM_102 : M_97 q_80 = cR ca 3 16 (fun _ => none) := (fr_99 q_80 (Ne.symm ne_94)).trans hM_85
  refine g_getsN X (host := "StrideBanks") wf_X3_27 X.2.2.2.1.2.2.1 dX3_init_28 rfl (fun t_103 hT_104 => ?_)
  refine g_iconst X (z := 0) dX3_init_31 rfl ?_
  refine g_aload_n X 0 rfl dX3_init_32 rfl ?_
  refine g_get X cl_X3 0 (by decide) wf_X3_9 rfl hi_93 hM_98 rfl dX3_init_33 rfl ?_
  refine g_iconst X (z := 0) dX3_init_36 rfl ?_
  refine g_iconst X (z := 4) dX3_init_37 rfl ?_
  refine g_copyT X (f := tFS) wm_X3_30 hi_87 hM_100 hT_104 ⟨by decide, by decide⟩ dX3_init_38 rfl (fun M_105 hM_106 fr_107 => ?_)
  have hM_108 : M_105 q_61 = cR ca 5 4 (fun _ => none) := (fr_107 q_61 (Ne.symm ne_69)).trans hM_101
  have hM_109 : M_105 q_80 = cR ca 3 16 (fun _ => none) := (fr_107 q_80 (Ne.symm ne_88)).trans hM_102
  have hM_110 : M_105 o = .inr (3, [.ref q_46, .ref q_61, .ref q_80, .int (iI 0), .int (iI 0)]) := (fr_107 o ne_54).trans hM_98
  refine g_iconst X (z := 0) dX3_init_41 rfl ?_
  refine g_istore_n X (lv' := [(1, .int (iI 0)), (0, .ref o)]) (by decide) rfl dX3_init_42 rfl ?_
  refine g_lv (lv' := [(0, .ref o), (1, .int (iI 0))]) [1, 0] rfl ?_
  have hx1 : q_46 ∉ L := hq_49
  have hx2 : q_61 ∉ L := fun hb => hq_64 (hL_50 ▸ List.mem_append_left _ hb)
  have hx3 : q_80 ∉ L := fun hb => hq_83 (hL_65 ▸ List.mem_append_left _ (hL_50 ▸ List.mem_append_left _ hb))
  obtain ⟨σ, hs0, hs1, hs2, hs3⟩ : ∃ σ : Int → Nat, σ 0 = o ∧ σ 1 = q_46 ∧ σ 2 = q_61 ∧ σ 3 = q_80 := ⟨fun j => if j = 0 then o else if j = 1 then q_46 else if j = 2 then q_61 else q_80, rfl, rfl, rfl, rfl⟩
  have hI : InSt ca L L_81 M M_105 σ 0 0 := by
    refine ⟨fun b hb => hL_84 ▸ List.mem_append_left _ (hL_65 ▸ List.mem_append_left _ (hL_50 ▸ List.mem_append_left _ hb)), hs0 ▸ ho, fun j hj => ?_, fun i j hi hj e => ?_, ?_, ?_, ?_, ?_, fun j j0 j1 => absurd j1 (by omega), fun j j0 j1 => absurd j1 (by omega), fun b hb hb0 => ?_⟩
    · rcases (by unfold inB at hj; omega : j = 1 ∨ j = 2 ∨ j = 3) with h | h | h <;> subst h
      · rw [hs1]; exact ⟨hi_87, hx1⟩
      · rw [hs2]; exact ⟨hi_90, hx2⟩
      · rw [hs3]; exact ⟨hi_96, hx3⟩
    · have n12 : q_46 ≠ q_61 := ne_69
      have n13 : q_46 ≠ q_80 := ne_88
      have n23 : q_61 ≠ q_80 := ne_91
      rcases (by unfold inB at hi; omega : i = 1 ∨ i = 2 ∨ i = 3) with h | h | h <;> rcases (by unfold inB at hj; omega : j = 1 ∨ j = 2 ∨ j = 3) with h2 | h2 | h2 <;> subst h <;> subst h2 <;> first | rfl | (exfalso; rw [hs1, hs2] at e; first | exact n12 e | exact n12 e.symm) | (exfalso; rw [hs2, hs1] at e; exact n12 e.symm) | (exfalso; rw [hs1, hs3] at e; exact n13 e) | (exfalso; rw [hs3, hs1] at e; exact n13 e.symm) | (exfalso; rw [hs2, hs3] at e; exact n23 e) | (exfalso; rw [hs3, hs2] at e; exact n23 e.symm)
    · rw [hs0, hs1, hs2, hs3]; exact hM_110
    · rw [hs1]; exact hM_106
    · rw [hs2, rwq_0]; exact hM_108
    · rw [hs3, rwq_0]; exact hM_109
    · have hb0o : b ≠ o := by rw [← hs0]; exact hb0
      exact ((fr_107 b (fun e0 => hx1 (e0 ▸ hb))).trans ((fr_99 b hb0o).trans ((fr_86 b (fun e0 => hx3 (e0 ▸ hb))).trans ((fr_77 b hb0o).trans ((fr_67 b (fun e0 => hx2 (e0 ▸ hb))).trans ((fr_59 b hb0o).trans (fr_52 b (fun e0 => hx1 (e0 ▸ hb)))))))))
  refine g_cs (c2 := 3 + 0) (s2 := 24 + 8 * 0) (by omega) (by omega) ?_
  exact lp1 5 0 0 _ _ σ hs0 (by decide) (by decide) hI (by decide)
