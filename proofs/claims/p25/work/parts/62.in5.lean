/-! the class: its constructor -/
set_option maxRecDepth 100000 in
set_option maxHeartbeats 4000000 in
theorem ct_X5_init (l : Launch) (o : Nat) : Ct l yX5_init cX5_init 2 none 4 247 1386 (fun ca av L M => av = [.ref o] ∧ o ∈ L ∧ M o = .inr (5, [.null, .null, .null, .null, .null, .null])) (fun ca av L M r L1 M1 => r = none ∧ ∃ Sg : Int → Int → Nat, Sg 10 0 = o ∧ SBm ca L1 M1 Sg S0 ∧ (∀ b ∈ L, b ∈ L1) ∧ ∀ b ∈ L, b ≠ o → M1 b = M b) := by
  refine Ct_of (own := RX5) (by decide) rfl (by rintro _ _ _ _ ⟨rfl, _⟩; exact Nat.le_of_ble_eq_true rfl) ?_
  rintro p e s m args below meth cod D ca A av L M ⟨rfl, ho, hMo⟩ X hret hname
  refine g_lv (lv' := [(0, .ref o)]) [0] rfl ?_
  have hinit : meth.name = "<init>" := hname.symm
  generalize hQ : MQ below _ args s _ _ A = Q
  have hF_0 : Fam L L (dm 0 0 0) (fun _ _ => 0) := ⟨fun _ h => h, fun s k hd => by unfold dm at hd; omega, fun s k s2 k2 hd => by unfold dm at hd; omega⟩
  have sb_L : ∀ x ∈ L, x ∈ L := fun _ h => h
  have kp_L : ∀ x ∈ L, x ≠ o → M x = M x := fun _ _ _ => rfl
  have lp : ∀ (n : Nat) (k : Nat) (y : Int) (L0 L1 : List Nat) (M0 M1 : Mem) (Sg : Int → Int → Nat) (ρ : Nat) (τ : Int → Int → Nat) (hNw : Nw ca L L0 M M0 Sg o) (hρ : ρ = Sg 10 3) (hy : y = k) (hyb : y ≤ 2) (hI : InFm ca L0 L1 M0 M1 ρ 2 τ y) (hm : 2 - y < (n : Int)), G p l e (Rm 4 247 1386) s m args below meth cod D A 2 Q (199 + 24 * k) (1136 + 125 * k) L1 M1 65 [(0, .ref o), (1, .int (iI y))] [] := by
    intro n
    induction n with
    | zero =>
      intro k y L0 L1 M0 M1 Sg ρ τ hNw hρ hy hyb hI hm
      exfalso; omega
    | succ n ih =>
      intro k y L0 L1 M0 M1 Sg ρ τ hNw hρ hy hyb hI hm
      have ho0 : o ∈ L0 := hNw.1.1 _ ho
      have hor : o ≠ ρ := fun e0 => (hNw.1.2.1 10 3 (by unfold dm; omega)).2 (hρ ▸ e0 ▸ ho)
      have ho1 : o ∈ L1 := hI.sub _ ho0
      have hobj : M1 o = .inr (5, [.ref (Sg 0 0), .ref (Sg 1 0), .ref (Sg 10 1), .ref ρ, .ref (Sg 10 4), .ref (Sg 10 5)]) := (hI.fr _ ho0 hor).trans (hNw.2.1.trans (by rw [hρ]))
      refine g_iload_n X 1 rfl dX5_init_65 rfl ?_
      refine g_iconst X (z := 2) dX5_init_66 rfl ?_
      refine g_icmp_ge X ⟨by omega, by omega⟩ ⟨by decide, by decide⟩ (tgt := 89) dX5_init_67 (by decide) rfl (fun h_1 => ?_) (fun h_1 => ?_)
      · subst hQ
        obtain rfl : y = 2 := by omega
        rw [hρ] at hI
        exact g_vret X hret ⟨by omega, by omega⟩ dX5_init_89 ⟨rfl, hNw.done ho hI⟩
      · refine g_aload_n X 0 rfl dX5_init_70 rfl ?_
        refine g_get X cl_X5 3 (by decide) wf_X5_26 rfl ho1 hobj rfl dX5_init_71 rfl ?_
        refine g_iload_n X 1 rfl dX5_init_74 rfl ?_
        refine g_new X cl_X3 wk_X5_7 w1_X3 w0_X3 [.null, .null, .null, .int (iI 0), .int (iI 0)] (fun j hj => by rcases (by omega : j = 0 ∨ j = 1 ∨ j = 2 ∨ j = 3 ∨ j = 4) with rfl | rfl | rfl | rfl | rfl <;> first | rfl | exact congrArg Value.int iI_zero) ⟨(show 199 + 24 * k + 1 ≤ 247 by omega), (show 1136 + 125 * k + 5 ≤ 1386 by omega)⟩ dX5_init_75 rfl (fun q_2 L_3 M_4 hq_5 hL_6 hM_7 fr_8 => ?_)
        have ne_10 : o ≠ q_2 := fun e0 => hq_5 (e0 ▸ ho1)
        have hi_9 : o ∈ L_3 := hL_6 ▸ List.mem_append_left _ ho1
        have hM_11 : M_4 o = .inr (5, [.ref (Sg 0 0), .ref (Sg 1 0), .ref (Sg 10 1), .ref (ρ), .ref (Sg 10 4), .ref (Sg 10 5)]) := (fr_8 o ne_10).trans hobj
        have ne_13 : ρ ≠ q_2 := fun e0 => hq_5 (e0 ▸ hI.rin)
        have hi_12 : ρ ∈ L_3 := hL_6 ▸ List.mem_append_left _ hI.rin
        have hM_14 : M_4 (ρ) = cR ca 4 2 (rwh τ y) := (fr_8 (ρ) ne_13).trans hI.row
        have hi_15 : q_2 ∈ L_3 := hL_6 ▸ List.mem_append_right _ List.mem_cons_self
        refine g_dup X rfl dX5_init_78 rfl ?_
        refine g_callIN X (ct_X3_init l q_2) (host := "StrideBanks") (As := []) (rest := [.ref q_2, .int (iI y), .ref (ρ)]) rfl rfl ca_X3_init rfl wm_X5_9 wi_X3_init wc_X3_init w0_X3 ⟨by decide, by decide⟩ (Nat.le_of_ble_eq_true rfl) ⟨(show 199 + 24 * k + 1 + 23 ≤ 247 by omega), (show 1136 + 125 * k + 5 + 120 ≤ 1386 by omega)⟩ rfl dX5_init_79 rfl ⟨rfl, hi_15, hM_7⟩ (fun r9 L_16 M_17 hq9 => ?_)
        obtain ⟨rfl, σ_18, hs_19, hs_20, hn_21, hL_22, fr_23⟩ := hq9
        have hi_26 : o ∈ L_16 := hL_22 _ hi_9
        have hM_27 : M_17 o = .inr (5, [.ref (Sg 0 0), .ref (Sg 1 0), .ref (Sg 10 1), .ref (ρ), .ref (Sg 10 4), .ref (Sg 10 5)]) := (fr_23 _ hi_9 ne_10).trans hM_11
        have hi_28 : ρ ∈ L_16 := hL_22 _ hi_12
        have hM_29 : M_17 (ρ) = cR ca 4 2 (rwh τ y) := (fr_23 _ hi_12 ne_13).trans hM_14
        have hi_24 : q_2 ∈ L_16 := hs_19 ▸ hs_20.mem (i := 0) (by decide) (by decide)
        have hM_25 : M_17 q_2 = oStore σ_18 cS0 := hs_19 ▸ hs_20.obj
        refine g_st (st' := [.ref q_2, .int (iI y), .ref (ρ)]) rfl ?_
        refine g_aast X (t := 4) rfl (ci := 3) rfl hi_28 hM_29 hi_24 hM_25 ⟨by omega, by omega⟩ (by decide) dX5_init_82 rfl (fun M_30 hM_31 fr_32 => ?_)
        have hM_33 : M_30 o = .inr (5, [.ref (Sg 0 0), .ref (Sg 1 0), .ref (Sg 10 1), .ref (ρ), .ref (Sg 10 4), .ref (Sg 10 5)]) := (fr_32 o hor).trans hM_27
        have hM_34 : M_30 q_2 = .inr (3, [.ref (σ_18 1), .ref (σ_18 2), .ref (σ_18 3), .int (iI (cS0 5)), .int (iI (cS0 4))]) := (fr_32 q_2 (Ne.symm ne_13)).trans hM_25
        refine g_iinc X (lv' := [(1, .int (iI (y + 1))), (0, .ref o)]) 1 rfl (by decide) rfl dX5_init_83 rfl ?_
        refine g_goto X (n := 65) dX5_init_86 (by decide) ?_
        refine g_lv (lv' := [(0, .ref o), (1, .int (iI (y + 1)))]) [1, 0] rfl ?_
        refine g_cs (c2 := 199 + 24 * (k + 1)) (s2 := 1136 + 125 * (k + 1)) (by omega) (by omega) ?_
        exact ih (k + 1) _ _ _ _ _ _ _ _ hNw hρ (by omega) (by omega) (hI.step (by omega) hq_5 hL_6 (fun b hb => fr_8 b hb) hs_19 hs_20 hn_21 hL_22 fr_23 hM_31 fr_32) (by omega)
  refine g_aload_n X 0 rfl dX5_init_0 rfl ?_
  refine g_objInit X wm_X5_1 ⟨by decide, by decide⟩ dX5_init_1 rfl ?_ (Nat.le_of_ble_eq_true rfl)
  refine g_aload_n X 0 rfl dX5_init_4 rfl ?_
  refine g_new X cl_X3 wk_X5_7 w1_X3 w0_X3 [.null, .null, .null, .int (iI 0), .int (iI 0)] (fun j hj => by rcases (by omega : j = 0 ∨ j = 1 ∨ j = 2 ∨ j = 3 ∨ j = 4) with rfl | rfl | rfl | rfl | rfl <;> first | rfl | exact congrArg Value.int iI_zero) ⟨by decide, by decide⟩ dX5_init_5 rfl (fun q_35 L_36 M_37 hq_38 hL_39 hM_40 fr_41 => ?_)
  have ne_43 : o ≠ q_35 := fun e0 => hq_38 (e0 ▸ ho)
  have hi_42 : o ∈ L_36 := hL_39 ▸ List.mem_append_left _ ho
  have hM_44 : M_37 o = .inr (5, [.null, .null, .null, .null, .null, .null]) := (fr_41 o ne_43).trans hMo
  have hi_45 : q_35 ∈ L_36 := hL_39 ▸ List.mem_append_right _ List.mem_cons_self
  have sb_46 : ∀ x ∈ L, x ∈ L_36 := fun x hx => hL_39 ▸ List.mem_append_left _ (sb_L x hx)
  have kp_47 : ∀ x ∈ L, x ≠ o → M_37 x = M x := fun x hx hxo => (fr_41 x (fun e0 => hq_38 (e0 ▸ sb_L x hx))).trans (kp_L x hx hxo)
  refine g_dup X rfl dX5_init_8 rfl ?_
  refine g_callIN X (ct_X3_init l q_35) (host := "StrideBanks") (As := []) (rest := [.ref q_35, .ref o]) rfl rfl ca_X3_init rfl wm_X5_9 wi_X3_init wc_X3_init w0_X3 ⟨by decide, by decide⟩ (Nat.le_of_ble_eq_true rfl) ⟨by decide, by decide⟩ rfl dX5_init_9 rfl ⟨rfl, hi_45, hM_40⟩ (fun r9 L_48 M_49 hq9 => ?_)
  obtain ⟨rfl, σ_50, hs_51, hs_52, hn_53, hL_54, fr_55⟩ := hq9
  have hi_58 : o ∈ L_48 := hL_54 _ hi_42
  have hM_59 : M_49 o = .inr (5, [.null, .null, .null, .null, .null, .null]) := (fr_55 _ hi_42 ne_43).trans hM_44
  have hi_56 : q_35 ∈ L_48 := hs_51 ▸ hs_52.mem (i := 0) (by decide) (by decide)
  have hM_57 : M_49 q_35 = oStore σ_50 cS0 := hs_51 ▸ hs_52.obj
  have sb_60 : ∀ x ∈ L, x ∈ L_48 := fun x hx => hL_54 _ (sb_46 x hx)
  have kp_61 : ∀ x ∈ L, x ≠ o → M_49 x = M x := fun x hx hxo => (fr_55 x (sb_46 x hx) (fun e0 => hq_38 (e0 ▸ sb_L x hx))).trans (kp_47 x hx hxo)
  have sb_62 : ∀ x ∈ L_48, x ∈ L_48 := fun _ h => h
  have kp_63 : ∀ x ∈ L_48, x ≠ o → M_49 x = M_49 x := fun _ _ _ => rfl
  have hsuba : ∀ x ∈ L, x ∈ L_48 := fun x hx => hL_54 _ (hL_39 ▸ List.mem_append_left _ hx)
  have hnwa : ∀ i, 0 ≤ i → i < 24 → σ_50 i ∉ L := fun i i0 i1 hh => by
    by_cases e9 : i = 0
    · subst e9; rw [hs_51] at hh; exact hq_38 hh
    · exact hn_53 i (by omega) i1 (hL_39 ▸ List.mem_append_left _ hh)
  have hF_a := hF_0.fam (D2 := dm 1 0 0) (s0 := 0) (n := 1) (τ := fun _ => σ_50) hsuba (fun s k hd => by unfold dm at hd ⊢; omega) (fun j k j0 j1 k0 k1 => ⟨hs_52.mem k0 k1, hnwa k k0 k1⟩) (fun i j a b i0 i1 j0 j1 a0 a1 b0 b1 e => ⟨by omega, hs_52.1.2 a b a0 a1 b0 b1 e⟩)
  refine g_st (st' := [.ref q_35, .ref o]) rfl ?_
  refine g_putF X cl_X5 0 (by decide) wf_X5_10 rfl hi_58 hM_59 rfl hinit rfl rfl rfl (Nat.le_of_ble_eq_true rfl) (fs' := [.ref q_35, .null, .null, .null, .null, .null]) rfl dX5_init_12 rfl (fun M_64 hM_65 fr_66 => ?_)
  have hM_67 : M_64 q_35 = .inr (3, [.ref (σ_50 1), .ref (σ_50 2), .ref (σ_50 3), .int (iI (cS0 5)), .int (iI (cS0 4))]) := (fr_66 q_35 (Ne.symm ne_43)).trans hM_57
  have sb_68 : ∀ x ∈ L, x ∈ L_48 := fun x hx => sb_60 x hx
  have kp_69 : ∀ x ∈ L, x ≠ o → M_64 x = M x := fun x hx hxo => (fr_66 x hxo).trans (kp_61 x hx hxo)
  have sb_70 : ∀ x ∈ L_48, x ∈ L_48 := fun x hx => sb_62 x hx
  have kp_71 : ∀ x ∈ L_48, x ≠ o → M_64 x = M_49 x := fun x hx hxo => (fr_66 x hxo).trans (kp_63 x hx hxo)
  refine g_aload_n X 0 rfl dX5_init_15 rfl ?_
  refine g_new X cl_X3 wk_X5_7 w1_X3 w0_X3 [.null, .null, .null, .int (iI 0), .int (iI 0)] (fun j hj => by rcases (by omega : j = 0 ∨ j = 1 ∨ j = 2 ∨ j = 3 ∨ j = 4) with rfl | rfl | rfl | rfl | rfl <;> first | rfl | exact congrArg Value.int iI_zero) ⟨by decide, by decide⟩ dX5_init_16 rfl (fun q_72 L_73 M_74 hq_75 hL_76 hM_77 fr_78 => ?_)
  have ne_80 : q_35 ≠ q_72 := fun e0 => hq_75 (e0 ▸ hi_56)
  have hi_79 : q_35 ∈ L_73 := hL_76 ▸ List.mem_append_left _ hi_56
  have hM_81 : M_74 q_35 = .inr (3, [.ref (σ_50 1), .ref (σ_50 2), .ref (σ_50 3), .int (iI (cS0 5)), .int (iI (cS0 4))]) := (fr_78 q_35 ne_80).trans hM_67
  have ne_83 : o ≠ q_72 := fun e0 => hq_75 (e0 ▸ hi_58)
  have hi_82 : o ∈ L_73 := hL_76 ▸ List.mem_append_left _ hi_58
  have hM_84 : M_74 o = .inr (5, [.ref q_35, .null, .null, .null, .null, .null]) := (fr_78 o ne_83).trans hM_65
  have hi_85 : q_72 ∈ L_73 := hL_76 ▸ List.mem_append_right _ List.mem_cons_self
  have sb_86 : ∀ x ∈ L, x ∈ L_73 := fun x hx => hL_76 ▸ List.mem_append_left _ (sb_68 x hx)
  have kp_87 : ∀ x ∈ L, x ≠ o → M_74 x = M x := fun x hx hxo => (fr_78 x (fun e0 => hq_75 (e0 ▸ sb_68 x hx))).trans (kp_69 x hx hxo)
  have sb_88 : ∀ x ∈ L_48, x ∈ L_73 := fun x hx => hL_76 ▸ List.mem_append_left _ (sb_70 x hx)
  have kp_89 : ∀ x ∈ L_48, x ≠ o → M_74 x = M_49 x := fun x hx hxo => (fr_78 x (fun e0 => hq_75 (e0 ▸ sb_70 x hx))).trans (kp_71 x hx hxo)
  refine g_dup X rfl dX5_init_19 rfl ?_
  refine g_callIN X (ct_X3_init l q_72) (host := "StrideBanks") (As := []) (rest := [.ref q_72, .ref o]) rfl rfl ca_X3_init rfl wm_X5_9 wi_X3_init wc_X3_init w0_X3 ⟨by decide, by decide⟩ (Nat.le_of_ble_eq_true rfl) ⟨by decide, by decide⟩ rfl dX5_init_20 rfl ⟨rfl, hi_85, hM_77⟩ (fun r9 L_90 M_91 hq9 => ?_)
  obtain ⟨rfl, σ_92, hs_93, hs_94, hn_95, hL_96, fr_97⟩ := hq9
  have hi_100 : q_35 ∈ L_90 := hL_96 _ hi_79
  have hM_101 : M_91 q_35 = .inr (3, [.ref (σ_50 1), .ref (σ_50 2), .ref (σ_50 3), .int (iI (cS0 5)), .int (iI (cS0 4))]) := (fr_97 _ hi_79 ne_80).trans hM_81
  have hi_102 : o ∈ L_90 := hL_96 _ hi_82
  have hM_103 : M_91 o = .inr (5, [.ref q_35, .null, .null, .null, .null, .null]) := (fr_97 _ hi_82 ne_83).trans hM_84
  have hi_98 : q_72 ∈ L_90 := hs_93 ▸ hs_94.mem (i := 0) (by decide) (by decide)
  have hM_99 : M_91 q_72 = oStore σ_92 cS0 := hs_93 ▸ hs_94.obj
  have sb_104 : ∀ x ∈ L, x ∈ L_90 := fun x hx => hL_96 _ (sb_86 x hx)
  have kp_105 : ∀ x ∈ L, x ≠ o → M_91 x = M x := fun x hx hxo => (fr_97 x (sb_86 x hx) (fun e0 => hq_75 (e0 ▸ sb_68 x hx))).trans (kp_87 x hx hxo)
  have sb_106 : ∀ x ∈ L_48, x ∈ L_90 := fun x hx => hL_96 _ (sb_88 x hx)
  have kp_107 : ∀ x ∈ L_48, x ≠ o → M_91 x = M_49 x := fun x hx hxo => (fr_97 x (sb_88 x hx) (fun e0 => hq_75 (e0 ▸ sb_70 x hx))).trans (kp_89 x hx hxo)
  have sb_108 : ∀ x ∈ L_90, x ∈ L_90 := fun _ h => h
  have kp_109 : ∀ x ∈ L_90, x ≠ o → M_91 x = M_91 x := fun _ _ _ => rfl
  have hsubb : ∀ x ∈ L_48, x ∈ L_90 := fun x hx => hL_96 _ (hL_76 ▸ List.mem_append_left _ hx)
  have hnwb : ∀ i, 0 ≤ i → i < 24 → σ_92 i ∉ L_48 := fun i i0 i1 hh => by
    by_cases e9 : i = 0
    · subst e9; rw [hs_93] at hh; exact hq_75 hh
    · exact hn_95 i (by omega) i1 (hL_76 ▸ List.mem_append_left _ hh)
  have hF_b := hF_a.fam (D2 := dm 2 0 0) (s0 := 1) (n := 1) (τ := fun _ => σ_92) hsubb (fun s k hd => by unfold dm at hd ⊢; omega) (fun j k j0 j1 k0 k1 => ⟨hs_94.mem k0 k1, hnwb k k0 k1⟩) (fun i j a b i0 i1 j0 j1 a0 a1 b0 b1 e => ⟨by omega, hs_94.1.2 a b a0 a1 b0 b1 e⟩)
  refine g_st (st' := [.ref q_72, .ref o]) rfl ?_
  refine g_putF X cl_X5 1 (by decide) wf_X5_16 rfl hi_102 hM_103 rfl hinit rfl rfl rfl (Nat.le_of_ble_eq_true rfl) (fs' := [.ref q_35, .ref q_72, .null, .null, .null, .null]) rfl dX5_init_23 rfl (fun M_110 hM_111 fr_112 => ?_)
  have hM_113 : M_110 q_35 = .inr (3, [.ref (σ_50 1), .ref (σ_50 2), .ref (σ_50 3), .int (iI (cS0 5)), .int (iI (cS0 4))]) := (fr_112 q_35 (Ne.symm ne_43)).trans hM_101
  have hM_114 : M_110 q_72 = .inr (3, [.ref (σ_92 1), .ref (σ_92 2), .ref (σ_92 3), .int (iI (cS0 5)), .int (iI (cS0 4))]) := (fr_112 q_72 (Ne.symm ne_83)).trans hM_99
  have sb_115 : ∀ x ∈ L, x ∈ L_90 := fun x hx => sb_104 x hx
  have kp_116 : ∀ x ∈ L, x ≠ o → M_110 x = M x := fun x hx hxo => (fr_112 x hxo).trans (kp_105 x hx hxo)
  have sb_117 : ∀ x ∈ L_48, x ∈ L_90 := fun x hx => sb_106 x hx
  have kp_118 : ∀ x ∈ L_48, x ≠ o → M_110 x = M_49 x := fun x hx hxo => (fr_112 x hxo).trans (kp_107 x hx hxo)
  have sb_119 : ∀ x ∈ L_90, x ∈ L_90 := fun x hx => sb_108 x hx
  have kp_120 : ∀ x ∈ L_90, x ≠ o → M_110 x = M_91 x := fun x hx hxo => (fr_112 x hxo).trans (kp_109 x hx hxo)
  refine g_aload_n X 0 rfl dX5_init_26 rfl ?_
  refine g_new X cl_X1 wk_X5_19 w1_X1 w0_X1 [.null, .int (iI 0)] (fun j hj => by rcases (by omega : j = 0 ∨ j = 1) with rfl | rfl <;> first | rfl | exact congrArg Value.int iI_zero) ⟨by decide, by decide⟩ dX5_init_27 rfl (fun q_121 L_122 M_123 hq_124 hL_125 hM_126 fr_127 => ?_)
  have ne_129 : q_35 ≠ q_121 := fun e0 => hq_124 (e0 ▸ hi_100)
  have hi_128 : q_35 ∈ L_122 := hL_125 ▸ List.mem_append_left _ hi_100
  have hM_130 : M_123 q_35 = .inr (3, [.ref (σ_50 1), .ref (σ_50 2), .ref (σ_50 3), .int (iI (cS0 5)), .int (iI (cS0 4))]) := (fr_127 q_35 ne_129).trans hM_113
  have ne_132 : q_72 ≠ q_121 := fun e0 => hq_124 (e0 ▸ hi_98)
  have hi_131 : q_72 ∈ L_122 := hL_125 ▸ List.mem_append_left _ hi_98
  have hM_133 : M_123 q_72 = .inr (3, [.ref (σ_92 1), .ref (σ_92 2), .ref (σ_92 3), .int (iI (cS0 5)), .int (iI (cS0 4))]) := (fr_127 q_72 ne_132).trans hM_114
  have ne_135 : o ≠ q_121 := fun e0 => hq_124 (e0 ▸ hi_102)
  have hi_134 : o ∈ L_122 := hL_125 ▸ List.mem_append_left _ hi_102
  have hM_136 : M_123 o = .inr (5, [.ref q_35, .ref q_72, .null, .null, .null, .null]) := (fr_127 o ne_135).trans hM_111
  have hi_137 : q_121 ∈ L_122 := hL_125 ▸ List.mem_append_right _ List.mem_cons_self
  have sb_138 : ∀ x ∈ L, x ∈ L_122 := fun x hx => hL_125 ▸ List.mem_append_left _ (sb_115 x hx)
  have kp_139 : ∀ x ∈ L, x ≠ o → M_123 x = M x := fun x hx hxo => (fr_127 x (fun e0 => hq_124 (e0 ▸ sb_115 x hx))).trans (kp_116 x hx hxo)
  have sb_140 : ∀ x ∈ L_48, x ∈ L_122 := fun x hx => hL_125 ▸ List.mem_append_left _ (sb_117 x hx)
  have kp_141 : ∀ x ∈ L_48, x ≠ o → M_123 x = M_49 x := fun x hx hxo => (fr_127 x (fun e0 => hq_124 (e0 ▸ sb_117 x hx))).trans (kp_118 x hx hxo)
  have sb_142 : ∀ x ∈ L_90, x ∈ L_122 := fun x hx => hL_125 ▸ List.mem_append_left _ (sb_119 x hx)
  have kp_143 : ∀ x ∈ L_90, x ≠ o → M_123 x = M_91 x := fun x hx hxo => (fr_127 x (fun e0 => hq_124 (e0 ▸ sb_119 x hx))).trans (kp_120 x hx hxo)
  refine g_dup X rfl dX5_init_30 rfl ?_
  refine g_callIN X (ct_X1_init l q_121) (host := "StrideBanks") (As := []) (rest := [.ref q_121, .ref o]) rfl rfl ca_X1_init rfl wm_X5_21 wi_X1_init wc_X1_init w0_X1 ⟨by decide, by decide⟩ (Nat.le_of_ble_eq_true rfl) ⟨by decide, by decide⟩ rfl dX5_init_31 rfl ⟨rfl, hi_137, hM_126⟩ (fun r9 L_144 M_145 hq9 => ?_)
  obtain ⟨rfl, ρh, L0h, M0h, τh, hρh, hL0h, hM0h, hIh, hf0h⟩ := hq9
  have hrho : q_121 ∈ L0h := hL0h ▸ List.mem_append_left _ hi_137
  have hneh : q_121 ≠ ρh := fun e0 => hρh (e0 ▸ hi_137)
  have hfh : ∀ x ∈ L_122, x ≠ q_121 → M_145 x = M_123 x := fun x hx hxq => (hIh.fr x (hL0h ▸ List.mem_append_left _ hx) (fun e0 => hρh (e0 ▸ hx))).trans (hf0h x hx hxq)
  have hsuh : ∀ x ∈ L_122, x ∈ L_144 := fun x hx => hIh.sub _ (hL0h ▸ List.mem_append_left _ hx)
  have hi_146 : q_35 ∈ L_144 := hsuh _ hi_128
  have hM_147 : M_145 q_35 = .inr (3, [.ref (σ_50 1), .ref (σ_50 2), .ref (σ_50 3), .int (iI (cS0 5)), .int (iI (cS0 4))]) := (hfh _ hi_128 ne_129).trans hM_130
  have hi_148 : q_72 ∈ L_144 := hsuh _ hi_131
  have hM_149 : M_145 q_72 = .inr (3, [.ref (σ_92 1), .ref (σ_92 2), .ref (σ_92 3), .int (iI (cS0 5)), .int (iI (cS0 4))]) := (hfh _ hi_131 ne_132).trans hM_133
  have hi_150 : o ∈ L_144 := hsuh _ hi_134
  have hM_151 : M_145 o = .inr (5, [.ref q_35, .ref q_72, .null, .null, .null, .null]) := (hfh _ hi_134 ne_135).trans hM_136
  have hi_152 : q_121 ∈ L_144 := hsuh _ hi_137
  have hM_153 : M_145 q_121 = .inr (1, [.ref (ρh), .int (iI 0)]) := (hIh.fr _ hrho hneh).trans hM0h
  have sb_154 : ∀ x ∈ L, x ∈ L_144 := fun x hx => hsuh _ (sb_138 x hx)
  have kp_155 : ∀ x ∈ L, x ≠ o → M_145 x = M x := fun x hx hxo => (hfh x (sb_138 x hx) (fun e0 => hq_124 (e0 ▸ sb_115 x hx))).trans (kp_139 x hx hxo)
  have sb_156 : ∀ x ∈ L_48, x ∈ L_144 := fun x hx => hsuh _ (sb_140 x hx)
  have kp_157 : ∀ x ∈ L_48, x ≠ o → M_145 x = M_49 x := fun x hx hxo => (hfh x (sb_140 x hx) (fun e0 => hq_124 (e0 ▸ sb_117 x hx))).trans (kp_141 x hx hxo)
  have sb_158 : ∀ x ∈ L_90, x ∈ L_144 := fun x hx => hsuh _ (sb_142 x hx)
  have kp_159 : ∀ x ∈ L_90, x ≠ o → M_145 x = M_91 x := fun x hx hxo => (hfh x (sb_142 x hx) (fun e0 => hq_124 (e0 ▸ sb_119 x hx))).trans (kp_143 x hx hxo)
  have sb_160 : ∀ x ∈ L_144, x ∈ L_144 := fun _ h => h
  have kp_161 : ∀ x ∈ L_144, x ≠ o → M_145 x = M_145 x := fun _ _ _ => rfl
  have hF_h1 := hF_b.cell (L2 := L_122) (D2 := dm 2 1 0) (k0 := 1) (q := q_121) (fun x hx => hL_125 ▸ List.mem_append_left _ hx) hq_124 hi_137 (fun s k hd => by unfold dm at hd ⊢; omega)
  have hF_h2 := hF_h1.cell (L2 := L0h) (D2 := dm 2 2 0) (k0 := 2) (q := ρh) (fun x hx => hL0h ▸ List.mem_append_left _ hx) hρh hIh.2.1 (fun s k hd => by unfold dm at hd ⊢; omega)
  have hF_h := hF_h2.fam (D2 := dm 2 2 6) (s0 := 4) (n := 6) (τ := τh) hIh.sub (fun s k hd => by unfold dm at hd ⊢; omega) (fun j k j0 j1 k0 k1 => ⟨(hIh.st j0 j1).mem k0 k1, hIh.new j0 j1 k0 k1⟩) hIh.inj
  refine g_st (st' := [.ref q_121, .ref o]) rfl ?_
  refine g_putF X cl_X5 2 (by decide) wf_X5_22 rfl hi_150 hM_151 rfl hinit rfl rfl rfl (Nat.le_of_ble_eq_true rfl) (fs' := [.ref q_35, .ref q_72, .ref q_121, .null, .null, .null]) rfl dX5_init_34 rfl (fun M_162 hM_163 fr_164 => ?_)
  have hM_165 : M_162 q_35 = .inr (3, [.ref (σ_50 1), .ref (σ_50 2), .ref (σ_50 3), .int (iI (cS0 5)), .int (iI (cS0 4))]) := (fr_164 q_35 (Ne.symm ne_43)).trans hM_147
  have hM_166 : M_162 q_72 = .inr (3, [.ref (σ_92 1), .ref (σ_92 2), .ref (σ_92 3), .int (iI (cS0 5)), .int (iI (cS0 4))]) := (fr_164 q_72 (Ne.symm ne_83)).trans hM_149
  have hM_167 : M_162 q_121 = .inr (1, [.ref (ρh), .int (iI 0)]) := (fr_164 q_121 (Ne.symm ne_135)).trans hM_153
  have sb_168 : ∀ x ∈ L, x ∈ L_144 := fun x hx => sb_154 x hx
  have kp_169 : ∀ x ∈ L, x ≠ o → M_162 x = M x := fun x hx hxo => (fr_164 x hxo).trans (kp_155 x hx hxo)
  have sb_170 : ∀ x ∈ L_48, x ∈ L_144 := fun x hx => sb_156 x hx
  have kp_171 : ∀ x ∈ L_48, x ≠ o → M_162 x = M_49 x := fun x hx hxo => (fr_164 x hxo).trans (kp_157 x hx hxo)
  have sb_172 : ∀ x ∈ L_90, x ∈ L_144 := fun x hx => sb_158 x hx
  have kp_173 : ∀ x ∈ L_90, x ≠ o → M_162 x = M_91 x := fun x hx hxo => (fr_164 x hxo).trans (kp_159 x hx hxo)
  have sb_174 : ∀ x ∈ L_144, x ∈ L_144 := fun x hx => sb_160 x hx
  have kp_175 : ∀ x ∈ L_144, x ≠ o → M_162 x = M_145 x := fun x hx hxo => (fr_164 x hxo).trans (kp_161 x hx hxo)
  refine g_aload_n X 0 rfl dX5_init_37 rfl ?_
  refine g_iconst X (z := 2) dX5_init_38 rfl ?_
  refine g_newq X (C := RX3) 2 4 rfl rfl wk_X5_7 wo_X3 ⟨by decide, by decide⟩ (by decide) dX5_init_39 rfl (fun q_176 L_177 M_178 hq_179 hL_180 hM_181 fr_182 => ?_)
  have ne_184 : q_35 ≠ q_176 := fun e0 => hq_179 (e0 ▸ hi_146)
  have hi_183 : q_35 ∈ L_177 := hL_180 ▸ List.mem_append_left _ hi_146
  have hM_185 : M_178 q_35 = .inr (3, [.ref (σ_50 1), .ref (σ_50 2), .ref (σ_50 3), .int (iI (cS0 5)), .int (iI (cS0 4))]) := (fr_182 q_35 ne_184).trans hM_165
  have ne_187 : q_72 ≠ q_176 := fun e0 => hq_179 (e0 ▸ hi_148)
  have hi_186 : q_72 ∈ L_177 := hL_180 ▸ List.mem_append_left _ hi_148
  have hM_188 : M_178 q_72 = .inr (3, [.ref (σ_92 1), .ref (σ_92 2), .ref (σ_92 3), .int (iI (cS0 5)), .int (iI (cS0 4))]) := (fr_182 q_72 ne_187).trans hM_166
  have ne_190 : q_121 ≠ q_176 := fun e0 => hq_179 (e0 ▸ hi_152)
  have hi_189 : q_121 ∈ L_177 := hL_180 ▸ List.mem_append_left _ hi_152
  have hM_191 : M_178 q_121 = .inr (1, [.ref (ρh), .int (iI 0)]) := (fr_182 q_121 ne_190).trans hM_167
  have ne_193 : o ≠ q_176 := fun e0 => hq_179 (e0 ▸ hi_150)
  have hi_192 : o ∈ L_177 := hL_180 ▸ List.mem_append_left _ hi_150
  have hM_194 : M_178 o = .inr (5, [.ref q_35, .ref q_72, .ref q_121, .null, .null, .null]) := (fr_182 o ne_193).trans hM_163
  have hi_195 : q_176 ∈ L_177 := hL_180 ▸ List.mem_append_right _ List.mem_cons_self
  have sb_196 : ∀ x ∈ L, x ∈ L_177 := fun x hx => hL_180 ▸ List.mem_append_left _ (sb_168 x hx)
  have kp_197 : ∀ x ∈ L, x ≠ o → M_178 x = M x := fun x hx hxo => (fr_182 x (fun e0 => hq_179 (e0 ▸ sb_168 x hx))).trans (kp_169 x hx hxo)
  have sb_198 : ∀ x ∈ L_48, x ∈ L_177 := fun x hx => hL_180 ▸ List.mem_append_left _ (sb_170 x hx)
  have kp_199 : ∀ x ∈ L_48, x ≠ o → M_178 x = M_49 x := fun x hx hxo => (fr_182 x (fun e0 => hq_179 (e0 ▸ sb_170 x hx))).trans (kp_171 x hx hxo)
  have sb_200 : ∀ x ∈ L_90, x ∈ L_177 := fun x hx => hL_180 ▸ List.mem_append_left _ (sb_172 x hx)
  have kp_201 : ∀ x ∈ L_90, x ≠ o → M_178 x = M_91 x := fun x hx hxo => (fr_182 x (fun e0 => hq_179 (e0 ▸ sb_172 x hx))).trans (kp_173 x hx hxo)
  have sb_202 : ∀ x ∈ L_144, x ∈ L_177 := fun x hx => hL_180 ▸ List.mem_append_left _ (sb_174 x hx)
  have kp_203 : ∀ x ∈ L_144, x ≠ o → M_178 x = M_145 x := fun x hx hxo => (fr_182 x (fun e0 => hq_179 (e0 ▸ sb_174 x hx))).trans (kp_175 x hx hxo)
  have sb_204 : ∀ x ∈ L_177, x ∈ L_177 := fun _ h => h
  have kp_205 : ∀ x ∈ L_177, x ≠ o → M_178 x = M_178 x := fun _ _ _ => rfl
  have hF_s := hF_h.cell (L2 := L_177) (D2 := dm 2 3 6) (k0 := 3) (q := q_176) (fun x hx => hL_180 ▸ List.mem_append_left _ hx) hq_179 hi_195 (fun s k hd => by unfold dm at hd ⊢; omega)
  refine g_putF X cl_X5 3 (by decide) wf_X5_26 rfl hi_192 hM_194 rfl hinit rfl rfl rfl (Nat.le_of_ble_eq_true rfl) (fs' := [.ref q_35, .ref q_72, .ref q_121, .ref q_176, .null, .null]) rfl dX5_init_42 rfl (fun M_206 hM_207 fr_208 => ?_)
  have hM_209 : M_206 q_35 = .inr (3, [.ref (σ_50 1), .ref (σ_50 2), .ref (σ_50 3), .int (iI (cS0 5)), .int (iI (cS0 4))]) := (fr_208 q_35 (Ne.symm ne_43)).trans hM_185
  have hM_210 : M_206 q_72 = .inr (3, [.ref (σ_92 1), .ref (σ_92 2), .ref (σ_92 3), .int (iI (cS0 5)), .int (iI (cS0 4))]) := (fr_208 q_72 (Ne.symm ne_83)).trans hM_188
  have hM_211 : M_206 q_121 = .inr (1, [.ref (ρh), .int (iI 0)]) := (fr_208 q_121 (Ne.symm ne_135)).trans hM_191
  have hM_212 : M_206 q_176 = cR ca 4 2 (fun _ => none) := (fr_208 q_176 (Ne.symm ne_193)).trans hM_181
  have sb_213 : ∀ x ∈ L, x ∈ L_177 := fun x hx => sb_196 x hx
  have kp_214 : ∀ x ∈ L, x ≠ o → M_206 x = M x := fun x hx hxo => (fr_208 x hxo).trans (kp_197 x hx hxo)
  have sb_215 : ∀ x ∈ L_48, x ∈ L_177 := fun x hx => sb_198 x hx
  have kp_216 : ∀ x ∈ L_48, x ≠ o → M_206 x = M_49 x := fun x hx hxo => (fr_208 x hxo).trans (kp_199 x hx hxo)
  have sb_217 : ∀ x ∈ L_90, x ∈ L_177 := fun x hx => sb_200 x hx
  have kp_218 : ∀ x ∈ L_90, x ≠ o → M_206 x = M_91 x := fun x hx hxo => (fr_208 x hxo).trans (kp_201 x hx hxo)
  have sb_219 : ∀ x ∈ L_144, x ∈ L_177 := fun x hx => sb_202 x hx
  have kp_220 : ∀ x ∈ L_144, x ≠ o → M_206 x = M_145 x := fun x hx hxo => (fr_208 x hxo).trans (kp_203 x hx hxo)
  have sb_221 : ∀ x ∈ L_177, x ∈ L_177 := fun x hx => sb_204 x hx
  have kp_222 : ∀ x ∈ L_177, x ≠ o → M_206 x = M_178 x := fun x hx hxo => (fr_208 x hxo).trans (kp_205 x hx hxo)
  refine g_aload_n X 0 rfl dX5_init_45 rfl ?_
  refine g_iconst X (z := 2) dX5_init_46 rfl ?_
  refine g_newaZ X 2 rfl ⟨by decide, by decide⟩ (by decide) dX5_init_47 rfl (fun q_223 L_224 M_225 hq_226 hL_227 hM_228 fr_229 => ?_)
  have ne_231 : q_35 ≠ q_223 := fun e0 => hq_226 (e0 ▸ hi_183)
  have hi_230 : q_35 ∈ L_224 := hL_227 ▸ List.mem_append_left _ hi_183
  have hM_232 : M_225 q_35 = .inr (3, [.ref (σ_50 1), .ref (σ_50 2), .ref (σ_50 3), .int (iI (cS0 5)), .int (iI (cS0 4))]) := (fr_229 q_35 ne_231).trans hM_209
  have ne_234 : q_72 ≠ q_223 := fun e0 => hq_226 (e0 ▸ hi_186)
  have hi_233 : q_72 ∈ L_224 := hL_227 ▸ List.mem_append_left _ hi_186
  have hM_235 : M_225 q_72 = .inr (3, [.ref (σ_92 1), .ref (σ_92 2), .ref (σ_92 3), .int (iI (cS0 5)), .int (iI (cS0 4))]) := (fr_229 q_72 ne_234).trans hM_210
  have ne_237 : q_121 ≠ q_223 := fun e0 => hq_226 (e0 ▸ hi_189)
  have hi_236 : q_121 ∈ L_224 := hL_227 ▸ List.mem_append_left _ hi_189
  have hM_238 : M_225 q_121 = .inr (1, [.ref (ρh), .int (iI 0)]) := (fr_229 q_121 ne_237).trans hM_211
  have ne_240 : q_176 ≠ q_223 := fun e0 => hq_226 (e0 ▸ hi_195)
  have hi_239 : q_176 ∈ L_224 := hL_227 ▸ List.mem_append_left _ hi_195
  have hM_241 : M_225 q_176 = cR ca 4 2 (fun _ => none) := (fr_229 q_176 ne_240).trans hM_212
  have ne_243 : o ≠ q_223 := fun e0 => hq_226 (e0 ▸ hi_192)
  have hi_242 : o ∈ L_224 := hL_227 ▸ List.mem_append_left _ hi_192
  have hM_244 : M_225 o = .inr (5, [.ref q_35, .ref q_72, .ref q_121, .ref q_176, .null, .null]) := (fr_229 o ne_243).trans hM_207
  have hi_245 : q_223 ∈ L_224 := hL_227 ▸ List.mem_append_right _ List.mem_cons_self
  have sb_246 : ∀ x ∈ L, x ∈ L_224 := fun x hx => hL_227 ▸ List.mem_append_left _ (sb_213 x hx)
  have kp_247 : ∀ x ∈ L, x ≠ o → M_225 x = M x := fun x hx hxo => (fr_229 x (fun e0 => hq_226 (e0 ▸ sb_213 x hx))).trans (kp_214 x hx hxo)
  have sb_248 : ∀ x ∈ L_48, x ∈ L_224 := fun x hx => hL_227 ▸ List.mem_append_left _ (sb_215 x hx)
  have kp_249 : ∀ x ∈ L_48, x ≠ o → M_225 x = M_49 x := fun x hx hxo => (fr_229 x (fun e0 => hq_226 (e0 ▸ sb_215 x hx))).trans (kp_216 x hx hxo)
  have sb_250 : ∀ x ∈ L_90, x ∈ L_224 := fun x hx => hL_227 ▸ List.mem_append_left _ (sb_217 x hx)
  have kp_251 : ∀ x ∈ L_90, x ≠ o → M_225 x = M_91 x := fun x hx hxo => (fr_229 x (fun e0 => hq_226 (e0 ▸ sb_217 x hx))).trans (kp_218 x hx hxo)
  have sb_252 : ∀ x ∈ L_144, x ∈ L_224 := fun x hx => hL_227 ▸ List.mem_append_left _ (sb_219 x hx)
  have kp_253 : ∀ x ∈ L_144, x ≠ o → M_225 x = M_145 x := fun x hx hxo => (fr_229 x (fun e0 => hq_226 (e0 ▸ sb_219 x hx))).trans (kp_220 x hx hxo)
  have sb_254 : ∀ x ∈ L_177, x ∈ L_224 := fun x hx => hL_227 ▸ List.mem_append_left _ (sb_221 x hx)
  have kp_255 : ∀ x ∈ L_177, x ≠ o → M_225 x = M_178 x := fun x hx hxo => (fr_229 x (fun e0 => hq_226 (e0 ▸ sb_221 x hx))).trans (kp_222 x hx hxo)
  have sb_256 : ∀ x ∈ L_224, x ∈ L_224 := fun _ h => h
  have kp_257 : ∀ x ∈ L_224, x ≠ o → M_225 x = M_225 x := fun _ _ _ => rfl
  have hF_z := hF_s.cell (L2 := L_224) (D2 := dm 2 4 6) (k0 := 4) (q := q_223) (fun x hx => hL_227 ▸ List.mem_append_left _ hx) hq_226 hi_245 (fun s k hd => by unfold dm at hd ⊢; omega)
  refine g_putF X cl_X5 4 (by decide) wf_X5_30 rfl hi_242 hM_244 rfl hinit rfl rfl rfl (Nat.le_of_ble_eq_true rfl) (fs' := [.ref q_35, .ref q_72, .ref q_121, .ref q_176, .ref q_223, .null]) rfl dX5_init_49 rfl (fun M_258 hM_259 fr_260 => ?_)
  have hM_261 : M_258 q_35 = .inr (3, [.ref (σ_50 1), .ref (σ_50 2), .ref (σ_50 3), .int (iI (cS0 5)), .int (iI (cS0 4))]) := (fr_260 q_35 (Ne.symm ne_43)).trans hM_232
  have hM_262 : M_258 q_72 = .inr (3, [.ref (σ_92 1), .ref (σ_92 2), .ref (σ_92 3), .int (iI (cS0 5)), .int (iI (cS0 4))]) := (fr_260 q_72 (Ne.symm ne_83)).trans hM_235
  have hM_263 : M_258 q_121 = .inr (1, [.ref (ρh), .int (iI 0)]) := (fr_260 q_121 (Ne.symm ne_135)).trans hM_238
  have hM_264 : M_258 q_176 = cR ca 4 2 (fun _ => none) := (fr_260 q_176 (Ne.symm ne_193)).trans hM_241
  have hM_265 : M_258 q_223 = cZ ca 2 (fun _ => 0) := (fr_260 q_223 (Ne.symm ne_243)).trans hM_228
  have sb_266 : ∀ x ∈ L, x ∈ L_224 := fun x hx => sb_246 x hx
  have kp_267 : ∀ x ∈ L, x ≠ o → M_258 x = M x := fun x hx hxo => (fr_260 x hxo).trans (kp_247 x hx hxo)
  have sb_268 : ∀ x ∈ L_48, x ∈ L_224 := fun x hx => sb_248 x hx
  have kp_269 : ∀ x ∈ L_48, x ≠ o → M_258 x = M_49 x := fun x hx hxo => (fr_260 x hxo).trans (kp_249 x hx hxo)
  have sb_270 : ∀ x ∈ L_90, x ∈ L_224 := fun x hx => sb_250 x hx
  have kp_271 : ∀ x ∈ L_90, x ≠ o → M_258 x = M_91 x := fun x hx hxo => (fr_260 x hxo).trans (kp_251 x hx hxo)
  have sb_272 : ∀ x ∈ L_144, x ∈ L_224 := fun x hx => sb_252 x hx
  have kp_273 : ∀ x ∈ L_144, x ≠ o → M_258 x = M_145 x := fun x hx hxo => (fr_260 x hxo).trans (kp_253 x hx hxo)
  have sb_274 : ∀ x ∈ L_177, x ∈ L_224 := fun x hx => sb_254 x hx
  have kp_275 : ∀ x ∈ L_177, x ≠ o → M_258 x = M_178 x := fun x hx hxo => (fr_260 x hxo).trans (kp_255 x hx hxo)
  have sb_276 : ∀ x ∈ L_224, x ∈ L_224 := fun x hx => sb_256 x hx
  have kp_277 : ∀ x ∈ L_224, x ≠ o → M_258 x = M_225 x := fun x hx hxo => (fr_260 x hxo).trans (kp_257 x hx hxo)
  refine g_aload_n X 0 rfl dX5_init_52 rfl ?_
  refine g_new X cl_X2 wk_X5_34 w1_X2 w0_X2 [.null, .int (iI 0), .null, .int (iI 0)] (fun j hj => by rcases (by omega : j = 0 ∨ j = 1 ∨ j = 2 ∨ j = 3) with rfl | rfl | rfl | rfl <;> first | rfl | exact congrArg Value.int iI_zero) ⟨by decide, by decide⟩ dX5_init_53 rfl (fun q_278 L_279 M_280 hq_281 hL_282 hM_283 fr_284 => ?_)
  have ne_286 : q_35 ≠ q_278 := fun e0 => hq_281 (e0 ▸ hi_230)
  have hi_285 : q_35 ∈ L_279 := hL_282 ▸ List.mem_append_left _ hi_230
  have hM_287 : M_280 q_35 = .inr (3, [.ref (σ_50 1), .ref (σ_50 2), .ref (σ_50 3), .int (iI (cS0 5)), .int (iI (cS0 4))]) := (fr_284 q_35 ne_286).trans hM_261
  have ne_289 : q_72 ≠ q_278 := fun e0 => hq_281 (e0 ▸ hi_233)
  have hi_288 : q_72 ∈ L_279 := hL_282 ▸ List.mem_append_left _ hi_233
  have hM_290 : M_280 q_72 = .inr (3, [.ref (σ_92 1), .ref (σ_92 2), .ref (σ_92 3), .int (iI (cS0 5)), .int (iI (cS0 4))]) := (fr_284 q_72 ne_289).trans hM_262
  have ne_292 : q_121 ≠ q_278 := fun e0 => hq_281 (e0 ▸ hi_236)
  have hi_291 : q_121 ∈ L_279 := hL_282 ▸ List.mem_append_left _ hi_236
  have hM_293 : M_280 q_121 = .inr (1, [.ref (ρh), .int (iI 0)]) := (fr_284 q_121 ne_292).trans hM_263
  have ne_295 : q_176 ≠ q_278 := fun e0 => hq_281 (e0 ▸ hi_239)
  have hi_294 : q_176 ∈ L_279 := hL_282 ▸ List.mem_append_left _ hi_239
  have hM_296 : M_280 q_176 = cR ca 4 2 (fun _ => none) := (fr_284 q_176 ne_295).trans hM_264
  have ne_298 : q_223 ≠ q_278 := fun e0 => hq_281 (e0 ▸ hi_245)
  have hi_297 : q_223 ∈ L_279 := hL_282 ▸ List.mem_append_left _ hi_245
  have hM_299 : M_280 q_223 = cZ ca 2 (fun _ => 0) := (fr_284 q_223 ne_298).trans hM_265
  have ne_301 : o ≠ q_278 := fun e0 => hq_281 (e0 ▸ hi_242)
  have hi_300 : o ∈ L_279 := hL_282 ▸ List.mem_append_left _ hi_242
  have hM_302 : M_280 o = .inr (5, [.ref q_35, .ref q_72, .ref q_121, .ref q_176, .ref q_223, .null]) := (fr_284 o ne_301).trans hM_259
  have hi_303 : q_278 ∈ L_279 := hL_282 ▸ List.mem_append_right _ List.mem_cons_self
  have sb_304 : ∀ x ∈ L, x ∈ L_279 := fun x hx => hL_282 ▸ List.mem_append_left _ (sb_266 x hx)
  have kp_305 : ∀ x ∈ L, x ≠ o → M_280 x = M x := fun x hx hxo => (fr_284 x (fun e0 => hq_281 (e0 ▸ sb_266 x hx))).trans (kp_267 x hx hxo)
  have sb_306 : ∀ x ∈ L_48, x ∈ L_279 := fun x hx => hL_282 ▸ List.mem_append_left _ (sb_268 x hx)
  have kp_307 : ∀ x ∈ L_48, x ≠ o → M_280 x = M_49 x := fun x hx hxo => (fr_284 x (fun e0 => hq_281 (e0 ▸ sb_268 x hx))).trans (kp_269 x hx hxo)
  have sb_308 : ∀ x ∈ L_90, x ∈ L_279 := fun x hx => hL_282 ▸ List.mem_append_left _ (sb_270 x hx)
  have kp_309 : ∀ x ∈ L_90, x ≠ o → M_280 x = M_91 x := fun x hx hxo => (fr_284 x (fun e0 => hq_281 (e0 ▸ sb_270 x hx))).trans (kp_271 x hx hxo)
  have sb_310 : ∀ x ∈ L_144, x ∈ L_279 := fun x hx => hL_282 ▸ List.mem_append_left _ (sb_272 x hx)
  have kp_311 : ∀ x ∈ L_144, x ≠ o → M_280 x = M_145 x := fun x hx hxo => (fr_284 x (fun e0 => hq_281 (e0 ▸ sb_272 x hx))).trans (kp_273 x hx hxo)
  have sb_312 : ∀ x ∈ L_177, x ∈ L_279 := fun x hx => hL_282 ▸ List.mem_append_left _ (sb_274 x hx)
  have kp_313 : ∀ x ∈ L_177, x ≠ o → M_280 x = M_178 x := fun x hx hxo => (fr_284 x (fun e0 => hq_281 (e0 ▸ sb_274 x hx))).trans (kp_275 x hx hxo)
  have sb_314 : ∀ x ∈ L_224, x ∈ L_279 := fun x hx => hL_282 ▸ List.mem_append_left _ (sb_276 x hx)
  have kp_315 : ∀ x ∈ L_224, x ≠ o → M_280 x = M_225 x := fun x hx hxo => (fr_284 x (fun e0 => hq_281 (e0 ▸ sb_276 x hx))).trans (kp_277 x hx hxo)
  refine g_dup X rfl dX5_init_56 rfl ?_
  refine g_callIN X (ct_X2_init l q_278) (host := "StrideBanks") (As := []) (rest := [.ref q_278, .ref o]) rfl rfl ca_X2_init rfl wm_X5_36 wi_X2_init wc_X2_init w0_X2 ⟨by decide, by decide⟩ (Nat.le_of_ble_eq_true rfl) ⟨by decide, by decide⟩ rfl dX5_init_57 rfl ⟨rfl, hi_303, hM_283⟩ (fun r9 L_316 M_317 hq9 => ?_)
  obtain ⟨rfl, qt, qn, hLp, hqt, hqn, hMp, hMt, hMn, hfp⟩ := hq9
  have hsup : ∀ x ∈ L_279, x ∈ L_316 := fun x hx => hLp ▸ List.mem_append_left _ (List.mem_append_left _ hx)
  have hi_318 : q_35 ∈ L_316 := hsup _ hi_285
  have hM_319 : M_317 q_35 = .inr (3, [.ref (σ_50 1), .ref (σ_50 2), .ref (σ_50 3), .int (iI (cS0 5)), .int (iI (cS0 4))]) := (hfp _ hi_285 ne_286).trans hM_287
  have hi_320 : q_72 ∈ L_316 := hsup _ hi_288
  have hM_321 : M_317 q_72 = .inr (3, [.ref (σ_92 1), .ref (σ_92 2), .ref (σ_92 3), .int (iI (cS0 5)), .int (iI (cS0 4))]) := (hfp _ hi_288 ne_289).trans hM_290
  have hi_322 : q_121 ∈ L_316 := hsup _ hi_291
  have hM_323 : M_317 q_121 = .inr (1, [.ref (ρh), .int (iI 0)]) := (hfp _ hi_291 ne_292).trans hM_293
  have hi_324 : q_176 ∈ L_316 := hsup _ hi_294
  have hM_325 : M_317 q_176 = cR ca 4 2 (fun _ => none) := (hfp _ hi_294 ne_295).trans hM_296
  have hi_326 : q_223 ∈ L_316 := hsup _ hi_297
  have hM_327 : M_317 q_223 = cZ ca 2 (fun _ => 0) := (hfp _ hi_297 ne_298).trans hM_299
  have hi_328 : o ∈ L_316 := hsup _ hi_300
  have hM_329 : M_317 o = .inr (5, [.ref q_35, .ref q_72, .ref q_121, .ref q_176, .ref q_223, .null]) := (hfp _ hi_300 ne_301).trans hM_302
  have hi_330 : q_278 ∈ L_316 := hsup _ hi_303
  have hM_331 : M_317 q_278 = .inr (2, [.ref qt, .int (iI 0), .ref qn, .int (iI 0)]) := hMp
  have sb_332 : ∀ x ∈ L, x ∈ L_316 := fun x hx => hsup _ (sb_304 x hx)
  have kp_333 : ∀ x ∈ L, x ≠ o → M_317 x = M x := fun x hx hxo => (hfp x (sb_304 x hx) (fun e0 => hq_281 (e0 ▸ sb_266 x hx))).trans (kp_305 x hx hxo)
  have sb_334 : ∀ x ∈ L_48, x ∈ L_316 := fun x hx => hsup _ (sb_306 x hx)
  have kp_335 : ∀ x ∈ L_48, x ≠ o → M_317 x = M_49 x := fun x hx hxo => (hfp x (sb_306 x hx) (fun e0 => hq_281 (e0 ▸ sb_268 x hx))).trans (kp_307 x hx hxo)
  have sb_336 : ∀ x ∈ L_90, x ∈ L_316 := fun x hx => hsup _ (sb_308 x hx)
  have kp_337 : ∀ x ∈ L_90, x ≠ o → M_317 x = M_91 x := fun x hx hxo => (hfp x (sb_308 x hx) (fun e0 => hq_281 (e0 ▸ sb_270 x hx))).trans (kp_309 x hx hxo)
  have sb_338 : ∀ x ∈ L_144, x ∈ L_316 := fun x hx => hsup _ (sb_310 x hx)
  have kp_339 : ∀ x ∈ L_144, x ≠ o → M_317 x = M_145 x := fun x hx hxo => (hfp x (sb_310 x hx) (fun e0 => hq_281 (e0 ▸ sb_272 x hx))).trans (kp_311 x hx hxo)
  have sb_340 : ∀ x ∈ L_177, x ∈ L_316 := fun x hx => hsup _ (sb_312 x hx)
  have kp_341 : ∀ x ∈ L_177, x ≠ o → M_317 x = M_178 x := fun x hx hxo => (hfp x (sb_312 x hx) (fun e0 => hq_281 (e0 ▸ sb_274 x hx))).trans (kp_313 x hx hxo)
  have sb_342 : ∀ x ∈ L_224, x ∈ L_316 := fun x hx => hsup _ (sb_314 x hx)
  have kp_343 : ∀ x ∈ L_224, x ≠ o → M_317 x = M_225 x := fun x hx hxo => (hfp x (sb_314 x hx) (fun e0 => hq_281 (e0 ▸ sb_276 x hx))).trans (kp_315 x hx hxo)
  have sb_344 : ∀ x ∈ L_316, x ∈ L_316 := fun _ h => h
  have kp_345 : ∀ x ∈ L_316, x ≠ o → M_317 x = M_317 x := fun _ _ _ => rfl
  have hF_p1 := hF_z.cell (L2 := L_279) (D2 := dm 2 5 6) (k0 := 5) (q := q_278) (fun x hx => hL_282 ▸ List.mem_append_left _ hx) hq_281 hi_303 (fun s k hd => by unfold dm at hd ⊢; omega)
  have hF_p2 := hF_p1.cell (L2 := L_279 ++ [qt]) (D2 := dm 2 6 6) (k0 := 6) (q := qt) (fun x hx => List.mem_append_left _ hx) hqt (List.mem_append_right _ List.mem_cons_self) (fun s k hd => by unfold dm at hd ⊢; omega)
  have hF_p := hF_p2.cell (L2 := L_316) (D2 := dm 2 7 6) (k0 := 7) (q := qn) (fun x hx => hLp ▸ List.mem_append_left _ hx) hqn (hLp ▸ List.mem_append_right _ List.mem_cons_self) (fun s k hd => by unfold dm at hd ⊢; omega)
  refine g_st (st' := [.ref q_278, .ref o]) rfl ?_
  refine g_putF X cl_X5 5 (by decide) wf_X5_37 rfl hi_328 hM_329 rfl hinit rfl rfl rfl (Nat.le_of_ble_eq_true rfl) (fs' := [.ref q_35, .ref q_72, .ref q_121, .ref q_176, .ref q_223, .ref q_278]) rfl dX5_init_60 rfl (fun M_346 hM_347 fr_348 => ?_)
  have hM_349 : M_346 q_35 = .inr (3, [.ref (σ_50 1), .ref (σ_50 2), .ref (σ_50 3), .int (iI (cS0 5)), .int (iI (cS0 4))]) := (fr_348 q_35 (Ne.symm ne_43)).trans hM_319
  have hM_350 : M_346 q_72 = .inr (3, [.ref (σ_92 1), .ref (σ_92 2), .ref (σ_92 3), .int (iI (cS0 5)), .int (iI (cS0 4))]) := (fr_348 q_72 (Ne.symm ne_83)).trans hM_321
  have hM_351 : M_346 q_121 = .inr (1, [.ref (ρh), .int (iI 0)]) := (fr_348 q_121 (Ne.symm ne_135)).trans hM_323
  have hM_352 : M_346 q_176 = cR ca 4 2 (fun _ => none) := (fr_348 q_176 (Ne.symm ne_193)).trans hM_325
  have hM_353 : M_346 q_223 = cZ ca 2 (fun _ => 0) := (fr_348 q_223 (Ne.symm ne_243)).trans hM_327
  have hM_354 : M_346 q_278 = .inr (2, [.ref qt, .int (iI 0), .ref qn, .int (iI 0)]) := (fr_348 q_278 (Ne.symm ne_301)).trans hM_331
  have sb_355 : ∀ x ∈ L, x ∈ L_316 := fun x hx => sb_332 x hx
  have kp_356 : ∀ x ∈ L, x ≠ o → M_346 x = M x := fun x hx hxo => (fr_348 x hxo).trans (kp_333 x hx hxo)
  have sb_357 : ∀ x ∈ L_48, x ∈ L_316 := fun x hx => sb_334 x hx
  have kp_358 : ∀ x ∈ L_48, x ≠ o → M_346 x = M_49 x := fun x hx hxo => (fr_348 x hxo).trans (kp_335 x hx hxo)
  have sb_359 : ∀ x ∈ L_90, x ∈ L_316 := fun x hx => sb_336 x hx
  have kp_360 : ∀ x ∈ L_90, x ≠ o → M_346 x = M_91 x := fun x hx hxo => (fr_348 x hxo).trans (kp_337 x hx hxo)
  have sb_361 : ∀ x ∈ L_144, x ∈ L_316 := fun x hx => sb_338 x hx
  have kp_362 : ∀ x ∈ L_144, x ≠ o → M_346 x = M_145 x := fun x hx hxo => (fr_348 x hxo).trans (kp_339 x hx hxo)
  have sb_363 : ∀ x ∈ L_177, x ∈ L_316 := fun x hx => sb_340 x hx
  have kp_364 : ∀ x ∈ L_177, x ≠ o → M_346 x = M_178 x := fun x hx hxo => (fr_348 x hxo).trans (kp_341 x hx hxo)
  have sb_365 : ∀ x ∈ L_224, x ∈ L_316 := fun x hx => sb_342 x hx
  have kp_366 : ∀ x ∈ L_224, x ≠ o → M_346 x = M_225 x := fun x hx hxo => (fr_348 x hxo).trans (kp_343 x hx hxo)
  have sb_367 : ∀ x ∈ L_316, x ∈ L_316 := fun x hx => sb_344 x hx
  have kp_368 : ∀ x ∈ L_316, x ≠ o → M_346 x = M_317 x := fun x hx hxo => (fr_348 x hxo).trans (kp_345 x hx hxo)
  refine g_iconst X (z := 0) dX5_init_63 rfl ?_
  refine g_istore_n X (lv' := [(1, .int (iI 0)), (0, .ref o)]) (by decide) rfl dX5_init_64 rfl ?_
  refine g_lv (lv' := [(0, .ref o), (1, .int (iI 0))]) [1, 0] rfl ?_
  have nL : ∀ x, x ∉ L → x ≠ o := fun x hx e0 => hx (e0 ▸ ho)
  have hLL : ∀ b ∈ L, b ∈ L_316 := hF_p.1
  obtain ⟨Sg, hF, g0, g1, g101, g102, gh, g103, g104, g105, g106, g107⟩ : ∃ Sg : Int → Int → Nat, Fam L L_316 (dm 2 7 6) Sg ∧ Sg 0 = σ_50 ∧ Sg 1 = σ_92 ∧ Sg 10 1 = q_121 ∧ Sg 10 2 = ρh ∧ (∀ j, 0 ≤ j → j < 6 → Sg (4 + j) = τh j) ∧ Sg 10 3 = q_176 ∧ Sg 10 4 = q_223 ∧ Sg 10 5 = q_278 ∧ Sg 10 6 = qt ∧ Sg 10 7 = qn := by
    refine ⟨_, hF_p, rfl, rfl, rfl, rfl, fun j j0 j1 => ?_, rfl, rfl, rfl, rfl, rfl⟩
    funext k
    rw [ceA, if_neg (by omega), ceA, if_neg (by omega), ceA, if_neg (by omega), ceA, if_neg (by omega), ceA, if_neg (by omega), faA, if_pos (by omega), show 4 + j - 4 = j by omega]
  have dn : ∀ s k, dm 2 7 6 s k → Sg s k ≠ o := fun s k hd => nL _ (hF.2.1 s k hd).2
  have ra : σ_50 0 = Sg 0 0 := by rw [g0]
  have hNw : Nw ca L L_316 M M_346 Sg o := by
    refine ⟨hF, ?_, ?_, ?_, ?_, ?_, fun j j0 j1 => ?_, ?_, ?_, ?_, ?_, fun b hb hbo => ?_⟩
    · rw [g0, g1, g101, g103, g104, g105]
      refine hM_347.trans ?_
      rw [hs_51, hs_93]
    · rw [g0]; exact (hs_52.kept (fun i i0 i1 => kp_358 _ (hs_52.mem i0 i1) (g0 ▸ dn 0 i (by unfold dm; omega)))).mono sb_357
    · rw [g1]; exact (hs_94.kept (fun i i0 i1 => kp_360 _ (hs_94.mem i0 i1) (g1 ▸ dn 1 i (by unfold dm; omega)))).mono sb_359
    · rw [g101, g102]; exact (kp_362 _ hi_152 (g101 ▸ dn 10 1 (by unfold dm; omega))).trans hM_153
    · rw [g102]
      refine (kp_362 _ hIh.rin (g102 ▸ dn 10 2 (by unfold dm; omega))).trans (hIh.row.trans (cR_ext fun j => ?_))
      unfold rwh
      by_cases q9 : 0 ≤ (j : Int) ∧ (j : Int) < 6
      · rw [if_pos q9, if_pos q9]; exact congrArg some (congrFun (gh _ q9.1 q9.2) 0).symm
      · rw [if_neg q9, if_neg q9]
    · rw [gh j j0 j1]; exact ((hIh.st j0 j1).kept (fun i i0 i1 => kp_362 _ ((hIh.st j0 j1).mem i0 i1) (gh j j0 j1 ▸ dn (4 + j) i (by unfold dm; omega)))).mono sb_361
    · rw [g104]; exact (kp_366 _ hi_245 (g104 ▸ dn 10 4 (by unfold dm; omega))).trans hM_228
    · rw [g105, g106, g107]; exact (kp_368 _ hi_330 (g105 ▸ dn 10 5 (by unfold dm; omega))).trans hMp
    · rw [g106]; exact (kp_368 _ (hLp ▸ List.mem_append_left _ (List.mem_append_right _ List.mem_cons_self)) (g106 ▸ dn 10 6 (by unfold dm; omega))).trans hMt
    · rw [g107]; exact (kp_368 _ (hLp ▸ List.mem_append_right _ List.mem_cons_self) (g107 ▸ dn 10 7 (by unfold dm; omega))).trans hMn
    · exact kp_356 b hb hbo
  refine g_cs (c2 := 199 + 24 * 0) (s2 := 1136 + 125 * 0) (by omega) (by omega) ?_
  exact lp 3 0 0 _ _ _ _ Sg _ (fun _ _ => 0) hNw g103.symm (by decide) (by decide) (InFm.zero hi_324 hM_352) (by decide)
