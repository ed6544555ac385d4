/-! the reference: its constructor -/
theorem mu_list {L l : List Nat} (hl : l.length = 9) (hm : ∀ a ∈ l, a ∈ L) (hn : l.Nodup) : MuOk (fun i => l.getD i 0) L := by
  have at_ : ∀ i, i < 9 → l[i]? = some (l.getD i 0) := fun i hi => by
    rw [List.getD_eq_getElem?_getD, List.getElem?_eq_getElem (by omega)]; rfl
  refine ⟨fun i hi => hm _ (List.mem_of_getElem? (at_ i hi)), fun i j hi hj h => ?_⟩
  have h1 := at_ i hi
  have h2 := at_ j hj
  dsimp only at h
  rw [h] at h1
  exact (List.getElem?_inj (by omega) hn).mp (h1.trans h2.symm)
abbrev oMd0 : va_E := .inr (6, [.null, .null, .null, .null, .null, .null, .null, .null, .int (iI 0), .int (iI 0), .int (iI 0), .int (iI 0)])
def z0 : Int → Int := fun _ => 0
def S0 : AS := (up (up z0 0 8) 1 4, z0, z0, z0, z0, 0, 0)
set_option maxRecDepth 100000 in
set_option maxHeartbeats 4000000 in
theorem ct_X6_init (l : Launch) (o : Nat) : Ct l yX6_init cX6_init 1 none 1 8 1305 (fun ca av L M => av = [.ref o] ∧ o ∈ L ∧ M o = oMd0) (fun ca av L M r L1 M1 => r = none ∧ ∃ μ : Nat → Nat, μ 0 = o ∧ MuOk μ L1 ∧ Md ca M1 μ S0 ∧ (∀ i, 1 ≤ i → i < 9 → μ i ∉ L) ∧ (∀ b ∈ L, b ∈ L1) ∧ ∀ b ∈ L, b ≠ o → M1 b = M b) := by
  refine Ct_of (own := RX6) (by decide) rfl (by rintro _ _ _ _ ⟨rfl, _⟩; exact Nat.le_of_ble_eq_true rfl) ?_
  rintro p e s m args below meth c D ca A av L M ⟨rfl, ho, hMo⟩ X hret hname
  refine g_lv (lv' := [(0, .ref o)]) [0] rfl ?_
  have hinit : meth.name = "<init>" := hname.symm
  refine g_aload_n X 0 rfl dX6_init_0 rfl ?_
  refine g_objInit X wm_X6_1 ⟨by decide, by decide⟩ dX6_init_1 rfl ?_ (Nat.le_of_ble_eq_true rfl)
  refine g_aload_n X 0 rfl dX6_init_4 rfl ?_
  refine g_bipush X (z := 110) (by decide +kernel) dX6_init_5 rfl ?_
  refine g_newaI X 110 rfl ⟨by decide, by decide⟩ (by decide) dX6_init_7 rfl (fun q_1 L_2 M_3 hq_4 hL_5 hM_6 fr_7 => ?_)
  have ne_9 : o ≠ q_1 := fun e0 => hq_4 (e0 ▸ ho)
  have hi_8 : o ∈ L_2 := hL_5 ▸ List.mem_append_left _ ho
  have hM_10 : M_3 o = .inr (6, [.null, .null, .null, .null, .null, .null, .null, .null, .int (iI 0), .int (iI 0), .int (iI 0), .int (iI 0)]) := (fr_7 o ne_9).trans hMo
  have hi_11 : q_1 ∈ L_2 := hL_5 ▸ List.mem_append_right _ List.mem_cons_self
  refine g_putF X cl_X6 0 (by decide) wf_X6_7 rfl hi_8 hM_10 rfl hinit rfl rfl rfl (Nat.le_of_ble_eq_true rfl) (fs' := [.ref q_1, .null, .null, .null, .null, .null, .null, .null, .int (iI 0), .int (iI 0), .int (iI 0), .int (iI 0)]) rfl dX6_init_9 rfl (fun M_12 hM_13 fr_14 => ?_)
  have hM_15 : M_12 q_1 = cI ca 110 (fun _ => 0) := (fr_14 q_1 (Ne.symm ne_9)).trans hM_6
  refine g_aload_n X 0 rfl dX6_init_12 rfl ?_
  refine g_bipush X (z := 110) (by decide +kernel) dX6_init_13 rfl ?_
  refine g_newaI X 110 rfl ⟨by decide, by decide⟩ (by decide) dX6_init_15 rfl (fun q_16 L_17 M_18 hq_19 hL_20 hM_21 fr_22 => ?_)
  have ne_24 : q_1 ≠ q_16 := fun e0 => hq_19 (e0 ▸ hi_11)
  have hi_23 : q_1 ∈ L_17 := hL_20 ▸ List.mem_append_left _ hi_11
  have hM_25 : M_18 q_1 = cI ca 110 (fun _ => 0) := (fr_22 q_1 ne_24).trans hM_15
  have ne_27 : o ≠ q_16 := fun e0 => hq_19 (e0 ▸ hi_8)
  have hi_26 : o ∈ L_17 := hL_20 ▸ List.mem_append_left _ hi_8
  have hM_28 : M_18 o = .inr (6, [.ref q_1, .null, .null, .null, .null, .null, .null, .null, .int (iI 0), .int (iI 0), .int (iI 0), .int (iI 0)]) := (fr_22 o ne_27).trans hM_13
  have hi_29 : q_16 ∈ L_17 := hL_20 ▸ List.mem_append_right _ List.mem_cons_self
  refine g_putF X cl_X6 1 (by decide) wf_X6_13 rfl hi_26 hM_28 rfl hinit rfl rfl rfl (Nat.le_of_ble_eq_true rfl) (fs' := [.ref q_1, .ref q_16, .null, .null, .null, .null, .null, .null, .int (iI 0), .int (iI 0), .int (iI 0), .int (iI 0)]) rfl dX6_init_17 rfl (fun M_30 hM_31 fr_32 => ?_)
  have hM_33 : M_30 q_1 = cI ca 110 (fun _ => 0) := (fr_32 q_1 (Ne.symm ne_9)).trans hM_25
  have hM_34 : M_30 q_16 = cI ca 110 (fun _ => 0) := (fr_32 q_16 (Ne.symm ne_27)).trans hM_21
  refine g_aload_n X 0 rfl dX6_init_20 rfl ?_
  refine g_bipush X (z := 110) (by decide +kernel) dX6_init_21 rfl ?_
  refine g_newaI X 110 rfl ⟨by decide, by decide⟩ (by decide) dX6_init_23 rfl (fun q_35 L_36 M_37 hq_38 hL_39 hM_40 fr_41 => ?_)
  have ne_43 : q_1 ≠ q_35 := fun e0 => hq_38 (e0 ▸ hi_23)
  have hi_42 : q_1 ∈ L_36 := hL_39 ▸ List.mem_append_left _ hi_23
  have hM_44 : M_37 q_1 = cI ca 110 (fun _ => 0) := (fr_41 q_1 ne_43).trans hM_33
  have ne_46 : q_16 ≠ q_35 := fun e0 => hq_38 (e0 ▸ hi_29)
  have hi_45 : q_16 ∈ L_36 := hL_39 ▸ List.mem_append_left _ hi_29
  have hM_47 : M_37 q_16 = cI ca 110 (fun _ => 0) := (fr_41 q_16 ne_46).trans hM_34
  have ne_49 : o ≠ q_35 := fun e0 => hq_38 (e0 ▸ hi_26)
  have hi_48 : o ∈ L_36 := hL_39 ▸ List.mem_append_left _ hi_26
  have hM_50 : M_37 o = .inr (6, [.ref q_1, .ref q_16, .null, .null, .null, .null, .null, .null, .int (iI 0), .int (iI 0), .int (iI 0), .int (iI 0)]) := (fr_41 o ne_49).trans hM_31
  have hi_51 : q_35 ∈ L_36 := hL_39 ▸ List.mem_append_right _ List.mem_cons_self
  refine g_putF X cl_X6 2 (by decide) wf_X6_16 rfl hi_48 hM_50 rfl hinit rfl rfl rfl (Nat.le_of_ble_eq_true rfl) (fs' := [.ref q_1, .ref q_16, .ref q_35, .null, .null, .null, .null, .null, .int (iI 0), .int (iI 0), .int (iI 0), .int (iI 0)]) rfl dX6_init_25 rfl (fun M_52 hM_53 fr_54 => ?_)
  have hM_55 : M_52 q_1 = cI ca 110 (fun _ => 0) := (fr_54 q_1 (Ne.symm ne_9)).trans hM_44
  have hM_56 : M_52 q_16 = cI ca 110 (fun _ => 0) := (fr_54 q_16 (Ne.symm ne_27)).trans hM_47
  have hM_57 : M_52 q_35 = cI ca 110 (fun _ => 0) := (fr_54 q_35 (Ne.symm ne_49)).trans hM_40
  refine g_aload_n X 0 rfl dX6_init_28 rfl ?_
  refine g_sipush X (z := 660) (by decide +kernel) dX6_init_29 rfl ?_
  refine g_newaI X 660 rfl ⟨by decide, by decide⟩ (by decide) dX6_init_32 rfl (fun q_58 L_59 M_60 hq_61 hL_62 hM_63 fr_64 => ?_)
  have ne_66 : q_1 ≠ q_58 := fun e0 => hq_61 (e0 ▸ hi_42)
  have hi_65 : q_1 ∈ L_59 := hL_62 ▸ List.mem_append_left _ hi_42
  have hM_67 : M_60 q_1 = cI ca 110 (fun _ => 0) := (fr_64 q_1 ne_66).trans hM_55
  have ne_69 : q_16 ≠ q_58 := fun e0 => hq_61 (e0 ▸ hi_45)
  have hi_68 : q_16 ∈ L_59 := hL_62 ▸ List.mem_append_left _ hi_45
  have hM_70 : M_60 q_16 = cI ca 110 (fun _ => 0) := (fr_64 q_16 ne_69).trans hM_56
  have ne_72 : q_35 ≠ q_58 := fun e0 => hq_61 (e0 ▸ hi_51)
  have hi_71 : q_35 ∈ L_59 := hL_62 ▸ List.mem_append_left _ hi_51
  have hM_73 : M_60 q_35 = cI ca 110 (fun _ => 0) := (fr_64 q_35 ne_72).trans hM_57
  have ne_75 : o ≠ q_58 := fun e0 => hq_61 (e0 ▸ hi_48)
  have hi_74 : o ∈ L_59 := hL_62 ▸ List.mem_append_left _ hi_48
  have hM_76 : M_60 o = .inr (6, [.ref q_1, .ref q_16, .ref q_35, .null, .null, .null, .null, .null, .int (iI 0), .int (iI 0), .int (iI 0), .int (iI 0)]) := (fr_64 o ne_75).trans hM_53
  have hi_77 : q_58 ∈ L_59 := hL_62 ▸ List.mem_append_right _ List.mem_cons_self
  refine g_putF X cl_X6 3 (by decide) wf_X6_19 rfl hi_74 hM_76 rfl hinit rfl rfl rfl (Nat.le_of_ble_eq_true rfl) (fs' := [.ref q_1, .ref q_16, .ref q_35, .ref q_58, .null, .null, .null, .null, .int (iI 0), .int (iI 0), .int (iI 0), .int (iI 0)]) rfl dX6_init_34 rfl (fun M_78 hM_79 fr_80 => ?_)
  have hM_81 : M_78 q_1 = cI ca 110 (fun _ => 0) := (fr_80 q_1 (Ne.symm ne_9)).trans hM_67
  have hM_82 : M_78 q_16 = cI ca 110 (fun _ => 0) := (fr_80 q_16 (Ne.symm ne_27)).trans hM_70
  have hM_83 : M_78 q_35 = cI ca 110 (fun _ => 0) := (fr_80 q_35 (Ne.symm ne_49)).trans hM_73
  have hM_84 : M_78 q_58 = cI ca 660 (fun _ => 0) := (fr_80 q_58 (Ne.symm ne_75)).trans hM_63
  refine g_aload_n X 0 rfl dX6_init_37 rfl ?_
  refine g_sipush X (z := 220) (by decide +kernel) dX6_init_38 rfl ?_
  refine g_newaI X 220 rfl ⟨by decide, by decide⟩ (by decide) dX6_init_41 rfl (fun q_85 L_86 M_87 hq_88 hL_89 hM_90 fr_91 => ?_)
  have ne_93 : q_1 ≠ q_85 := fun e0 => hq_88 (e0 ▸ hi_65)
  have hi_92 : q_1 ∈ L_86 := hL_89 ▸ List.mem_append_left _ hi_65
  have hM_94 : M_87 q_1 = cI ca 110 (fun _ => 0) := (fr_91 q_1 ne_93).trans hM_81
  have ne_96 : q_16 ≠ q_85 := fun e0 => hq_88 (e0 ▸ hi_68)
  have hi_95 : q_16 ∈ L_86 := hL_89 ▸ List.mem_append_left _ hi_68
  have hM_97 : M_87 q_16 = cI ca 110 (fun _ => 0) := (fr_91 q_16 ne_96).trans hM_82
  have ne_99 : q_35 ≠ q_85 := fun e0 => hq_88 (e0 ▸ hi_71)
  have hi_98 : q_35 ∈ L_86 := hL_89 ▸ List.mem_append_left _ hi_71
  have hM_100 : M_87 q_35 = cI ca 110 (fun _ => 0) := (fr_91 q_35 ne_99).trans hM_83
  have ne_102 : q_58 ≠ q_85 := fun e0 => hq_88 (e0 ▸ hi_77)
  have hi_101 : q_58 ∈ L_86 := hL_89 ▸ List.mem_append_left _ hi_77
  have hM_103 : M_87 q_58 = cI ca 660 (fun _ => 0) := (fr_91 q_58 ne_102).trans hM_84
  have ne_105 : o ≠ q_85 := fun e0 => hq_88 (e0 ▸ hi_74)
  have hi_104 : o ∈ L_86 := hL_89 ▸ List.mem_append_left _ hi_74
  have hM_106 : M_87 o = .inr (6, [.ref q_1, .ref q_16, .ref q_35, .ref q_58, .null, .null, .null, .null, .int (iI 0), .int (iI 0), .int (iI 0), .int (iI 0)]) := (fr_91 o ne_105).trans hM_79
  have hi_107 : q_85 ∈ L_86 := hL_89 ▸ List.mem_append_right _ List.mem_cons_self
  refine g_putF X cl_X6 4 (by decide) wf_X6_22 rfl hi_104 hM_106 rfl hinit rfl rfl rfl (Nat.le_of_ble_eq_true rfl) (fs' := [.ref q_1, .ref q_16, .ref q_35, .ref q_58, .ref q_85, .null, .null, .null, .int (iI 0), .int (iI 0), .int (iI 0), .int (iI 0)]) rfl dX6_init_43 rfl (fun M_108 hM_109 fr_110 => ?_)
  have hM_111 : M_108 q_1 = cI ca 110 (fun _ => 0) := (fr_110 q_1 (Ne.symm ne_9)).trans hM_94
  have hM_112 : M_108 q_16 = cI ca 110 (fun _ => 0) := (fr_110 q_16 (Ne.symm ne_27)).trans hM_97
  have hM_113 : M_108 q_35 = cI ca 110 (fun _ => 0) := (fr_110 q_35 (Ne.symm ne_49)).trans hM_100
  have hM_114 : M_108 q_58 = cI ca 660 (fun _ => 0) := (fr_110 q_58 (Ne.symm ne_75)).trans hM_103
  have hM_115 : M_108 q_85 = cI ca 220 (fun _ => 0) := (fr_110 q_85 (Ne.symm ne_105)).trans hM_90
  refine g_aload_n X 0 rfl dX6_init_46 rfl ?_
  refine g_iconst X (z := 2) dX6_init_47 rfl ?_
  refine g_newaZ X 2 rfl ⟨by decide, by decide⟩ (by decide) dX6_init_48 rfl (fun q_116 L_117 M_118 hq_119 hL_120 hM_121 fr_122 => ?_)
  have ne_124 : q_1 ≠ q_116 := fun e0 => hq_119 (e0 ▸ hi_92)
  have hi_123 : q_1 ∈ L_117 := hL_120 ▸ List.mem_append_left _ hi_92
  have hM_125 : M_118 q_1 = cI ca 110 (fun _ => 0) := (fr_122 q_1 ne_124).trans hM_111
  have ne_127 : q_16 ≠ q_116 := fun e0 => hq_119 (e0 ▸ hi_95)
  have hi_126 : q_16 ∈ L_117 := hL_120 ▸ List.mem_append_left _ hi_95
  have hM_128 : M_118 q_16 = cI ca 110 (fun _ => 0) := (fr_122 q_16 ne_127).trans hM_112
  have ne_130 : q_35 ≠ q_116 := fun e0 => hq_119 (e0 ▸ hi_98)
  have hi_129 : q_35 ∈ L_117 := hL_120 ▸ List.mem_append_left _ hi_98
  have hM_131 : M_118 q_35 = cI ca 110 (fun _ => 0) := (fr_122 q_35 ne_130).trans hM_113
  have ne_133 : q_58 ≠ q_116 := fun e0 => hq_119 (e0 ▸ hi_101)
  have hi_132 : q_58 ∈ L_117 := hL_120 ▸ List.mem_append_left _ hi_101
  have hM_134 : M_118 q_58 = cI ca 660 (fun _ => 0) := (fr_122 q_58 ne_133).trans hM_114
  have ne_136 : q_85 ≠ q_116 := fun e0 => hq_119 (e0 ▸ hi_107)
  have hi_135 : q_85 ∈ L_117 := hL_120 ▸ List.mem_append_left _ hi_107
  have hM_137 : M_118 q_85 = cI ca 220 (fun _ => 0) := (fr_122 q_85 ne_136).trans hM_115
  have ne_139 : o ≠ q_116 := fun e0 => hq_119 (e0 ▸ hi_104)
  have hi_138 : o ∈ L_117 := hL_120 ▸ List.mem_append_left _ hi_104
  have hM_140 : M_118 o = .inr (6, [.ref q_1, .ref q_16, .ref q_35, .ref q_58, .ref q_85, .null, .null, .null, .int (iI 0), .int (iI 0), .int (iI 0), .int (iI 0)]) := (fr_122 o ne_139).trans hM_109
  have hi_141 : q_116 ∈ L_117 := hL_120 ▸ List.mem_append_right _ List.mem_cons_self
  refine g_putF X cl_X6 5 (by decide) wf_X6_25 rfl hi_138 hM_140 rfl hinit rfl rfl rfl (Nat.le_of_ble_eq_true rfl) (fs' := [.ref q_1, .ref q_16, .ref q_35, .ref q_58, .ref q_85, .ref q_116, .null, .null, .int (iI 0), .int (iI 0), .int (iI 0), .int (iI 0)]) rfl dX6_init_50 rfl (fun M_142 hM_143 fr_144 => ?_)
  have hM_145 : M_142 q_1 = cI ca 110 (fun _ => 0) := (fr_144 q_1 (Ne.symm ne_9)).trans hM_125
  have hM_146 : M_142 q_16 = cI ca 110 (fun _ => 0) := (fr_144 q_16 (Ne.symm ne_27)).trans hM_128
  have hM_147 : M_142 q_35 = cI ca 110 (fun _ => 0) := (fr_144 q_35 (Ne.symm ne_49)).trans hM_131
  have hM_148 : M_142 q_58 = cI ca 660 (fun _ => 0) := (fr_144 q_58 (Ne.symm ne_75)).trans hM_134
  have hM_149 : M_142 q_85 = cI ca 220 (fun _ => 0) := (fr_144 q_85 (Ne.symm ne_105)).trans hM_137
  have hM_150 : M_142 q_116 = cZ ca 2 (fun _ => 0) := (fr_144 q_116 (Ne.symm ne_139)).trans hM_121
  refine g_aload_n X 0 rfl dX6_init_53 rfl ?_
  refine g_bipush X (z := 33) (by decide +kernel) dX6_init_54 rfl ?_
  refine g_newaI X 33 rfl ⟨by decide, by decide⟩ (by decide) dX6_init_56 rfl (fun q_151 L_152 M_153 hq_154 hL_155 hM_156 fr_157 => ?_)
  have ne_159 : q_1 ≠ q_151 := fun e0 => hq_154 (e0 ▸ hi_123)
  have hi_158 : q_1 ∈ L_152 := hL_155 ▸ List.mem_append_left _ hi_123
  have hM_160 : M_153 q_1 = cI ca 110 (fun _ => 0) := (fr_157 q_1 ne_159).trans hM_145
  have ne_162 : q_16 ≠ q_151 := fun e0 => hq_154 (e0 ▸ hi_126)
  have hi_161 : q_16 ∈ L_152 := hL_155 ▸ List.mem_append_left _ hi_126
  have hM_163 : M_153 q_16 = cI ca 110 (fun _ => 0) := (fr_157 q_16 ne_162).trans hM_146
  have ne_165 : q_35 ≠ q_151 := fun e0 => hq_154 (e0 ▸ hi_129)
  have hi_164 : q_35 ∈ L_152 := hL_155 ▸ List.mem_append_left _ hi_129
  have hM_166 : M_153 q_35 = cI ca 110 (fun _ => 0) := (fr_157 q_35 ne_165).trans hM_147
  have ne_168 : q_58 ≠ q_151 := fun e0 => hq_154 (e0 ▸ hi_132)
  have hi_167 : q_58 ∈ L_152 := hL_155 ▸ List.mem_append_left _ hi_132
  have hM_169 : M_153 q_58 = cI ca 660 (fun _ => 0) := (fr_157 q_58 ne_168).trans hM_148
  have ne_171 : q_85 ≠ q_151 := fun e0 => hq_154 (e0 ▸ hi_135)
  have hi_170 : q_85 ∈ L_152 := hL_155 ▸ List.mem_append_left _ hi_135
  have hM_172 : M_153 q_85 = cI ca 220 (fun _ => 0) := (fr_157 q_85 ne_171).trans hM_149
  have ne_174 : q_116 ≠ q_151 := fun e0 => hq_154 (e0 ▸ hi_141)
  have hi_173 : q_116 ∈ L_152 := hL_155 ▸ List.mem_append_left _ hi_141
  have hM_175 : M_153 q_116 = cZ ca 2 (fun _ => 0) := (fr_157 q_116 ne_174).trans hM_150
  have ne_177 : o ≠ q_151 := fun e0 => hq_154 (e0 ▸ hi_138)
  have hi_176 : o ∈ L_152 := hL_155 ▸ List.mem_append_left _ hi_138
  have hM_178 : M_153 o = .inr (6, [.ref q_1, .ref q_16, .ref q_35, .ref q_58, .ref q_85, .ref q_116, .null, .null, .int (iI 0), .int (iI 0), .int (iI 0), .int (iI 0)]) := (fr_157 o ne_177).trans hM_143
  have hi_179 : q_151 ∈ L_152 := hL_155 ▸ List.mem_append_right _ List.mem_cons_self
  refine g_putF X cl_X6 6 (by decide) wf_X6_29 rfl hi_176 hM_178 rfl hinit rfl rfl rfl (Nat.le_of_ble_eq_true rfl) (fs' := [.ref q_1, .ref q_16, .ref q_35, .ref q_58, .ref q_85, .ref q_116, .ref q_151, .null, .int (iI 0), .int (iI 0), .int (iI 0), .int (iI 0)]) rfl dX6_init_58 rfl (fun M_180 hM_181 fr_182 => ?_)
  have hM_183 : M_180 q_1 = cI ca 110 (fun _ => 0) := (fr_182 q_1 (Ne.symm ne_9)).trans hM_160
  have hM_184 : M_180 q_16 = cI ca 110 (fun _ => 0) := (fr_182 q_16 (Ne.symm ne_27)).trans hM_163
  have hM_185 : M_180 q_35 = cI ca 110 (fun _ => 0) := (fr_182 q_35 (Ne.symm ne_49)).trans hM_166
  have hM_186 : M_180 q_58 = cI ca 660 (fun _ => 0) := (fr_182 q_58 (Ne.symm ne_75)).trans hM_169
  have hM_187 : M_180 q_85 = cI ca 220 (fun _ => 0) := (fr_182 q_85 (Ne.symm ne_105)).trans hM_172
  have hM_188 : M_180 q_116 = cZ ca 2 (fun _ => 0) := (fr_182 q_116 (Ne.symm ne_139)).trans hM_175
  have hM_189 : M_180 q_151 = cI ca 33 (fun _ => 0) := (fr_182 q_151 (Ne.symm ne_177)).trans hM_156
  refine g_aload_n X 0 rfl dX6_init_61 rfl ?_
  refine g_bipush X (z := 60) (by decide +kernel) dX6_init_62 rfl ?_
  refine g_newaC X 60 rfl ⟨by decide, by decide⟩ (by decide) dX6_init_64 rfl (fun q_190 L_191 M_192 hq_193 hL_194 hM_195 fr_196 => ?_)
  have ne_198 : q_1 ≠ q_190 := fun e0 => hq_193 (e0 ▸ hi_158)
  have hi_197 : q_1 ∈ L_191 := hL_194 ▸ List.mem_append_left _ hi_158
  have hM_199 : M_192 q_1 = cI ca 110 (fun _ => 0) := (fr_196 q_1 ne_198).trans hM_183
  have ne_201 : q_16 ≠ q_190 := fun e0 => hq_193 (e0 ▸ hi_161)
  have hi_200 : q_16 ∈ L_191 := hL_194 ▸ List.mem_append_left _ hi_161
  have hM_202 : M_192 q_16 = cI ca 110 (fun _ => 0) := (fr_196 q_16 ne_201).trans hM_184
  have ne_204 : q_35 ≠ q_190 := fun e0 => hq_193 (e0 ▸ hi_164)
  have hi_203 : q_35 ∈ L_191 := hL_194 ▸ List.mem_append_left _ hi_164
  have hM_205 : M_192 q_35 = cI ca 110 (fun _ => 0) := (fr_196 q_35 ne_204).trans hM_185
  have ne_207 : q_58 ≠ q_190 := fun e0 => hq_193 (e0 ▸ hi_167)
  have hi_206 : q_58 ∈ L_191 := hL_194 ▸ List.mem_append_left _ hi_167
  have hM_208 : M_192 q_58 = cI ca 660 (fun _ => 0) := (fr_196 q_58 ne_207).trans hM_186
  have ne_210 : q_85 ≠ q_190 := fun e0 => hq_193 (e0 ▸ hi_170)
  have hi_209 : q_85 ∈ L_191 := hL_194 ▸ List.mem_append_left _ hi_170
  have hM_211 : M_192 q_85 = cI ca 220 (fun _ => 0) := (fr_196 q_85 ne_210).trans hM_187
  have ne_213 : q_116 ≠ q_190 := fun e0 => hq_193 (e0 ▸ hi_173)
  have hi_212 : q_116 ∈ L_191 := hL_194 ▸ List.mem_append_left _ hi_173
  have hM_214 : M_192 q_116 = cZ ca 2 (fun _ => 0) := (fr_196 q_116 ne_213).trans hM_188
  have ne_216 : q_151 ≠ q_190 := fun e0 => hq_193 (e0 ▸ hi_179)
  have hi_215 : q_151 ∈ L_191 := hL_194 ▸ List.mem_append_left _ hi_179
  have hM_217 : M_192 q_151 = cI ca 33 (fun _ => 0) := (fr_196 q_151 ne_216).trans hM_189
  have ne_219 : o ≠ q_190 := fun e0 => hq_193 (e0 ▸ hi_176)
  have hi_218 : o ∈ L_191 := hL_194 ▸ List.mem_append_left _ hi_176
  have hM_220 : M_192 o = .inr (6, [.ref q_1, .ref q_16, .ref q_35, .ref q_58, .ref q_85, .ref q_116, .ref q_151, .null, .int (iI 0), .int (iI 0), .int (iI 0), .int (iI 0)]) := (fr_196 o ne_219).trans hM_181
  have hi_221 : q_190 ∈ L_191 := hL_194 ▸ List.mem_append_right _ List.mem_cons_self
  refine g_putF X cl_X6 7 (by decide) wf_X6_32 rfl hi_218 hM_220 rfl hinit rfl rfl rfl (Nat.le_of_ble_eq_true rfl) (fs' := [.ref q_1, .ref q_16, .ref q_35, .ref q_58, .ref q_85, .ref q_116, .ref q_151, .ref q_190, .int (iI 0), .int (iI 0), .int (iI 0), .int (iI 0)]) rfl dX6_init_66 rfl (fun M_222 hM_223 fr_224 => ?_)
  have hM_225 : M_222 q_1 = cI ca 110 (fun _ => 0) := (fr_224 q_1 (Ne.symm ne_9)).trans hM_199
  have hM_226 : M_222 q_16 = cI ca 110 (fun _ => 0) := (fr_224 q_16 (Ne.symm ne_27)).trans hM_202
  have hM_227 : M_222 q_35 = cI ca 110 (fun _ => 0) := (fr_224 q_35 (Ne.symm ne_49)).trans hM_205
  have hM_228 : M_222 q_58 = cI ca 660 (fun _ => 0) := (fr_224 q_58 (Ne.symm ne_75)).trans hM_208
  have hM_229 : M_222 q_85 = cI ca 220 (fun _ => 0) := (fr_224 q_85 (Ne.symm ne_105)).trans hM_211
  have hM_230 : M_222 q_116 = cZ ca 2 (fun _ => 0) := (fr_224 q_116 (Ne.symm ne_139)).trans hM_214
  have hM_231 : M_222 q_151 = cI ca 33 (fun _ => 0) := (fr_224 q_151 (Ne.symm ne_177)).trans hM_217
  have hM_232 : M_222 q_190 = cC ca 60 (fun _ => 0) := (fr_224 q_190 (Ne.symm ne_219)).trans hM_195
  refine g_aload_n X 0 rfl dX6_init_69 rfl ?_
  refine g_get X cl_X6 0 (by decide) wf_X6_7 rfl hi_218 hM_223 rfl dX6_init_70 rfl ?_
  refine g_iconst X (z := 0) dX6_init_73 rfl ?_
  refine g_bipush X (z := 8) (by decide +kernel) dX6_init_74 rfl ?_
  refine g_iast X hi_197 hM_225 ⟨by decide, by decide⟩ (by decide) dX6_init_76 rfl (fun M_233 hM_234 fr_235 => ?_)
  obtain ⟨g_236, hg_237⟩ : ∃ x : Int → Int, x = up (fun _ => 0) 0 8 := ⟨_, rfl⟩
  rw [← hg_237] at hM_234
  have hM_238 : M_233 q_16 = cI ca 110 (fun _ => 0) := (fr_235 q_16 (Ne.symm ne_24)).trans hM_226
  have hM_239 : M_233 q_35 = cI ca 110 (fun _ => 0) := (fr_235 q_35 (Ne.symm ne_43)).trans hM_227
  have hM_240 : M_233 q_58 = cI ca 660 (fun _ => 0) := (fr_235 q_58 (Ne.symm ne_66)).trans hM_228
  have hM_241 : M_233 q_85 = cI ca 220 (fun _ => 0) := (fr_235 q_85 (Ne.symm ne_93)).trans hM_229
  have hM_242 : M_233 q_116 = cZ ca 2 (fun _ => 0) := (fr_235 q_116 (Ne.symm ne_124)).trans hM_230
  have hM_243 : M_233 q_151 = cI ca 33 (fun _ => 0) := (fr_235 q_151 (Ne.symm ne_159)).trans hM_231
  have hM_244 : M_233 q_190 = cC ca 60 (fun _ => 0) := (fr_235 q_190 (Ne.symm ne_198)).trans hM_232
  have hM_245 : M_233 o = .inr (6, [.ref q_1, .ref q_16, .ref q_35, .ref q_58, .ref q_85, .ref q_116, .ref q_151, .ref q_190, .int (iI 0), .int (iI 0), .int (iI 0), .int (iI 0)]) := (fr_235 o ne_9).trans hM_223
  refine g_aload_n X 0 rfl dX6_init_77 rfl ?_
  refine g_get X cl_X6 0 (by decide) wf_X6_7 rfl hi_218 hM_245 rfl dX6_init_78 rfl ?_
  refine g_iconst X (z := 1) dX6_init_81 rfl ?_
  refine g_iconst X (z := 4) dX6_init_82 rfl ?_
  refine g_iast X hi_197 hM_234 ⟨by decide, by decide⟩ (by decide) dX6_init_83 rfl (fun M_246 hM_247 fr_248 => ?_)
  obtain ⟨g_249, hg_250⟩ : ∃ x : Int → Int, x = up g_236 1 4 := ⟨_, rfl⟩
  rw [← hg_250] at hM_247
  have hM_251 : M_246 q_16 = cI ca 110 (fun _ => 0) := (fr_248 q_16 (Ne.symm ne_24)).trans hM_238
  have hM_252 : M_246 q_35 = cI ca 110 (fun _ => 0) := (fr_248 q_35 (Ne.symm ne_43)).trans hM_239
  have hM_253 : M_246 q_58 = cI ca 660 (fun _ => 0) := (fr_248 q_58 (Ne.symm ne_66)).trans hM_240
  have hM_254 : M_246 q_85 = cI ca 220 (fun _ => 0) := (fr_248 q_85 (Ne.symm ne_93)).trans hM_241
  have hM_255 : M_246 q_116 = cZ ca 2 (fun _ => 0) := (fr_248 q_116 (Ne.symm ne_124)).trans hM_242
  have hM_256 : M_246 q_151 = cI ca 33 (fun _ => 0) := (fr_248 q_151 (Ne.symm ne_159)).trans hM_243
  have hM_257 : M_246 q_190 = cC ca 60 (fun _ => 0) := (fr_248 q_190 (Ne.symm ne_198)).trans hM_244
  have hM_258 : M_246 o = .inr (6, [.ref q_1, .ref q_16, .ref q_35, .ref q_58, .ref q_85, .ref q_116, .ref q_151, .ref q_190, .int (iI 0), .int (iI 0), .int (iI 0), .int (iI 0)]) := (fr_248 o ne_9).trans hM_245
  subst hg_250 hg_237
  have hx_259 : q_1 ∉ L := fun hb => hq_4 hb
  have hx_260 : q_16 ∉ L := fun hb => hq_19 (hL_5 ▸ List.mem_append_left _ hb)
  have hx_261 : q_35 ∉ L := fun hb => hq_38 (hL_20 ▸ List.mem_append_left _ (hL_5 ▸ List.mem_append_left _ hb))
  have hx_262 : q_58 ∉ L := fun hb => hq_61 (hL_39 ▸ List.mem_append_left _ (hL_20 ▸ List.mem_append_left _ (hL_5 ▸ List.mem_append_left _ hb)))
  have hx_263 : q_85 ∉ L := fun hb => hq_88 (hL_62 ▸ List.mem_append_left _ (hL_39 ▸ List.mem_append_left _ (hL_20 ▸ List.mem_append_left _ (hL_5 ▸ List.mem_append_left _ hb))))
  have hx_264 : q_116 ∉ L := fun hb => hq_119 (hL_89 ▸ List.mem_append_left _ (hL_62 ▸ List.mem_append_left _ (hL_39 ▸ List.mem_append_left _ (hL_20 ▸ List.mem_append_left _ (hL_5 ▸ List.mem_append_left _ hb)))))
  have hx_265 : q_151 ∉ L := fun hb => hq_154 (hL_120 ▸ List.mem_append_left _ (hL_89 ▸ List.mem_append_left _ (hL_62 ▸ List.mem_append_left _ (hL_39 ▸ List.mem_append_left _ (hL_20 ▸ List.mem_append_left _ (hL_5 ▸ List.mem_append_left _ hb))))))
  have hx_266 : q_190 ∉ L := fun hb => hq_193 (hL_155 ▸ List.mem_append_left _ (hL_120 ▸ List.mem_append_left _ (hL_89 ▸ List.mem_append_left _ (hL_62 ▸ List.mem_append_left _ (hL_39 ▸ List.mem_append_left _ (hL_20 ▸ List.mem_append_left _ (hL_5 ▸ List.mem_append_left _ hb)))))))
  refine g_vret X hret ⟨Nat.le_of_ble_eq_true rfl, Nat.le_of_ble_eq_true rfl⟩ dX6_init_84 ⟨rfl, fun i => [o, q_1, q_16, q_35, q_58, q_85, q_116, q_151, q_190].getD i 0, rfl, mu_list rfl (by simp only [List.mem_cons, List.not_mem_nil, or_false]; rintro a (rfl | rfl | rfl | rfl | rfl | rfl | rfl | rfl | rfl) <;> assumption) (List.nodup_cons.mpr ⟨(by simp only [List.mem_cons, List.not_mem_nil, or_false, not_or]; exact ⟨ne_9, ne_27, ne_49, ne_75, ne_105, ne_139, ne_177, ne_219⟩), List.nodup_cons.mpr ⟨(by simp only [List.mem_cons, List.not_mem_nil, or_false, not_or]; exact ⟨ne_24, ne_43, ne_66, ne_93, ne_124, ne_159, ne_198⟩), List.nodup_cons.mpr ⟨(by simp only [List.mem_cons, List.not_mem_nil, or_false, not_or]; exact ⟨ne_46, ne_69, ne_96, ne_127, ne_162, ne_201⟩), List.nodup_cons.mpr ⟨(by simp only [List.mem_cons, List.not_mem_nil, or_false, not_or]; exact ⟨ne_72, ne_99, ne_130, ne_165, ne_204⟩), List.nodup_cons.mpr ⟨(by simp only [List.mem_cons, List.not_mem_nil, or_false, not_or]; exact ⟨ne_102, ne_133, ne_168, ne_207⟩), List.nodup_cons.mpr ⟨(by simp only [List.mem_cons, List.not_mem_nil, or_false, not_or]; exact ⟨ne_136, ne_171, ne_210⟩), List.nodup_cons.mpr ⟨(by simp only [List.mem_cons, List.not_mem_nil, or_false, not_or]; exact ⟨ne_174, ne_213⟩), List.nodup_cons.mpr ⟨(by simp only [List.mem_cons, List.not_mem_nil, or_false, not_or]; exact ne_216), List.nodup_cons.mpr ⟨List.not_mem_nil, List.nodup_nil⟩⟩⟩⟩⟩⟩⟩⟩⟩), ⟨z0, z0, z0, z0, rfl, rfl, hM_258, hM_247, hM_251, hM_252, hM_253, hM_254, hM_255, hM_256, hM_257⟩, ?_, fun b hb => hL_194 ▸ List.mem_append_left _ (hL_155 ▸ List.mem_append_left _ (hL_120 ▸ List.mem_append_left _ (hL_89 ▸ List.mem_append_left _ (hL_62 ▸ List.mem_append_left _ (hL_39 ▸ List.mem_append_left _ (hL_20 ▸ List.mem_append_left _ (hL_5 ▸ List.mem_append_left _ (hb)))))))), fun b hb hb2 => ((fr_248 b (fun e0 => hx_259 (e0 ▸ hb))).trans ((fr_235 b (fun e0 => hx_259 (e0 ▸ hb))).trans ((fr_224 b hb2).trans ((fr_196 b (fun e0 => hx_266 (e0 ▸ hb))).trans ((fr_182 b hb2).trans ((fr_157 b (fun e0 => hx_265 (e0 ▸ hb))).trans ((fr_144 b hb2).trans ((fr_122 b (fun e0 => hx_264 (e0 ▸ hb))).trans ((fr_110 b hb2).trans ((fr_91 b (fun e0 => hx_263 (e0 ▸ hb))).trans ((fr_80 b hb2).trans ((fr_64 b (fun e0 => hx_262 (e0 ▸ hb))).trans ((fr_54 b hb2).trans ((fr_41 b (fun e0 => hx_261 (e0 ▸ hb))).trans ((fr_32 b hb2).trans ((fr_22 b (fun e0 => hx_260 (e0 ▸ hb))).trans ((fr_14 b hb2).trans (fr_7 b (fun e0 => hx_259 (e0 ▸ hb))))))))))))))))))))⟩
  intro i h1 h9
  rcases (by omega : i = 1 ∨ i = 2 ∨ i = 3 ∨ i = 4 ∨ i = 5 ∨ i = 6 ∨ i = 7 ∨ i = 8) with rfl | rfl | rfl | rfl | rfl | rfl | rfl | rfl
  · exact hx_259
  · exact hx_260
  · exact hx_261
  · exact hx_262
  · exact hx_263
  · exact hx_264
  · exact hx_265
  · exact hx_266
