/-! ===== the law's acts, a theorem a case ===== -/
theorem of_rng {T : Int} {S : AS} (h : PA T S) : (0 ≤ ofG S.1 7 ∧ ofG S.1 7 ≤ 800) ∧ (0 ≤ ofG S.1 8 ∧ ofG S.1 8 ≤ 4000000) ∧ (0 ≤ ofG S.1 9 ∧ ofG S.1 9 ≤ 4000000) := by
  have s5 := h.S.2.2.2.2.2
  have := ofS_rng h.I h.P (S.1 5).toNat (by omega)
  unfold ofG
  omega
set_option maxRecDepth 100000 in
set_option maxHeartbeats 4000000 in
theorem acts_72 {p : Program} {l : Launch} {e : Env} {s : State} {m : MethodId} {args : Array Value} {below : List Frame} {meth : Method} {c : Code} {D : va_G} {ca : Nat → ClassId} {A : Nat → Prop} {Q : State → Prop} {L : List Nat} {M : Mem} (X : Fx p s m args meth c D ca A 27 cL_acts RL) {o : Nat} {S : AS} {T x i : Int} (hO : OB ca L M o S) (hPA : PA T S) (hT : 0 ≤ T ∧ T ≤ 90000) (x0 : 0 ≤ x) (x1 : x < 2147483648) (hi : (S.1 5 = 0 ∧ i = 0) ∨ (0 ≤ i ∧ i < S.1 5)) (kk : ∀ (pc2 : Nat) (lv2 : List (Nat × Value)) (M2 : Mem) (S2 : AS), decode cL_acts pc2 = .ok (.ireturn, 1) → OB ca L M2 o S2 → PA (T + 60) S2 → KS S S2 → G p l e (Rm 8 0 0) s m args below meth c D A 27 Q 0 0 L M2 pc2 lv2 [.int (iI 1)]) : G p l e (Rm 8 0 0) s m args below meth c D A 27 Q 0 0 L M 72 [(0, .ref o), (1, .int (iI x)), (2, .int (iI (S.1 5))), (3, .int (iI i))] [] := by
  have hW := hPA.1
  have hI := hPA.I
  obtain ⟨⟨s00, s01⟩, ⟨s10, s11⟩, ⟨s20, s21⟩, ⟨s30, s31⟩, ⟨s40, s41⟩, s50, s51⟩ := id hPA.S
  have hpr := tGP_rng s00 s01
  have hof := of_rng hPA
  refine g_iload_n X 1 rfl dL_acts_72 rfl ?_
  refine g_iconst X (z := 4) dL_acts_73 rfl ?_
  refine g_ishr X (sh_4 x0 x1) dL_acts_74 rfl ?_
  refine g_sipush X (z := 4096) (by decide +kernel) dL_acts_75 rfl ?_
  refine g_irem X ⟨⟨by omega, by omega⟩, by omega, by omega⟩ dL_acts_78 rfl ?_
  refine g_istore X (lv' := [(4, .int (iI ((x / 16) % 4096))), (0, .ref o), (1, .int (iI x)), (2, .int (iI (S.1 5))), (3, .int (iI i))]) (by decide) rfl dL_acts_79 rfl ?_
  refine g_iload_n X 2 rfl dL_acts_81 rfl ?_
  refine g_bipush X (z := 10) (by decide +kernel) dL_acts_82 rfl ?_
  refine g_ishr X (sh_10 x0 x1) dL_acts_84 rfl ?_
  refine g_iload_n X 2 rfl dL_acts_85 rfl ?_
  refine g_iconst X (z := 5) dL_acts_86 rfl ?_
  refine g_ishr X (sh_5 x0 x1) dL_acts_87 rfl ?_
  refine g_iconst X (z := 2) dL_acts_88 rfl ?_
  refine g_irem X ⟨⟨by omega, by omega⟩, by omega, by omega⟩ dL_acts_89 rfl ?_
  refine g_if_ne X ⟨by omega, by omega⟩ (tgt := 98) dL_acts_90 (by decide) rfl (fun h_1 => ?_) (fun h_1 => ?_)
  · refine g_sipush X (z := 1024) (by decide +kernel) dL_acts_98 rfl ?_
    refine g_irem X ⟨⟨by omega, by omega⟩, by omega, by omega⟩ dL_acts_101 rfl ?_
    refine g_istore X (lv' := [(5, .int (iI ((x / 1024) % 1024))), (4, .int (iI ((x / 16) % 4096))), (0, .ref o), (1, .int (iI x)), (2, .int (iI (S.1 5))), (3, .int (iI i))]) (by decide) rfl dL_acts_102 rfl ?_
    refine g_iconst X (z := 1) dL_acts_104 rfl ?_
    refine g_iload_n X 3 rfl dL_acts_105 rfl ?_
    refine g_bipush X (z := 16) (by decide +kernel) dL_acts_106 rfl ?_
    refine g_ishr X (sh_16 x0 x1) dL_acts_108 rfl ?_
    refine g_sipush X (z := 200) (by decide +kernel) dL_acts_109 rfl ?_
    refine g_irem X ⟨⟨by omega, by omega⟩, by omega, by omega⟩ dL_acts_112 rfl ?_
    refine g_iadd X dL_acts_113 rfl ?_
    refine g_istore X (lv' := [(6, .int (iI (1 + ((x / 65536) % 200)))), (5, .int (iI ((x / 1024) % 1024))), (4, .int (iI ((x / 16) % 4096))), (0, .ref o), (1, .int (iI x)), (2, .int (iI (S.1 5))), (3, .int (iI i))]) (by decide) rfl dL_acts_114 rfl ?_
    obtain ⟨a, ha⟩ : ∃ a : Int, a = (x / 16) % 4096 := ⟨_, rfl⟩
    rw [← ha]
    obtain ⟨b, hb⟩ : ∃ b : Int, b = (x / 1024) % 1024 := ⟨_, rfl⟩
    rw [← hb]
    obtain ⟨z, hz⟩ : ∃ z : Int, z = 1 + ((x / 65536) % 200) := ⟨_, rfl⟩
    rw [← hz]
    have ok : okAdd a b z := by unfold okAdd; omega
    have ok2 := ok
    unfold okAdd at ok2
    by_cases h4 : S.1 5 = 4
    · refine g_aload_n X 3 rfl dL_acts_116 rfl ?_
      refine g_iload X 2 rfl dL_acts_117 rfl ?_
      refine g_iload X 1 rfl dL_acts_119 rfl ?_
      refine g_iload X 0 rfl dL_acts_121 rfl ?_
      refine k_call X (v := -4) (fun Sg => kt_add l Sg S a b z) (As := [.int (iI a), .int (iI b), .int (iI z)]) (rest := []) rfl ca_X5_add rfl wm_L_25 wi_X5_add ws_X5_add wc_X5_add ⟨by decide, by decide⟩ (by decide) ⟨by decide, by decide⟩ rfl dL_acts_123 rfl hO ⟨hW, ⟨by omega, by omega⟩, ⟨by omega, by omega⟩, ⟨by omega, by omega⟩⟩ (add_full h4 ok).1 (fun M_3 hO_2 => ?_)
      rw [(add_full h4 ok).2] at hO_2
      refine g_istore X (lv' := [(7, .int (iI (-4))), (6, .int (iI z)), (5, .int (iI b)), (4, .int (iI a)), (0, .ref o), (1, .int (iI x)), (2, .int (iI (S.1 5))), (3, .int (iI i))]) (by decide) rfl dL_acts_126 rfl ?_
      refine g_iload_n X 6 rfl dL_acts_128 rfl ?_
      refine g_iconst X (z := 4) dL_acts_129 rfl ?_
      refine g_icmp_ne X ⟨by omega, by omega⟩ ⟨by decide, by decide⟩ (tgt := 148) dL_acts_130 (by decide) rfl (fun h_4 => ?_) (fun h_4 => ?_)
      · exfalso
        omega
      · refine g_iload X 0 rfl dL_acts_133 rfl ?_
        refine g_bipush X (z := -4) (by decide +kernel) dL_acts_135 rfl ?_
        refine g_icmp_ne X ⟨by decide, by decide⟩ ⟨by omega, by omega⟩ (tgt := 144) dL_acts_137 (by decide) rfl (fun h_5 => ?_) (fun h_5 => ?_)
        · exfalso
          omega
        · refine g_iconst X (z := 1) dL_acts_140 rfl ?_
          refine g_goto X (n := 196) dL_acts_141 (by decide) ?_
          exact kk _ _ _ S dL_acts_196 hO_2 (hPA.up1 (by omega)) (KS.rf S)
    · refine g_aload_n X 3 rfl dL_acts_116 rfl ?_
      refine g_iload X 2 rfl dL_acts_117 rfl ?_
      refine g_iload X 1 rfl dL_acts_119 rfl ?_
      refine g_iload X 0 rfl dL_acts_121 rfl ?_
      refine k_call X (v := S.1 5) (fun Sg => kt_add l Sg S a b z) (As := [.int (iI a), .int (iI b), .int (iI z)]) (rest := []) rfl ca_X5_add rfl wm_L_25 wi_X5_add ws_X5_add wc_X5_add ⟨by decide, by decide⟩ (by decide) ⟨by decide, by decide⟩ rfl dL_acts_123 rfl hO ⟨hW, ⟨by omega, by omega⟩, ⟨by omega, by omega⟩, ⟨by omega, by omega⟩⟩ (act_add hPA h4 ok rfl).1 (fun M_7 hO_6 => ?_)
      obtain ⟨S2, hS2⟩ : ∃ S2 : AS, S2 = opAdd S a b z := ⟨_, rfl⟩
      rw [← hS2] at hO_6
      obtain ⟨-, hPA2, hKS, f3, f4, f7⟩ := act_add hPA h4 ok hS2
      have hW2 := hPA2.1
      refine g_istore X (lv' := [(7, .int (iI (S.1 5))), (6, .int (iI z)), (5, .int (iI b)), (4, .int (iI a)), (0, .ref o), (1, .int (iI x)), (2, .int (iI (S.1 5))), (3, .int (iI i))]) (by decide) rfl dL_acts_126 rfl ?_
      refine g_iload_n X 6 rfl dL_acts_128 rfl ?_
      refine g_iconst X (z := 4) dL_acts_129 rfl ?_
      refine g_icmp_ne X ⟨by omega, by omega⟩ ⟨by decide, by decide⟩ (tgt := 148) dL_acts_130 (by decide) rfl (fun h_8 => ?_) (fun h_8 => ?_)
      · refine g_iload X 0 rfl dL_acts_148 rfl ?_
        refine g_iload_n X 6 rfl dL_acts_150 rfl ?_
        refine g_icmp_ne X ⟨by omega, by omega⟩ ⟨by omega, by omega⟩ (tgt := 195) dL_acts_151 (by decide) rfl (fun h_9 => ?_) (fun h_9 => ?_)
        · exfalso
          omega
        · refine g_aload_n X 4 rfl dL_acts_154 rfl ?_
          refine g_iload X 0 rfl dL_acts_155 rfl ?_
          refine g_iconst X (z := 3) dL_acts_157 rfl ?_
          refine k_call X (v := z) (fun Sg => kt_stream l Sg S2 (S.1 5) 3) (As := [.int (iI (S.1 5)), .int (iI 3)]) (rest := []) rfl ca_X5_stream rfl wm_L_15 wi_X5_stream ws_X5_stream wc_X5_stream ⟨by decide, by decide⟩ (by decide) ⟨by decide, by decide⟩ rfl dL_acts_158 rfl hO_6 ⟨hW2, ⟨by omega, by omega⟩, ⟨by decide, by decide⟩⟩ f3 (fun M_11 hO_10 => ?_)
          refine g_iload X 1 rfl dL_acts_161 rfl ?_
          refine g_icmp_ne X ⟨by omega, by omega⟩ ⟨by omega, by omega⟩ (tgt := 195) dL_acts_163 (by decide) rfl (fun h_12 => ?_) (fun h_12 => ?_)
          · exfalso
            omega
          · refine g_aload_n X 4 rfl dL_acts_166 rfl ?_
            refine g_iload X 0 rfl dL_acts_167 rfl ?_
            refine g_iconst X (z := 4) dL_acts_169 rfl ?_
            refine k_call X (v := a) (fun Sg => kt_stream l Sg S2 (S.1 5) 4) (As := [.int (iI (S.1 5)), .int (iI 4)]) (rest := []) rfl ca_X5_stream rfl wm_L_15 wi_X5_stream ws_X5_stream wc_X5_stream ⟨by decide, by decide⟩ (by decide) ⟨by decide, by decide⟩ rfl dL_acts_170 rfl hO_10 ⟨hW2, ⟨by omega, by omega⟩, ⟨by decide, by decide⟩⟩ f4 (fun M_14 hO_13 => ?_)
            refine g_iload X 3 rfl dL_acts_173 rfl ?_
            refine g_icmp_ne X ⟨by omega, by omega⟩ ⟨by omega, by omega⟩ (tgt := 195) dL_acts_175 (by decide) rfl (fun h_15 => ?_) (fun h_15 => ?_)
            · exfalso
              omega
            · refine g_aload_n X 4 rfl dL_acts_178 rfl ?_
              refine g_iload X 0 rfl dL_acts_179 rfl ?_
              refine g_bipush X (z := 7) (by decide +kernel) dL_acts_181 rfl ?_
              refine k_call X (v := -6) (fun Sg => kt_stream l Sg S2 (S.1 5) 7) (As := [.int (iI (S.1 5)), .int (iI 7)]) (rest := []) rfl ca_X5_stream rfl wm_L_15 wi_X5_stream ws_X5_stream wc_X5_stream ⟨by decide, by decide⟩ (by decide) ⟨by decide, by decide⟩ rfl dL_acts_183 rfl hO_13 ⟨hW2, ⟨by omega, by omega⟩, ⟨by decide, by decide⟩⟩ f7 (fun M_17 hO_16 => ?_)
              refine g_bipush X (z := -6) (by decide +kernel) dL_acts_186 rfl ?_
              refine g_icmp_ne X ⟨by decide, by decide⟩ ⟨by omega, by omega⟩ (tgt := 195) dL_acts_188 (by decide) rfl (fun h_18 => ?_) (fun h_18 => ?_)
              · exfalso
                omega
              · refine g_iconst X (z := 1) dL_acts_191 rfl ?_
                refine g_goto X (n := 196) dL_acts_192 (by decide) ?_
                exact kk _ _ _ S2 dL_acts_196 hO_16 (hPA2.up1 (by omega)) (hKS)
      · exfalso
        omega
  · refine g_bipush X (z := 20) (by decide +kernel) dL_acts_93 rfl ?_
    refine g_goto X (n := 101) dL_acts_95 (by decide) ?_
    refine g_irem X ⟨⟨by omega, by omega⟩, by omega, by omega⟩ dL_acts_101 rfl ?_
    refine g_istore X (lv' := [(5, .int (iI ((x / 1024) % 20))), (4, .int (iI ((x / 16) % 4096))), (0, .ref o), (1, .int (iI x)), (2, .int (iI (S.1 5))), (3, .int (iI i))]) (by decide) rfl dL_acts_102 rfl ?_
    refine g_iconst X (z := 1) dL_acts_104 rfl ?_
    refine g_iload_n X 3 rfl dL_acts_105 rfl ?_
    refine g_bipush X (z := 16) (by decide +kernel) dL_acts_106 rfl ?_
    refine g_ishr X (sh_16 x0 x1) dL_acts_108 rfl ?_
    refine g_sipush X (z := 200) (by decide +kernel) dL_acts_109 rfl ?_
    refine g_irem X ⟨⟨by omega, by omega⟩, by omega, by omega⟩ dL_acts_112 rfl ?_
    refine g_iadd X dL_acts_113 rfl ?_
    refine g_istore X (lv' := [(6, .int (iI (1 + ((x / 65536) % 200)))), (5, .int (iI ((x / 1024) % 20))), (4, .int (iI ((x / 16) % 4096))), (0, .ref o), (1, .int (iI x)), (2, .int (iI (S.1 5))), (3, .int (iI i))]) (by decide) rfl dL_acts_114 rfl ?_
    obtain ⟨a, ha⟩ : ∃ a : Int, a = (x / 16) % 4096 := ⟨_, rfl⟩
    rw [← ha]
    obtain ⟨b, hb⟩ : ∃ b : Int, b = (x / 1024) % 20 := ⟨_, rfl⟩
    rw [← hb]
    obtain ⟨z, hz⟩ : ∃ z : Int, z = 1 + ((x / 65536) % 200) := ⟨_, rfl⟩
    rw [← hz]
    have ok : okAdd a b z := by unfold okAdd; omega
    have ok2 := ok
    unfold okAdd at ok2
    by_cases h4 : S.1 5 = 4
    · refine g_aload_n X 3 rfl dL_acts_116 rfl ?_
      refine g_iload X 2 rfl dL_acts_117 rfl ?_
      refine g_iload X 1 rfl dL_acts_119 rfl ?_
      refine g_iload X 0 rfl dL_acts_121 rfl ?_
      refine k_call X (v := -4) (fun Sg => kt_add l Sg S a b z) (As := [.int (iI a), .int (iI b), .int (iI z)]) (rest := []) rfl ca_X5_add rfl wm_L_25 wi_X5_add ws_X5_add wc_X5_add ⟨by decide, by decide⟩ (by decide) ⟨by decide, by decide⟩ rfl dL_acts_123 rfl hO ⟨hW, ⟨by omega, by omega⟩, ⟨by omega, by omega⟩, ⟨by omega, by omega⟩⟩ (add_full h4 ok).1 (fun M_20 hO_19 => ?_)
      rw [(add_full h4 ok).2] at hO_19
      refine g_istore X (lv' := [(7, .int (iI (-4))), (6, .int (iI z)), (5, .int (iI b)), (4, .int (iI a)), (0, .ref o), (1, .int (iI x)), (2, .int (iI (S.1 5))), (3, .int (iI i))]) (by decide) rfl dL_acts_126 rfl ?_
      refine g_iload_n X 6 rfl dL_acts_128 rfl ?_
      refine g_iconst X (z := 4) dL_acts_129 rfl ?_
      refine g_icmp_ne X ⟨by omega, by omega⟩ ⟨by decide, by decide⟩ (tgt := 148) dL_acts_130 (by decide) rfl (fun h_21 => ?_) (fun h_21 => ?_)
      · exfalso
        omega
      · refine g_iload X 0 rfl dL_acts_133 rfl ?_
        refine g_bipush X (z := -4) (by decide +kernel) dL_acts_135 rfl ?_
        refine g_icmp_ne X ⟨by decide, by decide⟩ ⟨by omega, by omega⟩ (tgt := 144) dL_acts_137 (by decide) rfl (fun h_22 => ?_) (fun h_22 => ?_)
        · exfalso
          omega
        · refine g_iconst X (z := 1) dL_acts_140 rfl ?_
          refine g_goto X (n := 196) dL_acts_141 (by decide) ?_
          exact kk _ _ _ S dL_acts_196 hO_19 (hPA.up1 (by omega)) (KS.rf S)
    · refine g_aload_n X 3 rfl dL_acts_116 rfl ?_
      refine g_iload X 2 rfl dL_acts_117 rfl ?_
      refine g_iload X 1 rfl dL_acts_119 rfl ?_
      refine g_iload X 0 rfl dL_acts_121 rfl ?_
      refine k_call X (v := S.1 5) (fun Sg => kt_add l Sg S a b z) (As := [.int (iI a), .int (iI b), .int (iI z)]) (rest := []) rfl ca_X5_add rfl wm_L_25 wi_X5_add ws_X5_add wc_X5_add ⟨by decide, by decide⟩ (by decide) ⟨by decide, by decide⟩ rfl dL_acts_123 rfl hO ⟨hW, ⟨by omega, by omega⟩, ⟨by omega, by omega⟩, ⟨by omega, by omega⟩⟩ (act_add hPA h4 ok rfl).1 (fun M_24 hO_23 => ?_)
      obtain ⟨S2, hS2⟩ : ∃ S2 : AS, S2 = opAdd S a b z := ⟨_, rfl⟩
      rw [← hS2] at hO_23
      obtain ⟨-, hPA2, hKS, f3, f4, f7⟩ := act_add hPA h4 ok hS2
      have hW2 := hPA2.1
      refine g_istore X (lv' := [(7, .int (iI (S.1 5))), (6, .int (iI z)), (5, .int (iI b)), (4, .int (iI a)), (0, .ref o), (1, .int (iI x)), (2, .int (iI (S.1 5))), (3, .int (iI i))]) (by decide) rfl dL_acts_126 rfl ?_
      refine g_iload_n X 6 rfl dL_acts_128 rfl ?_
      refine g_iconst X (z := 4) dL_acts_129 rfl ?_
      refine g_icmp_ne X ⟨by omega, by omega⟩ ⟨by decide, by decide⟩ (tgt := 148) dL_acts_130 (by decide) rfl (fun h_25 => ?_) (fun h_25 => ?_)
      · refine g_iload X 0 rfl dL_acts_148 rfl ?_
        refine g_iload_n X 6 rfl dL_acts_150 rfl ?_
        refine g_icmp_ne X ⟨by omega, by omega⟩ ⟨by omega, by omega⟩ (tgt := 195) dL_acts_151 (by decide) rfl (fun h_26 => ?_) (fun h_26 => ?_)
        · exfalso
          omega
        · refine g_aload_n X 4 rfl dL_acts_154 rfl ?_
          refine g_iload X 0 rfl dL_acts_155 rfl ?_
          refine g_iconst X (z := 3) dL_acts_157 rfl ?_
          refine k_call X (v := z) (fun Sg => kt_stream l Sg S2 (S.1 5) 3) (As := [.int (iI (S.1 5)), .int (iI 3)]) (rest := []) rfl ca_X5_stream rfl wm_L_15 wi_X5_stream ws_X5_stream wc_X5_stream ⟨by decide, by decide⟩ (by decide) ⟨by decide, by decide⟩ rfl dL_acts_158 rfl hO_23 ⟨hW2, ⟨by omega, by omega⟩, ⟨by decide, by decide⟩⟩ f3 (fun M_28 hO_27 => ?_)
          refine g_iload X 1 rfl dL_acts_161 rfl ?_
          refine g_icmp_ne X ⟨by omega, by omega⟩ ⟨by omega, by omega⟩ (tgt := 195) dL_acts_163 (by decide) rfl (fun h_29 => ?_) (fun h_29 => ?_)
          · exfalso
            omega
          · refine g_aload_n X 4 rfl dL_acts_166 rfl ?_
            refine g_iload X 0 rfl dL_acts_167 rfl ?_
            refine g_iconst X (z := 4) dL_acts_169 rfl ?_
            refine k_call X (v := a) (fun Sg => kt_stream l Sg S2 (S.1 5) 4) (As := [.int (iI (S.1 5)), .int (iI 4)]) (rest := []) rfl ca_X5_stream rfl wm_L_15 wi_X5_stream ws_X5_stream wc_X5_stream ⟨by decide, by decide⟩ (by decide) ⟨by decide, by decide⟩ rfl dL_acts_170 rfl hO_27 ⟨hW2, ⟨by omega, by omega⟩, ⟨by decide, by decide⟩⟩ f4 (fun M_31 hO_30 => ?_)
            refine g_iload X 3 rfl dL_acts_173 rfl ?_
            refine g_icmp_ne X ⟨by omega, by omega⟩ ⟨by omega, by omega⟩ (tgt := 195) dL_acts_175 (by decide) rfl (fun h_32 => ?_) (fun h_32 => ?_)
            · exfalso
              omega
            · refine g_aload_n X 4 rfl dL_acts_178 rfl ?_
              refine g_iload X 0 rfl dL_acts_179 rfl ?_
              refine g_bipush X (z := 7) (by decide +kernel) dL_acts_181 rfl ?_
              refine k_call X (v := -6) (fun Sg => kt_stream l Sg S2 (S.1 5) 7) (As := [.int (iI (S.1 5)), .int (iI 7)]) (rest := []) rfl ca_X5_stream rfl wm_L_15 wi_X5_stream ws_X5_stream wc_X5_stream ⟨by decide, by decide⟩ (by decide) ⟨by decide, by decide⟩ rfl dL_acts_183 rfl hO_30 ⟨hW2, ⟨by omega, by omega⟩, ⟨by decide, by decide⟩⟩ f7 (fun M_34 hO_33 => ?_)
              refine g_bipush X (z := -6) (by decide +kernel) dL_acts_186 rfl ?_
              refine g_icmp_ne X ⟨by decide, by decide⟩ ⟨by omega, by omega⟩ (tgt := 195) dL_acts_188 (by decide) rfl (fun h_35 => ?_) (fun h_35 => ?_)
              · exfalso
                omega
              · refine g_iconst X (z := 1) dL_acts_191 rfl ?_
                refine g_goto X (n := 196) dL_acts_192 (by decide) ?_
                exact kk _ _ _ S2 dL_acts_196 hO_33 (hPA2.up1 (by omega)) (hKS)
      · exfalso
        omega
set_option maxRecDepth 100000 in
set_option maxHeartbeats 4000000 in
theorem acts_197 {p : Program} {l : Launch} {e : Env} {s : State} {m : MethodId} {args : Array Value} {below : List Frame} {meth : Method} {c : Code} {D : va_G} {ca : Nat → ClassId} {A : Nat → Prop} {Q : State → Prop} {L : List Nat} {M : Mem} (X : Fx p s m args meth c D ca A 27 cL_acts RL) {o : Nat} {S : AS} {T x i : Int} (hO : OB ca L M o S) (hPA : PA T S) (hT : 0 ≤ T ∧ T ≤ 90000) (x0 : 0 ≤ x) (x1 : x < 2147483648) (hi : (S.1 5 = 0 ∧ i = 0) ∨ (0 ≤ i ∧ i < S.1 5)) (kk : ∀ (pc2 : Nat) (lv2 : List (Nat × Value)) (M2 : Mem) (S2 : AS), decode cL_acts pc2 = .ok (.ireturn, 1) → OB ca L M2 o S2 → PA (T + 60) S2 → KS S S2 → G p l e (Rm 8 0 0) s m args below meth c D A 27 Q 0 0 L M2 pc2 lv2 [.int (iI 1)]) : G p l e (Rm 8 0 0) s m args below meth c D A 27 Q 0 0 L M 197 [(0, .ref o), (1, .int (iI x)), (2, .int (iI (S.1 5))), (3, .int (iI i))] [] := by
  have hW := hPA.1
  have hI := hPA.I
  obtain ⟨⟨s00, s01⟩, ⟨s10, s11⟩, ⟨s20, s21⟩, ⟨s30, s31⟩, ⟨s40, s41⟩, s50, s51⟩ := id hPA.S
  have hpr := tGP_rng s00 s01
  have hof := of_rng hPA
  refine g_iconst X (z := 1) dL_acts_197 rfl ?_
  refine g_iload_n X 1 rfl dL_acts_198 rfl ?_
  refine g_iconst X (z := 4) dL_acts_199 rfl ?_
  refine g_ishr X (sh_4 x0 x1) dL_acts_200 rfl ?_
  refine g_bipush X (z := 60) (by decide +kernel) dL_acts_201 rfl ?_
  refine g_irem X ⟨⟨by omega, by omega⟩, by omega, by omega⟩ dL_acts_203 rfl ?_
  refine g_iadd X dL_acts_204 rfl ?_
  refine g_istore X (lv' := [(8, .int (iI (1 + ((x / 16) % 60)))), (0, .ref o), (1, .int (iI x)), (2, .int (iI (S.1 5))), (3, .int (iI i))]) (by decide) rfl dL_acts_205 rfl ?_
  obtain ⟨v, hv⟩ : ∃ v : Int, v = 1 + ((x / 16) % 60) := ⟨_, rfl⟩
  rw [← hv]
  have hv2 : 1 ≤ v ∧ v ≤ 60 := by omega
  have hv3 : 1 ≤ v ∧ v ≤ 500 := by omega
  have hTv : T + v ≤ 99999 := by omega
  obtain ⟨t, ht⟩ : ∃ t : Int, t = itR S.1 v.toNat := ⟨_, rfl⟩
  have hm := mul_rng (a := v) (b := S.1 5) (by omega) (by omega)
  refine g_aload_n X 1 rfl dL_acts_207 rfl ?_
  refine g_iconst X (z := 4) dL_acts_208 rfl ?_
  refine k_call X (v := S.1 4) (fun Sg => kt_count l Sg S 4) (As := [.int (iI 4)]) (rest := []) rfl ca_X5_count rfl wm_L_9 wi_X5_count ws_X5_count wc_X5_count ⟨by decide, by decide⟩ (by decide) ⟨by decide, by decide⟩ rfl dL_acts_209 rfl hO ⟨hW, ⟨by decide, by decide⟩⟩ (c_low S (by decide)) (fun M_2 hO_1 => ?_)
  refine g_istore X (lv' := [(9, .int (iI (S.1 4))), (8, .int (iI v)), (0, .ref o), (1, .int (iI x)), (2, .int (iI (S.1 5))), (3, .int (iI i))]) (by decide) rfl dL_acts_212 rfl ?_
  refine g_aload_n X 2 rfl dL_acts_214 rfl ?_
  refine g_bipush X (z := 7) (by decide +kernel) dL_acts_215 rfl ?_
  refine k_call X (v := ofG S.1 7) (fun Sg => kt_count l Sg S 7) (As := [.int (iI 7)]) (rest := []) rfl ca_X5_count rfl wm_L_9 wi_X5_count ws_X5_count wc_X5_count ⟨by decide, by decide⟩ (by decide) ⟨by decide, by decide⟩ rfl dL_acts_217 rfl hO_1 ⟨hW, ⟨by decide, by decide⟩⟩ (c_79 S (by decide)) (fun M_4 hO_3 => ?_)
  refine g_istore X (lv' := [(10, .int (iI (ofG S.1 7))), (9, .int (iI (S.1 4))), (8, .int (iI v)), (0, .ref o), (1, .int (iI x)), (2, .int (iI (S.1 5))), (3, .int (iI i))]) (by decide) rfl dL_acts_220 rfl ?_
  refine g_aload_n X 3 rfl dL_acts_222 rfl ?_
  refine g_iload X 2 rfl dL_acts_223 rfl ?_
  refine k_call X (v := t) (fun Sg => kt_run l Sg S v) (As := [.int (iI v)]) (rest := []) rfl ca_X5_run rfl wm_L_29 wi_X5_run ws_X5_run wc_X5_run ⟨by decide, by decide⟩ (by decide) ⟨by decide, by decide⟩ rfl dL_acts_225 rfl hO_3 ⟨hW, ⟨by omega, by omega⟩⟩ ((act_run hPA hv3 hTv rfl).1.trans ht.symm) (fun M_6 hO_5 => ?_)
  obtain ⟨S2, hS2⟩ : ∃ S2 : AS, S2 = opRun S v := ⟨_, rfl⟩
  rw [← hS2] at hO_5
  obtain ⟨-, hPA2, hKS, e4, e5, e7, er, -, -, -⟩ := act_run hPA hv3 hTv hS2
  rw [← ht] at e7 er
  have hW2 := hPA2.1
  refine g_istore X (lv' := [(11, .int (iI t)), (10, .int (iI (ofG S.1 7))), (9, .int (iI (S.1 4))), (8, .int (iI v)), (0, .ref o), (1, .int (iI x)), (2, .int (iI (S.1 5))), (3, .int (iI i))]) (by decide) rfl dL_acts_228 rfl ?_
  refine g_iload X 0 rfl dL_acts_230 rfl ?_
  refine g_aload_n X 4 rfl dL_acts_232 rfl ?_
  refine g_bipush X (z := 7) (by decide +kernel) dL_acts_233 rfl ?_
  refine k_call X (v := ofG S.1 7 + t) (fun Sg => kt_count l Sg S2 7) (As := [.int (iI 7)]) (rest := [.int (iI t)]) rfl ca_X5_count rfl wm_L_9 wi_X5_count ws_X5_count wc_X5_count ⟨by decide, by decide⟩ (Nat.le_of_ble_eq_true rfl) ⟨by decide, by decide⟩ rfl dL_acts_235 rfl hO_5 ⟨hW2, ⟨by decide, by decide⟩⟩ ((c_79 S2 (by decide)).trans e7) (fun M_8 hO_7 => ?_)
  refine g_iload X 1 rfl dL_acts_238 rfl ?_
  refine g_isub X dL_acts_240 rfl ?_
  refine g_icmp_ne X ⟨by omega, by omega⟩ ⟨by omega, by omega⟩ (tgt := 270) dL_acts_241 (by decide) rfl (fun h_9 => ?_) (fun h_9 => ?_)
  · exfalso
    omega
  · refine g_aload_n X 4 rfl dL_acts_244 rfl ?_
    refine g_iconst X (z := 4) dL_acts_245 rfl ?_
    refine k_call X (v := S.1 4 + v) (fun Sg => kt_count l Sg S2 4) (As := [.int (iI 4)]) (rest := []) rfl ca_X5_count rfl wm_L_9 wi_X5_count ws_X5_count wc_X5_count ⟨by decide, by decide⟩ (by decide) ⟨by decide, by decide⟩ rfl dL_acts_246 rfl hO_7 ⟨hW2, ⟨by decide, by decide⟩⟩ ((c_low S2 (by decide)).trans e4) (fun M_11 hO_10 => ?_)
    refine g_iload X 2 rfl dL_acts_249 rfl ?_
    refine g_iload X 3 rfl dL_acts_251 rfl ?_
    refine g_iadd X dL_acts_253 rfl ?_
    refine g_icmp_ne X ⟨by omega, by omega⟩ ⟨by omega, by omega⟩ (tgt := 270) dL_acts_254 (by decide) rfl (fun h_12 => ?_) (fun h_12 => ?_)
    · exfalso
      omega
    · refine g_iload X 0 rfl dL_acts_257 rfl ?_
      refine g_iload X 3 rfl dL_acts_259 rfl ?_
      refine g_iload_n X 6 rfl dL_acts_261 rfl ?_
      refine g_imul X dL_acts_262 rfl ?_
      refine g_icmp_gt X ⟨by omega, by omega⟩ ⟨by omega, by omega⟩ (tgt := 270) dL_acts_263 (by decide) rfl (fun h_13 => ?_) (fun h_13 => ?_)
      · exfalso
        omega
      · refine g_iconst X (z := 1) dL_acts_266 rfl ?_
        refine g_goto X (n := 271) dL_acts_267 (by decide) ?_
        exact kk _ _ _ S2 dL_acts_271 hO_10 (hPA2.up1 (by omega)) (hKS)
set_option maxRecDepth 100000 in
set_option maxHeartbeats 4000000 in
theorem acts_272 {p : Program} {l : Launch} {e : Env} {s : State} {m : MethodId} {args : Array Value} {below : List Frame} {meth : Method} {c : Code} {D : va_G} {ca : Nat → ClassId} {A : Nat → Prop} {Q : State → Prop} {L : List Nat} {M : Mem} (X : Fx p s m args meth c D ca A 27 cL_acts RL) {o : Nat} {S : AS} {T x i : Int} (hO : OB ca L M o S) (hPA : PA T S) (hT : 0 ≤ T ∧ T ≤ 90000) (x0 : 0 ≤ x) (x1 : x < 2147483648) (hi : (S.1 5 = 0 ∧ i = 0) ∨ (0 ≤ i ∧ i < S.1 5)) (kk : ∀ (pc2 : Nat) (lv2 : List (Nat × Value)) (M2 : Mem) (S2 : AS), decode cL_acts pc2 = .ok (.ireturn, 1) → OB ca L M2 o S2 → PA (T + 60) S2 → KS S S2 → G p l e (Rm 8 0 0) s m args below meth c D A 27 Q 0 0 L M2 pc2 lv2 [.int (iI 1)]) : G p l e (Rm 8 0 0) s m args below meth c D A 27 Q 0 0 L M 272 [(0, .ref o), (1, .int (iI x)), (2, .int (iI (S.1 5))), (3, .int (iI i))] [] := by
  have hW := hPA.1
  have hI := hPA.I
  obtain ⟨⟨s00, s01⟩, ⟨s10, s11⟩, ⟨s20, s21⟩, ⟨s30, s31⟩, ⟨s40, s41⟩, s50, s51⟩ := id hPA.S
  have hpr := tGP_rng s00 s01
  have hof := of_rng hPA
  by_cases h5 : S.1 5 = 0
  · refine g_aload_n X 0 rfl dL_acts_272 rfl ?_
    refine g_iload_n X 3 rfl dL_acts_273 rfl ?_
    refine g_iconst X (z := 3) dL_acts_274 rfl ?_
    refine k_call X (v := -1) (fun Sg => kt_stream l Sg S i 3) (As := [.int (iI i), .int (iI 3)]) (rest := []) rfl ca_X5_stream rfl wm_L_15 wi_X5_stream ws_X5_stream wc_X5_stream ⟨by decide, by decide⟩ (by decide) ⟨by decide, by decide⟩ rfl dL_acts_275 rfl hO ⟨hW, ⟨by omega, by omega⟩, ⟨by decide, by decide⟩⟩ (s_no S (by omega)) (fun M_2 hO_1 => ?_)
    refine g_istore X (lv' := [(12, .int (iI (-1))), (0, .ref o), (1, .int (iI x)), (2, .int (iI (S.1 5))), (3, .int (iI i))]) (by decide) rfl dL_acts_278 rfl ?_
    refine g_aload_n X 1 rfl dL_acts_280 rfl ?_
    refine g_bipush X (z := 9) (by decide +kernel) dL_acts_281 rfl ?_
    refine k_call X (v := ofG S.1 9) (fun Sg => kt_count l Sg S 9) (As := [.int (iI 9)]) (rest := []) rfl ca_X5_count rfl wm_L_9 wi_X5_count ws_X5_count wc_X5_count ⟨by decide, by decide⟩ (by decide) ⟨by decide, by decide⟩ rfl dL_acts_283 rfl hO_1 ⟨hW, ⟨by decide, by decide⟩⟩ (c_79 S (by decide)) (fun M_4 hO_3 => ?_)
    refine g_istore X (lv' := [(13, .int (iI (ofG S.1 9))), (12, .int (iI (-1))), (0, .ref o), (1, .int (iI x)), (2, .int (iI (S.1 5))), (3, .int (iI i))]) (by decide) rfl dL_acts_286 rfl ?_
    refine g_aload_n X 2 rfl dL_acts_288 rfl ?_
    refine g_iload_n X 5 rfl dL_acts_289 rfl ?_
    refine k_call X (v := -1) (fun Sg => kt_drop l Sg S i) (As := [.int (iI i)]) (rest := []) rfl ca_X5_drop rfl wm_L_32 wi_X5_drop ws_X5_drop wc_X5_drop ⟨by decide, by decide⟩ (by decide) ⟨by decide, by decide⟩ rfl dL_acts_290 rfl hO_3 ⟨hW, ⟨by omega, by omega⟩⟩ (drop_no (by omega)).1 (fun M_6 hO_5 => ?_)
    rw [(drop_no (S := S) (i := i) (by omega)).2] at hO_5
    refine g_istore X (lv' := [(14, .int (iI (-1))), (13, .int (iI (ofG S.1 9))), (12, .int (iI (-1))), (0, .ref o), (1, .int (iI x)), (2, .int (iI (S.1 5))), (3, .int (iI i))]) (by decide) rfl dL_acts_293 rfl ?_
    refine g_iload_n X 5 rfl dL_acts_295 rfl ?_
    refine g_if_ne X ⟨by omega, by omega⟩ (tgt := 313) dL_acts_296 (by decide) rfl (fun h_7 => ?_) (fun h_7 => ?_)
    · exfalso
      omega
    · refine g_iload X 0 rfl dL_acts_299 rfl ?_
      refine g_iconst X (z := -1) dL_acts_301 rfl ?_
      refine g_icmp_ne X ⟨by decide, by decide⟩ ⟨by omega, by omega⟩ (tgt := 309) dL_acts_302 (by decide) rfl (fun h_8 => ?_) (fun h_8 => ?_)
      · exfalso
        omega
      · refine g_iconst X (z := 1) dL_acts_305 rfl ?_
        refine g_goto X (n := 347) dL_acts_306 (by decide) ?_
        exact kk _ _ _ S dL_acts_347 hO_5 (hPA.up1 (by omega)) (KS.rf S)
  · have hj : 0 ≤ i ∧ i < S.1 5 := by omega
    have hr := (sums_row hPA hj.1 hj.2).1
    refine g_aload_n X 0 rfl dL_acts_272 rfl ?_
    refine g_iload_n X 3 rfl dL_acts_273 rfl ?_
    refine g_iconst X (z := 3) dL_acts_274 rfl ?_
    refine k_call X (v := anStream S i 3) (fun Sg => kt_stream l Sg S i 3) (As := [.int (iI i), .int (iI 3)]) (rest := []) rfl ca_X5_stream rfl wm_L_15 wi_X5_stream ws_X5_stream wc_X5_stream ⟨by decide, by decide⟩ (by decide) ⟨by decide, by decide⟩ rfl dL_acts_275 rfl hO ⟨hW, ⟨by omega, by omega⟩, ⟨by decide, by decide⟩⟩ rfl (fun M_2 hO_1 => ?_)
    refine g_istore X (lv' := [(12, .int (iI (anStream S i 3))), (0, .ref o), (1, .int (iI x)), (2, .int (iI (S.1 5))), (3, .int (iI i))]) (by decide) rfl dL_acts_278 rfl ?_
    refine g_aload_n X 1 rfl dL_acts_280 rfl ?_
    refine g_bipush X (z := 9) (by decide +kernel) dL_acts_281 rfl ?_
    refine k_call X (v := ofG S.1 9) (fun Sg => kt_count l Sg S 9) (As := [.int (iI 9)]) (rest := []) rfl ca_X5_count rfl wm_L_9 wi_X5_count ws_X5_count wc_X5_count ⟨by decide, by decide⟩ (by decide) ⟨by decide, by decide⟩ rfl dL_acts_283 rfl hO_1 ⟨hW, ⟨by decide, by decide⟩⟩ (c_79 S (by decide)) (fun M_4 hO_3 => ?_)
    refine g_istore X (lv' := [(13, .int (iI (ofG S.1 9))), (12, .int (iI (anStream S i 3))), (0, .ref o), (1, .int (iI x)), (2, .int (iI (S.1 5))), (3, .int (iI i))]) (by decide) rfl dL_acts_286 rfl ?_
    refine g_aload_n X 2 rfl dL_acts_288 rfl ?_
    refine g_iload_n X 5 rfl dL_acts_289 rfl ?_
    refine k_call X (v := anStream S i 3) (fun Sg => kt_drop l Sg S i) (As := [.int (iI i)]) (rest := []) rfl ca_X5_drop rfl wm_L_32 wi_X5_drop ws_X5_drop wc_X5_drop ⟨by decide, by decide⟩ (by decide) ⟨by decide, by decide⟩ rfl dL_acts_290 rfl hO_3 ⟨hW, ⟨by omega, by omega⟩⟩ (act_drop hPA hj rfl).1 (fun M_6 hO_5 => ?_)
    obtain ⟨S2, hS2⟩ : ∃ S2 : AS, S2 = opDrop S i := ⟨_, rfl⟩
    rw [← hS2] at hO_5
    obtain ⟨-, hPA2, hKS, e5, e9⟩ := act_drop hPA hj hS2
    have hof2 := of_rng hPA2
    have hW2 := hPA2.1
    refine g_istore X (lv' := [(14, .int (iI (anStream S i 3))), (13, .int (iI (ofG S.1 9))), (12, .int (iI (anStream S i 3))), (0, .ref o), (1, .int (iI x)), (2, .int (iI (S.1 5))), (3, .int (iI i))]) (by decide) rfl dL_acts_293 rfl ?_
    refine g_iload_n X 5 rfl dL_acts_295 rfl ?_
    refine g_if_ne X ⟨by omega, by omega⟩ (tgt := 313) dL_acts_296 (by decide) rfl (fun h_7 => ?_) (fun h_7 => ?_)
    · refine g_iload X 0 rfl dL_acts_313 rfl ?_
      refine g_iload X 2 rfl dL_acts_315 rfl ?_
      refine g_icmp_ne X ⟨by omega, by omega⟩ ⟨by omega, by omega⟩ (tgt := 346) dL_acts_317 (by decide) rfl (fun h_8 => ?_) (fun h_8 => ?_)
      · exfalso
        omega
      · refine g_aload_n X 3 rfl dL_acts_320 rfl ?_
        refine g_iconst X (z := 5) dL_acts_321 rfl ?_
        refine k_call X (v := S2.1 5) (fun Sg => kt_count l Sg S2 5) (As := [.int (iI 5)]) (rest := []) rfl ca_X5_count rfl wm_L_9 wi_X5_count ws_X5_count wc_X5_count ⟨by decide, by decide⟩ (by decide) ⟨by decide, by decide⟩ rfl dL_acts_322 rfl hO_5 ⟨hW2, ⟨by decide, by decide⟩⟩ (c_low S2 (by decide)) (fun M_10 hO_9 => ?_)
        refine g_iload_n X 5 rfl dL_acts_325 rfl ?_
        refine g_iconst X (z := 1) dL_acts_326 rfl ?_
        refine g_isub X dL_acts_327 rfl ?_
        refine g_icmp_ne X ⟨by omega, by omega⟩ ⟨by omega, by omega⟩ (tgt := 346) dL_acts_328 (by decide) rfl (fun h_11 => ?_) (fun h_11 => ?_)
        · exfalso
          omega
        · refine g_aload_n X 3 rfl dL_acts_331 rfl ?_
          refine g_bipush X (z := 9) (by decide +kernel) dL_acts_332 rfl ?_
          refine k_call X (v := ofG S2.1 9) (fun Sg => kt_count l Sg S2 9) (As := [.int (iI 9)]) (rest := []) rfl ca_X5_count rfl wm_L_9 wi_X5_count ws_X5_count wc_X5_count ⟨by decide, by decide⟩ (by decide) ⟨by decide, by decide⟩ rfl dL_acts_334 rfl hO_9 ⟨hW2, ⟨by decide, by decide⟩⟩ (c_79 S2 (by decide)) (fun M_13 hO_12 => ?_)
          refine g_iload X 1 rfl dL_acts_337 rfl ?_
          refine g_icmp_gt X ⟨by omega, by omega⟩ ⟨by omega, by omega⟩ (tgt := 346) dL_acts_339 (by decide) rfl (fun h_14 => ?_) (fun h_14 => ?_)
          · exfalso
            omega
          · refine g_iconst X (z := 1) dL_acts_342 rfl ?_
            refine g_goto X (n := 347) dL_acts_343 (by decide) ?_
            exact kk _ _ _ S2 dL_acts_347 hO_12 (hPA2.up1 (by omega)) (hKS)
    · exfalso
      omega
set_option maxRecDepth 100000 in
set_option maxHeartbeats 4000000 in
theorem acts_348 {p : Program} {l : Launch} {e : Env} {s : State} {m : MethodId} {args : Array Value} {below : List Frame} {meth : Method} {c : Code} {D : va_G} {ca : Nat → ClassId} {A : Nat → Prop} {Q : State → Prop} {L : List Nat} {M : Mem} (X : Fx p s m args meth c D ca A 27 cL_acts RL) {o : Nat} {S : AS} {T x i : Int} (hO : OB ca L M o S) (hPA : PA T S) (hT : 0 ≤ T ∧ T ≤ 90000) (x0 : 0 ≤ x) (x1 : x < 2147483648) (hi : (S.1 5 = 0 ∧ i = 0) ∨ (0 ≤ i ∧ i < S.1 5)) (kk : ∀ (pc2 : Nat) (lv2 : List (Nat × Value)) (M2 : Mem) (S2 : AS), decode cL_acts pc2 = .ok (.ireturn, 1) → OB ca L M2 o S2 → PA (T + 60) S2 → KS S S2 → G p l e (Rm 8 0 0) s m args below meth c D A 27 Q 0 0 L M2 pc2 lv2 [.int (iI 1)]) : G p l e (Rm 8 0 0) s m args below meth c D A 27 Q 0 0 L M 348 [(0, .ref o), (1, .int (iI x)), (2, .int (iI (S.1 5))), (3, .int (iI i))] [] := by
  have hW := hPA.1
  have hI := hPA.I
  obtain ⟨⟨s00, s01⟩, ⟨s10, s11⟩, ⟨s20, s21⟩, ⟨s30, s31⟩, ⟨s40, s41⟩, s50, s51⟩ := id hPA.S
  have hpr := tGP_rng s00 s01
  have hof := of_rng hPA
  by_cases h5 : S.1 5 = 0
  · refine g_iload_n X 1 rfl dL_acts_348 rfl ?_
    refine g_bipush X (z := 10) (by decide +kernel) dL_acts_349 rfl ?_
    refine g_ishr X (sh_10 x0 x1) dL_acts_351 rfl ?_
    refine g_sipush X (z := 1024) (by decide +kernel) dL_acts_352 rfl ?_
    refine g_irem X ⟨⟨by omega, by omega⟩, by omega, by omega⟩ dL_acts_355 rfl ?_
    refine g_istore X (lv' := [(15, .int (iI ((x / 1024) % 1024))), (0, .ref o), (1, .int (iI x)), (2, .int (iI (S.1 5))), (3, .int (iI i))]) (by decide) rfl dL_acts_356 rfl ?_
    obtain ⟨v, hv⟩ : ∃ v : Int, v = (x / 1024) % 1024 := ⟨_, rfl⟩
    rw [← hv]
    have hv2 : 0 ≤ v ∧ v ≤ 1023 := by omega
    refine g_aload_n X 1 rfl dL_acts_358 rfl ?_
    refine g_iload_n X 4 rfl dL_acts_359 rfl ?_
    refine g_iconst X (z := 1) dL_acts_360 rfl ?_
    refine k_call X (v := -1) (fun Sg => kt_stream l Sg S i 1) (As := [.int (iI i), .int (iI 1)]) (rest := []) rfl ca_X5_stream rfl wm_L_15 wi_X5_stream ws_X5_stream wc_X5_stream ⟨by decide, by decide⟩ (by decide) ⟨by decide, by decide⟩ rfl dL_acts_361 rfl hO ⟨hW, ⟨by omega, by omega⟩, ⟨by decide, by decide⟩⟩ (s_no S (by omega)) (fun M_2 hO_1 => ?_)
    refine g_istore X (lv' := [(16, .int (iI (-1))), (15, .int (iI v)), (0, .ref o), (1, .int (iI x)), (2, .int (iI (S.1 5))), (3, .int (iI i))]) (by decide) rfl dL_acts_364 rfl ?_
    refine g_aload_n X 2 rfl dL_acts_366 rfl ?_
    refine g_iload_n X 5 rfl dL_acts_367 rfl ?_
    refine g_iconst X (z := 4) dL_acts_368 rfl ?_
    refine k_call X (v := -1) (fun Sg => kt_stream l Sg S i 4) (As := [.int (iI i), .int (iI 4)]) (rest := []) rfl ca_X5_stream rfl wm_L_15 wi_X5_stream ws_X5_stream wc_X5_stream ⟨by decide, by decide⟩ (by decide) ⟨by decide, by decide⟩ rfl dL_acts_369 rfl hO_1 ⟨hW, ⟨by omega, by omega⟩, ⟨by decide, by decide⟩⟩ (s_no S (by omega)) (fun M_4 hO_3 => ?_)
    refine g_istore X (lv' := [(17, .int (iI (-1))), (16, .int (iI (-1))), (15, .int (iI v)), (0, .ref o), (1, .int (iI x)), (2, .int (iI (S.1 5))), (3, .int (iI i))]) (by decide) rfl dL_acts_372 rfl ?_
    refine g_aload_n X 3 rfl dL_acts_374 rfl ?_
    refine g_iload_n X 6 rfl dL_acts_375 rfl ?_
    refine g_iconst X (z := 3) dL_acts_376 rfl ?_
    refine k_call X (v := -1) (fun Sg => kt_stream l Sg S i 3) (As := [.int (iI i), .int (iI 3)]) (rest := []) rfl ca_X5_stream rfl wm_L_15 wi_X5_stream ws_X5_stream wc_X5_stream ⟨by decide, by decide⟩ (by decide) ⟨by decide, by decide⟩ rfl dL_acts_377 rfl hO_3 ⟨hW, ⟨by omega, by omega⟩, ⟨by decide, by decide⟩⟩ (s_no S (by omega)) (fun M_6 hO_5 => ?_)
    refine g_istore X (lv' := [(18, .int (iI (-1))), (17, .int (iI (-1))), (16, .int (iI (-1))), (15, .int (iI v)), (0, .ref o), (1, .int (iI x)), (2, .int (iI (S.1 5))), (3, .int (iI i))]) (by decide) rfl dL_acts_380 rfl ?_
    refine g_iload X 0 rfl dL_acts_382 rfl ?_
    refine g_aload_n X 4 rfl dL_acts_384 rfl ?_
    refine g_iload_n X 7 rfl dL_acts_385 rfl ?_
    refine g_iconst X (z := 2) dL_acts_386 rfl ?_
    refine k_call X (v := -1) (fun Sg => kt_stream l Sg S i 2) (As := [.int (iI i), .int (iI 2)]) (rest := [.int (iI (-1))]) rfl ca_X5_stream rfl wm_L_15 wi_X5_stream ws_X5_stream wc_X5_stream ⟨by decide, by decide⟩ (Nat.le_of_ble_eq_true rfl) ⟨by decide, by decide⟩ rfl dL_acts_387 rfl hO_5 ⟨hW, ⟨by omega, by omega⟩, ⟨by decide, by decide⟩⟩ (s_no S (by omega)) (fun M_8 hO_7 => ?_)
    refine g_dia X (n := 393) (tgt := 397) (J := 398) (C0 := -1 ≠ -1) (fun kt kf => g_icmp_ne X ⟨by decide, by decide⟩ ⟨by decide, by decide⟩ (tgt := 397) dL_acts_390 (by decide) rfl kt kf) dL_acts_393 dL_acts_394 (by decide) dL_acts_397 rfl ?_
    refine g_istore X (lv' := [(19, .int (iI (if -1 ≠ -1 then 0 else 1))), (18, .int (iI (-1))), (17, .int (iI (-1))), (16, .int (iI (-1))), (15, .int (iI v)), (0, .ref o), (1, .int (iI x)), (2, .int (iI (S.1 5))), (3, .int (iI i))]) (by decide) rfl dL_acts_398 rfl ?_
    refine g_aload_n X 5 rfl dL_acts_400 rfl ?_
    refine g_iload_n X 8 rfl dL_acts_401 rfl ?_
    refine g_iload X 4 rfl dL_acts_402 rfl ?_
    refine k_call X (v := -1) (fun Sg => kt_stride l Sg S i v) (As := [.int (iI i), .int (iI v)]) (rest := []) rfl ca_X5_stride rfl wm_L_35 wi_X5_stride ws_X5_stride wc_X5_stride ⟨by decide, by decide⟩ (by decide) ⟨by decide, by decide⟩ rfl dL_acts_404 rfl hO_7 ⟨hW, ⟨by omega, by omega⟩, ⟨by omega, by omega⟩⟩ (stride_no (by omega)).1 (fun M_11 hO_10 => ?_)
    rw [(stride_no (S := S) (i := i) (v := v) (by omega)).2] at hO_10
    refine g_istore X (lv' := [(20, .int (iI (-1))), (19, .int (iI (if -1 ≠ -1 then 0 else 1))), (18, .int (iI (-1))), (17, .int (iI (-1))), (16, .int (iI (-1))), (15, .int (iI v)), (0, .ref o), (1, .int (iI x)), (2, .int (iI (S.1 5))), (3, .int (iI i))]) (by decide) rfl dL_acts_407 rfl ?_
    refine g_iload_n X 8 rfl dL_acts_409 rfl ?_
    refine g_if_ne X ⟨by omega, by omega⟩ (tgt := 427) dL_acts_410 (by decide) rfl (fun h_12 => ?_) (fun h_12 => ?_)
    · exfalso
      omega
    · refine g_iload X 0 rfl dL_acts_413 rfl ?_
      refine g_iconst X (z := -1) dL_acts_415 rfl ?_
      refine g_icmp_ne X ⟨by decide, by decide⟩ ⟨by omega, by omega⟩ (tgt := 423) dL_acts_416 (by decide) rfl (fun h_13 => ?_) (fun h_13 => ?_)
      · exfalso
        omega
      · refine g_iconst X (z := 1) dL_acts_419 rfl ?_
        refine g_goto X (n := 504) dL_acts_420 (by decide) ?_
        exact kk _ _ _ S dL_acts_504 hO_10 (hPA.up1 (by omega)) (KS.rf S)
  · refine g_iload_n X 1 rfl dL_acts_348 rfl ?_
    refine g_bipush X (z := 10) (by decide +kernel) dL_acts_349 rfl ?_
    refine g_ishr X (sh_10 x0 x1) dL_acts_351 rfl ?_
    refine g_sipush X (z := 1024) (by decide +kernel) dL_acts_352 rfl ?_
    refine g_irem X ⟨⟨by omega, by omega⟩, by omega, by omega⟩ dL_acts_355 rfl ?_
    refine g_istore X (lv' := [(15, .int (iI ((x / 1024) % 1024))), (0, .ref o), (1, .int (iI x)), (2, .int (iI (S.1 5))), (3, .int (iI i))]) (by decide) rfl dL_acts_356 rfl ?_
    obtain ⟨v, hv⟩ : ∃ v : Int, v = (x / 1024) % 1024 := ⟨_, rfl⟩
    rw [← hv]
    have hv2 : 0 ≤ v ∧ v ≤ 1023 := by omega
    have hj : 0 ≤ i ∧ i < S.1 5 := by omega
    obtain ⟨S2, hS2⟩ : ∃ S2 : AS, S2 = opStride S i v := ⟨_, rfl⟩
    obtain ⟨f0, hPA2, hKS, f1, f4z, f4f, f4n, w1, w4, w3, w2, w5⟩ := act_stride hPA hj hv2 hS2
    have hW2 := hPA2.1
    refine g_aload_n X 1 rfl dL_acts_358 rfl ?_
    refine g_iload_n X 4 rfl dL_acts_359 rfl ?_
    refine g_iconst X (z := 1) dL_acts_360 rfl ?_
    refine k_call X (v := anStream S i 1) (fun Sg => kt_stream l Sg S i 1) (As := [.int (iI i), .int (iI 1)]) (rest := []) rfl ca_X5_stream rfl wm_L_15 wi_X5_stream ws_X5_stream wc_X5_stream ⟨by decide, by decide⟩ (by decide) ⟨by decide, by decide⟩ rfl dL_acts_361 rfl hO ⟨hW, ⟨by omega, by omega⟩, ⟨by decide, by decide⟩⟩ rfl (fun M_2 hO_1 => ?_)
    refine g_istore X (lv' := [(16, .int (iI (anStream S i 1))), (15, .int (iI v)), (0, .ref o), (1, .int (iI x)), (2, .int (iI (S.1 5))), (3, .int (iI i))]) (by decide) rfl dL_acts_364 rfl ?_
    refine g_aload_n X 2 rfl dL_acts_366 rfl ?_
    refine g_iload_n X 5 rfl dL_acts_367 rfl ?_
    refine g_iconst X (z := 4) dL_acts_368 rfl ?_
    refine k_call X (v := anStream S i 4) (fun Sg => kt_stream l Sg S i 4) (As := [.int (iI i), .int (iI 4)]) (rest := []) rfl ca_X5_stream rfl wm_L_15 wi_X5_stream ws_X5_stream wc_X5_stream ⟨by decide, by decide⟩ (by decide) ⟨by decide, by decide⟩ rfl dL_acts_369 rfl hO_1 ⟨hW, ⟨by omega, by omega⟩, ⟨by decide, by decide⟩⟩ rfl (fun M_4 hO_3 => ?_)
    refine g_istore X (lv' := [(17, .int (iI (anStream S i 4))), (16, .int (iI (anStream S i 1))), (15, .int (iI v)), (0, .ref o), (1, .int (iI x)), (2, .int (iI (S.1 5))), (3, .int (iI i))]) (by decide) rfl dL_acts_372 rfl ?_
    refine g_aload_n X 3 rfl dL_acts_374 rfl ?_
    refine g_iload_n X 6 rfl dL_acts_375 rfl ?_
    refine g_iconst X (z := 3) dL_acts_376 rfl ?_
    refine k_call X (v := anStream S i 3) (fun Sg => kt_stream l Sg S i 3) (As := [.int (iI i), .int (iI 3)]) (rest := []) rfl ca_X5_stream rfl wm_L_15 wi_X5_stream ws_X5_stream wc_X5_stream ⟨by decide, by decide⟩ (by decide) ⟨by decide, by decide⟩ rfl dL_acts_377 rfl hO_3 ⟨hW, ⟨by omega, by omega⟩, ⟨by decide, by decide⟩⟩ rfl (fun M_6 hO_5 => ?_)
    refine g_istore X (lv' := [(18, .int (iI (anStream S i 3))), (17, .int (iI (anStream S i 4))), (16, .int (iI (anStream S i 1))), (15, .int (iI v)), (0, .ref o), (1, .int (iI x)), (2, .int (iI (S.1 5))), (3, .int (iI i))]) (by decide) rfl dL_acts_380 rfl ?_
    refine g_iload X 0 rfl dL_acts_382 rfl ?_
    refine g_aload_n X 4 rfl dL_acts_384 rfl ?_
    refine g_iload_n X 7 rfl dL_acts_385 rfl ?_
    refine g_iconst X (z := 2) dL_acts_386 rfl ?_
    refine k_call X (v := anStream S i 2) (fun Sg => kt_stream l Sg S i 2) (As := [.int (iI i), .int (iI 2)]) (rest := [.int (iI (anStream S i 3))]) rfl ca_X5_stream rfl wm_L_15 wi_X5_stream ws_X5_stream wc_X5_stream ⟨by decide, by decide⟩ (Nat.le_of_ble_eq_true rfl) ⟨by decide, by decide⟩ rfl dL_acts_387 rfl hO_5 ⟨hW, ⟨by omega, by omega⟩, ⟨by decide, by decide⟩⟩ rfl (fun M_8 hO_7 => ?_)
    refine g_dia X (n := 393) (tgt := 397) (J := 398) (C0 := anStream S i 3 ≠ anStream S i 2) (fun kt kf => g_icmp_ne X ⟨by omega, by omega⟩ ⟨by omega, by omega⟩ (tgt := 397) dL_acts_390 (by decide) rfl kt kf) dL_acts_393 dL_acts_394 (by decide) dL_acts_397 rfl ?_
    refine g_istore X (lv' := [(19, .int (iI (if anStream S i 3 ≠ anStream S i 2 then 0 else 1))), (18, .int (iI (anStream S i 3))), (17, .int (iI (anStream S i 4))), (16, .int (iI (anStream S i 1))), (15, .int (iI v)), (0, .ref o), (1, .int (iI x)), (2, .int (iI (S.1 5))), (3, .int (iI i))]) (by decide) rfl dL_acts_398 rfl ?_
    refine g_aload_n X 5 rfl dL_acts_400 rfl ?_
    refine g_iload_n X 8 rfl dL_acts_401 rfl ?_
    refine g_iload X 4 rfl dL_acts_402 rfl ?_
    refine k_call X (v := anStream S i 1) (fun Sg => kt_stride l Sg S i v) (As := [.int (iI i), .int (iI v)]) (rest := []) rfl ca_X5_stride rfl wm_L_35 wi_X5_stride ws_X5_stride wc_X5_stride ⟨by decide, by decide⟩ (by decide) ⟨by decide, by decide⟩ rfl dL_acts_404 rfl hO_7 ⟨hW, ⟨by omega, by omega⟩, ⟨by omega, by omega⟩⟩ f0 (fun M_11 hO_10 => ?_)
    rw [← hS2] at hO_10
    refine g_istore X (lv' := [(20, .int (iI (anStream S i 1))), (19, .int (iI (if anStream S i 3 ≠ anStream S i 2 then 0 else 1))), (18, .int (iI (anStream S i 3))), (17, .int (iI (anStream S i 4))), (16, .int (iI (anStream S i 1))), (15, .int (iI v)), (0, .ref o), (1, .int (iI x)), (2, .int (iI (S.1 5))), (3, .int (iI i))]) (by decide) rfl dL_acts_407 rfl ?_
    refine g_iload_n X 8 rfl dL_acts_409 rfl ?_
    refine g_if_ne X ⟨by omega, by omega⟩ (tgt := 427) dL_acts_410 (by decide) rfl (fun h_12 => ?_) (fun h_12 => ?_)
    · refine g_iload X 0 rfl dL_acts_427 rfl ?_
      refine g_iload X 4 rfl dL_acts_429 rfl ?_
      refine g_icmp_ne X ⟨by omega, by omega⟩ ⟨by omega, by omega⟩ (tgt := 503) dL_acts_431 (by decide) rfl (fun h_13 => ?_) (fun h_13 => ?_)
      · exfalso
        omega
      · refine g_aload_n X 6 rfl dL_acts_434 rfl ?_
        refine g_iload_n X 9 rfl dL_acts_435 rfl ?_
        refine g_iconst X (z := 1) dL_acts_436 rfl ?_
        refine k_call X (v := v) (fun Sg => kt_stream l Sg S2 i 1) (As := [.int (iI i), .int (iI 1)]) (rest := []) rfl ca_X5_stream rfl wm_L_15 wi_X5_stream ws_X5_stream wc_X5_stream ⟨by decide, by decide⟩ (by decide) ⟨by decide, by decide⟩ rfl dL_acts_437 rfl hO_10 ⟨hW2, ⟨by omega, by omega⟩, ⟨by decide, by decide⟩⟩ f1 (fun M_15 hO_14 => ?_)
        refine g_iload X 5 rfl dL_acts_440 rfl ?_
        refine g_icmp_ne X ⟨by omega, by omega⟩ ⟨by omega, by omega⟩ (tgt := 503) dL_acts_442 (by decide) rfl (fun h_16 => ?_) (fun h_16 => ?_)
        · exfalso
          omega
        · refine g_iload X 2 rfl dL_acts_445 rfl ?_
          refine g_if_ne X ⟨by omega, by omega⟩ (tgt := 464) dL_acts_447 (by decide) rfl (fun h_17 => ?_) (fun h_17 => ?_)
          · refine g_aload_n X 6 rfl dL_acts_464 rfl ?_
            refine g_iload_n X 9 rfl dL_acts_465 rfl ?_
            refine g_iconst X (z := 4) dL_acts_466 rfl ?_
            refine k_call X (v := anStream S2 i 4) (fun Sg => kt_stream l Sg S2 i 4) (As := [.int (iI i), .int (iI 4)]) (rest := []) rfl ca_X5_stream rfl wm_L_15 wi_X5_stream ws_X5_stream wc_X5_stream ⟨by decide, by decide⟩ (by decide) ⟨by decide, by decide⟩ rfl dL_acts_467 rfl hO_14 ⟨hW2, ⟨by omega, by omega⟩, ⟨by decide, by decide⟩⟩ rfl (fun M_19 hO_18 => ?_)
            refine g_iload X 1 rfl dL_acts_470 rfl ?_
            refine g_if_eq X ⟨by omega, by omega⟩ (tgt := 480) dL_acts_472 (by decide) rfl (fun h_20 => ?_) (fun h_20 => ?_)
            · refine g_iload X 3 rfl dL_acts_480 rfl ?_
              refine g_iload X 4 rfl dL_acts_482 rfl ?_
              refine g_isub X dL_acts_484 rfl ?_
              refine g_iload X 5 rfl dL_acts_485 rfl ?_
              refine g_iadd X dL_acts_487 rfl ?_
              refine g_sipush X (z := 4096) (by decide +kernel) dL_acts_488 rfl ?_
              refine g_iadd X dL_acts_491 rfl ?_
              refine g_sipush X (z := 4096) (by decide +kernel) dL_acts_492 rfl ?_
              refine g_irem X ⟨⟨by omega, by omega⟩, by omega, by omega⟩ dL_acts_495 rfl ?_
              refine g_icmp_ne X ⟨by omega, by omega⟩ ⟨by omega, by omega⟩ (tgt := 503) dL_acts_496 (by decide) rfl (fun h_21 => ?_) (fun h_21 => ?_)
              · exfalso
                omega
              · refine g_iconst X (z := 1) dL_acts_499 rfl ?_
                refine g_goto X (n := 504) dL_acts_500 (by decide) ?_
                exact kk _ _ _ S2 dL_acts_504 hO_18 (hPA2.up1 (by omega)) (hKS)
            · refine g_iload X 3 rfl dL_acts_475 rfl ?_
              refine g_goto X (n := 496) dL_acts_477 (by decide) ?_
              refine g_icmp_ne X ⟨by omega, by omega⟩ ⟨by omega, by omega⟩ (tgt := 503) dL_acts_496 (by decide) rfl (fun h_22 => ?_) (fun h_22 => ?_)
              · exfalso
                omega
              · refine g_iconst X (z := 1) dL_acts_499 rfl ?_
                refine g_goto X (n := 504) dL_acts_500 (by decide) ?_
                exact kk _ _ _ S2 dL_acts_504 hO_18 (hPA2.up1 (by omega)) (hKS)
          · refine g_aload_n X 6 rfl dL_acts_450 rfl ?_
            refine g_iload_n X 9 rfl dL_acts_451 rfl ?_
            refine g_iconst X (z := 4) dL_acts_452 rfl ?_
            refine k_call X (v := anStream S2 i 4) (fun Sg => kt_stream l Sg S2 i 4) (As := [.int (iI i), .int (iI 4)]) (rest := []) rfl ca_X5_stream rfl wm_L_15 wi_X5_stream ws_X5_stream wc_X5_stream ⟨by decide, by decide⟩ (by decide) ⟨by decide, by decide⟩ rfl dL_acts_453 rfl hO_14 ⟨hW2, ⟨by omega, by omega⟩, ⟨by decide, by decide⟩⟩ rfl (fun M_24 hO_23 => ?_)
            refine g_bipush X (z := -6) (by decide +kernel) dL_acts_456 rfl ?_
            refine g_icmp_ne X ⟨by omega, by omega⟩ ⟨by omega, by omega⟩ (tgt := 503) dL_acts_458 (by decide) rfl (fun h_25 => ?_) (fun h_25 => ?_)
            · exfalso
              omega
            · refine g_goto X (n := 499) dL_acts_461 (by decide) ?_
              refine g_iconst X (z := 1) dL_acts_499 rfl ?_
              refine g_goto X (n := 504) dL_acts_500 (by decide) ?_
              exact kk _ _ _ S2 dL_acts_504 hO_23 (hPA2.up1 (by omega)) (hKS)
    · exfalso
      omega
set_option maxRecDepth 100000 in
set_option maxHeartbeats 4000000 in
theorem acts_505 {p : Program} {l : Launch} {e : Env} {s : State} {m : MethodId} {args : Array Value} {below : List Frame} {meth : Method} {c : Code} {D : va_G} {ca : Nat → ClassId} {A : Nat → Prop} {Q : State → Prop} {L : List Nat} {M : Mem} (X : Fx p s m args meth c D ca A 27 cL_acts RL) {o : Nat} {S : AS} {T x i : Int} (hO : OB ca L M o S) (hPA : PA T S) (hT : 0 ≤ T ∧ T ≤ 90000) (x0 : 0 ≤ x) (x1 : x < 2147483648) (hi : (S.1 5 = 0 ∧ i = 0) ∨ (0 ≤ i ∧ i < S.1 5)) (kk : ∀ (pc2 : Nat) (lv2 : List (Nat × Value)) (M2 : Mem) (S2 : AS), decode cL_acts pc2 = .ok (.ireturn, 1) → OB ca L M2 o S2 → PA (T + 60) S2 → KS S S2 → G p l e (Rm 8 0 0) s m args below meth c D A 27 Q 0 0 L M2 pc2 lv2 [.int (iI 1)]) : G p l e (Rm 8 0 0) s m args below meth c D A 27 Q 0 0 L M 505 [(0, .ref o), (1, .int (iI x)), (2, .int (iI (S.1 5))), (3, .int (iI i))] [] := by
  have hW := hPA.1
  have hI := hPA.I
  obtain ⟨⟨s00, s01⟩, ⟨s10, s11⟩, ⟨s20, s21⟩, ⟨s30, s31⟩, ⟨s40, s41⟩, s50, s51⟩ := id hPA.S
  have hpr := tGP_rng s00 s01
  have hof := of_rng hPA
  have tail : ∀ (k w : Int), isSet k w → G p l e (Rm 8 0 0) s m args below meth c D A 27 Q 0 0 L M 568 [(0, .ref o), (1, .int (iI x)), (2, .int (iI (S.1 5))), (3, .int (iI i)), (21, .int (iI k))] [.int (iI w)] := fun k w hk => by
    have hk0 : 0 ≤ k ∧ k < 4 ∧ 0 ≤ w ∧ w ≤ 16 := by unfold isSet at hk; omega
    have hSk : R32 (S.1 k) := by rcases (by omega : k = 0 ∨ k = 1 ∨ k = 2 ∨ k = 3) with q | q | q | q <;> rw [q] <;> exact ⟨by omega, by omega⟩
    refine g_istore X (lv' := [(22, .int (iI w)), (0, .ref o), (1, .int (iI x)), (2, .int (iI (S.1 5))), (3, .int (iI i)), (21, .int (iI k))]) (by decide) rfl dL_acts_568 rfl ?_
    refine g_aload_n X 1 rfl dL_acts_570 rfl ?_
    refine g_iload X 5 rfl dL_acts_571 rfl ?_
    refine k_call X (v := S.1 k) (fun Sg => kt_count l Sg S k) (As := [.int (iI k)]) (rest := []) rfl ca_X5_count rfl wm_L_9 wi_X5_count ws_X5_count wc_X5_count ⟨by decide, by decide⟩ (by decide) ⟨by decide, by decide⟩ rfl dL_acts_573 rfl hO ⟨hW, ⟨by omega, by omega⟩⟩ (c_low S (by omega)) (fun M_2 hO_1 => ?_)
    refine g_istore X (lv' := [(23, .int (iI (S.1 k))), (22, .int (iI w)), (0, .ref o), (1, .int (iI x)), (2, .int (iI (S.1 5))), (3, .int (iI i)), (21, .int (iI k))]) (by decide) rfl dL_acts_576 rfl ?_
    refine g_aload_n X 2 rfl dL_acts_578 rfl ?_
    refine g_iload X 6 rfl dL_acts_579 rfl ?_
    refine g_iload X 1 rfl dL_acts_581 rfl ?_
    refine k_call X (v := S.1 k) (fun Sg => kt_set l Sg S k w) (As := [.int (iI k), .int (iI w)]) (rest := []) rfl ca_X5_set rfl wm_L_38 wi_X5_set ws_X5_set wc_X5_set ⟨by decide, by decide⟩ (by decide) ⟨by decide, by decide⟩ rfl dL_acts_583 rfl hO_1 ⟨hW, ⟨by omega, by omega⟩, ⟨by omega, by omega⟩⟩ (act_set hPA hT.1 hk rfl).1 (fun M_4 hO_3 => ?_)
    obtain ⟨S2, hS2⟩ : ∃ S2 : AS, S2 = opSet S k w := ⟨_, rfl⟩
    rw [← hS2] at hO_3
    obtain ⟨-, hPA2, hKS, fk, f4, f8, fb, f7, -⟩ := act_set hPA hT.1 hk hS2
    have hW2 := hPA2.1
    refine g_iload X 0 rfl dL_acts_586 rfl ?_
    refine g_icmp_ne X hSk hSk (tgt := 641) dL_acts_588 (by decide) rfl (fun h_5 => ?_) (fun h_5 => ?_)
    · exfalso
      omega
    · refine g_aload_n X 2 rfl dL_acts_591 rfl ?_
      refine g_iload X 6 rfl dL_acts_592 rfl ?_
      refine k_call X (v := w) (fun Sg => kt_count l Sg S2 k) (As := [.int (iI k)]) (rest := []) rfl ca_X5_count rfl wm_L_9 wi_X5_count ws_X5_count wc_X5_count ⟨by decide, by decide⟩ (by decide) ⟨by decide, by decide⟩ rfl dL_acts_594 rfl hO_3 ⟨hW2, ⟨by omega, by omega⟩⟩ ((c_low S2 (by omega)).trans fk) (fun M_7 hO_6 => ?_)
      refine g_iload X 1 rfl dL_acts_597 rfl ?_
      refine g_icmp_ne X ⟨by omega, by omega⟩ ⟨by omega, by omega⟩ (tgt := 641) dL_acts_599 (by decide) rfl (fun h_8 => ?_) (fun h_8 => ?_)
      · exfalso
        omega
      · refine g_aload_n X 2 rfl dL_acts_602 rfl ?_
        refine g_iconst X (z := 4) dL_acts_603 rfl ?_
        refine k_call X (v := 0) (fun Sg => kt_count l Sg S2 4) (As := [.int (iI 4)]) (rest := []) rfl ca_X5_count rfl wm_L_9 wi_X5_count ws_X5_count wc_X5_count ⟨by decide, by decide⟩ (by decide) ⟨by decide, by decide⟩ rfl dL_acts_604 rfl hO_6 ⟨hW2, ⟨by decide, by decide⟩⟩ ((c_low S2 (by decide)).trans f4) (fun M_10 hO_9 => ?_)
        refine g_if_ne X ⟨by decide, by decide⟩ (tgt := 641) dL_acts_607 (by decide) rfl (fun h => absurd h (by decide)) (fun _ => ?_)
        refine g_aload_n X 2 rfl dL_acts_610 rfl ?_
        refine g_bipush X (z := 8) (by decide +kernel) dL_acts_611 rfl ?_
        refine k_call X (v := 0) (fun Sg => kt_count l Sg S2 8) (As := [.int (iI 8)]) (rest := []) rfl ca_X5_count rfl wm_L_9 wi_X5_count ws_X5_count wc_X5_count ⟨by decide, by decide⟩ (by decide) ⟨by decide, by decide⟩ rfl dL_acts_613 rfl hO_9 ⟨hW2, ⟨by decide, by decide⟩⟩ ((c_79 S2 (by decide)).trans f8) (fun M_13 hO_12 => ?_)
        refine g_if_ne X ⟨by decide, by decide⟩ (tgt := 641) dL_acts_616 (by decide) rfl (fun h => absurd h (by decide)) (fun _ => ?_)
        refine g_aload_n X 2 rfl dL_acts_619 rfl ?_
        refine g_bipush X (z := 10) (by decide +kernel) dL_acts_620 rfl ?_
        refine k_call X (v := 0) (fun Sg => kt_count l Sg S2 10) (As := [.int (iI 10)]) (rest := []) rfl ca_X5_count rfl wm_L_9 wi_X5_count ws_X5_count wc_X5_count ⟨by decide, by decide⟩ (by decide) ⟨by decide, by decide⟩ rfl dL_acts_622 rfl hO_12 ⟨hW2, ⟨by decide, by decide⟩⟩ ((c_10 S2).trans fb) (fun M_16 hO_15 => ?_)
        refine g_if_ne X ⟨by decide, by decide⟩ (tgt := 641) dL_acts_625 (by decide) rfl (fun h => absurd h (by decide)) (fun _ => ?_)
        refine g_aload_n X 2 rfl dL_acts_628 rfl ?_
        refine g_bipush X (z := 7) (by decide +kernel) dL_acts_629 rfl ?_
        refine k_call X (v := 0) (fun Sg => kt_count l Sg S2 7) (As := [.int (iI 7)]) (rest := []) rfl ca_X5_count rfl wm_L_9 wi_X5_count ws_X5_count wc_X5_count ⟨by decide, by decide⟩ (by decide) ⟨by decide, by decide⟩ rfl dL_acts_631 rfl hO_15 ⟨hW2, ⟨by decide, by decide⟩⟩ ((c_79 S2 (by decide)).trans f7) (fun M_19 hO_18 => ?_)
        refine g_if_ne X ⟨by decide, by decide⟩ (tgt := 641) dL_acts_634 (by decide) rfl (fun h => absurd h (by decide)) (fun _ => ?_)
        refine g_iconst X (z := 1) dL_acts_637 rfl ?_
        refine g_goto X (n := 642) dL_acts_638 (by decide) ?_
        exact kk _ _ _ S2 dL_acts_642 hO_18 (hPA2.up1 (by omega)) (hKS)
  refine g_iload_n X 1 rfl dL_acts_505 rfl ?_
  refine g_iconst X (z := 4) dL_acts_506 rfl ?_
  refine g_ishr X (sh_4 x0 x1) dL_acts_507 rfl ?_
  refine g_iconst X (z := 4) dL_acts_508 rfl ?_
  refine g_irem X ⟨⟨by omega, by omega⟩, by omega, by omega⟩ dL_acts_509 rfl ?_
  refine g_istore X (lv' := [(21, .int (iI ((x / 16) % 4))), (0, .ref o), (1, .int (iI x)), (2, .int (iI (S.1 5))), (3, .int (iI i))]) (by decide) rfl dL_acts_510 rfl ?_
  obtain ⟨k, hk⟩ : ∃ k : Int, k = (x / 16) % 4 := ⟨_, rfl⟩
  rw [← hk]
  have hk0 : 0 ≤ k ∧ k < 4 := by omega
  refine g_iload X 0 rfl dL_acts_512 rfl ?_
  refine g_if_ne X ⟨by omega, by omega⟩ (tgt := 529) dL_acts_514 (by decide) rfl (fun h_1 => ?_) (fun h_1 => ?_)
  · refine g_iload X 0 rfl dL_acts_529 rfl ?_
    refine g_iconst X (z := 1) dL_acts_531 rfl ?_
    refine g_icmp_ne X ⟨by omega, by omega⟩ ⟨by decide, by decide⟩ (tgt := 547) dL_acts_532 (by decide) rfl (fun h_2 => ?_) (fun h_2 => ?_)
    · refine g_iload X 0 rfl dL_acts_547 rfl ?_
      refine g_iconst X (z := 2) dL_acts_549 rfl ?_
      refine g_icmp_ne X ⟨by omega, by omega⟩ ⟨by decide, by decide⟩ (tgt := 562) dL_acts_550 (by decide) rfl (fun h_3 => ?_) (fun h_3 => ?_)
      · refine g_iload_n X 2 rfl dL_acts_562 rfl ?_
        refine g_bipush X (z := 8) (by decide +kernel) dL_acts_563 rfl ?_
        refine g_ishr X (sh_8 x0 x1) dL_acts_565 rfl ?_
        refine g_iconst X (z := 2) dL_acts_566 rfl ?_
        refine g_irem X ⟨⟨by omega, by omega⟩, by omega, by omega⟩ dL_acts_567 rfl ?_
        refine g_lv (lv' := [(0, .ref o), (1, .int (iI x)), (2, .int (iI (S.1 5))), (3, .int (iI i)), (21, .int (iI k))]) [1, 2, 3, 4, 0] rfl ?_
        exact tail k ((x / 256) % 2) (by unfold isSet; omega)
      · refine g_iload_n X 2 rfl dL_acts_553 rfl ?_
        refine g_bipush X (z := 8) (by decide +kernel) dL_acts_554 rfl ?_
        refine g_ishr X (sh_8 x0 x1) dL_acts_556 rfl ?_
        refine g_iconst X (z := 3) dL_acts_557 rfl ?_
        refine g_irem X ⟨⟨by omega, by omega⟩, by omega, by omega⟩ dL_acts_558 rfl ?_
        refine g_goto X (n := 568) dL_acts_559 (by decide) ?_
        refine g_lv (lv' := [(0, .ref o), (1, .int (iI x)), (2, .int (iI (S.1 5))), (3, .int (iI i)), (21, .int (iI k))]) [1, 2, 3, 4, 0] rfl ?_
        exact tail k ((x / 256) % 3) (by unfold isSet; omega)
    · refine g_iconst X (z := 1) dL_acts_535 rfl ?_
      refine g_iload_n X 2 rfl dL_acts_536 rfl ?_
      refine g_bipush X (z := 8) (by decide +kernel) dL_acts_537 rfl ?_
      refine g_ishr X (sh_8 x0 x1) dL_acts_539 rfl ?_
      refine g_bipush X (z := 12) (by decide +kernel) dL_acts_540 rfl ?_
      refine g_irem X ⟨⟨by omega, by omega⟩, by omega, by omega⟩ dL_acts_542 rfl ?_
      refine g_iadd X dL_acts_543 rfl ?_
      refine g_goto X (n := 568) dL_acts_544 (by decide) ?_
      refine g_lv (lv' := [(0, .ref o), (1, .int (iI x)), (2, .int (iI (S.1 5))), (3, .int (iI i)), (21, .int (iI k))]) [1, 2, 3, 4, 0] rfl ?_
      exact tail k (1 + ((x / 256) % 12)) (by unfold isSet; omega)
  · refine g_iconst X (z := 2) dL_acts_517 rfl ?_
    refine g_iload_n X 2 rfl dL_acts_518 rfl ?_
    refine g_bipush X (z := 8) (by decide +kernel) dL_acts_519 rfl ?_
    refine g_ishr X (sh_8 x0 x1) dL_acts_521 rfl ?_
    refine g_bipush X (z := 15) (by decide +kernel) dL_acts_522 rfl ?_
    refine g_irem X ⟨⟨by omega, by omega⟩, by omega, by omega⟩ dL_acts_524 rfl ?_
    refine g_iadd X dL_acts_525 rfl ?_
    refine g_goto X (n := 568) dL_acts_526 (by decide) ?_
    refine g_lv (lv' := [(0, .ref o), (1, .int (iI x)), (2, .int (iI (S.1 5))), (3, .int (iI i)), (21, .int (iI k))]) [1, 2, 3, 4, 0] rfl ?_
    exact tail k (2 + ((x / 256) % 15)) (by unfold isSet; omega)
set_option maxRecDepth 100000 in
set_option maxHeartbeats 4000000 in
theorem acts_643 {p : Program} {l : Launch} {e : Env} {s : State} {m : MethodId} {args : Array Value} {below : List Frame} {meth : Method} {c : Code} {D : va_G} {ca : Nat → ClassId} {A : Nat → Prop} {Q : State → Prop} {L : List Nat} {M : Mem} (X : Fx p s m args meth c D ca A 27 cL_acts RL) {o : Nat} {S : AS} {T x i : Int} (hO : OB ca L M o S) (hPA : PA T S) (hT : 0 ≤ T ∧ T ≤ 90000) (x0 : 0 ≤ x) (x1 : x < 2147483648) (hi : (S.1 5 = 0 ∧ i = 0) ∨ (0 ≤ i ∧ i < S.1 5)) (kk : ∀ (pc2 : Nat) (lv2 : List (Nat × Value)) (M2 : Mem) (S2 : AS), decode cL_acts pc2 = .ok (.ireturn, 1) → OB ca L M2 o S2 → PA (T + 60) S2 → KS S S2 → G p l e (Rm 8 0 0) s m args below meth c D A 27 Q 0 0 L M2 pc2 lv2 [.int (iI 1)]) : G p l e (Rm 8 0 0) s m args below meth c D A 27 Q 0 0 L M 643 [(0, .ref o), (1, .int (iI x)), (2, .int (iI (S.1 5))), (3, .int (iI i))] [] := by
  have hW := hPA.1
  have hI := hPA.I
  obtain ⟨⟨s00, s01⟩, ⟨s10, s11⟩, ⟨s20, s21⟩, ⟨s30, s31⟩, ⟨s40, s41⟩, s50, s51⟩ := id hPA.S
  have hpr := tGP_rng s00 s01
  have hof := of_rng hPA
  obtain ⟨bm, hbm⟩ : ∃ bm : Int, bm = anMap S 0 := ⟨_, rfl⟩
  obtain ⟨fw, hfw⟩ : ∃ fw : Int, fw = anMap S 1 := ⟨_, rfl⟩
  obtain ⟨S2, hS2⟩ : ∃ S2 : AS, S2 = opSet S 2 (anMap S 0) := ⟨_, rfl⟩
  obtain ⟨S3, hS3⟩ : ∃ S3 : AS, S3 = opReset S2 := ⟨_, rfl⟩
  obtain ⟨m0, m1, -⟩ := map_ok S
  obtain ⟨f0, hPA2, hKS2, f1, f2, hPA3, hKS3, f3⟩ := act_best hPA hT.1 hS2 hS3
  rw [← hbm] at m0 hS2 f0 f3
  rw [← hfw] at m1 f1
  have hW2 := hPA2.1
  have hW3 := hPA3.1
  have l3 := wlG_nn hPA3.I
  refine g_aload_n X 0 rfl dL_acts_643 rfl ?_
  refine g_iconst X (z := 0) dL_acts_644 rfl ?_
  refine k_call X (v := bm) (fun Sg => kt_bestMap l Sg S 0) (As := [.int (iI 0)]) (rest := []) rfl ca_X5_bestMap rfl wm_L_41 wi_X5_bestMap ws_X5_bestMap wc_X5_bestMap ⟨by decide, by decide⟩ (by decide) ⟨by decide, by decide⟩ rfl dL_acts_645 rfl hO ⟨hW, ⟨by decide, by decide⟩⟩ hbm.symm (fun M_2 hO_1 => ?_)
  refine g_istore X (lv' := [(24, .int (iI bm)), (0, .ref o), (1, .int (iI x)), (2, .int (iI (S.1 5))), (3, .int (iI i))]) (by decide) rfl dL_acts_648 rfl ?_
  refine g_aload_n X 1 rfl dL_acts_650 rfl ?_
  refine g_iconst X (z := 1) dL_acts_651 rfl ?_
  refine k_call X (v := fw) (fun Sg => kt_bestMap l Sg S 1) (As := [.int (iI 1)]) (rest := []) rfl ca_X5_bestMap rfl wm_L_41 wi_X5_bestMap ws_X5_bestMap wc_X5_bestMap ⟨by decide, by decide⟩ (by decide) ⟨by decide, by decide⟩ rfl dL_acts_652 rfl hO_1 ⟨hW, ⟨by decide, by decide⟩⟩ hfw.symm (fun M_4 hO_3 => ?_)
  refine g_istore X (lv' := [(25, .int (iI fw)), (24, .int (iI bm)), (0, .ref o), (1, .int (iI x)), (2, .int (iI (S.1 5))), (3, .int (iI i))]) (by decide) rfl dL_acts_655 rfl ?_
  refine g_iload_n X 3 rfl dL_acts_657 rfl ?_
  refine g_iconst X (z := 4) dL_acts_658 rfl ?_
  refine g_ishr X (sh_4 x0 x1) dL_acts_659 rfl ?_
  refine g_iconst X (z := 3) dL_acts_660 rfl ?_
  refine g_irem X ⟨⟨by omega, by omega⟩, by omega, by omega⟩ dL_acts_661 rfl ?_
  refine g_if_le X ⟨by omega, by omega⟩ (tgt := 687) dL_acts_662 (by decide) rfl (fun h_5 => ?_) (fun h_5 => ?_)
  · refine g_aload_n X 2 rfl dL_acts_687 rfl ?_
    refine g_iconst X (z := 2) dL_acts_688 rfl ?_
    refine g_iload X 1 rfl dL_acts_689 rfl ?_
    refine k_call X (v := S.1 2) (fun Sg => kt_set l Sg S 2 bm) (As := [.int (iI 2), .int (iI bm)]) (rest := []) rfl ca_X5_set rfl wm_L_38 wi_X5_set ws_X5_set wc_X5_set ⟨by decide, by decide⟩ (by decide) ⟨by decide, by decide⟩ rfl dL_acts_691 rfl hO_3 ⟨hW, ⟨by decide, by decide⟩, ⟨by omega, by omega⟩⟩ f0 (fun M_7 hO_6 => ?_)
    rw [← hS2] at hO_6
    refine g_istore X (lv' := [(26, .int (iI (S.1 2))), (25, .int (iI fw)), (24, .int (iI bm)), (0, .ref o), (1, .int (iI x)), (2, .int (iI (S.1 5))), (3, .int (iI i))]) (by decide) rfl dL_acts_694 rfl ?_
    refine g_iload X 0 rfl dL_acts_696 rfl ?_
    refine g_if_lt X ⟨by omega, by omega⟩ (tgt := 737) dL_acts_698 (by decide) rfl (fun h_8 => ?_) (fun h_8 => ?_)
    · exfalso
      omega
    · refine g_aload_n X 3 rfl dL_acts_701 rfl ?_
      refine k_call X (v := fw) (fun Sg => kt_untilDone l Sg S2) (As := []) (rest := []) rfl ca_X5_untilDone rfl wm_L_44 wi_X5_untilDone ws_X5_untilDone wc_X5_untilDone ⟨by decide, by decide⟩ (by decide) ⟨by decide, by decide⟩ rfl dL_acts_702 rfl hO_6 hW2 f1 (fun M_10 hO_9 => ?_)
      refine g_iload X 1 rfl dL_acts_705 rfl ?_
      refine g_icmp_ne X ⟨by omega, by omega⟩ ⟨by omega, by omega⟩ (tgt := 737) dL_acts_707 (by decide) rfl (fun h_11 => ?_) (fun h_11 => ?_)
      · exfalso
        omega
      · refine g_aload_n X 3 rfl dL_acts_710 rfl ?_
        refine k_call X (v := wlG S3.1) (fun Sg => kt_reset l Sg S2) (As := []) (rest := []) rfl ca_X5_reset rfl wm_L_48 wi_X5_reset ws_X5_reset wc_X5_reset ⟨by decide, by decide⟩ (by decide) ⟨by decide, by decide⟩ rfl dL_acts_711 rfl hO_9 hW2 f2 (fun M_13 hO_12 => ?_)
        rw [← hS3] at hO_12
        refine g_aload_n X 3 rfl dL_acts_714 rfl ?_
        refine g_bipush X (z := 6) (by decide +kernel) dL_acts_715 rfl ?_
        refine k_call X (v := wlG S3.1) (fun Sg => kt_count l Sg S3 6) (As := [.int (iI 6)]) (rest := [.int (iI (wlG S3.1))]) rfl ca_X5_count rfl wm_L_9 wi_X5_count ws_X5_count wc_X5_count ⟨by decide, by decide⟩ (Nat.le_of_ble_eq_true rfl) ⟨by decide, by decide⟩ rfl dL_acts_717 rfl hO_12 ⟨hW3, ⟨by decide, by decide⟩⟩ (c_6 S3) (fun M_15 hO_14 => ?_)
        refine g_icmp_ne X ⟨by omega, by omega⟩ ⟨by omega, by omega⟩ (tgt := 737) dL_acts_720 (by decide) rfl (fun h_16 => ?_) (fun h_16 => ?_)
        · exfalso
          omega
        · refine g_aload_n X 3 rfl dL_acts_723 rfl ?_
          refine g_iconst X (z := 0) dL_acts_724 rfl ?_
          refine k_call X (v := bm) (fun Sg => kt_bestMap l Sg S3 0) (As := [.int (iI 0)]) (rest := []) rfl ca_X5_bestMap rfl wm_L_41 wi_X5_bestMap ws_X5_bestMap wc_X5_bestMap ⟨by decide, by decide⟩ (by decide) ⟨by decide, by decide⟩ rfl dL_acts_725 rfl hO_14 ⟨hW3, ⟨by decide, by decide⟩⟩ f3 (fun M_18 hO_17 => ?_)
          refine g_iload X 2 rfl dL_acts_728 rfl ?_
          refine g_icmp_ne X ⟨by omega, by omega⟩ ⟨by omega, by omega⟩ (tgt := 737) dL_acts_730 (by decide) rfl (fun h_19 => ?_) (fun h_19 => ?_)
          · exfalso
            omega
          · refine g_iconst X (z := 1) dL_acts_733 rfl ?_
            refine g_goto X (n := 738) dL_acts_734 (by decide) ?_
            exact kk _ _ _ S3 dL_acts_738 hO_17 (hPA3.up1 (by omega)) hKS3
  · refine g_iload X 1 rfl dL_acts_665 rfl ?_
    refine g_if_lt X ⟨by omega, by omega⟩ (tgt := 685) dL_acts_667 (by decide) rfl (fun h_20 => ?_) (fun h_20 => ?_)
    · exfalso
      omega
    · refine g_iload X 1 rfl dL_acts_670 rfl ?_
      refine g_iconst X (z := 3) dL_acts_672 rfl ?_
      refine g_icmp_ge X ⟨by omega, by omega⟩ ⟨by decide, by decide⟩ (tgt := 685) dL_acts_673 (by decide) rfl (fun h_21 => ?_) (fun h_21 => ?_)
      · exfalso
        omega
      · refine g_iload X 0 rfl dL_acts_676 rfl ?_
        refine g_if_lt X ⟨by omega, by omega⟩ (tgt := 685) dL_acts_678 (by decide) rfl (fun h_22 => ?_) (fun h_22 => ?_)
        · exfalso
          omega
        · refine g_iconst X (z := 1) dL_acts_681 rfl ?_
          refine g_goto X (n := 686) dL_acts_682 (by decide) ?_
          exact kk _ _ _ S dL_acts_686 hO_3 (hPA.up1 (by omega)) (KS.rf S)
