/-! ===== the law's areBanks ===== -/
theorem em_rng {a b : Int} (h0 : 0 < b) (h1 : b < 2147483648) (h2 : 0 < b) : R32 (a % b) := ⟨by have := Int.emod_nonneg a (show b ≠ 0 by omega); omega, by have := Int.emod_lt_of_pos a h2; omega⟩
set_option maxRecDepth 100000 in
set_option maxHeartbeats 4000000 in
theorem ct_L_areBanks (l : Launch) (o : Nat) (S : AS) (T x : Int) : Ct l yL_areBanks cL_areBanks 8 (some .boolean) 6 0 0 (fun ca av L M => av = [.ref o, .int (iI x)] ∧ OB ca L M o S ∧ PA T S ∧ 0 ≤ x ∧ x < 2147483648) (fun ca av L M r L1 M1 => r = some (.int (iI 1)) ∧ L = L1 ∧ OB ca L1 M1 o S) := by
  refine Ct_of (own := RL) (by decide) rfl (by rintro _ _ _ _ ⟨rfl, _⟩; exact Nat.le_of_ble_eq_true rfl) ?_
  rintro p e s m args below meth c D ca A av L M ⟨rfl, hO, hPA, x0, x1⟩ X hret hname
  refine g_lv (lv' := [(0, .ref o), (1, .int (iI x))]) [0, 1] rfl ?_
  generalize hQ : MQ below _ args s _ _ A = Q
  have hW := hPA.1
  have hI := hPA.I
  obtain ⟨⟨s00, s01⟩, ⟨s10, s11⟩, ⟨s20, s21⟩, ⟨s30, s31⟩, ⟨s40, s41⟩, s50, s51⟩ := id hPA.S
  have hpr := tGP_rng s00 s01
  have lp : ∀ (n : Nat) (z : Int) (M2 : Mem) (hz0 : 0 ≤ z) (hz1 : z ≤ 20) (hm : 20 - z < (n : Int)) (hO : OB ca L M2 o S), G p l e (Rm 6 0 0) s m args below meth c D A 8 Q 0 0 L M2 55 [(0, .ref o), (1, .int (iI x)), (2, .int (iI (S.1 0))), (3, .int (iI (tGP (S.1 0)))), (4, .int (iI 1)), (5, .int (iI z))] [] := by
    intro n
    induction n with
    | zero => intro z M2 hz0 hz1 hm hO; exfalso; omega
    | succ n ih =>
      intro z M2 hz0 hz1 hm hO
      refine g_iload X 5 rfl dL_areBanks_55 rfl ?_
      refine g_bipush X (z := 20) (by decide +kernel) dL_areBanks_57 rfl ?_
      refine g_icmp_ge X ⟨by omega, by omega⟩ ⟨by decide, by decide⟩ (tgt := 160) dL_areBanks_59 (by decide) rfl (fun h_1 => ?_) (fun h_1 => ?_)
      · refine g_iload X 4 rfl dL_areBanks_160 rfl ?_
        subst hQ
        exact g_zret X hret (by rfl) ⟨Nat.le_of_ble_eq_true rfl, Nat.le_of_ble_eq_true rfl⟩ dL_areBanks_162 ⟨rfl, rfl, hO⟩
      · refine g_iload X 4 rfl dL_areBanks_62 rfl ?_
        refine g_if_eq X ⟨by decide, by decide⟩ (tgt := 160) dL_areBanks_64 (by decide) rfl (fun h => absurd h (by decide)) (fun _ => ?_)
        refine g_iload_n X 1 rfl dL_areBanks_67 rfl ?_
        refine g_sipush X (z := 389) (by decide +kernel) dL_areBanks_68 rfl ?_
        refine g_iload X 5 rfl dL_areBanks_71 rfl ?_
        refine g_imul X dL_areBanks_73 rfl ?_
        refine g_iadd X dL_areBanks_74 rfl ?_
        refine g_ldc X (z := 2147483647) wv_L_8 (by decide +kernel) dL_areBanks_75 rfl ?_
        obtain ⟨w_3, w_30, w_31, w_32⟩ := and_max (iI (x + (389 * z)))
        refine g_iand X w_32 dL_areBanks_77 rfl ?_
        refine g_sipush X (z := 4096) (by decide +kernel) dL_areBanks_78 rfl ?_
        refine g_irem X ⟨⟨by omega, by omega⟩, by decide, by decide⟩ dL_areBanks_81 rfl ?_
        refine g_istore X (lv' := [(6, .int (iI (w_3 % 4096))), (0, .ref o), (1, .int (iI x)), (2, .int (iI (S.1 0))), (3, .int (iI (tGP (S.1 0)))), (4, .int (iI 1)), (5, .int (iI z))]) (by decide) rfl dL_areBanks_82 rfl ?_
        obtain ⟨ad, had⟩ : ∃ ad : Int, ad = w_3 % 4096 := ⟨_, rfl⟩
        have ha0 : 0 ≤ ad ∧ ad < 4096 := by omega
        have hd0 : 0 ≤ ad / S.1 0 ∧ ad / S.1 0 ≤ ad := ⟨Int.ediv_nonneg ha0.1 (by omega), Int.ediv_le_self _ ha0.1⟩
        rw [← had]
        refine g_aload_n X 1 rfl dL_areBanks_84 rfl ?_
        refine g_iconst X (z := 2) dL_areBanks_85 rfl ?_
        refine k_call X (v := S.1 2) (fun Sg => kt_count l Sg S 2) (As := [.int (iI 2)]) (rest := []) rfl ca_X5_count rfl wm_L_9 wi_X5_count ws_X5_count wc_X5_count ⟨by decide, by decide⟩ (by decide) ⟨by decide, by decide⟩ rfl dL_areBanks_86 rfl hO ⟨hW, ⟨by decide, by decide⟩⟩ (c_low S (by decide)) (fun M_5 hO_4 => ?_)
        refine g_iconst X (z := 2) dL_areBanks_89 rfl ?_
        refine g_icmp_ne X ⟨by omega, by omega⟩ ⟨by decide, by decide⟩ (tgt := 98) dL_areBanks_90 (by decide) rfl (fun h_6 => ?_) (fun h_6 => ?_)
        · refine g_aload_n X 1 rfl dL_areBanks_98 rfl ?_
          refine g_iconst X (z := 2) dL_areBanks_99 rfl ?_
          refine k_call X (v := S.1 2) (fun Sg => kt_count l Sg S 2) (As := [.int (iI 2)]) (rest := []) rfl ca_X5_count rfl wm_L_9 wi_X5_count ws_X5_count wc_X5_count ⟨by decide, by decide⟩ (by decide) ⟨by decide, by decide⟩ rfl dL_areBanks_100 rfl hO_4 ⟨hW, ⟨by decide, by decide⟩⟩ (c_low S (by decide)) (fun M_8 hO_7 => ?_)
          refine g_iconst X (z := 1) dL_areBanks_103 rfl ?_
          refine g_icmp_ne X ⟨by omega, by omega⟩ ⟨by decide, by decide⟩ (tgt := 117) dL_areBanks_104 (by decide) rfl (fun h_9 => ?_) (fun h_9 => ?_)
          · refine g_iload X 0 rfl dL_areBanks_117 rfl ?_
            refine g_istore X (lv' := [(7, .int (iI ad)), (6, .int (iI ad)), (0, .ref o), (1, .int (iI x)), (2, .int (iI (S.1 0))), (3, .int (iI (tGP (S.1 0)))), (4, .int (iI 1)), (5, .int (iI z))]) (by decide) rfl dL_areBanks_119 rfl ?_
            refine g_aload_n X 2 rfl dL_areBanks_121 rfl ?_
            refine g_iload X 1 rfl dL_areBanks_122 rfl ?_
            refine k_call X (v := bkG S.1 ad) (fun Sg => kt_bankOf l Sg S ad) (As := [.int (iI ad)]) (rest := []) rfl ca_X5_bankOf rfl wm_L_22 wi_X5_bankOf ws_X5_bankOf wc_X5_bankOf ⟨by decide, by decide⟩ (by decide) ⟨by decide, by decide⟩ rfl dL_areBanks_124 rfl hO_7 ⟨hW, ⟨by omega, by omega⟩⟩ (by rw [anBankOf, if_pos (by omega)]) (fun M_11 hO_10 => ?_)
            refine g_iload X 0 rfl dL_areBanks_127 rfl ?_
            refine g_aload_n X 2 rfl dL_areBanks_129 rfl ?_
            refine g_iconst X (z := 2) dL_areBanks_130 rfl ?_
            refine k_call X (v := S.1 2) (fun Sg => kt_count l Sg S 2) (As := [.int (iI 2)]) (rest := [.int (iI ad), .int (iI (bkG S.1 ad))]) rfl ca_X5_count rfl wm_L_9 wi_X5_count ws_X5_count wc_X5_count ⟨by decide, by decide⟩ (Nat.le_of_ble_eq_true rfl) ⟨by decide, by decide⟩ rfl dL_areBanks_131 rfl hO_10 ⟨hW, ⟨by decide, by decide⟩⟩ (c_low S (by decide)) (fun M_13 hO_12 => ?_)
            refine g_iconst X (z := 2) dL_areBanks_134 rfl ?_
            refine g_icmp_ne X ⟨by omega, by omega⟩ ⟨by decide, by decide⟩ (tgt := 142) dL_areBanks_135 (by decide) rfl (fun h_14 => ?_) (fun h_14 => ?_)
            · refine g_iload_n X 4 rfl dL_areBanks_142 rfl ?_
              refine g_irem X ⟨⟨by omega, by omega⟩, by omega, by omega⟩ dL_areBanks_143 rfl ?_
              refine g_icmp_ne X ⟨by have := bkG_rng hPA.S ad; omega, by have := bkG_rng hPA.S ad; omega⟩ (em_rng (by omega) (by omega) (by omega)) (tgt := 151) dL_areBanks_144 (by decide) rfl (fun h_15 => ?_) (fun h_15 => ?_)
              · exfalso
                unfold bkG at h_15
                omega
              · refine g_iconst X (z := 1) dL_areBanks_147 rfl ?_
                refine g_goto X (n := 152) dL_areBanks_148 (by decide) ?_
                refine g_istore X (lv' := [(4, .int (iI 1)), (7, .int (iI ad)), (6, .int (iI ad)), (0, .ref o), (1, .int (iI x)), (2, .int (iI (S.1 0))), (3, .int (iI (tGP (S.1 0)))), (5, .int (iI z))]) (by decide) rfl dL_areBanks_152 rfl ?_
                refine g_iinc X (lv' := [(5, .int (iI (z + 1))), (4, .int (iI 1)), (7, .int (iI ad)), (6, .int (iI ad)), (0, .ref o), (1, .int (iI x)), (2, .int (iI (S.1 0))), (3, .int (iI (tGP (S.1 0))))]) 7 rfl (by decide) rfl dL_areBanks_154 rfl ?_
                refine g_goto X (n := 55) dL_areBanks_157 (by decide) ?_
                refine g_lv (lv' := [(0, .ref o), (1, .int (iI x)), (2, .int (iI (S.1 0))), (3, .int (iI (tGP (S.1 0)))), (4, .int (iI 1)), (5, .int (iI (z + 1)))]) [4, 5, 6, 7, 1, 0] rfl ?_
                exact ih (z + 1) _ (by omega) (by omega) (by omega) hO_12
            · refine g_iload_n X 5 rfl dL_areBanks_138 rfl ?_
              refine g_goto X (n := 143) dL_areBanks_139 (by decide) ?_
              refine g_irem X ⟨⟨by omega, by omega⟩, by omega, by omega⟩ dL_areBanks_143 rfl ?_
              refine g_icmp_ne X ⟨by have := bkG_rng hPA.S ad; omega, by have := bkG_rng hPA.S ad; omega⟩ (em_rng (by omega) (by omega) (by omega)) (tgt := 151) dL_areBanks_144 (by decide) rfl (fun h_16 => ?_) (fun h_16 => ?_)
              · exfalso
                unfold bkG at h_16
                omega
              · refine g_iconst X (z := 1) dL_areBanks_147 rfl ?_
                refine g_goto X (n := 152) dL_areBanks_148 (by decide) ?_
                refine g_istore X (lv' := [(4, .int (iI 1)), (7, .int (iI ad)), (6, .int (iI ad)), (0, .ref o), (1, .int (iI x)), (2, .int (iI (S.1 0))), (3, .int (iI (tGP (S.1 0)))), (5, .int (iI z))]) (by decide) rfl dL_areBanks_152 rfl ?_
                refine g_iinc X (lv' := [(5, .int (iI (z + 1))), (4, .int (iI 1)), (7, .int (iI ad)), (6, .int (iI ad)), (0, .ref o), (1, .int (iI x)), (2, .int (iI (S.1 0))), (3, .int (iI (tGP (S.1 0))))]) 7 rfl (by decide) rfl dL_areBanks_154 rfl ?_
                refine g_goto X (n := 55) dL_areBanks_157 (by decide) ?_
                refine g_lv (lv' := [(0, .ref o), (1, .int (iI x)), (2, .int (iI (S.1 0))), (3, .int (iI (tGP (S.1 0)))), (4, .int (iI 1)), (5, .int (iI (z + 1)))]) [4, 5, 6, 7, 1, 0] rfl ?_
                exact ih (z + 1) _ (by omega) (by omega) (by omega) hO_12
          · refine g_iload X 0 rfl dL_areBanks_107 rfl ?_
            refine g_iload X 0 rfl dL_areBanks_109 rfl ?_
            refine g_iload_n X 3 rfl dL_areBanks_111 rfl ?_
            refine g_idiv X ⟨⟨by omega, by omega⟩, by omega, by omega⟩ dL_areBanks_112 rfl ?_
            refine g_iadd X dL_areBanks_113 rfl ?_
            refine g_goto X (n := 119) dL_areBanks_114 (by decide) ?_
            refine g_istore X (lv' := [(7, .int (iI (ad + (ad / S.1 0)))), (6, .int (iI ad)), (0, .ref o), (1, .int (iI x)), (2, .int (iI (S.1 0))), (3, .int (iI (tGP (S.1 0)))), (4, .int (iI 1)), (5, .int (iI z))]) (by decide) rfl dL_areBanks_119 rfl ?_
            refine g_aload_n X 2 rfl dL_areBanks_121 rfl ?_
            refine g_iload X 1 rfl dL_areBanks_122 rfl ?_
            refine k_call X (v := bkG S.1 ad) (fun Sg => kt_bankOf l Sg S ad) (As := [.int (iI ad)]) (rest := []) rfl ca_X5_bankOf rfl wm_L_22 wi_X5_bankOf ws_X5_bankOf wc_X5_bankOf ⟨by decide, by decide⟩ (by decide) ⟨by decide, by decide⟩ rfl dL_areBanks_124 rfl hO_7 ⟨hW, ⟨by omega, by omega⟩⟩ (by rw [anBankOf, if_pos (by omega)]) (fun M_18 hO_17 => ?_)
            refine g_iload X 0 rfl dL_areBanks_127 rfl ?_
            refine g_aload_n X 2 rfl dL_areBanks_129 rfl ?_
            refine g_iconst X (z := 2) dL_areBanks_130 rfl ?_
            refine k_call X (v := S.1 2) (fun Sg => kt_count l Sg S 2) (As := [.int (iI 2)]) (rest := [.int (iI (ad + (ad / S.1 0))), .int (iI (bkG S.1 ad))]) rfl ca_X5_count rfl wm_L_9 wi_X5_count ws_X5_count wc_X5_count ⟨by decide, by decide⟩ (Nat.le_of_ble_eq_true rfl) ⟨by decide, by decide⟩ rfl dL_areBanks_131 rfl hO_17 ⟨hW, ⟨by decide, by decide⟩⟩ (c_low S (by decide)) (fun M_20 hO_19 => ?_)
            refine g_iconst X (z := 2) dL_areBanks_134 rfl ?_
            refine g_icmp_ne X ⟨by omega, by omega⟩ ⟨by decide, by decide⟩ (tgt := 142) dL_areBanks_135 (by decide) rfl (fun h_21 => ?_) (fun h_21 => ?_)
            · refine g_iload_n X 4 rfl dL_areBanks_142 rfl ?_
              refine g_irem X ⟨⟨by omega, by omega⟩, by omega, by omega⟩ dL_areBanks_143 rfl ?_
              refine g_icmp_ne X ⟨by have := bkG_rng hPA.S ad; omega, by have := bkG_rng hPA.S ad; omega⟩ (em_rng (by omega) (by omega) (by omega)) (tgt := 151) dL_areBanks_144 (by decide) rfl (fun h_22 => ?_) (fun h_22 => ?_)
              · exfalso
                unfold bkG at h_22
                omega
              · refine g_iconst X (z := 1) dL_areBanks_147 rfl ?_
                refine g_goto X (n := 152) dL_areBanks_148 (by decide) ?_
                refine g_istore X (lv' := [(4, .int (iI 1)), (7, .int (iI (ad + (ad / S.1 0)))), (6, .int (iI ad)), (0, .ref o), (1, .int (iI x)), (2, .int (iI (S.1 0))), (3, .int (iI (tGP (S.1 0)))), (5, .int (iI z))]) (by decide) rfl dL_areBanks_152 rfl ?_
                refine g_iinc X (lv' := [(5, .int (iI (z + 1))), (4, .int (iI 1)), (7, .int (iI (ad + (ad / S.1 0)))), (6, .int (iI ad)), (0, .ref o), (1, .int (iI x)), (2, .int (iI (S.1 0))), (3, .int (iI (tGP (S.1 0))))]) 7 rfl (by decide) rfl dL_areBanks_154 rfl ?_
                refine g_goto X (n := 55) dL_areBanks_157 (by decide) ?_
                refine g_lv (lv' := [(0, .ref o), (1, .int (iI x)), (2, .int (iI (S.1 0))), (3, .int (iI (tGP (S.1 0)))), (4, .int (iI 1)), (5, .int (iI (z + 1)))]) [4, 5, 6, 7, 1, 0] rfl ?_
                exact ih (z + 1) _ (by omega) (by omega) (by omega) hO_19
            · refine g_iload_n X 5 rfl dL_areBanks_138 rfl ?_
              refine g_goto X (n := 143) dL_areBanks_139 (by decide) ?_
              refine g_irem X ⟨⟨by omega, by omega⟩, by omega, by omega⟩ dL_areBanks_143 rfl ?_
              refine g_icmp_ne X ⟨by have := bkG_rng hPA.S ad; omega, by have := bkG_rng hPA.S ad; omega⟩ (em_rng (by omega) (by omega) (by omega)) (tgt := 151) dL_areBanks_144 (by decide) rfl (fun h_23 => ?_) (fun h_23 => ?_)
              · exfalso
                unfold bkG at h_23
                omega
              · refine g_iconst X (z := 1) dL_areBanks_147 rfl ?_
                refine g_goto X (n := 152) dL_areBanks_148 (by decide) ?_
                refine g_istore X (lv' := [(4, .int (iI 1)), (7, .int (iI (ad + (ad / S.1 0)))), (6, .int (iI ad)), (0, .ref o), (1, .int (iI x)), (2, .int (iI (S.1 0))), (3, .int (iI (tGP (S.1 0)))), (5, .int (iI z))]) (by decide) rfl dL_areBanks_152 rfl ?_
                refine g_iinc X (lv' := [(5, .int (iI (z + 1))), (4, .int (iI 1)), (7, .int (iI (ad + (ad / S.1 0)))), (6, .int (iI ad)), (0, .ref o), (1, .int (iI x)), (2, .int (iI (S.1 0))), (3, .int (iI (tGP (S.1 0))))]) 7 rfl (by decide) rfl dL_areBanks_154 rfl ?_
                refine g_goto X (n := 55) dL_areBanks_157 (by decide) ?_
                refine g_lv (lv' := [(0, .ref o), (1, .int (iI x)), (2, .int (iI (S.1 0))), (3, .int (iI (tGP (S.1 0)))), (4, .int (iI 1)), (5, .int (iI (z + 1)))]) [4, 5, 6, 7, 1, 0] rfl ?_
                exact ih (z + 1) _ (by omega) (by omega) (by omega) hO_19
        · refine g_iload X 0 rfl dL_areBanks_93 rfl ?_
          refine g_goto X (n := 119) dL_areBanks_95 (by decide) ?_
          refine g_istore X (lv' := [(7, .int (iI ad)), (6, .int (iI ad)), (0, .ref o), (1, .int (iI x)), (2, .int (iI (S.1 0))), (3, .int (iI (tGP (S.1 0)))), (4, .int (iI 1)), (5, .int (iI z))]) (by decide) rfl dL_areBanks_119 rfl ?_
          refine g_aload_n X 2 rfl dL_areBanks_121 rfl ?_
          refine g_iload X 1 rfl dL_areBanks_122 rfl ?_
          refine k_call X (v := bkG S.1 ad) (fun Sg => kt_bankOf l Sg S ad) (As := [.int (iI ad)]) (rest := []) rfl ca_X5_bankOf rfl wm_L_22 wi_X5_bankOf ws_X5_bankOf wc_X5_bankOf ⟨by decide, by decide⟩ (by decide) ⟨by decide, by decide⟩ rfl dL_areBanks_124 rfl hO_4 ⟨hW, ⟨by omega, by omega⟩⟩ (by rw [anBankOf, if_pos (by omega)]) (fun M_25 hO_24 => ?_)
          refine g_iload X 0 rfl dL_areBanks_127 rfl ?_
          refine g_aload_n X 2 rfl dL_areBanks_129 rfl ?_
          refine g_iconst X (z := 2) dL_areBanks_130 rfl ?_
          refine k_call X (v := S.1 2) (fun Sg => kt_count l Sg S 2) (As := [.int (iI 2)]) (rest := [.int (iI ad), .int (iI (bkG S.1 ad))]) rfl ca_X5_count rfl wm_L_9 wi_X5_count ws_X5_count wc_X5_count ⟨by decide, by decide⟩ (Nat.le_of_ble_eq_true rfl) ⟨by decide, by decide⟩ rfl dL_areBanks_131 rfl hO_24 ⟨hW, ⟨by decide, by decide⟩⟩ (c_low S (by decide)) (fun M_27 hO_26 => ?_)
          refine g_iconst X (z := 2) dL_areBanks_134 rfl ?_
          refine g_icmp_ne X ⟨by omega, by omega⟩ ⟨by decide, by decide⟩ (tgt := 142) dL_areBanks_135 (by decide) rfl (fun h_28 => ?_) (fun h_28 => ?_)
          · refine g_iload_n X 4 rfl dL_areBanks_142 rfl ?_
            refine g_irem X ⟨⟨by omega, by omega⟩, by omega, by omega⟩ dL_areBanks_143 rfl ?_
            refine g_icmp_ne X ⟨by have := bkG_rng hPA.S ad; omega, by have := bkG_rng hPA.S ad; omega⟩ (em_rng (by omega) (by omega) (by omega)) (tgt := 151) dL_areBanks_144 (by decide) rfl (fun h_29 => ?_) (fun h_29 => ?_)
            · exfalso
              unfold bkG at h_29
              omega
            · refine g_iconst X (z := 1) dL_areBanks_147 rfl ?_
              refine g_goto X (n := 152) dL_areBanks_148 (by decide) ?_
              refine g_istore X (lv' := [(4, .int (iI 1)), (7, .int (iI ad)), (6, .int (iI ad)), (0, .ref o), (1, .int (iI x)), (2, .int (iI (S.1 0))), (3, .int (iI (tGP (S.1 0)))), (5, .int (iI z))]) (by decide) rfl dL_areBanks_152 rfl ?_
              refine g_iinc X (lv' := [(5, .int (iI (z + 1))), (4, .int (iI 1)), (7, .int (iI ad)), (6, .int (iI ad)), (0, .ref o), (1, .int (iI x)), (2, .int (iI (S.1 0))), (3, .int (iI (tGP (S.1 0))))]) 7 rfl (by decide) rfl dL_areBanks_154 rfl ?_
              refine g_goto X (n := 55) dL_areBanks_157 (by decide) ?_
              refine g_lv (lv' := [(0, .ref o), (1, .int (iI x)), (2, .int (iI (S.1 0))), (3, .int (iI (tGP (S.1 0)))), (4, .int (iI 1)), (5, .int (iI (z + 1)))]) [4, 5, 6, 7, 1, 0] rfl ?_
              exact ih (z + 1) _ (by omega) (by omega) (by omega) hO_26
          · refine g_iload_n X 5 rfl dL_areBanks_138 rfl ?_
            refine g_goto X (n := 143) dL_areBanks_139 (by decide) ?_
            refine g_irem X ⟨⟨by omega, by omega⟩, by omega, by omega⟩ dL_areBanks_143 rfl ?_
            refine g_icmp_ne X ⟨by have := bkG_rng hPA.S ad; omega, by have := bkG_rng hPA.S ad; omega⟩ (em_rng (by omega) (by omega) (by omega)) (tgt := 151) dL_areBanks_144 (by decide) rfl (fun h_30 => ?_) (fun h_30 => ?_)
            · exfalso
              unfold bkG at h_30
              omega
            · refine g_iconst X (z := 1) dL_areBanks_147 rfl ?_
              refine g_goto X (n := 152) dL_areBanks_148 (by decide) ?_
              refine g_istore X (lv' := [(4, .int (iI 1)), (7, .int (iI ad)), (6, .int (iI ad)), (0, .ref o), (1, .int (iI x)), (2, .int (iI (S.1 0))), (3, .int (iI (tGP (S.1 0)))), (5, .int (iI z))]) (by decide) rfl dL_areBanks_152 rfl ?_
              refine g_iinc X (lv' := [(5, .int (iI (z + 1))), (4, .int (iI 1)), (7, .int (iI ad)), (6, .int (iI ad)), (0, .ref o), (1, .int (iI x)), (2, .int (iI (S.1 0))), (3, .int (iI (tGP (S.1 0))))]) 7 rfl (by decide) rfl dL_areBanks_154 rfl ?_
              refine g_goto X (n := 55) dL_areBanks_157 (by decide) ?_
              refine g_lv (lv' := [(0, .ref o), (1, .int (iI x)), (2, .int (iI (S.1 0))), (3, .int (iI (tGP (S.1 0)))), (4, .int (iI 1)), (5, .int (iI (z + 1)))]) [4, 5, 6, 7, 1, 0] rfl ?_
              exact ih (z + 1) _ (by omega) (by omega) (by omega) hO_26
  refine g_aload_n X 0 rfl dL_areBanks_0 rfl ?_
  refine g_iconst X (z := 0) dL_areBanks_1 rfl ?_
  refine k_call X (v := S.1 0) (fun Sg => kt_count l Sg S 0) (As := [.int (iI 0)]) (rest := []) rfl ca_X5_count rfl wm_L_9 wi_X5_count ws_X5_count wc_X5_count ⟨by decide, by decide⟩ (by decide) ⟨by decide, by decide⟩ rfl dL_areBanks_2 rfl hO ⟨hW, ⟨by decide, by decide⟩⟩ (c_low S (by decide)) (fun M_32 hO_31 => ?_)
  refine g_istore_n X (lv' := [(2, .int (iI (S.1 0))), (0, .ref o), (1, .int (iI x))]) (by decide) rfl dL_areBanks_5 rfl ?_
  refine g_aload_n X 1 rfl dL_areBanks_6 rfl ?_
  refine g_bipush X (z := 11) (by decide +kernel) dL_areBanks_7 rfl ?_
  refine k_call X (v := tGP (S.1 0)) (fun Sg => kt_count l Sg S 11) (As := [.int (iI 11)]) (rest := []) rfl ca_X5_count rfl wm_L_9 wi_X5_count ws_X5_count wc_X5_count ⟨by decide, by decide⟩ (by decide) ⟨by decide, by decide⟩ rfl dL_areBanks_9 rfl hO_31 ⟨hW, ⟨by decide, by decide⟩⟩ (c_11 S) (fun M_34 hO_33 => ?_)
  refine g_istore_n X (lv' := [(3, .int (iI (tGP (S.1 0)))), (2, .int (iI (S.1 0))), (0, .ref o), (1, .int (iI x))]) (by decide) rfl dL_areBanks_12 rfl ?_
  refine g_iload_n X 0 rfl dL_areBanks_13 rfl ?_
  refine g_iload_n X 1 rfl dL_areBanks_14 rfl ?_
  refine g_icmp_gt X ⟨by omega, by omega⟩ ⟨by omega, by omega⟩ (tgt := 49) dL_areBanks_15 (by decide) rfl (fun h_35 => ?_) (fun h_35 => ?_)
  · exfalso
    omega
  · refine g_iload_n X 0 rfl dL_areBanks_18 rfl ?_
    refine g_iconst X (z := 2) dL_areBanks_19 rfl ?_
    refine g_icmp_lt X ⟨by omega, by omega⟩ ⟨by decide, by decide⟩ (tgt := 49) dL_areBanks_20 (by decide) rfl (fun h_36 => ?_) (fun h_36 => ?_)
    · exfalso
      omega
    · refine g_aload_n X 2 rfl dL_areBanks_23 rfl ?_
      refine g_sipush X (z := 4096) (by decide +kernel) dL_areBanks_24 rfl ?_
      refine k_call X (v := -2) (fun Sg => kt_bankOf l Sg S 4096) (As := [.int (iI 4096)]) (rest := []) rfl ca_X5_bankOf rfl wm_L_22 wi_X5_bankOf ws_X5_bankOf wc_X5_bankOf ⟨by decide, by decide⟩ (by decide) ⟨by decide, by decide⟩ rfl dL_areBanks_27 rfl hO_33 ⟨hW, ⟨by decide, by decide⟩⟩ (by rw [anBankOf, if_neg (by decide)]) (fun M_38 hO_37 => ?_)
      refine g_bipush X (z := -2) (by decide +kernel) dL_areBanks_30 rfl ?_
      refine g_icmp_ne X ⟨by decide, by decide⟩ ⟨by omega, by omega⟩ (tgt := 49) dL_areBanks_32 (by decide) rfl (fun h_39 => ?_) (fun h_39 => ?_)
      · exfalso
        omega
      · refine g_aload_n X 2 rfl dL_areBanks_35 rfl ?_
        refine g_iconst X (z := -1) dL_areBanks_36 rfl ?_
        refine k_call X (v := -2) (fun Sg => kt_bankOf l Sg S (-1)) (As := [.int (iI (-1))]) (rest := []) rfl ca_X5_bankOf rfl wm_L_22 wi_X5_bankOf ws_X5_bankOf wc_X5_bankOf ⟨by decide, by decide⟩ (by decide) ⟨by decide, by decide⟩ rfl dL_areBanks_37 rfl hO_37 ⟨hW, ⟨by omega, by omega⟩⟩ (by rw [anBankOf, if_neg (by decide)]) (fun M_41 hO_40 => ?_)
        refine g_bipush X (z := -2) (by decide +kernel) dL_areBanks_40 rfl ?_
        refine g_icmp_ne X ⟨by decide, by decide⟩ ⟨by omega, by omega⟩ (tgt := 49) dL_areBanks_42 (by decide) rfl (fun h_42 => ?_) (fun h_42 => ?_)
        · exfalso
          omega
        · refine g_iconst X (z := 1) dL_areBanks_45 rfl ?_
          refine g_goto X (n := 50) dL_areBanks_46 (by decide) ?_
          refine g_istore X (lv' := [(4, .int (iI 1)), (3, .int (iI (tGP (S.1 0)))), (2, .int (iI (S.1 0))), (0, .ref o), (1, .int (iI x))]) (by decide) rfl dL_areBanks_50 rfl ?_
          refine g_iconst X (z := 0) dL_areBanks_52 rfl ?_
          refine g_istore X (lv' := [(5, .int (iI 0)), (4, .int (iI 1)), (3, .int (iI (tGP (S.1 0)))), (2, .int (iI (S.1 0))), (0, .ref o), (1, .int (iI x))]) (by decide) rfl dL_areBanks_53 rfl ?_
          refine g_lv (lv' := [(0, .ref o), (1, .int (iI x)), (2, .int (iI (S.1 0))), (3, .int (iI (tGP (S.1 0)))), (4, .int (iI 1)), (5, .int (iI 0))]) [4, 5, 3, 2, 1, 0] rfl ?_
          exact lp 21 0 _ (by decide) (by decide) (by decide) hO_40
