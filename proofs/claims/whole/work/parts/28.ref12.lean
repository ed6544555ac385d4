/-! the reference: signs and numbers of the pad -/
set_option maxRecDepth 100000 in
set_option maxHeartbeats 4000000 in
theorem ct_X6_isSign (l : Launch) (μ : Nat → Nat) (q g : Int → Int) (pa : Int → Int) (lo hi : Int) : Ct l yX6_isSign cX6_isSign 3 (some .boolean) 0 0 0 (fun ca av L M => av = [.ref (μ 0), .int (iI lo), .int (iI hi)] ∧ MuOk μ L ∧ M (μ 0) = oMd μ q ∧ M (μ 1) = cI ca 110 g ∧ M (μ 8) = cC ca 60 pa ∧ InvP pa ∧ (0 ≤ q 0 ∧ q 0 ≤ 60) ∧ (0 ≤ q 3 ∧ q 3 ≤ 60) ∧ R32 lo ∧ R32 hi) (fun ca av L M r L1 M1 => r = some (.int (iI (if isSg pa (q 0) (q 3) lo hi then 1 else 0))) ∧ L = L1 ∧ M = M1) := by
  refine Ct_of (own := RX6) (by decide) rfl (by rintro _ _ _ _ ⟨rfl, _⟩; exact Nat.le_of_ble_eq_true rfl) ?_
  rintro p e s m args below meth c D ca A av L M ⟨rfl, hμ, hMo, hMs, hM8, hP, hq0, hq3, hlo, hhi⟩ X hret hname
  refine g_lv (lv' := [(0, .ref (μ 0)), (1, .int (iI lo)), (2, .int (iI hi))]) [0, 1, 2] rfl ?_
  have hpr : q 3 < q 0 → R32 (pa (q 3)) := fun h => by have := hP (q 3) (by omega) (by omega); exact ⟨by omega, by omega⟩
  refine g_aload_n X 0 rfl dX6_isSign_0 rfl ?_
  refine g_get X cl_X6 11 (by decide) wf_X6_96 rfl (hμ.mem 0 (by decide)) hMo rfl dX6_isSign_1 rfl ?_
  refine g_aload_n X 0 rfl dX6_isSign_4 rfl ?_
  refine g_get X cl_X6 8 (by decide) wf_X6_99 rfl (hμ.mem 0 (by decide)) hMo rfl dX6_isSign_5 rfl ?_
  refine g_icmp_ge X ⟨by omega, by omega⟩ ⟨by omega, by omega⟩ (tgt := 41) dX6_isSign_8 (by decide) rfl (fun h_1 => ?_) (fun h_1 => ?_)
  · refine g_iconst X (z := 0) dX6_isSign_41 rfl ?_
    exact g_zret X hret (by rfl) ⟨Nat.le_of_ble_eq_true rfl, Nat.le_of_ble_eq_true rfl⟩ dX6_isSign_42 ⟨by rw [if_neg (by omega)], rfl, rfl⟩
  · refine g_aload_n X 0 rfl dX6_isSign_11 rfl ?_
    refine g_get X cl_X6 7 (by decide) wf_X6_32 rfl (hμ.mem 0 (by decide)) hMo rfl dX6_isSign_12 rfl ?_
    refine g_aload_n X 0 rfl dX6_isSign_15 rfl ?_
    refine g_get X cl_X6 11 (by decide) wf_X6_96 rfl (hμ.mem 0 (by decide)) hMo rfl dX6_isSign_16 rfl ?_
    refine g_cald X (hμ.mem 8 (by decide)) hM8 ⟨by omega, by omega⟩ (by decide) dX6_isSign_19 rfl ?_
    refine g_iload_n X 1 rfl dX6_isSign_20 rfl ?_
    refine g_icmp_lt X (hpr (by omega)) hlo (tgt := 41) dX6_isSign_21 (by decide) rfl (fun h_2 => ?_) (fun h_2 => ?_)
    · refine g_iconst X (z := 0) dX6_isSign_41 rfl ?_
      exact g_zret X hret (by rfl) ⟨Nat.le_of_ble_eq_true rfl, Nat.le_of_ble_eq_true rfl⟩ dX6_isSign_42 ⟨by rw [if_neg (by omega)], rfl, rfl⟩
    · refine g_aload_n X 0 rfl dX6_isSign_24 rfl ?_
      refine g_get X cl_X6 7 (by decide) wf_X6_32 rfl (hμ.mem 0 (by decide)) hMo rfl dX6_isSign_25 rfl ?_
      refine g_aload_n X 0 rfl dX6_isSign_28 rfl ?_
      refine g_get X cl_X6 11 (by decide) wf_X6_96 rfl (hμ.mem 0 (by decide)) hMo rfl dX6_isSign_29 rfl ?_
      refine g_cald X (hμ.mem 8 (by decide)) hM8 ⟨by omega, by omega⟩ (by decide) dX6_isSign_32 rfl ?_
      refine g_iload_n X 2 rfl dX6_isSign_33 rfl ?_
      refine g_icmp_gt X (hpr (by omega)) hhi (tgt := 41) dX6_isSign_34 (by decide) rfl (fun h_3 => ?_) (fun h_3 => ?_)
      · refine g_iconst X (z := 0) dX6_isSign_41 rfl ?_
        exact g_zret X hret (by rfl) ⟨Nat.le_of_ble_eq_true rfl, Nat.le_of_ble_eq_true rfl⟩ dX6_isSign_42 ⟨by rw [if_neg (by omega)], rfl, rfl⟩
      · refine g_iconst X (z := 1) dX6_isSign_37 rfl ?_
        refine g_goto X (n := 42) dX6_isSign_38 (by decide) ?_
        exact g_zret X hret (by rfl) ⟨Nat.le_of_ble_eq_true rfl, Nat.le_of_ble_eq_true rfl⟩ dX6_isSign_42 ⟨by rw [if_pos (by omega)], rfl, rfl⟩
set_option maxRecDepth 100000 in
set_option maxHeartbeats 4000000 in
theorem ct_X6_accepts (l : Launch) (μ : Nat → Nat) (q g : Int → Int) (pa : Int → Int) (ch : Int) : Ct l yX6_accepts cX6_accepts 3 (some .boolean) 1 0 0 (fun ca av L M => av = [.ref (μ 0), .int (iI ch)] ∧ MuOk μ L ∧ M (μ 0) = oMd μ q ∧ M (μ 1) = cI ca 110 g ∧ M (μ 8) = cC ca 60 pa ∧ InvP pa ∧ (0 ≤ q 0 ∧ q 0 ≤ 60) ∧ (0 ≤ q 3 ∧ q 3 ≤ 60) ∧ R32 ch) (fun ca av L M r L1 M1 => r = some (.int (iI (if isSg pa (q 0) (q 3) ch ch then 1 else 0))) ∧ L = L1 ∧ M1 (μ 0) = oMd μ (up q 3 (q 3 + if isSg pa (q 0) (q 3) ch ch then 1 else 0)) ∧ ∀ b, b ≠ μ 0 → M1 b = M b) := by
  refine Ct_of (own := RX6) (by decide) rfl (by rintro _ _ _ _ ⟨rfl, _⟩; exact Nat.le_of_ble_eq_true rfl) ?_
  rintro p e s m args below meth c D ca A av L M ⟨rfl, hμ, hMo, hMs, hM8, hP, hq0, hq3, hch⟩ X hret hname
  refine g_lv (lv' := [(0, .ref (μ 0)), (1, .int (iI ch))]) [0, 1] rfl ?_
  refine g_aload_n X 0 rfl dX6_accepts_0 rfl ?_
  refine g_iload_n X 1 rfl dX6_accepts_1 rfl ?_
  refine g_iload_n X 1 rfl dX6_accepts_2 rfl ?_
  refine g_callV X (ct_X6_isSign l μ q g pa ch ch) (As := [.int (iI ch), .int (iI ch)]) (rest := []) cl_X6 rfl ca_X6_isSign rfl wm_X6_102 wi_X6_isSign ws_X6_isSign wc_X6_isSign w0_X6 ⟨by decide, by decide⟩ (hμ.mem 0 (by decide)) hMo (by decide) ⟨by decide, by decide⟩ rfl dX6_accepts_3 rfl ⟨rfl, hμ, hMo, hMs, hM8, hP, hq0, hq3, hch, hch⟩ (fun r1 L1 M1 hq => ?_)
  obtain ⟨rfl, rfl, rfl⟩ := hq
  refine g_st (st' := [.int (iI (if isSg pa (q 0) (q 3) ch ch then 1 else 0))]) rfl ?_
  refine g_istore_n X (lv' := [(2, .int (iI (if isSg pa (q 0) (q 3) ch ch then 1 else 0))), (0, .ref (μ 0)), (1, .int (iI ch))]) (by decide) rfl dX6_accepts_6 rfl ?_
  refine g_aload_n X 1 rfl dX6_accepts_7 rfl ?_
  refine g_dup X rfl dX6_accepts_8 rfl ?_
  refine g_get X cl_X6 11 (by decide) wf_X6_96 rfl (hμ.mem 0 (by decide)) hMo rfl dX6_accepts_9 rfl ?_
  refine g_iload_n X 0 rfl dX6_accepts_12 rfl ?_
  refine g_if_eqb X (tgt := 20) dX6_accepts_13 (by decide) rfl (fun h_1 => ?_) (fun h_1 => ?_)
  · refine g_iconst X (z := 0) dX6_accepts_20 rfl ?_
    refine g_iadd X dX6_accepts_21 rfl ?_
    refine g_st (st' := [.int (iI (q 3)), .ref (μ 0)]) (by rw [Int.add_zero]) ?_
    refine g_put X cl_X6 11 (by decide) wf_X6_96 rfl (hμ.mem 0 (by decide)) hMo rfl rfl rfl (Nat.le_of_ble_eq_true rfl) (fs' := [.ref (μ 1), .ref (μ 2), .ref (μ 3), .ref (μ 4), .ref (μ 5), .ref (μ 6), .ref (μ 7), .ref (μ 8), .int (iI (q 0)), .int (iI (q 1)), .int (iI (q 2)), .int (iI (q 3))]) rfl dX6_accepts_22 rfl (fun M_2 hM_3 fr_4 => ?_)
    have hM_5 : M_2 (μ 1) = cI ca 110 g := (fr_4 (μ 1) (hμ.ne (i := 1) (j := 0) (by decide) (by decide) (by decide))).trans hMs
    have hM_6 : M_2 (μ 8) = cC ca 60 pa := (fr_4 (μ 8) (hμ.ne (i := 8) (j := 0) (by decide) (by decide) (by decide))).trans hM8
    refine g_iload_n X 0 rfl dX6_accepts_25 rfl ?_
    exact g_zret X hret nar_ite ⟨Nat.le_of_ble_eq_true rfl, Nat.le_of_ble_eq_true rfl⟩ dX6_accepts_26 ⟨rfl, rfl, (hM_3).trans (by rw [if_neg h_1, Int.add_zero, oMd_up3]), fun b hb => (fr_4 b hb)⟩
  · refine g_iconst X (z := 1) dX6_accepts_16 rfl ?_
    refine g_goto X (n := 21) dX6_accepts_17 (by decide) ?_
    refine g_iadd X dX6_accepts_21 rfl ?_
    refine g_put X cl_X6 11 (by decide) wf_X6_96 rfl (hμ.mem 0 (by decide)) hMo rfl rfl rfl (Nat.le_of_ble_eq_true rfl) (fs' := [.ref (μ 1), .ref (μ 2), .ref (μ 3), .ref (μ 4), .ref (μ 5), .ref (μ 6), .ref (μ 7), .ref (μ 8), .int (iI (q 0)), .int (iI (q 1)), .int (iI (q 2)), .int (iI (q 3 + 1))]) rfl dX6_accepts_22 rfl (fun M_7 hM_8 fr_9 => ?_)
    have hM_10 : M_7 (μ 1) = cI ca 110 g := (fr_9 (μ 1) (hμ.ne (i := 1) (j := 0) (by decide) (by decide) (by decide))).trans hMs
    have hM_11 : M_7 (μ 8) = cC ca 60 pa := (fr_9 (μ 8) (hμ.ne (i := 8) (j := 0) (by decide) (by decide) (by decide))).trans hM8
    refine g_iload_n X 0 rfl dX6_accepts_25 rfl ?_
    exact g_zret X hret nar_ite ⟨Nat.le_of_ble_eq_true rfl, Nat.le_of_ble_eq_true rfl⟩ dX6_accepts_26 ⟨rfl, rfl, (hM_8).trans (by rw [if_pos h_1, oMd_up3]), fun b hb => (fr_9 b hb)⟩
set_option maxRecDepth 100000 in
set_option maxHeartbeats 4000000 in
theorem ct_X6_number (l : Launch) (μ : Nat → Nat) (q g : Int → Int) (pa rd : Int → Int) (p0 lo hi : Int) : Ct l yX6_number cX6_number 5 (some .boolean) 1 0 0 (fun ca av L M => av = [.ref (μ 0), .int (iI p0), .int (iI lo), .int (iI hi)] ∧ MuOk μ L ∧ M (μ 0) = oMd μ q ∧ M (μ 1) = cI ca 110 g ∧ M (μ 8) = cC ca 60 pa ∧ InvP pa ∧ (0 ≤ q 0 ∧ q 0 ≤ 60) ∧ (0 ≤ q 3 ∧ q 3 ≤ 60) ∧ M (μ 7) = cI ca 33 rd ∧ (0 ≤ p0 ∧ p0 ≤ 2) ∧ (0 ≤ q 2 ∧ 3 * q 2 + p0 ≤ 32) ∧ (0 ≤ lo ∧ lo ≤ 1) ∧ (0 ≤ hi ∧ hi ≤ 4095)) (fun ca av L M r L1 M1 => r = some (.int (iI (if nmT pa (q 0) (q 3) lo then 1 else 0))) ∧ L = L1 ∧ M1 (μ 0) = oMd μ (up q 3 (if nmT pa (q 0) (q 3) lo then nmA pa (q 0) (q 3) hi else q 3)) ∧ M1 (μ 7) = cI ca 33 (up rd (3 * q 2 + p0) (if nmT pa (q 0) (q 3) lo then nmV pa (q 0) (q 3) hi else 0)) ∧ ∀ b, b ≠ μ 0 → b ≠ μ 7 → M1 b = M b) := by
  refine Ct_of (own := RX6) (by decide) rfl (by rintro _ _ _ _ ⟨rfl, _⟩; exact Nat.le_of_ble_eq_true rfl) ?_
  rintro p e s m args below meth c D ca A av L M ⟨rfl, hμ, hMo, hMs, hM8, hP, hq0, hq3, hM7, hp, hq2, hlo, hhi⟩ X hret hname
  refine g_lv (lv' := [(0, .ref (μ 0)), (1, .int (iI p0)), (2, .int (iI lo)), (3, .int (iI hi))]) [0, 1, 2, 3] rfl ?_
  generalize hQ : MQ below _ args s _ _ A = Q
  have hpr : ∀ a, 0 ≤ a → a < 60 → R32 (pa a) := fun a h h2 => by have := hP a h h2; exact ⟨by omega, by omega⟩
  have lp : ∀ (n : Nat) (fu : Nat) (v a : Int) (M1 : Mem) (f : Int → Int) (hT : nmT pa (q 0) (q 3) lo) (hN : nmO pa (q 0) hi fu v a = nmO pa (q 0) hi 60 (pa (q 3) - 48) (q 3 + 1)) (hv0 : 0 ≤ v) (hv1 : v ≤ 4095) (ha0 : 0 ≤ a) (ha1 : a ≤ 60) (hfu : 60 ≤ a + fu) (hf : f = up rd (3 * q 2 + p0) v) (n0 : M1 (μ 0) = .inr (6, [.ref (μ 1), .ref (μ 2), .ref (μ 3), .ref (μ 4), .ref (μ 5), .ref (μ 6), .ref (μ 7), .ref (μ 8), .int (iI (q 0)), .int (iI (q 1)), .int (iI (q 2)), .int (iI a)])) (n1 : M1 (μ 1) = cI ca 110 g) (n7 : M1 (μ 7) = cI ca 33 f) (n8 : M1 (μ 8) = cC ca 60 pa) (hfr : ∀ b, b ≠ μ 0 → b ≠ μ 7 → M1 b = M b) (hm : 60 - a < (n : Int)), G p l e (Rm 1 0 0) s m args below meth c D A 5 Q 0 0 L M1 69 [(0, .ref (μ 0)), (3, .int (iI hi)), (4, .int (iI (3 * q 2 + p0)))] [] := by
    intro n
    induction n with
    | zero =>
      intro fu v a M1 f hT hN hv0 hv1 ha0 ha1 hfu hf n0 n1 n7 n8 hfr hm
      exfalso; omega
    | succ n ih =>
      intro fu v a M1 f hT hN hv0 hv1 ha0 ha1 hfu hf n0 n1 n7 n8 hfr hm
      refine g_aload_n X 0 rfl dX6_number_69 rfl ?_
      refine g_get X cl_X6 6 (by decide) wf_X6_29 rfl (hμ.mem 0 (by decide)) n0 rfl dX6_number_70 rfl ?_
      refine g_iload X 2 rfl dX6_number_73 rfl ?_
      refine g_iald X (hμ.mem 7 (by decide)) n7 ⟨by omega, by omega⟩ (by decide) dX6_number_75 rfl ?_
      have hr_1 : f (3 * q 2 + p0) = v := by rw [hf, up_eq]
      refine g_st (st' := [.int (iI v)]) (by rw [hr_1]) ?_
      refine g_if_le X ⟨by omega, by omega⟩ (tgt := 160) dX6_number_76 (by decide) rfl (fun h_2 => ?_) (fun h_2 => ?_)
      · refine g_iconst X (z := 1) dX6_number_160 rfl ?_
        subst hQ
        have hE : nmO pa (q 0) hi fu v a = (v, a) := by
          cases fu with
          | zero => rfl
          | succ f2 => simp only [nmO]; rw [if_neg (by omega)]
        exact g_zret X hret (by rfl) ⟨Nat.le_of_ble_eq_true rfl, Nat.le_of_ble_eq_true rfl⟩ dX6_number_161 ⟨by rw [if_pos hT], rfl, (n0).trans (by rw [if_pos hT, oMd_up3, nmA, ← hN, hE]), (n7).trans (by rw [if_pos hT, hf, nmV, ← hN, hE]), fun b hb hb7 => (hfr b hb hb7)⟩
      · refine g_aload_n X 0 rfl dX6_number_79 rfl ?_
        refine g_bipush X (z := 48) (by decide +kernel) dX6_number_80 rfl ?_
        refine g_bipush X (z := 57) (by decide +kernel) dX6_number_82 rfl ?_
        refine g_callV X (ct_X6_isSign l μ (up q 3 a) g pa 48 57) (As := [.int (iI 48), .int (iI 57)]) (rest := []) cl_X6 rfl ca_X6_isSign rfl wm_X6_102 wi_X6_isSign ws_X6_isSign wc_X6_isSign w0_X6 ⟨by decide, by decide⟩ (hμ.mem 0 (by decide)) n0 (by decide) ⟨by decide, by decide⟩ rfl dX6_number_84 rfl ⟨rfl, hμ, n0, n1, n8, hP, hq0, ⟨ha0, ha1⟩, ⟨by decide, by decide⟩, ⟨by decide, by decide⟩⟩ (fun r1 L1 M1 hq => ?_)
        obtain ⟨rfl, rfl, rfl⟩ := hq
        refine g_st (st' := [.int (iI (if isSg pa (q 0) a 48 57 then 1 else 0))]) rfl ?_
        refine g_if_eqb X (tgt := 160) dX6_number_87 (by decide) rfl (fun h_3 => ?_) (fun h_3 => ?_)
        · refine g_iconst X (z := 1) dX6_number_160 rfl ?_
          subst hQ
          have hE : nmO pa (q 0) hi fu v a = (v, a) := by
            cases fu with
            | zero => rfl
            | succ f2 => simp only [nmO]; rw [if_neg (by omega)]
          exact g_zret X hret (by rfl) ⟨Nat.le_of_ble_eq_true rfl, Nat.le_of_ble_eq_true rfl⟩ dX6_number_161 ⟨by rw [if_pos hT], rfl, (n0).trans (by rw [if_pos hT, oMd_up3, nmA, ← hN, hE]), (n7).trans (by rw [if_pos hT, hf, nmV, ← hN, hE]), fun b hb hb7 => (hfr b hb hb7)⟩
        · refine g_bipush X (z := 10) (by decide +kernel) dX6_number_90 rfl ?_
          refine g_aload_n X 0 rfl dX6_number_92 rfl ?_
          refine g_get X cl_X6 6 (by decide) wf_X6_29 rfl (hμ.mem 0 (by decide)) n0 rfl dX6_number_93 rfl ?_
          refine g_iload X 2 rfl dX6_number_96 rfl ?_
          refine g_iald X (hμ.mem 7 (by decide)) n7 ⟨by omega, by omega⟩ (by decide) dX6_number_98 rfl ?_
          have hr_4 : f (3 * q 2 + p0) = v := by rw [hf, up_eq]
          refine g_st (st' := [.int (iI v), .int (iI 10)]) (by rw [hr_4]) ?_
          refine g_imul X dX6_number_99 rfl ?_
          refine g_aload_n X 0 rfl dX6_number_100 rfl ?_
          refine g_get X cl_X6 7 (by decide) wf_X6_32 rfl (hμ.mem 0 (by decide)) n0 rfl dX6_number_101 rfl ?_
          refine g_aload_n X 0 rfl dX6_number_104 rfl ?_
          refine g_get X cl_X6 11 (by decide) wf_X6_96 rfl (hμ.mem 0 (by decide)) n0 rfl dX6_number_105 rfl ?_
          refine g_cald X (hμ.mem 8 (by decide)) n8 ⟨by omega, by omega⟩ (by decide) dX6_number_108 rfl ?_
          refine g_iadd X dX6_number_109 rfl ?_
          refine g_bipush X (z := 48) (by decide +kernel) dX6_number_110 rfl ?_
          refine g_isub X dX6_number_112 rfl ?_
          refine g_iload_n X 1 rfl dX6_number_113 rfl ?_
          refine g_icmp_gt X ⟨by have := hP a (by omega) (by omega); omega, by have := hP a (by omega) (by omega); omega⟩ ⟨by omega, by omega⟩ (tgt := 160) dX6_number_114 (by decide) rfl (fun h_5 => ?_) (fun h_5 => ?_)
          · refine g_iconst X (z := 1) dX6_number_160 rfl ?_
            subst hQ
            have hE : nmO pa (q 0) hi fu v a = (v, a) := by
              cases fu with
              | zero => rfl
              | succ f2 => simp only [nmO]; rw [if_neg (by omega)]
            exact g_zret X hret (by rfl) ⟨Nat.le_of_ble_eq_true rfl, Nat.le_of_ble_eq_true rfl⟩ dX6_number_161 ⟨by rw [if_pos hT], rfl, (n0).trans (by rw [if_pos hT, oMd_up3, nmA, ← hN, hE]), (n7).trans (by rw [if_pos hT, hf, nmV, ← hN, hE]), fun b hb hb7 => (hfr b hb hb7)⟩
          · refine g_aload_n X 0 rfl dX6_number_117 rfl ?_
            refine g_get X cl_X6 6 (by decide) wf_X6_29 rfl (hμ.mem 0 (by decide)) n0 rfl dX6_number_118 rfl ?_
            refine g_iload X 2 rfl dX6_number_121 rfl ?_
            refine g_bipush X (z := 10) (by decide +kernel) dX6_number_123 rfl ?_
            refine g_aload_n X 0 rfl dX6_number_125 rfl ?_
            refine g_get X cl_X6 6 (by decide) wf_X6_29 rfl (hμ.mem 0 (by decide)) n0 rfl dX6_number_126 rfl ?_
            refine g_iload X 2 rfl dX6_number_129 rfl ?_
            refine g_iald X (hμ.mem 7 (by decide)) n7 ⟨by omega, by omega⟩ (by decide) dX6_number_131 rfl ?_
            have hr_6 : f (3 * q 2 + p0) = v := by rw [hf, up_eq]
            refine g_st (st' := [.int (iI v), .int (iI 10), .int (iI (3 * q 2 + p0)), .ref (μ 7)]) (by rw [hr_6]) ?_
            refine g_imul X dX6_number_132 rfl ?_
            refine g_aload_n X 0 rfl dX6_number_133 rfl ?_
            refine g_get X cl_X6 7 (by decide) wf_X6_32 rfl (hμ.mem 0 (by decide)) n0 rfl dX6_number_134 rfl ?_
            refine g_aload_n X 0 rfl dX6_number_137 rfl ?_
            refine g_get X cl_X6 11 (by decide) wf_X6_96 rfl (hμ.mem 0 (by decide)) n0 rfl dX6_number_138 rfl ?_
            refine g_cald X (hμ.mem 8 (by decide)) n8 ⟨by omega, by omega⟩ (by decide) dX6_number_141 rfl ?_
            refine g_iadd X dX6_number_142 rfl ?_
            refine g_bipush X (z := 48) (by decide +kernel) dX6_number_143 rfl ?_
            refine g_isub X dX6_number_145 rfl ?_
            refine g_iast X (hμ.mem 7 (by decide)) n7 ⟨by omega, by omega⟩ (by decide) dX6_number_146 rfl (fun M_7 hM_8 fr_9 => ?_)
            obtain ⟨g_10, hg_11⟩ : ∃ x : Int → Int, x = up f (3 * q 2 + p0) (((10 * v) + pa a) - 48) := ⟨_, rfl⟩
            rw [← hg_11] at hM_8
            have hM_12 : M_7 (μ 0) = .inr (6, [.ref (μ 1), .ref (μ 2), .ref (μ 3), .ref (μ 4), .ref (μ 5), .ref (μ 6), .ref (μ 7), .ref (μ 8), .int (iI (q 0)), .int (iI (q 1)), .int (iI (q 2)), .int (iI a)]) := (fr_9 (μ 0) (hμ.ne (i := 0) (j := 7) (by decide) (by decide) (by decide))).trans n0
            have hM_13 : M_7 (μ 1) = cI ca 110 g := (fr_9 (μ 1) (hμ.ne (i := 1) (j := 7) (by decide) (by decide) (by decide))).trans n1
            have hM_14 : M_7 (μ 8) = cC ca 60 pa := (fr_9 (μ 8) (hμ.ne (i := 8) (j := 7) (by decide) (by decide) (by decide))).trans n8
            refine g_aload_n X 0 rfl dX6_number_147 rfl ?_
            refine g_dup X rfl dX6_number_148 rfl ?_
            refine g_get X cl_X6 11 (by decide) wf_X6_96 rfl (hμ.mem 0 (by decide)) hM_12 rfl dX6_number_149 rfl ?_
            refine g_iconst X (z := 1) dX6_number_152 rfl ?_
            refine g_iadd X dX6_number_153 rfl ?_
            refine g_put X cl_X6 11 (by decide) wf_X6_96 rfl (hμ.mem 0 (by decide)) hM_12 rfl rfl rfl (Nat.le_of_ble_eq_true rfl) (fs' := [.ref (μ 1), .ref (μ 2), .ref (μ 3), .ref (μ 4), .ref (μ 5), .ref (μ 6), .ref (μ 7), .ref (μ 8), .int (iI (q 0)), .int (iI (q 1)), .int (iI (q 2)), .int (iI (a + 1))]) rfl dX6_number_154 rfl (fun M_15 hM_16 fr_17 => ?_)
            have hM_18 : M_15 (μ 1) = cI ca 110 g := (fr_17 (μ 1) (hμ.ne (i := 1) (j := 0) (by decide) (by decide) (by decide))).trans hM_13
            have hM_19 : M_15 (μ 8) = cC ca 60 pa := (fr_17 (μ 8) (hμ.ne (i := 8) (j := 0) (by decide) (by decide) (by decide))).trans hM_14
            have hM_20 : M_15 (μ 7) = cI ca 33 g_10 := (fr_17 (μ 7) (hμ.ne (i := 7) (j := 0) (by decide) (by decide) (by decide))).trans hM_8
            refine g_goto X (n := 69) dX6_number_157 (by decide) ?_
            obtain ⟨f2, rfl⟩ : ∃ f2, fu = f2 + 1 := ⟨fu - 1, by omega⟩
            refine g_lv (lv' := [(0, .ref (μ 0)), (3, .int (iI hi)), (4, .int (iI (3 * q 2 + p0)))]) [0, 1, 2] rfl ?_
            exact ih f2 _ _ _ _ hT (by rw [← hN]; simp only [nmO]; rw [if_pos (by omega)]) (by have := hP a (by omega) (by omega); omega) (by have := hP a (by omega) (by omega); omega) (by omega) (by omega) (by omega) (by rw [hg_11, hf, up_up]) hM_16 hM_18 hM_20 hM_19 (fun b hb hb7 => ((fr_17 b hb).trans ((fr_9 b hb7).trans (hfr b hb hb7)))) (by omega)
  refine g_iconst X (z := 3) dX6_number_0 rfl ?_
  refine g_aload_n X 0 rfl dX6_number_1 rfl ?_
  refine g_get X cl_X6 10 (by decide) wf_X6_106 rfl (hμ.mem 0 (by decide)) hMo rfl dX6_number_2 rfl ?_
  refine g_imul X dX6_number_5 rfl ?_
  refine g_iload_n X 1 rfl dX6_number_6 rfl ?_
  refine g_iadd X dX6_number_7 rfl ?_
  refine g_istore X (lv' := [(4, .int (iI ((3 * q 2) + p0))), (0, .ref (μ 0)), (1, .int (iI p0)), (2, .int (iI lo)), (3, .int (iI hi))]) (by decide) rfl dX6_number_8 rfl ?_
  refine g_aload_n X 1 rfl dX6_number_10 rfl ?_
  refine g_get X cl_X6 6 (by decide) wf_X6_29 rfl (hμ.mem 0 (by decide)) hMo rfl dX6_number_11 rfl ?_
  refine g_iload X 0 rfl dX6_number_14 rfl ?_
  refine g_iconst X (z := 0) dX6_number_16 rfl ?_
  refine g_iast X (hμ.mem 7 (by decide)) hM7 ⟨by omega, by omega⟩ (by decide) dX6_number_17 rfl (fun M_21 hM_22 fr_23 => ?_)
  obtain ⟨g_24, hg_25⟩ : ∃ x : Int → Int, x = up rd ((3 * q 2) + p0) 0 := ⟨_, rfl⟩
  rw [← hg_25] at hM_22
  have hM_26 : M_21 (μ 0) = .inr (6, [.ref (μ 1), .ref (μ 2), .ref (μ 3), .ref (μ 4), .ref (μ 5), .ref (μ 6), .ref (μ 7), .ref (μ 8), .int (iI (q 0)), .int (iI (q 1)), .int (iI (q 2)), .int (iI (q 3))]) := (fr_23 (μ 0) (hμ.ne (i := 0) (j := 7) (by decide) (by decide) (by decide))).trans hMo
  have hM_27 : M_21 (μ 1) = cI ca 110 g := (fr_23 (μ 1) (hμ.ne (i := 1) (j := 7) (by decide) (by decide) (by decide))).trans hMs
  have hM_28 : M_21 (μ 8) = cC ca 60 pa := (fr_23 (μ 8) (hμ.ne (i := 8) (j := 7) (by decide) (by decide) (by decide))).trans hM8
  refine g_aload_n X 1 rfl dX6_number_18 rfl ?_
  refine g_iload_n X 3 rfl dX6_number_19 rfl ?_
  refine g_if_ne X ⟨by omega, by omega⟩ (tgt := 28) dX6_number_20 (by decide) rfl (fun h_29 => ?_) (fun h_29 => ?_)
  · refine g_bipush X (z := 49) (by decide +kernel) dX6_number_28 rfl ?_
    refine g_bipush X (z := 57) (by decide +kernel) dX6_number_30 rfl ?_
    refine g_callV X (ct_X6_isSign l μ q g pa 49 57) (As := [.int (iI 49), .int (iI 57)]) (rest := []) cl_X6 rfl ca_X6_isSign rfl wm_X6_102 wi_X6_isSign ws_X6_isSign wc_X6_isSign w0_X6 ⟨by decide, by decide⟩ (hμ.mem 0 (by decide)) hM_26 (by decide) ⟨by decide, by decide⟩ rfl dX6_number_32 rfl ⟨rfl, hμ, hM_26, hM_27, hM_28, hP, hq0, hq3, ⟨by decide, by decide⟩, ⟨by decide, by decide⟩⟩ (fun r1 L1 M1 hq => ?_)
    obtain ⟨rfl, rfl, rfl⟩ := hq
    refine g_st (st' := [.int (iI (if isSg pa (q 0) (q 3) 49 57 then 1 else 0))]) rfl ?_
    refine g_if_neb X (tgt := 40) dX6_number_35 (by decide) rfl (fun h_30 => ?_) (fun h_30 => ?_)
    · refine g_aload_n X 1 rfl dX6_number_40 rfl ?_
      refine g_get X cl_X6 6 (by decide) wf_X6_29 rfl (hμ.mem 0 (by decide)) hM_26 rfl dX6_number_41 rfl ?_
      refine g_iload X 0 rfl dX6_number_44 rfl ?_
      refine g_aload_n X 1 rfl dX6_number_46 rfl ?_
      refine g_get X cl_X6 7 (by decide) wf_X6_32 rfl (hμ.mem 0 (by decide)) hM_26 rfl dX6_number_47 rfl ?_
      refine g_aload_n X 1 rfl dX6_number_50 rfl ?_
      refine g_get X cl_X6 11 (by decide) wf_X6_96 rfl (hμ.mem 0 (by decide)) hM_26 rfl dX6_number_51 rfl ?_
      refine g_cald X (hμ.mem 8 (by decide)) hM_28 ⟨by omega, by omega⟩ (by decide) dX6_number_54 rfl ?_
      refine g_bipush X (z := 48) (by decide +kernel) dX6_number_55 rfl ?_
      refine g_isub X dX6_number_57 rfl ?_
      refine g_iast X (hμ.mem 7 (by decide)) hM_22 ⟨by omega, by omega⟩ (by decide) dX6_number_58 rfl (fun M_31 hM_32 fr_33 => ?_)
      obtain ⟨g_34, hg_35⟩ : ∃ x : Int → Int, x = up g_24 ((3 * q 2) + p0) (pa (q 3) - 48) := ⟨_, rfl⟩
      rw [← hg_35] at hM_32
      have hM_36 : M_31 (μ 0) = .inr (6, [.ref (μ 1), .ref (μ 2), .ref (μ 3), .ref (μ 4), .ref (μ 5), .ref (μ 6), .ref (μ 7), .ref (μ 8), .int (iI (q 0)), .int (iI (q 1)), .int (iI (q 2)), .int (iI (q 3))]) := (fr_33 (μ 0) (hμ.ne (i := 0) (j := 7) (by decide) (by decide) (by decide))).trans hM_26
      have hM_37 : M_31 (μ 1) = cI ca 110 g := (fr_33 (μ 1) (hμ.ne (i := 1) (j := 7) (by decide) (by decide) (by decide))).trans hM_27
      have hM_38 : M_31 (μ 8) = cC ca 60 pa := (fr_33 (μ 8) (hμ.ne (i := 8) (j := 7) (by decide) (by decide) (by decide))).trans hM_28
      refine g_aload_n X 1 rfl dX6_number_59 rfl ?_
      refine g_dup X rfl dX6_number_60 rfl ?_
      refine g_get X cl_X6 11 (by decide) wf_X6_96 rfl (hμ.mem 0 (by decide)) hM_36 rfl dX6_number_61 rfl ?_
      refine g_iconst X (z := 1) dX6_number_64 rfl ?_
      refine g_iadd X dX6_number_65 rfl ?_
      refine g_put X cl_X6 11 (by decide) wf_X6_96 rfl (hμ.mem 0 (by decide)) hM_36 rfl rfl rfl (Nat.le_of_ble_eq_true rfl) (fs' := [.ref (μ 1), .ref (μ 2), .ref (μ 3), .ref (μ 4), .ref (μ 5), .ref (μ 6), .ref (μ 7), .ref (μ 8), .int (iI (q 0)), .int (iI (q 1)), .int (iI (q 2)), .int (iI (q 3 + 1))]) rfl dX6_number_66 rfl (fun M_39 hM_40 fr_41 => ?_)
      have hM_42 : M_39 (μ 1) = cI ca 110 g := (fr_41 (μ 1) (hμ.ne (i := 1) (j := 0) (by decide) (by decide) (by decide))).trans hM_37
      have hM_43 : M_39 (μ 8) = cC ca 60 pa := (fr_41 (μ 8) (hμ.ne (i := 8) (j := 0) (by decide) (by decide) (by decide))).trans hM_38
      have hM_44 : M_39 (μ 7) = cI ca 33 g_34 := (fr_41 (μ 7) (hμ.ne (i := 7) (j := 0) (by decide) (by decide) (by decide))).trans hM_32
      have hpb := hP (q 3) (by omega) (by omega)
      refine g_lv (lv' := [(0, .ref (μ 0)), (3, .int (iI hi)), (4, .int (iI ((3 * q 2) + p0)))]) [1, 4, 0] rfl ?_
      exact lp 70 60 _ _ _ _ (show nmT pa (q 0) (q 3) lo by unfold nmT; rw [if_neg (by omega)]; exact h_30) rfl (by omega) (by omega) (by omega) (by omega) (by omega) (by rw [hg_35, hg_25, up_up]) hM_40 hM_42 hM_44 hM_43 (fun b hb hb7 => ((fr_41 b hb).trans ((fr_33 b hb7).trans (fr_23 b hb7)))) (by omega)
    · refine g_iconst X (z := 0) dX6_number_38 rfl ?_
      subst hQ
      exact g_zret X hret (by rfl) ⟨Nat.le_of_ble_eq_true rfl, Nat.le_of_ble_eq_true rfl⟩ dX6_number_39 ⟨by rw [if_neg (show ¬ nmT pa (q 0) (q 3) lo by unfold nmT; rw [if_neg (by omega)]; exact h_30)], rfl, (hM_26).trans (by rw [if_neg (show ¬ nmT pa (q 0) (q 3) lo by unfold nmT; rw [if_neg (by omega)]; exact h_30)]; rfl), (hM_22).trans (by rw [if_neg (show ¬ nmT pa (q 0) (q 3) lo by unfold nmT; rw [if_neg (by omega)]; exact h_30), hg_25]), fun b hb hb7 => (fr_23 b hb7)⟩
  · refine g_bipush X (z := 48) (by decide +kernel) dX6_number_23 rfl ?_
    refine g_goto X (n := 30) dX6_number_25 (by decide) ?_
    refine g_bipush X (z := 57) (by decide +kernel) dX6_number_30 rfl ?_
    refine g_callV X (ct_X6_isSign l μ q g pa 48 57) (As := [.int (iI 48), .int (iI 57)]) (rest := []) cl_X6 rfl ca_X6_isSign rfl wm_X6_102 wi_X6_isSign ws_X6_isSign wc_X6_isSign w0_X6 ⟨by decide, by decide⟩ (hμ.mem 0 (by decide)) hM_26 (by decide) ⟨by decide, by decide⟩ rfl dX6_number_32 rfl ⟨rfl, hμ, hM_26, hM_27, hM_28, hP, hq0, hq3, ⟨by decide, by decide⟩, ⟨by decide, by decide⟩⟩ (fun r1 L1 M1 hq => ?_)
    obtain ⟨rfl, rfl, rfl⟩ := hq
    refine g_st (st' := [.int (iI (if isSg pa (q 0) (q 3) 48 57 then 1 else 0))]) rfl ?_
    refine g_if_neb X (tgt := 40) dX6_number_35 (by decide) rfl (fun h_45 => ?_) (fun h_45 => ?_)
    · refine g_aload_n X 1 rfl dX6_number_40 rfl ?_
      refine g_get X cl_X6 6 (by decide) wf_X6_29 rfl (hμ.mem 0 (by decide)) hM_26 rfl dX6_number_41 rfl ?_
      refine g_iload X 0 rfl dX6_number_44 rfl ?_
      refine g_aload_n X 1 rfl dX6_number_46 rfl ?_
      refine g_get X cl_X6 7 (by decide) wf_X6_32 rfl (hμ.mem 0 (by decide)) hM_26 rfl dX6_number_47 rfl ?_
      refine g_aload_n X 1 rfl dX6_number_50 rfl ?_
      refine g_get X cl_X6 11 (by decide) wf_X6_96 rfl (hμ.mem 0 (by decide)) hM_26 rfl dX6_number_51 rfl ?_
      refine g_cald X (hμ.mem 8 (by decide)) hM_28 ⟨by omega, by omega⟩ (by decide) dX6_number_54 rfl ?_
      refine g_bipush X (z := 48) (by decide +kernel) dX6_number_55 rfl ?_
      refine g_isub X dX6_number_57 rfl ?_
      refine g_iast X (hμ.mem 7 (by decide)) hM_22 ⟨by omega, by omega⟩ (by decide) dX6_number_58 rfl (fun M_46 hM_47 fr_48 => ?_)
      obtain ⟨g_49, hg_50⟩ : ∃ x : Int → Int, x = up g_24 ((3 * q 2) + p0) (pa (q 3) - 48) := ⟨_, rfl⟩
      rw [← hg_50] at hM_47
      have hM_51 : M_46 (μ 0) = .inr (6, [.ref (μ 1), .ref (μ 2), .ref (μ 3), .ref (μ 4), .ref (μ 5), .ref (μ 6), .ref (μ 7), .ref (μ 8), .int (iI (q 0)), .int (iI (q 1)), .int (iI (q 2)), .int (iI (q 3))]) := (fr_48 (μ 0) (hμ.ne (i := 0) (j := 7) (by decide) (by decide) (by decide))).trans hM_26
      have hM_52 : M_46 (μ 1) = cI ca 110 g := (fr_48 (μ 1) (hμ.ne (i := 1) (j := 7) (by decide) (by decide) (by decide))).trans hM_27
      have hM_53 : M_46 (μ 8) = cC ca 60 pa := (fr_48 (μ 8) (hμ.ne (i := 8) (j := 7) (by decide) (by decide) (by decide))).trans hM_28
      refine g_aload_n X 1 rfl dX6_number_59 rfl ?_
      refine g_dup X rfl dX6_number_60 rfl ?_
      refine g_get X cl_X6 11 (by decide) wf_X6_96 rfl (hμ.mem 0 (by decide)) hM_51 rfl dX6_number_61 rfl ?_
      refine g_iconst X (z := 1) dX6_number_64 rfl ?_
      refine g_iadd X dX6_number_65 rfl ?_
      refine g_put X cl_X6 11 (by decide) wf_X6_96 rfl (hμ.mem 0 (by decide)) hM_51 rfl rfl rfl (Nat.le_of_ble_eq_true rfl) (fs' := [.ref (μ 1), .ref (μ 2), .ref (μ 3), .ref (μ 4), .ref (μ 5), .ref (μ 6), .ref (μ 7), .ref (μ 8), .int (iI (q 0)), .int (iI (q 1)), .int (iI (q 2)), .int (iI (q 3 + 1))]) rfl dX6_number_66 rfl (fun M_54 hM_55 fr_56 => ?_)
      have hM_57 : M_54 (μ 1) = cI ca 110 g := (fr_56 (μ 1) (hμ.ne (i := 1) (j := 0) (by decide) (by decide) (by decide))).trans hM_52
      have hM_58 : M_54 (μ 8) = cC ca 60 pa := (fr_56 (μ 8) (hμ.ne (i := 8) (j := 0) (by decide) (by decide) (by decide))).trans hM_53
      have hM_59 : M_54 (μ 7) = cI ca 33 g_49 := (fr_56 (μ 7) (hμ.ne (i := 7) (j := 0) (by decide) (by decide) (by decide))).trans hM_47
      have hpb := hP (q 3) (by omega) (by omega)
      refine g_lv (lv' := [(0, .ref (μ 0)), (3, .int (iI hi)), (4, .int (iI ((3 * q 2) + p0)))]) [1, 4, 0] rfl ?_
      exact lp 70 60 _ _ _ _ (show nmT pa (q 0) (q 3) lo by unfold nmT; rw [if_pos (by omega)]; exact h_45) rfl (by omega) (by omega) (by omega) (by omega) (by omega) (by rw [hg_50, hg_25, up_up]) hM_55 hM_57 hM_59 hM_58 (fun b hb hb7 => ((fr_56 b hb).trans ((fr_48 b hb7).trans (fr_23 b hb7)))) (by omega)
    · refine g_iconst X (z := 0) dX6_number_38 rfl ?_
      subst hQ
      exact g_zret X hret (by rfl) ⟨Nat.le_of_ble_eq_true rfl, Nat.le_of_ble_eq_true rfl⟩ dX6_number_39 ⟨by rw [if_neg (show ¬ nmT pa (q 0) (q 3) lo by unfold nmT; rw [if_pos (by omega)]; exact h_45)], rfl, (hM_26).trans (by rw [if_neg (show ¬ nmT pa (q 0) (q 3) lo by unfold nmT; rw [if_pos (by omega)]; exact h_45)]; rfl), (hM_22).trans (by rw [if_neg (show ¬ nmT pa (q 0) (q 3) lo by unfold nmT; rw [if_pos (by omega)]; exact h_45), hg_25]), fun b hb hb7 => (fr_23 b hb7)⟩
