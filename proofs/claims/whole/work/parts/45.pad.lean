/-! the class: its pad -/
abbrev oPad (Sg : Int → Int → Nat) (ln nf : Int) : va_E := .inr (2, [.ref (Sg 10 6), .int (iI ln), .ref (Sg 10 7), .int (iI nf)])
abbrev tdP (p dg b v : Int) : Prop := ¬ (0 < dg ∧ b = 0) ∧ tLN p ≤ v ∧ v ≤ tMN p
def tdB (dg nf : Int) (nu : Int → Int) : Int := if dg = 0 then 0 else nu nf
theorem tLN_rng {p : Int} (h : 0 ≤ p ∧ p < 3) : 0 ≤ tLN p ∧ tLN p ≤ 1 := by
  rcases (by omega : p = 0 ∨ p = 1 ∨ p = 2) with h | h | h <;> subst h <;> decide
theorem tMN_rng {p : Int} (h : 0 ≤ p ∧ p < 3) : 200 ≤ tMN p ∧ tMN p ≤ 4095 := by
  rcases (by omega : p = 0 ∨ p = 1 ∨ p = 2) with h | h | h <;> subst h <;> decide
theorem tBN_rng {p : Int} (h : 0 ≤ p ∧ p < 3) : 42 ≤ tBN p ∧ tBN p ≤ 59 := by
  rcases (by omega : p = 0 ∨ p = 1 ∨ p = 2) with h | h | h <;> subst h <;> decide
set_option maxRecDepth 100000 in
set_option maxHeartbeats 4000000 in
theorem ct_X2_takesDigit (l : Launch) (Sg : Int → Int → Nat) (ln nf : Int) (pa nu : Int → Int) (p1 dg x1 : Int) : Ct l yX2_takesDigit cX2_takesDigit 7 (some .boolean) 1 0 0 (fun ca av L M => av = [.ref (Sg 10 5), .int (iI p1), .int (iI dg), .int (iI x1)] ∧ Adr L Sg ∧ M (Sg 10 5) = oPad Sg ln nf ∧ M (Sg 10 6) = cC ca 60 pa ∧ M (Sg 10 7) = cI ca 60 nu ∧ (0 ≤ p1 ∧ p1 < 3) ∧ (0 ≤ dg ∧ dg ≤ 60) ∧ (0 ≤ x1 ∧ x1 ≤ 9) ∧ (0 ≤ nf ∧ nf < 60) ∧ (0 < dg → 0 ≤ nu nf ∧ nu nf ≤ 4095)) (fun ca av L M r L1 M1 => r = some (.int (iI (if tdP p1 dg (tdB dg nf nu) (tdB dg nf nu * 10 + x1) then 1 else 0))) ∧ L = L1 ∧ M1 (Sg 10 7) = cI ca 60 (if tdP p1 dg (tdB dg nf nu) (tdB dg nf nu * 10 + x1) then up nu nf (tdB dg nf nu * 10 + x1) else nu) ∧ ∀ x, x ≠ Sg 10 7 → M1 x = M x) := by
  refine Ct_of (own := RX2) (by decide) rfl (by rintro _ _ _ _ ⟨rfl, _⟩; exact Nat.le_of_ble_eq_true rfl) ?_
  rintro p e s m args below meth cod D ca A av L M ⟨rfl, hA, hP0, hP1, hP2, hp, hdg, hx, hnf, hnu⟩ X hret hname
  refine g_lv (lv' := [(0, .ref (Sg 10 5)), (1, .int (iI p1)), (2, .int (iI dg)), (3, .int (iI x1))]) [0, 1, 2, 3] rfl ?_
  have hln := tLN_rng hp
  have hmn := tMN_rng hp
  have hnn : dg = 0 ∨ (0 ≤ nu nf ∧ nu nf ≤ 4095) := by rcases (by omega : dg = 0 ∨ 0 < dg) with h | h; (· exact Or.inl h); (· exact Or.inr (hnu h))
  refine g_iload_n X 2 rfl dX2_takesDigit_0 rfl ?_
  refine g_if_ne X ⟨by omega, by omega⟩ (tgt := 8) dX2_takesDigit_1 (by decide) rfl (fun h_1 => ?_) (fun h_1 => ?_)
  · refine g_aload_n X 0 rfl dX2_takesDigit_8 rfl ?_
    refine g_get X cl_X2 2 (by decide) wf_X2_15 rfl (hA.mem (s := 10) (k := 5) (by unfold inD; omega)) hP0 rfl dX2_takesDigit_9 rfl ?_
    refine g_aload_n X 0 rfl dX2_takesDigit_12 rfl ?_
    refine g_get X cl_X2 3 (by decide) wf_X2_25 rfl (hA.mem (s := 10) (k := 5) (by unfold inD; omega)) hP0 rfl dX2_takesDigit_13 rfl ?_
    refine g_iald X (hA.mem (s := 10) (k := 7) (by unfold inD; omega)) hP2 ⟨by omega, by omega⟩ (by decide) dX2_takesDigit_16 rfl ?_
    refine g_istore X (lv' := [(4, .int (iI (nu nf))), (0, .ref (Sg 10 5)), (1, .int (iI p1)), (2, .int (iI dg)), (3, .int (iI x1))]) (by decide) rfl dX2_takesDigit_17 rfl ?_
    refine g_iload X 0 rfl dX2_takesDigit_19 rfl ?_
    refine g_bipush X (z := 10) (by decide +kernel) dX2_takesDigit_21 rfl ?_
    refine g_imul X dX2_takesDigit_23 rfl ?_
    refine g_iload_n X 4 rfl dX2_takesDigit_24 rfl ?_
    refine g_iadd X dX2_takesDigit_25 rfl ?_
    refine g_istore X (lv' := [(5, .int (iI ((nu nf * 10) + x1))), (4, .int (iI (nu nf))), (0, .ref (Sg 10 5)), (1, .int (iI p1)), (2, .int (iI dg)), (3, .int (iI x1))]) (by decide) rfl dX2_takesDigit_26 rfl ?_
    refine g_iload_n X 4 rfl dX2_takesDigit_28 rfl ?_
    refine g_if_le X ⟨by omega, by omega⟩ (tgt := 41) dX2_takesDigit_29 (by decide) rfl (fun h_2 => ?_) (fun h_2 => ?_)
    · refine g_iconst X (z := 0) dX2_takesDigit_41 rfl ?_
      refine g_istore X (lv' := [(6, .int (iI 0)), (5, .int (iI ((nu nf * 10) + x1))), (4, .int (iI (nu nf))), (0, .ref (Sg 10 5)), (1, .int (iI p1)), (2, .int (iI dg)), (3, .int (iI x1))]) (by decide) rfl dX2_takesDigit_42 rfl ?_
      refine g_iload X 0 rfl dX2_takesDigit_44 rfl ?_
      refine g_if_ne X ⟨by decide, by decide⟩ (tgt := 67) dX2_takesDigit_46 (by decide) rfl (fun h => absurd h (by decide)) (fun _ => ?_)
      refine g_iload X 1 rfl dX2_takesDigit_49 rfl ?_
      refine g_getsN X (host := "StrideBanks") wf_X2_38 X.2.2.2.1.2.2.2.2.1 dX2_takesDigit_51 rfl (fun t_4 hT_5 => ?_)
      refine g_iload_n X 4 rfl dX2_takesDigit_54 rfl ?_
      refine g_ti X hT_5 ⟨by omega, by omega⟩ (by decide) dX2_takesDigit_55 rfl ?_
      refine g_getsN X (host := "StrideBanks") wf_X2_41 X.2.2.2.1.2.2.2.2.2.1 dX2_takesDigit_56 rfl (fun t_6 hT_7 => ?_)
      refine g_iload_n X 4 rfl dX2_takesDigit_59 rfl ?_
      refine g_ti X hT_7 ⟨by omega, by omega⟩ (by decide) dX2_takesDigit_60 rfl ?_
      refine g_callSN X (ct_X5_isIn l ((nu nf * 10) + x1) (tLN p1) (tMN p1)) (host := "StrideBanks") (As := [.int (iI ((nu nf * 10) + x1)), .int (iI (tLN p1)), .int (iI (tMN p1))]) (rest := []) rfl ca_X5_isIn rfl wm_X2_28 wt_X5_isIn wc_X5_isIn w0_X5 ⟨by decide, by decide⟩ (by decide) ⟨by decide, by decide⟩ rfl dX2_takesDigit_61 rfl ⟨rfl, ⟨by omega, by omega⟩, ⟨by omega, by omega⟩, ⟨by omega, by omega⟩⟩ (fun r1 L1 M1 hq => ?_)
      obtain ⟨rfl, rfl, rfl⟩ := hq
      refine g_st (st' := [.int (iI (if tLN p1 ≤ ((nu nf * 10) + x1) ∧ ((nu nf * 10) + x1) ≤ tMN p1 then 1 else 0))]) rfl ?_
      refine g_if_neb X (tgt := 69) dX2_takesDigit_64 (by decide) rfl (fun h_8 => ?_) (fun h_8 => ?_)
      · refine g_aload_n X 3 rfl dX2_takesDigit_69 rfl ?_
        refine g_get X cl_X2 2 (by decide) wf_X2_15 rfl (hA.mem (s := 10) (k := 5) (by unfold inD; omega)) hP0 rfl dX2_takesDigit_70 rfl ?_
        refine g_aload_n X 3 rfl dX2_takesDigit_73 rfl ?_
        refine g_get X cl_X2 3 (by decide) wf_X2_25 rfl (hA.mem (s := 10) (k := 5) (by unfold inD; omega)) hP0 rfl dX2_takesDigit_74 rfl ?_
        refine g_iload X 1 rfl dX2_takesDigit_77 rfl ?_
        refine g_iast X (hA.mem (s := 10) (k := 7) (by unfold inD; omega)) hP2 ⟨by omega, by omega⟩ (by decide) dX2_takesDigit_79 rfl (fun M_9 hM_10 fr_11 => ?_)
        obtain ⟨g_12, hg_13⟩ : ∃ x : Int → Int, x = up nu nf ((nu nf * 10) + x1) := ⟨_, rfl⟩
        rw [← hg_13] at hM_10
        have hM_14 : M_9 (Sg 10 5) = .inr (2, [.ref (Sg 10 6), .int (iI ln), .ref (Sg 10 7), .int (iI nf)]) := (fr_11 (Sg 10 5) (hA.ne (by unfold inD; omega) (by unfold inD; omega) (by omega))).trans hP0
        have hM_15 : M_9 (Sg 10 6) = cC ca 60 pa := (fr_11 (Sg 10 6) (hA.ne (by unfold inD; omega) (by unfold inD; omega) (by omega))).trans hP1
        refine g_iconst X (z := 1) dX2_takesDigit_80 rfl ?_
        have heb : tdB dg nf nu = nu nf := if_neg (by omega)
        exact g_zret X hret (by rfl) ⟨Nat.le_of_ble_eq_true rfl, Nat.le_of_ble_eq_true rfl⟩ dX2_takesDigit_81 ⟨by rw [if_pos (by rw [heb]; unfold tdP; omega)], rfl, (hM_10.trans (by rw [hg_13, if_pos (by rw [heb]; unfold tdP; omega), heb])), (fun x hk7 => (fr_11 x hk7))⟩
      · refine g_iconst X (z := 0) dX2_takesDigit_67 rfl ?_
        have heb : tdB dg nf nu = nu nf := if_neg (by omega)
        exact g_zret X hret (by rfl) ⟨Nat.le_of_ble_eq_true rfl, Nat.le_of_ble_eq_true rfl⟩ dX2_takesDigit_68 ⟨by rw [if_neg (by rw [heb]; unfold tdP; omega)], rfl, (hP2.trans (by rw [if_neg (by rw [heb]; unfold tdP; omega)])), (fun x hk7 => rfl)⟩
    · refine g_iload X 1 rfl dX2_takesDigit_32 rfl ?_
      refine g_if_ne X ⟨by omega, by omega⟩ (tgt := 41) dX2_takesDigit_34 (by decide) rfl (fun h_16 => ?_) (fun h_16 => ?_)
      · refine g_iconst X (z := 0) dX2_takesDigit_41 rfl ?_
        refine g_istore X (lv' := [(6, .int (iI 0)), (5, .int (iI ((nu nf * 10) + x1))), (4, .int (iI (nu nf))), (0, .ref (Sg 10 5)), (1, .int (iI p1)), (2, .int (iI dg)), (3, .int (iI x1))]) (by decide) rfl dX2_takesDigit_42 rfl ?_
        refine g_iload X 0 rfl dX2_takesDigit_44 rfl ?_
        refine g_if_ne X ⟨by decide, by decide⟩ (tgt := 67) dX2_takesDigit_46 (by decide) rfl (fun h => absurd h (by decide)) (fun _ => ?_)
        refine g_iload X 1 rfl dX2_takesDigit_49 rfl ?_
        refine g_getsN X (host := "StrideBanks") wf_X2_38 X.2.2.2.1.2.2.2.2.1 dX2_takesDigit_51 rfl (fun t_18 hT_19 => ?_)
        refine g_iload_n X 4 rfl dX2_takesDigit_54 rfl ?_
        refine g_ti X hT_19 ⟨by omega, by omega⟩ (by decide) dX2_takesDigit_55 rfl ?_
        refine g_getsN X (host := "StrideBanks") wf_X2_41 X.2.2.2.1.2.2.2.2.2.1 dX2_takesDigit_56 rfl (fun t_20 hT_21 => ?_)
        refine g_iload_n X 4 rfl dX2_takesDigit_59 rfl ?_
        refine g_ti X hT_21 ⟨by omega, by omega⟩ (by decide) dX2_takesDigit_60 rfl ?_
        refine g_callSN X (ct_X5_isIn l ((nu nf * 10) + x1) (tLN p1) (tMN p1)) (host := "StrideBanks") (As := [.int (iI ((nu nf * 10) + x1)), .int (iI (tLN p1)), .int (iI (tMN p1))]) (rest := []) rfl ca_X5_isIn rfl wm_X2_28 wt_X5_isIn wc_X5_isIn w0_X5 ⟨by decide, by decide⟩ (by decide) ⟨by decide, by decide⟩ rfl dX2_takesDigit_61 rfl ⟨rfl, ⟨by omega, by omega⟩, ⟨by omega, by omega⟩, ⟨by omega, by omega⟩⟩ (fun r1 L1 M1 hq => ?_)
        obtain ⟨rfl, rfl, rfl⟩ := hq
        refine g_st (st' := [.int (iI (if tLN p1 ≤ ((nu nf * 10) + x1) ∧ ((nu nf * 10) + x1) ≤ tMN p1 then 1 else 0))]) rfl ?_
        refine g_if_neb X (tgt := 69) dX2_takesDigit_64 (by decide) rfl (fun h_22 => ?_) (fun h_22 => ?_)
        · refine g_aload_n X 3 rfl dX2_takesDigit_69 rfl ?_
          refine g_get X cl_X2 2 (by decide) wf_X2_15 rfl (hA.mem (s := 10) (k := 5) (by unfold inD; omega)) hP0 rfl dX2_takesDigit_70 rfl ?_
          refine g_aload_n X 3 rfl dX2_takesDigit_73 rfl ?_
          refine g_get X cl_X2 3 (by decide) wf_X2_25 rfl (hA.mem (s := 10) (k := 5) (by unfold inD; omega)) hP0 rfl dX2_takesDigit_74 rfl ?_
          refine g_iload X 1 rfl dX2_takesDigit_77 rfl ?_
          refine g_iast X (hA.mem (s := 10) (k := 7) (by unfold inD; omega)) hP2 ⟨by omega, by omega⟩ (by decide) dX2_takesDigit_79 rfl (fun M_23 hM_24 fr_25 => ?_)
          obtain ⟨g_26, hg_27⟩ : ∃ x : Int → Int, x = up nu nf ((nu nf * 10) + x1) := ⟨_, rfl⟩
          rw [← hg_27] at hM_24
          have hM_28 : M_23 (Sg 10 5) = .inr (2, [.ref (Sg 10 6), .int (iI ln), .ref (Sg 10 7), .int (iI nf)]) := (fr_25 (Sg 10 5) (hA.ne (by unfold inD; omega) (by unfold inD; omega) (by omega))).trans hP0
          have hM_29 : M_23 (Sg 10 6) = cC ca 60 pa := (fr_25 (Sg 10 6) (hA.ne (by unfold inD; omega) (by unfold inD; omega) (by omega))).trans hP1
          refine g_iconst X (z := 1) dX2_takesDigit_80 rfl ?_
          have heb : tdB dg nf nu = nu nf := if_neg (by omega)
          exact g_zret X hret (by rfl) ⟨Nat.le_of_ble_eq_true rfl, Nat.le_of_ble_eq_true rfl⟩ dX2_takesDigit_81 ⟨by rw [if_pos (by rw [heb]; unfold tdP; omega)], rfl, (hM_24.trans (by rw [hg_27, if_pos (by rw [heb]; unfold tdP; omega), heb])), (fun x hk7 => (fr_25 x hk7))⟩
        · refine g_iconst X (z := 0) dX2_takesDigit_67 rfl ?_
          have heb : tdB dg nf nu = nu nf := if_neg (by omega)
          exact g_zret X hret (by rfl) ⟨Nat.le_of_ble_eq_true rfl, Nat.le_of_ble_eq_true rfl⟩ dX2_takesDigit_68 ⟨by rw [if_neg (by rw [heb]; unfold tdP; omega)], rfl, (hP2.trans (by rw [if_neg (by rw [heb]; unfold tdP; omega)])), (fun x hk7 => rfl)⟩
      · refine g_iconst X (z := 1) dX2_takesDigit_37 rfl ?_
        refine g_goto X (n := 42) dX2_takesDigit_38 (by decide) ?_
        refine g_istore X (lv' := [(6, .int (iI 1)), (5, .int (iI ((nu nf * 10) + x1))), (4, .int (iI (nu nf))), (0, .ref (Sg 10 5)), (1, .int (iI p1)), (2, .int (iI dg)), (3, .int (iI x1))]) (by decide) rfl dX2_takesDigit_42 rfl ?_
        refine g_iload X 0 rfl dX2_takesDigit_44 rfl ?_
        refine g_if_ne X ⟨by decide, by decide⟩ (tgt := 67) dX2_takesDigit_46 (by decide) rfl (fun _ => ?_) (fun h => absurd (by decide) h)
        refine g_iconst X (z := 0) dX2_takesDigit_67 rfl ?_
        have heb : tdB dg nf nu = nu nf := if_neg (by omega)
        exact g_zret X hret (by rfl) ⟨Nat.le_of_ble_eq_true rfl, Nat.le_of_ble_eq_true rfl⟩ dX2_takesDigit_68 ⟨by rw [if_neg (by rw [heb]; unfold tdP; omega)], rfl, (hP2.trans (by rw [if_neg (by rw [heb]; unfold tdP; omega)])), (fun x hk7 => rfl)⟩
  · refine g_iconst X (z := 0) dX2_takesDigit_4 rfl ?_
    refine g_goto X (n := 17) dX2_takesDigit_5 (by decide) ?_
    refine g_istore X (lv' := [(4, .int (iI 0)), (0, .ref (Sg 10 5)), (1, .int (iI p1)), (2, .int (iI dg)), (3, .int (iI x1))]) (by decide) rfl dX2_takesDigit_17 rfl ?_
    refine g_iload X 0 rfl dX2_takesDigit_19 rfl ?_
    refine g_bipush X (z := 10) (by decide +kernel) dX2_takesDigit_21 rfl ?_
    refine g_imul X dX2_takesDigit_23 rfl ?_
    refine g_iload_n X 4 rfl dX2_takesDigit_24 rfl ?_
    refine g_iadd X dX2_takesDigit_25 rfl ?_
    refine g_istore X (lv' := [(5, .int (iI ((0 * 10) + x1))), (4, .int (iI 0)), (0, .ref (Sg 10 5)), (1, .int (iI p1)), (2, .int (iI dg)), (3, .int (iI x1))]) (by decide) rfl dX2_takesDigit_26 rfl ?_
    refine g_iload_n X 4 rfl dX2_takesDigit_28 rfl ?_
    refine g_if_le X ⟨by omega, by omega⟩ (tgt := 41) dX2_takesDigit_29 (by decide) rfl (fun h_31 => ?_) (fun h_31 => ?_)
    · refine g_iconst X (z := 0) dX2_takesDigit_41 rfl ?_
      refine g_istore X (lv' := [(6, .int (iI 0)), (5, .int (iI ((0 * 10) + x1))), (4, .int (iI 0)), (0, .ref (Sg 10 5)), (1, .int (iI p1)), (2, .int (iI dg)), (3, .int (iI x1))]) (by decide) rfl dX2_takesDigit_42 rfl ?_
      refine g_iload X 0 rfl dX2_takesDigit_44 rfl ?_
      refine g_if_ne X ⟨by decide, by decide⟩ (tgt := 67) dX2_takesDigit_46 (by decide) rfl (fun h => absurd h (by decide)) (fun _ => ?_)
      refine g_iload X 1 rfl dX2_takesDigit_49 rfl ?_
      refine g_getsN X (host := "StrideBanks") wf_X2_38 X.2.2.2.1.2.2.2.2.1 dX2_takesDigit_51 rfl (fun t_33 hT_34 => ?_)
      refine g_iload_n X 4 rfl dX2_takesDigit_54 rfl ?_
      refine g_ti X hT_34 ⟨by omega, by omega⟩ (by decide) dX2_takesDigit_55 rfl ?_
      refine g_getsN X (host := "StrideBanks") wf_X2_41 X.2.2.2.1.2.2.2.2.2.1 dX2_takesDigit_56 rfl (fun t_35 hT_36 => ?_)
      refine g_iload_n X 4 rfl dX2_takesDigit_59 rfl ?_
      refine g_ti X hT_36 ⟨by omega, by omega⟩ (by decide) dX2_takesDigit_60 rfl ?_
      refine g_callSN X (ct_X5_isIn l ((0 * 10) + x1) (tLN p1) (tMN p1)) (host := "StrideBanks") (As := [.int (iI ((0 * 10) + x1)), .int (iI (tLN p1)), .int (iI (tMN p1))]) (rest := []) rfl ca_X5_isIn rfl wm_X2_28 wt_X5_isIn wc_X5_isIn w0_X5 ⟨by decide, by decide⟩ (by decide) ⟨by decide, by decide⟩ rfl dX2_takesDigit_61 rfl ⟨rfl, ⟨by omega, by omega⟩, ⟨by omega, by omega⟩, ⟨by omega, by omega⟩⟩ (fun r1 L1 M1 hq => ?_)
      obtain ⟨rfl, rfl, rfl⟩ := hq
      refine g_st (st' := [.int (iI (if tLN p1 ≤ ((0 * 10) + x1) ∧ ((0 * 10) + x1) ≤ tMN p1 then 1 else 0))]) rfl ?_
      refine g_if_neb X (tgt := 69) dX2_takesDigit_64 (by decide) rfl (fun h_37 => ?_) (fun h_37 => ?_)
      · refine g_aload_n X 3 rfl dX2_takesDigit_69 rfl ?_
        refine g_get X cl_X2 2 (by decide) wf_X2_15 rfl (hA.mem (s := 10) (k := 5) (by unfold inD; omega)) hP0 rfl dX2_takesDigit_70 rfl ?_
        refine g_aload_n X 3 rfl dX2_takesDigit_73 rfl ?_
        refine g_get X cl_X2 3 (by decide) wf_X2_25 rfl (hA.mem (s := 10) (k := 5) (by unfold inD; omega)) hP0 rfl dX2_takesDigit_74 rfl ?_
        refine g_iload X 1 rfl dX2_takesDigit_77 rfl ?_
        refine g_iast X (hA.mem (s := 10) (k := 7) (by unfold inD; omega)) hP2 ⟨by omega, by omega⟩ (by decide) dX2_takesDigit_79 rfl (fun M_38 hM_39 fr_40 => ?_)
        obtain ⟨g_41, hg_42⟩ : ∃ x : Int → Int, x = up nu nf ((0 * 10) + x1) := ⟨_, rfl⟩
        rw [← hg_42] at hM_39
        have hM_43 : M_38 (Sg 10 5) = .inr (2, [.ref (Sg 10 6), .int (iI ln), .ref (Sg 10 7), .int (iI nf)]) := (fr_40 (Sg 10 5) (hA.ne (by unfold inD; omega) (by unfold inD; omega) (by omega))).trans hP0
        have hM_44 : M_38 (Sg 10 6) = cC ca 60 pa := (fr_40 (Sg 10 6) (hA.ne (by unfold inD; omega) (by unfold inD; omega) (by omega))).trans hP1
        refine g_iconst X (z := 1) dX2_takesDigit_80 rfl ?_
        have heb : tdB dg nf nu = 0 := if_pos (by omega)
        exact g_zret X hret (by rfl) ⟨Nat.le_of_ble_eq_true rfl, Nat.le_of_ble_eq_true rfl⟩ dX2_takesDigit_81 ⟨by rw [if_pos (by rw [heb]; unfold tdP; omega)], rfl, (hM_39.trans (by rw [hg_42, if_pos (by rw [heb]; unfold tdP; omega), heb])), (fun x hk7 => (fr_40 x hk7))⟩
      · refine g_iconst X (z := 0) dX2_takesDigit_67 rfl ?_
        have heb : tdB dg nf nu = 0 := if_pos (by omega)
        exact g_zret X hret (by rfl) ⟨Nat.le_of_ble_eq_true rfl, Nat.le_of_ble_eq_true rfl⟩ dX2_takesDigit_68 ⟨by rw [if_neg (by rw [heb]; unfold tdP; omega)], rfl, (hP2.trans (by rw [if_neg (by rw [heb]; unfold tdP; omega)])), (fun x hk7 => rfl)⟩
    · refine g_iload X 1 rfl dX2_takesDigit_32 rfl ?_
      refine g_if_ne X ⟨by decide, by decide⟩ (tgt := 41) dX2_takesDigit_34 (by decide) rfl (fun h => absurd h (by decide)) (fun _ => ?_)
      refine g_iconst X (z := 1) dX2_takesDigit_37 rfl ?_
      refine g_goto X (n := 42) dX2_takesDigit_38 (by decide) ?_
      refine g_istore X (lv' := [(6, .int (iI 1)), (5, .int (iI ((0 * 10) + x1))), (4, .int (iI 0)), (0, .ref (Sg 10 5)), (1, .int (iI p1)), (2, .int (iI dg)), (3, .int (iI x1))]) (by decide) rfl dX2_takesDigit_42 rfl ?_
      refine g_iload X 0 rfl dX2_takesDigit_44 rfl ?_
      refine g_if_ne X ⟨by decide, by decide⟩ (tgt := 67) dX2_takesDigit_46 (by decide) rfl (fun _ => ?_) (fun h => absurd (by decide) h)
      refine g_iconst X (z := 0) dX2_takesDigit_67 rfl ?_
      have heb : tdB dg nf nu = 0 := if_pos (by omega)
      exact g_zret X hret (by rfl) ⟨Nat.le_of_ble_eq_true rfl, Nat.le_of_ble_eq_true rfl⟩ dX2_takesDigit_68 ⟨by rw [if_neg (by rw [heb]; unfold tdP; omega)], rfl, (hP2.trans (by rw [if_neg (by rw [heb]; unfold tdP; omega)])), (fun x hk7 => rfl)⟩
set_option maxRecDepth 100000 in
set_option maxHeartbeats 4000000 in
theorem ct_X2_streamsFound (l : Launch) (Sg : Int → Int → Nat) (ln nf : Int) (pa nu : Int → Int) : Ct l yX2_streamsFound cX2_streamsFound 1 (some .int) 0 0 0 (fun ca av L M => av = [.ref (Sg 10 5)] ∧ Adr L Sg ∧ M (Sg 10 5) = oPad Sg ln nf ∧ M (Sg 10 6) = cC ca 60 pa ∧ M (Sg 10 7) = cI ca 60 nu ∧ (0 ≤ nf ∧ nf ≤ 60)) (fun ca av L M r L1 M1 => r = some (.int (iI (nf / 3))) ∧ L = L1 ∧ M = M1) := by
  refine Ct_of (own := RX2) (by decide) rfl (by rintro _ _ _ _ ⟨rfl, _⟩; exact Nat.le_of_ble_eq_true rfl) ?_
  rintro p e s m args below meth cod D ca A av L M ⟨rfl, hA, hP0, hP1, hP2, hnf⟩ X hret hname
  refine g_lv (lv' := [(0, .ref (Sg 10 5))]) [0] rfl ?_
  refine g_aload_n X 0 rfl dX2_streamsFound_0 rfl ?_
  refine g_get X cl_X2 3 (by decide) wf_X2_25 rfl (hA.mem (s := 10) (k := 5) (by unfold inD; omega)) hP0 rfl dX2_streamsFound_1 rfl ?_
  refine g_iconst X (z := 3) dX2_streamsFound_4 rfl ?_
  refine g_idiv X ⟨⟨by omega, by omega⟩, by omega, by omega⟩ dX2_streamsFound_5 rfl ?_
  exact g_iret X hret ⟨Nat.le_of_ble_eq_true rfl, Nat.le_of_ble_eq_true rfl⟩ dX2_streamsFound_6 ⟨rfl, rfl, rfl⟩
set_option maxRecDepth 100000 in
set_option maxHeartbeats 4000000 in
theorem ct_X2_numberOf (l : Launch) (Sg : Int → Int → Nat) (ln nf : Int) (pa nu : Int → Int) (s1 p1 : Int) : Ct l yX2_numberOf cX2_numberOf 3 (some .int) 0 0 0 (fun ca av L M => av = [.ref (Sg 10 5), .int (iI s1), .int (iI p1)] ∧ Adr L Sg ∧ M (Sg 10 5) = oPad Sg ln nf ∧ M (Sg 10 6) = cC ca 60 pa ∧ M (Sg 10 7) = cI ca 60 nu ∧ (0 ≤ s1 ∧ 0 ≤ p1 ∧ s1 * 3 + p1 < 60)) (fun ca av L M r L1 M1 => r = some (.int (iI (nu (s1 * 3 + p1)))) ∧ L = L1 ∧ M = M1) := by
  refine Ct_of (own := RX2) (by decide) rfl (by rintro _ _ _ _ ⟨rfl, _⟩; exact Nat.le_of_ble_eq_true rfl) ?_
  rintro p e s m args below meth cod D ca A av L M ⟨rfl, hA, hP0, hP1, hP2, hs1⟩ X hret hname
  refine g_lv (lv' := [(0, .ref (Sg 10 5)), (1, .int (iI s1)), (2, .int (iI p1))]) [0, 1, 2] rfl ?_
  refine g_aload_n X 0 rfl dX2_numberOf_0 rfl ?_
  refine g_get X cl_X2 2 (by decide) wf_X2_15 rfl (hA.mem (s := 10) (k := 5) (by unfold inD; omega)) hP0 rfl dX2_numberOf_1 rfl ?_
  refine g_iload_n X 1 rfl dX2_numberOf_4 rfl ?_
  refine g_iconst X (z := 3) dX2_numberOf_5 rfl ?_
  refine g_imul X dX2_numberOf_6 rfl ?_
  refine g_iload_n X 2 rfl dX2_numberOf_7 rfl ?_
  refine g_iadd X dX2_numberOf_8 rfl ?_
  refine g_iald X (hA.mem (s := 10) (k := 7) (by unfold inD; omega)) hP2 ⟨by omega, by omega⟩ (by decide) dX2_numberOf_9 rfl ?_
  exact g_iret X hret ⟨Nat.le_of_ble_eq_true rfl, Nat.le_of_ble_eq_true rfl⟩ dX2_numberOf_10 ⟨rfl, rfl, rfl⟩
def caF (pa : Int → Int) (len : Int) : Nat → Int → Int → Int → (Int → Int) → Int × (Int → Int) × Int
  | 0, _, dg, nf, nu => if dg = 0 ∨ ¬ nf % 3 = 2 then (len, nu, nf) else (-6, nu, nf + 1)
  | n + 1, i, dg, nf, nu =>
    if 48 ≤ pa i ∧ pa i ≤ 57 then
      (if tdP (nf % 3) dg (tdB dg nf nu) (tdB dg nf nu * 10 + (pa i - 48)) then caF pa len n (i + 1) (dg + 1) nf (up nu nf (tdB dg nf nu * 10 + (pa i - 48))) else (i, nu, nf))
    else (if dg = 0 ∨ ¬ pa i = tBN (nf % 3) then (i, nu, nf) else caF pa len n (i + 1) 0 (nf + 1) nu)
def caP (pa nu : Int → Int) (len : Int) : Int × (Int → Int) × Int := caF pa len len.toNat 0 0 0 nu
theorem caF_d {pa : Int → Int} {len i dg nf : Int} {n : Nat} {nu : Int → Int} (h : 48 ≤ pa i ∧ pa i ≤ 57) (t : tdP (nf % 3) dg (tdB dg nf nu) (tdB dg nf nu * 10 + (pa i - 48))) : caF pa len (n + 1) i dg nf nu = caF pa len n (i + 1) (dg + 1) nf (up nu nf (tdB dg nf nu * 10 + (pa i - 48))) := by rw [caF, if_pos h, if_pos t]
theorem caF_n {pa : Int → Int} {len i dg nf : Int} {n : Nat} {nu : Int → Int} (h : 48 ≤ pa i ∧ pa i ≤ 57) (t : ¬ tdP (nf % 3) dg (tdB dg nf nu) (tdB dg nf nu * 10 + (pa i - 48))) : caF pa len (n + 1) i dg nf nu = (i, nu, nf) := by rw [caF, if_pos h, if_neg t]
theorem caF_s {pa : Int → Int} {len i dg nf : Int} {n : Nat} {nu : Int → Int} (h : ¬ (48 ≤ pa i ∧ pa i ≤ 57)) (t : ¬ (dg = 0 ∨ ¬ pa i = tBN (nf % 3))) : caF pa len (n + 1) i dg nf nu = caF pa len n (i + 1) 0 (nf + 1) nu := by rw [caF, if_neg h, if_neg t]
theorem caF_x {pa : Int → Int} {len i dg nf : Int} {n : Nat} {nu : Int → Int} (h : ¬ (48 ≤ pa i ∧ pa i ≤ 57)) (t : dg = 0 ∨ ¬ pa i = tBN (nf % 3)) : caF pa len (n + 1) i dg nf nu = (i, nu, nf) := by rw [caF, if_neg h, if_pos t]
theorem caF_e {pa : Int → Int} {len i dg nf : Int} {nu : Int → Int} (t : dg = 0 ∨ ¬ nf % 3 = 2) : caF pa len 0 i dg nf nu = (len, nu, nf) := by rw [caF, if_pos t]
theorem caF_f {pa : Int → Int} {len i dg nf : Int} {nu : Int → Int} (t : ¬ (dg = 0 ∨ ¬ nf % 3 = 2)) : caF pa len 0 i dg nf nu = (-6, nu, nf + 1) := by rw [caF, if_neg t]
set_option maxRecDepth 100000 in
set_option maxHeartbeats 4000000 in
theorem ct_X2_firstFault (l : Launch) (Sg : Int → Int → Nat) (ln nf : Int) (pa nu : Int → Int) : Ct l yX2_firstFault cX2_firstFault 4 (some .int) 2 0 0 (fun ca av L M => av = [.ref (Sg 10 5)] ∧ Adr L Sg ∧ M (Sg 10 5) = oPad Sg ln nf ∧ M (Sg 10 6) = cC ca 60 pa ∧ M (Sg 10 7) = cI ca 60 nu ∧ (0 ≤ ln ∧ ln ≤ 60) ∧ InvP pa) (fun ca av L M r L1 M1 => r = some (.int (iI (caP pa nu ln).1)) ∧ L = L1 ∧ M1 (Sg 10 5) = oPad Sg ln (caP pa nu ln).2.2 ∧ M1 (Sg 10 6) = cC ca 60 pa ∧ M1 (Sg 10 7) = cI ca 60 (caP pa nu ln).2.1 ∧ ∀ x, x ≠ Sg 10 5 → x ≠ Sg 10 7 → M1 x = M x) := by
  refine Ct_of (own := RX2) (by decide) rfl (by rintro _ _ _ _ ⟨rfl, _⟩; exact Nat.le_of_ble_eq_true rfl) ?_
  rintro p e s m args below meth cod D ca A av L M ⟨rfl, hA, hP0, hP1, hP2, hln, hpa⟩ X hret hname
  refine g_lv (lv' := [(0, .ref (Sg 10 5))]) [0] rfl ?_
  generalize hQ : MQ below _ args s _ _ A = Q
  have lp : ∀ (n : Nat) (dg i t : Int) (M1 : Mem) (w : Int → Int) (hi : 0 ≤ i ∧ i ≤ ln) (hdg : 0 ≤ dg ∧ dg ≤ i) (hnf : 0 ≤ t ∧ t ≤ i) (hnb : 0 < dg → 0 ≤ w t ∧ w t ≤ 4095) (hE : caF pa ln (ln - i).toNat i dg t w = caP pa nu ln) (hQ0 : M1 (Sg 10 5) = oPad Sg ln t) (hQ1 : M1 (Sg 10 6) = cC ca 60 pa) (hQ2 : M1 (Sg 10 7) = cI ca 60 w) (hfr : ∀ x, x ≠ Sg 10 5 → x ≠ Sg 10 7 → M1 x = M x) (hm : ln - i < (n : Int)), G p l e (Rm 2 0 0) s m args below meth cod D A 4 Q 0 0 L M1 9 [(0, .ref (Sg 10 5)), (1, .int (iI dg)), (2, .int (iI i))] [] := by
    intro n
    induction n with
    | zero =>
      intro dg i t M1 w hi hdg hnf hnb hE hQ0 hQ1 hQ2 hfr hm
      exfalso; omega
    | succ n ih =>
      intro dg i t M1 w hi hdg hnf hnb hE hQ0 hQ1 hQ2 hfr hm
      have hch : i < ln → 0 ≤ pa i ∧ pa i ≤ 255 := fun h => hpa i (by omega) (by omega)
      have hp3 : 0 ≤ t % 3 ∧ t % 3 < 3 := ⟨by omega, by omega⟩
      have hbn := tBN_rng hp3
      have hmn := tMN_rng hp3
      have hlnn := tLN_rng hp3
      have hch2 : ¬ i < ln ∨ (0 ≤ pa i ∧ pa i ≤ 255) := by rcases (by omega : ¬ i < ln ∨ i < ln) with h | h; (· exact Or.inl h); (· exact Or.inr (hch h))
      refine g_iload_n X 2 rfl dX2_firstFault_9 rfl ?_
      refine g_aload_n X 0 rfl dX2_firstFault_10 rfl ?_
      refine g_get X cl_X2 1 (by decide) wf_X2_19 rfl (hA.mem (s := 10) (k := 5) (by unfold inD; omega)) hQ0 rfl dX2_firstFault_11 rfl ?_
      refine g_icmp_ge X ⟨by omega, by omega⟩ ⟨by omega, by omega⟩ (tgt := 104) dX2_firstFault_14 (by decide) rfl (fun h_1 => ?_) (fun h_1 => ?_)
      · refine g_aload_n X 0 rfl dX2_firstFault_104 rfl ?_
        refine g_get X cl_X2 3 (by decide) wf_X2_25 rfl (hA.mem (s := 10) (k := 5) (by unfold inD; omega)) hQ0 rfl dX2_firstFault_105 rfl ?_
        refine g_iconst X (z := 3) dX2_firstFault_108 rfl ?_
        refine g_irem X ⟨⟨by omega, by omega⟩, by omega, by omega⟩ dX2_firstFault_109 rfl ?_
        refine g_iconst X (z := 2) dX2_firstFault_110 rfl ?_
        refine g_icmp_ne X ⟨by omega, by omega⟩ ⟨by decide, by decide⟩ (tgt := 118) dX2_firstFault_111 (by decide) rfl (fun h_2 => ?_) (fun h_2 => ?_)
        · refine g_iconst X (z := 0) dX2_firstFault_118 rfl ?_
          refine g_istore_n X (lv' := [(2, .int (iI 0)), (0, .ref (Sg 10 5)), (1, .int (iI dg))]) (by decide) rfl dX2_firstFault_119 rfl ?_
          refine g_iload_n X 2 rfl dX2_firstFault_120 rfl ?_
          refine g_if_eq X ⟨by omega, by omega⟩ (tgt := 128) dX2_firstFault_121 (by decide) rfl (fun h_3 => ?_) (fun h_3 => ?_)
          · refine g_aload_n X 1 rfl dX2_firstFault_128 rfl ?_
            refine g_get X cl_X2 1 (by decide) wf_X2_19 rfl (hA.mem (s := 10) (k := 5) (by unfold inD; omega)) hQ0 rfl dX2_firstFault_129 rfl ?_
            subst hQ
            exact g_iret X hret ⟨Nat.le_of_ble_eq_true rfl, Nat.le_of_ble_eq_true rfl⟩ dX2_firstFault_132 ⟨by rw [← hE, show (ln - i).toNat = 0 from by omega, caF_e (by omega)], rfl, hQ0.trans (by rw [← hE, show (ln - i).toNat = 0 from by omega, caF_e (by omega)]), hQ1, hQ2.trans (by rw [← hE, show (ln - i).toNat = 0 from by omega, caF_e (by omega)]), (fun x hk5 hk7 => (hfr x hk5 hk7))⟩
          · refine g_iload_n X 0 rfl dX2_firstFault_124 rfl ?_
            refine g_if_ne X ⟨by decide, by decide⟩ (tgt := 133) dX2_firstFault_125 (by decide) rfl (fun h => absurd h (by decide)) (fun _ => ?_)
            refine g_aload_n X 1 rfl dX2_firstFault_128 rfl ?_
            refine g_get X cl_X2 1 (by decide) wf_X2_19 rfl (hA.mem (s := 10) (k := 5) (by unfold inD; omega)) hQ0 rfl dX2_firstFault_129 rfl ?_
            subst hQ
            exact g_iret X hret ⟨Nat.le_of_ble_eq_true rfl, Nat.le_of_ble_eq_true rfl⟩ dX2_firstFault_132 ⟨by rw [← hE, show (ln - i).toNat = 0 from by omega, caF_e (by omega)], rfl, hQ0.trans (by rw [← hE, show (ln - i).toNat = 0 from by omega, caF_e (by omega)]), hQ1, hQ2.trans (by rw [← hE, show (ln - i).toNat = 0 from by omega, caF_e (by omega)]), (fun x hk5 hk7 => (hfr x hk5 hk7))⟩
        · refine g_iconst X (z := 1) dX2_firstFault_114 rfl ?_
          refine g_goto X (n := 119) dX2_firstFault_115 (by decide) ?_
          refine g_istore_n X (lv' := [(2, .int (iI 1)), (0, .ref (Sg 10 5)), (1, .int (iI dg))]) (by decide) rfl dX2_firstFault_119 rfl ?_
          refine g_iload_n X 2 rfl dX2_firstFault_120 rfl ?_
          refine g_if_eq X ⟨by omega, by omega⟩ (tgt := 128) dX2_firstFault_121 (by decide) rfl (fun h_5 => ?_) (fun h_5 => ?_)
          · refine g_aload_n X 1 rfl dX2_firstFault_128 rfl ?_
            refine g_get X cl_X2 1 (by decide) wf_X2_19 rfl (hA.mem (s := 10) (k := 5) (by unfold inD; omega)) hQ0 rfl dX2_firstFault_129 rfl ?_
            subst hQ
            exact g_iret X hret ⟨Nat.le_of_ble_eq_true rfl, Nat.le_of_ble_eq_true rfl⟩ dX2_firstFault_132 ⟨by rw [← hE, show (ln - i).toNat = 0 from by omega, caF_e (by omega)], rfl, hQ0.trans (by rw [← hE, show (ln - i).toNat = 0 from by omega, caF_e (by omega)]), hQ1, hQ2.trans (by rw [← hE, show (ln - i).toNat = 0 from by omega, caF_e (by omega)]), (fun x hk5 hk7 => (hfr x hk5 hk7))⟩
          · refine g_iload_n X 0 rfl dX2_firstFault_124 rfl ?_
            refine g_if_ne X ⟨by decide, by decide⟩ (tgt := 133) dX2_firstFault_125 (by decide) rfl (fun _ => ?_) (fun h => absurd (by decide) h)
            refine g_aload_n X 1 rfl dX2_firstFault_133 rfl ?_
            refine g_dup X rfl dX2_firstFault_134 rfl ?_
            refine g_get X cl_X2 3 (by decide) wf_X2_25 rfl (hA.mem (s := 10) (k := 5) (by unfold inD; omega)) hQ0 rfl dX2_firstFault_135 rfl ?_
            refine g_iconst X (z := 1) dX2_firstFault_138 rfl ?_
            refine g_iadd X dX2_firstFault_139 rfl ?_
            refine g_put X cl_X2 3 (by decide) wf_X2_25 rfl (hA.mem (s := 10) (k := 5) (by unfold inD; omega)) hQ0 rfl rfl rfl (Nat.le_of_ble_eq_true rfl) (fs' := [.ref (Sg 10 6), .int (iI ln), .ref (Sg 10 7), .int (iI (t + 1))]) rfl dX2_firstFault_140 rfl (fun M_7 hM_8 fr_9 => ?_)
            have hM_10 : M_7 (Sg 10 6) = cC ca 60 pa := (fr_9 (Sg 10 6) (hA.ne (by unfold inD; omega) (by unfold inD; omega) (by omega))).trans hQ1
            have hM_11 : M_7 (Sg 10 7) = cI ca 60 w := (fr_9 (Sg 10 7) (hA.ne (by unfold inD; omega) (by unfold inD; omega) (by omega))).trans hQ2
            refine g_bipush X (z := -6) (by decide +kernel) dX2_firstFault_143 rfl ?_
            subst hQ
            exact g_iret X hret ⟨Nat.le_of_ble_eq_true rfl, Nat.le_of_ble_eq_true rfl⟩ dX2_firstFault_145 ⟨by rw [← hE, show (ln - i).toNat = 0 from by omega, caF_f (by omega)], rfl, hM_8.trans (by rw [← hE, show (ln - i).toNat = 0 from by omega, caF_f (by omega)]), hM_10, hM_11.trans (by rw [← hE, show (ln - i).toNat = 0 from by omega, caF_f (by omega)]), (fun x hk5 hk7 => ((fr_9 x hk5).trans (hfr x hk5 hk7)))⟩
      · refine g_aload_n X 0 rfl dX2_firstFault_17 rfl ?_
        refine g_get X cl_X2 3 (by decide) wf_X2_25 rfl (hA.mem (s := 10) (k := 5) (by unfold inD; omega)) hQ0 rfl dX2_firstFault_18 rfl ?_
        refine g_iconst X (z := 3) dX2_firstFault_21 rfl ?_
        refine g_irem X ⟨⟨by omega, by omega⟩, by omega, by omega⟩ dX2_firstFault_22 rfl ?_
        refine g_istore_n X (lv' := [(3, .int (iI (t % 3))), (0, .ref (Sg 10 5)), (1, .int (iI dg)), (2, .int (iI i))]) (by decide) rfl dX2_firstFault_23 rfl ?_
        refine g_aload_n X 1 rfl dX2_firstFault_24 rfl ?_
        refine g_get X cl_X2 0 (by decide) wf_X2_9 rfl (hA.mem (s := 10) (k := 5) (by unfold inD; omega)) hQ0 rfl dX2_firstFault_25 rfl ?_
        refine g_iload_n X 3 rfl dX2_firstFault_28 rfl ?_
        refine g_cald X (hA.mem (s := 10) (k := 6) (by unfold inD; omega)) hQ1 ⟨by omega, by omega⟩ (by decide) dX2_firstFault_29 rfl ?_
        refine g_bipush X (z := 48) (by decide +kernel) dX2_firstFault_30 rfl ?_
        refine g_bipush X (z := 57) (by decide +kernel) dX2_firstFault_32 rfl ?_
        refine g_callSN X (ct_X5_isIn l (pa i) 48 57) (host := "StrideBanks") (As := [.int (iI (pa i)), .int (iI 48), .int (iI 57)]) (rest := []) rfl ca_X5_isIn rfl wm_X2_28 wt_X5_isIn wc_X5_isIn w0_X5 ⟨by decide, by decide⟩ (by decide) ⟨by decide, by decide⟩ rfl dX2_firstFault_34 rfl ⟨rfl, ⟨by omega, by omega⟩, ⟨by decide, by decide⟩, ⟨by decide, by decide⟩⟩ (fun r1 L1 M1 hq => ?_)
        obtain ⟨rfl, rfl, rfl⟩ := hq
        refine g_st (st' := [.int (iI (if 48 ≤ pa i ∧ pa i ≤ 57 then 1 else 0))]) rfl ?_
        refine g_if_eqb X (tgt := 66) dX2_firstFault_37 (by decide) rfl (fun h_12 => ?_) (fun h_12 => ?_)
        · refine g_iload_n X 2 rfl dX2_firstFault_66 rfl ?_
          refine g_if_eq X ⟨by omega, by omega⟩ (tgt := 84) dX2_firstFault_67 (by decide) rfl (fun h_13 => ?_) (fun h_13 => ?_)
          · refine g_iload_n X 3 rfl dX2_firstFault_84 rfl ?_
            subst hQ
            exact g_iret X hret ⟨Nat.le_of_ble_eq_true rfl, Nat.le_of_ble_eq_true rfl⟩ dX2_firstFault_85 ⟨by rw [← hE, show (ln - i).toNat = (ln - i - 1).toNat + 1 from by omega, caF_x h_12 (by omega)], rfl, hQ0.trans (by rw [← hE, show (ln - i).toNat = (ln - i - 1).toNat + 1 from by omega, caF_x h_12 (by omega)]), hQ1, hQ2.trans (by rw [← hE, show (ln - i).toNat = (ln - i - 1).toNat + 1 from by omega, caF_x h_12 (by omega)]), (fun x hk5 hk7 => (hfr x hk5 hk7))⟩
          · refine g_aload_n X 1 rfl dX2_firstFault_70 rfl ?_
            refine g_get X cl_X2 0 (by decide) wf_X2_9 rfl (hA.mem (s := 10) (k := 5) (by unfold inD; omega)) hQ0 rfl dX2_firstFault_71 rfl ?_
            refine g_iload_n X 3 rfl dX2_firstFault_74 rfl ?_
            refine g_cald X (hA.mem (s := 10) (k := 6) (by unfold inD; omega)) hQ1 ⟨by omega, by omega⟩ (by decide) dX2_firstFault_75 rfl ?_
            refine g_getsN X (host := "StrideBanks") wf_X2_35 X.2.2.2.1.2.2.2.2.2.2 dX2_firstFault_76 rfl (fun t_14 hT_15 => ?_)
            refine g_iload_n X 0 rfl dX2_firstFault_79 rfl ?_
            refine g_tc X hT_15 ⟨by omega, by omega⟩ (by decide) dX2_firstFault_80 rfl ?_
            refine g_icmp_eq X ⟨by omega, by omega⟩ ⟨by omega, by omega⟩ (tgt := 86) dX2_firstFault_81 (by decide) rfl (fun h_16 => ?_) (fun h_16 => ?_)
            · refine g_iconst X (z := 0) dX2_firstFault_86 rfl ?_
              refine g_istore_n X (lv' := [(1, .int (iI 0)), (3, .int (iI (t % 3))), (0, .ref (Sg 10 5)), (2, .int (iI i))]) (by decide) rfl dX2_firstFault_87 rfl ?_
              refine g_aload_n X 2 rfl dX2_firstFault_88 rfl ?_
              refine g_dup X rfl dX2_firstFault_89 rfl ?_
              refine g_get X cl_X2 3 (by decide) wf_X2_25 rfl (hA.mem (s := 10) (k := 5) (by unfold inD; omega)) hQ0 rfl dX2_firstFault_90 rfl ?_
              refine g_iconst X (z := 1) dX2_firstFault_93 rfl ?_
              refine g_iadd X dX2_firstFault_94 rfl ?_
              refine g_put X cl_X2 3 (by decide) wf_X2_25 rfl (hA.mem (s := 10) (k := 5) (by unfold inD; omega)) hQ0 rfl rfl rfl (Nat.le_of_ble_eq_true rfl) (fs' := [.ref (Sg 10 6), .int (iI ln), .ref (Sg 10 7), .int (iI (t + 1))]) rfl dX2_firstFault_95 rfl (fun M_17 hM_18 fr_19 => ?_)
              have hM_20 : M_17 (Sg 10 6) = cC ca 60 pa := (fr_19 (Sg 10 6) (hA.ne (by unfold inD; omega) (by unfold inD; omega) (by omega))).trans hQ1
              have hM_21 : M_17 (Sg 10 7) = cI ca 60 w := (fr_19 (Sg 10 7) (hA.ne (by unfold inD; omega) (by unfold inD; omega) (by omega))).trans hQ2
              refine g_iinc X (lv' := [(2, .int (iI (i + 1))), (1, .int (iI 0)), (3, .int (iI (t % 3))), (0, .ref (Sg 10 5))]) 3 rfl (by decide) rfl dX2_firstFault_98 rfl ?_
              refine g_goto X (n := 9) dX2_firstFault_101 (by decide) ?_
              refine g_lv (lv' := [(0, .ref (Sg 10 5)), (1, .int (iI 0)), (2, .int (iI (i + 1)))]) [3, 1, 0] rfl ?_
              exact ih _ _ _ _ _ (by omega) (by omega) (by omega) (fun h => absurd h (by decide)) (by rw [← hE, show (ln - i).toNat = (ln - (i + 1)).toNat + 1 from by omega, caF_s h_12 (by omega)]) hM_18 hM_20 hM_21 (fun x hk5 hk7 => ((fr_19 x hk5).trans (hfr x hk5 hk7))) (by omega)
            · refine g_iload_n X 3 rfl dX2_firstFault_84 rfl ?_
              subst hQ
              exact g_iret X hret ⟨Nat.le_of_ble_eq_true rfl, Nat.le_of_ble_eq_true rfl⟩ dX2_firstFault_85 ⟨by rw [← hE, show (ln - i).toNat = (ln - i - 1).toNat + 1 from by omega, caF_x h_12 (by omega)], rfl, hQ0.trans (by rw [← hE, show (ln - i).toNat = (ln - i - 1).toNat + 1 from by omega, caF_x h_12 (by omega)]), hQ1, hQ2.trans (by rw [← hE, show (ln - i).toNat = (ln - i - 1).toNat + 1 from by omega, caF_x h_12 (by omega)]), (fun x hk5 hk7 => (hfr x hk5 hk7))⟩
        · refine g_aload_n X 1 rfl dX2_firstFault_40 rfl ?_
          refine g_iload_n X 0 rfl dX2_firstFault_41 rfl ?_
          refine g_iload_n X 2 rfl dX2_firstFault_42 rfl ?_
          refine g_aload_n X 1 rfl dX2_firstFault_43 rfl ?_
          refine g_get X cl_X2 0 (by decide) wf_X2_9 rfl (hA.mem (s := 10) (k := 5) (by unfold inD; omega)) hQ0 rfl dX2_firstFault_44 rfl ?_
          refine g_iload_n X 3 rfl dX2_firstFault_47 rfl ?_
          refine g_cald X (hA.mem (s := 10) (k := 6) (by unfold inD; omega)) hQ1 ⟨by omega, by omega⟩ (by decide) dX2_firstFault_48 rfl ?_
          refine g_bipush X (z := 48) (by decide +kernel) dX2_firstFault_49 rfl ?_
          refine g_isub X dX2_firstFault_51 rfl ?_
          refine g_callV X (ct_X2_takesDigit l Sg ln t pa w (t % 3) dg (pa i - 48)) (As := [.int (iI (t % 3)), .int (iI dg), .int (iI (pa i - 48))]) (rest := []) cl_X2 rfl ca_X2_takesDigit rfl wm_X2_32 wi_X2_takesDigit ws_X2_takesDigit wc_X2_takesDigit w0_X2 ⟨by decide, by decide⟩ (hA.mem (s := 10) (k := 5) (by unfold inD; omega)) hQ0 (by decide) ⟨by decide, by decide⟩ rfl dX2_firstFault_52 rfl ⟨rfl, hA, hQ0, hQ1, hQ2, ⟨by omega, by omega⟩, ⟨by omega, by omega⟩, ⟨by omega, by omega⟩, ⟨by omega, by omega⟩, hnb⟩ (fun r1 L1 M_22 hq => ?_)
          obtain ⟨rfl, rfl, hM_23, fr_24⟩ := hq
          obtain ⟨g_25, hg_26⟩ : ∃ x : Int → Int, x = if tdP (t % 3) dg (tdB dg t w) (tdB dg t w * 10 + (pa i - 48)) then up w t (tdB dg t w * 10 + (pa i - 48)) else w := ⟨_, rfl⟩
          rw [← hg_26] at hM_23
          have hM_27 : M_22 (Sg 10 5) = .inr (2, [.ref (Sg 10 6), .int (iI ln), .ref (Sg 10 7), .int (iI t)]) := (fr_24 (Sg 10 5) (hA.ne (by unfold inD; omega) (by unfold inD; omega) (by omega))).trans hQ0
          have hM_28 : M_22 (Sg 10 6) = cC ca 60 pa := (fr_24 (Sg 10 6) (hA.ne (by unfold inD; omega) (by unfold inD; omega) (by omega))).trans hQ1
          refine g_st (st' := [.int (iI (if tdP (t % 3) dg (tdB dg t w) (tdB dg t w * 10 + (pa i - 48)) then 1 else 0))]) rfl ?_
          refine g_if_neb X (tgt := 60) dX2_firstFault_55 (by decide) rfl (fun h_29 => ?_) (fun h_29 => ?_)
          · refine g_iinc X (lv' := [(1, .int (iI (dg + 1))), (3, .int (iI (t % 3))), (0, .ref (Sg 10 5)), (2, .int (iI i))]) 2 rfl (by decide) rfl dX2_firstFault_60 rfl ?_
            refine g_goto X (n := 98) dX2_firstFault_63 (by decide) ?_
            refine g_iinc X (lv' := [(2, .int (iI (i + 1))), (1, .int (iI (dg + 1))), (3, .int (iI (t % 3))), (0, .ref (Sg 10 5))]) 3 rfl (by decide) rfl dX2_firstFault_98 rfl ?_
            refine g_goto X (n := 9) dX2_firstFault_101 (by decide) ?_
            have hw2 : g_25 = up w t (tdB dg t w * 10 + (pa i - 48)) := by rw [hg_26, if_pos h_29]
            refine g_lv (lv' := [(0, .ref (Sg 10 5)), (1, .int (iI (dg + 1))), (2, .int (iI (i + 1)))]) [3, 1, 0] rfl ?_
            exact ih _ _ _ _ _ (by omega) (by omega) (by omega) (fun _ => by rw [hw2, up_eq]; have := h_29.2; omega) (by rw [hw2, ← hE, show (ln - i).toNat = (ln - (i + 1)).toNat + 1 from by omega, caF_d h_12 h_29]) hM_27 hM_28 hM_23 (fun x hk5 hk7 => ((fr_24 x hk7).trans (hfr x hk5 hk7))) (by omega)
          · refine g_iload_n X 3 rfl dX2_firstFault_58 rfl ?_
            subst hQ
            have hw2 : g_25 = w := by rw [hg_26, if_neg h_29]
            exact g_iret X hret ⟨Nat.le_of_ble_eq_true rfl, Nat.le_of_ble_eq_true rfl⟩ dX2_firstFault_59 ⟨by rw [← hE, show (ln - i).toNat = (ln - i - 1).toNat + 1 from by omega, caF_n h_12 h_29], rfl, hM_27.trans (by rw [← hE, show (ln - i).toNat = (ln - i - 1).toNat + 1 from by omega, caF_n h_12 h_29]), hM_28, hM_23.trans (by rw [← hE, show (ln - i).toNat = (ln - i - 1).toNat + 1 from by omega, caF_n h_12 h_29, hw2]), (fun x hk5 hk7 => ((fr_24 x hk7).trans (hfr x hk5 hk7)))⟩
  refine g_aload_n X 0 rfl dX2_firstFault_0 rfl ?_
  refine g_iconst X (z := 0) dX2_firstFault_1 rfl ?_
  refine g_put X cl_X2 3 (by decide) wf_X2_25 rfl (hA.mem (s := 10) (k := 5) (by unfold inD; omega)) hP0 rfl rfl rfl (Nat.le_of_ble_eq_true rfl) (fs' := [.ref (Sg 10 6), .int (iI ln), .ref (Sg 10 7), .int (iI 0)]) rfl dX2_firstFault_2 rfl (fun M_30 hM_31 fr_32 => ?_)
  have hM_33 : M_30 (Sg 10 6) = cC ca 60 pa := (fr_32 (Sg 10 6) (hA.ne (by unfold inD; omega) (by unfold inD; omega) (by omega))).trans hP1
  have hM_34 : M_30 (Sg 10 7) = cI ca 60 nu := (fr_32 (Sg 10 7) (hA.ne (by unfold inD; omega) (by unfold inD; omega) (by omega))).trans hP2
  refine g_iconst X (z := 0) dX2_firstFault_5 rfl ?_
  refine g_istore_n X (lv' := [(1, .int (iI 0)), (0, .ref (Sg 10 5))]) (by decide) rfl dX2_firstFault_6 rfl ?_
  refine g_iconst X (z := 0) dX2_firstFault_7 rfl ?_
  refine g_istore_n X (lv' := [(2, .int (iI 0)), (1, .int (iI 0)), (0, .ref (Sg 10 5))]) (by decide) rfl dX2_firstFault_8 rfl ?_
  refine g_lv (lv' := [(0, .ref (Sg 10 5)), (1, .int (iI 0)), (2, .int (iI 0))]) [2, 1, 0] rfl ?_
  exact lp 70 _ _ 0 _ nu (by omega) (by omega) (by omega) (fun h => absurd h (by decide)) (by rw [caP, Int.sub_zero]) hM_31 hM_33 hM_34 (fun x hk5 hk7 => (fr_32 x hk5)) (by omega)
set_option maxRecDepth 100000 in
set_option maxHeartbeats 4000000 in
theorem ct_X2_append (l : Launch) (Sg : Int → Int → Nat) (ln nf : Int) (pa nu : Int → Int) (c1 : Int64) (a1 : Int) : Ct l yX2_append cX2_append 5 none 0 0 0 (fun ca av L M => av = [.ref (Sg 10 5), .long c1, .int (iI a1)] ∧ Adr L Sg ∧ M (Sg 10 5) = oPad Sg ln nf ∧ M (Sg 10 6) = cC ca 60 pa ∧ M (Sg 10 7) = cI ca 60 nu ∧ (0 ≤ a1 ∧ a1 ≤ 8) ∧ (0 ≤ ln ∧ ln + a1 ≤ 60)) (fun ca av L M r L1 M1 => r = none ∧ L = L1 ∧ M1 (Sg 10 5) = oPad Sg (ln + a1) nf ∧ M1 (Sg 10 6) = cC ca 60 (apP c1 a1 ln a1 pa) ∧ M1 (Sg 10 7) = cI ca 60 nu ∧ ∀ x, x ≠ Sg 10 5 → x ≠ Sg 10 6 → M1 x = M x) := by
  refine Ct_of (own := RX2) (by decide) rfl (by rintro _ _ _ _ ⟨rfl, _⟩; exact Nat.le_of_ble_eq_true rfl) ?_
  rintro p e s m args below meth cod D ca A av L M ⟨rfl, hA, hP0, hP1, hP2, ha, hln⟩ X hret hname
  refine g_lv (lv' := [(0, .ref (Sg 10 5)), (1, .long c1), (3, .int (iI a1))]) [0, 1, 2] rfl ?_
  generalize hQ : MQ below _ args s _ _ A = Q
  have lp : ∀ (n : Nat) (i q : Int) (M1 : Mem) (w : Int → Int) (hi : -1 ≤ i ∧ i < a1) (hq : i = a1 - 1 - (q - ln) ∧ ln ≤ q ∧ q ≤ ln + a1) (hw : w = apP c1 a1 ln (q - ln) pa) (hQ0 : M1 (Sg 10 5) = oPad Sg q nf) (hQ1 : M1 (Sg 10 6) = cC ca 60 w) (hQ2 : M1 (Sg 10 7) = cI ca 60 nu) (hfr : ∀ x, x ≠ Sg 10 5 → x ≠ Sg 10 6 → M1 x = M x) (hm : i + 1 < (n : Int)), G p l e (Rm 0 0 0) s m args below meth cod D A 5 Q 0 0 L M1 5 [(0, .ref (Sg 10 5)), (1, .long c1), (3, .int (iI a1)), (4, .int (iI i))] [] := by
    intro n
    induction n with
    | zero =>
      intro i q M1 w hi hq hw hQ0 hQ1 hQ2 hfr hm
      exfalso; omega
    | succ n ih =>
      intro i q M1 w hi hq hw hQ0 hQ1 hQ2 hfr hm
      refine g_iload X 3 rfl dX2_append_5 rfl ?_
      refine g_if_lt X ⟨by omega, by omega⟩ (tgt := 48) dX2_append_7 (by decide) rfl (fun h_1 => ?_) (fun h_1 => ?_)
      · subst hQ
        exact g_vret X hret ⟨Nat.le_of_ble_eq_true rfl, Nat.le_of_ble_eq_true rfl⟩ dX2_append_48 ⟨rfl, rfl, hQ0.trans (by rw [show q = ln + a1 from by omega]), hQ1.trans (by rw [hw, show q - ln = a1 from by omega]), hQ2, (fun x hk5 hk6 => (hfr x hk5 hk6))⟩
      · refine g_aload_n X 0 rfl dX2_append_10 rfl ?_
        refine g_get X cl_X2 0 (by decide) wf_X2_9 rfl (hA.mem (s := 10) (k := 5) (by unfold inD; omega)) hQ0 rfl dX2_append_11 rfl ?_
        refine g_aload_n X 0 rfl dX2_append_14 rfl ?_
        refine g_get X cl_X2 1 (by decide) wf_X2_19 rfl (hA.mem (s := 10) (k := 5) (by unfold inD; omega)) hQ0 rfl dX2_append_15 rfl ?_
        refine g_lload_n X 1 rfl dX2_append_18 rfl ?_
        refine g_bipush X (z := 8) (by decide +kernel) dX2_append_19 rfl ?_
        refine g_iload X 3 rfl dX2_append_21 rfl ?_
        refine g_imul X dX2_append_23 rfl ?_
        refine g_lushr X (v := (sh8 c1 (8 * i))) rfl dX2_append_24 rfl ?_
        refine g_ldc2 X (v := 255) wv_X2_23 dX2_append_25 rfl ?_
        refine g_land X (v := ((sh8 c1 (8 * i)) &&& 255)) rfl dX2_append_28 rfl ?_
        refine g_l2i X (lb_l2i (sh8 c1 (8 * i))) dX2_append_29 rfl ?_
        refine g_i2c X (ch_i2c (lb_rng _)) dX2_append_30 rfl ?_
        refine g_cast X (hA.mem (s := 10) (k := 6) (by unfold inD; omega)) hQ1 ⟨by omega, by omega⟩ (by decide) (ch_nar (lb_rng _)) dX2_append_31 rfl (fun M_2 hM_3 fr_4 => ?_)
        obtain ⟨g_5, hg_6⟩ : ∃ x : Int → Int, x = up w q (lb (sh8 c1 (8 * i))) := ⟨_, rfl⟩
        rw [← hg_6] at hM_3
        have hM_7 : M_2 (Sg 10 5) = .inr (2, [.ref (Sg 10 6), .int (iI q), .ref (Sg 10 7), .int (iI nf)]) := (fr_4 (Sg 10 5) (hA.ne (by unfold inD; omega) (by unfold inD; omega) (by omega))).trans hQ0
        have hM_8 : M_2 (Sg 10 7) = cI ca 60 nu := (fr_4 (Sg 10 7) (hA.ne (by unfold inD; omega) (by unfold inD; omega) (by omega))).trans hQ2
        refine g_aload_n X 0 rfl dX2_append_32 rfl ?_
        refine g_dup X rfl dX2_append_33 rfl ?_
        refine g_get X cl_X2 1 (by decide) wf_X2_19 rfl (hA.mem (s := 10) (k := 5) (by unfold inD; omega)) hM_7 rfl dX2_append_34 rfl ?_
        refine g_iconst X (z := 1) dX2_append_37 rfl ?_
        refine g_iadd X dX2_append_38 rfl ?_
        refine g_put X cl_X2 1 (by decide) wf_X2_19 rfl (hA.mem (s := 10) (k := 5) (by unfold inD; omega)) hM_7 rfl rfl rfl (Nat.le_of_ble_eq_true rfl) (fs' := [.ref (Sg 10 6), .int (iI (q + 1)), .ref (Sg 10 7), .int (iI nf)]) rfl dX2_append_39 rfl (fun M_9 hM_10 fr_11 => ?_)
        have hM_12 : M_9 (Sg 10 7) = cI ca 60 nu := (fr_11 (Sg 10 7) (hA.ne (by unfold inD; omega) (by unfold inD; omega) (by omega))).trans hM_8
        have hM_13 : M_9 (Sg 10 6) = cC ca 60 g_5 := (fr_11 (Sg 10 6) (hA.ne (by unfold inD; omega) (by unfold inD; omega) (by omega))).trans hM_3
        refine g_iinc X (lv' := [(4, .int (iI (i + (-1)))), (0, .ref (Sg 10 5)), (1, .long c1), (3, .int (iI a1))]) 3 rfl (by decide) rfl dX2_append_42 rfl ?_
        refine g_goto X (n := 5) dX2_append_45 (by decide) ?_
        refine g_lv (lv' := [(0, .ref (Sg 10 5)), (1, .long c1), (3, .int (iI a1)), (4, .int (iI (i + (-1))))]) [1, 2, 3, 0] rfl ?_
        exact ih _ _ _ _ (by omega) (by omega) (by rw [hg_6, hw, show q + 1 - ln = (q - ln) + 1 from by omega, ← apP_up c1 a1 ln pa (by omega : 0 ≤ q - ln), show ln + (q - ln) = q from by omega, show a1 - 1 - (q - ln) = i from by omega]) hM_10 hM_13 hM_12 (fun x hk5 hk6 => ((fr_11 x hk5).trans ((fr_4 x hk6).trans (hfr x hk5 hk6)))) (by omega)
  refine g_iload_n X 2 rfl dX2_append_0 rfl ?_
  refine g_iconst X (z := 1) dX2_append_1 rfl ?_
  refine g_isub X dX2_append_2 rfl ?_
  refine g_istore X (lv' := [(4, .int (iI (a1 - 1))), (0, .ref (Sg 10 5)), (1, .long c1), (3, .int (iI a1))]) (by decide) rfl dX2_append_3 rfl ?_
  refine g_lv (lv' := [(0, .ref (Sg 10 5)), (1, .long c1), (3, .int (iI a1)), (4, .int (iI (a1 - 1)))]) [1, 2, 3, 0] rfl ?_
  exact lp 20 _ ln _ pa (by omega) (by omega) (by rw [Int.sub_self, apP_0]) hP0 hP1 hP2 (fun _ _ _ => rfl) (by omega)
