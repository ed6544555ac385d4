/-! the class: texts -/
def chN (x : Int64) : Int := if ptN x < 0 then 0 else ptN x
theorem chN_or (x : Int64) : (ptN x ≤ 0 ∧ chN x = 0) ∨ (0 < ptN x ∧ chN x = ptN x ∧ chN x ≤ 8) := by
  have h := ptN_rng x
  unfold chN
  split <;> omega
theorem fo_fault {pa nu : Int → Int} {len : Int} (h0 : 0 ≤ len) (h1 : len ≤ 60) : (foB pa len < 0 ∧ (caP pa nu len).1 = -6 ∧ (caP pa nu len).2.2 = 3 * foK pa len ∧ ∀ k, 0 ≤ k → k < 3 * foK pa len → (caP pa nu len).2.1 k = foR pa len k) ∨ (0 ≤ foB pa len ∧ (caP pa nu len).1 = foB pa len) := by
  obtain ⟨a, b⟩ := ca_fo (pa := pa) (nu := nu) h0 h1
  cases h : (foP pa len rd0).1
  · obtain ⟨b1, b2⟩ := b h
    refine Or.inr ?_
    unfold foB
    rw [h, if_neg (by decide)]
    exact ⟨b2, b1⟩
  · obtain ⟨a1, a2, a3⟩ := a h
    refine Or.inl ⟨?_, a1, a2, a3⟩
    unfold foB
    rw [h, if_pos rfl]; decide
set_option maxRecDepth 100000 in
set_option maxHeartbeats 4000000 in
theorem ct_X5_charactersIn (l : Launch) (c1 : Int64) : Ct l yX5_charactersIn cX5_charactersIn 6 (some .int) 1 0 0 (fun ca av L M => av = [.long c1] ∧ True) (fun ca av L M r L1 M1 => r = some (.int (iI (chN c1))) ∧ L = L1 ∧ M = M1) := by
  refine Ct_of (own := RX5) (by decide) rfl (by rintro _ _ _ _ ⟨rfl, _⟩; exact Nat.le_of_ble_eq_true rfl) ?_
  rintro p e s m args below meth cod D ca A av L M ⟨rfl, _⟩ X hret hname
  refine g_lv (lv' := [(0, .long c1)]) [0] rfl ?_
  generalize hQ : MQ below _ args s _ _ A = Q
  have lp : ∀ (n : Nat) (k fu : Nat) (y : Int) (w : Int64) (hy : y = k) (hw : w = sq8 c1 k) (hF : ptF c1 fu k = ptN c1) (hkf : k + fu = 8) (hm : fu < n), G p l e (Rm 1 0 0) s m args below meth cod D A 6 Q 0 0 L M 4 [(0, .long c1), (2, .int (iI y)), (3, .long w)] [] := by
    intro n
    induction n with
    | zero =>
      intro k fu y w hy hw hF hkf hm
      exfalso; omega
    | succ n ih =>
      intro k fu y w hy hw hF hkf hm
      have hlb := lb_rng w
      have hfz : k = 8 → ptN c1 = 8 := fun h => by rw [← hF, show fu = 0 from by omega, h]; rfl
      have hfy : k < 8 → w.toInt = 0 → ptN c1 = k := fun h h0 => by
        obtain ⟨f2, rfl⟩ : ∃ f2, fu = f2 + 1 := ⟨fu - 1, by omega⟩
        rw [← hF]; simp only [ptF]; rw [← hw, if_pos h0]
      have hfb : k < 8 → ¬ w.toInt = 0 → ¬ (33 ≤ lb w ∧ lb w ≤ 126) → ptN c1 = -1 := fun h h0 h1 => by
        obtain ⟨f2, rfl⟩ : ∃ f2, fu = f2 + 1 := ⟨fu - 1, by omega⟩
        rw [← hF]; simp only [ptF]; rw [← hw, if_neg h0, if_neg h1]
      refine g_lload_n X 2 rfl dX5_charactersIn_4 rfl ?_
      refine g_lconst X (v := 0) rfl dX5_charactersIn_5 rfl ?_
      refine g_lcmp_eq X (a := w.toInt) (b := 0) (tgt := 49) rfl (by decide +kernel) dX5_charactersIn_6 rfl dX5_charactersIn_7 (by decide) rfl (fun h_1 => ?_) (fun h_1 => ?_)
      · refine g_iload_n X 1 rfl dX5_charactersIn_49 rfl ?_
        subst hQ
        have hpn : ptN c1 = y := by rcases (by omega : k = 8 ∨ k < 8) with q8 | q8; (· exact (hfz q8).trans (by omega)); (· exact (hfy q8 (by omega)).trans (by omega))
        exact g_iret X hret ⟨Nat.le_of_ble_eq_true rfl, Nat.le_of_ble_eq_true rfl⟩ dX5_charactersIn_50 ⟨by rw [chN, if_neg (by omega), hpn], rfl, rfl⟩
      · refine g_iload_n X 1 rfl dX5_charactersIn_10 rfl ?_
        refine g_bipush X (z := 8) (by decide +kernel) dX5_charactersIn_11 rfl ?_
        refine g_icmp_ge X ⟨by omega, by omega⟩ ⟨by decide, by decide⟩ (tgt := 49) dX5_charactersIn_13 (by decide) rfl (fun h_2 => ?_) (fun h_2 => ?_)
        · refine g_iload_n X 1 rfl dX5_charactersIn_49 rfl ?_
          subst hQ
          have hpn : ptN c1 = y := by rcases (by omega : k = 8 ∨ k < 8) with q8 | q8; (· exact (hfz q8).trans (by omega)); (· exact (hfy q8 (by omega)).trans (by omega))
          exact g_iret X hret ⟨Nat.le_of_ble_eq_true rfl, Nat.le_of_ble_eq_true rfl⟩ dX5_charactersIn_50 ⟨by rw [chN, if_neg (by omega), hpn], rfl, rfl⟩
        · refine g_lload_n X 2 rfl dX5_charactersIn_16 rfl ?_
          refine g_ldc2 X (v := 255) wv_X5_196 dX5_charactersIn_17 rfl ?_
          refine g_land X (v := (w &&& 255)) rfl dX5_charactersIn_20 rfl ?_
          refine g_l2i X (lb_l2i w) dX5_charactersIn_21 rfl ?_
          refine g_istore X (lv' := [(5, .int (iI (lb w))), (0, .long c1), (2, .int (iI y)), (3, .long w)]) (by decide) rfl dX5_charactersIn_22 rfl ?_
          refine g_iload X 0 rfl dX5_charactersIn_24 rfl ?_
          refine g_bipush X (z := 33) (by decide +kernel) dX5_charactersIn_26 rfl ?_
          refine g_bipush X (z := 126) (by decide +kernel) dX5_charactersIn_28 rfl ?_
          refine g_callS X (ct_X5_isIn l (lb w) 33 126) (As := [.int (iI (lb w)), .int (iI 33), .int (iI 126)]) (rest := []) rfl ca_X5_isIn rfl wm_X5_41 wt_X5_isIn wc_X5_isIn w0_X5 ⟨by decide, by decide⟩ (by decide) ⟨by decide, by decide⟩ rfl dX5_charactersIn_30 rfl ⟨rfl, ⟨by omega, by omega⟩, ⟨by decide, by decide⟩, ⟨by decide, by decide⟩⟩ (fun r1 L1 M1 hq => ?_)
          obtain ⟨rfl, rfl, rfl⟩ := hq
          refine g_st (st' := [.int (iI (if 33 ≤ lb w ∧ lb w ≤ 126 then 1 else 0))]) rfl ?_
          refine g_if_neb X (tgt := 38) dX5_charactersIn_33 (by decide) rfl (fun h_3 => ?_) (fun h_3 => ?_)
          · refine g_iinc X (lv' := [(2, .int (iI (y + 1))), (5, .int (iI (lb w))), (0, .long c1), (3, .long w)]) 2 rfl (by decide) rfl dX5_charactersIn_38 rfl ?_
            refine g_lload_n X 3 rfl dX5_charactersIn_41 rfl ?_
            refine g_bipush X (z := 8) (by decide +kernel) dX5_charactersIn_42 rfl ?_
            refine g_lushr X (v := (sh8 w 8)) rfl dX5_charactersIn_44 rfl ?_
            refine g_lstore_n X (lv' := [(3, .long (sh8 w 8)), (2, .int (iI (y + 1))), (5, .int (iI (lb w))), (0, .long c1)]) (by decide) rfl dX5_charactersIn_45 rfl ?_
            refine g_goto X (n := 4) dX5_charactersIn_46 (by decide) ?_
            have hlt : 0 < fu := by omega
            obtain ⟨f2, rfl⟩ : ∃ f2, fu = f2 + 1 := ⟨fu - 1, by omega⟩
            have hx : ptF c1 (f2 + 1) k = ptF c1 f2 (k + 1) := by simp only [ptF]; rw [← hw, if_neg (by omega), if_pos (by omega)]
            refine g_lv (lv' := [(0, .long c1), (2, .int (iI (y + 1))), (3, .long (sh8 w 8))]) [3, 1, 0] rfl ?_
            exact ih (k + 1) f2 _ _ (by omega) (by rw [hw]; rfl) (by omega) (by omega) (by omega)
          · refine g_iconst X (z := 0) dX5_charactersIn_36 rfl ?_
            subst hQ
            have hpb := hfb (by omega) (by omega) (by omega)
            exact g_iret X hret ⟨Nat.le_of_ble_eq_true rfl, Nat.le_of_ble_eq_true rfl⟩ dX5_charactersIn_37 ⟨by rw [chN, if_pos (by omega)], rfl, rfl⟩
  refine g_iconst X (z := 0) dX5_charactersIn_0 rfl ?_
  refine g_istore_n X (lv' := [(2, .int (iI 0)), (0, .long c1)]) (by decide) rfl dX5_charactersIn_1 rfl ?_
  refine g_lload_n X 1 rfl dX5_charactersIn_2 rfl ?_
  refine g_lstore_n X (lv' := [(3, .long c1), (2, .int (iI 0)), (0, .long c1)]) (by decide) rfl dX5_charactersIn_3 rfl ?_
  refine g_lv (lv' := [(0, .long c1), (2, .int (iI 0)), (3, .long c1)]) [2, 1, 0] rfl ?_
  exact lp 9 0 8 _ _ rfl rfl rfl (by decide) (by decide)
set_option maxRecDepth 100000 in
set_option maxHeartbeats 4000000 in
theorem ct_X5_put (l : Launch) (Sg : Int → Int → Nat) (g be sa iz pa : Int → Int) (len st : Int) (c1 : Int64) : Ct l yX5_put cX5_put 4 (some .int) 5 0 0 (fun ca av L M => av = [.ref (Sg 10 0), .long c1] ∧ SBm ca L M Sg (g, be, sa, iz, pa, len, st) ∧ WfA (g, be, sa, iz, pa, len, st)) (fun ca av L M r L1 M1 => r = some (.int (iI (anPut (g, be, sa, iz, pa, len, st) c1))) ∧ L = L1 ∧ SBo ca L M M1 Sg (opPut (g, be, sa, iz, pa, len, st) c1)) := by
  refine Ct_of (own := RX5) (by decide) rfl (by rintro _ _ _ _ ⟨rfl, _⟩; exact Nat.le_of_ble_eq_true rfl) ?_
  rintro p e s m args below meth cod D ca A av L M ⟨rfl, hSB, hW⟩ X hret hname
  refine g_lv (lv' := [(0, .ref (Sg 10 0)), (1, .long c1)]) [0, 1] rfl ?_
  obtain ⟨c, ct, nf, nu, hB, hR⟩ : ∃ (c ct : Int → Int) (nf : Int) (nu : Int → Int), SBc ca L M Sg be sa iz pa nu len nf st c ct ∧ Rel c g := SBm.opn hSB
  have hA := hB.adr
  have hO := outA.refl Sg M
  obtain ⟨hWg, hln, hst, hpa, hWh, hWs⟩ : WfG g ∧ (0 ≤ len ∧ len ≤ 60) ∧ (0 ≤ st ∧ st ≤ 6) ∧ InvP pa ∧ (∀ j, 0 ≤ j → j < st → WfG (blk (110 * j) be)) ∧ (∀ k, 0 ≤ k → k < 2 → (iz k = 0 ∨ iz k = 1) ∧ (iz k ≠ 0 → WfG (blk (110 * k) sa))) := id hW
  obtain ⟨hI, hZ, h4⟩ := id hWg
  obtain ⟨⟨i00, i01⟩, ⟨i10, i11⟩, ⟨i20, i21⟩, ⟨i30, i31⟩, ⟨i40, i41⟩, i50, i51⟩ := id hI.1
  obtain ⟨⟨e0, e1, e2, e3, e4, e5⟩, hRB, hRR⟩ := id hR
  refine g_lload_n X 1 rfl dX5_put_0 rfl ?_
  refine g_callS X (ct_X5_charactersIn l c1) (As := [.long c1]) (rest := []) rfl ca_X5_charactersIn rfl wm_X5_179 wt_X5_charactersIn wc_X5_charactersIn w0_X5 ⟨by decide, by decide⟩ (by decide) ⟨by decide, by decide⟩ rfl dX5_put_1 rfl ⟨rfl, trivial⟩ (fun r1 L1 M1 hq => ?_)
  obtain ⟨rfl, rfl, rfl⟩ := hq
  have hch := chN_or c1
  refine g_st (st' := [.int (iI (chN c1))]) rfl ?_
  refine g_istore_n X (lv' := [(3, .int (iI (chN c1))), (0, .ref (Sg 10 0)), (1, .long c1)]) (by decide) rfl dX5_put_4 rfl ?_
  refine g_iload_n X 0 rfl dX5_put_5 rfl ?_
  refine g_if_ne X ⟨by omega, by omega⟩ (tgt := 12) dX5_put_6 (by decide) rfl (fun h_1 => ?_) (fun h_1 => ?_)
  · refine g_aload_n X 1 rfl dX5_put_12 rfl ?_
    refine g_get X cl_X5 5 (by decide) wf_X5_37 rfl (hA.mem (s := 10) (k := 0) (by unfold inD; omega)) hB.obj rfl dX5_put_13 rfl ?_
    refine g_getN X cl_X2 1 (by decide) wf_X5_81 rfl (hA.mem (s := 10) (k := 5) (by unfold inD; omega)) hB.pobj rfl dX5_put_16 rfl ?_
    refine g_iload_n X 0 rfl dX5_put_19 rfl ?_
    refine g_iadd X dX5_put_20 rfl ?_
    refine g_bipush X (z := 60) (by decide +kernel) dX5_put_21 rfl ?_
    refine g_icmp_le X ⟨by omega, by omega⟩ ⟨by decide, by decide⟩ (tgt := 29) dX5_put_23 (by decide) rfl (fun h_2 => ?_) (fun h_2 => ?_)
    · refine g_aload_n X 1 rfl dX5_put_29 rfl ?_
      refine g_get X cl_X5 5 (by decide) wf_X5_37 rfl (hA.mem (s := 10) (k := 0) (by unfold inD; omega)) hB.obj rfl dX5_put_30 rfl ?_
      refine g_lload_n X 2 rfl dX5_put_33 rfl ?_
      refine g_iload_n X 0 rfl dX5_put_34 rfl ?_
      refine g_callVN X (ct_X2_append l Sg len nf pa nu c1 (chN c1)) (host := "StrideBanks") (As := [.long c1, .int (iI (chN c1))]) (rest := []) cl_X2 rfl ca_X2_append rfl wm_X5_183 wi_X2_append ws_X2_append wc_X2_append w0_X2 ⟨by decide, by decide⟩ (hA.mem (s := 10) (k := 5) (by unfold inD; omega)) hB.pobj (by decide) ⟨by decide, by decide⟩ rfl dX5_put_35 rfl ⟨rfl, hA, hB.pobj, hB.ptx, hB.pnu, by omega, by omega⟩ (fun r1 L1 M_3 hq => ?_)
      obtain ⟨rfl, rfl, hp_4, hp_5, hp_6, fr_7⟩ := hq
      obtain ⟨hB_8, hO_9⟩ := hB.toPad hp_4 hp_5 hp_6 (fun x x5 x6 x7 => fr_7 x x5 x6)
      have hO_9 := hO.trans hO_9
      refine g_st (st' := []) rfl ?_
      refine g_aload_n X 1 rfl dX5_put_38 rfl ?_
      refine g_get X cl_X5 5 (by decide) wf_X5_37 rfl (hA.mem (s := 10) (k := 0) (by unfold inD; omega)) hB_8.obj rfl dX5_put_39 rfl ?_
      refine g_getN X cl_X2 1 (by decide) wf_X5_81 rfl (hA.mem (s := 10) (k := 5) (by unfold inD; omega)) hB_8.pobj rfl dX5_put_42 rfl ?_
      have hn : ¬ ptN c1 ≤ 0 := by omega
      have hcp : chN c1 = ptN c1 := by omega
      have hm : ¬ len + ptN c1 > 60 := by omega
      rw [hcp] at hB_8
      exact g_iret X hret ⟨Nat.le_of_ble_eq_true rfl, Nat.le_of_ble_eq_true rfl⟩ dX5_put_45 ⟨by rw [anPut, if_neg hn, if_neg hm, hcp], rfl, by rw [opPut, if_pos ⟨by omega, by dsimp only; omega⟩]; exact hB_8.fin hR hO_9⟩
    · refine g_bipush X (z := -4) (by decide +kernel) dX5_put_26 rfl ?_
      have hn : ¬ ptN c1 ≤ 0 := by omega
      have hcp : chN c1 = ptN c1 := by omega
      have hm : len + ptN c1 > 60 := by omega
      exact g_iret X hret ⟨Nat.le_of_ble_eq_true rfl, Nat.le_of_ble_eq_true rfl⟩ dX5_put_28 ⟨by rw [anPut, if_neg hn, if_pos hm], rfl, by rw [opPut, if_neg (fun q => absurd q.2 (by dsimp only; omega))]; exact hB.fin hR hO⟩
  · refine g_bipush X (z := -2) (by decide +kernel) dX5_put_9 rfl ?_
    have hn : ptN c1 ≤ 0 := by omega
    exact g_iret X hret ⟨Nat.le_of_ble_eq_true rfl, Nat.le_of_ble_eq_true rfl⟩ dX5_put_11 ⟨by rw [anPut, if_pos hn], rfl, by rw [opPut, if_neg (fun q => absurd q.1 (by omega))]; exact hB.fin hR hO⟩
set_option maxRecDepth 100000 in
set_option maxHeartbeats 4000000 in
theorem ct_X5_fault (l : Launch) (Sg : Int → Int → Nat) (g be sa iz pa : Int → Int) (len st : Int) : Ct l yX5_fault cX5_fault 1 (some .int) 5 0 0 (fun ca av L M => av = [.ref (Sg 10 0)] ∧ SBm ca L M Sg (g, be, sa, iz, pa, len, st) ∧ WfA (g, be, sa, iz, pa, len, st)) (fun ca av L M r L1 M1 => r = some (.int (iI (anFault (g, be, sa, iz, pa, len, st)))) ∧ L = L1 ∧ SBo ca L M M1 Sg ((g, be, sa, iz, pa, len, st))) := by
  refine Ct_of (own := RX5) (by decide) rfl (by rintro _ _ _ _ ⟨rfl, _⟩; exact Nat.le_of_ble_eq_true rfl) ?_
  rintro p e s m args below meth cod D ca A av L M ⟨rfl, hSB, hW⟩ X hret hname
  refine g_lv (lv' := [(0, .ref (Sg 10 0))]) [0] rfl ?_
  obtain ⟨c, ct, nf, nu, hB, hR⟩ : ∃ (c ct : Int → Int) (nf : Int) (nu : Int → Int), SBc ca L M Sg be sa iz pa nu len nf st c ct ∧ Rel c g := SBm.opn hSB
  have hA := hB.adr
  have hO := outA.refl Sg M
  obtain ⟨hWg, hln, hst, hpa, hWh, hWs⟩ : WfG g ∧ (0 ≤ len ∧ len ≤ 60) ∧ (0 ≤ st ∧ st ≤ 6) ∧ InvP pa ∧ (∀ j, 0 ≤ j → j < st → WfG (blk (110 * j) be)) ∧ (∀ k, 0 ≤ k → k < 2 → (iz k = 0 ∨ iz k = 1) ∧ (iz k ≠ 0 → WfG (blk (110 * k) sa))) := id hW
  obtain ⟨hI, hZ, h4⟩ := id hWg
  obtain ⟨⟨i00, i01⟩, ⟨i10, i11⟩, ⟨i20, i21⟩, ⟨i30, i31⟩, ⟨i40, i41⟩, i50, i51⟩ := id hI.1
  obtain ⟨⟨e0, e1, e2, e3, e4, e5⟩, hRB, hRR⟩ := id hR
  refine g_aload_n X 0 rfl dX5_fault_0 rfl ?_
  refine g_get X cl_X5 5 (by decide) wf_X5_37 rfl (hA.mem (s := 10) (k := 0) (by unfold inD; omega)) hB.obj rfl dX5_fault_1 rfl ?_
  refine g_callVN X (ct_X2_firstFault l Sg len nf pa nu) (host := "StrideBanks") (As := []) (rest := []) cl_X2 rfl ca_X2_firstFault rfl wm_X5_70 wi_X2_firstFault ws_X2_firstFault wc_X2_firstFault w0_X2 ⟨by decide, by decide⟩ (hA.mem (s := 10) (k := 5) (by unfold inD; omega)) hB.pobj (by decide) ⟨by decide, by decide⟩ rfl dX5_fault_4 rfl ⟨rfl, hA, hB.pobj, hB.ptx, hB.pnu, hln, hpa⟩ (fun r1 L1 M_1 hq => ?_)
  obtain ⟨rfl, rfl, hp_2, hp_3, hp_4, fr_5⟩ := hq
  obtain ⟨hB_6, hO_7⟩ := hB.toPad hp_2 hp_3 hp_4 (fun x x5 x6 x7 => fr_5 x x5 x7)
  have hO_7 := hO.trans hO_7
  have hff := fo_fault (pa := pa) (nu := nu) hln.1 hln.2
  refine g_st (st' := [.int (iI ((caP pa nu len).1))]) rfl ?_
  have ha : (caP pa nu len).1 = anFault (g, be, sa, iz, pa, len, st) := by
    rw [anFault]; dsimp only
    rcases hff with h | h
    · rw [if_pos h.1]; exact h.2.1
    · rw [if_neg (by omega)]; exact h.2
  exact g_iret X hret ⟨Nat.le_of_ble_eq_true rfl, Nat.le_of_ble_eq_true rfl⟩ dX5_fault_7 ⟨by rw [ha], rfl, hB_6.fin hR hO_7⟩
theorem foB_rng {pa : Int → Int} {len : Int} (h1 : len ≤ 60) : foB pa len ≤ 60 := by
  have h := (fo_ok (pa := pa) h1).2.2.1
  unfold foB
  split
  · decide
  · exact h
theorem okAdd.a {a b z : Int} (h : okAdd a b z) : 0 ≤ a ∧ a < 4096 := ⟨h.1.1, by have := h.1.2; omega⟩
set_option maxRecDepth 100000 in
set_option maxHeartbeats 4000000 in
theorem ct_X5_read (l : Launch) (Sg : Int → Int → Nat) (g be sa iz pa : Int → Int) (len st : Int) : Ct l yX5_read cX5_read 3 (some .int) 5 0 0 (fun ca av L M => av = [.ref (Sg 10 0)] ∧ SBm ca L M Sg (g, be, sa, iz, pa, len, st) ∧ WfA (g, be, sa, iz, pa, len, st)) (fun ca av L M r L1 M1 => r = some (.int (iI (anRead (g, be, sa, iz, pa, len, st)))) ∧ L = L1 ∧ SBo ca L M M1 Sg (opRead (g, be, sa, iz, pa, len, st))) := by
  refine Ct_of (own := RX5) (by decide) rfl (by rintro _ _ _ _ ⟨rfl, _⟩; exact Nat.le_of_ble_eq_true rfl) ?_
  rintro p e s m args below meth cod D ca A av L M ⟨rfl, hSB, hW⟩ X hret hname
  refine g_lv (lv' := [(0, .ref (Sg 10 0))]) [0] rfl ?_
  generalize hQ : MQ below _ args s _ _ A = Q
  obtain ⟨c, ct, nf, nu, hB, hR⟩ : ∃ (c ct : Int → Int) (nf : Int) (nu : Int → Int), SBc ca L M Sg be sa iz pa nu len nf st c ct ∧ Rel c g := SBm.opn hSB
  have hA := hB.adr
  have hO := outA.refl Sg M
  obtain ⟨hWg, hln, hst, hpa, hWh, hWs⟩ : WfG g ∧ (0 ≤ len ∧ len ≤ 60) ∧ (0 ≤ st ∧ st ≤ 6) ∧ InvP pa ∧ (∀ j, 0 ≤ j → j < st → WfG (blk (110 * j) be)) ∧ (∀ k, 0 ≤ k → k < 2 → (iz k = 0 ∨ iz k = 1) ∧ (iz k ≠ 0 → WfG (blk (110 * k) sa))) := id hW
  obtain ⟨hI, hZ, h4⟩ := id hWg
  obtain ⟨⟨i00, i01⟩, ⟨i10, i11⟩, ⟨i20, i21⟩, ⟨i30, i31⟩, ⟨i40, i41⟩, i50, i51⟩ := id hI.1
  obtain ⟨⟨e0, e1, e2, e3, e4, e5⟩, hRB, hRR⟩ := id hR
  have lp : ∀ (n : Nat) (k : Nat) (y : Int) (M1 : Mem) (c1 nu1 : Int → Int) (nf1 : Int) (hn : ¬ foB pa len ≥ 0) (hm4 : ¬ g 5 + foK pa len > 4) (hnum : ∀ j, 0 ≤ j → j < 3 * foK pa len → nu1 j = foR pa len j) (hnf1 : nf1 = 3 * foK pa len) (hy : y = k) (hyb : y ≤ foK pa len) (hB1 : SBc ca L M1 Sg (recB st be g) sa iz pa nu1 len nf1 (recN st) c1 ct) (hR1 : Rel c1 (rdS g (foR pa len) k)) (hO1 : outA Sg M M1) (hm : foK pa len - y < (n : Int)), G p l e (Rm 5 0 0) s m args below meth cod D A 3 Q 0 0 L M1 52 [(0, .ref (Sg 10 0)), (1, .int (iI (foK pa len))), (2, .int (iI y))] [] := by
    intro n
    induction n with
    | zero =>
      intro k y M1 c1 nu1 nf1 hn hm4 hnum hnf1 hy hyb hB1 hR1 hO1 hm
      exfalso; omega
    | succ n ih =>
      intro k y M1 c1 nu1 nf1 hn hm4 hnum hnf1 hy hyb hB1 hR1 hO1 hm
      have hK := foK_rng (pa := pa) hln.2
      refine g_iload_n X 2 rfl dX5_read_52 rfl ?_
      refine g_iload_n X 1 rfl dX5_read_53 rfl ?_
      refine g_icmp_ge X ⟨by omega, by omega⟩ ⟨by omega, by omega⟩ (tgt := 97) dX5_read_54 (by decide) rfl (fun h_1 => ?_) (fun h_1 => ?_)
      · refine g_aload_n X 0 rfl dX5_read_97 rfl ?_
        refine g_get X cl_X5 5 (by decide) wf_X5_37 rfl (hA.mem (s := 10) (k := 0) (by unfold inD; omega)) hB1.obj rfl dX5_read_98 rfl ?_
        refine g_iconst X (z := 0) dX5_read_101 rfl ?_
        refine g_putN X cl_X2 1 (by decide) wf_X5_81 rfl (hA.mem (s := 10) (k := 5) (by unfold inD; omega)) hB1.pobj rfl rfl rfl (Nat.le_of_ble_eq_true rfl) (fs' := [.ref (Sg 10 6), .int (iI 0), .ref (Sg 10 7), .int (iI nf1)]) rfl dX5_read_102 rfl (fun M_2 hM_3 fr_4 => ?_)
        obtain ⟨hB_5, hO_6⟩ := hB1.toPad (len1 := 0) (nf1 := nf1) hM_3 ((fr_4 _ (hA.ne (by unfold inD; omega) (by unfold inD; omega) (by omega))).trans hB1.ptx) ((fr_4 _ (hA.ne (by unfold inD; omega) (by unfold inD; omega) (by omega))).trans hB1.pnu) (fun x x5 x6 x7 => fr_4 x x5)
        have hO_6 := hO1.trans hO_6
        refine g_aload_n X 0 rfl dX5_read_105 rfl ?_
        refine g_get X cl_X5 0 (by decide) wf_X5_10 rfl (hA.mem (s := 10) (k := 0) (by unfold inD; omega)) hB_5.obj rfl dX5_read_106 rfl ?_
        refine g_getN X cl_X3 3 (by decide) wf_X5_62 rfl (hB_5.now.mem (i := 0) (by decide) (by decide)) hB_5.now.obj rfl dX5_read_109 rfl ?_
        subst hQ
        have hk9 : (foK pa len).toNat = k := by omega
        have hc5 := hR1.1.2.2.2.2.2
        have hr5 := rdS_5 g (foR pa len) k
        have ha9 : c1 5 = g 5 + foK pa len := by omega
        exact g_iret X hret ⟨Nat.le_of_ble_eq_true rfl, Nat.le_of_ble_eq_true rfl⟩ dX5_read_112 ⟨by rw [anRead, if_neg hn, if_neg hm4]; exact congrArg _ (congrArg _ (congrArg iI ha9)), rfl, by rw [opRead, if_pos ⟨hn, hm4⟩]; show SBo ca L M _ Sg (rdS g (foR pa len) (foK pa len).toNat, recB st be g, sa, iz, pa, 0, recN st); rw [hk9]; exact hB_5.fin hR1 hO_6⟩
      · refine g_aload_n X 0 rfl dX5_read_57 rfl ?_
        refine g_get X cl_X5 0 (by decide) wf_X5_10 rfl (hA.mem (s := 10) (k := 0) (by unfold inD; omega)) hB1.obj rfl dX5_read_58 rfl ?_
        refine g_aload_n X 0 rfl dX5_read_61 rfl ?_
        refine g_get X cl_X5 5 (by decide) wf_X5_37 rfl (hA.mem (s := 10) (k := 0) (by unfold inD; omega)) hB1.obj rfl dX5_read_62 rfl ?_
        refine g_iload_n X 2 rfl dX5_read_65 rfl ?_
        refine g_iconst X (z := 0) dX5_read_66 rfl ?_
        refine g_callVN X (ct_X2_numberOf l Sg len nf1 pa nu1 y 0) (host := "StrideBanks") (As := [.int (iI y), .int (iI 0)]) (rest := [.ref (Sg 0 0)]) cl_X2 rfl ca_X2_numberOf rfl wm_X5_77 wi_X2_numberOf ws_X2_numberOf wc_X2_numberOf w0_X2 ⟨by decide, by decide⟩ (hA.mem (s := 10) (k := 5) (by unfold inD; omega)) hB1.pobj (Nat.le_of_ble_eq_true rfl) ⟨by decide, by decide⟩ rfl dX5_read_67 rfl ⟨rfl, hA, hB1.pobj, hB1.ptx, hB1.pnu, by omega⟩ (fun r1 L1 M1 hq => ?_)
        obtain ⟨rfl, rfl, rfl⟩ := hq
        refine g_st (st' := [.int (iI (foR pa len (3 * y))), .ref (Sg 0 0)]) (by rw [← hnum (3 * y) (by omega) (by omega), show 3 * y = y * 3 + 0 from by omega]; rfl) ?_
        refine g_aload_n X 0 rfl dX5_read_70 rfl ?_
        refine g_get X cl_X5 5 (by decide) wf_X5_37 rfl (hA.mem (s := 10) (k := 0) (by unfold inD; omega)) hB1.obj rfl dX5_read_71 rfl ?_
        refine g_iload_n X 2 rfl dX5_read_74 rfl ?_
        refine g_iconst X (z := 1) dX5_read_75 rfl ?_
        refine g_callVN X (ct_X2_numberOf l Sg len nf1 pa nu1 y 1) (host := "StrideBanks") (As := [.int (iI y), .int (iI 1)]) (rest := [.int (iI (foR pa len (3 * y))), .ref (Sg 0 0)]) cl_X2 rfl ca_X2_numberOf rfl wm_X5_77 wi_X2_numberOf ws_X2_numberOf wc_X2_numberOf w0_X2 ⟨by decide, by decide⟩ (hA.mem (s := 10) (k := 5) (by unfold inD; omega)) hB1.pobj (Nat.le_of_ble_eq_true rfl) ⟨by decide, by decide⟩ rfl dX5_read_76 rfl ⟨rfl, hA, hB1.pobj, hB1.ptx, hB1.pnu, by omega⟩ (fun r1 L1 M1 hq => ?_)
        obtain ⟨rfl, rfl, rfl⟩ := hq
        refine g_st (st' := [.int (iI (foR pa len (3 * y + 1))), .int (iI (foR pa len (3 * y))), .ref (Sg 0 0)]) (by rw [← hnum (3 * y + 1) (by omega) (by omega), show 3 * y + 1 = y * 3 + 1 from by omega]; rfl) ?_
        refine g_aload_n X 0 rfl dX5_read_79 rfl ?_
        refine g_get X cl_X5 5 (by decide) wf_X5_37 rfl (hA.mem (s := 10) (k := 0) (by unfold inD; omega)) hB1.obj rfl dX5_read_80 rfl ?_
        refine g_iload_n X 2 rfl dX5_read_83 rfl ?_
        refine g_iconst X (z := 2) dX5_read_84 rfl ?_
        refine g_callVN X (ct_X2_numberOf l Sg len nf1 pa nu1 y 2) (host := "StrideBanks") (As := [.int (iI y), .int (iI 2)]) (rest := [.int (iI (foR pa len (3 * y + 1))), .int (iI (foR pa len (3 * y))), .ref (Sg 0 0)]) cl_X2 rfl ca_X2_numberOf rfl wm_X5_77 wi_X2_numberOf ws_X2_numberOf wc_X2_numberOf w0_X2 ⟨by decide, by decide⟩ (hA.mem (s := 10) (k := 5) (by unfold inD; omega)) hB1.pobj (Nat.le_of_ble_eq_true rfl) ⟨by decide, by decide⟩ rfl dX5_read_85 rfl ⟨rfl, hA, hB1.pobj, hB1.ptx, hB1.pnu, by omega⟩ (fun r1 L1 M1 hq => ?_)
        obtain ⟨rfl, rfl, rfl⟩ := hq
        refine g_st (st' := [.int (iI (foR pa len (3 * y + 2))), .int (iI (foR pa len (3 * y + 1))), .int (iI (foR pa len (3 * y))), .ref (Sg 0 0)]) (by rw [← hnum (3 * y + 2) (by omega) (by omega), show 3 * y + 2 = y * 3 + 2 from by omega]; rfl) ?_
        have hc5 := hR1.1.2.2.2.2.2
        have hr5 := rdS_5 g (foR pa len) k
        have hok := foR_ok (pa := pa) hln.2 (k := y) (by omega) (by omega)
        refine g_callVN X (ct_X3_append l (Sg 0) c1 (foR pa len (3 * y)) (foR pa len (3 * y + 1)) (foR pa len (3 * y + 2))) (host := "StrideBanks") (As := [.int (iI (foR pa len (3 * y))), .int (iI (foR pa len (3 * y + 1))), .int (iI (foR pa len (3 * y + 2)))]) (rest := []) cl_X3 rfl ca_X3_append rfl wm_X5_66 wi_X3_append ws_X3_append wc_X3_append w0_X3 ⟨by decide, by decide⟩ (hB1.now.mem (i := 0) (by decide) (by decide)) hB1.now.obj (by decide) ⟨by decide, by decide⟩ rfl dX5_read_88 rfl ⟨rfl, hB1.now, by omega⟩ (fun r1 L1 M_7 hq => ?_)
        obtain ⟨rfl, rfl, hs_8, fr_9⟩ := hq
        have hB_10 := hB1.toNow hs_8 fr_9
        have hO_11 := hO1.trans (outA.ofS (s := 0) (by decide) (by decide) fr_9)
        refine g_st (st' := []) rfl ?_
        refine g_iinc X (lv' := [(2, .int (iI (y + 1))), (0, .ref (Sg 10 0)), (1, .int (iI (foK pa len)))]) 2 rfl (by decide) rfl dX5_read_91 rfl ?_
        refine g_goto X (n := 52) dX5_read_94 (by decide) ?_
        have hR9 : Rel (apC c1 (foR pa len (3 * y)) (foR pa len (3 * y + 1)) (foR pa len (3 * y + 2))) (rdS g (foR pa len) (k + 1)) := by simp only [rdS]; rw [← hy]; exact rel_puts hR1 (by omega) hok.a hok.2.2.1
        refine g_lv (lv' := [(0, .ref (Sg 10 0)), (1, .int (iI (foK pa len))), (2, .int (iI (y + 1)))]) [1, 2, 0] rfl ?_
        exact ih (k + 1) _ _ _ _ _ hn hm4 hnum hnf1 (by omega) (by omega) hB_10 hR9 hO_11 (by omega)
  refine g_aload_n X 0 rfl dX5_read_0 rfl ?_
  refine g_get X cl_X5 5 (by decide) wf_X5_37 rfl (hA.mem (s := 10) (k := 0) (by unfold inD; omega)) hB.obj rfl dX5_read_1 rfl ?_
  refine g_callVN X (ct_X2_firstFault l Sg len nf pa nu) (host := "StrideBanks") (As := []) (rest := []) cl_X2 rfl ca_X2_firstFault rfl wm_X5_70 wi_X2_firstFault ws_X2_firstFault wc_X2_firstFault w0_X2 ⟨by decide, by decide⟩ (hA.mem (s := 10) (k := 5) (by unfold inD; omega)) hB.pobj (by decide) ⟨by decide, by decide⟩ rfl dX5_read_4 rfl ⟨rfl, hA, hB.pobj, hB.ptx, hB.pnu, hln, hpa⟩ (fun r1 L1 M_12 hq => ?_)
  obtain ⟨rfl, rfl, hp_13, hp_14, hp_15, fr_16⟩ := hq
  obtain ⟨hB_17, hO_18⟩ := hB.toPad hp_13 hp_14 hp_15 (fun x x5 x6 x7 => fr_16 x x5 x7)
  have hO_18 := hO.trans hO_18
  have hff := fo_fault (pa := pa) (nu := nu) hln.1 hln.2
  have hK := foK_rng (pa := pa) hln.2
  have hfr : R32 (caP pa nu len).1 := by have hfb := foB_rng (pa := pa) hln.2; unfold R32; omega
  refine g_st (st' := [.int (iI ((caP pa nu len).1))]) rfl ?_
  refine g_bipush X (z := -6) (by decide +kernel) dX5_read_7 rfl ?_
  refine g_icmp_eq X hfr ⟨by omega, by omega⟩ (tgt := 15) dX5_read_9 (by decide) rfl (fun h_19 => ?_) (fun h_19 => ?_)
  · refine g_aload_n X 0 rfl dX5_read_15 rfl ?_
    refine g_get X cl_X5 5 (by decide) wf_X5_37 rfl (hA.mem (s := 10) (k := 0) (by unfold inD; omega)) hB_17.obj rfl dX5_read_16 rfl ?_
    have hnK : (caP pa nu len).2.2 = 3 * foK pa len := by omega
    refine g_callVN X (ct_X2_streamsFound l Sg len ((caP pa nu len).2.2) pa ((caP pa nu len).2.1)) (host := "StrideBanks") (As := []) (rest := []) cl_X2 rfl ca_X2_streamsFound rfl wm_X5_74 wi_X2_streamsFound ws_X2_streamsFound wc_X2_streamsFound w0_X2 ⟨by decide, by decide⟩ (hA.mem (s := 10) (k := 5) (by unfold inD; omega)) hB_17.pobj (by decide) ⟨by decide, by decide⟩ rfl dX5_read_19 rfl ⟨rfl, hA, hB_17.pobj, hB_17.ptx, hB_17.pnu, by omega⟩ (fun r1 L1 M1 hq => ?_)
    obtain ⟨rfl, rfl, rfl⟩ := hq
    have hdv : (caP pa nu len).2.2 / 3 = foK pa len := by omega
    refine g_st (st' := [.int (iI (foK pa len))]) (by rw [← hdv]; rfl) ?_
    refine g_istore_n X (lv' := [(1, .int (iI (foK pa len))), (0, .ref (Sg 10 0))]) (by decide) rfl dX5_read_22 rfl ?_
    refine g_aload_n X 1 rfl dX5_read_23 rfl ?_
    refine g_get X cl_X5 0 (by decide) wf_X5_10 rfl (hA.mem (s := 10) (k := 0) (by unfold inD; omega)) hB_17.obj rfl dX5_read_24 rfl ?_
    refine g_getN X cl_X3 3 (by decide) wf_X5_62 rfl (hB_17.now.mem (i := 0) (by decide) (by decide)) hB_17.now.obj rfl dX5_read_27 rfl ?_
    refine g_iload_n X 0 rfl dX5_read_30 rfl ?_
    refine g_iadd X dX5_read_31 rfl ?_
    refine g_iconst X (z := 4) dX5_read_32 rfl ?_
    refine g_icmp_le X ⟨by omega, by omega⟩ ⟨by decide, by decide⟩ (tgt := 39) dX5_read_33 (by decide) rfl (fun h_20 => ?_) (fun h_20 => ?_)
    · refine g_aload_n X 1 rfl dX5_read_39 rfl ?_
      refine g_get X cl_X5 2 (by decide) wf_X5_22 rfl (hA.mem (s := 10) (k := 0) (by unfold inD; omega)) hB_17.obj rfl dX5_read_40 rfl ?_
      refine g_aload_n X 1 rfl dX5_read_43 rfl ?_
      refine g_get X cl_X5 0 (by decide) wf_X5_10 rfl (hA.mem (s := 10) (k := 0) (by unfold inD; omega)) hB_17.obj rfl dX5_read_44 rfl ?_
      refine g_callVN X (ct_X1_record l Sg st be c g) (host := "StrideBanks") (As := [.ref (Sg 0 0)]) (rest := []) cl_X1 rfl ca_X1_record rfl wm_X5_52 wi_X1_record ws_X1_record wc_X1_record w0_X1 ⟨by decide, by decide⟩ (hA.mem (s := 10) (k := 1) (by unfold inD; omega)) hB_17.hobj (by decide) ⟨by decide, by decide⟩ rfl dX5_read_47 rfl ⟨rfl, hA, hB_17.hist, hst, hB_17.now, hR, hI.1.2.2.2.2.2.2, fun j j0 j1 => (hWh j j0 j1).1.1.2.2.2.2.2.2⟩ (fun r1 L1 M_21 hq => ?_)
      obtain ⟨rfl, rfl, hH_22, hs_23, fr_24⟩ := hq
      obtain ⟨hB_25, hO_26⟩ := hB_17.toRec hH_22 hs_23 fr_24
      have hO_26 := hO_18.trans hO_26
      refine g_st (st' := []) rfl ?_
      refine g_iconst X (z := 0) dX5_read_50 rfl ?_
      refine g_istore_n X (lv' := [(2, .int (iI 0)), (1, .int (iI (foK pa len))), (0, .ref (Sg 10 0))]) (by decide) rfl dX5_read_51 rfl ?_
      refine g_lv (lv' := [(0, .ref (Sg 10 0)), (1, .int (iI (foK pa len))), (2, .int (iI 0))]) [2, 1, 0] rfl ?_
      exact lp 20 0 _ _ _ _ _ (by omega) (by omega) (by rcases hff with h | h; (· exact h.2.2.2); (· omega)) hnK rfl (by omega) hB_25 hR hO_26 (by omega)
    · refine g_bipush X (z := -4) (by decide +kernel) dX5_read_36 rfl ?_
      subst hQ
      have hn : ¬ foB pa len ≥ 0 := by omega
      have hm4 : g 5 + foK pa len > 4 := by omega
      exact g_iret X hret ⟨Nat.le_of_ble_eq_true rfl, Nat.le_of_ble_eq_true rfl⟩ dX5_read_38 ⟨by rw [anRead, if_neg hn, if_pos hm4], rfl, by rw [opRead, if_neg (fun q => q.2 hm4)]; exact hB_17.fin hR hO_18⟩
  · refine g_bipush X (z := -3) (by decide +kernel) dX5_read_12 rfl ?_
    subst hQ
    have hn : foB pa len ≥ 0 := by omega
    exact g_iret X hret ⟨Nat.le_of_ble_eq_true rfl, Nat.le_of_ble_eq_true rfl⟩ dX5_read_14 ⟨by rw [anRead, if_pos hn], rfl, by rw [opRead, if_neg (fun q => q.1 hn)]; exact hB_17.fin hR hO_18⟩
