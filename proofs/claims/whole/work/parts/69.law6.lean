/-! the law: its loop, its start -/
theorem SBm.mono {ca : Nat → ClassId} {L L1 : List Nat} {M : Mem} {Sg : Int → Int → Nat} {S : AS} (h : SBm ca L M Sg S) (hs : ∀ b ∈ L, b ∈ L1) : SBm ca L1 M Sg S := by
  obtain ⟨h1, h2, h3, ⟨π, p1, p2, p3, p4⟩, ⟨c, h5, h6⟩, ⟨ct, h7⟩, h8⟩ := h
  refine ⟨⟨fun s k hi => hs _ (h1.1 s k hi), h1.2⟩, h2, h3, ⟨π, p1, p2, p3, fun j j0 j1 => ?_⟩, ⟨c, h5.mono hs, h6⟩, ⟨ct, h7.mono hs⟩, fun k k0 k1 => ?_⟩
  · obtain ⟨c1, q1, q2⟩ := p4 j j0 j1
    exact ⟨c1, q1.mono hs, q2⟩
  · obtain ⟨c1, q1, q2⟩ := h8 k k0 k1
    exact ⟨c1, q1.mono hs, q2⟩
theorem law_end {p : Program} {l : Launch} {e : Env} {s : State} {m : MethodId} {below : List Frame} {meth : Method} {c : Code} {D : va_G} {ca : Nat → ClassId} {cells slots : Nat} {L : List Nat} {M : Mem} {lv : List (Nat × Value)} {b : Nat} (X : Fx p s m #[Value.ref b] meth c D ca (fun q => s.heap.size ≤ q) 4 cL_law RL) (hr : meth.sig.returnType = ret) (hc : cells ≤ 600000 ∧ slots ≤ 7302250) : G p l e room_1 s m #[Value.ref b] below meth c D (fun q => s.heap.size ≤ q) 4 (lw_Z below #[Value.ref b] s) cells slots L M 719 lv [.int (iI 1)] := by
  intro H locs ls hP hD hS hl
  refine va_forget (fun q hq => hS.2.2 q hq) ?_
  refine W.widen (k := 600000) (n := 7302250) hc.1 hc.2 ?_
  rw [show iI 1 = (1 : Int32) from by decide +kernel]
  exact lw_ret X.1.1 X.1.2.1 hr X.2.2.2.2.2 dL_law_719
set_option maxRecDepth 100000 in
set_option maxHeartbeats 4000000 in
theorem law_loop {p : Program} {l : Launch} {e : Env} {s : State} {m : MethodId} {below : List Frame} {meth : Method} {c : Code} {D : va_G} {ca : Nat → ClassId} {cells slots : Nat} {L : List Nat} {μ : Nat → Nat} {a1 a2 b LN : Nat} {xs : Nat → Int32} (X : Fx p s m #[Value.ref b] meth c D ca (fun q => s.heap.size ≤ q) 4 cL_law RL) (hr : meth.sig.returnType = ret) (hc : cells ≤ 600000 ∧ slots ≤ 7302250) (hX : va_X b LN xs s s.heap) (hbl : b < s.heap.size) (hLN : LN ≤ 2048) : ∀ (n : Nat) (y : Int) (M : Mem) (Sg : Int → Int → Nat) (S : AS) (hy0 : 0 ≤ y) (hyb : y ≤ LN + 3) (h : LI ca L M μ Sg S a1 a2) (hm : LN + 4 - y < (n : Int)), G p l e room_1 s m #[Value.ref b] below meth c D (fun q => s.heap.size ≤ q) 4 (lw_Z below #[Value.ref b] s) cells slots L M 18 [(0, .ref b), (1, .ref a1), (2, .ref a2), (3, .int (iI y))] [] := by
  have hbA : ¬ (fun q : Nat => s.heap.size ≤ q) b := Nat.not_le.mpr hbl
  have hcs : cells + 0 ≤ room_1.cells ∧ slots + 0 ≤ room_1.slots := hc
  intro n
  induction n with
  | zero =>
    intro y M Sg S hy0 hyb h hm
    exfalso; omega
  | succ n ih =>
    intro y M Sg S hy0 hyb h hm
    refine g_iload_n X 3 rfl dL_law_18 rfl ?_
    refine g_aload_n X 0 rfl dL_law_19 rfl ?_
    refine g_slen X hX hbl hbA dL_law_20 rfl ?_
    refine g_iconst X (z := 4) dL_law_21 rfl ?_
    refine g_isub X dL_law_22 rfl ?_
    refine g_icmp_gt X ⟨by omega, by omega⟩ ⟨by omega, by omega⟩ (tgt := 718) dL_law_23 (by decide) rfl (fun h_1 => ?_) (fun h_1 => ?_)
    · refine g_iconst X (z := 1) dL_law_718 rfl ?_
      exact law_end X hr hc
    · have hy4 : y + 4 ≤ LN := by omega
      have back : ∀ (M2 : Mem) (Sg2 : Int → Int → Nat) (S2 : AS), LI ca L M2 μ Sg2 S2 a1 a2 → G p l e room_1 s m #[Value.ref b] below meth c D (fun q => s.heap.size ≤ q) 4 (lw_Z below #[Value.ref b] s) cells slots L M2 712 [(0, .ref b), (1, .ref a1), (2, .ref a2), (3, .int (iI y))] [] := fun M2 Sg2 S2 h2 => by
        refine g_iinc X (lv' := [(3, .int (iI (y + 4))), (0, .ref b), (1, .ref a1), (2, .ref a2)]) 3 rfl (by decide) rfl dL_law_712 rfl ?_
        refine g_goto X (n := 18) dL_law_715 (by decide) ?_
        refine g_lv (lv' := [(0, .ref b), (1, .ref a1), (2, .ref a2), (3, .int (iI (y + 4)))]) [1, 2, 3, 0] rfl ?_
        exact ih (y + 4) M2 Sg2 S2 (by omega) (by omega) h2 (by omega)
      refine g_aload_n X 0 rfl dL_law_26 rfl ?_
      refine g_iload_n X 3 rfl dL_law_27 rfl ?_
      refine g_sld X hX hbl hbA hLN ⟨by omega, by omega⟩ dL_law_28 rfl ?_
      refine g_bipush X (z := 31) (by decide +kernel) dL_law_29 rfl ?_
      obtain ⟨w, hw1, hw2⟩ : ∃ w : Int, R32 w ∧ iI (sx xs y) &&& iI 31 = iI w := ⟨_, iI_rng _, (iI_self _).symm⟩
      refine g_iand X hw2 dL_law_31 rfl ?_
      by_cases h_2 : 0 ≤ w ∧ w ≤ 21
      · have h_2a : w = 0 ∨ w = 1 ∨ w = 2 ∨ w = 3 ∨ w = 4 ∨ w = 5 ∨ w = 6 ∨ w = 7 ∨ w = 8 ∨ w = 9 ∨ w = 10 ∨ w = 11 ∨ w = 12 ∨ w = 13 ∨ w = 14 ∨ w = 15 ∨ w = 16 ∨ w = 17 ∨ w = 18 ∨ w = 19 ∨ w = 20 ∨ w = 21 := by omega
        rcases h_2a with h_2a | h_2a | h_2a | h_2a | h_2a | h_2a | h_2a | h_2a | h_2a | h_2a | h_2a | h_2a | h_2a | h_2a | h_2a | h_2a | h_2a | h_2a | h_2a | h_2a | h_2a | h_2a
        · refine g_tsIn X dL_law_32 hw1 0 h_2a (by decide) (by decide) rfl (by decide : _ = ((136 : Nat) : Int)) ?_
          exact law_c0 X hcs hX hbl hbA hLN hy0 (by omega) h back
        · refine g_tsIn X dL_law_32 hw1 1 h_2a (by decide) (by decide) rfl (by decide : _ = ((169 : Nat) : Int)) ?_
          exact law_c1 X hcs hX hbl hbA hLN hy0 (by omega) h back
        · refine g_tsIn X dL_law_32 hw1 2 h_2a (by decide) (by decide) rfl (by decide : _ = ((212 : Nat) : Int)) ?_
          exact law_c2 X hcs hX hbl hbA hLN hy0 (by omega) h back
        · refine g_tsIn X dL_law_32 hw1 3 h_2a (by decide) (by decide) rfl (by decide : _ = ((225 : Nat) : Int)) ?_
          exact law_c3 X hcs hX hbl hbA hLN hy0 (by omega) h back
        · refine g_tsIn X dL_law_32 hw1 4 h_2a (by decide) (by decide) rfl (by decide : _ = ((248 : Nat) : Int)) ?_
          exact law_c4 X hcs hX hbl hbA hLN hy0 (by omega) h back
        · refine g_tsIn X dL_law_32 hw1 5 h_2a (by decide) (by decide) rfl (by decide : _ = ((281 : Nat) : Int)) ?_
          exact law_c5 X hcs hX hbl hbA hLN hy0 (by omega) h back
        · refine g_tsIn X dL_law_32 hw1 6 h_2a (by decide) (by decide) rfl (by decide : _ = ((304 : Nat) : Int)) ?_
          exact law_c6 X hcs hX hbl hbA hLN hy0 (by omega) h back
        · refine g_tsIn X dL_law_32 hw1 7 h_2a (by decide) (by decide) rfl (by decide : _ = ((317 : Nat) : Int)) ?_
          exact law_c7 X hcs hX hbl hbA hLN hy0 (by omega) h back
        · refine g_tsIn X dL_law_32 hw1 8 h_2a (by decide) (by decide) rfl (by decide : _ = ((340 : Nat) : Int)) ?_
          exact law_c8 X hcs hX hbl hbA hLN hy0 (by omega) h back
        · refine g_tsIn X dL_law_32 hw1 9 h_2a (by decide) (by decide) rfl (by decide : _ = ((373 : Nat) : Int)) ?_
          exact law_c9 X hcs hX hbl hbA hLN hy0 (by omega) h back
        · refine g_tsIn X dL_law_32 hw1 10 h_2a (by decide) (by decide) rfl (by decide : _ = ((406 : Nat) : Int)) ?_
          exact law_c10 X hcs hX hbl hbA hLN hy0 (by omega) h back
        · refine g_tsIn X dL_law_32 hw1 11 h_2a (by decide) (by decide) rfl (by decide : _ = ((429 : Nat) : Int)) ?_
          exact law_c11 X hcs hX hbl hbA hLN hy0 (by omega) h back
        · refine g_tsIn X dL_law_32 hw1 12 h_2a (by decide) (by decide) rfl (by decide : _ = ((442 : Nat) : Int)) ?_
          exact law_c12 X hcs hX hbl hbA hLN hy0 (by omega) h back
        · refine g_tsIn X dL_law_32 hw1 13 h_2a (by decide) (by decide) rfl (by decide : _ = ((475 : Nat) : Int)) ?_
          exact law_c13 X hcs hX hbl hbA hLN hy0 (by omega) h back
        · refine g_tsIn X dL_law_32 hw1 14 h_2a (by decide) (by decide) rfl (by decide : _ = ((518 : Nat) : Int)) ?_
          exact law_c14 X hcs hX hbl hbA hLN hy0 (by omega) h back
        · refine g_tsIn X dL_law_32 hw1 15 h_2a (by decide) (by decide) rfl (by decide : _ = ((541 : Nat) : Int)) ?_
          exact law_c15 X hcs hX hbl hbA hLN hy0 (by omega) h back
        · refine g_tsIn X dL_law_32 hw1 16 h_2a (by decide) (by decide) rfl (by decide : _ = ((574 : Nat) : Int)) ?_
          exact law_c16 X hcs hX hbl hbA hLN hy0 (by omega) h back
        · refine g_tsIn X dL_law_32 hw1 17 h_2a (by decide) (by decide) rfl (by decide : _ = ((627 : Nat) : Int)) ?_
          exact law_c17 X hcs hX hbl hbA hLN hy0 (by omega) h back
        · refine g_tsIn X dL_law_32 hw1 18 h_2a (by decide) (by decide) rfl (by decide : _ = ((640 : Nat) : Int)) ?_
          exact law_c18 X hcs hX hbl hbA hLN hy0 (by omega) h back
        · refine g_tsIn X dL_law_32 hw1 19 h_2a (by decide) (by decide) rfl (by decide : _ = ((653 : Nat) : Int)) ?_
          exact law_c19 X hcs hX hbl hbA hLN hy0 (by omega) h back
        · refine g_tsIn X dL_law_32 hw1 20 h_2a (by decide) (by decide) rfl (by decide : _ = ((666 : Nat) : Int)) ?_
          exact law_c20 X hcs hX hbl hbA hLN hy0 (by omega) h back
        · refine g_tsIn X dL_law_32 hw1 21 h_2a (by decide) (by decide) rfl (by decide : _ = ((689 : Nat) : Int)) ?_
          exact law_c21 X hcs hX hbl hbA hLN hy0 (by omega) h back
      · refine g_tsOut X dL_law_32 hw1 (by omega) (by decide : _ = ((712 : Nat) : Int)) ?_
        exact back M Sg S h
set_option maxRecDepth 100000 in
set_option maxHeartbeats 4000000 in
theorem whole_start {p : Program} {e : Env} {s : State} {m : MethodId} {below : List Frame} {meth : Method} {c : Code} (l : Launch) (hflags : l.flags = flags0) {b L : Nat} {xs : Nat → Int32} (hL : L ≤ 2048) (C0 : lw_At p s m meth c b L xs) : W p l e room_1 s m #[Value.ref b] below meth c s.heap [] 0 0 (lw_Z below #[Value.ref b] s) (entryFrame m ([Value.ref b] : List Value).toArray 4) := by
  obtain ⟨D, ca, X⟩ := law_X C0
  obtain ⟨hx, hb, hr, hml, hown, hts, hX, hbl, hlocks, hgv⟩ := id C0
  have hG : G p l e room_1 s m #[Value.ref b] below meth c D (fun q => s.heap.size ≤ q) 4 (lw_Z below #[Value.ref b] s) 0 0 [] (fun _ => .inr (0, [])) 0 (lv_args 0 [.ref b]) [] := by
    refine g_lv (lv' := [(0, .ref b)]) [0] rfl ?_
    refine g_new X cl_X5 wk_L_7 w1_X5 w0_X5 [.null, .null, .null, .null, .null, .null] (fun j hj => by rcases (by omega : j = 0 ∨ j = 1 ∨ j = 2 ∨ j = 3 ∨ j = 4 ∨ j = 5) with rfl | rfl | rfl | rfl | rfl | rfl <;> first | rfl | exact congrArg Value.int iI_zero) ⟨Nat.le_of_ble_eq_true rfl, Nat.le_of_ble_eq_true rfl⟩ dL_law_0 rfl (fun q_1 L_2 M_3 hq_4 hL_5 hM_6 fr_7 => ?_)
    have hi_8 : q_1 ∈ L_2 := hL_5 ▸ List.mem_append_right _ List.mem_cons_self
    refine g_dup X rfl dL_law_3 rfl ?_
    refine g_callI X (ct_X5_init l q_1) (As := []) (rest := [.ref q_1]) rfl rfl ca_X5_init rfl wm_L_9 wi_X5_init wc_X5_init w0_X5 ⟨by decide, by decide⟩ (Nat.le_of_ble_eq_true rfl) ⟨Nat.le_of_ble_eq_true rfl, Nat.le_of_ble_eq_true rfl⟩ rfl dL_law_4 rfl ⟨rfl, hi_8, hM_6⟩ (fun r9 L9 M9 hq9 => ?_)
    obtain ⟨rfl, Sg, hSg0, hSB, hsub5, hfr5⟩ := hq9
    refine g_st (st' := [.ref q_1]) rfl ?_
    refine g_astore_n X (lv' := [(1, .ref q_1), (0, .ref b)]) (by decide) rfl dL_law_7 rfl ?_
    refine g_new X cl_X6 wk_L_10 w1_X6 w0_X6 [.null, .null, .null, .null, .null, .null, .null, .null, .int (iI 0), .int (iI 0), .int (iI 0), .int (iI 0)] (fun j hj => by rcases (by omega : j = 0 ∨ j = 1 ∨ j = 2 ∨ j = 3 ∨ j = 4 ∨ j = 5 ∨ j = 6 ∨ j = 7 ∨ j = 8 ∨ j = 9 ∨ j = 10 ∨ j = 11) with rfl | rfl | rfl | rfl | rfl | rfl | rfl | rfl | rfl | rfl | rfl | rfl <;> first | rfl | exact congrArg Value.int iI_zero) ⟨Nat.le_of_ble_eq_true rfl, Nat.le_of_ble_eq_true rfl⟩ dL_law_8 rfl (fun q_9 L_10 M_11 hq_12 hL_13 hM_14 fr_15 => ?_)
    have hi_16 : q_9 ∈ L_10 := hL_13 ▸ List.mem_append_right _ List.mem_cons_self
    refine g_dup X rfl dL_law_11 rfl ?_
    refine g_callI X (ct_X6_init l q_9) (As := []) (rest := [.ref q_9]) rfl rfl ca_X6_init rfl wm_L_12 wi_X6_init wc_X6_init w0_X6 ⟨by decide, by decide⟩ (Nat.le_of_ble_eq_true rfl) ⟨Nat.le_of_ble_eq_true rfl, Nat.le_of_ble_eq_true rfl⟩ rfl dL_law_12 rfl ⟨rfl, hi_16, hM_14⟩ (fun r8 L8 M8 hq8 => ?_)
    obtain ⟨rfl, μ, hμ0, hμ, hMd, hμn, hsub6, hfr6⟩ := hq8
    refine g_st (st' := [.ref q_9]) rfl ?_
    refine g_astore_n X (lv' := [(2, .ref q_9), (1, .ref q_1), (0, .ref b)]) (by decide) rfl dL_law_15 rfl ?_
    refine g_iconst X (z := 0) dL_law_16 rfl ?_
    refine g_istore_n X (lv' := [(3, .int (iI 0)), (2, .ref q_9), (1, .ref q_1), (0, .ref b)]) (by decide) rfl dL_law_17 rfl ?_
    refine g_lv (lv' := [(0, .ref b), (1, .ref q_1), (2, .ref q_9), (3, .int (iI 0))]) [3, 2, 1, 0] rfl ?_
    have n0 : ∀ s k, inD s k → Sg s k ∈ L9 := fun s k hi => hSB.1.mem hi
    have s6 : ∀ x ∈ L9, x ∈ L_10 := fun x hx => hL_13 ▸ List.mem_append_left _ hx
    have d6 : ∀ x ∈ L9, x ≠ q_9 := fun x hx e0 => hq_12 (e0 ▸ hx)
    have hSB2 : SBm ca L8 M8 Sg S0 := (hSB.kept (fun s k hi => (hfr6 _ (s6 _ (n0 s k hi)) (d6 _ (n0 s k hi))).trans (fr_15 _ (d6 _ (n0 s k hi))))).mono (fun x hx => hsub6 _ (s6 _ hx))
    have hLI : LI ca L8 M8 μ Sg S0 q_1 q_9 := ⟨hμ, hμ0, hSg0, hMd, hSB2, wf_S0, fun k => r32_zero, fun i s k hi hsk he => by
      by_cases e0 : i = 0
      · subst e0; rw [hμ0] at he; exact hq_12 (he ▸ n0 s k hsk)
      · exact hμn i (by omega) hi (he ▸ s6 _ (n0 s k hsk))⟩
    exact law_loop X hr ⟨Nat.le_of_ble_eq_true rfl, Nat.le_of_ble_eq_true rfl⟩ hX hbl hL (L + 5) 0 _ Sg S0 (by decide) (by omega) hLI (by omega)
  rw [lg_entry_eq]
  exact hG s.heap [] _ (fun k q h => by simp [va_pl] at h) ⟨fun i j p q h => by simp [va_pl] at h, fun k q h => by simp [va_pl] at h⟩ va_S.rf (lv_entry [.ref b] (Nat.le_of_ble_eq_true rfl))
