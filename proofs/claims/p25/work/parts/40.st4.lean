/-! the class: bitCount; the store: banks met, words left in a bank -/
set_option maxRecDepth 100000 in
set_option maxHeartbeats 4000000 in
theorem ct_J6_bitCount_0f7a4 (l : Launch) (x : Int32) : Ct l yJ6_bitCount_0f7a4 cJ6_bitCount_0f7a4 1 (some .int) 0 0 0 (fun ca av L M => av = [.int x] ∧ True) (fun ca av L M r L1 M1 => r = some (.int (bcW x)) ∧ L = L1 ∧ M = M1) := by
  refine Ct_of (own := RJ6) (by decide) rfl (by rintro _ _ _ _ ⟨rfl, _⟩; exact Nat.le_of_ble_eq_true rfl) ?_
  rintro p e s m args below meth c D ca A av L M ⟨rfl, _⟩ X hret hname
  refine g_lv (lv' := [(0, .int x)]) [0] rfl ?_
  refine g_iload_n X 0 rfl dJ6_bitCount_0f7a4_0 rfl ?_
  refine g_iload_n X 0 rfl dJ6_bitCount_0f7a4_1 rfl ?_
  refine g_iconst X (z := 1) dJ6_bitCount_0f7a4_2 rfl ?_
  refine g_iushr X (v := us x 1) rfl dJ6_bitCount_0f7a4_3 rfl ?_
  refine g_ldcw X (v := 1431655765) wv_J6_265 dJ6_bitCount_0f7a4_4 rfl ?_
  refine g_iand X (v := ((us x 1) &&& 1431655765)) rfl dJ6_bitCount_0f7a4_7 rfl ?_
  refine g_isubr X (v := x - ((us x 1) &&& 1431655765)) rfl dJ6_bitCount_0f7a4_8 rfl ?_
  refine g_istore_n X (lv' := [(0, .int (x - ((us x 1) &&& 1431655765)))]) (by decide) rfl dJ6_bitCount_0f7a4_9 rfl ?_
  refine g_lv (lv' := [(0, .int (bc1 x))]) [0] rfl ?_
  refine g_iload_n X 0 rfl dJ6_bitCount_0f7a4_10 rfl ?_
  refine g_ldcw X (v := 858993459) wv_J6_266 dJ6_bitCount_0f7a4_11 rfl ?_
  refine g_iand X (v := ((bc1 x) &&& 858993459)) rfl dJ6_bitCount_0f7a4_14 rfl ?_
  refine g_iload_n X 0 rfl dJ6_bitCount_0f7a4_15 rfl ?_
  refine g_iconst X (z := 2) dJ6_bitCount_0f7a4_16 rfl ?_
  refine g_iushr X (v := us (bc1 x) 2) rfl dJ6_bitCount_0f7a4_17 rfl ?_
  refine g_ldcw X (v := 858993459) wv_J6_266 dJ6_bitCount_0f7a4_18 rfl ?_
  refine g_iand X (v := ((us (bc1 x) 2) &&& 858993459)) rfl dJ6_bitCount_0f7a4_21 rfl ?_
  refine g_iaddr X dJ6_bitCount_0f7a4_22 rfl ?_
  refine g_istore_n X (lv' := [(0, .int (((bc1 x) &&& 858993459) + ((us (bc1 x) 2) &&& 858993459)))]) (by decide) rfl dJ6_bitCount_0f7a4_23 rfl ?_
  refine g_lv (lv' := [(0, .int (bc2 (bc1 x)))]) [0] rfl ?_
  refine g_iload_n X 0 rfl dJ6_bitCount_0f7a4_24 rfl ?_
  refine g_iload_n X 0 rfl dJ6_bitCount_0f7a4_25 rfl ?_
  refine g_iconst X (z := 4) dJ6_bitCount_0f7a4_26 rfl ?_
  refine g_iushr X (v := us (bc2 (bc1 x)) 4) rfl dJ6_bitCount_0f7a4_27 rfl ?_
  refine g_iaddr X dJ6_bitCount_0f7a4_28 rfl ?_
  refine g_ldcw X (v := 252645135) wv_J6_267 dJ6_bitCount_0f7a4_29 rfl ?_
  refine g_iand X (v := (((bc2 (bc1 x)) + (us (bc2 (bc1 x)) 4)) &&& 252645135)) rfl dJ6_bitCount_0f7a4_32 rfl ?_
  refine g_istore_n X (lv' := [(0, .int (((bc2 (bc1 x)) + (us (bc2 (bc1 x)) 4)) &&& 252645135))]) (by decide) rfl dJ6_bitCount_0f7a4_33 rfl ?_
  refine g_lv (lv' := [(0, .int (bc3 (bc2 (bc1 x))))]) [0] rfl ?_
  refine g_iload_n X 0 rfl dJ6_bitCount_0f7a4_34 rfl ?_
  refine g_iload_n X 0 rfl dJ6_bitCount_0f7a4_35 rfl ?_
  refine g_bipush X (z := 8) (by decide +kernel) dJ6_bitCount_0f7a4_36 rfl ?_
  refine g_iushr X (v := us (bc3 (bc2 (bc1 x))) 8) rfl dJ6_bitCount_0f7a4_38 rfl ?_
  refine g_iaddr X dJ6_bitCount_0f7a4_39 rfl ?_
  refine g_istore_n X (lv' := [(0, .int ((bc3 (bc2 (bc1 x))) + (us (bc3 (bc2 (bc1 x))) 8)))]) (by decide) rfl dJ6_bitCount_0f7a4_40 rfl ?_
  refine g_lv (lv' := [(0, .int (bc4 (bc3 (bc2 (bc1 x)))))]) [0] rfl ?_
  refine g_iload_n X 0 rfl dJ6_bitCount_0f7a4_41 rfl ?_
  refine g_iload_n X 0 rfl dJ6_bitCount_0f7a4_42 rfl ?_
  refine g_bipush X (z := 16) (by decide +kernel) dJ6_bitCount_0f7a4_43 rfl ?_
  refine g_iushr X (v := us (bc4 (bc3 (bc2 (bc1 x)))) 16) rfl dJ6_bitCount_0f7a4_45 rfl ?_
  refine g_iaddr X dJ6_bitCount_0f7a4_46 rfl ?_
  refine g_istore_n X (lv' := [(0, .int ((bc4 (bc3 (bc2 (bc1 x)))) + (us (bc4 (bc3 (bc2 (bc1 x)))) 16)))]) (by decide) rfl dJ6_bitCount_0f7a4_47 rfl ?_
  refine g_lv (lv' := [(0, .int (bc5 (bc4 (bc3 (bc2 (bc1 x))))))]) [0] rfl ?_
  refine g_iload_n X 0 rfl dJ6_bitCount_0f7a4_48 rfl ?_
  refine g_bipush X (z := 63) (by decide +kernel) dJ6_bitCount_0f7a4_49 rfl ?_
  refine g_iand X (v := ((bc5 (bc4 (bc3 (bc2 (bc1 x))))) &&& (iI 63))) rfl dJ6_bitCount_0f7a4_51 rfl ?_
  exact g_iret X hret ⟨Nat.le_of_ble_eq_true rfl, Nat.le_of_ble_eq_true rfl⟩ dJ6_bitCount_0f7a4_52 ⟨rfl, rfl, rfl⟩
theorem adr_next (n s : Int) (j : Nat) : ((n + (j : Int) * s) % 4096 + s) % 4096 = (n + ((j + 1 : Nat) : Int) * s) % 4096 := by
  rw [Int.emod_add_emod, Int.add_assoc]
  congr 2
  rw [Int.natCast_add, Int.add_mul]
  congr 1
  exact (Int.one_mul s).symm
theorem adr_0 {n : Int} (h : 0 ≤ n ∧ n < 4096) (s : Int) : n = (n + ((0 : Nat) : Int) * s) % 4096 := by
  rw [show (((0 : Nat) : Int)) = 0 from rfl, Int.zero_mul, Int.add_zero, Int.emod_eq_of_lt h.1 h.2]
theorem adr_rng (n s : Int) (j : Nat) : 0 ≤ (n + (j : Int) * s) % 4096 ∧ (n + (j : Int) * s) % 4096 < 4096 := ⟨Int.emod_nonneg _ (by decide), Int.emod_lt_of_pos _ (by decide)⟩
set_option maxRecDepth 100000 in
set_option maxHeartbeats 4000000 in
theorem ct_X3_banksMet (l : Launch) (σ : Int → Nat) (c : Int → Int) (g : Int → Int) (i : Int) : Ct l yX3_banksMet cX3_banksMet 5 (some .int) 2 0 0 (fun ca av L M => av = [.ref (σ 0), .ref (σ (20 + i))] ∧ isSt ca L M σ c ∧ Rel c g ∧ Inv g ∧ 0 ≤ i ∧ i < g 5) (fun ca av L M r L1 M1 => r = some (.int (mtV g i)) ∧ L = L1 ∧ M = M1) := by
  refine Ct_of (own := RX3) (by decide) rfl (by rintro _ _ _ _ ⟨rfl, _⟩; exact Nat.le_of_ble_eq_true rfl) ?_
  rintro p e s m args below meth cod D ca A av L M ⟨rfl, hs, hR, hI, hi0, hi1⟩ X hret hname
  refine g_lv (lv' := [(0, .ref (σ 0)), (1, .ref (σ (20 + i)))]) [0, 1] rfl ?_
  generalize hQ : MQ below _ args s _ _ A = Q
  obtain ⟨⟨i00, i01⟩, ⟨i10, i11⟩, ⟨i20, i21⟩, ⟨i30, i31⟩, ⟨i40, i41⟩, i50, i51⟩ := id hI.1
  obtain ⟨⟨e0, e1, e2, e3, e4, e5⟩, hRB, hRR⟩ := id hR
  have hq := hRR i hi0 hi1
  obtain ⟨q0, q1, q2, q3, q4, q5, q6, q7, q8⟩ := id hq
  obtain ⟨⟨r00, r01⟩, ⟨r10, r11⟩, ⟨r20, r21⟩, ⟨r30, r31⟩, ⟨r40, r41⟩, r5⟩ := hI.2.2 i hi0 hi1
  have hw_1 : M (σ (20 + i)) = .inr (4, [.int (iI (c (70 + 10 * i))), .int (iI (c (70 + 10 * i + 1))), .int (iI (c (70 + 10 * i + 2))), .int (iI (c (70 + 10 * i + 3))), .int (iI (c (70 + 10 * i + 4))), .int (iI (c (70 + 10 * i + 5))), .int (iI (c (70 + 10 * i + 6))), .int (iI (c (70 + 10 * i + 7)))]) := (hs.row (by omega) (by omega))
  have lp : ∀ (n : Nat) (k : Nat) (w : Int32) (a y : Int) (hy : y = k) (hk : y ≤ g (70 + 10 * i + 2)) (hw : w = mtW g i k) (ha : a = (g (70 + 10 * i) + (k : Int) * g (70 + 10 * i + 1)) % 4096) (hm : g (70 + 10 * i + 2) - y < (n : Int)), G p l e (Rm 2 0 0) s m args below meth cod D A 5 Q 0 0 L M 10 [(0, .ref (σ 0)), (1, .ref (σ (20 + i))), (2, .int w), (3, .int (iI a)), (4, .int (iI y))] [] := by
    intro n
    induction n with
    | zero =>
      intro k w a y hy hk hw ha hm
      exfalso; omega
    | succ n ih =>
      intro k w a y hy hk hw ha hm
      have har : 0 ≤ a ∧ a < 4096 := by rw [ha]; exact adr_rng _ _ k
      refine g_iload X 4 rfl dX3_banksMet_10 rfl ?_
      refine g_aload_n X 1 rfl dX3_banksMet_12 rfl ?_
      refine g_getN X cl_X4 2 (by decide) wf_X3_69 rfl (hs.mem (by omega) (by omega)) hw_1 rfl dX3_banksMet_13 rfl ?_
      refine g_icmp_ge X ⟨by omega, by omega⟩ ⟨by omega, by omega⟩ (tgt := 46) dX3_banksMet_16 (by decide) rfl (fun h_2 => ?_) (fun h_2 => ?_)
      · refine g_iload_n X 2 rfl dX3_banksMet_46 rfl ?_
        refine g_callT X (ct_J6_bitCount_0f7a4 l w) (As := [.int w]) (rest := []) ca_J6_bitCount_0f7a4 rfl wm_X3_129 wt_J6_bitCount_0f7a4 wc_J6_bitCount_0f7a4 w0_J6 ⟨by decide, by decide⟩ (by decide) ⟨by decide, by decide⟩ rfl dX3_banksMet_47 rfl ⟨rfl, trivial⟩ (fun r1 L1 M1 hq => ?_)
        obtain ⟨rfl, rfl, rfl⟩ := hq
        refine g_st (st' := [.int (bcW w)]) rfl ?_
        subst hQ
        exact g_iret X hret ⟨Nat.le_of_ble_eq_true rfl, Nat.le_of_ble_eq_true rfl⟩ dX3_banksMet_50 ⟨by rw [hw, mtV, mtW_count hI.1, show (g (70 + 10 * i + 2)).toNat = k from by omega], rfl, rfl⟩
      · refine g_iload_n X 2 rfl dX3_banksMet_19 rfl ?_
        refine g_iconst X (z := 1) dX3_banksMet_20 rfl ?_
        refine g_aload_n X 0 rfl dX3_banksMet_21 rfl ?_
        refine g_iload_n X 3 rfl dX3_banksMet_22 rfl ?_
        refine g_callV X (ct_X3_bankAt l σ c a) (As := [.int (iI a)]) (rest := [.int (iI 1), .int w]) cl_X3 rfl ca_X3_bankAt rfl wm_X3_96 wi_X3_bankAt ws_X3_bankAt wc_X3_bankAt w0_X3 ⟨by decide, by decide⟩ (hs.mem (i := 0) (by decide) (by decide)) hs.obj (Nat.le_of_ble_eq_true rfl) ⟨by decide, by decide⟩ rfl dX3_banksMet_23 rfl ⟨rfl, hs, ⟨by omega, by omega⟩, ⟨by omega, by omega⟩, by omega, by omega⟩ (fun r1 L1 M1 hq => ?_)
        obtain ⟨rfl, rfl, rfl⟩ := hq
        refine g_st (st' := [.int (iI (bkG c a)), .int (iI 1), .int w]) rfl ?_
        refine g_st (st' := [.int (iI (bkG g a)), .int (iI 1), .int w]) (by rw [bkG_eq e0 e2]) ?_
        refine g_ishl X (v := ((iI 1) <<< ((iI (bkG g a)) &&& 31))) rfl dX3_banksMet_26 rfl ?_
        refine g_ior X (v := (w ||| ((iI 1) <<< ((iI (bkG g a)) &&& 31)))) rfl dX3_banksMet_27 rfl ?_
        refine g_istore_n X (lv' := [(2, .int (w ||| ((iI 1) <<< ((iI (bkG g a)) &&& 31)))), (0, .ref (σ 0)), (1, .ref (σ (20 + i))), (3, .int (iI a)), (4, .int (iI y))]) (by decide) rfl dX3_banksMet_28 rfl ?_
        refine g_iload_n X 3 rfl dX3_banksMet_29 rfl ?_
        refine g_aload_n X 2 rfl dX3_banksMet_30 rfl ?_
        refine g_getN X cl_X4 1 (by decide) wf_X3_66 rfl (hs.mem (by omega) (by omega)) hw_1 rfl dX3_banksMet_31 rfl ?_
        refine g_iadd X dX3_banksMet_34 rfl ?_
        refine g_sipush X (z := 4096) (by decide +kernel) dX3_banksMet_35 rfl ?_
        refine g_irem X ⟨⟨by omega, by omega⟩, by omega, by omega⟩ dX3_banksMet_38 rfl ?_
        refine g_istore_n X (lv' := [(3, .int (iI ((a + c (70 + 10 * i + 1)) % 4096))), (2, .int (w ||| ((iI 1) <<< ((iI (bkG g a)) &&& 31)))), (0, .ref (σ 0)), (1, .ref (σ (20 + i))), (4, .int (iI y))]) (by decide) rfl dX3_banksMet_39 rfl ?_
        refine g_iinc X (lv' := [(4, .int (iI (y + 1))), (3, .int (iI ((a + c (70 + 10 * i + 1)) % 4096))), (2, .int (w ||| ((iI 1) <<< ((iI (bkG g a)) &&& 31)))), (0, .ref (σ 0)), (1, .ref (σ (20 + i)))]) 4 rfl (by decide) rfl dX3_banksMet_40 rfl ?_
        refine g_goto X (n := 10) dX3_banksMet_43 (by decide) ?_
        refine g_lv (lv' := [(0, .ref (σ 0)), (1, .ref (σ (20 + i))), (2, .int (w ||| ((iI 1) <<< ((iI (bkG g a)) &&& 31)))), (3, .int (iI ((a + c (70 + 10 * i + 1)) % 4096))), (4, .int (iI (y + 1)))]) [3, 4, 2, 1, 0] rfl ?_
        exact ih (k + 1) _ _ _ (by omega) (by omega) (by simp only [mtW]; rw [← ha, hw]; rfl) (by rw [ha, q1]; exact adr_next _ _ k) (by omega)
  refine g_iconst X (z := 0) dX3_banksMet_0 rfl ?_
  refine g_istore_n X (lv' := [(2, .int (iI 0)), (0, .ref (σ 0)), (1, .ref (σ (20 + i)))]) (by decide) rfl dX3_banksMet_1 rfl ?_
  refine g_aload_n X 2 rfl dX3_banksMet_2 rfl ?_
  refine g_getN X cl_X4 0 (by decide) wf_X3_63 rfl (hs.mem (by omega) (by omega)) hw_1 rfl dX3_banksMet_3 rfl ?_
  refine g_istore_n X (lv' := [(3, .int (iI (c (70 + 10 * i)))), (2, .int (iI 0)), (0, .ref (σ 0)), (1, .ref (σ (20 + i)))]) (by decide) rfl dX3_banksMet_6 rfl ?_
  refine g_iconst X (z := 0) dX3_banksMet_7 rfl ?_
  refine g_istore X (lv' := [(4, .int (iI 0)), (3, .int (iI (c (70 + 10 * i)))), (2, .int (iI 0)), (0, .ref (σ 0)), (1, .ref (σ (20 + i)))]) (by decide) rfl dX3_banksMet_8 rfl ?_
  refine g_lv (lv' := [(0, .ref (σ 0)), (1, .ref (σ (20 + i))), (2, .int (iI 0)), (3, .int (iI (c (70 + 10 * i)))), (4, .int (iI 0))]) [3, 4, 2, 1, 0] rfl ?_
  exact lp 300 0 _ _ _ rfl (by omega) (by rfl) (by rw [q0]; exact adr_0 ⟨r00, r01⟩ _) (by omega)
set_option maxRecDepth 100000 in
set_option maxHeartbeats 4000000 in
theorem ct_X3_wordsLeftIn (l : Launch) (σ : Int → Nat) (c : Int → Int) (g : Int → Int) (b0 : Int) : Ct l yX3_wordsLeftIn cX3_wordsLeftIn 7 (some .int) 2 0 0 (fun ca av L M => av = [.ref (σ 0), .int (iI b0)] ∧ isSt ca L M σ c ∧ Rel c g ∧ Inv g ∧ R32 b0) (fun ca av L M r L1 M1 => r = some (.int (iI (wiG g b0))) ∧ L = L1 ∧ M = M1) := by
  refine Ct_of (own := RX3) (by decide) rfl (by rintro _ _ _ _ ⟨rfl, _⟩; exact Nat.le_of_ble_eq_true rfl) ?_
  rintro p e s m args below meth cod D ca A av L M ⟨rfl, hs, hR, hI, hb0⟩ X hret hname
  refine g_lv (lv' := [(0, .ref (σ 0)), (1, .int (iI b0))]) [0, 1] rfl ?_
  generalize hQ : MQ below _ args s _ _ A = Q
  obtain ⟨⟨i00, i01⟩, ⟨i10, i11⟩, ⟨i20, i21⟩, ⟨i30, i31⟩, ⟨i40, i41⟩, i50, i51⟩ := id hI.1
  obtain ⟨⟨e0, e1, e2, e3, e4, e5⟩, hRB, hRR⟩ := id hR
  have lpI : ∀ (z0 y : Int) (hy0 : 0 ≤ y) (hy5 : y < g 5) (out : ∀ z : Int, z = z0 + wiR g y b0 (g (70 + 10 * y + 3)).toNat → G p l e (Rm 2 0 0) s m args below meth cod D A 7 Q 0 0 L M 4 [(0, .ref (σ 0)), (1, .int (iI b0)), (2, .int (iI z)), (3, .int (iI (y + 1)))] []) (a x z : Int), x = 0 → z = z0 → a = g (70 + 10 * y + 4) → G p l e (Rm 2 0 0) s m args below meth cod D A 7 Q 0 0 L M 30 [(0, .ref (σ 0)), (1, .int (iI b0)), (2, .int (iI z)), (3, .int (iI y)), (4, .ref (σ (20 + y))), (5, .int (iI a)), (6, .int (iI x))] [] := by
    intro z0 y hy0 hy5 out a x z hx0 hz0 ha0
    have hq := hRR y (by omega) (by omega)
    obtain ⟨q0, q1, q2, q3, q4, q5, q6, q7, q8⟩ := id hq
    obtain ⟨⟨r00, r01⟩, ⟨r10, r11⟩, ⟨r20, r21⟩, ⟨r30, r31⟩, ⟨r40, r41⟩, r5⟩ := hI.2.2 y (by omega) (by omega)
    have hw_1 : M (σ (20 + y)) = .inr (4, [.int (iI (c (70 + 10 * y))), .int (iI (c (70 + 10 * y + 1))), .int (iI (c (70 + 10 * y + 2))), .int (iI (c (70 + 10 * y + 3))), .int (iI (c (70 + 10 * y + 4))), .int (iI (c (70 + 10 * y + 5))), .int (iI (c (70 + 10 * y + 6))), .int (iI (c (70 + 10 * y + 7)))]) := (hs.row (by omega) (by omega))
    have lpi : ∀ (n : Nat) (j : Nat) (z a x : Int) (hx : x = j) (hxl : x ≤ g (70 + 10 * y + 3)) (ha : a = (g (70 + 10 * y + 4) + (j : Int) * g (70 + 10 * y + 1)) % 4096) (hz : z = z0 + wiR g y b0 j) (hm : g (70 + 10 * y + 3) - x < (n : Int)), G p l e (Rm 2 0 0) s m args below meth cod D A 7 Q 0 0 L M 30 [(0, .ref (σ 0)), (1, .int (iI b0)), (2, .int (iI z)), (3, .int (iI y)), (4, .ref (σ (20 + y))), (5, .int (iI a)), (6, .int (iI x))] [] := by
      intro n
      induction n with
      | zero =>
        intro j z a x hx hxl ha hz hm
        exfalso; omega
      | succ n ih =>
        intro j z a x hx hxl ha hz hm
        have har : 0 ≤ a ∧ a < 4096 := by rw [ha]; exact adr_rng _ _ j
        have hbk := bkG_rng hI.1 a
        refine g_iload X 6 rfl dX3_wordsLeftIn_30 rfl ?_
        refine g_aload X 4 rfl dX3_wordsLeftIn_32 rfl ?_
        refine g_getN X cl_X4 3 (by decide) wf_X3_90 rfl (hs.mem (by omega) (by omega)) hw_1 rfl dX3_wordsLeftIn_34 rfl ?_
        refine g_icmp_ge X ⟨by omega, by omega⟩ ⟨by omega, by omega⟩ (tgt := 78) dX3_wordsLeftIn_37 (by decide) rfl (fun h_2 => ?_) (fun h_2 => ?_)
        · refine g_iinc X (lv' := [(3, .int (iI (y + 1))), (0, .ref (σ 0)), (1, .int (iI b0)), (2, .int (iI z)), (4, .ref (σ (20 + y))), (5, .int (iI a)), (6, .int (iI x))]) 3 rfl (by decide) rfl dX3_wordsLeftIn_78 rfl ?_
          refine g_goto X (n := 4) dX3_wordsLeftIn_81 (by decide) ?_
          refine g_lv (lv' := [(0, .ref (σ 0)), (1, .int (iI b0)), (2, .int (iI z)), (3, .int (iI (y + 1)))]) [1, 2, 3, 0] rfl ?_
          exact out _ (by rw [hz, show (g (70 + 10 * y + 3)).toNat = j from by omega])
        · refine g_iload_n X 2 rfl dX3_wordsLeftIn_40 rfl ?_
          refine g_aload_n X 0 rfl dX3_wordsLeftIn_41 rfl ?_
          refine g_iload X 5 rfl dX3_wordsLeftIn_42 rfl ?_
          refine g_callV X (ct_X3_bankAt l σ c a) (As := [.int (iI a)]) (rest := [.int (iI z)]) cl_X3 rfl ca_X3_bankAt rfl wm_X3_96 wi_X3_bankAt ws_X3_bankAt wc_X3_bankAt w0_X3 ⟨by decide, by decide⟩ (hs.mem (i := 0) (by decide) (by decide)) hs.obj (Nat.le_of_ble_eq_true rfl) ⟨by decide, by decide⟩ rfl dX3_wordsLeftIn_44 rfl ⟨rfl, hs, ⟨by omega, by omega⟩, ⟨by omega, by omega⟩, by omega, by omega⟩ (fun r1 L1 M1 hq => ?_)
          obtain ⟨rfl, rfl, rfl⟩ := hq
          refine g_st (st' := [.int (iI (bkG c a)), .int (iI z)]) rfl ?_
          refine g_st (st' := [.int (iI (bkG g a)), .int (iI z)]) (by rw [bkG_eq e0 e2]) ?_
          refine g_iload_n X 1 rfl dX3_wordsLeftIn_47 rfl ?_
          refine g_icmp_ne X ⟨by omega, by omega⟩ hb0 (tgt := 55) dX3_wordsLeftIn_48 (by decide) rfl (fun h_3 => ?_) (fun h_3 => ?_)
          · refine g_iconst X (z := 0) dX3_wordsLeftIn_55 rfl ?_
            refine g_iadd X dX3_wordsLeftIn_56 rfl ?_
            refine g_st (st' := [.int (iI z)]) (by rw [Int.add_zero]) ?_
            refine g_istore_n X (lv' := [(2, .int (iI z)), (0, .ref (σ 0)), (1, .int (iI b0)), (3, .int (iI y)), (4, .ref (σ (20 + y))), (5, .int (iI a)), (6, .int (iI x))]) (by decide) rfl dX3_wordsLeftIn_57 rfl ?_
            refine g_iload X 5 rfl dX3_wordsLeftIn_58 rfl ?_
            refine g_aload X 4 rfl dX3_wordsLeftIn_60 rfl ?_
            refine g_getN X cl_X4 1 (by decide) wf_X3_66 rfl (hs.mem (by omega) (by omega)) hw_1 rfl dX3_wordsLeftIn_62 rfl ?_
            refine g_iadd X dX3_wordsLeftIn_65 rfl ?_
            refine g_sipush X (z := 4096) (by decide +kernel) dX3_wordsLeftIn_66 rfl ?_
            refine g_irem X ⟨⟨by omega, by omega⟩, by omega, by omega⟩ dX3_wordsLeftIn_69 rfl ?_
            refine g_istore X (lv' := [(5, .int (iI ((a + c (70 + 10 * y + 1)) % 4096))), (2, .int (iI z)), (0, .ref (σ 0)), (1, .int (iI b0)), (3, .int (iI y)), (4, .ref (σ (20 + y))), (6, .int (iI x))]) (by decide) rfl dX3_wordsLeftIn_70 rfl ?_
            refine g_iinc X (lv' := [(6, .int (iI (x + 1))), (5, .int (iI ((a + c (70 + 10 * y + 1)) % 4096))), (2, .int (iI z)), (0, .ref (σ 0)), (1, .int (iI b0)), (3, .int (iI y)), (4, .ref (σ (20 + y)))]) 6 rfl (by decide) rfl dX3_wordsLeftIn_72 rfl ?_
            refine g_goto X (n := 30) dX3_wordsLeftIn_75 (by decide) ?_
            refine g_lv (lv' := [(0, .ref (σ 0)), (1, .int (iI b0)), (2, .int (iI z)), (3, .int (iI y)), (4, .ref (σ (20 + y))), (5, .int (iI ((a + c (70 + 10 * y + 1)) % 4096))), (6, .int (iI (x + 1)))]) [3, 4, 2, 5, 6, 1, 0] rfl ?_
            exact ih (j + 1) _ _ _ (by omega) (by omega) (by rw [ha, q1]; exact adr_next _ _ j) (by simp only [wiR]; rw [← ha, if_neg (by omega), hz]; omega) (by omega)
          · refine g_iconst X (z := 1) dX3_wordsLeftIn_51 rfl ?_
            refine g_goto X (n := 56) dX3_wordsLeftIn_52 (by decide) ?_
            refine g_iadd X dX3_wordsLeftIn_56 rfl ?_
            refine g_istore_n X (lv' := [(2, .int (iI (z + 1))), (0, .ref (σ 0)), (1, .int (iI b0)), (3, .int (iI y)), (4, .ref (σ (20 + y))), (5, .int (iI a)), (6, .int (iI x))]) (by decide) rfl dX3_wordsLeftIn_57 rfl ?_
            refine g_iload X 5 rfl dX3_wordsLeftIn_58 rfl ?_
            refine g_aload X 4 rfl dX3_wordsLeftIn_60 rfl ?_
            refine g_getN X cl_X4 1 (by decide) wf_X3_66 rfl (hs.mem (by omega) (by omega)) hw_1 rfl dX3_wordsLeftIn_62 rfl ?_
            refine g_iadd X dX3_wordsLeftIn_65 rfl ?_
            refine g_sipush X (z := 4096) (by decide +kernel) dX3_wordsLeftIn_66 rfl ?_
            refine g_irem X ⟨⟨by omega, by omega⟩, by omega, by omega⟩ dX3_wordsLeftIn_69 rfl ?_
            refine g_istore X (lv' := [(5, .int (iI ((a + c (70 + 10 * y + 1)) % 4096))), (2, .int (iI (z + 1))), (0, .ref (σ 0)), (1, .int (iI b0)), (3, .int (iI y)), (4, .ref (σ (20 + y))), (6, .int (iI x))]) (by decide) rfl dX3_wordsLeftIn_70 rfl ?_
            refine g_iinc X (lv' := [(6, .int (iI (x + 1))), (5, .int (iI ((a + c (70 + 10 * y + 1)) % 4096))), (2, .int (iI (z + 1))), (0, .ref (σ 0)), (1, .int (iI b0)), (3, .int (iI y)), (4, .ref (σ (20 + y)))]) 6 rfl (by decide) rfl dX3_wordsLeftIn_72 rfl ?_
            refine g_goto X (n := 30) dX3_wordsLeftIn_75 (by decide) ?_
            refine g_lv (lv' := [(0, .ref (σ 0)), (1, .int (iI b0)), (2, .int (iI (z + 1))), (3, .int (iI y)), (4, .ref (σ (20 + y))), (5, .int (iI ((a + c (70 + 10 * y + 1)) % 4096))), (6, .int (iI (x + 1)))]) [3, 4, 2, 5, 6, 1, 0] rfl ?_
            exact ih (j + 1) _ _ _ (by omega) (by omega) (by rw [ha, q1]; exact adr_next _ _ j) (by simp only [wiR]; rw [← ha, if_pos (by omega), hz]; omega) (by omega)
    exact lpi 300 0 _ _ _ (by omega) (by omega) (by rw [ha0]; exact adr_0 ⟨r40, r41⟩ _) (by rw [hz0]; simp only [wiR]; omega) (by omega)
  have lpo : ∀ (n : Nat) (k : Nat) (z y : Int) (hy : y = k) (hk : y ≤ g 5) (hz : z = wiS g b0 k) (hm : g 5 - y < (n : Int)), G p l e (Rm 2 0 0) s m args below meth cod D A 7 Q 0 0 L M 4 [(0, .ref (σ 0)), (1, .int (iI b0)), (2, .int (iI z)), (3, .int (iI y))] [] := by
    intro n
    induction n with
    | zero =>
      intro k z y hy hk hz hm
      exfalso; omega
    | succ n ih =>
      intro k z y hy hk hz hm
      refine g_iload_n X 3 rfl dX3_wordsLeftIn_4 rfl ?_
      refine g_aload_n X 0 rfl dX3_wordsLeftIn_5 rfl ?_
      refine g_get X cl_X3 3 (by decide) wf_X3_52 rfl (hs.mem (i := 0) (by decide) (by decide)) hs.obj rfl dX3_wordsLeftIn_6 rfl ?_
      refine g_icmp_ge X ⟨by omega, by omega⟩ ⟨by omega, by omega⟩ (tgt := 84) dX3_wordsLeftIn_9 (by decide) rfl (fun h_4 => ?_) (fun h_4 => ?_)
      · refine g_iload_n X 2 rfl dX3_wordsLeftIn_84 rfl ?_
        subst hQ
        exact g_iret X hret ⟨Nat.le_of_ble_eq_true rfl, Nat.le_of_ble_eq_true rfl⟩ dX3_wordsLeftIn_85 ⟨by rw [hz, wiG, show (g 5).toNat = k from by omega], rfl, rfl⟩
      · refine g_aload_n X 0 rfl dX3_wordsLeftIn_12 rfl ?_
        refine g_get X cl_X3 1 (by decide) wf_X3_17 rfl (hs.mem (i := 0) (by decide) (by decide)) hs.obj rfl dX3_wordsLeftIn_13 rfl ?_
        refine g_iload_n X 3 rfl dX3_wordsLeftIn_16 rfl ?_
        refine g_aald X (t := 5) rfl (hs.mem (i := 2) (by decide) (by decide)) hs.strs ⟨by omega, by omega⟩ (by decide) (if_pos (by omega)) dX3_wordsLeftIn_17 rfl ?_
        have hw_5 : M (σ (20 + y)) = .inr (4, [.int (iI (c (70 + 10 * y))), .int (iI (c (70 + 10 * y + 1))), .int (iI (c (70 + 10 * y + 2))), .int (iI (c (70 + 10 * y + 3))), .int (iI (c (70 + 10 * y + 4))), .int (iI (c (70 + 10 * y + 5))), .int (iI (c (70 + 10 * y + 6))), .int (iI (c (70 + 10 * y + 7)))]) := (hs.row (by omega) (by omega))
        refine g_astore X (lv' := [(4, .ref (σ (20 + y))), (0, .ref (σ 0)), (1, .int (iI b0)), (2, .int (iI z)), (3, .int (iI y))]) (by decide) rfl dX3_wordsLeftIn_18 rfl ?_
        refine g_aload X 0 rfl dX3_wordsLeftIn_20 rfl ?_
        have hq := hRR y (by omega) (by omega)
        obtain ⟨q0, q1, q2, q3, q4, q5, q6, q7, q8⟩ := id hq
        obtain ⟨⟨r00, r01⟩, ⟨r10, r11⟩, ⟨r20, r21⟩, ⟨r30, r31⟩, ⟨r40, r41⟩, r5⟩ := hI.2.2 y (by omega) (by omega)
        refine g_callVN X (ct_X4_nextAddress l (σ (20 + y)) (fRow c y)) (host := "StrideBanks") (As := []) (rest := []) cl_X4 rfl ca_X4_nextAddress rfl wm_X3_93 wi_X4_nextAddress ws_X4_nextAddress wc_X4_nextAddress w0_X4 ⟨by decide, by decide⟩ (hs.mem (by omega) (by omega)) hw_5 (by decide) ⟨by decide, by decide⟩ rfl dX3_wordsLeftIn_22 rfl ⟨rfl, (hs.mem (by omega) (by omega)), (hw_5).trans (cRow_eq _ _), (show R32 (c (70 + 10 * y + 3)) from ⟨by omega, by omega⟩), (show R32 (c (70 + 10 * y + 2)) from ⟨by omega, by omega⟩), (show 0 ≤ c (70 + 10 * y + 4) + c (70 + 10 * y + 1) ∧ c (70 + 10 * y + 4) + c (70 + 10 * y + 1) < 2147483648 from ⟨by omega, by omega⟩)⟩ (fun r1 L1 M1 hq => ?_)
        obtain ⟨rfl, rfl, rfl⟩ := hq
        refine g_st (st' := [.int (iI (rwNext (fRow c y)))]) rfl ?_
        refine g_st (st' := [.int (iI (g (70 + 10 * y + 4)))]) (by rw [rel_next hq (hI.2.2 y (by omega) (by omega))]) ?_
        refine g_istore X (lv' := [(5, .int (iI (g (70 + 10 * y + 4)))), (4, .ref (σ (20 + y))), (0, .ref (σ 0)), (1, .int (iI b0)), (2, .int (iI z)), (3, .int (iI y))]) (by decide) rfl dX3_wordsLeftIn_25 rfl ?_
        refine g_iconst X (z := 0) dX3_wordsLeftIn_27 rfl ?_
        refine g_istore X (lv' := [(6, .int (iI 0)), (5, .int (iI (g (70 + 10 * y + 4)))), (4, .ref (σ (20 + y))), (0, .ref (σ 0)), (1, .int (iI b0)), (2, .int (iI z)), (3, .int (iI y))]) (by decide) rfl dX3_wordsLeftIn_28 rfl ?_
        refine g_lv (lv' := [(0, .ref (σ 0)), (1, .int (iI b0)), (2, .int (iI z)), (3, .int (iI y)), (4, .ref (σ (20 + y))), (5, .int (iI (g (70 + 10 * y + 4)))), (6, .int (iI 0))]) [3, 4, 5, 6, 2, 1, 0] rfl ?_
        exact lpI z y (by omega) (by omega) (fun z2 hz2 => ih (k + 1) _ _ (by omega) (by omega) (by simp only [wiS]; rw [hz2, hz, hy]) (by omega)) _ _ _ rfl rfl rfl
  refine g_iconst X (z := 0) dX3_wordsLeftIn_0 rfl ?_
  refine g_istore_n X (lv' := [(2, .int (iI 0)), (0, .ref (σ 0)), (1, .int (iI b0))]) (by decide) rfl dX3_wordsLeftIn_1 rfl ?_
  refine g_iconst X (z := 0) dX3_wordsLeftIn_2 rfl ?_
  refine g_istore_n X (lv' := [(3, .int (iI 0)), (2, .int (iI 0)), (0, .ref (σ 0)), (1, .int (iI b0))]) (by decide) rfl dX3_wordsLeftIn_3 rfl ?_
  refine g_lv (lv' := [(0, .ref (σ 0)), (1, .int (iI b0)), (2, .int (iI 0)), (3, .int (iI 0))]) [2, 3, 1, 0] rfl ?_
  exact lpo 9 0 _ _ rfl (by omega) rfl (by omega)
