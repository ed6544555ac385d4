/-! the class's store: append, remove -/
def apC (c : Int → Int) (a b z : Int) : Int → Int := up (setR c (c 5) (rwBegin (v8 a b z (c (70 + 10 * c 5 + 3)) (c (70 + 10 * c 5 + 4)) (c (70 + 10 * c 5 + 5)) (c (70 + 10 * c 5 + 6)) (c (70 + 10 * c 5 + 7))))) 5 (c 5 + 1)
set_option maxRecDepth 100000 in
set_option maxHeartbeats 4000000 in
theorem ct_X3_append (l : Launch) (σ : Int → Nat) (c : Int → Int) (a b z : Int) : Ct l yX3_append cX3_append 5 none 1 0 0 (fun ca av L M => av = [.ref (σ 0), .int (iI a), .int (iI b), .int (iI z)] ∧ isSt ca L M σ c ∧ (0 ≤ c 5 ∧ c 5 < 4)) (fun ca av L M r L1 M1 => r = none ∧ L = L1 ∧ isSt ca L M1 σ (apC c a b z) ∧ outS σ M M1) := by
  refine Ct_of (own := RX3) (by decide) rfl (by rintro _ _ _ _ ⟨rfl, _⟩; exact Nat.le_of_ble_eq_true rfl) ?_
  rintro p e s m args below meth cod D ca A av L M ⟨rfl, hs, h5⟩ X hret hname
  refine g_lv (lv' := [(0, .ref (σ 0)), (1, .int (iI a)), (2, .int (iI b)), (3, .int (iI z))]) [0, 1, 2, 3] rfl ?_
  refine g_aload_n X 0 rfl dX3_append_0 rfl ?_
  refine g_get X cl_X3 3 (by decide) wf_X3_52 rfl (hs.mem (i := 0) (by decide) (by decide)) hs.obj rfl dX3_append_1 rfl ?_
  refine g_iconst X (z := 4) dX3_append_4 rfl ?_
  refine g_icmp_lt X ⟨by omega, by omega⟩ ⟨by decide, by decide⟩ (tgt := 9) dX3_append_5 (by decide) rfl (fun h_1 => ?_) (fun h_1 => ?_)
  · refine g_aload_n X 0 rfl dX3_append_9 rfl ?_
    refine g_get X cl_X3 1 (by decide) wf_X3_17 rfl (hs.mem (i := 0) (by decide) (by decide)) hs.obj rfl dX3_append_10 rfl ?_
    refine g_aload_n X 0 rfl dX3_append_13 rfl ?_
    refine g_get X cl_X3 3 (by decide) wf_X3_52 rfl (hs.mem (i := 0) (by decide) (by decide)) hs.obj rfl dX3_append_14 rfl ?_
    refine g_aald X (t := 5) rfl (hs.mem (i := 2) (by decide) (by decide)) hs.strs ⟨by omega, by omega⟩ (by decide) (if_pos (by omega)) dX3_append_17 rfl ?_
    have hw_2 : M (σ (20 + c 5)) = .inr (4, [.int (iI (c (70 + 10 * c 5))), .int (iI (c (70 + 10 * c 5 + 1))), .int (iI (c (70 + 10 * c 5 + 2))), .int (iI (c (70 + 10 * c 5 + 3))), .int (iI (c (70 + 10 * c 5 + 4))), .int (iI (c (70 + 10 * c 5 + 5))), .int (iI (c (70 + 10 * c 5 + 6))), .int (iI (c (70 + 10 * c 5 + 7)))]) := (hs.row (by omega) (by omega))
    refine g_astore X (lv' := [(4, .ref (σ (20 + c 5))), (0, .ref (σ 0)), (1, .int (iI a)), (2, .int (iI b)), (3, .int (iI z))]) (by decide) rfl dX3_append_18 rfl ?_
    refine g_aload X 0 rfl dX3_append_20 rfl ?_
    refine g_iload_n X 2 rfl dX3_append_22 rfl ?_
    refine g_putN X cl_X4 0 (by decide) wf_X3_63 rfl (hs.mem (by omega) (by omega)) hw_2 rfl rfl rfl (Nat.le_of_ble_eq_true rfl) (fs' := [.int (iI a), .int (iI (c (70 + 10 * c 5 + 1))), .int (iI (c (70 + 10 * c 5 + 2))), .int (iI (c (70 + 10 * c 5 + 3))), .int (iI (c (70 + 10 * c 5 + 4))), .int (iI (c (70 + 10 * c 5 + 5))), .int (iI (c (70 + 10 * c 5 + 6))), .int (iI (c (70 + 10 * c 5 + 7)))]) rfl dX3_append_23 rfl (fun M_3 hM_4 fr_5 => ?_)
    have hM_6 : M_3 (σ 0) = .inr (3, [.ref (σ 1), .ref (σ 2), .ref (σ 3), .int (iI (c 5)), .int (iI (c 4))]) := (fr_5 (σ 0) (hs.ne (i := 0) (j := (20 + c 5)) (by omega) (by omega) (by omega) (by omega) (by omega))).trans hs.obj
    have hM_7 : M_3 (σ 1) = cI ca 4 c := (fr_5 (σ 1) (hs.ne (i := 1) (j := (20 + c 5)) (by omega) (by omega) (by omega) (by omega) (by omega))).trans hs.set
    have hM_8 : M_3 (σ 2) = cR ca 5 4 (fun j => if j < 4 then some (σ (20 + j)) else none) := (fr_5 (σ 2) (hs.ne (i := 2) (j := (20 + c 5)) (by omega) (by omega) (by omega) (by omega) (by omega))).trans hs.strs
    have hM_9 : M_3 (σ 3) = cR ca 3 16 (fun j => if j < 16 then some (σ (4 + j)) else none) := (fr_5 (σ 3) (hs.ne (i := 3) (j := (20 + c 5)) (by omega) (by omega) (by omega) (by omega) (by omega))).trans hs.bks
    refine g_aload X 0 rfl dX3_append_26 rfl ?_
    refine g_iload_n X 3 rfl dX3_append_28 rfl ?_
    refine g_putN X cl_X4 1 (by decide) wf_X3_66 rfl (hs.mem (by omega) (by omega)) hM_4 rfl rfl rfl (Nat.le_of_ble_eq_true rfl) (fs' := [.int (iI a), .int (iI b), .int (iI (c (70 + 10 * c 5 + 2))), .int (iI (c (70 + 10 * c 5 + 3))), .int (iI (c (70 + 10 * c 5 + 4))), .int (iI (c (70 + 10 * c 5 + 5))), .int (iI (c (70 + 10 * c 5 + 6))), .int (iI (c (70 + 10 * c 5 + 7)))]) rfl dX3_append_29 rfl (fun M_10 hM_11 fr_12 => ?_)
    have hM_13 : M_10 (σ 0) = .inr (3, [.ref (σ 1), .ref (σ 2), .ref (σ 3), .int (iI (c 5)), .int (iI (c 4))]) := (fr_12 (σ 0) (hs.ne (i := 0) (j := (20 + c 5)) (by omega) (by omega) (by omega) (by omega) (by omega))).trans hM_6
    have hM_14 : M_10 (σ 1) = cI ca 4 c := (fr_12 (σ 1) (hs.ne (i := 1) (j := (20 + c 5)) (by omega) (by omega) (by omega) (by omega) (by omega))).trans hM_7
    have hM_15 : M_10 (σ 2) = cR ca 5 4 (fun j => if j < 4 then some (σ (20 + j)) else none) := (fr_12 (σ 2) (hs.ne (i := 2) (j := (20 + c 5)) (by omega) (by omega) (by omega) (by omega) (by omega))).trans hM_8
    have hM_16 : M_10 (σ 3) = cR ca 3 16 (fun j => if j < 16 then some (σ (4 + j)) else none) := (fr_12 (σ 3) (hs.ne (i := 3) (j := (20 + c 5)) (by omega) (by omega) (by omega) (by omega) (by omega))).trans hM_9
    refine g_aload X 0 rfl dX3_append_32 rfl ?_
    refine g_iload_n X 4 rfl dX3_append_34 rfl ?_
    refine g_putN X cl_X4 2 (by decide) wf_X3_69 rfl (hs.mem (by omega) (by omega)) hM_11 rfl rfl rfl (Nat.le_of_ble_eq_true rfl) (fs' := [.int (iI a), .int (iI b), .int (iI z), .int (iI (c (70 + 10 * c 5 + 3))), .int (iI (c (70 + 10 * c 5 + 4))), .int (iI (c (70 + 10 * c 5 + 5))), .int (iI (c (70 + 10 * c 5 + 6))), .int (iI (c (70 + 10 * c 5 + 7)))]) rfl dX3_append_35 rfl (fun M_17 hM_18 fr_19 => ?_)
    have hM_20 : M_17 (σ 0) = .inr (3, [.ref (σ 1), .ref (σ 2), .ref (σ 3), .int (iI (c 5)), .int (iI (c 4))]) := (fr_19 (σ 0) (hs.ne (i := 0) (j := (20 + c 5)) (by omega) (by omega) (by omega) (by omega) (by omega))).trans hM_13
    have hM_21 : M_17 (σ 1) = cI ca 4 c := (fr_19 (σ 1) (hs.ne (i := 1) (j := (20 + c 5)) (by omega) (by omega) (by omega) (by omega) (by omega))).trans hM_14
    have hM_22 : M_17 (σ 2) = cR ca 5 4 (fun j => if j < 4 then some (σ (20 + j)) else none) := (fr_19 (σ 2) (hs.ne (i := 2) (j := (20 + c 5)) (by omega) (by omega) (by omega) (by omega) (by omega))).trans hM_15
    have hM_23 : M_17 (σ 3) = cR ca 3 16 (fun j => if j < 16 then some (σ (4 + j)) else none) := (fr_19 (σ 3) (hs.ne (i := 3) (j := (20 + c 5)) (by omega) (by omega) (by omega) (by omega) (by omega))).trans hM_16
    refine g_aload X 0 rfl dX3_append_38 rfl ?_
    refine g_callVN X (ct_X4_beginAnew l (σ (20 + c 5)) (v8 a b z (c (70 + 10 * c 5 + 3)) (c (70 + 10 * c 5 + 4)) (c (70 + 10 * c 5 + 5)) (c (70 + 10 * c 5 + 6)) (c (70 + 10 * c 5 + 7)))) (host := "StrideBanks") (As := []) (rest := []) cl_X4 rfl ca_X4_beginAnew rfl wm_X3_62 wi_X4_beginAnew ws_X4_beginAnew wc_X4_beginAnew w0_X4 ⟨by decide, by decide⟩ (hs.mem (by omega) (by omega)) hM_18 (by decide) ⟨by decide, by decide⟩ rfl dX3_append_40 rfl ⟨rfl, (hs.mem (by omega) (by omega)), hM_18⟩ (fun r1 L1 M_24 hq => ?_)
    obtain ⟨rfl, rfl, hM_25, fr_26⟩ := hq
    obtain ⟨c_28, hc_29⟩ : ∃ x : Int → Int, x = setR c (c 5) (rwBegin (v8 a b z (c (70 + 10 * c 5 + 3)) (c (70 + 10 * c 5 + 4)) (c (70 + 10 * c 5 + 5)) (c (70 + 10 * c 5 + 6)) (c (70 + 10 * c 5 + 7)))) := ⟨_, rfl⟩
    have hs_27 : isSt ca L M_24 (σ) c_28 := by rw [hc_29]; exact hs.toR (by omega) (by omega) hM_25 (fun b hb => (fr_26 b hb).trans ((fr_19 b hb).trans ((fr_12 b hb).trans (fr_5 b hb))))
    refine g_st (st' := []) rfl ?_
    refine g_aload_n X 1 rfl dX3_append_43 rfl ?_
    refine g_dup X rfl dX3_append_44 rfl ?_
    refine g_get X cl_X3 3 (by decide) wf_X3_52 rfl (hs_27.mem (i := 0) (by decide) (by decide)) hs_27.obj rfl dX3_append_45 rfl ?_
    refine g_iconst X (z := 1) dX3_append_48 rfl ?_
    refine g_iadd X dX3_append_49 rfl ?_
    refine g_put X cl_X3 3 (by decide) wf_X3_52 rfl (hs_27.mem (i := 0) (by decide) (by decide)) hs_27.obj rfl rfl rfl (Nat.le_of_ble_eq_true rfl) (fs' := [.ref (σ 1), .ref (σ 2), .ref (σ 3), .int (iI (c_28 5 + 1)), .int (iI (c_28 4))]) rfl dX3_append_50 rfl (fun M_30 hM_31 fr_32 => ?_)
    have hM_33 : M_30 (σ 1) = cI ca 4 c_28 := (fr_32 (σ 1) (hs_27.ne (i := 1) (j := 0) (by omega) (by omega) (by omega) (by omega) (by omega))).trans hs_27.set
    have hM_34 : M_30 (σ 2) = cR ca 5 4 (fun j => if j < 4 then some (σ (20 + j)) else none) := (fr_32 (σ 2) (hs_27.ne (i := 2) (j := 0) (by omega) (by omega) (by omega) (by omega) (by omega))).trans hs_27.strs
    have hM_35 : M_30 (σ 3) = cR ca 3 16 (fun j => if j < 16 then some (σ (4 + j)) else none) := (fr_32 (σ 3) (hs_27.ne (i := 3) (j := 0) (by omega) (by omega) (by omega) (by omega) (by omega))).trans hs_27.bks
    obtain ⟨c_37, hc_38⟩ : ∃ x : Int → Int, x = up c_28 5 (c_28 5 + 1) := ⟨_, rfl⟩
    have hs_36 : isSt ca L M_30 (σ) c_37 := by rw [hc_38]; exact hs_27.putObj (c' := up c_28 5 (c_28 5 + 1)) hM_31 fr_32 (fun k h4 h5 => up_ne _ _ h5)
    exact g_vret X hret ⟨Nat.le_of_ble_eq_true rfl, Nat.le_of_ble_eq_true rfl⟩ dX3_append_53 ⟨rfl, rfl, by have hz := hs_36; rw [hc_38, hc_29, setR_out _ _ _ (by omega)] at hz; exact hz, (((((outS.one (σ := σ) (i := (20 + c 5)) (by omega) (by omega) fr_5).trans (outS.one (σ := σ) (i := (20 + c 5)) (by omega) (by omega) fr_12)).trans (outS.one (σ := σ) (i := (20 + c 5)) (by omega) (by omega) fr_19)).trans (outS.one (σ := σ) (i := (20 + c 5)) (by omega) (by omega) fr_26)).trans (outS.one (σ := σ) (i := 0) (by omega) (by omega) fr_32))⟩
  · exact absurd h_1 (by omega)
def rotI (i n k : Int) : Int := if k = 20 + (n - 1) then 20 + i else if 20 + i ≤ k ∧ k < 20 + (n - 1) then k + 1 else k
def rotS (σ : Int → Nat) (i n : Int) : Int → Nat := fun k => σ (rotI i n k)
def rotC (c : Int → Int) (i n : Int) : Int → Int := fun k => if 70 + 10 * i ≤ k ∧ k < 70 + 10 * (n - 1) then c (k + 10) else if 70 + 10 * (n - 1) ≤ k ∧ k < 70 + 10 * n then c (k - 10 * (n - 1) + 10 * i) else c k
def shq (σ : Int → Nat) (i y : Int) : Int → Option Nat := fun j => if j < 4 then (if i ≤ j ∧ j < y then some (σ (20 + (j + 1))) else some (σ (20 + j))) else none
theorem shq_0 (σ : Int → Nat) (i : Int) : shq σ i i = fun j => if j < 4 then some (σ (20 + j)) else none := by
  funext j; unfold shq; rw [if_neg (show ¬ (i ≤ j ∧ j < i) by omega)]
theorem shq_up (σ : Int → Nat) {i y : Int} (h : i ≤ y) (h4 : y < 4) : up (shq σ i y) y (some (σ (20 + (y + 1)))) = shq σ i (y + 1) := by
  funext j
  simp only [up, shq]
  by_cases h1 : j = y
  · subst h1; rw [if_pos rfl, if_pos h4, if_pos (by omega)]
  · rw [if_neg h1]
    by_cases h2 : i ≤ j ∧ j < y
    · rw [if_pos h2, if_pos (show i ≤ j ∧ j < y + 1 by omega)]
    · rw [if_neg h2, if_neg (show ¬ (i ≤ j ∧ j < y + 1) by omega)]
theorem shq_hi (σ : Int → Nat) {i y j : Int} (h : y ≤ j) (h4 : j < 4) : shq σ i y j = some (σ (20 + j)) := by
  unfold shq; rw [if_pos h4, if_neg (by omega)]
theorem rotI_ok {i n k : Int} (i0 : 0 ≤ i) (i1 : i < n) (n4 : n ≤ 4) (k0 : 0 ≤ k) (k1 : k < 24) : 0 ≤ rotI i n k ∧ rotI i n k < 24 := by
  unfold rotI; split
  · omega
  · split <;> omega
theorem rotI_inj {i n j k : Int} (i0 : 0 ≤ i) (i1 : i < n) (h : rotI i n j = rotI i n k) : j = k := by
  unfold rotI at h
  split at h <;> split at h <;> (try split at h) <;> (try split at h) <;> omega
theorem rotI_lo {i n k : Int} (i0 : 0 ≤ i) (i1 : i < n) (h : k < 20) : rotI i n k = k := by
  unfold rotI; rw [if_neg (by omega), if_neg (by omega)]
theorem isSt.rot {ca : Nat → ClassId} {L : List Nat} {M M1 : Mem} {σ : Int → Nat} {c : Int → Int} (h : isSt ca L M σ c) {i n : Int} (i0 : 0 ≤ i) (i1 : i < n) (n4 : n ≤ 4) (h2 : M1 (σ 2) = cR ca 5 4 (up (shq σ i (n - 1)) (n - 1) (some (σ (20 + i))))) (h0 : M1 (σ 0) = oStore σ (up c 5 (n - 1))) (hf : ∀ x, x ≠ σ 0 → x ≠ σ 2 → M1 x = M x) : isSt ca L M1 (rotS σ i n) (up (rotC c i n) 5 (n - 1)) := by
  have lo : ∀ k : Int, k < 20 → rotS σ i n k = σ k := fun k hk => congrArg σ (rotI_lo i0 i1 hk)
  have nn := fun (k : Int) (k0 : 0 ≤ k) (k1 : k < 24) (n0 : k ≠ 0) (n2 : k ≠ 2) => hf (σ k) (h.ne k0 k1 (by decide) (by decide) n0) (h.ne k0 k1 (by decide) (by decide) n2)
  have cl : ∀ k, k < 70 → k ≠ 5 → up (rotC c i n) 5 (n - 1) k = c k := fun k h1 h5 => by rw [up_ne _ _ h5, rotC, if_neg (by omega), if_neg (by omega)]
  refine ⟨⟨fun k k0 k1 => ?_, fun j k j0 j1 k0 k1 e => ?_⟩, ?_, ?_, ?_, ?_, fun b b0 b1 => ?_, fun j j0 j1 => ?_⟩
  · have := rotI_ok i0 i1 n4 k0 k1
    exact h.mem this.1 this.2
  · have a1 := rotI_ok i0 i1 n4 j0 j1
    have a2 := rotI_ok i0 i1 n4 k0 k1
    exact rotI_inj i0 i1 (h.1.2 _ _ a1.1 a1.2 a2.1 a2.2 e)
  · rw [lo 0 (by decide), h0, oStore, oStore, lo 1 (by decide), lo 2 (by decide), lo 3 (by decide), up_eq, up_eq, cl 4 (by decide) (by decide), up_ne _ _ (by decide)]
  · rw [lo 1 (by decide), nn 1 (by decide) (by decide) (by decide) (by decide), h.set]; exact cI_ext (fun k k0 k1 => (cl _ (by omega) (by omega)).symm)
  · rw [lo 2 (by decide), h2]
    refine congrArg (cR ca 5 4) (funext fun j => ?_)
    simp only [up, shq, rotS, rotI]
    by_cases e4 : (j : Int) < 4
    · rw [if_pos e4, if_pos e4]
      by_cases e : (j : Int) = n - 1
      · rw [if_pos e, if_pos (by omega)]
      · rw [if_neg e, if_neg (show ¬ 20 + j = 20 + (n - 1) by omega)]
        by_cases e2 : i ≤ (j : Int) ∧ (j : Int) < n - 1
        · rw [if_pos e2, if_pos (show 20 + i ≤ 20 + j ∧ 20 + j < 20 + (n - 1) by omega), Int.add_assoc]
        · rw [if_neg e2, if_neg (show ¬ (20 + i ≤ 20 + j ∧ 20 + j < 20 + (n - 1)) by omega)]
    · rw [if_neg e4, if_neg e4, if_neg (by omega)]
  · rw [lo 3 (by decide), nn 3 (by decide) (by decide) (by decide) (by decide), h.bks]
    refine congrArg (cR ca 3 16) (funext fun j => ?_)
    by_cases e : (j : Int) < 16
    · rw [if_pos e, if_pos e, lo (4 + (j : Int)) (by omega)]
    · rw [if_neg e, if_neg e]
  · rw [lo (4 + b) (by omega), nn (4 + b) (by omega) (by omega) (by omega) (by omega), h.bank b0 b1, cBank, cBank, cl _ (by omega) (by omega), cl _ (by omega) (by omega), cl _ (by omega) (by omega), cl _ (by omega) (by omega)]
  · have rr : ∀ a, 0 ≤ a → a < 4 → M1 (σ (20 + a)) = cRow c a := fun a a0 a1 => (nn (20 + a) (by omega) (by omega) (by omega) (by omega)).trans (h.row a0 a1)
    have key : ∀ a, 0 ≤ a → a < 4 → rotI i n (20 + j) = 20 + a → (∀ k, 0 ≤ k → k < 10 → rotC c i n (70 + 10 * j + k) = c (70 + 10 * a + k)) → M1 (rotS σ i n (20 + j)) = cRow (up (rotC c i n) 5 (n - 1)) j := by
      intro a a0 a1 ea ec
      have q := fun k k0 k1 => (up_ne (rotC c i n) (k := 5) (n - 1) (by omega : 70 + 10 * j + k ≠ 5)).trans (ec k k0 k1)
      have q0 : up (rotC c i n) 5 (n - 1) (70 + 10 * j) = c (70 + 10 * a) := by
        have := q 0 (by decide) (by decide)
        rwa [Int.add_zero, Int.add_zero] at this
      rw [rotS, ea, rr a a0 a1, cRow, cRow, q0, q 1 (by decide) (by decide), q 2 (by decide) (by decide), q 3 (by decide) (by decide), q 4 (by decide) (by decide), q 5 (by decide) (by decide), q 6 (by decide) (by decide), q 7 (by decide) (by decide)]
    by_cases e : j = n - 1
    · refine key i i0 (by omega) (by unfold rotI; rw [if_pos (by omega)]) (fun k k0 k1 => ?_)
      rw [rotC, if_neg (by omega), if_pos (by omega)]
      congr 1; omega
    · by_cases e2 : i ≤ j ∧ j < n - 1
      · refine key (j + 1) (by omega) (by omega) (by unfold rotI; rw [if_neg (by omega), if_pos (by omega)]; omega) (fun k k0 k1 => ?_)
        rw [rotC, if_pos (by omega)]
        congr 1; omega
      · refine key j j0 j1 (by unfold rotI; rw [if_neg (by omega), if_neg (by omega)]) (fun k k0 k1 => ?_)
        rw [rotC, if_neg (by omega), if_neg (by omega)]
theorem isSt.putMaker {ca : Nat → ClassId} {L : List Nat} {M M1 : Mem} {σ : Int → Nat} {c : Int → Int} (h : isSt ca L M σ c) {b v : Int} (h0 : 0 ≤ b) (h1 : b < 16) (hM : M1 (σ (4 + b)) = .inr (0, [.int (iI (c (6 + 4 * b))), .int (iI v), .int (iI (c (6 + 4 * b + 2))), .int (iI (c (6 + 4 * b + 3)))])) (hf : ∀ x, x ≠ σ (4 + b) → M1 x = M x) : isSt ca L M1 σ (up c (6 + 4 * b + 1) v) :=
  h.putBank h0 h1 (by rw [hM, cBank, up_eq, up_ne _ _ (by omega), up_ne _ _ (by omega), up_ne _ _ (by omega)]) hf (fun k hk => up_ne _ _ (by omega))
theorem own_same {n i : Int} (g : Int → Int) (h : 0 ≤ n) (hv : ownV i (g (6 + 4 * n + 1)) = g (6 + 4 * n + 1)) : own n i g = own (n + 1) i g := by
  rw [← own_up g h, hv]
  funext k
  simp only [up]
  by_cases e : k = 6 + 4 * n + 1
  · subst e; rw [if_pos rfl, own_out _ (by omega)]
  · rw [if_neg e]
def rmC (c : Int → Int) (i : Int) : Int → Int := own 16 i (up (rotC c i (c 5)) 5 (c 5 - 1))
set_option maxRecDepth 100000 in
set_option maxHeartbeats 4000000 in
theorem ct_X3_remove (l : Launch) (σ : Int → Nat) (c : Int → Int) (i : Int) : Ct l yX3_remove cX3_remove 4 none 0 0 0 (fun ca av L M => av = [.ref (σ 0), .int (iI i)] ∧ isSt ca L M σ c ∧ (0 ≤ i ∧ i < c 5) ∧ c 5 ≤ 4 ∧ (∀ b, 0 ≤ b → b < 16 → -1 ≤ c (6 + 4 * b + 1) ∧ c (6 + 4 * b + 1) < 4)) (fun ca av L M r L1 M1 => r = none ∧ L = L1 ∧ isSt ca L M1 (rotS σ i (c 5)) (rmC c i) ∧ outS σ M M1) := by
  refine Ct_of (own := RX3) (by decide) rfl (by rintro _ _ _ _ ⟨rfl, _⟩; exact Nat.le_of_ble_eq_true rfl) ?_
  rintro p e s m args below meth cod D ca A av L M ⟨rfl, hs, hi, h5, hB⟩ X hret hname
  refine g_lv (lv' := [(0, .ref (σ 0)), (1, .int (iI i))]) [0, 1] rfl ?_
  generalize hQ : MQ below _ args s _ _ A = Q
  obtain ⟨ς, hς⟩ : ∃ x : Int → Nat, x = rotS σ i (c 5) := ⟨_, rfl⟩
  obtain ⟨w, hw⟩ : ∃ x : Int → Int, x = up (rotC c i (c 5)) 5 (c 5 - 1) := ⟨_, rfl⟩
  have hout : ∀ {Ma Mb : Mem} (k : Int), 0 ≤ k → k < 24 → (∀ x, x ≠ ς k → Mb x = Ma x) → outS σ Ma Mb := fun k k0 k1 hf x hx => hf x (by rw [hς]; exact hx _ (rotI_ok hi.1 hi.2 h5 k0 k1).1 (rotI_ok hi.1 hi.2 h5 k0 k1).2)
  have e0 : ς 0 = σ 0 := by rw [hς]; exact congrArg σ (rotI_lo hi.1 hi.2 (by decide))
  have hwB : ∀ b, 0 ≤ b → b < 16 → -1 ≤ w (6 + 4 * b + 1) ∧ w (6 + 4 * b + 1) < 4 := fun b b0 b1 => by rw [hw, up_ne _ _ (by omega), rotC, if_neg (by omega), if_neg (by omega)]; exact hB b b0 b1
  have lp2 : ∀ (n : Nat) (y : Int) (M1 : Mem) (f : Int → Int) (hy0 : 0 ≤ y) (hy1 : y ≤ 16) (hf : f = own y i w) (hs1 : isSt ca L M1 ς f) (hfr : outS σ M M1) (hm : 16 - y < (n : Int)), G p l e (Rm 0 0 0) s m args below meth cod D A 4 Q 0 0 L M1 61 [(0, .ref (ς 0)), (1, .int (iI i)), (3, .int (iI y))] [] := by
    intro n
    induction n with
    | zero =>
      intro y M1 f hy0 hy1 hf hs1 hfr hm
      exfalso; omega
    | succ n ih =>
      intro y M1 f hy0 hy1 hf hs1 hfr hm
      have hfy : f (6 + 4 * y + 1) = w (6 + 4 * y + 1) := by rw [hf]; exact own_out _ (by omega)
      have hw2 := hwB y hy0
      refine g_iload_n X 2 rfl dX3_remove_61 rfl ?_
      refine g_bipush X (z := 16) (by decide +kernel) dX3_remove_62 rfl ?_
      refine g_icmp_ge X ⟨by omega, by omega⟩ ⟨by decide, by decide⟩ (tgt := 127) dX3_remove_64 (by decide) rfl (fun h_1 => ?_) (fun h_1 => ?_)
      · subst hQ
        exact g_vret X hret ⟨Nat.le_of_ble_eq_true rfl, Nat.le_of_ble_eq_true rfl⟩ dX3_remove_127 ⟨rfl, rfl, by rw [rmC, ← hw, ← hς, ← show y = 16 from by omega, ← hf]; exact hs1, hfr⟩
      · refine g_aload_n X 0 rfl dX3_remove_67 rfl ?_
        refine g_get X cl_X3 2 (by decide) wf_X3_23 rfl (hs1.mem (i := 0) (by decide) (by decide)) hs1.obj rfl dX3_remove_68 rfl ?_
        refine g_iload_n X 2 rfl dX3_remove_71 rfl ?_
        refine g_aald X (t := 3) rfl (hs1.mem (i := 3) (by decide) (by decide)) hs1.bks ⟨by omega, by omega⟩ (by decide) (if_pos (by omega)) dX3_remove_72 rfl ?_
        have hw_2 : M1 (ς (4 + y)) = .inr (0, [.int (iI (f (6 + 4 * y))), .int (iI (f (6 + 4 * y + 1))), .int (iI (f (6 + 4 * y + 2))), .int (iI (f (6 + 4 * y + 3)))]) := (hs1.bank (by omega) (by omega))
        refine g_getN X cl_X0 1 (by decide) wf_X3_76 rfl (hs1.mem (by omega) (by omega)) hw_2 rfl dX3_remove_73 rfl ?_
        refine g_iload_n X 1 rfl dX3_remove_76 rfl ?_
        refine g_icmp_ne X ⟨by omega, by omega⟩ ⟨by omega, by omega⟩ (tgt := 93) dX3_remove_77 (by decide) rfl (fun h_3 => ?_) (fun h_3 => ?_)
        · refine g_aload_n X 0 rfl dX3_remove_93 rfl ?_
          refine g_get X cl_X3 2 (by decide) wf_X3_23 rfl (hs1.mem (i := 0) (by decide) (by decide)) hs1.obj rfl dX3_remove_94 rfl ?_
          refine g_iload_n X 2 rfl dX3_remove_97 rfl ?_
          refine g_aald X (t := 3) rfl (hs1.mem (i := 3) (by decide) (by decide)) hs1.bks ⟨by omega, by omega⟩ (by decide) (if_pos (by omega)) dX3_remove_98 rfl ?_
          refine g_getN X cl_X0 1 (by decide) wf_X3_76 rfl (hs1.mem (by omega) (by omega)) hw_2 rfl dX3_remove_99 rfl ?_
          refine g_iload_n X 1 rfl dX3_remove_102 rfl ?_
          refine g_icmp_le X ⟨by omega, by omega⟩ ⟨by omega, by omega⟩ (tgt := 121) dX3_remove_103 (by decide) rfl (fun h_4 => ?_) (fun h_4 => ?_)
          · refine g_iinc X (lv' := [(3, .int (iI (y + 1))), (0, .ref (ς 0)), (1, .int (iI i))]) 2 rfl (by decide) rfl dX3_remove_121 rfl ?_
            refine g_goto X (n := 61) dX3_remove_124 (by decide) ?_
            refine g_lv (lv' := [(0, .ref (ς 0)), (1, .int (iI i)), (3, .int (iI (y + 1)))]) [1, 2, 0] rfl ?_
            exact ih _ _ _ (by omega) (by omega) (by rw [hf]; exact own_same _ (by omega) (by rw [← hfy]; unfold ownV; rw [if_neg (by omega), if_neg (by omega)])) hs1 hfr (by omega)
          · refine g_aload_n X 0 rfl dX3_remove_106 rfl ?_
            refine g_get X cl_X3 2 (by decide) wf_X3_23 rfl (hs1.mem (i := 0) (by decide) (by decide)) hs1.obj rfl dX3_remove_107 rfl ?_
            refine g_iload_n X 2 rfl dX3_remove_110 rfl ?_
            refine g_aald X (t := 3) rfl (hs1.mem (i := 3) (by decide) (by decide)) hs1.bks ⟨by omega, by omega⟩ (by decide) (if_pos (by omega)) dX3_remove_111 rfl ?_
            refine g_dup X rfl dX3_remove_112 rfl ?_
            refine g_getN X cl_X0 1 (by decide) wf_X3_76 rfl (hs1.mem (by omega) (by omega)) hw_2 rfl dX3_remove_113 rfl ?_
            refine g_iconst X (z := 1) dX3_remove_116 rfl ?_
            refine g_isub X dX3_remove_117 rfl ?_
            refine g_putN X cl_X0 1 (by decide) wf_X3_76 rfl (hs1.mem (by omega) (by omega)) hw_2 rfl rfl rfl (Nat.le_of_ble_eq_true rfl) (fs' := [.int (iI (f (6 + 4 * y))), .int (iI (f (6 + 4 * y + 1) - 1)), .int (iI (f (6 + 4 * y + 2))), .int (iI (f (6 + 4 * y + 3)))]) rfl dX3_remove_118 rfl (fun M_5 hM_6 fr_7 => ?_)
            have hM_8 : M_5 (ς 0) = .inr (3, [.ref (ς 1), .ref (ς 2), .ref (ς 3), .int (iI (f 5)), .int (iI (f 4))]) := (fr_7 (ς 0) (hs1.ne (i := 0) (j := (4 + y)) (by omega) (by omega) (by omega) (by omega) (by omega))).trans hs1.obj
            have hM_9 : M_5 (ς 1) = cI ca 4 f := (fr_7 (ς 1) (hs1.ne (i := 1) (j := (4 + y)) (by omega) (by omega) (by omega) (by omega) (by omega))).trans hs1.set
            have hM_10 : M_5 (ς 2) = cR ca 5 4 (fun j => if j < 4 then some (ς (20 + j)) else none) := (fr_7 (ς 2) (hs1.ne (i := 2) (j := (4 + y)) (by omega) (by omega) (by omega) (by omega) (by omega))).trans hs1.strs
            have hM_11 : M_5 (ς 3) = cR ca 3 16 (fun j => if j < 16 then some (ς (4 + j)) else none) := (fr_7 (ς 3) (hs1.ne (i := 3) (j := (4 + y)) (by omega) (by omega) (by omega) (by omega) (by omega))).trans hs1.bks
            refine g_iinc X (lv' := [(3, .int (iI (y + 1))), (0, .ref (ς 0)), (1, .int (iI i))]) 2 rfl (by decide) rfl dX3_remove_121 rfl ?_
            refine g_goto X (n := 61) dX3_remove_124 (by decide) ?_
            refine g_lv (lv' := [(0, .ref (ς 0)), (1, .int (iI i)), (3, .int (iI (y + 1)))]) [1, 2, 0] rfl ?_
            have hz := hs1.putMaker (b := y) (v := f (6 + 4 * y + 1) - 1) (by omega) (by omega) hM_6 fr_7
            have hv : f (6 + 4 * y + 1) - 1 = ownV i (w (6 + 4 * y + 1)) := by rw [← hfy]; unfold ownV; rw [if_neg (by omega), if_pos (by omega)]
            exact ih _ _ _ (by omega) (by omega) (by rw [hv, hf, own_up _ (by omega)]) hz (hfr.trans (hout _ (by omega) (by omega) fr_7)) (by omega)
        · refine g_aload_n X 0 rfl dX3_remove_80 rfl ?_
          refine g_get X cl_X3 2 (by decide) wf_X3_23 rfl (hs1.mem (i := 0) (by decide) (by decide)) hs1.obj rfl dX3_remove_81 rfl ?_
          refine g_iload_n X 2 rfl dX3_remove_84 rfl ?_
          refine g_aald X (t := 3) rfl (hs1.mem (i := 3) (by decide) (by decide)) hs1.bks ⟨by omega, by omega⟩ (by decide) (if_pos (by omega)) dX3_remove_85 rfl ?_
          refine g_iconst X (z := -1) dX3_remove_86 rfl ?_
          refine g_putN X cl_X0 1 (by decide) wf_X3_76 rfl (hs1.mem (by omega) (by omega)) hw_2 rfl rfl rfl (Nat.le_of_ble_eq_true rfl) (fs' := [.int (iI (f (6 + 4 * y))), .int (iI (-1)), .int (iI (f (6 + 4 * y + 2))), .int (iI (f (6 + 4 * y + 3)))]) rfl dX3_remove_87 rfl (fun M_12 hM_13 fr_14 => ?_)
          have hM_15 : M_12 (ς 0) = .inr (3, [.ref (ς 1), .ref (ς 2), .ref (ς 3), .int (iI (f 5)), .int (iI (f 4))]) := (fr_14 (ς 0) (hs1.ne (i := 0) (j := (4 + y)) (by omega) (by omega) (by omega) (by omega) (by omega))).trans hs1.obj
          have hM_16 : M_12 (ς 1) = cI ca 4 f := (fr_14 (ς 1) (hs1.ne (i := 1) (j := (4 + y)) (by omega) (by omega) (by omega) (by omega) (by omega))).trans hs1.set
          have hM_17 : M_12 (ς 2) = cR ca 5 4 (fun j => if j < 4 then some (ς (20 + j)) else none) := (fr_14 (ς 2) (hs1.ne (i := 2) (j := (4 + y)) (by omega) (by omega) (by omega) (by omega) (by omega))).trans hs1.strs
          have hM_18 : M_12 (ς 3) = cR ca 3 16 (fun j => if j < 16 then some (ς (4 + j)) else none) := (fr_14 (ς 3) (hs1.ne (i := 3) (j := (4 + y)) (by omega) (by omega) (by omega) (by omega) (by omega))).trans hs1.bks
          refine g_goto X (n := 121) dX3_remove_90 (by decide) ?_
          refine g_iinc X (lv' := [(3, .int (iI (y + 1))), (0, .ref (ς 0)), (1, .int (iI i))]) 2 rfl (by decide) rfl dX3_remove_121 rfl ?_
          refine g_goto X (n := 61) dX3_remove_124 (by decide) ?_
          refine g_lv (lv' := [(0, .ref (ς 0)), (1, .int (iI i)), (3, .int (iI (y + 1)))]) [1, 2, 0] rfl ?_
          have hz := hs1.putMaker (b := y) (v := (-1)) (by omega) (by omega) hM_13 fr_14
          have hv : (-1) = ownV i (w (6 + 4 * y + 1)) := by rw [← hfy]; unfold ownV; rw [if_pos (by omega)]
          exact ih _ _ _ (by omega) (by omega) (by rw [hv, hf, own_up _ (by omega)]) hz (hfr.trans (hout _ (by omega) (by omega) fr_14)) (by omega)
  have lp1 : ∀ (n : Nat) (y : Int) (M1 : Mem) (f : Int → Option Nat) (hy0 : i ≤ y) (hy1 : y ≤ c 5 - 1) (hf : f = shq σ i y) (hM0 : M1 (σ 0) = oStore σ c) (hM2 : M1 (σ 2) = cR ca 5 4 f) (hfr : ∀ x, x ≠ σ 2 → M1 x = M x) (hm : c 5 - y < (n : Int)), G p l e (Rm 0 0 0) s m args below meth cod D A 4 Q 0 0 L M1 9 [(0, .ref (σ 0)), (1, .int (iI i)), (2, .ref (σ (20 + i))), (3, .int (iI y))] [] := by
    intro n
    induction n with
    | zero =>
      intro y M1 f hy0 hy1 hf hM0 hM2 hfr hm
      exfalso; omega
    | succ n ih =>
      intro y M1 f hy0 hy1 hf hM0 hM2 hfr hm
      have hw_19 : M1 (σ (20 + i)) = .inr (4, [.int (iI (c (70 + 10 * i))), .int (iI (c (70 + 10 * i + 1))), .int (iI (c (70 + 10 * i + 2))), .int (iI (c (70 + 10 * i + 3))), .int (iI (c (70 + 10 * i + 4))), .int (iI (c (70 + 10 * i + 5))), .int (iI (c (70 + 10 * i + 6))), .int (iI (c (70 + 10 * i + 7)))]) := ((hfr (σ (20 + i)) (hs.ne (i := (20 + i)) (j := 2) (by omega) (by omega) (by omega) (by omega) (by omega))).trans (hs.row (by omega) (by omega)))
      refine g_iload_n X 3 rfl dX3_remove_9 rfl ?_
      refine g_aload_n X 0 rfl dX3_remove_10 rfl ?_
      refine g_get X cl_X3 3 (by decide) wf_X3_52 rfl (hs.mem (i := 0) (by decide) (by decide)) hM0 rfl dX3_remove_11 rfl ?_
      refine g_iconst X (z := 1) dX3_remove_14 rfl ?_
      refine g_isub X dX3_remove_15 rfl ?_
      refine g_icmp_ge X ⟨by omega, by omega⟩ ⟨by omega, by omega⟩ (tgt := 39) dX3_remove_16 (by decide) rfl (fun h_20 => ?_) (fun h_20 => ?_)
      · refine g_aload_n X 0 rfl dX3_remove_39 rfl ?_
        refine g_dup X rfl dX3_remove_40 rfl ?_
        refine g_get X cl_X3 3 (by decide) wf_X3_52 rfl (hs.mem (i := 0) (by decide) (by decide)) hM0 rfl dX3_remove_41 rfl ?_
        refine g_iconst X (z := 1) dX3_remove_44 rfl ?_
        refine g_isub X dX3_remove_45 rfl ?_
        refine g_put X cl_X3 3 (by decide) wf_X3_52 rfl (hs.mem (i := 0) (by decide) (by decide)) hM0 rfl rfl rfl (Nat.le_of_ble_eq_true rfl) (fs' := [.ref (σ 1), .ref (σ 2), .ref (σ 3), .int (iI (c 5 - 1)), .int (iI (c 4))]) rfl dX3_remove_46 rfl (fun M_21 hM_22 fr_23 => ?_)
        have hM_24 : M_21 (σ 2) = cR ca 5 4 f := (fr_23 (σ 2) (hs.ne (i := 2) (j := 0) (by omega) (by omega) (by omega) (by omega) (by omega))).trans hM2
        have hM_25 : M_21 (σ (20 + i)) = .inr (4, [.int (iI (c (70 + 10 * i))), .int (iI (c (70 + 10 * i + 1))), .int (iI (c (70 + 10 * i + 2))), .int (iI (c (70 + 10 * i + 3))), .int (iI (c (70 + 10 * i + 4))), .int (iI (c (70 + 10 * i + 5))), .int (iI (c (70 + 10 * i + 6))), .int (iI (c (70 + 10 * i + 7)))]) := (fr_23 (σ (20 + i)) (hs.ne (i := (20 + i)) (j := 0) (by omega) (by omega) (by omega) (by omega) (by omega))).trans hw_19
        refine g_aload_n X 0 rfl dX3_remove_49 rfl ?_
        refine g_get X cl_X3 1 (by decide) wf_X3_17 rfl (hs.mem (i := 0) (by decide) (by decide)) hM_22 rfl dX3_remove_50 rfl ?_
        refine g_aload_n X 0 rfl dX3_remove_53 rfl ?_
        refine g_get X cl_X3 3 (by decide) wf_X3_52 rfl (hs.mem (i := 0) (by decide) (by decide)) hM_22 rfl dX3_remove_54 rfl ?_
        refine g_aload_n X 2 rfl dX3_remove_57 rfl ?_
        refine g_aast X (t := 5) rfl (ci := 4) rfl (hs.mem (i := 2) (by decide) (by decide)) hM_24 (hs.mem (by omega) (by omega)) hM_25 ⟨by omega, by omega⟩ (by decide) dX3_remove_58 rfl (fun M_26 hM_27 fr_28 => ?_)
        have hM_29 : M_26 (σ (20 + i)) = .inr (4, [.int (iI (c (70 + 10 * i))), .int (iI (c (70 + 10 * i + 1))), .int (iI (c (70 + 10 * i + 2))), .int (iI (c (70 + 10 * i + 3))), .int (iI (c (70 + 10 * i + 4))), .int (iI (c (70 + 10 * i + 5))), .int (iI (c (70 + 10 * i + 6))), .int (iI (c (70 + 10 * i + 7)))]) := (fr_28 (σ (20 + i)) (hs.ne (i := (20 + i)) (j := 2) (by omega) (by omega) (by omega) (by omega) (by omega))).trans hM_25
        have hM_30 : M_26 (σ 0) = .inr (3, [.ref (σ 1), .ref (σ 2), .ref (σ 3), .int (iI (c 5 - 1)), .int (iI (c 4))]) := (fr_28 (σ 0) (hs.ne (i := 0) (j := 2) (by omega) (by omega) (by omega) (by omega) (by omega))).trans hM_22
        refine g_iconst X (z := 0) dX3_remove_59 rfl ?_
        refine g_istore_n X (lv' := [(3, .int (iI 0)), (0, .ref (σ 0)), (1, .int (iI i)), (2, .ref (σ (20 + i)))]) (by decide) rfl dX3_remove_60 rfl ?_
        have hz : isSt ca L M_26 ς w := by rw [hς, hw]; exact hs.rot hi.1 hi.2 h5 (hM_27.trans (by rw [hf, show y = c 5 - 1 from by omega])) hM_30 (fun x h0 h2 => ((fr_28 x h2).trans ((fr_23 x h0).trans (hfr x h2))))
        have ho : outS σ M M_26 := fun x hx => (fun x h0 h2 => ((fr_28 x h2).trans ((fr_23 x h0).trans (hfr x h2)))) x (hx 0 (by decide) (by decide)) (hx 2 (by decide) (by decide))
        refine g_lv (lv' := [(0, .ref (ς 0)), (1, .int (iI i)), (3, .int (iI 0))]) [1, 2, 0] (by rw [e0]; rfl) ?_
        exact lp2 20 0 _ _ (by decide) (by decide) (by rw [own_0]) hz ho (by decide)
      · refine g_aload_n X 0 rfl dX3_remove_19 rfl ?_
        refine g_get X cl_X3 1 (by decide) wf_X3_17 rfl (hs.mem (i := 0) (by decide) (by decide)) hM0 rfl dX3_remove_20 rfl ?_
        refine g_iload_n X 3 rfl dX3_remove_23 rfl ?_
        refine g_aload_n X 0 rfl dX3_remove_24 rfl ?_
        refine g_get X cl_X3 1 (by decide) wf_X3_17 rfl (hs.mem (i := 0) (by decide) (by decide)) hM0 rfl dX3_remove_25 rfl ?_
        refine g_iload_n X 3 rfl dX3_remove_28 rfl ?_
        refine g_iconst X (z := 1) dX3_remove_29 rfl ?_
        refine g_iadd X dX3_remove_30 rfl ?_
        refine g_aald X (t := 5) rfl (hs.mem (i := 2) (by decide) (by decide)) hM2 ⟨by omega, by omega⟩ (by decide) (by rw [hf]; exact shq_hi σ (by omega) (by omega)) dX3_remove_31 rfl ?_
        have hw_31 : M1 (σ (20 + (y + 1))) = .inr (4, [.int (iI (c (70 + 10 * (y + 1)))), .int (iI (c (70 + 10 * (y + 1) + 1))), .int (iI (c (70 + 10 * (y + 1) + 2))), .int (iI (c (70 + 10 * (y + 1) + 3))), .int (iI (c (70 + 10 * (y + 1) + 4))), .int (iI (c (70 + 10 * (y + 1) + 5))), .int (iI (c (70 + 10 * (y + 1) + 6))), .int (iI (c (70 + 10 * (y + 1) + 7)))]) := ((hfr (σ (20 + (y + 1))) (hs.ne (i := (20 + (y + 1))) (j := 2) (by omega) (by omega) (by omega) (by omega) (by omega))).trans (hs.row (by omega) (by omega)))
        refine g_aast X (t := 5) rfl (ci := 4) rfl (hs.mem (i := 2) (by decide) (by decide)) hM2 (hs.mem (by omega) (by omega)) hw_31 ⟨by omega, by omega⟩ (by decide) dX3_remove_32 rfl (fun M_32 hM_33 fr_34 => ?_)
        have hM_35 : M_32 (σ 0) = .inr (3, [.ref (σ 1), .ref (σ 2), .ref (σ 3), .int (iI (c 5)), .int (iI (c 4))]) := (fr_34 (σ 0) (hs.ne (i := 0) (j := 2) (by omega) (by omega) (by omega) (by omega) (by omega))).trans hM0
        have hM_36 : M_32 (σ (20 + i)) = .inr (4, [.int (iI (c (70 + 10 * i))), .int (iI (c (70 + 10 * i + 1))), .int (iI (c (70 + 10 * i + 2))), .int (iI (c (70 + 10 * i + 3))), .int (iI (c (70 + 10 * i + 4))), .int (iI (c (70 + 10 * i + 5))), .int (iI (c (70 + 10 * i + 6))), .int (iI (c (70 + 10 * i + 7)))]) := (fr_34 (σ (20 + i)) (hs.ne (i := (20 + i)) (j := 2) (by omega) (by omega) (by omega) (by omega) (by omega))).trans hw_19
        have hM_37 : M_32 (σ (20 + (y + 1))) = .inr (4, [.int (iI (c (70 + 10 * (y + 1)))), .int (iI (c (70 + 10 * (y + 1) + 1))), .int (iI (c (70 + 10 * (y + 1) + 2))), .int (iI (c (70 + 10 * (y + 1) + 3))), .int (iI (c (70 + 10 * (y + 1) + 4))), .int (iI (c (70 + 10 * (y + 1) + 5))), .int (iI (c (70 + 10 * (y + 1) + 6))), .int (iI (c (70 + 10 * (y + 1) + 7)))]) := (fr_34 (σ (20 + (y + 1))) (hs.ne (i := (20 + (y + 1))) (j := 2) (by omega) (by omega) (by omega) (by omega) (by omega))).trans hw_31
        refine g_iinc X (lv' := [(3, .int (iI (y + 1))), (0, .ref (σ 0)), (1, .int (iI i)), (2, .ref (σ (20 + i)))]) 3 rfl (by decide) rfl dX3_remove_33 rfl ?_
        refine g_goto X (n := 9) dX3_remove_36 (by decide) ?_
        refine g_lv (lv' := [(0, .ref (σ 0)), (1, .int (iI i)), (2, .ref (σ (20 + i))), (3, .int (iI (y + 1)))]) [1, 2, 3, 0] rfl ?_
        exact ih _ _ _ (by omega) (by omega) (by rw [hf, shq_up σ (by omega) (by omega)]) hM_35 hM_33 (fun x hx => (fr_34 x hx).trans (hfr x hx)) (by omega)
  refine g_aload_n X 0 rfl dX3_remove_0 rfl ?_
  refine g_get X cl_X3 1 (by decide) wf_X3_17 rfl (hs.mem (i := 0) (by decide) (by decide)) hs.obj rfl dX3_remove_1 rfl ?_
  refine g_iload_n X 1 rfl dX3_remove_4 rfl ?_
  refine g_aald X (t := 5) rfl (hs.mem (i := 2) (by decide) (by decide)) hs.strs ⟨by omega, by omega⟩ (by decide) (if_pos (by omega)) dX3_remove_5 rfl ?_
  have hw_38 : M (σ (20 + i)) = .inr (4, [.int (iI (c (70 + 10 * i))), .int (iI (c (70 + 10 * i + 1))), .int (iI (c (70 + 10 * i + 2))), .int (iI (c (70 + 10 * i + 3))), .int (iI (c (70 + 10 * i + 4))), .int (iI (c (70 + 10 * i + 5))), .int (iI (c (70 + 10 * i + 6))), .int (iI (c (70 + 10 * i + 7)))]) := (hs.row (by omega) (by omega))
  refine g_astore_n X (lv' := [(2, .ref (σ (20 + i))), (0, .ref (σ 0)), (1, .int (iI i))]) (by decide) rfl dX3_remove_6 rfl ?_
  refine g_iload_n X 2 rfl dX3_remove_7 rfl ?_
  refine g_istore_n X (lv' := [(3, .int (iI i)), (2, .ref (σ (20 + i))), (0, .ref (σ 0)), (1, .int (iI i))]) (by decide) rfl dX3_remove_8 rfl ?_
  refine g_lv (lv' := [(0, .ref (σ 0)), (1, .int (iI i)), (2, .ref (σ (20 + i))), (3, .int (iI i))]) [2, 3, 1, 0] rfl ?_
  exact lp1 9 _ _ _ (by omega) (by omega) (shq_0 σ i).symm hs.obj hs.strs (fun _ _ => rfl) (by omega)
