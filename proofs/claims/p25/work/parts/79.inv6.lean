/-! ===== the law's start and end: what the calls answer there ===== -/
theorem wl_none {g : Int → Int} (h : g 5 ≤ 0) : wlG g = 0 := by
  unfold wlG
  rw [show (g 5).toNat = 0 by omega]; rfl
theorem PI_S0 : PI S0.1 := by
  have z : ∀ k : Int, 2 ≤ k → S0.1 k = 0 := fun k hk => by
    show up (up z0 0 8) 1 4 k = 0
    rw [up_ne _ _ (by omega), up_ne _ _ (by omega)]; rfl
  have z1 : S0.1 1 = 4 := rfl
  have z00 : S0.1 0 = 8 := rfl
  refine ⟨fun i i0 i1 => by rw [z 5 (by decide)] at i1; omega, fun b b0 b1 => ?_, ?_⟩
  · unfold PBk
    rw [z (6 + 4 * b) (by omega), z (6 + 4 * b + 2) (by omega), z (6 + 4 * b + 3) (by omega), z 4 (by decide), z 2 (by decide), z1]
    exact ⟨by decide, by decide, by decide, fun h => absurd h (by decide)⟩
  · unfold PSm ofG
    rw [z 5 (by decide), z00]
    decide +kernel
theorem PA_S0 : PA 0 S0 := ⟨wf_S0, PI_S0, by decide⟩
theorem start_ok {S1 S2 : AS} (e1 : S1 = opRun S0 1) (e2 : S2 = opReset S1) : (anUndo S0 = -5 ∧ opUndo S0 = S0) ∧ (anRestore S0 0 = -5 ∧ opRestore S0 0 = S0) ∧ roC 20000 S0.1 = 0 ∧ anMap S0 0 = 0 ∧ anMap S0 1 = 0 ∧ anRun S0 1 = 0 ∧ WfA S1 ∧ anReset S1 = 0 ∧ PA 0 S2 ∧ S2.2.2.2.1 0 = 0 := by
  have z5 : S0.1 5 = 0 := rfl
  have m : ∀ k : Int, mpC S0.1 k = 0 := fun k => ro_zero (by rw [wl_none]; (· decide); rw [bga_low (by decide) (by decide), up_ne _ _ (by decide), z5]; decide) _
  have b : bmF S0.1 3 = (0, 0) := by
    simp only [bmF, m]; decide
  obtain ⟨r1, r2, r3, r4, r5, -, ⟨r6, r7⟩, -⟩ := act_run PA_S0 (v := 1) (by decide) (by decide) e1
  rw [z5] at r5 r7
  have w : anReset S1 = 0 := wl_none (by rw [bga_low (by decide) (by decide), r5]; decide)
  have f1 : S2.1 = bgaG S1.1 := by rw [e2]; rfl
  have f2 : S2.2.2.2.1 = S1.2.2.2.1 := by rw [e2]; rfl
  refine ⟨⟨if_pos rfl, if_pos rfl⟩, ⟨?_, ?_⟩, ro_zero (by rw [wl_none (by rw [z5]; decide)]; decide) _, ?_, ?_, by rw [r1]; omega, r2.1, w, ⟨by rw [e2]; exact reset_wf r2.1, by rw [f1]; exact bga_PI r2.S r2.I.L, by rw [f1, bga_cyc]; decide⟩, by rw [f2, r3.2]; rfl⟩
  · rw [anRestore, if_pos (by decide), if_pos (show S0.2.2.2.1 0 = 0 from rfl)]
  · rw [opRestore, if_neg (fun q => q.2 rfl)]
  · rw [anMap, if_pos (by decide), if_pos rfl, b]
  · rw [anMap, if_pos (by decide), if_neg (by decide), b]
theorem it_shift (g : Int → Int) : ∀ k : Nat, itG (cycG g) k = cycG (itG g k)
  | 0 => rfl
  | k + 1 => by simp only [itG]; rw [it_shift g k]
theorem it_add (g : Int → Int) (a : Nat) : ∀ b : Nat, itG g (a + b) = itG (itG g a) b ∧ itR g (a + b) = itR g a + itR (itG g a) b
  | 0 => ⟨rfl, by simp only [itR, Nat.add_zero]; omega⟩
  | b + 1 => by
    obtain ⟨h1, h2⟩ := it_add g a b
    have e1 : itG g (a + (b + 1)) = cycG (itG g (a + b)) := rfl
    have e2 : itR g (a + (b + 1)) = itR g (a + b) + cycR (itG g (a + b)) := rfl
    rw [e1, e2, h2, h1]
    refine ⟨rfl, ?_⟩
    have e3 : itR (itG g a) (b + 1) = itR (itG g a) b + cycR (itG (itG g a) b) := rfl
    omega
theorem ro_before : ∀ (n : Nat) (g : Int → Int) (j : Nat), (j : Int) < roC n g → 0 < wlG (itG g j)
  | 0, g, j, h => by simp only [roC] at h; omega
  | n + 1, g, j, h => by
    simp only [roC] at h
    by_cases hw : wlG g > 0
    · rw [if_pos hw] at h
      cases j with
      | zero => exact hw
      | succ j =>
        have := ro_before n (cycG g) j (by omega)
        rw [it_shift] at this
        exact this
    · rw [if_neg hw] at h; omega
theorem ro_after : ∀ (n : Nat) (g : Int → Int) (w : Int), Inv g → g 4 + n ≤ 1000000 → 0 ≤ w → (∀ b, 0 ≤ b → b < 16 → g (6 + 4 * b) - g 4 ≤ w) → 13 * wlG g + w ≤ n → wlG (itG g (roC n g).toNat) ≤ 0
  | 0, g, w, hI, h4, hw, hB, hn => by
    simp only [roC]
    show wlG g ≤ 0
    omega
  | n + 1, g, w, hI, h4, hw, hB, hn => by
    by_cases hl : wlG g > 0
    · obtain ⟨w2, w20, hB2, hm⟩ := cyc_pot hI (by omega) hw hB hl
      obtain ⟨i1, ⟨-, -, -, -, i4, -⟩, -, -⟩ := cyc_ok hI (by omega)
      have := ro_after n (cycG g) w2 i1 (by omega) w20 hB2 (by omega)
      have r := ro_rng (g := cycG g) n
      simp only [roC]
      rw [if_pos hl, show (1 + roC n (cycG g)).toNat = (roC n (cycG g)).toNat + 1 by omega]
      simp only [itG]
      rw [← it_shift]
      exact this
    · simp only [roC]
      rw [if_neg hl]
      show wlG g ≤ 0
      omega
theorem rest_ok {T : Int} {S : AS} (h : PA T S) (hT : T ≤ 70000) {r : Int} (e : r = roC 20000 S.1) : (0 ≤ r ∧ r ≤ 20000) ∧ (r = 0 ↔ wlG S.1 = 0) ∧ (∀ j : Nat, (j : Int) < r → 0 < wlG (itG S.1 j)) ∧ itR S.1 r.toNat = wlG S.1 ∧ wlG (itG S.1 r.toNat) = 0 := by
  have h4 := h.2.2
  have hr := ro_rng (g := S.1) 20000
  have hw := wlG_nn h.I
  have hb := ro_before 20000 S.1
  have ha := ro_after 20000 S.1 12 h.I (by omega) (by decide) (fun b b0 b1 => by have := (h.I.2.1 b b0 b1).1; omega) (by omega)
  rw [← e] at hr hb ha
  obtain ⟨i1, -⟩ := itG_ok h.I r.toNat (by omega)
  obtain ⟨-, -, -, -, p5⟩ := it_PI h.I h.P r.toNat (by omega)
  have hz := wlG_nn i1
  refine ⟨by omega, ⟨fun q => ?_, fun q => ?_⟩, hb, by omega, by omega⟩
  · rw [q] at ha
    have : wlG S.1 ≤ 0 := ha
    omega
  · rw [e]; exact ro_zero (by omega) _
/-- the state behind save(1), where slot 0 was never saved -/
def svS (S : AS) : AS := (S.1, S.2.1, fun k => S.1 (k - 110), up S.2.2.2.1 1 1, S.2.2.2.2.1, S.2.2.2.2.2.1, S.2.2.2.2.2.2)
theorem blk_sv (g : Int → Int) : blk (110 * 1) (fun k => g (k - 110)) = g := funext fun k => by
  show g (110 * 1 + k - 110) = g k
  rw [show 110 * 1 + k - 110 = k by omega]
theorem act_save {T : Int} {S : AS} (h : PA T S) (h0 : S.2.2.2.1 0 = 0) : anSave S 1 = S.1 4 ∧ (∀ {ca : Nat → ClassId} {L : List Nat} {M : Mem} {o : Nat}, OB ca L M o (opSave S 1) → OB ca L M o (svS S)) ∧ PA T (svS S) := by
  have s5 := h.S.2.2.2.2.2
  have e : opSave S 1 = (S.1, S.2.1, pbl 110 (110 * 1) S.2.2.1 S.1, up S.2.2.2.1 1 1, S.2.2.2.2.1, S.2.2.2.2.2.1, S.2.2.2.2.2.2) := if_pos (by decide)
  refine ⟨if_pos (by decide), fun {ca L M o} hO => ?_, ⟨?_, h.P, h.2.2⟩⟩
  · rw [e] at hO
    refine hO.one (g := S.1) ?_ s5.2 (fun k k0 k1 => ?_)
    · show up S.2.2.2.1 1 1 0 = 0
      rw [up_ne _ _ (by decide)]; exact h0
    · show pbl 110 (110 * 1) S.2.2.1 S.1 (110 + k) = S.1 k
      rw [pbl, if_pos (by omega), show 110 + k - 110 * 1 = k by omega]
  · obtain ⟨w1, w2, w3, w4, w5, w6⟩ := h.1
    refine ⟨w1, w2, w3, w4, w5, fun k k0 k1 => ?_⟩
    rcases (by omega : k = 0 ∨ k = 1) with rfl | rfl
    · have e0 : (svS S).2.2.2.1 0 = 0 := by
        show up S.2.2.2.1 1 1 0 = 0
        rw [up_ne _ _ (by decide)]; exact h0
      exact ⟨Or.inl e0, fun q => absurd e0 q⟩
    · exact ⟨Or.inr (show up S.2.2.2.1 1 1 1 = 1 from up_eq _ _ _), fun _ => by
        show WfG (blk (110 * 1) (fun k => S.1 (k - 110)))
        rw [blk_sv]; exact w1⟩
theorem act_undo {S S2 : AS} (hW : WfA S) (h1 : 1 ≤ S.2.2.2.2.2.2) (e : S2 = opUndo S) : (0 ≤ anUndo S ∧ anUndo S ≤ 5) ∧ KS S S2 ∧ WfA S2 := by
  have hs := hW.2.2.1
  have e2 : anUndo S = S.2.2.2.2.2.2 - 1 := if_neg (by omega)
  refine ⟨by omega, ?_, by rw [e]; exact undo_wf hW⟩
  rw [e, opUndo, if_neg (by omega)]
  exact ⟨rfl, rfl⟩
theorem act_restore {S S2 : AS} {g : Int → Int} (hW : WfA S) (hsa : S.2.2.1 = fun k => g (k - 110)) (hz : S.2.2.2.1 1 = 1) (e : S2 = opRestore S 1) : anRestore S 1 = g 4 ∧ S2.1 = g ∧ WfA S2 ∧ 1 ≤ S2.2.2.2.2.2.2 := by
  have hs := hW.2.2.1
  have e2 : S2 = chg S (blk (110 * 1) S.2.2.1) := by
    rw [e, opRestore, if_pos ⟨by decide, by rw [hz]; decide⟩]
  refine ⟨?_, ?_, by rw [e]; exact restore_wf hW 1, ?_⟩
  · rw [anRestore, if_pos (by decide), if_neg (by rw [hz]; decide), hsa]
    show g (110 * 1 + 4 - 110) = g 4
    rfl
  · rw [e2]
    show blk (110 * 1) S.2.2.1 = g
    rw [hsa, blk_sv]
  · have e3 : S2.2.2.2.2.2.2 = recN S.2.2.2.2.2.2 := by rw [e2]; rfl
    rw [e3]
    unfold recN recT
    split <;> omega
