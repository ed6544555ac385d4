/-! ===== the numbers of a pad keep their bounds ===== -/
theorem nmO_bnd {pa : Int → Int} {len hi : Int} : ∀ (n : Nat) (v a : Int), 0 ≤ v → v ≤ hi → v ≤ (nmO pa len hi n v a).1 ∧ (nmO pa len hi n v a).1 ≤ hi
  | 0, v, a, h0, h1 => by simp only [nmO]; omega
  | n + 1, v, a, h0, h1 => by
    simp only [nmO]
    split
    · rename_i h
      have := nmO_bnd (pa := pa) (len := len) (hi := hi) n (10 * v + pa a - 48) (a + 1) (by omega) (by omega)
      omega
    · dsimp only; omega
theorem nmV_bnd {pa : Int → Int} {len a hi lo : Int} (hh : 9 ≤ hi) (hl : lo = 0 ∨ lo = 1) (hT : nmT pa len a lo) : lo ≤ nmV pa len a hi ∧ nmV pa len a hi ≤ hi := by
  have h1 : 48 + lo ≤ pa a ∧ pa a ≤ 57 := by
    unfold nmT isSg at hT
    split at hT <;> omega
  have := nmO_bnd (pa := pa) (len := len) (hi := hi) 60 (pa a - 48) (a + 1) (by omega) (by omega)
  unfold nmV; omega
def PR (s : PS) : Prop := 0 ≤ s.2.1 ∧ 5 * s.2.1 ≤ s.2.2 ∧ s.2.2 ≤ 60 ∧ ∀ k, 0 ≤ k → k < s.2.1 → okAdd (s.1 (3 * k)) (s.1 (3 * k + 1)) (s.1 (3 * k + 2))
theorem rs_old {pa : Int → Int} {len : Int} (s : PS) {k : Int} (hk : k < 3 * s.2.1) : (rsS pa len s).1 k = s.1 k := by
  unfold rsS
  split
  · dsimp only; rw [up_ne _ _ (by omega)]
  · split
    · dsimp only; rw [up_ne _ _ (by omega)]
    · split
      · dsimp only; rw [up_ne _ _ (by omega), up_ne _ _ (by omega)]
      · split
        · dsimp only; rw [up_ne _ _ (by omega), up_ne _ _ (by omega)]
        · split
          · dsimp only; rw [up_ne _ _ (by omega), up_ne _ _ (by omega), up_ne _ _ (by omega)]
          · dsimp only; rw [up_ne _ _ (by omega), up_ne _ _ (by omega), up_ne _ _ (by omega)]
theorem up3 (f : Int → Int) (t v1 v2 v3 : Int) : up (up (up f (t + 0) v1) (t + 1) v2) (t + 2) v3 t = v1 ∧ up (up (up f (t + 0) v1) (t + 1) v2) (t + 2) v3 (t + 1) = v2 ∧ up (up (up f (t + 0) v1) (t + 1) v2) (t + 2) v3 (t + 2) = v3 :=
  ⟨by rw [up_ne _ _ (by omega), up_ne _ _ (by omega), Int.add_zero, up_eq], by rw [up_ne _ _ (by omega), up_eq], by rw [up_eq]⟩
theorem rs_ok {pa : Int → Int} {len : Int} (hlen : len ≤ 60) (s : PS) (h : PR s) : PR (rsS pa len s) := by
  obtain ⟨h0, h1, h2, h3⟩ := h
  obtain ⟨r0, r1, r2, r3, r4⟩ := rsS_rng (pa := pa) hlen s (by omega) h2 h0
  by_cases e : rsT pa len s.2.2
  · obtain ⟨t1, t2⟩ := r3 e
    refine ⟨r0, by omega, r2, fun k k0 k1 => ?_⟩
    by_cases q : k < s.2.1
    · rw [rs_old s (by omega), rs_old s (by omega), rs_old s (by omega)]; exact h3 k k0 q
    · have hk : k = s.2.1 := by omega
      subst hk
      obtain ⟨c1, c2, c3, c4, c5⟩ := e
      have a1 := nmV_bnd (hi := 4095) (by decide) (Or.inl rfl) c1
      have a2 := nmV_bnd (hi := 1023) (by decide) (Or.inl rfl) c3
      have a3 := nmV_bnd (hi := 200) (by decide) (Or.inr rfl) c5
      unfold rsS
      rw [if_neg (not_not_intro c1), if_neg (not_not_intro c2), if_neg (not_not_intro c3), if_neg (not_not_intro c4), if_neg (not_not_intro c5)]
      dsimp only
      obtain ⟨x0, x1, x2⟩ := up3 s.1 (3 * s.2.1) (nmV pa len s.2.2 4095) (nmV pa len (rA1 pa len s.2.2 + 1) 1023) (nmV pa len (rA3 pa len s.2.2 + 1) 200)
      rw [x0, x1, x2]
      exact ⟨a1, a2, a3⟩
  · have t1 := r4 e
    exact ⟨r0, by omega, r2, fun k k0 k1 => by rw [rs_old s (by omega), rs_old s (by omega), rs_old s (by omega)]; exact h3 k k0 (by omega)⟩
theorem fo_pr {pa : Int → Int} {len : Int} (hlen : len ≤ 60) : ∀ (n : Nat) (x : Bool × PS), PR x.2 → PR (foL pa len n x).2
  | 0, x, h => h
  | n + 1, x, h => by
    simp only [foL]
    split
    · refine fo_pr hlen n _ ?_
      unfold foN
      split
      · rename_i c
        obtain ⟨h0, h1, h2, h3⟩ := h
        exact rs_ok hlen (x.2.1, x.2.2.1, x.2.2.2 + 1) ⟨h0, by dsimp only; omega, by have := c.1; dsimp only; omega, h3⟩
      · exact h
    · exact h
theorem fo_ok {pa : Int → Int} {len : Int} (hlen : len ≤ 60) : PR (foP pa len rd0).2 :=
  fo_pr hlen 60 _ (rs_ok hlen (rd0, 0, 0) ⟨Int.le_refl 0, by decide, by decide, fun k k0 k1 => by dsimp only at k1; omega⟩)
theorem foK_rng {pa : Int → Int} {len : Int} (hlen : len ≤ 60) : 0 ≤ foK pa len ∧ foK pa len ≤ 12 := by
  obtain ⟨h0, h1, h2, -⟩ := fo_ok (pa := pa) hlen
  unfold foK; omega
theorem foR_ok {pa : Int → Int} {len : Int} (hlen : len ≤ 60) {k : Int} (h0 : 0 ≤ k) (h1 : k < foK pa len) : okAdd (foR pa len (3 * k)) (foR pa len (3 * k + 1)) (foR pa len (3 * k + 2)) := (fo_ok hlen).2.2.2 k h0 h1
/-! ===== what stays true of a state ===== -/
theorem WfG.ext {g h : Int → Int} (hW : WfG g) (e : ∀ k, 0 ≤ k → k < 110 → h k = g k) : WfG h := by
  obtain ⟨⟨hS, hB, hR⟩, hZ, h4⟩ := hW
  have s0 := hS.1
  have s5 := hS.2.2.2.2.2
  have e0 := e 0 (by decide) (by decide)
  have e4 := e 4 (by decide) (by decide)
  have e5 := e 5 (by decide) (by decide)
  refine ⟨⟨?_, fun b b0 b1 => ?_, fun i i0 i1 => ?_⟩, fun b b0 b1 => ?_, by rw [e4]; exact h4⟩
  · unfold InvS
    rw [e0, e 1 (by decide) (by decide), e 2 (by decide) (by decide), e 3 (by decide) (by decide), e4, e5]; exact hS
  · rw [e (6 + 4 * b) (by omega) (by omega), e (6 + 4 * b + 1) (by omega) (by omega), e4]; exact hB b b0 b1
  · rw [e5] at i1
    unfold rowI
    rw [e _ (by omega) (by omega), e _ (by omega) (by omega), e _ (by omega) (by omega), e _ (by omega) (by omega), e _ (by omega) (by omega), e _ (by omega) (by omega)]
    exact hR i i0 i1
  · rw [e0] at b0
    rw [e _ (by omega) (by omega)]; exact hZ b b0 b1
theorem askC_z {g : Int → Int} (hS : InvS g) {i b : Int} (hi : 0 ≤ i) (b0 : g 0 ≤ b) (b1 : b < 16) : askC g i (6 + 4 * b) = g (6 + 4 * b) := by
  have s0 := hS.1
  have hb := bkG_rng hS (g (70 + 10 * i + 4))
  unfold askC
  split
  · rw [asks_free hS hi (by omega) b1, if_neg (fun q => by have := q.1; omega)]
  · rfl
theorem cycF_z {g : Int → Int} (hI : Inv g) {first b : Int} (hf : 0 ≤ first) (b0 : g 0 ≤ b) (b1 : b < 16) : ∀ k : Nat, (k = 0 ∨ 0 < g 5) → (cycF g first (g 5) k).1 (6 + 4 * b) = g (6 + 4 * b)
  | 0, _ => rfl
  | k + 1, h => by
    have h5 : 0 < g 5 := h.elim (fun q => by omega) id
    obtain ⟨a, c, -⟩ := cycF_ok hI hf k (Or.inr h5)
    have m1 := Int.emod_nonneg (first + (k : Int)) (by omega : g 5 ≠ 0)
    simp only [cycF]
    rw [askC_z a.1 m1 (by rw [c 0 (by decide)]; exact b0) b1]
    exact cycF_z hI hf b0 b1 k (Or.inr h5)
theorem cyc_z {g : Int → Int} (hI : Inv g) {b : Int} (b0 : g 0 ≤ b) (b1 : b < 16) : cycG g (6 + 4 * b) = g (6 + 4 * b) := by
  have s0 := hI.1.1
  have s5 := hI.1.2.2.2.2.2
  unfold cycG
  rw [up_ne _ _ (by omega)]
  exact cycF_z hI (fstG_rng hI.1).1 b0 b1 _ (by omega)
theorem it_wf {g : Int → Int} (hW : WfG g) : ∀ k : Nat, g 4 + k ≤ 99999 → WfG (itG g k) ∧ itG g k 0 = g 0
  | 0, _ => ⟨hW, rfl⟩
  | k + 1, h => by
    obtain ⟨⟨hI, hZ, h4⟩, e0⟩ := it_wf hW k (by omega)
    obtain ⟨-, e4, -⟩ := itG_ok hW.1 k (by omega)
    obtain ⟨d, f, -⟩ := cyc_ok hI (by omega)
    simp only [itG]
    refine ⟨⟨d, fun b b0 b1 => ?_, by omega⟩, f.1.trans e0⟩
    rw [f.1] at b0
    rw [cyc_z hI b0 b1]; exact hZ b b0 b1
theorem puts_wf {g : Int → Int} (hW : WfG g) (h5 : g 5 < 4) {a b z : Int} (ok : okAdd a b z) : WfG (putsG g a b z) := by
  obtain ⟨hI, hZ, h4⟩ := hW
  have s0 := hI.1.1
  have s5 := hI.1.2.2.2.2.2
  have gl : ∀ k, k < 70 → k ≠ 5 → putsG g a b z k = g k := fun k h h5' => by rw [putsG, up_ne _ _ h5', bgn_out _ (by omega), up_ne _ _ (by omega), up_ne _ _ (by omega), up_ne _ _ (by omega)]
  refine ⟨puts_inv hI h5 ok, fun j j0 j1 => ?_, by rw [gl 4 (by decide) (by decide)]; exact h4⟩
  rw [gl 0 (by decide) (by decide)] at j0
  rw [gl _ (by omega) (by omega)]; exact hZ j j0 j1
theorem drop_wf {g : Int → Int} (hW : WfG g) {i : Int} (i0 : 0 ≤ i) (i1 : i < g 5) : WfG (dropG g i) := by
  obtain ⟨hI, hZ, h4⟩ := hW
  have s0 := hI.1.1
  have gl : ∀ k, k < 70 → k ≠ 5 → ¬ (k - 7) % 4 = 0 → dropG g i k = g k := fun k h h5' h7 => by rw [dropG, up_ne _ _ h5', own_out _ (by omega), shr_out _ (by omega)]
  refine ⟨drop_inv hI i0 i1, fun j j0 j1 => ?_, by rw [gl 4 (by decide) (by decide) (by decide)]; exact h4⟩
  rw [gl 0 (by decide) (by decide) (by decide)] at j0
  rw [gl _ (by omega) (by omega) (by omega)]; exact hZ j j0 j1
theorem stride_wf {g : Int → Int} (hW : WfG g) {i v : Int} (i0 : 0 ≤ i) (i1 : i < g 5) (hv : 0 ≤ v ∧ v ≤ 1023) : WfG (strG g i v) := by
  obtain ⟨hI, hZ, h4⟩ := hW
  have s0 := hI.1.1
  have gl : ∀ k, k < 70 → strG g i v k = g k := fun k h1 => by rw [strG, up_ne _ _ (by omega), up_ne _ _ (by omega)]
  refine ⟨stride_inv hI i0 i1 hv, fun j j0 j1 => ?_, by rw [gl 4 (by decide)]; exact h4⟩
  rw [gl 0 (by decide)] at j0
  rw [gl _ (by omega)]; exact hZ j j0 j1
theorem rd_wf {g rd : Int → Int} (hW : WfG g) {t : Int} (ht : g 5 + t ≤ 4) (ok : ∀ k, 0 ≤ k → k < t → okAdd (rd (3 * k)) (rd (3 * k + 1)) (rd (3 * k + 2))) : ∀ k : Nat, (k : Int) ≤ t → WfG (rdS g rd k)
  | 0, _ => hW
  | k + 1, h => by
    have e := rdS_5 g rd k
    simp only [rdS]
    exact puts_wf (rd_wf hW ht ok k (by omega)) (by omega) (ok k (by omega) (by omega))
theorem rec_wf {st : Int} {be g : Int → Int} (hst : 0 ≤ st ∧ st ≤ 6) (hb : ∀ j, 0 ≤ j → j < st → WfG (blk (110 * j) be)) (hg : WfG g) : (0 ≤ recN st ∧ recN st ≤ 6) ∧ ∀ j, 0 ≤ j → j < recN st → WfG (blk (110 * j) (recB st be g)) := by
  by_cases e : st = 6
  · have t : recT st = 5 := by rw [recT, if_pos e]; omega
    refine ⟨by rw [recN, t]; decide, fun j j0 j1 => ?_⟩
    rw [recN, t] at j1
    rw [recB, t, recE, if_pos e]
    by_cases q : j = 5
    · subst q
      exact hg.ext (fun k k0 k1 => by rw [blk, pbl, if_pos (by omega), show 110 * 5 + k - 110 * 5 = k by omega])
    · exact (hb (j + 1) (by omega) (by omega)).ext (fun k k0 k1 => by rw [blk, pbl, if_neg (by omega), shf, if_pos (by omega), blk]; congr 1; omega)
  · have t : recT st = st := by rw [recT, if_neg e]
    refine ⟨by rw [recN, t]; omega, fun j j0 j1 => ?_⟩
    rw [recN, t] at j1
    rw [recB, t, recE, if_neg e]
    by_cases q : j = st
    · subst q
      exact hg.ext (fun k k0 k1 => by rw [blk, pbl, if_pos (by omega)]; congr 1; omega)
    · exact (hb j j0 (by omega)).ext (fun k k0 k1 => by rw [blk, pbl, if_neg (by omega), blk])
theorem chg_wf {S : AS} (hW : WfA S) {g : Int → Int} (hg : WfG g) : WfA (chg S g) := by
  obtain ⟨h1, h2, h3, h4, h5, h6⟩ := hW
  obtain ⟨a, b⟩ := rec_wf h3 h5 h1
  exact ⟨hg, h2, a, h4, b, h6⟩
theorem set_wf {S : AS} (hW : WfA S) (k v : Int) : WfA (opSet S k v) := by
  unfold opSet; split
  · rename_i h
    obtain ⟨a, b⟩ := set_inv hW.1.1 h
    exact chg_wf hW (bga_wf a b)
  · exact hW
theorem add_wf {S : AS} (hW : WfA S) (a b z : Int) : WfA (opAdd S a b z) := by
  have s5 := hW.1.1.1.2.2.2.2.2
  unfold opAdd; split
  · rename_i h
    exact chg_wf hW (puts_wf hW.1 (by omega) h.1)
  · exact hW
theorem reset_wf {S : AS} (hW : WfA S) : WfA (opReset S) := chg_wf hW (bga_wf hW.1.1.1 hW.1.1.L)
theorem dropA_wf {S : AS} (hW : WfA S) (i : Int) : WfA (opDrop S i) := by
  unfold opDrop; split
  · rename_i h
    exact chg_wf hW (drop_wf hW.1 h.1 (by have := h.2; omega))
  · exact hW
theorem strideA_wf {S : AS} (hW : WfA S) (i v : Int) : WfA (opStride S i v) := by
  unfold opStride; split
  · rename_i h
    exact chg_wf hW (stride_wf hW.1 h.1.1 (by have := h.1.2; omega) h.2)
  · exact hW
theorem run_wf {S : AS} (hW : WfA S) (v : Int) : WfA (opRun S v) := by
  unfold opRun; split
  · rename_i h
    exact chg_wf hW (it_wf hW.1 _ (by omega)).1
  · exact hW
theorem wipe_wf {S : AS} (hW : WfA S) : WfA (opWipe S) := by
  obtain ⟨h1, h2, h3, h4, h5, h6⟩ := hW
  exact ⟨h1, ⟨Int.le_refl 0, (by decide : (0 : Int) ≤ 60)⟩, h3, h4, h5, h6⟩
theorem undo_wf {S : AS} (hW : WfA S) : WfA (opUndo S) := by
  unfold opUndo; split
  · exact hW
  · rename_i h
    obtain ⟨h1, h2, h3, h4, h5, h6⟩ := hW
    exact ⟨h5 _ (by omega) (by omega), h2, ⟨by dsimp only; omega, by dsimp only; omega⟩, h4, fun j j0 j1 => h5 j j0 (by dsimp only at j1; omega), h6⟩
theorem save_wf {S : AS} (hW : WfA S) (k : Int) : WfA (opSave S k) := by
  unfold opSave; split
  · rename_i h
    obtain ⟨h1, h2, h3, h4, h5, h6⟩ := hW
    refine ⟨h1, h2, h3, h4, h5, fun j j0 j1 => ?_⟩
    by_cases e : j = k
    · subst e
      refine ⟨Or.inr (up_eq _ _ _), fun _ => ?_⟩
      exact h1.ext (fun q q0 q1 => by show pbl 110 (110 * j) S.2.2.1 S.1 (110 * j + q) = _; rw [pbl, if_pos (by omega), show 110 * j + q - 110 * j = q by omega])
    · obtain ⟨a, b⟩ := h6 j j0 j1
      refine ⟨by show up S.2.2.2.1 k 1 j = 0 ∨ up S.2.2.2.1 k 1 j = 1; rw [up_ne _ _ e]; exact a, fun hz => ?_⟩
      have hz2 : S.2.2.2.1 j ≠ 0 := by
        have : up S.2.2.2.1 k 1 j ≠ 0 := hz
        rwa [up_ne _ _ e] at this
      exact (b hz2).ext (fun q q0 q1 => by show pbl 110 (110 * k) S.2.2.1 S.1 (110 * j + q) = S.2.2.1 (110 * j + q); rw [pbl, if_neg (by omega)])
  · exact hW
theorem restore_wf {S : AS} (hW : WfA S) (k : Int) : WfA (opRestore S k) := by
  unfold opRestore; split
  · rename_i h
    exact chg_wf hW ((hW.2.2.2.2.2 k h.1.1 (by omega)).2 h.2)
  · exact hW
theorem put_wf {S : AS} (hW : WfA S) (x : Int64) : WfA (opPut S x) := by
  unfold opPut; split
  · rename_i h
    obtain ⟨h1, h2, h3, h4, h5, h6⟩ := hW
    refine ⟨h1, ⟨by dsimp only; omega, by dsimp only; omega⟩, h3, fun k k0 k1 => ?_, h5, h6⟩
    show 0 ≤ apP x (ptN x) S.2.2.2.2.2.1 (ptN x) S.2.2.2.2.1 k ∧ apP x (ptN x) S.2.2.2.2.2.1 (ptN x) S.2.2.2.2.1 k ≤ 255
    unfold apP
    split
    · exact lb_rng _
    · exact h4 k k0 k1
  · exact hW
theorem read_wf {S : AS} (hW : WfA S) : WfA (opRead S) := by
  unfold opRead; split
  · rename_i h
    obtain ⟨h1, h2, h3, h4, h5, h6⟩ := hW
    have hK := foK_rng (pa := S.2.2.2.2.1) h2.2
    obtain ⟨a, b⟩ := rec_wf h3 h5 h1
    exact ⟨rd_wf h1 (t := foK S.2.2.2.2.1 S.2.2.2.2.2.1) (by omega) (fun k k0 k1 => foR_ok h2.2 k0 k1) _ (by omega), ⟨Int.le_refl 0, (by decide : (0 : Int) ≤ 60)⟩, a, h4, b, h6⟩
  · exact hW
