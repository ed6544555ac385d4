/-! ===== the law: rows of the script, what holds at its loop ===== -/
def sx (xs : Nat → Int32) (i : Int) : Int := (xs i.toNat).toInt
theorem sx_rng (xs : Nat → Int32) (i : Int) : R32 (sx xs i) := iI_rng _
section LawR
variable {p : Program} {l : Launch} {e : Env} {R : Room} {s : State} {m : MethodId} {args : Array Value} {below : List Frame} {meth : Method} {c : Code} {D : va_G} {ca : Nat → ClassId} {A : Nat → Prop} {nL : Nat} {Q : State → Prop} {cells slots : Nat} {cc : ByteArray} {own : String} {L : List Nat} {M : Mem} {pc n : Nat} {lv : List (Nat × Value)} {st : List Value}
theorem g_sld (X : Fx p s m args meth c D ca A nL cc own) {b LN : Nat} {xs : Nat → Int32} (hX : va_X b LN xs s s.heap) (hbl : b < s.heap.size) (hbA : ¬ A b) (hLN : LN ≤ 2048) {i : Int} (hi : 0 ≤ i ∧ i < LN) (d : decode cc pc = .ok (.iaload, 1)) (hn : pc + 1 = n) (kk : G p l e R s m args below meth c D A nL Q cells slots L M n lv (.int (iI (sx xs i)) :: st)) : G p l e R s m args below meth c D A nL Q cells slots L M pc lv (.int (iI i) :: .ref b :: st) := by
  intro H locs ls hP hD hS hl
  subst hn
  have h1 := iI_cl hi.1 (by omega : i < 2147483648)
  have h2 : (iI i).toNatClampNeg = i.toNat := by omega
  refine va_sld X.1.1 X.1.2.1 hX hbl hbA hS (iI_in hi.1 hi.2 (by omega)) d ?_
  rw [h2]
  have h3 := kk H locs ls hP hD hS hl
  unfold sx at h3
  rw [iI_self] at h3
  exact h3
theorem g_slen (X : Fx p s m args meth c D ca A nL cc own) {b LN : Nat} {xs : Nat → Int32} (hX : va_X b LN xs s s.heap) (hbl : b < s.heap.size) (hbA : ¬ A b) (d : decode cc pc = .ok (.arraylength, 1)) (hn : pc + 1 = n) (kk : G p l e R s m args below meth c D A nL Q cells slots L M n lv (.int (iI (LN : Int)) :: st)) : G p l e R s m args below meth c D A nL Q cells slots L M pc lv (.ref b :: st) := by
  intro H locs ls hP hD hS hl
  subst hn
  have h : Int32.ofNat LN = iI (LN : Int) := by
    show _ = Int32.ofInt (LN : Int)
    rw [Int32.ofInt_eq_ofNat]
  refine va_slen X.1.1 X.1.2.1 hX hbl hbA hS d ?_
  rw [h]
  exact kk H locs ls hP hD hS hl
/-- equal answers: the jump is taken -/
theorem g_icmp_eqv (X : Fx p s m args meth c D ca A nL cc own) {v : Int32} {off : Int} {tgt : Nat} (d : decode cc pc = .ok (.if_icmp .eq off, 3)) (ht : (pc : Int) + off = (tgt : Int)) (kt : G p l e R s m args below meth c D A nL Q cells slots L M tgt lv st) : G p l e R s m args below meth c D A nL Q cells slots L M pc lv (.int v :: .int v :: st) := by
  intro H locs ls hP hD hS hl
  exact lv_icmp_eq X.1.1 X.1.2.1 d ht (fun _ => kt H locs ls hP hD hS hl) (fun h => absurd rfl h)
end LawR
def LI (ca : Nat → ClassId) (L : List Nat) (M : Mem) (μ : Nat → Nat) (Sg : Int → Int → Nat) (S : AS) (a1 a2 : Nat) : Prop := MuOk μ L ∧ μ 0 = a2 ∧ Sg 10 0 = a1 ∧ Md ca M μ S ∧ SBm ca L M Sg S ∧ WfA S ∧ (∀ k, R32 (S.2.2.2.1 k)) ∧ ∀ i s k, i < 9 → inD s k → μ i ≠ Sg s k
section LawI
variable {ca : Nat → ClassId} {L : List Nat} {M M1 M2 : Mem} {μ : Nat → Nat} {Sg : Int → Int → Nat} {S S1 : AS} {a1 a2 : Nat}
theorem Md.kept (h : Md ca M μ S) (hf : ∀ i, i < 9 → M1 (μ i) = M (μ i)) : Md ca M1 μ S := by
  obtain ⟨q, sp, tr, rd, h0, h1, m0, m1, m2, m3, m4, m5, m6, m7, m8⟩ := h
  exact ⟨q, sp, tr, rd, h0, h1, (hf 0 (by decide)).trans m0, (hf 1 (by decide)).trans m1, (hf 2 (by decide)).trans m2, (hf 3 (by decide)).trans m3, (hf 4 (by decide)).trans m4, (hf 5 (by decide)).trans m5, (hf 6 (by decide)).trans m6, (hf 7 (by decide)).trans m7, (hf 8 (by decide)).trans m8⟩
theorem SBm.kept (h : SBm ca L M Sg S) (hf : ∀ s k, inD s k → M1 (Sg s k) = M (Sg s k)) : SBm ca L M1 Sg S := by
  obtain ⟨c, ct, nf, nu, hB, hR⟩ := h.opn
  exact (hB.kept hf).m hR
theorem SBm.obj (h : SBm ca L M Sg S) : Sg 10 0 ∈ L ∧ ∃ fs, M (Sg 10 0) = .inr (5, fs) := ⟨h.1.mem (by unfold inD; omega), _, h.2.1.1⟩
theorem Md.obj (h : Md ca M μ S) : ∃ fs, M (μ 0) = .inr (6, fs) := by
  obtain ⟨q, sp, tr, rd, h0, h1, m0, -⟩ := h
  exact ⟨_, m0⟩
theorem SBo.sep (h : SBo ca L M M1 Sg S1) (hs : ∀ i s k, i < 9 → inD s k → μ i ≠ Sg s k) (hM : Md ca M μ S) : ∃ Sg2, SBm ca L M1 Sg2 S1 ∧ Sg2 10 0 = Sg 10 0 ∧ Md ca M1 μ S ∧ ∀ i s k, i < 9 → inD s k → μ i ≠ Sg2 s k := by
  obtain ⟨Sg2, h1, h2, h3, h4⟩ := h
  refine ⟨Sg2, h1, h2, hM.kept (fun i hi => h4 _ (fun s k hsk => hs i s k hi hsk)), fun i s k hi hsk => ?_⟩
  obtain ⟨s', k', q1, q2⟩ := h3 s k hsk
  rw [q2]; exact hs i s' k' hi q1
end LawI
theorem iz_chg {S : AS} (h : ∀ k, R32 (S.2.2.2.1 k)) (g : Int → Int) : ∀ k, R32 ((chg S g).2.2.2.1 k) := h
theorem iz_set {S : AS} (h : ∀ k, R32 (S.2.2.2.1 k)) (a b : Int) : ∀ k, R32 ((opSet S a b).2.2.2.1 k) := by unfold opSet; split <;> exact h
theorem iz_add {S : AS} (h : ∀ k, R32 (S.2.2.2.1 k)) (a b z : Int) : ∀ k, R32 ((opAdd S a b z).2.2.2.1 k) := by unfold opAdd; split <;> exact h
theorem iz_drop {S : AS} (h : ∀ k, R32 (S.2.2.2.1 k)) (a : Int) : ∀ k, R32 ((opDrop S a).2.2.2.1 k) := by unfold opDrop; split <;> exact h
theorem iz_stride {S : AS} (h : ∀ k, R32 (S.2.2.2.1 k)) (a b : Int) : ∀ k, R32 ((opStride S a b).2.2.2.1 k) := by unfold opStride; split <;> exact h
theorem iz_run {S : AS} (h : ∀ k, R32 (S.2.2.2.1 k)) (a : Int) : ∀ k, R32 ((opRun S a).2.2.2.1 k) := by unfold opRun; split <;> exact h
theorem iz_reset {S : AS} (h : ∀ k, R32 (S.2.2.2.1 k)) : ∀ k, R32 ((opReset S).2.2.2.1 k) := h
theorem iz_wipe {S : AS} (h : ∀ k, R32 (S.2.2.2.1 k)) : ∀ k, R32 ((opWipe S).2.2.2.1 k) := h
theorem iz_undo {S : AS} (h : ∀ k, R32 (S.2.2.2.1 k)) : ∀ k, R32 ((opUndo S).2.2.2.1 k) := by unfold opUndo; split <;> exact h
theorem iz_save {S : AS} (h : ∀ k, R32 (S.2.2.2.1 k)) (a : Int) : ∀ k, R32 ((opSave S a).2.2.2.1 k) := by
  unfold opSave; split
  · intro k
    show R32 (up S.2.2.2.1 a 1 k)
    unfold up; split
    · exact ⟨by decide, by decide⟩
    · exact h k
  · exact h
theorem iz_restore {S : AS} (h : ∀ k, R32 (S.2.2.2.1 k)) (a : Int) : ∀ k, R32 ((opRestore S a).2.2.2.1 k) := by unfold opRestore; split <;> exact h
theorem iz_put {S : AS} (h : ∀ k, R32 (S.2.2.2.1 k)) (x : Int64) : ∀ k, R32 ((opPut S x).2.2.2.1 k) := by unfold opPut; split <;> exact h
theorem iz_read {S : AS} (h : ∀ k, R32 (S.2.2.2.1 k)) : ∀ k, R32 ((opRead S).2.2.2.1 k) := by unfold opRead; split <;> exact h
