/-! ===== the law: rows of the script, the object by its address, a truth value where two roads meet ===== -/
def sx (xs : Nat → Int32) (i : Int) : Int := (xs i.toNat).toInt
theorem sx_rng (xs : Nat → Int32) (i : Int) : R32 (sx xs i) := iI_rng _
section LawR
variable {p : Program} {l : Launch} {e : Env} {R : Room} {s : State} {m : MethodId} {args : Array Value} {below : List Frame} {meth : Method} {c : Code} {D : va_G} {ca : Nat → ClassId} {A : Nat → Prop} {nL : Nat} {Q : State → Prop} {cells slots : Nat} {cc : ByteArray} {own : String} {L : List Nat} {M : Mem} {pc n : Nat} {lv : List (Nat × Value)} {st rest : List Value}
theorem g_sld (X : Fx p s m args meth c D ca A nL cc own) {b LN : Nat} {xs : Nat → Int32} (hX : va_X b LN xs s s.heap) (hbl : b < s.heap.size) (hbA : ¬ A b) (hLN : LN ≤ 260) {i : Int} (hi : 0 ≤ i ∧ i < LN) (d : decode cc pc = .ok (.iaload, 1)) (hn : pc + 1 = n) (kk : G p l e R s m args below meth c D A nL Q cells slots L M n lv (.int (iI (sx xs i)) :: st)) : G p l e R s m args below meth c D A nL Q cells slots L M pc lv (.int (iI i) :: .ref b :: st) := by
  intro H locs ls hP hD hS hl
  subst hn
  have h1 := iI_cl hi.1 (by omega : i < 2147483648)
  have h2 : (iI i).toNatClampNeg = i.toNat := by omega
  refine va_sld X.1.1 X.1.2.1 hX hbl hbA hS (iI_in hi.1 hi.2 (by omega)) d ?_
  rw [h2]
  have h3 := kk H locs ls hP hD hS hl
  unfold sx at h3
  rw [iI_self] at h3
  exact h3
theorem g_slen (X : Fx p s m args meth c D ca A nL cc own) {b LN : Nat} {xs : Nat → Int32} (hX : va_X b LN xs s s.heap) (hbl : b < s.heap.size) (hbA : ¬ A b) (d : decode cc pc = .ok (.arraylength, 1)) (hn : pc + 1 = n) (kk : G p l e R s m args below meth c D A nL Q cells slots L M n lv (.int (iI (LN : Int)) :: st)) : G p l e R s m args below meth c D A nL Q cells slots L M pc lv (.ref b :: st) := by
  intro H locs ls hP hD hS hl
  subst hn
  have h : Int32.ofNat LN = iI (LN : Int) := by
    show _ = Int32.ofInt (LN : Int)
    rw [Int32.ofInt_eq_ofNat]
  refine va_slen X.1.1 X.1.2.1 hX hbl hbA hS d ?_
  rw [h]
  exact kk H locs ls hP hD hS hl
theorem g_iincW (X : Fx p s m args meth c D ca A nL cc own) {i : Nat} {z x : Int} {lv' : List (Nat × Value)} (q : Nat) (hq : lv[q]? = some (i, .int (iI x))) (hi : i < nL) (hlv : (i, Value.int (iI (x + z))) :: lv.filter (fun q => !(q.1 == i) && !(q.1 + 1 == i && q.2.category == 2)) = lv') (d : decode cc pc = .ok (.iinc i z, 6)) (hn : pc + 6 = n) (k : G p l e R s m args below meth c D A nL Q cells slots L M n lv' (st)) : G p l e R s m args below meth c D A nL Q cells slots L M pc lv (st) := by
  intro H locs ls hP hD hS hl
  subst hn
  exact lv_iincW X.1.1 X.1.2.1 d hl (k := q) hq (iI_add x z) hi hlv (fun ls' hl' => k H locs ls' hP hD hS hl')
/-- two roads that push a number each, and meet -/
theorem g_dia (X : Fx p s m args meth c D ca A nL cc own) {C0 : Prop} [Decidable C0] {a b off : Int} {tgt J : Nat} {st0 : List Value} (br : (C0 → G p l e R s m args below meth c D A nL Q cells slots L M tgt lv st) → (¬ C0 → G p l e R s m args below meth c D A nL Q cells slots L M n lv st) → G p l e R s m args below meth c D A nL Q cells slots L M pc lv st0)
    (d1 : decode cc n = .ok (.iconst a, 1)) (d2 : decode cc (n + 1) = .ok (.goto off, 3)) (h2 : ((n + 1 : Nat) : Int) + off = (J : Int)) (d3 : decode cc tgt = .ok (.iconst b, 1)) (h3 : tgt + 1 = J) (kk : G p l e R s m args below meth c D A nL Q cells slots L M J lv (.int (iI (if C0 then b else a)) :: st)) : G p l e R s m args below meth c D A nL Q cells slots L M pc lv st0 := by
  refine br (fun h => ?_) (fun h => ?_)
  · rw [if_pos h] at kk
    exact g_iconst X d3 h3 kk
  · rw [if_neg h] at kk
    exact g_iconst X d1 rfl (g_goto X d2 h2 kk)
end LawR
def OB (ca : Nat → ClassId) (L : List Nat) (M : Mem) (o : Nat) (S : AS) : Prop := ∃ Sg : Int → Int → Nat, Sg 10 0 = o ∧ SBm ca L M Sg S
section LawI
variable {ca : Nat → ClassId} {L : List Nat} {M M1 : Mem} {Sg : Int → Int → Nat} {S : AS} {o : Nat}
theorem SBm.kept (h : SBm ca L M Sg S) (hf : ∀ s k, inD s k → M1 (Sg s k) = M (Sg s k)) : SBm ca L M1 Sg S := by
  obtain ⟨c, ct, nf, nu, hB, hR⟩ := h.opn
  exact (hB.kept hf).m hR
theorem SBm.obj (h : SBm ca L M Sg S) : Sg 10 0 ∈ L ∧ ∃ fs, M (Sg 10 0) = .inr (5, fs) := ⟨h.1.mem (by unfold inD; omega), _, h.2.1.1⟩
theorem SBo.ob (h : SBo ca L M M1 Sg S) : OB ca L M1 (Sg 10 0) S := by
  obtain ⟨Sg2, h1, h2, -⟩ := h
  exact ⟨Sg2, h2, h1⟩
/-- where slot 0 was never saved: the saved rows as slot 1 alone has them -/
theorem OB.one (h : OB ca L M o S) {g : Int → Int} (h0 : S.2.2.2.1 0 = 0) (h5 : g 5 ≤ 4) (e : ∀ k, 0 ≤ k → k < 110 → S.2.2.1 (110 + k) = g k) : OB ca L M o (S.1, S.2.1, fun k => g (k - 110), S.2.2.2.1, S.2.2.2.2.1, S.2.2.2.2.2.1, S.2.2.2.2.2.2) := by
  obtain ⟨Sg, q, a, b, c, d, f, t, hs⟩ := h
  refine ⟨Sg, q, a, b, c, d, f, t, fun k k0 k1 => ?_⟩
  obtain ⟨c1, q1, q2⟩ := hs k k0 k1
  refine ⟨c1, q1, fun hz => ?_⟩
  rcases (by omega : k = 0 ∨ k = 1) with rfl | rfl
  · exact absurd h0 hz
  · refine (q2 hz).ext (fun j j0 j1 => ?_) ?_
    · show g (110 * 1 + j - 110) = S.2.2.1 (110 * 1 + j)
      rw [show 110 * 1 + j - 110 = j by omega]
      exact (e j j0 j1).symm
    · show S.2.2.1 (110 * 1 + 5) ≤ 4
      rw [show (110 * 1 + 5 : Int) = 110 + 5 by decide, e 5 (by decide) (by decide)]; exact h5
end LawI
section Kt
variable (l : Launch) (Sg : Int → Int → Nat) (S : AS)
theorem kt_set (k : Int) (v : Int) : Ct l yX5_set cX5_set 4 (some .int) 5 0 0 (fun ca av L M => av = [.ref (Sg 10 0), .int (iI k), .int (iI v)] ∧ SBm ca L M Sg S ∧ WfA S ∧ R32 k ∧ R32 v) (fun ca av L M r L1 M1 => r = some (.int (iI (anSet S k v))) ∧ L = L1 ∧ SBo ca L M M1 Sg (opSet S k v)) := ct_X5_set l Sg S.1 S.2.1 S.2.2.1 S.2.2.2.1 S.2.2.2.2.1 S.2.2.2.2.2.1 S.2.2.2.2.2.2 k v
theorem kt_add (a : Int) (b : Int) (z : Int) : Ct l yX5_add cX5_add 4 (some .int) 5 0 0 (fun ca av L M => av = [.ref (Sg 10 0), .int (iI a), .int (iI b), .int (iI z)] ∧ SBm ca L M Sg S ∧ WfA S ∧ R32 a ∧ R32 b ∧ R32 z) (fun ca av L M r L1 M1 => r = some (.int (iI (anAdd S a b z))) ∧ L = L1 ∧ SBo ca L M M1 Sg (opAdd S a b z)) := ct_X5_add l Sg S.1 S.2.1 S.2.2.1 S.2.2.2.1 S.2.2.2.2.1 S.2.2.2.2.2.1 S.2.2.2.2.2.2 a b z
theorem kt_reset : Ct l yX5_reset cX5_reset 1 (some .int) 5 0 0 (fun ca av L M => av = [.ref (Sg 10 0)] ∧ SBm ca L M Sg S ∧ WfA S) (fun ca av L M r L1 M1 => r = some (.int (iI (anReset S))) ∧ L = L1 ∧ SBo ca L M M1 Sg (opReset S)) := ct_X5_reset l Sg S.1 S.2.1 S.2.2.1 S.2.2.2.1 S.2.2.2.2.1 S.2.2.2.2.2.1 S.2.2.2.2.2.2 
theorem kt_drop (i : Int) : Ct l yX5_drop cX5_drop 3 (some .int) 5 0 0 (fun ca av L M => av = [.ref (Sg 10 0), .int (iI i)] ∧ SBm ca L M Sg S ∧ WfA S ∧ R32 i) (fun ca av L M r L1 M1 => r = some (.int (iI (anDrop S i))) ∧ L = L1 ∧ SBo ca L M M1 Sg (opDrop S i)) := ct_X5_drop l Sg S.1 S.2.1 S.2.2.1 S.2.2.2.1 S.2.2.2.2.1 S.2.2.2.2.2.1 S.2.2.2.2.2.2 i
theorem kt_stride (i : Int) (v : Int) : Ct l yX5_stride cX5_stride 4 (some .int) 5 0 0 (fun ca av L M => av = [.ref (Sg 10 0), .int (iI i), .int (iI v)] ∧ SBm ca L M Sg S ∧ WfA S ∧ R32 i ∧ R32 v) (fun ca av L M r L1 M1 => r = some (.int (iI (anStride S i v))) ∧ L = L1 ∧ SBo ca L M M1 Sg (opStride S i v)) := ct_X5_stride l Sg S.1 S.2.1 S.2.2.1 S.2.2.2.1 S.2.2.2.2.1 S.2.2.2.2.2.1 S.2.2.2.2.2.2 i v
theorem kt_run (v : Int) : Ct l yX5_run cX5_run 4 (some .int) 5 0 0 (fun ca av L M => av = [.ref (Sg 10 0), .int (iI v)] ∧ SBm ca L M Sg S ∧ WfA S ∧ R32 v) (fun ca av L M r L1 M1 => r = some (.int (iI (anRun S v))) ∧ L = L1 ∧ SBo ca L M M1 Sg (opRun S v)) := ct_X5_run l Sg S.1 S.2.1 S.2.2.1 S.2.2.2.1 S.2.2.2.2.1 S.2.2.2.2.2.1 S.2.2.2.2.2.2 v
theorem kt_bankOf (a : Int) : Ct l yX5_bankOf cX5_bankOf 2 (some .int) 5 0 0 (fun ca av L M => av = [.ref (Sg 10 0), .int (iI a)] ∧ SBm ca L M Sg S ∧ WfA S ∧ R32 a) (fun ca av L M r L1 M1 => r = some (.int (iI (anBankOf S a))) ∧ L = L1 ∧ SBo ca L M M1 Sg (S)) := ct_X5_bankOf l Sg S.1 S.2.1 S.2.2.1 S.2.2.2.1 S.2.2.2.2.1 S.2.2.2.2.2.1 S.2.2.2.2.2.2 a
theorem kt_stream (i : Int) (w : Int) : Ct l yX5_stream cX5_stream 4 (some .int) 5 0 0 (fun ca av L M => av = [.ref (Sg 10 0), .int (iI i), .int (iI w)] ∧ SBm ca L M Sg S ∧ WfA S ∧ R32 i ∧ R32 w) (fun ca av L M r L1 M1 => r = some (.int (iI (anStream S i w))) ∧ L = L1 ∧ SBo ca L M M1 Sg (S)) := ct_X5_stream l Sg S.1 S.2.1 S.2.2.1 S.2.2.2.1 S.2.2.2.2.1 S.2.2.2.2.2.1 S.2.2.2.2.2.2 i w
theorem kt_bank (b : Int) (w : Int) : Ct l yX5_bank cX5_bank 4 (some .int) 5 0 0 (fun ca av L M => av = [.ref (Sg 10 0), .int (iI b), .int (iI w)] ∧ SBm ca L M Sg S ∧ WfA S ∧ R32 b ∧ R32 w) (fun ca av L M r L1 M1 => r = some (.int (iI (anBank S b w))) ∧ L = L1 ∧ SBo ca L M M1 Sg (S)) := ct_X5_bank l Sg S.1 S.2.1 S.2.2.1 S.2.2.2.1 S.2.2.2.2.1 S.2.2.2.2.2.1 S.2.2.2.2.2.2 b w
theorem kt_count (w : Int) : Ct l yX5_count cX5_count 2 (some .int) 5 0 0 (fun ca av L M => av = [.ref (Sg 10 0), .int (iI w)] ∧ SBm ca L M Sg S ∧ WfA S ∧ R32 w) (fun ca av L M r L1 M1 => r = some (.int (iI (anCount S w))) ∧ L = L1 ∧ SBo ca L M M1 Sg (S)) := ct_X5_count l Sg S.1 S.2.1 S.2.2.1 S.2.2.2.1 S.2.2.2.2.1 S.2.2.2.2.2.1 S.2.2.2.2.2.2 w
theorem kt_undo : Ct l yX5_undo cX5_undo 1 (some .int) 5 0 0 (fun ca av L M => av = [.ref (Sg 10 0)] ∧ SBm ca L M Sg S ∧ WfA S) (fun ca av L M r L1 M1 => r = some (.int (iI (anUndo S))) ∧ L = L1 ∧ SBo ca L M M1 Sg (opUndo S)) := ct_X5_undo l Sg S.1 S.2.1 S.2.2.1 S.2.2.2.1 S.2.2.2.2.1 S.2.2.2.2.2.1 S.2.2.2.2.2.2 
theorem kt_untilDone : Ct l yX5_untilDone cX5_untilDone 1 (some .int) 6 0 0 (fun ca av L M => av = [.ref (Sg 10 0)] ∧ SBm ca L M Sg S ∧ WfA S) (fun ca av L M r L1 M1 => r = some (.int (iI (roC 20000 S.1))) ∧ L = L1 ∧ SBo ca L M M1 Sg (S)) := ct_X5_untilDone l Sg S.1 S.2.1 S.2.2.1 S.2.2.2.1 S.2.2.2.2.1 S.2.2.2.2.2.1 S.2.2.2.2.2.2 
theorem kt_bestMap (w : Int) : Ct l yX5_bestMap cX5_bestMap 6 (some .int) 7 0 0 (fun ca av L M => av = [.ref (Sg 10 0), .int (iI w)] ∧ SBm ca L M Sg S ∧ WfA S ∧ R32 w) (fun ca av L M r L1 M1 => r = some (.int (iI (anMap S w))) ∧ L = L1 ∧ SBo ca L M M1 Sg (S)) := ct_X5_bestMap l Sg S.1 S.2.1 S.2.2.1 S.2.2.2.1 S.2.2.2.2.1 S.2.2.2.2.2.1 S.2.2.2.2.2.2 w
theorem kt_save (k : Int) : Ct l yX5_save cX5_save 2 (some .int) 5 0 0 (fun ca av L M => av = [.ref (Sg 10 0), .int (iI k)] ∧ SBm ca L M Sg S ∧ WfA S ∧ R32 k) (fun ca av L M r L1 M1 => r = some (.int (iI (anSave S k))) ∧ L = L1 ∧ SBo ca L M M1 Sg (opSave S k)) := ct_X5_save l Sg S.1 S.2.1 S.2.2.1 S.2.2.2.1 S.2.2.2.2.1 S.2.2.2.2.2.1 S.2.2.2.2.2.2 k
theorem kt_restore (k : Int) : Ct l yX5_restore cX5_restore 2 (some .int) 5 0 0 (fun ca av L M => av = [.ref (Sg 10 0), .int (iI k)] ∧ SBm ca L M Sg S ∧ WfA S ∧ R32 k) (fun ca av L M r L1 M1 => r = some (.int (iI (anRestore S k))) ∧ L = L1 ∧ SBo ca L M M1 Sg (opRestore S k)) := ct_X5_restore l Sg S.1 S.2.1 S.2.2.1 S.2.2.2.1 S.2.2.2.2.1 S.2.2.2.2.2.1 S.2.2.2.2.2.2 k
end Kt
section LawC
variable {p : Program} {l : Launch} {e : Env} {R : Room} {s : State} {m : MethodId} {args : Array Value} {below : List Frame} {meth : Method} {c : Code} {D : va_G} {ca : Nat → ClassId} {A : Nat → Prop} {nL : Nat} {Q : State → Prop} {cells slots : Nat} {cc : ByteArray} {own : String} {L : List Nat} {M : Mem} {pc n : Nat} {lv : List (Nat × Value)} {st rest : List Value}
/-- a call of the class's: the object by its address, the answer as it is wanted -/
theorem k_call (X : Fx p s m args meth c D ca A nL cc own) {y : MethodName} {bytes : ByteArray} {maxL h k index o : Nat} {S S' : AS} {As : List Value} {ans v : Int} {Pr : Prop}
    (hC : ∀ Sg : Int → Int → Nat, Ct l y bytes maxL (some .int) h 0 0 (fun ca av L M => av = .ref (Sg 10 0) :: As ∧ SBm ca L M Sg S ∧ Pr) (fun ca av L M r L1 M1 => r = some (.int (iI ans)) ∧ L = L1 ∧ SBo ca L M M1 Sg S'))
    (hyC : y.cls = RX5) (hy : CtArgs y k) (hk : As.length = k) (wl : Cond.methodLink own index y ∈ TB) (wi : Cond.instanceMethod y ∈ TB) (wsel : Cond.selects RX5 y y ∈ TB) (wc : Cond.code y bytes maxL (some .int) ∈ TB) (hR : h + 1 ≤ R.frames ∧ 8 + (maxL + 11) + 40 * h ≤ R.locals)
    (hsm : (rest.map fun v => v.category).sum ≤ 8) (hcs : cells ≤ R.cells ∧ slots ≤ R.slots) (hst : st = As.reverse ++ .ref o :: rest) (d : decode cc pc = .ok (.invokevirtual index, 3)) (hn : pc + 3 = n) (hO : OB ca L M o S) (hPr : Pr) (hv : ans = v)
    (kk : ∀ M1, OB ca L M1 o S' → G p l e R s m args below meth c D A nL Q cells slots L M1 n lv (.int (iI v) :: rest)) : G p l e R s m args below meth c D A nL Q cells slots L M pc lv st := by
  obtain ⟨Sg, e, hSB⟩ := hO
  subst e
  obtain ⟨hin, fs, hob⟩ := hSB.obj
  refine g_callV X (hC Sg) (As := As) (rest := rest) cl_X5 hyC hy hk wl wi wsel wc w0_X5 hR hin hob hsm hcs hst d hn ⟨rfl, hSB, hPr⟩ (fun r L9 M1 hq => ?_)
  obtain ⟨rfl, rfl, hSo⟩ := hq
  subst hv
  exact kk M1 hSo.ob
end LawC
