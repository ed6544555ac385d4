/-! ===== a row of the script in a callee: cell ===== -/
theorem and_max (x : Int32) : ∃ c : Int, 0 ≤ c ∧ c < 2147483648 ∧ x &&& iI 2147483647 = iI c := by
  refine ⟨(x &&& iI 2147483647).toInt, ?_, (iI_rng _).2, (iI_self _).symm⟩
  have h : (x &&& iI 2147483647).toBitVec.msb = false := by
    rw [Int32.toBitVec_and, BitVec.msb_and, show (iI 2147483647).toBitVec.msb = false from by decide +kernel, Bool.and_false]
  show 0 ≤ (x &&& iI 2147483647).toBitVec.toInt
  rw [BitVec.toInt_eq_msb_cond, h]
  simp
def Sx (b LN : Nat) (xs : Nat → Int32) (L : List Nat) (sz : Nat) (U : State) : Prop := va_X b LN xs U U.heap ∧ b < U.heap.size ∧ ¬ AL L sz b
set_option maxRecDepth 100000 in
theorem ct_cell (l : Launch) {b LN : Nat} {xs : Nat → Int32} (hLN : LN ≤ 260) {y : Int} (y0 : 0 ≤ y) (y1 : y < 40) (D : va_G) (ca : Nat → ClassId) (L : List Nat) (M : Mem) (sz : Nat) :
    Met l yL_cell (wm yL_cell cL_cell 2 (some .int)) (Rm 0 0 0) (va_Pc [.ref b, .int (iI y)] (fun U => Wp D ca L M sz U ∧ Sx b LN xs L sz U)) (Qk D (AL L sz) (fun r L1 M1 => (∃ c : Int, 0 ≤ c ∧ c < 2147483648 ∧ r = some (.int (iI c))) ∧ L = L1 ∧ M = M1)) 0 0 (AL L sz) := by
  refine Met.ofW (cc := cL_cell) (maxL := 2) (ret := some .int) (by decide) rfl ?_
  intro p e s m args below meth c s₁ B hml hv
  obtain ⟨rfl, ⟨hsz, hP, hN, hK, hNW, hSt⟩, hX, hbl, hbA⟩ := hv
  have hts := atoms_spec (ws := wm yL_cell cL_cell 2 (some .int)) B.pre
  have hown : s.vm.findClass RL = some m.cls := findClass_of_methodNamed B.named
  subst hsz
  have X : Fx p s m ([.ref b, .int (iI y)] : List Value).toArray meth c D ca (AL L s.heap.size) 2 cL_cell RL := ⟨⟨B.exec, B.bytes, hml, hown, fun w hw => hts w (List.mem_cons_of_mem _ hw)⟩, hK, hNW, hSt, fun q hq => Or.inr hq, B.notSynchronized⟩
  have hret := B.returns
  rw [lg_entry_eq]
  have hG : G p l e (Rm 0 0 0) s m ([.ref b, .int (iI y)] : List Value).toArray below meth c D (AL L s.heap.size) 2 (MQ below (Qk D (AL L s.heap.size) (fun r L1 M1 => (∃ c : Int, 0 ≤ c ∧ c < 2147483648 ∧ r = some (.int (iI c))) ∧ L = L1 ∧ M = M1)) ([.ref b, .int (iI y)] : List Value).toArray s 0 0 (AL L s.heap.size)) 0 0 L M 0 (lv_args 0 [.ref b, .int (iI y)]) [] := by
    refine g_lv (lv' := [(0, .ref b), (1, .int (iI y))]) [0, 1] rfl ?_
    have fin : ∀ x : Int, G p l e (Rm 0 0 0) s m ([.ref b, .int (iI y)] : List Value).toArray below meth c D (AL L s.heap.size) 2 (MQ below (Qk D (AL L s.heap.size) (fun r L1 M1 => (∃ c : Int, 0 ≤ c ∧ c < 2147483648 ∧ r = some (.int (iI c))) ∧ L = L1 ∧ M = M1)) ([.ref b, .int (iI y)] : List Value).toArray s 0 0 (AL L s.heap.size)) 0 0 L M 20 [(0, .ref b), (1, .int (iI y))] [.int (iI x)] := fun x => by
      refine g_ldc X (z := 2147483647) wv_L_8 (by decide +kernel) dL_cell_20 rfl ?_
      obtain ⟨w, w0, w1, w2⟩ := and_max (iI x)
      refine g_iand X w2 dL_cell_22 rfl ?_
      exact g_iret X hret ⟨Nat.le_of_ble_eq_true rfl, Nat.le_of_ble_eq_true rfl⟩ dL_cell_23 ⟨⟨w, w0, w1, rfl⟩, rfl, rfl⟩
    refine g_iload_n X 1 rfl dL_cell_0 rfl ?_
    refine g_aload_n X 0 rfl dL_cell_1 rfl ?_
    refine g_slen X hX hbl hbA dL_cell_2 rfl ?_
    refine g_icmp_ge X ⟨by omega, by omega⟩ ⟨by omega, by omega⟩ (tgt := 12) dL_cell_3 (by decide) rfl (fun h => ?_) (fun h => ?_)
    · refine g_ldc X (z := 15485959) wv_L_7 (by decide +kernel) dL_cell_12 rfl ?_
      refine g_iload_n X 1 rfl dL_cell_14 rfl ?_
      refine g_imul X dL_cell_15 rfl ?_
      refine g_sipush X (z := 8373) (by decide +kernel) dL_cell_16 rfl ?_
      refine g_iadd X dL_cell_19 rfl ?_
      exact fin _
    · refine g_aload_n X 0 rfl dL_cell_6 rfl ?_
      refine g_iload_n X 1 rfl dL_cell_7 rfl ?_
      refine g_sld X hX hbl hbA hLN ⟨by omega, by omega⟩ dL_cell_8 rfl ?_
      refine g_goto X (n := 20) dL_cell_9 (by decide) ?_
      exact fin _
  exact hG s.heap [] _ hP (pl_D hN (fun a ha => Or.inl ha)) va_S.rf (lv_entry _ (Nat.le_of_ble_eq_true rfl))
section CellC
variable {p : Program} {l : Launch} {e : Env} {R : Room} {s : State} {m : MethodId} {args : Array Value} {below : List Frame} {meth : Method} {c : Code} {D : va_G} {ca : Nat → ClassId} {A : Nat → Prop} {nL : Nat} {Q : State → Prop} {cells slots : Nat} {cc : ByteArray} {L : List Nat} {M : Mem} {pc n : Nat} {lv : List (Nat × Value)} {st rest : List Value}
theorem g_cell (X : Fx p s m args meth c D ca A nL cc RL) {index b LN : Nat} {xs : Nat → Int32} (hX : va_X b LN xs s s.heap) (hbl : b < s.heap.size) (hbA : ¬ A b) (hLN : LN ≤ 260) {y : Int} (y0 : 0 ≤ y) (y1 : y < 40) (wl : Cond.methodLink RL index yL_cell ∈ TB)
    (hR : 0 + 1 ≤ R.frames ∧ 8 + (2 + 11) + 40 * 0 ≤ R.locals) (hsm : (rest.map fun v => v.category).sum ≤ 8) (hcs : cells + 0 ≤ R.cells ∧ slots + 0 ≤ R.slots) (hst : st = .int (iI y) :: .ref b :: rest) (d : decode cc pc = .ok (.invokestatic index, 3)) (hn : pc + 3 = n)
    (kk : ∀ v : Int, 0 ≤ v → v < 2147483648 → G p l e R s m args below meth c D A nL Q cells slots L M n lv (.int (iI v) :: rest)) : G p l e R s m args below meth c D A nL Q cells slots L M pc lv st := by
  intro H locs ls hP hD hS hl
  have hr := va_runS (p := p) (l := l) (e := e) (R := R) (s := s) (m := m) (args := args) (below := below) (meth := meth) (c := c) (H := H) (locs := locs) (cells := cells) (slots := slots) (As := [.ref b, .int (iI y)]) (rest := rest) (g := F0 m pc ls st) X.1 (ct_cell l hLN y0 y1 D ca L M H.size)
    (cwS 2 X.1.2.2.2.2 (good_app (b := [.methodLink RL index yL_cell, .static yL_cell, .initialized RL]) (by
      intro w hw
      simp only [List.mem_cons, List.mem_nil_iff, or_false] at hw
      rcases hw with rfl | rfl | rfl
      · exact wl
      · exact wt_L_cell
      · exact w0_L) (good_cons wc_L_cell)) rfl rfl rfl ⟨rfl, ca_L_cell⟩ hR)
    ⟨fun a U g mk q => ⟨q.1, wp_calling q.2.1, q.2.2.1.moved (Vm.Alike.refl U.vm), q.2.2.2.1, q.2.2.2.2⟩, fun U hU hW => ⟨rfl, wp_at X hP hD hS hU hW, by
      refine ⟨?_, ?_, fun hq => ?_⟩
      · rw [hU]
        exact (hX.moved hW.alike).kept (hS.2.1 b hbl hbA)
      · rw [hU]; exact Nat.lt_of_lt_of_le hbl hS.1
      · exact hbA (hq.elim (fun h => pl_A hD b h) (fun h => X.2.2.2.2.1 b (Nat.le_trans hS.1 h)))⟩⟩ rfl rfl hl.1 hst (lv_room hsm) d hcs
  refine g_run X hD hS hl hr hn (fun r L1 M1 hq => ?_)
  obtain ⟨⟨v, v0, v1, rfl⟩, rfl, rfl⟩ := hq
  exact kk v v0 v1
end CellC
/-! shifts to the right of what is not below 0 -/
theorem sh_r {x : Int} (h0 : 0 ≤ x) (h1 : x < 2147483648) {k : Nat} (hk : k < 31) (e : ((iI (k : Int) &&& 31).toBitVec.smod 32).toNat = k) : iI x >>> (iI (k : Int) &&& 31) = iI (x / 2 ^ k) := by
  obtain ⟨n, rfl⟩ : ∃ n : Nat, x = n := ⟨x.toNat, by omega⟩
  have hx : iI (n : Int) = Int32.ofNat n := by
    show Int32.ofInt _ = _
    rw [Int32.ofInt_eq_ofNat]
  have hm2 : ((n : Int) / 2 ^ k) = ((n >>> k : Nat) : Int) := by
    rw [Nat.shiftRight_eq_div_pow]; simp
  have hy : iI ((n >>> k : Nat) : Int) = Int32.ofNat (n >>> k) := by
    show Int32.ofInt _ = _
    rw [Int32.ofInt_eq_ofNat]
  rw [hm2, hx, hy]
  apply Int32.toBitVec_inj.mp
  rw [Int32.toBitVec_shiftRight]
  have hm : (Int32.ofNat n).toBitVec.msb = false := by
    rw [BitVec.msb_eq_decide]
    have : (Int32.ofNat n).toBitVec.toNat = n := by
      show (BitVec.ofNat 32 n).toNat = n
      rw [BitVec.toNat_ofNat, Nat.mod_eq_of_lt (by omega)]
    rw [this]; exact decide_eq_false (by omega)
  rw [BitVec.sshiftRight', e, BitVec.sshiftRight_eq_of_msb_false hm]
  apply BitVec.eq_of_toNat_eq
  show ((BitVec.ofNat 32 n) >>> k).toNat = (BitVec.ofNat 32 (n >>> k)).toNat
  have h3 : n >>> k ≤ n := Nat.shiftRight_le n k
  rw [BitVec.toNat_ushiftRight, BitVec.toNat_ofNat, BitVec.toNat_ofNat, Nat.mod_eq_of_lt (by omega), Nat.mod_eq_of_lt (by omega)]
theorem sh_4 {x : Int} (h0 : 0 ≤ x) (h1 : x < 2147483648) : iI x >>> (iI 4 &&& 31) = iI (x / 16) := sh_r h0 h1 (k := 4) (by decide) (by decide +kernel)
theorem sh_5 {x : Int} (h0 : 0 ≤ x) (h1 : x < 2147483648) : iI x >>> (iI 5 &&& 31) = iI (x / 32) := sh_r h0 h1 (k := 5) (by decide) (by decide +kernel)
theorem sh_8 {x : Int} (h0 : 0 ≤ x) (h1 : x < 2147483648) : iI x >>> (iI 8 &&& 31) = iI (x / 256) := sh_r h0 h1 (k := 8) (by decide) (by decide +kernel)
theorem sh_10 {x : Int} (h0 : 0 ≤ x) (h1 : x < 2147483648) : iI x >>> (iI 10 &&& 31) = iI (x / 1024) := sh_r h0 h1 (k := 10) (by decide) (by decide +kernel)
theorem sh_16 {x : Int} (h0 : 0 ≤ x) (h1 : x < 2147483648) : iI x >>> (iI 16 &&& 31) = iI (x / 65536) := sh_r h0 h1 (k := 16) (by decide) (by decide +kernel)
