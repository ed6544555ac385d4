/-! ===== a row laid from a static one ===== -/
theorem cpy_st {f g : Int → Int} : va_cpy (fun j : Nat => iI (f (j : Int))) (trw 4 g) 0 0 4 = trw 4 f := by
  funext k
  simp only [va_cpy, trw, Nat.zero_le, true_and, Nat.zero_add, Nat.sub_zero]
  by_cases h : k < 4
  · simp only [h, if_true]
  · simp only [h, if_false]
section CopyT
variable {p : Program} {l : Launch} {e : Env} {R : Room} {s : State} {m : MethodId} {args : Array Value} {below : List Frame} {meth : Method} {c : Code} {D : va_G} {ca : Nat → ClassId} {A : Nat → Prop} {nL : Nat} {Q : State → Prop} {cells slots : Nat} {cc : ByteArray} {own : String} {L : List Nat} {M : Mem} {pc n : Nat} {lv : List (Nat × Value)} {st : List Value}
theorem g_copyT (X : Fx p s m args meth c D ca A nL cc own) {index a t : Nat} {f g : Int → Int} (hlink : Cond.methodLink own index arraycopyName ∈ TB) (ha : a ∈ L) (hM : M a = cI ca 4 g) (hX : va_T .int t 4 (fun j : Nat => .int (iI (f (j : Int)))) A s s.heap) (hR : 1 ≤ R.frames ∧ nativeFrameWords "java/lang/System" "arraycopy" 5 + 11 ≤ R.locals) (d : decode cc pc = .ok (.invokestatic index, 3)) (hn : pc + 3 = n) (kk : ∀ M1 : Mem, M1 a = cI ca 4 f → (∀ b, b ≠ a → M1 b = M b) → G p l e R s m args below meth c D A nL Q cells slots L M1 n lv []) : G p l e R s m args below meth c D A nL Q cells slots L M pc lv [.int (iI 4), .int (iI 0), .ref a, .int (iI 0), .ref t] := by
  intro H locs ls hP hD hS hl T hT Y
  subst hn
  have p0 : ¬ iI 0 < 0 := by decide +kernel
  have p4 : ¬ iI 4 < 0 := by decide +kernel
  have n0 : (iI 0).toNatClampNeg = 0 := by decide +kernel
  have n4 : (iI 4).toNatClampNeg = 4 := by decide +kernel
  have i0 : (iI 0).toInt = 0 := by decide +kernel
  have i4 : (iI 4).toInt = 4 := by decide +kernel
  obtain ⟨q1, hq⟩ := pl_at (M := M) ha
  have hq1 := hq
  rw [hM] at hq1
  obtain ⟨scr, s1, ⟨s2, k0, hk0, cm0, hkk0⟩, s3, s4, -, s6, s7⟩ := hX
  have hc0 : H[t]? = some scr := (hS.2.1 t (Array.getElem?_eq_some_iff.mp s1).1 s7).trans s1
  have hc1 : H[a]? = some (vp_cell (ca 1) (4, .inl (trw 4 g))) := hP q1 _ hq1
  obtain ⟨-, k1, hk1, cm1, hkk1⟩ := (X.2.1.2 1 _ rfl).1 4 (fun j => .int (trw 4 g j))
  obtain ⟨vm', Y2, step⟩ := Y.arraycopy X.1.1 X.1.2.2.2.1 (X.1.2.2.2.2 _ hlink) (X.1.2.2.2.2 _ wn_java_lang_System_arraycopy) (X.1.2.2.2.2 _ wt_java_lang_System_arraycopy) (X.1.2.2.2.2 _ w0_J10) (src := t) (dst := a) (cs := scr) (cd := vp_cell (ca 1) (4, .inl (trw 4 g))) (srcPos := iI 0) (destPos := iI 0) (n := iI 4) (by rw [hT]; exact hc0) (by rw [hT]; exact hc1) s2 (fun _ h => by cases h) s3 (fun h => by cases h) hk0 hk1 hkk0 hkk1 (show ((refKind FieldType.int != refKind FieldType.int) || (!refKind FieldType.int && FieldType.int != FieldType.int)) = false by decide +kernel) p0 p0 p4
    (by rw [i0, i4]; omega)
    (by rw [i0, i4]; show ¬ _ > ((arrV (ca 1) 4 (fun j => .int (trw 4 g j))).slots.size : Int); rw [arrV_size]; omega)
    (fun vm1 _ i hi => by
      rw [n4] at hi
      have e : scr.slots.getD ((iI 0).toNatClampNeg + i) .null = .int (iI (f (i : Int))) := by
        rw [n0, Nat.zero_add, Array.getD_eq_getD_getElem?, s6 i hi]; rfl
      rw [e]
      exact ⟨rfl, trivial⟩)
    (g := F0 m pc ls [.int (iI 4), .int (iI 0), .ref a, .int (iI 0), .ref t]) rfl (by rw [X.1.2.2.1]; exact hl.1) (rest := []) rfl (by rw [X.1.2.1]; exact d) hR.1 (by show 2 * 0 + 0 + _ ≤ _; have := hR.2; omega)
  have e1 : copied scr (vp_cell (ca 1) (4, .inl (trw 4 g))) (iI 0) (iI 0) (iI 4) = vp_cell (ca 1) (4, .inl (trw 4 f)) := by
    have h := va_copiedX (fun z => Value.int z) scr (ca 1) (n0 := 4) (n1 := 4) (sp := 0) (dp := 0) (n := 4) (fun j : Nat => iI (f (j : Int))) (trw 4 g) s6 (by decide)
    rw [cpy_st] at h
    unfold copied
    rw [n0, n4]
    exact h
  rw [e1] at Y2 step
  have hlt : a < H.size := (Array.getElem?_eq_some_iff.mp hc1).1
  have oq : ∀ q : Nat, q ≠ a → (H.setIfInBounds a (vp_cell (ca 1) (4, .inl (trw 4 f))))[q]? = H[q]? := fun q hq2 => by simp [Array.getElem?_setIfInBounds, Ne.symm hq2]
  have hP1 := hP.set hD hq1 (e := .inl (ca 1, 4, .inl (trw 4 f))) (H1 := H.setIfInBounds a (vp_cell (ca 1) (4, .inl (trw 4 f)))) (show (H.setIfInBounds a (vp_cell (ca 1) (4, .inl (trw 4 f))))[a]? = some (vp_cell (ca 1) (4, .inl (trw 4 f))) by simp [Array.getElem?_setIfInBounds, hlt]) oq
  have hD1 := hD.set hq1 (e := .inl (ca 1, 4, .inl (trw 4 f)))
  rw [pl_set hD ha hq] at hP1 hD1
  have hAa : A a := hD.2 q1 _ hq1
  obtain ⟨z, a1, b1⟩ := kk _ (va_up_self _ _ _) (fun b hb => va_up_ne _ _ hb) _ _ ls hP1 hD1 ⟨by simp; exact hS.1, fun q g1 g2 => (oq q (fun h => g2 (h ▸ hAa))).trans (hS.2.1 q g1 g2), fun q h => by
      rcases List.mem_append.mp h with h | h
      · exact hS.2.2 q h
      · obtain ⟨w, -, hw⟩ := List.mem_map.mp h
        rw [← hw]
        exact hAa⟩ hl _ (by rw [← hT]; rfl) Y2
  exact ⟨z, step z a1, b1⟩
end CopyT
