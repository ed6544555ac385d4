/-! rows that make cells -/
theorem trw_zero (N : Nat) : trw N (fun _ => 0) = fun _ => (0 : Int32) := by
  funext j
  unfold trw
  split
  · exact iI_zero.symm
  · rfl
section Makes
variable {p : Program} {l : Launch} {e : Env} {R : Room} {s : State} {m : MethodId} {args : Array Value} {below : List Frame} {meth : Method} {c : Code} {D : va_G} {ca : Nat → ClassId} {A : Nat → Prop} {nL : Nat} {Q : State → Prop} {cells slots : Nat} {cc : ByteArray} {own : String} {L : List Nat} {M : Mem} {pc n : Nat} {lv : List (Nat × Value)} {st : List Value}
theorem pl_new {A0 : Nat → Prop} {q : Nat} {x : va_E} (hD : va_D A0 (va_pl L M ++ [(q, x)])) : q ∉ L := by
  intro hq
  obtain ⟨i, hi⟩ := pl_at (M := M) hq
  have hl := (List.getElem?_eq_some_iff.mp hi).1
  have h1 : (va_pl L M ++ [(q, x)])[i]? = some (q, M q) := by rw [List.getElem?_append_left hl]; exact hi
  have h2 : (va_pl L M ++ [(q, x)])[(va_pl L M).length]? = some (q, x) := by rw [List.getElem?_append_right (Nat.le_refl _), Nat.sub_self]; rfl
  have := hD.1 _ _ _ _ h1 h2 rfl
  omega
theorem g_newaI (X : Fx p s m args meth c D ca A nL cc own) {z : Int} (N : Nat) (hz : z = N) (hR : cells + 1 ≤ R.cells ∧ slots + N ≤ R.slots) (hN : N < 100000) (d : decode cc pc = .ok (.newarray .int, 2)) (hn : pc + 2 = n) (kk : ∀ (q : Nat) (L1 : List Nat) (M1 : Mem), q ∉ L → L1 = L ++ [q] → M1 q = cI ca N (fun _ => 0) → (∀ b, b ≠ q → M1 b = M b) → G p l e R s m args below meth c D A nL Q (cells + 1) (slots + N) L1 M1 n lv (.ref q :: st)) : G p l e R s m args below meth c D A nL Q cells slots L M pc lv (.int (iI z) :: st) := by
  intro H locs ls hP hD hS hl
  subst hn hz
  have hb4 : N * componentBytes .int ≤ 536870912 := by simp only [componentBytes]; omega
  refine va_newa (atype := .int) (ty := .int) (N' := N) (a0 := (N, .inl (trw N (fun _ => 0)))) X.1.1 X.1.2.1 (X.1.2.2.2.2 _ wa_int) rfl X.2.1 hP hD hS X.2.2.2.2.1 (fun cA => ?_) ?_ ?_ hb4 hR.1 hR.2 d (fun q cA H1 hK1 hP1 hD1 hS1 => ?_)
  · rw [trw_zero, vp_cell_i]; rfl
  · rw [iI_zero, iI_lt ⟨by omega, by omega⟩ r32_zero]; omega
  · have := iI_cl (x := (N : Int)) (by omega) (by omega); omega
  · have h1 : s.vm.findClass ("[" ++ (.int : FieldType).toString) = some (ca 1) := (X.2.1.2 1 (ca 1, .int) rfl).2
    have h2 : s.vm.findClass ("[" ++ (.int : FieldType).toString) = some cA := (hK1.2 6 (cA, .int) rfl).2
    have h3 : cA = ca 1 := Option.some.inj (h2.symm.trans h1)
    subst h3
    have hq := pl_new hD1
    rw [va_pl_push hq] at hP1 hD1
    exact kk q _ _ hq rfl (va_up_self _ _ _) (fun b hb => va_up_ne _ _ hb) H1 locs ls hP1 hD1 hS1 hl
theorem g_newaC (X : Fx p s m args meth c D ca A nL cc own) {z : Int} (N : Nat) (hz : z = N) (hR : cells + 1 ≤ R.cells ∧ slots + N ≤ R.slots) (hN : N < 100000) (d : decode cc pc = .ok (.newarray .char, 2)) (hn : pc + 2 = n) (kk : ∀ (q : Nat) (L1 : List Nat) (M1 : Mem), q ∉ L → L1 = L ++ [q] → M1 q = cC ca N (fun _ => 0) → (∀ b, b ≠ q → M1 b = M b) → G p l e R s m args below meth c D A nL Q (cells + 1) (slots + N) L1 M1 n lv (.ref q :: st)) : G p l e R s m args below meth c D A nL Q cells slots L M pc lv (.int (iI z) :: st) := by
  intro H locs ls hP hD hS hl
  subst hn hz
  have hb4 : N * componentBytes .char ≤ 536870912 := by simp only [componentBytes]; omega
  refine va_newa (atype := .char) (ty := .char) (N' := N) (a0 := (N, .inl (trw N (fun _ => 0)))) X.1.1 X.1.2.1 (X.1.2.2.2.2 _ wa_char) rfl X.2.1 hP hD hS X.2.2.2.2.1 (fun cA => ?_) ?_ ?_ hb4 hR.1 hR.2 d (fun q cA H1 hK1 hP1 hD1 hS1 => ?_)
  · rw [trw_zero, vp_cell_i]; rfl
  · rw [iI_zero, iI_lt ⟨by omega, by omega⟩ r32_zero]; omega
  · have := iI_cl (x := (N : Int)) (by omega) (by omega); omega
  · have h1 : s.vm.findClass ("[" ++ (.char : FieldType).toString) = some (ca 0) := (X.2.1.2 0 (ca 0, .char) rfl).2
    have h2 : s.vm.findClass ("[" ++ (.char : FieldType).toString) = some cA := (hK1.2 6 (cA, .char) rfl).2
    have h3 : cA = ca 0 := Option.some.inj (h2.symm.trans h1)
    subst h3
    have hq := pl_new hD1
    rw [va_pl_push hq] at hP1 hD1
    exact kk q _ _ hq rfl (va_up_self _ _ _) (fun b hb => va_up_ne _ _ hb) H1 locs ls hP1 hD1 hS1 hl
theorem g_newaZ (X : Fx p s m args meth c D ca A nL cc own) {z : Int} (N : Nat) (hz : z = N) (hR : cells + 1 ≤ R.cells ∧ slots + N ≤ R.slots) (hN : N < 100000) (d : decode cc pc = .ok (.newarray .boolean, 2)) (hn : pc + 2 = n) (kk : ∀ (q : Nat) (L1 : List Nat) (M1 : Mem), q ∉ L → L1 = L ++ [q] → M1 q = cZ ca N (fun _ => 0) → (∀ b, b ≠ q → M1 b = M b) → G p l e R s m args below meth c D A nL Q (cells + 1) (slots + N) L1 M1 n lv (.ref q :: st)) : G p l e R s m args below meth c D A nL Q cells slots L M pc lv (.int (iI z) :: st) := by
  intro H locs ls hP hD hS hl
  subst hn hz
  have hb4 : N * componentBytes .boolean ≤ 536870912 := by simp only [componentBytes]; omega
  refine va_newa (atype := .boolean) (ty := .boolean) (N' := N) (a0 := (N, .inl (trw N (fun _ => 0)))) X.1.1 X.1.2.1 (X.1.2.2.2.2 _ wa_boolean) rfl X.2.1 hP hD hS X.2.2.2.2.1 (fun cA => ?_) ?_ ?_ hb4 hR.1 hR.2 d (fun q cA H1 hK1 hP1 hD1 hS1 => ?_)
  · rw [trw_zero, vp_cell_i]; rfl
  · rw [iI_zero, iI_lt ⟨by omega, by omega⟩ r32_zero]; omega
  · have := iI_cl (x := (N : Int)) (by omega) (by omega); omega
  · have h1 : s.vm.findClass ("[" ++ (.boolean : FieldType).toString) = some (ca 2) := (X.2.1.2 2 (ca 2, .boolean) rfl).2
    have h2 : s.vm.findClass ("[" ++ (.boolean : FieldType).toString) = some cA := (hK1.2 6 (cA, .boolean) rfl).2
    have h3 : cA = ca 2 := Option.some.inj (h2.symm.trans h1)
    subst h3
    have hq := pl_new hD1
    rw [va_pl_push hq] at hP1 hD1
    exact kk q _ _ hq rfl (va_up_self _ _ _) (fun b hb => va_up_ne _ _ hb) H1 locs ls hP1 hD1 hS1 hl
theorem g_newq (X : Fx p s m args meth c D ca A nL cc own) {z : Int} {C : String} {index : Nat} (N t : Nat) (ht : (tyL ca)[t]? = some (ca t, .object C)) (hz : z = N) (wk : Cond.classLink own index C ∈ TB) (wo : Cond.arrayOver (.object C) ∈ NW) (hR : cells + 1 ≤ R.cells ∧ slots + N ≤ R.slots) (hN : N < 100000) (d : decode cc pc = .ok (.anewarray index, 3)) (hn : pc + 3 = n) (kk : ∀ (q : Nat) (L1 : List Nat) (M1 : Mem), q ∉ L → L1 = L ++ [q] → M1 q = cR ca t N (fun _ => none) → (∀ b, b ≠ q → M1 b = M b) → G p l e R s m args below meth c D A nL Q (cells + 1) (slots + N) L1 M1 n lv (.ref q :: st)) : G p l e R s m args below meth c D A nL Q cells slots L M pc lv (.int (iI z) :: st) := by
  intro H locs ls hP hD hS hl
  subst hn hz
  refine va_newq (C := C) (N' := N) X.1.1 X.1.2.1 X.1.2.2.2.1 (X.1.2.2.2.2 _ wk) (X.2.2.1 _ wo) X.2.1 hP hD hS X.2.2.2.2.1 ?_ ?_ (by omega) hR.1 hR.2 d (fun q cA H1 hK1 hP1 hD1 hS1 => ?_)
  · rw [iI_zero, iI_lt ⟨by omega, by omega⟩ r32_zero]; omega
  · have := iI_cl (x := (N : Int)) (by omega) (by omega); omega
  · obtain ⟨kA, comp, -, -, -, h1⟩ := (X.2.1.2 t (ca t, .object C) ht).2
    obtain ⟨kB, comp2, -, -, -, h2⟩ := (hK1.2 6 (cA, .object C) rfl).2
    have h3 : cA = ca t := Option.some.inj (h2.symm.trans h1)
    subst h3
    have hq := pl_new hD1
    rw [va_pl_push hq] at hP1 hD1
    exact kk q _ _ hq rfl (va_up_self _ _ _) (fun b hb => va_up_ne _ _ hb) H1 locs ls hP1 hD1 hS1 hl
theorem g_new (X : Fx p s m args meth c D ca A nL cc own) {C : String} {T : u_T} {N ci index : Nat} {ty : Nat → FieldType} (hc : Cls ci C T N ty) (wk : Cond.classLink own index C ∈ TB) (w1 : Cond.instantiable C N ∈ TB) (w0 : Cond.initialized C ∈ TB) (fs : List Value) (hfs : ∀ j, j < N → defaultValue (ty j) = vp_V fs j) (hR : cells + 1 ≤ R.cells ∧ slots + N ≤ R.slots) (d : decode cc pc = .ok (.new index, 3)) (hn : pc + 3 = n) (kk : ∀ (q : Nat) (L1 : List Nat) (M1 : Mem), q ∉ L → L1 = L ++ [q] → M1 q = .inr (ci, fs) → (∀ b, b ≠ q → M1 b = M b) → G p l e R s m args below meth c D A nL Q (cells + 1) (slots + N) L1 M1 n lv (.ref q :: st)) : G p l e R s m args below meth c D A nL Q cells slots L M pc lv st := by
  intro H locs ls hP hD hS hl
  subst hn
  refine va_new X.1.1 X.1.2.1 X.1.2.2.2.2 hc.1 ty hc.2.2.1 X.1.2.2.2.1 (X.1.2.2.2.2 _ wk) (X.1.2.2.2.2 _ w1) (X.1.2.2.2.2 _ w0) X.2.1 hP hD hS X.2.2.2.2.1 hc.2.1 hfs hR.1 hR.2 d (fun q H1 hP1 hD1 hS1 => ?_)
  have hq := pl_new hD1
  rw [va_pl_push hq] at hP1 hD1
  exact kk q _ _ hq rfl (va_up_self _ _ _) (fun b hb => va_up_ne _ _ hb) H1 locs ls hP1 hD1 hS1 hl
theorem g_objInit (X : Fx p s m args meth c D ca A nL cc own) {index a : Nat} (wl : Cond.methodLink own index ⟨"java/lang/Object", "<init>", "()V"⟩ ∈ TB) (hR : 1 ≤ R.frames ∧ 40 ≤ R.locals) (d : decode cc pc = .ok (.invokespecial index, 3)) (hn : pc + 3 = n) (kk : G p l e R s m args below meth c D A nL Q cells slots L M n lv st) (hst : (st.map fun v => v.category).sum ≤ 8) : G p l e R s m args below meth c D A nL Q cells slots L M pc lv (.ref a :: st) := by
  intro H locs ls hP hD hS hl
  subst hn
  refine W.objInit X.1.1 X.1.2.1 X.1.2.2.2.1 (X.1.2.2.2.2 _ wl) (X.1.2.2.2.2 _ wi_java_lang_Object_init) (X.1.2.2.2.2 _ wc_java_lang_Object) (g := F0 m pc ls (.ref a :: st)) (a := a) (rest := st) rfl (hl.1.trans X.1.2.2.1.symm) rfl d hR.1 ?_ (kk H locs ls hP hD hS hl)
  first | (show 2 * 0 + _ + 12 ≤ _; omega) | (show 2 * 0 + _ + _ ≤ _; omega) | omega
end Makes
