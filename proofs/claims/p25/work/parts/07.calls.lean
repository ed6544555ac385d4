section Calls2
variable {p : Program} {l : Launch} {e : Env} {R : Room} {s : State} {m : MethodId} {args : Array Value} {below : List Frame} {meth : Method} {c : Code} {D : va_G} {ca : Nat → ClassId} {A : Nat → Prop} {nL : Nat} {Q : State → Prop} {cells slots : Nat} {cc : ByteArray} {own : String} {L : List Nat} {M : Mem} {pc n : Nat} {lv : List (Nat × Value)} {st rest : List Value}
/-- ends -/
theorem qk_end {K : Option Value → List Nat → Mem → Prop} {H : Heap} {locs : List Loc} {r : Option Value} {t : State} (hK : K r L M) (hP : va_P D vwCl (va_pl L M) H) (hD : va_D A (va_pl L M)) (hS : va_S A s.heap H locs) (ht : t.heap = H) : Qk D A K args s (.returned r) t :=
  ⟨⟨r, L, M, rfl, hK, by rw [ht]; exact hP, hD⟩, hS.F ht⟩
theorem g_iret {K : Option Value → List Nat → Mem → Prop} {mc ms : Nat} (X : Fx p s m args meth c D ca A nL cc own) (hr : meth.sig.returnType = some .int) {v : Int32} (hc : cells ≤ mc ∧ slots ≤ ms) (d : decode cc pc = .ok (.ireturn, 1)) (hK : K (some (.int v)) L M) : G p l e R s m args below meth c D A nL (MQ below (Qk D A K) args s mc ms A) cells slots L M pc lv [.int v] := by
  intro H locs ls hP hD hS hl
  refine W.widen hc.1 hc.2 ?_
  exact W.iret X.1.1 X.1.2.1 hr (fun t ht _ => qk_end hK hP hD hS ht) hS.2.2 d X.2.2.2.2.2
theorem g_zret {K : Option Value → List Nat → Mem → Prop} {mc ms : Nat} (X : Fx p s m args meth c D ca A nL cc own) (hr : meth.sig.returnType = some .boolean) {v : Int32} (hv : narrow .boolean (.int v) = .int v) (hc : cells ≤ mc ∧ slots ≤ ms) (d : decode cc pc = .ok (.ireturn, 1)) (hK : K (some (.int v)) L M) : G p l e R s m args below meth c D A nL (MQ below (Qk D A K) args s mc ms A) cells slots L M pc lv [.int v] := by
  intro H locs ls hP hD hS hl
  refine W.widen hc.1 hc.2 ?_
  exact W.zret X.1.1 X.1.2.1 hr hv (fun t ht _ => qk_end hK hP hD hS ht) hS.2.2 d X.2.2.2.2.2
theorem nar_ite {c0 : Prop} [Decidable c0] : narrow .boolean (.int (iI (if c0 then 1 else 0))) = .int (iI (if c0 then 1 else 0)) := by
  by_cases h : c0
  · rw [if_pos h]; rfl
  · rw [if_neg h]; rfl
theorem g_vret {K : Option Value → List Nat → Mem → Prop} {mc ms : Nat} (X : Fx p s m args meth c D ca A nL cc own) (hr : meth.sig.returnType = none) (hc : cells ≤ mc ∧ slots ≤ ms) (d : decode cc pc = .ok (.return_, 1)) (hK : K none L M) : G p l e R s m args below meth c D A nL (MQ below (Qk D A K) args s mc ms A) cells slots L M pc lv [] := by
  intro H locs ls hP hD hS hl
  refine W.widen hc.1 hc.2 ?_
  exact W.vret X.1.1 X.1.2.1 hr (fun t ht _ => qk_end hK hP hD hS ht) hS.2.2 d X.2.2.2.2.2
/-- what a callee is given -/
theorem wp_at (X : Fx p s m args meth c D ca A nL cc own) {H : Heap} {locs : List Loc} (hP : va_P D vwCl (va_pl L M) H) (hD : va_D A (va_pl L M)) (hS : va_S A s.heap H locs) {U : State} (hU : U.heap = H) (hW : s.WarmedH U.vm) : Wp D ca L M H.size U :=
  ⟨by rw [hU], by rw [hU]; exact hP, pl_nodup hD, X.2.1.moved hW.alike, fun w hw => nw_warm (List.mem_filter.mp hw).2 hW (X.2.2.1 w hw), by
    rw [hU]
    exact X.2.2.2.1.on hW.alike hS.2.1 (fun q hq => hq.elim (fun h => pl_A hD q h) (fun h => X.2.2.2.2.1 q (Nat.le_trans hS.1 h)))⟩
theorem al_A (X : Fx p s m args meth c D ca A nL cc own) {H : Heap} {locs : List Loc} (hD : va_D A (va_pl L M)) (hS : va_S A s.heap H locs) : ∀ q, AL L H.size q → A q := fun q hq => hq.elim (fun h => pl_A hD q h) (fun h => X.2.2.2.2.1 q (Nat.le_trans hS.1 h))
theorem g_run (X : Fx p s m args meth c D ca A nL cc own) {mc ms : Nat} {K : Option Value → List Nat → Mem → Prop} {a : Array Value} {H : Heap} {locs : List Loc} {ls : Array Slot} (hD : va_D A (va_pl L M)) (hS : va_S A s.heap H locs) (hl : lv_has ls nL lv)
    (hr : va_Run p l e R s m args below meth c H locs cells slots mc ms (F0 m pc ls st) rest (Qk D (AL L H.size) K a) (AL L H.size))
    (hn : pc + 3 = n) (kk : ∀ r L1 M1, K r L1 M1 → G p l e R s m args below meth c D A nL Q (cells + mc) (slots + ms) L1 M1 n lv (r.toList ++ rest)) : W p l e R s m args below meth c H locs cells slots Q (F0 m pc ls st) := by
  subst hn
  intro T hT XS
  obtain ⟨v, st₀, t, T', L', h0, X', hL, e1, e2, ⟨⟨r, L1, M1, hv, hp, hP1, hD1⟩, hz, hk⟩, sto⟩ := hr T hT XS
  cases hv
  rw [h0] at hz hk
  have hA := al_A X hD hS
  obtain ⟨t2, a1, b1⟩ := kk v L1 M1 hp T'.heap (locs ++ L') ls (by rw [e1]; exact hP1) (hD1.weaken (fun _ _ _ h => hA _ h))
    ⟨Nat.le_trans hS.1 (by rw [e1]; exact hz), fun q h1 h2 => by rw [e1, hk q (Nat.lt_of_lt_of_le h1 hS.1) (fun z => h2 (hA q z))]; exact hS.2.1 q h1 h2, fun q hq => by
      rcases List.mem_append.mp hq with h | h
      · exact hS.2.2 q h
      · exact hA _ (hL q h)⟩ hl T' rfl X'
  exact ⟨t2, sto t2 a1, b1⟩
theorem good_cons {y : MethodName} {bytes : ByteArray} {maxL : Nat} {ret : Option FieldType} (w : Cond.code y bytes maxL ret ∈ TB) : GoodIn TB (wm y bytes maxL ret) := fun x hx => (List.mem_cons.mp hx).elim (fun h => tb_good x (h ▸ w)) (fun h => tb_good x h)
theorem good_app {b ws : List Cond} (h : ∀ w ∈ b, w ∈ TB) (g : GoodIn TB ws) : GoodIn TB (b ++ ws) := fun x hx => (List.mem_append.mp hx).elim (fun q => tb_good x (h x q)) (fun q => g x q)
abbrev CtArgs (y : MethodName) (k : Nat) : Prop := y.cls ≠ "java/lang/invoke/MethodHandle" ∧ y.cls ≠ "java/lang/invoke/VarHandle" ∧ (parseMethodDescriptor y.desc).map (fun d => d.parameters.length) = some k
/-- a method of the object's own class -/
theorem g_callV (X : Fx p s m args meth c D ca A nL cc own) {y : MethodName} {bytes : ByteArray} {maxL : Nat} {ret : Option FieldType} {h mc ms : Nat} {Pre : PreT} {Post : PostT} (hC : Ct l y bytes maxL ret h mc ms Pre Post) {index b ci k : Nat} {As fs : List Value} {C : String} {T : u_T} {N : Nat} {ty : Nat → FieldType} (hcl : Cls ci C T N ty) (hyC : y.cls = C)
    (hy : CtArgs y k) (hk : As.length = k) (wl : Cond.methodLink own index y ∈ TB) (wi : Cond.instanceMethod y ∈ TB) (wsel : Cond.selects C y y ∈ TB) (wc : Cond.code y bytes maxL ret ∈ TB) (w0 : Cond.initialized C ∈ TB) (hR : h + 1 ≤ R.frames ∧ 8 + (maxL + 11) + 40 * h ≤ R.locals)
    (hb : b ∈ L) (hMb : M b = .inr (ci, fs)) (hsm : (rest.map fun v => v.category).sum ≤ 8) (hcs : cells + mc ≤ R.cells ∧ slots + ms ≤ R.slots) (hst : st = As.reverse ++ .ref b :: rest) (d : decode cc pc = .ok (.invokevirtual index, 3)) (hn : pc + 3 = n) (hpre : Pre ca (.ref b :: As) L M)
    (kk : ∀ r L1 M1, Post ca (.ref b :: As) L M r L1 M1 → G p l e R s m args below meth c D A nL Q (cells + mc) (slots + ms) L1 M1 n lv (r.toList ++ rest)) : G p l e R s m args below meth c D A nL Q cells slots L M pc lv st := by
  intro H locs ls hP hD hS hl
  subst hk
  obtain ⟨q0, hq⟩ := pl_at (M := M) hb
  rw [hMb] at hq
  have hr := va_runV (p := p) (l := l) (e := e) (R := R) (s := s) (m := m) (args := args) (below := below) (meth := meth) (c := c) (H := H) (locs := locs) (cells := cells) (slots := slots) (C := C) (b := b) (As := As) (rest := rest) (g := F0 m pc ls st) X.1 (hC D ca (.ref b :: As) L M H.size hpre)
    (cwV As.length X.1.2.2.2.2 (good_app (b := [.methodLink own index y, .instanceMethod y, .selects C y y, .initialized C]) (by
      intro w hw
      simp only [List.mem_cons, List.mem_nil_iff, or_false] at hw
      rcases hw with rfl | rfl | rfl | rfl
      · exact wl
      · exact wi
      · exact wsel
      · exact w0) (good_cons wc)) rfl rfl rfl ⟨hyC, hy⟩ hR)
    ⟨fun a U g mk q => ⟨q.1, wp_calling q.2⟩, va_recv X.2.1 hP hcl.2.1 hq, fun U hU hW => ⟨rfl, wp_at X hP hD hS hU hW⟩⟩ rfl rfl hl.1 hst (lv_room hsm) d hcs
  exact g_run X hD hS hl hr hn kk
/-- a static method of the own class -/
theorem g_callS (X : Fx p s m args meth c D ca A nL cc own) {y : MethodName} {bytes : ByteArray} {maxL : Nat} {ret : Option FieldType} {h mc ms : Nat} {Pre : PreT} {Post : PostT} (hC : Ct l y bytes maxL ret h mc ms Pre Post) {index k : Nat} {As : List Value} (hyC : y.cls = own)
    (hy : CtArgs y k) (hk : As.length = k) (wl : Cond.methodLink own index y ∈ TB) (wt : Cond.static y ∈ TB) (wc : Cond.code y bytes maxL ret ∈ TB) (w0 : Cond.initialized own ∈ TB) (hR : h + 1 ≤ R.frames ∧ 8 + (maxL + 11) + 40 * h ≤ R.locals)
    (hsm : (rest.map fun v => v.category).sum ≤ 8) (hcs : cells + mc ≤ R.cells ∧ slots + ms ≤ R.slots) (hst : st = As.reverse ++ rest) (d : decode cc pc = .ok (.invokestatic index, 3)) (hn : pc + 3 = n) (hpre : Pre ca As L M)
    (kk : ∀ r L1 M1, Post ca As L M r L1 M1 → G p l e R s m args below meth c D A nL Q (cells + mc) (slots + ms) L1 M1 n lv (r.toList ++ rest)) : G p l e R s m args below meth c D A nL Q cells slots L M pc lv st := by
  intro H locs ls hP hD hS hl
  subst hk
  have hr := va_runS (p := p) (l := l) (e := e) (R := R) (s := s) (m := m) (args := args) (below := below) (meth := meth) (c := c) (H := H) (locs := locs) (cells := cells) (slots := slots) (As := As) (rest := rest) (g := F0 m pc ls st) X.1 (hC D ca As L M H.size hpre)
    (cwS As.length X.1.2.2.2.2 (good_app (b := [.methodLink own index y, .static y, .initialized own]) (by
      intro w hw
      simp only [List.mem_cons, List.mem_nil_iff, or_false] at hw
      rcases hw with rfl | rfl | rfl
      · exact wl
      · exact wt
      · exact w0) (good_cons wc)) rfl rfl rfl ⟨hyC, hy⟩ hR)
    ⟨fun a U g mk q => ⟨q.1, wp_calling q.2⟩, fun U hU hW => ⟨rfl, wp_at X hP hD hS hU hW⟩⟩ rfl rfl hl.1 hst (lv_room hsm) d hcs
  exact g_run X hD hS hl hr hn kk
/-- a static method of any class (the JDK's) -/
theorem g_callT (X : Fx p s m args meth c D ca A nL cc own) {y : MethodName} {bytes : ByteArray} {maxL : Nat} {ret : Option FieldType} {h mc ms : Nat} {Pre : PreT} {Post : PostT} (hC : Ct l y bytes maxL ret h mc ms Pre Post) {index k : Nat} {As : List Value}
    (hy : CtArgs y k) (hk : As.length = k) (wl : Cond.methodLink own index y ∈ TB) (wt : Cond.static y ∈ TB) (wc : Cond.code y bytes maxL ret ∈ TB) (w0 : Cond.initialized y.cls ∈ TB) (hR : h + 1 ≤ R.frames ∧ 8 + (maxL + 11) + 40 * h ≤ R.locals)
    (hsm : (rest.map fun v => v.category).sum ≤ 8) (hcs : cells + mc ≤ R.cells ∧ slots + ms ≤ R.slots) (hst : st = As.reverse ++ rest) (d : decode cc pc = .ok (.invokestatic index, 3)) (hn : pc + 3 = n) (hpre : Pre ca As L M)
    (kk : ∀ r L1 M1, Post ca As L M r L1 M1 → G p l e R s m args below meth c D A nL Q (cells + mc) (slots + ms) L1 M1 n lv (r.toList ++ rest)) : G p l e R s m args below meth c D A nL Q cells slots L M pc lv st := by
  intro H locs ls hP hD hS hl
  subst hk
  have hr := va_runS (p := p) (l := l) (e := e) (R := R) (s := s) (m := m) (args := args) (below := below) (meth := meth) (c := c) (H := H) (locs := locs) (cells := cells) (slots := slots) (As := As) (rest := rest) (g := F0 m pc ls st) X.1 (hC D ca As L M H.size hpre)
    (va_cwS As.length X.1.2.2.2.2 (good_app (b := [.methodLink own index y, .static y, .initialized y.cls]) (by
      intro w hw
      simp only [List.mem_cons, List.mem_nil_iff, or_false] at hw
      rcases hw with rfl | rfl | rfl
      · exact wl
      · exact wt
      · exact w0) (good_cons wc)) rfl rfl rfl hy hR)
    ⟨fun a U g mk q => ⟨q.1, wp_calling q.2⟩, fun U hU hW => ⟨rfl, wp_at X hP hD hS hU hW⟩⟩ rfl rfl hl.1 hst (lv_room hsm) d hcs
  exact g_run X hD hS hl hr hn kk
/-- a private method of a nest mate -/
theorem g_callVN (X : Fx p s m args meth c D ca A nL cc own) {y : MethodName} {bytes : ByteArray} {maxL : Nat} {ret : Option FieldType} {h mc ms : Nat} {Pre : PreT} {Post : PostT} (hC : Ct l y bytes maxL ret h mc ms Pre Post) {host : String} {index b ci k : Nat} {As fs : List Value} {C : String} {T : u_T} {N : Nat} {ty : Nat → FieldType} (hcl : Cls ci C T N ty) (hyC : y.cls = C)
    (hy : CtArgs y k) (hk : As.length = k) (wl : Cond.methodLinkNest own index y host ∈ NW) (wi : Cond.instanceMethod y ∈ TB) (wsel : Cond.selects C y y ∈ TB) (wc : Cond.code y bytes maxL ret ∈ TB) (w0 : Cond.initialized C ∈ TB) (hR : h + 1 ≤ R.frames ∧ 8 + (maxL + 11) + 40 * h ≤ R.locals)
    (hb : b ∈ L) (hMb : M b = .inr (ci, fs)) (hsm : (rest.map fun v => v.category).sum ≤ 8) (hcs : cells + mc ≤ R.cells ∧ slots + ms ≤ R.slots) (hst : st = As.reverse ++ .ref b :: rest) (d : decode cc pc = .ok (.invokevirtual index, 3)) (hn : pc + 3 = n) (hpre : Pre ca (.ref b :: As) L M)
    (kk : ∀ r L1 M1, Post ca (.ref b :: As) L M r L1 M1 → G p l e R s m args below meth c D A nL Q (cells + mc) (slots + ms) L1 M1 n lv (r.toList ++ rest)) : G p l e R s m args below meth c D A nL Q cells slots L M pc lv st := by
  intro H locs ls hP hD hS hl
  subst hk
  obtain ⟨q0, hq⟩ := pl_at (M := M) hb
  rw [hMb] at hq
  subst hyC
  have hr := va_runVN (p := p) (l := l) (e := e) (R := R) (s := s) (m := m) (args := args) (below := below) (meth := meth) (c := c) (H := H) (locs := locs) (cells := cells) (slots := slots) (C := y.cls) (b := b) (As := As) (rest := rest) (g := F0 m pc ls st) X.1 (hC D ca (.ref b :: As) L M H.size hpre)
    ⟨va_cnB As.length X.1.2.2.2.2 (good_cons wc) rfl rfl rfl (X.2.2.1 _ wl) (X.1.2.2.2.2 _ w0) hy hR, X.1.2.2.2.2 _ wi, X.1.2.2.2.2 _ wsel⟩
    ⟨fun a U g mk q => ⟨q.1, wp_calling q.2⟩, va_recv X.2.1 hP hcl.2.1 hq, fun U hU hW => ⟨rfl, wp_at X hP hD hS hU hW⟩⟩ rfl rfl hl.1 hst (lv_room hsm) d hcs
  exact g_run X hD hS hl hr hn kk
/-- a private static method of a nest mate -/
theorem g_callSN (X : Fx p s m args meth c D ca A nL cc own) {y : MethodName} {bytes : ByteArray} {maxL : Nat} {ret : Option FieldType} {h mc ms : Nat} {Pre : PreT} {Post : PostT} (hC : Ct l y bytes maxL ret h mc ms Pre Post) {host : String} {index k : Nat} {As : List Value} {C : String} (hyC : y.cls = C)
    (hy : CtArgs y k) (hk : As.length = k) (wl : Cond.methodLinkNest own index y host ∈ NW) (wt : Cond.static y ∈ TB) (wc : Cond.code y bytes maxL ret ∈ TB) (w0 : Cond.initialized C ∈ TB) (hR : h + 1 ≤ R.frames ∧ 8 + (maxL + 11) + 40 * h ≤ R.locals)
    (hsm : (rest.map fun v => v.category).sum ≤ 8) (hcs : cells + mc ≤ R.cells ∧ slots + ms ≤ R.slots) (hst : st = As.reverse ++ rest) (d : decode cc pc = .ok (.invokestatic index, 3)) (hn : pc + 3 = n) (hpre : Pre ca As L M)
    (kk : ∀ r L1 M1, Post ca As L M r L1 M1 → G p l e R s m args below meth c D A nL Q (cells + mc) (slots + ms) L1 M1 n lv (r.toList ++ rest)) : G p l e R s m args below meth c D A nL Q cells slots L M pc lv st := by
  intro H locs ls hP hD hS hl
  subst hk
  subst hyC
  have hr := va_runSN (p := p) (l := l) (e := e) (R := R) (s := s) (m := m) (args := args) (below := below) (meth := meth) (c := c) (H := H) (locs := locs) (cells := cells) (slots := slots) (As := As) (rest := rest) (g := F0 m pc ls st) X.1 (hC D ca As L M H.size hpre)
    ⟨va_cnB As.length X.1.2.2.2.2 (good_cons wc) rfl rfl rfl (X.2.2.1 _ wl) (X.1.2.2.2.2 _ w0) hy hR, X.1.2.2.2.2 _ wt, trivial⟩
    ⟨fun a U g mk q => ⟨q.1, wp_calling q.2⟩, fun U hU hW => ⟨rfl, wp_at X hP hD hS hU hW⟩⟩ rfl rfl hl.1 hst (lv_room hsm) d hcs
  exact g_run X hD hS hl hr hn kk
/-- constructors -/
theorem g_callI (X : Fx p s m args meth c D ca A nL cc own) {y : MethodName} {bytes : ByteArray} {maxL : Nat} {h mc ms : Nat} {Pre : PreT} {Post : PostT} (hC : Ct l y bytes maxL none h mc ms Pre Post) {index b k : Nat} {As : List Value} {C : String} (hyC : y.cls = C) (hin : y.name = "<init>")
    (hy : CtArgs y k) (hk : As.length = k) (wl : Cond.methodLink own index y ∈ TB) (wi : Cond.instanceMethod y ∈ TB) (wc : Cond.code y bytes maxL none ∈ TB) (w0 : Cond.initialized C ∈ TB) (hR : h + 1 ≤ R.frames ∧ 8 + (maxL + 11) + 40 * h ≤ R.locals)
    (hsm : (rest.map fun v => v.category).sum ≤ 8) (hcs : cells + mc ≤ R.cells ∧ slots + ms ≤ R.slots) (hst : st = As.reverse ++ .ref b :: rest) (d : decode cc pc = .ok (.invokespecial index, 3)) (hn : pc + 3 = n) (hpre : Pre ca (.ref b :: As) L M)
    (kk : ∀ r L1 M1, Post ca (.ref b :: As) L M r L1 M1 → G p l e R s m args below meth c D A nL Q (cells + mc) (slots + ms) L1 M1 n lv (r.toList ++ rest)) : G p l e R s m args below meth c D A nL Q cells slots L M pc lv st := by
  intro H locs ls hP hD hS hl
  subst hk
  subst hyC
  have hr := va_runI (p := p) (l := l) (e := e) (R := R) (s := s) (m := m) (args := args) (below := below) (meth := meth) (c := c) (H := H) (locs := locs) (cells := cells) (slots := slots) (b := b) (As := As) (rest := rest) (g := F0 m pc ls st) X.1 (hC D ca (.ref b :: As) L M H.size hpre)
    (cwI As.length X.1.2.2.2.2 (good_cons wc) rfl rfl rfl (X.1.2.2.2.2 _ w0) (X.1.2.2.2.2 _ wl) (X.1.2.2.2.2 _ wi) hin hy hR)
    ⟨fun a U g mk q => ⟨q.1, wp_calling q.2⟩, fun U hU hW => ⟨rfl, wp_at X hP hD hS hU hW⟩⟩ rfl rfl hl.1 hst (lv_room hsm) d hcs
  exact g_run X hD hS hl hr hn kk
theorem g_callIN (X : Fx p s m args meth c D ca A nL cc own) {y : MethodName} {bytes : ByteArray} {maxL : Nat} {h mc ms : Nat} {Pre : PreT} {Post : PostT} (hC : Ct l y bytes maxL none h mc ms Pre Post) {host : String} {index b k : Nat} {As : List Value} {C : String} (hyC : y.cls = C) (hin : y.name = "<init>")
    (hy : CtArgs y k) (hk : As.length = k) (wl : Cond.methodLinkNest own index y host ∈ NW) (wi : Cond.instanceMethod y ∈ TB) (wc : Cond.code y bytes maxL none ∈ TB) (w0 : Cond.initialized C ∈ TB) (hR : h + 1 ≤ R.frames ∧ 8 + (maxL + 11) + 40 * h ≤ R.locals)
    (hsm : (rest.map fun v => v.category).sum ≤ 8) (hcs : cells + mc ≤ R.cells ∧ slots + ms ≤ R.slots) (hst : st = As.reverse ++ .ref b :: rest) (d : decode cc pc = .ok (.invokespecial index, 3)) (hn : pc + 3 = n) (hpre : Pre ca (.ref b :: As) L M)
    (kk : ∀ r L1 M1, Post ca (.ref b :: As) L M r L1 M1 → G p l e R s m args below meth c D A nL Q (cells + mc) (slots + ms) L1 M1 n lv (r.toList ++ rest)) : G p l e R s m args below meth c D A nL Q cells slots L M pc lv st := by
  intro H locs ls hP hD hS hl
  subst hk
  subst hyC
  have hr := va_runIN (p := p) (l := l) (e := e) (R := R) (s := s) (m := m) (args := args) (below := below) (meth := meth) (c := c) (H := H) (locs := locs) (cells := cells) (slots := slots) (b := b) (As := As) (rest := rest) (g := F0 m pc ls st) X.1 (hC D ca (.ref b :: As) L M H.size hpre)
    ⟨va_cnB As.length X.1.2.2.2.2 (good_cons wc) rfl rfl rfl (X.2.2.1 _ wl) (X.1.2.2.2.2 _ w0) hy hR, hin, X.1.2.2.2.2 _ wi⟩
    ⟨fun a U g mk q => ⟨q.1, wp_calling q.2⟩, fun U hU hW => ⟨rfl, wp_at X hP hD hS hU hW⟩⟩ rfl rfl hl.1 hst (lv_room hsm) d hcs
  exact g_run X hD hS hl hr hn kk
end Calls2
