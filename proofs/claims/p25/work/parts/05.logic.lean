/-! ===== whole numbers as ints ===== -/
def iI (x : Int) : Int32 := Int32.ofInt x
def R32 (x : Int) : Prop := -2147483648 ≤ x ∧ x < 2147483648
theorem iI_toInt {x : Int} (h : R32 x) : (iI x).toInt = x := Int32.toInt_ofInt_of_le (by have := h.1; omega) (by have := h.2; omega)
theorem iI_self (y : Int32) : iI y.toInt = y := Int32.ofInt_toInt y
theorem iI_rng (y : Int32) : R32 y.toInt := ⟨by have := y.le_toInt; omega, by have := y.toInt_lt; omega⟩
theorem iI_add (a b : Int) : iI a + iI b = iI (a + b) := (Int32.ofInt_add a b).symm
theorem iI_sub (a b : Int) : iI a - iI b = iI (a - b) := (Int32.ofInt_sub a b).symm
theorem iI_mul (a b : Int) : iI a * iI b = iI (a * b) := (Int32.ofInt_mul a b).symm
theorem iI_lt {a b : Int} (ha : R32 a) (hb : R32 b) : iI a < iI b ↔ a < b := by rw [Int32.lt_iff_toInt_lt, iI_toInt ha, iI_toInt hb]
theorem iI_le {a b : Int} (ha : R32 a) (hb : R32 b) : iI a ≤ iI b ↔ a ≤ b := by rw [Int32.le_iff_toInt_le, iI_toInt ha, iI_toInt hb]
theorem iI_eq {a b : Int} (ha : R32 a) (hb : R32 b) : iI a = iI b ↔ a = b := by rw [← Int32.toInt_inj, iI_toInt ha, iI_toInt hb]
theorem iI_zero : (0 : Int32) = iI 0 := by decide +kernel
theorem r32_zero : R32 0 := ⟨by decide, by decide⟩
theorem iI_cl {x : Int} (h0 : 0 ≤ x) (h1 : x < 2147483648) : (((iI x).toNatClampNeg : Nat) : Int) = x := by
  show ((((iI x).toInt).toNat : Nat) : Int) = x
  rw [iI_toInt ⟨by omega, h1⟩]; omega
theorem iI_in {x : Int} {n : Nat} (h0 : 0 ≤ x) (h1 : x < n) (hn : n < 2147483648) : vp_in (iI x) n := vp_in_iff.mpr (by rw [iI_toInt ⟨by omega, by omega⟩]; exact ⟨h0, h1⟩)
theorem iI_div {a b : Int} (ha : 0 ≤ a) (ha2 : a < 2147483648) (hb : 0 < b) (hb2 : b < 2147483648) : iI a / iI b = iI (a / b) := by
  rw [← Int32.toInt_inj, Int32.toInt_div_of_ne_right _ _ (by
    intro h
    have h1 : (iI b).toInt = (-1 : Int32).toInt := by rw [h]
    rw [iI_toInt ⟨by omega, hb2⟩, show (-1 : Int32).toInt = -1 from by decide +kernel] at h1
    omega), iI_toInt ⟨by omega, ha2⟩, iI_toInt ⟨by omega, hb2⟩, Int.tdiv_eq_ediv_of_nonneg ha, iI_toInt]
  have h1 := Int.ediv_nonneg ha (by omega : (0 : Int) ≤ b)
  have h2 : a / b ≤ a := Int.ediv_le_self b ha
  exact ⟨by omega, by omega⟩
theorem iI_rem {a b : Int} (ha : 0 ≤ a) (ha2 : a < 2147483648) (hb : 0 < b) (hb2 : b < 2147483648) : iI a - iI a / iI b * iI b = iI (a % b) := by
  rw [iI_div ha ha2 hb hb2, iI_mul, iI_sub, Int.emod_def, Int.mul_comm]
theorem iI_ne0 {b : Int} (hb : 0 < b) (hb2 : b < 2147483648) : ¬ iI b = 0 := by
  rw [iI_zero, iI_eq ⟨by omega, hb2⟩ r32_zero]; omega
/-! ===== cells ===== -/
abbrev Mem : Type := Nat → va_E
def up {α : Type} (f : Int → α) (k : Int) (v : α) : Int → α := fun j => if j = k then v else f j
theorem up_eq {α : Type} (f : Int → α) (k : Int) (v : α) : up f k v k = v := if_pos rfl
theorem up_ne {α : Type} (f : Int → α) {k j : Int} (v : α) (h : j ≠ k) : up f k v j = f j := if_neg h
def trw (n : Nat) (f : Int → Int) : Nat → Int32 := fun j : Nat => if j < n then iI (f (j : Int)) else 0
def cC (ca : Nat → ClassId) (n : Nat) (f : Int → Int) : va_E := .inl (ca 0, n, .inl (trw n f))
def cI (ca : Nat → ClassId) (n : Nat) (f : Int → Int) : va_E := .inl (ca 1, n, .inl (trw n f))
def cZ (ca : Nat → ClassId) (n : Nat) (f : Int → Int) : va_E := .inl (ca 2, n, .inl (trw n f))
theorem trw_ext {n : Nat} {f g : Int → Int} (h : ∀ k, 0 ≤ k → k < n → f k = g k) : trw n f = trw n g := by
  funext j
  unfold trw
  by_cases hj : j < n
  · rw [if_pos hj, if_pos hj, h j (by omega) (by omega)]
  · rw [if_neg hj, if_neg hj]
theorem cI_ext {ca : Nat → ClassId} {n : Nat} {f g : Int → Int} (h : ∀ k, 0 ≤ k → k < n → f k = g k) : cI ca n f = cI ca n g := by unfold cI; rw [trw_ext h]
theorem cC_ext {ca : Nat → ClassId} {n : Nat} {f g : Int → Int} (h : ∀ k, 0 ≤ k → k < n → f k = g k) : cC ca n f = cC ca n g := by unfold cC; rw [trw_ext h]
theorem cZ_ext {ca : Nat → ClassId} {n : Nat} {f g : Int → Int} (h : ∀ k, 0 ≤ k → k < n → f k = g k) : cZ ca n f = cZ ca n g := by unfold cZ; rw [trw_ext h]
theorem trw_at {n : Nat} {f : Int → Int} {i : Int} (h0 : 0 ≤ i) (h1 : i < n) (hn : n < 2147483648) : trw n f (iI i).toNatClampNeg = iI (f i) := by
  have h := iI_cl h0 (by omega)
  unfold trw
  rw [if_pos (by omega), h]
def cR (ca : Nat → ClassId) (t : Nat) (n : Nat) (f : Int → Option Nat) : va_E := .inl (ca t, n, .inr (.inr (.inr (.inr (fun j : Nat => f (j : Int))))))
theorem up_row {n : Nat} {f : Int → Int} {i v : Int} (h0 : 0 ≤ i) (h1 : i < n) (hn : n < 2147483648) : upd (trw n f) (iI i).toNatClampNeg (iI v) = trw n (up f i v) := by
  funext j
  have h := iI_cl h0 (by omega)
  by_cases hj : j = (iI i).toNatClampNeg
  · subst hj
    simp only [upd, trw, up, h, if_true]
    rw [if_pos (by omega)]
  · have h2 : ¬ (j : Int) = i := by omega
    simp only [upd, trw, up, hj, h2, if_false]
theorem up_rowq {f : Int → Option Nat} {i : Int} {v : Option Nat} (h0 : 0 ≤ i) (h1 : i < 2147483648) : va_up (fun j : Nat => f (j : Int)) (iI i).toNatClampNeg v = (fun j : Nat => up f i v (j : Int)) := by
  funext j
  have h := iI_cl h0 h1
  by_cases hj : j = (iI i).toNatClampNeg
  · subst hj
    simp only [va_up, up, h, if_true]
  · have h2 : ¬ (j : Int) = i := by omega
    simp only [va_up, up, hj, h2, if_false]
abbrev tyL (ca : Nat → ClassId) : List (ClassId × FieldType) := [(ca 0, .char), (ca 1, .int), (ca 2, .boolean), (ca 3, .object RX0), (ca 4, .object RX3), (ca 5, .object RX4)]
/-! ===== the class's static rows ===== -/
def tLS : Int → Int := fun j => if j = 0 then 2 else if j = 1 then 1 else 0
def tMS : Int → Int := fun j => if j = 0 then 16 else if j = 1 then 12 else if j = 2 then 2 else 1
def tFS : Int → Int := fun j => if j = 0 then 8 else if j = 1 then 4 else 0
def tGP : Int → Int := fun j => if j < 2 then 0 else if j = 2 then 2 else if j < 5 then 3 else if j < 7 then 5 else if j < 11 then 7 else if j < 13 then 11 else 13
def tLN : Int → Int := fun j => if j < 2 then 0 else 1
def tMN : Int → Int := fun j => if j = 0 then 4095 else if j = 1 then 1023 else 200
def tBN : Int → Int := fun j => if j = 0 then 43 else if j = 1 then 42 else 59
def Sz (n d : String) (ty : FieldType) (N : Nat) (f : Int → Int) (A : Nat → Prop) (U : State) (H : Heap) : Prop := ∃ t : Nat, va_Z "StrideBanks" n d (.ref t) A U H ∧ va_T ty t N (fun j : Nat => .int (iI (f (j : Int)))) A U H
def St (A : Nat → Prop) (U : State) (H : Heap) : Prop := Sz "LEAST_SETTING" "[I" .int 4 tLS A U H ∧ Sz "MOST_SETTING" "[I" .int 4 tMS A U H ∧ Sz "FIRST_SETTING" "[I" .int 4 tFS A U H ∧ Sz "GREATEST_PRIME_TO" "[I" .int 17 tGP A U H
theorem Sz.on {n d : String} {ty : FieldType} {N : Nat} {f : Int → Int} {A B : Nat → Prop} {u U : State} {H H1 : Heap} (h : Sz n d ty N f A u H) (hvm : u.vm.Alike U.vm) (hq : ∀ a : Nat, a < H.size → ¬ A a → H1[a]? = H[a]?) (hAB : ∀ q, B q → A q) : Sz n d ty N f B U H1 := by
  obtain ⟨t, h1, h2⟩ := h
  exact ⟨t, ((h1.moved hvm).kept hq).narrow hAB, ((h2.moved hvm).kept hq).narrow hAB⟩
theorem St.on {A B : Nat → Prop} {u U : State} {H H1 : Heap} (h : St A u H) (hvm : u.vm.Alike U.vm) (hq : ∀ a : Nat, a < H.size → ¬ A a → H1[a]? = H[a]?) (hAB : ∀ q, B q → A q) : St B U H1 := by
  obtain ⟨h1, h2, h3, h4⟩ := h
  exact ⟨h1.on hvm hq hAB, h2.on hvm hq hAB, h3.on hvm hq hAB, h4.on hvm hq hAB⟩
/-! ===== words of nest mates and arrays: they stay ===== -/
theorem nw_warm {w : Cond} (hw : isNW w = true) {s U : State} (hW : s.WarmedH U.vm) (h : va_Nw w s) : va_Nw w U := by
  cases w <;> first | exact va_Nw.warmM hW h | exact va_Nw.warmF hW h | (rename_i ty; cases ty <;> first | exact va_AO.moved hW.alike h | (exact absurd hw (by simp [isNW]))) | (exact absurd hw (by simp [isNW]))
theorem nw_same {w : Cond} (hw : isNW w = true) {s U : State} (e : s.vm = U.vm) (h : va_Nw w s) : va_Nw w U := by
  have hA : s.vm.Alike U.vm := e ▸ Vm.Alike.refl _
  cases w <;> first | exact va_Nw.same rfl e h | (rename_i ty; cases ty <;> first | exact va_AO.moved hA h | (exact absurd hw (by simp [isNW]))) | (exact absurd hw (by simp [isNW]))
/-! ===== a world, a contract, a walk ===== -/
def AL (L : List Nat) (sz : Nat) : Nat → Prop := fun q => q ∈ L ∨ sz ≤ q
theorem pl_D {A : Nat → Prop} {L : List Nat} {M : Mem} (hn : L.Nodup) (hA : ∀ a ∈ L, A a) : va_D A (va_pl L M) := by
  refine ⟨fun i j x y hx hy hxy => ?_, fun k q hk => ?_⟩
  · simp only [va_pl, List.getElem?_map, Option.map_eq_some_iff] at hx hy
    obtain ⟨a, ha, rfl⟩ := hx
    obtain ⟨b, hb, rfl⟩ := hy
    have hab : a = b := hxy
    subst hab
    have hi := (List.getElem?_eq_some_iff.mp ha).1
    exact (List.getElem?_inj hi hn).mp (ha.trans hb.symm)
  · simp only [va_pl, List.getElem?_map, Option.map_eq_some_iff] at hk
    obtain ⟨a, ha, rfl⟩ := hk
    exact hA a (List.mem_of_getElem? ha)
theorem pl_nodup {A : Nat → Prop} {L : List Nat} {M : Mem} (h : va_D A (va_pl L M)) : L.Nodup := by
  refine List.pairwise_iff_getElem.mpr ?_
  intro i j hi hj hij he
  have e1 : L[i]? = some L[i] := List.getElem?_eq_getElem hi
  have e2 : L[j]? = some L[j] := List.getElem?_eq_getElem hj
  have h4 := h.1 i j (L[i], M L[i]) (L[j], M L[j]) (by simp only [va_pl, List.getElem?_map, e1, Option.map_some]) (by simp only [va_pl, List.getElem?_map, e2, Option.map_some]) he
  omega
theorem pl_A {A : Nat → Prop} {L : List Nat} {M : Mem} (h : va_D A (va_pl L M)) : ∀ a ∈ L, A a := by
  intro a ha
  obtain ⟨i, hi⟩ := List.getElem?_of_mem ha
  exact h.2 i (a, M a) (by simp [va_pl, hi])
def Wp (D : va_G) (ca : Nat → ClassId) (L : List Nat) (M : Mem) (sz : Nat) (U : State) : Prop :=
  U.heap.size = sz ∧ va_P D vwCl (va_pl L M) U.heap ∧ L.Nodup ∧ va_K D vwCl (tyL ca) U ∧ (∀ w ∈ NW, va_Nw w U) ∧ St (AL L sz) U U.heap
def Qk (D : va_G) (A : Nat → Prop) (K : Option Value → List Nat → Mem → Prop) : Array Value → State → Outcome → State → Prop := fun _ st oc t =>
  (∃ (r : Option Value) (L1 : List Nat) (M1 : Mem), oc = .returned r ∧ K r L1 M1 ∧ va_P D vwCl (va_pl L1 M1) t.heap ∧ va_D A (va_pl L1 M1)) ∧ va_F A st t
abbrev Rm (h mc ms : Nat) : Room := { frames := h, cells := mc, slots := ms, locals := 40 * h }
abbrev wm (y : MethodName) (cc : ByteArray) (maxL : Nat) (ret : Option FieldType) : List Cond := .code y cc maxL ret :: TB
abbrev PreT : Type := (Nat → ClassId) → List Value → List Nat → Mem → Prop
abbrev PostT : Type := (Nat → ClassId) → List Value → List Nat → Mem → Option Value → List Nat → Mem → Prop
def Ct (l : Launch) (y : MethodName) (cc : ByteArray) (maxL : Nat) (ret : Option FieldType) (h mc ms : Nat) (Pre : PreT) (Post : PostT) : Prop :=
  ∀ (D : va_G) (ca : Nat → ClassId) (av : List Value) (L : List Nat) (M : Mem) (sz : Nat), Pre ca av L M → Met l y (wm y cc maxL ret) (Rm h mc ms) (va_Pc av (Wp D ca L M sz)) (Qk D (AL L sz) (Post ca av L M)) mc ms (AL L sz)
def Fx (p : Program) (s : State) (m : MethodId) (args : Array Value) (meth : Method) (c : Code) (D : va_G) (ca : Nat → ClassId) (A : Nat → Prop) (nL : Nat) (cc : ByteArray) (own : String) : Prop :=
  CallFix p m c cc nL s args TB own ∧ va_K D vwCl (tyL ca) s ∧ (∀ w ∈ NW, va_Nw w s) ∧ St A s s.heap ∧ (∀ q, s.heap.size ≤ q → A q) ∧ meth.locks = false
def G (p : Program) (l : Launch) (e : Env) (R : Room) (s : State) (m : MethodId) (args : Array Value) (below : List Frame) (meth : Method) (c : Code) (D : va_G) (A : Nat → Prop) (nL : Nat) (Q : State → Prop) (cells slots : Nat) (L : List Nat) (M : Mem) (pc : Nat) (lv : List (Nat × Value)) (st : List Value) : Prop :=
  ∀ (H : Heap) (locs : List Loc) (ls : Array Slot), va_P D vwCl (va_pl L M) H → va_D A (va_pl L M) → va_S A s.heap H locs → lv_has ls nL lv → W p l e R s m args below meth c H locs cells slots Q (F0 m pc ls st)
theorem wp_calling {D : va_G} {ca : Nat → ClassId} {L : List Nat} {M : Mem} {sz : Nat} {U : State} {g : JFrame} {mk : MethodId} {a : Array Value} (h : Wp D ca L M sz U) : Wp D ca L M sz (U.calling g mk a) := by
  obtain ⟨h1, h2, h3, h4, h5, h6⟩ := h
  exact ⟨h1, h2, h3, va_K.moved (u := U) (U := U.calling g mk a) (Vm.Alike.refl U.vm) h4, fun w hw => nw_same (s := U) (U := U.calling g mk a) (List.mem_filter.mp hw).2 rfl (h5 w hw), h6.on (U := U.calling g mk a) (Vm.Alike.refl U.vm) (fun _ _ _ => rfl) (fun _ q => q)⟩
theorem Ct_of {l : Launch} {y : MethodName} {cc : ByteArray} {maxL : Nat} {ret : Option FieldType} {h mc ms : Nat} {Pre : PreT} {Post : PostT} {own : String} (hy : plainName y.cls = true) (hyo : y.cls = own) (hav : ∀ ca av L M, Pre ca av L M → (lg_sl av).length ≤ maxL)
    (body : ∀ (p : Program) (e : Env) (s : State) (m : MethodId) (args : Array Value) (below : List Frame) (meth : Method) (c : Code) (D : va_G) (ca : Nat → ClassId) (A : Nat → Prop) (av : List Value) (L : List Nat) (M : Mem), Pre ca av L M → Fx p s m args meth c D ca A maxL cc own → meth.sig.returnType = ret → (y.name = meth.name) →
      G p l e (Rm h mc ms) s m args below meth c D A maxL (MQ below (Qk D A (Post ca av L M)) args s mc ms A) 0 0 L M 0 (lv_args 0 av) []) : Ct l y cc maxL ret h mc ms Pre Post := by
  intro D ca av L M sz hpre
  refine Met.ofW (cc := cc) (maxL := maxL) (ret := ret) hy rfl ?_
  intro p e s m args below meth c s₁ B hml hv
  obtain ⟨rfl, hsz, hP, hN, hK, hNW, hSt⟩ := hv
  have hts := atoms_spec (ws := wm y cc maxL ret) B.pre
  have hown : s.vm.findClass own = some m.cls := hyo ▸ findClass_of_methodNamed B.named
  subst hsz
  have X : Fx p s m av.toArray meth c D ca (AL L s.heap.size) maxL cc own := ⟨⟨B.exec, B.bytes, hml, hown, fun w hw => hts w (List.mem_cons_of_mem _ hw)⟩, hK, hNW, hSt, fun q hq => Or.inr hq, B.notSynchronized⟩
  rw [lg_entry_eq]
  exact body p e s m av.toArray below meth c D ca (AL L s.heap.size) av L M hpre X B.returns ((name_of_methodNamed B.named B.method).1.symm) s.heap [] _ hP (pl_D hN (fun a ha => Or.inl ha)) va_S.rf (lv_entry av (hav ca av L M hpre))
