/-! ===== the class's state, its rows open ===== -/
def SBc (ca : Nat → ClassId) (L : List Nat) (M : Mem) (Sg : Int → Int → Nat) (be sa iz pa nu : Int → Int) (len nf st : Int) (c ct : Int → Int) : Prop :=
  Adr L Sg ∧ FX ca M Sg iz ∧ (M (Sg 10 5) = oPad Sg len nf ∧ M (Sg 10 6) = cC ca 60 pa ∧ M (Sg 10 7) = cI ca 60 nu) ∧ HS ca L M Sg st be ∧ isSt ca L M (Sg 0) c ∧ isSt ca L M (Sg 1) ct ∧ SL ca L M Sg sa iz
theorem Adr.dis {L : List Nat} {Sg : Int → Int → Nat} (h : Adr L Sg) {s t : Int} (s0 : 0 ≤ s) (s1 : s < 10) (t0 : 0 ≤ t) (t1 : t < 10) (hn : s ≠ t) : ∀ i j, 0 ≤ i → i < 24 → 0 ≤ j → j < 24 → Sg s i ≠ Sg t j := fun i j i0 i1 j0 j1 => h.ne (by unfold inD; omega) (by unfold inD; omega) (Or.inl hn)
section Sbc
variable {ca : Nat → ClassId} {L : List Nat} {M M0 M1 : Mem} {Sg : Int → Int → Nat} {g be sa iz pa nu : Int → Int} {len nf st : Int} {c ct : Int → Int}
theorem outA.refl (Sg : Int → Int → Nat) (M : Mem) : outA Sg M M := fun _ _ => rfl
theorem outA.trans (h : outA Sg M0 M) (h1 : outA Sg M M1) : outA Sg M0 M1 := fun x hx => (h1 x hx).trans (h x hx)
theorem outA.ofS {s : Int} (s0 : 0 ≤ s) (s1 : s < 10) (h : outS (Sg s) M M1) : outA Sg M M1 := fun x hx => h x (fun i i0 i1 => hx s i (by unfold inD; omega))
theorem outA.one {s k : Int} (hi : inD s k) (h : ∀ x, x ≠ Sg s k → M1 x = M x) : outA Sg M M1 := fun x hx => h x (hx s k hi)
theorem SBm.opn {S : AS} (h : SBm ca L M Sg S) : ∃ (c ct : Int → Int) (nf : Int) (nu : Int → Int), SBc ca L M Sg S.2.1 S.2.2.1 S.2.2.2.1 S.2.2.2.2.1 nu S.2.2.2.2.2.1 nf S.2.2.2.2.2.2 c ct ∧ Rel c S.1 := by
  obtain ⟨h1, h2, ⟨nf, nu, h3⟩, h4, ⟨c, h5, h6⟩, ⟨ct, h7⟩, h8⟩ := h
  exact ⟨c, ct, nf, nu, ⟨h1, h2, h3, h4, h5, h7, h8⟩, h6⟩
theorem SBc.adr (h : SBc ca L M Sg be sa iz pa nu len nf st c ct) : Adr L Sg := h.1
theorem SBc.obj (h : SBc ca L M Sg be sa iz pa nu len nf st c ct) : M (Sg 10 0) = oSB Sg := h.2.1.1
theorem SBc.slr (h : SBc ca L M Sg be sa iz pa nu len nf st c ct) : M (Sg 10 3) = cR ca 4 2 (slq Sg) := h.2.1.2.1
theorem SBc.szr (h : SBc ca L M Sg be sa iz pa nu len nf st c ct) : M (Sg 10 4) = cZ ca 2 iz := h.2.1.2.2
theorem SBc.pobj (h : SBc ca L M Sg be sa iz pa nu len nf st c ct) : M (Sg 10 5) = oPad Sg len nf := h.2.2.1.1
theorem SBc.ptx (h : SBc ca L M Sg be sa iz pa nu len nf st c ct) : M (Sg 10 6) = cC ca 60 pa := h.2.2.1.2.1
theorem SBc.pnu (h : SBc ca L M Sg be sa iz pa nu len nf st c ct) : M (Sg 10 7) = cI ca 60 nu := h.2.2.1.2.2
theorem SBc.hist (h : SBc ca L M Sg be sa iz pa nu len nf st c ct) : HS ca L M Sg st be := h.2.2.2.1
theorem SBc.hobj (h : SBc ca L M Sg be sa iz pa nu len nf st c ct) : M (Sg 10 1) = oHi Sg st := h.hist.obj
theorem SBc.now (h : SBc ca L M Sg be sa iz pa nu len nf st c ct) : isSt ca L M (Sg 0) c := h.2.2.2.2.1
theorem SBc.trial (h : SBc ca L M Sg be sa iz pa nu len nf st c ct) : isSt ca L M (Sg 1) ct := h.2.2.2.2.2.1
theorem SBc.slots (h : SBc ca L M Sg be sa iz pa nu len nf st c ct) : SL ca L M Sg sa iz := h.2.2.2.2.2.2
theorem SBc.fin (h : SBc ca L M Sg be sa iz pa nu len nf st c ct) (hR : Rel c g) (ho : outA Sg M0 M) : SBo ca L M0 M Sg (g, be, sa, iz, pa, len, st) :=
  SBo.same ⟨h.adr, h.2.1, ⟨nf, nu, h.2.2.1⟩, h.hist, ⟨c, h.now, hR⟩, ⟨ct, h.trial⟩, h.slots⟩ ho
/-- every cell but those of some parts is as it was -/
theorem SBc.kept (h : SBc ca L M Sg be sa iz pa nu len nf st c ct) (hf : ∀ s k, inD s k → M1 (Sg s k) = M (Sg s k)) : SBc ca L M1 Sg be sa iz pa nu len nf st c ct :=
  ⟨h.adr, ⟨(hf 10 0 (by unfold inD; omega)).trans h.obj, (hf 10 3 (by unfold inD; omega)).trans h.slr, (hf 10 4 (by unfold inD; omega)).trans h.szr⟩, ⟨(hf 10 5 (by unfold inD; omega)).trans h.pobj, (hf 10 6 (by unfold inD; omega)).trans h.ptx, (hf 10 7 (by unfold inD; omega)).trans h.pnu⟩, h.hist.kept (hf 10 1 (by unfold inD; omega)) (hf 10 2 (by unfold inD; omega)) (fun s k s0 s1 k0 k1 => hf s k (by unfold inD; omega)), h.now.kept (fun i i0 i1 => hf 0 i (by unfold inD; omega)), h.trial.kept (fun i i0 i1 => hf 1 i (by unfold inD; omega)), h.slots.kept (fun s k s0 s1 k0 k1 => hf s k (by unfold inD; omega))⟩
theorem SBc.toNow (h : SBc ca L M Sg be sa iz pa nu len nf st c ct) {c1 : Int → Int} (hs : isSt ca L M1 (Sg 0) c1) (ho : outS (Sg 0) M M1) : SBc ca L M1 Sg be sa iz pa nu len nf st c1 ct := by
  have hf : ∀ s k, inD s k → s ≠ 0 → M1 (Sg s k) = M (Sg s k) := fun s k hi hs => ho _ (fun i i0 i1 => h.adr.ne hi (by unfold inD; omega) (Or.inl hs))
  exact ⟨h.adr, ⟨(hf 10 0 (by unfold inD; omega) (by decide)).trans h.obj, (hf 10 3 (by unfold inD; omega) (by decide)).trans h.slr, (hf 10 4 (by unfold inD; omega) (by decide)).trans h.szr⟩, ⟨(hf 10 5 (by unfold inD; omega) (by decide)).trans h.pobj, (hf 10 6 (by unfold inD; omega) (by decide)).trans h.ptx, (hf 10 7 (by unfold inD; omega) (by decide)).trans h.pnu⟩, h.hist.kept (hf 10 1 (by unfold inD; omega) (by decide)) (hf 10 2 (by unfold inD; omega) (by decide)) (fun s k s0 s1 k0 k1 => hf s k (by unfold inD; omega) (by omega)), hs, h.trial.kept (fun i i0 i1 => hf 1 i (by unfold inD; omega) (by decide)), h.slots.kept (fun s k s0 s1 k0 k1 => hf s k (by unfold inD; omega) (by omega))⟩
theorem SBc.toTrial (h : SBc ca L M Sg be sa iz pa nu len nf st c ct) {c1 : Int → Int} (hs : isSt ca L M1 (Sg 1) c1) (ho : outS (Sg 1) M M1) : SBc ca L M1 Sg be sa iz pa nu len nf st c c1 := by
  have hf : ∀ s k, inD s k → s ≠ 1 → M1 (Sg s k) = M (Sg s k) := fun s k hi hs => ho _ (fun i i0 i1 => h.adr.ne hi (by unfold inD; omega) (Or.inl hs))
  exact ⟨h.adr, ⟨(hf 10 0 (by unfold inD; omega) (by decide)).trans h.obj, (hf 10 3 (by unfold inD; omega) (by decide)).trans h.slr, (hf 10 4 (by unfold inD; omega) (by decide)).trans h.szr⟩, ⟨(hf 10 5 (by unfold inD; omega) (by decide)).trans h.pobj, (hf 10 6 (by unfold inD; omega) (by decide)).trans h.ptx, (hf 10 7 (by unfold inD; omega) (by decide)).trans h.pnu⟩, h.hist.kept (hf 10 1 (by unfold inD; omega) (by decide)) (hf 10 2 (by unfold inD; omega) (by decide)) (fun s k s0 s1 k0 k1 => hf s k (by unfold inD; omega) (by omega)), h.now.kept (fun i i0 i1 => hf 0 i (by unfold inD; omega) (by decide)), hs, h.slots.kept (fun s k s0 s1 k0 k1 => hf s k (by unfold inD; omega) (by omega))⟩
theorem SBc.toRec (h : SBc ca L M Sg be sa iz pa nu len nf st c ct) {st1 : Int} {be1 : Int → Int} (hH : HS ca L M1 Sg st1 be1) (hs : isSt ca L M1 (Sg 0) c) (ho : ∀ x, (∀ k, 1 ≤ k → k ≤ 2 → x ≠ Sg 10 k) → (∀ s k, 4 ≤ s → s < 10 → 0 ≤ k → k < 24 → x ≠ Sg s k) → M1 x = M x) : SBc ca L M1 Sg be1 sa iz pa nu len nf st1 c ct ∧ outA Sg M M1 := by
  have hf : ∀ s k, inD s k → (s < 4 ∨ s = 10 ∧ (k = 0 ∨ 2 < k)) → M1 (Sg s k) = M (Sg s k) := fun s k hi hs => ho _ (fun j j0 j1 => h.adr.ne hi (by unfold inD; omega) (by omega)) (fun t j t0 t1 j0 j1 => h.adr.ne hi (by unfold inD; omega) (by omega))
  exact ⟨⟨h.adr, ⟨(hf 10 0 (by unfold inD; omega) (by decide)).trans h.obj, (hf 10 3 (by unfold inD; omega) (by decide)).trans h.slr, (hf 10 4 (by unfold inD; omega) (by decide)).trans h.szr⟩, ⟨(hf 10 5 (by unfold inD; omega) (by decide)).trans h.pobj, (hf 10 6 (by unfold inD; omega) (by decide)).trans h.ptx, (hf 10 7 (by unfold inD; omega) (by decide)).trans h.pnu⟩, hH, hs, h.trial.kept (fun i i0 i1 => hf 1 i (by unfold inD; omega) (by omega)), h.slots.kept (fun s k s0 s1 k0 k1 => hf s k (by unfold inD; omega) (by omega))⟩, fun x hx => ho x (fun k k0 k1 => hx 10 k (by unfold inD; omega)) (fun s k s0 s1 k0 k1 => hx s k (by unfold inD; omega))⟩
theorem SBc.toBack (h : SBc ca L M Sg be sa iz pa nu len nf st c ct) {st1 : Int} {c1 : Int → Int} (hH : HS ca L M1 Sg st1 be) (hs : isSt ca L M1 (Sg 0) c1) (ho : ∀ x, x ≠ Sg 10 1 → (∀ k, 0 ≤ k → k < 24 → x ≠ Sg 0 k) → M1 x = M x) : SBc ca L M1 Sg be sa iz pa nu len nf st1 c1 ct ∧ outA Sg M M1 := by
  have hf : ∀ s k, inD s k → s ≠ 0 → ¬ (s = 10 ∧ k = 1) → M1 (Sg s k) = M (Sg s k) := fun s k hi hs hn => ho _ (h.adr.ne hi (by unfold inD; omega) (by omega)) (fun j j0 j1 => h.adr.ne hi (by unfold inD; omega) (by omega))
  exact ⟨⟨h.adr, ⟨(hf 10 0 (by unfold inD; omega) (by decide) (by decide)).trans h.obj, (hf 10 3 (by unfold inD; omega) (by decide) (by decide)).trans h.slr, (hf 10 4 (by unfold inD; omega) (by decide) (by decide)).trans h.szr⟩, ⟨(hf 10 5 (by unfold inD; omega) (by decide) (by decide)).trans h.pobj, (hf 10 6 (by unfold inD; omega) (by decide) (by decide)).trans h.ptx, (hf 10 7 (by unfold inD; omega) (by decide) (by decide)).trans h.pnu⟩, hH, hs, h.trial.kept (fun i i0 i1 => hf 1 i (by unfold inD; omega) (by omega) (by omega)), h.slots.kept (fun s k s0 s1 k0 k1 => hf s k (by unfold inD; omega) (by omega) (by omega))⟩, fun x hx => ho x (hx 10 1 (by unfold inD; omega)) (fun k k0 k1 => hx 0 k (by unfold inD; omega))⟩
theorem SBc.toPad (h : SBc ca L M Sg be sa iz pa nu len nf st c ct) {pa1 nu1 : Int → Int} {len1 nf1 : Int} (h5 : M1 (Sg 10 5) = oPad Sg len1 nf1) (h6 : M1 (Sg 10 6) = cC ca 60 pa1) (h7 : M1 (Sg 10 7) = cI ca 60 nu1) (ho : ∀ x, x ≠ Sg 10 5 → x ≠ Sg 10 6 → x ≠ Sg 10 7 → M1 x = M x) : SBc ca L M1 Sg be sa iz pa1 nu1 len1 nf1 st c ct ∧ outA Sg M M1 := by
  have hf : ∀ s k, inD s k → ¬ (s = 10 ∧ 5 ≤ k) → M1 (Sg s k) = M (Sg s k) := fun s k hi hn => ho _ (h.adr.ne hi (by unfold inD; omega) (by omega)) (h.adr.ne hi (by unfold inD; omega) (by omega)) (h.adr.ne hi (by unfold inD; omega) (by omega))
  exact ⟨⟨h.adr, ⟨(hf 10 0 (by unfold inD; omega) (by decide)).trans h.obj, (hf 10 3 (by unfold inD; omega) (by decide)).trans h.slr, (hf 10 4 (by unfold inD; omega) (by decide)).trans h.szr⟩, ⟨h5, h6, h7⟩, h.hist.kept (hf 10 1 (by unfold inD; omega) (by decide)) (hf 10 2 (by unfold inD; omega) (by decide)) (fun s k s0 s1 k0 k1 => hf s k (by unfold inD; omega) (by omega)), h.now.kept (fun i i0 i1 => hf 0 i (by unfold inD; omega) (by omega)), h.trial.kept (fun i i0 i1 => hf 1 i (by unfold inD; omega) (by omega)), h.slots.kept (fun s k s0 s1 k0 k1 => hf s k (by unfold inD; omega) (by omega))⟩, fun x hx => ho x (hx 10 5 (by unfold inD; omega)) (hx 10 6 (by unfold inD; omega)) (hx 10 7 (by unfold inD; omega))⟩
theorem SBc.toSlot (h : SBc ca L M Sg be sa iz pa nu len nf st c ct) {k : Int} {c1 : Int → Int} (k0 : 0 ≤ k) (k1 : k < 2) (hs : isSt ca L M1 (Sg (2 + k)) c1) (hR : Rel c1 g) (h5 : g 5 ≤ 4) (hW : ∀ j, 0 ≤ j → j < 2 → iz j ≠ 0 → blk (110 * j) sa 5 ≤ 4) (ho : outS (Sg (2 + k)) M M1) : SBc ca L M1 Sg be (pbl 110 (110 * k) sa g) iz pa nu len nf st c ct := by
  have hf : ∀ s j, inD s j → s ≠ 2 + k → M1 (Sg s j) = M (Sg s j) := fun s j hi hs => ho _ (fun i i0 i1 => h.adr.ne hi (by unfold inD; omega) (Or.inl hs))
  refine ⟨h.adr, ⟨(hf 10 0 (by unfold inD; omega) (by omega)).trans h.obj, (hf 10 3 (by unfold inD; omega) (by omega)).trans h.slr, (hf 10 4 (by unfold inD; omega) (by omega)).trans h.szr⟩, ⟨(hf 10 5 (by unfold inD; omega) (by omega)).trans h.pobj, (hf 10 6 (by unfold inD; omega) (by omega)).trans h.ptx, (hf 10 7 (by unfold inD; omega) (by omega)).trans h.pnu⟩, h.hist.kept (hf 10 1 (by unfold inD; omega) (by omega)) (hf 10 2 (by unfold inD; omega) (by omega)) (fun s k s0 s1 k0 k1 => hf s k (by unfold inD; omega) (by omega)), h.now.kept (fun i i0 i1 => hf 0 i (by unfold inD; omega) (by omega)), h.trial.kept (fun i i0 i1 => hf 1 i (by unfold inD; omega) (by omega)), fun j j0 j1 => ?_⟩
  by_cases e : j = k
  · subst e; exact ⟨c1, hs, fun _ => rel_put hR h5⟩
  · obtain ⟨c2, q1, q2⟩ := h.slots j j0 j1
    exact ⟨c2, q1.kept (fun i i0 i1 => hf _ i (by unfold inD; omega) (by omega)), fun hz => rel_keep j0 e (q2 hz) (hW j j0 j1 hz)⟩
theorem SBc.toSaved (h : SBc ca L M Sg be sa iz pa nu len nf st c ct) {k : Int} {c1 : Int → Int} (k0 : 0 ≤ k) (k1 : k < 2) (hs : isSt ca L M (Sg (2 + k)) c1) (hR : Rel c1 (blk (110 * k) sa)) (h4 : M1 (Sg 10 4) = cZ ca 2 (up iz k 1)) (ho : ∀ x, x ≠ Sg 10 4 → M1 x = M x) : SBc ca L M1 Sg be sa (up iz k 1) pa nu len nf st c ct := by
  have hf : ∀ s j, inD s j → ¬ (s = 10 ∧ j = 4) → M1 (Sg s j) = M (Sg s j) := fun s j hi hs => ho _ (h.adr.ne hi (by unfold inD; omega) (by omega))
  refine ⟨h.adr, ⟨(hf 10 0 (by unfold inD; omega) (by omega)).trans h.obj, (hf 10 3 (by unfold inD; omega) (by omega)).trans h.slr, h4⟩, ⟨(hf 10 5 (by unfold inD; omega) (by omega)).trans h.pobj, (hf 10 6 (by unfold inD; omega) (by omega)).trans h.ptx, (hf 10 7 (by unfold inD; omega) (by omega)).trans h.pnu⟩, h.hist.kept (hf 10 1 (by unfold inD; omega) (by omega)) (hf 10 2 (by unfold inD; omega) (by omega)) (fun s k s0 s1 k0 k1 => hf s k (by unfold inD; omega) (by omega)), h.now.kept (fun i i0 i1 => hf 0 i (by unfold inD; omega) (by omega)), h.trial.kept (fun i i0 i1 => hf 1 i (by unfold inD; omega) (by omega)), fun j j0 j1 => ?_⟩
  by_cases e : j = k
  · subst e; exact ⟨c1, hs.kept (fun i i0 i1 => hf _ i (by unfold inD; omega) (by omega)), fun _ => hR⟩
  · obtain ⟨c2, q1, q2⟩ := h.slots j j0 j1
    exact ⟨c2, q1.kept (fun i i0 i1 => hf _ i (by unfold inD; omega) (by omega)), fun hz => q2 (by rw [up_ne _ _ e] at hz; exact hz)⟩
end Sbc
theorem isSt.putStride {ca : Nat → ClassId} {L : List Nat} {M M1 : Mem} {σ : Int → Nat} {c : Int → Int} (h : isSt ca L M σ c) {i v : Int} (h0 : 0 ≤ i) (h1 : i < 4) (hM : M1 (σ (20 + i)) = .inr (4, [.int (iI (c (70 + 10 * i))), .int (iI v), .int (iI (c (70 + 10 * i + 2))), .int (iI (c (70 + 10 * i + 3))), .int (iI (c (70 + 10 * i + 4))), .int (iI (c (70 + 10 * i + 5))), .int (iI (c (70 + 10 * i + 6))), .int (iI (c (70 + 10 * i + 7)))])) (hf : ∀ x, x ≠ σ (20 + i) → M1 x = M x) : isSt ca L M1 σ (up c (70 + 10 * i + 1) v) :=
  h.putRow h0 h1 (hM.trans (by rw [cRow, up_ne _ _ (by omega), up_eq, up_ne _ _ (by omega), up_ne _ _ (by omega), up_ne _ _ (by omega), up_ne _ _ (by omega), up_ne _ _ (by omega), up_ne _ _ (by omega)])) hf (fun k hk => up_ne _ _ (by omega))
/-! a store's rows of streams are turned -/
def roG (Sg : Int → Int → Nat) (ρ : Int → Nat) : Int → Int → Nat := fun s k => if s = 0 then ρ k else Sg s k
theorem roG_0 (Sg : Int → Int → Nat) (ρ : Int → Nat) : roG Sg ρ 0 = ρ := funext fun k => if_pos rfl
theorem roG_ne (Sg : Int → Int → Nat) (ρ : Int → Nat) {s : Int} (hs : s ≠ 0) : roG Sg ρ s = Sg s := funext fun k => if_neg hs
theorem cR_ext {ca : Nat → ClassId} {t n : Nat} {f f2 : Int → Option Nat} (h : ∀ j : Nat, f (j : Int) = f2 (j : Int)) : cR ca t n f = cR ca t n f2 := by
  unfold cR
  rw [show (fun j : Nat => f (j : Int)) = fun j : Nat => f2 (j : Int) from funext h]
theorem SBc.toRot {ca : Nat → ClassId} {L : List Nat} {M M1 : Mem} {Sg : Int → Int → Nat} {be sa iz pa nu : Int → Int} {len nf st : Int} {c ct c1 : Int → Int} (h : SBc ca L M Sg be sa iz pa nu len nf st c ct) {i n : Int} (i0 : 0 ≤ i) (i1 : i < n) (n4 : n ≤ 4) (hs : isSt ca L M1 (rotS (Sg 0) i n) c1) (ho : outS (Sg 0) M M1) :
    SBc ca L M1 (roG Sg (rotS (Sg 0) i n)) be sa iz pa nu len nf st c1 ct ∧ (∀ s k, inD s k → ∃ s' k', inD s' k' ∧ roG Sg (rotS (Sg 0) i n) s k = Sg s' k') ∧ outA Sg M M1 := by
  have hf : ∀ s k, inD s k → s ≠ 0 → M1 (Sg s k) = M (Sg s k) := fun s k hi hs => ho _ (fun i i0 i1 => h.adr.ne hi (by unfold inD; omega) (Or.inl hs))
  have hin : ∀ s k, inD s k → ∃ k', inD s k' ∧ roG Sg (rotS (Sg 0) i n) s k = Sg s k' ∧ (s ≠ 0 → k' = k) ∧ (s = 0 → k' = rotI i n k) := fun s k hi => by
    by_cases e : s = 0
    · subst e
      have hk : 0 ≤ k ∧ k < 24 := by unfold inD at hi; omega
      have := rotI_ok i0 i1 n4 hk.1 hk.2
      exact ⟨rotI i n k, by unfold inD; omega, by rw [roG_0]; rfl, fun q => absurd rfl q, fun _ => rfl⟩
    · exact ⟨k, hi, by rw [roG_ne _ _ e], fun _ => rfl, fun q => absurd q e⟩
  have e0 : roG Sg (rotS (Sg 0) i n) 0 0 = Sg 0 0 := by rw [roG_0, rotS, rotI_lo i0 i1 (by decide)]
  have en : ∀ s : Int, s ≠ 0 → roG Sg (rotS (Sg 0) i n) s = Sg s := fun s => roG_ne Sg _
  refine ⟨⟨⟨fun s k hi => ?_, fun s k s' k' hi hi' he => ?_⟩, ⟨?_, ?_, ?_⟩, ⟨?_, ?_, ?_⟩, ?_, ?_, ?_, fun j j0 j1 => ?_⟩, fun s k hi => ?_, outA.ofS (s := 0) (by decide) (by decide) ho⟩
  · obtain ⟨k', q1, q2, -⟩ := hin s k hi
    rw [q2]; exact h.adr.mem q1
  · obtain ⟨a, q1, q2, q3, q4⟩ := hin s k hi
    obtain ⟨b, r1, r2, r3, r4⟩ := hin s' k' hi'
    rw [q2, r2] at he
    obtain ⟨e1, e2⟩ := h.adr.2 _ _ _ _ q1 r1 he
    subst e1
    refine ⟨rfl, ?_⟩
    by_cases e : s = 0
    · exact rotI_inj i0 i1 ((q4 e).symm.trans (e2.trans (r4 e)))
    · exact (q3 e).symm.trans (e2.trans (r3 e))
  · rw [oSB, e0, en 1 (by decide), en 10 (by decide)]; exact (hf 10 0 (by unfold inD; omega) (by decide)).trans h.obj
  · rw [en 10 (by decide)]
    refine (hf 10 3 (by unfold inD; omega) (by decide)).trans (h.slr.trans (cR_ext fun j => ?_))
    unfold slq
    split
    · rw [en _ (by omega)]
    · rfl
  · rw [en 10 (by decide)]; exact (hf 10 4 (by unfold inD; omega) (by decide)).trans h.szr
  · rw [oPad, en 10 (by decide)]; exact (hf 10 5 (by unfold inD; omega) (by decide)).trans h.pobj
  · rw [en 10 (by decide)]; exact (hf 10 6 (by unfold inD; omega) (by decide)).trans h.ptx
  · rw [en 10 (by decide)]; exact (hf 10 7 (by unfold inD; omega) (by decide)).trans h.pnu
  · obtain ⟨π, p1, p2, p3, p4⟩ := h.hist
    refine ⟨π, p1, ?_, ?_, fun j j0 j1 => ?_⟩
    · rw [oHi, en 10 (by decide)]; exact (hf 10 1 (by unfold inD; omega) (by decide)).trans p2
    · rw [en 10 (by decide)]
      refine (hf 10 2 (by unfold inD; omega) (by decide)).trans (p3.trans (cR_ext fun j => ?_))
      unfold hsq
      split
      · have := p1.1 j (by omega) (by omega)
        rw [en _ (by omega)]
      · rfl
    · have hp := p1.1 j j0 j1
      obtain ⟨c2, q1, q2⟩ := p4 j j0 j1
      rw [en _ (by omega)]
      exact ⟨c2, q1.kept (fun i i0 i1 => hf _ i (by unfold inD; omega) (by omega)), q2⟩
  · rw [roG_0]; exact hs
  · rw [en 1 (by decide)]; exact h.trial.kept (fun i i0 i1 => hf 1 i (by unfold inD; omega) (by decide))
  · obtain ⟨c2, q1, q2⟩ := h.slots j j0 j1
    rw [en _ (by omega)]
    exact ⟨c2, q1.kept (fun i i0 i1 => hf _ i (by unfold inD; omega) (by omega)), q2⟩
  · obtain ⟨k', q1, q2, -⟩ := hin s k hi
    exact ⟨s, k', q1, q2⟩
