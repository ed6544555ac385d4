/-! ===== the class's object, new ===== -/
def Nw (ca : Nat → ClassId) (L Lp : List Nat) (M M0 : Mem) (Sg : Int → Int → Nat) (o : Nat) : Prop :=
  Fam L Lp (dm 2 7 6) Sg ∧ M0 o = .inr (5, [.ref (Sg 0 0), .ref (Sg 1 0), .ref (Sg 10 1), .ref (Sg 10 3), .ref (Sg 10 4), .ref (Sg 10 5)]) ∧ isSt ca Lp M0 (Sg 0) cS0 ∧ isSt ca Lp M0 (Sg 1) cS0 ∧ M0 (Sg 10 1) = .inr (1, [.ref (Sg 10 2), .int (iI 0)]) ∧ M0 (Sg 10 2) = cR ca 4 6 (rwh (fun j => Sg (4 + j)) 6) ∧ (∀ j, 0 ≤ j → j < 6 → isSt ca Lp M0 (Sg (4 + j)) cS0) ∧ M0 (Sg 10 4) = cZ ca 2 (fun _ => 0) ∧ M0 (Sg 10 5) = .inr (2, [.ref (Sg 10 6), .int (iI 0), .ref (Sg 10 7), .int (iI 0)]) ∧ M0 (Sg 10 6) = cC ca 60 (fun _ => 0) ∧ M0 (Sg 10 7) = cI ca 60 (fun _ => 0) ∧ ∀ b ∈ L, b ≠ o → M0 b = M b
theorem rel_S0 : Rel cS0 S0.1 := by
  have lo : ∀ k, 6 ≤ k → S0.1 k = 0 := fun k hk => by
    show up (up z0 0 8) 1 4 k = 0
    rw [up_ne _ _ (by omega), up_ne _ _ (by omega)]; rfl
  refine ⟨⟨rfl, rfl, rfl, rfl, rfl, rfl⟩, fun b b0 b1 => ?_, fun i i0 i1 => ?_⟩
  · have c1 : ∀ k, 0 ≤ k → k < 4 → k ≠ 1 → cS0 (6 + 4 * b + k) = 0 := fun k k0 k1 k2 => by unfold cS0; rw [if_neg (by omega), if_neg (by omega), if_neg (by omega)]
    have c0 := c1 0 (by decide) (by decide) (by decide)
    rw [Int.add_zero] at c0
    have cm : cS0 (6 + 4 * b + 1) = -1 := by unfold cS0; rw [if_neg (by omega), if_neg (by omega), if_pos (by omega)]
    rw [c0, c1 2 (by decide) (by decide) (by decide), c1 3 (by decide) (by decide) (by decide), cm, lo _ (by omega), lo _ (by omega), lo _ (by omega)]
    exact ⟨rfl, rfl, rfl, fun h => absurd h (by decide), by decide, by decide⟩
  · have e : S0.1 5 = 0 := rfl
    rw [e] at i1; omega
theorem wf_S0 : WfA S0 := by
  have lo : ∀ k, 6 ≤ k → S0.1 k = 0 := fun k hk => by
    show up (up z0 0 8) 1 4 k = 0
    rw [up_ne _ _ (by omega), up_ne _ _ (by omega)]; rfl
  have e0 : S0.1 0 = 8 := rfl
  have e4 : S0.1 4 = 0 := rfl
  have e5 : S0.1 5 = 0 := rfl
  refine ⟨⟨⟨?_, fun b b0 b1 => ?_, fun i i0 i1 => ?_⟩, fun b b0 b1 => ?_, by rw [e4]; decide⟩, ⟨Int.le_refl 0, (by decide : (0 : Int) ≤ 60)⟩, ⟨Int.le_refl 0, (by decide : (0 : Int) ≤ 6)⟩, fun k k0 k1 => ⟨Int.le_refl 0, (by decide : (0 : Int) ≤ 255)⟩, fun j j0 j1 => ?_, fun k k0 k1 => ⟨Or.inl rfl, fun h => absurd rfl h⟩⟩
  · unfold InvS
    rw [e0, show S0.1 1 = 4 from rfl, show S0.1 2 = 0 from rfl, show S0.1 3 = 0 from rfl, e4, e5]
    decide
  · rw [lo (6 + 4 * b) (by omega), lo (6 + 4 * b + 1) (by omega), e4]; decide
  · rw [e5] at i1; omega
  · rw [lo _ (by omega)]
  · have : S0.2.2.2.2.2.2 = 0 := rfl
    omega
section NwS
variable {ca : Nat → ClassId} {L Lp L1 : List Nat} {M M0 M1 : Mem} {Sg : Int → Int → Nat} {o : Nat} {τ : Int → Int → Nat}
theorem Nw.done (h : Nw ca L Lp M M0 Sg o) (ho : o ∈ L) (hI : InFm ca Lp L1 M0 M1 (Sg 10 3) 2 τ 2) : ∃ Sg2, Sg2 10 0 = o ∧ SBm ca L1 M1 Sg2 S0 ∧ (∀ b ∈ L, b ∈ L1) ∧ ∀ b ∈ L, b ≠ o → M1 b = M b := by
  obtain ⟨hF, ho0, ha, hb, hh, hhr, hhs, hz, hp, ht, hn, hfr⟩ := h
  have hop : o ∈ Lp := hF.1 _ ho
  have hF2 : Fam L L1 (dm 4 7 6) (faA Sg 2 2 τ) := hF.fam hI.sub (fun s k hd => by unfold dm at hd ⊢; omega) (fun j k j0 j1 k0 k1 => ⟨(hI.st j0 j1).mem k0 k1, hI.new j0 j1 k0 k1⟩) hI.inj
  have hA := hF2.adr ho
  have f : ∀ s, ¬ s = 10 → ¬ (2 ≤ s ∧ s < 4) → ceA (faA Sg 2 2 τ) 0 o s = Sg s := fun s h1 h2 => funext fun k => by rw [ceA, if_neg (by omega), faA, if_neg (by omega)]
  have ft : ∀ j, 0 ≤ j → j < 2 → ceA (faA Sg 2 2 τ) 0 o (2 + j) = τ j := fun j j0 j1 => funext fun k => by rw [ceA, if_neg (by omega), faA, if_pos (by omega), show 2 + j - 2 = j by omega]
  have fc : ∀ k, ¬ k = 0 → ceA (faA Sg 2 2 τ) 0 o 10 k = Sg 10 k := fun k h1 => by rw [ceA, if_neg (by omega), faA, if_neg (by omega)]
  have fo : ceA (faA Sg 2 2 τ) 0 o 10 0 = o := if_pos ⟨rfl, rfl⟩
  have ne3 : ∀ s k, dm 2 7 6 s k → ¬ (s = 10 ∧ k = 3) → Sg s k ≠ Sg 10 3 := fun s k hd hk e => hk (hF.2.2 s k 10 3 hd (by unfold dm; omega) e)
  have kp : ∀ s k, dm 2 7 6 s k → ¬ (s = 10 ∧ k = 3) → M1 (Sg s k) = M0 (Sg s k) := fun s k hd hk => hI.fr _ (hF.2.1 s k hd).1 (ne3 s k hd hk)
  have o3 : o ≠ Sg 10 3 := fun e => (hF.2.1 10 3 (by unfold dm; omega)).2 (e ▸ ho)
  have ks : ∀ s, (0 ≤ s ∧ s < 2) ∨ (4 ≤ s ∧ s < 10) → ∀ c, isSt ca Lp M0 (Sg s) c → isSt ca L1 M1 (Sg s) c := fun s hs c q => (q.kept (fun i i0 i1 => kp s i (by unfold dm; omega) (by omega))).mono hI.sub
  refine ⟨ceA (faA Sg 2 2 τ) 0 o, fo, ⟨hA, ⟨?_, ?_, ?_⟩, ⟨0, fun _ => 0, ?_, ?_, ?_⟩, ⟨id, ⟨fun j j0 j1 => ⟨j0, j1⟩, fun i j _ _ _ _ e => e⟩, ?_, ?_, fun j j0 j1 => ⟨cS0, ?_, fun hj => ?_⟩⟩, ⟨cS0, ?_, rel_S0⟩, ⟨cS0, ?_⟩, fun j j0 j1 => ⟨cS0, ?_, fun hj => absurd rfl hj⟩⟩, fun b hb => hI.sub _ (hF.1 b hb), fun b hb hbo => ?_⟩
  · rw [oSB, fo, f 0 (by decide) (by decide), f 1 (by decide) (by decide), fc 1 (by decide), fc 3 (by decide), fc 4 (by decide), fc 5 (by decide)]
    exact (hI.fr o hop o3).trans ho0
  · rw [fc 3 (by decide)]
    refine hI.row.trans (cR_ext fun j => ?_)
    unfold rwh slq
    by_cases q : (j : Int) < 2
    · rw [if_pos (by omega), if_pos q, ft j (by omega) q]
    · rw [if_neg (by omega), if_neg q]
  · rw [fc 4 (by decide)]; exact (kp 10 4 (by unfold dm; omega) (by decide)).trans hz
  · rw [oPad, fc 5 (by decide), fc 6 (by decide), fc 7 (by decide)]; exact (kp 10 5 (by unfold dm; omega) (by decide)).trans hp
  · rw [fc 6 (by decide)]; exact (kp 10 6 (by unfold dm; omega) (by decide)).trans ht
  · rw [fc 7 (by decide)]; exact (kp 10 7 (by unfold dm; omega) (by decide)).trans hn
  · rw [oHi, fc 1 (by decide), fc 2 (by decide)]; exact (kp 10 1 (by unfold dm; omega) (by decide)).trans hh
  · rw [fc 2 (by decide)]
    refine (kp 10 2 (by unfold dm; omega) (by decide)).trans (hhr.trans (cR_ext fun j => ?_))
    unfold rwh hsq
    by_cases q : (j : Int) < 6
    · rw [if_pos (by omega), if_pos q, f _ (by show ¬ 4 + (j : Int) = 10; omega) (by show ¬ (2 ≤ 4 + (j : Int) ∧ 4 + (j : Int) < 4); omega)]; rfl
    · rw [if_neg (by omega), if_neg q]
  · show isSt ca L1 M1 (ceA (faA Sg 2 2 τ) 0 o (4 + j)) cS0
    rw [f _ (by omega) (by omega)]; exact ks _ (by omega) _ (hhs j j0 j1)
  · have : S0.2.2.2.2.2.2 = 0 := rfl
    omega
  · rw [f 0 (by decide) (by decide)]; exact ks 0 (by decide) _ ha
  · rw [f 1 (by decide) (by decide)]; exact ks 1 (by decide) _ hb
  · rw [ft j j0 j1]; exact hI.st j0 j1
  · rw [hI.fr b (hF.1 b hb) (fun e => (hF.2.1 10 3 (by unfold dm; omega)).2 (e ▸ hb))]; exact hfr b hb hbo
end NwS
