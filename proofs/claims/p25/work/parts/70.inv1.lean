/-! ===== what holds of the numbers at all times: bounds of streams and banks, sums ===== -/
def PRw (g : Int → Int) (T q : Int) : Prop := (0 ≤ g (q + 7) ∧ g (q + 7) ≤ g (q + 6)) ∧ g (q + 6) + g (q + 2) - g (q + 3) ≤ T ∧ (g (q + 3) = 0 → 0 ≤ g (q + 8) ∧ g (q + 8) < T)
def PBk (g : Int → Int) (T K b : Int) : Prop := g (6 + 4 * b) < T + g 1 ∧ (0 ≤ g (6 + 4 * b + 2) ∧ g (6 + 4 * b + 2) ≤ K) ∧ (0 ≤ g (6 + 4 * b + 3) ∧ g (6 + 4 * b + 3) ≤ K) ∧ (g 2 = 2 → tGP (g 0) ≤ b → g (6 + 4 * b + 2) = 0)
def rqS (g : Int → Int) : Nat → Int
  | 0 => 0
  | k + 1 => rqS g k + g (6 + 4 * (k : Int) + 2)
def mdS (g : Int → Int) : Nat → Int
  | 0 => 0
  | k + 1 => mdS g k + g (6 + 4 * (k : Int) + 3)
def PSm (g : Int → Int) : Prop := ofG g 7 ≤ rqS g (g 0).toNat ∧ ofG g 8 ≤ mdS g (g 0).toNat
def PI (g : Int → Int) : Prop := (∀ i, 0 ≤ i → i < g 5 → PRw g (g 4) (70 + 10 * i)) ∧ (∀ b, 0 ≤ b → b < 16 → PBk g (g 4) (4 * g 4) b) ∧ PSm g
theorem PRw.of {g h : Int → Int} {T q : Int} (hP : PRw g T q) (e : ∀ k, 2 ≤ k → k < 9 → h (q + k) = g (q + k)) : PRw h T q := by
  unfold PRw at hP ⊢
  rw [e 7 (by decide) (by decide), e 6 (by decide) (by decide), e 2 (by decide) (by decide), e 3 (by decide) (by decide), e 8 (by decide) (by decide)]
  exact hP
theorem PRw.up1 {g : Int → Int} {T U q : Int} (hP : PRw g T q) (hT : T ≤ U) : PRw g U q := by
  unfold PRw at hP ⊢
  exact ⟨hP.1, by omega, fun h => by have := hP.2.2 h; omega⟩
theorem PBk.of {g h : Int → Int} {T K b : Int} (hP : PBk g T K b) (e0 : h 0 = g 0) (e1 : h 1 = g 1) (e2 : h 2 = g 2) (f0 : h (6 + 4 * b) = g (6 + 4 * b)) (f2 : h (6 + 4 * b + 2) = g (6 + 4 * b + 2)) (f3 : h (6 + 4 * b + 3) = g (6 + 4 * b + 3)) : PBk h T K b := by
  unfold PBk at hP ⊢
  rw [e0, e1, e2, f0, f2, f3]
  exact hP
theorem PBk.up1 {g : Int → Int} {T U K K2 b : Int} (hP : PBk g T K b) (hT : T ≤ U) (hK : K ≤ K2) : PBk g U K2 b := by
  unfold PBk at hP ⊢
  obtain ⟨a, c, d, e⟩ := hP
  exact ⟨by omega, by omega, by omega, e⟩
theorem ofV7 (g : Int → Int) (q : Int) : ofV g 7 q = g (q + 2) - g (q + 3) := if_pos rfl
theorem ofV8 (g : Int → Int) (q : Int) : ofV g 8 q = g (q + 6) := by rw [ofV, if_neg (by decide), if_pos rfl]
theorem ofV9 (g : Int → Int) (q : Int) : ofV g 9 q = g (q + 7) := by rw [ofV, if_neg (by decide), if_neg (by decide)]
theorem ofS_ext {g h : Int → Int} {w : Int} : ∀ k : Nat, (∀ i : Int, 0 ≤ i → i < k → ∀ m : Int, 2 ≤ m → m < 8 → h (70 + 10 * i + m) = g (70 + 10 * i + m)) → ofS h w k = ofS g w k
  | 0, _ => rfl
  | k + 1, e => by
    simp only [ofS]
    have q := e k (by omega) (by omega)
    rw [ofS_ext k (fun i i0 i1 => e i i0 (by omega)), ofV, ofV, q 2 (by decide) (by decide), q 3 (by decide) (by decide), q 6 (by decide) (by decide), q 7 (by decide) (by decide)]
theorem rqS_ext {g h : Int → Int} : ∀ k : Nat, (∀ b : Int, 0 ≤ b → b < k → h (6 + 4 * b + 2) = g (6 + 4 * b + 2)) → rqS h k = rqS g k
  | 0, _ => rfl
  | k + 1, e => by
    simp only [rqS]
    rw [rqS_ext k (fun i i0 i1 => e i i0 (by omega)), e k (by omega) (by omega)]
theorem mdS_ext {g h : Int → Int} : ∀ k : Nat, (∀ b : Int, 0 ≤ b → b < k → h (6 + 4 * b + 3) = g (6 + 4 * b + 3)) → mdS h k = mdS g k
  | 0, _ => rfl
  | k + 1, e => by
    simp only [mdS]
    rw [mdS_ext k (fun i i0 i1 => e i i0 (by omega)), e k (by omega) (by omega)]
/-- a turn: 1 if the stream stalls -/
def stl (g : Int → Int) (i : Int) : Int := if g (70 + 10 * i + 3) > 0 then 1 - asksR g i else 0
theorem stl_rng (g : Int → Int) (i : Int) : (stl g i = 0 ∨ stl g i = 1) ∧ stl g i + askR g i ≤ 1 := by
  have := asksR_rng g i
  unfold stl askR
  split <;> omega
theorem askC_row {g : Int → Int} (hI : Inv g) {i : Int} (i0 : 0 ≤ i) (i1 : i < g 5) :
    askC g i (70 + 10 * i + 2) = g (70 + 10 * i + 2) ∧ askC g i (70 + 10 * i + 3) = g (70 + 10 * i + 3) - askR g i ∧ askC g i (70 + 10 * i + 6) = g (70 + 10 * i + 6) + stl g i ∧
    (askC g i (70 + 10 * i + 7) = g (70 + 10 * i + 7) ∨ askC g i (70 + 10 * i + 7) = g (70 + 10 * i + 7) + stl g i) ∧
    askC g i (70 + 10 * i + 8) = if askR g i = 1 then (if g (70 + 10 * i + 3) - 1 = 0 then g 4 else -1) else g (70 + 10 * i + 8) := by
  have hS := hI.1
  unfold askC askR stl
  by_cases hl : g (70 + 10 * i + 3) > 0
  · rw [if_pos hl, if_pos hl, if_pos hl]
    by_cases hc : g (6 + 4 * bkG g (g (70 + 10 * i + 4))) > g 4
    · have a := fun k h0 h1 => asks_stall hS i0 hc (k := k) h0 h1
      obtain ⟨a6, a7⟩ := asks_st2 hS i0 hc
      rw [a 2 (by decide) (by decide), a 3 (by decide) (by decide), a 8 (by decide) (by decide), a6, a7, asksR, if_pos hc]
      refine ⟨rfl, by omega, by omega, ?_, by rw [if_neg (by decide)]⟩
      split <;> omega
    · obtain ⟨d0, d1, d2, d3, d4, d5, d6, d7, d8⟩ := asks_done hS i0 hc
      rw [d2, d3, d6, d7, d8, asksR, if_neg hc]
      exact ⟨rfl, rfl, by omega, Or.inl rfl, by rw [if_pos rfl]⟩
  · rw [if_neg hl, if_neg hl, if_neg hl]
    exact ⟨rfl, by omega, by omega, Or.inl rfl, by rw [if_neg (by decide)]⟩
theorem askC_other {g : Int → Int} (hS : InvS g) {i j k : Int} (hi : 0 ≤ i) (hj : 0 ≤ j) (hij : j ≠ i) (hk0 : 0 ≤ k) (hk : k < 10) : askC g i (70 + 10 * j + k) = g (70 + 10 * j + k) := by
  unfold askC; split
  · exact asks_other hS hi hj hij hk0 hk
  · rfl
theorem askC_PRw {g : Int → Int} (hI : Inv g) {i : Int} (i0 : 0 ≤ i) (i1 : i < g 5) (hP : PRw g (g 4) (70 + 10 * i)) : PRw (askC g i) (g 4 + 1) (70 + 10 * i) := by
  obtain ⟨a2, a3, a6, a7, a8⟩ := askC_row hI i0 i1
  have hr := askR_rng g i
  have hs := stl_rng g i
  have h4 := hI.1.2.2.2.2.1
  obtain ⟨-, -, r2, r3, -⟩ := hI.2.2 i i0 i1
  unfold PRw at hP ⊢
  rw [a2, a3, a6, a8]
  obtain ⟨p1, p2, p3⟩ := hP
  refine ⟨by omega, by omega, fun h => ?_⟩
  split
  · rw [if_pos (by omega)]; omega
  · have := p3 (by omega); omega
/-- what a turn does to its bank -/
theorem askC_bank {g : Int → Int} (hI : Inv g) {i b : Int} (i0 : 0 ≤ i) (b0 : 0 ≤ b) (b1 : b < 16) :
    (askC g i (6 + 4 * b) = g (6 + 4 * b) ∨ askC g i (6 + 4 * b) = g 4 + g 1) ∧
    askC g i (6 + 4 * b + 2) = g (6 + 4 * b + 2) + (if b = bkG g (g (70 + 10 * i + 4)) then askR g i else 0) ∧
    askC g i (6 + 4 * b + 3) = g (6 + 4 * b + 3) + (if b = bkG g (g (70 + 10 * i + 4)) then stl g i else 0) := by
  have hS := hI.1
  unfold askC askR stl
  by_cases hl : g (70 + 10 * i + 3) > 0
  · rw [if_pos hl, if_pos hl, if_pos hl, asks_free hS i0 b0 b1, asks_req hS i0 b0 b1, asks_mad hS i0 b0 b1]
    unfold asksR
    by_cases hc : g (6 + 4 * bkG g (g (70 + 10 * i + 4))) > g 4
    · rw [if_pos hc, if_neg (fun h => h.2 hc), if_neg (fun h => h.2 hc)]
      refine ⟨Or.inl rfl, by split <;> omega, ?_⟩
      by_cases hb : b = bkG g (g (70 + 10 * i + 4))
      · rw [if_pos ⟨hb, hc⟩, if_pos hb]; omega
      · rw [if_neg (fun h => hb h.1), if_neg hb]; omega
    · rw [if_neg hc]
      by_cases hb : b = bkG g (g (70 + 10 * i + 4))
      · rw [if_pos ⟨hb, hc⟩, if_pos ⟨hb, hc⟩, if_pos hb, if_neg (fun h => hc h.2), if_pos hb]; exact ⟨Or.inr rfl, rfl, by omega⟩
      · rw [if_neg (fun h => hb h.1), if_neg (fun h => hb h.1), if_neg hb, if_neg (fun h => hc h.2), if_neg hb]; exact ⟨Or.inl rfl, by omega, by omega⟩
  · rw [if_neg hl, if_neg hl, if_neg hl]
    exact ⟨Or.inl rfl, by split <;> omega, by split <;> omega⟩
theorem bkG_prime {g : Int → Int} (hS : InvS g) (h2 : g 2 = 2) (a : Int) : bkG g a < tGP (g 0) := by
  have h3 := tGP_rng hS.1.1 hS.1.2
  unfold bkG
  rw [if_neg (by omega), if_neg (by omega)]
  exact Int.emod_lt_of_pos a (by omega)
theorem askC_PBk {g : Int → Int} (hI : Inv g) {i b K : Int} (i0 : 0 ≤ i) (b0 : 0 ≤ b) (b1 : b < 16) (hP : PBk g (g 4 + 1) K b) : PBk (askC g i) (g 4 + 1) (K + 1) b := by
  obtain ⟨a0, a2, a3⟩ := askC_bank hI i0 b0 b1
  have hr := askR_rng g i
  have hs := stl_rng g i
  have lo := fun k (h : k < 6) => askC_low hI.1 i0 (k := k) h
  unfold PBk at hP ⊢
  rw [lo 0 (by decide), lo 1 (by decide), lo 2 (by decide), a2, a3]
  obtain ⟨p0, p2, p3, p4⟩ := hP
  refine ⟨by omega, by split <;> omega, by split <;> omega, fun h2 hp => ?_⟩
  have := bkG_prime hI.1 h2 (g (70 + 10 * i + 4))
  rw [if_neg (by omega), p4 h2 hp]; rfl
theorem ofS_ask7 {g : Int → Int} (hI : Inv g) {i : Int} (i0 : 0 ≤ i) (i1 : i < g 5) : ∀ k : Nat, ofS (askC g i) 7 k = ofS g 7 k + if i < k then askR g i else 0
  | 0 => by simp only [ofS]; rw [if_neg (by omega)]; rfl
  | k + 1 => by
    simp only [ofS]
    rw [ofS_ask7 hI i0 i1 k, ofV7, ofV7]
    by_cases h : (k : Int) = i
    · subst h
      obtain ⟨a2, a3, -⟩ := askC_row hI i0 i1
      rw [a2, a3, if_neg (by omega), if_pos (by omega)]; omega
    · have a := fun m h0 h1 => askC_other hI.1 i0 (j := k) (k := m) (by omega) h h0 h1
      rw [a 2 (by decide) (by decide), a 3 (by decide) (by decide)]
      by_cases h1 : i < k
      · rw [if_pos h1, if_pos (by omega)]; omega
      · rw [if_neg h1, if_neg (by omega)]; omega
theorem ofS_ask8 {g : Int → Int} (hI : Inv g) {i : Int} (i0 : 0 ≤ i) (i1 : i < g 5) : ∀ k : Nat, ofS (askC g i) 8 k = ofS g 8 k + if i < k then stl g i else 0
  | 0 => by simp only [ofS]; rw [if_neg (by omega)]; rfl
  | k + 1 => by
    simp only [ofS]
    rw [ofS_ask8 hI i0 i1 k, ofV8, ofV8]
    by_cases h : (k : Int) = i
    · subst h
      obtain ⟨a2, a3, a6, -⟩ := askC_row hI i0 i1
      rw [a6, if_neg (by omega), if_pos (by omega)]; omega
    · have a := fun m h0 h1 => askC_other hI.1 i0 (j := k) (k := m) (by omega) h h0 h1
      rw [a 6 (by decide) (by decide)]
      by_cases h1 : i < k
      · rw [if_pos h1, if_pos (by omega)]; omega
      · rw [if_neg h1, if_neg (by omega)]; omega
theorem rqS_ask {g : Int → Int} (hI : Inv g) {i : Int} (i0 : 0 ≤ i) : ∀ k : Nat, k ≤ 16 → rqS (askC g i) k = rqS g k + if bkG g (g (70 + 10 * i + 4)) < k then askR g i else 0
  | 0, _ => by
    have := (bkG_rng hI.1 (g (70 + 10 * i + 4))).1
    simp only [rqS]; rw [if_neg (by omega)]; rfl
  | k + 1, hk => by
    obtain ⟨-, a2, -⟩ := askC_bank hI i0 (b := k) (by omega) (by omega)
    simp only [rqS]
    rw [rqS_ask hI i0 k (by omega), a2]
    by_cases h : (k : Int) = bkG g (g (70 + 10 * i + 4))
    · rw [if_pos h, if_neg (by omega), if_pos (by omega)]; omega
    · rw [if_neg h]
      by_cases h1 : bkG g (g (70 + 10 * i + 4)) < k
      · rw [if_pos h1, if_pos (by omega)]; omega
      · rw [if_neg h1, if_neg (by omega)]; omega
theorem mdS_ask {g : Int → Int} (hI : Inv g) {i : Int} (i0 : 0 ≤ i) : ∀ k : Nat, k ≤ 16 → mdS (askC g i) k = mdS g k + if bkG g (g (70 + 10 * i + 4)) < k then stl g i else 0
  | 0, _ => by
    have := (bkG_rng hI.1 (g (70 + 10 * i + 4))).1
    simp only [mdS]; rw [if_neg (by omega)]; rfl
  | k + 1, hk => by
    obtain ⟨-, -, a3⟩ := askC_bank hI i0 (b := k) (by omega) (by omega)
    simp only [mdS]
    rw [mdS_ask hI i0 k (by omega), a3]
    by_cases h : (k : Int) = bkG g (g (70 + 10 * i + 4))
    · rw [if_pos h, if_neg (by omega), if_pos (by omega)]; omega
    · rw [if_neg h]
      by_cases h1 : bkG g (g (70 + 10 * i + 4)) < k
      · rw [if_pos h1, if_pos (by omega)]; omega
      · rw [if_neg h1, if_neg (by omega)]; omega
theorem askC_PSm {g : Int → Int} (hI : Inv g) {i : Int} (i0 : 0 ≤ i) (i1 : i < g 5) (hP : PSm g) : PSm (askC g i) ∧ ofG (askC g i) 7 = ofG g 7 + askR g i := by
  have s0 := hI.1.1
  have hb := bkG_rng hI.1 (g (70 + 10 * i + 4))
  unfold PSm ofG at *
  rw [askC_low hI.1 i0 (by decide), askC_low hI.1 i0 (by decide), ofS_ask7 hI i0 i1, ofS_ask8 hI i0 i1, rqS_ask hI i0 _ (by omega), mdS_ask hI i0 _ (by omega), if_pos (by omega), if_pos (by omega), if_pos (by omega), if_pos (by omega)]
  exact ⟨⟨by omega, by omega⟩, rfl⟩
/-- the turns of a cycle so far -/
theorem cycF_PI {g : Int → Int} (hI : Inv g) (hP : PI g) {first : Int} (hf : 0 ≤ first) : ∀ k : Nat, (k : Int) ≤ g 5 →
    (∀ i, 0 ≤ i → i < g 5 → PRw (cycF g first (g 5) k).1 (g 4 + 1) (70 + 10 * i)) ∧
    (∀ i, 0 ≤ i → i < g 5 → (∀ j : Nat, j < k → (first + j) % g 5 ≠ i) → ∀ m, 0 ≤ m → m < 10 → (cycF g first (g 5) k).1 (70 + 10 * i + m) = g (70 + 10 * i + m)) ∧
    (∀ b, 0 ≤ b → b < 16 → PBk (cycF g first (g 5) k).1 (g 4 + 1) (4 * g 4 + k) b) ∧ PSm (cycF g first (g 5) k).1 ∧
    ofG (cycF g first (g 5) k).1 7 = ofG g 7 + (cycF g first (g 5) k).2
  | 0, _ => by
    simp only [cycF]
    exact ⟨fun i i0 i1 => (hP.1 i i0 i1).up1 (by omega), fun _ _ _ _ _ _ _ => trivial, fun b b0 b1 => (hP.2.1 b b0 b1).up1 (by omega) (by omega), hP.2.2, by omega⟩
  | k + 1, h => by
    have s5 := hI.1.2.2.2.2.2
    have h5 : 0 < g 5 := by omega
    obtain ⟨c1, c2, c3, c4, c5⟩ := cycF_PI hI hP hf k (by omega)
    obtain ⟨a, b, -⟩ := cycF_ok hI hf k (Or.inr h5)
    have m1 := Int.emod_nonneg (first + (k : Int)) (by omega : g 5 ≠ 0)
    have m2 := Int.emod_lt_of_pos (first + (k : Int)) h5
    have b5 := b 5 (by omega)
    have b4 := b 4 (by omega)
    have hne : ∀ j : Nat, j < k → (first + j) % g 5 ≠ (first + k) % g 5 := by
      intro j hj
      rcases (by omega : g 5 = 1 ∨ g 5 = 2 ∨ g 5 = 3 ∨ g 5 = 4) with e | e | e | e <;> rw [e] at h ⊢ <;> omega
    have cR := c2 _ m1 m2 hne
    simp only [cycF]
    generalize hi : (first + (k : Int)) % g 5 = i at *
    generalize hf2 : (cycF g first (g 5) k).1 = f at *
    have e4 : PRw f (f 4) (70 + 10 * i) := by rw [b4]; exact (hP.1 i m1 m2).of (fun m h0 h1 => cR m (by omega) (by omega))
    obtain ⟨d1, d2⟩ := askC_PSm a m1 (by rw [b5]; exact m2) c4
    refine ⟨fun j j0 j1 => ?_, fun j j0 j1 hj m h0 h1 => ?_, fun q q0 q1 => ?_, d1, by rw [d2, c5]; omega⟩
    · by_cases e : j = i
      · subst e; rw [← b4]; exact askC_PRw a m1 (by rw [b5]; exact m2) e4
      · exact (c1 j j0 j1).of (fun m h0 h1 => askC_other a.1 m1 j0 e (by omega) (by omega))
    · rw [askC_other a.1 m1 j0 (by have := hj k (by omega); omega) h0 h1]
      exact c2 j j0 j1 (fun n hn => hj n (by omega)) m h0 h1
    · have := askC_PBk a m1 q0 q1 (K := 4 * g 4 + k) (by rw [b4]; exact c3 q q0 q1)
      rw [b4] at this
      exact this.up1 (by omega) (by omega)
theorem cyc_PI {g : Int → Int} (hI : Inv g) (h4 : g 4 < 1000000) (hP : PI g) : PI (cycG g) ∧ ofG (cycG g) 7 = ofG g 7 + cycR g ∧ cycR g ≤ g 5 := by
  obtain ⟨hS, -⟩ := id hI
  have s0 := hS.1
  have s5 := hS.2.2.2.2.2
  obtain ⟨c1, c2, c3, c4, c5⟩ := cycF_PI hI hP (fstG_rng hS).1 (g 5).toNat (by omega)
  obtain ⟨-, -, -, d, -⟩ := cycF_ok hI (fstG_rng hS).1 (g 5).toNat (by omega)
  obtain ⟨-, ⟨e0, e1, e2, e3, e4, e5⟩, -⟩ := cyc_ok hI h4
  obtain ⟨-, b, -⟩ := cycF_ok hI (fstG_rng hS).1 (g 5).toNat (by omega)
  have u : ∀ j, j ≠ 4 → cycG g j = (cycF g (fstG g) (g 5) (g 5).toNat).1 j := fun j hj => up_ne _ _ hj
  have w : ∀ v k, ofS (cycG g) v k = ofS (cycF g (fstG g) (g 5) (g 5).toNat).1 v k := fun v k => ofS_ext k (fun i i0 i1 m h0 h1 => u _ (by omega))
  refine ⟨⟨fun i i0 i1 => ?_, fun q q0 q1 => ?_, ?_⟩, ?_, by unfold cycR; omega⟩
  · rw [e4]
    exact (c1 i i0 (by omega)).of (fun m h0 h1 => u _ (by omega))
  · rw [e4]
    refine ((c3 q q0 q1).of ?_ ?_ ?_ (u _ (by omega)) (u _ (by omega)) (u _ (by omega))).up1 (by omega) (by omega)
    · rw [e0]; exact (b 0 (by decide)).symm
    · rw [e1]; exact (b 1 (by decide)).symm
    · rw [e2]; exact (b 2 (by decide)).symm
  · unfold PSm ofG at c4 ⊢
    rw [b 0 (by decide), b 5 (by decide)] at c4
    rw [e0, e5, w, w, rqS_ext (g := (cycF g (fstG g) (g 5) (g 5).toNat).1) _ (fun q q0 q1 => u _ (by omega)), mdS_ext (g := (cycF g (fstG g) (g 5) (g 5).toNat).1) _ (fun q q0 q1 => u _ (by omega))]
    exact c4
  · unfold ofG at c5 ⊢
    rw [b 5 (by decide)] at c5
    rw [e5, w]; exact c5
theorem it_PI {g : Int → Int} (hI : Inv g) (hP : PI g) : ∀ k : Nat, g 4 + k ≤ 1000000 → PI (itG g k) ∧ ofG (itG g k) 7 = ofG g 7 + itR g k ∧ 0 ≤ itR g k ∧ itR g k ≤ k * g 5 ∧ wlG (itG g k) = wlG g - itR g k
  | 0, _ => by simp only [itG, itR]; exact ⟨hP, by omega, by omega, by omega, by omega⟩
  | k + 1, h => by
    obtain ⟨a, b, c, d, f⟩ := it_PI hI hP k (by omega)
    obtain ⟨i1, i2, i3⟩ := itG_ok hI k (by omega)
    obtain ⟨p1, p2, p3⟩ := cyc_PI i1 (by omega) a
    obtain ⟨-, -, q1, q2⟩ := cyc_ok i1 (by omega)
    simp only [itG, itR]
    refine ⟨p1, by omega, by omega, ?_, by omega⟩
    rw [i3] at p3
    have : ((k + 1 : Nat) : Int) * g 5 = k * g 5 + g 5 := by
      rw [Int.natCast_add, Int.add_mul]; omega
    omega
