/-! ===== drops, runs, what-ifs: the reference's numbers ===== -/
def shr (a b : Int) (g : Int → Int) : Int → Int := fun k => if a ≤ k ∧ k < b then g (k + 10) else g k
theorem shr_0 (a : Int) (g : Int → Int) : shr a a g = g := funext fun k => if_neg (by omega)
theorem shr_up {a b : Int} (g : Int → Int) (h : a ≤ b) : up (shr a b g) b (g (b + 10)) = shr a (b + 1) g := by
  funext j
  simp only [up, shr]
  by_cases h1 : j = b
  · subst h1; rw [if_pos rfl, if_pos (by omega)]
  · rw [if_neg h1]
    by_cases h2 : a ≤ j ∧ j < b
    · rw [if_pos h2, if_pos (by omega)]
    · rw [if_neg h2, if_neg (by omega)]
theorem shr_out {a b k : Int} (g : Int → Int) (h : ¬ (a ≤ k ∧ k < b)) : shr a b g k = g k := if_neg h
def ownV (i v : Int) : Int := if v = i then -1 else if v > i then v - 1 else v
def own (n i : Int) (g : Int → Int) : Int → Int := fun k => if 7 ≤ k ∧ k < 7 + 4 * n ∧ (k - 7) % 4 = 0 then ownV i (g k) else g k
theorem own_0 (i : Int) (g : Int → Int) : own 0 i g = g := funext fun k => if_neg (by omega)
theorem own_up {n i : Int} (g : Int → Int) (h : 0 ≤ n) : up (own n i g) (6 + 4 * n + 1) (ownV i (g (6 + 4 * n + 1))) = own (n + 1) i g := by
  funext j
  simp only [up, own]
  by_cases h1 : j = 6 + 4 * n + 1
  · subst h1; rw [if_pos rfl, if_pos (by omega)]
  · rw [if_neg h1]
    by_cases h2 : 7 ≤ j ∧ j < 7 + 4 * n ∧ (j - 7) % 4 = 0
    · rw [if_pos h2, if_pos (by omega)]
    · rw [if_neg h2, if_neg (by omega)]
theorem own_out {n i k : Int} (g : Int → Int) (h : ¬ (7 ≤ k ∧ k < 7 + 4 * n ∧ (k - 7) % 4 = 0)) : own n i g k = g k := if_neg h
def dropG (g : Int → Int) (i : Int) : Int → Int := up (own 16 i (shr (70 + 10 * i) (70 + 10 * (g 5 - 1)) g)) 5 (g 5 - 1)
def anDrop (S : AS) (i : Int) : Int := if isStr S.1 i then S.1 (70 + 10 * i + 3) else -1
def opDrop (S : AS) (i : Int) : AS := if isStr S.1 i then chg S (dropG S.1 i) else S
def itG (g : Int → Int) : Nat → (Int → Int)
  | 0 => g
  | k + 1 => cycG (itG g k)
def itR (g : Int → Int) : Nat → Int
  | 0 => 0
  | k + 1 => itR g k + cycR (itG g k)
theorem itG_ok {g : Int → Int} (hI : Inv g) : ∀ k : Nat, g 4 + k ≤ 1000000 → Inv (itG g k) ∧ itG g k 4 = g 4 + k ∧ itG g k 5 = g 5
  | 0, _ => ⟨hI, by simp only [itG]; omega, rfl⟩
  | k + 1, h => by
    obtain ⟨a, b, c⟩ := itG_ok hI k (by omega)
    obtain ⟨d, e, -⟩ := cyc_ok a (by omega)
    simp only [itG]
    exact ⟨d, by omega, by omega⟩
def anRun (S : AS) (c : Int) : Int := if 1 ≤ c ∧ c ≤ 500 then (if S.1 4 > 99999 - c then -4 else itR S.1 c.toNat) else -2
def opRun (S : AS) (c : Int) : AS := if (1 ≤ c ∧ c ≤ 500) ∧ ¬ S.1 4 > 99999 - c then chg S (itG S.1 c.toNat) else S
/-- a stream of the trial comes to a place -/
def cmG (n p i : Int) (tr g : Int → Int) : Int → Int := fun k => if 70 + 10 * p ≤ k ∧ k < 70 + 10 * p + n then tr (70 + 10 * i + (k - (70 + 10 * p))) else g k
theorem cmG_0 (p i : Int) (tr g : Int → Int) : cmG 0 p i tr g = g := funext fun k => if_neg (by omega)
theorem cmG_up {n : Int} (p i : Int) (tr g : Int → Int) (h : 0 ≤ n) : up (cmG n p i tr g) (70 + 10 * p + n) (tr (70 + 10 * i + n)) = cmG (n + 1) p i tr g := by
  funext j
  simp only [up, cmG]
  by_cases h1 : j = 70 + 10 * p + n
  · subst h1; rw [if_pos rfl, if_pos (by omega), show 70 + 10 * p + n - (70 + 10 * p) = n by omega]
  · rw [if_neg h1]
    by_cases h2 : 70 + 10 * p ≤ j ∧ j < 70 + 10 * p + n
    · rw [if_pos h2, if_pos (by omega)]
    · rw [if_neg h2, if_neg (by omega)]
/-- what beginning anew needs -/
def InvL (g : Int → Int) : Prop := ∀ i, 0 ≤ i → i < g 5 → (0 ≤ g (70 + 10 * i) ∧ g (70 + 10 * i) < 4096) ∧ (0 ≤ g (70 + 10 * i + 1) ∧ g (70 + 10 * i + 1) < 1024) ∧ (1 ≤ g (70 + 10 * i + 2) ∧ g (70 + 10 * i + 2) ≤ 200)
theorem Inv.L {g : Int → Int} (h : Inv g) : InvL g := fun i h0 h1 => by
  obtain ⟨a, b, c, -⟩ := h.2.2 i h0 h1
  exact ⟨a, b, c⟩
theorem bgaS_row (g : Int → Int) : ∀ (k : Nat) (j : Int), 0 ≤ j →
    bgaS g k (70 + 10 * j) = g (70 + 10 * j) ∧ bgaS g k (70 + 10 * j + 1) = g (70 + 10 * j + 1) ∧ bgaS g k (70 + 10 * j + 2) = g (70 + 10 * j + 2) ∧
    (j < k → bgaS g k (70 + 10 * j + 3) = g (70 + 10 * j + 2) ∧ bgaS g k (70 + 10 * j + 4) = g (70 + 10 * j) ∧ bgaS g k (70 + 10 * j + 5) = -1 ∧ bgaS g k (70 + 10 * j + 6) = 0 ∧ bgaS g k (70 + 10 * j + 7) = 0 ∧ bgaS g k (70 + 10 * j + 8) = -1)
  | 0, j, _ => ⟨rfl, rfl, rfl, fun h => by omega⟩
  | k + 1, j, h => by
    obtain ⟨a, b, c, d⟩ := bgaS_row g k j h
    simp only [bgaS]
    by_cases hj : (k : Int) = j
    · subst hj
      obtain ⟨b3, b4, b5, b6, b7, b8⟩ := bgn_in (bgaS g k) k
      refine ⟨by rw [bgn_out _ (by omega), a], by rw [bgn_out _ (by omega), b], by rw [bgn_out _ (by omega), c], fun _ => ⟨by rw [b3, c], by rw [b4, a], b5, b6, b7, b8⟩⟩
    · refine ⟨by rw [bgn_out _ (by omega), a], by rw [bgn_out _ (by omega), b], by rw [bgn_out _ (by omega), c], fun hk => ?_⟩
      obtain ⟨d3, d4, d5, d6, d7, d8⟩ := d (by omega)
      exact ⟨by rw [bgn_out _ (by omega), d3], by rw [bgn_out _ (by omega), d4], by rw [bgn_out _ (by omega), d5], by rw [bgn_out _ (by omega), d6], by rw [bgn_out _ (by omega), d7], by rw [bgn_out _ (by omega), d8]⟩
theorem bga_base (g : Int → Int) {k : Int} (h : 70 ≤ k) : clr 64 (up g 4 0) k = g k := by
  rw [clr, if_neg (by omega), up_ne _ _ (by omega)]
theorem bga_row (g : Int → Int) {j : Int} (hj : 0 ≤ j) :
    bgaG g (70 + 10 * j) = g (70 + 10 * j) ∧ bgaG g (70 + 10 * j + 1) = g (70 + 10 * j + 1) ∧ bgaG g (70 + 10 * j + 2) = g (70 + 10 * j + 2) ∧
    (j < g 5 → bgaG g (70 + 10 * j + 3) = g (70 + 10 * j + 2) ∧ bgaG g (70 + 10 * j + 4) = g (70 + 10 * j) ∧ bgaG g (70 + 10 * j + 5) = -1 ∧ bgaG g (70 + 10 * j + 6) = 0 ∧ bgaG g (70 + 10 * j + 7) = 0 ∧ bgaG g (70 + 10 * j + 8) = -1) := by
  obtain ⟨a, b, c, d⟩ := bgaS_row (clr 64 (up g 4 0)) (g 5).toNat j hj
  rw [bga_base g (by omega)] at a b c
  refine ⟨a, b, c, fun h => ?_⟩
  obtain ⟨d3, d4, d5, d6, d7, d8⟩ := d (by omega)
  rw [bga_base g (by omega)] at d3 d4
  exact ⟨d3, d4, d5, d6, d7, d8⟩
theorem bga_bank (g : Int → Int) {k : Int} (h0 : 6 ≤ k) (h1 : k < 70) : bgaG g k = 0 := by
  unfold bgaG
  rw [bgaS_low _ _ _ h1, clr, if_pos (by omega)]
theorem bga_cyc (g : Int → Int) : bgaG g 4 = 0 := by
  unfold bgaG
  rw [bgaS_low _ _ _ (by decide), clr, if_neg (by decide), up_eq]
theorem bga_inv {g : Int → Int} (hS : InvS g) (hL : InvL g) : Inv (bgaG g) := by
  obtain ⟨s0, s1, s2, s3, s4, s5⟩ := id hS
  have l := fun (k : Int) (h : k < 6) (h4 : k ≠ 4) => bga_low (g := g) h h4
  refine ⟨?_, ?_, ?_⟩
  · unfold InvS
    rw [l 0 (by decide) (by decide), l 1 (by decide) (by decide), l 2 (by decide) (by decide), l 3 (by decide) (by decide), l 5 (by decide) (by decide), bga_cyc]
    omega
  · intro b h0 h1
    rw [bga_bank g (k := 6 + 4 * b) (by omega) (by omega), bga_cyc, bga_bank g (k := 6 + 4 * b + 1) (by omega) (by omega)]
    omega
  · intro i h0 h1
    rw [l 5 (by decide) (by decide)] at h1
    obtain ⟨a, b, c, d⟩ := bga_row g h0
    obtain ⟨d3, d4, d5, d6, d7, d8⟩ := d h1
    have := hL i h0 h1
    unfold rowI
    rw [a, b, c, d3, d4, d5]
    omega
def cwG (g : Int → Int) (i v : Int) : Int → Int := up (up (cmG 10 0 i g g) (70 + 10 * 0 + 1) v) 5 1
def cwC (g : Int → Int) (i v : Int) : Int := roC 20000 (bgaG (cwG g i v))
theorem cw_ok {g : Int → Int} (hI : Inv g) {i v : Int} (h0 : 0 ≤ i) (h1 : i < g 5) (hv : 0 ≤ v ∧ v < 1024) : InvS (cwG g i v) ∧ InvL (cwG g i v) ∧ cwG g i v 5 = 1 := by
  obtain ⟨s0, s1, s2, s3, s4, s5⟩ := id hI.1
  have c : ∀ k, k < 70 → k ≠ 5 → cwG g i v k = g k := fun k hk h5 => by
    rw [cwG, up_ne _ _ h5, up_ne _ _ (by omega), cmG, if_neg (by omega)]
  have c5 : cwG g i v 5 = 1 := up_eq _ _ _
  refine ⟨?_, ?_, c5⟩
  · unfold InvS
    rw [c 0 (by decide) (by decide), c 1 (by decide) (by decide), c 2 (by decide) (by decide), c 3 (by decide) (by decide), c 4 (by decide) (by decide), c5]
    omega
  · intro j hj0 hj1
    rw [c5] at hj1
    have hj : j = 0 := by omega
    subst hj
    obtain ⟨a, b, d⟩ := hI.L i h0 h1
    have e0 : cwG g i v (70 + 10 * 0) = g (70 + 10 * i) := by
      rw [cwG, up_ne _ _ (by omega), up_ne _ _ (by omega), cmG, if_pos (by omega), Int.sub_self, Int.add_zero]
    have e1 : cwG g i v (70 + 10 * 0 + 1) = v := by rw [cwG, up_ne _ _ (by omega), up_eq]
    have e2 : cwG g i v (70 + 10 * 0 + 2) = g (70 + 10 * i + 2) := by
      rw [cwG, up_ne _ _ (by omega), up_ne _ _ (by omega), cmG, if_pos (by omega), show (70 + 10 * 0 + 2 : Int) - (70 + 10 * 0) = 2 by omega]
    rw [e0, e1, e2]
    omega
def anAlone (S : AS) (i v : Int) : Int := if isStr S.1 i then (if 0 ≤ v ∧ v ≤ 1023 then cwC S.1 i v else -2) else -1
def bsF (g : Int → Int) (i a : Int) : Nat → Int × Int
  | 0 => (a, 1000000)
  | k + 1 => (if cwC g i (a + k) < (bsF g i a k).2 then a + k else (bsF g i a k).1, if cwC g i (a + k) < (bsF g i a k).2 then cwC g i (a + k) else (bsF g i a k).2)
def anBest (S : AS) (i a b : Int) : Int := if isStr S.1 i then (if (0 ≤ a ∧ a ≤ 1023) ∧ (a ≤ b ∧ b ≤ 1023) ∧ b ≤ a + 63 then (bsF S.1 i a (b + 1 - a).toNat).1 else -2) else -1
def mpC (g : Int → Int) (m : Int) : Int := roC 20000 (bgaG (up g 2 m))
def bmF (g : Int → Int) : Nat → Int × Int
  | 0 => (0, 1000000)
  | k + 1 => (if mpC g k < (bmF g k).2 then (k : Int) else (bmF g k).1, if mpC g k < (bmF g k).2 then mpC g k else (bmF g k).2)
def anMap (S : AS) (w : Int) : Int := if 0 ≤ w ∧ w ≤ 1 then (if w = 0 then (bmF S.1 3).1 else (bmF S.1 3).2) else -2
theorem mp_ok {g : Int → Int} (hI : Inv g) {m : Int} (hm : 0 ≤ m ∧ m ≤ 2) : InvS (up g 2 m) ∧ InvL (up g 2 m) ∧ up g 2 m 5 = g 5 := by
  obtain ⟨s0, s1, s2, s3, s4, s5⟩ := id hI.1
  have c : ∀ k, k ≠ 2 → up g 2 m k = g k := fun k hk => up_ne _ _ hk
  refine ⟨?_, ?_, c 5 (by decide)⟩
  · unfold InvS
    rw [c 0 (by decide), c 1 (by decide), up_eq, c 3 (by decide), c 4 (by decide), c 5 (by decide)]
    omega
  · intro j hj0 hj1
    rw [c 5 (by decide)] at hj1
    rw [c _ (by omega), c _ (by omega), c _ (by omega)]
    exact hI.L j hj0 hj1
theorem ro_rng {g : Int → Int} : ∀ n : Nat, 0 ≤ roC n g ∧ roC n g ≤ n := by
  intro n
  induction n generalizing g with
  | zero => simp only [roC]; omega
  | succ n ih =>
    simp only [roC]
    split
    · have := ih (g := cycG g); omega
    · omega
/-- of all streams: 7 done, 8 stalls, 9 clashes -/
def ofV (g : Int → Int) (w q : Int) : Int := if w = 7 then g (q + 2) - g (q + 3) else if w = 8 then g (q + 6) else g (q + 7)
def ofS (g : Int → Int) (w : Int) : Nat → Int
  | 0 => 0
  | k + 1 => ofS g w k + ofV g w (70 + 10 * (k : Int))
def ofG (g : Int → Int) (w : Int) : Int := ofS g w (g 5).toNat
def clG (g : Int → Int) (a b : Int) : Int → Int := up (cmG 10 1 (if a < b then b else a) g (cmG 10 0 (if a < b then a else b) g g)) 5 2
def clC (g : Int → Int) (a b : Int) : Int := ofG (roS 20000 (bgaG (clG g a b))) 9
def anClash (S : AS) (a b : Int) : Int := if isStr S.1 a ∧ isStr S.1 b then (if a = b then -2 else clC S.1 a b) else -1
theorem cl_ok {g : Int → Int} (hI : Inv g) {a b : Int} (ha : 0 ≤ a ∧ a < g 5) (hb : 0 ≤ b ∧ b < g 5) : InvS (clG g a b) ∧ InvL (clG g a b) ∧ clG g a b 5 = 2 := by
  obtain ⟨s0, s1, s2, s3, s4, s5⟩ := id hI.1
  have c : ∀ k, k < 70 → k ≠ 5 → clG g a b k = g k := fun k hk h5 => by
    rw [clG, up_ne _ _ h5, cmG, if_neg (by omega), cmG, if_neg (by omega)]
  have c5 : clG g a b 5 = 2 := up_eq _ _ _
  refine ⟨?_, ?_, c5⟩
  · unfold InvS
    rw [c 0 (by decide) (by decide), c 1 (by decide) (by decide), c 2 (by decide) (by decide), c 3 (by decide) (by decide), c 4 (by decide) (by decide), c5]
    omega
  · intro j hj0 hj1
    rw [c5] at hj1
    have key : ∀ k, 0 ≤ k → k < 10 → clG g a b (70 + 10 * j + k) = g (70 + 10 * (if j = 0 then (if a < b then a else b) else (if a < b then b else a)) + k) := by
      intro k h0 h1
      rw [clG, up_ne _ _ (by omega)]
      rcases (by omega : j = 0 ∨ j = 1) with h | h
      · subst h
        rw [cmG, if_neg (by omega), cmG, if_pos (by omega), if_pos rfl]
        congr 1; omega
      · subst h
        rw [cmG, if_pos (by omega), if_neg (show ¬ (1 : Int) = 0 by decide)]
        congr 1; omega
    have k0 := key 0 (by omega) (by omega)
    rw [Int.add_zero, Int.add_zero] at k0
    rw [k0, key 1 (by omega) (by omega), key 2 (by omega) (by omega)]
    refine hI.L _ ?_ ?_ <;> split <;> split <;> omega
theorem ro_inv {g : Int → Int} : ∀ n : Nat, Inv g → g 4 + n ≤ 1000000 → Inv (roS n g) ∧ roS n g 5 = g 5 := by
  intro n
  induction n generalizing g with
  | zero => exact fun h _ => ⟨h, rfl⟩
  | succ n ih =>
    intro h h4
    simp only [roS]
    split
    · obtain ⟨d, e, -⟩ := cyc_ok h (by omega)
      have := ih d (by omega)
      exact ⟨this.1, by rw [this.2]; exact e.2.2.2.2.2⟩
    · exact ⟨h, rfl⟩
def bsyG (g : Int → Int) (b : Int) : Int := if g (6 + 4 * b) - g 4 > 0 then g (6 + 4 * b) - g 4 else 0
def bbS (g : Int → Int) : Nat → Int
  | 0 => 0
  | k + 1 => bbS g k + if bsyG g k > 0 then 1 else 0
def bbG (g : Int → Int) : Int := bbS g (g 0).toNat
def wiR (g : Int → Int) (i b : Int) : Nat → Int
  | 0 => 0
  | k + 1 => wiR g i b k + if bkG g ((g (70 + 10 * i + 4) + (k : Int) * g (70 + 10 * i + 1)) % 4096) = b then 1 else 0
def wiS (g : Int → Int) (b : Int) : Nat → Int
  | 0 => 0
  | k + 1 => wiS g b k + wiR g k b (g (70 + 10 * (k : Int) + 3)).toNat
def wiG (g : Int → Int) (b : Int) : Int := wiS g b (g 5).toNat
def anBank (S : AS) (b w : Int) : Int := if 0 ≤ b ∧ b ≤ S.1 0 - 1 then (if w = 0 then bsyG S.1 b else if w = 1 then S.1 (6 + 4 * b + 2) else if w = 2 then S.1 (6 + 4 * b + 3) else if w = 3 then wiG S.1 b else -2) else -1
def anCount (S : AS) (w : Int) : Int := if 0 ≤ w ∧ w ≤ 5 then S.1 w else if w = 6 then wlG S.1 else if 7 ≤ w ∧ w ≤ 9 then ofG S.1 w else if w = 10 then bbG S.1 else if w = 11 then tGP (S.1 0) else if w = 12 then S.2.2.2.2.2.1 else if w = 13 then S.2.2.2.2.2.2 else -2
def anWipe (S : AS) : Int := S.2.2.2.2.2.1
def opWipe (S : AS) : AS := (S.1, S.2.1, S.2.2.1, S.2.2.2.1, S.2.2.2.2.1, 0, S.2.2.2.2.2.2)
def anUndo (S : AS) : Int := if S.2.2.2.2.2.2 = 0 then -5 else S.2.2.2.2.2.2 - 1
def blk (o : Int) (be : Int → Int) : Int → Int := fun k => be (o + k)
def opUndo (S : AS) : AS := if S.2.2.2.2.2.2 = 0 then S else (blk (110 * (S.2.2.2.2.2.2 - 1)) S.2.1, S.2.1, S.2.2.1, S.2.2.2.1, S.2.2.2.2.1, S.2.2.2.2.2.1, S.2.2.2.2.2.2 - 1)
def anSave (S : AS) (k : Int) : Int := if 0 ≤ k ∧ k ≤ 1 then S.1 4 else -2
def opSave (S : AS) (k : Int) : AS := if 0 ≤ k ∧ k ≤ 1 then (S.1, S.2.1, pbl 110 (110 * k) S.2.2.1 S.1, up S.2.2.2.1 k 1, S.2.2.2.2.1, S.2.2.2.2.2.1, S.2.2.2.2.2.2) else S
def anRestore (S : AS) (k : Int) : Int := if 0 ≤ k ∧ k ≤ 1 then (if S.2.2.2.1 k = 0 then -5 else S.2.2.1 (110 * k + 4)) else -2
def opRestore (S : AS) (k : Int) : AS := if (0 ≤ k ∧ k ≤ 1) ∧ S.2.2.2.1 k ≠ 0 then chg S (blk (110 * k) S.2.2.1) else S
