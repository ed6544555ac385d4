/-! ===== texts: the reference's reading of the pad ===== -/
abbrev isSg (pa : Int → Int) (len a lo hi : Int) : Prop := a < len ∧ lo ≤ pa a ∧ pa a ≤ hi
def InvP (pa : Int → Int) : Prop := ∀ k, 0 ≤ k → k < 60 → 0 ≤ pa k ∧ pa k ≤ 255
theorem up_up {α : Type} (f : Int → α) (k : Int) (v w : α) : up (up f k v) k w = up f k w := by
  funext j
  simp only [up]
  split <;> rfl
def nmO (pa : Int → Int) (len hi : Int) : Nat → Int → Int → Int × Int
  | 0, v, a => (v, a)
  | n + 1, v, a => if 0 < v ∧ isSg pa len a 48 57 ∧ 10 * v + pa a - 48 ≤ hi then nmO pa len hi n (10 * v + pa a - 48) (a + 1) else (v, a)
abbrev nmT (pa : Int → Int) (len a lo : Int) : Prop := isSg pa len a (if lo = 0 then 48 else 49) 57
def nmV (pa : Int → Int) (len a hi : Int) : Int := (nmO pa len hi 60 (pa a - 48) (a + 1)).1
def nmA (pa : Int → Int) (len a hi : Int) : Int := (nmO pa len hi 60 (pa a - 48) (a + 1)).2
theorem nmO_rng {pa : Int → Int} {len hi : Int} (hlen : len ≤ 60) (hh : hi ≤ 4095) : ∀ (n : Nat) (v a : Int), 0 ≤ v → v ≤ 4095 → 0 ≤ a → a ≤ 60 → 0 ≤ (nmO pa len hi n v a).1 ∧ (nmO pa len hi n v a).1 ≤ 4095 ∧ a ≤ (nmO pa len hi n v a).2 ∧ (nmO pa len hi n v a).2 ≤ 60
  | 0, v, a, h1, h2, h3, h4 => by simp only [nmO]; omega
  | n + 1, v, a, h1, h2, h3, h4 => by
    simp only [nmO]
    split
    · rename_i h
      have := nmO_rng (pa := pa) (len := len) hlen hh n (10 * v + pa a - 48) (a + 1) (by omega) (by omega) (by omega) (by omega)
      omega
    · omega
/-- places of a stream's numbers, the state behind a try: the row, how many told, where -/
abbrev PS : Type := (Int → Int) × Int × Int
def nmS (pa : Int → Int) (len : Int) (p lo hi : Int) (s : PS) : PS := (up s.1 (3 * s.2.1 + p) (if nmT pa len s.2.2 lo then nmV pa len s.2.2 hi else 0), s.2.1, if nmT pa len s.2.2 lo then nmA pa len s.2.2 hi else s.2.2)
abbrev acT (pa : Int → Int) (len : Int) (ch : Int) (s : PS) : Prop := isSg pa len s.2.2 ch ch
def acS (pa : Int → Int) (len : Int) (ch : Int) (s : PS) : PS := (s.1, s.2.1, s.2.2 + if acT pa len ch s then 1 else 0)
