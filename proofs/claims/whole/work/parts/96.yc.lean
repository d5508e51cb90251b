/-! the class's parser: one token -/
def rf (c w σ j : Nat) (A A' : Nat → Nat → Int32) : Prop := (∀ r, r ≠ c + 5 → r ≠ c + 6 → A' r = A r) ∧ (∀ i, A' (c + 5) i = if σ ≤ i ∧ i < σ + j then A 36 (w + σ - 1 - i) else A (c + 5) i) ∧ ∀ i, A' (c + 6) i = if σ ≤ i ∧ i < σ + j then 0 else A (c + 6) i
def irl (x : Int32) : Int32 := if x < 7 then 0 else if 10 < x then 0 else 1
