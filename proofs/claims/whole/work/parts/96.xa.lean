/-! tokens: runs of bytes -/
def tz_bl (b : Int32) : Bool := decide (b = 9 ∨ b = 10 ∨ b = 13 ∨ b = 32)
def tz_le (b : Int32) : Bool := decide (¬ b < 97 ∧ ¬ 122 < b)
def tz_di (b : Int32) : Bool := decide (¬ b < 48 ∧ ¬ 57 < b)
def tz_rn (P : Int32 → Bool) (T : Nat → Int32) (L : Nat) : Nat → Nat → Nat
  | 0, i => i
  | f + 1, i => if i < L ∧ P (T i) = true then tz_rn P T L f (i + 1) else i
def tz_run (P : Int32 → Bool) (T : Nat → Int32) (L i : Nat) : Nat := tz_rn P T L (L - i) i
theorem tz_run_y {P : Int32 → Bool} {T : Nat → Int32} {L i : Nat} (h : i < L) (hp : P (T i) = true) : tz_run P T L i = tz_run P T L (i + 1) := by
  unfold tz_run
  have e : L - i = (L - (i + 1)) + 1 := by omega
  rw [e]
  conv => lhs; rw [tz_rn]
  rw [if_pos ⟨h, hp⟩]
theorem tz_run_n {P : Int32 → Bool} {T : Nat → Int32} {L i : Nat} (h : ¬ (i < L ∧ P (T i) = true)) : tz_run P T L i = i := by
  unfold tz_run
  cases hk : L - i with
  | zero => rfl
  | succ k =>
    unfold tz_rn
    rw [if_neg h]
theorem tz_run_b {P : Int32 → Bool} {T : Nat → Int32} {L : Nat} : ∀ (d i : Nat), i + d = L → i ≤ tz_run P T L i ∧ tz_run P T L i ≤ L ∧ ¬ (tz_run P T L i < L ∧ P (T (tz_run P T L i)) = true) ∧ ∀ k, i ≤ k → k < tz_run P T L i → P (T k) = true
  | 0, i, h => by
    have e : tz_run P T L i = i := tz_run_n (by omega)
    rw [e]
    exact ⟨by omega, by omega, fun z => by omega, fun k h1 h2 => absurd h2 (by omega)⟩
  | d + 1, i, h => by
    by_cases c : i < L ∧ P (T i) = true
    · rw [tz_run_y c.1 c.2]
      obtain ⟨q1, q2, q3, q4⟩ := tz_run_b (P := P) (T := T) (L := L) d (i + 1) (by omega)
      refine ⟨by omega, q2, q3, fun k h1 h2 => ?_⟩
      by_cases w : k = i
      · subst w; exact c.2
      · exact q4 k (by omega) h2
    · rw [tz_run_n c]
      exact ⟨by omega, by omega, c, fun k h1 h2 => absurd h2 (by omega)⟩
theorem tz_blank {n : Nat} {I A : Nat → Nat → Int32} {J : Nat → Nat → Int64} {t : Bool × Bool} {b : Int32} : px_X7_isBlank n I A J t b = 0 ↔ ¬ tz_bl b = true := by
  unfold px_X7_isBlank qs0m3_X7_isBlank qs0m9_X7_isBlank qs0m15_X7_isBlank qs0m21_X7_isBlank tz_bl
  have o1 : ¬ (1 : Int32) = 0 := by decide
  rw [decide_eq_true_iff]
  by_cases c1 : b = 9
  · simp only [c1, if_true, o1, true_or, not_true_eq_false]
  by_cases c2 : b = 10
  · simp only [c2, if_true, o1, true_or, or_true, not_true_eq_false, ite_self]
  by_cases c3 : b = 13
  · simp only [c3, if_true, o1, true_or, or_true, not_true_eq_false, ite_self]
  by_cases c4 : b = 32
  · simp only [c4, if_true, o1, or_true, not_true_eq_false, ite_self]
  simp only [c1, c2, c3, c4, if_false, or_self, not_false_eq_true]
theorem tz_letter {n : Nat} {I A : Nat → Nat → Int32} {J : Nat → Nat → Int64} {t : Bool × Bool} {b : Int32} : px_X7_isLetter n I A J t b = 0 ↔ ¬ tz_le b = true := by
  unfold px_X7_isLetter qs0m3_X7_isLetter qs0m9_X7_isLetter tz_le
  have o1 : ¬ (1 : Int32) = 0 := by decide
  rw [decide_eq_true_iff]
  by_cases c1 : b < 97
  · simp only [c1, if_true, not_true_eq_false, false_and, not_false_eq_true]
  by_cases c2 : 122 < b
  · simp only [c2, if_true, ite_self, not_true_eq_false, and_false, not_false_eq_true]
  simp only [c1, c2, if_false, o1, not_false_eq_true, and_self, not_true_eq_false]
theorem tz_digit {n : Nat} {I A : Nat → Nat → Int32} {J : Nat → Nat → Int64} {t : Bool × Bool} {b : Int32} : px_X7_isDigit n I A J t b = 0 ↔ ¬ tz_di b = true := by
  unfold px_X7_isDigit qs0m3_X7_isDigit qs0m9_X7_isDigit tz_di
  have o1 : ¬ (1 : Int32) = 0 := by decide
  rw [decide_eq_true_iff]
  by_cases c1 : b < 48
  · simp only [c1, if_true, not_true_eq_false, false_and, not_false_eq_true]
  by_cases c2 : 57 < b
  · simp only [c2, if_true, ite_self, not_true_eq_false, and_false, not_false_eq_true]
  simp only [c1, c2, if_false, o1, not_false_eq_true, and_self, not_true_eq_false]
/-- the value of digits -/
def tz_vl (T : Nat → Int32) (p : Nat) : Nat → Int32
  | 0 => 0
  | k + 1 => if 4 ≤ k then 0 else ((tz_vl T p k * 10) + T (p + k)) - 48
/-- is the word from p to e the k-th one? -/
def tz_wm (T : Nat → Int32) (p e k : Nat) : Nat → Bool
  | 0 => true
  | i + 1 => tz_wm T p e k i && decide (cw_ch (nI (8 * k + i)) = if e ≤ p + i then 32 else T (p + i))
def tz_fw (T : Nat → Int32) (p e : Nat) : Nat → Nat
  | 0 => 1
  | k + 1 => if tz_fw T p e k = 1 then (if tz_wm T p e k 8 = true then 13 + k else 1) else tz_fw T p e k
def tz_wk (T : Nat → Int32) (p e : Nat) : Nat := if e - p ≤ 8 then tz_fw T p e 15 else 1
def tz_sg (b : Int32) (q : Bool) : Nat := if b = 59 then 3 else if b = 43 then 4 else if b = 45 then 5 else if b = 42 then 6 else if b = 40 then 11 else if b = 41 then 12 else if b = 60 then (if q = true then 10 else 9) else if b = 61 then (if q = true then 7 else 1) else if b = 33 then (if q = true then 8 else 1) else 1
def tz_eq (T : Nat → Int32) (L p : Nat) : Bool := decide (p + 1 < L ∧ T (p + 1) = 61)
def tz_ln (κ : Nat) : Nat := if κ = 7 ∨ κ = 8 ∨ κ = 10 then 2 else 1
/-- the token that begins behind the blanks at i: kind, value, where the next one is looked for -/
def tz_p (T : Nat → Int32) (L i : Nat) : Nat := tz_run tz_bl T L i
def tz_k (T : Nat → Int32) (L i : Nat) : Nat := if L ≤ tz_p T L i then 0 else if tz_le (T (tz_p T L i)) = true then tz_wk T (tz_p T L i) (tz_run tz_le T L (tz_p T L i)) else if tz_di (T (tz_p T L i)) = true then (if tz_run tz_di T L (tz_p T L i) - tz_p T L i ≤ 4 then 2 else 1) else tz_sg (T (tz_p T L i)) (tz_eq T L (tz_p T L i))
def tz_v (T : Nat → Int32) (L i : Nat) : Int32 := if L ≤ tz_p T L i then 0 else if tz_le (T (tz_p T L i)) = true then 0 else if tz_di (T (tz_p T L i)) = true then tz_vl T (tz_p T L i) (tz_run tz_di T L (tz_p T L i) - tz_p T L i) else 0
def tz_j (T : Nat → Int32) (L i : Nat) : Nat := if L ≤ tz_p T L i then tz_p T L i else if tz_le (T (tz_p T L i)) = true then tz_run tz_le T L (tz_p T L i) else if tz_di (T (tz_p T L i)) = true then tz_run tz_di T L (tz_p T L i) else tz_p T L i + tz_ln (tz_sg (T (tz_p T L i)) (tz_eq T L (tz_p T L i)))
