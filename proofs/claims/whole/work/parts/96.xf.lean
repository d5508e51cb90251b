/-! the reference's tokens: one token, and all of them -/
theorem cx_sgn {n : Nat} {I A : Nat → Nat → Int32} {J : Nat → Nat → Int64} {t : Bool × Bool} {x b c d : Int32} {q : Bool} (h : ∀ m, m < 128 → (c = nI m ↔ b = nI m)) (hq : d = 61 ↔ q = true) : cz_m (tz_sg b q) (ql5m51_X12_sign_68 n I A J t x c d) ∧ px_X12_sign_68 n I A J t x c d = nI (tz_ln (tz_sg b q)) := by
  have a59 : (c = 59) = (b = 59) := propext (h 59 (by decide))
  have a43 : (c = 43) = (b = 43) := propext (h 43 (by decide))
  have a45 : (c = 45) = (b = 45) := propext (h 45 (by decide))
  have a42 : (c = 42) = (b = 42) := propext (h 42 (by decide))
  have a40 : (c = 40) = (b = 40) := propext (h 40 (by decide))
  have a41 : (c = 41) = (b = 41) := propext (h 41 (by decide))
  have a60 : (c = 60) = (b = 60) := propext (h 60 (by decide))
  have a61 : (c = 61) = (b = 61) := propext (h 61 (by decide))
  have a33 : (c = 33) = (b = 33) := propext (h 33 (by decide))
  have a6 : (d = 61) = (q = true) := propext hq
  unfold px_X12_sign_68 ql5m51_X12_sign_68 qs0m159_X12_sign_68 qs0m3_X12_sign_68 qs0m13_X12_sign_68 qs0m24_X12_sign_68 qs0m35_X12_sign_68 ql5m64_X12_sign_68 ql5m76_X12_sign_68 ql5m89_X12_sign_68 ql5m102_X12_sign_68 ql5m115_X12_sign_68 ql5m128_X12_sign_68 ql5m141_X12_sign_68
  simp only [a59, a43, a45, a42, a40, a41, a60, a61, a33, a6]
  unfold cz_m tz_sg
  clear a59 a43 a45 a42 a40 a41 a60 a61 a33 a6 h hq
  by_cases h59 : b = 59
  · subst h59; cases q <;> decide
  by_cases h43 : b = 43
  · subst h43; cases q <;> decide
  by_cases h45 : b = 45
  · subst h45; cases q <;> decide
  by_cases h42 : b = 42
  · subst h42; cases q <;> decide
  by_cases h40 : b = 40
  · subst h40; cases q <;> decide
  by_cases h41 : b = 41
  · subst h41; cases q <;> decide
  by_cases h60 : b = 60
  · subst h60; cases q <;> decide
  by_cases h61 : b = 61
  · subst h61; cases q <;> decide
  by_cases h33 : b = 33
  · subst h33; cases q <;> decide
  rw [if_neg h59, if_neg h43, if_neg h45, if_neg h42, if_neg h40, if_neg h41, if_neg h60, if_neg h61, if_neg h33, if_neg h59, if_neg h43, if_neg h45, if_neg h42, if_neg h40, if_neg h41, if_neg h60, if_neg h61, if_neg h33, if_neg h60]
  cases q <;> decide
theorem cx_fw {T : Nat → Int32} {p e : Nat} : ∀ k, k ≤ 15 → tz_fw T p e k = 1 ∨ (13 ≤ tz_fw T p e k ∧ tz_fw T p e k ≤ 27)
  | 0, _ => Or.inl rfl
  | k + 1, h => by
    have ih := cx_fw (T := T) (p := p) (e := e) k (by omega)
    unfold tz_fw
    split
    · split
      · right; omega
      · exact Or.inl rfl
    · exact ih
theorem cx_fw7 {T : Nat → Int32} {p e : Nat} (h6 : 6 < e - p) (hl : tz_le (T (p + 6)) = true) : ∀ k, k ≤ 15 → tz_fw T p e k = 1
  | 0, _ => rfl
  | k + 1, h => by
    have ih := cx_fw7 h6 hl k (by omega)
    have w : ¬ tz_wm T p e k 8 = true := by
      intro z
      have y := (kw_wm 8).1 z 6 (by decide)
      rw [if_neg (by omega)] at y
      have a := kw_all k (by omega)
      rw [(a.2.2.2.2 6 (by decide)).2 a.1] at y
      rw [← y] at hl
      exact absurd hl (by decide)
    unfold tz_fw
    rw [if_pos ih, if_neg w]
theorem cx_k {T : Nat → Int32} {L a b : Nat} (h : tz_p T L a = tz_p T L b) : tz_k T L a = tz_k T L b ∧ tz_v T L a = tz_v T L b ∧ tz_j T L a = tz_j T L b := by
  unfold tz_k tz_v tz_j
  rw [h]
  exact ⟨rfl, rfl, rfl⟩
