/-! small questions that both sides answer alike -/
section RelA
variable {n n2 : Nat} {I A I2 A2 : Nat → Nat → Int32} {J J2 : Nat → Nat → Int64} {t t2 : Bool × Bool} {x : Int32}
theorem eq_isDay : px_X11_isDay n I A J t x = px_X12_isDay n2 I2 A2 J2 t2 x := rfl
theorem eq_isHour : px_X11_isHour n I A J t x = px_X12_isHour n2 I2 A2 J2 t2 x := rfl
theorem eq_isBand : px_X11_isBand n I A J t x = px_X12_isBand n2 I2 A2 J2 t2 x := rfl
theorem eq_land (h : I 1 3 = I2 68 35) : px_X9_has_1 n I A J t x = px_X12_isLand_68 n2 I2 A2 J2 t2 x := by
  unfold px_X9_has_1 px_X12_isLand_68 qs0m1_X9_has_1 qs0m1_X12_isLand_68 qs0m9_X9_has_1 qs0m9_X12_isLand_68
  rw [h]
theorem eq_site (h : I 5 3 = I2 68 36) : px_X9_has_5 n I A J t x = px_X12_isSite_68 n2 I2 A2 J2 t2 x := by
  unfold px_X9_has_5 px_X12_isSite_68 qs0m1_X9_has_5 qs0m1_X12_isSite_68 qs0m9_X9_has_5 qs0m9_X12_isSite_68
  rw [h]
theorem has5_iff : px_X9_has_5 n I A J t x = 0 ↔ (x < 0 ∨ I 5 3 ≤ x) := by
  unfold px_X9_has_5 qs0m1_X9_has_5 qs0m9_X9_has_5
  by_cases h1 : x < 0
  · simp [h1]
  · by_cases h2 : I 5 3 ≤ x
    · simp [h1, h2]
    · simp only [if_neg h1, if_neg h2, h1, h2, or_self, iff_false]
      decide
theorem has1_iff : px_X9_has_1 n I A J t x = 0 ↔ (x < 0 ∨ I 1 3 ≤ x) := by
  unfold px_X9_has_1 qs0m1_X9_has_1 qs0m9_X9_has_1
  by_cases h1 : x < 0
  · simp [h1]
  · by_cases h2 : I 1 3 ≤ x
    · simp [h1, h2]
    · simp only [if_neg h1, if_neg h2, h1, h2, or_self, iff_false]
      decide
end RelA
