/-! small questions that both sides answer alike -/
section RelA
variable {n n2 : Nat} {I A I2 A2 : Nat → Nat → Int32} {J J2 : Nat → Nat → Int64} {t t2 : Bool × Bool} {x : Int32}
theorem eq_isDay : px_X11_isDay n I A J t x = px_X12_isDay n2 I2 A2 J2 t2 x := rfl
theorem eq_isHour : px_X11_isHour n I A J t x = px_X12_isHour n2 I2 A2 J2 t2 x := rfl
theorem eq_isBand : px_X11_isBand n I A J t x = px_X12_isBand n2 I2 A2 J2 t2 x := rfl
theorem eq_land (h : I 1 3 = I2 68 35) : px_X9_has_1 n I A J t x = px_X12_isLand_68 n2 I2 A2 J2 t2 x := by
  unfold px_X9_has_1 px_X12_isLand_68 qs0m1_X9_has_1 qs0m1_X12_isLand_68 qs0m9_X9_has_1 qs0m9_X12_isLand_68
  rw [h]
theorem eq_site (h : I 5 3 = I2 68 36) : px_X9_has_5 n I A J t x = px_X12_isSite_68 n2 I2 A2 J2 t2 x := by
  unfold px_X9_has_5 px_X12_isSite_68 qs0m1_X9_has_5 qs0m1_X12_isSite_68 qs0m9_X9_has_5 qs0m9_X12_isSite_68
  rw [h]
theorem eq_known (h : I 19 9 = I2 68 50) : px_X1_canKnow_19 n I A J t x = px_X12_isKnown_68 n2 I2 A2 J2 t2 x := by
  unfold px_X1_canKnow_19 px_X12_isKnown_68 qs0m1_X1_canKnow_19 qs0m1_X12_isKnown_68 qs0m9_X1_canKnow_19 qs0m9_X12_isKnown_68
  rw [h]
/-- a value between 0 and a bound -/
def qz (x m : Int32) : Int32 := if x < 0 then 0 else if m ≤ x then 0 else 1
theorem qz_iff {m : Int32} : qz x m = 0 ↔ (x < 0 ∨ m ≤ x) := by
  unfold qz
  by_cases h1 : x < 0
  · simp [h1]
  · by_cases h2 : m ≤ x
    · simp [h1, h2]
    · simp only [if_neg h1, if_neg h2, h1, h2, or_self, iff_false]
      decide
theorem qz_of {m : Nat} (hm : m < 2 ^ 31) (q : ¬ qz x (nI m) = 0) : ∃ k, k < m ∧ x = nI k := by
  have h := fun z => q (qz_iff.mpr z)
  obtain ⟨k, hk, rfl⟩ := nI_of (fun z => h (Or.inl z))
  exact ⟨k, Nat.lt_of_not_le (fun z => h (Or.inr (nI_le z hk))), rfl⟩
theorem qz_in {k m : Nat} (hm : m < 2 ^ 31) (h : k < m) : ¬ qz (nI k) (nI m) = 0 := fun q => by
  rcases qz_iff.mp q with q | q
  · exact nI_pos (by omega) q
  · exact nI_ge h hm q
theorem has5_iff : px_X9_has_5 n I A J t x = 0 ↔ (x < 0 ∨ I 5 3 ≤ x) := qz_iff (m := I 5 3)
theorem has1_iff : px_X9_has_1 n I A J t x = 0 ↔ (x < 0 ∨ I 1 3 ≤ x) := qz_iff (m := I 1 3)
theorem has5_of {m : Nat} (h : I 5 3 = nI m) (hm : m < 2 ^ 31) (q : ¬ px_X9_has_5 n I A J t x = 0) : ∃ k, k < m ∧ x = nI k := qz_of hm (by rw [← h]; exact q)
theorem has1_of {m : Nat} (h : I 1 3 = nI m) (hm : m < 2 ^ 31) (q : ¬ px_X9_has_1 n I A J t x = 0) : ∃ k, k < m ∧ x = nI k := qz_of hm (by rw [← h]; exact q)
theorem has9_of {m : Nat} (h : I 9 2 = nI m) (hm : m < 2 ^ 31) (q : ¬ px_X2_has_9 n I A J t x = 0) : ∃ k, k < m ∧ x = nI k := qz_of hm (by rw [← h]; exact q)
theorem band_of (q : ¬ px_X11_isBand n I A J t x = 0) : ∃ k, k < 6 ∧ x = nI k := qz_of (m := 6) (by omega) q
theorem hour_of (q : ¬ px_X11_isHour n I A J t x = 0) : ∃ k, k < 24 ∧ x = nI k := qz_of (m := 24) (by omega) q
theorem day_of (q : ¬ px_X11_isDay n I A J t x = 0) : ∃ k, k < 3600 ∧ x = nI k := qz_of (m := 3600) (by omega) q
theorem known_of {m : Nat} (h : I 19 9 = nI m) (hm : m < 2 ^ 31) (q : ¬ px_X1_canKnow_19 n I A J t x = 0) : ∃ k, k ≤ m ∧ x = nI k := by
  unfold px_X1_canKnow_19 qs0m1_X1_canKnow_19 qs0m9_X1_canKnow_19 at q
  by_cases c1 : x < 0
  · rw [if_pos c1] at q; exact absurd rfl q
  · rw [if_neg c1] at q
    by_cases c2 : I 19 9 < x
    · rw [if_pos c2] at q; exact absurd rfl q
    · obtain ⟨k, hk, rfl⟩ := nI_of c1
      rw [h] at c2
      exact ⟨k, Nat.le_of_not_lt (fun z => c2 (nI_lt z hk)), rfl⟩
theorem span_iff {y : Int32} : px_X11_isSpan n I A J t x y = 0 ↔ (x < 0 ∨ y ≤ x ∨ ¬ y ≤ 24) := by
  unfold px_X11_isSpan qs0m1_X11_isSpan qs0m6_X11_isSpan qs0m12_X11_isSpan
  by_cases h1 : x < 0
  · simp [h1]
  · by_cases h2 : y ≤ x
    · simp [h1, h2]
    · by_cases h3 : y ≤ 24
      · simp only [if_neg h1, if_neg h2, if_neg (Int32.not_lt.mpr h3), h1, h2, h3, not_true_eq_false, or_self, iff_false]
        decide
      · simp only [if_pos (Int32.not_le.mp h3), h3, ite_self, not_false_eq_true, or_true]
theorem num_iff : px_X11_isNumber n I A J t x = 0 ↔ (x < -99 ∨ ¬ x ≤ 99) := by
  unfold px_X11_isNumber qs0m3_X11_isNumber qs0m9_X11_isNumber
  by_cases h1 : x < -99
  · simp [h1]
  · by_cases h2 : x ≤ 99
    · simp only [if_neg h1, if_neg (Int32.not_lt.mpr h2), h1, h2, not_true_eq_false, or_self, iff_false]
      decide
    · simp only [if_pos (Int32.not_le.mp h2), h2, ite_self, not_false_eq_true, or_true]
theorem num_of (q1 : ¬ x < -99) (q2 : x ≤ 99) : -99 ≤ x.toInt ∧ x.toInt ≤ 99 := by
  rw [tI_lt] at q1
  rw [tI_le] at q2
  have a1 : (-99 : Int32).toInt = -99 := rfl
  have a2 : (99 : Int32).toInt = 99 := rfl
  omega
end RelA
