/-! what adds a row: masts, programmes, grounds -/
section Adds
variable {n : Nat} {I A I2 A2 : Nat → Nat → Int32} {J J2 : Nat → Nat → Int64} {t t2 : Bool × Bool}
theorem ms_mast {x y : Int32} (hs : I 5 3 = I2 68 36) (hs4 : ∃ s : Nat, s ≤ 4 ∧ I 5 3 = nI s) (h : rl_masts I A I2 A2) :
    pb_X11_mast_0 n I A J t x y ∧ pb_X12_mast_68 n I2 A2 J2 t2 x y ∧ px_X12_mast_68 n I2 A2 J2 t2 x y = px_X11_mast_0 n I A J t x y ∧
    rl_masts (pI_X11_mast_0 n I A J t x y) (pA_X11_mast_0 n I A J t x y) (pI_X12_mast_68 n I2 A2 J2 t2 x y) (pA_X12_mast_68 n I2 A2 J2 t2 x y) := by
  have hh := h
  obtain ⟨⟨m, hm, h1, h2⟩, h3⟩ := h
  obtain ⟨s4, hs4, hs5⟩ := hs4
  have cl : (nI m).toNatClampNeg = m := nI_clamp (by omega)
  have e6 : nI m < 6 ↔ m < 6 := nI_ltI (b := 6) (by omega) (by decide)
  have q6 : nI m = 6 ↔ m = 6 := nI_eq (b := 6) (by omega) (by decide)
  have es : px_X12_isSite_68 n I2 A2 J2 t2 x = px_X9_has_5 n I A J t x := (eq_site hs).symm
  unfold pb_X11_mast_0 pb_X12_mast_68 px_X11_mast_0 px_X12_mast_68 pI_X11_mast_0 pI_X12_mast_68 pA_X11_mast_0 pA_X12_mast_68 pb_X2_add_9 px_X2_add_9 pI_X2_add_9 pA_X2_add_9
  unfold qI57_X12_mast_68 qA49_X12_mast_68 qA39_X12_mast_68 qI38_X2_add_9 qA30_X2_add_9 qA20_X2_add_9
  rw [es, h1, h2, cl, nI_1, cw_u_s, cw_u_s, nI_pred]
  have vin : m < 6 → vp_in (nI m) 6 := fun q => vp_in_nI q (by decide)
  refine ⟨fun _ _ _ q => ⟨vin (e6.mp q), vin (e6.mp q)⟩, fun q _ _ _ => ?_, ?_⟩
  · have : m < 6 := by
      have : ¬ _ := fun z => q (q6.mpr z)
      omega
    exact ⟨vin this, vin this⟩
  by_cases c1 : px_X9_has_5 n I A J t x = 0
  · simp only [if_pos c1, ite_self]
    exact ⟨trivial, hh⟩
  simp only [if_neg c1]
  by_cases c2 : y < 1
  · simp only [if_pos c2, ite_self]
    exact ⟨trivial, hh⟩
  simp only [if_neg c2]
  by_cases c3 : y ≤ 9
  · simp only [if_pos c3]
    by_cases c4 : m < 6
    · have c5 : ¬ nI m = 6 := fun q => absurd (q6.mp q) (by omega)
      simp only [if_pos (e6.mpr c4), if_neg c5]
      refine ⟨trivial, ⟨m + 1, by omega, by rw [cw_u_s], by rw [cw_u_s]⟩, fun i hi => ?_⟩
      by_cases q : i = m
      · subst q
        obtain ⟨k, hk, rfl⟩ := has5_of hs5 (by omega) c1
        have y1 : vp_in y 10 := by
          rw [tI_in]
          rw [tI_lt] at c2
          rw [tI_le] at c3
          have a1 : (1 : Int32).toInt = 1 := rfl
          have a2 : (9 : Int32).toInt = 9 := rfl
          omega
        have x1 : vp_in (nI k) 4 := vp_in_nI (by omega) (by decide)
        simp only [cw_u]
        simp
        exact ⟨x1, y1⟩
      · have := h3 i hi
        simp only [cw_u]
        simp [q]
        exact this
    · have c5 : nI m = 6 := q6.mpr (by omega)
      simp only [if_neg (fun q => c4 (e6.mp q)), if_pos c5]
      exact ⟨trivial, hh⟩
  · simp only [if_neg c3, ite_self]
    exact ⟨trivial, hh⟩
theorem pr_programme {x y z : Int32} (hs : I 1 3 = I2 68 35) (hs4 : ∃ s : Nat, s ≤ 8 ∧ I 1 3 = nI s) (h : rl_progs I A I2 A2) :
    pb_X11_programme_0 n I A J t x y z ∧ pb_X12_programme_68 n I2 A2 J2 t2 x y z ∧ px_X12_programme_68 n I2 A2 J2 t2 x y z = px_X11_programme_0 n I A J t x y z ∧
    rl_progs (pI_X11_programme_0 n I A J t x y z) (pA_X11_programme_0 n I A J t x y z) (pI_X12_programme_68 n I2 A2 J2 t2 x y z) (pA_X12_programme_68 n I2 A2 J2 t2 x y z) := by
  have hh := h
  obtain ⟨⟨m, hm, h1, h2⟩, h3⟩ := h
  obtain ⟨s4, hs4, hs5⟩ := hs4
  have cl : (nI m).toNatClampNeg = m := nI_clamp (by omega)
  have e6 : nI m < 10 ↔ m < 10 := nI_ltI (b := 10) (by omega) (by decide)
  have q6 : nI m = 10 ↔ m = 10 := nI_eq (b := 10) (by omega) (by decide)
  have es : px_X12_isLand_68 n I2 A2 J2 t2 x = px_X9_has_1 n I A J t x := (eq_land hs).symm
  unfold pb_X11_programme_0 pb_X12_programme_68 px_X11_programme_0 px_X12_programme_68 pI_X11_programme_0 pI_X12_programme_68 pA_X11_programme_0 pA_X12_programme_68 pb_X6_add_12 px_X6_add_12 pI_X6_add_12 pA_X6_add_12
  unfold qI71_X12_programme_68 qA63_X12_programme_68 qA53_X12_programme_68 qA43_X12_programme_68 qI48_X6_add_12 qA40_X6_add_12 qA30_X6_add_12 qA20_X6_add_12
  rw [es, h1, h2, cl, nI_1, cw_u_s, cw_u_s, nI_pred]
  have vin : m < 10 → vp_in (nI m) 10 := fun q => vp_in_nI q (by decide)
  refine ⟨fun _ _ q => ⟨vin (e6.mp q), vin (e6.mp q), vin (e6.mp q)⟩, fun q _ _ _ _ => ?_, ?_⟩
  · have : m < 10 := by
      have : ¬ _ := fun z => q (q6.mpr z)
      omega
    exact ⟨vin this, vin this, vin this⟩
  by_cases c1 : px_X9_has_1 n I A J t x = 0
  · simp only [if_pos c1, ite_self]
    exact ⟨trivial, hh⟩
  simp only [if_neg c1]
  by_cases c2 : px_X11_isSpan n I A J t y z = 0
  · simp only [if_pos c2]
    rcases span_iff.mp c2 with q | q | q
    · simp only [if_pos q, ite_self]; exact ⟨trivial, hh⟩
    · simp only [if_pos q, ite_self]; exact ⟨trivial, hh⟩
    · simp only [if_neg q, ite_self]; exact ⟨trivial, hh⟩
  simp only [if_neg c2]
  have d1 := fun q => c2 (span_iff.mpr (Or.inl q))
  have d2 := fun q => c2 (span_iff.mpr (Or.inr (Or.inl q)))
  have d3 : z ≤ 24 := Classical.byContradiction (fun q => c2 (span_iff.mpr (Or.inr (Or.inr q))))
  simp only [if_neg d1, if_neg d2, if_pos d3]
  by_cases c4 : m < 10
  · have c5 : ¬ nI m = 10 := fun q => absurd (q6.mp q) (by omega)
    simp only [if_pos (e6.mpr c4), if_neg c5]
    refine ⟨trivial, ⟨m + 1, by omega, by rw [cw_u_s], by rw [cw_u_s]⟩, fun i hi => ?_⟩
    by_cases q : i = m
    · subst q
      obtain ⟨k, hk, rfl⟩ := has1_of hs5 (by omega) c1
      have x1 : vp_in (nI k) 8 := vp_in_nI (by omega) (by decide)
      simp only [cw_u]
      simp
      exact x1
    · have := h3 i hi
      simp only [cw_u]
      simp [q]
      exact this
  · have c5 : nI m = 10 := q6.mpr (by omega)
    simp only [if_neg (fun q => c4 (e6.mp q)), if_pos c5]
    exact ⟨trivial, hh⟩
end Adds
