/-! grounds, facts -/
section Adds2
variable {n : Nat} {I A I2 A2 : Nat → Nat → Int32} {J J2 : Nat → Nat → Int64} {t t2 : Bool × Bool}
set_option maxHeartbeats 1000000 in
theorem gr_ground {x y z : Int32} (hl : rl_lands I A I2 A2) (hs : rl_sites I A I2 A2) :
    pb_X11_ground_0 n I A J t x y z ∧ pb_X12_ground_68 n I2 A2 J2 t2 x y z ∧ px_X12_ground_68 n I2 A2 J2 t2 x y z = px_X11_ground_0 n I A J t x y z ∧
    rl_lands (pI_X11_ground_0 n I A J t x y z) (pA_X11_ground_0 n I A J t x y z) (pI_X12_ground_68 n I2 A2 J2 t2 x y z) (pA_X12_ground_68 n I2 A2 J2 t2 x y z) ∧
    rl_sites (pI_X11_ground_0 n I A J t x y z) (pA_X11_ground_0 n I A J t x y z) (pI_X12_ground_68 n I2 A2 J2 t2 x y z) (pA_X12_ground_68 n I2 A2 J2 t2 x y z) := by
  have hh := hl
  have hg := hs
  obtain ⟨⟨m, hm, h1, h2⟩, h3⟩ := hl
  obtain ⟨⟨k, hk, g1, g2⟩, g3⟩ := hs
  have cl : (nI m).toNatClampNeg = m := nI_clamp (by omega)
  have ck : (nI k).toNatClampNeg = k := nI_clamp (by omega)
  have c8 : ((8 : Int32) + nI k).toNatClampNeg = 8 + k := by
    have : (8 : Int32) + nI k = nI (8 + k) := nI_add 8 k
    rw [this]; exact nI_clamp (by omega)
  have v8 : k < 4 → vp_in ((8 : Int32) + nI k) 12 := fun q => by
    have : (8 : Int32) + nI k = nI (8 + k) := nI_add 8 k
    rw [this]; exact vp_in_nI (by omega) (by decide)
  have e8 : nI m < nI 8 ↔ m < 8 := nI_ltI (by omega) (by decide)
  have q8 : nI m = 8 ↔ m = 8 := nI_eq (b := 8) (by omega) (by decide)
  have e4 : nI k < nI 4 ↔ k < 4 := nI_ltI (by omega) (by decide)
  have q4 : nI k = 4 ↔ k = 4 := nI_eq (b := 4) (by omega) (by decide)
  unfold pb_X11_ground_0 pb_X12_ground_68 px_X11_ground_0 px_X12_ground_68 pI_X11_ground_0 pI_X12_ground_68 pA_X11_ground_0 pA_X12_ground_68 qIm34_X11_ground_0 qAm34_X11_ground_0 qs0m34_X11_ground_0 pb_X9_add_1 px_X9_add_1 pI_X9_add_1 pA_X9_add_1 pb_X9_add_5 px_X9_add_5 pI_X9_add_5 pA_X9_add_5
  unfold qA122_X12_ground_68 qA107_3_X12_ground_68 qA99_2_X12_ground_68 qA107_X12_ground_68 qA99_X12_ground_68 qI147_X12_ground_68 qI130_X12_ground_68 q90_1_X12_ground_68 q90_X12_ground_68 qs0m34_X12_ground_68 qA43_X9_add_5 qA33_X9_add_5 qA23_X9_add_5 qI51_X9_add_5 qA43_X9_add_1 qA33_X9_add_1 qA23_X9_add_1 qI51_X9_add_1
  rw [h1, h2, g1, g2, cl, ck, c8, nI_1, nI_1, cw_u_s, cw_u_s, cw_u_s, cw_u_s, nI_pred, nI_pred]
  have b23 : (23 : Int32) < x ↔ (24 : Int32) ≤ x := by
    rw [tI_lt, tI_le]
    have a1 : (23 : Int32).toInt = 23 := rfl
    have a2 : (24 : Int32).toInt = 24 := rfl
    omega
  have b6 : (6 : Int32) < y ↔ (7 : Int32) ≤ y := by
    rw [tI_lt, tI_le]
    have a1 : (6 : Int32).toInt = 6 := rfl
    have a2 : (7 : Int32).toInt = 7 := rfl
    omega
  have vm : m < 8 → vp_in (nI m) 8 := fun q => vp_in_nI q (by decide)
  have vm2 : m < 8 → vp_in (nI m) 12 := fun q => vp_in_nI (by omega) (by decide)
  have vk : k < 4 → vp_in (nI k) 4 := fun q => vp_in_nI q (by decide)
  refine ⟨fun _ _ _ _ _ _ => ⟨fun _ q => ⟨vm (e8.mp q), vm (e8.mp q), vm (e8.mp q)⟩, fun _ q => ⟨vk (e4.mp q), vk (e4.mp q), vk (e4.mp q)⟩⟩, fun _ _ _ _ _ _ => ⟨fun _ q => ?_, fun _ q => ?_⟩, ?_⟩
  · have : k < 4 := by
      have : ¬ _ := fun z => q (q4.mpr z)
      omega
    exact ⟨v8 this, v8 this⟩
  · have : m < 8 := by
      have : ¬ _ := fun z => q (q8.mpr z)
      omega
    exact ⟨vm2 this, vm2 this, vm this⟩
  simp only [b23, b6]
  by_cases c1 : x < 0
  · simp only [if_pos c1]; exact ⟨trivial, hh, hg⟩
  simp only [if_neg c1]
  by_cases c2 : (24 : Int32) ≤ x
  · simp only [if_pos c2]; exact ⟨trivial, hh, hg⟩
  simp only [if_neg c2]
  by_cases c3 : y < 0
  · simp only [if_pos c3]; exact ⟨trivial, hh, hg⟩
  simp only [if_neg c3]
  by_cases c4 : (7 : Int32) ≤ y
  · simp only [if_pos c4]; exact ⟨trivial, hh, hg⟩
  simp only [if_neg c4]
  by_cases c5 : z < 0
  · simp only [if_pos c5]; exact ⟨trivial, hh, hg⟩
  simp only [if_neg c5]
  by_cases c6 : z ≤ 10000
  rotate_left
  · simp only [if_neg c6]; exact ⟨trivial, hh, hg⟩
  simp only [if_pos c6]
  have vx : vp_in x 24 := by
    rw [tI_in]; rw [tI_lt] at c1; rw [tI_le] at c2
    have a1 : (0 : Int32).toInt = 0 := rfl
    have a2 : (24 : Int32).toInt = 24 := rfl
    omega
  have vy : vp_in y 7 := by
    rw [tI_in]; rw [tI_lt] at c3; rw [tI_le] at c4
    have a1 : (0 : Int32).toInt = 0 := rfl
    have a2 : (7 : Int32).toInt = 7 := rfl
    omega
  have vz : vp_in z 10001 := by
    rw [tI_in]; rw [tI_lt] at c5; rw [tI_le] at c6
    have a1 : (0 : Int32).toInt = 0 := rfl
    have a2 : (10000 : Int32).toInt = 10000 := rfl
    omega
  by_cases c7 : z = 0
  · subst c7
    have c8 : (0 : Int32) ≤ 0 := by decide
    simp only [if_pos c8, if_true]
    by_cases c9 : k < 4
    · have c10 : ¬ nI k = 4 := fun q => absurd (q4.mp q) (by omega)
      simp only [if_pos (e4.mpr c9), if_neg c10]
      refine ⟨trivial, ⟨⟨m, hm, by rw [cw_u_c _ _ (by decide)]; exact h1, by rw [cw_u_k _ _ (by decide)]; exact h2⟩, fun i hi => ?_⟩, ⟨k + 1, by omega, by rw [cw_u_s], by rw [cw_u_s]⟩, fun i hi => ?_⟩
      · have := h3 i hi
        have z1 : ¬ i = 8 + k := by omega
        simp only [cw_u]
        simp [z1]
        exact this
      · by_cases q : i = k
        · subst q
          simp only [cw_u]
          simp
          exact ⟨vx, vy⟩
        · have := g3 i hi
          simp only [cw_u]
          simp [q]
          exact this
    · have c10 : nI k = 4 := q4.mpr (by omega)
      simp only [if_neg (fun q => c9 (e4.mp q)), if_pos c10]
      exact ⟨trivial, hh, hg⟩
  · have c8 : ¬ z ≤ 0 := fun q => c7 (Int32.le_antisymm q (Int32.not_lt.mp c5))
    have c11 : ¬ (1 : Int32) = 0 := by decide
    simp only [if_neg c7, if_neg c8, if_neg c11]
    by_cases c9 : m < 8
    · have c10 : ¬ nI m = 8 := fun q => absurd (q8.mp q) (by omega)
      simp only [if_pos (e8.mpr c9), if_neg c10]
      refine ⟨trivial, ⟨⟨m + 1, by omega, by rw [cw_u_s], by rw [cw_u_s]⟩, fun i hi => ?_⟩, ⟨k, hk, by rw [cw_u_c _ _ (by decide)]; exact g1, by rw [cw_u_k _ _ (by decide)]; exact g2⟩, fun i hi => ?_⟩
      · by_cases q : i = m
        · subst q
          simp only [cw_u]
          simp
          exact ⟨vx, vy, vz⟩
        · have := h3 i hi
          simp only [cw_u]
          simp [q]
          exact this
      · have := g3 i hi
        have z1 : ¬ 8 + i = m := by omega
        simp only [cw_u]
        simp [z1]
        exact this
    · have c10 : nI m = 8 := q8.mpr (by omega)
      simp only [if_neg (fun q => c9 (e8.mp q)), if_pos c10]
      exact ⟨trivial, hh, hg⟩
/-- the explicit world behind a report, behind a notice -/
def fc_rA (A : Nat → Nat → Int32) (m : Nat) (x1 x2 x3 x4 x5 d : Int32) : Nat → Nat → Int32 := cw_u (cw_u (cw_u (cw_u (cw_u (cw_u (cw_u A 20 m x1) 26 m x5) 22 m x3) 23 m x4) 24 m (x4 + 1)) 21 m x2) 25 m d
def fc_rB (A : Nat → Nat → Int32) (m : Nat) (x1 x2 x3 x4 x5 d : Int32) : Nat → Nat → Int32 := cw_u (cw_u (cw_u (cw_u (cw_u (cw_u (cw_u A 99 m 0) 100 m d) 101 m x1) 102 m x2) 103 m x3) 104 m x4) 106 m x5
theorem fc_repA {m : Nat} (hm : m ≤ 300) (h1 : I 19 9 = nI m) {x1 x2 x3 x4 x5 : Int32} :
    pb_X11_report_0 n I A J t x1 x2 x3 x4 x5 ∧
    (¬ (¬ px_X9_has_5 n I A J t x1 = 0 ∧ ¬ px_X9_has_1 n I A J t x2 = 0 ∧ ¬ px_X11_isBand n I A J t x3 = 0 ∧ ¬ px_X11_isHour n I A J t x4 = 0 ∧ ¬ x5 < -99 ∧ x5 ≤ 99 ∧ m < 300) → px_X11_report_0 n I A J t x1 x2 x3 x4 x5 = -1 ∧ pI_X11_report_0 n I A J t x1 x2 x3 x4 x5 = I ∧ pA_X11_report_0 n I A J t x1 x2 x3 x4 x5 = A) ∧
    ((¬ px_X9_has_5 n I A J t x1 = 0 ∧ ¬ px_X9_has_1 n I A J t x2 = 0 ∧ ¬ px_X11_isBand n I A J t x3 = 0 ∧ ¬ px_X11_isHour n I A J t x4 = 0 ∧ ¬ x5 < -99 ∧ x5 ≤ 99 ∧ m < 300) → px_X11_report_0 n I A J t x1 x2 x3 x4 x5 = nI m ∧ pI_X11_report_0 n I A J t x1 x2 x3 x4 x5 = cw_u I 19 9 (nI (m + 1)) ∧ pA_X11_report_0 n I A J t x1 x2 x3 x4 x5 = fc_rA A m x1 x2 x3 x4 x5 (I 0 14)) := by
  have cl : (nI m).toNatClampNeg = m := nI_clamp (by omega)
  have e3 : nI m < 300 ↔ m < 300 := nI_ltI (b := 300) (by omega) (by decide)
  have vin : m < 300 → vp_in (nI m) 300 := fun q => vp_in_nI q (by decide)
  unfold pb_X11_report_0 px_X11_report_0 pI_X11_report_0 pA_X11_report_0 pb_X1_addReport_19 px_X1_addReport_19 pI_X1_addReport_19 pA_X1_addReport_19 pb_X1_add_19 px_X1_add_19 pI_X1_add_19 pA_X1_add_19
  unfold qA51_X1_add_19 qA40_X1_add_19 qA29_X1_add_19 qA19_X1_add_19 qA9_X1_add_19 qI59_X1_add_19 qA32_X1_addReport_19 qA21_X1_addReport_19 px_X11_isPath_0 qs0m8_X11_isPath_0 qs0m19_X11_isPath_0 qs0m26_X11_isPath_0
  rw [h1, cl, nI_1, cw_u_s, nI_pred]
  refine ⟨fun _ _ _ q => ?_, ?_⟩
  · have := vin (e3.mp q)
    exact ⟨this, this, this, this, this, this, this⟩
  have o1 : ¬ (1 : Int32) = 0 := by decide
  by_cases c1 : px_X9_has_5 n I A J t x1 = 0
  · simp only [c1, if_true, not_true_eq_false, false_and, not_false_eq_true, forall_const, false_implies, and_self, if_false, ite_self]
  by_cases c2 : px_X9_has_1 n I A J t x2 = 0
  · simp only [if_neg c1, c2, if_true, not_true_eq_false, false_and, and_false, not_false_eq_true, forall_const, false_implies, and_self, if_false, ite_self]
  by_cases c3 : px_X11_isBand n I A J t x3 = 0
  · simp only [if_neg c1, if_neg c2, c3, if_true, not_true_eq_false, false_and, and_false, not_false_eq_true, forall_const, false_implies, and_self, if_false, ite_self]
  simp only [if_neg c1, if_neg c2, if_neg c3, if_neg o1, c1, c2, c3, not_false_eq_true, true_and, if_true, if_false, ite_self]
  by_cases c4 : px_X11_isHour n I A J t x4 = 0
  · simp only [c4, if_true, not_true_eq_false, false_and, not_false_eq_true, forall_const, false_implies, and_self, if_false, ite_self]
  simp only [if_neg c4, c4, not_false_eq_true, true_and, if_true, if_false, ite_self]
  by_cases c5 : px_X11_isNumber n I A J t x5 = 0
  · simp only [c5, if_true]
    refine ⟨fun _ => ⟨trivial, trivial, trivial⟩, fun q => ?_⟩
    rcases num_iff.mp c5 with z | z
    · exact absurd z q.1
    · exact absurd q.2.1 z
  simp only [if_neg c5]
  have d1 : ¬ x5 < -99 := fun q => c5 (num_iff.mpr (Or.inl q))
  have d2 : x5 ≤ 99 := Classical.byContradiction (fun q => c5 (num_iff.mpr (Or.inr q)))
  simp only [d1, d2, e3, not_false_eq_true, true_and, if_true, if_false, ite_self]
  by_cases c6 : m < 300
  · simp only [c6, if_true, not_true_eq_false, false_implies, forall_const, true_and, if_false, ite_self]
    rfl
  · simp only [c6, if_false, not_false_eq_true, false_implies, forall_const, and_self, if_true, ite_self]
theorem fc_repB {m : Nat} (hm : m ≤ 300) (h1 : I2 68 50 = nI m) {x1 x2 x3 x4 x5 : Int32} :
    pb_X12_report_68 n I2 A2 J2 t2 x1 x2 x3 x4 x5 ∧
    (¬ (¬ px_X12_isSite_68 n I2 A2 J2 t2 x1 = 0 ∧ ¬ px_X12_isLand_68 n I2 A2 J2 t2 x2 = 0 ∧ ¬ px_X12_isBand n I2 A2 J2 t2 x3 = 0 ∧ ¬ px_X12_isHour n I2 A2 J2 t2 x4 = 0 ∧ ¬ x5 < -99 ∧ x5 ≤ 99 ∧ m < 300) → px_X12_report_68 n I2 A2 J2 t2 x1 x2 x3 x4 x5 = -1 ∧ pI_X12_report_68 n I2 A2 J2 t2 x1 x2 x3 x4 x5 = I2 ∧ pA_X12_report_68 n I2 A2 J2 t2 x1 x2 x3 x4 x5 = A2) ∧
    ((¬ px_X12_isSite_68 n I2 A2 J2 t2 x1 = 0 ∧ ¬ px_X12_isLand_68 n I2 A2 J2 t2 x2 = 0 ∧ ¬ px_X12_isBand n I2 A2 J2 t2 x3 = 0 ∧ ¬ px_X12_isHour n I2 A2 J2 t2 x4 = 0 ∧ ¬ x5 < -99 ∧ x5 ≤ 99 ∧ m < 300) → px_X12_report_68 n I2 A2 J2 t2 x1 x2 x3 x4 x5 = nI m ∧ pI_X12_report_68 n I2 A2 J2 t2 x1 x2 x3 x4 x5 = cw_u I2 68 50 (nI (m + 1)) ∧ pA_X12_report_68 n I2 A2 J2 t2 x1 x2 x3 x4 x5 = fc_rB A2 m x1 x2 x3 x4 x5 (I2 68 49)) := by
  have cl : (nI m).toNatClampNeg = m := nI_clamp (by omega)
  have e3 : nI m = 300 ↔ ¬ m < 300 := (nI_eq (b := 300) (by omega) (by decide)).trans (by omega)
  have vin : m < 300 → vp_in (nI m) 300 := fun q => vp_in_nI q (by decide)
  have nz : vp_nar .boolean 0 = 0 := by decide
  unfold pb_X12_report_68 px_X12_report_68 pI_X12_report_68 pA_X12_report_68
  unfold qA131_X12_report_68 qA120_X12_report_68 qA109_X12_report_68 qA99_X12_report_68 qA89_X12_report_68 qA79_X12_report_68 qA66_X12_report_68 qI139_X12_report_68
  rw [h1, cl, nI_1, cw_u_s, nI_pred, nz]
  refine ⟨fun q _ _ _ _ _ _ => ?_, ?_⟩
  · have := vin (Classical.byContradiction (fun z => q (e3.mpr z)))
    exact ⟨this, this, this, this, this, this, this⟩
  simp only [e3]
  by_cases c6 : m < 300
  rotate_left
  · simp only [c6, not_false_eq_true, if_true, and_false, forall_const, false_implies, and_self, if_false, ite_self]
  simp only [c6, not_true_eq_false, if_false, and_true, if_true, ite_self]
  by_cases c1 : px_X12_isSite_68 n I2 A2 J2 t2 x1 = 0
  · simp only [c1, if_true, not_true_eq_false, false_and, not_false_eq_true, forall_const, false_implies, and_self, if_false, ite_self]
  by_cases c2 : px_X12_isLand_68 n I2 A2 J2 t2 x2 = 0
  · simp only [if_neg c1, c2, if_true, not_true_eq_false, false_and, and_false, not_false_eq_true, forall_const, false_implies, and_self, if_false, ite_self]
  by_cases c3 : px_X12_isBand n I2 A2 J2 t2 x3 = 0
  · simp only [if_neg c1, if_neg c2, c3, if_true, not_true_eq_false, false_and, and_false, not_false_eq_true, forall_const, false_implies, and_self, if_false, ite_self]
  simp only [if_neg c1, if_neg c2, if_neg c3, c1, c2, c3, not_false_eq_true, true_and, if_true, if_false, ite_self]
  by_cases c4 : px_X12_isHour n I2 A2 J2 t2 x4 = 0
  · simp only [c4, if_true, not_true_eq_false, false_and, not_false_eq_true, forall_const, false_implies, and_self, if_false, ite_self]
  simp only [if_neg c4, c4, not_false_eq_true, true_and, if_true, if_false, ite_self]
  by_cases c5 : x5 < -99
  · simp only [c5, if_true, not_true_eq_false, false_and, not_false_eq_true, forall_const, false_implies, and_self, if_false, ite_self]
  by_cases c7 : x5 ≤ 99
  · simp only [c5, c7, if_true, if_false, not_true_eq_false, not_false_eq_true, and_self, false_implies, forall_const, true_and, ite_self]
    rfl
  · simp only [c5, c7, if_false, not_false_eq_true, and_false, forall_const, false_implies, and_self, if_true, ite_self]
end Adds2
