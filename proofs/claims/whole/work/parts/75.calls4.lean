/-! reports and notices: both sides -/
section Facts
variable {n : Nat} {I A I2 A2 : Nat → Nat → Int32} {J J2 : Nat → Nat → Int64} {t t2 : Bool × Bool}
theorem fc_report {x1 x2 x3 x4 x5 : Int32} (hl : rl_lands I A I2 A2) (hs : rl_sites I A I2 A2) (hd : rl_day I I2) (h : rl_facts I A I2 A2) :
    pb_X11_report_0 n I A J t x1 x2 x3 x4 x5 ∧ pb_X12_report_68 n I2 A2 J2 t2 x1 x2 x3 x4 x5 ∧ px_X12_report_68 n I2 A2 J2 t2 x1 x2 x3 x4 x5 = px_X11_report_0 n I A J t x1 x2 x3 x4 x5 ∧
    rl_facts (pI_X11_report_0 n I A J t x1 x2 x3 x4 x5) (pA_X11_report_0 n I A J t x1 x2 x3 x4 x5) (pI_X12_report_68 n I2 A2 J2 t2 x1 x2 x3 x4 x5) (pA_X12_report_68 n I2 A2 J2 t2 x1 x2 x3 x4 x5) := by
  have hh := h
  obtain ⟨⟨m, hm, h1, h2, h3⟩, h4⟩ := h
  obtain ⟨⟨l, hl0, l1, l2⟩, -⟩ := hl
  obtain ⟨⟨s, hs0, s1, s2⟩, -⟩ := hs
  obtain ⟨d, hd0, d1, d2⟩ := hd
  have P := fc_repA (n := n) (I := I) (A := A) (J := J) (t := t) hm h1 (x1 := x1) (x2 := x2) (x3 := x3) (x4 := x4) (x5 := x5)
  have Q := fc_repB (n := n) (I2 := I2) (A2 := A2) (J2 := J2) (t2 := t2) hm h2 (x1 := x1) (x2 := x2) (x3 := x3) (x4 := x4) (x5 := x5)
  rw [← eq_site (n := n) (A := A) (J := J) (t := t) (s1.trans s2.symm), ← eq_land (n := n) (A := A) (J := J) (t := t) (l1.trans l2.symm), ← eq_isBand (n := n) (I := I) (A := A) (J := J) (t := t), ← eq_isHour (n := n) (I := I) (A := A) (J := J) (t := t)] at Q
  refine ⟨P.1, Q.1, ?_⟩
  by_cases c : (¬ px_X9_has_5 n I A J t x1 = 0 ∧ ¬ px_X9_has_1 n I A J t x2 = 0 ∧ ¬ px_X11_isBand n I A J t x3 = 0 ∧ ¬ px_X11_isHour n I A J t x4 = 0 ∧ ¬ x5 < -99 ∧ x5 ≤ 99 ∧ m < 300)
  · obtain ⟨p1, p2, p3⟩ := P.2.2 c
    obtain ⟨q1, q2, q3⟩ := Q.2.2 c
    rw [p1, p2, p3, q1, q2, q3]
    obtain ⟨c1, c2, c3, c4, c5, c6, c7⟩ := c
    obtain ⟨k1, hk1, rfl⟩ := has5_of s1 (by omega) c1
    obtain ⟨k2, hk2, rfl⟩ := has1_of l1 (by omega) c2
    obtain ⟨k3, hk3, rfl⟩ := band_of c3
    obtain ⟨k4, hk4, rfl⟩ := hour_of c4
    have n5 := num_of c5 c6
    have v1 : vp_in (nI k1) 4 := vp_in_nI (by omega) (by decide)
    have v2 : vp_in (nI k2) 8 := vp_in_nI (by omega) (by decide)
    have v3 : vp_in (nI k3) 6 := vp_in_nI (by omega) (by decide)
    have v4 : vp_in (nI k4) 24 := vp_in_nI (by omega) (by decide)
    have vd : vp_in (I 0 14) 3600 := by rw [d1]; exact vp_in_nI (by omega) (by decide)
    have ed : I2 68 49 = I 0 14 := d2.trans d1.symm
    refine ⟨rfl, ⟨m + 1, by omega, by rw [cw_u_s], by rw [cw_u_s], fun b hb => ?_⟩, fun f hf => ?_⟩
    · have e99 : ∀ j, j < m → fc_rB A2 m (nI k1) (nI k2) (nI k3) (nI k4) x5 (I2 68 49) 99 j = A2 99 j ∧ fc_rB A2 m (nI k1) (nI k2) (nI k3) (nI k4) x5 (I2 68 49) 103 j = A2 103 j := fun j hj => by
        have z1 : ¬ j = m := by omega
        unfold fc_rB
        simp only [cw_u]
        simp [z1]
      have e98 : fc_rB A2 m (nI k1) (nI k2) (nI k3) (nI k4) x5 (I2 68 49) 99 m = 0 := by
        unfold fc_rB
        simp only [cw_u]
        simp
      have ncm : ∀ j, j ≤ m → rl_nc (fc_rB A2 m (nI k1) (nI k2) (nI k3) (nI k4) x5 (I2 68 49) 99) (fc_rB A2 m (nI k1) (nI k2) (nI k3) (nI k4) x5 (I2 68 49) 103) b j = rl_nc (A2 99) (A2 103) b j := fun j hj => rl_nc_eq (fun i hi => e99 i (by omega))
      have nc1 : rl_nc (fc_rB A2 m (nI k1) (nI k2) (nI k3) (nI k4) x5 (I2 68 49) 99) (fc_rB A2 m (nI k1) (nI k2) (nI k3) (nI k4) x5 (I2 68 49) 103) b (m + 1) = rl_nc (A2 99) (A2 103) b m := by
        conv => lhs; unfold rl_nc
        rw [ncm m (Nat.le_refl _), e98, if_neg (fun q => absurd q.1 (by decide))]; rfl
      have a28 : fc_rA A m (nI k1) (nI k2) (nI k3) (nI k4) x5 (I 0 14) 28 = A 28 := by
        unfold fc_rA
        funext j
        simp [cw_u]
      have a27 : fc_rA A m (nI k1) (nI k2) (nI k3) (nI k4) x5 (I 0 14) 27 = A 27 := by
        unfold fc_rA
        funext j
        simp [cw_u]
      rw [nc1, a28, a27]
      refine ⟨(h3 b hb).1, fun f hf f1 f2 => ?_⟩
      have z1 : f < m := by
        by_cases z : f = m
        · subst z
          rw [e98] at f1
          exact absurd f1 (by decide)
        · omega
      rw [ncm f (by omega)]
      rw [(e99 f z1).1] at f1
      rw [(e99 f z1).2] at f2
      exact (h3 b hb).2 f z1 f1 f2
    · rw [ed]
      by_cases z : f = m
      · subst z
        unfold rl_fact fc_rA fc_rB
        simp only [cw_u]
        simp
        exact ⟨v2, v3, v4, vd, v1, n5⟩
      · have := h4 f hf
        unfold rl_fact fc_rA fc_rB
        simp only [cw_u]
        simp [z]
        exact this
  · obtain ⟨p1, p2, p3⟩ := P.2.1 c
    obtain ⟨q1, q2, q3⟩ := Q.2.1 c
    rw [p1, p2, p3, q1, q2, q3]
    exact ⟨rfl, hh⟩
/-- the world behind a notice -/
def fc_nA (A : Nat → Nat → Int32) (m i : Nat) (b : Nat) (c x1 x2 x3 x4 x5 : Int32) : Nat → Nat → Int32 := cw_u (cw_u (cw_u (cw_u (cw_u (cw_u (cw_u (cw_u A 20 m (-1)) 27 i (nI m)) 28 b c) 22 m x1) 23 m x2) 24 m x3) 21 m x4) 25 m x5
def fc_nB (A : Nat → Nat → Int32) (m : Nat) (x1 x2 x3 x4 x5 : Int32) : Nat → Nat → Int32 := cw_u (cw_u (cw_u (cw_u (cw_u (cw_u A 99 m 1) 100 m x5) 103 m x1) 104 m x2) 105 m x3) 102 m x4
theorem fc_notA {m : Nat} (hm : m ≤ 300) (h1 : I 19 9 = nI m) (h28 : ∀ b, b < 6 → ∃ c, c ≤ m ∧ A 28 b = nI c) {x1 x2 x3 x4 x5 : Int32} :
    pb_X11_notice_0 n I A J t x1 x2 x3 x4 x5 ∧
    (¬ (¬ px_X11_isBand n I A J t x1 = 0 ∧ ¬ x2 < 0 ∧ ¬ x3 ≤ x2 ∧ x3 ≤ 24 ∧ ¬ px_X9_has_1 n I A J t x4 = 0 ∧ ¬ px_X11_isDay n I A J t x5 = 0 ∧ m < 300) → px_X11_notice_0 n I A J t x1 x2 x3 x4 x5 = -1 ∧ pI_X11_notice_0 n I A J t x1 x2 x3 x4 x5 = I ∧ pA_X11_notice_0 n I A J t x1 x2 x3 x4 x5 = A) ∧
    ((¬ px_X11_isBand n I A J t x1 = 0 ∧ ¬ x2 < 0 ∧ ¬ x3 ≤ x2 ∧ x3 ≤ 24 ∧ ¬ px_X9_has_1 n I A J t x4 = 0 ∧ ¬ px_X11_isDay n I A J t x5 = 0 ∧ m < 300) → ∀ b c, b < 6 → x1 = nI b → c ≤ m → A 28 b = nI c → px_X11_notice_0 n I A J t x1 x2 x3 x4 x5 = nI m ∧ pI_X11_notice_0 n I A J t x1 x2 x3 x4 x5 = cw_u I 19 9 (nI (m + 1)) ∧ pA_X11_notice_0 n I A J t x1 x2 x3 x4 x5 = fc_nA A m (300 * b + c) b (nI (c + 1)) x1 x2 x3 x4 x5) := by
  have cl : (nI m).toNatClampNeg = m := nI_clamp (by omega)
  have e3 : nI m < 300 ↔ m < 300 := nI_ltI (b := 300) (by omega) (by decide)
  have vin : m < 300 → vp_in (nI m) 300 := fun q => vp_in_nI q (by decide)
  unfold pb_X11_notice_0 px_X11_notice_0 pI_X11_notice_0 pA_X11_notice_0 pb_X1_addNotice_19 px_X1_addNotice_19 pI_X1_addNotice_19 pA_X1_addNotice_19 pb_X1_add_19 px_X1_add_19 pI_X1_add_19 pA_X1_add_19
  unfold qA51_X1_add_19 qA40_X1_add_19 qA29_X1_add_19 qA19_X1_add_19 qA9_X1_add_19 qI59_X1_add_19 qA52_X1_addNotice_19 qA42_X1_addNotice_19 qA21_X1_addNotice_19
  rw [h1, cl, nI_1, cw_u_s, nI_pred]
  have a28 : cw_u A 20 m (-1) 28 = A 28 := cw_u_c _ _ (by decide)
  rw [a28]
  have ix : ∀ b c : Nat, nI b * 300 + nI c = nI (300 * b + c) := fun b c => by
    have : (300 : Int32) = nI 300 := rfl
    rw [this, pk_mul, nI_add, Nat.mul_comm]
  refine ⟨fun q1 _ _ _ q => ?_, ?_⟩
  · have v := vin (e3.mp q)
    have hm3 := e3.mp q
    obtain ⟨b, hb, rfl⟩ := band_of q1
    obtain ⟨c, hc, hc2⟩ := h28 b hb
    have vb : vp_in (nI b) 6 := vp_in_nI hb (by decide)
    have cb : (nI b).toNatClampNeg = b := nI_clamp (by omega)
    refine ⟨v, vb, ?_, vb, vb, v, v, v, v, v⟩
    rw [cb, hc2, ix]
    exact vp_in_nI (by omega) (by decide)
  by_cases c1 : px_X11_isBand n I A J t x1 = 0
  · simp only [c1, if_true, not_true_eq_false, false_and, not_false_eq_true, forall_const, false_implies, and_self, if_false, ite_self]
  simp only [if_neg c1, c1, not_false_eq_true, true_and, if_true, if_false, ite_self]
  by_cases c2 : px_X11_isSpan n I A J t x2 x3 = 0
  · simp only [c2, if_true]
    refine ⟨fun _ => ⟨trivial, trivial, trivial⟩, fun q => ?_⟩
    rcases span_iff.mp c2 with z | z | z
    · exact absurd z q.1
    · exact absurd z q.2.1
    · exact absurd q.2.2.1 z
  simp only [if_neg c2]
  have d1 : ¬ x2 < 0 := fun q => c2 (span_iff.mpr (Or.inl q))
  have d2 : ¬ x3 ≤ x2 := fun q => c2 (span_iff.mpr (Or.inr (Or.inl q)))
  have d3 : x3 ≤ 24 := Classical.byContradiction (fun q => c2 (span_iff.mpr (Or.inr (Or.inr q))))
  simp only [d1, d2, d3, not_false_eq_true, true_and, if_true, if_false, ite_self]
  by_cases c3 : px_X9_has_1 n I A J t x4 = 0
  · simp only [c3, if_true, not_true_eq_false, false_and, not_false_eq_true, forall_const, false_implies, and_self, if_false, ite_self]
  simp only [if_neg c3, c3, not_false_eq_true, true_and, if_true, if_false, ite_self]
  by_cases c4 : px_X11_isDay n I A J t x5 = 0
  · simp only [c4, if_true, not_true_eq_false, false_and, not_false_eq_true, forall_const, false_implies, and_self, if_false, ite_self]
  simp only [if_neg c4, c4, not_false_eq_true, true_and, e3, if_true, if_false, ite_self]
  by_cases c6 : m < 300
  · simp only [c6, if_true, not_true_eq_false, false_implies, forall_const, true_and, if_false, ite_self]
    intro b c hb hx hc hc2
    subst hx
    have cb : (nI b).toNatClampNeg = b := nI_clamp (by omega)
    have ci : (nI (300 * b + c)).toNatClampNeg = 300 * b + c := nI_clamp (by omega)
    rw [cb, hc2, ix, ci, cw_u_c _ _ (by decide), a28, hc2, nI_1]
    rfl
  · simp only [c6, if_false, not_false_eq_true, false_implies, forall_const, and_self, if_true, ite_self]
theorem fc_notB {m : Nat} (hm : m ≤ 300) (h1 : I2 68 50 = nI m) {x1 x2 x3 x4 x5 : Int32} :
    pb_X12_notice_68 n I2 A2 J2 t2 x1 x2 x3 x4 x5 ∧
    (¬ (¬ px_X12_isBand n I2 A2 J2 t2 x1 = 0 ∧ ¬ x2 < 0 ∧ ¬ x3 ≤ x2 ∧ x3 ≤ 24 ∧ ¬ px_X12_isLand_68 n I2 A2 J2 t2 x4 = 0 ∧ ¬ px_X12_isDay n I2 A2 J2 t2 x5 = 0 ∧ m < 300) → px_X12_notice_68 n I2 A2 J2 t2 x1 x2 x3 x4 x5 = -1 ∧ pI_X12_notice_68 n I2 A2 J2 t2 x1 x2 x3 x4 x5 = I2 ∧ pA_X12_notice_68 n I2 A2 J2 t2 x1 x2 x3 x4 x5 = A2) ∧
    ((¬ px_X12_isBand n I2 A2 J2 t2 x1 = 0 ∧ ¬ x2 < 0 ∧ ¬ x3 ≤ x2 ∧ x3 ≤ 24 ∧ ¬ px_X12_isLand_68 n I2 A2 J2 t2 x4 = 0 ∧ ¬ px_X12_isDay n I2 A2 J2 t2 x5 = 0 ∧ m < 300) → px_X12_notice_68 n I2 A2 J2 t2 x1 x2 x3 x4 x5 = nI m ∧ pI_X12_notice_68 n I2 A2 J2 t2 x1 x2 x3 x4 x5 = cw_u I2 68 50 (nI (m + 1)) ∧ pA_X12_notice_68 n I2 A2 J2 t2 x1 x2 x3 x4 x5 = fc_nB A2 m x1 x2 x3 x4 x5) := by
  have cl : (nI m).toNatClampNeg = m := nI_clamp (by omega)
  have e3 : nI m = 300 ↔ ¬ m < 300 := (nI_eq (b := 300) (by omega) (by decide)).trans (by omega)
  have vin : m < 300 → vp_in (nI m) 300 := fun q => vp_in_nI q (by decide)
  have nz : vp_nar .boolean 1 = 1 := by decide
  unfold pb_X12_notice_68 px_X12_notice_68 pI_X12_notice_68 pA_X12_notice_68
  unfold qA112_X12_notice_68 qA101_X12_notice_68 qA91_X12_notice_68 qA81_X12_notice_68 qA71_X12_notice_68 qA60_X12_notice_68 qI120_X12_notice_68
  rw [h1, cl, nI_1, cw_u_s, nI_pred, nz]
  refine ⟨fun q _ _ _ _ _ _ => ?_, ?_⟩
  · have := vin (Classical.byContradiction (fun z => q (e3.mpr z)))
    exact ⟨this, this, this, this, this, this⟩
  simp only [e3]
  by_cases c6 : m < 300
  rotate_left
  · simp only [c6, not_false_eq_true, if_true, and_false, forall_const, false_implies, and_self, if_false, ite_self]
  simp only [c6, not_true_eq_false, if_false, and_true, if_true, ite_self]
  by_cases c1 : px_X12_isBand n I2 A2 J2 t2 x1 = 0
  · simp only [c1, if_true, not_true_eq_false, false_and, not_false_eq_true, forall_const, false_implies, and_self, if_false, ite_self]
  by_cases c2 : px_X12_isLand_68 n I2 A2 J2 t2 x4 = 0
  · simp only [if_neg c1, c2, if_true, not_true_eq_false, false_and, and_false, not_false_eq_true, forall_const, false_implies, and_self, if_false, ite_self]
  by_cases c3 : px_X12_isDay n I2 A2 J2 t2 x5 = 0
  · simp only [if_neg c1, if_neg c2, c3, if_true, not_true_eq_false, false_and, and_false, not_false_eq_true, forall_const, false_implies, and_self, if_false, ite_self]
  simp only [if_neg c1, if_neg c2, if_neg c3, c1, c2, c3, not_false_eq_true, true_and, and_true, if_true, if_false, ite_self]
  by_cases c4 : x2 < 0
  · simp only [c4, if_true, not_true_eq_false, false_and, not_false_eq_true, forall_const, false_implies, and_self, if_false, ite_self]
  by_cases c5 : x3 ≤ x2
  · simp only [if_neg c4, c5, if_true, not_true_eq_false, false_and, and_false, not_false_eq_true, forall_const, false_implies, and_self, if_false, ite_self]
  by_cases c7 : x3 ≤ 24
  · simp only [c4, c5, c7, if_true, if_false, not_true_eq_false, not_false_eq_true, and_self, false_implies, forall_const, true_and, ite_self]
    rfl
  · simp only [c4, c5, c7, if_false, not_false_eq_true, and_false, forall_const, false_implies, and_self, if_true, ite_self]
theorem fc_notice {x1 x2 x3 x4 x5 : Int32} (hl : rl_lands I A I2 A2) (h : rl_facts I A I2 A2) :
    pb_X11_notice_0 n I A J t x1 x2 x3 x4 x5 ∧ pb_X12_notice_68 n I2 A2 J2 t2 x1 x2 x3 x4 x5 ∧ px_X12_notice_68 n I2 A2 J2 t2 x1 x2 x3 x4 x5 = px_X11_notice_0 n I A J t x1 x2 x3 x4 x5 ∧
    rl_facts (pI_X11_notice_0 n I A J t x1 x2 x3 x4 x5) (pA_X11_notice_0 n I A J t x1 x2 x3 x4 x5) (pI_X12_notice_68 n I2 A2 J2 t2 x1 x2 x3 x4 x5) (pA_X12_notice_68 n I2 A2 J2 t2 x1 x2 x3 x4 x5) := by
  have hh := h
  obtain ⟨⟨m, hm, h1, h2, h3⟩, h4⟩ := h
  obtain ⟨⟨l, hl0, l1, l2⟩, -⟩ := hl
  have P := fc_notA (n := n) (I := I) (A := A) (J := J) (t := t) hm h1 (fun b hb => ⟨_, rl_nc_le _ _ _ _, (h3 b hb).1⟩) (x1 := x1) (x2 := x2) (x3 := x3) (x4 := x4) (x5 := x5)
  have Q := fc_notB (n := n) (I2 := I2) (A2 := A2) (J2 := J2) (t2 := t2) hm h2 (x1 := x1) (x2 := x2) (x3 := x3) (x4 := x4) (x5 := x5)
  rw [← eq_land (n := n) (A := A) (J := J) (t := t) (l1.trans l2.symm), ← eq_isBand (n := n) (I := I) (A := A) (J := J) (t := t), ← eq_isDay (n := n) (I := I) (A := A) (J := J) (t := t)] at Q
  refine ⟨P.1, Q.1, ?_⟩
  by_cases c : (¬ px_X11_isBand n I A J t x1 = 0 ∧ ¬ x2 < 0 ∧ ¬ x3 ≤ x2 ∧ x3 ≤ 24 ∧ ¬ px_X9_has_1 n I A J t x4 = 0 ∧ ¬ px_X11_isDay n I A J t x5 = 0 ∧ m < 300)
  · have cc := c
    obtain ⟨c1, c2, c3, c4, c5, c6, c7⟩ := c
    obtain ⟨b, hb, rfl⟩ := band_of c1
    obtain ⟨k4, hk4, rfl⟩ := has1_of l1 (by omega) c5
    obtain ⟨k5, hk5, rfl⟩ := day_of c6
    have P2 := P.2.2 cc b _ hb rfl (rl_nc_le _ _ _ _) (h3 b hb).1
    obtain ⟨p1, p2, p3⟩ := P2
    obtain ⟨q1, q2, q3⟩ := Q.2.2 cc
    rw [p1, p2, p3, q1, q2, q3]
    have v1 : vp_in (nI b) 6 := vp_in_nI (by omega) (by decide)
    have v4 : vp_in (nI k4) 8 := vp_in_nI (by omega) (by decide)
    have v5 : vp_in (nI k5) 3600 := vp_in_nI (by omega) (by decide)
    have v2 : vp_in x2 24 := by
      rw [tI_in]
      rw [tI_lt] at c2
      rw [tI_le] at c3 c4
      have a1 : (0 : Int32).toInt = 0 := rfl
      have a2 : (24 : Int32).toInt = 24 := rfl
      omega
    have e99 : ∀ j, j < m → fc_nB A2 m (nI b) x2 x3 (nI k4) (nI k5) 99 j = A2 99 j ∧ fc_nB A2 m (nI b) x2 x3 (nI k4) (nI k5) 103 j = A2 103 j := fun j hj => by
      have z1 : ¬ j = m := by omega
      unfold fc_nB
      simp only [cw_u]
      simp [z1]
    have e98 : fc_nB A2 m (nI b) x2 x3 (nI k4) (nI k5) 99 m = 1 ∧ fc_nB A2 m (nI b) x2 x3 (nI k4) (nI k5) 103 m = nI b := by
      unfold fc_nB
      simp only [cw_u]
      simp
    have ncm : ∀ d j, j ≤ m → rl_nc (fc_nB A2 m (nI b) x2 x3 (nI k4) (nI k5) 99) (fc_nB A2 m (nI b) x2 x3 (nI k4) (nI k5) 103) d j = rl_nc (A2 99) (A2 103) d j := fun d j hj => rl_nc_eq (fun i hi => e99 i (by omega))
    have nc1 : ∀ d, d < 6 → rl_nc (fc_nB A2 m (nI b) x2 x3 (nI k4) (nI k5) 99) (fc_nB A2 m (nI b) x2 x3 (nI k4) (nI k5) 103) d (m + 1) = rl_nc (A2 99) (A2 103) d m + (if d = b then 1 else 0) := fun d hd => by
      conv => lhs; unfold rl_nc
      rw [ncm d m (Nat.le_refl _), e98.1, e98.2]
      have : (nI b = nI d) ↔ d = b := (nI_eq (by omega) (by omega)).trans eq_comm
      simp only [this, true_and]
    refine ⟨rfl, ⟨m + 1, by omega, by rw [cw_u_s], by rw [cw_u_s], fun d hd => ?_⟩, fun f hf => ?_⟩
    · rw [nc1 d hd]
      have ncb := rl_nc_le (A2 99) (A2 103)
      have a28 : fc_nA A m (300 * b + rl_nc (A2 99) (A2 103) b m) b (nI (rl_nc (A2 99) (A2 103) b m + 1)) (nI b) x2 x3 (nI k4) (nI k5) 28 d = if d = b then nI (rl_nc (A2 99) (A2 103) b m + 1) else A 28 d := by
        unfold fc_nA
        simp only [cw_u]
        simp
      have a27 : ∀ i, fc_nA A m (300 * b + rl_nc (A2 99) (A2 103) b m) b (nI (rl_nc (A2 99) (A2 103) b m + 1)) (nI b) x2 x3 (nI k4) (nI k5) 27 i = if i = 300 * b + rl_nc (A2 99) (A2 103) b m then nI m else A 27 i := fun i => by
        unfold fc_nA
        simp only [cw_u]
        simp
      rw [a28]
      refine ⟨?_, fun f hf f1 f2 => ?_⟩
      · by_cases z : d = b
        · subst z; simp only [if_true]
        · simp only [if_neg z]; exact (h3 d hd).1
      · rw [ncm d f (by omega), a27]
        by_cases z : f = m
        · subst z
          rw [e98.2] at f2
          have : b = d := (nI_eq (by omega) (by omega)).mp f2
          subst this
          rw [if_pos rfl]
        · have zf : f < m := by omega
          rw [(e99 f zf).1] at f1
          rw [(e99 f zf).2] at f2
          have old := (h3 d hd).2 f zf f1 f2
          have lt : rl_nc (A2 99) (A2 103) d f < rl_nc (A2 99) (A2 103) d m := by
            have s1 : rl_nc (A2 99) (A2 103) d (f + 1) = rl_nc (A2 99) (A2 103) d f + 1 := by
              conv => lhs; unfold rl_nc
              rw [if_pos ⟨f1, f2⟩]
            have s2 := rl_nc_mono (A2 99) (A2 103) d (j := f + 1) (k := m) (by omega)
            omega
          have l1 := ncb d f
          have l2 := ncb d m
          have l3 := ncb b m
          rw [if_neg (fun q => by
            by_cases w : d = b
            · subst w; omega
            · rcases Nat.lt_or_gt_of_ne w with w | w <;> omega)]
          exact old
    · by_cases z : f = m
      · subst z
        unfold rl_fact fc_nA fc_nB
        simp only [cw_u]
        simp
        exact ⟨v4, v1, v2, v5⟩
      · have := h4 f hf
        unfold rl_fact fc_nA fc_nB
        simp only [cw_u]
        simp [z]
        exact this
  · obtain ⟨p1, p2, p3⟩ := P.2.1 c
    obtain ⟨q1, q2, q3⟩ := Q.2.1 c
    rw [p1, p2, p3, q1, q2, q3]
    exact ⟨rfl, hh⟩
end Facts
