/-! sheets -/
section Sheets
variable {n : Nat} {I A I2 A2 : Nat → Nat → Int32} {J J2 : Nat → Nat → Int64} {t t2 : Bool × Bool}
theorem sh_ix (s i : Nat) : nI s * 270 + nI i = nI (270 * s + i) := by
  have : (270 : Int32) = nI 270 := rfl
  rw [this, pk_mul, nI_add, Nat.mul_comm]
theorem sh_ix2 (s i : Nat) : (270 : Int32) * nI s + nI i = nI (270 * s + i) := by
  have : (270 : Int32) = nI 270 := rfl
  rw [this, pk_mul, nI_add]
theorem sh_lpc {s m : Nat} {x2 : Int32} (hs : s < 4) (hm : m ≤ 270) : ∀ (k i f : Nat) (A3 : Nat → Nat → Int32), i + k = m → k < f → A3 18 s = nI m → lb_X8_renew_16_13 n I A J t (nI s) x2 f A3 (nI i) ∧ ∀ j, (lp_X8_renew_16_13 n I A J t (nI s) x2 f A3 (nI i)).1 17 j = if 270 * s + i ≤ j ∧ j < 270 * s + m then 0 else A3 17 j := by
  have cs : (nI s).toNatClampNeg = s := nI_clamp (by omega)
  have vs : vp_in (nI s) 4 := vp_in_nI hs (by decide)
  intro k
  induction k with
  | zero =>
    intro i f A3 hk hf h18
    obtain ⟨f, rfl⟩ : ∃ g, f = g + 1 := ⟨f - 1, by omega⟩
    unfold lb_X8_renew_16_13 lp_X8_renew_16_13
    have c : A3 18 s ≤ nI i := by rw [h18]; exact nI_le (by omega) (by omega)
    rw [cs, if_pos c]
    refine ⟨⟨vs, fun q => absurd c q⟩, fun j => ?_⟩
    rw [if_neg (by omega)]
  | succ k ih =>
    intro i f A3 hk hf h18
    obtain ⟨f, rfl⟩ : ∃ g, f = g + 1 := ⟨f - 1, by omega⟩
    have c : ¬ A3 18 s ≤ nI i := by rw [h18]; exact nI_ge (by omega) (by omega)
    have ci : (nI (270 * s + i)).toNatClampNeg = 270 * s + i := nI_clamp (by omega)
    have z0 : ((0 : Int32)).toInt16.toInt32 = 0 := by decide
    have e1 : qA35_X8_renew_16 n I A J t (nI s) x2 A3 (nI i) = cw_u A3 17 (270 * s + i) 0 := by
      unfold qA35_X8_renew_16
      rw [sh_ix, ci, z0]
    have e2 : q36_X8_renew_16 n I A J t (nI s) x2 A3 (nI i) = nI (i + 1) := nI_1 i
    have r := ih (i + 1) f (cw_u A3 17 (270 * s + i) 0) (by omega) (by omega) (by rw [cw_u_c _ _ (by decide)]; exact h18)
    unfold lb_X8_renew_16_13 lp_X8_renew_16_13
    rw [cs, if_neg c, e1, e2]
    refine ⟨⟨vs, fun _ => ⟨by rw [sh_ix]; exact vp_in_nI (by omega) (by decide), r.1⟩⟩, fun j => ?_⟩
    rw [r.2 j]
    by_cases q : j = 270 * s + i
    · subst q
      rw [cw_u_s, if_neg (by omega), if_pos (by omega)]
    · rw [cw_u_k _ _ q]
      by_cases q2 : 270 * s + (i + 1) ≤ j ∧ j < 270 * s + m
      · rw [if_pos q2, if_pos (by omega)]
      · rw [if_neg q2, if_neg (by omega)]
theorem sh_lpr {s : Nat} {x2 : Int32} (hs : s < 4) : ∀ (k i f : Nat) (A3 : Nat → Nat → Int32), i + k = 270 → k < f → lb_X12_sheet_68_32 n I2 A2 J2 t2 (nI s) x2 f A3 (nI i) ∧ ∀ j, (lp_X12_sheet_68_32 n I2 A2 J2 t2 (nI s) x2 f A3 (nI i)).1 98 j = if 270 * s + i ≤ j ∧ j < 270 * s + 270 then 0 else A3 98 j := by
  intro k
  induction k with
  | zero =>
    intro i f A3 hk hf
    obtain ⟨f, rfl⟩ : ∃ g, f = g + 1 := ⟨f - 1, by omega⟩
    unfold lb_X12_sheet_68_32 lp_X12_sheet_68_32
    have c : 270 ≤ nI i := nI_le (a := 270) (by omega) (by omega)
    rw [if_pos c]
    refine ⟨fun q => absurd c q, fun j => ?_⟩
    rw [if_neg (by omega)]
  | succ k ih =>
    intro i f A3 hk hf
    obtain ⟨f, rfl⟩ : ∃ g, f = g + 1 := ⟨f - 1, by omega⟩
    have c : ¬ 270 ≤ nI i := nI_ge (b := 270) (by omega) (by omega)
    have ci : (nI (270 * s + i)).toNatClampNeg = 270 * s + i := nI_clamp (by omega)
    have e1 : qA51_X12_sheet_68 n I2 A2 J2 t2 (nI s) x2 A3 (nI i) = cw_u A3 98 (270 * s + i) 0 := by
      unfold qA51_X12_sheet_68
      rw [sh_ix2, ci]
    have e2 : q52_X12_sheet_68 n I2 A2 J2 t2 (nI s) x2 A3 (nI i) = nI (i + 1) := nI_1 i
    have r := ih (i + 1) f (cw_u A3 98 (270 * s + i) 0) (by omega) (by omega)
    unfold lb_X12_sheet_68_32 lp_X12_sheet_68_32
    rw [if_neg c, e1, e2]
    refine ⟨fun _ => ⟨by rw [sh_ix2]; exact vp_in_nI (by omega) (by decide), r.1⟩, fun j => ?_⟩
    rw [r.2 j]
    by_cases q : j = 270 * s + i
    · subst q
      rw [cw_u_s, if_neg (by omega), if_pos (by omega)]
    · rw [cw_u_k _ _ q]
      by_cases q2 : 270 * s + (i + 1) ≤ j ∧ j < 270 * s + 270
      · rw [if_pos q2, if_pos (by omega)]
      · rw [if_neg q2, if_neg (by omega)]
theorem sh_sheet {x y : Int32} (hn : 300 ≤ n) (h : rl_sheets A A2) :
    pb_X11_sheet_0 n I A J t x y ∧ pb_X12_sheet_68 n I2 A2 J2 t2 x y ∧ px_X12_sheet_68 n I2 A2 J2 t2 x y = px_X11_sheet_0 n I A J t x y ∧
    rl_sheets (pA_X11_sheet_0 n I A J t x y) (pA_X12_sheet_68 n I2 A2 J2 t2 x y) := by
  have b3 : (3 : Int32) < x ↔ (4 : Int32) ≤ x := by
    rw [tI_lt, tI_le]
    have a1 : (3 : Int32).toInt = 3 := rfl
    have a2 : (4 : Int32).toInt = 4 := rfl
    omega
  unfold pb_X11_sheet_0 pb_X12_sheet_68 px_X11_sheet_0 px_X12_sheet_68 pA_X11_sheet_0 pA_X12_sheet_68
  simp only [b3]
  by_cases c1 : x < 0
  · simp only [c1, if_true, not_true_eq_false, false_implies, true_and]; exact h
  by_cases c2 : (4 : Int32) ≤ x
  · simp only [c1, c2, if_true, if_false, not_true_eq_false, false_implies, implies_true, true_and]; exact h
  by_cases c3 : y < -1
  · simp only [c1, c2, c3, if_true, if_false, not_true_eq_false, false_implies, implies_true, true_and]; exact h
  by_cases c4 : y ≤ 270
  rotate_left
  · simp only [c1, c2, c3, c4, if_false, false_implies, implies_true, true_and]; exact h
  simp only [c1, c2, c3, c4, if_true, if_false, not_false_eq_true, forall_const, true_and]
  obtain ⟨s, hs0, rfl⟩ := nI_of c1
  have hs : s < 4 := Nat.lt_of_not_le (fun q => c2 (nI_le (a := 4) q hs0))
  have cs : (nI s).toNatClampNeg = s := nI_clamp (by omega)
  have vs : vp_in (nI s) 4 := vp_in_nI hs (by decide)
  have hy : ∃ m : Nat, m ≤ 270 ∧ px_J9_max_7cf53 n I A J t y 0 = nI m ∧ (y = nI m ∨ m = 0 ∧ y = -1) := by
    unfold px_J9_max_7cf53 qs0m2_J9_max_7cf53
    by_cases q : y < 0
    · refine ⟨0, by omega, ?_, Or.inr ⟨rfl, ?_⟩⟩
      · rw [if_pos q]; rfl
      · rw [tI_lt] at q c3
        have a1 : (-1 : Int32).toInt = -1 := rfl
        have a2 : (0 : Int32).toInt = 0 := rfl
        rw [tI_eq]
        omega
    · obtain ⟨m, hm0, rfl⟩ := nI_of q
      refine ⟨m, (nI_leI (b := 270) hm0 (by omega)).mp c4, ?_, Or.inl rfl⟩
      rw [if_neg q]
  obtain ⟨m, hm, e1, hy⟩ := hy
  have P := sh_lpc (n := n) (I := I) (A := A) (J := J) (t := t) (x2 := y) hs hm m 0 n (qA10_X8_renew_16 n I A J t (nI s) y) (by omega) (by omega) (by unfold qA10_X8_renew_16; rw [cs, e1, cw_u_s])
  have Q := sh_lpr (n := n) (I2 := I2) (A2 := A2) (J2 := J2) (t2 := t2) (x2 := y) hs 270 0 n (qA29_X12_sheet_68 n I2 A2 J2 t2 (nI s) y) (by omega) (by omega)
  refine ⟨⟨vs, P.1⟩, ⟨vs, Q.1⟩, fun z hz => ?_⟩
  have f18 : pA_X8_renew_16 n I A J t (nI s) y 18 = cw_u A 18 s (nI m) 18 := by
    unfold pA_X8_renew_16 qAw13_X8_renew_16
    rw [fr_lp_X8_renew_16_13_c0 (by decide)]
    unfold qA10_X8_renew_16
    rw [cs, e1]
  have f97 : qAw32_X12_sheet_68 n I2 A2 J2 t2 (nI s) y 97 = cw_u A2 97 s y 97 := by
    unfold qAw32_X12_sheet_68
    rw [fr_lp_X12_sheet_68_32_c0 (by decide)]
    unfold qA29_X12_sheet_68
    rw [cs]
  have f17 : ∀ j, pA_X8_renew_16 n I A J t (nI s) y 17 j = if 270 * s ≤ j ∧ j < 270 * s + m then 0 else A 17 j := fun j => by
    have := P.2 j
    have u : qA10_X8_renew_16 n I A J t (nI s) y 17 = A 17 := by unfold qA10_X8_renew_16; rw [cw_u_c _ _ (by decide)]
    rw [u] at this
    exact this
  have f98 : ∀ j, qAw32_X12_sheet_68 n I2 A2 J2 t2 (nI s) y 98 j = if 270 * s ≤ j ∧ j < 270 * s + 270 then 0 else A2 98 j := fun j => by
    have := Q.2 j
    have u : qA29_X12_sheet_68 n I2 A2 J2 t2 (nI s) y 98 = A2 98 := by unfold qA29_X12_sheet_68; rw [cw_u_c _ _ (by decide)]
    rw [u] at this
    exact this
  by_cases q : z = s
  · subst q
    refine ⟨m, hm, by rw [f18, cw_u_s], ?_, fun i hi => ?_⟩
    · rw [f97, cw_u_s]; exact hy
    · rw [f17, f98, if_pos (by omega), if_pos (by omega)]
      exact ⟨rfl, by decide, by decide⟩
  · obtain ⟨k, hk, k1, k2, k3⟩ := h z hz
    refine ⟨k, hk, by rw [f18, cw_u_k _ _ q]; exact k1, by rw [f97, cw_u_k _ _ q]; exact k2, fun i hi => ?_⟩
    rw [f17, f98, if_neg (by omega), if_neg (by omega)]
    exact k3 i hi
theorem sh_short {x : Int32} (h : -32768 ≤ x.toInt ∧ x.toInt < 32768) : x.toInt16.toInt32 = x := by
  rw [tI_eq, Int16.toInt_toInt32, Int32.toInt_toInt16]
  exact Int.bmod_eq_of_le (by omega) (by omega)
theorem sh_cell {x y z : Int32} (h : rl_sheets A A2) :
    pb_X11_cell_0 n I A J t x y z ∧ pb_X12_cell_68 n I2 A2 J2 t2 x y z ∧ px_X12_cell_68 n I2 A2 J2 t2 x y z = px_X11_cell_0 n I A J t x y z ∧
    rl_sheets (pA_X11_cell_0 n I A J t x y z) (pA_X12_cell_68 n I2 A2 J2 t2 x y z) := by
  have b3 : (3 : Int32) < x ↔ (4 : Int32) ≤ x := by
    rw [tI_lt, tI_le]
    have a1 : (3 : Int32).toInt = 3 := rfl
    have a2 : (4 : Int32).toInt = 4 := rfl
    omega
  unfold pb_X11_cell_0 pb_X12_cell_68 px_X11_cell_0 px_X12_cell_68 pA_X11_cell_0 pA_X12_cell_68
  simp only [b3]
  by_cases c1 : x < 0
  · simp only [c1, if_true, not_true_eq_false, false_implies, true_and]; exact h
  by_cases c2 : (4 : Int32) ≤ x
  · simp only [c1, c2, if_true, if_false, not_true_eq_false, false_implies, implies_true, true_and]; exact h
  simp only [c1, c2, if_false, not_false_eq_true, forall_const]
  obtain ⟨s, hs0, rfl⟩ := nI_of c1
  have hs : s < 4 := Nat.lt_of_not_le (fun q => c2 (nI_le (a := 4) q hs0))
  have cs : (nI s).toNatClampNeg = s := nI_clamp (by omega)
  have vs : vp_in (nI s) 4 := vp_in_nI hs (by decide)
  obtain ⟨m, hm, k1, k2, k3⟩ := h s hs
  unfold pb_X8_has_16 px_X8_has_16 qs0m1_X8_has_16 qs0m11_X8_has_16
  rw [cs]
  by_cases c3 : y < 0
  · simp only [c3, if_true, not_true_eq_false, false_implies, true_and]; exact h
  simp only [c3, if_false, not_false_eq_true, forall_const]
  obtain ⟨i, hi0, rfl⟩ := nI_of c3
  have e1 : A 18 s ≤ nI i ↔ m ≤ i := by rw [k1]; exact nI_leI (by omega) hi0
  have e2 : A2 97 s ≤ nI i ↔ m ≤ i := by
    rcases k2 with q | ⟨rfl, q⟩
    · rw [q]; exact nI_leI (by omega) hi0
    · rw [q, tI_le, tI_nI (by omega)]
      have a1 : (-1 : Int32).toInt = -1 := rfl
      constructor <;> intro <;> omega
  simp only [e1, e2]
  by_cases c4 : m ≤ i
  · simp only [c4, if_true, not_true_eq_false, false_implies, and_true]
    exact ⟨vs, vs, trivial, h⟩
  have o1 : ¬ (1 : Int32) = 0 := by decide
  simp only [c4, if_false, not_false_eq_true, forall_const, if_neg o1, o1]
  by_cases c5 : px_X11_isNumber n I A J t z = 0
  · simp only [c5, if_true, not_true_eq_false, false_implies, and_true]
    rcases num_iff.mp c5 with q | q
    · simp only [q, if_true, not_true_eq_false, false_implies, and_true]
      exact ⟨vs, vs, trivial, h⟩
    · simp only [q, if_false, ite_self, false_implies, implies_true, and_true]
      exact ⟨vs, vs, trivial, h⟩
  have d1 : ¬ z < -99 := fun q => c5 (num_iff.mpr (Or.inl q))
  have d2 : z ≤ 99 := Classical.byContradiction (fun q => c5 (num_iff.mpr (Or.inr q)))
  have nz := num_of d1 d2
  have sz := sh_short (x := z) (by omega)
  have vi : vp_in (nI (270 * s + i)) 1080 := vp_in_nI (by omega) (by decide)
  have ci : (nI (270 * s + i)).toNatClampNeg = 270 * s + i := nI_clamp (by omega)
  simp only [c5, d1, d2, if_true, if_false, not_false_eq_true, forall_const]
  unfold pb_X8_put_16 pA_X8_put_16 qA13_X8_put_16 qA49_X12_cell_68
  rw [sh_ix, sh_ix2, ci, sz, sz]
  refine ⟨⟨vs, vi⟩, ⟨vs, vi⟩, trivial, fun w hw => ?_⟩
  rw [cw_u_c _ _ (by decide), cw_u_c _ _ (by decide)]
  obtain ⟨r, hr, r1, r2, r3⟩ := h w hw
  refine ⟨r, hr, r1, r2, fun j hj => ?_⟩
  by_cases q : 270 * w + j = 270 * s + i
  · rw [q, cw_u_s, cw_u_s]
    exact ⟨rfl, nz⟩
  · rw [cw_u_k _ _ q, cw_u_k _ _ q]
    exact r3 j hj
end Sheets
