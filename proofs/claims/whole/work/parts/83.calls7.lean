/-! correction, strength -/
section Strength
variable {n : Nat} {I A I2 A2 A9 : Nat → Nat → Int32} {J J2 J9 : Nat → Nat → Int64} {t t2 t9 : Bool × Bool}
theorem lr_correction {x1 x2 x3 x4 : Int32} (hn : 400 ≤ n) (hl : rl_lands I A I2 A2) (hs : rl_sites I A I2 A2) (hh : rl_sheets A A2) (hf : rl_facts I A I2 A2) :
    pb_X11_correction_0 n I A J t x1 x2 x3 x4 ∧ pb_X12_correction_68 n I2 A2 J2 t2 x1 x2 x3 x4 ∧ px_X12_correction_68 n I2 A2 J2 t2 x1 x2 x3 x4 = px_X11_correction_0 n I A J t x1 x2 x3 x4 := by
  obtain ⟨⟨m, hm, l1, l2⟩, -⟩ := id hl
  obtain ⟨⟨k, hk, s1, s2⟩, -⟩ := id hs
  obtain ⟨⟨q, hq, q1, q2, -⟩, hf2⟩ := hf
  unfold pb_X11_correction_0 pb_X12_correction_68 px_X12_correction_68 px_X11_correction_0 qs0m5_X12_correction_68 qs0m13_X12_correction_68 qs0m20_X12_correction_68 qs0m29_X12_correction_68 px_X11_isPath_0 qs0m8_X11_isPath_0 qs0m19_X11_isPath_0 qs0m26_X11_isPath_0
  rw [← eq_site (n := n) (A := A) (J := J) (t := t) (s1.trans s2.symm), ← eq_land (n := n) (A := A) (J := J) (t := t) (l1.trans l2.symm), ← eq_isBand (n := n) (I := I) (A := A) (J := J) (t := t), ← eq_known (n := n) (A := A) (J := J) (t := t) (q1.trans q2.symm)]
  have o1 : ¬ (1 : Int32) = 0 := by decide
  by_cases c1 : px_X9_has_5 n I A J t x1 = 0
  · simp only [c1, if_true, not_true_eq_false, false_implies, true_and]
  by_cases c2 : px_X9_has_1 n I A J t x2 = 0
  · simp only [c1, c2, if_true, if_false, not_true_eq_false, false_implies, implies_true, true_and]
  by_cases c3 : px_X11_isBand n I A J t x3 = 0
  · simp only [c1, c2, c3, if_true, if_false, not_true_eq_false, false_implies, implies_true, true_and]
  by_cases c4 : px_X1_canKnow_19 n I A J t x4 = 0
  · simp only [c1, c2, c3, c4, if_true, if_false, ite_self, not_true_eq_false, false_implies, implies_true, true_and]
  obtain ⟨s, hs4, rfl⟩ := has5_of s1 (by omega) c1
  obtain ⟨l, hl8, rfl⟩ := has1_of l1 (by omega) c2
  obtain ⟨b, hb, rfl⟩ := band_of c3
  obtain ⟨N, hN, rfl⟩ := known_of q1 (by omega) c4
  simp only [c1, c2, c3, c4, if_false, o1, not_false_eq_true, forall_const]
  obtain ⟨p1, p2, p3⟩ := lr_learn (n := n) (J := J) (t := t) (J2 := J2) (t2 := t2) hn hN hq q1 hl hs hh hf2
  obtain ⟨r1, r2, r3, -⟩ := p3 s l b I2 I (pA_X11_learn_0 n I A J t (nI N)) J t (by omega) (by omega) hb (fun _ _ _ _ => rfl) rfl rfl
  exact ⟨⟨p1, r2⟩, r1, r3⟩
theorem st_asked {x1 x2 x3 x4 x5 : Int32} (hl : I 1 3 = I2 68 35) (hm : I 9 2 = I2 68 40) : px_X12_isAsked_68 n I2 A2 J2 t2 x1 x2 x3 x4 x5 = px_X11_isSending_0 n I A J t x1 x2 x3 x4 x5 := by
  unfold px_X12_isAsked_68 px_X11_isSending_0 qs0m1_X12_isAsked_68 qs0m9_X12_isAsked_68 qs0m16_X12_isAsked_68 qs0m24_X12_isAsked_68 qs0m32_X12_isAsked_68 qs0m40_X12_isAsked_68 qs0m8_X11_isSending_0 qs0m15_X11_isSending_0 qs0m26_X11_isSending_0 qs0m34_X11_isSending_0 qs0m42_X11_isSending_0 px_X2_has_9 qs0m1_X2_has_9 qs0m9_X2_has_9
  rw [← eq_land (n := n) (I := I) (A := A) (J := J) (t := t) hl, ← eq_isBand (n := n) (I := I) (A := A) (J := J) (t := t), ← eq_isDay (n := n) (I := I) (A := A) (J := J) (t := t), ← eq_isHour (n := n) (I := I) (A := A) (J := J) (t := t), ← hm]
  have o1 : ¬ (1 : Int32) = 0 := by decide
  by_cases c1 : x1 < 0
  · simp only [c1, if_true]
  by_cases c2 : I 9 2 ≤ x1
  · simp only [c1, c2, if_true, if_false]
  simp only [c1, c2, if_false, o1]
theorem st_send {m l : Nat} {x1 x2 x3 x4 x5 : Int32} (h1 : I 9 2 = nI m) (hm : m ≤ 6) (h2 : I 1 3 = nI l) (hl : l ≤ 8) (q : ¬ px_X11_isSending_0 n I A J t x1 x2 x3 x4 x5 = 0) : ∃ i b a d h, i < m ∧ b < 6 ∧ a < l ∧ d < 3600 ∧ h < 24 ∧ x1 = nI i ∧ x2 = nI b ∧ x3 = nI a ∧ x4 = nI d ∧ x5 = nI h := by
  unfold px_X11_isSending_0 qs0m8_X11_isSending_0 qs0m15_X11_isSending_0 qs0m26_X11_isSending_0 qs0m34_X11_isSending_0 qs0m42_X11_isSending_0 at q
  by_cases c1 : px_X2_has_9 n I A J t x1 = 0
  · simp only [c1, if_true] at q; exact absurd trivial q
  by_cases c2 : px_X11_isBand n I A J t x2 = 0
  · simp only [c2, if_true, ite_self] at q; exact absurd trivial q
  by_cases c3 : px_X9_has_1 n I A J t x3 = 0
  · simp only [c3, if_true, ite_self] at q; exact absurd trivial q
  by_cases c4 : px_X11_isDay n I A J t x4 = 0
  · simp only [c4, if_true, ite_self] at q; exact absurd trivial q
  by_cases c5 : px_X11_isHour n I A J t x5 = 0
  · simp only [c5, if_true, ite_self] at q; exact absurd trivial q
  obtain ⟨i, hi, e1⟩ := has9_of h1 (by omega) c1
  obtain ⟨b, hb, e2⟩ := band_of c2
  obtain ⟨a, ha, e3⟩ := has1_of h2 (by omega) c3
  obtain ⟨d, hd, e4⟩ := day_of c4
  obtain ⟨h, hh, e5⟩ := hour_of c5
  exact ⟨i, b, a, d, h, hi, hb, ha, hd, hh, e1, e2, e3, e4, e5⟩
/-- the strength of one sending -/
theorem st_by {I8 : Nat → Nat → Int32} {N m i b l d h : Nat} (hn : 400 ≤ n) (hN : N ≤ m) (hm : m ≤ 300) (h1 : I 19 9 = nI m)
    (hlA : rl_lands I A I2 A2) (hsA : rl_sites I A I2 A2) (hhA : rl_sheets A A2) (hfA : ∀ f, f < 300 → rl_fact A A2 f)
    (hl : rl_lands I8 A9 I2 A2) (hs : rl_sites I8 A9 I2 A2) (hh : rl_sheets A9 A2) (hms : rl_masts I8 A9 I2 A2)
    (e30 : A9 30 = pA_X11_learn_0 n I A J t (nI N) 30) (e31 : A9 31 = pA_X11_learn_0 n I A J t (nI N) 31)
    (i6 : i < 6) (b6 : b < 6) (l8 : l < 8) (hd : d < 3600) (h24 : h < 24) :
    pb_X2_siteOf_9 n I8 A9 J9 t9 (nI i) ∧ pb_X11_firstCell_0 n I8 A9 J9 t9 (px_X2_siteOf_9 n I8 A9 J9 t9 (nI i)) (nI l) (nI d) (nI h) ∧
    pb_X11_strengthBy_0 n I8 A9 J9 t9 (nI i) (nI b) (nI l) (nI d) (px_X11_firstCell_0 n I8 A9 J9 t9 (px_X2_siteOf_9 n I8 A9 J9 t9 (nI i)) (nI l) (nI d) (nI h)) ∧
    px_X12_strengthOf_68 n I2 A2 J2 t2 (nI i) (nI b) (nI l) (nI d) (nI h) (nI N) = px_X11_strengthBy_0 n I8 A9 J9 t9 (nI i) (nI b) (nI l) (nI d) (px_X11_firstCell_0 n I8 A9 J9 t9 (px_X2_siteOf_9 n I8 A9 J9 t9 (nI i)) (nI l) (nI d) (nI h)) ∧
    pb_X12_strengthOf_68 n I2 A2 J2 t2 (nI i) (nI b) (nI l) (nI d) (nI h) (nI N) ∧
    (px_X12_strengthOf_68 n I2 A2 J2 t2 (nI i) (nI b) (nI l) (nI d) (nI h) (nI N) = -1000000 ∨ -297 ≤ (px_X12_strengthOf_68 n I2 A2 J2 t2 (nI i) (nI b) (nI l) (nI d) (nI h) (nI N)).toInt ∧ (px_X12_strengthOf_68 n I2 A2 J2 t2 (nI i) (nI b) (nI l) (nI d) (nI h) (nI N)).toInt ≤ 306) := by
  have ci : (nI i).toNatClampNeg = i := nI_clamp (by omega)
  have vi : vp_in (nI i) 6 := vp_in_nI i6 (by decide)
  obtain ⟨m1, m2, m3, m4⟩ := hms.2 i i6
  obtain ⟨s, s4, es⟩ := vp_in_of m3 (by decide)
  obtain ⟨w, hw, ew⟩ := vp_in_of m4 (by decide)
  have e1 : px_X2_siteOf_9 n I8 A9 J9 t9 (nI i) = nI s := by
    unfold px_X2_siteOf_9
    rw [ci, es]
  have e2 : px_X2_powerOf_9 n I8 A9 J9 t9 (nI i) = nI w := by
    unfold px_X2_powerOf_9
    rw [ci, ew]
  obtain ⟨w1, w2, w3, w4, w5⟩ := tb_told (n := n) (J := J9) (t := t9) (J2 := J2) (t2 := t2) hl hs hh s4 l8 b6 hd h24
  obtain ⟨p1, p2, p3⟩ := lr_learn (n := n) (J := J) (t := t) (J2 := J2) (t2 := t2) hn hN hm h1 hlA hsA hhA hfA
  obtain ⟨r1, r2, r3, r4, r5⟩ := p3 s l b (pI_X12_toldBy_68 n I2 A2 J2 t2 (nI s) (nI l) (nI b) (nI d) (nI h)) I8 A9 J9 t9 s4 l8 b6 (lr_toldI (fun _ _ _ _ => rfl)) e30 e31
  unfold pb_X11_strengthBy_0 px_X11_strengthBy_0 px_X12_strengthOf_68 pb_X12_strengthOf_68 qs0m23_X12_strengthOf_68 q16_X12_strengthOf_68 q16_X11_strengthBy_0
  rw [e1, e2, w1, ci, ← m1, ← m2, es, ew]
  have tw : (nI w).toInt = (w : Int) := tI_nI (by omega)
  refine ⟨vi, w2, ⟨w3, fun _ => ⟨vi, r2, vi⟩⟩, ?_, ⟨vi, w4, fun _ => ⟨vi, r1, vi⟩⟩, ?_⟩
  · rw [r3]
  · rw [r3]
    by_cases c : px_X12_toldBy_68 n I2 A2 J2 t2 (nI s) (nI l) (nI b) (nI d) (nI h) = -1000000
    · rw [if_pos c]; exact Or.inl rfl
    · rw [if_neg c]
      rcases w5 with w5 | w5
      · exact absurd w5 c
      · right
        have a1 : (px_X12_toldBy_68 n I2 A2 J2 t2 (nI s) (nI l) (nI b) (nI d) (nI h) + px_X0_mean_29 n I8 A9 J9 t9 (nI s) (nI l) (nI b)).toInt = (px_X12_toldBy_68 n I2 A2 J2 t2 (nI s) (nI l) (nI b) (nI d) (nI h)).toInt + (px_X0_mean_29 n I8 A9 J9 t9 (nI s) (nI l) (nI b)).toInt := tI_add (by omega) (by omega)
        rw [tI_add (by rw [a1]; omega) (by rw [a1]; omega), a1, tw]
        omega
theorem lr_strength {x1 x2 x3 x4 x5 x6 : Int32} (hn : 400 ≤ n) (hl : rl_lands I A I2 A2) (hs : rl_sites I A I2 A2) (hms : rl_masts I A I2 A2) (hh : rl_sheets A A2) (hf : rl_facts I A I2 A2) :
    pb_X11_strength_0 n I A J t x1 x2 x3 x4 x5 x6 ∧ pb_X12_strength_68 n I2 A2 J2 t2 x1 x2 x3 x4 x5 x6 ∧ px_X12_strength_68 n I2 A2 J2 t2 x1 x2 x3 x4 x5 x6 = px_X11_strength_0 n I A J t x1 x2 x3 x4 x5 x6 := by
  obtain ⟨⟨m, hm, l1, l2⟩, -⟩ := id hl
  obtain ⟨⟨k, hk, s1, s2⟩, -⟩ := id hms
  obtain ⟨⟨q, hq, q1, q2, -⟩, hf2⟩ := hf
  unfold pb_X11_strength_0 pb_X12_strength_68 px_X12_strength_68 px_X11_strength_0 qs0m11_X12_strength_68 qs0m20_X12_strength_68
  rw [st_asked (n := n) (I := I) (A := A) (J := J) (t := t) (l1.trans l2.symm) (s1.trans s2.symm), ← eq_known (n := n) (A := A) (J := J) (t := t) (q1.trans q2.symm)]
  by_cases c1 : px_X11_isSending_0 n I A J t x1 x2 x3 x4 x5 = 0
  · simp only [c1, if_true, not_true_eq_false, false_implies, true_and]
  by_cases c2 : px_X1_canKnow_19 n I A J t x6 = 0
  · simp only [c1, c2, if_true, if_false, not_true_eq_false, false_implies, implies_true, true_and]
  obtain ⟨i, b, l, d, h, hi, hb, ha, hd, hh2, rfl, rfl, rfl, rfl, rfl⟩ := st_send s1 hk l1 hm c1
  obtain ⟨N, hN, rfl⟩ := known_of q1 (by omega) c2
  simp only [c1, c2, if_false, not_false_eq_true, forall_const]
  obtain ⟨p1, p2, -⟩ := lr_learn (n := n) (J := J) (t := t) (J2 := J2) (t2 := t2) hn hN hq q1 hl hs hh hf2
  have hms9 : rl_masts I (pA_X11_learn_0 n I A J t (nI N)) I2 A2 := rc_masts hms rfl rfl (p2 10 (by decide) (by decide)) (p2 11 (by decide) (by decide)) rfl rfl
  have aI0 : lr_aI I2 I2 := fun _ _ _ _ => rfl
  obtain ⟨r1, r2, r3, r4, r5, -⟩ := st_by (n := n) (J := J) (t := t) (J2 := J2) (t2 := t2) (J9 := J) (t9 := t) hn hN hq q1 hl hs hh hf2 (lr_land p2 aI0 hl) (lr_site p2 aI0 hs) (lr_shee p2 hh) hms9 rfl rfl (i := i) (b := b) (l := l) (d := d) (h := h) (by omega) hb (by omega) hd hh2
  exact ⟨⟨p1, r1, r2, r3⟩, r5, r4⟩
end Strength
