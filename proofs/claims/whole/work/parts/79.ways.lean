/-! way and sun: both sides -/
section Ways
variable {n : Nat} {I A I2 A2 : Nat → Nat → Int32} {J J2 : Nat → Nat → Int64} {t t2 : Bool × Bool}
theorem gw_p8 (s : Nat) : (8 : Int32) + nI s = nI (8 + s) := nI_add 8 s
theorem gw_goesb {a b : Nat} (ha : a < 12) (hb : b < 12) : pb_X12_goes_68 n I2 A2 J2 t2 (nI a) (nI b) := by
  have va : vp_in (nI a) 12 := vp_in_nI ha (by decide)
  have vb : vp_in (nI b) 12 := vp_in_nI hb (by decide)
  exact ⟨vb, va, vb, va, fun _ => ⟨va, vb⟩, fun _ => ⟨vb, va⟩, va, vb, va, vb, fun _ => ⟨vb, va, fun _ => ⟨vb, va⟩⟩⟩
theorem gw_5 {s l : Nat} (hl : rl_lands I A I2 A2) (hs : rl_sites I A I2 A2) (s4 : s < 4) (l8 : l < 8) :
    px_X9_lengthTo_5_1 n I A J t (nI s) (nI l) = pI_X12_goes_68 n I2 A2 J2 t2 (nI (8 + s)) (nI l) 68 59 ∧
    px_X9_kindTo_5_1 n I A J t (nI s) (nI l) = pI_X12_goes_68 n I2 A2 J2 t2 (nI (8 + s)) (nI l) 68 60 ∧
    px_X9_aimTo_5_1 n I A J t (nI s) (nI l) = pI_X12_goes_68 n I2 A2 J2 t2 (nI (8 + s)) (nI l) 68 61 ∧
    (∀ A3 J3 t3, px_X9_farTo_5_1 n I A J t (nI s) (nI l) = px_X12_far_68 n (pI_X12_goes_68 n I2 A2 J2 t2 (nI (8 + s)) (nI l)) A3 J3 t3) ∧
    (0 ≤ (px_X9_farTo_5_1 n I A J t (nI s) (nI l)).toInt ∧ (px_X9_farTo_5_1 n I A J t (nI s) (nI l)).toInt < 5) ∧
    pb_X9_shortest_5_1 n I A J t (nI s) (nI l) ∧ pb_X9_aimTo_5_1 n I A J t (nI s) (nI l) := by
  obtain ⟨l1, l2, -, l4, l5, -⟩ := hl.2 l l8
  obtain ⟨s1, s2, s3, s5⟩ := hs.2 s s4
  have cs : (nI s).toNatClampNeg = s := nI_clamp (by omega)
  have c8 : (nI (8 + s)).toNatClampNeg = 8 + s := nI_clamp (by omega)
  have cl : (nI l).toNatClampNeg = l := nI_clamp (by omega)
  obtain ⟨zl, hzl, ezl⟩ := vp_in_of l4 (by decide)
  obtain ⟨bl, hbl, ebl⟩ := vp_in_of l5 (by decide)
  obtain ⟨zs, hzs, ezs⟩ := vp_in_of s3 (by decide)
  obtain ⟨bs, hbs, ebs⟩ := vp_in_of s5 (by decide)
  obtain ⟨o, ho, eo⟩ := ge_on hzl hzs
  obtain ⟨k1, k2, k3, k4, k5, k6, k7, k8⟩ := ge_all o ho bs hbs bl hbl
  obtain ⟨r1, r2, r3⟩ := rg_goes (n := n) (I := I2) (A := A2) (J := J2) (t := t2) (x1 := nI (8 + s)) (x2 := nI l)
  have vs : vp_in (nI s) 4 := vp_in_nI s4 (by decide)
  have vl : vp_in (nI l) 8 := vp_in_nI l8 (by decide)
  rw [c8, cl, ← s1, ← s2, ← l1, ← l2, ezl, ebl, ezs, ebs, eo] at r1 r2 r3
  have ef : px_X9_farTo_5_1 n I A J t (nI s) (nI l) = gr_far (nI o) (nI bs) (nI bl) := by
    rw [cg_far5, cs, cl, ezl, ebl, ezs, ebs, eo, k4]
  have sh : px_X9_shortest_5_1 n I A J t (nI s) (nI l) = ge_short (nI o) (nI bs) (nI bl) := by
    rw [cg_short5, cs, cl, ezl, ebl, ezs, ebs, eo]
  have pbs : pb_X9_shortest_5_1 n I A J t (nI s) (nI l) := ⟨⟨vl, vs⟩, vl, vs, vs, vl⟩
  refine ⟨?_, ?_, ?_, fun A3 J3 t3 => ?_, ?_, pbs, pbs, fun _ _ => ⟨⟨vl, vs⟩, vl, vs, ?_⟩⟩
  · rw [r1, ← k1]
    unfold px_X9_lengthTo_5_1
    rw [sh]
  · rw [r2, ← k2]
    unfold px_X9_kindTo_5_1
    rw [sh]
  · rw [r3, ← k3, cg_aim5, cs, cl, ezl, ebl, ezs, ebs, eo]
  · rw [ef]
    unfold px_X12_far_68 qs0m7_X12_far_68
    rw [r1]; rfl
  · rw [ef]; exact ⟨k5, k6⟩
  · rw [tI_in]
    have e : ((((q72_X9_aimTo_5_1 n I A J t (nI s) (nI l)) + 1) * 3) + (qs0m36_X9_aimTo_5_1 n I A J t (nI s) (nI l))) + 1 = ge_ix (cw_rem ((A 2 (nI l).toNatClampNeg - A 6 (nI s).toNatClampNeg) + 24) 24) (A 7 (nI s).toNatClampNeg) (A 3 (nI l).toNatClampNeg) := rfl
    rw [e, cs, cl, ezl, ebl, ezs, ebs, eo]
    exact ⟨k7, k8⟩
theorem gw_1 {s l : Nat} (hl : rl_lands I A I2 A2) (s8 : s < 8) (l8 : l < 8) :
    (∀ A3 J3 t3, px_X9_farTo_1_1 n I A J t (nI s) (nI l) = px_X12_far_68 n (pI_X12_goes_68 n I2 A2 J2 t2 (nI s) (nI l)) A3 J3 t3) ∧ pb_X9_shortest_1_1 n I A J t (nI s) (nI l) := by
  obtain ⟨l1, l2, -, l4, l5, -⟩ := hl.2 l l8
  obtain ⟨s1, s2, -, s3, s5, -⟩ := hl.2 s s8
  have cs : (nI s).toNatClampNeg = s := nI_clamp (by omega)
  have cl : (nI l).toNatClampNeg = l := nI_clamp (by omega)
  obtain ⟨zl, hzl, ezl⟩ := vp_in_of l4 (by decide)
  obtain ⟨bl, hbl, ebl⟩ := vp_in_of l5 (by decide)
  obtain ⟨zs, hzs, ezs⟩ := vp_in_of s3 (by decide)
  obtain ⟨bs, hbs, ebs⟩ := vp_in_of s5 (by decide)
  obtain ⟨o, ho, eo⟩ := ge_on hzl hzs
  obtain ⟨k1, k2, k3, k4, k5, k6, k7, k8⟩ := ge_all o ho bs hbs bl hbl
  obtain ⟨r1, r2, r3⟩ := rg_goes (n := n) (I := I2) (A := A2) (J := J2) (t := t2) (x1 := nI s) (x2 := nI l)
  have vs : vp_in (nI s) 8 := vp_in_nI s8 (by decide)
  have vl : vp_in (nI l) 8 := vp_in_nI l8 (by decide)
  rw [cs, cl, ← s1, ← s2, ← l1, ← l2, ezl, ebl, ezs, ebs, eo] at r1
  refine ⟨fun A3 J3 t3 => ?_, ⟨vl, vs⟩, vl, vs, vs, vl⟩
  rw [cg_far1, cs, cl, ezl, ebl, ezs, ebs, eo, k4]
  unfold px_X12_far_68 qs0m7_X12_far_68
  rw [r1]; rfl
theorem gw_s5 {s d h : Nat} (hs : rl_sites I A I2 A2) (s4 : s < 4) (hd : d < 3600) (hh : h < 24) :
    px_X9_sunAt_5 n I A J t (nI s) (nI d) (nI h) = px_X12_sunAt_68 n I2 A2 J2 t2 (nI (8 + s)) (nI d) (nI h) ∧ (0 ≤ (px_X9_sunAt_5 n I A J t (nI s) (nI d) (nI h)).toInt ∧ (px_X9_sunAt_5 n I A J t (nI s) (nI d) (nI h)).toInt < 3) ∧
    pb_X9_sunAt_5 n I A J t (nI s) (nI d) (nI h) ∧ pb_X12_sunAt_68 n I2 A2 J2 t2 (nI (8 + s)) (nI d) (nI h) := by
  obtain ⟨s1, s2, s3, s5⟩ := hs.2 s s4
  have cs : (nI s).toNatClampNeg = s := nI_clamp (by omega)
  have c8 : (nI (8 + s)).toNatClampNeg = 8 + s := nI_clamp (by omega)
  obtain ⟨zs, hzs, ezs⟩ := vp_in_of s3 (by decide)
  obtain ⟨bs, hbs, ebs⟩ := vp_in_of s5 (by decide)
  obtain ⟨l, hl, el⟩ := gs_loc hzs hh
  obtain ⟨e, he, ee⟩ := gs_sea hd
  obtain ⟨k1, k2, k3⟩ := gs_all l hl e he bs hbs
  have vs : vp_in (nI s) 4 := vp_in_nI s4 (by decide)
  have v8 : vp_in (nI (8 + s)) 12 := vp_in_nI (by omega) (by decide)
  rw [cg_sun5, rg_sun, cs, c8, ← s1, ← s2, ezs, ebs, el, ee, k1]
  exact ⟨rfl, ⟨k2, k3⟩, ⟨vs, vs, vs⟩, v8, v8, v8⟩
theorem gw_s1 {s d h : Nat} (hl : rl_lands I A I2 A2) (s8 : s < 8) (hd : d < 3600) (hh : h < 24) :
    px_X9_sunAt_1 n I A J t (nI s) (nI d) (nI h) = px_X12_sunAt_68 n I2 A2 J2 t2 (nI s) (nI d) (nI h) ∧ (0 ≤ (px_X9_sunAt_1 n I A J t (nI s) (nI d) (nI h)).toInt ∧ (px_X9_sunAt_1 n I A J t (nI s) (nI d) (nI h)).toInt < 3) ∧
    pb_X9_sunAt_1 n I A J t (nI s) (nI d) (nI h) ∧ pb_X12_sunAt_68 n I2 A2 J2 t2 (nI s) (nI d) (nI h) := by
  obtain ⟨s1, s2, -, s3, s5, -⟩ := hl.2 s s8
  have cs : (nI s).toNatClampNeg = s := nI_clamp (by omega)
  obtain ⟨zs, hzs, ezs⟩ := vp_in_of s3 (by decide)
  obtain ⟨bs, hbs, ebs⟩ := vp_in_of s5 (by decide)
  obtain ⟨l, hl, el⟩ := gs_loc hzs hh
  obtain ⟨e, he, ee⟩ := gs_sea hd
  obtain ⟨k1, k2, k3⟩ := gs_all l hl e he bs hbs
  have vs : vp_in (nI s) 8 := vp_in_nI s8 (by decide)
  have v8 : vp_in (nI s) 12 := vp_in_nI (by omega) (by decide)
  rw [cg_sun1, rg_sun, cs, ← s1, ← s2, ezs, ebs, el, ee, k1]
  exact ⟨rfl, ⟨k2, k3⟩, ⟨vs, vs, vs⟩, v8, v8, v8⟩
theorem gw_way {x y z : Int32} (hl : rl_lands I A I2 A2) (hs : rl_sites I A I2 A2) :
    pb_X11_way_0 n I A J t x y z ∧ pb_X12_way_68 n I2 A2 J2 t2 x y z ∧ px_X12_way_68 n I2 A2 J2 t2 x y z = px_X11_way_0 n I A J t x y z := by
  obtain ⟨⟨m, hm, l1, l2⟩, -⟩ := id hl
  obtain ⟨⟨k, hk, s1, s2⟩, -⟩ := id hs
  unfold pb_X11_way_0 pb_X12_way_68 px_X12_way_68 px_X11_way_0
  rw [← eq_site (n := n) (A := A) (J := J) (t := t) (s1.trans s2.symm), ← eq_land (n := n) (A := A) (J := J) (t := t) (l1.trans l2.symm)]
  by_cases c1 : px_X9_has_5 n I A J t x = 0
  · simp only [c1, if_true, not_true_eq_false, false_implies, true_and]
  by_cases c2 : px_X9_has_1 n I A J t y = 0
  · simp only [c1, c2, if_true, if_false, not_true_eq_false, false_implies, implies_true, true_and]
  obtain ⟨s, hs4, rfl⟩ := has5_of s1 (by omega) c1
  obtain ⟨l, hl8, rfl⟩ := has1_of l1 (by omega) c2
  obtain ⟨k1, k2, k3, k4, k5, k6, k7⟩ := gw_5 (n := n) (J := J) (t := t) (J2 := J2) (t2 := t2) hl hs (s := s) (l := l) (by omega) (by omega)
  simp only [if_neg c1, if_neg c2]
  rw [gw_p8, k1, k2, k3, k4 A2 J2 t2]
  exact ⟨fun _ _ => ⟨fun _ => k6, fun _ => k6, fun _ => k7, fun _ => k6⟩, fun _ _ => gw_goesb (by omega) (by omega), rfl⟩
theorem gw_sun {w x y z : Int32} (hl : rl_lands I A I2 A2) (hs : rl_sites I A I2 A2) :
    pb_X11_sun_0 n I A J t w x y z ∧ pb_X12_sun_68 n I2 A2 J2 t2 w x y z ∧ px_X12_sun_68 n I2 A2 J2 t2 w x y z = px_X11_sun_0 n I A J t w x y z := by
  obtain ⟨⟨m, hm, l1, l2⟩, -⟩ := id hl
  obtain ⟨⟨k, hk, s1, s2⟩, -⟩ := id hs
  unfold pb_X11_sun_0 pb_X12_sun_68 px_X12_sun_68 px_X11_sun_0 qs0m29_X12_sun_68 qs0m29_2_X12_sun_68 qs0m37_X12_sun_68 qs0m37_1_X12_sun_68
  rw [← eq_site (n := n) (A := A) (J := J) (t := t) (s1.trans s2.symm), ← eq_land (n := n) (A := A) (J := J) (t := t) (l1.trans l2.symm), ← eq_isHour (n := n) (I := I) (A := A) (J := J) (t := t), ← eq_isDay (n := n) (I := I) (A := A) (J := J) (t := t)]
  by_cases c1 : px_X11_isDay n I A J t y = 0
  · simp only [c1, if_true, not_true_eq_false, false_implies, implies_true, and_self, true_and]
  by_cases c2 : px_X11_isHour n I A J t z = 0
  · simp only [c1, c2, if_true, if_false, not_true_eq_false, false_implies, implies_true, and_self, true_and]
  obtain ⟨d, hd, rfl⟩ := day_of c1
  obtain ⟨h, hh, rfl⟩ := hour_of c2
  simp only [if_neg c1, if_neg c2, not_false_eq_true, forall_const]
  refine ⟨⟨fun _ q _ _ => ?_, fun _ q _ _ => ?_⟩, ⟨fun _ q _ _ => ?_, fun _ q _ _ => ?_⟩, ?_⟩
  · obtain ⟨l, hl8, rfl⟩ := has1_of l1 (by omega) q
    exact (gw_s1 (n := n) (J := J) (t := t) (J2 := J2) (t2 := t2) hl (s := l) (by omega) hd hh).2.2.1
  · obtain ⟨l, hl8, rfl⟩ := has5_of s1 (by omega) q
    exact (gw_s5 (n := n) (J := J) (t := t) (J2 := J2) (t2 := t2) hs (s := l) (by omega) hd hh).2.2.1
  · obtain ⟨l, hl8, rfl⟩ := has1_of l1 (by omega) q
    exact (gw_s1 (n := n) (J := J) (t := t) (J2 := J2) (t2 := t2) hl (s := l) (by omega) hd hh).2.2.2
  · obtain ⟨l, hl8, rfl⟩ := has5_of s1 (by omega) q
    rw [gw_p8]
    exact (gw_s5 (n := n) (J := J) (t := t) (J2 := J2) (t2 := t2) hs (s := l) (by omega) hd hh).2.2.2
  · by_cases c3 : w = 0
    · simp only [if_pos c3]
      by_cases c4 : px_X9_has_1 n I A J t x = 0
      · simp only [if_pos c4]
      · simp only [if_neg c4]
        obtain ⟨l, hl8, rfl⟩ := has1_of l1 (by omega) c4
        exact (gw_s1 (n := n) (J := J) (t := t) (J2 := J2) (t2 := t2) hl (s := l) (by omega) hd hh).1.symm
    · simp only [if_neg c3]
      by_cases c4 : px_X9_has_5 n I A J t x = 0
      · simp only [if_pos c4]
      · simp only [if_neg c4]
        obtain ⟨l, hl8, rfl⟩ := has5_of s1 (by omega) c4
        rw [gw_p8]
        exact (gw_s5 (n := n) (J := J) (t := t) (J2 := J2) (t2 := t2) hs (s := l) (by omega) hd hh).1.symm
end Ways
