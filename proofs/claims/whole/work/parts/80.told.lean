/-! what a sheet tells: both sides -/
section Told
variable {n : Nat} {I A I2 A2 : Nat → Nat → Int32} {J J2 : Nat → Nat → Int64} {t t2 : Bool × Bool}
theorem tb_ix {a b c d : Nat} (ha : a < 3) (hb : b < 3) (hc : c < 5) (hd : d < 6) : ((((nI a * 3) + nI b) * 5 + nI c) * 6) + nI d = nI (((a * 3 + b) * 5 + c) * 6 + d) := by
  have e3 : (3 : Int32) = nI 3 := rfl
  have e5 : (5 : Int32) = nI 5 := rfl
  have e6 : (6 : Int32) = nI 6 := rfl
  rw [e3, e5, e6, pk_mul, nI_add, pk_mul, nI_add, pk_mul, nI_add]
theorem tb_in {x : Int32} {N : Nat} (hN : N < 2 ^ 31) (h : 0 ≤ x.toInt ∧ x.toInt < N) : ∃ k, k < N ∧ x = nI k := vp_in_of (tI_in.mpr h) hN
theorem tb_sunI {I3 : Nat → Nat → Int32} {x y z : Int32} : px_X12_sunAt_68 n I2 A2 J2 t2 x y z = px_X12_sunAt_68 n I3 A2 J2 t2 x y z := rg_sun.trans rg_sun.symm
theorem tb_sunb {a : Nat} {y z : Int32} (ha : a < 12) : pb_X12_sunAt_68 n I2 A2 J2 t2 (nI a) y z := ⟨vp_in_nI ha (by decide), vp_in_nI ha (by decide), vp_in_nI ha (by decide)⟩
theorem tb_told {s l b d h : Nat} (hl : rl_lands I A I2 A2) (hs : rl_sites I A I2 A2) (hh : rl_sheets A A2) (s4 : s < 4) (l8 : l < 8) (b6 : b < 6) (hd : d < 3600) (h24 : h < 24) :
    px_X8_numberAt_16 n I A J t (px_X11_seasonOf n I A J t (nI d)) (px_X11_firstCell_0 n I A J t (nI s) (nI l) (nI d) (nI h) + nI b) = px_X12_toldBy_68 n I2 A2 J2 t2 (nI s) (nI l) (nI b) (nI d) (nI h) ∧
    pb_X11_firstCell_0 n I A J t (nI s) (nI l) (nI d) (nI h) ∧
    pb_X8_numberAt_16 n I A J t (px_X11_seasonOf n I A J t (nI d)) (px_X11_firstCell_0 n I A J t (nI s) (nI l) (nI d) (nI h) + nI b) ∧
    pb_X12_toldBy_68 n I2 A2 J2 t2 (nI s) (nI l) (nI b) (nI d) (nI h) ∧
    (px_X12_toldBy_68 n I2 A2 J2 t2 (nI s) (nI l) (nI b) (nI d) (nI h) = -1000000 ∨ -99 ≤ (px_X12_toldBy_68 n I2 A2 J2 t2 (nI s) (nI l) (nI b) (nI d) (nI h)).toInt ∧ (px_X12_toldBy_68 n I2 A2 J2 t2 (nI s) (nI l) (nI b) (nI d) (nI h)).toInt ≤ 99) := by
  obtain ⟨-, -, -, f1, f2, f3, -⟩ := gw_5 (n := n) (J := J) (t := t) (J2 := J2) (t2 := t2) hl hs s4 l8
  have u1 : px_X9_sunAt_5 n I A J t (nI s) (nI d) (nI h) = px_X12_sunAt_68 n (pI_X12_goes_68 n I2 A2 J2 t2 (nI (8 + s)) (nI l)) A2 J2 t2 (nI (8 + s)) (nI d) (nI h) := (gw_s5 (n := n) (I := I) (J := J) (t := t) (I2 := I2) (J2 := J2) (t2 := t2) hs s4 hd h24).1.trans tb_sunI
  have u2 := (gw_s5 (n := n) (J := J) (t := t) (J2 := J2) (t2 := t2) hs s4 hd h24).2
  have w1 : px_X9_sunAt_1 n I A J t (nI l) (nI d) (nI h) = px_X12_sunAt_68 n (pI_X12_goes_68 n I2 A2 J2 t2 (nI (8 + s)) (nI l)) A2 J2 t2 (nI l) (nI d) (nI h) := (gw_s1 (n := n) (I := I) (J := J) (t := t) (I2 := I2) (J2 := J2) (t2 := t2) hl l8 hd h24).1.trans tb_sunI
  have w2 := (gw_s1 (n := n) (J := J) (t := t) (J2 := J2) (t2 := t2) hl l8 hd h24).2
  obtain ⟨a, ha, ea⟩ := tb_in (N := 3) (by decide) u2.1
  obtain ⟨c, hc, ec⟩ := tb_in (N := 3) (by decide) w2.1
  obtain ⟨e, he, ee⟩ := tb_in (N := 5) (by decide) f2
  obtain ⟨z, hz, ez⟩ := gs_sea hd
  obtain ⟨m, hm, m1, m2, m3⟩ := hh z hz
  have cz : (nI z).toNatClampNeg = z := nI_clamp (by omega)
  have vz : vp_in (nI z) 4 := vp_in_nI hz (by decide)
  have i1 : px_X11_firstCell_0 n I A J t (nI s) (nI l) (nI d) (nI h) + nI b = nI (((a * 3 + c) * 5 + e) * 6 + b) := by
    unfold px_X11_firstCell_0 q25_X11_firstCell_0
    rw [ea, ec, ee]
    exact tb_ix ha hc he b6
  have i2 : q54_X12_toldBy_68 n I2 A2 J2 t2 (nI s) (nI l) (nI b) (nI d) (nI h) = nI (((a * 3 + c) * 5 + e) * 6 + b) := by
    unfold q54_X12_toldBy_68
    rw [gw_p8, ← u1, ← w1, ← f1, ea, ec, ee]
    exact tb_ix ha hc he b6
  have se : px_X11_seasonOf n I A J t (nI d) = nI z := ez
  have se2 : q16_X12_toldBy_68 n I2 A2 J2 t2 (nI s) (nI l) (nI b) (nI d) (nI h) = nI z := ez
  have ib : ((a * 3 + c) * 5 + e) * 6 + b < 270 := by omega
  have i0 : ¬ nI (((a * 3 + c) * 5 + e) * 6 + b) < 0 := nI_pos (by omega)
  have o1 : ¬ (1 : Int32) = 0 := by decide
  have e1 : A 18 z ≤ nI (((a * 3 + c) * 5 + e) * 6 + b) ↔ m ≤ ((a * 3 + c) * 5 + e) * 6 + b := by rw [m1]; exact nI_leI (by omega) (by omega)
  have e2 : A2 97 z ≤ nI (((a * 3 + c) * 5 + e) * 6 + b) ↔ m ≤ ((a * 3 + c) * 5 + e) * 6 + b := by
    rcases m2 with q | ⟨rfl, q⟩
    · rw [q]; exact nI_leI (by omega) (by omega)
    · rw [q, tI_le, tI_nI (by omega)]
      have a1 : (-1 : Int32).toInt = -1 := rfl
      constructor <;> intro <;> omega
  have ci : (nI (270 * z + (((a * 3 + c) * 5 + e) * 6 + b))).toNatClampNeg = 270 * z + (((a * 3 + c) * 5 + e) * 6 + b) := nI_clamp (by omega)
  have vi : vp_in (nI (270 * z + (((a * 3 + c) * 5 + e) * 6 + b))) 1080 := vp_in_nI (by omega) (by decide)
  have pbt : pb_X12_toldBy_68 n I2 A2 J2 t2 (nI s) (nI l) (nI b) (nI d) (nI h) := by
    unfold pb_X12_toldBy_68
    rw [se2, i2, gw_p8]
    refine ⟨gw_goesb (by omega) (by omega), tb_sunb (by omega), tb_sunb (by omega), vz, fun _ => ?_⟩
    rw [sh_ix2]; exact vi
  rw [se, i1]
  unfold px_X8_numberAt_16 qs0m6_X8_numberAt_16 px_X8_has_16 qs0m1_X8_has_16 qs0m11_X8_has_16 pb_X8_numberAt_16 pb_X8_has_16 px_X12_toldBy_68 qs0m65_X12_toldBy_68
  rw [se2, i2, cz, if_neg i0, sh_ix, sh_ix2, ci]
  simp only [e1, e2]
  refine ⟨?_, ⟨u2.2.1, w2.2.1, f3⟩, ⟨fun _ => vz, fun _ => vi⟩, pbt, ?_⟩
  · by_cases q : m ≤ ((a * 3 + c) * 5 + e) * 6 + b
    · simp only [if_pos q, if_true]
    · simp only [if_neg q, if_neg o1]
      exact (m3 _ (by omega)).1
  · by_cases q : m ≤ ((a * 3 + c) * 5 + e) * 6 + b
    · simp only [if_pos q]; exact Or.inl trivial
    · simp only [if_neg q]
      have k := m3 _ (Nat.lt_of_not_le q)
      rw [k.1] at k
      exact Or.inr k.2
end Told
