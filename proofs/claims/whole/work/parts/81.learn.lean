/-! what reports teach: the class's learning against the reference's sums -/
section Learn
variable {n : Nat} {I A I2 A2 I0 A0 : Nat → Nat → Int32} {J J2 : Nat → Nat → Int64} {t t2 : Bool × Bool}
def lr_p (s l b : Nat) : Nat := (s * 8 + l) * 6 + b
theorem lr_path {s l b : Nat} : px_X0_path n I A J t (nI s) (nI l) (nI b) = nI (lr_p s l b) := by
  unfold px_X0_path lr_p
  have e8 : (8 : Int32) = nI 8 := rfl
  have e6 : (6 : Int32) = nI 6 := rfl
  rw [e8, e6, pk_mul, nI_add, pk_mul, nI_add]
theorem lr_inj {s l b s' l' b' : Nat} (h2 : l < 8) (h3 : b < 6) (h5 : l' < 8) (h6 : b' < 6) : lr_p s' l' b' = lr_p s l b ↔ s' = s ∧ l' = l ∧ b' = b := by
  unfold lr_p
  constructor
  · intro q
    omega
  · rintro ⟨rfl, rfl, rfl⟩; rfl
theorem lr_add {s l b : Nat} {d : Int32} (h1 : s < 4) (h2 : l < 8) (h3 : b < 6) : pA_X0_add_29 n I A J t (nI s) (nI l) (nI b) d = cw_u (cw_u A 30 (lr_p s l b) (A 30 (lr_p s l b) + d)) 31 (lr_p s l b) (A 31 (lr_p s l b) + 1) ∧ pb_X0_add_29 n I A J t (nI s) (nI l) (nI b) d := by
  have hp : lr_p s l b < 192 := by unfold lr_p; omega
  have cp : (nI (lr_p s l b)).toNatClampNeg = lr_p s l b := nI_clamp (by omega)
  have v : vp_in (nI (lr_p s l b)) 192 := vp_in_nI hp (by decide)
  unfold pA_X0_add_29 pb_X0_add_29 qA30_X0_add_29 qA19_X0_add_29 q6_X0_add_29
  rw [lr_path, cp]
  refine ⟨?_, v, v, v, v⟩
  rw [cw_u_c A _ (by decide)]
theorem lr_isN {k m : Nat} (hm : m ≤ 300) (h1 : I 19 9 = nI m) (hk : k < m) : px_X1_isNotice_19 n I A J t (nI k) = (if A 20 k = -1 then 1 else 0) ∧ pb_X1_isNotice_19 n I A J t (nI k) := by
  unfold px_X1_isNotice_19 qs0m1_X1_isNotice_19 qs0m9_X1_isNotice_19 qs0m19_X1_isNotice_19
  rw [h1, if_neg (nI_pos (by omega)), if_neg (nI_ge hk (by omega)), nI_clamp (by omega)]
  exact ⟨rfl, fun _ _ => vp_in_nI (by omega) (by decide)⟩
/-- what stays the same while it learns -/
def lr_ag (A A9 : Nat → Nat → Int32) : Prop := ∀ c, c ≠ 30 → c ≠ 31 → A9 c = A c
def lr_aI (I2 I9 : Nat → Nat → Int32) : Prop := ∀ k, k ≠ 59 → k ≠ 60 → k ≠ 61 → I9 68 k = I2 68 k
theorem lr_land {A9 I9 : Nat → Nat → Int32} (a : lr_ag A A9) (b : lr_aI I2 I9) (h : rl_lands I A I2 A2) : rl_lands I A9 I9 A2 := rc_lands h rfl (b 35 (by decide) (by decide) (by decide)) (a 2 (by decide) (by decide)) (a 3 (by decide) (by decide)) (a 4 (by decide) (by decide)) rfl rfl rfl
theorem lr_site {A9 I9 : Nat → Nat → Int32} (a : lr_ag A A9) (b : lr_aI I2 I9) (h : rl_sites I A I2 A2) : rl_sites I A9 I9 A2 := rc_sites h rfl (b 36 (by decide) (by decide) (by decide)) (a 6 (by decide) (by decide)) (a 7 (by decide) (by decide)) rfl rfl
theorem lr_shee {A9 : Nat → Nat → Int32} (a : lr_ag A A9) (h : rl_sheets A A2) : rl_sheets A9 A2 := rc_sheets h (a 17 (by decide) (by decide)) (a 18 (by decide) (by decide)) rfl rfl
theorem lr_toldI {I9 : Nat → Nat → Int32} {x1 x2 x3 x4 x5 : Int32} (b : lr_aI I2 I9) : lr_aI I2 (pI_X12_toldBy_68 n I9 A2 J2 t2 x1 x2 x3 x4 x5) := fun k h1 h2 h3 => by
  rw [fr_pI_X12_toldBy_68 (by simp; omega)]
  exact b k h1 h2 h3
/-- one fact -/
def lr_v (n : Nat) (I9 A2 : Nat → Nat → Int32) (J2 : Nat → Nat → Int64) (t2 : Bool × Bool) (s l b k : Nat) : Int32 := px_X12_toldBy_68 n I9 A2 J2 t2 (nI s) (nI l) (nI b) (A2 100 k) (A2 104 k)
theorem lr_stepC {k m : Nat} {A9 I9 : Nat → Nat → Int32} {x : Int32} (hm : m ≤ 300) (h1 : I 19 9 = nI m) (hk : k < m) (hl : rl_lands I A I2 A2) (hs : rl_sites I A I2 A2) (hh : rl_sheets A A2) (hf : rl_fact A A2 k) (a : lr_ag A A9) (b : lr_aI I2 I9) :
    pb_X1_isNotice_19 n I A9 J t (nI k) ∧ (px_X1_isNotice_19 n I A9 J t (nI k) = 0 → pb_X11_learnReport_0 n I A9 J t (nI k)) ∧
    ((A2 99 k = 1 ∧ qAm22_X11_learn_0 n I A0 J t x A9 (nI k) = A9) ∨
     ∃ s' l' b', s' < 4 ∧ l' < 8 ∧ b' < 6 ∧ A2 99 k = 0 ∧ A2 101 k = nI s' ∧ A2 102 k = nI l' ∧ A2 103 k = nI b' ∧ pb_X12_toldBy_68 n I9 A2 J2 t2 (nI s') (nI l') (nI b') (A2 100 k) (A2 104 k) ∧
      qAm22_X11_learn_0 n I A0 J t x A9 (nI k) = (if lr_v n I9 A2 J2 t2 s' l' b' k = -1000000 then A9 else cw_u (cw_u A9 30 (lr_p s' l' b') (A9 30 (lr_p s' l' b') + (A2 106 k - lr_v n I9 A2 J2 t2 s' l' b' k))) 31 (lr_p s' l' b') (A9 31 (lr_p s' l' b') + 1)) ∧
      (lr_v n I9 A2 J2 t2 s' l' b' k = -1000000 ∨ -198 ≤ (A2 106 k - lr_v n I9 A2 J2 t2 s' l' b' k).toInt ∧ (A2 106 k - lr_v n I9 A2 J2 t2 s' l' b' k).toInt ≤ 198)) := by
  obtain ⟨n1, n2⟩ := lr_isN (n := n) (I := I) (A := A9) (J := J) (t := t) hm h1 hk
  have ck : (nI k).toNatClampNeg = k := nI_clamp (by omega)
  have vk : vp_in (nI k) 300 := vp_in_nI (by omega) (by decide)
  have a20 := a 20 (by decide) (by decide)
  rw [a20] at n1
  obtain ⟨f1, f2, f3, f4, f5, f6, f7, f8, f9⟩ := hf
  have o1 : ¬ (1 : Int32) = 0 := by decide
  rcases f9 with ⟨g1, g2, g3⟩ | ⟨g1, g2, g3, g4, g5, g6⟩
  · rw [if_pos g2] at n1
    refine ⟨n2, fun q => absurd (n1.symm.trans q) o1, Or.inl ⟨g1, ?_⟩⟩
    unfold qAm22_X11_learn_0
    rw [n1, if_neg o1]
  · obtain ⟨s', hs', es'⟩ := vp_in_of g3 (by decide)
    obtain ⟨l', hl', el'⟩ := vp_in_of f5 (by decide)
    obtain ⟨b', hb', eb'⟩ := vp_in_of f6 (by decide)
    obtain ⟨h', hh', eh'⟩ := vp_in_of f7 (by decide)
    obtain ⟨d', hd', ed'⟩ := vp_in_of f8 (by decide)
    have ns : ¬ A 20 k = -1 := by
      rw [es']
      intro q
      have := tI_eq.mp q
      rw [tI_nI (by omega)] at this
      have a1 : (-1 : Int32).toInt = -1 := rfl
      omega
    rw [if_neg ns] at n1
    obtain ⟨w1, w2, w3, w4, w5⟩ := tb_told (n := n) (J := J) (t := t) (J2 := J2) (t2 := t2) (lr_land a b hl) (lr_site a b hs) (lr_shee a hh) hs' hl' hb' hd' hh'
    have q8 : q8_X11_learnReport_0 n I A9 J t (nI k) = nI s' := by
      unfold q8_X11_learnReport_0 px_X1_siteOf_19
      rw [ck, a20, es']
    have q17 : q17_X11_learnReport_0 n I A9 J t (nI k) = nI l' := by
      unfold q17_X11_learnReport_0 px_X1_landOf_19
      rw [ck, a 21 (by decide) (by decide), el']
    have q26 : q26_X11_learnReport_0 n I A9 J t (nI k) = nI b' := by
      unfold q26_X11_learnReport_0 px_X1_bandOf_19
      rw [ck, a 22 (by decide) (by decide), eb']
    have q36 : q36_X11_learnReport_0 n I A9 J t (nI k) = nI d' := by
      unfold q36_X11_learnReport_0 px_X1_dayOf_19
      rw [ck, a 25 (by decide) (by decide), ed']
    have qfr : px_X1_fromOf_19 n I A9 J t (nI k) = nI h' := by
      unfold px_X1_fromOf_19
      rw [ck, a 23 (by decide) (by decide), eh']
    have qhe : px_X1_heardOf_19 n I A9 J t (nI k) = A2 106 k := by
      unfold px_X1_heardOf_19
      rw [ck, a 26 (by decide) (by decide), g4]
    have ev : lr_v n I9 A2 J2 t2 s' l' b' k = px_X12_toldBy_68 n I9 A2 J2 t2 (nI s') (nI l') (nI b') (nI d') (nI h') := by
      unfold lr_v
      rw [← f4, ← f3, ed', eh']
    have q69 : q69_X11_learnReport_0 n I A9 J t (nI k) = lr_v n I9 A2 J2 t2 s' l' b' k := by
      unfold q69_X11_learnReport_0
      rw [q8, q17, q26, q36, qfr, ev]
      exact w1
    obtain ⟨z1, z2⟩ := lr_add (n := n) (I := I) (A := A9) (J := J) (t := t) (d := A2 106 k - lr_v n I9 A2 J2 t2 s' l' b' k) hs' hl' hb'
    refine ⟨n2, fun _ => ?_, Or.inr ⟨s', l', b', hs', hl', hb', g1, by rw [← g2, es'], by rw [← f1, el'], by rw [← f2, eb'], ?_, ?_, ?_⟩⟩
    · unfold pb_X11_learnReport_0
      rw [q69, q8, q17, q26, q36, qfr, qhe]
      exact ⟨vk, vk, vk, vk, vk, w2, w3, fun _ => ⟨vk, z2⟩⟩
    · rw [← f4, ← f3, ed', eh']; exact w4
    · unfold qAm22_X11_learn_0 pA_X11_learnReport_0 qAm75_X11_learnReport_0
      rw [n1, if_pos rfl, q69, q8, q17, q26, qhe, z1]
    · rw [ev]
      rcases w5 with w5 | w5
      · exact Or.inl w5
      · right
        rw [← g4]
        rw [tI_sub (by omega) (by omega)]
        omega
theorem lr_stepR {k : Nat} {I9 : Nat → Nat → Int32} {s l b s' l' b' : Nat} {x4 sum many : Int32} (hk : k < 300) (s4 : s < 4) (l8 : l < 8) (b6 : b < 6) (s4' : s' < 4) (l8' : l' < 8) (b6' : b' < 6) (h0 : A2 99 k = 0) (h1 : A2 101 k = nI s') (h2 : A2 102 k = nI l') (h3 : A2 103 k = nI b') :
    ((s' = s ∧ l' = l ∧ b' = b) → qIm23_X12_corrected_68 n I0 A2 J2 t2 (nI s) (nI l) (nI b) x4 I9 sum many (nI k) = pI_X12_toldBy_68 n I9 A2 J2 t2 (nI s) (nI l) (nI b) (A2 100 k) (A2 104 k) ∧
      ql5m23_X12_corrected_68 n I0 A2 J2 t2 (nI s) (nI l) (nI b) x4 I9 sum many (nI k) = (if lr_v n I9 A2 J2 t2 s l b k = -1000000 then sum else sum + (A2 106 k - lr_v n I9 A2 J2 t2 s l b k)) ∧
      ql6m23_X12_corrected_68 n I0 A2 J2 t2 (nI s) (nI l) (nI b) x4 I9 sum many (nI k) = (if lr_v n I9 A2 J2 t2 s l b k = -1000000 then many else many + 1)) ∧
    (¬ (s' = s ∧ l' = l ∧ b' = b) → qIm23_X12_corrected_68 n I0 A2 J2 t2 (nI s) (nI l) (nI b) x4 I9 sum many (nI k) = I9 ∧
      ql5m23_X12_corrected_68 n I0 A2 J2 t2 (nI s) (nI l) (nI b) x4 I9 sum many (nI k) = sum ∧
      ql6m23_X12_corrected_68 n I0 A2 J2 t2 (nI s) (nI l) (nI b) x4 I9 sum many (nI k) = many) := by
  have ck : (nI k).toNatClampNeg = k := nI_clamp (by omega)
  have e1 : nI s' = nI s ↔ s' = s := nI_eq (by omega) (by omega)
  have e2 : nI l' = nI l ↔ l' = l := nI_eq (by omega) (by omega)
  have e3 : nI b' = nI b ↔ b' = b := nI_eq (by omega) (by omega)
  unfold qIm23_X12_corrected_68 ql5m23_X12_corrected_68 ql6m23_X12_corrected_68 qIm34_X12_corrected_68 ql5m34_X12_corrected_68 ql6m34_X12_corrected_68 qIm45_X12_corrected_68 ql5m45_X12_corrected_68 ql6m45_X12_corrected_68 qIm56_X12_corrected_68 ql5m56_X12_corrected_68 ql6m56_X12_corrected_68 ql5m90_X12_corrected_68 ql6m90_X12_corrected_68 q109_X12_corrected_68 q111_X12_corrected_68 q83_X12_corrected_68
  rw [ck, h0, h1, h2, h3]
  simp only [e1, e2, e3, if_true]
  constructor
  · rintro ⟨rfl, rfl, rfl⟩
    simp only [if_true]
    exact ⟨trivial, rfl, rfl⟩
  · intro q
    by_cases q1 : s' = s
    · by_cases q2 : l' = l
      · have q3 : ¬ b' = b := fun q3 => q ⟨q1, q2, q3⟩
        simp only [q3, if_false, ite_self]
        exact ⟨trivial, trivial, trivial⟩
      · simp only [q2, if_false, ite_self]
        exact ⟨trivial, trivial, trivial⟩
    · simp only [q1, if_false]
      exact ⟨trivial, trivial, trivial⟩
theorem lr_stepN {k : Nat} {I9 : Nat → Nat → Int32} {x1 x2 x3 x4 sum many : Int32} (hk : k < 300) (h0 : A2 99 k = 1) :
    qIm23_X12_corrected_68 n I0 A2 J2 t2 x1 x2 x3 x4 I9 sum many (nI k) = I9 ∧ ql5m23_X12_corrected_68 n I0 A2 J2 t2 x1 x2 x3 x4 I9 sum many (nI k) = sum ∧ ql6m23_X12_corrected_68 n I0 A2 J2 t2 x1 x2 x3 x4 I9 sum many (nI k) = many := by
  have ck : (nI k).toNatClampNeg = k := nI_clamp (by omega)
  have o1 : ¬ (1 : Int32) = 0 := by decide
  unfold qIm23_X12_corrected_68 ql5m23_X12_corrected_68 ql6m23_X12_corrected_68
  rw [ck, h0]
  simp only [if_neg o1]
  exact ⟨trivial, trivial, trivial⟩
end Learn
