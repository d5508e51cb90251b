theorem rc_at {c v m : Nat} {x q : Nat → Nat} {A A2 A' A2' : Nat → Nat → Int32} (h : ty_at c v m x q A A2) (a1 : A' (c + 1) = A (c + 1)) (a2 : A' (c + 2) = A (c + 2)) (a3 : A' (c + 3) = A (c + 3)) (a4 : A' (c + 4) = A (c + 4)) (a5 : A' (c + 5) = A (c + 5)) (a6 : A' (c + 6) = A (c + 6)) (b1 : A2' 77 = A2 77) (b2 : A2' 78 = A2 78) (b3 : A2' 79 = A2 79) (b4 : A2' 80 = A2 80) (b5 : A2' 82 = A2 82) (b6 : A2' 83 = A2 83) (b7 : A2' 84 = A2 84) (b8 : A2' 85 = A2 85) (b9 : A2' 86 = A2 86) (b10 : A2' 87 = A2 87) : ty_at c v m x q A' A2' := by
  unfold ty_at ty_rule ty_rel
  rw [a1, a2, a3, a4, a5, a6, b1, b2, b3, b4, b5, b6, b7, b8, b9, b10]
  exact h
theorem ty_vars {A A2 : Nat → Nat → Int32} {x0 x1 x2 x3 x4 x5 x6 x7 : Int32} : ∀ j, j < 8 → cw_u (cw_u (cw_u (cw_u (cw_u (cw_u (cw_u (cw_u A 45 0 x0) 45 1 x1) 45 2 x2) 45 3 x3) 45 4 x4) 45 5 x5) 45 6 x6) 45 7 x7 45 j = cw_u (cw_u (cw_u (cw_u (cw_u (cw_u (cw_u (cw_u A2 107 0 x0) 107 1 x1) 107 2 x2) 107 3 x3) 107 4 x4) 107 5 x5) 107 6 x6) 107 7 x7 107 j := by
  intro j hj
  have : j = 0 ∨ j = 1 ∨ j = 2 ∨ j = 3 ∨ j = 4 ∨ j = 5 ∨ j = 6 ∨ j = 7 := by omega
  rcases this with rfl | rfl | rfl | rfl | rfl | rfl | rfl | rfl <;> simp [cw_u]
/-- the first rule that holds -/
theorem ty_first37 {n : Nat} {I A0 I2 A02 A A2 : Nat → Nat → Int32} {J J2 : Nat → Nat → Int64} {t t2 : Bool × Bool} {v m d : Nat} {x q : Nat → Nat} {x1 x2 x3 x5 x6 : Int32} (hn : 500 ≤ n) (hv : v < 2) (hm : m ≤ 20) (hd : d < 3600) (h18 : I2 68 18 = nI v) (h8 : I 37 8 = nI m) (h76 : A2 76 v = nI m) (T : ty_at 37 v m x q A A2) (hvar : ∀ j, j < 8 → A 45 j = A2 107 j) :
    ∀ (g r f f2 : Nat) (A9 A81 : Nat → Nat → Int32), r + g = m → (∀ c, c ≠ 44 → A9 c = A c) → (∀ c, c ≠ 108 → A81 c = A2 c) → g < f → g < f2 →
    lb_X10_firstHolding_37_45_2 n I A0 J t (nI d) f A9 (nI r) ∧ lb_X12_decides_68_81 n I2 A02 J2 t2 x1 x2 x3 (nI d) x5 x6 f2 A81 (nI r) ∧ (lp_X10_firstHolding_37_45_2 n I A0 J t (nI d) f A9 (nI r)).1 = (lp_X12_decides_68_81 n I2 A02 J2 t2 x1 x2 x3 (nI d) x5 x6 f2 A81 (nI r)).1 ∧ ((lp_X10_firstHolding_37_45_2 n I A0 J t (nI d) f A9 (nI r)).1 = -1 ∨ ∃ k, k < m ∧ (lp_X10_firstHolding_37_45_2 n I A0 J t (nI d) f A9 (nI r)).1 = nI k) := by
  have cv : (nI v).toNatClampNeg = v := nI_clamp (by omega)
  have vv : vp_in (nI v) 2 := vp_in_nI hv (by decide)
  intro g
  induction g with
  | zero =>
    intro r f f2 A9 A81 hk ha hb hf hf2
    obtain ⟨f, rfl⟩ : ∃ g, f = g + 1 := ⟨f - 1, by omega⟩
    obtain ⟨f2, rfl⟩ : ∃ g, f2 = g + 1 := ⟨f2 - 1, by omega⟩
    have c1 : nI m ≤ nI r := nI_le (by omega) (by omega)
    unfold lb_X10_firstHolding_37_45_2 lb_X12_decides_68_81 lp_X10_firstHolding_37_45_2 lp_X12_decides_68_81
    rw [h8, h18, cv, hb 76 (by decide), h76, if_pos c1, if_pos c1]
    exact ⟨fun z => absurd c1 z, ⟨vv, fun z => absurd c1 z⟩, rfl, Or.inl rfl⟩
  | succ g ih =>
    intro r f f2 A9 A81 hk ha hb hf hf2
    obtain ⟨f, rfl⟩ : ∃ g, f = g + 1 := ⟨f - 1, by omega⟩
    obtain ⟨f2, rfl⟩ : ∃ g, f2 = g + 1 := ⟨f2 - 1, by omega⟩
    obtain ⟨T1, T2, T3, T4, T5, T6, T7, T8, T9⟩ := id T
    have hr : r < m := by omega
    obtain ⟨U1, U2, U3, U4⟩ := T8 r hr
    have cr : (nI r).toNatClampNeg = r := nI_clamp (by omega)
    have vr : vp_in (nI r) 20 := vp_in_nI (by omega) (by decide)
    have c1 : ¬ nI m ≤ nI r := nI_ge hr (by omega)
    have e105 : q105_X12_decides_68 n I2 A02 J2 t2 x1 x2 x3 (nI d) x5 x6 A81 (nI r) = nI (20 * v + r) := by
      unfold q105_X12_decides_68
      have : (20 : Int32) = nI 20 := rfl
      rw [h18, this, pk_mul, nI_add]
    have c105 : (nI (20 * v + r)).toNatClampNeg = 20 * v + r := nI_clamp (by omega)
    have v105 : vp_in (nI (20 * v + r)) 40 := vp_in_nI (by omega) (by decide)
    have e154 : q154_X12_decides_68 n I2 A02 J2 t2 x1 x2 x3 (nI d) x5 x6 A81 (nI r) = nI (r + 1) := nI_1 r
    have e41 : q41_X10_firstHolding_37_45 n I A0 J t (nI d) A9 (nI r) = nI (r + 1) := nI_1 r
    have f1 : A9 39 r = A2 78 (20 * v + r) := by rw [ha 39 (by decide)]; exact U3
    have f78 : A81 78 (20 * v + r) = A2 78 (20 * v + r) := by rw [hb 78 (by decide)]
    have f79 : A81 79 (20 * v + r) = A2 79 (20 * v + r) := by rw [hb 79 (by decide)]
    have q01 : q r ≤ q (r + 1) := T3 _ _ (by omega) (by omega)
    have qm : q (r + 1) ≤ q m := T3 (r + 1) m (by omega) (Nat.le_refl _)
    have xq : x (q (r + 1)) ≤ x (q m) := T4 _ _ qm (Nat.le_refl _)
    have z0 : nI 0 = 0 := nI_0
    -- the rule's relations
    obtain ⟨H1, H2, H3⟩ := ty_hold37 (n := n) (I := I) (A0 := A9) (I2 := I2) (A02 := A81) (J := J) (J2 := J2) (t := t) (t2 := t2) hn hv hm hr h18 T hvar (q (r + 1) - q r) (q r) n n A9 A81 (by omega) (Nat.le_refl _) ha hb (by omega) (by omega)
    have st : qs0m3_X10_relsHold_37_45 n I A9 J t (nI r) = nI (x (q r) + q r) ∧ (¬ nI r = 0 → vp_in (nI r - 1) 20) := by
      unfold qs0m3_X10_relsHold_37_45
      by_cases w : r = 0
      · subst w
        rw [if_pos z0, T2, T1]
        exact ⟨rfl, fun y => absurd z0 y⟩
      · have w2 : ¬ nI r = 0 := fun y => w ((nI_eq (b := 0) (by omega) (by omega)).mp y)
        obtain ⟨s, rfl⟩ : ∃ s, r = s + 1 := ⟨r - 1, by omega⟩
        rw [if_neg w2, nI_pred, nI_clamp (by omega), ha 41 (by decide)]
        exact ⟨(T8 s (by omega)).1, fun _ => vp_in_nI (by omega) (by decide)⟩
    have pbc : pb_X10_relsHold_37_45 n I A9 J t (nI r) := by
      unfold pb_X10_relsHold_37_45
      rw [st.1]
      rw [z0] at H1
      exact ⟨st.2, H1⟩
    have e14 : q14_X12_holds_68 n I2 A81 J2 t2 (nI r) = nI (q r) ∧ vp_in (((21 : Int32) * (I2 68 18)) + nI r) 42 := by
      unfold q14_X12_holds_68
      have : (21 : Int32) = nI 21 := rfl
      rw [h18, this, pk_mul, nI_add, nI_clamp (by omega), hb 80 (by decide)]
      exact ⟨T7 r (by omega), vp_in_nI (by omega) (by decide)⟩
    have pbr : pb_X12_holds_68 n I2 A81 J2 t2 (nI r) := by
      unfold pb_X12_holds_68
      rw [e14.1]
      exact ⟨e14.2, H2⟩
    have eqh : px_X12_holds_68 n I2 A81 J2 t2 (nI r) = px_X10_relsHold_37_45 n I A9 J t (nI r) := by
      unfold px_X12_holds_68 px_X10_relsHold_37_45
      rw [e14.1, st.1, ← z0]
      exact H3.symm
    have ha2 : ∀ c, c ≠ 44 → pA_X10_relsHold_37_45 n I A9 J t (nI r) c = A c := fun c hc => by
      rw [fr_pA_X10_relsHold_37_45 (by simp [hc])]; exact ha c hc
    have hb2 : ∀ c, c ≠ 108 → pA_X12_holds_68 n I2 A81 J2 t2 (nI r) c = A2 c := fun c hc => by
      rw [fr_pA_X12_holds_68 (by simp [hc])]; exact hb c hc
    obtain ⟨i1, i2, i3, i4⟩ := ih (r + 1) f f2 A9 A81 (by omega) ha hb (by omega) (by omega)
    obtain ⟨j1, j2, j3, j4⟩ := ih (r + 1) f f2 (pA_X10_relsHold_37_45 n I A9 J t (nI r)) (pA_X12_holds_68 n I2 A81 J2 t2 (nI r)) (by omega) ha2 hb2 (by omega) (by omega)
    unfold lb_X10_firstHolding_37_45_2 lb_X12_decides_68_81 lp_X10_firstHolding_37_45_2 lp_X12_decides_68_81
    rw [h8, h18, cv, hb 76 (by decide), h76, if_neg c1, if_neg c1, e105, c105, e154, e41, cr, f1, f78, f79, eqh]
    by_cases w1 : nI d < A2 78 (20 * v + r)
    · rw [if_pos w1, if_pos w1]
      exact ⟨fun _ => ⟨vr, fun _ => i1, fun y => absurd w1 y⟩, ⟨vv, fun _ => ⟨v105, fun _ => i2, fun y => absurd w1 y⟩⟩, i3, i4⟩
    rw [if_neg w1, if_neg w1]
    have goon : (¬ A9 40 r ≤ nI d) → (if px_X10_relsHold_37_45 n I A9 J t (nI r) = 0 then lp_X10_firstHolding_37_45_2 n I A0 J t (nI d) f (pA_X10_relsHold_37_45 n I A9 J t (nI r)) (nI (r + 1)) else (nI r, pA_X10_relsHold_37_45 n I A9 J t (nI r))).1 = (if px_X10_relsHold_37_45 n I A9 J t (nI r) = 0 then lp_X12_decides_68_81 n I2 A02 J2 t2 x1 x2 x3 (nI d) x5 x6 f2 (pA_X12_holds_68 n I2 A81 J2 t2 (nI r)) (nI (r + 1)) else (nI r, pA_X12_holds_68 n I2 A81 J2 t2 (nI r))).1 ∧ ((if px_X10_relsHold_37_45 n I A9 J t (nI r) = 0 then lp_X10_firstHolding_37_45_2 n I A0 J t (nI d) f (pA_X10_relsHold_37_45 n I A9 J t (nI r)) (nI (r + 1)) else (nI r, pA_X10_relsHold_37_45 n I A9 J t (nI r))).1 = -1 ∨ ∃ k, k < m ∧ (if px_X10_relsHold_37_45 n I A9 J t (nI r) = 0 then lp_X10_firstHolding_37_45_2 n I A0 J t (nI d) f (pA_X10_relsHold_37_45 n I A9 J t (nI r)) (nI (r + 1)) else (nI r, pA_X10_relsHold_37_45 n I A9 J t (nI r))).1 = nI k) := fun _ => by
      by_cases w4 : px_X10_relsHold_37_45 n I A9 J t (nI r) = 0
      · rw [if_pos w4, if_pos w4]; exact ⟨j3, j4⟩
      · rw [if_neg w4, if_neg w4]; exact ⟨rfl, Or.inr ⟨r, hr, rfl⟩⟩
    rcases U4 with ⟨u1, u2⟩ | ⟨u1, u2⟩
    · have w2 : ¬ A9 40 r ≤ nI d := by
        have : A9 40 r = 10000 := by rw [ha 40 (by decide)]; exact u2
        rw [this]; exact nI_ge (b := 10000) (by omega) (by omega)
      rw [if_neg w2, if_pos u1]
      exact ⟨fun _ => ⟨vr, fun y => absurd y w1, fun _ => ⟨vr, fun y => absurd y w2, fun _ => ⟨pbc, fun _ => j1⟩⟩⟩, ⟨vv, fun _ => ⟨v105, fun y => absurd y w1, fun _ => ⟨v105, fun _ => ⟨pbr, fun _ => j2⟩, fun y => absurd u1 y⟩⟩⟩, goon w2⟩
    · have e3 : A9 40 r = A2 79 (20 * v + r) := by rw [ha 40 (by decide)]; exact u2
      rw [if_neg u1]
      by_cases w2 : A9 40 r ≤ nI d
      · rw [if_pos w2]
        have w3 : A2 79 (20 * v + r) ≤ nI d := by rw [← e3]; exact w2
        rw [if_pos w3]
        exact ⟨fun _ => ⟨vr, fun y => absurd y w1, fun _ => ⟨vr, fun _ => i1, fun y => absurd w2 y⟩⟩, ⟨vv, fun _ => ⟨v105, fun y => absurd y w1, fun _ => ⟨v105, fun y => absurd y u1, fun _ => ⟨v105, fun _ => i2, fun y => absurd w3 y⟩⟩⟩⟩, i3, i4⟩
      · have w3 : ¬ A2 79 (20 * v + r) ≤ nI d := by rw [← e3]; exact w2
        rw [if_neg w2, if_neg w3]
        exact ⟨fun _ => ⟨vr, fun y => absurd y w1, fun _ => ⟨vr, fun y => absurd y w2, fun _ => ⟨pbc, fun _ => j1⟩⟩⟩, ⟨vv, fun _ => ⟨v105, fun y => absurd y w1, fun _ => ⟨v105, fun y => absurd y u1, fun _ => ⟨v105, fun y => absurd y w3, fun _ => ⟨pbr, fun _ => j2⟩⟩⟩⟩⟩, goon w2⟩
/-- the rule that decides -/
theorem ty_decide37 {n : Nat} {I I2 A A2 : Nat → Nat → Int32} {J J2 : Nat → Nat → Int64} {t t2 : Bool × Bool} {i d f : Nat} {x2 x3 x5 : Int32} (hn : 500 ≤ n) (hd : d < 3600) (hi : i < 6) (hf : f < 300) (hT : rl_tr 37 I A I2 A2) (hms : rl_masts I A I2 A2) (hfa : rl_fact A A2 f) :
    pb_X11_decidingRule_0_tTx n I A J t (nI i) x2 x3 (nI d) x5 (nI f) ∧ pb_X12_decides_68 n I2 A2 J2 t2 (nI i) x2 x3 (nI d) x5 (nI f) ∧ px_X12_decides_68 n I2 A2 J2 t2 (nI i) x2 x3 (nI d) x5 (nI f) = px_X11_decidingRule_0_tTx n I A J t (nI i) x2 x3 (nI d) x5 (nI f) ∧ (px_X11_decidingRule_0_tTx n I A J t (nI i) x2 x3 (nI d) x5 (nI f) = -1 ∨ ∃ k, nI k < I 37 8 ∧ k < 20 ∧ px_X11_decidingRule_0_tTx n I A J t (nI i) x2 x3 (nI d) x5 (nI f) = nI k) := by
  obtain ⟨v, m, hv, hm, h18, h8, h76, x, q, T⟩ := hT
  obtain ⟨m1, m2, -, -⟩ := hms.2 i hi
  obtain ⟨g1, -, -, g4, -⟩ := hfa
  have ci : (nI i).toNatClampNeg = i := nI_clamp (by omega)
  have cf : (nI f).toNatClampNeg = f := nI_clamp (by omega)
  have vi : vp_in (nI i) 6 := vp_in_nI hi (by decide)
  have vf : vp_in (nI f) 300 := vp_in_nI hf (by decide)
  have k0 : ((0 : Int32)).toNatClampNeg = 0 := by decide
  have k1 : ((1 : Int32)).toNatClampNeg = 1 := by decide
  have k2 : ((2 : Int32)).toNatClampNeg = 2 := by decide
  have k3 : ((3 : Int32)).toNatClampNeg = 3 := by decide
  have k4 : ((4 : Int32)).toNatClampNeg = 4 := by decide
  have k5 : ((5 : Int32)).toNatClampNeg = 5 := by decide
  have k6 : ((6 : Int32)).toNatClampNeg = 6 := by decide
  have k7 : ((7 : Int32)).toNatClampNeg = 7 := by decide
  have w8 : ∀ k : Nat, k < 8 → vp_in (nI k) 8 := fun k hk => vp_in_nI hk (by decide)
  have EA : qA83_X11_decidingRule_0_tTx n I A J t (nI i) x2 x3 (nI d) x5 (nI f) = cw_u (cw_u (cw_u (cw_u (cw_u (cw_u (cw_u (cw_u A 45 0 x2) 45 1 x5) 45 2 (nI d)) 45 3 x3) 45 4 (A 21 f)) 45 5 (A 11 i)) 45 6 (A 25 f)) 45 7 (nI f) := by
    unfold qA83_X11_decidingRule_0_tTx qA74_X11_decidingRule_0_tTx qA58_X11_decidingRule_0_tTx qA44_X11_decidingRule_0_tTx qA29_X11_decidingRule_0_tTx qA22_X11_decidingRule_0_tTx qA14_X11_decidingRule_0_tTx qA6_X11_decidingRule_0_tTx px_X1_landOf_19 px_X2_powerOf_9 px_X1_dayOf_19
    rw [k0, k1, k2, k3, k4, k5, k6, k7, ci, cf]
    simp only [cw_u_c _ _ (show (21 : Nat) ≠ 45 by decide), cw_u_c _ _ (show (11 : Nat) ≠ 45 by decide), cw_u_c _ _ (show (25 : Nat) ≠ 45 by decide)]
  have EB : qA77_X12_decides_68 n I2 A2 J2 t2 (nI i) x2 x3 (nI d) x5 (nI f) = cw_u (cw_u (cw_u (cw_u (cw_u (cw_u (cw_u (cw_u A2 107 0 x2) 107 1 x5) 107 2 (nI d)) 107 3 x3) 107 4 (A 21 f)) 107 5 (A 11 i)) 107 6 (A 25 f)) 107 7 (nI f) := by
    unfold qA77_X12_decides_68 qA68_X12_decides_68 qA54_X12_decides_68 qA42_X12_decides_68 qA29_X12_decides_68 qA22_X12_decides_68 qA14_X12_decides_68 qA6_X12_decides_68
    rw [k0, k1, k2, k3, k4, k5, k6, k7, ci, cf]
    simp only [cw_u_c _ _ (show (102 : Nat) ≠ 107 by decide), cw_u_c _ _ (show (93 : Nat) ≠ 107 by decide), cw_u_c _ _ (show (100 : Nat) ≠ 107 by decide)]
    rw [g1, g4, m2]
  have ca : ∀ c, c ≠ 45 → qA83_X11_decidingRule_0_tTx n I A J t (nI i) x2 x3 (nI d) x5 (nI f) c = A c := fun c hc => fr_qA83_X11_decidingRule_0_tTx (by simp [hc])
  have cb : ∀ c, c ≠ 107 → qA77_X12_decides_68 n I2 A2 J2 t2 (nI i) x2 x3 (nI d) x5 (nI f) c = A2 c := fun c hc => fr_qA77_X12_decides_68 (by simp [hc])
  have T' : ty_at 37 v m x q (qA83_X11_decidingRule_0_tTx n I A J t (nI i) x2 x3 (nI d) x5 (nI f)) (qA77_X12_decides_68 n I2 A2 J2 t2 (nI i) x2 x3 (nI d) x5 (nI f)) := rc_at T (ca _ (by decide)) (ca _ (by decide)) (ca _ (by decide)) (ca _ (by decide)) (ca _ (by decide)) (ca _ (by decide)) (cb _ (by decide)) (cb _ (by decide)) (cb _ (by decide)) (cb _ (by decide)) (cb _ (by decide)) (cb _ (by decide)) (cb _ (by decide)) (cb _ (by decide)) (cb _ (by decide)) (cb _ (by decide))
  obtain ⟨F1, F2, F3, F4⟩ := ty_first37 (n := n) (I := I) (A0 := qA83_X11_decidingRule_0_tTx n I A J t (nI i) x2 x3 (nI d) x5 (nI f)) (I2 := I2) (A02 := A2) (J := J) (J2 := J2) (t := (true, t.2)) (t2 := t2) (x1 := nI i) (x2 := x2) (x3 := x3) (x5 := x5) (x6 := nI f) hn hv hm hd h18 h8 (by rw [cb 76 (by decide)]; exact h76) T' (by rw [EA, EB]; exact ty_vars) m 0 n n _ _ (by omega) (fun _ _ => rfl) (fun _ _ => rfl) (by omega) (by omega)
  refine ⟨⟨w8 0 (by omega), w8 1 (by omega), w8 2 (by omega), w8 3 (by omega), vf, w8 4 (by omega), vi, w8 5 (by omega), vf, w8 6 (by omega), w8 7 (by omega), F1⟩, ⟨w8 0 (by omega), w8 1 (by omega), w8 2 (by omega), w8 3 (by omega), vf, w8 4 (by omega), vi, w8 5 (by omega), vf, w8 6 (by omega), w8 7 (by omega), F2⟩, F3.symm, ?_⟩
  rcases F4 with F4 | ⟨k, hk, F4⟩
  · exact Or.inl F4
  · exact Or.inr ⟨k, by rw [h8]; exact nI_lt hk (by omega), by omega, F4⟩

/-- the first rule that holds -/
theorem ty_first60 {n : Nat} {I A0 I2 A02 A A2 : Nat → Nat → Int32} {J J2 : Nat → Nat → Int64} {t t2 : Bool × Bool} {v m d : Nat} {x q : Nat → Nat} {x1 x2 x3 x5 x6 : Int32} (hn : 500 ≤ n) (hv : v < 2) (hm : m ≤ 20) (hd : d < 3600) (h18 : I2 68 18 = nI v) (h8 : I 60 8 = nI m) (h76 : A2 76 v = nI m) (T : ty_at 60 v m x q A A2) (hvar : ∀ j, j < 8 → A 45 j = A2 107 j) :
    ∀ (g r f f2 : Nat) (A9 A81 : Nat → Nat → Int32), r + g = m → (∀ c, c ≠ 67 → A9 c = A c) → (∀ c, c ≠ 108 → A81 c = A2 c) → g < f → g < f2 →
    lb_X10_firstHolding_60_45_2 n I A0 J t (nI d) f A9 (nI r) ∧ lb_X12_decides_68_81 n I2 A02 J2 t2 x1 x2 x3 (nI d) x5 x6 f2 A81 (nI r) ∧ (lp_X10_firstHolding_60_45_2 n I A0 J t (nI d) f A9 (nI r)).1 = (lp_X12_decides_68_81 n I2 A02 J2 t2 x1 x2 x3 (nI d) x5 x6 f2 A81 (nI r)).1 ∧ ((lp_X10_firstHolding_60_45_2 n I A0 J t (nI d) f A9 (nI r)).1 = -1 ∨ ∃ k, k < m ∧ (lp_X10_firstHolding_60_45_2 n I A0 J t (nI d) f A9 (nI r)).1 = nI k) := by
  have cv : (nI v).toNatClampNeg = v := nI_clamp (by omega)
  have vv : vp_in (nI v) 2 := vp_in_nI hv (by decide)
  intro g
  induction g with
  | zero =>
    intro r f f2 A9 A81 hk ha hb hf hf2
    obtain ⟨f, rfl⟩ : ∃ g, f = g + 1 := ⟨f - 1, by omega⟩
    obtain ⟨f2, rfl⟩ : ∃ g, f2 = g + 1 := ⟨f2 - 1, by omega⟩
    have c1 : nI m ≤ nI r := nI_le (by omega) (by omega)
    unfold lb_X10_firstHolding_60_45_2 lb_X12_decides_68_81 lp_X10_firstHolding_60_45_2 lp_X12_decides_68_81
    rw [h8, h18, cv, hb 76 (by decide), h76, if_pos c1, if_pos c1]
    exact ⟨fun z => absurd c1 z, ⟨vv, fun z => absurd c1 z⟩, rfl, Or.inl rfl⟩
  | succ g ih =>
    intro r f f2 A9 A81 hk ha hb hf hf2
    obtain ⟨f, rfl⟩ : ∃ g, f = g + 1 := ⟨f - 1, by omega⟩
    obtain ⟨f2, rfl⟩ : ∃ g, f2 = g + 1 := ⟨f2 - 1, by omega⟩
    obtain ⟨T1, T2, T3, T4, T5, T6, T7, T8, T9⟩ := id T
    have hr : r < m := by omega
    obtain ⟨U1, U2, U3, U4⟩ := T8 r hr
    have cr : (nI r).toNatClampNeg = r := nI_clamp (by omega)
    have vr : vp_in (nI r) 20 := vp_in_nI (by omega) (by decide)
    have c1 : ¬ nI m ≤ nI r := nI_ge hr (by omega)
    have e105 : q105_X12_decides_68 n I2 A02 J2 t2 x1 x2 x3 (nI d) x5 x6 A81 (nI r) = nI (20 * v + r) := by
      unfold q105_X12_decides_68
      have : (20 : Int32) = nI 20 := rfl
      rw [h18, this, pk_mul, nI_add]
    have c105 : (nI (20 * v + r)).toNatClampNeg = 20 * v + r := nI_clamp (by omega)
    have v105 : vp_in (nI (20 * v + r)) 40 := vp_in_nI (by omega) (by decide)
    have e154 : q154_X12_decides_68 n I2 A02 J2 t2 x1 x2 x3 (nI d) x5 x6 A81 (nI r) = nI (r + 1) := nI_1 r
    have e41 : q41_X10_firstHolding_60_45 n I A0 J t (nI d) A9 (nI r) = nI (r + 1) := nI_1 r
    have f1 : A9 62 r = A2 78 (20 * v + r) := by rw [ha 62 (by decide)]; exact U3
    have f78 : A81 78 (20 * v + r) = A2 78 (20 * v + r) := by rw [hb 78 (by decide)]
    have f79 : A81 79 (20 * v + r) = A2 79 (20 * v + r) := by rw [hb 79 (by decide)]
    have q01 : q r ≤ q (r + 1) := T3 _ _ (by omega) (by omega)
    have qm : q (r + 1) ≤ q m := T3 (r + 1) m (by omega) (Nat.le_refl _)
    have xq : x (q (r + 1)) ≤ x (q m) := T4 _ _ qm (Nat.le_refl _)
    have z0 : nI 0 = 0 := nI_0
    -- the rule's relations
    obtain ⟨H1, H2, H3⟩ := ty_hold60 (n := n) (I := I) (A0 := A9) (I2 := I2) (A02 := A81) (J := J) (J2 := J2) (t := t) (t2 := t2) hn hv hm hr h18 T hvar (q (r + 1) - q r) (q r) n n A9 A81 (by omega) (Nat.le_refl _) ha hb (by omega) (by omega)
    have st : qs0m3_X10_relsHold_60_45 n I A9 J t (nI r) = nI (x (q r) + q r) ∧ (¬ nI r = 0 → vp_in (nI r - 1) 20) := by
      unfold qs0m3_X10_relsHold_60_45
      by_cases w : r = 0
      · subst w
        rw [if_pos z0, T2, T1]
        exact ⟨rfl, fun y => absurd z0 y⟩
      · have w2 : ¬ nI r = 0 := fun y => w ((nI_eq (b := 0) (by omega) (by omega)).mp y)
        obtain ⟨s, rfl⟩ : ∃ s, r = s + 1 := ⟨r - 1, by omega⟩
        rw [if_neg w2, nI_pred, nI_clamp (by omega), ha 64 (by decide)]
        exact ⟨(T8 s (by omega)).1, fun _ => vp_in_nI (by omega) (by decide)⟩
    have pbc : pb_X10_relsHold_60_45 n I A9 J t (nI r) := by
      unfold pb_X10_relsHold_60_45
      rw [st.1]
      rw [z0] at H1
      exact ⟨st.2, H1⟩
    have e14 : q14_X12_holds_68 n I2 A81 J2 t2 (nI r) = nI (q r) ∧ vp_in (((21 : Int32) * (I2 68 18)) + nI r) 42 := by
      unfold q14_X12_holds_68
      have : (21 : Int32) = nI 21 := rfl
      rw [h18, this, pk_mul, nI_add, nI_clamp (by omega), hb 80 (by decide)]
      exact ⟨T7 r (by omega), vp_in_nI (by omega) (by decide)⟩
    have pbr : pb_X12_holds_68 n I2 A81 J2 t2 (nI r) := by
      unfold pb_X12_holds_68
      rw [e14.1]
      exact ⟨e14.2, H2⟩
    have eqh : px_X12_holds_68 n I2 A81 J2 t2 (nI r) = px_X10_relsHold_60_45 n I A9 J t (nI r) := by
      unfold px_X12_holds_68 px_X10_relsHold_60_45
      rw [e14.1, st.1, ← z0]
      exact H3.symm
    have ha2 : ∀ c, c ≠ 67 → pA_X10_relsHold_60_45 n I A9 J t (nI r) c = A c := fun c hc => by
      rw [fr_pA_X10_relsHold_60_45 (by simp [hc])]; exact ha c hc
    have hb2 : ∀ c, c ≠ 108 → pA_X12_holds_68 n I2 A81 J2 t2 (nI r) c = A2 c := fun c hc => by
      rw [fr_pA_X12_holds_68 (by simp [hc])]; exact hb c hc
    obtain ⟨i1, i2, i3, i4⟩ := ih (r + 1) f f2 A9 A81 (by omega) ha hb (by omega) (by omega)
    obtain ⟨j1, j2, j3, j4⟩ := ih (r + 1) f f2 (pA_X10_relsHold_60_45 n I A9 J t (nI r)) (pA_X12_holds_68 n I2 A81 J2 t2 (nI r)) (by omega) ha2 hb2 (by omega) (by omega)
    unfold lb_X10_firstHolding_60_45_2 lb_X12_decides_68_81 lp_X10_firstHolding_60_45_2 lp_X12_decides_68_81
    rw [h8, h18, cv, hb 76 (by decide), h76, if_neg c1, if_neg c1, e105, c105, e154, e41, cr, f1, f78, f79, eqh]
    by_cases w1 : nI d < A2 78 (20 * v + r)
    · rw [if_pos w1, if_pos w1]
      exact ⟨fun _ => ⟨vr, fun _ => i1, fun y => absurd w1 y⟩, ⟨vv, fun _ => ⟨v105, fun _ => i2, fun y => absurd w1 y⟩⟩, i3, i4⟩
    rw [if_neg w1, if_neg w1]
    have goon : (¬ A9 63 r ≤ nI d) → (if px_X10_relsHold_60_45 n I A9 J t (nI r) = 0 then lp_X10_firstHolding_60_45_2 n I A0 J t (nI d) f (pA_X10_relsHold_60_45 n I A9 J t (nI r)) (nI (r + 1)) else (nI r, pA_X10_relsHold_60_45 n I A9 J t (nI r))).1 = (if px_X10_relsHold_60_45 n I A9 J t (nI r) = 0 then lp_X12_decides_68_81 n I2 A02 J2 t2 x1 x2 x3 (nI d) x5 x6 f2 (pA_X12_holds_68 n I2 A81 J2 t2 (nI r)) (nI (r + 1)) else (nI r, pA_X12_holds_68 n I2 A81 J2 t2 (nI r))).1 ∧ ((if px_X10_relsHold_60_45 n I A9 J t (nI r) = 0 then lp_X10_firstHolding_60_45_2 n I A0 J t (nI d) f (pA_X10_relsHold_60_45 n I A9 J t (nI r)) (nI (r + 1)) else (nI r, pA_X10_relsHold_60_45 n I A9 J t (nI r))).1 = -1 ∨ ∃ k, k < m ∧ (if px_X10_relsHold_60_45 n I A9 J t (nI r) = 0 then lp_X10_firstHolding_60_45_2 n I A0 J t (nI d) f (pA_X10_relsHold_60_45 n I A9 J t (nI r)) (nI (r + 1)) else (nI r, pA_X10_relsHold_60_45 n I A9 J t (nI r))).1 = nI k) := fun _ => by
      by_cases w4 : px_X10_relsHold_60_45 n I A9 J t (nI r) = 0
      · rw [if_pos w4, if_pos w4]; exact ⟨j3, j4⟩
      · rw [if_neg w4, if_neg w4]; exact ⟨rfl, Or.inr ⟨r, hr, rfl⟩⟩
    rcases U4 with ⟨u1, u2⟩ | ⟨u1, u2⟩
    · have w2 : ¬ A9 63 r ≤ nI d := by
        have : A9 63 r = 10000 := by rw [ha 63 (by decide)]; exact u2
        rw [this]; exact nI_ge (b := 10000) (by omega) (by omega)
      rw [if_neg w2, if_pos u1]
      exact ⟨fun _ => ⟨vr, fun y => absurd y w1, fun _ => ⟨vr, fun y => absurd y w2, fun _ => ⟨pbc, fun _ => j1⟩⟩⟩, ⟨vv, fun _ => ⟨v105, fun y => absurd y w1, fun _ => ⟨v105, fun _ => ⟨pbr, fun _ => j2⟩, fun y => absurd u1 y⟩⟩⟩, goon w2⟩
    · have e3 : A9 63 r = A2 79 (20 * v + r) := by rw [ha 63 (by decide)]; exact u2
      rw [if_neg u1]
      by_cases w2 : A9 63 r ≤ nI d
      · rw [if_pos w2]
        have w3 : A2 79 (20 * v + r) ≤ nI d := by rw [← e3]; exact w2
        rw [if_pos w3]
        exact ⟨fun _ => ⟨vr, fun y => absurd y w1, fun _ => ⟨vr, fun _ => i1, fun y => absurd w2 y⟩⟩, ⟨vv, fun _ => ⟨v105, fun y => absurd y w1, fun _ => ⟨v105, fun y => absurd y u1, fun _ => ⟨v105, fun _ => i2, fun y => absurd w3 y⟩⟩⟩⟩, i3, i4⟩
      · have w3 : ¬ A2 79 (20 * v + r) ≤ nI d := by rw [← e3]; exact w2
        rw [if_neg w2, if_neg w3]
        exact ⟨fun _ => ⟨vr, fun y => absurd y w1, fun _ => ⟨vr, fun y => absurd y w2, fun _ => ⟨pbc, fun _ => j1⟩⟩⟩, ⟨vv, fun _ => ⟨v105, fun y => absurd y w1, fun _ => ⟨v105, fun y => absurd y u1, fun _ => ⟨v105, fun y => absurd y w3, fun _ => ⟨pbr, fun _ => j2⟩⟩⟩⟩⟩, goon w2⟩
/-- the rule that decides -/
theorem ty_decide60 {n : Nat} {I I2 A A2 : Nat → Nat → Int32} {J J2 : Nat → Nat → Int64} {t t2 : Bool × Bool} {i d f : Nat} {x2 x3 x5 : Int32} (hn : 500 ≤ n) (hd : d < 3600) (hi : i < 6) (hf : f < 300) (hT : rl_tr 60 I A I2 A2) (hms : rl_masts I A I2 A2) (hfa : rl_fact A A2 f) :
    pb_X11_decidingRule_0_tFx n I A J t (nI i) x2 x3 (nI d) x5 (nI f) ∧ pb_X12_decides_68 n I2 A2 J2 t2 (nI i) x2 x3 (nI d) x5 (nI f) ∧ px_X12_decides_68 n I2 A2 J2 t2 (nI i) x2 x3 (nI d) x5 (nI f) = px_X11_decidingRule_0_tFx n I A J t (nI i) x2 x3 (nI d) x5 (nI f) ∧ (px_X11_decidingRule_0_tFx n I A J t (nI i) x2 x3 (nI d) x5 (nI f) = -1 ∨ ∃ k, nI k < I 60 8 ∧ k < 20 ∧ px_X11_decidingRule_0_tFx n I A J t (nI i) x2 x3 (nI d) x5 (nI f) = nI k) := by
  obtain ⟨v, m, hv, hm, h18, h8, h76, x, q, T⟩ := hT
  obtain ⟨m1, m2, -, -⟩ := hms.2 i hi
  obtain ⟨g1, -, -, g4, -⟩ := hfa
  have ci : (nI i).toNatClampNeg = i := nI_clamp (by omega)
  have cf : (nI f).toNatClampNeg = f := nI_clamp (by omega)
  have vi : vp_in (nI i) 6 := vp_in_nI hi (by decide)
  have vf : vp_in (nI f) 300 := vp_in_nI hf (by decide)
  have k0 : ((0 : Int32)).toNatClampNeg = 0 := by decide
  have k1 : ((1 : Int32)).toNatClampNeg = 1 := by decide
  have k2 : ((2 : Int32)).toNatClampNeg = 2 := by decide
  have k3 : ((3 : Int32)).toNatClampNeg = 3 := by decide
  have k4 : ((4 : Int32)).toNatClampNeg = 4 := by decide
  have k5 : ((5 : Int32)).toNatClampNeg = 5 := by decide
  have k6 : ((6 : Int32)).toNatClampNeg = 6 := by decide
  have k7 : ((7 : Int32)).toNatClampNeg = 7 := by decide
  have w8 : ∀ k : Nat, k < 8 → vp_in (nI k) 8 := fun k hk => vp_in_nI hk (by decide)
  have EA : qA83_X11_decidingRule_0_tFx n I A J t (nI i) x2 x3 (nI d) x5 (nI f) = cw_u (cw_u (cw_u (cw_u (cw_u (cw_u (cw_u (cw_u A 45 0 x2) 45 1 x5) 45 2 (nI d)) 45 3 x3) 45 4 (A 21 f)) 45 5 (A 11 i)) 45 6 (A 25 f)) 45 7 (nI f) := by
    unfold qA83_X11_decidingRule_0_tFx qA74_X11_decidingRule_0_tFx qA58_X11_decidingRule_0_tFx qA44_X11_decidingRule_0_tFx qA29_X11_decidingRule_0_tFx qA22_X11_decidingRule_0_tFx qA14_X11_decidingRule_0_tFx qA6_X11_decidingRule_0_tFx px_X1_landOf_19 px_X2_powerOf_9 px_X1_dayOf_19
    rw [k0, k1, k2, k3, k4, k5, k6, k7, ci, cf]
    simp only [cw_u_c _ _ (show (21 : Nat) ≠ 45 by decide), cw_u_c _ _ (show (11 : Nat) ≠ 45 by decide), cw_u_c _ _ (show (25 : Nat) ≠ 45 by decide)]
  have EB : qA77_X12_decides_68 n I2 A2 J2 t2 (nI i) x2 x3 (nI d) x5 (nI f) = cw_u (cw_u (cw_u (cw_u (cw_u (cw_u (cw_u (cw_u A2 107 0 x2) 107 1 x5) 107 2 (nI d)) 107 3 x3) 107 4 (A 21 f)) 107 5 (A 11 i)) 107 6 (A 25 f)) 107 7 (nI f) := by
    unfold qA77_X12_decides_68 qA68_X12_decides_68 qA54_X12_decides_68 qA42_X12_decides_68 qA29_X12_decides_68 qA22_X12_decides_68 qA14_X12_decides_68 qA6_X12_decides_68
    rw [k0, k1, k2, k3, k4, k5, k6, k7, ci, cf]
    simp only [cw_u_c _ _ (show (102 : Nat) ≠ 107 by decide), cw_u_c _ _ (show (93 : Nat) ≠ 107 by decide), cw_u_c _ _ (show (100 : Nat) ≠ 107 by decide)]
    rw [g1, g4, m2]
  have ca : ∀ c, c ≠ 45 → qA83_X11_decidingRule_0_tFx n I A J t (nI i) x2 x3 (nI d) x5 (nI f) c = A c := fun c hc => fr_qA83_X11_decidingRule_0_tFx (by simp [hc])
  have cb : ∀ c, c ≠ 107 → qA77_X12_decides_68 n I2 A2 J2 t2 (nI i) x2 x3 (nI d) x5 (nI f) c = A2 c := fun c hc => fr_qA77_X12_decides_68 (by simp [hc])
  have T' : ty_at 60 v m x q (qA83_X11_decidingRule_0_tFx n I A J t (nI i) x2 x3 (nI d) x5 (nI f)) (qA77_X12_decides_68 n I2 A2 J2 t2 (nI i) x2 x3 (nI d) x5 (nI f)) := rc_at T (ca _ (by decide)) (ca _ (by decide)) (ca _ (by decide)) (ca _ (by decide)) (ca _ (by decide)) (ca _ (by decide)) (cb _ (by decide)) (cb _ (by decide)) (cb _ (by decide)) (cb _ (by decide)) (cb _ (by decide)) (cb _ (by decide)) (cb _ (by decide)) (cb _ (by decide)) (cb _ (by decide)) (cb _ (by decide))
  obtain ⟨F1, F2, F3, F4⟩ := ty_first60 (n := n) (I := I) (A0 := qA83_X11_decidingRule_0_tFx n I A J t (nI i) x2 x3 (nI d) x5 (nI f)) (I2 := I2) (A02 := A2) (J := J) (J2 := J2) (t := (false, t.2)) (t2 := t2) (x1 := nI i) (x2 := x2) (x3 := x3) (x5 := x5) (x6 := nI f) hn hv hm hd h18 h8 (by rw [cb 76 (by decide)]; exact h76) T' (by rw [EA, EB]; exact ty_vars) m 0 n n _ _ (by omega) (fun _ _ => rfl) (fun _ _ => rfl) (by omega) (by omega)
  refine ⟨⟨w8 0 (by omega), w8 1 (by omega), w8 2 (by omega), w8 3 (by omega), vf, w8 4 (by omega), vi, w8 5 (by omega), vf, w8 6 (by omega), w8 7 (by omega), F1⟩, ⟨w8 0 (by omega), w8 1 (by omega), w8 2 (by omega), w8 3 (by omega), vf, w8 4 (by omega), vi, w8 5 (by omega), vf, w8 6 (by omega), w8 7 (by omega), F2⟩, F3.symm, ?_⟩
  rcases F4 with F4 | ⟨k, hk, F4⟩
  · exact Or.inl F4
  · exact Or.inr ⟨k, by rw [h8]; exact nI_lt hk (by omega), by omega, F4⟩
