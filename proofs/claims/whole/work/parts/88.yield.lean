/-! clashes, yields, rule -/
theorem nc_next {N B : Nat → Int32} {b m : Nat} : ∀ (g f : Nat), f + g = m → rl_nc N B b f < rl_nc N B b m → ∃ k, f ≤ k ∧ k < m ∧ N k = 1 ∧ B k = nI b ∧ rl_nc N B b k = rl_nc N B b f := by
  intro g
  induction g with
  | zero =>
    intro f h1 h2
    have : f = m := by omega
    subst this
    exact absurd h2 (Nat.lt_irrefl _)
  | succ g ih =>
    intro f h1 h2
    by_cases c : N f = 1 ∧ B f = nI b
    · exact ⟨f, Nat.le_refl _, by omega, c.1, c.2, rfl⟩
    · have e : rl_nc N B b (f + 1) = rl_nc N B b f := by
        conv => lhs; unfold rl_nc
        rw [if_neg c]; rfl
      obtain ⟨k, k1, k2, k3, k4, k5⟩ := ih (f + 1) (by omega) (by rw [e]; exact h2)
      exact ⟨k, by omega, k2, k3, k4, by rw [k5, e]⟩
section Clash
variable {n : Nat} {I A I2 A2 : Nat → Nat → Int32} {J J2 : Nat → Nat → Int64} {t t2 : Bool × Bool}
theorem cl_pb {f l : Nat} {x1 x3 x4 : Int32} (hf : f < 300) (l8 : l < 8) (hfa : rl_fact A A2 f) : pb_X12_clashes_68 n I2 A2 J2 t2 x1 (nI l) x3 x4 (nI f) := by
  have cf : (nI f).toNatClampNeg = f := nI_clamp (by omega)
  have vf : vp_in (nI f) 300 := vp_in_nI hf (by decide)
  obtain ⟨g1, g2, g3, g4, g5, -⟩ := hfa
  obtain ⟨k, hk, ek⟩ := vp_in_of g5 (by decide)
  unfold pb_X12_clashes_68
  rw [cf, ← g1, ek]
  exact ⟨vf, fun _ => ⟨vf, fun _ => ⟨vf, fun _ => ⟨vf, fun _ => ⟨vf, fun _ => ⟨vf, gw_goesb (by omega) (by omega)⟩⟩⟩⟩⟩⟩
theorem cl_no {f : Nat} {x1 x2 x3 x4 : Int32} (hf : f < 300) (h : ¬ (A2 99 f = 1 ∧ A2 103 f = x1)) (h01 : A2 99 f = 1 ∨ A2 99 f = 0) : px_X12_clashes_68 n I2 A2 J2 t2 x1 x2 x3 x4 (nI f) = 0 := by
  have cf : (nI f).toNatClampNeg = f := nI_clamp (by omega)
  unfold px_X12_clashes_68
  rw [cf]
  rcases h01 with q | q
  · have : ¬ A2 103 f = x1 := fun w => h ⟨q, w⟩
    rw [q, if_neg (by decide), if_neg this]
    split <;> rfl
  · rw [if_pos q]
theorem cl_eq {f l : Nat} {x1 x3 x4 : Int32} (hf : f < 300) (l8 : l < 8) (hl : rl_lands I A I2 A2) (hfa : rl_fact A A2 f) (nt : A2 99 f = 1) :
    pb_X11_clashes_0 n I A J t (nI f) x1 (nI l) x3 x4 ∧ px_X12_clashes_68 n I2 A2 J2 t2 x1 (nI l) x3 x4 (nI f) = px_X11_clashes_0 n I A J t (nI f) x1 (nI l) x3 x4 := by
  have cf : (nI f).toNatClampNeg = f := nI_clamp (by omega)
  have vf : vp_in (nI f) 300 := vp_in_nI hf (by decide)
  obtain ⟨g1, g2, g3, g4, g5, g6, g7, g8, g9⟩ := hfa
  have g9' : A 24 f = A2 105 f := by
    rcases g9 with g | g
    · exact g.2.2
    · exact absurd (nt.symm.trans g.1) (by decide)
  obtain ⟨k, hk, ek⟩ := vp_in_of g5 (by decide)
  obtain ⟨w1, w2⟩ := gw_1 (n := n) (J := J) (t := t) (J2 := J2) (t2 := t2) hl l8 hk
  have o1 : ¬ (1 : Int32) = 0 := by decide
  unfold pb_X11_clashes_0 px_X12_clashes_68 px_X11_clashes_0 qs0m13_X11_clashes_0 qs0m36_X11_clashes_0 qs0m74_X12_clashes_68 pb_X1_holdsAt_19 px_X1_holdsAt_19 qs0m7_X1_holdsAt_19 qs0m17_X1_holdsAt_19 qs0m28_X1_holdsAt_19 qs0m39_X1_holdsAt_19 pb_X1_landOf_19 px_X1_landOf_19
  rw [cf, nt, if_neg o1, g2, g3, g4, g9', ← g1, ek, w1 A2 J2 t2]
  refine ⟨⟨⟨vf, fun _ => ⟨vf, fun _ => ⟨vf, fun _ => vf⟩⟩⟩, fun _ => ⟨vf, w2⟩⟩, ?_⟩
  by_cases c1 : A2 103 f = x1
  · rw [if_pos c1, if_pos c1]
    by_cases c2 : x3 < A2 100 f
    · rw [if_pos c2, if_pos c2, if_pos rfl]
    · rw [if_neg c2, if_neg c2]
      by_cases c3 : x4 < A2 104 f
      · rw [if_pos c3, if_pos c3, if_pos rfl]
      · rw [if_neg c3, if_neg c3]
        by_cases c4 : x4 < A2 105 f
        · rw [if_pos c4, if_neg (Int32.not_le.mpr c4), if_neg o1]
        · rw [if_neg c4, if_pos (Int32.not_lt.mp c4), if_pos rfl]
  · rw [if_neg c1, if_neg c1, if_pos rfl]
    split <;> rfl
end Clash
theorem ty_we37 {n v : Nat} {I A I2 A2 : Nat → Nat → Int32} {J : Nat → Nat → Int64} {t : Bool × Bool} {r : Int32} (hT : rl_tr 37 I A I2 A2) (h18 : I2 68 18 = nI v) (hv : v < 2) (hr : r = -1 ∨ ∃ k, nI k < I 37 8 ∧ k < 20 ∧ r = nI k) :
    pb_X10_weYieldBy_37 n I A J t r ∧ (r = -1 → ¬ px_X10_weYieldBy_37 n I A J t r = 0) ∧ (¬ r = -1 → vp_in ((20 : Int32) * nI v + r) 40 ∧ (px_X10_weYieldBy_37 n I A J t r = 0 ↔ A2 77 ((20 : Int32) * nI v + r).toNatClampNeg = 0)) := by
  obtain ⟨v', m, hv', hm, h18', h8, h76, x, q, T⟩ := hT
  have ev : v' = v := (nI_eq (by omega) (by omega)).mp (h18'.symm.trans h18)
  subst ev
  have o1 : ¬ (1 : Int32) = 0 := by decide
  unfold pb_X10_weYieldBy_37 px_X10_weYieldBy_37 qs0m1_X10_weYieldBy_37 qs0m9_X10_weYieldBy_37 qs0m18_X10_weYieldBy_37
  rcases hr with rfl | ⟨k, hk, hk2, rfl⟩
  · have c : (-1 : Int32) < 0 := by decide
    rw [if_pos c]
    exact ⟨fun z => absurd c z, fun _ => o1, fun z => absurd rfl z⟩
  · have c : ¬ nI k < 0 := nI_pos (by omega)
    have c2 : ¬ I 37 8 ≤ nI k := Int32.not_le.mpr hk
    have hkm : k < m := by
      rw [h8] at hk
      exact (nI_ltI (by omega) (by omega)).mp hk
    have ck : (nI k).toNatClampNeg = k := nI_clamp (by omega)
    have e : (20 : Int32) * nI v' + nI k = nI (20 * v' + k) := by
      have : (20 : Int32) = nI 20 := rfl
      rw [this, pk_mul, nI_add]
    obtain ⟨-, -, -, -, -, -, -, T8, -⟩ := T
    obtain ⟨-, U2, -⟩ := T8 k hkm
    have nk : ¬ nI k = -1 := fun z => by
      have := tI_eq.mp z
      rw [tI_nI (by omega)] at this
      have a1 : (-1 : Int32).toInt = -1 := rfl
      omega
    rw [if_neg c, if_neg c2, ck, e, nI_clamp (by omega)]
    refine ⟨fun _ _ => vp_in_nI hk2 (by decide), fun z => absurd z nk, fun _ => ⟨vp_in_nI (by omega) (by decide), ?_⟩⟩
    rcases U2 with ⟨u1, u2⟩ | ⟨u1, u2⟩
    · have u2' : A 38 k = 0 := u2
      rw [u1, u2', if_pos rfl]
    · have u2' : A 38 k = 1 := u2
      rw [u1, u2', if_neg o1]
/-- to whom a sending yields: the class's notices of the band against the reference's facts -/
theorem ty_yield37 {n : Nat} {I A I2 A2 A0 I02 A02 : Nat → Nat → Int32} {J J2 : Nat → Nat → Int64} {t t2 : Bool × Bool} {N m b i l d : Nat} {x5 : Int32} (hn : 500 ≤ n) (hl : rl_lands I A I2 A2) (hms : rl_masts I A I2 A2) (hT : rl_tr 37 I A I2 A2) (hfr : ∀ f, f < 300 → rl_fact A A2 f) (hm : m ≤ 300) (hN : N ≤ m) (b6 : b < 6) (i6 : i < 6) (l8 : l < 8) (hd : d < 3600)
    (h28 : A 28 b = nI (rl_nc (A2 99) (A2 103) b m)) (h27 : ∀ f, f < m → A2 99 f = 1 → A2 103 f = nI b → A 27 (300 * b + rl_nc (A2 99) (A2 103) b f) = nI f) :
    ∀ (g f F F2 : Nat) (A3 I3 B3 : Nat → Nat → Int32), f + g = N → (∀ c, c ≠ 45 → c ≠ 44 → A3 c = A c) → lr_aI I2 I3 → (∀ c, c ≠ 107 → c ≠ 108 → B3 c = A2 c) → rl_nc (A2 99) (A2 103) b m - rl_nc (A2 99) (A2 103) b f < F → g < F2 →
    lb_X11_firstYield_0_tTx_3 n I A0 J t (nI i) (nI b) (nI l) (nI d) x5 (nI N) F A3 (nI (rl_nc (A2 99) (A2 103) b f)) ∧ lb_X12_yieldsTo_68_3 n I02 A02 J2 t2 (nI i) (nI b) (nI l) (nI d) x5 (nI N) F2 I3 B3 (nI f) ∧ (lp_X11_firstYield_0_tTx_3 n I A0 J t (nI i) (nI b) (nI l) (nI d) x5 (nI N) F A3 (nI (rl_nc (A2 99) (A2 103) b f))).1 = (lp_X12_yieldsTo_68_3 n I02 A02 J2 t2 (nI i) (nI b) (nI l) (nI d) x5 (nI N) F2 I3 B3 (nI f)).1 := by
  have cb : (nI b).toNatClampNeg = b := nI_clamp (by omega)
  have vb : vp_in (nI b) 6 := vp_in_nI b6 (by decide)
  have ncm := rl_nc_le (A2 99) (A2 103) b m
  have ix : ∀ c : Nat, nI b * 300 + nI c = nI (300 * b + c) := fun c => by
    have : (300 : Int32) = nI 300 := rfl
    rw [this, pk_mul, nI_add, Nat.mul_comm]
  obtain ⟨v, hv, h18⟩ : ∃ v, v < 2 ∧ I2 68 18 = nI v := by
    obtain ⟨v, m', hv, -, h18, -⟩ := id hT
    exact ⟨v, hv, h18⟩
  have o1 : ¬ (1 : Int32) = 0 := by decide
  intro g
  induction g with
  | zero =>
    intro f F F2 A3 I3 B3 hf ha hI hb hF hF2
    obtain ⟨F, rfl⟩ : ∃ g, F = g + 1 := ⟨F - 1, by omega⟩
    obtain ⟨F2, rfl⟩ : ∃ g, F2 = g + 1 := ⟨F2 - 1, by omega⟩
    have hfN : f = N := by omega
    subst hfN
    have c2 : nI f ≤ nI f := nI_le (Nat.le_refl _) (by omega)
    have nf := rl_nc_le (A2 99) (A2 103) b f
    have e28 : px_X1_noticesOn_19 n I A3 J (true, t.2) (nI b) = nI (rl_nc (A2 99) (A2 103) b m) := by
      unfold px_X1_noticesOn_19
      rw [cb, ha 28 (by decide) (by decide), h28]
    unfold lb_X11_firstYield_0_tTx_3 lb_X12_yieldsTo_68_3 lp_X11_firstYield_0_tTx_3 lp_X12_yieldsTo_68_3
    rw [e28, if_pos c2]
    by_cases c1 : rl_nc (A2 99) (A2 103) b m ≤ rl_nc (A2 99) (A2 103) b f
    · have c1' := nI_le c1 (by omega)
      rw [if_pos c1']
      exact ⟨⟨vb, fun z => absurd c1' z⟩, fun z => absurd c2 z, rfl⟩
    · have c1' : ¬ nI (rl_nc (A2 99) (A2 103) b m) ≤ nI (rl_nc (A2 99) (A2 103) b f) := nI_ge (by omega) (by omega)
      obtain ⟨k, k1, k2, k3, k4, k5⟩ := nc_next (m - f) f (by omega) (Nat.lt_of_not_le c1)
      have e26 : q26_X11_firstYield_0_tTx n I A0 J t (nI i) (nI b) (nI l) (nI d) x5 (nI f) A3 (nI (rl_nc (A2 99) (A2 103) b f)) = nI k := by
        unfold q26_X11_firstYield_0_tTx px_X1_noticeOn_19
        rw [ix, nI_clamp (by omega), ha 27 (by decide) (by decide), ← k5]
        exact h27 k k2 k3 k4
      have c3 : ¬ nI k < nI f := nI_nlt k1 (by omega)
      rw [if_neg c1', e26, if_neg c3]
      exact ⟨⟨vb, fun _ => ⟨by unfold pb_X1_noticeOn_19; rw [ix]; exact vp_in_nI (by omega) (by decide), fun z => absurd z c3⟩⟩, fun z => absurd c2 z, rfl⟩
  | succ g ih =>
    intro f F F2 A3 I3 B3 hf ha hI hb hF hF2
    obtain ⟨F2, rfl⟩ : ∃ g, F2 = g + 1 := ⟨F2 - 1, by omega⟩
    have c2 : ¬ nI N ≤ nI f := nI_ge (by omega) (by omega)
    have nf := rl_nc_le (A2 99) (A2 103) b f
    have hfa : rl_fact A3 B3 f := by
      have := hfr f (by omega)
      unfold rl_fact at this ⊢
      rw [ha 20 (by decide) (by decide), ha 21 (by decide) (by decide), ha 22 (by decide) (by decide), ha 23 (by decide) (by decide), ha 24 (by decide) (by decide), ha 25 (by decide) (by decide), ha 26 (by decide) (by decide), hb 99 (by decide) (by decide), hb 100 (by decide) (by decide), hb 101 (by decide) (by decide), hb 102 (by decide) (by decide), hb 103 (by decide) (by decide), hb 104 (by decide) (by decide), hb 105 (by decide) (by decide), hb 106 (by decide) (by decide)]
      exact this
    have hl3 : rl_lands I A3 I3 B3 := rc_lands hl rfl (hI 35 (by decide) (by decide) (by decide)) (ha 2 (by decide) (by decide)) (ha 3 (by decide) (by decide)) (ha 4 (by decide) (by decide)) (hb 89 (by decide) (by decide)) (hb 90 (by decide) (by decide)) (hb 91 (by decide) (by decide))
    have hI' : lr_aI I2 (pI_X12_clashes_68 n I3 B3 J2 t2 (nI b) (nI l) (nI d) x5 (nI f)) := fun k h1 h2 h3 => by
      rw [fr_pI_X12_clashes_68 (by simp; omega)]
      exact hI k h1 h2 h3
    have pbc := cl_pb (n := n) (I2 := I3) (J2 := J2) (t2 := t2) (x1 := nI b) (x3 := nI d) (x4 := x5) (f := f) (by omega) l8 hfa
    have e70 : q70_X12_yieldsTo_68 n I02 A02 J2 t2 (nI i) (nI b) (nI l) (nI d) x5 (nI N) I3 B3 (nI f) = nI (f + 1) := nI_1 f
    have b99 : B3 99 f = A2 99 f := by rw [hb 99 (by decide) (by decide)]
    have b103 : B3 103 f = A2 103 f := by rw [hb 103 (by decide) (by decide)]
    by_cases nt : A2 99 f = 1 ∧ A2 103 f = nI b
    · have s1 : rl_nc (A2 99) (A2 103) b (f + 1) = rl_nc (A2 99) (A2 103) b f + 1 := by
        conv => lhs; unfold rl_nc
        rw [if_pos nt]
      have s2 := rl_nc_mono (A2 99) (A2 103) b (j := f + 1) (k := m) (by omega)
      obtain ⟨F, rfl⟩ : ∃ g, F = g + 1 := ⟨F - 1, by omega⟩
      have c1 : ¬ nI (rl_nc (A2 99) (A2 103) b m) ≤ nI (rl_nc (A2 99) (A2 103) b f) := nI_ge (by omega) (by omega)
      have e28 : px_X1_noticesOn_19 n I A3 J (true, t.2) (nI b) = nI (rl_nc (A2 99) (A2 103) b m) := by
        unfold px_X1_noticesOn_19
        rw [cb, ha 28 (by decide) (by decide), h28]
      have e26 : q26_X11_firstYield_0_tTx n I A0 J t (nI i) (nI b) (nI l) (nI d) x5 (nI N) A3 (nI (rl_nc (A2 99) (A2 103) b f)) = nI f := by
        unfold q26_X11_firstYield_0_tTx px_X1_noticeOn_19
        rw [ix, nI_clamp (by omega), ha 27 (by decide) (by decide)]
        exact h27 f (by omega) nt.1 nt.2
      have pbn : pb_X1_noticeOn_19 n I A3 J (true, t.2) (nI b) (nI (rl_nc (A2 99) (A2 103) b f)) := by
        unfold pb_X1_noticeOn_19
        rw [ix]; exact vp_in_nI (by omega) (by decide)
      have c3 : nI f < nI N := nI_lt (by omega) (by omega)
      have e78 : q78_X11_firstYield_0_tTx n I A0 J t (nI i) (nI b) (nI l) (nI d) x5 (nI N) A3 (nI (rl_nc (A2 99) (A2 103) b f)) = nI (rl_nc (A2 99) (A2 103) b (f + 1)) := by
        rw [s1]; exact nI_1 _
      obtain ⟨k1, k2⟩ := cl_eq (n := n) (J := J) (t := (true, t.2)) (J2 := J2) (t2 := t2) (x1 := nI b) (x3 := nI d) (x4 := x5) (f := f) (by omega) l8 hl3 hfa (by rw [b99]; exact nt.1)
      by_cases c4 : px_X11_clashes_0 n I A3 J (true, t.2) (nI f) (nI b) (nI l) (nI d) x5 = 0
      · obtain ⟨i1, i2, i3⟩ := ih (f + 1) F F2 A3 _ B3 (by omega) ha hI' hb (by omega) (by omega)
        have c4' : px_X12_clashes_68 n I3 B3 J2 t2 (nI b) (nI l) (nI d) x5 (nI f) = 0 := k2.trans c4
        unfold lb_X11_firstYield_0_tTx_3 lb_X12_yieldsTo_68_3 lp_X11_firstYield_0_tTx_3 lp_X12_yieldsTo_68_3
        rw [e28, if_neg c1, e26, if_pos c3, if_pos c4, e78, if_neg c2, if_pos c4', e70]
        exact ⟨⟨vb, fun _ => ⟨pbn, fun _ => ⟨k1, fun _ => i1, fun z => absurd c4 z⟩⟩⟩, fun _ => ⟨pbc, fun z => absurd c4' z, fun _ => i2⟩, i3⟩
      · have c4' : ¬ px_X12_clashes_68 n I3 B3 J2 t2 (nI b) (nI l) (nI d) x5 (nI f) = 0 := fun z => c4 (k2.symm.trans z)
        have hT3 : rl_tr 37 I A3 (pI_X12_clashes_68 n I3 B3 J2 t2 (nI b) (nI l) (nI d) x5 (nI f)) B3 := rc_tr hT rfl (hI' 18 (by decide) (by decide) (by decide)) (ha _ (by decide) (by decide)) (ha _ (by decide) (by decide)) (ha _ (by decide) (by decide)) (ha _ (by decide) (by decide)) (ha _ (by decide) (by decide)) (ha _ (by decide) (by decide)) (hb _ (by decide) (by decide)) (hb _ (by decide) (by decide)) (hb _ (by decide) (by decide)) (hb _ (by decide) (by decide)) (hb _ (by decide) (by decide)) (hb _ (by decide) (by decide)) (hb _ (by decide) (by decide)) (hb _ (by decide) (by decide)) (hb _ (by decide) (by decide)) (hb _ (by decide) (by decide)) (hb _ (by decide) (by decide))
        have hms3 : rl_masts I A3 (pI_X12_clashes_68 n I3 B3 J2 t2 (nI b) (nI l) (nI d) x5 (nI f)) B3 := rc_masts hms rfl (hI' 40 (by decide) (by decide) (by decide)) (ha _ (by decide) (by decide)) (ha _ (by decide) (by decide)) (hb _ (by decide) (by decide)) (hb _ (by decide) (by decide))
        obtain ⟨D1, D2, D3, D4⟩ := ty_decide37 (n := n) (I2 := pI_X12_clashes_68 n I3 B3 J2 t2 (nI b) (nI l) (nI d) x5 (nI f)) (J := J) (J2 := J2) (t := (true, t.2)) (t2 := t2) (x2 := nI b) (x3 := nI l) (x5 := x5) hn hd i6 (by omega) hT3 hms3 hfa
        have e41 : q41_X12_yieldsTo_68 n I02 A02 J2 t2 (nI i) (nI b) (nI l) (nI d) x5 (nI N) I3 B3 (nI f) = px_X11_decidingRule_0_tTx n I A3 J (true, t.2) (nI i) (nI b) (nI l) (nI d) x5 (nI f) := D3
        have ha' : ∀ c, c ≠ 45 → c ≠ 44 → pA_X11_decidingRule_0_tTx n I A3 J (true, t.2) (nI i) (nI b) (nI l) (nI d) x5 (nI f) c = A c := fun c h1 h2 => by
          rw [fr_pA_X11_decidingRule_0_tTx (by simp [h1, h2])]; exact ha c h1 h2
        have hb' : ∀ c, c ≠ 107 → c ≠ 108 → pA_X12_decides_68 n (pI_X12_clashes_68 n I3 B3 J2 t2 (nI b) (nI l) (nI d) x5 (nI f)) B3 J2 t2 (nI i) (nI b) (nI l) (nI d) x5 (nI f) c = A2 c := fun c h1 h2 => by
          rw [fr_pA_X12_decides_68 (by simp [h1, h2])]; exact hb c h1 h2
        have hT4 : rl_tr 37 I (pA_X11_decidingRule_0_tTx n I A3 J (true, t.2) (nI i) (nI b) (nI l) (nI d) x5 (nI f)) I2 A2 := rc_tr hT rfl rfl (ha' _ (by decide) (by decide)) (ha' _ (by decide) (by decide)) (ha' _ (by decide) (by decide)) (ha' _ (by decide) (by decide)) (ha' _ (by decide) (by decide)) (ha' _ (by decide) (by decide)) rfl rfl rfl rfl rfl rfl rfl rfl rfl rfl rfl
        obtain ⟨W1, W2, W3⟩ := ty_we37 (n := n) (J := J) (t := (true, t.2)) hT4 h18 hv D4
        have e18 : pI_X12_clashes_68 n I3 B3 J2 t2 (nI b) (nI l) (nI d) x5 (nI f) 68 18 = nI v := by rw [hI' 18 (by decide) (by decide) (by decide), h18]
        have e77 : pA_X12_decides_68 n (pI_X12_clashes_68 n I3 B3 J2 t2 (nI b) (nI l) (nI d) x5 (nI f)) B3 J2 t2 (nI i) (nI b) (nI l) (nI d) x5 (nI f) 77 = A2 77 := hb' 77 (by decide) (by decide)
        obtain ⟨i1, i2, i3⟩ := ih (f + 1) F F2 _ _ _ (by omega) ha' hI' hb' (by omega) (by omega)
        unfold lb_X11_firstYield_0_tTx_3 lb_X12_yieldsTo_68_3 lp_X11_firstYield_0_tTx_3 lp_X12_yieldsTo_68_3
        rw [e28, if_neg c1, e26, if_pos c3, if_neg c4, e78, if_neg c2, if_neg c4', e70, e41, e18, e77]
        refine ⟨⟨vb, fun _ => ⟨pbn, fun _ => ⟨k1, fun z => absurd z c4, fun _ => ⟨D1, W1, fun _ => i1⟩⟩⟩⟩, fun _ => ⟨pbc, fun _ => ⟨D2, fun z => ⟨(W3 z).1, fun _ => i2⟩⟩, fun z => absurd z c4'⟩, ?_⟩
        by_cases c5 : px_X11_decidingRule_0_tTx n I A3 J (true, t.2) (nI i) (nI b) (nI l) (nI d) x5 (nI f) = -1
        · rw [if_neg (W2 c5), if_pos c5]
        · rw [if_neg c5]
          have W := (W3 c5).2
          by_cases c6 : px_X10_weYieldBy_37 n I (pA_X11_decidingRule_0_tTx n I A3 J (true, t.2) (nI i) (nI b) (nI l) (nI d) x5 (nI f)) J (true, t.2) (px_X11_decidingRule_0_tTx n I A3 J (true, t.2) (nI i) (nI b) (nI l) (nI d) x5 (nI f)) = 0
          · rw [if_pos c6, if_pos (W.mp c6)]
            exact i3
          · rw [if_neg c6, if_neg (fun z => c6 (W.mpr z))]
    · have s1 : rl_nc (A2 99) (A2 103) b (f + 1) = rl_nc (A2 99) (A2 103) b f := by
        conv => lhs; unfold rl_nc
        rw [if_neg nt]; rfl
      have h01 : B3 99 f = 1 ∨ B3 99 f = 0 := by
        rcases hfa.2.2.2.2.2.2.2.2 with z | z
        · exact Or.inl z.1
        · exact Or.inr z.1
      have c4 : px_X12_clashes_68 n I3 B3 J2 t2 (nI b) (nI l) (nI d) x5 (nI f) = 0 := cl_no (by omega) (by rw [b99, b103]; exact nt) h01
      obtain ⟨i1, i2, i3⟩ := ih (f + 1) F F2 A3 _ B3 (by omega) ha hI' hb (by omega) (by omega)
      rw [s1] at i1 i3
      refine ⟨i1, ?_, ?_⟩
      · unfold lb_X12_yieldsTo_68_3
        rw [e70]
        exact fun _ => ⟨pbc, fun z => absurd c4 z, fun _ => i2⟩
      · rw [i3]
        conv => rhs; unfold lp_X12_yieldsTo_68_3
        rw [if_neg c2, if_pos c4, e70]
/-- the first that a sending yields to -/
theorem ty_fy37 {n : Nat} {I A I2 A2 : Nat → Nat → Int32} {J J2 : Nat → Nat → Int64} {t t2 : Bool × Bool} {N m b i l d : Nat} {x5 : Int32} (hn : 500 ≤ n) (hl : rl_lands I A I2 A2) (hms : rl_masts I A I2 A2) (hT : rl_tr 37 I A I2 A2) (hf : rl_facts I A I2 A2) (h19 : I 19 9 = nI m) (hm : m ≤ 300) (hN : N ≤ m) (b6 : b < 6) (i6 : i < 6) (l8 : l < 8) (hd : d < 3600) :
    pb_X11_firstYield_0_tTx n I A J t (nI i) (nI b) (nI l) (nI d) x5 (nI N) ∧ pb_X12_yieldsTo_68 n I2 A2 J2 t2 (nI i) (nI b) (nI l) (nI d) x5 (nI N) ∧ px_X12_yieldsTo_68 n I2 A2 J2 t2 (nI i) (nI b) (nI l) (nI d) x5 (nI N) = px_X11_firstYield_0_tTx n I A J t (nI i) (nI b) (nI l) (nI d) x5 (nI N) := by
  obtain ⟨⟨m', hm', h1, h2, h3⟩, hfr⟩ := hf
  have em : m' = m := (nI_eq (by omega) (by omega)).mp (h1.symm.trans h19)
  subst em
  have ncm := rl_nc_le (A2 99) (A2 103) b m'
  obtain ⟨r1, r2, r3⟩ := ty_yield37 (n := n) (A0 := A) (I02 := I2) (A02 := A2) (J := J) (J2 := J2) (t := t) (t2 := t2) (x5 := x5) hn hl hms hT hfr hm hN b6 i6 l8 hd (h3 b b6).1 (fun f hf q1 q2 => (h3 b b6).2 f hf q1 q2) N 0 n n A I2 A2 (by omega) (fun _ _ _ => rfl) (fun _ _ _ _ => rfl) (fun _ _ _ => rfl) (by omega) (by omega)
  exact ⟨r1, r2, r3.symm⟩
theorem ty_yields37 {n : Nat} {I A I2 A2 : Nat → Nat → Int32} {J J2 : Nat → Nat → Int64} {t t2 : Bool × Bool} {x1 x2 x3 x4 x5 x6 : Int32} (hn : 500 ≤ n) (hl : rl_lands I A I2 A2) (hms : rl_masts I A I2 A2) (hT : rl_tr 37 I A I2 A2) (hf : rl_facts I A I2 A2) :
    pb_X11_yields_0_tTx n I A J t x1 x2 x3 x4 x5 x6 ∧ pb_X12_yields_68 n I2 A2 J2 t2 x1 x2 x3 x4 x5 x6 ∧ px_X12_yields_68 n I2 A2 J2 t2 x1 x2 x3 x4 x5 x6 = px_X11_yields_0_tTx n I A J t x1 x2 x3 x4 x5 x6 := by
  obtain ⟨⟨m, hm, l1, l2⟩, -⟩ := id hl
  obtain ⟨⟨k, hk, s1, s2⟩, -⟩ := id hms
  obtain ⟨⟨q, hq, q1, q2, -⟩, -⟩ := id hf
  unfold pb_X11_yields_0_tTx pb_X12_yields_68 px_X12_yields_68 px_X11_yields_0_tTx qs0m11_X12_yields_68 qs0m20_X12_yields_68
  rw [st_asked (n := n) (I := I) (A := A) (J := J) (t := (true, t.2)) (l1.trans l2.symm) (s1.trans s2.symm), ← eq_known (n := n) (A := A) (J := J) (t := (true, t.2)) (q1.trans q2.symm)]
  by_cases c1 : px_X11_isSending_0 n I A J (true, t.2) x1 x2 x3 x4 x5 = 0
  · simp only [c1, if_true, not_true_eq_false, false_implies, true_and]
  by_cases c2 : px_X1_canKnow_19 n I A J (true, t.2) x6 = 0
  · simp only [c1, c2, if_true, if_false, not_true_eq_false, false_implies, implies_true, true_and]
  obtain ⟨i, b, l, d, h, hi, hb, ha, hd, hh2, rfl, rfl, rfl, rfl, rfl⟩ := st_send s1 hk l1 hm c1
  obtain ⟨N, hN, rfl⟩ := known_of q1 (by omega) c2
  simp only [c1, c2, if_false, not_false_eq_true, forall_const]
  exact ty_fy37 hn hl hms hT hf q1 hq hN hb (by omega) (by omega) hd
theorem ty_rulec37 {n : Nat} {I A I2 A2 : Nat → Nat → Int32} {J J2 : Nat → Nat → Int64} {t t2 : Bool × Bool} {x1 x2 x3 x4 x5 x6 : Int32} (hn : 500 ≤ n) (hl : rl_lands I A I2 A2) (hms : rl_masts I A I2 A2) (hT : rl_tr 37 I A I2 A2) (hf : rl_facts I A I2 A2) :
    pb_X11_rule_0_tTx n I A J t x1 x2 x3 x4 x5 x6 ∧ pb_X12_rule_68 n I2 A2 J2 t2 x1 x2 x3 x4 x5 x6 ∧ px_X12_rule_68 n I2 A2 J2 t2 x1 x2 x3 x4 x5 x6 = px_X11_rule_0_tTx n I A J t x1 x2 x3 x4 x5 x6 := by
  obtain ⟨⟨m, hm, l1, l2⟩, -⟩ := id hl
  obtain ⟨⟨k, hk, s1, s2⟩, -⟩ := id hms
  obtain ⟨⟨q, hq, q1, q2, -⟩, hfr⟩ := id hf
  unfold pb_X11_rule_0_tTx pb_X12_rule_68 px_X12_rule_68 px_X11_rule_0_tTx
  rw [st_asked (n := n) (I := I) (A := A) (J := J) (t := (true, t.2)) (l1.trans l2.symm) (s1.trans s2.symm), q2]
  by_cases c1 : px_X11_isSending_0 n I A J (true, t.2) x1 x2 x3 x4 x5 = 0
  · simp only [c1, if_true, not_true_eq_false, false_implies, true_and]
  obtain ⟨i, b, l, d, h, hi, hb, ha, hd, hh2, rfl, rfl, rfl, rfl, rfl⟩ := st_send s1 hk l1 hm c1
  simp only [c1, if_false, not_false_eq_true, forall_const]
  have o1 : ¬ (1 : Int32) = 0 := by decide
  by_cases c2 : x6 < 0
  · have n0 : px_X1_isNotice_19 n I A J (true, t.2) x6 = 0 := by
      unfold px_X1_isNotice_19 qs0m1_X1_isNotice_19
      rw [if_pos c2]
    rw [n0, if_pos rfl, if_pos c2]
    exact ⟨⟨fun z => absurd c2 z, fun z => absurd rfl z⟩, fun z => absurd c2 z, rfl⟩
  by_cases c3 : nI q ≤ x6
  · have n0 : px_X1_isNotice_19 n I A J (true, t.2) x6 = 0 := by
      unfold px_X1_isNotice_19 qs0m1_X1_isNotice_19 qs0m9_X1_isNotice_19
      rw [if_neg c2, q1, if_pos c3]
    rw [n0, if_pos rfl, if_neg c2, if_pos c3]
    exact ⟨⟨fun _ z => by rw [q1] at z; exact absurd c3 z, fun z => absurd rfl z⟩, fun _ z => absurd c3 z, rfl⟩
  obtain ⟨f, hf0, rfl⟩ := nI_of c2
  have hfq : f < q := Nat.lt_of_not_le (fun z => c3 (nI_le z hf0))
  obtain ⟨n1, n2⟩ := lr_isN (n := n) (I := I) (A := A) (J := J) (t := (true, t.2)) hq q1 hfq
  have hfa := hfr f (by omega)
  have pbc := cl_pb (n := n) (I2 := I2) (J2 := J2) (t2 := t2) (x1 := nI b) (x3 := nI d) (x4 := nI h) (f := f) (l := l) (by omega) (by omega) hfa
  rw [if_neg c2, if_neg c3]
  rcases hfa.2.2.2.2.2.2.2.2 with ⟨g1, g2, g3⟩ | ⟨g1, g2, g3, g4⟩
  · rw [if_pos g2] at n1
    rw [n1, if_neg o1]
    obtain ⟨k1, k2⟩ := cl_eq (n := n) (J := J) (t := (true, t.2)) (J2 := J2) (t2 := t2) (x1 := nI b) (x3 := nI d) (x4 := nI h) (f := f) (l := l) (by omega) (by omega) hl hfa g1
    rw [k2]
    by_cases c4 : px_X11_clashes_0 n I A J (true, t.2) (nI f) (nI b) (nI l) (nI d) (nI h) = 0
    · rw [if_pos c4, if_pos c4]
      exact ⟨⟨n2, fun _ => ⟨k1, fun z => absurd c4 z⟩⟩, fun _ _ => ⟨pbc, fun z => absurd c4 z⟩, rfl⟩
    · rw [if_neg c4, if_neg c4]
      have hI' : lr_aI I2 (pI_X12_clashes_68 n I2 A2 J2 t2 (nI b) (nI l) (nI d) (nI h) (nI f)) := fun k h1 h2 h3 => by
        rw [fr_pI_X12_clashes_68 (by simp; omega)]
      have hT3 : rl_tr 37 I A (pI_X12_clashes_68 n I2 A2 J2 t2 (nI b) (nI l) (nI d) (nI h) (nI f)) A2 := rc_tr hT rfl (hI' 18 (by decide) (by decide) (by decide)) rfl rfl rfl rfl rfl rfl rfl rfl rfl rfl rfl rfl rfl rfl rfl rfl rfl
      have hms3 : rl_masts I A (pI_X12_clashes_68 n I2 A2 J2 t2 (nI b) (nI l) (nI d) (nI h) (nI f)) A2 := rc_masts hms rfl (hI' 40 (by decide) (by decide) (by decide)) rfl rfl rfl rfl
      obtain ⟨D1, D2, D3, D4⟩ := ty_decide37 (n := n) (J := J) (J2 := J2) (t := (true, t.2)) (t2 := t2) (x2 := nI b) (x3 := nI l) (x5 := nI h) (i := i) (f := f) hn hd (by omega) (by omega) hT3 hms3 hfa
      exact ⟨⟨n2, fun _ => ⟨k1, fun _ => D1⟩⟩, fun _ _ => ⟨pbc, fun _ => D2⟩, D3⟩
  · have ns : ¬ A 20 f = -1 := by
      obtain ⟨s, hs, es⟩ := vp_in_of g3 (by decide)
      rw [es]
      intro z
      have := tI_eq.mp z
      rw [tI_nI (by omega)] at this
      have a1 : (-1 : Int32).toInt = -1 := rfl
      omega
    rw [if_neg ns] at n1
    have c4 : px_X12_clashes_68 n I2 A2 J2 t2 (nI b) (nI l) (nI d) (nI h) (nI f) = 0 := cl_no (by omega) (fun z => absurd (g1.symm.trans z.1) (by decide)) (Or.inr g1)
    rw [n1, if_pos rfl, c4, if_pos rfl]
    exact ⟨⟨n2, fun z => absurd rfl z⟩, fun _ _ => ⟨pbc, fun z => absurd rfl z⟩, rfl⟩

theorem ty_we60 {n v : Nat} {I A I2 A2 : Nat → Nat → Int32} {J : Nat → Nat → Int64} {t : Bool × Bool} {r : Int32} (hT : rl_tr 60 I A I2 A2) (h18 : I2 68 18 = nI v) (hv : v < 2) (hr : r = -1 ∨ ∃ k, nI k < I 60 8 ∧ k < 20 ∧ r = nI k) :
    pb_X10_weYieldBy_60 n I A J t r ∧ (r = -1 → ¬ px_X10_weYieldBy_60 n I A J t r = 0) ∧ (¬ r = -1 → vp_in ((20 : Int32) * nI v + r) 40 ∧ (px_X10_weYieldBy_60 n I A J t r = 0 ↔ A2 77 ((20 : Int32) * nI v + r).toNatClampNeg = 0)) := by
  obtain ⟨v', m, hv', hm, h18', h8, h76, x, q, T⟩ := hT
  have ev : v' = v := (nI_eq (by omega) (by omega)).mp (h18'.symm.trans h18)
  subst ev
  have o1 : ¬ (1 : Int32) = 0 := by decide
  unfold pb_X10_weYieldBy_60 px_X10_weYieldBy_60 qs0m1_X10_weYieldBy_60 qs0m9_X10_weYieldBy_60 qs0m18_X10_weYieldBy_60
  rcases hr with rfl | ⟨k, hk, hk2, rfl⟩
  · have c : (-1 : Int32) < 0 := by decide
    rw [if_pos c]
    exact ⟨fun z => absurd c z, fun _ => o1, fun z => absurd rfl z⟩
  · have c : ¬ nI k < 0 := nI_pos (by omega)
    have c2 : ¬ I 60 8 ≤ nI k := Int32.not_le.mpr hk
    have hkm : k < m := by
      rw [h8] at hk
      exact (nI_ltI (by omega) (by omega)).mp hk
    have ck : (nI k).toNatClampNeg = k := nI_clamp (by omega)
    have e : (20 : Int32) * nI v' + nI k = nI (20 * v' + k) := by
      have : (20 : Int32) = nI 20 := rfl
      rw [this, pk_mul, nI_add]
    obtain ⟨-, -, -, -, -, -, -, T8, -⟩ := T
    obtain ⟨-, U2, -⟩ := T8 k hkm
    have nk : ¬ nI k = -1 := fun z => by
      have := tI_eq.mp z
      rw [tI_nI (by omega)] at this
      have a1 : (-1 : Int32).toInt = -1 := rfl
      omega
    rw [if_neg c, if_neg c2, ck, e, nI_clamp (by omega)]
    refine ⟨fun _ _ => vp_in_nI hk2 (by decide), fun z => absurd z nk, fun _ => ⟨vp_in_nI (by omega) (by decide), ?_⟩⟩
    rcases U2 with ⟨u1, u2⟩ | ⟨u1, u2⟩
    · have u2' : A 61 k = 0 := u2
      rw [u1, u2', if_pos rfl]
    · have u2' : A 61 k = 1 := u2
      rw [u1, u2', if_neg o1]
/-- to whom a sending yields: the class's notices of the band against the reference's facts -/
theorem ty_yield60 {n : Nat} {I A I2 A2 A0 I02 A02 : Nat → Nat → Int32} {J J2 : Nat → Nat → Int64} {t t2 : Bool × Bool} {N m b i l d : Nat} {x5 : Int32} (hn : 500 ≤ n) (hl : rl_lands I A I2 A2) (hms : rl_masts I A I2 A2) (hT : rl_tr 60 I A I2 A2) (hfr : ∀ f, f < 300 → rl_fact A A2 f) (hm : m ≤ 300) (hN : N ≤ m) (b6 : b < 6) (i6 : i < 6) (l8 : l < 8) (hd : d < 3600)
    (h28 : A 28 b = nI (rl_nc (A2 99) (A2 103) b m)) (h27 : ∀ f, f < m → A2 99 f = 1 → A2 103 f = nI b → A 27 (300 * b + rl_nc (A2 99) (A2 103) b f) = nI f) :
    ∀ (g f F F2 : Nat) (A3 I3 B3 : Nat → Nat → Int32), f + g = N → (∀ c, c ≠ 45 → c ≠ 67 → A3 c = A c) → lr_aI I2 I3 → (∀ c, c ≠ 107 → c ≠ 108 → B3 c = A2 c) → rl_nc (A2 99) (A2 103) b m - rl_nc (A2 99) (A2 103) b f < F → g < F2 →
    lb_X11_firstYield_0_tFx_3 n I A0 J t (nI i) (nI b) (nI l) (nI d) x5 (nI N) F A3 (nI (rl_nc (A2 99) (A2 103) b f)) ∧ lb_X12_yieldsTo_68_3 n I02 A02 J2 t2 (nI i) (nI b) (nI l) (nI d) x5 (nI N) F2 I3 B3 (nI f) ∧ (lp_X11_firstYield_0_tFx_3 n I A0 J t (nI i) (nI b) (nI l) (nI d) x5 (nI N) F A3 (nI (rl_nc (A2 99) (A2 103) b f))).1 = (lp_X12_yieldsTo_68_3 n I02 A02 J2 t2 (nI i) (nI b) (nI l) (nI d) x5 (nI N) F2 I3 B3 (nI f)).1 := by
  have cb : (nI b).toNatClampNeg = b := nI_clamp (by omega)
  have vb : vp_in (nI b) 6 := vp_in_nI b6 (by decide)
  have ncm := rl_nc_le (A2 99) (A2 103) b m
  have ix : ∀ c : Nat, nI b * 300 + nI c = nI (300 * b + c) := fun c => by
    have : (300 : Int32) = nI 300 := rfl
    rw [this, pk_mul, nI_add, Nat.mul_comm]
  obtain ⟨v, hv, h18⟩ : ∃ v, v < 2 ∧ I2 68 18 = nI v := by
    obtain ⟨v, m', hv, -, h18, -⟩ := id hT
    exact ⟨v, hv, h18⟩
  have o1 : ¬ (1 : Int32) = 0 := by decide
  intro g
  induction g with
  | zero =>
    intro f F F2 A3 I3 B3 hf ha hI hb hF hF2
    obtain ⟨F, rfl⟩ : ∃ g, F = g + 1 := ⟨F - 1, by omega⟩
    obtain ⟨F2, rfl⟩ : ∃ g, F2 = g + 1 := ⟨F2 - 1, by omega⟩
    have hfN : f = N := by omega
    subst hfN
    have c2 : nI f ≤ nI f := nI_le (Nat.le_refl _) (by omega)
    have nf := rl_nc_le (A2 99) (A2 103) b f
    have e28 : px_X1_noticesOn_19 n I A3 J (false, t.2) (nI b) = nI (rl_nc (A2 99) (A2 103) b m) := by
      unfold px_X1_noticesOn_19
      rw [cb, ha 28 (by decide) (by decide), h28]
    unfold lb_X11_firstYield_0_tFx_3 lb_X12_yieldsTo_68_3 lp_X11_firstYield_0_tFx_3 lp_X12_yieldsTo_68_3
    rw [e28, if_pos c2]
    by_cases c1 : rl_nc (A2 99) (A2 103) b m ≤ rl_nc (A2 99) (A2 103) b f
    · have c1' := nI_le c1 (by omega)
      rw [if_pos c1']
      exact ⟨⟨vb, fun z => absurd c1' z⟩, fun z => absurd c2 z, rfl⟩
    · have c1' : ¬ nI (rl_nc (A2 99) (A2 103) b m) ≤ nI (rl_nc (A2 99) (A2 103) b f) := nI_ge (by omega) (by omega)
      obtain ⟨k, k1, k2, k3, k4, k5⟩ := nc_next (m - f) f (by omega) (Nat.lt_of_not_le c1)
      have e26 : q26_X11_firstYield_0_tFx n I A0 J t (nI i) (nI b) (nI l) (nI d) x5 (nI f) A3 (nI (rl_nc (A2 99) (A2 103) b f)) = nI k := by
        unfold q26_X11_firstYield_0_tFx px_X1_noticeOn_19
        rw [ix, nI_clamp (by omega), ha 27 (by decide) (by decide), ← k5]
        exact h27 k k2 k3 k4
      have c3 : ¬ nI k < nI f := nI_nlt k1 (by omega)
      rw [if_neg c1', e26, if_neg c3]
      exact ⟨⟨vb, fun _ => ⟨by unfold pb_X1_noticeOn_19; rw [ix]; exact vp_in_nI (by omega) (by decide), fun z => absurd z c3⟩⟩, fun z => absurd c2 z, rfl⟩
  | succ g ih =>
    intro f F F2 A3 I3 B3 hf ha hI hb hF hF2
    obtain ⟨F2, rfl⟩ : ∃ g, F2 = g + 1 := ⟨F2 - 1, by omega⟩
    have c2 : ¬ nI N ≤ nI f := nI_ge (by omega) (by omega)
    have nf := rl_nc_le (A2 99) (A2 103) b f
    have hfa : rl_fact A3 B3 f := by
      have := hfr f (by omega)
      unfold rl_fact at this ⊢
      rw [ha 20 (by decide) (by decide), ha 21 (by decide) (by decide), ha 22 (by decide) (by decide), ha 23 (by decide) (by decide), ha 24 (by decide) (by decide), ha 25 (by decide) (by decide), ha 26 (by decide) (by decide), hb 99 (by decide) (by decide), hb 100 (by decide) (by decide), hb 101 (by decide) (by decide), hb 102 (by decide) (by decide), hb 103 (by decide) (by decide), hb 104 (by decide) (by decide), hb 105 (by decide) (by decide), hb 106 (by decide) (by decide)]
      exact this
    have hl3 : rl_lands I A3 I3 B3 := rc_lands hl rfl (hI 35 (by decide) (by decide) (by decide)) (ha 2 (by decide) (by decide)) (ha 3 (by decide) (by decide)) (ha 4 (by decide) (by decide)) (hb 89 (by decide) (by decide)) (hb 90 (by decide) (by decide)) (hb 91 (by decide) (by decide))
    have hI' : lr_aI I2 (pI_X12_clashes_68 n I3 B3 J2 t2 (nI b) (nI l) (nI d) x5 (nI f)) := fun k h1 h2 h3 => by
      rw [fr_pI_X12_clashes_68 (by simp; omega)]
      exact hI k h1 h2 h3
    have pbc := cl_pb (n := n) (I2 := I3) (J2 := J2) (t2 := t2) (x1 := nI b) (x3 := nI d) (x4 := x5) (f := f) (by omega) l8 hfa
    have e70 : q70_X12_yieldsTo_68 n I02 A02 J2 t2 (nI i) (nI b) (nI l) (nI d) x5 (nI N) I3 B3 (nI f) = nI (f + 1) := nI_1 f
    have b99 : B3 99 f = A2 99 f := by rw [hb 99 (by decide) (by decide)]
    have b103 : B3 103 f = A2 103 f := by rw [hb 103 (by decide) (by decide)]
    by_cases nt : A2 99 f = 1 ∧ A2 103 f = nI b
    · have s1 : rl_nc (A2 99) (A2 103) b (f + 1) = rl_nc (A2 99) (A2 103) b f + 1 := by
        conv => lhs; unfold rl_nc
        rw [if_pos nt]
      have s2 := rl_nc_mono (A2 99) (A2 103) b (j := f + 1) (k := m) (by omega)
      obtain ⟨F, rfl⟩ : ∃ g, F = g + 1 := ⟨F - 1, by omega⟩
      have c1 : ¬ nI (rl_nc (A2 99) (A2 103) b m) ≤ nI (rl_nc (A2 99) (A2 103) b f) := nI_ge (by omega) (by omega)
      have e28 : px_X1_noticesOn_19 n I A3 J (false, t.2) (nI b) = nI (rl_nc (A2 99) (A2 103) b m) := by
        unfold px_X1_noticesOn_19
        rw [cb, ha 28 (by decide) (by decide), h28]
      have e26 : q26_X11_firstYield_0_tFx n I A0 J t (nI i) (nI b) (nI l) (nI d) x5 (nI N) A3 (nI (rl_nc (A2 99) (A2 103) b f)) = nI f := by
        unfold q26_X11_firstYield_0_tFx px_X1_noticeOn_19
        rw [ix, nI_clamp (by omega), ha 27 (by decide) (by decide)]
        exact h27 f (by omega) nt.1 nt.2
      have pbn : pb_X1_noticeOn_19 n I A3 J (false, t.2) (nI b) (nI (rl_nc (A2 99) (A2 103) b f)) := by
        unfold pb_X1_noticeOn_19
        rw [ix]; exact vp_in_nI (by omega) (by decide)
      have c3 : nI f < nI N := nI_lt (by omega) (by omega)
      have e78 : q78_X11_firstYield_0_tFx n I A0 J t (nI i) (nI b) (nI l) (nI d) x5 (nI N) A3 (nI (rl_nc (A2 99) (A2 103) b f)) = nI (rl_nc (A2 99) (A2 103) b (f + 1)) := by
        rw [s1]; exact nI_1 _
      obtain ⟨k1, k2⟩ := cl_eq (n := n) (J := J) (t := (false, t.2)) (J2 := J2) (t2 := t2) (x1 := nI b) (x3 := nI d) (x4 := x5) (f := f) (by omega) l8 hl3 hfa (by rw [b99]; exact nt.1)
      by_cases c4 : px_X11_clashes_0 n I A3 J (false, t.2) (nI f) (nI b) (nI l) (nI d) x5 = 0
      · obtain ⟨i1, i2, i3⟩ := ih (f + 1) F F2 A3 _ B3 (by omega) ha hI' hb (by omega) (by omega)
        have c4' : px_X12_clashes_68 n I3 B3 J2 t2 (nI b) (nI l) (nI d) x5 (nI f) = 0 := k2.trans c4
        unfold lb_X11_firstYield_0_tFx_3 lb_X12_yieldsTo_68_3 lp_X11_firstYield_0_tFx_3 lp_X12_yieldsTo_68_3
        rw [e28, if_neg c1, e26, if_pos c3, if_pos c4, e78, if_neg c2, if_pos c4', e70]
        exact ⟨⟨vb, fun _ => ⟨pbn, fun _ => ⟨k1, fun _ => i1, fun z => absurd c4 z⟩⟩⟩, fun _ => ⟨pbc, fun z => absurd c4' z, fun _ => i2⟩, i3⟩
      · have c4' : ¬ px_X12_clashes_68 n I3 B3 J2 t2 (nI b) (nI l) (nI d) x5 (nI f) = 0 := fun z => c4 (k2.symm.trans z)
        have hT3 : rl_tr 60 I A3 (pI_X12_clashes_68 n I3 B3 J2 t2 (nI b) (nI l) (nI d) x5 (nI f)) B3 := rc_tr hT rfl (hI' 18 (by decide) (by decide) (by decide)) (ha _ (by decide) (by decide)) (ha _ (by decide) (by decide)) (ha _ (by decide) (by decide)) (ha _ (by decide) (by decide)) (ha _ (by decide) (by decide)) (ha _ (by decide) (by decide)) (hb _ (by decide) (by decide)) (hb _ (by decide) (by decide)) (hb _ (by decide) (by decide)) (hb _ (by decide) (by decide)) (hb _ (by decide) (by decide)) (hb _ (by decide) (by decide)) (hb _ (by decide) (by decide)) (hb _ (by decide) (by decide)) (hb _ (by decide) (by decide)) (hb _ (by decide) (by decide)) (hb _ (by decide) (by decide))
        have hms3 : rl_masts I A3 (pI_X12_clashes_68 n I3 B3 J2 t2 (nI b) (nI l) (nI d) x5 (nI f)) B3 := rc_masts hms rfl (hI' 40 (by decide) (by decide) (by decide)) (ha _ (by decide) (by decide)) (ha _ (by decide) (by decide)) (hb _ (by decide) (by decide)) (hb _ (by decide) (by decide))
        obtain ⟨D1, D2, D3, D4⟩ := ty_decide60 (n := n) (I2 := pI_X12_clashes_68 n I3 B3 J2 t2 (nI b) (nI l) (nI d) x5 (nI f)) (J := J) (J2 := J2) (t := (false, t.2)) (t2 := t2) (x2 := nI b) (x3 := nI l) (x5 := x5) hn hd i6 (by omega) hT3 hms3 hfa
        have e41 : q41_X12_yieldsTo_68 n I02 A02 J2 t2 (nI i) (nI b) (nI l) (nI d) x5 (nI N) I3 B3 (nI f) = px_X11_decidingRule_0_tFx n I A3 J (false, t.2) (nI i) (nI b) (nI l) (nI d) x5 (nI f) := D3
        have ha' : ∀ c, c ≠ 45 → c ≠ 67 → pA_X11_decidingRule_0_tFx n I A3 J (false, t.2) (nI i) (nI b) (nI l) (nI d) x5 (nI f) c = A c := fun c h1 h2 => by
          rw [fr_pA_X11_decidingRule_0_tFx (by simp [h1, h2])]; exact ha c h1 h2
        have hb' : ∀ c, c ≠ 107 → c ≠ 108 → pA_X12_decides_68 n (pI_X12_clashes_68 n I3 B3 J2 t2 (nI b) (nI l) (nI d) x5 (nI f)) B3 J2 t2 (nI i) (nI b) (nI l) (nI d) x5 (nI f) c = A2 c := fun c h1 h2 => by
          rw [fr_pA_X12_decides_68 (by simp [h1, h2])]; exact hb c h1 h2
        have hT4 : rl_tr 60 I (pA_X11_decidingRule_0_tFx n I A3 J (false, t.2) (nI i) (nI b) (nI l) (nI d) x5 (nI f)) I2 A2 := rc_tr hT rfl rfl (ha' _ (by decide) (by decide)) (ha' _ (by decide) (by decide)) (ha' _ (by decide) (by decide)) (ha' _ (by decide) (by decide)) (ha' _ (by decide) (by decide)) (ha' _ (by decide) (by decide)) rfl rfl rfl rfl rfl rfl rfl rfl rfl rfl rfl
        obtain ⟨W1, W2, W3⟩ := ty_we60 (n := n) (J := J) (t := (false, t.2)) hT4 h18 hv D4
        have e18 : pI_X12_clashes_68 n I3 B3 J2 t2 (nI b) (nI l) (nI d) x5 (nI f) 68 18 = nI v := by rw [hI' 18 (by decide) (by decide) (by decide), h18]
        have e77 : pA_X12_decides_68 n (pI_X12_clashes_68 n I3 B3 J2 t2 (nI b) (nI l) (nI d) x5 (nI f)) B3 J2 t2 (nI i) (nI b) (nI l) (nI d) x5 (nI f) 77 = A2 77 := hb' 77 (by decide) (by decide)
        obtain ⟨i1, i2, i3⟩ := ih (f + 1) F F2 _ _ _ (by omega) ha' hI' hb' (by omega) (by omega)
        unfold lb_X11_firstYield_0_tFx_3 lb_X12_yieldsTo_68_3 lp_X11_firstYield_0_tFx_3 lp_X12_yieldsTo_68_3
        rw [e28, if_neg c1, e26, if_pos c3, if_neg c4, e78, if_neg c2, if_neg c4', e70, e41, e18, e77]
        refine ⟨⟨vb, fun _ => ⟨pbn, fun _ => ⟨k1, fun z => absurd z c4, fun _ => ⟨D1, W1, fun _ => i1⟩⟩⟩⟩, fun _ => ⟨pbc, fun _ => ⟨D2, fun z => ⟨(W3 z).1, fun _ => i2⟩⟩, fun z => absurd z c4'⟩, ?_⟩
        by_cases c5 : px_X11_decidingRule_0_tFx n I A3 J (false, t.2) (nI i) (nI b) (nI l) (nI d) x5 (nI f) = -1
        · rw [if_neg (W2 c5), if_pos c5]
        · rw [if_neg c5]
          have W := (W3 c5).2
          by_cases c6 : px_X10_weYieldBy_60 n I (pA_X11_decidingRule_0_tFx n I A3 J (false, t.2) (nI i) (nI b) (nI l) (nI d) x5 (nI f)) J (false, t.2) (px_X11_decidingRule_0_tFx n I A3 J (false, t.2) (nI i) (nI b) (nI l) (nI d) x5 (nI f)) = 0
          · rw [if_pos c6, if_pos (W.mp c6)]
            exact i3
          · rw [if_neg c6, if_neg (fun z => c6 (W.mpr z))]
    · have s1 : rl_nc (A2 99) (A2 103) b (f + 1) = rl_nc (A2 99) (A2 103) b f := by
        conv => lhs; unfold rl_nc
        rw [if_neg nt]; rfl
      have h01 : B3 99 f = 1 ∨ B3 99 f = 0 := by
        rcases hfa.2.2.2.2.2.2.2.2 with z | z
        · exact Or.inl z.1
        · exact Or.inr z.1
      have c4 : px_X12_clashes_68 n I3 B3 J2 t2 (nI b) (nI l) (nI d) x5 (nI f) = 0 := cl_no (by omega) (by rw [b99, b103]; exact nt) h01
      obtain ⟨i1, i2, i3⟩ := ih (f + 1) F F2 A3 _ B3 (by omega) ha hI' hb (by omega) (by omega)
      rw [s1] at i1 i3
      refine ⟨i1, ?_, ?_⟩
      · unfold lb_X12_yieldsTo_68_3
        rw [e70]
        exact fun _ => ⟨pbc, fun z => absurd c4 z, fun _ => i2⟩
      · rw [i3]
        conv => rhs; unfold lp_X12_yieldsTo_68_3
        rw [if_neg c2, if_pos c4, e70]
/-- the first that a sending yields to -/
theorem ty_fy60 {n : Nat} {I A I2 A2 : Nat → Nat → Int32} {J J2 : Nat → Nat → Int64} {t t2 : Bool × Bool} {N m b i l d : Nat} {x5 : Int32} (hn : 500 ≤ n) (hl : rl_lands I A I2 A2) (hms : rl_masts I A I2 A2) (hT : rl_tr 60 I A I2 A2) (hf : rl_facts I A I2 A2) (h19 : I 19 9 = nI m) (hm : m ≤ 300) (hN : N ≤ m) (b6 : b < 6) (i6 : i < 6) (l8 : l < 8) (hd : d < 3600) :
    pb_X11_firstYield_0_tFx n I A J t (nI i) (nI b) (nI l) (nI d) x5 (nI N) ∧ pb_X12_yieldsTo_68 n I2 A2 J2 t2 (nI i) (nI b) (nI l) (nI d) x5 (nI N) ∧ px_X12_yieldsTo_68 n I2 A2 J2 t2 (nI i) (nI b) (nI l) (nI d) x5 (nI N) = px_X11_firstYield_0_tFx n I A J t (nI i) (nI b) (nI l) (nI d) x5 (nI N) := by
  obtain ⟨⟨m', hm', h1, h2, h3⟩, hfr⟩ := hf
  have em : m' = m := (nI_eq (by omega) (by omega)).mp (h1.symm.trans h19)
  subst em
  have ncm := rl_nc_le (A2 99) (A2 103) b m'
  obtain ⟨r1, r2, r3⟩ := ty_yield60 (n := n) (A0 := A) (I02 := I2) (A02 := A2) (J := J) (J2 := J2) (t := t) (t2 := t2) (x5 := x5) hn hl hms hT hfr hm hN b6 i6 l8 hd (h3 b b6).1 (fun f hf q1 q2 => (h3 b b6).2 f hf q1 q2) N 0 n n A I2 A2 (by omega) (fun _ _ _ => rfl) (fun _ _ _ _ => rfl) (fun _ _ _ => rfl) (by omega) (by omega)
  exact ⟨r1, r2, r3.symm⟩
theorem ty_yields60 {n : Nat} {I A I2 A2 : Nat → Nat → Int32} {J J2 : Nat → Nat → Int64} {t t2 : Bool × Bool} {x1 x2 x3 x4 x5 x6 : Int32} (hn : 500 ≤ n) (hl : rl_lands I A I2 A2) (hms : rl_masts I A I2 A2) (hT : rl_tr 60 I A I2 A2) (hf : rl_facts I A I2 A2) :
    pb_X11_yields_0_tFx n I A J t x1 x2 x3 x4 x5 x6 ∧ pb_X12_yields_68 n I2 A2 J2 t2 x1 x2 x3 x4 x5 x6 ∧ px_X12_yields_68 n I2 A2 J2 t2 x1 x2 x3 x4 x5 x6 = px_X11_yields_0_tFx n I A J t x1 x2 x3 x4 x5 x6 := by
  obtain ⟨⟨m, hm, l1, l2⟩, -⟩ := id hl
  obtain ⟨⟨k, hk, s1, s2⟩, -⟩ := id hms
  obtain ⟨⟨q, hq, q1, q2, -⟩, -⟩ := id hf
  unfold pb_X11_yields_0_tFx pb_X12_yields_68 px_X12_yields_68 px_X11_yields_0_tFx qs0m11_X12_yields_68 qs0m20_X12_yields_68
  rw [st_asked (n := n) (I := I) (A := A) (J := J) (t := (false, t.2)) (l1.trans l2.symm) (s1.trans s2.symm), ← eq_known (n := n) (A := A) (J := J) (t := (false, t.2)) (q1.trans q2.symm)]
  by_cases c1 : px_X11_isSending_0 n I A J (false, t.2) x1 x2 x3 x4 x5 = 0
  · simp only [c1, if_true, not_true_eq_false, false_implies, true_and]
  by_cases c2 : px_X1_canKnow_19 n I A J (false, t.2) x6 = 0
  · simp only [c1, c2, if_true, if_false, not_true_eq_false, false_implies, implies_true, true_and]
  obtain ⟨i, b, l, d, h, hi, hb, ha, hd, hh2, rfl, rfl, rfl, rfl, rfl⟩ := st_send s1 hk l1 hm c1
  obtain ⟨N, hN, rfl⟩ := known_of q1 (by omega) c2
  simp only [c1, c2, if_false, not_false_eq_true, forall_const]
  exact ty_fy60 hn hl hms hT hf q1 hq hN hb (by omega) (by omega) hd
theorem ty_rulec60 {n : Nat} {I A I2 A2 : Nat → Nat → Int32} {J J2 : Nat → Nat → Int64} {t t2 : Bool × Bool} {x1 x2 x3 x4 x5 x6 : Int32} (hn : 500 ≤ n) (hl : rl_lands I A I2 A2) (hms : rl_masts I A I2 A2) (hT : rl_tr 60 I A I2 A2) (hf : rl_facts I A I2 A2) :
    pb_X11_rule_0_tFx n I A J t x1 x2 x3 x4 x5 x6 ∧ pb_X12_rule_68 n I2 A2 J2 t2 x1 x2 x3 x4 x5 x6 ∧ px_X12_rule_68 n I2 A2 J2 t2 x1 x2 x3 x4 x5 x6 = px_X11_rule_0_tFx n I A J t x1 x2 x3 x4 x5 x6 := by
  obtain ⟨⟨m, hm, l1, l2⟩, -⟩ := id hl
  obtain ⟨⟨k, hk, s1, s2⟩, -⟩ := id hms
  obtain ⟨⟨q, hq, q1, q2, -⟩, hfr⟩ := id hf
  unfold pb_X11_rule_0_tFx pb_X12_rule_68 px_X12_rule_68 px_X11_rule_0_tFx
  rw [st_asked (n := n) (I := I) (A := A) (J := J) (t := (false, t.2)) (l1.trans l2.symm) (s1.trans s2.symm), q2]
  by_cases c1 : px_X11_isSending_0 n I A J (false, t.2) x1 x2 x3 x4 x5 = 0
  · simp only [c1, if_true, not_true_eq_false, false_implies, true_and]
  obtain ⟨i, b, l, d, h, hi, hb, ha, hd, hh2, rfl, rfl, rfl, rfl, rfl⟩ := st_send s1 hk l1 hm c1
  simp only [c1, if_false, not_false_eq_true, forall_const]
  have o1 : ¬ (1 : Int32) = 0 := by decide
  by_cases c2 : x6 < 0
  · have n0 : px_X1_isNotice_19 n I A J (false, t.2) x6 = 0 := by
      unfold px_X1_isNotice_19 qs0m1_X1_isNotice_19
      rw [if_pos c2]
    rw [n0, if_pos rfl, if_pos c2]
    exact ⟨⟨fun z => absurd c2 z, fun z => absurd rfl z⟩, fun z => absurd c2 z, rfl⟩
  by_cases c3 : nI q ≤ x6
  · have n0 : px_X1_isNotice_19 n I A J (false, t.2) x6 = 0 := by
      unfold px_X1_isNotice_19 qs0m1_X1_isNotice_19 qs0m9_X1_isNotice_19
      rw [if_neg c2, q1, if_pos c3]
    rw [n0, if_pos rfl, if_neg c2, if_pos c3]
    exact ⟨⟨fun _ z => by rw [q1] at z; exact absurd c3 z, fun z => absurd rfl z⟩, fun _ z => absurd c3 z, rfl⟩
  obtain ⟨f, hf0, rfl⟩ := nI_of c2
  have hfq : f < q := Nat.lt_of_not_le (fun z => c3 (nI_le z hf0))
  obtain ⟨n1, n2⟩ := lr_isN (n := n) (I := I) (A := A) (J := J) (t := (false, t.2)) hq q1 hfq
  have hfa := hfr f (by omega)
  have pbc := cl_pb (n := n) (I2 := I2) (J2 := J2) (t2 := t2) (x1 := nI b) (x3 := nI d) (x4 := nI h) (f := f) (l := l) (by omega) (by omega) hfa
  rw [if_neg c2, if_neg c3]
  rcases hfa.2.2.2.2.2.2.2.2 with ⟨g1, g2, g3⟩ | ⟨g1, g2, g3, g4⟩
  · rw [if_pos g2] at n1
    rw [n1, if_neg o1]
    obtain ⟨k1, k2⟩ := cl_eq (n := n) (J := J) (t := (false, t.2)) (J2 := J2) (t2 := t2) (x1 := nI b) (x3 := nI d) (x4 := nI h) (f := f) (l := l) (by omega) (by omega) hl hfa g1
    rw [k2]
    by_cases c4 : px_X11_clashes_0 n I A J (false, t.2) (nI f) (nI b) (nI l) (nI d) (nI h) = 0
    · rw [if_pos c4, if_pos c4]
      exact ⟨⟨n2, fun _ => ⟨k1, fun z => absurd c4 z⟩⟩, fun _ _ => ⟨pbc, fun z => absurd c4 z⟩, rfl⟩
    · rw [if_neg c4, if_neg c4]
      have hI' : lr_aI I2 (pI_X12_clashes_68 n I2 A2 J2 t2 (nI b) (nI l) (nI d) (nI h) (nI f)) := fun k h1 h2 h3 => by
        rw [fr_pI_X12_clashes_68 (by simp; omega)]
      have hT3 : rl_tr 60 I A (pI_X12_clashes_68 n I2 A2 J2 t2 (nI b) (nI l) (nI d) (nI h) (nI f)) A2 := rc_tr hT rfl (hI' 18 (by decide) (by decide) (by decide)) rfl rfl rfl rfl rfl rfl rfl rfl rfl rfl rfl rfl rfl rfl rfl rfl rfl
      have hms3 : rl_masts I A (pI_X12_clashes_68 n I2 A2 J2 t2 (nI b) (nI l) (nI d) (nI h) (nI f)) A2 := rc_masts hms rfl (hI' 40 (by decide) (by decide) (by decide)) rfl rfl rfl rfl
      obtain ⟨D1, D2, D3, D4⟩ := ty_decide60 (n := n) (J := J) (J2 := J2) (t := (false, t.2)) (t2 := t2) (x2 := nI b) (x3 := nI l) (x5 := nI h) (i := i) (f := f) hn hd (by omega) (by omega) hT3 hms3 hfa
      exact ⟨⟨n2, fun _ => ⟨k1, fun _ => D1⟩⟩, fun _ _ => ⟨pbc, fun _ => D2⟩, D3⟩
  · have ns : ¬ A 20 f = -1 := by
      obtain ⟨s, hs, es⟩ := vp_in_of g3 (by decide)
      rw [es]
      intro z
      have := tI_eq.mp z
      rw [tI_nI (by omega)] at this
      have a1 : (-1 : Int32).toInt = -1 := rfl
      omega
    rw [if_neg ns] at n1
    have c4 : px_X12_clashes_68 n I2 A2 J2 t2 (nI b) (nI l) (nI d) (nI h) (nI f) = 0 := cl_no (by omega) (fun z => absurd (g1.symm.trans z.1) (by decide)) (Or.inr g1)
    rw [n1, if_pos rfl, c4, if_pos rfl]
    exact ⟨⟨n2, fun z => absurd rfl z⟩, fun _ _ => ⟨pbc, fun z => absurd rfl z⟩, rfl⟩
