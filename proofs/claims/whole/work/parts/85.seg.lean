/-- an expression's codes: the class's loop over its steps, the reference's over its codes -/
theorem ty_seg37 {n : Nat} {I A I2 A2 : Nat → Nat → Int32} {J J2 : Nat → Nat → Int64} {t t2 : Bool × Bool} {r e P base : Nat} {y1 y2 : Int32} (hr : r < 20) (he : e ≤ 400) (hb : base ≤ 1) :
    ∀ (k p i d f f2 : Nat) (A20 A5 : Nat → Nat → Int32), (∀ j, j < k → ty_m (A20 42 (i + j)) (A20 43 (i + j)) (A5 86 (P + p + j)) (A5 87 (P + p + j))) → ty_run (fun j => A5 86 (P + j)) k p d 1 → i + k < e → A20 41 r = nI e → (∀ j, j < d → A20 44 (base + j) = A5 108 j) → d ≤ 15 → (∀ j, j < 8 → A20 45 j = A5 107 j) → P + p + k ≤ 1000 → y2 = nI (P + p + k) → k < f2 →
    ∃ A21, lp_X10_relsHold_37_45_20 n I A J t (nI r) (f + k) A20 (nI (base + d)) (nI i) = lp_X10_relsHold_37_45_20 n I A J t (nI r) f A21 (nI (base + 1)) (nI (i + k)) ∧
      (lb_X10_relsHold_37_45_20 n I A J t (nI r) f A21 (nI (base + 1)) (nI (i + k)) → lb_X10_relsHold_37_45_20 n I A J t (nI r) (f + k) A20 (nI (base + d)) (nI i)) ∧
      (∀ c, c ≠ 44 → A21 c = A20 c) ∧ A21 44 base = (lp_X12_value_68_5 n I2 A2 J2 t2 y1 y2 f2 A5 (nI d) (nI (P + p))).1 108 0 ∧ (∀ j, j < base → A21 44 j = A20 44 j) ∧ lb_X12_value_68_5 n I2 A2 J2 t2 y1 y2 f2 A5 (nI d) (nI (P + p)) := by
  have cr : (nI r).toNatClampNeg = r := nI_clamp (by omega)
  have vr : vp_in (nI r) 20 := vp_in_nI hr (by decide)
  intro k
  induction k with
  | zero =>
    intro p i d f f2 A20 A5 hm hrun hi he4 hst hd hv hP hy hf
    obtain ⟨f2, rfl⟩ : ∃ g, f2 = g + 1 := ⟨f2 - 1, by omega⟩
    have d1 : d = 1 := hrun
    subst d1
    have c : y2 ≤ nI (P + p) := by rw [hy]; exact nI_le (by omega) (by omega)
    refine ⟨A20, rfl, fun q => q, fun _ _ => rfl, ?_, fun _ _ => rfl, ?_⟩
    · unfold lp_X12_value_68_5
      rw [if_pos c]
      exact hst 0 (by omega)
    · unfold lb_X12_value_68_5
      exact fun q => absurd c q
  | succ k ih =>
    intro p i d f f2 A20 A5 hm hrun hi he4 hst hd hv hP hy hf
    obtain ⟨f2, rfl⟩ : ∃ g, f2 = g + 1 := ⟨f2 - 1, by omega⟩
    have c : ¬ y2 ≤ nI (P + p) := by rw [hy]; exact nI_ge (by omega) (by omega)
    have ci : (nI i).toNatClampNeg = i := nI_clamp (by omega)
    have cp : (nI (P + p)).toNatClampNeg = P + p := nI_clamp (by omega)
    have vi : vp_in (nI i) 400 := vp_in_nI (by omega) (by decide)
    have vp : vp_in (nI (P + p)) 1000 := vp_in_nI (by omega) (by decide)
    have c4 : ¬ A20 41 r ≤ nI i := by rw [he4]; exact nI_ge (by omega) (by omega)
    have q38 : q38_X10_relsHold_37_45 n I A J t (nI r) A20 (nI (base + d)) (nI i) = A20 42 i := by
      unfold q38_X10_relsHold_37_45
      rw [ci]
    have e3 : q138_X12_value_68 n I2 A2 J2 t2 y1 y2 A5 (nI d) (nI (P + p)) = nI (P + (p + 1)) := nI_1 (P + p)
    have e4 : q167_X10_relsHold_37_45 n I A J t (nI r) A20 (nI (base + d)) (nI i) = nI (i + 1) := nI_1 i
    have e5 : q89_X10_relsHold_37_45 n I A J t (nI r) A20 (nI (base + d)) (nI i) = nI (base + (d + 1)) := nI_1 (base + d)
    have e6 : q60_X12_value_68 n I2 A2 J2 t2 y1 y2 A5 (nI d) (nI (P + p)) = nI (d + 1) := nI_1 d
    have hm0 := hm 0 (by omega)
    have hm1 : ∀ j, j < k → ty_m (A20 42 (i + 1 + j)) (A20 43 (i + 1 + j)) (A5 86 (P + (p + 1) + j)) (A5 87 (P + (p + 1) + j)) := fun j hj => by
      have := hm (j + 1) (by omega)
      have u1 : i + (j + 1) = i + 1 + j := by omega
      have u2 : P + p + (j + 1) = P + (p + 1) + j := by omega
      rw [u1, u2] at this
      exact this
    simp only [Nat.add_zero] at hm0
    have hfk : f + (k + 1) = f + k + 1 := by omega
    have hik : i + (k + 1) = i + 1 + k := by omega
    -- a unit is put on both piles
    have push : ∀ w : Int32, ¬ 2 ≤ A5 86 (P + p) → d + 1 ≤ 15 → ty_run (fun j => A5 86 (P + j)) k (p + 1) (d + 1) 1 →
        qs2m34_X12_value_68 n I2 A2 J2 t2 y1 y2 A5 (nI d) (nI (P + p)) = w →
        (¬ A5 86 (P + p) = 0 → vp_in (A5 87 (P + p)) 8) →
        lp_X10_relsHold_37_45_20 n I A J t (nI r) (f + k + 1) A20 (nI (base + d)) (nI i) = lp_X10_relsHold_37_45_20 n I A J t (nI r) (f + k) (cw_u A20 44 (base + d) w) (nI (base + (d + 1))) (nI (i + 1)) →
        (lb_X10_relsHold_37_45_20 n I A J t (nI r) (f + k) (cw_u A20 44 (base + d) w) (nI (base + (d + 1))) (nI (i + 1)) → lb_X10_relsHold_37_45_20 n I A J t (nI r) (f + k + 1) A20 (nI (base + d)) (nI i)) →
        ∃ A21, lp_X10_relsHold_37_45_20 n I A J t (nI r) (f + k + 1) A20 (nI (base + d)) (nI i) = lp_X10_relsHold_37_45_20 n I A J t (nI r) f A21 (nI (base + 1)) (nI (i + 1 + k)) ∧
          (lb_X10_relsHold_37_45_20 n I A J t (nI r) f A21 (nI (base + 1)) (nI (i + 1 + k)) → lb_X10_relsHold_37_45_20 n I A J t (nI r) (f + k + 1) A20 (nI (base + d)) (nI i)) ∧
          (∀ c, c ≠ 44 → A21 c = A20 c) ∧ A21 44 base = (lp_X12_value_68_5 n I2 A2 J2 t2 y1 y2 (f2 + 1) A5 (nI d) (nI (P + p))).1 108 0 ∧ (∀ j, j < base → A21 44 j = A20 44 j) ∧ lb_X12_value_68_5 n I2 A2 J2 t2 y1 y2 (f2 + 1) A5 (nI d) (nI (P + p)) := by
      intro w w1 w2 w3 w4 w5 w6 w7
      have cd : (nI d).toNatClampNeg = d := nI_clamp (by omega)
      have g1 : qAm19_X12_value_68 n I2 A2 J2 t2 y1 y2 A5 (nI d) (nI (P + p)) = cw_u A5 108 d w := by
        unfold qAm19_X12_value_68 qA59_X12_value_68
        rw [cp, if_neg w1, w4, cd]
      have g2 : ql3m19_X12_value_68 n I2 A2 J2 t2 y1 y2 A5 (nI d) (nI (P + p)) = nI (d + 1) := by
        unfold ql3m19_X12_value_68
        rw [cp, if_neg w1, e6]
      have a86 : cw_u A5 108 d w 86 = A5 86 := cw_u_c _ _ (by decide)
      have a87 : cw_u A5 108 d w 87 = A5 87 := cw_u_c _ _ (by decide)
      have a107 : cw_u A5 108 d w 107 = A5 107 := cw_u_c _ _ (by decide)
      have z5 : cw_u A20 44 (base + d) w 42 = A20 42 := cw_u_c _ _ (by decide)
      have z6 : cw_u A20 44 (base + d) w 43 = A20 43 := cw_u_c _ _ (by decide)
      have z4 : cw_u A20 44 (base + d) w 41 = A20 41 := cw_u_c _ _ (by decide)
      have zv : cw_u A20 44 (base + d) w 45 = A20 45 := cw_u_c _ _ (by decide)
      obtain ⟨A21, r1, r2, r3, r4, r5, r6⟩ := ih (p + 1) (i + 1) (d + 1) f f2 (cw_u A20 44 (base + d) w) (cw_u A5 108 d w) (by rw [a86, a87, z5, z6]; exact hm1) (by rw [a86]; exact w3) (by omega) (by rw [z4]; exact he4) (fun j hj => by
        by_cases q : j = d
        · subst q
          rw [cw_u_s, cw_u_s]
        · rw [cw_u_k _ _ (by omega), cw_u_k _ _ q]
          exact hst j (by omega)) w2 (by rw [zv, a107]; exact hv) (by omega) (by rw [hy]; congr 1; omega) (by omega)
      refine ⟨A21, w6.trans r1, fun q => w7 (r2 q), fun c hc => by rw [r3 c hc, cw_u_c _ _ hc], ?_, fun j hj => by rw [r5 j hj, cw_u_k _ _ (by omega)], ?_⟩
      · rw [r4]
        conv => rhs; unfold lp_X12_value_68_5
        rw [if_neg c, g1, g2, e3]
      · unfold lb_X12_value_68_5
        intro _
        rw [g1, g2, e3, cp]
        have vd : vp_in (nI d) 500 := vp_in_nI (by omega) (by decide)
        exact ⟨vp, fun q => absurd q w1, fun _ => ⟨vp, fun q => ⟨vp, w5 q⟩, fun _ => vp, vd⟩, r6⟩
    -- a sign takes two off and puts one on both piles
    have oper : ∀ w : Int32, 2 ≤ A5 86 (P + p) → 2 ≤ d → ty_run (fun j => A5 86 (P + j)) k (p + 1) (d - 1) 1 →
        qs2m102_X12_value_68 n I2 A2 J2 t2 y1 y2 A5 (nI d) (nI (P + p)) = w →
        lp_X10_relsHold_37_45_20 n I A J t (nI r) (f + k + 1) A20 (nI (base + d)) (nI i) = lp_X10_relsHold_37_45_20 n I A J t (nI r) (f + k) (cw_u A20 44 (base + d - 2) w) (nI (base + (d - 1))) (nI (i + 1)) →
        (lb_X10_relsHold_37_45_20 n I A J t (nI r) (f + k) (cw_u A20 44 (base + d - 2) w) (nI (base + (d - 1))) (nI (i + 1)) → lb_X10_relsHold_37_45_20 n I A J t (nI r) (f + k + 1) A20 (nI (base + d)) (nI i)) →
        ∃ A21, lp_X10_relsHold_37_45_20 n I A J t (nI r) (f + k + 1) A20 (nI (base + d)) (nI i) = lp_X10_relsHold_37_45_20 n I A J t (nI r) f A21 (nI (base + 1)) (nI (i + 1 + k)) ∧
          (lb_X10_relsHold_37_45_20 n I A J t (nI r) f A21 (nI (base + 1)) (nI (i + 1 + k)) → lb_X10_relsHold_37_45_20 n I A J t (nI r) (f + k + 1) A20 (nI (base + d)) (nI i)) ∧
          (∀ c, c ≠ 44 → A21 c = A20 c) ∧ A21 44 base = (lp_X12_value_68_5 n I2 A2 J2 t2 y1 y2 (f2 + 1) A5 (nI d) (nI (P + p))).1 108 0 ∧ (∀ j, j < base → A21 44 j = A20 44 j) ∧ lb_X12_value_68_5 n I2 A2 J2 t2 y1 y2 (f2 + 1) A5 (nI d) (nI (P + p)) := by
      intro w w1 w2 w3 w4 w6 w7
      obtain ⟨d, rfl⟩ : ∃ g, d = g + 2 := ⟨d - 2, by omega⟩
      have u1 : nI (d + 2) + (-1) = nI (d + 1) := pk_m1 (d + 1)
      have u2 : nI (d + 1) - 1 = nI d := nI_pred d
      have cd : (nI d).toNatClampNeg = d := nI_clamp (by omega)
      have q66 : q66_X12_value_68 n I2 A2 J2 t2 y1 y2 A5 (nI (d + 2)) (nI (P + p)) = nI (d + 1) := u1
      have g1 : qAm19_X12_value_68 n I2 A2 J2 t2 y1 y2 A5 (nI (d + 2)) (nI (P + p)) = cw_u A5 108 d w := by
        unfold qAm19_X12_value_68 qA137_X12_value_68
        rw [cp, if_pos w1, w4, q66, u2, cd]
      have g2 : ql3m19_X12_value_68 n I2 A2 J2 t2 y1 y2 A5 (nI (d + 2)) (nI (P + p)) = nI (d + 1) := by
        unfold ql3m19_X12_value_68
        rw [cp, if_pos w1, q66]
      have s1 : base + (d + 2) - 2 = base + d := by omega
      have s2 : d + 2 - 1 = d + 1 := by omega
      rw [s1, s2] at w6 w7
      rw [s2] at w3
      have a86 : cw_u A5 108 d w 86 = A5 86 := cw_u_c _ _ (by decide)
      have a87 : cw_u A5 108 d w 87 = A5 87 := cw_u_c _ _ (by decide)
      have a107 : cw_u A5 108 d w 107 = A5 107 := cw_u_c _ _ (by decide)
      have z5 : cw_u A20 44 (base + d) w 42 = A20 42 := cw_u_c _ _ (by decide)
      have z6 : cw_u A20 44 (base + d) w 43 = A20 43 := cw_u_c _ _ (by decide)
      have z4 : cw_u A20 44 (base + d) w 41 = A20 41 := cw_u_c _ _ (by decide)
      have zv : cw_u A20 44 (base + d) w 45 = A20 45 := cw_u_c _ _ (by decide)
      obtain ⟨A21, r1, r2, r3, r4, r5, r6⟩ := ih (p + 1) (i + 1) (d + 1) f f2 (cw_u A20 44 (base + d) w) (cw_u A5 108 d w) (by rw [a86, a87, z5, z6]; exact hm1) (by rw [a86]; exact w3) (by omega) (by rw [z4]; exact he4) (fun j hj => by
        by_cases q : j = d
        · subst q
          rw [cw_u_s, cw_u_s]
        · rw [cw_u_k _ _ (by omega), cw_u_k _ _ q]
          exact hst j (by omega)) (by omega) (by rw [zv, a107]; exact hv) (by omega) (by rw [hy]; congr 1; omega) (by omega)
      refine ⟨A21, w6.trans r1, fun q => w7 (r2 q), fun c hc => by rw [r3 c hc, cw_u_c _ _ hc], ?_, fun j hj => by rw [r5 j hj, cw_u_k _ _ (by omega)], ?_⟩
      · rw [r4]
        conv => rhs; unfold lp_X12_value_68_5
        rw [if_neg c, g1, g2, e3]
      · unfold lb_X12_value_68_5
        intro _
        rw [g1, g2, e3, cp, q66, u2]
        have vd : vp_in (nI d) 500 := vp_in_nI (by omega) (by decide)
        have vd1 : vp_in (nI (d + 1)) 500 := vp_in_nI (by omega) (by decide)
        exact ⟨vp, fun _ => ⟨vd, vd1, vp, fun _ => vp, vd⟩, fun q => absurd w1 q, r6⟩
    rw [hfk, hik]
    have n02 : ¬ (2 : Int32) ≤ 0 := by decide
    have n12 : ¬ (2 : Int32) ≤ 1 := by decide
    have top : ∀ x, d + 1 ≤ 15 → x = base + d → nI x < 16 := fun x h1 h2 => nI_lt (b := 16) (by omega) (by omega)
    rcases hm0 with ⟨m1, m2, m3⟩ | ⟨j, hj, m1, m2, m3⟩ | hop
    · have h2 : ¬ 2 ≤ A5 86 (P + p) := by rw [m2]; exact n02
      rcases hrun with ⟨-, hd1, hrun⟩ | ⟨q, -⟩
      rotate_left
      · exact absurd q h2
      have cbd : (nI (base + d)).toNatClampNeg = base + d := nI_clamp (by omega)
      have e88 : qA88_X10_relsHold_37_45 n I A J t (nI r) A20 (nI (base + d)) (nI i) = cw_u A20 44 (base + d) (A20 43 i) := by
        unfold qA88_X10_relsHold_37_45
        rw [cbd, ci]
      refine push (A20 43 i) h2 hd1 hrun ?_ (fun q => absurd m2 q) ?_ ?_
      · unfold qs2m34_X12_value_68
        rw [cp, if_pos m2, m3]
      · conv => lhs; unfold lp_X10_relsHold_37_45_20
        rw [cr, if_neg c4, q38, m1, if_pos rfl, if_pos (top _ hd1 rfl), e88, e5, e4]
      · intro q
        unfold lb_X10_relsHold_37_45_20
        rw [cr, q38, m1, e88, e5, e4]
        exact ⟨vr, fun _ => ⟨vi, fun _ _ => ⟨vi, vp_in_nI (by omega) (by decide), q⟩, fun z => absurd rfl z⟩⟩
    · have h2 : ¬ 2 ≤ A5 86 (P + p) := by rw [m2]; exact n12
      rcases hrun with ⟨-, hd1, hrun⟩ | ⟨q, -⟩
      rotate_left
      · exact absurd q h2
      have cbd : (nI (base + d)).toNatClampNeg = base + d := nI_clamp (by omega)
      have cj : (nI j).toNatClampNeg = j := nI_clamp (by omega)
      have k20 : nI (20 + j) - 20 = nI j := by
        have : nI (20 + j) - nI 20 = nI (20 + j - 20) := pk_sub (by omega)
        have u : 20 + j - 20 = j := by omega
        rw [u] at this
        exact this
      have n2 : ¬ nI (20 + j) = 2 := fun q => absurd ((nI_eq (b := 2) (by omega) (by omega)).mp q) (by omega)
      have n20 : ¬ nI (20 + j) < 20 := nI_nlt (b := 20) (by omega) (by omega)
      have vo : px_X10_varOf_45 n I A20 J t (nI (20 + j)) = A20 45 j := by
        unfold px_X10_varOf_45 qs0m6_X10_varOf_45 qs0m12_X10_varOf_45 q4_X10_varOf_45
        rw [k20, if_neg (nI_pos (by omega)), if_neg (nI_ge (by omega) (by omega)), cj]
      have vob : pb_X10_varOf_45 n I A20 J t (nI (20 + j)) := by
        unfold pb_X10_varOf_45 q4_X10_varOf_45
        rw [k20]
        exact fun _ _ => vp_in_nI hj (by decide)
      have e88 : qA88_1_X10_relsHold_37_45 n I A J t (nI r) A20 (nI (base + d)) (nI i) = cw_u A20 44 (base + d) (A20 45 j) := by
        unfold qA88_1_X10_relsHold_37_45
        rw [cbd, q38, m1, vo]
      have n10 : ¬ (1 : Int32) = 0 := by decide
      refine push (A20 45 j) h2 hd1 hrun ?_ (fun _ => by rw [m3]; exact vp_in_nI hj (by decide)) ?_ ?_
      · unfold qs2m34_X12_value_68
        rw [cp, m2, if_neg n10, m3, cj]
        exact (hv j hj).symm
      · conv => lhs; unfold lp_X10_relsHold_37_45_20
        rw [cr, if_neg c4, q38, m1, if_neg n2, if_neg n20, if_pos (top _ hd1 rfl), e88, e5, e4]
      · intro q
        unfold lb_X10_relsHold_37_45_20
        rw [cr, q38, m1, e88, e5, e4]
        exact ⟨vr, fun _ => ⟨vi, fun z => absurd z n2, fun _ => ⟨fun z => absurd z n20, fun _ _ => ⟨vob, vp_in_nI (by omega) (by decide), q⟩⟩⟩⟩
    · obtain ⟨s, hs, h2, s2, s20, s7⟩ : ∃ s : Int32, A20 42 i = s ∧ 2 ≤ A5 86 (P + p) ∧ ¬ s = 2 ∧ s < 20 ∧ ¬ 7 ≤ s := by
        rcases hop with ⟨m1, m2⟩ | ⟨m1, m2⟩ | ⟨m1, m2⟩
        · exact ⟨4, m1, by rw [m2]; decide, by decide, by decide, by decide⟩
        · exact ⟨5, m1, by rw [m2]; decide, by decide, by decide, by decide⟩
        · exact ⟨6, m1, by rw [m2]; decide, by decide, by decide, by decide⟩
      rcases hrun with ⟨q, -⟩ | ⟨-, hd2, hrun⟩
      · exact absurd h2 q
      have d2 : 2 ≤ nI (base + d) := nI_le (a := 2) (by omega) (by omega)
      obtain ⟨g, hg⟩ : ∃ g, base + d = g + 2 := ⟨base + d - 2, by omega⟩
      have cg : (nI g).toNatClampNeg = g := nI_clamp (by omega)
      have cg1 : (nI (g + 1)).toNatClampNeg = g + 1 := nI_clamp (by omega)
      have e102 : q102_X10_relsHold_37_45 n I A J t (nI r) A20 (nI (base + d)) (nI i) = nI (g + 1) := by
        unfold q102_X10_relsHold_37_45
        rw [hg]
        exact pk_m1 (g + 1)
      have eg : nI (g + 1) - 1 = nI g := nI_pred g
      have e111 : q111_X10_relsHold_37_45 n I A J t (nI r) A20 (nI (base + d)) (nI i) = A5 108 (d - 1) := by
        unfold q111_X10_relsHold_37_45
        rw [e102, cg1, ← hst (d - 1) (by omega)]
        congr 1; omega
      have e121 : q121_X10_relsHold_37_45 n I A J t (nI r) A20 (nI (base + d)) (nI i) = A5 108 (d - 2) := by
        unfold q121_X10_relsHold_37_45
        rw [e102, eg, cg, ← hst (d - 2) (by omega)]
        congr 1; omega
      have r77 : q77_X12_value_68 n I2 A2 J2 t2 y1 y2 A5 (nI d) (nI (P + p)) = A5 108 (d - 2) ∧ q85_X12_value_68 n I2 A2 J2 t2 y1 y2 A5 (nI d) (nI (P + p)) = A5 108 (d - 1) := by
        unfold q77_X12_value_68 q85_X12_value_68 q66_X12_value_68
        obtain ⟨d, rfl⟩ : ∃ g, d = g + 2 := ⟨d - 2, by omega⟩
        have u1 : nI (d + 2) + (-1) = nI (d + 1) := pk_m1 (d + 1)
        have u2 : nI (d + 1) - 1 = nI d := nI_pred d
        rw [u1, u2, nI_clamp (by omega), nI_clamp (by omega)]
        exact ⟨rfl, rfl⟩
      have e146 : qA146_X10_relsHold_37_45 n I A J t (nI r) A20 (nI (base + d)) (nI i) = cw_u A20 44 (base + d - 2) (px_X10_reckon n I A20 J t s (A5 108 (d - 2)) (A5 108 (d - 1))) := by
        unfold qA146_X10_relsHold_37_45
        rw [e102, eg, cg, q38, hs, e121, e111]
        congr 1; omega
      have eb : base + (d - 1) = g + 1 := by omega
      refine oper (px_X10_reckon n I A20 J t s (A5 108 (d - 2)) (A5 108 (d - 1))) h2 hd2 hrun ?_ ?_ ?_
      · unfold qs2m102_X12_value_68 qs2m121_X12_value_68 px_X10_reckon qs0m11_X10_reckon
        rw [cp, r77.1, r77.2]
        rcases hop with ⟨m1, m2⟩ | ⟨m1, m2⟩ | ⟨m1, m2⟩
        · have : s = 4 := hs.symm.trans m1
          subst this
          rw [m2, if_pos rfl, if_pos rfl]
        · have : s = 5 := hs.symm.trans m1
          subst this
          rw [m2, if_neg (by decide), if_pos rfl, if_neg (by decide), if_pos rfl]
        · have : s = 6 := hs.symm.trans m1
          subst this
          rw [m2, if_neg (by decide), if_neg (by decide), if_neg (by decide), if_neg (by decide)]
      · conv => lhs; unfold lp_X10_relsHold_37_45_20
        rw [cr, if_neg c4, q38, hs, if_neg s2, if_pos s20, if_pos d2, if_neg s7, e146, e102, e4, eb]
      · intro q
        rw [eb] at q
        unfold lb_X10_relsHold_37_45_20
        rw [cr, q38, hs, e102, eg, e146, e4]
        have v1 : vp_in (nI (g + 1)) 16 := vp_in_nI (by omega) (by decide)
        have v0 : vp_in (nI g) 16 := vp_in_nI (by omega) (by decide)
        exact ⟨vr, fun _ => ⟨vi, fun z => absurd z s2, fun _ => ⟨fun _ _ => ⟨v1, v0, fun z => absurd z s7, fun _ => ⟨v0, q⟩⟩, fun z => absurd s20 z⟩⟩⟩

/-- an expression's codes: the class's loop over its steps, the reference's over its codes -/
theorem ty_seg60 {n : Nat} {I A I2 A2 : Nat → Nat → Int32} {J J2 : Nat → Nat → Int64} {t t2 : Bool × Bool} {r e P base : Nat} {y1 y2 : Int32} (hr : r < 20) (he : e ≤ 400) (hb : base ≤ 1) :
    ∀ (k p i d f f2 : Nat) (A20 A5 : Nat → Nat → Int32), (∀ j, j < k → ty_m (A20 65 (i + j)) (A20 66 (i + j)) (A5 86 (P + p + j)) (A5 87 (P + p + j))) → ty_run (fun j => A5 86 (P + j)) k p d 1 → i + k < e → A20 64 r = nI e → (∀ j, j < d → A20 67 (base + j) = A5 108 j) → d ≤ 15 → (∀ j, j < 8 → A20 45 j = A5 107 j) → P + p + k ≤ 1000 → y2 = nI (P + p + k) → k < f2 →
    ∃ A21, lp_X10_relsHold_60_45_20 n I A J t (nI r) (f + k) A20 (nI (base + d)) (nI i) = lp_X10_relsHold_60_45_20 n I A J t (nI r) f A21 (nI (base + 1)) (nI (i + k)) ∧
      (lb_X10_relsHold_60_45_20 n I A J t (nI r) f A21 (nI (base + 1)) (nI (i + k)) → lb_X10_relsHold_60_45_20 n I A J t (nI r) (f + k) A20 (nI (base + d)) (nI i)) ∧
      (∀ c, c ≠ 67 → A21 c = A20 c) ∧ A21 67 base = (lp_X12_value_68_5 n I2 A2 J2 t2 y1 y2 f2 A5 (nI d) (nI (P + p))).1 108 0 ∧ (∀ j, j < base → A21 67 j = A20 67 j) ∧ lb_X12_value_68_5 n I2 A2 J2 t2 y1 y2 f2 A5 (nI d) (nI (P + p)) := by
  have cr : (nI r).toNatClampNeg = r := nI_clamp (by omega)
  have vr : vp_in (nI r) 20 := vp_in_nI hr (by decide)
  intro k
  induction k with
  | zero =>
    intro p i d f f2 A20 A5 hm hrun hi he4 hst hd hv hP hy hf
    obtain ⟨f2, rfl⟩ : ∃ g, f2 = g + 1 := ⟨f2 - 1, by omega⟩
    have d1 : d = 1 := hrun
    subst d1
    have c : y2 ≤ nI (P + p) := by rw [hy]; exact nI_le (by omega) (by omega)
    refine ⟨A20, rfl, fun q => q, fun _ _ => rfl, ?_, fun _ _ => rfl, ?_⟩
    · unfold lp_X12_value_68_5
      rw [if_pos c]
      exact hst 0 (by omega)
    · unfold lb_X12_value_68_5
      exact fun q => absurd c q
  | succ k ih =>
    intro p i d f f2 A20 A5 hm hrun hi he4 hst hd hv hP hy hf
    obtain ⟨f2, rfl⟩ : ∃ g, f2 = g + 1 := ⟨f2 - 1, by omega⟩
    have c : ¬ y2 ≤ nI (P + p) := by rw [hy]; exact nI_ge (by omega) (by omega)
    have ci : (nI i).toNatClampNeg = i := nI_clamp (by omega)
    have cp : (nI (P + p)).toNatClampNeg = P + p := nI_clamp (by omega)
    have vi : vp_in (nI i) 400 := vp_in_nI (by omega) (by decide)
    have vp : vp_in (nI (P + p)) 1000 := vp_in_nI (by omega) (by decide)
    have c4 : ¬ A20 64 r ≤ nI i := by rw [he4]; exact nI_ge (by omega) (by omega)
    have q38 : q38_X10_relsHold_60_45 n I A J t (nI r) A20 (nI (base + d)) (nI i) = A20 65 i := by
      unfold q38_X10_relsHold_60_45
      rw [ci]
    have e3 : q138_X12_value_68 n I2 A2 J2 t2 y1 y2 A5 (nI d) (nI (P + p)) = nI (P + (p + 1)) := nI_1 (P + p)
    have e4 : q167_X10_relsHold_60_45 n I A J t (nI r) A20 (nI (base + d)) (nI i) = nI (i + 1) := nI_1 i
    have e5 : q89_X10_relsHold_60_45 n I A J t (nI r) A20 (nI (base + d)) (nI i) = nI (base + (d + 1)) := nI_1 (base + d)
    have e6 : q60_X12_value_68 n I2 A2 J2 t2 y1 y2 A5 (nI d) (nI (P + p)) = nI (d + 1) := nI_1 d
    have hm0 := hm 0 (by omega)
    have hm1 : ∀ j, j < k → ty_m (A20 65 (i + 1 + j)) (A20 66 (i + 1 + j)) (A5 86 (P + (p + 1) + j)) (A5 87 (P + (p + 1) + j)) := fun j hj => by
      have := hm (j + 1) (by omega)
      have u1 : i + (j + 1) = i + 1 + j := by omega
      have u2 : P + p + (j + 1) = P + (p + 1) + j := by omega
      rw [u1, u2] at this
      exact this
    simp only [Nat.add_zero] at hm0
    have hfk : f + (k + 1) = f + k + 1 := by omega
    have hik : i + (k + 1) = i + 1 + k := by omega
    -- a unit is put on both piles
    have push : ∀ w : Int32, ¬ 2 ≤ A5 86 (P + p) → d + 1 ≤ 15 → ty_run (fun j => A5 86 (P + j)) k (p + 1) (d + 1) 1 →
        qs2m34_X12_value_68 n I2 A2 J2 t2 y1 y2 A5 (nI d) (nI (P + p)) = w →
        (¬ A5 86 (P + p) = 0 → vp_in (A5 87 (P + p)) 8) →
        lp_X10_relsHold_60_45_20 n I A J t (nI r) (f + k + 1) A20 (nI (base + d)) (nI i) = lp_X10_relsHold_60_45_20 n I A J t (nI r) (f + k) (cw_u A20 67 (base + d) w) (nI (base + (d + 1))) (nI (i + 1)) →
        (lb_X10_relsHold_60_45_20 n I A J t (nI r) (f + k) (cw_u A20 67 (base + d) w) (nI (base + (d + 1))) (nI (i + 1)) → lb_X10_relsHold_60_45_20 n I A J t (nI r) (f + k + 1) A20 (nI (base + d)) (nI i)) →
        ∃ A21, lp_X10_relsHold_60_45_20 n I A J t (nI r) (f + k + 1) A20 (nI (base + d)) (nI i) = lp_X10_relsHold_60_45_20 n I A J t (nI r) f A21 (nI (base + 1)) (nI (i + 1 + k)) ∧
          (lb_X10_relsHold_60_45_20 n I A J t (nI r) f A21 (nI (base + 1)) (nI (i + 1 + k)) → lb_X10_relsHold_60_45_20 n I A J t (nI r) (f + k + 1) A20 (nI (base + d)) (nI i)) ∧
          (∀ c, c ≠ 67 → A21 c = A20 c) ∧ A21 67 base = (lp_X12_value_68_5 n I2 A2 J2 t2 y1 y2 (f2 + 1) A5 (nI d) (nI (P + p))).1 108 0 ∧ (∀ j, j < base → A21 67 j = A20 67 j) ∧ lb_X12_value_68_5 n I2 A2 J2 t2 y1 y2 (f2 + 1) A5 (nI d) (nI (P + p)) := by
      intro w w1 w2 w3 w4 w5 w6 w7
      have cd : (nI d).toNatClampNeg = d := nI_clamp (by omega)
      have g1 : qAm19_X12_value_68 n I2 A2 J2 t2 y1 y2 A5 (nI d) (nI (P + p)) = cw_u A5 108 d w := by
        unfold qAm19_X12_value_68 qA59_X12_value_68
        rw [cp, if_neg w1, w4, cd]
      have g2 : ql3m19_X12_value_68 n I2 A2 J2 t2 y1 y2 A5 (nI d) (nI (P + p)) = nI (d + 1) := by
        unfold ql3m19_X12_value_68
        rw [cp, if_neg w1, e6]
      have a86 : cw_u A5 108 d w 86 = A5 86 := cw_u_c _ _ (by decide)
      have a87 : cw_u A5 108 d w 87 = A5 87 := cw_u_c _ _ (by decide)
      have a107 : cw_u A5 108 d w 107 = A5 107 := cw_u_c _ _ (by decide)
      have z5 : cw_u A20 67 (base + d) w 65 = A20 65 := cw_u_c _ _ (by decide)
      have z6 : cw_u A20 67 (base + d) w 66 = A20 66 := cw_u_c _ _ (by decide)
      have z4 : cw_u A20 67 (base + d) w 64 = A20 64 := cw_u_c _ _ (by decide)
      have zv : cw_u A20 67 (base + d) w 45 = A20 45 := cw_u_c _ _ (by decide)
      obtain ⟨A21, r1, r2, r3, r4, r5, r6⟩ := ih (p + 1) (i + 1) (d + 1) f f2 (cw_u A20 67 (base + d) w) (cw_u A5 108 d w) (by rw [a86, a87, z5, z6]; exact hm1) (by rw [a86]; exact w3) (by omega) (by rw [z4]; exact he4) (fun j hj => by
        by_cases q : j = d
        · subst q
          rw [cw_u_s, cw_u_s]
        · rw [cw_u_k _ _ (by omega), cw_u_k _ _ q]
          exact hst j (by omega)) w2 (by rw [zv, a107]; exact hv) (by omega) (by rw [hy]; congr 1; omega) (by omega)
      refine ⟨A21, w6.trans r1, fun q => w7 (r2 q), fun c hc => by rw [r3 c hc, cw_u_c _ _ hc], ?_, fun j hj => by rw [r5 j hj, cw_u_k _ _ (by omega)], ?_⟩
      · rw [r4]
        conv => rhs; unfold lp_X12_value_68_5
        rw [if_neg c, g1, g2, e3]
      · unfold lb_X12_value_68_5
        intro _
        rw [g1, g2, e3, cp]
        have vd : vp_in (nI d) 500 := vp_in_nI (by omega) (by decide)
        exact ⟨vp, fun q => absurd q w1, fun _ => ⟨vp, fun q => ⟨vp, w5 q⟩, fun _ => vp, vd⟩, r6⟩
    -- a sign takes two off and puts one on both piles
    have oper : ∀ w : Int32, 2 ≤ A5 86 (P + p) → 2 ≤ d → ty_run (fun j => A5 86 (P + j)) k (p + 1) (d - 1) 1 →
        qs2m102_X12_value_68 n I2 A2 J2 t2 y1 y2 A5 (nI d) (nI (P + p)) = w →
        lp_X10_relsHold_60_45_20 n I A J t (nI r) (f + k + 1) A20 (nI (base + d)) (nI i) = lp_X10_relsHold_60_45_20 n I A J t (nI r) (f + k) (cw_u A20 67 (base + d - 2) w) (nI (base + (d - 1))) (nI (i + 1)) →
        (lb_X10_relsHold_60_45_20 n I A J t (nI r) (f + k) (cw_u A20 67 (base + d - 2) w) (nI (base + (d - 1))) (nI (i + 1)) → lb_X10_relsHold_60_45_20 n I A J t (nI r) (f + k + 1) A20 (nI (base + d)) (nI i)) →
        ∃ A21, lp_X10_relsHold_60_45_20 n I A J t (nI r) (f + k + 1) A20 (nI (base + d)) (nI i) = lp_X10_relsHold_60_45_20 n I A J t (nI r) f A21 (nI (base + 1)) (nI (i + 1 + k)) ∧
          (lb_X10_relsHold_60_45_20 n I A J t (nI r) f A21 (nI (base + 1)) (nI (i + 1 + k)) → lb_X10_relsHold_60_45_20 n I A J t (nI r) (f + k + 1) A20 (nI (base + d)) (nI i)) ∧
          (∀ c, c ≠ 67 → A21 c = A20 c) ∧ A21 67 base = (lp_X12_value_68_5 n I2 A2 J2 t2 y1 y2 (f2 + 1) A5 (nI d) (nI (P + p))).1 108 0 ∧ (∀ j, j < base → A21 67 j = A20 67 j) ∧ lb_X12_value_68_5 n I2 A2 J2 t2 y1 y2 (f2 + 1) A5 (nI d) (nI (P + p)) := by
      intro w w1 w2 w3 w4 w6 w7
      obtain ⟨d, rfl⟩ : ∃ g, d = g + 2 := ⟨d - 2, by omega⟩
      have u1 : nI (d + 2) + (-1) = nI (d + 1) := pk_m1 (d + 1)
      have u2 : nI (d + 1) - 1 = nI d := nI_pred d
      have cd : (nI d).toNatClampNeg = d := nI_clamp (by omega)
      have q66 : q66_X12_value_68 n I2 A2 J2 t2 y1 y2 A5 (nI (d + 2)) (nI (P + p)) = nI (d + 1) := u1
      have g1 : qAm19_X12_value_68 n I2 A2 J2 t2 y1 y2 A5 (nI (d + 2)) (nI (P + p)) = cw_u A5 108 d w := by
        unfold qAm19_X12_value_68 qA137_X12_value_68
        rw [cp, if_pos w1, w4, q66, u2, cd]
      have g2 : ql3m19_X12_value_68 n I2 A2 J2 t2 y1 y2 A5 (nI (d + 2)) (nI (P + p)) = nI (d + 1) := by
        unfold ql3m19_X12_value_68
        rw [cp, if_pos w1, q66]
      have s1 : base + (d + 2) - 2 = base + d := by omega
      have s2 : d + 2 - 1 = d + 1 := by omega
      rw [s1, s2] at w6 w7
      rw [s2] at w3
      have a86 : cw_u A5 108 d w 86 = A5 86 := cw_u_c _ _ (by decide)
      have a87 : cw_u A5 108 d w 87 = A5 87 := cw_u_c _ _ (by decide)
      have a107 : cw_u A5 108 d w 107 = A5 107 := cw_u_c _ _ (by decide)
      have z5 : cw_u A20 67 (base + d) w 65 = A20 65 := cw_u_c _ _ (by decide)
      have z6 : cw_u A20 67 (base + d) w 66 = A20 66 := cw_u_c _ _ (by decide)
      have z4 : cw_u A20 67 (base + d) w 64 = A20 64 := cw_u_c _ _ (by decide)
      have zv : cw_u A20 67 (base + d) w 45 = A20 45 := cw_u_c _ _ (by decide)
      obtain ⟨A21, r1, r2, r3, r4, r5, r6⟩ := ih (p + 1) (i + 1) (d + 1) f f2 (cw_u A20 67 (base + d) w) (cw_u A5 108 d w) (by rw [a86, a87, z5, z6]; exact hm1) (by rw [a86]; exact w3) (by omega) (by rw [z4]; exact he4) (fun j hj => by
        by_cases q : j = d
        · subst q
          rw [cw_u_s, cw_u_s]
        · rw [cw_u_k _ _ (by omega), cw_u_k _ _ q]
          exact hst j (by omega)) (by omega) (by rw [zv, a107]; exact hv) (by omega) (by rw [hy]; congr 1; omega) (by omega)
      refine ⟨A21, w6.trans r1, fun q => w7 (r2 q), fun c hc => by rw [r3 c hc, cw_u_c _ _ hc], ?_, fun j hj => by rw [r5 j hj, cw_u_k _ _ (by omega)], ?_⟩
      · rw [r4]
        conv => rhs; unfold lp_X12_value_68_5
        rw [if_neg c, g1, g2, e3]
      · unfold lb_X12_value_68_5
        intro _
        rw [g1, g2, e3, cp, q66, u2]
        have vd : vp_in (nI d) 500 := vp_in_nI (by omega) (by decide)
        have vd1 : vp_in (nI (d + 1)) 500 := vp_in_nI (by omega) (by decide)
        exact ⟨vp, fun _ => ⟨vd, vd1, vp, fun _ => vp, vd⟩, fun q => absurd w1 q, r6⟩
    rw [hfk, hik]
    have n02 : ¬ (2 : Int32) ≤ 0 := by decide
    have n12 : ¬ (2 : Int32) ≤ 1 := by decide
    have top : ∀ x, d + 1 ≤ 15 → x = base + d → nI x < 16 := fun x h1 h2 => nI_lt (b := 16) (by omega) (by omega)
    rcases hm0 with ⟨m1, m2, m3⟩ | ⟨j, hj, m1, m2, m3⟩ | hop
    · have h2 : ¬ 2 ≤ A5 86 (P + p) := by rw [m2]; exact n02
      rcases hrun with ⟨-, hd1, hrun⟩ | ⟨q, -⟩
      rotate_left
      · exact absurd q h2
      have cbd : (nI (base + d)).toNatClampNeg = base + d := nI_clamp (by omega)
      have e88 : qA88_X10_relsHold_60_45 n I A J t (nI r) A20 (nI (base + d)) (nI i) = cw_u A20 67 (base + d) (A20 66 i) := by
        unfold qA88_X10_relsHold_60_45
        rw [cbd, ci]
      refine push (A20 66 i) h2 hd1 hrun ?_ (fun q => absurd m2 q) ?_ ?_
      · unfold qs2m34_X12_value_68
        rw [cp, if_pos m2, m3]
      · conv => lhs; unfold lp_X10_relsHold_60_45_20
        rw [cr, if_neg c4, q38, m1, if_pos rfl, if_pos (top _ hd1 rfl), e88, e5, e4]
      · intro q
        unfold lb_X10_relsHold_60_45_20
        rw [cr, q38, m1, e88, e5, e4]
        exact ⟨vr, fun _ => ⟨vi, fun _ _ => ⟨vi, vp_in_nI (by omega) (by decide), q⟩, fun z => absurd rfl z⟩⟩
    · have h2 : ¬ 2 ≤ A5 86 (P + p) := by rw [m2]; exact n12
      rcases hrun with ⟨-, hd1, hrun⟩ | ⟨q, -⟩
      rotate_left
      · exact absurd q h2
      have cbd : (nI (base + d)).toNatClampNeg = base + d := nI_clamp (by omega)
      have cj : (nI j).toNatClampNeg = j := nI_clamp (by omega)
      have k20 : nI (20 + j) - 20 = nI j := by
        have : nI (20 + j) - nI 20 = nI (20 + j - 20) := pk_sub (by omega)
        have u : 20 + j - 20 = j := by omega
        rw [u] at this
        exact this
      have n2 : ¬ nI (20 + j) = 2 := fun q => absurd ((nI_eq (b := 2) (by omega) (by omega)).mp q) (by omega)
      have n20 : ¬ nI (20 + j) < 20 := nI_nlt (b := 20) (by omega) (by omega)
      have vo : px_X10_varOf_45 n I A20 J t (nI (20 + j)) = A20 45 j := by
        unfold px_X10_varOf_45 qs0m6_X10_varOf_45 qs0m12_X10_varOf_45 q4_X10_varOf_45
        rw [k20, if_neg (nI_pos (by omega)), if_neg (nI_ge (by omega) (by omega)), cj]
      have vob : pb_X10_varOf_45 n I A20 J t (nI (20 + j)) := by
        unfold pb_X10_varOf_45 q4_X10_varOf_45
        rw [k20]
        exact fun _ _ => vp_in_nI hj (by decide)
      have e88 : qA88_1_X10_relsHold_60_45 n I A J t (nI r) A20 (nI (base + d)) (nI i) = cw_u A20 67 (base + d) (A20 45 j) := by
        unfold qA88_1_X10_relsHold_60_45
        rw [cbd, q38, m1, vo]
      have n10 : ¬ (1 : Int32) = 0 := by decide
      refine push (A20 45 j) h2 hd1 hrun ?_ (fun _ => by rw [m3]; exact vp_in_nI hj (by decide)) ?_ ?_
      · unfold qs2m34_X12_value_68
        rw [cp, m2, if_neg n10, m3, cj]
        exact (hv j hj).symm
      · conv => lhs; unfold lp_X10_relsHold_60_45_20
        rw [cr, if_neg c4, q38, m1, if_neg n2, if_neg n20, if_pos (top _ hd1 rfl), e88, e5, e4]
      · intro q
        unfold lb_X10_relsHold_60_45_20
        rw [cr, q38, m1, e88, e5, e4]
        exact ⟨vr, fun _ => ⟨vi, fun z => absurd z n2, fun _ => ⟨fun z => absurd z n20, fun _ _ => ⟨vob, vp_in_nI (by omega) (by decide), q⟩⟩⟩⟩
    · obtain ⟨s, hs, h2, s2, s20, s7⟩ : ∃ s : Int32, A20 65 i = s ∧ 2 ≤ A5 86 (P + p) ∧ ¬ s = 2 ∧ s < 20 ∧ ¬ 7 ≤ s := by
        rcases hop with ⟨m1, m2⟩ | ⟨m1, m2⟩ | ⟨m1, m2⟩
        · exact ⟨4, m1, by rw [m2]; decide, by decide, by decide, by decide⟩
        · exact ⟨5, m1, by rw [m2]; decide, by decide, by decide, by decide⟩
        · exact ⟨6, m1, by rw [m2]; decide, by decide, by decide, by decide⟩
      rcases hrun with ⟨q, -⟩ | ⟨-, hd2, hrun⟩
      · exact absurd h2 q
      have d2 : 2 ≤ nI (base + d) := nI_le (a := 2) (by omega) (by omega)
      obtain ⟨g, hg⟩ : ∃ g, base + d = g + 2 := ⟨base + d - 2, by omega⟩
      have cg : (nI g).toNatClampNeg = g := nI_clamp (by omega)
      have cg1 : (nI (g + 1)).toNatClampNeg = g + 1 := nI_clamp (by omega)
      have e102 : q102_X10_relsHold_60_45 n I A J t (nI r) A20 (nI (base + d)) (nI i) = nI (g + 1) := by
        unfold q102_X10_relsHold_60_45
        rw [hg]
        exact pk_m1 (g + 1)
      have eg : nI (g + 1) - 1 = nI g := nI_pred g
      have e111 : q111_X10_relsHold_60_45 n I A J t (nI r) A20 (nI (base + d)) (nI i) = A5 108 (d - 1) := by
        unfold q111_X10_relsHold_60_45
        rw [e102, cg1, ← hst (d - 1) (by omega)]
        congr 1; omega
      have e121 : q121_X10_relsHold_60_45 n I A J t (nI r) A20 (nI (base + d)) (nI i) = A5 108 (d - 2) := by
        unfold q121_X10_relsHold_60_45
        rw [e102, eg, cg, ← hst (d - 2) (by omega)]
        congr 1; omega
      have r77 : q77_X12_value_68 n I2 A2 J2 t2 y1 y2 A5 (nI d) (nI (P + p)) = A5 108 (d - 2) ∧ q85_X12_value_68 n I2 A2 J2 t2 y1 y2 A5 (nI d) (nI (P + p)) = A5 108 (d - 1) := by
        unfold q77_X12_value_68 q85_X12_value_68 q66_X12_value_68
        obtain ⟨d, rfl⟩ : ∃ g, d = g + 2 := ⟨d - 2, by omega⟩
        have u1 : nI (d + 2) + (-1) = nI (d + 1) := pk_m1 (d + 1)
        have u2 : nI (d + 1) - 1 = nI d := nI_pred d
        rw [u1, u2, nI_clamp (by omega), nI_clamp (by omega)]
        exact ⟨rfl, rfl⟩
      have e146 : qA146_X10_relsHold_60_45 n I A J t (nI r) A20 (nI (base + d)) (nI i) = cw_u A20 67 (base + d - 2) (px_X10_reckon n I A20 J t s (A5 108 (d - 2)) (A5 108 (d - 1))) := by
        unfold qA146_X10_relsHold_60_45
        rw [e102, eg, cg, q38, hs, e121, e111]
        congr 1; omega
      have eb : base + (d - 1) = g + 1 := by omega
      refine oper (px_X10_reckon n I A20 J t s (A5 108 (d - 2)) (A5 108 (d - 1))) h2 hd2 hrun ?_ ?_ ?_
      · unfold qs2m102_X12_value_68 qs2m121_X12_value_68 px_X10_reckon qs0m11_X10_reckon
        rw [cp, r77.1, r77.2]
        rcases hop with ⟨m1, m2⟩ | ⟨m1, m2⟩ | ⟨m1, m2⟩
        · have : s = 4 := hs.symm.trans m1
          subst this
          rw [m2, if_pos rfl, if_pos rfl]
        · have : s = 5 := hs.symm.trans m1
          subst this
          rw [m2, if_neg (by decide), if_pos rfl, if_neg (by decide), if_pos rfl]
        · have : s = 6 := hs.symm.trans m1
          subst this
          rw [m2, if_neg (by decide), if_neg (by decide), if_neg (by decide), if_neg (by decide)]
      · conv => lhs; unfold lp_X10_relsHold_60_45_20
        rw [cr, if_neg c4, q38, hs, if_neg s2, if_pos s20, if_pos d2, if_neg s7, e146, e102, e4, eb]
      · intro q
        rw [eb] at q
        unfold lb_X10_relsHold_60_45_20
        rw [cr, q38, hs, e102, eg, e146, e4]
        have v1 : vp_in (nI (g + 1)) 16 := vp_in_nI (by omega) (by decide)
        have v0 : vp_in (nI g) 16 := vp_in_nI (by omega) (by decide)
        exact ⟨vr, fun _ => ⟨vi, fun z => absurd z s2, fun _ => ⟨fun _ _ => ⟨v1, v0, fun z => absurd z s7, fun _ => ⟨v0, q⟩⟩, fun z => absurd s20 z⟩⟩⟩
