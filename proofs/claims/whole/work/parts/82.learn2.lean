/-! the two loops side by side; correction and strength -/
section Learn2
variable {n : Nat} {I A I2 A2 I0 A0 : Nat → Nat → Int32} {J J2 : Nat → Nat → Int64} {t t2 : Bool × Bool}
theorem lr_loop {N m s l b : Nat} (hN : N ≤ m) (hm : m ≤ 300) (h1 : I 19 9 = nI m) (hl : rl_lands I A I2 A2) (hs : rl_sites I A I2 A2) (hh : rl_sheets A A2) (hf : ∀ f, f < 300 → rl_fact A A2 f) (s4 : s < 4) (l8 : l < 8) (b6 : b < 6) :
    ∀ (j k f f2 : Nat) (A9 I9 : Nat → Nat → Int32) (sum : Int32) (c : Nat), k + j = N → j < f → j < f2 → lr_ag A A9 → lr_aI I2 I9 → A9 30 (lr_p s l b) = sum → A9 31 (lr_p s l b) = nI c → c ≤ k → -198 * (c : Int) ≤ sum.toInt → sum.toInt ≤ 198 * (c : Int) →
    lb_X11_learn_0_9 n I A0 J t (nI N) f A9 (nI k) ∧ lb_X12_corrected_68_9 n I0 A2 J2 t2 (nI s) (nI l) (nI b) (nI N) f2 I9 sum (nI c) (nI k) ∧
    ∃ (S : Int32) (C : Nat), C ≤ N ∧ -198 * (C : Int) ≤ S.toInt ∧ S.toInt ≤ 198 * (C : Int) ∧ (lp_X11_learn_0_9 n I A0 J t (nI N) f A9 (nI k)).1 30 (lr_p s l b) = S ∧ (lp_X11_learn_0_9 n I A0 J t (nI N) f A9 (nI k)).1 31 (lr_p s l b) = nI C ∧ (lp_X12_corrected_68_9 n I0 A2 J2 t2 (nI s) (nI l) (nI b) (nI N) f2 I9 sum (nI c) (nI k)).2.1 = S ∧ (lp_X12_corrected_68_9 n I0 A2 J2 t2 (nI s) (nI l) (nI b) (nI N) f2 I9 sum (nI c) (nI k)).2.2.1 = nI C := by
  intro j
  induction j with
  | zero =>
    intro k f f2 A9 I9 sum c hk hf1 hf2 a ai e30 e31 hc b1 b2
    obtain ⟨f, rfl⟩ : ∃ g, f = g + 1 := ⟨f - 1, by omega⟩
    obtain ⟨f2, rfl⟩ : ∃ g, f2 = g + 1 := ⟨f2 - 1, by omega⟩
    have z : nI N ≤ nI k := nI_le (by omega) (by omega)
    unfold lb_X11_learn_0_9 lb_X12_corrected_68_9 lp_X11_learn_0_9 lp_X12_corrected_68_9
    rw [if_pos z, if_pos z]
    exact ⟨fun q => absurd z q, fun q => absurd z q, sum, c, by omega, b1, b2, e30, e31, rfl, rfl⟩
  | succ j ih =>
    intro k f f2 A9 I9 sum c hk hf1 hf2 a ai e30 e31 hc b1 b2
    obtain ⟨f, rfl⟩ : ∃ g, f = g + 1 := ⟨f - 1, by omega⟩
    obtain ⟨f2, rfl⟩ : ∃ g, f2 = g + 1 := ⟨f2 - 1, by omega⟩
    have z : ¬ nI N ≤ nI k := nI_ge (by omega) (by omega)
    have ck : (nI k).toNatClampNeg = k := nI_clamp (by omega)
    have vk : vp_in (nI k) 300 := vp_in_nI (by omega) (by decide)
    have o1 : ¬ (1 : Int32) = 0 := by decide
    obtain ⟨p1, p2, p3⟩ := lr_stepC (n := n) (A0 := A0) (J := J) (t := t) (J2 := J2) (t2 := t2) (x := nI N) hm h1 (k := k) (by omega) hl hs hh (hf k (by omega)) a ai
    have e2 : q30_X11_learn_0 n I A0 J t (nI N) A9 (nI k) = nI (k + 1) := nI_1 k
    have e3 : q114_X12_corrected_68 n I0 A2 J2 t2 (nI s) (nI l) (nI b) (nI N) I9 sum (nI c) (nI k) = nI (k + 1) := nI_1 k
    unfold lb_X11_learn_0_9 lb_X12_corrected_68_9 lp_X11_learn_0_9 lp_X12_corrected_68_9
    rw [if_neg z, if_neg z, e2, e3, ck]
    rcases p3 with ⟨g1, g2⟩ | ⟨s', l', b', hs', hl', hb', g1, g2, g3, g4, g5, g6, g7⟩
    · obtain ⟨r1, r2, r3⟩ := lr_stepN (n := n) (I0 := I0) (J2 := J2) (t2 := t2) (x1 := nI s) (x2 := nI l) (x3 := nI b) (x4 := nI N) (I9 := I9) (sum := sum) (many := nI c) (k := k) (by omega) g1
      rw [g2, r1, r2, r3]
      obtain ⟨i1, i2, i3⟩ := ih (k + 1) f f2 A9 I9 sum c (by omega) (by omega) (by omega) a ai e30 e31 (by omega) b1 b2
      exact ⟨fun _ => ⟨p1, p2, i1⟩, fun _ => ⟨vk, fun q => absurd (g1.symm.trans q) o1, i2⟩, i3⟩
    · obtain ⟨R1, R2⟩ := lr_stepR (n := n) (I0 := I0) (J2 := J2) (t2 := t2) (x4 := nI N) (I9 := I9) (sum := sum) (many := nI c) (k := k) (by omega) s4 l8 b6 hs' hl' hb' g1 g2 g3 g4
      by_cases q : s' = s ∧ l' = l ∧ b' = b
      · obtain ⟨r1, r2, r3⟩ := R1 q
        obtain ⟨q1, q2, q3⟩ := q
        subst q1; subst q2; subst q3
        rw [g6, r1, r2, r3]
        have ai2 := lr_toldI (n := n) (A2 := A2) (J2 := J2) (t2 := t2) (x1 := nI s') (x2 := nI l') (x3 := nI b') (x4 := A2 100 k) (x5 := A2 104 k) ai
        by_cases w : lr_v n I9 A2 J2 t2 s' l' b' k = -1000000
        · simp only [if_pos w]
          obtain ⟨i1, i2, i3⟩ := ih (k + 1) f f2 A9 _ sum c (by omega) (by omega) (by omega) a ai2 e30 e31 (by omega) b1 b2
          exact ⟨fun _ => ⟨p1, p2, i1⟩, fun _ => ⟨vk, fun _ => ⟨vk, fun _ => ⟨vk, fun _ => ⟨vk, fun _ => ⟨vk, vk, g5, fun _ => vk⟩⟩⟩⟩, i2⟩, i3⟩
        · simp only [if_neg w]
          rcases g7 with g7 | ⟨g7, g8⟩
          · exact absurd g7 w
          have es : (sum + (A2 106 k - lr_v n I9 A2 J2 t2 s' l' b' k)).toInt = sum.toInt + (A2 106 k - lr_v n I9 A2 J2 t2 s' l' b' k).toInt := tI_add (by omega) (by omega)
          obtain ⟨i1, i2, i3⟩ := ih (k + 1) f f2 (cw_u (cw_u A9 30 (lr_p s' l' b') (A9 30 (lr_p s' l' b') + (A2 106 k - lr_v n I9 A2 J2 t2 s' l' b' k))) 31 (lr_p s' l' b') (A9 31 (lr_p s' l' b') + 1)) _ (sum + (A2 106 k - lr_v n I9 A2 J2 t2 s' l' b' k)) (c + 1) (by omega) (by omega) (by omega)
            (fun d h30 h31 => by rw [cw_u_c _ _ h31, cw_u_c _ _ h30]; exact a d h30 h31) ai2 (by rw [cw_u_c _ _ (by decide), cw_u_s, e30]) (by rw [cw_u_s, e31, nI_1]) (by omega) (by rw [es]; omega) (by rw [es]; omega)
          rw [nI_1]
          exact ⟨fun _ => ⟨p1, p2, i1⟩, fun _ => ⟨vk, fun _ => ⟨vk, fun _ => ⟨vk, fun _ => ⟨vk, fun _ => ⟨vk, vk, g5, fun _ => vk⟩⟩⟩⟩, i2⟩, i3⟩
      · obtain ⟨r1, r2, r3⟩ := R2 q
        have np : ¬ lr_p s l b = lr_p s' l' b' := fun w => q ((lr_inj l8 b6 hl' hb').mp w.symm)
        have pbR : A2 101 k = nI s → A2 102 k = nI l → A2 103 k = nI b → False := fun u1 u2 u3 => q ⟨(nI_eq (by omega) (by omega)).mp (g2.symm.trans u1), (nI_eq (by omega) (by omega)).mp (g3.symm.trans u2), (nI_eq (by omega) (by omega)).mp (g4.symm.trans u3)⟩
        rw [g6, r1, r2, r3]
        by_cases w : lr_v n I9 A2 J2 t2 s' l' b' k = -1000000
        · simp only [if_pos w]
          obtain ⟨i1, i2, i3⟩ := ih (k + 1) f f2 A9 I9 sum c (by omega) (by omega) (by omega) a ai e30 e31 (by omega) b1 b2
          exact ⟨fun _ => ⟨p1, p2, i1⟩, fun _ => ⟨vk, fun _ => ⟨vk, fun u1 => ⟨vk, fun u2 => ⟨vk, fun u3 => (pbR u1 u2 u3).elim⟩⟩⟩, i2⟩, i3⟩
        · simp only [if_neg w]
          obtain ⟨i1, i2, i3⟩ := ih (k + 1) f f2 (cw_u (cw_u A9 30 (lr_p s' l' b') (A9 30 (lr_p s' l' b') + (A2 106 k - lr_v n I9 A2 J2 t2 s' l' b' k))) 31 (lr_p s' l' b') (A9 31 (lr_p s' l' b') + 1)) I9 sum c (by omega) (by omega) (by omega)
            (fun d h30 h31 => by rw [cw_u_c _ _ h31, cw_u_c _ _ h30]; exact a d h30 h31) ai (by rw [cw_u_c _ _ (by decide), cw_u_k _ _ np, e30]) (by rw [cw_u_k _ _ np, cw_u_c _ _ (by decide), e31]) (by omega) b1 b2
          exact ⟨fun _ => ⟨p1, p2, i1⟩, fun _ => ⟨vk, fun _ => ⟨vk, fun u1 => ⟨vk, fun u2 => ⟨vk, fun u3 => (pbR u1 u2 u3).elim⟩⟩⟩, i2⟩, i3⟩
/-- rounding down -/
theorem lr_neg {x : Int32} : x < 0 ↔ x.toBitVec.msb = true := by
  rw [tI_lt, BitVec.msb_eq_toInt]
  have z0 : (0 : Int32).toInt = 0 := rfl
  rw [z0, decide_eq_true_iff]
  exact Iff.rfl
theorem lr_xor {x y : Int32} (hy : ¬ y < 0) : (x ^^^ y) < 0 ↔ x < 0 := by
  rw [lr_neg, lr_neg, Int32.toBitVec_xor, BitVec.msb_xor]
  have : y.toBitVec.msb = false := by
    cases h : y.toBitVec.msb with
    | false => rfl
    | true => exact absurd (lr_neg.mpr h) hy
  rw [this, Bool.xor_false]
theorem lr_floor {S : Int32} {C : Nat} (hC : C ≤ 300) (hC0 : ¬ nI C = 0) (b1 : -198 * (C : Int) ≤ S.toInt) (b2 : S.toInt ≤ 198 * (C : Int)) :
    px_J9_floorDiv_7cf53 n I A J t S (nI C) = (if 0 ≤ cw_rem S (nI C) then S / nI C else (S / nI C) - 1) ∧ -198 ≤ (px_J9_floorDiv_7cf53 n I A J t S (nI C)).toInt ∧ (px_J9_floorDiv_7cf53 n I A J t S (nI C)).toInt ≤ 198 := by
  have c0 : 0 < C := Nat.pos_of_ne_zero (fun q => hC0 (by rw [q]; rfl))
  have tc : (nI C).toInt = (C : Int) := tI_nI (by omega)
  have z0 : (0 : Int32).toInt = 0 := rfl
  have o1 : (1 : Int32).toInt = 1 := rfl
  have cn : ¬ nI C < 0 := nI_pos (by omega)
  obtain ⟨a, ha⟩ : ∃ a : Nat, a = S.toInt.natAbs := ⟨_, rfl⟩
  have ha2 : a ≤ 198 * C := by omega
  obtain ⟨u, hu⟩ : ∃ u : Nat, u = a / C := ⟨_, rfl⟩
  obtain ⟨r, hr0⟩ : ∃ r : Nat, r = a % C := ⟨_, rfl⟩
  have dm : C * u + r = a := by rw [hu, hr0]; exact Nat.div_add_mod a C
  have ml : r < C := by rw [hr0]; exact Nat.mod_lt _ c0
  have q1 : u ≤ 198 := by rw [hu]; exact Nat.div_le_of_le_mul (by rw [Nat.mul_comm]; exact ha2)
  have dmI : (C : Int) * (u : Int) + (r : Int) = (a : Int) := by exact_mod_cast dm
  have q2 : r ≠ 0 → u < 198 := fun h => by
    refine Nat.lt_of_not_le (fun w => ?_)
    have := Nat.mul_le_mul_left C w
    omega
  unfold px_J9_floorDiv_7cf53 q3_J9_floorDiv_7cf53 cw_rem
  by_cases hS : S < 0
  · have sx : ¬ 0 ≤ S ^^^ nI C := Int32.not_le.mpr ((lr_xor cn).mpr hS)
    have hs2 : S.toInt = -(a : Int) := by
      have := tI_lt.mp hS
      omega
    have hd : (S / nI C).toInt = -(u : Int) := by
      rw [Int32.toInt_div, tc, hs2, Int.neg_tdiv, ← Int.ofNat_tdiv, ← hu]
      exact Int.bmod_eq_of_le (by omega) (by omega)
    have hx : (S / nI C * nI C).toInt = -((C : Int) * (u : Int)) := by
      have e : (S / nI C).toInt * (nI C).toInt = -((C : Int) * (u : Int)) := by
        rw [hd, tc, Int.neg_mul, Int.mul_comm]
      rw [tI_mul (by rw [e]; omega) (by rw [e]; omega), e]
    have hr : (S - S / nI C * nI C).toInt = -(r : Int) := by
      rw [tI_sub (by rw [hx]; omega) (by rw [hx]; omega), hx, hs2]
      omega
    have eq1 : S / nI C * nI C = S ↔ r = 0 := by
      rw [tI_eq, hx, hs2]
      omega
    have eq2 : 0 ≤ S - S / nI C * nI C ↔ r = 0 := by
      rw [tI_le, hr, z0]
      omega
    rw [if_neg sx]
    simp only [eq1, eq2]
    refine ⟨trivial, ?_⟩
    by_cases w : r = 0
    · rw [if_pos w, hd]
      omega
    · have := q2 w
      rw [if_neg w, tI_sub (by rw [hd, o1]; omega) (by rw [hd, o1]; omega), hd, o1]
      omega
  · have sx : 0 ≤ S ^^^ nI C := Int32.not_lt.mp (fun q => hS ((lr_xor cn).mp q))
    have hs2 : S.toInt = (a : Int) := by
      have : ¬ S.toInt < 0 := fun q => hS (tI_lt.mpr q)
      omega
    have hd : (S / nI C).toInt = (u : Int) := by
      rw [Int32.toInt_div, tc, hs2, ← Int.ofNat_tdiv, ← hu]
      exact Int.bmod_eq_of_le (by omega) (by omega)
    have hx : (S / nI C * nI C).toInt = (C : Int) * (u : Int) := by
      have e : (S / nI C).toInt * (nI C).toInt = (C : Int) * (u : Int) := by
        rw [hd, tc, Int.mul_comm]
      rw [tI_mul (by rw [e]; omega) (by rw [e]; omega), e]
    have hr : (S - S / nI C * nI C).toInt = (r : Int) := by
      rw [tI_sub (by rw [hx]; omega) (by rw [hx]; omega), hx, hs2]
      omega
    have eq2 : 0 ≤ S - S / nI C * nI C := by
      rw [tI_le, hr, z0]
      omega
    rw [if_pos sx, if_pos eq2, hd]
    exact ⟨rfl, by omega, by omega⟩
/-- behind the class's learning the means are the reference's -/
theorem lr_learn {N m : Nat} (hn : 400 ≤ n) (hN : N ≤ m) (hm : m ≤ 300) (h1 : I 19 9 = nI m) (hl : rl_lands I A I2 A2) (hs : rl_sites I A I2 A2) (hh : rl_sheets A A2) (hf : ∀ f, f < 300 → rl_fact A A2 f) :
    pb_X11_learn_0 n I A J t (nI N) ∧ lr_ag A (pA_X11_learn_0 n I A J t (nI N)) ∧ ∀ s l b I9 I8 A9 J9 t9, s < 4 → l < 8 → b < 6 → lr_aI I2 I9 → A9 30 = pA_X11_learn_0 n I A J t (nI N) 30 → A9 31 = pA_X11_learn_0 n I A J t (nI N) 31 → pb_X12_corrected_68 n I9 A2 J2 t2 (nI s) (nI l) (nI b) (nI N) ∧ pb_X0_mean_29 n I8 A9 J9 t9 (nI s) (nI l) (nI b) ∧ px_X12_corrected_68 n I9 A2 J2 t2 (nI s) (nI l) (nI b) (nI N) = px_X0_mean_29 n I8 A9 J9 t9 (nI s) (nI l) (nI b) ∧ -198 ≤ (px_X0_mean_29 n I8 A9 J9 t9 (nI s) (nI l) (nI b)).toInt ∧ (px_X0_mean_29 n I8 A9 J9 t9 (nI s) (nI l) (nI b)).toInt ≤ 198 := by
  have F30 := fl_30 (n := n) (I := I) (A := A) (J := J) (t := t) (x := 0) (by omega)
  have F31 := fl_31 (n := n) (I := I) (A := pA_J7_fill_53178_30 n I A J t 0) (J := J) (t := t) (x := 0) (by omega)
  have r30 : ∀ j, j < 192 → pA_X0_renew_29 n I A J t 30 j = 0 := fun j hj => by
    unfold pA_X0_renew_29
    rw [fr_pA_J7_fill_53178_31 (by decide)]
    exact F30.2 j hj
  have r31 : ∀ j, j < 192 → pA_X0_renew_29 n I A J t 31 j = 0 := fun j hj => F31.2 j hj
  have ag0 : lr_ag A (pA_X0_renew_29 n I A J t) := fun c h30 h31 => fr_pA_X0_renew_29 (by simp [h30, h31])
  have ag1 : lr_ag A (pA_X11_learn_0 n I A J t (nI N)) := fun c h30 h31 => fr_pA_X11_learn_0 (by simp [h30, h31])
  have L : ∀ s l b I9, s < 4 → l < 8 → b < 6 → lr_aI I2 I9 → _ := fun s l b I9 s4 l8 b6 ai => lr_loop (n := n) (I := I) (A := A) (I2 := I2) (A2 := A2) (I0 := I9) (A0 := A) (J := J) (J2 := J2) (t := t) (t2 := t2) hN hm h1 hl hs hh hf s4 l8 b6 N 0 n n (pA_X0_renew_29 n I A J t) I9 0 0 (by omega) (by omega) (by omega) ag0 ai (r30 _ (by unfold lr_p; omega)) (r31 _ (by unfold lr_p; omega)) (by omega) (by decide) (by decide)
  have aI0 : lr_aI I2 I2 := fun _ _ _ _ => rfl
  refine ⟨⟨⟨F30.1, F31.1⟩, (L 0 0 0 I2 (by omega) (by omega) (by omega) aI0).1⟩, ag1, fun s l b I9 I8 A9 J9 t9 s4 l8 b6 ai e30 e31 => ?_⟩
  obtain ⟨-, p2, S, C, hC, b1, b2, w1, w2, w3, w4⟩ := L s l b I9 s4 l8 b6 ai
  have hp : lr_p s l b < 192 := by unfold lr_p; omega
  have cp : (nI (lr_p s l b)).toNatClampNeg = lr_p s l b := nI_clamp (by omega)
  have v : vp_in (nI (lr_p s l b)) 192 := vp_in_nI hp (by decide)
  have w1' : A9 30 (lr_p s l b) = S := by rw [e30]; exact w1
  have w2' : A9 31 (lr_p s l b) = nI C := by rw [e31]; exact w2
  have w3' : q5w9_X12_corrected_68 n I9 A2 J2 t2 (nI s) (nI l) (nI b) (nI N) = S := w3
  have w4' : q6w9_X12_corrected_68 n I9 A2 J2 t2 (nI s) (nI l) (nI b) (nI N) = nI C := w4
  unfold pb_X12_corrected_68 pb_X0_mean_29 px_X12_corrected_68 px_X0_mean_29 qs0m15_X0_mean_29 qs0m139_X12_corrected_68 q132_X12_corrected_68 q6_X0_mean_29
  rw [w3', w4', lr_path, cp, w1', w2']
  refine ⟨⟨p2, fun q => ⟨q, q⟩⟩, ⟨v, fun q => ⟨v, v, q⟩⟩, ?_⟩
  by_cases c0 : nI C = 0
  · simp only [if_pos c0]
    exact ⟨trivial, by decide, by decide⟩
  · simp only [if_neg c0]
    obtain ⟨f1, f2⟩ := lr_floor (n := n) (I := I8) (A := A9) (J := J9) (t := t9) (by omega) c0 b1 b2
    exact ⟨f1.symm, f2⟩
end Learn2
