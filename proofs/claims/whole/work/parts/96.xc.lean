/-! the class's scanner: numbers, signs, a whole token -/
section Scan2
variable {n L : Nat} {I A : Nat → Nat → Int32} {J : Nat → Nat → Int64} {t : Bool × Bool}
theorem sn_digits {p : Nat} (hL : L ≤ 2000) : ∀ (d k f : Nat) (I0 : Nat → Nat → Int32), p + k + d = L → d < f → I0 34 1 = nI L → I0 34 2 = nI (p + k) → I0 34 4 = nI p → I0 34 5 = tz_vl (A 32) p k → lb_X7_scanInt_34_txT_0 n I A J t f I0 ∧ lp_X7_scanInt_34_txT_0 n I A J t f I0 = cw_u (cw_u I0 34 5 (tz_vl (A 32) p (tz_run tz_di (A 32) L (p + k) - p))) 34 2 (nI (tz_run tz_di (A 32) L (p + k))) := by
  intro d
  induction d with
  | zero =>
    intro k f I0 hk hf h1 h2 h4 h5
    obtain ⟨f, rfl⟩ : ∃ x, f = x + 1 := ⟨f - 1, by omega⟩
    have c : nI L ≤ nI (p + k) := nI_le (by omega) (by omega)
    have e : p + k - p = k := by omega
    unfold lb_X7_scanInt_34_txT_0 lp_X7_scanInt_34_txT_0
    rw [h1, h2, if_pos c, tz_run_n (by omega), e, cw_ue _ _ _ _ h5, cw_ue _ _ _ _ h2]
    exact ⟨fun z => absurd c z, rfl⟩
  | succ d ih =>
    intro k f I0 hk hf h1 h2 h4 h5
    obtain ⟨f, rfl⟩ : ∃ x, f = x + 1 := ⟨f - 1, by omega⟩
    have c : ¬ nI L ≤ nI (p + k) := nI_ge (by omega) (by omega)
    have ci : (nI (p + k)).toNatClampNeg = p + k := nI_clamp (by omega)
    have sb : nI (p + k) - nI p = nI k := by
      have := pk_sub (a := p + k) (b := p) (by omega)
      have e : p + k - p = k := by omega
      rw [e] at this; exact this
    have e64 : qI64_X7_scanInt_34_txT n I A J t I0 = cw_u I0 34 5 (tz_vl (A 32) p (k + 1)) := by
      unfold qI64_X7_scanInt_34_txT qs1m37_X7_scanInt_34_txT
      rw [h2, h4, sb, h5, ci]
      conv => rhs; rw [tz_vl]
      by_cases q : 4 ≤ k
      · have y : 4 ≤ nI k := nI_le (a := 4) q (by omega)
        rw [if_pos y, if_pos q]
      · have y : ¬ 4 ≤ nI k := nI_ge (b := 4) (by omega) (by omega)
        rw [if_neg y, if_neg q]
    have e74 : qI74_X7_scanInt_34_txT n I A J t I0 = cw_u (cw_u I0 34 5 (tz_vl (A 32) p (k + 1))) 34 2 (nI (p + (k + 1))) := by
      unfold qI74_X7_scanInt_34_txT
      rw [e64, cw_u_k _ _ (by decide), h2, nI_1]; rfl
    obtain ⟨i1, i2⟩ := ih (k + 1) f (cw_u (cw_u I0 34 5 (tz_vl (A 32) p (k + 1))) 34 2 (nI (p + (k + 1)))) (by omega) (by omega) (by rw [cw_u_k _ _ (by decide), cw_u_k _ _ (by decide)]; exact h1) (by rw [cw_u_s]) (by rw [cw_u_k _ _ (by decide), cw_u_k _ _ (by decide)]; exact h4) (by rw [cw_u_k _ _ (by decide), cw_u_s])
    unfold lb_X7_scanInt_34_txT_0 lp_X7_scanInt_34_txT_0
    rw [h1, h2, if_neg c, ci, e74]
    have vi : vp_in (nI (p + k)) 2000 := vp_in_nI (by omega) (by decide)
    by_cases w : tz_di (A 32 (p + k)) = true
    · have ry : tz_run tz_di (A 32) L (p + k) = tz_run tz_di (A 32) L (p + (k + 1)) := tz_run_y (by omega) w
      rw [if_neg (fun z => tz_digit.mp z w), ry, i2]
      refine ⟨fun _ => ⟨vi, fun _ => ⟨fun _ => vi, i1⟩⟩, ?_⟩
      funext a b
      simp only [cw_u]
      by_cases q1 : a = 34 ∧ b = 2
      · simp only [q1, and_self, if_true]
      · by_cases q2 : a = 34 ∧ b = 5
        · simp only [q2, and_self, if_true]
        · simp only [q1, q2, if_false]
    · have e : p + k - p = k := by omega
      rw [if_pos (tz_digit.mpr w), tz_run_n (fun z => w z.2), e, cw_ue _ _ _ _ h5, cw_ue _ _ _ _ h2]
      exact ⟨fun _ => ⟨vi, fun z => absurd (tz_digit.mpr w) z⟩, rfl⟩
theorem sn_scanInt {p : Nat} (hn : 2100 ≤ n) (hL : L ≤ 2000) (hp : p < L) (h1 : I 34 1 = nI L) (h2 : I 34 2 = nI p) (h4 : I 34 4 = nI p) (h5 : I 34 5 = 0) : pb_X7_scanInt_34_txT n I A J t ∧ pI_X7_scanInt_34_txT n I A J t = cw_u (cw_u (cw_u I 34 5 (tz_vl (A 32) p (tz_run tz_di (A 32) L p - p))) 34 2 (nI (tz_run tz_di (A 32) L p))) 34 3 (nI (if tz_run tz_di (A 32) L p - p ≤ 4 then 2 else 1)) := by
  obtain ⟨a1, a2⟩ := sn_digits (n := n) (I := I) (A := A) (J := J) (t := t) (p := p) hL (L - p) 0 n I (by omega) (by omega) h1 h2 h4 h5
  obtain ⟨b1, b2, -, -⟩ := tz_run_b (P := tz_di) (T := A 32) (L := L) (L - p) p (by omega)
  rw [Nat.add_zero] at a2
  refine ⟨a1, ?_⟩
  unfold pI_X7_scanInt_34_txT qI99_X7_scanInt_34_txT qs1m91_X7_scanInt_34_txT qIw0_X7_scanInt_34_txT
  rw [a2, cw_u_s, cw_u_k _ _ (by decide), cw_u_k _ _ (by decide), h4, pk_sub b1]
  by_cases q : tz_run tz_di (A 32) L p - p ≤ 4
  · have y : ¬ (4 : Int32) < nI (tz_run tz_di (A 32) L p - p) := nI_nlt (a := 4) q (by omega)
    rw [if_neg y, if_pos q]; rfl
  · have y : (4 : Int32) < nI (tz_run tz_di (A 32) L p - p) := nI_lt (a := 4) (by omega) (by omega)
    rw [if_pos y, if_neg q]; rfl
theorem sn_signOf {b : Int32} {q : Bool} : px_X7_signOf n I A J t b (if q = true then 1 else 0) = nI (tz_sg b q) := by
  unfold px_X7_signOf qs0m171_X7_signOf qs0m148_X7_signOf qs0m160_X7_signOf tz_sg
  have o1 : ¬ (1 : Int32) = 0 := by decide
  by_cases c33 : b = 33
  · subst c33
    cases q <;> decide
  by_cases c40 : b = 40
  · subst c40
    cases q <;> decide
  by_cases c41 : b = 41
  · subst c41
    cases q <;> decide
  by_cases c42 : b = 42
  · subst c42
    cases q <;> decide
  by_cases c43 : b = 43
  · subst c43
    cases q <;> decide
  by_cases c45 : b = 45
  · subst c45
    cases q <;> decide
  by_cases c59 : b = 59
  · subst c59
    cases q <;> decide
  by_cases c60 : b = 60
  · subst c60
    cases q <;> decide
  by_cases c61 : b = 61
  · subst c61
    cases q <;> decide
  simp only [c33, c40, c41, c42, c43, c45, c59, c60, c61, if_false, ite_self]
  rfl
theorem tz_sg_b (b : Int32) (q : Bool) : tz_sg b q ≤ 12 := by
  unfold tz_sg
  repeat' split
  all_goals omega
theorem sn_scanSign {p : Nat} (hL : L ≤ 2000) (hp : p < L) (h1 : I 34 1 = nI L) (h2 : I 34 2 = nI p) : pb_X7_scanSign_34_txT n I A J t ∧ pI_X7_scanSign_34_txT n I A J t = cw_u (cw_u I 34 3 (nI (tz_sg (A 32 p) (tz_eq (A 32) L p)))) 34 2 (nI (p + tz_ln (tz_sg (A 32 p) (tz_eq (A 32) L p)))) := by
  have e10 : qs0m10_X7_scanSign_34_txT n I A J t = if tz_eq (A 32) L p = true then 1 else 0 := by
    unfold qs0m10_X7_scanSign_34_txT qs0m26_X7_scanSign_34_txT tz_eq
    rw [h1, h2, nI_1]
    by_cases q : L ≤ p + 1
    · rw [if_pos (nI_le q (by omega)), if_neg (fun z => by have := (of_decide_eq_true z).1; omega)]
    · rw [if_neg (nI_ge (by omega) (by omega)), nI_clamp (by omega)]
      by_cases w : A 32 (p + 1) = 61
      · rw [if_pos w, if_pos (decide_eq_true ⟨by omega, w⟩)]
      · rw [if_neg w, if_neg (fun z => w (of_decide_eq_true z).2)]
  have e49 : qI49_X7_scanSign_34_txT n I A J t = cw_u I 34 3 (nI (tz_sg (A 32 p) (tz_eq (A 32) L p))) := by
    unfold qI49_X7_scanSign_34_txT
    rw [h2, nI_clamp (by omega), e10, sn_signOf]
  have sb := tz_sg_b (A 32 p) (tz_eq (A 32) L p)
  have e91 : qs2m91_X7_scanSign_34_txT n I A J t = nI (tz_ln (tz_sg (A 32 p) (tz_eq (A 32) L p))) := by
    unfold qs2m91_X7_scanSign_34_txT qs0m58_X7_scanSign_34_txT qs0m67_X7_scanSign_34_txT qs0m76_X7_scanSign_34_txT tz_ln
    rw [e49, cw_u_s]
    have i7 : nI (tz_sg (A 32 p) (tz_eq (A 32) L p)) = 7 ↔ tz_sg (A 32 p) (tz_eq (A 32) L p) = 7 := nI_eq (b := 7) (by omega) (by omega)
    have i8 : nI (tz_sg (A 32 p) (tz_eq (A 32) L p)) = 8 ↔ tz_sg (A 32 p) (tz_eq (A 32) L p) = 8 := nI_eq (b := 8) (by omega) (by omega)
    have i10 : nI (tz_sg (A 32 p) (tz_eq (A 32) L p)) = 10 ↔ tz_sg (A 32 p) (tz_eq (A 32) L p) = 10 := nI_eq (b := 10) (by omega) (by omega)
    have o1 : ¬ (1 : Int32) = 0 := by decide
    simp only [i7, i8, i10]
    by_cases w7 : tz_sg (A 32 p) (tz_eq (A 32) L p) = 7
    · rw [if_pos w7, if_neg o1, if_pos (by omega)]; rfl
    · rw [if_neg w7]
      by_cases w8 : tz_sg (A 32 p) (tz_eq (A 32) L p) = 8
      · rw [if_pos w8, if_neg o1, if_pos (by omega)]; rfl
      · rw [if_neg w8]
        by_cases w10 : tz_sg (A 32 p) (tz_eq (A 32) L p) = 10
        · rw [if_pos w10, if_neg o1, if_pos (by omega)]; rfl
        · rw [if_neg w10, if_pos rfl, if_neg (by omega)]; rfl
  unfold pb_X7_scanSign_34_txT pI_X7_scanSign_34_txT qI100_X7_scanSign_34_txT
  rw [e91, e49, cw_u_k _ _ (by decide), h1, h2, nI_1, nI_add]
  refine ⟨⟨fun z => ?_, vp_in_nI (by omega) (by decide)⟩, rfl⟩
  have : p + 1 < L := Nat.lt_of_not_le (fun y => z (nI_le y (by omega)))
  exact vp_in_nI (by omega) (by decide)
/-- a whole token -/
theorem sn_advance {i : Nat} (hn : 2100 ≤ n) (hL : L ≤ 2000) (hi : i ≤ L) (h1 : I 34 1 = nI L) (h2 : I 34 2 = nI i) : pb_X7_advance_34_txT n I A J t ∧ pI_X7_advance_34_txT n I A J t 34 2 = nI (tz_j (A 32) L i) ∧ pI_X7_advance_34_txT n I A J t 34 3 = nI (tz_k (A 32) L i) ∧ pI_X7_advance_34_txT n I A J t 34 4 = nI (tz_p (A 32) L i) ∧ pI_X7_advance_34_txT n I A J t 34 5 = tz_v (A 32) L i ∧ pI_X7_advance_34_txT n I A J t 34 1 = nI L := by
  obtain ⟨a1, a2⟩ := sn_blank (n := n) (I := I) (A := A) (J := J) (t := (t.1, true)) hL h1 (L - i) i n (by omega) (by omega)
  obtain ⟨b1, b2, b3, -⟩ := tz_run_b (P := tz_bl) (T := A 32) (L := L) (L - i) i (by omega)
  have ebb : px_X7_behindBlanks_34_txT n I A J (t.1, true) = nI (tz_p (A 32) L i) := by
    unfold px_X7_behindBlanks_34_txT q1w5_X7_behindBlanks_34_txT q4_X7_behindBlanks_34_txT
    rw [h2]; exact a2
  have pbb : pb_X7_behindBlanks_34_txT n I A J (t.1, true) := by
    unfold pb_X7_behindBlanks_34_txT q4_X7_behindBlanks_34_txT
    rw [h2]; exact a1
  have hp1 : i ≤ tz_p (A 32) L i := b1
  have hp2 : tz_p (A 32) L i ≤ L := b2
  have e18 : qI18_X7_advance_34_txT n I A J t = cw_u (cw_u (cw_u I 34 2 (nI (tz_p (A 32) L i))) 34 4 (nI (tz_p (A 32) L i))) 34 5 0 := by
    unfold qI18_X7_advance_34_txT qI13_X7_advance_34_txT qI5_X7_advance_34_txT
    rw [ebb, cw_u_s]
  have g1 : qI18_X7_advance_34_txT n I A J t 34 1 = nI L := by rw [e18, cw_u_k _ _ (by decide), cw_u_k _ _ (by decide), cw_u_k _ _ (by decide)]; exact h1
  have g2 : qI18_X7_advance_34_txT n I A J t 34 2 = nI (tz_p (A 32) L i) := by rw [e18, cw_u_k _ _ (by decide), cw_u_k _ _ (by decide), cw_u_s]
  have g4 : qI18_X7_advance_34_txT n I A J t 34 4 = nI (tz_p (A 32) L i) := by rw [e18, cw_u_k _ _ (by decide), cw_u_s]
  have g5 : qI18_X7_advance_34_txT n I A J t 34 5 = 0 := by rw [e18, cw_u_s]
  have f1 : pI_X7_advance_34_txT n I A J t 34 1 = nI L := by rw [fr_pI_X7_advance_34_txT (by decide)]; exact h1
  unfold pb_X7_advance_34_txT
  by_cases w : L ≤ tz_p (A 32) L i
  · have c : ¬ nI (tz_p (A 32) L i) < nI L := nI_nlt w (by omega)
    have eI : pI_X7_advance_34_txT n I A J t = cw_u (qI18_X7_advance_34_txT n I A J t) 34 3 0 := by
      unfold pI_X7_advance_34_txT qIm29_X7_advance_34_txT qI34_X7_advance_34_txT
      rw [g1, g2, if_neg c]
    rw [f1, eI, g1, g2, cw_u_k _ _ (by decide), cw_u_s, cw_u_k _ _ (by decide), cw_u_k _ _ (by decide), g2, g4, g5]
    unfold tz_j tz_k tz_v
    rw [if_pos w, if_pos w, if_pos w]
    exact ⟨⟨pbb, fun z => absurd z c⟩, rfl, rfl, rfl, rfl, rfl⟩
  · have c : nI (tz_p (A 32) L i) < nI L := nI_lt (by omega) (by omega)
    have cl : (nI (tz_p (A 32) L i)).toNatClampNeg = tz_p (A 32) L i := nI_clamp (by omega)
    have vi : vp_in (nI (tz_p (A 32) L i)) 2000 := vp_in_nI (by omega) (by decide)
    obtain ⟨w1, w2⟩ := sn_scanWord (n := n) (I := qI18_X7_advance_34_txT n I A J t) (A := A) (J := J) (t := (t.1, true)) hn hL (by omega) g1 g2 g4
    obtain ⟨d1, d2⟩ := sn_scanInt (n := n) (I := qI18_X7_advance_34_txT n I A J t) (A := A) (J := J) (t := (t.1, true)) hn hL (by omega) g1 g2 g4 g5
    obtain ⟨s1, s2⟩ := sn_scanSign (n := n) (I := qI18_X7_advance_34_txT n I A J t) (A := A) (J := J) (t := (t.1, true)) hL (by omega) g1 g2
    refine ⟨⟨pbb, fun _ => ⟨by rw [g2]; exact vi, fun _ => ⟨by rw [g2]; exact vi, fun _ => s1, fun _ => d1⟩, fun _ => w1⟩⟩, ?_⟩
    rw [f1]
    unfold tz_j tz_k tz_v
    rw [if_neg w, if_neg w, if_neg w]
    by_cases y : tz_le (A 32 (tz_p (A 32) L i)) = true
    · have eI : pI_X7_advance_34_txT n I A J t = pI_X7_scanWord_34_txT n (qI18_X7_advance_34_txT n I A J t) A J (t.1, true) := by
        unfold pI_X7_advance_34_txT qIm29_X7_advance_34_txT qIm52_X7_advance_34_txT
        rw [g1, g2, if_pos c, cl, if_neg (fun z => tz_letter.mp z y)]
      rw [eI, w2, if_pos y, if_pos y, if_pos y, cw_u_k _ _ (by decide), cw_u_s, cw_u_s, cw_u_k _ _ (by decide), cw_u_k _ _ (by decide), cw_u_k _ _ (by decide), cw_u_k _ _ (by decide), g4, g5]
      exact ⟨rfl, rfl, rfl, rfl, rfl⟩
    · rw [if_neg y, if_neg y, if_neg y]
      by_cases u : tz_di (A 32 (tz_p (A 32) L i)) = true
      · have eI : pI_X7_advance_34_txT n I A J t = pI_X7_scanInt_34_txT n (qI18_X7_advance_34_txT n I A J t) A J (t.1, true) := by
          unfold pI_X7_advance_34_txT qIm29_X7_advance_34_txT qIm52_X7_advance_34_txT qIm74_X7_advance_34_txT
          rw [g1, g2, if_pos c, cl, if_pos (tz_letter.mpr y), if_neg (fun z => tz_digit.mp z u)]
        rw [eI, d2, if_pos u, if_pos u, if_pos u, cw_u_k _ _ (by decide), cw_u_s, cw_u_s, cw_u_k _ _ (by decide), cw_u_k _ _ (by decide), cw_u_k _ _ (by decide), cw_u_k _ _ (by decide), cw_u_k _ _ (by decide), cw_u_s, g4]
        exact ⟨rfl, rfl, rfl, rfl, rfl⟩
      · have eI : pI_X7_advance_34_txT n I A J t = pI_X7_scanSign_34_txT n (qI18_X7_advance_34_txT n I A J t) A J (t.1, true) := by
          unfold pI_X7_advance_34_txT qIm29_X7_advance_34_txT qIm52_X7_advance_34_txT qIm74_X7_advance_34_txT
          rw [g1, g2, if_pos c, cl, if_pos (tz_letter.mpr y), if_pos (tz_digit.mpr u)]
        rw [eI, s2, if_neg u, if_neg u, if_neg u, cw_u_s, cw_u_k _ _ (by decide), cw_u_s, cw_u_k _ _ (by decide), cw_u_k _ _ (by decide), cw_u_k _ _ (by decide), cw_u_k _ _ (by decide), g4, g5]
        exact ⟨rfl, rfl, rfl, rfl, rfl⟩
end Scan2
