/-! an expression on both sides: its loops -/
section El
variable {c n L C v w0 R p0 z r ks : Nat} {T : Nat → Int32} {th fi be wr x1 : Int32} {I0 A0 Is As A2s : Nat → Nat → Int32} {J : Nat → Nat → Int64} {t : Bool × Bool}
variable {s k m d e D dep p : Nat} {I A I2 A2 Ix Ax I12 A12 : Nat → Nat → Int32} {J2 : Nat → Nat → Int64} {t2 : Bool × Bool} {v2 : Int32}
theorem EF_is {x : Int32} (h : EF c n L C v w0 R p0 z r ks T th fi be wr x1 I0 A0 Is As A2s J t I2 A2) : pb_X12_is_68 n I2 A2 J2 t2 x ∧ px_X12_is_68 n I2 A2 J2 t2 x = 0 := by
  obtain ⟨fa, q, m, p, I', A', h, -⟩ := h
  exact MF_is h
theorem EF_200 (h : EF c n L C v w0 R p0 z r ks T th fi be wr x1 I0 A0 Is As A2s J t I2 A2) : ∀ f, 0 < f → lb_X12_expression_68_200 n Ix Ax J2 t2 I12 A12 v2 f I2 A2 ∧ lp_X12_expression_68_200 n Ix Ax J2 t2 I12 A12 v2 f I2 A2 = (I2, A2) := by
  intro f hf
  obtain ⟨f, rfl⟩ : ∃ g, f = g + 1 := ⟨f - 1, by omega⟩
  have i := EF_is (J2 := J2) (t2 := t2) (x := 7) h
  constructor
  · unfold lb_X12_expression_68_200
    exact ⟨i.1, fun z => absurd i.2 z⟩
  · rw [lp_X12_expression_68_200]
    rw [if_pos i.2]
theorem EF_12 (h : EF c n L C v w0 R p0 z r ks T th fi be wr x1 I0 A0 Is As A2s J t I2 A2) : ∀ f, 0 < f → lb_X12_expression_68_12 n Ix Ax J2 t2 f I2 A2 1 ∧ lp_X12_expression_68_12 n Ix Ax J2 t2 f I2 A2 1 = (I2, A2) := by
  intro f hf
  obtain ⟨f, rfl⟩ : ∃ g, f = g + 1 := ⟨f - 1, by omega⟩
  have z : ¬ I2 68 13 = 0 := by
    obtain ⟨fa, q, m, p, I', A', h, -⟩ := h
    exact (MF_p h).2
  constructor
  · unfold lb_X12_expression_68_12
    exact fun _ y => absurd y z
  · rw [lp_X12_expression_68_12]
    rw [if_neg (show ¬ (1 : Int32) = 0 by decide), if_neg z]
theorem EF_out (hn : 2100 ≤ n) (hv : v < 2) {x : Int32} (h : EF c n L C v w0 R p0 z r ks T th fi be wr x1 I0 A0 Is As A2s J t I2 A2) : pb_X12_comesOut_68 n I2 A2 J2 t2 x ∧ EF c n L C v w0 R p0 z r ks T th fi be wr x1 I0 A0 Is As A2s J t (pI_X12_comesOut_68 n I2 A2 J2 t2 x) (pA_X12_comesOut_68 n I2 A2 J2 t2 x) := by
  obtain ⟨fa, q, m, p, I', A', h1, h2, h3, h4, h5⟩ := h
  obtain ⟨r1, r2, m', p', r3, r4⟩ := MF_out (n := n) (J := J2) (t := t2) (x := x) hn hv h1 h2 h5
  exact ⟨r1, fa, q, m', p', I', A', r3, r4, h3, h4, r2⟩
theorem ex_cl (hc : c = 37 ∨ c = 60) (hn : 2100 ≤ n) (hL : L ≤ 2000) (hv : v < 2) (hT : RT T L C A2s) (hb : wb w0 As) (h9 : q9_X12_expression_68 n Ix Ax J2 t2 = 0) : ∀ (N f k m d e D p : Nat) (I A I2 A2 : Nat → Nat → Int32), k + N = 401 → N < f → ES c n L C v w0 R p0 z r ks T th fi be wr x1 I0 A0 Is As A2s J t 8 k m d e D (D + 1) p I A I2 A2 →
    lb_X12_expression_68_200 n Ix Ax J2 t2 I12 A12 v2 f I2 A2 ∧ (EF c n L C v w0 R p0 z r ks T th fi be wr x1 I0 A0 Is As A2s J t (lp_X12_expression_68_200 n Ix Ax J2 t2 I12 A12 v2 f I2 A2).1 (lp_X12_expression_68_200 n Ix Ax J2 t2 I12 A12 v2 f I2 A2).2 ∨ ∃ k' m' d' e' D' p' I' A', ES c n L C v w0 R p0 z r ks T th fi be wr x1 I0 A0 Is As A2s J t 8 k' m' d' e' D' (D' + 1) p' I' A' (lp_X12_expression_68_200 n Ix Ax J2 t2 I12 A12 v2 f I2 A2).1 (lp_X12_expression_68_200 n Ix Ax J2 t2 I12 A12 v2 f I2 A2).2 ∧ ¬ (kK T L k' = 12 ∧ 0 < d') ∧ k ≤ k') := by
  intro N
  induction N with
  | zero =>
    intro f k m d e D p I A I2 A2 hN hf H
    have := (RT_k hT H.1).1
    omega
  | succ N ih =>
    intro f k m d e D p I A I2 A2 hN hf H
    obtain ⟨f, rfl⟩ : ∃ g, f = g + 1 := ⟨f - 1, by omega⟩
    have H0 := H
    obtain ⟨hk, hR, hC, hI, hX, hB, hS, hFC, hFQ⟩ := H
    have hT2 := es_T hT hFQ
    have i7 := ri_is (n := n) (J := J2) (t := t2) hT2 hk hI (μ := 12) (by decide) (by decide) (x := 7) rfl
    have o1 : ¬ (1 : Int32) = 0 := by decide
    by_cases hK : kK T L k = 12
    · rw [if_pos hK] at i7
      have n7 : ¬ px_X12_is_68 n I2 A2 J2 t2 7 = 0 := by rw [i7.2]; exact o1
      by_cases hd : d = 0
      · have z : I2 68 12 ≤ q9_X12_expression_68 n Ix Ax J2 t2 := by rw [h9, hI.2.2.1, hd]; decide
        have elp : lp_X12_expression_68_200 n Ix Ax J2 t2 I12 A12 v2 (f + 1) I2 A2 = (I2, A2) := by
          rw [lp_X12_expression_68_200]
          rw [if_neg n7, if_pos z]
        rw [elp]
        refine ⟨?_, Or.inr ⟨k, m, d, e, D, p, I, A, H0, by omega, Nat.le_refl _⟩⟩
        unfold lb_X12_expression_68_200
        exact ⟨i7.1, fun _ y => absurd z y⟩
      · obtain ⟨d, rfl⟩ : ∃ g, d = g + 1 := ⟨d - 1, by omega⟩
        have z : ¬ I2 68 12 ≤ q9_X12_expression_68 n Ix Ax J2 t2 := by
          rw [h9, hI.2.2.1]
          obtain ⟨-, -, -, -, -, -, -, -, -, -, -, -, -, -, -, b3, -⟩ := id hC
          exact nI_nle (by omega) (by omega)
        obtain ⟨g1, g2, g3⟩ := es_close (J2 := J2) (t2 := t2) hc hn hL hv hT hb H0 hK (I5 := qI239_X12_expression_68 n Ix Ax J2 t2 I12 A12 v2 I2 A2) rfl
        have elp : lp_X12_expression_68_200 n Ix Ax J2 t2 I12 A12 v2 (f + 1) I2 A2 = lp_X12_expression_68_200 n Ix Ax J2 t2 I12 A12 v2 f (pI_X12_next_68 n (qI239_X12_expression_68 n Ix Ax J2 t2 I12 A12 v2 I2 A2) (pA_X12_comesOut_68 n I2 A2 J2 t2 0) J2 t2) (pA_X12_comesOut_68 n I2 A2 J2 t2 0) := by
          rw [lp_X12_expression_68_200]
          rw [if_neg n7, if_neg z]
        have elb : lb_X12_expression_68_200 n Ix Ax J2 t2 I12 A12 v2 f (pI_X12_next_68 n (qI239_X12_expression_68 n Ix Ax J2 t2 I12 A12 v2 I2 A2) (pA_X12_comesOut_68 n I2 A2 J2 t2 0) J2 t2) (pA_X12_comesOut_68 n I2 A2 J2 t2 0) → lb_X12_expression_68_200 n Ix Ax J2 t2 I12 A12 v2 (f + 1) I2 A2 := by
          intro y
          unfold lb_X12_expression_68_200
          exact ⟨i7.1, fun _ _ => ⟨g1, g2, y⟩⟩
        rw [elp]
        rcases g3 with g3 | ⟨m', e', D', p', I', A', g3⟩
        · have q := EF_200 (Ix := Ix) (Ax := Ax) (I12 := I12) (A12 := A12) (J2 := J2) (t2 := t2) (v2 := v2) g3 f (by omega)
          rw [q.2]
          exact ⟨elb q.1, Or.inl g3⟩
        · have q := ih f (k + 1) m' d e' D' p' I' A' _ _ (by omega) (by omega) g3
          refine ⟨elb q.1, ?_⟩
          rcases q.2 with y | ⟨k', m2, d2, e2, D2, p2, I2', A2', y1, y2, y3⟩
          · exact Or.inl y
          · exact Or.inr ⟨k', m2, d2, e2, D2, p2, I2', A2', y1, y2, by omega⟩
    · rw [if_neg hK] at i7
      have elp : lp_X12_expression_68_200 n Ix Ax J2 t2 I12 A12 v2 (f + 1) I2 A2 = (I2, A2) := by
        rw [lp_X12_expression_68_200]
        rw [if_pos i7.2]
      rw [elp]
      refine ⟨?_, Or.inr ⟨k, m, d, e, D, p, I, A, H0, fun y => hK y.1, Nat.le_refl _⟩⟩
      unfold lb_X12_expression_68_200
      exact ⟨i7.1, fun y => absurd i7.2 y⟩
theorem FO_1 {m d κ k : Nat} (h : κ = 0 ∨ m = 99) : FO m d κ k = 1 := by
  unfold FO
  by_cases y : κ = 0
  · rw [if_pos y]
  · rw [if_neg y, if_pos (by omega)]
/-- behind a unit and the brackets that close there -/
theorem ex_md (hc : c = 37 ∨ c = 60) (hn : 2100 ≤ n) (hL : L ≤ 2000) (hv : v < 2) (hT : RT T L C A2s) (hb : wb w0 As) (h9 : q9_X12_expression_68 n Ix Ax J2 t2 = 0) {N f : Nat} {ks' : Nat} (hw : EF c n L C v w0 R p0 z r ks T th fi be wr x1 I0 A0 Is As A2s J t (qIw200_X12_expression_68 n Ix Ax J2 t2 I12 A12 1) (qAw200_X12_expression_68 n Ix Ax J2 t2 I12 A12 1) ∨ ∃ k' m' d' e' D' p' I' A', ES c n L C v w0 R p0 z r ks T th fi be wr x1 I0 A0 Is As A2s J t 8 k' m' d' e' D' (D' + 1) p' I' A' (qIw200_X12_expression_68 n Ix Ax J2 t2 I12 A12 1) (qAw200_X12_expression_68 n Ix Ax J2 t2 I12 A12 1) ∧ ¬ (kK T L k' = 12 ∧ 0 < d') ∧ ks' ≤ k') (hf : 402 ≤ ks' + f)
    (ih : ∀ (k m d e D p : Nat) (I A I2 A2 : Nat → Nat → Int32), ks' < k → k ≤ 400 → ES c n L C v w0 R p0 z r ks T th fi be wr x1 I0 A0 Is As A2s J t 7 k m d e D D p I A I2 A2 → lb_X12_expression_68_12 n Ix Ax J2 t2 f I2 A2 1 ∧ (EF c n L C v w0 R p0 z r ks T th fi be wr x1 I0 A0 Is As A2s J t (lp_X12_expression_68_12 n Ix Ax J2 t2 f I2 A2 1).1 (lp_X12_expression_68_12 n Ix Ax J2 t2 f I2 A2 1).2 ∨ EK c n L C v w0 R p0 z r ks T th fi be wr x1 I0 A0 Is As A2s J t (lp_X12_expression_68_12 n Ix Ax J2 t2 f I2 A2 1).1 (lp_X12_expression_68_12 n Ix Ax J2 t2 f I2 A2 1).2)) :
    (pb_X12_is_68 n (qIw200_X12_expression_68 n Ix Ax J2 t2 I12 A12 1) (qAw200_X12_expression_68 n Ix Ax J2 t2 I12 A12 1) J2 t2 8 ∧ ((px_X12_is_68 n (qIw200_X12_expression_68 n Ix Ax J2 t2 I12 A12 1) (qAw200_X12_expression_68 n Ix Ax J2 t2 I12 A12 1) J2 t2 8) = 0 → pb_X12_is_68 n (qIw200_X12_expression_68 n Ix Ax J2 t2 I12 A12 1) (qAw200_X12_expression_68 n Ix Ax J2 t2 I12 A12 1) J2 t2 9 ∧ ((px_X12_is_68 n (qIw200_X12_expression_68 n Ix Ax J2 t2 I12 A12 1) (qAw200_X12_expression_68 n Ix Ax J2 t2 I12 A12 1) J2 t2 9) = 0 → pb_X12_is_68 n (qIw200_X12_expression_68 n Ix Ax J2 t2 I12 A12 1) (qAw200_X12_expression_68 n Ix Ax J2 t2 I12 A12 1) J2 t2 10)) ∧ (¬ (qs0m255_X12_expression_68 n Ix Ax J2 t2 I12 A12 1) = 0 → vp_in ((qIw200_X12_expression_68 n Ix Ax J2 t2 I12 A12 1) 68 11) 403 ∧ pb_X12_comesOut_68 n (qIw200_X12_expression_68 n Ix Ax J2 t2 I12 A12 1) (qAw200_X12_expression_68 n Ix Ax J2 t2 I12 A12 1) J2 t2 (qs1m321_X12_expression_68 n Ix Ax J2 t2 I12 A12 1) ∧ vp_in ((pI_X12_comesOut_68 n (qIw200_X12_expression_68 n Ix Ax J2 t2 I12 A12 1) (qAw200_X12_expression_68 n Ix Ax J2 t2 I12 A12 1) J2 t2 (qs1m321_X12_expression_68 n Ix Ax J2 t2 I12 A12 1)) 68 34) 48 ∧ pb_X12_next_68 n (qI350_X12_expression_68 n Ix Ax J2 t2 I12 A12 1) (qA342_X12_expression_68 n Ix Ax J2 t2 I12 A12 1) J2 t2  ∧ lb_X12_expression_68_12 n Ix Ax J2 t2 f (pI_X12_next_68 n (qI350_X12_expression_68 n Ix Ax J2 t2 I12 A12 1) (qA342_X12_expression_68 n Ix Ax J2 t2 I12 A12 1) J2 t2 ) (qA342_X12_expression_68 n Ix Ax J2 t2 I12 A12 1) (qs0m255_X12_expression_68 n Ix Ax J2 t2 I12 A12 1)) ∧ ((qs0m255_X12_expression_68 n Ix Ax J2 t2 I12 A12 1) = 0 → (¬ ((qIw200_X12_expression_68 n Ix Ax J2 t2 I12 A12 1) 68 12) ≤ (q9_X12_expression_68 n Ix Ax J2 t2) → pb_X12_fail_68 n (qIw200_X12_expression_68 n Ix Ax J2 t2 I12 A12 1) (qAw200_X12_expression_68 n Ix Ax J2 t2 I12 A12 1) J2 t2 1) ∧ pb_X12_comesOut_68 n (qIm291_X12_expression_68 n Ix Ax J2 t2 I12 A12 1) (qAw200_X12_expression_68 n Ix Ax J2 t2 I12 A12 1) J2 t2 0)) ∧
    ∀ X : (Nat → Nat → Int32) × (Nat → Nat → Int32), X = (if (qs0m255_X12_expression_68 n Ix Ax J2 t2 I12 A12 1) = 0 then ((pI_X12_comesOut_68 n (qIm291_X12_expression_68 n Ix Ax J2 t2 I12 A12 1) (qAw200_X12_expression_68 n Ix Ax J2 t2 I12 A12 1) J2 t2 0), (pA_X12_comesOut_68 n (qIm291_X12_expression_68 n Ix Ax J2 t2 I12 A12 1) (qAw200_X12_expression_68 n Ix Ax J2 t2 I12 A12 1) J2 t2 0)) else lp_X12_expression_68_12 n Ix Ax J2 t2 f (pI_X12_next_68 n (qI350_X12_expression_68 n Ix Ax J2 t2 I12 A12 1) (qA342_X12_expression_68 n Ix Ax J2 t2 I12 A12 1) J2 t2 ) (qA342_X12_expression_68 n Ix Ax J2 t2 I12 A12 1) (qs0m255_X12_expression_68 n Ix Ax J2 t2 I12 A12 1)) → EF c n L C v w0 R p0 z r ks T th fi be wr x1 I0 A0 Is As A2s J t X.1 X.2 ∨ EK c n L C v w0 R p0 z r ks T th fi be wr x1 I0 A0 Is As A2s J t X.1 X.2 := by
  have o1 : ¬ (1 : Int32) = 0 := by decide
  rcases hw with hw | ⟨k, m, d, e, D, p, I, A, H, h12, hks⟩
  · have i8 := EF_is (J2 := J2) (t2 := t2) (x := 8) hw
    have i9 := EF_is (J2 := J2) (t2 := t2) (x := 9) hw
    have i10 := EF_is (J2 := J2) (t2 := t2) (x := 10) hw
    have q255 : qs0m255_X12_expression_68 n Ix Ax J2 t2 I12 A12 1 = 0 := by
      unfold qs0m255_X12_expression_68 qs0m264_X12_expression_68 qs0m273_X12_expression_68
      rw [i8.2, i9.2, i10.2]; rfl
    have q291 : qIm291_X12_expression_68 n Ix Ax J2 t2 I12 A12 1 = qIw200_X12_expression_68 n Ix Ax J2 t2 I12 A12 1 := by
      unfold qIm291_X12_expression_68
      split
      · rfl
      · obtain ⟨fa, q, m, p, I', A', h, -⟩ := hw
        exact (MF_fail h).2
    have pf : pb_X12_fail_68 n (qIw200_X12_expression_68 n Ix Ax J2 t2 I12 A12 1) (qAw200_X12_expression_68 n Ix Ax J2 t2 I12 A12 1) J2 t2 1 := by
      obtain ⟨fa, q, m, p, I', A', h, -⟩ := hw
      exact (MF_fail h).1
    have o := EF_out (J2 := J2) (t2 := t2) (x := 0) hn hv hw
    rw [q255, q291]
    refine ⟨⟨i8.1, fun _ => ⟨i9.1, fun _ => i10.1⟩, fun y => absurd rfl y, fun _ => ⟨fun _ => pf, o.1⟩⟩, fun X hX => ?_⟩
    rw [if_pos rfl] at hX
    rw [hX]
    exact Or.inl o.2
  · have H0 := H
    obtain ⟨hk, hR, hC, hI, hX, hB, hS, hFC, hFQ⟩ := H
    have hT2 := es_T hT hFQ
    obtain ⟨hk4, hcm, h72, h73⟩ := RT_k hT2 hk
    have i8 := ri_is (n := n) (J := J2) (t := t2) hT2 hk hI (μ := 4) (by decide) (by decide) (x := 8) rfl
    have i9 := ri_is (n := n) (J := J2) (t := t2) hT2 hk hI (μ := 5) (by decide) (by decide) (x := 9) rfl
    have i10 := ri_is (n := n) (J := J2) (t := t2) hT2 hk hI (μ := 6) (by decide) (by decide) (x := 10) rfl
    have q255 : qs0m255_X12_expression_68 n Ix Ax J2 t2 I12 A12 1 = if kK T L k = 4 ∨ kK T L k = 5 ∨ kK T L k = 6 then 1 else 0 := by
      unfold qs0m255_X12_expression_68 qs0m264_X12_expression_68 qs0m273_X12_expression_68
      rw [i8.2, i9.2, i10.2]
      by_cases c4 : kK T L k = 4
      · rw [if_pos c4, if_neg o1, if_pos (Or.inl c4)]
      rw [if_neg c4, if_pos rfl]
      by_cases c5 : kK T L k = 5
      · rw [if_pos c5, if_neg o1, if_pos (Or.inr (Or.inl c5))]
      rw [if_neg c5, if_pos rfl]
      by_cases c6 : kK T L k = 6
      · rw [if_pos c6, if_neg o1, if_pos (Or.inr (Or.inr c6))]
      · rw [if_neg c6, if_pos rfl, if_neg (by omega)]
    obtain ⟨-, -, -, -, -, -, -, -, -, -, -, -, -, -, -, b3, b4, -⟩ := id hC
    have bb := EX_b hX b3
    by_cases hK : kK T L k = 4 ∨ kK T L k = 5 ∨ kK T L k = 6
    · rw [if_pos hK] at q255
      have eq314 : q314_X12_expression_68 n Ix Ax J2 t2 I12 A12 1 = nI (kK T L k + 4) := by
        unfold q314_X12_expression_68
        rw [hI.2.1, nI_clamp (by omega)]
        rcases hcm with ⟨y, -⟩ | ⟨-, y⟩
        · omega
        · rw [y]
          rcases hK with u | u | u <;> rw [u] <;> rfl
      have eq321 : qs1m321_X12_expression_68 n Ix Ax J2 t2 I12 A12 1 = if kK T L k = 6 then 1 else 0 := by
        unfold qs1m321_X12_expression_68
        rw [eq314]
        rcases hK with u | u | u <;> rw [u] <;> rfl
      obtain ⟨g1, m', g2, g3, g4⟩ := es_sign (J2 := J2) (t2 := t2) hc hn hL hv hT hb H0 hK eq321
      obtain ⟨g5, g6⟩ := g4 (qI350_X12_expression_68 n Ix Ax J2 t2 I12 A12 1) (qA342_X12_expression_68 n Ix Ax J2 t2 I12 A12 1) (by unfold qI350_X12_expression_68; rw [g3, nI_1]) (by unfold qA342_X12_expression_68; rw [g3, nI_clamp (by omega), eq314])
      have tl : lb_X12_expression_68_12 n Ix Ax J2 t2 f (pI_X12_next_68 n (qI350_X12_expression_68 n Ix Ax J2 t2 I12 A12 1) (qA342_X12_expression_68 n Ix Ax J2 t2 I12 A12 1) J2 t2 ) (qA342_X12_expression_68 n Ix Ax J2 t2 I12 A12 1) 1 ∧ (EF c n L C v w0 R p0 z r ks T th fi be wr x1 I0 A0 Is As A2s J t (lp_X12_expression_68_12 n Ix Ax J2 t2 f (pI_X12_next_68 n (qI350_X12_expression_68 n Ix Ax J2 t2 I12 A12 1) (qA342_X12_expression_68 n Ix Ax J2 t2 I12 A12 1) J2 t2 ) (qA342_X12_expression_68 n Ix Ax J2 t2 I12 A12 1) 1).1 (lp_X12_expression_68_12 n Ix Ax J2 t2 f (pI_X12_next_68 n (qI350_X12_expression_68 n Ix Ax J2 t2 I12 A12 1) (qA342_X12_expression_68 n Ix Ax J2 t2 I12 A12 1) J2 t2 ) (qA342_X12_expression_68 n Ix Ax J2 t2 I12 A12 1) 1).2 ∨ EK c n L C v w0 R p0 z r ks T th fi be wr x1 I0 A0 Is As A2s J t (lp_X12_expression_68_12 n Ix Ax J2 t2 f (pI_X12_next_68 n (qI350_X12_expression_68 n Ix Ax J2 t2 I12 A12 1) (qA342_X12_expression_68 n Ix Ax J2 t2 I12 A12 1) J2 t2 ) (qA342_X12_expression_68 n Ix Ax J2 t2 I12 A12 1) 1).1 (lp_X12_expression_68_12 n Ix Ax J2 t2 f (pI_X12_next_68 n (qI350_X12_expression_68 n Ix Ax J2 t2 I12 A12 1) (qA342_X12_expression_68 n Ix Ax J2 t2 I12 A12 1) J2 t2 ) (qA342_X12_expression_68 n Ix Ax J2 t2 I12 A12 1) 1).2) := by
        rcases g6 with g6 | ⟨e', D', p', I', A', g6⟩
        · have q := EF_12 (Ix := Ix) (Ax := Ax) (J2 := J2) (t2 := t2) g6 f (by omega)
          rw [q.2]
          exact ⟨q.1, Or.inl g6⟩
        · have := (RT_k hT g6.1).1
          exact ih (k + 1) (m' + 1) d e' D' p' I' A' _ _ (by omega) (by omega) g6
      rw [q255]
      refine ⟨⟨i8.1, fun _ => ⟨i9.1, fun _ => i10.1⟩, fun _ => ⟨by rw [hI.2.1]; exact vp_in_nI (by omega) (by decide), g1, by rw [g3]; exact vp_in_nI (by omega) (by decide), g5, tl.1⟩, fun y => absurd y o1⟩, fun X hX => ?_⟩
      rw [if_neg o1] at hX
      rw [hX]
      exact tl.2
    · rw [if_neg hK] at q255
      by_cases hd : d = 0
      · subst hd
        have z : qIw200_X12_expression_68 n Ix Ax J2 t2 I12 A12 1 68 12 ≤ q9_X12_expression_68 n Ix Ax J2 t2 := by rw [h9, hI.2.2.1]; decide
        have q291 : qIm291_X12_expression_68 n Ix Ax J2 t2 I12 A12 1 = qIw200_X12_expression_68 n Ix Ax J2 t2 I12 A12 1 := if_pos z
        have o := es_fin (J2 := J2) (t2 := t2) hc hn hL hv hT hb H0 hK
        rw [q255, q291]
        refine ⟨⟨i8.1, fun _ => ⟨i9.1, fun _ => i10.1⟩, fun y => absurd rfl y, fun _ => ⟨fun y => absurd z y, o.1⟩⟩, fun X hX => ?_⟩
        rw [if_pos rfl] at hX
        rw [hX]
        exact Or.inr o.2
      · have zz : ¬ qIw200_X12_expression_68 n Ix Ax J2 t2 I12 A12 1 68 12 ≤ q9_X12_expression_68 n Ix Ax J2 t2 := by rw [h9, hI.2.2.1]; exact nI_nle (by omega) (by omega)
        have q291 : qIm291_X12_expression_68 n Ix Ax J2 t2 I12 A12 1 = pI_X12_fail_68 n (qIw200_X12_expression_68 n Ix Ax J2 t2 I12 A12 1) (qAw200_X12_expression_68 n Ix Ax J2 t2 I12 A12 1) J2 t2 1 := if_neg zz
        have fl : pb_X12_fail_68 n (qIw200_X12_expression_68 n Ix Ax J2 t2 I12 A12 1) (qAw200_X12_expression_68 n Ix Ax J2 t2 I12 A12 1) J2 t2 1 ∧ _ ∧ MF T L v 1 k m p (pI_X12_fail_68 n (qIw200_X12_expression_68 n Ix Ax J2 t2 I12 A12 1) (qAw200_X12_expression_68 n Ix Ax J2 t2 I12 A12 1) J2 t2 1) := ri_fail (n := n) (J := J2) (t := t2) hT2 hk hI (by omega) (by omega) (fa := 1) (Or.inl rfl)
        have eB : sB 8 d r (kK T L k) = 99 := by
          have e : sB 8 d r (kK T L k) = if kK T L k = 4 ∨ kK T L k = 5 ∨ kK T L k = 6 then 7 else if d = 0 then (if r = 0 then (if 7 ≤ kK T L k ∧ kK T L k ≤ 10 then 7 else 99) else if kK T L k = 19 then 7 else if kK T L k = 3 then 0 else 99) else if kK T L k = 12 then 8 else 99 := rfl
          rw [e, if_neg hK, if_neg hd, if_neg (by omega)]
        have ef : EF c n L C v w0 R p0 z r ks T th fi be wr x1 I0 A0 Is As A2s J t (pI_X12_fail_68 n (qIw200_X12_expression_68 n Ix Ax J2 t2 I12 A12 1) (qAw200_X12_expression_68 n Ix Ax J2 t2 I12 A12 1) J2 t2 1) (qAw200_X12_expression_68 n Ix Ax J2 t2 I12 A12 1) := es_stop hc hn hL hv hT hb H0 (FO_1 (Or.inr eB)) (Or.inl rfl) fl.2.2 hX.2.2.2.2 hFQ
        have o := EF_out (J2 := J2) (t2 := t2) (x := 0) hn hv ef
        rw [q255, q291]
        refine ⟨⟨i8.1, fun _ => ⟨i9.1, fun _ => i10.1⟩, fun y => absurd rfl y, fun _ => ⟨fun _ => fl.1, o.1⟩⟩, fun X hX => ?_⟩
        rw [if_pos rfl] at hX
        rw [hX]
        exact Or.inl o.2
end El
