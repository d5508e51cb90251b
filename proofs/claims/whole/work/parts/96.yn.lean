/-! an expression on both sides: the whole of it -/
section Em
variable {c n L C v w0 R p0 z r ks : Nat} {T : Nat → Int32} {th fi be wr x1 : Int32} {I0 A0 Is As A2s : Nat → Nat → Int32} {J : Nat → Nat → Int64} {t : Bool × Bool}
variable {k m d e D p : Nat} {I A I2 A2 Ix Ax : Nat → Nat → Int32} {J2 : Nat → Nat → Int64} {t2 : Bool × Bool}
theorem ex_lp (hc : c = 37 ∨ c = 60) (hn : 2100 ≤ n) (hL : L ≤ 2000) (hv : v < 2) (hT : RT T L C A2s) (hb : wb w0 As) (h9 : q9_X12_expression_68 n Ix Ax J2 t2 = 0) : ∀ (N f k m d e D p : Nat) (I A I2 A2 : Nat → Nat → Int32), k + N = 401 → N < f → ES c n L C v w0 R p0 z r ks T th fi be wr x1 I0 A0 Is As A2s J t 7 k m d e D D p I A I2 A2 → lb_X12_expression_68_12 n Ix Ax J2 t2 f I2 A2 1 ∧ (EF c n L C v w0 R p0 z r ks T th fi be wr x1 I0 A0 Is As A2s J t (lp_X12_expression_68_12 n Ix Ax J2 t2 f I2 A2 1).1 (lp_X12_expression_68_12 n Ix Ax J2 t2 f I2 A2 1).2 ∨ EK c n L C v w0 R p0 z r ks T th fi be wr x1 I0 A0 Is As A2s J t (lp_X12_expression_68_12 n Ix Ax J2 t2 f I2 A2 1).1 (lp_X12_expression_68_12 n Ix Ax J2 t2 f I2 A2 1).2) := by
  intro N
  induction N using Nat.strongRecOn with
  | _ N ih =>
  intro f k m d e D p I A I2 A2 hN hf H
  obtain ⟨f, rfl⟩ : ∃ g, f = g + 1 := ⟨f - 1, by omega⟩
  have H0 := H
  obtain ⟨hk, hR, hC, hI, hX, hB, hS, hFC, hFQ⟩ := H
  have hT2 := es_T hT hFQ
  obtain ⟨hk4, hcm, h72, h73⟩ := RT_k hT2 hk
  obtain ⟨-, -, -, -, -, -, -, -, -, -, -, -, -, -, -, b3, b4, -⟩ := id hC
  have bb := EX_b hX b3
  have o1 : ¬ (1 : Int32) = 0 := by decide
  have i6 := ri_is (n := n) (J := J2) (t := t2) hT2 hk hI (μ := 11) (by decide) (by decide) (x := 6) rfl
  have i2 := ri_is (n := n) (J := J2) (t := t2) hT2 hk hI (μ := 2) (by decide) (by decide) (x := 2) rfl
  by_cases K11 : kK T L k = 11
  · rw [if_pos K11] at i6
    have n6 : ¬ px_X12_is_68 n I2 A2 J2 t2 6 = 0 := by rw [i6.2]; exact o1
    by_cases d6 : d = 6
    · have q38 : qIm38_X12_expression_68 n Ix Ax J2 t2 I2 A2 1 = pI_X12_fail_68 n I2 A2 J2 t2 2 := by
        unfold qIm38_X12_expression_68
        rw [hI.2.2.1, d6]; exact if_pos rfl
      have fl : pb_X12_fail_68 n I2 A2 J2 t2 2 ∧ _ ∧ MF T L v 2 k m p (pI_X12_fail_68 n I2 A2 J2 t2 2) := ri_fail (n := n) (J := J2) (t := t2) hT2 hk hI (by omega) (by omega) (fa := 2) (Or.inr rfl)
      have zf := MF_p fl.2.2
      have elp : lp_X12_expression_68_12 n Ix Ax J2 t2 (f + 1) I2 A2 1 = (pI_X12_fail_68 n I2 A2 J2 t2 2, A2) := by
        rw [lp_X12_expression_68_12]
        rw [if_neg o1, if_pos hI.1, if_neg n6, q38, if_neg zf.1]
      rw [elp]
      refine ⟨?_, Or.inl (es_stop hc hn hL hv hT hb H0 ?_ (Or.inr rfl) fl.2.2 hX.2.2.2.2 hFQ)⟩
      · unfold lb_X12_expression_68_12
        rw [q38]
        exact fun _ _ => ⟨i6.1, fun y => absurd y n6, fun _ => ⟨fun _ => fl.1, fun y => absurd y zf.1⟩⟩
      · have e : sB 7 d r (kK T L k) = 7 := by rw [K11]; unfold sB; simp
        rw [e, K11, d6]
        unfold FO
        by_cases y : 400 ≤ k
        · rw [if_neg (by decide), if_neg (by decide), if_pos y]
        · rw [if_neg (by decide), if_neg (by decide), if_neg y, if_pos (by decide)]
    · have q38 : qIm38_X12_expression_68 n Ix Ax J2 t2 I2 A2 1 = I2 := by
        unfold qIm38_X12_expression_68
        rw [hI.2.2.1]
        exact if_neg (fun y => d6 ((nI_eq (b := 6) (by omega) (by omega)).1 y))
      have z13 : I2 68 13 ≤ 0 := by rw [hI.1]; decide
      obtain ⟨g1, g2, g3, g4⟩ := es_open (J2 := J2) (t2 := t2) hc hn hL hv hT hb H0 K11 (by omega) (I3 := qI61_X12_expression_68 n Ix Ax J2 t2 I2 A2 1) (by
        unfold qI61_X12_expression_68
        rw [q38, hI.2.2.1, nI_1])
      have q86 : qI86_X12_expression_68 n Ix Ax J2 t2 I2 A2 1 = cw_u (pI_X12_next_68 n (qI61_X12_expression_68 n Ix Ax J2 t2 I2 A2 1) A2 J2 t2) 68 34 (nI (m + 1)) := by
        unfold qI86_X12_expression_68
        rw [g2, nI_1]
      have q78 : qA78_X12_expression_68 n Ix Ax J2 t2 I2 A2 1 = cw_u A2 88 m 6 := by
        unfold qA78_X12_expression_68
        rw [g2, nI_clamp (by omega)]
      rw [← q86, ← q78] at g4
      have tl : lb_X12_expression_68_12 n Ix Ax J2 t2 f (qI86_X12_expression_68 n Ix Ax J2 t2 I2 A2 1) (qA78_X12_expression_68 n Ix Ax J2 t2 I2 A2 1) 1 ∧ (EF c n L C v w0 R p0 z r ks T th fi be wr x1 I0 A0 Is As A2s J t (lp_X12_expression_68_12 n Ix Ax J2 t2 f (qI86_X12_expression_68 n Ix Ax J2 t2 I2 A2 1) (qA78_X12_expression_68 n Ix Ax J2 t2 I2 A2 1) 1).1 (lp_X12_expression_68_12 n Ix Ax J2 t2 f (qI86_X12_expression_68 n Ix Ax J2 t2 I2 A2 1) (qA78_X12_expression_68 n Ix Ax J2 t2 I2 A2 1) 1).2 ∨ EK c n L C v w0 R p0 z r ks T th fi be wr x1 I0 A0 Is As A2s J t (lp_X12_expression_68_12 n Ix Ax J2 t2 f (qI86_X12_expression_68 n Ix Ax J2 t2 I2 A2 1) (qA78_X12_expression_68 n Ix Ax J2 t2 I2 A2 1) 1).1 (lp_X12_expression_68_12 n Ix Ax J2 t2 f (qI86_X12_expression_68 n Ix Ax J2 t2 I2 A2 1) (qA78_X12_expression_68 n Ix Ax J2 t2 I2 A2 1) 1).2) := by
        rcases g4 with g4 | ⟨I', A', g4⟩
        · have q := EF_12 (Ix := Ix) (Ax := Ax) (J2 := J2) (t2 := t2) g4 f (by omega)
          rw [q.2]
          exact ⟨q.1, Or.inl g4⟩
        · have := (RT_k hT g4.1).1
          exact ih (N - 1) (by omega) f (k + 1) (m + 1) (d + 1) 0 D p I' A' _ _ (by omega) (by omega) g4
      have elp : lp_X12_expression_68_12 n Ix Ax J2 t2 (f + 1) I2 A2 1 = lp_X12_expression_68_12 n Ix Ax J2 t2 f (qI86_X12_expression_68 n Ix Ax J2 t2 I2 A2 1) (qA78_X12_expression_68 n Ix Ax J2 t2 I2 A2 1) 1 := by
        rw [lp_X12_expression_68_12]
        rw [if_neg o1, if_pos hI.1, if_neg n6, q38, if_pos z13]
      rw [elp]
      refine ⟨?_, tl.2⟩
      unfold lb_X12_expression_68_12
      rw [q38, g2]
      exact fun _ _ => ⟨i6.1, fun y => absurd y n6, fun _ => ⟨fun y => absurd ((nI_eq (b := 6) (by omega) (by omega)).1 (hI.2.2.1.symm.trans y)) d6, fun _ => ⟨g1, vp_in_nI (by omega) (by decide), tl.1⟩⟩⟩
  · rw [if_neg K11] at i6
    have kv := km_var kK_le hcm
    have cl : (I2 68 11).toNatClampNeg = k := by rw [hI.2.1, nI_clamp (by omega)]
    have vk : vp_in (I2 68 11) 403 := by rw [hI.2.1]; exact vp_in_nI (by omega) (by decide)
    have q110 : qs0m110_X12_expression_68 n Ix Ax J2 t2 I2 A2 1 = if 20 ≤ kK T L k then 1 else 0 := by
      unfold qs0m110_X12_expression_68 qs0m124_X12_expression_68
      rw [cl]
      by_cases y : 20 ≤ kK T L k
      · rw [if_neg (kv.1.2 y), if_neg kv.2.2, if_pos y]
      · rw [if_pos (Classical.byContradiction fun u => y (kv.1.1 u)), if_neg y]
    by_cases hK : kK T L k = 2 ∨ 20 ≤ kK T L k
    · have q138 : qIm138_X12_expression_68 n Ix Ax J2 t2 I2 A2 1 = I2 := by
        unfold qIm138_X12_expression_68 qIm142_X12_expression_68
        rw [i2.2, q110]
        by_cases y : kK T L k = 2
        · rw [if_pos y, if_neg o1]
        · rw [if_neg y, if_pos rfl, if_pos (show 20 ≤ kK T L k by omega), if_neg o1]
      have z13 : I2 68 13 ≤ 0 := by rw [hI.1]; decide
      have un : ∃ a b, qIm159_X12_expression_68 n Ix Ax J2 t2 I2 A2 1 = cw_u I2 68 30 (nI (500 * v + p + 1)) ∧ qAm159_X12_expression_68 n Ix Ax J2 t2 I2 A2 1 = cw_u (cw_u A2 86 (500 * v + p) a) 87 (500 * v + p) b ∧ ty_m (nI (kK T L k)) (kV T L k) a b ∧ ¬ 2 ≤ a ∧ ((qs0m110_X12_expression_68 n Ix Ax J2 t2 I2 A2 1) = 0 → vp_in (I2 68 11) 403 ∧ pb_X12_emit_68 n I2 A2 J2 t2 0 (A2 73 ((I2 68 11)).toNatClampNeg)) ∧ (¬ (qs0m110_X12_expression_68 n Ix Ax J2 t2 I2 A2 1) = 0 → vp_in (I2 68 11) 403 ∧ pb_X12_emit_68 n I2 A2 J2 t2 1 ((A2 71 ((I2 68 11)).toNatClampNeg) - 27)) := by
        unfold qIm159_X12_expression_68 qAm159_X12_expression_68
        rw [q138, q110, cl]
        by_cases y : 20 ≤ kK T L k
        · have em := rp_emit (n := n) (A := A2) (J := J2) (t := t2) (x := 1) (y := A2 71 k - 27) hI.2.2.2.2.1 (by omega)
          rw [if_pos y, if_neg o1, if_neg o1]
          refine ⟨1, A2 71 k - 27, em.2.1, em.2.2, Or.inr (Or.inl ⟨kK T L k - 20, ?_, ?_, rfl, ?_⟩), by decide, fun u => absurd u o1, fun _ => ⟨vk, em.1⟩⟩
          · have := kK_le (T := T) (L := L) (k := k); omega
          · congr 1; omega
          · rw [kv.2.1 y]
            have : (27 : Int32) = nI 27 := rfl
            have e7 : kK T L k + 7 - 27 = kK T L k - 20 := by omega
            rw [this, pk_sub (by omega), e7]
        · have em := rp_emit (n := n) (A := A2) (J := J2) (t := t2) (x := 0) (y := A2 73 k) hI.2.2.2.2.1 (by omega)
          have k2 : kK T L k = 2 := by omega
          rw [if_neg y, if_pos rfl, if_pos rfl]
          refine ⟨0, A2 73 k, em.2.1, em.2.2, Or.inl ⟨by rw [k2]; rfl, rfl, (h73 k2).symm⟩, by decide, fun _ => ⟨vk, em.1⟩, fun u => absurd rfl u⟩
      obtain ⟨a, b, u1, u2, u3, u4, u5, u6⟩ := un
      obtain ⟨g1, g2⟩ := es_unit (J2 := J2) (t2 := t2) hc hn hL hv hT hb H0 hK u3 u4 u1 u2
      have hw : lb_X12_expression_68_200 n Ix Ax J2 t2 I2 A2 1 n (pI_X12_next_68 n (qIm159_X12_expression_68 n Ix Ax J2 t2 I2 A2 1) (qAm159_X12_expression_68 n Ix Ax J2 t2 I2 A2 1) J2 t2) (qAm159_X12_expression_68 n Ix Ax J2 t2 I2 A2 1) ∧ (EF c n L C v w0 R p0 z r ks T th fi be wr x1 I0 A0 Is As A2s J t (qIw200_X12_expression_68 n Ix Ax J2 t2 I2 A2 1) (qAw200_X12_expression_68 n Ix Ax J2 t2 I2 A2 1) ∨ ∃ k' m' d' e' D' p' I' A', ES c n L C v w0 R p0 z r ks T th fi be wr x1 I0 A0 Is As A2s J t 8 k' m' d' e' D' (D' + 1) p' I' A' (qIw200_X12_expression_68 n Ix Ax J2 t2 I2 A2 1) (qAw200_X12_expression_68 n Ix Ax J2 t2 I2 A2 1) ∧ ¬ (kK T L k' = 12 ∧ 0 < d') ∧ k + 1 ≤ k') := by
        unfold qIw200_X12_expression_68 qAw200_X12_expression_68
        rcases g2 with g2 | ⟨I', A', g2⟩
        · have q := EF_200 (Ix := Ix) (Ax := Ax) (I12 := I2) (A12 := A2) (J2 := J2) (t2 := t2) (v2 := 1) g2 n (by omega)
          rw [q.2]
          exact ⟨q.1, Or.inl g2⟩
        · have := (RT_k hT g2.1).1
          exact ex_cl hc hn hL hv hT hb h9 (N - 1) n (k + 1) m d e D (p + 1) I' A' _ _ (by omega) (by omega) g2
      have md := ex_md (f := f) (ks' := k + 1) (N := 0) hc hn hL hv hT hb h9 hw.2 (by omega) (fun k2 m2 d2 e2 D2 p2 I' A' I3 A3 y1 y2 y3 => ih (401 - k2) (by omega) f k2 m2 d2 e2 D2 p2 I' A' I3 A3 (by omega) (by omega) y3)
      have elp : lp_X12_expression_68_12 n Ix Ax J2 t2 (f + 1) I2 A2 1 = (if (qs0m255_X12_expression_68 n Ix Ax J2 t2 I2 A2 1) = 0 then ((pI_X12_comesOut_68 n (qIm291_X12_expression_68 n Ix Ax J2 t2 I2 A2 1) (qAw200_X12_expression_68 n Ix Ax J2 t2 I2 A2 1) J2 t2 0), (pA_X12_comesOut_68 n (qIm291_X12_expression_68 n Ix Ax J2 t2 I2 A2 1) (qAw200_X12_expression_68 n Ix Ax J2 t2 I2 A2 1) J2 t2 0)) else lp_X12_expression_68_12 n Ix Ax J2 t2 f (pI_X12_next_68 n (qI350_X12_expression_68 n Ix Ax J2 t2 I2 A2 1) (qA342_X12_expression_68 n Ix Ax J2 t2 I2 A2 1) J2 t2 ) (qA342_X12_expression_68 n Ix Ax J2 t2 I2 A2 1) (qs0m255_X12_expression_68 n Ix Ax J2 t2 I2 A2 1)) := by
        conv => lhs; rw [lp_X12_expression_68_12]
        rw [if_neg o1, if_pos hI.1, if_pos i6.2, q138, if_pos z13]
      refine ⟨?_, md.2 _ elp⟩
      unfold lb_X12_expression_68_12
      rw [q138]
      exact fun _ _ => ⟨i6.1, fun _ => ⟨vk, fun _ => vk, i2.1, fun y y2 => absurd hK (by
        rw [i2.2] at y
        rw [q110] at y2
        intro y3
        rcases y3 with y3 | y3
        · rw [if_pos y3] at y; exact o1 y
        · rw [if_pos y3] at y2; exact o1 y2), fun _ => ⟨u5, u6, g1, hw.1, md.1⟩⟩, fun y => absurd i6.2 y⟩
    · have e2 : px_X12_is_68 n I2 A2 J2 t2 2 = 0 := by rw [i2.2, if_neg (by omega)]
      have e110 : qs0m110_X12_expression_68 n Ix Ax J2 t2 I2 A2 1 = 0 := by rw [q110, if_neg (by omega)]
      have q138 : qIm138_X12_expression_68 n Ix Ax J2 t2 I2 A2 1 = pI_X12_fail_68 n I2 A2 J2 t2 1 := by
        unfold qIm138_X12_expression_68 qIm142_X12_expression_68
        rw [if_pos e2, if_pos e110]
      have fl : pb_X12_fail_68 n I2 A2 J2 t2 1 ∧ _ ∧ MF T L v 1 k m p (pI_X12_fail_68 n I2 A2 J2 t2 1) := ri_fail (n := n) (J := J2) (t := t2) hT2 hk hI (by omega) (by omega) (fa := 1) (Or.inl rfl)
      have zf := MF_p fl.2.2
      have elp : lp_X12_expression_68_12 n Ix Ax J2 t2 (f + 1) I2 A2 1 = (pI_X12_fail_68 n I2 A2 J2 t2 1, A2) := by
        rw [lp_X12_expression_68_12]
        rw [if_neg o1, if_pos hI.1, if_pos i6.2, q138, if_neg zf.1]
      rw [elp]
      refine ⟨?_, Or.inl (es_stop hc hn hL hv hT hb H0 (FO_1 (Or.inr ?_)) (Or.inl rfl) fl.2.2 hX.2.2.2.2 hFQ)⟩
      · unfold lb_X12_expression_68_12
        rw [q138]
        exact fun _ _ => ⟨i6.1, fun _ => ⟨vk, fun _ => vk, i2.1, fun _ _ => fl.1, fun y => absurd y zf.1⟩, fun y => absurd i6.2 y⟩
      · have e : sB 7 d r (kK T L k) = if kK T L k = 11 then 7 else if kK T L k = 2 ∨ 20 ≤ kK T L k then 8 else 99 := rfl
        rw [e, if_neg K11, if_neg hK]
/-- an expression: a fault of both, or both behind it -/
theorem ex_all (hc : c = 37 ∨ c = 60) (hn : 2100 ≤ n) (hL : L ≤ 2000) (hv : v < 2) (hT : RT T L C A2s) (hb : wb w0 As) (hk : ks < C) (hC : CI c T L ks 7 w0 (p0 + R) z 0 r th fi be wr Is As) (hp : p0 + R + w0 ≤ ks) {m0 : Nat} (hI : RI v ks 0 m0 p0 I2) : pb_X12_expression_68 n I2 A2s J2 t2 ∧ (EF c n L C v w0 R p0 z r ks T th fi be wr x1 I0 A0 Is As A2s J t (pI_X12_expression_68 n I2 A2s J2 t2) (pA_X12_expression_68 n I2 A2s J2 t2) ∨ EK c n L C v w0 R p0 z r ks T th fi be wr x1 I0 A0 Is As A2s J t (pI_X12_expression_68 n I2 A2s J2 t2) (pA_X12_expression_68 n I2 A2s J2 t2)) := by
  have hk4 := (RT_k hT hk).1
  have h9 : q9_X12_expression_68 n I2 A2s J2 t2 = 0 := by
    unfold q9_X12_expression_68 qI2_X12_expression_68
    rw [cu_n (by simp), hI.2.2.1]; rfl
  have hI2 : RI v ks 0 0 p0 (qI2_X12_expression_68 n I2 A2s J2 t2) := ⟨(cu_n (by decide)).trans hI.1, (cu_n (by decide)).trans hI.2.1, (cu_n (by decide)).trans hI.2.2.1, cu_s, (cu_n (by decide)).trans hI.2.2.2.2.1, (cu_n (by decide)).trans hI.2.2.2.2.2⟩
  exact ex_lp hc hn hL hv hT hb h9 (401 - ks) n ks 0 0 0 0 p0 Is As _ A2s (by omega) (by omega) ⟨hk, CR_refl, hC, hI2, EX_0, by omega, by omega, FC_refl, FQ_refl⟩
end Em
