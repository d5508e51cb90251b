/-! a rule's end, on both sides -/
theorem rq_must {n L C v k o p : Nat} {T : Nat → Int32} {I A : Nat → Nat → Int32} {J : Nat → Nat → Int64} {t : Bool × Bool} {x : Int32} (hT : RT T L C A) (hk : k < C) (h : RQ v k o p I) {μ : Nat} (hm : μ ≤ 27) (h1 : ¬ μ = 1) (h0 : ¬ μ = 0) (hx : x = nI (cz_t μ)) : pb_X12_must_68 n I A J t x ∧ ((kK T L k = μ ∧ k < 400 ∧ k + 1 < C ∧ RQ v (k + 1) o p (pI_X12_must_68 n I A J t x) ∧ pI_X12_must_68 n I A J t x 68 15 = I 68 15 ∧ pI_X12_must_68 n I A J t x 68 16 = I 68 16) ∨ (kK T L k = μ ∧ k = 400 ∧ Mq T L 2 k (pI_X12_must_68 n I A J t x)) ∨ (¬ kK T L k = μ ∧ Mq T L 1 k (pI_X12_must_68 n I A J t x))) := by
  have hk4 := (RT_k hT hk).1
  have i := rq_is (n := n) (J := J) (t := t) hT hk h hm h1 hx
  unfold pb_X12_must_68 pI_X12_must_68 qIm5_X12_must_68
  by_cases q : kK T L k = μ
  · rw [if_pos q] at i
    have nz : ¬ px_X12_is_68 n I A J t x = 0 := by rw [i.2]; decide
    rw [if_neg nz]
    by_cases c4 : k = 400
    · obtain ⟨n1, n2⟩ := rq_next4 (n := n) (J := J) (t := t) hT hk c4 h
      exact ⟨⟨i.1, fun y => absurd y nz, fun _ => n1⟩, Or.inr (Or.inl ⟨q, c4, n2⟩)⟩
    · obtain ⟨n1, n2, n3, n4⟩ := rq_next (n := n) (A := A) (J := J) (t := t) h (by omega)
      exact ⟨⟨i.1, fun y => absurd y nz, fun _ => n1⟩, Or.inl ⟨q, by omega, RT_n hT hk (by omega) (by omega), n2, n3, n4⟩⟩
  · rw [if_neg q] at i
    rw [if_pos i.2]
    obtain ⟨f1, f2⟩ : pb_X12_fail_68 n I A J t 1 ∧ Mq T L 1 k (pI_X12_fail_68 n I A J t 1) := rq_fail (n := n) (J := J) (t := t) hT hk h (fa := 1) (Or.inl rfl)
    exact ⟨⟨i.1, fun _ => f1, fun y => absurd i.2 y⟩, Or.inr (Or.inr ⟨q, f2⟩)⟩
/-- who yields, from when, until when: the rule at work -/
def RR (v z : Nat) (th fi be : Int32) (A : Nat → Nat → Int32) : Prop := (A 77 (20 * v + z) = 1 ∧ th = 0 ∨ A 77 (20 * v + z) = 0 ∧ th = 1) ∧ fi = A 78 (20 * v + z) ∧ (A 79 (20 * v + z) = -1 ∧ be = 10000 ∨ ¬ A 79 (20 * v + z) = -1 ∧ be = A 79 (20 * v + z))
/-- both stand between rules -/
def XE (c n L C v z ks : Nat) (T : Nat → Int32) (wr x1 : Int32) (I0 A0 Is As A2s : Nat → Nat → Int32) (J : Nat → Nat → Int64) (t : Bool × Bool) (qq : Nat → Nat) (i15 i16 : Int32) (I2 A2 : Nat → Nat → Int32) : Prop := ∃ k R x I A, k < C ∧ ks + 1 ≤ k ∧ CR c n I0 A0 J t x1 ks Is As k I A ∧ C0 c T L k (x R + R) (z + 1) wr I A ∧ RQ v k 0 (x R) I2 ∧ PR c v (z + 1) R x (up qq (z + 1) R) A A2 ∧ A2 76 v = nI (z + 1) ∧ A2 81 v = nI R ∧ 4 * R ≤ k ∧ x R + R ≤ k ∧ FS v A2s A2 ∧ I2 68 15 = i15 ∧ I2 68 16 = i16
section Te
variable {c n L C v R p0 z ks k s fa q : Nat} {T : Nat → Int32} {th fi be wr x1 : Int32} {I0 A0 Is As A2s I A I2 A2 A1 A3 I3 : Nat → Nat → Int32} {J J2 : Nat → Nat → Int64} {t t2 : Bool × Bool} {x qq : Nat → Nat}
theorem tl_end (hc : c = 37 ∨ c = 60) (hP : PR c v z R x qq A1 A3) (hr : RR v z th fi be A3) : PR c v (z + 1) R x (up qq (z + 1) R) (cw_u (cw_u (cw_u (cw_u A1 (c + 1) z th) (c + 2) z fi) (c + 3) z be) (c + 4) z (nI (x R + R))) (cw_u (cw_u A3 76 v (nI (z + 1))) 80 (21 * v + (z + 1)) (nI R)) := by
  obtain ⟨r1, r2, r3⟩ := hr
  refine PR_rule (PR_c hP ⟨fun i hi => ⟨?_, ?_, ?_, ?_⟩, fun i hi => ⟨?_, ?_⟩⟩ ⟨fun i hi => ?_, fun i hi => ⟨?_, ?_, ?_⟩, fun i hi => ⟨?_, ?_, ?_, ?_⟩, fun i hi => ⟨?_, ?_⟩⟩) cu_s ?_
  · rw [cu_n (by omega), cu_n (by omega), cu_n (by omega), cu_n (by omega)]
  · rw [cu_n (by omega), cu_n (by omega), cu_n (by omega), cu_n (by omega)]
  · rw [cu_n (by omega), cu_n (by omega), cu_n (by omega), cu_n (by omega)]
  · rw [cu_n (by omega), cu_n (by omega), cu_n (by omega), cu_n (by omega)]
  · rw [cu_n (by omega), cu_n (by omega), cu_n (by omega), cu_n (by omega)]
  · rw [cu_n (by omega), cu_n (by omega), cu_n (by omega), cu_n (by omega)]
  · rw [cu_n (by omega), cu_n (by omega)]
  · rw [cu_n (by omega), cu_n (by omega)]
  · rw [cu_n (by omega), cu_n (by omega)]
  · rw [cu_n (by omega), cu_n (by omega)]
  · rw [cu_n (by omega), cu_n (by omega)]
  · rw [cu_n (by omega), cu_n (by omega)]
  · rw [cu_n (by omega), cu_n (by omega)]
  · rw [cu_n (by omega), cu_n (by omega)]
  · rw [cu_n (by omega), cu_n (by omega)]
  · rw [cu_n (by omega), cu_n (by omega)]
  · unfold ty_rule
    rw [up_s, cu_s, cu_n (a := 77) (by omega), cu_n (a := 77) (by omega), cu_n (a := 78) (by omega), cu_n (a := 78) (by omega), cu_n (a := 79) (by omega), cu_n (a := 79) (by omega)]
    rw [cu_n (a := c + 1) (by omega), cu_n (a := c + 1) (by omega), cu_n (a := c + 1) (by omega), cu_s, cu_n (a := c + 2) (by omega), cu_n (a := c + 2) (by omega), cu_s, cu_n (a := c + 3) (by omega), cu_s]
    exact ⟨rfl, r1, r2, r3⟩
/-- the reference's end of a rule -/
theorem tl_ref (hv : v < 2) (hz : z < 20) (eI : tlI n I2 A2 J2 t2 = I3) (eB : tlB n I2 A2 J2 t2 = A3) {p : Nat} (hI : RQ v k 0 p I3) (h76 : A3 76 v = nI z) (h81 : A3 81 v = nI R) : tlA n I2 A2 J2 t2 = cw_u (cw_u A3 76 v (nI (z + 1))) 80 (21 * v + (z + 1)) (nI R) ∧ vp_in (tlI n I2 A2 J2 t2 68 19) 2 ∧ vp_in (((21 : Int32) * (tlI n I2 A2 J2 t2) 68 19) + (tlC n I2 A2 J2 t2) 76 ((tlI n I2 A2 J2 t2) 68 19).toNatClampNeg) 42 := by
  have e19 : I3 68 19 = nI v := hI.2.2.2.2
  have z13 : I3 68 13 ≤ 0 := by rw [hI.1]; decide
  have eC : tlC n I2 A2 J2 t2 = cw_u A3 76 v (nI (z + 1)) := by
    unfold tlC
    rw [eI, eB, e19, nI_clamp (by omega), h76, nI_1]
  have e21 : (21 : Int32) = nI 21 := rfl
  unfold tlA
  rw [eC, eI, e19, if_pos z13, nI_clamp (by omega), cu_s, e21, pk_mul, nI_add, nI_clamp (by omega), cu_n (a := 81) (by omega), h81]
  exact ⟨rfl, vp_in_nI hv (by decide), vp_in_nI (by omega) (by decide)⟩
theorem FS_end (hv : v < 2) (hz : z < 20) (h : FS v A2s A3) {y1 y2 : Int32} : FS v A2s (cw_u (cw_u A3 76 v y1) 80 (21 * v + (z + 1)) y2) := by
  have w76 : wd 76 = 1 := rfl
  have w80 : wd 80 = 21 := rfl
  exact FS_u (FS_u h (by decide) (by decide) (by rw [w76]; omega) (by rw [w76]; omega)) (by decide) (by decide) (by rw [w80]; omega) (by rw [w80]; omega)
theorem tl_all {i15 i16 : Int32} (hc : c = 37 ∨ c = 60) (hn : 2100 ≤ n) (hL : L ≤ 2000) (hv : v < 2) (hT0 : RT T L C A2s) (hk : k < C) (hks : ks ≤ k) (hCR : CR c n I0 A0 J t x1 ks Is As k I A) (hs : s = 2 ∧ ¬ kK T L k = 16 ∧ ¬ kK T L k = 17 ∨ s = 4 ∧ ¬ kK T L k = 17 ∨ s = 6) (hC : CI c T L k s 0 (p0 + R) z 0 0 th fi be wr I A) (hI : RQ v k 0 p0 I2) (hP : PR c v z R x qq A A2) (hx : x R = p0) (h76 : A2 76 v = nI z) (h81 : A2 81 v = nI R) (h4 : 4 * R ≤ k) (hp : p0 + R ≤ k) (hr : RR v z th fi be A2) (hF : FS v A2s A2) (h15 : I2 68 15 = i15) (h16 : I2 68 16 = i16) :
    tlb n I2 A2 J2 t2 ∧ (XF c n L v ks T x1 I0 A0 Is As A2s J t (tlI n I2 A2 J2 t2) (tlA n I2 A2 J2 t2) ∨ XE c n L C v z ks T wr x1 I0 A0 Is As A2s J t qq i15 i16 (tlI n I2 A2 J2 t2) (tlA n I2 A2 J2 t2)) := by
  have hT : RT T L C A2 := RT_c hT0 (hF.1 71 (by decide)) (hF.1 72 (by decide)) (hF.1 73 (by decide))
  have hk4 := (RT_k hT hk).1
  obtain ⟨-, -, -, -, -, -, -, -, -, -, -, -, -, -, -, -, -, -, hz⟩ := id hC
  have o1 : ¬ (1 : Int32) = 0 := by decide
  have i25 := rq_is (n := n) (J := J2) (t := t2) hT hk hI (μ := 18) (by decide) (by decide) (x := 25) rfl
  by_cases hK : kK T L k = 18
  · rw [if_pos hK] at i25
    have n25 : ¬ px_X12_is_68 n I2 A2 J2 t2 25 = 0 := by rw [i25.2]; exact o1
    have eJ : tlJ n I2 A2 J2 t2 = (lq n J2 t2 n (pI_X12_relation_68 n (pI_X12_next_68 n I2 A2 J2 t2) A2 J2 t2) (pA_X12_relation_68 n (pI_X12_next_68 n I2 A2 J2 t2) A2 J2 t2)).1 := if_neg n25
    have eB : tlB n I2 A2 J2 t2 = (lq n J2 t2 n (pI_X12_relation_68 n (pI_X12_next_68 n I2 A2 J2 t2) A2 J2 t2) (pA_X12_relation_68 n (pI_X12_next_68 n I2 A2 J2 t2) A2 J2 t2)).2 := if_neg n25
    have sB7 : sB s 0 0 (kK T L k) = 7 := by
      rw [hK]
      rcases hs with ⟨e, -⟩ | ⟨e, -⟩ | e <;> subst e <;> rfl
    have key : pb_X12_next_68 n I2 A2 J2 t2 ∧ pb_X12_relation_68 n (pI_X12_next_68 n I2 A2 J2 t2) A2 J2 t2 ∧ lqb n J2 t2 n (pI_X12_relation_68 n (pI_X12_next_68 n I2 A2 J2 t2) A2 J2 t2) (pA_X12_relation_68 n (pI_X12_next_68 n I2 A2 J2 t2) A2 J2 t2) ∧ (XF c n L v ks T x1 I0 A0 Is As A2s J t (tlJ n I2 A2 J2 t2) (tlB n I2 A2 J2 t2) ∨ (XB c n L C v z ks T th fi be wr x1 I0 A0 Is As A2s J t qq i15 i16 A2 (tlJ n I2 A2 J2 t2) (tlB n I2 A2 J2 t2) ∧ ∃ k, tlJ n I2 A2 J2 t2 68 11 = nI k ∧ k < C ∧ ¬ kK T L k = 19)) := by
      rw [eJ, eB]
      by_cases c4 : k = 400
      · obtain ⟨n1, n2⟩ := rq_next4 (n := n) (J := J2) (t := t2) hT hk c4 hI
        obtain ⟨m1, m2, m3⟩ := Mq_rel (n := n) (A2 := A2) (J2 := J2) (t2 := t2) hn n2
        obtain ⟨l1, l2⟩ := Mq_lq (n := n) (A2 := pA_X12_relation_68 n (pI_X12_next_68 n I2 A2 J2 t2) A2 J2 t2) (J2 := J2) (t2 := t2) m2 n (by omega)
        obtain ⟨I', g1, g2⟩ := cl_stop (I0 := I0) (A0 := A0) (J := J) (t := t) (x1 := x1) hc hn hL hk4 hC (FO_2 (by omega) (by rw [sB7]; decide) c4) (Or.inr rfl)
        rw [l2]
        exact ⟨n1, m1, l1, Or.inl ⟨2, k, I', A, m2, CE_trans hCR (by omega) g1, g2, by rw [m3]; exact hF⟩⟩
      · obtain ⟨n1, n2, n3, n4⟩ := rq_next (n := n) (A := A2) (J := J2) (t := t2) hI (by omega)
        obtain ⟨I', g1, g2⟩ := cl_go (I0 := I0) (A0 := A0) (J := J) (t := t) (x1 := x1) hc hn hL (by omega) hC (by omega) sB7 (by omega) ⟨by decide, by decide⟩
        have hk1 : k + 1 < C := RT_n hT hk (by omega) (by omega)
        obtain ⟨r1, r2⟩ := rel_all (I0 := I0) (A0 := A0) (J := J) (t := t) (x1 := x1) (J2 := J2) (t2 := t2) hc hn hL hv hT hk1 g2 (by omega) (by omega) h81 n2
        have hCR1 : CR c n I0 A0 J t x1 ks Is As (k + 1) I' A := CR_trans hCR g1
        refine ⟨n1, r1, ?_⟩
        rcases r2 with ⟨fa, q, I'', A'', h1, h2, h3, h4⟩ | r2
        · obtain ⟨l1, l2⟩ := Mq_lq (n := n) (A2 := pA_X12_relation_68 n (pI_X12_next_68 n I2 A2 J2 t2) A2 J2 t2) (J2 := J2) (t2 := t2) h1 n (by omega)
          rw [l2]
          exact ⟨l1, Or.inl ⟨fa, q, I'', A'', h1, CE_trans hCR1 (by omega) h2, h3, FS_trans hF h4⟩⟩
        · refine lq_all hc hn hL hv hT0 401 n _ _ (fun _ _ _ => by omega) (by omega) (XR_B hP hx (by omega) (by omega) hCR1 hF ?_ ?_ ?_ r2)
          · intro r q1 q2
            rw [fr_pA_X12_relation_68 (by simp; omega)]
          · rw [fr_pI_X12_relation_68 (by decide), n3]; exact h15
          · rw [fr_pI_X12_relation_68 (by decide), n4]; exact h16
    obtain ⟨k1, k2, k3, key⟩ := key
    clear eJ eB
    have fin : pb_X12_must_68 n (tlJ n I2 A2 J2 t2) (tlB n I2 A2 J2 t2) J2 t2 4 → ((tlI n I2 A2 J2 t2) 68 13 ≤ 0 → vp_in ((tlI n I2 A2 J2 t2) 68 19) 2 ∧ vp_in (((21 : Int32) * (tlI n I2 A2 J2 t2) 68 19) + (tlC n I2 A2 J2 t2) 76 ((tlI n I2 A2 J2 t2) 68 19).toNatClampNeg) 42) → tlb n I2 A2 J2 t2 := fun a b => ⟨i25.1, fun _ => ⟨k1, k2, k3⟩, a, b⟩
    rcases key with ⟨fa, q, I', A', h1, h2, h3, h4⟩ | ⟨⟨k', R', x', p, j, y, o, I', A', a1, a2, a3, a4, a5, a6, a7, a8, a9, a10, a11, a12, a13, a14, a15, a16, a17, a18, a19, a20, a21, a22, a23, a24, a25, a26, a27⟩, k9, b1, b2, b3⟩
    · have m := Mq_must (n := n) (A := tlB n I2 A2 J2 t2) (J := J2) (t := t2) (x := 4) h1
      have eI : tlI n I2 A2 J2 t2 = tlJ n I2 A2 J2 t2 := m.2
      have zf := Mq_p h1
      have eA : tlA n I2 A2 J2 t2 = tlB n I2 A2 J2 t2 := by
        unfold tlA
        rw [eI, if_neg zf.1]
      refine ⟨fin m.1 (fun u => absurd u (by rw [eI]; exact zf.1)), Or.inl ?_⟩
      rw [eI, eA]
      exact ⟨fa, q, I', A', h1, h2, h3, h4⟩
    · have hk'4 := (RT_k hT a1).1
      have ek : k9 = k' := by
        rw [a5.2.1] at b1
        have := (RT_k hT b2).1
        exact ((nI_eq (by omega) (by omega)).1 b1).symm
      subst ek
      have hT3 : RT T L C (tlB n I2 A2 J2 t2) := RT_c hT0 (a23.1 71 (by decide)) (a23.1 72 (by decide)) (a23.1 73 (by decide))
      obtain ⟨m1, m2⟩ := rq_must (n := n) (J := J2) (t := t2) hT3 a1 a5 (μ := 3) (by decide) (by decide) (by decide) (x := 4) rfl
      have eB8 : sB 8 0 1 (kK T L k9) = if kK T L k9 = 3 then 0 else 99 := by
        have e : sB 8 0 1 (kK T L k9) = if kK T L k9 = 4 ∨ kK T L k9 = 5 ∨ kK T L k9 = 6 then 7 else if (0 : Nat) = 0 then (if (1 : Nat) = 0 then (if 7 ≤ kK T L k9 ∧ kK T L k9 ≤ 10 then 7 else 99) else if kK T L k9 = 19 then 7 else if kK T L k9 = 3 then 0 else 99) else if kK T L k9 = 12 then 8 else 99 := rfl
        rw [e, if_neg a24, if_pos rfl, if_neg (by decide), if_neg b3]
      have bad : ∀ fa, (fa = 1 ∨ fa = 2) → FO (sB 8 0 1 (kK T L k9)) 0 (kK T L k9) k9 = fa → Mq T L fa k9 (tlI n I2 A2 J2 t2) → tlb n I2 A2 J2 t2 ∧ XF c n L v ks T x1 I0 A0 Is As A2s J t (tlI n I2 A2 J2 t2) (tlA n I2 A2 J2 t2) := by
        intro fa u1 u2 u3
        have zf := Mq_p u3
        have eA : tlA n I2 A2 J2 t2 = tlB n I2 A2 J2 t2 := by
          unfold tlA
          rw [if_neg zf.1]
        obtain ⟨I'', g1, g2⟩ := cl_stop (I0 := I0) (A0 := A0) (J := J) (t := t) (x1 := x1) hc hn hL hk'4 a4 u2 u1
        refine ⟨fin m1 (fun u => absurd u zf.1), fa, k9, I'', A', u3, CE_trans a3 (by omega) g1, g2, ?_⟩
        rw [eA]; exact a23
      rcases m2 with ⟨u1, u2, u3, u4, u5, u6⟩ | ⟨u1, u2, u3⟩ | ⟨u1, u2⟩
      · have hrj : RJ A' (nI (kK T L k9)) (1 + j) (j + 1) := by
          rw [u1]
          exact XB_RJ lea_v.2.2.2.2.2.1 a6 a7 a8
        obtain ⟨I'', A1, g0, g1, g2⟩ := cl_end (I0 := I0) (A0 := A0) (J := J) (t := t) (x1 := x1) hc hn hL u2 a4 u1 hrj (by omega) (by omega) (by omega)
        have hP1 := XB_rel hc a6 a7 a8 a10 a11 a12 a13 a14 a15 a16 a17 a18 a22 g0
        have eσ : p + R' + (j + 1) = up x' (R' + 1) (p + j) (R' + 1) + (R' + 1) := by rw [up_s]; omega
        rw [eσ] at g1 g2
        have h763 : tlB n I2 A2 J2 t2 76 v = nI z := by rw [a25 76 (by decide) (by decide)]; exact h76
        have hr3 : RR v z th fi be (tlB n I2 A2 J2 t2) := by
          unfold RR
          rw [a25 77 (by decide) (by decide), a25 78 (by decide) (by decide), a25 79 (by decide) (by decide)]
          exact hr
        have u4' : RQ v (k9 + 1) 0 (p + j) (tlI n I2 A2 J2 t2) := u4
        obtain ⟨v1, v2, v3⟩ := tl_ref (n := n) (J2 := J2) (t2 := t2) hv hz rfl rfl u4' h763 a9
        refine ⟨fin m1 (fun _ => ⟨v2, v3⟩), Or.inr ?_⟩
        rw [v1]
        refine ⟨k9 + 1, R' + 1, up x' (R' + 1) (p + j), I'', _, u3, by omega, CR_trans a3 g1, g2, ?_, tl_end hc hP1 hr3, ?_, ?_, by omega, ?_, FS_end hv hz a23, u5.trans a26, u6.trans a27⟩
        · rw [up_s]; exact u4'
        · rw [cu_n (by omega), cu_s]
        · rw [cu_n (by omega), cu_n (by omega)]; exact a9
        · rw [up_s]; omega
      · obtain ⟨w1, w2⟩ := bad 2 (Or.inr rfl) (FO_2 (by omega) (by rw [eB8, if_pos u1]; decide) u2) u3
        exact ⟨w1, Or.inl w2⟩
      · obtain ⟨w1, w2⟩ := bad 1 (Or.inl rfl) (FO_1 (Or.inr (by rw [eB8, if_neg u1]))) u2
        exact ⟨w1, Or.inl w2⟩
  · rw [if_neg hK] at i25
    have eJ : tlJ n I2 A2 J2 t2 = I2 := if_pos i25.2
    have eB : tlB n I2 A2 J2 t2 = A2 := if_pos i25.2
    obtain ⟨m1, m2⟩ := rq_must (n := n) (J := J2) (t := t2) hT hk hI (μ := 3) (by decide) (by decide) (by decide) (x := 4) rfl
    have eI : tlI n I2 A2 J2 t2 = pI_X12_must_68 n I2 A2 J2 t2 4 := by
      unfold tlI
      rw [eJ, eB]
    have fin : ((tlI n I2 A2 J2 t2) 68 13 ≤ 0 → vp_in ((tlI n I2 A2 J2 t2) 68 19) 2 ∧ vp_in (((21 : Int32) * (tlI n I2 A2 J2 t2) 68 19) + (tlC n I2 A2 J2 t2) 76 ((tlI n I2 A2 J2 t2) 68 19).toNatClampNeg) 42) → tlb n I2 A2 J2 t2 := fun b => ⟨i25.1, fun y => absurd i25.2 y, by rw [eJ, eB]; exact m1, b⟩
    have eBs : sB s 0 0 (kK T L k) = if kK T L k = 3 then 0 else 99 := by
      rcases hs with ⟨e, e1, e2⟩ | ⟨e, e1⟩ | e <;> subst e
      · have e : sB 2 0 0 (kK T L k) = if kK T L k = 16 then 3 else if kK T L k = 17 then 5 else if kK T L k = 18 then 7 else if kK T L k = 3 then 0 else 99 := rfl
        rw [e, if_neg e1, if_neg e2, if_neg hK]
      · have e : sB 4 0 0 (kK T L k) = if kK T L k = 17 then 5 else if kK T L k = 18 then 7 else if kK T L k = 3 then 0 else 99 := rfl
        rw [e, if_neg e1, if_neg hK]
      · have e : sB 6 0 0 (kK T L k) = if kK T L k = 18 then 7 else if kK T L k = 3 then 0 else 99 := rfl
        rw [e, if_neg hK]
    have bad : ∀ fa, (fa = 1 ∨ fa = 2) → FO (sB s 0 0 (kK T L k)) 0 (kK T L k) k = fa → Mq T L fa k (pI_X12_must_68 n I2 A2 J2 t2 4) → tlb n I2 A2 J2 t2 ∧ XF c n L v ks T x1 I0 A0 Is As A2s J t (tlI n I2 A2 J2 t2) (tlA n I2 A2 J2 t2) := by
      intro fa u1 u2 u3
      rw [← eI] at u3
      have zf := Mq_p u3
      have eA : tlA n I2 A2 J2 t2 = A2 := by
        unfold tlA
        rw [if_neg zf.1, eB]
      obtain ⟨I'', g1, g2⟩ := cl_stop (I0 := I0) (A0 := A0) (J := J) (t := t) (x1 := x1) hc hn hL hk4 hC u2 u1
      refine ⟨fin (fun u => absurd u zf.1), fa, k, I'', A, u3, CE_trans hCR (by omega) g1, g2, ?_⟩
      rw [eA]; exact hF
    rcases m2 with ⟨u1, u2, u3, u4, u5, u6⟩ | ⟨u1, u2, u3⟩ | ⟨u1, u2⟩
    · obtain ⟨I'', g1, g2⟩ := cl_semi (I0 := I0) (A0 := A0) (J := J) (t := t) (x1 := x1) hc hn hL u2 hC (by omega) u1
      subst hx
      rw [← eI] at u4 u5 u6
      obtain ⟨v1, v2, v3⟩ := tl_ref (n := n) (J2 := J2) (t2 := t2) hv hz rfl eB u4 h76 h81
      refine ⟨fin (fun _ => ⟨v2, v3⟩), Or.inr ?_⟩
      rw [v1]
      refine ⟨k + 1, R, x, I'', _, u3, by omega, CR_trans hCR g1, g2, u4, tl_end hc hP hr, ?_, ?_, by omega, by omega, FS_end hv hz hF, u5.trans h15, u6.trans h16⟩
      · rw [cu_n (by omega), cu_s]
      · rw [cu_n (by omega), cu_n (by omega)]; exact h81
    · obtain ⟨w1, w2⟩ := bad 2 (Or.inr rfl) (FO_2 (by omega) (by rw [eBs, if_pos u1]; decide) u2) u3
      exact ⟨w1, Or.inl w2⟩
    · obtain ⟨w1, w2⟩ := bad 1 (Or.inl rfl) (FO_1 (Or.inr (by rw [eBs, if_neg u1]))) u2
      exact ⟨w1, Or.inl w2⟩
end Te
