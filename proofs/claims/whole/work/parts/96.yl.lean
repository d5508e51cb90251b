/-! an expression on both sides: steps -/
def ES (c n L C v w0 R p0 z r ks : Nat) (T : Nat → Int32) (th fi be wr x1 : Int32) (I0 A0 Is As A2s : Nat → Nat → Int32) (J : Nat → Nat → Int64) (t : Bool × Bool) (s k m d e D dep p : Nat) (I A I2 A2 : Nat → Nat → Int32) : Prop := k < C ∧ CR c n I0 A0 J t x1 ks Is As k I A ∧ CI c T L k s (w0 + m) (p + R) z d r th fi be wr I A ∧ RI v k d m p I2 ∧ EX c v w0 R p0 m d e D dep p A A2 ∧ p + R + w0 + m ≤ k ∧ ks + s ≤ k + 7 ∧ FC c w0 (p0 + R) As A ∧ FQ v p0 A2s A2
def EF (c n L C v w0 R p0 z r ks : Nat) (T : Nat → Int32) (th fi be wr x1 : Int32) (I0 A0 Is As A2s : Nat → Nat → Int32) (J : Nat → Nat → Int64) (t : Bool × Bool) (I2 A2 : Nat → Nat → Int32) : Prop := ∃ fa q m p I' A', MF T L v fa q m p I2 ∧ p0 ≤ p ∧ CE c n I0 A0 J t x1 ks Is As (nI fa) I' A' ∧ I' 34 4 = nI (kP T L q) ∧ FQ v p0 A2s A2
def EK (c n L C v w0 R p0 z r ks : Nat) (T : Nat → Int32) (th fi be wr x1 : Int32) (I0 A0 Is As A2s : Nat → Nat → Int32) (J : Nat → Nat → Int64) (t : Bool × Bool) (I2 A2 : Nat → Nat → Int32) : Prop := ∃ k p j I A, k < C ∧ CR c n I0 A0 J t x1 ks Is As k I A ∧ CI c T L k 8 (w0 + j) (p + R) z 0 r th fi be wr I A ∧ RI v k 0 0 (p + j) I2 ∧ (∀ i, i < j → pm (A 36 (w0 + (j - 1 - i))) (A2 86 (500 * v + p + i))) ∧ ty_run (fun q => A2 86 (500 * v + q)) (p + j - p0) p0 0 1 ∧ (∀ i, p0 ≤ i → i < p → ty_m (A (c + 5) (i + R)) (A (c + 6) (i + R)) (A2 86 (500 * v + i)) (A2 87 (500 * v + i))) ∧ p0 ≤ p ∧ p + R + w0 + j ≤ k ∧ ks + 1 ≤ k ∧ j ≤ 20 ∧ FC c w0 (p0 + R) As A ∧ FQ v p0 A2s A2 ∧ ¬ (kK T L k = 4 ∨ kK T L k = 5 ∨ kK T L k = 6)
theorem wb_c {c w0 σ0 : Nat} {As A : Nat → Nat → Int32} (h : wb w0 As) (g : FC c w0 σ0 As A) : wb w0 A := by
  rcases h with h | ⟨h, o, h1, h2⟩
  · exact Or.inl h
  · exact Or.inr ⟨h, o, h1, by rw [g.2.1 0 (by omega)]; exact h2⟩
theorem wm_i {a b : Int32} (h : wm a b) : (a = 11 → b = 6) ∧ (a = 4 → b = 8) ∧ (a = 5 → b = 9) ∧ (a = 6 → b = 10) := by
  rcases h with ⟨p, q⟩ | ⟨p, q⟩ | ⟨p, q⟩ | ⟨p, q⟩ <;> subst p <;> subst q <;> decide
/-- what comes off at the end of a bracket, or of an expression -/
theorem es_j0 {c v w0 R p0 m d e D p : Nat} {A A2 : Nat → Nat → Int32} (h : EX c v w0 R p0 m d e D (D + 1) p A A2) (hb : wb w0 A) : ∃ j, j ≤ m ∧ j ≤ D ∧ (∀ i, i < j → A 36 (w0 + (m - 1 - i)) = 4 ∨ A 36 (w0 + (m - 1 - i)) = 5 ∨ A 36 (w0 + (m - 1 - i)) = 6) ∧ sh (fun i => A 36 (w0 + i)) (m - j) d 0 (D - j) ∧ (∀ x, lea x = 2 ∨ (lea x = 1 ∧ (d ≠ 0 ∨ w0 = 0)) → RJ A x (w0 + m) j) ∧ (∀ i, i < j → ¬ A2 88 (m - 1 - i) = 6 ∧ ((0 : Int32) = 0 ∨ A2 88 (m - 1 - i) = 10)) ∧ (j = m ∨ ¬ (¬ A2 88 (m - 1 - j) = 6 ∧ ((0 : Int32) = 0 ∨ A2 88 (m - 1 - j) = 10))) ∧ (d = 0 → j = m ∧ j = D) := by
  obtain ⟨h1, h2, h3, h4, h5⟩ := h
  obtain ⟨j, q1, q2, q3, q4, q5⟩ := sh_all h1
  have q3' : ∀ i, i < j → A 36 (w0 + (m - 1 - i)) = 4 ∨ A 36 (w0 + (m - 1 - i)) = 5 ∨ A 36 (w0 + (m - 1 - i)) = 6 := q3
  have q4' : j = m ∨ A 36 (w0 + (m - 1 - j)) = 11 := q4
  have sb := sh_b _ _ _ _ q5
  have hjm : j = m → d = 0 := fun y => by omega
  refine ⟨j, q1, q2, q3', q5, fun x hx => ?_, fun i hi => ?_, ?_, fun y => by omega⟩
  · refine RJ_all q1 q3' q4' ?_ ?_
    · rcases hx with y | y
      · exact Or.inr y
      · exact Or.inl y.1
    · rcases hx with y | ⟨y, u | u⟩
      · refine Or.inr ⟨fun u => ?_, hb⟩
        rw [y] at u
        exact absurd u (by decide)
      · exact Or.inr ⟨fun _ y => u (hjm y), hb⟩
      · exact Or.inl u
  · have w := wm_i (h2 (m - 1 - i) (by omega))
    refine ⟨?_, Or.inl rfl⟩
    rcases q3' i hi with y | y | y
    · rw [w.2.1 y]; decide
    · rw [w.2.2.1 y]; decide
    · rw [w.2.2.2 y]; decide
  · by_cases y : j = m
    · exact Or.inl y
    · right
      rcases q4' with u | u
      · exact absurd u y
      · have w := wm_i (h2 (m - 1 - j) (by omega))
        exact fun g => g.1 (w.1 u)
/-- what comes off ahead of a sign -/
theorem es_j {c v w0 R p0 m d e D p κ : Nat} {A A2 : Nat → Nat → Int32} (h : EX c v w0 R p0 m d e D (D + 1) p A A2) (hb : wb w0 A) (hκ : κ = 4 ∨ κ = 5 ∨ κ = 6) : ∃ j e1 e2, j ≤ m ∧ j ≤ D ∧ (∀ i, i < j → A 36 (w0 + (m - 1 - i)) = 4 ∨ A 36 (w0 + (m - 1 - i)) = 5 ∨ A 36 (w0 + (m - 1 - i)) = 6) ∧ sh (fun i => A 36 (w0 + i)) (m - j) d e1 (D - j) ∧ RJ A (nI κ) (w0 + m) j ∧ (∀ i, i < j → ¬ A2 88 (m - 1 - i) = 6 ∧ ((if κ = 6 then (1 : Int32) else 0) = 0 ∨ A2 88 (m - 1 - i) = 10)) ∧ (j = m ∨ ¬ (¬ A2 88 (m - 1 - j) = 6 ∧ ((if κ = 6 then (1 : Int32) else 0) = 0 ∨ A2 88 (m - 1 - j) = 10))) ∧ (((κ = 4 ∨ κ = 5) ∧ e1 = 0 ∧ e2 = 1) ∨ (κ = 6 ∧ ((e1 = 0 ∧ e2 = 2) ∨ (e1 = 1 ∧ e2 = 3)))) := by
  by_cases k6 : κ = 6
  · subst k6
    obtain ⟨h1, h2, h3, h4, h5⟩ := h
    obtain ⟨j, q1, q2, q3, q4, q5⟩ := sh_times h1
    have q3' : ∀ i, i < j → A 36 (w0 + (m - 1 - i)) = 6 := q3
    have q4' : j = m ∨ A 36 (w0 + (m - 1 - j)) = 11 ∨ A 36 (w0 + (m - 1 - j)) = 4 ∨ A 36 (w0 + (m - 1 - j)) = 5 := q4
    have a1 : ∀ i, i < j → A 36 (w0 + (m - 1 - i)) = 4 ∨ A 36 (w0 + (m - 1 - i)) = 5 ∨ A 36 (w0 + (m - 1 - i)) = 6 := fun i hi => Or.inr (Or.inr (q3' i hi))
    have a2 : ∀ i, i < j → ¬ A2 88 (m - 1 - i) = 6 ∧ ((if 6 = 6 then (1 : Int32) else 0) = 0 ∨ A2 88 (m - 1 - i) = 10) := fun i hi => by
      have w := (wm_i (h2 (m - 1 - i) (by omega))).2.2.2 (q3' i hi)
      rw [w]
      exact ⟨by decide, Or.inr rfl⟩
    have a3 : j = m ∨ ¬ (¬ A2 88 (m - 1 - j) = 6 ∧ ((if 6 = 6 then (1 : Int32) else 0) = 0 ∨ A2 88 (m - 1 - j) = 10)) := by
      by_cases y : j = m
      · exact Or.inl y
      · right
        have w := wm_i (h2 (m - 1 - j) (by omega))
        rcases q4' with u | u | u | u
        · exact absurd u y
        · rw [w.1 u]; decide
        · rw [w.2.1 u]; decide
        · rw [w.2.2.1 u]; decide
    rcases q5 with u | u
    · exact ⟨j, 0, 2, q1, q2, a1, u, RJ_times q1 q3' q4' hb, a2, a3, Or.inr ⟨rfl, Or.inl ⟨rfl, rfl⟩⟩⟩
    · exact ⟨j, 1, 3, q1, q2, a1, u, RJ_times q1 q3' q4' hb, a2, a3, Or.inr ⟨rfl, Or.inr ⟨rfl, rfl⟩⟩⟩
  · obtain ⟨j, q1, q2, q3, q4, q5, q6, q7, q8⟩ := es_j0 h hb
    have e0 : (if κ = 6 then (1 : Int32) else 0) = 0 := if_neg k6
    rw [e0]
    refine ⟨j, 0, 1, q1, q2, q3, q4, q5 _ (Or.inl ?_), q6, q7, Or.inl ⟨by omega, rfl, rfl⟩⟩
    have l := lea_v
    rcases hκ with y | y | y
    · rw [y]; exact l.1
    · rw [y]; exact l.2.1
    · exact absurd y k6
section Es
variable {c n L C v w0 R p0 z r ks : Nat} {T : Nat → Int32} {th fi be wr x1 : Int32} {I0 A0 Is As A2s : Nat → Nat → Int32} {J : Nat → Nat → Int64} {t : Bool × Bool}
variable {s k m d e D dep p : Nat} {I A I2 A2 : Nat → Nat → Int32} {J2 : Nat → Nat → Int64} {t2 : Bool × Bool}
theorem es_T (hT : RT T L C A2s) (h : FQ v p0 A2s A2) : RT T L C A2 := RT_c hT (h.1 71 (by decide) (by decide) (by decide)) (h.1 72 (by decide) (by decide) (by decide)) (h.1 73 (by decide) (by decide) (by decide))
theorem es_stop (hc : c = 37 ∨ c = 60) (hn : 2100 ≤ n) (hL : L ≤ 2000) (hv : v < 2) (hT : RT T L C A2s) (hb : wb w0 As) (H : ES c n L C v w0 R p0 z r ks T th fi be wr x1 I0 A0 Is As A2s J t s k m d e D dep p I A I2 A2) {fa m' p' : Nat} (h : FO (sB s d r (kK T L k)) d (kK T L k) k = fa) (h0 : fa = 1 ∨ fa = 2) {I3 A3 : Nat → Nat → Int32} (hM : MF T L v fa k m' p' I3) (hp : p0 ≤ p') (hF : FQ v p0 A2s A3) : EF c n L C v w0 R p0 z r ks T th fi be wr x1 I0 A0 Is As A2s J t I3 A3 := by
  obtain ⟨hk, hR, hC, -⟩ := H
  have hk4 := (RT_k hT hk).1
  obtain ⟨I', g1, g2⟩ := cl_stop (I0 := I0) (A0 := A0) (J := J) (t := t) (x1 := x1) hc hn hL hk4 hC h h0
  exact ⟨fa, k, m', p', I', A, hM, hp, CE_trans hR (by omega) g1, g2, hF⟩
theorem FO_2 {m d κ k : Nat} (h0 : ¬ κ = 0) (hm : ¬ m = 99) (hk : k = 400) : FO m d κ k = 2 := by
  unfold FO
  rw [if_neg h0, if_neg hm, if_pos (by omega)]
theorem es_unit (hc : c = 37 ∨ c = 60) (hn : 2100 ≤ n) (hL : L ≤ 2000) (hv : v < 2) (hT : RT T L C A2s) (hb : wb w0 As) (H : ES c n L C v w0 R p0 z r ks T th fi be wr x1 I0 A0 Is As A2s J t 7 k m d e D D p I A I2 A2) (hK : kK T L k = 2 ∨ 20 ≤ kK T L k) {a b : Int32} (hm : ty_m (nI (kK T L k)) (kV T L k) a b) (ha : ¬ 2 ≤ a) {I3 A3 : Nat → Nat → Int32} (e3 : I3 = cw_u I2 68 30 (nI (500 * v + p + 1))) (f3 : A3 = cw_u (cw_u A2 86 (500 * v + p) a) 87 (500 * v + p) b) : pb_X12_next_68 n I3 A3 J2 t2 ∧ (EF c n L C v w0 R p0 z r ks T th fi be wr x1 I0 A0 Is As A2s J t (pI_X12_next_68 n I3 A3 J2 t2) A3 ∨ ∃ I' A', ES c n L C v w0 R p0 z r ks T th fi be wr x1 I0 A0 Is As A2s J t 8 (k + 1) m d e D (D + 1) (p + 1) I' A' (pI_X12_next_68 n I3 A3 J2 t2) A3) := by
  have H0 := H
  obtain ⟨hk, hR, hC, hI, hX, hB, hS, hFC, hFQ⟩ := H
  have hk4 := (RT_k hT hk).1
  obtain ⟨-, -, -, -, -, -, -, -, -, -, -, -, -, -, -, b3, -⟩ := id hC
  have bb := EX_b hX b3
  have hFQ3 : FQ v p0 A2s A3 := by rw [f3]; exact FQ_emit hFQ (by have := hX.2.2.2.2; omega) (by omega)
  have hI3 : RI v k d m (p + 1) I3 := by
    rw [e3]
    exact ⟨(cu_n (by decide)).trans hI.1, (cu_n (by decide)).trans hI.2.1, (cu_n (by decide)).trans hI.2.2.1, (cu_n (by decide)).trans hI.2.2.2.1, cu_s, (cu_n (by decide)).trans hI.2.2.2.2.2⟩
  have k0 : ¬ kK T L k = 0 := by omega
  by_cases c4 : k = 400
  · have rn := ri_next4 (n := n) (J := J2) (t := t2) (es_T hT hFQ3) hk c4 hI3 (by omega) (by omega)
    refine ⟨rn.1, Or.inl (es_stop hc hn hL hv hT hb H0 (FO_2 k0 ?_ c4) (Or.inr rfl) rn.2 (by have := hX.2.2.2.2; omega) hFQ3)⟩
    have e : sB 7 d r (kK T L k) = if kK T L k = 11 then 7 else if kK T L k = 2 ∨ 20 ≤ kK T L k then 8 else 99 := rfl
    rw [e, if_neg (by omega), if_pos hK]
    decide
  · have rn := ri_next (n := n) (A := A3) (J := J2) (t := t2) hI3 (by omega)
    obtain ⟨I', g1, g2⟩ := cl_unit (I0 := I0) (A0 := A0) (J := J) (t := t) (x1 := x1) hc hn hL (by omega) hC hK (by omega)
    have e : p + R + 1 = p + 1 + R := by omega
    rw [e] at g2
    refine ⟨rn.1, Or.inr ⟨I', _, RT_n hT hk (by omega) k0, CR_trans hR g1, g2, rn.2.2, ?_, by omega, by omega, FC_unit hc hFC (by have := hX.2.2.2.2; omega), hFQ3⟩⟩
    rw [f3]
    exact EX_unit hc hX hm ha (by omega)
theorem es_open (hc : c = 37 ∨ c = 60) (hn : 2100 ≤ n) (hL : L ≤ 2000) (hv : v < 2) (hT : RT T L C A2s) (hb : wb w0 As) (H : ES c n L C v w0 R p0 z r ks T th fi be wr x1 I0 A0 Is As A2s J t 7 k m d e D D p I A I2 A2) (hK : kK T L k = 11) (hd : d < 6) {I3 : Nat → Nat → Int32} (e3 : I3 = cw_u I2 68 12 (nI (d + 1))) : pb_X12_next_68 n I3 A2 J2 t2 ∧ pI_X12_next_68 n I3 A2 J2 t2 68 34 = nI m ∧ m ≤ 20 ∧ (EF c n L C v w0 R p0 z r ks T th fi be wr x1 I0 A0 Is As A2s J t (cw_u (pI_X12_next_68 n I3 A2 J2 t2) 68 34 (nI (m + 1))) (cw_u A2 88 m 6) ∨ ∃ I' A', ES c n L C v w0 R p0 z r ks T th fi be wr x1 I0 A0 Is As A2s J t 7 (k + 1) (m + 1) (d + 1) 0 D D p I' A' (cw_u (pI_X12_next_68 n I3 A2 J2 t2) 68 34 (nI (m + 1))) (cw_u A2 88 m 6)) := by
  have H0 := H
  obtain ⟨hk, hR, hC, hI, hX, hB, hS, hFC, hFQ⟩ := H
  have hk4 := (RT_k hT hk).1
  have bb := EX_b hX (by omega)
  have hp0 := hX.2.2.2.2
  have hw1 : w0 ≤ 1 := by rcases hb with y | y <;> omega
  have hI3 : RI v k (d + 1) m p I3 := by
    rw [e3]
    exact ⟨(cu_n (by decide)).trans hI.1, (cu_n (by decide)).trans hI.2.1, cu_s, (cu_n (by decide)).trans hI.2.2.2.1, (cu_n (by decide)).trans hI.2.2.2.2.1, (cu_n (by decide)).trans hI.2.2.2.2.2⟩
  by_cases c4 : k = 400
  · have rn := ri_next4 (n := n) (J := J2) (t := t2) (es_T hT hFQ) hk c4 hI3 (by omega) (by omega)
    obtain ⟨r1, m1, m2, m3, ⟨k', m4, m5⟩, m6, m7, m8, m9⟩ := rn
    refine ⟨r1, m6, by omega, Or.inl (es_stop hc hn hL hv hT hb H0 (FO_2 (by omega) ?_ c4) (Or.inr rfl) (m' := m + 1) (p' := p) ⟨(cu_n (by decide)).trans m1, m2, (cu_n (by decide)).trans m3, ⟨k', m4, (cu_n (by decide)).trans m5⟩, cu_s, (cu_n (by decide)).trans m7, by omega, by omega⟩ hp0 (FQ_88 hFQ))⟩
    rw [hK]
    unfold sB
    simp
  · have rn := ri_next (n := n) (A := A2) (J := J2) (t := t2) hI3 (by omega)
    obtain ⟨I', g1, g2⟩ := cl_open (I0 := I0) (A0 := A0) (J := J) (t := t) (x1 := x1) hc hn hL (by omega) hC hK (by omega) hd
    have r3 := rn.2.2
    refine ⟨rn.1, r3.2.2.2.1, by omega, Or.inr ⟨I', _, RT_n hT hk (by omega) (by omega), CR_trans hR g1, g2, ?_, EX_open hc hX, by omega, by omega, FC_36 hc hFC (by omega), FQ_88 hFQ⟩⟩
    exact ⟨(cu_n (by decide)).trans r3.1, (cu_n (by decide)).trans r3.2.1, (cu_n (by decide)).trans r3.2.2.1, cu_s, (cu_n (by decide)).trans r3.2.2.2.2.1, (cu_n (by decide)).trans r3.2.2.2.2.2⟩
theorem es_sign (hc : c = 37 ∨ c = 60) (hn : 2100 ≤ n) (hL : L ≤ 2000) (hv : v < 2) (hT : RT T L C A2s) (hb : wb w0 As) (H : ES c n L C v w0 R p0 z r ks T th fi be wr x1 I0 A0 Is As A2s J t 8 k m d e D (D + 1) p I A I2 A2) (hK : kK T L k = 4 ∨ kK T L k = 5 ∨ kK T L k = 6) {x : Int32} (hx : x = if kK T L k = 6 then 1 else 0) : pb_X12_comesOut_68 n I2 A2 J2 t2 x ∧ ∃ m', m' ≤ 20 ∧ pI_X12_comesOut_68 n I2 A2 J2 t2 x 68 34 = nI m' ∧ ∀ I4 A4, I4 = cw_u (pI_X12_comesOut_68 n I2 A2 J2 t2 x) 68 34 (nI (m' + 1)) → A4 = cw_u (pA_X12_comesOut_68 n I2 A2 J2 t2 x) 88 m' (nI (kK T L k + 4)) → pb_X12_next_68 n I4 A4 J2 t2 ∧ (EF c n L C v w0 R p0 z r ks T th fi be wr x1 I0 A0 Is As A2s J t (pI_X12_next_68 n I4 A4 J2 t2) A4 ∨ ∃ e' D' p' I' A', ES c n L C v w0 R p0 z r ks T th fi be wr x1 I0 A0 Is As A2s J t 7 (k + 1) (m' + 1) d e' D' D' p' I' A' (pI_X12_next_68 n I4 A4 J2 t2) A4) := by
  have H0 := H
  obtain ⟨hk, hR, hC, hI, hX, hB, hS, hFC, hFQ⟩ := H
  have hk4 := (RT_k hT hk).1
  obtain ⟨-, -, -, -, -, -, -, -, -, -, -, -, -, -, -, b3, -⟩ := id hC
  have bb := EX_b hX b3
  have hp0 := hX.2.2.2.2
  have hw1 : w0 ≤ 1 := by rcases hb with y | y <;> omega
  obtain ⟨j, e1, e2, q1, q2, q3, q4, q5, q6, q7, q8⟩ := es_j hX (wb_c hb hFC) hK
  rw [← hx] at q6 q7
  obtain ⟨r1, r2, r3⟩ := rp_cot (n := n) (J := J2) (t := t2) (x := x) hn hI.2.2.2.1 hI.2.2.2.2.1 (by omega) (by omega) q1 q6 q7
  refine ⟨r1, m - j, by omega, by rw [r2]; exact cu_s, fun I4 A4 g4 h4 => ?_⟩
  rw [r2] at g4
  generalize pA_X12_comesOut_68 n I2 A2 J2 t2 x = A3 at *
  have hFQ3 : FQ v p0 A2s A3 := FQ_rg hFQ r3 (by omega) (by omega)
  have hFQ4 : FQ v p0 A2s A4 := by rw [h4]; exact FQ_88 hFQ3
  have hI4 : RI v k d (m - j + 1) (p + j) I4 := by
    rw [g4]
    exact ⟨(cu_n (by decide)).trans ((cu_n (by decide)).trans ((cu_n (by decide)).trans hI.1)), (cu_n (by decide)).trans ((cu_n (by decide)).trans ((cu_n (by decide)).trans hI.2.1)), (cu_n (by decide)).trans ((cu_n (by decide)).trans ((cu_n (by decide)).trans hI.2.2.1)), cu_s, (cu_n (by decide)).trans ((cu_n (by decide)).trans (by rw [cu_s, Nat.add_assoc])), (cu_n (by decide)).trans ((cu_n (by decide)).trans ((cu_n (by decide)).trans hI.2.2.2.2.2))⟩
  have k0 : ¬ kK T L k = 0 := by omega
  have eB : sB 8 d r (kK T L k) = 7 := by
    have e : sB 8 d r (kK T L k) = if kK T L k = 4 ∨ kK T L k = 5 ∨ kK T L k = 6 then 7 else if d = 0 then (if r = 0 then (if 7 ≤ kK T L k ∧ kK T L k ≤ 10 then 7 else 99) else if kK T L k = 19 then 7 else if kK T L k = 3 then 0 else 99) else if kK T L k = 12 then 8 else 99 := rfl
    rw [e, if_pos hK]
  by_cases c4 : k = 400
  · have rn := ri_next4 (n := n) (J := J2) (t := t2) (es_T hT hFQ4) hk c4 hI4 (by omega) (by omega)
    exact ⟨rn.1, Or.inl (es_stop hc hn hL hv hT hb H0 (FO_2 k0 (by rw [eB]; decide) c4) (Or.inr rfl) rn.2 (by omega) hFQ4)⟩
  · have rn := ri_next (n := n) (A := A4) (J := J2) (t := t2) hI4 (by omega)
    obtain ⟨I', A1, g0, g1, g2⟩ := cl_sign (I0 := I0) (A0 := A0) (J := J) (t := t) (x1 := x1) hc hn hL (by omega) hC eB ⟨by omega, by omega, by omega⟩ q5 (by omega) (by omega) (by omega)
    have er : (if r = 0 then (if 7 ≤ kK T L k ∧ kK T L k ≤ 10 then 1 else 0) else 1) = r := by
      have hr1 : r ≤ 1 := by
        obtain ⟨-, -, -, -, -, -, -, -, -, -, -, -, -, -, -, -, b4, -⟩ := id hC
        exact b4
      by_cases y : r = 0
      · rw [if_pos y, if_neg (by omega), y]
      · rw [if_neg y]; omega
    have ew : w0 + m - j = w0 + (m - j) := by omega
    have ew1 : w0 + (m - j) + 1 = w0 + (m - j + 1) := by omega
    have eσ : p + R + j = p + j + R := by omega
    rw [er, ew, ew1, eσ] at g2
    rw [ew] at g1
    have hX1 := EX_out hc hX q1 q2 q3 q4 r3 g0
    refine ⟨rn.1, Or.inr ⟨e2, D - j + 1, p + j, I', _, RT_n hT hk (by omega) k0, CR_trans hR g1, g2, rn.2.2, ?_, by omega, by omega, FC_36 hc (FC_rf hc hFC g0 (by omega)) (by omega), hFQ4⟩⟩
    rw [h4]
    exact EX_sign hc hX1 q8
theorem es_close (hc : c = 37 ∨ c = 60) (hn : 2100 ≤ n) (hL : L ≤ 2000) (hv : v < 2) (hT : RT T L C A2s) (hb : wb w0 As) (H : ES c n L C v w0 R p0 z r ks T th fi be wr x1 I0 A0 Is As A2s J t 8 k m (d + 1) e D (D + 1) p I A I2 A2) (hK : kK T L k = 12) {I5 : Nat → Nat → Int32} (e5 : I5 = cw_u (cw_u (pI_X12_comesOut_68 n I2 A2 J2 t2 0) 68 34 (pI_X12_comesOut_68 n I2 A2 J2 t2 0 68 34 - 1)) 68 12 (cw_u (pI_X12_comesOut_68 n I2 A2 J2 t2 0) 68 34 (pI_X12_comesOut_68 n I2 A2 J2 t2 0 68 34 - 1) 68 12 - 1)) : pb_X12_comesOut_68 n I2 A2 J2 t2 0 ∧ pb_X12_next_68 n I5 (pA_X12_comesOut_68 n I2 A2 J2 t2 0) J2 t2 ∧ (EF c n L C v w0 R p0 z r ks T th fi be wr x1 I0 A0 Is As A2s J t (pI_X12_next_68 n I5 (pA_X12_comesOut_68 n I2 A2 J2 t2 0) J2 t2) (pA_X12_comesOut_68 n I2 A2 J2 t2 0) ∨ ∃ m' e' D' p' I' A', ES c n L C v w0 R p0 z r ks T th fi be wr x1 I0 A0 Is As A2s J t 8 (k + 1) m' d e' D' (D' + 1) p' I' A' (pI_X12_next_68 n I5 (pA_X12_comesOut_68 n I2 A2 J2 t2 0) J2 t2) (pA_X12_comesOut_68 n I2 A2 J2 t2 0)) := by
  have H0 := H
  obtain ⟨hk, hR, hC, hI, hX, hB, hS, hFC, hFQ⟩ := H
  have hk4 := (RT_k hT hk).1
  obtain ⟨-, -, -, -, -, -, -, -, -, -, -, -, -, -, -, b3, -⟩ := id hC
  have bb := EX_b hX b3
  have hp0 := hX.2.2.2.2
  have hw1 : w0 ≤ 1 := by rcases hb with y | y <;> omega
  obtain ⟨j, q1, q2, q3, q4, q5, q6, q7, -⟩ := es_j0 hX (wb_c hb hFC)
  obtain ⟨r1, r2, r3⟩ := rp_cot (n := n) (J := J2) (t := t2) (x := 0) hn hI.2.2.2.1 hI.2.2.2.2.1 (by omega) (by omega) q1 q6 q7
  obtain ⟨m', es, em, -, -⟩ := sh_pop q4
  rw [r2, cu_s, em, nI_pred, cu_n (a := 68) (b := 12) (by simp), cu_n (a := 68) (b := 12) (by simp), cu_n (a := 68) (b := 12) (by simp), hI.2.2.1, nI_pred] at e5
  generalize pA_X12_comesOut_68 n I2 A2 J2 t2 0 = A3 at *
  have hFQ3 : FQ v p0 A2s A3 := FQ_rg hFQ r3 (by omega) (by omega)
  have hI4 : RI v k d m' (p + j) I5 := by
    rw [e5]
    exact ⟨(cu_n (by decide)).trans ((cu_n (by decide)).trans ((cu_n (by decide)).trans ((cu_n (by decide)).trans hI.1))), (cu_n (by decide)).trans ((cu_n (by decide)).trans ((cu_n (by decide)).trans ((cu_n (by decide)).trans hI.2.1))), cu_s, (cu_n (by decide)).trans cu_s, (cu_n (by decide)).trans ((cu_n (by decide)).trans ((cu_n (by decide)).trans (by rw [cu_s, Nat.add_assoc]))), (cu_n (by decide)).trans ((cu_n (by decide)).trans ((cu_n (by decide)).trans ((cu_n (by decide)).trans hI.2.2.2.2.2)))⟩
  have k0 : ¬ kK T L k = 0 := by omega
  have eB : sB 8 (d + 1) r (kK T L k) = 8 := by
    rw [hK]; unfold sB; simp
  by_cases c4 : k = 400
  · have rn := ri_next4 (n := n) (J := J2) (t := t2) (es_T hT hFQ3) hk c4 hI4 (by omega) (by omega)
    exact ⟨r1, rn.1, Or.inl (es_stop hc hn hL hv hT hb H0 (FO_2 k0 (by rw [eB]; decide) c4) (Or.inr rfl) rn.2 (by omega) hFQ3)⟩
  · have rn := ri_next (n := n) (A := A3) (J := J2) (t := t2) hI4 (by omega)
    have q5' : RJ A (nI (kK T L k)) (w0 + m) j := q5 _ (by rw [hK]; exact Or.inr ⟨lea_v.2.2.2.1, Or.inl (by omega)⟩)
    obtain ⟨I', A1, g0, g1, g2⟩ := cl_close (I0 := I0) (A0 := A0) (J := J) (t := t) (x1 := x1) hc hn hL (by omega) hC hK q5' (by omega) (by omega) (by omega)
    have ew : w0 + m - j - 1 = w0 + m' := by omega
    have eσ : p + R + j = p + j + R := by omega
    rw [ew, eσ] at g2
    have hX1 := EX_out hc hX q1 q2 q3 q4 r3 g0
    obtain ⟨m2, e2, em2, hX2⟩ := EX_pop hX1
    have emm : m2 = m' := by omega
    subst emm
    exact ⟨r1, rn.1, Or.inr ⟨m2, e2, D - j, p + j, I', A1, RT_n hT hk (by omega) k0, CR_trans hR g1, g2, rn.2.2, hX2, by omega, by omega, FC_rf hc hFC g0 (by omega), hFQ3⟩⟩
theorem es_fin (hc : c = 37 ∨ c = 60) (hn : 2100 ≤ n) (hL : L ≤ 2000) (hv : v < 2) (hT : RT T L C A2s) (hb : wb w0 As) (H : ES c n L C v w0 R p0 z r ks T th fi be wr x1 I0 A0 Is As A2s J t 8 k m 0 e D (D + 1) p I A I2 A2) (hK : ¬ (kK T L k = 4 ∨ kK T L k = 5 ∨ kK T L k = 6)) : pb_X12_comesOut_68 n I2 A2 J2 t2 0 ∧ EK c n L C v w0 R p0 z r ks T th fi be wr x1 I0 A0 Is As A2s J t (pI_X12_comesOut_68 n I2 A2 J2 t2 0) (pA_X12_comesOut_68 n I2 A2 J2 t2 0) := by
  obtain ⟨hk, hR, hC, hI, hX, hB, hS, hFC, hFQ⟩ := H
  have hk4 := (RT_k hT hk).1
  have bb := EX_b hX (by decide)
  have hp0 := hX.2.2.2.2
  obtain ⟨j, q1, q2, q3, q4, q5, q6, q7, q8⟩ := es_j0 hX (wb_c hb hFC)
  obtain ⟨r1, r2, r3⟩ := rp_cot (n := n) (J := J2) (t := t2) (x := 0) hn hI.2.2.2.1 hI.2.2.2.2.1 (by omega) (by omega) q1 q6 q7
  have hj := (q8 rfl).1
  have hD := (q8 rfl).2
  obtain ⟨k1, k2, k3, k4⟩ := EX_ref hX q1 q2 q3 r3
  refine ⟨r1, k, p, m, I, A, hk, hR, hC, ?_, ?_, ?_, ?_, hp0, hB, by omega, by omega, hFC, FQ_rg hFQ r3 (by omega) (by omega), hK⟩
  · rw [r2, hj]
    exact ⟨(cu_n (by decide)).trans ((cu_n (by decide)).trans hI.1), (cu_n (by decide)).trans ((cu_n (by decide)).trans hI.2.1), (cu_n (by decide)).trans ((cu_n (by decide)).trans hI.2.2.1), cu_s.trans (by rw [Nat.sub_self]), (cu_n (by decide)).trans (by rw [cu_s, Nat.add_assoc]), (cu_n (by decide)).trans ((cu_n (by decide)).trans hI.2.2.2.2.2)⟩
  · rw [hj] at k1; exact k1
  · rw [hj] at k2 hD
    have e : D + 1 - m = 1 := by omega
    rw [e] at k2; exact k2
  · intro i a b
    have q := k3 (500 * v + i) (by omega)
    rw [q.1, q.2]
    exact hX.2.2.2.1 i a b
end Es
