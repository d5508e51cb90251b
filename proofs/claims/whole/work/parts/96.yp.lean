/-! a relation on both sides -/
/-- both have told the same fault -/
def XF (c n L v ks : Nat) (T : Nat → Int32) (x1 : Int32) (I0 A0 Is As A2s : Nat → Nat → Int32) (J : Nat → Nat → Int64) (t : Bool × Bool) (I2 A2 : Nat → Nat → Int32) : Prop := ∃ fa q I' A', Mq T L fa q I2 ∧ CE c n I0 A0 J t x1 ks Is As (nI fa) I' A' ∧ I' 34 4 = nI (kP T L q) ∧ FS v A2s A2
/-- both stand behind a relation; the class has its last signs still to put down -/
def XR (c n L C v R p0 z ks : Nat) (T : Nat → Int32) (th fi be wr x1 : Int32) (I0 A0 Is As A2s : Nat → Nat → Int32) (J : Nat → Nat → Int64) (t : Bool × Bool) (I2 A2 : Nat → Nat → Int32) : Prop := ∃ k p j y o I A, k < C ∧ ks + 3 ≤ k ∧ CR c n I0 A0 J t x1 ks Is As k I A ∧ CI c T L k 8 (1 + j) (p + R) z 0 1 th fi be wr I A ∧ RQ v k 0 (p + j) I2 ∧ (∀ i, i < j → pm (A 36 (1 + (j - 1 - i))) (A2 86 (500 * v + p + i))) ∧ o < 4 ∧ A 36 0 = nI (7 + o) ∧ A2 81 v = nI (R + 1) ∧ A2 82 (200 * v + R) = nI o ∧ A2 83 (200 * v + R) = nI (500 * v + p0) ∧ A2 84 (200 * v + R) = nI (500 * v + y) ∧ A2 85 (200 * v + R) = nI (500 * v + (p + j)) ∧ p0 ≤ y ∧ y ≤ p ∧ ty_run (fun q => A2 86 (500 * v + q)) (y - p0) p0 0 1 ∧ ty_run (fun q => A2 86 (500 * v + q)) (p + j - y) y 0 1 ∧ (∀ i, p0 ≤ i → i < p → ty_m (A (c + 5) (i + R)) (A (c + 6) (i + R)) (A2 86 (500 * v + i)) (A2 87 (500 * v + i))) ∧ p + R + 1 + j ≤ k ∧ j ≤ 20 ∧ GA c z (p0 + R) As A ∧ GB v z R p0 A2s A2 ∧ FS v A2s A2 ∧ ¬ (kK T L k = 4 ∨ kK T L k = 5 ∨ kK T L k = 6)
section Rl
variable {c n L C v R p0 z ks : Nat} {T : Nat → Int32} {th fi be wr x1 : Int32} {I0 A0 Is As A2s : Nat → Nat → Int32} {J : Nat → Nat → Int64} {t : Bool × Bool}
variable {I2 A2 : Nat → Nat → Int32} {J2 : Nat → Nat → Int64} {t2 : Bool × Bool}
theorem ex_q {w0 r : Nat} (hc : c = 37 ∨ c = 60) (hn : 2100 ≤ n) (hL : L ≤ 2000) (hv : v < 2) (hT : RT T L C A2s) (hb : wb w0 As) (hk : ks < C) (hC : CI c T L ks 7 w0 (p0 + R) z 0 r th fi be wr Is As) (hp : p0 + R + w0 ≤ ks) (hI : RQ v ks 0 p0 I2) : pb_X12_expression_68 n I2 A2s J2 t2 ∧ (EF c n L C v w0 R p0 z r ks T th fi be wr x1 I0 A0 Is As A2s J t (pI_X12_expression_68 n I2 A2s J2 t2) (pA_X12_expression_68 n I2 A2s J2 t2) ∨ EK c n L C v w0 R p0 z r ks T th fi be wr x1 I0 A0 Is As A2s J t (pI_X12_expression_68 n I2 A2s J2 t2) (pA_X12_expression_68 n I2 A2s J2 t2)) := by
  have hk4 := (RT_k hT hk).1
  have h9 : q9_X12_expression_68 n I2 A2s J2 t2 = 0 := by
    unfold q9_X12_expression_68 qI2_X12_expression_68
    rw [cu_n (by simp), hI.2.2.1]; rfl
  have hI2 : RI v ks 0 0 p0 (qI2_X12_expression_68 n I2 A2s J2 t2) := ⟨(cu_n (by decide)).trans hI.1, (cu_n (by decide)).trans hI.2.1, (cu_n (by decide)).trans hI.2.2.1, cu_s, (cu_n (by decide)).trans hI.2.2.2.1, (cu_n (by decide)).trans hI.2.2.2.2⟩
  exact ex_lp hc hn hL hv hT hb h9 (401 - ks) n ks 0 0 0 0 p0 Is As _ A2s (by omega) (by omega) ⟨hk, CR_refl, hC, hI2, EX_0, by omega, by omega, FC_refl, FQ_refl⟩
theorem pm_3 {a b : Int32} (h : pm a b) : a = 4 ∨ a = 5 ∨ a = 6 := by
  rcases h with ⟨h, _⟩ | ⟨h, _⟩ | ⟨h, _⟩
  · exact Or.inl h
  · exact Or.inr (Or.inl h)
  · exact Or.inr (Or.inr h)
theorem lea_rel : ∀ κ, κ ≤ 10 → 7 ≤ κ → lea (nI κ) = 1 := by decide +kernel
/-- behind a fault of the left side, or of the sign -/
theorem rl_f (hn : 2100 ≤ n) {fa q : Nat} (h1 : pb_X12_expression_68 n I2 A2s J2 t2) (h2 : pI_X12_expression_68 n I2 A2s J2 t2 68 13 ≤ 0 → vp_in (pI_X12_expression_68 n I2 A2s J2 t2 68 11) 403) (h3 : pI_X12_expression_68 n I2 A2s J2 t2 68 13 = 0 → pb_X12_fail_68 n (pI_X12_expression_68 n I2 A2s J2 t2) (pA_X12_expression_68 n I2 A2s J2 t2) J2 t2 1) (h4 : pb_X12_next_68 n (qIm37_X12_relation_68 n I2 A2s J2 t2) (pA_X12_expression_68 n I2 A2s J2 t2) J2 t2) (h5 : Mq T L fa q (pI_X12_next_68 n (qIm37_X12_relation_68 n I2 A2s J2 t2) (pA_X12_expression_68 n I2 A2s J2 t2) J2 t2)) : pb_X12_relation_68 n I2 A2s J2 t2 ∧ Mq T L fa q (pI_X12_relation_68 n I2 A2s J2 t2) ∧ pA_X12_relation_68 n I2 A2s J2 t2 = pA_X12_expression_68 n I2 A2s J2 t2 := by
  obtain ⟨m1, m2, m3⟩ := Mq_ex (n := n) (A := pA_X12_expression_68 n I2 A2s J2 t2) (J := J2) (t := t2) hn h5
  have zf := Mq_p m2
  refine ⟨⟨h1, h2, fun y => ⟨fun _ => h3 y, fun _ _ => h3 y⟩, h4, m1, fun y => absurd y zf.1⟩, m2, ?_⟩
  unfold pA_X12_relation_68
  rw [if_neg zf.1]
  exact m3
theorem rel_all (hc : c = 37 ∨ c = 60) (hn : 2100 ≤ n) (hL : L ≤ 2000) (hv : v < 2) (hT : RT T L C A2s) (hk : ks < C) (hC : CI c T L ks 7 0 (p0 + R) z 0 0 th fi be wr Is As) (hp : p0 + R ≤ ks) (hR : 4 * R ≤ ks) (h81 : A2s 81 v = nI R) (hI : RQ v ks 0 p0 I2) : pb_X12_relation_68 n I2 A2s J2 t2 ∧ (XF c n L v ks T x1 I0 A0 Is As A2s J t (pI_X12_relation_68 n I2 A2s J2 t2) (pA_X12_relation_68 n I2 A2s J2 t2) ∨ XR c n L C v R p0 z ks T th fi be wr x1 I0 A0 Is As A2s J t (pI_X12_relation_68 n I2 A2s J2 t2) (pA_X12_relation_68 n I2 A2s J2 t2)) := by
  have hks4 := (RT_k hT hk).1
  obtain ⟨e1, e2⟩ := ex_q (I0 := I0) (A0 := A0) (J := J) (t := t) (x1 := x1) (J2 := J2) (t2 := t2) (w0 := 0) hc hn hL hv hT (Or.inl rfl) hk hC (by omega) hI
  rcases e2 with ⟨fa, q, m, p, I', A', h1, h2, h3, h4, h5⟩ | ⟨k, p, j, I, A, f1, f2, f3, f4, f5, f6, f7, f8, f9, f10, f11, f12, f13, f14⟩
  · have zf := MF_p h1
    have q37 : qIm37_X12_relation_68 n I2 A2s J2 t2 = pI_X12_expression_68 n I2 A2s J2 t2 := if_neg zf.2
    obtain ⟨n1, n2⟩ := Mq_next (n := n) (A := pA_X12_expression_68 n I2 A2s J2 t2) (J := J2) (t := t2) (MF_Q h1)
    have r := rl_f (J2 := J2) (t2 := t2) hn e1 (fun y => absurd y zf.1) (fun y => absurd y zf.2) (by rw [q37]; exact n1) (by rw [q37]; exact n2)
    refine ⟨r.1, Or.inl ⟨fa, q, I', A', r.2.1, h3, h4, ?_⟩⟩
    rw [r.2.2]
    exact FQ_S h5
  · have hT1 := es_T hT f13
    obtain ⟨hk4, hcm, h72, h73⟩ := RT_k hT1 f1
    have z13 : pI_X12_expression_68 n I2 A2s J2 t2 68 13 = 0 := f4.1
    have z13' : pI_X12_expression_68 n I2 A2s J2 t2 68 13 ≤ 0 := by rw [z13]; decide
    have vk : vp_in (pI_X12_expression_68 n I2 A2s J2 t2 68 11) 403 := by rw [f4.2.1]; exact vp_in_nI (by omega) (by decide)
    have eso : qs0m13_X12_relation_68 n I2 A2s J2 t2 = pA_X12_expression_68 n I2 A2s J2 t2 71 k - 11 := by
      unfold qs0m13_X12_relation_68
      rw [if_pos z13', f4.2.1, nI_clamp (by omega)]
    have kr := km_rel kK_le hcm
    have eB : sB 8 0 0 (kK T L k) = if 7 ≤ kK T L k ∧ kK T L k ≤ 10 then 7 else 99 := by
      have e : sB 8 0 0 (kK T L k) = if kK T L k = 4 ∨ kK T L k = 5 ∨ kK T L k = 6 then 7 else if (0 : Nat) = 0 then (if (0 : Nat) = 0 then (if 7 ≤ kK T L k ∧ kK T L k ≤ 10 then 7 else 99) else if kK T L k = 19 then 7 else if kK T L k = 3 then 0 else 99) else if kK T L k = 12 then 8 else 99 := rfl
      rw [e, if_neg f14, if_pos rfl, if_pos rfl]
    by_cases hK : 7 ≤ kK T L k ∧ kK T L k ≤ 10
    · rw [if_pos hK] at eB
      have so := kr.1 hK
      rw [so] at eso
      have q37 : qIm37_X12_relation_68 n I2 A2s J2 t2 = pI_X12_expression_68 n I2 A2s J2 t2 := by
        unfold qIm37_X12_relation_68 qIm41_X12_relation_68 qIm46_X12_relation_68
        rw [eso, if_pos z13, if_neg (nI_pos (by omega)), if_pos (show nI (kK T L k - 7) ≤ (3 : Int32) from nI_le (b := 3) (by omega) (by decide))]
      have hQ : RQ v k 0 (p + j) (pI_X12_expression_68 n I2 A2s J2 t2) := RI_Q f4
      have k0 : ¬ kK T L k = 0 := by omega
      by_cases c4 : k = 400
      · obtain ⟨n1, n2⟩ := rq_next4 (n := n) (J := J2) (t := t2) hT1 f1 c4 hQ
        have r := rl_f (J2 := J2) (t2 := t2) hn e1 (fun _ => vk) (fun _ => (rp_fail (x := 1) f4.1 f4.2.1 (by omega)).1) (by rw [q37]; exact n1) (by rw [q37]; exact n2)
        obtain ⟨I', g1, g2⟩ := cl_stop (I0 := I0) (A0 := A0) (J := J) (t := t) (x1 := x1) hc hn hL hk4 f3 (FO_2 k0 (by rw [eB]; decide) c4) (Or.inr rfl)
        refine ⟨r.1, Or.inl ⟨2, k, I', A, r.2.1, CE_trans f2 (by omega) g1, g2, ?_⟩⟩
        rw [r.2.2]
        exact FQ_S f13
      · obtain ⟨n1, n2, -, -⟩ := rq_next (n := n) (A := pA_X12_expression_68 n I2 A2s J2 t2) (J := J2) (t := t2) hQ (by omega)
        have pj : ∀ i, i < j → A 36 (0 + (j - 1 - i)) = 4 ∨ A 36 (0 + (j - 1 - i)) = 5 ∨ A 36 (0 + (j - 1 - i)) = 6 := fun i hi => pm_3 (f5 i hi)
        have hrj : RJ A (nI (kK T L k)) (0 + j) j := RJ_all (Nat.le_refl _) pj (Or.inl rfl) (Or.inl (lea_rel _ hK.2 hK.1)) (Or.inl rfl)
        obtain ⟨I', A1, g0, g1, g2⟩ := cl_sign (I0 := I0) (A0 := A0) (J := J) (t := t) (x1 := x1) hc hn hL (by omega) f3 eB ⟨by omega, by omega, by omega⟩ hrj (by omega) (by omega) (by omega)
        have ew : 0 + j - j = 0 := by omega
        have eσ : p + R + j = p + j + R := by omega
        rw [if_pos rfl, if_pos hK, ew, eσ] at g2
        rw [ew] at g1
        have hk1 : k + 1 < C := RT_n hT f1 (by omega) k0
        have hFC1 : FC c 0 (p0 + R) As (cw_u A1 36 0 (nI (kK T L k))) := FC_36 hc (FC_rf hc f12 g0 (by omega)) (by omega)
        have hb1 : wb 1 (cw_u A1 36 0 (nI (kK T L k))) := Or.inr ⟨rfl, kK T L k - 7, by omega, by rw [cu_s]; congr 1; omega⟩
        obtain ⟨e3, e4⟩ := ex_q (I0 := I0) (A0 := A0) (J := J) (t := t) (x1 := x1) (J2 := J2) (t2 := t2) (w0 := 1) hc hn hL hv hT1 hb1 hk1 g2 (by omega) n2
        rw [← q37] at n1 e3 e4
        have hCR : CR c n I0 A0 J t x1 ks Is As (k + 1) I' (cw_u A1 36 0 (nI (kK T L k))) := CR_trans f2 g1
        have pbr : (pI_X12_expression_68 n (pI_X12_next_68 n (qIm37_X12_relation_68 n I2 A2s J2 t2) (pA_X12_expression_68 n I2 A2s J2 t2) J2 t2) (pA_X12_expression_68 n I2 A2s J2 t2) J2 t2 68 13 ≤ 0 → vp_in ((pI_X12_expression_68 n (pI_X12_next_68 n (qIm37_X12_relation_68 n I2 A2s J2 t2) (pA_X12_expression_68 n I2 A2s J2 t2) J2 t2) (pA_X12_expression_68 n I2 A2s J2 t2) J2 t2) 68 19) 2 ∧ vp_in (q93_X12_relation_68 n I2 A2s J2 t2) 400) → pb_X12_relation_68 n I2 A2s J2 t2 := by
          intro y
          refine ⟨e1, fun _ => vk, fun _ => ?_, n1, e3, fun u => ?_⟩
          · have pf := (rp_fail (n := n) (A := pA_X12_expression_68 n I2 A2s J2 t2) (J := J2) (t := t2) (x := 1) f4.1 f4.2.1 (by omega)).1
            exact ⟨fun _ => pf, fun _ _ => pf⟩
          · have y := y u
            exact ⟨y.1, y.2, y.2, y.2, y.2, y.1, y.1⟩
        have fo : FQ v (p + j) (pA_X12_expression_68 n I2 A2s J2 t2) (pA_X12_expression_68 n (pI_X12_next_68 n (qIm37_X12_relation_68 n I2 A2s J2 t2) (pA_X12_expression_68 n I2 A2s J2 t2) J2 t2) (pA_X12_expression_68 n I2 A2s J2 t2) J2 t2) := by
          rcases e4 with ⟨_, _, _, _, _, _, _, _, _, _, y⟩ | ⟨_, _, _, _, _, _, _, _, _, _, _, _, _, _, _, _, _, y, _⟩ <;> exact y
        have eA : pA_X12_relation_68 n I2 A2s J2 t2 = if (pI_X12_expression_68 n (pI_X12_next_68 n (qIm37_X12_relation_68 n I2 A2s J2 t2) (pA_X12_expression_68 n I2 A2s J2 t2) J2 t2) (pA_X12_expression_68 n I2 A2s J2 t2) J2 t2) 68 13 ≤ 0 then qA142_X12_relation_68 n I2 A2s J2 t2 else (pA_X12_expression_68 n (pI_X12_next_68 n (qIm37_X12_relation_68 n I2 A2s J2 t2) (pA_X12_expression_68 n I2 A2s J2 t2) J2 t2) (pA_X12_expression_68 n I2 A2s J2 t2) J2 t2) := rfl
        have eI : pI_X12_relation_68 n I2 A2s J2 t2 = pI_X12_expression_68 n (pI_X12_next_68 n (qIm37_X12_relation_68 n I2 A2s J2 t2) (pA_X12_expression_68 n I2 A2s J2 t2) J2 t2) (pA_X12_expression_68 n I2 A2s J2 t2) J2 t2 := rfl
        have q62 : q62_X12_relation_68 n I2 A2s J2 t2 = nI (500 * v + (p + j)) := by
          unfold q62_X12_relation_68
          rw [q37]
          exact n2.2.2.2.1
        have e142 : qA142_X12_relation_68 n I2 A2s J2 t2 = cw_u (cw_u (cw_u (cw_u (cw_u (pA_X12_expression_68 n (pI_X12_next_68 n (qIm37_X12_relation_68 n I2 A2s J2 t2) (pA_X12_expression_68 n I2 A2s J2 t2) J2 t2) (pA_X12_expression_68 n I2 A2s J2 t2) J2 t2) 82 ((q93_X12_relation_68 n I2 A2s J2 t2)).toNatClampNeg (qs0m13_X12_relation_68 n I2 A2s J2 t2)) 83 ((q93_X12_relation_68 n I2 A2s J2 t2)).toNatClampNeg (I2 68 30)) 84 ((q93_X12_relation_68 n I2 A2s J2 t2)).toNatClampNeg (q62_X12_relation_68 n I2 A2s J2 t2)) 85 ((q93_X12_relation_68 n I2 A2s J2 t2)).toNatClampNeg ((pI_X12_expression_68 n (pI_X12_next_68 n (qIm37_X12_relation_68 n I2 A2s J2 t2) (pA_X12_expression_68 n I2 A2s J2 t2) J2 t2 ) (pA_X12_expression_68 n I2 A2s J2 t2) J2 t2 ) 68 30)) 81 (((pI_X12_expression_68 n (pI_X12_next_68 n (qIm37_X12_relation_68 n I2 A2s J2 t2) (pA_X12_expression_68 n I2 A2s J2 t2) J2 t2) (pA_X12_expression_68 n I2 A2s J2 t2) J2 t2) 68 19)).toNatClampNeg (((qA129_X12_relation_68 n I2 A2s J2 t2) 81 (((pI_X12_expression_68 n (pI_X12_next_68 n (qIm37_X12_relation_68 n I2 A2s J2 t2) (pA_X12_expression_68 n I2 A2s J2 t2) J2 t2) (pA_X12_expression_68 n I2 A2s J2 t2) J2 t2) 68 19)).toNatClampNeg) + 1) := rfl
        have e93 : q93_X12_relation_68 n I2 A2s J2 t2 = (200 : Int32) * ((pI_X12_expression_68 n (pI_X12_next_68 n (qIm37_X12_relation_68 n I2 A2s J2 t2) (pA_X12_expression_68 n I2 A2s J2 t2) J2 t2) (pA_X12_expression_68 n I2 A2s J2 t2) J2 t2) 68 19) + (pA_X12_expression_68 n (pI_X12_next_68 n (qIm37_X12_relation_68 n I2 A2s J2 t2) (pA_X12_expression_68 n I2 A2s J2 t2) J2 t2) (pA_X12_expression_68 n I2 A2s J2 t2) J2 t2) 81 (((pI_X12_expression_68 n (pI_X12_next_68 n (qIm37_X12_relation_68 n I2 A2s J2 t2) (pA_X12_expression_68 n I2 A2s J2 t2) J2 t2) (pA_X12_expression_68 n I2 A2s J2 t2) J2 t2) 68 19)).toNatClampNeg := rfl
        have e129 : qA129_X12_relation_68 n I2 A2s J2 t2 81 = pA_X12_expression_68 n (pI_X12_next_68 n (qIm37_X12_relation_68 n I2 A2s J2 t2) (pA_X12_expression_68 n I2 A2s J2 t2) J2 t2) (pA_X12_expression_68 n I2 A2s J2 t2) J2 t2 81 := by
          unfold qA129_X12_relation_68 qA118_X12_relation_68 qA110_X12_relation_68 qA102_X12_relation_68
          rw [cw_u_c _ _ (by decide), cw_u_c _ _ (by decide), cw_u_c _ _ (by decide), cw_u_c _ _ (by decide)]
        rw [eA, eI]
        generalize pI_X12_expression_68 n (pI_X12_next_68 n (qIm37_X12_relation_68 n I2 A2s J2 t2) (pA_X12_expression_68 n I2 A2s J2 t2) J2 t2) (pA_X12_expression_68 n I2 A2s J2 t2) J2 t2 = I3 at *
        generalize pA_X12_expression_68 n (pI_X12_next_68 n (qIm37_X12_relation_68 n I2 A2s J2 t2) (pA_X12_expression_68 n I2 A2s J2 t2) J2 t2) (pA_X12_expression_68 n I2 A2s J2 t2) J2 t2 = A3 at *
        generalize pA_X12_expression_68 n I2 A2s J2 t2 = A4 at *
        rcases e4 with ⟨fa, q, m, p2, I'', A'', h1, h2, h3, h4, h5⟩ | ⟨k2, p2, j2, I5, A5, d1, d2, d3, d4, d5, d6, d7, d8, d9, d10, d11, d12, d13, d14⟩
        · have zf := MF_p h1
          refine ⟨pbr (fun y => absurd y zf.1), Or.inl ⟨fa, q, I'', A'', MF_Q h1, CE_trans hCR (by omega) h3, h4, ?_⟩⟩
          rw [if_neg zf.1]
          exact FS_trans (FQ_S f13) (FQ_S h5)
        · have hk24 := (RT_k hT d1).1
          have z3 : I3 68 13 ≤ 0 := by rw [d4.1]; decide
          have e19 : I3 68 19 = nI v := d4.2.2.2.2.2
          have e81 : A3 81 v = nI R := by rw [d13.1 81 (by decide) (by decide) (by decide), f13.1 81 (by decide) (by decide) (by decide)]; exact h81
          have e200 : (200 : Int32) = nI 200 := rfl
          rw [e19, nI_clamp (by omega), e81, e200, pk_mul, nI_add] at e93
          rw [e93, e19, nI_clamp (by omega), nI_clamp (by omega), e129, e81, nI_1, eso, hI.2.2.2.1, q62, d4.2.2.2.2.1] at e142
          rw [if_pos z3, e142]
          refine ⟨pbr (fun _ => ⟨by rw [e19]; exact vp_in_nI hv (by decide), by rw [e93]; exact vp_in_nI (by omega) (by decide)⟩), Or.inr ⟨k2, p2, j2, p + j, kK T L k - 7, I5, A5, d1, by omega, CR_trans hCR d2, d3, RI_Q d4, fun i hi => ?_, by omega, ?_, cu_s, ?_, ?_, ?_, ?_, by omega, by omega, ?_, ?_, fun i q1 q2 => ?_, by omega, d11, ?_, ?_, ?_, d14⟩⟩
          · rw [cu_n (by simp), cu_n (by simp), cu_n (by simp), cu_n (by simp), cu_n (by simp)]
            exact d5 i hi
          · rw [d12.2.1 0 (by decide), cu_s]
            congr 1; omega
          · rw [cu_n (by simp), cu_n (by simp), cu_n (by simp), cu_n (by simp), cu_s]
          · rw [cu_n (by simp), cu_n (by simp), cu_n (by simp), cu_s]
          · rw [cu_n (by simp), cu_n (by simp), cu_s]
          · rw [cu_n (by simp), cu_s]
          · refine tyr_c _ _ _ _ (fun i q1 q2 => ?_) f6
            show cw_u (cw_u (cw_u (cw_u (cw_u A3 82 _ _) 83 _ _) 84 _ _) 85 _ _) 81 _ _ 86 _ = _
            rw [cu_n (by simp), cu_n (by simp), cu_n (by simp), cu_n (by simp), cu_n (by simp)]
            exact (d13.2 _ (by omega)).1
          · refine tyr_c _ _ _ _ (fun i q1 q2 => ?_) d6
            show cw_u (cw_u (cw_u (cw_u (cw_u A3 82 _ _) 83 _ _) 84 _ _) 85 _ _) 81 _ _ 86 _ = _
            rw [cu_n (by simp), cu_n (by simp), cu_n (by simp), cu_n (by simp), cu_n (by simp)]
          · rw [cu_n (a := 86) (by simp), cu_n (a := 86) (by simp), cu_n (a := 86) (by simp), cu_n (a := 86) (by simp), cu_n (a := 86) (by simp), cu_n (a := 87) (by simp), cu_n (a := 87) (by simp), cu_n (a := 87) (by simp), cu_n (a := 87) (by simp), cu_n (a := 87) (by simp)]
            by_cases u : i < p + j
            · have w1 := d12.2.2 (i + R) (by omega)
              have w2 := d13.2 (500 * v + i) (by omega)
              rw [w1.1, w1.2, w2.1, w2.2, cu_n (by omega), cu_n (by omega), g0.2.1, g0.2.2]
              by_cases u2 : i < p
              · rw [if_neg (by omega), if_neg (by omega)]
                exact f7 i q1 u2
              · rw [if_pos (by omega)]
                have e5 : 0 + j + (p + R) - 1 - (i + R) = 0 + (j - 1 - (i - p)) := by omega
                have e6 : 500 * v + i = 500 * v + p + (i - p) := by omega
                rw [e5, e6]
                exact pm_m (f5 (i - p) (by omega))
            · exact d7 i (by omega) q2
          · exact GA_trans (FC_G hFC1 hc) (FC_G (z := z) d12 hc) (Nat.le_refl _) (by omega)
          · refine GB_trans (GB_trans (FQ_G (z := z) (R := R) f13) (FQ_G (z := z) (R := R) d13) (Nat.le_refl _) (Nat.le_refl _) (by omega)) (z' := z) (R' := R) (p' := p0) ?_ (Nat.le_refl _) (Nat.le_refl _) (Nat.le_refl _)
            refine ⟨fun i _ => ?_, fun i _ => ⟨?_, ?_, ?_⟩, fun i hi => ⟨?_, ?_, ?_, ?_⟩, fun i _ => ⟨?_, ?_⟩⟩
            · rw [cu_n (by simp), cu_n (by simp), cu_n (by simp), cu_n (by simp), cu_n (by simp)]
            · rw [cu_n (by simp), cu_n (by simp), cu_n (by simp), cu_n (by simp), cu_n (by simp)]
            · rw [cu_n (by simp), cu_n (by simp), cu_n (by simp), cu_n (by simp), cu_n (by simp)]
            · rw [cu_n (by simp), cu_n (by simp), cu_n (by simp), cu_n (by simp), cu_n (by simp)]
            · rw [cu_n (by simp), cu_n (by simp), cu_n (by simp), cu_n (by simp), cu_n (by omega)]
            · rw [cu_n (by simp), cu_n (by simp), cu_n (by simp), cu_n (by omega), cu_n (by simp)]
            · rw [cu_n (by simp), cu_n (by simp), cu_n (by omega), cu_n (by simp), cu_n (by simp)]
            · rw [cu_n (by simp), cu_n (by omega), cu_n (by simp), cu_n (by simp), cu_n (by simp)]
            · rw [cu_n (by simp), cu_n (by simp), cu_n (by simp), cu_n (by simp), cu_n (by simp)]
            · rw [cu_n (by simp), cu_n (by simp), cu_n (by simp), cu_n (by simp), cu_n (by simp)]
          · have w200 : ∀ r, 82 ≤ r → r ≤ 85 → wd r = 200 := by
              intro r a b
              unfold wd
              rw [if_neg (by omega), if_neg (by omega), if_neg (by omega), if_pos (by omega)]
            have b1 : ∀ r, 82 ≤ r → r ≤ 85 → wd r * v ≤ 200 * v + R ∧ 200 * v + R < wd r * (v + 1) := fun r a b => by
              rw [w200 r a b]; omega
            refine FS_u (FS_u (FS_u (FS_u (FS_u (FS_trans (FQ_S f13) (FQ_S d13)) (by decide) (by decide) (b1 82 (by decide) (by decide)).1 (b1 82 (by decide) (by decide)).2) (by decide) (by decide) (b1 83 (by decide) (by decide)).1 (b1 83 (by decide) (by decide)).2) (by decide) (by decide) (b1 84 (by decide) (by decide)).1 (b1 84 (by decide) (by decide)).2) (by decide) (by decide) (b1 85 (by decide) (by decide)).1 (b1 85 (by decide) (by decide)).2) (by decide) (by decide) ?_ ?_
            · have : wd 81 = 1 := rfl
              rw [this]; omega
            · have : wd 81 = 1 := rfl
              rw [this]; omega
    · rw [if_neg hK] at eB
      have so := kr.2 hK
      rw [← eso] at so
      have q37 : qIm37_X12_relation_68 n I2 A2s J2 t2 = pI_X12_fail_68 n (pI_X12_expression_68 n I2 A2s J2 t2) (pA_X12_expression_68 n I2 A2s J2 t2) J2 t2 1 := by
        unfold qIm37_X12_relation_68 qIm41_X12_relation_68 qIm46_X12_relation_68
        rw [if_pos z13]
        by_cases y : qs0m13_X12_relation_68 n I2 A2s J2 t2 < 0
        · rw [if_pos y]
        · rw [if_neg y, if_neg (fun u => ?_)]
          rcases so with so | so
          · exact y so
          · rw [tI_lt] at so
            rw [tI_le] at u
            omega
      obtain ⟨fl1, fl2⟩ : pb_X12_fail_68 n (pI_X12_expression_68 n I2 A2s J2 t2) (pA_X12_expression_68 n I2 A2s J2 t2) J2 t2 1 ∧ Mq T L 1 k (pI_X12_fail_68 n (pI_X12_expression_68 n I2 A2s J2 t2) (pA_X12_expression_68 n I2 A2s J2 t2) J2 t2 1) := rq_fail (n := n) (J := J2) (t := t2) hT1 f1 (RI_Q f4) (fa := 1) (Or.inl rfl)
      obtain ⟨n1, n2⟩ := Mq_next (n := n) (A := pA_X12_expression_68 n I2 A2s J2 t2) (J := J2) (t := t2) fl2
      have r := rl_f (J2 := J2) (t2 := t2) hn e1 (fun _ => vk) (fun _ => fl1) (by rw [q37]; exact n1) (by rw [q37]; exact n2)
      obtain ⟨I', g1, g2⟩ := cl_stop (I0 := I0) (A0 := A0) (J := J) (t := t) (x1 := x1) hc hn hL hk4 f3 (FO_1 (Or.inr eB)) (Or.inl rfl)
      refine ⟨r.1, Or.inl ⟨1, k, I', A, r.2.1, CE_trans f2 (by omega) g1, g2, ?_⟩⟩
      rw [r.2.2]
      exact FQ_S f13
end Rl
