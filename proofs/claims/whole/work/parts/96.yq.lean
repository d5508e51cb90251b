/-! a rule's relations and its end, on both sides -/
def lq (n : Nat) (J : Nat → Nat → Int64) (t : Bool × Bool) : Nat → (Nat → Nat → Int32) → (Nat → Nat → Int32) → (Nat → Nat → Int32) × (Nat → Nat → Int32)
  | 0, I, A => (I, A)
  | f + 1, I, A => if (px_X12_is_68 n I A J t 26) = 0 then (I, A) else lq n J t f (pI_X12_relation_68 n (pI_X12_next_68 n I A J t) A J t) (pA_X12_relation_68 n (pI_X12_next_68 n I A J t) A J t)
def lqb (n : Nat) (J : Nat → Nat → Int64) (t : Bool × Bool) : Nat → (Nat → Nat → Int32) → (Nat → Nat → Int32) → Prop
  | 0, _, _ => False
  | f + 1, I, A => pb_X12_is_68 n I A J t 26 ∧ (¬ (px_X12_is_68 n I A J t 26) = 0 → pb_X12_next_68 n I A J t ∧ pb_X12_relation_68 n (pI_X12_next_68 n I A J t) A J t ∧ lqb n J t f (pI_X12_relation_68 n (pI_X12_next_68 n I A J t) A J t) (pA_X12_relation_68 n (pI_X12_next_68 n I A J t) A J t))
section Lq
variable {n : Nat} {I A : Nat → Nat → Int32} {J : Nat → Nat → Int64} {t : Bool × Bool}
theorem lq_1 : ∀ (f : Nat) (I' A' : Nat → Nat → Int32), lp_X12_tellRule_68_231 n I A J t f I' A' = lq n J t f I' A'
  | 0, _, _ => rfl
  | f + 1, I', A' => by
    unfold lp_X12_tellRule_68_231 lq
    rw [lq_1 f]
theorem lqb_1 : ∀ (f : Nat) (I' A' : Nat → Nat → Int32), lqb n J t f I' A' → lb_X12_tellRule_68_231 n I A J t f I' A'
  | 0, _, _, h => h
  | f + 1, I', A', h => by
    unfold lb_X12_tellRule_68_231
    exact ⟨h.1, fun y => ⟨(h.2 y).1, (h.2 y).2.1, lqb_1 f _ _ (h.2 y).2.2⟩⟩
theorem lq_2 : ∀ (f : Nat) (I' A' : Nat → Nat → Int32), lp_X12_tellRule_68_231_2 n I A J t f I' A' = lq n J t f I' A'
  | 0, _, _ => rfl
  | f + 1, I', A' => by
    unfold lp_X12_tellRule_68_231_2 lq
    rw [lq_2 f]
theorem lqb_2 : ∀ (f : Nat) (I' A' : Nat → Nat → Int32), lqb n J t f I' A' → lb_X12_tellRule_68_231_2 n I A J t f I' A'
  | 0, _, _, h => h
  | f + 1, I', A', h => by
    unfold lb_X12_tellRule_68_231_2
    exact ⟨h.1, fun y => ⟨(h.2 y).1, (h.2 y).2.1, lqb_2 f _ _ (h.2 y).2.2⟩⟩
theorem lq_3 : ∀ (f : Nat) (I' A' : Nat → Nat → Int32), lp_X12_tellRule_68_231_3 n I A J t f I' A' = lq n J t f I' A'
  | 0, _, _ => rfl
  | f + 1, I', A' => by
    unfold lp_X12_tellRule_68_231_3 lq
    rw [lq_3 f]
theorem lqb_3 : ∀ (f : Nat) (I' A' : Nat → Nat → Int32), lqb n J t f I' A' → lb_X12_tellRule_68_231_3 n I A J t f I' A'
  | 0, _, _, h => h
  | f + 1, I', A', h => by
    unfold lb_X12_tellRule_68_231_3
    exact ⟨h.1, fun y => ⟨(h.2 y).1, (h.2 y).2.1, lqb_3 f _ _ (h.2 y).2.2⟩⟩
theorem lq_4 : ∀ (f : Nat) (I' A' : Nat → Nat → Int32), lp_X12_tellRule_68_231_4 n I A J t f I' A' = lq n J t f I' A'
  | 0, _, _ => rfl
  | f + 1, I', A' => by
    unfold lp_X12_tellRule_68_231_4 lq
    rw [lq_4 f]
theorem lqb_4 : ∀ (f : Nat) (I' A' : Nat → Nat → Int32), lqb n J t f I' A' → lb_X12_tellRule_68_231_4 n I A J t f I' A'
  | 0, _, _, h => h
  | f + 1, I', A', h => by
    unfold lb_X12_tellRule_68_231_4
    exact ⟨h.1, fun y => ⟨(h.2 y).1, (h.2 y).2.1, lqb_4 f _ _ (h.2 y).2.2⟩⟩
end Lq
def tlJ (n : Nat) (I A : Nat → Nat → Int32) (J : Nat → Nat → Int64) (t : Bool × Bool) : Nat → Nat → Int32 := if px_X12_is_68 n I A J t 25 = 0 then I else (lq n J t n (pI_X12_relation_68 n (pI_X12_next_68 n I A J t) A J t) (pA_X12_relation_68 n (pI_X12_next_68 n I A J t) A J t)).1
def tlB (n : Nat) (I A : Nat → Nat → Int32) (J : Nat → Nat → Int64) (t : Bool × Bool) : Nat → Nat → Int32 := if px_X12_is_68 n I A J t 25 = 0 then A else (lq n J t n (pI_X12_relation_68 n (pI_X12_next_68 n I A J t) A J t) (pA_X12_relation_68 n (pI_X12_next_68 n I A J t) A J t)).2
def tlI (n : Nat) (I A : Nat → Nat → Int32) (J : Nat → Nat → Int64) (t : Bool × Bool) : Nat → Nat → Int32 := pI_X12_must_68 n (tlJ n I A J t) (tlB n I A J t) J t 4
def tlC (n : Nat) (I A : Nat → Nat → Int32) (J : Nat → Nat → Int64) (t : Bool × Bool) : Nat → Nat → Int32 := cw_u (tlB n I A J t) 76 ((tlI n I A J t) 68 19).toNatClampNeg ((tlB n I A J t) 76 ((tlI n I A J t) 68 19).toNatClampNeg + 1)
def tlA (n : Nat) (I A : Nat → Nat → Int32) (J : Nat → Nat → Int64) (t : Bool × Bool) : Nat → Nat → Int32 := if (tlI n I A J t) 68 13 ≤ 0 then cw_u (tlC n I A J t) 80 (((21 : Int32) * (tlI n I A J t) 68 19) + (tlC n I A J t) 76 ((tlI n I A J t) 68 19).toNatClampNeg).toNatClampNeg ((tlC n I A J t) 81 ((tlI n I A J t) 68 19).toNatClampNeg) else tlB n I A J t
def tlb (n : Nat) (I A : Nat → Nat → Int32) (J : Nat → Nat → Int64) (t : Bool × Bool) : Prop := pb_X12_is_68 n I A J t 25 ∧ (¬ px_X12_is_68 n I A J t 25 = 0 → pb_X12_next_68 n I A J t ∧ pb_X12_relation_68 n (pI_X12_next_68 n I A J t) A J t ∧ lqb n J t n (pI_X12_relation_68 n (pI_X12_next_68 n I A J t) A J t) (pA_X12_relation_68 n (pI_X12_next_68 n I A J t) A J t)) ∧ pb_X12_must_68 n (tlJ n I A J t) (tlB n I A J t) J t 4 ∧ ((tlI n I A J t) 68 13 ≤ 0 → vp_in ((tlI n I A J t) 68 19) 2 ∧ vp_in (((21 : Int32) * (tlI n I A J t) 68 19) + (tlC n I A J t) 76 ((tlI n I A J t) 68 19).toNatClampNeg) 42)
section Tl
variable {c n L C v R p0 z ks k s fa q : Nat} {T : Nat → Int32} {th fi be wr x1 : Int32} {I0 A0 Is As A2s I A I2 A2 : Nat → Nat → Int32} {J J2 : Nat → Nat → Int64} {t t2 : Bool × Bool} {x qq : Nat → Nat}
/-- a relation behind a fault -/
theorem Mq_rel (hn : 2100 ≤ n) (h : Mq T L fa q I2) : pb_X12_relation_68 n I2 A2 J2 t2 ∧ Mq T L fa q (pI_X12_relation_68 n I2 A2 J2 t2) ∧ pA_X12_relation_68 n I2 A2 J2 t2 = A2 := by
  obtain ⟨m1, m2, m3⟩ := Mq_ex (n := n) (A := A2) (J := J2) (t := t2) hn h
  have zf := Mq_p m2
  have q37 : qIm37_X12_relation_68 n I2 A2 J2 t2 = pI_X12_expression_68 n I2 A2 J2 t2 := if_neg zf.2
  obtain ⟨n1, n2⟩ := Mq_next (n := n) (A := pA_X12_expression_68 n I2 A2 J2 t2) (J := J2) (t := t2) m2
  have r := rl_f (J2 := J2) (t2 := t2) hn m1 (fun y => absurd y zf.1) (fun y => absurd y zf.2) (by rw [q37]; exact n1) (by rw [q37]; exact n2)
  rw [m3] at r
  exact r
theorem Mq_lq (h : Mq T L fa q I2) : ∀ f, 0 < f → lqb n J2 t2 f I2 A2 ∧ lq n J2 t2 f I2 A2 = (I2, A2) := by
  intro f hf
  obtain ⟨f, rfl⟩ : ∃ g, f = g + 1 := ⟨f - 1, by omega⟩
  have i := Mq_is (n := n) (A := A2) (J := J2) (t := t2) (x := 26) h
  constructor
  · unfold lqb
    exact ⟨i.1, fun y => absurd i.2 y⟩
  · rw [lq]
    rw [if_pos i.2]
/-- a rule's end behind a fault -/
theorem Mq_tl (h : Mq T L fa q I2) : tlb n I2 A2 J2 t2 ∧ tlI n I2 A2 J2 t2 = I2 ∧ tlA n I2 A2 J2 t2 = A2 := by
  have i := Mq_is (n := n) (A := A2) (J := J2) (t := t2) (x := 25) h
  have eJ : tlJ n I2 A2 J2 t2 = I2 := if_pos i.2
  have eB : tlB n I2 A2 J2 t2 = A2 := if_pos i.2
  have m := Mq_must (n := n) (A := A2) (J := J2) (t := t2) (x := 4) h
  have eI : tlI n I2 A2 J2 t2 = I2 := by
    unfold tlI
    rw [eJ, eB]; exact m.2
  have zf := Mq_p h
  refine ⟨⟨i.1, fun y => absurd i.2 y, by rw [eJ, eB]; exact m.1, fun y => absurd y (by rw [eI]; exact zf.1)⟩, eI, ?_⟩
  unfold tlA
  rw [eI, if_neg zf.1, eB]
/-- behind a relation, within a rule -/
def XB (c n L C v z ks : Nat) (T : Nat → Int32) (th fi be wr x1 : Int32) (I0 A0 Is As A2s : Nat → Nat → Int32) (J : Nat → Nat → Int64) (t : Bool × Bool) (qq : Nat → Nat) (i15 i16 : Int32) (A78 : Nat → Nat → Int32) (I2 A2 : Nat → Nat → Int32) : Prop := ∃ k R x p j y o I A, k < C ∧ ks + 1 ≤ k ∧ CR c n I0 A0 J t x1 ks Is As k I A ∧ CI c T L k 8 (1 + j) (p + R) z 0 1 th fi be wr I A ∧ RQ v k 0 (p + j) I2 ∧ (∀ i, i < j → pm (A 36 (1 + (j - 1 - i))) (A2 86 (500 * v + p + i))) ∧ o < 4 ∧ A 36 0 = nI (7 + o) ∧ A2 81 v = nI (R + 1) ∧ A2 82 (200 * v + R) = nI o ∧ A2 83 (200 * v + R) = nI (500 * v + x R) ∧ A2 84 (200 * v + R) = nI (500 * v + y) ∧ A2 85 (200 * v + R) = nI (500 * v + (p + j)) ∧ x R ≤ y ∧ y ≤ p ∧ ty_run (fun q => A2 86 (500 * v + q)) (y - x R) (x R) 0 1 ∧ ty_run (fun q => A2 86 (500 * v + q)) (p + j - y) y 0 1 ∧ (∀ i, x R ≤ i → i < p → ty_m (A (c + 5) (i + R)) (A (c + 6) (i + R)) (A2 86 (500 * v + i)) (A2 87 (500 * v + i))) ∧ p + R + 1 + j ≤ k ∧ j ≤ 20 ∧ 4 * (R + 1) ≤ k ∧ PR c v z R x qq A A2 ∧ FS v A2s A2 ∧ ¬ (kK T L k = 4 ∨ kK T L k = 5 ∨ kK T L k = 6) ∧ (∀ r, 76 ≤ r → r ≤ 80 → A2 r = A78 r) ∧ I2 68 15 = i15 ∧ I2 68 16 = i16
theorem XR_B {A78 : Nat → Nat → Int32} {i15 i16 : Int32} {I3 A3 : Nat → Nat → Int32} (hP : PR c v z R x qq A A2) (hx : x R = p0) (h4 : 4 * R + 1 ≤ k) (hk : ks ≤ k) (hR : CR c n I0 A0 J t x1 ks Is As k I A) (hF : FS v A2s A2) (h78 : ∀ r, 76 ≤ r → r ≤ 80 → A3 r = A78 r) (h15 : I3 68 15 = i15) (h16 : I3 68 16 = i16) (H : XR c n L C v R p0 z k T th fi be wr x1 I0 A0 I A A2 J t I3 A3) : XB c n L C v z ks T th fi be wr x1 I0 A0 Is As A2s J t qq i15 i16 A78 I3 A3 := by
  subst hx
  obtain ⟨k', p, j, y, o, I', A', a1, a2, a3, a4, a5, a6, a7, a8, a9, a10, a11, a12, a13, a14, a15, a16, a17, a18, a19, a20, a21, a22, a23, a24⟩ := H
  exact ⟨k', R, x, p, j, y, o, I', A', a1, by omega, CR_trans hR a3, a4, a5, a6, a7, a8, a9, a10, a11, a12, a13, a14, a15, a16, a17, a18, a19, a20, by omega, PR_c hP a21 a22, FS_trans hF a23, a24, h78, h15, h16⟩
/-- the class puts the relation's last signs down -/
theorem XB_rel (hc : c = 37 ∨ c = 60) {p j y o : Nat} {A1 : Nat → Nat → Int32} (b1 : ∀ i, i < j → pm (A 36 (1 + (j - 1 - i))) (A2 86 (500 * v + p + i))) (b2 : o < 4) (b3 : A 36 0 = nI (7 + o)) (b4 : A2 82 (200 * v + R) = nI o) (b5 : A2 83 (200 * v + R) = nI (500 * v + x R)) (b6 : A2 84 (200 * v + R) = nI (500 * v + y)) (b7 : A2 85 (200 * v + R) = nI (500 * v + (p + j))) (b8 : x R ≤ y) (b9 : y ≤ p) (b10 : ty_run (fun q => A2 86 (500 * v + q)) (y - x R) (x R) 0 1) (b11 : ty_run (fun q => A2 86 (500 * v + q)) (p + j - y) y 0 1) (b12 : ∀ i, x R ≤ i → i < p → ty_m (A (c + 5) (i + R)) (A (c + 6) (i + R)) (A2 86 (500 * v + i)) (A2 87 (500 * v + i))) (hP : PR c v z R x qq A A2) (g : rf c (1 + j) (p + R) (j + 1) A A1) : PR c v z (R + 1) (up x (R + 1) (p + j)) qq A1 A2 := by
  obtain ⟨g1, g2, g3⟩ := g
  have hP1 : PR c v z R x qq A1 A2 := by
    refine PR_c hP ⟨fun i _ => ?_, fun i hi => ?_⟩ GB_refl
    · rw [g1 (c + 1) (by omega) (by omega), g1 (c + 2) (by omega) (by omega), g1 (c + 3) (by omega) (by omega), g1 (c + 4) (by omega) (by omega)]
      exact ⟨rfl, rfl, rfl, rfl⟩
    · rw [g2, g3, if_neg (by omega), if_neg (by omega)]
      exact ⟨rfl, rfl⟩
  refine PR_rel hP1 (by omega) ?_
  unfold ty_rel
  rw [up_s, up_n (by omega)]
  refine ⟨b5, b7, ⟨y, b8, by omega, b6, b10, b11⟩, fun i q1 q2 => ?_, o, b2, b4, ?_⟩
  · rw [g2, g3]
    by_cases u : i < p
    · rw [if_neg (by omega), if_neg (by omega)]
      exact b12 i q1 u
    · rw [if_pos (by omega)]
      have e5 : 1 + j + (p + R) - 1 - (i + R) = 1 + (j - 1 - (i - p)) := by omega
      have e6 : 500 * v + i = 500 * v + p + (i - p) := by omega
      rw [e5, e6]
      exact pm_m (b1 (i - p) (by omega))
  · rw [g2, if_pos (by omega)]
    have e5 : 1 + j + (p + R) - 1 - (p + j + R) = 0 := by omega
    rw [e5]; exact b3
theorem XB_RJ {j o : Nat} {xx : Int32} (hx : lea xx = 1) {p : Nat} (b1 : ∀ i, i < j → pm (A 36 (1 + (j - 1 - i))) (A2 86 (500 * v + p + i))) (b2 : o < 4) (b3 : A 36 0 = nI (7 + o)) : RJ A xx (1 + j) (j + 1) := by
  refine ⟨by omega, fun i hi => ?_, Or.inl (by omega)⟩
  have k := rk_v
  rw [hx]
  by_cases u : i < j
  · have e : 1 + j - 1 - i = 1 + (j - 1 - i) := by omega
    rw [e]
    rcases pm_3 (b1 i u) with w | w | w <;> rw [w]
    · rw [k.1]; decide
    · rw [k.2.1]; decide
    · rw [k.2.2.1]; decide
  · have e : 1 + j - 1 - i = 0 := by omega
    rw [e, b3, rk_rel o b2]
    decide
theorem lq_all (hc : c = 37 ∨ c = 60) (hn : 2100 ≤ n) (hL : L ≤ 2000) (hv : v < 2) {i15 i16 : Int32} {A78 : Nat → Nat → Int32} (hT : RT T L C A2s) : ∀ (N f : Nat) (I2 A2 : Nat → Nat → Int32), (∀ k, I2 68 11 = nI k → k ≤ 400 → 401 ≤ k + N) → N < f → XB c n L C v z ks T th fi be wr x1 I0 A0 Is As A2s J t qq i15 i16 A78 I2 A2 → lqb n J2 t2 f I2 A2 ∧ (XF c n L v ks T x1 I0 A0 Is As A2s J t (lq n J2 t2 f I2 A2).1 (lq n J2 t2 f I2 A2).2 ∨ (XB c n L C v z ks T th fi be wr x1 I0 A0 Is As A2s J t qq i15 i16 A78 (lq n J2 t2 f I2 A2).1 (lq n J2 t2 f I2 A2).2 ∧ ∃ k, (lq n J2 t2 f I2 A2).1 68 11 = nI k ∧ k < C ∧ ¬ kK T L k = 19)) := by
  intro N
  induction N with
  | zero =>
    intro f I2 A2 hN hf H
    obtain ⟨k, R, x, p, j, y, o, I, A, a1, a2, a3, a4, a5, -⟩ := H
    have := (RT_k hT a1).1
    have := hN k a5.2.1 (by omega)
    omega
  | succ N ih =>
    intro f I2 A2 hN hf H
    obtain ⟨f, rfl⟩ : ∃ g, f = g + 1 := ⟨f - 1, by omega⟩
    have H0 := H
    obtain ⟨k, R, x, p, j, y, o, I, A, a1, a2, a3, a4, a5, a6, a7, a8, a9, a10, a11, a12, a13, a14, a15, a16, a17, a18, a19, a20, a21, a22, a23, a24, a25, a26, a27⟩ := H
    have hT2 : RT T L C A2 := RT_c hT (a23.1 71 (by decide)) (a23.1 72 (by decide)) (a23.1 73 (by decide))
    have hk4 := (RT_k hT a1).1
    have o1 : ¬ (1 : Int32) = 0 := by decide
    have i26 := rq_is (n := n) (J := J2) (t := t2) hT2 a1 a5 (μ := 19) (by decide) (by decide) (x := 26) rfl
    by_cases hK : kK T L k = 19
    · rw [if_pos hK] at i26
      have n26 : ¬ px_X12_is_68 n I2 A2 J2 t2 26 = 0 := by rw [i26.2]; exact o1
      have elq : lq n J2 t2 (f + 1) I2 A2 = lq n J2 t2 f (pI_X12_relation_68 n (pI_X12_next_68 n I2 A2 J2 t2) A2 J2 t2) (pA_X12_relation_68 n (pI_X12_next_68 n I2 A2 J2 t2) A2 J2 t2) := by
        rw [lq]
        rw [if_neg n26]
      rw [elq]
      by_cases c4 : k = 400
      · obtain ⟨n1, n2⟩ := rq_next4 (n := n) (J := J2) (t := t2) hT2 a1 c4 a5
        obtain ⟨m1, m2, m3⟩ := Mq_rel (n := n) (A2 := A2) (J2 := J2) (t2 := t2) hn n2
        obtain ⟨l1, l2⟩ := Mq_lq (n := n) (A2 := pA_X12_relation_68 n (pI_X12_next_68 n I2 A2 J2 t2) A2 J2 t2) (J2 := J2) (t2 := t2) m2 f (by omega)
        rw [l2]
        obtain ⟨I', g1, g2⟩ := cl_stop (I0 := I0) (A0 := A0) (J := J) (t := t) (x1 := x1) hc hn hL hk4 a4 (FO_2 (by omega) (by rw [hK]; decide) c4) (Or.inr rfl)
        refine ⟨?_, Or.inl ⟨2, k, I', A, m2, CE_trans a3 (by omega) g1, g2, by rw [m3]; exact a23⟩⟩
        unfold lqb
        exact ⟨i26.1, fun _ => ⟨n1, m1, l1⟩⟩
      · obtain ⟨n1, n2, n3, n4⟩ := rq_next (n := n) (A := A2) (J := J2) (t := t2) a5 (by omega)
        have hrj : RJ A (nI (kK T L k)) (1 + j) (j + 1) := by
          rw [hK]
          exact XB_RJ lea_v.2.2.2.2.1 a6 a7 a8
        obtain ⟨I', A1, g0, g1, g2⟩ := cl_and (I0 := I0) (A0 := A0) (J := J) (t := t) (x1 := x1) hc hn hL (by omega) a4 hK hrj (by omega) (by omega)
        have ew : 1 + j - (j + 1) = 0 := by omega
        have eσ : p + R + (j + 1) = p + j + (R + 1) := by omega
        rw [ew, eσ] at g2
        have hP := XB_rel hc a6 a7 a8 a10 a11 a12 a13 a14 a15 a16 a17 a18 a22 g0
        have hk1 : k + 1 < C := RT_n hT a1 (by omega) (by omega)
        obtain ⟨r1, r2⟩ := rel_all (I0 := I0) (A0 := A0) (J := J) (t := t) (x1 := x1) (J2 := J2) (t2 := t2) hc hn hL hv hT2 hk1 g2 (by omega) (by omega) a9 n2
        have hCR : CR c n I0 A0 J t x1 ks Is As (k + 1) I' A1 := CR_trans a3 g1
        have tl : lqb n J2 t2 f (pI_X12_relation_68 n (pI_X12_next_68 n I2 A2 J2 t2) A2 J2 t2) (pA_X12_relation_68 n (pI_X12_next_68 n I2 A2 J2 t2) A2 J2 t2) ∧ (XF c n L v ks T x1 I0 A0 Is As A2s J t (lq n J2 t2 f (pI_X12_relation_68 n (pI_X12_next_68 n I2 A2 J2 t2) A2 J2 t2) (pA_X12_relation_68 n (pI_X12_next_68 n I2 A2 J2 t2) A2 J2 t2)).1 (lq n J2 t2 f (pI_X12_relation_68 n (pI_X12_next_68 n I2 A2 J2 t2) A2 J2 t2) (pA_X12_relation_68 n (pI_X12_next_68 n I2 A2 J2 t2) A2 J2 t2)).2 ∨ (XB c n L C v z ks T th fi be wr x1 I0 A0 Is As A2s J t qq i15 i16 A78 (lq n J2 t2 f (pI_X12_relation_68 n (pI_X12_next_68 n I2 A2 J2 t2) A2 J2 t2) (pA_X12_relation_68 n (pI_X12_next_68 n I2 A2 J2 t2) A2 J2 t2)).1 (lq n J2 t2 f (pI_X12_relation_68 n (pI_X12_next_68 n I2 A2 J2 t2) A2 J2 t2) (pA_X12_relation_68 n (pI_X12_next_68 n I2 A2 J2 t2) A2 J2 t2)).2 ∧ ∃ k, (lq n J2 t2 f (pI_X12_relation_68 n (pI_X12_next_68 n I2 A2 J2 t2) A2 J2 t2) (pA_X12_relation_68 n (pI_X12_next_68 n I2 A2 J2 t2) A2 J2 t2)).1 68 11 = nI k ∧ k < C ∧ ¬ kK T L k = 19)) := by
          rcases r2 with ⟨fa, q, I'', A'', h1, h2, h3, h4⟩ | r2
          · obtain ⟨l1, l2⟩ := Mq_lq (n := n) (A2 := pA_X12_relation_68 n (pI_X12_next_68 n I2 A2 J2 t2) A2 J2 t2) (J2 := J2) (t2 := t2) h1 f (by omega)
            rw [l2]
            exact ⟨l1, Or.inl ⟨fa, q, I'', A'', h1, CE_trans hCR (by omega) h2, h3, FS_trans a23 h4⟩⟩
          · refine ih f _ _ (fun k' y1 y2 => ?_) (by omega) (XR_B hP up_s (by omega) (by omega) hCR a23 ?_ ?_ ?_ r2)
            · obtain ⟨k2, _, _, _, _, _, _, u1, u2, _, _, u3, _⟩ := r2
              have e := u3.2.1
              rw [y1] at e
              have := (RT_k hT u1).1
              have e2 := (nI_eq (by omega) (by omega)).1 e
              have := hN k a5.2.1 hk4
              omega
            · intro r q1 q2
              rw [fr_pA_X12_relation_68 (by simp; omega)]
              exact a25 r q1 q2
            · rw [fr_pI_X12_relation_68 (by decide), n3]; exact a26
            · rw [fr_pI_X12_relation_68 (by decide), n4]; exact a27
        refine ⟨?_, tl.2⟩
        unfold lqb
        exact ⟨i26.1, fun _ => ⟨n1, r1, tl.1⟩⟩
    · rw [if_neg hK] at i26
      have elq : lq n J2 t2 (f + 1) I2 A2 = (I2, A2) := by
        rw [lq]
        rw [if_pos i26.2]
      rw [elq]
      refine ⟨?_, Or.inr ⟨H0, k, a5.2.1, a1, hK⟩⟩
      unfold lqb
      exact ⟨i26.1, fun y => absurd i26.2 y⟩
end Tl
