/-! a relation on both sides -/
def RQ (v k o p : Nat) (I : Nat → Nat → Int32) : Prop := I 68 13 = 0 ∧ I 68 11 = nI k ∧ I 68 12 = nI o ∧ I 68 30 = nI (500 * v + p) ∧ I 68 19 = nI v
def Mq (T : Nat → Int32) (L fa q : Nat) (I : Nat → Nat → Int32) : Prop := I 68 13 = nI fa ∧ (fa = 1 ∨ fa = 2) ∧ I 68 14 = nI (kP T L q) ∧ ∃ k, k ≤ 400 ∧ I 68 11 = nI k
section Rq2
variable {n L C v k o m p fa q : Nat} {T : Nat → Int32} {I A : Nat → Nat → Int32} {J : Nat → Nat → Int64} {t : Bool × Bool} {x : Int32}
theorem RI_Q (h : RI v k o m p I) : RQ v k o p I := ⟨h.1, h.2.1, h.2.2.1, h.2.2.2.2.1, h.2.2.2.2.2⟩
theorem MF_Q (h : MF T L v fa q m p I) : Mq T L fa q I := ⟨h.1, h.2.1, h.2.2.1, h.2.2.2.1⟩
theorem rq_is (hT : RT T L C A) (hk : k < C) (h : RQ v k o p I) {μ : Nat} (hm : μ ≤ 27) (h1 : ¬ μ = 1) (hx : x = nI (cz_t μ)) : pb_X12_is_68 n I A J t x ∧ px_X12_is_68 n I A J t x = if kK T L k = μ then 1 else 0 := by
  obtain ⟨a1, a2, a3, a4⟩ := RT_k hT hk
  have r := rp_is (n := n) (A := A) (J := J) (t := t) (x := x) h.1 h.2.1 (by omega)
  refine ⟨r.1, ?_⟩
  rw [r.2, hx]
  have e := km kK_le a2 hm h1
  by_cases q : kK T L k = μ
  · rw [if_pos q, if_pos (e.2 q)]
  · rw [if_neg q, if_neg (fun y => q (e.1 y))]
theorem rq_fail (hT : RT T L C A) (hk : k < C) (h : RQ v k o p I) (hf : fa = 1 ∨ fa = 2) : pb_X12_fail_68 n I A J t (nI fa) ∧ Mq T L fa k (pI_X12_fail_68 n I A J t (nI fa)) := by
  obtain ⟨a1, a2, a3, a4⟩ := RT_k hT hk
  have r := rp_fail (n := n) (A := A) (J := J) (t := t) (x := nI fa) h.1 h.2.1 (by omega)
  rw [a3] at r
  refine ⟨r.1, ?_⟩
  rw [r.2]
  exact ⟨(cu_n (by decide)).trans cu_s, hf, cu_s, k, a1, (cu_n (by decide)).trans ((cu_n (by decide)).trans h.2.1)⟩
theorem rq_next (h : RQ v k o p I) (hk : k < 400) : pb_X12_next_68 n I A J t ∧ RQ v (k + 1) o p (pI_X12_next_68 n I A J t) ∧ pI_X12_next_68 n I A J t 68 15 = I 68 15 ∧ pI_X12_next_68 n I A J t 68 16 = I 68 16 := by
  have r := rp_next (n := n) (A := A) (J := J) (t := t) h.2.1 hk
  refine ⟨r.1, ?_⟩
  rw [r.2]
  exact ⟨⟨(cu_n (by decide)).trans h.1, cu_s, (cu_n (by decide)).trans h.2.2.1, (cu_n (by decide)).trans h.2.2.2.1, (cu_n (by decide)).trans h.2.2.2.2⟩, cu_n (by decide), cu_n (by decide)⟩
theorem rq_next4 (hT : RT T L C A) (hk : k < C) (h4 : k = 400) (h : RQ v k o p I) : pb_X12_next_68 n I A J t ∧ Mq T L 2 k (pI_X12_next_68 n I A J t) := by
  subst h4
  obtain ⟨a1, a2, a3, a4⟩ := RT_k hT hk
  have r := rp_next4 (n := n) (A := A) (J := J) (t := t) h.1 h.2.1
  refine ⟨r.1, ?_⟩
  rw [r.2, a3]
  exact ⟨(cu_n (by decide)).trans cu_s, Or.inr rfl, cu_s, 400, Nat.le_refl _, (cu_n (by decide)).trans ((cu_n (by decide)).trans h.2.1)⟩
theorem Mq_p (h : Mq T L fa q I) : ¬ I 68 13 ≤ 0 ∧ ¬ I 68 13 = 0 := by
  obtain ⟨a, b, -⟩ := h
  rw [a]
  rcases b with b | b <;> rw [b] <;> decide
theorem Mq_next (h : Mq T L fa q I) : pb_X12_next_68 n I A J t ∧ Mq T L fa q (pI_X12_next_68 n I A J t) := by
  have z := Mq_p h
  obtain ⟨h1, h2, h3, k', h4, h5⟩ := h
  obtain ⟨r1, k2, r2, r3⟩ := rp_nextf (n := n) (A := A) (J := J) (t := t) z.1 h5 h4
  rw [r3]
  exact ⟨r1, (cu_n (by decide)).trans h1, h2, (cu_n (by decide)).trans h3, k2, r2, cu_s⟩
theorem Mq_fail (h : Mq T L fa q I) : pb_X12_fail_68 n I A J t x ∧ pI_X12_fail_68 n I A J t x = I := rp_failf (Mq_p h).1
theorem Mq_is (h : Mq T L fa q I) : pb_X12_is_68 n I A J t x ∧ px_X12_is_68 n I A J t x = 0 := rp_isf (Mq_p h).2
theorem Mq_must (h : Mq T L fa q I) : pb_X12_must_68 n I A J t x ∧ pI_X12_must_68 n I A J t x = I := by
  have a := Mq_is (n := n) (A := A) (J := J) (t := t) (x := x) h
  have b := Mq_fail (n := n) (A := A) (J := J) (t := t) (x := 1) h
  unfold pb_X12_must_68 pI_X12_must_68 qIm5_X12_must_68
  rw [a.2, if_pos rfl]
  exact ⟨⟨a.1, fun _ => b.1, fun z => absurd rfl z⟩, b.2⟩
/-- an expression behind a fault -/
theorem Mq_ex (hn : 2100 ≤ n) (h : Mq T L fa q I) : pb_X12_expression_68 n I A J t ∧ Mq T L fa q (pI_X12_expression_68 n I A J t) ∧ pA_X12_expression_68 n I A J t = A := by
  obtain ⟨f, rfl⟩ : ∃ g, n = g + 1 := ⟨n - 1, by omega⟩
  have z := (Mq_p h).2
  obtain ⟨h1, h2, h3, k', h4, h5⟩ := h
  have z2 : ¬ qI2_X12_expression_68 (f + 1) I A J t 68 13 = 0 := by
    unfold qI2_X12_expression_68
    rw [cu_n (by simp)]; exact z
  have e : lp_X12_expression_68_12 (f + 1) I A J t (f + 1) (qI2_X12_expression_68 (f + 1) I A J t) A 1 = (qI2_X12_expression_68 (f + 1) I A J t, A) := by
    rw [lp_X12_expression_68_12]
    rw [if_neg (show ¬ (1 : Int32) = 0 by decide), if_neg z2]
  refine ⟨?_, ?_, ?_⟩
  · unfold pb_X12_expression_68 lb_X12_expression_68_12
    exact fun _ y => absurd y z2
  · unfold pI_X12_expression_68
    rw [e]
    show Mq T L fa q (cw_u I 68 34 0)
    exact ⟨(cu_n (by decide)).trans h1, h2, (cu_n (by decide)).trans h3, k', h4, (cu_n (by decide)).trans h5⟩
  · unfold pA_X12_expression_68
    rw [e]
end Rq2
/-! what is kept of the side at work, and of the other one -/
def wd (r : Nat) : Nat := if r = 76 ∨ r = 81 then 1 else if r ≤ 79 then 20 else if r = 80 then 21 else if r ≤ 85 then 200 else 500
def FS (v : Nat) (As A : Nat → Nat → Int32) : Prop := (∀ r, r < 76 ∨ 88 < r → A r = As r) ∧ ∀ r i, 76 ≤ r → r ≤ 87 → (i < wd r * v ∨ wd r * (v + 1) ≤ i) → A r i = As r i
def GA (c z σ : Nat) (A A' : Nat → Nat → Int32) : Prop := (∀ i, i < z → A' (c + 1) i = A (c + 1) i ∧ A' (c + 2) i = A (c + 2) i ∧ A' (c + 3) i = A (c + 3) i ∧ A' (c + 4) i = A (c + 4) i) ∧ ∀ i, i < σ → A' (c + 5) i = A (c + 5) i ∧ A' (c + 6) i = A (c + 6) i
def GB (v z R p : Nat) (A A' : Nat → Nat → Int32) : Prop := (∀ i, i ≤ z → A' 80 (21 * v + i) = A 80 (21 * v + i)) ∧ (∀ i, i < z → A' 77 (20 * v + i) = A 77 (20 * v + i) ∧ A' 78 (20 * v + i) = A 78 (20 * v + i) ∧ A' 79 (20 * v + i) = A 79 (20 * v + i)) ∧ (∀ i, i < R → A' 82 (200 * v + i) = A 82 (200 * v + i) ∧ A' 83 (200 * v + i) = A 83 (200 * v + i) ∧ A' 84 (200 * v + i) = A 84 (200 * v + i) ∧ A' 85 (200 * v + i) = A 85 (200 * v + i)) ∧ ∀ i, i < p → A' 86 (500 * v + i) = A 86 (500 * v + i) ∧ A' 87 (500 * v + i) = A 87 (500 * v + i)
section Kp
variable {c v z R p σ w0 p0 : Nat} {A A' A2 A2' A3 : Nat → Nat → Int32} {x q : Nat → Nat}
theorem FS_refl : FS v A A := ⟨fun _ _ => rfl, fun _ _ _ _ _ => rfl⟩
theorem FS_trans (h : FS v A A') (g : FS v A' A3) : FS v A A3 := ⟨fun r hr => (g.1 r hr).trans (h.1 r hr), fun r i h1 h2 h3 => (g.2 r i h1 h2 h3).trans (h.2 r i h1 h2 h3)⟩
theorem FS_u (h : FS v A A') {r i : Nat} {y : Int32} (h1 : 76 ≤ r) (h2 : r ≤ 87) (h3 : wd r * v ≤ i) (h4 : i < wd r * (v + 1)) : FS v A (cw_u A' r i y) := by
  refine ⟨fun a ha => ?_, fun a b q1 q2 q3 => ?_⟩
  · rw [cw_u_c _ _ (by omega)]; exact h.1 a ha
  · by_cases e : a = r
    · subst e
      rw [cu_n (by omega)]; exact h.2 a b q1 q2 q3
    · rw [cu_n (by omega)]; exact h.2 a b q1 q2 q3
theorem FQ_S (h : FQ v p0 A A') : FS v A A' := by
  refine ⟨fun r hr => h.1 r (by omega) (by omega) (by omega), fun r i h1 h2 h3 => ?_⟩
  by_cases e : r = 86
  · subst e
    have w : wd 86 = 500 := rfl
    rw [w] at h3
    exact (h.2 i (by omega)).1
  by_cases f : r = 87
  · subst f
    have w : wd 87 = 500 := rfl
    rw [w] at h3
    exact (h.2 i (by omega)).2
  · rw [h.1 r e f (by omega)]
theorem FC_G (h : FC c w0 σ A A') (hc : c = 37 ∨ c = 60) : GA c z σ A A' := by
  refine ⟨fun i _ => ?_, h.2.2⟩
  rw [h.1 (c + 1) (by omega) (by omega) (by omega), h.1 (c + 2) (by omega) (by omega) (by omega), h.1 (c + 3) (by omega) (by omega) (by omega), h.1 (c + 4) (by omega) (by omega) (by omega)]
  exact ⟨rfl, rfl, rfl, rfl⟩
theorem FQ_G (h : FQ v p0 A A') : GB v z R p0 A A' := by
  refine ⟨fun i _ => ?_, fun i _ => ?_, fun i _ => ?_, fun i hi => h.2 _ (by omega)⟩
  · rw [h.1 80 (by decide) (by decide) (by decide)]
  · rw [h.1 77 (by decide) (by decide) (by decide), h.1 78 (by decide) (by decide) (by decide), h.1 79 (by decide) (by decide) (by decide)]
    exact ⟨rfl, rfl, rfl⟩
  · rw [h.1 82 (by decide) (by decide) (by decide), h.1 83 (by decide) (by decide) (by decide), h.1 84 (by decide) (by decide) (by decide), h.1 85 (by decide) (by decide) (by decide)]
    exact ⟨rfl, rfl, rfl, rfl⟩
theorem GA_refl : GA c z σ A A := ⟨fun _ _ => ⟨rfl, rfl, rfl, rfl⟩, fun _ _ => ⟨rfl, rfl⟩⟩
theorem GB_refl : GB v z R p A A := ⟨fun _ _ => rfl, fun _ _ => ⟨rfl, rfl, rfl⟩, fun _ _ => ⟨rfl, rfl, rfl, rfl⟩, fun _ _ => ⟨rfl, rfl⟩⟩
theorem GA_trans {z' σ' : Nat} (h : GA c z σ A A') (g : GA c z' σ' A' A3) (h1 : z ≤ z') (h2 : σ ≤ σ') : GA c z σ A A3 := by
  refine ⟨fun i hi => ?_, fun i hi => ?_⟩
  · obtain ⟨a1, a2, a3, a4⟩ := h.1 i hi
    obtain ⟨b1, b2, b3, b4⟩ := g.1 i (by omega)
    exact ⟨b1.trans a1, b2.trans a2, b3.trans a3, b4.trans a4⟩
  · obtain ⟨a1, a2⟩ := h.2 i hi
    obtain ⟨b1, b2⟩ := g.2 i (by omega)
    exact ⟨b1.trans a1, b2.trans a2⟩
theorem GB_trans {z' R' p' : Nat} (h : GB v z R p A A') (g : GB v z' R' p' A' A3) (h1 : z ≤ z') (h2 : R ≤ R') (h3 : p ≤ p') : GB v z R p A A3 := by
  refine ⟨fun i hi => (g.1 i (by omega)).trans (h.1 i hi), fun i hi => ?_, fun i hi => ?_, fun i hi => ?_⟩
  · obtain ⟨a1, a2, a3⟩ := h.2.1 i hi
    obtain ⟨b1, b2, b3⟩ := g.2.1 i (by omega)
    exact ⟨b1.trans a1, b2.trans a2, b3.trans a3⟩
  · obtain ⟨a1, a2, a3, a4⟩ := h.2.2.1 i hi
    obtain ⟨b1, b2, b3, b4⟩ := g.2.2.1 i (by omega)
    exact ⟨b1.trans a1, b2.trans a2, b3.trans a3, b4.trans a4⟩
  · obtain ⟨a1, a2⟩ := h.2.2.2 i hi
    obtain ⟨b1, b2⟩ := g.2.2.2 i (by omega)
    exact ⟨b1.trans a1, b2.trans a2⟩
/-- z rules and R relations so far -/
def PR (c v z R : Nat) (x q : Nat → Nat) (A A2 : Nat → Nat → Int32) : Prop := x 0 = 0 ∧ q 0 = 0 ∧ (∀ r s, r ≤ s → s ≤ z → q r ≤ q s) ∧ q z ≤ R ∧ (∀ k l, k ≤ l → l ≤ R → x k ≤ x l) ∧ (∀ r, r ≤ z → A2 80 (21 * v + r) = nI (q r)) ∧ (∀ r, r < z → ty_rule c v A A2 x q r) ∧ ∀ k, k < R → ty_rel c v A A2 x k
theorem PR_c (h : PR c v z R x q A A2) (g : GA c z (x R + R) A A') (f : GB v z R (x R) A2 A2') : PR c v z R x q A' A2' := by
  obtain ⟨h1, h2, h3, h4, h5, h6, h7, h8⟩ := h
  obtain ⟨g1, g2⟩ := g
  obtain ⟨f1, f2, f3, f4⟩ := f
  refine ⟨h1, h2, h3, h4, h5, fun r hr => (f1 r hr).trans (h6 r hr), fun r hr => ?_, fun k hk => ?_⟩
  · obtain ⟨a1, a2, a3, a4⟩ := g1 r hr
    obtain ⟨b1, b2, b3⟩ := f2 r hr
    unfold ty_rule
    rw [a1, a2, a3, a4, b1, b2, b3]
    exact h7 r hr
  · obtain ⟨b1, b2, b3, b4⟩ := f3 k hk
    obtain ⟨e1, e2, ⟨y, e3, e4, e5, e6, e7⟩, e8, o, e9, e10, e11⟩ := h8 k hk
    have hx : x (k + 1) ≤ x R := h5 (k + 1) R hk (Nat.le_refl _)
    unfold ty_rel
    rw [b1, b2, b3, b4]
    refine ⟨e1, e2, ⟨y, e3, e4, e5, tyr_c _ _ _ _ (fun p q1 q2 => (f4 p (by omega)).1) e6, tyr_c _ _ _ _ (fun p q1 q2 => (f4 p (by omega)).1) e7⟩, fun p q1 q2 => ?_, o, e9, e10, ?_⟩
    · rw [(g2 (p + k) (by omega)).1, (g2 (p + k) (by omega)).2, (f4 p (by omega)).1, (f4 p (by omega)).2]
      exact e8 p q1 q2
    · rw [(g2 (x (k + 1) + k) (by omega)).1]; exact e11
def up (f : Nat → Nat) (k y : Nat) : Nat → Nat := fun i => if i = k then y else f i
theorem up_s {f : Nat → Nat} {k y : Nat} : up f k y k = y := if_pos rfl
theorem up_n {f : Nat → Nat} {k y i : Nat} (h : ¬ i = k) : up f k y i = f i := if_neg h
theorem PR_rel (h : PR c v z R x q A A2) {y : Nat} (hy : x R ≤ y) (g : ty_rel c v A A2 (up x (R + 1) y) R) : PR c v z (R + 1) (up x (R + 1) y) q A A2 := by
  obtain ⟨h1, h2, h3, h4, h5, h6, h7, h8⟩ := h
  have hq : ∀ r, r ≤ z → q r ≤ R := fun r hr => Nat.le_trans (h3 r z hr (Nat.le_refl _)) h4
  refine ⟨by rw [up_n (by omega)]; exact h1, h2, h3, by omega, fun k l a b => ?_, h6, fun r hr => ?_, fun k hk => ?_⟩
  · by_cases e : l = R + 1
    · subst e
      rw [up_s]
      by_cases e2 : k = R + 1
      · subst e2; rw [up_s]; exact Nat.le_refl _
      · rw [up_n e2]
        exact Nat.le_trans (h5 k R (by omega) (Nat.le_refl _)) hy
    · rw [up_n e, up_n (by omega)]
      exact h5 k l a (by omega)
  · have e := hq (r + 1) (by omega)
    unfold ty_rule
    rw [up_n (by omega)]
    exact h7 r hr
  · by_cases e : k = R
    · subst e; exact g
    · have r := h8 k (by omega)
      unfold ty_rel at r ⊢
      rw [up_n (by omega), up_n (by omega)]
      exact r
theorem PR_rule (h : PR c v z R x q A A2) (h80 : A2 80 (21 * v + (z + 1)) = nI R) (g : ty_rule c v A A2 x (up q (z + 1) R) z) : PR c v (z + 1) R x (up q (z + 1) R) A A2 := by
  obtain ⟨h1, h2, h3, h4, h5, h6, h7, h8⟩ := h
  refine ⟨h1, by rw [up_n (by omega)]; exact h2, fun r s a b => ?_, by rw [up_s]; exact Nat.le_refl _, h5, fun r hr => ?_, fun r hr => ?_, h8⟩
  · by_cases e : s = z + 1
    · subst e
      rw [up_s]
      by_cases e2 : r = z + 1
      · subst e2; rw [up_s]; exact Nat.le_refl _
      · rw [up_n e2]
        exact Nat.le_trans (h3 r z (by omega) (Nat.le_refl _)) h4
    · rw [up_n e, up_n (by omega)]
      exact h3 r s a (by omega)
  · by_cases e : r = z + 1
    · subst e; rw [up_s]; exact h80
    · rw [up_n e]; exact h6 r (by omega)
  · by_cases e : r = z
    · subst e; exact g
    · have r1 := h7 r (by omega)
      unfold ty_rule at r1 ⊢
      rw [up_n (by omega)]
      exact r1
theorem PR_at (h : PR c v z R x q A A2) (hq : q z = R) (h2 : R ≤ 200) (h4 : x R + R ≤ 400) : ty_at c v z x q A A2 := by
  obtain ⟨a1, a2, a3, a4, a5, a6, a7, a8⟩ := h
  subst hq
  exact ⟨a1, a2, a3, a5, h2, h4, a6, a7, a8⟩
theorem at_PR {m : Nat} (h : ty_at c v m x q A A2) : PR c v m (q m) x q A A2 := by
  obtain ⟨a1, a2, a3, a4, a5, a6, a7, a8, a9⟩ := h
  exact ⟨a1, a2, a3, Nat.le_refl _, a4, a7, a8, a9⟩
end Kp
