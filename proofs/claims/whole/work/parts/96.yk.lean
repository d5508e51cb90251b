/-! the reference's parser: what stands ahead of a token -/
def RT (T : Nat → Int32) (L C : Nat) (A : Nat → Nat → Int32) : Prop := C ≤ 401 ∧ cx_ok T L C A ∧ (∀ q, q + 1 < C → kK T L q ≠ 0) ∧ (C = 401 ∨ kK T L (C - 1) = 0)
theorem RT_c {T : Nat → Int32} {L C : Nat} {A A' : Nat → Nat → Int32} (h : RT T L C A) (e1 : A' 71 = A 71) (e2 : A' 72 = A 72) (e3 : A' 73 = A 73) : RT T L C A' := by
  unfold RT cx_ok
  rw [e1, e2, e3]
  exact h
def RI (v k o m p : Nat) (I : Nat → Nat → Int32) : Prop := I 68 13 = 0 ∧ I 68 11 = nI k ∧ I 68 12 = nI o ∧ I 68 34 = nI m ∧ I 68 30 = nI (500 * v + p) ∧ I 68 19 = nI v
/-- a fault was told, of token q -/
def MF (T : Nat → Int32) (L v fa q m p : Nat) (I : Nat → Nat → Int32) : Prop := I 68 13 = nI fa ∧ (fa = 1 ∨ fa = 2) ∧ I 68 14 = nI (kP T L q) ∧ (∃ k, k ≤ 400 ∧ I 68 11 = nI k) ∧ I 68 34 = nI m ∧ I 68 30 = nI (500 * v + p) ∧ m ≤ 48 ∧ p + m ≤ 500
section Ri
variable {n L C v k o m p : Nat} {T : Nat → Int32} {I A : Nat → Nat → Int32} {J : Nat → Nat → Int64} {t : Bool × Bool}
theorem RT_k (h : RT T L C A) (hk : k < C) : k ≤ 400 ∧ cz_m (kK T L k) (A 71 k) ∧ A 72 k = nI (kP T L k) ∧ (kK T L k = 2 → A 73 k = kV T L k) := by
  obtain ⟨h1, h2, h3, h4⟩ := h
  exact ⟨by omega, (h2 k hk).1, (h2 k hk).2.1, (h2 k hk).2.2⟩
theorem RT_n (h : RT T L C A) (hk : k < C) (h4 : k < 400) (h0 : ¬ kK T L k = 0) : k + 1 < C := by
  obtain ⟨h1, h2, h3, h5⟩ := h
  rcases h5 with e | e
  · omega
  · have : ¬ k = C - 1 := fun y => h0 (by rw [y]; exact e)
    omega
theorem ri_is (hT : RT T L C A) (hk : k < C) (h : RI v k o m p I) {μ : Nat} (hm : μ ≤ 27) (h1 : ¬ μ = 1) {x : Int32} (hx : x = nI (cz_t μ)) : pb_X12_is_68 n I A J t x ∧ px_X12_is_68 n I A J t x = if kK T L k = μ then 1 else 0 := by
  obtain ⟨a1, a2, a3, a4⟩ := RT_k hT hk
  have r := rp_is (n := n) (A := A) (J := J) (t := t) (x := x) h.1 h.2.1 (by omega)
  refine ⟨r.1, ?_⟩
  rw [r.2, hx]
  have e := km kK_le a2 hm h1
  by_cases q : kK T L k = μ
  · rw [if_pos q, if_pos (e.2 q)]
  · rw [if_neg q, if_neg (fun y => q (e.1 y))]
theorem ri_fail (hT : RT T L C A) (hk : k < C) (h : RI v k o m p I) (hm : m ≤ 48) (hp : p + m ≤ 500) {fa : Nat} (hf : fa = 1 ∨ fa = 2) : pb_X12_fail_68 n I A J t (nI fa) ∧ pI_X12_fail_68 n I A J t (nI fa) = cw_u (cw_u I 68 13 (nI fa)) 68 14 (nI (kP T L k)) ∧ MF T L v fa k m p (pI_X12_fail_68 n I A J t (nI fa)) := by
  obtain ⟨a1, a2, a3, a4⟩ := RT_k hT hk
  have r := rp_fail (n := n) (A := A) (J := J) (t := t) (x := nI fa) h.1 h.2.1 (by omega)
  rw [a3] at r
  refine ⟨r.1, r.2, ?_⟩
  rw [r.2]
  exact ⟨(cu_n (by decide)).trans cu_s, hf, cu_s, ⟨k, a1, (cu_n (by decide)).trans ((cu_n (by decide)).trans h.2.1)⟩, (cu_n (by decide)).trans ((cu_n (by decide)).trans h.2.2.2.1), (cu_n (by decide)).trans ((cu_n (by decide)).trans h.2.2.2.2.1), hm, hp⟩
theorem ri_next (h : RI v k o m p I) (hk : k < 400) : pb_X12_next_68 n I A J t ∧ pI_X12_next_68 n I A J t = cw_u I 68 11 (nI (k + 1)) ∧ RI v (k + 1) o m p (pI_X12_next_68 n I A J t) := by
  have r := rp_next (n := n) (A := A) (J := J) (t := t) h.2.1 hk
  refine ⟨r.1, r.2, ?_⟩
  rw [r.2]
  exact ⟨(cu_n (by decide)).trans h.1, cu_s, (cu_n (by decide)).trans h.2.2.1, (cu_n (by decide)).trans h.2.2.2.1, (cu_n (by decide)).trans h.2.2.2.2.1, (cu_n (by decide)).trans h.2.2.2.2.2⟩
theorem ri_next4 (hT : RT T L C A) (hk : k < C) (h4 : k = 400) (h : RI v k o m p I) (hm : m ≤ 48) (hp : p + m ≤ 500) : pb_X12_next_68 n I A J t ∧ MF T L v 2 k m p (pI_X12_next_68 n I A J t) := by
  subst h4
  obtain ⟨a1, a2, a3, a4⟩ := RT_k hT hk
  have r := rp_next4 (n := n) (A := A) (J := J) (t := t) h.1 h.2.1
  refine ⟨r.1, ?_⟩
  rw [r.2, a3]
  exact ⟨(cu_n (by decide)).trans cu_s, Or.inr rfl, cu_s, ⟨400, Nat.le_refl _, (cu_n (by decide)).trans ((cu_n (by decide)).trans h.2.1)⟩, (cu_n (by decide)).trans ((cu_n (by decide)).trans h.2.2.2.1), (cu_n (by decide)).trans ((cu_n (by decide)).trans h.2.2.2.2.1), hm, hp⟩
theorem MF_p {fa q : Nat} (h : MF T L v fa q m p I) : ¬ I 68 13 ≤ 0 ∧ ¬ I 68 13 = 0 := by
  obtain ⟨a, b, -⟩ := h
  rw [a]
  rcases b with b | b <;> rw [b] <;> decide
theorem MF_next {fa q : Nat} (h : MF T L v fa q m p I) : pb_X12_next_68 n I A J t ∧ MF T L v fa q m p (pI_X12_next_68 n I A J t) := by
  have z := MF_p h
  obtain ⟨h1, h2, h3, ⟨k', h4, h5⟩, h6, h7, h8, h9⟩ := h
  obtain ⟨r1, k2, r2, r3⟩ := rp_nextf (n := n) (A := A) (J := J) (t := t) z.1 h5 h4
  rw [r3]
  exact ⟨r1, (cu_n (by decide)).trans h1, h2, (cu_n (by decide)).trans h3, ⟨k2, r2, cu_s⟩, (cu_n (by decide)).trans h6, (cu_n (by decide)).trans h7, h8, h9⟩
theorem MF_fail {fa q : Nat} {x : Int32} (h : MF T L v fa q m p I) : pb_X12_fail_68 n I A J t x ∧ pI_X12_fail_68 n I A J t x = I := rp_failf (MF_p h).1
theorem MF_is {fa q : Nat} {x : Int32} (h : MF T L v fa q m p I) : pb_X12_is_68 n I A J t x ∧ px_X12_is_68 n I A J t x = 0 := rp_isf (MF_p h).2
theorem MF_must {fa q : Nat} {x : Int32} (h : MF T L v fa q m p I) : pb_X12_must_68 n I A J t x ∧ pI_X12_must_68 n I A J t x = I := by
  have a := MF_is (n := n) (A := A) (J := J) (t := t) (x := x) h
  have b := MF_fail (n := n) (A := A) (J := J) (t := t) (x := 1) h
  unfold pb_X12_must_68 pI_X12_must_68 qIm5_X12_must_68
  rw [a.2, if_pos rfl]
  exact ⟨⟨a.1, fun _ => b.1, fun z => absurd rfl z⟩, b.2⟩
/-- behind a fault: what comes out -/
theorem MF_out {fa q : Nat} {x : Int32} (hn : 2100 ≤ n) (hv : v < 2) (h : MF T L v fa q m p I) {p0 : Nat} (hp : p0 ≤ p) {As : Nat → Nat → Int32} (hF : FQ v p0 As A) : pb_X12_comesOut_68 n I A J t x ∧ FQ v p0 As (pA_X12_comesOut_68 n I A J t x) ∧ ∃ m' p', MF T L v fa q m' p' (pI_X12_comesOut_68 n I A J t x) ∧ p0 ≤ p' := by
  obtain ⟨h1, h2, h3, h4, h6, h7, h8, h9⟩ := h
  obtain ⟨j, a, b, c⟩ := ex_run (fun i => ¬ A 88 (m - 1 - i) = 6 ∧ (x = 0 ∨ A 88 (m - 1 - i) = 10)) m
  obtain ⟨r1, r2, r3⟩ := rp_cot (n := n) (J := J) (t := t) (x := x) hn h6 h7 h8 (by omega) a b c
  refine ⟨r1, FQ_rg hF r3 (by omega) (by omega), m - j, p + j, ?_, by omega⟩
  rw [r2]
  refine ⟨(cu_n (by decide)).trans ((cu_n (by decide)).trans h1), h2, (cu_n (by decide)).trans ((cu_n (by decide)).trans h3), ?_, cu_s, (cu_n (by decide)).trans ?_, by omega, by omega⟩
  · obtain ⟨k', h5, h5'⟩ := h4
    exact ⟨k', h5, (cu_n (by decide)).trans ((cu_n (by decide)).trans h5')⟩
  · rw [cu_s, Nat.add_assoc]
end Ri
