/-! the reference's parser: small steps -/
section Rp
variable {n k : Nat} {I A : Nat → Nat → Int32} {J : Nat → Nat → Int64} {t : Bool × Bool} {x : Int32}
theorem rp_is (h13 : I 68 13 = 0) (h11 : I 68 11 = nI k) (hk : k ≤ 402) : pb_X12_is_68 n I A J t x ∧ px_X12_is_68 n I A J t x = if A 71 k = x then 1 else 0 := by
  unfold pb_X12_is_68 px_X12_is_68 qs0m4_X12_is_68 qs0m17_X12_is_68
  rw [if_pos h13, h11, nI_clamp (by omega)]
  exact ⟨fun _ => vp_in_nI (by omega) (by decide), rfl⟩
theorem rp_isf (h13 : ¬ I 68 13 = 0) : pb_X12_is_68 n I A J t x ∧ px_X12_is_68 n I A J t x = 0 := by
  unfold pb_X12_is_68 px_X12_is_68 qs0m4_X12_is_68
  rw [if_neg h13]
  exact ⟨fun z => absurd z h13, rfl⟩
theorem rp_fail (h13 : I 68 13 = 0) (h11 : I 68 11 = nI k) (hk : k ≤ 402) : pb_X12_fail_68 n I A J t x ∧ pI_X12_fail_68 n I A J t x = cw_u (cw_u I 68 13 x) 68 14 (A 72 k) := by
  unfold pb_X12_fail_68 pI_X12_fail_68 qI23_X12_fail_68 qI10_X12_fail_68
  rw [h13, cu_n (a := 68) (b := 11) (by simp), h11, nI_clamp (by omega), if_pos (by decide)]
  exact ⟨fun _ => vp_in_nI (by omega) (by decide), rfl⟩
theorem rp_failf (h13 : ¬ I 68 13 ≤ 0) : pb_X12_fail_68 n I A J t x ∧ pI_X12_fail_68 n I A J t x = I := by
  unfold pb_X12_fail_68 pI_X12_fail_68
  rw [if_neg h13]
  exact ⟨fun z => absurd z h13, rfl⟩
theorem rp_next (h11 : I 68 11 = nI k) (hk : k < 400) : pb_X12_next_68 n I A J t ∧ pI_X12_next_68 n I A J t = cw_u I 68 11 (nI (k + 1)) := by
  unfold pb_X12_next_68 pI_X12_next_68 qIm7_X12_next_68 qI25_X12_next_68
  have z : ¬ nI k = 400 := fun y => by
    have w := (nI_eq (a := k) (b := 400) (by omega) (by decide)).1 y
    omega
  rw [h11, if_neg z, nI_1]
  exact ⟨fun y => absurd y z, rfl⟩
theorem rp_next4 (h13 : I 68 13 = 0) (h11 : I 68 11 = nI 400) : pb_X12_next_68 n I A J t ∧ pI_X12_next_68 n I A J t = cw_u (cw_u I 68 13 2) 68 14 (A 72 400) := by
  have r := rp_fail (n := n) (A := A) (J := J) (t := t) (x := 2) h13 h11 (by omega)
  unfold pb_X12_next_68 pI_X12_next_68 qIm7_X12_next_68
  rw [h11, if_pos (show nI 400 = 400 from rfl)]
  exact ⟨fun _ => r.1, r.2⟩
/-- behind a fault: only t may move -/
theorem rp_nextf (h13 : ¬ I 68 13 ≤ 0) (h11 : I 68 11 = nI k) (hk : k ≤ 400) : pb_X12_next_68 n I A J t ∧ ∃ k', k' ≤ 400 ∧ pI_X12_next_68 n I A J t = cw_u I 68 11 (nI k') := by
  by_cases h : k = 400
  · subst h
    have r := rp_failf (n := n) (A := A) (J := J) (t := t) (x := 2) h13
    unfold pb_X12_next_68 pI_X12_next_68 qIm7_X12_next_68
    rw [h11, if_pos (show nI 400 = 400 from rfl), r.2]
    refine ⟨fun _ => r.1, 400, by omega, ?_⟩
    rw [cw_ue I 68 11 _ h11]
  · have r := rp_next (n := n) (A := A) (J := J) (t := t) h11 (by omega)
    exact ⟨r.1, k + 1, by omega, r.2⟩
theorem rp_emit {p : Nat} {y : Int32} (h30 : I 68 30 = nI p) (hp : p < 1000) : pb_X12_emit_68 n I A J t x y ∧ pI_X12_emit_68 n I A J t x y = cw_u I 68 30 (nI (p + 1)) ∧ pA_X12_emit_68 n I A J t x y = cw_u (cw_u A 86 p x) 87 p y := by
  unfold pb_X12_emit_68 pI_X12_emit_68 pA_X12_emit_68 qI27_X12_emit_68 qA19_X12_emit_68 qA9_X12_emit_68
  rw [h30, nI_clamp (by omega), nI_1]
  have v : vp_in (nI p) 1000 := vp_in_nI hp (by decide)
  exact ⟨⟨v, v⟩, rfl, rfl⟩
end Rp
def cdo (w : Int32) : Int32 := if w = 8 then 2 else if w = 9 then 3 else 4
def rg (m p j : Nat) (A A' : Nat → Nat → Int32) : Prop := (∀ r, r ≠ 86 → r ≠ 87 → A' r = A r) ∧ (∀ i, A' 86 i = if p ≤ i ∧ i < p + j then cdo (A 88 (m + p - 1 - i)) else A 86 i) ∧ ∀ i, A' 87 i = if p ≤ i ∧ i < p + j then 0 else A 87 i
section Rq
variable {n : Nat} {I0 A0 : Nat → Nat → Int32} {J : Nat → Nat → Int64} {t : Bool × Bool} {x : Int32}
theorem rp_co : ∀ (j m p f : Nat) (I A : Nat → Nat → Int32), I 68 34 = nI m → I 68 30 = nI p → m ≤ 48 → p + j ≤ 1000 → j ≤ m → j < f → (∀ i, i < j → ¬ A 88 (m - 1 - i) = 6 ∧ (x = 0 ∨ A 88 (m - 1 - i) = 10)) → (j = m ∨ ¬ (¬ A 88 (m - 1 - j) = 6 ∧ (x = 0 ∨ A 88 (m - 1 - j) = 10))) →
    lb_X12_comesOut_68_0 n I0 A0 J t x f I A ∧ ∃ A', lp_X12_comesOut_68_0 n I0 A0 J t x f I A = (cw_u (cw_u I 68 30 (nI (p + j))) 68 34 (nI (m - j)), A') ∧ rg m p j A A' := by
  intro j
  induction j with
  | zero =>
    intro m p f I A h34 h30 hm hp hj hf ht hst
    obtain ⟨f, rfl⟩ : ∃ g, f = g + 1 := ⟨f - 1, by omega⟩
    have e : cw_u (cw_u I 68 30 (nI (p + 0))) 68 34 (nI (m - 0)) = I := by
      rw [Nat.add_zero, Nat.sub_zero, cw_ue I 68 30 _ h30, cw_ue I 68 34 _ h34]
    rw [e]
    have fin : rg m p 0 A A := by
      refine ⟨fun _ _ _ => rfl, fun i => ?_, fun i => ?_⟩
      · rw [if_neg (by omega)]
      · rw [if_neg (by omega)]
    unfold lb_X12_comesOut_68_0 lp_X12_comesOut_68_0
    rw [h34]
    by_cases m0 : m = 0
    · subst m0
      have z : nI 0 ≤ 0 := by decide
      rw [if_pos z]
      exact ⟨fun y => absurd z y, A, rfl, fin⟩
    · have z : ¬ nI m ≤ 0 := nI_ge (show 0 < m by omega) (by omega)
      have ep : nI m - 1 = nI (m - 1) := nI_pr (by omega)
      rw [if_neg z, ep, nI_clamp (by omega)]
      have v : vp_in (nI (m - 1)) 48 := vp_in_nI (by omega) (by decide)
      have s : ¬ (¬ A 88 (m - 1) = 6 ∧ (x = 0 ∨ A 88 (m - 1) = 10)) := by
        rcases hst with a | a
        · omega
        · exact a
      by_cases c6 : A 88 (m - 1) = 6
      · rw [if_pos c6]
        exact ⟨fun _ => ⟨v, fun y => absurd c6 y⟩, A, rfl, fin⟩
      · have x0 : ¬ x = 0 := fun y => s ⟨c6, Or.inl y⟩
        have x10 : ¬ A 88 (m - 1) = 10 := fun y => s ⟨c6, Or.inr y⟩
        rw [if_neg c6, if_neg x0, if_neg x10]
        exact ⟨fun _ => ⟨v, fun _ => ⟨fun y => absurd y x0, fun _ => ⟨v, fun y => absurd y x10⟩⟩⟩, A, rfl, fin⟩
  | succ j ih =>
    intro m p f I A h34 h30 hm hp hj hf ht hst
    obtain ⟨f, rfl⟩ : ∃ g, f = g + 1 := ⟨f - 1, by omega⟩
    unfold lb_X12_comesOut_68_0 lp_X12_comesOut_68_0
    have z : ¬ nI m ≤ 0 := nI_ge (show 0 < m by omega) (by omega)
    have ep : nI m - 1 = nI (m - 1) := nI_pr (by omega)
    have t0 := ht 0 (by omega)
    rw [Nat.sub_zero] at t0
    have eI : qI50_X12_comesOut_68 n I0 A0 J t x I A = cw_u I 68 34 (nI (m - 1)) := by
      unfold qI50_X12_comesOut_68; rw [h34, ep]
    have ew : qs1m67_X12_comesOut_68 n I0 A0 J t x I A = cdo (A 88 (m - 1)) := by
      unfold qs1m67_X12_comesOut_68 qs1m77_X12_comesOut_68 q62_X12_comesOut_68
      rw [eI, cu_s, nI_clamp (by omega)]
      rfl
    have em := rp_emit (n := n) (I := cw_u I 68 34 (nI (m - 1))) (A := A) (J := J) (t := t) (x := cdo (A 88 (m - 1))) (p := p) (y := 0) (by rw [cu_n (by simp)]; exact h30) (by omega)
    rw [eI, ew, em.2.1, em.2.2, cu_s, h34, if_neg z, ep, nI_clamp (by omega), if_neg t0.1]
    have v : vp_in (nI (m - 1)) 48 := vp_in_nI (by omega) (by decide)
    have r := ih (m - 1) (p + 1) f (cw_u (cw_u I 68 34 (nI (m - 1))) 68 30 (nI (p + 1))) (cw_u (cw_u A 86 p (cdo (A 88 (m - 1)))) 87 p 0) (by rw [cu_n (by simp), cu_s]) cu_s (by omega) (by omega) (by omega) (by omega)
      (by
        intro i hi
        rw [cu_n (by simp), cu_n (by simp)]
        have q := ht (i + 1) (by omega)
        have e : m - 1 - (i + 1) = m - 1 - 1 - i := by omega
        rw [e] at q; exact q)
      (by
        rw [cu_n (by simp), cu_n (by simp)]
        rcases hst with a | a
        · left; omega
        · right
          have e : m - 1 - (j + 1) = m - 1 - 1 - j := by omega
          rw [e] at a; exact a)
    obtain ⟨r1, A', r2, r3, r4, r5⟩ := r
    have eL : cw_u (cw_u (cw_u (cw_u I 68 34 (nI (m - 1))) 68 30 (nI (p + 1))) 68 30 (nI (p + 1 + j))) 68 34 (nI (m - 1 - j)) = cw_u (cw_u I 68 30 (nI (p + (j + 1)))) 68 34 (nI (m - (j + 1))) := by
      funext a b
      unfold cw_u
      have e1 : p + 1 + j = p + (j + 1) := by omega
      have e2 : m - 1 - j = m - (j + 1) := by omega
      rw [e1, e2]
      split
      · rfl
      · split
        · rfl
        · simp_all
    rw [eL] at r2
    have fin : rg m p (j + 1) A A' := by
      refine ⟨fun r a b => ?_, fun i => ?_, fun i => ?_⟩
      · rw [r3 r a b, cw_u_c _ _ b, cw_u_c _ _ a]
      · rw [r4 i]
        by_cases c1 : i = p
        · subst c1
          rw [if_neg (by omega), if_pos (by omega), cu_n (by simp), cu_s]
          congr 2; omega
        · by_cases c2 : p + 1 ≤ i ∧ i < p + 1 + j
          · rw [if_pos c2, if_pos (by omega), cu_n (by simp), cu_n (by simp)]
            congr 2; omega
          · rw [if_neg c2, if_neg (by omega), cu_n (by simp), cu_n (by simp [c1])]
      · rw [r5 i]
        by_cases c1 : i = p
        · subst c1
          rw [if_neg (by omega), if_pos (by omega), cu_s]
        · by_cases c2 : p + 1 ≤ i ∧ i < p + 1 + j
          · rw [if_pos c2, if_pos (by omega)]
          · rw [if_neg c2, if_neg (by omega), cu_n (by simp [c1]), cu_n (by simp)]
    by_cases x0 : x = 0
    · rw [if_pos x0]
      exact ⟨fun _ => ⟨v, fun _ => ⟨fun _ => ⟨v, em.1, r1⟩, fun y => absurd x0 y⟩⟩, A', r2, fin⟩
    · have x10 : A 88 (m - 1) = 10 := by
        rcases t0.2 with a | a
        · exact absurd a x0
        · exact a
      rw [if_neg x0, if_pos x10]
      exact ⟨fun _ => ⟨v, fun _ => ⟨fun y => absurd y x0, fun _ => ⟨v, fun _ => ⟨v, em.1, r1⟩⟩⟩⟩, A', r2, fin⟩
theorem ex_run (P : Nat → Prop) : ∀ m, ∃ j, j ≤ m ∧ (∀ i, i < j → P i) ∧ (j = m ∨ ¬ P j)
  | 0 => ⟨0, Nat.le_refl _, fun i h => absurd h (by omega), Or.inl rfl⟩
  | m + 1 => by
    obtain ⟨j, a, b, c⟩ := ex_run P m
    by_cases h : j = m
    · by_cases q : P m
      · refine ⟨m + 1, Nat.le_refl _, fun i hi => ?_, Or.inl rfl⟩
        by_cases e : i = m
        · rw [e]; exact q
        · exact b i (by omega)
      · exact ⟨m, by omega, fun i hi => b i (by omega), Or.inr q⟩
    · refine ⟨j, by omega, b, Or.inr ?_⟩
      rcases c with c | c
      · exact absurd c h
      · exact c
/-- whatever waits: what comes out lies behind the codes -/
theorem rp_cof {m p : Nat} {I A : Nat → Nat → Int32} (hn : 2100 ≤ n) (h34 : I 68 34 = nI m) (h30 : I 68 30 = nI p) (hm : m ≤ 48) (hp : p + m ≤ 1000) : pb_X12_comesOut_68 n I A J t x ∧ (∀ r, r ≠ 86 → r ≠ 87 → pA_X12_comesOut_68 n I A J t x r = A r) ∧ (∀ i, i < p ∨ p + m ≤ i → pA_X12_comesOut_68 n I A J t x 86 i = A 86 i ∧ pA_X12_comesOut_68 n I A J t x 87 i = A 87 i) := by
  obtain ⟨j, a, b, c⟩ := ex_run (fun i => ¬ A 88 (m - 1 - i) = 6 ∧ (x = 0 ∨ A 88 (m - 1 - i) = 10)) m
  obtain ⟨r1, A', r2, r3, r4, r5⟩ := rp_co (n := n) (I0 := I) (A0 := A) (J := J) (t := t) (x := x) j m p n I A h34 h30 hm (by omega) a (by omega) b c
  unfold pb_X12_comesOut_68 pA_X12_comesOut_68 qAw0_X12_comesOut_68
  rw [r2]
  refine ⟨r1, r3, fun i hi => ⟨?_, ?_⟩⟩
  · show A' 86 i = _
    rw [r4 i, if_neg (by omega)]
  · show A' 87 i = _
    rw [r5 i, if_neg (by omega)]
theorem rp_cot {m p j : Nat} {I A : Nat → Nat → Int32} (hn : 2100 ≤ n) (h34 : I 68 34 = nI m) (h30 : I 68 30 = nI p) (hm : m ≤ 48) (hp : p + j ≤ 1000) (hj : j ≤ m) (ht : ∀ i, i < j → ¬ A 88 (m - 1 - i) = 6 ∧ (x = 0 ∨ A 88 (m - 1 - i) = 10)) (hst : j = m ∨ ¬ (¬ A 88 (m - 1 - j) = 6 ∧ (x = 0 ∨ A 88 (m - 1 - j) = 10))) :
    pb_X12_comesOut_68 n I A J t x ∧ pI_X12_comesOut_68 n I A J t x = cw_u (cw_u I 68 30 (nI (p + j))) 68 34 (nI (m - j)) ∧ rg m p j A (pA_X12_comesOut_68 n I A J t x) := by
  obtain ⟨r1, A', r2, r3⟩ := rp_co (n := n) (I0 := I) (A0 := A) (J := J) (t := t) (x := x) j m p n I A h34 h30 hm hp hj (by omega) ht hst
  unfold pb_X12_comesOut_68 pI_X12_comesOut_68 pA_X12_comesOut_68 qIw0_X12_comesOut_68 qAw0_X12_comesOut_68
  rw [r2]
  exact ⟨r1, rfl, r3⟩
end Rq
