/-! the class's parser: steps, draft 60 -/
section Rd60
variable {n : Nat} {I A : Nat → Nat → Int32} {J : Nat → Nat → Int64} {t : Bool × Bool}
theorem ad_60 {σ : Nat} {a b : Int32} (h : I 60 7 = nI σ) (hs : σ < 400) : pb_X10_addStep_60 n I A J t a b ∧ pI_X10_addStep_60 n I A J t a b = cw_u I 60 7 (nI (σ + 1)) ∧ pA_X10_addStep_60 n I A J t a b = cw_u (cw_u A 65 σ a) 66 σ b := by
  unfold pb_X10_addStep_60 pI_X10_addStep_60 pA_X10_addStep_60 qIm7_X10_addStep_60 qAm7_X10_addStep_60 qI37_X10_addStep_60 qA29_X10_addStep_60 qA19_X10_addStep_60
  have z : ¬ (400 : Int32) ≤ nI σ := nI_ge hs (by decide)
  have v : vp_in (nI σ) 400 := vp_in_nI hs (by decide)
  rw [h, if_neg z, if_neg z, nI_clamp (by omega), nI_1]
  exact ⟨fun _ => ⟨v, v⟩, rfl, rfl⟩
theorem rl_60 {κ le : Int32} {I0 A0 : Nat → Nat → Int32} (hle : q8_X4_release_33_tTx n I0 A0 J t κ = le) : ∀ (j w σ f : Nat) (I A : Nat → Nat → Int32), I 33 3 = nI w → I 60 7 = nI σ → w ≤ 22 → σ + j ≤ 400 → j ≤ w → j < f → (∀ i, i < j → ¬ rkk (A 36 (w - 1 - i)) < le) → (j = w ∨ rkk (A 36 (w - 1 - j)) < le) →
    lb_X4_release_33_tTx_16 n I0 A0 J t κ f I A (nI w - 1) ∧ ∃ A' y, lp_X4_release_33_tTx_16 n I0 A0 J t κ f I A (nI w - 1) = (cw_u (cw_u I 60 7 (nI (σ + j))) 33 3 (nI (w - j)), A', y) ∧ (∀ r, r ≠ 65 → r ≠ 66 → A' r = A r) ∧ (∀ i, A' 65 i = if σ ≤ i ∧ i < σ + j then A 36 (w + σ - 1 - i) else A 65 i) ∧ ∀ i, A' 66 i = if σ ≤ i ∧ i < σ + j then 0 else A 66 i := by
  intro j
  induction j with
  | zero =>
    intro w σ f I A h3 h7 hw hs hj hf hp hst
    obtain ⟨f, rfl⟩ : ∃ g, f = g + 1 := ⟨f - 1, by omega⟩
    have e : cw_u (cw_u I 60 7 (nI (σ + 0))) 33 3 (nI (w - 0)) = I := by
      rw [Nat.add_zero, Nat.sub_zero, cw_ue I 60 7 _ h7, cw_ue I 33 3 _ h3]
    rw [e]
    have fin : ∀ i, A 65 i = (if σ ≤ i ∧ i < σ + 0 then A 36 (w + σ - 1 - i) else A 65 i) ∧ A 66 i = (if σ ≤ i ∧ i < σ + 0 then (0 : Int32) else A 66 i) := by
      intro i
      rw [if_neg (by omega), if_neg (by omega)]
      exact ⟨rfl, rfl⟩
    unfold lb_X4_release_33_tTx_16 lp_X4_release_33_tTx_16
    by_cases w0 : w = 0
    · subst w0
      have z : nI 0 - 1 < 0 := by decide
      rw [if_pos z]
      exact ⟨fun y => absurd z y, A, _, rfl, fun _ _ _ => rfl, fun i => (fin i).1, fun i => (fin i).2⟩
    · have z : ¬ nI w - 1 < 0 := by
        rw [nI_pr (by omega)]
        exact nI_nlt (b := 0) (by omega) (by omega)
      have r : rkk (A 36 (w - 1)) < le := by
        rcases hst with a | a
        · omega
        · exact a
      have r2 : px_X4_rank n I A J (true, t.2) (A 36 (nI w - 1).toNatClampNeg) < q8_X4_release_33_tTx n I0 A0 J t κ := by
        rw [nI_pr (by omega), nI_clamp (by omega), hle]
        exact r
      rw [if_neg z, if_pos r2]
      refine ⟨fun _ => ⟨?_, fun y => absurd r2 y⟩, A, _, rfl, fun _ _ _ => rfl, fun i => (fin i).1, fun i => (fin i).2⟩
      rw [nI_pr (by omega)]
      exact vp_in_nI (by omega) (by decide)
  | succ j ih =>
    intro w σ f I A h3 h7 hw hs hj hf hp hst
    obtain ⟨f, rfl⟩ : ∃ g, f = g + 1 := ⟨f - 1, by omega⟩
    unfold lb_X4_release_33_tTx_16 lp_X4_release_33_tTx_16
    have ep : nI w - 1 = nI (w - 1) := nI_pr (by omega)
    have z : ¬ nI w - 1 < 0 := by
      rw [ep]
      exact nI_nlt (b := 0) (by omega) (by omega)
    have r2 : ¬ px_X4_rank n I A J (true, t.2) (A 36 (nI w - 1).toNatClampNeg) < q8_X4_release_33_tTx n I0 A0 J t κ := by
      rw [ep, nI_clamp (by omega), hle]
      exact hp 0 (by omega)
    rw [if_neg z, if_neg r2]
    have ad := ad_60 (n := n) (A := A) (J := J) (t := (true, t.2)) (a := A 36 (nI w - 1).toNatClampNeg) (b := 0) h7 (by omega)
    have eI : qI49_X4_release_33_tTx n I0 A0 J t κ I A (nI w - 1) = cw_u (cw_u I 60 7 (nI (σ + 1))) 33 3 (nI (w - 1)) := by
      unfold qI49_X4_release_33_tTx
      rw [ad.2.1, ep]
    have ev : q52_X4_release_33_tTx n I0 A0 J t κ I A (nI w - 1) = nI (w - 1) - 1 := by
      unfold q52_X4_release_33_tTx
      rw [ep, Int32.sub_eq_add_neg]
    rw [eI, ev, ad.2.2, ep, nI_clamp (by omega)]
    have r := ih (w - 1) (σ + 1) f (cw_u (cw_u I 60 7 (nI (σ + 1))) 33 3 (nI (w - 1))) (cw_u (cw_u A 65 σ (A 36 (w - 1))) 66 σ 0) cu_s (by rw [cu_n (by simp), cu_s]) (by omega) (by omega) (by omega) (by omega)
      (by
        intro i hi
        rw [cu_n (by simp), cu_n (by simp)]
        have q := hp (i + 1) (by omega)
        have e : w - 1 - (i + 1) = w - 1 - 1 - i := by omega
        rw [e] at q; exact q)
      (by
        rw [cu_n (by simp), cu_n (by simp)]
        rcases hst with a | a
        · left; omega
        · right
          have e : w - 1 - (j + 1) = w - 1 - 1 - j := by omega
          rw [e] at a; exact a)
    obtain ⟨r1, A', y, r2, r3, r4, r5⟩ := r
    have hv : vp_in (nI (w - 1)) 22 := vp_in_nI (by omega) (by decide)
    refine ⟨fun _ => ⟨hv, fun _ => ⟨hv, ?_, r1⟩⟩, A', y, ?_, ?_, ?_, ?_⟩
    · have q := ad.1
      rw [ep, nI_clamp (by omega)] at q
      exact q
    · rw [r2]
      congr 1
      funext a b
      unfold cw_u
      have e1 : σ + 1 + j = σ + (j + 1) := by omega
      have e2 : w - 1 - j = w - (j + 1) := by omega
      rw [e1, e2]
      split
      · rfl
      · split
        · rfl
        · simp_all
    · intro r a b
      rw [r3 r a b, cw_u_c _ _ b, cw_u_c _ _ a]
    · intro i
      rw [r4 i]
      by_cases c1 : i = σ
      · subst c1
        rw [if_neg (by omega), if_pos (by omega), cu_n (by simp), cu_s]
        congr 1; omega
      · by_cases c2 : σ + 1 ≤ i ∧ i < σ + 1 + j
        · rw [if_pos c2, if_pos (by omega), cu_n (by simp), cu_n (by simp)]
          congr 1; omega
        · rw [if_neg c2, if_neg (by omega), cu_n (by simp), cu_n (by simp [c1])]
    · intro i
      rw [r5 i]
      by_cases c1 : i = σ
      · subst c1
        rw [if_neg (by omega), if_pos (by omega), cu_s]
      · by_cases c2 : σ + 1 ≤ i ∧ i < σ + 1 + j
        · rw [if_pos c2, if_pos (by omega)]
        · rw [if_neg c2, if_neg (by omega), cu_n (by simp [c1]), cu_n (by simp)]
end Rd60
