/-! the relation: masts -/
def rl_masts (I A : Nat → Nat → Int32) : Prop := ∃ n : Nat, n ≤ 6 ∧ I 9 2 = nI n ∧ I 68 40 = nI n ∧ ∀ i, i < n → A 10 i = A 92 i ∧ A 11 i = A 93 i ∧ ¬ A 10 i < 0 ∧ A 10 i < I 5 3 ∧ 1 ≤ A 11 i ∧ A 11 i ≤ 9
theorem ms_mast {n : Nat} {I A : Nat → Nat → Int32} {J : Nat → Nat → Int64} {t : Bool × Bool} {x y : Int32} (hs : I 5 3 = I 68 36) (h : rl_masts I A) :
    pb_X11_mast_0 n I A J t x y ∧ pb_X12_mast_68 n (pI_X11_mast_0 n I A J t x y) (pA_X11_mast_0 n I A J t x y) J t x y ∧
    px_X12_mast_68 n (pI_X11_mast_0 n I A J t x y) (pA_X11_mast_0 n I A J t x y) J t x y = px_X11_mast_0 n I A J t x y ∧
    rl_masts (pI_X12_mast_68 n (pI_X11_mast_0 n I A J t x y) (pA_X11_mast_0 n I A J t x y) J t x y) (pA_X12_mast_68 n (pI_X11_mast_0 n I A J t x y) (pA_X11_mast_0 n I A J t x y) J t x y) := by
  obtain ⟨m, hm, h1, h2, h3⟩ := h
  have hin : m < 6 → vp_in (nI m) 6 := fun q => vp_in_nI q (by decide)
  have e6 : nI m < 6 ↔ m < 6 := nI_ltI (b := 6) (by omega) (by decide)
  have q6 : nI m = 6 ↔ m = 6 := nI_eq (b := 6) (by omega) (by decide)
  by_cases c1 : px_X9_has_5 n I A J t x = 0
  · have a1 : pI_X11_mast_0 n I A J t x y = I := by unfold pI_X11_mast_0; rw [if_pos c1]
    have a2 : pA_X11_mast_0 n I A J t x y = A := by unfold pA_X11_mast_0; rw [if_pos c1]
    have a3 : px_X12_isSite_68 n I A J t x = 0 := by rw [← eq_site (n := n) (A := A) (J := J) (t := t) hs]; exact c1
    rw [a1, a2]
    refine ⟨fun q => absurd c1 q, fun _ q => absurd a3 q, ?_, ?_⟩
    · unfold px_X12_mast_68 px_X11_mast_0
      rw [if_pos a3, if_pos c1]
      split <;> rfl
    · have b1 : pI_X12_mast_68 n I A J t x y = I := by unfold pI_X12_mast_68; rw [if_pos a3]; split <;> rfl
      have b2 : pA_X12_mast_68 n I A J t x y = A := by unfold pA_X12_mast_68; rw [if_pos a3]; split <;> rfl
      rw [b1, b2]
      exact ⟨m, hm, h1, h2, h3⟩
  · sorry
