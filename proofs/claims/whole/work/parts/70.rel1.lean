/-! the relation: the tape -/
def rl_tape (I A : Nat → Nat → Int32) : Prop := ∃ n : Nat, n ≤ 2000 ∧ I 0 13 = nI n ∧ I 68 2 = nI n ∧ ∀ j, j < n → A 32 j = A 69 j
theorem tp_back {n : Nat} {I A : Nat → Nat → Int32} {J : Nat → Nat → Int64} {t : Bool × Bool} {x : Int32} (h : rl_tape I A) : px_X12_back_68 n (pI_X11_back_0 n I A J t x) A J t x = px_X11_back_0 n I A J t x ∧ rl_tape (pI_X12_back_68 n (pI_X11_back_0 n I A J t x) A J t x) A := by
  obtain ⟨m, hm, h1, h2, h3⟩ := h
  unfold px_X12_back_68 px_X11_back_0 pI_X12_back_68 pI_X11_back_0 qI21_X12_back_68 qI21_X11_back_0
  by_cases c1 : x < 0
  · simp only [if_pos c1]
    exact ⟨trivial, m, hm, h1, h2, h3⟩
  · simp only [if_neg c1]
    by_cases c2 : x ≤ I 0 13
    · have c3 : x ≤ I 68 2 := by rw [h2, ← h1]; exact c2
      obtain ⟨k, hk, rfl⟩ := nI_of c1
      have hkm : k ≤ m := by rw [h1] at c2; exact (nI_leI hk (by omega)).mp c2
      have e : nI m - nI k = nI (m - k) := pk_sub hkm
      simp only [if_pos c2]
      have u1 : cw_u I 0 13 (I 0 13 - nI k) 68 2 = I 68 2 := by rw [cw_u_c _ _ (by decide)]
      have u2 : ∀ v, cw_u (cw_u I 0 13 (I 0 13 - nI k)) 68 2 v 0 13 = I 0 13 - nI k := fun v => by rw [cw_u_c _ _ (by decide), cw_u_s]
      rw [u1]
      simp only [if_pos c3]
      refine ⟨by rw [cw_u_s, cw_u_s, h1, h2], m - k, by omega, by rw [u2, h1, e], by rw [cw_u_s, h2, e], fun j hj => h3 j (by omega)⟩
    · have c3 : ¬ x ≤ I 68 2 := by rw [h2, ← h1]; exact c2
      simp only [if_neg c2, if_neg c3]
      exact ⟨trivial, m, hm, h1, h2, h3⟩
