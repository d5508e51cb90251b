/-! the relation: masts -/
def rl_masts (I A : Nat → Nat → Int32) : Prop := ∃ n : Nat, n ≤ 6 ∧ I 9 2 = nI n ∧ I 68 40 = nI n ∧ ∀ i, i < n → A 10 i = A 92 i ∧ A 11 i = A 93 i ∧ ¬ A 10 i < 0 ∧ A 10 i < I 5 3 ∧ 1 ≤ A 11 i ∧ A 11 i ≤ 9
theorem ms_mast {n : Nat} {I A : Nat → Nat → Int32} {J : Nat → Nat → Int64} {t : Bool × Bool} {x y : Int32} (hs : I 5 3 = I 68 36) (h : rl_masts I A) :
    pb_X11_mast_0 n I A J t x y ∧ pb_X12_mast_68 n (pI_X11_mast_0 n I A J t x y) (pA_X11_mast_0 n I A J t x y) J t x y ∧
    px_X12_mast_68 n (pI_X11_mast_0 n I A J t x y) (pA_X11_mast_0 n I A J t x y) J t x y = px_X11_mast_0 n I A J t x y ∧
    rl_masts (pI_X12_mast_68 n (pI_X11_mast_0 n I A J t x y) (pA_X11_mast_0 n I A J t x y) J t x y) (pA_X12_mast_68 n (pI_X11_mast_0 n I A J t x y) (pA_X11_mast_0 n I A J t x y) J t x y) := by
  obtain ⟨m, hm, h1, h2, h3⟩ := h
  have hin : m < 6 → vp_in (nI m) 6 := fun q => vp_in_nI q (by decide)
  have e6 : nI m < 6 ↔ m < 6 := nI_ltI (b := 6) (by omega) (by decide)
  have q6 : nI m = 6 ↔ m = 6 := nI_eq (b := 6) (by omega) (by decide)
  by_cases c1 : px_X9_has_5 n I A J t x = 0
  · have a1 : pI_X11_mast_0 n I A J t x y = I := by unfold pI_X11_mast_0; rw [if_pos c1]
    have a2 : pA_X11_mast_0 n I A J t x y = A := by unfold pA_X11_mast_0; rw [if_pos c1]
    have a3 : px_X12_isSite_68 n I A J t x = 0 := by rw [← eq_site (n := n) (A := A) (J := J) (t := t) hs]; exact c1
    rw [a1, a2]
    refine ⟨fun q => absurd c1 q, fun _ q => absurd a3 q, ?_, ?_⟩
    · unfold px_X12_mast_68 px_X11_mast_0
      rw [if_pos a3, if_pos c1]
      split <;> rfl
    · have b1 : pI_X12_mast_68 n I A J t x y = I := by unfold pI_X12_mast_68; rw [if_pos a3]; split <;> rfl
      have b2 : pA_X12_mast_68 n I A J t x y = A := by unfold pA_X12_mast_68; rw [if_pos a3]; split <;> rfl
      rw [b1, b2]
      exact ⟨m, hm, h1, h2, h3⟩
  · have a3 : ∀ I2 A2, I2 68 36 = I 68 36 → ¬ px_X12_isSite_68 n I2 A2 J t x = 0 := fun I2 A2 q => by
      rw [← eq_site (n := n) (A := A) (J := J) (t := t) (hs.trans q.symm)]; exact c1
    have same : pI_X11_mast_0 n I A J t x y = I → pA_X11_mast_0 n I A J t x y = A → px_X11_mast_0 n I A J t x y = -1 → (¬ (¬ y < 1 ∧ y ≤ 9) ∨ m = 6) → pb_X12_mast_68 n (pI_X11_mast_0 n I A J t x y) (pA_X11_mast_0 n I A J t x y) J t x y ∧ px_X12_mast_68 n (pI_X11_mast_0 n I A J t x y) (pA_X11_mast_0 n I A J t x y) J t x y = px_X11_mast_0 n I A J t x y ∧ rl_masts (pI_X12_mast_68 n (pI_X11_mast_0 n I A J t x y) (pA_X11_mast_0 n I A J t x y) J t x y) (pA_X12_mast_68 n (pI_X11_mast_0 n I A J t x y) (pA_X11_mast_0 n I A J t x y) J t x y) := by
      intro r1 r2 r3 hc
      rw [r1, r2, r3]
      have k1 : px_X12_mast_68 n I A J t x y = -1 ∧ pI_X12_mast_68 n I A J t x y = I ∧ pA_X12_mast_68 n I A J t x y = A := by
        unfold px_X12_mast_68 pI_X12_mast_68 pA_X12_mast_68
        rw [h2]
        by_cases z1 : nI m = 6
        · simp only [if_pos z1, and_self]
        · simp only [if_neg z1, if_neg (a3 I A rfl)]
          by_cases z2 : y < 1
          · simp only [if_pos z2, and_self]
          · simp only [if_neg z2]
            by_cases z3 : y ≤ 9
            · rcases hc with hc | hc
              · exact absurd ⟨z2, z3⟩ hc
              · exact absurd (q6.mpr hc) z1
            · simp only [if_neg z3, and_self]
      refine ⟨fun z1 _ z2 z3 => ?_, k1.1, ?_⟩
      · rcases hc with hc | hc
        · exact absurd ⟨z2, z3⟩ hc
        · exact absurd (by rw [h2]; exact q6.mpr hc) z1
      · rw [k1.2.1, k1.2.2]
        exact ⟨m, hm, h1, h2, h3⟩
    have pb1 : pb_X11_mast_0 n I A J t x y := fun _ _ _ q => by
      rw [h1] at q ⊢
      exact ⟨hin (e6.mp q), hin (e6.mp q)⟩
    by_cases c2 : y < 1
    · exact ⟨pb1, same (by unfold pI_X11_mast_0; rw [if_neg c1, if_pos c2]) (by unfold pA_X11_mast_0; rw [if_neg c1, if_pos c2]) (by unfold px_X11_mast_0; rw [if_neg c1, if_pos c2]) (Or.inl (fun q => q.1 c2))⟩
    · by_cases c3 : y ≤ 9
      · by_cases c4 : m < 6
        · have c5 : I 9 2 < 6 := by rw [h1]; exact e6.mpr c4
          have cl : (nI m).toNatClampNeg = m := nI_clamp (by omega)
          have b1 : pI_X11_mast_0 n I A J t x y = cw_u I 9 2 (nI (m + 1)) := by
            unfold pI_X11_mast_0 pI_X2_add_9 qI38_X2_add_9
            rw [if_neg c1, if_neg c2, if_pos c3, if_pos c5, h1, nI_1]
          have b2 : pA_X11_mast_0 n I A J t x y = cw_u (cw_u A 10 m x) 11 m y := by
            unfold pA_X11_mast_0 pA_X2_add_9 qA30_X2_add_9 qA20_X2_add_9
            rw [if_neg c1, if_neg c2, if_pos c3, if_pos c5, h1, cl]
          have b3 : px_X11_mast_0 n I A J t x y = nI m := by
            unfold px_X11_mast_0 px_X2_add_9 qI38_X2_add_9
            rw [if_neg c1, if_neg c2, if_pos c3, if_pos c5, cw_u_s, h1, nI_1, nI_pred]
          have d0 : cw_u I 9 2 (nI (m + 1)) 68 40 = nI m := by rw [cw_u_c _ _ (by decide)]; exact h2
          have d1 : ¬ cw_u I 9 2 (nI (m + 1)) 68 40 = 6 := by
            rw [d0]
            intro q
            have := q6.mp q
            omega
          have d2 := a3 (cw_u I 9 2 (nI (m + 1))) (cw_u (cw_u A 10 m x) 11 m y) (by rw [cw_u_c _ _ (by decide)])
          rw [b1, b2, b3]
          refine ⟨pb1, fun _ _ _ _ => by rw [d0]; exact ⟨hin c4, hin c4⟩, ?_, ?_⟩
          · unfold px_X12_mast_68 qI57_X12_mast_68
            rw [if_neg d1, if_neg d2, if_neg c2, if_pos c3, cw_u_s, d0, nI_1, nI_pred]
          · have f1 : pI_X12_mast_68 n (cw_u I 9 2 (nI (m + 1))) (cw_u (cw_u A 10 m x) 11 m y) J t x y = cw_u (cw_u I 9 2 (nI (m + 1))) 68 40 (nI (m + 1)) := by
              unfold pI_X12_mast_68 qI57_X12_mast_68
              rw [if_neg d1, if_neg d2, if_neg c2, if_pos c3, d0, nI_1]
            have f2 : pA_X12_mast_68 n (cw_u I 9 2 (nI (m + 1))) (cw_u (cw_u A 10 m x) 11 m y) J t x y = cw_u (cw_u (cw_u (cw_u A 10 m x) 11 m y) 92 m x) 93 m y := by
              unfold pA_X12_mast_68 qA49_X12_mast_68 qA39_X12_mast_68
              rw [if_neg d1, if_neg d2, if_neg c2, if_pos c3, d0, cl]
            rw [f1, f2]
            have hx := fun q => c1 (has5_iff.mpr q)
            refine ⟨m + 1, by omega, by rw [cw_u_c _ _ (by decide), cw_u_s], by rw [cw_u_s], fun i hi => ?_⟩
            have g5 : cw_u (cw_u I 9 2 (nI (m + 1))) 68 40 (nI (m + 1)) 5 3 = I 5 3 := by rw [cw_u_c _ _ (by decide), cw_u_c _ _ (by decide)]
            rw [g5]
            by_cases hi2 : i = m
            · subst hi2
              have y1 : (1 : Int32) ≤ y := Int32.not_lt.mp c2
              have x1 : x < I 5 3 := Int32.not_le.mp (fun q => hx (Or.inr q))
              have x0 : ¬ x < 0 := fun q => hx (Or.inl q)
              simp only [cw_u]
              simp
              exact ⟨Int32.not_lt.mp x0, x1, y1, c3⟩
            · have := h3 i (by omega)
              simp only [cw_u]
              simp [hi2]
              simpa using this
        · have c5 : ¬ I 9 2 < 6 := by rw [h1]; exact fun q => c4 (e6.mp q)
          exact ⟨pb1, same (by unfold pI_X11_mast_0 pI_X2_add_9; rw [if_neg c1, if_neg c2, if_pos c3, if_neg c5]) (by unfold pA_X11_mast_0 pA_X2_add_9; rw [if_neg c1, if_neg c2, if_pos c3, if_neg c5]) (by unfold px_X11_mast_0 px_X2_add_9; rw [if_neg c1, if_neg c2, if_pos c3, if_neg c5]) (Or.inr (by omega))⟩
      · exact ⟨pb1, same (by unfold pI_X11_mast_0; rw [if_neg c1, if_neg c2, if_neg c3]) (by unfold pA_X11_mast_0; rw [if_neg c1, if_neg c2, if_neg c3]) (by unfold px_X11_mast_0; rw [if_neg c1, if_neg c2, if_neg c3]) (Or.inl (fun q => c3 q.2))⟩
