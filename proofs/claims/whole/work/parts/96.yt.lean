/-! a rule on both sides -/
theorem WQ_le {T : Nat → Int32} {L k k' : Nat} {wr a b : Int32} (h : k ≤ k') (H : WQ T L k wr a b) : WQ T L k' wr a b := by
  rcases H with y | ⟨y1, q, y2, y3⟩
  · exact Or.inl y
  · exact Or.inr ⟨y1, q, by omega, y3⟩
section Tr
variable {c n L C v R p0 z ks k s fa q : Nat} {T : Nat → Int32} {th fi be wr x1 : Int32} {I0 A0 Is As A2s I A I2 A2 A1 A3 I3 : Nat → Nat → Int32} {J J2 : Nat → Nat → Int64} {t t2 : Bool × Bool} {x qq : Nat → Nat}
theorem tc_1 : (pI_X12_must_68 n (qIm220_X12_tellRule_68 n I2 A2s J2 t2) (qAm220_X12_tellRule_68 n I2 A2s J2 t2) J2 t2 4) = tlI n (pI_X12_must_68 n (pI_X12_next_68 n (qIm6_X12_tellRule_68 n I2 A2s J2 t2) (qA82_X12_tellRule_68 n I2 A2s J2 t2) J2 t2) (qA82_X12_tellRule_68 n I2 A2s J2 t2) J2 t2 22) (qA106_X12_tellRule_68 n I2 A2s J2 t2) J2 t2 ∧ (if (pI_X12_must_68 n (qIm220_X12_tellRule_68 n I2 A2s J2 t2) (qAm220_X12_tellRule_68 n I2 A2s J2 t2) J2 t2 4) 68 13 ≤ 0 then (qA307_X12_tellRule_68 n I2 A2s J2 t2) else (qAm220_X12_tellRule_68 n I2 A2s J2 t2)) = tlA n (pI_X12_must_68 n (pI_X12_next_68 n (qIm6_X12_tellRule_68 n I2 A2s J2 t2) (qA82_X12_tellRule_68 n I2 A2s J2 t2) J2 t2) (qA82_X12_tellRule_68 n I2 A2s J2 t2) J2 t2 22) (qA106_X12_tellRule_68 n I2 A2s J2 t2) J2 t2 ∧ (tlb n (pI_X12_must_68 n (pI_X12_next_68 n (qIm6_X12_tellRule_68 n I2 A2s J2 t2) (qA82_X12_tellRule_68 n I2 A2s J2 t2) J2 t2) (qA82_X12_tellRule_68 n I2 A2s J2 t2) J2 t2 22) (qA106_X12_tellRule_68 n I2 A2s J2 t2) J2 t2 → pb_X12_is_68 n (pI_X12_must_68 n (pI_X12_next_68 n (qIm6_X12_tellRule_68 n I2 A2s J2 t2) (qA82_X12_tellRule_68 n I2 A2s J2 t2) J2 t2) (qA82_X12_tellRule_68 n I2 A2s J2 t2) J2 t2 22) (qA106_X12_tellRule_68 n I2 A2s J2 t2) J2 t2 25 ∧ (¬ px_X12_is_68 n (pI_X12_must_68 n (pI_X12_next_68 n (qIm6_X12_tellRule_68 n I2 A2s J2 t2) (qA82_X12_tellRule_68 n I2 A2s J2 t2) J2 t2) (qA82_X12_tellRule_68 n I2 A2s J2 t2) J2 t2 22) (qA106_X12_tellRule_68 n I2 A2s J2 t2) J2 t2 25 = 0 → pb_X12_next_68 n (pI_X12_must_68 n (pI_X12_next_68 n (qIm6_X12_tellRule_68 n I2 A2s J2 t2) (qA82_X12_tellRule_68 n I2 A2s J2 t2) J2 t2) (qA82_X12_tellRule_68 n I2 A2s J2 t2) J2 t2 22) (qA106_X12_tellRule_68 n I2 A2s J2 t2) J2 t2 ∧ pb_X12_relation_68 n (pI_X12_next_68 n (pI_X12_must_68 n (pI_X12_next_68 n (qIm6_X12_tellRule_68 n I2 A2s J2 t2) (qA82_X12_tellRule_68 n I2 A2s J2 t2) J2 t2) (qA82_X12_tellRule_68 n I2 A2s J2 t2) J2 t2 22) (qA106_X12_tellRule_68 n I2 A2s J2 t2) J2 t2) (qA106_X12_tellRule_68 n I2 A2s J2 t2) J2 t2 ∧ lb_X12_tellRule_68_231 n I2 A2s J2 t2 n (pI_X12_relation_68 n (pI_X12_next_68 n (pI_X12_must_68 n (pI_X12_next_68 n (qIm6_X12_tellRule_68 n I2 A2s J2 t2) (qA82_X12_tellRule_68 n I2 A2s J2 t2) J2 t2) (qA82_X12_tellRule_68 n I2 A2s J2 t2) J2 t2 22) (qA106_X12_tellRule_68 n I2 A2s J2 t2) J2 t2) (qA106_X12_tellRule_68 n I2 A2s J2 t2) J2 t2) (pA_X12_relation_68 n (pI_X12_next_68 n (pI_X12_must_68 n (pI_X12_next_68 n (qIm6_X12_tellRule_68 n I2 A2s J2 t2) (qA82_X12_tellRule_68 n I2 A2s J2 t2) J2 t2) (qA82_X12_tellRule_68 n I2 A2s J2 t2) J2 t2 22) (qA106_X12_tellRule_68 n I2 A2s J2 t2) J2 t2) (qA106_X12_tellRule_68 n I2 A2s J2 t2) J2 t2)) ∧ pb_X12_must_68 n (qIm220_X12_tellRule_68 n I2 A2s J2 t2) (qAm220_X12_tellRule_68 n I2 A2s J2 t2) J2 t2 4 ∧ ((pI_X12_must_68 n (qIm220_X12_tellRule_68 n I2 A2s J2 t2) (qAm220_X12_tellRule_68 n I2 A2s J2 t2) J2 t2 4) 68 13 ≤ 0 → vp_in ((pI_X12_must_68 n (qIm220_X12_tellRule_68 n I2 A2s J2 t2) (qAm220_X12_tellRule_68 n I2 A2s J2 t2) J2 t2 4) 68 19) 2 ∧ vp_in ((pI_X12_must_68 n (qIm220_X12_tellRule_68 n I2 A2s J2 t2) (qAm220_X12_tellRule_68 n I2 A2s J2 t2) J2 t2 4) 68 19) 2 ∧ vp_in ((pI_X12_must_68 n (qIm220_X12_tellRule_68 n I2 A2s J2 t2) (qAm220_X12_tellRule_68 n I2 A2s J2 t2) J2 t2 4) 68 19) 2 ∧ vp_in ((pI_X12_must_68 n (qIm220_X12_tellRule_68 n I2 A2s J2 t2) (qAm220_X12_tellRule_68 n I2 A2s J2 t2) J2 t2 4) 68 19) 2 ∧ vp_in (((21 : Int32) * ((pI_X12_must_68 n (qIm220_X12_tellRule_68 n I2 A2s J2 t2) (qAm220_X12_tellRule_68 n I2 A2s J2 t2) J2 t2 4) 68 19)) + ((qA276_X12_tellRule_68 n I2 A2s J2 t2) 76 ((pI_X12_must_68 n (qIm220_X12_tellRule_68 n I2 A2s J2 t2) (qAm220_X12_tellRule_68 n I2 A2s J2 t2) J2 t2 4) 68 19).toNatClampNeg)) 42)) := by
  have a : (qIm220_X12_tellRule_68 n I2 A2s J2 t2) = tlJ n (pI_X12_must_68 n (pI_X12_next_68 n (qIm6_X12_tellRule_68 n I2 A2s J2 t2) (qA82_X12_tellRule_68 n I2 A2s J2 t2) J2 t2) (qA82_X12_tellRule_68 n I2 A2s J2 t2) J2 t2 22) (qA106_X12_tellRule_68 n I2 A2s J2 t2) J2 t2 := by
    unfold qIm220_X12_tellRule_68 qIw231_X12_tellRule_68 tlJ
    rw [lq_1]
  have b : (qAm220_X12_tellRule_68 n I2 A2s J2 t2) = tlB n (pI_X12_must_68 n (pI_X12_next_68 n (qIm6_X12_tellRule_68 n I2 A2s J2 t2) (qA82_X12_tellRule_68 n I2 A2s J2 t2) J2 t2) (qA82_X12_tellRule_68 n I2 A2s J2 t2) J2 t2 22) (qA106_X12_tellRule_68 n I2 A2s J2 t2) J2 t2 := by
    unfold qAm220_X12_tellRule_68 qAw231_X12_tellRule_68 tlB
    rw [lq_1]
  have m : (pI_X12_must_68 n (qIm220_X12_tellRule_68 n I2 A2s J2 t2) (qAm220_X12_tellRule_68 n I2 A2s J2 t2) J2 t2 4) = tlI n (pI_X12_must_68 n (pI_X12_next_68 n (qIm6_X12_tellRule_68 n I2 A2s J2 t2) (qA82_X12_tellRule_68 n I2 A2s J2 t2) J2 t2) (qA82_X12_tellRule_68 n I2 A2s J2 t2) J2 t2 22) (qA106_X12_tellRule_68 n I2 A2s J2 t2) J2 t2 := by
    rw [a, b]; rfl
  have e : (qA276_X12_tellRule_68 n I2 A2s J2 t2) = tlC n (pI_X12_must_68 n (pI_X12_next_68 n (qIm6_X12_tellRule_68 n I2 A2s J2 t2) (qA82_X12_tellRule_68 n I2 A2s J2 t2) J2 t2) (qA82_X12_tellRule_68 n I2 A2s J2 t2) J2 t2 22) (qA106_X12_tellRule_68 n I2 A2s J2 t2) J2 t2 := by
    unfold qA276_X12_tellRule_68
    rw [m, b]; rfl
  have d : (if (pI_X12_must_68 n (qIm220_X12_tellRule_68 n I2 A2s J2 t2) (qAm220_X12_tellRule_68 n I2 A2s J2 t2) J2 t2 4) 68 13 ≤ 0 then (qA307_X12_tellRule_68 n I2 A2s J2 t2) else (qAm220_X12_tellRule_68 n I2 A2s J2 t2)) = tlA n (pI_X12_must_68 n (pI_X12_next_68 n (qIm6_X12_tellRule_68 n I2 A2s J2 t2) (qA82_X12_tellRule_68 n I2 A2s J2 t2) J2 t2) (qA82_X12_tellRule_68 n I2 A2s J2 t2) J2 t2 22) (qA106_X12_tellRule_68 n I2 A2s J2 t2) J2 t2 := by
    unfold qA307_X12_tellRule_68
    rw [m, e, b]; rfl
  refine ⟨m, d, fun h => ?_⟩
  obtain ⟨h1, h2, h3, h4⟩ := h
  rw [m, e, a, b]
  exact ⟨h1, fun y => ⟨(h2 y).1, (h2 y).2.1, lqb_1 _ _ _ (h2 y).2.2⟩, h3, fun y => ⟨(h4 y).1, (h4 y).1, (h4 y).1, (h4 y).1, (h4 y).2⟩⟩
theorem tc_2 : (pI_X12_must_68 n (qIm220_3_X12_tellRule_68 n I2 A2s J2 t2) (qAm220_4_X12_tellRule_68 n I2 A2s J2 t2) J2 t2 4) = tlI n (qIm205_X12_tellRule_68 n I2 A2s J2 t2) (qA192_X12_tellRule_68 n I2 A2s J2 t2) J2 t2 ∧ (if (pI_X12_must_68 n (qIm220_3_X12_tellRule_68 n I2 A2s J2 t2) (qAm220_4_X12_tellRule_68 n I2 A2s J2 t2) J2 t2 4) 68 13 ≤ 0 then (qA307_6_X12_tellRule_68 n I2 A2s J2 t2) else (qAm220_4_X12_tellRule_68 n I2 A2s J2 t2)) = tlA n (qIm205_X12_tellRule_68 n I2 A2s J2 t2) (qA192_X12_tellRule_68 n I2 A2s J2 t2) J2 t2 ∧ (tlb n (qIm205_X12_tellRule_68 n I2 A2s J2 t2) (qA192_X12_tellRule_68 n I2 A2s J2 t2) J2 t2 → pb_X12_is_68 n (qIm205_X12_tellRule_68 n I2 A2s J2 t2) (qA192_X12_tellRule_68 n I2 A2s J2 t2) J2 t2 25 ∧ (¬ px_X12_is_68 n (qIm205_X12_tellRule_68 n I2 A2s J2 t2) (qA192_X12_tellRule_68 n I2 A2s J2 t2) J2 t2 25 = 0 → pb_X12_next_68 n (qIm205_X12_tellRule_68 n I2 A2s J2 t2) (qA192_X12_tellRule_68 n I2 A2s J2 t2) J2 t2 ∧ pb_X12_relation_68 n (pI_X12_next_68 n (qIm205_X12_tellRule_68 n I2 A2s J2 t2) (qA192_X12_tellRule_68 n I2 A2s J2 t2) J2 t2) (qA192_X12_tellRule_68 n I2 A2s J2 t2) J2 t2 ∧ lb_X12_tellRule_68_231_2 n I2 A2s J2 t2 n (pI_X12_relation_68 n (pI_X12_next_68 n (qIm205_X12_tellRule_68 n I2 A2s J2 t2) (qA192_X12_tellRule_68 n I2 A2s J2 t2) J2 t2) (qA192_X12_tellRule_68 n I2 A2s J2 t2) J2 t2) (pA_X12_relation_68 n (pI_X12_next_68 n (qIm205_X12_tellRule_68 n I2 A2s J2 t2) (qA192_X12_tellRule_68 n I2 A2s J2 t2) J2 t2) (qA192_X12_tellRule_68 n I2 A2s J2 t2) J2 t2)) ∧ pb_X12_must_68 n (qIm220_3_X12_tellRule_68 n I2 A2s J2 t2) (qAm220_4_X12_tellRule_68 n I2 A2s J2 t2) J2 t2 4 ∧ ((pI_X12_must_68 n (qIm220_3_X12_tellRule_68 n I2 A2s J2 t2) (qAm220_4_X12_tellRule_68 n I2 A2s J2 t2) J2 t2 4) 68 13 ≤ 0 → vp_in ((pI_X12_must_68 n (qIm220_3_X12_tellRule_68 n I2 A2s J2 t2) (qAm220_4_X12_tellRule_68 n I2 A2s J2 t2) J2 t2 4) 68 19) 2 ∧ vp_in ((pI_X12_must_68 n (qIm220_3_X12_tellRule_68 n I2 A2s J2 t2) (qAm220_4_X12_tellRule_68 n I2 A2s J2 t2) J2 t2 4) 68 19) 2 ∧ vp_in ((pI_X12_must_68 n (qIm220_3_X12_tellRule_68 n I2 A2s J2 t2) (qAm220_4_X12_tellRule_68 n I2 A2s J2 t2) J2 t2 4) 68 19) 2 ∧ vp_in ((pI_X12_must_68 n (qIm220_3_X12_tellRule_68 n I2 A2s J2 t2) (qAm220_4_X12_tellRule_68 n I2 A2s J2 t2) J2 t2 4) 68 19) 2 ∧ vp_in (((21 : Int32) * ((pI_X12_must_68 n (qIm220_3_X12_tellRule_68 n I2 A2s J2 t2) (qAm220_4_X12_tellRule_68 n I2 A2s J2 t2) J2 t2 4) 68 19)) + ((qA276_5_X12_tellRule_68 n I2 A2s J2 t2) 76 ((pI_X12_must_68 n (qIm220_3_X12_tellRule_68 n I2 A2s J2 t2) (qAm220_4_X12_tellRule_68 n I2 A2s J2 t2) J2 t2 4) 68 19).toNatClampNeg)) 42)) := by
  have a : (qIm220_3_X12_tellRule_68 n I2 A2s J2 t2) = tlJ n (qIm205_X12_tellRule_68 n I2 A2s J2 t2) (qA192_X12_tellRule_68 n I2 A2s J2 t2) J2 t2 := by
    unfold qIm220_3_X12_tellRule_68 qIw231_1_X12_tellRule_68 tlJ
    rw [lq_2]
  have b : (qAm220_4_X12_tellRule_68 n I2 A2s J2 t2) = tlB n (qIm205_X12_tellRule_68 n I2 A2s J2 t2) (qA192_X12_tellRule_68 n I2 A2s J2 t2) J2 t2 := by
    unfold qAm220_4_X12_tellRule_68 qAw231_2_X12_tellRule_68 tlB
    rw [lq_2]
  have m : (pI_X12_must_68 n (qIm220_3_X12_tellRule_68 n I2 A2s J2 t2) (qAm220_4_X12_tellRule_68 n I2 A2s J2 t2) J2 t2 4) = tlI n (qIm205_X12_tellRule_68 n I2 A2s J2 t2) (qA192_X12_tellRule_68 n I2 A2s J2 t2) J2 t2 := by
    rw [a, b]; rfl
  have e : (qA276_5_X12_tellRule_68 n I2 A2s J2 t2) = tlC n (qIm205_X12_tellRule_68 n I2 A2s J2 t2) (qA192_X12_tellRule_68 n I2 A2s J2 t2) J2 t2 := by
    unfold qA276_5_X12_tellRule_68
    rw [m, b]; rfl
  have d : (if (pI_X12_must_68 n (qIm220_3_X12_tellRule_68 n I2 A2s J2 t2) (qAm220_4_X12_tellRule_68 n I2 A2s J2 t2) J2 t2 4) 68 13 ≤ 0 then (qA307_6_X12_tellRule_68 n I2 A2s J2 t2) else (qAm220_4_X12_tellRule_68 n I2 A2s J2 t2)) = tlA n (qIm205_X12_tellRule_68 n I2 A2s J2 t2) (qA192_X12_tellRule_68 n I2 A2s J2 t2) J2 t2 := by
    unfold qA307_6_X12_tellRule_68
    rw [m, e, b]; rfl
  refine ⟨m, d, fun h => ?_⟩
  obtain ⟨h1, h2, h3, h4⟩ := h
  rw [m, e, a, b]
  exact ⟨h1, fun y => ⟨(h2 y).1, (h2 y).2.1, lqb_2 _ _ _ (h2 y).2.2⟩, h3, fun y => ⟨(h4 y).1, (h4 y).1, (h4 y).1, (h4 y).1, (h4 y).2⟩⟩
theorem tc_3 : (pI_X12_must_68 n (qIm220_9_X12_tellRule_68 n I2 A2s J2 t2) (qAm220_10_X12_tellRule_68 n I2 A2s J2 t2) J2 t2 4) = tlI n (pI_X12_must_68 n (pI_X12_next_68 n (pI_X12_must_68 n (pI_X12_next_68 n (qIm6_X12_tellRule_68 n I2 A2s J2 t2) (qA82_X12_tellRule_68 n I2 A2s J2 t2) J2 t2) (qA82_X12_tellRule_68 n I2 A2s J2 t2) J2 t2 22) (qA106_X12_tellRule_68 n I2 A2s J2 t2) J2 t2) (qA106_X12_tellRule_68 n I2 A2s J2 t2) J2 t2 2) (qA149_X12_tellRule_68 n I2 A2s J2 t2) J2 t2 ∧ (if (pI_X12_must_68 n (qIm220_9_X12_tellRule_68 n I2 A2s J2 t2) (qAm220_10_X12_tellRule_68 n I2 A2s J2 t2) J2 t2 4) 68 13 ≤ 0 then (qA307_12_X12_tellRule_68 n I2 A2s J2 t2) else (qAm220_10_X12_tellRule_68 n I2 A2s J2 t2)) = tlA n (pI_X12_must_68 n (pI_X12_next_68 n (pI_X12_must_68 n (pI_X12_next_68 n (qIm6_X12_tellRule_68 n I2 A2s J2 t2) (qA82_X12_tellRule_68 n I2 A2s J2 t2) J2 t2) (qA82_X12_tellRule_68 n I2 A2s J2 t2) J2 t2 22) (qA106_X12_tellRule_68 n I2 A2s J2 t2) J2 t2) (qA106_X12_tellRule_68 n I2 A2s J2 t2) J2 t2 2) (qA149_X12_tellRule_68 n I2 A2s J2 t2) J2 t2 ∧ (tlb n (pI_X12_must_68 n (pI_X12_next_68 n (pI_X12_must_68 n (pI_X12_next_68 n (qIm6_X12_tellRule_68 n I2 A2s J2 t2) (qA82_X12_tellRule_68 n I2 A2s J2 t2) J2 t2) (qA82_X12_tellRule_68 n I2 A2s J2 t2) J2 t2 22) (qA106_X12_tellRule_68 n I2 A2s J2 t2) J2 t2) (qA106_X12_tellRule_68 n I2 A2s J2 t2) J2 t2 2) (qA149_X12_tellRule_68 n I2 A2s J2 t2) J2 t2 → pb_X12_is_68 n (pI_X12_must_68 n (pI_X12_next_68 n (pI_X12_must_68 n (pI_X12_next_68 n (qIm6_X12_tellRule_68 n I2 A2s J2 t2) (qA82_X12_tellRule_68 n I2 A2s J2 t2) J2 t2) (qA82_X12_tellRule_68 n I2 A2s J2 t2) J2 t2 22) (qA106_X12_tellRule_68 n I2 A2s J2 t2) J2 t2) (qA106_X12_tellRule_68 n I2 A2s J2 t2) J2 t2 2) (qA149_X12_tellRule_68 n I2 A2s J2 t2) J2 t2 25 ∧ (¬ px_X12_is_68 n (pI_X12_must_68 n (pI_X12_next_68 n (pI_X12_must_68 n (pI_X12_next_68 n (qIm6_X12_tellRule_68 n I2 A2s J2 t2) (qA82_X12_tellRule_68 n I2 A2s J2 t2) J2 t2) (qA82_X12_tellRule_68 n I2 A2s J2 t2) J2 t2 22) (qA106_X12_tellRule_68 n I2 A2s J2 t2) J2 t2) (qA106_X12_tellRule_68 n I2 A2s J2 t2) J2 t2 2) (qA149_X12_tellRule_68 n I2 A2s J2 t2) J2 t2 25 = 0 → pb_X12_next_68 n (pI_X12_must_68 n (pI_X12_next_68 n (pI_X12_must_68 n (pI_X12_next_68 n (qIm6_X12_tellRule_68 n I2 A2s J2 t2) (qA82_X12_tellRule_68 n I2 A2s J2 t2) J2 t2) (qA82_X12_tellRule_68 n I2 A2s J2 t2) J2 t2 22) (qA106_X12_tellRule_68 n I2 A2s J2 t2) J2 t2) (qA106_X12_tellRule_68 n I2 A2s J2 t2) J2 t2 2) (qA149_X12_tellRule_68 n I2 A2s J2 t2) J2 t2 ∧ pb_X12_relation_68 n (pI_X12_next_68 n (pI_X12_must_68 n (pI_X12_next_68 n (pI_X12_must_68 n (pI_X12_next_68 n (qIm6_X12_tellRule_68 n I2 A2s J2 t2) (qA82_X12_tellRule_68 n I2 A2s J2 t2) J2 t2) (qA82_X12_tellRule_68 n I2 A2s J2 t2) J2 t2 22) (qA106_X12_tellRule_68 n I2 A2s J2 t2) J2 t2) (qA106_X12_tellRule_68 n I2 A2s J2 t2) J2 t2 2) (qA149_X12_tellRule_68 n I2 A2s J2 t2) J2 t2) (qA149_X12_tellRule_68 n I2 A2s J2 t2) J2 t2 ∧ lb_X12_tellRule_68_231_3 n I2 A2s J2 t2 n (pI_X12_relation_68 n (pI_X12_next_68 n (pI_X12_must_68 n (pI_X12_next_68 n (pI_X12_must_68 n (pI_X12_next_68 n (qIm6_X12_tellRule_68 n I2 A2s J2 t2) (qA82_X12_tellRule_68 n I2 A2s J2 t2) J2 t2) (qA82_X12_tellRule_68 n I2 A2s J2 t2) J2 t2 22) (qA106_X12_tellRule_68 n I2 A2s J2 t2) J2 t2) (qA106_X12_tellRule_68 n I2 A2s J2 t2) J2 t2 2) (qA149_X12_tellRule_68 n I2 A2s J2 t2) J2 t2) (qA149_X12_tellRule_68 n I2 A2s J2 t2) J2 t2) (pA_X12_relation_68 n (pI_X12_next_68 n (pI_X12_must_68 n (pI_X12_next_68 n (pI_X12_must_68 n (pI_X12_next_68 n (qIm6_X12_tellRule_68 n I2 A2s J2 t2) (qA82_X12_tellRule_68 n I2 A2s J2 t2) J2 t2) (qA82_X12_tellRule_68 n I2 A2s J2 t2) J2 t2 22) (qA106_X12_tellRule_68 n I2 A2s J2 t2) J2 t2) (qA106_X12_tellRule_68 n I2 A2s J2 t2) J2 t2 2) (qA149_X12_tellRule_68 n I2 A2s J2 t2) J2 t2) (qA149_X12_tellRule_68 n I2 A2s J2 t2) J2 t2)) ∧ pb_X12_must_68 n (qIm220_9_X12_tellRule_68 n I2 A2s J2 t2) (qAm220_10_X12_tellRule_68 n I2 A2s J2 t2) J2 t2 4 ∧ ((pI_X12_must_68 n (qIm220_9_X12_tellRule_68 n I2 A2s J2 t2) (qAm220_10_X12_tellRule_68 n I2 A2s J2 t2) J2 t2 4) 68 13 ≤ 0 → vp_in ((pI_X12_must_68 n (qIm220_9_X12_tellRule_68 n I2 A2s J2 t2) (qAm220_10_X12_tellRule_68 n I2 A2s J2 t2) J2 t2 4) 68 19) 2 ∧ vp_in ((pI_X12_must_68 n (qIm220_9_X12_tellRule_68 n I2 A2s J2 t2) (qAm220_10_X12_tellRule_68 n I2 A2s J2 t2) J2 t2 4) 68 19) 2 ∧ vp_in ((pI_X12_must_68 n (qIm220_9_X12_tellRule_68 n I2 A2s J2 t2) (qAm220_10_X12_tellRule_68 n I2 A2s J2 t2) J2 t2 4) 68 19) 2 ∧ vp_in ((pI_X12_must_68 n (qIm220_9_X12_tellRule_68 n I2 A2s J2 t2) (qAm220_10_X12_tellRule_68 n I2 A2s J2 t2) J2 t2 4) 68 19) 2 ∧ vp_in (((21 : Int32) * ((pI_X12_must_68 n (qIm220_9_X12_tellRule_68 n I2 A2s J2 t2) (qAm220_10_X12_tellRule_68 n I2 A2s J2 t2) J2 t2 4) 68 19)) + ((qA276_11_X12_tellRule_68 n I2 A2s J2 t2) 76 ((pI_X12_must_68 n (qIm220_9_X12_tellRule_68 n I2 A2s J2 t2) (qAm220_10_X12_tellRule_68 n I2 A2s J2 t2) J2 t2 4) 68 19).toNatClampNeg)) 42)) := by
  have a : (qIm220_9_X12_tellRule_68 n I2 A2s J2 t2) = tlJ n (pI_X12_must_68 n (pI_X12_next_68 n (pI_X12_must_68 n (pI_X12_next_68 n (qIm6_X12_tellRule_68 n I2 A2s J2 t2) (qA82_X12_tellRule_68 n I2 A2s J2 t2) J2 t2) (qA82_X12_tellRule_68 n I2 A2s J2 t2) J2 t2 22) (qA106_X12_tellRule_68 n I2 A2s J2 t2) J2 t2) (qA106_X12_tellRule_68 n I2 A2s J2 t2) J2 t2 2) (qA149_X12_tellRule_68 n I2 A2s J2 t2) J2 t2 := by
    unfold qIm220_9_X12_tellRule_68 qIw231_7_X12_tellRule_68 tlJ
    rw [lq_3]
  have b : (qAm220_10_X12_tellRule_68 n I2 A2s J2 t2) = tlB n (pI_X12_must_68 n (pI_X12_next_68 n (pI_X12_must_68 n (pI_X12_next_68 n (qIm6_X12_tellRule_68 n I2 A2s J2 t2) (qA82_X12_tellRule_68 n I2 A2s J2 t2) J2 t2) (qA82_X12_tellRule_68 n I2 A2s J2 t2) J2 t2 22) (qA106_X12_tellRule_68 n I2 A2s J2 t2) J2 t2) (qA106_X12_tellRule_68 n I2 A2s J2 t2) J2 t2 2) (qA149_X12_tellRule_68 n I2 A2s J2 t2) J2 t2 := by
    unfold qAm220_10_X12_tellRule_68 qAw231_8_X12_tellRule_68 tlB
    rw [lq_3]
  have m : (pI_X12_must_68 n (qIm220_9_X12_tellRule_68 n I2 A2s J2 t2) (qAm220_10_X12_tellRule_68 n I2 A2s J2 t2) J2 t2 4) = tlI n (pI_X12_must_68 n (pI_X12_next_68 n (pI_X12_must_68 n (pI_X12_next_68 n (qIm6_X12_tellRule_68 n I2 A2s J2 t2) (qA82_X12_tellRule_68 n I2 A2s J2 t2) J2 t2) (qA82_X12_tellRule_68 n I2 A2s J2 t2) J2 t2 22) (qA106_X12_tellRule_68 n I2 A2s J2 t2) J2 t2) (qA106_X12_tellRule_68 n I2 A2s J2 t2) J2 t2 2) (qA149_X12_tellRule_68 n I2 A2s J2 t2) J2 t2 := by
    rw [a, b]; rfl
  have e : (qA276_11_X12_tellRule_68 n I2 A2s J2 t2) = tlC n (pI_X12_must_68 n (pI_X12_next_68 n (pI_X12_must_68 n (pI_X12_next_68 n (qIm6_X12_tellRule_68 n I2 A2s J2 t2) (qA82_X12_tellRule_68 n I2 A2s J2 t2) J2 t2) (qA82_X12_tellRule_68 n I2 A2s J2 t2) J2 t2 22) (qA106_X12_tellRule_68 n I2 A2s J2 t2) J2 t2) (qA106_X12_tellRule_68 n I2 A2s J2 t2) J2 t2 2) (qA149_X12_tellRule_68 n I2 A2s J2 t2) J2 t2 := by
    unfold qA276_11_X12_tellRule_68
    rw [m, b]; rfl
  have d : (if (pI_X12_must_68 n (qIm220_9_X12_tellRule_68 n I2 A2s J2 t2) (qAm220_10_X12_tellRule_68 n I2 A2s J2 t2) J2 t2 4) 68 13 ≤ 0 then (qA307_12_X12_tellRule_68 n I2 A2s J2 t2) else (qAm220_10_X12_tellRule_68 n I2 A2s J2 t2)) = tlA n (pI_X12_must_68 n (pI_X12_next_68 n (pI_X12_must_68 n (pI_X12_next_68 n (qIm6_X12_tellRule_68 n I2 A2s J2 t2) (qA82_X12_tellRule_68 n I2 A2s J2 t2) J2 t2) (qA82_X12_tellRule_68 n I2 A2s J2 t2) J2 t2 22) (qA106_X12_tellRule_68 n I2 A2s J2 t2) J2 t2) (qA106_X12_tellRule_68 n I2 A2s J2 t2) J2 t2 2) (qA149_X12_tellRule_68 n I2 A2s J2 t2) J2 t2 := by
    unfold qA307_12_X12_tellRule_68
    rw [m, e, b]; rfl
  refine ⟨m, d, fun h => ?_⟩
  obtain ⟨h1, h2, h3, h4⟩ := h
  rw [m, e, a, b]
  exact ⟨h1, fun y => ⟨(h2 y).1, (h2 y).2.1, lqb_3 _ _ _ (h2 y).2.2⟩, h3, fun y => ⟨(h4 y).1, (h4 y).1, (h4 y).1, (h4 y).1, (h4 y).2⟩⟩
theorem tc_4 : (pI_X12_must_68 n (qIm220_18_X12_tellRule_68 n I2 A2s J2 t2) (qAm220_19_X12_tellRule_68 n I2 A2s J2 t2) J2 t2 4) = tlI n (qIm205_15_X12_tellRule_68 n I2 A2s J2 t2) (qA192_14_X12_tellRule_68 n I2 A2s J2 t2) J2 t2 ∧ (if (pI_X12_must_68 n (qIm220_18_X12_tellRule_68 n I2 A2s J2 t2) (qAm220_19_X12_tellRule_68 n I2 A2s J2 t2) J2 t2 4) 68 13 ≤ 0 then (qA307_21_X12_tellRule_68 n I2 A2s J2 t2) else (qAm220_19_X12_tellRule_68 n I2 A2s J2 t2)) = tlA n (qIm205_15_X12_tellRule_68 n I2 A2s J2 t2) (qA192_14_X12_tellRule_68 n I2 A2s J2 t2) J2 t2 ∧ (tlb n (qIm205_15_X12_tellRule_68 n I2 A2s J2 t2) (qA192_14_X12_tellRule_68 n I2 A2s J2 t2) J2 t2 → pb_X12_is_68 n (qIm205_15_X12_tellRule_68 n I2 A2s J2 t2) (qA192_14_X12_tellRule_68 n I2 A2s J2 t2) J2 t2 25 ∧ (¬ px_X12_is_68 n (qIm205_15_X12_tellRule_68 n I2 A2s J2 t2) (qA192_14_X12_tellRule_68 n I2 A2s J2 t2) J2 t2 25 = 0 → pb_X12_next_68 n (qIm205_15_X12_tellRule_68 n I2 A2s J2 t2) (qA192_14_X12_tellRule_68 n I2 A2s J2 t2) J2 t2 ∧ pb_X12_relation_68 n (pI_X12_next_68 n (qIm205_15_X12_tellRule_68 n I2 A2s J2 t2) (qA192_14_X12_tellRule_68 n I2 A2s J2 t2) J2 t2) (qA192_14_X12_tellRule_68 n I2 A2s J2 t2) J2 t2 ∧ lb_X12_tellRule_68_231_4 n I2 A2s J2 t2 n (pI_X12_relation_68 n (pI_X12_next_68 n (qIm205_15_X12_tellRule_68 n I2 A2s J2 t2) (qA192_14_X12_tellRule_68 n I2 A2s J2 t2) J2 t2) (qA192_14_X12_tellRule_68 n I2 A2s J2 t2) J2 t2) (pA_X12_relation_68 n (pI_X12_next_68 n (qIm205_15_X12_tellRule_68 n I2 A2s J2 t2) (qA192_14_X12_tellRule_68 n I2 A2s J2 t2) J2 t2) (qA192_14_X12_tellRule_68 n I2 A2s J2 t2) J2 t2)) ∧ pb_X12_must_68 n (qIm220_18_X12_tellRule_68 n I2 A2s J2 t2) (qAm220_19_X12_tellRule_68 n I2 A2s J2 t2) J2 t2 4 ∧ ((pI_X12_must_68 n (qIm220_18_X12_tellRule_68 n I2 A2s J2 t2) (qAm220_19_X12_tellRule_68 n I2 A2s J2 t2) J2 t2 4) 68 13 ≤ 0 → vp_in ((pI_X12_must_68 n (qIm220_18_X12_tellRule_68 n I2 A2s J2 t2) (qAm220_19_X12_tellRule_68 n I2 A2s J2 t2) J2 t2 4) 68 19) 2 ∧ vp_in ((pI_X12_must_68 n (qIm220_18_X12_tellRule_68 n I2 A2s J2 t2) (qAm220_19_X12_tellRule_68 n I2 A2s J2 t2) J2 t2 4) 68 19) 2 ∧ vp_in ((pI_X12_must_68 n (qIm220_18_X12_tellRule_68 n I2 A2s J2 t2) (qAm220_19_X12_tellRule_68 n I2 A2s J2 t2) J2 t2 4) 68 19) 2 ∧ vp_in ((pI_X12_must_68 n (qIm220_18_X12_tellRule_68 n I2 A2s J2 t2) (qAm220_19_X12_tellRule_68 n I2 A2s J2 t2) J2 t2 4) 68 19) 2 ∧ vp_in (((21 : Int32) * ((pI_X12_must_68 n (qIm220_18_X12_tellRule_68 n I2 A2s J2 t2) (qAm220_19_X12_tellRule_68 n I2 A2s J2 t2) J2 t2 4) 68 19)) + ((qA276_20_X12_tellRule_68 n I2 A2s J2 t2) 76 ((pI_X12_must_68 n (qIm220_18_X12_tellRule_68 n I2 A2s J2 t2) (qAm220_19_X12_tellRule_68 n I2 A2s J2 t2) J2 t2 4) 68 19).toNatClampNeg)) 42)) := by
  have a : (qIm220_18_X12_tellRule_68 n I2 A2s J2 t2) = tlJ n (qIm205_15_X12_tellRule_68 n I2 A2s J2 t2) (qA192_14_X12_tellRule_68 n I2 A2s J2 t2) J2 t2 := by
    unfold qIm220_18_X12_tellRule_68 qIw231_16_X12_tellRule_68 tlJ
    rw [lq_4]
  have b : (qAm220_19_X12_tellRule_68 n I2 A2s J2 t2) = tlB n (qIm205_15_X12_tellRule_68 n I2 A2s J2 t2) (qA192_14_X12_tellRule_68 n I2 A2s J2 t2) J2 t2 := by
    unfold qAm220_19_X12_tellRule_68 qAw231_17_X12_tellRule_68 tlB
    rw [lq_4]
  have m : (pI_X12_must_68 n (qIm220_18_X12_tellRule_68 n I2 A2s J2 t2) (qAm220_19_X12_tellRule_68 n I2 A2s J2 t2) J2 t2 4) = tlI n (qIm205_15_X12_tellRule_68 n I2 A2s J2 t2) (qA192_14_X12_tellRule_68 n I2 A2s J2 t2) J2 t2 := by
    rw [a, b]; rfl
  have e : (qA276_20_X12_tellRule_68 n I2 A2s J2 t2) = tlC n (qIm205_15_X12_tellRule_68 n I2 A2s J2 t2) (qA192_14_X12_tellRule_68 n I2 A2s J2 t2) J2 t2 := by
    unfold qA276_20_X12_tellRule_68
    rw [m, b]; rfl
  have d : (if (pI_X12_must_68 n (qIm220_18_X12_tellRule_68 n I2 A2s J2 t2) (qAm220_19_X12_tellRule_68 n I2 A2s J2 t2) J2 t2 4) 68 13 ≤ 0 then (qA307_21_X12_tellRule_68 n I2 A2s J2 t2) else (qAm220_19_X12_tellRule_68 n I2 A2s J2 t2)) = tlA n (qIm205_15_X12_tellRule_68 n I2 A2s J2 t2) (qA192_14_X12_tellRule_68 n I2 A2s J2 t2) J2 t2 := by
    unfold qA307_21_X12_tellRule_68
    rw [m, e, b]; rfl
  refine ⟨m, d, fun h => ?_⟩
  obtain ⟨h1, h2, h3, h4⟩ := h
  rw [m, e, a, b]
  exact ⟨h1, fun y => ⟨(h2 y).1, (h2 y).2.1, lqb_4 _ _ _ (h2 y).2.2⟩, h3, fun y => ⟨(h4 y).1, (h4 y).1, (h4 y).1, (h4 y).1, (h4 y).2⟩⟩
theorem tr_all (hc : c = 37 ∨ c = 60) (hn : 2100 ≤ n) (hL : L ≤ 2000) (hv : v < 2) (hT : RT T L C A2s) (hk : ks < C) (hC : C0 c T L ks (p0 + R) z wr Is As) (hI : RQ v ks 0 p0 I2) (hP : PR c v z R x qq As A2s) (hx : x R = p0) (h76 : A2s 76 v = nI z) (h81 : A2s 81 v = nI R) (h4 : 4 * R ≤ ks) (hp : p0 + R ≤ ks) (hW : WQ T L ks wr (I2 68 15) (I2 68 16)) (hK0 : ¬ kK T L ks = 0) : pb_X12_tellRule_68 n I2 A2s J2 t2 ∧ (XF c n L v ks T x1 I0 A0 Is As A2s J t (pI_X12_tellRule_68 n I2 A2s J2 t2) (pA_X12_tellRule_68 n I2 A2s J2 t2) ∨ XG c n L C v z ks T x1 I0 A0 Is As A2s J t qq (pI_X12_tellRule_68 n I2 A2s J2 t2) (pA_X12_tellRule_68 n I2 A2s J2 t2)) := by
  have hk4 := (RT_k hT hk).1
  obtain ⟨-, -, -, -, -, -, -, -, hz⟩ := id hC
  have o1 : ¬ (1 : Int32) = 0 := by decide
  have i20 := rq_is (n := n) (J := J2) (t := t2) hT hk hI (μ := 13) (by decide) (by decide) (x := 20) rfl
  have i21 := rq_is (n := n) (J := J2) (t := t2) hT hk hI (μ := 14) (by decide) (by decide) (x := 21) rfl
  have e19 : I2 68 19 = nI v := hI.2.2.2.2
  have cl19 : (I2 68 19).toNatClampNeg = v := by rw [e19, nI_clamp (by omega)]
  have v19 : vp_in (I2 68 19) 2 := by rw [e19]; exact vp_in_nI hv (by decide)
  obtain ⟨pf1, mf1⟩ : pb_X12_fail_68 n I2 A2s J2 t2 1 ∧ Mq T L 1 ks (pI_X12_fail_68 n I2 A2s J2 t2 1) := rq_fail (n := n) (J := J2) (t := t2) hT hk hI (fa := 1) (Or.inl rfl)
  obtain ⟨pf2, mf2⟩ : pb_X12_fail_68 n I2 A2s J2 t2 2 ∧ Mq T L 2 ks (pI_X12_fail_68 n I2 A2s J2 t2 2) := rq_fail (n := n) (J := J2) (t := t2) hT hk hI (fa := 2) (Or.inr rfl)
  have fin : ∀ fa, (fa = 1 ∨ fa = 2) → (qIm6_X12_tellRule_68 n I2 A2s J2 t2) = pI_X12_fail_68 n I2 A2s J2 t2 (nI fa) → Mq T L fa ks (pI_X12_fail_68 n I2 A2s J2 t2 (nI fa)) → FZ z (kK T L ks) ks = fa → pb_X12_tellRule_68 n I2 A2s J2 t2 ∧ XF c n L v ks T x1 I0 A0 Is As A2s J t (pI_X12_tellRule_68 n I2 A2s J2 t2) (pA_X12_tellRule_68 n I2 A2s J2 t2) := by
    intro fa u1 u2 u3 u4
    have zf := Mq_p u3
    have eI : pI_X12_tellRule_68 n I2 A2s J2 t2 = pI_X12_fail_68 n I2 A2s J2 t2 (nI fa) := by
      unfold pI_X12_tellRule_68
      rw [u2, if_neg zf.1]
    have eA : pA_X12_tellRule_68 n I2 A2s J2 t2 = A2s := by
      unfold pA_X12_tellRule_68
      rw [u2, if_neg zf.1]
    obtain ⟨I', g1, g2, -, -⟩ := cl_stop0 (I0 := I0) (A0 := A0) (J := J) (t := t) (x1 := x1) hc hn hL hk4 hC u4 (by omega)
    refine ⟨⟨i20.1, fun _ => ⟨v19, fun _ => pf2⟩, fun _ => ⟨i21.1, fun _ => ⟨v19, fun _ => pf2⟩, fun _ => pf1⟩, fun y => absurd y (by rw [u2]; exact zf.1)⟩, fa, ks, I', As, ?_, g1, g2, ?_⟩
    · rw [eI]; exact u3
    · rw [eA]; exact FS_refl
  by_cases hK : kK T L ks = 13 ∨ kK T L ks = 14
  · have q37 : qIm37_X12_tellRule_68 n I2 A2s J2 t2 = if z = 20 then pI_X12_fail_68 n I2 A2s J2 t2 2 else I2 := by
      unfold qIm37_X12_tellRule_68
      rw [cl19, h76]
      by_cases y : z = 20
      · rw [if_pos y, y]; exact if_pos rfl
      · rw [if_neg y]
        exact if_neg (fun u => y ((nI_eq (b := 20) (by omega) (by omega)).1 u))
    have q6 : (qIm6_X12_tellRule_68 n I2 A2s J2 t2) = if z = 20 then pI_X12_fail_68 n I2 A2s J2 t2 2 else I2 := by
      unfold qIm6_X12_tellRule_68 qIm15_X12_tellRule_68
      rw [i20.2, i21.2, q37]
      rcases hK with y | y
      · rw [if_pos y, if_neg o1]
      · rw [if_neg (show ¬ kK T L ks = 13 by omega), if_pos rfl, if_pos y, if_neg o1]
    by_cases hz20 : z = 20
    · rw [if_pos hz20] at q6
      obtain ⟨w1, w2⟩ := fin 2 (Or.inr rfl) q6 mf2 (by
        unfold FZ
        rw [if_neg hK0, if_pos hK]
        by_cases y : 400 ≤ ks
        · rw [if_pos y]
        · rw [if_neg y, if_pos (by omega)])
      exact ⟨w1, Or.inl w2⟩
    · rw [if_neg hz20] at q6
      have hz' : z < 20 := by omega
      have z6 : (qIm6_X12_tellRule_68 n I2 A2s J2 t2) 68 13 ≤ 0 := by rw [q6, hI.1]; decide
      have e70 : (q70_X12_tellRule_68 n I2 A2s J2 t2) = nI (20 * v + z) := by
        unfold q70_X12_tellRule_68
        have e20 : (20 : Int32) = nI 20 := rfl
        rw [q6, e19, nI_clamp (by omega), h76, e20, pk_mul, nI_add]
      have c70 : (q70_X12_tellRule_68 n I2 A2s J2 t2).toNatClampNeg = 20 * v + z := by rw [e70, nI_clamp (by omega)]
      have v70 : vp_in (q70_X12_tellRule_68 n I2 A2s J2 t2) 40 := by rw [e70]; exact vp_in_nI (by omega) (by decide)
      have eA82 : (qA82_X12_tellRule_68 n I2 A2s J2 t2) = cw_u A2s 77 (20 * v + z) (if kK T L ks = 13 then 1 else 0) := by
        unfold qA82_X12_tellRule_68
        rw [c70, q6, i20.2]
        congr 1
        split <;> rfl
      have eA106 : (qA106_X12_tellRule_68 n I2 A2s J2 t2) = cw_u (cw_u (qA82_X12_tellRule_68 n I2 A2s J2 t2) 78 (20 * v + z) 0) 79 (20 * v + z) (-1) := by
        unfold qA106_X12_tellRule_68 qA99_X12_tellRule_68
        rw [c70]
      have H82 : HA v z A2s (qA82_X12_tellRule_68 n I2 A2s J2 t2) := by rw [eA82]; exact HA_u HA_refl (Or.inl rfl)
      have H106 : HA v z A2s (qA106_X12_tellRule_68 n I2 A2s J2 t2) := by rw [eA106]; exact HA_u (HA_u H82 (Or.inr (Or.inl rfl))) (Or.inr (Or.inr rfl))
      have T82 := HA_T H82 hT
      have T106 := HA_T H106 hT
      have r106 : RR v z (if nI (kK T L ks) = 14 then 1 else 0) 0 10000 (qA106_X12_tellRule_68 n I2 A2s J2 t2) := by
        unfold RR
        rw [eA106, cu_n (a := 77) (by omega), cu_n (a := 77) (by omega), eA82, cu_s, cu_n (a := 78) (by omega), cu_s, cu_s]
        refine ⟨?_, rfl, Or.inl ⟨rfl, rfl⟩⟩
        rcases hK with y | y
        · rw [if_pos y, y]; exact Or.inl ⟨rfl, rfl⟩
        · rw [if_neg (by omega), y]; exact Or.inr ⟨rfl, rfl⟩
      have hM1 : pb_X12_next_68 n (qIm6_X12_tellRule_68 n I2 A2s J2 t2) (qA82_X12_tellRule_68 n I2 A2s J2 t2) J2 t2 ∧ pb_X12_must_68 n (pI_X12_next_68 n (qIm6_X12_tellRule_68 n I2 A2s J2 t2) (qA82_X12_tellRule_68 n I2 A2s J2 t2) J2 t2) (qA82_X12_tellRule_68 n I2 A2s J2 t2) J2 t2 22 ∧ ((∃ fa q I' A', Mq T L fa q (pI_X12_must_68 n (pI_X12_next_68 n (qIm6_X12_tellRule_68 n I2 A2s J2 t2) (qA82_X12_tellRule_68 n I2 A2s J2 t2) J2 t2) (qA82_X12_tellRule_68 n I2 A2s J2 t2) J2 t2 22) ∧ CE c n I0 A0 J t x1 ks Is As (nI fa) I' A' ∧ I' 34 4 = nI (kP T L q)) ∨ (ks + 2 < C ∧ (∃ I', CR c n I0 A0 J t x1 ks Is As (ks + 2) I' As ∧ CI c T L (ks + 2) 2 0 (p0 + R) z 0 0 (if nI (kK T L ks) = 14 then 1 else 0) 0 10000 wr I' As) ∧ RQ v (ks + 2) 0 p0 (pI_X12_must_68 n (pI_X12_next_68 n (qIm6_X12_tellRule_68 n I2 A2s J2 t2) (qA82_X12_tellRule_68 n I2 A2s J2 t2) J2 t2) (qA82_X12_tellRule_68 n I2 A2s J2 t2) J2 t2 22) ∧ (pI_X12_must_68 n (pI_X12_next_68 n (qIm6_X12_tellRule_68 n I2 A2s J2 t2) (qA82_X12_tellRule_68 n I2 A2s J2 t2) J2 t2) (qA82_X12_tellRule_68 n I2 A2s J2 t2) J2 t2 22) 68 15 = I2 68 15 ∧ (pI_X12_must_68 n (pI_X12_next_68 n (qIm6_X12_tellRule_68 n I2 A2s J2 t2) (qA82_X12_tellRule_68 n I2 A2s J2 t2) J2 t2) (qA82_X12_tellRule_68 n I2 A2s J2 t2) J2 t2 22) 68 16 = I2 68 16)) := by
        rw [q6]
        by_cases c4 : ks = 400
        · obtain ⟨n1, n2⟩ := rq_next4 (n := n) (J := J2) (t := t2) T82 hk c4 hI
          have m := Mq_must (n := n) (A := (qA82_X12_tellRule_68 n I2 A2s J2 t2)) (J := J2) (t := t2) (x := 22) n2
          obtain ⟨I', g1, g2, -, -⟩ := cl_stop0 (fa := 2) (I0 := I0) (A0 := A0) (J := J) (t := t) (x1 := x1) hc hn hL hk4 hC (by
            unfold FZ
            rw [if_neg hK0, if_pos hK, if_pos (by omega)]) (by omega)
          refine ⟨n1, m.1, Or.inl ⟨2, ks, I', As, ?_, g1, g2⟩⟩
          rw [m.2]; exact n2
        · obtain ⟨n1, n2, n3, n4⟩ := rq_next (n := n) (A := (qA82_X12_tellRule_68 n I2 A2s J2 t2)) (J := J2) (t := t2) hI (by omega)
          have hk1 : ks + 1 < C := RT_n hT hk (by omega) hK0
          have hk14 := (RT_k hT hk1).1
          obtain ⟨I', g1, g2⟩ := cl_rule (I0 := I0) (A0 := A0) (J := J) (t := t) (x1 := x1) hc hn hL (by omega) hC hK hz'
          obtain ⟨m1, m2⟩ := rq_must (n := n) (J := J2) (t := t2) T82 hk1 n2 (μ := 15) (by decide) (by decide) (by decide) (x := 22) rfl
          refine ⟨n1, m1, ?_⟩
          have eB : sB 1 0 0 (kK T L (ks + 1)) = if kK T L (ks + 1) = 15 then 2 else 99 := rfl
          rcases m2 with ⟨u1, u2, u3, u4, u5, u6⟩ | ⟨u1, u2, u3⟩ | ⟨u1, u2⟩
          · rw [if_pos u1] at eB
            obtain ⟨I'', h1, h2⟩ := cl_go (I0 := I0) (A0 := A0) (J := J) (t := t) (x1 := x1) hc hn hL u2 g2 (Or.inl rfl) eB (by omega) ⟨by decide, by decide⟩
            exact Or.inr ⟨u3, ⟨I'', CR_trans g1 h1, h2⟩, u4, u5.trans n3, u6.trans n4⟩
          · rw [if_pos u1] at eB
            obtain ⟨I'', h1, h2⟩ := cl_stop (I0 := I0) (A0 := A0) (J := J) (t := t) (x1 := x1) hc hn hL hk14 g2 (FO_2 (by omega) (by rw [eB]; decide) u2) (Or.inr rfl)
            exact Or.inl ⟨2, ks + 1, I'', As, u3, CE_trans g1 (by omega) h1, h2⟩
          · rw [if_neg u1] at eB
            obtain ⟨I'', h1, h2⟩ := cl_stop (I0 := I0) (A0 := A0) (J := J) (t := t) (x1 := x1) hc hn hL hk14 g2 (FO_1 (Or.inr eB)) (Or.inl rfl)
            exact Or.inl ⟨1, ks + 1, I'', As, u2, CE_trans g1 (by omega) h1, h2⟩
      obtain ⟨n1, m1, hM1⟩ := hM1
      have v196 : vp_in ((qIm6_X12_tellRule_68 n I2 A2s J2 t2) 68 19) 2 := by rw [q6]; exact v19
      have p20 : pb_X12_is_68 n (qIm6_X12_tellRule_68 n I2 A2s J2 t2) A2s J2 t2 20 := by rw [q6]; exact i20.1
      rcases hM1 with ⟨fa, q, I', A', h1, h2, h3⟩ | ⟨hk2, ⟨Ic, hR2, hC2⟩, hQ2, e15, e16⟩
      · have i23 := Mq_is (n := n) (A := (qA106_X12_tellRule_68 n I2 A2s J2 t2)) (J := J2) (t := t2) (x := 23) h1
        have i24 := Mq_is (n := n) (A := (qA106_X12_tellRule_68 n I2 A2s J2 t2)) (J := J2) (t := t2) (x := 24) h1
        obtain ⟨l1, l2, l3⟩ := Mq_tl (n := n) (A2 := (qA106_X12_tellRule_68 n I2 A2s J2 t2)) (J2 := J2) (t2 := t2) h1
        have eI : pI_X12_tellRule_68 n I2 A2s J2 t2 = (pI_X12_must_68 n (pI_X12_next_68 n (qIm6_X12_tellRule_68 n I2 A2s J2 t2) (qA82_X12_tellRule_68 n I2 A2s J2 t2) J2 t2) (qA82_X12_tellRule_68 n I2 A2s J2 t2) J2 t2 22) := by
          unfold pI_X12_tellRule_68
          rw [if_pos z6, if_pos i23.2, if_pos i24.2, tc_1.1, l2]
        have eA : pA_X12_tellRule_68 n I2 A2s J2 t2 = (qA106_X12_tellRule_68 n I2 A2s J2 t2) := by
          unfold pA_X12_tellRule_68
          rw [if_pos z6, if_pos i23.2, if_pos i24.2, tc_1.2.1, l3]
        refine ⟨⟨i20.1, fun _ => ⟨v19, fun _ => pf2⟩, fun _ => ⟨i21.1, fun _ => ⟨v19, fun _ => pf2⟩, fun _ => pf1⟩, fun _ => ⟨v196, p20, v70, n1, m1, v70, v70, i23.1, fun _ => ⟨i24.1, fun _ => tc_1.2.2 l1, fun y => absurd i24.2 y⟩, fun y => absurd i23.2 y⟩⟩, Or.inl ?_⟩
        rw [eI, eA]
        exact ⟨fa, q, I', A', h1, h2, h3, HA_S hz' H106⟩
      · have hk24 := (RT_k hT hk2).1
        have i23 := rq_is (n := n) (J := J2) (t := t2) T106 hk2 hQ2 (μ := 16) (by decide) (by decide) (x := 23) rfl
        have i24 := rq_is (n := n) (J := J2) (t := t2) T106 hk2 hQ2 (μ := 17) (by decide) (by decide) (x := 24) rfl
        have hW2 : WQ T L (ks + 2) wr ((pI_X12_must_68 n (pI_X12_next_68 n (qIm6_X12_tellRule_68 n I2 A2s J2 t2) (qA82_X12_tellRule_68 n I2 A2s J2 t2) J2 t2) (qA82_X12_tellRule_68 n I2 A2s J2 t2) J2 t2 22) 68 15) ((pI_X12_must_68 n (pI_X12_next_68 n (qIm6_X12_tellRule_68 n I2 A2s J2 t2) (qA82_X12_tellRule_68 n I2 A2s J2 t2) J2 t2) (qA82_X12_tellRule_68 n I2 A2s J2 t2) J2 t2 22) 68 16) := by
          rw [e15, e16]; exact WQ_le (by omega) hW
        by_cases h16 : kK T L (ks + 2) = 16
        · rw [if_pos h16] at i23
          have n23 : ¬ px_X12_is_68 n (pI_X12_must_68 n (pI_X12_next_68 n (qIm6_X12_tellRule_68 n I2 A2s J2 t2) (qA82_X12_tellRule_68 n I2 A2s J2 t2) J2 t2) (qA82_X12_tellRule_68 n I2 A2s J2 t2) J2 t2 22) (qA106_X12_tellRule_68 n I2 A2s J2 t2) J2 t2 23 = 0 := by rw [i23.2]; exact o1
          obtain ⟨w1, w2, w3⟩ := kw_int (J2 := J2) (t2 := t2) (I0 := I0) (A0 := A0) (J := J) (t := t) (x1 := x1) hc hn hL T106 hk2 hC2 (s' := 3) (Or.inl ⟨h16, rfl, rfl⟩) hQ2
          rcases w3 with ⟨fa, q, I', A', h1, h2, h3⟩ | ⟨y1, y2, y3, y4, ⟨I', y5, y6⟩, y7, y8, y9⟩
          · have zf := Mq_p h1
            have eI : pI_X12_tellRule_68 n I2 A2s J2 t2 = (pI_X12_must_68 n (pI_X12_next_68 n (pI_X12_must_68 n (pI_X12_next_68 n (qIm6_X12_tellRule_68 n I2 A2s J2 t2) (qA82_X12_tellRule_68 n I2 A2s J2 t2) J2 t2) (qA82_X12_tellRule_68 n I2 A2s J2 t2) J2 t2 22) (qA106_X12_tellRule_68 n I2 A2s J2 t2) J2 t2) (qA106_X12_tellRule_68 n I2 A2s J2 t2) J2 t2 2) := by
              unfold pI_X12_tellRule_68
              rw [if_pos z6, if_neg n23, if_neg zf.1]
            have eA : pA_X12_tellRule_68 n I2 A2s J2 t2 = (qA106_X12_tellRule_68 n I2 A2s J2 t2) := by
              unfold pA_X12_tellRule_68
              rw [if_pos z6, if_neg n23, if_neg zf.1]
            refine ⟨⟨i20.1, fun _ => ⟨v19, fun _ => pf2⟩, fun _ => ⟨i21.1, fun _ => ⟨v19, fun _ => pf2⟩, fun _ => pf1⟩, fun _ => ⟨v196, p20, v70, n1, m1, v70, v70, i23.1, fun y => absurd y n23, fun _ => ⟨w1, w2, fun y => absurd y zf.1⟩⟩⟩, Or.inl ?_⟩
            rw [eI, eA]
            exact ⟨fa, q, I', A', h1, CE_trans hR2 (by omega) h2, h3, HA_S hz' H106⟩
          · obtain ⟨I'', g1, g2⟩ := cl_from (I0 := I0) (A0 := A0) (J := J) (t := t) (x1 := x1) hc hn hL y1 y6 y3
            have e167 : (q167_X12_tellRule_68 n I2 A2s J2 t2) = nI (ks + 2 + 1) := y4
            have v167 : vp_in (q167_X12_tellRule_68 n I2 A2s J2 t2) 403 := by rw [e167]; exact vp_in_nI (by omega) (by decide)
            have h73 : (qA106_X12_tellRule_68 n I2 A2s J2 t2) 73 (ks + 2 + 1) = kV T L (ks + 2 + 1) := (RT_k T106 (by omega)).2.2.2 y3
            have eA149 : (qA149_X12_tellRule_68 n I2 A2s J2 t2) = cw_u (qA106_X12_tellRule_68 n I2 A2s J2 t2) 78 (20 * v + z) (kV T L (ks + 2 + 1)) := by
              unfold qA149_X12_tellRule_68
              rw [c70, e167, nI_clamp (by omega), h73]
            have H149 : HA v z A2s (qA149_X12_tellRule_68 n I2 A2s J2 t2) := by rw [eA149]; exact HA_u H106 (Or.inr (Or.inl rfl))
            have T149 := HA_T H149 hT
            have r149 : RR v z (if nI (kK T L ks) = 14 then 1 else 0) (kV T L (ks + 2 + 1)) 10000 (qA149_X12_tellRule_68 n I2 A2s J2 t2) := by
              obtain ⟨a1, a2, a3⟩ := r106
              unfold RR
              rw [eA149, cu_n (a := 77) (by omega), cu_s, cu_n (a := 79) (by omega)]
              exact ⟨a1, rfl, a3⟩
            have z2 : (pI_X12_must_68 n (pI_X12_next_68 n (pI_X12_must_68 n (pI_X12_next_68 n (qIm6_X12_tellRule_68 n I2 A2s J2 t2) (qA82_X12_tellRule_68 n I2 A2s J2 t2) J2 t2) (qA82_X12_tellRule_68 n I2 A2s J2 t2) J2 t2 22) (qA106_X12_tellRule_68 n I2 A2s J2 t2) J2 t2) (qA106_X12_tellRule_68 n I2 A2s J2 t2) J2 t2 2) 68 13 ≤ 0 := by rw [y7.1]; decide
            have hR4 : CR c n I0 A0 J t x1 ks Is As (ks + 2 + 1 + 1) I'' As := CR_trans hR2 (CR_trans y5 g1)
            have hW4 : WQ T L (ks + 2 + 2) wr ((pI_X12_must_68 n (pI_X12_next_68 n (pI_X12_must_68 n (pI_X12_next_68 n (qIm6_X12_tellRule_68 n I2 A2s J2 t2) (qA82_X12_tellRule_68 n I2 A2s J2 t2) J2 t2) (qA82_X12_tellRule_68 n I2 A2s J2 t2) J2 t2 22) (qA106_X12_tellRule_68 n I2 A2s J2 t2) J2 t2) (qA106_X12_tellRule_68 n I2 A2s J2 t2) J2 t2 2) 68 15) ((pI_X12_must_68 n (pI_X12_next_68 n (pI_X12_must_68 n (pI_X12_next_68 n (qIm6_X12_tellRule_68 n I2 A2s J2 t2) (qA82_X12_tellRule_68 n I2 A2s J2 t2) J2 t2) (qA82_X12_tellRule_68 n I2 A2s J2 t2) J2 t2 22) (qA106_X12_tellRule_68 n I2 A2s J2 t2) J2 t2) (qA106_X12_tellRule_68 n I2 A2s J2 t2) J2 t2 2) 68 16) := by
              rw [y8, y9]; exact WQ_le (by omega) hW2
            have i24' := rq_is (n := n) (J := J2) (t := t2) T149 y2 y7 (μ := 17) (by decide) (by decide) (x := 24) rfl
            have hk44 := (RT_k hT y2).1
            by_cases h17 : kK T L (ks + 2 + 2) = 17
            · rw [if_pos h17] at i24'
              have n24 : ¬ px_X12_is_68 n (pI_X12_must_68 n (pI_X12_next_68 n (pI_X12_must_68 n (pI_X12_next_68 n (qIm6_X12_tellRule_68 n I2 A2s J2 t2) (qA82_X12_tellRule_68 n I2 A2s J2 t2) J2 t2) (qA82_X12_tellRule_68 n I2 A2s J2 t2) J2 t2 22) (qA106_X12_tellRule_68 n I2 A2s J2 t2) J2 t2) (qA106_X12_tellRule_68 n I2 A2s J2 t2) J2 t2 2) (qA149_X12_tellRule_68 n I2 A2s J2 t2) J2 t2 24 = 0 := by rw [i24'.2]; exact o1
              obtain ⟨f1, f2, f3⟩ := kw_int (J2 := J2) (t2 := t2) (I0 := I0) (A0 := A0) (J := J) (t := t) (x1 := x1) hc hn hL T149 y2 g2 (s' := 5) (Or.inr ⟨h17, rfl, Or.inr rfl⟩) y7
              rcases f3 with ⟨fa, q, I3', A3', h1, h2, h3⟩ | ⟨b1, b2, b3, b4, ⟨I4, b5, b6⟩, b7, b8, b9⟩
              · have zf := Mq_p h1
                have eI : pI_X12_tellRule_68 n I2 A2s J2 t2 = (pI_X12_must_68 n (pI_X12_next_68 n (pI_X12_must_68 n (pI_X12_next_68 n (pI_X12_must_68 n (pI_X12_next_68 n (qIm6_X12_tellRule_68 n I2 A2s J2 t2) (qA82_X12_tellRule_68 n I2 A2s J2 t2) J2 t2) (qA82_X12_tellRule_68 n I2 A2s J2 t2) J2 t2 22) (qA106_X12_tellRule_68 n I2 A2s J2 t2) J2 t2) (qA106_X12_tellRule_68 n I2 A2s J2 t2) J2 t2 2) (qA149_X12_tellRule_68 n I2 A2s J2 t2) J2 t2) (qA149_X12_tellRule_68 n I2 A2s J2 t2) J2 t2 2) := by
                  unfold pI_X12_tellRule_68
                  rw [if_pos z6, if_neg n23, if_pos z2, if_neg n24, if_neg zf.1]
                have eA : pA_X12_tellRule_68 n I2 A2s J2 t2 = (qA149_X12_tellRule_68 n I2 A2s J2 t2) := by
                  unfold pA_X12_tellRule_68
                  rw [if_pos z6, if_neg n23, if_pos z2, if_neg n24, if_neg zf.1]
                refine ⟨⟨i20.1, fun _ => ⟨v19, fun _ => pf2⟩, fun _ => ⟨i21.1, fun _ => ⟨v19, fun _ => pf2⟩, fun _ => pf1⟩, fun _ => ⟨v196, p20, v70, n1, m1, v70, v70, i23.1, fun y => absurd y n23, fun _ => ⟨w1, w2, fun _ => ⟨v167, v70, i24'.1, fun y => absurd y n24, fun _ => ⟨f1, f2, fun y => absurd y zf.1⟩⟩⟩⟩⟩, Or.inl ?_⟩
                rw [eI, eA]
                exact ⟨fa, q, I3', A3', h1, CE_trans hR4 (by omega) h2, h3, HA_S hz' H149⟩
              · obtain ⟨I5, k1, k2⟩ := cl_until (I0 := I0) (A0 := A0) (J := J) (t := t) (x1 := x1) hc hn hL b1 b6 b3
                have e167b : (q167_13_X12_tellRule_68 n I2 A2s J2 t2) = nI (ks + 2 + 2 + 1) := b4
                have v167b : vp_in (q167_13_X12_tellRule_68 n I2 A2s J2 t2) 403 := by rw [e167b]; exact vp_in_nI (by omega) (by decide)
                have h73b : (qA149_X12_tellRule_68 n I2 A2s J2 t2) 73 (ks + 2 + 2 + 1) = kV T L (ks + 2 + 2 + 1) := (RT_k T149 (by omega)).2.2.2 b3
                have eA192 : (qA192_14_X12_tellRule_68 n I2 A2s J2 t2) = cw_u (qA149_X12_tellRule_68 n I2 A2s J2 t2) 79 (20 * v + z) (kV T L (ks + 2 + 2 + 1)) := by
                  unfold qA192_14_X12_tellRule_68
                  rw [c70, e167b, nI_clamp (by omega), h73b]
                have H192 : HA v z A2s (qA192_14_X12_tellRule_68 n I2 A2s J2 t2) := by rw [eA192]; exact HA_u H149 (Or.inr (Or.inr rfl))
                have T192 := HA_T H192 hT
                have e78 : (qA192_14_X12_tellRule_68 n I2 A2s J2 t2) 78 (20 * v + z) = kV T L (ks + 2 + 1) := by
                  rw [eA192, cu_n (by omega), eA149, cu_s]
                have e79 : (qA192_14_X12_tellRule_68 n I2 A2s J2 t2) 79 (20 * v + z) = kV T L (ks + 2 + 2 + 1) := by rw [eA192, cu_s]
                have r192 : RR v z (if nI (kK T L ks) = 14 then 1 else 0) (kV T L (ks + 2 + 1)) (kV T L (ks + 2 + 2 + 1)) (qA192_14_X12_tellRule_68 n I2 A2s J2 t2) := by
                  obtain ⟨a1, a2, a3⟩ := r149
                  unfold RR
                  rw [e78, e79, eA192, cu_n (a := 77) (by omega)]
                  obtain ⟨mm, d1, d2⟩ := kv_n b3
                  refine ⟨a1, rfl, Or.inr ⟨fun y => ?_, rfl⟩⟩
                  have e := nI_pos (n := mm) (by omega)
                  rw [← d2, y] at e
                  exact e (by decide)
                have z4 : (pI_X12_must_68 n (pI_X12_next_68 n (pI_X12_must_68 n (pI_X12_next_68 n (pI_X12_must_68 n (pI_X12_next_68 n (qIm6_X12_tellRule_68 n I2 A2s J2 t2) (qA82_X12_tellRule_68 n I2 A2s J2 t2) J2 t2) (qA82_X12_tellRule_68 n I2 A2s J2 t2) J2 t2 22) (qA106_X12_tellRule_68 n I2 A2s J2 t2) J2 t2) (qA106_X12_tellRule_68 n I2 A2s J2 t2) J2 t2 2) (qA149_X12_tellRule_68 n I2 A2s J2 t2) J2 t2) (qA149_X12_tellRule_68 n I2 A2s J2 t2) J2 t2 2) 68 13 ≤ 0 := by rw [b7.1]; decide
                obtain ⟨s1, s2, s3⟩ := wr_step (n := n) (J2 := J2) (t2 := t2) (a := kV T L (ks + 2 + 1)) (b := kV T L (ks + 2 + 2 + 1)) T192 hL (m := ks + 2 + 2 + 1) (by omega) (show ks + 2 + 2 + 1 < ks + 2 + 2 + 2 by omega) b7 (wr := wr) (by rw [b8, b9]; exact WQ_le (by omega) hW4)
                have eW : (qIm205_15_X12_tellRule_68 n I2 A2s J2 t2) = if kV T L (ks + 2 + 1) < kV T L (ks + 2 + 2 + 1) then (pI_X12_must_68 n (pI_X12_next_68 n (pI_X12_must_68 n (pI_X12_next_68 n (pI_X12_must_68 n (pI_X12_next_68 n (qIm6_X12_tellRule_68 n I2 A2s J2 t2) (qA82_X12_tellRule_68 n I2 A2s J2 t2) J2 t2) (qA82_X12_tellRule_68 n I2 A2s J2 t2) J2 t2 22) (qA106_X12_tellRule_68 n I2 A2s J2 t2) J2 t2) (qA106_X12_tellRule_68 n I2 A2s J2 t2) J2 t2 2) (qA149_X12_tellRule_68 n I2 A2s J2 t2) J2 t2) (qA149_X12_tellRule_68 n I2 A2s J2 t2) J2 t2 2) else pI_X12_wrong_68 n (pI_X12_must_68 n (pI_X12_next_68 n (pI_X12_must_68 n (pI_X12_next_68 n (pI_X12_must_68 n (pI_X12_next_68 n (qIm6_X12_tellRule_68 n I2 A2s J2 t2) (qA82_X12_tellRule_68 n I2 A2s J2 t2) J2 t2) (qA82_X12_tellRule_68 n I2 A2s J2 t2) J2 t2 22) (qA106_X12_tellRule_68 n I2 A2s J2 t2) J2 t2) (qA106_X12_tellRule_68 n I2 A2s J2 t2) J2 t2 2) (qA149_X12_tellRule_68 n I2 A2s J2 t2) J2 t2) (qA149_X12_tellRule_68 n I2 A2s J2 t2) J2 t2 2) (qA192_14_X12_tellRule_68 n I2 A2s J2 t2) J2 t2 5 (nI (ks + 2 + 2 + 1)) := by
                  unfold qIm205_15_X12_tellRule_68
                  rw [c70, e78, e79, e167b]
                rw [← eW] at s2 s3
                have hk6 := (RT_k hT b2).1
                obtain ⟨t1, t3⟩ := tl_go (J2 := J2) (t2 := t2) (ks := ks) (Is := Is) (As := As) (A2s := A2s) (I0 := I0) (A0 := A0) (J := J) (t := t) (x1 := x1) hc hn hL hv hT b2 (by omega) (CR_trans hR4 (CR_trans b5 k1)) (Or.inr (Or.inr rfl)) k2 s2 hP hx h76 h81 (by omega) (by omega) r192 H192 s3
                have eI : pI_X12_tellRule_68 n I2 A2s J2 t2 = tlI n (qIm205_15_X12_tellRule_68 n I2 A2s J2 t2) (qA192_14_X12_tellRule_68 n I2 A2s J2 t2) J2 t2 := by
                  unfold pI_X12_tellRule_68
                  rw [if_pos z6, if_neg n23, if_pos z2, if_neg n24, if_pos z4, tc_4.1]
                have eA : pA_X12_tellRule_68 n I2 A2s J2 t2 = tlA n (qIm205_15_X12_tellRule_68 n I2 A2s J2 t2) (qA192_14_X12_tellRule_68 n I2 A2s J2 t2) J2 t2 := by
                  unfold pA_X12_tellRule_68
                  rw [if_pos z6, if_neg n23, if_pos z2, if_neg n24, if_pos z4, tc_4.2.1]
                rw [eI, eA]
                exact ⟨⟨i20.1, fun _ => ⟨v19, fun _ => pf2⟩, fun _ => ⟨i21.1, fun _ => ⟨v19, fun _ => pf2⟩, fun _ => pf1⟩, fun _ => ⟨v196, p20, v70, n1, m1, v70, v70, i23.1, fun y => absurd y n23, fun _ => ⟨w1, w2, fun _ => ⟨v167, v70, i24'.1, fun y => absurd y n24, fun _ => ⟨f1, f2, fun _ => ⟨v167b, v70, v70, v70, fun _ => by rw [e167b]; exact s1, tc_4.2.2 t1⟩⟩⟩⟩⟩⟩, t3⟩
            · rw [if_neg h17] at i24'
              obtain ⟨t1, t3⟩ := tl_go (J2 := J2) (t2 := t2) (ks := ks) (Is := Is) (As := As) (A2s := A2s) (I0 := I0) (A0 := A0) (J := J) (t := t) (x1 := x1) hc hn hL hv hT y2 (by omega) hR4 (Or.inr (Or.inl ⟨rfl, h17⟩)) g2 y7 hP hx h76 h81 (by omega) (by omega) r149 H149 hW4
              have eI : pI_X12_tellRule_68 n I2 A2s J2 t2 = tlI n (pI_X12_must_68 n (pI_X12_next_68 n (pI_X12_must_68 n (pI_X12_next_68 n (qIm6_X12_tellRule_68 n I2 A2s J2 t2) (qA82_X12_tellRule_68 n I2 A2s J2 t2) J2 t2) (qA82_X12_tellRule_68 n I2 A2s J2 t2) J2 t2 22) (qA106_X12_tellRule_68 n I2 A2s J2 t2) J2 t2) (qA106_X12_tellRule_68 n I2 A2s J2 t2) J2 t2 2) (qA149_X12_tellRule_68 n I2 A2s J2 t2) J2 t2 := by
                unfold pI_X12_tellRule_68
                rw [if_pos z6, if_neg n23, if_pos z2, if_pos i24'.2, tc_3.1]
              have eA : pA_X12_tellRule_68 n I2 A2s J2 t2 = tlA n (pI_X12_must_68 n (pI_X12_next_68 n (pI_X12_must_68 n (pI_X12_next_68 n (qIm6_X12_tellRule_68 n I2 A2s J2 t2) (qA82_X12_tellRule_68 n I2 A2s J2 t2) J2 t2) (qA82_X12_tellRule_68 n I2 A2s J2 t2) J2 t2 22) (qA106_X12_tellRule_68 n I2 A2s J2 t2) J2 t2) (qA106_X12_tellRule_68 n I2 A2s J2 t2) J2 t2 2) (qA149_X12_tellRule_68 n I2 A2s J2 t2) J2 t2 := by
                unfold pA_X12_tellRule_68
                rw [if_pos z6, if_neg n23, if_pos z2, if_pos i24'.2, tc_3.2.1]
              rw [eI, eA]
              exact ⟨⟨i20.1, fun _ => ⟨v19, fun _ => pf2⟩, fun _ => ⟨i21.1, fun _ => ⟨v19, fun _ => pf2⟩, fun _ => pf1⟩, fun _ => ⟨v196, p20, v70, n1, m1, v70, v70, i23.1, fun y => absurd y n23, fun _ => ⟨w1, w2, fun _ => ⟨v167, v70, i24'.1, fun _ => tc_3.2.2 t1, fun y => absurd i24'.2 y⟩⟩⟩⟩, t3⟩
        · rw [if_neg h16] at i23
          by_cases h17 : kK T L (ks + 2) = 17
          · rw [if_pos h17] at i24
            have n24 : ¬ px_X12_is_68 n (pI_X12_must_68 n (pI_X12_next_68 n (qIm6_X12_tellRule_68 n I2 A2s J2 t2) (qA82_X12_tellRule_68 n I2 A2s J2 t2) J2 t2) (qA82_X12_tellRule_68 n I2 A2s J2 t2) J2 t2 22) (qA106_X12_tellRule_68 n I2 A2s J2 t2) J2 t2 24 = 0 := by rw [i24.2]; exact o1
            obtain ⟨w1, w2, w3⟩ := kw_int (J2 := J2) (t2 := t2) (I0 := I0) (A0 := A0) (J := J) (t := t) (x1 := x1) hc hn hL T106 hk2 hC2 (s' := 5) (Or.inr ⟨h17, rfl, Or.inl rfl⟩) hQ2
            rcases w3 with ⟨fa, q, I', A', h1, h2, h3⟩ | ⟨b1, b2, b3, b4, ⟨I4, b5, b6⟩, b7, b8, b9⟩
            · have zf := Mq_p h1
              have eI : pI_X12_tellRule_68 n I2 A2s J2 t2 = (pI_X12_must_68 n (pI_X12_next_68 n (pI_X12_must_68 n (pI_X12_next_68 n (qIm6_X12_tellRule_68 n I2 A2s J2 t2) (qA82_X12_tellRule_68 n I2 A2s J2 t2) J2 t2) (qA82_X12_tellRule_68 n I2 A2s J2 t2) J2 t2 22) (qA106_X12_tellRule_68 n I2 A2s J2 t2) J2 t2) (qA106_X12_tellRule_68 n I2 A2s J2 t2) J2 t2 2) := by
                unfold pI_X12_tellRule_68
                rw [if_pos z6, if_pos i23.2, if_neg n24, if_neg zf.1]
              have eA : pA_X12_tellRule_68 n I2 A2s J2 t2 = (qA106_X12_tellRule_68 n I2 A2s J2 t2) := by
                unfold pA_X12_tellRule_68
                rw [if_pos z6, if_pos i23.2, if_neg n24, if_neg zf.1]
              refine ⟨⟨i20.1, fun _ => ⟨v19, fun _ => pf2⟩, fun _ => ⟨i21.1, fun _ => ⟨v19, fun _ => pf2⟩, fun _ => pf1⟩, fun _ => ⟨v196, p20, v70, n1, m1, v70, v70, i23.1, fun _ => ⟨i24.1, fun y => absurd y n24, fun _ => ⟨w1, w2, fun y => absurd y zf.1⟩⟩, fun y => absurd i23.2 y⟩⟩, Or.inl ?_⟩
              rw [eI, eA]
              exact ⟨fa, q, I', A', h1, CE_trans hR2 (by omega) h2, h3, HA_S hz' H106⟩
            · obtain ⟨I5, k1, k2⟩ := cl_until (I0 := I0) (A0 := A0) (J := J) (t := t) (x1 := x1) hc hn hL b1 b6 b3
              have e167 : (q167_X12_tellRule_68 n I2 A2s J2 t2) = nI (ks + 2 + 1) := b4
              have v167 : vp_in (q167_X12_tellRule_68 n I2 A2s J2 t2) 403 := by rw [e167]; exact vp_in_nI (by omega) (by decide)
              have h73 : (qA106_X12_tellRule_68 n I2 A2s J2 t2) 73 (ks + 2 + 1) = kV T L (ks + 2 + 1) := (RT_k T106 (by omega)).2.2.2 b3
              have eA192 : (qA192_X12_tellRule_68 n I2 A2s J2 t2) = cw_u (qA106_X12_tellRule_68 n I2 A2s J2 t2) 79 (20 * v + z) (kV T L (ks + 2 + 1)) := by
                unfold qA192_X12_tellRule_68
                rw [c70, e167, nI_clamp (by omega), h73]
              have H192 : HA v z A2s (qA192_X12_tellRule_68 n I2 A2s J2 t2) := by rw [eA192]; exact HA_u H106 (Or.inr (Or.inr rfl))
              have T192 := HA_T H192 hT
              have e78 : (qA192_X12_tellRule_68 n I2 A2s J2 t2) 78 (20 * v + z) = 0 := by
                rw [eA192, cu_n (by omega), eA106, cu_n (by omega), cu_s]
              have e79 : (qA192_X12_tellRule_68 n I2 A2s J2 t2) 79 (20 * v + z) = kV T L (ks + 2 + 1) := by rw [eA192, cu_s]
              have r192 : RR v z (if nI (kK T L ks) = 14 then 1 else 0) 0 (kV T L (ks + 2 + 1)) (qA192_X12_tellRule_68 n I2 A2s J2 t2) := by
                obtain ⟨a1, a2, a3⟩ := r106
                unfold RR
                rw [e78, e79, eA192, cu_n (a := 77) (by omega)]
                obtain ⟨mm, d1, d2⟩ := kv_n b3
                refine ⟨a1, rfl, Or.inr ⟨fun y => ?_, rfl⟩⟩
                have e := nI_pos (n := mm) (by omega)
                rw [← d2, y] at e
                exact e (by decide)
              have z2 : (pI_X12_must_68 n (pI_X12_next_68 n (pI_X12_must_68 n (pI_X12_next_68 n (qIm6_X12_tellRule_68 n I2 A2s J2 t2) (qA82_X12_tellRule_68 n I2 A2s J2 t2) J2 t2) (qA82_X12_tellRule_68 n I2 A2s J2 t2) J2 t2 22) (qA106_X12_tellRule_68 n I2 A2s J2 t2) J2 t2) (qA106_X12_tellRule_68 n I2 A2s J2 t2) J2 t2 2) 68 13 ≤ 0 := by rw [b7.1]; decide
              obtain ⟨s1, s2, s3⟩ := wr_step (n := n) (J2 := J2) (t2 := t2) (a := 0) (b := kV T L (ks + 2 + 1)) T192 hL (m := ks + 2 + 1) (by omega) (show ks + 2 + 1 < ks + 2 + 2 by omega) b7 (wr := wr) (by rw [b8, b9]; exact WQ_le (by omega) hW2)
              have eW : (qIm205_X12_tellRule_68 n I2 A2s J2 t2) = if 0 < kV T L (ks + 2 + 1) then (pI_X12_must_68 n (pI_X12_next_68 n (pI_X12_must_68 n (pI_X12_next_68 n (qIm6_X12_tellRule_68 n I2 A2s J2 t2) (qA82_X12_tellRule_68 n I2 A2s J2 t2) J2 t2) (qA82_X12_tellRule_68 n I2 A2s J2 t2) J2 t2 22) (qA106_X12_tellRule_68 n I2 A2s J2 t2) J2 t2) (qA106_X12_tellRule_68 n I2 A2s J2 t2) J2 t2 2) else pI_X12_wrong_68 n (pI_X12_must_68 n (pI_X12_next_68 n (pI_X12_must_68 n (pI_X12_next_68 n (qIm6_X12_tellRule_68 n I2 A2s J2 t2) (qA82_X12_tellRule_68 n I2 A2s J2 t2) J2 t2) (qA82_X12_tellRule_68 n I2 A2s J2 t2) J2 t2 22) (qA106_X12_tellRule_68 n I2 A2s J2 t2) J2 t2) (qA106_X12_tellRule_68 n I2 A2s J2 t2) J2 t2 2) (qA192_X12_tellRule_68 n I2 A2s J2 t2) J2 t2 5 (nI (ks + 2 + 1)) := by
                unfold qIm205_X12_tellRule_68
                rw [c70, e78, e79, e167]
              rw [← eW] at s2 s3
              have hk44 := (RT_k hT b2).1
              obtain ⟨t1, t3⟩ := tl_go (J2 := J2) (t2 := t2) (ks := ks) (Is := Is) (As := As) (A2s := A2s) (I0 := I0) (A0 := A0) (J := J) (t := t) (x1 := x1) hc hn hL hv hT b2 (by omega) (CR_trans hR2 (CR_trans b5 k1)) (Or.inr (Or.inr rfl)) k2 s2 hP hx h76 h81 (by omega) (by omega) r192 H192 s3
              have eI : pI_X12_tellRule_68 n I2 A2s J2 t2 = tlI n (qIm205_X12_tellRule_68 n I2 A2s J2 t2) (qA192_X12_tellRule_68 n I2 A2s J2 t2) J2 t2 := by
                unfold pI_X12_tellRule_68
                rw [if_pos z6, if_pos i23.2, if_neg n24, if_pos z2, tc_2.1]
              have eA : pA_X12_tellRule_68 n I2 A2s J2 t2 = tlA n (qIm205_X12_tellRule_68 n I2 A2s J2 t2) (qA192_X12_tellRule_68 n I2 A2s J2 t2) J2 t2 := by
                unfold pA_X12_tellRule_68
                rw [if_pos z6, if_pos i23.2, if_neg n24, if_pos z2, tc_2.2.1]
              rw [eI, eA]
              exact ⟨⟨i20.1, fun _ => ⟨v19, fun _ => pf2⟩, fun _ => ⟨i21.1, fun _ => ⟨v19, fun _ => pf2⟩, fun _ => pf1⟩, fun _ => ⟨v196, p20, v70, n1, m1, v70, v70, i23.1, fun _ => ⟨i24.1, fun y => absurd y n24, fun _ => ⟨w1, w2, fun _ => ⟨v167, v70, v70, v70, fun _ => by rw [e167]; exact s1, tc_2.2.2 t1⟩⟩⟩, fun y => absurd i23.2 y⟩⟩, t3⟩
          · rw [if_neg h17] at i24
            obtain ⟨t1, t3⟩ := tl_go (J2 := J2) (t2 := t2) (ks := ks) (Is := Is) (As := As) (A2s := A2s) (I0 := I0) (A0 := A0) (J := J) (t := t) (x1 := x1) hc hn hL hv hT hk2 (by omega) hR2 (Or.inl ⟨rfl, h16, h17⟩) hC2 hQ2 hP hx h76 h81 (by omega) (by omega) r106 H106 hW2
            have eI : pI_X12_tellRule_68 n I2 A2s J2 t2 = tlI n (pI_X12_must_68 n (pI_X12_next_68 n (qIm6_X12_tellRule_68 n I2 A2s J2 t2) (qA82_X12_tellRule_68 n I2 A2s J2 t2) J2 t2) (qA82_X12_tellRule_68 n I2 A2s J2 t2) J2 t2 22) (qA106_X12_tellRule_68 n I2 A2s J2 t2) J2 t2 := by
              unfold pI_X12_tellRule_68
              rw [if_pos z6, if_pos i23.2, if_pos i24.2, tc_1.1]
            have eA : pA_X12_tellRule_68 n I2 A2s J2 t2 = tlA n (pI_X12_must_68 n (pI_X12_next_68 n (qIm6_X12_tellRule_68 n I2 A2s J2 t2) (qA82_X12_tellRule_68 n I2 A2s J2 t2) J2 t2) (qA82_X12_tellRule_68 n I2 A2s J2 t2) J2 t2 22) (qA106_X12_tellRule_68 n I2 A2s J2 t2) J2 t2 := by
              unfold pA_X12_tellRule_68
              rw [if_pos z6, if_pos i23.2, if_pos i24.2, tc_1.2.1]
            rw [eI, eA]
            exact ⟨⟨i20.1, fun _ => ⟨v19, fun _ => pf2⟩, fun _ => ⟨i21.1, fun _ => ⟨v19, fun _ => pf2⟩, fun _ => pf1⟩, fun _ => ⟨v196, p20, v70, n1, m1, v70, v70, i23.1, fun _ => ⟨i24.1, fun _ => tc_1.2.2 t1, fun y => absurd i24.2 y⟩, fun y => absurd i23.2 y⟩⟩, t3⟩
  · have q6 : (qIm6_X12_tellRule_68 n I2 A2s J2 t2) = pI_X12_fail_68 n I2 A2s J2 t2 1 := by
      unfold qIm6_X12_tellRule_68 qIm15_X12_tellRule_68
      rw [i20.2, i21.2, if_neg (show ¬ kK T L ks = 13 by omega), if_pos rfl, if_neg (show ¬ kK T L ks = 14 by omega), if_pos rfl]
    obtain ⟨w1, w2⟩ := fin 1 (Or.inl rfl) q6 mf1 (by
      unfold FZ
      rw [if_neg hK0, if_neg hK])
    exact ⟨w1, Or.inl w2⟩
end Tr
