/-! the class's parser: one token, draft 37 -/
section Re37
variable {n : Nat} {I A : Nat → Nat → Int32} {J : Nat → Nat → Int64} {t : Bool × Bool} {x : Int32}
theorem tr_37 {w σ j : Nat} {le : Int32} (hn : 2100 ≤ n) (h3 : I 33 3 = nI w) (h7 : I 37 7 = nI σ) (hw : w ≤ 22) (hs : σ + j ≤ 400) (hj : j ≤ w) (hle : q8_X4_release_33_tFx n I A J t x = le) (hp : ∀ i, i < j → ¬ rkk (A 36 (w - 1 - i)) < le) (hst : j = w ∨ rkk (A 36 (w - 1 - j)) < le) :
    pb_X4_release_33_tFx n I A J t x ∧ pI_X4_release_33_tFx n I A J t x = cw_u (cw_u I 37 7 (nI (σ + j))) 33 3 (nI (w - j)) ∧ rf 37 w σ j A (pA_X4_release_33_tFx n I A J t x) := by
  have r := rl_37 (n := n) (J := J) (t := t) hle j w σ n I A h3 h7 hw hs hj (by omega) hp hst
  unfold pb_X4_release_33_tFx pI_X4_release_33_tFx pA_X4_release_33_tFx qIw16_X4_release_33_tFx qAw16_X4_release_33_tFx q15_X4_release_33_tFx
  rw [h3]
  obtain ⟨r1, A', y, r2, r3⟩ := r
  rw [r2]
  exact ⟨r1, rfl, r3⟩
theorem tk_go_37 {s : Int32} (hs : I 33 4 = 1 ∨ I 33 4 = 2 ∨ I 33 4 = 4 ∨ I 33 4 = 6) (hx : ¬ x = 3) (hb : px_X4_stateBehind_33 n I A J (false, t.2) x = s) : pb_X4_take_33_tFx n I A J t x ∧ pI_X4_take_33_tFx n I A J t x = cw_u I 33 4 s ∧ pA_X4_take_33_tFx n I A J t x = A := by
  unfold pb_X4_take_33_tFx pI_X4_take_33_tFx pA_X4_take_33_tFx qIm84_X4_take_33_tFx qAm84_X4_take_33_tFx qIm15_X4_take_33_tFx qAm15_X4_take_33_tFx qIm28_X4_take_33_tFx qAm28_X4_take_33_tFx qIm47_X4_take_33_tFx qAm47_X4_take_33_tFx qIm60_X4_take_33_tFx qAm60_X4_take_33_tFx qIm74_X4_take_33_tFx qAm74_X4_take_33_tFx qI11_X4_take_33_tFx q4_X4_take_33_tFx
  rcases hs with h | h | h | h <;> simp [h, hx, hb]
theorem tk_rule_37 (hs : I 33 4 = 0) (hx : x = 13 ∨ x = 14) : pb_X4_take_33_tFx n I A J t x ∧ pI_X4_take_33_tFx n I A J t x = cw_u (cw_u (cw_u (cw_u (cw_u (cw_u I 33 4 1) 33 7 (if x = 14 then 1 else 0)) 33 8 0) 33 9 10000) 33 5 0) 33 6 0 ∧ pA_X4_take_33_tFx n I A J t x = A := by
  have hb : px_X4_stateBehind_33 n I A J (false, t.2) x = 1 := by
    rw [sb_0 hs]; rcases hx with h | h <;> simp [h]
  have hx3 : ¬ x = 3 := by rcases hx with h | h <;> rw [h] <;> decide
  unfold pb_X4_take_33_tFx pI_X4_take_33_tFx pA_X4_take_33_tFx qIm84_X4_take_33_tFx qAm84_X4_take_33_tFx qIm15_X4_take_33_tFx qAm15_X4_take_33_tFx q4_X4_take_33_tFx qI11_X4_take_33_tFx
  rw [hb, hs, if_neg hx3, if_neg hx3, if_pos rfl, if_pos rfl]
  refine ⟨⟨fun z => absurd rfl z, fun _ => ?_, fun z => absurd z hx3⟩, rfl, rfl⟩
  unfold pb_X4_startRule_33 qs1m4_X4_startRule_33
  rcases hx with h | h <;> rw [h] <;> decide
theorem tk_from_37 (hs : I 33 4 = 3) (hx : x = 2) : pb_X4_take_33_tFx n I A J t x ∧ pI_X4_take_33_tFx n I A J t x = cw_u (cw_u I 33 4 4) 33 8 (I 34 5) ∧ pA_X4_take_33_tFx n I A J t x = A := by
  subst hx
  have hb : px_X4_stateBehind_33 n I A J (false, t.2) 2 = 4 := by rw [sb_3 hs]; rfl
  unfold pb_X4_take_33_tFx pI_X4_take_33_tFx pA_X4_take_33_tFx qIm84_X4_take_33_tFx qAm84_X4_take_33_tFx qIm15_X4_take_33_tFx qAm15_X4_take_33_tFx qIm28_X4_take_33_tFx qAm28_X4_take_33_tFx qI39_X4_take_33_tFx q4_X4_take_33_tFx qI11_X4_take_33_tFx
  rw [hb, hs, cu_n (a := 34) (by simp)]
  simp
theorem tk_until_37 (hs : I 33 4 = 5) (hx : x = 2) : pb_X4_take_33_tFx n I A J t x ∧ pI_X4_take_33_tFx n I A J t x = cw_u (cw_u (cw_u I 33 4 6) 33 9 (I 34 5)) 33 10 (if I 33 8 < I 34 5 then I 33 10 else if I 33 10 = -1 then I 34 4 else I 33 10) ∧ pA_X4_take_33_tFx n I A J t x = A := by
  subst hx
  have hb : px_X4_stateBehind_33 n I A J (false, t.2) 2 = 6 := by rw [sb_5 hs]; rfl
  unfold pb_X4_take_33_tFx pI_X4_take_33_tFx pA_X4_take_33_tFx qIm84_X4_take_33_tFx qAm84_X4_take_33_tFx qIm15_X4_take_33_tFx qAm15_X4_take_33_tFx qIm28_X4_take_33_tFx qAm28_X4_take_33_tFx qIm47_X4_take_33_tFx qAm47_X4_take_33_tFx q4_X4_take_33_tFx qI11_X4_take_33_tFx
  rw [hb, hs]
  refine ⟨by simp, ?_, by simp⟩
  simp only [show ¬ (2 : Int32) = 3 by decide, show ¬ (5 : Int32) = 0 by decide, show ¬ (5 : Int32) = 3 by decide, if_false, if_true]
  unfold pI_X4_takeUntil_33 qIm19_X4_takeUntil_33 qIm27_X4_takeUntil_33 qI38_X4_takeUntil_33 qI8_X4_takeUntil_33
  rw [cu_n (a := 34) (b := 5) (by simp), cu_n (a := 33) (b := 10) (by simp), cu_n (a := 33) (b := 10) (by simp), cu_n (a := 33) (b := 8) (by simp), cu_n (a := 33) (b := 8) (by simp), cu_s, cu_n (a := 34) (b := 4) (by simp), cu_n (a := 34) (b := 4) (by simp)]
  split
  · rw [cw_ue _ 33 10 _ (by rw [cu_n (by simp), cu_n (by simp)])]
  · split
    · rfl
    · rw [cw_ue _ 33 10 _ (by rw [cu_n (by simp), cu_n (by simp)])]
theorem ar_37 {z : Nat} {a b c : Int32} (h8 : I 37 8 = nI z) (hz : z < 20) (ha : a = 0 ∨ a = 1) : pb_X10_addRule_37 n I A J t a b c ∧ pI_X10_addRule_37 n I A J t a b c = cw_u I 37 8 (nI (z + 1)) ∧ pA_X10_addRule_37 n I A J t a b c = cw_u (cw_u (cw_u (cw_u A 38 z a) 39 z b) 40 z c) 41 z (I 37 7) := by
  unfold pb_X10_addRule_37 pI_X10_addRule_37 pA_X10_addRule_37 qIm6_X10_addRule_37 qAm6_X10_addRule_37 qI59_X10_addRule_37 qA51_X10_addRule_37 qA38_X10_addRule_37 qA28_X10_addRule_37 qA18_X10_addRule_37
  have e : ¬ (20 : Int32) ≤ nI z := nI_ge hz (by decide)
  have v : vp_in (nI z) 20 := vp_in_nI hz (by decide)
  have na : vp_nar .boolean a = a := by rcases ha with h | h <;> rw [h] <;> rfl
  rw [h8, if_neg e, if_neg e, nI_clamp (by omega), nI_1, na]
  exact ⟨fun _ => ⟨v, v, v, v⟩, rfl, rfl⟩
theorem tk_semi_37 {z : Nat} (hs : I 33 4 = 2 ∨ I 33 4 = 4 ∨ I 33 4 = 6) (h8 : I 37 8 = nI z) (hz : z < 20) (h7 : I 33 7 = 0 ∨ I 33 7 = 1) : pb_X4_take_33_tFx n I A J t 3 ∧ pI_X4_take_33_tFx n I A J t 3 = cw_u (cw_u I 33 4 0) 37 8 (nI (z + 1)) ∧ pA_X4_take_33_tFx n I A J t 3 = cw_u (cw_u (cw_u (cw_u A 38 z (I 33 7)) 39 z (I 33 8)) 40 z (I 33 9)) 41 z (I 37 7) := by
  have hb : px_X4_stateBehind_33 n I A J (false, t.2) 3 = 0 := by
    rcases hs with h | h | h
    · rw [sb_2 h]; rfl
    · rw [sb_4 h]; rfl
    · rw [sb_6 h]; rfl
  have e1 : qIm15_X4_take_33_tFx n I A J t 3 = cw_u I 33 4 0 := by
    unfold qIm15_X4_take_33_tFx qIm28_X4_take_33_tFx qIm47_X4_take_33_tFx qIm60_X4_take_33_tFx qIm74_X4_take_33_tFx qI11_X4_take_33_tFx q4_X4_take_33_tFx
    rw [hb]
    rcases hs with h | h | h <;> simp [h]
  have e2 : qAm15_X4_take_33_tFx n I A J t 3 = A := by
    unfold qAm15_X4_take_33_tFx qAm28_X4_take_33_tFx qAm47_X4_take_33_tFx qAm60_X4_take_33_tFx qAm74_X4_take_33_tFx q4_X4_take_33_tFx
    rcases hs with h | h | h <;> simp [h]
  have r := ar_37 (n := n) (I := cw_u I 33 4 0) (A := A) (J := J) (t := (false, t.2)) (z := z) (a := I 33 7) (b := I 33 8) (c := I 33 9) (by rw [cu_n (by simp)]; exact h8) hz h7
  unfold pb_X4_take_33_tFx pI_X4_take_33_tFx pA_X4_take_33_tFx qIm84_X4_take_33_tFx qAm84_X4_take_33_tFx
  rw [if_pos rfl, if_pos rfl, e1, e2, cu_n (a := 33) (b := 7) (by simp), cu_n (a := 33) (b := 8) (by simp), cu_n (a := 33) (b := 9) (by simp)]
  rw [cu_n (a := 37) (by simp)] at r
  refine ⟨⟨?_, ?_, fun _ => r.1⟩, r.2⟩
  · unfold q4_X4_take_33_tFx
    rcases hs with h | h | h <;> simp [h]
  · unfold q4_X4_take_33_tFx
    rcases hs with h | h | h <;> simp [h]
theorem tk_open_37 {w d : Nat} (hs : I 33 4 = 7) (h3 : I 33 3 = nI w) (hw : w < 22) (h5 : I 33 5 = nI d) : pb_X4_take_33_tFx n I A J t 11 ∧ pI_X4_take_33_tFx n I A J t 11 = cw_u (cw_u (cw_u I 33 4 7) 33 5 (nI (d + 1))) 33 3 (nI (w + 1)) ∧ pA_X4_take_33_tFx n I A J t 11 = cw_u A 36 w 11 := by
  have hb : px_X4_stateBehind_33 n I A J (false, t.2) 11 = 7 := by rw [sb_7 hs]; rfl
  have e : ¬ (22 : Int32) ≤ nI w := nI_ge hw (by decide)
  unfold pb_X4_take_33_tFx pI_X4_take_33_tFx pA_X4_take_33_tFx qIm84_X4_take_33_tFx qAm84_X4_take_33_tFx qIm15_X4_take_33_tFx qAm15_X4_take_33_tFx qIm28_X4_take_33_tFx qAm28_X4_take_33_tFx qIm47_X4_take_33_tFx qAm47_X4_take_33_tFx qIm60_X4_take_33_tFx qAm60_X4_take_33_tFx q4_X4_take_33_tFx qI11_X4_take_33_tFx
  rw [hb, hs]
  simp only [show ¬ (11 : Int32) = 3 by decide, show ¬ (7 : Int32) = 0 by decide, show ¬ (7 : Int32) = 3 by decide, show ¬ (7 : Int32) = 5 by decide, if_false, if_true, not_true, not_false_eq_true, false_implies, true_implies, true_and, and_true]
  unfold pb_X4_takeUnit_33_tFx pI_X4_takeUnit_33_tFx pA_X4_takeUnit_33_tFx qIm3_X4_takeUnit_33_tFx qAm3_X4_takeUnit_33_tFx pb_X4_putOff_33 pI_X4_putOff_33 pA_X4_putOff_33 qIm6_X4_putOff_33 qAm6_X4_putOff_33 qI26_X4_putOff_33 qA18_X4_putOff_33 qI13_X4_takeUnit_33_tFx
  rw [if_pos rfl, if_pos rfl, cu_n (a := 33) (b := 3) (by simp), cu_n (a := 33) (b := 3) (by simp), cu_n (a := 33) (b := 5) (by simp), h3, h5, if_neg e, if_neg e, nI_clamp (by omega), nI_1, nI_1]
  exact ⟨⟨fun z => absurd rfl z, fun _ _ => vp_in_nI hw (by decide)⟩, rfl, rfl⟩
theorem tk_unit_37 {σ : Nat} (hs : I 33 4 = 7) (hx : ¬ x = 11) (hx3 : ¬ x = 3) (hb : px_X4_stateBehind_33 n I A J (false, t.2) x = 8) (h7 : I 37 7 = nI σ) (hs4 : σ < 400) : pb_X4_take_33_tFx n I A J t x ∧ pI_X4_take_33_tFx n I A J t x = cw_u (cw_u I 33 4 8) 37 7 (nI (σ + 1)) ∧ pA_X4_take_33_tFx n I A J t x = cw_u (cw_u A 42 σ x) 43 σ (I 34 5) := by
  have r := ad_37 (n := n) (I := cw_u I 33 4 8) (A := A) (J := J) (t := (false, t.2)) (σ := σ) (a := x) (b := I 34 5) (by rw [cu_n (by simp)]; exact h7) hs4
  unfold pb_X4_take_33_tFx pI_X4_take_33_tFx pA_X4_take_33_tFx qIm84_X4_take_33_tFx qAm84_X4_take_33_tFx qIm15_X4_take_33_tFx qAm15_X4_take_33_tFx qIm28_X4_take_33_tFx qAm28_X4_take_33_tFx qIm47_X4_take_33_tFx qAm47_X4_take_33_tFx qIm60_X4_take_33_tFx qAm60_X4_take_33_tFx q4_X4_take_33_tFx qI11_X4_take_33_tFx
  rw [hb, hs]
  simp only [hx3, show ¬ (7 : Int32) = 0 by decide, show ¬ (7 : Int32) = 3 by decide, show ¬ (7 : Int32) = 5 by decide, if_false, if_true, not_true, not_false_eq_true, false_implies, true_implies, true_and, and_true]
  unfold pb_X4_takeUnit_33_tFx pI_X4_takeUnit_33_tFx pA_X4_takeUnit_33_tFx qIm3_X4_takeUnit_33_tFx qAm3_X4_takeUnit_33_tFx
  rw [if_neg hx, if_neg hx, cu_n (a := 34) (b := 5) (by simp)]
  exact ⟨⟨fun _ => r.1, fun z => absurd z hx⟩, r.2.1, r.2.2⟩
end Re37
