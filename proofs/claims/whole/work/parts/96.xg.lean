/-! the reference's tokens: one token, and all of them -/
section Cut2
variable {n L : Nat} {I A I7 A7 : Nat → Nat → Int32} {J J7 : Nat → Nat → Int64} {t : Bool × Bool}
/-- what the loop's body does at a place p that is not blank -/
theorem cx_word {p : Nat} (hn : 2100 ≤ n) (hL : L ≤ 2000) (hp : p < L) (h4 : I7 68 4 = nI L) (hb : ∀ j, j < L → -128 ≤ (A7 70 j).toInt ∧ (A7 70 j).toInt ≤ 127) (h75 : J7 75 = cw_J0 75) (hl : tz_le (A7 70 p) = true) :
    lb_X12_cut_68_85 n I A J t I7 A7 J7 (nI p) n 0 0 ∧ (¬ 6 < q3w85_X12_cut_68 n I A J t I7 A7 J7 (nI p) → lb_X12_cut_68_146 n I A J t I7 A7 J7 (nI p) n (qs0m127_X12_cut_68 n I A J t I7 A7 J7 (nI p)) 0) ∧
    q192_X12_cut_68 n I A J t I7 A7 J7 (nI p) = nI (tz_run tz_le (A7 70) L p) ∧ cz_m (tz_wk (A7 70) p (tz_run tz_le (A7 70) L p)) (ql6m140_X12_cut_68 n I A J t I7 A7 J7 (nI p)) := by
  have rb := tz_run_b (P := tz_le) (T := A7 70) (L := L) (L - p) p (by omega)
  have r1 : p + 1 ≤ tz_run tz_le (A7 70) L p := by
    rw [tz_run_y hp hl]
    exact (tz_run_b (P := tz_le) (T := A7 70) (L := L) (L - (p + 1)) (p + 1) (by omega)).1
  have lt := cz_letters (n := n) (I := I) (A := A) (J := J) (J7 := J7) (t := t) (p := p) hL h4 hb (L - p) 0 n (by omega) (by omega)
  rw [Nat.add_zero] at lt
  generalize he : tz_run tz_le (A7 70) L p = e at *
  have l1 : lb_X12_cut_68_85 n I A J t I7 A7 J7 (nI p) n 0 0 := lt.1
  have l2 : lp_X12_cut_68_85 n I A J t I7 A7 J7 (nI p) n 0 0 = (nI (e - p), lN (cz_nm (A7 70) p (e - p))) := lt.2
  have q3 : q3w85_X12_cut_68 n I A J t I7 A7 J7 (nI p) = nI (e - p) := by unfold q3w85_X12_cut_68; rw [l2]
  have q4 : q4w85_X12_cut_68 n I A J t I7 A7 J7 (nI p) = lN (cz_nm (A7 70) p (e - p)) := by unfold q4w85_X12_cut_68; rw [l2]
  have q1 : q192_X12_cut_68 n I A J t I7 A7 J7 (nI p) = nI e := by
    unfold q192_X12_cut_68
    rw [q3, nI_add]
    congr 1; omega
  refine ⟨l1, ?_, q1, ?_⟩
  · intro c
    have c6 : e - p ≤ 6 := by
      rw [q3] at c
      exact Nat.le_of_not_lt fun z => c (nI_lt (a := 6) z (by omega))
    have q0 : qs0m127_X12_cut_68 n I A J t I7 A7 J7 (nI p) = 1 := by
      unfold qs0m127_X12_cut_68
      rw [q3]
      exact if_pos (nI_le (b := 8) (by omega) (by decide))
    have hq : q4w85_X12_cut_68 n I A J t I7 A7 J7 (nI p) = lN (kw_en (kw_t (A7 70) p) (e - p)) := by
      rw [q4]; unfold cz_nm; rw [if_pos (by omega)]
    have k := cz_kw (n := n) (I := I) (A := A) (J := J) (I7 := I7) (t := t) (p := p) (e := e) (by omega) c6 (fun i a b => rb.2.2.2 i a b) h75 hq 15 0 n (by omega) (by omega)
    rw [q0]
    exact k.1
  · unfold ql6m140_X12_cut_68 tz_wk
    rw [q3]
    by_cases c6 : 6 < e - p
    · rw [if_pos (show (6 : Int32) < nI (e - p) from nI_lt (a := 6) c6 (by omega))]
      unfold qs0m127_X12_cut_68
      rw [q3]
      by_cases c8 : e - p ≤ 8
      · rw [if_pos (show nI (e - p) ≤ (8 : Int32) from nI_le (b := 8) c8 (by decide)), if_pos c8, cx_fw7 c6 (rb.2.2.2 (p + 6) (by omega) (by omega)) 15 (by omega)]
        exact Or.inl ⟨rfl, Or.inl rfl⟩
      · rw [if_neg (show ¬ nI (e - p) ≤ (8 : Int32) from nI_ge (Nat.lt_of_not_le c8) (by omega)), if_neg c8]
        exact Or.inl ⟨rfl, Or.inr rfl⟩
    · rw [if_neg (show ¬ (6 : Int32) < nI (e - p) from nI_nlt (Nat.le_of_not_lt c6) (by decide)), if_pos (show e - p ≤ 8 by omega)]
      have q0 : qs0m127_X12_cut_68 n I A J t I7 A7 J7 (nI p) = 1 := by
        unfold qs0m127_X12_cut_68
        rw [q3]
        exact if_pos (nI_le (b := 8) (by omega) (by decide))
      have hq : q4w85_X12_cut_68 n I A J t I7 A7 J7 (nI p) = lN (kw_en (kw_t (A7 70) p) (e - p)) := by
        rw [q4]; unfold cz_nm; rw [if_pos (by omega)]
      have k := (cz_kw (n := n) (I := I) (A := A) (J := J) (I7 := I7) (t := t) (p := p) (e := e) (by omega) (by omega) (fun i a b => rb.2.2.2 i a b) h75 hq 15 0 n (by omega) (by omega)).2
      have k2 : q6w146_X12_cut_68 n I A J t I7 A7 J7 (nI p) = nI (cz_w (tz_fw (A7 70) p e 15)) := by
        unfold q6w146_X12_cut_68; rw [q0]; exact k
      rw [k2]
      unfold cz_m cz_w cz_t
      rcases cx_fw (T := A7 70) (p := p) (e := e) 15 (by omega) with z | z
      · rw [if_pos z]; exact Or.inl ⟨z, Or.inl rfl⟩
      · rw [if_neg (by omega)]
        refine Or.inr ⟨by omega, ?_⟩
        rw [if_pos z.1]
theorem cx_num {p : Nat} (hn : 2100 ≤ n) (hL : L ≤ 2000) (hp : p < L) (h4 : I7 68 4 = nI L) (hb : ∀ j, j < L → -128 ≤ (A7 70 j).toInt ∧ (A7 70 j).toInt ≤ 127) (hl : tz_di (A7 70 p) = true) :
    lb_X12_cut_68_208 n I A J t I7 A7 J7 (nI p) n 0 0 ∧
    q271_X12_cut_68 n I A J t I7 A7 J7 (nI p) = nI (tz_run tz_di (A7 70) L p) ∧ cz_m (if tz_run tz_di (A7 70) L p - p ≤ 4 then 2 else 1) (qs1m253_X12_cut_68 n I A J t I7 A7 J7 (nI p)) ∧ (tz_run tz_di (A7 70) L p - p ≤ 4 → q4w208_X12_cut_68 n I A J t I7 A7 J7 (nI p) = tz_vl (A7 70) p (tz_run tz_di (A7 70) L p - p)) := by
  have rb := tz_run_b (P := tz_di) (T := A7 70) (L := L) (L - p) p (by omega)
  have lt := cz_digits (n := n) (I := I) (A := A) (J := J) (J7 := J7) (t := t) (p := p) hL h4 hb (L - p) 0 n (by omega) (by omega)
  rw [Nat.add_zero] at lt
  generalize he : tz_run tz_di (A7 70) L p = e at *
  have l1 : lb_X12_cut_68_208 n I A J t I7 A7 J7 (nI p) n 0 0 := lt.1
  have l2 : lp_X12_cut_68_208 n I A J t I7 A7 J7 (nI p) n 0 0 = (nI (e - p), cz_rv (A7 70) p (e - p)) := lt.2
  have q3 : q3w208_X12_cut_68 n I A J t I7 A7 J7 (nI p) = nI (e - p) := by unfold q3w208_X12_cut_68; rw [l2]
  refine ⟨l1, ?_, ?_, ?_⟩
  · unfold q271_X12_cut_68
    rw [q3, nI_add]
    congr 1; omega
  · unfold qs1m253_X12_cut_68
    rw [q3]
    by_cases c : e - p ≤ 4
    · rw [if_pos c, if_pos (show nI (e - p) ≤ (4 : Int32) from nI_le (b := 4) c (by decide))]
      exact Or.inr ⟨by decide, rfl⟩
    · rw [if_neg c, if_neg (show ¬ nI (e - p) ≤ (4 : Int32) from nI_ge (Nat.lt_of_not_le c) (by omega))]
      exact Or.inl ⟨rfl, Or.inr rfl⟩
  · intro c
    unfold q4w208_X12_cut_68
    rw [l2]
    unfold cz_rv
    rw [if_pos c]
end Cut2
