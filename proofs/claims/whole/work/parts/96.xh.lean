/-! the reference's tokens: the loop -/
theorem cx_sg0 {b : Int32} {q : Bool} : tz_sg b q ≠ 0 := by
  unfold tz_sg
  intro h
  repeat (split at h; · first | exact absurd h (by decide) | (split at h <;> exact absurd h (by decide)))
  exact absurd h (by decide)
theorem cx_sg2 {b : Int32} {q : Bool} (h : tz_ln (tz_sg b q) = 2) : q = true := by
  cases q with
  | true => rfl
  | false =>
    exfalso
    revert h
    unfold tz_sg tz_ln
    intro h
    repeat (split at h; · first | exact absurd h (by decide) | (split at h <;> first | exact absurd h (by decide) | (split at h <;> exact absurd h (by decide))))
    all_goals first | exact absurd h (by decide) | simp_all
theorem cx_ln {κ : Nat} : tz_ln κ = 1 ∨ tz_ln κ = 2 := by
  unfold tz_ln
  split
  · exact Or.inr rfl
  · exact Or.inl rfl
theorem cx_pp {T : Nat → Int32} {L p : Nat} (hb : ¬ tz_bl (T p) = true) : tz_p T L p = p := tz_run_n fun z => hb z.2
theorem cx_pj {T : Nat → Int32} {L p : Nat} (hp : p < L) (hb : ¬ tz_bl (T p) = true) : p < tz_j T L p ∧ tz_j T L p ≤ L ∧ tz_k T L p ≠ 0 := by
  unfold tz_j tz_k
  rw [cx_pp hb]
  simp only [show ¬ L ≤ p by omega, if_false]
  by_cases hl : tz_le (T p) = true
  · simp only [if_pos hl]
    rw [tz_run_y hp hl]
    have rb := tz_run_b (P := tz_le) (T := T) (L := L) (L - (p + 1)) (p + 1) (by omega)
    refine ⟨rb.1, rb.2.1, ?_⟩
    unfold tz_wk
    split
    · rcases cx_fw (T := T) (p := p) (e := tz_run tz_le T L (p + 1)) 15 (by omega) with z | z <;> omega
    · omega
  · simp only [if_neg hl]
    by_cases hd : tz_di (T p) = true
    · simp only [if_pos hd]
      rw [tz_run_y hp hd]
      have rb := tz_run_b (P := tz_di) (T := T) (L := L) (L - (p + 1)) (p + 1) (by omega)
      refine ⟨rb.1, rb.2.1, ?_⟩
      split <;> decide
    · simp only [if_neg hd]
      refine ⟨?_, ?_, cx_sg0⟩
      · rcases cx_ln (κ := tz_sg (T p) (tz_eq T L p)) with z | z <;> omega
      · rcases cx_ln (κ := tz_sg (T p) (tz_eq T L p)) with z | z
        · omega
        · have y := cx_sg2 z
          unfold tz_eq at y
          have y2 := of_decide_eq_true y
          omega
section Cut3
variable {n L : Nat} {I A I7 A7 : Nat → Nat → Int32} {J J7 : Nat → Nat → Int64} {t : Bool × Bool}
theorem cx_c {p : Nat} (hL : L ≤ 2000) (hp : p < L) (h4 : I7 68 4 = nI L) (hb : ∀ j, j < L → -128 ≤ (A7 70 j).toInt ∧ (A7 70 j).toInt ≤ 127) : ∀ m, m < 128 → (q22_X12_cut_68 n I A J t I7 A7 J7 (nI p) = nI m ↔ A7 70 p = nI m) := by
  intro m hm
  unfold q22_X12_cut_68
  rw [(cz_at (n := n) (J7 := J7) (t := t) hL (by omega) h4).2, if_neg (by omega)]
  exact by_eq (hb p hp) hm
theorem cx_blank {p : Nat} (hL : L ≤ 2000) (hp : p < L) (h4 : I7 68 4 = nI L) (hb : ∀ j, j < L → -128 ≤ (A7 70 j).toInt ∧ (A7 70 j).toInt ≤ 127) (h : tz_bl (A7 70 p) = true) :
    qIm46_X12_cut_68 n I A J t I7 A7 J7 (nI p) = I7 ∧ qAm46_X12_cut_68 n I A J t I7 A7 J7 (nI p) = A7 ∧ qJm46_X12_cut_68 n I A J t I7 A7 J7 (nI p) = J7 ∧ ql1m46_X12_cut_68 n I A J t I7 A7 J7 (nI p) = nI (p + 1) ∧
    ¬ (¬ q22_X12_cut_68 n I A J t I7 A7 J7 (nI p) = 9 ∧ ¬ q22_X12_cut_68 n I A J t I7 A7 J7 (nI p) = 10 ∧ ¬ q22_X12_cut_68 n I A J t I7 A7 J7 (nI p) = 13 ∧ ¬ q22_X12_cut_68 n I A J t I7 A7 J7 (nI p) = 32) := by
  have k := cx_c (n := n) (I := I) (A := A) (J := J) (J7 := J7) (t := t) hL hp h4 hb
  have b := of_decide_eq_true h
  unfold qIm46_X12_cut_68 qAm46_X12_cut_68 qJm46_X12_cut_68 ql1m46_X12_cut_68 qIm52_X12_cut_68 qAm52_X12_cut_68 qJm52_X12_cut_68 ql1m52_X12_cut_68 qIm58_X12_cut_68 qAm58_X12_cut_68 qJm58_X12_cut_68 ql1m58_X12_cut_68 qIm64_X12_cut_68 qAm64_X12_cut_68 qJm64_X12_cut_68 ql1m64_X12_cut_68 q67_X12_cut_68
  have e9 : (q22_X12_cut_68 n I A J t I7 A7 J7 (nI p) = 9) = (A7 70 p = 9) := propext (k 9 (by decide))
  have e10 : (q22_X12_cut_68 n I A J t I7 A7 J7 (nI p) = 10) = (A7 70 p = 10) := propext (k 10 (by decide))
  have e13 : (q22_X12_cut_68 n I A J t I7 A7 J7 (nI p) = 13) = (A7 70 p = 13) := propext (k 13 (by decide))
  have e32 : (q22_X12_cut_68 n I A J t I7 A7 J7 (nI p) = 32) = (A7 70 p = 32) := propext (k 32 (by decide))
  simp only [e9, e10, e13, e32]
  have a : nI p + 1 = nI (p + 1) := nI_1 p
  rcases b with b | b | b | b <;> simp [b, a]
theorem cx_tok {p : Nat} (hn : 2100 ≤ n) (hL : L ≤ 2000) (hp : p < L) (h4 : I7 68 4 = nI L) (hb : ∀ j, j < L → -128 ≤ (A7 70 j).toInt ∧ (A7 70 j).toInt ≤ 127) (h75 : J7 75 = cw_J0 75) (h : ¬ tz_bl (A7 70 p) = true) {c : Nat} (h10 : I7 68 10 = nI c) (hc : c ≤ 400) :
    (∃ r v w, qIm46_X12_cut_68 n I A J t I7 A7 J7 (nI p) = pI_X12_token_68 n I7 A7 J7 t r (nI p) v w ∧ qAm46_X12_cut_68 n I A J t I7 A7 J7 (nI p) = pA_X12_token_68 n I7 A7 J7 t r (nI p) v w ∧ qJm46_X12_cut_68 n I A J t I7 A7 J7 (nI p) = pJ_X12_token_68 n I7 A7 J7 t r (nI p) v w ∧ cz_m (tz_k (A7 70) L p) r ∧ (tz_k (A7 70) L p = 2 → v = tz_v (A7 70) L p)) ∧ ql1m46_X12_cut_68 n I A J t I7 A7 J7 (nI p) = nI (tz_j (A7 70) L p) ∧
    ((px_X12_isLetter n I7 A7 J7 t (q22_X12_cut_68 n I A J t I7 A7 J7 (nI p))) = 0 → ((px_X12_isDigit n I7 A7 J7 t (q22_X12_cut_68 n I A J t I7 A7 J7 (nI p))) = 0 → pb_X12_at_68 n I7 A7 J7 t (nI p + 1) ∧ pb_X12_sign_68 n I7 A7 J7 t (nI p) (q22_X12_cut_68 n I A J t I7 A7 J7 (nI p)) (px_X12_at_68 n I7 A7 J7 t (nI p + 1))) ∧ (¬ (px_X12_isDigit n I7 A7 J7 t (q22_X12_cut_68 n I A J t I7 A7 J7 (nI p))) = 0 → lb_X12_cut_68_208 n I A J t I7 A7 J7 (nI p) n 0 0 ∧ pb_X12_token_68 n I7 A7 J7 t (qs1m253_X12_cut_68 n I A J t I7 A7 J7 (nI p)) (nI p) (q4w208_X12_cut_68 n I A J t I7 A7 J7 (nI p)) 0)) ∧ (¬ (px_X12_isLetter n I7 A7 J7 t (q22_X12_cut_68 n I A J t I7 A7 J7 (nI p))) = 0 → lb_X12_cut_68_85 n I A J t I7 A7 J7 (nI p) n 0 0 ∧ (¬ 6 < (q3w85_X12_cut_68 n I A J t I7 A7 J7 (nI p)) → lb_X12_cut_68_146 n I A J t I7 A7 J7 (nI p) n (qs0m127_X12_cut_68 n I A J t I7 A7 J7 (nI p)) 0) ∧ pb_X12_token_68 n I7 A7 J7 t (ql6m140_X12_cut_68 n I A J t I7 A7 J7 (nI p)) (nI p) 0 (q4w85_X12_cut_68 n I A J t I7 A7 J7 (nI p))) := by
  have k := cx_c (n := n) (I := I) (A := A) (J := J) (J7 := J7) (t := t) hL hp h4 hb
  have pt : ∀ r x v w, pb_X12_token_68 n I7 A7 J7 t r x v w := by
    intro r x v w
    unfold pb_X12_token_68
    rw [h10]
    have z : vp_in (nI c) 403 := vp_in_nI (by omega) (by decide)
    exact ⟨z, z, z, z⟩
  have hle := cz_le (n := n) (J7 := J7) (t := t) (i := p) hL (by omega) h4 hb
  have hdi := cz_di (n := n) (J7 := J7) (t := t) (i := p) hL (by omega) h4 hb
  have e22 : q22_X12_cut_68 n I A J t I7 A7 J7 (nI p) = px_X12_at_68 n I7 A7 J7 t (nI p) := rfl
  have bl : ¬ (A7 70 p = 9 ∨ A7 70 p = 10 ∨ A7 70 p = 13 ∨ A7 70 p = 32) := fun z => h (decide_eq_true z)
  have e9 : ¬ q22_X12_cut_68 n I A J t I7 A7 J7 (nI p) = 9 := fun z => bl (Or.inl ((k 9 (by decide)).1 z))
  have e10 : ¬ q22_X12_cut_68 n I A J t I7 A7 J7 (nI p) = 10 := fun z => bl (Or.inr (Or.inl ((k 10 (by decide)).1 z)))
  have e13 : ¬ q22_X12_cut_68 n I A J t I7 A7 J7 (nI p) = 13 := fun z => bl (Or.inr (Or.inr (Or.inl ((k 13 (by decide)).1 z))))
  have e32 : ¬ q22_X12_cut_68 n I A J t I7 A7 J7 (nI p) = 32 := fun z => bl (Or.inr (Or.inr (Or.inr ((k 32 (by decide)).1 z))))
  unfold qIm46_X12_cut_68 qAm46_X12_cut_68 qJm46_X12_cut_68 ql1m46_X12_cut_68 qIm52_X12_cut_68 qAm52_X12_cut_68 qJm52_X12_cut_68 ql1m52_X12_cut_68 qIm58_X12_cut_68 qAm58_X12_cut_68 qJm58_X12_cut_68 ql1m58_X12_cut_68 qIm64_X12_cut_68 qAm64_X12_cut_68 qJm64_X12_cut_68 ql1m64_X12_cut_68 qIm77_X12_cut_68 qAm77_X12_cut_68 qJm77_X12_cut_68 ql1m77_X12_cut_68
  rw [if_neg e9, if_neg e9, if_neg e9, if_neg e9, if_neg e10, if_neg e10, if_neg e10, if_neg e10, if_neg e13, if_neg e13, if_neg e13, if_neg e13, if_neg e32, if_neg e32, if_neg e32, if_neg e32]
  unfold tz_k tz_v tz_j
  rw [cx_pp h, if_neg (show ¬ L ≤ p by omega), if_neg (show ¬ L ≤ p by omega), if_neg (show ¬ L ≤ p by omega)]
  by_cases hl : tz_le (A7 70 p) = true
  · have w := cx_word (n := n) (I := I) (A := A) (J := J) (t := t) hn hL hp h4 hb h75 hl
    have d : ¬ px_X12_isLetter n I7 A7 J7 t (q22_X12_cut_68 n I A J t I7 A7 J7 (nI p)) = 0 := by
      rw [e22]; exact fun z => hle.1 z ⟨hp, hl⟩
    rw [if_neg d, if_neg d, if_neg d, if_neg d, if_pos hl, if_pos hl, if_pos hl]
    refine ⟨⟨_, _, _, rfl, rfl, rfl, w.2.2.2, fun z => ?_⟩, w.2.2.1, fun z => absurd z d, fun _ => ⟨w.1, w.2.1, pt _ _ _ _⟩⟩
    rfl
  · have d : px_X12_isLetter n I7 A7 J7 t (q22_X12_cut_68 n I A J t I7 A7 J7 (nI p)) = 0 := by
      rw [e22]; exact hle.2 fun z => hl z.2
    rw [if_pos d, if_pos d, if_pos d, if_pos d, if_neg hl, if_neg hl, if_neg hl]
    unfold qIm200_X12_cut_68 qAm200_X12_cut_68 qJm200_X12_cut_68 ql1m200_X12_cut_68
    by_cases hd : tz_di (A7 70 p) = true
    · have w := cx_num (n := n) (I := I) (A := A) (J := J) (J7 := J7) (t := t) hn hL hp h4 hb hd
      have g : ¬ px_X12_isDigit n I7 A7 J7 t (q22_X12_cut_68 n I A J t I7 A7 J7 (nI p)) = 0 := by
        rw [e22]; exact fun z => hdi.1 z ⟨hp, hd⟩
      rw [if_neg g, if_neg g, if_neg g, if_neg g, if_pos hd, if_pos hd, if_pos hd]
      refine ⟨⟨_, _, _, rfl, rfl, rfl, w.2.2.1, fun z => w.2.2.2 ?_⟩, w.2.1, fun _ => ⟨fun z => absurd z g, fun _ => ⟨w.1, pt _ _ _ _⟩⟩, fun z => absurd d z⟩
      split at z
      · assumption
      · exact absurd z (by decide)
    · have g : px_X12_isDigit n I7 A7 J7 t (q22_X12_cut_68 n I A J t I7 A7 J7 (nI p)) = 0 := by
        rw [e22]; exact hdi.2 fun z => hd z.2
      have a : nI p + 1 = nI (p + 1) := nI_1 p
      have at1 := cz_at (n := n) (A7 := A7) (J7 := J7) (t := t) (i := p + 1) hL (by omega) h4
      have hq : px_X12_at_68 n I7 A7 J7 t (nI p + 1) = 61 ↔ tz_eq (A7 70) L p = true := by
        rw [a, at1.2]
        unfold tz_eq
        by_cases c : L ≤ p + 1
        · rw [if_pos c]
          exact ⟨fun z => absurd z (by decide), fun z => absurd (of_decide_eq_true z).1 (by omega)⟩
        · rw [if_neg c]
          have y := by_eq (hb (p + 1) (by omega)) (m := 61) (by decide)
          exact ⟨fun z => decide_eq_true ⟨by omega, y.1 z⟩, fun z => y.2 (of_decide_eq_true z).2⟩
      have w := cx_sgn (n := n) (I := I7) (A := A7) (J := J7) (t := t) (x := nI p) k hq
      rw [if_pos g, if_pos g, if_pos g, if_pos g, if_neg hd, if_neg hd, if_neg hd]
      refine ⟨⟨_, _, _, rfl, rfl, rfl, w.1, fun z => rfl⟩, ?_, fun _ => ⟨fun _ => ⟨?_, pt _ _ _ _⟩, fun z => absurd g z⟩, fun z => absurd d z⟩
      · unfold q290_X12_cut_68
        rw [w.2, nI_add]
      · rw [a]; exact at1.1
end Cut3
