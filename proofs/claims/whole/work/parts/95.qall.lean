/-! all programmes, all masts of an hour -/
def sc_st (M : Nat) (hd : Nat → Nat) (am : Nat → Nat → Int32) (I A B : Nat → Nat → Int32) (p k : Nat) : Prop :=
  (∀ q m, m < M → (q < p ∨ q = p ∧ m < k) → sc_pr A B (6 * q + m) (hd q) (am q m)) ∧ (∀ q m, m < 6 → (p < q ∨ q = p ∧ k ≤ m) → q < 10 → A 47 (6 * q + m) = 0) ∧ ∃ (F : Nat → Bool) (a : Bool), sc_ask I A F p a ∧ (a = true ↔ ∃ m, m < k ∧ ¬ B 114 (6 * p + m) = -1) ∧ ∀ q, q < p → (F q = true ↔ ∃ m, m < M ∧ ¬ B 114 (6 * q + m) = -1)
theorem sc_next {M : Nat} {hd : Nat → Nat} {am : Nat → Nat → Int32} {I A B : Nat → Nat → Int32} {p : Nat} (h6 : M ≤ 6) (hz : ∀ m, M ≤ m → m < 6 → A 47 (6 * p + m) = 0) (h : sc_st M hd am I A B p M) : sc_st M hd am I A B (p + 1) 0 := by
  obtain ⟨h1, h2, F, a, ⟨g1, g2, g3⟩, g4, g5⟩ := h
  refine ⟨fun q m hm hq => h1 q m hm (by omega), fun q m hm hq hq10 => h2 q m hm (by omega) hq10, fun q => if q = p then a else F q, false, ?_, ?_, ?_⟩
  · have e1 : sc_cn (fun q => if q = p then a else F q) p = sc_cn F p := sc_cn_eq (fun j hj => if_neg (by omega))
    have e2 : sc_cn (fun q => if q = p then a else F q) (p + 1) = sc_cn F p + (if a = true then 1 else 0) := by
      conv => lhs; rw [sc_cn]
      rw [e1, if_pos rfl]
    refine ⟨by rw [e2]; exact g1, fun q hq hF => ?_, fun z => absurd z (by decide)⟩
    have hF : (if q = p then a else F q) = true := hF
    by_cases w : q = p
    · subst w
      rw [if_pos rfl] at hF
      rw [e1]; exact g3 hF
    · rw [if_neg w] at hF
      have e3 : sc_cn (fun q => if q = p then a else F q) q = sc_cn F q := sc_cn_eq (fun j hj => if_neg (by omega))
      rw [e3]; exact g2 q (by omega) hF
  · constructor
    · intro z; exact absurd z (by decide)
    · rintro ⟨m, hm, -⟩; exact absurd hm (Nat.not_lt_zero _)
  · intro q hq
    show (if q = p then a else F q) = true ↔ _
    by_cases w : q = p
    · subst w
      rw [if_pos rfl]; exact g4
    · rw [if_neg w]; exact g5 q (by omega)
/-- what holds of both worlds all the hour -/
def sc_wo (c n : Nat) (I0 A0 : Nat → Nat → Int32) (J0 : Nat → Nat → Int64) (t0 : Bool × Bool) (N m : Nat) (Ab : Nat → Nat → Int32) (wa : Nat → Int32) (I A I2 A2 : Nat → Nat → Int32) : Prop :=
  sc_ctx c n I0 A0 J0 t0 N m I A I2 A2 ∧ (∀ d, d < 32 → A d = Ab d) ∧ A 58 = Ab 58 ∧ (∀ i, i < 6 → A2 117 i = wa i)
theorem sc_am {n : Nat} {I A : Nat → Nat → Int32} {J : Nat → Nat → Int64} {t : Bool × Bool} {h i : Nat} (h24 : h < 24) (i6 : i < 6) : pb_X5_aimOfMast_53 n I A J t (nI h - 1) (nI i) ∧ px_X5_aimOfMast_53 n I A J t (nI h - 1) (nI i) = if h = 0 then -1 else A 58 (6 * (h - 1) + i) := by
  unfold pb_X5_aimOfMast_53 px_X5_aimOfMast_53 qs0m1_X5_aimOfMast_53
  by_cases z : h = 0
  · subst z
    have c : ¬ 0 ≤ nI 0 - 1 := by decide
    rw [if_neg c, if_pos rfl]
    exact ⟨fun y => absurd y c, rfl⟩
  · obtain ⟨k, rfl⟩ : ∃ k, h = k + 1 := ⟨h - 1, by omega⟩
    have c : 0 ≤ nI k := nI_pos' (by omega)
    have ix : nI k * 6 + nI i = nI (6 * k + i) := by
      have : (6 : Int32) = nI 6 := rfl
      rw [this, pk_mul, nI_add, Nat.mul_comm]
    rw [nI_pred, if_pos c, ix, nI_clamp (by omega), if_neg z]
    exact ⟨fun _ => vp_in_nI (by omega) (by decide), rfl⟩
/-- the reference, in an hour in which the programme is off -/
theorem sc_moff {n : Nat} {I0 B0 I43 A43 I53 A53 : Nat → Nat → Int32} {J2 : Nat → Nat → Int64} {t2 : Bool × Bool} {M p d h N : Nat} {v3 : Int32} (M6 : M ≤ 6) (p10 : p < 10) (BB : Nat → Nat → Int32) (off : nI h < BB 95 p ∨ ¬ nI h < BB 96 p) :
    ∀ (j k f : Nat) (I65 B : Nat → Nat → Int32), k + j = M → j < f → I65 68 40 = nI M → (∀ c, c ≠ 114 → B c = BB c) →
    lb_X12_schedule_68_65 n I0 B0 J2 t2 (nI d) (nI N) I43 A43 v3 (nI h) I53 A53 (nI p) f I65 B (nI k) ∧ (lp_X12_schedule_68_65 n I0 B0 J2 t2 (nI d) (nI N) I43 A43 v3 (nI h) I53 A53 (nI p) f I65 B (nI k)).1 = I65 ∧ (∀ c, c ≠ 114 → (lp_X12_schedule_68_65 n I0 B0 J2 t2 (nI d) (nI N) I43 A43 v3 (nI h) I53 A53 (nI p) f I65 B (nI k)).2.1 c = BB c) ∧ ∀ x, (lp_X12_schedule_68_65 n I0 B0 J2 t2 (nI d) (nI N) I43 A43 v3 (nI h) I53 A53 (nI p) f I65 B (nI k)).2.1 114 x = if 6 * p + k ≤ x ∧ x < 6 * p + M then -1 else B 114 x := by
  have cp : (nI p).toNatClampNeg = p := nI_clamp (by omega)
  have vp : vp_in (nI p) 10 := vp_in_nI p10 (by decide)
  intro j
  induction j with
  | zero =>
    intro k f I65 B hk hf h40 hB
    obtain ⟨f, rfl⟩ : ∃ x, f = x + 1 := ⟨f - 1, by omega⟩
    have c : nI M ≤ nI k := nI_le (by omega) (by omega)
    unfold lb_X12_schedule_68_65 lp_X12_schedule_68_65
    rw [h40, if_pos c]
    refine ⟨fun z => absurd c z, rfl, hB, fun x => ?_⟩
    rw [if_neg (by omega)]
  | succ j ih =>
    intro k f I65 B hk hf h40 hB
    obtain ⟨f, rfl⟩ : ∃ x, f = x + 1 := ⟨f - 1, by omega⟩
    have c : ¬ nI M ≤ nI k := nI_ge (by omega) (by omega)
    have e6 : q6_X12_fits_68 n I65 B J2 t2 (nI p) (nI k) (nI d) (nI h) (nI N) = nI (6 * p + k) := lz_ix6 p k
    have c6 : (nI (6 * p + k)).toNatClampNeg = 6 * p + k := nI_clamp (by omega)
    have e15 : qA15_X12_fits_68 n I65 B J2 t2 (nI p) (nI k) (nI d) (nI h) (nI N) = cw_u B 114 (6 * p + k) (-1) := by
      unfold qA15_X12_fits_68
      rw [e6, c6]
    have o95 : qA15_X12_fits_68 n I65 B J2 t2 (nI p) (nI k) (nI d) (nI h) (nI N) 95 = BB 95 := by rw [e15, cw_u_c _ _ (by decide)]; exact hB 95 (by decide)
    have o96 : qA15_X12_fits_68 n I65 B J2 t2 (nI p) (nI k) (nI d) (nI h) (nI N) 96 = BB 96 := by rw [e15, cw_u_c _ _ (by decide)]; exact hB 96 (by decide)
    have fI : pI_X12_fits_68 n I65 B J2 t2 (nI p) (nI k) (nI d) (nI h) (nI N) = I65 := by
      unfold pI_X12_fits_68
      rw [cp, o95, o96]
      rcases off with w | w
      · rw [if_pos w]
      · rw [if_neg w, ite_self]
    have fA : pA_X12_fits_68 n I65 B J2 t2 (nI p) (nI k) (nI d) (nI h) (nI N) = cw_u B 114 (6 * p + k) (-1) := by
      unfold pA_X12_fits_68
      rw [cp, o95, o96, e15]
      rcases off with w | w
      · rw [if_pos w]
      · rw [if_neg w, ite_self]
    have pbf : pb_X12_fits_68 n I65 B J2 t2 (nI p) (nI k) (nI d) (nI h) (nI N) := by
      unfold pb_X12_fits_68
      rw [cp, o95, o96, e6]
      refine ⟨vp_in_nI (by omega) (by decide), vp, vp, fun z => ⟨vp, fun z2 => ?_⟩⟩
      rcases off with w | w
      · exact absurd w z
      · exact absurd z2 w
    have e86 : q86_X12_schedule_68 n I0 B0 J2 t2 (nI d) (nI N) I43 A43 v3 (nI h) I53 A53 (nI p) I65 B (nI k) = nI (k + 1) := nI_1 k
    obtain ⟨i1, i2, i3, i4⟩ := ih (k + 1) f I65 (cw_u B 114 (6 * p + k) (-1)) (by omega) (by omega) h40 (fun c hc => by rw [cw_u_c _ _ hc]; exact hB c hc)
    unfold lb_X12_schedule_68_65 lp_X12_schedule_68_65
    rw [h40, if_neg c, fI, fA, e86]
    refine ⟨fun _ => ⟨pbf, i1⟩, i2, i3, fun x => ?_⟩
    rw [i4 x]
    by_cases q : x = 6 * p + k
    · subst q
      rw [cw_u_s, if_neg (by omega), if_pos (by omega)]
    · rw [cw_u_k _ _ q]
      by_cases q2 : 6 * p + (k + 1) ≤ x ∧ x < 6 * p + M
      · rw [if_pos q2, if_pos (by omega)]
      · rw [if_neg q2, if_neg (by omega)]
set_option maxHeartbeats 2000000 in
theorem sc_mon37 {n : Nat} {Ic Ac I10 A10 Ir Br I43 A43 I53 A53 I0 A0 Ib Ab : Nat → Nat → Int32} {J J2 J0 : Nat → Nat → Int64} {t t2 t0 : Bool × Bool} {N m M p l d h : Nat} {v3 : Int32} {hd : Nat → Nat} {wa : Nat → Int32} (hn : 500 ≤ n) (M6 : M ≤ 6) (p10 : p < 10) (l8 : l < 8) (hdd : d < 3600) (h24 : h < 24) (el : Ab 13 p = nI l) (on1 : ¬ nI h < Ab 14 p) (on2 : nI h < Ab 15 p) (ehd : Ab 4 l = nI (hd p)) (hwa : ∀ i, i < 6 → wa i = if h = 0 then -1 else Ab 58 (6 * (h - 1) + i)) :
    ∀ (j k f f2 : Nat) (I A I2 B : Nat → Nat → Int32), k + j = M → j < f → j < f2 → sc_wo 37 n I0 A0 J0 t0 N m Ab wa I A I2 B → I 9 2 = nI M → I2 68 40 = nI M → sc_st M hd (fun q i => px_X9_aimTo_5_1 n Ib Ab J t (Ab 10 i) (Ab 13 q)) I A B p k →
    lb_X11_offerAll_0_tTx_25 n Ic Ac J t (nI d) (nI h) (nI N) I10 A10 (nI p) f I A (nI k) ∧ lb_X12_schedule_68_65 n Ir Br J2 t2 (nI d) (nI N) I43 A43 v3 (nI h) I53 A53 (nI p) f2 I2 B (nI k) ∧
    sc_wo 37 n I0 A0 J0 t0 N m Ab wa (lp_X11_offerAll_0_tTx_25 n Ic Ac J t (nI d) (nI h) (nI N) I10 A10 (nI p) f I A (nI k)).1 (lp_X11_offerAll_0_tTx_25 n Ic Ac J t (nI d) (nI h) (nI N) I10 A10 (nI p) f I A (nI k)).2.1 (lp_X12_schedule_68_65 n Ir Br J2 t2 (nI d) (nI N) I43 A43 v3 (nI h) I53 A53 (nI p) f2 I2 B (nI k)).1 (lp_X12_schedule_68_65 n Ir Br J2 t2 (nI d) (nI N) I43 A43 v3 (nI h) I53 A53 (nI p) f2 I2 B (nI k)).2.1 ∧
    sc_st M hd (fun q i => px_X9_aimTo_5_1 n Ib Ab J t (Ab 10 i) (Ab 13 q)) (lp_X11_offerAll_0_tTx_25 n Ic Ac J t (nI d) (nI h) (nI N) I10 A10 (nI p) f I A (nI k)).1 (lp_X11_offerAll_0_tTx_25 n Ic Ac J t (nI d) (nI h) (nI N) I10 A10 (nI p) f I A (nI k)).2.1 (lp_X12_schedule_68_65 n Ir Br J2 t2 (nI d) (nI N) I43 A43 v3 (nI h) I53 A53 (nI p) f2 I2 B (nI k)).2.1 p M := by
  have cp : (nI p).toNatClampNeg = p := nI_clamp (by omega)
  have vp : vp_in (nI p) 10 := vp_in_nI p10 (by decide)
  intro j
  induction j with
  | zero =>
    intro k f f2 I A I2 B hk hf hf2 hw h9 h40 hS
    obtain ⟨f, rfl⟩ : ∃ x, f = x + 1 := ⟨f - 1, by omega⟩
    obtain ⟨f2, rfl⟩ : ∃ x, f2 = x + 1 := ⟨f2 - 1, by omega⟩
    have : k = M := by omega
    subst this
    have c : nI k ≤ nI k := nI_le (Nat.le_refl _) (by omega)
    unfold lb_X11_offerAll_0_tTx_25 lb_X12_schedule_68_65 lp_X11_offerAll_0_tTx_25 lp_X12_schedule_68_65
    rw [h9, h40, if_pos c, if_pos c]
    exact ⟨fun z => absurd c z, fun z => absurd c z, hw, hS⟩
  | succ j ih =>
    intro k f f2 I A I2 B hk hf hf2 hw h9 h40 hS
    obtain ⟨f, rfl⟩ : ∃ x, f = x + 1 := ⟨f - 1, by omega⟩
    obtain ⟨f2, rfl⟩ : ∃ x, f2 = x + 1 := ⟨f2 - 1, by omega⟩
    have c : ¬ nI M ≤ nI k := nI_ge (by omega) (by omega)
    obtain ⟨hctx, hAb, h58, h117⟩ := id hw
    obtain ⟨S1, S2, F, a, S3, S4, S5⟩ := id hS
    have ison : px_X6_isOn_12 n I A J (true, t.2) (nI p) (nI h) = 1 ∧ pb_X6_isOn_12 n I A J (true, t.2) (nI p) (nI h) := by
      unfold px_X6_isOn_12 qs0m7_X6_isOn_12 qs0m17_X6_isOn_12 pb_X6_isOn_12
      rw [cp, hAb 14 (by omega), hAb 15 (by omega), if_neg on1, if_neg (Int32.not_le.mpr on2)]
      exact ⟨rfl, vp, fun _ => vp⟩
    have o1 : ¬ (1 : Int32) = 0 := by decide
    obtain ⟨ap, am1⟩ := sc_am (n := n) (I := I) (A := A) (J := J) (t := (true, t.2)) h24 (i := k) (by omega)
    obtain ⟨q1, q2, q3, q4, I', A', eI', eA', q5, ⟨a', q6, q7⟩, q8⟩ := sc_pair37 (n := n) (J := J) (J2 := J2) (t := t) (t2 := t2) (hd := hd p) (i := k) (d := d) (h := h) hn p10 (by omega) l8 hdd h24 hctx (by rw [hAb 13 (by omega)]; exact el) (by rw [hAb 14 (by omega)]; exact on1) (by rw [hAb 15 (by omega)]; exact on2) (by rw [hAb 4 (by omega)]; exact ehd) S3 (S2 p k (by omega) (by omega) p10) (by rw [am1, h58, h117 k (by omega), hwa k (by omega)])
    have eqI : qIm66_X11_offerAll_0_tTx n Ic Ac J t (nI d) (nI h) (nI N) I10 A10 (nI p) I A (nI k) = I' := by
      rw [eI']; rfl
    have eqA : qAm66_X11_offerAll_0_tTx n Ic Ac J t (nI d) (nI h) (nI N) I10 A10 (nI p) I A (nI k) = A' := by
      rw [eA']; rfl
    have kI : ∀ c k', c ≠ 46 → I' c k' = I c k' := fun c k' hc => by
      rw [eI']
      split
      · rfl
      · exact fr_pI_X11_offer_0_tTx (by simp [hc])
    have kA : ∀ c, c ≠ 45 → c ≠ 47 → c ≠ 48 → c ≠ 49 → c ≠ 51 → c ≠ 44 → A' c = A c := fun c h1 h2 h3 h4 h5 h6 => by
      rw [eA']
      split
      · rfl
      · exact fr_pA_X11_offer_0_tTx (by simp [h1, h2, h3, h4, h5, h6])
    have kB : ∀ c, c < 107 ∨ c = 117 → pA_X12_fits_68 n I2 B J2 t2 (nI p) (nI k) (nI d) (nI h) (nI N) c = B c := fun c hc => fr_pA_X12_fits_68 (by simp; omega)
    have kR : ∀ k', k' < 59 → pI_X12_fits_68 n I2 B J2 t2 (nI p) (nI k) (nI d) (nI h) (nI N) 68 k' = I2 68 k' := fun k' hc => fr_pI_X12_fits_68 (by simp; omega)
    have e80 : q80_X11_offerAll_0_tTx n Ic Ac J t (nI d) (nI h) (nI N) I10 A10 (nI p) I A (nI k) = nI (k + 1) := nI_1 k
    have e86 : q86_X12_schedule_68 n Ir Br J2 t2 (nI d) (nI N) I43 A43 v3 (nI h) I53 A53 (nI p) I2 B (nI k) = nI (k + 1) := nI_1 k
    have eaim : px_X9_aimTo_5_1 n I A J t (A 10 k) (nI l) = px_X9_aimTo_5_1 n Ib Ab J t (Ab 10 k) (Ab 13 p) := by
      rw [hAb 10 (by omega), el]
      exact sc_aim (hAb 2 (by omega)) (hAb 3 (by omega)) (hAb 6 (by omega)) (hAb 7 (by omega))
    obtain ⟨i1, i2, i3, i4⟩ := ih (k + 1) f f2 I' A' (pI_X12_fits_68 n I2 B J2 t2 (nI p) (nI k) (nI d) (nI h) (nI N)) (pA_X12_fits_68 n I2 B J2 t2 (nI p) (nI k) (nI d) (nI h) (nI N)) (by omega) (by omega) (by omega)
      ⟨sc_keep hctx (by omega) (fun c k' h1 h2 => kI c k' h1) (fun c hc => kA c (by omega) (by omega) (by omega) (by omega) (by omega) (by omega)) kR (fun c hc => kB c (by omega)), fun c hc => by rw [kA c (by omega) (by omega) (by omega) (by omega) (by omega) (by omega)]; exact hAb c hc, by rw [kA 58 (by decide) (by decide) (by decide) (by decide) (by decide) (by decide)]; exact h58, fun i hi => by rw [kB 117 (by omega)]; exact h117 i hi⟩
      (by rw [kI 9 2 (by decide)]; exact h9) (by rw [kR 40 (by omega)]; exact h40)
      (by
        refine ⟨fun q m' hm' hq => ?_, fun q m' hm' hq hq10 => ?_, F, a', q6, ?_, fun q hq => ?_⟩
        · by_cases w : q = p ∧ m' = k
          · obtain ⟨w1, w2⟩ := w
            subst w1; subst w2
            rw [eaim] at q5; exact q5
          · have ne : ¬ 6 * q + m' = 6 * p + k := by omega
            obtain ⟨y1, y2, y3, y4, y5, y6⟩ := q8 (6 * q + m') ne
            have old := S1 q m' hm' (by omega)
            unfold sc_pr at old ⊢
            rw [y1, y2, y3, y4, y5, y6]
            exact old
        · have ne : ¬ 6 * q + m' = 6 * p + k := by omega
          rw [(q8 _ ne).1]
          exact S2 q m' hm' (by omega) hq10
        · rw [q7]
          constructor
          · intro y
            rcases y with y | y
            · obtain ⟨m', w1, w2⟩ := S4.mp y
              refine ⟨m', by omega, ?_⟩
              rw [(q8 (6 * p + m') (by omega)).2.2.2.1]
              exact w2
            · exact ⟨k, by omega, y⟩
          · rintro ⟨m', w1, w2⟩
            by_cases w : m' = k
            · subst w; exact Or.inr w2
            · refine Or.inl (S4.mpr ⟨m', by omega, ?_⟩)
              rw [(q8 (6 * p + m') (by omega)).2.2.2.1] at w2
              exact w2
        · rw [S5 q hq]
          constructor
          · rintro ⟨m', w1, w2⟩
            refine ⟨m', w1, ?_⟩
            rw [(q8 (6 * q + m') (by omega)).2.2.2.1]
            exact w2
          · rintro ⟨m', w1, w2⟩
            refine ⟨m', w1, ?_⟩
            rw [(q8 (6 * q + m') (by omega)).2.2.2.1] at w2
            exact w2)
    unfold lb_X11_offerAll_0_tTx_25 lb_X12_schedule_68_65 lp_X11_offerAll_0_tTx_25 lp_X12_schedule_68_65
    rw [h9, h40, if_neg c, if_neg c, ison.1, if_neg o1, eqI, eqA, e80, e86]
    exact ⟨fun _ => ⟨ison.2, fun _ => ⟨q1, q2 ap, q3, i1⟩⟩, fun _ => ⟨q4, i2⟩, i3, i4⟩
set_option maxHeartbeats 2000000 in
/-- all programmes -/
theorem sc_all37 {n : Nat} {Ic Ac Ir Br I43 A43 I0 A0 Ib Ab : Nat → Nat → Int32} {J J2 J0 : Nat → Nat → Int64} {t t2 t0 : Bool × Bool} {N m M P d h : Nat} {v3 : Int32} {hd : Nat → Nat} {wa : Nat → Int32} (hn : 500 ≤ n) (M6 : M ≤ 6) (P10 : P ≤ 10) (hdd : d < 3600) (h24 : h < 24) (hl : ∀ p, p < 10 → ∃ l, l < 8 ∧ Ab 13 p = nI l ∧ Ab 4 l = nI (hd p)) (hwa : ∀ i, i < 6 → wa i = if h = 0 then -1 else Ab 58 (6 * (h - 1) + i)) :
    ∀ (j p f f2 : Nat) (I A I2 B : Nat → Nat → Int32), p + j = P → j < f → j < f2 → sc_wo 37 n I0 A0 J0 t0 N m Ab wa I A I2 B → I 9 2 = nI M → I2 68 40 = nI M → I 12 3 = nI P → I2 68 43 = nI P → sc_st M hd (fun q i => px_X9_aimTo_5_1 n Ib Ab J t (Ab 10 i) (Ab 13 q)) I A B p 0 →
    lb_X11_offerAll_0_tTx_10 n Ic Ac J t (nI d) (nI h) (nI N) f I A (nI p) ∧ lb_X12_schedule_68_53 n Ir Br J2 t2 (nI d) (nI N) I43 A43 v3 (nI h) f2 I2 B (nI p) ∧
    sc_wo 37 n I0 A0 J0 t0 N m Ab wa (lp_X11_offerAll_0_tTx_10 n Ic Ac J t (nI d) (nI h) (nI N) f I A (nI p)).1 (lp_X11_offerAll_0_tTx_10 n Ic Ac J t (nI d) (nI h) (nI N) f I A (nI p)).2.1 (lp_X12_schedule_68_53 n Ir Br J2 t2 (nI d) (nI N) I43 A43 v3 (nI h) f2 I2 B (nI p)).1 (lp_X12_schedule_68_53 n Ir Br J2 t2 (nI d) (nI N) I43 A43 v3 (nI h) f2 I2 B (nI p)).2.1 ∧
    sc_st M hd (fun q i => px_X9_aimTo_5_1 n Ib Ab J t (Ab 10 i) (Ab 13 q)) (lp_X11_offerAll_0_tTx_10 n Ic Ac J t (nI d) (nI h) (nI N) f I A (nI p)).1 (lp_X11_offerAll_0_tTx_10 n Ic Ac J t (nI d) (nI h) (nI N) f I A (nI p)).2.1 (lp_X12_schedule_68_53 n Ir Br J2 t2 (nI d) (nI N) I43 A43 v3 (nI h) f2 I2 B (nI p)).2.1 P 0 := by
  intro j
  induction j with
  | zero =>
    intro p f f2 I A I2 B hk hf hf2 hw h9 h40 h12 h43 hS
    obtain ⟨f, rfl⟩ : ∃ x, f = x + 1 := ⟨f - 1, by omega⟩
    obtain ⟨f2, rfl⟩ : ∃ x, f2 = x + 1 := ⟨f2 - 1, by omega⟩
    have : p = P := by omega
    subst this
    have c : nI p ≤ nI p := nI_le (Nat.le_refl _) (by omega)
    unfold lb_X11_offerAll_0_tTx_10 lb_X12_schedule_68_53 lp_X11_offerAll_0_tTx_10 lp_X12_schedule_68_53
    rw [h12, h43, if_pos c, if_pos c]
    exact ⟨fun z => absurd c z, fun z => absurd c z, hw, hS⟩
  | succ j ih =>
    intro p f f2 I A I2 B hk hf hf2 hw h9 h40 h12 h43 hS
    obtain ⟨f, rfl⟩ : ∃ x, f = x + 1 := ⟨f - 1, by omega⟩
    obtain ⟨f2, rfl⟩ : ∃ x, f2 = x + 1 := ⟨f2 - 1, by omega⟩
    have c : ¬ nI P ≤ nI p := nI_ge (by omega) (by omega)
    have z0 : nI 0 = 0 := nI_0
    obtain ⟨l, l8, el, ehd⟩ := hl p (by omega)
    have e86 : q86_X11_offerAll_0_tTx n Ic Ac J t (nI d) (nI h) (nI N) I A (nI p) = nI (p + 1) := nI_1 p
    have e92 : q92_X12_schedule_68 n Ir Br J2 t2 (nI d) (nI N) I43 A43 v3 (nI h) I2 B (nI p) = nI (p + 1) := nI_1 p
    have main : lb_X11_offerAll_0_tTx_25 n Ic Ac J t (nI d) (nI h) (nI N) I A (nI p) n I A 0 ∧ lb_X12_schedule_68_65 n Ir Br J2 t2 (nI d) (nI N) I43 A43 v3 (nI h) I2 B (nI p) n I2 B 0 ∧ sc_wo 37 n I0 A0 J0 t0 N m Ab wa (qIw25_X11_offerAll_0_tTx n Ic Ac J t (nI d) (nI h) (nI N) I A (nI p)) (qAw25_X11_offerAll_0_tTx n Ic Ac J t (nI d) (nI h) (nI N) I A (nI p)) (qIw65_X12_schedule_68 n Ir Br J2 t2 (nI d) (nI N) I43 A43 v3 (nI h) I2 B (nI p)) (qAw65_X12_schedule_68 n Ir Br J2 t2 (nI d) (nI N) I43 A43 v3 (nI h) I2 B (nI p)) ∧ sc_st M hd (fun q i => px_X9_aimTo_5_1 n Ib Ab J t (Ab 10 i) (Ab 13 q)) (qIw25_X11_offerAll_0_tTx n Ic Ac J t (nI d) (nI h) (nI N) I A (nI p)) (qAw25_X11_offerAll_0_tTx n Ic Ac J t (nI d) (nI h) (nI N) I A (nI p)) (qAw65_X12_schedule_68 n Ir Br J2 t2 (nI d) (nI N) I43 A43 v3 (nI h) I2 B (nI p)) p M ∧ (∀ m, M ≤ m → m < 6 → qAw25_X11_offerAll_0_tTx n Ic Ac J t (nI d) (nI h) (nI N) I A (nI p) 47 (6 * p + m) = 0) := by
      by_cases on : ¬ nI h < Ab 14 p ∧ nI h < Ab 15 p
      · have r := sc_mon37 (n := n) (Ic := Ic) (Ac := Ac) (I10 := I) (A10 := A) (Ir := Ir) (Br := Br) (I43 := I43) (A43 := A43) (I53 := I2) (A53 := B) (Ib := Ib) (J := J) (J2 := J2) (t := t) (t2 := t2) (v3 := v3) (d := d) hn M6 (p := p) (by omega) l8 hdd h24 el on.1 on.2 ehd hwa M 0 n n I A I2 B (by omega) (by omega) (by omega) hw h9 h40 hS
        rw [z0] at r
        refine ⟨r.1, r.2.1, r.2.2.1, r.2.2.2, fun m' h1 h2 => ?_⟩
        exact r.2.2.2.2.1 p m' h2 (by omega) (by omega)
      · obtain ⟨hctx, hAb, h58, h117⟩ := id hw
        have cp : (nI p).toNatClampNeg = p := nI_clamp (by omega)
        have vp : vp_in (nI p) 10 := vp_in_nI (by omega) (by decide)
        obtain ⟨-, pr2, pr3, -⟩ := hctx.1.2.2.2.1.2 p (by omega)
        have off : nI h < B 95 p ∨ ¬ nI h < B 96 p := by
          rw [← pr2, ← pr3, hAb 14 (by omega), hAb 15 (by omega)]
          by_cases w : nI h < Ab 14 p
          · exact Or.inl w
          · exact Or.inr (fun y => on ⟨w, y⟩)
        have isoff : px_X6_isOn_12 n I A J (true, t.2) (nI p) (nI h) = 0 ∧ pb_X6_isOn_12 n I A J (true, t.2) (nI p) (nI h) := by
          unfold px_X6_isOn_12 qs0m7_X6_isOn_12 qs0m17_X6_isOn_12 pb_X6_isOn_12
          rw [cp, hAb 14 (by omega), hAb 15 (by omega)]
          refine ⟨?_, vp, fun _ => vp⟩
          by_cases w : nI h < Ab 14 p
          · rw [if_pos w]
          · rw [if_neg w, if_pos (Int32.not_lt.mp (fun y => on ⟨w, y⟩))]
        obtain ⟨r1, r2, r3, r4⟩ := sc_moff (n := n) (I0 := Ir) (B0 := Br) (I43 := I43) (A43 := A43) (I53 := I2) (A53 := B) (J2 := J2) (t2 := t2) (v3 := v3) (d := d) (N := N) M6 (p := p) (by omega) B off M 0 n I2 B (by omega) (by omega) h40 (fun _ _ => rfl)
        rw [z0] at r1 r2 r3 r4
        obtain ⟨nn, hnn⟩ : ∃ x, n = x + 1 := ⟨n - 1, by omega⟩
        have cl : lp_X11_offerAll_0_tTx_25 n Ic Ac J t (nI d) (nI h) (nI N) I A (nI p) n I A 0 = (I, A, 0) ∧ lb_X11_offerAll_0_tTx_25 n Ic Ac J t (nI d) (nI h) (nI N) I A (nI p) n I A 0 := by
          have gen : ∀ f, lp_X11_offerAll_0_tTx_25 n Ic Ac J t (nI d) (nI h) (nI N) I A (nI p) (f + 1) I A 0 = (I, A, 0) ∧ lb_X11_offerAll_0_tTx_25 n Ic Ac J t (nI d) (nI h) (nI N) I A (nI p) (f + 1) I A 0 := fun f => by
            unfold lp_X11_offerAll_0_tTx_25 lb_X11_offerAll_0_tTx_25
            rw [isoff.1, if_pos rfl, ite_self]
            exact ⟨rfl, fun _ => ⟨isoff.2, fun y => absurd rfl y⟩⟩
          have := gen nn
          rw [← hnn] at this
          exact this
        have eI : qIw25_X11_offerAll_0_tTx n Ic Ac J t (nI d) (nI h) (nI N) I A (nI p) = I := by unfold qIw25_X11_offerAll_0_tTx; rw [cl.1]
        have eA : qAw25_X11_offerAll_0_tTx n Ic Ac J t (nI d) (nI h) (nI N) I A (nI p) = A := by unfold qAw25_X11_offerAll_0_tTx; rw [cl.1]
        have eI2 : qIw65_X12_schedule_68 n Ir Br J2 t2 (nI d) (nI N) I43 A43 v3 (nI h) I2 B (nI p) = I2 := r2
        rw [eI, eA, eI2]
        have r4' : ∀ x, qAw65_X12_schedule_68 n Ir Br J2 t2 (nI d) (nI N) I43 A43 v3 (nI h) I2 B (nI p) 114 x = if 6 * p + 0 ≤ x ∧ x < 6 * p + M then -1 else B 114 x := r4
        have r3' : ∀ c, c ≠ 114 → qAw65_X12_schedule_68 n Ir Br J2 t2 (nI d) (nI N) I43 A43 v3 (nI h) I2 B (nI p) c = B c := r3
        obtain ⟨S1, S2, F, a, S3, S4, S5⟩ := id hS
        refine ⟨cl.2, r1, ⟨sc_keep hctx (by omega) (fun _ _ _ _ => rfl) (fun _ _ => rfl) (fun _ _ => rfl) (fun c hc => r3' c (by omega)), hAb, h58, fun i hi => by rw [r3' 117 (by decide)]; exact h117 i hi⟩, ⟨fun q m' hm' hq => ?_, fun q m' hm' hq hq10 => S2 q m' hm' (by omega) hq10, F, a, S3, ?_, fun q hq => ?_⟩, fun m' h1 h2 => S2 p m' h2 (by omega) (by omega)⟩
        · by_cases w : q = p
          · subst w
            exact Or.inl ⟨by rw [r4', if_pos (by omega)], S2 q m' (by omega) (by omega) (by omega)⟩
          · have old := S1 q m' hm' (by omega)
            unfold sc_pr at old ⊢
            rw [r4', if_neg (by omega), r3' 115 (by decide), r3' 116 (by decide)]
            exact old
        · rw [S4]
          constructor
          · rintro ⟨m', w1, -⟩; exact absurd w1 (Nat.not_lt_zero _)
          · rintro ⟨m', w1, w2⟩
            rw [r4', if_pos (by omega)] at w2
            exact absurd rfl w2
        · rw [S5 q hq]
          constructor
          · rintro ⟨m', w1, w2⟩
            exact ⟨m', w1, by rw [r4', if_neg (by omega)]; exact w2⟩
          · rintro ⟨m', w1, w2⟩
            rw [r4', if_neg (by omega)] at w2
            exact ⟨m', w1, w2⟩
    obtain ⟨m1, m2, m3, m4, m5⟩ := main
    have kI : ∀ c k', c ≠ 46 → qIw25_X11_offerAll_0_tTx n Ic Ac J t (nI d) (nI h) (nI N) I A (nI p) c k' = I c k' := fun c k' hc => fr_qIw25_X11_offerAll_0_tTx (by simp [hc])
    have kR : ∀ k', k' < 59 → qIw65_X12_schedule_68 n Ir Br J2 t2 (nI d) (nI N) I43 A43 v3 (nI h) I2 B (nI p) 68 k' = I2 68 k' := fun k' hc => fr_qIw65_X12_schedule_68 (by simp; omega)
    obtain ⟨i1, i2, i3, i4⟩ := ih (p + 1) f f2 _ _ _ _ (by omega) (by omega) (by omega) m3 (by rw [kI 9 2 (by decide)]; exact h9) (by rw [kR 40 (by omega)]; exact h40) (by rw [kI 12 3 (by decide)]; exact h12) (by rw [kR 43 (by omega)]; exact h43) (sc_next M6 m5 m4)
    unfold lb_X11_offerAll_0_tTx_10 lb_X12_schedule_68_53 lp_X11_offerAll_0_tTx_10 lp_X12_schedule_68_53
    rw [h12, h43, if_neg c, if_neg c, e86, e92]
    exact ⟨fun _ => ⟨m1, i1⟩, fun _ => ⟨m2, i2⟩, i3, i4⟩

set_option maxHeartbeats 2000000 in
theorem sc_mon60 {n : Nat} {Ic Ac I10 A10 Ir Br I43 A43 I53 A53 I0 A0 Ib Ab : Nat → Nat → Int32} {J J2 J0 : Nat → Nat → Int64} {t t2 t0 : Bool × Bool} {N m M p l d h : Nat} {v3 : Int32} {hd : Nat → Nat} {wa : Nat → Int32} (hn : 500 ≤ n) (M6 : M ≤ 6) (p10 : p < 10) (l8 : l < 8) (hdd : d < 3600) (h24 : h < 24) (el : Ab 13 p = nI l) (on1 : ¬ nI h < Ab 14 p) (on2 : nI h < Ab 15 p) (ehd : Ab 4 l = nI (hd p)) (hwa : ∀ i, i < 6 → wa i = if h = 0 then -1 else Ab 58 (6 * (h - 1) + i)) :
    ∀ (j k f f2 : Nat) (I A I2 B : Nat → Nat → Int32), k + j = M → j < f → j < f2 → sc_wo 60 n I0 A0 J0 t0 N m Ab wa I A I2 B → I 9 2 = nI M → I2 68 40 = nI M → sc_st M hd (fun q i => px_X9_aimTo_5_1 n Ib Ab J t (Ab 10 i) (Ab 13 q)) I A B p k →
    lb_X11_offerAll_0_tFx_25 n Ic Ac J t (nI d) (nI h) (nI N) I10 A10 (nI p) f I A (nI k) ∧ lb_X12_schedule_68_65 n Ir Br J2 t2 (nI d) (nI N) I43 A43 v3 (nI h) I53 A53 (nI p) f2 I2 B (nI k) ∧
    sc_wo 60 n I0 A0 J0 t0 N m Ab wa (lp_X11_offerAll_0_tFx_25 n Ic Ac J t (nI d) (nI h) (nI N) I10 A10 (nI p) f I A (nI k)).1 (lp_X11_offerAll_0_tFx_25 n Ic Ac J t (nI d) (nI h) (nI N) I10 A10 (nI p) f I A (nI k)).2.1 (lp_X12_schedule_68_65 n Ir Br J2 t2 (nI d) (nI N) I43 A43 v3 (nI h) I53 A53 (nI p) f2 I2 B (nI k)).1 (lp_X12_schedule_68_65 n Ir Br J2 t2 (nI d) (nI N) I43 A43 v3 (nI h) I53 A53 (nI p) f2 I2 B (nI k)).2.1 ∧
    sc_st M hd (fun q i => px_X9_aimTo_5_1 n Ib Ab J t (Ab 10 i) (Ab 13 q)) (lp_X11_offerAll_0_tFx_25 n Ic Ac J t (nI d) (nI h) (nI N) I10 A10 (nI p) f I A (nI k)).1 (lp_X11_offerAll_0_tFx_25 n Ic Ac J t (nI d) (nI h) (nI N) I10 A10 (nI p) f I A (nI k)).2.1 (lp_X12_schedule_68_65 n Ir Br J2 t2 (nI d) (nI N) I43 A43 v3 (nI h) I53 A53 (nI p) f2 I2 B (nI k)).2.1 p M := by
  have cp : (nI p).toNatClampNeg = p := nI_clamp (by omega)
  have vp : vp_in (nI p) 10 := vp_in_nI p10 (by decide)
  intro j
  induction j with
  | zero =>
    intro k f f2 I A I2 B hk hf hf2 hw h9 h40 hS
    obtain ⟨f, rfl⟩ : ∃ x, f = x + 1 := ⟨f - 1, by omega⟩
    obtain ⟨f2, rfl⟩ : ∃ x, f2 = x + 1 := ⟨f2 - 1, by omega⟩
    have : k = M := by omega
    subst this
    have c : nI k ≤ nI k := nI_le (Nat.le_refl _) (by omega)
    unfold lb_X11_offerAll_0_tFx_25 lb_X12_schedule_68_65 lp_X11_offerAll_0_tFx_25 lp_X12_schedule_68_65
    rw [h9, h40, if_pos c, if_pos c]
    exact ⟨fun z => absurd c z, fun z => absurd c z, hw, hS⟩
  | succ j ih =>
    intro k f f2 I A I2 B hk hf hf2 hw h9 h40 hS
    obtain ⟨f, rfl⟩ : ∃ x, f = x + 1 := ⟨f - 1, by omega⟩
    obtain ⟨f2, rfl⟩ : ∃ x, f2 = x + 1 := ⟨f2 - 1, by omega⟩
    have c : ¬ nI M ≤ nI k := nI_ge (by omega) (by omega)
    obtain ⟨hctx, hAb, h58, h117⟩ := id hw
    obtain ⟨S1, S2, F, a, S3, S4, S5⟩ := id hS
    have ison : px_X6_isOn_12 n I A J (false, t.2) (nI p) (nI h) = 1 ∧ pb_X6_isOn_12 n I A J (false, t.2) (nI p) (nI h) := by
      unfold px_X6_isOn_12 qs0m7_X6_isOn_12 qs0m17_X6_isOn_12 pb_X6_isOn_12
      rw [cp, hAb 14 (by omega), hAb 15 (by omega), if_neg on1, if_neg (Int32.not_le.mpr on2)]
      exact ⟨rfl, vp, fun _ => vp⟩
    have o1 : ¬ (1 : Int32) = 0 := by decide
    obtain ⟨ap, am1⟩ := sc_am (n := n) (I := I) (A := A) (J := J) (t := (false, t.2)) h24 (i := k) (by omega)
    obtain ⟨q1, q2, q3, q4, I', A', eI', eA', q5, ⟨a', q6, q7⟩, q8⟩ := sc_pair60 (n := n) (J := J) (J2 := J2) (t := t) (t2 := t2) (hd := hd p) (i := k) (d := d) (h := h) hn p10 (by omega) l8 hdd h24 hctx (by rw [hAb 13 (by omega)]; exact el) (by rw [hAb 14 (by omega)]; exact on1) (by rw [hAb 15 (by omega)]; exact on2) (by rw [hAb 4 (by omega)]; exact ehd) S3 (S2 p k (by omega) (by omega) p10) (by rw [am1, h58, h117 k (by omega), hwa k (by omega)])
    have eqI : qIm66_X11_offerAll_0_tFx n Ic Ac J t (nI d) (nI h) (nI N) I10 A10 (nI p) I A (nI k) = I' := by
      rw [eI']; rfl
    have eqA : qAm66_X11_offerAll_0_tFx n Ic Ac J t (nI d) (nI h) (nI N) I10 A10 (nI p) I A (nI k) = A' := by
      rw [eA']; rfl
    have kI : ∀ c k', c ≠ 46 → I' c k' = I c k' := fun c k' hc => by
      rw [eI']
      split
      · rfl
      · exact fr_pI_X11_offer_0_tFx (by simp [hc])
    have kA : ∀ c, c ≠ 45 → c ≠ 47 → c ≠ 48 → c ≠ 49 → c ≠ 51 → c ≠ 67 → A' c = A c := fun c h1 h2 h3 h4 h5 h6 => by
      rw [eA']
      split
      · rfl
      · exact fr_pA_X11_offer_0_tFx (by simp [h1, h2, h3, h4, h5, h6])
    have kB : ∀ c, c < 107 ∨ c = 117 → pA_X12_fits_68 n I2 B J2 t2 (nI p) (nI k) (nI d) (nI h) (nI N) c = B c := fun c hc => fr_pA_X12_fits_68 (by simp; omega)
    have kR : ∀ k', k' < 59 → pI_X12_fits_68 n I2 B J2 t2 (nI p) (nI k) (nI d) (nI h) (nI N) 68 k' = I2 68 k' := fun k' hc => fr_pI_X12_fits_68 (by simp; omega)
    have e80 : q80_X11_offerAll_0_tFx n Ic Ac J t (nI d) (nI h) (nI N) I10 A10 (nI p) I A (nI k) = nI (k + 1) := nI_1 k
    have e86 : q86_X12_schedule_68 n Ir Br J2 t2 (nI d) (nI N) I43 A43 v3 (nI h) I53 A53 (nI p) I2 B (nI k) = nI (k + 1) := nI_1 k
    have eaim : px_X9_aimTo_5_1 n I A J t (A 10 k) (nI l) = px_X9_aimTo_5_1 n Ib Ab J t (Ab 10 k) (Ab 13 p) := by
      rw [hAb 10 (by omega), el]
      exact sc_aim (hAb 2 (by omega)) (hAb 3 (by omega)) (hAb 6 (by omega)) (hAb 7 (by omega))
    obtain ⟨i1, i2, i3, i4⟩ := ih (k + 1) f f2 I' A' (pI_X12_fits_68 n I2 B J2 t2 (nI p) (nI k) (nI d) (nI h) (nI N)) (pA_X12_fits_68 n I2 B J2 t2 (nI p) (nI k) (nI d) (nI h) (nI N)) (by omega) (by omega) (by omega)
      ⟨sc_keep hctx (by omega) (fun c k' h1 h2 => kI c k' h1) (fun c hc => kA c (by omega) (by omega) (by omega) (by omega) (by omega) (by omega)) kR (fun c hc => kB c (by omega)), fun c hc => by rw [kA c (by omega) (by omega) (by omega) (by omega) (by omega) (by omega)]; exact hAb c hc, by rw [kA 58 (by decide) (by decide) (by decide) (by decide) (by decide) (by decide)]; exact h58, fun i hi => by rw [kB 117 (by omega)]; exact h117 i hi⟩
      (by rw [kI 9 2 (by decide)]; exact h9) (by rw [kR 40 (by omega)]; exact h40)
      (by
        refine ⟨fun q m' hm' hq => ?_, fun q m' hm' hq hq10 => ?_, F, a', q6, ?_, fun q hq => ?_⟩
        · by_cases w : q = p ∧ m' = k
          · obtain ⟨w1, w2⟩ := w
            subst w1; subst w2
            rw [eaim] at q5; exact q5
          · have ne : ¬ 6 * q + m' = 6 * p + k := by omega
            obtain ⟨y1, y2, y3, y4, y5, y6⟩ := q8 (6 * q + m') ne
            have old := S1 q m' hm' (by omega)
            unfold sc_pr at old ⊢
            rw [y1, y2, y3, y4, y5, y6]
            exact old
        · have ne : ¬ 6 * q + m' = 6 * p + k := by omega
          rw [(q8 _ ne).1]
          exact S2 q m' hm' (by omega) hq10
        · rw [q7]
          constructor
          · intro y
            rcases y with y | y
            · obtain ⟨m', w1, w2⟩ := S4.mp y
              refine ⟨m', by omega, ?_⟩
              rw [(q8 (6 * p + m') (by omega)).2.2.2.1]
              exact w2
            · exact ⟨k, by omega, y⟩
          · rintro ⟨m', w1, w2⟩
            by_cases w : m' = k
            · subst w; exact Or.inr w2
            · refine Or.inl (S4.mpr ⟨m', by omega, ?_⟩)
              rw [(q8 (6 * p + m') (by omega)).2.2.2.1] at w2
              exact w2
        · rw [S5 q hq]
          constructor
          · rintro ⟨m', w1, w2⟩
            refine ⟨m', w1, ?_⟩
            rw [(q8 (6 * q + m') (by omega)).2.2.2.1]
            exact w2
          · rintro ⟨m', w1, w2⟩
            refine ⟨m', w1, ?_⟩
            rw [(q8 (6 * q + m') (by omega)).2.2.2.1] at w2
            exact w2)
    unfold lb_X11_offerAll_0_tFx_25 lb_X12_schedule_68_65 lp_X11_offerAll_0_tFx_25 lp_X12_schedule_68_65
    rw [h9, h40, if_neg c, if_neg c, ison.1, if_neg o1, eqI, eqA, e80, e86]
    exact ⟨fun _ => ⟨ison.2, fun _ => ⟨q1, q2 ap, q3, i1⟩⟩, fun _ => ⟨q4, i2⟩, i3, i4⟩
set_option maxHeartbeats 2000000 in
/-- all programmes -/
theorem sc_all60 {n : Nat} {Ic Ac Ir Br I43 A43 I0 A0 Ib Ab : Nat → Nat → Int32} {J J2 J0 : Nat → Nat → Int64} {t t2 t0 : Bool × Bool} {N m M P d h : Nat} {v3 : Int32} {hd : Nat → Nat} {wa : Nat → Int32} (hn : 500 ≤ n) (M6 : M ≤ 6) (P10 : P ≤ 10) (hdd : d < 3600) (h24 : h < 24) (hl : ∀ p, p < 10 → ∃ l, l < 8 ∧ Ab 13 p = nI l ∧ Ab 4 l = nI (hd p)) (hwa : ∀ i, i < 6 → wa i = if h = 0 then -1 else Ab 58 (6 * (h - 1) + i)) :
    ∀ (j p f f2 : Nat) (I A I2 B : Nat → Nat → Int32), p + j = P → j < f → j < f2 → sc_wo 60 n I0 A0 J0 t0 N m Ab wa I A I2 B → I 9 2 = nI M → I2 68 40 = nI M → I 12 3 = nI P → I2 68 43 = nI P → sc_st M hd (fun q i => px_X9_aimTo_5_1 n Ib Ab J t (Ab 10 i) (Ab 13 q)) I A B p 0 →
    lb_X11_offerAll_0_tFx_10 n Ic Ac J t (nI d) (nI h) (nI N) f I A (nI p) ∧ lb_X12_schedule_68_53 n Ir Br J2 t2 (nI d) (nI N) I43 A43 v3 (nI h) f2 I2 B (nI p) ∧
    sc_wo 60 n I0 A0 J0 t0 N m Ab wa (lp_X11_offerAll_0_tFx_10 n Ic Ac J t (nI d) (nI h) (nI N) f I A (nI p)).1 (lp_X11_offerAll_0_tFx_10 n Ic Ac J t (nI d) (nI h) (nI N) f I A (nI p)).2.1 (lp_X12_schedule_68_53 n Ir Br J2 t2 (nI d) (nI N) I43 A43 v3 (nI h) f2 I2 B (nI p)).1 (lp_X12_schedule_68_53 n Ir Br J2 t2 (nI d) (nI N) I43 A43 v3 (nI h) f2 I2 B (nI p)).2.1 ∧
    sc_st M hd (fun q i => px_X9_aimTo_5_1 n Ib Ab J t (Ab 10 i) (Ab 13 q)) (lp_X11_offerAll_0_tFx_10 n Ic Ac J t (nI d) (nI h) (nI N) f I A (nI p)).1 (lp_X11_offerAll_0_tFx_10 n Ic Ac J t (nI d) (nI h) (nI N) f I A (nI p)).2.1 (lp_X12_schedule_68_53 n Ir Br J2 t2 (nI d) (nI N) I43 A43 v3 (nI h) f2 I2 B (nI p)).2.1 P 0 := by
  intro j
  induction j with
  | zero =>
    intro p f f2 I A I2 B hk hf hf2 hw h9 h40 h12 h43 hS
    obtain ⟨f, rfl⟩ : ∃ x, f = x + 1 := ⟨f - 1, by omega⟩
    obtain ⟨f2, rfl⟩ : ∃ x, f2 = x + 1 := ⟨f2 - 1, by omega⟩
    have : p = P := by omega
    subst this
    have c : nI p ≤ nI p := nI_le (Nat.le_refl _) (by omega)
    unfold lb_X11_offerAll_0_tFx_10 lb_X12_schedule_68_53 lp_X11_offerAll_0_tFx_10 lp_X12_schedule_68_53
    rw [h12, h43, if_pos c, if_pos c]
    exact ⟨fun z => absurd c z, fun z => absurd c z, hw, hS⟩
  | succ j ih =>
    intro p f f2 I A I2 B hk hf hf2 hw h9 h40 h12 h43 hS
    obtain ⟨f, rfl⟩ : ∃ x, f = x + 1 := ⟨f - 1, by omega⟩
    obtain ⟨f2, rfl⟩ : ∃ x, f2 = x + 1 := ⟨f2 - 1, by omega⟩
    have c : ¬ nI P ≤ nI p := nI_ge (by omega) (by omega)
    have z0 : nI 0 = 0 := nI_0
    obtain ⟨l, l8, el, ehd⟩ := hl p (by omega)
    have e86 : q86_X11_offerAll_0_tFx n Ic Ac J t (nI d) (nI h) (nI N) I A (nI p) = nI (p + 1) := nI_1 p
    have e92 : q92_X12_schedule_68 n Ir Br J2 t2 (nI d) (nI N) I43 A43 v3 (nI h) I2 B (nI p) = nI (p + 1) := nI_1 p
    have main : lb_X11_offerAll_0_tFx_25 n Ic Ac J t (nI d) (nI h) (nI N) I A (nI p) n I A 0 ∧ lb_X12_schedule_68_65 n Ir Br J2 t2 (nI d) (nI N) I43 A43 v3 (nI h) I2 B (nI p) n I2 B 0 ∧ sc_wo 60 n I0 A0 J0 t0 N m Ab wa (qIw25_X11_offerAll_0_tFx n Ic Ac J t (nI d) (nI h) (nI N) I A (nI p)) (qAw25_X11_offerAll_0_tFx n Ic Ac J t (nI d) (nI h) (nI N) I A (nI p)) (qIw65_X12_schedule_68 n Ir Br J2 t2 (nI d) (nI N) I43 A43 v3 (nI h) I2 B (nI p)) (qAw65_X12_schedule_68 n Ir Br J2 t2 (nI d) (nI N) I43 A43 v3 (nI h) I2 B (nI p)) ∧ sc_st M hd (fun q i => px_X9_aimTo_5_1 n Ib Ab J t (Ab 10 i) (Ab 13 q)) (qIw25_X11_offerAll_0_tFx n Ic Ac J t (nI d) (nI h) (nI N) I A (nI p)) (qAw25_X11_offerAll_0_tFx n Ic Ac J t (nI d) (nI h) (nI N) I A (nI p)) (qAw65_X12_schedule_68 n Ir Br J2 t2 (nI d) (nI N) I43 A43 v3 (nI h) I2 B (nI p)) p M ∧ (∀ m, M ≤ m → m < 6 → qAw25_X11_offerAll_0_tFx n Ic Ac J t (nI d) (nI h) (nI N) I A (nI p) 47 (6 * p + m) = 0) := by
      by_cases on : ¬ nI h < Ab 14 p ∧ nI h < Ab 15 p
      · have r := sc_mon60 (n := n) (Ic := Ic) (Ac := Ac) (I10 := I) (A10 := A) (Ir := Ir) (Br := Br) (I43 := I43) (A43 := A43) (I53 := I2) (A53 := B) (Ib := Ib) (J := J) (J2 := J2) (t := t) (t2 := t2) (v3 := v3) (d := d) hn M6 (p := p) (by omega) l8 hdd h24 el on.1 on.2 ehd hwa M 0 n n I A I2 B (by omega) (by omega) (by omega) hw h9 h40 hS
        rw [z0] at r
        refine ⟨r.1, r.2.1, r.2.2.1, r.2.2.2, fun m' h1 h2 => ?_⟩
        exact r.2.2.2.2.1 p m' h2 (by omega) (by omega)
      · obtain ⟨hctx, hAb, h58, h117⟩ := id hw
        have cp : (nI p).toNatClampNeg = p := nI_clamp (by omega)
        have vp : vp_in (nI p) 10 := vp_in_nI (by omega) (by decide)
        obtain ⟨-, pr2, pr3, -⟩ := hctx.1.2.2.2.1.2 p (by omega)
        have off : nI h < B 95 p ∨ ¬ nI h < B 96 p := by
          rw [← pr2, ← pr3, hAb 14 (by omega), hAb 15 (by omega)]
          by_cases w : nI h < Ab 14 p
          · exact Or.inl w
          · exact Or.inr (fun y => on ⟨w, y⟩)
        have isoff : px_X6_isOn_12 n I A J (false, t.2) (nI p) (nI h) = 0 ∧ pb_X6_isOn_12 n I A J (false, t.2) (nI p) (nI h) := by
          unfold px_X6_isOn_12 qs0m7_X6_isOn_12 qs0m17_X6_isOn_12 pb_X6_isOn_12
          rw [cp, hAb 14 (by omega), hAb 15 (by omega)]
          refine ⟨?_, vp, fun _ => vp⟩
          by_cases w : nI h < Ab 14 p
          · rw [if_pos w]
          · rw [if_neg w, if_pos (Int32.not_lt.mp (fun y => on ⟨w, y⟩))]
        obtain ⟨r1, r2, r3, r4⟩ := sc_moff (n := n) (I0 := Ir) (B0 := Br) (I43 := I43) (A43 := A43) (I53 := I2) (A53 := B) (J2 := J2) (t2 := t2) (v3 := v3) (d := d) (N := N) M6 (p := p) (by omega) B off M 0 n I2 B (by omega) (by omega) h40 (fun _ _ => rfl)
        rw [z0] at r1 r2 r3 r4
        obtain ⟨nn, hnn⟩ : ∃ x, n = x + 1 := ⟨n - 1, by omega⟩
        have cl : lp_X11_offerAll_0_tFx_25 n Ic Ac J t (nI d) (nI h) (nI N) I A (nI p) n I A 0 = (I, A, 0) ∧ lb_X11_offerAll_0_tFx_25 n Ic Ac J t (nI d) (nI h) (nI N) I A (nI p) n I A 0 := by
          have gen : ∀ f, lp_X11_offerAll_0_tFx_25 n Ic Ac J t (nI d) (nI h) (nI N) I A (nI p) (f + 1) I A 0 = (I, A, 0) ∧ lb_X11_offerAll_0_tFx_25 n Ic Ac J t (nI d) (nI h) (nI N) I A (nI p) (f + 1) I A 0 := fun f => by
            unfold lp_X11_offerAll_0_tFx_25 lb_X11_offerAll_0_tFx_25
            rw [isoff.1, if_pos rfl, ite_self]
            exact ⟨rfl, fun _ => ⟨isoff.2, fun y => absurd rfl y⟩⟩
          have := gen nn
          rw [← hnn] at this
          exact this
        have eI : qIw25_X11_offerAll_0_tFx n Ic Ac J t (nI d) (nI h) (nI N) I A (nI p) = I := by unfold qIw25_X11_offerAll_0_tFx; rw [cl.1]
        have eA : qAw25_X11_offerAll_0_tFx n Ic Ac J t (nI d) (nI h) (nI N) I A (nI p) = A := by unfold qAw25_X11_offerAll_0_tFx; rw [cl.1]
        have eI2 : qIw65_X12_schedule_68 n Ir Br J2 t2 (nI d) (nI N) I43 A43 v3 (nI h) I2 B (nI p) = I2 := r2
        rw [eI, eA, eI2]
        have r4' : ∀ x, qAw65_X12_schedule_68 n Ir Br J2 t2 (nI d) (nI N) I43 A43 v3 (nI h) I2 B (nI p) 114 x = if 6 * p + 0 ≤ x ∧ x < 6 * p + M then -1 else B 114 x := r4
        have r3' : ∀ c, c ≠ 114 → qAw65_X12_schedule_68 n Ir Br J2 t2 (nI d) (nI N) I43 A43 v3 (nI h) I2 B (nI p) c = B c := r3
        obtain ⟨S1, S2, F, a, S3, S4, S5⟩ := id hS
        refine ⟨cl.2, r1, ⟨sc_keep hctx (by omega) (fun _ _ _ _ => rfl) (fun _ _ => rfl) (fun _ _ => rfl) (fun c hc => r3' c (by omega)), hAb, h58, fun i hi => by rw [r3' 117 (by decide)]; exact h117 i hi⟩, ⟨fun q m' hm' hq => ?_, fun q m' hm' hq hq10 => S2 q m' hm' (by omega) hq10, F, a, S3, ?_, fun q hq => ?_⟩, fun m' h1 h2 => S2 p m' h2 (by omega) (by omega)⟩
        · by_cases w : q = p
          · subst w
            exact Or.inl ⟨by rw [r4', if_pos (by omega)], S2 q m' (by omega) (by omega) (by omega)⟩
          · have old := S1 q m' hm' (by omega)
            unfold sc_pr at old ⊢
            rw [r4', if_neg (by omega), r3' 115 (by decide), r3' 116 (by decide)]
            exact old
        · rw [S4]
          constructor
          · rintro ⟨m', w1, -⟩; exact absurd w1 (Nat.not_lt_zero _)
          · rintro ⟨m', w1, w2⟩
            rw [r4', if_pos (by omega)] at w2
            exact absurd rfl w2
        · rw [S5 q hq]
          constructor
          · rintro ⟨m', w1, w2⟩
            exact ⟨m', w1, by rw [r4', if_neg (by omega)]; exact w2⟩
          · rintro ⟨m', w1, w2⟩
            rw [r4', if_neg (by omega)] at w2
            exact ⟨m', w1, w2⟩
    obtain ⟨m1, m2, m3, m4, m5⟩ := main
    have kI : ∀ c k', c ≠ 46 → qIw25_X11_offerAll_0_tFx n Ic Ac J t (nI d) (nI h) (nI N) I A (nI p) c k' = I c k' := fun c k' hc => fr_qIw25_X11_offerAll_0_tFx (by simp [hc])
    have kR : ∀ k', k' < 59 → qIw65_X12_schedule_68 n Ir Br J2 t2 (nI d) (nI N) I43 A43 v3 (nI h) I2 B (nI p) 68 k' = I2 68 k' := fun k' hc => fr_qIw65_X12_schedule_68 (by simp; omega)
    obtain ⟨i1, i2, i3, i4⟩ := ih (p + 1) f f2 _ _ _ _ (by omega) (by omega) (by omega) m3 (by rw [kI 9 2 (by decide)]; exact h9) (by rw [kR 40 (by omega)]; exact h40) (by rw [kI 12 3 (by decide)]; exact h12) (by rw [kR 43 (by omega)]; exact h43) (sc_next M6 m5 m4)
    unfold lb_X11_offerAll_0_tFx_10 lb_X12_schedule_68_53 lp_X11_offerAll_0_tFx_10 lp_X12_schedule_68_53
    rw [h12, h43, if_neg c, if_neg c, e86, e92]
    exact ⟨fun _ => ⟨m1, i1⟩, fun _ => ⟨m2, i2⟩, i3, i4⟩
