/-! the class's scanner -/
theorem cw_uu {α : Type} (f : Nat → Nat → α) (c k : Nat) (x y : α) : cw_u (cw_u f c k x) c k y = cw_u f c k y := by
  funext a b
  unfold cw_u
  by_cases h : a = c ∧ b = k
  · rw [if_pos h, if_pos h]
  · rw [if_neg h, if_neg h, if_neg h]
theorem cw_ue {α : Type} (f : Nat → Nat → α) (c k : Nat) (x : α) (h : f c k = x) : cw_u f c k x = f := by
  funext a b
  unfold cw_u
  by_cases q : a = c ∧ b = k
  · rw [if_pos q, q.1, q.2, h]
  · rw [if_neg q]
section Scan
variable {n L : Nat} {I I1 A : Nat → Nat → Int32} {J : Nat → Nat → Int64} {t : Bool × Bool}
theorem sn_blank (hL : L ≤ 2000) (h1 : I 34 1 = nI L) : ∀ (d i f : Nat), i + d = L → d < f → lb_X7_behindBlanks_34_txT_5 n I A J t f (nI i) ∧ lp_X7_behindBlanks_34_txT_5 n I A J t f (nI i) = nI (tz_run tz_bl (A 32) L i) := by
  intro d
  induction d with
  | zero =>
    intro i f hk hf
    obtain ⟨f, rfl⟩ : ∃ x, f = x + 1 := ⟨f - 1, by omega⟩
    have c : nI L ≤ nI i := nI_le (by omega) (by omega)
    unfold lb_X7_behindBlanks_34_txT_5 lp_X7_behindBlanks_34_txT_5
    rw [h1, if_pos c, tz_run_n (by omega)]
    exact ⟨fun z => absurd c z, rfl⟩
  | succ d ih =>
    intro i f hk hf
    obtain ⟨f, rfl⟩ : ∃ x, f = x + 1 := ⟨f - 1, by omega⟩
    have c : ¬ nI L ≤ nI i := nI_ge (by omega) (by omega)
    have ci : (nI i).toNatClampNeg = i := nI_clamp (by omega)
    have e25 : q25_X7_behindBlanks_34_txT n I A J t (nI i) = nI (i + 1) := nI_1 i
    obtain ⟨i1, i2⟩ := ih (i + 1) f (by omega) (by omega)
    unfold lb_X7_behindBlanks_34_txT_5 lp_X7_behindBlanks_34_txT_5
    rw [h1, if_neg c, ci, e25]
    have vi : vp_in (nI i) 2000 := vp_in_nI (by omega) (by decide)
    by_cases w : tz_bl (A 32 i) = true
    · rw [if_neg (fun z => tz_blank.mp z w), tz_run_y (by omega) w]
      exact ⟨fun _ => ⟨vi, fun _ => i1⟩, i2⟩
    · rw [if_pos (tz_blank.mpr w), tz_run_n (fun z => w z.2)]
      exact ⟨fun _ => ⟨vi, fun z => absurd (tz_blank.mpr w) z⟩, rfl⟩
theorem sn_letters (hL : L ≤ 2000) : ∀ (d i f : Nat) (I0 : Nat → Nat → Int32), i + d = L → d < f → I0 34 1 = nI L → I0 34 2 = nI i → lb_X7_scanWord_34_txT_0 n I A J t f I0 ∧ lp_X7_scanWord_34_txT_0 n I A J t f I0 = cw_u I0 34 2 (nI (tz_run tz_le (A 32) L i)) := by
  intro d
  induction d with
  | zero =>
    intro i f I0 hk hf h1 h2
    obtain ⟨f, rfl⟩ : ∃ x, f = x + 1 := ⟨f - 1, by omega⟩
    have c : nI L ≤ nI i := nI_le (by omega) (by omega)
    unfold lb_X7_scanWord_34_txT_0 lp_X7_scanWord_34_txT_0
    rw [h1, h2, if_pos c, tz_run_n (by omega), cw_ue _ _ _ _ h2]
    exact ⟨fun z => absurd c z, rfl⟩
  | succ d ih =>
    intro i f I0 hk hf h1 h2
    obtain ⟨f, rfl⟩ : ∃ x, f = x + 1 := ⟨f - 1, by omega⟩
    have c : ¬ nI L ≤ nI i := nI_ge (by omega) (by omega)
    have ci : (nI i).toNatClampNeg = i := nI_clamp (by omega)
    have e33 : qI33_X7_scanWord_34_txT n I A J t I0 = cw_u I0 34 2 (nI (i + 1)) := by
      unfold qI33_X7_scanWord_34_txT
      rw [h2, nI_1]
    obtain ⟨i1, i2⟩ := ih (i + 1) f (cw_u I0 34 2 (nI (i + 1))) (by omega) (by omega) (by rw [cw_u_k _ _ (by decide)]; exact h1) (by rw [cw_u_s])
    unfold lb_X7_scanWord_34_txT_0 lp_X7_scanWord_34_txT_0
    rw [h1, h2, if_neg c, ci, e33]
    have vi : vp_in (nI i) 2000 := vp_in_nI (by omega) (by decide)
    by_cases w : tz_le (A 32 i) = true
    · rw [if_neg (fun z => tz_letter.mp z w), tz_run_y (by omega) w, i2, cw_uu]
      exact ⟨fun _ => ⟨vi, fun _ => i1⟩, rfl⟩
    · rw [if_pos (tz_letter.mpr w), tz_run_n (fun z => w z.2), cw_ue _ _ _ _ h2]
      exact ⟨fun _ => ⟨vi, fun z => absurd (tz_letter.mpr w) z⟩, rfl⟩
theorem tz_wm_le {T : Nat → Int32} {p e k : Nat} : ∀ {m i : Nat}, i ≤ m → tz_wm T p e k m = true → tz_wm T p e k i = true := by
  intro m
  induction m with
  | zero => intro i h q; have : i = 0 := by omega
            subst this; exact q
  | succ m ih =>
    intro i h q
    by_cases w : i = m + 1
    · subst w; exact q
    · unfold tz_wm at q
      rw [Bool.and_eq_true] at q
      exact ih (by omega) q.1
theorem sn_word {p e k : Nat} (hp : p ≤ 2000) (he : e ≤ 2000) (hk : k < 15) (h4 : I 34 4 = nI p) (h2 : I 34 2 = nI e) : ∀ (j i f : Nat), i + j = 8 → j < f → tz_wm (A 32) p e k i = true → lb_X7_isWord_34_txT_2 n I A J t (nI k) f (nI i) ∧ lp_X7_isWord_34_txT_2 n I A J t (nI k) f (nI i) = if tz_wm (A 32) p e k 8 = true then 1 else 0 := by
  intro j
  induction j with
  | zero =>
    intro i f hj hf hw
    obtain ⟨f, rfl⟩ : ∃ x, f = x + 1 := ⟨f - 1, by omega⟩
    have : i = 8 := by omega
    subst this
    have c : 8 ≤ nI 8 := by decide
    unfold lb_X7_isWord_34_txT_2 lp_X7_isWord_34_txT_2
    rw [if_pos c, if_pos hw]
    exact ⟨fun z => absurd c z, rfl⟩
  | succ j ih =>
    intro i f hj hf hw
    obtain ⟨f, rfl⟩ : ∃ x, f = x + 1 := ⟨f - 1, by omega⟩
    have c : ¬ 8 ≤ nI i := nI_ge (b := 8) (by omega) (by omega)
    have e18 : qs0m18_X7_isWord_34_txT n I A J t (nI k) (nI i) = if e ≤ p + i then 32 else A 32 (p + i) := by
      unfold qs0m18_X7_isWord_34_txT
      rw [h2, h4, nI_add, nI_clamp (by omega)]
      by_cases q : e ≤ p + i
      · rw [if_pos (nI_le q (by omega)), if_pos q]
      · rw [if_neg (nI_ge (by omega) (by omega)), if_neg q]
    have ix : nI k * 8 + nI i = nI (8 * k + i) := by
      have : (8 : Int32) = nI 8 := rfl
      rw [this, pk_mul, nI_add, Nat.mul_comm]
    have e55 : q55_X7_isWord_34_txT n I A J t (nI k) (nI i) = nI (i + 1) := nI_1 i
    have ws : tz_wm (A 32) p e k (i + 1) = (tz_wm (A 32) p e k i && decide (cw_ch (nI (8 * k + i)) = if e ≤ p + i then 32 else A 32 (p + i))) := rfl
    have pbi : (¬ I 34 2 ≤ I 34 4 + nI i → vp_in (I 34 4 + nI i) 2000) := fun z => by
      rw [h2, h4, nI_add] at z
      rw [h4, nI_add]
      exact vp_in_nI (by
        have : p + i < e := Nat.lt_of_not_le (fun y => z (nI_le y (by omega)))
        omega) (by decide)
    unfold lb_X7_isWord_34_txT_2 lp_X7_isWord_34_txT_2
    rw [if_neg c, e18, ix, e55]
    have vx : vp_in (nI (8 * k + i)) 120 := vp_in_nI (by omega) (by decide)
    by_cases w : cw_ch (nI (8 * k + i)) = if e ≤ p + i then 32 else A 32 (p + i)
    · rw [if_pos w]
      have w1 : tz_wm (A 32) p e k (i + 1) = true := by rw [ws, hw, decide_eq_true w]; rfl
      obtain ⟨i1, i2⟩ := ih (i + 1) f (by omega) (by omega) w1
      exact ⟨fun _ => ⟨pbi, vx, fun _ => i1⟩, i2⟩
    · rw [if_neg w]
      have w1 : ¬ tz_wm (A 32) p e k 8 = true := fun z => by
        have := tz_wm_le (i := i + 1) (by omega) z
        rw [ws, hw, Bool.true_and, decide_eq_true_iff] at this
        exact w this
      rw [if_neg w1]
      exact ⟨fun _ => ⟨pbi, vx, fun z => absurd z w⟩, rfl⟩
theorem tz_fw_r {T : Nat → Int32} {p e : Nat} : ∀ k, tz_fw T p e k = 1 ∨ ∃ m, m < k ∧ tz_fw T p e k = 13 + m ∧ tz_wm T p e m 8 = true
  | 0 => Or.inl rfl
  | k + 1 => by
    unfold tz_fw
    rcases tz_fw_r (T := T) (p := p) (e := e) k with h | ⟨m, h1, h2, h3⟩
    · rw [if_pos h]
      by_cases w : tz_wm T p e k 8 = true
      · rw [if_pos w]; exact Or.inr ⟨k, by omega, rfl, w⟩
      · rw [if_neg w]; exact Or.inl rfl
    · rw [if_neg (by omega)]
      exact Or.inr ⟨m, by omega, h2, h3⟩
theorem tz_fw_s {T : Nat → Int32} {p e k : Nat} (h : ¬ tz_fw T p e k = 1) : ∀ j, tz_fw T p e (k + j) = tz_fw T p e k
  | 0 => rfl
  | j + 1 => by
    have ih := tz_fw_s h j
    have e1 : k + (j + 1) = (k + j) + 1 := by omega
    rw [e1]
    conv => lhs; rw [tz_fw]
    rw [ih, if_neg h]
theorem sn_words {p e : Nat} (hn : 100 ≤ n) (hp : p ≤ 2000) (he : e ≤ 2000) : ∀ (j k f : Nat) (I60 : Nat → Nat → Int32), k + j = 15 → j < f → I60 34 4 = nI p → I60 34 2 = nI e → I60 34 3 = nI (tz_fw (A 32) p e k) → lb_X7_scanWord_34_txT_60 n I A J t f I60 (nI k) ∧ (lp_X7_scanWord_34_txT_60 n I A J t f I60 (nI k)).1 = cw_u I60 34 3 (nI (tz_fw (A 32) p e 15)) := by
  intro j
  induction j with
  | zero =>
    intro k f I60 hj hf h4 h2 h3
    obtain ⟨f, rfl⟩ : ∃ x, f = x + 1 := ⟨f - 1, by omega⟩
    have : k = 15 := by omega
    subst this
    have c : 120 ≤ nI 15 * 8 := by decide
    unfold lb_X7_scanWord_34_txT_60 lp_X7_scanWord_34_txT_60
    rw [if_pos c, cw_ue _ _ _ _ h3]
    exact ⟨fun z => absurd c z, rfl⟩
  | succ j ih =>
    intro k f I60 hj hf h4 h2 h3
    obtain ⟨f, rfl⟩ : ∃ x, f = x + 1 := ⟨f - 1, by omega⟩
    have ix : nI k * 8 = nI (8 * k) := by
      have : (8 : Int32) = nI 8 := rfl
      rw [this, pk_mul, Nat.mul_comm]
    have c : ¬ 120 ≤ nI k * 8 := by rw [ix]; exact nI_ge (b := 120) (by omega) (by omega)
    have z0 : nI 0 = 0 := nI_0
    have o1 : ¬ (1 : Int32) = 0 := by decide
    have fr := tz_fw_r (T := A 32) (p := p) (e := e) k
    have i1 : nI (tz_fw (A 32) p e k) = 1 ↔ tz_fw (A 32) p e k = 1 := nI_eq (b := 1) (by
      rcases fr with q | ⟨m, q1, q2, -⟩
      · rw [q]; omega
      · rw [q2]; omega) (by omega)
    unfold lb_X7_scanWord_34_txT_60 lp_X7_scanWord_34_txT_60
    rw [if_neg c, h3]
    by_cases w : tz_fw (A 32) p e k = 1
    · rw [if_pos (i1.mpr w)]
      obtain ⟨s1, s2⟩ := sn_word (n := n) (I := I60) (A := A) (J := J) (t := (t.1, true)) (k := k) hp he (by omega) h4 h2 8 0 n (by omega) (by omega) rfl
      rw [z0] at s1 s2
      have s2' : px_X7_isWord_34_txT n I60 A J (t.1, true) (nI k) = if tz_wm (A 32) p e k 8 = true then 1 else 0 := s2
      have e97 : qI97_X7_scanWord_34_txT n I A J t I60 (nI k) = cw_u I60 34 3 (nI (tz_fw (A 32) p e (k + 1))) := by
        unfold qI97_X7_scanWord_34_txT qs1m86_X7_scanWord_34_txT
        rw [s2']
        have fs : tz_fw (A 32) p e (k + 1) = if tz_wm (A 32) p e k 8 = true then 13 + k else 1 := by
          conv => lhs; rw [tz_fw]
          rw [if_pos w]
        rw [fs]
        by_cases y : tz_wm (A 32) p e k 8 = true
        · rw [if_pos y, if_neg o1, if_pos y]
          have : (13 : Int32) + nI k = nI (13 + k) := nI_add 13 k
          rw [this]
        · rw [if_neg y, if_pos rfl, if_neg y]; rfl
      have e100 : q100_X7_scanWord_34_txT n I A J t I60 (nI k) = nI (k + 1) := nI_1 k
      obtain ⟨r1, r2⟩ := ih (k + 1) f (cw_u I60 34 3 (nI (tz_fw (A 32) p e (k + 1)))) (by omega) (by omega) (by rw [cw_u_k _ _ (by decide)]; exact h4) (by rw [cw_u_k _ _ (by decide)]; exact h2) (by rw [cw_u_s])
      rw [e97, e100, r2, cw_uu]
      exact ⟨fun _ _ => ⟨s1, r1⟩, rfl⟩
    · have nw : ¬ nI (tz_fw (A 32) p e k) = 1 := fun z => w (i1.mp z)
      rw [if_neg nw]
      have := tz_fw_s w (15 - k)
      have e1 : k + (15 - k) = 15 := by omega
      rw [e1] at this
      rw [this, cw_ue _ _ _ _ h3]
      exact ⟨fun _ z => absurd z nw, rfl⟩
theorem sn_scanWord {p : Nat} (hn : 2100 ≤ n) (hL : L ≤ 2000) (hp : p < L) (h1 : I 34 1 = nI L) (h2 : I 34 2 = nI p) (h4 : I 34 4 = nI p) : pb_X7_scanWord_34_txT n I A J t ∧ pI_X7_scanWord_34_txT n I A J t = cw_u (cw_u I 34 2 (nI (tz_run tz_le (A 32) L p))) 34 3 (nI (tz_wk (A 32) p (tz_run tz_le (A 32) L p))) := by
  obtain ⟨a1, a2⟩ := sn_letters (n := n) (I := I) (A := A) (J := J) (t := t) hL (L - p) p n I (by omega) (by omega) h1 h2
  obtain ⟨b1, b2, -, -⟩ := tz_run_b (P := tz_le) (T := A 32) (L := L) (L - p) p (by omega)
  have e41 : qI41_X7_scanWord_34_txT n I A J t = cw_u (cw_u I 34 2 (nI (tz_run tz_le (A 32) L p))) 34 3 1 := by
    unfold qI41_X7_scanWord_34_txT qIw0_X7_scanWord_34_txT
    rw [a2]
  have c2 : qI41_X7_scanWord_34_txT n I A J t 34 2 = nI (tz_run tz_le (A 32) L p) := by rw [e41, cw_u_k _ _ (by decide), cw_u_s]
  have c4 : qI41_X7_scanWord_34_txT n I A J t 34 4 = nI p := by rw [e41, cw_u_k _ _ (by decide), cw_u_k _ _ (by decide)]; exact h4
  have z0 : nI 0 = 0 := nI_0
  obtain ⟨w1, w2⟩ := sn_words (n := n) (I := I) (A := A) (J := J) (t := t) (p := p) (e := tz_run tz_le (A 32) L p) (by omega) (by omega) (by omega) 15 0 n (qI41_X7_scanWord_34_txT n I A J t) (by omega) (by omega) c4 c2 (by rw [e41, cw_u_s]; rfl)
  rw [z0] at w1 w2
  have sb : nI (tz_run tz_le (A 32) L p) - nI p = nI (tz_run tz_le (A 32) L p - p) := pk_sub b1
  unfold pb_X7_scanWord_34_txT pI_X7_scanWord_34_txT qIm55_X7_scanWord_34_txT tz_wk
  rw [c2, c4, sb]
  by_cases q : tz_run tz_le (A 32) L p - p ≤ 8
  · have y : ¬ (8 : Int32) < nI (tz_run tz_le (A 32) L p - p) := nI_nlt (a := 8) q (by omega)
    rw [if_neg y, if_pos q]
    refine ⟨⟨a1, fun _ => w1⟩, ?_⟩
    unfold qIw60_X7_scanWord_34_txT
    rw [w2, e41, cw_uu]
  · have y : nI 8 < nI (tz_run tz_le (A 32) L p - p) := nI_lt (by omega) (by omega)
    have y' : (8 : Int32) < nI (tz_run tz_le (A 32) L p - p) := y
    rw [if_pos y', if_neg q, e41]
    exact ⟨⟨a1, fun z => absurd y' z⟩, rfl⟩
end Scan
