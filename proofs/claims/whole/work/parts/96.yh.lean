/-! tokens, waiting signs, runs -/
theorem kk_le {T : Nat → Int32} {L i : Nat} : tz_k T L i ≤ 27 := by
  unfold tz_k
  split
  · omega
  · split
    · unfold tz_wk
      split
      · rcases cx_fw (T := T) (p := tz_p T L i) (e := tz_run tz_le T L (tz_p T L i)) 15 (by omega) with z | z <;> omega
      · omega
    · split
      · split <;> omega
      · unfold tz_sg
        repeat (split; · first | omega | (split <;> omega))
        omega
theorem ks_le {T : Nat → Int32} {L : Nat} : ∀ k, cz_s T L k ≤ L
  | 0 => Nat.zero_le _
  | k + 1 => by
    have ih := ks_le (T := T) (L := L) k
    show tz_j T L (cz_s T L k) ≤ L
    have rb := tz_run_b (P := tz_bl) (T := T) (L := L) (L - cz_s T L k) (cz_s T L k) (by omega)
    by_cases c : L ≤ tz_p T L (cz_s T L k)
    · unfold tz_j
      rw [if_pos c]
      exact rb.2.1
    · have b : ¬ tz_bl (T (tz_p T L (cz_s T L k))) = true := fun z => rb.2.2.1 ⟨by unfold tz_p at c; omega, z⟩
      have q := cx_pj (T := T) (L := L) (p := tz_p T L (cz_s T L k)) (by omega) b
      have e := cx_k (cx_pp (L := L) b : tz_p T L (tz_p T L (cz_s T L k)) = tz_p T L (cz_s T L k))
      rw [← e.2.2]
      exact q.2.1
theorem ks_lt {T : Nat → Int32} {L k : Nat} (h : tz_k T L (cz_s T L k) ≠ 0) : tz_p T L (cz_s T L k) < tz_p T L (cz_s T L (k + 1)) := by
  have ih := ks_le (T := T) (L := L) k
  have rb := tz_run_b (P := tz_bl) (T := T) (L := L) (L - cz_s T L k) (cz_s T L k) (by omega)
  by_cases c : L ≤ tz_p T L (cz_s T L k)
  · exfalso
    apply h
    unfold tz_k
    rw [if_pos c]
  · have b : ¬ tz_bl (T (tz_p T L (cz_s T L k))) = true := fun z => rb.2.2.1 ⟨by unfold tz_p at c; omega, z⟩
    have q := cx_pj (T := T) (L := L) (p := tz_p T L (cz_s T L k)) (by omega) b
    have e := cx_k (cx_pp (L := L) b : tz_p T L (tz_p T L (cz_s T L k)) = tz_p T L (cz_s T L k))
    rw [e.2.2] at q
    have r2 := tz_run_b (P := tz_bl) (T := T) (L := L) (L - tz_j T L (cz_s T L k)) (tz_j T L (cz_s T L k)) (by omega)
    have : tz_j T L (cz_s T L k) ≤ tz_p T L (cz_s T L (k + 1)) := r2.1
    omega
theorem ks_mono {T : Nat → Int32} {L j : Nat} : ∀ k, j < k → (∀ q, q < k → tz_k T L (cz_s T L q) ≠ 0) → tz_p T L (cz_s T L j) < tz_p T L (cz_s T L k)
  | 0, h, _ => absurd h (by omega)
  | k + 1, h, z => by
    have a := ks_lt (z k (by omega))
    by_cases e : j = k
    · rw [e]; exact a
    · have b := ks_mono (T := T) (L := L) (j := j) k (by omega) (fun q hq => z q (by omega))
      omega
theorem ks_p {T : Nat → Int32} {L k : Nat} : tz_p T L (cz_s T L k) ≤ L := by
  have ih := ks_le (T := T) (L := L) k
  exact (tz_run_b (P := tz_bl) (T := T) (L := L) (L - cz_s T L k) (cz_s T L k) (by omega)).2.1
theorem km_t : ∀ a, a ≤ 27 → ∀ m, m ≤ 27 → ¬ m = 1 → cz_t a = cz_t m → a = m := by decide +kernel
theorem km_1 : ∀ m, m ≤ 27 → ¬ m = 1 → ¬ cz_t m = 1 ∧ ¬ cz_t m = 3 := by decide +kernel
theorem km_b : ∀ m, m ≤ 27 → cz_t m ≤ 34 ∧ (20 ≤ m → cz_t m = m + 7) ∧ (m < 20 → cz_t m < 27) ∧ (7 ≤ m → m ≤ 10 → cz_t m = m + 4) ∧ (¬ (7 ≤ m ∧ m ≤ 10) → ¬ m = 1 → cz_t m < 11 ∨ 14 < cz_t m) := by decide +kernel
theorem km {κ m : Nat} {a : Int32} (hκ : κ ≤ 27) (h : cz_m κ a) (hm : m ≤ 27) (h1 : ¬ m = 1) : a = nI (cz_t m) ↔ κ = m := by
  have b1 := km_1 m hm h1
  have b2 := (km_b m hm).1
  rcases h with ⟨e, r⟩ | ⟨e, r⟩
  · constructor
    · intro y
      exfalso
      rcases r with r | r
      · rw [r] at y
        exact b1.1 ((nI_eq (a := 1) (b := cz_t m) (by omega) (by omega)).1 y).symm
      · rw [r] at y
        exact b1.2 ((nI_eq (a := 3) (b := cz_t m) (by omega) (by omega)).1 y).symm
    · intro y; omega
  · rw [r]
    constructor
    · intro y
      exact km_t κ hκ m hm h1 ((nI_eq (by have := (km_b κ hκ).1; omega) (by omega)).1 y)
    · intro y; rw [y]
theorem km_var {κ : Nat} {a : Int32} (hκ : κ ≤ 27) (h : cz_m κ a) : (¬ a < 27 ↔ 20 ≤ κ) ∧ (20 ≤ κ → a = nI (κ + 7)) ∧ ¬ 34 < a := by
  have b := km_b κ hκ
  rcases h with ⟨e, r⟩ | ⟨e, r⟩
  · refine ⟨⟨fun y => ?_, fun y => by omega⟩, fun y => by omega, ?_⟩
    · rcases r with r | r <;> rw [r] at y <;> exact absurd (by decide) y
    · rcases r with r | r <;> rw [r] <;> decide
  · rw [r]
    refine ⟨⟨fun y => ?_, fun y => ?_⟩, fun y => ?_, ?_⟩
    · exact Nat.le_of_not_lt fun z => y (nI_lt (b := 27) (b.2.2.1 z) (by decide))
    · exact nI_nlt (a := cz_t κ) (b := 27) (by have := b.2.1 y; omega) (by omega)
    · rw [b.2.1 y]
    · exact nI_nlt (a := 34) (b := cz_t κ) b.1 (by decide)
theorem km_rel {κ : Nat} {a : Int32} (hκ : κ ≤ 27) (h : cz_m κ a) : ((7 ≤ κ ∧ κ ≤ 10) → a - 11 = nI (κ - 7)) ∧ (¬ (7 ≤ κ ∧ κ ≤ 10) → a - 11 < 0 ∨ 3 < a - 11) := by
  revert h
  have key : ∀ κ, κ ≤ 27 → ¬ κ = 1 → ((7 ≤ κ ∧ κ ≤ 10) → nI (cz_t κ) - 11 = nI (κ - 7)) ∧ (¬ (7 ≤ κ ∧ κ ≤ 10) → nI (cz_t κ) - 11 < 0 ∨ 3 < nI (cz_t κ) - 11) := by decide +kernel
  intro h
  rcases h with ⟨e, r⟩ | ⟨e, r⟩
  · refine ⟨fun y => by omega, fun _ => ?_⟩
    rcases r with r | r <;> rw [r] <;> decide
  · rw [r]; exact key κ hκ e
def wm (a b : Int32) : Prop := (a = 4 ∧ b = 8) ∨ (a = 5 ∧ b = 9) ∨ (a = 6 ∧ b = 10) ∨ (a = 11 ∧ b = 6)
/-- the signs that wait: m of them, d brackets, D others; e: what lies above the last bracket (none, a sum, a product, a product upon a sum) -/
def sh (row : Nat → Int32) : Nat → Nat → Nat → Nat → Prop
  | 0, d, e, D => d = 0 ∧ e = 0 ∧ D = 0
  | m + 1, d, e, D => (row m = 11 ∧ e = 0 ∧ ∃ d' e', d = d' + 1 ∧ sh row m d' e' D) ∨ ((row m = 4 ∨ row m = 5) ∧ e = 1 ∧ ∃ D', D = D' + 1 ∧ sh row m d 0 D') ∨ (row m = 6 ∧ ∃ D', D = D' + 1 ∧ ((e = 2 ∧ sh row m d 0 D') ∨ (e = 3 ∧ sh row m d 1 D')))
theorem sh_b {row : Nat → Int32} : ∀ m d e D, sh row m d e D → m = d + D ∧ e ≤ 3 ∧ D ≤ 2 * d + 2 ∧ (e = 0 → D ≤ 2 * d) ∧ (e = 1 ∨ e = 2 → D ≤ 2 * d + 1)
  | 0, d, e, D, h => by
    obtain ⟨a, b, c⟩ := h
    omega
  | m + 1, d, e, D, h => by
    rcases h with ⟨_, a, d', e', b, c⟩ | ⟨_, a, D', b, c⟩ | ⟨_, D', b, ⟨a, c⟩ | ⟨a, c⟩⟩
    · have ih := sh_b m d' e' D c; omega
    · have ih := sh_b m d 0 D' c; omega
    · have ih := sh_b m d 0 D' c; omega
    · have ih := sh_b m d 1 D' c; omega
theorem sh_c {row row' : Nat → Int32} : ∀ m d e D, (∀ i, i < m → row' i = row i) → sh row m d e D → sh row' m d e D
  | 0, _, _, _, _, h => h
  | m + 1, d, e, D, q, h => by
    have qm := q m (by omega)
    have q' : ∀ i, i < m → row' i = row i := fun i hi => q i (by omega)
    unfold sh
    rw [qm]
    rcases h with ⟨a0, a, d', e', b, c⟩ | ⟨a0, a, D', b, c⟩ | ⟨a0, D', b, ⟨a, c⟩ | ⟨a, c⟩⟩
    · exact Or.inl ⟨a0, a, d', e', b, sh_c m d' e' D q' c⟩
    · exact Or.inr (Or.inl ⟨a0, a, D', b, sh_c m d 0 D' q' c⟩)
    · exact Or.inr (Or.inr ⟨a0, D', b, Or.inl ⟨a, sh_c m d 0 D' q' c⟩⟩)
    · exact Or.inr (Or.inr ⟨a0, D', b, Or.inr ⟨a, sh_c m d 1 D' q' c⟩⟩)
theorem sh_0 {row : Nat → Int32} {m d D : Nat} (h : sh row m d 0 D) : m = 0 ∨ row (m - 1) = 11 := by
  cases m with
  | zero => exact Or.inl rfl
  | succ m =>
    rcases h with ⟨a, _⟩ | ⟨_, a, _⟩ | ⟨_, D', b, ⟨a, c⟩ | ⟨a, c⟩⟩
    · exact Or.inr a
    · omega
    · omega
    · omega
theorem sh_all {row : Nat → Int32} {m d e D : Nat} (h : sh row m d e D) : ∃ j, j ≤ m ∧ j ≤ D ∧ (∀ i, i < j → row (m - 1 - i) = 4 ∨ row (m - 1 - i) = 5 ∨ row (m - 1 - i) = 6) ∧ (j = m ∨ row (m - 1 - j) = 11) ∧ sh row (m - j) d 0 (D - j) := by
  have z0 : e = 0 → ∃ j, j ≤ m ∧ j ≤ D ∧ (∀ i, i < j → row (m - 1 - i) = 4 ∨ row (m - 1 - i) = 5 ∨ row (m - 1 - i) = 6) ∧ (j = m ∨ row (m - 1 - j) = 11) ∧ sh row (m - j) d 0 (D - j) := by
    intro e0
    subst e0
    refine ⟨0, by omega, by omega, fun i hi => absurd hi (by omega), ?_, h⟩
    rcases sh_0 h with a | a
    · exact Or.inl a.symm
    · exact Or.inr a
  cases m with
  | zero => exact z0 h.2.1
  | succ m =>
    rcases h with ⟨a0, a, d', e', b, c⟩ | ⟨a0, a, D', b, c⟩ | ⟨a0, D', b, ⟨a, c⟩ | ⟨a, c⟩⟩
    · exact z0 a
    · refine ⟨1, by omega, by omega, fun i hi => ?_, ?_, ?_⟩
      · have e0 : i = 0 := by omega
        subst e0
        rcases a0 with a0 | a0
        · exact Or.inl a0
        · exact Or.inr (Or.inl a0)
      · rcases sh_0 c with y | y
        · left; omega
        · right; exact y
      · subst b; exact c
    · refine ⟨1, by omega, by omega, fun i hi => ?_, ?_, ?_⟩
      · have e0 : i = 0 := by omega
        subst e0
        exact Or.inr (Or.inr a0)
      · rcases sh_0 c with y | y
        · left; omega
        · right; exact y
      · subst b; exact c
    · cases m with
      | zero => exact absurd c.2.1 (by decide)
      | succ m =>
        rcases c with ⟨_, a, _⟩ | ⟨c0, _, D2, b2, c2⟩ | ⟨_, D2, b2, ⟨a, c⟩ | ⟨a, c⟩⟩
        · exact absurd a (by decide)
        · refine ⟨2, by omega, by omega, fun i hi => ?_, ?_, ?_⟩
          · by_cases e0 : i = 0
            · subst e0; exact Or.inr (Or.inr a0)
            · have e1 : i = 1 := by omega
              subst e1
              rcases c0 with c0 | c0
              · exact Or.inl c0
              · exact Or.inr (Or.inl c0)
          · rcases sh_0 c2 with y | y
            · left; omega
            · right; exact y
          · subst b; subst b2; exact c2
        · exact absurd a (by decide)
        · exact absurd a (by decide)
theorem sh_times {row : Nat → Int32} {m d e D : Nat} (h : sh row m d e D) : ∃ j, j ≤ m ∧ j ≤ D ∧ (∀ i, i < j → row (m - 1 - i) = 6) ∧ (j = m ∨ row (m - 1 - j) = 11 ∨ row (m - 1 - j) = 4 ∨ row (m - 1 - j) = 5) ∧ (sh row (m - j) d 0 (D - j) ∨ sh row (m - j) d 1 (D - j)) := by
  cases m with
  | zero =>
    refine ⟨0, by omega, by omega, fun i hi => absurd hi (by omega), Or.inl rfl, Or.inl ?_⟩
    have e0 : e = 0 := h.2.1
    subst e0; exact h
  | succ m =>
    have h2 := h
    rcases h with ⟨a0, a, d', e', b, c⟩ | ⟨a0, a, D', b, c⟩ | ⟨a0, D', b, ⟨a, c⟩ | ⟨a, c⟩⟩
    · subst a
      exact ⟨0, by omega, by omega, fun i hi => absurd hi (by omega), Or.inr (Or.inl a0), Or.inl h2⟩
    · subst a
      exact ⟨0, by omega, by omega, fun i hi => absurd hi (by omega), Or.inr (Or.inr a0), Or.inr h2⟩
    · refine ⟨1, by omega, by omega, fun i hi => ?_, ?_, Or.inl ?_⟩
      · have e0 : i = 0 := by omega
        subst e0; exact a0
      · rcases sh_0 c with y | y
        · left; omega
        · right; left; exact y
      · subst b; exact c
    · refine ⟨1, by omega, by omega, fun i hi => ?_, ?_, Or.inr ?_⟩
      · have e0 : i = 0 := by omega
        subst e0; exact a0
      · cases m with
        | zero => exact absurd c.2.1 (by decide)
        | succ m =>
          rcases c with ⟨_, a, _⟩ | ⟨c0, _⟩ | ⟨_, D2, b2, ⟨a, c⟩ | ⟨a, c⟩⟩
          · exact absurd a (by decide)
          · right; right; exact c0
          · exact absurd a (by decide)
          · exact absurd a (by decide)
      · subst b; exact c
theorem sh_pop {row : Nat → Int32} {m d D : Nat} (h : sh row m (d + 1) 0 D) : ∃ m' e', m = m' + 1 ∧ row m' = 11 ∧ sh row m' d e' D := by
  cases m with
  | zero => exact absurd h.1 (by omega)
  | succ m =>
    rcases h with ⟨a0, a, d', e', b, c⟩ | ⟨a0, a, _⟩ | ⟨a0, D', b, ⟨a, c⟩ | ⟨a, c⟩⟩
    · have e : d' = d := by omega
      subst e
      exact ⟨m, e', rfl, a0, c⟩
    · omega
    · omega
    · omega
theorem tyr_c {co co' : Nat → Int32} : ∀ k a d e, (∀ p, a ≤ p → p < a + k → co' p = co p) → ty_run co k a d e → ty_run co' k a d e
  | 0, _, _, _, _, h => h
  | k + 1, a, d, e, q, h => by
    unfold ty_run
    rw [q a (by omega) (by omega)]
    have q' : ∀ p, a + 1 ≤ p → p < a + 1 + k → co' p = co p := fun p h1 h2 => q p (by omega) (by omega)
    rcases h with ⟨x, y, z⟩ | ⟨x, y, z⟩
    · exact Or.inl ⟨x, y, tyr_c k _ _ _ q' z⟩
    · exact Or.inr ⟨x, y, tyr_c k _ _ _ q' z⟩
theorem tyr_u {co : Nat → Int32} : ∀ k a d e, ty_run co k a d e → ¬ 2 ≤ co (a + k) → e + 1 ≤ 15 → ty_run co (k + 1) a d (e + 1)
  | 0, a, d, e, h, u, w => by
    have h' : d = e := h
    subst h'
    exact Or.inl ⟨u, w, rfl⟩
  | k + 1, a, d, e, h, u, w => by
    have ea : a + (k + 1) = a + 1 + k := by omega
    rw [ea] at u
    rcases h with ⟨x, y, z⟩ | ⟨x, y, z⟩
    · exact Or.inl ⟨x, y, tyr_u k (a + 1) _ _ z u w⟩
    · exact Or.inr ⟨x, y, tyr_u k (a + 1) _ _ z u w⟩
theorem tyr_s {co : Nat → Int32} : ∀ k a d e, ty_run co k a d e → 2 ≤ co (a + k) → 2 ≤ e → ty_run co (k + 1) a d (e - 1)
  | 0, a, d, e, h, u, w => by
    have h' : d = e := h
    subst h'
    exact Or.inr ⟨u, w, rfl⟩
  | k + 1, a, d, e, h, u, w => by
    have ea : a + (k + 1) = a + 1 + k := by omega
    rw [ea] at u
    rcases h with ⟨x, y, z⟩ | ⟨x, y, z⟩
    · exact Or.inl ⟨x, y, tyr_s k (a + 1) _ _ z u w⟩
    · exact Or.inr ⟨x, y, tyr_s k (a + 1) _ _ z u w⟩
theorem tyr_p {co : Nat → Int32} {k a d e : Nat} (h : ty_run co k a d e) : ∀ j, (∀ i, i < j → 2 ≤ co (a + k + i)) → j + 1 ≤ e → ty_run co (k + j) a d (e - j)
  | 0, _, _ => h
  | j + 1, q, w => by
    have ih := tyr_p h j (fun i hi => q i (by omega)) (by omega)
    have r := tyr_s (k + j) a d (e - j) ih (by have := q j (by omega); rw [Nat.add_assoc] at this; exact this) (by omega)
    have e1 : e - j - 1 = e - (j + 1) := by omega
    rw [e1] at r
    exact r
