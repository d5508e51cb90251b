/-! the reference's bytes, letters, keys -/
theorem by_pos : ∀ k, k < 128 → nI k &&& 255 = nI k := by decide +kernel
theorem by_neg : ∀ k, k < 129 → 0 < k → (0 - nI k) &&& 255 = nI (256 - k) := by decide +kernel
/-- a byte and what the reference makes of it -/
theorem by_at {b : Int32} (h : -128 ≤ b.toInt ∧ b.toInt ≤ 127) : (¬ b < 0 ∧ b &&& 255 = b) ∨ (b < 0 ∧ ∃ k, 128 ≤ k ∧ k < 256 ∧ b &&& 255 = nI k) := by
  have z0 : (0 : Int32).toInt = 0 := rfl
  by_cases c : b < 0
  · right
    have c' := tI_lt.mp c
    rw [z0] at c'
    refine ⟨c, (256 + b.toInt).toNat, by omega, by omega, ?_⟩
    obtain ⟨k, hk⟩ : ∃ k : Nat, (k : Int) = -b.toInt := ⟨(-b.toInt).toNat, by omega⟩
    have eb : b = 0 - nI k := by
      rw [tI_eq, tI_sub (by rw [z0, tI_nI (by omega)]; omega) (by rw [z0, tI_nI (by omega)]; omega), z0, tI_nI (by omega)]
      omega
    have := by_neg k (by omega) (by omega)
    rw [eb, this]
    congr 1
    rw [← eb]
    omega
  · left
    obtain ⟨k, hk, rfl⟩ := nI_of c
    rw [tI_nI (by omega)] at h
    exact ⟨c, by_pos k (by omega)⟩
section Bytes
variable {b : Int32} (h : -128 ≤ b.toInt ∧ b.toInt ≤ 127)
theorem by_eq (h : -128 ≤ b.toInt ∧ b.toInt ≤ 127) {m : Nat} (hm : m < 128) : b &&& 255 = nI m ↔ b = nI m := by
  rcases by_at h with ⟨h1, h2⟩ | ⟨h1, k, k1, k2, k3⟩
  · rw [h2]
  · rw [k3]
    constructor
    · intro z
      have := (nI_eq (by omega) (by omega)).mp z
      omega
    · intro z
      rw [z] at h1
      exact absurd h1 (nI_pos (by omega))
theorem by_le (h : -128 ≤ b.toInt ∧ b.toInt ≤ 127) : tz_le (b &&& 255) = tz_le b := by
  rcases by_at h with ⟨h1, h2⟩ | ⟨h1, k, k1, k2, k3⟩
  · rw [h2]
  · rw [k3]
    have w1 : tz_le (nI k) = false := decide_eq_false (fun z => z.2 (nI_lt (a := 122) (by omega) (by omega)))
    have w2 : tz_le b = false := decide_eq_false (fun z => z.1 (by
      rw [tI_lt] at h1 ⊢
      have z0 : (0 : Int32).toInt = 0 := rfl
      have z1 : (97 : Int32).toInt = 97 := rfl
      omega))
    rw [w1, w2]
theorem by_di (h : -128 ≤ b.toInt ∧ b.toInt ≤ 127) : tz_di (b &&& 255) = tz_di b := by
  rcases by_at h with ⟨h1, h2⟩ | ⟨h1, k, k1, k2, k3⟩
  · rw [h2]
  · rw [k3]
    have w1 : tz_di (nI k) = false := decide_eq_false (fun z => z.2 (nI_lt (a := 57) (by omega) (by omega)))
    have w2 : tz_di b = false := decide_eq_false (fun z => z.1 (by
      rw [tI_lt] at h1 ⊢
      have z0 : (0 : Int32).toInt = 0 := rfl
      have z1 : (48 : Int32).toInt = 48 := rfl
      omega))
    rw [w1, w2]
theorem by_same (h : -128 ≤ b.toInt ∧ b.toInt ≤ 127) (q : ¬ b < 0) : b &&& 255 = b := by
  rcases by_at h with ⟨h1, h2⟩ | ⟨h1, -⟩
  · exact h2
  · exact absurd h1 q
end Bytes
/-- words as numbers -/
def kw_en (a : Nat → Nat) : Nat → Nat
  | 0 => 0
  | k + 1 => 27 * kw_en a k + a k
theorem kw_inj {a b : Nat → Nat} : ∀ (n m : Nat), (∀ i, i < n → 1 ≤ a i ∧ a i ≤ 26) → (∀ i, i < m → 1 ≤ b i ∧ b i ≤ 26) → kw_en a n = kw_en b m → n = m ∧ ∀ i, i < n → a i = b i
  | 0, 0, _, _, _ => ⟨rfl, fun i hi => absurd hi (by omega)⟩
  | 0, m + 1, _, hb, h => by
    unfold kw_en at h
    have := hb m (by omega)
    omega
  | n + 1, 0, ha, _, h => by
    unfold kw_en at h
    have := ha n (by omega)
    omega
  | n + 1, m + 1, ha, hb, h => by
    unfold kw_en at h
    have h1 := ha n (by omega)
    have h2 := hb m (by omega)
    obtain ⟨q1, q2⟩ := kw_inj n m (fun i hi => ha i (by omega)) (fun i hi => hb i (by omega)) (by omega)
    refine ⟨by omega, fun i hi => ?_⟩
    by_cases w : i = n
    · subst w; subst q1; omega
    · exact q2 i (by omega)
theorem kw_eq {a b : Nat → Nat} : ∀ n, (∀ i, i < n → a i = b i) → kw_en a n = kw_en b n
  | 0, _ => rfl
  | n + 1, h => by
    unfold kw_en
    rw [kw_eq n (fun i hi => h i (by omega)), h n (by omega)]
def kw_ln (k : Nat) : Nat := ([2, 4, 5, 4, 5, 2, 3, 4, 4, 3, 4, 3, 5, 5, 6] : List Nat).getD k 0
def kw_c (k i : Nat) : Nat := (cw_ch (nI (8 * k + i))).toNatClampNeg - 96
set_option maxRecDepth 100000 in
theorem kw_all : ∀ k, k < 15 → kw_ln k ≤ 6 ∧ 2 ≤ kw_ln k ∧ cw_J0 75 k = lN (kw_en (kw_c k) (kw_ln k)) ∧ kw_en (kw_c k) (kw_ln k) < 1000000000 ∧ (∀ i, i < 8 → (i < kw_ln k → 1 ≤ kw_c k i ∧ kw_c k i ≤ 26 ∧ cw_ch (nI (8 * k + i)) = nI (96 + kw_c k i)) ∧ (kw_ln k ≤ i → cw_ch (nI (8 * k + i)) = 32)) := by decide +kernel
theorem kw_wm {T : Nat → Int32} {p e k : Nat} : ∀ m, tz_wm T p e k m = true ↔ ∀ i, i < m → cw_ch (nI (8 * k + i)) = if e ≤ p + i then 32 else T (p + i)
  | 0 => ⟨fun _ i hi => absurd hi (by omega), fun _ => rfl⟩
  | m + 1 => by
    unfold tz_wm
    rw [Bool.and_eq_true, kw_wm m, decide_eq_true_iff]
    constructor
    · intro h i hi
      by_cases w : i = m
      · subst w; exact h.2
      · exact h.1 i (by omega)
    · intro h
      exact ⟨fun i hi => h i (by omega), h m (by omega)⟩
/-- letters as numbers -/
def kw_t (T : Nat → Int32) (p i : Nat) : Nat := (T (p + i)).toNatClampNeg - 96
theorem kw_le {b : Int32} (h : tz_le b = true) : ∃ c, 1 ≤ c ∧ c ≤ 26 ∧ b = nI (96 + c) ∧ b.toNatClampNeg - 96 = c := by
  have := of_decide_eq_true h
  obtain ⟨k, hk, rfl⟩ := nI_of (x := b) (fun z => this.1 (by
    rw [tI_lt] at z ⊢
    have z0 : (0 : Int32).toInt = 0 := rfl
    have z1 : (97 : Int32).toInt = 97 := rfl
    omega))
  have h1 : 97 ≤ k := Nat.le_of_not_lt (fun z => this.1 (nI_lt (b := 97) z (by omega)))
  have h2 : k ≤ 122 := Nat.le_of_not_lt (fun z => this.2 (nI_lt (a := 122) z hk))
  exact ⟨k - 96, by omega, by omega, by congr 1; omega, by rw [nI_clamp (by omega)]⟩
/-- a word of at most six letters is the k-th one just when its number is -/
theorem kw_key {T : Nat → Int32} {p e k : Nat} (hk : k < 15) (hp : p < e) (h6 : e - p ≤ 6) (hl : ∀ i, p ≤ i → i < e → tz_le (T i) = true) : tz_wm T p e k 8 = true ↔ cw_J0 75 k = lN (kw_en (kw_t T p) (e - p)) := by
  obtain ⟨g1, g2, g3, g4, g5⟩ := kw_all k hk
  have ha : ∀ i, i < e - p → 1 ≤ kw_t T p i ∧ kw_t T p i ≤ 26 ∧ T (p + i) = nI (96 + kw_t T p i) := fun i hi => by
    obtain ⟨c, c1, c2, c3, c4⟩ := kw_le (hl (p + i) (by omega) (by omega))
    unfold kw_t
    rw [c4]; exact ⟨c1, c2, c3⟩
  have small : kw_en (kw_t T p) (e - p) < 2 ^ 62 := by
    have : ∀ n, n ≤ e - p → kw_en (kw_t T p) n + 1 ≤ 27 ^ n := by
      intro n
      induction n with
      | zero => intro _; exact Nat.le_refl _
      | succ n ih =>
        intro hn
        have := (ha n (by omega)).2.1
        have i := ih (by omega)
        unfold kw_en
        rw [Nat.pow_succ]
        omega
    have h1 := this (e - p) (Nat.le_refl _)
    have h2 : 27 ^ (e - p) ≤ 27 ^ 6 := Nat.pow_le_pow_right (by omega) h6
    have h3 : 27 ^ 6 < 2 ^ 62 := by decide
    omega
  rw [g3, pk_lEQ (by omega) (by omega), kw_wm 8]
  constructor
  · intro h
    have hlen : e - p = kw_ln k := by
      rcases Nat.lt_trichotomy (e - p) (kw_ln k) with w | w | w
      · have q := h (e - p) (by omega)
        rw [if_pos (by omega)] at q
        have := ((g5 (e - p) (by omega)).1 w)
        rw [this.2.2] at q
        have := (nI_eq (b := 32) (by omega) (by omega)).mp q
        omega
      · exact w
      · have q := h (kw_ln k) (by omega)
        rw [if_neg (by omega), (g5 (kw_ln k) (by omega)).2 (Nat.le_refl _)] at q
        obtain ⟨a1, a2, a3⟩ := ha (kw_ln k) w
        rw [a3] at q
        have := (nI_eq (a := 32) (by omega) (by omega)).mp q
        omega
    rw [hlen]
    refine kw_eq _ (fun i hi => ?_)
    have q := h i (by omega)
    obtain ⟨a1, a2, a3⟩ := ha i (by omega)
    rw [if_neg (by omega), ((g5 i (by omega)).1 hi).2.2, a3] at q
    have := (nI_eq (by
      have := ((g5 i (by omega)).1 hi).2.1
      omega) (by omega)).mp q
    omega
  · intro h
    obtain ⟨q1, q2⟩ := kw_inj _ _ (fun i hi => by
      have := (g5 i (by omega)).1 hi
      exact ⟨this.1, this.2.1⟩) (fun i hi => ⟨(ha i hi).1, (ha i hi).2.1⟩) h
    intro i hi
    by_cases w : i < kw_ln k
    · rw [if_neg (by omega), ((g5 i hi).1 w).2.2, (ha i (by omega)).2.2, q2 i w]
    · rw [if_pos (by omega)]
      exact (g5 i hi).2 (by omega)
