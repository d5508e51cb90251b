/-! the reference's tokens -/
def cz_t (κ : Nat) : Nat := if 13 ≤ κ then κ + 7 else ([0, 1, 2, 4, 8, 9, 10, 11, 12, 13, 14, 6, 7] : List Nat).getD κ 0
def cz_m (κ : Nat) (r : Int32) : Prop := (κ = 1 ∧ (r = 1 ∨ r = 3)) ∨ (¬ κ = 1 ∧ r = nI (cz_t κ))
def cz_s (T : Nat → Int32) (L : Nat) : Nat → Nat
  | 0 => 0
  | k + 1 => tz_j T L (cz_s T L k)
theorem cz_cmp {x y : Int64} : lg_cmp x y = 0 ↔ x = y := by
  unfold lg_cmp
  by_cases h1 : x > y
  · rw [if_pos h1]
    constructor
    · intro z; exact absurd z (by decide)
    · intro z; subst z; exact absurd h1 (Int64.lt_irrefl)
  · rw [if_neg h1]
    by_cases h2 : x = y
    · rw [if_pos h2]; exact ⟨fun _ => h2, fun _ => rfl⟩
    · rw [if_neg h2]
      exact ⟨fun z => absurd z (by decide), fun z => absurd z h2⟩
theorem cz_keys : ∀ m, m < 15 → ∀ k, k < 15 → cw_J0 75 m = cw_J0 75 k → m = k := by decide +kernel
section Cut
variable {n L : Nat} {I A I7 A7 : Nat → Nat → Int32} {J J7 : Nat → Nat → Int64} {t : Bool × Bool}
theorem cz_at {i : Nat} (hL : L ≤ 2000) (hi : i < 2 ^ 31) (h4 : I7 68 4 = nI L) : pb_X12_at_68 n I7 A7 J7 t (nI i) ∧ px_X12_at_68 n I7 A7 J7 t (nI i) = if L ≤ i then 0 else A7 70 i &&& 255 := by
  unfold pb_X12_at_68 px_X12_at_68 qs0m5_X12_at_68
  rw [h4]
  by_cases c : L ≤ i
  · rw [if_pos (nI_le c hi), if_pos c]
    exact ⟨fun z => absurd (nI_le c hi) z, rfl⟩
  · rw [if_neg (nI_ge (by omega) (by omega)), if_neg c, nI_clamp hi]
    exact ⟨fun _ => vp_in_nI (by omega) (by decide), rfl⟩
theorem cz_le {i : Nat} (hL : L ≤ 2000) (hi : i < 2 ^ 31) (h4 : I7 68 4 = nI L) (hb : ∀ j, j < L → -128 ≤ (A7 70 j).toInt ∧ (A7 70 j).toInt ≤ 127) : px_X12_isLetter n I7 A7 J7 t (px_X12_at_68 n I7 A7 J7 t (nI i)) = 0 ↔ ¬ (i < L ∧ tz_le (A7 70 i) = true) := by
  have e : px_X12_isLetter n I7 A7 J7 t (px_X12_at_68 n I7 A7 J7 t (nI i)) = px_X7_isLetter n I7 A7 J7 t (px_X12_at_68 n I7 A7 J7 t (nI i)) := rfl
  rw [e, tz_letter, (cz_at (n := n) (J7 := J7) (t := t) hL hi h4).2]
  by_cases c : L ≤ i
  · rw [if_pos c]
    exact ⟨fun _ z => by omega, fun _ => by decide⟩
  · rw [if_neg c, by_le (hb i (by omega))]
    exact ⟨fun z y => z y.2, fun z y => z ⟨by omega, y⟩⟩
theorem cz_di {i : Nat} (hL : L ≤ 2000) (hi : i < 2 ^ 31) (h4 : I7 68 4 = nI L) (hb : ∀ j, j < L → -128 ≤ (A7 70 j).toInt ∧ (A7 70 j).toInt ≤ 127) : px_X12_isDigit n I7 A7 J7 t (px_X12_at_68 n I7 A7 J7 t (nI i)) = 0 ↔ ¬ (i < L ∧ tz_di (A7 70 i) = true) := by
  have e : px_X12_isDigit n I7 A7 J7 t (px_X12_at_68 n I7 A7 J7 t (nI i)) = px_X7_isDigit n I7 A7 J7 t (px_X12_at_68 n I7 A7 J7 t (nI i)) := rfl
  rw [e, tz_digit, (cz_at (n := n) (J7 := J7) (t := t) hL hi h4).2]
  by_cases c : L ≤ i
  · rw [if_pos c]
    exact ⟨fun _ z => by omega, fun _ => by decide⟩
  · rw [if_neg c, by_di (hb i (by omega))]
    exact ⟨fun z y => z y.2, fun z y => z ⟨by omega, y⟩⟩
def cz_nm (T : Nat → Int32) (p k : Nat) : Nat := kw_en (kw_t T p) (if k ≤ 8 then k else 8)
theorem cz_letters {p : Nat} (hL : L ≤ 2000) (h4 : I7 68 4 = nI L) (hb : ∀ j, j < L → -128 ≤ (A7 70 j).toInt ∧ (A7 70 j).toInt ≤ 127) : ∀ (d k f : Nat), p + k + d = L → d < f → lb_X12_cut_68_85 n I A J t I7 A7 J7 (nI p) f (nI k) (lN (cz_nm (A7 70) p k)) ∧ lp_X12_cut_68_85 n I A J t I7 A7 J7 (nI p) f (nI k) (lN (cz_nm (A7 70) p k)) = (nI (tz_run tz_le (A7 70) L (p + k) - p), lN (cz_nm (A7 70) p (tz_run tz_le (A7 70) L (p + k) - p))) := by
  intro d
  induction d with
  | zero =>
    intro k f hk hf
    obtain ⟨f, rfl⟩ : ∃ x, f = x + 1 := ⟨f - 1, by omega⟩
    have c : px_X12_isLetter n I7 A7 J7 t (px_X12_at_68 n I7 A7 J7 t (nI (p + k))) = 0 := (cz_le hL (by omega) h4 hb).mpr (by omega)
    have e : p + k - p = k := by omega
    unfold lb_X12_cut_68_85 lp_X12_cut_68_85
    rw [nI_add, if_pos c, tz_run_n (by omega), e]
    exact ⟨⟨(cz_at hL (by omega) h4).1, fun z => absurd c z⟩, rfl⟩
  | succ d ih =>
    intro k f hk hf
    obtain ⟨f, rfl⟩ : ∃ x, f = x + 1 := ⟨f - 1, by omega⟩
    obtain ⟨a1, a2⟩ := cz_at (n := n) (I7 := I7) (A7 := A7) (J7 := J7) (t := t) (i := p + k) hL (by omega) h4
    unfold lb_X12_cut_68_85 lp_X12_cut_68_85
    rw [nI_add]
    by_cases w : tz_le (A7 70 (p + k)) = true
    · have c : ¬ px_X12_isLetter n I7 A7 J7 t (px_X12_at_68 n I7 A7 J7 t (nI (p + k))) = 0 := fun z => (cz_le hL (by omega) h4 hb).mp z ⟨by omega, w⟩
      have ry : tz_run tz_le (A7 70) L (p + k) = tz_run tz_le (A7 70) L (p + (k + 1)) := tz_run_y (by omega) w
      have e118 : q118_X12_cut_68 n I A J t I7 A7 J7 (nI p) (nI k) (lN (cz_nm (A7 70) p k)) = nI (k + 1) := nI_1 k
      have e101 : ql4m101_X12_cut_68 n I A J t I7 A7 J7 (nI p) (nI k) (lN (cz_nm (A7 70) p k)) = lN (cz_nm (A7 70) p (k + 1)) := by
        unfold ql4m101_X12_cut_68 q116_X12_cut_68 px_X12_more qs0m1_X12_more
        rw [nI_add, a2, if_neg (show ¬ L ≤ p + k by omega)]
        by_cases q : 8 ≤ k
        · have y : 8 ≤ nI k := nI_le (a := 8) q (by omega)
          rw [if_pos y]
          unfold cz_nm
          by_cases q2 : k = 8
          · subst q2; rw [if_pos (by omega), if_neg (by omega)]
          · rw [if_neg (by omega), if_neg (by omega)]
        · have y : ¬ 8 ≤ nI k := nI_ge (b := 8) (by omega) (by omega)
          obtain ⟨c1, d1, d2, d3, d4⟩ := kw_le w
          have np : ¬ A7 70 (p + k) < 0 := by rw [d3]; exact nI_pos (by omega)
          have nz : ¬ A7 70 (p + k) = 0 := by rw [d3]; exact nI_ne0 (by omega) (by omega)
          rw [if_neg y, by_same (hb (p + k) (by omega)) np, if_neg nz]
          have e1 : A7 70 (p + k) - 97 + 1 = nI c1 := by
            rw [d3]
            have z1 : (97 : Int32).toInt = 97 := rfl
            have z2 : (1 : Int32).toInt = 1 := rfl
            have s1 : (nI (96 + c1) - 97).toInt = (c1 : Int) - 1 := by
              rw [tI_sub (by rw [tI_nI (by omega), z1]; omega) (by rw [tI_nI (by omega), z1]; omega), tI_nI (by omega), z1]
              omega
            rw [tI_eq, tI_add (by rw [s1, z2]; omega) (by rw [s1, z2]; omega), s1, z2, tI_nI (by omega)]
            omega
          rw [e1, nI_l (by omega)]
          have e27 : (27 : Int64) = lN 27 := rfl
          rw [e27, lN_mul, lN_add]
          unfold cz_nm
          rw [if_pos (by omega), if_pos (by omega)]
          conv => rhs; rw [kw_en]
          have : kw_t (A7 70) p k = c1 := d4
          rw [this]
      obtain ⟨i1, i2⟩ := ih (k + 1) f (by omega) (by omega)
      rw [if_neg c, e118, e101, ry, i2]
      exact ⟨⟨a1, fun _ => ⟨fun _ => a1, i1⟩⟩, rfl⟩
    · have c : px_X12_isLetter n I7 A7 J7 t (px_X12_at_68 n I7 A7 J7 t (nI (p + k))) = 0 := (cz_le hL (by omega) h4 hb).mpr (fun z => w z.2)
      have e : p + k - p = k := by omega
      rw [if_pos c, tz_run_n (fun z => w z.2), e]
      exact ⟨⟨a1, fun z => absurd c z⟩, rfl⟩
def cz_rv (T : Nat → Int32) (p k : Nat) : Int32 := tz_vl T p (if k ≤ 4 then k else 4)
theorem cz_digits {p : Nat} (hL : L ≤ 2000) (h4 : I7 68 4 = nI L) (hb : ∀ j, j < L → -128 ≤ (A7 70 j).toInt ∧ (A7 70 j).toInt ≤ 127) : ∀ (d k f : Nat), p + k + d = L → d < f → lb_X12_cut_68_208 n I A J t I7 A7 J7 (nI p) f (nI k) (cz_rv (A7 70) p k) ∧ lp_X12_cut_68_208 n I A J t I7 A7 J7 (nI p) f (nI k) (cz_rv (A7 70) p k) = (nI (tz_run tz_di (A7 70) L (p + k) - p), cz_rv (A7 70) p (tz_run tz_di (A7 70) L (p + k) - p)) := by
  intro d
  induction d with
  | zero =>
    intro k f hk hf
    obtain ⟨f, rfl⟩ : ∃ x, f = x + 1 := ⟨f - 1, by omega⟩
    have c : px_X12_isDigit n I7 A7 J7 t (px_X12_at_68 n I7 A7 J7 t (nI (p + k))) = 0 := (cz_di hL (by omega) h4 hb).mpr (by omega)
    have e : p + k - p = k := by omega
    unfold lb_X12_cut_68_208 lp_X12_cut_68_208
    rw [nI_add, if_pos c, tz_run_n (by omega), e]
    exact ⟨⟨(cz_at hL (by omega) h4).1, fun z => absurd c z⟩, rfl⟩
  | succ d ih =>
    intro k f hk hf
    obtain ⟨f, rfl⟩ : ∃ x, f = x + 1 := ⟨f - 1, by omega⟩
    obtain ⟨a1, a2⟩ := cz_at (n := n) (I7 := I7) (A7 := A7) (J7 := J7) (t := t) (i := p + k) hL (by omega) h4
    unfold lb_X12_cut_68_208 lp_X12_cut_68_208
    rw [nI_add]
    by_cases w : tz_di (A7 70 (p + k)) = true
    · have c : ¬ px_X12_isDigit n I7 A7 J7 t (px_X12_at_68 n I7 A7 J7 t (nI (p + k))) = 0 := fun z => (cz_di hL (by omega) h4 hb).mp z ⟨by omega, w⟩
      have ry : tz_run tz_di (A7 70) L (p + k) = tz_run tz_di (A7 70) L (p + (k + 1)) := tz_run_y (by omega) w
      have e244 : q244_X12_cut_68 n I A J t I7 A7 J7 (nI p) (nI k) (cz_rv (A7 70) p k) = nI (k + 1) := nI_1 k
      have e223 : ql4m223_X12_cut_68 n I A J t I7 A7 J7 (nI p) (nI k) (cz_rv (A7 70) p k) = cz_rv (A7 70) p (k + 1) := by
        unfold ql4m223_X12_cut_68 q242_X12_cut_68
        rw [nI_add, a2, if_neg (show ¬ L ≤ p + k by omega)]
        by_cases q : 4 ≤ k
        · have y : 4 ≤ nI k := nI_le (a := 4) q (by omega)
          rw [if_pos y]
          unfold cz_rv
          by_cases q2 : k = 4
          · subst q2; rw [if_pos (by omega), if_neg (by omega)]
          · rw [if_neg (by omega), if_neg (by omega)]
        · have y : ¬ 4 ≤ nI k := nI_ge (b := 4) (by omega) (by omega)
          have dd := of_decide_eq_true w
          have np : ¬ A7 70 (p + k) < 0 := fun z => dd.1 (by
            rw [tI_lt] at z ⊢
            have z0 : (0 : Int32).toInt = 0 := rfl
            have z1 : (48 : Int32).toInt = 48 := rfl
            omega)
          rw [if_neg y, by_same (hb (p + k) (by omega)) np]
          unfold cz_rv
          rw [if_pos (by omega), if_pos (by omega)]
          conv => rhs; rw [tz_vl]
          rw [if_neg q, Int32.mul_comm]
      obtain ⟨i1, i2⟩ := ih (k + 1) f (by omega) (by omega)
      rw [if_neg c, e244, e223, ry, i2]
      exact ⟨⟨a1, fun _ => ⟨fun _ => a1, i1⟩⟩, rfl⟩
    · have c : px_X12_isDigit n I7 A7 J7 t (px_X12_at_68 n I7 A7 J7 t (nI (p + k))) = 0 := (cz_di hL (by omega) h4 hb).mpr (fun z => w z.2)
      have e : p + k - p = k := by omega
      rw [if_pos c, tz_run_n (fun z => w z.2), e]
      exact ⟨⟨a1, fun z => absurd c z⟩, rfl⟩
/-- the reference's kind of a word that the class takes for its m-th -/
def cz_w (κ : Nat) : Nat := if κ = 1 then 1 else κ + 7
theorem cz_kw {p e : Nat} (hp : p < e) (h6 : e - p ≤ 6) (hl : ∀ i, p ≤ i → i < e → tz_le (A7 70 i) = true) (h75 : J7 75 = cw_J0 75) (hq : q4w85_X12_cut_68 n I A J t I7 A7 J7 (nI p) = lN (kw_en (kw_t (A7 70) p) (e - p))) : ∀ (j k f : Nat), k + j = 15 → j < f → lb_X12_cut_68_146 n I A J t I7 A7 J7 (nI p) f (nI (cz_w (tz_fw (A7 70) p e k))) (nI k) ∧ (lp_X12_cut_68_146 n I A J t I7 A7 J7 (nI p) f (nI (cz_w (tz_fw (A7 70) p e k))) (nI k)).1 = nI (cz_w (tz_fw (A7 70) p e 15)) := by
  intro j
  induction j with
  | zero =>
    intro k f hk hf
    obtain ⟨f, rfl⟩ : ∃ x, f = x + 1 := ⟨f - 1, by omega⟩
    have : k = 15 := by omega
    subst this
    have c : 15 ≤ nI 15 := by decide
    unfold lb_X12_cut_68_146 lp_X12_cut_68_146
    rw [if_pos c]
    exact ⟨fun z => absurd c z, rfl⟩
  | succ j ih =>
    intro k f hk hf
    obtain ⟨f, rfl⟩ : ∃ x, f = x + 1 := ⟨f - 1, by omega⟩
    have c : ¬ 15 ≤ nI k := nI_ge (b := 15) (by omega) (by omega)
    have e173 : q173_X12_cut_68 n I A J t I7 A7 J7 (nI p) (nI (cz_w (tz_fw (A7 70) p e k))) (nI k) = nI (k + 1) := nI_1 k
    have kk := kw_key (T := A7 70) (k := k) (by omega) hp h6 hl
    have e163 : ql6m163_X12_cut_68 n I A J t I7 A7 J7 (nI p) (nI (cz_w (tz_fw (A7 70) p e k))) (nI k) = nI (cz_w (tz_fw (A7 70) p e (k + 1))) := by
      unfold ql6m163_X12_cut_68 q171_X12_cut_68
      rw [hq, nI_clamp (by omega), h75]
      have fs : tz_fw (A7 70) p e (k + 1) = if tz_fw (A7 70) p e k = 1 then (if tz_wm (A7 70) p e k 8 = true then 13 + k else 1) else tz_fw (A7 70) p e k := rfl
      rw [fs]
      by_cases w : tz_wm (A7 70) p e k 8 = true
      · have e1 : tz_fw (A7 70) p e k = 1 := by
          rcases tz_fw_r (T := A7 70) (p := p) (e := e) k with q | ⟨m, q1, q2, q3⟩
          · exact q
          · exfalso
            have k1 := (kw_key (T := A7 70) (k := m) (by omega) hp h6 hl).mp q3
            have := cz_keys m (by omega) k (by omega) (k1.trans (kk.mp w).symm)
            omega
        rw [if_pos (cz_cmp.mpr (kk.mp w)), if_pos e1, if_pos w]
        have : (20 : Int32) + nI k = nI (20 + k) := nI_add 20 k
        rw [this]
        unfold cz_w
        rw [if_neg (by omega)]
        congr 1; omega
      · rw [if_neg (fun z => w (kk.mpr (cz_cmp.mp z))), if_neg w]
        by_cases q : tz_fw (A7 70) p e k = 1
        · rw [if_pos q, q]
        · rw [if_neg q]
    obtain ⟨i1, i2⟩ := ih (k + 1) f (by omega) (by omega)
    unfold lb_X12_cut_68_146 lp_X12_cut_68_146
    rw [if_neg c, e163, e173]
    exact ⟨fun _ => ⟨vp_in_nI (by omega) (by decide), i1⟩, i2⟩
end Cut
