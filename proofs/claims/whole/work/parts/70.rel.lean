/-! the relation between the two objects: I, A the class's world, I2, A2, J2 the reference's -/
def rl_tape (I A I2 A2 : Nat → Nat → Int32) : Prop := ∃ n : Nat, n ≤ 2000 ∧ I 0 13 = nI n ∧ I2 68 2 = nI n ∧ ∀ j, j < n → A 32 j = A2 69 j ∧ -128 ≤ (A 32 j).toInt ∧ (A 32 j).toInt ≤ 127
def rl_day (I I2 : Nat → Nat → Int32) : Prop := ∃ d : Nat, d < 3600 ∧ I 0 14 = nI d ∧ I2 68 49 = nI d
def rl_place (I I2 : Nat → Nat → Int32) : Prop := I 33 11 = I2 68 17
def rl_lands (I A I2 A2 : Nat → Nat → Int32) : Prop := (∃ n : Nat, n ≤ 8 ∧ I 1 3 = nI n ∧ I2 68 35 = nI n) ∧ ∀ i, i < 8 → A 2 i = A2 89 i ∧ A 3 i = A2 90 i ∧ A 4 i = A2 91 i ∧ vp_in (A 2 i) 24 ∧ vp_in (A 3 i) 7 ∧ vp_in (A 4 i) 10001
def rl_sites (I A I2 A2 : Nat → Nat → Int32) : Prop := (∃ n : Nat, n ≤ 4 ∧ I 5 3 = nI n ∧ I2 68 36 = nI n) ∧ ∀ i, i < 4 → A 6 i = A2 89 (8 + i) ∧ A 7 i = A2 90 (8 + i) ∧ vp_in (A 6 i) 24 ∧ vp_in (A 7 i) 7
def rl_masts (I A I2 A2 : Nat → Nat → Int32) : Prop := (∃ n : Nat, n ≤ 6 ∧ I 9 2 = nI n ∧ I2 68 40 = nI n) ∧ ∀ i, i < 6 → A 10 i = A2 92 i ∧ A 11 i = A2 93 i ∧ vp_in (A 10 i) 4 ∧ vp_in (A 11 i) 10
def rl_progs (I A I2 A2 : Nat → Nat → Int32) : Prop := (∃ n : Nat, n ≤ 10 ∧ I 12 3 = nI n ∧ I2 68 43 = nI n) ∧ ∀ i, i < 10 → A 13 i = A2 94 i ∧ A 14 i = A2 95 i ∧ A 15 i = A2 96 i ∧ vp_in (A 13 i) 8
def rl_sheets (A A2 : Nat → Nat → Int32) : Prop := ∀ s, s < 4 → ∃ m : Nat, m ≤ 270 ∧ A 18 s = nI m ∧ (A2 97 s = nI m ∨ m = 0 ∧ A2 97 s = -1) ∧ ∀ i, i < m → A 17 (270 * s + i) = A2 98 (270 * s + i) ∧ -99 ≤ (A 17 (270 * s + i)).toInt ∧ (A 17 (270 * s + i)).toInt ≤ 99
def rl_fact (A A2 : Nat → Nat → Int32) (f : Nat) : Prop := A 21 f = A2 102 f ∧ A 22 f = A2 103 f ∧ A 23 f = A2 104 f ∧ A 25 f = A2 100 f ∧ vp_in (A 21 f) 8 ∧ vp_in (A 22 f) 6 ∧ vp_in (A 23 f) 24 ∧ vp_in (A 25 f) 3600 ∧ (A2 99 f = 1 ∧ A 20 f = -1 ∧ A 24 f = A2 105 f ∨ A2 99 f = 0 ∧ A 20 f = A2 101 f ∧ vp_in (A 20 f) 4 ∧ A 26 f = A2 106 f ∧ -99 ≤ (A 26 f).toInt ∧ (A 26 f).toInt ≤ 99)
/-- how many of the first facts are notices of a band -/
def rl_nc (N B : Nat → Int32) (b : Nat) : Nat → Nat
  | 0 => 0
  | k + 1 => rl_nc N B b k + (if N k = 1 ∧ B k = nI b then 1 else 0)
theorem rl_nc_le (N B : Nat → Int32) (b : Nat) : ∀ k, rl_nc N B b k ≤ k
  | 0 => Nat.le_refl _
  | k + 1 => by
    have := rl_nc_le N B b k
    unfold rl_nc
    split <;> omega
theorem rl_nc_mono (N B : Nat → Int32) (b : Nat) {j k : Nat} (h : j ≤ k) : rl_nc N B b j ≤ rl_nc N B b k := by
  induction h with
  | refl => exact Nat.le_refl _
  | step _ ih => exact Nat.le_trans ih (by conv => rhs; unfold rl_nc
                                           omega)
theorem rl_nc_eq {N B N2 B2 : Nat → Int32} {b : Nat} : ∀ {k : Nat}, (∀ j, j < k → N j = N2 j ∧ B j = B2 j) → rl_nc N B b k = rl_nc N2 B2 b k
  | 0, _ => rfl
  | k + 1, h => by
    unfold rl_nc
    rw [rl_nc_eq (fun j hj => h j (by omega)), (h k (by omega)).1, (h k (by omega)).2]
def rl_facts (I A I2 A2 : Nat → Nat → Int32) : Prop := (∃ n : Nat, n ≤ 300 ∧ I 19 9 = nI n ∧ I2 68 50 = nI n ∧ ∀ b, b < 6 → A 28 b = nI (rl_nc (A2 99) (A2 103) b n) ∧ ∀ f, f < n → A2 99 f = 1 → A2 103 f = nI b → A 27 (300 * b + rl_nc (A2 99) (A2 103) b f) = nI f) ∧ ∀ f, f < 300 → rl_fact A A2 f
def rl_plan (I A I2 A2 : Nat → Nat → Int32) : Prop := (I 53 7 = 0 ∧ I2 68 64 = 0 ∧ I 53 6 = 0) ∨ (I 53 7 = 1 ∧ I2 68 64 = 1 ∧ ∃ m : Nat, m ≤ 10 ∧ I 53 6 = nI m ∧ I2 68 65 = nI m ∧ ∀ h, h < 24 → A 59 h = A2 113 h ∧ ∀ p, p < m → A 54 (10 * h + p) = A2 109 (10 * h + p) ∧ (A2 109 (10 * h + p) = -1 ∧ A 55 (10 * h + p) = -1 ∧ A 56 (10 * h + p) = -1 ∧ A 57 (10 * h + p) = 0 ∨ ¬ A2 109 (10 * h + p) = -1 ∧ A 55 (10 * h + p) = A2 110 (10 * h + p) ∧ A 56 (10 * h + p) = A2 111 (10 * h + p) ∧ A 57 (10 * h + p) = A2 112 (10 * h + p)))
def rl_keys (J2 : Nat → Nat → Int64) : Prop := J2 75 = cw_J0 75
section RelCong
variable {I A I2 A2 I' A' I2' A2' : Nat → Nat → Int32} {J2 J2' : Nat → Nat → Int64}
theorem rc_tape (h : rl_tape I A I2 A2) (e1 : I' 0 13 = I 0 13) (e2 : I2' 68 2 = I2 68 2) (a1 : A' 32 = A 32) (a2 : A2' 69 = A2 69) : rl_tape I' A' I2' A2' := by
  unfold rl_tape; rw [e1, e2, a1, a2]; exact h
theorem rc_day (h : rl_day I I2) (e1 : I' 0 14 = I 0 14) (e2 : I2' 68 49 = I2 68 49) : rl_day I' I2' := by
  unfold rl_day; rw [e1, e2]; exact h
theorem rc_place (h : rl_place I I2) (e1 : I' 33 11 = I 33 11) (e2 : I2' 68 17 = I2 68 17) : rl_place I' I2' := by
  unfold rl_place; rw [e1, e2]; exact h
theorem rc_lands (h : rl_lands I A I2 A2) (e1 : I' 1 3 = I 1 3) (e2 : I2' 68 35 = I2 68 35) (a1 : A' 2 = A 2) (a2 : A' 3 = A 3) (a3 : A' 4 = A 4) (a4 : A2' 89 = A2 89) (a5 : A2' 90 = A2 90) (a6 : A2' 91 = A2 91) : rl_lands I' A' I2' A2' := by
  unfold rl_lands; rw [e1, e2, a1, a2, a3, a4, a5, a6]; exact h
theorem rc_sites (h : rl_sites I A I2 A2) (e1 : I' 5 3 = I 5 3) (e2 : I2' 68 36 = I2 68 36) (a1 : A' 6 = A 6) (a2 : A' 7 = A 7) (a4 : A2' 89 = A2 89) (a5 : A2' 90 = A2 90) : rl_sites I' A' I2' A2' := by
  unfold rl_sites; rw [e1, e2, a1, a2, a4, a5]; exact h
theorem rc_masts (h : rl_masts I A I2 A2) (e1 : I' 9 2 = I 9 2) (e2 : I2' 68 40 = I2 68 40) (a1 : A' 10 = A 10) (a2 : A' 11 = A 11) (a4 : A2' 92 = A2 92) (a5 : A2' 93 = A2 93) : rl_masts I' A' I2' A2' := by
  unfold rl_masts; rw [e1, e2, a1, a2, a4, a5]; exact h
theorem rc_progs (h : rl_progs I A I2 A2) (e1 : I' 12 3 = I 12 3) (e2 : I2' 68 43 = I2 68 43) (a1 : A' 13 = A 13) (a2 : A' 14 = A 14) (a3 : A' 15 = A 15) (a4 : A2' 94 = A2 94) (a5 : A2' 95 = A2 95) (a6 : A2' 96 = A2 96) : rl_progs I' A' I2' A2' := by
  unfold rl_progs; rw [e1, e2, a1, a2, a3, a4, a5, a6]; exact h
theorem rc_sheets (h : rl_sheets A A2) (a1 : A' 17 = A 17) (a2 : A' 18 = A 18) (a3 : A2' 97 = A2 97) (a4 : A2' 98 = A2 98) : rl_sheets A' A2' := by
  unfold rl_sheets; rw [a1, a2, a3, a4]; exact h
theorem rc_facts (h : rl_facts I A I2 A2) (e1 : I' 19 9 = I 19 9) (e2 : I2' 68 50 = I2 68 50) (a0 : A' 20 = A 20) (a1 : A' 21 = A 21) (a2 : A' 22 = A 22) (a3 : A' 23 = A 23) (a4 : A' 24 = A 24) (a5 : A' 25 = A 25) (a6 : A' 26 = A 26) (a7 : A' 27 = A 27) (a8 : A' 28 = A 28) (b0 : A2' 99 = A2 99) (b1 : A2' 100 = A2 100) (b2 : A2' 101 = A2 101) (b3 : A2' 102 = A2 102) (b4 : A2' 103 = A2 103) (b5 : A2' 104 = A2 104) (b6 : A2' 105 = A2 105) (b7 : A2' 106 = A2 106) : rl_facts I' A' I2' A2' := by
  unfold rl_facts rl_fact; rw [e1, e2, a0, a1, a2, a3, a4, a5, a6, a7, a8, b0, b1, b2, b3, b4, b5, b6, b7]; exact h
theorem rc_plan (h : rl_plan I A I2 A2) (e1 : I' 53 7 = I 53 7) (e2 : I2' 68 64 = I2 68 64) (e3 : I' 53 6 = I 53 6) (e4 : I2' 68 65 = I2 68 65) (a1 : A' 54 = A 54) (a2 : A' 55 = A 55) (a3 : A' 56 = A 56) (a4 : A' 57 = A 57) (a5 : A' 59 = A 59) (b1 : A2' 109 = A2 109) (b2 : A2' 110 = A2 110) (b3 : A2' 111 = A2 111) (b4 : A2' 112 = A2 112) (b5 : A2' 113 = A2 113) : rl_plan I' A' I2' A2' := by
  unfold rl_plan; rw [e1, e2, e3, e4, a1, a2, a3, a4, a5, b1, b2, b3, b4, b5]; exact h
theorem rc_keys (h : rl_keys J2) (e : J2' 75 = J2 75) : rl_keys J2' := by
  unfold rl_keys; rw [e]; exact h
end RelCong
/-! numbers -/
theorem tI_lt {x y : Int32} : x < y ↔ x.toInt < y.toInt := Int32.lt_iff_toInt_lt
theorem tI_le {x y : Int32} : x ≤ y ↔ x.toInt ≤ y.toInt := Int32.le_iff_toInt_le
theorem tI_eq {x y : Int32} : x = y ↔ x.toInt = y.toInt := Int32.toInt_inj.symm
theorem tI_in {x : Int32} {N : Nat} : vp_in x N ↔ 0 ≤ x.toInt ∧ x.toInt < N := vp_in_iff
theorem tI_add {x y : Int32} (h1 : -2147483648 ≤ x.toInt + y.toInt) (h2 : x.toInt + y.toInt < 2147483648) : (x + y).toInt = x.toInt + y.toInt := by
  rw [Int32.toInt_add]
  exact Int.bmod_eq_of_le (by omega) (by omega)
theorem tI_sub {x y : Int32} (h1 : -2147483648 ≤ x.toInt - y.toInt) (h2 : x.toInt - y.toInt < 2147483648) : (x - y).toInt = x.toInt - y.toInt := by
  rw [Int32.toInt_sub]
  exact Int.bmod_eq_of_le (by omega) (by omega)
theorem tI_mul {x y : Int32} (h1 : -2147483648 ≤ x.toInt * y.toInt) (h2 : x.toInt * y.toInt < 2147483648) : (x * y).toInt = x.toInt * y.toInt := by
  rw [Int32.toInt_mul]
  exact Int.bmod_eq_of_le (by omega) (by omega)
theorem tI_nI {n : Nat} (h : n < 2147483648) : (nI n).toInt = (n : Int) := nI_toInt h
theorem tI_byte (x : Int32) : -128 ≤ (x.toInt8.toInt32).toInt ∧ (x.toInt8.toInt32).toInt ≤ 127 := by
  rw [Int8.toInt_toInt32]
  exact ⟨Int8.le_toInt _, Int.le_of_lt_add_one (Int8.toInt_lt _)⟩
theorem nI_rem {a d : Nat} (ha : a < 2 ^ 31) (h0 : 0 < d) (hd : d < 2 ^ 31) : cw_rem (nI a) (nI d) = nI (a % d) := pk_rem ha h0 hd
