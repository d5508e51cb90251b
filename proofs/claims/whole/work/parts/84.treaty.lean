/-! the treaty at hand: the class's steps against the reference's codes -/
def ty_m (st va co ci : Int32) : Prop := (st = 2 ∧ co = 0 ∧ va = ci) ∨ (∃ j : Nat, j < 8 ∧ st = nI (20 + j) ∧ co = 1 ∧ ci = nI j) ∨ (st = 4 ∧ co = 2) ∨ (st = 5 ∧ co = 3) ∨ (st = 6 ∧ co = 4)
/-- codes that run on a pile of at most 15, from one depth to another: k codes from p on -/
def ty_run (co : Nat → Int32) : Nat → Nat → Nat → Nat → Prop
  | 0, _, d, e => d = e
  | k + 1, p, d, e => (¬ 2 ≤ co p ∧ d + 1 ≤ 15 ∧ ty_run co k (p + 1) (d + 1) e) ∨ (2 ≤ co p ∧ 2 ≤ d ∧ ty_run co k (p + 1) (d - 1) e)
def ty_rel (c v : Nat) (A A2 : Nat → Nat → Int32) (x : Nat → Nat) (k : Nat) : Prop :=
  A2 83 (200 * v + k) = nI (500 * v + x k) ∧ A2 85 (200 * v + k) = nI (500 * v + x (k + 1)) ∧
  (∃ y : Nat, x k ≤ y ∧ y ≤ x (k + 1) ∧ A2 84 (200 * v + k) = nI (500 * v + y) ∧ ty_run (fun p => A2 86 (500 * v + p)) (y - x k) (x k) 0 1 ∧ ty_run (fun p => A2 86 (500 * v + p)) (x (k + 1) - y) y 0 1) ∧
  (∀ p, x k ≤ p → p < x (k + 1) → ty_m (A (c + 5) (p + k)) (A (c + 6) (p + k)) (A2 86 (500 * v + p)) (A2 87 (500 * v + p))) ∧
  ∃ o : Nat, o < 4 ∧ A2 82 (200 * v + k) = nI o ∧ A (c + 5) (x (k + 1) + k) = nI (7 + o)
def ty_rule (c v : Nat) (A A2 : Nat → Nat → Int32) (x q : Nat → Nat) (r : Nat) : Prop :=
  A (c + 4) r = nI (x (q (r + 1)) + q (r + 1)) ∧ (A2 77 (20 * v + r) = 1 ∧ A (c + 1) r = 0 ∨ A2 77 (20 * v + r) = 0 ∧ A (c + 1) r = 1) ∧ A (c + 2) r = A2 78 (20 * v + r) ∧ (A2 79 (20 * v + r) = -1 ∧ A (c + 3) r = 10000 ∨ ¬ A2 79 (20 * v + r) = -1 ∧ A (c + 3) r = A2 79 (20 * v + r))
/-- rules of side v, m of them, with the places x of their relations in the codes, q of their first relations -/
def ty_at (c v m : Nat) (x q : Nat → Nat) (A A2 : Nat → Nat → Int32) : Prop :=
  x 0 = 0 ∧ q 0 = 0 ∧ (∀ r s, r ≤ s → s ≤ m → q r ≤ q s) ∧ (∀ k l, k ≤ l → l ≤ q m → x k ≤ x l) ∧ q m ≤ 200 ∧ x (q m) + q m ≤ 400 ∧ (∀ r, r ≤ m → A2 80 (21 * v + r) = nI (q r)) ∧ (∀ r, r < m → ty_rule c v A A2 x q r) ∧ ∀ k, k < q m → ty_rel c v A A2 x k
def rl_tr (c : Nat) (I A I2 A2 : Nat → Nat → Int32) : Prop := ∃ v m : Nat, v < 2 ∧ m ≤ 20 ∧ I2 68 18 = nI v ∧ I c 8 = nI m ∧ A2 76 v = nI m ∧ ∃ x q, ty_at c v m x q A A2
theorem rc_tr {c : Nat} {I A I2 A2 I' A' I2' A2' : Nat → Nat → Int32} (h : rl_tr c I A I2 A2) (e1 : I' c 8 = I c 8) (e2 : I2' 68 18 = I2 68 18) (a1 : A' (c + 1) = A (c + 1)) (a2 : A' (c + 2) = A (c + 2)) (a3 : A' (c + 3) = A (c + 3)) (a4 : A' (c + 4) = A (c + 4)) (a5 : A' (c + 5) = A (c + 5)) (a6 : A' (c + 6) = A (c + 6)) (b0 : A2' 76 = A2 76) (b1 : A2' 77 = A2 77) (b2 : A2' 78 = A2 78) (b3 : A2' 79 = A2 79) (b4 : A2' 80 = A2 80) (b5 : A2' 82 = A2 82) (b6 : A2' 83 = A2 83) (b7 : A2' 84 = A2 84) (b8 : A2' 85 = A2 85) (b9 : A2' 86 = A2 86) (b10 : A2' 87 = A2 87) : rl_tr c I' A' I2' A2' := by
  unfold rl_tr ty_at ty_rule ty_rel
  rw [e1, e2, a1, a2, a3, a4, a5, a6, b0, b1, b2, b3, b4, b5, b6, b7, b8, b9, b10]
  exact h
