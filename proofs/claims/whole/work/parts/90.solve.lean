/-! the class's pairing -/
def sq_in (I A : Nat → Nat → Int32) (M P K : Nat) (ask : Nat → Nat) (ok : Nat → Nat → Bool) (g : Nat → Nat → Nat) (h : Nat → Nat) : Prop :=
  I 46 5 = nI K ∧ K ≤ P ∧ P ≤ 10 ∧ M ≤ 6 ∧ (∀ j, j < K → A 51 j = nI (ask j) ∧ ask j < P) ∧ (∀ i j, i < j → j < K → ask i < ask j) ∧ (∀ p, p < P → ∀ m, m < M → A 47 (6 * p + m) = if ok p m = true then nI (g p m) else 0) ∧ (∀ p, p < P → (∀ j, j < K → ¬ ask j = p) → ∀ m, m < M → ok p m = false) ∧ (∀ p m, ok p m = true → ∃ s, s ≤ 306 ∧ g p m = 4096 * h p + s) ∧ (∀ p, h p ≤ 10000) ∧ ∀ p m, ok p m = true → 0 < g p m
def sq_nx (ask : Nat → Nat) (K P j : Nat) : Nat := if j < K then ask j else P
theorem sq_c {I A A' : Nat → Nat → Int32} {M P K : Nat} {ask : Nat → Nat} {ok : Nat → Nat → Bool} {g : Nat → Nat → Nat} {h : Nat → Nat} (Q : sq_in I A M P K ask ok g h) (e1 : A' 51 = A 51) (e2 : A' 47 = A 47) : sq_in I A' M P K ask ok g h := by
  unfold sq_in at Q ⊢
  rw [e1, e2]; exact Q
section Solve
variable {n M P K : Nat} {I A : Nat → Nat → Int32} {J : Nat → Nat → Int64} {t : Bool × Bool} {ask : Nat → Nat} {ok : Nat → Nat → Bool} {g : Nat → Nat → Nat} {h : Nat → Nat}
theorem sq_mx0 {o : Nat → Bool} {g1 V1 : Nat → Nat} {u c : Nat} : ∀ k, (∀ m, m < k → o m = false) → sv_mx o g1 V1 u k c = c
  | 0, _ => rfl
  | k + 1, q => by
    unfold sv_mx
    rw [if_neg (fun w => by rw [q k (by omega)] at w; exact absurd w.1 (by decide))]
    exact sq_mx0 k (fun m hm => q m (by omega))
/-- programmes that nothing fits bring nothing -/
theorem sq_skip {p : Nat} (hM : M ≤ 6) : ∀ d, p + d ≤ P → (∀ r, p ≤ r → r < p + d → ∀ m, m < M → ok r m = false) → (∀ u, sv ok g M P (P - p) u = sv ok g M P (P - (p + d)) u) ∧ sv_U ok g M P (p + d) = sv_U ok g M P p
  | 0, _, _ => ⟨fun _ => rfl, rfl⟩
  | d + 1, hd, q => by
    obtain ⟨i1, i2⟩ := sq_skip (p := p) hM d (by omega) (fun r h1 h2 => q r h1 (by omega))
    have e : P - (p + d) = (P - (p + (d + 1))) + 1 := by omega
    have e2 : P - (P - (p + (d + 1)) + 1) = p + d := by omega
    have nok : ∀ m, m < M → ok (p + d) m = false := q (p + d) (by omega) (by omega)
    refine ⟨fun u => ?_, ?_⟩
    · rw [i1 u, e]
      conv => lhs; rw [sv]
      rw [e2]
      exact sq_mx0 M nok
    · show sv_nu ok g M P (p + d) (sv_U ok g M P (p + d)) = _
      rw [i2]
      unfold sv_nu
      rcases sv_ch_or (ok := ok) (g := g) (P := P) hM (p + d) (sv_U ok g M P p) with ⟨h1, -⟩ | ⟨m, h1, h2, h3, h4, h5⟩
      · rw [if_pos h1]
      · rw [nok m h1] at h2
        exact absurd h2 (by decide)
theorem sq_step (Q : sq_in I A M P K ask ok g h) {a : Nat} (ha : a < K) : (∀ u, sv ok g M P (P - (ask a + 1)) u = sv ok g M P (P - sq_nx ask K P (a + 1)) u) ∧ sv_U ok g M P (sq_nx ask K P (a + 1)) = sv_U ok g M P (ask a + 1) := by
  obtain ⟨Q1, Q2, Q3, Q4, Q5, Q6, Q7, Q8, Q9, Q10, Q11⟩ := Q
  have lt : ask a + 1 ≤ sq_nx ask K P (a + 1) ∧ sq_nx ask K P (a + 1) ≤ P ∧ ∀ r, ask a + 1 ≤ r → r < sq_nx ask K P (a + 1) → ∀ j, j < K → ¬ ask j = r := by
    unfold sq_nx
    have := (Q5 a ha).2
    by_cases w : a + 1 < K
    · rw [if_pos w]
      have s1 := Q6 a (a + 1) (by omega) w
      refine ⟨by omega, Nat.le_of_lt (Q5 (a + 1) w).2, fun r r1 r2 j hj e => ?_⟩
      rcases Nat.lt_or_ge j (a + 1) with z | z
      · rcases Nat.lt_or_ge j a with z2 | z2
        · have := Q6 j a z2 ha; omega
        · have : j = a := by omega
          subst this; omega
      · rcases Nat.lt_or_ge (a + 1) j with z2 | z2
        · have := Q6 (a + 1) j z2 hj; omega
        · have : j = a + 1 := by omega
          subst this; omega
    · rw [if_neg w]
      refine ⟨by omega, Nat.le_refl _, fun r r1 r2 j hj e => ?_⟩
      rcases Nat.lt_or_ge j a with z2 | z2
      · have := Q6 j a z2 ha; omega
      · have : j = a := by omega
        subst this; omega
  obtain ⟨d, hd⟩ : ∃ d, sq_nx ask K P (a + 1) = ask a + 1 + d := ⟨sq_nx ask K P (a + 1) - (ask a + 1), by omega⟩
  rw [hd] at lt ⊢
  exact sq_skip (p := ask a + 1) Q4 d lt.2.1 (fun r r1 r2 m hm => Q8 r (by omega) (lt.2.2 r r1 r2) m hm)
theorem sq_first (Q : sq_in I A M P K ask ok g h) : sv_U ok g M P (sq_nx ask K P 0) = 0 := by
  obtain ⟨Q1, Q2, Q3, Q4, Q5, Q6, Q7, Q8, Q9, Q10, Q11⟩ := Q
  have lt : sq_nx ask K P 0 ≤ P ∧ ∀ r, r < sq_nx ask K P 0 → ∀ j, j < K → ¬ ask j = r := by
    unfold sq_nx
    by_cases w : 0 < K
    · rw [if_pos w]
      refine ⟨Nat.le_of_lt (Q5 0 w).2, fun r r2 j hj e => ?_⟩
      rcases Nat.lt_or_ge 0 j with z2 | z2
      · have := Q6 0 j z2 hj; omega
      · have : j = 0 := by omega
        subst this; omega
    · rw [if_neg w]
      exact ⟨Nat.le_refl _, fun r r2 j hj => absurd hj (by omega)⟩
  have := (sq_skip (p := 0) (P := P) (ok := ok) (g := g) Q4 (sq_nx ask K P 0) (by omega) (fun r r1 r2 m hm => Q8 r (by omega) (lt.2 r (by omega)) m hm)).2
  rw [Nat.zero_add] at this
  exact this
theorem sq_small (Q : sq_in I A M P K ask ok g h) : ∀ d u, d ≤ 10 → sv ok g M P d u < 500000000 := fun d u hd => by
  obtain ⟨Q1, Q2, Q3, Q4, Q5, Q6, Q7, Q8, Q9, Q10, Q11⟩ := Q
  obtain ⟨L, S, e, e1, e2⟩ := sv_bd (P := P) Q4 Q9 Q10 d u
  rw [e]; omega
/-- one mast for one programme -/
theorem sq_gain (Q : sq_in I A M P K ask ok g h) {a u m : Nat} (ha : a < K) (hu : u < 2 ^ M) (hm : m < M) (h52 : ∀ w, w < 2 ^ M → A 52 (64 * (a + 1) + w) = nI (sv ok g M P (P - sq_nx ask K P (a + 1)) w)) :
    pb_X3_gainBy_46 n I A J t (nI a) (nI u) (nI m) ∧ px_X3_gainBy_46 n I A J t (nI a) (nI u) (nI m) = if ok (ask a) m = true ∧ sv_bt u m = false then nI (g (ask a) m + sv ok g M P (P - (ask a + 1)) (sv_su u m)) else -1 := by
  have QQ := Q
  obtain ⟨Q1, Q2, Q3, Q4, Q5, Q6, Q7, Q8, Q9, Q10, Q11⟩ := Q
  have h64 := (sv_one M (by omega)).2
  obtain ⟨b1, b2⟩ := sv_bits u (by omega) m (by omega)
  have bl := sv_lt M (by omega) u hu m hm
  have ca : (nI a).toNatClampNeg = a := nI_clamp (by omega)
  obtain ⟨q1, q2⟩ := Q5 a ha
  have ix : nI (ask a) * 6 + nI m = nI (6 * ask a + m) := by
    have : (6 : Int32) = nI 6 := rfl
    rw [this, pk_mul, nI_add, Nat.mul_comm]
  have e16 : q16_X3_gainBy_46 n I A J t (nI a) (nI u) (nI m) = if ok (ask a) m = true then nI (g (ask a) m) else 0 := by
    unfold q16_X3_gainBy_46
    rw [ca, q1, ix, nI_clamp (by omega)]
    exact Q7 _ q2 m hm
  have s1 : (nI a + 1) <<< ((6 : Int32) &&& 31) = nI (64 * (a + 1)) := by rw [nI_1]; exact sv_sh (a + 1) (by omega)
  have ix2 : (nI a + 1) <<< ((6 : Int32) &&& 31) + (nI u ||| ((1 : Int32) <<< (nI m &&& 31))) = nI (64 * (a + 1) + sv_su u m) := by rw [s1, b1, nI_add]
  unfold pb_X3_gainBy_46 px_X3_gainBy_46
  rw [e16, ca, q1, ix, ix2, nI_clamp (by omega), h52 _ bl, ← (sq_step QQ ha).1]
  refine ⟨⟨vp_in_nI (by omega) (by decide), vp_in_nI (by omega) (by decide), fun _ _ => vp_in_nI (by omega) (by decide)⟩, ?_⟩
  by_cases o : ok (ask a) m = true
  · rw [if_pos o]
    have gp := Q11 _ _ o
    obtain ⟨s, s2, s3⟩ := Q9 _ _ o
    have := Q10 (ask a)
    rw [if_neg (nI_ne0 gp (by omega))]
    by_cases w : ((nI u >>> (nI m &&& 31)) &&& 1) = 1
    · have wb : sv_bt u m = true := decide_eq_true w
      rw [if_pos w, if_neg (fun z => by rw [wb] at z; exact absurd z.2 (by decide))]
    · have wb : sv_bt u m = false := decide_eq_false w
      rw [if_neg w, if_pos ⟨o, wb⟩, nI_add]
  · rw [if_neg o, if_pos rfl, if_neg (fun z => o z.1)]
theorem sq_best (Q : sq_in I A M P K ask ok g h) {a u : Nat} (hn : 10 ≤ n) (ha : a < K) (hu : u < 2 ^ M) (h52 : ∀ w, w < 2 ^ M → A 52 (64 * (a + 1) + w) = nI (sv ok g M P (P - sq_nx ask K P (a + 1)) w)) :
    pb_X3_bestFrom_46 n I A J t (nI a) (nI u) (nI M) ∧ px_X3_bestFrom_46 n I A J t (nI a) (nI u) (nI M) = nI (sv ok g M P (P - ask a) u) := by
  have QQ := Q
  obtain ⟨Q1, Q2, Q3, Q4, Q5, Q6, Q7, Q8, Q9, Q10, Q11⟩ := Q
  have h64 := (sv_one M (by omega)).2
  obtain ⟨q1, q2⟩ := Q5 a ha
  have s1 : (nI a + 1) <<< ((6 : Int32) &&& 31) = nI (64 * (a + 1)) := by rw [nI_1]; exact sv_sh (a + 1) (by omega)
  have mono : ∀ k c, c ≤ sv_mx (ok (ask a)) (g (ask a)) (sv ok g M P (P - (ask a + 1))) u k c := by
    intro k
    induction k with
    | zero => intro c; exact Nat.le_refl _
    | succ k ih =>
      intro c
      unfold sv_mx
      split
      · exact Nat.le_trans (ih c) (Nat.le_max_left _ _)
      · exact ih c
  have lp : ∀ j k f, k + j = M → j < f → lb_X3_bestFrom_46_18 n I A J t (nI a) (nI u) (nI M) f (nI (sv_mx (ok (ask a)) (g (ask a)) (sv ok g M P (P - (ask a + 1))) u k (sv ok g M P (P - (ask a + 1)) u))) (nI k) ∧ (lp_X3_bestFrom_46_18 n I A J t (nI a) (nI u) (nI M) f (nI (sv_mx (ok (ask a)) (g (ask a)) (sv ok g M P (P - (ask a + 1))) u k (sv ok g M P (P - (ask a + 1)) u))) (nI k)).1 = nI (sv_mx (ok (ask a)) (g (ask a)) (sv ok g M P (P - (ask a + 1))) u M (sv ok g M P (P - (ask a + 1)) u)) := by
    intro j
    induction j with
    | zero =>
      intro k f hk hf
      obtain ⟨f, rfl⟩ : ∃ x, f = x + 1 := ⟨f - 1, by omega⟩
      have : k = M := by omega
      subst this
      have c : nI k ≤ nI k := nI_le (Nat.le_refl _) (by omega)
      unfold lb_X3_bestFrom_46_18 lp_X3_bestFrom_46_18
      rw [if_pos c]
      exact ⟨fun z => absurd c z, rfl⟩
    | succ j ih =>
      intro k f hk hf
      obtain ⟨f, rfl⟩ : ∃ x, f = x + 1 := ⟨f - 1, by omega⟩
      have c : ¬ nI M ≤ nI k := nI_ge (by omega) (by omega)
      obtain ⟨g1, g2⟩ := sq_gain (n := n) (J := J) (t := t) QQ ha hu (m := k) (by omega) h52
      obtain ⟨i1, i2⟩ := ih (k + 1) f (by omega) (by omega)
      have sm : ∀ k c, (∀ m, m < k → ok (ask a) m = true → g (ask a) m + sv ok g M P (P - (ask a + 1)) (sv_su u m) < 1000000000) → c < 1000000000 → sv_mx (ok (ask a)) (g (ask a)) (sv ok g M P (P - (ask a + 1))) u k c < 1000000000 := by
        intro k c b1 b2
        rcases sv_mx_or (ok := ok (ask a)) (g := g (ask a)) (V1 := sv ok g M P (P - (ask a + 1))) (u := u) (c := c) k with z | ⟨m, z1, z2, z3, z4⟩
        · rw [z]; exact b2
        · rw [z4]; exact b1 m z1 z2
      have bg : ∀ m, ok (ask a) m = true → g (ask a) m + sv ok g M P (P - (ask a + 1)) (sv_su u m) < 1000000000 := fun m o => by
        obtain ⟨s, s2, s3⟩ := Q9 _ _ o
        have := Q10 (ask a)
        have := sq_small QQ (P - (ask a + 1)) (sv_su u m) (by omega)
        omega
      have bv : sv ok g M P (P - (ask a + 1)) u < 1000000000 := by
        have := sq_small QQ (P - (ask a + 1)) u (by omega)
        omega
      have bm := sm k _ (fun m _ o => bg m o) bv
      have e37 : q37_X3_bestFrom_46 n I A J t (nI a) (nI u) (nI M) (nI (sv_mx (ok (ask a)) (g (ask a)) (sv ok g M P (P - (ask a + 1))) u k (sv ok g M P (P - (ask a + 1)) u))) (nI k) = nI (sv_mx (ok (ask a)) (g (ask a)) (sv ok g M P (P - (ask a + 1))) u (k + 1) (sv ok g M P (P - (ask a + 1)) u)) := by
        unfold q37_X3_bestFrom_46 px_J9_max_7cf53 qs0m2_J9_max_7cf53
        rw [g2]
        conv => rhs; rw [sv_mx]
        by_cases o : ok (ask a) k = true ∧ sv_bt u k = false
        · rw [if_pos o, if_pos o]
          have bk := bg k o.1
          by_cases w : sv_mx (ok (ask a)) (g (ask a)) (sv ok g M P (P - (ask a + 1))) u k (sv ok g M P (P - (ask a + 1)) u) < g (ask a) k + sv ok g M P (P - (ask a + 1)) (sv_su u k)
          · rw [if_pos (nI_lt w (by omega))]
            exact congrArg nI (Nat.max_eq_right (Nat.le_of_lt w)).symm
          · rw [if_neg (nI_nlt (by omega) (by omega))]
            exact congrArg nI (Nat.max_eq_left (Nat.le_of_not_lt w)).symm
        · rw [if_neg o, if_neg o, if_neg]
          rw [tI_lt, tI_nI (by omega)]
          have a1 : (-1 : Int32).toInt = -1 := rfl
          omega
      have e39 : q39_X3_bestFrom_46 n I A J t (nI a) (nI u) (nI M) (nI (sv_mx (ok (ask a)) (g (ask a)) (sv ok g M P (P - (ask a + 1))) u k (sv ok g M P (P - (ask a + 1)) u))) (nI k) = nI (k + 1) := nI_1 k
      unfold lb_X3_bestFrom_46_18 lp_X3_bestFrom_46_18
      rw [if_neg c, e37, e39]
      exact ⟨fun _ => ⟨g1, i1⟩, i2⟩
  have e13 : q13_X3_bestFrom_46 n I A J t (nI a) (nI u) (nI M) = nI (sv ok g M P (P - (ask a + 1)) u) := by
    unfold q13_X3_bestFrom_46
    rw [s1, nI_add, nI_clamp (by omega), h52 u hu, (sq_step QQ ha).1]
  obtain ⟨l1, l2⟩ := lp M 0 n (by omega) (by omega)
  have z0 : nI 0 = 0 := nI_0
  have hsv : sv ok g M P (P - ask a) u = sv_mx (ok (ask a)) (g (ask a)) (sv ok g M P (P - (ask a + 1))) u M (sv ok g M P (P - (ask a + 1)) u) := by
    have e : P - ask a = (P - (ask a + 1)) + 1 := by omega
    have e2 : P - (P - (ask a + 1) + 1) = ask a := by omega
    rw [e]
    conv => lhs; rw [sv]
    rw [e2]
  unfold pb_X3_bestFrom_46 px_X3_bestFrom_46 q4w18_X3_bestFrom_46
  rw [e13, s1, nI_add, hsv, ← z0]
  exact ⟨⟨vp_in_nI (by omega) (by decide), l1⟩, l2⟩
/-- the table -/
theorem sq_row {a : Nat} (Q : sq_in I A M P K ask ok g h) (hn : 100 ≤ n) (ha : a < K) (A39 : Nat → Nat → Int32) : ∀ (k i f : Nat) (A46 : Nat → Nat → Int32), i + k = 2 ^ M → k < f → A46 51 = A 51 → A46 47 = A 47 → (∀ w, w < 2 ^ M → A46 52 (64 * (a + 1) + w) = nI (sv ok g M P (P - sq_nx ask K P (a + 1)) w)) →
    lb_X3_solve_46_46 n I A J t (nI M) A39 (nI a) f A46 (nI i) ∧ ∀ j, (lp_X3_solve_46_46 n I A J t (nI M) A39 (nI a) f A46 (nI i)).1 52 j = if 64 * a + i ≤ j ∧ j < 64 * a + 2 ^ M then nI (sv ok g M P (P - ask a) (j - 64 * a)) else A46 52 j := by
  have QQ := Q
  obtain ⟨Q1, Q2, Q3, Q4, Q5, Q6, Q7, Q8, Q9, Q10, Q11⟩ := Q
  obtain ⟨h1M, h64⟩ := sv_one M (by omega)
  have e3 : q3_X3_solve_46 n I A J t (nI M) = nI (2 ^ M) := h1M
  intro k
  induction k with
  | zero =>
    intro i f A46 hk hf e51 e47 h52
    obtain ⟨f, rfl⟩ : ∃ x, f = x + 1 := ⟨f - 1, by omega⟩
    have c : nI (2 ^ M) ≤ nI i := nI_le (by omega) (by omega)
    unfold lb_X3_solve_46_46 lp_X3_solve_46_46
    rw [e3, if_pos c]
    refine ⟨fun z => absurd c z, fun j => ?_⟩
    rw [if_neg (by omega)]
  | succ k ih =>
    intro i f A46 hk hf e51 e47 h52
    obtain ⟨f, rfl⟩ : ∃ x, f = x + 1 := ⟨f - 1, by omega⟩
    have c : ¬ nI (2 ^ M) ≤ nI i := nI_ge (by omega) (by omega)
    obtain ⟨b1, b2⟩ := sq_best (n := n) (J := J) (t := t) (sq_c QQ e51 e47) (by omega) ha (u := i) (by omega) h52
    have s1 : nI a <<< ((6 : Int32) &&& 31) + nI i = nI (64 * a + i) := by rw [sv_sh a (by omega), nI_add]
    have e71 : qA71_X3_solve_46 n I A J t (nI M) A39 (nI a) A46 (nI i) = cw_u A46 52 (64 * a + i) (nI (sv ok g M P (P - ask a) i)) := by
      unfold qA71_X3_solve_46
      rw [s1, nI_clamp (by omega), b2]
    have e72 : q72_X3_solve_46 n I A J t (nI M) A39 (nI a) A46 (nI i) = nI (i + 1) := nI_1 i
    obtain ⟨r1, r2⟩ := ih (i + 1) f (cw_u A46 52 (64 * a + i) (nI (sv ok g M P (P - ask a) i))) (by omega) (by omega) (by rw [cw_u_c _ _ (by decide)]; exact e51) (by rw [cw_u_c _ _ (by decide)]; exact e47) (fun w hw => by rw [cw_u_k _ _ (by omega)]; exact h52 w hw)
    unfold lb_X3_solve_46_46 lp_X3_solve_46_46
    rw [e3, if_neg c, e71, e72, s1]
    refine ⟨fun _ => ⟨b1, vp_in_nI (by omega) (by decide), r1⟩, fun j => ?_⟩
    rw [r2 j]
    by_cases q : j = 64 * a + i
    · subst q
      rw [cw_u_s, if_neg (by omega), if_pos (by omega)]
      congr 2; omega
    · rw [cw_u_k _ _ q]
      by_cases q2 : 64 * a + (i + 1) ≤ j ∧ j < 64 * a + 2 ^ M
      · rw [if_pos q2, if_pos (by omega)]
      · rw [if_neg q2, if_neg (by omega)]
theorem sq_zero (Q : sq_in I A M P K ask ok g h) : ∀ (k i f : Nat) (A6 : Nat → Nat → Int32), i + k = 2 ^ M → k < f →
    lb_X3_solve_46_6 n I A J t (nI M) f A6 (nI i) ∧ ∀ j, (lp_X3_solve_46_6 n I A J t (nI M) f A6 (nI i)).1 52 j = if 64 * K + i ≤ j ∧ j < 64 * K + 2 ^ M then 0 else A6 52 j := by
  obtain ⟨Q1, Q2, Q3, Q4, Q5, Q6, Q7, Q8, Q9, Q10, Q11⟩ := Q
  obtain ⟨h1M, h64⟩ := sv_one M (by omega)
  have e3 : q3_X3_solve_46 n I A J t (nI M) = nI (2 ^ M) := h1M
  intro k
  induction k with
  | zero =>
    intro i f A6 hk hf
    obtain ⟨f, rfl⟩ : ∃ x, f = x + 1 := ⟨f - 1, by omega⟩
    have c : nI (2 ^ M) ≤ nI i := nI_le (by omega) (by omega)
    unfold lb_X3_solve_46_6 lp_X3_solve_46_6
    rw [e3, if_pos c]
    refine ⟨fun z => absurd c z, fun j => ?_⟩
    rw [if_neg (by omega)]
  | succ k ih =>
    intro i f A6 hk hf
    obtain ⟨f, rfl⟩ : ∃ x, f = x + 1 := ⟨f - 1, by omega⟩
    have c : ¬ nI (2 ^ M) ≤ nI i := nI_ge (by omega) (by omega)
    have s1 : nI K <<< ((6 : Int32) &&& 31) + nI i = nI (64 * K + i) := by rw [sv_sh K (by omega), nI_add]
    have e25 : qA25_X3_solve_46 n I A J t (nI M) A6 (nI i) = cw_u A6 52 (64 * K + i) 0 := by
      unfold qA25_X3_solve_46
      rw [Q1, s1, nI_clamp (by omega)]
    have e26 : q26_X3_solve_46 n I A J t (nI M) A6 (nI i) = nI (i + 1) := nI_1 i
    obtain ⟨r1, r2⟩ := ih (i + 1) f (cw_u A6 52 (64 * K + i) 0) (by omega) (by omega)
    unfold lb_X3_solve_46_6 lp_X3_solve_46_6
    rw [e3, if_neg c, e25, e26, Q1, s1]
    refine ⟨fun _ => ⟨vp_in_nI (by omega) (by decide), r1⟩, fun j => ?_⟩
    rw [r2 j]
    by_cases q : j = 64 * K + i
    · subst q
      rw [cw_u_s, if_neg (by omega), if_pos (by omega)]
    · rw [cw_u_k _ _ q]
      by_cases q2 : 64 * K + (i + 1) ≤ j ∧ j < 64 * K + 2 ^ M
      · rw [if_pos q2, if_pos (by omega)]
      · rw [if_neg q2, if_neg (by omega)]
theorem sq_table (Q : sq_in I A M P K ask ok g h) (hn : 100 ≤ n) : ∀ (a f : Nat) (A39 : Nat → Nat → Int32), a ≤ K → a < f → A39 51 = A 51 → A39 47 = A 47 → (∀ b, a ≤ b → b ≤ K → ∀ w, w < 2 ^ M → A39 52 (64 * b + w) = nI (sv ok g M P (P - sq_nx ask K P b) w)) →
    lb_X3_solve_46_39 n I A J t (nI M) f A39 (nI a - 1) ∧ ∀ b, b ≤ K → ∀ w, w < 2 ^ M → (lp_X3_solve_46_39 n I A J t (nI M) f A39 (nI a - 1)).1 52 (64 * b + w) = nI (sv ok g M P (P - sq_nx ask K P b) w) := by
  have QQ := Q
  obtain ⟨Q1, Q2, Q3, Q4, Q5, Q6, Q7, Q8, Q9, Q10, Q11⟩ := Q
  obtain ⟨h1M, h64⟩ := sv_one M (by omega)
  intro a
  induction a with
  | zero =>
    intro f A39 hk hf e51 e47 h52
    obtain ⟨f, rfl⟩ : ∃ x, f = x + 1 := ⟨f - 1, by omega⟩
    have c : nI 0 - 1 < 0 := by decide
    unfold lb_X3_solve_46_39 lp_X3_solve_46_39
    rw [if_pos c]
    exact ⟨fun z => absurd c z, fun b hb w hw => h52 b (by omega) hb w hw⟩
  | succ a ih =>
    intro f A39 hk hf e51 e47 h52
    obtain ⟨f, rfl⟩ : ∃ x, f = x + 1 := ⟨f - 1, by omega⟩
    rw [nI_pred]
    have c : ¬ nI a < 0 := nI_pos (by omega)
    have z0 : nI 0 = 0 := nI_0
    obtain ⟨r1, r2⟩ := sq_row (n := n) (J := J) (t := t) QQ hn (a := a) (by omega) A39 (2 ^ M) 0 n A39 (by omega) (by omega) e51 e47 (h52 (a + 1) (by omega) (by omega))
    rw [z0] at r1 r2
    have e46 : ∀ c, c ≠ 52 → qAw46_X3_solve_46 n I A J t (nI M) A39 (nI a) c = A39 c := fun c hc => fr_qAw46_X3_solve_46 (by simp [hc])
    have e78 : q78_X3_solve_46 n I A J t (nI M) A39 (nI a) = nI a - 1 := by
      unfold q78_X3_solve_46
      rw [Int32.sub_eq_add_neg]
    obtain ⟨i1, i2⟩ := ih f (qAw46_X3_solve_46 n I A J t (nI M) A39 (nI a)) (by omega) (by omega) (by rw [e46 51 (by decide)]; exact e51) (by rw [e46 47 (by decide)]; exact e47) (fun b hb hb2 w hw => by
      unfold qAw46_X3_solve_46
      rw [r2]
      by_cases q : b = a
      · subst q
        rw [if_pos (by omega)]
        have : sq_nx ask K P b = ask b := by unfold sq_nx; rw [if_pos (by omega)]
        rw [this]
        congr 2; omega
      · rw [if_neg (by omega)]
        exact h52 b (by omega) hb2 w hw)
    unfold lb_X3_solve_46_39 lp_X3_solve_46_39
    rw [if_neg c, e78]
    exact ⟨fun _ => ⟨r1, i1⟩, i2⟩
end Solve
