/-! the class's choice -/
section Choose
variable {n M P K : Nat} {I A : Nat → Nat → Int32} {J : Nat → Nat → Int64} {t : Bool × Bool} {ask : Nat → Nat} {ok : Nat → Nat → Bool} {g : Nat → Nat → Nat} {h : Nat → Nat}
theorem sq_pick {A4 : Nat → Nat → Int32} (Q : sq_in I A4 M P K ask ok g h) {a u : Nat} (ha : a < K) (hu : u < 2 ^ M) (h52 : ∀ b, b ≤ K → ∀ w, w < 2 ^ M → A4 52 (64 * b + w) = nI (sv ok g M P (P - sq_nx ask K P b) w)) : ∀ j k f, k + j = M → j < f →
    lb_X3_choose_46_31 n I A J t (nI M) A4 (nI u) (nI a) f (sv_ls (sv_pk ok g M P (ask a) u) k) (nI k) ∧ (lp_X3_choose_46_31 n I A J t (nI M) A4 (nI u) (nI a) f (sv_ls (sv_pk ok g M P (ask a) u) k) (nI k)).1 = sv_ch ok g M P (ask a) u := by
  have QQ := Q
  obtain ⟨Q1, Q2, Q3, Q4, Q5, Q6, Q7, Q8, Q9, Q10, Q11⟩ := Q
  obtain ⟨h1M, h64⟩ := sv_one M (by omega)
  have nxa : sq_nx ask K P a = ask a := by unfold sq_nx; rw [if_pos ha]
  have e23 : q23_X3_choose_46 n I A J t (nI M) A4 (nI u) (nI a) = nI (sv ok g M P (P - ask a) u) := by
    unfold q23_X3_choose_46
    rw [sv_sh a (by omega), nI_add, nI_clamp (by omega), h52 a (by omega) u hu, nxa]
  intro j
  induction j with
  | zero =>
    intro k f hk hf
    obtain ⟨f, rfl⟩ : ∃ x, f = x + 1 := ⟨f - 1, by omega⟩
    have : k = M := by omega
    subst this
    have c : nI k ≤ nI k := nI_le (Nat.le_refl _) (by omega)
    unfold lb_X3_choose_46_31 lp_X3_choose_46_31
    rw [if_pos c]
    exact ⟨fun z => absurd c z, rfl⟩
  | succ j ih =>
    intro k f hk hf
    obtain ⟨f, rfl⟩ : ∃ x, f = x + 1 := ⟨f - 1, by omega⟩
    have c : ¬ nI M ≤ nI k := nI_ge (by omega) (by omega)
    unfold lb_X3_choose_46_31 lp_X3_choose_46_31
    rw [if_neg c]
    by_cases q : sv_ls (sv_pk ok g M P (ask a) u) k = -1
    · obtain ⟨g1, g2⟩ := sq_gain (n := n) (J := J) (t := t) QQ ha hu (m := k) (by omega) (fun w hw => h52 (a + 1) (by omega) w hw)
      have e53 : qs0m53_X3_choose_46 n I A J t (nI M) A4 (nI u) (nI a) (sv_ls (sv_pk ok g M P (ask a) u) k) (nI k) = sv_ls (sv_pk ok g M P (ask a) u) (k + 1) := by
        unfold qs0m53_X3_choose_46
        rw [e23, g2]
        conv => rhs; rw [sv_ls]
        rw [if_pos q]
        have sm1 := sq_small QQ (P - ask a) u (by omega)
        by_cases o : ok (ask a) k = true ∧ sv_bt u k = false
        · rw [if_pos o]
          obtain ⟨s, s2, s3⟩ := Q9 _ _ o.1
          have := Q10 (ask a)
          have sm2 := sq_small QQ (P - (ask a + 1)) (sv_su u k) (by omega)
          by_cases w : g (ask a) k + sv ok g M P (P - (ask a + 1)) (sv_su u k) = sv ok g M P (P - ask a) u
          · rw [if_pos (by rw [w]), if_pos (show sv_pk ok g M P (ask a) u k = true from decide_eq_true ⟨o.1, o.2, w⟩)]
          · rw [if_neg (fun z => w ((nI_eq (by omega) (by omega)).mp z)), if_neg (fun z => w (of_decide_eq_true z).2.2)]
        · rw [if_neg o, if_neg (fun z => sv_n1 (by omega) z.symm), if_neg (fun z => o ⟨(of_decide_eq_true z).1, (of_decide_eq_true z).2.1⟩)]
      have e64 : q64_X3_choose_46 n I A J t (nI M) A4 (nI u) (nI a) (sv_ls (sv_pk ok g M P (ask a) u) k) (nI k) = nI (k + 1) := nI_1 k
      obtain ⟨i1, i2⟩ := ih (k + 1) f (by omega) (by omega)
      rw [if_pos q, e53, e64]
      exact ⟨fun _ _ => ⟨g1, i1⟩, i2⟩
    · rw [if_neg q]
      refine ⟨fun _ z => absurd z q, ?_⟩
      have := sv_ls_gd (pk := sv_pk ok g M P (ask a) u) (M - k) k (by omega)
      have e : k + (M - k) = M := by omega
      rw [e, if_neg q] at this
      exact this.symm
theorem sq_noch (Q : sq_in I A M P K ask ok g h) {p u : Nat} (hp : p < P) (na : ∀ j, j < K → ¬ ask j = p) : sv_ch ok g M P p u = -1 := by
  obtain ⟨Q1, Q2, Q3, Q4, Q5, Q6, Q7, Q8, Q9, Q10, Q11⟩ := Q
  rcases sv_ch_or (ok := ok) (g := g) (P := P) Q4 p u with ⟨h1, -⟩ | ⟨m, h1, h2, h3, h4, h5⟩
  · exact h1
  · rw [Q8 p hp na m h1] at h2
    exact absurd h2 (by decide)
theorem sq_gap (Q : sq_in I A M P K ask ok g h) {a p : Nat} (ha : a < K) (h1 : ask a < p) (h2 : p < sq_nx ask K P (a + 1)) : p < P ∧ ∀ j, j < K → ¬ ask j = p := by
  obtain ⟨Q1, Q2, Q3, Q4, Q5, Q6, Q7, Q8, Q9, Q10, Q11⟩ := Q
  unfold sq_nx at h2
  by_cases w : a + 1 < K
  · rw [if_pos w] at h2
    have := (Q5 (a + 1) w).2
    refine ⟨by omega, fun j hj e => ?_⟩
    rcases Nat.lt_or_ge j (a + 1) with z | z
    · rcases Nat.lt_or_ge j a with z2 | z2
      · have := Q6 j a z2 ha; omega
      · have : j = a := by omega
        subst this; omega
    · rcases Nat.lt_or_ge (a + 1) j with z2 | z2
      · have := Q6 (a + 1) j z2 hj; omega
      · have : j = a + 1 := by omega
        subst this; omega
  · rw [if_neg w] at h2
    refine ⟨h2, fun j hj e => ?_⟩
    rcases Nat.lt_or_ge j a with z2 | z2
    · have := Q6 j a z2 ha; omega
    · have : j = a := by omega
      subst this; omega
theorem sq_choose (Q : sq_in I A M P K ask ok g h) (hn : 100 ≤ n) (h52 : ∀ b, b ≤ K → ∀ w, w < 2 ^ M → A 52 (64 * b + w) = nI (sv ok g M P (P - sq_nx ask K P b) w)) : ∀ (d a f : Nat) (A4 : Nat → Nat → Int32), a + d = K → d < f → (∀ c, c ≠ 50 → A4 c = A c) → (∀ p, p < sq_nx ask K P a → A4 50 p = sv_ch ok g M P p (sv_U ok g M P p)) → (∀ p, sq_nx ask K P a ≤ p → p < P → A4 50 p = -1) →
    lb_X3_choose_46_4 n I A J t (nI M) f A4 (nI (sv_U ok g M P (sq_nx ask K P a))) (nI a) ∧ ∀ p, p < P → (lp_X3_choose_46_4 n I A J t (nI M) f A4 (nI (sv_U ok g M P (sq_nx ask K P a))) (nI a)).1 50 p = sv_ch ok g M P p (sv_U ok g M P p) := by
  have QQ := Q
  obtain ⟨Q1, Q2, Q3, Q4, Q5, Q6, Q7, Q8, Q9, Q10, Q11⟩ := Q
  obtain ⟨h1M, h64⟩ := sv_one M (by omega)
  intro d
  induction d with
  | zero =>
    intro a f A4 hk hf ha i1 i2
    obtain ⟨f, rfl⟩ : ∃ x, f = x + 1 := ⟨f - 1, by omega⟩
    have c : nI K ≤ nI a := nI_le (by omega) (by omega)
    have e : sq_nx ask K P a = P := by unfold sq_nx; rw [if_neg (by omega)]
    rw [e] at i1 ⊢
    unfold lb_X3_choose_46_4 lp_X3_choose_46_4
    rw [Q1, if_pos c]
    exact ⟨fun z => absurd c z, i1⟩
  | succ d ih =>
    intro a f A4 hk hf ha i1 i2
    obtain ⟨f, rfl⟩ : ∃ x, f = x + 1 := ⟨f - 1, by omega⟩
    have c : ¬ nI K ≤ nI a := nI_ge (by omega) (by omega)
    have hak : a < K := by omega
    have e : sq_nx ask K P a = ask a := by unfold sq_nx; rw [if_pos hak]
    rw [e] at i1 i2 ⊢
    have hU := sv_U_lt (ok := ok) (g := g) (P := P) Q4 (ask a)
    have Q4' : sq_in I A4 M P K ask ok g h := sq_c QQ (ha 51 (by decide)) (ha 47 (by decide))
    have h52' : ∀ b, b ≤ K → ∀ w, w < 2 ^ M → A4 52 (64 * b + w) = nI (sv ok g M P (P - sq_nx ask K P b) w) := by rw [ha 52 (by decide)]; exact h52
    obtain ⟨p1, p2⟩ := sq_pick (n := n) (A := A) (J := J) (t := t) Q4' hak hU h52' M 0 n (by omega) (by omega)
    have z0 : nI 0 = 0 := nI_0
    have l0 : sv_ls (sv_pk ok g M P (ask a) (sv_U ok g M P (ask a))) 0 = -1 := rfl
    rw [z0, l0] at p1 p2
    have e5 : q5w31_X3_choose_46 n I A J t (nI M) A4 (nI (sv_U ok g M P (ask a))) (nI a) = sv_ch ok g M P (ask a) (sv_U ok g M P (ask a)) := p2
    have e96 : q96_X3_choose_46 n I A J t (nI M) A4 (nI (sv_U ok g M P (ask a))) (nI a) = nI (a + 1) := nI_1 a
    have ca : (nI a).toNatClampNeg = a := nI_clamp (by omega)
    have e51 : A4 51 a = nI (ask a) := by rw [ha 51 (by decide)]; exact (Q5 a hak).1
    have aP := (Q5 a hak).2
    have UU : sv_U ok g M P (ask a + 1) = sv_nu ok g M P (ask a) (sv_U ok g M P (ask a)) := rfl
    have s1 : nI a <<< ((6 : Int32) &&& 31) + nI (sv_U ok g M P (ask a)) = nI (64 * a + sv_U ok g M P (ask a)) := by rw [sv_sh a (by omega), nI_add]
    have vs : vp_in (nI (64 * a + sv_U ok g M P (ask a))) 704 := vp_in_nI (by omega) (by decide)
    have va : vp_in (nI a) 10 := vp_in_nI (by omega) (by decide)
    have vk : vp_in (nI (ask a)) 10 := vp_in_nI (by omega) (by decide)
    have sU := (sq_step QQ hak).2
    have gap : ∀ p, ask a < p → p < sq_nx ask K P (a + 1) → sv_ch ok g M P p (sv_U ok g M P p) = -1 := fun p q1 q2 => by
      obtain ⟨w1, w2⟩ := sq_gap QQ hak q1 q2
      exact sq_noch QQ w1 w2
    have lt1 : ask a < sq_nx ask K P (a + 1) ∧ sq_nx ask K P (a + 1) ≤ P := by
      unfold sq_nx
      by_cases w : a + 1 < K
      · rw [if_pos w]; exact ⟨Q6 a (a + 1) (by omega) w, Nat.le_of_lt (Q5 _ w).2⟩
      · rw [if_neg w]; exact ⟨aP, Nat.le_refl _⟩
    have main : ∀ A5 : Nat → Nat → Int32, (∀ c, c ≠ 50 → A5 c = A c) → A5 50 (ask a) = sv_ch ok g M P (ask a) (sv_U ok g M P (ask a)) → (∀ p, ¬ p = ask a → A5 50 p = A4 50 p) → lb_X3_choose_46_4 n I A J t (nI M) f A5 (nI (sv_U ok g M P (sq_nx ask K P (a + 1)))) (nI (a + 1)) ∧ ∀ p, p < P → (lp_X3_choose_46_4 n I A J t (nI M) f A5 (nI (sv_U ok g M P (sq_nx ask K P (a + 1)))) (nI (a + 1))).1 50 p = sv_ch ok g M P p (sv_U ok g M P p) := fun A5 w1 w2 w3 => ih (a + 1) f A5 (by omega) (by omega) w1 (fun p hp => by
        by_cases q : p = ask a
        · subst q; exact w2
        · rw [w3 p q]
          rcases Nat.lt_or_ge p (ask a) with z | z
          · exact i1 p z
          · rw [i2 p z (by omega), gap p (by omega) hp]) (fun p hp hp2 => by rw [w3 p (by omega)]; exact i2 p (by omega) hp2)
    unfold lb_X3_choose_46_4 lp_X3_choose_46_4
    rw [Q1, if_neg c, e5, e96, s1, ca, e51]
    unfold qAm73_X3_choose_46 ql2m73_X3_choose_46
    rw [e5]
    by_cases w : sv_ch ok g M P (ask a) (sv_U ok g M P (ask a)) = -1
    · rw [if_pos w, if_pos w]
      have nu : sv_nu ok g M P (ask a) (sv_U ok g M P (ask a)) = sv_U ok g M P (ask a) := by unfold sv_nu; rw [if_pos w]
      rw [nu] at UU
      rw [UU] at sU
      obtain ⟨m1, m2⟩ := main A4 ha (by rw [i2 (ask a) (Nat.le_refl _) aP, w]) (fun _ _ => rfl)
      rw [sU] at m1 m2
      exact ⟨fun _ => ⟨vs, p1, fun z => absurd w z, m1⟩, m2⟩
    · rw [if_neg w, if_neg w]
      unfold qA88_X3_choose_46 q95_X3_choose_46
      rw [e5, ca, e51, nI_clamp (by omega)]
      rcases sv_ch_or (ok := ok) (g := g) (P := P) Q4 (ask a) (sv_U ok g M P (ask a)) with ⟨h1, -⟩ | ⟨m, h1, h2, h3, h4, h5⟩
      · exact absurd h1 w
      have nu : sv_nu ok g M P (ask a) (sv_U ok g M P (ask a)) = sv_su (sv_U ok g M P (ask a)) m := by
        unfold sv_nu
        rw [if_neg w, h5, nI_clamp (by omega)]
      rw [nu] at UU
      rw [UU] at sU
      obtain ⟨b1, -⟩ := sv_bits (sv_U ok g M P (ask a)) (by omega) m (by omega)
      obtain ⟨m1, m2⟩ := main (cw_u A4 50 (ask a) (sv_ch ok g M P (ask a) (sv_U ok g M P (ask a)))) (fun c hc => by rw [cw_u_c _ _ hc]; exact ha c hc) (by rw [cw_u_s]) (fun p hp => by rw [cw_u_k _ _ hp])
      rw [sU, ← b1, ← h5] at m1 m2
      exact ⟨fun _ => ⟨vs, p1, fun _ => ⟨va, vk⟩, m1⟩, m2⟩
/-- the whole pairing -/
theorem sq_solve (Q : sq_in I A M P K ask ok g h) (hn : 100 ≤ n) (h50 : ∀ p, p < P → A 50 p = -1) :
    pb_X3_solve_46 n I A J t (nI M) ∧ ∀ p, p < P → pA_X3_solve_46 n I A J t (nI M) 50 p = sv_ch ok g M P p (sv_U ok g M P p) := by
  have QQ := Q
  obtain ⟨Q1, Q2, Q3, Q4, Q5, Q6, Q7, Q8, Q9, Q10, Q11⟩ := Q
  obtain ⟨h1M, h64⟩ := sv_one M (by omega)
  have z0 : nI 0 = 0 := nI_0
  obtain ⟨a1, a2⟩ := sq_zero (n := n) (J := J) (t := t) QQ (2 ^ M) 0 n A (by omega) (by omega)
  rw [z0] at a1 a2
  have f6 : ∀ c, c ≠ 52 → qAw6_X3_solve_46 n I A J t (nI M) c = A c := fun c hc => fr_qAw6_X3_solve_46 (by simp [hc])
  have f39 : ∀ c, c ≠ 52 → qAw39_X3_solve_46 n I A J t (nI M) c = A c := fun c hc => fr_qAw39_X3_solve_46 (by simp [hc])
  have e38 : q38_X3_solve_46 n I A J t (nI M) = nI K - 1 := by unfold q38_X3_solve_46; rw [Q1]
  have nxK : sq_nx ask K P K = P := by unfold sq_nx; rw [if_neg (by omega)]
  obtain ⟨t1, t2⟩ := sq_table (n := n) (J := J) (t := t) QQ hn K n (qAw6_X3_solve_46 n I A J t (nI M)) (Nat.le_refl _) (by omega) (f6 51 (by decide)) (f6 47 (by decide)) (fun b h1 h2 w hw => by
    have : b = K := by omega
    subst this
    have := a2 (64 * b + w)
    rw [if_pos (by omega)] at this
    rw [nxK, Nat.sub_self]
    exact this)
  have Q39 : sq_in I (qAw39_X3_solve_46 n I A J t (nI M)) M P K ask ok g h := sq_c QQ (f39 51 (by decide)) (f39 47 (by decide))
  have U0 := sq_first QQ
  have below : ∀ p, p < sq_nx ask K P 0 → p < P ∧ ∀ j, j < K → ¬ ask j = p := fun p hp => by
    unfold sq_nx at hp
    by_cases w : 0 < K
    · rw [if_pos w] at hp
      have := (Q5 0 w).2
      refine ⟨by omega, fun j hj e => ?_⟩
      rcases Nat.lt_or_ge 0 j with z2 | z2
      · have := Q6 0 j z2 hj; omega
      · have : j = 0 := by omega
        subst this; omega
    · rw [if_neg w] at hp
      exact ⟨hp, fun j hj => absurd hj (by omega)⟩
  rw [← e38] at t1 t2
  obtain ⟨c1, c2⟩ := sq_choose (n := n) (J := J) (t := t) Q39 hn t2 K 0 n (qAw39_X3_solve_46 n I A J t (nI M)) (by omega) (by omega) (fun _ _ => rfl) (fun p hp => by
      obtain ⟨w1, w2⟩ := below p hp
      rw [f39 50 (by decide), h50 p w1, sq_noch QQ w1 w2]) (fun p _ hp => by rw [f39 50 (by decide)]; exact h50 p hp)
  rw [U0, z0] at c1 c2
  exact ⟨⟨a1, t1, c1⟩, c2⟩
end Choose
