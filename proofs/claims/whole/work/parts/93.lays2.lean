/-! the reference's table -/
section Lays2
variable {n M P : Nat} {I B : Nat → Nat → Int32} {J : Nat → Nat → Int64} {t : Bool × Bool} {ok : Nat → Nat → Bool} {g : Nat → Nat → Nat} {h : Nat → Nat} {x1 : Int32}
theorem lz_rowm {A51 A57 A0 : Nat → Nat → Int32} {p u : Nat} (Q : lz_in I A0 M P ok g h) (hp : p < P) (hu : u < 64)
    (r1 : ∀ w, w < 64 → A0 118 (64 * (p + 1) + w) = nI (sv ok g M P (P - (p + 1)) w / 4096) ∧ A0 119 (64 * (p + 1) + w) = nI (sv ok g M P (P - (p + 1)) w % 4096)) :
    ∀ (j k f : Nat) (A114 : Nat → Nat → Int32), k + j = M → j < f → (∀ c, c ≠ 118 → c ≠ 119 → A114 c = A0 c) → (∀ x, ¬ x = 64 * p + u → A114 118 x = A0 118 x ∧ A114 119 x = A0 119 x) →
    A114 118 (64 * p + u) = nI (sv_mx (ok p) (g p) (sv ok g M P (P - (p + 1))) u k (sv ok g M P (P - (p + 1)) u) / 4096) → A114 119 (64 * p + u) = nI (sv_mx (ok p) (g p) (sv ok g M P (P - (p + 1))) u k (sv ok g M P (P - (p + 1)) u) % 4096) →
    lb_X12_lays_68_114 n I B J t x1 A51 (nI p) A57 (nI u) f A114 (nI k) ∧ (∀ x, ¬ x = 64 * p + u → (lp_X12_lays_68_114 n I B J t x1 A51 (nI p) A57 (nI u) f A114 (nI k)).1 118 x = A0 118 x ∧ (lp_X12_lays_68_114 n I B J t x1 A51 (nI p) A57 (nI u) f A114 (nI k)).1 119 x = A0 119 x) ∧ (lp_X12_lays_68_114 n I B J t x1 A51 (nI p) A57 (nI u) f A114 (nI k)).1 118 (64 * p + u) = nI (sv ok g M P (P - p) u / 4096) ∧ (lp_X12_lays_68_114 n I B J t x1 A51 (nI p) A57 (nI u) f A114 (nI k)).1 119 (64 * p + u) = nI (sv ok g M P (P - p) u % 4096) := by
  have QQ := Q
  obtain ⟨Q1, Q2, Q3, Q4, Q5, Q6, Q7, Q8⟩ := Q
  have hsv : sv ok g M P (P - p) u = sv_mx (ok p) (g p) (sv ok g M P (P - (p + 1))) u M (sv ok g M P (P - (p + 1)) u) := by
    have e : P - p = (P - (p + 1)) + 1 := by omega
    have e2 : P - (P - (p + 1) + 1) = p := by omega
    rw [e]
    conv => lhs; rw [sv]
    rw [e2]
  have bnd : ∀ k, sv_mx (ok p) (g p) (sv ok g M P (P - (p + 1))) u k (sv ok g M P (P - (p + 1)) u) < 1000000000 := fun k => by
    rcases sv_mx_or (ok := ok p) (g := g p) (V1 := sv ok g M P (P - (p + 1))) (u := u) (c := sv ok g M P (P - (p + 1)) u) k with z | ⟨m, z1, z2, z3, z4⟩
    · rw [z]
      obtain ⟨L, S, e1, e2, e3⟩ := lz_small QQ (P - (p + 1)) u (by omega)
      rw [e1]; omega
    · rw [z4]
      obtain ⟨L, S, e1, e2, e3⟩ := lz_small QQ (P - (p + 1)) (sv_su u m) (by omega)
      obtain ⟨s, s1, s2⟩ := Q7 p m z2
      have := Q8 p
      rw [e1, s2]; omega
  intro j
  induction j with
  | zero =>
    intro k f A114 hk hf ha hx c1 c2
    obtain ⟨f, rfl⟩ : ∃ x, f = x + 1 := ⟨f - 1, by omega⟩
    have : k = M := by omega
    subst this
    have c : nI k ≤ nI k := nI_le (Nat.le_refl _) (by omega)
    unfold lb_X12_lays_68_114 lp_X12_lays_68_114
    rw [Q2, if_pos c, hsv]
    exact ⟨fun z => absurd c z, hx, c1, c2⟩
  | succ j ih =>
    intro k f A114 hk hf ha hx c1 c2
    obtain ⟨f, rfl⟩ : ∃ x, f = x + 1 := ⟨f - 1, by omega⟩
    have c : ¬ nI M ≤ nI k := nI_ge (by omega) (by omega)
    have QA : lz_in I A114 M P ok g h := lz_c QQ (ha 114 (by decide) (by decide)) (ha 115 (by decide) (by decide)) (ha 94 (by decide) (by decide)) (ha 91 (by decide) (by decide))
    have rA : ∀ w, w < 64 → A114 118 (64 * (p + 1) + w) = nI (sv ok g M P (P - (p + 1)) w / 4096) ∧ A114 119 (64 * (p + 1) + w) = nI (sv ok g M P (P - (p + 1)) w % 4096) := fun w hw => by
      obtain ⟨y1, y2⟩ := hx (64 * (p + 1) + w) (by omega)
      rw [y1, y2]; exact r1 w hw
    have e := lz_m (n := n) (B := B) (J := J) (t := t) (x1 := x1) (A51 := A51) (A57 := A57) QA hp hu (m := k) (by omega) (bnd k) rA c1 c2
    have e267 : q267_X12_lays_68 n I B J t x1 A51 (nI p) A57 (nI u) A114 (nI k) = nI (k + 1) := nI_1 k
    have next : lb_X12_lays_68_114 n I B J t x1 A51 (nI p) A57 (nI u) f (qAm130_X12_lays_68 n I B J t x1 A51 (nI p) A57 (nI u) A114 (nI k)) (nI (k + 1)) ∧ (∀ x, ¬ x = 64 * p + u → (lp_X12_lays_68_114 n I B J t x1 A51 (nI p) A57 (nI u) f (qAm130_X12_lays_68 n I B J t x1 A51 (nI p) A57 (nI u) A114 (nI k)) (nI (k + 1))).1 118 x = A0 118 x ∧ (lp_X12_lays_68_114 n I B J t x1 A51 (nI p) A57 (nI u) f (qAm130_X12_lays_68 n I B J t x1 A51 (nI p) A57 (nI u) A114 (nI k)) (nI (k + 1))).1 119 x = A0 119 x) ∧ (lp_X12_lays_68_114 n I B J t x1 A51 (nI p) A57 (nI u) f (qAm130_X12_lays_68 n I B J t x1 A51 (nI p) A57 (nI u) A114 (nI k)) (nI (k + 1))).1 118 (64 * p + u) = nI (sv ok g M P (P - p) u / 4096) ∧ (lp_X12_lays_68_114 n I B J t x1 A51 (nI p) A57 (nI u) f (qAm130_X12_lays_68 n I B J t x1 A51 (nI p) A57 (nI u) A114 (nI k)) (nI (k + 1))).1 119 (64 * p + u) = nI (sv ok g M P (P - p) u % 4096) := by
      refine ih (k + 1) f _ (by omega) (by omega) (fun c h1 h2 => ?_) (fun x hx2 => ?_) ?_ ?_
      · rw [e]
        split
        · rw [cw_u_c _ _ h2, cw_u_c _ _ h1]; exact ha c h1 h2
        · exact ha c h1 h2
      · rw [e]
        split
        · rw [cw_u_c _ _ (by decide), cw_u_k _ _ hx2, cw_u_k _ _ hx2, cw_u_c _ _ (by decide)]
          exact hx x hx2
        · exact hx x hx2
      · rw [e]
        conv => rhs; rw [sv_mx]
        by_cases o : ok p k = true ∧ sv_bt u k = false
        · rw [if_pos o]
          by_cases w : sv_mx (ok p) (g p) (sv ok g M P (P - (p + 1))) u k (sv ok g M P (P - (p + 1)) u) < g p k + sv ok g M P (P - (p + 1)) (sv_su u k)
          · rw [if_pos ⟨o, w⟩, cw_u_c _ _ (by decide), cw_u_s]
            exact congrArg (fun z => nI (z / 4096)) (Nat.max_eq_right (Nat.le_of_lt w)).symm
          · rw [if_neg (fun z => w z.2), c1]
            exact congrArg (fun z => nI (z / 4096)) (Nat.max_eq_left (Nat.le_of_not_lt w)).symm
        · rw [if_neg o, if_neg (fun z => o z.1), c1]
      · rw [e]
        conv => rhs; rw [sv_mx]
        by_cases o : ok p k = true ∧ sv_bt u k = false
        · rw [if_pos o]
          by_cases w : sv_mx (ok p) (g p) (sv ok g M P (P - (p + 1))) u k (sv ok g M P (P - (p + 1)) u) < g p k + sv ok g M P (P - (p + 1)) (sv_su u k)
          · rw [if_pos ⟨o, w⟩, cw_u_s]
            exact congrArg (fun z => nI (z % 4096)) (Nat.max_eq_right (Nat.le_of_lt w)).symm
          · rw [if_neg (fun z => w z.2), c2]
            exact congrArg (fun z => nI (z % 4096)) (Nat.max_eq_left (Nat.le_of_not_lt w)).symm
        · rw [if_neg o, if_neg (fun z => o z.1), c2]
    refine ⟨lz_mb QA hp hu (by omega) f next.1, ?_⟩
    unfold lp_X12_lays_68_114
    rw [Q2, if_neg c, e267]
    exact next.2
theorem lz_rowu {A51 : Nat → Nat → Int32} {p : Nat} (hn : 100 ≤ n) (Q : lz_in I A51 M P ok g h) (hp : p < P) :
    ∀ (j u f : Nat) (A57 : Nat → Nat → Int32), u + j = 64 → j < f → (∀ c, c ≠ 118 → c ≠ 119 → A57 c = A51 c) →
    (∀ w, w < 64 → A57 118 (64 * (p + 1) + w) = nI (sv ok g M P (P - (p + 1)) w / 4096) ∧ A57 119 (64 * (p + 1) + w) = nI (sv ok g M P (P - (p + 1)) w % 4096)) →
    lb_X12_lays_68_57 n I B J t x1 A51 (nI p) f A57 (nI u) ∧ (∀ x, (x < 64 * p + u ∨ 64 * p + 64 ≤ x) → (lp_X12_lays_68_57 n I B J t x1 A51 (nI p) f A57 (nI u)).1 118 x = A57 118 x ∧ (lp_X12_lays_68_57 n I B J t x1 A51 (nI p) f A57 (nI u)).1 119 x = A57 119 x) ∧ ∀ w, u ≤ w → w < 64 → (lp_X12_lays_68_57 n I B J t x1 A51 (nI p) f A57 (nI u)).1 118 (64 * p + w) = nI (sv ok g M P (P - p) w / 4096) ∧ (lp_X12_lays_68_57 n I B J t x1 A51 (nI p) f A57 (nI u)).1 119 (64 * p + w) = nI (sv ok g M P (P - p) w % 4096) := by
  have QQ := Q
  obtain ⟨Q1, Q2, Q3, Q4, Q5, Q6, Q7, Q8⟩ := Q
  intro j
  induction j with
  | zero =>
    intro u f A57 hk hf ha r1
    obtain ⟨f, rfl⟩ : ∃ x, f = x + 1 := ⟨f - 1, by omega⟩
    have c : 64 ≤ nI u := nI_le (a := 64) (by omega) (by omega)
    unfold lb_X12_lays_68_57 lp_X12_lays_68_57
    rw [if_pos c]
    exact ⟨fun z => absurd c z, fun x _ => ⟨rfl, rfl⟩, fun w h1 h2 => absurd h2 (by omega)⟩
  | succ j ih =>
    intro u f A57 hk hf ha r1
    obtain ⟨f, rfl⟩ : ∃ x, f = x + 1 := ⟨f - 1, by omega⟩
    have c : ¬ 64 ≤ nI u := nI_ge (b := 64) (by omega) (by omega)
    have e69 : q69_X12_lays_68 n I B J t x1 A51 (nI p) A57 (nI u) = nI (64 * p + u) := lz_ix p u
    have c69 : (nI (64 * p + u)).toNatClampNeg = 64 * p + u := nI_clamp (by omega)
    have ix1 : (64 : Int32) * (nI p + 1) + nI u = nI (64 * (p + 1) + u) := by rw [nI_1, lz_ix]
    have cx1 : (nI (64 * (p + 1) + u)).toNatClampNeg = 64 * (p + 1) + u := nI_clamp (by omega)
    obtain ⟨y1, y2⟩ := r1 u (by omega)
    have e110 : qA110_X12_lays_68 n I B J t x1 A51 (nI p) A57 (nI u) = cw_u (cw_u A57 118 (64 * p + u) (nI (sv ok g M P (P - (p + 1)) u / 4096))) 119 (64 * p + u) (nI (sv ok g M P (P - (p + 1)) u % 4096)) := by
      unfold qA110_X12_lays_68 qA90_X12_lays_68
      rw [e69, c69, ix1, cx1, y1, cw_u_c A57 _ (by decide), y2]
    have e273 : q273_X12_lays_68 n I B J t x1 A51 (nI p) A57 (nI u) = nI (u + 1) := nI_1 u
    have z0 : nI 0 = 0 := nI_0
    obtain ⟨m1, m2, m3, m4⟩ := lz_rowm (n := n) (B := B) (J := J) (t := t) (x1 := x1) (A51 := A51) (A57 := A57) (A0 := qA110_X12_lays_68 n I B J t x1 A51 (nI p) A57 (nI u)) (p := p) (u := u)
      (lz_c QQ (by rw [e110, cw_u_c _ _ (by decide), cw_u_c _ _ (by decide)]; exact ha 114 (by decide) (by decide)) (by rw [e110, cw_u_c _ _ (by decide), cw_u_c _ _ (by decide)]; exact ha 115 (by decide) (by decide)) (by rw [e110, cw_u_c _ _ (by decide), cw_u_c _ _ (by decide)]; exact ha 94 (by decide) (by decide)) (by rw [e110, cw_u_c _ _ (by decide), cw_u_c _ _ (by decide)]; exact ha 91 (by decide) (by decide))) hp (by omega)
      (fun w hw => by
        rw [e110, cw_u_c _ _ (by decide), cw_u_k _ _ (by omega), cw_u_k _ _ (by omega), cw_u_c _ _ (by decide)]
        exact r1 w hw)
      M 0 n _ (by omega) (by omega) (fun _ _ _ => rfl) (fun _ _ => ⟨rfl, rfl⟩) (by rw [e110, cw_u_c _ _ (by decide), cw_u_s]; rfl) (by rw [e110, cw_u_s]; rfl)
    rw [z0] at m1 m2 m3 m4
    have f114 : ∀ c, c ≠ 118 → c ≠ 119 → qAw114_X12_lays_68 n I B J t x1 A51 (nI p) A57 (nI u) c = A57 c := fun c h1 h2 => fr_qAw114_X12_lays_68 (by simp [h1, h2])
    have o110 : ∀ x, ¬ x = 64 * p + u → qA110_X12_lays_68 n I B J t x1 A51 (nI p) A57 (nI u) 118 x = A57 118 x ∧ qA110_X12_lays_68 n I B J t x1 A51 (nI p) A57 (nI u) 119 x = A57 119 x := fun x hx => by
      rw [e110, cw_u_c _ _ (by decide), cw_u_k _ _ hx, cw_u_k _ _ hx, cw_u_c _ _ (by decide)]
      exact ⟨rfl, rfl⟩
    have o114 : ∀ x, ¬ x = 64 * p + u → qAw114_X12_lays_68 n I B J t x1 A51 (nI p) A57 (nI u) 118 x = A57 118 x ∧ qAw114_X12_lays_68 n I B J t x1 A51 (nI p) A57 (nI u) 119 x = A57 119 x := fun x hx => by
      obtain ⟨y3, y4⟩ := m2 x hx
      obtain ⟨y5, y6⟩ := o110 x hx
      exact ⟨y3.trans y5, y4.trans y6⟩
    obtain ⟨i1, i2, i3⟩ := ih (u + 1) f (qAw114_X12_lays_68 n I B J t x1 A51 (nI p) A57 (nI u)) (by omega) (by omega) (fun c h1 h2 => by rw [f114 c h1 h2]; exact ha c h1 h2) (fun w hw => by
      obtain ⟨y3, y4⟩ := o114 (64 * (p + 1) + w) (by omega)
      rw [y3, y4]; exact r1 w hw)
    have v1 : vp_in (nI (64 * (p + 1) + u)) 704 := vp_in_nI (by omega) (by decide)
    have v2 : vp_in (nI (64 * p + u)) 704 := vp_in_nI (by omega) (by decide)
    unfold lb_X12_lays_68_57 lp_X12_lays_68_57
    rw [if_neg c, e273, ix1, e69]
    refine ⟨fun _ => ⟨v1, v2, v1, v2, m1, i1⟩, fun x hx => ?_, fun w h1 h2 => ?_⟩
    · obtain ⟨y3, y4⟩ := i2 x (by omega)
      obtain ⟨y5, y6⟩ := o114 x (by omega)
      exact ⟨y3.trans y5, y4.trans y6⟩
    · by_cases q : w = u
      · subst q
        obtain ⟨y3, y4⟩ := i2 (64 * p + w) (by omega)
        exact ⟨y3.trans m3, y4.trans m4⟩
      · exact i3 w (by omega) h2
theorem lz_table (hn : 100 ≤ n) (Q : lz_in I B M P ok g h) : ∀ (p f : Nat) (A51 : Nat → Nat → Int32), p ≤ P → p < f → (∀ c, c ≠ 118 → c ≠ 119 → A51 c = B c) →
    (∀ r, p ≤ r → r ≤ P → ∀ w, w < 64 → A51 118 (64 * r + w) = nI (sv ok g M P (P - r) w / 4096) ∧ A51 119 (64 * r + w) = nI (sv ok g M P (P - r) w % 4096)) →
    lb_X12_lays_68_51 n I B J t x1 f A51 (nI p - 1) ∧ ∀ r, r ≤ P → ∀ w, w < 64 → (lp_X12_lays_68_51 n I B J t x1 f A51 (nI p - 1)).1 118 (64 * r + w) = nI (sv ok g M P (P - r) w / 4096) ∧ (lp_X12_lays_68_51 n I B J t x1 f A51 (nI p - 1)).1 119 (64 * r + w) = nI (sv ok g M P (P - r) w % 4096) := by
  have QQ := Q
  obtain ⟨Q1, Q2, Q3, Q4, Q5, Q6, Q7, Q8⟩ := Q
  intro p
  induction p with
  | zero =>
    intro f A51 hk hf ha r1
    obtain ⟨f, rfl⟩ : ∃ x, f = x + 1 := ⟨f - 1, by omega⟩
    have c : nI 0 - 1 < 0 := by decide
    unfold lb_X12_lays_68_51 lp_X12_lays_68_51
    rw [if_pos c]
    exact ⟨fun z => absurd c z, fun r hr w hw => r1 r (by omega) hr w hw⟩
  | succ p ih =>
    intro f A51 hk hf ha r1
    obtain ⟨f, rfl⟩ : ∃ x, f = x + 1 := ⟨f - 1, by omega⟩
    rw [nI_pred]
    have c : ¬ nI p < 0 := nI_pos (by omega)
    have z0 : nI 0 = 0 := nI_0
    have e279 : q279_X12_lays_68 n I B J t x1 A51 (nI p) = nI p - 1 := by
      unfold q279_X12_lays_68
      rw [Int32.sub_eq_add_neg]
    obtain ⟨m1, m2, m3⟩ := lz_rowu (n := n) (B := B) (J := J) (t := t) (x1 := x1) hn (lz_c QQ (ha 114 (by decide) (by decide)) (ha 115 (by decide) (by decide)) (ha 94 (by decide) (by decide)) (ha 91 (by decide) (by decide))) (p := p) (by omega) 64 0 n A51 (by omega) (by omega) (fun _ _ _ => rfl) (fun w hw => r1 (p + 1) (by omega) (by omega) w hw)
    rw [z0] at m1 m2 m3
    have f57 : ∀ c, c ≠ 118 → c ≠ 119 → qAw57_X12_lays_68 n I B J t x1 A51 (nI p) c = A51 c := fun c h1 h2 => fr_qAw57_X12_lays_68 (by simp [h1, h2])
    obtain ⟨i1, i2⟩ := ih f (qAw57_X12_lays_68 n I B J t x1 A51 (nI p)) (by omega) (by omega) (fun c h1 h2 => by rw [f57 c h1 h2]; exact ha c h1 h2) (fun r h1 h2 w hw => by
      by_cases q : r = p
      · subst q
        exact m3 w (by omega) hw
      · obtain ⟨y1, y2⟩ := m2 (64 * r + w) (by omega)
        obtain ⟨y3, y4⟩ := r1 r (by omega) h2 w hw
        exact ⟨y1.trans y3, y2.trans y4⟩)
    unfold lb_X12_lays_68_51 lp_X12_lays_68_51
    rw [if_neg c, e279]
    exact ⟨fun _ => ⟨m1, i1⟩, i2⟩
theorem lz_zero (Q : lz_in I B M P ok g h) : ∀ (j u f : Nat) (A2 : Nat → Nat → Int32), u + j = 64 → j < f →
    lb_X12_lays_68_2 n I B J t x1 f A2 (nI u) ∧ ∀ w, u ≤ w → w < 64 → (lp_X12_lays_68_2 n I B J t x1 f A2 (nI u)).1 118 (64 * P + w) = 0 ∧ (lp_X12_lays_68_2 n I B J t x1 f A2 (nI u)).1 119 (64 * P + w) = 0 := by
  have QQ := Q
  obtain ⟨Q1, Q2, Q3, Q4, Q5, Q6, Q7, Q8⟩ := Q
  have keep : ∀ (j u f : Nat) (A2 : Nat → Nat → Int32) (x : Nat), u + j = 64 → j < f → x < 64 * P + u → (lp_X12_lays_68_2 n I B J t x1 f A2 (nI u)).1 118 x = A2 118 x ∧ (lp_X12_lays_68_2 n I B J t x1 f A2 (nI u)).1 119 x = A2 119 x := by
    intro j
    induction j with
    | zero =>
      intro u f A2 x hk hf hx
      obtain ⟨f, rfl⟩ : ∃ x, f = x + 1 := ⟨f - 1, by omega⟩
      have c : 64 ≤ nI u := nI_le (a := 64) (by omega) (by omega)
      unfold lp_X12_lays_68_2
      rw [if_pos c]
      exact ⟨rfl, rfl⟩
    | succ j ih =>
      intro u f A2 x hk hf hx
      obtain ⟨f, rfl⟩ : ∃ x, f = x + 1 := ⟨f - 1, by omega⟩
      have c : ¬ 64 ≤ nI u := nI_ge (b := 64) (by omega) (by omega)
      have e37 : qA37_X12_lays_68 n I B J t x1 A2 (nI u) = cw_u (cw_u A2 118 (64 * P + u) 0) 119 (64 * P + u) 0 := by
        unfold qA37_X12_lays_68 qA22_X12_lays_68
        rw [Q1, lz_ix, nI_clamp (by omega)]
      have e38 : q38_X12_lays_68 n I B J t x1 A2 (nI u) = nI (u + 1) := nI_1 u
      unfold lp_X12_lays_68_2
      rw [if_neg c, e37, e38]
      obtain ⟨y1, y2⟩ := ih (u + 1) f _ x (by omega) (by omega) (by omega)
      rw [y1, y2, cw_u_c _ _ (by decide), cw_u_k _ _ (by omega), cw_u_k _ _ (by omega), cw_u_c _ _ (by decide)]
      exact ⟨rfl, rfl⟩
  intro j
  induction j with
  | zero =>
    intro u f A2 hk hf
    obtain ⟨f, rfl⟩ : ∃ x, f = x + 1 := ⟨f - 1, by omega⟩
    have c : 64 ≤ nI u := nI_le (a := 64) (by omega) (by omega)
    unfold lb_X12_lays_68_2
    exact ⟨fun z => absurd c z, fun w h1 h2 => absurd h2 (by omega)⟩
  | succ j ih =>
    intro u f A2 hk hf
    obtain ⟨f, rfl⟩ : ∃ x, f = x + 1 := ⟨f - 1, by omega⟩
    have c : ¬ 64 ≤ nI u := nI_ge (b := 64) (by omega) (by omega)
    have e37 : qA37_X12_lays_68 n I B J t x1 A2 (nI u) = cw_u (cw_u A2 118 (64 * P + u) 0) 119 (64 * P + u) 0 := by
      unfold qA37_X12_lays_68 qA22_X12_lays_68
      rw [Q1, lz_ix, nI_clamp (by omega)]
    have e38 : q38_X12_lays_68 n I B J t x1 A2 (nI u) = nI (u + 1) := nI_1 u
    obtain ⟨i1, i2⟩ := ih (u + 1) f (cw_u (cw_u A2 118 (64 * P + u) 0) 119 (64 * P + u) 0) (by omega) (by omega)
    have v : vp_in (nI (64 * P + u)) 704 := vp_in_nI (by omega) (by decide)
    unfold lb_X12_lays_68_2 lp_X12_lays_68_2
    rw [if_neg c, e37, e38, Q1, lz_ix]
    refine ⟨fun _ => ⟨v, v, i1⟩, fun w h1 h2 => ?_⟩
    by_cases q : w = u
    · subst q
      obtain ⟨y1, y2⟩ := keep j (w + 1) f (cw_u (cw_u A2 118 (64 * P + w) 0) 119 (64 * P + w) 0) (64 * P + w) (by omega) (by omega) (by omega)
      rw [y1, y2, cw_u_c _ _ (by decide), cw_u_s, cw_u_s]
      exact ⟨rfl, rfl⟩
    · exact i2 w (by omega) h2
end Lays2
