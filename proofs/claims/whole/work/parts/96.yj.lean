/-! an expression on both sides: what is kept -/
def FC (c w0 σ0 : Nat) (As A : Nat → Nat → Int32) : Prop := (∀ r, r ≠ 36 → r ≠ c + 5 → r ≠ c + 6 → A r = As r) ∧ (∀ i, i < w0 → A 36 i = As 36 i) ∧ ∀ i, i < σ0 → A (c + 5) i = As (c + 5) i ∧ A (c + 6) i = As (c + 6) i
def FQ (v p0 : Nat) (As A : Nat → Nat → Int32) : Prop := (∀ r, r ≠ 86 → r ≠ 87 → r ≠ 88 → A r = As r) ∧ ∀ i, i < 500 * v + p0 ∨ 500 * v + 500 ≤ i → A 86 i = As 86 i ∧ A 87 i = As 87 i
section Fr
variable {c w0 σ0 v p0 : Nat} {As A A1 : Nat → Nat → Int32}
theorem FC_refl : FC c w0 σ0 A A := ⟨fun _ _ _ _ => rfl, fun _ _ => rfl, fun _ _ => ⟨rfl, rfl⟩⟩
theorem FQ_refl : FQ v p0 A A := ⟨fun _ _ _ _ => rfl, fun _ _ => ⟨rfl, rfl⟩⟩
theorem FC_36 (hc : c = 37 ∨ c = 60) (h : FC c w0 σ0 As A) {i : Nat} {x : Int32} (hi : w0 ≤ i) : FC c w0 σ0 As (cw_u A 36 i x) := by
  obtain ⟨a, b, d⟩ := h
  refine ⟨fun r h1 h2 h3 => ?_, fun j hj => ?_, fun j hj => ?_⟩
  · rw [cw_u_c _ _ h1, a r h1 h2 h3]
  · rw [cu_n (by omega), b j hj]
  · rw [cu_n (by omega), cu_n (by omega)]; exact d j hj
theorem FC_unit (hc : c = 37 ∨ c = 60) (h : FC c w0 σ0 As A) {i : Nat} {x y : Int32} (hi : σ0 ≤ i) : FC c w0 σ0 As (cw_u (cw_u A (c + 5) i x) (c + 6) i y) := by
  obtain ⟨a, b, d⟩ := h
  refine ⟨fun r h1 h2 h3 => ?_, fun j hj => ?_, fun j hj => ?_⟩
  · rw [cw_u_c _ _ h3, cw_u_c _ _ h2, a r h1 h2 h3]
  · rw [cu_n (by omega), cu_n (by omega), b j hj]
  · rw [cu_n (by omega), cu_n (by omega), cu_n (by omega), cu_n (by omega)]; exact d j hj
theorem FC_rf (hc : c = 37 ∨ c = 60) (h : FC c w0 σ0 As A) {w σ j : Nat} (g : rf c w σ j A A1) (hi : σ0 ≤ σ) : FC c w0 σ0 As A1 := by
  obtain ⟨a, b, d⟩ := h
  obtain ⟨g1, g2, g3⟩ := g
  refine ⟨fun r h1 h2 h3 => ?_, fun i hi => ?_, fun i hi => ?_⟩
  · rw [g1 r h2 h3, a r h1 h2 h3]
  · rw [g1 36 (by omega) (by omega), b i hi]
  · rw [g2 i, g3 i, if_neg (by omega), if_neg (by omega)]; exact d i hi
theorem FQ_emit (h : FQ v p0 As A) {i : Nat} {x y : Int32} (h1 : 500 * v + p0 ≤ i) (h2 : i < 500 * v + 500) : FQ v p0 As (cw_u (cw_u A 86 i x) 87 i y) := by
  obtain ⟨a, b⟩ := h
  refine ⟨fun r q1 q2 q3 => ?_, fun j hj => ?_⟩
  · rw [cw_u_c _ _ q2, cw_u_c _ _ q1, a r q1 q2 q3]
  · rw [cu_n (by omega), cu_n (by omega), cu_n (by omega), cu_n (by omega)]; exact b j hj
theorem FQ_88 (h : FQ v p0 As A) {i : Nat} {x : Int32} : FQ v p0 As (cw_u A 88 i x) := by
  obtain ⟨a, b⟩ := h
  refine ⟨fun r q1 q2 q3 => ?_, fun j hj => ?_⟩
  · rw [cw_u_c _ _ q3, a r q1 q2 q3]
  · rw [cu_n (by omega), cu_n (by omega)]; exact b j hj
theorem FQ_rg (h : FQ v p0 As A) {m p j : Nat} (g : rg m p j A A1) (h1 : 500 * v + p0 ≤ p) (h2 : p + j ≤ 500 * v + 500) : FQ v p0 As A1 := by
  obtain ⟨a, b⟩ := h
  obtain ⟨g1, g2, g3⟩ := g
  refine ⟨fun r q1 q2 q3 => ?_, fun i hi => ?_⟩
  · rw [g1 r q1 q2, a r q1 q2 q3]
  · rw [g2 i, g3 i, if_neg (by omega), if_neg (by omega)]; exact b i hi
theorem FQ_cof (h : FQ v p0 As A) {p m : Nat} (g1 : ∀ r, r ≠ 86 → r ≠ 87 → A1 r = A r) (g2 : ∀ i, i < p ∨ p + m ≤ i → A1 86 i = A 86 i ∧ A1 87 i = A 87 i) (h1 : 500 * v + p0 ≤ p) (h2 : p + m ≤ 500 * v + 500) : FQ v p0 As A1 := by
  obtain ⟨a, b⟩ := h
  refine ⟨fun r q1 q2 q3 => ?_, fun i hi => ?_⟩
  · rw [g1 r q1 q2, a r q1 q2 q3]
  · have := g2 i (by omega)
    rw [this.1, this.2]; exact b i hi
end Fr
/-- the signs that wait, the codes of an expression so far (from p0 to p), the pile that they want -/
def EX (c v w0 R p0 m d e D dep p : Nat) (A A2 : Nat → Nat → Int32) : Prop := sh (fun i => A 36 (w0 + i)) m d e D ∧ (∀ i, i < m → wm (A 36 (w0 + i)) (A2 88 i)) ∧ ty_run (fun q => A2 86 (500 * v + q)) (p - p0) p0 0 dep ∧ (∀ i, p0 ≤ i → i < p → ty_m (A (c + 5) (i + R)) (A (c + 6) (i + R)) (A2 86 (500 * v + i)) (A2 87 (500 * v + i))) ∧ p0 ≤ p
section Ex
variable {c v w0 R p0 m d e D p : Nat} {A A2 A1 A3 : Nat → Nat → Int32}
theorem EX_0 : EX c v w0 R p0 0 0 0 0 0 p0 A A2 := by
  refine ⟨⟨rfl, rfl, rfl⟩, fun i hi => absurd hi (by omega), ?_, fun i h1 h2 => by omega, Nat.le_refl _⟩
  rw [Nat.sub_self]
  exact rfl
theorem EX_unit (hc : c = 37 ∨ c = 60) (h : EX c v w0 R p0 m d e D D p A A2) {x y a b : Int32} (hm : ty_m x y a b) (ha : ¬ 2 ≤ a) (hD : D + 1 ≤ 15) : EX c v w0 R p0 m d e D (D + 1) (p + 1) (cw_u (cw_u A (c + 5) (p + R) x) (c + 6) (p + R) y) (cw_u (cw_u A2 86 (500 * v + p) a) 87 (500 * v + p) b) := by
  obtain ⟨h1, h2, h3, h4, h5⟩ := h
  have r36 : ∀ i, cw_u (cw_u A (c + 5) (p + R) x) (c + 6) (p + R) y 36 i = A 36 i := fun i => by rw [cu_n (by omega), cu_n (by omega)]
  refine ⟨sh_c m d e D (fun i _ => r36 _) h1, fun i hi => ?_, ?_, fun i q1 q2 => ?_, by omega⟩
  · rw [r36, cu_n (by simp), cu_n (by simp)]
    exact h2 i hi
  · have e1 : p + 1 - p0 = (p - p0) + 1 := by omega
    rw [e1]
    refine tyr_u _ _ _ _ (tyr_c _ _ _ _ (fun q q1 q2 => ?_) h3) ?_ hD
    · rw [cu_n (by simp), cu_n (by omega)]
    · have e2 : p0 + (p - p0) = p := by omega
      rw [e2, cu_n (by simp), cu_s]
      exact ha
  · by_cases q : i = p
    · subst q
      rw [cu_n (show ¬ (c + 5 = c + 6 ∧ _) by omega), cu_s, cu_s, cu_n (by simp), cu_s, cu_s]
      exact hm
    · rw [cu_n (by omega), cu_n (by omega), cu_n (by omega), cu_n (by omega), cu_n (by simp), cu_n (by omega), cu_n (by omega), cu_n (by simp)]
      exact h4 i q1 (by omega)
theorem EX_open (hc : c = 37 ∨ c = 60) (h : EX c v w0 R p0 m d e D D p A A2) : EX c v w0 R p0 (m + 1) (d + 1) 0 D D p (cw_u A 36 (w0 + m) 11) (cw_u A2 88 m 6) := by
  obtain ⟨h1, h2, h3, h4, h5⟩ := h
  refine ⟨Or.inl ⟨cu_s, rfl, d, e, rfl, sh_c m d e D (fun i hi => cu_n (by omega)) h1⟩, fun i hi => ?_, ?_, fun i q1 q2 => ?_, h5⟩
  · by_cases q : i = m
    · subst q
      rw [cu_s, cu_s]
      exact Or.inr (Or.inr (Or.inr ⟨rfl, rfl⟩))
    · rw [cu_n (by omega), cu_n (by omega)]
      exact h2 i (by omega)
  · exact tyr_c _ _ _ _ (fun q _ _ => cu_n (by simp)) h3
  · rw [cu_n (by omega), cu_n (by omega), cu_n (by simp), cu_n (by simp)]
    exact h4 i q1 q2
theorem wm_cdo {a b : Int32} (h : wm a b) (g : a = 4 ∨ a = 5 ∨ a = 6) : (a = 4 ∧ cdo b = 2) ∨ (a = 5 ∧ cdo b = 3) ∨ (a = 6 ∧ cdo b = 4) := by
  rcases h with ⟨p, q⟩ | ⟨p, q⟩ | ⟨p, q⟩ | ⟨p, q⟩
  · subst p; subst q; exact Or.inl ⟨rfl, rfl⟩
  · subst p; subst q; exact Or.inr (Or.inl ⟨rfl, rfl⟩)
  · subst p; subst q; exact Or.inr (Or.inr ⟨rfl, rfl⟩)
  · subst p; exact absurd g (by decide)
/-- a sign that waits with the class, and the reference's code of it -/
def pm (a b : Int32) : Prop := (a = 4 ∧ b = 2) ∨ (a = 5 ∧ b = 3) ∨ (a = 6 ∧ b = 4)
theorem pm_2 {a b : Int32} (h : pm a b) : 2 ≤ b := by
  rcases h with ⟨_, q⟩ | ⟨_, q⟩ | ⟨_, q⟩ <;> rw [q] <;> decide
theorem pm_m {a b y w : Int32} (h : pm a b) : ty_m a y b w := by
  rcases h with h | h | h
  · exact Or.inr (Or.inr (Or.inl h))
  · exact Or.inr (Or.inr (Or.inr (Or.inl h)))
  · exact Or.inr (Or.inr (Or.inr (Or.inr h)))
/-- the reference's part of what comes out: j codes behind p -/
theorem EX_ref (h : EX c v w0 R p0 m d e D (D + 1) p A A2) {j : Nat} (hj : j ≤ m) (hD : j ≤ D) (hr : ∀ i, i < j → A 36 (w0 + (m - 1 - i)) = 4 ∨ A 36 (w0 + (m - 1 - i)) = 5 ∨ A 36 (w0 + (m - 1 - i)) = 6) (g : rg m (500 * v + p) j A2 A3) :
    (∀ i, i < j → pm (A 36 (w0 + (m - 1 - i))) (A3 86 (500 * v + p + i))) ∧ ty_run (fun q => A3 86 (500 * v + q)) (p + j - p0) p0 0 (D + 1 - j) ∧ (∀ i, i < 500 * v + p → A3 86 i = A2 86 i ∧ A3 87 i = A2 87 i) ∧ ∀ i, A3 88 i = A2 88 i := by
  obtain ⟨h1, h2, h3, h4, h5⟩ := h
  obtain ⟨g1, g2, g3⟩ := g
  have k1 : ∀ i, i < j → pm (A 36 (w0 + (m - 1 - i))) (A3 86 (500 * v + p + i)) := fun i hi => by
    rw [g2, if_pos (by omega)]
    have e1 : m + (500 * v + p) - 1 - (500 * v + p + i) = m - 1 - i := by omega
    rw [e1]
    exact wm_cdo (h2 (m - 1 - i) (by omega)) (hr i hi)
  have k3 : ∀ i, i < 500 * v + p → A3 86 i = A2 86 i ∧ A3 87 i = A2 87 i := fun i hi => by
    rw [g2, g3, if_neg (by omega), if_neg (by omega)]
    exact ⟨rfl, rfl⟩
  refine ⟨k1, ?_, k3, fun i => by rw [g1 88 (by decide) (by decide)]⟩
  have r := tyr_c (co' := fun q => A3 86 (500 * v + q)) (p - p0) p0 0 (D + 1) (fun q q1 q2 => (k3 _ (by omega)).1) h3
  have r2 := tyr_p r j (fun i hi => by
    have e2 : p0 + (p - p0) + i = p + i := by omega
    show 2 ≤ A3 86 (500 * v + (p0 + (p - p0) + i))
    rw [e2, ← Nat.add_assoc]
    exact pm_2 (k1 i hi)) (by omega)
  have e3 : p - p0 + j = p + j - p0 := by omega
  rw [e3] at r2
  exact r2
theorem EX_out (hc : c = 37 ∨ c = 60) (h : EX c v w0 R p0 m d e D (D + 1) p A A2) {j e' : Nat} (hj : j ≤ m) (hD : j ≤ D) (hr : ∀ i, i < j → A 36 (w0 + (m - 1 - i)) = 4 ∨ A 36 (w0 + (m - 1 - i)) = 5 ∨ A 36 (w0 + (m - 1 - i)) = 6) (hs : sh (fun i => A 36 (w0 + i)) (m - j) d e' (D - j)) (g : rg m (500 * v + p) j A2 A3) (f : rf c (w0 + m) (p + R) j A A1) :
    EX c v w0 R p0 (m - j) d e' (D - j) (D - j + 1) (p + j) A1 A3 := by
  obtain ⟨k1, k2, k3, k4⟩ := EX_ref h hj hD hr g
  obtain ⟨h1, h2, h3, h4, h5⟩ := h
  obtain ⟨f1, f2, f3⟩ := f
  have r36 : ∀ i, A1 36 i = A 36 i := fun i => by rw [f1 36 (by omega) (by omega)]
  refine ⟨sh_c _ _ _ _ (fun i _ => r36 _) hs, fun i hi => ?_, ?_, fun i q1 q2 => ?_, by omega⟩
  · rw [r36, k4]
    exact h2 i (by omega)
  · have e1 : D - j + 1 = D + 1 - j := by omega
    rw [e1]
    exact k2
  · by_cases q : i < p
    · rw [f2, f3, if_neg (by omega), if_neg (by omega), (k3 (500 * v + i) (by omega)).1, (k3 (500 * v + i) (by omega)).2]
      exact h4 i q1 q
    · rw [f2, if_pos (by omega)]
      have e2 : w0 + m + (p + R) - 1 - (i + R) = w0 + (m - 1 - (i - p)) := by omega
      have e3 : 500 * v + i = 500 * v + p + (i - p) := by omega
      rw [e2, e3]
      exact pm_m (k1 (i - p) (by omega))
theorem EX_sign (hc : c = 37 ∨ c = 60) (h : EX c v w0 R p0 m d e D (D + 1) p A A2) {κ e' : Nat} (hκ : ((κ = 4 ∨ κ = 5) ∧ e = 0 ∧ e' = 1) ∨ (κ = 6 ∧ ((e = 0 ∧ e' = 2) ∨ (e = 1 ∧ e' = 3)))) : EX c v w0 R p0 (m + 1) d e' (D + 1) (D + 1) p (cw_u A 36 (w0 + m) (nI κ)) (cw_u A2 88 m (nI (κ + 4))) := by
  obtain ⟨h1, h2, h3, h4, h5⟩ := h
  have hs := sh_c (row' := fun i => cw_u A 36 (w0 + m) (nI κ) 36 (w0 + i)) m d e D (fun i hi => cu_n (by omega)) h1
  refine ⟨?_, fun i hi => ?_, ?_, fun i q1 q2 => ?_, h5⟩
  · rcases hκ with ⟨a, b, b'⟩ | ⟨a, ⟨b, b'⟩ | ⟨b, b'⟩⟩
    · subst b; subst b'
      refine Or.inr (Or.inl ⟨?_, rfl, D, rfl, hs⟩)
      rcases a with a | a <;> subst a
      · exact Or.inl cu_s
      · exact Or.inr cu_s
    · subst a; subst b; subst b'
      exact Or.inr (Or.inr ⟨cu_s, D, rfl, Or.inl ⟨rfl, hs⟩⟩)
    · subst a; subst b; subst b'
      exact Or.inr (Or.inr ⟨cu_s, D, rfl, Or.inr ⟨rfl, hs⟩⟩)
  · by_cases q : i = m
    · subst q
      rw [cu_s, cu_s]
      rcases hκ with ⟨a | a, _⟩ | ⟨a, _⟩ <;> subst a
      · exact Or.inl ⟨rfl, rfl⟩
      · exact Or.inr (Or.inl ⟨rfl, rfl⟩)
      · exact Or.inr (Or.inr (Or.inl ⟨rfl, rfl⟩))
    · rw [cu_n (by omega), cu_n (by omega)]
      exact h2 i (by omega)
  · exact tyr_c _ _ _ _ (fun q _ _ => cu_n (by simp)) h3
  · rw [cu_n (by omega), cu_n (by omega), cu_n (by simp), cu_n (by simp)]
    exact h4 i q1 q2
theorem EX_pop {dep : Nat} (h : EX c v w0 R p0 m (d + 1) 0 D dep p A A2) : ∃ m' e', m = m' + 1 ∧ EX c v w0 R p0 m' d e' D dep p A A2 := by
  obtain ⟨h1, h2, h3, h4, h5⟩ := h
  obtain ⟨m', e', q1, q2, q3⟩ := sh_pop h1
  exact ⟨m', e', q1, q3, fun i hi => h2 i (by omega), h3, h4, h5⟩
theorem EX_b {dep : Nat} (h : EX c v w0 R p0 m d e D dep p A A2) (hd : d ≤ 6) : m = d + D ∧ D ≤ 14 ∧ m ≤ 20 ∧ e ≤ 3 := by
  have := sh_b _ _ _ _ h.1
  omega
end Ex
/-! ranks -/
theorem rk_v : rkk 4 = 2 ∧ rkk 5 = 2 ∧ rkk 6 = 3 ∧ rkk 11 = 0 ∧ rkk 7 = 1 ∧ rkk 8 = 1 ∧ rkk 9 = 1 ∧ rkk 10 = 1 := by decide +kernel
theorem lea_v : lea 4 = 2 ∧ lea 5 = 2 ∧ lea 6 = 3 ∧ lea 12 = 1 ∧ lea 19 = 1 ∧ lea 3 = 1 ∧ lea 7 = 1 ∧ lea 8 = 1 ∧ lea 9 = 1 ∧ lea 10 = 1 := by decide +kernel
theorem rk_rel : ∀ o, o < 4 → rkk (nI (7 + o)) = 1 := by decide +kernel
/-- below an expression's signs lies nothing, or a relation's sign -/
def wb (w0 : Nat) (A : Nat → Nat → Int32) : Prop := w0 = 0 ∨ (w0 = 1 ∧ ∃ o, o < 4 ∧ A 36 0 = nI (7 + o))
theorem RJ_all {A : Nat → Nat → Int32} {w0 m j : Nat} {x : Int32} (hj : j ≤ m) (hr : ∀ i, i < j → A 36 (w0 + (m - 1 - i)) = 4 ∨ A 36 (w0 + (m - 1 - i)) = 5 ∨ A 36 (w0 + (m - 1 - i)) = 6) (hs : j = m ∨ A 36 (w0 + (m - 1 - j)) = 11) (hx : lea x = 1 ∨ lea x = 2) (hb : w0 = 0 ∨ (lea x = 1 → ¬ j = m) ∧ wb w0 A) : RJ A x (w0 + m) j := by
  have k := rk_v
  refine ⟨by omega, fun i hi => ?_, ?_⟩
  · have e : w0 + m - 1 - i = w0 + (m - 1 - i) := by omega
    rw [e]
    rcases hr i hi with q | q | q <;> rw [q]
    · rw [k.1]; rcases hx with y | y <;> rw [y] <;> decide
    · rw [k.2.1]; rcases hx with y | y <;> rw [y] <;> decide
    · rw [k.2.2.1]; rcases hx with y | y <;> rw [y] <;> decide
  · by_cases q : j = m
    · rcases hb with b | ⟨b1, b | ⟨b2, o, b3, b4⟩⟩
      · left; omega
      · left; omega
      · right
        have e : w0 + m - 1 - j = 0 := by omega
        rw [e, b4, rk_rel o b3]
        rcases hx with y | y
        · exact absurd q (b1 y)
        · rw [y]; decide
    · right
      rcases hs with y | y
      · exact absurd y q
      · have e : w0 + m - 1 - j = w0 + (m - 1 - j) := by omega
        rw [e, y, k.2.2.2.1]
        rcases hx with y | y <;> rw [y] <;> decide
theorem RJ_times {A : Nat → Nat → Int32} {w0 m j : Nat} (hj : j ≤ m) (hr : ∀ i, i < j → A 36 (w0 + (m - 1 - i)) = 6) (hs : j = m ∨ A 36 (w0 + (m - 1 - j)) = 11 ∨ A 36 (w0 + (m - 1 - j)) = 4 ∨ A 36 (w0 + (m - 1 - j)) = 5) (hb : wb w0 A) : RJ A 6 (w0 + m) j := by
  have k := rk_v
  have l := lea_v.2.2.1
  refine ⟨by omega, fun i hi => ?_, ?_⟩
  · have e : w0 + m - 1 - i = w0 + (m - 1 - i) := by omega
    rw [e, hr i hi, k.2.2.1, l]
    decide
  · by_cases q : j = m
    · rcases hb with b | ⟨b2, o, b3, b4⟩
      · left; omega
      · right
        have e : w0 + m - 1 - j = 0 := by omega
        rw [e, b4, rk_rel o b3, l]
        decide
    · right
      have e : w0 + m - 1 - j = w0 + (m - 1 - j) := by omega
      rw [e, l]
      rcases hs with y | y | y | y
      · exact absurd y q
      · rw [y, k.2.2.2.1]; decide
      · rw [y, k.1]; decide
      · rw [y, k.2.1]; decide
