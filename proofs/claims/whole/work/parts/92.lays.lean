/-! the reference's pairing -/
def lz_in (I B : Nat → Nat → Int32) (M P : Nat) (ok : Nat → Nat → Bool) (g : Nat → Nat → Nat) (h : Nat → Nat) : Prop :=
  I 68 43 = nI P ∧ I 68 40 = nI M ∧ P ≤ 10 ∧ M ≤ 6 ∧ (∀ p, p < P → ∀ m, m < M → (ok p m = false ∧ B 114 (6 * p + m) = -1) ∨ (ok p m = true ∧ ¬ B 114 (6 * p + m) = -1 ∧ ∃ s, s ≤ 306 ∧ g p m = 4096 * h p + s ∧ B 115 (6 * p + m) = nI s)) ∧ (∀ p, p < P → ∃ l, l < 8 ∧ B 94 p = nI l ∧ B 91 l = nI (h p)) ∧ (∀ p m, ok p m = true → ∃ s, s ≤ 306 ∧ g p m = 4096 * h p + s) ∧ ∀ p, h p ≤ 10000
theorem lz_c {I B B' : Nat → Nat → Int32} {M P : Nat} {ok : Nat → Nat → Bool} {g : Nat → Nat → Nat} {h : Nat → Nat} (Q : lz_in I B M P ok g h) (e1 : B' 114 = B 114) (e2 : B' 115 = B 115) (e3 : B' 94 = B 94) (e4 : B' 91 = B 91) : lz_in I B' M P ok g h := by
  unfold lz_in at Q ⊢
  rw [e1, e2, e3, e4]; exact Q
section Lays
variable {n M P : Nat} {I B : Nat → Nat → Int32} {J : Nat → Nat → Int64} {t : Bool × Bool} {ok : Nat → Nat → Bool} {g : Nat → Nat → Nat} {h : Nat → Nat} {x1 : Int32}
theorem lz_small (Q : lz_in I B M P ok g h) : ∀ d u, d ≤ 10 → ∃ L S, sv ok g M P d u = 4096 * L + S ∧ L ≤ 100000 ∧ S ≤ 306 * d := fun d u hd => by
  obtain ⟨Q1, Q2, Q3, Q4, Q5, Q6, Q7, Q8⟩ := Q
  obtain ⟨L, S, e, e1, e2⟩ := sv_bd (P := P) Q4 Q7 Q8 d u
  exact ⟨L, S, e, by omega, e2⟩
theorem lz_ix (a b : Nat) : (64 : Int32) * nI a + nI b = nI (64 * a + b) := by
  have : (64 : Int32) = nI 64 := rfl
  rw [this, pk_mul, nI_add]
theorem lz_ix6 (a b : Nat) : (6 : Int32) * nI a + nI b = nI (6 * a + b) := by
  have : (6 : Int32) = nI 6 := rfl
  rw [this, pk_mul, nI_add]
/-- one mast -/
theorem lz_m {A51 A57 A114 : Nat → Nat → Int32} {p u m cur : Nat} (Q : lz_in I A114 M P ok g h) (hp : p < P) (hu : u < 64) (hm : m < M) (hc : cur < 1000000000)
    (r1 : ∀ w, w < 64 → A114 118 (64 * (p + 1) + w) = nI (sv ok g M P (P - (p + 1)) w / 4096) ∧ A114 119 (64 * (p + 1) + w) = nI (sv ok g M P (P - (p + 1)) w % 4096)) (c1 : A114 118 (64 * p + u) = nI (cur / 4096)) (c2 : A114 119 (64 * p + u) = nI (cur % 4096)) :
    qAm130_X12_lays_68 n I B J t x1 A51 (nI p) A57 (nI u) A114 (nI m) = (if (ok p m = true ∧ sv_bt u m = false) ∧ cur < g p m + sv ok g M P (P - (p + 1)) (sv_su u m) then cw_u (cw_u A114 118 (64 * p + u) (nI ((g p m + sv ok g M P (P - (p + 1)) (sv_su u m)) / 4096))) 119 (64 * p + u) (nI ((g p m + sv ok g M P (P - (p + 1)) (sv_su u m)) % 4096)) else A114) := by
  obtain ⟨Q1, Q2, Q3, Q4, Q5, Q6, Q7, Q8⟩ := id Q
  obtain ⟨b1, b2⟩ := sv_bits u hu m (by omega)
  obtain ⟨L, S, e1, e2, e3⟩ := lz_small Q (P - (p + 1)) (sv_su u m) (by omega)
  obtain ⟨l, hl, l1, l2⟩ := Q6 p hp
  have e69 : q69_X12_lays_68 n I B J t x1 A51 (nI p) A57 (nI u) = nI (64 * p + u) := lz_ix p u
  have c69 : (nI (64 * p + u)).toNatClampNeg = 64 * p + u := nI_clamp (by omega)
  have e165 : q165_X12_lays_68 n I B J t x1 A51 (nI p) A57 (nI u) A114 (nI m) = nI (64 * (p + 1) + sv_su u m) := by
    unfold q165_X12_lays_68
    rw [nI_1, b1, lz_ix]
  have c165 : (nI (64 * (p + 1) + sv_su u m)).toNatClampNeg = 64 * (p + 1) + sv_su u m := nI_clamp (by omega)
  have c6 : (nI (6 * p + m)).toNatClampNeg = 6 * p + m := nI_clamp (by omega)
  unfold qAm130_X12_lays_68
  by_cases w : ((nI u >>> (nI m &&& 31)) &&& 1) = 1
  · have wb : sv_bt u m = true := decide_eq_true w
    rw [if_pos w, if_neg (fun z => by rw [wb] at z; exact absurd z.1.2 (by decide))]
  · have wb : sv_bt u m = false := decide_eq_false w
    rw [if_neg w]
    unfold qAm146_X12_lays_68
    rw [lz_ix6, c6]
    rcases Q5 p hp m hm with ⟨o, z⟩ | ⟨o, z, s, s1, s2, s3⟩
    · rw [if_pos z, if_neg (fun y => by rw [o] at y; exact absurd y.1.1 (by decide))]
    · rw [if_neg z]
      have ec : g p m + sv ok g M P (P - (p + 1)) (sv_su u m) = 4096 * (h p + L) + (s + S) := by rw [s2, e1]; omega
      have hh := Q8 p
      have d1 : (g p m + sv ok g M P (P - (p + 1)) (sv_su u m)) / 4096 = h p + L := by rw [ec]; omega
      have d2 : (g p m + sv ok g M P (P - (p + 1)) (sv_su u m)) % 4096 = s + S := by rw [ec]; omega
      have v1 : sv ok g M P (P - (p + 1)) (sv_su u m) / 4096 = L := by rw [e1]; omega
      have v2 : sv ok g M P (P - (p + 1)) (sv_su u m) % 4096 = S := by rw [e1]; omega
      obtain ⟨r2, r3⟩ := r1 (sv_su u m) b2
      rw [v1] at r2
      rw [v2] at r3
      have e186 : q186_X12_lays_68 n I B J t x1 A51 (nI p) A57 (nI u) A114 (nI m) = nI (h p + L) := by
        unfold q186_X12_lays_68
        rw [e165, c165, r2, nI_clamp (by omega), l1, nI_clamp (by omega), l2, nI_add, Nat.add_comm]
      have e208 : q208_X12_lays_68 n I B J t x1 A51 (nI p) A57 (nI u) A114 (nI m) = nI (s + S) := by
        unfold q208_X12_lays_68
        rw [e165, c165, r3, lz_ix6, c6, s3, nI_add, Nat.add_comm]
      have e266 : qA266_X12_lays_68 n I B J t x1 A51 (nI p) A57 (nI u) A114 (nI m) = cw_u (cw_u A114 118 (64 * p + u) (nI (h p + L))) 119 (64 * p + u) (nI (s + S)) := by
        unfold qA266_X12_lays_68 qA257_X12_lays_68
        rw [e69, c69, e186, e208]
      unfold qAm219_X12_lays_68 qAm231_X12_lays_68 qAm243_X12_lays_68
      rw [e69, c69, e186, e208, e266, c1, c2, d1, d2]
      have i1 : nI (h p + L) < nI (cur / 4096) ↔ h p + L < cur / 4096 := nI_ltI (by omega) (by omega)
      have i2 : nI (h p + L) = nI (cur / 4096) ↔ h p + L = cur / 4096 := nI_eq (by omega) (by omega)
      have i3 : nI (cur % 4096) < nI (s + S) ↔ cur % 4096 < s + S := nI_ltI (by omega) (by omega)
      simp only [i1, i2, i3, o, wb, true_and, and_self]
      rw [ec]
      by_cases q1 : h p + L < cur / 4096
      · rw [if_pos q1, if_neg (by omega)]
      · rw [if_neg q1]
        by_cases q2 : h p + L = cur / 4096
        · rw [if_pos q2]
          by_cases q3 : cur % 4096 < s + S
          · rw [if_pos q3, if_pos (by omega)]
          · rw [if_neg q3, if_neg (by omega)]
        · rw [if_neg q2, if_pos (by omega)]
theorem lz_mb {A51 A57 A114 : Nat → Nat → Int32} {p u m : Nat} (Q : lz_in I A114 M P ok g h) (hp : p < P) (hu : u < 64) (hm : m < M) (f : Nat)
    (q : lb_X12_lays_68_114 n I B J t x1 A51 (nI p) A57 (nI u) f (qAm130_X12_lays_68 n I B J t x1 A51 (nI p) A57 (nI u) A114 (nI m)) (nI (m + 1))) : lb_X12_lays_68_114 n I B J t x1 A51 (nI p) A57 (nI u) (f + 1) A114 (nI m) := by
  obtain ⟨Q1, Q2, Q3, Q4, Q5, Q6, Q7, Q8⟩ := id Q
  obtain ⟨b1, b2⟩ := sv_bits u hu m (by omega)
  obtain ⟨l, hl, l1, l2⟩ := Q6 p hp
  have e69 : q69_X12_lays_68 n I B J t x1 A51 (nI p) A57 (nI u) = nI (64 * p + u) := lz_ix p u
  have e165 : q165_X12_lays_68 n I B J t x1 A51 (nI p) A57 (nI u) A114 (nI m) = nI (64 * (p + 1) + sv_su u m) := by
    unfold q165_X12_lays_68
    rw [nI_1, b1, lz_ix]
  have e267 : q267_X12_lays_68 n I B J t x1 A51 (nI p) A57 (nI u) A114 (nI m) = nI (m + 1) := nI_1 m
  have v1 : vp_in (nI (6 * p + m)) 60 := vp_in_nI (by omega) (by decide)
  have v2 : vp_in (nI (64 * (p + 1) + sv_su u m)) 704 := vp_in_nI (by omega) (by decide)
  have v3 : vp_in (nI p) 10 := vp_in_nI (by omega) (by decide)
  have v4 : vp_in (nI l) 8 := vp_in_nI hl (by decide)
  have v5 : vp_in (nI (64 * p + u)) 704 := vp_in_nI (by omega) (by decide)
  unfold lb_X12_lays_68_114
  rw [e69, e165, e267, lz_ix6, nI_clamp (n := p) (by omega), l1]
  exact fun _ => ⟨fun _ => ⟨v1, fun _ => ⟨v2, v3, v4, v2, v1, v5, fun _ => ⟨v5, fun _ => ⟨v5, v5⟩, fun _ => ⟨v5, fun _ => ⟨v5, v5⟩⟩⟩⟩⟩, q⟩
end Lays
