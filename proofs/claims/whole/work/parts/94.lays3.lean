/-! the reference's choice -/
def sv_W (ok : Nat → Nat → Bool) (g : Nat → Nat → Nat) (M P : Nat) (am : Nat → Nat → Int32) : Nat → Nat → Int32
  | 0, _ => -1
  | p + 1, m => if sv_ch ok g M P p (sv_U ok g M P p) = nI m then am p m else sv_W ok g M P am p m
section Lays3
variable {n M P hr : Nat} {I B : Nat → Nat → Int32} {J : Nat → Nat → Int64} {t : Bool × Bool} {ok : Nat → Nat → Bool} {g : Nat → Nat → Nat} {h : Nat → Nat}
theorem lz_pk {A322 A354 : Nat → Nat → Int32} {p u m : Nat} (Q : lz_in I A354 M P ok g h) (hh : hr < 24) (hp : p < P) (hu : u < 64) (hm : m < M)
    (r1 : ∀ r, r ≤ P → ∀ w, w < 64 → A354 118 (64 * r + w) = nI (sv ok g M P (P - r) w / 4096) ∧ A354 119 (64 * r + w) = nI (sv ok g M P (P - r) w % 4096)) :
    qAm366_X12_lays_68 n I B J t (nI hr) A322 (nI u) (nI p) A354 (nI m) = if sv_pk ok g M P p u m = true then cw_u A354 109 (10 * hr + p) (nI m) else A354 := by
  obtain ⟨Q1, Q2, Q3, Q4, Q5, Q6, Q7, Q8⟩ := id Q
  obtain ⟨b1, b2⟩ := sv_bits u hu m (by omega)
  obtain ⟨L, S, e1, e2, e3⟩ := lz_small Q (P - (p + 1)) (sv_su u m) (by omega)
  obtain ⟨L', S', e1', e2', e3'⟩ := lz_small Q (P - p) u (by omega)
  obtain ⟨l, hl, l1, l2⟩ := Q6 p hp
  have e336 : q336_X12_lays_68 n I B J t (nI hr) A322 (nI u) (nI p) = nI (10 * hr + p) := sl_ix2 hr p
  have e401 : q401_X12_lays_68 n I B J t (nI hr) A322 (nI u) (nI p) A354 (nI m) = nI (64 * (p + 1) + sv_su u m) := by
    unfold q401_X12_lays_68
    rw [nI_1, b1, lz_ix]
  have c401 : (nI (64 * (p + 1) + sv_su u m)).toNatClampNeg = 64 * (p + 1) + sv_su u m := nI_clamp (by omega)
  have c6 : (nI (6 * p + m)).toNatClampNeg = 6 * p + m := nI_clamp (by omega)
  have c64 : (nI (64 * p + u)).toNatClampNeg = 64 * p + u := nI_clamp (by omega)
  unfold qAm366_X12_lays_68
  by_cases w : ((nI u >>> (nI m &&& 31)) &&& 1) = 1
  · have wb : sv_bt u m = true := decide_eq_true w
    rw [if_pos w, if_neg (fun z => by have := (of_decide_eq_true z).2.1; rw [wb] at this; exact absurd this (by decide))]
  · have wb : sv_bt u m = false := decide_eq_false w
    rw [if_neg w]
    unfold qAm382_X12_lays_68
    rw [lz_ix6, c6]
    rcases Q5 p hp m hm with ⟨o, z⟩ | ⟨o, z, s, s1, s2, s3⟩
    · rw [if_pos z, if_neg (fun y => by have := (of_decide_eq_true y).1; rw [o] at this; exact absurd this (by decide))]
    · rw [if_neg z]
      have hh := Q8 p
      obtain ⟨r2, r3⟩ := r1 (p + 1) (by omega) (sv_su u m) b2
      obtain ⟨r4, r5⟩ := r1 p (by omega) u hu
      have v1 : sv ok g M P (P - (p + 1)) (sv_su u m) / 4096 = L := by rw [e1]; omega
      have v2 : sv ok g M P (P - (p + 1)) (sv_su u m) % 4096 = S := by rw [e1]; omega
      have v3 : sv ok g M P (P - p) u / 4096 = L' := by rw [e1']; omega
      have v4 : sv ok g M P (P - p) u % 4096 = S' := by rw [e1']; omega
      rw [v1] at r2
      rw [v2] at r3
      rw [v3] at r4
      rw [v4] at r5
      unfold qAm433_X12_lays_68 qAm467_X12_lays_68 qA478_X12_lays_68
      rw [e336, e401, c401, r2, r3, lz_ix6, c6, lz_ix, c64, r4, r5, s3, nI_clamp (n := p) (by omega), l1, nI_clamp (n := l) (by omega), l2, nI_add, nI_add, nI_clamp (n := 10 * hr + p) (by omega)]
      have i1 : nI (L + h p) = nI L' ↔ L + h p = L' := nI_eq (by omega) (by omega)
      have i2 : nI (S + s) = nI S' ↔ S + s = S' := nI_eq (by omega) (by omega)
      simp only [i1, i2]
      have pkk : sv_pk ok g M P p u m = true ↔ (L + h p = L' ∧ S + s = S') := by
        constructor
        · intro y
          have y2 := (of_decide_eq_true y).2.2
          rw [s2, e1, e1'] at y2
          omega
        · intro y
          exact decide_eq_true ⟨o, wb, by rw [s2, e1, e1']; omega⟩
      by_cases q1 : L + h p = L'
      · rw [if_pos q1]
        by_cases q2 : S + s = S'
        · rw [if_pos q2, if_pos (pkk.mpr ⟨q1, q2⟩)]
        · rw [if_neg q2, if_neg (fun y => q2 (pkk.mp y).2)]
      · rw [if_neg q1, if_neg (fun y => q1 (pkk.mp y).1)]
theorem lz_in3 {A322 : Nat → Nat → Int32} {p u : Nat} (Q : lz_in I A322 M P ok g h) (hh : hr < 24) (hp : p < P) (hu : u < 64)
    (r1 : ∀ r, r ≤ P → ∀ w, w < 64 → A322 118 (64 * r + w) = nI (sv ok g M P (P - r) w / 4096) ∧ A322 119 (64 * r + w) = nI (sv ok g M P (P - r) w % 4096)) :
    ∀ (k f : Nat) (A354 : Nat → Nat → Int32), k ≤ M → k < f → (∀ c, c ≠ 109 → A354 c = A322 c) → (∀ x, ¬ x = 10 * hr + p → A354 109 x = A322 109 x) → A354 109 (10 * hr + p) = sv_gd (sv_pk ok g M P p u) k (M - k) →
    lb_X12_lays_68_354 n I B J t (nI hr) A322 (nI u) (nI p) f A354 (nI k - 1) ∧ (∀ x, ¬ x = 10 * hr + p → (lp_X12_lays_68_354 n I B J t (nI hr) A322 (nI u) (nI p) f A354 (nI k - 1)).1 109 x = A322 109 x) ∧ (lp_X12_lays_68_354 n I B J t (nI hr) A322 (nI u) (nI p) f A354 (nI k - 1)).1 109 (10 * hr + p) = sv_ch ok g M P p u := by
  have QQ := Q
  obtain ⟨Q1, Q2, Q3, Q4, Q5, Q6, Q7, Q8⟩ := Q
  intro k
  induction k with
  | zero =>
    intro f A354 hk hf ha hx h0
    obtain ⟨f, rfl⟩ : ∃ x, f = x + 1 := ⟨f - 1, by omega⟩
    have c : nI 0 - 1 < 0 := by decide
    unfold lb_X12_lays_68_354 lp_X12_lays_68_354
    rw [if_pos c]
    refine ⟨fun z => absurd c z, hx, ?_⟩
    have := sv_ls_gd (pk := sv_pk ok g M P p u) M 0 (by omega)
    rw [Nat.zero_add, if_pos (show sv_ls (sv_pk ok g M P p u) 0 = -1 from rfl)] at this
    exact h0.trans this.symm
  | succ k ih =>
    intro f A354 hk hf ha hx h0
    obtain ⟨f, rfl⟩ : ∃ x, f = x + 1 := ⟨f - 1, by omega⟩
    rw [nI_pred]
    have c : ¬ nI k < 0 := nI_pos (by omega)
    have QA : lz_in I A354 M P ok g h := lz_c QQ (ha 114 (by decide)) (ha 115 (by decide)) (ha 94 (by decide)) (ha 91 (by decide))
    have rA : ∀ r, r ≤ P → ∀ w, w < 64 → A354 118 (64 * r + w) = nI (sv ok g M P (P - r) w / 4096) ∧ A354 119 (64 * r + w) = nI (sv ok g M P (P - r) w % 4096) := by
      rw [ha 118 (by decide), ha 119 (by decide)]; exact r1
    have e := lz_pk (n := n) (B := B) (J := J) (t := t) (A322 := A322) QA hh hp hu (m := k) (by omega) rA
    have e479 : q479_X12_lays_68 n I B J t (nI hr) A322 (nI u) (nI p) A354 (nI k) = nI k - 1 := by
      unfold q479_X12_lays_68
      rw [Int32.sub_eq_add_neg]
    have eM : M - k = (M - (k + 1)) + 1 := by omega
    obtain ⟨i1, i2, i3⟩ := ih f (qAm366_X12_lays_68 n I B J t (nI hr) A322 (nI u) (nI p) A354 (nI k)) (by omega) (by omega)
      (fun c hc => by
        rw [e]
        split
        · rw [cw_u_c _ _ hc]; exact ha c hc
        · exact ha c hc)
      (fun x hx2 => by
        rw [e]
        split
        · rw [cw_u_k _ _ hx2]; exact hx x hx2
        · exact hx x hx2)
      (by
        rw [e, eM]
        conv => rhs; rw [sv_gd]
        split
        · rw [cw_u_s]
        · exact h0)
    obtain ⟨b1, b2⟩ := sv_bits u hu k (by omega)
    obtain ⟨l, hl, l1, l2⟩ := Q6 p hp
    have e336 : q336_X12_lays_68 n I B J t (nI hr) A322 (nI u) (nI p) = nI (10 * hr + p) := sl_ix2 hr p
    have e401 : q401_X12_lays_68 n I B J t (nI hr) A322 (nI u) (nI p) A354 (nI k) = nI (64 * (p + 1) + sv_su u k) := by
      unfold q401_X12_lays_68
      rw [nI_1, b1, lz_ix]
    have v1 : vp_in (nI (6 * p + k)) 60 := vp_in_nI (by omega) (by decide)
    have v2 : vp_in (nI (64 * (p + 1) + sv_su u k)) 704 := vp_in_nI (by omega) (by decide)
    have v3 : vp_in (nI p) 10 := vp_in_nI (by omega) (by decide)
    have v4 : vp_in (nI l) 8 := vp_in_nI hl (by decide)
    have v5 : vp_in (nI (64 * p + u)) 704 := vp_in_nI (by omega) (by decide)
    have v6 : vp_in (nI (10 * hr + p)) 240 := vp_in_nI (by omega) (by decide)
    have l1' : A354 94 p = nI l := by rw [ha 94 (by decide)]; exact l1
    unfold lb_X12_lays_68_354 lp_X12_lays_68_354
    rw [if_neg c, e479, lz_ix6, e401, e336, lz_ix, nI_clamp (n := p) (by omega), l1']
    exact ⟨fun _ => ⟨fun _ => ⟨v1, fun _ => ⟨v2, v3, v4, v5, fun _ => ⟨v2, v1, v5, fun _ => v6⟩⟩⟩, i1⟩, i2, i3⟩
/-- what stands behind the choice of the programmes below p -/
def lz_done (ok : Nat → Nat → Bool) (g : Nat → Nat → Nat) (M P hr : Nat) (B C : Nat → Nat → Int32) (p : Nat) : Prop :=
  (∀ q, q < p → C 109 (10 * hr + q) = sv_ch ok g M P q (sv_U ok g M P q) ∧ ∀ m, m < M → sv_ch ok g M P q (sv_U ok g M P q) = nI m → C 110 (10 * hr + q) = B 114 (6 * q + m) ∧ C 111 (10 * hr + q) = B 116 (6 * q + m) ∧ C 112 (10 * hr + q) = B 115 (6 * q + m)) ∧
  (∀ m, m < 6 → C 117 m = sv_W ok g M P (fun p m => B 116 (6 * p + m)) p m) ∧
  ∀ x, (x < 10 * hr ∨ 10 * hr + 10 ≤ x) → C 109 x = B 109 x ∧ C 110 x = B 110 x ∧ C 111 x = B 111 x ∧ C 112 x = B 112 x
theorem lz_out {B1 : Nat → Nat → Int32} (hn : 100 ≤ n) (Q : lz_in I B1 M P ok g h) (hh : hr < 24)
    (r1 : ∀ r, r ≤ P → ∀ w, w < 64 → B1 118 (64 * r + w) = nI (sv ok g M P (P - r) w / 4096) ∧ B1 119 (64 * r + w) = nI (sv ok g M P (P - r) w % 4096)) :
    ∀ (d p f : Nat) (C : Nat → Nat → Int32), p + d = P → d < f → (∀ c, c ≠ 109 → c ≠ 110 → c ≠ 111 → c ≠ 112 → c ≠ 117 → C c = B1 c) → lz_done ok g M P hr B1 C p →
    lb_X12_lays_68_322 n I B J t (nI hr) f C (nI (sv_U ok g M P p)) (nI p) ∧ lz_done ok g M P hr B1 (lp_X12_lays_68_322 n I B J t (nI hr) f C (nI (sv_U ok g M P p)) (nI p)).1 P := by
  have QQ := Q
  obtain ⟨Q1, Q2, Q3, Q4, Q5, Q6, Q7, Q8⟩ := Q
  obtain ⟨h1M, h64⟩ := sv_one M (by omega)
  intro d
  induction d with
  | zero =>
    intro p f C hk hf ha hD
    obtain ⟨f, rfl⟩ : ∃ x, f = x + 1 := ⟨f - 1, by omega⟩
    have : p = P := by omega
    subst this
    have c : nI p ≤ nI p := nI_le (Nat.le_refl _) (by omega)
    unfold lb_X12_lays_68_322 lp_X12_lays_68_322
    rw [Q1, if_pos c]
    exact ⟨fun z => absurd c z, hD⟩
  | succ d ih =>
    intro p f C hk hf ha hD
    obtain ⟨f, rfl⟩ : ∃ x, f = x + 1 := ⟨f - 1, by omega⟩
    have c : ¬ nI P ≤ nI p := nI_ge (by omega) (by omega)
    have hU := sv_U_lt (ok := ok) (g := g) (P := P) Q4 p
    have e336 : q336_X12_lays_68 n I B J t (nI hr) C (nI (sv_U ok g M P p)) (nI p) = nI (10 * hr + p) := sl_ix2 hr p
    have c336 : (nI (10 * hr + p)).toNatClampNeg = 10 * hr + p := nI_clamp (by omega)
    have e345 : qA345_X12_lays_68 n I B J t (nI hr) C (nI (sv_U ok g M P p)) (nI p) = cw_u C 109 (10 * hr + p) (-1) := by
      unfold qA345_X12_lays_68
      rw [e336, c336]
    have e352 : q352_X12_lays_68 n I B J t (nI hr) C (nI (sv_U ok g M P p)) (nI p) = nI M - 1 := by
      unfold q352_X12_lays_68
      rw [Q2]
    have e586 : q586_X12_lays_68 n I B J t (nI hr) C (nI (sv_U ok g M P p)) (nI p) = nI (p + 1) := nI_1 p
    have QC : lz_in I C M P ok g h := lz_c QQ (ha 114 (by decide) (by decide) (by decide) (by decide) (by decide)) (ha 115 (by decide) (by decide) (by decide) (by decide) (by decide)) (ha 94 (by decide) (by decide) (by decide) (by decide) (by decide)) (ha 91 (by decide) (by decide) (by decide) (by decide) (by decide))
    have rC : ∀ r, r ≤ P → ∀ w, w < 64 → C 118 (64 * r + w) = nI (sv ok g M P (P - r) w / 4096) ∧ C 119 (64 * r + w) = nI (sv ok g M P (P - r) w % 4096) := by
      rw [ha 118 (by decide) (by decide) (by decide) (by decide) (by decide), ha 119 (by decide) (by decide) (by decide) (by decide) (by decide)]; exact r1
    obtain ⟨m1, m2, m3⟩ := lz_in3 (n := n) (B := B) (J := J) (t := t) QC hh (p := p) (u := sv_U ok g M P p) (by omega) (by omega) rC M n (cw_u C 109 (10 * hr + p) (-1)) (Nat.le_refl _) (by omega) (fun c hc => cw_u_c _ _ hc) (fun x hx => cw_u_k _ _ hx) (by rw [cw_u_s, Nat.sub_self]; rfl)
    have E : ∀ c, c ≠ 109 → qAw354_X12_lays_68 n I B J t (nI hr) C (nI (sv_U ok g M P p)) (nI p) c = C c := fun c hc => fr_qAw354_X12_lays_68 (by simp [hc])
    have m2' : ∀ x, ¬ x = 10 * hr + p → qAw354_X12_lays_68 n I B J t (nI hr) C (nI (sv_U ok g M P p)) (nI p) 109 x = C 109 x := fun x hx => by
      unfold qAw354_X12_lays_68
      rw [e345, e352]; exact m2 x hx
    have m3' : qAw354_X12_lays_68 n I B J t (nI hr) C (nI (sv_U ok g M P p)) (nI p) 109 (10 * hr + p) = sv_ch ok g M P p (sv_U ok g M P p) := by
      unfold qAw354_X12_lays_68
      rw [e345, e352]; exact m3
    have e492 : q492_X12_lays_68 n I B J t (nI hr) C (nI (sv_U ok g M P p)) (nI p) = sv_ch ok g M P p (sv_U ok g M P p) := by
      unfold q492_X12_lays_68
      rw [e336, c336]; exact m3'
    have vh : vp_in (nI (10 * hr + p)) 240 := vp_in_nI (by omega) (by decide)
    obtain ⟨D1, D2, D3⟩ := hD
    have eU : sv_U ok g M P (p + 1) = sv_nu ok g M P p (sv_U ok g M P p) := rfl
    have eW : ∀ m, sv_W ok g M P (fun p m => B1 116 (6 * p + m)) (p + 1) m = if sv_ch ok g M P p (sv_U ok g M P p) = nI m then B1 116 (6 * p + m) else sv_W ok g M P (fun p m => B1 116 (6 * p + m)) p m := fun m => rfl
    unfold lb_X12_lays_68_322 lp_X12_lays_68_322
    rw [Q1, if_neg c, e336, e345, e352, e586, e492]
    unfold qAm497_X12_lays_68 ql2m497_X12_lays_68
    rw [e492]
    rcases sv_ch_or (ok := ok) (g := g) (P := P) Q4 p (sv_U ok g M P p) with ⟨h1, -⟩ | ⟨m, h1, h2, h3, h4, h5⟩
    · have nu : sv_nu ok g M P p (sv_U ok g M P p) = sv_U ok g M P p := by unfold sv_nu; rw [if_pos h1]
      rw [if_pos h1, if_pos h1]
      obtain ⟨i1, i2⟩ := ih (p + 1) f (qAw354_X12_lays_68 n I B J t (nI hr) C (nI (sv_U ok g M P p)) (nI p)) (by omega) (by omega) (fun c q1 q2 q3 q4 q5 => by rw [E c q1]; exact ha c q1 q2 q3 q4 q5) (by
        refine ⟨fun q hq => ?_, fun m hm => ?_, fun x hx => ?_⟩
        · rw [E 110 (by decide), E 111 (by decide), E 112 (by decide)]
          by_cases z : q = p
          · subst z
            refine ⟨m3', fun m hm y => absurd (h1.symm.trans y) (fun y => sv_n1 (by omega) y.symm)⟩
          · rw [m2' (10 * hr + q) (by omega)]
            exact D1 q (by omega)
        · rw [E 117 (by decide), eW, if_neg (fun y => sv_n1 (by omega) (h1.symm.trans y).symm)]
          exact D2 m hm
        · rw [m2' x (by omega), E 110 (by decide), E 111 (by decide), E 112 (by decide)]
          exact D3 x hx)
      rw [eU, nu] at i1 i2
      exact ⟨fun _ => ⟨vh, m1, vh, fun z => absurd h1 z, i1⟩, i2⟩
    · have nn : ¬ sv_ch ok g M P p (sv_U ok g M P p) = -1 := by rw [h5]; exact sv_n1 (by omega)
      have nu : sv_nu ok g M P p (sv_U ok g M P p) = sv_su (sv_U ok g M P p) m := by
        unfold sv_nu
        rw [if_neg nn, h5, nI_clamp (by omega)]
      obtain ⟨b1, b2⟩ := sv_bits (sv_U ok g M P p) (by omega) m (by omega)
      rw [if_neg nn, if_neg nn]
      have e509 : q509_X12_lays_68 n I B J t (nI hr) C (nI (sv_U ok g M P p)) (nI p) = nI (sv_U ok g M P (p + 1)) := by
        unfold q509_X12_lays_68
        rw [e492, h5, b1, eU, nu]
      have i6 : (6 : Int32) * nI p + sv_ch ok g M P p (sv_U ok g M P p) = nI (6 * p + m) := by rw [h5, lz_ix6]
      have c6 : (nI (6 * p + m)).toNatClampNeg = 6 * p + m := nI_clamp (by omega)
      have cm : (nI m).toNatClampNeg = m := nI_clamp (by omega)
      have B114 : C 114 = B1 114 := ha 114 (by decide) (by decide) (by decide) (by decide) (by decide)
      have B115 : C 115 = B1 115 := ha 115 (by decide) (by decide) (by decide) (by decide) (by decide)
      have B116 : C 116 = B1 116 := ha 116 (by decide) (by decide) (by decide) (by decide) (by decide)
      have e585 : qA585_X12_lays_68 n I B J t (nI hr) C (nI (sv_U ok g M P p)) (nI p) = cw_u (cw_u (cw_u (cw_u (qAw354_X12_lays_68 n I B J t (nI hr) C (nI (sv_U ok g M P p)) (nI p)) 117 m (B1 116 (6 * p + m))) 110 (10 * hr + p) (B1 114 (6 * p + m))) 111 (10 * hr + p) (B1 116 (6 * p + m))) 112 (10 * hr + p) (B1 115 (6 * p + m)) := by
        unfold qA585_X12_lays_68 qA566_X12_lays_68 qA547_X12_lays_68 qA528_X12_lays_68
        rw [e492, i6, c6, e336, c336, h5, cm]
        simp only [cw_u_c _ _ (show (114 : Nat) ≠ 117 by decide), cw_u_c _ _ (show (116 : Nat) ≠ 110 by decide), cw_u_c _ _ (show (116 : Nat) ≠ 117 by decide), cw_u_c _ _ (show (115 : Nat) ≠ 111 by decide), cw_u_c _ _ (show (115 : Nat) ≠ 110 by decide), cw_u_c _ _ (show (115 : Nat) ≠ 117 by decide)]
        rw [E 114 (by decide), E 115 (by decide), E 116 (by decide), B114, B115, B116]
      obtain ⟨i1, i2⟩ := ih (p + 1) f (qA585_X12_lays_68 n I B J t (nI hr) C (nI (sv_U ok g M P p)) (nI p)) (by omega) (by omega) (fun c q1 q2 q3 q4 q5 => by rw [e585, cw_u_c _ _ q4, cw_u_c _ _ q3, cw_u_c _ _ q2, cw_u_c _ _ q5, E c q1]; exact ha c q1 q2 q3 q4 q5) (by
        rw [e585]
        refine ⟨fun q hq => ?_, fun m' hm => ?_, fun x hx => ?_⟩
        · rw [cw_u_c _ _ (show (109 : Nat) ≠ 112 by decide), cw_u_c _ _ (show (109 : Nat) ≠ 111 by decide), cw_u_c _ _ (show (109 : Nat) ≠ 110 by decide), cw_u_c _ _ (show (109 : Nat) ≠ 117 by decide), cw_u_c _ _ (show (110 : Nat) ≠ 112 by decide), cw_u_c _ _ (show (110 : Nat) ≠ 111 by decide), cw_u_c _ _ (show (111 : Nat) ≠ 112 by decide)]
          by_cases z : q = p
          · subst z
            refine ⟨m3', fun m' hm y => ?_⟩
            have : m' = m := (nI_eq (by omega) (by omega)).mp (y.symm.trans h5)
            subst this
            rw [cw_u_s, cw_u_s, cw_u_s]
            exact ⟨rfl, rfl, rfl⟩
          · have zz : ¬ 10 * hr + q = 10 * hr + p := by omega
            rw [m2' _ zz, cw_u_k _ _ zz, cw_u_k _ _ zz, cw_u_k _ _ zz, cw_u_c _ _ (show (110 : Nat) ≠ 117 by decide), cw_u_c _ _ (show (111 : Nat) ≠ 110 by decide), cw_u_c _ _ (show (111 : Nat) ≠ 117 by decide), cw_u_c _ _ (show (112 : Nat) ≠ 111 by decide), cw_u_c _ _ (show (112 : Nat) ≠ 110 by decide), cw_u_c _ _ (show (112 : Nat) ≠ 117 by decide), E 110 (by decide), E 111 (by decide), E 112 (by decide)]
            exact D1 q (by omega)
        · rw [cw_u_c _ _ (show (117 : Nat) ≠ 112 by decide), cw_u_c _ _ (show (117 : Nat) ≠ 111 by decide), cw_u_c _ _ (show (117 : Nat) ≠ 110 by decide), eW, h5]
          by_cases z : m' = m
          · subst z
            rw [cw_u_s, if_pos rfl]
          · rw [cw_u_k _ _ z, if_neg (fun y => z ((nI_eq (by omega) (by omega)).mp y).symm), E 117 (by decide)]
            exact D2 m' hm
        · have zz : ¬ x = 10 * hr + p := by omega
          rw [cw_u_c _ _ (show (109 : Nat) ≠ 112 by decide), cw_u_c _ _ (show (109 : Nat) ≠ 111 by decide), cw_u_c _ _ (show (109 : Nat) ≠ 110 by decide), cw_u_c _ _ (show (109 : Nat) ≠ 117 by decide), cw_u_c _ _ (show (110 : Nat) ≠ 112 by decide), cw_u_c _ _ (show (110 : Nat) ≠ 111 by decide), cw_u_c _ _ (show (111 : Nat) ≠ 112 by decide), m2' x zz, cw_u_k _ _ zz, cw_u_k _ _ zz, cw_u_k _ _ zz, cw_u_c _ _ (show (110 : Nat) ≠ 117 by decide), cw_u_c _ _ (show (111 : Nat) ≠ 110 by decide), cw_u_c _ _ (show (111 : Nat) ≠ 117 by decide), cw_u_c _ _ (show (112 : Nat) ≠ 111 by decide), cw_u_c _ _ (show (112 : Nat) ≠ 110 by decide), cw_u_c _ _ (show (112 : Nat) ≠ 117 by decide), E 110 (by decide), E 111 (by decide), E 112 (by decide)]
          exact D3 x hx)
      rw [← e509] at i1 i2
      rw [i6]
      have v6 : vp_in (nI (6 * p + m)) 60 := vp_in_nI (by omega) (by decide)
      have vm : vp_in (sv_ch ok g M P p (sv_U ok g M P p)) 6 := by rw [h5]; exact vp_in_nI (by omega) (by decide)
      exact ⟨fun _ => ⟨vh, m1, vh, fun _ => ⟨v6, vm, v6, vh, v6, vh, v6, vh⟩, i1⟩, i2⟩
theorem lz_was : ∀ (j k f : Nat) (C : Nat → Nat → Int32), k + j = 6 → j < f → lb_X12_lays_68_301 n I B J t (nI hr) f C (nI k) ∧ ∀ m, (lp_X12_lays_68_301 n I B J t (nI hr) f C (nI k)).1 117 m = if k ≤ m ∧ m < 6 then -1 else C 117 m := by
  intro j
  induction j with
  | zero =>
    intro k f C hk hf
    obtain ⟨f, rfl⟩ : ∃ x, f = x + 1 := ⟨f - 1, by omega⟩
    have c : 6 ≤ nI k := nI_le (a := 6) (by omega) (by omega)
    unfold lb_X12_lays_68_301 lp_X12_lays_68_301
    rw [if_pos c]
    refine ⟨fun z => absurd c z, fun m => ?_⟩
    rw [if_neg (by omega)]
  | succ j ih =>
    intro k f C hk hf
    obtain ⟨f, rfl⟩ : ∃ x, f = x + 1 := ⟨f - 1, by omega⟩
    have c : ¬ 6 ≤ nI k := nI_ge (b := 6) (by omega) (by omega)
    have e313 : qA313_X12_lays_68 n I B J t (nI hr) C (nI k) = cw_u C 117 k (-1) := by
      unfold qA313_X12_lays_68
      rw [nI_clamp (by omega)]
    have e314 : q314_X12_lays_68 n I B J t (nI hr) C (nI k) = nI (k + 1) := nI_1 k
    obtain ⟨i1, i2⟩ := ih (k + 1) f (cw_u C 117 k (-1)) (by omega) (by omega)
    unfold lb_X12_lays_68_301 lp_X12_lays_68_301
    rw [if_neg c, e313, e314]
    refine ⟨fun _ => ⟨vp_in_nI (by omega) (by decide), i1⟩, fun m => ?_⟩
    rw [i2 m]
    by_cases q : m = k
    · subst q
      rw [cw_u_s, if_neg (by omega), if_pos (by omega)]
    · rw [cw_u_k _ _ q]
      by_cases q2 : k + 1 ≤ m ∧ m < 6
      · rw [if_pos q2, if_pos (by omega)]
      · rw [if_neg q2, if_neg (by omega)]
/-- the reference's hour -/
theorem lz_lays (hn : 100 ≤ n) (Q : lz_in I B M P ok g h) (hh : hr < 24) :
    pb_X12_lays_68 n I B J t (nI hr) ∧ lz_done ok g M P hr B (pA_X12_lays_68 n I B J t (nI hr)) P ∧ ∀ x, pA_X12_lays_68 n I B J t (nI hr) 113 x = if x = hr then nI (sv_H ok g M P h P) else B 113 x := by
  have QQ := Q
  obtain ⟨Q1, Q2, Q3, Q4, Q5, Q6, Q7, Q8⟩ := Q
  have z0 : nI 0 = 0 := nI_0
  obtain ⟨a1, a2⟩ := lz_zero (n := n) (J := J) (t := t) (x1 := nI hr) QQ 64 0 n B (by omega) (by omega)
  rw [z0] at a1 a2
  have F2 : ∀ c, c ≠ 118 → c ≠ 119 → qAw2_X12_lays_68 n I B J t (nI hr) c = B c := fun c h1 h2 => fr_qAw2_X12_lays_68 (by simp [h1, h2])
  have F51 : ∀ c, c ≠ 118 → c ≠ 119 → qAw51_X12_lays_68 n I B J t (nI hr) c = B c := fun c h1 h2 => fr_qAw51_X12_lays_68 (by simp [h1, h2])
  have e50 : q50_X12_lays_68 n I B J t (nI hr) = nI P - 1 := by unfold q50_X12_lays_68; rw [Q1]
  obtain ⟨t1, t2⟩ := lz_table (n := n) (J := J) (t := t) (x1 := nI hr) hn QQ P n (qAw2_X12_lays_68 n I B J t (nI hr)) (Nat.le_refl _) (by omega) F2 (fun r h1 h2 w hw => by
    have : r = P := by omega
    subst this
    obtain ⟨y1, y2⟩ := a2 w (by omega) hw
    rw [Nat.sub_self]
    have s0 : sv ok g M r 0 w = 0 := rfl
    rw [s0]
    exact ⟨y1.trans nI_0.symm, y2.trans nI_0.symm⟩)
  rw [← e50] at t1 t2
  have ch : (nI hr).toNatClampNeg = hr := nI_clamp (by omega)
  have k0 : ((0 : Int32)).toNatClampNeg = 0 := by decide
  have t2' : ∀ r, r ≤ P → ∀ w, w < 64 → qAw51_X12_lays_68 n I B J t (nI hr) 118 (64 * r + w) = nI (sv ok g M P (P - r) w / 4096) ∧ qAw51_X12_lays_68 n I B J t (nI hr) 119 (64 * r + w) = nI (sv ok g M P (P - r) w % 4096) := t2
  have e296 : qA296_X12_lays_68 n I B J t (nI hr) = cw_u (qAw51_X12_lays_68 n I B J t (nI hr)) 113 hr (nI (sv_H ok g M P h P)) := by
    unfold qA296_X12_lays_68
    rw [ch, k0]
    have := (t2' 0 (by omega) 0 (by omega)).1
    rw [Nat.mul_zero, Nat.zero_add, Nat.sub_zero, sv_heard Q4 Q3 Q7] at this
    rw [this]
  obtain ⟨w1, w2⟩ := lz_was (n := n) (I := I) (B := B) (J := J) (t := t) (hr := hr) 6 0 n (qA296_X12_lays_68 n I B J t (nI hr)) (by omega) (by omega)
  rw [z0] at w1 w2
  have F301 : ∀ c, c ≠ 117 → qAw301_X12_lays_68 n I B J t (nI hr) c = qA296_X12_lays_68 n I B J t (nI hr) c := fun c h1 => by
    unfold qAw301_X12_lays_68
    exact fr_lp_X12_lays_68_301_c0 (by simp [h1]) _ _ _
  have G301 : ∀ c, c ≠ 117 → c ≠ 113 → c ≠ 118 → c ≠ 119 → qAw301_X12_lays_68 n I B J t (nI hr) c = B c := fun c h1 h2 h3 h4 => by
    rw [F301 c h1, e296, cw_u_c _ _ h2]; exact F51 c h3 h4
  have Q301 : lz_in I (qAw301_X12_lays_68 n I B J t (nI hr)) M P ok g h := lz_c QQ (G301 114 (by decide) (by decide) (by decide) (by decide)) (G301 115 (by decide) (by decide) (by decide) (by decide)) (G301 94 (by decide) (by decide) (by decide) (by decide)) (G301 91 (by decide) (by decide) (by decide) (by decide))
  obtain ⟨o1, o2⟩ := lz_out (n := n) (B := B) (J := J) (t := t) hn Q301 hh (by rw [F301 118 (by decide), F301 119 (by decide), e296, cw_u_c _ _ (by decide), cw_u_c _ _ (by decide)]; exact t2') P 0 n (qAw301_X12_lays_68 n I B J t (nI hr)) (by omega) (by omega) (fun _ _ _ _ _ _ => rfl) ⟨fun q hq => absurd hq (by omega), fun m hm => by
    have := w2 m
    rw [if_pos (by omega)] at this
    exact this, fun x hx => ⟨rfl, rfl, rfl, rfl⟩⟩
  have u0 : sv_U ok g M P 0 = 0 := rfl
  rw [u0, z0] at o1 o2
  refine ⟨⟨a1, t1, vp_in_nI (n := 0) (by omega) (by decide), vp_in_nI hh (by decide), w1, o1⟩, ?_, fun x => ?_⟩
  · obtain ⟨D1, D2, D3⟩ := o2
    have e114 := G301 114 (by decide) (by decide) (by decide) (by decide)
    have e115 := G301 115 (by decide) (by decide) (by decide) (by decide)
    have e116 := G301 116 (by decide) (by decide) (by decide) (by decide)
    have e109 := G301 109 (by decide) (by decide) (by decide) (by decide)
    have e110 := G301 110 (by decide) (by decide) (by decide) (by decide)
    have e111 := G301 111 (by decide) (by decide) (by decide) (by decide)
    have e112 := G301 112 (by decide) (by decide) (by decide) (by decide)
    rw [e114, e115, e116] at D1
    rw [e116] at D2
    rw [e109, e110, e111, e112] at D3
    exact ⟨D1, D2, D3⟩
  · unfold pA_X12_lays_68 qAw322_X12_lays_68
    rw [fr_lp_X12_lays_68_322_c0 (by decide), F301 113 (by decide), e296]
    by_cases q : x = hr
    · subst q; rw [cw_u_s, if_pos rfl]
    · rw [cw_u_k _ _ q, if_neg q, F51 113 (by decide) (by decide)]
end Lays3
