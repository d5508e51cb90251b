/-! pairing programmes with masts: what the best pairing brings -/
def sv_bt (u m : Nat) : Bool := decide (((nI u >>> (nI m &&& 31)) &&& 1) = 1)
def sv_su (u m : Nat) : Nat := (nI u ||| ((1 : Int32) <<< (nI m &&& 31))).toNatClampNeg
theorem sv_bits : ∀ u, u < 64 → ∀ m, m < 6 → nI u ||| ((1 : Int32) <<< (nI m &&& 31)) = nI (sv_su u m) ∧ sv_su u m < 64 := by decide +kernel
theorem sv_lt : ∀ M, M < 7 → ∀ u, u < 2 ^ M → ∀ m, m < M → sv_su u m < 2 ^ M := by decide +kernel
theorem sv_one : ∀ M, M < 7 → (1 : Int32) <<< (nI M &&& 31) = nI (2 ^ M) ∧ 2 ^ M ≤ 64 := by decide +kernel
theorem sv_sh : ∀ a, a < 11 → nI a <<< ((6 : Int32) &&& 31) = nI (64 * a) := by decide +kernel
def sv_mx (ok : Nat → Bool) (g : Nat → Nat) (V1 : Nat → Nat) (u : Nat) : Nat → Nat → Nat
  | 0, c => c
  | k + 1, c => if ok k = true ∧ sv_bt u k = false then Nat.max (sv_mx ok g V1 u k c) (g k + V1 (sv_su u k)) else sv_mx ok g V1 u k c
def sv (ok : Nat → Nat → Bool) (g : Nat → Nat → Nat) (M P : Nat) : Nat → Nat → Nat
  | 0, _ => 0
  | d + 1, u => sv_mx (ok (P - (d + 1))) (g (P - (d + 1))) (sv ok g M P d) u M (sv ok g M P d u)
theorem sv_mx_or {ok : Nat → Bool} {g V1 : Nat → Nat} {u c : Nat} : ∀ k, sv_mx ok g V1 u k c = c ∨ ∃ m, m < k ∧ ok m = true ∧ sv_bt u m = false ∧ sv_mx ok g V1 u k c = g m + V1 (sv_su u m)
  | 0 => Or.inl rfl
  | k + 1 => by
    have ih := sv_mx_or (ok := ok) (g := g) (V1 := V1) (u := u) (c := c) k
    unfold sv_mx
    by_cases q : ok k = true ∧ sv_bt u k = false
    · rw [if_pos q]
      by_cases w : sv_mx ok g V1 u k c ≤ g k + V1 (sv_su u k)
      · right
        exact ⟨k, by omega, q.1, q.2, Nat.max_eq_right w⟩
      · have e : Nat.max (sv_mx ok g V1 u k c) (g k + V1 (sv_su u k)) = sv_mx ok g V1 u k c := Nat.max_eq_left (by omega)
        rw [e]
        rcases ih with ih | ⟨m, h1, h2, h3, h4⟩
        · exact Or.inl ih
        · exact Or.inr ⟨m, by omega, h2, h3, h4⟩
    · rw [if_neg q]
      rcases ih with ih | ⟨m, h1, h2, h3, h4⟩
      · exact Or.inl ih
      · exact Or.inr ⟨m, by omega, h2, h3, h4⟩
/-- the least number below k with a property, else -1 -/
def sv_ls (pk : Nat → Bool) : Nat → Int32
  | 0 => -1
  | k + 1 => if sv_ls pk k = -1 then (if pk k = true then nI k else -1) else sv_ls pk k
def sv_gd (pk : Nat → Bool) : Nat → Nat → Int32
  | _, 0 => -1
  | k, j + 1 => if pk k = true then nI k else sv_gd pk (k + 1) j
theorem sv_n1 {k : Nat} (h : k < 2 ^ 31) : ¬ nI k = -1 := fun z => by
  have := tI_eq.mp z
  rw [tI_nI (by omega)] at this
  have a1 : (-1 : Int32).toInt = -1 := rfl
  omega
theorem sv_ls_gd {pk : Nat → Bool} : ∀ (j k : Nat), k + j < 1000 → sv_ls pk (k + j) = if sv_ls pk k = -1 then sv_gd pk k j else sv_ls pk k
  | 0, k, _ => by
    unfold sv_gd
    by_cases q : sv_ls pk k = -1
    · rw [if_pos q]; exact q
    · rw [if_neg q]; rfl
  | j + 1, k, h => by
    have ih := sv_ls_gd (pk := pk) j (k + 1) (by omega)
    have e : k + (j + 1) = k + 1 + j := by omega
    rw [e, ih]
    conv => rhs; rw [sv_gd]
    conv => lhs; rw [sv_ls]
    by_cases q : sv_ls pk k = -1
    · rw [if_pos q, if_pos q]
      by_cases w : pk k = true
      · rw [if_pos w, if_pos w, if_neg (sv_n1 (by omega))]
      · rw [if_neg w, if_neg w, if_pos rfl]
    · rw [if_neg q, if_neg q, if_neg q]
theorem sv_ls_or {pk : Nat → Bool} : ∀ k, k < 1000 → (sv_ls pk k = -1 ∧ ∀ m, m < k → ¬ pk m = true) ∨ ∃ m, m < k ∧ pk m = true ∧ sv_ls pk k = nI m
  | 0, _ => Or.inl ⟨rfl, fun m hm => absurd hm (by omega)⟩
  | k + 1, hk => by
    unfold sv_ls
    rcases sv_ls_or (pk := pk) k (by omega) with ⟨h1, h2⟩ | ⟨m, h1, h2, h3⟩
    · rw [if_pos h1]
      by_cases q : pk k = true
      · rw [if_pos q]; exact Or.inr ⟨k, by omega, q, rfl⟩
      · rw [if_neg q]
        refine Or.inl ⟨rfl, fun m hm => ?_⟩
        by_cases w : m = k
        · subst w; exact q
        · exact h2 m (by omega)
    · have q : ¬ sv_ls pk k = -1 := by rw [h3]; exact sv_n1 (by omega)
      rw [if_neg q]; exact Or.inr ⟨m, by omega, h2, h3⟩
section Best
variable (ok : Nat → Nat → Bool) (g : Nat → Nat → Nat) (M P : Nat)
def sv_pk (p u m : Nat) : Bool := decide (ok p m = true ∧ sv_bt u m = false ∧ g p m + sv ok g M P (P - (p + 1)) (sv_su u m) = sv ok g M P (P - p) u)
def sv_ch (p u : Nat) : Int32 := sv_ls (sv_pk ok g M P p u) M
def sv_nu (p u : Nat) : Nat := if sv_ch ok g M P p u = -1 then u else sv_su u (sv_ch ok g M P p u).toNatClampNeg
def sv_U : Nat → Nat
  | 0 => 0
  | p + 1 => sv_nu ok g M P p (sv_U p)
def sv_H (h : Nat → Nat) : Nat → Nat
  | 0 => 0
  | p + 1 => sv_H h p + (if sv_ch ok g M P p (sv_U ok g M P p) = -1 then 0 else h p)
end Best
section Best2
variable {ok : Nat → Nat → Bool} {g : Nat → Nat → Nat} {M P : Nat} {h : Nat → Nat}
theorem sv_bd (hM : M ≤ 6) (hg : ∀ p m, ok p m = true → ∃ s, s ≤ 306 ∧ g p m = 4096 * h p + s) (hh : ∀ p, h p ≤ 10000) : ∀ d u, ∃ L S, sv ok g M P d u = 4096 * L + S ∧ L ≤ 10000 * d ∧ S ≤ 306 * d
  | 0, u => ⟨0, 0, rfl, by omega, by omega⟩
  | d + 1, u => by
    unfold sv
    rcases sv_mx_or (ok := ok (P - (d + 1))) (g := g (P - (d + 1))) (V1 := sv ok g M P d) (u := u) (c := sv ok g M P d u) M with e | ⟨m, h1, h2, h3, e⟩
    · rw [e]
      obtain ⟨L, S, q1, q2, q3⟩ := sv_bd hM hg hh d u
      exact ⟨L, S, q1, by omega, by omega⟩
    · rw [e]
      obtain ⟨L, S, q1, q2, q3⟩ := sv_bd hM hg hh d (sv_su u m)
      obtain ⟨s, s1, s2⟩ := hg _ _ h2
      have := hh (P - (d + 1))
      exact ⟨h (P - (d + 1)) + L, s + S, by rw [q1, s2]; omega, by omega, by omega⟩
theorem sv_ch_or (hM : M ≤ 6) (p u : Nat) : (sv_ch ok g M P p u = -1 ∧ ∀ m, m < M → ¬ sv_pk ok g M P p u m = true) ∨ ∃ m, m < M ∧ ok p m = true ∧ sv_bt u m = false ∧ g p m + sv ok g M P (P - (p + 1)) (sv_su u m) = sv ok g M P (P - p) u ∧ sv_ch ok g M P p u = nI m := by
  unfold sv_ch
  rcases sv_ls_or (pk := sv_pk ok g M P p u) M (by omega) with q | ⟨m, h1, h2, h3⟩
  · exact Or.inl q
  · have := of_decide_eq_true h2
    exact Or.inr ⟨m, h1, this.1, this.2.1, this.2.2, h3⟩
theorem sv_no (hM : M ≤ 6) {p u : Nat} (hp : p < P) (q : sv_ch ok g M P p u = -1) : sv ok g M P (P - p) u = sv ok g M P (P - (p + 1)) u := by
  have e : P - p = (P - (p + 1)) + 1 := by omega
  have e2 : P - (P - (p + 1) + 1) = p := by omega
  rcases sv_ch_or (ok := ok) (g := g) (P := P) hM p u with ⟨-, h2⟩ | ⟨m, h1, h2, h3, h4, h5⟩
  · have hu : sv ok g M P (P - p) u = sv_mx (ok p) (g p) (sv ok g M P (P - (p + 1))) u M (sv ok g M P (P - (p + 1)) u) := by
      rw [e]
      conv => lhs; rw [sv]
      rw [e2]
    rcases sv_mx_or (ok := ok p) (g := g p) (V1 := sv ok g M P (P - (p + 1))) (u := u) (c := sv ok g M P (P - (p + 1)) u) M with w | ⟨m, w1, w2, w3, w4⟩
    · rw [hu, w]
    · exact absurd (decide_eq_true ⟨w2, w3, by rw [hu, w4]⟩) (h2 m w1)
  · rw [q] at h5
    exact absurd h5.symm (sv_n1 (by omega))
theorem sv_Hm (p : Nat) : ∀ d, sv_H ok g M P h p ≤ sv_H ok g M P h (p + d)
  | 0 => Nat.le_refl _
  | d + 1 => Nat.le_trans (sv_Hm p d) (by
      show _ ≤ sv_H ok g M P h (p + d) + _
      exact Nat.le_add_right _ _)
theorem sv_sum (hM : M ≤ 6) (hg : ∀ p m, ok p m = true → ∃ s, s ≤ 306 ∧ g p m = 4096 * h p + s) : ∀ d p, p + d = P → ∃ S, S ≤ 306 * d ∧ sv ok g M P (P - p) (sv_U ok g M P p) = 4096 * (sv_H ok g M P h P - sv_H ok g M P h p) + S
  | 0, p, hp => by
    have : p = P := by omega
    subst this
    refine ⟨0, by omega, ?_⟩
    rw [Nat.sub_self, Nat.sub_self]; rfl
  | d + 1, p, hp => by
    obtain ⟨S, q1, q2⟩ := sv_sum hM hg d (p + 1) (by omega)
    have hm1 := sv_Hm (ok := ok) (g := g) (M := M) (P := P) (h := h) (p + 1) d
    have e1 : p + 1 + d = P := by omega
    rw [e1] at hm1
    have eU : sv_U ok g M P (p + 1) = sv_nu ok g M P p (sv_U ok g M P p) := rfl
    have eH : sv_H ok g M P h (p + 1) = sv_H ok g M P h p + (if sv_ch ok g M P p (sv_U ok g M P p) = -1 then 0 else h p) := rfl
    rcases sv_ch_or (ok := ok) (g := g) (P := P) hM p (sv_U ok g M P p) with ⟨h1, -⟩ | ⟨m, h1, h2, h3, h4, h5⟩
    · rw [sv_no hM (by omega) h1]
      have : sv_nu ok g M P p (sv_U ok g M P p) = sv_U ok g M P p := by unfold sv_nu; rw [if_pos h1]
      rw [eU, this] at q2
      rw [if_pos h1] at eH
      exact ⟨S, by omega, by rw [q2, eH]; omega⟩
    · have nn : ¬ sv_ch ok g M P p (sv_U ok g M P p) = -1 := by rw [h5]; exact sv_n1 (by omega)
      have : sv_nu ok g M P p (sv_U ok g M P p) = sv_su (sv_U ok g M P p) m := by
        unfold sv_nu
        rw [if_neg nn, h5, nI_clamp (by omega)]
      rw [eU, this] at q2
      rw [if_neg nn] at eH
      obtain ⟨s, s1, s2⟩ := hg p m h2
      rw [← h4, s2, q2]
      exact ⟨s + S, by omega, by omega⟩
theorem sv_heard (hM : M ≤ 6) (hP : P ≤ 10) (hg : ∀ p m, ok p m = true → ∃ s, s ≤ 306 ∧ g p m = 4096 * h p + s) : sv ok g M P P 0 / 4096 = sv_H ok g M P h P := by
  obtain ⟨S, q1, q2⟩ := sv_sum (P := P) (h := h) hM hg P 0 (by omega)
  have e : sv ok g M P P 0 = 4096 * sv_H ok g M P h P + S := q2
  rw [e]
  omega
theorem sv_U_lt (hM : M ≤ 6) : ∀ p, sv_U ok g M P p < 2 ^ M
  | 0 => Nat.two_pow_pos M
  | p + 1 => by
    have ih := sv_U_lt hM p
    show sv_nu ok g M P p (sv_U ok g M P p) < 2 ^ M
    unfold sv_nu
    rcases sv_ch_or (ok := ok) (g := g) (P := P) hM p (sv_U ok g M P p) with ⟨h1, -⟩ | ⟨m, h1, h2, h3, h4, h5⟩
    · rw [if_pos h1]; exact ih
    · rw [h5, if_neg (sv_n1 (by omega)), nI_clamp (by omega)]
      exact sv_lt M (by omega) _ ih m h1
end Best2
