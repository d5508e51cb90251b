/-! slot, listeners -/
section Slots
variable {n : Nat} {I A I2 A2 : Nat → Nat → Int32} {J J2 : Nat → Nat → Int64} {t t2 : Bool × Bool}
theorem sl_ix (s i : Nat) : nI s * 10 + nI i = nI (10 * s + i) := by
  have : (10 : Int32) = nI 10 := rfl
  rw [this, pk_mul, nI_add, Nat.mul_comm]
theorem sl_ix2 (s i : Nat) : (10 : Int32) * nI s + nI i = nI (10 * s + i) := by
  have : (10 : Int32) = nI 10 := rfl
  rw [this, pk_mul, nI_add]
theorem sl_listeners {x : Int32} (h : rl_plan I A I2 A2) :
    pb_X11_listeners_0 n I A J t x ∧ pb_X12_listeners_68 n I2 A2 J2 t2 x ∧ px_X12_listeners_68 n I2 A2 J2 t2 x = px_X11_listeners_0 n I A J t x := by
  unfold pb_X11_listeners_0 pb_X12_listeners_68 px_X12_listeners_68 px_X11_listeners_0 qs0m7_X11_listeners_0 qs0m14_X11_listeners_0 qs0m4_X12_listeners_68 qs0m11_X12_listeners_68 pb_X5_listenersIn_53 px_X5_listenersIn_53
  rw [← eq_isHour (n := n) (I := I) (A := A) (J := J) (t := t)]
  rcases h with ⟨h1, h2, h3⟩ | ⟨h1, h2, m, hm, h3, h4, h5⟩
  · rw [h1, h2]
    simp only [if_true, not_true_eq_false, false_implies, true_and]
  · rw [h1, h2]
    have o1 : ¬ (1 : Int32) = 0 := by decide
    simp only [o1, if_false, not_false_eq_true, forall_const]
    by_cases c : px_X11_isHour n I A J t x = 0
    · simp only [c, if_true, not_true_eq_false, false_implies, true_and]
    · obtain ⟨k, hk, rfl⟩ := hour_of c
      have v : vp_in (nI k) 24 := vp_in_nI hk (by decide)
      have ck : (nI k).toNatClampNeg = k := nI_clamp (by omega)
      simp only [c, if_false, not_false_eq_true, forall_const]
      rw [ck]
      exact ⟨v, v, (h5 k hk).1.symm⟩
theorem sl_slot {x y z : Int32} (h : rl_plan I A I2 A2) :
    pb_X11_slot_0 n I A J t x y z ∧ pb_X12_slot_68 n I2 A2 J2 t2 x y z ∧ px_X12_slot_68 n I2 A2 J2 t2 x y z = px_X11_slot_0 n I A J t x y z := by
  have o1 : ¬ (1 : Int32) = 0 := by decide
  unfold pb_X11_slot_0 pb_X12_slot_68 px_X12_slot_68 px_X11_slot_0 qs0m58_X12_slot_68 q43_X12_slot_68
  unfold px_X5_hasProgramme_53 qs0m1_X5_hasProgramme_53 qs0m9_X5_hasProgramme_53
  rw [← eq_isHour (n := n) (I := I) (A := A) (J := J) (t := t)]
  by_cases c1 : px_X11_isHour n I A J t x = 0
  · simp only [c1, if_true, ite_self, not_true_eq_false, false_implies, implies_true, true_and]
  simp only [c1, if_false, not_false_eq_true, forall_const]
  obtain ⟨k, hk, rfl⟩ := hour_of c1
  by_cases c2 : y < 0
  · simp only [c2, if_true, ite_self, not_true_eq_false, false_implies, implies_true, true_and]
  simp only [c2, if_false, not_false_eq_true, forall_const]
  obtain ⟨p, hp, rfl⟩ := nI_of c2
  rcases h with ⟨h1, h2, h3⟩ | ⟨h1, h2, m, hm, h3, h4, h5⟩
  · have c3 : (0 : Int32) ≤ nI p := Int32.not_lt.mp c2
    rw [h2, h3]
    simp only [c3, if_true, not_true_eq_false, false_implies, true_and]
  · rw [h2, h3, h4]
    simp only [if_neg o1, o1, not_false_eq_true, forall_const]
    have e1 : nI m ≤ nI p ↔ m ≤ p := nI_leI (by omega) hp
    simp only [e1]
    by_cases c3 : m ≤ p
    · simp only [c3, if_true, if_false, ite_self, not_true_eq_false, false_implies, true_and]
    simp only [c3, if_false, not_false_eq_true, forall_const, if_neg o1, o1]
    unfold pb_X5_mastIn_53 pb_X5_bandIn_53 pb_X5_aimIn_53 pb_X5_strengthIn_53 px_X5_mastIn_53 px_X5_bandIn_53 px_X5_aimIn_53 px_X5_strengthIn_53
    have v : vp_in (nI (10 * k + p)) 240 := vp_in_nI (by omega) (by decide)
    have ck : (nI (10 * k + p)).toNatClampNeg = 10 * k + p := nI_clamp (by omega)
    rw [sl_ix, sl_ix2, ck]
    obtain ⟨w1, w2⟩ := (h5 k hk).2 p (by omega)
    refine ⟨⟨fun _ => v, fun _ => v, fun _ => v, fun _ => v⟩, fun _ _ => ⟨v, fun _ => ⟨fun _ => v, fun _ => v, fun _ => v, v⟩⟩, ?_⟩
    by_cases d0 : z = 0
    · subst d0
      rw [if_neg (by decide), if_pos (by decide), w1]
      rcases w2 with ⟨w3, w4⟩ | ⟨w3, w4⟩
      · rw [if_pos w3, if_neg (by decide), if_pos rfl, w3]
      · rw [if_neg w3, if_pos rfl, if_pos rfl]
    by_cases d1 : z = 1
    · subst d1
      rw [if_neg (by decide), if_pos (by decide)]
      rcases w2 with ⟨w3, w4⟩ | ⟨w3, w4⟩
      · rw [if_pos w3, if_neg (by decide), if_neg (by decide), if_pos rfl, w4.1]
      · rw [if_neg w3, if_neg (by decide), if_pos rfl, if_neg (by decide), if_pos rfl, w4.1]
    by_cases d2 : z = 2
    · subst d2
      rw [if_neg (by decide), if_pos (by decide)]
      rcases w2 with ⟨w3, w4⟩ | ⟨w3, w4⟩
      · rw [if_pos w3, if_neg (by decide), if_neg (by decide), if_neg (by decide), if_pos rfl, w4.2.1]
      · rw [if_neg w3, if_neg (by decide), if_neg (by decide), if_pos rfl, if_neg (by decide), if_neg (by decide), if_pos rfl, w4.2.1]
    by_cases d3 : z = 3
    · subst d3
      rw [if_neg (by decide), if_pos (by decide)]
      rcases w2 with ⟨w3, w4⟩ | ⟨w3, w4⟩
      · rw [if_pos w3, if_pos rfl, if_neg (by decide), if_neg (by decide), if_neg (by decide), if_pos rfl, w4.2.2]
      · rw [if_neg w3, if_neg (by decide), if_neg (by decide), if_neg (by decide), if_neg (by decide), if_neg (by decide), if_neg (by decide), if_pos rfl, w4.2.2]
    simp only [if_neg d0, if_neg d1, if_neg d2, if_neg d3]
    by_cases d4 : z < 0
    · rw [if_pos d4]
    rw [if_neg d4]
    by_cases d5 : z ≤ 3
    · exfalso
      obtain ⟨q, hq, rfl⟩ := nI_of d4
      have : q ≤ 3 := (nI_leI (b := 3) hq (by omega)).mp d5
      rcases Nat.lt_or_ge q 1 with u | u
      · have : q = 0 := by omega
        subst this; exact d0 rfl
      · rcases Nat.lt_or_ge q 2 with u2 | u2
        · have : q = 1 := by omega
          subst this; exact d1 rfl
        · rcases Nat.lt_or_ge q 3 with u3 | u3
          · have : q = 2 := by omega
            subst this; exact d2 rfl
          · have : q = 3 := by omega
            subst this; exact d3 rfl
    · rw [if_neg d5]
end Slots
/-! count -/
section Counts
variable {n : Nat} {I A I2 A2 : Nat → Nat → Int32} {J J2 : Nat → Nat → Int64} {t t2 : Bool × Bool}
theorem ct_count {x : Int32} {c v : Nat} (w : Int32) (h1 : rl_lands I A I2 A2) (h2 : rl_sites I A I2 A2) (h3 : rl_masts I A I2 A2) (h4 : rl_progs I A I2 A2) (h5 : rl_facts I A I2 A2) (h6 : rl_day I I2) (h7 : rl_tape I A I2 A2) (hv : v < 2) (h8 : I2 68 18 = nI v) (h9 : A2 76 v = I c 8)
    (hw : w = if x = 0 then (I 1 3) else (if x = 1 then (I 5 3) else (if x = 2 then (I 9 2) else (if x = 3 then (I 12 3) else (if x = 4 then (I 19 9) else (if x = 5 then (I c 8) else (if x = 6 then (I 0 14) else (if x = 7 then (I 0 13) else (-1))))))))) :
    pb_X12_count_68 n I2 A2 J2 t2 x ∧ px_X12_count_68 n I2 A2 J2 t2 x = w := by
  obtain ⟨⟨_, _, a1, b1⟩, _⟩ := h1
  obtain ⟨⟨_, _, a2, b2⟩, _⟩ := h2
  obtain ⟨⟨_, _, a3, b3⟩, _⟩ := h3
  obtain ⟨⟨_, _, a4, b4⟩, _⟩ := h4
  obtain ⟨⟨_, _, a5, b5, _⟩, _⟩ := h5
  obtain ⟨_, _, a6, b6⟩ := h6
  obtain ⟨_, _, a7, b7, _⟩ := h7
  have cv : (nI v).toNatClampNeg = v := nI_clamp (by omega)
  unfold pb_X12_count_68 px_X12_count_68
  rw [hw, h8, cv, h9, a1, b1, a2, b2, a3, b3, a4, b4, a5, b5, a6, b6, a7, b7]
  exact ⟨fun _ => vp_in_nI hv (by decide), rfl⟩
end Counts
