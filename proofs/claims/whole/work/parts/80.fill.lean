/-! Arrays.fill, row by row -/
section Fills
variable {n : Nat} {I A : Nat → Nat → Int32} {J : Nat → Nat → Int64} {t : Bool × Bool}
theorem fl_lp30 {x : Int32} : ∀ (k i f : Nat) (A5 : Nat → Nat → Int32), i + k = 192 → k < f → lb_J7_fill_53178_30_5 n I A J t x f A5 (nI i) ∧ ∀ j, (lp_J7_fill_53178_30_5 n I A J t x f A5 (nI i)).1 30 j = if i ≤ j ∧ j < 192 then x else A5 30 j := by
  intro k
  induction k with
  | zero =>
    intro i f A5 hk hf
    obtain ⟨f, rfl⟩ : ∃ g, f = g + 1 := ⟨f - 1, by omega⟩
    have c : q4_J7_fill_53178_30 n I A J t x ≤ nI i := nI_le (a := 192) (by omega) (by omega)
    unfold lb_J7_fill_53178_30_5 lp_J7_fill_53178_30_5
    rw [if_pos c]
    refine ⟨fun q => absurd c q, fun j => ?_⟩
    rw [if_neg (by omega)]
  | succ k ih =>
    intro i f A5 hk hf
    obtain ⟨f, rfl⟩ : ∃ g, f = g + 1 := ⟨f - 1, by omega⟩
    have c : ¬ q4_J7_fill_53178_30 n I A J t x ≤ nI i := nI_ge (b := 192) (by omega) (by omega)
    have ci : (nI i).toNatClampNeg = i := nI_clamp (by omega)
    have e1 : qA13_J7_fill_53178_30 n I A J t x A5 (nI i) = cw_u A5 30 i x := by
      unfold qA13_J7_fill_53178_30
      rw [ci]
    have e2 : q14_J7_fill_53178_30 n I A J t x A5 (nI i) = nI (i + 1) := nI_1 i
    have r := ih (i + 1) f (cw_u A5 30 i x) (by omega) (by omega)
    unfold lb_J7_fill_53178_30_5 lp_J7_fill_53178_30_5
    rw [if_neg c, e1, e2]
    refine ⟨fun _ => ⟨vp_in_nI (by omega) (by decide), r.1⟩, fun j => ?_⟩
    rw [r.2 j]
    by_cases q : j = i
    · subst q
      rw [cw_u_s, if_neg (by omega), if_pos (by omega)]
    · rw [cw_u_k _ _ q]
      by_cases q2 : i + 1 ≤ j ∧ j < 192
      · rw [if_pos q2, if_pos (by omega)]
      · rw [if_neg q2, if_neg (by omega)]
theorem fl_30 {x : Int32} (hn : 192 < n) : pb_J7_fill_53178_30 n I A J t x ∧ ∀ j, j < 192 → pA_J7_fill_53178_30 n I A J t x 30 j = x := by
  have r := fl_lp30 (n := n) (I := I) (A := A) (J := J) (t := t) (x := x) 192 0 n A (by omega) hn
  refine ⟨r.1, fun j hj => ?_⟩
  have := r.2 j
  rw [if_pos (by omega)] at this
  exact this
theorem fl_lp31 {x : Int32} : ∀ (k i f : Nat) (A5 : Nat → Nat → Int32), i + k = 192 → k < f → lb_J7_fill_53178_31_5 n I A J t x f A5 (nI i) ∧ ∀ j, (lp_J7_fill_53178_31_5 n I A J t x f A5 (nI i)).1 31 j = if i ≤ j ∧ j < 192 then x else A5 31 j := by
  intro k
  induction k with
  | zero =>
    intro i f A5 hk hf
    obtain ⟨f, rfl⟩ : ∃ g, f = g + 1 := ⟨f - 1, by omega⟩
    have c : q4_J7_fill_53178_31 n I A J t x ≤ nI i := nI_le (a := 192) (by omega) (by omega)
    unfold lb_J7_fill_53178_31_5 lp_J7_fill_53178_31_5
    rw [if_pos c]
    refine ⟨fun q => absurd c q, fun j => ?_⟩
    rw [if_neg (by omega)]
  | succ k ih =>
    intro i f A5 hk hf
    obtain ⟨f, rfl⟩ : ∃ g, f = g + 1 := ⟨f - 1, by omega⟩
    have c : ¬ q4_J7_fill_53178_31 n I A J t x ≤ nI i := nI_ge (b := 192) (by omega) (by omega)
    have ci : (nI i).toNatClampNeg = i := nI_clamp (by omega)
    have e1 : qA13_J7_fill_53178_31 n I A J t x A5 (nI i) = cw_u A5 31 i x := by
      unfold qA13_J7_fill_53178_31
      rw [ci]
    have e2 : q14_J7_fill_53178_31 n I A J t x A5 (nI i) = nI (i + 1) := nI_1 i
    have r := ih (i + 1) f (cw_u A5 31 i x) (by omega) (by omega)
    unfold lb_J7_fill_53178_31_5 lp_J7_fill_53178_31_5
    rw [if_neg c, e1, e2]
    refine ⟨fun _ => ⟨vp_in_nI (by omega) (by decide), r.1⟩, fun j => ?_⟩
    rw [r.2 j]
    by_cases q : j = i
    · subst q
      rw [cw_u_s, if_neg (by omega), if_pos (by omega)]
    · rw [cw_u_k _ _ q]
      by_cases q2 : i + 1 ≤ j ∧ j < 192
      · rw [if_pos q2, if_pos (by omega)]
      · rw [if_neg q2, if_neg (by omega)]
theorem fl_31 {x : Int32} (hn : 192 < n) : pb_J7_fill_53178_31 n I A J t x ∧ ∀ j, j < 192 → pA_J7_fill_53178_31 n I A J t x 31 j = x := by
  have r := fl_lp31 (n := n) (I := I) (A := A) (J := J) (t := t) (x := x) 192 0 n A (by omega) hn
  refine ⟨r.1, fun j hj => ?_⟩
  have := r.2 j
  rw [if_pos (by omega)] at this
  exact this
theorem fl_lp54 {x : Int32} : ∀ (k i f : Nat) (A5 : Nat → Nat → Int32), i + k = 240 → k < f → lb_J7_fill_53178_54_5 n I A J t x f A5 (nI i) ∧ ∀ j, (lp_J7_fill_53178_54_5 n I A J t x f A5 (nI i)).1 54 j = if i ≤ j ∧ j < 240 then x else A5 54 j := by
  intro k
  induction k with
  | zero =>
    intro i f A5 hk hf
    obtain ⟨f, rfl⟩ : ∃ g, f = g + 1 := ⟨f - 1, by omega⟩
    have c : q4_J7_fill_53178_54 n I A J t x ≤ nI i := nI_le (a := 240) (by omega) (by omega)
    unfold lb_J7_fill_53178_54_5 lp_J7_fill_53178_54_5
    rw [if_pos c]
    refine ⟨fun q => absurd c q, fun j => ?_⟩
    rw [if_neg (by omega)]
  | succ k ih =>
    intro i f A5 hk hf
    obtain ⟨f, rfl⟩ : ∃ g, f = g + 1 := ⟨f - 1, by omega⟩
    have c : ¬ q4_J7_fill_53178_54 n I A J t x ≤ nI i := nI_ge (b := 240) (by omega) (by omega)
    have ci : (nI i).toNatClampNeg = i := nI_clamp (by omega)
    have e1 : qA13_J7_fill_53178_54 n I A J t x A5 (nI i) = cw_u A5 54 i x := by
      unfold qA13_J7_fill_53178_54
      rw [ci]
    have e2 : q14_J7_fill_53178_54 n I A J t x A5 (nI i) = nI (i + 1) := nI_1 i
    have r := ih (i + 1) f (cw_u A5 54 i x) (by omega) (by omega)
    unfold lb_J7_fill_53178_54_5 lp_J7_fill_53178_54_5
    rw [if_neg c, e1, e2]
    refine ⟨fun _ => ⟨vp_in_nI (by omega) (by decide), r.1⟩, fun j => ?_⟩
    rw [r.2 j]
    by_cases q : j = i
    · subst q
      rw [cw_u_s, if_neg (by omega), if_pos (by omega)]
    · rw [cw_u_k _ _ q]
      by_cases q2 : i + 1 ≤ j ∧ j < 240
      · rw [if_pos q2, if_pos (by omega)]
      · rw [if_neg q2, if_neg (by omega)]
theorem fl_54 {x : Int32} (hn : 240 < n) : pb_J7_fill_53178_54 n I A J t x ∧ ∀ j, j < 240 → pA_J7_fill_53178_54 n I A J t x 54 j = x := by
  have r := fl_lp54 (n := n) (I := I) (A := A) (J := J) (t := t) (x := x) 240 0 n A (by omega) hn
  refine ⟨r.1, fun j hj => ?_⟩
  have := r.2 j
  rw [if_pos (by omega)] at this
  exact this
theorem fl_lp55 {x : Int32} : ∀ (k i f : Nat) (A5 : Nat → Nat → Int32), i + k = 240 → k < f → lb_J7_fill_53178_55_5 n I A J t x f A5 (nI i) ∧ ∀ j, (lp_J7_fill_53178_55_5 n I A J t x f A5 (nI i)).1 55 j = if i ≤ j ∧ j < 240 then x else A5 55 j := by
  intro k
  induction k with
  | zero =>
    intro i f A5 hk hf
    obtain ⟨f, rfl⟩ : ∃ g, f = g + 1 := ⟨f - 1, by omega⟩
    have c : q4_J7_fill_53178_55 n I A J t x ≤ nI i := nI_le (a := 240) (by omega) (by omega)
    unfold lb_J7_fill_53178_55_5 lp_J7_fill_53178_55_5
    rw [if_pos c]
    refine ⟨fun q => absurd c q, fun j => ?_⟩
    rw [if_neg (by omega)]
  | succ k ih =>
    intro i f A5 hk hf
    obtain ⟨f, rfl⟩ : ∃ g, f = g + 1 := ⟨f - 1, by omega⟩
    have c : ¬ q4_J7_fill_53178_55 n I A J t x ≤ nI i := nI_ge (b := 240) (by omega) (by omega)
    have ci : (nI i).toNatClampNeg = i := nI_clamp (by omega)
    have e1 : qA13_J7_fill_53178_55 n I A J t x A5 (nI i) = cw_u A5 55 i x := by
      unfold qA13_J7_fill_53178_55
      rw [ci]
    have e2 : q14_J7_fill_53178_55 n I A J t x A5 (nI i) = nI (i + 1) := nI_1 i
    have r := ih (i + 1) f (cw_u A5 55 i x) (by omega) (by omega)
    unfold lb_J7_fill_53178_55_5 lp_J7_fill_53178_55_5
    rw [if_neg c, e1, e2]
    refine ⟨fun _ => ⟨vp_in_nI (by omega) (by decide), r.1⟩, fun j => ?_⟩
    rw [r.2 j]
    by_cases q : j = i
    · subst q
      rw [cw_u_s, if_neg (by omega), if_pos (by omega)]
    · rw [cw_u_k _ _ q]
      by_cases q2 : i + 1 ≤ j ∧ j < 240
      · rw [if_pos q2, if_pos (by omega)]
      · rw [if_neg q2, if_neg (by omega)]
theorem fl_55 {x : Int32} (hn : 240 < n) : pb_J7_fill_53178_55 n I A J t x ∧ ∀ j, j < 240 → pA_J7_fill_53178_55 n I A J t x 55 j = x := by
  have r := fl_lp55 (n := n) (I := I) (A := A) (J := J) (t := t) (x := x) 240 0 n A (by omega) hn
  refine ⟨r.1, fun j hj => ?_⟩
  have := r.2 j
  rw [if_pos (by omega)] at this
  exact this
theorem fl_lp56 {x : Int32} : ∀ (k i f : Nat) (A5 : Nat → Nat → Int32), i + k = 240 → k < f → lb_J7_fill_53178_56_5 n I A J t x f A5 (nI i) ∧ ∀ j, (lp_J7_fill_53178_56_5 n I A J t x f A5 (nI i)).1 56 j = if i ≤ j ∧ j < 240 then x else A5 56 j := by
  intro k
  induction k with
  | zero =>
    intro i f A5 hk hf
    obtain ⟨f, rfl⟩ : ∃ g, f = g + 1 := ⟨f - 1, by omega⟩
    have c : q4_J7_fill_53178_56 n I A J t x ≤ nI i := nI_le (a := 240) (by omega) (by omega)
    unfold lb_J7_fill_53178_56_5 lp_J7_fill_53178_56_5
    rw [if_pos c]
    refine ⟨fun q => absurd c q, fun j => ?_⟩
    rw [if_neg (by omega)]
  | succ k ih =>
    intro i f A5 hk hf
    obtain ⟨f, rfl⟩ : ∃ g, f = g + 1 := ⟨f - 1, by omega⟩
    have c : ¬ q4_J7_fill_53178_56 n I A J t x ≤ nI i := nI_ge (b := 240) (by omega) (by omega)
    have ci : (nI i).toNatClampNeg = i := nI_clamp (by omega)
    have e1 : qA13_J7_fill_53178_56 n I A J t x A5 (nI i) = cw_u A5 56 i x := by
      unfold qA13_J7_fill_53178_56
      rw [ci]
    have e2 : q14_J7_fill_53178_56 n I A J t x A5 (nI i) = nI (i + 1) := nI_1 i
    have r := ih (i + 1) f (cw_u A5 56 i x) (by omega) (by omega)
    unfold lb_J7_fill_53178_56_5 lp_J7_fill_53178_56_5
    rw [if_neg c, e1, e2]
    refine ⟨fun _ => ⟨vp_in_nI (by omega) (by decide), r.1⟩, fun j => ?_⟩
    rw [r.2 j]
    by_cases q : j = i
    · subst q
      rw [cw_u_s, if_neg (by omega), if_pos (by omega)]
    · rw [cw_u_k _ _ q]
      by_cases q2 : i + 1 ≤ j ∧ j < 240
      · rw [if_pos q2, if_pos (by omega)]
      · rw [if_neg q2, if_neg (by omega)]
theorem fl_56 {x : Int32} (hn : 240 < n) : pb_J7_fill_53178_56 n I A J t x ∧ ∀ j, j < 240 → pA_J7_fill_53178_56 n I A J t x 56 j = x := by
  have r := fl_lp56 (n := n) (I := I) (A := A) (J := J) (t := t) (x := x) 240 0 n A (by omega) hn
  refine ⟨r.1, fun j hj => ?_⟩
  have := r.2 j
  rw [if_pos (by omega)] at this
  exact this
theorem fl_lp57 {x : Int32} : ∀ (k i f : Nat) (A5 : Nat → Nat → Int32), i + k = 240 → k < f → lb_J7_fill_53178_57_5 n I A J t x f A5 (nI i) ∧ ∀ j, (lp_J7_fill_53178_57_5 n I A J t x f A5 (nI i)).1 57 j = if i ≤ j ∧ j < 240 then x else A5 57 j := by
  intro k
  induction k with
  | zero =>
    intro i f A5 hk hf
    obtain ⟨f, rfl⟩ : ∃ g, f = g + 1 := ⟨f - 1, by omega⟩
    have c : q4_J7_fill_53178_57 n I A J t x ≤ nI i := nI_le (a := 240) (by omega) (by omega)
    unfold lb_J7_fill_53178_57_5 lp_J7_fill_53178_57_5
    rw [if_pos c]
    refine ⟨fun q => absurd c q, fun j => ?_⟩
    rw [if_neg (by omega)]
  | succ k ih =>
    intro i f A5 hk hf
    obtain ⟨f, rfl⟩ : ∃ g, f = g + 1 := ⟨f - 1, by omega⟩
    have c : ¬ q4_J7_fill_53178_57 n I A J t x ≤ nI i := nI_ge (b := 240) (by omega) (by omega)
    have ci : (nI i).toNatClampNeg = i := nI_clamp (by omega)
    have e1 : qA13_J7_fill_53178_57 n I A J t x A5 (nI i) = cw_u A5 57 i x := by
      unfold qA13_J7_fill_53178_57
      rw [ci]
    have e2 : q14_J7_fill_53178_57 n I A J t x A5 (nI i) = nI (i + 1) := nI_1 i
    have r := ih (i + 1) f (cw_u A5 57 i x) (by omega) (by omega)
    unfold lb_J7_fill_53178_57_5 lp_J7_fill_53178_57_5
    rw [if_neg c, e1, e2]
    refine ⟨fun _ => ⟨vp_in_nI (by omega) (by decide), r.1⟩, fun j => ?_⟩
    rw [r.2 j]
    by_cases q : j = i
    · subst q
      rw [cw_u_s, if_neg (by omega), if_pos (by omega)]
    · rw [cw_u_k _ _ q]
      by_cases q2 : i + 1 ≤ j ∧ j < 240
      · rw [if_pos q2, if_pos (by omega)]
      · rw [if_neg q2, if_neg (by omega)]
theorem fl_57 {x : Int32} (hn : 240 < n) : pb_J7_fill_53178_57 n I A J t x ∧ ∀ j, j < 240 → pA_J7_fill_53178_57 n I A J t x 57 j = x := by
  have r := fl_lp57 (n := n) (I := I) (A := A) (J := J) (t := t) (x := x) 240 0 n A (by omega) hn
  refine ⟨r.1, fun j hj => ?_⟩
  have := r.2 j
  rw [if_pos (by omega)] at this
  exact this
theorem fl_lp58 {x : Int32} : ∀ (k i f : Nat) (A5 : Nat → Nat → Int32), i + k = 144 → k < f → lb_J7_fill_53178_58_5 n I A J t x f A5 (nI i) ∧ ∀ j, (lp_J7_fill_53178_58_5 n I A J t x f A5 (nI i)).1 58 j = if i ≤ j ∧ j < 144 then x else A5 58 j := by
  intro k
  induction k with
  | zero =>
    intro i f A5 hk hf
    obtain ⟨f, rfl⟩ : ∃ g, f = g + 1 := ⟨f - 1, by omega⟩
    have c : q4_J7_fill_53178_58 n I A J t x ≤ nI i := nI_le (a := 144) (by omega) (by omega)
    unfold lb_J7_fill_53178_58_5 lp_J7_fill_53178_58_5
    rw [if_pos c]
    refine ⟨fun q => absurd c q, fun j => ?_⟩
    rw [if_neg (by omega)]
  | succ k ih =>
    intro i f A5 hk hf
    obtain ⟨f, rfl⟩ : ∃ g, f = g + 1 := ⟨f - 1, by omega⟩
    have c : ¬ q4_J7_fill_53178_58 n I A J t x ≤ nI i := nI_ge (b := 144) (by omega) (by omega)
    have ci : (nI i).toNatClampNeg = i := nI_clamp (by omega)
    have e1 : qA13_J7_fill_53178_58 n I A J t x A5 (nI i) = cw_u A5 58 i x := by
      unfold qA13_J7_fill_53178_58
      rw [ci]
    have e2 : q14_J7_fill_53178_58 n I A J t x A5 (nI i) = nI (i + 1) := nI_1 i
    have r := ih (i + 1) f (cw_u A5 58 i x) (by omega) (by omega)
    unfold lb_J7_fill_53178_58_5 lp_J7_fill_53178_58_5
    rw [if_neg c, e1, e2]
    refine ⟨fun _ => ⟨vp_in_nI (by omega) (by decide), r.1⟩, fun j => ?_⟩
    rw [r.2 j]
    by_cases q : j = i
    · subst q
      rw [cw_u_s, if_neg (by omega), if_pos (by omega)]
    · rw [cw_u_k _ _ q]
      by_cases q2 : i + 1 ≤ j ∧ j < 144
      · rw [if_pos q2, if_pos (by omega)]
      · rw [if_neg q2, if_neg (by omega)]
theorem fl_58 {x : Int32} (hn : 144 < n) : pb_J7_fill_53178_58 n I A J t x ∧ ∀ j, j < 144 → pA_J7_fill_53178_58 n I A J t x 58 j = x := by
  have r := fl_lp58 (n := n) (I := I) (A := A) (J := J) (t := t) (x := x) 144 0 n A (by omega) hn
  refine ⟨r.1, fun j hj => ?_⟩
  have := r.2 j
  rw [if_pos (by omega)] at this
  exact this
theorem fl_lp59 {x : Int32} : ∀ (k i f : Nat) (A5 : Nat → Nat → Int32), i + k = 24 → k < f → lb_J7_fill_53178_59_5 n I A J t x f A5 (nI i) ∧ ∀ j, (lp_J7_fill_53178_59_5 n I A J t x f A5 (nI i)).1 59 j = if i ≤ j ∧ j < 24 then x else A5 59 j := by
  intro k
  induction k with
  | zero =>
    intro i f A5 hk hf
    obtain ⟨f, rfl⟩ : ∃ g, f = g + 1 := ⟨f - 1, by omega⟩
    have c : q4_J7_fill_53178_59 n I A J t x ≤ nI i := nI_le (a := 24) (by omega) (by omega)
    unfold lb_J7_fill_53178_59_5 lp_J7_fill_53178_59_5
    rw [if_pos c]
    refine ⟨fun q => absurd c q, fun j => ?_⟩
    rw [if_neg (by omega)]
  | succ k ih =>
    intro i f A5 hk hf
    obtain ⟨f, rfl⟩ : ∃ g, f = g + 1 := ⟨f - 1, by omega⟩
    have c : ¬ q4_J7_fill_53178_59 n I A J t x ≤ nI i := nI_ge (b := 24) (by omega) (by omega)
    have ci : (nI i).toNatClampNeg = i := nI_clamp (by omega)
    have e1 : qA13_J7_fill_53178_59 n I A J t x A5 (nI i) = cw_u A5 59 i x := by
      unfold qA13_J7_fill_53178_59
      rw [ci]
    have e2 : q14_J7_fill_53178_59 n I A J t x A5 (nI i) = nI (i + 1) := nI_1 i
    have r := ih (i + 1) f (cw_u A5 59 i x) (by omega) (by omega)
    unfold lb_J7_fill_53178_59_5 lp_J7_fill_53178_59_5
    rw [if_neg c, e1, e2]
    refine ⟨fun _ => ⟨vp_in_nI (by omega) (by decide), r.1⟩, fun j => ?_⟩
    rw [r.2 j]
    by_cases q : j = i
    · subst q
      rw [cw_u_s, if_neg (by omega), if_pos (by omega)]
    · rw [cw_u_k _ _ q]
      by_cases q2 : i + 1 ≤ j ∧ j < 24
      · rw [if_pos q2, if_pos (by omega)]
      · rw [if_neg q2, if_neg (by omega)]
theorem fl_59 {x : Int32} (hn : 24 < n) : pb_J7_fill_53178_59 n I A J t x ∧ ∀ j, j < 24 → pA_J7_fill_53178_59 n I A J t x 59 j = x := by
  have r := fl_lp59 (n := n) (I := I) (A := A) (J := J) (t := t) (x := x) 24 0 n A (by omega) hn
  refine ⟨r.1, fun j hj => ?_⟩
  have := r.2 j
  rw [if_pos (by omega)] at this
  exact this
theorem fl_lp47 {x : Int32} : ∀ (k i f : Nat) (A5 : Nat → Nat → Int32), i + k = 60 → k < f → lb_J7_fill_53178_47_5 n I A J t x f A5 (nI i) ∧ ∀ j, (lp_J7_fill_53178_47_5 n I A J t x f A5 (nI i)).1 47 j = if i ≤ j ∧ j < 60 then x else A5 47 j := by
  intro k
  induction k with
  | zero =>
    intro i f A5 hk hf
    obtain ⟨f, rfl⟩ : ∃ g, f = g + 1 := ⟨f - 1, by omega⟩
    have c : q4_J7_fill_53178_47 n I A J t x ≤ nI i := nI_le (a := 60) (by omega) (by omega)
    unfold lb_J7_fill_53178_47_5 lp_J7_fill_53178_47_5
    rw [if_pos c]
    refine ⟨fun q => absurd c q, fun j => ?_⟩
    rw [if_neg (by omega)]
  | succ k ih =>
    intro i f A5 hk hf
    obtain ⟨f, rfl⟩ : ∃ g, f = g + 1 := ⟨f - 1, by omega⟩
    have c : ¬ q4_J7_fill_53178_47 n I A J t x ≤ nI i := nI_ge (b := 60) (by omega) (by omega)
    have ci : (nI i).toNatClampNeg = i := nI_clamp (by omega)
    have e1 : qA13_J7_fill_53178_47 n I A J t x A5 (nI i) = cw_u A5 47 i x := by
      unfold qA13_J7_fill_53178_47
      rw [ci]
    have e2 : q14_J7_fill_53178_47 n I A J t x A5 (nI i) = nI (i + 1) := nI_1 i
    have r := ih (i + 1) f (cw_u A5 47 i x) (by omega) (by omega)
    unfold lb_J7_fill_53178_47_5 lp_J7_fill_53178_47_5
    rw [if_neg c, e1, e2]
    refine ⟨fun _ => ⟨vp_in_nI (by omega) (by decide), r.1⟩, fun j => ?_⟩
    rw [r.2 j]
    by_cases q : j = i
    · subst q
      rw [cw_u_s, if_neg (by omega), if_pos (by omega)]
    · rw [cw_u_k _ _ q]
      by_cases q2 : i + 1 ≤ j ∧ j < 60
      · rw [if_pos q2, if_pos (by omega)]
      · rw [if_neg q2, if_neg (by omega)]
theorem fl_47 {x : Int32} (hn : 60 < n) : pb_J7_fill_53178_47 n I A J t x ∧ ∀ j, j < 60 → pA_J7_fill_53178_47 n I A J t x 47 j = x := by
  have r := fl_lp47 (n := n) (I := I) (A := A) (J := J) (t := t) (x := x) 60 0 n A (by omega) hn
  refine ⟨r.1, fun j hj => ?_⟩
  have := r.2 j
  rw [if_pos (by omega)] at this
  exact this
theorem fl_lp50 {x : Int32} : ∀ (k i f : Nat) (A5 : Nat → Nat → Int32), i + k = 10 → k < f → lb_J7_fill_53178_50_5 n I A J t x f A5 (nI i) ∧ ∀ j, (lp_J7_fill_53178_50_5 n I A J t x f A5 (nI i)).1 50 j = if i ≤ j ∧ j < 10 then x else A5 50 j := by
  intro k
  induction k with
  | zero =>
    intro i f A5 hk hf
    obtain ⟨f, rfl⟩ : ∃ g, f = g + 1 := ⟨f - 1, by omega⟩
    have c : q4_J7_fill_53178_50 n I A J t x ≤ nI i := nI_le (a := 10) (by omega) (by omega)
    unfold lb_J7_fill_53178_50_5 lp_J7_fill_53178_50_5
    rw [if_pos c]
    refine ⟨fun q => absurd c q, fun j => ?_⟩
    rw [if_neg (by omega)]
  | succ k ih =>
    intro i f A5 hk hf
    obtain ⟨f, rfl⟩ : ∃ g, f = g + 1 := ⟨f - 1, by omega⟩
    have c : ¬ q4_J7_fill_53178_50 n I A J t x ≤ nI i := nI_ge (b := 10) (by omega) (by omega)
    have ci : (nI i).toNatClampNeg = i := nI_clamp (by omega)
    have e1 : qA13_J7_fill_53178_50 n I A J t x A5 (nI i) = cw_u A5 50 i x := by
      unfold qA13_J7_fill_53178_50
      rw [ci]
    have e2 : q14_J7_fill_53178_50 n I A J t x A5 (nI i) = nI (i + 1) := nI_1 i
    have r := ih (i + 1) f (cw_u A5 50 i x) (by omega) (by omega)
    unfold lb_J7_fill_53178_50_5 lp_J7_fill_53178_50_5
    rw [if_neg c, e1, e2]
    refine ⟨fun _ => ⟨vp_in_nI (by omega) (by decide), r.1⟩, fun j => ?_⟩
    rw [r.2 j]
    by_cases q : j = i
    · subst q
      rw [cw_u_s, if_neg (by omega), if_pos (by omega)]
    · rw [cw_u_k _ _ q]
      by_cases q2 : i + 1 ≤ j ∧ j < 10
      · rw [if_pos q2, if_pos (by omega)]
      · rw [if_neg q2, if_neg (by omega)]
theorem fl_50 {x : Int32} (hn : 10 < n) : pb_J7_fill_53178_50 n I A J t x ∧ ∀ j, j < 10 → pA_J7_fill_53178_50 n I A J t x 50 j = x := by
  have r := fl_lp50 (n := n) (I := I) (A := A) (J := J) (t := t) (x := x) 10 0 n A (by omega) hn
  refine ⟨r.1, fun j hj => ?_⟩
  have := r.2 j
  rw [if_pos (by omega)] at this
  exact this
end Fills
