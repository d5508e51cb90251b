/-- a rule's relations, one after the other -/
theorem ty_hold37 {n : Nat} {I A0 I2 A02 A A2 : Nat → Nat → Int32} {J J2 : Nat → Nat → Int64} {t t2 : Bool × Bool} {v m r : Nat} {x q : Nat → Nat} (hn : 500 ≤ n) (hv : v < 2) (hm : m ≤ 20) (hr : r < m) (h18 : I2 68 18 = nI v) (T : ty_at 37 v m x q A A2) (hvar : ∀ j, j < 8 → A 45 j = A2 107 j) :
    ∀ (g k f f2 : Nat) (A20 A15 : Nat → Nat → Int32), k + g = q (r + 1) → q r ≤ k → (∀ c, c ≠ 44 → A20 c = A c) → (∀ c, c ≠ 108 → A15 c = A2 c) → x (q (r + 1)) + q (r + 1) < f + (x k + k) → g < f2 →
    lb_X10_relsHold_37_45_20 n I A0 J t (nI r) f A20 (nI 0) (nI (x k + k)) ∧ lb_X12_holds_68_15 n I2 A02 J2 t2 (nI r) f2 A15 (nI k) ∧ (lp_X10_relsHold_37_45_20 n I A0 J t (nI r) f A20 (nI 0) (nI (x k + k))).1 = (lp_X12_holds_68_15 n I2 A02 J2 t2 (nI r) f2 A15 (nI k)).1 := by
  obtain ⟨T1, T2, T3, T4, T5, T6, T7, T8, T9⟩ := T
  have qm : q (r + 1) ≤ q m := T3 (r + 1) m (by omega) (Nat.le_refl _)
  have xq : x (q (r + 1)) ≤ x (q m) := T4 _ _ qm (Nat.le_refl _)
  have cr : (nI r).toNatClampNeg = r := nI_clamp (by omega)
  have vr : vp_in (nI r) 20 := vp_in_nI (by omega) (by decide)
  have end1 : A 41 r = nI (x (q (r + 1)) + q (r + 1)) := (T8 r hr).1
  have end2 : A2 80 (21 * v + (r + 1)) = nI (q (r + 1)) := T7 (r + 1) (by omega)
  have ix21 : ((21 : Int32) * nI v + nI r) + 1 = nI (21 * v + (r + 1)) := by
    have : (21 : Int32) = nI 21 := rfl
    rw [this, pk_mul, nI_add, nI_1]; rfl
  have c21 : (nI (21 * v + (r + 1))).toNatClampNeg = 21 * v + (r + 1) := nI_clamp (by omega)
  have v21 : vp_in (nI (21 * v + (r + 1))) 42 := vp_in_nI (by omega) (by decide)
  have z0 : nI 0 = 0 := nI_0
  have cz : ((0 : Int32)).toNatClampNeg = 0 := by decide
  intro g
  induction g with
  | zero =>
    intro k f f2 A20 A15 hk hqk ha hb hf hf2
    obtain ⟨f, rfl⟩ : ∃ g, f = g + 1 := ⟨f - 1, by have : x k = x (q (r + 1)) := by rw [← hk]; rfl
                                                   omega⟩
    obtain ⟨f2, rfl⟩ : ∃ g, f2 = g + 1 := ⟨f2 - 1, by omega⟩
    have hk2 : k = q (r + 1) := by omega
    have c1 : A20 41 r ≤ nI (x k + k) := by
      rw [ha 41 (by decide), end1, hk2]; exact nI_le (by omega) (by omega)
    have c2 : A15 80 (21 * v + (r + 1)) ≤ nI k := by
      rw [hb 80 (by decide), end2, hk2]; exact nI_le (by omega) (by omega)
    unfold lb_X10_relsHold_37_45_20 lb_X12_holds_68_15 lp_X10_relsHold_37_45_20 lp_X12_holds_68_15
    rw [cr, h18, ix21, c21, if_pos c1, if_pos c2]
    exact ⟨⟨vr, fun z => absurd c1 z⟩, ⟨v21, fun z => absurd c2 z⟩, rfl⟩
  | succ g ih =>
    intro k f f2 A20 A15 hk hqk ha hb hf hf2
    obtain ⟨f2, rfl⟩ : ∃ g, f2 = g + 1 := ⟨f2 - 1, by omega⟩
    obtain ⟨R1, R2, ⟨y, y1, y2, R3, R4, R5⟩, R6, o, ho, R7, R8⟩ := T9 k (by omega)
    have xk1 : x (k + 1) ≤ x (q (r + 1)) := T4 _ _ (by omega) qm
    obtain ⟨F, hF⟩ : ∃ F, f = F + 1 + (x (k + 1) - y) + (y - x k) := ⟨f - 1 - (x (k + 1) - y) - (y - x k), by omega⟩
    have c1 : ∀ A20 : Nat → Nat → Int32, (∀ c, c ≠ 44 → A20 c = A c) → A20 41 r = nI (x (q (r + 1)) + q (r + 1)) := fun A20 h => by rw [h 41 (by decide), end1]
    have c2 : ¬ A15 80 (21 * v + (r + 1)) ≤ nI k := by
      rw [hb 80 (by decide), end2]; exact nI_ge (by omega) (by omega)
    have eix : ∀ A15 : Nat → Nat → Int32, q45_X12_holds_68 n I2 A02 J2 t2 (nI r) A15 (nI k) = nI (200 * v + k) := fun A15 => by
      unfold q45_X12_holds_68
      have : (200 : Int32) = nI 200 := rfl
      rw [h18, this, pk_mul, nI_add]
    have cix : (nI (200 * v + k)).toNatClampNeg = 200 * v + k := nI_clamp (by omega)
    have vix : vp_in (nI (200 * v + k)) 400 := vp_in_nI (by omega) (by decide)
    have p83 : A15 83 (200 * v + k) = nI (500 * v + x k) := by rw [hb 83 (by decide)]; exact R1
    have p84 : A15 84 (200 * v + k) = nI (500 * v + y) := by rw [hb 84 (by decide)]; exact R3
    -- the left side
    obtain ⟨A21, l1, l2, l3, l4, l5, l6⟩ := ty_seg37 (n := n) (I := I) (A := A0) (I2 := I2) (A2 := A15) (J := J) (J2 := J2) (t := t) (t2 := t2) (r := r) (e := x (q (r + 1)) + q (r + 1)) (P := 500 * v) (base := 0) (y1 := nI (500 * v + x k)) (y2 := nI (500 * v + y)) (by omega) (by omega) (by omega) (y - x k) (x k) (x k + k) 0 (F + 1 + (x (k + 1) - y)) n A20 A15
      (fun j hj => by
        have := R6 (x k + j) (by omega) (by omega)
        have e1 : x k + k + j = x k + j + k := by omega
        have e2 : 500 * v + x k + j = 500 * v + (x k + j) := by omega
        rw [e1, e2, ha 42 (by decide), ha 43 (by decide), hb 86 (by decide), hb 87 (by decide)]
        exact this)
      (by rw [hb 86 (by decide)]; exact R4) (by omega) (c1 A20 ha) (fun j hj => absurd hj (by omega)) (by omega) (fun j hj => by rw [ha 45 (by decide), hb 107 (by decide)]; exact hvar j hj) (by omega) (by congr 1; omega) (by omega)
    have ha21 : ∀ c, c ≠ 44 → A21 c = A c := fun c hc => (l3 c hc).trans (ha c hc)
    have hV1 : ∀ c, c ≠ 108 → pA_X12_value_68 n I2 A15 J2 t2 (nI (500 * v + x k)) (nI (500 * v + y)) c = A2 c := fun c hc => by
      rw [fr_pA_X12_value_68 (by simp [hc])]; exact hb c hc
    have p84' : pA_X12_value_68 n I2 A15 J2 t2 (nI (500 * v + x k)) (nI (500 * v + y)) 84 (200 * v + k) = nI (500 * v + y) := by rw [hV1 84 (by decide)]; exact R3
    have p85' : pA_X12_value_68 n I2 A15 J2 t2 (nI (500 * v + x k)) (nI (500 * v + y)) 85 (200 * v + k) = nI (500 * v + x (k + 1)) := by rw [hV1 85 (by decide)]; exact R2
    -- the right side
    obtain ⟨A22, w1, w2, w3, w4, w5, w6⟩ := ty_seg37 (n := n) (I := I) (A := A0) (I2 := I2) (A2 := pA_X12_value_68 n I2 A15 J2 t2 (nI (500 * v + x k)) (nI (500 * v + y))) (J := J) (J2 := J2) (t := t) (t2 := t2) (r := r) (e := x (q (r + 1)) + q (r + 1)) (P := 500 * v) (base := 1) (y1 := nI (500 * v + y)) (y2 := nI (500 * v + x (k + 1))) (by omega) (by omega) (by omega) (x (k + 1) - y) y (x k + k + (y - x k)) 0 (F + 1) n A21 (pA_X12_value_68 n I2 A15 J2 t2 (nI (500 * v + x k)) (nI (500 * v + y)))
      (fun j hj => by
        have := R6 (y + j) (by omega) (by omega)
        have e1 : x k + k + (y - x k) + j = y + j + k := by omega
        have e2 : 500 * v + y + j = 500 * v + (y + j) := by omega
        rw [e1, e2, ha21 42 (by decide), ha21 43 (by decide), hV1 86 (by decide), hV1 87 (by decide)]
        exact this)
      (by rw [hV1 86 (by decide)]; exact R5) (by omega) (c1 A21 ha21) (fun j hj => absurd hj (by omega)) (by omega) (fun j hj => by rw [ha21 45 (by decide), hV1 107 (by decide)]; exact hvar j hj) (by omega) (by congr 1; omega) (by omega)
    have ha22 : ∀ c, c ≠ 44 → A22 c = A c := fun c hc => (w3 c hc).trans (ha21 c hc)
    have hV2 : ∀ c, c ≠ 108 → pA_X12_value_68 n I2 (pA_X12_value_68 n I2 A15 J2 t2 (nI (500 * v + x k)) (nI (500 * v + y))) J2 t2 (nI (500 * v + y)) (nI (500 * v + x (k + 1))) c = A2 c := fun c hc => by
      rw [fr_pA_X12_value_68 (by simp [hc])]; exact hV1 c hc
    have p82 : pA_X12_value_68 n I2 (pA_X12_value_68 n I2 A15 J2 t2 (nI (500 * v + x k)) (nI (500 * v + y))) J2 t2 (nI (500 * v + y)) (nI (500 * v + x (k + 1))) 82 (200 * v + k) = nI o := by rw [hV2 82 (by decide)]; exact R7
    have E62 : q62_X12_holds_68 n I2 A02 J2 t2 (nI r) A15 (nI k) = A22 44 0 := by
      unfold q62_X12_holds_68 px_X12_value_68 qAw5_X12_value_68
      rw [eix, cix, p83, p84, cz, w5 0 (by omega), l4, z0]
    have E80 : q80_X12_holds_68 n I2 A02 J2 t2 (nI r) A15 (nI k) = A22 44 1 := by
      unfold q80_X12_holds_68
      rw [eix, cix, p83, p84, p84', p85']
      unfold px_X12_value_68 qAw5_X12_value_68
      rw [cz, w4, z0]
    have E88 : qs0m88_X12_holds_68 n I2 A02 J2 t2 (nI r) A15 (nI k) = px_X10_compares n I A22 J t (nI (7 + o)) (A22 44 0) (A22 44 1) := by
      unfold qs0m88_X12_holds_68 qs0m95_X12_holds_68 qs0m113_X12_holds_68 qs0m120_X12_holds_68 qs0m138_X12_holds_68 qs0m145_X12_holds_68 qs0m160_X12_holds_68 px_X10_compares qs0m30_X10_compares qs0m41_X10_compares qs0m52_X10_compares qs0m63_X10_compares
      rw [E62, E80, eix, cix, p83, p84, p84', p85', p82]
      have : o = 0 ∨ o = 1 ∨ o = 2 ∨ o = 3 := by omega
      rcases this with rfl | rfl | rfl | rfl
      · rw [if_pos (show nI 0 = 0 from by decide), if_pos (show nI (7 + 0) = 7 from by decide)]
      · rw [if_neg (show ¬ nI 1 = 0 from by decide), if_pos (show nI 1 = 1 from by decide), if_neg (show ¬ nI (7 + 1) = 7 from by decide), if_pos (show nI (7 + 1) = 8 from by decide)]
      · rw [if_neg (show ¬ nI 2 = 0 from by decide), if_neg (show ¬ nI 2 = 1 from by decide), if_pos (show nI 2 = 2 from by decide), if_neg (show ¬ nI (7 + 2) = 7 from by decide), if_neg (show ¬ nI (7 + 2) = 8 from by decide), if_pos (show nI (7 + 2) = 9 from by decide)]
      · rw [if_neg (show ¬ nI 3 = 0 from by decide), if_neg (show ¬ nI 3 = 1 from by decide), if_neg (show ¬ nI 3 = 2 from by decide), if_neg (show ¬ nI (7 + 3) = 7 from by decide), if_neg (show ¬ nI (7 + 3) = 8 from by decide), if_neg (show ¬ nI (7 + 3) = 9 from by decide)]
    -- the sign
    have ei : x k + k + (y - x k) + (x (k + 1) - y) = x (k + 1) + k := by omega
    have cI : (nI (x (k + 1) + k)).toNatClampNeg = x (k + 1) + k := nI_clamp (by omega)
    have vI : vp_in (nI (x (k + 1) + k)) 400 := vp_in_nI (by omega) (by decide)
    have c4 : ¬ A22 41 r ≤ nI (x (k + 1) + k) := by rw [c1 A22 ha22]; exact nI_ge (by omega) (by omega)
    have q38 : q38_X10_relsHold_37_45 n I A0 J t (nI r) A22 (nI (1 + 1)) (nI (x (k + 1) + k)) = nI (7 + o) := by
      unfold q38_X10_relsHold_37_45
      rw [cI, ha22 42 (by decide)]
      exact R8
    have e102 : q102_X10_relsHold_37_45 n I A0 J t (nI r) A22 (nI (1 + 1)) (nI (x (k + 1) + k)) = nI 1 := pk_m1 1
    have e111 : q111_X10_relsHold_37_45 n I A0 J t (nI r) A22 (nI (1 + 1)) (nI (x (k + 1) + k)) = A22 44 1 := by
      unfold q111_X10_relsHold_37_45
      rw [e102]; rfl
    have eg : nI 1 - 1 = nI 0 := nI_pred 0
    have e121 : q121_X10_relsHold_37_45 n I A0 J t (nI r) A22 (nI (1 + 1)) (nI (x (k + 1) + k)) = A22 44 0 := by
      unfold q121_X10_relsHold_37_45
      rw [e102, eg]; rfl
    have e150 : q150_X10_relsHold_37_45 n I A0 J t (nI r) A22 (nI (1 + 1)) (nI (x (k + 1) + k)) = nI 0 := by
      unfold q150_X10_relsHold_37_45
      rw [e102]; exact pk_m1 0
    have e167 : q167_X10_relsHold_37_45 n I A0 J t (nI r) A22 (nI (1 + 1)) (nI (x (k + 1) + k)) = nI (x (k + 1) + (k + 1)) := nI_1 _
    have s2 : ¬ nI (7 + o) = 2 := fun z => absurd ((nI_eq (b := 2) (by omega) (by omega)).mp z) (by omega)
    have s20 : nI (7 + o) < 20 := nI_lt (b := 20) (by omega) (by omega)
    have s7 : 7 ≤ nI (7 + o) := nI_le (a := 7) (by omega) (by omega)
    have t2' : (2 : Int32) ≤ nI (1 + 1) := nI_le (a := 2) (by omega) (by omega)
    have e177 : q177_X12_holds_68 n I2 A02 J2 t2 (nI r) A15 (nI k) = nI (k + 1) := nI_1 k
    obtain ⟨i1, i2, i3⟩ := ih (k + 1) F f2 A22 (pA_X12_value_68 n I2 (pA_X12_value_68 n I2 A15 J2 t2 (nI (500 * v + x k)) (nI (500 * v + y))) J2 t2 (nI (500 * v + y)) (nI (500 * v + x (k + 1)))) (by omega) (by omega) ha22 hV2 (by omega) (by omega)
    have v1 : vp_in (nI 1) 16 := vp_in_nI (by omega) (by decide)
    have v0 : vp_in (nI 0) 16 := vp_in_nI (by omega) (by decide)
    have v500 : vp_in 0 500 := vp_in_nI (n := 0) (by omega) (by decide)
    have LC : lp_X10_relsHold_37_45_20 n I A0 J t (nI r) f A20 (nI 0) (nI (x k + k)) = lp_X10_relsHold_37_45_20 n I A0 J t (nI r) (F + 1) A22 (nI (1 + 1)) (nI (x (k + 1) + k)) := by
      rw [hF, ← ei]
      exact l1.trans w1
    have BC : lb_X10_relsHold_37_45_20 n I A0 J t (nI r) (F + 1) A22 (nI (1 + 1)) (nI (x (k + 1) + k)) → lb_X10_relsHold_37_45_20 n I A0 J t (nI r) f A20 (nI 0) (nI (x k + k)) := by
      rw [hF, ← ei]
      exact fun z => l2 (w2 z)
    refine ⟨BC ?_, ?_, ?_⟩
    · unfold lb_X10_relsHold_37_45_20
      rw [cr, q38, e102, eg, e121, e111, e150, e167]
      exact ⟨vr, fun _ => ⟨vI, fun z => absurd z s2, fun _ => ⟨fun _ _ => ⟨v1, v0, fun _ _ => i1, fun z => absurd s7 z⟩, fun z => absurd s20 z⟩⟩⟩
    · unfold lb_X12_holds_68_15
      rw [h18, ix21, c21, eix, cix, p83, p84, p84', p85', e177]
      rw [z0] at l6 w6
      exact ⟨v21, fun _ => ⟨vix, vix, ⟨l6, v500⟩, vix, vix, ⟨w6, v500⟩, vix, fun _ => ⟨vix, fun _ => vix⟩, fun _ => i2⟩⟩
    · rw [LC]
      unfold lp_X10_relsHold_37_45_20 lp_X12_holds_68_15
      rw [cr, if_neg c4, q38, if_neg s2, if_pos s20, if_pos t2', if_pos s7, e121, e111, e150, e167, h18, ix21, c21, if_neg c2, E88, eix, cix, p83, p84, p84', p85', e177]
      by_cases z : px_X10_compares n I A22 J t (nI (7 + o)) (A22 44 0) (A22 44 1) = 0
      · rw [if_pos z, if_pos z]
      · rw [if_neg z, if_neg z]
        exact i3

/-- a rule's relations, one after the other -/
theorem ty_hold60 {n : Nat} {I A0 I2 A02 A A2 : Nat → Nat → Int32} {J J2 : Nat → Nat → Int64} {t t2 : Bool × Bool} {v m r : Nat} {x q : Nat → Nat} (hn : 500 ≤ n) (hv : v < 2) (hm : m ≤ 20) (hr : r < m) (h18 : I2 68 18 = nI v) (T : ty_at 60 v m x q A A2) (hvar : ∀ j, j < 8 → A 45 j = A2 107 j) :
    ∀ (g k f f2 : Nat) (A20 A15 : Nat → Nat → Int32), k + g = q (r + 1) → q r ≤ k → (∀ c, c ≠ 67 → A20 c = A c) → (∀ c, c ≠ 108 → A15 c = A2 c) → x (q (r + 1)) + q (r + 1) < f + (x k + k) → g < f2 →
    lb_X10_relsHold_60_45_20 n I A0 J t (nI r) f A20 (nI 0) (nI (x k + k)) ∧ lb_X12_holds_68_15 n I2 A02 J2 t2 (nI r) f2 A15 (nI k) ∧ (lp_X10_relsHold_60_45_20 n I A0 J t (nI r) f A20 (nI 0) (nI (x k + k))).1 = (lp_X12_holds_68_15 n I2 A02 J2 t2 (nI r) f2 A15 (nI k)).1 := by
  obtain ⟨T1, T2, T3, T4, T5, T6, T7, T8, T9⟩ := T
  have qm : q (r + 1) ≤ q m := T3 (r + 1) m (by omega) (Nat.le_refl _)
  have xq : x (q (r + 1)) ≤ x (q m) := T4 _ _ qm (Nat.le_refl _)
  have cr : (nI r).toNatClampNeg = r := nI_clamp (by omega)
  have vr : vp_in (nI r) 20 := vp_in_nI (by omega) (by decide)
  have end1 : A 64 r = nI (x (q (r + 1)) + q (r + 1)) := (T8 r hr).1
  have end2 : A2 80 (21 * v + (r + 1)) = nI (q (r + 1)) := T7 (r + 1) (by omega)
  have ix21 : ((21 : Int32) * nI v + nI r) + 1 = nI (21 * v + (r + 1)) := by
    have : (21 : Int32) = nI 21 := rfl
    rw [this, pk_mul, nI_add, nI_1]; rfl
  have c21 : (nI (21 * v + (r + 1))).toNatClampNeg = 21 * v + (r + 1) := nI_clamp (by omega)
  have v21 : vp_in (nI (21 * v + (r + 1))) 42 := vp_in_nI (by omega) (by decide)
  have z0 : nI 0 = 0 := nI_0
  have cz : ((0 : Int32)).toNatClampNeg = 0 := by decide
  intro g
  induction g with
  | zero =>
    intro k f f2 A20 A15 hk hqk ha hb hf hf2
    obtain ⟨f, rfl⟩ : ∃ g, f = g + 1 := ⟨f - 1, by have : x k = x (q (r + 1)) := by rw [← hk]; rfl
                                                   omega⟩
    obtain ⟨f2, rfl⟩ : ∃ g, f2 = g + 1 := ⟨f2 - 1, by omega⟩
    have hk2 : k = q (r + 1) := by omega
    have c1 : A20 64 r ≤ nI (x k + k) := by
      rw [ha 64 (by decide), end1, hk2]; exact nI_le (by omega) (by omega)
    have c2 : A15 80 (21 * v + (r + 1)) ≤ nI k := by
      rw [hb 80 (by decide), end2, hk2]; exact nI_le (by omega) (by omega)
    unfold lb_X10_relsHold_60_45_20 lb_X12_holds_68_15 lp_X10_relsHold_60_45_20 lp_X12_holds_68_15
    rw [cr, h18, ix21, c21, if_pos c1, if_pos c2]
    exact ⟨⟨vr, fun z => absurd c1 z⟩, ⟨v21, fun z => absurd c2 z⟩, rfl⟩
  | succ g ih =>
    intro k f f2 A20 A15 hk hqk ha hb hf hf2
    obtain ⟨f2, rfl⟩ : ∃ g, f2 = g + 1 := ⟨f2 - 1, by omega⟩
    obtain ⟨R1, R2, ⟨y, y1, y2, R3, R4, R5⟩, R6, o, ho, R7, R8⟩ := T9 k (by omega)
    have xk1 : x (k + 1) ≤ x (q (r + 1)) := T4 _ _ (by omega) qm
    obtain ⟨F, hF⟩ : ∃ F, f = F + 1 + (x (k + 1) - y) + (y - x k) := ⟨f - 1 - (x (k + 1) - y) - (y - x k), by omega⟩
    have c1 : ∀ A20 : Nat → Nat → Int32, (∀ c, c ≠ 67 → A20 c = A c) → A20 64 r = nI (x (q (r + 1)) + q (r + 1)) := fun A20 h => by rw [h 64 (by decide), end1]
    have c2 : ¬ A15 80 (21 * v + (r + 1)) ≤ nI k := by
      rw [hb 80 (by decide), end2]; exact nI_ge (by omega) (by omega)
    have eix : ∀ A15 : Nat → Nat → Int32, q45_X12_holds_68 n I2 A02 J2 t2 (nI r) A15 (nI k) = nI (200 * v + k) := fun A15 => by
      unfold q45_X12_holds_68
      have : (200 : Int32) = nI 200 := rfl
      rw [h18, this, pk_mul, nI_add]
    have cix : (nI (200 * v + k)).toNatClampNeg = 200 * v + k := nI_clamp (by omega)
    have vix : vp_in (nI (200 * v + k)) 400 := vp_in_nI (by omega) (by decide)
    have p83 : A15 83 (200 * v + k) = nI (500 * v + x k) := by rw [hb 83 (by decide)]; exact R1
    have p84 : A15 84 (200 * v + k) = nI (500 * v + y) := by rw [hb 84 (by decide)]; exact R3
    -- the left side
    obtain ⟨A21, l1, l2, l3, l4, l5, l6⟩ := ty_seg60 (n := n) (I := I) (A := A0) (I2 := I2) (A2 := A15) (J := J) (J2 := J2) (t := t) (t2 := t2) (r := r) (e := x (q (r + 1)) + q (r + 1)) (P := 500 * v) (base := 0) (y1 := nI (500 * v + x k)) (y2 := nI (500 * v + y)) (by omega) (by omega) (by omega) (y - x k) (x k) (x k + k) 0 (F + 1 + (x (k + 1) - y)) n A20 A15
      (fun j hj => by
        have := R6 (x k + j) (by omega) (by omega)
        have e1 : x k + k + j = x k + j + k := by omega
        have e2 : 500 * v + x k + j = 500 * v + (x k + j) := by omega
        rw [e1, e2, ha 65 (by decide), ha 66 (by decide), hb 86 (by decide), hb 87 (by decide)]
        exact this)
      (by rw [hb 86 (by decide)]; exact R4) (by omega) (c1 A20 ha) (fun j hj => absurd hj (by omega)) (by omega) (fun j hj => by rw [ha 45 (by decide), hb 107 (by decide)]; exact hvar j hj) (by omega) (by congr 1; omega) (by omega)
    have ha21 : ∀ c, c ≠ 67 → A21 c = A c := fun c hc => (l3 c hc).trans (ha c hc)
    have hV1 : ∀ c, c ≠ 108 → pA_X12_value_68 n I2 A15 J2 t2 (nI (500 * v + x k)) (nI (500 * v + y)) c = A2 c := fun c hc => by
      rw [fr_pA_X12_value_68 (by simp [hc])]; exact hb c hc
    have p84' : pA_X12_value_68 n I2 A15 J2 t2 (nI (500 * v + x k)) (nI (500 * v + y)) 84 (200 * v + k) = nI (500 * v + y) := by rw [hV1 84 (by decide)]; exact R3
    have p85' : pA_X12_value_68 n I2 A15 J2 t2 (nI (500 * v + x k)) (nI (500 * v + y)) 85 (200 * v + k) = nI (500 * v + x (k + 1)) := by rw [hV1 85 (by decide)]; exact R2
    -- the right side
    obtain ⟨A22, w1, w2, w3, w4, w5, w6⟩ := ty_seg60 (n := n) (I := I) (A := A0) (I2 := I2) (A2 := pA_X12_value_68 n I2 A15 J2 t2 (nI (500 * v + x k)) (nI (500 * v + y))) (J := J) (J2 := J2) (t := t) (t2 := t2) (r := r) (e := x (q (r + 1)) + q (r + 1)) (P := 500 * v) (base := 1) (y1 := nI (500 * v + y)) (y2 := nI (500 * v + x (k + 1))) (by omega) (by omega) (by omega) (x (k + 1) - y) y (x k + k + (y - x k)) 0 (F + 1) n A21 (pA_X12_value_68 n I2 A15 J2 t2 (nI (500 * v + x k)) (nI (500 * v + y)))
      (fun j hj => by
        have := R6 (y + j) (by omega) (by omega)
        have e1 : x k + k + (y - x k) + j = y + j + k := by omega
        have e2 : 500 * v + y + j = 500 * v + (y + j) := by omega
        rw [e1, e2, ha21 65 (by decide), ha21 66 (by decide), hV1 86 (by decide), hV1 87 (by decide)]
        exact this)
      (by rw [hV1 86 (by decide)]; exact R5) (by omega) (c1 A21 ha21) (fun j hj => absurd hj (by omega)) (by omega) (fun j hj => by rw [ha21 45 (by decide), hV1 107 (by decide)]; exact hvar j hj) (by omega) (by congr 1; omega) (by omega)
    have ha22 : ∀ c, c ≠ 67 → A22 c = A c := fun c hc => (w3 c hc).trans (ha21 c hc)
    have hV2 : ∀ c, c ≠ 108 → pA_X12_value_68 n I2 (pA_X12_value_68 n I2 A15 J2 t2 (nI (500 * v + x k)) (nI (500 * v + y))) J2 t2 (nI (500 * v + y)) (nI (500 * v + x (k + 1))) c = A2 c := fun c hc => by
      rw [fr_pA_X12_value_68 (by simp [hc])]; exact hV1 c hc
    have p82 : pA_X12_value_68 n I2 (pA_X12_value_68 n I2 A15 J2 t2 (nI (500 * v + x k)) (nI (500 * v + y))) J2 t2 (nI (500 * v + y)) (nI (500 * v + x (k + 1))) 82 (200 * v + k) = nI o := by rw [hV2 82 (by decide)]; exact R7
    have E62 : q62_X12_holds_68 n I2 A02 J2 t2 (nI r) A15 (nI k) = A22 67 0 := by
      unfold q62_X12_holds_68 px_X12_value_68 qAw5_X12_value_68
      rw [eix, cix, p83, p84, cz, w5 0 (by omega), l4, z0]
    have E80 : q80_X12_holds_68 n I2 A02 J2 t2 (nI r) A15 (nI k) = A22 67 1 := by
      unfold q80_X12_holds_68
      rw [eix, cix, p83, p84, p84', p85']
      unfold px_X12_value_68 qAw5_X12_value_68
      rw [cz, w4, z0]
    have E88 : qs0m88_X12_holds_68 n I2 A02 J2 t2 (nI r) A15 (nI k) = px_X10_compares n I A22 J t (nI (7 + o)) (A22 67 0) (A22 67 1) := by
      unfold qs0m88_X12_holds_68 qs0m95_X12_holds_68 qs0m113_X12_holds_68 qs0m120_X12_holds_68 qs0m138_X12_holds_68 qs0m145_X12_holds_68 qs0m160_X12_holds_68 px_X10_compares qs0m30_X10_compares qs0m41_X10_compares qs0m52_X10_compares qs0m63_X10_compares
      rw [E62, E80, eix, cix, p83, p84, p84', p85', p82]
      have : o = 0 ∨ o = 1 ∨ o = 2 ∨ o = 3 := by omega
      rcases this with rfl | rfl | rfl | rfl
      · rw [if_pos (show nI 0 = 0 from by decide), if_pos (show nI (7 + 0) = 7 from by decide)]
      · rw [if_neg (show ¬ nI 1 = 0 from by decide), if_pos (show nI 1 = 1 from by decide), if_neg (show ¬ nI (7 + 1) = 7 from by decide), if_pos (show nI (7 + 1) = 8 from by decide)]
      · rw [if_neg (show ¬ nI 2 = 0 from by decide), if_neg (show ¬ nI 2 = 1 from by decide), if_pos (show nI 2 = 2 from by decide), if_neg (show ¬ nI (7 + 2) = 7 from by decide), if_neg (show ¬ nI (7 + 2) = 8 from by decide), if_pos (show nI (7 + 2) = 9 from by decide)]
      · rw [if_neg (show ¬ nI 3 = 0 from by decide), if_neg (show ¬ nI 3 = 1 from by decide), if_neg (show ¬ nI 3 = 2 from by decide), if_neg (show ¬ nI (7 + 3) = 7 from by decide), if_neg (show ¬ nI (7 + 3) = 8 from by decide), if_neg (show ¬ nI (7 + 3) = 9 from by decide)]
    -- the sign
    have ei : x k + k + (y - x k) + (x (k + 1) - y) = x (k + 1) + k := by omega
    have cI : (nI (x (k + 1) + k)).toNatClampNeg = x (k + 1) + k := nI_clamp (by omega)
    have vI : vp_in (nI (x (k + 1) + k)) 400 := vp_in_nI (by omega) (by decide)
    have c4 : ¬ A22 64 r ≤ nI (x (k + 1) + k) := by rw [c1 A22 ha22]; exact nI_ge (by omega) (by omega)
    have q38 : q38_X10_relsHold_60_45 n I A0 J t (nI r) A22 (nI (1 + 1)) (nI (x (k + 1) + k)) = nI (7 + o) := by
      unfold q38_X10_relsHold_60_45
      rw [cI, ha22 65 (by decide)]
      exact R8
    have e102 : q102_X10_relsHold_60_45 n I A0 J t (nI r) A22 (nI (1 + 1)) (nI (x (k + 1) + k)) = nI 1 := pk_m1 1
    have e111 : q111_X10_relsHold_60_45 n I A0 J t (nI r) A22 (nI (1 + 1)) (nI (x (k + 1) + k)) = A22 67 1 := by
      unfold q111_X10_relsHold_60_45
      rw [e102]; rfl
    have eg : nI 1 - 1 = nI 0 := nI_pred 0
    have e121 : q121_X10_relsHold_60_45 n I A0 J t (nI r) A22 (nI (1 + 1)) (nI (x (k + 1) + k)) = A22 67 0 := by
      unfold q121_X10_relsHold_60_45
      rw [e102, eg]; rfl
    have e150 : q150_X10_relsHold_60_45 n I A0 J t (nI r) A22 (nI (1 + 1)) (nI (x (k + 1) + k)) = nI 0 := by
      unfold q150_X10_relsHold_60_45
      rw [e102]; exact pk_m1 0
    have e167 : q167_X10_relsHold_60_45 n I A0 J t (nI r) A22 (nI (1 + 1)) (nI (x (k + 1) + k)) = nI (x (k + 1) + (k + 1)) := nI_1 _
    have s2 : ¬ nI (7 + o) = 2 := fun z => absurd ((nI_eq (b := 2) (by omega) (by omega)).mp z) (by omega)
    have s20 : nI (7 + o) < 20 := nI_lt (b := 20) (by omega) (by omega)
    have s7 : 7 ≤ nI (7 + o) := nI_le (a := 7) (by omega) (by omega)
    have t2' : (2 : Int32) ≤ nI (1 + 1) := nI_le (a := 2) (by omega) (by omega)
    have e177 : q177_X12_holds_68 n I2 A02 J2 t2 (nI r) A15 (nI k) = nI (k + 1) := nI_1 k
    obtain ⟨i1, i2, i3⟩ := ih (k + 1) F f2 A22 (pA_X12_value_68 n I2 (pA_X12_value_68 n I2 A15 J2 t2 (nI (500 * v + x k)) (nI (500 * v + y))) J2 t2 (nI (500 * v + y)) (nI (500 * v + x (k + 1)))) (by omega) (by omega) ha22 hV2 (by omega) (by omega)
    have v1 : vp_in (nI 1) 16 := vp_in_nI (by omega) (by decide)
    have v0 : vp_in (nI 0) 16 := vp_in_nI (by omega) (by decide)
    have v500 : vp_in 0 500 := vp_in_nI (n := 0) (by omega) (by decide)
    have LC : lp_X10_relsHold_60_45_20 n I A0 J t (nI r) f A20 (nI 0) (nI (x k + k)) = lp_X10_relsHold_60_45_20 n I A0 J t (nI r) (F + 1) A22 (nI (1 + 1)) (nI (x (k + 1) + k)) := by
      rw [hF, ← ei]
      exact l1.trans w1
    have BC : lb_X10_relsHold_60_45_20 n I A0 J t (nI r) (F + 1) A22 (nI (1 + 1)) (nI (x (k + 1) + k)) → lb_X10_relsHold_60_45_20 n I A0 J t (nI r) f A20 (nI 0) (nI (x k + k)) := by
      rw [hF, ← ei]
      exact fun z => l2 (w2 z)
    refine ⟨BC ?_, ?_, ?_⟩
    · unfold lb_X10_relsHold_60_45_20
      rw [cr, q38, e102, eg, e121, e111, e150, e167]
      exact ⟨vr, fun _ => ⟨vI, fun z => absurd z s2, fun _ => ⟨fun _ _ => ⟨v1, v0, fun _ _ => i1, fun z => absurd s7 z⟩, fun z => absurd s20 z⟩⟩⟩
    · unfold lb_X12_holds_68_15
      rw [h18, ix21, c21, eix, cix, p83, p84, p84', p85', e177]
      rw [z0] at l6 w6
      exact ⟨v21, fun _ => ⟨vix, vix, ⟨l6, v500⟩, vix, vix, ⟨w6, v500⟩, vix, fun _ => ⟨vix, fun _ => vix⟩, fun _ => i2⟩⟩
    · rw [LC]
      unfold lp_X10_relsHold_60_45_20 lp_X12_holds_68_15
      rw [cr, if_neg c4, q38, if_neg s2, if_pos s20, if_pos t2', if_pos s7, e121, e111, e150, e167, h18, ix21, c21, if_neg c2, E88, eix, cix, p83, p84, p84', p85', e177]
      by_cases z : px_X10_compares n I A22 J t (nI (7 + o)) (A22 67 0) (A22 67 1) = 0
      · rw [if_pos z, if_pos z]
      · rw [if_neg z, if_neg z]
        exact i3
