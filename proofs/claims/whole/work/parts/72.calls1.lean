/-! the tape -/
theorem tp_back {n : Nat} {I A I2 A2 : Nat → Nat → Int32} {J J2 : Nat → Nat → Int64} {t t2 : Bool × Bool} {x : Int32} (h : rl_tape I A I2 A2) : px_X12_back_68 n I2 A2 J2 t2 x = px_X11_back_0 n I A J t x ∧ rl_tape (pI_X11_back_0 n I A J t x) A (pI_X12_back_68 n I2 A2 J2 t2 x) A2 := by
  obtain ⟨m, hm, h1, h2, h3⟩ := h
  unfold px_X12_back_68 px_X11_back_0 pI_X12_back_68 pI_X11_back_0 qI21_X12_back_68 qI21_X11_back_0
  rw [h1, h2]
  by_cases c1 : x < 0
  · simp only [if_pos c1]
    exact ⟨trivial, m, hm, h1, h2, h3⟩
  · simp only [if_neg c1]
    by_cases c2 : x ≤ nI m
    · obtain ⟨k, hk, rfl⟩ := nI_of c1
      have hkm : k ≤ m := (nI_leI hk (by omega)).mp c2
      have e : nI m - nI k = nI (m - k) := pk_sub hkm
      simp only [if_pos c2, cw_u_s]
      exact ⟨trivial, m - k, by omega, by rw [cw_u_s, e], by rw [cw_u_s, e], fun j hj => h3 j (by omega)⟩
    · simp only [if_neg c2]
      exact ⟨trivial, m, hm, h1, h2, h3⟩
def tp_by (x v : Int32) : Int32 := (((x >>> (v &&& 31))).toInt8.toInt32).toInt8.toInt32
def tp_is (m : Nat) (I A I2 A2 : Nat → Nat → Int32) : Prop := I 0 13 = nI m ∧ I2 68 2 = nI m ∧ ∀ j, j < m → A 32 j = A2 69 j ∧ -128 ≤ (A 32 j).toInt ∧ (A 32 j).toInt ≤ 127
theorem tp_step {m : Nat} {I A I2 A2 : Nat → Nat → Int32} (b : Int32) (hb : -128 ≤ b.toInt ∧ b.toInt ≤ 127) (h : tp_is m I A I2 A2) : tp_is (m + 1) (cw_u I 0 13 (nI (m + 1))) (cw_u A 32 m b) (cw_u I2 68 2 (nI (m + 1))) (cw_u A2 69 m b) := by
  obtain ⟨h1, h2, h3⟩ := h
  refine ⟨by rw [cw_u_s], by rw [cw_u_s], fun j hj => ?_⟩
  by_cases q : j = m
  · subst q
    rw [cw_u_s, cw_u_s]
    exact ⟨rfl, hb⟩
  · rw [cw_u_k _ _ q, cw_u_k _ _ q]
    exact h3 j (by omega)
theorem tp_lpc {n : Nat} {I A I3 A3 : Nat → Nat → Int32} {J : Nat → Nat → Int64} {t : Bool × Bool} {x v : Int32} {m f : Nat} (hm : m < 2000) (h1 : I3 0 13 = nI m) (hv : ¬ v < 0) : lp_X11_append_0_3 n I A J t x (f + 1) I3 A3 v = lp_X11_append_0_3 n I A J t x f (cw_u I3 0 13 (nI (m + 1))) (cw_u A3 32 m (tp_by x v)) (v + (-8)) ∧ (lb_X11_append_0_3 n I A J t x f (cw_u I3 0 13 (nI (m + 1))) (cw_u A3 32 m (tp_by x v)) (v + (-8)) → lb_X11_append_0_3 n I A J t x (f + 1) I3 A3 v) := by
  have c : ¬ 2000 ≤ I3 0 13 := by
    rw [h1]
    exact fun q => absurd ((nI_leI (a := 2000) (by omega) (by omega)).mp q) (by omega)
  have cl : (nI m).toNatClampNeg = m := nI_clamp (by omega)
  constructor
  · conv => lhs; unfold lp_X11_append_0_3
    rw [if_neg hv, if_neg c]
    unfold qI37_X11_append_0 qA29_X11_append_0 q40_X11_append_0
    rw [h1, nI_1, cl]; rfl
  · intro q
    unfold lb_X11_append_0_3
    intro _ _
    refine ⟨by rw [h1]; exact vp_in_nI hm (by decide), ?_⟩
    unfold qI37_X11_append_0 qA29_X11_append_0 q40_X11_append_0
    rw [h1, nI_1, cl]; exact q
theorem tp_lpr {n : Nat} {I A I3 A3 : Nat → Nat → Int32} {J : Nat → Nat → Int64} {t : Bool × Bool} {x v : Int32} {m f : Nat} (hm : m < 2000) (h1 : I3 68 2 = nI m) (hv : ¬ v < 0) : lp_X12_put_68_3 n I A J t x (f + 1) I3 A3 v = lp_X12_put_68_3 n I A J t x f (cw_u I3 68 2 (nI (m + 1))) (cw_u A3 69 m (tp_by x v)) (v + (-8)) ∧ (lb_X12_put_68_3 n I A J t x f (cw_u I3 68 2 (nI (m + 1))) (cw_u A3 69 m (tp_by x v)) (v + (-8)) → lb_X12_put_68_3 n I A J t x (f + 1) I3 A3 v) := by
  have cl : (nI m).toNatClampNeg = m := nI_clamp (by omega)
  constructor
  · conv => lhs; unfold lp_X12_put_68_3
    rw [if_neg hv]
    unfold qI27_X12_put_68 qA19_X12_put_68 q30_X12_put_68
    rw [h1, nI_1, cl]; rfl
  · intro q
    unfold lb_X12_put_68_3
    intro _
    refine ⟨by rw [h1]; exact vp_in_nI hm (by decide), ?_⟩
    unfold qI27_X12_put_68 qA19_X12_put_68 q30_X12_put_68
    rw [h1, nI_1, cl]; exact q
theorem tp_put {n : Nat} {I A I2 A2 : Nat → Nat → Int32} {J J2 : Nat → Nat → Int64} {t t2 : Bool × Bool} {x : Int32} {m : Nat} (hn : 5 ≤ n) (hm : m + 4 ≤ 2000) (h : tp_is m I A I2 A2) : pb_X11_append_0 n I A J t x ∧ pb_X12_put_68 n I2 A2 J2 t2 x ∧ tp_is (m + 4) (pI_X11_append_0 n I A J t x) (pA_X11_append_0 n I A J t x) (pI_X12_put_68 n I2 A2 J2 t2 x) (pA_X12_put_68 n I2 A2 J2 t2 x) := by
  obtain ⟨f, rfl⟩ : ∃ f, n = f + 5 := ⟨n - 5, by omega⟩
  have hb : ∀ v, -128 ≤ (tp_by x v).toInt ∧ (tp_by x v).toInt ≤ 127 := fun v => tI_byte _
  have s1 := tp_step (tp_by x 24) (hb _) h
  have s2 := tp_step (tp_by x (24 + (-8))) (hb _) s1
  have s3 := tp_step (tp_by x (24 + (-8) + (-8))) (hb _) s2
  have s4 := tp_step (tp_by x (24 + (-8) + (-8) + (-8))) (hb _) s3
  have c1 := tp_lpc (n := f + 5) (I := I) (A := A) (J := J) (t := t) (x := x) (f := f + 4) (A3 := A) (v := 24) (by omega) h.1 (by decide)
  have c2 := tp_lpc (n := f + 5) (I := I) (A := A) (J := J) (t := t) (x := x) (f := f + 3) (A3 := cw_u A 32 m (tp_by x 24)) (v := 24 + (-8)) (by omega) s1.1 (by decide)
  have c3 := tp_lpc (n := f + 5) (I := I) (A := A) (J := J) (t := t) (x := x) (f := f + 2) (A3 := cw_u (cw_u A 32 m (tp_by x 24)) 32 (m + 1) (tp_by x (24 + (-8)))) (v := 24 + (-8) + (-8)) (by omega) s2.1 (by decide)
  have c4 := tp_lpc (n := f + 5) (I := I) (A := A) (J := J) (t := t) (x := x) (f := f + 1) (A3 := cw_u (cw_u (cw_u A 32 m (tp_by x 24)) 32 (m + 1) (tp_by x (24 + (-8)))) 32 (m + 1 + 1) (tp_by x (24 + (-8) + (-8)))) (v := 24 + (-8) + (-8) + (-8)) (by omega) s3.1 (by decide)
  have r1 := tp_lpr (n := f + 5) (I := I2) (A := A2) (J := J2) (t := t2) (x := x) (f := f + 4) (A3 := A2) (v := 24) (by omega) h.2.1 (by decide)
  have r2 := tp_lpr (n := f + 5) (I := I2) (A := A2) (J := J2) (t := t2) (x := x) (f := f + 3) (A3 := cw_u A2 69 m (tp_by x 24)) (v := 24 + (-8)) (by omega) s1.2.1 (by decide)
  have r3 := tp_lpr (n := f + 5) (I := I2) (A := A2) (J := J2) (t := t2) (x := x) (f := f + 2) (A3 := cw_u (cw_u A2 69 m (tp_by x 24)) 69 (m + 1) (tp_by x (24 + (-8)))) (v := 24 + (-8) + (-8)) (by omega) s2.2.1 (by decide)
  have r4 := tp_lpr (n := f + 5) (I := I2) (A := A2) (J := J2) (t := t2) (x := x) (f := f + 1) (A3 := cw_u (cw_u (cw_u A2 69 m (tp_by x 24)) 69 (m + 1) (tp_by x (24 + (-8)))) 69 (m + 1 + 1) (tp_by x (24 + (-8) + (-8)))) (v := 24 + (-8) + (-8) + (-8)) (by omega) s3.2.1 (by decide)
  have z : (24 + (-8) + (-8) + (-8) + (-8) : Int32) < 0 := by decide
  refine ⟨c1.2 (c2.2 (c3.2 (c4.2 ?_))), r1.2 (r2.2 (r3.2 (r4.2 ?_))), ?_⟩
  · unfold lb_X11_append_0_3
    exact fun q => absurd z q
  · unfold lb_X12_put_68_3
    exact fun q => absurd z q
  · unfold pI_X11_append_0 pA_X11_append_0 pI_X12_put_68 pA_X12_put_68 qIw3_X11_append_0 qAw3_X11_append_0 qIw3_X12_put_68 qAw3_X12_put_68
    rw [c1.1, c2.1, c3.1, c4.1, r1.1, r2.1, r3.1, r4.1]
    unfold lp_X11_append_0_3 lp_X12_put_68_3
    rw [if_pos z, if_pos z]
    exact s4
theorem tp_feed {n : Nat} {I A I2 A2 : Nat → Nat → Int32} {J J2 : Nat → Nat → Int64} {t t2 : Bool × Bool} {x1 x2 x3 x4 x5 : Int32} (hn : 5 ≤ n) (h : rl_tape I A I2 A2) : pb_X11_feed_0 n I A J t x1 x2 x3 x4 x5 ∧ pb_X12_feed_68 n I2 A2 J2 t2 x1 x2 x3 x4 x5 ∧ px_X12_feed_68 n I2 A2 J2 t2 x1 x2 x3 x4 x5 = px_X11_feed_0 n I A J t x1 x2 x3 x4 x5 ∧ rl_tape (pI_X11_feed_0 n I A J t x1 x2 x3 x4 x5) (pA_X11_feed_0 n I A J t x1 x2 x3 x4 x5) (pI_X12_feed_68 n I2 A2 J2 t2 x1 x2 x3 x4 x5) (pA_X12_feed_68 n I2 A2 J2 t2 x1 x2 x3 x4 x5) := by
  obtain ⟨m, hm, h1, h2, h3⟩ := h
  have e1 : I 0 13 ≤ 1980 ↔ m ≤ 1980 := by rw [h1]; exact nI_leI (b := 1980) (by omega) (by omega)
  have e2 : I2 68 2 + 20 ≤ 2000 ↔ m ≤ 1980 := by
    rw [h2]
    have : nI m + 20 = nI (m + 20) := nI_add m 20
    rw [this]
    exact (nI_leI (b := 2000) (by omega) (by omega)).trans (by omega)
  unfold pb_X11_feed_0 pb_X12_feed_68 px_X11_feed_0 px_X12_feed_68 pI_X11_feed_0 pI_X12_feed_68 pA_X11_feed_0 pA_X12_feed_68
  by_cases c : m ≤ 1980
  · have k0 : tp_is m I A I2 A2 := ⟨h1, h2, h3⟩
    have k1 := tp_put (J := J) (J2 := J2) (t := t) (t2 := t2) (x := x1) hn (by omega) k0
    have k2 := tp_put (J := J) (J2 := J2) (t := t) (t2 := t2) (x := x2) hn (by omega) k1.2.2
    have k3 := tp_put (J := J) (J2 := J2) (t := t) (t2 := t2) (x := x3) hn (by omega) k2.2.2
    have k4 := tp_put (J := J) (J2 := J2) (t := t) (t2 := t2) (x := x4) hn (by omega) k3.2.2
    have k5 := tp_put (J := J) (J2 := J2) (t := t) (t2 := t2) (x := x5) hn (by omega) k4.2.2
    simp only [if_pos (e1.mpr c), if_pos (e2.mpr c)]
    refine ⟨fun _ => ⟨k1.1, k2.1, k3.1, k4.1, k5.1⟩, fun _ => ⟨k1.2.1, k2.2.1, k3.2.1, k4.2.1, k5.2.1⟩, ?_, ?_⟩
    · rw [k5.2.2.1, k5.2.2.2.1]
    · exact ⟨m + 4 + 4 + 4 + 4 + 4, by omega, k5.2.2⟩
  · simp only [if_neg (fun q => c (e1.mp q)), if_neg (fun q => c (e2.mp q))]
    exact ⟨fun q => absurd (e1.mp q) c, fun q => absurd (e2.mp q) c, trivial, m, hm, h1, h2, h3⟩
/-! the day, the place -/
theorem dy_clock {n : Nat} {I A I2 A2 : Nat → Nat → Int32} {J J2 : Nat → Nat → Int64} {t t2 : Bool × Bool} {x : Int32} (h : rl_day I I2) : px_X12_clock_68 n I2 A2 J2 t2 x = px_X11_clock_0 n I A J t x ∧ rl_day (pI_X11_clock_0 n I A J t x) (pI_X12_clock_68 n I2 A2 J2 t2 x) := by
  obtain ⟨d, hd, h1, h2⟩ := h
  unfold px_X12_clock_68 px_X11_clock_0 pI_X12_clock_68 pI_X11_clock_0 qI19_X12_clock_68 qI19_X11_clock_0
  rw [h1, h2]
  by_cases c1 : x < nI d
  · simp only [if_pos c1]
    exact ⟨trivial, d, hd, h1, h2⟩
  · simp only [if_neg c1]
    have x0 : ¬ x < 0 := by
      rw [tI_lt] at c1 ⊢
      rw [tI_nI (by omega)] at c1
      have : (0 : Int32).toInt = 0 := rfl
      omega
    by_cases c2 : x < 3600
    · have c3 : ¬ px_X12_isDay n I2 A2 J2 t2 x = 0 := by
        unfold px_X12_isDay qs0m1_X12_isDay qs0m8_X12_isDay
        rw [if_neg x0, if_neg (fun q => absurd c2 (Int32.not_lt.mpr q))]
        decide
      simp only [if_pos c2, if_neg c3]
      obtain ⟨k, hk, rfl⟩ := nI_of x0
      refine ⟨trivial, k, ?_, by rw [cw_u_s], by rw [cw_u_s]⟩
      exact (nI_ltI (b := 3600) hk (by omega)).mp c2
    · have c3 : px_X12_isDay n I2 A2 J2 t2 x = 0 := by
        unfold px_X12_isDay qs0m1_X12_isDay qs0m8_X12_isDay
        rw [if_neg x0, if_pos (Int32.not_lt.mp c2)]
      simp only [if_neg c2, if_pos c3]
      exact ⟨trivial, d, hd, h1, h2⟩
theorem pl_place {n : Nat} {I A I2 A2 : Nat → Nat → Int32} {J J2 : Nat → Nat → Int64} {t t2 : Bool × Bool} (h : rl_place I I2) : px_X12_place_68 n I2 A2 J2 t2 = px_X11_place_0 n I A J t := h.symm
