/-! the class's parser: signs, faults, the loop, draft 60 -/
section Rf60
variable {n : Nat} {I A : Nat → Nat → Int32} {J : Nat → Nat → Int64} {t : Bool × Bool} {x : Int32}
def tk_H_60 (n : Nat) (I A : Nat → Nat → Int32) (x s : Int32) (w σ j : Nat) : Prop := 2100 ≤ n ∧ I 33 4 = 8 ∧ I 33 3 = nI w ∧ I 60 7 = nI σ ∧ w ≤ 22 ∧ σ + j ≤ 400 ∧ j ≤ w ∧ (∀ i, i < j → ¬ rkk (A 36 (w - 1 - i)) < lea x) ∧ (j = w ∨ rkk (A 36 (w - 1 - j)) < lea x)
theorem tk_sg_60 {s : Int32} {w σ j : Nat} (H : tk_H_60 n I A x s w σ j) (hb : px_X4_stateBehind_33 n I A J (true, t.2) x = s) :
    pb_X4_release_33_tTx n (cw_u I 33 4 s) A J (true, t.2) x ∧ pI_X4_release_33_tTx n (cw_u I 33 4 s) A J (true, t.2) x = cw_u (cw_u (cw_u I 33 4 s) 60 7 (nI (σ + j))) 33 3 (nI (w - j)) ∧ rf 60 w σ j A (pA_X4_release_33_tTx n (cw_u I 33 4 s) A J (true, t.2) x) ∧
    qIm15_X4_take_33_tTx n I A J t x = pI_X4_takeSign_33_tTx n (cw_u I 33 4 s) A J (true, t.2) x ∧ qAm15_X4_take_33_tTx n I A J t x = pA_X4_takeSign_33_tTx n (cw_u I 33 4 s) A J (true, t.2) x ∧ (pb_X4_takeSign_33_tTx n (cw_u I 33 4 s) A J (true, t.2) x → ¬ x = 3 → pb_X4_take_33_tTx n I A J t x) := by
  obtain ⟨hn, hs, h3, h7, hw, hs4, hj, hp, hst⟩ := H
  have r := tr_60 (n := n) (I := cw_u I 33 4 s) (A := A) (J := J) (t := (true, t.2)) (x := x) (le := lea x) hn (by rw [cu_n (by simp)]; exact h3) (by rw [cu_n (by simp)]; exact h7) hw hs4 hj rfl hp hst
  refine ⟨r.1, r.2.1, r.2.2, ?_, ?_, ?_⟩
  · unfold qIm15_X4_take_33_tTx qIm28_X4_take_33_tTx qIm47_X4_take_33_tTx qIm60_X4_take_33_tTx qIm74_X4_take_33_tTx qI11_X4_take_33_tTx q4_X4_take_33_tTx
    rw [hb, hs]; simp
  · unfold qAm15_X4_take_33_tTx qAm28_X4_take_33_tTx qAm47_X4_take_33_tTx qAm60_X4_take_33_tTx qAm74_X4_take_33_tTx qI11_X4_take_33_tTx q4_X4_take_33_tTx
    rw [hb, hs]; simp
  · intro a b
    unfold pb_X4_take_33_tTx q4_X4_take_33_tTx qI11_X4_take_33_tTx
    rw [hb, hs]
    simp [a, b]
theorem tk_close_60 {s : Int32} {w σ j d : Nat} (H : tk_H_60 n I A 12 s w σ j) (hb : px_X4_stateBehind_33 n I A J (true, t.2) 12 = s) (h1 : 1 ≤ w - j) (h5 : I 33 5 = nI (d + 1)) : ∃ A1, rf 60 w σ j A A1 ∧ pb_X4_take_33_tTx n I A J t 12 ∧ pI_X4_take_33_tTx n I A J t 12 = cw_u (cw_u (cw_u (cw_u (cw_u I 33 4 s) 60 7 (nI (σ + j))) 33 3 (nI (w - j))) 33 5 (nI d)) 33 3 (nI (w - j - 1)) ∧ pA_X4_take_33_tTx n I A J t 12 = A1 := by
  obtain ⟨r1, r2, r3, r4, r5, r6⟩ := tk_sg_60 (J := J) (t := t) H hb
  refine ⟨_, r3, r6 ?_ (by decide), ?_, ?_⟩
  · exact ⟨r1, fun z => absurd rfl z⟩
  · unfold pI_X4_take_33_tTx qIm84_X4_take_33_tTx
    rw [if_neg (by decide), r4]
    unfold pI_X4_takeSign_33_tTx qIm8_X4_takeSign_33_tTx
    rw [if_pos rfl]
    unfold qI32_X4_takeSign_33_tTx qI18_X4_takeSign_33_tTx px_J9_max_7cf53 qs0m2_J9_max_7cf53
    rw [r2, cu_n (a := 33) (b := 3) (by simp), cu_s, cu_n (a := 33) (b := 5) (by simp), cu_n (a := 33) (b := 5) (by simp), cu_n (a := 33) (b := 5) (by simp), h5, nI_pred, nI_pr h1]
    have z : ¬ nI (w - j - 1) < 0 := nI_nlt (b := 0) (by omega) (by have := H.2.2.2.2.1; omega)
    rw [if_neg z]
  · unfold pA_X4_take_33_tTx qAm84_X4_take_33_tTx
    rw [if_neg (by decide), r5]
    unfold pA_X4_takeSign_33_tTx qAm8_X4_takeSign_33_tTx
    rw [if_pos rfl]
theorem tk_and_60 {s : Int32} {w σ j : Nat} (H : tk_H_60 n I A 19 s w σ j) (hb : px_X4_stateBehind_33 n I A J (true, t.2) 19 = s) : ∃ A1, rf 60 w σ j A A1 ∧ pb_X4_take_33_tTx n I A J t 19 ∧ pI_X4_take_33_tTx n I A J t 19 = cw_u (cw_u (cw_u (cw_u I 33 4 s) 60 7 (nI (σ + j))) 33 3 (nI (w - j))) 33 6 0 ∧ pA_X4_take_33_tTx n I A J t 19 = A1 := by
  obtain ⟨r1, r2, r3, r4, r5, r6⟩ := tk_sg_60 (J := J) (t := t) H hb
  refine ⟨_, r3, r6 ?_ (by decide), ?_, ?_⟩
  · exact ⟨r1, fun _ z => absurd rfl z⟩
  · unfold pI_X4_take_33_tTx qIm84_X4_take_33_tTx
    rw [if_neg (by decide), r4]
    unfold pI_X4_takeSign_33_tTx qIm8_X4_takeSign_33_tTx qIm41_X4_takeSign_33_tTx qI46_X4_takeSign_33_tTx
    rw [if_neg (by decide), if_pos rfl, r2]
  · unfold pA_X4_take_33_tTx qAm84_X4_take_33_tTx
    rw [if_neg (by decide), r5]
    unfold pA_X4_takeSign_33_tTx qAm8_X4_takeSign_33_tTx qAm41_X4_takeSign_33_tTx
    rw [if_neg (by decide), if_pos rfl]
theorem tk_end_60 {s : Int32} {w σ j z : Nat} (H : tk_H_60 n I A 3 s w σ j) (hb : px_X4_stateBehind_33 n I A J (true, t.2) 3 = s) (h8 : I 60 8 = nI z) (hz : z < 20) (h7 : I 33 7 = 0 ∨ I 33 7 = 1) : ∃ A1, rf 60 w σ j A A1 ∧ pb_X4_take_33_tTx n I A J t 3 ∧ pI_X4_take_33_tTx n I A J t 3 = cw_u (cw_u (cw_u (cw_u I 33 4 s) 60 7 (nI (σ + j))) 33 3 (nI (w - j))) 60 8 (nI (z + 1)) ∧ pA_X4_take_33_tTx n I A J t 3 = cw_u (cw_u (cw_u (cw_u A1 61 z (I 33 7)) 62 z (I 33 8)) 63 z (I 33 9)) 64 z (nI (σ + j)) := by
  obtain ⟨r1, r2, r3, r4, r5, r6⟩ := tk_sg_60 (J := J) (t := t) H hb
  have e1 : qIm15_X4_take_33_tTx n I A J t 3 = cw_u (cw_u (cw_u I 33 4 s) 60 7 (nI (σ + j))) 33 3 (nI (w - j)) := by
    rw [r4]
    unfold pI_X4_takeSign_33_tTx qIm8_X4_takeSign_33_tTx qIm41_X4_takeSign_33_tTx qIm54_X4_takeSign_33_tTx
    rw [if_neg (by decide), if_neg (by decide), if_pos rfl, r2]
  have e2 : qAm15_X4_take_33_tTx n I A J t 3 = pA_X4_release_33_tTx n (cw_u I 33 4 s) A J (true, t.2) 3 := by
    rw [r5]
    unfold pA_X4_takeSign_33_tTx qAm8_X4_takeSign_33_tTx qAm41_X4_takeSign_33_tTx qAm54_X4_takeSign_33_tTx
    rw [if_neg (by decide), if_neg (by decide), if_pos rfl]
  have r := ar_60 (n := n) (I := cw_u (cw_u (cw_u I 33 4 s) 60 7 (nI (σ + j))) 33 3 (nI (w - j))) (A := pA_X4_release_33_tTx n (cw_u I 33 4 s) A J (true, t.2) 3) (J := J) (t := (true, t.2)) (z := z) (a := I 33 7) (b := I 33 8) (c := I 33 9) (by rw [cu_n (by simp), cu_n (by simp), cu_n (by simp)]; exact h8) hz h7
  rw [cu_n (a := 60) (b := 7) (by simp), cu_s] at r
  have f7 : ∀ q, q = 7 ∨ q = 8 ∨ q = 9 → cw_u (cw_u (cw_u I 33 4 s) 60 7 (nI (σ + j))) 33 3 (nI (w - j)) 33 q = I 33 q := by
    intro q hq
    rw [cu_n (by omega), cu_n (by omega), cu_n (by omega)]
  refine ⟨_, r3, ?_, ?_, ?_⟩
  · unfold pb_X4_take_33_tTx q4_X4_take_33_tTx qI11_X4_take_33_tTx
    rw [hb, H.2.1, e1, e2, f7 7 (by omega), f7 8 (by omega), f7 9 (by omega)]
    refine ⟨fun _ _ _ => ⟨fun _ _ => ⟨r1, fun _ _ y => absurd rfl y⟩, fun y => absurd y (by decide)⟩, fun y => absurd y (by decide), fun _ => r.1⟩
  · unfold pI_X4_take_33_tTx qIm84_X4_take_33_tTx
    rw [if_pos rfl, e1, e2, f7 7 (by omega), f7 8 (by omega), f7 9 (by omega)]
    exact r.2.1
  · unfold pA_X4_take_33_tTx qAm84_X4_take_33_tTx
    rw [if_pos rfl, e1, e2, f7 7 (by omega), f7 8 (by omega), f7 9 (by omega)]
    exact r.2.2
theorem tk_sign_60 {s : Int32} {w σ j : Nat} (H : tk_H_60 n I A x s w σ j) (hb : px_X4_stateBehind_33 n I A J (true, t.2) x = s) (x12 : ¬ x = 12) (x19 : ¬ x = 19) (x3 : ¬ x = 3) (h1 : w - j < 22) : ∃ A1, rf 60 w σ j A A1 ∧ pb_X4_take_33_tTx n I A J t x ∧ pI_X4_take_33_tTx n I A J t x = cw_u (cw_u (cw_u (cw_u (cw_u I 33 4 s) 60 7 (nI (σ + j))) 33 3 (nI (w - j))) 33 6 (if I 33 6 = 0 then (if irl x = 0 then 0 else 1) else 1)) 33 3 (nI (w - j + 1)) ∧ pA_X4_take_33_tTx n I A J t x = cw_u A1 36 (w - j) x := by
  obtain ⟨r1, r2, r3, r4, r5, r6⟩ := tk_sg_60 (J := J) (t := t) H hb
  have e6 : qs1m62_X4_takeSign_33_tTx n (cw_u I 33 4 s) A J (true, t.2) x = if I 33 6 = 0 then (if irl x = 0 then 0 else 1) else 1 := by
    unfold qs1m62_X4_takeSign_33_tTx qs1m69_X4_takeSign_33_tTx
    rw [r2, cu_n (a := 33) (b := 6) (by simp), cu_n (a := 33) (b := 6) (by simp), cu_n (a := 33) (b := 6) (by simp)]
    rfl
  have e7 : qI77_X4_takeSign_33_tTx n (cw_u I 33 4 s) A J (true, t.2) x = cw_u (cw_u (cw_u (cw_u I 33 4 s) 60 7 (nI (σ + j))) 33 3 (nI (w - j))) 33 6 (if I 33 6 = 0 then (if irl x = 0 then 0 else 1) else 1) := by
    unfold qI77_X4_takeSign_33_tTx
    rw [e6, r2]
  have e3 : qI77_X4_takeSign_33_tTx n (cw_u I 33 4 s) A J (true, t.2) x 33 3 = nI (w - j) := by
    rw [e7, cu_n (by simp), cu_s]
  have e22 : ¬ (22 : Int32) ≤ nI (w - j) := nI_ge h1 (by decide)
  refine ⟨_, r3, r6 ?_ x3, ?_, ?_⟩
  · refine ⟨r1, fun _ _ _ => ⟨?_, ?_⟩⟩
    · rw [e6]
      split
      · split
        · exact Or.inl rfl
        · exact Or.inr rfl
      · exact Or.inr rfl
    · unfold pb_X4_putOff_33
      rw [e3]
      exact fun _ => vp_in_nI h1 (by decide)
  · unfold pI_X4_take_33_tTx qIm84_X4_take_33_tTx
    rw [if_neg x3, r4]
    unfold pI_X4_takeSign_33_tTx qIm8_X4_takeSign_33_tTx qIm41_X4_takeSign_33_tTx qIm54_X4_takeSign_33_tTx
    rw [if_neg x12, if_neg x19, if_neg x3]
    unfold pI_X4_putOff_33 qIm6_X4_putOff_33 qI26_X4_putOff_33
    rw [e3, if_neg e22, nI_1, e7]
  · unfold pA_X4_take_33_tTx qAm84_X4_take_33_tTx
    rw [if_neg x3, r5]
    unfold pA_X4_takeSign_33_tTx qAm8_X4_takeSign_33_tTx qAm41_X4_takeSign_33_tTx qAm54_X4_takeSign_33_tTx
    rw [if_neg x12, if_neg x19, if_neg x3]
    unfold pA_X4_putOff_33 qAm6_X4_putOff_33 qA18_X4_putOff_33
    rw [e3, if_neg e22, nI_clamp (by omega)]
theorem fo_60 {k : Int32} : px_X4_faultOf_33_tTx n I A J t x k = if x = 0 then (if I 33 4 = 0 then 0 else 1) else if px_X4_stateBehind_33 n I A J (true, t.2) x = -1 then 1 else if 400 ≤ k then 2 else if (if I 33 4 = 0 then (if I 60 8 < 20 then 0 else 1) else (0 : Int32)) = 0 then (if (if x = 11 then (if I 33 5 < 6 then 0 else 1) else (0 : Int32)) = 0 then 0 else 2) else 2 := rfl
end Rf60
section Rg60
variable {n : Nat} {I0 A0 : Nat → Nat → Int32} {J : Nat → Nat → Int64} {t : Bool × Bool} {x1 : Int32}
/-- the class's loop comes from token k to token k' -/
def cr_60 (n : Nat) (I0 A0 : Nat → Nat → Int32) (J : Nat → Nat → Int64) (t : Bool × Bool) (x1 : Int32) (k : Nat) (I A : Nat → Nat → Int32) (k' : Nat) (I' A' : Nat → Nat → Int32) : Prop :=
  k ≤ k' ∧ ∀ f, (lb_X4_parse_33_32_tTx_39 n I0 A0 J t x1 f I' A' 0 1 (nI k') → lb_X4_parse_33_32_tTx_39 n I0 A0 J t x1 (f + (k' - k)) I A 0 1 (nI k)) ∧ lp_X4_parse_33_32_tTx_39 n I0 A0 J t x1 (f + (k' - k)) I A 0 1 (nI k) = lp_X4_parse_33_32_tTx_39 n I0 A0 J t x1 f I' A' 0 1 (nI k')
/-- the class's loop comes from token k to its end, with a fault -/
def ce_60 (n : Nat) (I0 A0 : Nat → Nat → Int32) (J : Nat → Nat → Int64) (t : Bool × Bool) (x1 : Int32) (k : Nat) (I A : Nat → Nat → Int32) (fa : Int32) (I' A' : Nat → Nat → Int32) : Prop :=
  ∀ f, 410 ≤ f + k → lb_X4_parse_33_32_tTx_39 n I0 A0 J t x1 f I A 0 1 (nI k) ∧ ∃ y z, lp_X4_parse_33_32_tTx_39 n I0 A0 J t x1 f I A 0 1 (nI k) = (I', A', fa, y, z)
theorem cr_refl_60 {k : Nat} {I A : Nat → Nat → Int32} : cr_60 n I0 A0 J t x1 k I A k I A := by
  refine ⟨Nat.le_refl _, fun f => ?_⟩
  rw [Nat.sub_self, Nat.add_zero]
  exact ⟨id, rfl⟩
theorem cr_trans_60 {k k' k2 : Nat} {I A I' A' I2 A2 : Nat → Nat → Int32} (h : cr_60 n I0 A0 J t x1 k I A k' I' A') (g : cr_60 n I0 A0 J t x1 k' I' A' k2 I2 A2) : cr_60 n I0 A0 J t x1 k I A k2 I2 A2 := by
  refine ⟨Nat.le_trans h.1 g.1, fun f => ?_⟩
  have a := h.2 (f + (k2 - k'))
  have b := g.2 f
  have e : f + (k2 - k') + (k' - k) = f + (k2 - k) := by have := h.1; have := g.1; omega
  rw [e] at a
  exact ⟨fun z => a.1 (b.1 z), a.2.trans b.2⟩
theorem ce_trans_60 {k k' : Nat} {I A I' A' I2 A2 : Nat → Nat → Int32} {fa : Int32} (h : cr_60 n I0 A0 J t x1 k I A k' I' A') (hk : k' ≤ 401) (g : ce_60 n I0 A0 J t x1 k' I' A' fa I2 A2) : ce_60 n I0 A0 J t x1 k I A fa I2 A2 := by
  intro f hf
  have a := h.2 (f - (k' - k))
  have e : f - (k' - k) + (k' - k) = f := by have := h.1; omega
  rw [e] at a
  have b := g (f - (k' - k)) (by have := h.1; omega)
  rw [a.2]
  exact ⟨a.1 b.1, b.2⟩
theorem st_go_60 {k κ : Nat} {I A Iv : Nat → Nat → Int32} (hk : k ≤ 400) (hv : pI_X7_advance_34_txT n I A J (true, true) = Iv) (ha : pb_X7_advance_34_txT n I A J (true, true)) (h3 : Iv 34 3 = nI κ) (hκ : nI κ ≠ 0) (hf : px_X4_faultOf_33_tTx n Iv A J (true, true) (nI κ) (nI k) = 0) (hp : pb_X4_take_33_tTx n Iv A J (true, true) (nI κ)) : cr_60 n I0 A0 J t x1 k I A (k + 1) (pI_X4_take_33_tTx n Iv A J (true, true) (nI κ)) (pA_X4_take_33_tTx n Iv A J (true, true) (nI κ)) := by
  refine ⟨by omega, fun f => ?_⟩
  have e : k + 1 - k = 1 := by omega
  rw [e]
  have z : ¬ (400 : Int32) < nI k := nI_nlt hk (by decide)
  have q72 : ∀ v3 v4, q72_X4_parse_33_32_tTx n I0 A0 J t x1 I A v3 v4 (nI k) = 0 := by
    intro v3 v4; unfold q72_X4_parse_33_32_tTx; rw [hv, h3]; exact hf
  have q74 : ∀ v3 v4, qs0m74_X4_parse_33_32_tTx n I0 A0 J t x1 I A v3 v4 (nI k) = 1 := by
    intro v3 v4; unfold qs0m74_X4_parse_33_32_tTx qs0m84_X4_parse_33_32_tTx; rw [q72, hv, h3, if_pos rfl, if_neg hκ]
  have qI : qIm96_X4_parse_33_32_tTx n I0 A0 J t x1 I A 0 1 (nI k) = pI_X4_take_33_tTx n Iv A J (true, true) (nI κ) := by
    unfold qIm96_X4_parse_33_32_tTx; rw [q74, if_neg (by decide), hv, h3]
  have qA : qAm96_X4_parse_33_32_tTx n I0 A0 J t x1 I A 0 1 (nI k) = pA_X4_take_33_tTx n Iv A J (true, true) (nI κ) := by
    unfold qAm96_X4_parse_33_32_tTx; rw [q74, if_neg (by decide), hv, h3]
  have q1 : q110_X4_parse_33_32_tTx n I0 A0 J t x1 I A 0 1 (nI k) = nI (k + 1) := nI_1 k
  constructor
  · intro h
    unfold lb_X4_parse_33_32_tTx_39
    rw [q72, q74, qI, qA, q1, hv, h3]
    exact fun _ _ => ⟨ha, fun _ => hp, h⟩
  · rw [lp_X4_parse_33_32_tTx_39]
    rw [if_neg z, if_neg (by decide), q72, q74, qI, qA, q1]
theorem st_stop_60 {k κ : Nat} {I A Iv : Nat → Nat → Int32} {fa : Int32} (hk : k ≤ 400) (hv : pI_X7_advance_34_txT n I A J (true, true) = Iv) (ha : pb_X7_advance_34_txT n I A J (true, true)) (h3 : Iv 34 3 = nI κ) (hf : px_X4_faultOf_33_tTx n Iv A J (true, true) (nI κ) (nI k) = fa) (hs : fa ≠ 0 ∨ nI κ = 0) : ce_60 n I0 A0 J t x1 k I A fa Iv A := by
  intro f hf2
  obtain ⟨f, rfl⟩ : ∃ g, f = g + 2 := ⟨f - 2, by omega⟩
  have z : ¬ (400 : Int32) < nI k := nI_nlt hk (by decide)
  have q72 : ∀ v3 v4, q72_X4_parse_33_32_tTx n I0 A0 J t x1 I A v3 v4 (nI k) = fa := by
    intro v3 v4; unfold q72_X4_parse_33_32_tTx; rw [hv, h3]; exact hf
  have q74 : ∀ v3 v4, qs0m74_X4_parse_33_32_tTx n I0 A0 J t x1 I A v3 v4 (nI k) = 0 := by
    intro v3 v4; unfold qs0m74_X4_parse_33_32_tTx qs0m84_X4_parse_33_32_tTx; rw [q72, hv, h3]
    rcases hs with h | h
    · rw [if_neg h]
    · rw [if_pos h]; split <;> rfl
  have qI : qIm96_X4_parse_33_32_tTx n I0 A0 J t x1 I A 0 1 (nI k) = Iv := by
    unfold qIm96_X4_parse_33_32_tTx; rw [q74, if_pos rfl, hv]
  have qA : qAm96_X4_parse_33_32_tTx n I0 A0 J t x1 I A 0 1 (nI k) = A := by
    unfold qAm96_X4_parse_33_32_tTx; rw [q74, if_pos rfl]
  constructor
  · unfold lb_X4_parse_33_32_tTx_39
    rw [q72, q74, qI, qA, hv, h3]
    refine fun _ _ => ⟨ha, fun y => absurd rfl y, ?_⟩
    unfold lb_X4_parse_33_32_tTx_39
    exact fun _ y => absurd rfl y
  · rw [lp_X4_parse_33_32_tTx_39]
    rw [if_neg z, if_neg (by decide), q72, q74, qI, qA]
    rw [lp_X4_parse_33_32_tTx_39]
    rw [if_pos (rfl : (0 : Int32) = 0)]
    split
    · exact ⟨_, _, rfl⟩
    · exact ⟨_, _, rfl⟩
end Rg60
