/-! the schedule: what stays the same while it is made -/
def sc_env (c : Nat) (I A I2 A2 : Nat → Nat → Int32) : Prop := rl_lands I A I2 A2 ∧ rl_sites I A I2 A2 ∧ rl_masts I A I2 A2 ∧ rl_progs I A I2 A2 ∧ rl_sheets A A2 ∧ rl_facts I A I2 A2 ∧ rl_tr c I A I2 A2
def sc_ctx (c n : Nat) (I0 A0 : Nat → Nat → Int32) (J0 : Nat → Nat → Int64) (t0 : Bool × Bool) (N m : Nat) (I A I2 A2 : Nat → Nat → Int32) : Prop :=
  sc_env c I A I2 A2 ∧ rl_lands I0 A0 I2 A2 ∧ rl_sites I0 A0 I2 A2 ∧ rl_sheets A0 A2 ∧ (∀ f, f < 300 → rl_fact A0 A2 f) ∧ A 30 = pA_X11_learn_0 n I0 A0 J0 t0 (nI N) 30 ∧ A 31 = pA_X11_learn_0 n I0 A0 J0 t0 (nI N) 31 ∧ I 19 9 = nI m ∧ I0 19 9 = nI m ∧ N ≤ m ∧ m ≤ 300
theorem sc_keep {c n : Nat} {I0 A0 : Nat → Nat → Int32} {J0 : Nat → Nat → Int64} {t0 : Bool × Bool} {N m : Nat} {I A I2 A2 I' A' I2' A2' : Nat → Nat → Int32} (h : sc_ctx c n I0 A0 J0 t0 N m I A I2 A2) (hc : c = 37 ∨ c = 60) (e1 : ∀ d k, d ≠ 46 → d ≠ 53 → I' d k = I d k) (a1 : ∀ d, d < 32 ∨ (c < d ∧ d < c + 7) → A' d = A d) (e2 : ∀ k, k < 59 → I2' 68 k = I2 68 k) (a2 : ∀ d, d < 107 → A2' d = A2 d) : sc_ctx c n I0 A0 J0 t0 N m I' A' I2' A2' := by
  obtain ⟨⟨h1, h2, h3, h4, h5, h6, h7⟩, g1, g2, g3, g4, g5, g6, g7, g8⟩ := h
  have ac : c ≠ 46 ∧ c ≠ 53 := by omega
  refine ⟨⟨rc_lands h1 (e1 _ _ (by decide) (by decide)) (e2 _ (by decide)) (a1 _ (by omega)) (a1 _ (by omega)) (a1 _ (by omega)) (a2 _ (by omega)) (a2 _ (by omega)) (a2 _ (by omega)), rc_sites h2 (e1 _ _ (by decide) (by decide)) (e2 _ (by decide)) (a1 _ (by omega)) (a1 _ (by omega)) (a2 _ (by omega)) (a2 _ (by omega)), rc_masts h3 (e1 _ _ (by decide) (by decide)) (e2 _ (by decide)) (a1 _ (by omega)) (a1 _ (by omega)) (a2 _ (by omega)) (a2 _ (by omega)), rc_progs h4 (e1 _ _ (by decide) (by decide)) (e2 _ (by decide)) (a1 _ (by omega)) (a1 _ (by omega)) (a1 _ (by omega)) (a2 _ (by omega)) (a2 _ (by omega)) (a2 _ (by omega)), rc_sheets h5 (a1 _ (by omega)) (a1 _ (by omega)) (a2 _ (by omega)) (a2 _ (by omega)), rc_facts h6 (e1 _ _ (by decide) (by decide)) (e2 _ (by decide)) (a1 _ (by omega)) (a1 _ (by omega)) (a1 _ (by omega)) (a1 _ (by omega)) (a1 _ (by omega)) (a1 _ (by omega)) (a1 _ (by omega)) (a1 _ (by omega)) (a1 _ (by omega)) (a2 _ (by omega)) (a2 _ (by omega)) (a2 _ (by omega)) (a2 _ (by omega)) (a2 _ (by omega)) (a2 _ (by omega)) (a2 _ (by omega)) (a2 _ (by omega)), rc_tr h7 (e1 _ _ ac.1 ac.2) (e2 _ (by decide)) (a1 _ (by omega)) (a1 _ (by omega)) (a1 _ (by omega)) (a1 _ (by omega)) (a1 _ (by omega)) (a1 _ (by omega)) (a2 _ (by omega)) (a2 _ (by omega)) (a2 _ (by omega)) (a2 _ (by omega)) (a2 _ (by omega)) (a2 _ (by omega)) (a2 _ (by omega)) (a2 _ (by omega)) (a2 _ (by omega)) (a2 _ (by omega)) (a2 _ (by omega))⟩, rc_lands g1 rfl (e2 _ (by decide)) rfl rfl rfl (a2 _ (by omega)) (a2 _ (by omega)) (a2 _ (by omega)), rc_sites g2 rfl (e2 _ (by decide)) rfl rfl (a2 _ (by omega)) (a2 _ (by omega)), rc_sheets g3 rfl rfl (a2 _ (by omega)) (a2 _ (by omega)), fun f hf => ?_, by rw [a1 30 (by omega)]; exact g5, by rw [a1 31 (by omega)]; exact g6, by rw [e1 19 9 (by decide) (by decide)]; exact g7, g8⟩
  have := g4 f hf
  unfold rl_fact at this ⊢
  rw [a2 99 (by omega), a2 100 (by omega), a2 101 (by omega), a2 102 (by omega), a2 103 (by omega), a2 104 (by omega), a2 105 (by omega), a2 106 (by omega)]
  exact this
theorem sc_fc {n : Nat} {I I' A A' : Nat → Nat → Int32} {J J' : Nat → Nat → Int64} {t t' : Bool × Bool} {x1 x2 x3 x4 : Int32} (a2 : A' 2 = A 2) (a3 : A' 3 = A 3) (a6 : A' 6 = A 6) (a7 : A' 7 = A 7) : px_X11_firstCell_0 n I' A' J' t' x1 x2 x3 x4 = px_X11_firstCell_0 n I A J t x1 x2 x3 x4 := by
  unfold px_X11_firstCell_0 q25_X11_firstCell_0
  rw [cg_sun5, cg_sun1, cg_far5, cg_sun5, cg_sun1, cg_far5, a2, a3, a6, a7]
theorem sc_aim {n : Nat} {I I' A A' : Nat → Nat → Int32} {J J' : Nat → Nat → Int64} {t t' : Bool × Bool} {x1 x2 : Int32} (a2 : A' 2 = A 2) (a3 : A' 3 = A 3) (a6 : A' 6 = A 6) (a7 : A' 7 = A 7) : px_X9_aimTo_5_1 n I' A' J' t' x1 x2 = px_X9_aimTo_5_1 n I A J t x1 x2 := by
  rw [cg_aim5, cg_aim5, a2, a3, a6, a7]
/-- the best band so far on both sides -/
def sc_bb (best bb fb fs : Int32) : Prop := (fb = -1 ∧ bb = -1 ∧ best = 9) ∨ (∃ k : Nat, k < 6 ∧ fb = nI k ∧ ((10 ≤ fs.toInt ∧ fs.toInt ≤ 306 ∧ bb = fb ∧ best = fs) ∨ (fs.toInt < 10 ∧ bb = -1 ∧ best = 9)))
set_option maxHeartbeats 1000000 in
theorem sc_band37 {n : Nat} {I Ao I0 A0 I02 A02 : Nat → Nat → Int32} {J J2 J0 : Nat → Nat → Int64} {t t2 t0 : Bool × Bool} {N m p i l d h : Nat} (hn : 500 ≤ n) (p10 : p < 10) (i6 : i < 6) (l8 : l < 8) (hd : d < 3600) (h24 : h < 24) (eo : Ao 13 p = nI l) (eo2 : A02 94 p = nI l) :
    ∀ (j b f f2 : Nat) (A39 I93 A93 : Nat → Nat → Int32) (best bb : Int32), b + j = 6 → j < f → j < f2 → sc_ctx 37 n I0 A0 J0 t0 N m I A39 I93 A93 → (∀ d, d < 20 → A39 d = Ao d) → sc_bb best bb (A93 114 (6 * p + i)) (A93 115 (6 * p + i)) →
    lb_X11_offer_0_tTx_39 n I Ao J t (nI p) (nI i) (nI d) (nI h) (nI N) f A39 best bb (nI b) ∧ lb_X12_fits_68_93 n I02 A02 J2 t2 (nI p) (nI i) (nI d) (nI h) (nI N) f2 I93 A93 (nI b) ∧
    sc_bb (lp_X11_offer_0_tTx_39 n I Ao J t (nI p) (nI i) (nI d) (nI h) (nI N) f A39 best bb (nI b)).2.1 (lp_X11_offer_0_tTx_39 n I Ao J t (nI p) (nI i) (nI d) (nI h) (nI N) f A39 best bb (nI b)).2.2.1 ((lp_X12_fits_68_93 n I02 A02 J2 t2 (nI p) (nI i) (nI d) (nI h) (nI N) f2 I93 A93 (nI b)).2.1 114 (6 * p + i)) ((lp_X12_fits_68_93 n I02 A02 J2 t2 (nI p) (nI i) (nI d) (nI h) (nI N) f2 I93 A93 (nI b)).2.1 115 (6 * p + i)) ∧
    ∀ x, ¬ x = 6 * p + i → (lp_X12_fits_68_93 n I02 A02 J2 t2 (nI p) (nI i) (nI d) (nI h) (nI N) f2 I93 A93 (nI b)).2.1 114 x = A93 114 x ∧ (lp_X12_fits_68_93 n I02 A02 J2 t2 (nI p) (nI i) (nI d) (nI h) (nI N) f2 I93 A93 (nI b)).2.1 115 x = A93 115 x := by
  have cp : (nI p).toNatClampNeg = p := nI_clamp (by omega)
  have ci : (nI i).toNatClampNeg = i := nI_clamp (by omega)
  have e6 : q6_X12_fits_68 n I02 A02 J2 t2 (nI p) (nI i) (nI d) (nI h) (nI N) = nI (6 * p + i) := lz_ix6 p i
  have c6 : (nI (6 * p + i)).toNatClampNeg = 6 * p + i := nI_clamp (by omega)
  have v6 : vp_in (nI (6 * p + i)) 60 := vp_in_nI (by omega) (by decide)
  have e22 : q22_X12_fits_68 n I02 A02 J2 t2 (nI p) (nI i) (nI d) (nI h) (nI N) = nI l := by
    unfold q22_X12_fits_68 qA15_X12_fits_68
    rw [cw_u_c _ _ (by decide), cp, eo2]
  have e8 : q8_X11_offer_0_tTx n I Ao J t (nI p) (nI i) (nI d) (nI h) (nI N) = nI l := by
    unfold q8_X11_offer_0_tTx px_X6_landOf_12
    rw [cp, eo]
  have o9 : (9 : Int32).toInt = 9 := rfl
  have oN : (-1000000 : Int32).toInt = -1000000 := rfl
  intro j
  induction j with
  | zero =>
    intro b f f2 A39 I93 A93 best bb hk hf hf2 hctx hao hS
    obtain ⟨f, rfl⟩ : ∃ x, f = x + 1 := ⟨f - 1, by omega⟩
    obtain ⟨f2, rfl⟩ : ∃ x, f2 = x + 1 := ⟨f2 - 1, by omega⟩
    have c : 6 ≤ nI b := nI_le (a := 6) (by omega) (by omega)
    unfold lb_X11_offer_0_tTx_39 lb_X12_fits_68_93 lp_X11_offer_0_tTx_39 lp_X12_fits_68_93
    rw [if_pos c, if_pos c]
    exact ⟨fun z => absurd c z, fun z => absurd c z, hS, fun x _ => ⟨rfl, rfl⟩⟩
  | succ j ih =>
    intro b f f2 A39 I93 A93 best bb hk hf hf2 hctx hao hS
    obtain ⟨f, rfl⟩ : ∃ x, f = x + 1 := ⟨f - 1, by omega⟩
    obtain ⟨f2, rfl⟩ : ∃ x, f2 = x + 1 := ⟨f2 - 1, by omega⟩
    have c : ¬ 6 ≤ nI b := nI_ge (b := 6) (by omega) (by omega)
    obtain ⟨⟨h1, h2, h3, h4, h5, h6, h7⟩, g1, g2, g3, g4, g5, g6, g7, g8, g9, g10⟩ := id hctx
    obtain ⟨s1, s2, s3, s4, s5, s6⟩ := st_by (n := n) (I8 := I) (J := J0) (t := t0) (J2 := J2) (t2 := t2) (J9 := J) (t9 := (true, t.2)) (i := i) (b := b) (l := l) (d := d) (h := h) (by omega) g9 g10 g8 g1 g2 g3 g4 h1 h2 h5 h3 g5 g6 i6 (by omega) l8 hd h24
    have esite : px_X2_siteOf_9 n I A39 J (true, t.2) (nI i) = px_X2_siteOf_9 n I Ao J (true, t.2) (nI i) := by
      unfold px_X2_siteOf_9
      rw [hao 10 (by omega)]
    have e27 : q27_X11_offer_0_tTx n I Ao J t (nI p) (nI i) (nI d) (nI h) (nI N) = px_X11_firstCell_0 n I A39 J (true, t.2) (px_X2_siteOf_9 n I A39 J (true, t.2) (nI i)) (nI l) (nI d) (nI h) := by
      unfold q27_X11_offer_0_tTx
      rw [e8, esite]
      exact (sc_fc (hao 2 (by omega)) (hao 3 (by omega)) (hao 6 (by omega)) (hao 7 (by omega))).symm
    obtain ⟨v, hv⟩ : ∃ v, v = px_X12_strengthOf_68 n I93 A93 J2 t2 (nI i) (nI b) (nI l) (nI d) (nI h) (nI N) := ⟨_, rfl⟩
    have q58 : q58_X11_offer_0_tTx n I Ao J t (nI p) (nI i) (nI d) (nI h) (nI N) A39 best bb (nI b) = v := by
      unfold q58_X11_offer_0_tTx
      rw [e8, e27, hv, s4]
    have q114 : q114_X12_fits_68 n I02 A02 J2 t2 (nI p) (nI i) (nI d) (nI h) (nI N) I93 A93 (nI b) = v := by
      unfold q114_X12_fits_68
      rw [e22, hv]
    rw [← hv] at s6
    have hIs : ∀ k, k < 59 → pI_X12_strengthOf_68 n I93 A93 J2 t2 (nI i) (nI b) (nI l) (nI d) (nI h) (nI N) 68 k = I93 68 k := fun k hk => fr_pI_X12_strengthOf_68 (by simp; omega)
    have hctxs := sc_keep (I' := I) (A' := A39) (I2' := pI_X12_strengthOf_68 n I93 A93 J2 t2 (nI i) (nI b) (nI l) (nI d) (nI h) (nI N)) (A2' := A93) hctx (by omega) (fun _ _ _ _ => rfl) (fun _ _ => rfl) hIs (fun _ _ => rfl)
    obtain ⟨⟨k1, k2, k3, k4, k5, k6, k7⟩, -⟩ := hctxs
    obtain ⟨Y1, Y2, Y3⟩ := ty_fy37 (n := n) (J := J) (J2 := J2) (t := (true, t.2)) (t2 := t2) (x5 := nI h) (N := N) (b := b) (i := i) (l := l) (d := d) hn k1 k3 k7 k6 g7 g10 g9 (by omega) i6 l8 hd
    obtain ⟨y, hy⟩ : ∃ y, y = px_X11_firstYield_0_tTx n I A39 J (true, t.2) (nI i) (nI b) (nI l) (nI d) (nI h) (nI N) := ⟨_, rfl⟩
    rw [← hy] at Y3
    have e93 : q93_X11_offer_0_tTx n I Ao J t (nI p) (nI i) (nI d) (nI h) (nI N) A39 best bb (nI b) = nI (b + 1) := nI_1 b
    have e186 : q186_X12_fits_68 n I02 A02 J2 t2 (nI p) (nI i) (nI d) (nI h) (nI N) I93 A93 (nI b) = nI (b + 1) := nI_1 b
    -- the class's step
    have clsN : v ≤ best → ql8m64_X11_offer_0_tTx n I Ao J t (nI p) (nI i) (nI d) (nI h) (nI N) A39 best bb (nI b) = best ∧ ql9m64_X11_offer_0_tTx n I Ao J t (nI p) (nI i) (nI d) (nI h) (nI N) A39 best bb (nI b) = bb := fun z => by
      unfold ql8m64_X11_offer_0_tTx ql9m64_X11_offer_0_tTx
      rw [q58, if_pos z, if_pos z]
      exact ⟨rfl, rfl⟩
    have clsU : ¬ v ≤ best → ql8m64_X11_offer_0_tTx n I Ao J t (nI p) (nI i) (nI d) (nI h) (nI N) A39 best bb (nI b) = (if y = -1 then v else best) ∧ ql9m64_X11_offer_0_tTx n I Ao J t (nI p) (nI i) (nI d) (nI h) (nI N) A39 best bb (nI b) = (if y = -1 then nI b else bb) := fun z => by
      unfold ql8m64_X11_offer_0_tTx ql9m64_X11_offer_0_tTx ql8m82_X11_offer_0_tTx ql9m82_X11_offer_0_tTx
      rw [q58, if_neg z, if_neg z, e8, hy]
      exact ⟨rfl, rfl⟩
    -- the reference's step
    have refN : (v = -1000000 ∨ ¬ A93 114 (6 * p + i) = -1 ∧ v ≤ A93 115 (6 * p + i)) → qAm121_X12_fits_68 n I02 A02 J2 t2 (nI p) (nI i) (nI d) (nI h) (nI N) I93 A93 (nI b) = A93 := fun z => by
      unfold qAm121_X12_fits_68 qAm132_X12_fits_68 qAm144_X12_fits_68
      rw [q114, e6, c6]
      rcases z with z | ⟨z1, z2⟩
      · rw [if_pos z]
      · rw [if_neg z1, if_pos z2, ite_self]
    have refU : ¬ v = -1000000 → (A93 114 (6 * p + i) = -1 ∨ ¬ v ≤ A93 115 (6 * p + i)) → (y = -1 → qAm121_X12_fits_68 n I02 A02 J2 t2 (nI p) (nI i) (nI d) (nI h) (nI N) I93 A93 (nI b) 114 (6 * p + i) = nI b ∧ qAm121_X12_fits_68 n I02 A02 J2 t2 (nI p) (nI i) (nI d) (nI h) (nI N) I93 A93 (nI b) 115 (6 * p + i) = v) ∧ (¬ y = -1 → qAm121_X12_fits_68 n I02 A02 J2 t2 (nI p) (nI i) (nI d) (nI h) (nI N) I93 A93 (nI b) 114 (6 * p + i) = A93 114 (6 * p + i) ∧ qAm121_X12_fits_68 n I02 A02 J2 t2 (nI p) (nI i) (nI d) (nI h) (nI N) I93 A93 (nI b) 115 (6 * p + i) = A93 115 (6 * p + i)) := fun z1 z2 => by
      have e162 : qAm121_X12_fits_68 n I02 A02 J2 t2 (nI p) (nI i) (nI d) (nI h) (nI N) I93 A93 (nI b) = qAm162_X12_fits_68 n I02 A02 J2 t2 (nI p) (nI i) (nI d) (nI h) (nI N) I93 A93 (nI b) := by
        unfold qAm121_X12_fits_68 qAm132_X12_fits_68 qAm144_X12_fits_68
        rw [q114, e6, c6, if_neg z1]
        rcases z2 with z2 | z2
        · rw [if_pos z2]
        · rw [if_neg z2, ite_self]
      rw [e162]
      unfold qAm162_X12_fits_68
      rw [e22, Y3]
      constructor
      · intro w
        rw [if_pos w]
        unfold qA185_X12_fits_68 qA176_X12_fits_68
        rw [e6, c6, cw_u_c _ _ (by decide), cw_u_s, cw_u_s, q114]
        exact ⟨rfl, rfl⟩
      · intro w
        rw [if_neg w, fr_pA_X12_yieldsTo_68 (by decide), fr_pA_X12_yieldsTo_68 (by decide)]
        exact ⟨rfl, rfl⟩
    have keepx : ∀ x, ¬ x = 6 * p + i → qAm121_X12_fits_68 n I02 A02 J2 t2 (nI p) (nI i) (nI d) (nI h) (nI N) I93 A93 (nI b) 114 x = A93 114 x ∧ qAm121_X12_fits_68 n I02 A02 J2 t2 (nI p) (nI i) (nI d) (nI h) (nI N) I93 A93 (nI b) 115 x = A93 115 x := fun x hx => by
      have e162 : qAm162_X12_fits_68 n I02 A02 J2 t2 (nI p) (nI i) (nI d) (nI h) (nI N) I93 A93 (nI b) 114 x = A93 114 x ∧ qAm162_X12_fits_68 n I02 A02 J2 t2 (nI p) (nI i) (nI d) (nI h) (nI N) I93 A93 (nI b) 115 x = A93 115 x := by
        unfold qAm162_X12_fits_68
        split
        · unfold qA185_X12_fits_68 qA176_X12_fits_68
          rw [e6, c6, cw_u_c _ _ (by decide), cw_u_k _ _ hx, cw_u_k _ _ hx, cw_u_c _ _ (by decide), fr_pA_X12_yieldsTo_68 (by decide), fr_pA_X12_yieldsTo_68 (by decide)]
          exact ⟨rfl, rfl⟩
        · rw [fr_pA_X12_yieldsTo_68 (by decide), fr_pA_X12_yieldsTo_68 (by decide)]
          exact ⟨rfl, rfl⟩
      unfold qAm121_X12_fits_68 qAm132_X12_fits_68 qAm144_X12_fits_68
      split
      · exact ⟨rfl, rfl⟩
      · split
        · exact e162
        · split
          · exact ⟨rfl, rfl⟩
          · exact e162
    have S' : sc_bb (ql8m64_X11_offer_0_tTx n I Ao J t (nI p) (nI i) (nI d) (nI h) (nI N) A39 best bb (nI b)) (ql9m64_X11_offer_0_tTx n I Ao J t (nI p) (nI i) (nI d) (nI h) (nI N) A39 best bb (nI b)) (qAm121_X12_fits_68 n I02 A02 J2 t2 (nI p) (nI i) (nI d) (nI h) (nI N) I93 A93 (nI b) 114 (6 * p + i)) (qAm121_X12_fits_68 n I02 A02 J2 t2 (nI p) (nI i) (nI d) (nI h) (nI N) I93 A93 (nI b) 115 (6 * p + i)) := by
      have b9 : 9 ≤ best.toInt := by
        rcases hS with ⟨-, -, q⟩ | ⟨k, -, -, ⟨q1, -, -, q4⟩ | ⟨-, -, q⟩⟩
        · rw [q, o9]; omega
        · rw [q4]; omega
        · rw [q, o9]; omega
      by_cases hN : v = -1000000
      · have z : v ≤ best := by rw [hN, tI_le, oN]; omega
        obtain ⟨w1, w2⟩ := clsN z
        rw [w1, w2, refN (Or.inl hN)]
        exact hS
      · have rng : -297 ≤ v.toInt ∧ v.toInt ≤ 306 := by
          rcases s6 with q | q
          · exact absurd q hN
          · exact q
        by_cases hyy : y = -1
        · -- nothing to yield to
          by_cases hup : A93 114 (6 * p + i) = -1 ∨ ¬ v ≤ A93 115 (6 * p + i)
          · obtain ⟨r1, r2⟩ := (refU hN hup).1 hyy
            rw [r1, r2]
            by_cases z : v ≤ best
            · obtain ⟨w1, w2⟩ := clsN z
              rw [w1, w2]
              rw [tI_le] at z
              rcases hS with ⟨q1, q2, q3⟩ | ⟨k, q1, q2, ⟨q3, q4, q5, q6⟩ | ⟨q3, q4, q5⟩⟩
              · rw [q3, o9] at z
                exact Or.inr ⟨b, by omega, rfl, Or.inr ⟨by omega, q2, q3⟩⟩
              · rcases hup with u | u
                · exact absurd (q2.symm.trans u) (sv_n1 (by omega))
                · rw [tI_le] at u
                  rw [q6] at z
                  exact absurd z u
              · rw [q5, o9] at z
                exact Or.inr ⟨b, by omega, rfl, Or.inr ⟨by omega, q4, q5⟩⟩
            · obtain ⟨w1, w2⟩ := clsU z
              rw [w1, w2, if_pos hyy, if_pos hyy]
              rw [tI_le] at z
              exact Or.inr ⟨b, by omega, rfl, Or.inl ⟨by omega, rng.2, rfl, rfl⟩⟩
          · have u1 : ¬ A93 114 (6 * p + i) = -1 := fun q => hup (Or.inl q)
            have u2 : v ≤ A93 115 (6 * p + i) := Classical.byContradiction (fun q => hup (Or.inr q))
            rw [refN (Or.inr ⟨u1, u2⟩)]
            have z : v ≤ best := by
              rw [tI_le] at u2 ⊢
              rcases hS with ⟨q1, -, -⟩ | ⟨k, q1, q2, ⟨q3, q4, q5, q6⟩ | ⟨q3, q4, q5⟩⟩
              · exact absurd q1 u1
              · rw [q6]; exact u2
              · rw [q5, o9]; omega
            obtain ⟨w1, w2⟩ := clsN z
            rw [w1, w2]
            exact hS
        · -- it yields: nothing changes
          have cls : ql8m64_X11_offer_0_tTx n I Ao J t (nI p) (nI i) (nI d) (nI h) (nI N) A39 best bb (nI b) = best ∧ ql9m64_X11_offer_0_tTx n I Ao J t (nI p) (nI i) (nI d) (nI h) (nI N) A39 best bb (nI b) = bb := by
            by_cases z : v ≤ best
            · exact clsN z
            · have := clsU z
              rw [if_neg hyy, if_neg hyy] at this
              exact this
          rw [cls.1, cls.2]
          by_cases hup : A93 114 (6 * p + i) = -1 ∨ ¬ v ≤ A93 115 (6 * p + i)
          · obtain ⟨r1, r2⟩ := (refU hN hup).2 hyy
            rw [r1, r2]; exact hS
          · have u1 : ¬ A93 114 (6 * p + i) = -1 := fun q => hup (Or.inl q)
            have u2 : v ≤ A93 115 (6 * p + i) := Classical.byContradiction (fun q => hup (Or.inr q))
            rw [refN (Or.inr ⟨u1, u2⟩)]; exact hS
    have kA : ∀ d', d' ≠ 45 → d' ≠ 44 → qAm64_X11_offer_0_tTx n I Ao J t (nI p) (nI i) (nI d) (nI h) (nI N) A39 best bb (nI b) d' = A39 d' := fun d' q1 q2 => fr_qAm64_X11_offer_0_tTx (by simp [q1, q2])
    have kB : ∀ d', d' < 107 → qAm121_X12_fits_68 n I02 A02 J2 t2 (nI p) (nI i) (nI d) (nI h) (nI N) I93 A93 (nI b) d' = A93 d' := fun d' q1 => fr_qAm121_X12_fits_68 (by simp; omega)
    have kI : ∀ k, k < 59 → qIm121_X12_fits_68 n I02 A02 J2 t2 (nI p) (nI i) (nI d) (nI h) (nI N) I93 A93 (nI b) 68 k = I93 68 k := fun k q1 => fr_qIm121_X12_fits_68 (by simp; omega)
    obtain ⟨i1, i2, i3, i4⟩ := ih (b + 1) f f2 (qAm64_X11_offer_0_tTx n I Ao J t (nI p) (nI i) (nI d) (nI h) (nI N) A39 best bb (nI b)) (qIm121_X12_fits_68 n I02 A02 J2 t2 (nI p) (nI i) (nI d) (nI h) (nI N) I93 A93 (nI b)) (qAm121_X12_fits_68 n I02 A02 J2 t2 (nI p) (nI i) (nI d) (nI h) (nI N) I93 A93 (nI b)) _ _ (by omega) (by omega) (by omega) (sc_keep hctx (by omega) (fun _ _ _ _ => rfl) (fun d' q => kA d' (by omega) (by omega)) kI kB) (fun d' q => by rw [kA d' (by omega) (by omega)]; exact hao d' q) S'
    have pb8 : pb_X11_strengthBy_0 n I A39 J (true, t.2) (nI i) (nI b) (nI l) (nI d) (q27_X11_offer_0_tTx n I Ao J t (nI p) (nI i) (nI d) (nI h) (nI N)) := by rw [e27]; exact s3
    unfold lb_X11_offer_0_tTx_39 lb_X12_fits_68_93 lp_X11_offer_0_tTx_39 lp_X12_fits_68_93
    rw [if_neg c, if_neg c, e93, e186, e8, e22, e6]
    refine ⟨fun _ => ⟨pb8, fun _ => Y1, i1⟩, fun _ => ⟨s5, fun _ => ⟨v6, fun _ => ⟨Y2, fun _ => ⟨v6, v6⟩⟩, fun _ => ⟨v6, fun _ => ⟨Y2, fun _ => ⟨v6, v6⟩⟩⟩⟩, i2⟩, i3, fun x hx => ?_⟩
    obtain ⟨w1, w2⟩ := i4 x hx
    obtain ⟨w3, w4⟩ := keepx x hx
    exact ⟨w1.trans w3, w2.trans w4⟩

set_option maxHeartbeats 1000000 in
theorem sc_band60 {n : Nat} {I Ao I0 A0 I02 A02 : Nat → Nat → Int32} {J J2 J0 : Nat → Nat → Int64} {t t2 t0 : Bool × Bool} {N m p i l d h : Nat} (hn : 500 ≤ n) (p10 : p < 10) (i6 : i < 6) (l8 : l < 8) (hd : d < 3600) (h24 : h < 24) (eo : Ao 13 p = nI l) (eo2 : A02 94 p = nI l) :
    ∀ (j b f f2 : Nat) (A39 I93 A93 : Nat → Nat → Int32) (best bb : Int32), b + j = 6 → j < f → j < f2 → sc_ctx 60 n I0 A0 J0 t0 N m I A39 I93 A93 → (∀ d, d < 20 → A39 d = Ao d) → sc_bb best bb (A93 114 (6 * p + i)) (A93 115 (6 * p + i)) →
    lb_X11_offer_0_tFx_39 n I Ao J t (nI p) (nI i) (nI d) (nI h) (nI N) f A39 best bb (nI b) ∧ lb_X12_fits_68_93 n I02 A02 J2 t2 (nI p) (nI i) (nI d) (nI h) (nI N) f2 I93 A93 (nI b) ∧
    sc_bb (lp_X11_offer_0_tFx_39 n I Ao J t (nI p) (nI i) (nI d) (nI h) (nI N) f A39 best bb (nI b)).2.1 (lp_X11_offer_0_tFx_39 n I Ao J t (nI p) (nI i) (nI d) (nI h) (nI N) f A39 best bb (nI b)).2.2.1 ((lp_X12_fits_68_93 n I02 A02 J2 t2 (nI p) (nI i) (nI d) (nI h) (nI N) f2 I93 A93 (nI b)).2.1 114 (6 * p + i)) ((lp_X12_fits_68_93 n I02 A02 J2 t2 (nI p) (nI i) (nI d) (nI h) (nI N) f2 I93 A93 (nI b)).2.1 115 (6 * p + i)) ∧
    ∀ x, ¬ x = 6 * p + i → (lp_X12_fits_68_93 n I02 A02 J2 t2 (nI p) (nI i) (nI d) (nI h) (nI N) f2 I93 A93 (nI b)).2.1 114 x = A93 114 x ∧ (lp_X12_fits_68_93 n I02 A02 J2 t2 (nI p) (nI i) (nI d) (nI h) (nI N) f2 I93 A93 (nI b)).2.1 115 x = A93 115 x := by
  have cp : (nI p).toNatClampNeg = p := nI_clamp (by omega)
  have ci : (nI i).toNatClampNeg = i := nI_clamp (by omega)
  have e6 : q6_X12_fits_68 n I02 A02 J2 t2 (nI p) (nI i) (nI d) (nI h) (nI N) = nI (6 * p + i) := lz_ix6 p i
  have c6 : (nI (6 * p + i)).toNatClampNeg = 6 * p + i := nI_clamp (by omega)
  have v6 : vp_in (nI (6 * p + i)) 60 := vp_in_nI (by omega) (by decide)
  have e22 : q22_X12_fits_68 n I02 A02 J2 t2 (nI p) (nI i) (nI d) (nI h) (nI N) = nI l := by
    unfold q22_X12_fits_68 qA15_X12_fits_68
    rw [cw_u_c _ _ (by decide), cp, eo2]
  have e8 : q8_X11_offer_0_tFx n I Ao J t (nI p) (nI i) (nI d) (nI h) (nI N) = nI l := by
    unfold q8_X11_offer_0_tFx px_X6_landOf_12
    rw [cp, eo]
  have o9 : (9 : Int32).toInt = 9 := rfl
  have oN : (-1000000 : Int32).toInt = -1000000 := rfl
  intro j
  induction j with
  | zero =>
    intro b f f2 A39 I93 A93 best bb hk hf hf2 hctx hao hS
    obtain ⟨f, rfl⟩ : ∃ x, f = x + 1 := ⟨f - 1, by omega⟩
    obtain ⟨f2, rfl⟩ : ∃ x, f2 = x + 1 := ⟨f2 - 1, by omega⟩
    have c : 6 ≤ nI b := nI_le (a := 6) (by omega) (by omega)
    unfold lb_X11_offer_0_tFx_39 lb_X12_fits_68_93 lp_X11_offer_0_tFx_39 lp_X12_fits_68_93
    rw [if_pos c, if_pos c]
    exact ⟨fun z => absurd c z, fun z => absurd c z, hS, fun x _ => ⟨rfl, rfl⟩⟩
  | succ j ih =>
    intro b f f2 A39 I93 A93 best bb hk hf hf2 hctx hao hS
    obtain ⟨f, rfl⟩ : ∃ x, f = x + 1 := ⟨f - 1, by omega⟩
    obtain ⟨f2, rfl⟩ : ∃ x, f2 = x + 1 := ⟨f2 - 1, by omega⟩
    have c : ¬ 6 ≤ nI b := nI_ge (b := 6) (by omega) (by omega)
    obtain ⟨⟨h1, h2, h3, h4, h5, h6, h7⟩, g1, g2, g3, g4, g5, g6, g7, g8, g9, g10⟩ := id hctx
    obtain ⟨s1, s2, s3, s4, s5, s6⟩ := st_by (n := n) (I8 := I) (J := J0) (t := t0) (J2 := J2) (t2 := t2) (J9 := J) (t9 := (false, t.2)) (i := i) (b := b) (l := l) (d := d) (h := h) (by omega) g9 g10 g8 g1 g2 g3 g4 h1 h2 h5 h3 g5 g6 i6 (by omega) l8 hd h24
    have esite : px_X2_siteOf_9 n I A39 J (false, t.2) (nI i) = px_X2_siteOf_9 n I Ao J (false, t.2) (nI i) := by
      unfold px_X2_siteOf_9
      rw [hao 10 (by omega)]
    have e27 : q27_X11_offer_0_tFx n I Ao J t (nI p) (nI i) (nI d) (nI h) (nI N) = px_X11_firstCell_0 n I A39 J (false, t.2) (px_X2_siteOf_9 n I A39 J (false, t.2) (nI i)) (nI l) (nI d) (nI h) := by
      unfold q27_X11_offer_0_tFx
      rw [e8, esite]
      exact (sc_fc (hao 2 (by omega)) (hao 3 (by omega)) (hao 6 (by omega)) (hao 7 (by omega))).symm
    obtain ⟨v, hv⟩ : ∃ v, v = px_X12_strengthOf_68 n I93 A93 J2 t2 (nI i) (nI b) (nI l) (nI d) (nI h) (nI N) := ⟨_, rfl⟩
    have q58 : q58_X11_offer_0_tFx n I Ao J t (nI p) (nI i) (nI d) (nI h) (nI N) A39 best bb (nI b) = v := by
      unfold q58_X11_offer_0_tFx
      rw [e8, e27, hv, s4]
    have q114 : q114_X12_fits_68 n I02 A02 J2 t2 (nI p) (nI i) (nI d) (nI h) (nI N) I93 A93 (nI b) = v := by
      unfold q114_X12_fits_68
      rw [e22, hv]
    rw [← hv] at s6
    have hIs : ∀ k, k < 59 → pI_X12_strengthOf_68 n I93 A93 J2 t2 (nI i) (nI b) (nI l) (nI d) (nI h) (nI N) 68 k = I93 68 k := fun k hk => fr_pI_X12_strengthOf_68 (by simp; omega)
    have hctxs := sc_keep (I' := I) (A' := A39) (I2' := pI_X12_strengthOf_68 n I93 A93 J2 t2 (nI i) (nI b) (nI l) (nI d) (nI h) (nI N)) (A2' := A93) hctx (by omega) (fun _ _ _ _ => rfl) (fun _ _ => rfl) hIs (fun _ _ => rfl)
    obtain ⟨⟨k1, k2, k3, k4, k5, k6, k7⟩, -⟩ := hctxs
    obtain ⟨Y1, Y2, Y3⟩ := ty_fy60 (n := n) (J := J) (J2 := J2) (t := (false, t.2)) (t2 := t2) (x5 := nI h) (N := N) (b := b) (i := i) (l := l) (d := d) hn k1 k3 k7 k6 g7 g10 g9 (by omega) i6 l8 hd
    obtain ⟨y, hy⟩ : ∃ y, y = px_X11_firstYield_0_tFx n I A39 J (false, t.2) (nI i) (nI b) (nI l) (nI d) (nI h) (nI N) := ⟨_, rfl⟩
    rw [← hy] at Y3
    have e93 : q93_X11_offer_0_tFx n I Ao J t (nI p) (nI i) (nI d) (nI h) (nI N) A39 best bb (nI b) = nI (b + 1) := nI_1 b
    have e186 : q186_X12_fits_68 n I02 A02 J2 t2 (nI p) (nI i) (nI d) (nI h) (nI N) I93 A93 (nI b) = nI (b + 1) := nI_1 b
    -- the class's step
    have clsN : v ≤ best → ql8m64_X11_offer_0_tFx n I Ao J t (nI p) (nI i) (nI d) (nI h) (nI N) A39 best bb (nI b) = best ∧ ql9m64_X11_offer_0_tFx n I Ao J t (nI p) (nI i) (nI d) (nI h) (nI N) A39 best bb (nI b) = bb := fun z => by
      unfold ql8m64_X11_offer_0_tFx ql9m64_X11_offer_0_tFx
      rw [q58, if_pos z, if_pos z]
      exact ⟨rfl, rfl⟩
    have clsU : ¬ v ≤ best → ql8m64_X11_offer_0_tFx n I Ao J t (nI p) (nI i) (nI d) (nI h) (nI N) A39 best bb (nI b) = (if y = -1 then v else best) ∧ ql9m64_X11_offer_0_tFx n I Ao J t (nI p) (nI i) (nI d) (nI h) (nI N) A39 best bb (nI b) = (if y = -1 then nI b else bb) := fun z => by
      unfold ql8m64_X11_offer_0_tFx ql9m64_X11_offer_0_tFx ql8m82_X11_offer_0_tFx ql9m82_X11_offer_0_tFx
      rw [q58, if_neg z, if_neg z, e8, hy]
      exact ⟨rfl, rfl⟩
    -- the reference's step
    have refN : (v = -1000000 ∨ ¬ A93 114 (6 * p + i) = -1 ∧ v ≤ A93 115 (6 * p + i)) → qAm121_X12_fits_68 n I02 A02 J2 t2 (nI p) (nI i) (nI d) (nI h) (nI N) I93 A93 (nI b) = A93 := fun z => by
      unfold qAm121_X12_fits_68 qAm132_X12_fits_68 qAm144_X12_fits_68
      rw [q114, e6, c6]
      rcases z with z | ⟨z1, z2⟩
      · rw [if_pos z]
      · rw [if_neg z1, if_pos z2, ite_self]
    have refU : ¬ v = -1000000 → (A93 114 (6 * p + i) = -1 ∨ ¬ v ≤ A93 115 (6 * p + i)) → (y = -1 → qAm121_X12_fits_68 n I02 A02 J2 t2 (nI p) (nI i) (nI d) (nI h) (nI N) I93 A93 (nI b) 114 (6 * p + i) = nI b ∧ qAm121_X12_fits_68 n I02 A02 J2 t2 (nI p) (nI i) (nI d) (nI h) (nI N) I93 A93 (nI b) 115 (6 * p + i) = v) ∧ (¬ y = -1 → qAm121_X12_fits_68 n I02 A02 J2 t2 (nI p) (nI i) (nI d) (nI h) (nI N) I93 A93 (nI b) 114 (6 * p + i) = A93 114 (6 * p + i) ∧ qAm121_X12_fits_68 n I02 A02 J2 t2 (nI p) (nI i) (nI d) (nI h) (nI N) I93 A93 (nI b) 115 (6 * p + i) = A93 115 (6 * p + i)) := fun z1 z2 => by
      have e162 : qAm121_X12_fits_68 n I02 A02 J2 t2 (nI p) (nI i) (nI d) (nI h) (nI N) I93 A93 (nI b) = qAm162_X12_fits_68 n I02 A02 J2 t2 (nI p) (nI i) (nI d) (nI h) (nI N) I93 A93 (nI b) := by
        unfold qAm121_X12_fits_68 qAm132_X12_fits_68 qAm144_X12_fits_68
        rw [q114, e6, c6, if_neg z1]
        rcases z2 with z2 | z2
        · rw [if_pos z2]
        · rw [if_neg z2, ite_self]
      rw [e162]
      unfold qAm162_X12_fits_68
      rw [e22, Y3]
      constructor
      · intro w
        rw [if_pos w]
        unfold qA185_X12_fits_68 qA176_X12_fits_68
        rw [e6, c6, cw_u_c _ _ (by decide), cw_u_s, cw_u_s, q114]
        exact ⟨rfl, rfl⟩
      · intro w
        rw [if_neg w, fr_pA_X12_yieldsTo_68 (by decide), fr_pA_X12_yieldsTo_68 (by decide)]
        exact ⟨rfl, rfl⟩
    have keepx : ∀ x, ¬ x = 6 * p + i → qAm121_X12_fits_68 n I02 A02 J2 t2 (nI p) (nI i) (nI d) (nI h) (nI N) I93 A93 (nI b) 114 x = A93 114 x ∧ qAm121_X12_fits_68 n I02 A02 J2 t2 (nI p) (nI i) (nI d) (nI h) (nI N) I93 A93 (nI b) 115 x = A93 115 x := fun x hx => by
      have e162 : qAm162_X12_fits_68 n I02 A02 J2 t2 (nI p) (nI i) (nI d) (nI h) (nI N) I93 A93 (nI b) 114 x = A93 114 x ∧ qAm162_X12_fits_68 n I02 A02 J2 t2 (nI p) (nI i) (nI d) (nI h) (nI N) I93 A93 (nI b) 115 x = A93 115 x := by
        unfold qAm162_X12_fits_68
        split
        · unfold qA185_X12_fits_68 qA176_X12_fits_68
          rw [e6, c6, cw_u_c _ _ (by decide), cw_u_k _ _ hx, cw_u_k _ _ hx, cw_u_c _ _ (by decide), fr_pA_X12_yieldsTo_68 (by decide), fr_pA_X12_yieldsTo_68 (by decide)]
          exact ⟨rfl, rfl⟩
        · rw [fr_pA_X12_yieldsTo_68 (by decide), fr_pA_X12_yieldsTo_68 (by decide)]
          exact ⟨rfl, rfl⟩
      unfold qAm121_X12_fits_68 qAm132_X12_fits_68 qAm144_X12_fits_68
      split
      · exact ⟨rfl, rfl⟩
      · split
        · exact e162
        · split
          · exact ⟨rfl, rfl⟩
          · exact e162
    have S' : sc_bb (ql8m64_X11_offer_0_tFx n I Ao J t (nI p) (nI i) (nI d) (nI h) (nI N) A39 best bb (nI b)) (ql9m64_X11_offer_0_tFx n I Ao J t (nI p) (nI i) (nI d) (nI h) (nI N) A39 best bb (nI b)) (qAm121_X12_fits_68 n I02 A02 J2 t2 (nI p) (nI i) (nI d) (nI h) (nI N) I93 A93 (nI b) 114 (6 * p + i)) (qAm121_X12_fits_68 n I02 A02 J2 t2 (nI p) (nI i) (nI d) (nI h) (nI N) I93 A93 (nI b) 115 (6 * p + i)) := by
      have b9 : 9 ≤ best.toInt := by
        rcases hS with ⟨-, -, q⟩ | ⟨k, -, -, ⟨q1, -, -, q4⟩ | ⟨-, -, q⟩⟩
        · rw [q, o9]; omega
        · rw [q4]; omega
        · rw [q, o9]; omega
      by_cases hN : v = -1000000
      · have z : v ≤ best := by rw [hN, tI_le, oN]; omega
        obtain ⟨w1, w2⟩ := clsN z
        rw [w1, w2, refN (Or.inl hN)]
        exact hS
      · have rng : -297 ≤ v.toInt ∧ v.toInt ≤ 306 := by
          rcases s6 with q | q
          · exact absurd q hN
          · exact q
        by_cases hyy : y = -1
        · -- nothing to yield to
          by_cases hup : A93 114 (6 * p + i) = -1 ∨ ¬ v ≤ A93 115 (6 * p + i)
          · obtain ⟨r1, r2⟩ := (refU hN hup).1 hyy
            rw [r1, r2]
            by_cases z : v ≤ best
            · obtain ⟨w1, w2⟩ := clsN z
              rw [w1, w2]
              rw [tI_le] at z
              rcases hS with ⟨q1, q2, q3⟩ | ⟨k, q1, q2, ⟨q3, q4, q5, q6⟩ | ⟨q3, q4, q5⟩⟩
              · rw [q3, o9] at z
                exact Or.inr ⟨b, by omega, rfl, Or.inr ⟨by omega, q2, q3⟩⟩
              · rcases hup with u | u
                · exact absurd (q2.symm.trans u) (sv_n1 (by omega))
                · rw [tI_le] at u
                  rw [q6] at z
                  exact absurd z u
              · rw [q5, o9] at z
                exact Or.inr ⟨b, by omega, rfl, Or.inr ⟨by omega, q4, q5⟩⟩
            · obtain ⟨w1, w2⟩ := clsU z
              rw [w1, w2, if_pos hyy, if_pos hyy]
              rw [tI_le] at z
              exact Or.inr ⟨b, by omega, rfl, Or.inl ⟨by omega, rng.2, rfl, rfl⟩⟩
          · have u1 : ¬ A93 114 (6 * p + i) = -1 := fun q => hup (Or.inl q)
            have u2 : v ≤ A93 115 (6 * p + i) := Classical.byContradiction (fun q => hup (Or.inr q))
            rw [refN (Or.inr ⟨u1, u2⟩)]
            have z : v ≤ best := by
              rw [tI_le] at u2 ⊢
              rcases hS with ⟨q1, -, -⟩ | ⟨k, q1, q2, ⟨q3, q4, q5, q6⟩ | ⟨q3, q4, q5⟩⟩
              · exact absurd q1 u1
              · rw [q6]; exact u2
              · rw [q5, o9]; omega
            obtain ⟨w1, w2⟩ := clsN z
            rw [w1, w2]
            exact hS
        · -- it yields: nothing changes
          have cls : ql8m64_X11_offer_0_tFx n I Ao J t (nI p) (nI i) (nI d) (nI h) (nI N) A39 best bb (nI b) = best ∧ ql9m64_X11_offer_0_tFx n I Ao J t (nI p) (nI i) (nI d) (nI h) (nI N) A39 best bb (nI b) = bb := by
            by_cases z : v ≤ best
            · exact clsN z
            · have := clsU z
              rw [if_neg hyy, if_neg hyy] at this
              exact this
          rw [cls.1, cls.2]
          by_cases hup : A93 114 (6 * p + i) = -1 ∨ ¬ v ≤ A93 115 (6 * p + i)
          · obtain ⟨r1, r2⟩ := (refU hN hup).2 hyy
            rw [r1, r2]; exact hS
          · have u1 : ¬ A93 114 (6 * p + i) = -1 := fun q => hup (Or.inl q)
            have u2 : v ≤ A93 115 (6 * p + i) := Classical.byContradiction (fun q => hup (Or.inr q))
            rw [refN (Or.inr ⟨u1, u2⟩)]; exact hS
    have kA : ∀ d', d' ≠ 45 → d' ≠ 67 → qAm64_X11_offer_0_tFx n I Ao J t (nI p) (nI i) (nI d) (nI h) (nI N) A39 best bb (nI b) d' = A39 d' := fun d' q1 q2 => fr_qAm64_X11_offer_0_tFx (by simp [q1, q2])
    have kB : ∀ d', d' < 107 → qAm121_X12_fits_68 n I02 A02 J2 t2 (nI p) (nI i) (nI d) (nI h) (nI N) I93 A93 (nI b) d' = A93 d' := fun d' q1 => fr_qAm121_X12_fits_68 (by simp; omega)
    have kI : ∀ k, k < 59 → qIm121_X12_fits_68 n I02 A02 J2 t2 (nI p) (nI i) (nI d) (nI h) (nI N) I93 A93 (nI b) 68 k = I93 68 k := fun k q1 => fr_qIm121_X12_fits_68 (by simp; omega)
    obtain ⟨i1, i2, i3, i4⟩ := ih (b + 1) f f2 (qAm64_X11_offer_0_tFx n I Ao J t (nI p) (nI i) (nI d) (nI h) (nI N) A39 best bb (nI b)) (qIm121_X12_fits_68 n I02 A02 J2 t2 (nI p) (nI i) (nI d) (nI h) (nI N) I93 A93 (nI b)) (qAm121_X12_fits_68 n I02 A02 J2 t2 (nI p) (nI i) (nI d) (nI h) (nI N) I93 A93 (nI b)) _ _ (by omega) (by omega) (by omega) (sc_keep hctx (by omega) (fun _ _ _ _ => rfl) (fun d' q => kA d' (by omega) (by omega)) kI kB) (fun d' q => by rw [kA d' (by omega) (by omega)]; exact hao d' q) S'
    have pb8 : pb_X11_strengthBy_0 n I A39 J (false, t.2) (nI i) (nI b) (nI l) (nI d) (q27_X11_offer_0_tFx n I Ao J t (nI p) (nI i) (nI d) (nI h) (nI N)) := by rw [e27]; exact s3
    unfold lb_X11_offer_0_tFx_39 lb_X12_fits_68_93 lp_X11_offer_0_tFx_39 lp_X12_fits_68_93
    rw [if_neg c, if_neg c, e93, e186, e8, e22, e6]
    refine ⟨fun _ => ⟨pb8, fun _ => Y1, i1⟩, fun _ => ⟨s5, fun _ => ⟨v6, fun _ => ⟨Y2, fun _ => ⟨v6, v6⟩⟩, fun _ => ⟨v6, fun _ => ⟨Y2, fun _ => ⟨v6, v6⟩⟩⟩⟩, i2⟩, i3, fun x hx => ?_⟩
    obtain ⟨w1, w2⟩ := i4 x hx
    obtain ⟨w3, w4⟩ := keepx x hx
    exact ⟨w1.trans w3, w2.trans w4⟩
