/-! the programmes that ask, in their order -/
def sc_cn (F : Nat → Bool) : Nat → Nat
  | 0 => 0
  | k + 1 => sc_cn F k + (if F k = true then 1 else 0)
theorem sc_cn_le (F : Nat → Bool) : ∀ k, sc_cn F k ≤ k
  | 0 => Nat.le_refl _
  | k + 1 => by
    have := sc_cn_le F k
    unfold sc_cn
    split <;> omega
theorem sc_cn_eq {F G : Nat → Bool} : ∀ {k : Nat}, (∀ j, j < k → F j = G j) → sc_cn F k = sc_cn G k
  | 0, _ => rfl
  | k + 1, h => by
    unfold sc_cn
    rw [sc_cn_eq (fun j hj => h j (by omega)), h k (by omega)]
theorem sc_cn_at {F : Nat → Bool} : ∀ (k j : Nat), j < sc_cn F k → ∃ q, q < k ∧ F q = true ∧ sc_cn F q = j
  | 0, j, h => absurd h (Nat.not_lt_zero _)
  | k + 1, j, h => by
    unfold sc_cn at h
    by_cases c : F k = true
    · rw [if_pos c] at h
      by_cases w : j = sc_cn F k
      · exact ⟨k, by omega, c, w.symm⟩
      · obtain ⟨q, q1, q2, q3⟩ := sc_cn_at (F := F) k j (by omega)
        exact ⟨q, by omega, q2, q3⟩
    · rw [if_neg c] at h
      obtain ⟨q, q1, q2, q3⟩ := sc_cn_at (F := F) k j (by omega)
      exact ⟨q, by omega, q2, q3⟩
theorem sc_cn_mono {F : Nat → Bool} {q r : Nat} (h : q ≤ r) : sc_cn F q ≤ sc_cn F r := by
  induction h with
  | refl => exact Nat.le_refl _
  | step _ ih => exact Nat.le_trans ih (by
      show _ ≤ sc_cn F _ + _
      exact Nat.le_add_right _ _)
theorem sc_cn_lt {F : Nat → Bool} {q r : Nat} (h : q < r) (hq : F q = true) : sc_cn F q < sc_cn F r := by
  have : sc_cn F (q + 1) ≤ sc_cn F r := sc_cn_mono h
  have e : sc_cn F (q + 1) = sc_cn F q + 1 := by
    conv => lhs; rw [sc_cn]
    rw [if_pos hq]
  omega
def sc_ask (I A : Nat → Nat → Int32) (F : Nat → Bool) (p : Nat) (a : Bool) : Prop := I 46 5 = nI (sc_cn F p + (if a = true then 1 else 0)) ∧ (∀ q, q < p → F q = true → A 51 (sc_cn F q) = nI q) ∧ (a = true → A 51 (sc_cn F p) = nI p)
def sc_pr (A B : Nat → Nat → Int32) (ix hd : Nat) (aim : Int32) : Prop := (B 114 ix = -1 ∧ A 47 ix = 0) ∨ (∃ b s : Nat, b < 6 ∧ 10 ≤ s ∧ s ≤ 306 ∧ B 114 ix = nI b ∧ B 115 ix = nI s ∧ B 116 ix = aim ∧ A 47 ix = nI (4096 * hd + s) ∧ A 48 ix = nI b ∧ A 49 ix = nI s)
theorem sc_off {n : Nat} {I A : Nat → Nat → Int32} {J : Nat → Nat → Int64} {t : Bool × Bool} {F : Nat → Bool} {a : Bool} {p i b s hd : Nat} (h : sc_ask I A F p a) (p10 : p < 10) (i6 : i < 6) :
    pb_X3_offer_46 n I A J t (nI p) (nI i) (nI b) (nI s) (nI hd) ∧ sc_ask (pI_X3_offer_46 n I A J t (nI p) (nI i) (nI b) (nI s) (nI hd)) (pA_X3_offer_46 n I A J t (nI p) (nI i) (nI b) (nI s) (nI hd)) F p true ∧
    (∀ x, pA_X3_offer_46 n I A J t (nI p) (nI i) (nI b) (nI s) (nI hd) 47 x = (if x = 6 * p + i then nI (4096 * hd + s) else A 47 x) ∧ pA_X3_offer_46 n I A J t (nI p) (nI i) (nI b) (nI s) (nI hd) 48 x = (if x = 6 * p + i then nI b else A 48 x) ∧ pA_X3_offer_46 n I A J t (nI p) (nI i) (nI b) (nI s) (nI hd) 49 x = (if x = 6 * p + i then nI s else A 49 x)) := by
  obtain ⟨h1, h2, h3⟩ := h
  have cnp := sc_cn_le F p
  have e6 : q6_X3_offer_46 n I A J t (nI p) (nI i) (nI b) (nI s) (nI hd) = nI (6 * p + i) := by
    unfold q6_X3_offer_46
    have : (6 : Int32) = nI 6 := rfl
    rw [this, pk_mul, nI_add, Nat.mul_comm]
  have c6 : (nI (6 * p + i)).toNatClampNeg = 6 * p + i := nI_clamp (by omega)
  have v6 : vp_in (nI (6 * p + i)) 60 := vp_in_nI (by omega) (by decide)
  have eg : nI hd * 4096 + nI s = nI (4096 * hd + s) := by
    have : (4096 : Int32) = nI 4096 := rfl
    rw [this, pk_mul, nI_add, Nat.mul_comm]
  have e40 : qA40_X3_offer_46 n I A J t (nI p) (nI i) (nI b) (nI s) (nI hd) = cw_u (cw_u (cw_u A 47 (6 * p + i) (nI (4096 * hd + s))) 48 (6 * p + i) (nI b)) 49 (6 * p + i) (nI s) := by
    unfold qA40_X3_offer_46 qA31_X3_offer_46 qA23_X3_offer_46
    rw [e6, c6, eg]
  have o51 : qA40_X3_offer_46 n I A J t (nI p) (nI i) (nI b) (nI s) (nI hd) 51 = A 51 := by
    rw [e40, cw_u_c _ _ (by decide), cw_u_c _ _ (by decide), cw_u_c _ _ (by decide)]
  have rows : ∀ (C : Nat → Nat → Int32), C 47 = qA40_X3_offer_46 n I A J t (nI p) (nI i) (nI b) (nI s) (nI hd) 47 → C 48 = qA40_X3_offer_46 n I A J t (nI p) (nI i) (nI b) (nI s) (nI hd) 48 → C 49 = qA40_X3_offer_46 n I A J t (nI p) (nI i) (nI b) (nI s) (nI hd) 49 → ∀ x, C 47 x = (if x = 6 * p + i then nI (4096 * hd + s) else A 47 x) ∧ C 48 x = (if x = 6 * p + i then nI b else A 48 x) ∧ C 49 x = (if x = 6 * p + i then nI s else A 49 x) := fun C q1 q2 q3 x => by
    rw [q1, q2, q3, e40]
    by_cases w : x = 6 * p + i
    · subst w
      simp only [cw_u]
      simp
    · simp only [cw_u]
      simp [w]
  cases a with
  | true =>
    have h1' : I 46 5 = nI (sc_cn F p + 1) := h1
    have e1 : nI (sc_cn F p + 1) - 1 = nI (sc_cn F p) := nI_pred _
    have n0 : ¬ nI (sc_cn F p + 1) ≤ 0 := nI_nle (by omega) (by omega)
    have q45 : qs0m45_X3_offer_46 n I A J t (nI p) (nI i) (nI b) (nI s) (nI hd) = 1 := by
      unfold qs0m45_X3_offer_46 qs0m60_X3_offer_46
      rw [h1', if_neg n0, e1, nI_clamp (by omega), o51, h3 rfl, if_pos rfl]
    have o1 : ¬ (1 : Int32) = 0 := by decide
    have pI : pI_X3_offer_46 n I A J t (nI p) (nI i) (nI b) (nI s) (nI hd) = I := by
      unfold pI_X3_offer_46 qIm72_X3_offer_46
      rw [q45, if_neg o1]
    have pA : pA_X3_offer_46 n I A J t (nI p) (nI i) (nI b) (nI s) (nI hd) = qA40_X3_offer_46 n I A J t (nI p) (nI i) (nI b) (nI s) (nI hd) := by
      unfold pA_X3_offer_46 qAm72_X3_offer_46
      rw [q45, if_neg o1]
    refine ⟨?_, ?_, ?_⟩
    · unfold pb_X3_offer_46
      rw [e6, h1', e1, q45]
      exact ⟨v6, v6, v6, fun _ => vp_in_nI (by omega) (by decide), fun z => absurd z o1⟩
    · rw [pI, pA]
      exact ⟨h1, by rw [o51]; exact h2, by rw [o51]; exact h3⟩
    · rw [pA]
      exact rows _ rfl rfl rfl
  | false =>
    have h1' : I 46 5 = nI (sc_cn F p) := h1
    have q45 : qs0m45_X3_offer_46 n I A J t (nI p) (nI i) (nI b) (nI s) (nI hd) = 0 := by
      unfold qs0m45_X3_offer_46 qs0m60_X3_offer_46
      rw [h1']
      by_cases z : sc_cn F p = 0
      · rw [z, if_pos (by decide)]
      · obtain ⟨k, hk⟩ : ∃ k, sc_cn F p = k + 1 := ⟨sc_cn F p - 1, by omega⟩
        rw [hk, if_neg (nI_nle (by omega) (by omega)), nI_pred, nI_clamp (by omega), o51]
        obtain ⟨q, q1, q2, q3⟩ := sc_cn_at (F := F) p k (by omega)
        have := h2 q q1 q2
        rw [q3] at this
        rw [this, if_neg (fun y => by
          have := (nI_eq (by omega) (by omega)).mp y
          omega)]
    have n10 : ¬ 10 ≤ nI (sc_cn F p) := nI_ge (b := 10) (by omega) (by omega)
    have pI : pI_X3_offer_46 n I A J t (nI p) (nI i) (nI b) (nI s) (nI hd) = cw_u I 46 5 (nI (sc_cn F p + 1)) := by
      unfold pI_X3_offer_46 qIm72_X3_offer_46 qIm81_X3_offer_46 qI101_X3_offer_46
      rw [q45, if_pos rfl, h1', if_neg n10, nI_1]
    have pA : pA_X3_offer_46 n I A J t (nI p) (nI i) (nI b) (nI s) (nI hd) = cw_u (qA40_X3_offer_46 n I A J t (nI p) (nI i) (nI b) (nI s) (nI hd)) 51 (sc_cn F p) (nI p) := by
      unfold pA_X3_offer_46 qAm72_X3_offer_46 qAm81_X3_offer_46 qA93_X3_offer_46
      rw [q45, if_pos rfl, h1', if_neg n10, nI_clamp (by omega)]
    refine ⟨?_, ?_, ?_⟩
    · unfold pb_X3_offer_46
      rw [e6, h1', q45]
      refine ⟨v6, v6, v6, fun z => ?_, fun _ _ => vp_in_nI (by omega) (by decide)⟩
      by_cases w : sc_cn F p = 0
      · rw [w] at z; exact absurd (by decide) z
      · obtain ⟨k, hk⟩ : ∃ k, sc_cn F p = k + 1 := ⟨sc_cn F p - 1, by omega⟩
        rw [hk, nI_pred]; exact vp_in_nI (by omega) (by decide)
    · rw [pI, pA]
      refine ⟨by rw [cw_u_s]; rfl, fun q hq hF => ?_, fun _ => by rw [cw_u_s]⟩
      have := sc_cn_lt hq hF
      rw [cw_u_k _ _ (by omega), o51]
      exact h2 q hq hF
    · rw [pA]
      exact rows _ (cw_u_c _ _ (by decide)) (cw_u_c _ _ (by decide)) (cw_u_c _ _ (by decide))
theorem sc_f2 {n : Nat} {I A : Nat → Nat → Int32} {J : Nat → Nat → Int64} {t : Bool × Bool} {x1 x2 x3 x4 x5 : Int32} : ∀ (f : Nat) (I93 A93 : Nat → Nat → Int32) (v : Int32), lp_X12_fits_68_93_2 n I A J t x1 x2 x3 x4 x5 f I93 A93 v = lp_X12_fits_68_93 n I A J t x1 x2 x3 x4 x5 f I93 A93 v ∧ (lb_X12_fits_68_93 n I A J t x1 x2 x3 x4 x5 f I93 A93 v → lb_X12_fits_68_93_2 n I A J t x1 x2 x3 x4 x5 f I93 A93 v) := by
  intro f
  induction f with
  | zero => intro I93 A93 v; exact ⟨rfl, fun z => z⟩
  | succ f ih =>
    intro I93 A93 v
    constructor
    · unfold lp_X12_fits_68_93_2 lp_X12_fits_68_93
      rw [(ih _ _ _).1]
    · intro z
      unfold lb_X12_fits_68_93 at z
      unfold lb_X12_fits_68_93_2
      exact fun c => ⟨(z c).1, (z c).2.1, (ih _ _ _).2 (z c).2.2⟩
set_option maxHeartbeats 2000000 in
/-- one programme and one mast, in an hour in which the programme is on -/
theorem sc_pair37 {n : Nat} {I A I0 A0 I2 B : Nat → Nat → Int32} {J J2 J0 : Nat → Nat → Int64} {t t2 t0 : Bool × Bool} {N m p i l d h hd : Nat} {F : Nat → Bool} {a : Bool} (hn : 500 ≤ n) (p10 : p < 10) (i6 : i < 6) (l8 : l < 8) (hdd : d < 3600) (h24 : h < 24) (hctx : sc_ctx 37 n I0 A0 J0 t0 N m I A I2 B) (el : A 13 p = nI l) (on1 : ¬ nI h < A 14 p) (on2 : nI h < A 15 p) (ehd : A 4 l = nI hd) (hask : sc_ask I A F p a) (h47 : A 47 (6 * p + i) = 0) (hwas : px_X5_aimOfMast_53 n I A J (true, t.2) (nI h - 1) (nI i) = B 117 i) :
    pb_X6_landOf_12 n I A J (true, t.2) (nI p) ∧ (pb_X5_aimOfMast_53 n I A J (true, t.2) (nI h - 1) (nI i) → pb_X11_isTurned_0 n I A J (true, t.2) (nI i) (px_X6_landOf_12 n I A J (true, t.2) (nI p)) (nI h)) ∧
    (¬ px_X11_isTurned_0 n I A J (true, t.2) (nI i) (px_X6_landOf_12 n I A J (true, t.2) (nI p)) (nI h) = 0 → pb_X11_offer_0_tTx n I A J (true, t.2) (nI p) (nI i) (nI d) (nI h) (nI N)) ∧ pb_X12_fits_68 n I2 B J2 t2 (nI p) (nI i) (nI d) (nI h) (nI N) ∧
    ∃ I' A', I' = (if px_X11_isTurned_0 n I A J (true, t.2) (nI i) (px_X6_landOf_12 n I A J (true, t.2) (nI p)) (nI h) = 0 then I else pI_X11_offer_0_tTx n I A J (true, t.2) (nI p) (nI i) (nI d) (nI h) (nI N)) ∧ A' = (if px_X11_isTurned_0 n I A J (true, t.2) (nI i) (px_X6_landOf_12 n I A J (true, t.2) (nI p)) (nI h) = 0 then A else pA_X11_offer_0_tTx n I A J (true, t.2) (nI p) (nI i) (nI d) (nI h) (nI N)) ∧
      sc_pr A' (pA_X12_fits_68 n I2 B J2 t2 (nI p) (nI i) (nI d) (nI h) (nI N)) (6 * p + i) hd (px_X9_aimTo_5_1 n I A J t (A 10 i) (nI l)) ∧
      (∃ a', sc_ask I' A' F p a' ∧ (a' = true ↔ (a = true ∨ ¬ pA_X12_fits_68 n I2 B J2 t2 (nI p) (nI i) (nI d) (nI h) (nI N) 114 (6 * p + i) = -1))) ∧
      (∀ x, ¬ x = 6 * p + i → A' 47 x = A 47 x ∧ A' 48 x = A 48 x ∧ A' 49 x = A 49 x ∧ pA_X12_fits_68 n I2 B J2 t2 (nI p) (nI i) (nI d) (nI h) (nI N) 114 x = B 114 x ∧ pA_X12_fits_68 n I2 B J2 t2 (nI p) (nI i) (nI d) (nI h) (nI N) 115 x = B 115 x ∧ pA_X12_fits_68 n I2 B J2 t2 (nI p) (nI i) (nI d) (nI h) (nI N) 116 x = B 116 x) := by
  have cp : (nI p).toNatClampNeg = p := nI_clamp (by omega)
  have ci : (nI i).toNatClampNeg = i := nI_clamp (by omega)
  have vp : vp_in (nI p) 10 := vp_in_nI p10 (by decide)
  have vi : vp_in (nI i) 6 := vp_in_nI i6 (by decide)
  have e6 : q6_X12_fits_68 n I2 B J2 t2 (nI p) (nI i) (nI d) (nI h) (nI N) = nI (6 * p + i) := lz_ix6 p i
  have c6 : (nI (6 * p + i)).toNatClampNeg = 6 * p + i := nI_clamp (by omega)
  have v6 : vp_in (nI (6 * p + i)) 60 := vp_in_nI (by omega) (by decide)
  obtain ⟨⟨h1, h2, h3, h4, h5, h6, h7⟩, g1, g2, g3, g4, g5, g6, g7, g8, g9, g10⟩ := id hctx
  obtain ⟨p1, p2, p3, -⟩ := h4.2 p p10
  obtain ⟨m1, m2, m3, m4⟩ := h3.2 i i6
  obtain ⟨s, s4, es⟩ := vp_in_of m3 (by decide)
  have e15 : qA15_X12_fits_68 n I2 B J2 t2 (nI p) (nI i) (nI d) (nI h) (nI N) = cw_u B 114 (6 * p + i) (-1) := by
    unfold qA15_X12_fits_68
    rw [e6, c6]
  have k15 : ∀ c, c ≠ 114 → qA15_X12_fits_68 n I2 B J2 t2 (nI p) (nI i) (nI d) (nI h) (nI N) c = B c := fun c hc => by rw [e15, cw_u_c _ _ hc]
  have eB94 : B 94 p = nI l := by rw [← p1, el]
  have e22 : q22_X12_fits_68 n I2 B J2 t2 (nI p) (nI i) (nI d) (nI h) (nI N) = nI l := by
    unfold q22_X12_fits_68
    rw [k15 94 (by decide), cp, eB94]
  have e92 : B 92 i = nI s := by rw [← m1, es]
  have el2 : px_X6_landOf_12 n I A J (true, t.2) (nI p) = nI l := by
    unfold px_X6_landOf_12
    rw [cp, el]
  have es2 : px_X2_siteOf_9 n I A J (true, t.2) (nI i) = nI s := by
    unfold px_X2_siteOf_9
    rw [ci, es]
  -- the aim
  have hctx15 := sc_keep (I' := I) (A' := A) (I2' := I2) (A2' := qA15_X12_fits_68 n I2 B J2 t2 (nI p) (nI i) (nI d) (nI h) (nI N)) hctx (by omega) (fun _ _ _ _ => rfl) (fun _ _ => rfl) (fun _ _ => rfl) (fun d' hd' => k15 d' (by omega))
  obtain ⟨-, -, am1, -, -, -, am2⟩ := gw_5 (n := n) (J := J) (t := (true, t.2)) (J2 := J2) (t2 := t2) hctx15.1.1 hctx15.1.2.1 s4 l8
  have e66 : q66_X12_fits_68 n I2 B J2 t2 (nI p) (nI i) (nI d) (nI h) (nI N) = px_X9_aimTo_5_1 n I A J (true, t.2) (nI s) (nI l) := by
    unfold q66_X12_fits_68
    rw [k15 92 (by decide), ci, e92, e22, gw_p8, am1]
  have eaim : px_X9_aimTo_5_1 n I A J t (A 10 i) (nI l) = px_X9_aimTo_5_1 n I A J (true, t.2) (nI s) (nI l) := by
    rw [es]; exact sc_aim rfl rfl rfl rfl
  have f95 : ¬ nI h < qA15_X12_fits_68 n I2 B J2 t2 (nI p) (nI i) (nI d) (nI h) (nI N) 95 p := by rw [k15 95 (by decide), ← p2]; exact on1
  have f96 : nI h < qA15_X12_fits_68 n I2 B J2 t2 (nI p) (nI i) (nI d) (nI h) (nI N) 96 p := by rw [k15 96 (by decide), ← p3]; exact on2
  have f117 : qA15_X12_fits_68 n I2 B J2 t2 (nI p) (nI i) (nI d) (nI h) (nI N) 117 i = B 117 i := by rw [k15 117 (by decide)]
  have pgo : pb_X12_goes_68 n I2 (qA15_X12_fits_68 n I2 B J2 t2 (nI p) (nI i) (nI d) (nI h) (nI N)) J2 t2 (nI (8 + s)) (nI l) := gw_goesb (by omega) (by omega)
  have tur : px_X11_isTurned_0 n I A J (true, t.2) (nI i) (px_X6_landOf_12 n I A J (true, t.2) (nI p)) (nI h) = (if B 117 i = -1 then 1 else if B 117 i = px_X9_aimTo_5_1 n I A J (true, t.2) (nI s) (nI l) then 1 else 0) := by
    unfold px_X11_isTurned_0 qs0m16_X11_isTurned_0 qs0m41_X11_isTurned_0 q11_X11_isTurned_0
    rw [hwas, el2, es2]
  have pbt : pb_X5_aimOfMast_53 n I A J (true, t.2) (nI h - 1) (nI i) → pb_X11_isTurned_0 n I A J (true, t.2) (nI i) (px_X6_landOf_12 n I A J (true, t.2) (nI p)) (nI h) := fun z => by
    unfold pb_X11_isTurned_0
    rw [es2, el2]
    exact ⟨z, fun _ => ⟨vi, am2⟩⟩
  have o1 : ¬ (1 : Int32) = 0 := by decide
  -- the loop over the bands
  have z0 : nI 0 = 0 := nI_0
  obtain ⟨b1, b2, b3, b4⟩ := sc_band37 (n := n) (I := I) (Ao := A) (I0 := I0) (A0 := A0) (I02 := I2) (A02 := B) (J := J) (J2 := J2) (J0 := J0) (t := (true, t.2)) (t2 := t2) (t0 := t0) (N := N) (m := m) hn p10 i6 l8 hdd h24 el eB94 6 0 n n A (pI_X12_goes_68 n I2 (qA15_X12_fits_68 n I2 B J2 t2 (nI p) (nI i) (nI d) (nI h) (nI N)) J2 t2 (nI (8 + s)) (nI l)) (qA15_X12_fits_68 n I2 B J2 t2 (nI p) (nI i) (nI d) (nI h) (nI N)) 9 (-1) (by omega) (by omega) (by omega)
    (sc_keep hctx15 (by omega) (fun _ _ _ _ => rfl) (fun _ _ => rfl) (fun k hk => fr_pI_X12_goes_68 (by simp; omega)) (fun _ _ => rfl)) (fun _ _ => rfl) (Or.inl ⟨by rw [e15, cw_u_s], rfl, rfl⟩)
  rw [z0] at b1 b2 b3 b4
  have eq8 : q8_X11_offer_0_tTx n I A J (true, t.2) (nI p) (nI i) (nI d) (nI h) (nI N) = nI l := el2
  have site2 : px_X2_siteOf_9 n I A J (true, (true, t.2).2) (nI i) = nI s := es2
  obtain ⟨-, w2, -⟩ := tb_told (n := n) (J := J) (t := (true, t.2)) (J2 := J2) (t2 := t2) h1 h2 h5 s4 l8 (b := 0) (by omega) hdd h24
  -- what the two end with
  have W : ∀ (R : Nat → Nat → Int32), R = (lp_X12_fits_68_93 n I2 B J2 t2 (nI p) (nI i) (nI d) (nI h) (nI N) n (pI_X12_goes_68 n I2 (qA15_X12_fits_68 n I2 B J2 t2 (nI p) (nI i) (nI d) (nI h) (nI N)) J2 t2 (nI (8 + s)) (nI l)) (qA15_X12_fits_68 n I2 B J2 t2 (nI p) (nI i) (nI d) (nI h) (nI N)) 0).2.1 →
      ∀ C : Nat → Nat → Int32, C = cw_u (if R 114 (6 * p + i) = -1 then R else if 10 ≤ R 115 (6 * p + i) then R else cw_u R 114 (6 * p + i) (-1)) 116 (6 * p + i) (px_X9_aimTo_5_1 n I A J (true, t.2) (nI s) (nI l)) →
      pb_X11_offer_0_tTx n I A J (true, t.2) (nI p) (nI i) (nI d) (nI h) (nI N) ∧ sc_pr (pA_X11_offer_0_tTx n I A J (true, t.2) (nI p) (nI i) (nI d) (nI h) (nI N)) C (6 * p + i) hd (px_X9_aimTo_5_1 n I A J t (A 10 i) (nI l)) ∧
      (∃ a', sc_ask (pI_X11_offer_0_tTx n I A J (true, t.2) (nI p) (nI i) (nI d) (nI h) (nI N)) (pA_X11_offer_0_tTx n I A J (true, t.2) (nI p) (nI i) (nI d) (nI h) (nI N)) F p a' ∧ (a' = true ↔ (a = true ∨ ¬ C 114 (6 * p + i) = -1))) ∧
      (∀ x, ¬ x = 6 * p + i → pA_X11_offer_0_tTx n I A J (true, t.2) (nI p) (nI i) (nI d) (nI h) (nI N) 47 x = A 47 x ∧ pA_X11_offer_0_tTx n I A J (true, t.2) (nI p) (nI i) (nI d) (nI h) (nI N) 48 x = A 48 x ∧ pA_X11_offer_0_tTx n I A J (true, t.2) (nI p) (nI i) (nI d) (nI h) (nI N) 49 x = A 49 x ∧ C 114 x = B 114 x ∧ C 115 x = B 115 x ∧ C 116 x = B 116 x) := by
    intro R hR C hC
    rw [← hR] at b3 b4
    have kC : ∀ x, ¬ x = 6 * p + i → C 114 x = B 114 x ∧ C 115 x = B 115 x ∧ C 116 x = B 116 x := fun x hx => by
      obtain ⟨w3, w4⟩ := b4 x hx
      have w5 : R 116 = B 116 := by
        rw [hR, fr_lp_X12_fits_68_93_c1 (by decide)]
        exact k15 116 (by decide)
      have w6 : qA15_X12_fits_68 n I2 B J2 t2 (nI p) (nI i) (nI d) (nI h) (nI N) 114 x = B 114 x := by rw [e15, cw_u_k _ _ hx]
      have w7 : qA15_X12_fits_68 n I2 B J2 t2 (nI p) (nI i) (nI d) (nI h) (nI N) 115 x = B 115 x := by rw [k15 115 (by decide)]
      rw [hC, cw_u_c _ _ (by decide), cw_u_c _ _ (by decide), cw_u_k _ _ hx]
      refine ⟨?_, ?_, ?_⟩
      · split
        · exact w3.trans w6
        · split
          · exact w3.trans w6
          · rw [cw_u_k _ _ hx]; exact w3.trans w6
      · split
        · exact w4.trans w7
        · split
          · exact w4.trans w7
          · rw [cw_u_c _ _ (by decide)]; exact w4.trans w7
      · split
        · rw [w5]
        · split
          · rw [w5]
          · rw [cw_u_c _ _ (by decide), w5]
    have kA39 : ∀ c, c ≠ 45 → c ≠ 44 → qAw39_X11_offer_0_tTx n I A J (true, t.2) (nI p) (nI i) (nI d) (nI h) (nI N) c = A c := fun c q1 q2 => fr_qAw39_X11_offer_0_tTx (by simp [q1, q2])
    have ask39 : sc_ask I (qAw39_X11_offer_0_tTx n I A J (true, t.2) (nI p) (nI i) (nI d) (nI h) (nI N)) F p a := by
      obtain ⟨q1, q2, q3⟩ := hask
      refine ⟨q1, ?_, ?_⟩
      · rw [kA39 51 (by decide) (by decide)]; exact q2
      · rw [kA39 51 (by decide) (by decide)]; exact q3
    have q8w : q8w39_X11_offer_0_tTx n I A J (true, t.2) (nI p) (nI i) (nI d) (nI h) (nI N) = (lp_X11_offer_0_tTx_39 n I A J (true, t.2) (nI p) (nI i) (nI d) (nI h) (nI N) n A 9 (-1) 0).2.1 := rfl
    have q9w : q9w39_X11_offer_0_tTx n I A J (true, t.2) (nI p) (nI i) (nI d) (nI h) (nI N) = (lp_X11_offer_0_tTx_39 n I A J (true, t.2) (nI p) (nI i) (nI d) (nI h) (nI N) n A 9 (-1) 0).2.2.1 := rfl
    rw [← q8w, ← q9w] at b3
    have elis : px_X9_listenersOf_1 n I (qAw39_X11_offer_0_tTx n I A J (true, t.2) (nI p) (nI i) (nI d) (nI h) (nI N)) J (true, t.2) (nI l) = nI hd := by
      unfold px_X9_listenersOf_1
      rw [nI_clamp (by omega), kA39 4 (by decide) (by decide), ehd]
    have vl : vp_in (nI l) 8 := vp_in_nI l8 (by decide)
    -- no band is heard
    have none : q9w39_X11_offer_0_tTx n I A J (true, t.2) (nI p) (nI i) (nI d) (nI h) (nI N) = -1 → C 114 (6 * p + i) = -1 → pb_X11_offer_0_tTx n I A J (true, t.2) (nI p) (nI i) (nI d) (nI h) (nI N) ∧ sc_pr (pA_X11_offer_0_tTx n I A J (true, t.2) (nI p) (nI i) (nI d) (nI h) (nI N)) C (6 * p + i) hd (px_X9_aimTo_5_1 n I A J t (A 10 i) (nI l)) ∧ (∃ a', sc_ask (pI_X11_offer_0_tTx n I A J (true, t.2) (nI p) (nI i) (nI d) (nI h) (nI N)) (pA_X11_offer_0_tTx n I A J (true, t.2) (nI p) (nI i) (nI d) (nI h) (nI N)) F p a' ∧ (a' = true ↔ (a = true ∨ ¬ C 114 (6 * p + i) = -1))) ∧ (∀ x, ¬ x = 6 * p + i → pA_X11_offer_0_tTx n I A J (true, t.2) (nI p) (nI i) (nI d) (nI h) (nI N) 47 x = A 47 x ∧ pA_X11_offer_0_tTx n I A J (true, t.2) (nI p) (nI i) (nI d) (nI h) (nI N) 48 x = A 48 x ∧ pA_X11_offer_0_tTx n I A J (true, t.2) (nI p) (nI i) (nI d) (nI h) (nI N) 49 x = A 49 x ∧ C 114 x = B 114 x ∧ C 115 x = B 115 x ∧ C 116 x = B 116 x) := fun z1 z2 => by
      have eI : pI_X11_offer_0_tTx n I A J (true, t.2) (nI p) (nI i) (nI d) (nI h) (nI N) = I := by
        unfold pI_X11_offer_0_tTx qIm102_X11_offer_0_tTx
        rw [z1, if_pos rfl]
      have eA : pA_X11_offer_0_tTx n I A J (true, t.2) (nI p) (nI i) (nI d) (nI h) (nI N) = qAw39_X11_offer_0_tTx n I A J (true, t.2) (nI p) (nI i) (nI d) (nI h) (nI N) := by
        unfold pA_X11_offer_0_tTx qAm102_X11_offer_0_tTx
        rw [z1, if_pos rfl]
      rw [eI, eA]
      refine ⟨?_, Or.inl ⟨z2, by rw [kA39 47 (by decide) (by decide)]; exact h47⟩, ⟨a, ask39, ?_⟩, fun x hx => ?_⟩
      · unfold pb_X11_offer_0_tTx
        rw [eq8, site2, z1]
        exact ⟨vp, vi, w2, b1, fun y => absurd rfl y⟩
      · constructor
        · exact fun y => Or.inl y
        · intro y
          rcases y with y | y
          · exact y
          · exact absurd z2 y
      · rw [kA39 47 (by decide) (by decide), kA39 48 (by decide) (by decide), kA39 49 (by decide) (by decide)]
        exact ⟨rfl, rfl, rfl, kC x hx⟩
    rcases b3 with ⟨c1, c2, c3⟩ | ⟨k, k6, c1, ⟨c2, c3, c4, c5⟩ | ⟨c2, c3, c4⟩⟩
    · refine none c2 ?_
      rw [hC, cw_u_c _ _ (by decide), if_pos c1]
      exact c1
    · -- a band is heard
      obtain ⟨sg, hsg⟩ : ∃ sg : Nat, (sg : Int) = (R 115 (6 * p + i)).toInt := ⟨(R 115 (6 * p + i)).toInt.toNat, by omega⟩
      have esg : R 115 (6 * p + i) = nI sg := by rw [tI_eq, tI_nI (by omega), hsg]
      have t10 : 10 ≤ R 115 (6 * p + i) := by rw [tI_le]; exact c2
      have nb : ¬ R 114 (6 * p + i) = -1 := by rw [c1]; exact sv_n1 (by omega)
      rw [c1] at c4
      rw [esg] at c5
      have nb9 : ¬ q9w39_X11_offer_0_tTx n I A J (true, t.2) (nI p) (nI i) (nI d) (nI h) (nI N) = -1 := by rw [c4]; exact sv_n1 (by omega)
      obtain ⟨f1, f2, f3⟩ := sc_off (n := n) (J := J) (t := (true, t.2)) (i := i) (b := k) (s := sg) (hd := hd) ask39 p10 i6
      have eI : pI_X11_offer_0_tTx n I A J (true, t.2) (nI p) (nI i) (nI d) (nI h) (nI N) = pI_X3_offer_46 n I (qAw39_X11_offer_0_tTx n I A J (true, t.2) (nI p) (nI i) (nI d) (nI h) (nI N)) J (true, t.2) (nI p) (nI i) (nI k) (nI sg) (nI hd) := by
        unfold pI_X11_offer_0_tTx qIm102_X11_offer_0_tTx
        rw [if_neg nb9, eq8, elis, c4, c5]
      have eA : pA_X11_offer_0_tTx n I A J (true, t.2) (nI p) (nI i) (nI d) (nI h) (nI N) = pA_X3_offer_46 n I (qAw39_X11_offer_0_tTx n I A J (true, t.2) (nI p) (nI i) (nI d) (nI h) (nI N)) J (true, t.2) (nI p) (nI i) (nI k) (nI sg) (nI hd) := by
        unfold pA_X11_offer_0_tTx qAm102_X11_offer_0_tTx
        rw [if_neg nb9, eq8, elis, c4, c5]
      have C114 : C 114 (6 * p + i) = nI k := by rw [hC, cw_u_c _ _ (by decide), if_neg nb, if_pos t10]; exact c1
      have C115 : C 115 (6 * p + i) = nI sg := by rw [hC, cw_u_c _ _ (by decide), if_neg nb, if_pos t10]; exact esg
      have C116 : C 116 (6 * p + i) = px_X9_aimTo_5_1 n I A J t (A 10 i) (nI l) := by rw [hC, cw_u_s, eaim]
      rw [eI, eA]
      obtain ⟨r1, r2, r3⟩ := f3 (6 * p + i)
      rw [if_pos rfl] at r1 r2 r3
      refine ⟨?_, Or.inr ⟨k, sg, k6, by omega, by omega, C114, C115, C116, r1, r2, r3⟩, ⟨true, f2, ?_⟩, fun x hx => ?_⟩
      · unfold pb_X11_offer_0_tTx
        rw [eq8, site2, elis, c4, c5]
        exact ⟨vp, vi, w2, b1, fun _ => ⟨vl, f1⟩⟩
      · rw [C114]
        exact ⟨fun _ => Or.inr (sv_n1 (by omega)), fun _ => rfl⟩
      · obtain ⟨r4, r5, r6⟩ := f3 x
        rw [if_neg hx] at r4 r5 r6
        rw [r4, r5, r6, kA39 47 (by decide) (by decide), kA39 48 (by decide) (by decide), kA39 49 (by decide) (by decide)]
        exact ⟨rfl, rfl, rfl, kC x hx⟩
    · refine none c3 ?_
      have t10 : ¬ 10 ≤ R 115 (6 * p + i) := by
        rw [tI_le]
        have : (10 : Int32).toInt = 10 := rfl
        omega
      have nb : ¬ R 114 (6 * p + i) = -1 := by rw [c1]; exact sv_n1 (by omega)
      rw [hC, cw_u_c _ _ (by decide), if_neg nb, if_neg t10, cw_u_s]
  have vland : pb_X6_landOf_12 n I A J (true, t.2) (nI p) := vp
  have sf := sc_f2 (n := n) (I := I2) (A := B) (J := J2) (t := t2) (x1 := nI p) (x2 := nI i) (x3 := nI d) (x4 := nI h) (x5 := nI N) n (pI_X12_goes_68 n I2 (qA15_X12_fits_68 n I2 B J2 t2 (nI p) (nI i) (nI d) (nI h) (nI N)) J2 t2 (nI (8 + s)) (nI l)) (qA15_X12_fits_68 n I2 B J2 t2 (nI p) (nI i) (nI d) (nI h) (nI N)) 0
  have pbf : pb_X12_fits_68 n I2 B J2 t2 (nI p) (nI i) (nI d) (nI h) (nI N) := by
    unfold pb_X12_fits_68
    rw [cp, ci, e6, e22, k15 92 (by decide), e92, gw_p8]
    exact ⟨v6, vp, vp, fun _ => ⟨vp, fun _ => ⟨vi, pgo, vi, fun _ => ⟨b2, v6, fun _ => ⟨v6, fun _ => v6⟩, v6⟩, fun _ => ⟨vi, fun _ => ⟨sf.2 b2, v6, fun _ => ⟨v6, fun _ => v6⟩, v6⟩⟩⟩⟩⟩
  have fA : pA_X12_fits_68 n I2 B J2 t2 (nI p) (nI i) (nI d) (nI h) (nI N) = (if B 117 i = -1 then qA231_X12_fits_68 n I2 B J2 t2 (nI p) (nI i) (nI d) (nI h) (nI N) else if B 117 i = px_X9_aimTo_5_1 n I A J (true, t.2) (nI s) (nI l) then qA231_7_X12_fits_68 n I2 B J2 t2 (nI p) (nI i) (nI d) (nI h) (nI N) else cw_u B 114 (6 * p + i) (-1)) := by
    unfold pA_X12_fits_68
    rw [cp, ci, if_neg f95, if_pos f96, f117, e66, e15]
  have eW : qAw93_X12_fits_68 n I2 B J2 t2 (nI p) (nI i) (nI d) (nI h) (nI N) = (lp_X12_fits_68_93 n I2 B J2 t2 (nI p) (nI i) (nI d) (nI h) (nI N) n (pI_X12_goes_68 n I2 (qA15_X12_fits_68 n I2 B J2 t2 (nI p) (nI i) (nI d) (nI h) (nI N)) J2 t2 (nI (8 + s)) (nI l)) (qA15_X12_fits_68 n I2 B J2 t2 (nI p) (nI i) (nI d) (nI h) (nI N)) 0).2.1 := by
    unfold qAw93_X12_fits_68
    rw [e22, k15 92 (by decide), ci, e92, gw_p8]
  have eW2 : qAw93_2_X12_fits_68 n I2 B J2 t2 (nI p) (nI i) (nI d) (nI h) (nI N) = (lp_X12_fits_68_93 n I2 B J2 t2 (nI p) (nI i) (nI d) (nI h) (nI N) n (pI_X12_goes_68 n I2 (qA15_X12_fits_68 n I2 B J2 t2 (nI p) (nI i) (nI d) (nI h) (nI N)) J2 t2 (nI (8 + s)) (nI l)) (qA15_X12_fits_68 n I2 B J2 t2 (nI p) (nI i) (nI d) (nI h) (nI N)) 0).2.1 := by
    unfold qAw93_2_X12_fits_68
    rw [e22, k15 92 (by decide), ci, e92, gw_p8, sf.1]
  have e231 : qA231_X12_fits_68 n I2 B J2 t2 (nI p) (nI i) (nI d) (nI h) (nI N) = cw_u (if qAw93_X12_fits_68 n I2 B J2 t2 (nI p) (nI i) (nI d) (nI h) (nI N) 114 (6 * p + i) = -1 then qAw93_X12_fits_68 n I2 B J2 t2 (nI p) (nI i) (nI d) (nI h) (nI N) else if 10 ≤ qAw93_X12_fits_68 n I2 B J2 t2 (nI p) (nI i) (nI d) (nI h) (nI N) 115 (6 * p + i) then qAw93_X12_fits_68 n I2 B J2 t2 (nI p) (nI i) (nI d) (nI h) (nI N) else cw_u (qAw93_X12_fits_68 n I2 B J2 t2 (nI p) (nI i) (nI d) (nI h) (nI N)) 114 (6 * p + i) (-1)) 116 (6 * p + i) (px_X9_aimTo_5_1 n I A J (true, t.2) (nI s) (nI l)) := by
    unfold qA231_X12_fits_68 qAm200_X12_fits_68 qAm212_X12_fits_68 qA222_X12_fits_68
    rw [e6, c6, e66]
  have e2317 : qA231_7_X12_fits_68 n I2 B J2 t2 (nI p) (nI i) (nI d) (nI h) (nI N) = cw_u (if qAw93_2_X12_fits_68 n I2 B J2 t2 (nI p) (nI i) (nI d) (nI h) (nI N) 114 (6 * p + i) = -1 then qAw93_2_X12_fits_68 n I2 B J2 t2 (nI p) (nI i) (nI d) (nI h) (nI N) else if 10 ≤ qAw93_2_X12_fits_68 n I2 B J2 t2 (nI p) (nI i) (nI d) (nI h) (nI N) 115 (6 * p + i) then qAw93_2_X12_fits_68 n I2 B J2 t2 (nI p) (nI i) (nI d) (nI h) (nI N) else cw_u (qAw93_2_X12_fits_68 n I2 B J2 t2 (nI p) (nI i) (nI d) (nI h) (nI N)) 114 (6 * p + i) (-1)) 116 (6 * p + i) (px_X9_aimTo_5_1 n I A J (true, t.2) (nI s) (nI l)) := by
    unfold qA231_7_X12_fits_68 qAm200_6_X12_fits_68 qAm212_5_X12_fits_68 qA222_4_X12_fits_68
    rw [e6, c6, e66]
  obtain ⟨x1, x2, x3, x4⟩ := W _ eW _ e231
  obtain ⟨y1, y2, y3, y4⟩ := W _ eW2 _ e2317
  refine ⟨vland, pbt, fun _ => x1, pbf, _, _, rfl, rfl, ?_⟩
  rw [tur, fA]
  by_cases w1 : B 117 i = -1
  · rw [if_pos w1, if_pos w1, if_neg o1, if_neg o1]
    exact ⟨x2, x3, x4⟩
  · rw [if_neg w1, if_neg w1]
    by_cases w3 : B 117 i = px_X9_aimTo_5_1 n I A J (true, t.2) (nI s) (nI l)
    · rw [if_pos w3, if_pos w3, if_neg o1, if_neg o1]
      exact ⟨y2, y3, y4⟩
    · rw [if_neg w3, if_neg w3, if_pos rfl, if_pos rfl]
      refine ⟨Or.inl ⟨by rw [cw_u_s], h47⟩, ⟨a, hask, ?_⟩, fun x hx => ?_⟩
      · rw [cw_u_s]
        exact ⟨fun y => Or.inl y, fun y => by
          rcases y with y | y
          · exact y
          · exact absurd rfl y⟩
      · rw [cw_u_k _ _ hx, cw_u_c _ _ (by decide), cw_u_c _ _ (by decide)]
        exact ⟨rfl, rfl, rfl, rfl, rfl, rfl⟩

set_option maxHeartbeats 2000000 in
/-- one programme and one mast, in an hour in which the programme is on -/
theorem sc_pair60 {n : Nat} {I A I0 A0 I2 B : Nat → Nat → Int32} {J J2 J0 : Nat → Nat → Int64} {t t2 t0 : Bool × Bool} {N m p i l d h hd : Nat} {F : Nat → Bool} {a : Bool} (hn : 500 ≤ n) (p10 : p < 10) (i6 : i < 6) (l8 : l < 8) (hdd : d < 3600) (h24 : h < 24) (hctx : sc_ctx 60 n I0 A0 J0 t0 N m I A I2 B) (el : A 13 p = nI l) (on1 : ¬ nI h < A 14 p) (on2 : nI h < A 15 p) (ehd : A 4 l = nI hd) (hask : sc_ask I A F p a) (h47 : A 47 (6 * p + i) = 0) (hwas : px_X5_aimOfMast_53 n I A J (false, t.2) (nI h - 1) (nI i) = B 117 i) :
    pb_X6_landOf_12 n I A J (false, t.2) (nI p) ∧ (pb_X5_aimOfMast_53 n I A J (false, t.2) (nI h - 1) (nI i) → pb_X11_isTurned_0 n I A J (false, t.2) (nI i) (px_X6_landOf_12 n I A J (false, t.2) (nI p)) (nI h)) ∧
    (¬ px_X11_isTurned_0 n I A J (false, t.2) (nI i) (px_X6_landOf_12 n I A J (false, t.2) (nI p)) (nI h) = 0 → pb_X11_offer_0_tFx n I A J (false, t.2) (nI p) (nI i) (nI d) (nI h) (nI N)) ∧ pb_X12_fits_68 n I2 B J2 t2 (nI p) (nI i) (nI d) (nI h) (nI N) ∧
    ∃ I' A', I' = (if px_X11_isTurned_0 n I A J (false, t.2) (nI i) (px_X6_landOf_12 n I A J (false, t.2) (nI p)) (nI h) = 0 then I else pI_X11_offer_0_tFx n I A J (false, t.2) (nI p) (nI i) (nI d) (nI h) (nI N)) ∧ A' = (if px_X11_isTurned_0 n I A J (false, t.2) (nI i) (px_X6_landOf_12 n I A J (false, t.2) (nI p)) (nI h) = 0 then A else pA_X11_offer_0_tFx n I A J (false, t.2) (nI p) (nI i) (nI d) (nI h) (nI N)) ∧
      sc_pr A' (pA_X12_fits_68 n I2 B J2 t2 (nI p) (nI i) (nI d) (nI h) (nI N)) (6 * p + i) hd (px_X9_aimTo_5_1 n I A J t (A 10 i) (nI l)) ∧
      (∃ a', sc_ask I' A' F p a' ∧ (a' = true ↔ (a = true ∨ ¬ pA_X12_fits_68 n I2 B J2 t2 (nI p) (nI i) (nI d) (nI h) (nI N) 114 (6 * p + i) = -1))) ∧
      (∀ x, ¬ x = 6 * p + i → A' 47 x = A 47 x ∧ A' 48 x = A 48 x ∧ A' 49 x = A 49 x ∧ pA_X12_fits_68 n I2 B J2 t2 (nI p) (nI i) (nI d) (nI h) (nI N) 114 x = B 114 x ∧ pA_X12_fits_68 n I2 B J2 t2 (nI p) (nI i) (nI d) (nI h) (nI N) 115 x = B 115 x ∧ pA_X12_fits_68 n I2 B J2 t2 (nI p) (nI i) (nI d) (nI h) (nI N) 116 x = B 116 x) := by
  have cp : (nI p).toNatClampNeg = p := nI_clamp (by omega)
  have ci : (nI i).toNatClampNeg = i := nI_clamp (by omega)
  have vp : vp_in (nI p) 10 := vp_in_nI p10 (by decide)
  have vi : vp_in (nI i) 6 := vp_in_nI i6 (by decide)
  have e6 : q6_X12_fits_68 n I2 B J2 t2 (nI p) (nI i) (nI d) (nI h) (nI N) = nI (6 * p + i) := lz_ix6 p i
  have c6 : (nI (6 * p + i)).toNatClampNeg = 6 * p + i := nI_clamp (by omega)
  have v6 : vp_in (nI (6 * p + i)) 60 := vp_in_nI (by omega) (by decide)
  obtain ⟨⟨h1, h2, h3, h4, h5, h6, h7⟩, g1, g2, g3, g4, g5, g6, g7, g8, g9, g10⟩ := id hctx
  obtain ⟨p1, p2, p3, -⟩ := h4.2 p p10
  obtain ⟨m1, m2, m3, m4⟩ := h3.2 i i6
  obtain ⟨s, s4, es⟩ := vp_in_of m3 (by decide)
  have e15 : qA15_X12_fits_68 n I2 B J2 t2 (nI p) (nI i) (nI d) (nI h) (nI N) = cw_u B 114 (6 * p + i) (-1) := by
    unfold qA15_X12_fits_68
    rw [e6, c6]
  have k15 : ∀ c, c ≠ 114 → qA15_X12_fits_68 n I2 B J2 t2 (nI p) (nI i) (nI d) (nI h) (nI N) c = B c := fun c hc => by rw [e15, cw_u_c _ _ hc]
  have eB94 : B 94 p = nI l := by rw [← p1, el]
  have e22 : q22_X12_fits_68 n I2 B J2 t2 (nI p) (nI i) (nI d) (nI h) (nI N) = nI l := by
    unfold q22_X12_fits_68
    rw [k15 94 (by decide), cp, eB94]
  have e92 : B 92 i = nI s := by rw [← m1, es]
  have el2 : px_X6_landOf_12 n I A J (false, t.2) (nI p) = nI l := by
    unfold px_X6_landOf_12
    rw [cp, el]
  have es2 : px_X2_siteOf_9 n I A J (false, t.2) (nI i) = nI s := by
    unfold px_X2_siteOf_9
    rw [ci, es]
  -- the aim
  have hctx15 := sc_keep (I' := I) (A' := A) (I2' := I2) (A2' := qA15_X12_fits_68 n I2 B J2 t2 (nI p) (nI i) (nI d) (nI h) (nI N)) hctx (by omega) (fun _ _ _ _ => rfl) (fun _ _ => rfl) (fun _ _ => rfl) (fun d' hd' => k15 d' (by omega))
  obtain ⟨-, -, am1, -, -, -, am2⟩ := gw_5 (n := n) (J := J) (t := (false, t.2)) (J2 := J2) (t2 := t2) hctx15.1.1 hctx15.1.2.1 s4 l8
  have e66 : q66_X12_fits_68 n I2 B J2 t2 (nI p) (nI i) (nI d) (nI h) (nI N) = px_X9_aimTo_5_1 n I A J (false, t.2) (nI s) (nI l) := by
    unfold q66_X12_fits_68
    rw [k15 92 (by decide), ci, e92, e22, gw_p8, am1]
  have eaim : px_X9_aimTo_5_1 n I A J t (A 10 i) (nI l) = px_X9_aimTo_5_1 n I A J (false, t.2) (nI s) (nI l) := by
    rw [es]; exact sc_aim rfl rfl rfl rfl
  have f95 : ¬ nI h < qA15_X12_fits_68 n I2 B J2 t2 (nI p) (nI i) (nI d) (nI h) (nI N) 95 p := by rw [k15 95 (by decide), ← p2]; exact on1
  have f96 : nI h < qA15_X12_fits_68 n I2 B J2 t2 (nI p) (nI i) (nI d) (nI h) (nI N) 96 p := by rw [k15 96 (by decide), ← p3]; exact on2
  have f117 : qA15_X12_fits_68 n I2 B J2 t2 (nI p) (nI i) (nI d) (nI h) (nI N) 117 i = B 117 i := by rw [k15 117 (by decide)]
  have pgo : pb_X12_goes_68 n I2 (qA15_X12_fits_68 n I2 B J2 t2 (nI p) (nI i) (nI d) (nI h) (nI N)) J2 t2 (nI (8 + s)) (nI l) := gw_goesb (by omega) (by omega)
  have tur : px_X11_isTurned_0 n I A J (false, t.2) (nI i) (px_X6_landOf_12 n I A J (false, t.2) (nI p)) (nI h) = (if B 117 i = -1 then 1 else if B 117 i = px_X9_aimTo_5_1 n I A J (false, t.2) (nI s) (nI l) then 1 else 0) := by
    unfold px_X11_isTurned_0 qs0m16_X11_isTurned_0 qs0m41_X11_isTurned_0 q11_X11_isTurned_0
    rw [hwas, el2, es2]
  have pbt : pb_X5_aimOfMast_53 n I A J (false, t.2) (nI h - 1) (nI i) → pb_X11_isTurned_0 n I A J (false, t.2) (nI i) (px_X6_landOf_12 n I A J (false, t.2) (nI p)) (nI h) := fun z => by
    unfold pb_X11_isTurned_0
    rw [es2, el2]
    exact ⟨z, fun _ => ⟨vi, am2⟩⟩
  have o1 : ¬ (1 : Int32) = 0 := by decide
  -- the loop over the bands
  have z0 : nI 0 = 0 := nI_0
  obtain ⟨b1, b2, b3, b4⟩ := sc_band60 (n := n) (I := I) (Ao := A) (I0 := I0) (A0 := A0) (I02 := I2) (A02 := B) (J := J) (J2 := J2) (J0 := J0) (t := (false, t.2)) (t2 := t2) (t0 := t0) (N := N) (m := m) hn p10 i6 l8 hdd h24 el eB94 6 0 n n A (pI_X12_goes_68 n I2 (qA15_X12_fits_68 n I2 B J2 t2 (nI p) (nI i) (nI d) (nI h) (nI N)) J2 t2 (nI (8 + s)) (nI l)) (qA15_X12_fits_68 n I2 B J2 t2 (nI p) (nI i) (nI d) (nI h) (nI N)) 9 (-1) (by omega) (by omega) (by omega)
    (sc_keep hctx15 (by omega) (fun _ _ _ _ => rfl) (fun _ _ => rfl) (fun k hk => fr_pI_X12_goes_68 (by simp; omega)) (fun _ _ => rfl)) (fun _ _ => rfl) (Or.inl ⟨by rw [e15, cw_u_s], rfl, rfl⟩)
  rw [z0] at b1 b2 b3 b4
  have eq8 : q8_X11_offer_0_tFx n I A J (false, t.2) (nI p) (nI i) (nI d) (nI h) (nI N) = nI l := el2
  have site2 : px_X2_siteOf_9 n I A J (false, (false, t.2).2) (nI i) = nI s := es2
  obtain ⟨-, w2, -⟩ := tb_told (n := n) (J := J) (t := (false, t.2)) (J2 := J2) (t2 := t2) h1 h2 h5 s4 l8 (b := 0) (by omega) hdd h24
  -- what the two end with
  have W : ∀ (R : Nat → Nat → Int32), R = (lp_X12_fits_68_93 n I2 B J2 t2 (nI p) (nI i) (nI d) (nI h) (nI N) n (pI_X12_goes_68 n I2 (qA15_X12_fits_68 n I2 B J2 t2 (nI p) (nI i) (nI d) (nI h) (nI N)) J2 t2 (nI (8 + s)) (nI l)) (qA15_X12_fits_68 n I2 B J2 t2 (nI p) (nI i) (nI d) (nI h) (nI N)) 0).2.1 →
      ∀ C : Nat → Nat → Int32, C = cw_u (if R 114 (6 * p + i) = -1 then R else if 10 ≤ R 115 (6 * p + i) then R else cw_u R 114 (6 * p + i) (-1)) 116 (6 * p + i) (px_X9_aimTo_5_1 n I A J (false, t.2) (nI s) (nI l)) →
      pb_X11_offer_0_tFx n I A J (false, t.2) (nI p) (nI i) (nI d) (nI h) (nI N) ∧ sc_pr (pA_X11_offer_0_tFx n I A J (false, t.2) (nI p) (nI i) (nI d) (nI h) (nI N)) C (6 * p + i) hd (px_X9_aimTo_5_1 n I A J t (A 10 i) (nI l)) ∧
      (∃ a', sc_ask (pI_X11_offer_0_tFx n I A J (false, t.2) (nI p) (nI i) (nI d) (nI h) (nI N)) (pA_X11_offer_0_tFx n I A J (false, t.2) (nI p) (nI i) (nI d) (nI h) (nI N)) F p a' ∧ (a' = true ↔ (a = true ∨ ¬ C 114 (6 * p + i) = -1))) ∧
      (∀ x, ¬ x = 6 * p + i → pA_X11_offer_0_tFx n I A J (false, t.2) (nI p) (nI i) (nI d) (nI h) (nI N) 47 x = A 47 x ∧ pA_X11_offer_0_tFx n I A J (false, t.2) (nI p) (nI i) (nI d) (nI h) (nI N) 48 x = A 48 x ∧ pA_X11_offer_0_tFx n I A J (false, t.2) (nI p) (nI i) (nI d) (nI h) (nI N) 49 x = A 49 x ∧ C 114 x = B 114 x ∧ C 115 x = B 115 x ∧ C 116 x = B 116 x) := by
    intro R hR C hC
    rw [← hR] at b3 b4
    have kC : ∀ x, ¬ x = 6 * p + i → C 114 x = B 114 x ∧ C 115 x = B 115 x ∧ C 116 x = B 116 x := fun x hx => by
      obtain ⟨w3, w4⟩ := b4 x hx
      have w5 : R 116 = B 116 := by
        rw [hR, fr_lp_X12_fits_68_93_c1 (by decide)]
        exact k15 116 (by decide)
      have w6 : qA15_X12_fits_68 n I2 B J2 t2 (nI p) (nI i) (nI d) (nI h) (nI N) 114 x = B 114 x := by rw [e15, cw_u_k _ _ hx]
      have w7 : qA15_X12_fits_68 n I2 B J2 t2 (nI p) (nI i) (nI d) (nI h) (nI N) 115 x = B 115 x := by rw [k15 115 (by decide)]
      rw [hC, cw_u_c _ _ (by decide), cw_u_c _ _ (by decide), cw_u_k _ _ hx]
      refine ⟨?_, ?_, ?_⟩
      · split
        · exact w3.trans w6
        · split
          · exact w3.trans w6
          · rw [cw_u_k _ _ hx]; exact w3.trans w6
      · split
        · exact w4.trans w7
        · split
          · exact w4.trans w7
          · rw [cw_u_c _ _ (by decide)]; exact w4.trans w7
      · split
        · rw [w5]
        · split
          · rw [w5]
          · rw [cw_u_c _ _ (by decide), w5]
    have kA39 : ∀ c, c ≠ 45 → c ≠ 67 → qAw39_X11_offer_0_tFx n I A J (false, t.2) (nI p) (nI i) (nI d) (nI h) (nI N) c = A c := fun c q1 q2 => fr_qAw39_X11_offer_0_tFx (by simp [q1, q2])
    have ask39 : sc_ask I (qAw39_X11_offer_0_tFx n I A J (false, t.2) (nI p) (nI i) (nI d) (nI h) (nI N)) F p a := by
      obtain ⟨q1, q2, q3⟩ := hask
      refine ⟨q1, ?_, ?_⟩
      · rw [kA39 51 (by decide) (by decide)]; exact q2
      · rw [kA39 51 (by decide) (by decide)]; exact q3
    have q8w : q8w39_X11_offer_0_tFx n I A J (false, t.2) (nI p) (nI i) (nI d) (nI h) (nI N) = (lp_X11_offer_0_tFx_39 n I A J (false, t.2) (nI p) (nI i) (nI d) (nI h) (nI N) n A 9 (-1) 0).2.1 := rfl
    have q9w : q9w39_X11_offer_0_tFx n I A J (false, t.2) (nI p) (nI i) (nI d) (nI h) (nI N) = (lp_X11_offer_0_tFx_39 n I A J (false, t.2) (nI p) (nI i) (nI d) (nI h) (nI N) n A 9 (-1) 0).2.2.1 := rfl
    rw [← q8w, ← q9w] at b3
    have elis : px_X9_listenersOf_1 n I (qAw39_X11_offer_0_tFx n I A J (false, t.2) (nI p) (nI i) (nI d) (nI h) (nI N)) J (false, t.2) (nI l) = nI hd := by
      unfold px_X9_listenersOf_1
      rw [nI_clamp (by omega), kA39 4 (by decide) (by decide), ehd]
    have vl : vp_in (nI l) 8 := vp_in_nI l8 (by decide)
    -- no band is heard
    have none : q9w39_X11_offer_0_tFx n I A J (false, t.2) (nI p) (nI i) (nI d) (nI h) (nI N) = -1 → C 114 (6 * p + i) = -1 → pb_X11_offer_0_tFx n I A J (false, t.2) (nI p) (nI i) (nI d) (nI h) (nI N) ∧ sc_pr (pA_X11_offer_0_tFx n I A J (false, t.2) (nI p) (nI i) (nI d) (nI h) (nI N)) C (6 * p + i) hd (px_X9_aimTo_5_1 n I A J t (A 10 i) (nI l)) ∧ (∃ a', sc_ask (pI_X11_offer_0_tFx n I A J (false, t.2) (nI p) (nI i) (nI d) (nI h) (nI N)) (pA_X11_offer_0_tFx n I A J (false, t.2) (nI p) (nI i) (nI d) (nI h) (nI N)) F p a' ∧ (a' = true ↔ (a = true ∨ ¬ C 114 (6 * p + i) = -1))) ∧ (∀ x, ¬ x = 6 * p + i → pA_X11_offer_0_tFx n I A J (false, t.2) (nI p) (nI i) (nI d) (nI h) (nI N) 47 x = A 47 x ∧ pA_X11_offer_0_tFx n I A J (false, t.2) (nI p) (nI i) (nI d) (nI h) (nI N) 48 x = A 48 x ∧ pA_X11_offer_0_tFx n I A J (false, t.2) (nI p) (nI i) (nI d) (nI h) (nI N) 49 x = A 49 x ∧ C 114 x = B 114 x ∧ C 115 x = B 115 x ∧ C 116 x = B 116 x) := fun z1 z2 => by
      have eI : pI_X11_offer_0_tFx n I A J (false, t.2) (nI p) (nI i) (nI d) (nI h) (nI N) = I := by
        unfold pI_X11_offer_0_tFx qIm102_X11_offer_0_tFx
        rw [z1, if_pos rfl]
      have eA : pA_X11_offer_0_tFx n I A J (false, t.2) (nI p) (nI i) (nI d) (nI h) (nI N) = qAw39_X11_offer_0_tFx n I A J (false, t.2) (nI p) (nI i) (nI d) (nI h) (nI N) := by
        unfold pA_X11_offer_0_tFx qAm102_X11_offer_0_tFx
        rw [z1, if_pos rfl]
      rw [eI, eA]
      refine ⟨?_, Or.inl ⟨z2, by rw [kA39 47 (by decide) (by decide)]; exact h47⟩, ⟨a, ask39, ?_⟩, fun x hx => ?_⟩
      · unfold pb_X11_offer_0_tFx
        rw [eq8, site2, z1]
        exact ⟨vp, vi, w2, b1, fun y => absurd rfl y⟩
      · constructor
        · exact fun y => Or.inl y
        · intro y
          rcases y with y | y
          · exact y
          · exact absurd z2 y
      · rw [kA39 47 (by decide) (by decide), kA39 48 (by decide) (by decide), kA39 49 (by decide) (by decide)]
        exact ⟨rfl, rfl, rfl, kC x hx⟩
    rcases b3 with ⟨c1, c2, c3⟩ | ⟨k, k6, c1, ⟨c2, c3, c4, c5⟩ | ⟨c2, c3, c4⟩⟩
    · refine none c2 ?_
      rw [hC, cw_u_c _ _ (by decide), if_pos c1]
      exact c1
    · -- a band is heard
      obtain ⟨sg, hsg⟩ : ∃ sg : Nat, (sg : Int) = (R 115 (6 * p + i)).toInt := ⟨(R 115 (6 * p + i)).toInt.toNat, by omega⟩
      have esg : R 115 (6 * p + i) = nI sg := by rw [tI_eq, tI_nI (by omega), hsg]
      have t10 : 10 ≤ R 115 (6 * p + i) := by rw [tI_le]; exact c2
      have nb : ¬ R 114 (6 * p + i) = -1 := by rw [c1]; exact sv_n1 (by omega)
      rw [c1] at c4
      rw [esg] at c5
      have nb9 : ¬ q9w39_X11_offer_0_tFx n I A J (false, t.2) (nI p) (nI i) (nI d) (nI h) (nI N) = -1 := by rw [c4]; exact sv_n1 (by omega)
      obtain ⟨f1, f2, f3⟩ := sc_off (n := n) (J := J) (t := (false, t.2)) (i := i) (b := k) (s := sg) (hd := hd) ask39 p10 i6
      have eI : pI_X11_offer_0_tFx n I A J (false, t.2) (nI p) (nI i) (nI d) (nI h) (nI N) = pI_X3_offer_46 n I (qAw39_X11_offer_0_tFx n I A J (false, t.2) (nI p) (nI i) (nI d) (nI h) (nI N)) J (false, t.2) (nI p) (nI i) (nI k) (nI sg) (nI hd) := by
        unfold pI_X11_offer_0_tFx qIm102_X11_offer_0_tFx
        rw [if_neg nb9, eq8, elis, c4, c5]
      have eA : pA_X11_offer_0_tFx n I A J (false, t.2) (nI p) (nI i) (nI d) (nI h) (nI N) = pA_X3_offer_46 n I (qAw39_X11_offer_0_tFx n I A J (false, t.2) (nI p) (nI i) (nI d) (nI h) (nI N)) J (false, t.2) (nI p) (nI i) (nI k) (nI sg) (nI hd) := by
        unfold pA_X11_offer_0_tFx qAm102_X11_offer_0_tFx
        rw [if_neg nb9, eq8, elis, c4, c5]
      have C114 : C 114 (6 * p + i) = nI k := by rw [hC, cw_u_c _ _ (by decide), if_neg nb, if_pos t10]; exact c1
      have C115 : C 115 (6 * p + i) = nI sg := by rw [hC, cw_u_c _ _ (by decide), if_neg nb, if_pos t10]; exact esg
      have C116 : C 116 (6 * p + i) = px_X9_aimTo_5_1 n I A J t (A 10 i) (nI l) := by rw [hC, cw_u_s, eaim]
      rw [eI, eA]
      obtain ⟨r1, r2, r3⟩ := f3 (6 * p + i)
      rw [if_pos rfl] at r1 r2 r3
      refine ⟨?_, Or.inr ⟨k, sg, k6, by omega, by omega, C114, C115, C116, r1, r2, r3⟩, ⟨true, f2, ?_⟩, fun x hx => ?_⟩
      · unfold pb_X11_offer_0_tFx
        rw [eq8, site2, elis, c4, c5]
        exact ⟨vp, vi, w2, b1, fun _ => ⟨vl, f1⟩⟩
      · rw [C114]
        exact ⟨fun _ => Or.inr (sv_n1 (by omega)), fun _ => rfl⟩
      · obtain ⟨r4, r5, r6⟩ := f3 x
        rw [if_neg hx] at r4 r5 r6
        rw [r4, r5, r6, kA39 47 (by decide) (by decide), kA39 48 (by decide) (by decide), kA39 49 (by decide) (by decide)]
        exact ⟨rfl, rfl, rfl, kC x hx⟩
    · refine none c3 ?_
      have t10 : ¬ 10 ≤ R 115 (6 * p + i) := by
        rw [tI_le]
        have : (10 : Int32).toInt = 10 := rfl
        omega
      have nb : ¬ R 114 (6 * p + i) = -1 := by rw [c1]; exact sv_n1 (by omega)
      rw [hC, cw_u_c _ _ (by decide), if_neg nb, if_neg t10, cw_u_s]
  have vland : pb_X6_landOf_12 n I A J (false, t.2) (nI p) := vp
  have sf := sc_f2 (n := n) (I := I2) (A := B) (J := J2) (t := t2) (x1 := nI p) (x2 := nI i) (x3 := nI d) (x4 := nI h) (x5 := nI N) n (pI_X12_goes_68 n I2 (qA15_X12_fits_68 n I2 B J2 t2 (nI p) (nI i) (nI d) (nI h) (nI N)) J2 t2 (nI (8 + s)) (nI l)) (qA15_X12_fits_68 n I2 B J2 t2 (nI p) (nI i) (nI d) (nI h) (nI N)) 0
  have pbf : pb_X12_fits_68 n I2 B J2 t2 (nI p) (nI i) (nI d) (nI h) (nI N) := by
    unfold pb_X12_fits_68
    rw [cp, ci, e6, e22, k15 92 (by decide), e92, gw_p8]
    exact ⟨v6, vp, vp, fun _ => ⟨vp, fun _ => ⟨vi, pgo, vi, fun _ => ⟨b2, v6, fun _ => ⟨v6, fun _ => v6⟩, v6⟩, fun _ => ⟨vi, fun _ => ⟨sf.2 b2, v6, fun _ => ⟨v6, fun _ => v6⟩, v6⟩⟩⟩⟩⟩
  have fA : pA_X12_fits_68 n I2 B J2 t2 (nI p) (nI i) (nI d) (nI h) (nI N) = (if B 117 i = -1 then qA231_X12_fits_68 n I2 B J2 t2 (nI p) (nI i) (nI d) (nI h) (nI N) else if B 117 i = px_X9_aimTo_5_1 n I A J (false, t.2) (nI s) (nI l) then qA231_7_X12_fits_68 n I2 B J2 t2 (nI p) (nI i) (nI d) (nI h) (nI N) else cw_u B 114 (6 * p + i) (-1)) := by
    unfold pA_X12_fits_68
    rw [cp, ci, if_neg f95, if_pos f96, f117, e66, e15]
  have eW : qAw93_X12_fits_68 n I2 B J2 t2 (nI p) (nI i) (nI d) (nI h) (nI N) = (lp_X12_fits_68_93 n I2 B J2 t2 (nI p) (nI i) (nI d) (nI h) (nI N) n (pI_X12_goes_68 n I2 (qA15_X12_fits_68 n I2 B J2 t2 (nI p) (nI i) (nI d) (nI h) (nI N)) J2 t2 (nI (8 + s)) (nI l)) (qA15_X12_fits_68 n I2 B J2 t2 (nI p) (nI i) (nI d) (nI h) (nI N)) 0).2.1 := by
    unfold qAw93_X12_fits_68
    rw [e22, k15 92 (by decide), ci, e92, gw_p8]
  have eW2 : qAw93_2_X12_fits_68 n I2 B J2 t2 (nI p) (nI i) (nI d) (nI h) (nI N) = (lp_X12_fits_68_93 n I2 B J2 t2 (nI p) (nI i) (nI d) (nI h) (nI N) n (pI_X12_goes_68 n I2 (qA15_X12_fits_68 n I2 B J2 t2 (nI p) (nI i) (nI d) (nI h) (nI N)) J2 t2 (nI (8 + s)) (nI l)) (qA15_X12_fits_68 n I2 B J2 t2 (nI p) (nI i) (nI d) (nI h) (nI N)) 0).2.1 := by
    unfold qAw93_2_X12_fits_68
    rw [e22, k15 92 (by decide), ci, e92, gw_p8, sf.1]
  have e231 : qA231_X12_fits_68 n I2 B J2 t2 (nI p) (nI i) (nI d) (nI h) (nI N) = cw_u (if qAw93_X12_fits_68 n I2 B J2 t2 (nI p) (nI i) (nI d) (nI h) (nI N) 114 (6 * p + i) = -1 then qAw93_X12_fits_68 n I2 B J2 t2 (nI p) (nI i) (nI d) (nI h) (nI N) else if 10 ≤ qAw93_X12_fits_68 n I2 B J2 t2 (nI p) (nI i) (nI d) (nI h) (nI N) 115 (6 * p + i) then qAw93_X12_fits_68 n I2 B J2 t2 (nI p) (nI i) (nI d) (nI h) (nI N) else cw_u (qAw93_X12_fits_68 n I2 B J2 t2 (nI p) (nI i) (nI d) (nI h) (nI N)) 114 (6 * p + i) (-1)) 116 (6 * p + i) (px_X9_aimTo_5_1 n I A J (false, t.2) (nI s) (nI l)) := by
    unfold qA231_X12_fits_68 qAm200_X12_fits_68 qAm212_X12_fits_68 qA222_X12_fits_68
    rw [e6, c6, e66]
  have e2317 : qA231_7_X12_fits_68 n I2 B J2 t2 (nI p) (nI i) (nI d) (nI h) (nI N) = cw_u (if qAw93_2_X12_fits_68 n I2 B J2 t2 (nI p) (nI i) (nI d) (nI h) (nI N) 114 (6 * p + i) = -1 then qAw93_2_X12_fits_68 n I2 B J2 t2 (nI p) (nI i) (nI d) (nI h) (nI N) else if 10 ≤ qAw93_2_X12_fits_68 n I2 B J2 t2 (nI p) (nI i) (nI d) (nI h) (nI N) 115 (6 * p + i) then qAw93_2_X12_fits_68 n I2 B J2 t2 (nI p) (nI i) (nI d) (nI h) (nI N) else cw_u (qAw93_2_X12_fits_68 n I2 B J2 t2 (nI p) (nI i) (nI d) (nI h) (nI N)) 114 (6 * p + i) (-1)) 116 (6 * p + i) (px_X9_aimTo_5_1 n I A J (false, t.2) (nI s) (nI l)) := by
    unfold qA231_7_X12_fits_68 qAm200_6_X12_fits_68 qAm212_5_X12_fits_68 qA222_4_X12_fits_68
    rw [e6, c6, e66]
  obtain ⟨x1, x2, x3, x4⟩ := W _ eW _ e231
  obtain ⟨y1, y2, y3, y4⟩ := W _ eW2 _ e2317
  refine ⟨vland, pbt, fun _ => x1, pbf, _, _, rfl, rfl, ?_⟩
  rw [tur, fA]
  by_cases w1 : B 117 i = -1
  · rw [if_pos w1, if_pos w1, if_neg o1, if_neg o1]
    exact ⟨x2, x3, x4⟩
  · rw [if_neg w1, if_neg w1]
    by_cases w3 : B 117 i = px_X9_aimTo_5_1 n I A J (false, t.2) (nI s) (nI l)
    · rw [if_pos w3, if_pos w3, if_neg o1, if_neg o1]
      exact ⟨y2, y3, y4⟩
    · rw [if_neg w3, if_neg w3, if_pos rfl, if_pos rfl]
      refine ⟨Or.inl ⟨by rw [cw_u_s], h47⟩, ⟨a, hask, ?_⟩, fun x hx => ?_⟩
      · rw [cw_u_s]
        exact ⟨fun y => Or.inl y, fun y => by
          rcases y with y | y
          · exact y
          · exact absurd rfl y⟩
      · rw [cw_u_k _ _ hx, cw_u_c _ _ (by decide), cw_u_c _ _ (by decide)]
        exact ⟨rfl, rfl, rfl, rfl, rfl, rfl⟩
