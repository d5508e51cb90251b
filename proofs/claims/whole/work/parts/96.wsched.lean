set_option maxHeartbeats 4000000 in
theorem hr_loop37 {n : Nat} {Ic Ac I0 A0 Ir Br : Nat → Nat → Int32} {J J2 J0 : Nat → Nat → Int64} {t t2 t0 : Bool × Bool} {N m M P d : Nat} (hn : 500 ≤ n) (M6 : M ≤ 6) (P10 : P ≤ 10) (hdd : d < 3600) :
    ∀ (j h f f2 : Nat) (I A I2 B : Nat → Nat → Int32) (v : Int32), h + j = 24 → j < f → j < f2 → sc_ctx 37 n I0 A0 J0 t0 N m I A I2 B → I 9 2 = nI M → I2 68 40 = nI M → I 12 3 = nI P → I2 68 43 = nI P → hr_in P h A B →
    lb_X11_schedule_0_tTx_44 n Ic Ac J t (nI d) (nI N) f I A v (nI h) ∧ lb_X12_schedule_68_43 n Ir Br J2 t2 (nI d) (nI N) f2 I2 B v (nI h) ∧ hr_in P 24 (lp_X11_schedule_0_tTx_44 n Ic Ac J t (nI d) (nI N) f I A v (nI h)).2.1 (lp_X12_schedule_68_43 n Ir Br J2 t2 (nI d) (nI N) f2 I2 B v (nI h)).2.1 ∧ (lp_X11_schedule_0_tTx_44 n Ic Ac J t (nI d) (nI N) f I A v (nI h)).2.2.1 = (lp_X12_schedule_68_43 n Ir Br J2 t2 (nI d) (nI N) f2 I2 B v (nI h)).2.2.1 := by
  intro j
  induction j with
  | zero =>
    intro h f f2 I A I2 B v hk hf hf2 hctx h9 h40 h12 h43 hI
    obtain ⟨f, rfl⟩ : ∃ x, f = x + 1 := ⟨f - 1, by omega⟩
    obtain ⟨f2, rfl⟩ : ∃ x, f2 = x + 1 := ⟨f2 - 1, by omega⟩
    have : h = 24 := by omega
    subst this
    have c : 24 ≤ nI 24 := by decide
    unfold lb_X11_schedule_0_tTx_44 lb_X12_schedule_68_43 lp_X11_schedule_0_tTx_44 lp_X12_schedule_68_43
    rw [if_pos c, if_pos c]
    exact ⟨fun z => absurd c z, fun z => absurd c z, hI, rfl⟩
  | succ j ih =>
    intro h f f2 I A I2 B v hk hf hf2 hctx h9 h40 h12 h43 hI
    obtain ⟨f, rfl⟩ : ∃ x, f = x + 1 := ⟨f - 1, by omega⟩
    obtain ⟨f2, rfl⟩ : ∃ x, f2 = x + 1 := ⟨f2 - 1, by omega⟩
    have c : ¬ 24 ≤ nI h := nI_ge (b := 24) (by omega) (by omega)
    obtain ⟨Io, Ao, As, Ae, Ri, Rb, Rl, w1, w2, w3, w4, w5, w6, w7, p1, p2, p3, p4, p5, q1, q2, q3, q4, q5, q6, q7, q8⟩ := hr_hour37 (n := n) (Ir := Ir) (Br := Br) (J := J) (J2 := J2) (t := t) (t2 := t2) (v3 := v) hn M6 P10 hdd (h := h) (by omega) hctx h9 h40 h12 h43 hI
    have ch : (nI h).toNatClampNeg = h := nI_clamp (by omega)
    have e91 : q91_X11_schedule_0_tTx n Ic Ac J t (nI d) (nI N) I A v (nI h) = nI (h + 1) := nI_1 h
    have e114 : q114_X12_schedule_68 n Ir Br J2 t2 (nI d) (nI N) I2 B v (nI h) = nI (h + 1) := nI_1 h
    have e90 : q90_X11_schedule_0_tTx n Ic Ac J t (nI d) (nI N) I A v (nI h) = v + Ae 59 h := by
      unfold q90_X11_schedule_0_tTx px_X5_listenersIn_53
      rw [← w1, ← w2, q2, ← w3, ← w4, ch]
    have e113 : q113_X12_schedule_68 n Ir Br J2 t2 (nI d) (nI N) I2 B v (nI h) = v + Ae 59 h := by
      unfold q113_X12_schedule_68
      rw [← w5, ← w6, ← w7, ch, q7]
    obtain ⟨i1, i2, i3, i4⟩ := ih (h + 1) f f2 Io Ae Ri Rl (v + Ae 59 h) (by omega) (by omega) (by omega) q1 q2 q3 q4 q5 q6
    have vh : vp_in (nI h) 24 := vp_in_nI (by omega) (by decide)
    unfold lb_X11_schedule_0_tTx_44 lb_X12_schedule_68_43 lp_X11_schedule_0_tTx_44 lp_X12_schedule_68_43
    rw [if_neg c, if_neg c, e90, e91, e113, e114, ← w1, ← w2, q2, ← w3, ← w4, ← w5, ← w6, ← w7]
    exact ⟨fun _ => ⟨p1, p2, p3, vh, i1⟩, fun _ => ⟨p4, p5, vh, i2⟩, i3, i4⟩
theorem hr_was037 {n : Nat} {I B : Nat → Nat → Int32} {J : Nat → Nat → Int64} {t : Bool × Bool} {x1 x2 : Int32} : ∀ (j k f : Nat) (C : Nat → Nat → Int32), k + j = 6 → j < f → lb_X12_schedule_68_19 n I B J t x1 x2 f C (nI k) ∧ ∀ m, (lp_X12_schedule_68_19 n I B J t x1 x2 f C (nI k)).1 117 m = if k ≤ m ∧ m < 6 then -1 else C 117 m := by
  intro j
  induction j with
  | zero =>
    intro k f C hk hf
    obtain ⟨f, rfl⟩ : ∃ x, f = x + 1 := ⟨f - 1, by omega⟩
    have c : 6 ≤ nI k := nI_le (a := 6) (by omega) (by omega)
    unfold lb_X12_schedule_68_19 lp_X12_schedule_68_19
    rw [if_pos c]
    refine ⟨fun z => absurd c z, fun m => ?_⟩
    rw [if_neg (by omega)]
  | succ j ih =>
    intro k f C hk hf
    obtain ⟨f, rfl⟩ : ∃ x, f = x + 1 := ⟨f - 1, by omega⟩
    have c : ¬ 6 ≤ nI k := nI_ge (b := 6) (by omega) (by omega)
    have e31 : qA31_X12_schedule_68 n I B J t x1 x2 C (nI k) = cw_u C 117 k (-1) := by
      unfold qA31_X12_schedule_68
      rw [nI_clamp (by omega)]
    have e32 : q32_X12_schedule_68 n I B J t x1 x2 C (nI k) = nI (k + 1) := nI_1 k
    obtain ⟨i1, i2⟩ := ih (k + 1) f (cw_u C 117 k (-1)) (by omega) (by omega)
    unfold lb_X12_schedule_68_19 lp_X12_schedule_68_19
    rw [if_neg c, e31, e32]
    refine ⟨fun _ => ⟨vp_in_nI (by omega) (by decide), i1⟩, fun m => ?_⟩
    rw [i2 m]
    by_cases q : m = k
    · subst q
      rw [cw_u_s, if_neg (by omega), if_pos (by omega)]
    · rw [cw_u_k _ _ q]
      by_cases q2 : k + 1 ≤ m ∧ m < 6
      · rw [if_pos q2, if_pos (by omega)]
      · rw [if_neg q2, if_neg (by omega)]
set_option maxHeartbeats 4000000 in
theorem sc_schedule37 {n : Nat} {I A I2 A2 : Nat → Nat → Int32} {J J2 : Nat → Nat → Int64} {t t2 : Bool × Bool} {x1 x2 : Int32} (hn : 500 ≤ n) (hl : rl_lands I A I2 A2) (hs : rl_sites I A I2 A2) (hms : rl_masts I A I2 A2) (hpr : rl_progs I A I2 A2) (hh : rl_sheets A A2) (hf : rl_facts I A I2 A2) (hT : rl_tr 37 I A I2 A2) (hpl : rl_plan I A I2 A2) :
    pb_X11_schedule_0_tTx n I A J t x1 x2 ∧ pb_X12_schedule_68 n I2 A2 J2 t2 x1 x2 ∧ px_X12_schedule_68 n I2 A2 J2 t2 x1 x2 = px_X11_schedule_0_tTx n I A J t x1 x2 ∧ rl_plan (pI_X11_schedule_0_tTx n I A J t x1 x2) (pA_X11_schedule_0_tTx n I A J t x1 x2) (pI_X12_schedule_68 n I2 A2 J2 t2 x1 x2) (pA_X12_schedule_68 n I2 A2 J2 t2 x1 x2) := by
  obtain ⟨⟨M, M6, m1, m2⟩, -⟩ := id hms
  obtain ⟨⟨P, P10, p1, p2⟩, -⟩ := id hpr
  obtain ⟨⟨mm, hmm, f1, f2, -⟩, hf2⟩ := id hf
  unfold pb_X11_schedule_0_tTx pb_X12_schedule_68 px_X12_schedule_68 px_X11_schedule_0_tTx pI_X11_schedule_0_tTx pA_X11_schedule_0_tTx pI_X12_schedule_68 pA_X12_schedule_68
  rw [← eq_isDay (n := n) (I := I) (A := A) (J := J) (t := (true, t.2)), ← eq_known (n := n) (A := A) (J := J) (t := (true, t.2)) (f1.trans f2.symm)]
  by_cases c1 : px_X11_isDay n I A J (true, t.2) x1 = 0
  · simp only [c1, if_true, not_true_eq_false, false_implies, true_and]; exact hpl
  by_cases c2 : px_X1_canKnow_19 n I A J (true, t.2) x2 = 0
  · simp only [c1, c2, if_true, if_false, not_true_eq_false, false_implies, implies_true, true_and]; exact hpl
  obtain ⟨d, hd, rfl⟩ := day_of c1
  obtain ⟨N, hN, rfl⟩ := known_of f1 (by omega) c2
  simp only [c1, c2, if_false, not_false_eq_true, forall_const]
  have z0 : nI 0 = 0 := nI_0
  obtain ⟨L1, L2, -⟩ := lr_learn (n := n) (J := J) (t := (true, t.2)) (J2 := J2) (t2 := t2) (by omega) hN hmm f1 hl hs hh hf2
  obtain ⟨AL, hAL⟩ : ∃ AL, AL = pA_X11_learn_0 n I A J (true, t.2) (nI N) := ⟨_, rfl⟩
  have kAL : ∀ c, c ≠ 30 → c ≠ 31 → AL c = A c := fun c q1 q2 => by rw [hAL]; exact L2 c q1 q2
  -- the renewed plan
  have R54 := fl_54 (n := n) (I := qI7_X5_renew_53 n I AL J (true, t.2) (nI P)) (A := AL) (J := J) (t := (true, t.2)) (x := -1) (by omega)
  have R55 := fl_55 (n := n) (I := qI7_X5_renew_53 n I AL J (true, t.2) (nI P)) (A := pA_J7_fill_53178_54 n (qI7_X5_renew_53 n I AL J (true, t.2) (nI P)) AL J (true, t.2) (-1)) (J := J) (t := (true, t.2)) (x := -1) (by omega)
  have R56 := fl_56 (n := n) (I := qI7_X5_renew_53 n I AL J (true, t.2) (nI P)) (A := pA_J7_fill_53178_55 n (qI7_X5_renew_53 n I AL J (true, t.2) (nI P)) (pA_J7_fill_53178_54 n (qI7_X5_renew_53 n I AL J (true, t.2) (nI P)) AL J (true, t.2) (-1)) J (true, t.2) (-1)) (J := J) (t := (true, t.2)) (x := -1) (by omega)
  have R57 := fl_57 (n := n) (I := qI7_X5_renew_53 n I AL J (true, t.2) (nI P)) (A := pA_J7_fill_53178_56 n (qI7_X5_renew_53 n I AL J (true, t.2) (nI P)) (pA_J7_fill_53178_55 n (qI7_X5_renew_53 n I AL J (true, t.2) (nI P)) (pA_J7_fill_53178_54 n (qI7_X5_renew_53 n I AL J (true, t.2) (nI P)) AL J (true, t.2) (-1)) J (true, t.2) (-1)) J (true, t.2) (-1)) (J := J) (t := (true, t.2)) (x := 0) (by omega)
  have R58 := fl_58 (n := n) (I := qI7_X5_renew_53 n I AL J (true, t.2) (nI P)) (A := pA_J7_fill_53178_57 n (qI7_X5_renew_53 n I AL J (true, t.2) (nI P)) (pA_J7_fill_53178_56 n (qI7_X5_renew_53 n I AL J (true, t.2) (nI P)) (pA_J7_fill_53178_55 n (qI7_X5_renew_53 n I AL J (true, t.2) (nI P)) (pA_J7_fill_53178_54 n (qI7_X5_renew_53 n I AL J (true, t.2) (nI P)) AL J (true, t.2) (-1)) J (true, t.2) (-1)) J (true, t.2) (-1)) J (true, t.2) 0) (J := J) (t := (true, t.2)) (x := -1) (by omega)
  have R59 := fl_59 (n := n) (I := qI7_X5_renew_53 n I AL J (true, t.2) (nI P)) (A := pA_J7_fill_53178_58 n (qI7_X5_renew_53 n I AL J (true, t.2) (nI P)) (pA_J7_fill_53178_57 n (qI7_X5_renew_53 n I AL J (true, t.2) (nI P)) (pA_J7_fill_53178_56 n (qI7_X5_renew_53 n I AL J (true, t.2) (nI P)) (pA_J7_fill_53178_55 n (qI7_X5_renew_53 n I AL J (true, t.2) (nI P)) (pA_J7_fill_53178_54 n (qI7_X5_renew_53 n I AL J (true, t.2) (nI P)) AL J (true, t.2) (-1)) J (true, t.2) (-1)) J (true, t.2) (-1)) J (true, t.2) 0) J (true, t.2) (-1)) (J := J) (t := (true, t.2)) (x := 0) (by omega)
  have pbr : pb_X5_renew_53 n I AL J (true, t.2) (nI P) := ⟨R54.1, R55.1, R56.1, R57.1, R58.1, R59.1⟩
  obtain ⟨AR, hAR⟩ : ∃ AR, AR = pA_X5_renew_53 n I AL J (true, t.2) (nI P) := ⟨_, rfl⟩
  obtain ⟨IR, hIR⟩ : ∃ IR, IR = pI_X5_renew_53 n I AL J (true, t.2) (nI P) := ⟨_, rfl⟩
  have kAR : ∀ c, (c < 54 ∨ 60 ≤ c) → AR c = AL c := fun c hc => by rw [hAR]; exact fr_pA_X5_renew_53 (by simp; omega)
  have kIR : ∀ c k, c ≠ 53 → IR c k = I c k := fun c k hc => by rw [hIR]; exact fr_pI_X5_renew_53 (by simp [hc])
  have a59 : ∀ x, x < 24 → AR 59 x = 0 := fun x hx => by rw [hAR]; exact R59.2 x hx
  have a58 : ∀ x, x < 144 → AR 58 x = -1 := fun x hx => by
    rw [hAR]
    unfold pA_X5_renew_53
    rw [fr_pA_J7_fill_53178_59 (by decide)]
    exact R58.2 x hx
  have a57 : ∀ x, x < 240 → AR 57 x = 0 := fun x hx => by
    rw [hAR]
    unfold pA_X5_renew_53
    rw [fr_pA_J7_fill_53178_59 (by decide), fr_pA_J7_fill_53178_58 (by decide)]
    exact R57.2 x hx
  have a56 : ∀ x, x < 240 → AR 56 x = -1 := fun x hx => by
    rw [hAR]
    unfold pA_X5_renew_53
    rw [fr_pA_J7_fill_53178_59 (by decide), fr_pA_J7_fill_53178_58 (by decide), fr_pA_J7_fill_53178_57 (by decide)]
    exact R56.2 x hx
  have a55 : ∀ x, x < 240 → AR 55 x = -1 := fun x hx => by
    rw [hAR]
    unfold pA_X5_renew_53
    rw [fr_pA_J7_fill_53178_59 (by decide), fr_pA_J7_fill_53178_58 (by decide), fr_pA_J7_fill_53178_57 (by decide), fr_pA_J7_fill_53178_56 (by decide)]
    exact R55.2 x hx
  have a54 : ∀ x, x < 240 → AR 54 x = -1 := fun x hx => by
    rw [hAR]
    unfold pA_X5_renew_53
    rw [fr_pA_J7_fill_53178_59 (by decide), fr_pA_J7_fill_53178_58 (by decide), fr_pA_J7_fill_53178_57 (by decide), fr_pA_J7_fill_53178_56 (by decide), fr_pA_J7_fill_53178_55 (by decide)]
    exact R54.2 x hx
  have i7 : IR 53 7 = 1 ∧ IR 53 6 = nI P := by
    rw [hIR]
    unfold pI_X5_renew_53 qI7_X5_renew_53 qI2_X5_renew_53
    rw [cw_u_k _ _ (by decide), cw_u_s, cw_u_s]
    exact ⟨rfl, rfl⟩
  -- the reference's aims ahead of the first hour
  obtain ⟨w1, w2⟩ := hr_was037 (n := n) (I := I2) (B := A2) (J := J2) (t := t2) (x1 := nI d) (x2 := nI N) 6 0 n A2 (by omega) (by omega)
  rw [z0] at w1 w2
  obtain ⟨BR, hBR⟩ : ∃ BR, BR = qAw19_X12_schedule_68 n I2 A2 J2 t2 (nI d) (nI N) := ⟨_, rfl⟩
  have kBR : ∀ c, c ≠ 117 → BR c = A2 c := fun c hc => by rw [hBR]; exact fr_qAw19_X12_schedule_68 (by simp [hc])
  have b117 : ∀ i, i < 6 → BR 117 i = -1 := fun i hi => by
    have := w2 i
    rw [if_pos (by omega)] at this
    rw [hBR]; exact this
  have e30 : AR 30 = pA_X11_learn_0 n I A J (true, t.2) (nI N) 30 := by rw [kAR 30 (by omega), hAL]
  have e31 : AR 31 = pA_X11_learn_0 n I A J (true, t.2) (nI N) 31 := by rw [kAR 31 (by omega), hAL]
  have kR2 : ∀ c, (c < 30 ∨ 32 ≤ c ∧ c < 54 ∨ 60 ≤ c) → AR c = A c := fun c hc => by rw [kAR c (by omega)]; exact kAL c (by omega) (by omega)
  have hctx : sc_ctx 37 n I A J (true, t.2) N mm IR AR I2 BR := by
    refine ⟨⟨rc_lands hl (kIR _ _ (by decide)) rfl (kR2 _ (by omega)) (kR2 _ (by omega)) (kR2 _ (by omega)) (kBR _ (by decide)) (kBR _ (by decide)) (kBR _ (by decide)), rc_sites hs (kIR _ _ (by decide)) rfl (kR2 _ (by omega)) (kR2 _ (by omega)) (kBR _ (by decide)) (kBR _ (by decide)), rc_masts hms (kIR _ _ (by decide)) rfl (kR2 _ (by omega)) (kR2 _ (by omega)) (kBR _ (by decide)) (kBR _ (by decide)), rc_progs hpr (kIR _ _ (by decide)) rfl (kR2 _ (by omega)) (kR2 _ (by omega)) (kR2 _ (by omega)) (kBR _ (by decide)) (kBR _ (by decide)) (kBR _ (by decide)), rc_sheets hh (kR2 _ (by omega)) (kR2 _ (by omega)) (kBR _ (by decide)) (kBR _ (by decide)), rc_facts hf (kIR _ _ (by decide)) rfl (kR2 _ (by omega)) (kR2 _ (by omega)) (kR2 _ (by omega)) (kR2 _ (by omega)) (kR2 _ (by omega)) (kR2 _ (by omega)) (kR2 _ (by omega)) (kR2 _ (by omega)) (kR2 _ (by omega)) (kBR _ (by decide)) (kBR _ (by decide)) (kBR _ (by decide)) (kBR _ (by decide)) (kBR _ (by decide)) (kBR _ (by decide)) (kBR _ (by decide)) (kBR _ (by decide)), rc_tr (c := 37) hT (kIR _ _ (by decide)) rfl (kR2 _ (by omega)) (kR2 _ (by omega)) (kR2 _ (by omega)) (kR2 _ (by omega)) (kR2 _ (by omega)) (kR2 _ (by omega)) (kBR _ (by decide)) (kBR _ (by decide)) (kBR _ (by decide)) (kBR _ (by decide)) (kBR _ (by decide)) (kBR _ (by decide)) (kBR _ (by decide)) (kBR _ (by decide)) (kBR _ (by decide)) (kBR _ (by decide)) (kBR _ (by decide))⟩, rc_lands hl rfl rfl rfl rfl rfl (kBR _ (by decide)) (kBR _ (by decide)) (kBR _ (by decide)), rc_sites hs rfl rfl rfl rfl (kBR _ (by decide)) (kBR _ (by decide)), rc_sheets hh rfl rfl (kBR _ (by decide)) (kBR _ (by decide)), fun f hf3 => ?_, e30, e31, by rw [kIR 19 9 (by decide)]; exact f1, f1, hN, hmm⟩
    have := hf2 f hf3
    unfold rl_fact at this ⊢
    rw [kBR 99 (by decide), kBR 100 (by decide), kBR 101 (by decide), kBR 102 (by decide), kBR 103 (by decide), kBR 104 (by decide), kBR 105 (by decide), kBR 106 (by decide)]
    exact this
  have hI0 : hr_in P 0 AR BR := ⟨fun k hk => absurd hk (by omega), fun k _ hk => ⟨a59 k hk, fun q hq => ⟨a54 _ (by omega), a55 _ (by omega), a56 _ (by omega), a57 _ (by omega)⟩, fun i hi => a58 _ (by omega)⟩, fun i hi => by rw [if_pos rfl]; exact b117 i hi⟩
  obtain ⟨o1, o2, o3, o4⟩ := hr_loop37 (n := n) (Ic := I) (Ac := A) (Ir := I2) (Br := A2) (J := J) (J2 := J2) (t := t) (t2 := t2) (d := d) hn M6 P10 hd 24 0 n n IR AR I2 BR 0 (by omega) (by omega) (by omega) hctx (by rw [kIR 9 2 (by decide)]; exact m1) m2 (by rw [kIR 12 3 (by decide)]; exact p1) p2 hI0
  rw [z0] at o1 o2 o3 o4
  rw [p1, ← hAL]
  have eIw : qIw44_X11_schedule_0_tTx n I A J t (nI d) (nI N) = (lp_X11_schedule_0_tTx_44 n I A J t (nI d) (nI N) n IR AR 0 0).1 := by
    unfold qIw44_X11_schedule_0_tTx
    rw [p1, ← hAL, ← hIR, ← hAR]
  have eAw : qAw44_X11_schedule_0_tTx n I A J t (nI d) (nI N) = (lp_X11_schedule_0_tTx_44 n I A J t (nI d) (nI N) n IR AR 0 0).2.1 := by
    unfold qAw44_X11_schedule_0_tTx
    rw [p1, ← hAL, ← hIR, ← hAR]
  have e3w : q3w44_X11_schedule_0_tTx n I A J t (nI d) (nI N) = (lp_X11_schedule_0_tTx_44 n I A J t (nI d) (nI N) n IR AR 0 0).2.2.1 := by
    unfold q3w44_X11_schedule_0_tTx
    rw [p1, ← hAL, ← hIR, ← hAR]
  have eBw : qAw43_X12_schedule_68 n I2 A2 J2 t2 (nI d) (nI N) = (lp_X12_schedule_68_43 n I2 A2 J2 t2 (nI d) (nI N) n I2 BR 0 0).2.1 := by
    unfold qAw43_X12_schedule_68
    rw [← hBR]
  have e3b : q3w43_X12_schedule_68 n I2 A2 J2 t2 (nI d) (nI N) = (lp_X12_schedule_68_43 n I2 A2 J2 t2 (nI d) (nI N) n I2 BR 0 0).2.2.1 := by
    unfold q3w43_X12_schedule_68
    rw [← hBR]
  refine ⟨⟨L1, pbr, by rw [← hIR, ← hAR]; exact o1⟩, ⟨w1, by rw [← hBR]; exact o2⟩, by rw [e3w, e3b, o4], ?_⟩
  have c53 : ∀ k, (lp_X11_schedule_0_tTx_44 n I A J t (nI d) (nI N) n IR AR 0 0).1 53 k = IR 53 k := fun k => fr_lp_X11_schedule_0_tTx_44_c0 (by simp) _ _ _ _ _
  have r64 : qI130_X12_schedule_68 n I2 A2 J2 t2 (nI d) (nI N) 68 64 = 1 ∧ qI130_X12_schedule_68 n I2 A2 J2 t2 (nI d) (nI N) 68 65 = nI P := by
    unfold qI130_X12_schedule_68 qI122_X12_schedule_68
    rw [cw_u_k _ _ (by decide), cw_u_s, cw_u_s, cw_u_k _ _ (by decide)]
    refine ⟨rfl, ?_⟩
    rw [fr_qIw43_X12_schedule_68 (by decide)]; exact p2
  rw [eIw, eAw, eBw]
  refine Or.inr ⟨by rw [c53]; exact i7.1, r64.1, P, P10, by rw [c53]; exact i7.2, r64.2, fun k hk => ?_⟩
  obtain ⟨y1, y2⟩ := o3.1 k hk
  exact ⟨y1, fun p hp => y2 p hp⟩

set_option maxHeartbeats 4000000 in
theorem hr_loop60 {n : Nat} {Ic Ac I0 A0 Ir Br : Nat → Nat → Int32} {J J2 J0 : Nat → Nat → Int64} {t t2 t0 : Bool × Bool} {N m M P d : Nat} (hn : 500 ≤ n) (M6 : M ≤ 6) (P10 : P ≤ 10) (hdd : d < 3600) :
    ∀ (j h f f2 : Nat) (I A I2 B : Nat → Nat → Int32) (v : Int32), h + j = 24 → j < f → j < f2 → sc_ctx 60 n I0 A0 J0 t0 N m I A I2 B → I 9 2 = nI M → I2 68 40 = nI M → I 12 3 = nI P → I2 68 43 = nI P → hr_in P h A B →
    lb_X11_schedule_0_tFx_44 n Ic Ac J t (nI d) (nI N) f I A v (nI h) ∧ lb_X12_schedule_68_43 n Ir Br J2 t2 (nI d) (nI N) f2 I2 B v (nI h) ∧ hr_in P 24 (lp_X11_schedule_0_tFx_44 n Ic Ac J t (nI d) (nI N) f I A v (nI h)).2.1 (lp_X12_schedule_68_43 n Ir Br J2 t2 (nI d) (nI N) f2 I2 B v (nI h)).2.1 ∧ (lp_X11_schedule_0_tFx_44 n Ic Ac J t (nI d) (nI N) f I A v (nI h)).2.2.1 = (lp_X12_schedule_68_43 n Ir Br J2 t2 (nI d) (nI N) f2 I2 B v (nI h)).2.2.1 := by
  intro j
  induction j with
  | zero =>
    intro h f f2 I A I2 B v hk hf hf2 hctx h9 h40 h12 h43 hI
    obtain ⟨f, rfl⟩ : ∃ x, f = x + 1 := ⟨f - 1, by omega⟩
    obtain ⟨f2, rfl⟩ : ∃ x, f2 = x + 1 := ⟨f2 - 1, by omega⟩
    have : h = 24 := by omega
    subst this
    have c : 24 ≤ nI 24 := by decide
    unfold lb_X11_schedule_0_tFx_44 lb_X12_schedule_68_43 lp_X11_schedule_0_tFx_44 lp_X12_schedule_68_43
    rw [if_pos c, if_pos c]
    exact ⟨fun z => absurd c z, fun z => absurd c z, hI, rfl⟩
  | succ j ih =>
    intro h f f2 I A I2 B v hk hf hf2 hctx h9 h40 h12 h43 hI
    obtain ⟨f, rfl⟩ : ∃ x, f = x + 1 := ⟨f - 1, by omega⟩
    obtain ⟨f2, rfl⟩ : ∃ x, f2 = x + 1 := ⟨f2 - 1, by omega⟩
    have c : ¬ 24 ≤ nI h := nI_ge (b := 24) (by omega) (by omega)
    obtain ⟨Io, Ao, As, Ae, Ri, Rb, Rl, w1, w2, w3, w4, w5, w6, w7, p1, p2, p3, p4, p5, q1, q2, q3, q4, q5, q6, q7, q8⟩ := hr_hour60 (n := n) (Ir := Ir) (Br := Br) (J := J) (J2 := J2) (t := t) (t2 := t2) (v3 := v) hn M6 P10 hdd (h := h) (by omega) hctx h9 h40 h12 h43 hI
    have ch : (nI h).toNatClampNeg = h := nI_clamp (by omega)
    have e91 : q91_X11_schedule_0_tFx n Ic Ac J t (nI d) (nI N) I A v (nI h) = nI (h + 1) := nI_1 h
    have e114 : q114_X12_schedule_68 n Ir Br J2 t2 (nI d) (nI N) I2 B v (nI h) = nI (h + 1) := nI_1 h
    have e90 : q90_X11_schedule_0_tFx n Ic Ac J t (nI d) (nI N) I A v (nI h) = v + Ae 59 h := by
      unfold q90_X11_schedule_0_tFx px_X5_listenersIn_53
      rw [← w1, ← w2, q2, ← w3, ← w4, ch]
    have e113 : q113_X12_schedule_68 n Ir Br J2 t2 (nI d) (nI N) I2 B v (nI h) = v + Ae 59 h := by
      unfold q113_X12_schedule_68
      rw [← w5, ← w6, ← w7, ch, q7]
    obtain ⟨i1, i2, i3, i4⟩ := ih (h + 1) f f2 Io Ae Ri Rl (v + Ae 59 h) (by omega) (by omega) (by omega) q1 q2 q3 q4 q5 q6
    have vh : vp_in (nI h) 24 := vp_in_nI (by omega) (by decide)
    unfold lb_X11_schedule_0_tFx_44 lb_X12_schedule_68_43 lp_X11_schedule_0_tFx_44 lp_X12_schedule_68_43
    rw [if_neg c, if_neg c, e90, e91, e113, e114, ← w1, ← w2, q2, ← w3, ← w4, ← w5, ← w6, ← w7]
    exact ⟨fun _ => ⟨p1, p2, p3, vh, i1⟩, fun _ => ⟨p4, p5, vh, i2⟩, i3, i4⟩
theorem hr_was060 {n : Nat} {I B : Nat → Nat → Int32} {J : Nat → Nat → Int64} {t : Bool × Bool} {x1 x2 : Int32} : ∀ (j k f : Nat) (C : Nat → Nat → Int32), k + j = 6 → j < f → lb_X12_schedule_68_19 n I B J t x1 x2 f C (nI k) ∧ ∀ m, (lp_X12_schedule_68_19 n I B J t x1 x2 f C (nI k)).1 117 m = if k ≤ m ∧ m < 6 then -1 else C 117 m := by
  intro j
  induction j with
  | zero =>
    intro k f C hk hf
    obtain ⟨f, rfl⟩ : ∃ x, f = x + 1 := ⟨f - 1, by omega⟩
    have c : 6 ≤ nI k := nI_le (a := 6) (by omega) (by omega)
    unfold lb_X12_schedule_68_19 lp_X12_schedule_68_19
    rw [if_pos c]
    refine ⟨fun z => absurd c z, fun m => ?_⟩
    rw [if_neg (by omega)]
  | succ j ih =>
    intro k f C hk hf
    obtain ⟨f, rfl⟩ : ∃ x, f = x + 1 := ⟨f - 1, by omega⟩
    have c : ¬ 6 ≤ nI k := nI_ge (b := 6) (by omega) (by omega)
    have e31 : qA31_X12_schedule_68 n I B J t x1 x2 C (nI k) = cw_u C 117 k (-1) := by
      unfold qA31_X12_schedule_68
      rw [nI_clamp (by omega)]
    have e32 : q32_X12_schedule_68 n I B J t x1 x2 C (nI k) = nI (k + 1) := nI_1 k
    obtain ⟨i1, i2⟩ := ih (k + 1) f (cw_u C 117 k (-1)) (by omega) (by omega)
    unfold lb_X12_schedule_68_19 lp_X12_schedule_68_19
    rw [if_neg c, e31, e32]
    refine ⟨fun _ => ⟨vp_in_nI (by omega) (by decide), i1⟩, fun m => ?_⟩
    rw [i2 m]
    by_cases q : m = k
    · subst q
      rw [cw_u_s, if_neg (by omega), if_pos (by omega)]
    · rw [cw_u_k _ _ q]
      by_cases q2 : k + 1 ≤ m ∧ m < 6
      · rw [if_pos q2, if_pos (by omega)]
      · rw [if_neg q2, if_neg (by omega)]
set_option maxHeartbeats 4000000 in
theorem sc_schedule60 {n : Nat} {I A I2 A2 : Nat → Nat → Int32} {J J2 : Nat → Nat → Int64} {t t2 : Bool × Bool} {x1 x2 : Int32} (hn : 500 ≤ n) (hl : rl_lands I A I2 A2) (hs : rl_sites I A I2 A2) (hms : rl_masts I A I2 A2) (hpr : rl_progs I A I2 A2) (hh : rl_sheets A A2) (hf : rl_facts I A I2 A2) (hT : rl_tr 60 I A I2 A2) (hpl : rl_plan I A I2 A2) :
    pb_X11_schedule_0_tFx n I A J t x1 x2 ∧ pb_X12_schedule_68 n I2 A2 J2 t2 x1 x2 ∧ px_X12_schedule_68 n I2 A2 J2 t2 x1 x2 = px_X11_schedule_0_tFx n I A J t x1 x2 ∧ rl_plan (pI_X11_schedule_0_tFx n I A J t x1 x2) (pA_X11_schedule_0_tFx n I A J t x1 x2) (pI_X12_schedule_68 n I2 A2 J2 t2 x1 x2) (pA_X12_schedule_68 n I2 A2 J2 t2 x1 x2) := by
  obtain ⟨⟨M, M6, m1, m2⟩, -⟩ := id hms
  obtain ⟨⟨P, P10, p1, p2⟩, -⟩ := id hpr
  obtain ⟨⟨mm, hmm, f1, f2, -⟩, hf2⟩ := id hf
  unfold pb_X11_schedule_0_tFx pb_X12_schedule_68 px_X12_schedule_68 px_X11_schedule_0_tFx pI_X11_schedule_0_tFx pA_X11_schedule_0_tFx pI_X12_schedule_68 pA_X12_schedule_68
  rw [← eq_isDay (n := n) (I := I) (A := A) (J := J) (t := (false, t.2)), ← eq_known (n := n) (A := A) (J := J) (t := (false, t.2)) (f1.trans f2.symm)]
  by_cases c1 : px_X11_isDay n I A J (false, t.2) x1 = 0
  · simp only [c1, if_true, not_true_eq_false, false_implies, true_and]; exact hpl
  by_cases c2 : px_X1_canKnow_19 n I A J (false, t.2) x2 = 0
  · simp only [c1, c2, if_true, if_false, not_true_eq_false, false_implies, implies_true, true_and]; exact hpl
  obtain ⟨d, hd, rfl⟩ := day_of c1
  obtain ⟨N, hN, rfl⟩ := known_of f1 (by omega) c2
  simp only [c1, c2, if_false, not_false_eq_true, forall_const]
  have z0 : nI 0 = 0 := nI_0
  obtain ⟨L1, L2, -⟩ := lr_learn (n := n) (J := J) (t := (false, t.2)) (J2 := J2) (t2 := t2) (by omega) hN hmm f1 hl hs hh hf2
  obtain ⟨AL, hAL⟩ : ∃ AL, AL = pA_X11_learn_0 n I A J (false, t.2) (nI N) := ⟨_, rfl⟩
  have kAL : ∀ c, c ≠ 30 → c ≠ 31 → AL c = A c := fun c q1 q2 => by rw [hAL]; exact L2 c q1 q2
  -- the renewed plan
  have R54 := fl_54 (n := n) (I := qI7_X5_renew_53 n I AL J (false, t.2) (nI P)) (A := AL) (J := J) (t := (false, t.2)) (x := -1) (by omega)
  have R55 := fl_55 (n := n) (I := qI7_X5_renew_53 n I AL J (false, t.2) (nI P)) (A := pA_J7_fill_53178_54 n (qI7_X5_renew_53 n I AL J (false, t.2) (nI P)) AL J (false, t.2) (-1)) (J := J) (t := (false, t.2)) (x := -1) (by omega)
  have R56 := fl_56 (n := n) (I := qI7_X5_renew_53 n I AL J (false, t.2) (nI P)) (A := pA_J7_fill_53178_55 n (qI7_X5_renew_53 n I AL J (false, t.2) (nI P)) (pA_J7_fill_53178_54 n (qI7_X5_renew_53 n I AL J (false, t.2) (nI P)) AL J (false, t.2) (-1)) J (false, t.2) (-1)) (J := J) (t := (false, t.2)) (x := -1) (by omega)
  have R57 := fl_57 (n := n) (I := qI7_X5_renew_53 n I AL J (false, t.2) (nI P)) (A := pA_J7_fill_53178_56 n (qI7_X5_renew_53 n I AL J (false, t.2) (nI P)) (pA_J7_fill_53178_55 n (qI7_X5_renew_53 n I AL J (false, t.2) (nI P)) (pA_J7_fill_53178_54 n (qI7_X5_renew_53 n I AL J (false, t.2) (nI P)) AL J (false, t.2) (-1)) J (false, t.2) (-1)) J (false, t.2) (-1)) (J := J) (t := (false, t.2)) (x := 0) (by omega)
  have R58 := fl_58 (n := n) (I := qI7_X5_renew_53 n I AL J (false, t.2) (nI P)) (A := pA_J7_fill_53178_57 n (qI7_X5_renew_53 n I AL J (false, t.2) (nI P)) (pA_J7_fill_53178_56 n (qI7_X5_renew_53 n I AL J (false, t.2) (nI P)) (pA_J7_fill_53178_55 n (qI7_X5_renew_53 n I AL J (false, t.2) (nI P)) (pA_J7_fill_53178_54 n (qI7_X5_renew_53 n I AL J (false, t.2) (nI P)) AL J (false, t.2) (-1)) J (false, t.2) (-1)) J (false, t.2) (-1)) J (false, t.2) 0) (J := J) (t := (false, t.2)) (x := -1) (by omega)
  have R59 := fl_59 (n := n) (I := qI7_X5_renew_53 n I AL J (false, t.2) (nI P)) (A := pA_J7_fill_53178_58 n (qI7_X5_renew_53 n I AL J (false, t.2) (nI P)) (pA_J7_fill_53178_57 n (qI7_X5_renew_53 n I AL J (false, t.2) (nI P)) (pA_J7_fill_53178_56 n (qI7_X5_renew_53 n I AL J (false, t.2) (nI P)) (pA_J7_fill_53178_55 n (qI7_X5_renew_53 n I AL J (false, t.2) (nI P)) (pA_J7_fill_53178_54 n (qI7_X5_renew_53 n I AL J (false, t.2) (nI P)) AL J (false, t.2) (-1)) J (false, t.2) (-1)) J (false, t.2) (-1)) J (false, t.2) 0) J (false, t.2) (-1)) (J := J) (t := (false, t.2)) (x := 0) (by omega)
  have pbr : pb_X5_renew_53 n I AL J (false, t.2) (nI P) := ⟨R54.1, R55.1, R56.1, R57.1, R58.1, R59.1⟩
  obtain ⟨AR, hAR⟩ : ∃ AR, AR = pA_X5_renew_53 n I AL J (false, t.2) (nI P) := ⟨_, rfl⟩
  obtain ⟨IR, hIR⟩ : ∃ IR, IR = pI_X5_renew_53 n I AL J (false, t.2) (nI P) := ⟨_, rfl⟩
  have kAR : ∀ c, (c < 54 ∨ 60 ≤ c) → AR c = AL c := fun c hc => by rw [hAR]; exact fr_pA_X5_renew_53 (by simp; omega)
  have kIR : ∀ c k, c ≠ 53 → IR c k = I c k := fun c k hc => by rw [hIR]; exact fr_pI_X5_renew_53 (by simp [hc])
  have a59 : ∀ x, x < 24 → AR 59 x = 0 := fun x hx => by rw [hAR]; exact R59.2 x hx
  have a58 : ∀ x, x < 144 → AR 58 x = -1 := fun x hx => by
    rw [hAR]
    unfold pA_X5_renew_53
    rw [fr_pA_J7_fill_53178_59 (by decide)]
    exact R58.2 x hx
  have a57 : ∀ x, x < 240 → AR 57 x = 0 := fun x hx => by
    rw [hAR]
    unfold pA_X5_renew_53
    rw [fr_pA_J7_fill_53178_59 (by decide), fr_pA_J7_fill_53178_58 (by decide)]
    exact R57.2 x hx
  have a56 : ∀ x, x < 240 → AR 56 x = -1 := fun x hx => by
    rw [hAR]
    unfold pA_X5_renew_53
    rw [fr_pA_J7_fill_53178_59 (by decide), fr_pA_J7_fill_53178_58 (by decide), fr_pA_J7_fill_53178_57 (by decide)]
    exact R56.2 x hx
  have a55 : ∀ x, x < 240 → AR 55 x = -1 := fun x hx => by
    rw [hAR]
    unfold pA_X5_renew_53
    rw [fr_pA_J7_fill_53178_59 (by decide), fr_pA_J7_fill_53178_58 (by decide), fr_pA_J7_fill_53178_57 (by decide), fr_pA_J7_fill_53178_56 (by decide)]
    exact R55.2 x hx
  have a54 : ∀ x, x < 240 → AR 54 x = -1 := fun x hx => by
    rw [hAR]
    unfold pA_X5_renew_53
    rw [fr_pA_J7_fill_53178_59 (by decide), fr_pA_J7_fill_53178_58 (by decide), fr_pA_J7_fill_53178_57 (by decide), fr_pA_J7_fill_53178_56 (by decide), fr_pA_J7_fill_53178_55 (by decide)]
    exact R54.2 x hx
  have i7 : IR 53 7 = 1 ∧ IR 53 6 = nI P := by
    rw [hIR]
    unfold pI_X5_renew_53 qI7_X5_renew_53 qI2_X5_renew_53
    rw [cw_u_k _ _ (by decide), cw_u_s, cw_u_s]
    exact ⟨rfl, rfl⟩
  -- the reference's aims ahead of the first hour
  obtain ⟨w1, w2⟩ := hr_was060 (n := n) (I := I2) (B := A2) (J := J2) (t := t2) (x1 := nI d) (x2 := nI N) 6 0 n A2 (by omega) (by omega)
  rw [z0] at w1 w2
  obtain ⟨BR, hBR⟩ : ∃ BR, BR = qAw19_X12_schedule_68 n I2 A2 J2 t2 (nI d) (nI N) := ⟨_, rfl⟩
  have kBR : ∀ c, c ≠ 117 → BR c = A2 c := fun c hc => by rw [hBR]; exact fr_qAw19_X12_schedule_68 (by simp [hc])
  have b117 : ∀ i, i < 6 → BR 117 i = -1 := fun i hi => by
    have := w2 i
    rw [if_pos (by omega)] at this
    rw [hBR]; exact this
  have e30 : AR 30 = pA_X11_learn_0 n I A J (false, t.2) (nI N) 30 := by rw [kAR 30 (by omega), hAL]
  have e31 : AR 31 = pA_X11_learn_0 n I A J (false, t.2) (nI N) 31 := by rw [kAR 31 (by omega), hAL]
  have kR2 : ∀ c, (c < 30 ∨ 32 ≤ c ∧ c < 54 ∨ 60 ≤ c) → AR c = A c := fun c hc => by rw [kAR c (by omega)]; exact kAL c (by omega) (by omega)
  have hctx : sc_ctx 60 n I A J (false, t.2) N mm IR AR I2 BR := by
    refine ⟨⟨rc_lands hl (kIR _ _ (by decide)) rfl (kR2 _ (by omega)) (kR2 _ (by omega)) (kR2 _ (by omega)) (kBR _ (by decide)) (kBR _ (by decide)) (kBR _ (by decide)), rc_sites hs (kIR _ _ (by decide)) rfl (kR2 _ (by omega)) (kR2 _ (by omega)) (kBR _ (by decide)) (kBR _ (by decide)), rc_masts hms (kIR _ _ (by decide)) rfl (kR2 _ (by omega)) (kR2 _ (by omega)) (kBR _ (by decide)) (kBR _ (by decide)), rc_progs hpr (kIR _ _ (by decide)) rfl (kR2 _ (by omega)) (kR2 _ (by omega)) (kR2 _ (by omega)) (kBR _ (by decide)) (kBR _ (by decide)) (kBR _ (by decide)), rc_sheets hh (kR2 _ (by omega)) (kR2 _ (by omega)) (kBR _ (by decide)) (kBR _ (by decide)), rc_facts hf (kIR _ _ (by decide)) rfl (kR2 _ (by omega)) (kR2 _ (by omega)) (kR2 _ (by omega)) (kR2 _ (by omega)) (kR2 _ (by omega)) (kR2 _ (by omega)) (kR2 _ (by omega)) (kR2 _ (by omega)) (kR2 _ (by omega)) (kBR _ (by decide)) (kBR _ (by decide)) (kBR _ (by decide)) (kBR _ (by decide)) (kBR _ (by decide)) (kBR _ (by decide)) (kBR _ (by decide)) (kBR _ (by decide)), rc_tr (c := 60) hT (kIR _ _ (by decide)) rfl (kR2 _ (by omega)) (kR2 _ (by omega)) (kR2 _ (by omega)) (kR2 _ (by omega)) (kR2 _ (by omega)) (kR2 _ (by omega)) (kBR _ (by decide)) (kBR _ (by decide)) (kBR _ (by decide)) (kBR _ (by decide)) (kBR _ (by decide)) (kBR _ (by decide)) (kBR _ (by decide)) (kBR _ (by decide)) (kBR _ (by decide)) (kBR _ (by decide)) (kBR _ (by decide))⟩, rc_lands hl rfl rfl rfl rfl rfl (kBR _ (by decide)) (kBR _ (by decide)) (kBR _ (by decide)), rc_sites hs rfl rfl rfl rfl (kBR _ (by decide)) (kBR _ (by decide)), rc_sheets hh rfl rfl (kBR _ (by decide)) (kBR _ (by decide)), fun f hf3 => ?_, e30, e31, by rw [kIR 19 9 (by decide)]; exact f1, f1, hN, hmm⟩
    have := hf2 f hf3
    unfold rl_fact at this ⊢
    rw [kBR 99 (by decide), kBR 100 (by decide), kBR 101 (by decide), kBR 102 (by decide), kBR 103 (by decide), kBR 104 (by decide), kBR 105 (by decide), kBR 106 (by decide)]
    exact this
  have hI0 : hr_in P 0 AR BR := ⟨fun k hk => absurd hk (by omega), fun k _ hk => ⟨a59 k hk, fun q hq => ⟨a54 _ (by omega), a55 _ (by omega), a56 _ (by omega), a57 _ (by omega)⟩, fun i hi => a58 _ (by omega)⟩, fun i hi => by rw [if_pos rfl]; exact b117 i hi⟩
  obtain ⟨o1, o2, o3, o4⟩ := hr_loop60 (n := n) (Ic := I) (Ac := A) (Ir := I2) (Br := A2) (J := J) (J2 := J2) (t := t) (t2 := t2) (d := d) hn M6 P10 hd 24 0 n n IR AR I2 BR 0 (by omega) (by omega) (by omega) hctx (by rw [kIR 9 2 (by decide)]; exact m1) m2 (by rw [kIR 12 3 (by decide)]; exact p1) p2 hI0
  rw [z0] at o1 o2 o3 o4
  rw [p1, ← hAL]
  have eIw : qIw44_X11_schedule_0_tFx n I A J t (nI d) (nI N) = (lp_X11_schedule_0_tFx_44 n I A J t (nI d) (nI N) n IR AR 0 0).1 := by
    unfold qIw44_X11_schedule_0_tFx
    rw [p1, ← hAL, ← hIR, ← hAR]
  have eAw : qAw44_X11_schedule_0_tFx n I A J t (nI d) (nI N) = (lp_X11_schedule_0_tFx_44 n I A J t (nI d) (nI N) n IR AR 0 0).2.1 := by
    unfold qAw44_X11_schedule_0_tFx
    rw [p1, ← hAL, ← hIR, ← hAR]
  have e3w : q3w44_X11_schedule_0_tFx n I A J t (nI d) (nI N) = (lp_X11_schedule_0_tFx_44 n I A J t (nI d) (nI N) n IR AR 0 0).2.2.1 := by
    unfold q3w44_X11_schedule_0_tFx
    rw [p1, ← hAL, ← hIR, ← hAR]
  have eBw : qAw43_X12_schedule_68 n I2 A2 J2 t2 (nI d) (nI N) = (lp_X12_schedule_68_43 n I2 A2 J2 t2 (nI d) (nI N) n I2 BR 0 0).2.1 := by
    unfold qAw43_X12_schedule_68
    rw [← hBR]
  have e3b : q3w43_X12_schedule_68 n I2 A2 J2 t2 (nI d) (nI N) = (lp_X12_schedule_68_43 n I2 A2 J2 t2 (nI d) (nI N) n I2 BR 0 0).2.2.1 := by
    unfold q3w43_X12_schedule_68
    rw [← hBR]
  refine ⟨⟨L1, pbr, by rw [← hIR, ← hAR]; exact o1⟩, ⟨w1, by rw [← hBR]; exact o2⟩, by rw [e3w, e3b, o4], ?_⟩
  have c53 : ∀ k, (lp_X11_schedule_0_tFx_44 n I A J t (nI d) (nI N) n IR AR 0 0).1 53 k = IR 53 k := fun k => fr_lp_X11_schedule_0_tFx_44_c0 (by simp) _ _ _ _ _
  have r64 : qI130_X12_schedule_68 n I2 A2 J2 t2 (nI d) (nI N) 68 64 = 1 ∧ qI130_X12_schedule_68 n I2 A2 J2 t2 (nI d) (nI N) 68 65 = nI P := by
    unfold qI130_X12_schedule_68 qI122_X12_schedule_68
    rw [cw_u_k _ _ (by decide), cw_u_s, cw_u_s, cw_u_k _ _ (by decide)]
    refine ⟨rfl, ?_⟩
    rw [fr_qIw43_X12_schedule_68 (by decide)]; exact p2
  rw [eIw, eAw, eBw]
  refine Or.inr ⟨by rw [c53]; exact i7.1, r64.1, P, P10, by rw [c53]; exact i7.2, r64.2, fun k hk => ?_⟩
  obtain ⟨y1, y2⟩ := o3.1 k hk
  exact ⟨y1, fun p hp => y2 p hp⟩
